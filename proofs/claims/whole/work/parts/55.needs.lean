/-! the model: what a walk needs, ways, guards -/
theorem am_shl_b {k : Int} (h : 0 ≤ k ∧ k ≤ 4) : 1 ≤ am_ishl 1 k ∧ am_ishl 1 k ≤ 16 := by
  have h2 : k = 0 ∨ k = 1 ∨ k = 2 ∨ k = 3 ∨ k = 4 := by omega
  rcases h2 with h | h | h | h | h <;> (subst h; decide)
def MdL (c : am_F) : Prop := ∀ k : Int, 0 ≤ k → k < c 4 3 → (0 ≤ c (96 + k.toNat) 0 ∧ c (96 + k.toNat) 0 ≤ c (96 + k.toNat) 2 ∧ c (96 + k.toNat) 2 < c 4 0) ∧ (0 ≤ c (96 + k.toNat) 1 ∧ c (96 + k.toNat) 1 ≤ c (96 + k.toNat) 3 ∧ c (96 + k.toNat) 3 < c 4 1) ∧ (0 ≤ c (96 + k.toNat) 4 ∧ c (96 + k.toNat) 4 ≤ 9) ∧ 0 ≤ c (96 + k.toNat) 5 ∧ c (96 + k.toNat) 5 ≤ 9
def g_k_buy_68 (c : am_F) (wk : Int) (nd : Int) (s : Int) (cost : Int) : Int := (let n79 : Int := (k_placeOf c wk s); (let t87 : Int := (if n79 = (-1) then (-1) else (k_lotOf c (n79 % 9) (n79 / 9))); (let t115 : Int := (if t87 = (-1) then 0 else (am_w32 (nd * (c (96 + t87.toNat) 4)))); am_w32 (cost + t115))))
theorem L_k_buy_68 {S : am_S} {d u : Nat} {Q : AO → AH → Prop} {w : AH} {b : Nat} (hl : b + 735 ≤ w.length) (c : am_F) (q : am_F) (wk : Int) (what : Int) (nd : Int) (hV : MdV c) (hWd : MdWd c) (hS9 : MdS c) (hLp : MdLp c) (hDu : MdDu c) (hK9 : MdK c) (hPl : MdPl c) (hWt : MdWt c) (hwk : 0 ≤ wk ∧ wk < c 4 4) (hd : 5 ≤ d) (B9 : Int) (hB : B9 = 40) : ∀ (n : Nat) (s : Int) (cost : Int), s + n = B9 → 0 ≤ s → (∀ (cost' : Int), cost' = am_fold (g_k_buy_68 c wk nd) s n cost → am_T S zX12_buy d u Q 142 [none, none, some (aI what), some (aI nd), some (aI cost'), none, none, none] [] (mdW w b c q)) → am_T S zX12_buy d u Q 68 [some (aR b), some (aI wk), some (aI what), some (aI nd), some (aI cost), some (aI s), none, none] [] (mdW w b c q) := by
  intro n
  induction n with
  | zero =>
    intro s cost hi9 h0i k9
    have e9 : s = B9 := by omega
    subst e9
    obtain ⟨vl0, vu0⟩ := MdV_0 hV
    obtain ⟨vl1, vu1⟩ := MdV_1 hV
    obtain ⟨vl3, vu3⟩ := MdV_3 hV
    obtain ⟨vl4, vu4⟩ := MdV_4 hV
    refine T_iload (am_dec tX12_buy_1 0 rfl) rfl ?_
    refine T_bipush 40 (am_dec tX12_buy_1 1 rfl) rfl ⟨by decide, by decide⟩ ?_
    refine T_icmp_ge 142 (am_dec tX12_buy_1 2 rfl) rfl (fun h72 => ?_) (fun h72 => by exfalso; omega)
    refine T_weak (ls' := [none, none, some (aI what), some (aI nd), some (aI cost), none, none, none]) (am_sub_n (am_sub_n (am_sub_s (am_sub_s (am_sub_s (am_sub_n (am_sub_n (am_sub_n am_sub_nil)))))))) ?_
    exact k9 cost rfl
  | succ n ih =>
    intro s cost hi9 h0i k9
    obtain ⟨vl0, vu0⟩ := MdV_0 hV
    obtain ⟨vl1, vu1⟩ := MdV_1 hV
    obtain ⟨vl3, vu3⟩ := MdV_3 hV
    obtain ⟨vl4, vu4⟩ := MdV_4 hV
    refine T_iload (am_dec tX12_buy_1 0 rfl) rfl ?_
    refine T_bipush 40 (am_dec tX12_buy_1 1 rfl) rfl ⟨by decide, by decide⟩ ?_
    refine T_icmp_ge 142 (am_dec tX12_buy_1 2 rfl) rfl (fun h72 => by exfalso; omega) (fun h72 => ?_)
    refine T_aload_n (am_dec tX12_buy_1 3 rfl) rfl ?_
    refine T_iload_n (am_dec tX12_buy_1 4 rfl) rfl ?_
    refine T_iload (am_dec tX12_buy_1 5 rfl) rfl ?_
    refine T_callV (as := [aI wk, aI s]) rfl (am_dec tX12_buy_1 6 rfl) lkX12_368 (md_obj hl) rfl rfl (Nat.le_of_ble_eq_true rfl) (by omega) (mk_placeOf (d := d - 1) hl wk s  hV hK9 (by omega) (by omega) (by omega)) (fun _ => ?_)
    refine T_nm (fun n79 hn79 => ?_)
    have hs79 := hPl wk s (by omega) (by omega)
    rw [← hn79] at hs79
    refine T_istore (ls' := [some (aR b), some (aI wk), some (aI what), some (aI nd), some (aI cost), some (aI s), some (aI n79), none]) (am_dec tX12_buy_1 7 rfl) (by decide) rfl ?_
    refine T_iload (am_dec tX12_buy_1 8 rfl) rfl ?_
    refine T_iconst (-1) (am_dec tX12_buy_1 9 rfl) rfl ⟨by decide, by decide⟩ ?_
    have lb87 := k_lotOf_b hV (n79 % 9) (n79 / 9)
    have K87 : ∀ (t87 : Int), t87 = (if n79 = (-1) then (-1) else (k_lotOf c (n79 % 9) (n79 / 9))) →  am_T S zX12_buy d u Q 108 [some (aR b), some (aI wk), some (aI what), some (aI nd), some (aI cost), some (aI s), none, none] [aI t87] (mdW w b c q) := by
      intro t87 ht87
      refine T_istore (ls' := [some (aR b), some (aI wk), some (aI what), some (aI nd), some (aI cost), some (aI s), none, some (aI t87)]) (am_dec tX12_buy_1 21 rfl) (by decide) rfl ?_
      refine T_iload (am_dec tX12_buy_1 22 rfl) rfl ?_
      refine T_iload (am_dec tX12_buy_1 23 rfl) rfl ?_
      refine T_iconst (-1) (am_dec tX12_buy_1 24 rfl) rfl ⟨by decide, by decide⟩ ?_
      have K115 : ∀ (t115 : Int), t115 = (if t87 = (-1) then 0 else (am_w32 (nd * (c (96 + t87.toNat) 4)))) →  am_T S zX12_buy d u Q 133 [some (aR b), some (aI wk), some (aI what), some (aI nd), none, some (aI s), none, none] [aI t115, aI cost] (mdW w b c q) := by
        intro t115 ht115
        refine T_iaddW (am_w32 (cost + t115)) (am_dec tX12_buy_1 36 rfl) (am_w32e _).symm (am_w32r _) ?_
        refine T_nm (fun cost_134 hcost_134 => ?_)
        refine T_istore (ls' := [some (aR b), some (aI wk), some (aI what), some (aI nd), some (aI cost_134), some (aI s), none, none]) (am_dec tX12_buy_1 37 rfl) (by decide) rfl ?_
        refine T_iinc (ls' := [some (aR b), some (aI wk), some (aI what), some (aI nd), some (aI cost_134), some (aI (s + 1)), none, none]) (s + 1) (am_dec tX12_buy_1 38 rfl) rfl rfl ⟨by omega, by omega⟩ (by decide) rfl ?_
        refine T_goto 68 (am_dec tX12_buy_1 39 rfl) rfl ?_
        have e9 : (g_k_buy_68 c wk nd) s cost = cost_134 := (by have s9 := hn79.symm; subst s9; have s9 := ht87.symm; subst s9; have s9 := ht115.symm; subst s9; have s9 := hcost_134.symm; subst s9; exact rfl)
        simp only [am_fold_s, e9] at k9
        exact ih (s + 1) cost_134 (by omega) (by omega) k9
      refine T_icmp_ne 122 (am_dec tX12_buy_1 25 rfl) rfl (fun h115 => ?_) (fun h115 => ?_)
      · refine T_iload_n (am_dec tX12_buy_1 28 rfl) rfl ?_
        refine T_aload_n (am_dec tX12_buy_1 29 rfl) rfl ?_
        refine T_getfield 11 23 (am_dec tX12_buy_1 30 rfl) flX12_61_11 (md_obj hl) rfl ?_
        refine T_iload (am_dec tX12_buy_1 31 rfl) rfl ?_
        refine T_aaloadR (r := b + (96 + t87.toNat)) (am_dec tX12_buy_1 32 rfl) (by decide) (mh_lot hl) (by omega) (by omega) (if_pos (by omega)) ?_
        refine T_iconst 4 (am_dec tX12_buy_1 33 rfl) rfl ⟨by decide, by decide⟩ ?_
        refine T_ialoadE (x := c (96 + t87.toNat) 4) (am_dec tX12_buy_1 34 rfl) (mr_lot hl (i := t87) (by omega) (by omega)) (by omega) (by omega) rfl ?_
        refine T_imulW (am_w32 (nd * (c (96 + t87.toNat) 4))) (am_dec tX12_buy_1 35 rfl) (am_w32e _).symm (am_w32r _) ?_
        refine T_weak (ls' := [some (aR b), some (aI wk), some (aI what), some (aI nd), none, some (aI s), none, none]) (am_sub_s (am_sub_s (am_sub_s (am_sub_s (am_sub_n (am_sub_s (am_sub_n (am_sub_n am_sub_nil)))))))) ?_
        exact K115 _ (if_neg h115).symm
      · refine T_iconst 0 (am_dec tX12_buy_1 26 rfl) rfl ⟨by decide, by decide⟩ ?_
        refine T_goto 133 (am_dec tX12_buy_1 27 rfl) rfl ?_
        refine T_weak (ls' := [some (aR b), some (aI wk), some (aI what), some (aI nd), none, some (aI s), none, none]) (am_sub_s (am_sub_s (am_sub_s (am_sub_s (am_sub_n (am_sub_s (am_sub_n (am_sub_n am_sub_nil)))))))) ?_
        exact K115 _ (if_pos h115).symm
    refine T_icmp_ne 94 (am_dec tX12_buy_1 10 rfl) rfl (fun h87 => ?_) (fun h87 => ?_)
    · refine T_aload_n (am_dec tX12_buy_1 13 rfl) rfl ?_
      refine T_iload (am_dec tX12_buy_1 14 rfl) rfl ?_
      refine T_bipush 9 (am_dec tX12_buy_1 15 rfl) rfl ⟨by decide, by decide⟩ ?_
      refine T_irem (n79 % 9) (am_dec tX12_buy_1 16 rfl) (by omega) (am_tm (by omega)) ⟨by omega, by omega⟩ ?_
      refine T_iload (am_dec tX12_buy_1 17 rfl) rfl ?_
      refine T_bipush 9 (am_dec tX12_buy_1 18 rfl) rfl ⟨by decide, by decide⟩ ?_
      refine T_idiv (n79 / 9) (am_dec tX12_buy_1 19 rfl) (by omega) (am_td (by omega)) ⟨by omega, by omega⟩ ?_
      refine T_callV (as := [aI (n79 % 9), aI (n79 / 9)]) rfl (am_dec tX12_buy_1 20 rfl) lkX12_324 (md_obj hl) rfl rfl (Nat.le_of_ble_eq_true rfl) (by omega) (mk_lotOf (d := d - 1) hl (n79 % 9) (n79 / 9)  hV (by omega)) (fun _ => ?_)
      refine T_nm (fun n105 hn105 => ?_)
      have hs105 := k_lotOf_b hV (n79 % 9) (n79 / 9)
      rw [← hn105] at hs105
      refine T_weak (ls' := [some (aR b), some (aI wk), some (aI what), some (aI nd), some (aI cost), some (aI s), none, none]) (am_sub_s (am_sub_s (am_sub_s (am_sub_s (am_sub_s (am_sub_s (am_sub_n (am_sub_n am_sub_nil)))))))) ?_
      exact K87 _ (by have s9 := hn105.symm; subst s9; exact (if_neg h87).symm)
    · refine T_iconst (-1) (am_dec tX12_buy_1 11 rfl) rfl ⟨by decide, by decide⟩ ?_
      refine T_goto 108 (am_dec tX12_buy_1 12 rfl) rfl ?_
      refine T_weak (ls' := [some (aR b), some (aI wk), some (aI what), some (aI nd), some (aI cost), some (aI s), none, none]) (am_sub_s (am_sub_s (am_sub_s (am_sub_s (am_sub_s (am_sub_s (am_sub_n (am_sub_n am_sub_nil)))))))) ?_
      exact K87 _ (if_pos h87).symm
def k_buy (c : am_F) (q : am_F) (wk : Int) (what : Int) : Int × am_F := (let z8 : Int := (k_isWalker c wk); (let t11 : Int := (if z8 = 0 then 1 else 0); (let q21 : am_F := (k_refuse (am_put q 0 0 0) t11 1 1); (let z21 : Int := (if t11 = 0 then 0 else 1); (if z21 = 0 then (let z31 : Int := (k_in what 0 1); (let t34 : Int := (if z31 = 0 then 1 else 0); (let q44 : am_F := (k_refuse q21 t34 2 2); (let z44 : Int := (if t34 = 0 then 0 else 1); (if z44 = 0 then (let q53 : am_F := k_goes c q44; (let nd_61 : Int := (k_needsAll c q53 wk); (let cost_68 : Int := am_fold (g_k_buy_68 c wk nd_61) 0 40 0; (let t143 : Int := (if what = 0 then nd_61 else cost_68); (t143, q53))))) else (0, q44)))))) else (0, q21))))))
theorem mk_buy {S : am_S} {d u : Nat} {w : AH} {b : Nat} (hl : b + 735 ≤ w.length) {c : am_F} {q : am_F} (wk : Int) (what : Int) (hV : MdV c) (hWd : MdWd c) (hS9 : MdS c) (hLp : MdLp c) (hDu : MdDu c) (hK9 : MdK c) (hPl : MdPl c) (hWt : MdWt c) (hd : 5 ≤ d) : am_Out S zX12_buy d u [aR b, aI wk, aI what] (mdW w b c q) (.inl (some (aI ((k_buy c q wk what).1)))) (mdW w b c ((k_buy c q wk what).2)) := by
  have key : ∀ Q : AO → AH → Prop, Q (.inl (some (aI ((k_buy c q wk what).1)))) (mdW w b c ((k_buy c q wk what).2)) → am_M S zX12_buy d u [aR b, aI wk, aI what] (mdW w b c q) Q := by
    intro Q hQ
    refine am_body rfl (by decide +kernel) rfl (am_cats_cons rfl ( am_cats_cons rfl ( am_cats_cons rfl (am_cats_nil)))) (Nat.le_of_ble_eq_true rfl) (?_ : am_T _ _ _ _ _ 0 [some (aR b), some (aI wk), some (aI what), none, none, none, none, none] [] (mdW w b c q))
    obtain ⟨vl0, vu0⟩ := MdV_0 hV
    obtain ⟨vl1, vu1⟩ := MdV_1 hV
    obtain ⟨vl3, vu3⟩ := MdV_3 hV
    obtain ⟨vl4, vu4⟩ := MdV_4 hV
    refine T_aload_n (am_dec tX12_buy_0 0 rfl) rfl ?_
    refine T_iconst 0 (am_dec tX12_buy_0 1 rfl) rfl ⟨by decide, by decide⟩ ?_
    refine T_putfield (fs' := mdO b (c 0) (am_up (q 0) 0 0)) 11 0 (am_dec tX12_buy_0 2 rfl) flX12_160_11 rfl rfl rfl trivial (md_obj hl) (Nat.le_of_ble_eq_true rfl) rfl ?_
    refine am_wE (w2 := mdW w b c (am_put q 0 0 0)) (md_fq) ?_
    refine T_aload_n (am_dec tX12_buy_0 3 rfl) rfl ?_
    refine T_aload_n (am_dec tX12_buy_0 4 rfl) rfl ?_
    refine T_iload_n (am_dec tX12_buy_0 5 rfl) rfl ?_
    refine T_callV (as := [aI wk]) rfl (am_dec tX12_buy_0 6 rfl) lkX12_365 (md_obj hl) rfl rfl (Nat.le_of_ble_eq_true rfl) (by omega) (mk_isWalker (d := d - 1) hl wk  hV (by omega)) (fun _ => ?_)
    refine T_nm (fun z8 hz8 => ?_)
    have hb8 := k_isWalker_b c wk
    rw [← hz8] at hb8
    have hs8 := k_isWalker_s c wk
    rw [← hz8] at hs8
    have K11 : ∀ (t11 : Int), t11 = (if z8 = 0 then 1 else 0) →  am_T S zX12_buy d u Q 19 [some (aR b), some (aI wk), some (aI what), none, none, none, none, none] [aI t11, aR b] (mdW w b c (am_put q 0 0 0)) := by
      intro t11 ht11
      have hbt11 : t11 = 0 ∨ t11 = 1 := by
        rw [ht11]
        try dsimp only
        repeat' split
        all_goals first | exact Or.inl rfl | exact Or.inr rfl | apply k_in_b | apply k_isDigit_b | apply k_isSmall_b | apply k_bad_b | apply k_isIn_b | apply k_isStep_b | apply k_isFirst_b | apply k_isLine_b | apply k_seesBy_b | apply k_isWalker_b | apply k_seesOne_b | apply k_badTwo_b | apply k_sees_b | omega
      refine T_iconst 1 (am_dec tX12_buy_0 11 rfl) rfl ⟨by decide, by decide⟩ ?_
      refine T_iconst 1 (am_dec tX12_buy_0 12 rfl) rfl ⟨by decide, by decide⟩ ?_
      refine T_callV (as := [aI t11, aI 1, aI 1]) rfl (am_dec tX12_buy_0 13 rfl) lkX12_275 (md_obj hl) rfl rfl (Nat.le_of_ble_eq_true rfl) (by omega) (mk_bad0 (d := d - 1) hl t11 1 1 (by omega) am_put_s (by omega)) (fun _ => ?_)
      refine T_nmH (W := fun x9 => mdW w b c x9) (v := (k_refuse (am_put q 0 0 0) t11 1 1)) (fun q21 hq21 => ?_)
      refine T_nm (fun z21 hz21 => ?_)
      have hq021 : t11 = 0 → q21 0 0 = 0 := fun h9 => by rw [hq21]; exact k_refuse_0 am_put_s h9
      refine T_if_ne 50 (am_dec tX12_buy_0 14 rfl) rfl (fun h24 => ?_) (fun h24 => ?_)
      · refine T_iconst 0 (am_dec tX12_buy_0 28 rfl) rfl ⟨by decide, by decide⟩ ?_
        exact T_ireturn (am_dec tX12_buy_0 29 rfl) rfl (am_tr (fun x9 => Q (.inl (some (aI (x9.1)))) (mdW w b c x9.2)) (y := (0, q21)) (show (k_buy c q wk what) = (0, q21) from (by have s9 := hz8.symm; subst s9; have s9 := ht11.symm; subst s9; have s9 := hq21.symm; subst s9; have s9 := hz21.symm; subst s9; exact (if_neg h24))) hQ)
      · refine T_aload_n (am_dec tX12_buy_0 15 rfl) rfl ?_
        refine T_iload_n (am_dec tX12_buy_0 16 rfl) rfl ?_
        refine T_iconst 0 (am_dec tX12_buy_0 17 rfl) rfl ⟨by decide, by decide⟩ ?_
        refine T_iconst 1 (am_dec tX12_buy_0 18 rfl) rfl ⟨by decide, by decide⟩ ?_
        refine T_callS (as := [aI what, aI 0, aI 1]) rfl (am_dec tX12_buy_0 19 rfl) lkX12_194 rfl (Nat.le_of_ble_eq_true rfl) (by omega) (mk_in (d := d - 1)  what 0 1   ) (fun _ => ?_)
        refine T_nm (fun z31 hz31 => ?_)
        have hb31 := k_in_b what 0 1
        rw [← hz31] at hb31
        have hs31 := k_in_s what 0 1
        rw [← hz31] at hs31
        have K34 : ∀ (t34 : Int), t34 = (if z31 = 0 then 1 else 0) →  am_T S zX12_buy d u Q 42 [some (aR b), some (aI wk), some (aI what), none, none, none, none, none] [aI t34, aR b] (mdW w b c q21) := by
          intro t34 ht34
          have hbt34 : t34 = 0 ∨ t34 = 1 := by
            rw [ht34]
            try dsimp only
            repeat' split
            all_goals first | exact Or.inl rfl | exact Or.inr rfl | apply k_in_b | apply k_isDigit_b | apply k_isSmall_b | apply k_bad_b | apply k_isIn_b | apply k_isStep_b | apply k_isFirst_b | apply k_isLine_b | apply k_seesBy_b | apply k_isWalker_b | apply k_seesOne_b | apply k_badTwo_b | apply k_sees_b | omega
          refine T_iconst 2 (am_dec tX12_buy_0 24 rfl) rfl ⟨by decide, by decide⟩ ?_
          refine T_iconst 2 (am_dec tX12_buy_0 25 rfl) rfl ⟨by decide, by decide⟩ ?_
          refine T_callV (as := [aI t34, aI 2, aI 2]) rfl (am_dec tX12_buy_0 26 rfl) lkX12_275 (md_obj hl) rfl rfl (Nat.le_of_ble_eq_true rfl) (by omega) (mk_bad0 (d := d - 1) hl t34 2 2 (by omega) (hq021 (by omega)) (by omega)) (fun _ => ?_)
          refine T_nmH (W := fun x9 => mdW w b c x9) (v := (k_refuse q21 t34 2 2)) (fun q44 hq44 => ?_)
          refine T_nm (fun z44 hz44 => ?_)
          have hq044 : t34 = 0 → q44 0 0 = 0 := fun h9 => by rw [hq44]; exact k_refuse_0 (hq021 (by omega)) h9
          refine T_if_eq 52 (am_dec tX12_buy_0 27 rfl) rfl (fun h47 => ?_) (fun h47 => ?_)
          · refine T_aload_n (am_dec tX12_buy_0 30 rfl) rfl ?_
            refine T_callV (as := []) rfl (am_dec tX12_buy_0 31 rfl) lkX12_345 (md_obj hl) rfl rfl (Nat.le_of_ble_eq_true rfl) (by omega) (mk_goes (d := d - 1) hl   hV hWd hS9 hLp hDu (by omega)) (fun _ => ?_)
            refine T_nmH (W := fun x9 => mdW w b c x9) (v := k_goes c q44) (fun q53 hq53 => ?_)
            refine T_aload_n (am_dec tX12_buy_0 32 rfl) rfl ?_
            refine T_iload_n (am_dec tX12_buy_0 33 rfl) rfl ?_
            refine T_callV (as := [aI wk]) rfl (am_dec tX12_buy_0 34 rfl) lkX12_394 (md_obj hl) rfl rfl (Nat.le_of_ble_eq_true rfl) (by omega) (mk_needsAll (d := d - 1) hl wk  hV hK9 hPl hWt (by omega) (by omega)) (fun _ => ?_)
            refine T_nm (fun nd_61 hnd_61 => ?_)
            refine T_istore_n (ls' := [some (aR b), some (aI wk), some (aI what), some (aI nd_61), none, none, none, none]) (am_dec tX12_buy_0 35 rfl) (by decide) rfl ?_
            refine T_iconst 0 (am_dec tX12_buy_0 36 rfl) rfl ⟨by decide, by decide⟩ ?_
            refine T_istore (ls' := [some (aR b), some (aI wk), some (aI what), some (aI nd_61), some (aI 0), none, none, none]) (am_dec tX12_buy_0 37 rfl) (by decide) rfl ?_
            refine T_iconst 0 (am_dec tX12_buy_0 38 rfl) rfl ⟨by decide, by decide⟩ ?_
            refine T_istore (ls' := [some (aR b), some (aI wk), some (aI what), some (aI nd_61), some (aI 0), some (aI 0), none, none]) (am_dec tX12_buy_0 39 rfl) (by decide) rfl ?_
            refine L_k_buy_68 hl c q53 wk what nd_61 hV hWd hS9 hLp hDu hK9 hPl hWt (by omega) (by omega) _ rfl 40 0 0 (by omega) (by omega) (fun cost_68 hcost_68 => ?_)
            refine T_iload_n (am_dec tX12_buy_2 0 rfl) rfl ?_
            have K143 : ∀ (t143 : Int), t143 = (if what = 0 then nd_61 else cost_68) →  am_T S zX12_buy d u Q 152 [none, none, none, none, none, none, none, none] [aI t143] (mdW w b c q53) := by
              intro t143 ht143
              exact T_ireturn (am_dec tX12_buy_2 5 rfl) rfl (am_tr (fun x9 => Q (.inl (some (aI (x9.1)))) (mdW w b c x9.2)) (y := (t143, q53)) (show (k_buy c q wk what) = (t143, q53) from (by have s9 := hz8.symm; subst s9; have s9 := ht11.symm; subst s9; have s9 := hq21.symm; subst s9; have s9 := hz21.symm; subst s9; have s9 := hz31.symm; subst s9; have s9 := ht34.symm; subst s9; have s9 := hq44.symm; subst s9; have s9 := hz44.symm; subst s9; have s9 := hq53.symm; subst s9; have s9 := hnd_61.symm; subst s9; have s9 := hcost_68.symm; subst s9; have s9 := ht143.symm; subst s9; exact ((if_pos h24).trans (if_pos h47)))) hQ)
            refine T_if_ne 150 (am_dec tX12_buy_2 1 rfl) rfl (fun h143 => ?_) (fun h143 => ?_)
            · refine T_iload (am_dec tX12_buy_2 4 rfl) rfl ?_
              refine T_weak (ls' := [none, none, none, none, none, none, none, none]) (am_sub_n (am_sub_n (am_sub_n (am_sub_n (am_sub_n (am_sub_n (am_sub_n (am_sub_n am_sub_nil)))))))) ?_
              exact K143 _ (if_neg h143).symm
            · refine T_iload_n (am_dec tX12_buy_2 2 rfl) rfl ?_
              refine T_goto 152 (am_dec tX12_buy_2 3 rfl) rfl ?_
              refine T_weak (ls' := [none, none, none, none, none, none, none, none]) (am_sub_n (am_sub_n (am_sub_n (am_sub_n (am_sub_n (am_sub_n (am_sub_n (am_sub_n am_sub_nil)))))))) ?_
              exact K143 _ (if_pos h143).symm
          · refine T_iconst 0 (am_dec tX12_buy_0 28 rfl) rfl ⟨by decide, by decide⟩ ?_
            exact T_ireturn (am_dec tX12_buy_0 29 rfl) rfl (am_tr (fun x9 => Q (.inl (some (aI (x9.1)))) (mdW w b c x9.2)) (y := (0, q44)) (show (k_buy c q wk what) = (0, q44) from (by have s9 := hz8.symm; subst s9; have s9 := ht11.symm; subst s9; have s9 := hq21.symm; subst s9; have s9 := hz21.symm; subst s9; have s9 := hz31.symm; subst s9; have s9 := ht34.symm; subst s9; have s9 := hq44.symm; subst s9; have s9 := hz44.symm; subst s9; exact ((if_pos h24).trans (if_neg h47)))) hQ)
        refine T_if_ne 41 (am_dec tX12_buy_0 20 rfl) rfl (fun h34 => ?_) (fun h34 => ?_)
        · refine T_iconst 0 (am_dec tX12_buy_0 23 rfl) rfl ⟨by decide, by decide⟩ ?_
          exact K34 _ (if_neg h34).symm
        · refine T_iconst 1 (am_dec tX12_buy_0 21 rfl) rfl ⟨by decide, by decide⟩ ?_
          refine T_goto 42 (am_dec tX12_buy_0 22 rfl) rfl ?_
          exact K34 _ (if_pos h34).symm
    refine T_if_ne 18 (am_dec tX12_buy_0 7 rfl) rfl (fun h11 => ?_) (fun h11 => ?_)
    · refine T_iconst 0 (am_dec tX12_buy_0 10 rfl) rfl ⟨by decide, by decide⟩ ?_
      exact K11 _ (if_neg h11).symm
    · refine T_iconst 1 (am_dec tX12_buy_0 8 rfl) rfl ⟨by decide, by decide⟩ ?_
      refine T_goto 19 (am_dec tX12_buy_0 9 rfl) rfl ?_
      exact K11 _ (if_pos h11).symm
  exact key _ ⟨rfl, rfl⟩
def k_fromTold (x : Int) : Int := ((x % 10) + (9 * (x / 10)))
theorem mk_fromTold {S : am_S} {d u : Nat} {w : AH} {b : Nat} (hl : b + 735 ≤ w.length) {c : am_F} {q : am_F} (x : Int) (hx : 0 ≤ x ∧ x ≤ 1000) (hd : 1 ≤ d) : am_Out S zX12_fromTold d u [aR b, aI x] (mdW w b c q) (.inl (some (aI (k_fromTold x)))) (mdW w b c q) := by
  have key : ∀ Q : AO → AH → Prop, Q (.inl (some (aI (k_fromTold x)))) (mdW w b c q) → am_M S zX12_fromTold d u [aR b, aI x] (mdW w b c q) Q := by
    intro Q hQ
    refine am_body rfl (by decide +kernel) rfl (am_cats_cons rfl ( am_cats_cons rfl (am_cats_nil))) (Nat.le_of_ble_eq_true rfl) (?_ : am_T _ _ _ _ _ 0 [some (aR b), some (aI x)] [] (mdW w b c q))
    refine T_iload_n (am_dec tX12_fromTold_0 0 rfl) rfl ?_
    refine T_bipush 10 (am_dec tX12_fromTold_0 1 rfl) rfl ⟨by decide, by decide⟩ ?_
    refine T_irem (x % 10) (am_dec tX12_fromTold_0 2 rfl) (by omega) (am_tm (by omega)) ⟨by omega, by omega⟩ ?_
    refine T_iload_n (am_dec tX12_fromTold_0 3 rfl) rfl ?_
    refine T_bipush 10 (am_dec tX12_fromTold_0 4 rfl) rfl ⟨by decide, by decide⟩ ?_
    refine T_idiv (x / 10) (am_dec tX12_fromTold_0 5 rfl) (by omega) (am_td (by omega)) ⟨by omega, by omega⟩ ?_
    refine T_callS (as := [aI (x % 10), aI (x / 10)]) rfl (am_dec tX12_fromTold_0 6 rfl) lkX12_317 rfl (Nat.le_of_ble_eq_true rfl) (by omega) (mk_cell' (d := d - 1) (x % 10) (x / 10) (by omega)) (fun _ => ?_)
    exact T_ireturn (am_dec tX12_fromTold_0 7 rfl) rfl (am_tr (fun x9 => Q (.inl (some (aI (x9)))) (mdW w b c q)) (y := ((x % 10) + (9 * (x / 10)))) (show (k_fromTold x) = ((x % 10) + (9 * (x / 10))) from rfl) hQ)
  exact key _ ⟨rfl, rfl⟩
def k_isCode (c : am_F) (x : Int) : Int := (if x < 0 then 0 else (let z13 : Int := (k_isIn c (x % 10) (x / 10)); (if z13 = 0 then 0 else 1)))
theorem mk_isCode {S : am_S} {d u : Nat} {w : AH} {b : Nat} (hl : b + 735 ≤ w.length) {c : am_F} {q : am_F} (x : Int) (hV : MdV c) (hd : 2 ≤ d) : am_Out S zX12_isCode d u [aR b, aI x] (mdW w b c q) (.inl (some (aI (k_isCode c x)))) (mdW w b c q) := by
  have key : ∀ Q : AO → AH → Prop, Q (.inl (some (aI (k_isCode c x)))) (mdW w b c q) → am_M S zX12_isCode d u [aR b, aI x] (mdW w b c q) Q := by
    intro Q hQ
    refine am_body rfl (by decide +kernel) rfl (am_cats_cons rfl ( am_cats_cons rfl (am_cats_nil))) (Nat.le_of_ble_eq_true rfl) (?_ : am_T _ _ _ _ _ 0 [some (aR b), some (aI x)] [] (mdW w b c q))
    obtain ⟨vl0, vu0⟩ := MdV_0 hV
    obtain ⟨vl1, vu1⟩ := MdV_1 hV
    refine T_rng (i := 1) rfl (fun hx9 => ?_)
    obtain ⟨hx7, hx8⟩ := hx9
    refine T_iload_n (am_dec tX12_isCode_0 0 rfl) rfl ?_
    have K1 : ∀ (t1 : Int), t1 = (if x < 0 then 0 else (let z13 : Int := (k_isIn c (x % 10) (x / 10)); (if z13 = 0 then 0 else 1))) →  am_T S zX12_isCode d u Q 24 [none, none] [aI t1] (mdW w b c q) := by
      intro t1 ht1
      have hxt1 := ht1
      dsimp only at hxt1
      have hy2 := k_isIn_s c (x % 10) (x / 10)
      have hbt1 : t1 = 0 ∨ t1 = 1 := by
        rw [ht1]
        try dsimp only
        repeat' split
        all_goals first | exact Or.inl rfl | exact Or.inr rfl | apply k_in_b | apply k_isDigit_b | apply k_isSmall_b | apply k_bad_b | apply k_isIn_b | apply k_isStep_b | apply k_isFirst_b | apply k_isLine_b | apply k_seesBy_b | apply k_isWalker_b | apply k_seesOne_b | apply k_badTwo_b | apply k_sees_b | omega
      exact T_zreturn (am_dec tX12_isCode_0 14 rfl) rfl (by first | exact Or.inl rfl | exact Or.inr rfl | omega) (am_tr (fun x9 => Q (.inl (some (aI (x9)))) (mdW w b c q)) (y := t1) (show (k_isCode c x) = t1 from (by have s9 := ht1.symm; subst s9; exact rfl)) hQ)
    refine T_if_lt 23 (am_dec tX12_isCode_0 1 rfl) rfl (fun h1 => ?_) (fun h1 => ?_)
    · refine T_iconst 0 (am_dec tX12_isCode_0 13 rfl) rfl ⟨by decide, by decide⟩ ?_
      refine T_weak (ls' := [none, none]) (am_sub_n (am_sub_n am_sub_nil)) ?_
      exact K1 _ (if_pos h1).symm
    · refine T_aload_n (am_dec tX12_isCode_0 2 rfl) rfl ?_
      refine T_iload_n (am_dec tX12_isCode_0 3 rfl) rfl ?_
      refine T_bipush 10 (am_dec tX12_isCode_0 4 rfl) rfl ⟨by decide, by decide⟩ ?_
      refine T_irem (x % 10) (am_dec tX12_isCode_0 5 rfl) (by omega) (am_tm (by omega)) ⟨by omega, by omega⟩ ?_
      refine T_iload_n (am_dec tX12_isCode_0 6 rfl) rfl ?_
      refine T_bipush 10 (am_dec tX12_isCode_0 7 rfl) rfl ⟨by decide, by decide⟩ ?_
      refine T_idiv (x / 10) (am_dec tX12_isCode_0 8 rfl) (by omega) (am_td (by omega)) ⟨by omega, by omega⟩ ?_
      refine T_callV (as := [aI (x % 10), aI (x / 10)]) rfl (am_dec tX12_isCode_0 9 rfl) lkX12_320 (md_obj hl) rfl rfl (Nat.le_of_ble_eq_true rfl) (by omega) (mk_isIn (d := d - 1) hl (x % 10) (x / 10)  hV (by omega)) (fun _ => ?_)
      refine T_nm (fun z13 hz13 => ?_)
      have hb13 := k_isIn_b c (x % 10) (x / 10)
      rw [← hz13] at hb13
      have hs13 := k_isIn_s c (x % 10) (x / 10)
      rw [← hz13] at hs13
      have K16 : ∀ (t16 : Int), t16 = (if z13 = 0 then 0 else 1) →  am_T S zX12_isCode d u Q 24 [none, none] [aI t16] (mdW w b c q) := by
        intro t16 ht16
        have hbt16 : t16 = 0 ∨ t16 = 1 := by
          rw [ht16]
          try dsimp only
          repeat' split
          all_goals first | exact Or.inl rfl | exact Or.inr rfl | apply k_in_b | apply k_isDigit_b | apply k_isSmall_b | apply k_bad_b | apply k_isIn_b | apply k_isStep_b | apply k_isFirst_b | apply k_isLine_b | apply k_seesBy_b | apply k_isWalker_b | apply k_seesOne_b | apply k_badTwo_b | apply k_sees_b | omega
        exact K1 _ (by have s9 := hz13.symm; subst s9; have s9 := ht16.symm; subst s9; exact (if_neg h1).symm)
      refine T_if_eq 23 (am_dec tX12_isCode_0 10 rfl) rfl (fun h16 => ?_) (fun h16 => ?_)
      · refine T_iconst 0 (am_dec tX12_isCode_0 13 rfl) rfl ⟨by decide, by decide⟩ ?_
        refine T_weak (ls' := [none, none]) (am_sub_n (am_sub_n am_sub_nil)) ?_
        exact K16 _ (if_pos h16).symm
      · refine T_iconst 1 (am_dec tX12_isCode_0 11 rfl) rfl ⟨by decide, by decide⟩ ?_
        refine T_goto 24 (am_dec tX12_isCode_0 12 rfl) rfl ?_
        refine T_weak (ls' := [none, none]) (am_sub_n (am_sub_n am_sub_nil)) ?_
        exact K16 _ (if_neg h16).symm
  exact key _ ⟨rfl, rfl⟩
theorem k_isCode_b (c : am_F) (x : Int) : (k_isCode c x) = 0 ∨ (k_isCode c x) = 1 := by
  unfold k_isCode
  try dsimp only
  repeat' split
  all_goals first | exact Or.inl rfl | exact Or.inr rfl | apply k_in_b | apply k_isDigit_b | apply k_isSmall_b | apply k_bad_b | apply k_isIn_b | apply k_isStep_b | apply k_isFirst_b | apply k_isLine_b | apply k_seesBy_b | apply k_isWalker_b | apply k_seesOne_b | apply k_badTwo_b | apply k_sees_b
theorem k_isCode_s (c : am_F) (x : Int) : (k_isCode c x = 1 ∧ 0 ≤ x ∧ (0 ≤ x % 10 ∧ x % 10 < c 4 0) ∧ 0 ≤ x / 10 ∧ x / 10 < c 4 1) ∨ (k_isCode c x = 0 ∧ ¬ (0 ≤ x ∧ (0 ≤ x % 10 ∧ x % 10 < c 4 0) ∧ 0 ≤ x / 10 ∧ x / 10 < c 4 1)) := by
  have h := k_isIn_s c (x % 10) (x / 10)
  unfold k_isCode
  split
  · right
    exact ⟨rfl, by omega⟩
  · try dsimp only
    split
    · right
      exact ⟨rfl, by omega⟩
    · left
      exact ⟨rfl, by omega⟩
def g_k_steps_2  (y : Int) (q : am_F) : am_F := (am_put q 730 y.toNat (-1))
theorem L_k_steps_2 {S : am_S} {d u : Nat} {Q : AO → AH → Prop} {w : AH} {b : Nat} (hl : b + 735 ≤ w.length) (c : am_F) (t : Int) (hV : MdV c) (hWt : MdWt c) (ht : -1 ≤ t ∧ t < 40)  (hd : 3 ≤ d) (B9 : Int) (hB : B9 = 81) : ∀ (n : Nat) (y : Int) (q : am_F), y + n = B9 → 0 ≤ y → (∀ (q' : am_F), q' = am_fold (g_k_steps_2) y n q → am_T S zX12_steps d u Q 21 [some (aR b), some (aI t), none, none, none, none, none, none] [] (mdW w b c q')) → am_T S zX12_steps d u Q 2 [some (aR b), some (aI t), some (aI y), none, none, none, none, none] [] (mdW w b c q) := by
  intro n
  induction n with
  | zero =>
    intro y q hi9 h0i k9
    have e9 : y = B9 := by omega
    subst e9
    obtain ⟨vl0, vu0⟩ := MdV_0 hV
    obtain ⟨vl1, vu1⟩ := MdV_1 hV
    refine T_iload_n (am_dec tX12_steps_0 2 rfl) rfl ?_
    refine T_bipush 81 (am_dec tX12_steps_0 3 rfl) rfl ⟨by decide, by decide⟩ ?_
    refine T_icmp_ge 21 (am_dec tX12_steps_0 4 rfl) rfl (fun h5 => ?_) (fun h5 => by exfalso; omega)
    refine T_weak (ls' := [some (aR b), some (aI t), none, none, none, none, none, none]) (am_sub_s (am_sub_s (am_sub_n (am_sub_n (am_sub_n (am_sub_n (am_sub_n (am_sub_n am_sub_nil)))))))) ?_
    exact k9 q rfl
  | succ n ih =>
    intro y q hi9 h0i k9
    obtain ⟨vl0, vu0⟩ := MdV_0 hV
    obtain ⟨vl1, vu1⟩ := MdV_1 hV
    refine T_iload_n (am_dec tX12_steps_0 2 rfl) rfl ?_
    refine T_bipush 81 (am_dec tX12_steps_0 3 rfl) rfl ⟨by decide, by decide⟩ ?_
    refine T_icmp_ge 21 (am_dec tX12_steps_0 4 rfl) rfl (fun h5 => by exfalso; omega) (fun h5 => ?_)
    refine T_aload_n (am_dec tX12_steps_0 5 rfl) rfl ?_
    refine T_getfield 11 63 (am_dec tX12_steps_0 6 rfl) flX12_139_11 (md_obj hl) rfl ?_
    refine T_iload_n (am_dec tX12_steps_0 7 rfl) rfl ?_
    refine T_iconst (-1) (am_dec tX12_steps_0 8 rfl) rfl ⟨by decide, by decide⟩ ?_
    refine T_iastore (am_dec tX12_steps_0 9 rfl) (md_leastNext hl) (by omega) (by omega) ?_
    refine am_wE (w2 := mdW w b c (am_put q 730 y.toNat (-1))) (md_pq (Nat.le_of_ble_eq_true rfl) (fun _ _ => rfl)) ?_
    refine T_iinc (ls' := [some (aR b), some (aI t), some (aI (y + 1)), none, none, none, none, none]) (y + 1) (am_dec tX12_steps_0 10 rfl) rfl rfl ⟨by omega, by omega⟩ (by decide) rfl ?_
    refine T_goto 2 (am_dec tX12_steps_0 11 rfl) rfl ?_
    have e9 : (g_k_steps_2) y q = (am_put q 730 y.toNat (-1)) := rfl
    simp only [am_fold_s, e9] at k9
    exact ih (y + 1) (am_put q 730 y.toNat (-1)) (by omega) (by omega) k9
def g_k_steps_60 (c : am_F) (q : am_F) (x : Int) (y : Int) (k : Int) (bs : Int) : Int := (let t69 : Int := (if k = 0 then 1 else (if k = 1 then (-1) else 0)); (let t94 : Int := (if k = 2 then 1 else (if k = 3 then (-1) else 0)); (let z120 : Int := (k_isIn c (x + t69) (y + t94)); (if z120 = 0 then bs else (if q 729 (((x + t69) + (9 * (y + t94))).toNat) = (-1) then bs else (if bs = (-1) then (q 729 (((x + t69) + (9 * (y + t94))).toNat)) else (if bs ≤ q 729 (((x + t69) + (9 * (y + t94))).toNat) then bs else (q 729 (((x + t69) + (9 * (y + t94))).toNat)))))))))
theorem L_k_steps_60 {S : am_S} {d u : Nat} {Q : AO → AH → Prop} {w : AH} {b : Nat} (hl : b + 735 ≤ w.length) (c : am_F) (q : am_F) (t : Int) (x : Int) (y : Int) (hV : MdV c) (hWt : MdWt c) (ht : -1 ≤ t ∧ t < 40) (ho23 : 0 ≤ y ∧ y < c 4 1) (ho35 : 0 ≤ x ∧ x < c 4 0) (hd : 3 ≤ d) (B9 : Int) (hB : B9 = 4) : ∀ (n : Nat) (k : Int) (bs : Int), k + n = B9 → 0 ≤ k → (∀ (bs' : Int), bs' = am_fold (g_k_steps_60 c q x y) k n bs → am_T S zX12_steps d u Q 193 [some (aR b), some (aI t), some (aI y), some (aI x), some (aI bs'), none, none, none] [] (mdW w b c q)) → am_T S zX12_steps d u Q 60 [some (aR b), some (aI t), some (aI y), some (aI x), some (aI bs), some (aI k), none, none] [] (mdW w b c q) := by
  intro n
  induction n with
  | zero =>
    intro k bs hi9 h0i k9
    have e9 : k = B9 := by omega
    subst e9
    obtain ⟨vl0, vu0⟩ := MdV_0 hV
    obtain ⟨vl1, vu1⟩ := MdV_1 hV
    refine T_iload (am_dec tX12_steps_0 37 rfl) rfl ?_
    refine T_iconst 4 (am_dec tX12_steps_0 38 rfl) rfl ⟨by decide, by decide⟩ ?_
    refine T_icmp_ge 193 (am_dec tX12_steps_0 39 rfl) rfl (fun h63 => ?_) (fun h63 => by exfalso; omega)
    refine T_weak (ls' := [some (aR b), some (aI t), some (aI y), some (aI x), some (aI bs), none, none, none]) (am_sub_s (am_sub_s (am_sub_s (am_sub_s (am_sub_s (am_sub_n (am_sub_n (am_sub_n am_sub_nil)))))))) ?_
    exact k9 bs rfl
  | succ n ih =>
    intro k bs hi9 h0i k9
    obtain ⟨vl0, vu0⟩ := MdV_0 hV
    obtain ⟨vl1, vu1⟩ := MdV_1 hV
    refine T_iload (am_dec tX12_steps_0 37 rfl) rfl ?_
    refine T_iconst 4 (am_dec tX12_steps_0 38 rfl) rfl ⟨by decide, by decide⟩ ?_
    refine T_icmp_ge 193 (am_dec tX12_steps_0 39 rfl) rfl (fun h63 => by exfalso; omega) (fun h63 => ?_)
    refine T_iload_n (am_dec tX12_steps_1 0 rfl) rfl ?_
    refine T_iload (am_dec tX12_steps_1 1 rfl) rfl ?_
    have K69 : ∀ (t69 : Int), t69 = (if k = 0 then 1 else (if k = 1 then (-1) else 0)) →  am_T S zX12_steps d u Q 87 [some (aR b), some (aI t), some (aI y), some (aI x), some (aI bs), some (aI k), none, none] [aI t69, aI x] (mdW w b c q) := by
      intro t69 ht69
      refine T_iadd (x + t69) (am_dec tX12_steps_1 11 rfl) rfl ⟨by omega, by omega⟩ ?_
      refine T_istore (ls' := [some (aR b), some (aI t), some (aI y), some (aI x), some (aI bs), some (aI k), some (aI (x + t69)), none]) (am_dec tX12_steps_1 12 rfl) (by decide) rfl ?_
      refine T_iload_n (am_dec tX12_steps_1 13 rfl) rfl ?_
      refine T_iload (am_dec tX12_steps_1 14 rfl) rfl ?_
      refine T_iconst 2 (am_dec tX12_steps_1 15 rfl) rfl ⟨by decide, by decide⟩ ?_
      have K94 : ∀ (t94 : Int), t94 = (if k = 2 then 1 else (if k = 3 then (-1) else 0)) →  am_T S zX12_steps d u Q 112 [some (aR b), some (aI t), some (aI y), some (aI x), some (aI bs), some (aI k), some (aI (x + t69)), none] [aI t94, aI y] (mdW w b c q) := by
        intro t94 ht94
        refine T_iadd (y + t94) (am_dec tX12_steps_1 25 rfl) rfl ⟨by omega, by omega⟩ ?_
        refine T_istore (ls' := [some (aR b), some (aI t), some (aI y), some (aI x), some (aI bs), some (aI k), some (aI (x + t69)), some (aI (y + t94))]) (am_dec tX12_steps_1 26 rfl) (by decide) rfl ?_
        refine T_aload_n (am_dec tX12_steps_1 27 rfl) rfl ?_
        refine T_iload (am_dec tX12_steps_1 28 rfl) rfl ?_
        refine T_iload (am_dec tX12_steps_1 29 rfl) rfl ?_
        refine T_callV (as := [aI (x + t69), aI (y + t94)]) rfl (am_dec tX12_steps_1 30 rfl) lkX12_320 (md_obj hl) rfl rfl (Nat.le_of_ble_eq_true rfl) (by omega) (mk_isIn (d := d - 1) hl (x + t69) (y + t94)  hV (by omega)) (fun _ => ?_)
        refine T_nm (fun z120 hz120 => ?_)
        have hb120 := k_isIn_b c (x + t69) (y + t94)
        rw [← hz120] at hb120
        have hs120 := k_isIn_s c (x + t69) (y + t94)
        rw [← hz120] at hs120
        have K123 : ∀ (bs_123 : Int), bs_123 = (if z120 = 0 then bs else (if q 729 (((x + t69) + (9 * (y + t94))).toNat) = (-1) then bs else (if bs = (-1) then (q 729 (((x + t69) + (9 * (y + t94))).toNat)) else (if bs ≤ q 729 (((x + t69) + (9 * (y + t94))).toNat) then bs else (q 729 (((x + t69) + (9 * (y + t94))).toNat)))))) →  am_T S zX12_steps d u Q 187 [some (aR b), some (aI t), some (aI y), some (aI x), some (aI bs_123), some (aI k), none, none] [] (mdW w b c q) := by
          intro bs_123 hbs_123
          refine T_iinc (ls' := [some (aR b), some (aI t), some (aI y), some (aI x), some (aI bs_123), some (aI (k + 1)), none, none]) (k + 1) (am_dec tX12_steps_2 21 rfl) rfl rfl ⟨by omega, by omega⟩ (by decide) rfl ?_
          refine T_goto 60 (am_dec tX12_steps_2 22 rfl) rfl ?_
          have e9 : (g_k_steps_60 c q x y) k bs = bs_123 := (by have s9 := ht69.symm; subst s9; have s9 := ht94.symm; subst s9; have s9 := hz120.symm; subst s9; have s9 := hbs_123.symm; subst s9; exact rfl)
          simp only [am_fold_s, e9] at k9
          exact ih (k + 1) bs_123 (by omega) (by omega) k9
        refine T_if_eq 187 (am_dec tX12_steps_1 31 rfl) rfl (fun h123 => ?_) (fun h123 => ?_)
        · refine T_weak (ls' := [some (aR b), some (aI t), some (aI y), some (aI x), some (aI bs), some (aI k), none, none]) (am_sub_s (am_sub_s (am_sub_s (am_sub_s (am_sub_s (am_sub_s (am_sub_n (am_sub_n am_sub_nil)))))))) ?_
          exact K123 _ (if_pos h123).symm
        · refine T_aload_n (am_dec tX12_steps_1 32 rfl) rfl ?_
          refine T_getfield 11 62 (am_dec tX12_steps_1 33 rfl) flX12_136_11 (md_obj hl) rfl ?_
          refine T_iload (am_dec tX12_steps_1 34 rfl) rfl ?_
          refine T_iload (am_dec tX12_steps_1 35 rfl) rfl ?_
          refine T_callS (as := [aI (x + t69), aI (y + t94)]) rfl (am_dec tX12_steps_1 36 rfl) lkX12_317 rfl (Nat.le_of_ble_eq_true rfl) (by omega) (mk_cell' (d := d - 1) (x + t69) (y + t94) (by omega)) (fun _ => ?_)
          refine T_ialoadE (x := q 729 (((x + t69) + (9 * (y + t94))).toNat)) (am_dec tX12_steps_1 37 rfl) (md_least hl) (by omega) (by omega) rfl ?_
          refine T_iconst (-1) (am_dec tX12_steps_1 38 rfl) rfl ⟨by decide, by decide⟩ ?_
          have K139 : ∀ (bs_139 : Int), bs_139 = (if q 729 (((x + t69) + (9 * (y + t94))).toNat) = (-1) then bs else (if bs = (-1) then (q 729 (((x + t69) + (9 * (y + t94))).toNat)) else (if bs ≤ q 729 (((x + t69) + (9 * (y + t94))).toNat) then bs else (q 729 (((x + t69) + (9 * (y + t94))).toNat))))) →  am_T S zX12_steps d u Q 187 [some (aR b), some (aI t), some (aI y), some (aI x), some (aI bs_139), some (aI k), none, none] [] (mdW w b c q) := by
            intro bs_139 hbs_139
            exact K123 _ (by have s9 := hbs_139.symm; subst s9; exact (if_neg h123).symm)
          refine T_icmp_ne 145 (am_dec tX12_steps_1 39 rfl) rfl (fun h139 => ?_) (fun h139 => ?_)
          · refine T_iload (am_dec tX12_steps_2 1 rfl) rfl ?_
            refine T_iconst (-1) (am_dec tX12_steps_2 2 rfl) rfl ⟨by decide, by decide⟩ ?_
            have K148 : ∀ (t148 : Int), t148 = (if bs = (-1) then (q 729 (((x + t69) + (9 * (y + t94))).toNat)) else (if bs ≤ q 729 (((x + t69) + (9 * (y + t94))).toNat) then bs else (q 729 (((x + t69) + (9 * (y + t94))).toNat)))) →  am_T S zX12_steps d u Q 185 [some (aR b), some (aI t), some (aI y), some (aI x), none, some (aI k), none, none] [aI t148] (mdW w b c q) := by
              intro t148 ht148
              refine T_istore (ls' := [some (aR b), some (aI t), some (aI y), some (aI x), some (aI t148), some (aI k), none, none]) (am_dec tX12_steps_2 20 rfl) (by decide) rfl ?_
              exact K139 _ (by have s9 := ht148.symm; subst s9; exact (if_neg h139).symm)
            refine T_icmp_eq 168 (am_dec tX12_steps_2 3 rfl) rfl (fun h148 => ?_) (fun h148 => ?_)
            · refine T_aload_n (am_dec tX12_steps_2 12 rfl) rfl ?_
              refine T_getfield 11 62 (am_dec tX12_steps_2 13 rfl) flX12_136_11 (md_obj hl) rfl ?_
              refine T_iload (am_dec tX12_steps_2 14 rfl) rfl ?_
              refine T_iload (am_dec tX12_steps_2 15 rfl) rfl ?_
              refine T_callS (as := [aI (x + t69), aI (y + t94)]) rfl (am_dec tX12_steps_2 16 rfl) lkX12_317 rfl (Nat.le_of_ble_eq_true rfl) (by omega) (mk_cell' (d := d - 1) (x + t69) (y + t94) (by omega)) (fun _ => ?_)
              refine T_ialoadE (x := q 729 (((x + t69) + (9 * (y + t94))).toNat)) (am_dec tX12_steps_2 17 rfl) (md_least hl) (by omega) (by omega) rfl ?_
              refine T_goto 185 (am_dec tX12_steps_2 18 rfl) rfl ?_
              refine T_weak (ls' := [some (aR b), some (aI t), some (aI y), some (aI x), none, some (aI k), none, none]) (am_sub_s (am_sub_s (am_sub_s (am_sub_s (am_sub_n (am_sub_s (am_sub_n (am_sub_n am_sub_nil)))))))) ?_
              exact K148 _ (if_pos h148).symm
            · refine T_aload_n (am_dec tX12_steps_2 4 rfl) rfl ?_
              refine T_getfield 11 62 (am_dec tX12_steps_2 5 rfl) flX12_136_11 (md_obj hl) rfl ?_
              refine T_iload (am_dec tX12_steps_2 6 rfl) rfl ?_
              refine T_iload (am_dec tX12_steps_2 7 rfl) rfl ?_
              refine T_callS (as := [aI (x + t69), aI (y + t94)]) rfl (am_dec tX12_steps_2 8 rfl) lkX12_317 rfl (Nat.le_of_ble_eq_true rfl) (by omega) (mk_cell' (d := d - 1) (x + t69) (y + t94) (by omega)) (fun _ => ?_)
              refine T_ialoadE (x := q 729 (((x + t69) + (9 * (y + t94))).toNat)) (am_dec tX12_steps_2 9 rfl) (md_least hl) (by omega) (by omega) rfl ?_
              refine T_iload (am_dec tX12_steps_2 10 rfl) rfl ?_
              have K165 : ∀ (t165 : Int), t165 = (if bs ≤ q 729 (((x + t69) + (9 * (y + t94))).toNat) then bs else (q 729 (((x + t69) + (9 * (y + t94))).toNat))) →  am_T S zX12_steps d u Q 185 [some (aR b), some (aI t), some (aI y), some (aI x), none, some (aI k), none, none] [aI t165] (mdW w b c q) := by
                intro t165 ht165
                exact K148 _ (by have s9 := ht165.symm; subst s9; exact (if_neg h148).symm)
              refine T_icmp_ge 183 (am_dec tX12_steps_2 11 rfl) rfl (fun h165 => ?_) (fun h165 => ?_)
              · refine T_iload (am_dec tX12_steps_2 19 rfl) rfl ?_
                refine T_weak (ls' := [some (aR b), some (aI t), some (aI y), some (aI x), none, some (aI k), none, none]) (am_sub_s (am_sub_s (am_sub_s (am_sub_s (am_sub_n (am_sub_s (am_sub_n (am_sub_n am_sub_nil)))))))) ?_
                exact K165 _ (if_pos h165).symm
              · refine T_aload_n (am_dec tX12_steps_2 12 rfl) rfl ?_
                refine T_getfield 11 62 (am_dec tX12_steps_2 13 rfl) flX12_136_11 (md_obj hl) rfl ?_
                refine T_iload (am_dec tX12_steps_2 14 rfl) rfl ?_
                refine T_iload (am_dec tX12_steps_2 15 rfl) rfl ?_
                refine T_callS (as := [aI (x + t69), aI (y + t94)]) rfl (am_dec tX12_steps_2 16 rfl) lkX12_317 rfl (Nat.le_of_ble_eq_true rfl) (by omega) (mk_cell' (d := d - 1) (x + t69) (y + t94) (by omega)) (fun _ => ?_)
                refine T_ialoadE (x := q 729 (((x + t69) + (9 * (y + t94))).toNat)) (am_dec tX12_steps_2 17 rfl) (md_least hl) (by omega) (by omega) rfl ?_
                refine T_goto 185 (am_dec tX12_steps_2 18 rfl) rfl ?_
                refine T_weak (ls' := [some (aR b), some (aI t), some (aI y), some (aI x), none, some (aI k), none, none]) (am_sub_s (am_sub_s (am_sub_s (am_sub_s (am_sub_n (am_sub_s (am_sub_n (am_sub_n am_sub_nil)))))))) ?_
                exact K165 _ (if_neg h165).symm
          · refine T_goto 187 (am_dec tX12_steps_2 0 rfl) rfl ?_
            refine T_weak (ls' := [some (aR b), some (aI t), some (aI y), some (aI x), some (aI bs), some (aI k), none, none]) (am_sub_s (am_sub_s (am_sub_s (am_sub_s (am_sub_s (am_sub_s (am_sub_n (am_sub_n am_sub_nil)))))))) ?_
            exact K139 _ (if_pos h139).symm
      refine T_icmp_ne 101 (am_dec tX12_steps_1 16 rfl) rfl (fun h94 => ?_) (fun h94 => ?_)
      · refine T_iload (am_dec tX12_steps_1 19 rfl) rfl ?_
        refine T_iconst 3 (am_dec tX12_steps_1 20 rfl) rfl ⟨by decide, by decide⟩ ?_
        have K104 : ∀ (t104 : Int), t104 = (if k = 3 then (-1) else 0) →  am_T S zX12_steps d u Q 112 [some (aR b), some (aI t), some (aI y), some (aI x), some (aI bs), some (aI k), some (aI (x + t69)), none] [aI t104, aI y] (mdW w b c q) := by
          intro t104 ht104
          exact K94 _ (by have s9 := ht104.symm; subst s9; exact (if_neg h94).symm)
        refine T_icmp_ne 111 (am_dec tX12_steps_1 21 rfl) rfl (fun h104 => ?_) (fun h104 => ?_)
        · refine T_iconst 0 (am_dec tX12_steps_1 24 rfl) rfl ⟨by decide, by decide⟩ ?_
          exact K104 _ (if_neg h104).symm
        · refine T_iconst (-1) (am_dec tX12_steps_1 22 rfl) rfl ⟨by decide, by decide⟩ ?_
          refine T_goto 112 (am_dec tX12_steps_1 23 rfl) rfl ?_
          exact K104 _ (if_pos h104).symm
      · refine T_iconst 1 (am_dec tX12_steps_1 17 rfl) rfl ⟨by decide, by decide⟩ ?_
        refine T_goto 112 (am_dec tX12_steps_1 18 rfl) rfl ?_
        exact K94 _ (if_pos h94).symm
    refine T_if_ne 76 (am_dec tX12_steps_1 2 rfl) rfl (fun h69 => ?_) (fun h69 => ?_)
    · refine T_iload (am_dec tX12_steps_1 5 rfl) rfl ?_
      refine T_iconst 1 (am_dec tX12_steps_1 6 rfl) rfl ⟨by decide, by decide⟩ ?_
      have K79 : ∀ (t79 : Int), t79 = (if k = 1 then (-1) else 0) →  am_T S zX12_steps d u Q 87 [some (aR b), some (aI t), some (aI y), some (aI x), some (aI bs), some (aI k), none, none] [aI t79, aI x] (mdW w b c q) := by
        intro t79 ht79
        exact K69 _ (by have s9 := ht79.symm; subst s9; exact (if_neg h69).symm)
      refine T_icmp_ne 86 (am_dec tX12_steps_1 7 rfl) rfl (fun h79 => ?_) (fun h79 => ?_)
      · refine T_iconst 0 (am_dec tX12_steps_1 10 rfl) rfl ⟨by decide, by decide⟩ ?_
        exact K79 _ (if_neg h79).symm
      · refine T_iconst (-1) (am_dec tX12_steps_1 8 rfl) rfl ⟨by decide, by decide⟩ ?_
        refine T_goto 87 (am_dec tX12_steps_1 9 rfl) rfl ?_
        exact K79 _ (if_pos h79).symm
    · refine T_iconst 1 (am_dec tX12_steps_1 3 rfl) rfl ⟨by decide, by decide⟩ ?_
      refine T_goto 87 (am_dec tX12_steps_1 4 rfl) rfl ?_
      exact K69 _ (if_pos h69).symm
def g_k_steps_35 (c : am_F) (t : Int) (y : Int) (x : Int) (q : am_F) : am_F := (let bs_55 : Int := q 729 ((x + (9 * y)).toNat); (let bs_60 : Int := am_fold (g_k_steps_60 c q x y) 0 4 bs_55; (let t205 : Int := (if bs_60 = (-1) then (-1) else (am_w32 (bs_60 + (k_needs c q (x + (9 * y)) t)))); (am_put q 730 ((x + (9 * y)).toNat) t205))))
theorem L_k_steps_35 {S : am_S} {d u : Nat} {Q : AO → AH → Prop} {w : AH} {b : Nat} (hl : b + 735 ≤ w.length) (c : am_F) (t : Int) (y : Int) (hV : MdV c) (hWt : MdWt c) (ht : -1 ≤ t ∧ t < 40) (ho23 : 0 ≤ y ∧ y < c 4 1) (hd : 3 ≤ d) (B9 : Int) (hB : B9 = c 4 0) : ∀ (n : Nat) (x : Int) (q : am_F), x + n = B9 → 0 ≤ x → (∀ (q' : am_F), q' = am_fold (g_k_steps_35 c t y) x n q → am_T S zX12_steps d u Q 232 [some (aR b), some (aI t), some (aI y), none, none, none, none, none] [] (mdW w b c q')) → am_T S zX12_steps d u Q 35 [some (aR b), some (aI t), some (aI y), some (aI x), none, none, none, none] [] (mdW w b c q) := by
  intro n
  induction n with
  | zero =>
    intro x q hi9 h0i k9
    have e9 : x = B9 := by omega
    subst e9
    obtain ⟨vl0, vu0⟩ := MdV_0 hV
    obtain ⟨vl1, vu1⟩ := MdV_1 hV
    refine T_iload_n (am_dec tX12_steps_0 22 rfl) rfl ?_
    refine T_aload_n (am_dec tX12_steps_0 23 rfl) rfl ?_
    refine T_getfield 11 11 (am_dec tX12_steps_0 24 rfl) flX12_23_11 (md_obj hl) rfl ?_
    refine T_iconst 0 (am_dec tX12_steps_0 25 rfl) rfl ⟨by decide, by decide⟩ ?_
    refine T_ialoadE (x := c 4 0) (am_dec tX12_steps_0 26 rfl) (md_told hl) (by omega) (by omega) rfl ?_
    refine T_icmp_ge 232 (am_dec tX12_steps_0 27 rfl) rfl (fun h42 => ?_) (fun h42 => by exfalso; omega)
    refine T_weak (ls' := [some (aR b), some (aI t), some (aI y), none, none, none, none, none]) (am_sub_s (am_sub_s (am_sub_s (am_sub_n (am_sub_n (am_sub_n (am_sub_n (am_sub_n am_sub_nil)))))))) ?_
    exact k9 q rfl
  | succ n ih =>
    intro x q hi9 h0i k9
    obtain ⟨vl0, vu0⟩ := MdV_0 hV
    obtain ⟨vl1, vu1⟩ := MdV_1 hV
    refine T_iload_n (am_dec tX12_steps_0 22 rfl) rfl ?_
    refine T_aload_n (am_dec tX12_steps_0 23 rfl) rfl ?_
    refine T_getfield 11 11 (am_dec tX12_steps_0 24 rfl) flX12_23_11 (md_obj hl) rfl ?_
    refine T_iconst 0 (am_dec tX12_steps_0 25 rfl) rfl ⟨by decide, by decide⟩ ?_
    refine T_ialoadE (x := c 4 0) (am_dec tX12_steps_0 26 rfl) (md_told hl) (by omega) (by omega) rfl ?_
    refine T_icmp_ge 232 (am_dec tX12_steps_0 27 rfl) rfl (fun h42 => by exfalso; omega) (fun h42 => ?_)
    refine T_aload_n (am_dec tX12_steps_0 28 rfl) rfl ?_
    refine T_getfield 11 62 (am_dec tX12_steps_0 29 rfl) flX12_136_11 (md_obj hl) rfl ?_
    refine T_iload_n (am_dec tX12_steps_0 30 rfl) rfl ?_
    refine T_iload_n (am_dec tX12_steps_0 31 rfl) rfl ?_
    refine T_callS (as := [aI x, aI y]) rfl (am_dec tX12_steps_0 32 rfl) lkX12_317 rfl (Nat.le_of_ble_eq_true rfl) (by omega) (mk_cell' (d := d - 1) x y (by omega)) (fun _ => ?_)
    refine T_ialoadE (x := q 729 ((x + (9 * y)).toNat)) (am_dec tX12_steps_0 33 rfl) (md_least hl) (by omega) (by omega) rfl ?_
    refine T_nm (fun bs_55 hbs_55 => ?_)
    refine T_istore (ls' := [some (aR b), some (aI t), some (aI y), some (aI x), some (aI bs_55), none, none, none]) (am_dec tX12_steps_0 34 rfl) (by decide) rfl ?_
    refine T_iconst 0 (am_dec tX12_steps_0 35 rfl) rfl ⟨by decide, by decide⟩ ?_
    refine T_istore (ls' := [some (aR b), some (aI t), some (aI y), some (aI x), some (aI bs_55), some (aI 0), none, none]) (am_dec tX12_steps_0 36 rfl) (by decide) rfl ?_
    refine L_k_steps_60 hl c q t x y hV hWt ht (by omega) (by omega) (by omega) _ rfl 4 0 bs_55 (by omega) (by omega) (fun bs_60 hbs_60 => ?_)
    refine T_aload_n (am_dec tX12_steps_2 23 rfl) rfl ?_
    refine T_getfield 11 63 (am_dec tX12_steps_2 24 rfl) flX12_139_11 (md_obj hl) rfl ?_
    refine T_iload_n (am_dec tX12_steps_2 25 rfl) rfl ?_
    refine T_iload_n (am_dec tX12_steps_2 26 rfl) rfl ?_
    refine T_callS (as := [aI x, aI y]) rfl (am_dec tX12_steps_2 27 rfl) lkX12_317 rfl (Nat.le_of_ble_eq_true rfl) (by omega) (mk_cell' (d := d - 1) x y (by omega)) (fun _ => ?_)
    refine T_iload (am_dec tX12_steps_2 28 rfl) rfl ?_
    refine T_iconst (-1) (am_dec tX12_steps_2 29 rfl) rfl ⟨by decide, by decide⟩ ?_
    have K205 : ∀ (t205 : Int), t205 = (if bs_60 = (-1) then (-1) else (am_w32 (bs_60 + (k_needs c q (x + (9 * y)) t)))) →  am_T S zX12_steps d u Q 225 [some (aR b), some (aI t), some (aI y), some (aI x), none, none, none, none] [aI t205, aI (x + (9 * y)), aR (b + 730)] (mdW w b c q) := by
      intro t205 ht205
      refine T_iastore (am_dec tX12_steps_3 1 rfl) (md_leastNext hl) (by omega) (by omega) ?_
      refine am_wE (w2 := mdW w b c (am_put q 730 ((x + (9 * y)).toNat) t205)) (md_pq (Nat.le_of_ble_eq_true rfl) (fun _ _ => rfl)) ?_
      refine T_iinc (ls' := [some (aR b), some (aI t), some (aI y), some (aI (x + 1)), none, none, none, none]) (x + 1) (am_dec tX12_steps_3 2 rfl) rfl rfl ⟨by omega, by omega⟩ (by decide) rfl ?_
      refine T_goto 35 (am_dec tX12_steps_3 3 rfl) rfl ?_
      have e9 : (g_k_steps_35 c t y) x q = (am_put q 730 ((x + (9 * y)).toNat) t205) := (by have s9 := hbs_55.symm; subst s9; have s9 := hbs_60.symm; subst s9; have s9 := ht205.symm; subst s9; exact rfl)
      simp only [am_fold_s, e9] at k9
      exact ih (x + 1) (am_put q 730 ((x + (9 * y)).toNat) t205) (by omega) (by omega) k9
    refine T_icmp_ne 212 (am_dec tX12_steps_2 30 rfl) rfl (fun h205 => ?_) (fun h205 => ?_)
    · refine T_iload (am_dec tX12_steps_2 33 rfl) rfl ?_
      refine T_aload_n (am_dec tX12_steps_2 34 rfl) rfl ?_
      refine T_iload_n (am_dec tX12_steps_2 35 rfl) rfl ?_
      refine T_iload_n (am_dec tX12_steps_2 36 rfl) rfl ?_
      refine T_callS (as := [aI x, aI y]) rfl (am_dec tX12_steps_2 37 rfl) lkX12_317 rfl (Nat.le_of_ble_eq_true rfl) (by omega) (mk_cell' (d := d - 1) x y (by omega)) (fun _ => ?_)
      refine T_iload_n (am_dec tX12_steps_2 38 rfl) rfl ?_
      refine T_callV (as := [aI (x + (9 * y)), aI t]) rfl (am_dec tX12_steps_2 39 rfl) lkX12_391 (md_obj hl) rfl rfl (Nat.le_of_ble_eq_true rfl) (by omega) (mk_needs (d := d - 1) hl (x + (9 * y)) t  hV hWt (by omega) (by omega) (by omega)) (fun _ => ?_)
      refine T_iaddW (am_w32 (bs_60 + (k_needs c q (x + (9 * y)) t))) (am_dec tX12_steps_3 0 rfl) (am_w32e _).symm (am_w32r _) ?_
      refine T_weak (ls' := [some (aR b), some (aI t), some (aI y), some (aI x), none, none, none, none]) (am_sub_s (am_sub_s (am_sub_s (am_sub_s (am_sub_n (am_sub_n (am_sub_n (am_sub_n am_sub_nil)))))))) ?_
      exact K205 _ (if_neg h205).symm
    · refine T_iconst (-1) (am_dec tX12_steps_2 31 rfl) rfl ⟨by decide, by decide⟩ ?_
      refine T_goto 225 (am_dec tX12_steps_2 32 rfl) rfl ?_
      refine T_weak (ls' := [some (aR b), some (aI t), some (aI y), some (aI x), none, none, none, none]) (am_sub_s (am_sub_s (am_sub_s (am_sub_s (am_sub_n (am_sub_n (am_sub_n (am_sub_n am_sub_nil)))))))) ?_
      exact K205 _ (if_pos h205).symm
def g_k_steps_23 (c : am_F) (t : Int) (y : Int) (q : am_F) : am_F := am_fold (g_k_steps_35 c t y) 0 (c 4 0).toNat q
theorem L_k_steps_23 {S : am_S} {d u : Nat} {Q : AO → AH → Prop} {w : AH} {b : Nat} (hl : b + 735 ≤ w.length) (c : am_F) (t : Int) (hV : MdV c) (hWt : MdWt c) (ht : -1 ≤ t ∧ t < 40)  (hd : 3 ≤ d) (B9 : Int) (hB : B9 = c 4 1) : ∀ (n : Nat) (y : Int) (q : am_F), y + n = B9 → 0 ≤ y → (∀ (q' : am_F), q' = am_fold (g_k_steps_23 c t) y n q → am_T S zX12_steps d u Q 238 [some (aR b), none, none, none, none, none, none, none] [] (mdW w b c q')) → am_T S zX12_steps d u Q 23 [some (aR b), some (aI t), some (aI y), none, none, none, none, none] [] (mdW w b c q) := by
  intro n
  induction n with
  | zero =>
    intro y q hi9 h0i k9
    have e9 : y = B9 := by omega
    subst e9
    obtain ⟨vl0, vu0⟩ := MdV_0 hV
    obtain ⟨vl1, vu1⟩ := MdV_1 hV
    refine T_iload_n (am_dec tX12_steps_0 14 rfl) rfl ?_
    refine T_aload_n (am_dec tX12_steps_0 15 rfl) rfl ?_
    refine T_getfield 11 11 (am_dec tX12_steps_0 16 rfl) flX12_23_11 (md_obj hl) rfl ?_
    refine T_iconst 1 (am_dec tX12_steps_0 17 rfl) rfl ⟨by decide, by decide⟩ ?_
    refine T_ialoadE (x := c 4 1) (am_dec tX12_steps_0 18 rfl) (md_told hl) (by omega) (by omega) rfl ?_
    refine T_icmp_ge 238 (am_dec tX12_steps_0 19 rfl) rfl (fun h30 => ?_) (fun h30 => by exfalso; omega)
    refine T_weak (ls' := [some (aR b), none, none, none, none, none, none, none]) (am_sub_s (am_sub_n (am_sub_n (am_sub_n (am_sub_n (am_sub_n (am_sub_n (am_sub_n am_sub_nil)))))))) ?_
    exact k9 q rfl
  | succ n ih =>
    intro y q hi9 h0i k9
    obtain ⟨vl0, vu0⟩ := MdV_0 hV
    obtain ⟨vl1, vu1⟩ := MdV_1 hV
    refine T_iload_n (am_dec tX12_steps_0 14 rfl) rfl ?_
    refine T_aload_n (am_dec tX12_steps_0 15 rfl) rfl ?_
    refine T_getfield 11 11 (am_dec tX12_steps_0 16 rfl) flX12_23_11 (md_obj hl) rfl ?_
    refine T_iconst 1 (am_dec tX12_steps_0 17 rfl) rfl ⟨by decide, by decide⟩ ?_
    refine T_ialoadE (x := c 4 1) (am_dec tX12_steps_0 18 rfl) (md_told hl) (by omega) (by omega) rfl ?_
    refine T_icmp_ge 238 (am_dec tX12_steps_0 19 rfl) rfl (fun h30 => by exfalso; omega) (fun h30 => ?_)
    refine T_iconst 0 (am_dec tX12_steps_0 20 rfl) rfl ⟨by decide, by decide⟩ ?_
    refine T_istore_n (ls' := [some (aR b), some (aI t), some (aI y), some (aI 0), none, none, none, none]) (am_dec tX12_steps_0 21 rfl) (by decide) rfl ?_
    refine L_k_steps_35 hl c t y hV hWt ht (by omega) (by omega) _ rfl (c 4 0).toNat 0 q (by omega) (by omega) (fun q35 hq35 => ?_)
    refine T_iinc (ls' := [some (aR b), some (aI t), some (aI (y + 1)), none, none, none, none, none]) (y + 1) (am_dec tX12_steps_3 4 rfl) rfl rfl ⟨by omega, by omega⟩ (by decide) rfl ?_
    refine T_goto 23 (am_dec tX12_steps_3 5 rfl) rfl ?_
    have e9 : (g_k_steps_23 c t) y q = q35 := (by have s9 := hq35.symm; subst s9; exact rfl)
    simp only [am_fold_s, e9] at k9
    exact ih (y + 1) q35 (by omega) (by omega) k9
def g_k_steps_240  (y : Int) (q : am_F) : am_F := (am_put q 729 y.toNat (q 730 y.toNat))
theorem L_k_steps_240 {S : am_S} {d u : Nat} {Q : AO → AH → Prop} {w : AH} {b : Nat} (hl : b + 735 ≤ w.length) (c : am_F) (t : Int) (hV : MdV c) (hWt : MdWt c) (ht : -1 ≤ t ∧ t < 40)  (hd : 3 ≤ d) (B9 : Int) (hB : B9 = 81) : ∀ (n : Nat) (y : Int) (q : am_F), y + n = B9 → 0 ≤ y → (∀ (q' : am_F), q' = am_fold (g_k_steps_240) y n q → am_T S zX12_steps d u Q 264 [none, none, none, none, none, none, none, none] [] (mdW w b c q')) → am_T S zX12_steps d u Q 240 [some (aR b), none, some (aI y), none, none, none, none, none] [] (mdW w b c q) := by
  intro n
  induction n with
  | zero =>
    intro y q hi9 h0i k9
    have e9 : y = B9 := by omega
    subst e9
    obtain ⟨vl0, vu0⟩ := MdV_0 hV
    obtain ⟨vl1, vu1⟩ := MdV_1 hV
    refine T_iload_n (am_dec tX12_steps_3 8 rfl) rfl ?_
    refine T_bipush 81 (am_dec tX12_steps_3 9 rfl) rfl ⟨by decide, by decide⟩ ?_
    refine T_icmp_ge 264 (am_dec tX12_steps_3 10 rfl) rfl (fun h243 => ?_) (fun h243 => by exfalso; omega)
    refine T_weak (ls' := [none, none, none, none, none, none, none, none]) (am_sub_n (am_sub_n (am_sub_n (am_sub_n (am_sub_n (am_sub_n (am_sub_n (am_sub_n am_sub_nil)))))))) ?_
    exact k9 q rfl
  | succ n ih =>
    intro y q hi9 h0i k9
    obtain ⟨vl0, vu0⟩ := MdV_0 hV
    obtain ⟨vl1, vu1⟩ := MdV_1 hV
    refine T_iload_n (am_dec tX12_steps_3 8 rfl) rfl ?_
    refine T_bipush 81 (am_dec tX12_steps_3 9 rfl) rfl ⟨by decide, by decide⟩ ?_
    refine T_icmp_ge 264 (am_dec tX12_steps_3 10 rfl) rfl (fun h243 => by exfalso; omega) (fun h243 => ?_)
    refine T_aload_n (am_dec tX12_steps_3 11 rfl) rfl ?_
    refine T_getfield 11 62 (am_dec tX12_steps_3 12 rfl) flX12_136_11 (md_obj hl) rfl ?_
    refine T_iload_n (am_dec tX12_steps_3 13 rfl) rfl ?_
    refine T_aload_n (am_dec tX12_steps_3 14 rfl) rfl ?_
    refine T_getfield 11 63 (am_dec tX12_steps_3 15 rfl) flX12_139_11 (md_obj hl) rfl ?_
    refine T_iload_n (am_dec tX12_steps_3 16 rfl) rfl ?_
    refine T_ialoadE (x := q 730 y.toNat) (am_dec tX12_steps_3 17 rfl) (md_leastNext hl) (by omega) (by omega) rfl ?_
    refine T_iastore (am_dec tX12_steps_3 18 rfl) (md_least hl) (by omega) (by omega) ?_
    refine am_wE (w2 := mdW w b c (am_put q 729 y.toNat (q 730 y.toNat))) (md_pq (Nat.le_of_ble_eq_true rfl) (fun _ _ => rfl)) ?_
    refine T_iinc (ls' := [some (aR b), none, some (aI (y + 1)), none, none, none, none, none]) (y + 1) (am_dec tX12_steps_3 19 rfl) rfl rfl ⟨by omega, by omega⟩ (by decide) rfl ?_
    refine T_goto 240 (am_dec tX12_steps_3 20 rfl) rfl ?_
    have e9 : (g_k_steps_240) y q = (am_put q 729 y.toNat (q 730 y.toNat)) := rfl
    simp only [am_fold_s, e9] at k9
    exact ih (y + 1) (am_put q 729 y.toNat (q 730 y.toNat)) (by omega) (by omega) k9
def k_steps (c : am_F) (q : am_F) (t : Int) : am_F := (let q2 : am_F := am_fold (g_k_steps_2) 0 81 q; (let q23 : am_F := am_fold (g_k_steps_23 c t) 0 (c 4 1).toNat q2; am_fold (g_k_steps_240) 0 81 q23))
theorem mk_steps {S : am_S} {d u : Nat} {w : AH} {b : Nat} (hl : b + 735 ≤ w.length) {c : am_F} {q : am_F} (t : Int) (hV : MdV c) (hWt : MdWt c) (ht : -1 ≤ t ∧ t < 40) (hd : 3 ≤ d) : am_Out S zX12_steps d u [aR b, aI t] (mdW w b c q) (.inl none) (mdW w b c (k_steps c q t)) := by
  have key : ∀ Q : AO → AH → Prop, Q (.inl none) (mdW w b c (k_steps c q t)) → am_M S zX12_steps d u [aR b, aI t] (mdW w b c q) Q := by
    intro Q hQ
    refine am_body rfl (by decide +kernel) rfl (am_cats_cons rfl ( am_cats_cons rfl (am_cats_nil))) (Nat.le_of_ble_eq_true rfl) (?_ : am_T _ _ _ _ _ 0 [some (aR b), some (aI t), none, none, none, none, none, none] [] (mdW w b c q))
    obtain ⟨vl0, vu0⟩ := MdV_0 hV
    obtain ⟨vl1, vu1⟩ := MdV_1 hV
    refine T_iconst 0 (am_dec tX12_steps_0 0 rfl) rfl ⟨by decide, by decide⟩ ?_
    refine T_istore_n (ls' := [some (aR b), some (aI t), some (aI 0), none, none, none, none, none]) (am_dec tX12_steps_0 1 rfl) (by decide) rfl ?_
    refine L_k_steps_2 hl c t hV hWt ht  (by omega) _ rfl 81 0 q (by omega) (by omega) (fun q2 hq2 => ?_)
    refine T_iconst 0 (am_dec tX12_steps_0 12 rfl) rfl ⟨by decide, by decide⟩ ?_
    refine T_istore_n (ls' := [some (aR b), some (aI t), some (aI 0), none, none, none, none, none]) (am_dec tX12_steps_0 13 rfl) (by decide) rfl ?_
    refine L_k_steps_23 hl c t hV hWt ht  (by omega) _ rfl (c 4 1).toNat 0 q2 (by omega) (by omega) (fun q23 hq23 => ?_)
    refine T_iconst 0 (am_dec tX12_steps_3 6 rfl) rfl ⟨by decide, by decide⟩ ?_
    refine T_istore_n (ls' := [some (aR b), none, some (aI 0), none, none, none, none, none]) (am_dec tX12_steps_3 7 rfl) (by decide) rfl ?_
    refine L_k_steps_240 hl c t hV hWt ht  (by omega) _ rfl 81 0 q23 (by omega) (by omega) (fun q240 hq240 => ?_)
    exact T_return (am_dec tX12_steps_3 21 rfl) rfl (am_tr (fun x9 => Q (.inl none) (mdW w b c x9)) (y := q240) (show (k_steps c q t) = q240 from (by have s9 := hq2.symm; subst s9; have s9 := hq23.symm; subst s9; have s9 := hq240.symm; subst s9; exact rfl)) hQ)
  exact key _ ⟨rfl, rfl⟩
def g_k_way_85  (i : Int) (q : am_F) : am_F := (am_put q 729 i.toNat (-1))
theorem L_k_way_85 {S : am_S} {d u : Nat} {Q : AO → AH → Prop} {w : AH} {b : Nat} (hl : b + 735 ≤ w.length) (c : am_F) (fr : Int) (tt : Int) (t : Int) (lt : Int) (hV : MdV c) (hWd : MdWd c) (hS9 : MdS c) (hLp : MdLp c) (hDu : MdDu c) (hWt : MdWt c) (hlt : 0 ≤ lt ∧ lt ≤ 12 ∧ 0 ≤ t ∧ t + lt < 40) (hd : 5 ≤ d) (B9 : Int) (hB : B9 = 81) : ∀ (n : Nat) (i : Int) (q : am_F), i + n = B9 → 0 ≤ i → (∀ (q' : am_F), q' = am_fold (g_k_way_85) i n q → am_T S zX12_way d u Q 106 [some (aR b), some (aI fr), some (aI tt), some (aI t), some (aI lt), none] [] (mdW w b c q')) → am_T S zX12_way d u Q 85 [some (aR b), some (aI fr), some (aI tt), some (aI t), some (aI lt), some (aI i)] [] (mdW w b c q) := by
  intro n
  induction n with
  | zero =>
    intro i q hi9 h0i k9
    have e9 : i = B9 := by omega
    subst e9
    obtain ⟨vl0, vu0⟩ := MdV_0 hV
    obtain ⟨vl1, vu1⟩ := MdV_1 hV
    refine T_iload (am_dec tX12_way_1 6 rfl) rfl ?_
    refine T_bipush 81 (am_dec tX12_way_1 7 rfl) rfl ⟨by decide, by decide⟩ ?_
    refine T_icmp_ge 106 (am_dec tX12_way_1 8 rfl) rfl (fun h89 => ?_) (fun h89 => by exfalso; omega)
    refine T_weak (ls' := [some (aR b), some (aI fr), some (aI tt), some (aI t), some (aI lt), none]) (am_sub_s (am_sub_s (am_sub_s (am_sub_s (am_sub_s (am_sub_n am_sub_nil)))))) ?_
    exact k9 q rfl
  | succ n ih =>
    intro i q hi9 h0i k9
    obtain ⟨vl0, vu0⟩ := MdV_0 hV
    obtain ⟨vl1, vu1⟩ := MdV_1 hV
    refine T_iload (am_dec tX12_way_1 6 rfl) rfl ?_
    refine T_bipush 81 (am_dec tX12_way_1 7 rfl) rfl ⟨by decide, by decide⟩ ?_
    refine T_icmp_ge 106 (am_dec tX12_way_1 8 rfl) rfl (fun h89 => by exfalso; omega) (fun h89 => ?_)
    refine T_aload_n (am_dec tX12_way_1 9 rfl) rfl ?_
    refine T_getfield 11 62 (am_dec tX12_way_1 10 rfl) flX12_136_11 (md_obj hl) rfl ?_
    refine T_iload (am_dec tX12_way_1 11 rfl) rfl ?_
    refine T_iconst (-1) (am_dec tX12_way_1 12 rfl) rfl ⟨by decide, by decide⟩ ?_
    refine T_iastore (am_dec tX12_way_1 13 rfl) (md_least hl) (by omega) (by omega) ?_
    refine am_wE (w2 := mdW w b c (am_put q 729 i.toNat (-1))) (md_pq (Nat.le_of_ble_eq_true rfl) (fun _ _ => rfl)) ?_
    refine T_iinc (ls' := [some (aR b), some (aI fr), some (aI tt), some (aI t), some (aI lt), some (aI (i + 1))]) (i + 1) (am_dec tX12_way_1 14 rfl) rfl rfl ⟨by omega, by omega⟩ (by decide) rfl ?_
    refine T_goto 85 (am_dec tX12_way_1 15 rfl) rfl ?_
    have e9 : (g_k_way_85) i q = (am_put q 729 i.toNat (-1)) := rfl
    simp only [am_fold_s, e9] at k9
    exact ih (i + 1) (am_put q 729 i.toNat (-1)) (by omega) (by omega) k9
def g_k_way_129 (c : am_F) (t : Int) (i : Int) (q : am_F) : am_F := k_steps c q (t + i)
theorem L_k_way_129 {S : am_S} {d u : Nat} {Q : AO → AH → Prop} {w : AH} {b : Nat} (hl : b + 735 ≤ w.length) (c : am_F) (tt : Int) (t : Int) (lt : Int) (hV : MdV c) (hWd : MdWd c) (hS9 : MdS c) (hLp : MdLp c) (hDu : MdDu c) (hWt : MdWt c) (hlt : 0 ≤ lt ∧ lt ≤ 12 ∧ 0 ≤ t ∧ t + lt < 40) (hd : 5 ≤ d) (B9 : Int) (hB : B9 = lt + 1) : ∀ (n : Nat) (i : Int) (q : am_F), i + n = B9 → 1 ≤ i → (∀ (q' : am_F), q' = am_fold (g_k_way_129 c t) i n q → am_T S zX12_way d u Q 150 [some (aR b), none, some (aI tt), none, none, none] [] (mdW w b c q')) → am_T S zX12_way d u Q 129 [some (aR b), none, some (aI tt), some (aI t), some (aI lt), some (aI i)] [] (mdW w b c q) := by
  intro n
  induction n with
  | zero =>
    intro i q hi9 h0i k9
    have e9 : i = B9 := by omega
    subst e9
    obtain ⟨vl0, vu0⟩ := MdV_0 hV
    obtain ⟨vl1, vu1⟩ := MdV_1 hV
    refine T_iload (am_dec tX12_way_1 30 rfl) rfl ?_
    refine T_iload (am_dec tX12_way_1 31 rfl) rfl ?_
    refine T_icmp_gt 150 (am_dec tX12_way_1 32 rfl) rfl (fun h133 => ?_) (fun h133 => by exfalso; omega)
    refine T_weak (ls' := [some (aR b), none, some (aI tt), none, none, none]) (am_sub_s (am_sub_n (am_sub_s (am_sub_n (am_sub_n (am_sub_n am_sub_nil)))))) ?_
    exact k9 q rfl
  | succ n ih =>
    intro i q hi9 h0i k9
    obtain ⟨vl0, vu0⟩ := MdV_0 hV
    obtain ⟨vl1, vu1⟩ := MdV_1 hV
    refine T_iload (am_dec tX12_way_1 30 rfl) rfl ?_
    refine T_iload (am_dec tX12_way_1 31 rfl) rfl ?_
    refine T_icmp_gt 150 (am_dec tX12_way_1 32 rfl) rfl (fun h133 => by exfalso; omega) (fun h133 => ?_)
    refine T_aload_n (am_dec tX12_way_1 33 rfl) rfl ?_
    refine T_iload_n (am_dec tX12_way_1 34 rfl) rfl ?_
    refine T_iload (am_dec tX12_way_1 35 rfl) rfl ?_
    refine T_iadd (t + i) (am_dec tX12_way_1 36 rfl) rfl ⟨by omega, by omega⟩ ?_
    refine T_callV (as := [aI (t + i)]) rfl (am_dec tX12_way_1 37 rfl) lkX12_403 (md_obj hl) rfl rfl (Nat.le_of_ble_eq_true rfl) (by omega) (mk_steps (d := d - 1) hl (t + i)  hV hWt (by omega) (by omega)) (fun _ => ?_)
    refine T_nmH (W := fun x9 => mdW w b c x9) (v := k_steps c q (t + i)) (fun q141 hq141 => ?_)
    refine T_iinc (ls' := [some (aR b), none, some (aI tt), some (aI t), some (aI lt), some (aI (i + 1))]) (i + 1) (am_dec tX12_way_1 38 rfl) rfl rfl ⟨by omega, by omega⟩ (by decide) rfl ?_
    refine T_goto 129 (am_dec tX12_way_1 39 rfl) rfl ?_
    have e9 : (g_k_way_129 c t) i q = q141 := (by have s9 := hq141.symm; subst s9; exact rfl)
    simp only [am_fold_s, e9] at k9
    exact ih (i + 1) q141 (by omega) (by omega) k9
def k_way (c : am_F) (q : am_F) (fr : Int) (tt : Int) (t : Int) (lt : Int) : Int × am_F := (let z8 : Int := (k_isCode c fr); (let t11 : Int := (if z8 = 0 then 1 else (let z16 : Int := (k_isCode c tt); (if z16 = 0 then 1 else 0))); (let q29 : am_F := (k_refuse (am_put q 0 0 0) t11 1 0); (let z29 : Int := (if t11 = 0 then 0 else 1); (if z29 = 0 then (let z37 : Int := (k_isStep t); (let t40 : Int := (if z37 = 0 then 1 else (let z48 : Int := (k_in lt 0 12); (if z48 = 0 then 1 else (if t + lt < 40 then 0 else 1)))); (let q70 : am_F := (k_refuse q29 t40 2 2); (let z70 : Int := (if t40 = 0 then 0 else 1); (if z70 = 0 then (let q79 : am_F := k_goes c q70; (let q85 : am_F := am_fold (g_k_way_85) 0 81 q79; (let n112 : Int := (k_fromTold fr); (let n118 : Int := (k_fromTold fr); (let q129 : am_F := am_fold (g_k_way_129 c t) 1 (lt + 1 - 1).toNat (am_put q85 729 n112.toNat (k_needs c q85 n118 t)); (let n156 : Int := (k_fromTold tt); ((q129 729 n156.toNat), q129))))))) else (0, q70)))))) else (0, q29))))))
theorem mk_way {S : am_S} {d u : Nat} {w : AH} {b : Nat} (hl : b + 735 ≤ w.length) {c : am_F} {q : am_F} (fr : Int) (tt : Int) (t : Int) (lt : Int) (hV : MdV c) (hWd : MdWd c) (hS9 : MdS c) (hLp : MdLp c) (hDu : MdDu c) (hWt : MdWt c) (hd : 5 ≤ d) : am_Out S zX12_way d u [aR b, aI fr, aI tt, aI t, aI lt] (mdW w b c q) (.inl (some (aI ((k_way c q fr tt t lt).1)))) (mdW w b c ((k_way c q fr tt t lt).2)) := by
  have key : ∀ Q : AO → AH → Prop, Q (.inl (some (aI ((k_way c q fr tt t lt).1)))) (mdW w b c ((k_way c q fr tt t lt).2)) → am_M S zX12_way d u [aR b, aI fr, aI tt, aI t, aI lt] (mdW w b c q) Q := by
    intro Q hQ
    refine am_body rfl (by decide +kernel) rfl (am_cats_cons rfl ( am_cats_cons rfl ( am_cats_cons rfl ( am_cats_cons rfl ( am_cats_cons rfl (am_cats_nil)))))) (Nat.le_of_ble_eq_true rfl) (?_ : am_T _ _ _ _ _ 0 [some (aR b), some (aI fr), some (aI tt), some (aI t), some (aI lt), none] [] (mdW w b c q))
    obtain ⟨vl0, vu0⟩ := MdV_0 hV
    obtain ⟨vl1, vu1⟩ := MdV_1 hV
    refine T_aload_n (am_dec tX12_way_0 0 rfl) rfl ?_
    refine T_iconst 0 (am_dec tX12_way_0 1 rfl) rfl ⟨by decide, by decide⟩ ?_
    refine T_putfield (fs' := mdO b (c 0) (am_up (q 0) 0 0)) 11 0 (am_dec tX12_way_0 2 rfl) flX12_160_11 rfl rfl rfl trivial (md_obj hl) (Nat.le_of_ble_eq_true rfl) rfl ?_
    refine am_wE (w2 := mdW w b c (am_put q 0 0 0)) (md_fq) ?_
    refine T_aload_n (am_dec tX12_way_0 3 rfl) rfl ?_
    refine T_aload_n (am_dec tX12_way_0 4 rfl) rfl ?_
    refine T_iload_n (am_dec tX12_way_0 5 rfl) rfl ?_
    refine T_callV (as := [aI fr]) rfl (am_dec tX12_way_0 6 rfl) lkX12_397 (md_obj hl) rfl rfl (Nat.le_of_ble_eq_true rfl) (by omega) (mk_isCode (d := d - 1) hl fr  hV (by omega)) (fun _ => ?_)
    refine T_nm (fun z8 hz8 => ?_)
    have hb8 := k_isCode_b c fr
    rw [← hz8] at hb8
    have hs8 := k_isCode_s c fr
    rw [← hz8] at hs8
    have K11 : ∀ (t11 : Int), t11 = (if z8 = 0 then 1 else (let z16 : Int := (k_isCode c tt); (if z16 = 0 then 1 else 0))) →  am_T S zX12_way d u Q 27 [some (aR b), some (aI fr), some (aI tt), some (aI t), some (aI lt), none] [aI t11, aR b] (mdW w b c (am_put q 0 0 0)) := by
      intro t11 ht11
      have hxt11 := ht11
      dsimp only at hxt11
      have hy3 := k_isCode_s c tt
      have hbt11 : t11 = 0 ∨ t11 = 1 := by
        rw [ht11]
        try dsimp only
        repeat' split
        all_goals first | exact Or.inl rfl | exact Or.inr rfl | apply k_in_b | apply k_isDigit_b | apply k_isSmall_b | apply k_bad_b | apply k_isIn_b | apply k_isStep_b | apply k_isFirst_b | apply k_isLine_b | apply k_seesBy_b | apply k_isWalker_b | apply k_seesOne_b | apply k_badTwo_b | apply k_sees_b | apply k_isCode_b | omega
      refine T_iconst 1 (am_dec tX12_way_0 15 rfl) rfl ⟨by decide, by decide⟩ ?_
      refine T_iconst 0 (am_dec tX12_way_0 16 rfl) rfl ⟨by decide, by decide⟩ ?_
      refine T_callV (as := [aI t11, aI 1, aI 0]) rfl (am_dec tX12_way_0 17 rfl) lkX12_275 (md_obj hl) rfl rfl (Nat.le_of_ble_eq_true rfl) (by omega) (mk_bad0 (d := d - 1) hl t11 1 0 (by omega) am_put_s (by omega)) (fun _ => ?_)
      refine T_nmH (W := fun x9 => mdW w b c x9) (v := (k_refuse (am_put q 0 0 0) t11 1 0)) (fun q29 hq29 => ?_)
      refine T_nm (fun z29 hz29 => ?_)
      have hq029 : t11 = 0 → q29 0 0 = 0 := fun h9 => by rw [hq29]; exact k_refuse_0 am_put_s h9
      refine T_if_ne 76 (am_dec tX12_way_0 18 rfl) rfl (fun h32 => ?_) (fun h32 => ?_)
      · refine T_iconst 0 (am_dec tX12_way_1 0 rfl) rfl ⟨by decide, by decide⟩ ?_
        exact T_ireturn (am_dec tX12_way_1 1 rfl) rfl (am_tr (fun x9 => Q (.inl (some (aI (x9.1)))) (mdW w b c x9.2)) (y := (0, q29)) (show (k_way c q fr tt t lt) = (0, q29) from (by have s9 := hz8.symm; subst s9; have s9 := ht11.symm; subst s9; have s9 := hq29.symm; subst s9; have s9 := hz29.symm; subst s9; exact (if_neg h32))) hQ)
      · refine T_aload_n (am_dec tX12_way_0 19 rfl) rfl ?_
        refine T_iload_n (am_dec tX12_way_0 20 rfl) rfl ?_
        refine T_callS (as := [aI t]) rfl (am_dec tX12_way_0 21 rfl) lkX12_351 rfl (Nat.le_of_ble_eq_true rfl) (by omega) (mk_isStep (d := d - 1)  t   (by omega)) (fun _ => ?_)
        refine T_nm (fun z37 hz37 => ?_)
        have hb37 := k_isStep_b t
        rw [← hz37] at hb37
        have hs37 := k_isStep_s t
        rw [← hz37] at hs37
        have K40 : ∀ (t40 : Int), t40 = (if z37 = 0 then 1 else (let z48 : Int := (k_in lt 0 12); (if z48 = 0 then 1 else (if t + lt < 40 then 0 else 1)))) →  am_T S zX12_way d u Q 68 [some (aR b), some (aI fr), some (aI tt), some (aI t), some (aI lt), none] [aI t40, aR b] (mdW w b c q29) := by
          intro t40 ht40
          have hxt40 := ht40
          dsimp only at hxt40
          have hy4 := k_in_s lt 0 12
          have hbt40 : t40 = 0 ∨ t40 = 1 := by
            rw [ht40]
            try dsimp only
            repeat' split
            all_goals first | exact Or.inl rfl | exact Or.inr rfl | apply k_in_b | apply k_isDigit_b | apply k_isSmall_b | apply k_bad_b | apply k_isIn_b | apply k_isStep_b | apply k_isFirst_b | apply k_isLine_b | apply k_seesBy_b | apply k_isWalker_b | apply k_seesOne_b | apply k_badTwo_b | apply k_sees_b | apply k_isCode_b | omega
          refine T_iconst 2 (am_dec tX12_way_0 36 rfl) rfl ⟨by decide, by decide⟩ ?_
          refine T_iconst 2 (am_dec tX12_way_0 37 rfl) rfl ⟨by decide, by decide⟩ ?_
          refine T_callV (as := [aI t40, aI 2, aI 2]) rfl (am_dec tX12_way_0 38 rfl) lkX12_275 (md_obj hl) rfl rfl (Nat.le_of_ble_eq_true rfl) (by omega) (mk_bad0 (d := d - 1) hl t40 2 2 (by omega) (hq029 (by omega)) (by omega)) (fun _ => ?_)
          refine T_nmH (W := fun x9 => mdW w b c x9) (v := (k_refuse q29 t40 2 2)) (fun q70 hq70 => ?_)
          refine T_nm (fun z70 hz70 => ?_)
          have hq070 : t40 = 0 → q70 0 0 = 0 := fun h9 => by rw [hq70]; exact k_refuse_0 (hq029 (by omega)) h9
          refine T_if_eq 78 (am_dec tX12_way_0 39 rfl) rfl (fun h73 => ?_) (fun h73 => ?_)
          · refine T_aload_n (am_dec tX12_way_1 2 rfl) rfl ?_
            refine T_callV (as := []) rfl (am_dec tX12_way_1 3 rfl) lkX12_345 (md_obj hl) rfl rfl (Nat.le_of_ble_eq_true rfl) (by omega) (mk_goes (d := d - 1) hl   hV hWd hS9 hLp hDu (by omega)) (fun _ => ?_)
            refine T_nmH (W := fun x9 => mdW w b c x9) (v := k_goes c q70) (fun q79 hq79 => ?_)
            refine T_iconst 0 (am_dec tX12_way_1 4 rfl) rfl ⟨by decide, by decide⟩ ?_
            refine T_istore (ls' := [some (aR b), some (aI fr), some (aI tt), some (aI t), some (aI lt), some (aI 0)]) (am_dec tX12_way_1 5 rfl) (by decide) rfl ?_
            refine L_k_way_85 hl c fr tt t lt hV hWd hS9 hLp hDu hWt (by omega) (by omega) _ rfl 81 0 q79 (by omega) (by omega) (fun q85 hq85 => ?_)
            refine T_aload_n (am_dec tX12_way_1 16 rfl) rfl ?_
            refine T_getfield 11 62 (am_dec tX12_way_1 17 rfl) flX12_136_11 (md_obj hl) rfl ?_
            refine T_aload_n (am_dec tX12_way_1 18 rfl) rfl ?_
            refine T_iload_n (am_dec tX12_way_1 19 rfl) rfl ?_
            refine T_callV (as := [aI fr]) rfl (am_dec tX12_way_1 20 rfl) lkX12_400 (md_obj hl) rfl rfl (Nat.le_of_ble_eq_true rfl) (by omega) (mk_fromTold (d := d - 1) hl fr  (by omega) (by omega)) (fun _ => ?_)
            refine T_nm (fun n112 hn112 => ?_)
            have hs112 := hn112
            unfold k_fromTold at hs112
            refine T_aload_n (am_dec tX12_way_1 21 rfl) rfl ?_
            refine T_aload_n (am_dec tX12_way_1 22 rfl) rfl ?_
            refine T_iload_n (am_dec tX12_way_1 23 rfl) rfl ?_
            refine T_callV (as := [aI fr]) rfl (am_dec tX12_way_1 24 rfl) lkX12_400 (md_obj hl) rfl rfl (Nat.le_of_ble_eq_true rfl) (by omega) (mk_fromTold (d := d - 1) hl fr  (by omega) (by omega)) (fun _ => ?_)
            refine T_nm (fun n118 hn118 => ?_)
            have hs118 := hn118
            unfold k_fromTold at hs118
            refine T_iload_n (am_dec tX12_way_1 25 rfl) rfl ?_
            refine T_callV (as := [aI n118, aI t]) rfl (am_dec tX12_way_1 26 rfl) lkX12_391 (md_obj hl) rfl rfl (Nat.le_of_ble_eq_true rfl) (by omega) (mk_needs (d := d - 1) hl n118 t  hV hWt (by omega) (by omega) (by omega)) (fun _ => ?_)
            refine T_iastore (am_dec tX12_way_1 27 rfl) (md_least hl) (by omega) (by omega) ?_
            refine am_wE (w2 := mdW w b c (am_put q85 729 n112.toNat (k_needs c q85 n118 t))) (md_pq (Nat.le_of_ble_eq_true rfl) (fun _ _ => rfl)) ?_
            refine T_iconst 1 (am_dec tX12_way_1 28 rfl) rfl ⟨by decide, by decide⟩ ?_
            refine T_istore (ls' := [some (aR b), some (aI fr), some (aI tt), some (aI t), some (aI lt), some (aI 1)]) (am_dec tX12_way_1 29 rfl) (by decide) rfl ?_
            refine T_weak (ls' := [some (aR b), none, some (aI tt), some (aI t), some (aI lt), some (aI 1)]) (am_sub_s (am_sub_n (am_sub_s (am_sub_s (am_sub_s (am_sub_s am_sub_nil)))))) ?_
            refine L_k_way_129 hl c tt t lt hV hWd hS9 hLp hDu hWt (by omega) (by omega) _ rfl (lt + 1 - 1).toNat 1 (am_put q85 729 n112.toNat (k_needs c q85 n118 t)) (by omega) (by omega) (fun q129 hq129 => ?_)
            refine T_aload_n (am_dec tX12_way_2 0 rfl) rfl ?_
            refine T_getfield 11 62 (am_dec tX12_way_2 1 rfl) flX12_136_11 (md_obj hl) rfl ?_
            refine T_aload_n (am_dec tX12_way_2 2 rfl) rfl ?_
            refine T_iload_n (am_dec tX12_way_2 3 rfl) rfl ?_
            refine T_callV (as := [aI tt]) rfl (am_dec tX12_way_2 4 rfl) lkX12_400 (md_obj hl) rfl rfl (Nat.le_of_ble_eq_true rfl) (by omega) (mk_fromTold (d := d - 1) hl tt  (by omega) (by omega)) (fun _ => ?_)
            refine T_nm (fun n156 hn156 => ?_)
            have hs156 := hn156
            unfold k_fromTold at hs156
            refine T_ialoadE (x := q129 729 n156.toNat) (am_dec tX12_way_2 5 rfl) (md_least hl) (by omega) (by omega) rfl ?_
            exact T_ireturn (am_dec tX12_way_2 6 rfl) rfl (am_tr (fun x9 => Q (.inl (some (aI (x9.1)))) (mdW w b c x9.2)) (y := ((q129 729 n156.toNat), q129)) (show (k_way c q fr tt t lt) = ((q129 729 n156.toNat), q129) from (by have s9 := hz8.symm; subst s9; have s9 := ht11.symm; subst s9; have s9 := hq29.symm; subst s9; have s9 := hz29.symm; subst s9; have s9 := hz37.symm; subst s9; have s9 := ht40.symm; subst s9; have s9 := hq70.symm; subst s9; have s9 := hz70.symm; subst s9; have s9 := hq79.symm; subst s9; have s9 := hq85.symm; subst s9; have s9 := hn112.symm; subst s9; have s9 := hn118.symm; subst s9; have s9 := hq129.symm; subst s9; have s9 := hn156.symm; subst s9; exact ((if_pos h32).trans (if_pos h73)))) hQ)
          · refine T_iconst 0 (am_dec tX12_way_1 0 rfl) rfl ⟨by decide, by decide⟩ ?_
            exact T_ireturn (am_dec tX12_way_1 1 rfl) rfl (am_tr (fun x9 => Q (.inl (some (aI (x9.1)))) (mdW w b c x9.2)) (y := (0, q70)) (show (k_way c q fr tt t lt) = (0, q70) from (by have s9 := hz8.symm; subst s9; have s9 := ht11.symm; subst s9; have s9 := hq29.symm; subst s9; have s9 := hz29.symm; subst s9; have s9 := hz37.symm; subst s9; have s9 := ht40.symm; subst s9; have s9 := hq70.symm; subst s9; have s9 := hz70.symm; subst s9; exact ((if_pos h32).trans (if_neg h73)))) hQ)
        refine T_if_eq 63 (am_dec tX12_way_0 22 rfl) rfl (fun h40 => ?_) (fun h40 => ?_)
        · refine T_iconst 1 (am_dec tX12_way_0 33 rfl) rfl ⟨by decide, by decide⟩ ?_
          refine T_goto 68 (am_dec tX12_way_0 34 rfl) rfl ?_
          exact K40 _ (if_pos h40).symm
        · refine T_iload (am_dec tX12_way_0 23 rfl) rfl ?_
          refine T_iconst 0 (am_dec tX12_way_0 24 rfl) rfl ⟨by decide, by decide⟩ ?_
          refine T_bipush 12 (am_dec tX12_way_0 25 rfl) rfl ⟨by decide, by decide⟩ ?_
          refine T_callS (as := [aI lt, aI 0, aI 12]) rfl (am_dec tX12_way_0 26 rfl) lkX12_194 rfl (Nat.le_of_ble_eq_true rfl) (by omega) (mk_in (d := d - 1)  lt 0 12   ) (fun _ => ?_)
          refine T_nm (fun z48 hz48 => ?_)
          have hb48 := k_in_b lt 0 12
          rw [← hz48] at hb48
          have hs48 := k_in_s lt 0 12
          rw [← hz48] at hs48
          have K51 : ∀ (t51 : Int), t51 = (if z48 = 0 then 1 else (if t + lt < 40 then 0 else 1)) →  am_T S zX12_way d u Q 68 [some (aR b), some (aI fr), some (aI tt), some (aI t), some (aI lt), none] [aI t51, aR b] (mdW w b c q29) := by
            intro t51 ht51
            have hbt51 : t51 = 0 ∨ t51 = 1 := by
              rw [ht51]
              try dsimp only
              repeat' split
              all_goals first | exact Or.inl rfl | exact Or.inr rfl | apply k_in_b | apply k_isDigit_b | apply k_isSmall_b | apply k_bad_b | apply k_isIn_b | apply k_isStep_b | apply k_isFirst_b | apply k_isLine_b | apply k_seesBy_b | apply k_isWalker_b | apply k_seesOne_b | apply k_badTwo_b | apply k_sees_b | apply k_isCode_b | omega
            exact K40 _ (by have s9 := hz48.symm; subst s9; have s9 := ht51.symm; subst s9; exact (if_neg h40).symm)
          refine T_if_eq 63 (am_dec tX12_way_0 27 rfl) rfl (fun h51 => ?_) (fun h51 => ?_)
          · refine T_iconst 1 (am_dec tX12_way_0 33 rfl) rfl ⟨by decide, by decide⟩ ?_
            refine T_goto 68 (am_dec tX12_way_0 34 rfl) rfl ?_
            exact K51 _ (if_pos h51).symm
          · refine T_iload_n (am_dec tX12_way_0 28 rfl) rfl ?_
            refine T_iload (am_dec tX12_way_0 29 rfl) rfl ?_
            refine T_iadd (t + lt) (am_dec tX12_way_0 30 rfl) rfl ⟨by omega, by omega⟩ ?_
            refine T_bipush 40 (am_dec tX12_way_0 31 rfl) rfl ⟨by decide, by decide⟩ ?_
            have K60 : ∀ (t60 : Int), t60 = (if t + lt < 40 then 0 else 1) →  am_T S zX12_way d u Q 68 [some (aR b), some (aI fr), some (aI tt), some (aI t), some (aI lt), none] [aI t60, aR b] (mdW w b c q29) := by
              intro t60 ht60
              have hbt60 : t60 = 0 ∨ t60 = 1 := by
                rw [ht60]
                try dsimp only
                repeat' split
                all_goals first | exact Or.inl rfl | exact Or.inr rfl | apply k_in_b | apply k_isDigit_b | apply k_isSmall_b | apply k_bad_b | apply k_isIn_b | apply k_isStep_b | apply k_isFirst_b | apply k_isLine_b | apply k_seesBy_b | apply k_isWalker_b | apply k_seesOne_b | apply k_badTwo_b | apply k_sees_b | apply k_isCode_b | omega
              exact K51 _ (by have s9 := ht60.symm; subst s9; exact (if_neg h51).symm)
            refine T_icmp_lt 67 (am_dec tX12_way_0 32 rfl) rfl (fun h60 => ?_) (fun h60 => ?_)
            · refine T_iconst 0 (am_dec tX12_way_0 35 rfl) rfl ⟨by decide, by decide⟩ ?_
              exact K60 _ (if_pos h60).symm
            · refine T_iconst 1 (am_dec tX12_way_0 33 rfl) rfl ⟨by decide, by decide⟩ ?_
              refine T_goto 68 (am_dec tX12_way_0 34 rfl) rfl ?_
              exact K60 _ (if_neg h60).symm
    refine T_if_eq 22 (am_dec tX12_way_0 7 rfl) rfl (fun h11 => ?_) (fun h11 => ?_)
    · refine T_iconst 1 (am_dec tX12_way_0 12 rfl) rfl ⟨by decide, by decide⟩ ?_
      refine T_goto 27 (am_dec tX12_way_0 13 rfl) rfl ?_
      exact K11 _ (if_pos h11).symm
    · refine T_aload_n (am_dec tX12_way_0 8 rfl) rfl ?_
      refine T_iload_n (am_dec tX12_way_0 9 rfl) rfl ?_
      refine T_callV (as := [aI tt]) rfl (am_dec tX12_way_0 10 rfl) lkX12_397 (md_obj hl) rfl rfl (Nat.le_of_ble_eq_true rfl) (by omega) (mk_isCode (d := d - 1) hl tt  hV (by omega)) (fun _ => ?_)
      refine T_nm (fun z16 hz16 => ?_)
      have hb16 := k_isCode_b c tt
      rw [← hz16] at hb16
      have hs16 := k_isCode_s c tt
      rw [← hz16] at hs16
      have K19 : ∀ (t19 : Int), t19 = (if z16 = 0 then 1 else 0) →  am_T S zX12_way d u Q 27 [some (aR b), some (aI fr), some (aI tt), some (aI t), some (aI lt), none] [aI t19, aR b] (mdW w b c (am_put q 0 0 0)) := by
        intro t19 ht19
        have hbt19 : t19 = 0 ∨ t19 = 1 := by
          rw [ht19]
          try dsimp only
          repeat' split
          all_goals first | exact Or.inl rfl | exact Or.inr rfl | apply k_in_b | apply k_isDigit_b | apply k_isSmall_b | apply k_bad_b | apply k_isIn_b | apply k_isStep_b | apply k_isFirst_b | apply k_isLine_b | apply k_seesBy_b | apply k_isWalker_b | apply k_seesOne_b | apply k_badTwo_b | apply k_sees_b | apply k_isCode_b | omega
        exact K11 _ (by have s9 := hz16.symm; subst s9; have s9 := ht19.symm; subst s9; exact (if_neg h11).symm)
      refine T_if_ne 26 (am_dec tX12_way_0 11 rfl) rfl (fun h19 => ?_) (fun h19 => ?_)
      · refine T_iconst 0 (am_dec tX12_way_0 14 rfl) rfl ⟨by decide, by decide⟩ ?_
        exact K19 _ (if_neg h19).symm
      · refine T_iconst 1 (am_dec tX12_way_0 12 rfl) rfl ⟨by decide, by decide⟩ ?_
        refine T_goto 27 (am_dec tX12_way_0 13 rfl) rfl ?_
        exact K19 _ (if_pos h19).symm
  exact key _ ⟨rfl, rfl⟩
/-- the ways by their letters are on the port -/
def MdPt (c : am_F) : Prop := ∀ (wk : Int) (m : Nat), 0 ≤ wk → wk < c 4 4 → (m : Int) ≤ c (108 + wk.toNat) 3 → (0 ≤ (am_fold (g_k_placeOf_52 c wk) 0 m (c (108 + wk.toNat) 0, c (108 + wk.toNat) 1)).1 ∧ (am_fold (g_k_placeOf_52 c wk) 0 m (c (108 + wk.toNat) 0, c (108 + wk.toNat) 1)).1 < c 4 0) ∧ 0 ≤ (am_fold (g_k_placeOf_52 c wk) 0 m (c (108 + wk.toNat) 0, c (108 + wk.toNat) 1)).2 ∧ (am_fold (g_k_placeOf_52 c wk) 0 m (c (108 + wk.toNat) 0, c (108 + wk.toNat) 1)).2 < c 4 1
theorem MdPl_of {c : am_F} (hV : MdV c) (h : MdPt c) : MdPl c := by
  intro wk t h0 h1
  have a0 := MdV_0 hV
  have a1 := MdV_1 hV
  unfold k_placeOf
  try dsimp only
  split
  · left; rfl
  · split
    · rename_i h2 h3
      have e := h wk (t - c (108 + wk.toNat) 2).toNat h0 h1 (by omega)
      right
      omega
    · left; rfl
theorem am_put_kr {c : am_F} {i k k' : Nat} {v : Int} (hk : k' ≠ k) : am_put c k i v k' = c k' := funext fun _ => if_neg hk
theorem MdV_pw {c : am_F} {wk f : Int} (h : MdV c) : MdV (am_put c (108 + wk.toNat) 2 f) := by
  unfold MdV
  rw [am_put_kr (by omega : 4 ≠ 108 + wk.toNat), am_put_kr (by omega : 0 ≠ 108 + wk.toNat)]
  exact h
theorem MdWt_pw {c : am_F} {wk f : Int} (hw : 0 ≤ wk ∧ wk < 4) (h : MdWt c) : MdWt (am_put c (108 + wk.toNat) 2 f) := fun k h0 h1 => by
  rw [am_put_kr (by omega : 4 ≠ 108 + wk.toNat)] at h1
  rw [am_put_kr (by omega : 118 + k.toNat ≠ 108 + wk.toNat)]
  exact h k h0 h1
theorem MdK_pw {c : am_F} {wk f : Int} (hf : 0 ≤ f ∧ f ≤ 39) (h : MdK c) : MdK (am_put c (108 + wk.toNat) 2 f) := fun k h0 h1 => by
  rw [am_put_kr (by omega : 4 ≠ 108 + wk.toNat)] at h1
  have e := h k h0 h1
  by_cases hk : 108 + k.toNat = 108 + wk.toNat
  · rw [hk] at e ⊢
    rw [am_put_i (j := 0) (by decide), am_put_i (j := 1) (by decide), am_put_i (j := 3) (by decide), am_put_s]
    omega
  · rw [am_put_kr hk]
    exact e
theorem g_place_pw {c : am_F} {wk k f : Int} (i : Int) (x : Int × Int) (hi : 0 ≤ i) : g_k_placeOf_52 (am_put c (108 + wk.toNat) 2 f) k i x = g_k_placeOf_52 c k i x := by
  unfold g_k_placeOf_52
  by_cases hk : 108 + k.toNat = 108 + wk.toNat
  · rw [hk, am_put_i (by omega)]
  · rw [am_put_kr hk]
theorem am_fold_eq {α : Type} {g g' : Int → α → α} : ∀ (n : Nat) (i : Int) (x : α), (∀ j y, i ≤ j → j < i + n → g j y = g' j y) → am_fold g i n x = am_fold g' i n x := by
  intro n
  induction n with
  | zero => intro i x _; rfl
  | succ n ih =>
    intro i x h
    rw [am_fold_s, am_fold_s, h i x (by omega) (by omega)]
    exact ih (i + 1) (g' i x) (fun j y h1 h2 => h j y (by omega) (by omega))
theorem MdPt_pw {c : am_F} {wk f : Int} (h : MdPt c) : MdPt (am_put c (108 + wk.toNat) 2 f) := fun k m h0 h1 h2 => by
  rw [am_put_kr (by omega : 4 ≠ 108 + wk.toNat)] at h1 ⊢
  rw [am_fold_eq (g' := g_k_placeOf_52 c k) m 0 _ (fun j y h3 _ => g_place_pw j y h3)]
  by_cases hk : 108 + k.toNat = 108 + wk.toNat
  · have e := h k m h0 h1
    rw [hk] at e h2 ⊢
    rw [am_put_i (j := 3) (by decide)] at h2
    rw [am_put_i (j := 0) (by decide), am_put_i (j := 1) (by decide)]
    exact e h2
  · rw [am_put_kr hk] at h2 ⊢
    exact h k m h0 h1 h2
def k_walked (c : am_F) (q : am_F) (wk : Int) (fr : Int) : Int × am_F := (let v3_8 : Int := c (108 + wk.toNat) 2; (let v4_23 : Int := (k_needsAll (am_put c (108 + wk.toNat) 2 fr) q wk); (v4_23, (am_put (am_put c (108 + wk.toNat) 2 fr) (108 + wk.toNat) 2 v3_8))))
theorem mk_walked {S : am_S} {d u : Nat} {w : AH} {b : Nat} (hl : b + 735 ≤ w.length) {c : am_F} {q : am_F} (wk : Int) (fr : Int) (hV : MdV c) (hWt : MdWt c) (hK9 : MdK c) (hPt : MdPt c) (hwk : 0 ≤ wk ∧ wk < c 4 4) (hf : 0 ≤ fr ∧ fr ≤ 39) (hd : 4 ≤ d) : am_Out S zX12_walked d u [aR b, aI wk, aI fr] (mdW w b c q) (.inl (some (aI ((k_walked c q wk fr).1)))) (mdW w b ((k_walked c q wk fr).2) q) := by
  have key : ∀ Q : AO → AH → Prop, Q (.inl (some (aI ((k_walked c q wk fr).1)))) (mdW w b ((k_walked c q wk fr).2) q) → am_M S zX12_walked d u [aR b, aI wk, aI fr] (mdW w b c q) Q := by
    intro Q hQ
    refine am_body rfl (by decide +kernel) rfl (am_cats_cons rfl ( am_cats_cons rfl ( am_cats_cons rfl (am_cats_nil)))) (Nat.le_of_ble_eq_true rfl) (?_ : am_T _ _ _ _ _ 0 [some (aR b), some (aI wk), some (aI fr), none, none] [] (mdW w b c q))
    obtain ⟨vl4, vu4⟩ := MdV_4 hV
    refine T_aload_n (am_dec tX12_walked_0 0 rfl) rfl ?_
    refine T_getfield 11 25 (am_dec tX12_walked_0 1 rfl) flX12_67_11 (md_obj hl) rfl ?_
    refine T_iload_n (am_dec tX12_walked_0 2 rfl) rfl ?_
    refine T_aaloadR (r := b + (108 + wk.toNat)) (am_dec tX12_walked_0 3 rfl) (by decide) (mh_walker hl) (by omega) (by omega) (if_pos (by omega)) ?_
    refine T_iconst 2 (am_dec tX12_walked_0 4 rfl) rfl ⟨by decide, by decide⟩ ?_
    refine T_ialoadE (x := c (108 + wk.toNat) 2) (am_dec tX12_walked_0 5 rfl) (mr_walker hl (i := wk) (by omega) (by omega)) (by omega) (by omega) rfl ?_
    refine T_nm (fun v3_8 hv3_8 => ?_)
    refine T_istore_n (ls' := [some (aR b), some (aI wk), some (aI fr), some (aI v3_8), none]) (am_dec tX12_walked_0 6 rfl) (by decide) rfl ?_
    refine T_aload_n (am_dec tX12_walked_0 7 rfl) rfl ?_
    refine T_getfield 11 25 (am_dec tX12_walked_0 8 rfl) flX12_67_11 (md_obj hl) rfl ?_
    refine T_iload_n (am_dec tX12_walked_0 9 rfl) rfl ?_
    refine T_aaloadR (r := b + (108 + wk.toNat)) (am_dec tX12_walked_0 10 rfl) (by decide) (mh_walker hl) (by omega) (by omega) (if_pos (by omega)) ?_
    refine T_iconst 2 (am_dec tX12_walked_0 11 rfl) rfl ⟨by decide, by decide⟩ ?_
    refine T_iload_n (am_dec tX12_walked_0 12 rfl) rfl ?_
    refine T_iastore (am_dec tX12_walked_0 13 rfl) (mr_walker hl (i := wk) (by omega) (by omega)) (by omega) (by omega) ?_
    refine am_wE (w2 := mdW w b (am_put c (108 + wk.toNat) 2 fr) q) (md_pc (by omega) (fun f g => md_t_walker f g (by omega))) ?_
    refine T_aload_n (am_dec tX12_walked_0 14 rfl) rfl ?_
    have e4 : (am_put c (108 + wk.toNat) 2 fr) 4 4 = c 4 4 := congrFun (am_put_kr (by omega)) 4
    refine T_iload_n (am_dec tX12_walked_0 15 rfl) rfl ?_
    refine T_callV (as := [aI wk]) rfl (am_dec tX12_walked_0 16 rfl) lkX12_394 (md_obj hl) rfl rfl (Nat.le_of_ble_eq_true rfl) (by omega) (mk_needsAll (d := d - 1) hl wk  (MdV_pw hV) (MdK_pw (by omega) hK9) (MdPl_of (MdV_pw hV) (MdPt_pw hPt)) (MdWt_pw (by omega) hWt) (by omega) (by omega)) (fun _ => ?_)
    refine T_nm (fun v4_23 hv4_23 => ?_)
    refine T_istore (ls' := [some (aR b), some (aI wk), some (aI fr), some (aI v3_8), some (aI v4_23)]) (am_dec tX12_walked_0 17 rfl) (by decide) rfl ?_
    refine T_aload_n (am_dec tX12_walked_0 18 rfl) rfl ?_
    refine T_getfield 11 25 (am_dec tX12_walked_0 19 rfl) flX12_67_11 (md_obj hl) rfl ?_
    refine T_iload_n (am_dec tX12_walked_0 20 rfl) rfl ?_
    refine T_aaloadR (r := b + (108 + wk.toNat)) (am_dec tX12_walked_0 21 rfl) (by decide) (mh_walker hl) (by omega) (by omega) (if_pos (by omega)) ?_
    refine T_iconst 2 (am_dec tX12_walked_0 22 rfl) rfl ⟨by decide, by decide⟩ ?_
    refine T_iload_n (am_dec tX12_walked_0 23 rfl) rfl ?_
    refine T_iastore (am_dec tX12_walked_0 24 rfl) (mr_walker hl (i := wk) (by omega) (by omega)) (by omega) (by omega) ?_
    refine am_wE (w2 := mdW w b (am_put (am_put c (108 + wk.toNat) 2 fr) (108 + wk.toNat) 2 v3_8) q) (md_pc (by omega) (fun f g => md_t_walker f g (by omega))) ?_
    refine T_iload (am_dec tX12_walked_0 25 rfl) rfl ?_
    exact T_ireturn (am_dec tX12_walked_0 26 rfl) rfl (am_tr (fun x9 => Q (.inl (some (aI (x9.1)))) (mdW w b x9.2 q)) (y := (v4_23, (am_put (am_put c (108 + wk.toNat) 2 fr) (108 + wk.toNat) 2 v3_8))) (show (k_walked c q wk fr) = (v4_23, (am_put (am_put c (108 + wk.toNat) 2 fr) (108 + wk.toNat) 2 v3_8)) from (by have s9 := hv3_8.symm; subst s9; have s9 := hv4_23.symm; subst s9; exact rfl)) hQ)
  exact key _ ⟨rfl, rfl⟩
def k_walkedN (c q : am_F) (wk fr : Int) : Int := k_needsAll (am_put c (108 + wk.toNat) 2 fr) q wk
theorem mk_walked' {S : am_S} {d u : Nat} {w : AH} {b : Nat} (hl : b + 735 ≤ w.length) {c q : am_F} (wk fr : Int) (hV : MdV c) (hWt : MdWt c) (hK9 : MdK c) (hPt : MdPt c) (hwk : 0 ≤ wk ∧ wk < c 4 4) (hf : 0 ≤ fr ∧ fr ≤ 39) (hd : 5 ≤ d) : am_Out S zX12_walked d u [aR b, aI wk, aI fr] (mdW w b c q) (.inl (some (aI (k_walkedN c q wk fr)))) (mdW w b c q) := by
  have h := mk_walked (S := S) (d := d) (u := u) (w := w) hl (c := c) (q := q) wk fr hV hWt hK9 hPt hwk hf (by omega)
  have e : (k_walked c q wk fr).2 = c := by
    show am_put (am_put c (108 + wk.toNat) 2 fr) (108 + wk.toNat) 2 (c (108 + wk.toNat) 2) = c
    funext k j
    by_cases hk : k = 108 + wk.toNat
    · subst hk
      by_cases hj : j = 2
      · subst hj
        rw [am_put_s]
      · rw [am_put_i hj, am_put_i hj]
    · rw [am_put_k hk, am_put_k hk]
  have e1 : (k_walked c q wk fr).1 = k_walkedN c q wk fr := by
    unfold k_walked k_walkedN
    dsimp only
  rw [e, e1] at h
  exact h
def g_k_start_69 (c : am_F) (q : am_F) (wk : Int) (t : Int) (x9 : Int × Int) : Int × Int := let bst := x9.1; let few := x9.2; (let n89 : Int := (k_walkedN c q wk t); (let bst_98 : Int := (if n89 < few then t else bst); (let few_98 : Int := (if n89 < few then n89 else few); (bst_98, few_98))))
theorem L_k_start_69 {S : am_S} {d u : Nat} {Q : AO → AH → Prop} {w : AH} {b : Nat} (hl : b + 735 ≤ w.length) (c : am_F) (q : am_F) (wk : Int) (what : Int) (hV : MdV c) (hWd : MdWd c) (hS9 : MdS c) (hLp : MdLp c) (hDu : MdDu c) (hK9 : MdK c) (hPt : MdPt c) (hWt : MdWt c) (hwk : 0 ≤ wk ∧ wk < c 4 4) (hd : 6 ≤ d) (B9 : Int) (hB : B9 = 40 - c (108 + wk.toNat) 3) : ∀ (n : Nat) (t : Int) (bst : Int) (few : Int), t + n = B9 → 1 ≤ t → (∀ (bst' : Int) (few' : Int), bst' = (am_fold (g_k_start_69 c q wk) t n (bst, few)).1 → few' = (am_fold (g_k_start_69 c q wk) t n (bst, few)).2 → am_T S zX12_start d u Q 117 [none, none, some (aI what), some (aI bst'), some (aI few'), none, none] [] (mdW w b c q)) → am_T S zX12_start d u Q 69 [some (aR b), some (aI wk), some (aI what), some (aI bst), some (aI few), some (aI t), none] [] (mdW w b c q) := by
  intro n
  induction n with
  | zero =>
    intro t bst few hi9 h0i k9
    have e9 : t = B9 := by omega
    subst e9
    obtain ⟨vl0, vu0⟩ := MdV_0 hV
    obtain ⟨vl1, vu1⟩ := MdV_1 hV
    obtain ⟨vl4, vu4⟩ := MdV_4 hV
    have kw := hK9 wk (by omega) (by omega)
    refine T_iload (am_dec tX12_start_1 1 rfl) rfl ?_
    refine T_aload_n (am_dec tX12_start_1 2 rfl) rfl ?_
    refine T_getfield 11 25 (am_dec tX12_start_1 3 rfl) flX12_67_11 (md_obj hl) rfl ?_
    refine T_iload_n (am_dec tX12_start_1 4 rfl) rfl ?_
    refine T_aaloadR (r := b + (108 + wk.toNat)) (am_dec tX12_start_1 5 rfl) (by decide) (mh_walker hl) (by omega) (by omega) (if_pos (by omega)) ?_
    refine T_iconst 3 (am_dec tX12_start_1 6 rfl) rfl ⟨by decide, by decide⟩ ?_
    refine T_ialoadE (x := c (108 + wk.toNat) 3) (am_dec tX12_start_1 7 rfl) (mr_walker hl (i := wk) (by omega) (by omega)) (by omega) (by omega) rfl ?_
    refine T_iadd (t + (c (108 + wk.toNat) 3)) (am_dec tX12_start_1 8 rfl) rfl ⟨by omega, by omega⟩ ?_
    refine T_bipush 40 (am_dec tX12_start_1 9 rfl) rfl ⟨by decide, by decide⟩ ?_
    refine T_icmp_ge 117 (am_dec tX12_start_1 10 rfl) rfl (fun h82 => ?_) (fun h82 => by exfalso; omega)
    refine T_weak (ls' := [none, none, some (aI what), some (aI bst), some (aI few), none, none]) (am_sub_n (am_sub_n (am_sub_s (am_sub_s (am_sub_s (am_sub_n (am_sub_n am_sub_nil))))))) ?_
    exact k9 bst few rfl rfl
  | succ n ih =>
    intro t bst few hi9 h0i k9
    obtain ⟨vl0, vu0⟩ := MdV_0 hV
    obtain ⟨vl1, vu1⟩ := MdV_1 hV
    obtain ⟨vl4, vu4⟩ := MdV_4 hV
    have kw := hK9 wk (by omega) (by omega)
    refine T_iload (am_dec tX12_start_1 1 rfl) rfl ?_
    refine T_aload_n (am_dec tX12_start_1 2 rfl) rfl ?_
    refine T_getfield 11 25 (am_dec tX12_start_1 3 rfl) flX12_67_11 (md_obj hl) rfl ?_
    refine T_iload_n (am_dec tX12_start_1 4 rfl) rfl ?_
    refine T_aaloadR (r := b + (108 + wk.toNat)) (am_dec tX12_start_1 5 rfl) (by decide) (mh_walker hl) (by omega) (by omega) (if_pos (by omega)) ?_
    refine T_iconst 3 (am_dec tX12_start_1 6 rfl) rfl ⟨by decide, by decide⟩ ?_
    refine T_ialoadE (x := c (108 + wk.toNat) 3) (am_dec tX12_start_1 7 rfl) (mr_walker hl (i := wk) (by omega) (by omega)) (by omega) (by omega) rfl ?_
    refine T_iadd (t + (c (108 + wk.toNat) 3)) (am_dec tX12_start_1 8 rfl) rfl ⟨by omega, by omega⟩ ?_
    refine T_bipush 40 (am_dec tX12_start_1 9 rfl) rfl ⟨by decide, by decide⟩ ?_
    refine T_icmp_ge 117 (am_dec tX12_start_1 10 rfl) rfl (fun h82 => by exfalso; omega) (fun h82 => ?_)
    refine T_aload_n (am_dec tX12_start_1 11 rfl) rfl ?_
    refine T_iload_n (am_dec tX12_start_1 12 rfl) rfl ?_
    refine T_iload (am_dec tX12_start_1 13 rfl) rfl ?_
    refine T_callV (as := [aI wk, aI t]) rfl (am_dec tX12_start_1 14 rfl) lkX12_406 (md_obj hl) rfl rfl (Nat.le_of_ble_eq_true rfl) (by omega) (mk_walked' (d := d - 1) hl wk t hV hWt hK9 hPt (by omega) (by omega) (by omega)) (fun _ => ?_)
    refine T_nm (fun n89 hn89 => ?_)
    refine T_istore (ls' := [some (aR b), some (aI wk), some (aI what), some (aI bst), some (aI few), some (aI t), some (aI n89)]) (am_dec tX12_start_1 15 rfl) (by decide) rfl ?_
    refine T_iload (am_dec tX12_start_1 16 rfl) rfl ?_
    refine T_iload (am_dec tX12_start_1 17 rfl) rfl ?_
    have K98 : ∀ (bst_98 : Int), ∀ (few_98 : Int), bst_98 = (if n89 < few then t else bst) → few_98 = (if n89 < few then n89 else few) →  am_T S zX12_start d u Q 111 [some (aR b), some (aI wk), some (aI what), some (aI bst_98), some (aI few_98), some (aI t), none] [] (mdW w b c q) := by
      intro bst_98 few_98 hbst_98 hfew_98
      refine T_iinc (ls' := [some (aR b), some (aI wk), some (aI what), some (aI bst_98), some (aI few_98), some (aI (t + 1)), none]) (t + 1) (am_dec tX12_start_1 24 rfl) rfl rfl ⟨by omega, by omega⟩ (by decide) rfl ?_
      refine T_goto 69 (am_dec tX12_start_1 25 rfl) rfl ?_
      have e9 : (g_k_start_69 c q wk) t (bst, few) = (bst_98, few_98) := (by have s9 := hn89.symm; subst s9; have s9 := hbst_98.symm; subst s9; have s9 := hfew_98.symm; subst s9; exact rfl)
      simp only [am_fold_s, e9] at k9
      exact ih (t + 1) bst_98 few_98 (by omega) (by omega) k9
    refine T_icmp_lt 104 (am_dec tX12_start_1 18 rfl) rfl (fun h98 => ?_) (fun h98 => ?_)
    · refine T_iload (am_dec tX12_start_1 20 rfl) rfl ?_
      refine T_istore_n (ls' := [some (aR b), some (aI wk), some (aI what), some (aI t), some (aI few), some (aI t), some (aI n89)]) (am_dec tX12_start_1 21 rfl) (by decide) rfl ?_
      refine T_iload (am_dec tX12_start_1 22 rfl) rfl ?_
      refine T_istore (ls' := [some (aR b), some (aI wk), some (aI what), some (aI t), some (aI n89), some (aI t), some (aI n89)]) (am_dec tX12_start_1 23 rfl) (by decide) rfl ?_
      refine T_weak (ls' := [some (aR b), some (aI wk), some (aI what), some (aI t), some (aI n89), some (aI t), none]) (am_sub_s (am_sub_s (am_sub_s (am_sub_s (am_sub_s (am_sub_s (am_sub_n am_sub_nil))))))) ?_
      exact K98 _ _ (if_pos h98).symm (if_pos h98).symm
    · refine T_goto 111 (am_dec tX12_start_1 19 rfl) rfl ?_
      refine T_weak (ls' := [some (aR b), some (aI wk), some (aI what), some (aI bst), some (aI few), some (aI t), none]) (am_sub_s (am_sub_s (am_sub_s (am_sub_s (am_sub_s (am_sub_s (am_sub_n am_sub_nil))))))) ?_
      exact K98 _ _ (if_neg h98).symm (if_neg h98).symm
def k_start (c : am_F) (q : am_F) (wk : Int) (what : Int) : Int × am_F := (let z8 : Int := (k_isWalker c wk); (let t11 : Int := (if z8 = 0 then 1 else 0); (let q21 : am_F := (k_refuse (am_put q 0 0 0) t11 1 1); (let z21 : Int := (if t11 = 0 then 0 else 1); (if z21 = 0 then (let z31 : Int := (k_in what 0 1); (let t34 : Int := (if z31 = 0 then 1 else 0); (let q44 : am_F := (k_refuse q21 t34 2 2); (let z44 : Int := (if t34 = 0 then 0 else 1); (if z44 = 0 then (let q53 : am_F := k_goes c q44; (let n61 : Int := (k_walkedN c q53 wk 0); (let bst_69 : Int := (am_fold (g_k_start_69 c q53 wk) 1 (40 - c (108 + wk.toNat) 3 - 1).toNat (0, n61)).1; (let few_69 : Int := (am_fold (g_k_start_69 c q53 wk) 1 (40 - c (108 + wk.toNat) 3 - 1).toNat (0, n61)).2; (let t118 : Int := (if what = 0 then bst_69 else few_69); (t118, q53)))))) else (0, q44)))))) else (0, q21))))))
theorem mk_start {S : am_S} {d u : Nat} {w : AH} {b : Nat} (hl : b + 735 ≤ w.length) {c : am_F} {q : am_F} (wk : Int) (what : Int) (hV : MdV c) (hWd : MdWd c) (hS9 : MdS c) (hLp : MdLp c) (hDu : MdDu c) (hK9 : MdK c) (hPt : MdPt c) (hWt : MdWt c) (hd : 6 ≤ d) : am_Out S zX12_start d u [aR b, aI wk, aI what] (mdW w b c q) (.inl (some (aI ((k_start c q wk what).1)))) (mdW w b c ((k_start c q wk what).2)) := by
  have key : ∀ Q : AO → AH → Prop, Q (.inl (some (aI ((k_start c q wk what).1)))) (mdW w b c ((k_start c q wk what).2)) → am_M S zX12_start d u [aR b, aI wk, aI what] (mdW w b c q) Q := by
    intro Q hQ
    refine am_body rfl (by decide +kernel) rfl (am_cats_cons rfl ( am_cats_cons rfl ( am_cats_cons rfl (am_cats_nil)))) (Nat.le_of_ble_eq_true rfl) (?_ : am_T _ _ _ _ _ 0 [some (aR b), some (aI wk), some (aI what), none, none, none, none] [] (mdW w b c q))
    obtain ⟨vl0, vu0⟩ := MdV_0 hV
    obtain ⟨vl1, vu1⟩ := MdV_1 hV
    obtain ⟨vl4, vu4⟩ := MdV_4 hV
    refine T_aload_n (am_dec tX12_start_0 0 rfl) rfl ?_
    refine T_iconst 0 (am_dec tX12_start_0 1 rfl) rfl ⟨by decide, by decide⟩ ?_
    refine T_putfield (fs' := mdO b (c 0) (am_up (q 0) 0 0)) 11 0 (am_dec tX12_start_0 2 rfl) flX12_160_11 rfl rfl rfl trivial (md_obj hl) (Nat.le_of_ble_eq_true rfl) rfl ?_
    refine am_wE (w2 := mdW w b c (am_put q 0 0 0)) (md_fq) ?_
    refine T_aload_n (am_dec tX12_start_0 3 rfl) rfl ?_
    refine T_aload_n (am_dec tX12_start_0 4 rfl) rfl ?_
    refine T_iload_n (am_dec tX12_start_0 5 rfl) rfl ?_
    refine T_callV (as := [aI wk]) rfl (am_dec tX12_start_0 6 rfl) lkX12_365 (md_obj hl) rfl rfl (Nat.le_of_ble_eq_true rfl) (by omega) (mk_isWalker (d := d - 1) hl wk  hV (by omega)) (fun _ => ?_)
    refine T_nm (fun z8 hz8 => ?_)
    have hb8 := k_isWalker_b c wk
    rw [← hz8] at hb8
    have hs8 := k_isWalker_s c wk
    rw [← hz8] at hs8
    have K11 : ∀ (t11 : Int), t11 = (if z8 = 0 then 1 else 0) →  am_T S zX12_start d u Q 19 [some (aR b), some (aI wk), some (aI what), none, none, none, none] [aI t11, aR b] (mdW w b c (am_put q 0 0 0)) := by
      intro t11 ht11
      have hbt11 : t11 = 0 ∨ t11 = 1 := by
        rw [ht11]
        try dsimp only
        repeat' split
        all_goals first | exact Or.inl rfl | exact Or.inr rfl | apply k_in_b | apply k_isDigit_b | apply k_isSmall_b | apply k_bad_b | apply k_isIn_b | apply k_isStep_b | apply k_isFirst_b | apply k_isLine_b | apply k_seesBy_b | apply k_isWalker_b | apply k_seesOne_b | apply k_badTwo_b | apply k_sees_b | apply k_isCode_b | omega
      refine T_iconst 1 (am_dec tX12_start_0 11 rfl) rfl ⟨by decide, by decide⟩ ?_
      refine T_iconst 1 (am_dec tX12_start_0 12 rfl) rfl ⟨by decide, by decide⟩ ?_
      refine T_callV (as := [aI t11, aI 1, aI 1]) rfl (am_dec tX12_start_0 13 rfl) lkX12_275 (md_obj hl) rfl rfl (Nat.le_of_ble_eq_true rfl) (by omega) (mk_bad0 (d := d - 1) hl t11 1 1 (by omega) am_put_s (by omega)) (fun _ => ?_)
      refine T_nmH (W := fun x9 => mdW w b c x9) (v := (k_refuse (am_put q 0 0 0) t11 1 1)) (fun q21 hq21 => ?_)
      refine T_nm (fun z21 hz21 => ?_)
      have hq021 : t11 = 0 → q21 0 0 = 0 := fun h9 => by rw [hq21]; exact k_refuse_0 am_put_s h9
      refine T_if_ne 50 (am_dec tX12_start_0 14 rfl) rfl (fun h24 => ?_) (fun h24 => ?_)
      · refine T_iconst 0 (am_dec tX12_start_0 28 rfl) rfl ⟨by decide, by decide⟩ ?_
        exact T_ireturn (am_dec tX12_start_0 29 rfl) rfl (am_tr (fun x9 => Q (.inl (some (aI (x9.1)))) (mdW w b c x9.2)) (y := (0, q21)) (show (k_start c q wk what) = (0, q21) from (by have s9 := hz8.symm; subst s9; have s9 := ht11.symm; subst s9; have s9 := hq21.symm; subst s9; have s9 := hz21.symm; subst s9; exact (if_neg h24))) hQ)
      · refine T_aload_n (am_dec tX12_start_0 15 rfl) rfl ?_
        refine T_iload_n (am_dec tX12_start_0 16 rfl) rfl ?_
        refine T_iconst 0 (am_dec tX12_start_0 17 rfl) rfl ⟨by decide, by decide⟩ ?_
        refine T_iconst 1 (am_dec tX12_start_0 18 rfl) rfl ⟨by decide, by decide⟩ ?_
        refine T_callS (as := [aI what, aI 0, aI 1]) rfl (am_dec tX12_start_0 19 rfl) lkX12_194 rfl (Nat.le_of_ble_eq_true rfl) (by omega) (mk_in (d := d - 1)  what 0 1   ) (fun _ => ?_)
        refine T_nm (fun z31 hz31 => ?_)
        have hb31 := k_in_b what 0 1
        rw [← hz31] at hb31
        have hs31 := k_in_s what 0 1
        rw [← hz31] at hs31
        have K34 : ∀ (t34 : Int), t34 = (if z31 = 0 then 1 else 0) →  am_T S zX12_start d u Q 42 [some (aR b), some (aI wk), some (aI what), none, none, none, none] [aI t34, aR b] (mdW w b c q21) := by
          intro t34 ht34
          have hbt34 : t34 = 0 ∨ t34 = 1 := by
            rw [ht34]
            try dsimp only
            repeat' split
            all_goals first | exact Or.inl rfl | exact Or.inr rfl | apply k_in_b | apply k_isDigit_b | apply k_isSmall_b | apply k_bad_b | apply k_isIn_b | apply k_isStep_b | apply k_isFirst_b | apply k_isLine_b | apply k_seesBy_b | apply k_isWalker_b | apply k_seesOne_b | apply k_badTwo_b | apply k_sees_b | apply k_isCode_b | omega
          refine T_iconst 2 (am_dec tX12_start_0 24 rfl) rfl ⟨by decide, by decide⟩ ?_
          refine T_iconst 2 (am_dec tX12_start_0 25 rfl) rfl ⟨by decide, by decide⟩ ?_
          refine T_callV (as := [aI t34, aI 2, aI 2]) rfl (am_dec tX12_start_0 26 rfl) lkX12_275 (md_obj hl) rfl rfl (Nat.le_of_ble_eq_true rfl) (by omega) (mk_bad0 (d := d - 1) hl t34 2 2 (by omega) (hq021 (by omega)) (by omega)) (fun _ => ?_)
          refine T_nmH (W := fun x9 => mdW w b c x9) (v := (k_refuse q21 t34 2 2)) (fun q44 hq44 => ?_)
          refine T_nm (fun z44 hz44 => ?_)
          have hq044 : t34 = 0 → q44 0 0 = 0 := fun h9 => by rw [hq44]; exact k_refuse_0 (hq021 (by omega)) h9
          refine T_if_eq 52 (am_dec tX12_start_0 27 rfl) rfl (fun h47 => ?_) (fun h47 => ?_)
          · have kw := hK9 wk (by omega) (by omega)
            refine T_aload_n (am_dec tX12_start_0 30 rfl) rfl ?_
            refine T_callV (as := []) rfl (am_dec tX12_start_0 31 rfl) lkX12_345 (md_obj hl) rfl rfl (Nat.le_of_ble_eq_true rfl) (by omega) (mk_goes (d := d - 1) hl   hV hWd hS9 hLp hDu (by omega)) (fun _ => ?_)
            refine T_nmH (W := fun x9 => mdW w b c x9) (v := k_goes c q44) (fun q53 hq53 => ?_)
            refine T_iconst 0 (am_dec tX12_start_0 32 rfl) rfl ⟨by decide, by decide⟩ ?_
            refine T_istore_n (ls' := [some (aR b), some (aI wk), some (aI what), some (aI 0), none, none, none]) (am_dec tX12_start_0 33 rfl) (by decide) rfl ?_
            refine T_aload_n (am_dec tX12_start_0 34 rfl) rfl ?_
            refine T_iload_n (am_dec tX12_start_0 35 rfl) rfl ?_
            refine T_iconst 0 (am_dec tX12_start_0 36 rfl) rfl ⟨by decide, by decide⟩ ?_
            refine T_callV (as := [aI wk, aI 0]) rfl (am_dec tX12_start_0 37 rfl) lkX12_406 (md_obj hl) rfl rfl (Nat.le_of_ble_eq_true rfl) (by omega) (mk_walked' (d := d - 1) hl wk 0 hV hWt hK9 hPt (by omega) (by omega) (by omega)) (fun _ => ?_)
            refine T_nm (fun n61 hn61 => ?_)
            refine T_istore (ls' := [some (aR b), some (aI wk), some (aI what), some (aI 0), some (aI n61), none, none]) (am_dec tX12_start_0 38 rfl) (by decide) rfl ?_
            refine T_iconst 1 (am_dec tX12_start_0 39 rfl) rfl ⟨by decide, by decide⟩ ?_
            refine T_istore (ls' := [some (aR b), some (aI wk), some (aI what), some (aI 0), some (aI n61), some (aI 1), none]) (am_dec tX12_start_1 0 rfl) (by decide) rfl ?_
            refine L_k_start_69 hl c q53 wk what hV hWd hS9 hLp hDu hK9 hPt hWt (by omega) (by omega) _ rfl (40 - c (108 + wk.toNat) 3 - 1).toNat 1 0 n61 (by omega) (by omega) (fun bst_69 few_69 hbst_69 hfew_69 => ?_)
            refine T_iload_n (am_dec tX12_start_1 26 rfl) rfl ?_
            have K118 : ∀ (t118 : Int), t118 = (if what = 0 then bst_69 else few_69) →  am_T S zX12_start d u Q 127 [none, none, none, none, none, none, none] [aI t118] (mdW w b c q53) := by
              intro t118 ht118
              exact T_ireturn (am_dec tX12_start_1 31 rfl) rfl (am_tr (fun x9 => Q (.inl (some (aI (x9.1)))) (mdW w b c x9.2)) (y := (t118, q53)) (show (k_start c q wk what) = (t118, q53) from (by have s9 := hz8.symm; subst s9; have s9 := ht11.symm; subst s9; have s9 := hq21.symm; subst s9; have s9 := hz21.symm; subst s9; have s9 := hz31.symm; subst s9; have s9 := ht34.symm; subst s9; have s9 := hq44.symm; subst s9; have s9 := hz44.symm; subst s9; have s9 := hq53.symm; subst s9; have s9 := hn61.symm; subst s9; have s9 := hbst_69.symm; subst s9; have s9 := hfew_69.symm; subst s9; have s9 := ht118.symm; subst s9; exact ((if_pos h24).trans (if_pos h47)))) hQ)
            refine T_if_ne 125 (am_dec tX12_start_1 27 rfl) rfl (fun h118 => ?_) (fun h118 => ?_)
            · refine T_iload (am_dec tX12_start_1 30 rfl) rfl ?_
              refine T_weak (ls' := [none, none, none, none, none, none, none]) (am_sub_n (am_sub_n (am_sub_n (am_sub_n (am_sub_n (am_sub_n (am_sub_n am_sub_nil))))))) ?_
              exact K118 _ (if_neg h118).symm
            · refine T_iload_n (am_dec tX12_start_1 28 rfl) rfl ?_
              refine T_goto 127 (am_dec tX12_start_1 29 rfl) rfl ?_
              refine T_weak (ls' := [none, none, none, none, none, none, none]) (am_sub_n (am_sub_n (am_sub_n (am_sub_n (am_sub_n (am_sub_n (am_sub_n am_sub_nil))))))) ?_
              exact K118 _ (if_pos h118).symm
          · refine T_iconst 0 (am_dec tX12_start_0 28 rfl) rfl ⟨by decide, by decide⟩ ?_
            exact T_ireturn (am_dec tX12_start_0 29 rfl) rfl (am_tr (fun x9 => Q (.inl (some (aI (x9.1)))) (mdW w b c x9.2)) (y := (0, q44)) (show (k_start c q wk what) = (0, q44) from (by have s9 := hz8.symm; subst s9; have s9 := ht11.symm; subst s9; have s9 := hq21.symm; subst s9; have s9 := hz21.symm; subst s9; have s9 := hz31.symm; subst s9; have s9 := ht34.symm; subst s9; have s9 := hq44.symm; subst s9; have s9 := hz44.symm; subst s9; exact ((if_pos h24).trans (if_neg h47)))) hQ)
        refine T_if_ne 41 (am_dec tX12_start_0 20 rfl) rfl (fun h34 => ?_) (fun h34 => ?_)
        · refine T_iconst 0 (am_dec tX12_start_0 23 rfl) rfl ⟨by decide, by decide⟩ ?_
          exact K34 _ (if_neg h34).symm
        · refine T_iconst 1 (am_dec tX12_start_0 21 rfl) rfl ⟨by decide, by decide⟩ ?_
          refine T_goto 42 (am_dec tX12_start_0 22 rfl) rfl ?_
          exact K34 _ (if_pos h34).symm
    refine T_if_ne 18 (am_dec tX12_start_0 7 rfl) rfl (fun h11 => ?_) (fun h11 => ?_)
    · refine T_iconst 0 (am_dec tX12_start_0 10 rfl) rfl ⟨by decide, by decide⟩ ?_
      exact K11 _ (if_neg h11).symm
    · refine T_iconst 1 (am_dec tX12_start_0 8 rfl) rfl ⟨by decide, by decide⟩ ?_
      refine T_goto 19 (am_dec tX12_start_0 9 rfl) rfl ?_
      exact K11 _ (if_pos h11).symm
  exact key _ ⟨rfl, rfl⟩
