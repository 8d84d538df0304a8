/-! the model: times, sums, tests -/
def w_k_times_4 (fu : am_F → am_F) (c : am_F) : (am_F) ⊕ (am_F) := (if c 0 5 = 0 then (let u14 : Int × am_F := k_takesSign c 42; (let t17 : Int := (if (u14).1 = 0 then (let u27 : Int × am_F := k_takesSign ((u14).2) 47; (if (u27).1 = 0 then (-1) else 5)) else 4); (let c17 : am_F := (if (u14).1 = 0 then (let u27 : Int × am_F := k_takesSign ((u14).2) 47; ((u27).2)) else ((u14).2)); (if t17 = (-1) then .inr c17 else (let c46 : am_F := fu c17; (let c52 : am_F := k_says c46 t17 0; .inl c52)))))) else .inr c)
theorem L_k_times_4 {S : am_S} {d u : Nat} {Q : AO → AH → Prop} {w : AH} {b : Nat} (hl : b + 735 ≤ w.length) (q : am_F) (E : Nat) (nf : Int) (fu : am_F → am_F) (hE : E + 1 ≤ d) (hfu : LmC S w b q zX12_oneHere E nf fu) (hfi : LmI fu) (hd : 8 ≤ d) : ∀ (n : Nat) (c : am_F), (if c 0 5 = 0 then c 0 2 - c 0 4 + 1 else 0) < n → MI c ∧ 6 - c 0 50 ≤ nf → (∀ (c' : am_F), c' = am_wh (w_k_times_4 fu) n c → Q (.inl none) (mdW w b c' q)) → am_T S zX12_times d u Q 4 [some (aR b), none] [] (mdW w b c q) := by
  intro n
  induction n with
  | zero =>
    intro c hm9 hinv k9
    have hM := hinv.1
    have hnf := hinv.2
    have hM9 := hM
    obtain ⟨hMr, hM2, hM3, hM4, hM5⟩ := hM9
    have hR := hMr
    obtain ⟨r1, r2, r3⟩ := hMr
    have hMR0 := MR_r hM
    exfalso; omega
  | succ n ih =>
    intro c hm9 hinv k9
    have hM := hinv.1
    have hnf := hinv.2
    have hM9 := hM
    obtain ⟨hMr, hM2, hM3, hM4, hM5⟩ := hM9
    have hR := hMr
    obtain ⟨r1, r2, r3⟩ := hMr
    have hMR0 := MR_r hM
    refine T_aload_n (am_dec tX12_times_0 2 rfl) rfl ?_
    refine T_getfield 11 5 (am_dec tX12_times_0 3 rfl) flX12_176_11 (md_obj hl) rfl ?_
    refine T_if_ne 58 (am_dec tX12_times_0 4 rfl) rfl (fun h8 => ?_) (fun h8 => ?_)
    · exact T_return (am_dec tX12_times_0 30 rfl) rfl (by have e9 : (w_k_times_4 fu) c = .inr c := (if_neg h8); simp only [am_wh_r e9] at k9; exact k9 _ rfl)
    · refine T_aload_n (am_dec tX12_times_0 5 rfl) rfl ?_
      refine T_bipush 42 (am_dec tX12_times_0 6 rfl) rfl ⟨by decide, by decide⟩ ?_
      refine T_callV (as := [aI 42]) rfl (am_dec tX12_times_0 7 rfl) lkX12_479 (md_obj hl) rfl rfl (Nat.le_of_ble_eq_true rfl) (by omega) (mk_takesSign (d := d - 1) hl 42  hMR0.1 (by omega) (by omega)) (fun _ => ?_)
      obtain ⟨u14, hu14⟩ : ∃ x9, x9 = k_takesSign c 42 := ⟨_, rfl⟩
      rw [← hu14]
      have hb14 := k_takesSign_b c 42
      rw [← hu14] at hb14
      have hm14 : MR c (u14).2 (0 + (u14).1) (0) := by rw [hu14]; exact MR_le (MR_E hMR0 (Ea_takesSign (Ea_r hMR0.1) (by decide))) (by omega)
      have hR_hm14 : RdV (u14).2 := hm14.1
      obtain ⟨rahm14, rbhm14, rchm14⟩ : RdV (u14).2 := hR_hm14
      have hohm14 : (u14).2 0 50 = c 0 50 + (0) := hm14.2.2.2.1
      have hnhm14 := hm14.2.2.1
      have hghm14 := MR_at hm14
      have hyhm14 := hm14.2.1.1
      have K17 : ∀ (t17 : Int), ∀ (c17 : am_F), t17 = (if (u14).1 = 0 then (let u27 : Int × am_F := k_takesSign ((u14).2) 47; (if (u27).1 = 0 then (-1) else 5)) else 4) → c17 = (if (u14).1 = 0 then (let u27 : Int × am_F := k_takesSign ((u14).2) 47; ((u27).2)) else ((u14).2)) →  am_T S zX12_times d u Q 38 [some (aR b), none] [aI t17] (mdW w b c17 q) := by
        intro t17 c17 ht17 hc17 
        have hxt17 := ht17
        dsimp only at hxt17
        have hm17 : MR c c17 ((if t17 = -1 then 0 else 1)) (0) := by
          rw [hc17, ht17]
          try dsimp only
          by_cases g : (u14).1 = 0
          · rw [if_pos g, if_pos g]
            have hb := k_takesSign_b (u14).2 47
            exact MR_le (MR_E hm14 (Ea_takesSign (Ea_r hm14.1) (by decide))) (by omega)
          · rw [if_neg g, if_neg g]
            exact MR_le hm14 (by omega)
        have hR_hm17 : RdV c17 := hm17.1
        obtain ⟨rahm17, rbhm17, rchm17⟩ : RdV c17 := hR_hm17
        have hohm17 : c17 0 50 = c 0 50 + (0) := hm17.2.2.2.1
        have hnhm17 := hm17.2.2.1
        have hghm17 := MR_at hm17
        have hyhm17 := hm17.2.1.1
        refine T_istore_n (ls' := [some (aR b), some (aI t17)]) (am_dec tX12_times_0 18 rfl) (by decide) rfl ?_
        refine T_iload_n (am_dec tX12_times_0 19 rfl) rfl ?_
        refine T_iconst (-1) (am_dec tX12_times_0 20 rfl) rfl ⟨by decide, by decide⟩ ?_
        refine T_icmp_ne 45 (am_dec tX12_times_0 21 rfl) rfl (fun h41 => ?_) (fun h41 => ?_)
        · refine T_aload_n (am_dec tX12_times_0 23 rfl) rfl ?_
          refine T_callV (as := []) rfl (am_dec tX12_times_0 24 rfl) lkX12_485 (md_obj hl) rfl rfl (Nat.le_of_ble_eq_true rfl) (by omega) (hfu (d - 1) c17 (by omega) (MR_I hM hm17 (by omega) (by omega)) (show 6 - (c17 0 50) ≤ nf by omega)) (fun _ => ?_)
          refine T_nmH (W := fun x9 => mdW w b x9 q) (v := fu c17) (fun c46 hc46 => ?_)
          have hMI46 : MI c17 := (MR_I hM hm17 (by omega) (by omega))
          have hm46 : MR c c46 ((if t17 = -1 then 0 else 1)) (0) := by rw [hc46]; exact MR_o (MR_le (MR_t hm17 (hfi c17 (MR_I hM hm17 (by omega) (by omega)))) (by omega)) (by omega)
          have hR_hm46 : RdV c46 := hm46.1
          obtain ⟨rahm46, rbhm46, rchm46⟩ : RdV c46 := hR_hm46
          have hohm46 : c46 0 50 = c 0 50 + (0) := hm46.2.2.2.1
          have hnhm46 := hm46.2.2.1
          have hghm46 := MR_at hm46
          have hyhm46 := hm46.2.1.1
          refine T_aload_n (am_dec tX12_times_0 25 rfl) rfl ?_
          refine T_iload_n (am_dec tX12_times_0 26 rfl) rfl ?_
          refine T_iconst 0 (am_dec tX12_times_0 27 rfl) rfl ⟨by decide, by decide⟩ ?_
          refine T_callV (as := [aI t17, aI 0]) rfl (am_dec tX12_times_0 28 rfl) lkX12_464 (md_obj hl) rfl rfl (Nat.le_of_ble_eq_true rfl) (by omega) (mk_says (d := d - 1) hl t17 0  (by omega) ) (fun _ => ?_)
          refine T_nmH (W := fun x9 => mdW w b x9 q) (v := k_says c46 t17 0) (fun c52 hc52 => ?_)
          have hm52 : MR c c52 ((if t17 = -1 then 0 else 1) - 1) (0) := by rw [hc52]; exact MR_says hM hm46 (by omega)
          have hR_hm52 : RdV c52 := hm52.1
          obtain ⟨rahm52, rbhm52, rchm52⟩ : RdV c52 := hR_hm52
          have hohm52 : c52 0 50 = c 0 50 + (0) := hm52.2.2.2.1
          have hnhm52 := hm52.2.2.1
          have hghm52 := MR_at hm52
          have hyhm52 := hm52.2.1.1
          have hs52 := k_says_4 c46 (t17) (0)
          rw [← hc52] at hs52
          obtain ⟨hs52a, hs52b⟩ := hs52
          refine T_goto 4 (am_dec tX12_times_0 29 rfl) rfl ?_
          refine T_weak (ls' := [some (aR b), none]) (am_sub_s (am_sub_n am_sub_nil)) ?_
          have e9 : (w_k_times_4 fu) c = .inl c52 := (by have s9 := hu14.symm; subst s9; have s9 := ht17.symm; subst s9; have s9 := hc17.symm; subst s9; have s9 := hc46.symm; subst s9; have s9 := hc52.symm; subst s9; exact ((if_pos h8).trans (if_neg h41)))
          simp only [am_wh_l e9] at k9
          exact ih c52 (by omega) ⟨(MR_I hM hm52 (by omega) (by omega)), by omega⟩ k9
        · exact T_return (am_dec tX12_times_0 22 rfl) rfl (by have e9 : (w_k_times_4 fu) c = .inr c17 := (by have s9 := hu14.symm; subst s9; have s9 := ht17.symm; subst s9; have s9 := hc17.symm; subst s9; exact ((if_pos h8).trans (if_pos h41))); simp only [am_wh_r e9] at k9; exact k9 _ rfl)
      refine T_if_eq 24 (am_dec tX12_times_0 8 rfl) rfl (fun h17 => ?_) (fun h17 => ?_)
      · refine T_aload_n (am_dec tX12_times_0 11 rfl) rfl ?_
        refine T_bipush 47 (am_dec tX12_times_0 12 rfl) rfl ⟨by decide, by decide⟩ ?_
        refine T_callV (as := [aI 47]) rfl (am_dec tX12_times_0 13 rfl) lkX12_479 (md_obj hl) rfl rfl (Nat.le_of_ble_eq_true rfl) (by omega) (mk_takesSign (d := d - 1) hl 47  hm14.1 (by omega) (by omega)) (fun _ => ?_)
        obtain ⟨u27, hu27⟩ : ∃ x9, x9 = k_takesSign ((u14).2) 47 := ⟨_, rfl⟩
        rw [← hu27]
        have hb27 := k_takesSign_b ((u14).2) 47
        rw [← hu27] at hb27
        have hm27 : MR c (u27).2 (0 + (u14).1 + (u27).1) (0) := by rw [hu27]; exact MR_le (MR_E hm14 (Ea_takesSign (Ea_r hm14.1) (by decide))) (by omega)
        have hR_hm27 : RdV (u27).2 := hm27.1
        obtain ⟨rahm27, rbhm27, rchm27⟩ : RdV (u27).2 := hR_hm27
        have hohm27 : (u27).2 0 50 = c 0 50 + (0) := hm27.2.2.2.1
        have hnhm27 := hm27.2.2.1
        have hghm27 := MR_at hm27
        have hyhm27 := hm27.2.1.1
        have K30 : ∀ (t30 : Int), t30 = (if (u27).1 = 0 then (-1) else 5) →  am_T S zX12_times d u Q 38 [some (aR b), none] [aI t30] (mdW w b (u27).2 q) := by
          intro t30 ht30 
          exact K17 _ _ (by have s9 := hu27.symm; subst s9; have s9 := ht30.symm; subst s9; exact (if_pos h17).symm) (by have s9 := hu27.symm; subst s9; have s9 := ht30.symm; subst s9; exact (if_pos h17).symm) 
        refine T_if_eq 37 (am_dec tX12_times_0 14 rfl) rfl (fun h30 => ?_) (fun h30 => ?_)
        · refine T_iconst (-1) (am_dec tX12_times_0 17 rfl) rfl ⟨by decide, by decide⟩ ?_
          exact K30 _ (if_pos h30).symm 
        · refine T_iconst 5 (am_dec tX12_times_0 15 rfl) rfl ⟨by decide, by decide⟩ ?_
          refine T_goto 38 (am_dec tX12_times_0 16 rfl) rfl ?_
          exact K30 _ (if_neg h30).symm 
      · refine T_iconst 4 (am_dec tX12_times_0 9 rfl) rfl ⟨by decide, by decide⟩ ?_
        refine T_goto 38 (am_dec tX12_times_0 10 rfl) rfl ?_
        exact K17 _ _ (if_neg h17).symm (if_neg h17).symm 
def k_times (c : am_F) (fu : am_F → am_F) : am_F := (let c1 : am_F := fu c; am_wh (w_k_times_4 fu) 602 c1)
theorem mk_times {S : am_S} {d u : Nat} {w : AH} {b : Nat} (hl : b + 735 ≤ w.length) {c : am_F} {q : am_F} (E : Nat) (nf : Int) (fu : am_F → am_F) (hM : MI c) (hE : E + 1 ≤ d) (hnf : 6 - c 0 50 ≤ nf) (hfu : LmC S w b q zX12_oneHere E nf fu) (hfi : LmI fu)  (hd : 8 ≤ d) : am_Out S zX12_times d u [aR b] (mdW w b c q) (.inl none) (mdW w b (k_times c fu) q) := by
  have key : ∀ Q : AO → AH → Prop, Q (.inl none) (mdW w b (k_times c fu) q) → am_M S zX12_times d u [aR b] (mdW w b c q) Q := by
    intro Q hQ
    refine am_body rfl (by decide +kernel) rfl (am_cats_cons rfl (am_cats_nil)) (Nat.le_of_ble_eq_true rfl) (?_ : am_T _ _ _ _ _ 0 [some (aR b), none] [] (mdW w b c q))
    have hM9 := hM
    obtain ⟨hMr, hM2, hM3, hM4, hM5⟩ := hM9
    have hR := hMr
    obtain ⟨r1, r2, r3⟩ := hMr
    have hMR0 := MR_r hM
    refine T_aload_n (am_dec tX12_times_0 0 rfl) rfl ?_
    refine T_callV (as := []) rfl (am_dec tX12_times_0 1 rfl) lkX12_485 (md_obj hl) rfl rfl (Nat.le_of_ble_eq_true rfl) (by omega) (hfu (d - 1) c (by omega) (MR_I hM hMR0 (by omega) (by omega)) (show 6 - (c 0 50) ≤ nf by omega)) (fun _ => ?_)
    refine T_nmH (W := fun x9 => mdW w b x9 q) (v := fu c) (fun c1 hc1 => ?_)
    have hMI1 : MI c := (MR_I hM hMR0 (by omega) (by omega))
    have hm1 : MR c c1 (0) (0) := by rw [hc1]; exact MR_o (MR_le (MR_t hMR0 (hfi c (MR_I hM hMR0 (by omega) (by omega)))) (by omega)) (by omega)
    have hR_hm1 : RdV c1 := hm1.1
    obtain ⟨rahm1, rbhm1, rchm1⟩ : RdV c1 := hR_hm1
    have hohm1 : c1 0 50 = c 0 50 + (0) := hm1.2.2.2.1
    have hnhm1 := hm1.2.2.1
    have hghm1 := MR_at hm1
    have hyhm1 := hm1.2.1.1
    refine L_k_times_4 hl q E nf fu  hE hfu hfi (by omega) 602 c1 (by omega) ⟨(MR_I hM hm1 (by omega) (by omega)), by omega⟩ (fun c4 hc4 => ?_)
    exact (am_tr (fun (x9 : am_F) => Q (.inl none) (mdW w b x9 q)) (y := c4) (show (k_times c fu) = c4 from (by have s9 := hc1.symm; subst s9; have s9 := hc4.symm; subst s9; exact rfl)) hQ)
  exact key _ ⟨rfl, rfl⟩
def w_k_sum_4 (ft : am_F → am_F) (c : am_F) : (am_F) ⊕ (am_F) := (if c 0 5 = 0 then (let u14 : Int × am_F := k_takesSign c 43; (let t17 : Int := (if (u14).1 = 0 then (let u27 : Int × am_F := k_takesSign ((u14).2) 45; (if (u27).1 = 0 then (-1) else 3)) else 2); (let c17 : am_F := (if (u14).1 = 0 then (let u27 : Int × am_F := k_takesSign ((u14).2) 45; ((u27).2)) else ((u14).2)); (if t17 = (-1) then .inr c17 else (let c46 : am_F := ft c17; (let c52 : am_F := k_says c46 t17 0; .inl c52)))))) else .inr c)
theorem L_k_sum_4 {S : am_S} {d u : Nat} {Q : AO → AH → Prop} {w : AH} {b : Nat} (hl : b + 735 ≤ w.length) (q : am_F) (E : Nat) (nf : Int) (ft : am_F → am_F) (hE : E + 1 ≤ d) (hfu : LmC S w b q zX12_times E nf ft) (hfi : LmI ft) (hd : 8 ≤ d) : ∀ (n : Nat) (c : am_F), (if c 0 5 = 0 then c 0 2 - c 0 4 + 1 else 0) < n → MI c ∧ 6 - c 0 50 ≤ nf → (∀ (c' : am_F), c' = am_wh (w_k_sum_4 ft) n c → Q (.inl none) (mdW w b c' q)) → am_T S zX12_sum d u Q 4 [some (aR b), none] [] (mdW w b c q) := by
  intro n
  induction n with
  | zero =>
    intro c hm9 hinv k9
    have hM := hinv.1
    have hnf := hinv.2
    have hM9 := hM
    obtain ⟨hMr, hM2, hM3, hM4, hM5⟩ := hM9
    have hR := hMr
    obtain ⟨r1, r2, r3⟩ := hMr
    have hMR0 := MR_r hM
    exfalso; omega
  | succ n ih =>
    intro c hm9 hinv k9
    have hM := hinv.1
    have hnf := hinv.2
    have hM9 := hM
    obtain ⟨hMr, hM2, hM3, hM4, hM5⟩ := hM9
    have hR := hMr
    obtain ⟨r1, r2, r3⟩ := hMr
    have hMR0 := MR_r hM
    refine T_aload_n (am_dec tX12_sum_0 2 rfl) rfl ?_
    refine T_getfield 11 5 (am_dec tX12_sum_0 3 rfl) flX12_176_11 (md_obj hl) rfl ?_
    refine T_if_ne 58 (am_dec tX12_sum_0 4 rfl) rfl (fun h8 => ?_) (fun h8 => ?_)
    · exact T_return (am_dec tX12_sum_0 30 rfl) rfl (by have e9 : (w_k_sum_4 ft) c = .inr c := (if_neg h8); simp only [am_wh_r e9] at k9; exact k9 _ rfl)
    · refine T_aload_n (am_dec tX12_sum_0 5 rfl) rfl ?_
      refine T_bipush 43 (am_dec tX12_sum_0 6 rfl) rfl ⟨by decide, by decide⟩ ?_
      refine T_callV (as := [aI 43]) rfl (am_dec tX12_sum_0 7 rfl) lkX12_479 (md_obj hl) rfl rfl (Nat.le_of_ble_eq_true rfl) (by omega) (mk_takesSign (d := d - 1) hl 43  hMR0.1 (by omega) (by omega)) (fun _ => ?_)
      obtain ⟨u14, hu14⟩ : ∃ x9, x9 = k_takesSign c 43 := ⟨_, rfl⟩
      rw [← hu14]
      have hb14 := k_takesSign_b c 43
      rw [← hu14] at hb14
      have hm14 : MR c (u14).2 (0 + (u14).1) (0) := by rw [hu14]; exact MR_le (MR_E hMR0 (Ea_takesSign (Ea_r hMR0.1) (by decide))) (by omega)
      have hR_hm14 : RdV (u14).2 := hm14.1
      obtain ⟨rahm14, rbhm14, rchm14⟩ : RdV (u14).2 := hR_hm14
      have hohm14 : (u14).2 0 50 = c 0 50 + (0) := hm14.2.2.2.1
      have hnhm14 := hm14.2.2.1
      have hghm14 := MR_at hm14
      have hyhm14 := hm14.2.1.1
      have K17 : ∀ (t17 : Int), ∀ (c17 : am_F), t17 = (if (u14).1 = 0 then (let u27 : Int × am_F := k_takesSign ((u14).2) 45; (if (u27).1 = 0 then (-1) else 3)) else 2) → c17 = (if (u14).1 = 0 then (let u27 : Int × am_F := k_takesSign ((u14).2) 45; ((u27).2)) else ((u14).2)) →  am_T S zX12_sum d u Q 38 [some (aR b), none] [aI t17] (mdW w b c17 q) := by
        intro t17 c17 ht17 hc17 
        have hxt17 := ht17
        dsimp only at hxt17
        have hm17 : MR c c17 ((if t17 = -1 then 0 else 1)) (0) := by
          rw [hc17, ht17]
          try dsimp only
          by_cases g : (u14).1 = 0
          · rw [if_pos g, if_pos g]
            have hb := k_takesSign_b (u14).2 45
            exact MR_le (MR_E hm14 (Ea_takesSign (Ea_r hm14.1) (by decide))) (by omega)
          · rw [if_neg g, if_neg g]
            exact MR_le hm14 (by omega)
        have hR_hm17 : RdV c17 := hm17.1
        obtain ⟨rahm17, rbhm17, rchm17⟩ : RdV c17 := hR_hm17
        have hohm17 : c17 0 50 = c 0 50 + (0) := hm17.2.2.2.1
        have hnhm17 := hm17.2.2.1
        have hghm17 := MR_at hm17
        have hyhm17 := hm17.2.1.1
        refine T_istore_n (ls' := [some (aR b), some (aI t17)]) (am_dec tX12_sum_0 18 rfl) (by decide) rfl ?_
        refine T_iload_n (am_dec tX12_sum_0 19 rfl) rfl ?_
        refine T_iconst (-1) (am_dec tX12_sum_0 20 rfl) rfl ⟨by decide, by decide⟩ ?_
        refine T_icmp_ne 45 (am_dec tX12_sum_0 21 rfl) rfl (fun h41 => ?_) (fun h41 => ?_)
        · refine T_aload_n (am_dec tX12_sum_0 23 rfl) rfl ?_
          refine T_callV (as := []) rfl (am_dec tX12_sum_0 24 rfl) lkX12_482 (md_obj hl) rfl rfl (Nat.le_of_ble_eq_true rfl) (by omega) (hfu (d - 1) c17 (by omega) (MR_I hM hm17 (by omega) (by omega)) (show 6 - (c17 0 50) ≤ nf by omega)) (fun _ => ?_)
          refine T_nmH (W := fun x9 => mdW w b x9 q) (v := ft c17) (fun c46 hc46 => ?_)
          have hMI46 : MI c17 := (MR_I hM hm17 (by omega) (by omega))
          have hm46 : MR c c46 ((if t17 = -1 then 0 else 1)) (0) := by rw [hc46]; exact MR_o (MR_le (MR_t hm17 (hfi c17 (MR_I hM hm17 (by omega) (by omega)))) (by omega)) (by omega)
          have hR_hm46 : RdV c46 := hm46.1
          obtain ⟨rahm46, rbhm46, rchm46⟩ : RdV c46 := hR_hm46
          have hohm46 : c46 0 50 = c 0 50 + (0) := hm46.2.2.2.1
          have hnhm46 := hm46.2.2.1
          have hghm46 := MR_at hm46
          have hyhm46 := hm46.2.1.1
          refine T_aload_n (am_dec tX12_sum_0 25 rfl) rfl ?_
          refine T_iload_n (am_dec tX12_sum_0 26 rfl) rfl ?_
          refine T_iconst 0 (am_dec tX12_sum_0 27 rfl) rfl ⟨by decide, by decide⟩ ?_
          refine T_callV (as := [aI t17, aI 0]) rfl (am_dec tX12_sum_0 28 rfl) lkX12_464 (md_obj hl) rfl rfl (Nat.le_of_ble_eq_true rfl) (by omega) (mk_says (d := d - 1) hl t17 0  (by omega) ) (fun _ => ?_)
          refine T_nmH (W := fun x9 => mdW w b x9 q) (v := k_says c46 t17 0) (fun c52 hc52 => ?_)
          have hm52 : MR c c52 ((if t17 = -1 then 0 else 1) - 1) (0) := by rw [hc52]; exact MR_says hM hm46 (by omega)
          have hR_hm52 : RdV c52 := hm52.1
          obtain ⟨rahm52, rbhm52, rchm52⟩ : RdV c52 := hR_hm52
          have hohm52 : c52 0 50 = c 0 50 + (0) := hm52.2.2.2.1
          have hnhm52 := hm52.2.2.1
          have hghm52 := MR_at hm52
          have hyhm52 := hm52.2.1.1
          have hs52 := k_says_4 c46 (t17) (0)
          rw [← hc52] at hs52
          obtain ⟨hs52a, hs52b⟩ := hs52
          refine T_goto 4 (am_dec tX12_sum_0 29 rfl) rfl ?_
          refine T_weak (ls' := [some (aR b), none]) (am_sub_s (am_sub_n am_sub_nil)) ?_
          have e9 : (w_k_sum_4 ft) c = .inl c52 := (by have s9 := hu14.symm; subst s9; have s9 := ht17.symm; subst s9; have s9 := hc17.symm; subst s9; have s9 := hc46.symm; subst s9; have s9 := hc52.symm; subst s9; exact ((if_pos h8).trans (if_neg h41)))
          simp only [am_wh_l e9] at k9
          exact ih c52 (by omega) ⟨(MR_I hM hm52 (by omega) (by omega)), by omega⟩ k9
        · exact T_return (am_dec tX12_sum_0 22 rfl) rfl (by have e9 : (w_k_sum_4 ft) c = .inr c17 := (by have s9 := hu14.symm; subst s9; have s9 := ht17.symm; subst s9; have s9 := hc17.symm; subst s9; exact ((if_pos h8).trans (if_pos h41))); simp only [am_wh_r e9] at k9; exact k9 _ rfl)
      refine T_if_eq 24 (am_dec tX12_sum_0 8 rfl) rfl (fun h17 => ?_) (fun h17 => ?_)
      · refine T_aload_n (am_dec tX12_sum_0 11 rfl) rfl ?_
        refine T_bipush 45 (am_dec tX12_sum_0 12 rfl) rfl ⟨by decide, by decide⟩ ?_
        refine T_callV (as := [aI 45]) rfl (am_dec tX12_sum_0 13 rfl) lkX12_479 (md_obj hl) rfl rfl (Nat.le_of_ble_eq_true rfl) (by omega) (mk_takesSign (d := d - 1) hl 45  hm14.1 (by omega) (by omega)) (fun _ => ?_)
        obtain ⟨u27, hu27⟩ : ∃ x9, x9 = k_takesSign ((u14).2) 45 := ⟨_, rfl⟩
        rw [← hu27]
        have hb27 := k_takesSign_b ((u14).2) 45
        rw [← hu27] at hb27
        have hm27 : MR c (u27).2 (0 + (u14).1 + (u27).1) (0) := by rw [hu27]; exact MR_le (MR_E hm14 (Ea_takesSign (Ea_r hm14.1) (by decide))) (by omega)
        have hR_hm27 : RdV (u27).2 := hm27.1
        obtain ⟨rahm27, rbhm27, rchm27⟩ : RdV (u27).2 := hR_hm27
        have hohm27 : (u27).2 0 50 = c 0 50 + (0) := hm27.2.2.2.1
        have hnhm27 := hm27.2.2.1
        have hghm27 := MR_at hm27
        have hyhm27 := hm27.2.1.1
        have K30 : ∀ (t30 : Int), t30 = (if (u27).1 = 0 then (-1) else 3) →  am_T S zX12_sum d u Q 38 [some (aR b), none] [aI t30] (mdW w b (u27).2 q) := by
          intro t30 ht30 
          exact K17 _ _ (by have s9 := hu27.symm; subst s9; have s9 := ht30.symm; subst s9; exact (if_pos h17).symm) (by have s9 := hu27.symm; subst s9; have s9 := ht30.symm; subst s9; exact (if_pos h17).symm) 
        refine T_if_eq 37 (am_dec tX12_sum_0 14 rfl) rfl (fun h30 => ?_) (fun h30 => ?_)
        · refine T_iconst (-1) (am_dec tX12_sum_0 17 rfl) rfl ⟨by decide, by decide⟩ ?_
          exact K30 _ (if_pos h30).symm 
        · refine T_iconst 3 (am_dec tX12_sum_0 15 rfl) rfl ⟨by decide, by decide⟩ ?_
          refine T_goto 38 (am_dec tX12_sum_0 16 rfl) rfl ?_
          exact K30 _ (if_neg h30).symm 
      · refine T_iconst 2 (am_dec tX12_sum_0 9 rfl) rfl ⟨by decide, by decide⟩ ?_
        refine T_goto 38 (am_dec tX12_sum_0 10 rfl) rfl ?_
        exact K17 _ _ (if_neg h17).symm (if_neg h17).symm 
def k_sum (c : am_F) (ft : am_F → am_F) : am_F := (let c1 : am_F := ft c; am_wh (w_k_sum_4 ft) 602 c1)
theorem mk_sum {S : am_S} {d u : Nat} {w : AH} {b : Nat} (hl : b + 735 ≤ w.length) {c : am_F} {q : am_F} (E : Nat) (nf : Int) (ft : am_F → am_F) (hM : MI c) (hE : E + 1 ≤ d) (hnf : 6 - c 0 50 ≤ nf) (hfu : LmC S w b q zX12_times E nf ft) (hfi : LmI ft)  (hd : 8 ≤ d) : am_Out S zX12_sum d u [aR b] (mdW w b c q) (.inl none) (mdW w b (k_sum c ft) q) := by
  have key : ∀ Q : AO → AH → Prop, Q (.inl none) (mdW w b (k_sum c ft) q) → am_M S zX12_sum d u [aR b] (mdW w b c q) Q := by
    intro Q hQ
    refine am_body rfl (by decide +kernel) rfl (am_cats_cons rfl (am_cats_nil)) (Nat.le_of_ble_eq_true rfl) (?_ : am_T _ _ _ _ _ 0 [some (aR b), none] [] (mdW w b c q))
    have hM9 := hM
    obtain ⟨hMr, hM2, hM3, hM4, hM5⟩ := hM9
    have hR := hMr
    obtain ⟨r1, r2, r3⟩ := hMr
    have hMR0 := MR_r hM
    refine T_aload_n (am_dec tX12_sum_0 0 rfl) rfl ?_
    refine T_callV (as := []) rfl (am_dec tX12_sum_0 1 rfl) lkX12_482 (md_obj hl) rfl rfl (Nat.le_of_ble_eq_true rfl) (by omega) (hfu (d - 1) c (by omega) (MR_I hM hMR0 (by omega) (by omega)) (show 6 - (c 0 50) ≤ nf by omega)) (fun _ => ?_)
    refine T_nmH (W := fun x9 => mdW w b x9 q) (v := ft c) (fun c1 hc1 => ?_)
    have hMI1 : MI c := (MR_I hM hMR0 (by omega) (by omega))
    have hm1 : MR c c1 (0) (0) := by rw [hc1]; exact MR_o (MR_le (MR_t hMR0 (hfi c (MR_I hM hMR0 (by omega) (by omega)))) (by omega)) (by omega)
    have hR_hm1 : RdV c1 := hm1.1
    obtain ⟨rahm1, rbhm1, rchm1⟩ : RdV c1 := hR_hm1
    have hohm1 : c1 0 50 = c 0 50 + (0) := hm1.2.2.2.1
    have hnhm1 := hm1.2.2.1
    have hghm1 := MR_at hm1
    have hyhm1 := hm1.2.1.1
    refine L_k_sum_4 hl q E nf ft  hE hfu hfi (by omega) 602 c1 (by omega) ⟨(MR_I hM hm1 (by omega) (by omega)), by omega⟩ (fun c4 hc4 => ?_)
    exact (am_tr (fun (x9 : am_F) => Q (.inl none) (mdW w b x9 q)) (y := c4) (show (k_sum c ft) = c4 from (by have s9 := hc1.symm; subst s9; have s9 := hc4.symm; subst s9; exact rfl)) hQ)
  exact key _ ⟨rfl, rfl⟩
