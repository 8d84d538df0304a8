/-! the model: a rule's words -/
def k_says (c : am_F) (wt : Int) (vv : Int) : am_F := (if c 0 5 = 0 then (am_put (am_put (am_put c (508 + (c 0 49).toNat) 0 wt) (508 + (c 0 49).toNat) 1 vv) 0 49 ((c 0 49) + 1)) else c)
theorem mk_says {S : am_S} {d u : Nat} {w : AH} {b : Nat} (hl : b + 735 ≤ w.length) {c : am_F} {q : am_F} (wt : Int) (vv : Int) (hcd : 0 ≤ c 0 49 ∧ (c 0 5 = 0 → c 0 49 ≤ 219))  : am_Out S zX12_says d u [aR b, aI wt, aI vv] (mdW w b c q) (.inl none) (mdW w b (k_says c wt vv) q) := by
  have key : ∀ Q : AO → AH → Prop, Q (.inl none) (mdW w b (k_says c wt vv) q) → am_M S zX12_says d u [aR b, aI wt, aI vv] (mdW w b c q) Q := by
    intro Q hQ
    refine am_body rfl (by decide +kernel) rfl (am_cats_cons rfl ( am_cats_cons rfl ( am_cats_cons rfl (am_cats_nil)))) (Nat.le_of_ble_eq_true rfl) (?_ : am_T _ _ _ _ _ 0 [some (aR b), some (aI wt), some (aI vv)] [] (mdW w b c q))
    refine T_aload_n (am_dec tX12_says_0 0 rfl) rfl ?_
    refine T_getfield 11 5 (am_dec tX12_says_0 1 rfl) flX12_176_11 (md_obj hl) rfl ?_
    refine T_if_eq 8 (am_dec tX12_says_0 2 rfl) rfl (fun h4 => ?_) (fun h4 => ?_)
    · refine T_aload_n (am_dec tX12_says_0 4 rfl) rfl ?_
      refine T_getfield 11 54 (am_dec tX12_says_0 5 rfl) flX12_124_11 (md_obj hl) rfl ?_
      refine T_aload_n (am_dec tX12_says_0 6 rfl) rfl ?_
      refine T_getfield 11 49 (am_dec tX12_says_0 7 rfl) flX12_452_11 (md_obj hl) rfl ?_
      refine T_aaloadR (r := b + (508 + (c 0 49).toNat)) (am_dec tX12_says_0 8 rfl) (by decide) (mh_readCode hl) (by omega) (by omega) (if_pos (by omega)) ?_
      refine T_iconst 0 (am_dec tX12_says_0 9 rfl) rfl ⟨by decide, by decide⟩ ?_
      refine T_iload_n (am_dec tX12_says_0 10 rfl) rfl ?_
      refine T_iastore (am_dec tX12_says_0 11 rfl) (mr_readCode hl (i := (c 0 49)) (by omega) (by omega)) (by omega) (by omega) ?_
      refine am_wE (w2 := mdW w b (am_put c (508 + (c 0 49).toNat) 0 wt) q) (md_pc (by omega) (fun f g => md_t_readCode f g (by omega))) ?_
      refine T_aload_n (am_dec tX12_says_0 12 rfl) rfl ?_
      refine T_getfield 11 54 (am_dec tX12_says_0 13 rfl) flX12_124_11 (md_obj hl) rfl ?_
      refine T_aload_n (am_dec tX12_says_0 14 rfl) rfl ?_
      refine T_getfield 11 49 (am_dec tX12_says_0 15 rfl) flX12_452_11 (md_obj hl) (md_fe rfl (am_put_k (by omega))) ?_
      refine T_aaloadR (r := b + (508 + (c 0 49).toNat)) (am_dec tX12_says_0 16 rfl) (by decide) (mh_readCode hl) (by omega) (by omega) (if_pos (by omega)) ?_
      refine T_iconst 1 (am_dec tX12_says_0 17 rfl) rfl ⟨by decide, by decide⟩ ?_
      refine T_iload_n (am_dec tX12_says_0 18 rfl) rfl ?_
      refine T_iastore (am_dec tX12_says_0 19 rfl) (mr_readCode hl (i := (c 0 49)) (by omega) (by omega)) (by omega) (by omega) ?_
      refine am_wE (w2 := mdW w b (am_put (am_put c (508 + (c 0 49).toNat) 0 wt) (508 + (c 0 49).toNat) 1 vv) q) (md_pc (by omega) (fun f g => md_t_readCode f g (by omega))) ?_
      refine T_aload_n (am_dec tX12_says_0 20 rfl) rfl ?_
      refine T_dup (am_dec tX12_says_0 21 rfl) rfl ?_
      refine T_getfield 11 49 (am_dec tX12_says_0 22 rfl) flX12_452_11 (md_obj hl) (md_fe rfl ((am_put_k (by omega)).trans (am_put_k (by omega)))) ?_
      refine T_iconst 1 (am_dec tX12_says_0 23 rfl) rfl ⟨by decide, by decide⟩ ?_
      refine T_iadd ((c 0 49) + 1) (am_dec tX12_says_0 24 rfl) rfl ⟨by omega, by omega⟩ ?_
      refine T_putfield (fs' := mdO b (am_up ((am_put (am_put c (508 + (c 0 49).toNat) 0 wt) (508 + (c 0 49).toNat) 1 vv) 0) 49 ((c 0 49) + 1)) (q 0)) 11 49 (am_dec tX12_says_0 25 rfl) flX12_452_11 rfl rfl rfl trivial (md_obj hl) (Nat.le_of_ble_eq_true rfl) rfl ?_
      refine am_wE (w2 := mdW w b (am_put (am_put (am_put c (508 + (c 0 49).toNat) 0 wt) (508 + (c 0 49).toNat) 1 vv) 0 49 ((c 0 49) + 1)) q) (md_fc) ?_
      exact T_return (am_dec tX12_says_0 26 rfl) rfl (am_tr (fun (x9 : am_F) => Q (.inl none) (mdW w b x9 q)) (y := (am_put (am_put (am_put c (508 + (c 0 49).toNat) 0 wt) (508 + (c 0 49).toNat) 1 vv) 0 49 ((c 0 49) + 1))) (show (k_says c wt vv) = (am_put (am_put (am_put c (508 + (c 0 49).toNat) 0 wt) (508 + (c 0 49).toNat) 1 vv) 0 49 ((c 0 49) + 1)) from (if_pos h4)) hQ)
    · exact T_return (am_dec tX12_says_0 3 rfl) rfl (am_tr (fun (x9 : am_F) => Q (.inl none) (mdW w b x9 q)) (y := c) (show (k_says c wt vv) = c from (if_neg h4)) hQ)
  exact key _ ⟨rfl, rfl⟩
def k_opens (c : am_F) : Int × am_F := (let c6 : am_F := (if c 0 50 = 6 then k_wrong c 3 (c 0 4) else (am_put c 0 50 ((c 0 50) + 1))); (let t35 : Int := (if c6 0 5 = 0 then 1 else 0); (t35, c6)))
theorem mk_opens {S : am_S} {d u : Nat} {w : AH} {b : Nat} (hl : b + 735 ≤ w.length) {c : am_F} {q : am_F}  (hR : RdV c) (hop : 0 ≤ c 0 50 ∧ c 0 50 ≤ 6) (hd : 1 ≤ d) : am_Out S zX12_opens d u [aR b] (mdW w b c q) (.inl (some (aI ((k_opens c).1)))) (mdW w b ((k_opens c).2) q) := by
  have key : ∀ Q : AO → AH → Prop, Q (.inl (some (aI ((k_opens c).1)))) (mdW w b ((k_opens c).2) q) → am_M S zX12_opens d u [aR b] (mdW w b c q) Q := by
    intro Q hQ
    refine am_body rfl (by decide +kernel) rfl (am_cats_cons rfl (am_cats_nil)) (Nat.le_of_ble_eq_true rfl) (?_ : am_T _ _ _ _ _ 0 [some (aR b)] [] (mdW w b c q))
    have hR9 := hR
    obtain ⟨r1, r2, r3⟩ := hR9
    refine T_aload_n (am_dec tX12_opens_0 0 rfl) rfl ?_
    refine T_getfield 11 50 (am_dec tX12_opens_0 1 rfl) flX12_455_11 (md_obj hl) rfl ?_
    refine T_bipush 6 (am_dec tX12_opens_0 2 rfl) rfl ⟨by decide, by decide⟩ ?_
    have K6 : ∀ (c6 : am_F), c6 = (if c 0 50 = 6 then k_wrong c 3 (c 0 4) else (am_put c 0 50 ((c 0 50) + 1))) → RdV c6 → c6 0 4 = c 0 4 →  am_T S zX12_opens d u Q 31 [some (aR b)] [] (mdW w b c6 q) := by
      intro c6 hc6 hR_c6 h4_c6
      have hR9 := hR_c6
      obtain ⟨ra_c6, rb_c6, rc_c6⟩ := hR9
      refine T_aload_n (am_dec tX12_opens_0 16 rfl) rfl ?_
      refine T_getfield 11 5 (am_dec tX12_opens_0 17 rfl) flX12_176_11 (md_obj hl) rfl ?_
      have K35 : ∀ (t35 : Int), t35 = (if c6 0 5 = 0 then 1 else 0) →  am_T S zX12_opens d u Q 43 [none] [aI t35] (mdW w b c6 q) := by
        intro t35 ht35 
        have hbt35 : t35 = 0 ∨ t35 = 1 := by
          rw [ht35]
          try dsimp only
          repeat' split
          all_goals first | exact Or.inl rfl | exact Or.inr rfl | apply k_in_b | apply k_isDigit_b | apply k_isSmall_b | apply k_bad_b | apply k_isIn_b | apply k_isStep_b | apply k_isFirst_b | apply k_isLine_b | apply k_seesBy_b | apply k_isWalker_b | apply k_seesOne_b | apply k_badTwo_b | apply k_sees_b | apply k_isCode_b | apply k_isLot_b | apply k_isShip_b | apply k_areRight_b | apply k_right_b | apply k_areSeeds_b | apply k_badBid_b | apply k_isWord_b | apply k_takes_b | apply k_takesSign_b | apply k_isFull_b | omega
        exact T_zreturn (am_dec tX12_opens_0 22 rfl) rfl (by first | exact Or.inl rfl | exact Or.inr rfl | omega) (am_tr (fun (x9 : Int × am_F) => Q (.inl (some (aI (x9.1)))) (mdW w b x9.2 q)) (y := (t35, c6)) (show (k_opens c) = (t35, c6) from (by have s9 := hc6.symm; subst s9; have s9 := ht35.symm; subst s9; exact rfl)) hQ)
      refine T_if_ne 42 (am_dec tX12_opens_0 18 rfl) rfl (fun h35 => ?_) (fun h35 => ?_)
      · refine T_iconst 0 (am_dec tX12_opens_0 21 rfl) rfl ⟨by decide, by decide⟩ ?_
        refine T_weak (ls' := [none]) (am_sub_n am_sub_nil) ?_
        exact K35 _ (if_neg h35).symm 
      · refine T_iconst 1 (am_dec tX12_opens_0 19 rfl) rfl ⟨by decide, by decide⟩ ?_
        refine T_goto 43 (am_dec tX12_opens_0 20 rfl) rfl ?_
        refine T_weak (ls' := [none]) (am_sub_n am_sub_nil) ?_
        exact K35 _ (if_pos h35).symm 
    refine T_icmp_ne 21 (am_dec tX12_opens_0 3 rfl) rfl (fun h6 => ?_) (fun h6 => ?_)
    · refine T_aload_n (am_dec tX12_opens_0 10 rfl) rfl ?_
      refine T_dup (am_dec tX12_opens_0 11 rfl) rfl ?_
      refine T_getfield 11 50 (am_dec tX12_opens_0 12 rfl) flX12_455_11 (md_obj hl) rfl ?_
      refine T_iconst 1 (am_dec tX12_opens_0 13 rfl) rfl ⟨by decide, by decide⟩ ?_
      refine T_iadd ((c 0 50) + 1) (am_dec tX12_opens_0 14 rfl) rfl ⟨by omega, by omega⟩ ?_
      refine T_putfield (fs' := mdO b (am_up (c 0) 50 ((c 0 50) + 1)) (q 0)) 11 50 (am_dec tX12_opens_0 15 rfl) flX12_455_11 rfl rfl rfl trivial (md_obj hl) (Nat.le_of_ble_eq_true rfl) rfl ?_
      refine am_wE (w2 := mdW w b (am_put c 0 50 ((c 0 50) + 1)) q) (md_fc) ?_
      exact K6 _ (if_neg h6).symm (RdV_h (j := 50) (v := ((c 0 50) + 1)) (by decide) hR) (am_put_i (by decide))
    · refine T_aload_n (am_dec tX12_opens_0 4 rfl) rfl ?_
      refine T_iconst 3 (am_dec tX12_opens_0 5 rfl) rfl ⟨by decide, by decide⟩ ?_
      refine T_aload_n (am_dec tX12_opens_0 6 rfl) rfl ?_
      refine T_getfield 11 4 (am_dec tX12_opens_0 7 rfl) flX12_169_11 (md_obj hl) rfl ?_
      refine T_callV (as := [aI 3, aI (c 0 4)]) rfl (am_dec tX12_opens_0 8 rfl) lkX12_189 (md_obj hl) rfl rfl (Nat.le_of_ble_eq_true rfl) (by omega) (mk_wrong (d := d - 1) hl 3 (c 0 4)   ) (fun _ => ?_)
      refine T_nmH (W := fun x9 => mdW w b x9 q) (v := k_wrong c 3 (c 0 4)) (fun c15 hc15 => ?_)
      have hR15 : RdV c15 := by rw [hc15]; exact (k_wrong_x hR).1
      have hR9 := hR15
      obtain ⟨ra15, rb15, rc15⟩ := hR9
      have hx15 : Ly c c15 := Ly_t Ly_r (Ly_x (by rw [hc15]; exact (k_wrong_x hR).2))
      have hz15 : c15 0 2 = c 0 2 := hx15.2 2 (by decide) (by decide) (by decide)
      have ht15_0 : c15 3 0 = c 3 0 := congrFun hx15.1 0
      have ht15_1 : c15 3 1 = c 3 1 := congrFun hx15.1 1
      have h4_15 : c15 0 4 = c 0 4 := by rw [hc15]; exact k_wrong_4
      refine T_goto 31 (am_dec tX12_opens_0 9 rfl) rfl ?_
      exact K6 _ (by have s9 := hc15.symm; subst s9; exact (if_pos h6).symm) hR15 h4_15
  exact key _ ⟨rfl, rfl⟩
theorem k_opens_b (c : am_F) : (k_opens c).1 = 0 ∨ (k_opens c).1 = 1 := by
  unfold k_opens
  try dsimp only
  repeat' split
  all_goals first | exact Or.inl rfl | exact Or.inr rfl | apply k_in_b | apply k_isDigit_b | apply k_isSmall_b | apply k_bad_b | apply k_isIn_b | apply k_isStep_b | apply k_isFirst_b | apply k_isLine_b | apply k_seesBy_b | apply k_isWalker_b | apply k_seesOne_b | apply k_badTwo_b | apply k_sees_b | apply k_isCode_b | apply k_isLot_b | apply k_isShip_b | apply k_areRight_b | apply k_right_b | apply k_areSeeds_b | apply k_badBid_b | apply k_isWord_b | apply k_takes_b | apply k_takesSign_b | apply k_isFull_b
def k_knownHere (c : am_F) : Int × am_F := (let u11 : Int × am_F := k_takes c 16 18 9 3 5 0 0; (if (u11).1 = 0 then (let u31 : Int × am_F := k_takes ((u11).2) 23 1 14 20 19 0 0; (if (u31).1 = 0 then (let u50 : Int × am_F := k_takes ((u31).2) 12 15 20 0 0 0 0; (if (u50).1 = 0 then (let u69 : Int × am_F := k_takes ((u50).2) 19 20 5 16 0 0 0; (if (u69).1 = 0 then (let u88 : Int × am_F := k_takes ((u69).2) 20 8 5 18 5 0 0; (if (u88).1 = 0 then (let u107 : Int × am_F := k_takes ((u88).2) 12 5 6 20 0 0 0; (if (u107).1 = 0 then (let u128 : Int × am_F := k_takes ((u107).2) 6 12 15 15 18 0 0; (if (u128).1 = 0 then (let u149 : Int × am_F := k_takes ((u128).2) 14 21 13 2 5 18 0; (if (u149).1 = 0 then (let u168 : Int × am_F := k_takes ((u149).2) 2 9 4 19 0 0 0; (let t171 : Int := (if (u168).1 = 0 then (-1) else 8); (t171, (u168).2))) else (7, (u149).2))) else (6, (u128).2))) else (5, (u107).2))) else (4, (u88).2))) else (3, (u69).2))) else (2, (u50).2))) else (1, (u31).2))) else (0, (u11).2)))
theorem mk_knownHere {S : am_S} {d u : Nat} {w : AH} {b : Nat} (hl : b + 735 ≤ w.length) {c : am_F} {q : am_F}  (hR : RdV c) (hd : 5 ≤ d) : am_Out S zX12_knownHere d u [aR b] (mdW w b c q) (.inl (some (aI ((k_knownHere c).1)))) (mdW w b ((k_knownHere c).2) q) := by
  have key : ∀ Q : AO → AH → Prop, Q (.inl (some (aI ((k_knownHere c).1)))) (mdW w b ((k_knownHere c).2) q) → am_M S zX12_knownHere d u [aR b] (mdW w b c q) Q := by
    intro Q hQ
    refine am_body rfl (by decide +kernel) rfl (am_cats_cons rfl (am_cats_nil)) (Nat.le_of_ble_eq_true rfl) (?_ : am_T _ _ _ _ _ 0 [some (aR b)] [] (mdW w b c q))
    have hR9 := hR
    obtain ⟨r1, r2, r3⟩ := hR9
    refine T_aload_n (am_dec tX12_knownHere_0 0 rfl) rfl ?_
    refine T_bipush 16 (am_dec tX12_knownHere_0 1 rfl) rfl ⟨by decide, by decide⟩ ?_
    refine T_bipush 18 (am_dec tX12_knownHere_0 2 rfl) rfl ⟨by decide, by decide⟩ ?_
    refine T_bipush 9 (am_dec tX12_knownHere_0 3 rfl) rfl ⟨by decide, by decide⟩ ?_
    refine T_iconst 3 (am_dec tX12_knownHere_0 4 rfl) rfl ⟨by decide, by decide⟩ ?_
    refine T_iconst 5 (am_dec tX12_knownHere_0 5 rfl) rfl ⟨by decide, by decide⟩ ?_
    refine T_iconst 0 (am_dec tX12_knownHere_0 6 rfl) rfl ⟨by decide, by decide⟩ ?_
    refine T_iconst 0 (am_dec tX12_knownHere_0 7 rfl) rfl ⟨by decide, by decide⟩ ?_
    refine T_callV (as := [aI 16, aI 18, aI 9, aI 3, aI 5, aI 0, aI 0]) rfl (am_dec tX12_knownHere_0 8 rfl) lkX12_461 (md_obj hl) rfl rfl (Nat.le_of_ble_eq_true rfl) (by omega) (mk_takes (d := d - 1) hl 16 18 9 3 5 0 0  hR (by omega) (by omega) (by omega) (by omega) (by omega) (by omega) (by omega) (by omega)) (fun _ => ?_)
    obtain ⟨u11, hu11⟩ : ∃ x9, x9 = k_takes c 16 18 9 3 5 0 0 := ⟨_, rfl⟩
    rw [← hu11]
    have hb11 := k_takes_b c 16 18 9 3 5 0 0
    rw [← hu11] at hb11
    have hR11 : RdV (u11).2 := by rw [hu11]; exact (k_takes_x hR).1
    have hR9 := hR11
    obtain ⟨ra11, rb11, rc11⟩ := hR9
    have hx11 : Ly c (u11).2 := Ly_t Ly_r (Ly_x (by rw [hu11]; exact (k_takes_x hR).2))
    have hz11 : (u11).2 0 2 = c 0 2 := hx11.2 2 (by decide) (by decide) (by decide)
    have ht11_0 : (u11).2 3 0 = c 3 0 := congrFun hx11.1 0
    have ht11_1 : (u11).2 3 1 = c 3 1 := congrFun hx11.1 1
    refine T_if_eq 19 (am_dec tX12_knownHere_0 9 rfl) rfl (fun h14 => ?_) (fun h14 => ?_)
    · refine T_aload_n (am_dec tX12_knownHere_0 12 rfl) rfl ?_
      refine T_bipush 23 (am_dec tX12_knownHere_0 13 rfl) rfl ⟨by decide, by decide⟩ ?_
      refine T_iconst 1 (am_dec tX12_knownHere_0 14 rfl) rfl ⟨by decide, by decide⟩ ?_
      refine T_bipush 14 (am_dec tX12_knownHere_0 15 rfl) rfl ⟨by decide, by decide⟩ ?_
      refine T_bipush 20 (am_dec tX12_knownHere_0 16 rfl) rfl ⟨by decide, by decide⟩ ?_
      refine T_bipush 19 (am_dec tX12_knownHere_0 17 rfl) rfl ⟨by decide, by decide⟩ ?_
      refine T_iconst 0 (am_dec tX12_knownHere_0 18 rfl) rfl ⟨by decide, by decide⟩ ?_
      refine T_iconst 0 (am_dec tX12_knownHere_0 19 rfl) rfl ⟨by decide, by decide⟩ ?_
      refine T_callV (as := [aI 23, aI 1, aI 14, aI 20, aI 19, aI 0, aI 0]) rfl (am_dec tX12_knownHere_0 20 rfl) lkX12_461 (md_obj hl) rfl rfl (Nat.le_of_ble_eq_true rfl) (by omega) (mk_takes (d := d - 1) hl 23 1 14 20 19 0 0  hR11 (by omega) (by omega) (by omega) (by omega) (by omega) (by omega) (by omega) (by omega)) (fun _ => ?_)
      obtain ⟨u31, hu31⟩ : ∃ x9, x9 = k_takes ((u11).2) 23 1 14 20 19 0 0 := ⟨_, rfl⟩
      rw [← hu31]
      have hb31 := k_takes_b ((u11).2) 23 1 14 20 19 0 0
      rw [← hu31] at hb31
      have hR31 : RdV (u31).2 := by rw [hu31]; exact (k_takes_x hR11).1
      have hR9 := hR31
      obtain ⟨ra31, rb31, rc31⟩ := hR9
      have hx31 : Ly c (u31).2 := Ly_t hx11 (Ly_x (by rw [hu31]; exact (k_takes_x hR11).2))
      have hz31 : (u31).2 0 2 = c 0 2 := hx31.2 2 (by decide) (by decide) (by decide)
      have ht31_0 : (u31).2 3 0 = c 3 0 := congrFun hx31.1 0
      have ht31_1 : (u31).2 3 1 = c 3 1 := congrFun hx31.1 1
      refine T_if_eq 39 (am_dec tX12_knownHere_0 21 rfl) rfl (fun h34 => ?_) (fun h34 => ?_)
      · refine T_aload_n (am_dec tX12_knownHere_0 24 rfl) rfl ?_
        refine T_bipush 12 (am_dec tX12_knownHere_0 25 rfl) rfl ⟨by decide, by decide⟩ ?_
        refine T_bipush 15 (am_dec tX12_knownHere_0 26 rfl) rfl ⟨by decide, by decide⟩ ?_
        refine T_bipush 20 (am_dec tX12_knownHere_0 27 rfl) rfl ⟨by decide, by decide⟩ ?_
        refine T_iconst 0 (am_dec tX12_knownHere_0 28 rfl) rfl ⟨by decide, by decide⟩ ?_
        refine T_iconst 0 (am_dec tX12_knownHere_0 29 rfl) rfl ⟨by decide, by decide⟩ ?_
        refine T_iconst 0 (am_dec tX12_knownHere_0 30 rfl) rfl ⟨by decide, by decide⟩ ?_
        refine T_iconst 0 (am_dec tX12_knownHere_0 31 rfl) rfl ⟨by decide, by decide⟩ ?_
        refine T_callV (as := [aI 12, aI 15, aI 20, aI 0, aI 0, aI 0, aI 0]) rfl (am_dec tX12_knownHere_0 32 rfl) lkX12_461 (md_obj hl) rfl rfl (Nat.le_of_ble_eq_true rfl) (by omega) (mk_takes (d := d - 1) hl 12 15 20 0 0 0 0  hR31 (by omega) (by omega) (by omega) (by omega) (by omega) (by omega) (by omega) (by omega)) (fun _ => ?_)
        obtain ⟨u50, hu50⟩ : ∃ x9, x9 = k_takes ((u31).2) 12 15 20 0 0 0 0 := ⟨_, rfl⟩
        rw [← hu50]
        have hb50 := k_takes_b ((u31).2) 12 15 20 0 0 0 0
        rw [← hu50] at hb50
        have hR50 : RdV (u50).2 := by rw [hu50]; exact (k_takes_x hR31).1
        have hR9 := hR50
        obtain ⟨ra50, rb50, rc50⟩ := hR9
        have hx50 : Ly c (u50).2 := Ly_t hx31 (Ly_x (by rw [hu50]; exact (k_takes_x hR31).2))
        have hz50 : (u50).2 0 2 = c 0 2 := hx50.2 2 (by decide) (by decide) (by decide)
        have ht50_0 : (u50).2 3 0 = c 3 0 := congrFun hx50.1 0
        have ht50_1 : (u50).2 3 1 = c 3 1 := congrFun hx50.1 1
        refine T_if_eq 58 (am_dec tX12_knownHere_0 33 rfl) rfl (fun h53 => ?_) (fun h53 => ?_)
        · refine T_aload_n (am_dec tX12_knownHere_0 36 rfl) rfl ?_
          refine T_bipush 19 (am_dec tX12_knownHere_0 37 rfl) rfl ⟨by decide, by decide⟩ ?_
          refine T_bipush 20 (am_dec tX12_knownHere_0 38 rfl) rfl ⟨by decide, by decide⟩ ?_
          refine T_iconst 5 (am_dec tX12_knownHere_0 39 rfl) rfl ⟨by decide, by decide⟩ ?_
          refine T_bipush 16 (am_dec tX12_knownHere_1 0 rfl) rfl ⟨by decide, by decide⟩ ?_
          refine T_iconst 0 (am_dec tX12_knownHere_1 1 rfl) rfl ⟨by decide, by decide⟩ ?_
          refine T_iconst 0 (am_dec tX12_knownHere_1 2 rfl) rfl ⟨by decide, by decide⟩ ?_
          refine T_iconst 0 (am_dec tX12_knownHere_1 3 rfl) rfl ⟨by decide, by decide⟩ ?_
          refine T_callV (as := [aI 19, aI 20, aI 5, aI 16, aI 0, aI 0, aI 0]) rfl (am_dec tX12_knownHere_1 4 rfl) lkX12_461 (md_obj hl) rfl rfl (Nat.le_of_ble_eq_true rfl) (by omega) (mk_takes (d := d - 1) hl 19 20 5 16 0 0 0  hR50 (by omega) (by omega) (by omega) (by omega) (by omega) (by omega) (by omega) (by omega)) (fun _ => ?_)
          obtain ⟨u69, hu69⟩ : ∃ x9, x9 = k_takes ((u50).2) 19 20 5 16 0 0 0 := ⟨_, rfl⟩
          rw [← hu69]
          have hb69 := k_takes_b ((u50).2) 19 20 5 16 0 0 0
          rw [← hu69] at hb69
          have hR69 : RdV (u69).2 := by rw [hu69]; exact (k_takes_x hR50).1
          have hR9 := hR69
          obtain ⟨ra69, rb69, rc69⟩ := hR9
          have hx69 : Ly c (u69).2 := Ly_t hx50 (Ly_x (by rw [hu69]; exact (k_takes_x hR50).2))
          have hz69 : (u69).2 0 2 = c 0 2 := hx69.2 2 (by decide) (by decide) (by decide)
          have ht69_0 : (u69).2 3 0 = c 3 0 := congrFun hx69.1 0
          have ht69_1 : (u69).2 3 1 = c 3 1 := congrFun hx69.1 1
          refine T_if_eq 77 (am_dec tX12_knownHere_1 5 rfl) rfl (fun h72 => ?_) (fun h72 => ?_)
          · refine T_aload_n (am_dec tX12_knownHere_1 8 rfl) rfl ?_
            refine T_bipush 20 (am_dec tX12_knownHere_1 9 rfl) rfl ⟨by decide, by decide⟩ ?_
            refine T_bipush 8 (am_dec tX12_knownHere_1 10 rfl) rfl ⟨by decide, by decide⟩ ?_
            refine T_iconst 5 (am_dec tX12_knownHere_1 11 rfl) rfl ⟨by decide, by decide⟩ ?_
            refine T_bipush 18 (am_dec tX12_knownHere_1 12 rfl) rfl ⟨by decide, by decide⟩ ?_
            refine T_iconst 5 (am_dec tX12_knownHere_1 13 rfl) rfl ⟨by decide, by decide⟩ ?_
            refine T_iconst 0 (am_dec tX12_knownHere_1 14 rfl) rfl ⟨by decide, by decide⟩ ?_
            refine T_iconst 0 (am_dec tX12_knownHere_1 15 rfl) rfl ⟨by decide, by decide⟩ ?_
            refine T_callV (as := [aI 20, aI 8, aI 5, aI 18, aI 5, aI 0, aI 0]) rfl (am_dec tX12_knownHere_1 16 rfl) lkX12_461 (md_obj hl) rfl rfl (Nat.le_of_ble_eq_true rfl) (by omega) (mk_takes (d := d - 1) hl 20 8 5 18 5 0 0  hR69 (by omega) (by omega) (by omega) (by omega) (by omega) (by omega) (by omega) (by omega)) (fun _ => ?_)
            obtain ⟨u88, hu88⟩ : ∃ x9, x9 = k_takes ((u69).2) 20 8 5 18 5 0 0 := ⟨_, rfl⟩
            rw [← hu88]
            have hb88 := k_takes_b ((u69).2) 20 8 5 18 5 0 0
            rw [← hu88] at hb88
            have hR88 : RdV (u88).2 := by rw [hu88]; exact (k_takes_x hR69).1
            have hR9 := hR88
            obtain ⟨ra88, rb88, rc88⟩ := hR9
            have hx88 : Ly c (u88).2 := Ly_t hx69 (Ly_x (by rw [hu88]; exact (k_takes_x hR69).2))
            have hz88 : (u88).2 0 2 = c 0 2 := hx88.2 2 (by decide) (by decide) (by decide)
            have ht88_0 : (u88).2 3 0 = c 3 0 := congrFun hx88.1 0
            have ht88_1 : (u88).2 3 1 = c 3 1 := congrFun hx88.1 1
            refine T_if_eq 96 (am_dec tX12_knownHere_1 17 rfl) rfl (fun h91 => ?_) (fun h91 => ?_)
            · refine T_aload_n (am_dec tX12_knownHere_1 20 rfl) rfl ?_
              refine T_bipush 12 (am_dec tX12_knownHere_1 21 rfl) rfl ⟨by decide, by decide⟩ ?_
              refine T_iconst 5 (am_dec tX12_knownHere_1 22 rfl) rfl ⟨by decide, by decide⟩ ?_
              refine T_bipush 6 (am_dec tX12_knownHere_1 23 rfl) rfl ⟨by decide, by decide⟩ ?_
              refine T_bipush 20 (am_dec tX12_knownHere_1 24 rfl) rfl ⟨by decide, by decide⟩ ?_
              refine T_iconst 0 (am_dec tX12_knownHere_1 25 rfl) rfl ⟨by decide, by decide⟩ ?_
              refine T_iconst 0 (am_dec tX12_knownHere_1 26 rfl) rfl ⟨by decide, by decide⟩ ?_
              refine T_iconst 0 (am_dec tX12_knownHere_1 27 rfl) rfl ⟨by decide, by decide⟩ ?_
              refine T_callV (as := [aI 12, aI 5, aI 6, aI 20, aI 0, aI 0, aI 0]) rfl (am_dec tX12_knownHere_1 28 rfl) lkX12_461 (md_obj hl) rfl rfl (Nat.le_of_ble_eq_true rfl) (by omega) (mk_takes (d := d - 1) hl 12 5 6 20 0 0 0  hR88 (by omega) (by omega) (by omega) (by omega) (by omega) (by omega) (by omega) (by omega)) (fun _ => ?_)
              obtain ⟨u107, hu107⟩ : ∃ x9, x9 = k_takes ((u88).2) 12 5 6 20 0 0 0 := ⟨_, rfl⟩
              rw [← hu107]
              have hb107 := k_takes_b ((u88).2) 12 5 6 20 0 0 0
              rw [← hu107] at hb107
              have hR107 : RdV (u107).2 := by rw [hu107]; exact (k_takes_x hR88).1
              have hR9 := hR107
              obtain ⟨ra107, rb107, rc107⟩ := hR9
              have hx107 : Ly c (u107).2 := Ly_t hx88 (Ly_x (by rw [hu107]; exact (k_takes_x hR88).2))
              have hz107 : (u107).2 0 2 = c 0 2 := hx107.2 2 (by decide) (by decide) (by decide)
              have ht107_0 : (u107).2 3 0 = c 3 0 := congrFun hx107.1 0
              have ht107_1 : (u107).2 3 1 = c 3 1 := congrFun hx107.1 1
              refine T_if_eq 115 (am_dec tX12_knownHere_1 29 rfl) rfl (fun h110 => ?_) (fun h110 => ?_)
              · refine T_aload_n (am_dec tX12_knownHere_1 32 rfl) rfl ?_
                refine T_bipush 6 (am_dec tX12_knownHere_1 33 rfl) rfl ⟨by decide, by decide⟩ ?_
                refine T_bipush 12 (am_dec tX12_knownHere_1 34 rfl) rfl ⟨by decide, by decide⟩ ?_
                refine T_bipush 15 (am_dec tX12_knownHere_1 35 rfl) rfl ⟨by decide, by decide⟩ ?_
                refine T_bipush 15 (am_dec tX12_knownHere_1 36 rfl) rfl ⟨by decide, by decide⟩ ?_
                refine T_bipush 18 (am_dec tX12_knownHere_1 37 rfl) rfl ⟨by decide, by decide⟩ ?_
                refine T_iconst 0 (am_dec tX12_knownHere_1 38 rfl) rfl ⟨by decide, by decide⟩ ?_
                refine T_iconst 0 (am_dec tX12_knownHere_1 39 rfl) rfl ⟨by decide, by decide⟩ ?_
                refine T_callV (as := [aI 6, aI 12, aI 15, aI 15, aI 18, aI 0, aI 0]) rfl (am_dec tX12_knownHere_2 0 rfl) lkX12_461 (md_obj hl) rfl rfl (Nat.le_of_ble_eq_true rfl) (by omega) (mk_takes (d := d - 1) hl 6 12 15 15 18 0 0  hR107 (by omega) (by omega) (by omega) (by omega) (by omega) (by omega) (by omega) (by omega)) (fun _ => ?_)
                obtain ⟨u128, hu128⟩ : ∃ x9, x9 = k_takes ((u107).2) 6 12 15 15 18 0 0 := ⟨_, rfl⟩
                rw [← hu128]
                have hb128 := k_takes_b ((u107).2) 6 12 15 15 18 0 0
                rw [← hu128] at hb128
                have hR128 : RdV (u128).2 := by rw [hu128]; exact (k_takes_x hR107).1
                have hR9 := hR128
                obtain ⟨ra128, rb128, rc128⟩ := hR9
                have hx128 : Ly c (u128).2 := Ly_t hx107 (Ly_x (by rw [hu128]; exact (k_takes_x hR107).2))
                have hz128 : (u128).2 0 2 = c 0 2 := hx128.2 2 (by decide) (by decide) (by decide)
                have ht128_0 : (u128).2 3 0 = c 3 0 := congrFun hx128.1 0
                have ht128_1 : (u128).2 3 1 = c 3 1 := congrFun hx128.1 1
                refine T_if_eq 137 (am_dec tX12_knownHere_2 1 rfl) rfl (fun h131 => ?_) (fun h131 => ?_)
                · refine T_aload_n (am_dec tX12_knownHere_2 4 rfl) rfl ?_
                  refine T_bipush 14 (am_dec tX12_knownHere_2 5 rfl) rfl ⟨by decide, by decide⟩ ?_
                  refine T_bipush 21 (am_dec tX12_knownHere_2 6 rfl) rfl ⟨by decide, by decide⟩ ?_
                  refine T_bipush 13 (am_dec tX12_knownHere_2 7 rfl) rfl ⟨by decide, by decide⟩ ?_
                  refine T_iconst 2 (am_dec tX12_knownHere_2 8 rfl) rfl ⟨by decide, by decide⟩ ?_
                  refine T_iconst 5 (am_dec tX12_knownHere_2 9 rfl) rfl ⟨by decide, by decide⟩ ?_
                  refine T_bipush 18 (am_dec tX12_knownHere_2 10 rfl) rfl ⟨by decide, by decide⟩ ?_
                  refine T_iconst 0 (am_dec tX12_knownHere_2 11 rfl) rfl ⟨by decide, by decide⟩ ?_
                  refine T_callV (as := [aI 14, aI 21, aI 13, aI 2, aI 5, aI 18, aI 0]) rfl (am_dec tX12_knownHere_2 12 rfl) lkX12_461 (md_obj hl) rfl rfl (Nat.le_of_ble_eq_true rfl) (by omega) (mk_takes (d := d - 1) hl 14 21 13 2 5 18 0  hR128 (by omega) (by omega) (by omega) (by omega) (by omega) (by omega) (by omega) (by omega)) (fun _ => ?_)
                  obtain ⟨u149, hu149⟩ : ∃ x9, x9 = k_takes ((u128).2) 14 21 13 2 5 18 0 := ⟨_, rfl⟩
                  rw [← hu149]
                  have hb149 := k_takes_b ((u128).2) 14 21 13 2 5 18 0
                  rw [← hu149] at hb149
                  have hR149 : RdV (u149).2 := by rw [hu149]; exact (k_takes_x hR128).1
                  have hR9 := hR149
                  obtain ⟨ra149, rb149, rc149⟩ := hR9
                  have hx149 : Ly c (u149).2 := Ly_t hx128 (Ly_x (by rw [hu149]; exact (k_takes_x hR128).2))
                  have hz149 : (u149).2 0 2 = c 0 2 := hx149.2 2 (by decide) (by decide) (by decide)
                  have ht149_0 : (u149).2 3 0 = c 3 0 := congrFun hx149.1 0
                  have ht149_1 : (u149).2 3 1 = c 3 1 := congrFun hx149.1 1
                  refine T_if_eq 158 (am_dec tX12_knownHere_2 13 rfl) rfl (fun h152 => ?_) (fun h152 => ?_)
                  · refine T_aload_n (am_dec tX12_knownHere_2 16 rfl) rfl ?_
                    refine T_iconst 2 (am_dec tX12_knownHere_2 17 rfl) rfl ⟨by decide, by decide⟩ ?_
                    refine T_bipush 9 (am_dec tX12_knownHere_2 18 rfl) rfl ⟨by decide, by decide⟩ ?_
                    refine T_iconst 4 (am_dec tX12_knownHere_2 19 rfl) rfl ⟨by decide, by decide⟩ ?_
                    refine T_bipush 19 (am_dec tX12_knownHere_2 20 rfl) rfl ⟨by decide, by decide⟩ ?_
                    refine T_iconst 0 (am_dec tX12_knownHere_2 21 rfl) rfl ⟨by decide, by decide⟩ ?_
                    refine T_iconst 0 (am_dec tX12_knownHere_2 22 rfl) rfl ⟨by decide, by decide⟩ ?_
                    refine T_iconst 0 (am_dec tX12_knownHere_2 23 rfl) rfl ⟨by decide, by decide⟩ ?_
                    refine T_callV (as := [aI 2, aI 9, aI 4, aI 19, aI 0, aI 0, aI 0]) rfl (am_dec tX12_knownHere_2 24 rfl) lkX12_461 (md_obj hl) rfl rfl (Nat.le_of_ble_eq_true rfl) (by omega) (mk_takes (d := d - 1) hl 2 9 4 19 0 0 0  hR149 (by omega) (by omega) (by omega) (by omega) (by omega) (by omega) (by omega) (by omega)) (fun _ => ?_)
                    obtain ⟨u168, hu168⟩ : ∃ x9, x9 = k_takes ((u149).2) 2 9 4 19 0 0 0 := ⟨_, rfl⟩
                    rw [← hu168]
                    have hb168 := k_takes_b ((u149).2) 2 9 4 19 0 0 0
                    rw [← hu168] at hb168
                    have hR168 : RdV (u168).2 := by rw [hu168]; exact (k_takes_x hR149).1
                    have hR9 := hR168
                    obtain ⟨ra168, rb168, rc168⟩ := hR9
                    have hx168 : Ly c (u168).2 := Ly_t hx149 (Ly_x (by rw [hu168]; exact (k_takes_x hR149).2))
                    have hz168 : (u168).2 0 2 = c 0 2 := hx168.2 2 (by decide) (by decide) (by decide)
                    have ht168_0 : (u168).2 3 0 = c 3 0 := congrFun hx168.1 0
                    have ht168_1 : (u168).2 3 1 = c 3 1 := congrFun hx168.1 1
                    have K171 : ∀ (t171 : Int), t171 = (if (u168).1 = 0 then (-1) else 8) →  am_T S zX12_knownHere d u Q 180 [none] [aI t171] (mdW w b (u168).2 q) := by
                      intro t171 ht171 
                      exact T_ireturn (am_dec tX12_knownHere_2 29 rfl) rfl (am_tr (fun (x9 : Int × am_F) => Q (.inl (some (aI (x9.1)))) (mdW w b x9.2 q)) (y := (t171, (u168).2)) (show (k_knownHere c) = (t171, (u168).2) from (by have s9 := hu11.symm; subst s9; have s9 := hu31.symm; subst s9; have s9 := hu50.symm; subst s9; have s9 := hu69.symm; subst s9; have s9 := hu88.symm; subst s9; have s9 := hu107.symm; subst s9; have s9 := hu128.symm; subst s9; have s9 := hu149.symm; subst s9; have s9 := hu168.symm; subst s9; have s9 := ht171.symm; subst s9; exact ((if_pos h14).trans ((if_pos h34).trans ((if_pos h53).trans ((if_pos h72).trans ((if_pos h91).trans ((if_pos h110).trans ((if_pos h131).trans (if_pos h152)))))))))) hQ)
                    refine T_if_eq 179 (am_dec tX12_knownHere_2 25 rfl) rfl (fun h171 => ?_) (fun h171 => ?_)
                    · refine T_iconst (-1) (am_dec tX12_knownHere_2 28 rfl) rfl ⟨by decide, by decide⟩ ?_
                      refine T_weak (ls' := [none]) (am_sub_n am_sub_nil) ?_
                      exact K171 _ (if_pos h171).symm 
                    · refine T_bipush 8 (am_dec tX12_knownHere_2 26 rfl) rfl ⟨by decide, by decide⟩ ?_
                      refine T_goto 180 (am_dec tX12_knownHere_2 27 rfl) rfl ?_
                      refine T_weak (ls' := [none]) (am_sub_n am_sub_nil) ?_
                      exact K171 _ (if_neg h171).symm 
                  · refine T_bipush 7 (am_dec tX12_knownHere_2 14 rfl) rfl ⟨by decide, by decide⟩ ?_
                    exact T_ireturn (am_dec tX12_knownHere_2 15 rfl) rfl (am_tr (fun (x9 : Int × am_F) => Q (.inl (some (aI (x9.1)))) (mdW w b x9.2 q)) (y := (7, (u149).2)) (show (k_knownHere c) = (7, (u149).2) from (by have s9 := hu11.symm; subst s9; have s9 := hu31.symm; subst s9; have s9 := hu50.symm; subst s9; have s9 := hu69.symm; subst s9; have s9 := hu88.symm; subst s9; have s9 := hu107.symm; subst s9; have s9 := hu128.symm; subst s9; have s9 := hu149.symm; subst s9; exact ((if_pos h14).trans ((if_pos h34).trans ((if_pos h53).trans ((if_pos h72).trans ((if_pos h91).trans ((if_pos h110).trans ((if_pos h131).trans (if_neg h152)))))))))) hQ)
                · refine T_bipush 6 (am_dec tX12_knownHere_2 2 rfl) rfl ⟨by decide, by decide⟩ ?_
                  exact T_ireturn (am_dec tX12_knownHere_2 3 rfl) rfl (am_tr (fun (x9 : Int × am_F) => Q (.inl (some (aI (x9.1)))) (mdW w b x9.2 q)) (y := (6, (u128).2)) (show (k_knownHere c) = (6, (u128).2) from (by have s9 := hu11.symm; subst s9; have s9 := hu31.symm; subst s9; have s9 := hu50.symm; subst s9; have s9 := hu69.symm; subst s9; have s9 := hu88.symm; subst s9; have s9 := hu107.symm; subst s9; have s9 := hu128.symm; subst s9; exact ((if_pos h14).trans ((if_pos h34).trans ((if_pos h53).trans ((if_pos h72).trans ((if_pos h91).trans ((if_pos h110).trans (if_neg h131))))))))) hQ)
              · refine T_iconst 5 (am_dec tX12_knownHere_1 30 rfl) rfl ⟨by decide, by decide⟩ ?_
                exact T_ireturn (am_dec tX12_knownHere_1 31 rfl) rfl (am_tr (fun (x9 : Int × am_F) => Q (.inl (some (aI (x9.1)))) (mdW w b x9.2 q)) (y := (5, (u107).2)) (show (k_knownHere c) = (5, (u107).2) from (by have s9 := hu11.symm; subst s9; have s9 := hu31.symm; subst s9; have s9 := hu50.symm; subst s9; have s9 := hu69.symm; subst s9; have s9 := hu88.symm; subst s9; have s9 := hu107.symm; subst s9; exact ((if_pos h14).trans ((if_pos h34).trans ((if_pos h53).trans ((if_pos h72).trans ((if_pos h91).trans (if_neg h110)))))))) hQ)
            · refine T_iconst 4 (am_dec tX12_knownHere_1 18 rfl) rfl ⟨by decide, by decide⟩ ?_
              exact T_ireturn (am_dec tX12_knownHere_1 19 rfl) rfl (am_tr (fun (x9 : Int × am_F) => Q (.inl (some (aI (x9.1)))) (mdW w b x9.2 q)) (y := (4, (u88).2)) (show (k_knownHere c) = (4, (u88).2) from (by have s9 := hu11.symm; subst s9; have s9 := hu31.symm; subst s9; have s9 := hu50.symm; subst s9; have s9 := hu69.symm; subst s9; have s9 := hu88.symm; subst s9; exact ((if_pos h14).trans ((if_pos h34).trans ((if_pos h53).trans ((if_pos h72).trans (if_neg h91))))))) hQ)
          · refine T_iconst 3 (am_dec tX12_knownHere_1 6 rfl) rfl ⟨by decide, by decide⟩ ?_
            exact T_ireturn (am_dec tX12_knownHere_1 7 rfl) rfl (am_tr (fun (x9 : Int × am_F) => Q (.inl (some (aI (x9.1)))) (mdW w b x9.2 q)) (y := (3, (u69).2)) (show (k_knownHere c) = (3, (u69).2) from (by have s9 := hu11.symm; subst s9; have s9 := hu31.symm; subst s9; have s9 := hu50.symm; subst s9; have s9 := hu69.symm; subst s9; exact ((if_pos h14).trans ((if_pos h34).trans ((if_pos h53).trans (if_neg h72)))))) hQ)
        · refine T_iconst 2 (am_dec tX12_knownHere_0 34 rfl) rfl ⟨by decide, by decide⟩ ?_
          exact T_ireturn (am_dec tX12_knownHere_0 35 rfl) rfl (am_tr (fun (x9 : Int × am_F) => Q (.inl (some (aI (x9.1)))) (mdW w b x9.2 q)) (y := (2, (u50).2)) (show (k_knownHere c) = (2, (u50).2) from (by have s9 := hu11.symm; subst s9; have s9 := hu31.symm; subst s9; have s9 := hu50.symm; subst s9; exact ((if_pos h14).trans ((if_pos h34).trans (if_neg h53))))) hQ)
      · refine T_iconst 1 (am_dec tX12_knownHere_0 22 rfl) rfl ⟨by decide, by decide⟩ ?_
        exact T_ireturn (am_dec tX12_knownHere_0 23 rfl) rfl (am_tr (fun (x9 : Int × am_F) => Q (.inl (some (aI (x9.1)))) (mdW w b x9.2 q)) (y := (1, (u31).2)) (show (k_knownHere c) = (1, (u31).2) from (by have s9 := hu11.symm; subst s9; have s9 := hu31.symm; subst s9; exact ((if_pos h14).trans (if_neg h34)))) hQ)
    · refine T_iconst 0 (am_dec tX12_knownHere_0 10 rfl) rfl ⟨by decide, by decide⟩ ?_
      exact T_ireturn (am_dec tX12_knownHere_0 11 rfl) rfl (am_tr (fun (x9 : Int × am_F) => Q (.inl (some (aI (x9.1)))) (mdW w b x9.2 q)) (y := (0, (u11).2)) (show (k_knownHere c) = (0, (u11).2) from (by have s9 := hu11.symm; subst s9; exact (if_neg h14))) hQ)
  exact key _ ⟨rfl, rfl⟩
