/-! the model: words taken, signs, starts -/
theorem k_wordHere_x {c : am_F} (h : RdV c) : RdV (k_wordHere c).2 ∧ Lx c (k_wordHere c).2 := by
  unfold k_wordHere
  exact k_blanks_x h
def k_isWord (c : am_F) (la : Int) (lb : Int) (lc : Int) (ld : Int) (le : Int) (lf : Int) (lg : Int) : Int × am_F := (let t4 : Int := (if c 0 5 = 0 then (let u8 : Int × am_F := k_wordHere c; (if (if (k_seven la lb lc ld le lf lg) < (u8).1 then 1 else if (u8).1 = (k_seven la lb lc ld le lf lg) then 0 else -1) = 0 then 1 else 0)) else 0); (let c4 : am_F := (if c 0 5 = 0 then (let u8 : Int × am_F := k_wordHere c; ((u8).2)) else c); (t4, c4)))
theorem mk_isWord {S : am_S} {d u : Nat} {w : AH} {b : Nat} (hl : b + 735 ≤ w.length) {c : am_F} {q : am_F} (la : Int) (lb : Int) (lc : Int) (ld : Int) (le : Int) (lf : Int) (lg : Int) (hR : RdV c) (hla : 0 ≤ la ∧ la ≤ 26) (hlb : 0 ≤ lb ∧ lb ≤ 26) (hlc : 0 ≤ lc ∧ lc ≤ 26) (hld : 0 ≤ ld ∧ ld ≤ 26) (hle : 0 ≤ le ∧ le ≤ 26) (hlf : 0 ≤ lf ∧ lf ≤ 26) (hlg : 0 ≤ lg ∧ lg ≤ 26) (hd : 3 ≤ d) : am_Out S zX12_isWord d u [aR b, aI la, aI lb, aI lc, aI ld, aI le, aI lf, aI lg] (mdW w b c q) (.inl (some (aI ((k_isWord c la lb lc ld le lf lg).1)))) (mdW w b ((k_isWord c la lb lc ld le lf lg).2) q) := by
  have key : ∀ Q : AO → AH → Prop, Q (.inl (some (aI ((k_isWord c la lb lc ld le lf lg).1)))) (mdW w b ((k_isWord c la lb lc ld le lf lg).2) q) → am_M S zX12_isWord d u [aR b, aI la, aI lb, aI lc, aI ld, aI le, aI lf, aI lg] (mdW w b c q) Q := by
    intro Q hQ
    refine am_body rfl (by decide +kernel) rfl (am_cats_cons rfl ( am_cats_cons rfl ( am_cats_cons rfl ( am_cats_cons rfl ( am_cats_cons rfl ( am_cats_cons rfl ( am_cats_cons rfl ( am_cats_cons rfl (am_cats_nil))))))))) (Nat.le_of_ble_eq_true rfl) (?_ : am_T _ _ _ _ _ 0 [some (aR b), some (aI la), some (aI lb), some (aI lc), some (aI ld), some (aI le), some (aI lf), some (aI lg)] [] (mdW w b c q))
    have hR9 := hR
    obtain ⟨r1, r2, r3⟩ := hR9
    refine T_aload_n (am_dec tX12_isWord_0 0 rfl) rfl ?_
    refine T_getfield 11 5 (am_dec tX12_isWord_0 1 rfl) flX12_176_11 (md_obj hl) rfl ?_
    have K4 : ∀ (t4 : Int), ∀ (c4 : am_F), t4 = (if c 0 5 = 0 then (let u8 : Int × am_F := k_wordHere c; (if (if (k_seven la lb lc ld le lf lg) < (u8).1 then 1 else if (u8).1 = (k_seven la lb lc ld le lf lg) then 0 else -1) = 0 then 1 else 0)) else 0) → c4 = (if c 0 5 = 0 then (let u8 : Int × am_F := k_wordHere c; ((u8).2)) else c) → RdV c4 → Lx c c4 →  am_T S zX12_isWord d u Q 34 [none, none, none, none, none, none, none, none] [aI t4] (mdW w b c4 q) := by
      intro t4 c4 ht4 hc4 hR_c4 hx_c4
      have hR9 := hR_c4
      obtain ⟨ra_c4, rb_c4, rc_c4⟩ := hR9
      have hz_c4 : c4 0 2 = c 0 2 := hx_c4.2 2 (by decide) (by decide) (by decide)
      have hxt4 := ht4
      dsimp only at hxt4
      have hbt4 : t4 = 0 ∨ t4 = 1 := by
        rw [ht4]
        try dsimp only
        repeat' split
        all_goals first | exact Or.inl rfl | exact Or.inr rfl | apply k_in_b | apply k_isDigit_b | apply k_isSmall_b | apply k_bad_b | apply k_isIn_b | apply k_isStep_b | apply k_isFirst_b | apply k_isLine_b | apply k_seesBy_b | apply k_isWalker_b | apply k_seesOne_b | apply k_badTwo_b | apply k_sees_b | apply k_isCode_b | apply k_isLot_b | apply k_isShip_b | apply k_areRight_b | apply k_right_b | apply k_areSeeds_b | apply k_badBid_b | omega
      exact T_zreturn (am_dec tX12_isWord_0 18 rfl) rfl (by first | exact Or.inl rfl | exact Or.inr rfl | omega) (am_tr (fun (x9 : Int × am_F) => Q (.inl (some (aI (x9.1)))) (mdW w b x9.2 q)) (y := (t4, c4)) (show (k_isWord c la lb lc ld le lf lg) = (t4, c4) from (by have s9 := ht4.symm; subst s9; have s9 := hc4.symm; subst s9; exact rfl)) hQ)
    refine T_if_ne 33 (am_dec tX12_isWord_0 2 rfl) rfl (fun h4 => ?_) (fun h4 => ?_)
    · refine T_iconst 0 (am_dec tX12_isWord_0 17 rfl) rfl ⟨by decide, by decide⟩ ?_
      refine T_weak (ls' := [none, none, none, none, none, none, none, none]) (am_sub_n (am_sub_n (am_sub_n (am_sub_n (am_sub_n (am_sub_n (am_sub_n (am_sub_n am_sub_nil)))))))) ?_
      exact K4 _ _ (if_neg h4).symm (if_neg h4).symm hR Lx_r
    · refine T_aload_n (am_dec tX12_isWord_0 3 rfl) rfl ?_
      refine T_callV (as := []) rfl (am_dec tX12_isWord_0 4 rfl) lkX12_207 (md_obj hl) rfl rfl (Nat.le_of_ble_eq_true rfl) (by omega) (mk_wordHere (d := d - 1) hl   hR (by omega)) (fun _ => ?_)
      obtain ⟨u8, hu8⟩ : ∃ x9, x9 = k_wordHere c := ⟨_, rfl⟩
      rw [← hu8]
      have hR8 : RdV (u8).2 := by rw [hu8]; exact (k_wordHere_x hR).1
      have hR9 := hR8
      obtain ⟨ra8, rb8, rc8⟩ := hR9
      have hx8 : Lx c (u8).2 := Lx_t Lx_r (by rw [hu8]; exact (k_wordHere_x hR).2)
      have hz8 : (u8).2 0 2 = c 0 2 := hx8.2 2 (by decide) (by decide) (by decide)
      refine T_iload_n (am_dec tX12_isWord_0 5 rfl) rfl ?_
      refine T_iload_n (am_dec tX12_isWord_0 6 rfl) rfl ?_
      refine T_iload_n (am_dec tX12_isWord_0 7 rfl) rfl ?_
      refine T_iload (am_dec tX12_isWord_0 8 rfl) rfl ?_
      refine T_iload (am_dec tX12_isWord_0 9 rfl) rfl ?_
      refine T_iload (am_dec tX12_isWord_0 10 rfl) rfl ?_
      refine T_iload (am_dec tX12_isWord_0 11 rfl) rfl ?_
      refine T_callS (as := [aI la, aI lb, aI lc, aI ld, aI le, aI lf, aI lg]) rfl (am_dec tX12_isWord_0 12 rfl) lkX12_211 rfl (Nat.le_of_ble_eq_true rfl) (by omega) (mk_seven (d := d - 1)  la lb lc ld le lf lg  (by omega) (by omega) (by omega) (by omega) (by omega) (by omega) (by omega) ) (fun _ => ?_)
      refine T_lcmp (am_dec tX12_isWord_0 13 rfl) ?_
      have K26 : ∀ (t26 : Int), t26 = (if (if (k_seven la lb lc ld le lf lg) < (u8).1 then 1 else if (u8).1 = (k_seven la lb lc ld le lf lg) then 0 else -1) = 0 then 1 else 0) →  am_T S zX12_isWord d u Q 34 [none, none, none, none, none, none, none, none] [aI t26] (mdW w b (u8).2 q) := by
        intro t26 ht26 
        have hbt26 : t26 = 0 ∨ t26 = 1 := by
          rw [ht26]
          try dsimp only
          repeat' split
          all_goals first | exact Or.inl rfl | exact Or.inr rfl | apply k_in_b | apply k_isDigit_b | apply k_isSmall_b | apply k_bad_b | apply k_isIn_b | apply k_isStep_b | apply k_isFirst_b | apply k_isLine_b | apply k_seesBy_b | apply k_isWalker_b | apply k_seesOne_b | apply k_badTwo_b | apply k_sees_b | apply k_isCode_b | apply k_isLot_b | apply k_isShip_b | apply k_areRight_b | apply k_right_b | apply k_areSeeds_b | apply k_badBid_b | omega
        exact K4 _ _ (by have s9 := hu8.symm; subst s9; have s9 := ht26.symm; subst s9; exact (if_pos h4).symm) (by have s9 := hu8.symm; subst s9; have s9 := ht26.symm; subst s9; exact (if_pos h4).symm) hR8 hx8
      refine T_if_ne 33 (am_dec tX12_isWord_0 14 rfl) rfl (fun h26 => ?_) (fun h26 => ?_)
      · refine T_iconst 0 (am_dec tX12_isWord_0 17 rfl) rfl ⟨by decide, by decide⟩ ?_
        refine T_weak (ls' := [none, none, none, none, none, none, none, none]) (am_sub_n (am_sub_n (am_sub_n (am_sub_n (am_sub_n (am_sub_n (am_sub_n (am_sub_n am_sub_nil)))))))) ?_
        exact K26 _ (if_neg h26).symm 
      · refine T_iconst 1 (am_dec tX12_isWord_0 15 rfl) rfl ⟨by decide, by decide⟩ ?_
        refine T_goto 34 (am_dec tX12_isWord_0 16 rfl) rfl ?_
        refine T_weak (ls' := [none, none, none, none, none, none, none, none]) (am_sub_n (am_sub_n (am_sub_n (am_sub_n (am_sub_n (am_sub_n (am_sub_n (am_sub_n am_sub_nil)))))))) ?_
        exact K26 _ (if_pos h26).symm 
  exact key _ ⟨rfl, rfl⟩
theorem k_isWord_b (c : am_F) (la : Int) (lb : Int) (lc : Int) (ld : Int) (le : Int) (lf : Int) (lg : Int) : (k_isWord c la lb lc ld le lf lg).1 = 0 ∨ (k_isWord c la lb lc ld le lf lg).1 = 1 := by
  unfold k_isWord
  try dsimp only
  repeat' split
  all_goals first | exact Or.inl rfl | exact Or.inr rfl | apply k_in_b | apply k_isDigit_b | apply k_isSmall_b | apply k_bad_b | apply k_isIn_b | apply k_isStep_b | apply k_isFirst_b | apply k_isLine_b | apply k_seesBy_b | apply k_isWalker_b | apply k_seesOne_b | apply k_badTwo_b | apply k_sees_b | apply k_isCode_b | apply k_isLot_b | apply k_isShip_b | apply k_areRight_b | apply k_right_b | apply k_areSeeds_b | apply k_badBid_b
theorem k_isWord_x {c : am_F} {la lb lc ld le lf lg : Int} (h : RdV c) : RdV (k_isWord c la lb lc ld le lf lg).2 ∧ Lx c (k_isWord c la lb lc ld le lf lg).2 := by
  unfold k_isWord
  split
  · dsimp only
    exact k_wordHere_x h
  · exact ⟨h, Lx_r⟩
def k_takes (c : am_F) (la : Int) (lb : Int) (lc : Int) (ld : Int) (le : Int) (lf : Int) (lg : Int) : Int × am_F := (let u12 : Int × am_F := k_isWord c la lb lc ld le lf lg; (let c19 : am_F := (if (u12).1 = 0 then ((u12).2) else k_skipWord ((u12).2)); (((u12).1), c19)))
theorem mk_takes {S : am_S} {d u : Nat} {w : AH} {b : Nat} (hl : b + 735 ≤ w.length) {c : am_F} {q : am_F} (la : Int) (lb : Int) (lc : Int) (ld : Int) (le : Int) (lf : Int) (lg : Int) (hR : RdV c) (hla : 0 ≤ la ∧ la ≤ 26) (hlb : 0 ≤ lb ∧ lb ≤ 26) (hlc : 0 ≤ lc ∧ lc ≤ 26) (hld : 0 ≤ ld ∧ ld ≤ 26) (hle : 0 ≤ le ∧ le ≤ 26) (hlf : 0 ≤ lf ∧ lf ≤ 26) (hlg : 0 ≤ lg ∧ lg ≤ 26) (hd : 4 ≤ d) : am_Out S zX12_takes d u [aR b, aI la, aI lb, aI lc, aI ld, aI le, aI lf, aI lg] (mdW w b c q) (.inl (some (aI ((k_takes c la lb lc ld le lf lg).1)))) (mdW w b ((k_takes c la lb lc ld le lf lg).2) q) := by
  have key : ∀ Q : AO → AH → Prop, Q (.inl (some (aI ((k_takes c la lb lc ld le lf lg).1)))) (mdW w b ((k_takes c la lb lc ld le lf lg).2) q) → am_M S zX12_takes d u [aR b, aI la, aI lb, aI lc, aI ld, aI le, aI lf, aI lg] (mdW w b c q) Q := by
    intro Q hQ
    refine am_body rfl (by decide +kernel) rfl (am_cats_cons rfl ( am_cats_cons rfl ( am_cats_cons rfl ( am_cats_cons rfl ( am_cats_cons rfl ( am_cats_cons rfl ( am_cats_cons rfl ( am_cats_cons rfl (am_cats_nil))))))))) (Nat.le_of_ble_eq_true rfl) (?_ : am_T _ _ _ _ _ 0 [some (aR b), some (aI la), some (aI lb), some (aI lc), some (aI ld), some (aI le), some (aI lf), some (aI lg), none] [] (mdW w b c q))
    have hR9 := hR
    obtain ⟨r1, r2, r3⟩ := hR9
    refine T_aload_n (am_dec tX12_takes_0 0 rfl) rfl ?_
    refine T_iload_n (am_dec tX12_takes_0 1 rfl) rfl ?_
    refine T_iload_n (am_dec tX12_takes_0 2 rfl) rfl ?_
    refine T_iload_n (am_dec tX12_takes_0 3 rfl) rfl ?_
    refine T_iload (am_dec tX12_takes_0 4 rfl) rfl ?_
    refine T_iload (am_dec tX12_takes_0 5 rfl) rfl ?_
    refine T_iload (am_dec tX12_takes_0 6 rfl) rfl ?_
    refine T_iload (am_dec tX12_takes_0 7 rfl) rfl ?_
    refine T_callV (as := [aI la, aI lb, aI lc, aI ld, aI le, aI lf, aI lg]) rfl (am_dec tX12_takes_0 8 rfl) lkX12_215 (md_obj hl) rfl rfl (Nat.le_of_ble_eq_true rfl) (by omega) (mk_isWord (d := d - 1) hl la lb lc ld le lf lg  hR (by omega) (by omega) (by omega) (by omega) (by omega) (by omega) (by omega) (by omega)) (fun _ => ?_)
    obtain ⟨u12, hu12⟩ : ∃ x9, x9 = k_isWord c la lb lc ld le lf lg := ⟨_, rfl⟩
    rw [← hu12]
    have hb12 := k_isWord_b c la lb lc ld le lf lg
    rw [← hu12] at hb12
    have hR12 : RdV (u12).2 := by rw [hu12]; exact (k_isWord_x hR).1
    have hR9 := hR12
    obtain ⟨ra12, rb12, rc12⟩ := hR9
    have hx12 : Lx c (u12).2 := Lx_t Lx_r (by rw [hu12]; exact (k_isWord_x hR).2)
    have hz12 : (u12).2 0 2 = c 0 2 := hx12.2 2 (by decide) (by decide) (by decide)
    refine T_istore (ls' := [some (aR b), some (aI la), some (aI lb), some (aI lc), some (aI ld), some (aI le), some (aI lf), some (aI lg), some (aI ((u12).1))]) (am_dec tX12_takes_0 9 rfl) (by decide) rfl ?_
    refine T_iload (am_dec tX12_takes_0 10 rfl) rfl ?_
    have K19 : ∀ (c19 : am_F), c19 = (if (u12).1 = 0 then ((u12).2) else k_skipWord ((u12).2)) → RdV c19 → Lx c c19 →  am_T S zX12_takes d u Q 26 [none, none, none, none, none, none, none, none, some (aI ((u12).1))] [] (mdW w b c19 q) := by
      intro c19 hc19 hR_c19 hx_c19
      have hR9 := hR_c19
      obtain ⟨ra_c19, rb_c19, rc_c19⟩ := hR9
      have hz_c19 : c19 0 2 = c 0 2 := hx_c19.2 2 (by decide) (by decide) (by decide)
      refine T_iload (am_dec tX12_takes_0 14 rfl) rfl ?_
      exact T_zreturn (am_dec tX12_takes_0 15 rfl) rfl (by first | exact Or.inl rfl | exact Or.inr rfl | omega) (am_tr (fun (x9 : Int × am_F) => Q (.inl (some (aI (x9.1)))) (mdW w b x9.2 q)) (y := (((u12).1), c19)) (show (k_takes c la lb lc ld le lf lg) = (((u12).1), c19) from (by have s9 := hu12.symm; subst s9; have s9 := hc19.symm; subst s9; exact rfl)) hQ)
    refine T_if_eq 26 (am_dec tX12_takes_0 11 rfl) rfl (fun h19 => ?_) (fun h19 => ?_)
    · refine T_weak (ls' := [none, none, none, none, none, none, none, none, some (aI ((u12).1))]) (am_sub_n (am_sub_n (am_sub_n (am_sub_n (am_sub_n (am_sub_n (am_sub_n (am_sub_n (am_sub_s am_sub_nil))))))))) ?_
      exact K19 _ (if_pos h19).symm hR12 hx12
    · refine T_aload_n (am_dec tX12_takes_0 12 rfl) rfl ?_
      refine T_callV (as := []) rfl (am_dec tX12_takes_0 13 rfl) lkX12_219 (md_obj hl) rfl rfl (Nat.le_of_ble_eq_true rfl) (by omega) (mk_skipWord (d := d - 1) hl   (by omega) (by omega)) (fun _ => ?_)
      refine T_nmH (W := fun x9 => mdW w b x9 q) (v := k_skipWord ((u12).2)) (fun c23 hc23 => ?_)
      have hR23 : RdV c23 := by rw [hc23]; exact (k_skipWord_x hR12).1
      have hR9 := hR23
      obtain ⟨ra23, rb23, rc23⟩ := hR9
      have hx23 : Lx c c23 := Lx_t hx12 (by rw [hc23]; exact (k_skipWord_x hR12).2)
      have hz23 : c23 0 2 = c 0 2 := hx23.2 2 (by decide) (by decide) (by decide)
      refine T_weak (ls' := [none, none, none, none, none, none, none, none, some (aI ((u12).1))]) (am_sub_n (am_sub_n (am_sub_n (am_sub_n (am_sub_n (am_sub_n (am_sub_n (am_sub_n (am_sub_s am_sub_nil))))))))) ?_
      exact K19 _ (by have s9 := hc23.symm; subst s9; exact (if_neg h19).symm) hR23 hx23
  exact key _ ⟨rfl, rfl⟩
theorem k_takes_b (c : am_F) (la : Int) (lb : Int) (lc : Int) (ld : Int) (le : Int) (lf : Int) (lg : Int) : (k_takes c la lb lc ld le lf lg).1 = 0 ∨ (k_takes c la lb lc ld le lf lg).1 = 1 := by
  unfold k_takes
  try dsimp only
  repeat' split
  all_goals first | exact Or.inl rfl | exact Or.inr rfl | apply k_in_b | apply k_isDigit_b | apply k_isSmall_b | apply k_bad_b | apply k_isIn_b | apply k_isStep_b | apply k_isFirst_b | apply k_isLine_b | apply k_seesBy_b | apply k_isWalker_b | apply k_seesOne_b | apply k_badTwo_b | apply k_sees_b | apply k_isCode_b | apply k_isLot_b | apply k_isShip_b | apply k_areRight_b | apply k_right_b | apply k_areSeeds_b | apply k_badBid_b | apply k_isWord_b
theorem k_takes_x {c : am_F} {la lb lc ld le lf lg : Int} (h : RdV c) : RdV (k_takes c la lb lc ld le lf lg).2 ∧ Lx c (k_takes c la lb lc ld le lf lg).2 := by
  have h1 := k_isWord_x (la := la) (lb := lb) (lc := lc) (ld := ld) (le := le) (lf := lf) (lg := lg) h
  unfold k_takes
  dsimp only
  split
  · exact h1
  · have h2 := k_skipWord_x h1.1
    exact ⟨h2.1, Lx_t h1.2 h2.2⟩
def k_sign (c : am_F) (sg : Int) : am_F := (if c 0 5 = 0 then (let c9 : am_F := k_blanks c; (let n17 : Int := (k_byteAt c9 (c9 0 4)); (if n17 = sg then (am_put c9 0 4 ((c9 0 4) + 1)) else k_wrong c9 1 (c9 0 4)))) else c)
theorem mk_sign {S : am_S} {d u : Nat} {w : AH} {b : Nat} (hl : b + 735 ≤ w.length) {c : am_F} {q : am_F} (sg : Int) (hR : RdV c) (hsg : 0 ≤ sg) (hd : 2 ≤ d) : am_Out S zX12_sign d u [aR b, aI sg] (mdW w b c q) (.inl none) (mdW w b (k_sign c sg) q) := by
  have key : ∀ Q : AO → AH → Prop, Q (.inl none) (mdW w b (k_sign c sg) q) → am_M S zX12_sign d u [aR b, aI sg] (mdW w b c q) Q := by
    intro Q hQ
    refine am_body rfl (by decide +kernel) rfl (am_cats_cons rfl ( am_cats_cons rfl (am_cats_nil))) (Nat.le_of_ble_eq_true rfl) (?_ : am_T _ _ _ _ _ 0 [some (aR b), some (aI sg)] [] (mdW w b c q))
    have hR9 := hR
    obtain ⟨r1, r2, r3⟩ := hR9
    refine T_aload_n (am_dec tX12_sign_0 0 rfl) rfl ?_
    refine T_getfield 11 5 (am_dec tX12_sign_0 1 rfl) flX12_176_11 (md_obj hl) rfl ?_
    refine T_if_eq 8 (am_dec tX12_sign_0 2 rfl) rfl (fun h4 => ?_) (fun h4 => ?_)
    · refine T_aload_n (am_dec tX12_sign_0 4 rfl) rfl ?_
      refine T_callV (as := []) rfl (am_dec tX12_sign_0 5 rfl) lkX12_182 (md_obj hl) rfl rfl (Nat.le_of_ble_eq_true rfl) (by omega) (mk_blanks (d := d - 1) hl   hR (by omega)) (fun _ => ?_)
      refine T_nmH (W := fun x9 => mdW w b x9 q) (v := k_blanks c) (fun c9 hc9 => ?_)
      have hR9 : RdV c9 := by rw [hc9]; exact (k_blanks_x hR).1
      have hR9 := hR9
      obtain ⟨ra9, rb9, rc9⟩ := hR9
      have hx9 : Lx c c9 := Lx_t Lx_r (by rw [hc9]; exact (k_blanks_x hR).2)
      have hz9 : c9 0 2 = c 0 2 := hx9.2 2 (by decide) (by decide) (by decide)
      refine T_aload_n (am_dec tX12_sign_0 6 rfl) rfl ?_
      refine T_aload_n (am_dec tX12_sign_0 7 rfl) rfl ?_
      refine T_getfield 11 4 (am_dec tX12_sign_0 8 rfl) flX12_169_11 (md_obj hl) rfl ?_
      refine T_callV (as := [aI (c9 0 4)]) rfl (am_dec tX12_sign_0 9 rfl) lkX12_172 (md_obj hl) rfl rfl (Nat.le_of_ble_eq_true rfl) (by omega) (mk_byteAt (d := d - 1) hl (c9 0 4)  (by omega) ) (fun _ => ?_)
      refine T_nm (fun n17 hn17 => ?_)
      have hs17 : ((c9 0 4) < c9 0 2 ∧ n17 = c9 1 (c9 0 4).toNat) ∨ (c9 0 2 ≤ (c9 0 4) ∧ n17 = -1) := by rw [hn17]; exact k_byteAt_s _ _
      refine T_iload_n (am_dec tX12_sign_0 10 rfl) rfl ?_
      have K21 : ∀ (c21 : am_F), c21 = (if n17 = sg then (am_put c9 0 4 ((c9 0 4) + 1)) else k_wrong c9 1 (c9 0 4)) → RdV c21 → Lx c c21 →  am_T S zX12_sign d u Q 46 [none, none] [] (mdW w b c21 q) := by
        intro c21 hc21 hR_c21 hx_c21
        have hR9 := hR_c21
        obtain ⟨ra_c21, rb_c21, rc_c21⟩ := hR9
        have hz_c21 : c21 0 2 = c 0 2 := hx_c21.2 2 (by decide) (by decide) (by decide)
        exact T_return (am_dec tX12_sign_0 24 rfl) rfl (am_tr (fun (x9 : am_F) => Q (.inl none) (mdW w b x9 q)) (y := c21) (show (k_sign c sg) = c21 from (by have s9 := hc9.symm; subst s9; have s9 := hn17.symm; subst s9; have s9 := hc21.symm; subst s9; exact (if_pos h4))) hQ)
      refine T_icmp_ne 37 (am_dec tX12_sign_0 11 rfl) rfl (fun h21 => ?_) (fun h21 => ?_)
      · refine T_aload_n (am_dec tX12_sign_0 19 rfl) rfl ?_
        refine T_iconst 1 (am_dec tX12_sign_0 20 rfl) rfl ⟨by decide, by decide⟩ ?_
        refine T_aload_n (am_dec tX12_sign_0 21 rfl) rfl ?_
        refine T_getfield 11 4 (am_dec tX12_sign_0 22 rfl) flX12_169_11 (md_obj hl) rfl ?_
        refine T_callV (as := [aI 1, aI (c9 0 4)]) rfl (am_dec tX12_sign_0 23 rfl) lkX12_189 (md_obj hl) rfl rfl (Nat.le_of_ble_eq_true rfl) (by omega) (mk_wrong (d := d - 1) hl 1 (c9 0 4)   ) (fun _ => ?_)
        refine T_nmH (W := fun x9 => mdW w b x9 q) (v := k_wrong c9 1 (c9 0 4)) (fun c43 hc43 => ?_)
        have hR43 : RdV c43 := by rw [hc43]; exact (k_wrong_x hR9).1
        have hR9 := hR43
        obtain ⟨ra43, rb43, rc43⟩ := hR9
        have hx43 : Lx c c43 := Lx_t hx9 (by rw [hc43]; exact (k_wrong_x hR9).2)
        have hz43 : c43 0 2 = c 0 2 := hx43.2 2 (by decide) (by decide) (by decide)
        refine T_weak (ls' := [none, none]) (am_sub_n (am_sub_n am_sub_nil)) ?_
        exact K21 _ (by have s9 := hc43.symm; subst s9; exact (if_neg h21).symm) hR43 hx43
      · refine T_aload_n (am_dec tX12_sign_0 12 rfl) rfl ?_
        refine T_dup (am_dec tX12_sign_0 13 rfl) rfl ?_
        refine T_getfield 11 4 (am_dec tX12_sign_0 14 rfl) flX12_169_11 (md_obj hl) rfl ?_
        refine T_iconst 1 (am_dec tX12_sign_0 15 rfl) rfl ⟨by decide, by decide⟩ ?_
        refine T_iadd ((c9 0 4) + 1) (am_dec tX12_sign_0 16 rfl) rfl ⟨by omega, by omega⟩ ?_
        refine T_putfield (fs' := mdO b (am_up (c9 0) 4 ((c9 0 4) + 1)) (q 0)) 11 4 (am_dec tX12_sign_0 17 rfl) flX12_169_11 rfl rfl rfl trivial (md_obj hl) (Nat.le_of_ble_eq_true rfl) rfl ?_
        refine am_wE (w2 := mdW w b (am_put c9 0 4 ((c9 0 4) + 1)) q) (md_fc) ?_
        refine T_goto 46 (am_dec tX12_sign_0 18 rfl) rfl ?_
        refine T_weak (ls' := [none, none]) (am_sub_n (am_sub_n am_sub_nil)) ?_
        exact K21 _ (if_pos h21).symm (RdV_p4 hR9 (by omega) (show ((c9 0 4) + 1) ≤ c9 0 2 by omega)) (Lx_t hx9 (Lx_p (by omega)))
    · exact T_return (am_dec tX12_sign_0 3 rfl) rfl (am_tr (fun (x9 : am_F) => Q (.inl none) (mdW w b x9 q)) (y := c) (show (k_sign c sg) = c from (if_neg h4)) hQ)
  exact key _ ⟨rfl, rfl⟩
theorem k_sign_x {c : am_F} {sg : Int} (h : RdV c) (hs : 0 ≤ sg) : RdV (k_sign c sg) ∧ Lx c (k_sign c sg) := by
  have h1 := k_blanks_x h
  have hr := h1.1
  obtain ⟨r1, r2, r3⟩ := hr
  have hb := k_byteAt_s (k_blanks c) (k_blanks c 0 4)
  unfold k_sign
  split
  · dsimp only
    split
    · exact ⟨RdV_p4 h1.1 (by omega) (by omega), Lx_t h1.2 (Lx_p (by omega))⟩
    · have h2 := k_wrong_x (x := 1) (y := k_blanks c 0 4) h1.1
      exact ⟨h2.1, Lx_t h1.2 h2.2⟩
  · exact ⟨h, Lx_r⟩
def k_takesSign (c : am_F) (sg : Int) : Int × am_F := (if c 0 5 = 0 then (let c10 : am_F := k_blanks c; (let n18 : Int := (k_byteAt c10 (c10 0 4)); (let t22 : Int := (if n18 = sg then 1 else 0); (let c32 : am_F := (if t22 = 0 then c10 else (am_put c10 0 4 ((c10 0 4) + 1))); (t22, c32))))) else (0, c))
theorem mk_takesSign {S : am_S} {d u : Nat} {w : AH} {b : Nat} (hl : b + 735 ≤ w.length) {c : am_F} {q : am_F} (sg : Int) (hR : RdV c) (hsg : 0 ≤ sg) (hd : 2 ≤ d) : am_Out S zX12_takesSign d u [aR b, aI sg] (mdW w b c q) (.inl (some (aI ((k_takesSign c sg).1)))) (mdW w b ((k_takesSign c sg).2) q) := by
  have key : ∀ Q : AO → AH → Prop, Q (.inl (some (aI ((k_takesSign c sg).1)))) (mdW w b ((k_takesSign c sg).2) q) → am_M S zX12_takesSign d u [aR b, aI sg] (mdW w b c q) Q := by
    intro Q hQ
    refine am_body rfl (by decide +kernel) rfl (am_cats_cons rfl ( am_cats_cons rfl (am_cats_nil))) (Nat.le_of_ble_eq_true rfl) (?_ : am_T _ _ _ _ _ 0 [some (aR b), some (aI sg), none] [] (mdW w b c q))
    have hR9 := hR
    obtain ⟨r1, r2, r3⟩ := hR9
    refine T_aload_n (am_dec tX12_takesSign_0 0 rfl) rfl ?_
    refine T_getfield 11 5 (am_dec tX12_takesSign_0 1 rfl) flX12_176_11 (md_obj hl) rfl ?_
    refine T_if_eq 9 (am_dec tX12_takesSign_0 2 rfl) rfl (fun h4 => ?_) (fun h4 => ?_)
    · refine T_aload_n (am_dec tX12_takesSign_0 5 rfl) rfl ?_
      refine T_callV (as := []) rfl (am_dec tX12_takesSign_0 6 rfl) lkX12_182 (md_obj hl) rfl rfl (Nat.le_of_ble_eq_true rfl) (by omega) (mk_blanks (d := d - 1) hl   hR (by omega)) (fun _ => ?_)
      refine T_nmH (W := fun x9 => mdW w b x9 q) (v := k_blanks c) (fun c10 hc10 => ?_)
      have hR10 : RdV c10 := by rw [hc10]; exact (k_blanks_x hR).1
      have hR9 := hR10
      obtain ⟨ra10, rb10, rc10⟩ := hR9
      have hx10 : Lx c c10 := Lx_t Lx_r (by rw [hc10]; exact (k_blanks_x hR).2)
      have hz10 : c10 0 2 = c 0 2 := hx10.2 2 (by decide) (by decide) (by decide)
      refine T_aload_n (am_dec tX12_takesSign_0 7 rfl) rfl ?_
      refine T_aload_n (am_dec tX12_takesSign_0 8 rfl) rfl ?_
      refine T_getfield 11 4 (am_dec tX12_takesSign_0 9 rfl) flX12_169_11 (md_obj hl) rfl ?_
      refine T_callV (as := [aI (c10 0 4)]) rfl (am_dec tX12_takesSign_0 10 rfl) lkX12_172 (md_obj hl) rfl rfl (Nat.le_of_ble_eq_true rfl) (by omega) (mk_byteAt (d := d - 1) hl (c10 0 4)  (by omega) ) (fun _ => ?_)
      refine T_nm (fun n18 hn18 => ?_)
      have hs18 : ((c10 0 4) < c10 0 2 ∧ n18 = c10 1 (c10 0 4).toNat) ∨ (c10 0 2 ≤ (c10 0 4) ∧ n18 = -1) := by rw [hn18]; exact k_byteAt_s _ _
      refine T_iload_n (am_dec tX12_takesSign_0 11 rfl) rfl ?_
      have K22 : ∀ (t22 : Int), t22 = (if n18 = sg then 1 else 0) →  am_T S zX12_takesSign d u Q 30 [some (aR b), none, none] [aI t22] (mdW w b c10 q) := by
        intro t22 ht22 
        have hbt22 : t22 = 0 ∨ t22 = 1 := by
          rw [ht22]
          try dsimp only
          repeat' split
          all_goals first | exact Or.inl rfl | exact Or.inr rfl | apply k_in_b | apply k_isDigit_b | apply k_isSmall_b | apply k_bad_b | apply k_isIn_b | apply k_isStep_b | apply k_isFirst_b | apply k_isLine_b | apply k_seesBy_b | apply k_isWalker_b | apply k_seesOne_b | apply k_badTwo_b | apply k_sees_b | apply k_isCode_b | apply k_isLot_b | apply k_isShip_b | apply k_areRight_b | apply k_right_b | apply k_areSeeds_b | apply k_badBid_b | apply k_isWord_b | apply k_takes_b | omega
        refine T_istore_n (ls' := [some (aR b), none, some (aI t22)]) (am_dec tX12_takesSign_0 16 rfl) (by decide) rfl ?_
        refine T_iload_n (am_dec tX12_takesSign_0 17 rfl) rfl ?_
        have K32 : ∀ (c32 : am_F), c32 = (if t22 = 0 then c10 else (am_put c10 0 4 ((c10 0 4) + 1))) → RdV c32 → Lx c c32 →  am_T S zX12_takesSign d u Q 45 [none, none, some (aI t22)] [] (mdW w b c32 q) := by
          intro c32 hc32 hR_c32 hx_c32
          have hR9 := hR_c32
          obtain ⟨ra_c32, rb_c32, rc_c32⟩ := hR9
          have hz_c32 : c32 0 2 = c 0 2 := hx_c32.2 2 (by decide) (by decide) (by decide)
          refine T_iload_n (am_dec tX12_takesSign_0 25 rfl) rfl ?_
          exact T_zreturn (am_dec tX12_takesSign_0 26 rfl) rfl (by first | exact Or.inl rfl | exact Or.inr rfl | omega) (am_tr (fun (x9 : Int × am_F) => Q (.inl (some (aI (x9.1)))) (mdW w b x9.2 q)) (y := (t22, c32)) (show (k_takesSign c sg) = (t22, c32) from (by have s9 := hc10.symm; subst s9; have s9 := hn18.symm; subst s9; have s9 := ht22.symm; subst s9; have s9 := hc32.symm; subst s9; exact (if_pos h4))) hQ)
        refine T_if_eq 45 (am_dec tX12_takesSign_0 18 rfl) rfl (fun h32 => ?_) (fun h32 => ?_)
        · refine T_weak (ls' := [none, none, some (aI t22)]) (am_sub_n (am_sub_n (am_sub_s am_sub_nil))) ?_
          exact K32 _ (if_pos h32).symm hR10 hx10
        · refine T_aload_n (am_dec tX12_takesSign_0 19 rfl) rfl ?_
          refine T_dup (am_dec tX12_takesSign_0 20 rfl) rfl ?_
          refine T_getfield 11 4 (am_dec tX12_takesSign_0 21 rfl) flX12_169_11 (md_obj hl) rfl ?_
          refine T_iconst 1 (am_dec tX12_takesSign_0 22 rfl) rfl ⟨by decide, by decide⟩ ?_
          refine T_iadd ((c10 0 4) + 1) (am_dec tX12_takesSign_0 23 rfl) rfl ⟨by omega, by omega⟩ ?_
          refine T_putfield (fs' := mdO b (am_up (c10 0) 4 ((c10 0 4) + 1)) (q 0)) 11 4 (am_dec tX12_takesSign_0 24 rfl) flX12_169_11 rfl rfl rfl trivial (md_obj hl) (Nat.le_of_ble_eq_true rfl) rfl ?_
          refine am_wE (w2 := mdW w b (am_put c10 0 4 ((c10 0 4) + 1)) q) (md_fc) ?_
          refine T_weak (ls' := [none, none, some (aI t22)]) (am_sub_n (am_sub_n (am_sub_s am_sub_nil))) ?_
          exact K32 _ (if_neg h32).symm (RdV_p4 hR10 (by omega) (show ((c10 0 4) + 1) ≤ c10 0 2 by omega)) (Lx_t hx10 (Lx_p (by omega)))
      refine T_icmp_ne 29 (am_dec tX12_takesSign_0 12 rfl) rfl (fun h22 => ?_) (fun h22 => ?_)
      · refine T_iconst 0 (am_dec tX12_takesSign_0 15 rfl) rfl ⟨by decide, by decide⟩ ?_
        refine T_weak (ls' := [some (aR b), none, none]) (am_sub_s (am_sub_n (am_sub_n am_sub_nil))) ?_
        exact K22 _ (if_neg h22).symm 
      · refine T_iconst 1 (am_dec tX12_takesSign_0 13 rfl) rfl ⟨by decide, by decide⟩ ?_
        refine T_goto 30 (am_dec tX12_takesSign_0 14 rfl) rfl ?_
        refine T_weak (ls' := [some (aR b), none, none]) (am_sub_s (am_sub_n (am_sub_n am_sub_nil))) ?_
        exact K22 _ (if_pos h22).symm 
    · refine T_iconst 0 (am_dec tX12_takesSign_0 3 rfl) rfl ⟨by decide, by decide⟩ ?_
      exact T_zreturn (am_dec tX12_takesSign_0 4 rfl) rfl (by first | exact Or.inl rfl | exact Or.inr rfl | omega) (am_tr (fun (x9 : Int × am_F) => Q (.inl (some (aI (x9.1)))) (mdW w b x9.2 q)) (y := (0, c)) (show (k_takesSign c sg) = (0, c) from (if_neg h4)) hQ)
  exact key _ ⟨rfl, rfl⟩
theorem k_takesSign_b (c : am_F) (sg : Int) : (k_takesSign c sg).1 = 0 ∨ (k_takesSign c sg).1 = 1 := by
  unfold k_takesSign
  try dsimp only
  repeat' split
  all_goals first | exact Or.inl rfl | exact Or.inr rfl | apply k_in_b | apply k_isDigit_b | apply k_isSmall_b | apply k_bad_b | apply k_isIn_b | apply k_isStep_b | apply k_isFirst_b | apply k_isLine_b | apply k_seesBy_b | apply k_isWalker_b | apply k_seesOne_b | apply k_badTwo_b | apply k_sees_b | apply k_isCode_b | apply k_isLot_b | apply k_isShip_b | apply k_areRight_b | apply k_right_b | apply k_areSeeds_b | apply k_badBid_b | apply k_isWord_b | apply k_takes_b
theorem k_takesSign_x {c : am_F} {sg : Int} (h : RdV c) (hs : 0 ≤ sg) : RdV (k_takesSign c sg).2 ∧ Lx c (k_takesSign c sg).2 := by
  have h1 := k_blanks_x h
  have hr := h1.1
  obtain ⟨r1, r2, r3⟩ := hr
  have hb := k_byteAt_s (k_blanks c) (k_blanks c 0 4)
  unfold k_takesSign
  split
  · dsimp only
    by_cases h9 : k_byteAt (k_blanks c) (k_blanks c 0 4) = sg
    · rw [if_pos h9, if_neg (by decide : ¬ (1 : Int) = 0)]
      exact ⟨RdV_p4 h1.1 (by omega) (by omega), Lx_t h1.2 (Lx_p (by omega))⟩
    · rw [if_neg h9, if_pos rfl]
      exact h1
  · exact ⟨h, Lx_r⟩
def k_kindHere (c : am_F) : Int × am_F := (let u12 : Int × am_F := k_isWord c 16 15 18 20 0 0 0; (if (u12).1 = 0 then (let u31 : Int × am_F := k_isWord ((u12).2) 12 1 13 16 0 0 0; (if (u31).1 = 0 then (let u50 : Int × am_F := k_isWord ((u31).2) 12 15 20 0 0 0 0; (if (u50).1 = 0 then (let u69 : Int × am_F := k_isWord ((u50).2) 23 1 12 11 0 0 0; (if (u69).1 = 0 then (let u88 : Int × am_F := k_isWord ((u69).2) 23 1 20 3 8 0 0; (if (u88).1 = 0 then (let u108 : Int × am_F := k_isWord ((u88).2) 19 8 9 16 0 0 0; (if (u108).1 = 0 then (let u130 : Int × am_F := k_isWord ((u108).2) 19 9 7 8 20 0 0; (if (u130).1 = 0 then (let u150 : Int × am_F := k_isWord ((u130).2) 23 9 14 4 0 0 0; (if (u150).1 = 0 then (let u171 : Int × am_F := k_isWord ((u150).2) 20 8 9 14 0 0 0; (if (u171).1 = 0 then (let u192 : Int × am_F := k_isWord ((u171).2) 19 20 5 1 13 5 18; (if (u192).1 = 0 then (let u212 : Int × am_F := k_isWord ((u192).2) 6 15 7 0 0 0 0; (let t215 : Int := (if (u212).1 = 0 then (-1) else 11); (t215, (u212).2))) else (10, (u192).2))) else (9, (u171).2))) else (8, (u150).2))) else (7, (u130).2))) else (6, (u108).2))) else (5, (u88).2))) else (4, (u69).2))) else (3, (u50).2))) else (2, (u31).2))) else (0, (u12).2)))
theorem mk_kindHere {S : am_S} {d u : Nat} {w : AH} {b : Nat} (hl : b + 735 ≤ w.length) {c : am_F} {q : am_F}  (hR : RdV c) (hd : 4 ≤ d) : am_Out S zX12_kindHere d u [aR b] (mdW w b c q) (.inl (some (aI ((k_kindHere c).1)))) (mdW w b ((k_kindHere c).2) q) := by
  have key : ∀ Q : AO → AH → Prop, Q (.inl (some (aI ((k_kindHere c).1)))) (mdW w b ((k_kindHere c).2) q) → am_M S zX12_kindHere d u [aR b] (mdW w b c q) Q := by
    intro Q hQ
    refine am_body rfl (by decide +kernel) rfl (am_cats_cons rfl (am_cats_nil)) (Nat.le_of_ble_eq_true rfl) (?_ : am_T _ _ _ _ _ 0 [some (aR b)] [] (mdW w b c q))
    have hR9 := hR
    obtain ⟨r1, r2, r3⟩ := hR9
    refine T_aload_n (am_dec tX12_kindHere_0 0 rfl) rfl ?_
    refine T_bipush 16 (am_dec tX12_kindHere_0 1 rfl) rfl ⟨by decide, by decide⟩ ?_
    refine T_bipush 15 (am_dec tX12_kindHere_0 2 rfl) rfl ⟨by decide, by decide⟩ ?_
    refine T_bipush 18 (am_dec tX12_kindHere_0 3 rfl) rfl ⟨by decide, by decide⟩ ?_
    refine T_bipush 20 (am_dec tX12_kindHere_0 4 rfl) rfl ⟨by decide, by decide⟩ ?_
    refine T_iconst 0 (am_dec tX12_kindHere_0 5 rfl) rfl ⟨by decide, by decide⟩ ?_
    refine T_iconst 0 (am_dec tX12_kindHere_0 6 rfl) rfl ⟨by decide, by decide⟩ ?_
    refine T_iconst 0 (am_dec tX12_kindHere_0 7 rfl) rfl ⟨by decide, by decide⟩ ?_
    refine T_callV (as := [aI 16, aI 15, aI 18, aI 20, aI 0, aI 0, aI 0]) rfl (am_dec tX12_kindHere_0 8 rfl) lkX12_215 (md_obj hl) rfl rfl (Nat.le_of_ble_eq_true rfl) (by omega) (mk_isWord (d := d - 1) hl 16 15 18 20 0 0 0  hR (by omega) (by omega) (by omega) (by omega) (by omega) (by omega) (by omega) (by omega)) (fun _ => ?_)
    obtain ⟨u12, hu12⟩ : ∃ x9, x9 = k_isWord c 16 15 18 20 0 0 0 := ⟨_, rfl⟩
    rw [← hu12]
    have hb12 := k_isWord_b c 16 15 18 20 0 0 0
    rw [← hu12] at hb12
    have hR12 : RdV (u12).2 := by rw [hu12]; exact (k_isWord_x hR).1
    have hR9 := hR12
    obtain ⟨ra12, rb12, rc12⟩ := hR9
    have hx12 : Lx c (u12).2 := Lx_t Lx_r (by rw [hu12]; exact (k_isWord_x hR).2)
    have hz12 : (u12).2 0 2 = c 0 2 := hx12.2 2 (by decide) (by decide) (by decide)
    refine T_if_eq 20 (am_dec tX12_kindHere_0 9 rfl) rfl (fun h15 => ?_) (fun h15 => ?_)
    · refine T_aload_n (am_dec tX12_kindHere_0 12 rfl) rfl ?_
      refine T_bipush 12 (am_dec tX12_kindHere_0 13 rfl) rfl ⟨by decide, by decide⟩ ?_
      refine T_iconst 1 (am_dec tX12_kindHere_0 14 rfl) rfl ⟨by decide, by decide⟩ ?_
      refine T_bipush 13 (am_dec tX12_kindHere_0 15 rfl) rfl ⟨by decide, by decide⟩ ?_
      refine T_bipush 16 (am_dec tX12_kindHere_0 16 rfl) rfl ⟨by decide, by decide⟩ ?_
      refine T_iconst 0 (am_dec tX12_kindHere_0 17 rfl) rfl ⟨by decide, by decide⟩ ?_
      refine T_iconst 0 (am_dec tX12_kindHere_0 18 rfl) rfl ⟨by decide, by decide⟩ ?_
      refine T_iconst 0 (am_dec tX12_kindHere_0 19 rfl) rfl ⟨by decide, by decide⟩ ?_
      refine T_callV (as := [aI 12, aI 1, aI 13, aI 16, aI 0, aI 0, aI 0]) rfl (am_dec tX12_kindHere_0 20 rfl) lkX12_215 (md_obj hl) rfl rfl (Nat.le_of_ble_eq_true rfl) (by omega) (mk_isWord (d := d - 1) hl 12 1 13 16 0 0 0  (by omega) (by omega) (by omega) (by omega) (by omega) (by omega) (by omega) (by omega) (by omega)) (fun _ => ?_)
      obtain ⟨u31, hu31⟩ : ∃ x9, x9 = k_isWord ((u12).2) 12 1 13 16 0 0 0 := ⟨_, rfl⟩
      rw [← hu31]
      have hb31 := k_isWord_b ((u12).2) 12 1 13 16 0 0 0
      rw [← hu31] at hb31
      have hR31 : RdV (u31).2 := by rw [hu31]; exact (k_isWord_x hR12).1
      have hR9 := hR31
      obtain ⟨ra31, rb31, rc31⟩ := hR9
      have hx31 : Lx c (u31).2 := Lx_t hx12 (by rw [hu31]; exact (k_isWord_x hR12).2)
      have hz31 : (u31).2 0 2 = c 0 2 := hx31.2 2 (by decide) (by decide) (by decide)
      refine T_if_eq 39 (am_dec tX12_kindHere_0 21 rfl) rfl (fun h34 => ?_) (fun h34 => ?_)
      · refine T_aload_n (am_dec tX12_kindHere_0 24 rfl) rfl ?_
        refine T_bipush 12 (am_dec tX12_kindHere_0 25 rfl) rfl ⟨by decide, by decide⟩ ?_
        refine T_bipush 15 (am_dec tX12_kindHere_0 26 rfl) rfl ⟨by decide, by decide⟩ ?_
        refine T_bipush 20 (am_dec tX12_kindHere_0 27 rfl) rfl ⟨by decide, by decide⟩ ?_
        refine T_iconst 0 (am_dec tX12_kindHere_0 28 rfl) rfl ⟨by decide, by decide⟩ ?_
        refine T_iconst 0 (am_dec tX12_kindHere_0 29 rfl) rfl ⟨by decide, by decide⟩ ?_
        refine T_iconst 0 (am_dec tX12_kindHere_0 30 rfl) rfl ⟨by decide, by decide⟩ ?_
        refine T_iconst 0 (am_dec tX12_kindHere_0 31 rfl) rfl ⟨by decide, by decide⟩ ?_
        refine T_callV (as := [aI 12, aI 15, aI 20, aI 0, aI 0, aI 0, aI 0]) rfl (am_dec tX12_kindHere_0 32 rfl) lkX12_215 (md_obj hl) rfl rfl (Nat.le_of_ble_eq_true rfl) (by omega) (mk_isWord (d := d - 1) hl 12 15 20 0 0 0 0  (by omega) (by omega) (by omega) (by omega) (by omega) (by omega) (by omega) (by omega) (by omega)) (fun _ => ?_)
        obtain ⟨u50, hu50⟩ : ∃ x9, x9 = k_isWord ((u31).2) 12 15 20 0 0 0 0 := ⟨_, rfl⟩
        rw [← hu50]
        have hb50 := k_isWord_b ((u31).2) 12 15 20 0 0 0 0
        rw [← hu50] at hb50
        have hR50 : RdV (u50).2 := by rw [hu50]; exact (k_isWord_x hR31).1
        have hR9 := hR50
        obtain ⟨ra50, rb50, rc50⟩ := hR9
        have hx50 : Lx c (u50).2 := Lx_t hx31 (by rw [hu50]; exact (k_isWord_x hR31).2)
        have hz50 : (u50).2 0 2 = c 0 2 := hx50.2 2 (by decide) (by decide) (by decide)
        refine T_if_eq 58 (am_dec tX12_kindHere_0 33 rfl) rfl (fun h53 => ?_) (fun h53 => ?_)
        · refine T_aload_n (am_dec tX12_kindHere_0 36 rfl) rfl ?_
          refine T_bipush 23 (am_dec tX12_kindHere_0 37 rfl) rfl ⟨by decide, by decide⟩ ?_
          refine T_iconst 1 (am_dec tX12_kindHere_0 38 rfl) rfl ⟨by decide, by decide⟩ ?_
          refine T_bipush 12 (am_dec tX12_kindHere_0 39 rfl) rfl ⟨by decide, by decide⟩ ?_
          refine T_bipush 11 (am_dec tX12_kindHere_1 0 rfl) rfl ⟨by decide, by decide⟩ ?_
          refine T_iconst 0 (am_dec tX12_kindHere_1 1 rfl) rfl ⟨by decide, by decide⟩ ?_
          refine T_iconst 0 (am_dec tX12_kindHere_1 2 rfl) rfl ⟨by decide, by decide⟩ ?_
          refine T_iconst 0 (am_dec tX12_kindHere_1 3 rfl) rfl ⟨by decide, by decide⟩ ?_
          refine T_callV (as := [aI 23, aI 1, aI 12, aI 11, aI 0, aI 0, aI 0]) rfl (am_dec tX12_kindHere_1 4 rfl) lkX12_215 (md_obj hl) rfl rfl (Nat.le_of_ble_eq_true rfl) (by omega) (mk_isWord (d := d - 1) hl 23 1 12 11 0 0 0  (by omega) (by omega) (by omega) (by omega) (by omega) (by omega) (by omega) (by omega) (by omega)) (fun _ => ?_)
          obtain ⟨u69, hu69⟩ : ∃ x9, x9 = k_isWord ((u50).2) 23 1 12 11 0 0 0 := ⟨_, rfl⟩
          rw [← hu69]
          have hb69 := k_isWord_b ((u50).2) 23 1 12 11 0 0 0
          rw [← hu69] at hb69
          have hR69 : RdV (u69).2 := by rw [hu69]; exact (k_isWord_x hR50).1
          have hR9 := hR69
          obtain ⟨ra69, rb69, rc69⟩ := hR9
          have hx69 : Lx c (u69).2 := Lx_t hx50 (by rw [hu69]; exact (k_isWord_x hR50).2)
          have hz69 : (u69).2 0 2 = c 0 2 := hx69.2 2 (by decide) (by decide) (by decide)
          refine T_if_eq 77 (am_dec tX12_kindHere_1 5 rfl) rfl (fun h72 => ?_) (fun h72 => ?_)
          · refine T_aload_n (am_dec tX12_kindHere_1 8 rfl) rfl ?_
            refine T_bipush 23 (am_dec tX12_kindHere_1 9 rfl) rfl ⟨by decide, by decide⟩ ?_
            refine T_iconst 1 (am_dec tX12_kindHere_1 10 rfl) rfl ⟨by decide, by decide⟩ ?_
            refine T_bipush 20 (am_dec tX12_kindHere_1 11 rfl) rfl ⟨by decide, by decide⟩ ?_
            refine T_iconst 3 (am_dec tX12_kindHere_1 12 rfl) rfl ⟨by decide, by decide⟩ ?_
            refine T_bipush 8 (am_dec tX12_kindHere_1 13 rfl) rfl ⟨by decide, by decide⟩ ?_
            refine T_iconst 0 (am_dec tX12_kindHere_1 14 rfl) rfl ⟨by decide, by decide⟩ ?_
            refine T_iconst 0 (am_dec tX12_kindHere_1 15 rfl) rfl ⟨by decide, by decide⟩ ?_
            refine T_callV (as := [aI 23, aI 1, aI 20, aI 3, aI 8, aI 0, aI 0]) rfl (am_dec tX12_kindHere_1 16 rfl) lkX12_215 (md_obj hl) rfl rfl (Nat.le_of_ble_eq_true rfl) (by omega) (mk_isWord (d := d - 1) hl 23 1 20 3 8 0 0  (by omega) (by omega) (by omega) (by omega) (by omega) (by omega) (by omega) (by omega) (by omega)) (fun _ => ?_)
            obtain ⟨u88, hu88⟩ : ∃ x9, x9 = k_isWord ((u69).2) 23 1 20 3 8 0 0 := ⟨_, rfl⟩
            rw [← hu88]
            have hb88 := k_isWord_b ((u69).2) 23 1 20 3 8 0 0
            rw [← hu88] at hb88
            have hR88 : RdV (u88).2 := by rw [hu88]; exact (k_isWord_x hR69).1
            have hR9 := hR88
            obtain ⟨ra88, rb88, rc88⟩ := hR9
            have hx88 : Lx c (u88).2 := Lx_t hx69 (by rw [hu88]; exact (k_isWord_x hR69).2)
            have hz88 : (u88).2 0 2 = c 0 2 := hx88.2 2 (by decide) (by decide) (by decide)
            refine T_if_eq 96 (am_dec tX12_kindHere_1 17 rfl) rfl (fun h91 => ?_) (fun h91 => ?_)
            · refine T_aload_n (am_dec tX12_kindHere_1 20 rfl) rfl ?_
              refine T_bipush 19 (am_dec tX12_kindHere_1 21 rfl) rfl ⟨by decide, by decide⟩ ?_
              refine T_bipush 8 (am_dec tX12_kindHere_1 22 rfl) rfl ⟨by decide, by decide⟩ ?_
              refine T_bipush 9 (am_dec tX12_kindHere_1 23 rfl) rfl ⟨by decide, by decide⟩ ?_
              refine T_bipush 16 (am_dec tX12_kindHere_1 24 rfl) rfl ⟨by decide, by decide⟩ ?_
              refine T_iconst 0 (am_dec tX12_kindHere_1 25 rfl) rfl ⟨by decide, by decide⟩ ?_
              refine T_iconst 0 (am_dec tX12_kindHere_1 26 rfl) rfl ⟨by decide, by decide⟩ ?_
              refine T_iconst 0 (am_dec tX12_kindHere_1 27 rfl) rfl ⟨by decide, by decide⟩ ?_
              refine T_callV (as := [aI 19, aI 8, aI 9, aI 16, aI 0, aI 0, aI 0]) rfl (am_dec tX12_kindHere_1 28 rfl) lkX12_215 (md_obj hl) rfl rfl (Nat.le_of_ble_eq_true rfl) (by omega) (mk_isWord (d := d - 1) hl 19 8 9 16 0 0 0  (by omega) (by omega) (by omega) (by omega) (by omega) (by omega) (by omega) (by omega) (by omega)) (fun _ => ?_)
              obtain ⟨u108, hu108⟩ : ∃ x9, x9 = k_isWord ((u88).2) 19 8 9 16 0 0 0 := ⟨_, rfl⟩
              rw [← hu108]
              have hb108 := k_isWord_b ((u88).2) 19 8 9 16 0 0 0
              rw [← hu108] at hb108
              have hR108 : RdV (u108).2 := by rw [hu108]; exact (k_isWord_x hR88).1
              have hR9 := hR108
              obtain ⟨ra108, rb108, rc108⟩ := hR9
              have hx108 : Lx c (u108).2 := Lx_t hx88 (by rw [hu108]; exact (k_isWord_x hR88).2)
              have hz108 : (u108).2 0 2 = c 0 2 := hx108.2 2 (by decide) (by decide) (by decide)
              refine T_if_eq 117 (am_dec tX12_kindHere_1 29 rfl) rfl (fun h111 => ?_) (fun h111 => ?_)
              · refine T_aload_n (am_dec tX12_kindHere_1 32 rfl) rfl ?_
                refine T_bipush 19 (am_dec tX12_kindHere_1 33 rfl) rfl ⟨by decide, by decide⟩ ?_
                refine T_bipush 9 (am_dec tX12_kindHere_1 34 rfl) rfl ⟨by decide, by decide⟩ ?_
                refine T_bipush 7 (am_dec tX12_kindHere_1 35 rfl) rfl ⟨by decide, by decide⟩ ?_
                refine T_bipush 8 (am_dec tX12_kindHere_1 36 rfl) rfl ⟨by decide, by decide⟩ ?_
                refine T_bipush 20 (am_dec tX12_kindHere_1 37 rfl) rfl ⟨by decide, by decide⟩ ?_
                refine T_iconst 0 (am_dec tX12_kindHere_1 38 rfl) rfl ⟨by decide, by decide⟩ ?_
                refine T_iconst 0 (am_dec tX12_kindHere_1 39 rfl) rfl ⟨by decide, by decide⟩ ?_
                refine T_callV (as := [aI 19, aI 9, aI 7, aI 8, aI 20, aI 0, aI 0]) rfl (am_dec tX12_kindHere_2 0 rfl) lkX12_215 (md_obj hl) rfl rfl (Nat.le_of_ble_eq_true rfl) (by omega) (mk_isWord (d := d - 1) hl 19 9 7 8 20 0 0  (by omega) (by omega) (by omega) (by omega) (by omega) (by omega) (by omega) (by omega) (by omega)) (fun _ => ?_)
                obtain ⟨u130, hu130⟩ : ∃ x9, x9 = k_isWord ((u108).2) 19 9 7 8 20 0 0 := ⟨_, rfl⟩
                rw [← hu130]
                have hb130 := k_isWord_b ((u108).2) 19 9 7 8 20 0 0
                rw [← hu130] at hb130
                have hR130 : RdV (u130).2 := by rw [hu130]; exact (k_isWord_x hR108).1
                have hR9 := hR130
                obtain ⟨ra130, rb130, rc130⟩ := hR9
                have hx130 : Lx c (u130).2 := Lx_t hx108 (by rw [hu130]; exact (k_isWord_x hR108).2)
                have hz130 : (u130).2 0 2 = c 0 2 := hx130.2 2 (by decide) (by decide) (by decide)
                refine T_if_eq 139 (am_dec tX12_kindHere_2 1 rfl) rfl (fun h133 => ?_) (fun h133 => ?_)
                · refine T_aload_n (am_dec tX12_kindHere_2 4 rfl) rfl ?_
                  refine T_bipush 23 (am_dec tX12_kindHere_2 5 rfl) rfl ⟨by decide, by decide⟩ ?_
                  refine T_bipush 9 (am_dec tX12_kindHere_2 6 rfl) rfl ⟨by decide, by decide⟩ ?_
                  refine T_bipush 14 (am_dec tX12_kindHere_2 7 rfl) rfl ⟨by decide, by decide⟩ ?_
                  refine T_iconst 4 (am_dec tX12_kindHere_2 8 rfl) rfl ⟨by decide, by decide⟩ ?_
                  refine T_iconst 0 (am_dec tX12_kindHere_2 9 rfl) rfl ⟨by decide, by decide⟩ ?_
                  refine T_iconst 0 (am_dec tX12_kindHere_2 10 rfl) rfl ⟨by decide, by decide⟩ ?_
                  refine T_iconst 0 (am_dec tX12_kindHere_2 11 rfl) rfl ⟨by decide, by decide⟩ ?_
                  refine T_callV (as := [aI 23, aI 9, aI 14, aI 4, aI 0, aI 0, aI 0]) rfl (am_dec tX12_kindHere_2 12 rfl) lkX12_215 (md_obj hl) rfl rfl (Nat.le_of_ble_eq_true rfl) (by omega) (mk_isWord (d := d - 1) hl 23 9 14 4 0 0 0  (by omega) (by omega) (by omega) (by omega) (by omega) (by omega) (by omega) (by omega) (by omega)) (fun _ => ?_)
                  obtain ⟨u150, hu150⟩ : ∃ x9, x9 = k_isWord ((u130).2) 23 9 14 4 0 0 0 := ⟨_, rfl⟩
                  rw [← hu150]
                  have hb150 := k_isWord_b ((u130).2) 23 9 14 4 0 0 0
                  rw [← hu150] at hb150
                  have hR150 : RdV (u150).2 := by rw [hu150]; exact (k_isWord_x hR130).1
                  have hR9 := hR150
                  obtain ⟨ra150, rb150, rc150⟩ := hR9
                  have hx150 : Lx c (u150).2 := Lx_t hx130 (by rw [hu150]; exact (k_isWord_x hR130).2)
                  have hz150 : (u150).2 0 2 = c 0 2 := hx150.2 2 (by decide) (by decide) (by decide)
                  refine T_if_eq 159 (am_dec tX12_kindHere_2 13 rfl) rfl (fun h153 => ?_) (fun h153 => ?_)
                  · refine T_aload_n (am_dec tX12_kindHere_2 16 rfl) rfl ?_
                    refine T_bipush 20 (am_dec tX12_kindHere_2 17 rfl) rfl ⟨by decide, by decide⟩ ?_
                    refine T_bipush 8 (am_dec tX12_kindHere_2 18 rfl) rfl ⟨by decide, by decide⟩ ?_
                    refine T_bipush 9 (am_dec tX12_kindHere_2 19 rfl) rfl ⟨by decide, by decide⟩ ?_
                    refine T_bipush 14 (am_dec tX12_kindHere_2 20 rfl) rfl ⟨by decide, by decide⟩ ?_
                    refine T_iconst 0 (am_dec tX12_kindHere_2 21 rfl) rfl ⟨by decide, by decide⟩ ?_
                    refine T_iconst 0 (am_dec tX12_kindHere_2 22 rfl) rfl ⟨by decide, by decide⟩ ?_
                    refine T_iconst 0 (am_dec tX12_kindHere_2 23 rfl) rfl ⟨by decide, by decide⟩ ?_
                    refine T_callV (as := [aI 20, aI 8, aI 9, aI 14, aI 0, aI 0, aI 0]) rfl (am_dec tX12_kindHere_2 24 rfl) lkX12_215 (md_obj hl) rfl rfl (Nat.le_of_ble_eq_true rfl) (by omega) (mk_isWord (d := d - 1) hl 20 8 9 14 0 0 0  (by omega) (by omega) (by omega) (by omega) (by omega) (by omega) (by omega) (by omega) (by omega)) (fun _ => ?_)
                    obtain ⟨u171, hu171⟩ : ∃ x9, x9 = k_isWord ((u150).2) 20 8 9 14 0 0 0 := ⟨_, rfl⟩
                    rw [← hu171]
                    have hb171 := k_isWord_b ((u150).2) 20 8 9 14 0 0 0
                    rw [← hu171] at hb171
                    have hR171 : RdV (u171).2 := by rw [hu171]; exact (k_isWord_x hR150).1
                    have hR9 := hR171
                    obtain ⟨ra171, rb171, rc171⟩ := hR9
                    have hx171 : Lx c (u171).2 := Lx_t hx150 (by rw [hu171]; exact (k_isWord_x hR150).2)
                    have hz171 : (u171).2 0 2 = c 0 2 := hx171.2 2 (by decide) (by decide) (by decide)
                    refine T_if_eq 180 (am_dec tX12_kindHere_2 25 rfl) rfl (fun h174 => ?_) (fun h174 => ?_)
                    · refine T_aload_n (am_dec tX12_kindHere_2 28 rfl) rfl ?_
                      refine T_bipush 19 (am_dec tX12_kindHere_2 29 rfl) rfl ⟨by decide, by decide⟩ ?_
                      refine T_bipush 20 (am_dec tX12_kindHere_2 30 rfl) rfl ⟨by decide, by decide⟩ ?_
                      refine T_iconst 5 (am_dec tX12_kindHere_2 31 rfl) rfl ⟨by decide, by decide⟩ ?_
                      refine T_iconst 1 (am_dec tX12_kindHere_2 32 rfl) rfl ⟨by decide, by decide⟩ ?_
                      refine T_bipush 13 (am_dec tX12_kindHere_2 33 rfl) rfl ⟨by decide, by decide⟩ ?_
                      refine T_iconst 5 (am_dec tX12_kindHere_2 34 rfl) rfl ⟨by decide, by decide⟩ ?_
                      refine T_bipush 18 (am_dec tX12_kindHere_2 35 rfl) rfl ⟨by decide, by decide⟩ ?_
                      refine T_callV (as := [aI 19, aI 20, aI 5, aI 1, aI 13, aI 5, aI 18]) rfl (am_dec tX12_kindHere_2 36 rfl) lkX12_215 (md_obj hl) rfl rfl (Nat.le_of_ble_eq_true rfl) (by omega) (mk_isWord (d := d - 1) hl 19 20 5 1 13 5 18  (by omega) (by omega) (by omega) (by omega) (by omega) (by omega) (by omega) (by omega) (by omega)) (fun _ => ?_)
                      obtain ⟨u192, hu192⟩ : ∃ x9, x9 = k_isWord ((u171).2) 19 20 5 1 13 5 18 := ⟨_, rfl⟩
                      rw [← hu192]
                      have hb192 := k_isWord_b ((u171).2) 19 20 5 1 13 5 18
                      rw [← hu192] at hb192
                      have hR192 : RdV (u192).2 := by rw [hu192]; exact (k_isWord_x hR171).1
                      have hR9 := hR192
                      obtain ⟨ra192, rb192, rc192⟩ := hR9
                      have hx192 : Lx c (u192).2 := Lx_t hx171 (by rw [hu192]; exact (k_isWord_x hR171).2)
                      have hz192 : (u192).2 0 2 = c 0 2 := hx192.2 2 (by decide) (by decide) (by decide)
                      refine T_if_eq 201 (am_dec tX12_kindHere_2 37 rfl) rfl (fun h195 => ?_) (fun h195 => ?_)
                      · refine T_aload_n (am_dec tX12_kindHere_3 0 rfl) rfl ?_
                        refine T_bipush 6 (am_dec tX12_kindHere_3 1 rfl) rfl ⟨by decide, by decide⟩ ?_
                        refine T_bipush 15 (am_dec tX12_kindHere_3 2 rfl) rfl ⟨by decide, by decide⟩ ?_
                        refine T_bipush 7 (am_dec tX12_kindHere_3 3 rfl) rfl ⟨by decide, by decide⟩ ?_
                        refine T_iconst 0 (am_dec tX12_kindHere_3 4 rfl) rfl ⟨by decide, by decide⟩ ?_
                        refine T_iconst 0 (am_dec tX12_kindHere_3 5 rfl) rfl ⟨by decide, by decide⟩ ?_
                        refine T_iconst 0 (am_dec tX12_kindHere_3 6 rfl) rfl ⟨by decide, by decide⟩ ?_
                        refine T_iconst 0 (am_dec tX12_kindHere_3 7 rfl) rfl ⟨by decide, by decide⟩ ?_
                        refine T_callV (as := [aI 6, aI 15, aI 7, aI 0, aI 0, aI 0, aI 0]) rfl (am_dec tX12_kindHere_3 8 rfl) lkX12_215 (md_obj hl) rfl rfl (Nat.le_of_ble_eq_true rfl) (by omega) (mk_isWord (d := d - 1) hl 6 15 7 0 0 0 0  (by omega) (by omega) (by omega) (by omega) (by omega) (by omega) (by omega) (by omega) (by omega)) (fun _ => ?_)
                        obtain ⟨u212, hu212⟩ : ∃ x9, x9 = k_isWord ((u192).2) 6 15 7 0 0 0 0 := ⟨_, rfl⟩
                        rw [← hu212]
                        have hb212 := k_isWord_b ((u192).2) 6 15 7 0 0 0 0
                        rw [← hu212] at hb212
                        have hR212 : RdV (u212).2 := by rw [hu212]; exact (k_isWord_x hR192).1
                        have hR9 := hR212
                        obtain ⟨ra212, rb212, rc212⟩ := hR9
                        have hx212 : Lx c (u212).2 := Lx_t hx192 (by rw [hu212]; exact (k_isWord_x hR192).2)
                        have hz212 : (u212).2 0 2 = c 0 2 := hx212.2 2 (by decide) (by decide) (by decide)
                        have K215 : ∀ (t215 : Int), t215 = (if (u212).1 = 0 then (-1) else 11) →  am_T S zX12_kindHere d u Q 224 [none] [aI t215] (mdW w b (u212).2 q) := by
                          intro t215 ht215 
                          exact T_ireturn (am_dec tX12_kindHere_3 13 rfl) rfl (am_tr (fun (x9 : Int × am_F) => Q (.inl (some (aI (x9.1)))) (mdW w b x9.2 q)) (y := (t215, (u212).2)) (show (k_kindHere c) = (t215, (u212).2) from (by have s9 := hu12.symm; subst s9; have s9 := hu31.symm; subst s9; have s9 := hu50.symm; subst s9; have s9 := hu69.symm; subst s9; have s9 := hu88.symm; subst s9; have s9 := hu108.symm; subst s9; have s9 := hu130.symm; subst s9; have s9 := hu150.symm; subst s9; have s9 := hu171.symm; subst s9; have s9 := hu192.symm; subst s9; have s9 := hu212.symm; subst s9; have s9 := ht215.symm; subst s9; exact ((if_pos h15).trans ((if_pos h34).trans ((if_pos h53).trans ((if_pos h72).trans ((if_pos h91).trans ((if_pos h111).trans ((if_pos h133).trans ((if_pos h153).trans ((if_pos h174).trans (if_pos h195)))))))))))) hQ)
                        refine T_if_eq 223 (am_dec tX12_kindHere_3 9 rfl) rfl (fun h215 => ?_) (fun h215 => ?_)
                        · refine T_iconst (-1) (am_dec tX12_kindHere_3 12 rfl) rfl ⟨by decide, by decide⟩ ?_
                          refine T_weak (ls' := [none]) (am_sub_n am_sub_nil) ?_
                          exact K215 _ (if_pos h215).symm 
                        · refine T_bipush 11 (am_dec tX12_kindHere_3 10 rfl) rfl ⟨by decide, by decide⟩ ?_
                          refine T_goto 224 (am_dec tX12_kindHere_3 11 rfl) rfl ?_
                          refine T_weak (ls' := [none]) (am_sub_n am_sub_nil) ?_
                          exact K215 _ (if_neg h215).symm 
                      · refine T_bipush 10 (am_dec tX12_kindHere_2 38 rfl) rfl ⟨by decide, by decide⟩ ?_
                        exact T_ireturn (am_dec tX12_kindHere_2 39 rfl) rfl (am_tr (fun (x9 : Int × am_F) => Q (.inl (some (aI (x9.1)))) (mdW w b x9.2 q)) (y := (10, (u192).2)) (show (k_kindHere c) = (10, (u192).2) from (by have s9 := hu12.symm; subst s9; have s9 := hu31.symm; subst s9; have s9 := hu50.symm; subst s9; have s9 := hu69.symm; subst s9; have s9 := hu88.symm; subst s9; have s9 := hu108.symm; subst s9; have s9 := hu130.symm; subst s9; have s9 := hu150.symm; subst s9; have s9 := hu171.symm; subst s9; have s9 := hu192.symm; subst s9; exact ((if_pos h15).trans ((if_pos h34).trans ((if_pos h53).trans ((if_pos h72).trans ((if_pos h91).trans ((if_pos h111).trans ((if_pos h133).trans ((if_pos h153).trans ((if_pos h174).trans (if_neg h195)))))))))))) hQ)
                    · refine T_bipush 9 (am_dec tX12_kindHere_2 26 rfl) rfl ⟨by decide, by decide⟩ ?_
                      exact T_ireturn (am_dec tX12_kindHere_2 27 rfl) rfl (am_tr (fun (x9 : Int × am_F) => Q (.inl (some (aI (x9.1)))) (mdW w b x9.2 q)) (y := (9, (u171).2)) (show (k_kindHere c) = (9, (u171).2) from (by have s9 := hu12.symm; subst s9; have s9 := hu31.symm; subst s9; have s9 := hu50.symm; subst s9; have s9 := hu69.symm; subst s9; have s9 := hu88.symm; subst s9; have s9 := hu108.symm; subst s9; have s9 := hu130.symm; subst s9; have s9 := hu150.symm; subst s9; have s9 := hu171.symm; subst s9; exact ((if_pos h15).trans ((if_pos h34).trans ((if_pos h53).trans ((if_pos h72).trans ((if_pos h91).trans ((if_pos h111).trans ((if_pos h133).trans ((if_pos h153).trans (if_neg h174))))))))))) hQ)
                  · refine T_bipush 8 (am_dec tX12_kindHere_2 14 rfl) rfl ⟨by decide, by decide⟩ ?_
                    exact T_ireturn (am_dec tX12_kindHere_2 15 rfl) rfl (am_tr (fun (x9 : Int × am_F) => Q (.inl (some (aI (x9.1)))) (mdW w b x9.2 q)) (y := (8, (u150).2)) (show (k_kindHere c) = (8, (u150).2) from (by have s9 := hu12.symm; subst s9; have s9 := hu31.symm; subst s9; have s9 := hu50.symm; subst s9; have s9 := hu69.symm; subst s9; have s9 := hu88.symm; subst s9; have s9 := hu108.symm; subst s9; have s9 := hu130.symm; subst s9; have s9 := hu150.symm; subst s9; exact ((if_pos h15).trans ((if_pos h34).trans ((if_pos h53).trans ((if_pos h72).trans ((if_pos h91).trans ((if_pos h111).trans ((if_pos h133).trans (if_neg h153)))))))))) hQ)
                · refine T_bipush 7 (am_dec tX12_kindHere_2 2 rfl) rfl ⟨by decide, by decide⟩ ?_
                  exact T_ireturn (am_dec tX12_kindHere_2 3 rfl) rfl (am_tr (fun (x9 : Int × am_F) => Q (.inl (some (aI (x9.1)))) (mdW w b x9.2 q)) (y := (7, (u130).2)) (show (k_kindHere c) = (7, (u130).2) from (by have s9 := hu12.symm; subst s9; have s9 := hu31.symm; subst s9; have s9 := hu50.symm; subst s9; have s9 := hu69.symm; subst s9; have s9 := hu88.symm; subst s9; have s9 := hu108.symm; subst s9; have s9 := hu130.symm; subst s9; exact ((if_pos h15).trans ((if_pos h34).trans ((if_pos h53).trans ((if_pos h72).trans ((if_pos h91).trans ((if_pos h111).trans (if_neg h133))))))))) hQ)
              · refine T_bipush 6 (am_dec tX12_kindHere_1 30 rfl) rfl ⟨by decide, by decide⟩ ?_
                exact T_ireturn (am_dec tX12_kindHere_1 31 rfl) rfl (am_tr (fun (x9 : Int × am_F) => Q (.inl (some (aI (x9.1)))) (mdW w b x9.2 q)) (y := (6, (u108).2)) (show (k_kindHere c) = (6, (u108).2) from (by have s9 := hu12.symm; subst s9; have s9 := hu31.symm; subst s9; have s9 := hu50.symm; subst s9; have s9 := hu69.symm; subst s9; have s9 := hu88.symm; subst s9; have s9 := hu108.symm; subst s9; exact ((if_pos h15).trans ((if_pos h34).trans ((if_pos h53).trans ((if_pos h72).trans ((if_pos h91).trans (if_neg h111)))))))) hQ)
            · refine T_iconst 5 (am_dec tX12_kindHere_1 18 rfl) rfl ⟨by decide, by decide⟩ ?_
              exact T_ireturn (am_dec tX12_kindHere_1 19 rfl) rfl (am_tr (fun (x9 : Int × am_F) => Q (.inl (some (aI (x9.1)))) (mdW w b x9.2 q)) (y := (5, (u88).2)) (show (k_kindHere c) = (5, (u88).2) from (by have s9 := hu12.symm; subst s9; have s9 := hu31.symm; subst s9; have s9 := hu50.symm; subst s9; have s9 := hu69.symm; subst s9; have s9 := hu88.symm; subst s9; exact ((if_pos h15).trans ((if_pos h34).trans ((if_pos h53).trans ((if_pos h72).trans (if_neg h91))))))) hQ)
          · refine T_iconst 4 (am_dec tX12_kindHere_1 6 rfl) rfl ⟨by decide, by decide⟩ ?_
            exact T_ireturn (am_dec tX12_kindHere_1 7 rfl) rfl (am_tr (fun (x9 : Int × am_F) => Q (.inl (some (aI (x9.1)))) (mdW w b x9.2 q)) (y := (4, (u69).2)) (show (k_kindHere c) = (4, (u69).2) from (by have s9 := hu12.symm; subst s9; have s9 := hu31.symm; subst s9; have s9 := hu50.symm; subst s9; have s9 := hu69.symm; subst s9; exact ((if_pos h15).trans ((if_pos h34).trans ((if_pos h53).trans (if_neg h72)))))) hQ)
        · refine T_iconst 3 (am_dec tX12_kindHere_0 34 rfl) rfl ⟨by decide, by decide⟩ ?_
          exact T_ireturn (am_dec tX12_kindHere_0 35 rfl) rfl (am_tr (fun (x9 : Int × am_F) => Q (.inl (some (aI (x9.1)))) (mdW w b x9.2 q)) (y := (3, (u50).2)) (show (k_kindHere c) = (3, (u50).2) from (by have s9 := hu12.symm; subst s9; have s9 := hu31.symm; subst s9; have s9 := hu50.symm; subst s9; exact ((if_pos h15).trans ((if_pos h34).trans (if_neg h53))))) hQ)
      · refine T_iconst 2 (am_dec tX12_kindHere_0 22 rfl) rfl ⟨by decide, by decide⟩ ?_
        exact T_ireturn (am_dec tX12_kindHere_0 23 rfl) rfl (am_tr (fun (x9 : Int × am_F) => Q (.inl (some (aI (x9.1)))) (mdW w b x9.2 q)) (y := (2, (u31).2)) (show (k_kindHere c) = (2, (u31).2) from (by have s9 := hu12.symm; subst s9; have s9 := hu31.symm; subst s9; exact ((if_pos h15).trans (if_neg h34)))) hQ)
    · refine T_iconst 0 (am_dec tX12_kindHere_0 10 rfl) rfl ⟨by decide, by decide⟩ ?_
      exact T_ireturn (am_dec tX12_kindHere_0 11 rfl) rfl (am_tr (fun (x9 : Int × am_F) => Q (.inl (some (aI (x9.1)))) (mdW w b x9.2 q)) (y := (0, (u12).2)) (show (k_kindHere c) = (0, (u12).2) from (by have s9 := hu12.symm; subst s9; exact (if_neg h15))) hQ)
  exact key _ ⟨rfl, rfl⟩
def k_acrossHere (c : am_F) : Int × am_F := (let u10 : Int × am_F := k_number c 0 ((c 3 0) - 1); (((u10).1), (u10).2))
theorem mk_acrossHere {S : am_S} {d u : Nat} {w : AH} {b : Nat} (hl : b + 735 ≤ w.length) {c : am_F} {q : am_F}  (hR : RdV c) (hw0 : 0 ≤ c 3 0 ∧ c 3 0 ≤ 9) (hd : 3 ≤ d) : am_Out S zX12_acrossHere d u [aR b] (mdW w b c q) (.inl (some (aI ((k_acrossHere c).1)))) (mdW w b ((k_acrossHere c).2) q) := by
  have key : ∀ Q : AO → AH → Prop, Q (.inl (some (aI ((k_acrossHere c).1)))) (mdW w b ((k_acrossHere c).2) q) → am_M S zX12_acrossHere d u [aR b] (mdW w b c q) Q := by
    intro Q hQ
    refine am_body rfl (by decide +kernel) rfl (am_cats_cons rfl (am_cats_nil)) (Nat.le_of_ble_eq_true rfl) (?_ : am_T _ _ _ _ _ 0 [some (aR b)] [] (mdW w b c q))
    have hR9 := hR
    obtain ⟨r1, r2, r3⟩ := hR9
    refine T_aload_n (am_dec tX12_acrossHere_0 0 rfl) rfl ?_
    refine T_iconst 0 (am_dec tX12_acrossHere_0 1 rfl) rfl ⟨by decide, by decide⟩ ?_
    refine T_aload_n (am_dec tX12_acrossHere_0 2 rfl) rfl ?_
    refine T_getfield 11 10 (am_dec tX12_acrossHere_0 3 rfl) flX12_20_11 (md_obj hl) rfl ?_
    refine T_iconst 0 (am_dec tX12_acrossHere_0 4 rfl) rfl ⟨by decide, by decide⟩ ?_
    refine T_ialoadE (x := c 3 0) (am_dec tX12_acrossHere_0 5 rfl) (md_readTold hl) (by omega) (by omega) rfl ?_
    refine T_iconst 1 (am_dec tX12_acrossHere_0 6 rfl) rfl ⟨by decide, by decide⟩ ?_
    refine T_isub ((c 3 0) - 1) (am_dec tX12_acrossHere_0 7 rfl) rfl ⟨by omega, by omega⟩ ?_
    refine T_callV (as := [aI 0, aI ((c 3 0) - 1)]) rfl (am_dec tX12_acrossHere_0 8 rfl) lkX12_231 (md_obj hl) rfl rfl (Nat.le_of_ble_eq_true rfl) (by omega) (mk_number (d := d - 1) hl 0 ((c 3 0) - 1)  hR (by omega)) (fun _ => ?_)
    obtain ⟨u10, hu10⟩ : ∃ x9, x9 = k_number c 0 ((c 3 0) - 1) := ⟨_, rfl⟩
    rw [← hu10]
    have hR10 : RdV (u10).2 := by rw [hu10]; exact (k_number_x hR).1
    have hR9 := hR10
    obtain ⟨ra10, rb10, rc10⟩ := hR9
    have hx10 : Lx c (u10).2 := Lx_t Lx_r (by rw [hu10]; exact (k_number_x hR).2.1)
    have hz10 : (u10).2 0 2 = c 0 2 := hx10.2 2 (by decide) (by decide) (by decide)
    have hv10 := (k_number_x (lo := 0) (hi := ((c 3 0) - 1)) hR).2.2
    rw [← hu10] at hv10
    exact T_ireturn (am_dec tX12_acrossHere_0 9 rfl) rfl (am_tr (fun (x9 : Int × am_F) => Q (.inl (some (aI (x9.1)))) (mdW w b x9.2 q)) (y := (((u10).1), (u10).2)) (show (k_acrossHere c) = (((u10).1), (u10).2) from (by have s9 := hu10.symm; subst s9; exact rfl)) hQ)
  exact key _ ⟨rfl, rfl⟩
def k_downHere (c : am_F) : Int × am_F := (let u10 : Int × am_F := k_number c 0 ((c 3 1) - 1); (((u10).1), (u10).2))
theorem mk_downHere {S : am_S} {d u : Nat} {w : AH} {b : Nat} (hl : b + 735 ≤ w.length) {c : am_F} {q : am_F}  (hR : RdV c) (hw1 : 0 ≤ c 3 1 ∧ c 3 1 ≤ 9) (hd : 3 ≤ d) : am_Out S zX12_downHere d u [aR b] (mdW w b c q) (.inl (some (aI ((k_downHere c).1)))) (mdW w b ((k_downHere c).2) q) := by
  have key : ∀ Q : AO → AH → Prop, Q (.inl (some (aI ((k_downHere c).1)))) (mdW w b ((k_downHere c).2) q) → am_M S zX12_downHere d u [aR b] (mdW w b c q) Q := by
    intro Q hQ
    refine am_body rfl (by decide +kernel) rfl (am_cats_cons rfl (am_cats_nil)) (Nat.le_of_ble_eq_true rfl) (?_ : am_T _ _ _ _ _ 0 [some (aR b)] [] (mdW w b c q))
    have hR9 := hR
    obtain ⟨r1, r2, r3⟩ := hR9
    refine T_aload_n (am_dec tX12_downHere_0 0 rfl) rfl ?_
    refine T_iconst 0 (am_dec tX12_downHere_0 1 rfl) rfl ⟨by decide, by decide⟩ ?_
    refine T_aload_n (am_dec tX12_downHere_0 2 rfl) rfl ?_
    refine T_getfield 11 10 (am_dec tX12_downHere_0 3 rfl) flX12_20_11 (md_obj hl) rfl ?_
    refine T_iconst 1 (am_dec tX12_downHere_0 4 rfl) rfl ⟨by decide, by decide⟩ ?_
    refine T_ialoadE (x := c 3 1) (am_dec tX12_downHere_0 5 rfl) (md_readTold hl) (by omega) (by omega) rfl ?_
    refine T_iconst 1 (am_dec tX12_downHere_0 6 rfl) rfl ⟨by decide, by decide⟩ ?_
    refine T_isub ((c 3 1) - 1) (am_dec tX12_downHere_0 7 rfl) rfl ⟨by omega, by omega⟩ ?_
    refine T_callV (as := [aI 0, aI ((c 3 1) - 1)]) rfl (am_dec tX12_downHere_0 8 rfl) lkX12_231 (md_obj hl) rfl rfl (Nat.le_of_ble_eq_true rfl) (by omega) (mk_number (d := d - 1) hl 0 ((c 3 1) - 1)  hR (by omega)) (fun _ => ?_)
    obtain ⟨u10, hu10⟩ : ∃ x9, x9 = k_number c 0 ((c 3 1) - 1) := ⟨_, rfl⟩
    rw [← hu10]
    have hR10 : RdV (u10).2 := by rw [hu10]; exact (k_number_x hR).1
    have hR9 := hR10
    obtain ⟨ra10, rb10, rc10⟩ := hR9
    have hx10 : Lx c (u10).2 := Lx_t Lx_r (by rw [hu10]; exact (k_number_x hR).2.1)
    have hz10 : (u10).2 0 2 = c 0 2 := hx10.2 2 (by decide) (by decide) (by decide)
    have hv10 := (k_number_x (lo := 0) (hi := ((c 3 1) - 1)) hR).2.2
    rw [← hu10] at hv10
    exact T_ireturn (am_dec tX12_downHere_0 9 rfl) rfl (am_tr (fun (x9 : Int × am_F) => Q (.inl (some (aI (x9.1)))) (mdW w b x9.2 q)) (y := (((u10).1), (u10).2)) (show (k_downHere c) = (((u10).1), (u10).2) from (by have s9 := hu10.symm; subst s9; exact rfl)) hQ)
  exact key _ ⟨rfl, rfl⟩
def k_isFull (c : am_F) (k : Int) : Int := (if k = 2 then (if c 3 2 = 6 then 1 else 0) else (if k = 3 then (if c 3 3 = 6 then 1 else 0) else (if k = 4 then (if c 3 4 = 4 then 1 else 0) else (if k = 5 then (if c 3 5 = 4 then 1 else 0) else (if k = 6 then (if c 3 6 = 4 then 1 else 0) else (if k = 7 then 0 else (if k = 8 then (if c 0 56 = 12 then 1 else 0) else (if k = 9 then (if c 0 57 = 12 then 1 else 0) else (if k = 10 then (if c 3 10 = 6 then 1 else 0) else 0)))))))))
theorem mk_isFull {S : am_S} {d u : Nat} {w : AH} {b : Nat} (hl : b + 735 ≤ w.length) {c : am_F} {q : am_F} (k : Int)   : am_Out S zX12_isFull d u [aR b, aI k] (mdW w b c q) (.inl (some (aI (k_isFull c k)))) (mdW w b c q) := by
  have key : ∀ Q : AO → AH → Prop, Q (.inl (some (aI (k_isFull c k)))) (mdW w b c q) → am_M S zX12_isFull d u [aR b, aI k] (mdW w b c q) Q := by
    intro Q hQ
    refine am_body rfl (by decide +kernel) rfl (am_cats_cons rfl ( am_cats_cons rfl (am_cats_nil))) (Nat.le_of_ble_eq_true rfl) (?_ : am_T _ _ _ _ _ 0 [some (aR b), some (aI k)] [] (mdW w b c q))
    refine T_iload_n (am_dec tX12_isFull_0 0 rfl) rfl ?_
    by_cases e1_0 : k = 2
    · refine T_tableIn (off := 51) 52 (am_dec tX12_isFull_0 1 rfl) (by omega) (by omega) (by rw [e1_0]; rfl) rfl ?_
      refine T_aload_n (am_dec tX12_isFull_0 2 rfl) rfl ?_
      refine T_getfield 11 10 (am_dec tX12_isFull_0 3 rfl) flX12_20_11 (md_obj hl) rfl ?_
      refine T_iconst 2 (am_dec tX12_isFull_0 4 rfl) rfl ⟨by decide, by decide⟩ ?_
      refine T_ialoadE (x := c 3 2) (am_dec tX12_isFull_0 5 rfl) (md_readTold hl) (by omega) (by omega) rfl ?_
      refine T_bipush 6 (am_dec tX12_isFull_0 6 rfl) rfl ⟨by decide, by decide⟩ ?_
      have K60 : ∀ (t60 : Int), t60 = (if c 3 2 = 6 then 1 else 0) →  am_T S zX12_isFull d u Q 68 [none, none] [aI t60] (mdW w b c q) := by
        intro t60 ht60 
        have hbt60 : t60 = 0 ∨ t60 = 1 := by
          rw [ht60]
          try dsimp only
          repeat' split
          all_goals first | exact Or.inl rfl | exact Or.inr rfl | apply k_in_b | apply k_isDigit_b | apply k_isSmall_b | apply k_bad_b | apply k_isIn_b | apply k_isStep_b | apply k_isFirst_b | apply k_isLine_b | apply k_seesBy_b | apply k_isWalker_b | apply k_seesOne_b | apply k_badTwo_b | apply k_sees_b | apply k_isCode_b | apply k_isLot_b | apply k_isShip_b | apply k_areRight_b | apply k_right_b | apply k_areSeeds_b | apply k_badBid_b | apply k_isWord_b | apply k_takes_b | apply k_takesSign_b | omega
        exact T_zreturn (am_dec tX12_isFull_0 11 rfl) rfl (by first | exact Or.inl rfl | exact Or.inr rfl | omega) (am_tr (fun (x9 : Int) => Q (.inl (some (aI (x9)))) (mdW w b c q)) (y := t60) (show (k_isFull c k) = t60 from (by have s9 := ht60.symm; subst s9; exact (if_pos e1_0))) hQ)
      refine T_icmp_ne 67 (am_dec tX12_isFull_0 7 rfl) rfl (fun h60 => ?_) (fun h60 => ?_)
      · refine T_iconst 0 (am_dec tX12_isFull_0 10 rfl) rfl ⟨by decide, by decide⟩ ?_
        refine T_weak (ls' := [none, none]) (am_sub_n (am_sub_n am_sub_nil)) ?_
        exact K60 _ (if_neg h60).symm 
      · refine T_iconst 1 (am_dec tX12_isFull_0 8 rfl) rfl ⟨by decide, by decide⟩ ?_
        refine T_goto 68 (am_dec tX12_isFull_0 9 rfl) rfl ?_
        refine T_weak (ls' := [none, none]) (am_sub_n (am_sub_n am_sub_nil)) ?_
        exact K60 _ (if_pos h60).symm 
    by_cases e1_1 : k = 3
    · refine T_tableIn (off := 68) 69 (am_dec tX12_isFull_0 1 rfl) (by omega) (by omega) (by rw [e1_1]; rfl) rfl ?_
      refine T_aload_n (am_dec tX12_isFull_0 12 rfl) rfl ?_
      refine T_getfield 11 10 (am_dec tX12_isFull_0 13 rfl) flX12_20_11 (md_obj hl) rfl ?_
      refine T_iconst 3 (am_dec tX12_isFull_0 14 rfl) rfl ⟨by decide, by decide⟩ ?_
      refine T_ialoadE (x := c 3 3) (am_dec tX12_isFull_0 15 rfl) (md_readTold hl) (by omega) (by omega) rfl ?_
      refine T_bipush 6 (am_dec tX12_isFull_0 16 rfl) rfl ⟨by decide, by decide⟩ ?_
      have K77 : ∀ (t77 : Int), t77 = (if c 3 3 = 6 then 1 else 0) →  am_T S zX12_isFull d u Q 85 [none, none] [aI t77] (mdW w b c q) := by
        intro t77 ht77 
        have hbt77 : t77 = 0 ∨ t77 = 1 := by
          rw [ht77]
          try dsimp only
          repeat' split
          all_goals first | exact Or.inl rfl | exact Or.inr rfl | apply k_in_b | apply k_isDigit_b | apply k_isSmall_b | apply k_bad_b | apply k_isIn_b | apply k_isStep_b | apply k_isFirst_b | apply k_isLine_b | apply k_seesBy_b | apply k_isWalker_b | apply k_seesOne_b | apply k_badTwo_b | apply k_sees_b | apply k_isCode_b | apply k_isLot_b | apply k_isShip_b | apply k_areRight_b | apply k_right_b | apply k_areSeeds_b | apply k_badBid_b | apply k_isWord_b | apply k_takes_b | apply k_takesSign_b | omega
        exact T_zreturn (am_dec tX12_isFull_0 21 rfl) rfl (by first | exact Or.inl rfl | exact Or.inr rfl | omega) (am_tr (fun (x9 : Int) => Q (.inl (some (aI (x9)))) (mdW w b c q)) (y := t77) (show (k_isFull c k) = t77 from (by have s9 := ht77.symm; subst s9; exact ((if_neg e1_0).trans (if_pos e1_1)))) hQ)
      refine T_icmp_ne 84 (am_dec tX12_isFull_0 17 rfl) rfl (fun h77 => ?_) (fun h77 => ?_)
      · refine T_iconst 0 (am_dec tX12_isFull_0 20 rfl) rfl ⟨by decide, by decide⟩ ?_
        refine T_weak (ls' := [none, none]) (am_sub_n (am_sub_n am_sub_nil)) ?_
        exact K77 _ (if_neg h77).symm 
      · refine T_iconst 1 (am_dec tX12_isFull_0 18 rfl) rfl ⟨by decide, by decide⟩ ?_
        refine T_goto 85 (am_dec tX12_isFull_0 19 rfl) rfl ?_
        refine T_weak (ls' := [none, none]) (am_sub_n (am_sub_n am_sub_nil)) ?_
        exact K77 _ (if_pos h77).symm 
    by_cases e1_2 : k = 4
    · refine T_tableIn (off := 85) 86 (am_dec tX12_isFull_0 1 rfl) (by omega) (by omega) (by rw [e1_2]; rfl) rfl ?_
      refine T_aload_n (am_dec tX12_isFull_0 22 rfl) rfl ?_
      refine T_getfield 11 10 (am_dec tX12_isFull_0 23 rfl) flX12_20_11 (md_obj hl) rfl ?_
      refine T_iconst 4 (am_dec tX12_isFull_0 24 rfl) rfl ⟨by decide, by decide⟩ ?_
      refine T_ialoadE (x := c 3 4) (am_dec tX12_isFull_0 25 rfl) (md_readTold hl) (by omega) (by omega) rfl ?_
      refine T_iconst 4 (am_dec tX12_isFull_0 26 rfl) rfl ⟨by decide, by decide⟩ ?_
      have K93 : ∀ (t93 : Int), t93 = (if c 3 4 = 4 then 1 else 0) →  am_T S zX12_isFull d u Q 101 [none, none] [aI t93] (mdW w b c q) := by
        intro t93 ht93 
        have hbt93 : t93 = 0 ∨ t93 = 1 := by
          rw [ht93]
          try dsimp only
          repeat' split
          all_goals first | exact Or.inl rfl | exact Or.inr rfl | apply k_in_b | apply k_isDigit_b | apply k_isSmall_b | apply k_bad_b | apply k_isIn_b | apply k_isStep_b | apply k_isFirst_b | apply k_isLine_b | apply k_seesBy_b | apply k_isWalker_b | apply k_seesOne_b | apply k_badTwo_b | apply k_sees_b | apply k_isCode_b | apply k_isLot_b | apply k_isShip_b | apply k_areRight_b | apply k_right_b | apply k_areSeeds_b | apply k_badBid_b | apply k_isWord_b | apply k_takes_b | apply k_takesSign_b | omega
        exact T_zreturn (am_dec tX12_isFull_0 31 rfl) rfl (by first | exact Or.inl rfl | exact Or.inr rfl | omega) (am_tr (fun (x9 : Int) => Q (.inl (some (aI (x9)))) (mdW w b c q)) (y := t93) (show (k_isFull c k) = t93 from (by have s9 := ht93.symm; subst s9; exact ((if_neg e1_0).trans ((if_neg e1_1).trans (if_pos e1_2))))) hQ)
      refine T_icmp_ne 100 (am_dec tX12_isFull_0 27 rfl) rfl (fun h93 => ?_) (fun h93 => ?_)
      · refine T_iconst 0 (am_dec tX12_isFull_0 30 rfl) rfl ⟨by decide, by decide⟩ ?_
        refine T_weak (ls' := [none, none]) (am_sub_n (am_sub_n am_sub_nil)) ?_
        exact K93 _ (if_neg h93).symm 
      · refine T_iconst 1 (am_dec tX12_isFull_0 28 rfl) rfl ⟨by decide, by decide⟩ ?_
        refine T_goto 101 (am_dec tX12_isFull_0 29 rfl) rfl ?_
        refine T_weak (ls' := [none, none]) (am_sub_n (am_sub_n am_sub_nil)) ?_
        exact K93 _ (if_pos h93).symm 
    by_cases e1_3 : k = 5
    · refine T_tableIn (off := 101) 102 (am_dec tX12_isFull_0 1 rfl) (by omega) (by omega) (by rw [e1_3]; rfl) rfl ?_
      refine T_aload_n (am_dec tX12_isFull_0 32 rfl) rfl ?_
      refine T_getfield 11 10 (am_dec tX12_isFull_0 33 rfl) flX12_20_11 (md_obj hl) rfl ?_
      refine T_iconst 5 (am_dec tX12_isFull_0 34 rfl) rfl ⟨by decide, by decide⟩ ?_
      refine T_ialoadE (x := c 3 5) (am_dec tX12_isFull_0 35 rfl) (md_readTold hl) (by omega) (by omega) rfl ?_
      refine T_iconst 4 (am_dec tX12_isFull_0 36 rfl) rfl ⟨by decide, by decide⟩ ?_
      have K109 : ∀ (t109 : Int), t109 = (if c 3 5 = 4 then 1 else 0) →  am_T S zX12_isFull d u Q 117 [none, none] [aI t109] (mdW w b c q) := by
        intro t109 ht109 
        have hbt109 : t109 = 0 ∨ t109 = 1 := by
          rw [ht109]
          try dsimp only
          repeat' split
          all_goals first | exact Or.inl rfl | exact Or.inr rfl | apply k_in_b | apply k_isDigit_b | apply k_isSmall_b | apply k_bad_b | apply k_isIn_b | apply k_isStep_b | apply k_isFirst_b | apply k_isLine_b | apply k_seesBy_b | apply k_isWalker_b | apply k_seesOne_b | apply k_badTwo_b | apply k_sees_b | apply k_isCode_b | apply k_isLot_b | apply k_isShip_b | apply k_areRight_b | apply k_right_b | apply k_areSeeds_b | apply k_badBid_b | apply k_isWord_b | apply k_takes_b | apply k_takesSign_b | omega
        exact T_zreturn (am_dec tX12_isFull_1 1 rfl) rfl (by first | exact Or.inl rfl | exact Or.inr rfl | omega) (am_tr (fun (x9 : Int) => Q (.inl (some (aI (x9)))) (mdW w b c q)) (y := t109) (show (k_isFull c k) = t109 from (by have s9 := ht109.symm; subst s9; exact ((if_neg e1_0).trans ((if_neg e1_1).trans ((if_neg e1_2).trans (if_pos e1_3)))))) hQ)
      refine T_icmp_ne 116 (am_dec tX12_isFull_0 37 rfl) rfl (fun h109 => ?_) (fun h109 => ?_)
      · refine T_iconst 0 (am_dec tX12_isFull_1 0 rfl) rfl ⟨by decide, by decide⟩ ?_
        refine T_weak (ls' := [none, none]) (am_sub_n (am_sub_n am_sub_nil)) ?_
        exact K109 _ (if_neg h109).symm 
      · refine T_iconst 1 (am_dec tX12_isFull_0 38 rfl) rfl ⟨by decide, by decide⟩ ?_
        refine T_goto 117 (am_dec tX12_isFull_0 39 rfl) rfl ?_
        refine T_weak (ls' := [none, none]) (am_sub_n (am_sub_n am_sub_nil)) ?_
        exact K109 _ (if_pos h109).symm 
    by_cases e1_4 : k = 6
    · refine T_tableIn (off := 117) 118 (am_dec tX12_isFull_0 1 rfl) (by omega) (by omega) (by rw [e1_4]; rfl) rfl ?_
      refine T_aload_n (am_dec tX12_isFull_1 2 rfl) rfl ?_
      refine T_getfield 11 10 (am_dec tX12_isFull_1 3 rfl) flX12_20_11 (md_obj hl) rfl ?_
      refine T_bipush 6 (am_dec tX12_isFull_1 4 rfl) rfl ⟨by decide, by decide⟩ ?_
      refine T_ialoadE (x := c 3 6) (am_dec tX12_isFull_1 5 rfl) (md_readTold hl) (by omega) (by omega) rfl ?_
      refine T_iconst 4 (am_dec tX12_isFull_1 6 rfl) rfl ⟨by decide, by decide⟩ ?_
      have K126 : ∀ (t126 : Int), t126 = (if c 3 6 = 4 then 1 else 0) →  am_T S zX12_isFull d u Q 134 [none, none] [aI t126] (mdW w b c q) := by
        intro t126 ht126 
        have hbt126 : t126 = 0 ∨ t126 = 1 := by
          rw [ht126]
          try dsimp only
          repeat' split
          all_goals first | exact Or.inl rfl | exact Or.inr rfl | apply k_in_b | apply k_isDigit_b | apply k_isSmall_b | apply k_bad_b | apply k_isIn_b | apply k_isStep_b | apply k_isFirst_b | apply k_isLine_b | apply k_seesBy_b | apply k_isWalker_b | apply k_seesOne_b | apply k_badTwo_b | apply k_sees_b | apply k_isCode_b | apply k_isLot_b | apply k_isShip_b | apply k_areRight_b | apply k_right_b | apply k_areSeeds_b | apply k_badBid_b | apply k_isWord_b | apply k_takes_b | apply k_takesSign_b | omega
        exact T_zreturn (am_dec tX12_isFull_1 11 rfl) rfl (by first | exact Or.inl rfl | exact Or.inr rfl | omega) (am_tr (fun (x9 : Int) => Q (.inl (some (aI (x9)))) (mdW w b c q)) (y := t126) (show (k_isFull c k) = t126 from (by have s9 := ht126.symm; subst s9; exact ((if_neg e1_0).trans ((if_neg e1_1).trans ((if_neg e1_2).trans ((if_neg e1_3).trans (if_pos e1_4))))))) hQ)
      refine T_icmp_ne 133 (am_dec tX12_isFull_1 7 rfl) rfl (fun h126 => ?_) (fun h126 => ?_)
      · refine T_iconst 0 (am_dec tX12_isFull_1 10 rfl) rfl ⟨by decide, by decide⟩ ?_
        refine T_weak (ls' := [none, none]) (am_sub_n (am_sub_n am_sub_nil)) ?_
        exact K126 _ (if_neg h126).symm 
      · refine T_iconst 1 (am_dec tX12_isFull_1 8 rfl) rfl ⟨by decide, by decide⟩ ?_
        refine T_goto 134 (am_dec tX12_isFull_1 9 rfl) rfl ?_
        refine T_weak (ls' := [none, none]) (am_sub_n (am_sub_n am_sub_nil)) ?_
        exact K126 _ (if_pos h126).symm 
    by_cases e1_5 : k = 7
    · refine T_tableIn (off := 182) 183 (am_dec tX12_isFull_0 1 rfl) (by omega) (by omega) (by rw [e1_5]; rfl) rfl ?_
      refine T_iconst 0 (am_dec tX12_isFull_1 38 rfl) rfl ⟨by decide, by decide⟩ ?_
      exact T_zreturn (am_dec tX12_isFull_1 39 rfl) rfl (by first | exact Or.inl rfl | exact Or.inr rfl | omega) (am_tr (fun (x9 : Int) => Q (.inl (some (aI (x9)))) (mdW w b c q)) (y := 0) (show (k_isFull c k) = 0 from ((if_neg e1_0).trans ((if_neg e1_1).trans ((if_neg e1_2).trans ((if_neg e1_3).trans ((if_neg e1_4).trans (if_pos e1_5))))))) hQ)
    by_cases e1_6 : k = 8
    · refine T_tableIn (off := 134) 135 (am_dec tX12_isFull_0 1 rfl) (by omega) (by omega) (by rw [e1_6]; rfl) rfl ?_
      refine T_aload_n (am_dec tX12_isFull_1 12 rfl) rfl ?_
      refine T_getfield 11 56 (am_dec tX12_isFull_1 13 rfl) flX12_225_11 (md_obj hl) rfl ?_
      refine T_bipush 12 (am_dec tX12_isFull_1 14 rfl) rfl ⟨by decide, by decide⟩ ?_
      have K141 : ∀ (t141 : Int), t141 = (if c 0 56 = 12 then 1 else 0) →  am_T S zX12_isFull d u Q 149 [none, none] [aI t141] (mdW w b c q) := by
        intro t141 ht141 
        have hbt141 : t141 = 0 ∨ t141 = 1 := by
          rw [ht141]
          try dsimp only
          repeat' split
          all_goals first | exact Or.inl rfl | exact Or.inr rfl | apply k_in_b | apply k_isDigit_b | apply k_isSmall_b | apply k_bad_b | apply k_isIn_b | apply k_isStep_b | apply k_isFirst_b | apply k_isLine_b | apply k_seesBy_b | apply k_isWalker_b | apply k_seesOne_b | apply k_badTwo_b | apply k_sees_b | apply k_isCode_b | apply k_isLot_b | apply k_isShip_b | apply k_areRight_b | apply k_right_b | apply k_areSeeds_b | apply k_badBid_b | apply k_isWord_b | apply k_takes_b | apply k_takesSign_b | omega
        exact T_zreturn (am_dec tX12_isFull_1 19 rfl) rfl (by first | exact Or.inl rfl | exact Or.inr rfl | omega) (am_tr (fun (x9 : Int) => Q (.inl (some (aI (x9)))) (mdW w b c q)) (y := t141) (show (k_isFull c k) = t141 from (by have s9 := ht141.symm; subst s9; exact ((if_neg e1_0).trans ((if_neg e1_1).trans ((if_neg e1_2).trans ((if_neg e1_3).trans ((if_neg e1_4).trans ((if_neg e1_5).trans (if_pos e1_6))))))))) hQ)
      refine T_icmp_ne 148 (am_dec tX12_isFull_1 15 rfl) rfl (fun h141 => ?_) (fun h141 => ?_)
      · refine T_iconst 0 (am_dec tX12_isFull_1 18 rfl) rfl ⟨by decide, by decide⟩ ?_
        refine T_weak (ls' := [none, none]) (am_sub_n (am_sub_n am_sub_nil)) ?_
        exact K141 _ (if_neg h141).symm 
      · refine T_iconst 1 (am_dec tX12_isFull_1 16 rfl) rfl ⟨by decide, by decide⟩ ?_
        refine T_goto 149 (am_dec tX12_isFull_1 17 rfl) rfl ?_
        refine T_weak (ls' := [none, none]) (am_sub_n (am_sub_n am_sub_nil)) ?_
        exact K141 _ (if_pos h141).symm 
    by_cases e1_7 : k = 9
    · refine T_tableIn (off := 149) 150 (am_dec tX12_isFull_0 1 rfl) (by omega) (by omega) (by rw [e1_7]; rfl) rfl ?_
      refine T_aload_n (am_dec tX12_isFull_1 20 rfl) rfl ?_
      refine T_getfield 11 57 (am_dec tX12_isFull_1 21 rfl) flX12_228_11 (md_obj hl) rfl ?_
      refine T_bipush 12 (am_dec tX12_isFull_1 22 rfl) rfl ⟨by decide, by decide⟩ ?_
      have K156 : ∀ (t156 : Int), t156 = (if c 0 57 = 12 then 1 else 0) →  am_T S zX12_isFull d u Q 164 [none, none] [aI t156] (mdW w b c q) := by
        intro t156 ht156 
        have hbt156 : t156 = 0 ∨ t156 = 1 := by
          rw [ht156]
          try dsimp only
          repeat' split
          all_goals first | exact Or.inl rfl | exact Or.inr rfl | apply k_in_b | apply k_isDigit_b | apply k_isSmall_b | apply k_bad_b | apply k_isIn_b | apply k_isStep_b | apply k_isFirst_b | apply k_isLine_b | apply k_seesBy_b | apply k_isWalker_b | apply k_seesOne_b | apply k_badTwo_b | apply k_sees_b | apply k_isCode_b | apply k_isLot_b | apply k_isShip_b | apply k_areRight_b | apply k_right_b | apply k_areSeeds_b | apply k_badBid_b | apply k_isWord_b | apply k_takes_b | apply k_takesSign_b | omega
        exact T_zreturn (am_dec tX12_isFull_1 27 rfl) rfl (by first | exact Or.inl rfl | exact Or.inr rfl | omega) (am_tr (fun (x9 : Int) => Q (.inl (some (aI (x9)))) (mdW w b c q)) (y := t156) (show (k_isFull c k) = t156 from (by have s9 := ht156.symm; subst s9; exact ((if_neg e1_0).trans ((if_neg e1_1).trans ((if_neg e1_2).trans ((if_neg e1_3).trans ((if_neg e1_4).trans ((if_neg e1_5).trans ((if_neg e1_6).trans (if_pos e1_7)))))))))) hQ)
      refine T_icmp_ne 163 (am_dec tX12_isFull_1 23 rfl) rfl (fun h156 => ?_) (fun h156 => ?_)
      · refine T_iconst 0 (am_dec tX12_isFull_1 26 rfl) rfl ⟨by decide, by decide⟩ ?_
        refine T_weak (ls' := [none, none]) (am_sub_n (am_sub_n am_sub_nil)) ?_
        exact K156 _ (if_neg h156).symm 
      · refine T_iconst 1 (am_dec tX12_isFull_1 24 rfl) rfl ⟨by decide, by decide⟩ ?_
        refine T_goto 164 (am_dec tX12_isFull_1 25 rfl) rfl ?_
        refine T_weak (ls' := [none, none]) (am_sub_n (am_sub_n am_sub_nil)) ?_
        exact K156 _ (if_pos h156).symm 
    by_cases e1_8 : k = 10
    · refine T_tableIn (off := 164) 165 (am_dec tX12_isFull_0 1 rfl) (by omega) (by omega) (by rw [e1_8]; rfl) rfl ?_
      refine T_aload_n (am_dec tX12_isFull_1 28 rfl) rfl ?_
      refine T_getfield 11 10 (am_dec tX12_isFull_1 29 rfl) flX12_20_11 (md_obj hl) rfl ?_
      refine T_bipush 10 (am_dec tX12_isFull_1 30 rfl) rfl ⟨by decide, by decide⟩ ?_
      refine T_ialoadE (x := c 3 10) (am_dec tX12_isFull_1 31 rfl) (md_readTold hl) (by omega) (by omega) rfl ?_
      refine T_bipush 6 (am_dec tX12_isFull_1 32 rfl) rfl ⟨by decide, by decide⟩ ?_
      have K174 : ∀ (t174 : Int), t174 = (if c 3 10 = 6 then 1 else 0) →  am_T S zX12_isFull d u Q 182 [none, none] [aI t174] (mdW w b c q) := by
        intro t174 ht174 
        have hbt174 : t174 = 0 ∨ t174 = 1 := by
          rw [ht174]
          try dsimp only
          repeat' split
          all_goals first | exact Or.inl rfl | exact Or.inr rfl | apply k_in_b | apply k_isDigit_b | apply k_isSmall_b | apply k_bad_b | apply k_isIn_b | apply k_isStep_b | apply k_isFirst_b | apply k_isLine_b | apply k_seesBy_b | apply k_isWalker_b | apply k_seesOne_b | apply k_badTwo_b | apply k_sees_b | apply k_isCode_b | apply k_isLot_b | apply k_isShip_b | apply k_areRight_b | apply k_right_b | apply k_areSeeds_b | apply k_badBid_b | apply k_isWord_b | apply k_takes_b | apply k_takesSign_b | omega
        exact T_zreturn (am_dec tX12_isFull_1 37 rfl) rfl (by first | exact Or.inl rfl | exact Or.inr rfl | omega) (am_tr (fun (x9 : Int) => Q (.inl (some (aI (x9)))) (mdW w b c q)) (y := t174) (show (k_isFull c k) = t174 from (by have s9 := ht174.symm; subst s9; exact ((if_neg e1_0).trans ((if_neg e1_1).trans ((if_neg e1_2).trans ((if_neg e1_3).trans ((if_neg e1_4).trans ((if_neg e1_5).trans ((if_neg e1_6).trans ((if_neg e1_7).trans (if_pos e1_8))))))))))) hQ)
      refine T_icmp_ne 181 (am_dec tX12_isFull_1 33 rfl) rfl (fun h174 => ?_) (fun h174 => ?_)
      · refine T_iconst 0 (am_dec tX12_isFull_1 36 rfl) rfl ⟨by decide, by decide⟩ ?_
        refine T_weak (ls' := [none, none]) (am_sub_n (am_sub_n am_sub_nil)) ?_
        exact K174 _ (if_neg h174).symm 
      · refine T_iconst 1 (am_dec tX12_isFull_1 34 rfl) rfl ⟨by decide, by decide⟩ ?_
        refine T_goto 182 (am_dec tX12_isFull_1 35 rfl) rfl ?_
        refine T_weak (ls' := [none, none]) (am_sub_n (am_sub_n am_sub_nil)) ?_
        exact K174 _ (if_pos h174).symm 
    refine T_tableOut 183 (am_dec tX12_isFull_0 1 rfl) (by omega) rfl ?_
    refine T_iconst 0 (am_dec tX12_isFull_1 38 rfl) rfl ⟨by decide, by decide⟩ ?_
    exact T_zreturn (am_dec tX12_isFull_1 39 rfl) rfl (by first | exact Or.inl rfl | exact Or.inr rfl | omega) (am_tr (fun (x9 : Int) => Q (.inl (some (aI (x9)))) (mdW w b c q)) (y := 0) (show (k_isFull c k) = 0 from ((if_neg e1_0).trans ((if_neg e1_1).trans ((if_neg e1_2).trans ((if_neg e1_3).trans ((if_neg e1_4).trans ((if_neg e1_5).trans ((if_neg e1_6).trans ((if_neg e1_7).trans (if_neg e1_8)))))))))) hQ)
  exact key _ ⟨rfl, rfl⟩
theorem k_isFull_b (c : am_F) (k : Int) : (k_isFull c k) = 0 ∨ (k_isFull c k) = 1 := by
  unfold k_isFull
  try dsimp only
  repeat' split
  all_goals first | exact Or.inl rfl | exact Or.inr rfl | apply k_in_b | apply k_isDigit_b | apply k_isSmall_b | apply k_bad_b | apply k_isIn_b | apply k_isStep_b | apply k_isFirst_b | apply k_isLine_b | apply k_seesBy_b | apply k_isWalker_b | apply k_seesOne_b | apply k_badTwo_b | apply k_sees_b | apply k_isCode_b | apply k_isLot_b | apply k_isShip_b | apply k_areRight_b | apply k_right_b | apply k_areSeeds_b | apply k_badBid_b | apply k_isWord_b | apply k_takes_b | apply k_takesSign_b
