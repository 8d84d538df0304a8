/-! the model: winds, lots, turns -/
def g_k_windAt_4 (c : am_F) (t : Int) (k : Int) (bst : Int) : Int := (if t < c (21 + k.toNat) 0 then bst else (if bst = (-1) then k else (if c (21 + k.toNat) 0 ≤ c (21 + bst.toNat) 0 then bst else k)))
theorem L_k_windAt_4 {S : am_S} {d u : Nat} {Q : AO → AH → Prop} {w : AH} {b : Nat} (hl : b + 735 ≤ w.length) (c : am_F) (q : am_F) (t : Int) (hV : MdV c)   (B9 : Int) (hB : B9 = c 4 8) : ∀ (n : Nat) (k : Int) (bst : Int), k + n = B9 → 0 ≤ k → -1 ≤ bst ∧ bst < k → (∀ (bst' : Int), bst' = am_fold (g_k_windAt_4 c t) k n bst → -1 ≤ bst' ∧ bst' < B9 → am_T S zX12_windAt d u Q 59 [none, none, some (aI bst'), none] [] (mdW w b c q)) → am_T S zX12_windAt d u Q 4 [some (aR b), some (aI t), some (aI bst), some (aI k)] [] (mdW w b c q) := by
  intro n
  induction n with
  | zero =>
    intro k bst hi9 h0i hinv k9
    have e9 : k = B9 := by omega
    subst e9
    obtain ⟨vl8, vu8⟩ := MdV_8 hV
    refine T_iload_n (am_dec tX12_windAt_0 4 rfl) rfl ?_
    refine T_aload_n (am_dec tX12_windAt_0 5 rfl) rfl ?_
    refine T_getfield 11 11 (am_dec tX12_windAt_0 6 rfl) flX12_23_11 (md_obj hl) rfl ?_
    refine T_bipush 8 (am_dec tX12_windAt_0 7 rfl) rfl ⟨by decide, by decide⟩ ?_
    refine T_ialoadE (x := c 4 8) (am_dec tX12_windAt_0 8 rfl) (md_told hl) (by omega) (by omega) rfl ?_
    refine T_icmp_ge 59 (am_dec tX12_windAt_0 9 rfl) rfl (fun h12 => ?_) (fun h12 => by exfalso; omega)
    refine T_weak (ls' := [none, none, some (aI bst), none]) (am_sub_n (am_sub_n (am_sub_s (am_sub_n am_sub_nil)))) ?_
    exact k9 bst rfl hinv
  | succ n ih =>
    intro k bst hi9 h0i hinv k9
    obtain ⟨vl8, vu8⟩ := MdV_8 hV
    refine T_iload_n (am_dec tX12_windAt_0 4 rfl) rfl ?_
    refine T_aload_n (am_dec tX12_windAt_0 5 rfl) rfl ?_
    refine T_getfield 11 11 (am_dec tX12_windAt_0 6 rfl) flX12_23_11 (md_obj hl) rfl ?_
    refine T_bipush 8 (am_dec tX12_windAt_0 7 rfl) rfl ⟨by decide, by decide⟩ ?_
    refine T_ialoadE (x := c 4 8) (am_dec tX12_windAt_0 8 rfl) (md_told hl) (by omega) (by omega) rfl ?_
    refine T_icmp_ge 59 (am_dec tX12_windAt_0 9 rfl) rfl (fun h12 => by exfalso; omega) (fun h12 => ?_)
    refine T_aload_n (am_dec tX12_windAt_0 10 rfl) rfl ?_
    refine T_getfield 11 15 (am_dec tX12_windAt_0 11 rfl) flX12_37_11 (md_obj hl) rfl ?_
    refine T_iload_n (am_dec tX12_windAt_0 12 rfl) rfl ?_
    refine T_aaloadR (r := b + (21 + k.toNat)) (am_dec tX12_windAt_0 13 rfl) (by decide) (mh_wind hl) (by omega) (by omega) (if_pos (by omega)) ?_
    refine T_iconst 0 (am_dec tX12_windAt_0 14 rfl) rfl ⟨by decide, by decide⟩ ?_
    refine T_ialoadE (x := c (21 + k.toNat) 0) (am_dec tX12_windAt_0 15 rfl) (mr_wind hl (i := k) (by omega) (by omega)) (by omega) (by omega) rfl ?_
    refine T_iload_n (am_dec tX12_windAt_0 16 rfl) rfl ?_
    have K24 : ∀ (bst_24 : Int), bst_24 = (if t < c (21 + k.toNat) 0 then bst else (if bst = (-1) then k else (if c (21 + k.toNat) 0 ≤ c (21 + bst.toNat) 0 then bst else k))) →  am_T S zX12_windAt d u Q 53 [some (aR b), some (aI t), some (aI bst_24), some (aI k)] [] (mdW w b c q) := by
      intro bst_24 hbst_24
      refine T_iinc (ls' := [some (aR b), some (aI t), some (aI bst_24), some (aI (k + 1))]) (k + 1) (am_dec tX12_windAt_0 36 rfl) rfl rfl ⟨by omega, by omega⟩ (by decide) rfl ?_
      refine T_goto 4 (am_dec tX12_windAt_0 37 rfl) rfl ?_
      have e9 : (g_k_windAt_4 c t) k bst = bst_24 := (by subst hbst_24; rfl)
      simp only [am_fold_s, e9] at k9
      exact ih (k + 1) bst_24 (by omega) (by omega) (by omega) k9
    refine T_icmp_gt 53 (am_dec tX12_windAt_0 17 rfl) rfl (fun h24 => ?_) (fun h24 => ?_)
    · exact K24 _ (if_pos h24).symm
    · refine T_iload_n (am_dec tX12_windAt_0 18 rfl) rfl ?_
      refine T_iconst (-1) (am_dec tX12_windAt_0 19 rfl) rfl ⟨by decide, by decide⟩ ?_
      have K29 : ∀ (bst_29 : Int), bst_29 = (if bst = (-1) then k else (if c (21 + k.toNat) 0 ≤ c (21 + bst.toNat) 0 then bst else k)) →  am_T S zX12_windAt d u Q 53 [some (aR b), some (aI t), some (aI bst_29), some (aI k)] [] (mdW w b c q) := by
        intro bst_29 hbst_29
        exact K24 _ (by subst hbst_29; exact (if_neg h24).symm)
      refine T_icmp_eq 51 (am_dec tX12_windAt_0 20 rfl) rfl (fun h29 => ?_) (fun h29 => ?_)
      · refine T_iload_n (am_dec tX12_windAt_0 34 rfl) rfl ?_
        refine T_istore_n (ls' := [some (aR b), some (aI t), some (aI k), some (aI k)]) (am_dec tX12_windAt_0 35 rfl) (by decide) rfl ?_
        exact K29 _ (if_pos h29).symm
      · refine T_aload_n (am_dec tX12_windAt_0 21 rfl) rfl ?_
        refine T_getfield 11 15 (am_dec tX12_windAt_0 22 rfl) flX12_37_11 (md_obj hl) rfl ?_
        refine T_iload_n (am_dec tX12_windAt_0 23 rfl) rfl ?_
        refine T_aaloadR (r := b + (21 + k.toNat)) (am_dec tX12_windAt_0 24 rfl) (by decide) (mh_wind hl) (by omega) (by omega) (if_pos (by omega)) ?_
        refine T_iconst 0 (am_dec tX12_windAt_0 25 rfl) rfl ⟨by decide, by decide⟩ ?_
        refine T_ialoadE (x := c (21 + k.toNat) 0) (am_dec tX12_windAt_0 26 rfl) (mr_wind hl (i := k) (by omega) (by omega)) (by omega) (by omega) rfl ?_
        refine T_aload_n (am_dec tX12_windAt_0 27 rfl) rfl ?_
        refine T_getfield 11 15 (am_dec tX12_windAt_0 28 rfl) flX12_37_11 (md_obj hl) rfl ?_
        refine T_iload_n (am_dec tX12_windAt_0 29 rfl) rfl ?_
        refine T_aaloadR (r := b + (21 + bst.toNat)) (am_dec tX12_windAt_0 30 rfl) (by decide) (mh_wind hl) (by omega) (by omega) (if_pos (by omega)) ?_
        refine T_iconst 0 (am_dec tX12_windAt_0 31 rfl) rfl ⟨by decide, by decide⟩ ?_
        refine T_ialoadE (x := c (21 + bst.toNat) 0) (am_dec tX12_windAt_0 32 rfl) (mr_wind hl (i := bst) (by omega) (by omega)) (by omega) (by omega) rfl ?_
        have K48 : ∀ (bst_48 : Int), bst_48 = (if c (21 + k.toNat) 0 ≤ c (21 + bst.toNat) 0 then bst else k) →  am_T S zX12_windAt d u Q 53 [some (aR b), some (aI t), some (aI bst_48), some (aI k)] [] (mdW w b c q) := by
          intro bst_48 hbst_48
          exact K29 _ (by subst hbst_48; exact (if_neg h29).symm)
        refine T_icmp_le 53 (am_dec tX12_windAt_0 33 rfl) rfl (fun h48 => ?_) (fun h48 => ?_)
        · exact K48 _ (if_pos h48).symm
        · refine T_iload_n (am_dec tX12_windAt_0 34 rfl) rfl ?_
          refine T_istore_n (ls' := [some (aR b), some (aI t), some (aI k), some (aI k)]) (am_dec tX12_windAt_0 35 rfl) (by decide) rfl ?_
          exact K48 _ (if_neg h48).symm
def k_windAt (c : am_F) (t : Int) : Int := am_fold (g_k_windAt_4 c t) 0 (c 4 8).toNat (-1)
theorem mk_windAt {S : am_S} {d u : Nat} {w : AH} {b : Nat} (hl : b + 735 ≤ w.length) {c : am_F} {q : am_F} (t : Int) (hV : MdV c)  : am_Out S zX12_windAt d u [aR b, aI t] (mdW w b c q) (.inl (some (aI (k_windAt c t)))) (mdW w b c q) := by
  have key : ∀ Q : AO → AH → Prop, Q (.inl (some (aI (k_windAt c t)))) (mdW w b c q) → am_M S zX12_windAt d u [aR b, aI t] (mdW w b c q) Q := by
    intro Q hQ
    refine am_body rfl (by decide +kernel) rfl (am_cats_cons rfl ( am_cats_cons rfl (am_cats_nil))) (Nat.le_of_ble_eq_true rfl) (?_ : am_T _ _ _ _ _ 0 [some (aR b), some (aI t), none, none] [] (mdW w b c q))
    obtain ⟨vl8, vu8⟩ := MdV_8 hV
    refine T_iconst (-1) (am_dec tX12_windAt_0 0 rfl) rfl ⟨by decide, by decide⟩ ?_
    refine T_istore_n (ls' := [some (aR b), some (aI t), some (aI (-1)), none]) (am_dec tX12_windAt_0 1 rfl) (by decide) rfl ?_
    refine T_iconst 0 (am_dec tX12_windAt_0 2 rfl) rfl ⟨by decide, by decide⟩ ?_
    refine T_istore_n (ls' := [some (aR b), some (aI t), some (aI (-1)), some (aI 0)]) (am_dec tX12_windAt_0 3 rfl) (by decide) rfl ?_
    refine L_k_windAt_4 hl c q t hV   _ rfl (c 4 8).toNat 0 (-1) (by omega) (by omega) (by omega) (fun bst_4 hbst_4 hv4 => ?_)
    refine T_iload_n (am_dec tX12_windAt_0 38 rfl) rfl ?_
    exact T_ireturn (am_dec tX12_windAt_0 39 rfl) rfl (am_tr (fun x9 => Q (.inl (some (aI (x9)))) (mdW w b c q)) (y := bst_4) (show (k_windAt c t) = bst_4 from (by subst hbst_4; rfl)) hQ)
  exact key _ ⟨rfl, rfl⟩
def g_k_thinAt_4 (c : am_F) (t : Int) (k : Int) (bst : Int) : Int := (if t < c (47 + k.toNat) 0 then bst else (if bst = (-1) then k else (if c (47 + k.toNat) 0 ≤ c (47 + bst.toNat) 0 then bst else k)))
theorem L_k_thinAt_4 {S : am_S} {d u : Nat} {Q : AO → AH → Prop} {w : AH} {b : Nat} (hl : b + 735 ≤ w.length) (c : am_F) (q : am_F) (t : Int) (hV : MdV c)   (B9 : Int) (hB : B9 = c 4 9) : ∀ (n : Nat) (k : Int) (bst : Int), k + n = B9 → 0 ≤ k → -1 ≤ bst ∧ bst < k → (∀ (bst' : Int), bst' = am_fold (g_k_thinAt_4 c t) k n bst → -1 ≤ bst' ∧ bst' < B9 → am_T S zX12_thinAt d u Q 59 [some (aR b), none, some (aI bst'), none] [] (mdW w b c q)) → am_T S zX12_thinAt d u Q 4 [some (aR b), some (aI t), some (aI bst), some (aI k)] [] (mdW w b c q) := by
  intro n
  induction n with
  | zero =>
    intro k bst hi9 h0i hinv k9
    have e9 : k = B9 := by omega
    subst e9
    obtain ⟨vl9, vu9⟩ := MdV_9 hV
    refine T_iload_n (am_dec tX12_thinAt_0 4 rfl) rfl ?_
    refine T_aload_n (am_dec tX12_thinAt_0 5 rfl) rfl ?_
    refine T_getfield 11 11 (am_dec tX12_thinAt_0 6 rfl) flX12_23_11 (md_obj hl) rfl ?_
    refine T_bipush 9 (am_dec tX12_thinAt_0 7 rfl) rfl ⟨by decide, by decide⟩ ?_
    refine T_ialoadE (x := c 4 9) (am_dec tX12_thinAt_0 8 rfl) (md_told hl) (by omega) (by omega) rfl ?_
    refine T_icmp_ge 59 (am_dec tX12_thinAt_0 9 rfl) rfl (fun h12 => ?_) (fun h12 => by exfalso; omega)
    refine T_weak (ls' := [some (aR b), none, some (aI bst), none]) (am_sub_s (am_sub_n (am_sub_s (am_sub_n am_sub_nil)))) ?_
    exact k9 bst rfl hinv
  | succ n ih =>
    intro k bst hi9 h0i hinv k9
    obtain ⟨vl9, vu9⟩ := MdV_9 hV
    refine T_iload_n (am_dec tX12_thinAt_0 4 rfl) rfl ?_
    refine T_aload_n (am_dec tX12_thinAt_0 5 rfl) rfl ?_
    refine T_getfield 11 11 (am_dec tX12_thinAt_0 6 rfl) flX12_23_11 (md_obj hl) rfl ?_
    refine T_bipush 9 (am_dec tX12_thinAt_0 7 rfl) rfl ⟨by decide, by decide⟩ ?_
    refine T_ialoadE (x := c 4 9) (am_dec tX12_thinAt_0 8 rfl) (md_told hl) (by omega) (by omega) rfl ?_
    refine T_icmp_ge 59 (am_dec tX12_thinAt_0 9 rfl) rfl (fun h12 => by exfalso; omega) (fun h12 => ?_)
    refine T_aload_n (am_dec tX12_thinAt_0 10 rfl) rfl ?_
    refine T_getfield 11 17 (am_dec tX12_thinAt_0 11 rfl) flX12_43_11 (md_obj hl) rfl ?_
    refine T_iload_n (am_dec tX12_thinAt_0 12 rfl) rfl ?_
    refine T_aaloadR (r := b + (47 + k.toNat)) (am_dec tX12_thinAt_0 13 rfl) (by decide) (mh_thin hl) (by omega) (by omega) (if_pos (by omega)) ?_
    refine T_iconst 0 (am_dec tX12_thinAt_0 14 rfl) rfl ⟨by decide, by decide⟩ ?_
    refine T_ialoadE (x := c (47 + k.toNat) 0) (am_dec tX12_thinAt_0 15 rfl) (mr_thin hl (i := k) (by omega) (by omega)) (by omega) (by omega) rfl ?_
    refine T_iload_n (am_dec tX12_thinAt_0 16 rfl) rfl ?_
    have K24 : ∀ (bst_24 : Int), bst_24 = (if t < c (47 + k.toNat) 0 then bst else (if bst = (-1) then k else (if c (47 + k.toNat) 0 ≤ c (47 + bst.toNat) 0 then bst else k))) →  am_T S zX12_thinAt d u Q 53 [some (aR b), some (aI t), some (aI bst_24), some (aI k)] [] (mdW w b c q) := by
      intro bst_24 hbst_24
      refine T_iinc (ls' := [some (aR b), some (aI t), some (aI bst_24), some (aI (k + 1))]) (k + 1) (am_dec tX12_thinAt_0 36 rfl) rfl rfl ⟨by omega, by omega⟩ (by decide) rfl ?_
      refine T_goto 4 (am_dec tX12_thinAt_0 37 rfl) rfl ?_
      have e9 : (g_k_thinAt_4 c t) k bst = bst_24 := (by subst hbst_24; rfl)
      simp only [am_fold_s, e9] at k9
      exact ih (k + 1) bst_24 (by omega) (by omega) (by omega) k9
    refine T_icmp_gt 53 (am_dec tX12_thinAt_0 17 rfl) rfl (fun h24 => ?_) (fun h24 => ?_)
    · exact K24 _ (if_pos h24).symm
    · refine T_iload_n (am_dec tX12_thinAt_0 18 rfl) rfl ?_
      refine T_iconst (-1) (am_dec tX12_thinAt_0 19 rfl) rfl ⟨by decide, by decide⟩ ?_
      have K29 : ∀ (bst_29 : Int), bst_29 = (if bst = (-1) then k else (if c (47 + k.toNat) 0 ≤ c (47 + bst.toNat) 0 then bst else k)) →  am_T S zX12_thinAt d u Q 53 [some (aR b), some (aI t), some (aI bst_29), some (aI k)] [] (mdW w b c q) := by
        intro bst_29 hbst_29
        exact K24 _ (by subst hbst_29; exact (if_neg h24).symm)
      refine T_icmp_eq 51 (am_dec tX12_thinAt_0 20 rfl) rfl (fun h29 => ?_) (fun h29 => ?_)
      · refine T_iload_n (am_dec tX12_thinAt_0 34 rfl) rfl ?_
        refine T_istore_n (ls' := [some (aR b), some (aI t), some (aI k), some (aI k)]) (am_dec tX12_thinAt_0 35 rfl) (by decide) rfl ?_
        exact K29 _ (if_pos h29).symm
      · refine T_aload_n (am_dec tX12_thinAt_0 21 rfl) rfl ?_
        refine T_getfield 11 17 (am_dec tX12_thinAt_0 22 rfl) flX12_43_11 (md_obj hl) rfl ?_
        refine T_iload_n (am_dec tX12_thinAt_0 23 rfl) rfl ?_
        refine T_aaloadR (r := b + (47 + k.toNat)) (am_dec tX12_thinAt_0 24 rfl) (by decide) (mh_thin hl) (by omega) (by omega) (if_pos (by omega)) ?_
        refine T_iconst 0 (am_dec tX12_thinAt_0 25 rfl) rfl ⟨by decide, by decide⟩ ?_
        refine T_ialoadE (x := c (47 + k.toNat) 0) (am_dec tX12_thinAt_0 26 rfl) (mr_thin hl (i := k) (by omega) (by omega)) (by omega) (by omega) rfl ?_
        refine T_aload_n (am_dec tX12_thinAt_0 27 rfl) rfl ?_
        refine T_getfield 11 17 (am_dec tX12_thinAt_0 28 rfl) flX12_43_11 (md_obj hl) rfl ?_
        refine T_iload_n (am_dec tX12_thinAt_0 29 rfl) rfl ?_
        refine T_aaloadR (r := b + (47 + bst.toNat)) (am_dec tX12_thinAt_0 30 rfl) (by decide) (mh_thin hl) (by omega) (by omega) (if_pos (by omega)) ?_
        refine T_iconst 0 (am_dec tX12_thinAt_0 31 rfl) rfl ⟨by decide, by decide⟩ ?_
        refine T_ialoadE (x := c (47 + bst.toNat) 0) (am_dec tX12_thinAt_0 32 rfl) (mr_thin hl (i := bst) (by omega) (by omega)) (by omega) (by omega) rfl ?_
        have K48 : ∀ (bst_48 : Int), bst_48 = (if c (47 + k.toNat) 0 ≤ c (47 + bst.toNat) 0 then bst else k) →  am_T S zX12_thinAt d u Q 53 [some (aR b), some (aI t), some (aI bst_48), some (aI k)] [] (mdW w b c q) := by
          intro bst_48 hbst_48
          exact K29 _ (by subst hbst_48; exact (if_neg h29).symm)
        refine T_icmp_le 53 (am_dec tX12_thinAt_0 33 rfl) rfl (fun h48 => ?_) (fun h48 => ?_)
        · exact K48 _ (if_pos h48).symm
        · refine T_iload_n (am_dec tX12_thinAt_0 34 rfl) rfl ?_
          refine T_istore_n (ls' := [some (aR b), some (aI t), some (aI k), some (aI k)]) (am_dec tX12_thinAt_0 35 rfl) (by decide) rfl ?_
          exact K48 _ (if_neg h48).symm
def k_thinAt (c : am_F) (t : Int) : Int := (let bst_4 : Int := am_fold (g_k_thinAt_4 c t) 0 (c 4 9).toNat (-1); (if bst_4 = (-1) then 0 else (c (47 + bst_4.toNat) 1)))
theorem mk_thinAt {S : am_S} {d u : Nat} {w : AH} {b : Nat} (hl : b + 735 ≤ w.length) {c : am_F} {q : am_F} (t : Int) (hV : MdV c)  : am_Out S zX12_thinAt d u [aR b, aI t] (mdW w b c q) (.inl (some (aI (k_thinAt c t)))) (mdW w b c q) := by
  have key : ∀ Q : AO → AH → Prop, Q (.inl (some (aI (k_thinAt c t)))) (mdW w b c q) → am_M S zX12_thinAt d u [aR b, aI t] (mdW w b c q) Q := by
    intro Q hQ
    refine am_body rfl (by decide +kernel) rfl (am_cats_cons rfl ( am_cats_cons rfl (am_cats_nil))) (Nat.le_of_ble_eq_true rfl) (?_ : am_T _ _ _ _ _ 0 [some (aR b), some (aI t), none, none] [] (mdW w b c q))
    obtain ⟨vl9, vu9⟩ := MdV_9 hV
    refine T_iconst (-1) (am_dec tX12_thinAt_0 0 rfl) rfl ⟨by decide, by decide⟩ ?_
    refine T_istore_n (ls' := [some (aR b), some (aI t), some (aI (-1)), none]) (am_dec tX12_thinAt_0 1 rfl) (by decide) rfl ?_
    refine T_iconst 0 (am_dec tX12_thinAt_0 2 rfl) rfl ⟨by decide, by decide⟩ ?_
    refine T_istore_n (ls' := [some (aR b), some (aI t), some (aI (-1)), some (aI 0)]) (am_dec tX12_thinAt_0 3 rfl) (by decide) rfl ?_
    refine L_k_thinAt_4 hl c q t hV   _ rfl (c 4 9).toNat 0 (-1) (by omega) (by omega) (by omega) (fun bst_4 hbst_4 hv4 => ?_)
    refine T_iload_n (am_dec tX12_thinAt_0 38 rfl) rfl ?_
    refine T_iconst (-1) (am_dec tX12_thinAt_0 39 rfl) rfl ⟨by decide, by decide⟩ ?_
    have K61 : ∀ (t61 : Int), t61 = (if bst_4 = (-1) then 0 else (c (47 + bst_4.toNat) 1)) →  am_T S zX12_thinAt d u Q 76 [none, none, none, none] [aI t61] (mdW w b c q) := by
      intro t61 ht61
      exact T_ireturn (am_dec tX12_thinAt_1 9 rfl) rfl (am_tr (fun x9 => Q (.inl (some (aI (x9)))) (mdW w b c q)) (y := t61) (show (k_thinAt c t) = t61 from (by subst hbst_4; subst ht61; rfl)) hQ)
    refine T_icmp_ne 68 (am_dec tX12_thinAt_1 0 rfl) rfl (fun h61 => ?_) (fun h61 => ?_)
    · refine T_aload_n (am_dec tX12_thinAt_1 3 rfl) rfl ?_
      refine T_getfield 11 17 (am_dec tX12_thinAt_1 4 rfl) flX12_43_11 (md_obj hl) rfl ?_
      refine T_iload_n (am_dec tX12_thinAt_1 5 rfl) rfl ?_
      refine T_aaloadR (r := b + (47 + bst_4.toNat)) (am_dec tX12_thinAt_1 6 rfl) (by decide) (mh_thin hl) (by omega) (by omega) (if_pos (by omega)) ?_
      refine T_iconst 1 (am_dec tX12_thinAt_1 7 rfl) rfl ⟨by decide, by decide⟩ ?_
      refine T_ialoadE (x := c (47 + bst_4.toNat) 1) (am_dec tX12_thinAt_1 8 rfl) (mr_thin hl (i := bst_4) (by omega) (by omega)) (by omega) (by omega) rfl ?_
      refine T_weak (ls' := [none, none, none, none]) (am_sub_n (am_sub_n (am_sub_n (am_sub_n am_sub_nil)))) ?_
      exact K61 _ (if_neg h61).symm
    · refine T_iconst 0 (am_dec tX12_thinAt_1 1 rfl) rfl ⟨by decide, by decide⟩ ?_
      refine T_goto 76 (am_dec tX12_thinAt_1 2 rfl) rfl ?_
      refine T_weak (ls' := [none, none, none, none]) (am_sub_n (am_sub_n (am_sub_n (am_sub_n am_sub_nil)))) ?_
      exact K61 _ (if_pos h61).symm
  exact key _ ⟨rfl, rfl⟩
def p_k_lotOf_2 (c : am_F) (x : Int) (y : Int) : Int → Option Int := fun k => (let z29 : Int := (k_in x (c (96 + k.toNat) 0) (c (96 + k.toNat) 2)); (if z29 = 0 then none else (let z52 : Int := (k_in y (c (96 + k.toNat) 1) (c (96 + k.toNat) 3)); (if z52 = 0 then none else some k))))
theorem L_k_lotOf_2 {S : am_S} {d u : Nat} {Q : AO → AH → Prop} {w : AH} {b : Nat} (hl : b + 735 ≤ w.length) (c : am_F) (q : am_F) (x : Int) (y : Int) (hV : MdV c)  (hd : 1 ≤ d) (B9 : Int) (hB : B9 = c 4 3) : ∀ (n : Nat) (k : Int), k + n = B9 → 0 ≤ k → (am_find (p_k_lotOf_2 c x y) k n = none → am_T S zX12_lotOf d u Q 66 [none, none, none, none] [] (mdW w b c q)) → (∀ r9, am_find (p_k_lotOf_2 c x y) k n = some r9 → Q (.inl (some (aI r9))) (mdW w b c q)) → am_T S zX12_lotOf d u Q 2 [some (aR b), some (aI x), some (aI y), some (aI k)] [] (mdW w b c q) := by
  intro n
  induction n with
  | zero =>
    intro k hi9 h0i k9 kr9
    have e9 : k = B9 := by omega
    subst e9
    obtain ⟨vl3, vu3⟩ := MdV_3 hV
    refine T_iload_n (am_dec tX12_lotOf_0 2 rfl) rfl ?_
    refine T_aload_n (am_dec tX12_lotOf_0 3 rfl) rfl ?_
    refine T_getfield 11 11 (am_dec tX12_lotOf_0 4 rfl) flX12_23_11 (md_obj hl) rfl ?_
    refine T_iconst 3 (am_dec tX12_lotOf_0 5 rfl) rfl ⟨by decide, by decide⟩ ?_
    refine T_ialoadE (x := c 4 3) (am_dec tX12_lotOf_0 6 rfl) (md_told hl) (by omega) (by omega) rfl ?_
    refine T_icmp_ge 66 (am_dec tX12_lotOf_0 7 rfl) rfl (fun h9 => ?_) (fun h9 => by exfalso; omega)
    refine T_weak (ls' := [none, none, none, none]) (am_sub_n (am_sub_n (am_sub_n (am_sub_n am_sub_nil)))) ?_
    exact k9 rfl
  | succ n ih =>
    intro k hi9 h0i k9 kr9
    obtain ⟨vl3, vu3⟩ := MdV_3 hV
    refine T_iload_n (am_dec tX12_lotOf_0 2 rfl) rfl ?_
    refine T_aload_n (am_dec tX12_lotOf_0 3 rfl) rfl ?_
    refine T_getfield 11 11 (am_dec tX12_lotOf_0 4 rfl) flX12_23_11 (md_obj hl) rfl ?_
    refine T_iconst 3 (am_dec tX12_lotOf_0 5 rfl) rfl ⟨by decide, by decide⟩ ?_
    refine T_ialoadE (x := c 4 3) (am_dec tX12_lotOf_0 6 rfl) (md_told hl) (by omega) (by omega) rfl ?_
    refine T_icmp_ge 66 (am_dec tX12_lotOf_0 7 rfl) rfl (fun h9 => by exfalso; omega) (fun h9 => ?_)
    refine T_iload_n (am_dec tX12_lotOf_0 8 rfl) rfl ?_
    refine T_aload_n (am_dec tX12_lotOf_0 9 rfl) rfl ?_
    refine T_getfield 11 23 (am_dec tX12_lotOf_0 10 rfl) flX12_61_11 (md_obj hl) rfl ?_
    refine T_iload_n (am_dec tX12_lotOf_0 11 rfl) rfl ?_
    refine T_aaloadR (r := b + (96 + k.toNat)) (am_dec tX12_lotOf_0 12 rfl) (by decide) (mh_lot hl) (by omega) (by omega) (if_pos (by omega)) ?_
    refine T_iconst 0 (am_dec tX12_lotOf_0 13 rfl) rfl ⟨by decide, by decide⟩ ?_
    refine T_ialoadE (x := c (96 + k.toNat) 0) (am_dec tX12_lotOf_0 14 rfl) (mr_lot hl (i := k) (by omega) (by omega)) (by omega) (by omega) rfl ?_
    refine T_aload_n (am_dec tX12_lotOf_0 15 rfl) rfl ?_
    refine T_getfield 11 23 (am_dec tX12_lotOf_0 16 rfl) flX12_61_11 (md_obj hl) rfl ?_
    refine T_iload_n (am_dec tX12_lotOf_0 17 rfl) rfl ?_
    refine T_aaloadR (r := b + (96 + k.toNat)) (am_dec tX12_lotOf_0 18 rfl) (by decide) (mh_lot hl) (by omega) (by omega) (if_pos (by omega)) ?_
    refine T_iconst 2 (am_dec tX12_lotOf_0 19 rfl) rfl ⟨by decide, by decide⟩ ?_
    refine T_ialoadE (x := c (96 + k.toNat) 2) (am_dec tX12_lotOf_0 20 rfl) (mr_lot hl (i := k) (by omega) (by omega)) (by omega) (by omega) rfl ?_
    refine T_callS (as := [aI x, aI (c (96 + k.toNat) 0), aI (c (96 + k.toNat) 2)]) rfl (am_dec tX12_lotOf_0 21 rfl) lkX12_194 rfl (Nat.le_of_ble_eq_true rfl) (by omega) (mk_in (d := d - 1)  x (c (96 + k.toNat) 0) (c (96 + k.toNat) 2)   ) (fun _ => ?_)
    refine T_nm (fun z29 hz29 => ?_)
    have hb29 := k_in_b x (c (96 + k.toNat) 0) (c (96 + k.toNat) 2)
    rw [← hz29] at hb29
    refine T_if_eq 60 (am_dec tX12_lotOf_0 22 rfl) rfl (fun h32 => ?_) (fun h32 => ?_)
    · refine T_iinc (ls' := [some (aR b), some (aI x), some (aI y), some (aI (k + 1))]) (k + 1) (am_dec tX12_lotOf_1 0 rfl) rfl rfl ⟨by omega, by omega⟩ (by decide) rfl ?_
      refine T_goto 2 (am_dec tX12_lotOf_1 1 rfl) rfl ?_
      have e9 : (p_k_lotOf_2 c x y) k = none := (by subst hz29; exact (if_pos h32))
      rw [am_find_n e9] at k9 kr9
      exact ih (k + 1) (by omega) (by omega) k9 kr9
    · refine T_iload_n (am_dec tX12_lotOf_0 23 rfl) rfl ?_
      refine T_aload_n (am_dec tX12_lotOf_0 24 rfl) rfl ?_
      refine T_getfield 11 23 (am_dec tX12_lotOf_0 25 rfl) flX12_61_11 (md_obj hl) rfl ?_
      refine T_iload_n (am_dec tX12_lotOf_0 26 rfl) rfl ?_
      refine T_aaloadR (r := b + (96 + k.toNat)) (am_dec tX12_lotOf_0 27 rfl) (by decide) (mh_lot hl) (by omega) (by omega) (if_pos (by omega)) ?_
      refine T_iconst 1 (am_dec tX12_lotOf_0 28 rfl) rfl ⟨by decide, by decide⟩ ?_
      refine T_ialoadE (x := c (96 + k.toNat) 1) (am_dec tX12_lotOf_0 29 rfl) (mr_lot hl (i := k) (by omega) (by omega)) (by omega) (by omega) rfl ?_
      refine T_aload_n (am_dec tX12_lotOf_0 30 rfl) rfl ?_
      refine T_getfield 11 23 (am_dec tX12_lotOf_0 31 rfl) flX12_61_11 (md_obj hl) rfl ?_
      refine T_iload_n (am_dec tX12_lotOf_0 32 rfl) rfl ?_
      refine T_aaloadR (r := b + (96 + k.toNat)) (am_dec tX12_lotOf_0 33 rfl) (by decide) (mh_lot hl) (by omega) (by omega) (if_pos (by omega)) ?_
      refine T_iconst 3 (am_dec tX12_lotOf_0 34 rfl) rfl ⟨by decide, by decide⟩ ?_
      refine T_ialoadE (x := c (96 + k.toNat) 3) (am_dec tX12_lotOf_0 35 rfl) (mr_lot hl (i := k) (by omega) (by omega)) (by omega) (by omega) rfl ?_
      refine T_callS (as := [aI y, aI (c (96 + k.toNat) 1), aI (c (96 + k.toNat) 3)]) rfl (am_dec tX12_lotOf_0 36 rfl) lkX12_194 rfl (Nat.le_of_ble_eq_true rfl) (by omega) (mk_in (d := d - 1)  y (c (96 + k.toNat) 1) (c (96 + k.toNat) 3)   ) (fun _ => ?_)
      refine T_nm (fun z52 hz52 => ?_)
      have hb52 := k_in_b y (c (96 + k.toNat) 1) (c (96 + k.toNat) 3)
      rw [← hz52] at hb52
      refine T_if_eq 60 (am_dec tX12_lotOf_0 37 rfl) rfl (fun h55 => ?_) (fun h55 => ?_)
      · refine T_iinc (ls' := [some (aR b), some (aI x), some (aI y), some (aI (k + 1))]) (k + 1) (am_dec tX12_lotOf_1 0 rfl) rfl rfl ⟨by omega, by omega⟩ (by decide) rfl ?_
        refine T_goto 2 (am_dec tX12_lotOf_1 1 rfl) rfl ?_
        have e9 : (p_k_lotOf_2 c x y) k = none := (by subst hz29; subst hz52; exact ((if_neg h32).trans (if_pos h55)))
        rw [am_find_n e9] at k9 kr9
        exact ih (k + 1) (by omega) (by omega) k9 kr9
      · refine T_iload_n (am_dec tX12_lotOf_0 38 rfl) rfl ?_
        exact T_ireturn (am_dec tX12_lotOf_0 39 rfl) rfl (kr9 _ (am_find_y (show (p_k_lotOf_2 c x y) k = some k from (by subst hz29; subst hz52; exact ((if_neg h32).trans (if_neg h55))))))
def k_lotOf (c : am_F) (x : Int) (y : Int) : Int := (Option.elim (am_find (p_k_lotOf_2 c x y) 0 (c 4 3).toNat) (-1) (fun r9 => r9))
theorem mk_lotOf {S : am_S} {d u : Nat} {w : AH} {b : Nat} (hl : b + 735 ≤ w.length) {c : am_F} {q : am_F} (x : Int) (y : Int) (hV : MdV c) (hd : 1 ≤ d) : am_Out S zX12_lotOf d u [aR b, aI x, aI y] (mdW w b c q) (.inl (some (aI (k_lotOf c x y)))) (mdW w b c q) := by
  have key : ∀ Q : AO → AH → Prop, Q (.inl (some (aI (k_lotOf c x y)))) (mdW w b c q) → am_M S zX12_lotOf d u [aR b, aI x, aI y] (mdW w b c q) Q := by
    intro Q hQ
    refine am_body rfl (by decide +kernel) rfl (am_cats_cons rfl ( am_cats_cons rfl ( am_cats_cons rfl (am_cats_nil)))) (Nat.le_of_ble_eq_true rfl) (?_ : am_T _ _ _ _ _ 0 [some (aR b), some (aI x), some (aI y), none] [] (mdW w b c q))
    obtain ⟨vl3, vu3⟩ := MdV_3 hV
    refine T_iconst 0 (am_dec tX12_lotOf_0 0 rfl) rfl ⟨by decide, by decide⟩ ?_
    refine T_istore_n (ls' := [some (aR b), some (aI x), some (aI y), some (aI 0)]) (am_dec tX12_lotOf_0 1 rfl) (by decide) rfl ?_
    refine L_k_lotOf_2 hl c q x y hV  (by omega) _ rfl (c 4 3).toNat 0  (by omega) (by omega) (fun hn2 => ?_) (fun r2 hr2 => (am_tr (fun x9 => Q (.inl (some (aI (x9)))) (mdW w b c q)) (y := r2) (show (k_lotOf c x y) = r2 from (am_el_s hr2)) hQ))
    refine T_iconst (-1) (am_dec tX12_lotOf_1 2 rfl) rfl ⟨by decide, by decide⟩ ?_
    exact T_ireturn (am_dec tX12_lotOf_1 3 rfl) rfl (am_tr (fun x9 => Q (.inl (some (aI (x9)))) (mdW w b c q)) (y := (-1)) (show (k_lotOf c x y) = (-1) from (am_el_n hn2)) hQ)
  exact key _ ⟨rfl, rfl⟩
def k_turned (wy : Int) : Int := (if wy = 0 then 1 else (if wy = 1 then 2 else (if wy = 2 then 12 else (if wy = 3 then wy else (if wy = 4 then wy else (if wy = 5 then wy else (if wy = 6 then wy else (if wy = 7 then wy else (if wy = 8 then wy else (if wy = 9 then wy else (if wy = 10 then 0 else (if wy = 11 then wy else (if wy = 12 then 22 else (if wy = 13 then wy else (if wy = 14 then wy else (if wy = 15 then wy else (if wy = 16 then wy else (if wy = 17 then wy else (if wy = 18 then wy else (if wy = 19 then wy else (if wy = 20 then 10 else (if wy = 21 then 20 else (if wy = 22 then 21 else wy)))))))))))))))))))))))
theorem mk_turned {S : am_S} {d u : Nat} {w : AH}  (wy : Int)   : am_Out S zX12_turned d u [aI wy] (w) (.inl (some (aI (k_turned wy)))) (w) := by
  have key : ∀ Q : AO → AH → Prop, Q (.inl (some (aI (k_turned wy)))) (w) → am_M S zX12_turned d u [aI wy] (w) Q := by
    intro Q hQ
    refine am_body rfl (by decide +kernel) rfl (am_cats_cons rfl (am_cats_nil)) (Nat.le_of_ble_eq_true rfl) (?_ : am_T _ _ _ _ _ 0 [some (aI wy)] [] (w))
    refine T_iload_n (am_dec tX12_turned_0 0 rfl) rfl ?_
    by_cases e1_0 : wy = 0
    · refine T_tableIn (off := 121) 122 (am_dec tX12_turned_0 1 rfl) (by omega) (by omega) (by rw [e1_0]; rfl) rfl ?_
      refine T_iconst 1 (am_dec tX12_turned_0 12 rfl) rfl ⟨by decide, by decide⟩ ?_
      exact T_ireturn (am_dec tX12_turned_0 13 rfl) rfl (am_tr (fun x9 => Q (.inl (some (aI (x9)))) (w)) (y := 1) (show (k_turned wy) = 1 from (if_pos e1_0)) hQ)
    by_cases e1_1 : wy = 1
    · refine T_tableIn (off := 123) 124 (am_dec tX12_turned_0 1 rfl) (by omega) (by omega) (by rw [e1_1]; rfl) rfl ?_
      refine T_iconst 2 (am_dec tX12_turned_0 14 rfl) rfl ⟨by decide, by decide⟩ ?_
      exact T_ireturn (am_dec tX12_turned_0 15 rfl) rfl (am_tr (fun x9 => Q (.inl (some (aI (x9)))) (w)) (y := 2) (show (k_turned wy) = 2 from ((if_neg e1_0).trans (if_pos e1_1))) hQ)
    by_cases e1_2 : wy = 2
    · refine T_tableIn (off := 125) 126 (am_dec tX12_turned_0 1 rfl) (by omega) (by omega) (by rw [e1_2]; rfl) rfl ?_
      refine T_bipush 12 (am_dec tX12_turned_0 16 rfl) rfl ⟨by decide, by decide⟩ ?_
      exact T_ireturn (am_dec tX12_turned_0 17 rfl) rfl (am_tr (fun x9 => Q (.inl (some (aI (x9)))) (w)) (y := 12) (show (k_turned wy) = 12 from ((if_neg e1_0).trans ((if_neg e1_1).trans (if_pos e1_2)))) hQ)
    by_cases e1_3 : wy = 3
    · refine T_tableIn (off := 128) 129 (am_dec tX12_turned_0 1 rfl) (by omega) (by omega) (by rw [e1_3]; rfl) rfl ?_
      refine T_iload_n (am_dec tX12_turned_0 18 rfl) rfl ?_
      exact T_ireturn (am_dec tX12_turned_0 19 rfl) rfl (am_tr (fun x9 => Q (.inl (some (aI (x9)))) (w)) (y := wy) (show (k_turned wy) = wy from ((if_neg e1_0).trans ((if_neg e1_1).trans ((if_neg e1_2).trans (if_pos e1_3))))) hQ)
    by_cases e1_4 : wy = 4
    · refine T_tableIn (off := 128) 129 (am_dec tX12_turned_0 1 rfl) (by omega) (by omega) (by rw [e1_4]; rfl) rfl ?_
      refine T_iload_n (am_dec tX12_turned_0 18 rfl) rfl ?_
      exact T_ireturn (am_dec tX12_turned_0 19 rfl) rfl (am_tr (fun x9 => Q (.inl (some (aI (x9)))) (w)) (y := wy) (show (k_turned wy) = wy from ((if_neg e1_0).trans ((if_neg e1_1).trans ((if_neg e1_2).trans ((if_neg e1_3).trans (if_pos e1_4)))))) hQ)
    by_cases e1_5 : wy = 5
    · refine T_tableIn (off := 128) 129 (am_dec tX12_turned_0 1 rfl) (by omega) (by omega) (by rw [e1_5]; rfl) rfl ?_
      refine T_iload_n (am_dec tX12_turned_0 18 rfl) rfl ?_
      exact T_ireturn (am_dec tX12_turned_0 19 rfl) rfl (am_tr (fun x9 => Q (.inl (some (aI (x9)))) (w)) (y := wy) (show (k_turned wy) = wy from ((if_neg e1_0).trans ((if_neg e1_1).trans ((if_neg e1_2).trans ((if_neg e1_3).trans ((if_neg e1_4).trans (if_pos e1_5))))))) hQ)
    by_cases e1_6 : wy = 6
    · refine T_tableIn (off := 128) 129 (am_dec tX12_turned_0 1 rfl) (by omega) (by omega) (by rw [e1_6]; rfl) rfl ?_
      refine T_iload_n (am_dec tX12_turned_0 18 rfl) rfl ?_
      exact T_ireturn (am_dec tX12_turned_0 19 rfl) rfl (am_tr (fun x9 => Q (.inl (some (aI (x9)))) (w)) (y := wy) (show (k_turned wy) = wy from ((if_neg e1_0).trans ((if_neg e1_1).trans ((if_neg e1_2).trans ((if_neg e1_3).trans ((if_neg e1_4).trans ((if_neg e1_5).trans (if_pos e1_6)))))))) hQ)
    by_cases e1_7 : wy = 7
    · refine T_tableIn (off := 128) 129 (am_dec tX12_turned_0 1 rfl) (by omega) (by omega) (by rw [e1_7]; rfl) rfl ?_
      refine T_iload_n (am_dec tX12_turned_0 18 rfl) rfl ?_
      exact T_ireturn (am_dec tX12_turned_0 19 rfl) rfl (am_tr (fun x9 => Q (.inl (some (aI (x9)))) (w)) (y := wy) (show (k_turned wy) = wy from ((if_neg e1_0).trans ((if_neg e1_1).trans ((if_neg e1_2).trans ((if_neg e1_3).trans ((if_neg e1_4).trans ((if_neg e1_5).trans ((if_neg e1_6).trans (if_pos e1_7))))))))) hQ)
    by_cases e1_8 : wy = 8
    · refine T_tableIn (off := 128) 129 (am_dec tX12_turned_0 1 rfl) (by omega) (by omega) (by rw [e1_8]; rfl) rfl ?_
      refine T_iload_n (am_dec tX12_turned_0 18 rfl) rfl ?_
      exact T_ireturn (am_dec tX12_turned_0 19 rfl) rfl (am_tr (fun x9 => Q (.inl (some (aI (x9)))) (w)) (y := wy) (show (k_turned wy) = wy from ((if_neg e1_0).trans ((if_neg e1_1).trans ((if_neg e1_2).trans ((if_neg e1_3).trans ((if_neg e1_4).trans ((if_neg e1_5).trans ((if_neg e1_6).trans ((if_neg e1_7).trans (if_pos e1_8)))))))))) hQ)
    by_cases e1_9 : wy = 9
    · refine T_tableIn (off := 128) 129 (am_dec tX12_turned_0 1 rfl) (by omega) (by omega) (by rw [e1_9]; rfl) rfl ?_
      refine T_iload_n (am_dec tX12_turned_0 18 rfl) rfl ?_
      exact T_ireturn (am_dec tX12_turned_0 19 rfl) rfl (am_tr (fun x9 => Q (.inl (some (aI (x9)))) (w)) (y := wy) (show (k_turned wy) = wy from ((if_neg e1_0).trans ((if_neg e1_1).trans ((if_neg e1_2).trans ((if_neg e1_3).trans ((if_neg e1_4).trans ((if_neg e1_5).trans ((if_neg e1_6).trans ((if_neg e1_7).trans ((if_neg e1_8).trans (if_pos e1_9))))))))))) hQ)
    by_cases e1_10 : wy = 10
    · refine T_tableIn (off := 119) 120 (am_dec tX12_turned_0 1 rfl) (by omega) (by omega) (by rw [e1_10]; rfl) rfl ?_
      refine T_iconst 0 (am_dec tX12_turned_0 10 rfl) rfl ⟨by decide, by decide⟩ ?_
      exact T_ireturn (am_dec tX12_turned_0 11 rfl) rfl (am_tr (fun x9 => Q (.inl (some (aI (x9)))) (w)) (y := 0) (show (k_turned wy) = 0 from ((if_neg e1_0).trans ((if_neg e1_1).trans ((if_neg e1_2).trans ((if_neg e1_3).trans ((if_neg e1_4).trans ((if_neg e1_5).trans ((if_neg e1_6).trans ((if_neg e1_7).trans ((if_neg e1_8).trans ((if_neg e1_9).trans (if_pos e1_10)))))))))))) hQ)
    by_cases e1_11 : wy = 11
    · refine T_tableIn (off := 128) 129 (am_dec tX12_turned_0 1 rfl) (by omega) (by omega) (by rw [e1_11]; rfl) rfl ?_
      refine T_iload_n (am_dec tX12_turned_0 18 rfl) rfl ?_
      exact T_ireturn (am_dec tX12_turned_0 19 rfl) rfl (am_tr (fun x9 => Q (.inl (some (aI (x9)))) (w)) (y := wy) (show (k_turned wy) = wy from ((if_neg e1_0).trans ((if_neg e1_1).trans ((if_neg e1_2).trans ((if_neg e1_3).trans ((if_neg e1_4).trans ((if_neg e1_5).trans ((if_neg e1_6).trans ((if_neg e1_7).trans ((if_neg e1_8).trans ((if_neg e1_9).trans ((if_neg e1_10).trans (if_pos e1_11))))))))))))) hQ)
    by_cases e1_12 : wy = 12
    · refine T_tableIn (off := 107) 108 (am_dec tX12_turned_0 1 rfl) (by omega) (by omega) (by rw [e1_12]; rfl) rfl ?_
      refine T_bipush 22 (am_dec tX12_turned_0 2 rfl) rfl ⟨by decide, by decide⟩ ?_
      exact T_ireturn (am_dec tX12_turned_0 3 rfl) rfl (am_tr (fun x9 => Q (.inl (some (aI (x9)))) (w)) (y := 22) (show (k_turned wy) = 22 from ((if_neg e1_0).trans ((if_neg e1_1).trans ((if_neg e1_2).trans ((if_neg e1_3).trans ((if_neg e1_4).trans ((if_neg e1_5).trans ((if_neg e1_6).trans ((if_neg e1_7).trans ((if_neg e1_8).trans ((if_neg e1_9).trans ((if_neg e1_10).trans ((if_neg e1_11).trans (if_pos e1_12)))))))))))))) hQ)
    by_cases e1_13 : wy = 13
    · refine T_tableIn (off := 128) 129 (am_dec tX12_turned_0 1 rfl) (by omega) (by omega) (by rw [e1_13]; rfl) rfl ?_
      refine T_iload_n (am_dec tX12_turned_0 18 rfl) rfl ?_
      exact T_ireturn (am_dec tX12_turned_0 19 rfl) rfl (am_tr (fun x9 => Q (.inl (some (aI (x9)))) (w)) (y := wy) (show (k_turned wy) = wy from ((if_neg e1_0).trans ((if_neg e1_1).trans ((if_neg e1_2).trans ((if_neg e1_3).trans ((if_neg e1_4).trans ((if_neg e1_5).trans ((if_neg e1_6).trans ((if_neg e1_7).trans ((if_neg e1_8).trans ((if_neg e1_9).trans ((if_neg e1_10).trans ((if_neg e1_11).trans ((if_neg e1_12).trans (if_pos e1_13))))))))))))))) hQ)
    by_cases e1_14 : wy = 14
    · refine T_tableIn (off := 128) 129 (am_dec tX12_turned_0 1 rfl) (by omega) (by omega) (by rw [e1_14]; rfl) rfl ?_
      refine T_iload_n (am_dec tX12_turned_0 18 rfl) rfl ?_
      exact T_ireturn (am_dec tX12_turned_0 19 rfl) rfl (am_tr (fun x9 => Q (.inl (some (aI (x9)))) (w)) (y := wy) (show (k_turned wy) = wy from ((if_neg e1_0).trans ((if_neg e1_1).trans ((if_neg e1_2).trans ((if_neg e1_3).trans ((if_neg e1_4).trans ((if_neg e1_5).trans ((if_neg e1_6).trans ((if_neg e1_7).trans ((if_neg e1_8).trans ((if_neg e1_9).trans ((if_neg e1_10).trans ((if_neg e1_11).trans ((if_neg e1_12).trans ((if_neg e1_13).trans (if_pos e1_14)))))))))))))))) hQ)
    by_cases e1_15 : wy = 15
    · refine T_tableIn (off := 128) 129 (am_dec tX12_turned_0 1 rfl) (by omega) (by omega) (by rw [e1_15]; rfl) rfl ?_
      refine T_iload_n (am_dec tX12_turned_0 18 rfl) rfl ?_
      exact T_ireturn (am_dec tX12_turned_0 19 rfl) rfl (am_tr (fun x9 => Q (.inl (some (aI (x9)))) (w)) (y := wy) (show (k_turned wy) = wy from ((if_neg e1_0).trans ((if_neg e1_1).trans ((if_neg e1_2).trans ((if_neg e1_3).trans ((if_neg e1_4).trans ((if_neg e1_5).trans ((if_neg e1_6).trans ((if_neg e1_7).trans ((if_neg e1_8).trans ((if_neg e1_9).trans ((if_neg e1_10).trans ((if_neg e1_11).trans ((if_neg e1_12).trans ((if_neg e1_13).trans ((if_neg e1_14).trans (if_pos e1_15))))))))))))))))) hQ)
    by_cases e1_16 : wy = 16
    · refine T_tableIn (off := 128) 129 (am_dec tX12_turned_0 1 rfl) (by omega) (by omega) (by rw [e1_16]; rfl) rfl ?_
      refine T_iload_n (am_dec tX12_turned_0 18 rfl) rfl ?_
      exact T_ireturn (am_dec tX12_turned_0 19 rfl) rfl (am_tr (fun x9 => Q (.inl (some (aI (x9)))) (w)) (y := wy) (show (k_turned wy) = wy from ((if_neg e1_0).trans ((if_neg e1_1).trans ((if_neg e1_2).trans ((if_neg e1_3).trans ((if_neg e1_4).trans ((if_neg e1_5).trans ((if_neg e1_6).trans ((if_neg e1_7).trans ((if_neg e1_8).trans ((if_neg e1_9).trans ((if_neg e1_10).trans ((if_neg e1_11).trans ((if_neg e1_12).trans ((if_neg e1_13).trans ((if_neg e1_14).trans ((if_neg e1_15).trans (if_pos e1_16)))))))))))))))))) hQ)
    by_cases e1_17 : wy = 17
    · refine T_tableIn (off := 128) 129 (am_dec tX12_turned_0 1 rfl) (by omega) (by omega) (by rw [e1_17]; rfl) rfl ?_
      refine T_iload_n (am_dec tX12_turned_0 18 rfl) rfl ?_
      exact T_ireturn (am_dec tX12_turned_0 19 rfl) rfl (am_tr (fun x9 => Q (.inl (some (aI (x9)))) (w)) (y := wy) (show (k_turned wy) = wy from ((if_neg e1_0).trans ((if_neg e1_1).trans ((if_neg e1_2).trans ((if_neg e1_3).trans ((if_neg e1_4).trans ((if_neg e1_5).trans ((if_neg e1_6).trans ((if_neg e1_7).trans ((if_neg e1_8).trans ((if_neg e1_9).trans ((if_neg e1_10).trans ((if_neg e1_11).trans ((if_neg e1_12).trans ((if_neg e1_13).trans ((if_neg e1_14).trans ((if_neg e1_15).trans ((if_neg e1_16).trans (if_pos e1_17))))))))))))))))))) hQ)
    by_cases e1_18 : wy = 18
    · refine T_tableIn (off := 128) 129 (am_dec tX12_turned_0 1 rfl) (by omega) (by omega) (by rw [e1_18]; rfl) rfl ?_
      refine T_iload_n (am_dec tX12_turned_0 18 rfl) rfl ?_
      exact T_ireturn (am_dec tX12_turned_0 19 rfl) rfl (am_tr (fun x9 => Q (.inl (some (aI (x9)))) (w)) (y := wy) (show (k_turned wy) = wy from ((if_neg e1_0).trans ((if_neg e1_1).trans ((if_neg e1_2).trans ((if_neg e1_3).trans ((if_neg e1_4).trans ((if_neg e1_5).trans ((if_neg e1_6).trans ((if_neg e1_7).trans ((if_neg e1_8).trans ((if_neg e1_9).trans ((if_neg e1_10).trans ((if_neg e1_11).trans ((if_neg e1_12).trans ((if_neg e1_13).trans ((if_neg e1_14).trans ((if_neg e1_15).trans ((if_neg e1_16).trans ((if_neg e1_17).trans (if_pos e1_18)))))))))))))))))))) hQ)
    by_cases e1_19 : wy = 19
    · refine T_tableIn (off := 128) 129 (am_dec tX12_turned_0 1 rfl) (by omega) (by omega) (by rw [e1_19]; rfl) rfl ?_
      refine T_iload_n (am_dec tX12_turned_0 18 rfl) rfl ?_
      exact T_ireturn (am_dec tX12_turned_0 19 rfl) rfl (am_tr (fun x9 => Q (.inl (some (aI (x9)))) (w)) (y := wy) (show (k_turned wy) = wy from ((if_neg e1_0).trans ((if_neg e1_1).trans ((if_neg e1_2).trans ((if_neg e1_3).trans ((if_neg e1_4).trans ((if_neg e1_5).trans ((if_neg e1_6).trans ((if_neg e1_7).trans ((if_neg e1_8).trans ((if_neg e1_9).trans ((if_neg e1_10).trans ((if_neg e1_11).trans ((if_neg e1_12).trans ((if_neg e1_13).trans ((if_neg e1_14).trans ((if_neg e1_15).trans ((if_neg e1_16).trans ((if_neg e1_17).trans ((if_neg e1_18).trans (if_pos e1_19))))))))))))))))))))) hQ)
    by_cases e1_20 : wy = 20
    · refine T_tableIn (off := 116) 117 (am_dec tX12_turned_0 1 rfl) (by omega) (by omega) (by rw [e1_20]; rfl) rfl ?_
      refine T_bipush 10 (am_dec tX12_turned_0 8 rfl) rfl ⟨by decide, by decide⟩ ?_
      exact T_ireturn (am_dec tX12_turned_0 9 rfl) rfl (am_tr (fun x9 => Q (.inl (some (aI (x9)))) (w)) (y := 10) (show (k_turned wy) = 10 from ((if_neg e1_0).trans ((if_neg e1_1).trans ((if_neg e1_2).trans ((if_neg e1_3).trans ((if_neg e1_4).trans ((if_neg e1_5).trans ((if_neg e1_6).trans ((if_neg e1_7).trans ((if_neg e1_8).trans ((if_neg e1_9).trans ((if_neg e1_10).trans ((if_neg e1_11).trans ((if_neg e1_12).trans ((if_neg e1_13).trans ((if_neg e1_14).trans ((if_neg e1_15).trans ((if_neg e1_16).trans ((if_neg e1_17).trans ((if_neg e1_18).trans ((if_neg e1_19).trans (if_pos e1_20)))))))))))))))))))))) hQ)
    by_cases e1_21 : wy = 21
    · refine T_tableIn (off := 113) 114 (am_dec tX12_turned_0 1 rfl) (by omega) (by omega) (by rw [e1_21]; rfl) rfl ?_
      refine T_bipush 20 (am_dec tX12_turned_0 6 rfl) rfl ⟨by decide, by decide⟩ ?_
      exact T_ireturn (am_dec tX12_turned_0 7 rfl) rfl (am_tr (fun x9 => Q (.inl (some (aI (x9)))) (w)) (y := 20) (show (k_turned wy) = 20 from ((if_neg e1_0).trans ((if_neg e1_1).trans ((if_neg e1_2).trans ((if_neg e1_3).trans ((if_neg e1_4).trans ((if_neg e1_5).trans ((if_neg e1_6).trans ((if_neg e1_7).trans ((if_neg e1_8).trans ((if_neg e1_9).trans ((if_neg e1_10).trans ((if_neg e1_11).trans ((if_neg e1_12).trans ((if_neg e1_13).trans ((if_neg e1_14).trans ((if_neg e1_15).trans ((if_neg e1_16).trans ((if_neg e1_17).trans ((if_neg e1_18).trans ((if_neg e1_19).trans ((if_neg e1_20).trans (if_pos e1_21))))))))))))))))))))))) hQ)
    by_cases e1_22 : wy = 22
    · refine T_tableIn (off := 110) 111 (am_dec tX12_turned_0 1 rfl) (by omega) (by omega) (by rw [e1_22]; rfl) rfl ?_
      refine T_bipush 21 (am_dec tX12_turned_0 4 rfl) rfl ⟨by decide, by decide⟩ ?_
      exact T_ireturn (am_dec tX12_turned_0 5 rfl) rfl (am_tr (fun x9 => Q (.inl (some (aI (x9)))) (w)) (y := 21) (show (k_turned wy) = 21 from ((if_neg e1_0).trans ((if_neg e1_1).trans ((if_neg e1_2).trans ((if_neg e1_3).trans ((if_neg e1_4).trans ((if_neg e1_5).trans ((if_neg e1_6).trans ((if_neg e1_7).trans ((if_neg e1_8).trans ((if_neg e1_9).trans ((if_neg e1_10).trans ((if_neg e1_11).trans ((if_neg e1_12).trans ((if_neg e1_13).trans ((if_neg e1_14).trans ((if_neg e1_15).trans ((if_neg e1_16).trans ((if_neg e1_17).trans ((if_neg e1_18).trans ((if_neg e1_19).trans ((if_neg e1_20).trans ((if_neg e1_21).trans (if_pos e1_22)))))))))))))))))))))))) hQ)
    refine T_tableOut 129 (am_dec tX12_turned_0 1 rfl) (by omega) rfl ?_
    refine T_iload_n (am_dec tX12_turned_0 18 rfl) rfl ?_
    exact T_ireturn (am_dec tX12_turned_0 19 rfl) rfl (am_tr (fun x9 => Q (.inl (some (aI (x9)))) (w)) (y := wy) (show (k_turned wy) = wy from ((if_neg e1_0).trans ((if_neg e1_1).trans ((if_neg e1_2).trans ((if_neg e1_3).trans ((if_neg e1_4).trans ((if_neg e1_5).trans ((if_neg e1_6).trans ((if_neg e1_7).trans ((if_neg e1_8).trans ((if_neg e1_9).trans ((if_neg e1_10).trans ((if_neg e1_11).trans ((if_neg e1_12).trans ((if_neg e1_13).trans ((if_neg e1_14).trans ((if_neg e1_15).trans ((if_neg e1_16).trans ((if_neg e1_17).trans ((if_neg e1_18).trans ((if_neg e1_19).trans ((if_neg e1_20).trans ((if_neg e1_21).trans (if_neg e1_22)))))))))))))))))))))))) hQ)
  exact key _ ⟨rfl, rfl⟩
