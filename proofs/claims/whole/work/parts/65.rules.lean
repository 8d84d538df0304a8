/-! the model: sales by a rule -/
def g_k_rules_16  (bst : Int) (q : am_F) : am_F := (am_put (am_put q 732 bst.toNat 0) 733 bst.toNat 0)
theorem L_k_rules_16 {S : am_S} {d u : Nat} {Q : AO → AH → Prop} {w : AH} {b : Nat} (hl : b + 735 ≤ w.length) (c : am_F) (k : Int) (t : Int) (left : Int) (there : Int) (hV : MdV c) (hL : MdL c) (hB9 : MdB c) (hP9 : MdP c) (hk : 0 ≤ k ∧ k < c 4 3) (ht : -1 ≤ t ∧ t < 40)  (hd : 3 ≤ d) (B9 : Int) (hB : B9 = c 0 30) : ∀ (n : Nat) (bst : Int) (q : am_F), bst + n = B9 → 0 ≤ bst → (∀ (q' : am_F), q' = am_fold (g_k_rules_16) bst n q → am_T S zX12_rules d u Q 47 [some (aR b), some (aI k), some (aI t), some (aI there), some (aI left), some (aI 0), none, none, none] [] (mdW w b c q')) → am_T S zX12_rules d u Q 16 [some (aR b), some (aI k), some (aI t), some (aI there), some (aI left), some (aI 0), some (aI bst), none, none] [] (mdW w b c q) := by
  intro n
  induction n with
  | zero =>
    intro bst q hi9 h0i k9
    have e9 : bst = B9 := by omega
    subst e9
    obtain ⟨vl0, vu0⟩ := MdV_0 hV
    obtain ⟨vl1, vu1⟩ := MdV_1 hV
    obtain ⟨vl3, vu3⟩ := MdV_3 hV
    obtain ⟨vl12, vu12⟩ := MdV_12 hV
    refine T_iload (am_dec tX12_rules_0 11 rfl) rfl ?_
    refine T_aload_n (am_dec tX12_rules_0 12 rfl) rfl ?_
    refine T_getfield 11 30 (am_dec tX12_rules_0 13 rfl) flX12_292_11 (md_obj hl) rfl ?_
    refine T_icmp_ge 47 (am_dec tX12_rules_0 14 rfl) rfl (fun h22 => ?_) (fun h22 => by exfalso; omega)
    refine T_weak (ls' := [some (aR b), some (aI k), some (aI t), some (aI there), some (aI left), some (aI 0), none, none, none]) (am_sub_s (am_sub_s (am_sub_s (am_sub_s (am_sub_s (am_sub_s (am_sub_n (am_sub_n (am_sub_n am_sub_nil))))))))) ?_
    exact k9 q rfl
  | succ n ih =>
    intro bst q hi9 h0i k9
    obtain ⟨vl0, vu0⟩ := MdV_0 hV
    obtain ⟨vl1, vu1⟩ := MdV_1 hV
    obtain ⟨vl3, vu3⟩ := MdV_3 hV
    obtain ⟨vl12, vu12⟩ := MdV_12 hV
    refine T_iload (am_dec tX12_rules_0 11 rfl) rfl ?_
    refine T_aload_n (am_dec tX12_rules_0 12 rfl) rfl ?_
    refine T_getfield 11 30 (am_dec tX12_rules_0 13 rfl) flX12_292_11 (md_obj hl) rfl ?_
    refine T_icmp_ge 47 (am_dec tX12_rules_0 14 rfl) rfl (fun h22 => by exfalso; omega) (fun h22 => ?_)
    refine T_aload_n (am_dec tX12_rules_0 15 rfl) rfl ?_
    refine T_getfield 11 65 (am_dec tX12_rules_0 16 rfl) flX12_145_11 (md_obj hl) rfl ?_
    refine T_iload (am_dec tX12_rules_0 17 rfl) rfl ?_
    refine T_iconst 0 (am_dec tX12_rules_0 18 rfl) rfl ⟨by decide, by decide⟩ ?_
    refine T_iastore (am_dec tX12_rules_0 19 rfl) (md_got hl) (by omega) (by omega) ?_
    refine am_wE (w2 := mdW w b c (am_put q 732 bst.toNat 0)) (md_pq (Nat.le_of_ble_eq_true rfl) (fun _ _ => rfl)) ?_
    refine T_aload_n (am_dec tX12_rules_0 20 rfl) rfl ?_
    refine T_getfield 11 66 (am_dec tX12_rules_0 21 rfl) flX12_148_11 (md_obj hl) rfl ?_
    refine T_iload (am_dec tX12_rules_0 22 rfl) rfl ?_
    refine T_iconst 0 (am_dec tX12_rules_0 23 rfl) rfl ⟨by decide, by decide⟩ ?_
    refine T_iastore (am_dec tX12_rules_0 24 rfl) (md_paid hl) (by omega) (by omega) ?_
    refine am_wE (w2 := mdW w b c (am_put (am_put q 732 bst.toNat 0) 733 bst.toNat 0)) (md_pq (Nat.le_of_ble_eq_true rfl) (fun _ _ => rfl)) ?_
    refine T_iinc (ls' := [some (aR b), some (aI k), some (aI t), some (aI there), some (aI left), some (aI 0), some (aI (bst + 1)), none, none]) (bst + 1) (am_dec tX12_rules_0 25 rfl) rfl rfl ⟨by omega, by omega⟩ (by decide) rfl ?_
    refine T_goto 16 (am_dec tX12_rules_0 26 rfl) rfl ?_
    have e9 : (g_k_rules_16) bst q = (am_put (am_put q 732 bst.toNat 0) 733 bst.toNat 0) := rfl
    simp only [am_fold_s, e9] at k9
    exact ih (bst + 1) (am_put (am_put q 732 bst.toNat 0) 733 bst.toNat 0) (by omega) (by omega) k9
def g_k_rules_53 (c : am_F) (k : Int) (t : Int) (dn : Int) (there : Int) (i : Int) (x9 : Int × am_F) : Int × am_F := let bst := x9.1; let q := x9.2; (let bst_69 : Int := (if am_iand (am_ishr dn i) 1 = 0 then (if c (133 + i.toNat) 0 = k then (let u90 : Int × am_F := k_isLet c q i t there; (if (u90).1 = 0 then bst else (if bst = (-1) then i else (let u107 : Int × am_F := k_firstOf c ((u90).2) i t there; (let u115 : Int × am_F := k_firstOf c ((u107).2) bst t there; (if (u107).1 ≤ (u115).1 then bst else i)))))) else bst) else bst); (let q69 : am_F := (if am_iand (am_ishr dn i) 1 = 0 then (if c (133 + i.toNat) 0 = k then (let u90 : Int × am_F := k_isLet c q i t there; (if (u90).1 = 0 then ((u90).2) else (if bst = (-1) then ((u90).2) else (let u107 : Int × am_F := k_firstOf c ((u90).2) i t there; (let u115 : Int × am_F := k_firstOf c ((u107).2) bst t there; ((u115).2)))))) else q) else q); (bst_69, q69)))
theorem L_k_rules_53 {S : am_S} {d u : Nat} {Q : AO → AH → Prop} {w : AH} {b : Nat} (hl : b + 735 ≤ w.length) (c : am_F) (k : Int) (t : Int) (dn : Int) (left : Int) (there : Int) (hV : MdV c) (hL : MdL c) (hB9 : MdB c) (hP9 : MdP c) (hk : 0 ≤ k ∧ k < c 4 3) (ht : -1 ≤ t ∧ t < 40)  (hd : 3 ≤ d) (B9 : Int) (hB : B9 = c 0 30) : ∀ (n : Nat) (i : Int) (bst : Int) (q : am_F), i + n = B9 → 0 ≤ i → bst = -1 ∨ (0 ≤ bst ∧ bst < i ∧ am_bit dn bst = 0) → (∀ (bst' : Int) (q' : am_F), bst' = (am_fold (g_k_rules_53 c k t dn there) i n (bst, q)).1 → q' = (am_fold (g_k_rules_53 c k t dn there) i n (bst, q)).2 → bst' = -1 ∨ (0 ≤ bst' ∧ bst' < B9 ∧ am_bit dn bst' = 0) → am_T S zX12_rules d u Q 131 [some (aR b), some (aI k), some (aI t), some (aI there), some (aI left), some (aI dn), some (aI bst'), none, none] [] (mdW w b c q')) → am_T S zX12_rules d u Q 53 [some (aR b), some (aI k), some (aI t), some (aI there), some (aI left), some (aI dn), some (aI bst), some (aI i), none] [] (mdW w b c q) := by
  intro n
  induction n with
  | zero =>
    intro i bst q hi9 h0i hinv k9
    have e9 : i = B9 := by omega
    subst e9
    obtain ⟨vl0, vu0⟩ := MdV_0 hV
    obtain ⟨vl1, vu1⟩ := MdV_1 hV
    obtain ⟨vl3, vu3⟩ := MdV_3 hV
    obtain ⟨vl12, vu12⟩ := MdV_12 hV
    refine T_iload (am_dec tX12_rules_0 31 rfl) rfl ?_
    refine T_aload_n (am_dec tX12_rules_0 32 rfl) rfl ?_
    refine T_getfield 11 30 (am_dec tX12_rules_0 33 rfl) flX12_292_11 (md_obj hl) rfl ?_
    refine T_icmp_ge 131 (am_dec tX12_rules_0 34 rfl) rfl (fun h59 => ?_) (fun h59 => by exfalso; omega)
    refine T_weak (ls' := [some (aR b), some (aI k), some (aI t), some (aI there), some (aI left), some (aI dn), some (aI bst), none, none]) (am_sub_s (am_sub_s (am_sub_s (am_sub_s (am_sub_s (am_sub_s (am_sub_s (am_sub_n (am_sub_n am_sub_nil))))))))) ?_
    exact k9 bst q rfl rfl hinv
  | succ n ih =>
    intro i bst q hi9 h0i hinv k9
    obtain ⟨vl0, vu0⟩ := MdV_0 hV
    obtain ⟨vl1, vu1⟩ := MdV_1 hV
    obtain ⟨vl3, vu3⟩ := MdV_3 hV
    obtain ⟨vl12, vu12⟩ := MdV_12 hV
    refine T_iload (am_dec tX12_rules_0 31 rfl) rfl ?_
    refine T_aload_n (am_dec tX12_rules_0 32 rfl) rfl ?_
    refine T_getfield 11 30 (am_dec tX12_rules_0 33 rfl) flX12_292_11 (md_obj hl) rfl ?_
    refine T_icmp_ge 131 (am_dec tX12_rules_0 34 rfl) rfl (fun h59 => by exfalso; omega) (fun h59 => ?_)
    refine T_iload (am_dec tX12_rules_0 35 rfl) rfl ?_
    refine T_iload (am_dec tX12_rules_0 36 rfl) rfl ?_
    refine T_ishr (am_ishr dn i) (am_dec tX12_rules_0 37 rfl) (am_w32e _).symm (am_w32r _) ?_
    refine T_iconst 1 (am_dec tX12_rules_0 38 rfl) rfl ⟨by decide, by decide⟩ ?_
    refine T_iand (am_iand (am_ishr dn i) 1) (am_dec tX12_rules_0 39 rfl) (am_w32e _).symm (am_w32r _) ?_
    have K69 : ∀ (bst_69 : Int), ∀ (q69 : am_F), bst_69 = (if am_iand (am_ishr dn i) 1 = 0 then (if c (133 + i.toNat) 0 = k then (let u90 : Int × am_F := k_isLet c q i t there; (if (u90).1 = 0 then bst else (if bst = (-1) then i else (let u107 : Int × am_F := k_firstOf c ((u90).2) i t there; (let u115 : Int × am_F := k_firstOf c ((u107).2) bst t there; (if (u107).1 ≤ (u115).1 then bst else i)))))) else bst) else bst) → q69 = (if am_iand (am_ishr dn i) 1 = 0 then (if c (133 + i.toNat) 0 = k then (let u90 : Int × am_F := k_isLet c q i t there; (if (u90).1 = 0 then ((u90).2) else (if bst = (-1) then ((u90).2) else (let u107 : Int × am_F := k_firstOf c ((u90).2) i t there; (let u115 : Int × am_F := k_firstOf c ((u107).2) bst t there; ((u115).2)))))) else q) else q) →  am_T S zX12_rules d u Q 125 [some (aR b), some (aI k), some (aI t), some (aI there), some (aI left), some (aI dn), some (aI bst_69), some (aI i), none] [] (mdW w b c q69) := by
      intro bst_69 q69 hbst_69 hq69
      have hxbst_69 := hbst_69
      dsimp only at hxbst_69
      refine T_iinc (ls' := [some (aR b), some (aI k), some (aI t), some (aI there), some (aI left), some (aI dn), some (aI bst_69), some (aI (i + 1)), none]) (i + 1) (am_dec tX12_rules_1 31 rfl) rfl rfl ⟨by omega, by omega⟩ (by decide) rfl ?_
      refine T_goto 53 (am_dec tX12_rules_1 32 rfl) rfl ?_
      have e9 : (g_k_rules_53 c k t dn there) i (bst, q) = (bst_69, q69) := (by have s9 := hbst_69.symm; subst s9; have s9 := hq69.symm; subst s9; exact rfl)
      simp only [am_fold_s, e9] at k9
      exact ih (i + 1) bst_69 q69 (by omega) (by omega) (by rw [hbst_69]; dsimp only; (repeat' split) <;> first | (right; exact ⟨by omega, by omega, by assumption⟩) | (rcases hinv with h9 | ⟨h7, h8, h6⟩ <;> first | (left; exact h9) | (right; exact ⟨h7, by omega, h6⟩))) k9
    refine T_if_ne 125 (am_dec tX12_rules_1 0 rfl) rfl (fun h69 => ?_) (fun h69 => ?_)
    · exact K69 _ _ (if_neg h69).symm (if_neg h69).symm
    · refine T_aload_n (am_dec tX12_rules_1 1 rfl) rfl ?_
      refine T_getfield 11 34 (am_dec tX12_rules_1 2 rfl) flX12_82_11 (md_obj hl) rfl ?_
      refine T_iload (am_dec tX12_rules_1 3 rfl) rfl ?_
      refine T_aaloadR (r := b + (133 + i.toNat)) (am_dec tX12_rules_1 4 rfl) (by decide) (mh_bid hl) (by omega) (by omega) (if_pos (by omega)) ?_
      refine T_iconst 0 (am_dec tX12_rules_1 5 rfl) rfl ⟨by decide, by decide⟩ ?_
      refine T_ialoadE (x := c (133 + i.toNat) 0) (am_dec tX12_rules_1 6 rfl) (mr_bid hl (i := i) (by omega) (by omega)) (by omega) (by omega) rfl ?_
      refine T_iload_n (am_dec tX12_rules_1 7 rfl) rfl ?_
      have K82 : ∀ (bst_82 : Int), ∀ (q82 : am_F), bst_82 = (if c (133 + i.toNat) 0 = k then (let u90 : Int × am_F := k_isLet c q i t there; (if (u90).1 = 0 then bst else (if bst = (-1) then i else (let u107 : Int × am_F := k_firstOf c ((u90).2) i t there; (let u115 : Int × am_F := k_firstOf c ((u107).2) bst t there; (if (u107).1 ≤ (u115).1 then bst else i)))))) else bst) → q82 = (if c (133 + i.toNat) 0 = k then (let u90 : Int × am_F := k_isLet c q i t there; (if (u90).1 = 0 then ((u90).2) else (if bst = (-1) then ((u90).2) else (let u107 : Int × am_F := k_firstOf c ((u90).2) i t there; (let u115 : Int × am_F := k_firstOf c ((u107).2) bst t there; ((u115).2)))))) else q) →  am_T S zX12_rules d u Q 125 [some (aR b), some (aI k), some (aI t), some (aI there), some (aI left), some (aI dn), some (aI bst_82), some (aI i), none] [] (mdW w b c q82) := by
        intro bst_82 q82 hbst_82 hq82
        have hxbst_82 := hbst_82
        dsimp only at hxbst_82
        exact K69 _ _ (by have s9 := hbst_82.symm; subst s9; have s9 := hq82.symm; subst s9; exact (if_pos h69).symm) (by have s9 := hbst_82.symm; subst s9; have s9 := hq82.symm; subst s9; exact (if_pos h69).symm)
      refine T_icmp_ne 125 (am_dec tX12_rules_1 8 rfl) rfl (fun h82 => ?_) (fun h82 => ?_)
      · exact K82 _ _ (if_neg h82).symm (if_neg h82).symm
      · refine T_aload_n (am_dec tX12_rules_1 9 rfl) rfl ?_
        refine T_iload (am_dec tX12_rules_1 10 rfl) rfl ?_
        refine T_iload_n (am_dec tX12_rules_1 11 rfl) rfl ?_
        refine T_iload_n (am_dec tX12_rules_1 12 rfl) rfl ?_
        refine T_callV (as := [aI i, aI t, aI there]) rfl (am_dec tX12_rules_1 13 rfl) lkX12_509 (md_obj hl) rfl rfl (Nat.le_of_ble_eq_true rfl) (by omega) (mk_isLet (d := d - 1) hl i t there  hV hB9 hL hP9 (by omega) (by omega)) (fun _ => ?_)
        obtain ⟨u90, hu90⟩ : ∃ x9, x9 = k_isLet c q i t there := ⟨_, rfl⟩
        rw [← hu90]
        have K93 : ∀ (bst_93 : Int), ∀ (q93 : am_F), bst_93 = (if (u90).1 = 0 then bst else (if bst = (-1) then i else (let u107 : Int × am_F := k_firstOf c ((u90).2) i t there; (let u115 : Int × am_F := k_firstOf c ((u107).2) bst t there; (if (u107).1 ≤ (u115).1 then bst else i))))) → q93 = (if (u90).1 = 0 then ((u90).2) else (if bst = (-1) then ((u90).2) else (let u107 : Int × am_F := k_firstOf c ((u90).2) i t there; (let u115 : Int × am_F := k_firstOf c ((u107).2) bst t there; ((u115).2))))) →  am_T S zX12_rules d u Q 125 [some (aR b), some (aI k), some (aI t), some (aI there), some (aI left), some (aI dn), some (aI bst_93), some (aI i), none] [] (mdW w b c q93) := by
          intro bst_93 q93 hbst_93 hq93
          have hxbst_93 := hbst_93
          dsimp only at hxbst_93
          exact K82 _ _ (by have s9 := hu90.symm; subst s9; have s9 := hbst_93.symm; subst s9; have s9 := hq93.symm; subst s9; exact (if_pos h82).symm) (by have s9 := hu90.symm; subst s9; have s9 := hbst_93.symm; subst s9; have s9 := hq93.symm; subst s9; exact (if_pos h82).symm)
        refine T_if_eq 125 (am_dec tX12_rules_1 14 rfl) rfl (fun h93 => ?_) (fun h93 => ?_)
        · exact K93 _ _ (if_pos h93).symm (if_pos h93).symm
        · refine T_iload (am_dec tX12_rules_1 15 rfl) rfl ?_
          refine T_iconst (-1) (am_dec tX12_rules_1 16 rfl) rfl ⟨by decide, by decide⟩ ?_
          have K99 : ∀ (bst_99 : Int), ∀ (q99 : am_F), bst_99 = (if bst = (-1) then i else (let u107 : Int × am_F := k_firstOf c ((u90).2) i t there; (let u115 : Int × am_F := k_firstOf c ((u107).2) bst t there; (if (u107).1 ≤ (u115).1 then bst else i)))) → q99 = (if bst = (-1) then ((u90).2) else (let u107 : Int × am_F := k_firstOf c ((u90).2) i t there; (let u115 : Int × am_F := k_firstOf c ((u107).2) bst t there; ((u115).2)))) →  am_T S zX12_rules d u Q 125 [some (aR b), some (aI k), some (aI t), some (aI there), some (aI left), some (aI dn), some (aI bst_99), some (aI i), none] [] (mdW w b c q99) := by
            intro bst_99 q99 hbst_99 hq99
            have hxbst_99 := hbst_99
            dsimp only at hxbst_99
            exact K93 _ _ (by have s9 := hbst_99.symm; subst s9; have s9 := hq99.symm; subst s9; exact (if_neg h93).symm) (by have s9 := hbst_99.symm; subst s9; have s9 := hq99.symm; subst s9; exact (if_neg h93).symm)
          refine T_icmp_eq 121 (am_dec tX12_rules_1 17 rfl) rfl (fun h99 => ?_) (fun h99 => ?_)
          · refine T_iload (am_dec tX12_rules_1 29 rfl) rfl ?_
            refine T_istore (ls' := [some (aR b), some (aI k), some (aI t), some (aI there), some (aI left), some (aI dn), some (aI i), some (aI i), none]) (am_dec tX12_rules_1 30 rfl) (by decide) rfl ?_
            exact K99 _ _ (if_pos h99).symm (if_pos h99).symm
          · refine T_aload_n (am_dec tX12_rules_1 18 rfl) rfl ?_
            refine T_iload (am_dec tX12_rules_1 19 rfl) rfl ?_
            refine T_iload_n (am_dec tX12_rules_1 20 rfl) rfl ?_
            refine T_iload_n (am_dec tX12_rules_1 21 rfl) rfl ?_
            refine T_callV (as := [aI i, aI t, aI there]) rfl (am_dec tX12_rules_1 22 rfl) lkX12_512 (md_obj hl) rfl rfl (Nat.le_of_ble_eq_true rfl) (by omega) (mk_firstOf (d := d - 1) hl i t there  hV hB9 hL hP9 (by omega) (by omega)) (fun _ => ?_)
            obtain ⟨u107, hu107⟩ : ∃ x9, x9 = k_firstOf c ((u90).2) i t there := ⟨_, rfl⟩
            rw [← hu107]
            refine T_aload_n (am_dec tX12_rules_1 23 rfl) rfl ?_
            refine T_iload (am_dec tX12_rules_1 24 rfl) rfl ?_
            refine T_iload_n (am_dec tX12_rules_1 25 rfl) rfl ?_
            refine T_iload_n (am_dec tX12_rules_1 26 rfl) rfl ?_
            refine T_callV (as := [aI bst, aI t, aI there]) rfl (am_dec tX12_rules_1 27 rfl) lkX12_512 (md_obj hl) rfl rfl (Nat.le_of_ble_eq_true rfl) (by omega) (mk_firstOf (d := d - 1) hl bst t there  hV hB9 hL hP9 (by omega) (by omega)) (fun _ => ?_)
            obtain ⟨u115, hu115⟩ : ∃ x9, x9 = k_firstOf c ((u107).2) bst t there := ⟨_, rfl⟩
            rw [← hu115]
            have K118 : ∀ (bst_118 : Int), bst_118 = (if (u107).1 ≤ (u115).1 then bst else i) →  am_T S zX12_rules d u Q 125 [some (aR b), some (aI k), some (aI t), some (aI there), some (aI left), some (aI dn), some (aI bst_118), some (aI i), none] [] (mdW w b c (u115).2) := by
              intro bst_118 hbst_118
              exact K99 _ _ (by have s9 := hu107.symm; subst s9; have s9 := hu115.symm; subst s9; have s9 := hbst_118.symm; subst s9; exact (if_neg h99).symm) (by have s9 := hu107.symm; subst s9; have s9 := hu115.symm; subst s9; have s9 := hbst_118.symm; subst s9; exact (if_neg h99).symm)
            refine T_icmp_le 125 (am_dec tX12_rules_1 28 rfl) rfl (fun h118 => ?_) (fun h118 => ?_)
            · exact K118 _ (if_pos h118).symm
            · refine T_iload (am_dec tX12_rules_1 29 rfl) rfl ?_
              refine T_istore (ls' := [some (aR b), some (aI k), some (aI t), some (aI there), some (aI left), some (aI dn), some (aI i), some (aI i), none]) (am_dec tX12_rules_1 30 rfl) (by decide) rfl ?_
              exact K118 _ (if_neg h118).symm
def w_k_rules_47 (c : am_F) (k : Int) (t : Int) (there : Int) (x9 : Int × Int × am_F) : (Int × Int × am_F) ⊕ (Int × Int × am_F) := let left : Int := x9.1; let dn : Int := x9.2.1; let q : am_F := x9.2.2; (let bst_53 : Int := (am_fold (g_k_rules_53 c k t dn there) 0 (c 0 30).toNat ((-1), q)).1; (let q53 : am_F := (am_fold (g_k_rules_53 c k t dn there) 0 (c 0 30).toNat ((-1), q)).2; (if bst_53 = (-1) then .inr (left, dn, q53) else (let dn_145 : Int := am_ior dn (am_ishl 1 bst_53); (let n149 : Int := (k_lastOf c 3); (let t153 : Int := (if n149 = (-1) then (c (133 + bst_53.toNat) 1) else (let n171 : Int := (k_lastOf c 3); (let u180 : Int × am_F := k_worth c q53 n171 bst_53 t there left; ((u180).1)))); (let q153 : am_F := (if n149 = (-1) then q53 else (let n171 : Int := (k_lastOf c 3); (let u180 : Int × am_F := k_worth c q53 n171 bst_53 t there left; ((u180).2)))); (let n187 : Int := (k_lastOf c 2); (let t191 : Int := (if n187 = (-1) then (c (133 + bst_53.toNat) 2) else (let n209 : Int := (k_lastOf c 2); (let u218 : Int × am_F := k_worth c q153 n209 bst_53 t there left; ((u218).1)))); (let q191 : am_F := (if n187 = (-1) then q153 else (let n209 : Int := (k_lastOf c 2); (let u218 : Int × am_F := k_worth c q153 n209 bst_53 t there left; ((u218).2)))); (let t242 : Int := (if 0 ≤ t153 then t153 else 0); (let t273 : Int := (if 0 ≤ t191 then t191 else 0); (let q283 : am_F := (am_put (am_put q191 732 bst_53.toNat (k_less left (k_less (c (133 + bst_53.toNat) 1) t242))) 733 bst_53.toNat (am_w32 ((k_less left (k_less (c (133 + bst_53.toNat) 1) t242)) * t273))); (let left_294 : Int := am_w32 (left - (q283 732 bst_53.toNat)); .inl (left_294, dn_145, q283)))))))))))))))
theorem L_k_rules_47 {S : am_S} {d u : Nat} {Q : AO → AH → Prop} {w : AH} {b : Nat} (hl : b + 735 ≤ w.length) (c : am_F) (k : Int) (t : Int) (there : Int) (hV : MdV c) (hL : MdL c) (hB9 : MdB c) (hP9 : MdP c) (hk : 0 ≤ k ∧ k < c 4 3) (ht : -1 ≤ t ∧ t < 40)  (hd : 3 ≤ d) : ∀ (n : Nat) (left : Int) (dn : Int) (q : am_F), k_zer 12 dn < n → 0 ≤ dn ∧ dn < 4096 → (∀ (left' : Int) (dn' : Int) (q' : am_F), left' = (am_wh (w_k_rules_47 c k t there) n (left, dn, q)).1 → dn' = (am_wh (w_k_rules_47 c k t there) n (left, dn, q)).2.1 → q' = (am_wh (w_k_rules_47 c k t there) n (left, dn, q)).2.2 → 0 ≤ dn' ∧ dn' < 4096 → am_T S zX12_rules d u Q 137 [none, none, none, none, none, none, none, none, none] [] (mdW w b c q')) → am_T S zX12_rules d u Q 47 [some (aR b), some (aI k), some (aI t), some (aI there), some (aI left), some (aI dn), none, none, none] [] (mdW w b c q) := by
  intro n
  induction n with
  | zero =>
    intro left dn q hm9 hinv k9
    obtain ⟨vl0, vu0⟩ := MdV_0 hV
    obtain ⟨vl1, vu1⟩ := MdV_1 hV
    obtain ⟨vl3, vu3⟩ := MdV_3 hV
    obtain ⟨vl12, vu12⟩ := MdV_12 hV
    have zb := k_zer_b 12 dn
    exfalso; omega
  | succ n ih =>
    intro left dn q hm9 hinv k9
    obtain ⟨vl0, vu0⟩ := MdV_0 hV
    obtain ⟨vl1, vu1⟩ := MdV_1 hV
    obtain ⟨vl3, vu3⟩ := MdV_3 hV
    obtain ⟨vl12, vu12⟩ := MdV_12 hV
    have zb := k_zer_b 12 dn
    refine T_iconst (-1) (am_dec tX12_rules_0 27 rfl) rfl ⟨by decide, by decide⟩ ?_
    refine T_istore (ls' := [some (aR b), some (aI k), some (aI t), some (aI there), some (aI left), some (aI dn), some (aI (-1)), none, none]) (am_dec tX12_rules_0 28 rfl) (by decide) rfl ?_
    refine T_iconst 0 (am_dec tX12_rules_0 29 rfl) rfl ⟨by decide, by decide⟩ ?_
    refine T_istore (ls' := [some (aR b), some (aI k), some (aI t), some (aI there), some (aI left), some (aI dn), some (aI (-1)), some (aI 0), none]) (am_dec tX12_rules_0 30 rfl) (by decide) rfl ?_
    refine L_k_rules_53 hl c k t dn left there hV hL hB9 hP9 hk ht  (by omega) _ rfl (c 0 30).toNat 0 (-1) q (by omega) (by omega) (Or.inl rfl) (fun bst_53 q53 hbst_53 hq53 hv53 => ?_)
    refine T_iload (am_dec tX12_rules_1 33 rfl) rfl ?_
    refine T_iconst (-1) (am_dec tX12_rules_1 34 rfl) rfl ⟨by decide, by decide⟩ ?_
    refine T_icmp_ne 138 (am_dec tX12_rules_1 35 rfl) rfl (fun h134 => ?_) (fun h134 => ?_)
    · refine T_iload (am_dec tX12_rules_1 37 rfl) rfl ?_
      refine T_iconst 1 (am_dec tX12_rules_1 38 rfl) rfl ⟨by decide, by decide⟩ ?_
      refine T_iload (am_dec tX12_rules_1 39 rfl) rfl ?_
      refine T_ishl (am_ishl 1 bst_53) (am_dec tX12_rules_2 0 rfl) (am_w32e _).symm (am_w32r _) ?_
      refine T_ior (am_ior dn (am_ishl 1 bst_53)) (am_dec tX12_rules_2 1 rfl) (am_w32e _).symm (am_w32r _) ?_
      refine T_nm (fun dn_145 hdn_145 => ?_)
      refine T_istore (ls' := [some (aR b), some (aI k), some (aI t), some (aI there), some (aI left), some (aI dn_145), some (aI bst_53), none, none]) (am_dec tX12_rules_2 2 rfl) (by decide) rfl ?_
      refine T_aload_n (am_dec tX12_rules_2 3 rfl) rfl ?_
      refine T_iconst 3 (am_dec tX12_rules_2 4 rfl) rfl ⟨by decide, by decide⟩ ?_
      refine T_callV (as := [aI 3]) rfl (am_dec tX12_rules_2 5 rfl) lkX12_503 (md_obj hl) rfl rfl (Nat.le_of_ble_eq_true rfl) (by omega) (mk_lastOf (d := d - 1) hl 3  hP9 ) (fun _ => ?_)
      refine T_nm (fun n149 hn149 => ?_)
      have hs149 := k_lastOf_b hP9 3
      rw [← hn149] at hs149
      refine T_iconst (-1) (am_dec tX12_rules_2 6 rfl) rfl ⟨by decide, by decide⟩ ?_
      have K153 : ∀ (t153 : Int), ∀ (q153 : am_F), t153 = (if n149 = (-1) then (c (133 + bst_53.toNat) 1) else (let n171 : Int := (k_lastOf c 3); (let u180 : Int × am_F := k_worth c q53 n171 bst_53 t there left; ((u180).1)))) → q153 = (if n149 = (-1) then q53 else (let n171 : Int := (k_lastOf c 3); (let u180 : Int × am_F := k_worth c q53 n171 bst_53 t there left; ((u180).2)))) →  am_T S zX12_rules d u Q 183 [some (aR b), some (aI k), some (aI t), some (aI there), some (aI left), some (aI dn_145), some (aI bst_53), none, none] [aI t153] (mdW w b c q153) := by
        intro t153 q153 ht153 hq153
        have hxt153 := ht153
        dsimp only at hxt153
        refine T_istore (ls' := [some (aR b), some (aI k), some (aI t), some (aI there), some (aI left), some (aI dn_145), some (aI bst_53), some (aI t153), none]) (am_dec tX12_rules_2 24 rfl) (by decide) rfl ?_
        refine T_aload_n (am_dec tX12_rules_2 25 rfl) rfl ?_
        refine T_iconst 2 (am_dec tX12_rules_2 26 rfl) rfl ⟨by decide, by decide⟩ ?_
        refine T_callV (as := [aI 2]) rfl (am_dec tX12_rules_2 27 rfl) lkX12_503 (md_obj hl) rfl rfl (Nat.le_of_ble_eq_true rfl) (by omega) (mk_lastOf (d := d - 1) hl 2  hP9 ) (fun _ => ?_)
        refine T_nm (fun n187 hn187 => ?_)
        have hs187 := k_lastOf_b hP9 2
        rw [← hn187] at hs187
        refine T_iconst (-1) (am_dec tX12_rules_2 28 rfl) rfl ⟨by decide, by decide⟩ ?_
        have K191 : ∀ (t191 : Int), ∀ (q191 : am_F), t191 = (if n187 = (-1) then (c (133 + bst_53.toNat) 2) else (let n209 : Int := (k_lastOf c 2); (let u218 : Int × am_F := k_worth c q153 n209 bst_53 t there left; ((u218).1)))) → q191 = (if n187 = (-1) then q153 else (let n209 : Int := (k_lastOf c 2); (let u218 : Int × am_F := k_worth c q153 n209 bst_53 t there left; ((u218).2)))) →  am_T S zX12_rules d u Q 221 [some (aR b), some (aI k), some (aI t), some (aI there), some (aI left), some (aI dn_145), some (aI bst_53), some (aI t153), none] [aI t191] (mdW w b c q191) := by
          intro t191 q191 ht191 hq191
          have hxt191 := ht191
          dsimp only at hxt191
          refine T_istore (ls' := [some (aR b), some (aI k), some (aI t), some (aI there), some (aI left), some (aI dn_145), some (aI bst_53), some (aI t153), some (aI t191)]) (am_dec tX12_rules_3 6 rfl) (by decide) rfl ?_
          refine T_aload_n (am_dec tX12_rules_3 7 rfl) rfl ?_
          refine T_getfield 11 65 (am_dec tX12_rules_3 8 rfl) flX12_145_11 (md_obj hl) rfl ?_
          refine T_iload (am_dec tX12_rules_3 9 rfl) rfl ?_
          refine T_iload (am_dec tX12_rules_3 10 rfl) rfl ?_
          refine T_aload_n (am_dec tX12_rules_3 11 rfl) rfl ?_
          refine T_getfield 11 34 (am_dec tX12_rules_3 12 rfl) flX12_82_11 (md_obj hl) rfl ?_
          refine T_iload (am_dec tX12_rules_3 13 rfl) rfl ?_
          refine T_aaloadR (r := b + (133 + bst_53.toNat)) (am_dec tX12_rules_3 14 rfl) (by decide) (mh_bid hl) (by omega) (by omega) (if_pos (by omega)) ?_
          refine T_iconst 1 (am_dec tX12_rules_3 15 rfl) rfl ⟨by decide, by decide⟩ ?_
          refine T_ialoadE (x := c (133 + bst_53.toNat) 1) (am_dec tX12_rules_3 16 rfl) (mr_bid hl (i := bst_53) (by omega) (by omega)) (by omega) (by omega) rfl ?_
          refine T_iload (am_dec tX12_rules_3 17 rfl) rfl ?_
          have K242 : ∀ (t242 : Int), t242 = (if 0 ≤ t153 then t153 else 0) →  am_T S zX12_rules d u Q 251 [some (aR b), some (aI k), some (aI t), some (aI there), some (aI left), some (aI dn_145), some (aI bst_53), none, some (aI t191)] [aI t242, aI (c (133 + bst_53.toNat) 1), aI left, aI bst_53, aR (b + 732)] (mdW w b c q191) := by
            intro t242 ht242
            refine T_callS (as := [aI (c (133 + bst_53.toNat) 1), aI t242]) rfl (am_dec tX12_rules_3 22 rfl) lkX12_268 rfl (Nat.le_of_ble_eq_true rfl) (by omega) (mk_less (d := d - 1)  (c (133 + bst_53.toNat) 1) t242   ) (fun _ => ?_)
            refine T_callS (as := [aI left, aI (k_less (c (133 + bst_53.toNat) 1) t242)]) rfl (am_dec tX12_rules_3 23 rfl) lkX12_268 rfl (Nat.le_of_ble_eq_true rfl) (by omega) (mk_less (d := d - 1)  left (k_less (c (133 + bst_53.toNat) 1) t242)   ) (fun _ => ?_)
            refine T_iastore (am_dec tX12_rules_3 24 rfl) (md_got hl) (by omega) (by omega) ?_
            refine am_wE (w2 := mdW w b c (am_put q191 732 bst_53.toNat (k_less left (k_less (c (133 + bst_53.toNat) 1) t242)))) (md_pq (Nat.le_of_ble_eq_true rfl) (fun _ _ => rfl)) ?_
            refine T_aload_n (am_dec tX12_rules_3 25 rfl) rfl ?_
            refine T_getfield 11 66 (am_dec tX12_rules_3 26 rfl) flX12_148_11 (md_obj hl) rfl ?_
            refine T_iload (am_dec tX12_rules_3 27 rfl) rfl ?_
            refine T_aload_n (am_dec tX12_rules_3 28 rfl) rfl ?_
            refine T_getfield 11 65 (am_dec tX12_rules_3 29 rfl) flX12_145_11 (md_obj hl) rfl ?_
            refine T_iload (am_dec tX12_rules_3 30 rfl) rfl ?_
            refine T_ialoadE (x := (k_less left (k_less (c (133 + bst_53.toNat) 1) t242))) (am_dec tX12_rules_3 31 rfl) (md_got hl) (by omega) (by omega) (am_put_s) ?_
            refine T_iload (am_dec tX12_rules_3 32 rfl) rfl ?_
            have K273 : ∀ (t273 : Int), t273 = (if 0 ≤ t191 then t191 else 0) →  am_T S zX12_rules d u Q 282 [some (aR b), some (aI k), some (aI t), some (aI there), some (aI left), some (aI dn_145), some (aI bst_53), none, none] [aI t273, aI (k_less left (k_less (c (133 + bst_53.toNat) 1) t242)), aI bst_53, aR (b + 733)] (mdW w b c (am_put q191 732 bst_53.toNat (k_less left (k_less (c (133 + bst_53.toNat) 1) t242)))) := by
              intro t273 ht273
              refine T_imulW (am_w32 ((k_less left (k_less (c (133 + bst_53.toNat) 1) t242)) * t273)) (am_dec tX12_rules_3 37 rfl) (am_w32e _).symm (am_w32r _) ?_
              refine T_iastore (am_dec tX12_rules_3 38 rfl) (md_paid hl) (by omega) (by omega) ?_
              refine am_wE (w2 := mdW w b c (am_put (am_put q191 732 bst_53.toNat (k_less left (k_less (c (133 + bst_53.toNat) 1) t242))) 733 bst_53.toNat (am_w32 ((k_less left (k_less (c (133 + bst_53.toNat) 1) t242)) * t273)))) (md_pq (Nat.le_of_ble_eq_true rfl) (fun _ _ => rfl)) ?_
              refine T_nmH (W := fun x9 => mdW w b c x9) (v := (am_put (am_put q191 732 bst_53.toNat (k_less left (k_less (c (133 + bst_53.toNat) 1) t242))) 733 bst_53.toNat (am_w32 ((k_less left (k_less (c (133 + bst_53.toNat) 1) t242)) * t273)))) (fun q283 hq283 => ?_)
              refine T_iload (am_dec tX12_rules_3 39 rfl) rfl ?_
              refine T_aload_n (am_dec tX12_rules_4 0 rfl) rfl ?_
              refine T_getfield 11 65 (am_dec tX12_rules_4 1 rfl) flX12_145_11 (md_obj hl) rfl ?_
              refine T_iload (am_dec tX12_rules_4 2 rfl) rfl ?_
              refine T_ialoadE (x := q283 732 bst_53.toNat) (am_dec tX12_rules_4 3 rfl) (md_got hl) (by omega) (by omega) rfl ?_
              refine T_isubW (am_w32 (left - (q283 732 bst_53.toNat))) (am_dec tX12_rules_4 4 rfl) (am_w32e _).symm (am_w32r _) ?_
              refine T_nm (fun left_294 hleft_294 => ?_)
              refine T_istore (ls' := [some (aR b), some (aI k), some (aI t), some (aI there), some (aI left_294), some (aI dn_145), some (aI bst_53), none, none]) (am_dec tX12_rules_4 5 rfl) (by decide) rfl ?_
              refine T_goto 47 (am_dec tX12_rules_4 6 rfl) rfl ?_
              refine T_weak (ls' := [some (aR b), some (aI k), some (aI t), some (aI there), some (aI left_294), some (aI dn_145), none, none, none]) (am_sub_s (am_sub_s (am_sub_s (am_sub_s (am_sub_s (am_sub_s (am_sub_n (am_sub_n (am_sub_n am_sub_nil))))))))) ?_
              have e9 : (w_k_rules_47 c k t there) (left, dn, q) = .inl (left_294, dn_145, q283) := (by have s9 := hbst_53.symm; subst s9; have s9 := hq53.symm; subst s9; have s9 := hdn_145.symm; subst s9; have s9 := hn149.symm; subst s9; have s9 := ht153.symm; subst s9; have s9 := hq153.symm; subst s9; have s9 := hn187.symm; subst s9; have s9 := ht191.symm; subst s9; have s9 := hq191.symm; subst s9; have s9 := ht242.symm; subst s9; have s9 := ht273.symm; subst s9; have s9 := hq283.symm; subst s9; have s9 := hleft_294.symm; subst s9; exact (if_neg h134))
              simp only [am_wh_l e9] at k9
              exact ih left_294 dn_145 q283 (by rw [hdn_145]; obtain ⟨z1, z2, z3⟩ := hv53.resolve_left h134; have z := (k_zer_set hinv (by omega) z3 12 (by omega)).1 (by omega); omega) (by rw [hdn_145]; obtain ⟨z1, z2, z3⟩ := hv53.resolve_left h134; exact (am_bit_set hinv (by omega)).1) k9
            refine T_if_ge 280 (am_dec tX12_rules_3 33 rfl) rfl (fun h273 => ?_) (fun h273 => ?_)
            · refine T_iload (am_dec tX12_rules_3 36 rfl) rfl ?_
              refine T_weak (ls' := [some (aR b), some (aI k), some (aI t), some (aI there), some (aI left), some (aI dn_145), some (aI bst_53), none, none]) (am_sub_s (am_sub_s (am_sub_s (am_sub_s (am_sub_s (am_sub_s (am_sub_s (am_sub_n (am_sub_n am_sub_nil))))))))) ?_
              exact K273 _ (if_pos h273).symm
            · refine T_iconst 0 (am_dec tX12_rules_3 34 rfl) rfl ⟨by decide, by decide⟩ ?_
              refine T_goto 282 (am_dec tX12_rules_3 35 rfl) rfl ?_
              refine T_weak (ls' := [some (aR b), some (aI k), some (aI t), some (aI there), some (aI left), some (aI dn_145), some (aI bst_53), none, none]) (am_sub_s (am_sub_s (am_sub_s (am_sub_s (am_sub_s (am_sub_s (am_sub_s (am_sub_n (am_sub_n am_sub_nil))))))))) ?_
              exact K273 _ (if_neg h273).symm
          refine T_if_ge 249 (am_dec tX12_rules_3 18 rfl) rfl (fun h242 => ?_) (fun h242 => ?_)
          · refine T_iload (am_dec tX12_rules_3 21 rfl) rfl ?_
            refine T_weak (ls' := [some (aR b), some (aI k), some (aI t), some (aI there), some (aI left), some (aI dn_145), some (aI bst_53), none, some (aI t191)]) (am_sub_s (am_sub_s (am_sub_s (am_sub_s (am_sub_s (am_sub_s (am_sub_s (am_sub_n (am_sub_s am_sub_nil))))))))) ?_
            exact K242 _ (if_pos h242).symm
          · refine T_iconst 0 (am_dec tX12_rules_3 19 rfl) rfl ⟨by decide, by decide⟩ ?_
            refine T_goto 251 (am_dec tX12_rules_3 20 rfl) rfl ?_
            refine T_weak (ls' := [some (aR b), some (aI k), some (aI t), some (aI there), some (aI left), some (aI dn_145), some (aI bst_53), none, some (aI t191)]) (am_sub_s (am_sub_s (am_sub_s (am_sub_s (am_sub_s (am_sub_s (am_sub_s (am_sub_n (am_sub_s am_sub_nil))))))))) ?_
            exact K242 _ (if_neg h242).symm
        refine T_icmp_ne 206 (am_dec tX12_rules_2 29 rfl) rfl (fun h191 => ?_) (fun h191 => ?_)
        · refine T_aload_n (am_dec tX12_rules_2 37 rfl) rfl ?_
          refine T_aload_n (am_dec tX12_rules_2 38 rfl) rfl ?_
          refine T_iconst 2 (am_dec tX12_rules_2 39 rfl) rfl ⟨by decide, by decide⟩ ?_
          refine T_callV (as := [aI 2]) rfl (am_dec tX12_rules_3 0 rfl) lkX12_503 (md_obj hl) rfl rfl (Nat.le_of_ble_eq_true rfl) (by omega) (mk_lastOf (d := d - 1) hl 2  hP9 ) (fun _ => ?_)
          refine T_nm (fun n209 hn209 => ?_)
          have hs209 := k_lastOf_b hP9 2
          rw [← hn209] at hs209
          refine T_iload (am_dec tX12_rules_3 1 rfl) rfl ?_
          refine T_iload_n (am_dec tX12_rules_3 2 rfl) rfl ?_
          refine T_iload_n (am_dec tX12_rules_3 3 rfl) rfl ?_
          refine T_iload (am_dec tX12_rules_3 4 rfl) rfl ?_
          refine T_callV (as := [aI n209, aI bst_53, aI t, aI there, aI left]) rfl (am_dec tX12_rules_3 5 rfl) lkX12_506 (md_obj hl) rfl rfl (Nat.le_of_ble_eq_true rfl) (by omega) (mk_worth (d := d - 1) hl n209 bst_53 t there left  hV hB9 hL hP9 (by omega) (by omega) (by omega)) (fun _ => ?_)
          obtain ⟨u218, hu218⟩ : ∃ x9, x9 = k_worth c q153 n209 bst_53 t there left := ⟨_, rfl⟩
          rw [← hu218]
          exact K191 _ _ (by have s9 := hn209.symm; subst s9; have s9 := hu218.symm; subst s9; exact (if_neg h191).symm) (by have s9 := hn209.symm; subst s9; have s9 := hu218.symm; subst s9; exact (if_neg h191).symm)
        · refine T_aload_n (am_dec tX12_rules_2 30 rfl) rfl ?_
          refine T_getfield 11 34 (am_dec tX12_rules_2 31 rfl) flX12_82_11 (md_obj hl) rfl ?_
          refine T_iload (am_dec tX12_rules_2 32 rfl) rfl ?_
          refine T_aaloadR (r := b + (133 + bst_53.toNat)) (am_dec tX12_rules_2 33 rfl) (by decide) (mh_bid hl) (by omega) (by omega) (if_pos (by omega)) ?_
          refine T_iconst 2 (am_dec tX12_rules_2 34 rfl) rfl ⟨by decide, by decide⟩ ?_
          refine T_ialoadE (x := c (133 + bst_53.toNat) 2) (am_dec tX12_rules_2 35 rfl) (mr_bid hl (i := bst_53) (by omega) (by omega)) (by omega) (by omega) rfl ?_
          refine T_goto 221 (am_dec tX12_rules_2 36 rfl) rfl ?_
          exact K191 _ _ (if_pos h191).symm (if_pos h191).symm
      refine T_icmp_ne 168 (am_dec tX12_rules_2 7 rfl) rfl (fun h153 => ?_) (fun h153 => ?_)
      · refine T_aload_n (am_dec tX12_rules_2 15 rfl) rfl ?_
        refine T_aload_n (am_dec tX12_rules_2 16 rfl) rfl ?_
        refine T_iconst 3 (am_dec tX12_rules_2 17 rfl) rfl ⟨by decide, by decide⟩ ?_
        refine T_callV (as := [aI 3]) rfl (am_dec tX12_rules_2 18 rfl) lkX12_503 (md_obj hl) rfl rfl (Nat.le_of_ble_eq_true rfl) (by omega) (mk_lastOf (d := d - 1) hl 3  hP9 ) (fun _ => ?_)
        refine T_nm (fun n171 hn171 => ?_)
        have hs171 := k_lastOf_b hP9 3
        rw [← hn171] at hs171
        refine T_iload (am_dec tX12_rules_2 19 rfl) rfl ?_
        refine T_iload_n (am_dec tX12_rules_2 20 rfl) rfl ?_
        refine T_iload_n (am_dec tX12_rules_2 21 rfl) rfl ?_
        refine T_iload (am_dec tX12_rules_2 22 rfl) rfl ?_
        refine T_callV (as := [aI n171, aI bst_53, aI t, aI there, aI left]) rfl (am_dec tX12_rules_2 23 rfl) lkX12_506 (md_obj hl) rfl rfl (Nat.le_of_ble_eq_true rfl) (by omega) (mk_worth (d := d - 1) hl n171 bst_53 t there left  hV hB9 hL hP9 (by omega) (by omega) (by omega)) (fun _ => ?_)
        obtain ⟨u180, hu180⟩ : ∃ x9, x9 = k_worth c q53 n171 bst_53 t there left := ⟨_, rfl⟩
        rw [← hu180]
        exact K153 _ _ (by have s9 := hn171.symm; subst s9; have s9 := hu180.symm; subst s9; exact (if_neg h153).symm) (by have s9 := hn171.symm; subst s9; have s9 := hu180.symm; subst s9; exact (if_neg h153).symm)
      · refine T_aload_n (am_dec tX12_rules_2 8 rfl) rfl ?_
        refine T_getfield 11 34 (am_dec tX12_rules_2 9 rfl) flX12_82_11 (md_obj hl) rfl ?_
        refine T_iload (am_dec tX12_rules_2 10 rfl) rfl ?_
        refine T_aaloadR (r := b + (133 + bst_53.toNat)) (am_dec tX12_rules_2 11 rfl) (by decide) (mh_bid hl) (by omega) (by omega) (if_pos (by omega)) ?_
        refine T_iconst 1 (am_dec tX12_rules_2 12 rfl) rfl ⟨by decide, by decide⟩ ?_
        refine T_ialoadE (x := c (133 + bst_53.toNat) 1) (am_dec tX12_rules_2 13 rfl) (mr_bid hl (i := bst_53) (by omega) (by omega)) (by omega) (by omega) rfl ?_
        refine T_goto 183 (am_dec tX12_rules_2 14 rfl) rfl ?_
        exact K153 _ _ (if_pos h153).symm (if_pos h153).symm
    · refine T_weak (ls' := [none, none, none, none, none, none, none, none, none]) (am_sub_n (am_sub_n (am_sub_n (am_sub_n (am_sub_n (am_sub_n (am_sub_n (am_sub_n (am_sub_n am_sub_nil))))))))) ?_
      have e9 : (w_k_rules_47 c k t there) (left, dn, q) = .inr (left, dn, q53) := (by have s9 := hbst_53.symm; subst s9; have s9 := hq53.symm; subst s9; exact (if_pos h134))
      simp only [am_wh_r e9] at k9
      exact k9 _ _ _ rfl rfl rfl hinv
def k_rules (c : am_F) (q : am_F) (k : Int) (t : Int) : am_F := (let there_6 : Int := (k_yardsOf c q k t); (let q16 : am_F := am_fold (g_k_rules_16) 0 (c 0 30).toNat q; (am_wh (w_k_rules_47 c k t there_6) 13 (there_6, 0, q16)).2.2))
theorem mk_rules {S : am_S} {d u : Nat} {w : AH} {b : Nat} (hl : b + 735 ≤ w.length) {c : am_F} {q : am_F} (k : Int) (t : Int) (hV : MdV c) (hL : MdL c) (hB9 : MdB c) (hP9 : MdP c) (hk : 0 ≤ k ∧ k < c 4 3) (ht : -1 ≤ t ∧ t < 40) (hd : 3 ≤ d) : am_Out S zX12_rules d u [aR b, aI k, aI t] (mdW w b c q) (.inl none) (mdW w b c (k_rules c q k t)) := by
  have key : ∀ Q : AO → AH → Prop, Q (.inl none) (mdW w b c (k_rules c q k t)) → am_M S zX12_rules d u [aR b, aI k, aI t] (mdW w b c q) Q := by
    intro Q hQ
    refine am_body rfl (by decide +kernel) rfl (am_cats_cons rfl ( am_cats_cons rfl ( am_cats_cons rfl (am_cats_nil)))) (Nat.le_of_ble_eq_true rfl) (?_ : am_T _ _ _ _ _ 0 [some (aR b), some (aI k), some (aI t), none, none, none, none, none, none] [] (mdW w b c q))
    obtain ⟨vl0, vu0⟩ := MdV_0 hV
    obtain ⟨vl1, vu1⟩ := MdV_1 hV
    obtain ⟨vl3, vu3⟩ := MdV_3 hV
    obtain ⟨vl12, vu12⟩ := MdV_12 hV
    refine T_aload_n (am_dec tX12_rules_0 0 rfl) rfl ?_
    refine T_iload_n (am_dec tX12_rules_0 1 rfl) rfl ?_
    refine T_iload_n (am_dec tX12_rules_0 2 rfl) rfl ?_
    refine T_callV (as := [aI k, aI t]) rfl (am_dec tX12_rules_0 3 rfl) lkX12_415 (md_obj hl) rfl rfl (Nat.le_of_ble_eq_true rfl) (by omega) (mk_yardsOf (d := d - 1) hl k t  hV hL (by omega) (by omega) (by omega)) (fun _ => ?_)
    refine T_nm (fun there_6 hthere_6 => ?_)
    refine T_istore_n (ls' := [some (aR b), some (aI k), some (aI t), some (aI there_6), none, none, none, none, none]) (am_dec tX12_rules_0 4 rfl) (by decide) rfl ?_
    refine T_iload_n (am_dec tX12_rules_0 5 rfl) rfl ?_
    refine T_istore (ls' := [some (aR b), some (aI k), some (aI t), some (aI there_6), some (aI there_6), none, none, none, none]) (am_dec tX12_rules_0 6 rfl) (by decide) rfl ?_
    refine T_iconst 0 (am_dec tX12_rules_0 7 rfl) rfl ⟨by decide, by decide⟩ ?_
    refine T_istore (ls' := [some (aR b), some (aI k), some (aI t), some (aI there_6), some (aI there_6), some (aI 0), none, none, none]) (am_dec tX12_rules_0 8 rfl) (by decide) rfl ?_
    refine T_iconst 0 (am_dec tX12_rules_0 9 rfl) rfl ⟨by decide, by decide⟩ ?_
    refine T_istore (ls' := [some (aR b), some (aI k), some (aI t), some (aI there_6), some (aI there_6), some (aI 0), some (aI 0), none, none]) (am_dec tX12_rules_0 10 rfl) (by decide) rfl ?_
    refine L_k_rules_16 hl c k t there_6 there_6 hV hL hB9 hP9 hk ht  (by omega) _ rfl (c 0 30).toNat 0 q (by omega) (by omega) (fun q16 hq16 => ?_)
    refine L_k_rules_47 hl c k t there_6 hV hL hB9 hP9 (by omega) (by omega)  (by omega) 13 there_6 0 q16 (by have zb := k_zer_b 12 0; omega) (by omega) (fun left_47 dn_47 q47 hleft_47 hdn_47 hq47 hv47 => ?_)
    exact T_return (am_dec tX12_rules_1 36 rfl) rfl (am_tr (fun (x9 : am_F) => Q (.inl none) (mdW w b c x9)) (y := q47) (show (k_rules c q k t) = q47 from (by have s9 := hthere_6.symm; subst s9; have s9 := hq16.symm; subst s9; have s9 := hleft_47.symm; subst s9; have s9 := hdn_47.symm; subst s9; have s9 := hq47.symm; subst s9; exact rfl)) hQ)
  exact key _ ⟨rfl, rfl⟩
def k_badBid (c : am_F) (q : am_F) (i : Int) : Int × am_F := (let z9 : Int := (k_in i 0 ((c 0 30) - 1)); (let t12 : Int := (if z9 = 0 then 1 else 0); (let q22 : am_F := (k_refuse q t12 1 1); (let z22 : Int := (if t12 = 0 then 0 else 1); (z22, q22)))))
theorem mk_badBid {S : am_S} {d u : Nat} {w : AH} {b : Nat} (hl : b + 735 ≤ w.length) {c : am_F} {q : am_F} (i : Int) (hV : MdV c) (hq0 : q 0 0 = 0) (hd : 1 ≤ d) : am_Out S zX12_badBid d u [aR b, aI i] (mdW w b c q) (.inl (some (aI ((k_badBid c q i).1)))) (mdW w b c ((k_badBid c q i).2)) := by
  have key : ∀ Q : AO → AH → Prop, Q (.inl (some (aI ((k_badBid c q i).1)))) (mdW w b c ((k_badBid c q i).2)) → am_M S zX12_badBid d u [aR b, aI i] (mdW w b c q) Q := by
    intro Q hQ
    refine am_body rfl (by decide +kernel) rfl (am_cats_cons rfl ( am_cats_cons rfl (am_cats_nil))) (Nat.le_of_ble_eq_true rfl) (?_ : am_T _ _ _ _ _ 0 [some (aR b), some (aI i)] [] (mdW w b c q))
    obtain ⟨vl0, vu0⟩ := MdV_0 hV
    obtain ⟨vl1, vu1⟩ := MdV_1 hV
    obtain ⟨vl3, vu3⟩ := MdV_3 hV
    obtain ⟨vl12, vu12⟩ := MdV_12 hV
    refine T_aload_n (am_dec tX12_badBid_0 0 rfl) rfl ?_
    refine T_iload_n (am_dec tX12_badBid_0 1 rfl) rfl ?_
    refine T_iconst 0 (am_dec tX12_badBid_0 2 rfl) rfl ⟨by decide, by decide⟩ ?_
    refine T_aload_n (am_dec tX12_badBid_0 3 rfl) rfl ?_
    refine T_getfield 11 30 (am_dec tX12_badBid_0 4 rfl) flX12_292_11 (md_obj hl) rfl ?_
    refine T_iconst 1 (am_dec tX12_badBid_0 5 rfl) rfl ⟨by decide, by decide⟩ ?_
    refine T_isub ((c 0 30) - 1) (am_dec tX12_badBid_0 6 rfl) rfl ⟨by omega, by omega⟩ ?_
    refine T_callS (as := [aI i, aI 0, aI ((c 0 30) - 1)]) rfl (am_dec tX12_badBid_0 7 rfl) lkX12_194 rfl (Nat.le_of_ble_eq_true rfl) (by omega) (mk_in (d := d - 1)  i 0 ((c 0 30) - 1)   ) (fun _ => ?_)
    refine T_nm (fun z9 hz9 => ?_)
    have hb9 := k_in_b i 0 ((c 0 30) - 1)
    rw [← hz9] at hb9
    have hs9 := k_in_s i 0 ((c 0 30) - 1)
    rw [← hz9] at hs9
    have K12 : ∀ (t12 : Int), t12 = (if z9 = 0 then 1 else 0) →  am_T S zX12_badBid d u Q 20 [none, none] [aI t12, aR b] (mdW w b c q) := by
      intro t12 ht12
      have hbt12 : t12 = 0 ∨ t12 = 1 := by
        rw [ht12]
        try dsimp only
        repeat' split
        all_goals first | exact Or.inl rfl | exact Or.inr rfl | apply k_in_b | apply k_isDigit_b | apply k_isSmall_b | apply k_bad_b | apply k_isIn_b | apply k_isStep_b | apply k_isFirst_b | apply k_isLine_b | apply k_seesBy_b | apply k_isWalker_b | apply k_seesOne_b | apply k_badTwo_b | apply k_sees_b | apply k_isCode_b | apply k_isLot_b | apply k_isShip_b | apply k_areRight_b | apply k_right_b | apply k_areSeeds_b | omega
      refine T_iconst 1 (am_dec tX12_badBid_0 12 rfl) rfl ⟨by decide, by decide⟩ ?_
      refine T_iconst 1 (am_dec tX12_badBid_0 13 rfl) rfl ⟨by decide, by decide⟩ ?_
      refine T_callV (as := [aI t12, aI 1, aI 1]) rfl (am_dec tX12_badBid_0 14 rfl) lkX12_275 (md_obj hl) rfl rfl (Nat.le_of_ble_eq_true rfl) (by omega) (mk_bad0 (d := d - 1) hl t12 1 1 (by omega) hq0 (by omega)) (fun _ => ?_)
      refine T_nmH (W := fun x9 => mdW w b c x9) (v := (k_refuse q t12 1 1)) (fun q22 hq22 => ?_)
      refine T_nm (fun z22 hz22 => ?_)
      have hq022 : t12 = 0 → q22 0 0 = 0 := fun h9 => by rw [hq22]; exact k_refuse_0 hq0 h9
      exact T_zreturn (am_dec tX12_badBid_0 15 rfl) rfl (by first | exact Or.inl rfl | exact Or.inr rfl | omega) (am_tr (fun (x9 : Int × am_F) => Q (.inl (some (aI (x9.1)))) (mdW w b c x9.2)) (y := (z22, q22)) (show (k_badBid c q i) = (z22, q22) from (by have s9 := hz9.symm; subst s9; have s9 := ht12.symm; subst s9; have s9 := hq22.symm; subst s9; have s9 := hz22.symm; subst s9; exact rfl)) hQ)
    refine T_if_ne 19 (am_dec tX12_badBid_0 8 rfl) rfl (fun h12 => ?_) (fun h12 => ?_)
    · refine T_iconst 0 (am_dec tX12_badBid_0 11 rfl) rfl ⟨by decide, by decide⟩ ?_
      refine T_weak (ls' := [none, none]) (am_sub_n (am_sub_n am_sub_nil)) ?_
      exact K12 _ (if_neg h12).symm
    · refine T_iconst 1 (am_dec tX12_badBid_0 9 rfl) rfl ⟨by decide, by decide⟩ ?_
      refine T_goto 20 (am_dec tX12_badBid_0 10 rfl) rfl ?_
      refine T_weak (ls' := [none, none]) (am_sub_n (am_sub_n am_sub_nil)) ?_
      exact K12 _ (if_pos h12).symm
  exact key _ ⟨rfl, rfl⟩
theorem k_badBid_b (c : am_F) (q : am_F) (i : Int) : (k_badBid c q i).1 = 0 ∨ (k_badBid c q i).1 = 1 := by
  unfold k_badBid
  try dsimp only
  repeat' split
  all_goals first | exact Or.inl rfl | exact Or.inr rfl
theorem k_badBid_s {c q : am_F} {x : Int} (hq : q 0 0 = 0) : ((k_badBid c q x).1 = 0 ∧ (0 ≤ x ∧ x < c 0 30) ∧ (k_badBid c q x).2 0 0 = 0) ∨ ((k_badBid c q x).1 = 1 ∧ ¬ (0 ≤ x ∧ x < c 0 30)) := by
  have h1 := k_in_s x 0 (c 0 30 - 1)
  unfold k_badBid
  try dsimp only
  by_cases e1 : k_in x 0 (c 0 30 - 1) = 0
  · rw [if_pos e1]
    right
    exact ⟨rfl, by omega⟩
  · rw [if_neg e1]
    left
    exact ⟨rfl, by omega, k_refuse_0 hq rfl⟩
def k_let (c : am_F) (q : am_F) (i : Int) (t : Int) (what : Int) : Int × am_F := (let u7 : Int × am_F := k_badBid c (am_put q 0 0 0) i; (if (u7).1 = 0 then (let z15 : Int := (k_isStep t); (let t18 : Int := (if z15 = 0 then 1 else (let z24 : Int := (k_in what 0 1); (if z24 = 0 then 1 else 0))); (let q37 : am_F := (k_refuse (u7).2 t18 2 2); (let z37 : Int := (if t18 = 0 then 0 else 1); (if z37 = 0 then (let q46 : am_F := k_goes c q37; (let v4_62 : Int := (k_yardsOf c q46 (c (133 + i.toNat) 0) t); (let t66 : Int := (if what = 1 then (let u74 : Int × am_F := k_firstOf c q46 i t v4_62; ((u74).1)) else (let u85 : Int × am_F := k_isLet c q46 i t v4_62; (if (u85).1 = 0 then 0 else 1))); (let q66 : am_F := (if what = 1 then (let u74 : Int × am_F := k_firstOf c q46 i t v4_62; ((u74).2)) else (let u85 : Int × am_F := k_isLet c q46 i t v4_62; ((u85).2))); (t66, q66))))) else (0, q37)))))) else (0, (u7).2)))
theorem mk_let {S : am_S} {d u : Nat} {w : AH} {b : Nat} (hl : b + 735 ≤ w.length) {c : am_F} {q : am_F} (i : Int) (t : Int) (what : Int) (hV : MdV c) (hWd : MdWd c) (hS9 : MdS c) (hLp : MdLp c) (hDu : MdDu c) (hL : MdL c) (hB9 : MdB c) (hP9 : MdP c) (hd : 5 ≤ d) : am_Out S zX12_let d u [aR b, aI i, aI t, aI what] (mdW w b c q) (.inl (some (aI ((k_let c q i t what).1)))) (mdW w b c ((k_let c q i t what).2)) := by
  have key : ∀ Q : AO → AH → Prop, Q (.inl (some (aI ((k_let c q i t what).1)))) (mdW w b c ((k_let c q i t what).2)) → am_M S zX12_let d u [aR b, aI i, aI t, aI what] (mdW w b c q) Q := by
    intro Q hQ
    refine am_body rfl (by decide +kernel) rfl (am_cats_cons rfl ( am_cats_cons rfl ( am_cats_cons rfl ( am_cats_cons rfl (am_cats_nil))))) (Nat.le_of_ble_eq_true rfl) (?_ : am_T _ _ _ _ _ 0 [some (aR b), some (aI i), some (aI t), some (aI what), none] [] (mdW w b c q))
    obtain ⟨vl0, vu0⟩ := MdV_0 hV
    obtain ⟨vl1, vu1⟩ := MdV_1 hV
    obtain ⟨vl3, vu3⟩ := MdV_3 hV
    obtain ⟨vl12, vu12⟩ := MdV_12 hV
    refine T_aload_n (am_dec tX12_let_0 0 rfl) rfl ?_
    refine T_iconst 0 (am_dec tX12_let_0 1 rfl) rfl ⟨by decide, by decide⟩ ?_
    refine T_putfield (fs' := mdO b (c 0) (am_up (q 0) 0 0)) 11 0 (am_dec tX12_let_0 2 rfl) flX12_160_11 rfl rfl rfl trivial (md_obj hl) (Nat.le_of_ble_eq_true rfl) rfl ?_
    refine am_wE (w2 := mdW w b c (am_put q 0 0 0)) (md_fq) ?_
    refine T_aload_n (am_dec tX12_let_0 3 rfl) rfl ?_
    refine T_iload_n (am_dec tX12_let_0 4 rfl) rfl ?_
    refine T_callV (as := [aI i]) rfl (am_dec tX12_let_0 5 rfl) lkX12_515 (md_obj hl) rfl rfl (Nat.le_of_ble_eq_true rfl) (by omega) (mk_badBid (d := d - 1) hl i  hV am_put_s (by omega)) (fun _ => ?_)
    obtain ⟨u7, hu7⟩ : ∃ x9, x9 = k_badBid c (am_put q 0 0 0) i := ⟨_, rfl⟩
    rw [← hu7]
    have hs7 := k_badBid_s (c := c) (q := (am_put q 0 0 0)) (x := i) am_put_s
    rw [← hu7] at hs7
    refine T_if_ne 43 (am_dec tX12_let_0 6 rfl) rfl (fun h10 => ?_) (fun h10 => ?_)
    · refine T_iconst 0 (am_dec tX12_let_0 23 rfl) rfl ⟨by decide, by decide⟩ ?_
      exact T_ireturn (am_dec tX12_let_0 24 rfl) rfl (am_tr (fun (x9 : Int × am_F) => Q (.inl (some (aI (x9.1)))) (mdW w b c x9.2)) (y := (0, (u7).2)) (show (k_let c q i t what) = (0, (u7).2) from (by have s9 := hu7.symm; subst s9; exact (if_neg h10))) hQ)
    · refine T_aload_n (am_dec tX12_let_0 7 rfl) rfl ?_
      refine T_iload_n (am_dec tX12_let_0 8 rfl) rfl ?_
      refine T_callS (as := [aI t]) rfl (am_dec tX12_let_0 9 rfl) lkX12_351 rfl (Nat.le_of_ble_eq_true rfl) (by omega) (mk_isStep (d := d - 1)  t   (by omega)) (fun _ => ?_)
      refine T_nm (fun z15 hz15 => ?_)
      have hb15 := k_isStep_b t
      rw [← hz15] at hb15
      have hs15 := k_isStep_s t
      rw [← hz15] at hs15
      have K18 : ∀ (t18 : Int), t18 = (if z15 = 0 then 1 else (let z24 : Int := (k_in what 0 1); (if z24 = 0 then 1 else 0))) →  am_T S zX12_let d u Q 35 [some (aR b), some (aI i), some (aI t), some (aI what), none] [aI t18, aR b] (mdW w b c (u7).2) := by
        intro t18 ht18
        have hxt18 := ht18
        dsimp only at hxt18
        have hy2 := k_in_s what 0 1
        have hbt18 : t18 = 0 ∨ t18 = 1 := by
          rw [ht18]
          try dsimp only
          repeat' split
          all_goals first | exact Or.inl rfl | exact Or.inr rfl | apply k_in_b | apply k_isDigit_b | apply k_isSmall_b | apply k_bad_b | apply k_isIn_b | apply k_isStep_b | apply k_isFirst_b | apply k_isLine_b | apply k_seesBy_b | apply k_isWalker_b | apply k_seesOne_b | apply k_badTwo_b | apply k_sees_b | apply k_isCode_b | apply k_isLot_b | apply k_isShip_b | apply k_areRight_b | apply k_right_b | apply k_areSeeds_b | apply k_badBid_b | omega
        refine T_iconst 2 (am_dec tX12_let_0 19 rfl) rfl ⟨by decide, by decide⟩ ?_
        refine T_iconst 2 (am_dec tX12_let_0 20 rfl) rfl ⟨by decide, by decide⟩ ?_
        refine T_callV (as := [aI t18, aI 2, aI 2]) rfl (am_dec tX12_let_0 21 rfl) lkX12_275 (md_obj hl) rfl rfl (Nat.le_of_ble_eq_true rfl) (by omega) (mk_bad0 (d := d - 1) hl t18 2 2 (by omega) (hs7.elim (fun h9 => h9.2.2) (fun h9 => by exfalso; omega)) (by omega)) (fun _ => ?_)
        refine T_nmH (W := fun x9 => mdW w b c x9) (v := (k_refuse (u7).2 t18 2 2)) (fun q37 hq37 => ?_)
        refine T_nm (fun z37 hz37 => ?_)
        have hq037 : t18 = 0 → q37 0 0 = 0 := fun h9 => by rw [hq37]; exact k_refuse_0 (hs7.elim (fun h9 => h9.2.2) (fun h9 => by exfalso; omega)) h9
        refine T_if_eq 45 (am_dec tX12_let_0 22 rfl) rfl (fun h40 => ?_) (fun h40 => ?_)
        · refine T_aload_n (am_dec tX12_let_0 25 rfl) rfl ?_
          refine T_callV (as := []) rfl (am_dec tX12_let_0 26 rfl) lkX12_345 (md_obj hl) rfl rfl (Nat.le_of_ble_eq_true rfl) (by omega) (mk_goes (d := d - 1) hl   hV hWd hS9 hLp hDu (by omega)) (fun _ => ?_)
          refine T_nmH (W := fun x9 => mdW w b c x9) (v := k_goes c q37) (fun q46 hq46 => ?_)
          refine T_aload_n (am_dec tX12_let_0 27 rfl) rfl ?_
          refine T_aload_n (am_dec tX12_let_0 28 rfl) rfl ?_
          refine T_getfield 11 34 (am_dec tX12_let_0 29 rfl) flX12_82_11 (md_obj hl) rfl ?_
          refine T_iload_n (am_dec tX12_let_0 30 rfl) rfl ?_
          have hbi := hB9 i (by omega) (by omega)
          refine T_aaloadR (r := b + (133 + i.toNat)) (am_dec tX12_let_0 31 rfl) (by decide) (mh_bid hl) (by omega) (by omega) (if_pos (by omega)) ?_
          refine T_iconst 0 (am_dec tX12_let_0 32 rfl) rfl ⟨by decide, by decide⟩ ?_
          refine T_ialoadE (x := c (133 + i.toNat) 0) (am_dec tX12_let_0 33 rfl) (mr_bid hl (i := i) (by omega) (by omega)) (by omega) (by omega) rfl ?_
          refine T_iload_n (am_dec tX12_let_0 34 rfl) rfl ?_
          refine T_callV (as := [aI (c (133 + i.toNat) 0), aI t]) rfl (am_dec tX12_let_0 35 rfl) lkX12_415 (md_obj hl) rfl rfl (Nat.le_of_ble_eq_true rfl) (by omega) (mk_yardsOf (d := d - 1) hl (c (133 + i.toNat) 0) t  hV hL (by omega) (by omega) (by omega)) (fun _ => ?_)
          refine T_nm (fun v4_62 hv4_62 => ?_)
          refine T_istore (ls' := [some (aR b), some (aI i), some (aI t), some (aI what), some (aI v4_62)]) (am_dec tX12_let_0 36 rfl) (by decide) rfl ?_
          refine T_iload_n (am_dec tX12_let_0 37 rfl) rfl ?_
          refine T_iconst 1 (am_dec tX12_let_0 38 rfl) rfl ⟨by decide, by decide⟩ ?_
          have K66 : ∀ (t66 : Int), ∀ (q66 : am_F), t66 = (if what = 1 then (let u74 : Int × am_F := k_firstOf c q46 i t v4_62; ((u74).1)) else (let u85 : Int × am_F := k_isLet c q46 i t v4_62; (if (u85).1 = 0 then 0 else 1))) → q66 = (if what = 1 then (let u74 : Int × am_F := k_firstOf c q46 i t v4_62; ((u74).2)) else (let u85 : Int × am_F := k_isLet c q46 i t v4_62; ((u85).2))) →  am_T S zX12_let d u Q 96 [none, none, none, none, none] [aI t66] (mdW w b c q66) := by
            intro t66 q66 ht66 hq66
            have hxt66 := ht66
            dsimp only at hxt66
            exact T_ireturn (am_dec tX12_let_1 15 rfl) rfl (am_tr (fun (x9 : Int × am_F) => Q (.inl (some (aI (x9.1)))) (mdW w b c x9.2)) (y := (t66, q66)) (show (k_let c q i t what) = (t66, q66) from (by have s9 := hu7.symm; subst s9; have s9 := hz15.symm; subst s9; have s9 := ht18.symm; subst s9; have s9 := hq37.symm; subst s9; have s9 := hz37.symm; subst s9; have s9 := hq46.symm; subst s9; have s9 := hv4_62.symm; subst s9; have s9 := ht66.symm; subst s9; have s9 := hq66.symm; subst s9; exact ((if_pos h10).trans (if_pos h40)))) hQ)
          refine T_icmp_ne 80 (am_dec tX12_let_0 39 rfl) rfl (fun h66 => ?_) (fun h66 => ?_)
          · refine T_aload_n (am_dec tX12_let_1 6 rfl) rfl ?_
            refine T_iload_n (am_dec tX12_let_1 7 rfl) rfl ?_
            refine T_iload_n (am_dec tX12_let_1 8 rfl) rfl ?_
            refine T_iload (am_dec tX12_let_1 9 rfl) rfl ?_
            refine T_callV (as := [aI i, aI t, aI v4_62]) rfl (am_dec tX12_let_1 10 rfl) lkX12_509 (md_obj hl) rfl rfl (Nat.le_of_ble_eq_true rfl) (by omega) (mk_isLet (d := d - 1) hl i t v4_62  hV hB9 hL hP9 (by omega) (by omega)) (fun _ => ?_)
            obtain ⟨u85, hu85⟩ : ∃ x9, x9 = k_isLet c q46 i t v4_62 := ⟨_, rfl⟩
            rw [← hu85]
            have K88 : ∀ (t88 : Int), t88 = (if (u85).1 = 0 then 0 else 1) →  am_T S zX12_let d u Q 96 [none, none, none, none, none] [aI t88] (mdW w b c (u85).2) := by
              intro t88 ht88
              have hbt88 : t88 = 0 ∨ t88 = 1 := by
                rw [ht88]
                try dsimp only
                repeat' split
                all_goals first | exact Or.inl rfl | exact Or.inr rfl | apply k_in_b | apply k_isDigit_b | apply k_isSmall_b | apply k_bad_b | apply k_isIn_b | apply k_isStep_b | apply k_isFirst_b | apply k_isLine_b | apply k_seesBy_b | apply k_isWalker_b | apply k_seesOne_b | apply k_badTwo_b | apply k_sees_b | apply k_isCode_b | apply k_isLot_b | apply k_isShip_b | apply k_areRight_b | apply k_right_b | apply k_areSeeds_b | apply k_badBid_b | omega
              exact K66 _ _ (by have s9 := hu85.symm; subst s9; have s9 := ht88.symm; subst s9; exact (if_neg h66).symm) (by have s9 := hu85.symm; subst s9; have s9 := ht88.symm; subst s9; exact (if_neg h66).symm)
            refine T_if_eq 95 (am_dec tX12_let_1 11 rfl) rfl (fun h88 => ?_) (fun h88 => ?_)
            · refine T_iconst 0 (am_dec tX12_let_1 14 rfl) rfl ⟨by decide, by decide⟩ ?_
              refine T_weak (ls' := [none, none, none, none, none]) (am_sub_n (am_sub_n (am_sub_n (am_sub_n (am_sub_n am_sub_nil))))) ?_
              exact K88 _ (if_pos h88).symm
            · refine T_iconst 1 (am_dec tX12_let_1 12 rfl) rfl ⟨by decide, by decide⟩ ?_
              refine T_goto 96 (am_dec tX12_let_1 13 rfl) rfl ?_
              refine T_weak (ls' := [none, none, none, none, none]) (am_sub_n (am_sub_n (am_sub_n (am_sub_n (am_sub_n am_sub_nil))))) ?_
              exact K88 _ (if_neg h88).symm
          · refine T_aload_n (am_dec tX12_let_1 0 rfl) rfl ?_
            refine T_iload_n (am_dec tX12_let_1 1 rfl) rfl ?_
            refine T_iload_n (am_dec tX12_let_1 2 rfl) rfl ?_
            refine T_iload (am_dec tX12_let_1 3 rfl) rfl ?_
            refine T_callV (as := [aI i, aI t, aI v4_62]) rfl (am_dec tX12_let_1 4 rfl) lkX12_512 (md_obj hl) rfl rfl (Nat.le_of_ble_eq_true rfl) (by omega) (mk_firstOf (d := d - 1) hl i t v4_62  hV hB9 hL hP9 (by omega) (by omega)) (fun _ => ?_)
            obtain ⟨u74, hu74⟩ : ∃ x9, x9 = k_firstOf c q46 i t v4_62 := ⟨_, rfl⟩
            rw [← hu74]
            refine T_goto 96 (am_dec tX12_let_1 5 rfl) rfl ?_
            refine T_weak (ls' := [none, none, none, none, none]) (am_sub_n (am_sub_n (am_sub_n (am_sub_n (am_sub_n am_sub_nil))))) ?_
            exact K66 _ _ (by have s9 := hu74.symm; subst s9; exact (if_pos h66).symm) (by have s9 := hu74.symm; subst s9; exact (if_pos h66).symm)
        · refine T_iconst 0 (am_dec tX12_let_0 23 rfl) rfl ⟨by decide, by decide⟩ ?_
          exact T_ireturn (am_dec tX12_let_0 24 rfl) rfl (am_tr (fun (x9 : Int × am_F) => Q (.inl (some (aI (x9.1)))) (mdW w b c x9.2)) (y := (0, q37)) (show (k_let c q i t what) = (0, q37) from (by have s9 := hu7.symm; subst s9; have s9 := hz15.symm; subst s9; have s9 := ht18.symm; subst s9; have s9 := hq37.symm; subst s9; have s9 := hz37.symm; subst s9; exact ((if_pos h10).trans (if_neg h40)))) hQ)
      refine T_if_eq 30 (am_dec tX12_let_0 10 rfl) rfl (fun h18 => ?_) (fun h18 => ?_)
      · refine T_iconst 1 (am_dec tX12_let_0 16 rfl) rfl ⟨by decide, by decide⟩ ?_
        refine T_goto 35 (am_dec tX12_let_0 17 rfl) rfl ?_
        exact K18 _ (if_pos h18).symm
      · refine T_iload_n (am_dec tX12_let_0 11 rfl) rfl ?_
        refine T_iconst 0 (am_dec tX12_let_0 12 rfl) rfl ⟨by decide, by decide⟩ ?_
        refine T_iconst 1 (am_dec tX12_let_0 13 rfl) rfl ⟨by decide, by decide⟩ ?_
        refine T_callS (as := [aI what, aI 0, aI 1]) rfl (am_dec tX12_let_0 14 rfl) lkX12_194 rfl (Nat.le_of_ble_eq_true rfl) (by omega) (mk_in (d := d - 1)  what 0 1   ) (fun _ => ?_)
        refine T_nm (fun z24 hz24 => ?_)
        have hb24 := k_in_b what 0 1
        rw [← hz24] at hb24
        have hs24 := k_in_s what 0 1
        rw [← hz24] at hs24
        have K27 : ∀ (t27 : Int), t27 = (if z24 = 0 then 1 else 0) →  am_T S zX12_let d u Q 35 [some (aR b), some (aI i), some (aI t), some (aI what), none] [aI t27, aR b] (mdW w b c (u7).2) := by
          intro t27 ht27
          have hbt27 : t27 = 0 ∨ t27 = 1 := by
            rw [ht27]
            try dsimp only
            repeat' split
            all_goals first | exact Or.inl rfl | exact Or.inr rfl | apply k_in_b | apply k_isDigit_b | apply k_isSmall_b | apply k_bad_b | apply k_isIn_b | apply k_isStep_b | apply k_isFirst_b | apply k_isLine_b | apply k_seesBy_b | apply k_isWalker_b | apply k_seesOne_b | apply k_badTwo_b | apply k_sees_b | apply k_isCode_b | apply k_isLot_b | apply k_isShip_b | apply k_areRight_b | apply k_right_b | apply k_areSeeds_b | apply k_badBid_b | omega
          exact K18 _ (by have s9 := hz24.symm; subst s9; have s9 := ht27.symm; subst s9; exact (if_neg h18).symm)
        refine T_if_ne 34 (am_dec tX12_let_0 15 rfl) rfl (fun h27 => ?_) (fun h27 => ?_)
        · refine T_iconst 0 (am_dec tX12_let_0 18 rfl) rfl ⟨by decide, by decide⟩ ?_
          exact K27 _ (if_neg h27).symm
        · refine T_iconst 1 (am_dec tX12_let_0 16 rfl) rfl ⟨by decide, by decide⟩ ?_
          refine T_goto 35 (am_dec tX12_let_0 17 rfl) rfl ?_
          exact K27 _ (if_pos h27).symm
  exact key _ ⟨rfl, rfl⟩
def k_ruled (c : am_F) (q : am_F) (i : Int) (t : Int) (what : Int) : Int × am_F := (let u7 : Int × am_F := k_badBid c (am_put q 0 0 0) i; (if (u7).1 = 0 then (let z15 : Int := (k_isStep t); (let t18 : Int := (if z15 = 0 then 1 else (let z24 : Int := (k_in what 0 1); (if z24 = 0 then 1 else 0))); (let q37 : am_F := (k_refuse (u7).2 t18 2 2); (let z37 : Int := (if t18 = 0 then 0 else 1); (if z37 = 0 then (let q46 : am_F := k_goes c q37; (let q59 : am_F := k_rules c q46 (c (133 + i.toNat) 0) t; (let t63 : Int := (if what = 0 then (q59 732 i.toNat) else (q59 733 i.toNat)); (t63, q59)))) else (0, q37)))))) else (0, (u7).2)))
theorem mk_ruled {S : am_S} {d u : Nat} {w : AH} {b : Nat} (hl : b + 735 ≤ w.length) {c : am_F} {q : am_F} (i : Int) (t : Int) (what : Int) (hV : MdV c) (hWd : MdWd c) (hS9 : MdS c) (hLp : MdLp c) (hDu : MdDu c) (hL : MdL c) (hB9 : MdB c) (hP9 : MdP c) (hd : 5 ≤ d) : am_Out S zX12_ruled d u [aR b, aI i, aI t, aI what] (mdW w b c q) (.inl (some (aI ((k_ruled c q i t what).1)))) (mdW w b c ((k_ruled c q i t what).2)) := by
  have key : ∀ Q : AO → AH → Prop, Q (.inl (some (aI ((k_ruled c q i t what).1)))) (mdW w b c ((k_ruled c q i t what).2)) → am_M S zX12_ruled d u [aR b, aI i, aI t, aI what] (mdW w b c q) Q := by
    intro Q hQ
    refine am_body rfl (by decide +kernel) rfl (am_cats_cons rfl ( am_cats_cons rfl ( am_cats_cons rfl ( am_cats_cons rfl (am_cats_nil))))) (Nat.le_of_ble_eq_true rfl) (?_ : am_T _ _ _ _ _ 0 [some (aR b), some (aI i), some (aI t), some (aI what)] [] (mdW w b c q))
    obtain ⟨vl0, vu0⟩ := MdV_0 hV
    obtain ⟨vl1, vu1⟩ := MdV_1 hV
    obtain ⟨vl3, vu3⟩ := MdV_3 hV
    obtain ⟨vl12, vu12⟩ := MdV_12 hV
    refine T_aload_n (am_dec tX12_ruled_0 0 rfl) rfl ?_
    refine T_iconst 0 (am_dec tX12_ruled_0 1 rfl) rfl ⟨by decide, by decide⟩ ?_
    refine T_putfield (fs' := mdO b (c 0) (am_up (q 0) 0 0)) 11 0 (am_dec tX12_ruled_0 2 rfl) flX12_160_11 rfl rfl rfl trivial (md_obj hl) (Nat.le_of_ble_eq_true rfl) rfl ?_
    refine am_wE (w2 := mdW w b c (am_put q 0 0 0)) (md_fq) ?_
    refine T_aload_n (am_dec tX12_ruled_0 3 rfl) rfl ?_
    refine T_iload_n (am_dec tX12_ruled_0 4 rfl) rfl ?_
    refine T_callV (as := [aI i]) rfl (am_dec tX12_ruled_0 5 rfl) lkX12_515 (md_obj hl) rfl rfl (Nat.le_of_ble_eq_true rfl) (by omega) (mk_badBid (d := d - 1) hl i  hV am_put_s (by omega)) (fun _ => ?_)
    obtain ⟨u7, hu7⟩ : ∃ x9, x9 = k_badBid c (am_put q 0 0 0) i := ⟨_, rfl⟩
    rw [← hu7]
    have hs7 := k_badBid_s (c := c) (q := (am_put q 0 0 0)) (x := i) am_put_s
    rw [← hu7] at hs7
    refine T_if_ne 43 (am_dec tX12_ruled_0 6 rfl) rfl (fun h10 => ?_) (fun h10 => ?_)
    · refine T_iconst 0 (am_dec tX12_ruled_0 23 rfl) rfl ⟨by decide, by decide⟩ ?_
      exact T_ireturn (am_dec tX12_ruled_0 24 rfl) rfl (am_tr (fun (x9 : Int × am_F) => Q (.inl (some (aI (x9.1)))) (mdW w b c x9.2)) (y := (0, (u7).2)) (show (k_ruled c q i t what) = (0, (u7).2) from (by have s9 := hu7.symm; subst s9; exact (if_neg h10))) hQ)
    · refine T_aload_n (am_dec tX12_ruled_0 7 rfl) rfl ?_
      refine T_iload_n (am_dec tX12_ruled_0 8 rfl) rfl ?_
      refine T_callS (as := [aI t]) rfl (am_dec tX12_ruled_0 9 rfl) lkX12_351 rfl (Nat.le_of_ble_eq_true rfl) (by omega) (mk_isStep (d := d - 1)  t   (by omega)) (fun _ => ?_)
      refine T_nm (fun z15 hz15 => ?_)
      have hb15 := k_isStep_b t
      rw [← hz15] at hb15
      have hs15 := k_isStep_s t
      rw [← hz15] at hs15
      have K18 : ∀ (t18 : Int), t18 = (if z15 = 0 then 1 else (let z24 : Int := (k_in what 0 1); (if z24 = 0 then 1 else 0))) →  am_T S zX12_ruled d u Q 35 [some (aR b), some (aI i), some (aI t), some (aI what)] [aI t18, aR b] (mdW w b c (u7).2) := by
        intro t18 ht18
        have hxt18 := ht18
        dsimp only at hxt18
        have hy2 := k_in_s what 0 1
        have hbt18 : t18 = 0 ∨ t18 = 1 := by
          rw [ht18]
          try dsimp only
          repeat' split
          all_goals first | exact Or.inl rfl | exact Or.inr rfl | apply k_in_b | apply k_isDigit_b | apply k_isSmall_b | apply k_bad_b | apply k_isIn_b | apply k_isStep_b | apply k_isFirst_b | apply k_isLine_b | apply k_seesBy_b | apply k_isWalker_b | apply k_seesOne_b | apply k_badTwo_b | apply k_sees_b | apply k_isCode_b | apply k_isLot_b | apply k_isShip_b | apply k_areRight_b | apply k_right_b | apply k_areSeeds_b | apply k_badBid_b | omega
        refine T_iconst 2 (am_dec tX12_ruled_0 19 rfl) rfl ⟨by decide, by decide⟩ ?_
        refine T_iconst 2 (am_dec tX12_ruled_0 20 rfl) rfl ⟨by decide, by decide⟩ ?_
        refine T_callV (as := [aI t18, aI 2, aI 2]) rfl (am_dec tX12_ruled_0 21 rfl) lkX12_275 (md_obj hl) rfl rfl (Nat.le_of_ble_eq_true rfl) (by omega) (mk_bad0 (d := d - 1) hl t18 2 2 (by omega) (hs7.elim (fun h9 => h9.2.2) (fun h9 => by exfalso; omega)) (by omega)) (fun _ => ?_)
        refine T_nmH (W := fun x9 => mdW w b c x9) (v := (k_refuse (u7).2 t18 2 2)) (fun q37 hq37 => ?_)
        refine T_nm (fun z37 hz37 => ?_)
        have hq037 : t18 = 0 → q37 0 0 = 0 := fun h9 => by rw [hq37]; exact k_refuse_0 (hs7.elim (fun h9 => h9.2.2) (fun h9 => by exfalso; omega)) h9
        refine T_if_eq 45 (am_dec tX12_ruled_0 22 rfl) rfl (fun h40 => ?_) (fun h40 => ?_)
        · refine T_aload_n (am_dec tX12_ruled_0 25 rfl) rfl ?_
          refine T_callV (as := []) rfl (am_dec tX12_ruled_0 26 rfl) lkX12_345 (md_obj hl) rfl rfl (Nat.le_of_ble_eq_true rfl) (by omega) (mk_goes (d := d - 1) hl   hV hWd hS9 hLp hDu (by omega)) (fun _ => ?_)
          refine T_nmH (W := fun x9 => mdW w b c x9) (v := k_goes c q37) (fun q46 hq46 => ?_)
          refine T_aload_n (am_dec tX12_ruled_0 27 rfl) rfl ?_
          refine T_aload_n (am_dec tX12_ruled_0 28 rfl) rfl ?_
          refine T_getfield 11 34 (am_dec tX12_ruled_0 29 rfl) flX12_82_11 (md_obj hl) rfl ?_
          refine T_iload_n (am_dec tX12_ruled_0 30 rfl) rfl ?_
          have hbi := hB9 i (by omega) (by omega)
          refine T_aaloadR (r := b + (133 + i.toNat)) (am_dec tX12_ruled_0 31 rfl) (by decide) (mh_bid hl) (by omega) (by omega) (if_pos (by omega)) ?_
          refine T_iconst 0 (am_dec tX12_ruled_0 32 rfl) rfl ⟨by decide, by decide⟩ ?_
          refine T_ialoadE (x := c (133 + i.toNat) 0) (am_dec tX12_ruled_0 33 rfl) (mr_bid hl (i := i) (by omega) (by omega)) (by omega) (by omega) rfl ?_
          refine T_iload_n (am_dec tX12_ruled_0 34 rfl) rfl ?_
          refine T_callV (as := [aI (c (133 + i.toNat) 0), aI t]) rfl (am_dec tX12_ruled_0 35 rfl) lkX12_518 (md_obj hl) rfl rfl (Nat.le_of_ble_eq_true rfl) (by omega) (mk_rules (d := d - 1) hl (c (133 + i.toNat) 0) t  hV hL hB9 hP9 (by omega) (by omega) (by omega)) (fun _ => ?_)
          refine T_nmH (W := fun x9 => mdW w b c x9) (v := k_rules c q46 (c (133 + i.toNat) 0) t) (fun q59 hq59 => ?_)
          refine T_iload_n (am_dec tX12_ruled_0 36 rfl) rfl ?_
          have K63 : ∀ (t63 : Int), t63 = (if what = 0 then (q59 732 i.toNat) else (q59 733 i.toNat)) →  am_T S zX12_ruled d u Q 81 [none, none, none, none] [aI t63] (mdW w b c q59) := by
            intro t63 ht63
            exact T_ireturn (am_dec tX12_ruled_1 7 rfl) rfl (am_tr (fun (x9 : Int × am_F) => Q (.inl (some (aI (x9.1)))) (mdW w b c x9.2)) (y := (t63, q59)) (show (k_ruled c q i t what) = (t63, q59) from (by have s9 := hu7.symm; subst s9; have s9 := hz15.symm; subst s9; have s9 := ht18.symm; subst s9; have s9 := hq37.symm; subst s9; have s9 := hz37.symm; subst s9; have s9 := hq46.symm; subst s9; have s9 := hq59.symm; subst s9; have s9 := ht63.symm; subst s9; exact ((if_pos h10).trans (if_pos h40)))) hQ)
          refine T_if_ne 75 (am_dec tX12_ruled_0 37 rfl) rfl (fun h63 => ?_) (fun h63 => ?_)
          · refine T_aload_n (am_dec tX12_ruled_1 3 rfl) rfl ?_
            refine T_getfield 11 66 (am_dec tX12_ruled_1 4 rfl) flX12_148_11 (md_obj hl) rfl ?_
            refine T_iload_n (am_dec tX12_ruled_1 5 rfl) rfl ?_
            refine T_ialoadE (x := q59 733 i.toNat) (am_dec tX12_ruled_1 6 rfl) (md_paid hl) (by omega) (by omega) rfl ?_
            refine T_weak (ls' := [none, none, none, none]) (am_sub_n (am_sub_n (am_sub_n (am_sub_n am_sub_nil)))) ?_
            exact K63 _ (if_neg h63).symm
          · refine T_aload_n (am_dec tX12_ruled_0 38 rfl) rfl ?_
            refine T_getfield 11 65 (am_dec tX12_ruled_0 39 rfl) flX12_145_11 (md_obj hl) rfl ?_
            refine T_iload_n (am_dec tX12_ruled_1 0 rfl) rfl ?_
            refine T_ialoadE (x := q59 732 i.toNat) (am_dec tX12_ruled_1 1 rfl) (md_got hl) (by omega) (by omega) rfl ?_
            refine T_goto 81 (am_dec tX12_ruled_1 2 rfl) rfl ?_
            refine T_weak (ls' := [none, none, none, none]) (am_sub_n (am_sub_n (am_sub_n (am_sub_n am_sub_nil)))) ?_
            exact K63 _ (if_pos h63).symm
        · refine T_iconst 0 (am_dec tX12_ruled_0 23 rfl) rfl ⟨by decide, by decide⟩ ?_
          exact T_ireturn (am_dec tX12_ruled_0 24 rfl) rfl (am_tr (fun (x9 : Int × am_F) => Q (.inl (some (aI (x9.1)))) (mdW w b c x9.2)) (y := (0, q37)) (show (k_ruled c q i t what) = (0, q37) from (by have s9 := hu7.symm; subst s9; have s9 := hz15.symm; subst s9; have s9 := ht18.symm; subst s9; have s9 := hq37.symm; subst s9; have s9 := hz37.symm; subst s9; exact ((if_pos h10).trans (if_neg h40)))) hQ)
      refine T_if_eq 30 (am_dec tX12_ruled_0 10 rfl) rfl (fun h18 => ?_) (fun h18 => ?_)
      · refine T_iconst 1 (am_dec tX12_ruled_0 16 rfl) rfl ⟨by decide, by decide⟩ ?_
        refine T_goto 35 (am_dec tX12_ruled_0 17 rfl) rfl ?_
        exact K18 _ (if_pos h18).symm
      · refine T_iload_n (am_dec tX12_ruled_0 11 rfl) rfl ?_
        refine T_iconst 0 (am_dec tX12_ruled_0 12 rfl) rfl ⟨by decide, by decide⟩ ?_
        refine T_iconst 1 (am_dec tX12_ruled_0 13 rfl) rfl ⟨by decide, by decide⟩ ?_
        refine T_callS (as := [aI what, aI 0, aI 1]) rfl (am_dec tX12_ruled_0 14 rfl) lkX12_194 rfl (Nat.le_of_ble_eq_true rfl) (by omega) (mk_in (d := d - 1)  what 0 1   ) (fun _ => ?_)
        refine T_nm (fun z24 hz24 => ?_)
        have hb24 := k_in_b what 0 1
        rw [← hz24] at hb24
        have hs24 := k_in_s what 0 1
        rw [← hz24] at hs24
        have K27 : ∀ (t27 : Int), t27 = (if z24 = 0 then 1 else 0) →  am_T S zX12_ruled d u Q 35 [some (aR b), some (aI i), some (aI t), some (aI what)] [aI t27, aR b] (mdW w b c (u7).2) := by
          intro t27 ht27
          have hbt27 : t27 = 0 ∨ t27 = 1 := by
            rw [ht27]
            try dsimp only
            repeat' split
            all_goals first | exact Or.inl rfl | exact Or.inr rfl | apply k_in_b | apply k_isDigit_b | apply k_isSmall_b | apply k_bad_b | apply k_isIn_b | apply k_isStep_b | apply k_isFirst_b | apply k_isLine_b | apply k_seesBy_b | apply k_isWalker_b | apply k_seesOne_b | apply k_badTwo_b | apply k_sees_b | apply k_isCode_b | apply k_isLot_b | apply k_isShip_b | apply k_areRight_b | apply k_right_b | apply k_areSeeds_b | apply k_badBid_b | omega
          exact K18 _ (by have s9 := hz24.symm; subst s9; have s9 := ht27.symm; subst s9; exact (if_neg h18).symm)
        refine T_if_ne 34 (am_dec tX12_ruled_0 15 rfl) rfl (fun h27 => ?_) (fun h27 => ?_)
        · refine T_iconst 0 (am_dec tX12_ruled_0 18 rfl) rfl ⟨by decide, by decide⟩ ?_
          exact K27 _ (if_neg h27).symm
        · refine T_iconst 1 (am_dec tX12_ruled_0 16 rfl) rfl ⟨by decide, by decide⟩ ?_
          refine T_goto 35 (am_dec tX12_ruled_0 17 rfl) rfl ?_
          exact K27 _ (if_pos h27).symm
  exact key _ ⟨rfl, rfl⟩
def g_k_brings_75 (q : am_F) (what : Int) (i : Int) (v : Int) : Int := (let t87 : Int := (if what = 0 then (q 733 i.toNat) else (if what = 1 then (q 732 i.toNat) else (if q 732 i.toNat ≤ 0 then 0 else 1))); am_w32 (v + t87))
theorem L_k_brings_75 {S : am_S} {d u : Nat} {Q : AO → AH → Prop} {w : AH} {b : Nat} (hl : b + 735 ≤ w.length) (c : am_F) (q : am_F) (what : Int) (hV : MdV c) (hWd : MdWd c) (hS9 : MdS c) (hLp : MdLp c) (hDu : MdDu c) (hL : MdL c) (hB9 : MdB c) (hP9 : MdP c)  (hd : 5 ≤ d) (B9 : Int) (hB : B9 = c 0 30) : ∀ (n : Nat) (i : Int) (v : Int), i + n = B9 → 0 ≤ i → (∀ (v' : Int), v' = am_fold (g_k_brings_75 q what) i n v → am_T S zX12_brings d u Q 139 [none, none, none, none, some (aI v'), none] [] (mdW w b c q)) → am_T S zX12_brings d u Q 75 [some (aR b), none, none, some (aI what), some (aI v), some (aI i)] [] (mdW w b c q) := by
  intro n
  induction n with
  | zero =>
    intro i v hi9 h0i k9
    have e9 : i = B9 := by omega
    subst e9
    obtain ⟨vl0, vu0⟩ := MdV_0 hV
    obtain ⟨vl1, vu1⟩ := MdV_1 hV
    obtain ⟨vl3, vu3⟩ := MdV_3 hV
    obtain ⟨vl12, vu12⟩ := MdV_12 hV
    refine T_iload (am_dec tX12_brings_1 3 rfl) rfl ?_
    refine T_aload_n (am_dec tX12_brings_1 4 rfl) rfl ?_
    refine T_getfield 11 30 (am_dec tX12_brings_1 5 rfl) flX12_292_11 (md_obj hl) rfl ?_
    refine T_icmp_ge 139 (am_dec tX12_brings_1 6 rfl) rfl (fun h81 => ?_) (fun h81 => by exfalso; omega)
    refine T_weak (ls' := [none, none, none, none, some (aI v), none]) (am_sub_n (am_sub_n (am_sub_n (am_sub_n (am_sub_s (am_sub_n am_sub_nil)))))) ?_
    exact k9 v rfl
  | succ n ih =>
    intro i v hi9 h0i k9
    obtain ⟨vl0, vu0⟩ := MdV_0 hV
    obtain ⟨vl1, vu1⟩ := MdV_1 hV
    obtain ⟨vl3, vu3⟩ := MdV_3 hV
    obtain ⟨vl12, vu12⟩ := MdV_12 hV
    refine T_iload (am_dec tX12_brings_1 3 rfl) rfl ?_
    refine T_aload_n (am_dec tX12_brings_1 4 rfl) rfl ?_
    refine T_getfield 11 30 (am_dec tX12_brings_1 5 rfl) flX12_292_11 (md_obj hl) rfl ?_
    refine T_icmp_ge 139 (am_dec tX12_brings_1 6 rfl) rfl (fun h81 => by exfalso; omega) (fun h81 => ?_)
    refine T_iload (am_dec tX12_brings_1 7 rfl) rfl ?_
    refine T_iload_n (am_dec tX12_brings_1 8 rfl) rfl ?_
    have K87 : ∀ (t87 : Int), t87 = (if what = 0 then (q 733 i.toNat) else (if what = 1 then (q 732 i.toNat) else (if q 732 i.toNat ≤ 0 then 0 else 1))) →  am_T S zX12_brings d u Q 130 [some (aR b), none, none, some (aI what), none, some (aI i)] [aI t87, aI v] (mdW w b c q) := by
      intro t87 ht87
      refine T_iaddW (am_w32 (v + t87)) (am_dec tX12_brings_1 31 rfl) (am_w32e _).symm (am_w32r _) ?_
      refine T_nm (fun v_131 hv_131 => ?_)
      refine T_istore (ls' := [some (aR b), none, none, some (aI what), some (aI v_131), some (aI i)]) (am_dec tX12_brings_1 32 rfl) (by decide) rfl ?_
      refine T_iinc (ls' := [some (aR b), none, none, some (aI what), some (aI v_131), some (aI (i + 1))]) (i + 1) (am_dec tX12_brings_1 33 rfl) rfl rfl ⟨by omega, by omega⟩ (by decide) rfl ?_
      refine T_goto 75 (am_dec tX12_brings_1 34 rfl) rfl ?_
      have e9 : (g_k_brings_75 q what) i v = v_131 := (by have s9 := ht87.symm; subst s9; have s9 := hv_131.symm; subst s9; exact rfl)
      simp only [am_fold_s, e9] at k9
      exact ih (i + 1) v_131 (by omega) (by omega) k9
    refine T_if_ne 100 (am_dec tX12_brings_1 9 rfl) rfl (fun h87 => ?_) (fun h87 => ?_)
    · refine T_iload_n (am_dec tX12_brings_1 15 rfl) rfl ?_
      refine T_iconst 1 (am_dec tX12_brings_1 16 rfl) rfl ⟨by decide, by decide⟩ ?_
      have K102 : ∀ (t102 : Int), t102 = (if what = 1 then (q 732 i.toNat) else (if q 732 i.toNat ≤ 0 then 0 else 1)) →  am_T S zX12_brings d u Q 130 [some (aR b), none, none, some (aI what), none, some (aI i)] [aI t102, aI v] (mdW w b c q) := by
        intro t102 ht102
        exact K87 _ (by have s9 := ht102.symm; subst s9; exact (if_neg h87).symm)
      refine T_icmp_ne 115 (am_dec tX12_brings_1 17 rfl) rfl (fun h102 => ?_) (fun h102 => ?_)
      · refine T_aload_n (am_dec tX12_brings_1 23 rfl) rfl ?_
        refine T_getfield 11 65 (am_dec tX12_brings_1 24 rfl) flX12_145_11 (md_obj hl) rfl ?_
        refine T_iload (am_dec tX12_brings_1 25 rfl) rfl ?_
        refine T_ialoadE (x := q 732 i.toNat) (am_dec tX12_brings_1 26 rfl) (md_got hl) (by omega) (by omega) rfl ?_
        have K122 : ∀ (t122 : Int), t122 = (if q 732 i.toNat ≤ 0 then 0 else 1) →  am_T S zX12_brings d u Q 130 [some (aR b), none, none, some (aI what), none, some (aI i)] [aI t122, aI v] (mdW w b c q) := by
          intro t122 ht122
          have hbt122 : t122 = 0 ∨ t122 = 1 := by
            rw [ht122]
            try dsimp only
            repeat' split
            all_goals first | exact Or.inl rfl | exact Or.inr rfl | apply k_in_b | apply k_isDigit_b | apply k_isSmall_b | apply k_bad_b | apply k_isIn_b | apply k_isStep_b | apply k_isFirst_b | apply k_isLine_b | apply k_seesBy_b | apply k_isWalker_b | apply k_seesOne_b | apply k_badTwo_b | apply k_sees_b | apply k_isCode_b | apply k_isLot_b | apply k_isShip_b | apply k_areRight_b | apply k_right_b | apply k_areSeeds_b | apply k_badBid_b | omega
          exact K102 _ (by have s9 := ht122.symm; subst s9; exact (if_neg h102).symm)
        refine T_if_le 129 (am_dec tX12_brings_1 27 rfl) rfl (fun h122 => ?_) (fun h122 => ?_)
        · refine T_iconst 0 (am_dec tX12_brings_1 30 rfl) rfl ⟨by decide, by decide⟩ ?_
          refine T_weak (ls' := [some (aR b), none, none, some (aI what), none, some (aI i)]) (am_sub_s (am_sub_n (am_sub_n (am_sub_s (am_sub_n (am_sub_s am_sub_nil)))))) ?_
          exact K122 _ (if_pos h122).symm
        · refine T_iconst 1 (am_dec tX12_brings_1 28 rfl) rfl ⟨by decide, by decide⟩ ?_
          refine T_goto 130 (am_dec tX12_brings_1 29 rfl) rfl ?_
          refine T_weak (ls' := [some (aR b), none, none, some (aI what), none, some (aI i)]) (am_sub_s (am_sub_n (am_sub_n (am_sub_s (am_sub_n (am_sub_s am_sub_nil)))))) ?_
          exact K122 _ (if_neg h122).symm
      · refine T_aload_n (am_dec tX12_brings_1 18 rfl) rfl ?_
        refine T_getfield 11 65 (am_dec tX12_brings_1 19 rfl) flX12_145_11 (md_obj hl) rfl ?_
        refine T_iload (am_dec tX12_brings_1 20 rfl) rfl ?_
        refine T_ialoadE (x := q 732 i.toNat) (am_dec tX12_brings_1 21 rfl) (md_got hl) (by omega) (by omega) rfl ?_
        refine T_goto 130 (am_dec tX12_brings_1 22 rfl) rfl ?_
        refine T_weak (ls' := [some (aR b), none, none, some (aI what), none, some (aI i)]) (am_sub_s (am_sub_n (am_sub_n (am_sub_s (am_sub_n (am_sub_s am_sub_nil)))))) ?_
        exact K102 _ (if_pos h102).symm
    · refine T_aload_n (am_dec tX12_brings_1 10 rfl) rfl ?_
      refine T_getfield 11 66 (am_dec tX12_brings_1 11 rfl) flX12_148_11 (md_obj hl) rfl ?_
      refine T_iload (am_dec tX12_brings_1 12 rfl) rfl ?_
      refine T_ialoadE (x := q 733 i.toNat) (am_dec tX12_brings_1 13 rfl) (md_paid hl) (by omega) (by omega) rfl ?_
      refine T_goto 130 (am_dec tX12_brings_1 14 rfl) rfl ?_
      refine T_weak (ls' := [some (aR b), none, none, some (aI what), none, some (aI i)]) (am_sub_s (am_sub_n (am_sub_n (am_sub_s (am_sub_n (am_sub_s am_sub_nil)))))) ?_
      exact K87 _ (if_pos h87).symm
def k_brings (c : am_F) (q : am_F) (k : Int) (t : Int) (what : Int) : Int × am_F := (let z8 : Int := (k_isLot c k); (let t11 : Int := (if z8 = 0 then 1 else 0); (let q21 : am_F := (k_refuse (am_put q 0 0 0) t11 1 1); (let z21 : Int := (if t11 = 0 then 0 else 1); (if z21 = 0 then (let z29 : Int := (k_isStep t); (let t32 : Int := (if z29 = 0 then 1 else (let z38 : Int := (k_in what 0 2); (if z38 = 0 then 1 else 0))); (let q51 : am_F := (k_refuse q21 t32 2 2); (let z51 : Int := (if t32 = 0 then 0 else 1); (if z51 = 0 then (let q60 : am_F := k_goes c q51; (let q66 : am_F := k_rules c q60 k t; (let v_75 : Int := am_fold (g_k_brings_75 q66 what) 0 (c 0 30).toNat 0; (v_75, q66)))) else (0, q51)))))) else (0, q21))))))
theorem mk_brings {S : am_S} {d u : Nat} {w : AH} {b : Nat} (hl : b + 735 ≤ w.length) {c : am_F} {q : am_F} (k : Int) (t : Int) (what : Int) (hV : MdV c) (hWd : MdWd c) (hS9 : MdS c) (hLp : MdLp c) (hDu : MdDu c) (hL : MdL c) (hB9 : MdB c) (hP9 : MdP c) (hd : 5 ≤ d) : am_Out S zX12_brings d u [aR b, aI k, aI t, aI what] (mdW w b c q) (.inl (some (aI ((k_brings c q k t what).1)))) (mdW w b c ((k_brings c q k t what).2)) := by
  have key : ∀ Q : AO → AH → Prop, Q (.inl (some (aI ((k_brings c q k t what).1)))) (mdW w b c ((k_brings c q k t what).2)) → am_M S zX12_brings d u [aR b, aI k, aI t, aI what] (mdW w b c q) Q := by
    intro Q hQ
    refine am_body rfl (by decide +kernel) rfl (am_cats_cons rfl ( am_cats_cons rfl ( am_cats_cons rfl ( am_cats_cons rfl (am_cats_nil))))) (Nat.le_of_ble_eq_true rfl) (?_ : am_T _ _ _ _ _ 0 [some (aR b), some (aI k), some (aI t), some (aI what), none, none] [] (mdW w b c q))
    obtain ⟨vl0, vu0⟩ := MdV_0 hV
    obtain ⟨vl1, vu1⟩ := MdV_1 hV
    obtain ⟨vl3, vu3⟩ := MdV_3 hV
    obtain ⟨vl12, vu12⟩ := MdV_12 hV
    refine T_aload_n (am_dec tX12_brings_0 0 rfl) rfl ?_
    refine T_iconst 0 (am_dec tX12_brings_0 1 rfl) rfl ⟨by decide, by decide⟩ ?_
    refine T_putfield (fs' := mdO b (c 0) (am_up (q 0) 0 0)) 11 0 (am_dec tX12_brings_0 2 rfl) flX12_160_11 rfl rfl rfl trivial (md_obj hl) (Nat.le_of_ble_eq_true rfl) rfl ?_
    refine am_wE (w2 := mdW w b c (am_put q 0 0 0)) (md_fq) ?_
    refine T_aload_n (am_dec tX12_brings_0 3 rfl) rfl ?_
    refine T_aload_n (am_dec tX12_brings_0 4 rfl) rfl ?_
    refine T_iload_n (am_dec tX12_brings_0 5 rfl) rfl ?_
    refine T_callV (as := [aI k]) rfl (am_dec tX12_brings_0 6 rfl) lkX12_412 (md_obj hl) rfl rfl (Nat.le_of_ble_eq_true rfl) (by omega) (mk_isLot (d := d - 1) hl k  hV (by omega)) (fun _ => ?_)
    refine T_nm (fun z8 hz8 => ?_)
    have hb8 := k_isLot_b c k
    rw [← hz8] at hb8
    have hs8 := k_isLot_s c k
    rw [← hz8] at hs8
    have K11 : ∀ (t11 : Int), t11 = (if z8 = 0 then 1 else 0) →  am_T S zX12_brings d u Q 19 [some (aR b), some (aI k), some (aI t), some (aI what), none, none] [aI t11, aR b] (mdW w b c (am_put q 0 0 0)) := by
      intro t11 ht11
      have hbt11 : t11 = 0 ∨ t11 = 1 := by
        rw [ht11]
        try dsimp only
        repeat' split
        all_goals first | exact Or.inl rfl | exact Or.inr rfl | apply k_in_b | apply k_isDigit_b | apply k_isSmall_b | apply k_bad_b | apply k_isIn_b | apply k_isStep_b | apply k_isFirst_b | apply k_isLine_b | apply k_seesBy_b | apply k_isWalker_b | apply k_seesOne_b | apply k_badTwo_b | apply k_sees_b | apply k_isCode_b | apply k_isLot_b | apply k_isShip_b | apply k_areRight_b | apply k_right_b | apply k_areSeeds_b | apply k_badBid_b | omega
      refine T_iconst 1 (am_dec tX12_brings_0 11 rfl) rfl ⟨by decide, by decide⟩ ?_
      refine T_iconst 1 (am_dec tX12_brings_0 12 rfl) rfl ⟨by decide, by decide⟩ ?_
      refine T_callV (as := [aI t11, aI 1, aI 1]) rfl (am_dec tX12_brings_0 13 rfl) lkX12_275 (md_obj hl) rfl rfl (Nat.le_of_ble_eq_true rfl) (by omega) (mk_bad0 (d := d - 1) hl t11 1 1 (by omega) am_put_s (by omega)) (fun _ => ?_)
      refine T_nmH (W := fun x9 => mdW w b c x9) (v := (k_refuse (am_put q 0 0 0) t11 1 1)) (fun q21 hq21 => ?_)
      refine T_nm (fun z21 hz21 => ?_)
      have hq021 : t11 = 0 → q21 0 0 = 0 := fun h9 => by rw [hq21]; exact k_refuse_0 am_put_s h9
      refine T_if_ne 57 (am_dec tX12_brings_0 14 rfl) rfl (fun h24 => ?_) (fun h24 => ?_)
      · refine T_iconst 0 (am_dec tX12_brings_0 31 rfl) rfl ⟨by decide, by decide⟩ ?_
        exact T_ireturn (am_dec tX12_brings_0 32 rfl) rfl (am_tr (fun (x9 : Int × am_F) => Q (.inl (some (aI (x9.1)))) (mdW w b c x9.2)) (y := (0, q21)) (show (k_brings c q k t what) = (0, q21) from (by have s9 := hz8.symm; subst s9; have s9 := ht11.symm; subst s9; have s9 := hq21.symm; subst s9; have s9 := hz21.symm; subst s9; exact (if_neg h24))) hQ)
      · refine T_aload_n (am_dec tX12_brings_0 15 rfl) rfl ?_
        refine T_iload_n (am_dec tX12_brings_0 16 rfl) rfl ?_
        refine T_callS (as := [aI t]) rfl (am_dec tX12_brings_0 17 rfl) lkX12_351 rfl (Nat.le_of_ble_eq_true rfl) (by omega) (mk_isStep (d := d - 1)  t   (by omega)) (fun _ => ?_)
        refine T_nm (fun z29 hz29 => ?_)
        have hb29 := k_isStep_b t
        rw [← hz29] at hb29
        have hs29 := k_isStep_s t
        rw [← hz29] at hs29
        have K32 : ∀ (t32 : Int), t32 = (if z29 = 0 then 1 else (let z38 : Int := (k_in what 0 2); (if z38 = 0 then 1 else 0))) →  am_T S zX12_brings d u Q 49 [some (aR b), some (aI k), some (aI t), some (aI what), none, none] [aI t32, aR b] (mdW w b c q21) := by
          intro t32 ht32
          have hxt32 := ht32
          dsimp only at hxt32
          have hy2 := k_in_s what 0 2
          have hbt32 : t32 = 0 ∨ t32 = 1 := by
            rw [ht32]
            try dsimp only
            repeat' split
            all_goals first | exact Or.inl rfl | exact Or.inr rfl | apply k_in_b | apply k_isDigit_b | apply k_isSmall_b | apply k_bad_b | apply k_isIn_b | apply k_isStep_b | apply k_isFirst_b | apply k_isLine_b | apply k_seesBy_b | apply k_isWalker_b | apply k_seesOne_b | apply k_badTwo_b | apply k_sees_b | apply k_isCode_b | apply k_isLot_b | apply k_isShip_b | apply k_areRight_b | apply k_right_b | apply k_areSeeds_b | apply k_badBid_b | omega
          refine T_iconst 2 (am_dec tX12_brings_0 27 rfl) rfl ⟨by decide, by decide⟩ ?_
          refine T_iconst 2 (am_dec tX12_brings_0 28 rfl) rfl ⟨by decide, by decide⟩ ?_
          refine T_callV (as := [aI t32, aI 2, aI 2]) rfl (am_dec tX12_brings_0 29 rfl) lkX12_275 (md_obj hl) rfl rfl (Nat.le_of_ble_eq_true rfl) (by omega) (mk_bad0 (d := d - 1) hl t32 2 2 (by omega) (hq021 (by omega)) (by omega)) (fun _ => ?_)
          refine T_nmH (W := fun x9 => mdW w b c x9) (v := (k_refuse q21 t32 2 2)) (fun q51 hq51 => ?_)
          refine T_nm (fun z51 hz51 => ?_)
          have hq051 : t32 = 0 → q51 0 0 = 0 := fun h9 => by rw [hq51]; exact k_refuse_0 (hq021 (by omega)) h9
          refine T_if_eq 59 (am_dec tX12_brings_0 30 rfl) rfl (fun h54 => ?_) (fun h54 => ?_)
          · refine T_aload_n (am_dec tX12_brings_0 33 rfl) rfl ?_
            refine T_callV (as := []) rfl (am_dec tX12_brings_0 34 rfl) lkX12_345 (md_obj hl) rfl rfl (Nat.le_of_ble_eq_true rfl) (by omega) (mk_goes (d := d - 1) hl   hV hWd hS9 hLp hDu (by omega)) (fun _ => ?_)
            refine T_nmH (W := fun x9 => mdW w b c x9) (v := k_goes c q51) (fun q60 hq60 => ?_)
            refine T_aload_n (am_dec tX12_brings_0 35 rfl) rfl ?_
            refine T_iload_n (am_dec tX12_brings_0 36 rfl) rfl ?_
            refine T_iload_n (am_dec tX12_brings_0 37 rfl) rfl ?_
            refine T_callV (as := [aI k, aI t]) rfl (am_dec tX12_brings_0 38 rfl) lkX12_518 (md_obj hl) rfl rfl (Nat.le_of_ble_eq_true rfl) (by omega) (mk_rules (d := d - 1) hl k t  hV hL hB9 hP9 (by omega) (by omega) (by omega)) (fun _ => ?_)
            refine T_nmH (W := fun x9 => mdW w b c x9) (v := k_rules c q60 k t) (fun q66 hq66 => ?_)
            refine T_iconst 0 (am_dec tX12_brings_0 39 rfl) rfl ⟨by decide, by decide⟩ ?_
            refine T_istore (ls' := [some (aR b), some (aI k), some (aI t), some (aI what), some (aI 0), none]) (am_dec tX12_brings_1 0 rfl) (by decide) rfl ?_
            refine T_iconst 0 (am_dec tX12_brings_1 1 rfl) rfl ⟨by decide, by decide⟩ ?_
            refine T_istore (ls' := [some (aR b), some (aI k), some (aI t), some (aI what), some (aI 0), some (aI 0)]) (am_dec tX12_brings_1 2 rfl) (by decide) rfl ?_
            refine T_weak (ls' := [some (aR b), none, none, some (aI what), some (aI 0), some (aI 0)]) (am_sub_s (am_sub_n (am_sub_n (am_sub_s (am_sub_s (am_sub_s am_sub_nil)))))) ?_
            refine L_k_brings_75 hl c q66 what hV hWd hS9 hLp hDu hL hB9 hP9  (by omega) _ rfl (c 0 30).toNat 0 0 (by omega) (by omega) (fun v_75 hv_75 => ?_)
            refine T_iload (am_dec tX12_brings_1 35 rfl) rfl ?_
            exact T_ireturn (am_dec tX12_brings_1 36 rfl) rfl (am_tr (fun (x9 : Int × am_F) => Q (.inl (some (aI (x9.1)))) (mdW w b c x9.2)) (y := (v_75, q66)) (show (k_brings c q k t what) = (v_75, q66) from (by have s9 := hz8.symm; subst s9; have s9 := ht11.symm; subst s9; have s9 := hq21.symm; subst s9; have s9 := hz21.symm; subst s9; have s9 := hz29.symm; subst s9; have s9 := ht32.symm; subst s9; have s9 := hq51.symm; subst s9; have s9 := hz51.symm; subst s9; have s9 := hq60.symm; subst s9; have s9 := hq66.symm; subst s9; have s9 := hv_75.symm; subst s9; exact ((if_pos h24).trans (if_pos h54)))) hQ)
          · refine T_iconst 0 (am_dec tX12_brings_0 31 rfl) rfl ⟨by decide, by decide⟩ ?_
            exact T_ireturn (am_dec tX12_brings_0 32 rfl) rfl (am_tr (fun (x9 : Int × am_F) => Q (.inl (some (aI (x9.1)))) (mdW w b c x9.2)) (y := (0, q51)) (show (k_brings c q k t what) = (0, q51) from (by have s9 := hz8.symm; subst s9; have s9 := ht11.symm; subst s9; have s9 := hq21.symm; subst s9; have s9 := hz21.symm; subst s9; have s9 := hz29.symm; subst s9; have s9 := ht32.symm; subst s9; have s9 := hq51.symm; subst s9; have s9 := hz51.symm; subst s9; exact ((if_pos h24).trans (if_neg h54)))) hQ)
        refine T_if_eq 44 (am_dec tX12_brings_0 18 rfl) rfl (fun h32 => ?_) (fun h32 => ?_)
        · refine T_iconst 1 (am_dec tX12_brings_0 24 rfl) rfl ⟨by decide, by decide⟩ ?_
          refine T_goto 49 (am_dec tX12_brings_0 25 rfl) rfl ?_
          exact K32 _ (if_pos h32).symm
        · refine T_iload_n (am_dec tX12_brings_0 19 rfl) rfl ?_
          refine T_iconst 0 (am_dec tX12_brings_0 20 rfl) rfl ⟨by decide, by decide⟩ ?_
          refine T_iconst 2 (am_dec tX12_brings_0 21 rfl) rfl ⟨by decide, by decide⟩ ?_
          refine T_callS (as := [aI what, aI 0, aI 2]) rfl (am_dec tX12_brings_0 22 rfl) lkX12_194 rfl (Nat.le_of_ble_eq_true rfl) (by omega) (mk_in (d := d - 1)  what 0 2   ) (fun _ => ?_)
          refine T_nm (fun z38 hz38 => ?_)
          have hb38 := k_in_b what 0 2
          rw [← hz38] at hb38
          have hs38 := k_in_s what 0 2
          rw [← hz38] at hs38
          have K41 : ∀ (t41 : Int), t41 = (if z38 = 0 then 1 else 0) →  am_T S zX12_brings d u Q 49 [some (aR b), some (aI k), some (aI t), some (aI what), none, none] [aI t41, aR b] (mdW w b c q21) := by
            intro t41 ht41
            have hbt41 : t41 = 0 ∨ t41 = 1 := by
              rw [ht41]
              try dsimp only
              repeat' split
              all_goals first | exact Or.inl rfl | exact Or.inr rfl | apply k_in_b | apply k_isDigit_b | apply k_isSmall_b | apply k_bad_b | apply k_isIn_b | apply k_isStep_b | apply k_isFirst_b | apply k_isLine_b | apply k_seesBy_b | apply k_isWalker_b | apply k_seesOne_b | apply k_badTwo_b | apply k_sees_b | apply k_isCode_b | apply k_isLot_b | apply k_isShip_b | apply k_areRight_b | apply k_right_b | apply k_areSeeds_b | apply k_badBid_b | omega
            exact K32 _ (by have s9 := hz38.symm; subst s9; have s9 := ht41.symm; subst s9; exact (if_neg h32).symm)
          refine T_if_ne 48 (am_dec tX12_brings_0 23 rfl) rfl (fun h41 => ?_) (fun h41 => ?_)
          · refine T_iconst 0 (am_dec tX12_brings_0 26 rfl) rfl ⟨by decide, by decide⟩ ?_
            exact K41 _ (if_neg h41).symm
          · refine T_iconst 1 (am_dec tX12_brings_0 24 rfl) rfl ⟨by decide, by decide⟩ ?_
            refine T_goto 49 (am_dec tX12_brings_0 25 rfl) rfl ?_
            exact K41 _ (if_pos h41).symm
    refine T_if_ne 18 (am_dec tX12_brings_0 7 rfl) rfl (fun h11 => ?_) (fun h11 => ?_)
    · refine T_iconst 0 (am_dec tX12_brings_0 10 rfl) rfl ⟨by decide, by decide⟩ ?_
      exact K11 _ (if_neg h11).symm
    · refine T_iconst 1 (am_dec tX12_brings_0 8 rfl) rfl ⟨by decide, by decide⟩ ?_
      refine T_goto 19 (am_dec tX12_brings_0 9 rfl) rfl ?_
      exact K11 _ (if_pos h11).symm
  exact key _ ⟨rfl, rfl⟩
