/-! the model: a rule's tests and sums, level by level -/
def LmC (S : am_S) (w : AH) (b : Nat) (q : am_F) (z : am_Z) (E : Nat) (nf : Int) (f : am_F → am_F) : Prop := ∀ (d' : Nat) (c : am_F), E ≤ d' → MI c → 6 - c 0 50 ≤ nf → am_Out S z d' 0 [aR b] (mdW w b c q) (.inl none) (mdW w b (f c) q)
def LmI (f : am_F → am_F) : Prop := ∀ c, MI c → MR c (f c) 0 0
def k_oneHere (c : am_F) (fs : am_F → am_F) : am_F := (if c 0 5 = 0 then (let c9 : am_F := k_blanks c; (let n17 : Int := (k_byteAt c9 (c9 0 4)); (if n17 = 40 then (let u26 : Int × am_F := k_opens c9; (if (u26).1 = 0 then (u26).2 else (let c44 : am_F := fs (am_put (u26).2 0 4 (((u26).2 0 4) + 1)); (let c50 : am_F := k_sign c44 41; (am_put c50 0 50 ((c50 0 50) - 1)))))) else (let n69 : Int := (k_byteAt c9 (c9 0 4)); (let z72 : Int := (k_isDigit n69); (if z72 = 0 then (let u93 : Int × am_F := k_knownHere c9; (let c99 : am_F := (if (u93).1 = (-1) then k_wrong ((u93).2) 1 ((u93).2 0 4) else ((u93).2)); k_says c99 1 ((u93).1))) else (let u85 : Int × am_F := k_number c9 0 999; k_says ((u85).2) 0 ((u85).1)))))))) else c)
theorem mk_oneHere {S : am_S} {d u : Nat} {w : AH} {b : Nat} (hl : b + 735 ≤ w.length) {c : am_F} {q : am_F} (E : Nat) (nf : Int) (fs : am_F → am_F) (hM : MI c) (hE : E + 1 ≤ d) (hnf : 6 - c 0 50 ≤ nf) (hfs : LmC S w b q zX12_sum E (nf - 1) fs) (hfi : LmI fs)  (hd : 8 ≤ d) : am_Out S zX12_oneHere d u [aR b] (mdW w b c q) (.inl none) (mdW w b (k_oneHere c fs) q) := by
  have key : ∀ Q : AO → AH → Prop, Q (.inl none) (mdW w b (k_oneHere c fs) q) → am_M S zX12_oneHere d u [aR b] (mdW w b c q) Q := by
    intro Q hQ
    refine am_body rfl (by decide +kernel) rfl (am_cats_cons rfl (am_cats_nil)) (Nat.le_of_ble_eq_true rfl) (?_ : am_T _ _ _ _ _ 0 [some (aR b), none] [] (mdW w b c q))
    have hM9 := hM
    obtain ⟨hMr, hM2, hM3, hM4, hM5⟩ := hM9
    have hR := hMr
    obtain ⟨r1, r2, r3⟩ := hMr
    have hMR0 := MR_r hM
    refine T_aload_n (am_dec tX12_oneHere_0 0 rfl) rfl ?_
    refine T_getfield 11 5 (am_dec tX12_oneHere_0 1 rfl) flX12_176_11 (md_obj hl) rfl ?_
    refine T_if_eq 8 (am_dec tX12_oneHere_0 2 rfl) rfl (fun h4 => ?_) (fun h4 => ?_)
    · refine T_aload_n (am_dec tX12_oneHere_0 4 rfl) rfl ?_
      refine T_callV (as := []) rfl (am_dec tX12_oneHere_0 5 rfl) lkX12_182 (md_obj hl) rfl rfl (Nat.le_of_ble_eq_true rfl) (by omega) (mk_blanks (d := d - 1) hl   hMR0.1 (by omega)) (fun _ => ?_)
      refine T_nmH (W := fun x9 => mdW w b x9 q) (v := k_blanks c) (fun c9 hc9 => ?_)
      have hm9 : MR c c9 (0) (0) := by rw [hc9]; exact MR_le (MR_E hMR0 (Ea_blanks (Ea_r hMR0.1)).1) (by omega)
      have hR_hm9 : RdV c9 := hm9.1
      obtain ⟨rahm9, rbhm9, rchm9⟩ : RdV c9 := hR_hm9
      have hohm9 : c9 0 50 = c 0 50 + (0) := hm9.2.2.2.1
      have hnhm9 := hm9.2.2.1
      have hghm9 := MR_at hm9
      have hyhm9 := hm9.2.1.1
      have hf9 : c9 0 5 = c 0 5 := by rw [hc9]; exact k_blanks_5
      refine T_aload_n (am_dec tX12_oneHere_0 6 rfl) rfl ?_
      refine T_aload_n (am_dec tX12_oneHere_0 7 rfl) rfl ?_
      refine T_getfield 11 4 (am_dec tX12_oneHere_0 8 rfl) flX12_169_11 (md_obj hl) rfl ?_
      refine T_callV (as := [aI (c9 0 4)]) rfl (am_dec tX12_oneHere_0 9 rfl) lkX12_172 (md_obj hl) rfl rfl (Nat.le_of_ble_eq_true rfl) (by omega) (mk_byteAt (d := d - 1) hl (c9 0 4)  (by omega) ) (fun _ => ?_)
      refine T_nm (fun n17 hn17 => ?_)
      have hs17 : ((c9 0 4) < c9 0 2 ∧ n17 = c9 1 (c9 0 4).toNat) ∨ (c9 0 2 ≤ (c9 0 4) ∧ n17 = -1) := by rw [hn17]; exact k_byteAt_s _ _
      refine T_bipush 40 (am_dec tX12_oneHere_0 10 rfl) rfl ⟨by decide, by decide⟩ ?_
      refine T_icmp_ne 64 (am_dec tX12_oneHere_0 11 rfl) rfl (fun h22 => ?_) (fun h22 => ?_)
      · refine T_aload_n (am_dec tX12_oneHere_0 34 rfl) rfl ?_
        refine T_aload_n (am_dec tX12_oneHere_0 35 rfl) rfl ?_
        refine T_getfield 11 4 (am_dec tX12_oneHere_0 36 rfl) flX12_169_11 (md_obj hl) rfl ?_
        refine T_callV (as := [aI (c9 0 4)]) rfl (am_dec tX12_oneHere_0 37 rfl) lkX12_172 (md_obj hl) rfl rfl (Nat.le_of_ble_eq_true rfl) (by omega) (mk_byteAt (d := d - 1) hl (c9 0 4)  (by omega) ) (fun _ => ?_)
        refine T_nm (fun n69 hn69 => ?_)
        have hs69 : ((c9 0 4) < c9 0 2 ∧ n69 = c9 1 (c9 0 4).toNat) ∨ (c9 0 2 ≤ (c9 0 4) ∧ n69 = -1) := by rw [hn69]; exact k_byteAt_s _ _
        refine T_callS (as := [aI n69]) rfl (am_dec tX12_oneHere_0 38 rfl) lkX12_185 rfl (Nat.le_of_ble_eq_true rfl) (by omega) (mk_isDigit (d := d - 1)  n69   ) (fun _ => ?_)
        refine T_nm (fun z72 hz72 => ?_)
        have hb72 := k_isDigit_b n69
        rw [← hz72] at hb72
        have hs72 := k_isDigit_s n69
        rw [← hz72] at hs72
        refine T_if_eq 92 (am_dec tX12_oneHere_0 39 rfl) rfl (fun h75 => ?_) (fun h75 => ?_)
        · refine T_aload_n (am_dec tX12_oneHere_1 8 rfl) rfl ?_
          refine T_callV (as := []) rfl (am_dec tX12_oneHere_1 9 rfl) lkX12_488 (md_obj hl) rfl rfl (Nat.le_of_ble_eq_true rfl) (by omega) (mk_knownHere (d := d - 1) hl   hm9.1 (by omega)) (fun _ => ?_)
          obtain ⟨u93, hu93⟩ : ∃ x9, x9 = k_knownHere c9 := ⟨_, rfl⟩
          rw [← hu93]
          have hm93 : MR c (u93).2 (0 + (if (u93).1 = -1 then 0 else 1)) (0) := by rw [hu93]; exact MR_le (MR_E hm9 (Ea_known (Ea_r hm9.1)).1) (by omega)
          have hR_hm93 : RdV (u93).2 := hm93.1
          obtain ⟨rahm93, rbhm93, rchm93⟩ : RdV (u93).2 := hR_hm93
          have hohm93 : (u93).2 0 50 = c 0 50 + (0) := hm93.2.2.2.1
          have hnhm93 := hm93.2.2.1
          have hghm93 := MR_at hm93
          have hyhm93 := hm93.2.1.1
          have hkb93 := (Ea_known (Ea_r hm9.1)).2
          rw [← hu93] at hkb93
          refine T_istore_n (ls' := [some (aR b), some (aI ((u93).1))]) (am_dec tX12_oneHere_1 10 rfl) (by decide) rfl ?_
          refine T_iload_n (am_dec tX12_oneHere_1 11 rfl) rfl ?_
          refine T_iconst (-1) (am_dec tX12_oneHere_1 12 rfl) rfl ⟨by decide, by decide⟩ ?_
          have K99 : ∀ (c99 : am_F), c99 = (if (u93).1 = (-1) then k_wrong ((u93).2) 1 ((u93).2 0 4) else ((u93).2)) →  am_T S zX12_oneHere d u Q 111 [some (aR b), some (aI ((u93).1))] [] (mdW w b c99 q) := by
            intro c99 hc99 
            have hm99 : MR c c99 (1) (0) := by
              rw [hc99]
              try dsimp only
              repeat' split
              all_goals first
                | exact MR_le hm93 (by omega)
                | exact MR_le (MR_E hm93 (Ea_wrong (j := 1000) (Ea_r hm93.1) (by decide))) (by omega)
            have hR_hm99 : RdV c99 := hm99.1
            obtain ⟨rahm99, rbhm99, rchm99⟩ : RdV c99 := hR_hm99
            have hohm99 : c99 0 50 = c 0 50 + (0) := hm99.2.2.2.1
            have hnhm99 := hm99.2.2.1
            have hghm99 := MR_at hm99
            have hyhm99 := hm99.2.1.1
            refine T_aload_n (am_dec tX12_oneHere_1 19 rfl) rfl ?_
            refine T_iconst 1 (am_dec tX12_oneHere_1 20 rfl) rfl ⟨by decide, by decide⟩ ?_
            refine T_iload_n (am_dec tX12_oneHere_1 21 rfl) rfl ?_
            refine T_callV (as := [aI 1, aI ((u93).1)]) rfl (am_dec tX12_oneHere_1 22 rfl) lkX12_464 (md_obj hl) rfl rfl (Nat.le_of_ble_eq_true rfl) (by omega) (mk_says (d := d - 1) hl 1 ((u93).1)  (by omega) ) (fun _ => ?_)
            refine T_nmH (W := fun x9 => mdW w b x9 q) (v := k_says c99 1 ((u93).1)) (fun c114 hc114 => ?_)
            have hm114 : MR c c114 (1 - 1) (0) := by rw [hc114]; exact MR_says hM hm99 (by omega)
            have hR_hm114 : RdV c114 := hm114.1
            obtain ⟨rahm114, rbhm114, rchm114⟩ : RdV c114 := hR_hm114
            have hohm114 : c114 0 50 = c 0 50 + (0) := hm114.2.2.2.1
            have hnhm114 := hm114.2.2.1
            have hghm114 := MR_at hm114
            have hyhm114 := hm114.2.1.1
            have hs114 := k_says_4 c99 (1) ((u93).1)
            rw [← hc114] at hs114
            obtain ⟨hs114a, hs114b⟩ := hs114
            exact T_return (am_dec tX12_oneHere_1 23 rfl) rfl (am_tr (fun (x9 : am_F) => Q (.inl none) (mdW w b x9 q)) (y := c114) (show (k_oneHere c fs) = c114 from (by have s9 := hc9.symm; subst s9; have s9 := hn17.symm; subst s9; have s9 := hn69.symm; subst s9; have s9 := hz72.symm; subst s9; have s9 := hu93.symm; subst s9; have s9 := hc99.symm; subst s9; have s9 := hc114.symm; subst s9; exact ((if_pos h4).trans ((if_neg h22).trans (if_pos h75))))) hQ)
          refine T_icmp_ne 111 (am_dec tX12_oneHere_1 13 rfl) rfl (fun h99 => ?_) (fun h99 => ?_)
          · exact K99 _ (if_neg h99).symm 
          · refine T_aload_n (am_dec tX12_oneHere_1 14 rfl) rfl ?_
            refine T_iconst 1 (am_dec tX12_oneHere_1 15 rfl) rfl ⟨by decide, by decide⟩ ?_
            refine T_aload_n (am_dec tX12_oneHere_1 16 rfl) rfl ?_
            refine T_getfield 11 4 (am_dec tX12_oneHere_1 17 rfl) flX12_169_11 (md_obj hl) rfl ?_
            refine T_callV (as := [aI 1, aI ((u93).2 0 4)]) rfl (am_dec tX12_oneHere_1 18 rfl) lkX12_189 (md_obj hl) rfl rfl (Nat.le_of_ble_eq_true rfl) (by omega) (mk_wrong (d := d - 1) hl 1 ((u93).2 0 4)   ) (fun _ => ?_)
            refine T_nmH (W := fun x9 => mdW w b x9 q) (v := k_wrong ((u93).2) 1 ((u93).2 0 4)) (fun c108 hc108 => ?_)
            have hm108 : MR c c108 (0 + (if (u93).1 = -1 then 0 else 1) + 1000) (0) := by rw [hc108]; exact MR_le (MR_E hm93 (Ea_wrong (j := 1000) (Ea_r hm93.1) (by decide))) (by omega)
            have hR_hm108 : RdV c108 := hm108.1
            obtain ⟨rahm108, rbhm108, rchm108⟩ : RdV c108 := hR_hm108
            have hohm108 : c108 0 50 = c 0 50 + (0) := hm108.2.2.2.1
            have hnhm108 := hm108.2.2.1
            have hghm108 := MR_at hm108
            have hyhm108 := hm108.2.1.1
            exact K99 _ (by have s9 := hc108.symm; subst s9; exact (if_pos h99).symm) 
        · refine T_aload_n (am_dec tX12_oneHere_1 0 rfl) rfl ?_
          refine T_iconst 0 (am_dec tX12_oneHere_1 1 rfl) rfl ⟨by decide, by decide⟩ ?_
          refine T_aload_n (am_dec tX12_oneHere_1 2 rfl) rfl ?_
          refine T_iconst 0 (am_dec tX12_oneHere_1 3 rfl) rfl ⟨by decide, by decide⟩ ?_
          refine T_sipush 999 (am_dec tX12_oneHere_1 4 rfl) rfl ⟨by decide, by decide⟩ ?_
          refine T_callV (as := [aI 0, aI 999]) rfl (am_dec tX12_oneHere_1 5 rfl) lkX12_231 (md_obj hl) rfl rfl (Nat.le_of_ble_eq_true rfl) (by omega) (mk_number (d := d - 1) hl 0 999  hm9.1 (by omega)) (fun _ => ?_)
          obtain ⟨u85, hu85⟩ : ∃ x9, x9 = k_number c9 0 999 := ⟨_, rfl⟩
          rw [← hu85]
          have hm85 : MR c (u85).2 (0 + 1) (0) := by rw [hu85]; exact MR_le (MR_E hm9 (Ea_number (Ea_r hm9.1))) (by omega)
          have hR_hm85 : RdV (u85).2 := hm85.1
          obtain ⟨rahm85, rbhm85, rchm85⟩ : RdV (u85).2 := hR_hm85
          have hohm85 : (u85).2 0 50 = c 0 50 + (0) := hm85.2.2.2.1
          have hnhm85 := hm85.2.2.1
          have hghm85 := MR_at hm85
          have hyhm85 := hm85.2.1.1
          refine T_callV (as := [aI 0, aI ((u85).1)]) rfl (am_dec tX12_oneHere_1 6 rfl) lkX12_464 (md_obj hl) rfl rfl (Nat.le_of_ble_eq_true rfl) (by omega) (mk_says (d := d - 1) hl 0 ((u85).1)  (by omega) ) (fun _ => ?_)
          refine T_nmH (W := fun x9 => mdW w b x9 q) (v := k_says ((u85).2) 0 ((u85).1)) (fun c88 hc88 => ?_)
          have hm88 : MR c c88 (0 + 1 - 1) (0) := by rw [hc88]; exact MR_says hM hm85 (by omega)
          have hR_hm88 : RdV c88 := hm88.1
          obtain ⟨rahm88, rbhm88, rchm88⟩ : RdV c88 := hR_hm88
          have hohm88 : c88 0 50 = c 0 50 + (0) := hm88.2.2.2.1
          have hnhm88 := hm88.2.2.1
          have hghm88 := MR_at hm88
          have hyhm88 := hm88.2.1.1
          have hs88 := k_says_4 ((u85).2) (0) ((u85).1)
          rw [← hc88] at hs88
          obtain ⟨hs88a, hs88b⟩ := hs88
          exact T_return (am_dec tX12_oneHere_1 7 rfl) rfl (am_tr (fun (x9 : am_F) => Q (.inl none) (mdW w b x9 q)) (y := c88) (show (k_oneHere c fs) = c88 from (by have s9 := hc9.symm; subst s9; have s9 := hn17.symm; subst s9; have s9 := hn69.symm; subst s9; have s9 := hz72.symm; subst s9; have s9 := hu85.symm; subst s9; have s9 := hc88.symm; subst s9; exact ((if_pos h4).trans ((if_neg h22).trans (if_neg h75))))) hQ)
      · refine T_aload_n (am_dec tX12_oneHere_0 12 rfl) rfl ?_
        refine T_callV (as := []) rfl (am_dec tX12_oneHere_0 13 rfl) lkX12_470 (md_obj hl) rfl rfl (Nat.le_of_ble_eq_true rfl) (by omega) (mk_opens (d := d - 1) hl   hm9.1 (by omega) (by omega)) (fun _ => ?_)
        obtain ⟨u26, hu26⟩ : ∃ x9, x9 = k_opens c9 := ⟨_, rfl⟩
        rw [← hu26]
        have hb26 := k_opens_b c9
        rw [← hu26] at hb26
        have hm26 : MR c (u26).2 (0) (0 + (u26).1) := by rw [hu26]; exact (MR_opens hm9 (by omega)).1
        have hR_hm26 : RdV (u26).2 := hm26.1
        obtain ⟨rahm26, rbhm26, rchm26⟩ : RdV (u26).2 := hR_hm26
        have hohm26 : (u26).2 0 50 = c 0 50 + (0 + (u26).1) := hm26.2.2.2.1
        have hnhm26 := hm26.2.2.1
        have hghm26 := MR_at hm26
        have hyhm26 := hm26.2.1.1
        have hq26 := (MR_opens hm9 (by omega)).2
        rw [← hu26] at hq26
        have hp26 := k_opens_4 c9
        rw [← hu26] at hp26
        obtain ⟨hp26a, hp26b⟩ := hp26
        refine T_if_ne 33 (am_dec tX12_oneHere_0 14 rfl) rfl (fun h29 => ?_) (fun h29 => ?_)
        · refine T_aload_n (am_dec tX12_oneHere_0 16 rfl) rfl ?_
          refine T_dup (am_dec tX12_oneHere_0 17 rfl) rfl ?_
          refine T_getfield 11 4 (am_dec tX12_oneHere_0 18 rfl) flX12_169_11 (md_obj hl) rfl ?_
          refine T_iconst 1 (am_dec tX12_oneHere_0 19 rfl) rfl ⟨by decide, by decide⟩ ?_
          refine T_iadd (((u26).2 0 4) + 1) (am_dec tX12_oneHere_0 20 rfl) rfl ⟨by omega, by omega⟩ ?_
          refine T_putfield (fs' := mdO b (am_up ((u26).2 0) 4 (((u26).2 0 4) + 1)) (q 0)) 11 4 (am_dec tX12_oneHere_0 21 rfl) flX12_169_11 rfl rfl rfl trivial (md_obj hl) (Nat.le_of_ble_eq_true rfl) rfl ?_
          refine am_wE (w2 := mdW w b (am_put (u26).2 0 4 (((u26).2 0 4) + 1)) q) (md_fc) ?_
          refine T_aload_n (am_dec tX12_oneHere_0 22 rfl) rfl ?_
          refine T_callV (as := []) rfl (am_dec tX12_oneHere_0 23 rfl) lkX12_476 (md_obj hl) rfl rfl (Nat.le_of_ble_eq_true rfl) (by omega) (hfs (d - 1) (am_put (u26).2 0 4 (((u26).2 0 4) + 1)) (by omega) (MR_I hM (MR_adv hm26 (by omega)) (by omega) (by omega)) (show 6 - ((u26).2 0 50) ≤ nf - 1 by omega)) (fun _ => ?_)
          refine T_nmH (W := fun x9 => mdW w b x9 q) (v := fs (am_put (u26).2 0 4 (((u26).2 0 4) + 1))) (fun c44 hc44 => ?_)
          have hMI44 : MI (am_put (u26).2 0 4 (((u26).2 0 4) + 1)) := (MR_I hM (MR_adv hm26 (by omega)) (by omega) (by omega))
          have hm44 : MR c c44 (0 + 1) (0 + (u26).1) := by rw [hc44]; exact MR_o (MR_le (MR_t (MR_adv hm26 (by omega)) (hfi (am_put (u26).2 0 4 (((u26).2 0 4) + 1)) (MR_I hM (MR_adv hm26 (by omega)) (by omega) (by omega)))) (by omega)) (by omega)
          have hR_hm44 : RdV c44 := hm44.1
          obtain ⟨rahm44, rbhm44, rchm44⟩ : RdV c44 := hR_hm44
          have hohm44 : c44 0 50 = c 0 50 + (0 + (u26).1) := hm44.2.2.2.1
          have hnhm44 := hm44.2.2.1
          have hghm44 := MR_at hm44
          have hyhm44 := hm44.2.1.1
          refine T_aload_n (am_dec tX12_oneHere_0 24 rfl) rfl ?_
          refine T_bipush 41 (am_dec tX12_oneHere_0 25 rfl) rfl ⟨by decide, by decide⟩ ?_
          refine T_callV (as := [aI 41]) rfl (am_dec tX12_oneHere_0 26 rfl) lkX12_264 (md_obj hl) rfl rfl (Nat.le_of_ble_eq_true rfl) (by omega) (mk_sign (d := d - 1) hl 41  hm44.1 (by omega) (by omega)) (fun _ => ?_)
          refine T_nmH (W := fun x9 => mdW w b x9 q) (v := k_sign c44 41) (fun c50 hc50 => ?_)
          have hm50 : MR c c50 (0 + 1) (0 + (u26).1) := by rw [hc50]; exact MR_le (MR_E hm44 (Ea_sign (Ea_r hm44.1) (by decide))) (by omega)
          have hR_hm50 : RdV c50 := hm50.1
          obtain ⟨rahm50, rbhm50, rchm50⟩ : RdV c50 := hR_hm50
          have hohm50 : c50 0 50 = c 0 50 + (0 + (u26).1) := hm50.2.2.2.1
          have hnhm50 := hm50.2.2.1
          have hghm50 := MR_at hm50
          have hyhm50 := hm50.2.1.1
          refine T_aload_n (am_dec tX12_oneHere_0 27 rfl) rfl ?_
          refine T_dup (am_dec tX12_oneHere_0 28 rfl) rfl ?_
          refine T_getfield 11 50 (am_dec tX12_oneHere_0 29 rfl) flX12_455_11 (md_obj hl) rfl ?_
          refine T_iconst 1 (am_dec tX12_oneHere_0 30 rfl) rfl ⟨by decide, by decide⟩ ?_
          refine T_isub ((c50 0 50) - 1) (am_dec tX12_oneHere_0 31 rfl) rfl ⟨by omega, by omega⟩ ?_
          refine T_putfield (fs' := mdO b (am_up (c50 0) 50 ((c50 0 50) - 1)) (q 0)) 11 50 (am_dec tX12_oneHere_0 32 rfl) flX12_455_11 rfl rfl rfl trivial (md_obj hl) (Nat.le_of_ble_eq_true rfl) rfl ?_
          refine am_wE (w2 := mdW w b (am_put c50 0 50 ((c50 0 50) - 1)) q) (md_fc) ?_
          exact T_return (am_dec tX12_oneHere_0 33 rfl) rfl (am_tr (fun (x9 : am_F) => Q (.inl none) (mdW w b x9 q)) (y := (am_put c50 0 50 ((c50 0 50) - 1))) (show (k_oneHere c fs) = (am_put c50 0 50 ((c50 0 50) - 1)) from (by have s9 := hc9.symm; subst s9; have s9 := hn17.symm; subst s9; have s9 := hu26.symm; subst s9; have s9 := hc44.symm; subst s9; have s9 := hc50.symm; subst s9; exact ((if_pos h4).trans ((if_pos h22).trans (if_neg h29))))) hQ)
        · exact T_return (am_dec tX12_oneHere_0 15 rfl) rfl (am_tr (fun (x9 : am_F) => Q (.inl none) (mdW w b x9 q)) (y := (u26).2) (show (k_oneHere c fs) = (u26).2 from (by have s9 := hc9.symm; subst s9; have s9 := hn17.symm; subst s9; have s9 := hu26.symm; subst s9; exact ((if_pos h4).trans ((if_pos h22).trans (if_pos h29))))) hQ)
    · exact T_return (am_dec tX12_oneHere_0 3 rfl) rfl (am_tr (fun (x9 : am_F) => Q (.inl none) (mdW w b x9 q)) (y := c) (show (k_oneHere c fs) = c from (if_neg h4)) hQ)
  exact key _ ⟨rfl, rfl⟩
