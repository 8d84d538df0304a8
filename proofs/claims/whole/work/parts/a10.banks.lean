/-! the port reader: banks, lots, walks, all clauses -/
theorem am_mn99 {a b : Int} (h1 : 0 ≤ a) : 0 ≤ (if a < b then a else b) ∨ b < 0 := by
  split <;> omega
def g_c_readBank_37 (mo : Int) (y : Int) (v3 : Int) (ss : am_F) : am_F := (let z59 : Int := f_has ss v3 y; (if z59 = 0 then ss else (let m88 : Int := (if ((ss 11) (v3 + (10 * y)).toNat) + mo < 99 then ((ss 11) (v3 + (10 * y)).toNat) + mo else 99); (am_put ss 11 ((v3 + (10 * y)).toNat) m88))))
theorem L_c_readBank_37 {S : am_S} {d u : Nat} {Q : AO → AH → Prop} {w : AH} {hb sp rb rs : Nat} {ro : AV} (hl : 109 ≤ w.length) (hp : hb = 1 ∧ sp = 21 ∨ hb = 21 ∧ sp = 1) (hr : rb = 41 ∧ rs = 46 ∨ rb = 46 ∧ rs = 41) (ee : am_F) (hh : am_F) (uu : am_F) (vv : am_F) (pp : am_F) (kk : am_F) (rr : am_F) (tt : am_F) (gg : am_F) (aa : am_F) (dd : am_F) (bd : am_F) (ga : am_F) (im : am_F) (mo : Int) (y : Int)  (hbk : (0 ≤ pp 0 7 ∧ pp 0 7 ≤ pp 0 9 ∧ pp 0 9 ≤ 8) ∧ 0 ≤ pp 0 8 ∧ pp 0 8 ≤ pp 0 10 ∧ pp 0 10 ≤ 8) (hmo : 1 ≤ mo ∧ mo ≤ 99) (hy9 : 0 ≤ y ∧ y ≤ 8) (hd : 4 ≤ d) (B9 : Int) (hB : B9 = (pp 0 9) + 1) : ∀ (n : Nat) (v3 : Int) (ss : am_F), v3 + n = B9 → 0 ≤ v3 → SpI ss → (∀ (ss' : am_F), ss' = am_fold (g_c_readBank_37 mo y) v3 n ss → SpI ss' → am_T S zX5_readBank d u Q 98 [some (aR 52), some (aI mo), some (aI y), none, none] [] (hfW w hb sp rb rs hb (aR sp) ro ee hh ss' uu vv pp kk rr tt gg aa dd bd ga im)) → am_T S zX5_readBank d u Q 37 [some (aR 52), some (aI mo), some (aI y), some (aI v3), none] [] (hfW w hb sp rb rs hb (aR sp) ro ee hh ss uu vv pp kk rr tt gg aa dd bd ga im) := by
  intro n
  induction n with
  | zero =>
    intro v3 ss hi9 h0i hinv k9
    have e9 : v3 = B9 := by omega
    subst e9
    have hS := hinv
    obtain ⟨vs1, vs2, vs3, vs4, vs5, vs6, vs7, vs8, vs9, vs10, vs11, vs12, vs13, vs14, vs15, vs16, vs17, vs18, vs19, vs20, vs21, vs22⟩ := (HbI_A hS.1).1
    refine T_iload_n (am_dec tX5_readBank_0 20 rfl) rfl ?_
    refine T_aload_n (am_dec tX5_readBank_0 21 rfl) rfl ?_
    refine T_getfield 5 9 (am_dec tX5_readBank_0 22 rfl) flX5_134_5 (show (hfW w hb sp rb rs hb (aR sp) ro ee hh ss uu vv pp kk rr tt gg aa dd bd ga im)[52]? = some (cO 5 [aR 51, aI (pp 0 1), aI (pp 0 2), aI (pp 0 3), aI (pp 0 4), aI (pp 0 5), aR sp, aI (pp 0 7), aI (pp 0 8), aI (pp 0 9), aI (pp 0 10)]) from (hfW_c hl 52 (by decide))) rfl ?_
    refine T_icmp_gt 98 (am_dec tX5_readBank_0 23 rfl) rfl (fun h42 => ?_) (fun h42 => by exfalso; omega)
    refine T_weak (ls' := [some (aR 52), some (aI mo), some (aI y), none, none]) (am_sub_s (am_sub_s (am_sub_s (am_sub_n (am_sub_n am_sub_nil))))) ?_
    exact k9 ss rfl hinv
  | succ n ih =>
    intro v3 ss hi9 h0i hinv k9
    have hS := hinv
    obtain ⟨vs1, vs2, vs3, vs4, vs5, vs6, vs7, vs8, vs9, vs10, vs11, vs12, vs13, vs14, vs15, vs16, vs17, vs18, vs19, vs20, vs21, vs22⟩ := (HbI_A hS.1).1
    refine T_iload_n (am_dec tX5_readBank_0 20 rfl) rfl ?_
    refine T_aload_n (am_dec tX5_readBank_0 21 rfl) rfl ?_
    refine T_getfield 5 9 (am_dec tX5_readBank_0 22 rfl) flX5_134_5 (show (hfW w hb sp rb rs hb (aR sp) ro ee hh ss uu vv pp kk rr tt gg aa dd bd ga im)[52]? = some (cO 5 [aR 51, aI (pp 0 1), aI (pp 0 2), aI (pp 0 3), aI (pp 0 4), aI (pp 0 5), aR sp, aI (pp 0 7), aI (pp 0 8), aI (pp 0 9), aI (pp 0 10)]) from (hfW_c hl 52 (by decide))) rfl ?_
    refine T_icmp_gt 98 (am_dec tX5_readBank_0 23 rfl) rfl (fun h42 => by exfalso; omega) (fun h42 => ?_)
    refine T_iload_n (am_dec tX5_readBank_0 24 rfl) rfl ?_
    refine T_bipush 10 (am_dec tX5_readBank_0 25 rfl) rfl ⟨by decide, by decide⟩ ?_
    refine T_iload_n (am_dec tX5_readBank_0 26 rfl) rfl ?_
    refine T_imul (10 * y) (am_dec tX5_readBank_0 27 rfl) rfl ⟨by omega, by omega⟩ ?_
    refine T_iadd (v3 + (10 * y)) (am_dec tX5_readBank_0 28 rfl) rfl ⟨by omega, by omega⟩ ?_
    refine T_istore (ls' := [some (aR 52), some (aI mo), some (aI y), some (aI v3), some (aI (v3 + (10 * y)))]) (am_dec tX5_readBank_0 29 rfl) (by decide) rfl ?_
    refine T_aload_n (am_dec tX5_readBank_0 30 rfl) rfl ?_
    refine T_getfield 5 6 (am_dec tX5_readBank_0 31 rfl) flX5_9_5 (show (hfW w hb sp rb rs hb (aR sp) ro ee hh ss uu vv pp kk rr tt gg aa dd bd ga im)[52]? = some (cO 5 [aR 51, aI (pp 0 1), aI (pp 0 2), aI (pp 0 3), aI (pp 0 4), aI (pp 0 5), aR sp, aI (pp 0 7), aI (pp 0 8), aI (pp 0 9), aI (pp 0 10)]) from (hfW_c hl 52 (by decide))) rfl ?_
    refine T_iload_n (am_dec tX5_readBank_0 32 rfl) rfl ?_
    refine T_iload_n (am_dec tX5_readBank_0 33 rfl) rfl ?_
    refine T_callV (as := [aI v3, aI y]) rfl (am_dec tX5_readBank_0 34 rfl) lkX5_143 (show (hfW w hb sp rb rs hb (aR sp) ro ee hh ss uu vv pp kk rr tt gg aa dd bd ga im)[sp]? = some (cO 3 [aI (ss 0 0), aI (ss 0 1), aI (ss 0 2), aR (sp + 1), aR (sp + 3), aR (sp + 5), aR (sp + 7), aR (sp + 9), aR (sp + 11), aR (sp + 13), aR (sp + 15), aR (sp + 17), aR (sp + 18), aR (sp + 19)]) from ((hf_S hl hp) 0 (by decide))) rfl rfl (Nat.le_of_ble_eq_true rfl) (by omega) (m_has (d := d - 1) (hf_S hl hp) v3 y) (fun _ => ?_)
    refine T_nm (fun z59 hz59 => ?_)
    have hb59 := f_has_x ss v3 y
    rw [← hz59] at hb59
    have K62 : ∀ (ss62 : am_F), ss62 = (if z59 = 0 then ss else (let m88 : Int := (if ((ss 11) (v3 + (10 * y)).toNat) + mo < 99 then ((ss 11) (v3 + (10 * y)).toNat) + mo else 99); (am_put ss 11 ((v3 + (10 * y)).toNat) m88))) →  am_T S zX5_readBank d u Q 92 [some (aR 52), some (aI mo), some (aI y), some (aI v3), none] [] (hfW w hb sp rb rs hb (aR sp) ro ee hh ss62 uu vv pp kk rr tt gg aa dd bd ga im) := by
      intro ss62 hss62 
      have hSss62 : SpI ss62 := by
        rw [hss62]
        try dsimp only
        repeat' split
        all_goals first | exact hS | exact SpI_put hS _ _ (by have hfs := HbI_Fs hS.1 (v3 + (10 * y)).toNat; omega) | exact SpI_sight hS _ (by omega) | exact SpI_size hS _ _ (by omega) (by omega)
      refine T_iinc (ls' := [some (aR 52), some (aI mo), some (aI y), some (aI (v3 + 1)), none]) (v3 + 1) (am_dec tX5_readBank_1 10 rfl) rfl rfl ⟨by omega, by omega⟩ (by decide) rfl ?_
      refine T_goto 37 (am_dec tX5_readBank_1 11 rfl) rfl ?_
      have e9 : (g_c_readBank_37 mo y) v3 ss = ss62 := (by have s9 := hz59.symm; subst s9; have s9 := hss62.symm; subst s9; exact rfl)
      simp only [am_fold_s, e9] at k9
      exact ih (v3 + 1) ss62 (by omega) (by omega) hSss62 k9
    refine T_if_eq 92 (am_dec tX5_readBank_0 35 rfl) rfl (fun h62 => ?_) (fun h62 => ?_)
    · refine T_weak (ls' := [some (aR 52), some (aI mo), some (aI y), some (aI v3), none]) (am_sub_s (am_sub_s (am_sub_s (am_sub_s (am_sub_n am_sub_nil))))) ?_
      exact K62 _ (if_pos h62).symm 
    · refine T_aload_n (am_dec tX5_readBank_0 36 rfl) rfl ?_
      refine T_getfield 5 6 (am_dec tX5_readBank_0 37 rfl) flX5_9_5 (show (hfW w hb sp rb rs hb (aR sp) ro ee hh ss uu vv pp kk rr tt gg aa dd bd ga im)[52]? = some (cO 5 [aR 51, aI (pp 0 1), aI (pp 0 2), aI (pp 0 3), aI (pp 0 4), aI (pp 0 5), aR sp, aI (pp 0 7), aI (pp 0 8), aI (pp 0 9), aI (pp 0 10)]) from (hfW_c hl 52 (by decide))) rfl ?_
      refine T_getfield 3 13 (am_dec tX5_readBank_0 38 rfl) flX5_147_3 (show (hfW w hb sp rb rs hb (aR sp) ro ee hh ss uu vv pp kk rr tt gg aa dd bd ga im)[sp]? = some (cO 3 [aI (ss 0 0), aI (ss 0 1), aI (ss 0 2), aR (sp + 1), aR (sp + 3), aR (sp + 5), aR (sp + 7), aR (sp + 9), aR (sp + 11), aR (sp + 13), aR (sp + 15), aR (sp + 17), aR (sp + 18), aR (sp + 19)]) from ((hf_S hl hp) 0 (by decide))) rfl ?_
      refine T_iload (am_dec tX5_readBank_0 39 rfl) rfl ?_
      refine T_bipush 99 (am_dec tX5_readBank_1 0 rfl) rfl ⟨by decide, by decide⟩ ?_
      refine T_aload_n (am_dec tX5_readBank_1 1 rfl) rfl ?_
      refine T_getfield 5 6 (am_dec tX5_readBank_1 2 rfl) flX5_9_5 (show (hfW w hb sp rb rs hb (aR sp) ro ee hh ss uu vv pp kk rr tt gg aa dd bd ga im)[52]? = some (cO 5 [aR 51, aI (pp 0 1), aI (pp 0 2), aI (pp 0 3), aI (pp 0 4), aI (pp 0 5), aR sp, aI (pp 0 7), aI (pp 0 8), aI (pp 0 9), aI (pp 0 10)]) from (hfW_c hl 52 (by decide))) rfl ?_
      refine T_getfield 3 13 (am_dec tX5_readBank_1 3 rfl) flX5_147_3 (show (hfW w hb sp rb rs hb (aR sp) ro ee hh ss uu vv pp kk rr tt gg aa dd bd ga im)[sp]? = some (cO 3 [aI (ss 0 0), aI (ss 0 1), aI (ss 0 2), aR (sp + 1), aR (sp + 3), aR (sp + 5), aR (sp + 7), aR (sp + 9), aR (sp + 11), aR (sp + 13), aR (sp + 15), aR (sp + 17), aR (sp + 18), aR (sp + 19)]) from ((hf_S hl hp) 0 (by decide))) rfl ?_
      refine T_iload (am_dec tX5_readBank_1 4 rfl) rfl ?_
      have hfs := HbI_Fs hS.1 (v3 + (10 * y)).toNat
      refine T_ialoadE (x := (ss 11) (v3 + (10 * y)).toNat) (am_dec tX5_readBank_1 5 rfl) (show (hfW w hb sp rb rs hb (aR sp) ro ee hh ss uu vv pp kk rr tt gg aa dd bd ga im)[sp + 19]? = some (cP 0 90 (ss 11)) from ((hf_S hl hp) 19 (by decide))) (by omega) (by omega) rfl ?_
      refine T_iload_n (am_dec tX5_readBank_1 6 rfl) rfl ?_
      refine T_iadd (((ss 11) (v3 + (10 * y)).toNat) + mo) (am_dec tX5_readBank_1 7 rfl) rfl ⟨by omega, by omega⟩ ?_
      refine T_mmin (am_dec tX5_readBank_1 8 rfl) lkX5_151 (Nat.le_of_ble_eq_true rfl) (by omega) ?_
      obtain ⟨m88, hm88⟩ : ∃ x9 : Int, x9 = (if ((ss 11) (v3 + (10 * y)).toNat) + mo < 99 then ((ss 11) (v3 + (10 * y)).toNat) + mo else 99) := ⟨_, rfl⟩
      rw [← hm88]
      refine T_iastore (am_dec tX5_readBank_1 9 rfl) (show (hfW w hb sp rb rs hb (aR sp) ro ee hh ss uu vv pp kk rr tt gg aa dd bd ga im)[sp + 19]? = some (cP 0 90 (ss 11)) from ((hf_S hl hp) 19 (by decide))) (by omega) (by omega) ?_
      refine am_wE (w2 := hfW w hb sp rb rs hb (aR sp) ro ee hh (am_put ss 11 ((v3 + (10 * y)).toNat) m88) uu vv pp kk rr tt gg aa dd bd ga im) (am_via (hf_uS hp) (hbW_p19 (w := hfW w hb sp rb rs hb (aR sp) ro ee hh ss uu vv pp kk rr tt gg aa dd bd ga im)) (hf_uS hp)) ?_
      refine T_weak (ls' := [some (aR 52), some (aI mo), some (aI y), some (aI v3), none]) (am_sub_s (am_sub_s (am_sub_s (am_sub_s (am_sub_n am_sub_nil))))) ?_
      exact K62 _ (by have s9 := hm88.symm; subst s9; exact (if_neg h62).symm) 
def w_c_readBank_17 (pp : am_F) (mo : Int) (x9 : Int × am_F) : (Int × am_F) ⊕ (Int × am_F) := let y : Int := x9.1; let ss : am_F := x9.2; (if pp 0 10 < y then .inr (y, ss) else (let z26 : Int := (c_fine pp); (if z26 = 0 then .inr (y, ss) else (let ss37 : am_F := am_fold (g_c_readBank_37 mo y) (pp 0 7) ((pp 0 9) + 1 - (pp 0 7)).toNat ss; .inl ((y + 1), ss37)))))
theorem L_c_readBank_17 {S : am_S} {d u : Nat} {Q : AO → AH → Prop} {w : AH} {hb sp rb rs : Nat} {ro : AV} (hl : 109 ≤ w.length) (hp : hb = 1 ∧ sp = 21 ∨ hb = 21 ∧ sp = 1) (hr : rb = 41 ∧ rs = 46 ∨ rb = 46 ∧ rs = 41) (ee : am_F) (hh : am_F) (uu : am_F) (vv : am_F) (pp : am_F) (kk : am_F) (rr : am_F) (tt : am_F) (gg : am_F) (aa : am_F) (dd : am_F) (bd : am_F) (ga : am_F) (im : am_F) (mo : Int) (hbk : (0 ≤ pp 0 7 ∧ pp 0 7 ≤ pp 0 9 ∧ pp 0 9 ≤ 8) ∧ 0 ≤ pp 0 8 ∧ pp 0 8 ≤ pp 0 10 ∧ pp 0 10 ≤ 8) (hmo : 1 ≤ mo ∧ mo ≤ 99) (hd : 4 ≤ d) : ∀ (n : Nat) (y : Int) (ss : am_F), pp 0 10 + 1 - y < n → SpI ss ∧ 0 ≤ y ∧ y ≤ pp 0 10 + 1 → (∀ (y' : Int) (ss' : am_F), y' = (am_wh (w_c_readBank_17 pp mo) n (y, ss)).1 → ss' = (am_wh (w_c_readBank_17 pp mo) n (y, ss)).2 → SpI ss' ∧ 0 ≤ y' ∧ y' ≤ pp 0 10 + 1 → am_T S zX5_readBank d u Q 104 [none, none, none, none, none] [] (hfW w hb sp rb rs hb (aR sp) ro ee hh ss' uu vv pp kk rr tt gg aa dd bd ga im)) → am_T S zX5_readBank d u Q 17 [some (aR 52), some (aI mo), some (aI y), none, none] [] (hfW w hb sp rb rs hb (aR sp) ro ee hh ss uu vv pp kk rr tt gg aa dd bd ga im) := by
  intro n
  induction n with
  | zero =>
    intro y ss hm9 hinv k9
    have hS := hinv.1
    obtain ⟨vs1, vs2, vs3, vs4, vs5, vs6, vs7, vs8, vs9, vs10, vs11, vs12, vs13, vs14, vs15, vs16, vs17, vs18, vs19, vs20, vs21, vs22⟩ := (HbI_A hS.1).1
    exfalso; omega
  | succ n ih =>
    intro y ss hm9 hinv k9
    have hS := hinv.1
    obtain ⟨vs1, vs2, vs3, vs4, vs5, vs6, vs7, vs8, vs9, vs10, vs11, vs12, vs13, vs14, vs15, vs16, vs17, vs18, vs19, vs20, vs21, vs22⟩ := (HbI_A hS.1).1
    refine T_iload_n (am_dec tX5_readBank_0 10 rfl) rfl ?_
    refine T_aload_n (am_dec tX5_readBank_0 11 rfl) rfl ?_
    refine T_getfield 5 10 (am_dec tX5_readBank_0 12 rfl) flX5_137_5 (show (hfW w hb sp rb rs hb (aR sp) ro ee hh ss uu vv pp kk rr tt gg aa dd bd ga im)[52]? = some (cO 5 [aR 51, aI (pp 0 1), aI (pp 0 2), aI (pp 0 3), aI (pp 0 4), aI (pp 0 5), aR sp, aI (pp 0 7), aI (pp 0 8), aI (pp 0 9), aI (pp 0 10)]) from (hfW_c hl 52 (by decide))) rfl ?_
    refine T_icmp_gt 104 (am_dec tX5_readBank_0 13 rfl) rfl (fun h22 => ?_) (fun h22 => ?_)
    · refine T_weak (ls' := [none, none, none, none, none]) (am_sub_n (am_sub_n (am_sub_n (am_sub_n (am_sub_n am_sub_nil))))) ?_
      have e9 : (w_c_readBank_17 pp mo) (y, ss) = .inr (y, ss) := (if_pos h22)
      simp only [am_wh_r e9] at k9
      exact k9 _ _ rfl rfl hinv
    · refine T_aload_n (am_dec tX5_readBank_0 14 rfl) rfl ?_
      refine T_callU (as := []) rfl (am_dec tX5_readBank_0 15 rfl) lkX5_21_X5 (show (hfW w hb sp rb rs hb (aR sp) ro ee hh ss uu vv pp kk rr tt gg aa dd bd ga im)[52]? = some (cO 5 [aR 51, aI (pp 0 1), aI (pp 0 2), aI (pp 0 3), aI (pp 0 4), aI (pp 0 5), aR sp, aI (pp 0 7), aI (pp 0 8), aI (pp 0 9), aI (pp 0 10)]) from (hfW_c hl 52 (by decide))) rfl rfl (Nat.le_of_ble_eq_true rfl) (by omega) (mc_fine (d := d - 1) hl hp hr    (by omega)) (fun _ => ?_)
      refine T_nm (fun z26 hz26 => ?_)
      have hb26 := c_fine_b pp
      rw [← hz26] at hb26
      refine T_if_eq 104 (am_dec tX5_readBank_0 16 rfl) rfl (fun h29 => ?_) (fun h29 => ?_)
      · refine T_weak (ls' := [none, none, none, none, none]) (am_sub_n (am_sub_n (am_sub_n (am_sub_n (am_sub_n am_sub_nil))))) ?_
        have e9 : (w_c_readBank_17 pp mo) (y, ss) = .inr (y, ss) := (by have s9 := hz26.symm; subst s9; exact ((if_neg h22).trans (if_pos h29)))
        simp only [am_wh_r e9] at k9
        exact k9 _ _ rfl rfl hinv
      · refine T_aload_n (am_dec tX5_readBank_0 17 rfl) rfl ?_
        refine T_getfield 5 7 (am_dec tX5_readBank_0 18 rfl) flX5_128_5 (show (hfW w hb sp rb rs hb (aR sp) ro ee hh ss uu vv pp kk rr tt gg aa dd bd ga im)[52]? = some (cO 5 [aR 51, aI (pp 0 1), aI (pp 0 2), aI (pp 0 3), aI (pp 0 4), aI (pp 0 5), aR sp, aI (pp 0 7), aI (pp 0 8), aI (pp 0 9), aI (pp 0 10)]) from (hfW_c hl 52 (by decide))) rfl ?_
        refine T_istore_n (ls' := [some (aR 52), some (aI mo), some (aI y), some (aI (pp 0 7)), none]) (am_dec tX5_readBank_0 19 rfl) (by decide) rfl ?_
        refine L_c_readBank_37 hl hp hr ee hh uu vv pp kk rr tt gg aa dd bd ga im mo y  (by omega) (by omega) (by omega) (by omega) _ rfl ((pp 0 9) + 1 - (pp 0 7)).toNat (pp 0 7) ss (by omega) (by omega) hS (fun ss37 hss37 hv37 => ?_)
        refine T_iinc (ls' := [some (aR 52), some (aI mo), some (aI (y + 1)), none, none]) (y + 1) (am_dec tX5_readBank_1 12 rfl) rfl rfl ⟨by omega, by omega⟩ (by decide) rfl ?_
        refine T_goto 17 (am_dec tX5_readBank_1 13 rfl) rfl ?_
        have e9 : (w_c_readBank_17 pp mo) (y, ss) = .inl (y + 1, ss37) := (by have s9 := hz26.symm; subst s9; have s9 := hss37.symm; subst s9; exact ((if_neg h22).trans (if_neg h29)))
        simp only [am_wh_l e9] at k9
        exact ih (y + 1) ss37 (by omega) ⟨hv37, by omega, by omega⟩ k9
def c_readBank (ee : am_F) (ss : am_F) (pp : am_F) : am_F × am_F := (let pp1 : am_F := c_readBlock ee ss pp; (let u8 : Int × am_F := c_number ee pp1 1 99; (let ss17 : am_F := (am_wh (w_c_readBank_17 ((u8).2) ((u8).1)) 10 (((u8).2 0 8), ss)).2; (ss17, (u8).2))))
theorem mc_readBank {S : am_S} {d u : Nat} {w : AH} {hb sp rb rs : Nat} {ro : AV} (hl : 109 ≤ w.length) (hp : hb = 1 ∧ sp = 21 ∨ hb = 21 ∧ sp = 1) (hr : rb = 41 ∧ rs = 46 ∨ rb = 46 ∧ rs = 41) {ee : am_F} {hh : am_F} {ss : am_F} {uu : am_F} {vv : am_F} {pp : am_F} {kk : am_F} {rr : am_F} {tt : am_F} {gg : am_F} {aa : am_F} {dd : am_F} {bd : am_F} {ga : am_F} {im : am_F}  (hP : RdI pp) (hTp : TpI ee) (hS : SpI ss)  (hd : 4 ≤ d) : am_Out S zX5_readBank d u [aR 52] (hfW w hb sp rb rs hb (aR sp) ro ee hh ss uu vv pp kk rr tt gg aa dd bd ga im) (.inl none) (hfW w hb sp rb rs hb (aR sp) ro ee hh ((c_readBank ee ss pp).1) uu vv ((c_readBank ee ss pp).2) kk rr tt gg aa dd bd ga im) := by
  have key : ∀ Q : AO → AH → Prop, Q (.inl none) (hfW w hb sp rb rs hb (aR sp) ro ee hh ((c_readBank ee ss pp).1) uu vv ((c_readBank ee ss pp).2) kk rr tt gg aa dd bd ga im) → am_M S zX5_readBank d u [aR 52] (hfW w hb sp rb rs hb (aR sp) ro ee hh ss uu vv pp kk rr tt gg aa dd bd ga im) Q := by
    intro Q hQ
    refine am_body rfl (by decide +kernel) rfl (am_cats_cons rfl (am_cats_nil)) (Nat.le_of_ble_eq_true rfl) (?_ : am_T _ _ _ _ _ 0 [some (aR 52), none, none, none, none] [] (hfW w hb sp rb rs hb (aR sp) ro ee hh ss uu vv pp kk rr tt gg aa dd bd ga im))
    have hP9 := hP
    obtain ⟨⟨vr1, vr2⟩, vr3, vr4, vr5⟩ := hP9
    obtain ⟨vs1, vs2, vs3, vs4, vs5, vs6, vs7, vs8, vs9, vs10, vs11, vs12, vs13, vs14, vs15, vs16, vs17, vs18, vs19, vs20, vs21, vs22⟩ := (HbI_A hS.1).1
    refine T_aload_n (am_dec tX5_readBank_0 0 rfl) rfl ?_
    refine T_callV (as := []) rfl (am_dec tX5_readBank_0 1 rfl) lkX5_140 (show (hfW w hb sp rb rs hb (aR sp) ro ee hh ss uu vv pp kk rr tt gg aa dd bd ga im)[52]? = some (cO 5 [aR 51, aI (pp 0 1), aI (pp 0 2), aI (pp 0 3), aI (pp 0 4), aI (pp 0 5), aR sp, aI (pp 0 7), aI (pp 0 8), aI (pp 0 9), aI (pp 0 10)]) from (hfW_c hl 52 (by decide))) rfl rfl (Nat.le_of_ble_eq_true rfl) (by omega) (mc_readBlock (d := d - 1) hl hp hr   hP hTp hS (by omega)) (fun _ => ?_)
    refine T_nmH (W := fun x9 => hfW w hb sp rb rs hb (aR sp) ro ee hh ss uu vv x9 kk rr tt gg aa dd bd ga im) (v := c_readBlock ee ss pp) (fun pp1 hpp1 => ?_)
    have hypp1 : RdI pp1 ∧ (0 ≤ pp1 0 7 ∧ pp1 0 7 ≤ pp1 0 9 ∧ pp1 0 9 < ss 0 0) ∧ (0 ≤ pp1 0 8 ∧ pp1 0 8 ≤ pp1 0 10 ∧ pp1 0 10 < ss 0 1) := by rw [hpp1]; have z9 := c_readBlock_x hP hTp hS; exact ⟨z9.1, z9.2.1, z9.2.2.1⟩
    have hIpp1 := hypp1.1
    refine T_aload_n (am_dec tX5_readBank_0 2 rfl) rfl ?_
    refine T_iconst 1 (am_dec tX5_readBank_0 3 rfl) rfl ⟨by decide, by decide⟩ ?_
    refine T_bipush 99 (am_dec tX5_readBank_0 4 rfl) rfl ⟨by decide, by decide⟩ ?_
    refine T_callU (as := [aI 1, aI 99]) rfl (am_dec tX5_readBank_0 5 rfl) lkX5_109_X5 (show (hfW w hb sp rb rs hb (aR sp) ro ee hh ss uu vv pp1 kk rr tt gg aa dd bd ga im)[52]? = some (cO 5 [aR 51, aI (pp1 0 1), aI (pp1 0 2), aI (pp1 0 3), aI (pp1 0 4), aI (pp1 0 5), aR sp, aI (pp1 0 7), aI (pp1 0 8), aI (pp1 0 9), aI (pp1 0 10)]) from (hfW_c hl 52 (by decide))) rfl rfl (Nat.le_of_ble_eq_true rfl) (by omega) (mc_number (d := d - 1) hl hp hr 1 99  hIpp1 hTp (by omega)) (fun _ => ?_)
    obtain ⟨u8, hu8⟩ : ∃ x9, x9 = c_number ee pp1 1 99 := ⟨_, rfl⟩
    rw [← hu8]
    have hxu8 : Rd2 pp1 u8.2 := by rw [hu8]; exact (Rd2.rf hIpp1).number hTp _ _
    have hIu8 := hxu8.1
    have hgu8 := hIu8
    obtain ⟨⟨yr81, yr82⟩, yr83, yr84, yr85⟩ := hgu8
    have heu8_7 : u8.2 0 7 = pp1 0 7 := hxu8.2 0 7 (by decide)
    have heu8_8 : u8.2 0 8 = pp1 0 8 := hxu8.2 0 8 (by decide)
    have heu8_9 : u8.2 0 9 = pp1 0 9 := hxu8.2 0 9 (by decide)
    have heu8_10 : u8.2 0 10 = pp1 0 10 := hxu8.2 0 10 (by decide)
    have hbu8 : 1 ≤ u8.1 ∧ u8.1 ≤ 99 := by rw [hu8]; exact c_number_b _ _ (by omega)
    refine T_istore_n (ls' := [some (aR 52), some (aI ((u8).1)), none, none, none]) (am_dec tX5_readBank_0 6 rfl) (by decide) rfl ?_
    refine T_aload_n (am_dec tX5_readBank_0 7 rfl) rfl ?_
    refine T_getfield 5 8 (am_dec tX5_readBank_0 8 rfl) flX5_131_5 (show (hfW w hb sp rb rs hb (aR sp) ro ee hh ss uu vv ((u8).2) kk rr tt gg aa dd bd ga im)[52]? = some (cO 5 [aR 51, aI ((u8).2 0 1), aI ((u8).2 0 2), aI ((u8).2 0 3), aI ((u8).2 0 4), aI ((u8).2 0 5), aR sp, aI ((u8).2 0 7), aI ((u8).2 0 8), aI ((u8).2 0 9), aI ((u8).2 0 10)]) from (hfW_c hl 52 (by decide))) rfl ?_
    refine T_istore_n (ls' := [some (aR 52), some (aI ((u8).1)), some (aI ((u8).2 0 8)), none, none]) (am_dec tX5_readBank_0 9 rfl) (by decide) rfl ?_
    refine L_c_readBank_17 hl hp hr ee hh uu vv ((u8).2) kk rr tt gg aa dd bd ga im ((u8).1)  (by omega) (by omega) (by omega) 10 ((u8).2 0 8) ss (by omega) ⟨hS, by omega, by omega⟩ (fun y_17 ss17 hy_17 hss17 hv17 => ?_)
    exact T_return (am_dec tX5_readBank_1 14 rfl) rfl (am_tr (fun (x9 : am_F × am_F) => Q (.inl none) (hfW w hb sp rb rs hb (aR sp) ro ee hh x9.1 uu vv x9.2 kk rr tt gg aa dd bd ga im)) (y := (ss17, (u8).2)) (show (c_readBank ee ss pp) = (ss17, (u8).2) from (by have s9 := hpp1.symm; subst s9; have s9 := hu8.symm; subst s9; have s9 := hy_17.symm; subst s9; have s9 := hss17.symm; subst s9; exact rfl)) hQ)
  exact key _ ⟨rfl, rfl⟩
theorem c_readBank_x {ee ss pp : am_F} (h : RdI pp) (t : TpI ee) (q : SpI ss) : SpI (c_readBank ee ss pp).1 ∧ RdI (c_readBank ee ss pp).2 := by
  have z := c_readBlock_x h t q
  have b := c_number_b ee (c_readBlock ee ss pp) (lo := 1) (hi := 99) (by omega)
  have x := (Rd2.rf z.1).number t 1 99
  unfold c_readBank
  dsimp only
  generalize c_number ee (c_readBlock ee ss pp) 1 99 = u at *
  refine ⟨?_, x.1⟩
  have hx : ∀ (y : Int) (s : am_F), SpI s → SpI (am_fold (g_c_readBank_37 u.1 y) (u.2 0 7) ((u.2 0 9) + 1 - (u.2 0 7)).toNat s) := fun y s hs => am_fold_inv (P := fun (_ : Int) (x : am_F) => SpI x) _ _ s hs (fun i x _ _ hx => by
    unfold g_c_readBank_37
    dsimp only
    have hfs := HbI_Fs hx.1 (i + (10 * y)).toNat
    repeat' split
    · exact hx
    · exact SpI_put hx _ _ (by omega)
    · exact SpI_put hx _ _ (by omega))
  exact am_wh_iv (P := fun (x : Int × am_F) => SpI x.2) (fun x y hp hf => by
    unfold w_c_readBank_17 at hf
    dsimp only at hf
    split at hf
    · cases hf
    · split at hf
      · cases hf
      · cases hf; exact hx _ _ hp) (fun x y hp hf => by
    unfold w_c_readBank_17 at hf
    dsimp only at hf
    split at hf
    · cases hf; exact hp
    · split at hf
      · cases hf; exact hp
      · cases hf) 10 _ q
def c_readPort (ee : am_F) (ss : am_F) (pp : am_F) : am_F × am_F := (let u4 : Int × am_F := c_number ee pp 2 9; (let u12 : Int × am_F := c_number ee ((u4).2) 2 9; (let z17 : Int := (c_fine ((u12).2)); (let ss20 : am_F := (if z17 = 0 then ss else (am_put (am_put ss 0 0 ((u4).1)) 0 1 ((u12).1))); (ss20, (u12).2)))))
theorem mc_readPort {S : am_S} {d u : Nat} {w : AH} {hb sp rb rs : Nat} {ro : AV} (hl : 109 ≤ w.length) (hp : hb = 1 ∧ sp = 21 ∨ hb = 21 ∧ sp = 1) (hr : rb = 41 ∧ rs = 46 ∨ rb = 46 ∧ rs = 41) {ee : am_F} {hh : am_F} {ss : am_F} {uu : am_F} {vv : am_F} {pp : am_F} {kk : am_F} {rr : am_F} {tt : am_F} {gg : am_F} {aa : am_F} {dd : am_F} {bd : am_F} {ga : am_F} {im : am_F}  (hP : RdI pp) (hTp : TpI ee) (hS : SpI ss)  (hd : 3 ≤ d) : am_Out S zX5_readPort d u [aR 52] (hfW w hb sp rb rs hb (aR sp) ro ee hh ss uu vv pp kk rr tt gg aa dd bd ga im) (.inl none) (hfW w hb sp rb rs hb (aR sp) ro ee hh ((c_readPort ee ss pp).1) uu vv ((c_readPort ee ss pp).2) kk rr tt gg aa dd bd ga im) := by
  have key : ∀ Q : AO → AH → Prop, Q (.inl none) (hfW w hb sp rb rs hb (aR sp) ro ee hh ((c_readPort ee ss pp).1) uu vv ((c_readPort ee ss pp).2) kk rr tt gg aa dd bd ga im) → am_M S zX5_readPort d u [aR 52] (hfW w hb sp rb rs hb (aR sp) ro ee hh ss uu vv pp kk rr tt gg aa dd bd ga im) Q := by
    intro Q hQ
    refine am_body rfl (by decide +kernel) rfl (am_cats_cons rfl (am_cats_nil)) (Nat.le_of_ble_eq_true rfl) (?_ : am_T _ _ _ _ _ 0 [some (aR 52), none, none] [] (hfW w hb sp rb rs hb (aR sp) ro ee hh ss uu vv pp kk rr tt gg aa dd bd ga im))
    have hP9 := hP
    obtain ⟨⟨vr1, vr2⟩, vr3, vr4, vr5⟩ := hP9
    obtain ⟨vs1, vs2, vs3, vs4, vs5, vs6, vs7, vs8, vs9, vs10, vs11, vs12, vs13, vs14, vs15, vs16, vs17, vs18, vs19, vs20, vs21, vs22⟩ := (HbI_A hS.1).1
    refine T_aload_n (am_dec tX5_readPort_0 0 rfl) rfl ?_
    refine T_iconst 2 (am_dec tX5_readPort_0 1 rfl) rfl ⟨by decide, by decide⟩ ?_
    refine T_bipush 9 (am_dec tX5_readPort_0 2 rfl) rfl ⟨by decide, by decide⟩ ?_
    refine T_callU (as := [aI 2, aI 9]) rfl (am_dec tX5_readPort_0 3 rfl) lkX5_109_X5 (show (hfW w hb sp rb rs hb (aR sp) ro ee hh ss uu vv pp kk rr tt gg aa dd bd ga im)[52]? = some (cO 5 [aR 51, aI (pp 0 1), aI (pp 0 2), aI (pp 0 3), aI (pp 0 4), aI (pp 0 5), aR sp, aI (pp 0 7), aI (pp 0 8), aI (pp 0 9), aI (pp 0 10)]) from (hfW_c hl 52 (by decide))) rfl rfl (Nat.le_of_ble_eq_true rfl) (by omega) (mc_number (d := d - 1) hl hp hr 2 9  hP hTp (by omega)) (fun _ => ?_)
    obtain ⟨u4, hu4⟩ : ∃ x9, x9 = c_number ee pp 2 9 := ⟨_, rfl⟩
    rw [← hu4]
    have hxu4 : Rd2 pp u4.2 := by rw [hu4]; exact (Rd2.rf hP).number hTp _ _
    have hIu4 := hxu4.1
    have hgu4 := hIu4
    obtain ⟨⟨yr41, yr42⟩, yr43, yr44, yr45⟩ := hgu4
    have heu4_7 : u4.2 0 7 = pp 0 7 := hxu4.2 0 7 (by decide)
    have heu4_8 : u4.2 0 8 = pp 0 8 := hxu4.2 0 8 (by decide)
    have heu4_9 : u4.2 0 9 = pp 0 9 := hxu4.2 0 9 (by decide)
    have heu4_10 : u4.2 0 10 = pp 0 10 := hxu4.2 0 10 (by decide)
    have hbu4 : 2 ≤ u4.1 ∧ u4.1 ≤ 9 := by rw [hu4]; exact c_number_b _ _ (by omega)
    refine T_istore_n (ls' := [some (aR 52), some (aI ((u4).1)), none]) (am_dec tX5_readPort_0 4 rfl) (by decide) rfl ?_
    refine T_aload_n (am_dec tX5_readPort_0 5 rfl) rfl ?_
    refine T_iconst 2 (am_dec tX5_readPort_0 6 rfl) rfl ⟨by decide, by decide⟩ ?_
    refine T_bipush 9 (am_dec tX5_readPort_0 7 rfl) rfl ⟨by decide, by decide⟩ ?_
    refine T_callU (as := [aI 2, aI 9]) rfl (am_dec tX5_readPort_0 8 rfl) lkX5_109_X5 (show (hfW w hb sp rb rs hb (aR sp) ro ee hh ss uu vv ((u4).2) kk rr tt gg aa dd bd ga im)[52]? = some (cO 5 [aR 51, aI ((u4).2 0 1), aI ((u4).2 0 2), aI ((u4).2 0 3), aI ((u4).2 0 4), aI ((u4).2 0 5), aR sp, aI ((u4).2 0 7), aI ((u4).2 0 8), aI ((u4).2 0 9), aI ((u4).2 0 10)]) from (hfW_c hl 52 (by decide))) rfl rfl (Nat.le_of_ble_eq_true rfl) (by omega) (mc_number (d := d - 1) hl hp hr 2 9  hIu4 hTp (by omega)) (fun _ => ?_)
    obtain ⟨u12, hu12⟩ : ∃ x9, x9 = c_number ee ((u4).2) 2 9 := ⟨_, rfl⟩
    rw [← hu12]
    have hxu12 : Rd2 ((u4).2) u12.2 := by rw [hu12]; exact (Rd2.rf hIu4).number hTp _ _
    have hIu12 := hxu12.1
    have hgu12 := hIu12
    obtain ⟨⟨yr121, yr122⟩, yr123, yr124, yr125⟩ := hgu12
    have heu12_7 : u12.2 0 7 = (u4).2 0 7 := hxu12.2 0 7 (by decide)
    have heu12_8 : u12.2 0 8 = (u4).2 0 8 := hxu12.2 0 8 (by decide)
    have heu12_9 : u12.2 0 9 = (u4).2 0 9 := hxu12.2 0 9 (by decide)
    have heu12_10 : u12.2 0 10 = (u4).2 0 10 := hxu12.2 0 10 (by decide)
    have hbu12 : 2 ≤ u12.1 ∧ u12.1 ≤ 9 := by rw [hu12]; exact c_number_b _ _ (by omega)
    refine T_istore_n (ls' := [some (aR 52), some (aI ((u4).1)), some (aI ((u12).1))]) (am_dec tX5_readPort_0 9 rfl) (by decide) rfl ?_
    refine T_aload_n (am_dec tX5_readPort_0 10 rfl) rfl ?_
    refine T_callU (as := []) rfl (am_dec tX5_readPort_0 11 rfl) lkX5_21_X5 (show (hfW w hb sp rb rs hb (aR sp) ro ee hh ss uu vv ((u12).2) kk rr tt gg aa dd bd ga im)[52]? = some (cO 5 [aR 51, aI ((u12).2 0 1), aI ((u12).2 0 2), aI ((u12).2 0 3), aI ((u12).2 0 4), aI ((u12).2 0 5), aR sp, aI ((u12).2 0 7), aI ((u12).2 0 8), aI ((u12).2 0 9), aI ((u12).2 0 10)]) from (hfW_c hl 52 (by decide))) rfl rfl (Nat.le_of_ble_eq_true rfl) (by omega) (mc_fine (d := d - 1) hl hp hr    (by omega)) (fun _ => ?_)
    refine T_nm (fun z17 hz17 => ?_)
    have hb17 := c_fine_b ((u12).2)
    rw [← hz17] at hb17
    have K20 : ∀ (ss20 : am_F), ss20 = (if z17 = 0 then ss else (am_put (am_put ss 0 0 ((u4).1)) 0 1 ((u12).1))) →  am_T S zX5_readPort d u Q 39 [none, none, none] [] (hfW w hb sp rb rs hb (aR sp) ro ee hh ss20 uu vv ((u12).2) kk rr tt gg aa dd bd ga im) := by
      intro ss20 hss20 
      have hSss20 : SpI ss20 := by
        rw [hss20]
        try dsimp only
        repeat' split
        all_goals first | exact hS | exact SpI_put hS _ _ (by have hfs := HbI_Fs hS.1 (v3 + (10 * y)).toNat; omega) | exact SpI_sight hS _ (by omega) | exact SpI_size hS _ _ (by omega) (by omega)
      exact T_return (am_dec tX5_readPort_0 21 rfl) rfl (am_tr (fun (x9 : am_F × am_F) => Q (.inl none) (hfW w hb sp rb rs hb (aR sp) ro ee hh x9.1 uu vv x9.2 kk rr tt gg aa dd bd ga im)) (y := (ss20, (u12).2)) (show (c_readPort ee ss pp) = (ss20, (u12).2) from (by have s9 := hu4.symm; subst s9; have s9 := hu12.symm; subst s9; have s9 := hz17.symm; subst s9; have s9 := hss20.symm; subst s9; exact rfl)) hQ)
    refine T_if_eq 39 (am_dec tX5_readPort_0 12 rfl) rfl (fun h20 => ?_) (fun h20 => ?_)
    · refine T_weak (ls' := [none, none, none]) (am_sub_n (am_sub_n (am_sub_n am_sub_nil))) ?_
      exact K20 _ (if_pos h20).symm 
    · refine T_aload_n (am_dec tX5_readPort_0 13 rfl) rfl ?_
      refine T_getfield 5 6 (am_dec tX5_readPort_0 14 rfl) flX5_9_5 (show (hfW w hb sp rb rs hb (aR sp) ro ee hh ss uu vv ((u12).2) kk rr tt gg aa dd bd ga im)[52]? = some (cO 5 [aR 51, aI ((u12).2 0 1), aI ((u12).2 0 2), aI ((u12).2 0 3), aI ((u12).2 0 4), aI ((u12).2 0 5), aR sp, aI ((u12).2 0 7), aI ((u12).2 0 8), aI ((u12).2 0 9), aI ((u12).2 0 10)]) from (hfW_c hl 52 (by decide))) rfl ?_
      refine T_iload_n (am_dec tX5_readPort_0 15 rfl) rfl ?_
      refine T_putfield (fs' := [aI ((u4).1), aI (ss 0 1), aI (ss 0 2), aR (sp + 1), aR (sp + 3), aR (sp + 5), aR (sp + 7), aR (sp + 9), aR (sp + 11), aR (sp + 13), aR (sp + 15), aR (sp + 17), aR (sp + 18), aR (sp + 19)]) 3 0 (am_dec tX5_readPort_0 16 rfl) flX5_113_3 rfl rfl rfl trivial (show (hfW w hb sp rb rs hb (aR sp) ro ee hh ss uu vv ((u12).2) kk rr tt gg aa dd bd ga im)[sp]? = some (cO 3 [aI (ss 0 0), aI (ss 0 1), aI (ss 0 2), aR (sp + 1), aR (sp + 3), aR (sp + 5), aR (sp + 7), aR (sp + 9), aR (sp + 11), aR (sp + 13), aR (sp + 15), aR (sp + 17), aR (sp + 18), aR (sp + 19)]) from ((hf_S hl hp) 0 (by decide))) (Nat.le_of_ble_eq_true rfl) rfl ?_
      refine am_wE (w2 := hfW w hb sp rb rs hb (aR sp) ro ee hh (am_put ss 0 0 ((u4).1)) uu vv ((u12).2) kk rr tt gg aa dd bd ga im) (am_via (hf_uS hp) (hbW_f0 (w := hfW w hb sp rb rs hb (aR sp) ro ee hh ss uu vv ((u12).2) kk rr tt gg aa dd bd ga im)) (hf_uS hp)) ?_
      refine T_aload_n (am_dec tX5_readPort_0 17 rfl) rfl ?_
      refine T_getfield 5 6 (am_dec tX5_readPort_0 18 rfl) flX5_9_5 (show (hfW w hb sp rb rs hb (aR sp) ro ee hh (am_put ss 0 0 ((u4).1)) uu vv ((u12).2) kk rr tt gg aa dd bd ga im)[52]? = some (cO 5 [aR 51, aI ((u12).2 0 1), aI ((u12).2 0 2), aI ((u12).2 0 3), aI ((u12).2 0 4), aI ((u12).2 0 5), aR sp, aI ((u12).2 0 7), aI ((u12).2 0 8), aI ((u12).2 0 9), aI ((u12).2 0 10)]) from (hfW_c hl 52 (by decide))) rfl ?_
      refine T_iload_n (am_dec tX5_readPort_0 19 rfl) rfl ?_
      refine T_putfield (fs' := [aI ((u4).1), aI ((u12).1), aI (ss 0 2), aR (sp + 1), aR (sp + 3), aR (sp + 5), aR (sp + 7), aR (sp + 9), aR (sp + 11), aR (sp + 13), aR (sp + 15), aR (sp + 17), aR (sp + 18), aR (sp + 19)]) 3 1 (am_dec tX5_readPort_0 20 rfl) flX5_116_3 rfl rfl rfl trivial (show (hfW w hb sp rb rs hb (aR sp) ro ee hh (am_put ss 0 0 ((u4).1)) uu vv ((u12).2) kk rr tt gg aa dd bd ga im)[sp]? = some (cO 3 [aI ((u4).1), aI (ss 0 1), aI (ss 0 2), aR (sp + 1), aR (sp + 3), aR (sp + 5), aR (sp + 7), aR (sp + 9), aR (sp + 11), aR (sp + 13), aR (sp + 15), aR (sp + 17), aR (sp + 18), aR (sp + 19)]) from ((hf_S hl hp) 0 (by decide))) (Nat.le_of_ble_eq_true rfl) rfl ?_
      refine am_wE (w2 := hfW w hb sp rb rs hb (aR sp) ro ee hh (am_put (am_put ss 0 0 ((u4).1)) 0 1 ((u12).1)) uu vv ((u12).2) kk rr tt gg aa dd bd ga im) (am_via (hf_uS hp) (hbW_f1 (w := hfW w hb sp rb rs hb (aR sp) ro ee hh (am_put ss 0 0 ((u4).1)) uu vv ((u12).2) kk rr tt gg aa dd bd ga im)) (hf_uS hp)) ?_
      refine T_weak (ls' := [none, none, none]) (am_sub_n (am_sub_n (am_sub_n am_sub_nil))) ?_
      exact K20 _ (if_neg h20).symm 
  exact key _ ⟨rfl, rfl⟩
def c_readWind (ee : am_F) (ss : am_F) (pp : am_F) : am_F × am_F := (let pp8 : am_F := c_needRoom0 ss pp; (let u12 : Int × am_F := c_readStep ee pp8; (let u19 : Int × am_F := c_number ee ((u12).2) 0 2; (let u26 : Int × am_F := c_number ee ((u19).2) 0 2; (let u34 : Int × am_F := c_number ee ((u26).2) 0 8; (let ss55 : am_F := c_addIf0 ss ((u34).2) ((u12).1) ((3 * ((u19).1)) + ((u26).1)) ((u34).1); (ss55, (u34).2)))))))
theorem mc_readWind {S : am_S} {d u : Nat} {w : AH} {hb sp rb rs : Nat} {ro : AV} (hl : 109 ≤ w.length) (hp : hb = 1 ∧ sp = 21 ∨ hb = 21 ∧ sp = 1) (hr : rb = 41 ∧ rs = 46 ∨ rb = 46 ∧ rs = 41) {ee : am_F} {hh : am_F} {ss : am_F} {uu : am_F} {vv : am_F} {pp : am_F} {kk : am_F} {rr : am_F} {tt : am_F} {gg : am_F} {aa : am_F} {dd : am_F} {bd : am_F} {ga : am_F} {im : am_F}  (hP : RdI pp) (hTp : TpI ee) (hS : SpI ss)  (hd : 4 ≤ d) : am_Out S zX5_readWind d u [aR 52] (hfW w hb sp rb rs hb (aR sp) ro ee hh ss uu vv pp kk rr tt gg aa dd bd ga im) (.inl none) (hfW w hb sp rb rs hb (aR sp) ro ee hh ((c_readWind ee ss pp).1) uu vv ((c_readWind ee ss pp).2) kk rr tt gg aa dd bd ga im) := by
  have key : ∀ Q : AO → AH → Prop, Q (.inl none) (hfW w hb sp rb rs hb (aR sp) ro ee hh ((c_readWind ee ss pp).1) uu vv ((c_readWind ee ss pp).2) kk rr tt gg aa dd bd ga im) → am_M S zX5_readWind d u [aR 52] (hfW w hb sp rb rs hb (aR sp) ro ee hh ss uu vv pp kk rr tt gg aa dd bd ga im) Q := by
    intro Q hQ
    refine am_body rfl (by decide +kernel) rfl (am_cats_cons rfl (am_cats_nil)) (Nat.le_of_ble_eq_true rfl) (?_ : am_T _ _ _ _ _ 0 [some (aR 52), none, none, none, none] [] (hfW w hb sp rb rs hb (aR sp) ro ee hh ss uu vv pp kk rr tt gg aa dd bd ga im))
    have hP9 := hP
    obtain ⟨⟨vr1, vr2⟩, vr3, vr4, vr5⟩ := hP9
    obtain ⟨vs1, vs2, vs3, vs4, vs5, vs6, vs7, vs8, vs9, vs10, vs11, vs12, vs13, vs14, vs15, vs16, vs17, vs18, vs19, vs20, vs21, vs22⟩ := (HbI_A hS.1).1
    refine T_aload_n (am_dec tX5_readWind_0 0 rfl) rfl ?_
    refine T_aload_n (am_dec tX5_readWind_0 1 rfl) rfl ?_
    refine T_getfield 5 6 (am_dec tX5_readWind_0 2 rfl) flX5_9_5 (show (hfW w hb sp rb rs hb (aR sp) ro ee hh ss uu vv pp kk rr tt gg aa dd bd ga im)[52]? = some (cO 5 [aR 51, aI (pp 0 1), aI (pp 0 2), aI (pp 0 3), aI (pp 0 4), aI (pp 0 5), aR sp, aI (pp 0 7), aI (pp 0 8), aI (pp 0 9), aI (pp 0 10)]) from (hfW_c hl 52 (by decide))) rfl ?_
    refine T_getfield 3 3 (am_dec tX5_readWind_0 3 rfl) flX5_156_3 (show (hfW w hb sp rb rs hb (aR sp) ro ee hh ss uu vv pp kk rr tt gg aa dd bd ga im)[sp]? = some (cO 3 [aI (ss 0 0), aI (ss 0 1), aI (ss 0 2), aR (sp + 1), aR (sp + 3), aR (sp + 5), aR (sp + 7), aR (sp + 9), aR (sp + 11), aR (sp + 13), aR (sp + 15), aR (sp + 17), aR (sp + 18), aR (sp + 19)]) from ((hf_S hl hp) 0 (by decide))) rfl ?_
    refine T_callV (as := [aR (sp + 1)]) rfl (am_dec tX5_readWind_0 4 rfl) lkX5_160 (show (hfW w hb sp rb rs hb (aR sp) ro ee hh ss uu vv pp kk rr tt gg aa dd bd ga im)[52]? = some (cO 5 [aR 51, aI (pp 0 1), aI (pp 0 2), aI (pp 0 3), aI (pp 0 4), aI (pp 0 5), aR sp, aI (pp 0 7), aI (pp 0 8), aI (pp 0 9), aI (pp 0 10)]) from (hfW_c hl 52 (by decide))) rfl rfl (Nat.le_of_ble_eq_true rfl) (by omega) (mc_needRoom0 (d := d - 1) hl hp hr   hP hTp hS (by omega)) (fun _ => ?_)
    refine T_nmH (W := fun x9 => hfW w hb sp rb rs hb (aR sp) ro ee hh ss uu vv x9 kk rr tt gg aa dd bd ga im) (v := c_needRoom0 ss pp) (fun pp8 hpp8 => ?_)
    have hxpp8 : Rd2 pp pp8 := by rw [hpp8]; exact (Rd2.rf hP).needRoom0
    have hIpp8 := hxpp8.1
    have hepp8_7 : pp8 0 7 = pp 0 7 := hxpp8.2 0 7 (by decide)
    have hepp8_8 : pp8 0 8 = pp 0 8 := hxpp8.2 0 8 (by decide)
    have hepp8_9 : pp8 0 9 = pp 0 9 := hxpp8.2 0 9 (by decide)
    have hepp8_10 : pp8 0 10 = pp 0 10 := hxpp8.2 0 10 (by decide)
    refine T_aload_n (am_dec tX5_readWind_0 5 rfl) rfl ?_
    refine T_callV (as := []) rfl (am_dec tX5_readWind_0 6 rfl) lkX5_164 (show (hfW w hb sp rb rs hb (aR sp) ro ee hh ss uu vv pp8 kk rr tt gg aa dd bd ga im)[52]? = some (cO 5 [aR 51, aI (pp8 0 1), aI (pp8 0 2), aI (pp8 0 3), aI (pp8 0 4), aI (pp8 0 5), aR sp, aI (pp8 0 7), aI (pp8 0 8), aI (pp8 0 9), aI (pp8 0 10)]) from (hfW_c hl 52 (by decide))) rfl rfl (Nat.le_of_ble_eq_true rfl) (by omega) (mc_readStep (d := d - 1) hl hp hr   hIpp8 hTp hS (by omega)) (fun _ => ?_)
    obtain ⟨u12, hu12⟩ : ∃ x9, x9 = c_readStep ee pp8 := ⟨_, rfl⟩
    rw [← hu12]
    have hxu12 : Rd2 pp8 u12.2 := by rw [hu12]; exact (Rd2.rf hIpp8).number hTp _ _
    have hIu12 := hxu12.1
    have heu12_7 : u12.2 0 7 = pp8 0 7 := hxu12.2 0 7 (by decide)
    have heu12_8 : u12.2 0 8 = pp8 0 8 := hxu12.2 0 8 (by decide)
    have heu12_9 : u12.2 0 9 = pp8 0 9 := hxu12.2 0 9 (by decide)
    have heu12_10 : u12.2 0 10 = pp8 0 10 := hxu12.2 0 10 (by decide)
    have hbu12 : 0 ≤ u12.1 ∧ u12.1 ≤ 39 := by rw [hu12]; exact c_number_b _ _ (by omega)
    refine T_istore_n (ls' := [some (aR 52), some (aI ((u12).1)), none, none, none]) (am_dec tX5_readWind_0 7 rfl) (by decide) rfl ?_
    refine T_aload_n (am_dec tX5_readWind_0 8 rfl) rfl ?_
    refine T_iconst 0 (am_dec tX5_readWind_0 9 rfl) rfl ⟨by decide, by decide⟩ ?_
    refine T_iconst 2 (am_dec tX5_readWind_0 10 rfl) rfl ⟨by decide, by decide⟩ ?_
    refine T_callU (as := [aI 0, aI 2]) rfl (am_dec tX5_readWind_0 11 rfl) lkX5_109_X5 (show (hfW w hb sp rb rs hb (aR sp) ro ee hh ss uu vv ((u12).2) kk rr tt gg aa dd bd ga im)[52]? = some (cO 5 [aR 51, aI ((u12).2 0 1), aI ((u12).2 0 2), aI ((u12).2 0 3), aI ((u12).2 0 4), aI ((u12).2 0 5), aR sp, aI ((u12).2 0 7), aI ((u12).2 0 8), aI ((u12).2 0 9), aI ((u12).2 0 10)]) from (hfW_c hl 52 (by decide))) rfl rfl (Nat.le_of_ble_eq_true rfl) (by omega) (mc_number (d := d - 1) hl hp hr 0 2  hIu12 hTp (by omega)) (fun _ => ?_)
    obtain ⟨u19, hu19⟩ : ∃ x9, x9 = c_number ee ((u12).2) 0 2 := ⟨_, rfl⟩
    rw [← hu19]
    have hxu19 : Rd2 ((u12).2) u19.2 := by rw [hu19]; exact (Rd2.rf hIu12).number hTp _ _
    have hIu19 := hxu19.1
    have hgu19 := hIu19
    obtain ⟨⟨yr191, yr192⟩, yr193, yr194, yr195⟩ := hgu19
    have heu19_7 : u19.2 0 7 = (u12).2 0 7 := hxu19.2 0 7 (by decide)
    have heu19_8 : u19.2 0 8 = (u12).2 0 8 := hxu19.2 0 8 (by decide)
    have heu19_9 : u19.2 0 9 = (u12).2 0 9 := hxu19.2 0 9 (by decide)
    have heu19_10 : u19.2 0 10 = (u12).2 0 10 := hxu19.2 0 10 (by decide)
    have hbu19 : 0 ≤ u19.1 ∧ u19.1 ≤ 2 := by rw [hu19]; exact c_number_b _ _ (by omega)
    refine T_istore_n (ls' := [some (aR 52), some (aI ((u12).1)), some (aI ((u19).1)), none, none]) (am_dec tX5_readWind_0 12 rfl) (by decide) rfl ?_
    refine T_aload_n (am_dec tX5_readWind_0 13 rfl) rfl ?_
    refine T_iconst 0 (am_dec tX5_readWind_0 14 rfl) rfl ⟨by decide, by decide⟩ ?_
    refine T_iconst 2 (am_dec tX5_readWind_0 15 rfl) rfl ⟨by decide, by decide⟩ ?_
    refine T_callU (as := [aI 0, aI 2]) rfl (am_dec tX5_readWind_0 16 rfl) lkX5_109_X5 (show (hfW w hb sp rb rs hb (aR sp) ro ee hh ss uu vv ((u19).2) kk rr tt gg aa dd bd ga im)[52]? = some (cO 5 [aR 51, aI ((u19).2 0 1), aI ((u19).2 0 2), aI ((u19).2 0 3), aI ((u19).2 0 4), aI ((u19).2 0 5), aR sp, aI ((u19).2 0 7), aI ((u19).2 0 8), aI ((u19).2 0 9), aI ((u19).2 0 10)]) from (hfW_c hl 52 (by decide))) rfl rfl (Nat.le_of_ble_eq_true rfl) (by omega) (mc_number (d := d - 1) hl hp hr 0 2  hIu19 hTp (by omega)) (fun _ => ?_)
    obtain ⟨u26, hu26⟩ : ∃ x9, x9 = c_number ee ((u19).2) 0 2 := ⟨_, rfl⟩
    rw [← hu26]
    have hxu26 : Rd2 ((u19).2) u26.2 := by rw [hu26]; exact (Rd2.rf hIu19).number hTp _ _
    have hIu26 := hxu26.1
    have hgu26 := hIu26
    obtain ⟨⟨yr261, yr262⟩, yr263, yr264, yr265⟩ := hgu26
    have heu26_7 : u26.2 0 7 = (u19).2 0 7 := hxu26.2 0 7 (by decide)
    have heu26_8 : u26.2 0 8 = (u19).2 0 8 := hxu26.2 0 8 (by decide)
    have heu26_9 : u26.2 0 9 = (u19).2 0 9 := hxu26.2 0 9 (by decide)
    have heu26_10 : u26.2 0 10 = (u19).2 0 10 := hxu26.2 0 10 (by decide)
    have hbu26 : 0 ≤ u26.1 ∧ u26.1 ≤ 2 := by rw [hu26]; exact c_number_b _ _ (by omega)
    refine T_istore_n (ls' := [some (aR 52), some (aI ((u12).1)), some (aI ((u19).1)), some (aI ((u26).1)), none]) (am_dec tX5_readWind_0 17 rfl) (by decide) rfl ?_
    refine T_aload_n (am_dec tX5_readWind_0 18 rfl) rfl ?_
    refine T_iconst 0 (am_dec tX5_readWind_0 19 rfl) rfl ⟨by decide, by decide⟩ ?_
    refine T_bipush 8 (am_dec tX5_readWind_0 20 rfl) rfl ⟨by decide, by decide⟩ ?_
    refine T_callU (as := [aI 0, aI 8]) rfl (am_dec tX5_readWind_0 21 rfl) lkX5_109_X5 (show (hfW w hb sp rb rs hb (aR sp) ro ee hh ss uu vv ((u26).2) kk rr tt gg aa dd bd ga im)[52]? = some (cO 5 [aR 51, aI ((u26).2 0 1), aI ((u26).2 0 2), aI ((u26).2 0 3), aI ((u26).2 0 4), aI ((u26).2 0 5), aR sp, aI ((u26).2 0 7), aI ((u26).2 0 8), aI ((u26).2 0 9), aI ((u26).2 0 10)]) from (hfW_c hl 52 (by decide))) rfl rfl (Nat.le_of_ble_eq_true rfl) (by omega) (mc_number (d := d - 1) hl hp hr 0 8  hIu26 hTp (by omega)) (fun _ => ?_)
    obtain ⟨u34, hu34⟩ : ∃ x9, x9 = c_number ee ((u26).2) 0 8 := ⟨_, rfl⟩
    rw [← hu34]
    have hxu34 : Rd2 ((u26).2) u34.2 := by rw [hu34]; exact (Rd2.rf hIu26).number hTp _ _
    have hIu34 := hxu34.1
    have hgu34 := hIu34
    obtain ⟨⟨yr341, yr342⟩, yr343, yr344, yr345⟩ := hgu34
    have heu34_7 : u34.2 0 7 = (u26).2 0 7 := hxu34.2 0 7 (by decide)
    have heu34_8 : u34.2 0 8 = (u26).2 0 8 := hxu34.2 0 8 (by decide)
    have heu34_9 : u34.2 0 9 = (u26).2 0 9 := hxu34.2 0 9 (by decide)
    have heu34_10 : u34.2 0 10 = (u26).2 0 10 := hxu34.2 0 10 (by decide)
    have hbu34 : 0 ≤ u34.1 ∧ u34.1 ≤ 8 := by rw [hu34]; exact c_number_b _ _ (by omega)
    refine T_istore (ls' := [some (aR 52), some (aI ((u12).1)), some (aI ((u19).1)), some (aI ((u26).1)), some (aI ((u34).1))]) (am_dec tX5_readWind_0 22 rfl) (by decide) rfl ?_
    refine T_aload_n (am_dec tX5_readWind_0 23 rfl) rfl ?_
    refine T_aload_n (am_dec tX5_readWind_0 24 rfl) rfl ?_
    refine T_getfield 5 6 (am_dec tX5_readWind_0 25 rfl) flX5_9_5 (show (hfW w hb sp rb rs hb (aR sp) ro ee hh ss uu vv ((u34).2) kk rr tt gg aa dd bd ga im)[52]? = some (cO 5 [aR 51, aI ((u34).2 0 1), aI ((u34).2 0 2), aI ((u34).2 0 3), aI ((u34).2 0 4), aI ((u34).2 0 5), aR sp, aI ((u34).2 0 7), aI ((u34).2 0 8), aI ((u34).2 0 9), aI ((u34).2 0 10)]) from (hfW_c hl 52 (by decide))) rfl ?_
    refine T_getfield 3 3 (am_dec tX5_readWind_0 26 rfl) flX5_156_3 (show (hfW w hb sp rb rs hb (aR sp) ro ee hh ss uu vv ((u34).2) kk rr tt gg aa dd bd ga im)[sp]? = some (cO 3 [aI (ss 0 0), aI (ss 0 1), aI (ss 0 2), aR (sp + 1), aR (sp + 3), aR (sp + 5), aR (sp + 7), aR (sp + 9), aR (sp + 11), aR (sp + 13), aR (sp + 15), aR (sp + 17), aR (sp + 18), aR (sp + 19)]) from ((hf_S hl hp) 0 (by decide))) rfl ?_
    refine T_iload_n (am_dec tX5_readWind_0 27 rfl) rfl ?_
    refine T_iconst 3 (am_dec tX5_readWind_0 28 rfl) rfl ⟨by decide, by decide⟩ ?_
    refine T_iload_n (am_dec tX5_readWind_0 29 rfl) rfl ?_
    refine T_imul (3 * ((u19).1)) (am_dec tX5_readWind_0 30 rfl) rfl ⟨by omega, by omega⟩ ?_
    refine T_iload_n (am_dec tX5_readWind_0 31 rfl) rfl ?_
    refine T_iadd ((3 * ((u19).1)) + ((u26).1)) (am_dec tX5_readWind_0 32 rfl) rfl ⟨by omega, by omega⟩ ?_
    refine T_iload (am_dec tX5_readWind_0 33 rfl) rfl ?_
    refine T_callV (as := [aR (sp + 1), aI ((u12).1), aI ((3 * ((u19).1)) + ((u26).1)), aI ((u34).1)]) rfl (am_dec tX5_readWind_0 34 rfl) lkX5_167 (show (hfW w hb sp rb rs hb (aR sp) ro ee hh ss uu vv ((u34).2) kk rr tt gg aa dd bd ga im)[52]? = some (cO 5 [aR 51, aI ((u34).2 0 1), aI ((u34).2 0 2), aI ((u34).2 0 3), aI ((u34).2 0 4), aI ((u34).2 0 5), aR sp, aI ((u34).2 0 7), aI ((u34).2 0 8), aI ((u34).2 0 9), aI ((u34).2 0 10)]) from (hfW_c hl 52 (by decide))) rfl rfl (Nat.le_of_ble_eq_true rfl) (by omega) (mc_addIf0 (d := d - 1) hl hp hr ((u12).1) ((3 * ((u19).1)) + ((u26).1)) ((u34).1)  hS (by omega)) (fun _ => ?_)
    refine T_nmH (W := fun x9 => hfW w hb sp rb rs hb (aR sp) ro ee hh x9 uu vv ((u34).2) kk rr tt gg aa dd bd ga im) (v := c_addIf0 ss ((u34).2) ((u12).1) ((3 * ((u19).1)) + ((u26).1)) ((u34).1)) (fun ss55 hss55 => ?_)
    have hSss55 : SpI ss55 := by rw [hss55]; exact c_addIf0_I hS _ _ _ _ (by omega) (by omega)
    exact T_return (am_dec tX5_readWind_0 35 rfl) rfl (am_tr (fun (x9 : am_F × am_F) => Q (.inl none) (hfW w hb sp rb rs hb (aR sp) ro ee hh x9.1 uu vv x9.2 kk rr tt gg aa dd bd ga im)) (y := (ss55, (u34).2)) (show (c_readWind ee ss pp) = (ss55, (u34).2) from (by have s9 := hpp8.symm; subst s9; have s9 := hu12.symm; subst s9; have s9 := hu19.symm; subst s9; have s9 := hu26.symm; subst s9; have s9 := hu34.symm; subst s9; have s9 := hss55.symm; subst s9; exact rfl)) hQ)
  exact key _ ⟨rfl, rfl⟩
def c_readThin (ee : am_F) (ss : am_F) (pp : am_F) : am_F × am_F := (let pp8 : am_F := c_needRoom1 ss pp; (let u12 : Int × am_F := c_readStep ee pp8; (let u20 : Int × am_F := c_number ee ((u12).2) 0 9; (let ss35 : am_F := c_addIf1 ss ((u20).2) ((u12).1) ((u20).1) 0; (ss35, (u20).2)))))
theorem mc_readThin {S : am_S} {d u : Nat} {w : AH} {hb sp rb rs : Nat} {ro : AV} (hl : 109 ≤ w.length) (hp : hb = 1 ∧ sp = 21 ∨ hb = 21 ∧ sp = 1) (hr : rb = 41 ∧ rs = 46 ∨ rb = 46 ∧ rs = 41) {ee : am_F} {hh : am_F} {ss : am_F} {uu : am_F} {vv : am_F} {pp : am_F} {kk : am_F} {rr : am_F} {tt : am_F} {gg : am_F} {aa : am_F} {dd : am_F} {bd : am_F} {ga : am_F} {im : am_F}  (hP : RdI pp) (hTp : TpI ee) (hS : SpI ss)  (hd : 4 ≤ d) : am_Out S zX5_readThin d u [aR 52] (hfW w hb sp rb rs hb (aR sp) ro ee hh ss uu vv pp kk rr tt gg aa dd bd ga im) (.inl none) (hfW w hb sp rb rs hb (aR sp) ro ee hh ((c_readThin ee ss pp).1) uu vv ((c_readThin ee ss pp).2) kk rr tt gg aa dd bd ga im) := by
  have key : ∀ Q : AO → AH → Prop, Q (.inl none) (hfW w hb sp rb rs hb (aR sp) ro ee hh ((c_readThin ee ss pp).1) uu vv ((c_readThin ee ss pp).2) kk rr tt gg aa dd bd ga im) → am_M S zX5_readThin d u [aR 52] (hfW w hb sp rb rs hb (aR sp) ro ee hh ss uu vv pp kk rr tt gg aa dd bd ga im) Q := by
    intro Q hQ
    refine am_body rfl (by decide +kernel) rfl (am_cats_cons rfl (am_cats_nil)) (Nat.le_of_ble_eq_true rfl) (?_ : am_T _ _ _ _ _ 0 [some (aR 52), none, none] [] (hfW w hb sp rb rs hb (aR sp) ro ee hh ss uu vv pp kk rr tt gg aa dd bd ga im))
    have hP9 := hP
    obtain ⟨⟨vr1, vr2⟩, vr3, vr4, vr5⟩ := hP9
    obtain ⟨vs1, vs2, vs3, vs4, vs5, vs6, vs7, vs8, vs9, vs10, vs11, vs12, vs13, vs14, vs15, vs16, vs17, vs18, vs19, vs20, vs21, vs22⟩ := (HbI_A hS.1).1
    refine T_aload_n (am_dec tX5_readThin_0 0 rfl) rfl ?_
    refine T_aload_n (am_dec tX5_readThin_0 1 rfl) rfl ?_
    refine T_getfield 5 6 (am_dec tX5_readThin_0 2 rfl) flX5_9_5 (show (hfW w hb sp rb rs hb (aR sp) ro ee hh ss uu vv pp kk rr tt gg aa dd bd ga im)[52]? = some (cO 5 [aR 51, aI (pp 0 1), aI (pp 0 2), aI (pp 0 3), aI (pp 0 4), aI (pp 0 5), aR sp, aI (pp 0 7), aI (pp 0 8), aI (pp 0 9), aI (pp 0 10)]) from (hfW_c hl 52 (by decide))) rfl ?_
    refine T_getfield 3 4 (am_dec tX5_readThin_0 3 rfl) flX5_171_3 (show (hfW w hb sp rb rs hb (aR sp) ro ee hh ss uu vv pp kk rr tt gg aa dd bd ga im)[sp]? = some (cO 3 [aI (ss 0 0), aI (ss 0 1), aI (ss 0 2), aR (sp + 1), aR (sp + 3), aR (sp + 5), aR (sp + 7), aR (sp + 9), aR (sp + 11), aR (sp + 13), aR (sp + 15), aR (sp + 17), aR (sp + 18), aR (sp + 19)]) from ((hf_S hl hp) 0 (by decide))) rfl ?_
    refine T_callV (as := [aR (sp + 3)]) rfl (am_dec tX5_readThin_0 4 rfl) lkX5_160 (show (hfW w hb sp rb rs hb (aR sp) ro ee hh ss uu vv pp kk rr tt gg aa dd bd ga im)[52]? = some (cO 5 [aR 51, aI (pp 0 1), aI (pp 0 2), aI (pp 0 3), aI (pp 0 4), aI (pp 0 5), aR sp, aI (pp 0 7), aI (pp 0 8), aI (pp 0 9), aI (pp 0 10)]) from (hfW_c hl 52 (by decide))) rfl rfl (Nat.le_of_ble_eq_true rfl) (by omega) (mc_needRoom1 (d := d - 1) hl hp hr   hP hTp hS (by omega)) (fun _ => ?_)
    refine T_nmH (W := fun x9 => hfW w hb sp rb rs hb (aR sp) ro ee hh ss uu vv x9 kk rr tt gg aa dd bd ga im) (v := c_needRoom1 ss pp) (fun pp8 hpp8 => ?_)
    have hxpp8 : Rd2 pp pp8 := by rw [hpp8]; exact (Rd2.rf hP).needRoom1
    have hIpp8 := hxpp8.1
    have hepp8_7 : pp8 0 7 = pp 0 7 := hxpp8.2 0 7 (by decide)
    have hepp8_8 : pp8 0 8 = pp 0 8 := hxpp8.2 0 8 (by decide)
    have hepp8_9 : pp8 0 9 = pp 0 9 := hxpp8.2 0 9 (by decide)
    have hepp8_10 : pp8 0 10 = pp 0 10 := hxpp8.2 0 10 (by decide)
    refine T_aload_n (am_dec tX5_readThin_0 5 rfl) rfl ?_
    refine T_callV (as := []) rfl (am_dec tX5_readThin_0 6 rfl) lkX5_164 (show (hfW w hb sp rb rs hb (aR sp) ro ee hh ss uu vv pp8 kk rr tt gg aa dd bd ga im)[52]? = some (cO 5 [aR 51, aI (pp8 0 1), aI (pp8 0 2), aI (pp8 0 3), aI (pp8 0 4), aI (pp8 0 5), aR sp, aI (pp8 0 7), aI (pp8 0 8), aI (pp8 0 9), aI (pp8 0 10)]) from (hfW_c hl 52 (by decide))) rfl rfl (Nat.le_of_ble_eq_true rfl) (by omega) (mc_readStep (d := d - 1) hl hp hr   hIpp8 hTp hS (by omega)) (fun _ => ?_)
    obtain ⟨u12, hu12⟩ : ∃ x9, x9 = c_readStep ee pp8 := ⟨_, rfl⟩
    rw [← hu12]
    have hxu12 : Rd2 pp8 u12.2 := by rw [hu12]; exact (Rd2.rf hIpp8).number hTp _ _
    have hIu12 := hxu12.1
    have heu12_7 : u12.2 0 7 = pp8 0 7 := hxu12.2 0 7 (by decide)
    have heu12_8 : u12.2 0 8 = pp8 0 8 := hxu12.2 0 8 (by decide)
    have heu12_9 : u12.2 0 9 = pp8 0 9 := hxu12.2 0 9 (by decide)
    have heu12_10 : u12.2 0 10 = pp8 0 10 := hxu12.2 0 10 (by decide)
    have hbu12 : 0 ≤ u12.1 ∧ u12.1 ≤ 39 := by rw [hu12]; exact c_number_b _ _ (by omega)
    refine T_istore_n (ls' := [some (aR 52), some (aI ((u12).1)), none]) (am_dec tX5_readThin_0 7 rfl) (by decide) rfl ?_
    refine T_aload_n (am_dec tX5_readThin_0 8 rfl) rfl ?_
    refine T_iconst 0 (am_dec tX5_readThin_0 9 rfl) rfl ⟨by decide, by decide⟩ ?_
    refine T_bipush 9 (am_dec tX5_readThin_0 10 rfl) rfl ⟨by decide, by decide⟩ ?_
    refine T_callU (as := [aI 0, aI 9]) rfl (am_dec tX5_readThin_0 11 rfl) lkX5_109_X5 (show (hfW w hb sp rb rs hb (aR sp) ro ee hh ss uu vv ((u12).2) kk rr tt gg aa dd bd ga im)[52]? = some (cO 5 [aR 51, aI ((u12).2 0 1), aI ((u12).2 0 2), aI ((u12).2 0 3), aI ((u12).2 0 4), aI ((u12).2 0 5), aR sp, aI ((u12).2 0 7), aI ((u12).2 0 8), aI ((u12).2 0 9), aI ((u12).2 0 10)]) from (hfW_c hl 52 (by decide))) rfl rfl (Nat.le_of_ble_eq_true rfl) (by omega) (mc_number (d := d - 1) hl hp hr 0 9  hIu12 hTp (by omega)) (fun _ => ?_)
    obtain ⟨u20, hu20⟩ : ∃ x9, x9 = c_number ee ((u12).2) 0 9 := ⟨_, rfl⟩
    rw [← hu20]
    have hxu20 : Rd2 ((u12).2) u20.2 := by rw [hu20]; exact (Rd2.rf hIu12).number hTp _ _
    have hIu20 := hxu20.1
    have hgu20 := hIu20
    obtain ⟨⟨yr201, yr202⟩, yr203, yr204, yr205⟩ := hgu20
    have heu20_7 : u20.2 0 7 = (u12).2 0 7 := hxu20.2 0 7 (by decide)
    have heu20_8 : u20.2 0 8 = (u12).2 0 8 := hxu20.2 0 8 (by decide)
    have heu20_9 : u20.2 0 9 = (u12).2 0 9 := hxu20.2 0 9 (by decide)
    have heu20_10 : u20.2 0 10 = (u12).2 0 10 := hxu20.2 0 10 (by decide)
    have hbu20 : 0 ≤ u20.1 ∧ u20.1 ≤ 9 := by rw [hu20]; exact c_number_b _ _ (by omega)
    refine T_istore_n (ls' := [some (aR 52), some (aI ((u12).1)), some (aI ((u20).1))]) (am_dec tX5_readThin_0 12 rfl) (by decide) rfl ?_
    refine T_aload_n (am_dec tX5_readThin_0 13 rfl) rfl ?_
    refine T_aload_n (am_dec tX5_readThin_0 14 rfl) rfl ?_
    refine T_getfield 5 6 (am_dec tX5_readThin_0 15 rfl) flX5_9_5 (show (hfW w hb sp rb rs hb (aR sp) ro ee hh ss uu vv ((u20).2) kk rr tt gg aa dd bd ga im)[52]? = some (cO 5 [aR 51, aI ((u20).2 0 1), aI ((u20).2 0 2), aI ((u20).2 0 3), aI ((u20).2 0 4), aI ((u20).2 0 5), aR sp, aI ((u20).2 0 7), aI ((u20).2 0 8), aI ((u20).2 0 9), aI ((u20).2 0 10)]) from (hfW_c hl 52 (by decide))) rfl ?_
    refine T_getfield 3 4 (am_dec tX5_readThin_0 16 rfl) flX5_171_3 (show (hfW w hb sp rb rs hb (aR sp) ro ee hh ss uu vv ((u20).2) kk rr tt gg aa dd bd ga im)[sp]? = some (cO 3 [aI (ss 0 0), aI (ss 0 1), aI (ss 0 2), aR (sp + 1), aR (sp + 3), aR (sp + 5), aR (sp + 7), aR (sp + 9), aR (sp + 11), aR (sp + 13), aR (sp + 15), aR (sp + 17), aR (sp + 18), aR (sp + 19)]) from ((hf_S hl hp) 0 (by decide))) rfl ?_
    refine T_iload_n (am_dec tX5_readThin_0 17 rfl) rfl ?_
    refine T_iload_n (am_dec tX5_readThin_0 18 rfl) rfl ?_
    refine T_iconst 0 (am_dec tX5_readThin_0 19 rfl) rfl ⟨by decide, by decide⟩ ?_
    refine T_callV (as := [aR (sp + 3), aI ((u12).1), aI ((u20).1), aI 0]) rfl (am_dec tX5_readThin_0 20 rfl) lkX5_167 (show (hfW w hb sp rb rs hb (aR sp) ro ee hh ss uu vv ((u20).2) kk rr tt gg aa dd bd ga im)[52]? = some (cO 5 [aR 51, aI ((u20).2 0 1), aI ((u20).2 0 2), aI ((u20).2 0 3), aI ((u20).2 0 4), aI ((u20).2 0 5), aR sp, aI ((u20).2 0 7), aI ((u20).2 0 8), aI ((u20).2 0 9), aI ((u20).2 0 10)]) from (hfW_c hl 52 (by decide))) rfl rfl (Nat.le_of_ble_eq_true rfl) (by omega) (mc_addIf1 (d := d - 1) hl hp hr ((u12).1) ((u20).1) 0  hS (by omega)) (fun _ => ?_)
    refine T_nmH (W := fun x9 => hfW w hb sp rb rs hb (aR sp) ro ee hh x9 uu vv ((u20).2) kk rr tt gg aa dd bd ga im) (v := c_addIf1 ss ((u20).2) ((u12).1) ((u20).1) 0) (fun ss35 hss35 => ?_)
    have hSss35 : SpI ss35 := by rw [hss35]; exact c_addIf1_I hS _ _ _ _ (by omega)
    exact T_return (am_dec tX5_readThin_0 21 rfl) rfl (am_tr (fun (x9 : am_F × am_F) => Q (.inl none) (hfW w hb sp rb rs hb (aR sp) ro ee hh x9.1 uu vv x9.2 kk rr tt gg aa dd bd ga im)) (y := (ss35, (u20).2)) (show (c_readThin ee ss pp) = (ss35, (u20).2) from (by have s9 := hpp8.symm; subst s9; have s9 := hu12.symm; subst s9; have s9 := hu20.symm; subst s9; have s9 := hss35.symm; subst s9; exact rfl)) hQ)
  exact key _ ⟨rfl, rfl⟩
def c_readLamp (ee : am_F) (ss : am_F) (pp : am_F) : am_F × am_F := (let pp8 : am_F := c_needRoom2 ss pp; (let u12 : Int × am_F := c_readCell ee ss pp8; (let u20 : Int × am_F := c_number ee ((u12).2) 1 20; (let ss35 : am_F := c_addIf2 ss ((u20).2) ((u12).1) ((u20).1) 0; (ss35, (u20).2)))))
theorem mc_readLamp {S : am_S} {d u : Nat} {w : AH} {hb sp rb rs : Nat} {ro : AV} (hl : 109 ≤ w.length) (hp : hb = 1 ∧ sp = 21 ∨ hb = 21 ∧ sp = 1) (hr : rb = 41 ∧ rs = 46 ∨ rb = 46 ∧ rs = 41) {ee : am_F} {hh : am_F} {ss : am_F} {uu : am_F} {vv : am_F} {pp : am_F} {kk : am_F} {rr : am_F} {tt : am_F} {gg : am_F} {aa : am_F} {dd : am_F} {bd : am_F} {ga : am_F} {im : am_F}  (hP : RdI pp) (hTp : TpI ee) (hS : SpI ss)  (hd : 4 ≤ d) : am_Out S zX5_readLamp d u [aR 52] (hfW w hb sp rb rs hb (aR sp) ro ee hh ss uu vv pp kk rr tt gg aa dd bd ga im) (.inl none) (hfW w hb sp rb rs hb (aR sp) ro ee hh ((c_readLamp ee ss pp).1) uu vv ((c_readLamp ee ss pp).2) kk rr tt gg aa dd bd ga im) := by
  have key : ∀ Q : AO → AH → Prop, Q (.inl none) (hfW w hb sp rb rs hb (aR sp) ro ee hh ((c_readLamp ee ss pp).1) uu vv ((c_readLamp ee ss pp).2) kk rr tt gg aa dd bd ga im) → am_M S zX5_readLamp d u [aR 52] (hfW w hb sp rb rs hb (aR sp) ro ee hh ss uu vv pp kk rr tt gg aa dd bd ga im) Q := by
    intro Q hQ
    refine am_body rfl (by decide +kernel) rfl (am_cats_cons rfl (am_cats_nil)) (Nat.le_of_ble_eq_true rfl) (?_ : am_T _ _ _ _ _ 0 [some (aR 52), none, none] [] (hfW w hb sp rb rs hb (aR sp) ro ee hh ss uu vv pp kk rr tt gg aa dd bd ga im))
    have hP9 := hP
    obtain ⟨⟨vr1, vr2⟩, vr3, vr4, vr5⟩ := hP9
    obtain ⟨vs1, vs2, vs3, vs4, vs5, vs6, vs7, vs8, vs9, vs10, vs11, vs12, vs13, vs14, vs15, vs16, vs17, vs18, vs19, vs20, vs21, vs22⟩ := (HbI_A hS.1).1
    refine T_aload_n (am_dec tX5_readLamp_0 0 rfl) rfl ?_
    refine T_aload_n (am_dec tX5_readLamp_0 1 rfl) rfl ?_
    refine T_getfield 5 6 (am_dec tX5_readLamp_0 2 rfl) flX5_9_5 (show (hfW w hb sp rb rs hb (aR sp) ro ee hh ss uu vv pp kk rr tt gg aa dd bd ga im)[52]? = some (cO 5 [aR 51, aI (pp 0 1), aI (pp 0 2), aI (pp 0 3), aI (pp 0 4), aI (pp 0 5), aR sp, aI (pp 0 7), aI (pp 0 8), aI (pp 0 9), aI (pp 0 10)]) from (hfW_c hl 52 (by decide))) rfl ?_
    refine T_getfield 3 5 (am_dec tX5_readLamp_0 3 rfl) flX5_174_3 (show (hfW w hb sp rb rs hb (aR sp) ro ee hh ss uu vv pp kk rr tt gg aa dd bd ga im)[sp]? = some (cO 3 [aI (ss 0 0), aI (ss 0 1), aI (ss 0 2), aR (sp + 1), aR (sp + 3), aR (sp + 5), aR (sp + 7), aR (sp + 9), aR (sp + 11), aR (sp + 13), aR (sp + 15), aR (sp + 17), aR (sp + 18), aR (sp + 19)]) from ((hf_S hl hp) 0 (by decide))) rfl ?_
    refine T_callV (as := [aR (sp + 5)]) rfl (am_dec tX5_readLamp_0 4 rfl) lkX5_160 (show (hfW w hb sp rb rs hb (aR sp) ro ee hh ss uu vv pp kk rr tt gg aa dd bd ga im)[52]? = some (cO 5 [aR 51, aI (pp 0 1), aI (pp 0 2), aI (pp 0 3), aI (pp 0 4), aI (pp 0 5), aR sp, aI (pp 0 7), aI (pp 0 8), aI (pp 0 9), aI (pp 0 10)]) from (hfW_c hl 52 (by decide))) rfl rfl (Nat.le_of_ble_eq_true rfl) (by omega) (mc_needRoom2 (d := d - 1) hl hp hr   hP hTp hS (by omega)) (fun _ => ?_)
    refine T_nmH (W := fun x9 => hfW w hb sp rb rs hb (aR sp) ro ee hh ss uu vv x9 kk rr tt gg aa dd bd ga im) (v := c_needRoom2 ss pp) (fun pp8 hpp8 => ?_)
    have hxpp8 : Rd2 pp pp8 := by rw [hpp8]; exact (Rd2.rf hP).needRoom2
    have hIpp8 := hxpp8.1
    have hepp8_7 : pp8 0 7 = pp 0 7 := hxpp8.2 0 7 (by decide)
    have hepp8_8 : pp8 0 8 = pp 0 8 := hxpp8.2 0 8 (by decide)
    have hepp8_9 : pp8 0 9 = pp 0 9 := hxpp8.2 0 9 (by decide)
    have hepp8_10 : pp8 0 10 = pp 0 10 := hxpp8.2 0 10 (by decide)
    refine T_aload_n (am_dec tX5_readLamp_0 5 rfl) rfl ?_
    refine T_callV (as := []) rfl (am_dec tX5_readLamp_0 6 rfl) lkX5_177 (show (hfW w hb sp rb rs hb (aR sp) ro ee hh ss uu vv pp8 kk rr tt gg aa dd bd ga im)[52]? = some (cO 5 [aR 51, aI (pp8 0 1), aI (pp8 0 2), aI (pp8 0 3), aI (pp8 0 4), aI (pp8 0 5), aR sp, aI (pp8 0 7), aI (pp8 0 8), aI (pp8 0 9), aI (pp8 0 10)]) from (hfW_c hl 52 (by decide))) rfl rfl (Nat.le_of_ble_eq_true rfl) (by omega) (mc_readCell (d := d - 1) hl hp hr   hIpp8 hTp hS (by omega)) (fun _ => ?_)
    obtain ⟨u12, hu12⟩ : ∃ x9, x9 = c_readCell ee ss pp8 := ⟨_, rfl⟩
    rw [← hu12]
    have hyu12 : Rd2 pp8 u12.2 ∧ 0 ≤ u12.1 ∧ u12.1 ≤ 88 := by rw [hu12]; exact c_readCell_x (Rd2.rf hIpp8) hTp hS
    have hxu12 := hyu12.1
    have hIu12 := hxu12.1
    refine T_istore_n (ls' := [some (aR 52), some (aI ((u12).1)), none]) (am_dec tX5_readLamp_0 7 rfl) (by decide) rfl ?_
    refine T_aload_n (am_dec tX5_readLamp_0 8 rfl) rfl ?_
    refine T_iconst 1 (am_dec tX5_readLamp_0 9 rfl) rfl ⟨by decide, by decide⟩ ?_
    refine T_bipush 20 (am_dec tX5_readLamp_0 10 rfl) rfl ⟨by decide, by decide⟩ ?_
    refine T_callU (as := [aI 1, aI 20]) rfl (am_dec tX5_readLamp_0 11 rfl) lkX5_109_X5 (show (hfW w hb sp rb rs hb (aR sp) ro ee hh ss uu vv ((u12).2) kk rr tt gg aa dd bd ga im)[52]? = some (cO 5 [aR 51, aI ((u12).2 0 1), aI ((u12).2 0 2), aI ((u12).2 0 3), aI ((u12).2 0 4), aI ((u12).2 0 5), aR sp, aI ((u12).2 0 7), aI ((u12).2 0 8), aI ((u12).2 0 9), aI ((u12).2 0 10)]) from (hfW_c hl 52 (by decide))) rfl rfl (Nat.le_of_ble_eq_true rfl) (by omega) (mc_number (d := d - 1) hl hp hr 1 20  hIu12 hTp (by omega)) (fun _ => ?_)
    obtain ⟨u20, hu20⟩ : ∃ x9, x9 = c_number ee ((u12).2) 1 20 := ⟨_, rfl⟩
    rw [← hu20]
    have hxu20 : Rd2 ((u12).2) u20.2 := by rw [hu20]; exact (Rd2.rf hIu12).number hTp _ _
    have hIu20 := hxu20.1
    have hgu20 := hIu20
    obtain ⟨⟨yr201, yr202⟩, yr203, yr204, yr205⟩ := hgu20
    have heu20_7 : u20.2 0 7 = (u12).2 0 7 := hxu20.2 0 7 (by decide)
    have heu20_8 : u20.2 0 8 = (u12).2 0 8 := hxu20.2 0 8 (by decide)
    have heu20_9 : u20.2 0 9 = (u12).2 0 9 := hxu20.2 0 9 (by decide)
    have heu20_10 : u20.2 0 10 = (u12).2 0 10 := hxu20.2 0 10 (by decide)
    have hbu20 : 1 ≤ u20.1 ∧ u20.1 ≤ 20 := by rw [hu20]; exact c_number_b _ _ (by omega)
    refine T_istore_n (ls' := [some (aR 52), some (aI ((u12).1)), some (aI ((u20).1))]) (am_dec tX5_readLamp_0 12 rfl) (by decide) rfl ?_
    refine T_aload_n (am_dec tX5_readLamp_0 13 rfl) rfl ?_
    refine T_aload_n (am_dec tX5_readLamp_0 14 rfl) rfl ?_
    refine T_getfield 5 6 (am_dec tX5_readLamp_0 15 rfl) flX5_9_5 (show (hfW w hb sp rb rs hb (aR sp) ro ee hh ss uu vv ((u20).2) kk rr tt gg aa dd bd ga im)[52]? = some (cO 5 [aR 51, aI ((u20).2 0 1), aI ((u20).2 0 2), aI ((u20).2 0 3), aI ((u20).2 0 4), aI ((u20).2 0 5), aR sp, aI ((u20).2 0 7), aI ((u20).2 0 8), aI ((u20).2 0 9), aI ((u20).2 0 10)]) from (hfW_c hl 52 (by decide))) rfl ?_
    refine T_getfield 3 5 (am_dec tX5_readLamp_0 16 rfl) flX5_174_3 (show (hfW w hb sp rb rs hb (aR sp) ro ee hh ss uu vv ((u20).2) kk rr tt gg aa dd bd ga im)[sp]? = some (cO 3 [aI (ss 0 0), aI (ss 0 1), aI (ss 0 2), aR (sp + 1), aR (sp + 3), aR (sp + 5), aR (sp + 7), aR (sp + 9), aR (sp + 11), aR (sp + 13), aR (sp + 15), aR (sp + 17), aR (sp + 18), aR (sp + 19)]) from ((hf_S hl hp) 0 (by decide))) rfl ?_
    refine T_iload_n (am_dec tX5_readLamp_0 17 rfl) rfl ?_
    refine T_iload_n (am_dec tX5_readLamp_0 18 rfl) rfl ?_
    refine T_iconst 0 (am_dec tX5_readLamp_0 19 rfl) rfl ⟨by decide, by decide⟩ ?_
    refine T_callV (as := [aR (sp + 5), aI ((u12).1), aI ((u20).1), aI 0]) rfl (am_dec tX5_readLamp_0 20 rfl) lkX5_167 (show (hfW w hb sp rb rs hb (aR sp) ro ee hh ss uu vv ((u20).2) kk rr tt gg aa dd bd ga im)[52]? = some (cO 5 [aR 51, aI ((u20).2 0 1), aI ((u20).2 0 2), aI ((u20).2 0 3), aI ((u20).2 0 4), aI ((u20).2 0 5), aR sp, aI ((u20).2 0 7), aI ((u20).2 0 8), aI ((u20).2 0 9), aI ((u20).2 0 10)]) from (hfW_c hl 52 (by decide))) rfl rfl (Nat.le_of_ble_eq_true rfl) (by omega) (mc_addIf2 (d := d - 1) hl hp hr ((u12).1) ((u20).1) 0  hS (by omega)) (fun _ => ?_)
    refine T_nmH (W := fun x9 => hfW w hb sp rb rs hb (aR sp) ro ee hh x9 uu vv ((u20).2) kk rr tt gg aa dd bd ga im) (v := c_addIf2 ss ((u20).2) ((u12).1) ((u20).1) 0) (fun ss35 hss35 => ?_)
    have hSss35 : SpI ss35 := by rw [hss35]; exact c_addIf2_I hS _ _ _ _ (by omega) (by omega)
    exact T_return (am_dec tX5_readLamp_0 21 rfl) rfl (am_tr (fun (x9 : am_F × am_F) => Q (.inl none) (hfW w hb sp rb rs hb (aR sp) ro ee hh x9.1 uu vv x9.2 kk rr tt gg aa dd bd ga im)) (y := (ss35, (u20).2)) (show (c_readLamp ee ss pp) = (ss35, (u20).2) from (by have s9 := hpp8.symm; subst s9; have s9 := hu12.symm; subst s9; have s9 := hu20.symm; subst s9; have s9 := hss35.symm; subst s9; exact rfl)) hQ)
  exact key _ ⟨rfl, rfl⟩
def c_readSteamer (ee : am_F) (ss : am_F) (pp : am_F) : am_F × am_F := (let pp8 : am_F := c_needRoom3 ss pp; (let u12 : Int × am_F := c_readStep ee pp8; (let u17 : Int × am_F := c_readCell ee ss ((u12).2); (let ss32 : am_F := c_addIf3 ss ((u17).2) ((u12).1) ((u17).1) 0; (ss32, (u17).2)))))
theorem mc_readSteamer {S : am_S} {d u : Nat} {w : AH} {hb sp rb rs : Nat} {ro : AV} (hl : 109 ≤ w.length) (hp : hb = 1 ∧ sp = 21 ∨ hb = 21 ∧ sp = 1) (hr : rb = 41 ∧ rs = 46 ∨ rb = 46 ∧ rs = 41) {ee : am_F} {hh : am_F} {ss : am_F} {uu : am_F} {vv : am_F} {pp : am_F} {kk : am_F} {rr : am_F} {tt : am_F} {gg : am_F} {aa : am_F} {dd : am_F} {bd : am_F} {ga : am_F} {im : am_F}  (hP : RdI pp) (hTp : TpI ee) (hS : SpI ss)  (hd : 4 ≤ d) : am_Out S zX5_readSteamer d u [aR 52] (hfW w hb sp rb rs hb (aR sp) ro ee hh ss uu vv pp kk rr tt gg aa dd bd ga im) (.inl none) (hfW w hb sp rb rs hb (aR sp) ro ee hh ((c_readSteamer ee ss pp).1) uu vv ((c_readSteamer ee ss pp).2) kk rr tt gg aa dd bd ga im) := by
  have key : ∀ Q : AO → AH → Prop, Q (.inl none) (hfW w hb sp rb rs hb (aR sp) ro ee hh ((c_readSteamer ee ss pp).1) uu vv ((c_readSteamer ee ss pp).2) kk rr tt gg aa dd bd ga im) → am_M S zX5_readSteamer d u [aR 52] (hfW w hb sp rb rs hb (aR sp) ro ee hh ss uu vv pp kk rr tt gg aa dd bd ga im) Q := by
    intro Q hQ
    refine am_body rfl (by decide +kernel) rfl (am_cats_cons rfl (am_cats_nil)) (Nat.le_of_ble_eq_true rfl) (?_ : am_T _ _ _ _ _ 0 [some (aR 52), none, none] [] (hfW w hb sp rb rs hb (aR sp) ro ee hh ss uu vv pp kk rr tt gg aa dd bd ga im))
    have hP9 := hP
    obtain ⟨⟨vr1, vr2⟩, vr3, vr4, vr5⟩ := hP9
    obtain ⟨vs1, vs2, vs3, vs4, vs5, vs6, vs7, vs8, vs9, vs10, vs11, vs12, vs13, vs14, vs15, vs16, vs17, vs18, vs19, vs20, vs21, vs22⟩ := (HbI_A hS.1).1
    refine T_aload_n (am_dec tX5_readSteamer_0 0 rfl) rfl ?_
    refine T_aload_n (am_dec tX5_readSteamer_0 1 rfl) rfl ?_
    refine T_getfield 5 6 (am_dec tX5_readSteamer_0 2 rfl) flX5_9_5 (show (hfW w hb sp rb rs hb (aR sp) ro ee hh ss uu vv pp kk rr tt gg aa dd bd ga im)[52]? = some (cO 5 [aR 51, aI (pp 0 1), aI (pp 0 2), aI (pp 0 3), aI (pp 0 4), aI (pp 0 5), aR sp, aI (pp 0 7), aI (pp 0 8), aI (pp 0 9), aI (pp 0 10)]) from (hfW_c hl 52 (by decide))) rfl ?_
    refine T_getfield 3 6 (am_dec tX5_readSteamer_0 3 rfl) flX5_180_3 (show (hfW w hb sp rb rs hb (aR sp) ro ee hh ss uu vv pp kk rr tt gg aa dd bd ga im)[sp]? = some (cO 3 [aI (ss 0 0), aI (ss 0 1), aI (ss 0 2), aR (sp + 1), aR (sp + 3), aR (sp + 5), aR (sp + 7), aR (sp + 9), aR (sp + 11), aR (sp + 13), aR (sp + 15), aR (sp + 17), aR (sp + 18), aR (sp + 19)]) from ((hf_S hl hp) 0 (by decide))) rfl ?_
    refine T_callV (as := [aR (sp + 7)]) rfl (am_dec tX5_readSteamer_0 4 rfl) lkX5_160 (show (hfW w hb sp rb rs hb (aR sp) ro ee hh ss uu vv pp kk rr tt gg aa dd bd ga im)[52]? = some (cO 5 [aR 51, aI (pp 0 1), aI (pp 0 2), aI (pp 0 3), aI (pp 0 4), aI (pp 0 5), aR sp, aI (pp 0 7), aI (pp 0 8), aI (pp 0 9), aI (pp 0 10)]) from (hfW_c hl 52 (by decide))) rfl rfl (Nat.le_of_ble_eq_true rfl) (by omega) (mc_needRoom3 (d := d - 1) hl hp hr   hP hTp hS (by omega)) (fun _ => ?_)
    refine T_nmH (W := fun x9 => hfW w hb sp rb rs hb (aR sp) ro ee hh ss uu vv x9 kk rr tt gg aa dd bd ga im) (v := c_needRoom3 ss pp) (fun pp8 hpp8 => ?_)
    have hxpp8 : Rd2 pp pp8 := by rw [hpp8]; exact (Rd2.rf hP).needRoom3
    have hIpp8 := hxpp8.1
    have hepp8_7 : pp8 0 7 = pp 0 7 := hxpp8.2 0 7 (by decide)
    have hepp8_8 : pp8 0 8 = pp 0 8 := hxpp8.2 0 8 (by decide)
    have hepp8_9 : pp8 0 9 = pp 0 9 := hxpp8.2 0 9 (by decide)
    have hepp8_10 : pp8 0 10 = pp 0 10 := hxpp8.2 0 10 (by decide)
    refine T_aload_n (am_dec tX5_readSteamer_0 5 rfl) rfl ?_
    refine T_callV (as := []) rfl (am_dec tX5_readSteamer_0 6 rfl) lkX5_164 (show (hfW w hb sp rb rs hb (aR sp) ro ee hh ss uu vv pp8 kk rr tt gg aa dd bd ga im)[52]? = some (cO 5 [aR 51, aI (pp8 0 1), aI (pp8 0 2), aI (pp8 0 3), aI (pp8 0 4), aI (pp8 0 5), aR sp, aI (pp8 0 7), aI (pp8 0 8), aI (pp8 0 9), aI (pp8 0 10)]) from (hfW_c hl 52 (by decide))) rfl rfl (Nat.le_of_ble_eq_true rfl) (by omega) (mc_readStep (d := d - 1) hl hp hr   hIpp8 hTp hS (by omega)) (fun _ => ?_)
    obtain ⟨u12, hu12⟩ : ∃ x9, x9 = c_readStep ee pp8 := ⟨_, rfl⟩
    rw [← hu12]
    have hxu12 : Rd2 pp8 u12.2 := by rw [hu12]; exact (Rd2.rf hIpp8).number hTp _ _
    have hIu12 := hxu12.1
    have heu12_7 : u12.2 0 7 = pp8 0 7 := hxu12.2 0 7 (by decide)
    have heu12_8 : u12.2 0 8 = pp8 0 8 := hxu12.2 0 8 (by decide)
    have heu12_9 : u12.2 0 9 = pp8 0 9 := hxu12.2 0 9 (by decide)
    have heu12_10 : u12.2 0 10 = pp8 0 10 := hxu12.2 0 10 (by decide)
    have hbu12 : 0 ≤ u12.1 ∧ u12.1 ≤ 39 := by rw [hu12]; exact c_number_b _ _ (by omega)
    refine T_istore_n (ls' := [some (aR 52), some (aI ((u12).1)), none]) (am_dec tX5_readSteamer_0 7 rfl) (by decide) rfl ?_
    refine T_aload_n (am_dec tX5_readSteamer_0 8 rfl) rfl ?_
    refine T_callV (as := []) rfl (am_dec tX5_readSteamer_0 9 rfl) lkX5_177 (show (hfW w hb sp rb rs hb (aR sp) ro ee hh ss uu vv ((u12).2) kk rr tt gg aa dd bd ga im)[52]? = some (cO 5 [aR 51, aI ((u12).2 0 1), aI ((u12).2 0 2), aI ((u12).2 0 3), aI ((u12).2 0 4), aI ((u12).2 0 5), aR sp, aI ((u12).2 0 7), aI ((u12).2 0 8), aI ((u12).2 0 9), aI ((u12).2 0 10)]) from (hfW_c hl 52 (by decide))) rfl rfl (Nat.le_of_ble_eq_true rfl) (by omega) (mc_readCell (d := d - 1) hl hp hr   hIu12 hTp hS (by omega)) (fun _ => ?_)
    obtain ⟨u17, hu17⟩ : ∃ x9, x9 = c_readCell ee ss ((u12).2) := ⟨_, rfl⟩
    rw [← hu17]
    have hyu17 : Rd2 ((u12).2) u17.2 ∧ 0 ≤ u17.1 ∧ u17.1 ≤ 88 := by rw [hu17]; exact c_readCell_x (Rd2.rf hIu12) hTp hS
    have hxu17 := hyu17.1
    have hIu17 := hxu17.1
    refine T_istore_n (ls' := [some (aR 52), some (aI ((u12).1)), some (aI ((u17).1))]) (am_dec tX5_readSteamer_0 10 rfl) (by decide) rfl ?_
    refine T_aload_n (am_dec tX5_readSteamer_0 11 rfl) rfl ?_
    refine T_aload_n (am_dec tX5_readSteamer_0 12 rfl) rfl ?_
    refine T_getfield 5 6 (am_dec tX5_readSteamer_0 13 rfl) flX5_9_5 (show (hfW w hb sp rb rs hb (aR sp) ro ee hh ss uu vv ((u17).2) kk rr tt gg aa dd bd ga im)[52]? = some (cO 5 [aR 51, aI ((u17).2 0 1), aI ((u17).2 0 2), aI ((u17).2 0 3), aI ((u17).2 0 4), aI ((u17).2 0 5), aR sp, aI ((u17).2 0 7), aI ((u17).2 0 8), aI ((u17).2 0 9), aI ((u17).2 0 10)]) from (hfW_c hl 52 (by decide))) rfl ?_
    refine T_getfield 3 6 (am_dec tX5_readSteamer_0 14 rfl) flX5_180_3 (show (hfW w hb sp rb rs hb (aR sp) ro ee hh ss uu vv ((u17).2) kk rr tt gg aa dd bd ga im)[sp]? = some (cO 3 [aI (ss 0 0), aI (ss 0 1), aI (ss 0 2), aR (sp + 1), aR (sp + 3), aR (sp + 5), aR (sp + 7), aR (sp + 9), aR (sp + 11), aR (sp + 13), aR (sp + 15), aR (sp + 17), aR (sp + 18), aR (sp + 19)]) from ((hf_S hl hp) 0 (by decide))) rfl ?_
    refine T_iload_n (am_dec tX5_readSteamer_0 15 rfl) rfl ?_
    refine T_iload_n (am_dec tX5_readSteamer_0 16 rfl) rfl ?_
    refine T_iconst 0 (am_dec tX5_readSteamer_0 17 rfl) rfl ⟨by decide, by decide⟩ ?_
    refine T_callV (as := [aR (sp + 7), aI ((u12).1), aI ((u17).1), aI 0]) rfl (am_dec tX5_readSteamer_0 18 rfl) lkX5_167 (show (hfW w hb sp rb rs hb (aR sp) ro ee hh ss uu vv ((u17).2) kk rr tt gg aa dd bd ga im)[52]? = some (cO 5 [aR 51, aI ((u17).2 0 1), aI ((u17).2 0 2), aI ((u17).2 0 3), aI ((u17).2 0 4), aI ((u17).2 0 5), aR sp, aI ((u17).2 0 7), aI ((u17).2 0 8), aI ((u17).2 0 9), aI ((u17).2 0 10)]) from (hfW_c hl 52 (by decide))) rfl rfl (Nat.le_of_ble_eq_true rfl) (by omega) (mc_addIf3 (d := d - 1) hl hp hr ((u12).1) ((u17).1) 0  hS (by omega)) (fun _ => ?_)
    refine T_nmH (W := fun x9 => hfW w hb sp rb rs hb (aR sp) ro ee hh x9 uu vv ((u17).2) kk rr tt gg aa dd bd ga im) (v := c_addIf3 ss ((u17).2) ((u12).1) ((u17).1) 0) (fun ss32 hss32 => ?_)
    have hSss32 : SpI ss32 := by rw [hss32]; exact c_addIf3_I hS _ _ _ _ (by omega)
    exact T_return (am_dec tX5_readSteamer_0 19 rfl) rfl (am_tr (fun (x9 : am_F × am_F) => Q (.inl none) (hfW w hb sp rb rs hb (aR sp) ro ee hh x9.1 uu vv x9.2 kk rr tt gg aa dd bd ga im)) (y := (ss32, (u17).2)) (show (c_readSteamer ee ss pp) = (ss32, (u17).2) from (by have s9 := hpp8.symm; subst s9; have s9 := hu12.symm; subst s9; have s9 := hu17.symm; subst s9; have s9 := hss32.symm; subst s9; exact rfl)) hQ)
  exact key _ ⟨rfl, rfl⟩
def c_readWatch (ee : am_F) (ss : am_F) (pp : am_F) : am_F × am_F := (let pp8 : am_F := c_needRoom6 ss pp; (let u12 : Int × am_F := c_readCell ee ss pp8; (let ss27 : am_F := c_addIf6 ss ((u12).2) ((u12).1) 0 0; (ss27, (u12).2))))
theorem mc_readWatch {S : am_S} {d u : Nat} {w : AH} {hb sp rb rs : Nat} {ro : AV} (hl : 109 ≤ w.length) (hp : hb = 1 ∧ sp = 21 ∨ hb = 21 ∧ sp = 1) (hr : rb = 41 ∧ rs = 46 ∨ rb = 46 ∧ rs = 41) {ee : am_F} {hh : am_F} {ss : am_F} {uu : am_F} {vv : am_F} {pp : am_F} {kk : am_F} {rr : am_F} {tt : am_F} {gg : am_F} {aa : am_F} {dd : am_F} {bd : am_F} {ga : am_F} {im : am_F}  (hP : RdI pp) (hTp : TpI ee) (hS : SpI ss)  (hd : 4 ≤ d) : am_Out S zX5_readWatch d u [aR 52] (hfW w hb sp rb rs hb (aR sp) ro ee hh ss uu vv pp kk rr tt gg aa dd bd ga im) (.inl none) (hfW w hb sp rb rs hb (aR sp) ro ee hh ((c_readWatch ee ss pp).1) uu vv ((c_readWatch ee ss pp).2) kk rr tt gg aa dd bd ga im) := by
  have key : ∀ Q : AO → AH → Prop, Q (.inl none) (hfW w hb sp rb rs hb (aR sp) ro ee hh ((c_readWatch ee ss pp).1) uu vv ((c_readWatch ee ss pp).2) kk rr tt gg aa dd bd ga im) → am_M S zX5_readWatch d u [aR 52] (hfW w hb sp rb rs hb (aR sp) ro ee hh ss uu vv pp kk rr tt gg aa dd bd ga im) Q := by
    intro Q hQ
    refine am_body rfl (by decide +kernel) rfl (am_cats_cons rfl (am_cats_nil)) (Nat.le_of_ble_eq_true rfl) (?_ : am_T _ _ _ _ _ 0 [some (aR 52), none] [] (hfW w hb sp rb rs hb (aR sp) ro ee hh ss uu vv pp kk rr tt gg aa dd bd ga im))
    have hP9 := hP
    obtain ⟨⟨vr1, vr2⟩, vr3, vr4, vr5⟩ := hP9
    obtain ⟨vs1, vs2, vs3, vs4, vs5, vs6, vs7, vs8, vs9, vs10, vs11, vs12, vs13, vs14, vs15, vs16, vs17, vs18, vs19, vs20, vs21, vs22⟩ := (HbI_A hS.1).1
    refine T_aload_n (am_dec tX5_readWatch_0 0 rfl) rfl ?_
    refine T_aload_n (am_dec tX5_readWatch_0 1 rfl) rfl ?_
    refine T_getfield 5 6 (am_dec tX5_readWatch_0 2 rfl) flX5_9_5 (show (hfW w hb sp rb rs hb (aR sp) ro ee hh ss uu vv pp kk rr tt gg aa dd bd ga im)[52]? = some (cO 5 [aR 51, aI (pp 0 1), aI (pp 0 2), aI (pp 0 3), aI (pp 0 4), aI (pp 0 5), aR sp, aI (pp 0 7), aI (pp 0 8), aI (pp 0 9), aI (pp 0 10)]) from (hfW_c hl 52 (by decide))) rfl ?_
    refine T_getfield 3 9 (am_dec tX5_readWatch_0 3 rfl) flX5_215_3 (show (hfW w hb sp rb rs hb (aR sp) ro ee hh ss uu vv pp kk rr tt gg aa dd bd ga im)[sp]? = some (cO 3 [aI (ss 0 0), aI (ss 0 1), aI (ss 0 2), aR (sp + 1), aR (sp + 3), aR (sp + 5), aR (sp + 7), aR (sp + 9), aR (sp + 11), aR (sp + 13), aR (sp + 15), aR (sp + 17), aR (sp + 18), aR (sp + 19)]) from ((hf_S hl hp) 0 (by decide))) rfl ?_
    refine T_callV (as := [aR (sp + 13)]) rfl (am_dec tX5_readWatch_0 4 rfl) lkX5_160 (show (hfW w hb sp rb rs hb (aR sp) ro ee hh ss uu vv pp kk rr tt gg aa dd bd ga im)[52]? = some (cO 5 [aR 51, aI (pp 0 1), aI (pp 0 2), aI (pp 0 3), aI (pp 0 4), aI (pp 0 5), aR sp, aI (pp 0 7), aI (pp 0 8), aI (pp 0 9), aI (pp 0 10)]) from (hfW_c hl 52 (by decide))) rfl rfl (Nat.le_of_ble_eq_true rfl) (by omega) (mc_needRoom6 (d := d - 1) hl hp hr   hP hTp hS (by omega)) (fun _ => ?_)
    refine T_nmH (W := fun x9 => hfW w hb sp rb rs hb (aR sp) ro ee hh ss uu vv x9 kk rr tt gg aa dd bd ga im) (v := c_needRoom6 ss pp) (fun pp8 hpp8 => ?_)
    have hxpp8 : Rd2 pp pp8 := by rw [hpp8]; exact (Rd2.rf hP).needRoom6
    have hIpp8 := hxpp8.1
    have hepp8_7 : pp8 0 7 = pp 0 7 := hxpp8.2 0 7 (by decide)
    have hepp8_8 : pp8 0 8 = pp 0 8 := hxpp8.2 0 8 (by decide)
    have hepp8_9 : pp8 0 9 = pp 0 9 := hxpp8.2 0 9 (by decide)
    have hepp8_10 : pp8 0 10 = pp 0 10 := hxpp8.2 0 10 (by decide)
    refine T_aload_n (am_dec tX5_readWatch_0 5 rfl) rfl ?_
    refine T_callV (as := []) rfl (am_dec tX5_readWatch_0 6 rfl) lkX5_177 (show (hfW w hb sp rb rs hb (aR sp) ro ee hh ss uu vv pp8 kk rr tt gg aa dd bd ga im)[52]? = some (cO 5 [aR 51, aI (pp8 0 1), aI (pp8 0 2), aI (pp8 0 3), aI (pp8 0 4), aI (pp8 0 5), aR sp, aI (pp8 0 7), aI (pp8 0 8), aI (pp8 0 9), aI (pp8 0 10)]) from (hfW_c hl 52 (by decide))) rfl rfl (Nat.le_of_ble_eq_true rfl) (by omega) (mc_readCell (d := d - 1) hl hp hr   hIpp8 hTp hS (by omega)) (fun _ => ?_)
    obtain ⟨u12, hu12⟩ : ∃ x9, x9 = c_readCell ee ss pp8 := ⟨_, rfl⟩
    rw [← hu12]
    have hyu12 : Rd2 pp8 u12.2 ∧ 0 ≤ u12.1 ∧ u12.1 ≤ 88 := by rw [hu12]; exact c_readCell_x (Rd2.rf hIpp8) hTp hS
    have hxu12 := hyu12.1
    have hIu12 := hxu12.1
    refine T_istore_n (ls' := [some (aR 52), some (aI ((u12).1))]) (am_dec tX5_readWatch_0 7 rfl) (by decide) rfl ?_
    refine T_aload_n (am_dec tX5_readWatch_0 8 rfl) rfl ?_
    refine T_aload_n (am_dec tX5_readWatch_0 9 rfl) rfl ?_
    refine T_getfield 5 6 (am_dec tX5_readWatch_0 10 rfl) flX5_9_5 (show (hfW w hb sp rb rs hb (aR sp) ro ee hh ss uu vv ((u12).2) kk rr tt gg aa dd bd ga im)[52]? = some (cO 5 [aR 51, aI ((u12).2 0 1), aI ((u12).2 0 2), aI ((u12).2 0 3), aI ((u12).2 0 4), aI ((u12).2 0 5), aR sp, aI ((u12).2 0 7), aI ((u12).2 0 8), aI ((u12).2 0 9), aI ((u12).2 0 10)]) from (hfW_c hl 52 (by decide))) rfl ?_
    refine T_getfield 3 9 (am_dec tX5_readWatch_0 11 rfl) flX5_215_3 (show (hfW w hb sp rb rs hb (aR sp) ro ee hh ss uu vv ((u12).2) kk rr tt gg aa dd bd ga im)[sp]? = some (cO 3 [aI (ss 0 0), aI (ss 0 1), aI (ss 0 2), aR (sp + 1), aR (sp + 3), aR (sp + 5), aR (sp + 7), aR (sp + 9), aR (sp + 11), aR (sp + 13), aR (sp + 15), aR (sp + 17), aR (sp + 18), aR (sp + 19)]) from ((hf_S hl hp) 0 (by decide))) rfl ?_
    refine T_iload_n (am_dec tX5_readWatch_0 12 rfl) rfl ?_
    refine T_iconst 0 (am_dec tX5_readWatch_0 13 rfl) rfl ⟨by decide, by decide⟩ ?_
    refine T_iconst 0 (am_dec tX5_readWatch_0 14 rfl) rfl ⟨by decide, by decide⟩ ?_
    refine T_callV (as := [aR (sp + 13), aI ((u12).1), aI 0, aI 0]) rfl (am_dec tX5_readWatch_0 15 rfl) lkX5_167 (show (hfW w hb sp rb rs hb (aR sp) ro ee hh ss uu vv ((u12).2) kk rr tt gg aa dd bd ga im)[52]? = some (cO 5 [aR 51, aI ((u12).2 0 1), aI ((u12).2 0 2), aI ((u12).2 0 3), aI ((u12).2 0 4), aI ((u12).2 0 5), aR sp, aI ((u12).2 0 7), aI ((u12).2 0 8), aI ((u12).2 0 9), aI ((u12).2 0 10)]) from (hfW_c hl 52 (by decide))) rfl rfl (Nat.le_of_ble_eq_true rfl) (by omega) (mc_addIf6 (d := d - 1) hl hp hr ((u12).1) 0 0  hS (by omega)) (fun _ => ?_)
    refine T_nmH (W := fun x9 => hfW w hb sp rb rs hb (aR sp) ro ee hh x9 uu vv ((u12).2) kk rr tt gg aa dd bd ga im) (v := c_addIf6 ss ((u12).2) ((u12).1) 0 0) (fun ss27 hss27 => ?_)
    have hSss27 : SpI ss27 := by rw [hss27]; exact c_addIf6_I hS _ _ _ _ (by omega)
    exact T_return (am_dec tX5_readWatch_0 16 rfl) rfl (am_tr (fun (x9 : am_F × am_F) => Q (.inl none) (hfW w hb sp rb rs hb (aR sp) ro ee hh x9.1 uu vv x9.2 kk rr tt gg aa dd bd ga im)) (y := (ss27, (u12).2)) (show (c_readWatch ee ss pp) = (ss27, (u12).2) from (by have s9 := hpp8.symm; subst s9; have s9 := hu12.symm; subst s9; have s9 := hss27.symm; subst s9; exact rfl)) hQ)
  exact key _ ⟨rfl, rfl⟩
def c_readSight (ee : am_F) (ss : am_F) (pp : am_F) : am_F × am_F := (let u4 : Int × am_F := c_number ee pp 1 99; (let z9 : Int := (c_fine ((u4).2)); (let ss12 : am_F := (if z9 = 0 then ss else (am_put ss 0 2 ((u4).1))); (ss12, (u4).2))))
theorem mc_readSight {S : am_S} {d u : Nat} {w : AH} {hb sp rb rs : Nat} {ro : AV} (hl : 109 ≤ w.length) (hp : hb = 1 ∧ sp = 21 ∨ hb = 21 ∧ sp = 1) (hr : rb = 41 ∧ rs = 46 ∨ rb = 46 ∧ rs = 41) {ee : am_F} {hh : am_F} {ss : am_F} {uu : am_F} {vv : am_F} {pp : am_F} {kk : am_F} {rr : am_F} {tt : am_F} {gg : am_F} {aa : am_F} {dd : am_F} {bd : am_F} {ga : am_F} {im : am_F}  (hP : RdI pp) (hTp : TpI ee) (hS : SpI ss)  (hd : 3 ≤ d) : am_Out S zX5_readSight d u [aR 52] (hfW w hb sp rb rs hb (aR sp) ro ee hh ss uu vv pp kk rr tt gg aa dd bd ga im) (.inl none) (hfW w hb sp rb rs hb (aR sp) ro ee hh ((c_readSight ee ss pp).1) uu vv ((c_readSight ee ss pp).2) kk rr tt gg aa dd bd ga im) := by
  have key : ∀ Q : AO → AH → Prop, Q (.inl none) (hfW w hb sp rb rs hb (aR sp) ro ee hh ((c_readSight ee ss pp).1) uu vv ((c_readSight ee ss pp).2) kk rr tt gg aa dd bd ga im) → am_M S zX5_readSight d u [aR 52] (hfW w hb sp rb rs hb (aR sp) ro ee hh ss uu vv pp kk rr tt gg aa dd bd ga im) Q := by
    intro Q hQ
    refine am_body rfl (by decide +kernel) rfl (am_cats_cons rfl (am_cats_nil)) (Nat.le_of_ble_eq_true rfl) (?_ : am_T _ _ _ _ _ 0 [some (aR 52), none] [] (hfW w hb sp rb rs hb (aR sp) ro ee hh ss uu vv pp kk rr tt gg aa dd bd ga im))
    have hP9 := hP
    obtain ⟨⟨vr1, vr2⟩, vr3, vr4, vr5⟩ := hP9
    obtain ⟨vs1, vs2, vs3, vs4, vs5, vs6, vs7, vs8, vs9, vs10, vs11, vs12, vs13, vs14, vs15, vs16, vs17, vs18, vs19, vs20, vs21, vs22⟩ := (HbI_A hS.1).1
    refine T_aload_n (am_dec tX5_readSight_0 0 rfl) rfl ?_
    refine T_iconst 1 (am_dec tX5_readSight_0 1 rfl) rfl ⟨by decide, by decide⟩ ?_
    refine T_bipush 99 (am_dec tX5_readSight_0 2 rfl) rfl ⟨by decide, by decide⟩ ?_
    refine T_callU (as := [aI 1, aI 99]) rfl (am_dec tX5_readSight_0 3 rfl) lkX5_109_X5 (show (hfW w hb sp rb rs hb (aR sp) ro ee hh ss uu vv pp kk rr tt gg aa dd bd ga im)[52]? = some (cO 5 [aR 51, aI (pp 0 1), aI (pp 0 2), aI (pp 0 3), aI (pp 0 4), aI (pp 0 5), aR sp, aI (pp 0 7), aI (pp 0 8), aI (pp 0 9), aI (pp 0 10)]) from (hfW_c hl 52 (by decide))) rfl rfl (Nat.le_of_ble_eq_true rfl) (by omega) (mc_number (d := d - 1) hl hp hr 1 99  hP hTp (by omega)) (fun _ => ?_)
    obtain ⟨u4, hu4⟩ : ∃ x9, x9 = c_number ee pp 1 99 := ⟨_, rfl⟩
    rw [← hu4]
    have hxu4 : Rd2 pp u4.2 := by rw [hu4]; exact (Rd2.rf hP).number hTp _ _
    have hIu4 := hxu4.1
    have hgu4 := hIu4
    obtain ⟨⟨yr41, yr42⟩, yr43, yr44, yr45⟩ := hgu4
    have heu4_7 : u4.2 0 7 = pp 0 7 := hxu4.2 0 7 (by decide)
    have heu4_8 : u4.2 0 8 = pp 0 8 := hxu4.2 0 8 (by decide)
    have heu4_9 : u4.2 0 9 = pp 0 9 := hxu4.2 0 9 (by decide)
    have heu4_10 : u4.2 0 10 = pp 0 10 := hxu4.2 0 10 (by decide)
    have hbu4 : 1 ≤ u4.1 ∧ u4.1 ≤ 99 := by rw [hu4]; exact c_number_b _ _ (by omega)
    refine T_istore_n (ls' := [some (aR 52), some (aI ((u4).1))]) (am_dec tX5_readSight_0 4 rfl) (by decide) rfl ?_
    refine T_aload_n (am_dec tX5_readSight_0 5 rfl) rfl ?_
    refine T_callU (as := []) rfl (am_dec tX5_readSight_0 6 rfl) lkX5_21_X5 (show (hfW w hb sp rb rs hb (aR sp) ro ee hh ss uu vv ((u4).2) kk rr tt gg aa dd bd ga im)[52]? = some (cO 5 [aR 51, aI ((u4).2 0 1), aI ((u4).2 0 2), aI ((u4).2 0 3), aI ((u4).2 0 4), aI ((u4).2 0 5), aR sp, aI ((u4).2 0 7), aI ((u4).2 0 8), aI ((u4).2 0 9), aI ((u4).2 0 10)]) from (hfW_c hl 52 (by decide))) rfl rfl (Nat.le_of_ble_eq_true rfl) (by omega) (mc_fine (d := d - 1) hl hp hr    (by omega)) (fun _ => ?_)
    refine T_nm (fun z9 hz9 => ?_)
    have hb9 := c_fine_b ((u4).2)
    rw [← hz9] at hb9
    have K12 : ∀ (ss12 : am_F), ss12 = (if z9 = 0 then ss else (am_put ss 0 2 ((u4).1))) →  am_T S zX5_readSight d u Q 23 [none, none] [] (hfW w hb sp rb rs hb (aR sp) ro ee hh ss12 uu vv ((u4).2) kk rr tt gg aa dd bd ga im) := by
      intro ss12 hss12 
      have hSss12 : SpI ss12 := by
        rw [hss12]
        try dsimp only
        repeat' split
        all_goals first | exact hS | exact SpI_put hS _ _ (by have hfs := HbI_Fs hS.1 (v3 + (10 * y)).toNat; omega) | exact SpI_sight hS _ (by omega) | exact SpI_size hS _ _ (by omega) (by omega)
      exact T_return (am_dec tX5_readSight_0 12 rfl) rfl (am_tr (fun (x9 : am_F × am_F) => Q (.inl none) (hfW w hb sp rb rs hb (aR sp) ro ee hh x9.1 uu vv x9.2 kk rr tt gg aa dd bd ga im)) (y := (ss12, (u4).2)) (show (c_readSight ee ss pp) = (ss12, (u4).2) from (by have s9 := hu4.symm; subst s9; have s9 := hz9.symm; subst s9; have s9 := hss12.symm; subst s9; exact rfl)) hQ)
    refine T_if_eq 23 (am_dec tX5_readSight_0 7 rfl) rfl (fun h12 => ?_) (fun h12 => ?_)
    · refine T_weak (ls' := [none, none]) (am_sub_n (am_sub_n am_sub_nil)) ?_
      exact K12 _ (if_pos h12).symm 
    · refine T_aload_n (am_dec tX5_readSight_0 8 rfl) rfl ?_
      refine T_getfield 5 6 (am_dec tX5_readSight_0 9 rfl) flX5_9_5 (show (hfW w hb sp rb rs hb (aR sp) ro ee hh ss uu vv ((u4).2) kk rr tt gg aa dd bd ga im)[52]? = some (cO 5 [aR 51, aI ((u4).2 0 1), aI ((u4).2 0 2), aI ((u4).2 0 3), aI ((u4).2 0 4), aI ((u4).2 0 5), aR sp, aI ((u4).2 0 7), aI ((u4).2 0 8), aI ((u4).2 0 9), aI ((u4).2 0 10)]) from (hfW_c hl 52 (by decide))) rfl ?_
      refine T_iload_n (am_dec tX5_readSight_0 10 rfl) rfl ?_
      refine T_putfield (fs' := [aI (ss 0 0), aI (ss 0 1), aI ((u4).1), aR (sp + 1), aR (sp + 3), aR (sp + 5), aR (sp + 7), aR (sp + 9), aR (sp + 11), aR (sp + 13), aR (sp + 15), aR (sp + 17), aR (sp + 18), aR (sp + 19)]) 3 2 (am_dec tX5_readSight_0 11 rfl) flX5_218_3 rfl rfl rfl trivial (show (hfW w hb sp rb rs hb (aR sp) ro ee hh ss uu vv ((u4).2) kk rr tt gg aa dd bd ga im)[sp]? = some (cO 3 [aI (ss 0 0), aI (ss 0 1), aI (ss 0 2), aR (sp + 1), aR (sp + 3), aR (sp + 5), aR (sp + 7), aR (sp + 9), aR (sp + 11), aR (sp + 13), aR (sp + 15), aR (sp + 17), aR (sp + 18), aR (sp + 19)]) from ((hf_S hl hp) 0 (by decide))) (Nat.le_of_ble_eq_true rfl) rfl ?_
      refine am_wE (w2 := hfW w hb sp rb rs hb (aR sp) ro ee hh (am_put ss 0 2 ((u4).1)) uu vv ((u4).2) kk rr tt gg aa dd bd ga im) (am_via (hf_uS hp) (hbW_f2 (w := hfW w hb sp rb rs hb (aR sp) ro ee hh ss uu vv ((u4).2) kk rr tt gg aa dd bd ga im)) (hf_uS hp)) ?_
      refine T_weak (ls' := [none, none]) (am_sub_n (am_sub_n am_sub_nil)) ?_
      exact K12 _ (if_neg h12).symm 
  exact key _ ⟨rfl, rfl⟩
def c_readShip (ee : am_F) (ss : am_F) (pp : am_F) : am_F × am_F := (let pp8 : am_F := c_needRoom7 ss pp; (let u22 : Int × am_F := c_number ee pp8 0 ((ss 0 0) - 1); (let u30 : Int × am_F := c_number ee ((u22).2) 0 99; (let ss45 : am_F := c_addIf7 ss ((u30).2) ((u22).1) ((u30).1) 0; (ss45, (u30).2)))))
theorem mc_readShip {S : am_S} {d u : Nat} {w : AH} {hb sp rb rs : Nat} {ro : AV} (hl : 109 ≤ w.length) (hp : hb = 1 ∧ sp = 21 ∨ hb = 21 ∧ sp = 1) (hr : rb = 41 ∧ rs = 46 ∨ rb = 46 ∧ rs = 41) {ee : am_F} {hh : am_F} {ss : am_F} {uu : am_F} {vv : am_F} {pp : am_F} {kk : am_F} {rr : am_F} {tt : am_F} {gg : am_F} {aa : am_F} {dd : am_F} {bd : am_F} {ga : am_F} {im : am_F}  (hP : RdI pp) (hTp : TpI ee) (hS : SpI ss)  (hd : 3 ≤ d) : am_Out S zX5_readShip d u [aR 52] (hfW w hb sp rb rs hb (aR sp) ro ee hh ss uu vv pp kk rr tt gg aa dd bd ga im) (.inl none) (hfW w hb sp rb rs hb (aR sp) ro ee hh ((c_readShip ee ss pp).1) uu vv ((c_readShip ee ss pp).2) kk rr tt gg aa dd bd ga im) := by
  have key : ∀ Q : AO → AH → Prop, Q (.inl none) (hfW w hb sp rb rs hb (aR sp) ro ee hh ((c_readShip ee ss pp).1) uu vv ((c_readShip ee ss pp).2) kk rr tt gg aa dd bd ga im) → am_M S zX5_readShip d u [aR 52] (hfW w hb sp rb rs hb (aR sp) ro ee hh ss uu vv pp kk rr tt gg aa dd bd ga im) Q := by
    intro Q hQ
    refine am_body rfl (by decide +kernel) rfl (am_cats_cons rfl (am_cats_nil)) (Nat.le_of_ble_eq_true rfl) (?_ : am_T _ _ _ _ _ 0 [some (aR 52), none, none] [] (hfW w hb sp rb rs hb (aR sp) ro ee hh ss uu vv pp kk rr tt gg aa dd bd ga im))
    have hP9 := hP
    obtain ⟨⟨vr1, vr2⟩, vr3, vr4, vr5⟩ := hP9
    obtain ⟨vs1, vs2, vs3, vs4, vs5, vs6, vs7, vs8, vs9, vs10, vs11, vs12, vs13, vs14, vs15, vs16, vs17, vs18, vs19, vs20, vs21, vs22⟩ := (HbI_A hS.1).1
    refine T_aload_n (am_dec tX5_readShip_0 0 rfl) rfl ?_
    refine T_aload_n (am_dec tX5_readShip_0 1 rfl) rfl ?_
    refine T_getfield 5 6 (am_dec tX5_readShip_0 2 rfl) flX5_9_5 (show (hfW w hb sp rb rs hb (aR sp) ro ee hh ss uu vv pp kk rr tt gg aa dd bd ga im)[52]? = some (cO 5 [aR 51, aI (pp 0 1), aI (pp 0 2), aI (pp 0 3), aI (pp 0 4), aI (pp 0 5), aR sp, aI (pp 0 7), aI (pp 0 8), aI (pp 0 9), aI (pp 0 10)]) from (hfW_c hl 52 (by decide))) rfl ?_
    refine T_getfield 3 10 (am_dec tX5_readShip_0 3 rfl) flX5_220_3 (show (hfW w hb sp rb rs hb (aR sp) ro ee hh ss uu vv pp kk rr tt gg aa dd bd ga im)[sp]? = some (cO 3 [aI (ss 0 0), aI (ss 0 1), aI (ss 0 2), aR (sp + 1), aR (sp + 3), aR (sp + 5), aR (sp + 7), aR (sp + 9), aR (sp + 11), aR (sp + 13), aR (sp + 15), aR (sp + 17), aR (sp + 18), aR (sp + 19)]) from ((hf_S hl hp) 0 (by decide))) rfl ?_
    refine T_callV (as := [aR (sp + 15)]) rfl (am_dec tX5_readShip_0 4 rfl) lkX5_160 (show (hfW w hb sp rb rs hb (aR sp) ro ee hh ss uu vv pp kk rr tt gg aa dd bd ga im)[52]? = some (cO 5 [aR 51, aI (pp 0 1), aI (pp 0 2), aI (pp 0 3), aI (pp 0 4), aI (pp 0 5), aR sp, aI (pp 0 7), aI (pp 0 8), aI (pp 0 9), aI (pp 0 10)]) from (hfW_c hl 52 (by decide))) rfl rfl (Nat.le_of_ble_eq_true rfl) (by omega) (mc_needRoom7 (d := d - 1) hl hp hr   hP hTp hS (by omega)) (fun _ => ?_)
    refine T_nmH (W := fun x9 => hfW w hb sp rb rs hb (aR sp) ro ee hh ss uu vv x9 kk rr tt gg aa dd bd ga im) (v := c_needRoom7 ss pp) (fun pp8 hpp8 => ?_)
    have hxpp8 : Rd2 pp pp8 := by rw [hpp8]; exact (Rd2.rf hP).needRoom7
    have hIpp8 := hxpp8.1
    have hepp8_7 : pp8 0 7 = pp 0 7 := hxpp8.2 0 7 (by decide)
    have hepp8_8 : pp8 0 8 = pp 0 8 := hxpp8.2 0 8 (by decide)
    have hepp8_9 : pp8 0 9 = pp 0 9 := hxpp8.2 0 9 (by decide)
    have hepp8_10 : pp8 0 10 = pp 0 10 := hxpp8.2 0 10 (by decide)
    refine T_aload_n (am_dec tX5_readShip_0 5 rfl) rfl ?_
    refine T_iconst 0 (am_dec tX5_readShip_0 6 rfl) rfl ⟨by decide, by decide⟩ ?_
    refine T_aload_n (am_dec tX5_readShip_0 7 rfl) rfl ?_
    refine T_getfield 5 6 (am_dec tX5_readShip_0 8 rfl) flX5_9_5 (show (hfW w hb sp rb rs hb (aR sp) ro ee hh ss uu vv pp8 kk rr tt gg aa dd bd ga im)[52]? = some (cO 5 [aR 51, aI (pp8 0 1), aI (pp8 0 2), aI (pp8 0 3), aI (pp8 0 4), aI (pp8 0 5), aR sp, aI (pp8 0 7), aI (pp8 0 8), aI (pp8 0 9), aI (pp8 0 10)]) from (hfW_c hl 52 (by decide))) rfl ?_
    refine T_getfield 3 0 (am_dec tX5_readShip_0 9 rfl) flX5_113_3 (show (hfW w hb sp rb rs hb (aR sp) ro ee hh ss uu vv pp8 kk rr tt gg aa dd bd ga im)[sp]? = some (cO 3 [aI (ss 0 0), aI (ss 0 1), aI (ss 0 2), aR (sp + 1), aR (sp + 3), aR (sp + 5), aR (sp + 7), aR (sp + 9), aR (sp + 11), aR (sp + 13), aR (sp + 15), aR (sp + 17), aR (sp + 18), aR (sp + 19)]) from ((hf_S hl hp) 0 (by decide))) rfl ?_
    refine T_iconst 1 (am_dec tX5_readShip_0 10 rfl) rfl ⟨by decide, by decide⟩ ?_
    refine T_isub ((ss 0 0) - 1) (am_dec tX5_readShip_0 11 rfl) rfl ⟨by omega, by omega⟩ ?_
    refine T_callU (as := [aI 0, aI ((ss 0 0) - 1)]) rfl (am_dec tX5_readShip_0 12 rfl) lkX5_109_X5 (show (hfW w hb sp rb rs hb (aR sp) ro ee hh ss uu vv pp8 kk rr tt gg aa dd bd ga im)[52]? = some (cO 5 [aR 51, aI (pp8 0 1), aI (pp8 0 2), aI (pp8 0 3), aI (pp8 0 4), aI (pp8 0 5), aR sp, aI (pp8 0 7), aI (pp8 0 8), aI (pp8 0 9), aI (pp8 0 10)]) from (hfW_c hl 52 (by decide))) rfl rfl (Nat.le_of_ble_eq_true rfl) (by omega) (mc_number (d := d - 1) hl hp hr 0 ((ss 0 0) - 1)  hIpp8 hTp (by omega)) (fun _ => ?_)
    obtain ⟨u22, hu22⟩ : ∃ x9, x9 = c_number ee pp8 0 ((ss 0 0) - 1) := ⟨_, rfl⟩
    rw [← hu22]
    have hxu22 : Rd2 pp8 u22.2 := by rw [hu22]; exact (Rd2.rf hIpp8).number hTp _ _
    have hIu22 := hxu22.1
    have hgu22 := hIu22
    obtain ⟨⟨yr221, yr222⟩, yr223, yr224, yr225⟩ := hgu22
    have heu22_7 : u22.2 0 7 = pp8 0 7 := hxu22.2 0 7 (by decide)
    have heu22_8 : u22.2 0 8 = pp8 0 8 := hxu22.2 0 8 (by decide)
    have heu22_9 : u22.2 0 9 = pp8 0 9 := hxu22.2 0 9 (by decide)
    have heu22_10 : u22.2 0 10 = pp8 0 10 := hxu22.2 0 10 (by decide)
    have hbu22 : 0 ≤ u22.1 ∧ u22.1 ≤ ((ss 0 0) - 1) := by rw [hu22]; exact c_number_b _ _ (by omega)
    refine T_istore_n (ls' := [some (aR 52), some (aI ((u22).1)), none]) (am_dec tX5_readShip_0 13 rfl) (by decide) rfl ?_
    refine T_aload_n (am_dec tX5_readShip_0 14 rfl) rfl ?_
    refine T_iconst 0 (am_dec tX5_readShip_0 15 rfl) rfl ⟨by decide, by decide⟩ ?_
    refine T_bipush 99 (am_dec tX5_readShip_0 16 rfl) rfl ⟨by decide, by decide⟩ ?_
    refine T_callU (as := [aI 0, aI 99]) rfl (am_dec tX5_readShip_0 17 rfl) lkX5_109_X5 (show (hfW w hb sp rb rs hb (aR sp) ro ee hh ss uu vv ((u22).2) kk rr tt gg aa dd bd ga im)[52]? = some (cO 5 [aR 51, aI ((u22).2 0 1), aI ((u22).2 0 2), aI ((u22).2 0 3), aI ((u22).2 0 4), aI ((u22).2 0 5), aR sp, aI ((u22).2 0 7), aI ((u22).2 0 8), aI ((u22).2 0 9), aI ((u22).2 0 10)]) from (hfW_c hl 52 (by decide))) rfl rfl (Nat.le_of_ble_eq_true rfl) (by omega) (mc_number (d := d - 1) hl hp hr 0 99  hIu22 hTp (by omega)) (fun _ => ?_)
    obtain ⟨u30, hu30⟩ : ∃ x9, x9 = c_number ee ((u22).2) 0 99 := ⟨_, rfl⟩
    rw [← hu30]
    have hxu30 : Rd2 ((u22).2) u30.2 := by rw [hu30]; exact (Rd2.rf hIu22).number hTp _ _
    have hIu30 := hxu30.1
    have hgu30 := hIu30
    obtain ⟨⟨yr301, yr302⟩, yr303, yr304, yr305⟩ := hgu30
    have heu30_7 : u30.2 0 7 = (u22).2 0 7 := hxu30.2 0 7 (by decide)
    have heu30_8 : u30.2 0 8 = (u22).2 0 8 := hxu30.2 0 8 (by decide)
    have heu30_9 : u30.2 0 9 = (u22).2 0 9 := hxu30.2 0 9 (by decide)
    have heu30_10 : u30.2 0 10 = (u22).2 0 10 := hxu30.2 0 10 (by decide)
    have hbu30 : 0 ≤ u30.1 ∧ u30.1 ≤ 99 := by rw [hu30]; exact c_number_b _ _ (by omega)
    refine T_istore_n (ls' := [some (aR 52), some (aI ((u22).1)), some (aI ((u30).1))]) (am_dec tX5_readShip_0 18 rfl) (by decide) rfl ?_
    refine T_aload_n (am_dec tX5_readShip_0 19 rfl) rfl ?_
    refine T_aload_n (am_dec tX5_readShip_0 20 rfl) rfl ?_
    refine T_getfield 5 6 (am_dec tX5_readShip_0 21 rfl) flX5_9_5 (show (hfW w hb sp rb rs hb (aR sp) ro ee hh ss uu vv ((u30).2) kk rr tt gg aa dd bd ga im)[52]? = some (cO 5 [aR 51, aI ((u30).2 0 1), aI ((u30).2 0 2), aI ((u30).2 0 3), aI ((u30).2 0 4), aI ((u30).2 0 5), aR sp, aI ((u30).2 0 7), aI ((u30).2 0 8), aI ((u30).2 0 9), aI ((u30).2 0 10)]) from (hfW_c hl 52 (by decide))) rfl ?_
    refine T_getfield 3 10 (am_dec tX5_readShip_0 22 rfl) flX5_220_3 (show (hfW w hb sp rb rs hb (aR sp) ro ee hh ss uu vv ((u30).2) kk rr tt gg aa dd bd ga im)[sp]? = some (cO 3 [aI (ss 0 0), aI (ss 0 1), aI (ss 0 2), aR (sp + 1), aR (sp + 3), aR (sp + 5), aR (sp + 7), aR (sp + 9), aR (sp + 11), aR (sp + 13), aR (sp + 15), aR (sp + 17), aR (sp + 18), aR (sp + 19)]) from ((hf_S hl hp) 0 (by decide))) rfl ?_
    refine T_iload_n (am_dec tX5_readShip_0 23 rfl) rfl ?_
    refine T_iload_n (am_dec tX5_readShip_0 24 rfl) rfl ?_
    refine T_iconst 0 (am_dec tX5_readShip_0 25 rfl) rfl ⟨by decide, by decide⟩ ?_
    refine T_callV (as := [aR (sp + 15), aI ((u22).1), aI ((u30).1), aI 0]) rfl (am_dec tX5_readShip_0 26 rfl) lkX5_167 (show (hfW w hb sp rb rs hb (aR sp) ro ee hh ss uu vv ((u30).2) kk rr tt gg aa dd bd ga im)[52]? = some (cO 5 [aR 51, aI ((u30).2 0 1), aI ((u30).2 0 2), aI ((u30).2 0 3), aI ((u30).2 0 4), aI ((u30).2 0 5), aR sp, aI ((u30).2 0 7), aI ((u30).2 0 8), aI ((u30).2 0 9), aI ((u30).2 0 10)]) from (hfW_c hl 52 (by decide))) rfl rfl (Nat.le_of_ble_eq_true rfl) (by omega) (mc_addIf7 (d := d - 1) hl hp hr ((u22).1) ((u30).1) 0  hS (by omega)) (fun _ => ?_)
    refine T_nmH (W := fun x9 => hfW w hb sp rb rs hb (aR sp) ro ee hh x9 uu vv ((u30).2) kk rr tt gg aa dd bd ga im) (v := c_addIf7 ss ((u30).2) ((u22).1) ((u30).1) 0) (fun ss45 hss45 => ?_)
    have hSss45 : SpI ss45 := by rw [hss45]; exact c_addIf7_I hS _ _ _ _ (by omega)
    exact T_return (am_dec tX5_readShip_0 27 rfl) rfl (am_tr (fun (x9 : am_F × am_F) => Q (.inl none) (hfW w hb sp rb rs hb (aR sp) ro ee hh x9.1 uu vv x9.2 kk rr tt gg aa dd bd ga im)) (y := (ss45, (u30).2)) (show (c_readShip ee ss pp) = (ss45, (u30).2) from (by have s9 := hpp8.symm; subst s9; have s9 := hu22.symm; subst s9; have s9 := hu30.symm; subst s9; have s9 := hss45.symm; subst s9; exact rfl)) hQ)
  exact key _ ⟨rfl, rfl⟩
theorem c_readWind_x {ee ss pp : am_F} (h : RdI pp) (t : TpI ee) (q : SpI ss) : SpI (c_readWind ee ss pp).1 ∧ RdI (c_readWind ee ss pp).2 := by
  obtain ⟨v1, v2, v3, v4, v5⟩ := (HbI_A q.1).1
  have x0 : RdI (c_needRoom0 ss pp) := ((Rd2.rf h).needRoom0).1
  unfold c_readWind
  dsimp only
  generalize c_needRoom0 ss pp = p0 at *
  have b1 : 0 ≤ (c_readStep ee p0).1 ∧ (c_readStep ee p0).1 ≤ 39 := c_number_b _ _ (by omega)
  have x1 : RdI (c_readStep ee p0).2 := ((Rd2.rf x0).number t 0 39).1
  generalize c_readStep ee p0 = u1 at *
  have b2 := c_number_b ee u1.2 (lo := 0) (hi := 2) (by omega)
  have x2 := ((Rd2.rf x1).number t (0) (2)).1
  generalize c_number ee u1.2 (0) (2) = u2 at *
  have b3 := c_number_b ee u2.2 (lo := 0) (hi := 2) (by omega)
  have x3 := ((Rd2.rf x2).number t (0) (2)).1
  generalize c_number ee u2.2 (0) (2) = u3 at *
  have b4 := c_number_b ee u3.2 (lo := 0) (hi := 8) (by omega)
  have x4 := ((Rd2.rf x3).number t (0) (8)).1
  generalize c_number ee u3.2 (0) (8) = u4 at *
  exact ⟨c_addIf0_I q _ _ _ _ (by omega) (by omega), x4⟩
theorem c_readThin_x {ee ss pp : am_F} (h : RdI pp) (t : TpI ee) (q : SpI ss) : SpI (c_readThin ee ss pp).1 ∧ RdI (c_readThin ee ss pp).2 := by
  obtain ⟨v1, v2, v3, v4, v5⟩ := (HbI_A q.1).1
  have x0 : RdI (c_needRoom1 ss pp) := ((Rd2.rf h).needRoom1).1
  unfold c_readThin
  dsimp only
  generalize c_needRoom1 ss pp = p0 at *
  have b1 : 0 ≤ (c_readStep ee p0).1 ∧ (c_readStep ee p0).1 ≤ 39 := c_number_b _ _ (by omega)
  have x1 : RdI (c_readStep ee p0).2 := ((Rd2.rf x0).number t 0 39).1
  generalize c_readStep ee p0 = u1 at *
  have b2 := c_number_b ee u1.2 (lo := 0) (hi := 9) (by omega)
  have x2 := ((Rd2.rf x1).number t (0) (9)).1
  generalize c_number ee u1.2 (0) (9) = u2 at *
  exact ⟨c_addIf1_I q _ _ _ _ (by omega), x2⟩
theorem c_readLamp_x {ee ss pp : am_F} (h : RdI pp) (t : TpI ee) (q : SpI ss) : SpI (c_readLamp ee ss pp).1 ∧ RdI (c_readLamp ee ss pp).2 := by
  obtain ⟨v1, v2, v3, v4, v5⟩ := (HbI_A q.1).1
  have x0 : RdI (c_needRoom2 ss pp) := ((Rd2.rf h).needRoom2).1
  unfold c_readLamp
  dsimp only
  generalize c_needRoom2 ss pp = p0 at *
  have y1 := c_readCell_x (Rd2.rf x0) t q
  have b1 := y1.2
  have x1 := y1.1.1
  generalize c_readCell ee ss p0 = u1 at *
  have b2 := c_number_b ee u1.2 (lo := 1) (hi := 20) (by omega)
  have x2 := ((Rd2.rf x1).number t (1) (20)).1
  generalize c_number ee u1.2 (1) (20) = u2 at *
  exact ⟨c_addIf2_I q _ _ _ _ (by omega) (by omega), x2⟩
theorem c_readSteamer_x {ee ss pp : am_F} (h : RdI pp) (t : TpI ee) (q : SpI ss) : SpI (c_readSteamer ee ss pp).1 ∧ RdI (c_readSteamer ee ss pp).2 := by
  obtain ⟨v1, v2, v3, v4, v5⟩ := (HbI_A q.1).1
  have x0 : RdI (c_needRoom3 ss pp) := ((Rd2.rf h).needRoom3).1
  unfold c_readSteamer
  dsimp only
  generalize c_needRoom3 ss pp = p0 at *
  have b1 : 0 ≤ (c_readStep ee p0).1 ∧ (c_readStep ee p0).1 ≤ 39 := c_number_b _ _ (by omega)
  have x1 : RdI (c_readStep ee p0).2 := ((Rd2.rf x0).number t 0 39).1
  generalize c_readStep ee p0 = u1 at *
  have y2 := c_readCell_x (Rd2.rf x1) t q
  have b2 := y2.2
  have x2 := y2.1.1
  generalize c_readCell ee ss u1.2 = u2 at *
  exact ⟨c_addIf3_I q _ _ _ _ (by omega), x2⟩
theorem c_readWatch_x {ee ss pp : am_F} (h : RdI pp) (t : TpI ee) (q : SpI ss) : SpI (c_readWatch ee ss pp).1 ∧ RdI (c_readWatch ee ss pp).2 := by
  obtain ⟨v1, v2, v3, v4, v5⟩ := (HbI_A q.1).1
  have x0 : RdI (c_needRoom6 ss pp) := ((Rd2.rf h).needRoom6).1
  unfold c_readWatch
  dsimp only
  generalize c_needRoom6 ss pp = p0 at *
  have y1 := c_readCell_x (Rd2.rf x0) t q
  have b1 := y1.2
  have x1 := y1.1.1
  generalize c_readCell ee ss p0 = u1 at *
  exact ⟨c_addIf6_I q _ _ _ _ (by omega), x1⟩
theorem c_readShip_x {ee ss pp : am_F} (h : RdI pp) (t : TpI ee) (q : SpI ss) : SpI (c_readShip ee ss pp).1 ∧ RdI (c_readShip ee ss pp).2 := by
  obtain ⟨v1, v2, v3, v4, v5⟩ := (HbI_A q.1).1
  have x0 : RdI (c_needRoom7 ss pp) := ((Rd2.rf h).needRoom7).1
  unfold c_readShip
  dsimp only
  generalize c_needRoom7 ss pp = p0 at *
  have b1 := c_number_b ee p0 (lo := 0) (hi := ss 0 0 - 1) (by omega)
  have x1 := ((Rd2.rf x0).number t (0) (ss 0 0 - 1)).1
  generalize c_number ee p0 (0) (ss 0 0 - 1) = u1 at *
  have b2 := c_number_b ee u1.2 (lo := 0) (hi := 99) (by omega)
  have x2 := ((Rd2.rf x1).number t (0) (99)).1
  generalize c_number ee u1.2 (0) (99) = u2 at *
  exact ⟨c_addIf7_I q _ _ _ _ (by omega), x2⟩
theorem c_readPort_x {ee ss pp : am_F} (h : RdI pp) (t : TpI ee) (q : SpI ss) : SpI (c_readPort ee ss pp).1 ∧ RdI (c_readPort ee ss pp).2 := by
  unfold c_readPort
  dsimp only
  have b1 := c_number_b ee pp (lo := 2) (hi := 9) (by omega)
  have x1 := ((Rd2.rf h).number t 2 9).1
  generalize c_number ee pp 2 9 = u1 at *
  have b2 := c_number_b ee u1.2 (lo := 2) (hi := 9) (by omega)
  have x2 := ((Rd2.rf x1).number t 2 9).1
  generalize c_number ee u1.2 2 9 = u2 at *
  refine ⟨?_, x2⟩
  split
  · exact q
  · exact SpI_size q _ _ b1 b2
theorem c_readSight_x {ee ss pp : am_F} (h : RdI pp) (t : TpI ee) (q : SpI ss) : SpI (c_readSight ee ss pp).1 ∧ RdI (c_readSight ee ss pp).2 := by
  unfold c_readSight
  dsimp only
  have b1 := c_number_b ee pp (lo := 1) (hi := 99) (by omega)
  have x1 := ((Rd2.rf h).number t 1 99).1
  generalize c_number ee pp 1 99 = u1 at *
  refine ⟨?_, x1⟩
  split
  · exact q
  · exact SpI_sight q _ b1
