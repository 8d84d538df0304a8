/-! the port reader: walks, clauses -/
theorem c_readLot_x {ee ss pp : am_F} (h : RdI pp) (t : TpI ee) (q : SpI ss) : SpI (c_readLot ee ss pp).1 ∧ RdI (c_readLot ee ss pp).2 := by
  have x0 : RdI (c_needRoom4 ss pp) := ((Rd2.rf h).needRoom4).1
  have k0 : 6 ≤ ss 0 7 → c_needRoom4 ss pp 0 4 ≠ 0 := needRoom4_k
  unfold c_readLot
  dsimp only
  generalize c_needRoom4 ss pp = p8 at *
  have y12 := c_readBlock_x x0 t q
  have s12 : p8 0 4 ≠ 0 → c_readBlock ee ss p8 0 4 ≠ 0 := fun h => by rw [(readBlock_s h).1]; exact h
  generalize c_readBlock ee ss p8 = p12 at *
  have x19 : Rd2 p12 (if c_fine p12 = 0 then p12 else (if c_blockIsOwned ss p12 = 0 then p12 else c_wrong p12 2 (p12 0 3))) := by
    repeat' split
    all_goals first | exact Rd2.rf y12.1 | exact (Rd2.rf y12.1).wrong _ _
  have s19 : p12 0 4 ≠ 0 → (if c_fine p12 = 0 then p12 else (if c_blockIsOwned ss p12 = 0 then p12 else c_wrong p12 2 (p12 0 3))) 0 4 ≠ 0 := fun h => by
    repeat' split
    all_goals first | exact h | (rw [wrong_s h]; exact h)
  generalize (if c_fine p12 = 0 then p12 else (if c_blockIsOwned ss p12 = 0 then p12 else c_wrong p12 2 (p12 0 3))) = p19 at *
  have b1 := c_number_b ee p19 (lo := 0) (hi := 9) (by omega)
  have x1 := (Rd2.rf x19.1).number t 0 9
  have s1 : p19 0 4 ≠ 0 → (c_number ee p19 0 9).2 0 4 ≠ 0 := fun h => by rw [number_s h]; exact h
  generalize c_number ee p19 0 9 = u1 at *
  have b2 := c_number_b ee u1.2 (lo := 0) (hi := 9) (by omega)
  have x2 := (Rd2.rf x1.1).number t 0 9
  have s2 : u1.2 0 4 ≠ 0 → (c_number ee u1.2 0 9).2 0 4 ≠ 0 := fun h => by rw [number_s h]; exact h
  generalize c_number ee u1.2 0 9 = u2 at *
  refine ⟨?_, x2.1⟩
  split
  · exact q
  · rename_i hf
    have hl6 : ss 0 7 < 6 := by
      apply Int.not_le.mp; intro h6
      exact hf (c_fine_0 (s2 (s1 (s19 (s12 (k0 h6))))))
    exact c_addS4_I (c_ownBlock_I q hl6).1 _ _ _ _ b1 b2
def w_c_walksInPort_36 (ee : am_F) (pp : am_F) (mv : Int) (wk : Int) (x9 : Int × Int × Int × am_F) : (Int × Int × Int × am_F) ⊕ (Int × am_F) := let x : Int := x9.1; let y : Int := x9.2.1; let i : Int := x9.2.2.1; let ss : am_F := x9.2.2.2; (if mv ≤ i then .inr (1, ss) else (let b50 : Int := (c_byteAt ee pp ((pp 0 3) + i)); (if b50 = 101 then (let z124 : Int := f_has ss (x + 1) y; (if z124 = 0 then .inr (0, ss) else (let ss149 : am_F := c_putPathS ss wk (i + 1) ((x + 1) + (10 * y)); .inl ((x + 1), y, (i + 1), ss149)))) else (if b50 = 119 then (let z124 : Int := f_has ss (x + (-1)) y; (if z124 = 0 then .inr (0, ss) else (let ss149 : am_F := c_putPathS ss wk (i + 1) ((x + (-1)) + (10 * y)); .inl ((x + (-1)), y, (i + 1), ss149)))) else (if b50 = 115 then (let z124 : Int := f_has ss x (y + 1); (if z124 = 0 then .inr (0, ss) else (let ss149 : am_F := c_putPathS ss wk (i + 1) (x + (10 * (y + 1))); .inl (x, (y + 1), (i + 1), ss149)))) else (if b50 = 110 then (let z124 : Int := f_has ss x (y + (-1)); (if z124 = 0 then .inr (0, ss) else (let ss149 : am_F := c_putPathS ss wk (i + 1) (x + (10 * (y + (-1)))); .inl (x, (y + (-1)), (i + 1), ss149)))) else (if b50 = 111 then (let z124 : Int := f_has ss x y; (if z124 = 0 then .inr (0, ss) else (let ss149 : am_F := c_putPathS ss wk (i + 1) (x + (10 * y)); .inl (x, y, (i + 1), ss149)))) else .inr (0, ss))))))))
theorem L_c_walksInPort_36 {S : am_S} {d u : Nat} {Q : AO → AH → Prop} {w : AH} {hb sp rb rs : Nat} {ro : AV} (hl : 109 ≤ w.length) (hp : hb = 1 ∧ sp = 21 ∨ hb = 21 ∧ sp = 1) (hr : rb = 41 ∧ rs = 46 ∨ rb = 46 ∧ rs = 41) (ee : am_F) (hh : am_F) (uu : am_F) (vv : am_F) (pp : am_F) (kk : am_F) (rr : am_F) (tt : am_F) (gg : am_F) (aa : am_F) (dd : am_F) (bd : am_F) (ga : am_F) (im : am_F) (mv : Int) (wk : Int) (hP : RdI pp) (hTp : TpI ee) (hmv : mv ≤ 12)  (hd : 2 ≤ d) : ∀ (n : Nat) (x : Int) (y : Int) (i : Int) (ss : am_F), 13 - i < n → SpI ss ∧ (0 ≤ x ∧ x ≤ 9) ∧ (0 ≤ y ∧ y ≤ 8) ∧ 0 ≤ i ∧ i ≤ 12 → (∀ (rv' : Int) (ss' : am_F), rv' = (am_wr (w_c_walksInPort_36 ee pp mv wk) (0, (fun _ _ => 0)) n (x, y, i, ss)).1 → ss' = (am_wr (w_c_walksInPort_36 ee pp mv wk) (0, (fun _ _ => 0)) n (x, y, i, ss)).2 → Q (.inl (some (aI rv'))) (hfW w hb sp rb rs hb (aR sp) ro ee hh ss' uu vv pp kk rr tt gg aa dd bd ga im)) → am_T S zX5_walksInPort d u Q 36 [some (aR 52), none, some (aI mv), some (aI wk), some (aI x), some (aI y), some (aI i), none] [] (hfW w hb sp rb rs hb (aR sp) ro ee hh ss uu vv pp kk rr tt gg aa dd bd ga im) := by
  intro n
  induction n with
  | zero =>
    intro x y i ss hm9 hinv k9
    have hS := hinv.1
    have hP9 := hP
    obtain ⟨⟨vr1, vr2⟩, vr3, vr4, vr5⟩ := hP9
    obtain ⟨vs1, vs2, vs3, vs4, vs5, vs6, vs7, vs8, vs9, vs10, vs11, vs12, vs13, vs14, vs15, vs16, vs17, vs18, vs19, vs20, vs21, vs22⟩ := (HbI_A hS.1).1
    exfalso; omega
  | succ n ih =>
    intro x y i ss hm9 hinv k9
    have hS := hinv.1
    have hP9 := hP
    obtain ⟨⟨vr1, vr2⟩, vr3, vr4, vr5⟩ := hP9
    obtain ⟨vs1, vs2, vs3, vs4, vs5, vs6, vs7, vs8, vs9, vs10, vs11, vs12, vs13, vs14, vs15, vs16, vs17, vs18, vs19, vs20, vs21, vs22⟩ := (HbI_A hS.1).1
    refine T_iload (am_dec tX5_walksInPort_0 21 rfl) rfl ?_
    refine T_iload_n (am_dec tX5_walksInPort_0 22 rfl) rfl ?_
    refine T_icmp_ge 158 (am_dec tX5_walksInPort_0 23 rfl) rfl (fun h39 => ?_) (fun h39 => ?_)
    · refine T_iconst 1 (am_dec tX5_walksInPort_1 38 rfl) rfl ⟨by decide, by decide⟩ ?_
      exact T_zreturn (am_dec tX5_walksInPort_1 39 rfl) rfl (by first | exact Or.inl rfl | exact Or.inr rfl | omega) (by have e9 : (w_c_walksInPort_36 ee pp mv wk) (x, y, i, ss) = .inr (1, ss) := (if_pos h39); simp only [am_wr_r e9] at k9; exact k9 _ _ rfl rfl)
    · refine T_aload_n (am_dec tX5_walksInPort_0 24 rfl) rfl ?_
      refine T_aload_n (am_dec tX5_walksInPort_0 25 rfl) rfl ?_
      refine T_getfield 5 3 (am_dec tX5_walksInPort_0 26 rfl) flX5_39_5 (show (hfW w hb sp rb rs hb (aR sp) ro ee hh ss uu vv pp kk rr tt gg aa dd bd ga im)[52]? = some (cO 5 [aR 51, aI (pp 0 1), aI (pp 0 2), aI (pp 0 3), aI (pp 0 4), aI (pp 0 5), aR sp, aI (pp 0 7), aI (pp 0 8), aI (pp 0 9), aI (pp 0 10)]) from (hfW_c hl 52 (by decide))) rfl ?_
      refine T_iload (am_dec tX5_walksInPort_0 27 rfl) rfl ?_
      refine T_iadd ((pp 0 3) + i) (am_dec tX5_walksInPort_0 28 rfl) rfl ⟨by omega, by omega⟩ ?_
      refine T_callU (as := [aI ((pp 0 3) + i)]) rfl (am_dec tX5_walksInPort_0 29 rfl) lkX5_212_X5 (show (hfW w hb sp rb rs hb (aR sp) ro ee hh ss uu vv pp kk rr tt gg aa dd bd ga im)[52]? = some (cO 5 [aR 51, aI (pp 0 1), aI (pp 0 2), aI (pp 0 3), aI (pp 0 4), aI (pp 0 5), aR sp, aI (pp 0 7), aI (pp 0 8), aI (pp 0 9), aI (pp 0 10)]) from (hfW_c hl 52 (by decide))) rfl rfl (Nat.le_of_ble_eq_true rfl) (by omega) (mc_byteAt (d := d - 1) hl hp hr ((pp 0 3) + i)  hP hTp (by omega)) (fun _ => ?_)
      refine T_nm (fun b50 hb50 => ?_)
      have hq50 := c_byteAt_b (pp := pp) hTp ((pp 0 3) + i)
      rw [← hb50] at hq50
      refine T_istore (ls' := [some (aR 52), none, some (aI mv), some (aI wk), some (aI x), some (aI y), some (aI i), some (aI b50)]) (am_dec tX5_walksInPort_0 30 rfl) (by decide) rfl ?_
      refine T_iload (am_dec tX5_walksInPort_0 31 rfl) rfl ?_
      refine T_bipush 101 (am_dec tX5_walksInPort_0 32 rfl) rfl ⟨by decide, by decide⟩ ?_
      refine T_icmp_ne 68 (am_dec tX5_walksInPort_0 33 rfl) rfl (fun h59 => ?_) (fun h59 => ?_)
      · refine T_iload (am_dec tX5_walksInPort_0 36 rfl) rfl ?_
        refine T_bipush 119 (am_dec tX5_walksInPort_0 37 rfl) rfl ⟨by decide, by decide⟩ ?_
        refine T_icmp_ne 81 (am_dec tX5_walksInPort_0 38 rfl) rfl (fun h72 => ?_) (fun h72 => ?_)
        · refine T_iload (am_dec tX5_walksInPort_1 1 rfl) rfl ?_
          refine T_bipush 115 (am_dec tX5_walksInPort_1 2 rfl) rfl ⟨by decide, by decide⟩ ?_
          refine T_icmp_ne 94 (am_dec tX5_walksInPort_1 3 rfl) rfl (fun h85 => ?_) (fun h85 => ?_)
          · refine T_iload (am_dec tX5_walksInPort_1 6 rfl) rfl ?_
            refine T_bipush 110 (am_dec tX5_walksInPort_1 7 rfl) rfl ⟨by decide, by decide⟩ ?_
            refine T_icmp_ne 107 (am_dec tX5_walksInPort_1 8 rfl) rfl (fun h98 => ?_) (fun h98 => ?_)
            · refine T_iload (am_dec tX5_walksInPort_1 11 rfl) rfl ?_
              refine T_bipush 111 (am_dec tX5_walksInPort_1 12 rfl) rfl ⟨by decide, by decide⟩ ?_
              refine T_icmp_eq 116 (am_dec tX5_walksInPort_1 13 rfl) rfl (fun h111 => ?_) (fun h111 => ?_)
              · refine T_aload_n (am_dec tX5_walksInPort_1 16 rfl) rfl ?_
                refine T_getfield 5 6 (am_dec tX5_walksInPort_1 17 rfl) flX5_9_5 (show (hfW w hb sp rb rs hb (aR sp) ro ee hh ss uu vv pp kk rr tt gg aa dd bd ga im)[52]? = some (cO 5 [aR 51, aI (pp 0 1), aI (pp 0 2), aI (pp 0 3), aI (pp 0 4), aI (pp 0 5), aR sp, aI (pp 0 7), aI (pp 0 8), aI (pp 0 9), aI (pp 0 10)]) from (hfW_c hl 52 (by decide))) rfl ?_
                refine T_iload (am_dec tX5_walksInPort_1 18 rfl) rfl ?_
                refine T_iload (am_dec tX5_walksInPort_1 19 rfl) rfl ?_
                refine T_callV (as := [aI x, aI y]) rfl (am_dec tX5_walksInPort_1 20 rfl) lkX5_143 (show (hfW w hb sp rb rs hb (aR sp) ro ee hh ss uu vv pp kk rr tt gg aa dd bd ga im)[sp]? = some (cO 3 [aI (ss 0 0), aI (ss 0 1), aI (ss 0 2), aR (sp + 1), aR (sp + 3), aR (sp + 5), aR (sp + 7), aR (sp + 9), aR (sp + 11), aR (sp + 13), aR (sp + 15), aR (sp + 17), aR (sp + 18), aR (sp + 19)]) from ((hf_S hl hp) 0 (by decide))) rfl rfl (Nat.le_of_ble_eq_true rfl) (by omega) (m_has (d := d - 1) (hf_S hl hp) x y) (fun _ => ?_)
                refine T_nm (fun z124 hz124 => ?_)
                have hb124 := f_has_x ss x y
                rw [← hz124] at hb124
                refine T_if_ne 132 (am_dec tX5_walksInPort_1 21 rfl) rfl (fun h127 => ?_) (fun h127 => ?_)
                · refine T_aload_n (am_dec tX5_walksInPort_1 24 rfl) rfl ?_
                  refine T_getfield 5 6 (am_dec tX5_walksInPort_1 25 rfl) flX5_9_5 (show (hfW w hb sp rb rs hb (aR sp) ro ee hh ss uu vv pp kk rr tt gg aa dd bd ga im)[52]? = some (cO 5 [aR 51, aI (pp 0 1), aI (pp 0 2), aI (pp 0 3), aI (pp 0 4), aI (pp 0 5), aR sp, aI (pp 0 7), aI (pp 0 8), aI (pp 0 9), aI (pp 0 10)]) from (hfW_c hl 52 (by decide))) rfl ?_
                  refine T_iload_n (am_dec tX5_walksInPort_1 26 rfl) rfl ?_
                  refine T_iload (am_dec tX5_walksInPort_1 27 rfl) rfl ?_
                  refine T_iconst 1 (am_dec tX5_walksInPort_1 28 rfl) rfl ⟨by decide, by decide⟩ ?_
                  refine T_iadd (i + 1) (am_dec tX5_walksInPort_1 29 rfl) rfl ⟨by omega, by omega⟩ ?_
                  refine T_iload (am_dec tX5_walksInPort_1 30 rfl) rfl ?_
                  refine T_bipush 10 (am_dec tX5_walksInPort_1 31 rfl) rfl ⟨by decide, by decide⟩ ?_
                  refine T_iload (am_dec tX5_walksInPort_1 32 rfl) rfl ?_
                  refine T_imul (10 * y) (am_dec tX5_walksInPort_1 33 rfl) rfl ⟨by omega, by omega⟩ ?_
                  refine T_iadd (x + (10 * y)) (am_dec tX5_walksInPort_1 34 rfl) rfl ⟨by omega, by omega⟩ ?_
                  refine T_callV (as := [aI wk, aI (i + 1), aI (x + (10 * y))]) rfl (am_dec tX5_walksInPort_1 35 rfl) lkX5_208 (show (hfW w hb sp rb rs hb (aR sp) ro ee hh ss uu vv pp kk rr tt gg aa dd bd ga im)[sp]? = some (cO 3 [aI (ss 0 0), aI (ss 0 1), aI (ss 0 2), aR (sp + 1), aR (sp + 3), aR (sp + 5), aR (sp + 7), aR (sp + 9), aR (sp + 11), aR (sp + 13), aR (sp + 15), aR (sp + 17), aR (sp + 18), aR (sp + 19)]) from ((hf_S hl hp) 0 (by decide))) rfl rfl (Nat.le_of_ble_eq_true rfl) (by omega) (mc_putPathS (d := d - 1) hl hp hr wk (i + 1) (x + (10 * y))   (by omega)) (fun _ => ?_)
                  refine T_nmH (W := fun x9 => hfW w hb sp rb rs hb (aR sp) ro ee hh x9 uu vv pp kk rr tt gg aa dd bd ga im) (v := c_putPathS ss wk (i + 1) (x + (10 * y))) (fun ss149 hss149 => ?_)
                  have hSss149 : SpI ss149 := by rw [hss149]; exact c_putPathS_I hS _ _ _ (by omega)
                  have hzss149_0 : ss149 0 0 = ss 0 0 := by rw [hss149]; exact c_putPathS_0 _ _ _ _ 0 0 (by decide)
                  have hzss149_1 : ss149 0 1 = ss 0 1 := by rw [hss149]; exact c_putPathS_0 _ _ _ _ 0 1 (by decide)
                  have hzss149_7 : ss149 0 7 = ss 0 7 := by rw [hss149]; exact c_putPathS_0 _ _ _ _ 0 7 (by decide)
                  have hzss149_8 : ss149 0 8 = ss 0 8 := by rw [hss149]; exact c_putPathS_0 _ _ _ _ 0 8 (by decide)
                  refine T_iinc (ls' := [some (aR 52), none, some (aI mv), some (aI wk), some (aI x), some (aI y), some (aI (i + 1)), some (aI b50)]) (i + 1) (am_dec tX5_walksInPort_1 36 rfl) rfl rfl ⟨by omega, by omega⟩ (by decide) rfl ?_
                  refine T_goto 36 (am_dec tX5_walksInPort_1 37 rfl) rfl ?_
                  refine T_weak (ls' := [some (aR 52), none, some (aI mv), some (aI wk), some (aI x), some (aI y), some (aI (i + 1)), none]) (am_sub_s (am_sub_n (am_sub_s (am_sub_s (am_sub_s (am_sub_s (am_sub_s (am_sub_n am_sub_nil)))))))) ?_
                  have e9 : (w_c_walksInPort_36 ee pp mv wk) (x, y, i, ss) = .inl (x, y, i + 1, ss149) := (by have s9 := hb50.symm; subst s9; have s9 := hz124.symm; subst s9; have s9 := hss149.symm; subst s9; exact ((if_neg h39).trans ((if_neg h59).trans ((if_neg h72).trans ((if_neg h85).trans ((if_neg h98).trans ((if_pos h111).trans (if_neg h127))))))))
                  simp only [am_wr_l e9] at k9
                  exact ih x y (i + 1) ss149 (by omega) ⟨hSss149, by omega, by omega, by omega, by omega⟩ k9
                · refine T_iconst 0 (am_dec tX5_walksInPort_1 22 rfl) rfl ⟨by decide, by decide⟩ ?_
                  exact T_zreturn (am_dec tX5_walksInPort_1 23 rfl) rfl (by first | exact Or.inl rfl | exact Or.inr rfl | omega) (by have e9 : (w_c_walksInPort_36 ee pp mv wk) (x, y, i, ss) = .inr (0, ss) := (by have s9 := hb50.symm; subst s9; have s9 := hz124.symm; subst s9; exact ((if_neg h39).trans ((if_neg h59).trans ((if_neg h72).trans ((if_neg h85).trans ((if_neg h98).trans ((if_pos h111).trans (if_pos h127)))))))); simp only [am_wr_r e9] at k9; exact k9 _ _ rfl rfl)
              · refine T_iconst 0 (am_dec tX5_walksInPort_1 14 rfl) rfl ⟨by decide, by decide⟩ ?_
                exact T_zreturn (am_dec tX5_walksInPort_1 15 rfl) rfl (by first | exact Or.inl rfl | exact Or.inr rfl | omega) (by have e9 : (w_c_walksInPort_36 ee pp mv wk) (x, y, i, ss) = .inr (0, ss) := (by have s9 := hb50.symm; subst s9; exact ((if_neg h39).trans ((if_neg h59).trans ((if_neg h72).trans ((if_neg h85).trans ((if_neg h98).trans (if_neg h111))))))); simp only [am_wr_r e9] at k9; exact k9 _ _ rfl rfl)
            · refine T_iinc (ls' := [some (aR 52), none, some (aI mv), some (aI wk), some (aI x), some (aI (y + (-1))), some (aI i), some (aI b50)]) (y + (-1)) (am_dec tX5_walksInPort_1 9 rfl) rfl rfl ⟨by omega, by omega⟩ (by decide) rfl ?_
              refine T_goto 116 (am_dec tX5_walksInPort_1 10 rfl) rfl ?_
              refine T_aload_n (am_dec tX5_walksInPort_1 16 rfl) rfl ?_
              refine T_getfield 5 6 (am_dec tX5_walksInPort_1 17 rfl) flX5_9_5 (show (hfW w hb sp rb rs hb (aR sp) ro ee hh ss uu vv pp kk rr tt gg aa dd bd ga im)[52]? = some (cO 5 [aR 51, aI (pp 0 1), aI (pp 0 2), aI (pp 0 3), aI (pp 0 4), aI (pp 0 5), aR sp, aI (pp 0 7), aI (pp 0 8), aI (pp 0 9), aI (pp 0 10)]) from (hfW_c hl 52 (by decide))) rfl ?_
              refine T_iload (am_dec tX5_walksInPort_1 18 rfl) rfl ?_
              refine T_iload (am_dec tX5_walksInPort_1 19 rfl) rfl ?_
              refine T_callV (as := [aI x, aI (y + (-1))]) rfl (am_dec tX5_walksInPort_1 20 rfl) lkX5_143 (show (hfW w hb sp rb rs hb (aR sp) ro ee hh ss uu vv pp kk rr tt gg aa dd bd ga im)[sp]? = some (cO 3 [aI (ss 0 0), aI (ss 0 1), aI (ss 0 2), aR (sp + 1), aR (sp + 3), aR (sp + 5), aR (sp + 7), aR (sp + 9), aR (sp + 11), aR (sp + 13), aR (sp + 15), aR (sp + 17), aR (sp + 18), aR (sp + 19)]) from ((hf_S hl hp) 0 (by decide))) rfl rfl (Nat.le_of_ble_eq_true rfl) (by omega) (m_has (d := d - 1) (hf_S hl hp) x (y + (-1))) (fun _ => ?_)
              refine T_nm (fun z124 hz124 => ?_)
              have hb124 := f_has_x ss x (y + (-1))
              rw [← hz124] at hb124
              refine T_if_ne 132 (am_dec tX5_walksInPort_1 21 rfl) rfl (fun h127 => ?_) (fun h127 => ?_)
              · refine T_aload_n (am_dec tX5_walksInPort_1 24 rfl) rfl ?_
                refine T_getfield 5 6 (am_dec tX5_walksInPort_1 25 rfl) flX5_9_5 (show (hfW w hb sp rb rs hb (aR sp) ro ee hh ss uu vv pp kk rr tt gg aa dd bd ga im)[52]? = some (cO 5 [aR 51, aI (pp 0 1), aI (pp 0 2), aI (pp 0 3), aI (pp 0 4), aI (pp 0 5), aR sp, aI (pp 0 7), aI (pp 0 8), aI (pp 0 9), aI (pp 0 10)]) from (hfW_c hl 52 (by decide))) rfl ?_
                refine T_iload_n (am_dec tX5_walksInPort_1 26 rfl) rfl ?_
                refine T_iload (am_dec tX5_walksInPort_1 27 rfl) rfl ?_
                refine T_iconst 1 (am_dec tX5_walksInPort_1 28 rfl) rfl ⟨by decide, by decide⟩ ?_
                refine T_iadd (i + 1) (am_dec tX5_walksInPort_1 29 rfl) rfl ⟨by omega, by omega⟩ ?_
                refine T_iload (am_dec tX5_walksInPort_1 30 rfl) rfl ?_
                refine T_bipush 10 (am_dec tX5_walksInPort_1 31 rfl) rfl ⟨by decide, by decide⟩ ?_
                refine T_iload (am_dec tX5_walksInPort_1 32 rfl) rfl ?_
                refine T_imul (10 * (y + (-1))) (am_dec tX5_walksInPort_1 33 rfl) rfl ⟨by omega, by omega⟩ ?_
                refine T_iadd (x + (10 * (y + (-1)))) (am_dec tX5_walksInPort_1 34 rfl) rfl ⟨by omega, by omega⟩ ?_
                refine T_callV (as := [aI wk, aI (i + 1), aI (x + (10 * (y + (-1))))]) rfl (am_dec tX5_walksInPort_1 35 rfl) lkX5_208 (show (hfW w hb sp rb rs hb (aR sp) ro ee hh ss uu vv pp kk rr tt gg aa dd bd ga im)[sp]? = some (cO 3 [aI (ss 0 0), aI (ss 0 1), aI (ss 0 2), aR (sp + 1), aR (sp + 3), aR (sp + 5), aR (sp + 7), aR (sp + 9), aR (sp + 11), aR (sp + 13), aR (sp + 15), aR (sp + 17), aR (sp + 18), aR (sp + 19)]) from ((hf_S hl hp) 0 (by decide))) rfl rfl (Nat.le_of_ble_eq_true rfl) (by omega) (mc_putPathS (d := d - 1) hl hp hr wk (i + 1) (x + (10 * (y + (-1))))   (by omega)) (fun _ => ?_)
                refine T_nmH (W := fun x9 => hfW w hb sp rb rs hb (aR sp) ro ee hh x9 uu vv pp kk rr tt gg aa dd bd ga im) (v := c_putPathS ss wk (i + 1) (x + (10 * (y + (-1))))) (fun ss149 hss149 => ?_)
                have hSss149 : SpI ss149 := by rw [hss149]; exact c_putPathS_I hS _ _ _ (by omega)
                have hzss149_0 : ss149 0 0 = ss 0 0 := by rw [hss149]; exact c_putPathS_0 _ _ _ _ 0 0 (by decide)
                have hzss149_1 : ss149 0 1 = ss 0 1 := by rw [hss149]; exact c_putPathS_0 _ _ _ _ 0 1 (by decide)
                have hzss149_7 : ss149 0 7 = ss 0 7 := by rw [hss149]; exact c_putPathS_0 _ _ _ _ 0 7 (by decide)
                have hzss149_8 : ss149 0 8 = ss 0 8 := by rw [hss149]; exact c_putPathS_0 _ _ _ _ 0 8 (by decide)
                refine T_iinc (ls' := [some (aR 52), none, some (aI mv), some (aI wk), some (aI x), some (aI (y + (-1))), some (aI (i + 1)), some (aI b50)]) (i + 1) (am_dec tX5_walksInPort_1 36 rfl) rfl rfl ⟨by omega, by omega⟩ (by decide) rfl ?_
                refine T_goto 36 (am_dec tX5_walksInPort_1 37 rfl) rfl ?_
                refine T_weak (ls' := [some (aR 52), none, some (aI mv), some (aI wk), some (aI x), some (aI (y + (-1))), some (aI (i + 1)), none]) (am_sub_s (am_sub_n (am_sub_s (am_sub_s (am_sub_s (am_sub_s (am_sub_s (am_sub_n am_sub_nil)))))))) ?_
                have e9 : (w_c_walksInPort_36 ee pp mv wk) (x, y, i, ss) = .inl (x, y + (-1), i + 1, ss149) := (by have s9 := hb50.symm; subst s9; have s9 := hz124.symm; subst s9; have s9 := hss149.symm; subst s9; exact ((if_neg h39).trans ((if_neg h59).trans ((if_neg h72).trans ((if_neg h85).trans ((if_pos h98).trans (if_neg h127)))))))
                simp only [am_wr_l e9] at k9
                exact ih x (y + (-1)) (i + 1) ss149 (by omega) ⟨hSss149, by omega, by omega, by omega, by omega⟩ k9
              · refine T_iconst 0 (am_dec tX5_walksInPort_1 22 rfl) rfl ⟨by decide, by decide⟩ ?_
                exact T_zreturn (am_dec tX5_walksInPort_1 23 rfl) rfl (by first | exact Or.inl rfl | exact Or.inr rfl | omega) (by have e9 : (w_c_walksInPort_36 ee pp mv wk) (x, y, i, ss) = .inr (0, ss) := (by have s9 := hb50.symm; subst s9; have s9 := hz124.symm; subst s9; exact ((if_neg h39).trans ((if_neg h59).trans ((if_neg h72).trans ((if_neg h85).trans ((if_pos h98).trans (if_pos h127))))))); simp only [am_wr_r e9] at k9; exact k9 _ _ rfl rfl)
          · refine T_iinc (ls' := [some (aR 52), none, some (aI mv), some (aI wk), some (aI x), some (aI (y + 1)), some (aI i), some (aI b50)]) (y + 1) (am_dec tX5_walksInPort_1 4 rfl) rfl rfl ⟨by omega, by omega⟩ (by decide) rfl ?_
            refine T_goto 116 (am_dec tX5_walksInPort_1 5 rfl) rfl ?_
            refine T_aload_n (am_dec tX5_walksInPort_1 16 rfl) rfl ?_
            refine T_getfield 5 6 (am_dec tX5_walksInPort_1 17 rfl) flX5_9_5 (show (hfW w hb sp rb rs hb (aR sp) ro ee hh ss uu vv pp kk rr tt gg aa dd bd ga im)[52]? = some (cO 5 [aR 51, aI (pp 0 1), aI (pp 0 2), aI (pp 0 3), aI (pp 0 4), aI (pp 0 5), aR sp, aI (pp 0 7), aI (pp 0 8), aI (pp 0 9), aI (pp 0 10)]) from (hfW_c hl 52 (by decide))) rfl ?_
            refine T_iload (am_dec tX5_walksInPort_1 18 rfl) rfl ?_
            refine T_iload (am_dec tX5_walksInPort_1 19 rfl) rfl ?_
            refine T_callV (as := [aI x, aI (y + 1)]) rfl (am_dec tX5_walksInPort_1 20 rfl) lkX5_143 (show (hfW w hb sp rb rs hb (aR sp) ro ee hh ss uu vv pp kk rr tt gg aa dd bd ga im)[sp]? = some (cO 3 [aI (ss 0 0), aI (ss 0 1), aI (ss 0 2), aR (sp + 1), aR (sp + 3), aR (sp + 5), aR (sp + 7), aR (sp + 9), aR (sp + 11), aR (sp + 13), aR (sp + 15), aR (sp + 17), aR (sp + 18), aR (sp + 19)]) from ((hf_S hl hp) 0 (by decide))) rfl rfl (Nat.le_of_ble_eq_true rfl) (by omega) (m_has (d := d - 1) (hf_S hl hp) x (y + 1)) (fun _ => ?_)
            refine T_nm (fun z124 hz124 => ?_)
            have hb124 := f_has_x ss x (y + 1)
            rw [← hz124] at hb124
            refine T_if_ne 132 (am_dec tX5_walksInPort_1 21 rfl) rfl (fun h127 => ?_) (fun h127 => ?_)
            · refine T_aload_n (am_dec tX5_walksInPort_1 24 rfl) rfl ?_
              refine T_getfield 5 6 (am_dec tX5_walksInPort_1 25 rfl) flX5_9_5 (show (hfW w hb sp rb rs hb (aR sp) ro ee hh ss uu vv pp kk rr tt gg aa dd bd ga im)[52]? = some (cO 5 [aR 51, aI (pp 0 1), aI (pp 0 2), aI (pp 0 3), aI (pp 0 4), aI (pp 0 5), aR sp, aI (pp 0 7), aI (pp 0 8), aI (pp 0 9), aI (pp 0 10)]) from (hfW_c hl 52 (by decide))) rfl ?_
              refine T_iload_n (am_dec tX5_walksInPort_1 26 rfl) rfl ?_
              refine T_iload (am_dec tX5_walksInPort_1 27 rfl) rfl ?_
              refine T_iconst 1 (am_dec tX5_walksInPort_1 28 rfl) rfl ⟨by decide, by decide⟩ ?_
              refine T_iadd (i + 1) (am_dec tX5_walksInPort_1 29 rfl) rfl ⟨by omega, by omega⟩ ?_
              refine T_iload (am_dec tX5_walksInPort_1 30 rfl) rfl ?_
              refine T_bipush 10 (am_dec tX5_walksInPort_1 31 rfl) rfl ⟨by decide, by decide⟩ ?_
              refine T_iload (am_dec tX5_walksInPort_1 32 rfl) rfl ?_
              refine T_imul (10 * (y + 1)) (am_dec tX5_walksInPort_1 33 rfl) rfl ⟨by omega, by omega⟩ ?_
              refine T_iadd (x + (10 * (y + 1))) (am_dec tX5_walksInPort_1 34 rfl) rfl ⟨by omega, by omega⟩ ?_
              refine T_callV (as := [aI wk, aI (i + 1), aI (x + (10 * (y + 1)))]) rfl (am_dec tX5_walksInPort_1 35 rfl) lkX5_208 (show (hfW w hb sp rb rs hb (aR sp) ro ee hh ss uu vv pp kk rr tt gg aa dd bd ga im)[sp]? = some (cO 3 [aI (ss 0 0), aI (ss 0 1), aI (ss 0 2), aR (sp + 1), aR (sp + 3), aR (sp + 5), aR (sp + 7), aR (sp + 9), aR (sp + 11), aR (sp + 13), aR (sp + 15), aR (sp + 17), aR (sp + 18), aR (sp + 19)]) from ((hf_S hl hp) 0 (by decide))) rfl rfl (Nat.le_of_ble_eq_true rfl) (by omega) (mc_putPathS (d := d - 1) hl hp hr wk (i + 1) (x + (10 * (y + 1)))   (by omega)) (fun _ => ?_)
              refine T_nmH (W := fun x9 => hfW w hb sp rb rs hb (aR sp) ro ee hh x9 uu vv pp kk rr tt gg aa dd bd ga im) (v := c_putPathS ss wk (i + 1) (x + (10 * (y + 1)))) (fun ss149 hss149 => ?_)
              have hSss149 : SpI ss149 := by rw [hss149]; exact c_putPathS_I hS _ _ _ (by omega)
              have hzss149_0 : ss149 0 0 = ss 0 0 := by rw [hss149]; exact c_putPathS_0 _ _ _ _ 0 0 (by decide)
              have hzss149_1 : ss149 0 1 = ss 0 1 := by rw [hss149]; exact c_putPathS_0 _ _ _ _ 0 1 (by decide)
              have hzss149_7 : ss149 0 7 = ss 0 7 := by rw [hss149]; exact c_putPathS_0 _ _ _ _ 0 7 (by decide)
              have hzss149_8 : ss149 0 8 = ss 0 8 := by rw [hss149]; exact c_putPathS_0 _ _ _ _ 0 8 (by decide)
              refine T_iinc (ls' := [some (aR 52), none, some (aI mv), some (aI wk), some (aI x), some (aI (y + 1)), some (aI (i + 1)), some (aI b50)]) (i + 1) (am_dec tX5_walksInPort_1 36 rfl) rfl rfl ⟨by omega, by omega⟩ (by decide) rfl ?_
              refine T_goto 36 (am_dec tX5_walksInPort_1 37 rfl) rfl ?_
              refine T_weak (ls' := [some (aR 52), none, some (aI mv), some (aI wk), some (aI x), some (aI (y + 1)), some (aI (i + 1)), none]) (am_sub_s (am_sub_n (am_sub_s (am_sub_s (am_sub_s (am_sub_s (am_sub_s (am_sub_n am_sub_nil)))))))) ?_
              have e9 : (w_c_walksInPort_36 ee pp mv wk) (x, y, i, ss) = .inl (x, y + 1, i + 1, ss149) := (by have s9 := hb50.symm; subst s9; have s9 := hz124.symm; subst s9; have s9 := hss149.symm; subst s9; exact ((if_neg h39).trans ((if_neg h59).trans ((if_neg h72).trans ((if_pos h85).trans (if_neg h127))))))
              simp only [am_wr_l e9] at k9
              exact ih x (y + 1) (i + 1) ss149 (by omega) ⟨hSss149, by omega, by omega, by omega, by omega⟩ k9
            · refine T_iconst 0 (am_dec tX5_walksInPort_1 22 rfl) rfl ⟨by decide, by decide⟩ ?_
              exact T_zreturn (am_dec tX5_walksInPort_1 23 rfl) rfl (by first | exact Or.inl rfl | exact Or.inr rfl | omega) (by have e9 : (w_c_walksInPort_36 ee pp mv wk) (x, y, i, ss) = .inr (0, ss) := (by have s9 := hb50.symm; subst s9; have s9 := hz124.symm; subst s9; exact ((if_neg h39).trans ((if_neg h59).trans ((if_neg h72).trans ((if_pos h85).trans (if_pos h127)))))); simp only [am_wr_r e9] at k9; exact k9 _ _ rfl rfl)
        · refine T_iinc (ls' := [some (aR 52), none, some (aI mv), some (aI wk), some (aI (x + (-1))), some (aI y), some (aI i), some (aI b50)]) (x + (-1)) (am_dec tX5_walksInPort_0 39 rfl) rfl rfl ⟨by omega, by omega⟩ (by decide) rfl ?_
          refine T_goto 116 (am_dec tX5_walksInPort_1 0 rfl) rfl ?_
          refine T_aload_n (am_dec tX5_walksInPort_1 16 rfl) rfl ?_
          refine T_getfield 5 6 (am_dec tX5_walksInPort_1 17 rfl) flX5_9_5 (show (hfW w hb sp rb rs hb (aR sp) ro ee hh ss uu vv pp kk rr tt gg aa dd bd ga im)[52]? = some (cO 5 [aR 51, aI (pp 0 1), aI (pp 0 2), aI (pp 0 3), aI (pp 0 4), aI (pp 0 5), aR sp, aI (pp 0 7), aI (pp 0 8), aI (pp 0 9), aI (pp 0 10)]) from (hfW_c hl 52 (by decide))) rfl ?_
          refine T_iload (am_dec tX5_walksInPort_1 18 rfl) rfl ?_
          refine T_iload (am_dec tX5_walksInPort_1 19 rfl) rfl ?_
          refine T_callV (as := [aI (x + (-1)), aI y]) rfl (am_dec tX5_walksInPort_1 20 rfl) lkX5_143 (show (hfW w hb sp rb rs hb (aR sp) ro ee hh ss uu vv pp kk rr tt gg aa dd bd ga im)[sp]? = some (cO 3 [aI (ss 0 0), aI (ss 0 1), aI (ss 0 2), aR (sp + 1), aR (sp + 3), aR (sp + 5), aR (sp + 7), aR (sp + 9), aR (sp + 11), aR (sp + 13), aR (sp + 15), aR (sp + 17), aR (sp + 18), aR (sp + 19)]) from ((hf_S hl hp) 0 (by decide))) rfl rfl (Nat.le_of_ble_eq_true rfl) (by omega) (m_has (d := d - 1) (hf_S hl hp) (x + (-1)) y) (fun _ => ?_)
          refine T_nm (fun z124 hz124 => ?_)
          have hb124 := f_has_x ss (x + (-1)) y
          rw [← hz124] at hb124
          refine T_if_ne 132 (am_dec tX5_walksInPort_1 21 rfl) rfl (fun h127 => ?_) (fun h127 => ?_)
          · refine T_aload_n (am_dec tX5_walksInPort_1 24 rfl) rfl ?_
            refine T_getfield 5 6 (am_dec tX5_walksInPort_1 25 rfl) flX5_9_5 (show (hfW w hb sp rb rs hb (aR sp) ro ee hh ss uu vv pp kk rr tt gg aa dd bd ga im)[52]? = some (cO 5 [aR 51, aI (pp 0 1), aI (pp 0 2), aI (pp 0 3), aI (pp 0 4), aI (pp 0 5), aR sp, aI (pp 0 7), aI (pp 0 8), aI (pp 0 9), aI (pp 0 10)]) from (hfW_c hl 52 (by decide))) rfl ?_
            refine T_iload_n (am_dec tX5_walksInPort_1 26 rfl) rfl ?_
            refine T_iload (am_dec tX5_walksInPort_1 27 rfl) rfl ?_
            refine T_iconst 1 (am_dec tX5_walksInPort_1 28 rfl) rfl ⟨by decide, by decide⟩ ?_
            refine T_iadd (i + 1) (am_dec tX5_walksInPort_1 29 rfl) rfl ⟨by omega, by omega⟩ ?_
            refine T_iload (am_dec tX5_walksInPort_1 30 rfl) rfl ?_
            refine T_bipush 10 (am_dec tX5_walksInPort_1 31 rfl) rfl ⟨by decide, by decide⟩ ?_
            refine T_iload (am_dec tX5_walksInPort_1 32 rfl) rfl ?_
            refine T_imul (10 * y) (am_dec tX5_walksInPort_1 33 rfl) rfl ⟨by omega, by omega⟩ ?_
            refine T_iadd ((x + (-1)) + (10 * y)) (am_dec tX5_walksInPort_1 34 rfl) rfl ⟨by omega, by omega⟩ ?_
            refine T_callV (as := [aI wk, aI (i + 1), aI ((x + (-1)) + (10 * y))]) rfl (am_dec tX5_walksInPort_1 35 rfl) lkX5_208 (show (hfW w hb sp rb rs hb (aR sp) ro ee hh ss uu vv pp kk rr tt gg aa dd bd ga im)[sp]? = some (cO 3 [aI (ss 0 0), aI (ss 0 1), aI (ss 0 2), aR (sp + 1), aR (sp + 3), aR (sp + 5), aR (sp + 7), aR (sp + 9), aR (sp + 11), aR (sp + 13), aR (sp + 15), aR (sp + 17), aR (sp + 18), aR (sp + 19)]) from ((hf_S hl hp) 0 (by decide))) rfl rfl (Nat.le_of_ble_eq_true rfl) (by omega) (mc_putPathS (d := d - 1) hl hp hr wk (i + 1) ((x + (-1)) + (10 * y))   (by omega)) (fun _ => ?_)
            refine T_nmH (W := fun x9 => hfW w hb sp rb rs hb (aR sp) ro ee hh x9 uu vv pp kk rr tt gg aa dd bd ga im) (v := c_putPathS ss wk (i + 1) ((x + (-1)) + (10 * y))) (fun ss149 hss149 => ?_)
            have hSss149 : SpI ss149 := by rw [hss149]; exact c_putPathS_I hS _ _ _ (by omega)
            have hzss149_0 : ss149 0 0 = ss 0 0 := by rw [hss149]; exact c_putPathS_0 _ _ _ _ 0 0 (by decide)
            have hzss149_1 : ss149 0 1 = ss 0 1 := by rw [hss149]; exact c_putPathS_0 _ _ _ _ 0 1 (by decide)
            have hzss149_7 : ss149 0 7 = ss 0 7 := by rw [hss149]; exact c_putPathS_0 _ _ _ _ 0 7 (by decide)
            have hzss149_8 : ss149 0 8 = ss 0 8 := by rw [hss149]; exact c_putPathS_0 _ _ _ _ 0 8 (by decide)
            refine T_iinc (ls' := [some (aR 52), none, some (aI mv), some (aI wk), some (aI (x + (-1))), some (aI y), some (aI (i + 1)), some (aI b50)]) (i + 1) (am_dec tX5_walksInPort_1 36 rfl) rfl rfl ⟨by omega, by omega⟩ (by decide) rfl ?_
            refine T_goto 36 (am_dec tX5_walksInPort_1 37 rfl) rfl ?_
            refine T_weak (ls' := [some (aR 52), none, some (aI mv), some (aI wk), some (aI (x + (-1))), some (aI y), some (aI (i + 1)), none]) (am_sub_s (am_sub_n (am_sub_s (am_sub_s (am_sub_s (am_sub_s (am_sub_s (am_sub_n am_sub_nil)))))))) ?_
            have e9 : (w_c_walksInPort_36 ee pp mv wk) (x, y, i, ss) = .inl (x + (-1), y, i + 1, ss149) := (by have s9 := hb50.symm; subst s9; have s9 := hz124.symm; subst s9; have s9 := hss149.symm; subst s9; exact ((if_neg h39).trans ((if_neg h59).trans ((if_pos h72).trans (if_neg h127)))))
            simp only [am_wr_l e9] at k9
            exact ih (x + (-1)) y (i + 1) ss149 (by omega) ⟨hSss149, by omega, by omega, by omega, by omega⟩ k9
          · refine T_iconst 0 (am_dec tX5_walksInPort_1 22 rfl) rfl ⟨by decide, by decide⟩ ?_
            exact T_zreturn (am_dec tX5_walksInPort_1 23 rfl) rfl (by first | exact Or.inl rfl | exact Or.inr rfl | omega) (by have e9 : (w_c_walksInPort_36 ee pp mv wk) (x, y, i, ss) = .inr (0, ss) := (by have s9 := hb50.symm; subst s9; have s9 := hz124.symm; subst s9; exact ((if_neg h39).trans ((if_neg h59).trans ((if_pos h72).trans (if_pos h127))))); simp only [am_wr_r e9] at k9; exact k9 _ _ rfl rfl)
      · refine T_iinc (ls' := [some (aR 52), none, some (aI mv), some (aI wk), some (aI (x + 1)), some (aI y), some (aI i), some (aI b50)]) (x + 1) (am_dec tX5_walksInPort_0 34 rfl) rfl rfl ⟨by omega, by omega⟩ (by decide) rfl ?_
        refine T_goto 116 (am_dec tX5_walksInPort_0 35 rfl) rfl ?_
        refine T_aload_n (am_dec tX5_walksInPort_1 16 rfl) rfl ?_
        refine T_getfield 5 6 (am_dec tX5_walksInPort_1 17 rfl) flX5_9_5 (show (hfW w hb sp rb rs hb (aR sp) ro ee hh ss uu vv pp kk rr tt gg aa dd bd ga im)[52]? = some (cO 5 [aR 51, aI (pp 0 1), aI (pp 0 2), aI (pp 0 3), aI (pp 0 4), aI (pp 0 5), aR sp, aI (pp 0 7), aI (pp 0 8), aI (pp 0 9), aI (pp 0 10)]) from (hfW_c hl 52 (by decide))) rfl ?_
        refine T_iload (am_dec tX5_walksInPort_1 18 rfl) rfl ?_
        refine T_iload (am_dec tX5_walksInPort_1 19 rfl) rfl ?_
        refine T_callV (as := [aI (x + 1), aI y]) rfl (am_dec tX5_walksInPort_1 20 rfl) lkX5_143 (show (hfW w hb sp rb rs hb (aR sp) ro ee hh ss uu vv pp kk rr tt gg aa dd bd ga im)[sp]? = some (cO 3 [aI (ss 0 0), aI (ss 0 1), aI (ss 0 2), aR (sp + 1), aR (sp + 3), aR (sp + 5), aR (sp + 7), aR (sp + 9), aR (sp + 11), aR (sp + 13), aR (sp + 15), aR (sp + 17), aR (sp + 18), aR (sp + 19)]) from ((hf_S hl hp) 0 (by decide))) rfl rfl (Nat.le_of_ble_eq_true rfl) (by omega) (m_has (d := d - 1) (hf_S hl hp) (x + 1) y) (fun _ => ?_)
        refine T_nm (fun z124 hz124 => ?_)
        have hb124 := f_has_x ss (x + 1) y
        rw [← hz124] at hb124
        refine T_if_ne 132 (am_dec tX5_walksInPort_1 21 rfl) rfl (fun h127 => ?_) (fun h127 => ?_)
        · refine T_aload_n (am_dec tX5_walksInPort_1 24 rfl) rfl ?_
          refine T_getfield 5 6 (am_dec tX5_walksInPort_1 25 rfl) flX5_9_5 (show (hfW w hb sp rb rs hb (aR sp) ro ee hh ss uu vv pp kk rr tt gg aa dd bd ga im)[52]? = some (cO 5 [aR 51, aI (pp 0 1), aI (pp 0 2), aI (pp 0 3), aI (pp 0 4), aI (pp 0 5), aR sp, aI (pp 0 7), aI (pp 0 8), aI (pp 0 9), aI (pp 0 10)]) from (hfW_c hl 52 (by decide))) rfl ?_
          refine T_iload_n (am_dec tX5_walksInPort_1 26 rfl) rfl ?_
          refine T_iload (am_dec tX5_walksInPort_1 27 rfl) rfl ?_
          refine T_iconst 1 (am_dec tX5_walksInPort_1 28 rfl) rfl ⟨by decide, by decide⟩ ?_
          refine T_iadd (i + 1) (am_dec tX5_walksInPort_1 29 rfl) rfl ⟨by omega, by omega⟩ ?_
          refine T_iload (am_dec tX5_walksInPort_1 30 rfl) rfl ?_
          refine T_bipush 10 (am_dec tX5_walksInPort_1 31 rfl) rfl ⟨by decide, by decide⟩ ?_
          refine T_iload (am_dec tX5_walksInPort_1 32 rfl) rfl ?_
          refine T_imul (10 * y) (am_dec tX5_walksInPort_1 33 rfl) rfl ⟨by omega, by omega⟩ ?_
          refine T_iadd ((x + 1) + (10 * y)) (am_dec tX5_walksInPort_1 34 rfl) rfl ⟨by omega, by omega⟩ ?_
          refine T_callV (as := [aI wk, aI (i + 1), aI ((x + 1) + (10 * y))]) rfl (am_dec tX5_walksInPort_1 35 rfl) lkX5_208 (show (hfW w hb sp rb rs hb (aR sp) ro ee hh ss uu vv pp kk rr tt gg aa dd bd ga im)[sp]? = some (cO 3 [aI (ss 0 0), aI (ss 0 1), aI (ss 0 2), aR (sp + 1), aR (sp + 3), aR (sp + 5), aR (sp + 7), aR (sp + 9), aR (sp + 11), aR (sp + 13), aR (sp + 15), aR (sp + 17), aR (sp + 18), aR (sp + 19)]) from ((hf_S hl hp) 0 (by decide))) rfl rfl (Nat.le_of_ble_eq_true rfl) (by omega) (mc_putPathS (d := d - 1) hl hp hr wk (i + 1) ((x + 1) + (10 * y))   (by omega)) (fun _ => ?_)
          refine T_nmH (W := fun x9 => hfW w hb sp rb rs hb (aR sp) ro ee hh x9 uu vv pp kk rr tt gg aa dd bd ga im) (v := c_putPathS ss wk (i + 1) ((x + 1) + (10 * y))) (fun ss149 hss149 => ?_)
          have hSss149 : SpI ss149 := by rw [hss149]; exact c_putPathS_I hS _ _ _ (by omega)
          have hzss149_0 : ss149 0 0 = ss 0 0 := by rw [hss149]; exact c_putPathS_0 _ _ _ _ 0 0 (by decide)
          have hzss149_1 : ss149 0 1 = ss 0 1 := by rw [hss149]; exact c_putPathS_0 _ _ _ _ 0 1 (by decide)
          have hzss149_7 : ss149 0 7 = ss 0 7 := by rw [hss149]; exact c_putPathS_0 _ _ _ _ 0 7 (by decide)
          have hzss149_8 : ss149 0 8 = ss 0 8 := by rw [hss149]; exact c_putPathS_0 _ _ _ _ 0 8 (by decide)
          refine T_iinc (ls' := [some (aR 52), none, some (aI mv), some (aI wk), some (aI (x + 1)), some (aI y), some (aI (i + 1)), some (aI b50)]) (i + 1) (am_dec tX5_walksInPort_1 36 rfl) rfl rfl ⟨by omega, by omega⟩ (by decide) rfl ?_
          refine T_goto 36 (am_dec tX5_walksInPort_1 37 rfl) rfl ?_
          refine T_weak (ls' := [some (aR 52), none, some (aI mv), some (aI wk), some (aI (x + 1)), some (aI y), some (aI (i + 1)), none]) (am_sub_s (am_sub_n (am_sub_s (am_sub_s (am_sub_s (am_sub_s (am_sub_s (am_sub_n am_sub_nil)))))))) ?_
          have e9 : (w_c_walksInPort_36 ee pp mv wk) (x, y, i, ss) = .inl (x + 1, y, i + 1, ss149) := (by have s9 := hb50.symm; subst s9; have s9 := hz124.symm; subst s9; have s9 := hss149.symm; subst s9; exact ((if_neg h39).trans ((if_pos h59).trans (if_neg h127))))
          simp only [am_wr_l e9] at k9
          exact ih (x + 1) y (i + 1) ss149 (by omega) ⟨hSss149, by omega, by omega, by omega, by omega⟩ k9
        · refine T_iconst 0 (am_dec tX5_walksInPort_1 22 rfl) rfl ⟨by decide, by decide⟩ ?_
          exact T_zreturn (am_dec tX5_walksInPort_1 23 rfl) rfl (by first | exact Or.inl rfl | exact Or.inr rfl | omega) (by have e9 : (w_c_walksInPort_36 ee pp mv wk) (x, y, i, ss) = .inr (0, ss) := (by have s9 := hb50.symm; subst s9; have s9 := hz124.symm; subst s9; exact ((if_neg h39).trans ((if_pos h59).trans (if_pos h127)))); simp only [am_wr_r e9] at k9; exact k9 _ _ rfl rfl)
def c_walksInPort (ee : am_F) (ss : am_F) (pp : am_F) (cl : Int) (mv : Int) : Int × am_F := (let ss30 : am_F := c_putPathS ss (ss 0 8) 0 cl; (let rv_36 : Int := (am_wr (w_c_walksInPort_36 ee pp mv (ss 0 8)) (0, (fun _ _ => 0)) 14 ((cl % 10), (cl / 10), 0, ss30)).1; (let ss36 : am_F := (am_wr (w_c_walksInPort_36 ee pp mv (ss 0 8)) (0, (fun _ _ => 0)) 14 ((cl % 10), (cl / 10), 0, ss30)).2; (rv_36, ss36))))
theorem mc_walksInPort {S : am_S} {d u : Nat} {w : AH} {hb sp rb rs : Nat} {ro : AV} (hl : 109 ≤ w.length) (hp : hb = 1 ∧ sp = 21 ∨ hb = 21 ∧ sp = 1) (hr : rb = 41 ∧ rs = 46 ∨ rb = 46 ∧ rs = 41) {ee : am_F} {hh : am_F} {ss : am_F} {uu : am_F} {vv : am_F} {pp : am_F} {kk : am_F} {rr : am_F} {tt : am_F} {gg : am_F} {aa : am_F} {dd : am_F} {bd : am_F} {ga : am_F} {im : am_F} (cl : Int) (mv : Int) (hP : RdI pp) (hTp : TpI ee) (hS : SpI ss) (hcl : 0 ≤ cl ∧ cl ≤ 88) (hmv : mv ≤ 12)  (hd : 2 ≤ d) : am_Out S zX5_walksInPort d u [aR 52, aI cl, aI mv] (hfW w hb sp rb rs hb (aR sp) ro ee hh ss uu vv pp kk rr tt gg aa dd bd ga im) (.inl (some (aI ((c_walksInPort ee ss pp cl mv).1)))) (hfW w hb sp rb rs hb (aR sp) ro ee hh ((c_walksInPort ee ss pp cl mv).2) uu vv pp kk rr tt gg aa dd bd ga im) := by
  have key : ∀ Q : AO → AH → Prop, Q (.inl (some (aI ((c_walksInPort ee ss pp cl mv).1)))) (hfW w hb sp rb rs hb (aR sp) ro ee hh ((c_walksInPort ee ss pp cl mv).2) uu vv pp kk rr tt gg aa dd bd ga im) → am_M S zX5_walksInPort d u [aR 52, aI cl, aI mv] (hfW w hb sp rb rs hb (aR sp) ro ee hh ss uu vv pp kk rr tt gg aa dd bd ga im) Q := by
    intro Q hQ
    refine am_body rfl (by decide +kernel) rfl (am_cats_cons rfl ( am_cats_cons rfl ( am_cats_cons rfl (am_cats_nil)))) (Nat.le_of_ble_eq_true rfl) (?_ : am_T _ _ _ _ _ 0 [some (aR 52), some (aI cl), some (aI mv), none, none, none, none, none] [] (hfW w hb sp rb rs hb (aR sp) ro ee hh ss uu vv pp kk rr tt gg aa dd bd ga im))
    have hP9 := hP
    obtain ⟨⟨vr1, vr2⟩, vr3, vr4, vr5⟩ := hP9
    obtain ⟨vs1, vs2, vs3, vs4, vs5, vs6, vs7, vs8, vs9, vs10, vs11, vs12, vs13, vs14, vs15, vs16, vs17, vs18, vs19, vs20, vs21, vs22⟩ := (HbI_A hS.1).1
    refine T_aload_n (am_dec tX5_walksInPort_0 0 rfl) rfl ?_
    refine T_getfield 5 6 (am_dec tX5_walksInPort_0 1 rfl) flX5_9_5 (show (hfW w hb sp rb rs hb (aR sp) ro ee hh ss uu vv pp kk rr tt gg aa dd bd ga im)[52]? = some (cO 5 [aR 51, aI (pp 0 1), aI (pp 0 2), aI (pp 0 3), aI (pp 0 4), aI (pp 0 5), aR sp, aI (pp 0 7), aI (pp 0 8), aI (pp 0 9), aI (pp 0 10)]) from (hfW_c hl 52 (by decide))) rfl ?_
    refine T_getfield 3 8 (am_dec tX5_walksInPort_0 2 rfl) flX5_202_3 (show (hfW w hb sp rb rs hb (aR sp) ro ee hh ss uu vv pp kk rr tt gg aa dd bd ga im)[sp]? = some (cO 3 [aI (ss 0 0), aI (ss 0 1), aI (ss 0 2), aR (sp + 1), aR (sp + 3), aR (sp + 5), aR (sp + 7), aR (sp + 9), aR (sp + 11), aR (sp + 13), aR (sp + 15), aR (sp + 17), aR (sp + 18), aR (sp + 19)]) from ((hf_S hl hp) 0 (by decide))) rfl ?_
    refine T_getfield 9 2 (am_dec tX5_walksInPort_0 3 rfl) flX5_196_9 (show (hfW w hb sp rb rs hb (aR sp) ro ee hh ss uu vv pp kk rr tt gg aa dd bd ga im)[sp + 11]? = some (cO 9 [aI 4, aR (sp + 12), aI (ss 0 8)]) from ((hf_S hl hp) 11 (by decide))) rfl ?_
    refine T_istore_n (ls' := [some (aR 52), some (aI cl), some (aI mv), some (aI (ss 0 8)), none, none, none, none]) (am_dec tX5_walksInPort_0 4 rfl) (by decide) rfl ?_
    refine T_iload_n (am_dec tX5_walksInPort_0 5 rfl) rfl ?_
    refine T_bipush 10 (am_dec tX5_walksInPort_0 6 rfl) rfl ⟨by decide, by decide⟩ ?_
    refine T_irem (cl % 10) (am_dec tX5_walksInPort_0 7 rfl) (by omega) (am_tm (by omega)) ⟨by omega, by omega⟩ ?_
    refine T_istore (ls' := [some (aR 52), some (aI cl), some (aI mv), some (aI (ss 0 8)), some (aI (cl % 10)), none, none, none]) (am_dec tX5_walksInPort_0 8 rfl) (by decide) rfl ?_
    refine T_iload_n (am_dec tX5_walksInPort_0 9 rfl) rfl ?_
    refine T_bipush 10 (am_dec tX5_walksInPort_0 10 rfl) rfl ⟨by decide, by decide⟩ ?_
    refine T_idiv (cl / 10) (am_dec tX5_walksInPort_0 11 rfl) (by omega) (am_td (by omega)) ⟨by omega, by omega⟩ ?_
    refine T_istore (ls' := [some (aR 52), some (aI cl), some (aI mv), some (aI (ss 0 8)), some (aI (cl % 10)), some (aI (cl / 10)), none, none]) (am_dec tX5_walksInPort_0 12 rfl) (by decide) rfl ?_
    refine T_aload_n (am_dec tX5_walksInPort_0 13 rfl) rfl ?_
    refine T_getfield 5 6 (am_dec tX5_walksInPort_0 14 rfl) flX5_9_5 (show (hfW w hb sp rb rs hb (aR sp) ro ee hh ss uu vv pp kk rr tt gg aa dd bd ga im)[52]? = some (cO 5 [aR 51, aI (pp 0 1), aI (pp 0 2), aI (pp 0 3), aI (pp 0 4), aI (pp 0 5), aR sp, aI (pp 0 7), aI (pp 0 8), aI (pp 0 9), aI (pp 0 10)]) from (hfW_c hl 52 (by decide))) rfl ?_
    refine T_iload_n (am_dec tX5_walksInPort_0 15 rfl) rfl ?_
    refine T_iconst 0 (am_dec tX5_walksInPort_0 16 rfl) rfl ⟨by decide, by decide⟩ ?_
    refine T_iload_n (am_dec tX5_walksInPort_0 17 rfl) rfl ?_
    refine T_callV (as := [aI (ss 0 8), aI 0, aI cl]) rfl (am_dec tX5_walksInPort_0 18 rfl) lkX5_208 (show (hfW w hb sp rb rs hb (aR sp) ro ee hh ss uu vv pp kk rr tt gg aa dd bd ga im)[sp]? = some (cO 3 [aI (ss 0 0), aI (ss 0 1), aI (ss 0 2), aR (sp + 1), aR (sp + 3), aR (sp + 5), aR (sp + 7), aR (sp + 9), aR (sp + 11), aR (sp + 13), aR (sp + 15), aR (sp + 17), aR (sp + 18), aR (sp + 19)]) from ((hf_S hl hp) 0 (by decide))) rfl rfl (Nat.le_of_ble_eq_true rfl) (by omega) (mc_putPathS (d := d - 1) hl hp hr (ss 0 8) 0 cl   (by omega)) (fun _ => ?_)
    refine T_nmH (W := fun x9 => hfW w hb sp rb rs hb (aR sp) ro ee hh x9 uu vv pp kk rr tt gg aa dd bd ga im) (v := c_putPathS ss (ss 0 8) 0 cl) (fun ss30 hss30 => ?_)
    have hSss30 : SpI ss30 := by rw [hss30]; exact c_putPathS_I hS _ _ _ (by omega)
    have hzss30_0 : ss30 0 0 = ss 0 0 := by rw [hss30]; exact c_putPathS_0 _ _ _ _ 0 0 (by decide)
    have hzss30_1 : ss30 0 1 = ss 0 1 := by rw [hss30]; exact c_putPathS_0 _ _ _ _ 0 1 (by decide)
    have hzss30_7 : ss30 0 7 = ss 0 7 := by rw [hss30]; exact c_putPathS_0 _ _ _ _ 0 7 (by decide)
    have hzss30_8 : ss30 0 8 = ss 0 8 := by rw [hss30]; exact c_putPathS_0 _ _ _ _ 0 8 (by decide)
    refine T_iconst 0 (am_dec tX5_walksInPort_0 19 rfl) rfl ⟨by decide, by decide⟩ ?_
    refine T_istore (ls' := [some (aR 52), some (aI cl), some (aI mv), some (aI (ss 0 8)), some (aI (cl % 10)), some (aI (cl / 10)), some (aI 0), none]) (am_dec tX5_walksInPort_0 20 rfl) (by decide) rfl ?_
    refine T_weak (ls' := [some (aR 52), none, some (aI mv), some (aI (ss 0 8)), some (aI (cl % 10)), some (aI (cl / 10)), some (aI 0), none]) (am_sub_s (am_sub_n (am_sub_s (am_sub_s (am_sub_s (am_sub_s (am_sub_s (am_sub_n am_sub_nil)))))))) ?_
    refine L_c_walksInPort_36 hl hp hr ee hh uu vv pp kk rr tt gg aa dd bd ga im mv (ss 0 8) hP hTp (by omega)  (by omega) 14 (cl % 10) (cl / 10) 0 ss30 (by omega) ⟨hSss30, by omega, by omega, by omega, by omega⟩ (fun rv_36 ss36 hrv_36 hss36 => ?_)
    exact (am_tr (fun (x9 : Int × am_F) => Q (.inl (some (aI (x9.1)))) (hfW w hb sp rb rs hb (aR sp) ro ee hh x9.2 uu vv pp kk rr tt gg aa dd bd ga im)) (y := (rv_36, ss36)) (show (c_walksInPort ee ss pp cl mv) = (rv_36, ss36) from (by have s9 := hss30.symm; subst s9; have s9 := hrv_36.symm; subst s9; have s9 := hss36.symm; subst s9; exact rfl)) hQ)
  exact key _ ⟨rfl, rfl⟩
theorem c_walksInPort_x {ee ss pp : am_F} (q : SpI ss) (cl mv : Int) (hc : 0 ≤ cl ∧ cl ≤ 88) (hm : mv ≤ 12) : SpI (c_walksInPort ee ss pp cl mv).2 ∧ ((c_walksInPort ee ss pp cl mv).1 = 0 ∨ (c_walksInPort ee ss pp cl mv).1 = 1) := by
  unfold c_walksInPort
  dsimp only
  refine am_wr_inv (P := fun (x : Int × Int × Int × am_F) => SpI x.2.2.2 ∧ 0 ≤ x.2.2.1 ∧ x.2.2.1 ≤ 12) (R := fun (x : Int × am_F) => SpI x.2 ∧ (x.1 = 0 ∨ x.1 = 1)) (fun x => 13 - x.2.2.1) (fun x hx => by show 0 ≤ 13 - x.2.2.1; omega) ?_ ?_ 14 (cl % 10, cl / 10, 0, c_putPathS ss (ss 0 8) 0 cl) ⟨c_putPathS_I q _ _ _ hc, by dsimp only; omega, by dsimp only; omega⟩ (by dsimp only; omega)
  · rintro ⟨x, y, i, s⟩ z ⟨h1, h2, h3⟩ hf
    dsimp only at h1 h2 h3
    obtain ⟨v1, v2, v3, v4, v5⟩ := (HbI_A h1.1).1
    unfold w_c_walksInPort_36 at hf
    dsimp only at hf
    have fx := f_has_x s
    repeat' split at hf
    all_goals first
      | cases hf; done
      | (rename_i hz
         cases hf
         refine ⟨⟨c_putPathS_I h1 _ _ _ ?_, ?_, ?_⟩, ?_⟩
         · first
             | (have g := fx (x + 1) y; omega)
             | (have g := fx (x + (-1)) y; omega)
             | (have g := fx x (y + 1); omega)
             | (have g := fx x (y + (-1)); omega)
             | (have g := fx x y; omega)
         · dsimp only; omega
         · dsimp only; omega
         · dsimp only; omega)
  · rintro ⟨x, y, i, s⟩ z ⟨h1, h2, h3⟩ hf
    dsimp only at h1 h2 h3
    unfold w_c_walksInPort_36 at hf
    dsimp only at hf
    repeat' split at hf
    all_goals first
      | (cases hf; exact ⟨h1, Or.inl rfl⟩)
      | (cases hf; exact ⟨h1, Or.inr rfl⟩)
      | cases hf
