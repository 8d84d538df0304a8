/-! seeds, guards, light -/
def g_c_tallySeeds_21 (hb : Nat) (hh : am_F) (k : Int) (sd : Int) (qq : Int) (lst : Int) (i : Int) (x9 : am_F × am_F) : am_F × am_F := let ee := x9.1; let tt := x9.2; (let tt36 : am_F := f_beginT hb hh tt; (let tt48 : am_F := am_put (am_put tt36 0 2 (am_w32 (sd + i))) 0 3 qq; (let tt57 : am_F := f_upTo hh tt48 lst; (let v70 : Int := f_comes hh k; (let v73 : Int := f_least tt57 hh k v70; (let ee80 : am_F := (if v73 < 0 then ee else (if 99 < v73 then ee else (am_put ee 3 v73.toNat (am_w32 (((ee 3) v73.toNat) + 1))))); (ee80, tt57)))))))
theorem L_c_tallySeeds_21 {S : am_S} {d u : Nat} {Q : AO → AH → Prop} {w : AH} {hb sp rb rs : Nat} {po ro : AV} (hl : 109 ≤ w.length) (hp : hb = 1 ∧ sp = 21 ∨ hb = 21 ∧ sp = 1) (hr : rb = 41 ∧ rs = 46 ∨ rb = 46 ∧ rs = 41) (hh : am_F) (ss : am_F) (uu : am_F) (vv : am_F) (pp : am_F) (kk : am_F) (rr : am_F) (gg : am_F) (aa : am_F) (dd : am_F) (bd : am_F) (ga : am_F) (im : am_F) (k : Int) (sd : Int) (qq : Int) (mn : Int) (lst : Int)  (hI : HbI hh) (hkb : 0 ≤ k ∧ k < hh 0 8) (hmn : 1 ≤ mn ∧ mn ≤ 40) (hd : 7 ≤ d) (B9 : Int) (hB : B9 = mn) : ∀ (n : Nat) (i : Int) (ee : am_F) (tt : am_F), i + n = B9 → 0 ≤ i → RnI tt → (∀ (ee' : am_F) (tt' : am_F), ee' = (am_fold (g_c_tallySeeds_21 hb hh k sd qq lst) i n (ee, tt)).1 → tt' = (am_fold (g_c_tallySeeds_21 hb hh k sd qq lst) i n (ee, tt)).2 → RnI tt' → am_T S zX11_tallySeeds d u Q 107 [none, none, none, none, none, none, none, none] [] (hfW w hb sp rb rs hb po ro ee' hh ss uu vv pp kk rr tt' gg aa dd bd ga im)) → am_T S zX11_tallySeeds d u Q 21 [some (aR 0), some (aI k), some (aI sd), some (aI qq), some (aI mn), some (aI lst), some (aI i), none] [] (hfW w hb sp rb rs hb po ro ee hh ss uu vv pp kk rr tt gg aa dd bd ga im) := by
  intro n
  induction n with
  | zero =>
    intro i ee tt hi9 h0i hinv k9
    have e9 : i = B9 := by omega
    subst e9
    obtain ⟨vh1, vh2, vh3, vh4, vh5, vh6, vh7, vh8, vh9, vh10, vh11, vh12, vh13, vh14, vh15, vh16, vh17, vh18, vh19, vh20, vh21, vh22⟩ := (HbI_A hI).1
    have hTI := hinv
    refine T_iload (am_dec tX11_tallySeeds_0 11 rfl) rfl ?_
    refine T_iload (am_dec tX11_tallySeeds_0 12 rfl) rfl ?_
    refine T_icmp_ge 107 (am_dec tX11_tallySeeds_0 13 rfl) rfl (fun h25 => ?_) (fun h25 => by exfalso; omega)
    refine T_weak (ls' := [none, none, none, none, none, none, none, none]) (am_sub_n (am_sub_n (am_sub_n (am_sub_n (am_sub_n (am_sub_n (am_sub_n (am_sub_n am_sub_nil)))))))) ?_
    exact k9 ee tt rfl rfl hinv
  | succ n ih =>
    intro i ee tt hi9 h0i hinv k9
    obtain ⟨vh1, vh2, vh3, vh4, vh5, vh6, vh7, vh8, vh9, vh10, vh11, vh12, vh13, vh14, vh15, vh16, vh17, vh18, vh19, vh20, vh21, vh22⟩ := (HbI_A hI).1
    have hTI := hinv
    refine T_iload (am_dec tX11_tallySeeds_0 11 rfl) rfl ?_
    refine T_iload (am_dec tX11_tallySeeds_0 12 rfl) rfl ?_
    refine T_icmp_ge 107 (am_dec tX11_tallySeeds_0 13 rfl) rfl (fun h25 => by exfalso; omega) (fun h25 => ?_)
    refine T_aload_n (am_dec tX11_tallySeeds_0 14 rfl) rfl ?_
    refine T_getfield 10 10 (am_dec tX11_tallySeeds_0 15 rfl) flX11_62_10 (show (hfW w hb sp rb rs hb po ro ee hh ss uu vv pp kk rr tt gg aa dd bd ga im)[0]? = some (cO 10 [aR hb, aR sp, aR rb, aR rs, aR 52, aR 53, aR 51, aI (ee 0 7), aI (ee 0 8), aR 54, aR 64, aR 74, aR 77, aR 83, aR 84, aR 86, aR 88, aI (ee 0 17), aR 107, aR 108]) from (hfW_c hl 0 (by decide))) rfl ?_
    refine T_aload_n (am_dec tX11_tallySeeds_0 16 rfl) rfl ?_
    refine T_getfield 10 0 (am_dec tX11_tallySeeds_0 17 rfl) flX11_10_10 (show (hfW w hb sp rb rs hb po ro ee hh ss uu vv pp kk rr tt gg aa dd bd ga im)[0]? = some (cO 10 [aR hb, aR sp, aR rb, aR rs, aR 52, aR 53, aR 51, aI (ee 0 7), aI (ee 0 8), aR 54, aR 64, aR 74, aR 77, aR 83, aR 84, aR 86, aR 88, aI (ee 0 17), aR 107, aR 108]) from (hfW_c hl 0 (by decide))) rfl ?_
    refine T_callV (as := [aR hb]) rfl (am_dec tX11_tallySeeds_0 18 rfl) lkX11_207 (show (hfW w hb sp rb rs hb po ro ee hh ss uu vv pp kk rr tt gg aa dd bd ga im)[64]? = some (cO 8 [aR ((tt 0 0).toNat), aI (tt 0 1), aI (tt 0 2), aI (tt 0 3), aI (tt 0 4), aI (tt 0 5), aR 65, aR 66, aR 67, aR 68, aR 69, aR 70, aR 71, aR 72, aR 73]) from (hfW_c hl 64 (by decide))) rfl rfl (Nat.le_of_ble_eq_true rfl) (by omega) (am_OutE (m_begin (d := d - 1) (w := hfW w hb sp rb rs hb po ro ee hh ss uu vv pp kk rr tt gg aa dd bd ga im) (Rn_Rn0 (hf_T hl)) (by omega) (hf_H hl hp) (HbI_A hI).1 hTI.2.1 (HbI_Fs hI) (by omega)) rfl hf_uTb) (fun _ => ?_)
    refine T_nmH (W := fun x9 => hfW w hb sp rb rs hb po ro ee hh ss uu vv pp kk rr x9 gg aa dd bd ga im) (v := f_beginT hb hh tt) (fun tt36 htt36 => ?_)
    have hItt36 : RnI tt36 := by rw [htt36]; exact f_begin_I (HbI_Fs hI) hTI.2.1
    have hTtt36 : (tt36 0 0).toNat = hb := by rw [htt36]; rfl
    refine T_aload_n (am_dec tX11_tallySeeds_0 19 rfl) rfl ?_
    refine T_getfield 10 10 (am_dec tX11_tallySeeds_0 20 rfl) flX11_62_10 (show (hfW w hb sp rb rs hb po ro ee hh ss uu vv pp kk rr tt36 gg aa dd bd ga im)[0]? = some (cO 10 [aR hb, aR sp, aR rb, aR rs, aR 52, aR 53, aR 51, aI (ee 0 7), aI (ee 0 8), aR 54, aR 64, aR 74, aR 77, aR 83, aR 84, aR 86, aR 88, aI (ee 0 17), aR 107, aR 108]) from (hfW_c hl 0 (by decide))) rfl ?_
    refine T_iload_n (am_dec tX11_tallySeeds_0 21 rfl) rfl ?_
    refine T_iload (am_dec tX11_tallySeeds_0 22 rfl) rfl ?_
    refine T_iaddW (am_w32 (sd + i)) (am_dec tX11_tallySeeds_0 23 rfl) (am_w32e _).symm (am_w32r _) ?_
    refine T_iload_n (am_dec tX11_tallySeeds_0 24 rfl) rfl ?_
    refine T_callV (as := [aI (am_w32 (sd + i)), aI qq]) rfl (am_dec tX11_tallySeeds_0 25 rfl) lkX11_209 (show (hfW w hb sp rb rs hb po ro ee hh ss uu vv pp kk rr tt36 gg aa dd bd ga im)[64]? = some (cO 8 [aR ((tt36 0 0).toNat), aI (tt36 0 1), aI (tt36 0 2), aI (tt36 0 3), aI (tt36 0 4), aI (tt36 0 5), aR 65, aR 66, aR 67, aR 68, aR 69, aR 70, aR 71, aR 72, aR 73]) from (hfW_c hl 64 (by decide))) rfl rfl (Nat.le_of_ble_eq_true rfl) (by omega) (am_OutE (m_inDoubt (d := d - 1) (w := hfW w hb sp rb rs hb po ro ee hh ss uu vv pp kk rr tt36 gg aa dd bd ga im) (hf_le hl (by omega)) (am_w32 (sd + i)) qq) (hf_uT hTtt36) (hf_uT hTtt36)) (fun _ => ?_)
    refine T_nmH (W := fun x9 => hfW w hb sp rb rs hb po ro ee hh ss uu vv pp kk rr x9 gg aa dd bd ga im) (v := am_put (am_put tt36 0 2 (am_w32 (sd + i))) 0 3 qq) (fun tt48 htt48 => ?_)
    have hItt48 : RnI tt48 := by rw [htt48]; exact RnI_doubt hItt36
    have hTtt48 : (tt48 0 0).toNat = hb := by rw [htt48]; exact hTtt36
    refine T_aload_n (am_dec tX11_tallySeeds_0 26 rfl) rfl ?_
    refine T_getfield 10 10 (am_dec tX11_tallySeeds_0 27 rfl) flX11_62_10 (show (hfW w hb sp rb rs hb po ro ee hh ss uu vv pp kk rr tt48 gg aa dd bd ga im)[0]? = some (cO 10 [aR hb, aR sp, aR rb, aR rs, aR 52, aR 53, aR 51, aI (ee 0 7), aI (ee 0 8), aR 54, aR 64, aR 74, aR 77, aR 83, aR 84, aR 86, aR 88, aI (ee 0 17), aR 107, aR 108]) from (hfW_c hl 0 (by decide))) rfl ?_
    refine T_iload (am_dec tX11_tallySeeds_0 28 rfl) rfl ?_
    refine T_callV (as := [aI lst]) rfl (am_dec tX11_tallySeeds_0 29 rfl) lkX11_177 (show (hfW w hb sp rb rs hb po ro ee hh ss uu vv pp kk rr tt48 gg aa dd bd ga im)[64]? = some (cO 8 [aR ((tt48 0 0).toNat), aI (tt48 0 1), aI (tt48 0 2), aI (tt48 0 3), aI (tt48 0 4), aI (tt48 0 5), aR 65, aR 66, aR 67, aR 68, aR 69, aR 70, aR 71, aR 72, aR 73]) from (hfW_c hl 64 (by decide))) rfl rfl (Nat.le_of_ble_eq_true rfl) (by omega) (am_OutE (m_upTo (d := d - 1) (w := hfW w hb sp rb rs hb po ro ee hh ss uu vv pp kk rr tt48 gg aa dd bd ga im) (hf_le hl (by omega)) (by omega) (hf_H hl hp) (HbI_A hI) lst hItt48.1 hItt48.2.1 hItt48.2.2 (by omega)) (hf_uT hTtt48) (hf_uT (f_upTo_tb hItt48.1 hTtt48 lst))) (fun _ => ?_)
    refine T_nmH (W := fun x9 => hfW w hb sp rb rs hb po ro ee hh ss uu vv pp kk rr x9 gg aa dd bd ga im) (v := f_upTo hh tt48 lst) (fun tt57 htt57 => ?_)
    have hItt57 : RnI tt57 := by rw [htt57]; exact f_upTo_I (HbI_A hI) hItt48
    have hTtt57 : (tt57 0 0).toNat = hb := by rw [htt57]; exact f_upTo_tb hItt48.1 hTtt48 lst
    refine T_aload_n (am_dec tX11_tallySeeds_0 30 rfl) rfl ?_
    refine T_getfield 10 10 (am_dec tX11_tallySeeds_0 31 rfl) flX11_62_10 (show (hfW w hb sp rb rs hb po ro ee hh ss uu vv pp kk rr tt57 gg aa dd bd ga im)[0]? = some (cO 10 [aR hb, aR sp, aR rb, aR rs, aR 52, aR 53, aR 51, aI (ee 0 7), aI (ee 0 8), aR 54, aR 64, aR 74, aR 77, aR 83, aR 84, aR 86, aR 88, aI (ee 0 17), aR 107, aR 108]) from (hfW_c hl 0 (by decide))) rfl ?_
    refine T_iload_n (am_dec tX11_tallySeeds_0 32 rfl) rfl ?_
    refine T_aload_n (am_dec tX11_tallySeeds_0 33 rfl) rfl ?_
    refine T_getfield 10 0 (am_dec tX11_tallySeeds_0 34 rfl) flX11_10_10 (show (hfW w hb sp rb rs hb po ro ee hh ss uu vv pp kk rr tt57 gg aa dd bd ga im)[0]? = some (cO 10 [aR hb, aR sp, aR rb, aR rs, aR 52, aR 53, aR 51, aI (ee 0 7), aI (ee 0 8), aR 54, aR 64, aR 74, aR 77, aR 83, aR 84, aR 86, aR 88, aI (ee 0 17), aR 107, aR 108]) from (hfW_c hl 0 (by decide))) rfl ?_
    refine T_iload_n (am_dec tX11_tallySeeds_0 35 rfl) rfl ?_
    refine T_callV (as := [aI k]) rfl (am_dec tX11_tallySeeds_0 36 rfl) lkX11_251 (show (hfW w hb sp rb rs hb po ro ee hh ss uu vv pp kk rr tt57 gg aa dd bd ga im)[hb]? = some (cO 3 [aI (hh 0 0), aI (hh 0 1), aI (hh 0 2), aR (hb + 1), aR (hb + 3), aR (hb + 5), aR (hb + 7), aR (hb + 9), aR (hb + 11), aR (hb + 13), aR (hb + 15), aR (hb + 17), aR (hb + 18), aR (hb + 19)]) from ((hf_H hl hp) 0 (by decide))) rfl rfl (Nat.le_of_ble_eq_true rfl) (by omega) (m_comes (d := d - 1) (hf_H hl hp) (by omega) (by omega) k) (fun _ => ?_)
    refine T_nm (fun v70 hv70 => ?_)
    have hc70 := ((HbI_W hI) k).1
    rw [← hv70] at hc70
    refine T_callS (as := [aR 64, aI k, aI v70]) rfl (am_dec tX11_tallySeeds_0 37 rfl) lkX11_254 rfl (Nat.le_of_ble_eq_true rfl) (by omega) (m_least (d := d - 1) (hf_TH hl hTtt57) (hf_H hl hp) (HbI_A hI).1 hItt57.2.1 (HbI_W hI) (HbI_Co hI) (HbI_Wt hI) k v70 (by omega) (fun i q1 q2 => HbI_P hI k i (by omega) (by omega) q1 q2) (by omega)) (fun _ => ?_)
    refine T_nm (fun v73 hv73 => ?_)
    obtain ⟨p73, q73⟩ := f_least_b tt57 hh k v70 (HbI_A hI).1 hItt57.2.1
    rw [← hv73] at p73 q73
    refine T_istore (ls' := [some (aR 0), some (aI k), some (aI sd), some (aI qq), some (aI mn), some (aI lst), some (aI i), some (aI v73)]) (am_dec tX11_tallySeeds_0 38 rfl) (by decide) rfl ?_
    refine T_iload (am_dec tX11_tallySeeds_0 39 rfl) rfl ?_
    have K80 : ∀ (ee80 : am_F), ee80 = (if v73 < 0 then ee else (if 99 < v73 then ee else (am_put ee 3 v73.toNat (am_w32 (((ee 3) v73.toNat) + 1))))) →  am_T S zX11_tallySeeds d u Q 101 [some (aR 0), some (aI k), some (aI sd), some (aI qq), some (aI mn), some (aI lst), some (aI i), none] [] (hfW w hb sp rb rs hb po ro ee80 hh ss uu vv pp kk rr tt57 gg aa dd bd ga im) := by
      intro ee80 hee80 
      refine T_iinc (ls' := [some (aR 0), some (aI k), some (aI sd), some (aI qq), some (aI mn), some (aI lst), some (aI (i + 1)), none]) (i + 1) (am_dec tX11_tallySeeds_1 12 rfl) rfl rfl ⟨by omega, by omega⟩ (by decide) rfl ?_
      refine T_goto 21 (am_dec tX11_tallySeeds_1 13 rfl) rfl ?_
      have e9 : (g_c_tallySeeds_21 hb hh k sd qq lst) i (ee, tt) = (ee80, tt57) := (by have s9 := htt36.symm; subst s9; have s9 := htt48.symm; subst s9; have s9 := htt57.symm; subst s9; have s9 := hv70.symm; subst s9; have s9 := hv73.symm; subst s9; have s9 := hee80.symm; subst s9; exact rfl)
      simp only [am_fold_s, e9] at k9
      exact ih (i + 1) ee80 tt57 (by omega) (by omega) hItt57 k9
    refine T_if_lt 101 (am_dec tX11_tallySeeds_1 0 rfl) rfl (fun h80 => ?_) (fun h80 => ?_)
    · refine T_weak (ls' := [some (aR 0), some (aI k), some (aI sd), some (aI qq), some (aI mn), some (aI lst), some (aI i), none]) (am_sub_s (am_sub_s (am_sub_s (am_sub_s (am_sub_s (am_sub_s (am_sub_s (am_sub_n am_sub_nil)))))))) ?_
      exact K80 _ (if_pos h80).symm 
    · refine T_iload (am_dec tX11_tallySeeds_1 1 rfl) rfl ?_
      refine T_bipush 99 (am_dec tX11_tallySeeds_1 2 rfl) rfl ⟨by decide, by decide⟩ ?_
      have K87 : ∀ (ee87 : am_F), ee87 = (if 99 < v73 then ee else (am_put ee 3 v73.toNat (am_w32 (((ee 3) v73.toNat) + 1)))) →  am_T S zX11_tallySeeds d u Q 101 [some (aR 0), some (aI k), some (aI sd), some (aI qq), some (aI mn), some (aI lst), some (aI i), none] [] (hfW w hb sp rb rs hb po ro ee87 hh ss uu vv pp kk rr tt57 gg aa dd bd ga im) := by
        intro ee87 hee87 
        exact K80 _ (by have s9 := hee87.symm; subst s9; exact (if_neg h80).symm) 
      refine T_icmp_gt 101 (am_dec tX11_tallySeeds_1 3 rfl) rfl (fun h87 => ?_) (fun h87 => ?_)
      · refine T_weak (ls' := [some (aR 0), some (aI k), some (aI sd), some (aI qq), some (aI mn), some (aI lst), some (aI i), none]) (am_sub_s (am_sub_s (am_sub_s (am_sub_s (am_sub_s (am_sub_s (am_sub_s (am_sub_n am_sub_nil)))))))) ?_
        exact K87 _ (if_pos h87).symm 
      · refine T_aload_n (am_dec tX11_tallySeeds_1 4 rfl) rfl ?_
        refine T_getfield 10 19 (am_dec tX11_tallySeeds_1 5 rfl) flX11_108_10 (show (hfW w hb sp rb rs hb po ro ee hh ss uu vv pp kk rr tt57 gg aa dd bd ga im)[0]? = some (cO 10 [aR hb, aR sp, aR rb, aR rs, aR 52, aR 53, aR 51, aI (ee 0 7), aI (ee 0 8), aR 54, aR 64, aR 74, aR 77, aR 83, aR 84, aR 86, aR 88, aI (ee 0 17), aR 107, aR 108]) from (hfW_c hl 0 (by decide))) rfl ?_
        refine T_iload (am_dec tX11_tallySeeds_1 6 rfl) rfl ?_
        refine T_dup2 (am_dec tX11_tallySeeds_1 7 rfl) rfl rfl ?_
        refine T_ialoadE (x := (ee 3) v73.toNat) (am_dec tX11_tallySeeds_1 8 rfl) (show (hfW w hb sp rb rs hb po ro ee hh ss uu vv pp kk rr tt57 gg aa dd bd ga im)[108]? = some (cP 0 100 (ee 3)) from (hfW_c hl 108 (by decide))) (by omega) (by omega) rfl ?_
        refine T_iconst 1 (am_dec tX11_tallySeeds_1 9 rfl) rfl ⟨by decide, by decide⟩ ?_
        refine T_iaddW (am_w32 (((ee 3) v73.toNat) + 1)) (am_dec tX11_tallySeeds_1 10 rfl) (am_w32e _).symm (am_w32r _) ?_
        refine T_iastore (am_dec tX11_tallySeeds_1 11 rfl) (show (hfW w hb sp rb rs hb po ro ee hh ss uu vv pp kk rr tt57 gg aa dd bd ga im)[108]? = some (cP 0 100 (ee 3)) from (hfW_c hl 108 (by decide))) (by omega) (by omega) ?_
        refine am_wE (w2 := hfW w hb sp rb rs hb po ro (am_put ee 3 v73.toNat (am_w32 (((ee 3) v73.toNat) + 1))) hh ss uu vv pp kk rr tt57 gg aa dd bd ga im) (hf_pty hl) ?_
        refine T_weak (ls' := [some (aR 0), some (aI k), some (aI sd), some (aI qq), some (aI mn), some (aI lst), some (aI i), none]) (am_sub_s (am_sub_s (am_sub_s (am_sub_s (am_sub_s (am_sub_s (am_sub_s (am_sub_n am_sub_nil)))))))) ?_
        exact K87 _ (if_neg h87).symm 
def c_tallySeeds (hb : Nat) (ee : am_F) (hh : am_F) (tt : am_F) (k : Int) (sd : Int) (qq : Int) (mn : Int) : am_F × am_F := (let ee5 : am_F := (am_row ee 3 (am_fill 100 (ee 3) 0)); (let v13 : Int := f_leaves hh k; (let ee21 : am_F := (am_fold (g_c_tallySeeds_21 hb hh k sd qq v13) 0 (mn).toNat (ee5, tt)).1; (let tt21 : am_F := (am_fold (g_c_tallySeeds_21 hb hh k sd qq v13) 0 (mn).toNat (ee5, tt)).2; (ee21, tt21)))))
theorem mc_tallySeeds {S : am_S} {d u : Nat} {w : AH} {hb sp rb rs : Nat} {po ro : AV} (hl : 109 ≤ w.length) (hp : hb = 1 ∧ sp = 21 ∨ hb = 21 ∧ sp = 1) (hr : rb = 41 ∧ rs = 46 ∨ rb = 46 ∧ rs = 41) {ee : am_F} {hh : am_F} {ss : am_F} {uu : am_F} {vv : am_F} {pp : am_F} {kk : am_F} {rr : am_F} {tt : am_F} {gg : am_F} {aa : am_F} {dd : am_F} {bd : am_F} {ga : am_F} {im : am_F} (k : Int) (sd : Int) (qq : Int) (mn : Int) (hI : HbI hh) (hTI : RnI tt) (hkb : 0 ≤ k ∧ k < hh 0 8) (hmn : 1 ≤ mn ∧ mn ≤ 40)  (hd : 7 ≤ d) : am_Out S zX11_tallySeeds d u [aR 0, aI k, aI sd, aI qq, aI mn] (hfW w hb sp rb rs hb po ro ee hh ss uu vv pp kk rr tt gg aa dd bd ga im) (.inl none) (hfW w hb sp rb rs hb po ro ((c_tallySeeds hb ee hh tt k sd qq mn).1) hh ss uu vv pp kk rr ((c_tallySeeds hb ee hh tt k sd qq mn).2) gg aa dd bd ga im) := by
  have key : ∀ Q : AO → AH → Prop, Q (.inl none) (hfW w hb sp rb rs hb po ro ((c_tallySeeds hb ee hh tt k sd qq mn).1) hh ss uu vv pp kk rr ((c_tallySeeds hb ee hh tt k sd qq mn).2) gg aa dd bd ga im) → am_M S zX11_tallySeeds d u [aR 0, aI k, aI sd, aI qq, aI mn] (hfW w hb sp rb rs hb po ro ee hh ss uu vv pp kk rr tt gg aa dd bd ga im) Q := by
    intro Q hQ
    refine am_body rfl (by decide +kernel) rfl (am_cats_cons rfl ( am_cats_cons rfl ( am_cats_cons rfl ( am_cats_cons rfl ( am_cats_cons rfl (am_cats_nil)))))) (Nat.le_of_ble_eq_true rfl) (?_ : am_T _ _ _ _ _ 0 [some (aR 0), some (aI k), some (aI sd), some (aI qq), some (aI mn), none, none, none] [] (hfW w hb sp rb rs hb po ro ee hh ss uu vv pp kk rr tt gg aa dd bd ga im))
    obtain ⟨vh1, vh2, vh3, vh4, vh5, vh6, vh7, vh8, vh9, vh10, vh11, vh12, vh13, vh14, vh15, vh16, vh17, vh18, vh19, vh20, vh21, vh22⟩ := (HbI_A hI).1
    refine T_aload_n (am_dec tX11_tallySeeds_0 0 rfl) rfl ?_
    refine T_getfield 10 19 (am_dec tX11_tallySeeds_0 1 rfl) flX11_108_10 (show (hfW w hb sp rb rs hb po ro ee hh ss uu vv pp kk rr tt gg aa dd bd ga im)[0]? = some (cO 10 [aR hb, aR sp, aR rb, aR rs, aR 52, aR 53, aR 51, aI (ee 0 7), aI (ee 0 8), aR 54, aR 64, aR 74, aR 77, aR 83, aR 84, aR 86, aR 88, aI (ee 0 17), aR 107, aR 108]) from (hfW_c hl 0 (by decide))) rfl ?_
    refine T_iconst 0 (am_dec tX11_tallySeeds_0 2 rfl) rfl ⟨by decide, by decide⟩ ?_
    refine T_callS (as := [aR 108, aI 0]) rfl (am_dec tX11_tallySeeds_0 3 rfl) lkX11_291 rfl (Nat.le_of_ble_eq_true rfl) (by omega) (m_fill (show (hfW w hb sp rb rs hb po ro ee hh ss uu vv pp kk rr tt gg aa dd bd ga im)[108]? = some (cP 0 100 (ee 3)) from (hfW_c hl 108 (by decide))) (by decide) 0 (show _ = hfW w hb sp rb rs hb po ro (am_row ee 3 (am_fill 100 (ee 3) 0)) hh ss uu vv pp kk rr tt gg aa dd bd ga im from (hf_rty hl))) (fun _ => ?_)
    refine T_nmH (W := fun x9 => hfW w hb sp rb rs hb po ro x9 hh ss uu vv pp kk rr tt gg aa dd bd ga im) (v := (am_row ee 3 (am_fill 100 (ee 3) 0))) (fun ee5 hee5 => ?_)
    refine T_aload_n (am_dec tX11_tallySeeds_0 4 rfl) rfl ?_
    refine T_getfield 10 0 (am_dec tX11_tallySeeds_0 5 rfl) flX11_10_10 (show (hfW w hb sp rb rs hb po ro ee5 hh ss uu vv pp kk rr tt gg aa dd bd ga im)[0]? = some (cO 10 [aR hb, aR sp, aR rb, aR rs, aR 52, aR 53, aR 51, aI (ee5 0 7), aI (ee5 0 8), aR 54, aR 64, aR 74, aR 77, aR 83, aR 84, aR 86, aR 88, aI (ee5 0 17), aR 107, aR 108]) from (hfW_c hl 0 (by decide))) rfl ?_
    refine T_iload_n (am_dec tX11_tallySeeds_0 6 rfl) rfl ?_
    refine T_callV (as := [aI k]) rfl (am_dec tX11_tallySeeds_0 7 rfl) lkX11_297 (show (hfW w hb sp rb rs hb po ro ee5 hh ss uu vv pp kk rr tt gg aa dd bd ga im)[hb]? = some (cO 3 [aI (hh 0 0), aI (hh 0 1), aI (hh 0 2), aR (hb + 1), aR (hb + 3), aR (hb + 5), aR (hb + 7), aR (hb + 9), aR (hb + 11), aR (hb + 13), aR (hb + 15), aR (hb + 17), aR (hb + 18), aR (hb + 19)]) from ((hf_H hl hp) 0 (by decide))) rfl rfl (Nat.le_of_ble_eq_true rfl) (by omega) (m_leaves (d := d - 1) (hf_H hl hp) (HbI_A hI).1 (HbI_W hI) (by omega) k) (fun _ => ?_)
    refine T_nm (fun v13 hv13 => ?_)
    refine T_istore (ls' := [some (aR 0), some (aI k), some (aI sd), some (aI qq), some (aI mn), some (aI v13), none, none]) (am_dec tX11_tallySeeds_0 8 rfl) (by decide) rfl ?_
    refine T_iconst 0 (am_dec tX11_tallySeeds_0 9 rfl) rfl ⟨by decide, by decide⟩ ?_
    refine T_istore (ls' := [some (aR 0), some (aI k), some (aI sd), some (aI qq), some (aI mn), some (aI v13), some (aI 0), none]) (am_dec tX11_tallySeeds_0 10 rfl) (by decide) rfl ?_
    refine L_c_tallySeeds_21 hl hp hr hh ss uu vv pp kk rr gg aa dd bd ga im k sd qq mn v13  hI (by omega) (by omega) (by omega) _ rfl (mn).toNat 0 ee5 tt (by omega) (by omega) hTI (fun ee21 tt21 hee21 htt21 hv21 => ?_)
    exact T_return (am_dec tX11_tallySeeds_1 14 rfl) rfl (am_tr (fun (x9 : am_F × am_F) => Q (.inl none) (hfW w hb sp rb rs hb po ro x9.1 hh ss uu vv pp kk rr x9.2 gg aa dd bd ga im)) (y := (ee21, tt21)) (show (c_tallySeeds hb ee hh tt k sd qq mn) = (ee21, tt21) from (by have s9 := hee5.symm; subst s9; have s9 := hv13.symm; subst s9; have s9 := hee21.symm; subst s9; have s9 := htt21.symm; subst s9; exact rfl)) hQ)
  exact key _ ⟨rfl, rfl⟩
theorem c_tallySeeds_I {hb : Nat} {ee hh tt : am_F} (hI : HbI hh) (q : RnI tt) (k sd qq mn : Int) : RnI (c_tallySeeds hb ee hh tt k sd qq mn).2 := by
  unfold c_tallySeeds
  exact am_fold_inv (P := fun (_ : Int) (x : am_F × am_F) => RnI x.2) _ _ _ q (fun i x _ _ hx => by
    unfold g_c_tallySeeds_21
    dsimp only
    have h1 := RnI_doubt (a := am_w32 (sd + i)) (b := qq) (RnI_put0 (v := (hb : Int)) (f_begin_I (HbI_Fs hI) hx.2.1))
    exact f_upTo_I (HbI_A hI) h1)
def c_span (hb : Nat) (ee : am_F) (hh : am_F) (tt : am_F) (k : Int) (sd : Int) (qq : Int) (mn : Int) (what : Int) : Int × Int × am_F × am_F := (if n_row (hh 0 8) k = 0 then (if n_seeds qq mn = 0 then (if n_range what 0 1 = 0 then (let u33 : am_F × am_F := c_tallySeeds hb ee hh tt k sd qq mn; (let t38 : Int := (if what = 0 then (c_tallied ((u33).1) 1) else (c_tallied ((u33).1) mn)); (0, t38, (u33).1, (u33).2))) else ((n_range what 0 1), 0, n_ref ee (n_range what 0 1), tt)) else ((n_seeds qq mn), 0, n_ref ee (n_seeds qq mn), tt)) else ((n_row (hh 0 8) k), 0, n_ref ee (n_row (hh 0 8) k), tt))
theorem mc_span {S : am_S} {d u : Nat} {w : AH} {hb sp rb rs : Nat} {po ro : AV} (hl : 109 ≤ w.length) (hp : hb = 1 ∧ sp = 21 ∨ hb = 21 ∧ sp = 1) (hr : rb = 41 ∧ rs = 46 ∨ rb = 46 ∧ rs = 41) {ee : am_F} {hh : am_F} {ss : am_F} {uu : am_F} {vv : am_F} {pp : am_F} {kk : am_F} {rr : am_F} {tt : am_F} {gg : am_F} {aa : am_F} {dd : am_F} {bd : am_F} {ga : am_F} {im : am_F} (k : Int) (sd : Int) (qq : Int) (mn : Int) (what : Int) (hI : HbI hh) (hTI : RnI tt) (hu : 1 ≤ u) (hd : 8 ≤ d) : am_Out S zX11_span d u [aR 0, aI k, aI sd, aI qq, aI mn, aI what] (hfW w hb sp rb rs hb po ro ee hh ss uu vv pp kk rr tt gg aa dd bd ga im) (am_oc ((c_span hb ee hh tt k sd qq mn what).1) ((c_span hb ee hh tt k sd qq mn what).2.1)) (hfW w hb sp rb rs hb po ro ((c_span hb ee hh tt k sd qq mn what).2.2.1) hh ss uu vv pp kk rr ((c_span hb ee hh tt k sd qq mn what).2.2.2) gg aa dd bd ga im) := by
  have key : ∀ Q : AO → AH → Prop, Q (am_oc ((c_span hb ee hh tt k sd qq mn what).1) ((c_span hb ee hh tt k sd qq mn what).2.1)) (hfW w hb sp rb rs hb po ro ((c_span hb ee hh tt k sd qq mn what).2.2.1) hh ss uu vv pp kk rr ((c_span hb ee hh tt k sd qq mn what).2.2.2) gg aa dd bd ga im) → am_M S zX11_span d u [aR 0, aI k, aI sd, aI qq, aI mn, aI what] (hfW w hb sp rb rs hb po ro ee hh ss uu vv pp kk rr tt gg aa dd bd ga im) Q := by
    intro Q hQ
    refine am_body rfl (by decide +kernel) rfl (am_cats_cons rfl ( am_cats_cons rfl ( am_cats_cons rfl ( am_cats_cons rfl ( am_cats_cons rfl ( am_cats_cons rfl (am_cats_nil))))))) (Nat.le_of_ble_eq_true rfl) (?_ : am_T _ _ _ _ _ 0 [some (aR 0), some (aI k), some (aI sd), some (aI qq), some (aI mn), some (aI what)] [] (hfW w hb sp rb rs hb po ro ee hh ss uu vv pp kk rr tt gg aa dd bd ga im))
    obtain ⟨vh1, vh2, vh3, vh4, vh5, vh6, vh7, vh8, vh9, vh10, vh11, vh12, vh13, vh14, vh15, vh16, vh17, vh18, vh19, vh20, vh21, vh22⟩ := (HbI_A hI).1
    refine T_aload_n (am_dec tX11_span_0 0 rfl) rfl ?_
    refine T_aload_n (am_dec tX11_span_0 1 rfl) rfl ?_
    refine T_getfield 10 0 (am_dec tX11_span_0 2 rfl) flX11_10_10 (show (hfW w hb sp rb rs hb po ro ee hh ss uu vv pp kk rr tt gg aa dd bd ga im)[0]? = some (cO 10 [aR hb, aR sp, aR rb, aR rs, aR 52, aR 53, aR 51, aI (ee 0 7), aI (ee 0 8), aR 54, aR 64, aR 74, aR 77, aR 83, aR 84, aR 86, aR 88, aI (ee 0 17), aR 107, aR 108]) from (hfW_c hl 0 (by decide))) rfl ?_
    refine T_getfield 3 8 (am_dec tX11_span_0 3 rfl) flX11_161_3 (show (hfW w hb sp rb rs hb po ro ee hh ss uu vv pp kk rr tt gg aa dd bd ga im)[hb]? = some (cO 3 [aI (hh 0 0), aI (hh 0 1), aI (hh 0 2), aR (hb + 1), aR (hb + 3), aR (hb + 5), aR (hb + 7), aR (hb + 9), aR (hb + 11), aR (hb + 13), aR (hb + 15), aR (hb + 17), aR (hb + 18), aR (hb + 19)]) from ((hf_H hl hp) 0 (by decide))) rfl ?_
    refine T_iload_n (am_dec tX11_span_0 4 rfl) rfl ?_
    refine T_callVo (as := [aR (hb + 11), aI k]) (code := n_row (hh 0 8) k) rfl (am_dec tX11_span_0 5 rfl) lkX11_190 (show (hfW w hb sp rb rs hb po ro ee hh ss uu vv pp kk rr tt gg aa dd bd ga im)[0]? = some (cO 10 [aR hb, aR sp, aR rb, aR rs, aR 52, aR 53, aR 51, aI (ee 0 7), aI (ee 0 8), aR 54, aR 64, aR 74, aR 77, aR 83, aR 84, aR 86, aR 88, aI (ee 0 17), aR 107, aR 108]) from (hfW_c hl 0 (by decide))) rfl rfl (Nat.le_of_ble_eq_true rfl) (by omega) (by omega) (fun hN9 => (mx_row0 (d := d - 1) hl hp hr k (show (hfW w hb sp rb rs hb po ro ee hh ss uu vv pp kk rr tt gg aa dd bd ga im)[hb + 11]? = some (cO 9 [aI 4, aR (hb + 12), aI (hh 0 8)]) from ((hf_H hl hp) 11 (by decide))) (show (hfW w hb sp rb rs hb po ro ee hh ss uu vv pp kk rr tt gg aa dd bd ga im)[hb + 12]? = some (cP 0 48 (hh 6)) from ((hf_H hl hp) 12 (by decide))) (by omega) hN9 (by omega))) (fun hN9 => (x_rowX (d := d - 1) hl hp hr k (show (hfW w hb sp rb rs hb po ro ee hh ss uu vv pp kk rr tt gg aa dd bd ga im)[hb + 11]? = some (cO 9 [aI 4, aR (hb + 12), aI (hh 0 8)]) from ((hf_H hl hp) 11 (by decide))) (show (hfW w hb sp rb rs hb po ro ee hh ss uu vv pp kk rr tt gg aa dd bd ga im)[hb + 12]? = some (cP 0 48 (hh 6)) from ((hf_H hl hp) 12 (by decide))) (by omega) hN9 (by omega) (by omega))) (fun hN9 => ?_) (fun hN9 => ?_)
    · exact (am_tr (fun (x9 : Int × Int × am_F × am_F) => Q (am_oc (x9.1) (x9.2.1)) (hfW w hb sp rb rs hb po ro x9.2.2.1 hh ss uu vv pp kk rr x9.2.2.2 gg aa dd bd ga im)) (y := ((n_row (hh 0 8) k), 0, n_ref ee (n_row (hh 0 8) k), tt)) (show (c_span hb ee hh tt k sd qq mn what) = ((n_row (hh 0 8) k), 0, n_ref ee (n_row (hh 0 8) k), tt) from (if_neg hN9)) hQ)
    have hk9 := n_row_0 hN9
    refine T_aload_n (am_dec tX11_span_0 6 rfl) rfl ?_
    refine T_iload_n (am_dec tX11_span_0 7 rfl) rfl ?_
    refine T_iload (am_dec tX11_span_0 8 rfl) rfl ?_
    refine T_callVo (as := [aI qq, aI mn]) (code := n_seeds qq mn) rfl (am_dec tX11_span_0 9 rfl) lkX11_281 (show (hfW w hb sp rb rs hb po ro ee hh ss uu vv pp kk rr tt gg aa dd bd ga im)[0]? = some (cO 10 [aR hb, aR sp, aR rb, aR rs, aR 52, aR 53, aR 51, aI (ee 0 7), aI (ee 0 8), aR 54, aR 64, aR 74, aR 77, aR 83, aR 84, aR 86, aR 88, aI (ee 0 17), aR 107, aR 108]) from (hfW_c hl 0 (by decide))) rfl rfl (Nat.le_of_ble_eq_true rfl) (by omega) (by omega) (fun hN16 => (mx_seeds0 (d := d - 1) hl hp hr qq mn  hN16 (by omega))) (fun hN16 => (x_seedsX (d := d - 1) hl hp hr qq mn  hN16 (by omega) (by omega))) (fun hN16 => ?_) (fun hN16 => ?_)
    · exact (am_tr (fun (x9 : Int × Int × am_F × am_F) => Q (am_oc (x9.1) (x9.2.1)) (hfW w hb sp rb rs hb po ro x9.2.2.1 hh ss uu vv pp kk rr x9.2.2.2 gg aa dd bd ga im)) (y := ((n_seeds qq mn), 0, n_ref ee (n_seeds qq mn), tt)) (show (c_span hb ee hh tt k sd qq mn what) = ((n_seeds qq mn), 0, n_ref ee (n_seeds qq mn), tt) from ((if_pos hN9).trans (if_neg hN16))) hQ)
    have hk16 := n_seeds_0 hN16
    refine T_aload_n (am_dec tX11_span_0 10 rfl) rfl ?_
    refine T_iload (am_dec tX11_span_0 11 rfl) rfl ?_
    refine T_iconst 0 (am_dec tX11_span_0 12 rfl) rfl ⟨by decide, by decide⟩ ?_
    refine T_iconst 1 (am_dec tX11_span_0 13 rfl) rfl ⟨by decide, by decide⟩ ?_
    refine T_callVo (as := [aI what, aI 0, aI 1]) (code := n_range what 0 1) rfl (am_dec tX11_span_0 14 rfl) lkX11_117 (show (hfW w hb sp rb rs hb po ro ee hh ss uu vv pp kk rr tt gg aa dd bd ga im)[0]? = some (cO 10 [aR hb, aR sp, aR rb, aR rs, aR 52, aR 53, aR 51, aI (ee 0 7), aI (ee 0 8), aR 54, aR 64, aR 74, aR 77, aR 83, aR 84, aR 86, aR 88, aI (ee 0 17), aR 107, aR 108]) from (hfW_c hl 0 (by decide))) rfl rfl (Nat.le_of_ble_eq_true rfl) (by omega) (by omega) (fun hN24 => (mx_range0 (d := d - 1) hl hp hr what 0 1  hN24 (by omega))) (fun hN24 => (x_rangeX (d := d - 1) hl hp hr what 0 1  hN24 (by omega) (by omega))) (fun hN24 => ?_) (fun hN24 => ?_)
    · exact (am_tr (fun (x9 : Int × Int × am_F × am_F) => Q (am_oc (x9.1) (x9.2.1)) (hfW w hb sp rb rs hb po ro x9.2.2.1 hh ss uu vv pp kk rr x9.2.2.2 gg aa dd bd ga im)) (y := ((n_range what 0 1), 0, n_ref ee (n_range what 0 1), tt)) (show (c_span hb ee hh tt k sd qq mn what) = ((n_range what 0 1), 0, n_ref ee (n_range what 0 1), tt) from ((if_pos hN9).trans ((if_pos hN16).trans (if_neg hN24)))) hQ)
    have hk24 := n_range_0 hN24
    refine T_aload_n (am_dec tX11_span_0 15 rfl) rfl ?_
    refine T_iload_n (am_dec tX11_span_0 16 rfl) rfl ?_
    refine T_iload_n (am_dec tX11_span_0 17 rfl) rfl ?_
    refine T_iload_n (am_dec tX11_span_0 18 rfl) rfl ?_
    refine T_iload (am_dec tX11_span_0 19 rfl) rfl ?_
    refine T_callV (as := [aI k, aI sd, aI qq, aI mn]) rfl (am_dec tX11_span_0 20 rfl) lkX11_284 (show (hfW w hb sp rb rs hb po ro ee hh ss uu vv pp kk rr tt gg aa dd bd ga im)[0]? = some (cO 10 [aR hb, aR sp, aR rb, aR rs, aR 52, aR 53, aR 51, aI (ee 0 7), aI (ee 0 8), aR 54, aR 64, aR 74, aR 77, aR 83, aR 84, aR 86, aR 88, aI (ee 0 17), aR 107, aR 108]) from (hfW_c hl 0 (by decide))) rfl rfl (Nat.le_of_ble_eq_true rfl) (by omega) (mc_tallySeeds (d := d - 1) hl hp hr k sd qq mn  hI hTI (by omega) (by omega) (by omega)) (fun _ => ?_)
    obtain ⟨u33, hu33⟩ : ∃ x9, x9 = c_tallySeeds hb ee hh tt k sd qq mn := ⟨_, rfl⟩
    rw [← hu33]
    have hIu33 : RnI u33.2 := by rw [hu33]; exact c_tallySeeds_I hI hTI _ _ _ _
    refine T_iload (am_dec tX11_span_0 21 rfl) rfl ?_
    have K38 : ∀ (t38 : Int), t38 = (if what = 0 then (c_tallied ((u33).1) 1) else (c_tallied ((u33).1) mn)) →  am_T S zX11_span d u Q 55 [none, none, none, none, none, none] [aI t38] (hfW w hb sp rb rs hb po ro ((u33).1) hh ss uu vv pp kk rr ((u33).2) gg aa dd bd ga im) := by
      intro t38 ht38 
      exact T_ireturn (am_dec tX11_span_0 30 rfl) rfl (am_tr (fun (x9 : Int × Int × am_F × am_F) => Q (am_oc (x9.1) (x9.2.1)) (hfW w hb sp rb rs hb po ro x9.2.2.1 hh ss uu vv pp kk rr x9.2.2.2 gg aa dd bd ga im)) (y := (0, t38, (u33).1, (u33).2)) (show (c_span hb ee hh tt k sd qq mn what) = (0, t38, (u33).1, (u33).2) from (by have s9 := hu33.symm; subst s9; have s9 := ht38.symm; subst s9; exact ((if_pos hN9).trans ((if_pos hN16).trans (if_pos hN24))))) hQ)
    refine T_if_ne 49 (am_dec tX11_span_0 22 rfl) rfl (fun h38 => ?_) (fun h38 => ?_)
    · refine T_aload_n (am_dec tX11_span_0 27 rfl) rfl ?_
      refine T_iload (am_dec tX11_span_0 28 rfl) rfl ?_
      refine T_callV (as := [aI mn]) rfl (am_dec tX11_span_0 29 rfl) lkX11_288 (show (hfW w hb sp rb rs hb po ro ((u33).1) hh ss uu vv pp kk rr ((u33).2) gg aa dd bd ga im)[0]? = some (cO 10 [aR hb, aR sp, aR rb, aR rs, aR 52, aR 53, aR 51, aI ((u33).1 0 7), aI ((u33).1 0 8), aR 54, aR 64, aR 74, aR 77, aR 83, aR 84, aR 86, aR 88, aI ((u33).1 0 17), aR 107, aR 108]) from (hfW_c hl 0 (by decide))) rfl rfl (Nat.le_of_ble_eq_true rfl) (by omega) (mc_tallied (d := d - 1) hl hp hr mn   (by omega)) (fun _ => ?_)
      refine T_weak (ls' := [none, none, none, none, none, none]) (am_sub_n (am_sub_n (am_sub_n (am_sub_n (am_sub_n (am_sub_n am_sub_nil)))))) ?_
      exact K38 _ (if_neg h38).symm 
    · refine T_aload_n (am_dec tX11_span_0 23 rfl) rfl ?_
      refine T_iconst 1 (am_dec tX11_span_0 24 rfl) rfl ⟨by decide, by decide⟩ ?_
      refine T_callV (as := [aI 1]) rfl (am_dec tX11_span_0 25 rfl) lkX11_288 (show (hfW w hb sp rb rs hb po ro ((u33).1) hh ss uu vv pp kk rr ((u33).2) gg aa dd bd ga im)[0]? = some (cO 10 [aR hb, aR sp, aR rb, aR rs, aR 52, aR 53, aR 51, aI ((u33).1 0 7), aI ((u33).1 0 8), aR 54, aR 64, aR 74, aR 77, aR 83, aR 84, aR 86, aR 88, aI ((u33).1 0 17), aR 107, aR 108]) from (hfW_c hl 0 (by decide))) rfl rfl (Nat.le_of_ble_eq_true rfl) (by omega) (mc_tallied (d := d - 1) hl hp hr 1   (by omega)) (fun _ => ?_)
      refine T_goto 55 (am_dec tX11_span_0 26 rfl) rfl ?_
      refine T_weak (ls' := [none, none, none, none, none, none]) (am_sub_n (am_sub_n (am_sub_n (am_sub_n (am_sub_n (am_sub_n am_sub_nil)))))) ?_
      exact K38 _ (if_pos h38).symm 
  exact key _ ⟨rfl, rfl⟩
def g_c_enough_44 (ee : am_F) (i : Int) (sds : Int) : Int := am_w32 (sds + ((ee 3) i.toNat))
theorem L_c_enough_44 {S : am_S} {d u : Nat} {Q : AO → AH → Prop} {w : AH} {hb sp rb rs : Nat} {po ro : AV} (hl : 109 ≤ w.length) (hp : hb = 1 ∧ sp = 21 ∨ hb = 21 ∧ sp = 1) (hr : rb = 41 ∧ rs = 46 ∨ rb = 46 ∧ rs = 41) (ee : am_F) (hh : am_F) (ss : am_F) (uu : am_F) (vv : am_F) (pp : am_F) (kk : am_F) (rr : am_F) (tt : am_F) (gg : am_F) (aa : am_F) (dd : am_F) (bd : am_F) (ga : am_F) (im : am_F) (yd : Int)  (hyd : 0 ≤ yd ∧ yd ≤ 99) (hd : 8 ≤ d) (B9 : Int) (hB : B9 = yd + 1) : ∀ (n : Nat) (i : Int) (sds : Int), i + n = B9 → 0 ≤ i → (∀ (sds' : Int), sds' = am_fold (g_c_enough_44 ee) i n sds → am_T S zX11_enough d u Q 75 [none, none, none, none, none, none, some (aI sds'), none] [] (hfW w hb sp rb rs hb po ro ee hh ss uu vv pp kk rr tt gg aa dd bd ga im)) → am_T S zX11_enough d u Q 44 [some (aR 0), none, some (aI yd), none, none, none, some (aI sds), some (aI i)] [] (hfW w hb sp rb rs hb po ro ee hh ss uu vv pp kk rr tt gg aa dd bd ga im) := by
  intro n
  induction n with
  | zero =>
    intro i sds hi9 h0i k9
    have e9 : i = B9 := by omega
    subst e9
    skip
    refine T_iload (am_dec tX11_enough_0 25 rfl) rfl ?_
    refine T_iload_n (am_dec tX11_enough_0 26 rfl) rfl ?_
    refine T_icmp_gt 75 (am_dec tX11_enough_0 27 rfl) rfl (fun h47 => ?_) (fun h47 => by exfalso; omega)
    refine T_weak (ls' := [none, none, none, none, none, none, some (aI sds), none]) (am_sub_n (am_sub_n (am_sub_n (am_sub_n (am_sub_n (am_sub_n (am_sub_s (am_sub_n am_sub_nil)))))))) ?_
    exact k9 sds rfl
  | succ n ih =>
    intro i sds hi9 h0i k9
    skip
    refine T_iload (am_dec tX11_enough_0 25 rfl) rfl ?_
    refine T_iload_n (am_dec tX11_enough_0 26 rfl) rfl ?_
    refine T_icmp_gt 75 (am_dec tX11_enough_0 27 rfl) rfl (fun h47 => by exfalso; omega) (fun h47 => ?_)
    refine T_iload (am_dec tX11_enough_0 28 rfl) rfl ?_
    refine T_bipush 99 (am_dec tX11_enough_0 29 rfl) rfl ⟨by decide, by decide⟩ ?_
    refine T_icmp_gt 75 (am_dec tX11_enough_0 30 rfl) rfl (fun h54 => by exfalso; omega) (fun h54 => ?_)
    refine T_iload (am_dec tX11_enough_0 31 rfl) rfl ?_
    refine T_aload_n (am_dec tX11_enough_0 32 rfl) rfl ?_
    refine T_getfield 10 19 (am_dec tX11_enough_0 33 rfl) flX11_108_10 (show (hfW w hb sp rb rs hb po ro ee hh ss uu vv pp kk rr tt gg aa dd bd ga im)[0]? = some (cO 10 [aR hb, aR sp, aR rb, aR rs, aR 52, aR 53, aR 51, aI (ee 0 7), aI (ee 0 8), aR 54, aR 64, aR 74, aR 77, aR 83, aR 84, aR 86, aR 88, aI (ee 0 17), aR 107, aR 108]) from (hfW_c hl 0 (by decide))) rfl ?_
    refine T_iload (am_dec tX11_enough_0 34 rfl) rfl ?_
    refine T_ialoadE (x := (ee 3) i.toNat) (am_dec tX11_enough_0 35 rfl) (show (hfW w hb sp rb rs hb po ro ee hh ss uu vv pp kk rr tt gg aa dd bd ga im)[108]? = some (cP 0 100 (ee 3)) from (hfW_c hl 108 (by decide))) (by omega) (by omega) rfl ?_
    refine T_iaddW (am_w32 (sds + ((ee 3) i.toNat))) (am_dec tX11_enough_0 36 rfl) (am_w32e _).symm (am_w32r _) ?_
    refine T_nm (fun sds_67 hsds_67 => ?_)
    refine T_istore (ls' := [some (aR 0), none, some (aI yd), none, none, none, some (aI sds_67), some (aI i)]) (am_dec tX11_enough_0 37 rfl) (by decide) rfl ?_
    refine T_iinc (ls' := [some (aR 0), none, some (aI yd), none, none, none, some (aI sds_67), some (aI (i + 1))]) (i + 1) (am_dec tX11_enough_0 38 rfl) rfl rfl ⟨by omega, by omega⟩ (by decide) rfl ?_
    refine T_goto 44 (am_dec tX11_enough_0 39 rfl) rfl ?_
    have e9 : (g_c_enough_44 ee) i sds = sds_67 := (by have s9 := hsds_67.symm; subst s9; exact rfl)
    simp only [am_fold_s, e9] at k9
    exact ih (i + 1) sds_67 (by omega) (by omega) k9
def c_enough (hb : Nat) (ee : am_F) (hh : am_F) (tt : am_F) (k : Int) (yd : Int) (sd : Int) (qq : Int) (mn : Int) : Int × Int × am_F × am_F := (if n_row (hh 0 8) k = 0 then (if n_range yd 0 99 = 0 then (if n_seeds qq mn = 0 then (let u35 : am_F × am_F := c_tallySeeds hb ee hh tt k sd qq mn; (let sds_44 : Int := am_fold (g_c_enough_44 ((u35).1)) 0 (yd + 1).toNat 0; (0, sds_44, (u35).1, (u35).2))) else ((n_seeds qq mn), 0, n_ref ee (n_seeds qq mn), tt)) else ((n_range yd 0 99), 0, n_ref ee (n_range yd 0 99), tt)) else ((n_row (hh 0 8) k), 0, n_ref ee (n_row (hh 0 8) k), tt))
theorem mc_enough {S : am_S} {d u : Nat} {w : AH} {hb sp rb rs : Nat} {po ro : AV} (hl : 109 ≤ w.length) (hp : hb = 1 ∧ sp = 21 ∨ hb = 21 ∧ sp = 1) (hr : rb = 41 ∧ rs = 46 ∨ rb = 46 ∧ rs = 41) {ee : am_F} {hh : am_F} {ss : am_F} {uu : am_F} {vv : am_F} {pp : am_F} {kk : am_F} {rr : am_F} {tt : am_F} {gg : am_F} {aa : am_F} {dd : am_F} {bd : am_F} {ga : am_F} {im : am_F} (k : Int) (yd : Int) (sd : Int) (qq : Int) (mn : Int) (hI : HbI hh) (hTI : RnI tt) (hu : 1 ≤ u) (hd : 8 ≤ d) : am_Out S zX11_enough d u [aR 0, aI k, aI yd, aI sd, aI qq, aI mn] (hfW w hb sp rb rs hb po ro ee hh ss uu vv pp kk rr tt gg aa dd bd ga im) (am_oc ((c_enough hb ee hh tt k yd sd qq mn).1) ((c_enough hb ee hh tt k yd sd qq mn).2.1)) (hfW w hb sp rb rs hb po ro ((c_enough hb ee hh tt k yd sd qq mn).2.2.1) hh ss uu vv pp kk rr ((c_enough hb ee hh tt k yd sd qq mn).2.2.2) gg aa dd bd ga im) := by
  have key : ∀ Q : AO → AH → Prop, Q (am_oc ((c_enough hb ee hh tt k yd sd qq mn).1) ((c_enough hb ee hh tt k yd sd qq mn).2.1)) (hfW w hb sp rb rs hb po ro ((c_enough hb ee hh tt k yd sd qq mn).2.2.1) hh ss uu vv pp kk rr ((c_enough hb ee hh tt k yd sd qq mn).2.2.2) gg aa dd bd ga im) → am_M S zX11_enough d u [aR 0, aI k, aI yd, aI sd, aI qq, aI mn] (hfW w hb sp rb rs hb po ro ee hh ss uu vv pp kk rr tt gg aa dd bd ga im) Q := by
    intro Q hQ
    refine am_body rfl (by decide +kernel) rfl (am_cats_cons rfl ( am_cats_cons rfl ( am_cats_cons rfl ( am_cats_cons rfl ( am_cats_cons rfl ( am_cats_cons rfl (am_cats_nil))))))) (Nat.le_of_ble_eq_true rfl) (?_ : am_T _ _ _ _ _ 0 [some (aR 0), some (aI k), some (aI yd), some (aI sd), some (aI qq), some (aI mn), none, none] [] (hfW w hb sp rb rs hb po ro ee hh ss uu vv pp kk rr tt gg aa dd bd ga im))
    obtain ⟨vh1, vh2, vh3, vh4, vh5, vh6, vh7, vh8, vh9, vh10, vh11, vh12, vh13, vh14, vh15, vh16, vh17, vh18, vh19, vh20, vh21, vh22⟩ := (HbI_A hI).1
    refine T_aload_n (am_dec tX11_enough_0 0 rfl) rfl ?_
    refine T_aload_n (am_dec tX11_enough_0 1 rfl) rfl ?_
    refine T_getfield 10 0 (am_dec tX11_enough_0 2 rfl) flX11_10_10 (show (hfW w hb sp rb rs hb po ro ee hh ss uu vv pp kk rr tt gg aa dd bd ga im)[0]? = some (cO 10 [aR hb, aR sp, aR rb, aR rs, aR 52, aR 53, aR 51, aI (ee 0 7), aI (ee 0 8), aR 54, aR 64, aR 74, aR 77, aR 83, aR 84, aR 86, aR 88, aI (ee 0 17), aR 107, aR 108]) from (hfW_c hl 0 (by decide))) rfl ?_
    refine T_getfield 3 8 (am_dec tX11_enough_0 3 rfl) flX11_161_3 (show (hfW w hb sp rb rs hb po ro ee hh ss uu vv pp kk rr tt gg aa dd bd ga im)[hb]? = some (cO 3 [aI (hh 0 0), aI (hh 0 1), aI (hh 0 2), aR (hb + 1), aR (hb + 3), aR (hb + 5), aR (hb + 7), aR (hb + 9), aR (hb + 11), aR (hb + 13), aR (hb + 15), aR (hb + 17), aR (hb + 18), aR (hb + 19)]) from ((hf_H hl hp) 0 (by decide))) rfl ?_
    refine T_iload_n (am_dec tX11_enough_0 4 rfl) rfl ?_
    refine T_callVo (as := [aR (hb + 11), aI k]) (code := n_row (hh 0 8) k) rfl (am_dec tX11_enough_0 5 rfl) lkX11_190 (show (hfW w hb sp rb rs hb po ro ee hh ss uu vv pp kk rr tt gg aa dd bd ga im)[0]? = some (cO 10 [aR hb, aR sp, aR rb, aR rs, aR 52, aR 53, aR 51, aI (ee 0 7), aI (ee 0 8), aR 54, aR 64, aR 74, aR 77, aR 83, aR 84, aR 86, aR 88, aI (ee 0 17), aR 107, aR 108]) from (hfW_c hl 0 (by decide))) rfl rfl (Nat.le_of_ble_eq_true rfl) (by omega) (by omega) (fun hN9 => (mx_row0 (d := d - 1) hl hp hr k (show (hfW w hb sp rb rs hb po ro ee hh ss uu vv pp kk rr tt gg aa dd bd ga im)[hb + 11]? = some (cO 9 [aI 4, aR (hb + 12), aI (hh 0 8)]) from ((hf_H hl hp) 11 (by decide))) (show (hfW w hb sp rb rs hb po ro ee hh ss uu vv pp kk rr tt gg aa dd bd ga im)[hb + 12]? = some (cP 0 48 (hh 6)) from ((hf_H hl hp) 12 (by decide))) (by omega) hN9 (by omega))) (fun hN9 => (x_rowX (d := d - 1) hl hp hr k (show (hfW w hb sp rb rs hb po ro ee hh ss uu vv pp kk rr tt gg aa dd bd ga im)[hb + 11]? = some (cO 9 [aI 4, aR (hb + 12), aI (hh 0 8)]) from ((hf_H hl hp) 11 (by decide))) (show (hfW w hb sp rb rs hb po ro ee hh ss uu vv pp kk rr tt gg aa dd bd ga im)[hb + 12]? = some (cP 0 48 (hh 6)) from ((hf_H hl hp) 12 (by decide))) (by omega) hN9 (by omega) (by omega))) (fun hN9 => ?_) (fun hN9 => ?_)
    · exact (am_tr (fun (x9 : Int × Int × am_F × am_F) => Q (am_oc (x9.1) (x9.2.1)) (hfW w hb sp rb rs hb po ro x9.2.2.1 hh ss uu vv pp kk rr x9.2.2.2 gg aa dd bd ga im)) (y := ((n_row (hh 0 8) k), 0, n_ref ee (n_row (hh 0 8) k), tt)) (show (c_enough hb ee hh tt k yd sd qq mn) = ((n_row (hh 0 8) k), 0, n_ref ee (n_row (hh 0 8) k), tt) from (if_neg hN9)) hQ)
    have hk9 := n_row_0 hN9
    refine T_aload_n (am_dec tX11_enough_0 6 rfl) rfl ?_
    refine T_iload_n (am_dec tX11_enough_0 7 rfl) rfl ?_
    refine T_iconst 0 (am_dec tX11_enough_0 8 rfl) rfl ⟨by decide, by decide⟩ ?_
    refine T_bipush 99 (am_dec tX11_enough_0 9 rfl) rfl ⟨by decide, by decide⟩ ?_
    refine T_callVo (as := [aI yd, aI 0, aI 99]) (code := n_range yd 0 99) rfl (am_dec tX11_enough_0 10 rfl) lkX11_117 (show (hfW w hb sp rb rs hb po ro ee hh ss uu vv pp kk rr tt gg aa dd bd ga im)[0]? = some (cO 10 [aR hb, aR sp, aR rb, aR rs, aR 52, aR 53, aR 51, aI (ee 0 7), aI (ee 0 8), aR 54, aR 64, aR 74, aR 77, aR 83, aR 84, aR 86, aR 88, aI (ee 0 17), aR 107, aR 108]) from (hfW_c hl 0 (by decide))) rfl rfl (Nat.le_of_ble_eq_true rfl) (by omega) (by omega) (fun hN17 => (mx_range0 (d := d - 1) hl hp hr yd 0 99  hN17 (by omega))) (fun hN17 => (x_rangeX (d := d - 1) hl hp hr yd 0 99  hN17 (by omega) (by omega))) (fun hN17 => ?_) (fun hN17 => ?_)
    · exact (am_tr (fun (x9 : Int × Int × am_F × am_F) => Q (am_oc (x9.1) (x9.2.1)) (hfW w hb sp rb rs hb po ro x9.2.2.1 hh ss uu vv pp kk rr x9.2.2.2 gg aa dd bd ga im)) (y := ((n_range yd 0 99), 0, n_ref ee (n_range yd 0 99), tt)) (show (c_enough hb ee hh tt k yd sd qq mn) = ((n_range yd 0 99), 0, n_ref ee (n_range yd 0 99), tt) from ((if_pos hN9).trans (if_neg hN17))) hQ)
    have hk17 := n_range_0 hN17
    refine T_aload_n (am_dec tX11_enough_0 11 rfl) rfl ?_
    refine T_iload (am_dec tX11_enough_0 12 rfl) rfl ?_
    refine T_iload (am_dec tX11_enough_0 13 rfl) rfl ?_
    refine T_callVo (as := [aI qq, aI mn]) (code := n_seeds qq mn) rfl (am_dec tX11_enough_0 14 rfl) lkX11_281 (show (hfW w hb sp rb rs hb po ro ee hh ss uu vv pp kk rr tt gg aa dd bd ga im)[0]? = some (cO 10 [aR hb, aR sp, aR rb, aR rs, aR 52, aR 53, aR 51, aI (ee 0 7), aI (ee 0 8), aR 54, aR 64, aR 74, aR 77, aR 83, aR 84, aR 86, aR 88, aI (ee 0 17), aR 107, aR 108]) from (hfW_c hl 0 (by decide))) rfl rfl (Nat.le_of_ble_eq_true rfl) (by omega) (by omega) (fun hN25 => (mx_seeds0 (d := d - 1) hl hp hr qq mn  hN25 (by omega))) (fun hN25 => (x_seedsX (d := d - 1) hl hp hr qq mn  hN25 (by omega) (by omega))) (fun hN25 => ?_) (fun hN25 => ?_)
    · exact (am_tr (fun (x9 : Int × Int × am_F × am_F) => Q (am_oc (x9.1) (x9.2.1)) (hfW w hb sp rb rs hb po ro x9.2.2.1 hh ss uu vv pp kk rr x9.2.2.2 gg aa dd bd ga im)) (y := ((n_seeds qq mn), 0, n_ref ee (n_seeds qq mn), tt)) (show (c_enough hb ee hh tt k yd sd qq mn) = ((n_seeds qq mn), 0, n_ref ee (n_seeds qq mn), tt) from ((if_pos hN9).trans ((if_pos hN17).trans (if_neg hN25)))) hQ)
    have hk25 := n_seeds_0 hN25
    refine T_aload_n (am_dec tX11_enough_0 15 rfl) rfl ?_
    refine T_iload_n (am_dec tX11_enough_0 16 rfl) rfl ?_
    refine T_iload_n (am_dec tX11_enough_0 17 rfl) rfl ?_
    refine T_iload (am_dec tX11_enough_0 18 rfl) rfl ?_
    refine T_iload (am_dec tX11_enough_0 19 rfl) rfl ?_
    refine T_callV (as := [aI k, aI sd, aI qq, aI mn]) rfl (am_dec tX11_enough_0 20 rfl) lkX11_284 (show (hfW w hb sp rb rs hb po ro ee hh ss uu vv pp kk rr tt gg aa dd bd ga im)[0]? = some (cO 10 [aR hb, aR sp, aR rb, aR rs, aR 52, aR 53, aR 51, aI (ee 0 7), aI (ee 0 8), aR 54, aR 64, aR 74, aR 77, aR 83, aR 84, aR 86, aR 88, aI (ee 0 17), aR 107, aR 108]) from (hfW_c hl 0 (by decide))) rfl rfl (Nat.le_of_ble_eq_true rfl) (by omega) (mc_tallySeeds (d := d - 1) hl hp hr k sd qq mn  hI hTI (by omega) (by omega) (by omega)) (fun _ => ?_)
    obtain ⟨u35, hu35⟩ : ∃ x9, x9 = c_tallySeeds hb ee hh tt k sd qq mn := ⟨_, rfl⟩
    rw [← hu35]
    have hIu35 : RnI u35.2 := by rw [hu35]; exact c_tallySeeds_I hI hTI _ _ _ _
    refine T_iconst 0 (am_dec tX11_enough_0 21 rfl) rfl ⟨by decide, by decide⟩ ?_
    refine T_istore (ls' := [some (aR 0), some (aI k), some (aI yd), some (aI sd), some (aI qq), some (aI mn), some (aI 0), none]) (am_dec tX11_enough_0 22 rfl) (by decide) rfl ?_
    refine T_iconst 0 (am_dec tX11_enough_0 23 rfl) rfl ⟨by decide, by decide⟩ ?_
    refine T_istore (ls' := [some (aR 0), some (aI k), some (aI yd), some (aI sd), some (aI qq), some (aI mn), some (aI 0), some (aI 0)]) (am_dec tX11_enough_0 24 rfl) (by decide) rfl ?_
    refine T_weak (ls' := [some (aR 0), none, some (aI yd), none, none, none, some (aI 0), some (aI 0)]) (am_sub_s (am_sub_n (am_sub_s (am_sub_n (am_sub_n (am_sub_n (am_sub_s (am_sub_s am_sub_nil)))))))) ?_
    refine L_c_enough_44 hl hp hr ((u35).1) hh ss uu vv pp kk rr ((u35).2) gg aa dd bd ga im yd  (by omega) (by omega) _ rfl (yd + 1).toNat 0 0 (by omega) (by omega) (fun sds_44 hsds_44 => ?_)
    refine T_iload (am_dec tX11_enough_1 0 rfl) rfl ?_
    exact T_ireturn (am_dec tX11_enough_1 1 rfl) rfl (am_tr (fun (x9 : Int × Int × am_F × am_F) => Q (am_oc (x9.1) (x9.2.1)) (hfW w hb sp rb rs hb po ro x9.2.2.1 hh ss uu vv pp kk rr x9.2.2.2 gg aa dd bd ga im)) (y := (0, sds_44, (u35).1, (u35).2)) (show (c_enough hb ee hh tt k yd sd qq mn) = (0, sds_44, (u35).1, (u35).2) from (by have s9 := hu35.symm; subst s9; have s9 := hsds_44.symm; subst s9; exact ((if_pos hN9).trans ((if_pos hN17).trans (if_pos hN25))))) hQ)
  exact key _ ⟨rfl, rfl⟩
def c_sure (hb : Nat) (ee : am_F) (hh : am_F) (tt : am_F) (k : Int) (kk9 : Int) (sd : Int) (qq : Int) (mn : Int) : Int × Int × am_F × am_F := (if n_row (hh 0 8) k = 0 then (if n_seeds qq mn = 0 then (if n_range kk9 1 mn = 0 then (let u35 : am_F × am_F := c_tallySeeds hb ee hh tt k sd qq mn; (0, (c_tallied ((u35).1) kk9), (u35).1, (u35).2)) else ((n_range kk9 1 mn), 0, n_ref ee (n_range kk9 1 mn), tt)) else ((n_seeds qq mn), 0, n_ref ee (n_seeds qq mn), tt)) else ((n_row (hh 0 8) k), 0, n_ref ee (n_row (hh 0 8) k), tt))
theorem mc_sure {S : am_S} {d u : Nat} {w : AH} {hb sp rb rs : Nat} {po ro : AV} (hl : 109 ≤ w.length) (hp : hb = 1 ∧ sp = 21 ∨ hb = 21 ∧ sp = 1) (hr : rb = 41 ∧ rs = 46 ∨ rb = 46 ∧ rs = 41) {ee : am_F} {hh : am_F} {ss : am_F} {uu : am_F} {vv : am_F} {pp : am_F} {kk : am_F} {rr : am_F} {tt : am_F} {gg : am_F} {aa : am_F} {dd : am_F} {bd : am_F} {ga : am_F} {im : am_F} (k : Int) (kk9 : Int) (sd : Int) (qq : Int) (mn : Int) (hI : HbI hh) (hTI : RnI tt) (hu : 1 ≤ u) (hd : 8 ≤ d) : am_Out S zX11_sure d u [aR 0, aI k, aI kk9, aI sd, aI qq, aI mn] (hfW w hb sp rb rs hb po ro ee hh ss uu vv pp kk rr tt gg aa dd bd ga im) (am_oc ((c_sure hb ee hh tt k kk9 sd qq mn).1) ((c_sure hb ee hh tt k kk9 sd qq mn).2.1)) (hfW w hb sp rb rs hb po ro ((c_sure hb ee hh tt k kk9 sd qq mn).2.2.1) hh ss uu vv pp kk rr ((c_sure hb ee hh tt k kk9 sd qq mn).2.2.2) gg aa dd bd ga im) := by
  have key : ∀ Q : AO → AH → Prop, Q (am_oc ((c_sure hb ee hh tt k kk9 sd qq mn).1) ((c_sure hb ee hh tt k kk9 sd qq mn).2.1)) (hfW w hb sp rb rs hb po ro ((c_sure hb ee hh tt k kk9 sd qq mn).2.2.1) hh ss uu vv pp kk rr ((c_sure hb ee hh tt k kk9 sd qq mn).2.2.2) gg aa dd bd ga im) → am_M S zX11_sure d u [aR 0, aI k, aI kk9, aI sd, aI qq, aI mn] (hfW w hb sp rb rs hb po ro ee hh ss uu vv pp kk rr tt gg aa dd bd ga im) Q := by
    intro Q hQ
    refine am_body rfl (by decide +kernel) rfl (am_cats_cons rfl ( am_cats_cons rfl ( am_cats_cons rfl ( am_cats_cons rfl ( am_cats_cons rfl ( am_cats_cons rfl (am_cats_nil))))))) (Nat.le_of_ble_eq_true rfl) (?_ : am_T _ _ _ _ _ 0 [some (aR 0), some (aI k), some (aI kk9), some (aI sd), some (aI qq), some (aI mn)] [] (hfW w hb sp rb rs hb po ro ee hh ss uu vv pp kk rr tt gg aa dd bd ga im))
    obtain ⟨vh1, vh2, vh3, vh4, vh5, vh6, vh7, vh8, vh9, vh10, vh11, vh12, vh13, vh14, vh15, vh16, vh17, vh18, vh19, vh20, vh21, vh22⟩ := (HbI_A hI).1
    refine T_aload_n (am_dec tX11_sure_0 0 rfl) rfl ?_
    refine T_aload_n (am_dec tX11_sure_0 1 rfl) rfl ?_
    refine T_getfield 10 0 (am_dec tX11_sure_0 2 rfl) flX11_10_10 (show (hfW w hb sp rb rs hb po ro ee hh ss uu vv pp kk rr tt gg aa dd bd ga im)[0]? = some (cO 10 [aR hb, aR sp, aR rb, aR rs, aR 52, aR 53, aR 51, aI (ee 0 7), aI (ee 0 8), aR 54, aR 64, aR 74, aR 77, aR 83, aR 84, aR 86, aR 88, aI (ee 0 17), aR 107, aR 108]) from (hfW_c hl 0 (by decide))) rfl ?_
    refine T_getfield 3 8 (am_dec tX11_sure_0 3 rfl) flX11_161_3 (show (hfW w hb sp rb rs hb po ro ee hh ss uu vv pp kk rr tt gg aa dd bd ga im)[hb]? = some (cO 3 [aI (hh 0 0), aI (hh 0 1), aI (hh 0 2), aR (hb + 1), aR (hb + 3), aR (hb + 5), aR (hb + 7), aR (hb + 9), aR (hb + 11), aR (hb + 13), aR (hb + 15), aR (hb + 17), aR (hb + 18), aR (hb + 19)]) from ((hf_H hl hp) 0 (by decide))) rfl ?_
    refine T_iload_n (am_dec tX11_sure_0 4 rfl) rfl ?_
    refine T_callVo (as := [aR (hb + 11), aI k]) (code := n_row (hh 0 8) k) rfl (am_dec tX11_sure_0 5 rfl) lkX11_190 (show (hfW w hb sp rb rs hb po ro ee hh ss uu vv pp kk rr tt gg aa dd bd ga im)[0]? = some (cO 10 [aR hb, aR sp, aR rb, aR rs, aR 52, aR 53, aR 51, aI (ee 0 7), aI (ee 0 8), aR 54, aR 64, aR 74, aR 77, aR 83, aR 84, aR 86, aR 88, aI (ee 0 17), aR 107, aR 108]) from (hfW_c hl 0 (by decide))) rfl rfl (Nat.le_of_ble_eq_true rfl) (by omega) (by omega) (fun hN9 => (mx_row0 (d := d - 1) hl hp hr k (show (hfW w hb sp rb rs hb po ro ee hh ss uu vv pp kk rr tt gg aa dd bd ga im)[hb + 11]? = some (cO 9 [aI 4, aR (hb + 12), aI (hh 0 8)]) from ((hf_H hl hp) 11 (by decide))) (show (hfW w hb sp rb rs hb po ro ee hh ss uu vv pp kk rr tt gg aa dd bd ga im)[hb + 12]? = some (cP 0 48 (hh 6)) from ((hf_H hl hp) 12 (by decide))) (by omega) hN9 (by omega))) (fun hN9 => (x_rowX (d := d - 1) hl hp hr k (show (hfW w hb sp rb rs hb po ro ee hh ss uu vv pp kk rr tt gg aa dd bd ga im)[hb + 11]? = some (cO 9 [aI 4, aR (hb + 12), aI (hh 0 8)]) from ((hf_H hl hp) 11 (by decide))) (show (hfW w hb sp rb rs hb po ro ee hh ss uu vv pp kk rr tt gg aa dd bd ga im)[hb + 12]? = some (cP 0 48 (hh 6)) from ((hf_H hl hp) 12 (by decide))) (by omega) hN9 (by omega) (by omega))) (fun hN9 => ?_) (fun hN9 => ?_)
    · exact (am_tr (fun (x9 : Int × Int × am_F × am_F) => Q (am_oc (x9.1) (x9.2.1)) (hfW w hb sp rb rs hb po ro x9.2.2.1 hh ss uu vv pp kk rr x9.2.2.2 gg aa dd bd ga im)) (y := ((n_row (hh 0 8) k), 0, n_ref ee (n_row (hh 0 8) k), tt)) (show (c_sure hb ee hh tt k kk9 sd qq mn) = ((n_row (hh 0 8) k), 0, n_ref ee (n_row (hh 0 8) k), tt) from (if_neg hN9)) hQ)
    have hk9 := n_row_0 hN9
    refine T_aload_n (am_dec tX11_sure_0 6 rfl) rfl ?_
    refine T_iload (am_dec tX11_sure_0 7 rfl) rfl ?_
    refine T_iload (am_dec tX11_sure_0 8 rfl) rfl ?_
    refine T_callVo (as := [aI qq, aI mn]) (code := n_seeds qq mn) rfl (am_dec tX11_sure_0 9 rfl) lkX11_281 (show (hfW w hb sp rb rs hb po ro ee hh ss uu vv pp kk rr tt gg aa dd bd ga im)[0]? = some (cO 10 [aR hb, aR sp, aR rb, aR rs, aR 52, aR 53, aR 51, aI (ee 0 7), aI (ee 0 8), aR 54, aR 64, aR 74, aR 77, aR 83, aR 84, aR 86, aR 88, aI (ee 0 17), aR 107, aR 108]) from (hfW_c hl 0 (by decide))) rfl rfl (Nat.le_of_ble_eq_true rfl) (by omega) (by omega) (fun hN17 => (mx_seeds0 (d := d - 1) hl hp hr qq mn  hN17 (by omega))) (fun hN17 => (x_seedsX (d := d - 1) hl hp hr qq mn  hN17 (by omega) (by omega))) (fun hN17 => ?_) (fun hN17 => ?_)
    · exact (am_tr (fun (x9 : Int × Int × am_F × am_F) => Q (am_oc (x9.1) (x9.2.1)) (hfW w hb sp rb rs hb po ro x9.2.2.1 hh ss uu vv pp kk rr x9.2.2.2 gg aa dd bd ga im)) (y := ((n_seeds qq mn), 0, n_ref ee (n_seeds qq mn), tt)) (show (c_sure hb ee hh tt k kk9 sd qq mn) = ((n_seeds qq mn), 0, n_ref ee (n_seeds qq mn), tt) from ((if_pos hN9).trans (if_neg hN17))) hQ)
    have hk17 := n_seeds_0 hN17
    refine T_aload_n (am_dec tX11_sure_0 10 rfl) rfl ?_
    refine T_iload_n (am_dec tX11_sure_0 11 rfl) rfl ?_
    refine T_iconst 1 (am_dec tX11_sure_0 12 rfl) rfl ⟨by decide, by decide⟩ ?_
    refine T_iload (am_dec tX11_sure_0 13 rfl) rfl ?_
    refine T_callVo (as := [aI kk9, aI 1, aI mn]) (code := n_range kk9 1 mn) rfl (am_dec tX11_sure_0 14 rfl) lkX11_117 (show (hfW w hb sp rb rs hb po ro ee hh ss uu vv pp kk rr tt gg aa dd bd ga im)[0]? = some (cO 10 [aR hb, aR sp, aR rb, aR rs, aR 52, aR 53, aR 51, aI (ee 0 7), aI (ee 0 8), aR 54, aR 64, aR 74, aR 77, aR 83, aR 84, aR 86, aR 88, aI (ee 0 17), aR 107, aR 108]) from (hfW_c hl 0 (by decide))) rfl rfl (Nat.le_of_ble_eq_true rfl) (by omega) (by omega) (fun hN25 => (mx_range0 (d := d - 1) hl hp hr kk9 1 mn  hN25 (by omega))) (fun hN25 => (x_rangeX (d := d - 1) hl hp hr kk9 1 mn  hN25 (by omega) (by omega))) (fun hN25 => ?_) (fun hN25 => ?_)
    · exact (am_tr (fun (x9 : Int × Int × am_F × am_F) => Q (am_oc (x9.1) (x9.2.1)) (hfW w hb sp rb rs hb po ro x9.2.2.1 hh ss uu vv pp kk rr x9.2.2.2 gg aa dd bd ga im)) (y := ((n_range kk9 1 mn), 0, n_ref ee (n_range kk9 1 mn), tt)) (show (c_sure hb ee hh tt k kk9 sd qq mn) = ((n_range kk9 1 mn), 0, n_ref ee (n_range kk9 1 mn), tt) from ((if_pos hN9).trans ((if_pos hN17).trans (if_neg hN25)))) hQ)
    have hk25 := n_range_0 hN25
    refine T_aload_n (am_dec tX11_sure_0 15 rfl) rfl ?_
    refine T_iload_n (am_dec tX11_sure_0 16 rfl) rfl ?_
    refine T_iload_n (am_dec tX11_sure_0 17 rfl) rfl ?_
    refine T_iload (am_dec tX11_sure_0 18 rfl) rfl ?_
    refine T_iload (am_dec tX11_sure_0 19 rfl) rfl ?_
    refine T_callV (as := [aI k, aI sd, aI qq, aI mn]) rfl (am_dec tX11_sure_0 20 rfl) lkX11_284 (show (hfW w hb sp rb rs hb po ro ee hh ss uu vv pp kk rr tt gg aa dd bd ga im)[0]? = some (cO 10 [aR hb, aR sp, aR rb, aR rs, aR 52, aR 53, aR 51, aI (ee 0 7), aI (ee 0 8), aR 54, aR 64, aR 74, aR 77, aR 83, aR 84, aR 86, aR 88, aI (ee 0 17), aR 107, aR 108]) from (hfW_c hl 0 (by decide))) rfl rfl (Nat.le_of_ble_eq_true rfl) (by omega) (mc_tallySeeds (d := d - 1) hl hp hr k sd qq mn  hI hTI (by omega) (by omega) (by omega)) (fun _ => ?_)
    obtain ⟨u35, hu35⟩ : ∃ x9, x9 = c_tallySeeds hb ee hh tt k sd qq mn := ⟨_, rfl⟩
    rw [← hu35]
    have hIu35 : RnI u35.2 := by rw [hu35]; exact c_tallySeeds_I hI hTI _ _ _ _
    refine T_aload_n (am_dec tX11_sure_0 21 rfl) rfl ?_
    refine T_iload_n (am_dec tX11_sure_0 22 rfl) rfl ?_
    refine T_callV (as := [aI kk9]) rfl (am_dec tX11_sure_0 23 rfl) lkX11_288 (show (hfW w hb sp rb rs hb po ro ((u35).1) hh ss uu vv pp kk rr ((u35).2) gg aa dd bd ga im)[0]? = some (cO 10 [aR hb, aR sp, aR rb, aR rs, aR 52, aR 53, aR 51, aI ((u35).1 0 7), aI ((u35).1 0 8), aR 54, aR 64, aR 74, aR 77, aR 83, aR 84, aR 86, aR 88, aI ((u35).1 0 17), aR 107, aR 108]) from (hfW_c hl 0 (by decide))) rfl rfl (Nat.le_of_ble_eq_true rfl) (by omega) (mc_tallied (d := d - 1) hl hp hr kk9   (by omega)) (fun _ => ?_)
    exact T_ireturn (am_dec tX11_sure_0 24 rfl) rfl (am_tr (fun (x9 : Int × Int × am_F × am_F) => Q (am_oc (x9.1) (x9.2.1)) (hfW w hb sp rb rs hb po ro x9.2.2.1 hh ss uu vv pp kk rr x9.2.2.2 gg aa dd bd ga im)) (y := (0, (c_tallied ((u35).1) kk9), (u35).1, (u35).2)) (show (c_sure hb ee hh tt k kk9 sd qq mn) = (0, (c_tallied ((u35).1) kk9), (u35).1, (u35).2) from (by have s9 := hu35.symm; subst s9; exact ((if_pos hN9).trans ((if_pos hN17).trans (if_pos hN25))))) hQ)
  exact key _ ⟨rfl, rfl⟩
def c_bits (i : Int) : Int := (let v0_9 : Int := am_w32 (i - (am_iand (am_iushr i 1) 1431655765)); (let v0_23 : Int := am_w32 ((am_iand v0_9 858993459) + (am_iand (am_iushr v0_9 2) 858993459)); (let v0_33 : Int := am_iand (am_w32 (v0_23 + (am_iushr v0_23 4))) 252645135; (let v0_40 : Int := am_w32 (v0_33 + (am_iushr v0_33 8)); (let v0_47 : Int := am_w32 (v0_40 + (am_iushr v0_40 16)); (am_iand v0_47 63))))))
theorem mc_bits {S : am_S} {d u : Nat} {w : AH}  (i : Int)    : am_Out S zJ6_bitCount_0f7a4 d u [aI i] (w) (.inl (some (aI (c_bits i)))) (w) := by
  have key : ∀ Q : AO → AH → Prop, Q (.inl (some (aI (c_bits i)))) (w) → am_M S zJ6_bitCount_0f7a4 d u [aI i] (w) Q := by
    intro Q hQ
    refine am_body rfl (by decide +kernel) rfl (am_cats_cons rfl (am_cats_nil)) (Nat.le_of_ble_eq_true rfl) (?_ : am_T _ _ _ _ _ 0 [some (aI i)] [] (w))
    refine T_iload_n (am_dec tJ6_bitCount_0f7a4_0 0 rfl) rfl ?_
    refine T_iload_n (am_dec tJ6_bitCount_0f7a4_0 1 rfl) rfl ?_
    refine T_iconst 1 (am_dec tJ6_bitCount_0f7a4_0 2 rfl) rfl ⟨by decide, by decide⟩ ?_
    refine T_iushr (am_iushr i 1) (am_dec tJ6_bitCount_0f7a4_0 3 rfl) (am_w32e _).symm (am_w32r _) ?_
    refine T_ldcw 1431655765 (am_dec tJ6_bitCount_0f7a4_0 4 rfl) (am_m3 84 rfl rfl) ⟨by decide, by decide⟩ ?_
    refine T_iand (am_iand (am_iushr i 1) 1431655765) (am_dec tJ6_bitCount_0f7a4_0 5 rfl) (am_w32e _).symm (am_w32r _) ?_
    refine T_isubW (am_w32 (i - (am_iand (am_iushr i 1) 1431655765))) (am_dec tJ6_bitCount_0f7a4_0 6 rfl) (am_w32e _).symm (am_w32r _) ?_
    refine T_nm (fun v0_9 hv0_9 => ?_)
    refine T_istore_n (ls' := [some (aI v0_9)]) (am_dec tJ6_bitCount_0f7a4_0 7 rfl) (by decide) rfl ?_
    refine T_iload_n (am_dec tJ6_bitCount_0f7a4_0 8 rfl) rfl ?_
    refine T_ldcw 858993459 (am_dec tJ6_bitCount_0f7a4_0 9 rfl) (am_m3 85 rfl rfl) ⟨by decide, by decide⟩ ?_
    refine T_iand (am_iand v0_9 858993459) (am_dec tJ6_bitCount_0f7a4_0 10 rfl) (am_w32e _).symm (am_w32r _) ?_
    refine T_iload_n (am_dec tJ6_bitCount_0f7a4_0 11 rfl) rfl ?_
    refine T_iconst 2 (am_dec tJ6_bitCount_0f7a4_0 12 rfl) rfl ⟨by decide, by decide⟩ ?_
    refine T_iushr (am_iushr v0_9 2) (am_dec tJ6_bitCount_0f7a4_0 13 rfl) (am_w32e _).symm (am_w32r _) ?_
    refine T_ldcw 858993459 (am_dec tJ6_bitCount_0f7a4_0 14 rfl) (am_m3 85 rfl rfl) ⟨by decide, by decide⟩ ?_
    refine T_iand (am_iand (am_iushr v0_9 2) 858993459) (am_dec tJ6_bitCount_0f7a4_0 15 rfl) (am_w32e _).symm (am_w32r _) ?_
    refine T_iaddW (am_w32 ((am_iand v0_9 858993459) + (am_iand (am_iushr v0_9 2) 858993459))) (am_dec tJ6_bitCount_0f7a4_0 16 rfl) (am_w32e _).symm (am_w32r _) ?_
    refine T_nm (fun v0_23 hv0_23 => ?_)
    refine T_istore_n (ls' := [some (aI v0_23)]) (am_dec tJ6_bitCount_0f7a4_0 17 rfl) (by decide) rfl ?_
    refine T_iload_n (am_dec tJ6_bitCount_0f7a4_0 18 rfl) rfl ?_
    refine T_iload_n (am_dec tJ6_bitCount_0f7a4_0 19 rfl) rfl ?_
    refine T_iconst 4 (am_dec tJ6_bitCount_0f7a4_0 20 rfl) rfl ⟨by decide, by decide⟩ ?_
    refine T_iushr (am_iushr v0_23 4) (am_dec tJ6_bitCount_0f7a4_0 21 rfl) (am_w32e _).symm (am_w32r _) ?_
    refine T_iaddW (am_w32 (v0_23 + (am_iushr v0_23 4))) (am_dec tJ6_bitCount_0f7a4_0 22 rfl) (am_w32e _).symm (am_w32r _) ?_
    refine T_ldcw 252645135 (am_dec tJ6_bitCount_0f7a4_0 23 rfl) (am_m3 86 rfl rfl) ⟨by decide, by decide⟩ ?_
    refine T_iand (am_iand (am_w32 (v0_23 + (am_iushr v0_23 4))) 252645135) (am_dec tJ6_bitCount_0f7a4_0 24 rfl) (am_w32e _).symm (am_w32r _) ?_
    refine T_nm (fun v0_33 hv0_33 => ?_)
    refine T_istore_n (ls' := [some (aI v0_33)]) (am_dec tJ6_bitCount_0f7a4_0 25 rfl) (by decide) rfl ?_
    refine T_iload_n (am_dec tJ6_bitCount_0f7a4_0 26 rfl) rfl ?_
    refine T_iload_n (am_dec tJ6_bitCount_0f7a4_0 27 rfl) rfl ?_
    refine T_bipush 8 (am_dec tJ6_bitCount_0f7a4_0 28 rfl) rfl ⟨by decide, by decide⟩ ?_
    refine T_iushr (am_iushr v0_33 8) (am_dec tJ6_bitCount_0f7a4_0 29 rfl) (am_w32e _).symm (am_w32r _) ?_
    refine T_iaddW (am_w32 (v0_33 + (am_iushr v0_33 8))) (am_dec tJ6_bitCount_0f7a4_0 30 rfl) (am_w32e _).symm (am_w32r _) ?_
    refine T_nm (fun v0_40 hv0_40 => ?_)
    refine T_istore_n (ls' := [some (aI v0_40)]) (am_dec tJ6_bitCount_0f7a4_0 31 rfl) (by decide) rfl ?_
    refine T_iload_n (am_dec tJ6_bitCount_0f7a4_0 32 rfl) rfl ?_
    refine T_iload_n (am_dec tJ6_bitCount_0f7a4_0 33 rfl) rfl ?_
    refine T_bipush 16 (am_dec tJ6_bitCount_0f7a4_0 34 rfl) rfl ⟨by decide, by decide⟩ ?_
    refine T_iushr (am_iushr v0_40 16) (am_dec tJ6_bitCount_0f7a4_0 35 rfl) (am_w32e _).symm (am_w32r _) ?_
    refine T_iaddW (am_w32 (v0_40 + (am_iushr v0_40 16))) (am_dec tJ6_bitCount_0f7a4_0 36 rfl) (am_w32e _).symm (am_w32r _) ?_
    refine T_nm (fun v0_47 hv0_47 => ?_)
    refine T_istore_n (ls' := [some (aI v0_47)]) (am_dec tJ6_bitCount_0f7a4_0 37 rfl) (by decide) rfl ?_
    refine T_iload_n (am_dec tJ6_bitCount_0f7a4_0 38 rfl) rfl ?_
    refine T_bipush 63 (am_dec tJ6_bitCount_0f7a4_0 39 rfl) rfl ⟨by decide, by decide⟩ ?_
    refine T_iand (am_iand v0_47 63) (am_dec tJ6_bitCount_0f7a4_1 0 rfl) (am_w32e _).symm (am_w32r _) ?_
    exact T_ireturn (am_dec tJ6_bitCount_0f7a4_1 1 rfl) rfl (am_tr (fun (x9 : Int) => Q (.inl (some (aI (x9)))) (w)) (y := (am_iand v0_47 63)) (show (c_bits i) = (am_iand v0_47 63) from (by have s9 := hv0_9.symm; subst s9; have s9 := hv0_23.symm; subst s9; have s9 := hv0_33.symm; subst s9; have s9 := hv0_40.symm; subst s9; have s9 := hv0_47.symm; subst s9; exact rfl)) hQ)
  exact key _ ⟨rfl, rfl⟩
def p_c_guardsAll_2 (hh : am_F) (rr : am_F) (wb : Int) : Int → Option Int := fun k => (let v21 : Int := f_ever rr hh k; (if v21 = 0 then none else (if am_iand v21 wb = 0 then some 0 else none)))
theorem L_c_guardsAll_2 {S : am_S} {d u : Nat} {Q : AO → AH → Prop} {w : AH} {hb sp rb rs : Nat} {po ro : AV} (hl : 109 ≤ w.length) (hp : hb = 1 ∧ sp = 21 ∨ hb = 21 ∧ sp = 1) (hr : rb = 41 ∧ rs = 46 ∨ rb = 46 ∧ rs = 41) (ee : am_F) (hh : am_F) (ss : am_F) (uu : am_F) (vv : am_F) (pp : am_F) (kk : am_F) (rr : am_F) (tt : am_F) (gg : am_F) (aa : am_F) (dd : am_F) (bd : am_F) (ga : am_F) (im : am_F) (wb : Int) (hI : HbI hh) (hRI : RnI rr)  (hd : 7 ≤ d) (B9 : Int) (hB : B9 = hh 0 8) : ∀ (n : Nat) (k : Int), k + n = B9 → 0 ≤ k → (am_find (p_c_guardsAll_2 hh rr wb) k n = none → am_T S zX11_guardsAll d u Q 43 [none, none, none, none] [] (hfW w hb sp rb rs hb po ro ee hh ss uu vv pp kk rr tt gg aa dd bd ga im)) → (∀ r9, am_find (p_c_guardsAll_2 hh rr wb) k n = some r9 → Q (.inl (some (aI r9))) (hfW w hb sp rb rs hb po ro ee hh ss uu vv pp kk rr tt gg aa dd bd ga im)) → am_T S zX11_guardsAll d u Q 2 [some (aR 0), some (aI wb), some (aI k), none] [] (hfW w hb sp rb rs hb po ro ee hh ss uu vv pp kk rr tt gg aa dd bd ga im) := by
  intro n
  induction n with
  | zero =>
    intro k hi9 h0i k9 kr9
    have e9 : k = B9 := by omega
    subst e9
    obtain ⟨vh1, vh2, vh3, vh4, vh5, vh6, vh7, vh8, vh9, vh10, vh11, vh12, vh13, vh14, vh15, vh16, vh17, vh18, vh19, vh20, vh21, vh22⟩ := (HbI_A hI).1
    refine T_iload_n (am_dec tX11_guardsAll_0 2 rfl) rfl ?_
    refine T_aload_n (am_dec tX11_guardsAll_0 3 rfl) rfl ?_
    refine T_getfield 10 0 (am_dec tX11_guardsAll_0 4 rfl) flX11_10_10 (show (hfW w hb sp rb rs hb po ro ee hh ss uu vv pp kk rr tt gg aa dd bd ga im)[0]? = some (cO 10 [aR hb, aR sp, aR rb, aR rs, aR 52, aR 53, aR 51, aI (ee 0 7), aI (ee 0 8), aR 54, aR 64, aR 74, aR 77, aR 83, aR 84, aR 86, aR 88, aI (ee 0 17), aR 107, aR 108]) from (hfW_c hl 0 (by decide))) rfl ?_
    refine T_getfield 3 8 (am_dec tX11_guardsAll_0 5 rfl) flX11_161_3 (show (hfW w hb sp rb rs hb po ro ee hh ss uu vv pp kk rr tt gg aa dd bd ga im)[hb]? = some (cO 3 [aI (hh 0 0), aI (hh 0 1), aI (hh 0 2), aR (hb + 1), aR (hb + 3), aR (hb + 5), aR (hb + 7), aR (hb + 9), aR (hb + 11), aR (hb + 13), aR (hb + 15), aR (hb + 17), aR (hb + 18), aR (hb + 19)]) from ((hf_H hl hp) 0 (by decide))) rfl ?_
    refine T_getfield 9 2 (am_dec tX11_guardsAll_0 6 rfl) flX11_140_9 (show (hfW w hb sp rb rs hb po ro ee hh ss uu vv pp kk rr tt gg aa dd bd ga im)[hb + 11]? = some (cO 9 [aI 4, aR (hb + 12), aI (hh 0 8)]) from ((hf_H hl hp) 11 (by decide))) rfl ?_
    refine T_icmp_ge 43 (am_dec tX11_guardsAll_0 7 rfl) rfl (fun h13 => ?_) (fun h13 => by exfalso; omega)
    refine T_weak (ls' := [none, none, none, none]) (am_sub_n (am_sub_n (am_sub_n (am_sub_n am_sub_nil)))) ?_
    exact k9 rfl
  | succ n ih =>
    intro k hi9 h0i k9 kr9
    obtain ⟨vh1, vh2, vh3, vh4, vh5, vh6, vh7, vh8, vh9, vh10, vh11, vh12, vh13, vh14, vh15, vh16, vh17, vh18, vh19, vh20, vh21, vh22⟩ := (HbI_A hI).1
    refine T_iload_n (am_dec tX11_guardsAll_0 2 rfl) rfl ?_
    refine T_aload_n (am_dec tX11_guardsAll_0 3 rfl) rfl ?_
    refine T_getfield 10 0 (am_dec tX11_guardsAll_0 4 rfl) flX11_10_10 (show (hfW w hb sp rb rs hb po ro ee hh ss uu vv pp kk rr tt gg aa dd bd ga im)[0]? = some (cO 10 [aR hb, aR sp, aR rb, aR rs, aR 52, aR 53, aR 51, aI (ee 0 7), aI (ee 0 8), aR 54, aR 64, aR 74, aR 77, aR 83, aR 84, aR 86, aR 88, aI (ee 0 17), aR 107, aR 108]) from (hfW_c hl 0 (by decide))) rfl ?_
    refine T_getfield 3 8 (am_dec tX11_guardsAll_0 5 rfl) flX11_161_3 (show (hfW w hb sp rb rs hb po ro ee hh ss uu vv pp kk rr tt gg aa dd bd ga im)[hb]? = some (cO 3 [aI (hh 0 0), aI (hh 0 1), aI (hh 0 2), aR (hb + 1), aR (hb + 3), aR (hb + 5), aR (hb + 7), aR (hb + 9), aR (hb + 11), aR (hb + 13), aR (hb + 15), aR (hb + 17), aR (hb + 18), aR (hb + 19)]) from ((hf_H hl hp) 0 (by decide))) rfl ?_
    refine T_getfield 9 2 (am_dec tX11_guardsAll_0 6 rfl) flX11_140_9 (show (hfW w hb sp rb rs hb po ro ee hh ss uu vv pp kk rr tt gg aa dd bd ga im)[hb + 11]? = some (cO 9 [aI 4, aR (hb + 12), aI (hh 0 8)]) from ((hf_H hl hp) 11 (by decide))) rfl ?_
    refine T_icmp_ge 43 (am_dec tX11_guardsAll_0 7 rfl) rfl (fun h13 => by exfalso; omega) (fun h13 => ?_)
    refine T_aload_n (am_dec tX11_guardsAll_0 8 rfl) rfl ?_
    refine T_getfield 10 9 (am_dec tX11_guardsAll_0 9 rfl) flX11_58_10 (show (hfW w hb sp rb rs hb po ro ee hh ss uu vv pp kk rr tt gg aa dd bd ga im)[0]? = some (cO 10 [aR hb, aR sp, aR rb, aR rs, aR 52, aR 53, aR 51, aI (ee 0 7), aI (ee 0 8), aR 54, aR 64, aR 74, aR 77, aR 83, aR 84, aR 86, aR 88, aI (ee 0 17), aR 107, aR 108]) from (hfW_c hl 0 (by decide))) rfl ?_
    refine T_iload_n (am_dec tX11_guardsAll_0 10 rfl) rfl ?_
    refine T_callS (as := [aR 54, aI k]) rfl (am_dec tX11_guardsAll_0 11 rfl) lkX11_247 rfl (Nat.le_of_ble_eq_true rfl) (by omega) (m_ever (d := d - 1) (hf_R hl) (hf_H hl hp) (HbI_A hI).1 hRI.2.1 (HbI_W hI) (HbI_Co hI) (HbI_Wt hI) k (by omega)) (fun _ => ?_)
    refine T_nm (fun v21 hv21 => ?_)
    refine T_istore_n (ls' := [some (aR 0), some (aI wb), some (aI k), some (aI v21)]) (am_dec tX11_guardsAll_0 12 rfl) (by decide) rfl ?_
    refine T_iload_n (am_dec tX11_guardsAll_0 13 rfl) rfl ?_
    refine T_if_eq 37 (am_dec tX11_guardsAll_0 14 rfl) rfl (fun h26 => ?_) (fun h26 => ?_)
    · refine T_iinc (ls' := [some (aR 0), some (aI wb), some (aI (k + 1)), some (aI v21)]) (k + 1) (am_dec tX11_guardsAll_0 21 rfl) rfl rfl ⟨by omega, by omega⟩ (by decide) rfl ?_
      refine T_goto 2 (am_dec tX11_guardsAll_0 22 rfl) rfl ?_
      refine T_weak (ls' := [some (aR 0), some (aI wb), some (aI (k + 1)), none]) (am_sub_s (am_sub_s (am_sub_s (am_sub_n am_sub_nil)))) ?_
      have e9 : (p_c_guardsAll_2 hh rr wb) k = none := (by have s9 := hv21.symm; subst s9; exact (if_pos h26))
      rw [am_find_n e9] at k9 kr9
      exact ih (k + 1) (by omega) (by omega) k9 kr9
    · refine T_iload_n (am_dec tX11_guardsAll_0 15 rfl) rfl ?_
      refine T_iload_n (am_dec tX11_guardsAll_0 16 rfl) rfl ?_
      refine T_iand (am_iand v21 wb) (am_dec tX11_guardsAll_0 17 rfl) (am_w32e _).symm (am_w32r _) ?_
      refine T_if_ne 37 (am_dec tX11_guardsAll_0 18 rfl) rfl (fun h32 => ?_) (fun h32 => ?_)
      · refine T_iinc (ls' := [some (aR 0), some (aI wb), some (aI (k + 1)), some (aI v21)]) (k + 1) (am_dec tX11_guardsAll_0 21 rfl) rfl rfl ⟨by omega, by omega⟩ (by decide) rfl ?_
        refine T_goto 2 (am_dec tX11_guardsAll_0 22 rfl) rfl ?_
        refine T_weak (ls' := [some (aR 0), some (aI wb), some (aI (k + 1)), none]) (am_sub_s (am_sub_s (am_sub_s (am_sub_n am_sub_nil)))) ?_
        have e9 : (p_c_guardsAll_2 hh rr wb) k = none := (by have s9 := hv21.symm; subst s9; exact ((if_neg h26).trans (if_neg h32)))
        rw [am_find_n e9] at k9 kr9
        exact ih (k + 1) (by omega) (by omega) k9 kr9
      · refine T_iconst 0 (am_dec tX11_guardsAll_0 19 rfl) rfl ⟨by decide, by decide⟩ ?_
        exact T_zreturn (am_dec tX11_guardsAll_0 20 rfl) rfl (by first | exact Or.inl rfl | exact Or.inr rfl | omega) (kr9 _ (am_find_y (show (p_c_guardsAll_2 hh rr wb) k = some 0 from (by have s9 := hv21.symm; subst s9; exact ((if_neg h26).trans (if_pos h32))))))
def c_guardsAll (hh : am_F) (rr : am_F) (wb : Int) : Int := (Option.elim (am_find (p_c_guardsAll_2 hh rr wb) 0 (hh 0 8).toNat) 1 (fun r9 => r9))
theorem mc_guardsAll {S : am_S} {d u : Nat} {w : AH} {hb sp rb rs : Nat} {po ro : AV} (hl : 109 ≤ w.length) (hp : hb = 1 ∧ sp = 21 ∨ hb = 21 ∧ sp = 1) (hr : rb = 41 ∧ rs = 46 ∨ rb = 46 ∧ rs = 41) {ee : am_F} {hh : am_F} {ss : am_F} {uu : am_F} {vv : am_F} {pp : am_F} {kk : am_F} {rr : am_F} {tt : am_F} {gg : am_F} {aa : am_F} {dd : am_F} {bd : am_F} {ga : am_F} {im : am_F} (wb : Int) (hI : HbI hh) (hRI : RnI rr)  (hd : 7 ≤ d) : am_Out S zX11_guardsAll d u [aR 0, aI wb] (hfW w hb sp rb rs hb po ro ee hh ss uu vv pp kk rr tt gg aa dd bd ga im) (.inl (some (aI (c_guardsAll hh rr wb)))) (hfW w hb sp rb rs hb po ro ee hh ss uu vv pp kk rr tt gg aa dd bd ga im) := by
  have key : ∀ Q : AO → AH → Prop, Q (.inl (some (aI (c_guardsAll hh rr wb)))) (hfW w hb sp rb rs hb po ro ee hh ss uu vv pp kk rr tt gg aa dd bd ga im) → am_M S zX11_guardsAll d u [aR 0, aI wb] (hfW w hb sp rb rs hb po ro ee hh ss uu vv pp kk rr tt gg aa dd bd ga im) Q := by
    intro Q hQ
    refine am_body rfl (by decide +kernel) rfl (am_cats_cons rfl ( am_cats_cons rfl (am_cats_nil))) (Nat.le_of_ble_eq_true rfl) (?_ : am_T _ _ _ _ _ 0 [some (aR 0), some (aI wb), none, none] [] (hfW w hb sp rb rs hb po ro ee hh ss uu vv pp kk rr tt gg aa dd bd ga im))
    obtain ⟨vh1, vh2, vh3, vh4, vh5, vh6, vh7, vh8, vh9, vh10, vh11, vh12, vh13, vh14, vh15, vh16, vh17, vh18, vh19, vh20, vh21, vh22⟩ := (HbI_A hI).1
    refine T_iconst 0 (am_dec tX11_guardsAll_0 0 rfl) rfl ⟨by decide, by decide⟩ ?_
    refine T_istore_n (ls' := [some (aR 0), some (aI wb), some (aI 0), none]) (am_dec tX11_guardsAll_0 1 rfl) (by decide) rfl ?_
    refine L_c_guardsAll_2 hl hp hr ee hh ss uu vv pp kk rr tt gg aa dd bd ga im wb hI hRI  (by omega) _ rfl (hh 0 8).toNat 0  (by omega) (by omega) (fun hn2 => ?_) (fun r2 hr2 => (am_tr (fun (x9 : Int) => Q (.inl (some (aI (x9)))) (hfW w hb sp rb rs hb po ro ee hh ss uu vv pp kk rr tt gg aa dd bd ga im)) (y := r2) (show (c_guardsAll hh rr wb) = r2 from (am_el_s hr2)) hQ))
    refine T_iconst 1 (am_dec tX11_guardsAll_0 23 rfl) rfl ⟨by decide, by decide⟩ ?_
    exact T_zreturn (am_dec tX11_guardsAll_0 24 rfl) rfl (by first | exact Or.inl rfl | exact Or.inr rfl | omega) (am_tr (fun (x9 : Int) => Q (.inl (some (aI (x9)))) (hfW w hb sp rb rs hb po ro ee hh ss uu vv pp kk rr tt gg aa dd bd ga im)) (y := 1) (show (c_guardsAll hh rr wb) = 1 from (am_el_n hn2)) hQ)
  exact key _ ⟨rfl, rfl⟩
theorem c_guardsAll_b (hh : am_F) (rr : am_F) (wb : Int) : (c_guardsAll hh rr wb) = 0 ∨ (c_guardsAll hh rr wb) = 1 := by
  unfold c_guardsAll
  cases e : am_find (p_c_guardsAll_2 hh rr wb) 0 (hh 0 8).toNat with
  | none => exact Or.inr rfl
  | some v =>
    have q := am_find_P (P := fun v => v = 0) (fun i v hv => by
      unfold p_c_guardsAll_2 at hv
      dsimp only at hv
      repeat' split at hv
      all_goals first | cases hv; done | exact (Option.some.inj hv).symm) _ _ e
    exact Or.inl q
theorem am_shl1 {k : Int} (h : 0 ≤ k ∧ k ≤ 4) : 1 ≤ am_ishl 1 k ∧ am_ishl 1 k ≤ 16 := by
  have q : k = 0 ∨ k = 1 ∨ k = 2 ∨ k = 3 ∨ k = 4 := by omega
  rcases q with e | e | e | e | e <;> rw [e] <;> decide
def g_c_guards_28 (hh : am_F) (rr : am_F) (s : Int) (bst : Int) : Int := (if (c_bits bst) ≤ (c_bits s) then bst else (let z46 : Int := (c_guardsAll hh rr s); (if z46 = 0 then bst else s)))
theorem L_c_guards_28 {S : am_S} {d u : Nat} {Q : AO → AH → Prop} {w : AH} {hb sp rb rs : Nat} {po ro : AV} (hl : 109 ≤ w.length) (hp : hb = 1 ∧ sp = 21 ∨ hb = 21 ∧ sp = 1) (hr : rb = 41 ∧ rs = 46 ∨ rb = 46 ∧ rs = 41) (ee : am_F) (hh : am_F) (ss : am_F) (uu : am_F) (vv : am_F) (pp : am_F) (kk : am_F) (rr : am_F) (tt : am_F) (gg : am_F) (aa : am_F) (dd : am_F) (bd : am_F) (ga : am_F) (im : am_F) (sets : Int) (hI : HbI hh) (hRI : RnI rr) (hs9 : 1 ≤ sets ∧ sets ≤ 16) (hd : 8 ≤ d) (B9 : Int) (hB : B9 = sets) : ∀ (n : Nat) (s : Int) (bst : Int), s + n = B9 → 0 ≤ s → (∀ (bst' : Int), bst' = am_fold (g_c_guards_28 hh rr) s n bst → am_T S zX11_guards d u Q 60 [none, none, some (aI bst'), none] [] (hfW w hb sp rb rs hb po ro ee hh ss uu vv pp kk rr tt gg aa dd bd ga im)) → am_T S zX11_guards d u Q 28 [some (aR 0), some (aI sets), some (aI bst), some (aI s)] [] (hfW w hb sp rb rs hb po ro ee hh ss uu vv pp kk rr tt gg aa dd bd ga im) := by
  intro n
  induction n with
  | zero =>
    intro s bst hi9 h0i k9
    have e9 : s = B9 := by omega
    subst e9
    obtain ⟨vh1, vh2, vh3, vh4, vh5, vh6, vh7, vh8, vh9, vh10, vh11, vh12, vh13, vh14, vh15, vh16, vh17, vh18, vh19, vh20, vh21, vh22⟩ := (HbI_A hI).1
    refine T_iload_n (am_dec tX11_guards_0 17 rfl) rfl ?_
    refine T_iload_n (am_dec tX11_guards_0 18 rfl) rfl ?_
    refine T_icmp_ge 60 (am_dec tX11_guards_0 19 rfl) rfl (fun h30 => ?_) (fun h30 => by exfalso; omega)
    refine T_weak (ls' := [none, none, some (aI bst), none]) (am_sub_n (am_sub_n (am_sub_s (am_sub_n am_sub_nil)))) ?_
    exact k9 bst rfl
  | succ n ih =>
    intro s bst hi9 h0i k9
    obtain ⟨vh1, vh2, vh3, vh4, vh5, vh6, vh7, vh8, vh9, vh10, vh11, vh12, vh13, vh14, vh15, vh16, vh17, vh18, vh19, vh20, vh21, vh22⟩ := (HbI_A hI).1
    refine T_iload_n (am_dec tX11_guards_0 17 rfl) rfl ?_
    refine T_iload_n (am_dec tX11_guards_0 18 rfl) rfl ?_
    refine T_icmp_ge 60 (am_dec tX11_guards_0 19 rfl) rfl (fun h30 => by exfalso; omega) (fun h30 => ?_)
    refine T_iload_n (am_dec tX11_guards_0 20 rfl) rfl ?_
    refine T_callS (as := [aI s]) rfl (am_dec tX11_guards_0 21 rfl) lkX11_238 rfl (Nat.le_of_ble_eq_true rfl) (by omega) (mc_bits (d := d - 1)  s   ) (fun _ => ?_)
    refine T_iload_n (am_dec tX11_guards_0 22 rfl) rfl ?_
    refine T_callS (as := [aI bst]) rfl (am_dec tX11_guards_0 23 rfl) lkX11_238 rfl (Nat.le_of_ble_eq_true rfl) (by omega) (mc_bits (d := d - 1)  bst   ) (fun _ => ?_)
    have K41 : ∀ (bst_41 : Int), bst_41 = (if (c_bits bst) ≤ (c_bits s) then bst else (let z46 : Int := (c_guardsAll hh rr s); (if z46 = 0 then bst else s))) →  am_T S zX11_guards d u Q 54 [some (aR 0), some (aI sets), some (aI bst_41), some (aI s)] [] (hfW w hb sp rb rs hb po ro ee hh ss uu vv pp kk rr tt gg aa dd bd ga im) := by
      intro bst_41 hbst_41 
      have hxbst_41 := hbst_41
      dsimp only at hxbst_41
      refine T_iinc (ls' := [some (aR 0), some (aI sets), some (aI bst_41), some (aI (s + 1))]) (s + 1) (am_dec tX11_guards_0 31 rfl) rfl rfl ⟨by omega, by omega⟩ (by decide) rfl ?_
      refine T_goto 28 (am_dec tX11_guards_0 32 rfl) rfl ?_
      have e9 : (g_c_guards_28 hh rr) s bst = bst_41 := (by have s9 := hbst_41.symm; subst s9; exact rfl)
      simp only [am_fold_s, e9] at k9
      exact ih (s + 1) bst_41 (by omega) (by omega) k9
    refine T_icmp_ge 54 (am_dec tX11_guards_0 24 rfl) rfl (fun h41 => ?_) (fun h41 => ?_)
    · exact K41 _ (if_pos h41).symm 
    · refine T_aload_n (am_dec tX11_guards_0 25 rfl) rfl ?_
      refine T_iload_n (am_dec tX11_guards_0 26 rfl) rfl ?_
      refine T_callV (as := [aI s]) rfl (am_dec tX11_guards_0 27 rfl) lkX11_243 (show (hfW w hb sp rb rs hb po ro ee hh ss uu vv pp kk rr tt gg aa dd bd ga im)[0]? = some (cO 10 [aR hb, aR sp, aR rb, aR rs, aR 52, aR 53, aR 51, aI (ee 0 7), aI (ee 0 8), aR 54, aR 64, aR 74, aR 77, aR 83, aR 84, aR 86, aR 88, aI (ee 0 17), aR 107, aR 108]) from (hfW_c hl 0 (by decide))) rfl rfl (Nat.le_of_ble_eq_true rfl) (by omega) (mc_guardsAll (d := d - 1) hl hp hr s  hI hRI (by omega)) (fun _ => ?_)
      refine T_nm (fun z46 hz46 => ?_)
      have hb46 := c_guardsAll_b hh rr s
      rw [← hz46] at hb46
      have K49 : ∀ (bst_49 : Int), bst_49 = (if z46 = 0 then bst else s) →  am_T S zX11_guards d u Q 54 [some (aR 0), some (aI sets), some (aI bst_49), some (aI s)] [] (hfW w hb sp rb rs hb po ro ee hh ss uu vv pp kk rr tt gg aa dd bd ga im) := by
        intro bst_49 hbst_49 
        exact K41 _ (by have s9 := hz46.symm; subst s9; have s9 := hbst_49.symm; subst s9; exact (if_neg h41).symm) 
      refine T_if_eq 54 (am_dec tX11_guards_0 28 rfl) rfl (fun h49 => ?_) (fun h49 => ?_)
      · exact K49 _ (if_pos h49).symm 
      · refine T_iload_n (am_dec tX11_guards_0 29 rfl) rfl ?_
        refine T_istore_n (ls' := [some (aR 0), some (aI sets), some (aI s), some (aI s)]) (am_dec tX11_guards_0 30 rfl) (by decide) rfl ?_
        exact K49 _ (if_neg h49).symm 
def c_guards (hh : am_F) (rr : am_F) : Int × am_F := (let rr6 : am_F := f_upTo hh rr 39; (let sets_21 : Int := am_ishl 1 (hh 0 9); (let bst_28 : Int := am_fold (g_c_guards_28 hh rr6) 0 (sets_21).toNat (sets_21 - 1); (bst_28, rr6))))
theorem mc_guards {S : am_S} {d u : Nat} {w : AH} {hb sp rb rs : Nat} {po ro : AV} (hl : 109 ≤ w.length) (hp : hb = 1 ∧ sp = 21 ∨ hb = 21 ∧ sp = 1) (hr : rb = 41 ∧ rs = 46 ∨ rb = 46 ∧ rs = 41) {ee : am_F} {hh : am_F} {ss : am_F} {uu : am_F} {vv : am_F} {pp : am_F} {kk : am_F} {rr : am_F} {tt : am_F} {gg : am_F} {aa : am_F} {dd : am_F} {bd : am_F} {ga : am_F} {im : am_F}  (hI : HbI hh) (hRI : RnI rr)  (hd : 8 ≤ d) : am_Out S zX11_guards d u [aR 0] (hfW w hb sp rb rs hb po ro ee hh ss uu vv pp kk rr tt gg aa dd bd ga im) (.inl (some (aI ((c_guards hh rr).1)))) (hfW w hb sp rb rs hb po ro ee hh ss uu vv pp kk ((c_guards hh rr).2) tt gg aa dd bd ga im) := by
  have key : ∀ Q : AO → AH → Prop, Q (.inl (some (aI ((c_guards hh rr).1)))) (hfW w hb sp rb rs hb po ro ee hh ss uu vv pp kk ((c_guards hh rr).2) tt gg aa dd bd ga im) → am_M S zX11_guards d u [aR 0] (hfW w hb sp rb rs hb po ro ee hh ss uu vv pp kk rr tt gg aa dd bd ga im) Q := by
    intro Q hQ
    refine am_body rfl (by decide +kernel) rfl (am_cats_cons rfl (am_cats_nil)) (Nat.le_of_ble_eq_true rfl) (?_ : am_T _ _ _ _ _ 0 [some (aR 0), none, none, none] [] (hfW w hb sp rb rs hb po ro ee hh ss uu vv pp kk rr tt gg aa dd bd ga im))
    obtain ⟨vh1, vh2, vh3, vh4, vh5, vh6, vh7, vh8, vh9, vh10, vh11, vh12, vh13, vh14, vh15, vh16, vh17, vh18, vh19, vh20, vh21, vh22⟩ := (HbI_A hI).1
    refine T_aload_n (am_dec tX11_guards_0 0 rfl) rfl ?_
    refine T_getfield 10 9 (am_dec tX11_guards_0 1 rfl) flX11_58_10 (show (hfW w hb sp rb rs hb po ro ee hh ss uu vv pp kk rr tt gg aa dd bd ga im)[0]? = some (cO 10 [aR hb, aR sp, aR rb, aR rs, aR 52, aR 53, aR 51, aI (ee 0 7), aI (ee 0 8), aR 54, aR 64, aR 74, aR 77, aR 83, aR 84, aR 86, aR 88, aI (ee 0 17), aR 107, aR 108]) from (hfW_c hl 0 (by decide))) rfl ?_
    refine T_bipush 39 (am_dec tX11_guards_0 2 rfl) rfl ⟨by decide, by decide⟩ ?_
    refine T_callV (as := [aI 39]) rfl (am_dec tX11_guards_0 3 rfl) lkX11_177 (show (hfW w hb sp rb rs hb po ro ee hh ss uu vv pp kk rr tt gg aa dd bd ga im)[54]? = some (cO 8 [aR hb, aI (rr 0 1), aI (rr 0 2), aI (rr 0 3), aI (rr 0 4), aI (rr 0 5), aR 55, aR 56, aR 57, aR 58, aR 59, aR 60, aR 61, aR 62, aR 63]) from (hfW_c hl 54 (by decide))) rfl rfl (Nat.le_of_ble_eq_true rfl) (by omega) (am_OutE (m_upTo (d := d - 1) (w := hfW w hb sp rb rs hb po ro ee hh ss uu vv pp kk rr tt gg aa dd bd ga im) (hf_le hl (by omega)) (by omega) (hf_H hl hp) (HbI_A hI) 39 hRI.1 hRI.2.1 hRI.2.2 (by omega)) hf_uR hf_uR) (fun _ => ?_)
    refine T_nmH (W := fun x9 => hfW w hb sp rb rs hb po ro ee hh ss uu vv pp kk x9 tt gg aa dd bd ga im) (v := f_upTo hh rr 39) (fun rr6 hrr6 => ?_)
    have hIrr6 : RnI rr6 := by rw [hrr6]; exact f_upTo_I (HbI_A hI) hRI
    refine T_iconst 1 (am_dec tX11_guards_0 4 rfl) rfl ⟨by decide, by decide⟩ ?_
    refine T_aload_n (am_dec tX11_guards_0 5 rfl) rfl ?_
    refine T_getfield 10 0 (am_dec tX11_guards_0 6 rfl) flX11_10_10 (show (hfW w hb sp rb rs hb po ro ee hh ss uu vv pp kk rr6 tt gg aa dd bd ga im)[0]? = some (cO 10 [aR hb, aR sp, aR rb, aR rs, aR 52, aR 53, aR 51, aI (ee 0 7), aI (ee 0 8), aR 54, aR 64, aR 74, aR 77, aR 83, aR 84, aR 86, aR 88, aI (ee 0 17), aR 107, aR 108]) from (hfW_c hl 0 (by decide))) rfl ?_
    refine T_getfield 3 9 (am_dec tX11_guards_0 7 rfl) flX11_164_3 (show (hfW w hb sp rb rs hb po ro ee hh ss uu vv pp kk rr6 tt gg aa dd bd ga im)[hb]? = some (cO 3 [aI (hh 0 0), aI (hh 0 1), aI (hh 0 2), aR (hb + 1), aR (hb + 3), aR (hb + 5), aR (hb + 7), aR (hb + 9), aR (hb + 11), aR (hb + 13), aR (hb + 15), aR (hb + 17), aR (hb + 18), aR (hb + 19)]) from ((hf_H hl hp) 0 (by decide))) rfl ?_
    refine T_getfield 9 2 (am_dec tX11_guards_0 8 rfl) flX11_140_9 (show (hfW w hb sp rb rs hb po ro ee hh ss uu vv pp kk rr6 tt gg aa dd bd ga im)[hb + 13]? = some (cO 9 [aI 4, aR (hb + 14), aI (hh 0 9)]) from ((hf_H hl hp) 13 (by decide))) rfl ?_
    refine T_ishl (am_ishl 1 (hh 0 9)) (am_dec tX11_guards_0 9 rfl) (am_w32e _).symm (am_w32r _) ?_
    have hs9 := am_shl1 (k := hh 0 9) (by omega)
    refine T_nm (fun sets_21 hsets_21 => ?_)
    refine T_istore_n (ls' := [some (aR 0), some (aI sets_21), none, none]) (am_dec tX11_guards_0 10 rfl) (by decide) rfl ?_
    refine T_iload_n (am_dec tX11_guards_0 11 rfl) rfl ?_
    refine T_iconst 1 (am_dec tX11_guards_0 12 rfl) rfl ⟨by decide, by decide⟩ ?_
    refine T_isub (sets_21 - 1) (am_dec tX11_guards_0 13 rfl) rfl ⟨by omega, by omega⟩ ?_
    refine T_istore_n (ls' := [some (aR 0), some (aI sets_21), some (aI (sets_21 - 1)), none]) (am_dec tX11_guards_0 14 rfl) (by decide) rfl ?_
    refine T_iconst 0 (am_dec tX11_guards_0 15 rfl) rfl ⟨by decide, by decide⟩ ?_
    refine T_istore_n (ls' := [some (aR 0), some (aI sets_21), some (aI (sets_21 - 1)), some (aI 0)]) (am_dec tX11_guards_0 16 rfl) (by decide) rfl ?_
    refine L_c_guards_28 hl hp hr ee hh ss uu vv pp kk rr6 tt gg aa dd bd ga im sets_21 hI hIrr6 (by rw [hsets_21]; exact hs9) (by omega) _ rfl (sets_21).toNat 0 (sets_21 - 1) (by omega) (by omega) (fun bst_28 hbst_28 => ?_)
    refine T_iload_n (am_dec tX11_guards_0 33 rfl) rfl ?_
    exact T_ireturn (am_dec tX11_guards_0 34 rfl) rfl (am_tr (fun (x9 : Int × am_F) => Q (.inl (some (aI (x9.1)))) (hfW w hb sp rb rs hb po ro ee hh ss uu vv pp kk x9.2 tt gg aa dd bd ga im)) (y := (bst_28, rr6)) (show (c_guards hh rr) = (bst_28, rr6) from (by have s9 := hrr6.symm; subst s9; have s9 := hsets_21.symm; subst s9; have s9 := hbst_28.symm; subst s9; exact rfl)) hQ)
  exact key _ ⟨rfl, rfl⟩
theorem c_firstClear64_I {hh tt : am_F} (hI : HbI hh) (q : RnI tt) (k ah : Int) (hah : ah ≤ 40) : RnI (c_firstClear64 hh tt k ah).2 ∧ -1 ≤ (c_firstClear64 hh tt k ah).1 ∧ (c_firstClear64 hh tt k ah).1 ≤ 39 := by
  unfold c_firstClear64
  exact am_wr_inv (P := fun x : Int × am_F => (0 ≤ x.1 ∧ x.1 ≤ 40) ∧ RnI x.2) (R := fun x : Int × am_F => RnI x.2 ∧ -1 ≤ x.1 ∧ x.1 ≤ 39) (fun x => 40 - x.1) (fun x hx => by show 0 ≤ 40 - x.1; omega) (fun x y hx hf => by
    unfold w_c_firstClear64_3 at hf
    dsimp only at hf
    split at hf
    · cases hf
    · split at hf
      · cases hf
        refine ⟨⟨?_, f_upTo_I (HbI_A hI) hx.2⟩, ?_⟩
        · dsimp only; omega
        · dsimp only; omega
      · cases hf) (fun x y hx hf => by
    unfold w_c_firstClear64_3 at hf
    dsimp only at hf
    split at hf
    · cases hf
      exact ⟨hx.2, by dsimp only; omega, by dsimp only; omega⟩
    · split at hf
      · cases hf
      · cases hf
        refine ⟨f_upTo_I (HbI_A hI) hx.2, ?_, ?_⟩
        · dsimp only; omega
        · dsimp only; omega) 41 (0, tt) ⟨⟨by dsimp only; omega, by dsimp only; omega⟩, q⟩ (by dsimp only; omega)
def g_c_light_67 (hb : Nat) (hh : am_F) (k : Int) (bu : Int) (y : Int) (x : Int) (x9 : Int × Int × am_F) : Int × Int × am_F := let soon := x9.1; let bst := x9.2.1; let tt := x9.2.2; (let tt87 : am_F := f_beginT hb hh tt; (let tt103 : am_F := am_put (am_put tt87 0 4 (x + (10 * y))) 0 5 bu; (let u114 : Int × am_F := c_firstClear64 hh tt103 k soon; (let soon_122 : Int := (if (u114).1 = (-1) then soon else ((u114).1)); (let bst_122 : Int := (if (u114).1 = (-1) then bst else (x + (10 * y))); (soon_122, bst_122, (u114).2))))))
theorem L_c_light_67 {S : am_S} {d u : Nat} {Q : AO → AH → Prop} {w : AH} {hb sp rb rs : Nat} {po ro : AV} (hl : 109 ≤ w.length) (hp : hb = 1 ∧ sp = 21 ∨ hb = 21 ∧ sp = 1) (hr : rb = 41 ∧ rs = 46 ∨ rb = 46 ∧ rs = 41) (ee : am_F) (hh : am_F) (ss : am_F) (uu : am_F) (vv : am_F) (pp : am_F) (kk : am_F) (rr : am_F) (gg : am_F) (aa : am_F) (dd : am_F) (bd : am_F) (ga : am_F) (im : am_F) (k : Int) (bu : Int) (what : Int) (y : Int)  (hI : HbI hh) (hbu : 1 ≤ bu ∧ bu ≤ 20) (ho52 : 0 ≤ y ∧ y < hh 0 1) (hd : 7 ≤ d) (B9 : Int) (hB : B9 = hh 0 0) : ∀ (n : Nat) (x : Int) (soon : Int) (bst : Int) (tt : am_F), x + n = B9 → 0 ≤ x → ((0 ≤ soon ∧ soon ≤ 40) ∧ -1 ≤ bst ∧ bst ≤ 88) ∧ RnI tt → (∀ (soon' : Int) (bst' : Int) (tt' : am_F), soon' = (am_fold (g_c_light_67 hb hh k bu y) x n (soon, bst, tt)).1 → bst' = (am_fold (g_c_light_67 hb hh k bu y) x n (soon, bst, tt)).2.1 → tt' = (am_fold (g_c_light_67 hb hh k bu y) x n (soon, bst, tt)).2.2 → ((0 ≤ soon' ∧ soon' ≤ 40) ∧ -1 ≤ bst' ∧ bst' ≤ 88) ∧ RnI tt' → am_T S zX11_light d u Q 145 [some (aR 0), some (aI k), some (aI bu), some (aI what), some (aI soon'), some (aI bst'), some (aI y), none, none] [] (hfW w hb sp rb rs hb po ro ee hh ss uu vv pp kk rr tt' gg aa dd bd ga im)) → am_T S zX11_light d u Q 67 [some (aR 0), some (aI k), some (aI bu), some (aI what), some (aI soon), some (aI bst), some (aI y), some (aI x), none] [] (hfW w hb sp rb rs hb po ro ee hh ss uu vv pp kk rr tt gg aa dd bd ga im) := by
  intro n
  induction n with
  | zero =>
    intro x soon bst tt hi9 h0i hinv k9
    have e9 : x = B9 := by omega
    subst e9
    obtain ⟨vh1, vh2, vh3, vh4, vh5, vh6, vh7, vh8, vh9, vh10, vh11, vh12, vh13, vh14, vh15, vh16, vh17, vh18, vh19, vh20, vh21, vh22⟩ := (HbI_A hI).1
    have hTI := hinv.2
    refine T_iload (am_dec tX11_light_0 36 rfl) rfl ?_
    refine T_aload_n (am_dec tX11_light_0 37 rfl) rfl ?_
    refine T_getfield 10 0 (am_dec tX11_light_0 38 rfl) flX11_10_10 (show (hfW w hb sp rb rs hb po ro ee hh ss uu vv pp kk rr tt gg aa dd bd ga im)[0]? = some (cO 10 [aR hb, aR sp, aR rb, aR rs, aR 52, aR 53, aR 51, aI (ee 0 7), aI (ee 0 8), aR 54, aR 64, aR 74, aR 77, aR 83, aR 84, aR 86, aR 88, aI (ee 0 17), aR 107, aR 108]) from (hfW_c hl 0 (by decide))) rfl ?_
    refine T_getfield 3 0 (am_dec tX11_light_0 39 rfl) flX11_152_3 (show (hfW w hb sp rb rs hb po ro ee hh ss uu vv pp kk rr tt gg aa dd bd ga im)[hb]? = some (cO 3 [aI (hh 0 0), aI (hh 0 1), aI (hh 0 2), aR (hb + 1), aR (hb + 3), aR (hb + 5), aR (hb + 7), aR (hb + 9), aR (hb + 11), aR (hb + 13), aR (hb + 15), aR (hb + 17), aR (hb + 18), aR (hb + 19)]) from ((hf_H hl hp) 0 (by decide))) rfl ?_
    refine T_icmp_ge 145 (am_dec tX11_light_1 0 rfl) rfl (fun h76 => ?_) (fun h76 => by exfalso; omega)
    refine T_weak (ls' := [some (aR 0), some (aI k), some (aI bu), some (aI what), some (aI soon), some (aI bst), some (aI y), none, none]) (am_sub_s (am_sub_s (am_sub_s (am_sub_s (am_sub_s (am_sub_s (am_sub_s (am_sub_n (am_sub_n am_sub_nil))))))))) ?_
    exact k9 soon bst tt rfl rfl rfl hinv
  | succ n ih =>
    intro x soon bst tt hi9 h0i hinv k9
    obtain ⟨vh1, vh2, vh3, vh4, vh5, vh6, vh7, vh8, vh9, vh10, vh11, vh12, vh13, vh14, vh15, vh16, vh17, vh18, vh19, vh20, vh21, vh22⟩ := (HbI_A hI).1
    have hTI := hinv.2
    refine T_iload (am_dec tX11_light_0 36 rfl) rfl ?_
    refine T_aload_n (am_dec tX11_light_0 37 rfl) rfl ?_
    refine T_getfield 10 0 (am_dec tX11_light_0 38 rfl) flX11_10_10 (show (hfW w hb sp rb rs hb po ro ee hh ss uu vv pp kk rr tt gg aa dd bd ga im)[0]? = some (cO 10 [aR hb, aR sp, aR rb, aR rs, aR 52, aR 53, aR 51, aI (ee 0 7), aI (ee 0 8), aR 54, aR 64, aR 74, aR 77, aR 83, aR 84, aR 86, aR 88, aI (ee 0 17), aR 107, aR 108]) from (hfW_c hl 0 (by decide))) rfl ?_
    refine T_getfield 3 0 (am_dec tX11_light_0 39 rfl) flX11_152_3 (show (hfW w hb sp rb rs hb po ro ee hh ss uu vv pp kk rr tt gg aa dd bd ga im)[hb]? = some (cO 3 [aI (hh 0 0), aI (hh 0 1), aI (hh 0 2), aR (hb + 1), aR (hb + 3), aR (hb + 5), aR (hb + 7), aR (hb + 9), aR (hb + 11), aR (hb + 13), aR (hb + 15), aR (hb + 17), aR (hb + 18), aR (hb + 19)]) from ((hf_H hl hp) 0 (by decide))) rfl ?_
    refine T_icmp_ge 145 (am_dec tX11_light_1 0 rfl) rfl (fun h76 => by exfalso; omega) (fun h76 => ?_)
    refine T_aload_n (am_dec tX11_light_1 1 rfl) rfl ?_
    refine T_getfield 10 10 (am_dec tX11_light_1 2 rfl) flX11_62_10 (show (hfW w hb sp rb rs hb po ro ee hh ss uu vv pp kk rr tt gg aa dd bd ga im)[0]? = some (cO 10 [aR hb, aR sp, aR rb, aR rs, aR 52, aR 53, aR 51, aI (ee 0 7), aI (ee 0 8), aR 54, aR 64, aR 74, aR 77, aR 83, aR 84, aR 86, aR 88, aI (ee 0 17), aR 107, aR 108]) from (hfW_c hl 0 (by decide))) rfl ?_
    refine T_aload_n (am_dec tX11_light_1 3 rfl) rfl ?_
    refine T_getfield 10 0 (am_dec tX11_light_1 4 rfl) flX11_10_10 (show (hfW w hb sp rb rs hb po ro ee hh ss uu vv pp kk rr tt gg aa dd bd ga im)[0]? = some (cO 10 [aR hb, aR sp, aR rb, aR rs, aR 52, aR 53, aR 51, aI (ee 0 7), aI (ee 0 8), aR 54, aR 64, aR 74, aR 77, aR 83, aR 84, aR 86, aR 88, aI (ee 0 17), aR 107, aR 108]) from (hfW_c hl 0 (by decide))) rfl ?_
    refine T_callV (as := [aR hb]) rfl (am_dec tX11_light_1 5 rfl) lkX11_207 (show (hfW w hb sp rb rs hb po ro ee hh ss uu vv pp kk rr tt gg aa dd bd ga im)[64]? = some (cO 8 [aR ((tt 0 0).toNat), aI (tt 0 1), aI (tt 0 2), aI (tt 0 3), aI (tt 0 4), aI (tt 0 5), aR 65, aR 66, aR 67, aR 68, aR 69, aR 70, aR 71, aR 72, aR 73]) from (hfW_c hl 64 (by decide))) rfl rfl (Nat.le_of_ble_eq_true rfl) (by omega) (am_OutE (m_begin (d := d - 1) (w := hfW w hb sp rb rs hb po ro ee hh ss uu vv pp kk rr tt gg aa dd bd ga im) (Rn_Rn0 (hf_T hl)) (by omega) (hf_H hl hp) (HbI_A hI).1 hTI.2.1 (HbI_Fs hI) (by omega)) rfl hf_uTb) (fun _ => ?_)
    refine T_nmH (W := fun x9 => hfW w hb sp rb rs hb po ro ee hh ss uu vv pp kk rr x9 gg aa dd bd ga im) (v := f_beginT hb hh tt) (fun tt87 htt87 => ?_)
    have hItt87 : RnI tt87 := by rw [htt87]; exact f_begin_I (HbI_Fs hI) hTI.2.1
    have hTtt87 : (tt87 0 0).toNat = hb := by rw [htt87]; rfl
    refine T_aload_n (am_dec tX11_light_1 6 rfl) rfl ?_
    refine T_getfield 10 10 (am_dec tX11_light_1 7 rfl) flX11_62_10 (show (hfW w hb sp rb rs hb po ro ee hh ss uu vv pp kk rr tt87 gg aa dd bd ga im)[0]? = some (cO 10 [aR hb, aR sp, aR rb, aR rs, aR 52, aR 53, aR 51, aI (ee 0 7), aI (ee 0 8), aR 54, aR 64, aR 74, aR 77, aR 83, aR 84, aR 86, aR 88, aI (ee 0 17), aR 107, aR 108]) from (hfW_c hl 0 (by decide))) rfl ?_
    refine T_iload (am_dec tX11_light_1 8 rfl) rfl ?_
    refine T_bipush 10 (am_dec tX11_light_1 9 rfl) rfl ⟨by decide, by decide⟩ ?_
    refine T_iload (am_dec tX11_light_1 10 rfl) rfl ?_
    refine T_imul (10 * y) (am_dec tX11_light_1 11 rfl) rfl ⟨by omega, by omega⟩ ?_
    refine T_iadd (x + (10 * y)) (am_dec tX11_light_1 12 rfl) rfl ⟨by omega, by omega⟩ ?_
    refine T_iload_n (am_dec tX11_light_1 13 rfl) rfl ?_
    refine T_callV (as := [aI (x + (10 * y)), aI bu]) rfl (am_dec tX11_light_1 14 rfl) lkX11_389 (show (hfW w hb sp rb rs hb po ro ee hh ss uu vv pp kk rr tt87 gg aa dd bd ga im)[64]? = some (cO 8 [aR ((tt87 0 0).toNat), aI (tt87 0 1), aI (tt87 0 2), aI (tt87 0 3), aI (tt87 0 4), aI (tt87 0 5), aR 65, aR 66, aR 67, aR 68, aR 69, aR 70, aR 71, aR 72, aR 73]) from (hfW_c hl 64 (by decide))) rfl rfl (Nat.le_of_ble_eq_true rfl) (by omega) (am_OutE (m_withLamp (d := d - 1) (w := hfW w hb sp rb rs hb po ro ee hh ss uu vv pp kk rr tt87 gg aa dd bd ga im) (hf_le hl (by omega)) (x + (10 * y)) bu) (hf_uT hTtt87) (hf_uT hTtt87)) (fun _ => ?_)
    refine T_nmH (W := fun x9 => hfW w hb sp rb rs hb po ro ee hh ss uu vv pp kk rr x9 gg aa dd bd ga im) (v := am_put (am_put tt87 0 4 (x + (10 * y))) 0 5 bu) (fun tt103 htt103 => ?_)
    have hItt103 : RnI tt103 := by rw [htt103]; exact RnI_lamp hItt87 (by omega) (by omega)
    have hTtt103 : (tt103 0 0).toNat = hb := by rw [htt103]; exact hTtt87
    refine T_aload_n (am_dec tX11_light_1 15 rfl) rfl ?_
    refine T_aload_n (am_dec tX11_light_1 16 rfl) rfl ?_
    refine T_getfield 10 10 (am_dec tX11_light_1 17 rfl) flX11_62_10 (show (hfW w hb sp rb rs hb po ro ee hh ss uu vv pp kk rr tt103 gg aa dd bd ga im)[0]? = some (cO 10 [aR hb, aR sp, aR rb, aR rs, aR 52, aR 53, aR 51, aI (ee 0 7), aI (ee 0 8), aR 54, aR 64, aR 74, aR 77, aR 83, aR 84, aR 86, aR 88, aI (ee 0 17), aR 107, aR 108]) from (hfW_c hl 0 (by decide))) rfl ?_
    refine T_iload_n (am_dec tX11_light_1 18 rfl) rfl ?_
    refine T_iload (am_dec tX11_light_1 19 rfl) rfl ?_
    refine T_callV (as := [aR 64, aI k, aI soon]) rfl (am_dec tX11_light_1 20 rfl) lkX11_382 (show (hfW w hb sp rb rs hb po ro ee hh ss uu vv pp kk rr tt103 gg aa dd bd ga im)[0]? = some (cO 10 [aR hb, aR sp, aR rb, aR rs, aR 52, aR 53, aR 51, aI (ee 0 7), aI (ee 0 8), aR 54, aR 64, aR 74, aR 77, aR 83, aR 84, aR 86, aR 88, aI (ee 0 17), aR 107, aR 108]) from (hfW_c hl 0 (by decide))) rfl rfl (Nat.le_of_ble_eq_true rfl) (by omega) (mc_firstClear64 (d := d - 1) hl hp hr k soon  hI hItt103 hTtt103 (by omega) (by omega)) (fun _ => ?_)
    obtain ⟨u114, hu114⟩ : ∃ x9, x9 = c_firstClear64 hh tt103 k soon := ⟨_, rfl⟩
    rw [← hu114]
    have hIu114 : RnI u114.2 ∧ -1 ≤ u114.1 ∧ u114.1 ≤ 39 := by rw [hu114]; exact c_firstClear64_I hI hItt103 _ _ (by omega)
    refine T_istore (ls' := [some (aR 0), some (aI k), some (aI bu), some (aI what), some (aI soon), some (aI bst), some (aI y), some (aI x), some (aI ((u114).1))]) (am_dec tX11_light_1 21 rfl) (by decide) rfl ?_
    refine T_iload (am_dec tX11_light_1 22 rfl) rfl ?_
    refine T_iconst (-1) (am_dec tX11_light_1 23 rfl) rfl ⟨by decide, by decide⟩ ?_
    have K122 : ∀ (soon_122 : Int), ∀ (bst_122 : Int), soon_122 = (if (u114).1 = (-1) then soon else ((u114).1)) → bst_122 = (if (u114).1 = (-1) then bst else (x + (10 * y))) →  am_T S zX11_light d u Q 139 [some (aR 0), some (aI k), some (aI bu), some (aI what), some (aI soon_122), some (aI bst_122), some (aI y), some (aI x), none] [] (hfW w hb sp rb rs hb po ro ee hh ss uu vv pp kk rr ((u114).2) gg aa dd bd ga im) := by
      intro soon_122 bst_122 hsoon_122 hbst_122 
      refine T_iinc (ls' := [some (aR 0), some (aI k), some (aI bu), some (aI what), some (aI soon_122), some (aI bst_122), some (aI y), some (aI (x + 1)), none]) (x + 1) (am_dec tX11_light_1 33 rfl) rfl rfl ⟨by omega, by omega⟩ (by decide) rfl ?_
      refine T_goto 67 (am_dec tX11_light_1 34 rfl) rfl ?_
      have e9 : (g_c_light_67 hb hh k bu y) x (soon, bst, tt) = (soon_122, bst_122, (u114).2) := (by have s9 := htt87.symm; subst s9; have s9 := htt103.symm; subst s9; have s9 := hu114.symm; subst s9; have s9 := hsoon_122.symm; subst s9; have s9 := hbst_122.symm; subst s9; exact rfl)
      simp only [am_fold_s, e9] at k9
      exact ih (x + 1) soon_122 bst_122 ((u114).2) (by omega) (by omega) ⟨by omega, hIu114.1⟩ k9
    refine T_icmp_eq 139 (am_dec tX11_light_1 24 rfl) rfl (fun h122 => ?_) (fun h122 => ?_)
    · refine T_weak (ls' := [some (aR 0), some (aI k), some (aI bu), some (aI what), some (aI soon), some (aI bst), some (aI y), some (aI x), none]) (am_sub_s (am_sub_s (am_sub_s (am_sub_s (am_sub_s (am_sub_s (am_sub_s (am_sub_s (am_sub_n am_sub_nil))))))))) ?_
      exact K122 _ _ (if_pos h122).symm (if_pos h122).symm 
    · refine T_iload (am_dec tX11_light_1 25 rfl) rfl ?_
      refine T_istore (ls' := [some (aR 0), some (aI k), some (aI bu), some (aI what), some (aI ((u114).1)), some (aI bst), some (aI y), some (aI x), some (aI ((u114).1))]) (am_dec tX11_light_1 26 rfl) (by decide) rfl ?_
      refine T_iload (am_dec tX11_light_1 27 rfl) rfl ?_
      refine T_bipush 10 (am_dec tX11_light_1 28 rfl) rfl ⟨by decide, by decide⟩ ?_
      refine T_iload (am_dec tX11_light_1 29 rfl) rfl ?_
      refine T_imul (10 * y) (am_dec tX11_light_1 30 rfl) rfl ⟨by omega, by omega⟩ ?_
      refine T_iadd (x + (10 * y)) (am_dec tX11_light_1 31 rfl) rfl ⟨by omega, by omega⟩ ?_
      refine T_istore (ls' := [some (aR 0), some (aI k), some (aI bu), some (aI what), some (aI ((u114).1)), some (aI (x + (10 * y))), some (aI y), some (aI x), some (aI ((u114).1))]) (am_dec tX11_light_1 32 rfl) (by decide) rfl ?_
      refine T_weak (ls' := [some (aR 0), some (aI k), some (aI bu), some (aI what), some (aI ((u114).1)), some (aI (x + (10 * y))), some (aI y), some (aI x), none]) (am_sub_s (am_sub_s (am_sub_s (am_sub_s (am_sub_s (am_sub_s (am_sub_s (am_sub_s (am_sub_n am_sub_nil))))))))) ?_
      exact K122 _ _ (if_neg h122).symm (if_neg h122).symm 
def g_c_light_52 (hb : Nat) (hh : am_F) (k : Int) (bu : Int) (y : Int) (x9 : Int × Int × am_F) : Int × Int × am_F := let soon := x9.1; let bst := x9.2.1; let tt := x9.2.2; (let soon_67 : Int := (am_fold (g_c_light_67 hb hh k bu y) 0 (hh 0 0).toNat (soon, bst, tt)).1; (let bst_67 : Int := (am_fold (g_c_light_67 hb hh k bu y) 0 (hh 0 0).toNat (soon, bst, tt)).2.1; (let tt67 : am_F := (am_fold (g_c_light_67 hb hh k bu y) 0 (hh 0 0).toNat (soon, bst, tt)).2.2; (soon_67, bst_67, tt67))))
theorem L_c_light_52 {S : am_S} {d u : Nat} {Q : AO → AH → Prop} {w : AH} {hb sp rb rs : Nat} {po ro : AV} (hl : 109 ≤ w.length) (hp : hb = 1 ∧ sp = 21 ∨ hb = 21 ∧ sp = 1) (hr : rb = 41 ∧ rs = 46 ∨ rb = 46 ∧ rs = 41) (ee : am_F) (hh : am_F) (ss : am_F) (uu : am_F) (vv : am_F) (pp : am_F) (kk : am_F) (rr : am_F) (gg : am_F) (aa : am_F) (dd : am_F) (bd : am_F) (ga : am_F) (im : am_F) (k : Int) (bu : Int) (what : Int)  (hI : HbI hh) (hbu : 1 ≤ bu ∧ bu ≤ 20) (hd : 7 ≤ d) (B9 : Int) (hB : B9 = hh 0 1) : ∀ (n : Nat) (y : Int) (soon : Int) (bst : Int) (tt : am_F), y + n = B9 → 0 ≤ y → ((0 ≤ soon ∧ soon ≤ 40) ∧ -1 ≤ bst ∧ bst ≤ 88) ∧ RnI tt → (∀ (soon' : Int) (bst' : Int) (tt' : am_F), soon' = (am_fold (g_c_light_52 hb hh k bu) y n (soon, bst, tt)).1 → bst' = (am_fold (g_c_light_52 hb hh k bu) y n (soon, bst, tt)).2.1 → tt' = (am_fold (g_c_light_52 hb hh k bu) y n (soon, bst, tt)).2.2 → ((0 ≤ soon' ∧ soon' ≤ 40) ∧ -1 ≤ bst' ∧ bst' ≤ 88) ∧ RnI tt' → am_T S zX11_light d u Q 151 [none, none, none, some (aI what), some (aI soon'), some (aI bst'), none, none, none] [] (hfW w hb sp rb rs hb po ro ee hh ss uu vv pp kk rr tt' gg aa dd bd ga im)) → am_T S zX11_light d u Q 52 [some (aR 0), some (aI k), some (aI bu), some (aI what), some (aI soon), some (aI bst), some (aI y), none, none] [] (hfW w hb sp rb rs hb po ro ee hh ss uu vv pp kk rr tt gg aa dd bd ga im) := by
  intro n
  induction n with
  | zero =>
    intro y soon bst tt hi9 h0i hinv k9
    have e9 : y = B9 := by omega
    subst e9
    obtain ⟨vh1, vh2, vh3, vh4, vh5, vh6, vh7, vh8, vh9, vh10, vh11, vh12, vh13, vh14, vh15, vh16, vh17, vh18, vh19, vh20, vh21, vh22⟩ := (HbI_A hI).1
    have hTI := hinv.2
    refine T_iload (am_dec tX11_light_0 29 rfl) rfl ?_
    refine T_aload_n (am_dec tX11_light_0 30 rfl) rfl ?_
    refine T_getfield 10 0 (am_dec tX11_light_0 31 rfl) flX11_10_10 (show (hfW w hb sp rb rs hb po ro ee hh ss uu vv pp kk rr tt gg aa dd bd ga im)[0]? = some (cO 10 [aR hb, aR sp, aR rb, aR rs, aR 52, aR 53, aR 51, aI (ee 0 7), aI (ee 0 8), aR 54, aR 64, aR 74, aR 77, aR 83, aR 84, aR 86, aR 88, aI (ee 0 17), aR 107, aR 108]) from (hfW_c hl 0 (by decide))) rfl ?_
    refine T_getfield 3 1 (am_dec tX11_light_0 32 rfl) flX11_155_3 (show (hfW w hb sp rb rs hb po ro ee hh ss uu vv pp kk rr tt gg aa dd bd ga im)[hb]? = some (cO 3 [aI (hh 0 0), aI (hh 0 1), aI (hh 0 2), aR (hb + 1), aR (hb + 3), aR (hb + 5), aR (hb + 7), aR (hb + 9), aR (hb + 11), aR (hb + 13), aR (hb + 15), aR (hb + 17), aR (hb + 18), aR (hb + 19)]) from ((hf_H hl hp) 0 (by decide))) rfl ?_
    refine T_icmp_ge 151 (am_dec tX11_light_0 33 rfl) rfl (fun h61 => ?_) (fun h61 => by exfalso; omega)
    refine T_weak (ls' := [none, none, none, some (aI what), some (aI soon), some (aI bst), none, none, none]) (am_sub_n (am_sub_n (am_sub_n (am_sub_s (am_sub_s (am_sub_s (am_sub_n (am_sub_n (am_sub_n am_sub_nil))))))))) ?_
    exact k9 soon bst tt rfl rfl rfl hinv
  | succ n ih =>
    intro y soon bst tt hi9 h0i hinv k9
    obtain ⟨vh1, vh2, vh3, vh4, vh5, vh6, vh7, vh8, vh9, vh10, vh11, vh12, vh13, vh14, vh15, vh16, vh17, vh18, vh19, vh20, vh21, vh22⟩ := (HbI_A hI).1
    have hTI := hinv.2
    refine T_iload (am_dec tX11_light_0 29 rfl) rfl ?_
    refine T_aload_n (am_dec tX11_light_0 30 rfl) rfl ?_
    refine T_getfield 10 0 (am_dec tX11_light_0 31 rfl) flX11_10_10 (show (hfW w hb sp rb rs hb po ro ee hh ss uu vv pp kk rr tt gg aa dd bd ga im)[0]? = some (cO 10 [aR hb, aR sp, aR rb, aR rs, aR 52, aR 53, aR 51, aI (ee 0 7), aI (ee 0 8), aR 54, aR 64, aR 74, aR 77, aR 83, aR 84, aR 86, aR 88, aI (ee 0 17), aR 107, aR 108]) from (hfW_c hl 0 (by decide))) rfl ?_
    refine T_getfield 3 1 (am_dec tX11_light_0 32 rfl) flX11_155_3 (show (hfW w hb sp rb rs hb po ro ee hh ss uu vv pp kk rr tt gg aa dd bd ga im)[hb]? = some (cO 3 [aI (hh 0 0), aI (hh 0 1), aI (hh 0 2), aR (hb + 1), aR (hb + 3), aR (hb + 5), aR (hb + 7), aR (hb + 9), aR (hb + 11), aR (hb + 13), aR (hb + 15), aR (hb + 17), aR (hb + 18), aR (hb + 19)]) from ((hf_H hl hp) 0 (by decide))) rfl ?_
    refine T_icmp_ge 151 (am_dec tX11_light_0 33 rfl) rfl (fun h61 => by exfalso; omega) (fun h61 => ?_)
    refine T_iconst 0 (am_dec tX11_light_0 34 rfl) rfl ⟨by decide, by decide⟩ ?_
    refine T_istore (ls' := [some (aR 0), some (aI k), some (aI bu), some (aI what), some (aI soon), some (aI bst), some (aI y), some (aI 0), none]) (am_dec tX11_light_0 35 rfl) (by decide) rfl ?_
    refine L_c_light_67 hl hp hr ee hh ss uu vv pp kk rr gg aa dd bd ga im k bu what y  hI (by omega) (by omega) (by omega) _ rfl (hh 0 0).toNat 0 soon bst tt (by omega) (by omega) ⟨by omega, hTI⟩ (fun soon_67 bst_67 tt67 hsoon_67 hbst_67 htt67 hv67 => ?_)
    refine T_iinc (ls' := [some (aR 0), some (aI k), some (aI bu), some (aI what), some (aI soon_67), some (aI bst_67), some (aI (y + 1)), none, none]) (y + 1) (am_dec tX11_light_1 35 rfl) rfl rfl ⟨by omega, by omega⟩ (by decide) rfl ?_
    refine T_goto 52 (am_dec tX11_light_1 36 rfl) rfl ?_
    have e9 : (g_c_light_52 hb hh k bu) y (soon, bst, tt) = (soon_67, bst_67, tt67) := (by have s9 := hsoon_67.symm; subst s9; have s9 := hbst_67.symm; subst s9; have s9 := htt67.symm; subst s9; exact rfl)
    simp only [am_fold_s, e9] at k9
    exact ih (y + 1) soon_67 bst_67 tt67 (by omega) (by omega) ⟨by omega, hv67.2⟩ k9
def c_light (hb : Nat) (ee : am_F) (hh : am_F) (tt : am_F) (k : Int) (bu : Int) (what : Int) : Int × Int × am_F × am_F := (if n_row (hh 0 10) k = 0 then (if n_range bu 1 20 = 0 then (if n_range what 0 1 = 0 then (let z34 : Int := (if 6 ≤ hh 0 5 then 1 else 0); (if z34 = 0 then (let soon_52 : Int := (am_fold (g_c_light_52 hb hh k bu) 0 (hh 0 1).toNat (40, (-1), tt)).1; (let bst_52 : Int := (am_fold (g_c_light_52 hb hh k bu) 0 (hh 0 1).toNat (40, (-1), tt)).2.1; (let tt52 : am_F := (am_fold (g_c_light_52 hb hh k bu) 0 (hh 0 1).toNat (40, (-1), tt)).2.2; (let t152 : Int := (if what = 0 then bst_52 else (if bst_52 = (-1) then bst_52 else soon_52)); (0, t152, ee, tt52))))) else (0, (-1), ee, tt))) else ((n_range what 0 1), 0, n_ref ee (n_range what 0 1), tt)) else ((n_range bu 1 20), 0, n_ref ee (n_range bu 1 20), tt)) else ((n_row (hh 0 10) k), 0, n_ref ee (n_row (hh 0 10) k), tt))
theorem mc_light {S : am_S} {d u : Nat} {w : AH} {hb sp rb rs : Nat} {po ro : AV} (hl : 109 ≤ w.length) (hp : hb = 1 ∧ sp = 21 ∨ hb = 21 ∧ sp = 1) (hr : rb = 41 ∧ rs = 46 ∨ rb = 46 ∧ rs = 41) {ee : am_F} {hh : am_F} {ss : am_F} {uu : am_F} {vv : am_F} {pp : am_F} {kk : am_F} {rr : am_F} {tt : am_F} {gg : am_F} {aa : am_F} {dd : am_F} {bd : am_F} {ga : am_F} {im : am_F} (k : Int) (bu : Int) (what : Int) (hI : HbI hh) (hTI : RnI tt) (hu : 1 ≤ u) (hd : 7 ≤ d) : am_Out S zX11_light d u [aR 0, aI k, aI bu, aI what] (hfW w hb sp rb rs hb po ro ee hh ss uu vv pp kk rr tt gg aa dd bd ga im) (am_oc ((c_light hb ee hh tt k bu what).1) ((c_light hb ee hh tt k bu what).2.1)) (hfW w hb sp rb rs hb po ro ((c_light hb ee hh tt k bu what).2.2.1) hh ss uu vv pp kk rr ((c_light hb ee hh tt k bu what).2.2.2) gg aa dd bd ga im) := by
  have key : ∀ Q : AO → AH → Prop, Q (am_oc ((c_light hb ee hh tt k bu what).1) ((c_light hb ee hh tt k bu what).2.1)) (hfW w hb sp rb rs hb po ro ((c_light hb ee hh tt k bu what).2.2.1) hh ss uu vv pp kk rr ((c_light hb ee hh tt k bu what).2.2.2) gg aa dd bd ga im) → am_M S zX11_light d u [aR 0, aI k, aI bu, aI what] (hfW w hb sp rb rs hb po ro ee hh ss uu vv pp kk rr tt gg aa dd bd ga im) Q := by
    intro Q hQ
    refine am_body rfl (by decide +kernel) rfl (am_cats_cons rfl ( am_cats_cons rfl ( am_cats_cons rfl ( am_cats_cons rfl (am_cats_nil))))) (Nat.le_of_ble_eq_true rfl) (?_ : am_T _ _ _ _ _ 0 [some (aR 0), some (aI k), some (aI bu), some (aI what), none, none, none, none, none] [] (hfW w hb sp rb rs hb po ro ee hh ss uu vv pp kk rr tt gg aa dd bd ga im))
    obtain ⟨vh1, vh2, vh3, vh4, vh5, vh6, vh7, vh8, vh9, vh10, vh11, vh12, vh13, vh14, vh15, vh16, vh17, vh18, vh19, vh20, vh21, vh22⟩ := (HbI_A hI).1
    refine T_aload_n (am_dec tX11_light_0 0 rfl) rfl ?_
    refine T_aload_n (am_dec tX11_light_0 1 rfl) rfl ?_
    refine T_getfield 10 0 (am_dec tX11_light_0 2 rfl) flX11_10_10 (show (hfW w hb sp rb rs hb po ro ee hh ss uu vv pp kk rr tt gg aa dd bd ga im)[0]? = some (cO 10 [aR hb, aR sp, aR rb, aR rs, aR 52, aR 53, aR 51, aI (ee 0 7), aI (ee 0 8), aR 54, aR 64, aR 74, aR 77, aR 83, aR 84, aR 86, aR 88, aI (ee 0 17), aR 107, aR 108]) from (hfW_c hl 0 (by decide))) rfl ?_
    refine T_getfield 3 10 (am_dec tX11_light_0 3 rfl) flX11_167_3 (show (hfW w hb sp rb rs hb po ro ee hh ss uu vv pp kk rr tt gg aa dd bd ga im)[hb]? = some (cO 3 [aI (hh 0 0), aI (hh 0 1), aI (hh 0 2), aR (hb + 1), aR (hb + 3), aR (hb + 5), aR (hb + 7), aR (hb + 9), aR (hb + 11), aR (hb + 13), aR (hb + 15), aR (hb + 17), aR (hb + 18), aR (hb + 19)]) from ((hf_H hl hp) 0 (by decide))) rfl ?_
    refine T_iload_n (am_dec tX11_light_0 4 rfl) rfl ?_
    refine T_callVo (as := [aR (hb + 15), aI k]) (code := n_row (hh 0 10) k) rfl (am_dec tX11_light_0 5 rfl) lkX11_190 (show (hfW w hb sp rb rs hb po ro ee hh ss uu vv pp kk rr tt gg aa dd bd ga im)[0]? = some (cO 10 [aR hb, aR sp, aR rb, aR rs, aR 52, aR 53, aR 51, aI (ee 0 7), aI (ee 0 8), aR 54, aR 64, aR 74, aR 77, aR 83, aR 84, aR 86, aR 88, aI (ee 0 17), aR 107, aR 108]) from (hfW_c hl 0 (by decide))) rfl rfl (Nat.le_of_ble_eq_true rfl) (by omega) (by omega) (fun hN9 => (mx_row0 (d := d - 1) hl hp hr k (show (hfW w hb sp rb rs hb po ro ee hh ss uu vv pp kk rr tt gg aa dd bd ga im)[hb + 15]? = some (cO 9 [aI 4, aR (hb + 16), aI (hh 0 10)]) from ((hf_H hl hp) 15 (by decide))) (show (hfW w hb sp rb rs hb po ro ee hh ss uu vv pp kk rr tt gg aa dd bd ga im)[hb + 16]? = some (cP 0 48 (hh 8)) from ((hf_H hl hp) 16 (by decide))) (by omega) hN9 (by omega))) (fun hN9 => (x_rowX (d := d - 1) hl hp hr k (show (hfW w hb sp rb rs hb po ro ee hh ss uu vv pp kk rr tt gg aa dd bd ga im)[hb + 15]? = some (cO 9 [aI 4, aR (hb + 16), aI (hh 0 10)]) from ((hf_H hl hp) 15 (by decide))) (show (hfW w hb sp rb rs hb po ro ee hh ss uu vv pp kk rr tt gg aa dd bd ga im)[hb + 16]? = some (cP 0 48 (hh 8)) from ((hf_H hl hp) 16 (by decide))) (by omega) hN9 (by omega) (by omega))) (fun hN9 => ?_) (fun hN9 => ?_)
    · exact (am_tr (fun (x9 : Int × Int × am_F × am_F) => Q (am_oc (x9.1) (x9.2.1)) (hfW w hb sp rb rs hb po ro x9.2.2.1 hh ss uu vv pp kk rr x9.2.2.2 gg aa dd bd ga im)) (y := ((n_row (hh 0 10) k), 0, n_ref ee (n_row (hh 0 10) k), tt)) (show (c_light hb ee hh tt k bu what) = ((n_row (hh 0 10) k), 0, n_ref ee (n_row (hh 0 10) k), tt) from (if_neg hN9)) hQ)
    have hk9 := n_row_0 hN9
    refine T_aload_n (am_dec tX11_light_0 6 rfl) rfl ?_
    refine T_iload_n (am_dec tX11_light_0 7 rfl) rfl ?_
    refine T_iconst 1 (am_dec tX11_light_0 8 rfl) rfl ⟨by decide, by decide⟩ ?_
    refine T_bipush 20 (am_dec tX11_light_0 9 rfl) rfl ⟨by decide, by decide⟩ ?_
    refine T_callVo (as := [aI bu, aI 1, aI 20]) (code := n_range bu 1 20) rfl (am_dec tX11_light_0 10 rfl) lkX11_117 (show (hfW w hb sp rb rs hb po ro ee hh ss uu vv pp kk rr tt gg aa dd bd ga im)[0]? = some (cO 10 [aR hb, aR sp, aR rb, aR rs, aR 52, aR 53, aR 51, aI (ee 0 7), aI (ee 0 8), aR 54, aR 64, aR 74, aR 77, aR 83, aR 84, aR 86, aR 88, aI (ee 0 17), aR 107, aR 108]) from (hfW_c hl 0 (by decide))) rfl rfl (Nat.le_of_ble_eq_true rfl) (by omega) (by omega) (fun hN17 => (mx_range0 (d := d - 1) hl hp hr bu 1 20  hN17 (by omega))) (fun hN17 => (x_rangeX (d := d - 1) hl hp hr bu 1 20  hN17 (by omega) (by omega))) (fun hN17 => ?_) (fun hN17 => ?_)
    · exact (am_tr (fun (x9 : Int × Int × am_F × am_F) => Q (am_oc (x9.1) (x9.2.1)) (hfW w hb sp rb rs hb po ro x9.2.2.1 hh ss uu vv pp kk rr x9.2.2.2 gg aa dd bd ga im)) (y := ((n_range bu 1 20), 0, n_ref ee (n_range bu 1 20), tt)) (show (c_light hb ee hh tt k bu what) = ((n_range bu 1 20), 0, n_ref ee (n_range bu 1 20), tt) from ((if_pos hN9).trans (if_neg hN17))) hQ)
    have hk17 := n_range_0 hN17
    refine T_aload_n (am_dec tX11_light_0 11 rfl) rfl ?_
    refine T_iload_n (am_dec tX11_light_0 12 rfl) rfl ?_
    refine T_iconst 0 (am_dec tX11_light_0 13 rfl) rfl ⟨by decide, by decide⟩ ?_
    refine T_iconst 1 (am_dec tX11_light_0 14 rfl) rfl ⟨by decide, by decide⟩ ?_
    refine T_callVo (as := [aI what, aI 0, aI 1]) (code := n_range what 0 1) rfl (am_dec tX11_light_0 15 rfl) lkX11_117 (show (hfW w hb sp rb rs hb po ro ee hh ss uu vv pp kk rr tt gg aa dd bd ga im)[0]? = some (cO 10 [aR hb, aR sp, aR rb, aR rs, aR 52, aR 53, aR 51, aI (ee 0 7), aI (ee 0 8), aR 54, aR 64, aR 74, aR 77, aR 83, aR 84, aR 86, aR 88, aI (ee 0 17), aR 107, aR 108]) from (hfW_c hl 0 (by decide))) rfl rfl (Nat.le_of_ble_eq_true rfl) (by omega) (by omega) (fun hN24 => (mx_range0 (d := d - 1) hl hp hr what 0 1  hN24 (by omega))) (fun hN24 => (x_rangeX (d := d - 1) hl hp hr what 0 1  hN24 (by omega) (by omega))) (fun hN24 => ?_) (fun hN24 => ?_)
    · exact (am_tr (fun (x9 : Int × Int × am_F × am_F) => Q (am_oc (x9.1) (x9.2.1)) (hfW w hb sp rb rs hb po ro x9.2.2.1 hh ss uu vv pp kk rr x9.2.2.2 gg aa dd bd ga im)) (y := ((n_range what 0 1), 0, n_ref ee (n_range what 0 1), tt)) (show (c_light hb ee hh tt k bu what) = ((n_range what 0 1), 0, n_ref ee (n_range what 0 1), tt) from ((if_pos hN9).trans ((if_pos hN17).trans (if_neg hN24)))) hQ)
    have hk24 := n_range_0 hN24
    refine T_aload_n (am_dec tX11_light_0 16 rfl) rfl ?_
    refine T_getfield 10 0 (am_dec tX11_light_0 17 rfl) flX11_10_10 (show (hfW w hb sp rb rs hb po ro ee hh ss uu vv pp kk rr tt gg aa dd bd ga im)[0]? = some (cO 10 [aR hb, aR sp, aR rb, aR rs, aR 52, aR 53, aR 51, aI (ee 0 7), aI (ee 0 8), aR 54, aR 64, aR 74, aR 77, aR 83, aR 84, aR 86, aR 88, aI (ee 0 17), aR 107, aR 108]) from (hfW_c hl 0 (by decide))) rfl ?_
    refine T_getfield 3 5 (am_dec tX11_light_0 18 rfl) flX11_158_3 (show (hfW w hb sp rb rs hb po ro ee hh ss uu vv pp kk rr tt gg aa dd bd ga im)[hb]? = some (cO 3 [aI (hh 0 0), aI (hh 0 1), aI (hh 0 2), aR (hb + 1), aR (hb + 3), aR (hb + 5), aR (hb + 7), aR (hb + 9), aR (hb + 11), aR (hb + 13), aR (hb + 15), aR (hb + 17), aR (hb + 18), aR (hb + 19)]) from ((hf_H hl hp) 0 (by decide))) rfl ?_
    refine T_callV (as := []) rfl (am_dec tX11_light_0 19 rfl) lkX11_312 (show (hfW w hb sp rb rs hb po ro ee hh ss uu vv pp kk rr tt gg aa dd bd ga im)[hb + 5]? = some (cO 9 [aI 6, aR (hb + 6), aI (hh 0 5)]) from ((hf_H hl hp) 5 (by decide))) rfl rfl (Nat.le_of_ble_eq_true rfl) (by omega) (m_full (d := d - 1) (show (hfW w hb sp rb rs hb po ro ee hh ss uu vv pp kk rr tt gg aa dd bd ga im)[hb + 5]? = some (cO 9 [aI 6, aR (hb + 6), aI (hh 0 5)]) from ((hf_H hl hp) 5 (by decide))) (show (hfW w hb sp rb rs hb po ro ee hh ss uu vv pp kk rr tt gg aa dd bd ga im)[hb + 6]? = some (cP 0 48 (hh 3)) from ((hf_H hl hp) 6 (by decide))) (by omega)) (fun _ => ?_)
    refine T_nm (fun z34 hz34 => ?_)
    have hb34 : z34 = 0 ∧ hh 0 5 < 6 ∨ z34 = 1 ∧ 6 ≤ hh 0 5 := by rw [hz34]; split <;> omega
    refine T_if_eq 42 (am_dec tX11_light_0 20 rfl) rfl (fun h37 => ?_) (fun h37 => ?_)
    · refine T_bipush 40 (am_dec tX11_light_0 23 rfl) rfl ⟨by decide, by decide⟩ ?_
      refine T_istore (ls' := [some (aR 0), some (aI k), some (aI bu), some (aI what), some (aI 40), none, none, none, none]) (am_dec tX11_light_0 24 rfl) (by decide) rfl ?_
      refine T_iconst (-1) (am_dec tX11_light_0 25 rfl) rfl ⟨by decide, by decide⟩ ?_
      refine T_istore (ls' := [some (aR 0), some (aI k), some (aI bu), some (aI what), some (aI 40), some (aI (-1)), none, none, none]) (am_dec tX11_light_0 26 rfl) (by decide) rfl ?_
      refine T_iconst 0 (am_dec tX11_light_0 27 rfl) rfl ⟨by decide, by decide⟩ ?_
      refine T_istore (ls' := [some (aR 0), some (aI k), some (aI bu), some (aI what), some (aI 40), some (aI (-1)), some (aI 0), none, none]) (am_dec tX11_light_0 28 rfl) (by decide) rfl ?_
      refine L_c_light_52 hl hp hr ee hh ss uu vv pp kk rr gg aa dd bd ga im k bu what  hI (by omega) (by omega) _ rfl (hh 0 1).toNat 0 40 (-1) tt (by omega) (by omega) ⟨by omega, hTI⟩ (fun soon_52 bst_52 tt52 hsoon_52 hbst_52 htt52 hv52 => ?_)
      refine T_iload_n (am_dec tX11_light_1 37 rfl) rfl ?_
      have K152 : ∀ (t152 : Int), t152 = (if what = 0 then bst_52 else (if bst_52 = (-1) then bst_52 else soon_52)) →  am_T S zX11_light d u Q 168 [none, none, none, none, none, none, none, none, none] [aI t152] (hfW w hb sp rb rs hb po ro ee hh ss uu vv pp kk rr tt52 gg aa dd bd ga im) := by
        intro t152 ht152 
        exact T_ireturn (am_dec tX11_light_2 5 rfl) rfl (am_tr (fun (x9 : Int × Int × am_F × am_F) => Q (am_oc (x9.1) (x9.2.1)) (hfW w hb sp rb rs hb po ro x9.2.2.1 hh ss uu vv pp kk rr x9.2.2.2 gg aa dd bd ga im)) (y := (0, t152, ee, tt52)) (show (c_light hb ee hh tt k bu what) = (0, t152, ee, tt52) from (by have s9 := hz34.symm; subst s9; have s9 := hsoon_52.symm; subst s9; have s9 := hbst_52.symm; subst s9; have s9 := htt52.symm; subst s9; have s9 := ht152.symm; subst s9; exact ((if_pos hN9).trans ((if_pos hN17).trans ((if_pos hN24).trans (if_pos h37)))))) hQ)
      refine T_if_eq 161 (am_dec tX11_light_1 38 rfl) rfl (fun h152 => ?_) (fun h152 => ?_)
      · refine T_iload (am_dec tX11_light_2 2 rfl) rfl ?_
        refine T_goto 168 (am_dec tX11_light_2 3 rfl) rfl ?_
        refine T_weak (ls' := [none, none, none, none, none, none, none, none, none]) (am_sub_n (am_sub_n (am_sub_n (am_sub_n (am_sub_n (am_sub_n (am_sub_n (am_sub_n (am_sub_n am_sub_nil))))))))) ?_
        exact K152 _ (if_pos h152).symm 
      · refine T_iload (am_dec tX11_light_1 39 rfl) rfl ?_
        refine T_iconst (-1) (am_dec tX11_light_2 0 rfl) rfl ⟨by decide, by decide⟩ ?_
        have K158 : ∀ (t158 : Int), t158 = (if bst_52 = (-1) then bst_52 else soon_52) →  am_T S zX11_light d u Q 168 [none, none, none, none, none, none, none, none, none] [aI t158] (hfW w hb sp rb rs hb po ro ee hh ss uu vv pp kk rr tt52 gg aa dd bd ga im) := by
          intro t158 ht158 
          exact K152 _ (by have s9 := ht158.symm; subst s9; exact (if_neg h152).symm) 
        refine T_icmp_ne 166 (am_dec tX11_light_2 1 rfl) rfl (fun h158 => ?_) (fun h158 => ?_)
        · refine T_iload (am_dec tX11_light_2 4 rfl) rfl ?_
          refine T_weak (ls' := [none, none, none, none, none, none, none, none, none]) (am_sub_n (am_sub_n (am_sub_n (am_sub_n (am_sub_n (am_sub_n (am_sub_n (am_sub_n (am_sub_n am_sub_nil))))))))) ?_
          exact K158 _ (if_neg h158).symm 
        · refine T_iload (am_dec tX11_light_2 2 rfl) rfl ?_
          refine T_goto 168 (am_dec tX11_light_2 3 rfl) rfl ?_
          refine T_weak (ls' := [none, none, none, none, none, none, none, none, none]) (am_sub_n (am_sub_n (am_sub_n (am_sub_n (am_sub_n (am_sub_n (am_sub_n (am_sub_n (am_sub_n am_sub_nil))))))))) ?_
          exact K158 _ (if_pos h158).symm 
    · refine T_iconst (-1) (am_dec tX11_light_0 21 rfl) rfl ⟨by decide, by decide⟩ ?_
      exact T_ireturn (am_dec tX11_light_0 22 rfl) rfl (am_tr (fun (x9 : Int × Int × am_F × am_F) => Q (am_oc (x9.1) (x9.2.1)) (hfW w hb sp rb rs hb po ro x9.2.2.1 hh ss uu vv pp kk rr x9.2.2.2 gg aa dd bd ga im)) (y := (0, (-1), ee, tt)) (show (c_light hb ee hh tt k bu what) = (0, (-1), ee, tt) from (by have s9 := hz34.symm; subst s9; exact ((if_pos hN9).trans ((if_pos hN17).trans ((if_pos hN24).trans (if_neg h37)))))) hQ)
  exact key _ ⟨rfl, rfl⟩
