/-! set; what is seen over all steps; ways -/
theorem Rn_Rn0 {w : AH} {b hb : Nat} {r : am_F} (h : Rn w b hb r) : Rn0 w b (aR hb) r := ⟨h 0 (by decide), fun k h1 h2 => (h k h2).trans (congrArg some (by
  match k, h1 with
  | 1, _ => rfl
  | 2, _ => rfl
  | 3, _ => rfl
  | 4, _ => rfl
  | 5, _ => rfl
  | 6, _ => rfl
  | 7, _ => rfl
  | 8, _ => rfl
  | n + 9, _ => rfl))⟩
def f_beginT (hb : Nat) (h t : am_F) : am_F := am_put (f_begin h t) 0 0 (hb : Int)
theorem f_fogOn_B {r : am_F} (h : RnF r) (c s : Int) : 0 ≤ f_fogOn r c s ∧ f_fogOn r c s ≤ 99 := f_fogOn_b h c s
def c_count (ee : am_F) (what : Int) : Int := (if what = 0 then (ee 0 17) else (if what = 1 then (ee 0 7) else (-1)))
theorem mc_count {S : am_S} {d u : Nat} {w : AH} {hb sp rb rs : Nat} {po ro : AV} (hl : 109 ≤ w.length) (hp : hb = 1 ∧ sp = 21 ∨ hb = 21 ∧ sp = 1) (hr : rb = 41 ∧ rs = 46 ∨ rb = 46 ∧ rs = 41) {ee : am_F} {hh : am_F} {ss : am_F} {uu : am_F} {vv : am_F} {pp : am_F} {kk : am_F} {rr : am_F} {tt : am_F} {gg : am_F} {aa : am_F} {dd : am_F} {bd : am_F} {ga : am_F} {im : am_F} (what : Int)   (hd : 1 ≤ d) : am_Out S zX11_count d u [aR 0, aI what] (hfW w hb sp rb rs hb po ro ee hh ss uu vv pp kk rr tt gg aa dd bd ga im) (.inl (some (aI (c_count ee what)))) (hfW w hb sp rb rs hb po ro ee hh ss uu vv pp kk rr tt gg aa dd bd ga im) := by
  have key : ∀ Q : AO → AH → Prop, Q (.inl (some (aI (c_count ee what)))) (hfW w hb sp rb rs hb po ro ee hh ss uu vv pp kk rr tt gg aa dd bd ga im) → am_M S zX11_count d u [aR 0, aI what] (hfW w hb sp rb rs hb po ro ee hh ss uu vv pp kk rr tt gg aa dd bd ga im) Q := by
    intro Q hQ
    refine am_body rfl (by decide +kernel) rfl (am_cats_cons rfl ( am_cats_cons rfl (am_cats_nil))) (Nat.le_of_ble_eq_true rfl) (?_ : am_T _ _ _ _ _ 0 [some (aR 0), some (aI what)] [] (hfW w hb sp rb rs hb po ro ee hh ss uu vv pp kk rr tt gg aa dd bd ga im))
    refine T_iload_n (am_dec tX11_count_0 0 rfl) rfl ?_
    by_cases e1_0 : what = 0
    · refine T_lookup (off := 27) 28 (am_dec tX11_count_0 1 rfl) (by decide) (if_pos e1_0.symm) rfl ?_
      refine T_aload_n (am_dec tX11_count_0 2 rfl) rfl ?_
      refine T_getfield 10 17 (am_dec tX11_count_0 3 rfl) flX11_143_10 (show (hfW w hb sp rb rs hb po ro ee hh ss uu vv pp kk rr tt gg aa dd bd ga im)[0]? = some (cO 10 [aR hb, aR sp, aR rb, aR rs, aR 52, aR 53, aR 51, aI (ee 0 7), aI (ee 0 8), aR 54, aR 64, aR 74, aR 77, aR 83, aR 84, aR 86, aR 88, aI (ee 0 17), aR 107, aR 108]) from (hfW_c hl 0 (by decide))) rfl ?_
      exact T_ireturn (am_dec tX11_count_0 4 rfl) rfl (am_tr (fun (x9 : Int) => Q (.inl (some (aI (x9)))) (hfW w hb sp rb rs hb po ro ee hh ss uu vv pp kk rr tt gg aa dd bd ga im)) (y := (ee 0 17)) (show (c_count ee what) = (ee 0 17) from (if_pos e1_0)) hQ)
    by_cases e1_1 : what = 1
    · refine T_lookup (off := 32) 33 (am_dec tX11_count_0 1 rfl) (by decide) ((if_neg (fun q9 => e1_0 q9.symm)).trans (if_pos e1_1.symm)) rfl ?_
      refine T_aload_n (am_dec tX11_count_0 5 rfl) rfl ?_
      refine T_getfield 10 7 (am_dec tX11_count_0 6 rfl) flX11_111_10 (show (hfW w hb sp rb rs hb po ro ee hh ss uu vv pp kk rr tt gg aa dd bd ga im)[0]? = some (cO 10 [aR hb, aR sp, aR rb, aR rs, aR 52, aR 53, aR 51, aI (ee 0 7), aI (ee 0 8), aR 54, aR 64, aR 74, aR 77, aR 83, aR 84, aR 86, aR 88, aI (ee 0 17), aR 107, aR 108]) from (hfW_c hl 0 (by decide))) rfl ?_
      exact T_ireturn (am_dec tX11_count_0 7 rfl) rfl (am_tr (fun (x9 : Int) => Q (.inl (some (aI (x9)))) (hfW w hb sp rb rs hb po ro ee hh ss uu vv pp kk rr tt gg aa dd bd ga im)) (y := (ee 0 7)) (show (c_count ee what) = (ee 0 7) from ((if_neg e1_0).trans (if_pos e1_1))) hQ)
    refine T_lookup (off := 37) 38 (am_dec tX11_count_0 1 rfl) (by decide) ((if_neg (fun q9 => e1_0 q9.symm)).trans ((if_neg (fun q9 => e1_1 q9.symm)))) rfl ?_
    refine T_iconst (-1) (am_dec tX11_count_0 8 rfl) rfl ⟨by decide, by decide⟩ ?_
    exact T_ireturn (am_dec tX11_count_0 9 rfl) rfl (am_tr (fun (x9 : Int) => Q (.inl (some (aI (x9)))) (hfW w hb sp rb rs hb po ro ee hh ss uu vv pp kk rr tt gg aa dd bd ga im)) (y := (-1)) (show (c_count ee what) = (-1) from ((if_neg e1_0).trans (if_neg e1_1))) hQ)
  exact key _ ⟨rfl, rfl⟩
def c_beginAgain (hh : am_F) (rr : am_F) (dd : am_F) : am_F × am_F := (let rr8 : am_F := f_begin hh rr; (rr8, (am_put dd 0 0 0)))
theorem mc_beginAgain {S : am_S} {d u : Nat} {w : AH} {hb sp rb rs : Nat} {po ro : AV} (hl : 109 ≤ w.length) (hp : hb = 1 ∧ sp = 21 ∨ hb = 21 ∧ sp = 1) (hr : rb = 41 ∧ rs = 46 ∨ rb = 46 ∧ rs = 41) {ee : am_F} {hh : am_F} {ss : am_F} {uu : am_F} {vv : am_F} {pp : am_F} {kk : am_F} {rr : am_F} {tt : am_F} {gg : am_F} {aa : am_F} {dd : am_F} {bd : am_F} {ga : am_F} {im : am_F}  (hI : HbI hh) (hRI : RnI rr)  (hd : 3 ≤ d) : am_Out S zX11_beginAgain d u [aR 0] (hfW w hb sp rb rs hb po ro ee hh ss uu vv pp kk rr tt gg aa dd bd ga im) (.inl none) (hfW w hb sp rb rs hb po ro ee hh ss uu vv pp kk ((c_beginAgain hh rr dd).1) tt gg aa ((c_beginAgain hh rr dd).2) bd ga im) := by
  have key : ∀ Q : AO → AH → Prop, Q (.inl none) (hfW w hb sp rb rs hb po ro ee hh ss uu vv pp kk ((c_beginAgain hh rr dd).1) tt gg aa ((c_beginAgain hh rr dd).2) bd ga im) → am_M S zX11_beginAgain d u [aR 0] (hfW w hb sp rb rs hb po ro ee hh ss uu vv pp kk rr tt gg aa dd bd ga im) Q := by
    intro Q hQ
    refine am_body rfl (by decide +kernel) rfl (am_cats_cons rfl (am_cats_nil)) (Nat.le_of_ble_eq_true rfl) (?_ : am_T _ _ _ _ _ 0 [some (aR 0)] [] (hfW w hb sp rb rs hb po ro ee hh ss uu vv pp kk rr tt gg aa dd bd ga im))
    obtain ⟨vh1, vh2, vh3, vh4, vh5, vh6, vh7, vh8, vh9, vh10, vh11, vh12, vh13, vh14, vh15, vh16, vh17, vh18, vh19, vh20, vh21, vh22⟩ := (HbI_A hI).1
    refine T_aload_n (am_dec tX11_beginAgain_0 0 rfl) rfl ?_
    refine T_getfield 10 9 (am_dec tX11_beginAgain_0 1 rfl) flX11_58_10 (show (hfW w hb sp rb rs hb po ro ee hh ss uu vv pp kk rr tt gg aa dd bd ga im)[0]? = some (cO 10 [aR hb, aR sp, aR rb, aR rs, aR 52, aR 53, aR 51, aI (ee 0 7), aI (ee 0 8), aR 54, aR 64, aR 74, aR 77, aR 83, aR 84, aR 86, aR 88, aI (ee 0 17), aR 107, aR 108]) from (hfW_c hl 0 (by decide))) rfl ?_
    refine T_aload_n (am_dec tX11_beginAgain_0 2 rfl) rfl ?_
    refine T_getfield 10 0 (am_dec tX11_beginAgain_0 3 rfl) flX11_10_10 (show (hfW w hb sp rb rs hb po ro ee hh ss uu vv pp kk rr tt gg aa dd bd ga im)[0]? = some (cO 10 [aR hb, aR sp, aR rb, aR rs, aR 52, aR 53, aR 51, aI (ee 0 7), aI (ee 0 8), aR 54, aR 64, aR 74, aR 77, aR 83, aR 84, aR 86, aR 88, aI (ee 0 17), aR 107, aR 108]) from (hfW_c hl 0 (by decide))) rfl ?_
    refine T_callV (as := [aR hb]) rfl (am_dec tX11_beginAgain_0 4 rfl) lkX11_207 (show (hfW w hb sp rb rs hb po ro ee hh ss uu vv pp kk rr tt gg aa dd bd ga im)[54]? = some (cO 8 [aR hb, aI (rr 0 1), aI (rr 0 2), aI (rr 0 3), aI (rr 0 4), aI (rr 0 5), aR 55, aR 56, aR 57, aR 58, aR 59, aR 60, aR 61, aR 62, aR 63]) from (hfW_c hl 54 (by decide))) rfl rfl (Nat.le_of_ble_eq_true rfl) (by omega) (am_OutE (m_begin (d := d - 1) (w := hfW w hb sp rb rs hb po ro ee hh ss uu vv pp kk rr tt gg aa dd bd ga im) (Rn_Rn0 (hf_R hl)) (by omega) (hf_H hl hp) (HbI_A hI).1 hRI.2.1 (HbI_Fs hI) (by omega)) rfl hf_uR) (fun _ => ?_)
    refine T_nmH (W := fun x9 => hfW w hb sp rb rs hb po ro ee hh ss uu vv pp kk x9 tt gg aa dd bd ga im) (v := f_begin hh rr) (fun rr8 hrr8 => ?_)
    have hIrr8 : RnI rr8 := by rw [hrr8]; exact f_begin_I (HbI_Fs hI) hRI.2.1
    refine T_aload_n (am_dec tX11_beginAgain_0 5 rfl) rfl ?_
    refine T_getfield 10 13 (am_dec tX11_beginAgain_0 6 rfl) flX11_82_10 (show (hfW w hb sp rb rs hb po ro ee hh ss uu vv pp kk rr8 tt gg aa dd bd ga im)[0]? = some (cO 10 [aR hb, aR sp, aR rb, aR rs, aR 52, aR 53, aR 51, aI (ee 0 7), aI (ee 0 8), aR 54, aR 64, aR 74, aR 77, aR 83, aR 84, aR 86, aR 88, aI (ee 0 17), aR 107, aR 108]) from (hfW_c hl 0 (by decide))) rfl ?_
    refine T_iconst 0 (am_dec tX11_beginAgain_0 7 rfl) rfl ⟨by decide, by decide⟩ ?_
    refine T_putfield (fs' := [aI 0, aI (dd 0 1), aI (dd 0 2), aI (dd 0 3), aI (dd 0 4), aI (dd 0 5), aI (dd 0 6)]) 1 0 (am_dec tX11_beginAgain_0 8 rfl) flX11_392_1 rfl rfl rfl (Or.inl rfl) (show (hfW w hb sp rb rs hb po ro ee hh ss uu vv pp kk rr8 tt gg aa dd bd ga im)[83]? = some (cO 1 [aI (dd 0 0), aI (dd 0 1), aI (dd 0 2), aI (dd 0 3), aI (dd 0 4), aI (dd 0 5), aI (dd 0 6)]) from (hfW_c hl 83 (by decide))) (Nat.le_of_ble_eq_true rfl) rfl ?_
    refine am_wE (w2 := hfW w hb sp rb rs hb po ro ee hh ss uu vv pp kk rr8 tt gg aa (am_put dd 0 0 0) bd ga im) (hf_dd0 hl) ?_
    exact T_return (am_dec tX11_beginAgain_0 9 rfl) rfl (am_tr (fun (x9 : am_F × am_F) => Q (.inl none) (hfW w hb sp rb rs hb po ro ee hh ss uu vv pp kk x9.1 tt gg aa x9.2 bd ga im)) (y := (rr8, (am_put dd 0 0 0))) (show (c_beginAgain hh rr dd) = (rr8, (am_put dd 0 0 0)) from (by have s9 := hrr8.symm; subst s9; exact rfl)) hQ)
  exact key _ ⟨rfl, rfl⟩
def g_c_whose_23 (rr : am_F) (x : Int) (y : Int) (v5 : Int) (x9 : Int × Int) : Int × Int := let v3 := x9.1; let v4 := x9.2; (let v50 : Int := f_burntOn rr v5 (x + (10 * y)); (let v3_58 : Int := (if v50 ≤ v3 then v3 else v50); (let v4_58 : Int := (if v50 ≤ v3 then v4 else v5); (v3_58, v4_58))))
theorem L_c_whose_23 {S : am_S} {d u : Nat} {Q : AO → AH → Prop} {w : AH} {hb sp rb rs : Nat} {po ro : AV} (hl : 109 ≤ w.length) (hp : hb = 1 ∧ sp = 21 ∨ hb = 21 ∧ sp = 1) (hr : rb = 41 ∧ rs = 46 ∨ rb = 46 ∧ rs = 41) (ee : am_F) (hh : am_F) (ss : am_F) (uu : am_F) (vv : am_F) (pp : am_F) (kk : am_F) (rr : am_F) (tt : am_F) (gg : am_F) (aa : am_F) (dd : am_F) (bd : am_F) (ga : am_F) (im : am_F) (x : Int) (y : Int) (hI : HbI hh) (hRI : RnI rr) (hxy : (0 ≤ x ∧ x ≤ 8) ∧ 0 ≤ y ∧ y ≤ 8) (hd : 7 ≤ d) (B9 : Int) (hB : B9 = hh 0 5) : ∀ (n : Nat) (v5 : Int) (v3 : Int) (v4 : Int), v5 + n = B9 → 0 ≤ v5 → (∀ (v3' : Int) (v4' : Int), v3' = (am_fold (g_c_whose_23 rr x y) v5 n (v3, v4)).1 → v4' = (am_fold (g_c_whose_23 rr x y) v5 n (v3, v4)).2 → am_T S zX11_whose d u Q 74 [none, none, none, none, some (aI v4'), none, none] [] (hfW w hb sp rb rs hb po ro ee hh ss uu vv pp kk rr tt gg aa dd bd ga im)) → am_T S zX11_whose d u Q 23 [some (aR 0), some (aI x), some (aI y), some (aI v3), some (aI v4), some (aI v5), none] [] (hfW w hb sp rb rs hb po ro ee hh ss uu vv pp kk rr tt gg aa dd bd ga im) := by
  intro n
  induction n with
  | zero =>
    intro v5 v3 v4 hi9 h0i k9
    have e9 : v5 = B9 := by omega
    subst e9
    obtain ⟨vh1, vh2, vh3, vh4, vh5, vh6, vh7, vh8, vh9, vh10, vh11, vh12, vh13, vh14, vh15, vh16, vh17, vh18, vh19, vh20, vh21, vh22⟩ := (HbI_A hI).1
    refine T_iload (am_dec tX11_whose_0 14 rfl) rfl ?_
    refine T_aload_n (am_dec tX11_whose_0 15 rfl) rfl ?_
    refine T_getfield 10 0 (am_dec tX11_whose_0 16 rfl) flX11_10_10 (show (hfW w hb sp rb rs hb po ro ee hh ss uu vv pp kk rr tt gg aa dd bd ga im)[0]? = some (cO 10 [aR hb, aR sp, aR rb, aR rs, aR 52, aR 53, aR 51, aI (ee 0 7), aI (ee 0 8), aR 54, aR 64, aR 74, aR 77, aR 83, aR 84, aR 86, aR 88, aI (ee 0 17), aR 107, aR 108]) from (hfW_c hl 0 (by decide))) rfl ?_
    refine T_getfield 3 5 (am_dec tX11_whose_0 17 rfl) flX11_158_3 (show (hfW w hb sp rb rs hb po ro ee hh ss uu vv pp kk rr tt gg aa dd bd ga im)[hb]? = some (cO 3 [aI (hh 0 0), aI (hh 0 1), aI (hh 0 2), aR (hb + 1), aR (hb + 3), aR (hb + 5), aR (hb + 7), aR (hb + 9), aR (hb + 11), aR (hb + 13), aR (hb + 15), aR (hb + 17), aR (hb + 18), aR (hb + 19)]) from ((hf_H hl hp) 0 (by decide))) rfl ?_
    refine T_getfield 9 2 (am_dec tX11_whose_0 18 rfl) flX11_140_9 (show (hfW w hb sp rb rs hb po ro ee hh ss uu vv pp kk rr tt gg aa dd bd ga im)[hb + 5]? = some (cO 9 [aI 6, aR (hb + 6), aI (hh 0 5)]) from ((hf_H hl hp) 5 (by decide))) rfl ?_
    refine T_icmp_ge 74 (am_dec tX11_whose_0 19 rfl) rfl (fun h35 => ?_) (fun h35 => by exfalso; omega)
    refine T_weak (ls' := [none, none, none, none, some (aI v4), none, none]) (am_sub_n (am_sub_n (am_sub_n (am_sub_n (am_sub_s (am_sub_n (am_sub_n am_sub_nil))))))) ?_
    exact k9 v3 v4 rfl rfl
  | succ n ih =>
    intro v5 v3 v4 hi9 h0i k9
    obtain ⟨vh1, vh2, vh3, vh4, vh5, vh6, vh7, vh8, vh9, vh10, vh11, vh12, vh13, vh14, vh15, vh16, vh17, vh18, vh19, vh20, vh21, vh22⟩ := (HbI_A hI).1
    refine T_iload (am_dec tX11_whose_0 14 rfl) rfl ?_
    refine T_aload_n (am_dec tX11_whose_0 15 rfl) rfl ?_
    refine T_getfield 10 0 (am_dec tX11_whose_0 16 rfl) flX11_10_10 (show (hfW w hb sp rb rs hb po ro ee hh ss uu vv pp kk rr tt gg aa dd bd ga im)[0]? = some (cO 10 [aR hb, aR sp, aR rb, aR rs, aR 52, aR 53, aR 51, aI (ee 0 7), aI (ee 0 8), aR 54, aR 64, aR 74, aR 77, aR 83, aR 84, aR 86, aR 88, aI (ee 0 17), aR 107, aR 108]) from (hfW_c hl 0 (by decide))) rfl ?_
    refine T_getfield 3 5 (am_dec tX11_whose_0 17 rfl) flX11_158_3 (show (hfW w hb sp rb rs hb po ro ee hh ss uu vv pp kk rr tt gg aa dd bd ga im)[hb]? = some (cO 3 [aI (hh 0 0), aI (hh 0 1), aI (hh 0 2), aR (hb + 1), aR (hb + 3), aR (hb + 5), aR (hb + 7), aR (hb + 9), aR (hb + 11), aR (hb + 13), aR (hb + 15), aR (hb + 17), aR (hb + 18), aR (hb + 19)]) from ((hf_H hl hp) 0 (by decide))) rfl ?_
    refine T_getfield 9 2 (am_dec tX11_whose_0 18 rfl) flX11_140_9 (show (hfW w hb sp rb rs hb po ro ee hh ss uu vv pp kk rr tt gg aa dd bd ga im)[hb + 5]? = some (cO 9 [aI 6, aR (hb + 6), aI (hh 0 5)]) from ((hf_H hl hp) 5 (by decide))) rfl ?_
    refine T_icmp_ge 74 (am_dec tX11_whose_0 19 rfl) rfl (fun h35 => by exfalso; omega) (fun h35 => ?_)
    refine T_aload_n (am_dec tX11_whose_0 20 rfl) rfl ?_
    refine T_getfield 10 9 (am_dec tX11_whose_0 21 rfl) flX11_58_10 (show (hfW w hb sp rb rs hb po ro ee hh ss uu vv pp kk rr tt gg aa dd bd ga im)[0]? = some (cO 10 [aR hb, aR sp, aR rb, aR rs, aR 52, aR 53, aR 51, aI (ee 0 7), aI (ee 0 8), aR 54, aR 64, aR 74, aR 77, aR 83, aR 84, aR 86, aR 88, aI (ee 0 17), aR 107, aR 108]) from (hfW_c hl 0 (by decide))) rfl ?_
    refine T_iload (am_dec tX11_whose_0 22 rfl) rfl ?_
    refine T_iload_n (am_dec tX11_whose_0 23 rfl) rfl ?_
    refine T_bipush 10 (am_dec tX11_whose_0 24 rfl) rfl ⟨by decide, by decide⟩ ?_
    refine T_iload_n (am_dec tX11_whose_0 25 rfl) rfl ?_
    refine T_imul (10 * y) (am_dec tX11_whose_0 26 rfl) rfl ⟨by omega, by omega⟩ ?_
    refine T_iadd (x + (10 * y)) (am_dec tX11_whose_0 27 rfl) rfl ⟨by omega, by omega⟩ ?_
    refine T_callV (as := [aI v5, aI (x + (10 * y))]) rfl (am_dec tX11_whose_0 28 rfl) lkX11_200 (show (hfW w hb sp rb rs hb po ro ee hh ss uu vv pp kk rr tt gg aa dd bd ga im)[54]? = some (cO 8 [aR hb, aI (rr 0 1), aI (rr 0 2), aI (rr 0 3), aI (rr 0 4), aI (rr 0 5), aR 55, aR 56, aR 57, aR 58, aR 59, aR 60, aR 61, aR 62, aR 63]) from (hfW_c hl 54 (by decide))) rfl rfl (Nat.le_of_ble_eq_true rfl) (by omega) (m_burntOn (d := d - 1) (hf_R hl) v5 (x + (10 * y))) (fun _ => ?_)
    refine T_nm (fun v50 hv50 => ?_)
    refine T_istore (ls' := [some (aR 0), some (aI x), some (aI y), some (aI v3), some (aI v4), some (aI v5), some (aI v50)]) (am_dec tX11_whose_0 29 rfl) (by decide) rfl ?_
    refine T_iload (am_dec tX11_whose_0 30 rfl) rfl ?_
    refine T_iload_n (am_dec tX11_whose_0 31 rfl) rfl ?_
    have K58 : ∀ (v3_58 : Int), ∀ (v4_58 : Int), v3_58 = (if v50 ≤ v3 then v3 else v50) → v4_58 = (if v50 ≤ v3 then v4 else v5) →  am_T S zX11_whose d u Q 68 [some (aR 0), some (aI x), some (aI y), some (aI v3_58), some (aI v4_58), some (aI v5), none] [] (hfW w hb sp rb rs hb po ro ee hh ss uu vv pp kk rr tt gg aa dd bd ga im) := by
      intro v3_58 v4_58 hv3_58 hv4_58 
      refine T_iinc (ls' := [some (aR 0), some (aI x), some (aI y), some (aI v3_58), some (aI v4_58), some (aI (v5 + 1)), none]) (v5 + 1) (am_dec tX11_whose_0 37 rfl) rfl rfl ⟨by omega, by omega⟩ (by decide) rfl ?_
      refine T_goto 23 (am_dec tX11_whose_0 38 rfl) rfl ?_
      have e9 : (g_c_whose_23 rr x y) v5 (v3, v4) = (v3_58, v4_58) := (by have s9 := hv50.symm; subst s9; have s9 := hv3_58.symm; subst s9; have s9 := hv4_58.symm; subst s9; exact rfl)
      simp only [am_fold_s, e9] at k9
      exact ih (v5 + 1) v3_58 v4_58 (by omega) (by omega) k9
    refine T_icmp_le 68 (am_dec tX11_whose_0 32 rfl) rfl (fun h58 => ?_) (fun h58 => ?_)
    · refine T_weak (ls' := [some (aR 0), some (aI x), some (aI y), some (aI v3), some (aI v4), some (aI v5), none]) (am_sub_s (am_sub_s (am_sub_s (am_sub_s (am_sub_s (am_sub_s (am_sub_n am_sub_nil))))))) ?_
      exact K58 _ _ (if_pos h58).symm (if_pos h58).symm 
    · refine T_iload (am_dec tX11_whose_0 33 rfl) rfl ?_
      refine T_istore_n (ls' := [some (aR 0), some (aI x), some (aI y), some (aI v50), some (aI v4), some (aI v5), some (aI v50)]) (am_dec tX11_whose_0 34 rfl) (by decide) rfl ?_
      refine T_iload (am_dec tX11_whose_0 35 rfl) rfl ?_
      refine T_istore (ls' := [some (aR 0), some (aI x), some (aI y), some (aI v50), some (aI v5), some (aI v5), some (aI v50)]) (am_dec tX11_whose_0 36 rfl) (by decide) rfl ?_
      refine T_weak (ls' := [some (aR 0), some (aI x), some (aI y), some (aI v50), some (aI v5), some (aI v5), none]) (am_sub_s (am_sub_s (am_sub_s (am_sub_s (am_sub_s (am_sub_s (am_sub_n am_sub_nil))))))) ?_
      exact K58 _ _ (if_neg h58).symm (if_neg h58).symm 
def c_whose (ee : am_F) (hh : am_F) (rr : am_F) (x : Int) (y : Int) : Int × Int × am_F × am_F := (if n_cell hh x y = 0 then (let rr12 : am_F := f_upTo hh rr 39; (let v4_23 : Int := (am_fold (g_c_whose_23 rr12 x y) 0 (hh 0 5).toNat (0, (-1))).2; (0, v4_23, ee, rr12))) else ((n_cell hh x y), 0, n_ref ee (n_cell hh x y), rr))
theorem mc_whose {S : am_S} {d u : Nat} {w : AH} {hb sp rb rs : Nat} {po ro : AV} (hl : 109 ≤ w.length) (hp : hb = 1 ∧ sp = 21 ∨ hb = 21 ∧ sp = 1) (hr : rb = 41 ∧ rs = 46 ∨ rb = 46 ∧ rs = 41) {ee : am_F} {hh : am_F} {ss : am_F} {uu : am_F} {vv : am_F} {pp : am_F} {kk : am_F} {rr : am_F} {tt : am_F} {gg : am_F} {aa : am_F} {dd : am_F} {bd : am_F} {ga : am_F} {im : am_F} (x : Int) (y : Int) (hI : HbI hh) (hRI : RnI rr) (hu : 1 ≤ u) (hd : 7 ≤ d) : am_Out S zX11_whose d u [aR 0, aI x, aI y] (hfW w hb sp rb rs hb po ro ee hh ss uu vv pp kk rr tt gg aa dd bd ga im) (am_oc ((c_whose ee hh rr x y).1) ((c_whose ee hh rr x y).2.1)) (hfW w hb sp rb rs hb po ro ((c_whose ee hh rr x y).2.2.1) hh ss uu vv pp kk ((c_whose ee hh rr x y).2.2.2) tt gg aa dd bd ga im) := by
  have key : ∀ Q : AO → AH → Prop, Q (am_oc ((c_whose ee hh rr x y).1) ((c_whose ee hh rr x y).2.1)) (hfW w hb sp rb rs hb po ro ((c_whose ee hh rr x y).2.2.1) hh ss uu vv pp kk ((c_whose ee hh rr x y).2.2.2) tt gg aa dd bd ga im) → am_M S zX11_whose d u [aR 0, aI x, aI y] (hfW w hb sp rb rs hb po ro ee hh ss uu vv pp kk rr tt gg aa dd bd ga im) Q := by
    intro Q hQ
    refine am_body rfl (by decide +kernel) rfl (am_cats_cons rfl ( am_cats_cons rfl ( am_cats_cons rfl (am_cats_nil)))) (Nat.le_of_ble_eq_true rfl) (?_ : am_T _ _ _ _ _ 0 [some (aR 0), some (aI x), some (aI y), none, none, none, none] [] (hfW w hb sp rb rs hb po ro ee hh ss uu vv pp kk rr tt gg aa dd bd ga im))
    obtain ⟨vh1, vh2, vh3, vh4, vh5, vh6, vh7, vh8, vh9, vh10, vh11, vh12, vh13, vh14, vh15, vh16, vh17, vh18, vh19, vh20, vh21, vh22⟩ := (HbI_A hI).1
    refine T_aload_n (am_dec tX11_whose_0 0 rfl) rfl ?_
    refine T_iload_n (am_dec tX11_whose_0 1 rfl) rfl ?_
    refine T_iload_n (am_dec tX11_whose_0 2 rfl) rfl ?_
    refine T_callVo (as := [aI x, aI y]) (code := n_cell hh x y) rfl (am_dec tX11_whose_0 3 rfl) lkX11_173 (show (hfW w hb sp rb rs hb po ro ee hh ss uu vv pp kk rr tt gg aa dd bd ga im)[0]? = some (cO 10 [aR hb, aR sp, aR rb, aR rs, aR 52, aR 53, aR 51, aI (ee 0 7), aI (ee 0 8), aR 54, aR 64, aR 74, aR 77, aR 83, aR 84, aR 86, aR 88, aI (ee 0 17), aR 107, aR 108]) from (hfW_c hl 0 (by decide))) rfl rfl (Nat.le_of_ble_eq_true rfl) (by omega) (by omega) (fun hN3 => (mx_cell0 (d := d - 1) hl hp hr x y  hN3 (by omega))) (fun hN3 => (x_cellX (d := d - 1) hl hp hr x y  hN3 (by omega) (by omega))) (fun hN3 => ?_) (fun hN3 => ?_)
    · exact (am_tr (fun (x9 : Int × Int × am_F × am_F) => Q (am_oc (x9.1) (x9.2.1)) (hfW w hb sp rb rs hb po ro x9.2.2.1 hh ss uu vv pp kk x9.2.2.2 tt gg aa dd bd ga im)) (y := ((n_cell hh x y), 0, n_ref ee (n_cell hh x y), rr)) (show (c_whose ee hh rr x y) = ((n_cell hh x y), 0, n_ref ee (n_cell hh x y), rr) from (if_neg hN3)) hQ)
    have hk3 := n_cell_0 hN3
    refine T_aload_n (am_dec tX11_whose_0 4 rfl) rfl ?_
    refine T_getfield 10 9 (am_dec tX11_whose_0 5 rfl) flX11_58_10 (show (hfW w hb sp rb rs hb po ro ee hh ss uu vv pp kk rr tt gg aa dd bd ga im)[0]? = some (cO 10 [aR hb, aR sp, aR rb, aR rs, aR 52, aR 53, aR 51, aI (ee 0 7), aI (ee 0 8), aR 54, aR 64, aR 74, aR 77, aR 83, aR 84, aR 86, aR 88, aI (ee 0 17), aR 107, aR 108]) from (hfW_c hl 0 (by decide))) rfl ?_
    refine T_bipush 39 (am_dec tX11_whose_0 6 rfl) rfl ⟨by decide, by decide⟩ ?_
    refine T_callV (as := [aI 39]) rfl (am_dec tX11_whose_0 7 rfl) lkX11_177 (show (hfW w hb sp rb rs hb po ro ee hh ss uu vv pp kk rr tt gg aa dd bd ga im)[54]? = some (cO 8 [aR hb, aI (rr 0 1), aI (rr 0 2), aI (rr 0 3), aI (rr 0 4), aI (rr 0 5), aR 55, aR 56, aR 57, aR 58, aR 59, aR 60, aR 61, aR 62, aR 63]) from (hfW_c hl 54 (by decide))) rfl rfl (Nat.le_of_ble_eq_true rfl) (by omega) (am_OutE (m_upTo (d := d - 1) (w := hfW w hb sp rb rs hb po ro ee hh ss uu vv pp kk rr tt gg aa dd bd ga im) (hf_le hl (by omega)) (by omega) (hf_H hl hp) (HbI_A hI) 39 hRI.1 hRI.2.1 hRI.2.2 (by omega)) hf_uR hf_uR) (fun _ => ?_)
    refine T_nmH (W := fun x9 => hfW w hb sp rb rs hb po ro ee hh ss uu vv pp kk x9 tt gg aa dd bd ga im) (v := f_upTo hh rr 39) (fun rr12 hrr12 => ?_)
    have hIrr12 : RnI rr12 := by rw [hrr12]; exact f_upTo_I (HbI_A hI) hRI
    refine T_iconst 0 (am_dec tX11_whose_0 8 rfl) rfl ⟨by decide, by decide⟩ ?_
    refine T_istore_n (ls' := [some (aR 0), some (aI x), some (aI y), some (aI 0), none, none, none]) (am_dec tX11_whose_0 9 rfl) (by decide) rfl ?_
    refine T_iconst (-1) (am_dec tX11_whose_0 10 rfl) rfl ⟨by decide, by decide⟩ ?_
    refine T_istore (ls' := [some (aR 0), some (aI x), some (aI y), some (aI 0), some (aI (-1)), none, none]) (am_dec tX11_whose_0 11 rfl) (by decide) rfl ?_
    refine T_iconst 0 (am_dec tX11_whose_0 12 rfl) rfl ⟨by decide, by decide⟩ ?_
    refine T_istore (ls' := [some (aR 0), some (aI x), some (aI y), some (aI 0), some (aI (-1)), some (aI 0), none]) (am_dec tX11_whose_0 13 rfl) (by decide) rfl ?_
    refine L_c_whose_23 hl hp hr ee hh ss uu vv pp kk rr12 tt gg aa dd bd ga im x y hI hIrr12 (by omega) (by omega) _ rfl (hh 0 5).toNat 0 0 (-1) (by omega) (by omega) (fun v3_23 v4_23 hv3_23 hv4_23 => ?_)
    refine T_iload (am_dec tX11_whose_0 39 rfl) rfl ?_
    exact T_ireturn (am_dec tX11_whose_1 0 rfl) rfl (am_tr (fun (x9 : Int × Int × am_F × am_F) => Q (am_oc (x9.1) (x9.2.1)) (hfW w hb sp rb rs hb po ro x9.2.2.1 hh ss uu vv pp kk x9.2.2.2 tt gg aa dd bd ga im)) (y := (0, v4_23, ee, rr12)) (show (c_whose ee hh rr x y) = (0, v4_23, ee, rr12) from (by have s9 := hrr12.symm; subst s9; have s9 := hv3_23.symm; subst s9; have s9 := hv4_23.symm; subst s9; exact (if_pos hN3))) hQ)
  exact key _ ⟨rfl, rfl⟩
def g_c_thick_38 (rr : am_F) (st : Int) (v4 : Int) (v5 : Int) (x9 : Int × Int) : Int × Int := let v2 := x9.1; let v3 := x9.2; (let f63 : Int := f_fogOn rr (v5 + (10 * v4)) st; (let v2_71 : Int := (if f63 ≤ v2 then v2 else f63); (let v3_71 : Int := (if f63 ≤ v2 then v3 else (v5 + (10 * v4))); (v2_71, v3_71))))
theorem L_c_thick_38 {S : am_S} {d u : Nat} {Q : AO → AH → Prop} {w : AH} {hb sp rb rs : Nat} {po ro : AV} (hl : 109 ≤ w.length) (hp : hb = 1 ∧ sp = 21 ∨ hb = 21 ∧ sp = 1) (hr : rb = 41 ∧ rs = 46 ∨ rb = 46 ∧ rs = 41) (ee : am_F) (hh : am_F) (ss : am_F) (uu : am_F) (vv : am_F) (pp : am_F) (kk : am_F) (rr : am_F) (tt : am_F) (gg : am_F) (aa : am_F) (dd : am_F) (bd : am_F) (ga : am_F) (im : am_F) (st : Int) (v4 : Int) (hI : HbI hh) (hRI : RnI rr) (hst : -1 ≤ st ∧ st ≤ 39) (ho23 : 0 ≤ v4 ∧ v4 < hh 0 1) (hd : 7 ≤ d) (B9 : Int) (hB : B9 = hh 0 0) : ∀ (n : Nat) (v5 : Int) (v2 : Int) (v3 : Int), v5 + n = B9 → 0 ≤ v5 → (∀ (v2' : Int) (v3' : Int), v2' = (am_fold (g_c_thick_38 rr st v4) v5 n (v2, v3)).1 → v3' = (am_fold (g_c_thick_38 rr st v4) v5 n (v2, v3)).2 → am_T S zX11_thick d u Q 92 [some (aR 0), some (aI st), some (aI v2'), some (aI v3'), some (aI v4), none, none] [] (hfW w hb sp rb rs hb po ro ee hh ss uu vv pp kk rr tt gg aa dd bd ga im)) → am_T S zX11_thick d u Q 38 [some (aR 0), some (aI st), some (aI v2), some (aI v3), some (aI v4), some (aI v5), none] [] (hfW w hb sp rb rs hb po ro ee hh ss uu vv pp kk rr tt gg aa dd bd ga im) := by
  intro n
  induction n with
  | zero =>
    intro v5 v2 v3 hi9 h0i k9
    have e9 : v5 = B9 := by omega
    subst e9
    obtain ⟨vh1, vh2, vh3, vh4, vh5, vh6, vh7, vh8, vh9, vh10, vh11, vh12, vh13, vh14, vh15, vh16, vh17, vh18, vh19, vh20, vh21, vh22⟩ := (HbI_A hI).1
    refine T_iload (am_dec tX11_thick_0 22 rfl) rfl ?_
    refine T_aload_n (am_dec tX11_thick_0 23 rfl) rfl ?_
    refine T_getfield 10 0 (am_dec tX11_thick_0 24 rfl) flX11_10_10 (show (hfW w hb sp rb rs hb po ro ee hh ss uu vv pp kk rr tt gg aa dd bd ga im)[0]? = some (cO 10 [aR hb, aR sp, aR rb, aR rs, aR 52, aR 53, aR 51, aI (ee 0 7), aI (ee 0 8), aR 54, aR 64, aR 74, aR 77, aR 83, aR 84, aR 86, aR 88, aI (ee 0 17), aR 107, aR 108]) from (hfW_c hl 0 (by decide))) rfl ?_
    refine T_getfield 3 0 (am_dec tX11_thick_0 25 rfl) flX11_152_3 (show (hfW w hb sp rb rs hb po ro ee hh ss uu vv pp kk rr tt gg aa dd bd ga im)[hb]? = some (cO 3 [aI (hh 0 0), aI (hh 0 1), aI (hh 0 2), aR (hb + 1), aR (hb + 3), aR (hb + 5), aR (hb + 7), aR (hb + 9), aR (hb + 11), aR (hb + 13), aR (hb + 15), aR (hb + 17), aR (hb + 18), aR (hb + 19)]) from ((hf_H hl hp) 0 (by decide))) rfl ?_
    refine T_icmp_ge 92 (am_dec tX11_thick_0 26 rfl) rfl (fun h47 => ?_) (fun h47 => by exfalso; omega)
    refine T_weak (ls' := [some (aR 0), some (aI st), some (aI v2), some (aI v3), some (aI v4), none, none]) (am_sub_s (am_sub_s (am_sub_s (am_sub_s (am_sub_s (am_sub_n (am_sub_n am_sub_nil))))))) ?_
    exact k9 v2 v3 rfl rfl
  | succ n ih =>
    intro v5 v2 v3 hi9 h0i k9
    obtain ⟨vh1, vh2, vh3, vh4, vh5, vh6, vh7, vh8, vh9, vh10, vh11, vh12, vh13, vh14, vh15, vh16, vh17, vh18, vh19, vh20, vh21, vh22⟩ := (HbI_A hI).1
    refine T_iload (am_dec tX11_thick_0 22 rfl) rfl ?_
    refine T_aload_n (am_dec tX11_thick_0 23 rfl) rfl ?_
    refine T_getfield 10 0 (am_dec tX11_thick_0 24 rfl) flX11_10_10 (show (hfW w hb sp rb rs hb po ro ee hh ss uu vv pp kk rr tt gg aa dd bd ga im)[0]? = some (cO 10 [aR hb, aR sp, aR rb, aR rs, aR 52, aR 53, aR 51, aI (ee 0 7), aI (ee 0 8), aR 54, aR 64, aR 74, aR 77, aR 83, aR 84, aR 86, aR 88, aI (ee 0 17), aR 107, aR 108]) from (hfW_c hl 0 (by decide))) rfl ?_
    refine T_getfield 3 0 (am_dec tX11_thick_0 25 rfl) flX11_152_3 (show (hfW w hb sp rb rs hb po ro ee hh ss uu vv pp kk rr tt gg aa dd bd ga im)[hb]? = some (cO 3 [aI (hh 0 0), aI (hh 0 1), aI (hh 0 2), aR (hb + 1), aR (hb + 3), aR (hb + 5), aR (hb + 7), aR (hb + 9), aR (hb + 11), aR (hb + 13), aR (hb + 15), aR (hb + 17), aR (hb + 18), aR (hb + 19)]) from ((hf_H hl hp) 0 (by decide))) rfl ?_
    refine T_icmp_ge 92 (am_dec tX11_thick_0 26 rfl) rfl (fun h47 => by exfalso; omega) (fun h47 => ?_)
    refine T_aload_n (am_dec tX11_thick_0 27 rfl) rfl ?_
    refine T_getfield 10 9 (am_dec tX11_thick_0 28 rfl) flX11_58_10 (show (hfW w hb sp rb rs hb po ro ee hh ss uu vv pp kk rr tt gg aa dd bd ga im)[0]? = some (cO 10 [aR hb, aR sp, aR rb, aR rs, aR 52, aR 53, aR 51, aI (ee 0 7), aI (ee 0 8), aR 54, aR 64, aR 74, aR 77, aR 83, aR 84, aR 86, aR 88, aI (ee 0 17), aR 107, aR 108]) from (hfW_c hl 0 (by decide))) rfl ?_
    refine T_iload (am_dec tX11_thick_0 29 rfl) rfl ?_
    refine T_bipush 10 (am_dec tX11_thick_0 30 rfl) rfl ⟨by decide, by decide⟩ ?_
    refine T_iload (am_dec tX11_thick_0 31 rfl) rfl ?_
    refine T_imul (10 * v4) (am_dec tX11_thick_0 32 rfl) rfl ⟨by omega, by omega⟩ ?_
    refine T_iadd (v5 + (10 * v4)) (am_dec tX11_thick_0 33 rfl) rfl ⟨by omega, by omega⟩ ?_
    refine T_iload_n (am_dec tX11_thick_0 34 rfl) rfl ?_
    refine T_callV (as := [aI (v5 + (10 * v4)), aI st]) rfl (am_dec tX11_thick_0 35 rfl) lkX11_180 (show (hfW w hb sp rb rs hb po ro ee hh ss uu vv pp kk rr tt gg aa dd bd ga im)[54]? = some (cO 8 [aR hb, aI (rr 0 1), aI (rr 0 2), aI (rr 0 3), aI (rr 0 4), aI (rr 0 5), aR 55, aR 56, aR 57, aR 58, aR 59, aR 60, aR 61, aR 62, aR 63]) from (hfW_c hl 54 (by decide))) rfl rfl (Nat.le_of_ble_eq_true rfl) (by omega) (m_fogOn (d := d - 1) (hf_R hl) (by omega) (v5 + (10 * v4)) st) (fun _ => ?_)
    refine T_nm (fun f63 hf63 => ?_)
    obtain ⟨p63, q63⟩ := f_fogOn_b hRI.2.1 (v5 + (10 * v4)) st
    rw [← hf63] at p63 q63
    refine T_istore (ls' := [some (aR 0), some (aI st), some (aI v2), some (aI v3), some (aI v4), some (aI v5), some (aI f63)]) (am_dec tX11_thick_0 36 rfl) (by decide) rfl ?_
    refine T_iload (am_dec tX11_thick_0 37 rfl) rfl ?_
    refine T_iload_n (am_dec tX11_thick_0 38 rfl) rfl ?_
    have K71 : ∀ (v2_71 : Int), ∀ (v3_71 : Int), v2_71 = (if f63 ≤ v2 then v2 else f63) → v3_71 = (if f63 ≤ v2 then v3 else (v5 + (10 * v4))) →  am_T S zX11_thick d u Q 86 [some (aR 0), some (aI st), some (aI v2_71), some (aI v3_71), some (aI v4), some (aI v5), none] [] (hfW w hb sp rb rs hb po ro ee hh ss uu vv pp kk rr tt gg aa dd bd ga im) := by
      intro v2_71 v3_71 hv2_71 hv3_71 
      refine T_iinc (ls' := [some (aR 0), some (aI st), some (aI v2_71), some (aI v3_71), some (aI v4), some (aI (v5 + 1)), none]) (v5 + 1) (am_dec tX11_thick_1 8 rfl) rfl rfl ⟨by omega, by omega⟩ (by decide) rfl ?_
      refine T_goto 38 (am_dec tX11_thick_1 9 rfl) rfl ?_
      have e9 : (g_c_thick_38 rr st v4) v5 (v2, v3) = (v2_71, v3_71) := (by have s9 := hf63.symm; subst s9; have s9 := hv2_71.symm; subst s9; have s9 := hv3_71.symm; subst s9; exact rfl)
      simp only [am_fold_s, e9] at k9
      exact ih (v5 + 1) v2_71 v3_71 (by omega) (by omega) k9
    refine T_icmp_le 86 (am_dec tX11_thick_0 39 rfl) rfl (fun h71 => ?_) (fun h71 => ?_)
    · refine T_weak (ls' := [some (aR 0), some (aI st), some (aI v2), some (aI v3), some (aI v4), some (aI v5), none]) (am_sub_s (am_sub_s (am_sub_s (am_sub_s (am_sub_s (am_sub_s (am_sub_n am_sub_nil))))))) ?_
      exact K71 _ _ (if_pos h71).symm (if_pos h71).symm 
    · refine T_iload (am_dec tX11_thick_1 0 rfl) rfl ?_
      refine T_istore_n (ls' := [some (aR 0), some (aI st), some (aI f63), some (aI v3), some (aI v4), some (aI v5), some (aI f63)]) (am_dec tX11_thick_1 1 rfl) (by decide) rfl ?_
      refine T_iload (am_dec tX11_thick_1 2 rfl) rfl ?_
      refine T_bipush 10 (am_dec tX11_thick_1 3 rfl) rfl ⟨by decide, by decide⟩ ?_
      refine T_iload (am_dec tX11_thick_1 4 rfl) rfl ?_
      refine T_imul (10 * v4) (am_dec tX11_thick_1 5 rfl) rfl ⟨by omega, by omega⟩ ?_
      refine T_iadd (v5 + (10 * v4)) (am_dec tX11_thick_1 6 rfl) rfl ⟨by omega, by omega⟩ ?_
      refine T_istore_n (ls' := [some (aR 0), some (aI st), some (aI f63), some (aI (v5 + (10 * v4))), some (aI v4), some (aI v5), some (aI f63)]) (am_dec tX11_thick_1 7 rfl) (by decide) rfl ?_
      refine T_weak (ls' := [some (aR 0), some (aI st), some (aI f63), some (aI (v5 + (10 * v4))), some (aI v4), some (aI v5), none]) (am_sub_s (am_sub_s (am_sub_s (am_sub_s (am_sub_s (am_sub_s (am_sub_n am_sub_nil))))))) ?_
      exact K71 _ _ (if_neg h71).symm (if_neg h71).symm 
def g_c_thick_23 (hh : am_F) (rr : am_F) (st : Int) (v4 : Int) (x9 : Int × Int) : Int × Int := let v2 := x9.1; let v3 := x9.2; (let v2_38 : Int := (am_fold (g_c_thick_38 rr st v4) 0 (hh 0 0).toNat (v2, v3)).1; (let v3_38 : Int := (am_fold (g_c_thick_38 rr st v4) 0 (hh 0 0).toNat (v2, v3)).2; (v2_38, v3_38)))
theorem L_c_thick_23 {S : am_S} {d u : Nat} {Q : AO → AH → Prop} {w : AH} {hb sp rb rs : Nat} {po ro : AV} (hl : 109 ≤ w.length) (hp : hb = 1 ∧ sp = 21 ∨ hb = 21 ∧ sp = 1) (hr : rb = 41 ∧ rs = 46 ∨ rb = 46 ∧ rs = 41) (ee : am_F) (hh : am_F) (ss : am_F) (uu : am_F) (vv : am_F) (pp : am_F) (kk : am_F) (rr : am_F) (tt : am_F) (gg : am_F) (aa : am_F) (dd : am_F) (bd : am_F) (ga : am_F) (im : am_F) (st : Int) (hI : HbI hh) (hRI : RnI rr) (hst : -1 ≤ st ∧ st ≤ 39) (hd : 7 ≤ d) (B9 : Int) (hB : B9 = hh 0 1) : ∀ (n : Nat) (v4 : Int) (v2 : Int) (v3 : Int), v4 + n = B9 → 0 ≤ v4 → (∀ (v2' : Int) (v3' : Int), v2' = (am_fold (g_c_thick_23 hh rr st) v4 n (v2, v3)).1 → v3' = (am_fold (g_c_thick_23 hh rr st) v4 n (v2, v3)).2 → am_T S zX11_thick d u Q 98 [none, none, none, some (aI v3'), none, none, none] [] (hfW w hb sp rb rs hb po ro ee hh ss uu vv pp kk rr tt gg aa dd bd ga im)) → am_T S zX11_thick d u Q 23 [some (aR 0), some (aI st), some (aI v2), some (aI v3), some (aI v4), none, none] [] (hfW w hb sp rb rs hb po ro ee hh ss uu vv pp kk rr tt gg aa dd bd ga im) := by
  intro n
  induction n with
  | zero =>
    intro v4 v2 v3 hi9 h0i k9
    have e9 : v4 = B9 := by omega
    subst e9
    obtain ⟨vh1, vh2, vh3, vh4, vh5, vh6, vh7, vh8, vh9, vh10, vh11, vh12, vh13, vh14, vh15, vh16, vh17, vh18, vh19, vh20, vh21, vh22⟩ := (HbI_A hI).1
    refine T_iload (am_dec tX11_thick_0 15 rfl) rfl ?_
    refine T_aload_n (am_dec tX11_thick_0 16 rfl) rfl ?_
    refine T_getfield 10 0 (am_dec tX11_thick_0 17 rfl) flX11_10_10 (show (hfW w hb sp rb rs hb po ro ee hh ss uu vv pp kk rr tt gg aa dd bd ga im)[0]? = some (cO 10 [aR hb, aR sp, aR rb, aR rs, aR 52, aR 53, aR 51, aI (ee 0 7), aI (ee 0 8), aR 54, aR 64, aR 74, aR 77, aR 83, aR 84, aR 86, aR 88, aI (ee 0 17), aR 107, aR 108]) from (hfW_c hl 0 (by decide))) rfl ?_
    refine T_getfield 3 1 (am_dec tX11_thick_0 18 rfl) flX11_155_3 (show (hfW w hb sp rb rs hb po ro ee hh ss uu vv pp kk rr tt gg aa dd bd ga im)[hb]? = some (cO 3 [aI (hh 0 0), aI (hh 0 1), aI (hh 0 2), aR (hb + 1), aR (hb + 3), aR (hb + 5), aR (hb + 7), aR (hb + 9), aR (hb + 11), aR (hb + 13), aR (hb + 15), aR (hb + 17), aR (hb + 18), aR (hb + 19)]) from ((hf_H hl hp) 0 (by decide))) rfl ?_
    refine T_icmp_ge 98 (am_dec tX11_thick_0 19 rfl) rfl (fun h32 => ?_) (fun h32 => by exfalso; omega)
    refine T_weak (ls' := [none, none, none, some (aI v3), none, none, none]) (am_sub_n (am_sub_n (am_sub_n (am_sub_s (am_sub_n (am_sub_n (am_sub_n am_sub_nil))))))) ?_
    exact k9 v2 v3 rfl rfl
  | succ n ih =>
    intro v4 v2 v3 hi9 h0i k9
    obtain ⟨vh1, vh2, vh3, vh4, vh5, vh6, vh7, vh8, vh9, vh10, vh11, vh12, vh13, vh14, vh15, vh16, vh17, vh18, vh19, vh20, vh21, vh22⟩ := (HbI_A hI).1
    refine T_iload (am_dec tX11_thick_0 15 rfl) rfl ?_
    refine T_aload_n (am_dec tX11_thick_0 16 rfl) rfl ?_
    refine T_getfield 10 0 (am_dec tX11_thick_0 17 rfl) flX11_10_10 (show (hfW w hb sp rb rs hb po ro ee hh ss uu vv pp kk rr tt gg aa dd bd ga im)[0]? = some (cO 10 [aR hb, aR sp, aR rb, aR rs, aR 52, aR 53, aR 51, aI (ee 0 7), aI (ee 0 8), aR 54, aR 64, aR 74, aR 77, aR 83, aR 84, aR 86, aR 88, aI (ee 0 17), aR 107, aR 108]) from (hfW_c hl 0 (by decide))) rfl ?_
    refine T_getfield 3 1 (am_dec tX11_thick_0 18 rfl) flX11_155_3 (show (hfW w hb sp rb rs hb po ro ee hh ss uu vv pp kk rr tt gg aa dd bd ga im)[hb]? = some (cO 3 [aI (hh 0 0), aI (hh 0 1), aI (hh 0 2), aR (hb + 1), aR (hb + 3), aR (hb + 5), aR (hb + 7), aR (hb + 9), aR (hb + 11), aR (hb + 13), aR (hb + 15), aR (hb + 17), aR (hb + 18), aR (hb + 19)]) from ((hf_H hl hp) 0 (by decide))) rfl ?_
    refine T_icmp_ge 98 (am_dec tX11_thick_0 19 rfl) rfl (fun h32 => by exfalso; omega) (fun h32 => ?_)
    refine T_iconst 0 (am_dec tX11_thick_0 20 rfl) rfl ⟨by decide, by decide⟩ ?_
    refine T_istore (ls' := [some (aR 0), some (aI st), some (aI v2), some (aI v3), some (aI v4), some (aI 0), none]) (am_dec tX11_thick_0 21 rfl) (by decide) rfl ?_
    refine L_c_thick_38 hl hp hr ee hh ss uu vv pp kk rr tt gg aa dd bd ga im st v4 hI hRI (by omega) (by omega) (by omega) _ rfl (hh 0 0).toNat 0 v2 v3 (by omega) (by omega) (fun v2_38 v3_38 hv2_38 hv3_38 => ?_)
    refine T_iinc (ls' := [some (aR 0), some (aI st), some (aI v2_38), some (aI v3_38), some (aI (v4 + 1)), none, none]) (v4 + 1) (am_dec tX11_thick_1 10 rfl) rfl rfl ⟨by omega, by omega⟩ (by decide) rfl ?_
    refine T_goto 23 (am_dec tX11_thick_1 11 rfl) rfl ?_
    have e9 : (g_c_thick_23 hh rr st) v4 (v2, v3) = (v2_38, v3_38) := (by have s9 := hv2_38.symm; subst s9; have s9 := hv3_38.symm; subst s9; exact rfl)
    simp only [am_fold_s, e9] at k9
    exact ih (v4 + 1) v2_38 v3_38 (by omega) (by omega) k9
def c_thick (ee : am_F) (hh : am_F) (rr : am_F) (st : Int) : Int × Int × am_F × am_F := (if n_range st (-1) 39 = 0 then (let rr13 : am_F := f_upTo hh rr st; (let v3_23 : Int := (am_fold (g_c_thick_23 hh rr13 st) 0 (hh 0 1).toNat ((-1), 0)).2; (0, v3_23, ee, rr13))) else ((n_range st (-1) 39), 0, n_ref ee (n_range st (-1) 39), rr))
theorem mc_thick {S : am_S} {d u : Nat} {w : AH} {hb sp rb rs : Nat} {po ro : AV} (hl : 109 ≤ w.length) (hp : hb = 1 ∧ sp = 21 ∨ hb = 21 ∧ sp = 1) (hr : rb = 41 ∧ rs = 46 ∨ rb = 46 ∧ rs = 41) {ee : am_F} {hh : am_F} {ss : am_F} {uu : am_F} {vv : am_F} {pp : am_F} {kk : am_F} {rr : am_F} {tt : am_F} {gg : am_F} {aa : am_F} {dd : am_F} {bd : am_F} {ga : am_F} {im : am_F} (st : Int) (hI : HbI hh) (hRI : RnI rr) (hu : 1 ≤ u) (hd : 7 ≤ d) : am_Out S zX11_thick d u [aR 0, aI st] (hfW w hb sp rb rs hb po ro ee hh ss uu vv pp kk rr tt gg aa dd bd ga im) (am_oc ((c_thick ee hh rr st).1) ((c_thick ee hh rr st).2.1)) (hfW w hb sp rb rs hb po ro ((c_thick ee hh rr st).2.2.1) hh ss uu vv pp kk ((c_thick ee hh rr st).2.2.2) tt gg aa dd bd ga im) := by
  have key : ∀ Q : AO → AH → Prop, Q (am_oc ((c_thick ee hh rr st).1) ((c_thick ee hh rr st).2.1)) (hfW w hb sp rb rs hb po ro ((c_thick ee hh rr st).2.2.1) hh ss uu vv pp kk ((c_thick ee hh rr st).2.2.2) tt gg aa dd bd ga im) → am_M S zX11_thick d u [aR 0, aI st] (hfW w hb sp rb rs hb po ro ee hh ss uu vv pp kk rr tt gg aa dd bd ga im) Q := by
    intro Q hQ
    refine am_body rfl (by decide +kernel) rfl (am_cats_cons rfl ( am_cats_cons rfl (am_cats_nil))) (Nat.le_of_ble_eq_true rfl) (?_ : am_T _ _ _ _ _ 0 [some (aR 0), some (aI st), none, none, none, none, none] [] (hfW w hb sp rb rs hb po ro ee hh ss uu vv pp kk rr tt gg aa dd bd ga im))
    obtain ⟨vh1, vh2, vh3, vh4, vh5, vh6, vh7, vh8, vh9, vh10, vh11, vh12, vh13, vh14, vh15, vh16, vh17, vh18, vh19, vh20, vh21, vh22⟩ := (HbI_A hI).1
    refine T_aload_n (am_dec tX11_thick_0 0 rfl) rfl ?_
    refine T_iload_n (am_dec tX11_thick_0 1 rfl) rfl ?_
    refine T_iconst (-1) (am_dec tX11_thick_0 2 rfl) rfl ⟨by decide, by decide⟩ ?_
    refine T_bipush 39 (am_dec tX11_thick_0 3 rfl) rfl ⟨by decide, by decide⟩ ?_
    refine T_callVo (as := [aI st, aI (-1), aI 39]) (code := n_range st (-1) 39) rfl (am_dec tX11_thick_0 4 rfl) lkX11_117 (show (hfW w hb sp rb rs hb po ro ee hh ss uu vv pp kk rr tt gg aa dd bd ga im)[0]? = some (cO 10 [aR hb, aR sp, aR rb, aR rs, aR 52, aR 53, aR 51, aI (ee 0 7), aI (ee 0 8), aR 54, aR 64, aR 74, aR 77, aR 83, aR 84, aR 86, aR 88, aI (ee 0 17), aR 107, aR 108]) from (hfW_c hl 0 (by decide))) rfl rfl (Nat.le_of_ble_eq_true rfl) (by omega) (by omega) (fun hN5 => (mx_range0 (d := d - 1) hl hp hr st (-1) 39  hN5 (by omega))) (fun hN5 => (x_rangeX (d := d - 1) hl hp hr st (-1) 39  hN5 (by omega) (by omega))) (fun hN5 => ?_) (fun hN5 => ?_)
    · exact (am_tr (fun (x9 : Int × Int × am_F × am_F) => Q (am_oc (x9.1) (x9.2.1)) (hfW w hb sp rb rs hb po ro x9.2.2.1 hh ss uu vv pp kk x9.2.2.2 tt gg aa dd bd ga im)) (y := ((n_range st (-1) 39), 0, n_ref ee (n_range st (-1) 39), rr)) (show (c_thick ee hh rr st) = ((n_range st (-1) 39), 0, n_ref ee (n_range st (-1) 39), rr) from (if_neg hN5)) hQ)
    have hk5 := n_range_0 hN5
    refine T_aload_n (am_dec tX11_thick_0 5 rfl) rfl ?_
    refine T_getfield 10 9 (am_dec tX11_thick_0 6 rfl) flX11_58_10 (show (hfW w hb sp rb rs hb po ro ee hh ss uu vv pp kk rr tt gg aa dd bd ga im)[0]? = some (cO 10 [aR hb, aR sp, aR rb, aR rs, aR 52, aR 53, aR 51, aI (ee 0 7), aI (ee 0 8), aR 54, aR 64, aR 74, aR 77, aR 83, aR 84, aR 86, aR 88, aI (ee 0 17), aR 107, aR 108]) from (hfW_c hl 0 (by decide))) rfl ?_
    refine T_iload_n (am_dec tX11_thick_0 7 rfl) rfl ?_
    refine T_callV (as := [aI st]) rfl (am_dec tX11_thick_0 8 rfl) lkX11_177 (show (hfW w hb sp rb rs hb po ro ee hh ss uu vv pp kk rr tt gg aa dd bd ga im)[54]? = some (cO 8 [aR hb, aI (rr 0 1), aI (rr 0 2), aI (rr 0 3), aI (rr 0 4), aI (rr 0 5), aR 55, aR 56, aR 57, aR 58, aR 59, aR 60, aR 61, aR 62, aR 63]) from (hfW_c hl 54 (by decide))) rfl rfl (Nat.le_of_ble_eq_true rfl) (by omega) (am_OutE (m_upTo (d := d - 1) (w := hfW w hb sp rb rs hb po ro ee hh ss uu vv pp kk rr tt gg aa dd bd ga im) (hf_le hl (by omega)) (by omega) (hf_H hl hp) (HbI_A hI) st hRI.1 hRI.2.1 hRI.2.2 (by omega)) hf_uR hf_uR) (fun _ => ?_)
    refine T_nmH (W := fun x9 => hfW w hb sp rb rs hb po ro ee hh ss uu vv pp kk x9 tt gg aa dd bd ga im) (v := f_upTo hh rr st) (fun rr13 hrr13 => ?_)
    have hIrr13 : RnI rr13 := by rw [hrr13]; exact f_upTo_I (HbI_A hI) hRI
    refine T_iconst (-1) (am_dec tX11_thick_0 9 rfl) rfl ⟨by decide, by decide⟩ ?_
    refine T_istore_n (ls' := [some (aR 0), some (aI st), some (aI (-1)), none, none, none, none]) (am_dec tX11_thick_0 10 rfl) (by decide) rfl ?_
    refine T_iconst 0 (am_dec tX11_thick_0 11 rfl) rfl ⟨by decide, by decide⟩ ?_
    refine T_istore_n (ls' := [some (aR 0), some (aI st), some (aI (-1)), some (aI 0), none, none, none]) (am_dec tX11_thick_0 12 rfl) (by decide) rfl ?_
    refine T_iconst 0 (am_dec tX11_thick_0 13 rfl) rfl ⟨by decide, by decide⟩ ?_
    refine T_istore (ls' := [some (aR 0), some (aI st), some (aI (-1)), some (aI 0), some (aI 0), none, none]) (am_dec tX11_thick_0 14 rfl) (by decide) rfl ?_
    refine L_c_thick_23 hl hp hr ee hh ss uu vv pp kk rr13 tt gg aa dd bd ga im st hI hIrr13 (by omega) (by omega) _ rfl (hh 0 1).toNat 0 (-1) 0 (by omega) (by omega) (fun v2_23 v3_23 hv2_23 hv3_23 => ?_)
    refine T_iload_n (am_dec tX11_thick_1 12 rfl) rfl ?_
    exact T_ireturn (am_dec tX11_thick_1 13 rfl) rfl (am_tr (fun (x9 : Int × Int × am_F × am_F) => Q (am_oc (x9.1) (x9.2.1)) (hfW w hb sp rb rs hb po ro x9.2.2.1 hh ss uu vv pp kk x9.2.2.2 tt gg aa dd bd ga im)) (y := (0, v3_23, ee, rr13)) (show (c_thick ee hh rr st) = (0, v3_23, ee, rr13) from (by have s9 := hrr13.symm; subst s9; have s9 := hv2_23.symm; subst s9; have s9 := hv3_23.symm; subst s9; exact (if_pos hN5))) hQ)
  exact key _ ⟨rfl, rfl⟩
def g_c_often_27 (hh : am_F) (rr : am_F) (k : Int) (l : Int) (v4 : Int) (v3 : Int) : Int := (let z42 : Int := f_seeEach rr hh k l v4; (if z42 = 0 then v3 else (v3 + 1)))
theorem L_c_often_27 {S : am_S} {d u : Nat} {Q : AO → AH → Prop} {w : AH} {hb sp rb rs : Nat} {po ro : AV} (hl : 109 ≤ w.length) (hp : hb = 1 ∧ sp = 21 ∨ hb = 21 ∧ sp = 1) (hr : rb = 41 ∧ rs = 46 ∨ rb = 46 ∧ rs = 41) (ee : am_F) (hh : am_F) (ss : am_F) (uu : am_F) (vv : am_F) (pp : am_F) (kk : am_F) (rr : am_F) (tt : am_F) (gg : am_F) (aa : am_F) (dd : am_F) (bd : am_F) (ga : am_F) (im : am_F) (k : Int) (l : Int) (hI : HbI hh) (hRI : RnI rr)  (hd : 8 ≤ d) (B9 : Int) (hB : B9 = 40) : ∀ (n : Nat) (v4 : Int) (v3 : Int), v4 + n = B9 → 0 ≤ v4 → 0 ≤ v3 ∧ v3 ≤ 1 * v4 → (∀ (v3' : Int), v3' = am_fold (g_c_often_27 hh rr k l) v4 n v3 → 0 ≤ v3' ∧ v3' ≤ 1 * B9 → am_T S zX11_often d u Q 57 [none, none, none, some (aI v3'), none] [] (hfW w hb sp rb rs hb po ro ee hh ss uu vv pp kk rr tt gg aa dd bd ga im)) → am_T S zX11_often d u Q 27 [some (aR 0), some (aI k), some (aI l), some (aI v3), some (aI v4)] [] (hfW w hb sp rb rs hb po ro ee hh ss uu vv pp kk rr tt gg aa dd bd ga im) := by
  intro n
  induction n with
  | zero =>
    intro v4 v3 hi9 h0i hinv k9
    have e9 : v4 = B9 := by omega
    subst e9
    obtain ⟨vh1, vh2, vh3, vh4, vh5, vh6, vh7, vh8, vh9, vh10, vh11, vh12, vh13, vh14, vh15, vh16, vh17, vh18, vh19, vh20, vh21, vh22⟩ := (HbI_A hI).1
    refine T_iload (am_dec tX11_often_0 15 rfl) rfl ?_
    refine T_bipush 40 (am_dec tX11_often_0 16 rfl) rfl ⟨by decide, by decide⟩ ?_
    refine T_icmp_ge 57 (am_dec tX11_often_0 17 rfl) rfl (fun h31 => ?_) (fun h31 => by exfalso; omega)
    refine T_weak (ls' := [none, none, none, some (aI v3), none]) (am_sub_n (am_sub_n (am_sub_n (am_sub_s (am_sub_n am_sub_nil))))) ?_
    exact k9 v3 rfl hinv
  | succ n ih =>
    intro v4 v3 hi9 h0i hinv k9
    obtain ⟨vh1, vh2, vh3, vh4, vh5, vh6, vh7, vh8, vh9, vh10, vh11, vh12, vh13, vh14, vh15, vh16, vh17, vh18, vh19, vh20, vh21, vh22⟩ := (HbI_A hI).1
    refine T_iload (am_dec tX11_often_0 15 rfl) rfl ?_
    refine T_bipush 40 (am_dec tX11_often_0 16 rfl) rfl ⟨by decide, by decide⟩ ?_
    refine T_icmp_ge 57 (am_dec tX11_often_0 17 rfl) rfl (fun h31 => by exfalso; omega) (fun h31 => ?_)
    refine T_aload_n (am_dec tX11_often_0 18 rfl) rfl ?_
    refine T_getfield 10 9 (am_dec tX11_often_0 19 rfl) flX11_58_10 (show (hfW w hb sp rb rs hb po ro ee hh ss uu vv pp kk rr tt gg aa dd bd ga im)[0]? = some (cO 10 [aR hb, aR sp, aR rb, aR rs, aR 52, aR 53, aR 51, aI (ee 0 7), aI (ee 0 8), aR 54, aR 64, aR 74, aR 77, aR 83, aR 84, aR 86, aR 88, aI (ee 0 17), aR 107, aR 108]) from (hfW_c hl 0 (by decide))) rfl ?_
    refine T_iload_n (am_dec tX11_often_0 20 rfl) rfl ?_
    refine T_iload_n (am_dec tX11_often_0 21 rfl) rfl ?_
    refine T_iload (am_dec tX11_often_0 22 rfl) rfl ?_
    refine T_callS (as := [aR 54, aI k, aI l, aI v4]) rfl (am_dec tX11_often_0 23 rfl) lkX11_223 rfl (Nat.le_of_ble_eq_true rfl) (by omega) (m_seeEach (d := d - 1) (hf_R hl) (hf_H hl hp) (HbI_A hI).1 hRI.2.1 (HbI_W hI) (HbI_Co hI) (HbI_Wt hI) k l v4 (by omega)) (fun _ => ?_)
    refine T_nm (fun z42 hz42 => ?_)
    have hb42 := f_seeEach_b rr hh k l v4
    rw [← hz42] at hb42
    have K45 : ∀ (v3_45 : Int), v3_45 = (if z42 = 0 then v3 else (v3 + 1)) →  am_T S zX11_often d u Q 51 [some (aR 0), some (aI k), some (aI l), some (aI v3_45), some (aI v4)] [] (hfW w hb sp rb rs hb po ro ee hh ss uu vv pp kk rr tt gg aa dd bd ga im) := by
      intro v3_45 hv3_45 
      refine T_iinc (ls' := [some (aR 0), some (aI k), some (aI l), some (aI v3_45), some (aI (v4 + 1))]) (v4 + 1) (am_dec tX11_often_0 26 rfl) rfl rfl ⟨by omega, by omega⟩ (by decide) rfl ?_
      refine T_goto 27 (am_dec tX11_often_0 27 rfl) rfl ?_
      have e9 : (g_c_often_27 hh rr k l) v4 v3 = v3_45 := (by have s9 := hz42.symm; subst s9; have s9 := hv3_45.symm; subst s9; exact rfl)
      simp only [am_fold_s, e9] at k9
      exact ih (v4 + 1) v3_45 (by omega) (by omega) (by omega) k9
    refine T_if_eq 51 (am_dec tX11_often_0 24 rfl) rfl (fun h45 => ?_) (fun h45 => ?_)
    · exact K45 _ (if_pos h45).symm 
    · refine T_iinc (ls' := [some (aR 0), some (aI k), some (aI l), some (aI (v3 + 1)), some (aI v4)]) (v3 + 1) (am_dec tX11_often_0 25 rfl) rfl rfl ⟨by omega, by omega⟩ (by decide) rfl ?_
      exact K45 _ (if_neg h45).symm 
def c_often (ee : am_F) (hh : am_F) (rr : am_F) (k : Int) (l : Int) : Int × Int × am_F × am_F := (if n_two (hh 0 8) k l = 0 then (let rr19 : am_F := f_upTo hh rr 39; (let v3_27 : Int := am_fold (g_c_often_27 hh rr19 k l) 0 40 0; (0, v3_27, ee, rr19))) else ((n_two (hh 0 8) k l), 0, n_ref ee (n_two (hh 0 8) k l), rr))
theorem mc_often {S : am_S} {d u : Nat} {w : AH} {hb sp rb rs : Nat} {po ro : AV} (hl : 109 ≤ w.length) (hp : hb = 1 ∧ sp = 21 ∨ hb = 21 ∧ sp = 1) (hr : rb = 41 ∧ rs = 46 ∨ rb = 46 ∧ rs = 41) {ee : am_F} {hh : am_F} {ss : am_F} {uu : am_F} {vv : am_F} {pp : am_F} {kk : am_F} {rr : am_F} {tt : am_F} {gg : am_F} {aa : am_F} {dd : am_F} {bd : am_F} {ga : am_F} {im : am_F} (k : Int) (l : Int) (hI : HbI hh) (hRI : RnI rr) (hu : 1 ≤ u) (hd : 8 ≤ d) : am_Out S zX11_often d u [aR 0, aI k, aI l] (hfW w hb sp rb rs hb po ro ee hh ss uu vv pp kk rr tt gg aa dd bd ga im) (am_oc ((c_often ee hh rr k l).1) ((c_often ee hh rr k l).2.1)) (hfW w hb sp rb rs hb po ro ((c_often ee hh rr k l).2.2.1) hh ss uu vv pp kk ((c_often ee hh rr k l).2.2.2) tt gg aa dd bd ga im) := by
  have key : ∀ Q : AO → AH → Prop, Q (am_oc ((c_often ee hh rr k l).1) ((c_often ee hh rr k l).2.1)) (hfW w hb sp rb rs hb po ro ((c_often ee hh rr k l).2.2.1) hh ss uu vv pp kk ((c_often ee hh rr k l).2.2.2) tt gg aa dd bd ga im) → am_M S zX11_often d u [aR 0, aI k, aI l] (hfW w hb sp rb rs hb po ro ee hh ss uu vv pp kk rr tt gg aa dd bd ga im) Q := by
    intro Q hQ
    refine am_body rfl (by decide +kernel) rfl (am_cats_cons rfl ( am_cats_cons rfl ( am_cats_cons rfl (am_cats_nil)))) (Nat.le_of_ble_eq_true rfl) (?_ : am_T _ _ _ _ _ 0 [some (aR 0), some (aI k), some (aI l), none, none] [] (hfW w hb sp rb rs hb po ro ee hh ss uu vv pp kk rr tt gg aa dd bd ga im))
    obtain ⟨vh1, vh2, vh3, vh4, vh5, vh6, vh7, vh8, vh9, vh10, vh11, vh12, vh13, vh14, vh15, vh16, vh17, vh18, vh19, vh20, vh21, vh22⟩ := (HbI_A hI).1
    refine T_aload_n (am_dec tX11_often_0 0 rfl) rfl ?_
    refine T_aload_n (am_dec tX11_often_0 1 rfl) rfl ?_
    refine T_getfield 10 0 (am_dec tX11_often_0 2 rfl) flX11_10_10 (show (hfW w hb sp rb rs hb po ro ee hh ss uu vv pp kk rr tt gg aa dd bd ga im)[0]? = some (cO 10 [aR hb, aR sp, aR rb, aR rs, aR 52, aR 53, aR 51, aI (ee 0 7), aI (ee 0 8), aR 54, aR 64, aR 74, aR 77, aR 83, aR 84, aR 86, aR 88, aI (ee 0 17), aR 107, aR 108]) from (hfW_c hl 0 (by decide))) rfl ?_
    refine T_getfield 3 8 (am_dec tX11_often_0 3 rfl) flX11_161_3 (show (hfW w hb sp rb rs hb po ro ee hh ss uu vv pp kk rr tt gg aa dd bd ga im)[hb]? = some (cO 3 [aI (hh 0 0), aI (hh 0 1), aI (hh 0 2), aR (hb + 1), aR (hb + 3), aR (hb + 5), aR (hb + 7), aR (hb + 9), aR (hb + 11), aR (hb + 13), aR (hb + 15), aR (hb + 17), aR (hb + 18), aR (hb + 19)]) from ((hf_H hl hp) 0 (by decide))) rfl ?_
    refine T_iload_n (am_dec tX11_often_0 4 rfl) rfl ?_
    refine T_iload_n (am_dec tX11_often_0 5 rfl) rfl ?_
    refine T_callVo (as := [aR (hb + 11), aI k, aI l]) (code := n_two (hh 0 8) k l) rfl (am_dec tX11_often_0 6 rfl) lkX11_219 (show (hfW w hb sp rb rs hb po ro ee hh ss uu vv pp kk rr tt gg aa dd bd ga im)[0]? = some (cO 10 [aR hb, aR sp, aR rb, aR rs, aR 52, aR 53, aR 51, aI (ee 0 7), aI (ee 0 8), aR 54, aR 64, aR 74, aR 77, aR 83, aR 84, aR 86, aR 88, aI (ee 0 17), aR 107, aR 108]) from (hfW_c hl 0 (by decide))) rfl rfl (Nat.le_of_ble_eq_true rfl) (by omega) (by omega) (fun hN10 => (mx_two0 (d := d - 1) hl hp hr k l (show (hfW w hb sp rb rs hb po ro ee hh ss uu vv pp kk rr tt gg aa dd bd ga im)[hb + 11]? = some (cO 9 [aI 4, aR (hb + 12), aI (hh 0 8)]) from ((hf_H hl hp) 11 (by decide))) (show (hfW w hb sp rb rs hb po ro ee hh ss uu vv pp kk rr tt gg aa dd bd ga im)[hb + 12]? = some (cP 0 48 (hh 6)) from ((hf_H hl hp) 12 (by decide))) (by omega) hN10 (by omega))) (fun hN10 => (x_twoX (d := d - 1) hl hp hr k l (show (hfW w hb sp rb rs hb po ro ee hh ss uu vv pp kk rr tt gg aa dd bd ga im)[hb + 11]? = some (cO 9 [aI 4, aR (hb + 12), aI (hh 0 8)]) from ((hf_H hl hp) 11 (by decide))) (show (hfW w hb sp rb rs hb po ro ee hh ss uu vv pp kk rr tt gg aa dd bd ga im)[hb + 12]? = some (cP 0 48 (hh 6)) from ((hf_H hl hp) 12 (by decide))) (by omega) hN10 (by omega) (by omega))) (fun hN10 => ?_) (fun hN10 => ?_)
    · exact (am_tr (fun (x9 : Int × Int × am_F × am_F) => Q (am_oc (x9.1) (x9.2.1)) (hfW w hb sp rb rs hb po ro x9.2.2.1 hh ss uu vv pp kk x9.2.2.2 tt gg aa dd bd ga im)) (y := ((n_two (hh 0 8) k l), 0, n_ref ee (n_two (hh 0 8) k l), rr)) (show (c_often ee hh rr k l) = ((n_two (hh 0 8) k l), 0, n_ref ee (n_two (hh 0 8) k l), rr) from (if_neg hN10)) hQ)
    have hk10 := n_two_0 hN10
    refine T_aload_n (am_dec tX11_often_0 7 rfl) rfl ?_
    refine T_getfield 10 9 (am_dec tX11_often_0 8 rfl) flX11_58_10 (show (hfW w hb sp rb rs hb po ro ee hh ss uu vv pp kk rr tt gg aa dd bd ga im)[0]? = some (cO 10 [aR hb, aR sp, aR rb, aR rs, aR 52, aR 53, aR 51, aI (ee 0 7), aI (ee 0 8), aR 54, aR 64, aR 74, aR 77, aR 83, aR 84, aR 86, aR 88, aI (ee 0 17), aR 107, aR 108]) from (hfW_c hl 0 (by decide))) rfl ?_
    refine T_bipush 39 (am_dec tX11_often_0 9 rfl) rfl ⟨by decide, by decide⟩ ?_
    refine T_callV (as := [aI 39]) rfl (am_dec tX11_often_0 10 rfl) lkX11_177 (show (hfW w hb sp rb rs hb po ro ee hh ss uu vv pp kk rr tt gg aa dd bd ga im)[54]? = some (cO 8 [aR hb, aI (rr 0 1), aI (rr 0 2), aI (rr 0 3), aI (rr 0 4), aI (rr 0 5), aR 55, aR 56, aR 57, aR 58, aR 59, aR 60, aR 61, aR 62, aR 63]) from (hfW_c hl 54 (by decide))) rfl rfl (Nat.le_of_ble_eq_true rfl) (by omega) (am_OutE (m_upTo (d := d - 1) (w := hfW w hb sp rb rs hb po ro ee hh ss uu vv pp kk rr tt gg aa dd bd ga im) (hf_le hl (by omega)) (by omega) (hf_H hl hp) (HbI_A hI) 39 hRI.1 hRI.2.1 hRI.2.2 (by omega)) hf_uR hf_uR) (fun _ => ?_)
    refine T_nmH (W := fun x9 => hfW w hb sp rb rs hb po ro ee hh ss uu vv pp kk x9 tt gg aa dd bd ga im) (v := f_upTo hh rr 39) (fun rr19 hrr19 => ?_)
    have hIrr19 : RnI rr19 := by rw [hrr19]; exact f_upTo_I (HbI_A hI) hRI
    refine T_iconst 0 (am_dec tX11_often_0 11 rfl) rfl ⟨by decide, by decide⟩ ?_
    refine T_istore_n (ls' := [some (aR 0), some (aI k), some (aI l), some (aI 0), none]) (am_dec tX11_often_0 12 rfl) (by decide) rfl ?_
    refine T_iconst 0 (am_dec tX11_often_0 13 rfl) rfl ⟨by decide, by decide⟩ ?_
    refine T_istore (ls' := [some (aR 0), some (aI k), some (aI l), some (aI 0), some (aI 0)]) (am_dec tX11_often_0 14 rfl) (by decide) rfl ?_
    refine L_c_often_27 hl hp hr ee hh ss uu vv pp kk rr19 tt gg aa dd bd ga im k l hI hIrr19  (by omega) _ rfl 40 0 0 (by omega) (by omega) (by omega) (fun v3_27 hv3_27 hv27 => ?_)
    refine T_iload_n (am_dec tX11_often_0 28 rfl) rfl ?_
    exact T_ireturn (am_dec tX11_often_0 29 rfl) rfl (am_tr (fun (x9 : Int × Int × am_F × am_F) => Q (am_oc (x9.1) (x9.2.1)) (hfW w hb sp rb rs hb po ro x9.2.2.1 hh ss uu vv pp kk x9.2.2.2 tt gg aa dd bd ga im)) (y := (0, v3_27, ee, rr19)) (show (c_often ee hh rr k l) = (0, v3_27, ee, rr19) from (by have s9 := hrr19.symm; subst s9; have s9 := hv3_27.symm; subst s9; exact (if_pos hN10))) hQ)
  exact key _ ⟨rfl, rfl⟩
def g_c_witnesses_38 (hh : am_F) (rr : am_F) (x : Int) (y : Int) (v8 : Int) (x9 : Int × Int) : Int × Int := let v6 := x9.1; let v7 := x9.2; (let v57 : Int := f_walkersOn rr hh (x + (10 * y)) v8; ((am_ior v6 v57), (am_iand v7 v57)))
theorem L_c_witnesses_38 {S : am_S} {d u : Nat} {Q : AO → AH → Prop} {w : AH} {hb sp rb rs : Nat} {po ro : AV} (hl : 109 ≤ w.length) (hp : hb = 1 ∧ sp = 21 ∨ hb = 21 ∧ sp = 1) (hr : rb = 41 ∧ rs = 46 ∨ rb = 46 ∧ rs = 41) (ee : am_F) (hh : am_F) (ss : am_F) (uu : am_F) (vv : am_F) (pp : am_F) (kk : am_F) (rr : am_F) (tt : am_F) (gg : am_F) (aa : am_F) (dd : am_F) (bd : am_F) (ga : am_F) (im : am_F) (x : Int) (y : Int) (fr : Int) (to : Int) (al : Int) (hI : HbI hh) (hRI : RnI rr) (hxy : (0 ≤ x ∧ x ≤ 8) ∧ 0 ≤ y ∧ y ≤ 8) (hft : 0 ≤ fr ∧ to ≤ 39) (hd : 8 ≤ d) (B9 : Int) (hB : B9 = to + 1) : ∀ (n : Nat) (v8 : Int) (v6 : Int) (v7 : Int), v8 + n = B9 → 0 ≤ v8 → (∀ (v6' : Int) (v7' : Int), v6' = (am_fold (g_c_witnesses_38 hh rr x y) v8 n (v6, v7)).1 → v7' = (am_fold (g_c_witnesses_38 hh rr x y) v8 n (v6, v7)).2 → am_T S zX11_witnesses d u Q 82 [none, none, none, none, none, some (aI al), some (aI v6'), some (aI v7'), none, none] [] (hfW w hb sp rb rs hb po ro ee hh ss uu vv pp kk rr tt gg aa dd bd ga im)) → am_T S zX11_witnesses d u Q 38 [some (aR 0), some (aI x), some (aI y), none, some (aI to), some (aI al), some (aI v6), some (aI v7), some (aI v8), none] [] (hfW w hb sp rb rs hb po ro ee hh ss uu vv pp kk rr tt gg aa dd bd ga im) := by
  intro n
  induction n with
  | zero =>
    intro v8 v6 v7 hi9 h0i k9
    have e9 : v8 = B9 := by omega
    subst e9
    obtain ⟨vh1, vh2, vh3, vh4, vh5, vh6, vh7, vh8, vh9, vh10, vh11, vh12, vh13, vh14, vh15, vh16, vh17, vh18, vh19, vh20, vh21, vh22⟩ := (HbI_A hI).1
    refine T_iload (am_dec tX11_witnesses_0 22 rfl) rfl ?_
    refine T_iload (am_dec tX11_witnesses_0 23 rfl) rfl ?_
    refine T_icmp_gt 82 (am_dec tX11_witnesses_0 24 rfl) rfl (fun h42 => ?_) (fun h42 => by exfalso; omega)
    refine T_weak (ls' := [none, none, none, none, none, some (aI al), some (aI v6), some (aI v7), none, none]) (am_sub_n (am_sub_n (am_sub_n (am_sub_n (am_sub_n (am_sub_s (am_sub_s (am_sub_s (am_sub_n (am_sub_n am_sub_nil)))))))))) ?_
    exact k9 v6 v7 rfl rfl
  | succ n ih =>
    intro v8 v6 v7 hi9 h0i k9
    obtain ⟨vh1, vh2, vh3, vh4, vh5, vh6, vh7, vh8, vh9, vh10, vh11, vh12, vh13, vh14, vh15, vh16, vh17, vh18, vh19, vh20, vh21, vh22⟩ := (HbI_A hI).1
    refine T_iload (am_dec tX11_witnesses_0 22 rfl) rfl ?_
    refine T_iload (am_dec tX11_witnesses_0 23 rfl) rfl ?_
    refine T_icmp_gt 82 (am_dec tX11_witnesses_0 24 rfl) rfl (fun h42 => by exfalso; omega) (fun h42 => ?_)
    refine T_aload_n (am_dec tX11_witnesses_0 25 rfl) rfl ?_
    refine T_getfield 10 9 (am_dec tX11_witnesses_0 26 rfl) flX11_58_10 (show (hfW w hb sp rb rs hb po ro ee hh ss uu vv pp kk rr tt gg aa dd bd ga im)[0]? = some (cO 10 [aR hb, aR sp, aR rb, aR rs, aR 52, aR 53, aR 51, aI (ee 0 7), aI (ee 0 8), aR 54, aR 64, aR 74, aR 77, aR 83, aR 84, aR 86, aR 88, aI (ee 0 17), aR 107, aR 108]) from (hfW_c hl 0 (by decide))) rfl ?_
    refine T_iload_n (am_dec tX11_witnesses_0 27 rfl) rfl ?_
    refine T_bipush 10 (am_dec tX11_witnesses_0 28 rfl) rfl ⟨by decide, by decide⟩ ?_
    refine T_iload_n (am_dec tX11_witnesses_0 29 rfl) rfl ?_
    refine T_imul (10 * y) (am_dec tX11_witnesses_0 30 rfl) rfl ⟨by omega, by omega⟩ ?_
    refine T_iadd (x + (10 * y)) (am_dec tX11_witnesses_0 31 rfl) rfl ⟨by omega, by omega⟩ ?_
    refine T_iload (am_dec tX11_witnesses_0 32 rfl) rfl ?_
    refine T_callS (as := [aR 54, aI (x + (10 * y)), aI v8]) rfl (am_dec tX11_witnesses_0 33 rfl) lkX11_231 rfl (Nat.le_of_ble_eq_true rfl) (by omega) (m_walkersOn (d := d - 1) (hf_R hl) (hf_H hl hp) (HbI_A hI).1 hRI.2.1 (HbI_W hI) (HbI_Co hI) (HbI_Wt hI) (x + (10 * y)) v8 (by omega) (by omega)) (fun _ => ?_)
    refine T_nm (fun v57 hv57 => ?_)
    refine T_istore (ls' := [some (aR 0), some (aI x), some (aI y), none, some (aI to), some (aI al), some (aI v6), some (aI v7), some (aI v8), some (aI v57)]) (am_dec tX11_witnesses_0 34 rfl) (by decide) rfl ?_
    refine T_iload (am_dec tX11_witnesses_0 35 rfl) rfl ?_
    refine T_iload (am_dec tX11_witnesses_0 36 rfl) rfl ?_
    refine T_ior (am_ior v6 v57) (am_dec tX11_witnesses_0 37 rfl) (am_w32e _).symm (am_w32r _) ?_
    refine T_istore (ls' := [some (aR 0), some (aI x), some (aI y), none, some (aI to), some (aI al), some (aI (am_ior v6 v57)), some (aI v7), some (aI v8), some (aI v57)]) (am_dec tX11_witnesses_0 38 rfl) (by decide) rfl ?_
    refine T_iload (am_dec tX11_witnesses_0 39 rfl) rfl ?_
    refine T_iload (am_dec tX11_witnesses_1 0 rfl) rfl ?_
    refine T_iand (am_iand v7 v57) (am_dec tX11_witnesses_1 1 rfl) (am_w32e _).symm (am_w32r _) ?_
    refine T_istore (ls' := [some (aR 0), some (aI x), some (aI y), none, some (aI to), some (aI al), some (aI (am_ior v6 v57)), some (aI (am_iand v7 v57)), some (aI v8), some (aI v57)]) (am_dec tX11_witnesses_1 2 rfl) (by decide) rfl ?_
    refine T_iinc (ls' := [some (aR 0), some (aI x), some (aI y), none, some (aI to), some (aI al), some (aI (am_ior v6 v57)), some (aI (am_iand v7 v57)), some (aI (v8 + 1)), some (aI v57)]) (v8 + 1) (am_dec tX11_witnesses_1 3 rfl) rfl rfl ⟨by omega, by omega⟩ (by decide) rfl ?_
    refine T_goto 38 (am_dec tX11_witnesses_1 4 rfl) rfl ?_
    refine T_weak (ls' := [some (aR 0), some (aI x), some (aI y), none, some (aI to), some (aI al), some (aI (am_ior v6 v57)), some (aI (am_iand v7 v57)), some (aI (v8 + 1)), none]) (am_sub_s (am_sub_s (am_sub_s (am_sub_n (am_sub_s (am_sub_s (am_sub_s (am_sub_s (am_sub_s (am_sub_n am_sub_nil)))))))))) ?_
    have e9 : (g_c_witnesses_38 hh rr x y) v8 (v6, v7) = (am_ior v6 v57, am_iand v7 v57) := (by have s9 := hv57.symm; subst s9; exact rfl)
    simp only [am_fold_s, e9] at k9
    exact ih (v8 + 1) (am_ior v6 v57) (am_iand v7 v57) (by omega) (by omega) k9
def c_witnesses (ee : am_F) (hh : am_F) (rr : am_F) (x : Int) (y : Int) (fr : Int) (to : Int) (al : Int) : Int × Int × am_F × am_F := (if n_cell hh x y = 0 then (if n_step fr = 0 then (if n_range to fr 39 = 0 then (let rr26 : am_F := f_upTo hh rr to; (let v6_38 : Int := (am_fold (g_c_witnesses_38 hh rr26 x y) fr (to + 1 - fr).toNat (0, (-1))).1; (let v7_38 : Int := (am_fold (g_c_witnesses_38 hh rr26 x y) fr (to + 1 - fr).toNat (0, (-1))).2; (let t84 : Int := (if al = 0 then v6_38 else v7_38); (0, t84, ee, rr26))))) else ((n_range to fr 39), 0, n_ref ee (n_range to fr 39), rr)) else ((n_step fr), 0, n_ref ee (n_step fr), rr)) else ((n_cell hh x y), 0, n_ref ee (n_cell hh x y), rr))
theorem mc_witnesses {S : am_S} {d u : Nat} {w : AH} {hb sp rb rs : Nat} {po ro : AV} (hl : 109 ≤ w.length) (hp : hb = 1 ∧ sp = 21 ∨ hb = 21 ∧ sp = 1) (hr : rb = 41 ∧ rs = 46 ∨ rb = 46 ∧ rs = 41) {ee : am_F} {hh : am_F} {ss : am_F} {uu : am_F} {vv : am_F} {pp : am_F} {kk : am_F} {rr : am_F} {tt : am_F} {gg : am_F} {aa : am_F} {dd : am_F} {bd : am_F} {ga : am_F} {im : am_F} (x : Int) (y : Int) (fr : Int) (to : Int) (al : Int) (hI : HbI hh) (hRI : RnI rr) (hu : 1 ≤ u) (hd : 8 ≤ d) : am_Out S zX11_witnesses d u [aR 0, aI x, aI y, aI fr, aI to, aI al] (hfW w hb sp rb rs hb po ro ee hh ss uu vv pp kk rr tt gg aa dd bd ga im) (am_oc ((c_witnesses ee hh rr x y fr to al).1) ((c_witnesses ee hh rr x y fr to al).2.1)) (hfW w hb sp rb rs hb po ro ((c_witnesses ee hh rr x y fr to al).2.2.1) hh ss uu vv pp kk ((c_witnesses ee hh rr x y fr to al).2.2.2) tt gg aa dd bd ga im) := by
  have key : ∀ Q : AO → AH → Prop, Q (am_oc ((c_witnesses ee hh rr x y fr to al).1) ((c_witnesses ee hh rr x y fr to al).2.1)) (hfW w hb sp rb rs hb po ro ((c_witnesses ee hh rr x y fr to al).2.2.1) hh ss uu vv pp kk ((c_witnesses ee hh rr x y fr to al).2.2.2) tt gg aa dd bd ga im) → am_M S zX11_witnesses d u [aR 0, aI x, aI y, aI fr, aI to, aI al] (hfW w hb sp rb rs hb po ro ee hh ss uu vv pp kk rr tt gg aa dd bd ga im) Q := by
    intro Q hQ
    refine am_body rfl (by decide +kernel) rfl (am_cats_cons rfl ( am_cats_cons rfl ( am_cats_cons rfl ( am_cats_cons rfl ( am_cats_cons rfl ( am_cats_cons rfl (am_cats_nil))))))) (Nat.le_of_ble_eq_true rfl) (?_ : am_T _ _ _ _ _ 0 [some (aR 0), some (aI x), some (aI y), some (aI fr), some (aI to), some (aI al), none, none, none, none] [] (hfW w hb sp rb rs hb po ro ee hh ss uu vv pp kk rr tt gg aa dd bd ga im))
    obtain ⟨vh1, vh2, vh3, vh4, vh5, vh6, vh7, vh8, vh9, vh10, vh11, vh12, vh13, vh14, vh15, vh16, vh17, vh18, vh19, vh20, vh21, vh22⟩ := (HbI_A hI).1
    refine T_aload_n (am_dec tX11_witnesses_0 0 rfl) rfl ?_
    refine T_iload_n (am_dec tX11_witnesses_0 1 rfl) rfl ?_
    refine T_iload_n (am_dec tX11_witnesses_0 2 rfl) rfl ?_
    refine T_callVo (as := [aI x, aI y]) (code := n_cell hh x y) rfl (am_dec tX11_witnesses_0 3 rfl) lkX11_173 (show (hfW w hb sp rb rs hb po ro ee hh ss uu vv pp kk rr tt gg aa dd bd ga im)[0]? = some (cO 10 [aR hb, aR sp, aR rb, aR rs, aR 52, aR 53, aR 51, aI (ee 0 7), aI (ee 0 8), aR 54, aR 64, aR 74, aR 77, aR 83, aR 84, aR 86, aR 88, aI (ee 0 17), aR 107, aR 108]) from (hfW_c hl 0 (by decide))) rfl rfl (Nat.le_of_ble_eq_true rfl) (by omega) (by omega) (fun hN3 => (mx_cell0 (d := d - 1) hl hp hr x y  hN3 (by omega))) (fun hN3 => (x_cellX (d := d - 1) hl hp hr x y  hN3 (by omega) (by omega))) (fun hN3 => ?_) (fun hN3 => ?_)
    · exact (am_tr (fun (x9 : Int × Int × am_F × am_F) => Q (am_oc (x9.1) (x9.2.1)) (hfW w hb sp rb rs hb po ro x9.2.2.1 hh ss uu vv pp kk x9.2.2.2 tt gg aa dd bd ga im)) (y := ((n_cell hh x y), 0, n_ref ee (n_cell hh x y), rr)) (show (c_witnesses ee hh rr x y fr to al) = ((n_cell hh x y), 0, n_ref ee (n_cell hh x y), rr) from (if_neg hN3)) hQ)
    have hk3 := n_cell_0 hN3
    refine T_aload_n (am_dec tX11_witnesses_0 4 rfl) rfl ?_
    refine T_iload_n (am_dec tX11_witnesses_0 5 rfl) rfl ?_
    refine T_callVo (as := [aI fr]) (code := n_step fr) rfl (am_dec tX11_witnesses_0 6 rfl) lkX11_194 (show (hfW w hb sp rb rs hb po ro ee hh ss uu vv pp kk rr tt gg aa dd bd ga im)[0]? = some (cO 10 [aR hb, aR sp, aR rb, aR rs, aR 52, aR 53, aR 51, aI (ee 0 7), aI (ee 0 8), aR 54, aR 64, aR 74, aR 77, aR 83, aR 84, aR 86, aR 88, aI (ee 0 17), aR 107, aR 108]) from (hfW_c hl 0 (by decide))) rfl rfl (Nat.le_of_ble_eq_true rfl) (by omega) (by omega) (fun hN8 => (mx_step0 (d := d - 1) hl hp hr fr  hN8 (by omega))) (fun hN8 => (x_stepX (d := d - 1) hl hp hr fr  hN8 (by omega) (by omega))) (fun hN8 => ?_) (fun hN8 => ?_)
    · exact (am_tr (fun (x9 : Int × Int × am_F × am_F) => Q (am_oc (x9.1) (x9.2.1)) (hfW w hb sp rb rs hb po ro x9.2.2.1 hh ss uu vv pp kk x9.2.2.2 tt gg aa dd bd ga im)) (y := ((n_step fr), 0, n_ref ee (n_step fr), rr)) (show (c_witnesses ee hh rr x y fr to al) = ((n_step fr), 0, n_ref ee (n_step fr), rr) from ((if_pos hN3).trans (if_neg hN8))) hQ)
    have hk8 := n_step_0 hN8
    refine T_aload_n (am_dec tX11_witnesses_0 7 rfl) rfl ?_
    refine T_iload (am_dec tX11_witnesses_0 8 rfl) rfl ?_
    refine T_iload_n (am_dec tX11_witnesses_0 9 rfl) rfl ?_
    refine T_bipush 39 (am_dec tX11_witnesses_0 10 rfl) rfl ⟨by decide, by decide⟩ ?_
    refine T_callVo (as := [aI to, aI fr, aI 39]) (code := n_range to fr 39) rfl (am_dec tX11_witnesses_0 11 rfl) lkX11_117 (show (hfW w hb sp rb rs hb po ro ee hh ss uu vv pp kk rr tt gg aa dd bd ga im)[0]? = some (cO 10 [aR hb, aR sp, aR rb, aR rs, aR 52, aR 53, aR 51, aI (ee 0 7), aI (ee 0 8), aR 54, aR 64, aR 74, aR 77, aR 83, aR 84, aR 86, aR 88, aI (ee 0 17), aR 107, aR 108]) from (hfW_c hl 0 (by decide))) rfl rfl (Nat.le_of_ble_eq_true rfl) (by omega) (by omega) (fun hN17 => (mx_range0 (d := d - 1) hl hp hr to fr 39  hN17 (by omega))) (fun hN17 => (x_rangeX (d := d - 1) hl hp hr to fr 39  hN17 (by omega) (by omega))) (fun hN17 => ?_) (fun hN17 => ?_)
    · exact (am_tr (fun (x9 : Int × Int × am_F × am_F) => Q (am_oc (x9.1) (x9.2.1)) (hfW w hb sp rb rs hb po ro x9.2.2.1 hh ss uu vv pp kk x9.2.2.2 tt gg aa dd bd ga im)) (y := ((n_range to fr 39), 0, n_ref ee (n_range to fr 39), rr)) (show (c_witnesses ee hh rr x y fr to al) = ((n_range to fr 39), 0, n_ref ee (n_range to fr 39), rr) from ((if_pos hN3).trans ((if_pos hN8).trans (if_neg hN17)))) hQ)
    have hk17 := n_range_0 hN17
    refine T_aload_n (am_dec tX11_witnesses_0 12 rfl) rfl ?_
    refine T_getfield 10 9 (am_dec tX11_witnesses_0 13 rfl) flX11_58_10 (show (hfW w hb sp rb rs hb po ro ee hh ss uu vv pp kk rr tt gg aa dd bd ga im)[0]? = some (cO 10 [aR hb, aR sp, aR rb, aR rs, aR 52, aR 53, aR 51, aI (ee 0 7), aI (ee 0 8), aR 54, aR 64, aR 74, aR 77, aR 83, aR 84, aR 86, aR 88, aI (ee 0 17), aR 107, aR 108]) from (hfW_c hl 0 (by decide))) rfl ?_
    refine T_iload (am_dec tX11_witnesses_0 14 rfl) rfl ?_
    refine T_callV (as := [aI to]) rfl (am_dec tX11_witnesses_0 15 rfl) lkX11_177 (show (hfW w hb sp rb rs hb po ro ee hh ss uu vv pp kk rr tt gg aa dd bd ga im)[54]? = some (cO 8 [aR hb, aI (rr 0 1), aI (rr 0 2), aI (rr 0 3), aI (rr 0 4), aI (rr 0 5), aR 55, aR 56, aR 57, aR 58, aR 59, aR 60, aR 61, aR 62, aR 63]) from (hfW_c hl 54 (by decide))) rfl rfl (Nat.le_of_ble_eq_true rfl) (by omega) (am_OutE (m_upTo (d := d - 1) (w := hfW w hb sp rb rs hb po ro ee hh ss uu vv pp kk rr tt gg aa dd bd ga im) (hf_le hl (by omega)) (by omega) (hf_H hl hp) (HbI_A hI) to hRI.1 hRI.2.1 hRI.2.2 (by omega)) hf_uR hf_uR) (fun _ => ?_)
    refine T_nmH (W := fun x9 => hfW w hb sp rb rs hb po ro ee hh ss uu vv pp kk x9 tt gg aa dd bd ga im) (v := f_upTo hh rr to) (fun rr26 hrr26 => ?_)
    have hIrr26 : RnI rr26 := by rw [hrr26]; exact f_upTo_I (HbI_A hI) hRI
    refine T_iconst 0 (am_dec tX11_witnesses_0 16 rfl) rfl ⟨by decide, by decide⟩ ?_
    refine T_istore (ls' := [some (aR 0), some (aI x), some (aI y), some (aI fr), some (aI to), some (aI al), some (aI 0), none, none, none]) (am_dec tX11_witnesses_0 17 rfl) (by decide) rfl ?_
    refine T_iconst (-1) (am_dec tX11_witnesses_0 18 rfl) rfl ⟨by decide, by decide⟩ ?_
    refine T_istore (ls' := [some (aR 0), some (aI x), some (aI y), some (aI fr), some (aI to), some (aI al), some (aI 0), some (aI (-1)), none, none]) (am_dec tX11_witnesses_0 19 rfl) (by decide) rfl ?_
    refine T_iload_n (am_dec tX11_witnesses_0 20 rfl) rfl ?_
    refine T_istore (ls' := [some (aR 0), some (aI x), some (aI y), some (aI fr), some (aI to), some (aI al), some (aI 0), some (aI (-1)), some (aI fr), none]) (am_dec tX11_witnesses_0 21 rfl) (by decide) rfl ?_
    refine T_weak (ls' := [some (aR 0), some (aI x), some (aI y), none, some (aI to), some (aI al), some (aI 0), some (aI (-1)), some (aI fr), none]) (am_sub_s (am_sub_s (am_sub_s (am_sub_n (am_sub_s (am_sub_s (am_sub_s (am_sub_s (am_sub_s (am_sub_n am_sub_nil)))))))))) ?_
    refine L_c_witnesses_38 hl hp hr ee hh ss uu vv pp kk rr26 tt gg aa dd bd ga im x y fr to al hI hIrr26 (by omega) (by omega) (by omega) _ rfl (to + 1 - fr).toNat fr 0 (-1) (by omega) (by omega) (fun v6_38 v7_38 hv6_38 hv7_38 => ?_)
    refine T_iload (am_dec tX11_witnesses_1 5 rfl) rfl ?_
    have K84 : ∀ (t84 : Int), t84 = (if al = 0 then v6_38 else v7_38) →  am_T S zX11_witnesses d u Q 94 [none, none, none, none, none, none, none, none, none, none] [aI t84] (hfW w hb sp rb rs hb po ro ee hh ss uu vv pp kk rr26 tt gg aa dd bd ga im) := by
      intro t84 ht84 
      exact T_ireturn (am_dec tX11_witnesses_1 10 rfl) rfl (am_tr (fun (x9 : Int × Int × am_F × am_F) => Q (am_oc (x9.1) (x9.2.1)) (hfW w hb sp rb rs hb po ro x9.2.2.1 hh ss uu vv pp kk x9.2.2.2 tt gg aa dd bd ga im)) (y := (0, t84, ee, rr26)) (show (c_witnesses ee hh rr x y fr to al) = (0, t84, ee, rr26) from (by have s9 := hrr26.symm; subst s9; have s9 := hv6_38.symm; subst s9; have s9 := hv7_38.symm; subst s9; have s9 := ht84.symm; subst s9; exact ((if_pos hN3).trans ((if_pos hN8).trans (if_pos hN17))))) hQ)
    refine T_if_eq 92 (am_dec tX11_witnesses_1 6 rfl) rfl (fun h84 => ?_) (fun h84 => ?_)
    · refine T_iload (am_dec tX11_witnesses_1 9 rfl) rfl ?_
      refine T_weak (ls' := [none, none, none, none, none, none, none, none, none, none]) (am_sub_n (am_sub_n (am_sub_n (am_sub_n (am_sub_n (am_sub_n (am_sub_n (am_sub_n (am_sub_n (am_sub_n am_sub_nil)))))))))) ?_
      exact K84 _ (if_pos h84).symm 
    · refine T_iload (am_dec tX11_witnesses_1 7 rfl) rfl ?_
      refine T_goto 94 (am_dec tX11_witnesses_1 8 rfl) rfl ?_
      refine T_weak (ls' := [none, none, none, none, none, none, none, none, none, none]) (am_sub_n (am_sub_n (am_sub_n (am_sub_n (am_sub_n (am_sub_n (am_sub_n (am_sub_n (am_sub_n (am_sub_n am_sub_nil)))))))))) ?_
      exact K84 _ (if_neg h84).symm 
  exact key _ ⟨rfl, rfl⟩
def g_c_hid_25 (hh : am_F) (rr : am_F) (k : Int) (v3 : Int) (v2 : Int) : Int := (let z37 : Int := f_hid rr hh k v3; (if z37 = 0 then v2 else (v2 + 1)))
theorem L_c_hid_25 {S : am_S} {d u : Nat} {Q : AO → AH → Prop} {w : AH} {hb sp rb rs : Nat} {po ro : AV} (hl : 109 ≤ w.length) (hp : hb = 1 ∧ sp = 21 ∨ hb = 21 ∧ sp = 1) (hr : rb = 41 ∧ rs = 46 ∨ rb = 46 ∧ rs = 41) (ee : am_F) (hh : am_F) (ss : am_F) (uu : am_F) (vv : am_F) (pp : am_F) (kk : am_F) (rr : am_F) (tt : am_F) (gg : am_F) (aa : am_F) (dd : am_F) (bd : am_F) (ga : am_F) (im : am_F) (k : Int) (hI : HbI hh) (hRI : RnI rr)  (hd : 7 ≤ d) (B9 : Int) (hB : B9 = 40) : ∀ (n : Nat) (v3 : Int) (v2 : Int), v3 + n = B9 → 0 ≤ v3 → 0 ≤ v2 ∧ v2 ≤ 1 * v3 → (∀ (v2' : Int), v2' = am_fold (g_c_hid_25 hh rr k) v3 n v2 → 0 ≤ v2' ∧ v2' ≤ 1 * B9 → am_T S zX11_hid d u Q 52 [none, none, some (aI v2'), none] [] (hfW w hb sp rb rs hb po ro ee hh ss uu vv pp kk rr tt gg aa dd bd ga im)) → am_T S zX11_hid d u Q 25 [some (aR 0), some (aI k), some (aI v2), some (aI v3)] [] (hfW w hb sp rb rs hb po ro ee hh ss uu vv pp kk rr tt gg aa dd bd ga im) := by
  intro n
  induction n with
  | zero =>
    intro v3 v2 hi9 h0i hinv k9
    have e9 : v3 = B9 := by omega
    subst e9
    obtain ⟨vh1, vh2, vh3, vh4, vh5, vh6, vh7, vh8, vh9, vh10, vh11, vh12, vh13, vh14, vh15, vh16, vh17, vh18, vh19, vh20, vh21, vh22⟩ := (HbI_A hI).1
    refine T_iload_n (am_dec tX11_hid_0 14 rfl) rfl ?_
    refine T_bipush 40 (am_dec tX11_hid_0 15 rfl) rfl ⟨by decide, by decide⟩ ?_
    refine T_icmp_ge 52 (am_dec tX11_hid_0 16 rfl) rfl (fun h28 => ?_) (fun h28 => by exfalso; omega)
    refine T_weak (ls' := [none, none, some (aI v2), none]) (am_sub_n (am_sub_n (am_sub_s (am_sub_n am_sub_nil)))) ?_
    exact k9 v2 rfl hinv
  | succ n ih =>
    intro v3 v2 hi9 h0i hinv k9
    obtain ⟨vh1, vh2, vh3, vh4, vh5, vh6, vh7, vh8, vh9, vh10, vh11, vh12, vh13, vh14, vh15, vh16, vh17, vh18, vh19, vh20, vh21, vh22⟩ := (HbI_A hI).1
    refine T_iload_n (am_dec tX11_hid_0 14 rfl) rfl ?_
    refine T_bipush 40 (am_dec tX11_hid_0 15 rfl) rfl ⟨by decide, by decide⟩ ?_
    refine T_icmp_ge 52 (am_dec tX11_hid_0 16 rfl) rfl (fun h28 => by exfalso; omega) (fun h28 => ?_)
    refine T_aload_n (am_dec tX11_hid_0 17 rfl) rfl ?_
    refine T_getfield 10 9 (am_dec tX11_hid_0 18 rfl) flX11_58_10 (show (hfW w hb sp rb rs hb po ro ee hh ss uu vv pp kk rr tt gg aa dd bd ga im)[0]? = some (cO 10 [aR hb, aR sp, aR rb, aR rs, aR 52, aR 53, aR 51, aI (ee 0 7), aI (ee 0 8), aR 54, aR 64, aR 74, aR 77, aR 83, aR 84, aR 86, aR 88, aI (ee 0 17), aR 107, aR 108]) from (hfW_c hl 0 (by decide))) rfl ?_
    refine T_iload_n (am_dec tX11_hid_0 19 rfl) rfl ?_
    refine T_iload_n (am_dec tX11_hid_0 20 rfl) rfl ?_
    refine T_callS (as := [aR 54, aI k, aI v3]) rfl (am_dec tX11_hid_0 21 rfl) lkX11_234 rfl (Nat.le_of_ble_eq_true rfl) (by omega) (m_hid (d := d - 1) (hf_R hl) (hf_H hl hp) (HbI_A hI).1 hRI.2.1 (HbI_W hI) (HbI_Co hI) (HbI_Wt hI) k v3 (by omega)) (fun _ => ?_)
    refine T_nm (fun z37 hz37 => ?_)
    have hb37 := f_hid_b rr hh k v3
    rw [← hz37] at hb37
    have K40 : ∀ (v2_40 : Int), v2_40 = (if z37 = 0 then v2 else (v2 + 1)) →  am_T S zX11_hid d u Q 46 [some (aR 0), some (aI k), some (aI v2_40), some (aI v3)] [] (hfW w hb sp rb rs hb po ro ee hh ss uu vv pp kk rr tt gg aa dd bd ga im) := by
      intro v2_40 hv2_40 
      refine T_iinc (ls' := [some (aR 0), some (aI k), some (aI v2_40), some (aI (v3 + 1))]) (v3 + 1) (am_dec tX11_hid_0 24 rfl) rfl rfl ⟨by omega, by omega⟩ (by decide) rfl ?_
      refine T_goto 25 (am_dec tX11_hid_0 25 rfl) rfl ?_
      have e9 : (g_c_hid_25 hh rr k) v3 v2 = v2_40 := (by have s9 := hz37.symm; subst s9; have s9 := hv2_40.symm; subst s9; exact rfl)
      simp only [am_fold_s, e9] at k9
      exact ih (v3 + 1) v2_40 (by omega) (by omega) (by omega) k9
    refine T_if_eq 46 (am_dec tX11_hid_0 22 rfl) rfl (fun h40 => ?_) (fun h40 => ?_)
    · exact K40 _ (if_pos h40).symm 
    · refine T_iinc (ls' := [some (aR 0), some (aI k), some (aI (v2 + 1)), some (aI v3)]) (v2 + 1) (am_dec tX11_hid_0 23 rfl) rfl rfl ⟨by omega, by omega⟩ (by decide) rfl ?_
      exact K40 _ (if_neg h40).symm 
def c_hid (ee : am_F) (hh : am_F) (rr : am_F) (k : Int) : Int × Int × am_F × am_F := (if n_row (hh 0 8) k = 0 then (let rr18 : am_F := f_upTo hh rr 39; (let v2_25 : Int := am_fold (g_c_hid_25 hh rr18 k) 0 40 0; (0, v2_25, ee, rr18))) else ((n_row (hh 0 8) k), 0, n_ref ee (n_row (hh 0 8) k), rr))
theorem mc_hid {S : am_S} {d u : Nat} {w : AH} {hb sp rb rs : Nat} {po ro : AV} (hl : 109 ≤ w.length) (hp : hb = 1 ∧ sp = 21 ∨ hb = 21 ∧ sp = 1) (hr : rb = 41 ∧ rs = 46 ∨ rb = 46 ∧ rs = 41) {ee : am_F} {hh : am_F} {ss : am_F} {uu : am_F} {vv : am_F} {pp : am_F} {kk : am_F} {rr : am_F} {tt : am_F} {gg : am_F} {aa : am_F} {dd : am_F} {bd : am_F} {ga : am_F} {im : am_F} (k : Int) (hI : HbI hh) (hRI : RnI rr) (hu : 1 ≤ u) (hd : 7 ≤ d) : am_Out S zX11_hid d u [aR 0, aI k] (hfW w hb sp rb rs hb po ro ee hh ss uu vv pp kk rr tt gg aa dd bd ga im) (am_oc ((c_hid ee hh rr k).1) ((c_hid ee hh rr k).2.1)) (hfW w hb sp rb rs hb po ro ((c_hid ee hh rr k).2.2.1) hh ss uu vv pp kk ((c_hid ee hh rr k).2.2.2) tt gg aa dd bd ga im) := by
  have key : ∀ Q : AO → AH → Prop, Q (am_oc ((c_hid ee hh rr k).1) ((c_hid ee hh rr k).2.1)) (hfW w hb sp rb rs hb po ro ((c_hid ee hh rr k).2.2.1) hh ss uu vv pp kk ((c_hid ee hh rr k).2.2.2) tt gg aa dd bd ga im) → am_M S zX11_hid d u [aR 0, aI k] (hfW w hb sp rb rs hb po ro ee hh ss uu vv pp kk rr tt gg aa dd bd ga im) Q := by
    intro Q hQ
    refine am_body rfl (by decide +kernel) rfl (am_cats_cons rfl ( am_cats_cons rfl (am_cats_nil))) (Nat.le_of_ble_eq_true rfl) (?_ : am_T _ _ _ _ _ 0 [some (aR 0), some (aI k), none, none] [] (hfW w hb sp rb rs hb po ro ee hh ss uu vv pp kk rr tt gg aa dd bd ga im))
    obtain ⟨vh1, vh2, vh3, vh4, vh5, vh6, vh7, vh8, vh9, vh10, vh11, vh12, vh13, vh14, vh15, vh16, vh17, vh18, vh19, vh20, vh21, vh22⟩ := (HbI_A hI).1
    refine T_aload_n (am_dec tX11_hid_0 0 rfl) rfl ?_
    refine T_aload_n (am_dec tX11_hid_0 1 rfl) rfl ?_
    refine T_getfield 10 0 (am_dec tX11_hid_0 2 rfl) flX11_10_10 (show (hfW w hb sp rb rs hb po ro ee hh ss uu vv pp kk rr tt gg aa dd bd ga im)[0]? = some (cO 10 [aR hb, aR sp, aR rb, aR rs, aR 52, aR 53, aR 51, aI (ee 0 7), aI (ee 0 8), aR 54, aR 64, aR 74, aR 77, aR 83, aR 84, aR 86, aR 88, aI (ee 0 17), aR 107, aR 108]) from (hfW_c hl 0 (by decide))) rfl ?_
    refine T_getfield 3 8 (am_dec tX11_hid_0 3 rfl) flX11_161_3 (show (hfW w hb sp rb rs hb po ro ee hh ss uu vv pp kk rr tt gg aa dd bd ga im)[hb]? = some (cO 3 [aI (hh 0 0), aI (hh 0 1), aI (hh 0 2), aR (hb + 1), aR (hb + 3), aR (hb + 5), aR (hb + 7), aR (hb + 9), aR (hb + 11), aR (hb + 13), aR (hb + 15), aR (hb + 17), aR (hb + 18), aR (hb + 19)]) from ((hf_H hl hp) 0 (by decide))) rfl ?_
    refine T_iload_n (am_dec tX11_hid_0 4 rfl) rfl ?_
    refine T_callVo (as := [aR (hb + 11), aI k]) (code := n_row (hh 0 8) k) rfl (am_dec tX11_hid_0 5 rfl) lkX11_190 (show (hfW w hb sp rb rs hb po ro ee hh ss uu vv pp kk rr tt gg aa dd bd ga im)[0]? = some (cO 10 [aR hb, aR sp, aR rb, aR rs, aR 52, aR 53, aR 51, aI (ee 0 7), aI (ee 0 8), aR 54, aR 64, aR 74, aR 77, aR 83, aR 84, aR 86, aR 88, aI (ee 0 17), aR 107, aR 108]) from (hfW_c hl 0 (by decide))) rfl rfl (Nat.le_of_ble_eq_true rfl) (by omega) (by omega) (fun hN9 => (mx_row0 (d := d - 1) hl hp hr k (show (hfW w hb sp rb rs hb po ro ee hh ss uu vv pp kk rr tt gg aa dd bd ga im)[hb + 11]? = some (cO 9 [aI 4, aR (hb + 12), aI (hh 0 8)]) from ((hf_H hl hp) 11 (by decide))) (show (hfW w hb sp rb rs hb po ro ee hh ss uu vv pp kk rr tt gg aa dd bd ga im)[hb + 12]? = some (cP 0 48 (hh 6)) from ((hf_H hl hp) 12 (by decide))) (by omega) hN9 (by omega))) (fun hN9 => (x_rowX (d := d - 1) hl hp hr k (show (hfW w hb sp rb rs hb po ro ee hh ss uu vv pp kk rr tt gg aa dd bd ga im)[hb + 11]? = some (cO 9 [aI 4, aR (hb + 12), aI (hh 0 8)]) from ((hf_H hl hp) 11 (by decide))) (show (hfW w hb sp rb rs hb po ro ee hh ss uu vv pp kk rr tt gg aa dd bd ga im)[hb + 12]? = some (cP 0 48 (hh 6)) from ((hf_H hl hp) 12 (by decide))) (by omega) hN9 (by omega) (by omega))) (fun hN9 => ?_) (fun hN9 => ?_)
    · exact (am_tr (fun (x9 : Int × Int × am_F × am_F) => Q (am_oc (x9.1) (x9.2.1)) (hfW w hb sp rb rs hb po ro x9.2.2.1 hh ss uu vv pp kk x9.2.2.2 tt gg aa dd bd ga im)) (y := ((n_row (hh 0 8) k), 0, n_ref ee (n_row (hh 0 8) k), rr)) (show (c_hid ee hh rr k) = ((n_row (hh 0 8) k), 0, n_ref ee (n_row (hh 0 8) k), rr) from (if_neg hN9)) hQ)
    have hk9 := n_row_0 hN9
    refine T_aload_n (am_dec tX11_hid_0 6 rfl) rfl ?_
    refine T_getfield 10 9 (am_dec tX11_hid_0 7 rfl) flX11_58_10 (show (hfW w hb sp rb rs hb po ro ee hh ss uu vv pp kk rr tt gg aa dd bd ga im)[0]? = some (cO 10 [aR hb, aR sp, aR rb, aR rs, aR 52, aR 53, aR 51, aI (ee 0 7), aI (ee 0 8), aR 54, aR 64, aR 74, aR 77, aR 83, aR 84, aR 86, aR 88, aI (ee 0 17), aR 107, aR 108]) from (hfW_c hl 0 (by decide))) rfl ?_
    refine T_bipush 39 (am_dec tX11_hid_0 8 rfl) rfl ⟨by decide, by decide⟩ ?_
    refine T_callV (as := [aI 39]) rfl (am_dec tX11_hid_0 9 rfl) lkX11_177 (show (hfW w hb sp rb rs hb po ro ee hh ss uu vv pp kk rr tt gg aa dd bd ga im)[54]? = some (cO 8 [aR hb, aI (rr 0 1), aI (rr 0 2), aI (rr 0 3), aI (rr 0 4), aI (rr 0 5), aR 55, aR 56, aR 57, aR 58, aR 59, aR 60, aR 61, aR 62, aR 63]) from (hfW_c hl 54 (by decide))) rfl rfl (Nat.le_of_ble_eq_true rfl) (by omega) (am_OutE (m_upTo (d := d - 1) (w := hfW w hb sp rb rs hb po ro ee hh ss uu vv pp kk rr tt gg aa dd bd ga im) (hf_le hl (by omega)) (by omega) (hf_H hl hp) (HbI_A hI) 39 hRI.1 hRI.2.1 hRI.2.2 (by omega)) hf_uR hf_uR) (fun _ => ?_)
    refine T_nmH (W := fun x9 => hfW w hb sp rb rs hb po ro ee hh ss uu vv pp kk x9 tt gg aa dd bd ga im) (v := f_upTo hh rr 39) (fun rr18 hrr18 => ?_)
    have hIrr18 : RnI rr18 := by rw [hrr18]; exact f_upTo_I (HbI_A hI) hRI
    refine T_iconst 0 (am_dec tX11_hid_0 10 rfl) rfl ⟨by decide, by decide⟩ ?_
    refine T_istore_n (ls' := [some (aR 0), some (aI k), some (aI 0), none]) (am_dec tX11_hid_0 11 rfl) (by decide) rfl ?_
    refine T_iconst 0 (am_dec tX11_hid_0 12 rfl) rfl ⟨by decide, by decide⟩ ?_
    refine T_istore_n (ls' := [some (aR 0), some (aI k), some (aI 0), some (aI 0)]) (am_dec tX11_hid_0 13 rfl) (by decide) rfl ?_
    refine L_c_hid_25 hl hp hr ee hh ss uu vv pp kk rr18 tt gg aa dd bd ga im k hI hIrr18  (by omega) _ rfl 40 0 0 (by omega) (by omega) (by omega) (fun v2_25 hv2_25 hv25 => ?_)
    refine T_iload_n (am_dec tX11_hid_0 26 rfl) rfl ?_
    exact T_ireturn (am_dec tX11_hid_0 27 rfl) rfl (am_tr (fun (x9 : Int × Int × am_F × am_F) => Q (am_oc (x9.1) (x9.2.1)) (hfW w hb sp rb rs hb po ro x9.2.2.1 hh ss uu vv pp kk x9.2.2.2 tt gg aa dd bd ga im)) (y := (0, v2_25, ee, rr18)) (show (c_hid ee hh rr k) = (0, v2_25, ee, rr18) from (by have s9 := hrr18.symm; subst s9; have s9 := hv2_25.symm; subst s9; exact (if_pos hN9))) hQ)
  exact key _ ⟨rfl, rfl⟩
def p_c_meet_15 (hh : am_F) (k : Int) (l : Int) : Int → Option Int := fun v3 => (let n27 : Int := f_cellOf hh k v3; (if n27 = (-1) then none else (let n46 : Int := f_cellOf hh l v3; (if n27 = n46 then some v3 else none))))
theorem L_c_meet_15 {S : am_S} {d u : Nat} {Q : AO → AH → Prop} {w : AH} {hb sp rb rs : Nat} {po ro : AV} (hl : 109 ≤ w.length) (hp : hb = 1 ∧ sp = 21 ∨ hb = 21 ∧ sp = 1) (hr : rb = 41 ∧ rs = 46 ∨ rb = 46 ∧ rs = 41) (ee : am_F) (hh : am_F) (ss : am_F) (uu : am_F) (vv : am_F) (pp : am_F) (kk : am_F) (rr : am_F) (tt : am_F) (gg : am_F) (aa : am_F) (dd : am_F) (bd : am_F) (ga : am_F) (im : am_F) (k : Int) (l : Int) (hI : HbI hh)  (hd : 8 ≤ d) (B9 : Int) (hB : B9 = 40) : ∀ (n : Nat) (v3 : Int), v3 + n = B9 → 0 ≤ v3 → (am_find (p_c_meet_15 hh k l) v3 n = none → am_T S zX11_meet d u Q 60 [none, none, none, none, none] [] (hfW w hb sp rb rs hb po ro ee hh ss uu vv pp kk rr tt gg aa dd bd ga im)) → (∀ r9, am_find (p_c_meet_15 hh k l) v3 n = some r9 → Q (.inl (some (aI r9))) (hfW w hb sp rb rs hb po ro ee hh ss uu vv pp kk rr tt gg aa dd bd ga im)) → am_T S zX11_meet d u Q 15 [some (aR 0), some (aI k), some (aI l), some (aI v3), none] [] (hfW w hb sp rb rs hb po ro ee hh ss uu vv pp kk rr tt gg aa dd bd ga im) := by
  intro n
  induction n with
  | zero =>
    intro v3 hi9 h0i k9 kr9
    have e9 : v3 = B9 := by omega
    subst e9
    obtain ⟨vh1, vh2, vh3, vh4, vh5, vh6, vh7, vh8, vh9, vh10, vh11, vh12, vh13, vh14, vh15, vh16, vh17, vh18, vh19, vh20, vh21, vh22⟩ := (HbI_A hI).1
    refine T_iload_n (am_dec tX11_meet_0 9 rfl) rfl ?_
    refine T_bipush 40 (am_dec tX11_meet_0 10 rfl) rfl ⟨by decide, by decide⟩ ?_
    refine T_icmp_ge 60 (am_dec tX11_meet_0 11 rfl) rfl (fun h18 => ?_) (fun h18 => by exfalso; omega)
    refine T_weak (ls' := [none, none, none, none, none]) (am_sub_n (am_sub_n (am_sub_n (am_sub_n (am_sub_n am_sub_nil))))) ?_
    exact k9 rfl
  | succ n ih =>
    intro v3 hi9 h0i k9 kr9
    obtain ⟨vh1, vh2, vh3, vh4, vh5, vh6, vh7, vh8, vh9, vh10, vh11, vh12, vh13, vh14, vh15, vh16, vh17, vh18, vh19, vh20, vh21, vh22⟩ := (HbI_A hI).1
    refine T_iload_n (am_dec tX11_meet_0 9 rfl) rfl ?_
    refine T_bipush 40 (am_dec tX11_meet_0 10 rfl) rfl ⟨by decide, by decide⟩ ?_
    refine T_icmp_ge 60 (am_dec tX11_meet_0 11 rfl) rfl (fun h18 => by exfalso; omega) (fun h18 => ?_)
    refine T_aload_n (am_dec tX11_meet_0 12 rfl) rfl ?_
    refine T_getfield 10 0 (am_dec tX11_meet_0 13 rfl) flX11_10_10 (show (hfW w hb sp rb rs hb po ro ee hh ss uu vv pp kk rr tt gg aa dd bd ga im)[0]? = some (cO 10 [aR hb, aR sp, aR rb, aR rs, aR 52, aR 53, aR 51, aI (ee 0 7), aI (ee 0 8), aR 54, aR 64, aR 74, aR 77, aR 83, aR 84, aR 86, aR 88, aI (ee 0 17), aR 107, aR 108]) from (hfW_c hl 0 (by decide))) rfl ?_
    refine T_iload_n (am_dec tX11_meet_0 14 rfl) rfl ?_
    refine T_iload_n (am_dec tX11_meet_0 15 rfl) rfl ?_
    refine T_callV (as := [aI k, aI v3]) rfl (am_dec tX11_meet_0 16 rfl) lkX11_216 (show (hfW w hb sp rb rs hb po ro ee hh ss uu vv pp kk rr tt gg aa dd bd ga im)[hb]? = some (cO 3 [aI (hh 0 0), aI (hh 0 1), aI (hh 0 2), aR (hb + 1), aR (hb + 3), aR (hb + 5), aR (hb + 7), aR (hb + 9), aR (hb + 11), aR (hb + 13), aR (hb + 15), aR (hb + 17), aR (hb + 18), aR (hb + 19)]) from ((hf_H hl hp) 0 (by decide))) rfl rfl (Nat.le_of_ble_eq_true rfl) (by omega) (m_cellOf (d := d - 1) (hf_H hl hp) (HbI_A hI).1 (HbI_W hI) (by omega) k v3) (fun _ => ?_)
    refine T_nm (fun n27 hn27 => ?_)
    have hc27 := (HbI_Co hI) k v3
    rw [← hn27] at hc27
    refine T_istore (ls' := [some (aR 0), some (aI k), some (aI l), some (aI v3), some (aI n27)]) (am_dec tX11_meet_0 17 rfl) (by decide) rfl ?_
    refine T_iload (am_dec tX11_meet_0 18 rfl) rfl ?_
    refine T_iconst (-1) (am_dec tX11_meet_0 19 rfl) rfl ⟨by decide, by decide⟩ ?_
    refine T_icmp_eq 54 (am_dec tX11_meet_0 20 rfl) rfl (fun h35 => ?_) (fun h35 => ?_)
    · refine T_iinc (ls' := [some (aR 0), some (aI k), some (aI l), some (aI (v3 + 1)), some (aI n27)]) (v3 + 1) (am_dec tX11_meet_0 30 rfl) rfl rfl ⟨by omega, by omega⟩ (by decide) rfl ?_
      refine T_goto 15 (am_dec tX11_meet_0 31 rfl) rfl ?_
      refine T_weak (ls' := [some (aR 0), some (aI k), some (aI l), some (aI (v3 + 1)), none]) (am_sub_s (am_sub_s (am_sub_s (am_sub_s (am_sub_n am_sub_nil))))) ?_
      have e9 : (p_c_meet_15 hh k l) v3 = none := (by have s9 := hn27.symm; subst s9; exact (if_pos h35))
      rw [am_find_n e9] at k9 kr9
      exact ih (v3 + 1) (by omega) (by omega) k9 kr9
    · refine T_iload (am_dec tX11_meet_0 21 rfl) rfl ?_
      refine T_aload_n (am_dec tX11_meet_0 22 rfl) rfl ?_
      refine T_getfield 10 0 (am_dec tX11_meet_0 23 rfl) flX11_10_10 (show (hfW w hb sp rb rs hb po ro ee hh ss uu vv pp kk rr tt gg aa dd bd ga im)[0]? = some (cO 10 [aR hb, aR sp, aR rb, aR rs, aR 52, aR 53, aR 51, aI (ee 0 7), aI (ee 0 8), aR 54, aR 64, aR 74, aR 77, aR 83, aR 84, aR 86, aR 88, aI (ee 0 17), aR 107, aR 108]) from (hfW_c hl 0 (by decide))) rfl ?_
      refine T_iload_n (am_dec tX11_meet_0 24 rfl) rfl ?_
      refine T_iload_n (am_dec tX11_meet_0 25 rfl) rfl ?_
      refine T_callV (as := [aI l, aI v3]) rfl (am_dec tX11_meet_0 26 rfl) lkX11_216 (show (hfW w hb sp rb rs hb po ro ee hh ss uu vv pp kk rr tt gg aa dd bd ga im)[hb]? = some (cO 3 [aI (hh 0 0), aI (hh 0 1), aI (hh 0 2), aR (hb + 1), aR (hb + 3), aR (hb + 5), aR (hb + 7), aR (hb + 9), aR (hb + 11), aR (hb + 13), aR (hb + 15), aR (hb + 17), aR (hb + 18), aR (hb + 19)]) from ((hf_H hl hp) 0 (by decide))) rfl rfl (Nat.le_of_ble_eq_true rfl) (by omega) (m_cellOf (d := d - 1) (hf_H hl hp) (HbI_A hI).1 (HbI_W hI) (by omega) l v3) (fun _ => ?_)
      refine T_nm (fun n46 hn46 => ?_)
      have hc46 := (HbI_Co hI) l v3
      rw [← hn46] at hc46
      refine T_icmp_ne 54 (am_dec tX11_meet_0 27 rfl) rfl (fun h49 => ?_) (fun h49 => ?_)
      · refine T_iinc (ls' := [some (aR 0), some (aI k), some (aI l), some (aI (v3 + 1)), some (aI n27)]) (v3 + 1) (am_dec tX11_meet_0 30 rfl) rfl rfl ⟨by omega, by omega⟩ (by decide) rfl ?_
        refine T_goto 15 (am_dec tX11_meet_0 31 rfl) rfl ?_
        refine T_weak (ls' := [some (aR 0), some (aI k), some (aI l), some (aI (v3 + 1)), none]) (am_sub_s (am_sub_s (am_sub_s (am_sub_s (am_sub_n am_sub_nil))))) ?_
        have e9 : (p_c_meet_15 hh k l) v3 = none := (by have s9 := hn27.symm; subst s9; have s9 := hn46.symm; subst s9; exact ((if_neg h35).trans (if_neg h49)))
        rw [am_find_n e9] at k9 kr9
        exact ih (v3 + 1) (by omega) (by omega) k9 kr9
      · refine T_iload_n (am_dec tX11_meet_0 28 rfl) rfl ?_
        exact T_ireturn (am_dec tX11_meet_0 29 rfl) rfl (kr9 _ (am_find_y (show (p_c_meet_15 hh k l) v3 = some v3 from (by have s9 := hn27.symm; subst s9; have s9 := hn46.symm; subst s9; exact ((if_neg h35).trans (if_pos h49))))))
def c_meet (ee : am_F) (hh : am_F) (k : Int) (l : Int) : Int × Int × am_F := (if n_two (hh 0 8) k l = 0 then (Option.elim (am_find (p_c_meet_15 hh k l) 0 40) (0, (-1), ee) (fun r9 => (0, r9, ee))) else ((n_two (hh 0 8) k l), 0, n_ref ee (n_two (hh 0 8) k l)))
theorem mc_meet {S : am_S} {d u : Nat} {w : AH} {hb sp rb rs : Nat} {po ro : AV} (hl : 109 ≤ w.length) (hp : hb = 1 ∧ sp = 21 ∨ hb = 21 ∧ sp = 1) (hr : rb = 41 ∧ rs = 46 ∨ rb = 46 ∧ rs = 41) {ee : am_F} {hh : am_F} {ss : am_F} {uu : am_F} {vv : am_F} {pp : am_F} {kk : am_F} {rr : am_F} {tt : am_F} {gg : am_F} {aa : am_F} {dd : am_F} {bd : am_F} {ga : am_F} {im : am_F} (k : Int) (l : Int) (hI : HbI hh) (hu : 1 ≤ u) (hd : 8 ≤ d) : am_Out S zX11_meet d u [aR 0, aI k, aI l] (hfW w hb sp rb rs hb po ro ee hh ss uu vv pp kk rr tt gg aa dd bd ga im) (am_oc ((c_meet ee hh k l).1) ((c_meet ee hh k l).2.1)) (hfW w hb sp rb rs hb po ro ((c_meet ee hh k l).2.2) hh ss uu vv pp kk rr tt gg aa dd bd ga im) := by
  have key : ∀ Q : AO → AH → Prop, Q (am_oc ((c_meet ee hh k l).1) ((c_meet ee hh k l).2.1)) (hfW w hb sp rb rs hb po ro ((c_meet ee hh k l).2.2) hh ss uu vv pp kk rr tt gg aa dd bd ga im) → am_M S zX11_meet d u [aR 0, aI k, aI l] (hfW w hb sp rb rs hb po ro ee hh ss uu vv pp kk rr tt gg aa dd bd ga im) Q := by
    intro Q hQ
    refine am_body rfl (by decide +kernel) rfl (am_cats_cons rfl ( am_cats_cons rfl ( am_cats_cons rfl (am_cats_nil)))) (Nat.le_of_ble_eq_true rfl) (?_ : am_T _ _ _ _ _ 0 [some (aR 0), some (aI k), some (aI l), none, none] [] (hfW w hb sp rb rs hb po ro ee hh ss uu vv pp kk rr tt gg aa dd bd ga im))
    obtain ⟨vh1, vh2, vh3, vh4, vh5, vh6, vh7, vh8, vh9, vh10, vh11, vh12, vh13, vh14, vh15, vh16, vh17, vh18, vh19, vh20, vh21, vh22⟩ := (HbI_A hI).1
    refine T_aload_n (am_dec tX11_meet_0 0 rfl) rfl ?_
    refine T_aload_n (am_dec tX11_meet_0 1 rfl) rfl ?_
    refine T_getfield 10 0 (am_dec tX11_meet_0 2 rfl) flX11_10_10 (show (hfW w hb sp rb rs hb po ro ee hh ss uu vv pp kk rr tt gg aa dd bd ga im)[0]? = some (cO 10 [aR hb, aR sp, aR rb, aR rs, aR 52, aR 53, aR 51, aI (ee 0 7), aI (ee 0 8), aR 54, aR 64, aR 74, aR 77, aR 83, aR 84, aR 86, aR 88, aI (ee 0 17), aR 107, aR 108]) from (hfW_c hl 0 (by decide))) rfl ?_
    refine T_getfield 3 8 (am_dec tX11_meet_0 3 rfl) flX11_161_3 (show (hfW w hb sp rb rs hb po ro ee hh ss uu vv pp kk rr tt gg aa dd bd ga im)[hb]? = some (cO 3 [aI (hh 0 0), aI (hh 0 1), aI (hh 0 2), aR (hb + 1), aR (hb + 3), aR (hb + 5), aR (hb + 7), aR (hb + 9), aR (hb + 11), aR (hb + 13), aR (hb + 15), aR (hb + 17), aR (hb + 18), aR (hb + 19)]) from ((hf_H hl hp) 0 (by decide))) rfl ?_
    refine T_iload_n (am_dec tX11_meet_0 4 rfl) rfl ?_
    refine T_iload_n (am_dec tX11_meet_0 5 rfl) rfl ?_
    refine T_callVo (as := [aR (hb + 11), aI k, aI l]) (code := n_two (hh 0 8) k l) rfl (am_dec tX11_meet_0 6 rfl) lkX11_219 (show (hfW w hb sp rb rs hb po ro ee hh ss uu vv pp kk rr tt gg aa dd bd ga im)[0]? = some (cO 10 [aR hb, aR sp, aR rb, aR rs, aR 52, aR 53, aR 51, aI (ee 0 7), aI (ee 0 8), aR 54, aR 64, aR 74, aR 77, aR 83, aR 84, aR 86, aR 88, aI (ee 0 17), aR 107, aR 108]) from (hfW_c hl 0 (by decide))) rfl rfl (Nat.le_of_ble_eq_true rfl) (by omega) (by omega) (fun hN10 => (mx_two0 (d := d - 1) hl hp hr k l (show (hfW w hb sp rb rs hb po ro ee hh ss uu vv pp kk rr tt gg aa dd bd ga im)[hb + 11]? = some (cO 9 [aI 4, aR (hb + 12), aI (hh 0 8)]) from ((hf_H hl hp) 11 (by decide))) (show (hfW w hb sp rb rs hb po ro ee hh ss uu vv pp kk rr tt gg aa dd bd ga im)[hb + 12]? = some (cP 0 48 (hh 6)) from ((hf_H hl hp) 12 (by decide))) (by omega) hN10 (by omega))) (fun hN10 => (x_twoX (d := d - 1) hl hp hr k l (show (hfW w hb sp rb rs hb po ro ee hh ss uu vv pp kk rr tt gg aa dd bd ga im)[hb + 11]? = some (cO 9 [aI 4, aR (hb + 12), aI (hh 0 8)]) from ((hf_H hl hp) 11 (by decide))) (show (hfW w hb sp rb rs hb po ro ee hh ss uu vv pp kk rr tt gg aa dd bd ga im)[hb + 12]? = some (cP 0 48 (hh 6)) from ((hf_H hl hp) 12 (by decide))) (by omega) hN10 (by omega) (by omega))) (fun hN10 => ?_) (fun hN10 => ?_)
    · exact (am_tr (fun (x9 : Int × Int × am_F) => Q (am_oc (x9.1) (x9.2.1)) (hfW w hb sp rb rs hb po ro x9.2.2 hh ss uu vv pp kk rr tt gg aa dd bd ga im)) (y := ((n_two (hh 0 8) k l), 0, n_ref ee (n_two (hh 0 8) k l))) (show (c_meet ee hh k l) = ((n_two (hh 0 8) k l), 0, n_ref ee (n_two (hh 0 8) k l)) from (if_neg hN10)) hQ)
    have hk10 := n_two_0 hN10
    refine T_iconst 0 (am_dec tX11_meet_0 7 rfl) rfl ⟨by decide, by decide⟩ ?_
    refine T_istore_n (ls' := [some (aR 0), some (aI k), some (aI l), some (aI 0), none]) (am_dec tX11_meet_0 8 rfl) (by decide) rfl ?_
    refine L_c_meet_15 hl hp hr ee hh ss uu vv pp kk rr tt gg aa dd bd ga im k l hI  (by omega) _ rfl 40 0  (by omega) (by omega) (fun hn15 => ?_) (fun r15 hr15 => (am_tr (fun (x9 : Int × Int × am_F) => Q (am_oc (x9.1) (x9.2.1)) (hfW w hb sp rb rs hb po ro x9.2.2 hh ss uu vv pp kk rr tt gg aa dd bd ga im)) (y := (0, r15, ee)) (show (c_meet ee hh k l) = (0, r15, ee) from ((if_pos hN10).trans (am_el_s hr15))) hQ))
    refine T_iconst (-1) (am_dec tX11_meet_0 32 rfl) rfl ⟨by decide, by decide⟩ ?_
    exact T_ireturn (am_dec tX11_meet_0 33 rfl) rfl (am_tr (fun (x9 : Int × Int × am_F) => Q (am_oc (x9.1) (x9.2.1)) (hfW w hb sp rb rs hb po ro x9.2.2 hh ss uu vv pp kk rr tt gg aa dd bd ga im)) (y := (0, (-1), ee)) (show (c_meet ee hh k l) = (0, (-1), ee) from ((if_pos hN10).trans (am_el_n hn15))) hQ)
  exact key _ ⟨rfl, rfl⟩
def g_c_floorsOn_4 (hh : am_F) (k : Int) (v3 : Int) (v2 : Int) : Int := (let n16 : Int := f_cellOf hh k v3; (if n16 = (-1) then v2 else (let v38 : Int := f_lotOn hh n16; (let v41 : Int := f_floor hh v38; (v2 + v41)))))
theorem L_c_floorsOn_4 {S : am_S} {d u : Nat} {Q : AO → AH → Prop} {w : AH} {hb sp rb rs : Nat} {po ro : AV} (hl : 109 ≤ w.length) (hp : hb = 1 ∧ sp = 21 ∨ hb = 21 ∧ sp = 1) (hr : rb = 41 ∧ rs = 46 ∨ rb = 46 ∧ rs = 41) (ee : am_F) (hh : am_F) (ss : am_F) (uu : am_F) (vv : am_F) (pp : am_F) (kk : am_F) (rr : am_F) (tt : am_F) (gg : am_F) (aa : am_F) (dd : am_F) (bd : am_F) (ga : am_F) (im : am_F) (k : Int) (hI : HbI hh)  (hd : 4 ≤ d) (B9 : Int) (hB : B9 = 40) : ∀ (n : Nat) (v3 : Int) (v2 : Int), v3 + n = B9 → 0 ≤ v3 → 0 ≤ v2 ∧ v2 ≤ 9 * v3 → (∀ (v2' : Int), v2' = am_fold (g_c_floorsOn_4 hh k) v3 n v2 → 0 ≤ v2' ∧ v2' ≤ 9 * B9 → am_T S zX11_floorsOn d u Q 52 [none, none, some (aI v2'), none, none] [] (hfW w hb sp rb rs hb po ro ee hh ss uu vv pp kk rr tt gg aa dd bd ga im)) → am_T S zX11_floorsOn d u Q 4 [some (aR 0), some (aI k), some (aI v2), some (aI v3), none] [] (hfW w hb sp rb rs hb po ro ee hh ss uu vv pp kk rr tt gg aa dd bd ga im) := by
  intro n
  induction n with
  | zero =>
    intro v3 v2 hi9 h0i hinv k9
    have e9 : v3 = B9 := by omega
    subst e9
    obtain ⟨vh1, vh2, vh3, vh4, vh5, vh6, vh7, vh8, vh9, vh10, vh11, vh12, vh13, vh14, vh15, vh16, vh17, vh18, vh19, vh20, vh21, vh22⟩ := (HbI_A hI).1
    refine T_iload_n (am_dec tX11_floorsOn_0 4 rfl) rfl ?_
    refine T_bipush 40 (am_dec tX11_floorsOn_0 5 rfl) rfl ⟨by decide, by decide⟩ ?_
    refine T_icmp_ge 52 (am_dec tX11_floorsOn_0 6 rfl) rfl (fun h7 => ?_) (fun h7 => by exfalso; omega)
    refine T_weak (ls' := [none, none, some (aI v2), none, none]) (am_sub_n (am_sub_n (am_sub_s (am_sub_n (am_sub_n am_sub_nil))))) ?_
    exact k9 v2 rfl hinv
  | succ n ih =>
    intro v3 v2 hi9 h0i hinv k9
    obtain ⟨vh1, vh2, vh3, vh4, vh5, vh6, vh7, vh8, vh9, vh10, vh11, vh12, vh13, vh14, vh15, vh16, vh17, vh18, vh19, vh20, vh21, vh22⟩ := (HbI_A hI).1
    refine T_iload_n (am_dec tX11_floorsOn_0 4 rfl) rfl ?_
    refine T_bipush 40 (am_dec tX11_floorsOn_0 5 rfl) rfl ⟨by decide, by decide⟩ ?_
    refine T_icmp_ge 52 (am_dec tX11_floorsOn_0 6 rfl) rfl (fun h7 => by exfalso; omega) (fun h7 => ?_)
    refine T_aload_n (am_dec tX11_floorsOn_0 7 rfl) rfl ?_
    refine T_getfield 10 0 (am_dec tX11_floorsOn_0 8 rfl) flX11_10_10 (show (hfW w hb sp rb rs hb po ro ee hh ss uu vv pp kk rr tt gg aa dd bd ga im)[0]? = some (cO 10 [aR hb, aR sp, aR rb, aR rs, aR 52, aR 53, aR 51, aI (ee 0 7), aI (ee 0 8), aR 54, aR 64, aR 74, aR 77, aR 83, aR 84, aR 86, aR 88, aI (ee 0 17), aR 107, aR 108]) from (hfW_c hl 0 (by decide))) rfl ?_
    refine T_iload_n (am_dec tX11_floorsOn_0 9 rfl) rfl ?_
    refine T_iload_n (am_dec tX11_floorsOn_0 10 rfl) rfl ?_
    refine T_callV (as := [aI k, aI v3]) rfl (am_dec tX11_floorsOn_0 11 rfl) lkX11_216 (show (hfW w hb sp rb rs hb po ro ee hh ss uu vv pp kk rr tt gg aa dd bd ga im)[hb]? = some (cO 3 [aI (hh 0 0), aI (hh 0 1), aI (hh 0 2), aR (hb + 1), aR (hb + 3), aR (hb + 5), aR (hb + 7), aR (hb + 9), aR (hb + 11), aR (hb + 13), aR (hb + 15), aR (hb + 17), aR (hb + 18), aR (hb + 19)]) from ((hf_H hl hp) 0 (by decide))) rfl rfl (Nat.le_of_ble_eq_true rfl) (by omega) (m_cellOf (d := d - 1) (hf_H hl hp) (HbI_A hI).1 (HbI_W hI) (by omega) k v3) (fun _ => ?_)
    refine T_nm (fun n16 hn16 => ?_)
    have hc16 := (HbI_Co hI) k v3
    rw [← hn16] at hc16
    refine T_istore (ls' := [some (aR 0), some (aI k), some (aI v2), some (aI v3), some (aI n16)]) (am_dec tX11_floorsOn_0 12 rfl) (by decide) rfl ?_
    refine T_iload (am_dec tX11_floorsOn_0 13 rfl) rfl ?_
    refine T_iconst (-1) (am_dec tX11_floorsOn_0 14 rfl) rfl ⟨by decide, by decide⟩ ?_
    have K24 : ∀ (v2_24 : Int), v2_24 = (if n16 = (-1) then v2 else (let v38 : Int := f_lotOn hh n16; (let v41 : Int := f_floor hh v38; (v2 + v41)))) →  am_T S zX11_floorsOn d u Q 46 [some (aR 0), some (aI k), some (aI v2_24), some (aI v3), none] [] (hfW w hb sp rb rs hb po ro ee hh ss uu vv pp kk rr tt gg aa dd bd ga im) := by
      intro v2_24 hv2_24 
      have hxv2_24 := hv2_24
      dsimp only at hxv2_24
      have hj9 : v2 ≤ v2_24 ∧ v2_24 ≤ v2 + 9 := by
        rw [hv2_24]
        split
        · omega
        · dsimp only
          have q := HbI_fl hI (f_lotOn hh n16)
          omega
      refine T_iinc (ls' := [some (aR 0), some (aI k), some (aI v2_24), some (aI (v3 + 1)), none]) (v3 + 1) (am_dec tX11_floorsOn_0 26 rfl) rfl rfl ⟨by omega, by omega⟩ (by decide) rfl ?_
      refine T_goto 4 (am_dec tX11_floorsOn_0 27 rfl) rfl ?_
      have e9 : (g_c_floorsOn_4 hh k) v3 v2 = v2_24 := (by have s9 := hn16.symm; subst s9; have s9 := hv2_24.symm; subst s9; exact rfl)
      simp only [am_fold_s, e9] at k9
      exact ih (v3 + 1) v2_24 (by omega) (by omega) (by omega) k9
    refine T_icmp_eq 46 (am_dec tX11_floorsOn_0 15 rfl) rfl (fun h24 => ?_) (fun h24 => ?_)
    · refine T_weak (ls' := [some (aR 0), some (aI k), some (aI v2), some (aI v3), none]) (am_sub_s (am_sub_s (am_sub_s (am_sub_s (am_sub_n am_sub_nil))))) ?_
      exact K24 _ (if_pos h24).symm 
    · refine T_iload_n (am_dec tX11_floorsOn_0 16 rfl) rfl ?_
      refine T_aload_n (am_dec tX11_floorsOn_0 17 rfl) rfl ?_
      refine T_getfield 10 0 (am_dec tX11_floorsOn_0 18 rfl) flX11_10_10 (show (hfW w hb sp rb rs hb po ro ee hh ss uu vv pp kk rr tt gg aa dd bd ga im)[0]? = some (cO 10 [aR hb, aR sp, aR rb, aR rs, aR 52, aR 53, aR 51, aI (ee 0 7), aI (ee 0 8), aR 54, aR 64, aR 74, aR 77, aR 83, aR 84, aR 86, aR 88, aI (ee 0 17), aR 107, aR 108]) from (hfW_c hl 0 (by decide))) rfl ?_
      refine T_aload_n (am_dec tX11_floorsOn_0 19 rfl) rfl ?_
      refine T_getfield 10 0 (am_dec tX11_floorsOn_0 20 rfl) flX11_10_10 (show (hfW w hb sp rb rs hb po ro ee hh ss uu vv pp kk rr tt gg aa dd bd ga im)[0]? = some (cO 10 [aR hb, aR sp, aR rb, aR rs, aR 52, aR 53, aR 51, aI (ee 0 7), aI (ee 0 8), aR 54, aR 64, aR 74, aR 77, aR 83, aR 84, aR 86, aR 88, aI (ee 0 17), aR 107, aR 108]) from (hfW_c hl 0 (by decide))) rfl ?_
      refine T_iload (am_dec tX11_floorsOn_0 21 rfl) rfl ?_
      refine T_callV (as := [aI n16]) rfl (am_dec tX11_floorsOn_0 22 rfl) lkX11_260 (show (hfW w hb sp rb rs hb po ro ee hh ss uu vv pp kk rr tt gg aa dd bd ga im)[hb]? = some (cO 3 [aI (hh 0 0), aI (hh 0 1), aI (hh 0 2), aR (hb + 1), aR (hb + 3), aR (hb + 5), aR (hb + 7), aR (hb + 9), aR (hb + 11), aR (hb + 13), aR (hb + 15), aR (hb + 17), aR (hb + 18), aR (hb + 19)]) from ((hf_H hl hp) 0 (by decide))) rfl rfl (Nat.le_of_ble_eq_true rfl) (by omega) (m_lotOn (d := d - 1) (hf_H hl hp) n16) (fun _ => ?_)
      refine T_nm (fun v38 hv38 => ?_)
      refine T_callV (as := [aI v38]) rfl (am_dec tX11_floorsOn_0 23 rfl) lkX11_263 (show (hfW w hb sp rb rs hb po ro ee hh ss uu vv pp kk rr tt gg aa dd bd ga im)[hb]? = some (cO 3 [aI (hh 0 0), aI (hh 0 1), aI (hh 0 2), aR (hb + 1), aR (hb + 3), aR (hb + 5), aR (hb + 7), aR (hb + 9), aR (hb + 11), aR (hb + 13), aR (hb + 15), aR (hb + 17), aR (hb + 18), aR (hb + 19)]) from ((hf_H hl hp) 0 (by decide))) rfl rfl (Nat.le_of_ble_eq_true rfl) (by omega) (m_floorOf (d := d - 1) (hf_H hl hp) (by omega) (by omega) v38) (fun _ => ?_)
      refine T_nm (fun v41 hv41 => ?_)
      have hc41 := HbI_fl hI v38
      rw [← hv41] at hc41
      refine T_iadd (v2 + v41) (am_dec tX11_floorsOn_0 24 rfl) rfl ⟨by omega, by omega⟩ ?_
      refine T_istore_n (ls' := [some (aR 0), some (aI k), some (aI (v2 + v41)), some (aI v3), some (aI n16)]) (am_dec tX11_floorsOn_0 25 rfl) (by decide) rfl ?_
      refine T_weak (ls' := [some (aR 0), some (aI k), some (aI (v2 + v41)), some (aI v3), none]) (am_sub_s (am_sub_s (am_sub_s (am_sub_s (am_sub_n am_sub_nil))))) ?_
      exact K24 _ (by have s9 := hv38.symm; subst s9; have s9 := hv41.symm; subst s9; exact (if_neg h24).symm) 
def c_floorsOn (hh : am_F) (k : Int) : Int := am_fold (g_c_floorsOn_4 hh k) 0 40 0
theorem mc_floorsOn {S : am_S} {d u : Nat} {w : AH} {hb sp rb rs : Nat} {po ro : AV} (hl : 109 ≤ w.length) (hp : hb = 1 ∧ sp = 21 ∨ hb = 21 ∧ sp = 1) (hr : rb = 41 ∧ rs = 46 ∨ rb = 46 ∧ rs = 41) {ee : am_F} {hh : am_F} {ss : am_F} {uu : am_F} {vv : am_F} {pp : am_F} {kk : am_F} {rr : am_F} {tt : am_F} {gg : am_F} {aa : am_F} {dd : am_F} {bd : am_F} {ga : am_F} {im : am_F} (k : Int) (hI : HbI hh)  (hd : 4 ≤ d) : am_Out S zX11_floorsOn d u [aR 0, aI k] (hfW w hb sp rb rs hb po ro ee hh ss uu vv pp kk rr tt gg aa dd bd ga im) (.inl (some (aI (c_floorsOn hh k)))) (hfW w hb sp rb rs hb po ro ee hh ss uu vv pp kk rr tt gg aa dd bd ga im) := by
  have key : ∀ Q : AO → AH → Prop, Q (.inl (some (aI (c_floorsOn hh k)))) (hfW w hb sp rb rs hb po ro ee hh ss uu vv pp kk rr tt gg aa dd bd ga im) → am_M S zX11_floorsOn d u [aR 0, aI k] (hfW w hb sp rb rs hb po ro ee hh ss uu vv pp kk rr tt gg aa dd bd ga im) Q := by
    intro Q hQ
    refine am_body rfl (by decide +kernel) rfl (am_cats_cons rfl ( am_cats_cons rfl (am_cats_nil))) (Nat.le_of_ble_eq_true rfl) (?_ : am_T _ _ _ _ _ 0 [some (aR 0), some (aI k), none, none, none] [] (hfW w hb sp rb rs hb po ro ee hh ss uu vv pp kk rr tt gg aa dd bd ga im))
    obtain ⟨vh1, vh2, vh3, vh4, vh5, vh6, vh7, vh8, vh9, vh10, vh11, vh12, vh13, vh14, vh15, vh16, vh17, vh18, vh19, vh20, vh21, vh22⟩ := (HbI_A hI).1
    refine T_iconst 0 (am_dec tX11_floorsOn_0 0 rfl) rfl ⟨by decide, by decide⟩ ?_
    refine T_istore_n (ls' := [some (aR 0), some (aI k), some (aI 0), none, none]) (am_dec tX11_floorsOn_0 1 rfl) (by decide) rfl ?_
    refine T_iconst 0 (am_dec tX11_floorsOn_0 2 rfl) rfl ⟨by decide, by decide⟩ ?_
    refine T_istore_n (ls' := [some (aR 0), some (aI k), some (aI 0), some (aI 0), none]) (am_dec tX11_floorsOn_0 3 rfl) (by decide) rfl ?_
    refine L_c_floorsOn_4 hl hp hr ee hh ss uu vv pp kk rr tt gg aa dd bd ga im k hI  (by omega) _ rfl 40 0 0 (by omega) (by omega) (by omega) (fun v2_4 hv2_4 hv4 => ?_)
    refine T_iload_n (am_dec tX11_floorsOn_0 28 rfl) rfl ?_
    exact T_ireturn (am_dec tX11_floorsOn_0 29 rfl) rfl (am_tr (fun (x9 : Int) => Q (.inl (some (aI (x9)))) (hfW w hb sp rb rs hb po ro ee hh ss uu vv pp kk rr tt gg aa dd bd ga im)) (y := v2_4) (show (c_floorsOn hh k) = v2_4 from (by have s9 := hv2_4.symm; subst s9; exact rfl)) hQ)
  exact key _ ⟨rfl, rfl⟩
def c_way (ee : am_F) (hh : am_F) (rr : am_F) (gg : am_F) (fr : Int) (to : Int) (st : Int) (lt : Int) : Int × Int × am_F × am_F × am_F := (if n_code hh fr = 0 then (if n_code hh to = 0 then (if n_step st = 0 then (let m25 : Int := (if 39 - st < 12 then 39 - st else 12); (if n_range lt 0 m25 = 0 then (let rr39 : am_F := f_upTo hh rr (st + lt); (let gg55 : am_F := f_cheapG rr39 hh gg fr to st lt; (let v55 : Int := f_cheapest rr39 hh gg fr to st lt; (0, v55, ee, rr39, gg55)))) else ((n_range lt 0 m25), 0, n_ref ee (n_range lt 0 m25), rr, gg))) else ((n_step st), 0, n_ref ee (n_step st), rr, gg)) else ((n_code hh to), 0, n_ref ee (n_code hh to), rr, gg)) else ((n_code hh fr), 0, n_ref ee (n_code hh fr), rr, gg))
theorem mc_way {S : am_S} {d u : Nat} {w : AH} {hb sp rb rs : Nat} {po ro : AV} (hl : 109 ≤ w.length) (hp : hb = 1 ∧ sp = 21 ∨ hb = 21 ∧ sp = 1) (hr : rb = 41 ∧ rs = 46 ∨ rb = 46 ∧ rs = 41) {ee : am_F} {hh : am_F} {ss : am_F} {uu : am_F} {vv : am_F} {pp : am_F} {kk : am_F} {rr : am_F} {tt : am_F} {gg : am_F} {aa : am_F} {dd : am_F} {bd : am_F} {ga : am_F} {im : am_F} (fr : Int) (to : Int) (st : Int) (lt : Int) (hI : HbI hh) (hRI : RnI rr) (hE0 : EyB gg 0) (hE1 : EyB gg 1) (hu : 1 ≤ u) (hd : 8 ≤ d) : am_Out S zX11_way d u [aR 0, aI fr, aI to, aI st, aI lt] (hfW w hb sp rb rs hb po ro ee hh ss uu vv pp kk rr tt gg aa dd bd ga im) (am_oc ((c_way ee hh rr gg fr to st lt).1) ((c_way ee hh rr gg fr to st lt).2.1)) (hfW w hb sp rb rs hb po ro ((c_way ee hh rr gg fr to st lt).2.2.1) hh ss uu vv pp kk ((c_way ee hh rr gg fr to st lt).2.2.2.1) tt ((c_way ee hh rr gg fr to st lt).2.2.2.2) aa dd bd ga im) := by
  have key : ∀ Q : AO → AH → Prop, Q (am_oc ((c_way ee hh rr gg fr to st lt).1) ((c_way ee hh rr gg fr to st lt).2.1)) (hfW w hb sp rb rs hb po ro ((c_way ee hh rr gg fr to st lt).2.2.1) hh ss uu vv pp kk ((c_way ee hh rr gg fr to st lt).2.2.2.1) tt ((c_way ee hh rr gg fr to st lt).2.2.2.2) aa dd bd ga im) → am_M S zX11_way d u [aR 0, aI fr, aI to, aI st, aI lt] (hfW w hb sp rb rs hb po ro ee hh ss uu vv pp kk rr tt gg aa dd bd ga im) Q := by
    intro Q hQ
    refine am_body rfl (by decide +kernel) rfl (am_cats_cons rfl ( am_cats_cons rfl ( am_cats_cons rfl ( am_cats_cons rfl ( am_cats_cons rfl (am_cats_nil)))))) (Nat.le_of_ble_eq_true rfl) (?_ : am_T _ _ _ _ _ 0 [some (aR 0), some (aI fr), some (aI to), some (aI st), some (aI lt)] [] (hfW w hb sp rb rs hb po ro ee hh ss uu vv pp kk rr tt gg aa dd bd ga im))
    obtain ⟨vh1, vh2, vh3, vh4, vh5, vh6, vh7, vh8, vh9, vh10, vh11, vh12, vh13, vh14, vh15, vh16, vh17, vh18, vh19, vh20, vh21, vh22⟩ := (HbI_A hI).1
    refine T_aload_n (am_dec tX11_way_0 0 rfl) rfl ?_
    refine T_iload_n (am_dec tX11_way_0 1 rfl) rfl ?_
    refine T_callVo (as := [aI fr]) (code := n_code hh fr) rfl (am_dec tX11_way_0 2 rfl) lkX11_266 (show (hfW w hb sp rb rs hb po ro ee hh ss uu vv pp kk rr tt gg aa dd bd ga im)[0]? = some (cO 10 [aR hb, aR sp, aR rb, aR rs, aR 52, aR 53, aR 51, aI (ee 0 7), aI (ee 0 8), aR 54, aR 64, aR 74, aR 77, aR 83, aR 84, aR 86, aR 88, aI (ee 0 17), aR 107, aR 108]) from (hfW_c hl 0 (by decide))) rfl rfl (Nat.le_of_ble_eq_true rfl) (by omega) (by omega) (fun hN2 => (mx_code0 (d := d - 1) hl hp hr fr  hN2 (by omega))) (fun hN2 => (x_codeX (d := d - 1) hl hp hr fr  hN2 (by omega) (by omega))) (fun hN2 => ?_) (fun hN2 => ?_)
    · exact (am_tr (fun (x9 : Int × Int × am_F × am_F × am_F) => Q (am_oc (x9.1) (x9.2.1)) (hfW w hb sp rb rs hb po ro x9.2.2.1 hh ss uu vv pp kk x9.2.2.2.1 tt x9.2.2.2.2 aa dd bd ga im)) (y := ((n_code hh fr), 0, n_ref ee (n_code hh fr), rr, gg)) (show (c_way ee hh rr gg fr to st lt) = ((n_code hh fr), 0, n_ref ee (n_code hh fr), rr, gg) from (if_neg hN2)) hQ)
    have hk2 := n_code_0 hN2
    refine T_aload_n (am_dec tX11_way_0 3 rfl) rfl ?_
    refine T_iload_n (am_dec tX11_way_0 4 rfl) rfl ?_
    refine T_callVo (as := [aI to]) (code := n_code hh to) rfl (am_dec tX11_way_0 5 rfl) lkX11_266 (show (hfW w hb sp rb rs hb po ro ee hh ss uu vv pp kk rr tt gg aa dd bd ga im)[0]? = some (cO 10 [aR hb, aR sp, aR rb, aR rs, aR 52, aR 53, aR 51, aI (ee 0 7), aI (ee 0 8), aR 54, aR 64, aR 74, aR 77, aR 83, aR 84, aR 86, aR 88, aI (ee 0 17), aR 107, aR 108]) from (hfW_c hl 0 (by decide))) rfl rfl (Nat.le_of_ble_eq_true rfl) (by omega) (by omega) (fun hN7 => (mx_code0 (d := d - 1) hl hp hr to  hN7 (by omega))) (fun hN7 => (x_codeX (d := d - 1) hl hp hr to  hN7 (by omega) (by omega))) (fun hN7 => ?_) (fun hN7 => ?_)
    · exact (am_tr (fun (x9 : Int × Int × am_F × am_F × am_F) => Q (am_oc (x9.1) (x9.2.1)) (hfW w hb sp rb rs hb po ro x9.2.2.1 hh ss uu vv pp kk x9.2.2.2.1 tt x9.2.2.2.2 aa dd bd ga im)) (y := ((n_code hh to), 0, n_ref ee (n_code hh to), rr, gg)) (show (c_way ee hh rr gg fr to st lt) = ((n_code hh to), 0, n_ref ee (n_code hh to), rr, gg) from ((if_pos hN2).trans (if_neg hN7))) hQ)
    have hk7 := n_code_0 hN7
    refine T_aload_n (am_dec tX11_way_0 6 rfl) rfl ?_
    refine T_iload_n (am_dec tX11_way_0 7 rfl) rfl ?_
    refine T_callVo (as := [aI st]) (code := n_step st) rfl (am_dec tX11_way_0 8 rfl) lkX11_194 (show (hfW w hb sp rb rs hb po ro ee hh ss uu vv pp kk rr tt gg aa dd bd ga im)[0]? = some (cO 10 [aR hb, aR sp, aR rb, aR rs, aR 52, aR 53, aR 51, aI (ee 0 7), aI (ee 0 8), aR 54, aR 64, aR 74, aR 77, aR 83, aR 84, aR 86, aR 88, aI (ee 0 17), aR 107, aR 108]) from (hfW_c hl 0 (by decide))) rfl rfl (Nat.le_of_ble_eq_true rfl) (by omega) (by omega) (fun hN12 => (mx_step0 (d := d - 1) hl hp hr st  hN12 (by omega))) (fun hN12 => (x_stepX (d := d - 1) hl hp hr st  hN12 (by omega) (by omega))) (fun hN12 => ?_) (fun hN12 => ?_)
    · exact (am_tr (fun (x9 : Int × Int × am_F × am_F × am_F) => Q (am_oc (x9.1) (x9.2.1)) (hfW w hb sp rb rs hb po ro x9.2.2.1 hh ss uu vv pp kk x9.2.2.2.1 tt x9.2.2.2.2 aa dd bd ga im)) (y := ((n_step st), 0, n_ref ee (n_step st), rr, gg)) (show (c_way ee hh rr gg fr to st lt) = ((n_step st), 0, n_ref ee (n_step st), rr, gg) from ((if_pos hN2).trans ((if_pos hN7).trans (if_neg hN12)))) hQ)
    have hk12 := n_step_0 hN12
    refine T_aload_n (am_dec tX11_way_0 9 rfl) rfl ?_
    refine T_iload (am_dec tX11_way_0 10 rfl) rfl ?_
    refine T_iconst 0 (am_dec tX11_way_0 11 rfl) rfl ⟨by decide, by decide⟩ ?_
    refine T_bipush 12 (am_dec tX11_way_0 12 rfl) rfl ⟨by decide, by decide⟩ ?_
    refine T_bipush 39 (am_dec tX11_way_0 13 rfl) rfl ⟨by decide, by decide⟩ ?_
    refine T_iload_n (am_dec tX11_way_0 14 rfl) rfl ?_
    refine T_isub (39 - st) (am_dec tX11_way_0 15 rfl) rfl ⟨by omega, by omega⟩ ?_
    refine T_mmin (am_dec tX11_way_0 16 rfl) lkX11_269 (Nat.le_of_ble_eq_true rfl) (by omega) ?_
    obtain ⟨m25, hm25⟩ : ∃ x9 : Int, x9 = (if 39 - st < 12 then 39 - st else 12) := ⟨_, rfl⟩
    rw [← hm25]
    refine T_callVo (as := [aI lt, aI 0, aI m25]) (code := n_range lt 0 m25) rfl (am_dec tX11_way_0 17 rfl) lkX11_117 (show (hfW w hb sp rb rs hb po ro ee hh ss uu vv pp kk rr tt gg aa dd bd ga im)[0]? = some (cO 10 [aR hb, aR sp, aR rb, aR rs, aR 52, aR 53, aR 51, aI (ee 0 7), aI (ee 0 8), aR 54, aR 64, aR 74, aR 77, aR 83, aR 84, aR 86, aR 88, aI (ee 0 17), aR 107, aR 108]) from (hfW_c hl 0 (by decide))) rfl rfl (Nat.le_of_ble_eq_true rfl) (by omega) (by omega) (fun hN28 => (mx_range0 (d := d - 1) hl hp hr lt 0 m25  hN28 (by omega))) (fun hN28 => (x_rangeX (d := d - 1) hl hp hr lt 0 m25  hN28 (by omega) (by omega))) (fun hN28 => ?_) (fun hN28 => ?_)
    · exact (am_tr (fun (x9 : Int × Int × am_F × am_F × am_F) => Q (am_oc (x9.1) (x9.2.1)) (hfW w hb sp rb rs hb po ro x9.2.2.1 hh ss uu vv pp kk x9.2.2.2.1 tt x9.2.2.2.2 aa dd bd ga im)) (y := ((n_range lt 0 m25), 0, n_ref ee (n_range lt 0 m25), rr, gg)) (show (c_way ee hh rr gg fr to st lt) = ((n_range lt 0 m25), 0, n_ref ee (n_range lt 0 m25), rr, gg) from (by have s9 := hm25.symm; subst s9; exact ((if_pos hN2).trans ((if_pos hN7).trans ((if_pos hN12).trans (if_neg hN28)))))) hQ)
    have hk28 := n_range_0 hN28
    refine T_aload_n (am_dec tX11_way_0 18 rfl) rfl ?_
    refine T_getfield 10 9 (am_dec tX11_way_0 19 rfl) flX11_58_10 (show (hfW w hb sp rb rs hb po ro ee hh ss uu vv pp kk rr tt gg aa dd bd ga im)[0]? = some (cO 10 [aR hb, aR sp, aR rb, aR rs, aR 52, aR 53, aR 51, aI (ee 0 7), aI (ee 0 8), aR 54, aR 64, aR 74, aR 77, aR 83, aR 84, aR 86, aR 88, aI (ee 0 17), aR 107, aR 108]) from (hfW_c hl 0 (by decide))) rfl ?_
    refine T_iload_n (am_dec tX11_way_0 20 rfl) rfl ?_
    refine T_iload (am_dec tX11_way_0 21 rfl) rfl ?_
    refine T_iadd (st + lt) (am_dec tX11_way_0 22 rfl) rfl ⟨by omega, by omega⟩ ?_
    refine T_callV (as := [aI (st + lt)]) rfl (am_dec tX11_way_0 23 rfl) lkX11_177 (show (hfW w hb sp rb rs hb po ro ee hh ss uu vv pp kk rr tt gg aa dd bd ga im)[54]? = some (cO 8 [aR hb, aI (rr 0 1), aI (rr 0 2), aI (rr 0 3), aI (rr 0 4), aI (rr 0 5), aR 55, aR 56, aR 57, aR 58, aR 59, aR 60, aR 61, aR 62, aR 63]) from (hfW_c hl 54 (by decide))) rfl rfl (Nat.le_of_ble_eq_true rfl) (by omega) (am_OutE (m_upTo (d := d - 1) (w := hfW w hb sp rb rs hb po ro ee hh ss uu vv pp kk rr tt gg aa dd bd ga im) (hf_le hl (by omega)) (by omega) (hf_H hl hp) (HbI_A hI) (st + lt) hRI.1 hRI.2.1 hRI.2.2 (by omega)) hf_uR hf_uR) (fun _ => ?_)
    refine T_nmH (W := fun x9 => hfW w hb sp rb rs hb po ro ee hh ss uu vv pp kk x9 tt gg aa dd bd ga im) (v := f_upTo hh rr (st + lt)) (fun rr39 hrr39 => ?_)
    have hIrr39 : RnI rr39 := by rw [hrr39]; exact f_upTo_I (HbI_A hI) hRI
    refine T_aload_n (am_dec tX11_way_0 24 rfl) rfl ?_
    refine T_getfield 10 11 (am_dec tX11_way_0 25 rfl) flX11_68_10 (show (hfW w hb sp rb rs hb po ro ee hh ss uu vv pp kk rr39 tt gg aa dd bd ga im)[0]? = some (cO 10 [aR hb, aR sp, aR rb, aR rs, aR 52, aR 53, aR 51, aI (ee 0 7), aI (ee 0 8), aR 54, aR 64, aR 74, aR 77, aR 83, aR 84, aR 86, aR 88, aI (ee 0 17), aR 107, aR 108]) from (hfW_c hl 0 (by decide))) rfl ?_
    refine T_aload_n (am_dec tX11_way_0 26 rfl) rfl ?_
    refine T_getfield 10 9 (am_dec tX11_way_0 27 rfl) flX11_58_10 (show (hfW w hb sp rb rs hb po ro ee hh ss uu vv pp kk rr39 tt gg aa dd bd ga im)[0]? = some (cO 10 [aR hb, aR sp, aR rb, aR rs, aR 52, aR 53, aR 51, aI (ee 0 7), aI (ee 0 8), aR 54, aR 64, aR 74, aR 77, aR 83, aR 84, aR 86, aR 88, aI (ee 0 17), aR 107, aR 108]) from (hfW_c hl 0 (by decide))) rfl ?_
    refine T_iload_n (am_dec tX11_way_0 28 rfl) rfl ?_
    refine T_iload_n (am_dec tX11_way_0 29 rfl) rfl ?_
    refine T_iload_n (am_dec tX11_way_0 30 rfl) rfl ?_
    refine T_iload (am_dec tX11_way_0 31 rfl) rfl ?_
    refine T_callV (as := [aR 54, aI fr, aI to, aI st, aI lt]) rfl (am_dec tX11_way_0 32 rfl) lkX11_274 (show (hfW w hb sp rb rs hb po ro ee hh ss uu vv pp kk rr39 tt gg aa dd bd ga im)[74]? = some (cO 2 [aR 75, aR 76]) from (hfW_c hl 74 (by decide))) rfl rfl (Nat.le_of_ble_eq_true rfl) (by omega) (am_OutE (m_cheapest (d := d - 1) (w := hfW w hb sp rb rs hb po ro ee hh ss uu vv pp kk rr39 tt gg aa dd bd ga im) (hf_le hl (by omega)) (by omega) (by omega) (hf_R hl) (hf_H hl hp) (HbI_A hI).1 hIrr39.2.1 (HbI_W hI) (HbI_Co hI) (HbI_Wt hI) fr to st lt (by omega) (by omega) hE0 hE1) hf_uE hf_uE) (fun _ => ?_)
    refine T_nmH (W := fun x9 => hfW w hb sp rb rs hb po ro ee hh ss uu vv pp kk rr39 tt x9 aa dd bd ga im) (v := f_cheapG rr39 hh gg fr to st lt) (fun gg55 hgg55 => ?_)
    refine T_nm (fun v55 hv55 => ?_)
    exact T_ireturn (am_dec tX11_way_0 33 rfl) rfl (am_tr (fun (x9 : Int × Int × am_F × am_F × am_F) => Q (am_oc (x9.1) (x9.2.1)) (hfW w hb sp rb rs hb po ro x9.2.2.1 hh ss uu vv pp kk x9.2.2.2.1 tt x9.2.2.2.2 aa dd bd ga im)) (y := (0, v55, ee, rr39, gg55)) (show (c_way ee hh rr gg fr to st lt) = (0, v55, ee, rr39, gg55) from (by have s9 := hm25.symm; subst s9; have s9 := hrr39.symm; subst s9; have s9 := hgg55.symm; subst s9; have s9 := hv55.symm; subst s9; exact ((if_pos hN2).trans ((if_pos hN7).trans ((if_pos hN12).trans (if_pos hN28)))))) hQ)
  exact key _ ⟨rfl, rfl⟩
