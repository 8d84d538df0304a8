/-! set; leaks; ships; seeds -/
theorem mb_beginAgain {S : am_S} {d u : Nat} {w : AH} {hb sp rb rs : Nat} {po ro : AV} (hl : 109 ≤ w.length) (hp : hb = 1 ∧ sp = 21 ∨ hb = 21 ∧ sp = 1) (hr : rb = 41 ∧ rs = 46 ∨ rb = 46 ∧ rs = 41) {ee hh ss uu vv pp kk rr tt gg aa dd bd ga im : am_F} (hI : HbI hh) (hRI : RnI rr) (hd : 3 ≤ d) : am_Out S zX11_beginAgain d u [aR 0] (hfW w hb sp rb rs hb po ro ee hh ss uu vv pp kk rr tt gg aa dd bd ga im) (.inl none) (hfW w hb sp rb rs hb po ro ee hh ss uu vv pp kk (f_begin hh rr) tt gg aa (am_put dd 0 0 0) bd ga im) := by
  have h := mc_beginAgain (S := S) (d := d) (u := u) (po := po) (ro := ro) (ee := ee) (hh := hh) (ss := ss) (uu := uu) (vv := vv) (pp := pp) (kk := kk) (rr := rr) (tt := tt) (gg := gg) (aa := aa) (dd := dd) (bd := bd) (ga := ga) (im := im) hl hp hr hI hRI hd
  unfold c_beginAgain at h
  exact h
def c_set (ee : am_F) (hh : am_F) (rr : am_F) (dd : am_F) (x : Int) (y : Int) (yd : Int) : Int × Int × am_F × am_F × am_F × am_F := (if n_cell hh x y = 0 then (if n_range yd 0 99 = 0 then (let v5_32 : Int := (hh 11) (x + (10 * y)).toNat; (let rr46 : am_F := f_begin (am_put hh 11 ((x + (10 * y)).toNat) yd) rr; (let dd46 : am_F := am_put dd 0 0 0; (0, v5_32, ee, (am_put hh 11 ((x + (10 * y)).toNat) yd), rr46, dd46)))) else ((n_range yd 0 99), 0, n_ref ee (n_range yd 0 99), hh, rr, dd)) else ((n_cell hh x y), 0, n_ref ee (n_cell hh x y), hh, rr, dd))
theorem mc_set {S : am_S} {d u : Nat} {w : AH} {hb sp rb rs : Nat} {po ro : AV} (hl : 109 ≤ w.length) (hp : hb = 1 ∧ sp = 21 ∨ hb = 21 ∧ sp = 1) (hr : rb = 41 ∧ rs = 46 ∨ rb = 46 ∧ rs = 41) {ee : am_F} {hh : am_F} {ss : am_F} {uu : am_F} {vv : am_F} {pp : am_F} {kk : am_F} {rr : am_F} {tt : am_F} {gg : am_F} {aa : am_F} {dd : am_F} {bd : am_F} {ga : am_F} {im : am_F} (x : Int) (y : Int) (yd : Int) (hI : HbI hh) (hRI : RnI rr) (hu : 1 ≤ u) (hd : 7 ≤ d) : am_Out S zX11_set d u [aR 0, aI x, aI y, aI yd] (hfW w hb sp rb rs hb po ro ee hh ss uu vv pp kk rr tt gg aa dd bd ga im) (am_oc ((c_set ee hh rr dd x y yd).1) ((c_set ee hh rr dd x y yd).2.1)) (hfW w hb sp rb rs hb po ro ((c_set ee hh rr dd x y yd).2.2.1) ((c_set ee hh rr dd x y yd).2.2.2.1) ss uu vv pp kk ((c_set ee hh rr dd x y yd).2.2.2.2.1) tt gg aa ((c_set ee hh rr dd x y yd).2.2.2.2.2) bd ga im) := by
  have key : ∀ Q : AO → AH → Prop, Q (am_oc ((c_set ee hh rr dd x y yd).1) ((c_set ee hh rr dd x y yd).2.1)) (hfW w hb sp rb rs hb po ro ((c_set ee hh rr dd x y yd).2.2.1) ((c_set ee hh rr dd x y yd).2.2.2.1) ss uu vv pp kk ((c_set ee hh rr dd x y yd).2.2.2.2.1) tt gg aa ((c_set ee hh rr dd x y yd).2.2.2.2.2) bd ga im) → am_M S zX11_set d u [aR 0, aI x, aI y, aI yd] (hfW w hb sp rb rs hb po ro ee hh ss uu vv pp kk rr tt gg aa dd bd ga im) Q := by
    intro Q hQ
    refine am_body rfl (by decide +kernel) rfl (am_cats_cons rfl ( am_cats_cons rfl ( am_cats_cons rfl ( am_cats_cons rfl (am_cats_nil))))) (Nat.le_of_ble_eq_true rfl) (?_ : am_T _ _ _ _ _ 0 [some (aR 0), some (aI x), some (aI y), some (aI yd), none, none] [] (hfW w hb sp rb rs hb po ro ee hh ss uu vv pp kk rr tt gg aa dd bd ga im))
    obtain ⟨vh1, vh2, vh3, vh4, vh5, vh6, vh7, vh8, vh9, vh10, vh11, vh12, vh13, vh14, vh15, vh16, vh17, vh18, vh19, vh20, vh21, vh22⟩ := (HbI_A hI).1
    refine T_aload_n (am_dec tX11_set_0 0 rfl) rfl ?_
    refine T_iload_n (am_dec tX11_set_0 1 rfl) rfl ?_
    refine T_iload_n (am_dec tX11_set_0 2 rfl) rfl ?_
    refine T_callVo (as := [aI x, aI y]) (code := n_cell hh x y) rfl (am_dec tX11_set_0 3 rfl) lkX11_173 (show (hfW w hb sp rb rs hb po ro ee hh ss uu vv pp kk rr tt gg aa dd bd ga im)[0]? = some (cO 10 [aR hb, aR sp, aR rb, aR rs, aR 52, aR 53, aR 51, aI (ee 0 7), aI (ee 0 8), aR 54, aR 64, aR 74, aR 77, aR 83, aR 84, aR 86, aR 88, aI (ee 0 17), aR 107, aR 108]) from (hfW_c hl 0 (by decide))) rfl rfl (Nat.le_of_ble_eq_true rfl) (by omega) (by omega) (fun hN3 => (mx_cell0 (d := d - 1) hl hp hr x y  hN3 (by omega))) (fun hN3 => (x_cellX (d := d - 1) hl hp hr x y  hN3 (by omega) (by omega))) (fun hN3 => ?_) (fun hN3 => ?_)
    · exact (am_tr (fun (x9 : Int × Int × am_F × am_F × am_F × am_F) => Q (am_oc (x9.1) (x9.2.1)) (hfW w hb sp rb rs hb po ro x9.2.2.1 x9.2.2.2.1 ss uu vv pp kk x9.2.2.2.2.1 tt gg aa x9.2.2.2.2.2 bd ga im)) (y := ((n_cell hh x y), 0, n_ref ee (n_cell hh x y), hh, rr, dd)) (show (c_set ee hh rr dd x y yd) = ((n_cell hh x y), 0, n_ref ee (n_cell hh x y), hh, rr, dd) from (if_neg hN3)) hQ)
    have hk3 := n_cell_0 hN3
    refine T_aload_n (am_dec tX11_set_0 4 rfl) rfl ?_
    refine T_iload_n (am_dec tX11_set_0 5 rfl) rfl ?_
    refine T_iconst 0 (am_dec tX11_set_0 6 rfl) rfl ⟨by decide, by decide⟩ ?_
    refine T_bipush 99 (am_dec tX11_set_0 7 rfl) rfl ⟨by decide, by decide⟩ ?_
    refine T_callVo (as := [aI yd, aI 0, aI 99]) (code := n_range yd 0 99) rfl (am_dec tX11_set_0 8 rfl) lkX11_117 (show (hfW w hb sp rb rs hb po ro ee hh ss uu vv pp kk rr tt gg aa dd bd ga im)[0]? = some (cO 10 [aR hb, aR sp, aR rb, aR rs, aR 52, aR 53, aR 51, aI (ee 0 7), aI (ee 0 8), aR 54, aR 64, aR 74, aR 77, aR 83, aR 84, aR 86, aR 88, aI (ee 0 17), aR 107, aR 108]) from (hfW_c hl 0 (by decide))) rfl rfl (Nat.le_of_ble_eq_true rfl) (by omega) (by omega) (fun hN11 => (mx_range0 (d := d - 1) hl hp hr yd 0 99  hN11 (by omega))) (fun hN11 => (x_rangeX (d := d - 1) hl hp hr yd 0 99  hN11 (by omega) (by omega))) (fun hN11 => ?_) (fun hN11 => ?_)
    · exact (am_tr (fun (x9 : Int × Int × am_F × am_F × am_F × am_F) => Q (am_oc (x9.1) (x9.2.1)) (hfW w hb sp rb rs hb po ro x9.2.2.1 x9.2.2.2.1 ss uu vv pp kk x9.2.2.2.2.1 tt gg aa x9.2.2.2.2.2 bd ga im)) (y := ((n_range yd 0 99), 0, n_ref ee (n_range yd 0 99), hh, rr, dd)) (show (c_set ee hh rr dd x y yd) = ((n_range yd 0 99), 0, n_ref ee (n_range yd 0 99), hh, rr, dd) from ((if_pos hN3).trans (if_neg hN11))) hQ)
    have hk11 := n_range_0 hN11
    refine T_iload_n (am_dec tX11_set_0 9 rfl) rfl ?_
    refine T_bipush 10 (am_dec tX11_set_0 10 rfl) rfl ⟨by decide, by decide⟩ ?_
    refine T_iload_n (am_dec tX11_set_0 11 rfl) rfl ?_
    refine T_imul (10 * y) (am_dec tX11_set_0 12 rfl) rfl ⟨by omega, by omega⟩ ?_
    refine T_iadd (x + (10 * y)) (am_dec tX11_set_0 13 rfl) rfl ⟨by omega, by omega⟩ ?_
    refine T_istore (ls' := [some (aR 0), some (aI x), some (aI y), some (aI yd), some (aI (x + (10 * y))), none]) (am_dec tX11_set_0 14 rfl) (by decide) rfl ?_
    refine T_aload_n (am_dec tX11_set_0 15 rfl) rfl ?_
    refine T_getfield 10 0 (am_dec tX11_set_0 16 rfl) flX11_10_10 (show (hfW w hb sp rb rs hb po ro ee hh ss uu vv pp kk rr tt gg aa dd bd ga im)[0]? = some (cO 10 [aR hb, aR sp, aR rb, aR rs, aR 52, aR 53, aR 51, aI (ee 0 7), aI (ee 0 8), aR 54, aR 64, aR 74, aR 77, aR 83, aR 84, aR 86, aR 88, aI (ee 0 17), aR 107, aR 108]) from (hfW_c hl 0 (by decide))) rfl ?_
    refine T_getfield 3 13 (am_dec tX11_set_0 17 rfl) flX11_187_3 (show (hfW w hb sp rb rs hb po ro ee hh ss uu vv pp kk rr tt gg aa dd bd ga im)[hb]? = some (cO 3 [aI (hh 0 0), aI (hh 0 1), aI (hh 0 2), aR (hb + 1), aR (hb + 3), aR (hb + 5), aR (hb + 7), aR (hb + 9), aR (hb + 11), aR (hb + 13), aR (hb + 15), aR (hb + 17), aR (hb + 18), aR (hb + 19)]) from ((hf_H hl hp) 0 (by decide))) rfl ?_
    refine T_iload (am_dec tX11_set_0 18 rfl) rfl ?_
    refine T_ialoadE (x := (hh 11) (x + (10 * y)).toNat) (am_dec tX11_set_0 19 rfl) (show (hfW w hb sp rb rs hb po ro ee hh ss uu vv pp kk rr tt gg aa dd bd ga im)[hb + 19]? = some (cP 0 90 (hh 11)) from ((hf_H hl hp) 19 (by decide))) (by omega) (by omega) rfl ?_
    refine T_nm (fun v5_32 hv5_32 => ?_)
    refine T_istore (ls' := [some (aR 0), some (aI x), some (aI y), some (aI yd), some (aI (x + (10 * y))), some (aI v5_32)]) (am_dec tX11_set_0 20 rfl) (by decide) rfl ?_
    refine T_aload_n (am_dec tX11_set_0 21 rfl) rfl ?_
    refine T_getfield 10 0 (am_dec tX11_set_0 22 rfl) flX11_10_10 (show (hfW w hb sp rb rs hb po ro ee hh ss uu vv pp kk rr tt gg aa dd bd ga im)[0]? = some (cO 10 [aR hb, aR sp, aR rb, aR rs, aR 52, aR 53, aR 51, aI (ee 0 7), aI (ee 0 8), aR 54, aR 64, aR 74, aR 77, aR 83, aR 84, aR 86, aR 88, aI (ee 0 17), aR 107, aR 108]) from (hfW_c hl 0 (by decide))) rfl ?_
    refine T_getfield 3 13 (am_dec tX11_set_0 23 rfl) flX11_187_3 (show (hfW w hb sp rb rs hb po ro ee hh ss uu vv pp kk rr tt gg aa dd bd ga im)[hb]? = some (cO 3 [aI (hh 0 0), aI (hh 0 1), aI (hh 0 2), aR (hb + 1), aR (hb + 3), aR (hb + 5), aR (hb + 7), aR (hb + 9), aR (hb + 11), aR (hb + 13), aR (hb + 15), aR (hb + 17), aR (hb + 18), aR (hb + 19)]) from ((hf_H hl hp) 0 (by decide))) rfl ?_
    refine T_iload (am_dec tX11_set_0 24 rfl) rfl ?_
    refine T_iload_n (am_dec tX11_set_0 25 rfl) rfl ?_
    refine T_iastore (am_dec tX11_set_0 26 rfl) (show (hfW w hb sp rb rs hb po ro ee hh ss uu vv pp kk rr tt gg aa dd bd ga im)[hb + 19]? = some (cP 0 90 (hh 11)) from ((hf_H hl hp) 19 (by decide))) (by omega) (by omega) ?_
    refine am_wE (w2 := hfW w hb sp rb rs hb po ro ee (am_put hh 11 ((x + (10 * y)).toNat) yd) ss uu vv pp kk rr tt gg aa dd bd ga im) (am_via (hf_uH hp) (hbW_p19 (w := hfW w hb sp rb rs hb po ro ee hh ss uu vv pp kk rr tt gg aa dd bd ga im)) (hf_uH hp)) ?_
    refine T_aload_n (am_dec tX11_set_0 27 rfl) rfl ?_
    have hI2 : HbI (am_put hh 11 ((x + (10 * y)).toNat) yd) := HbI_put hI _ _ (by omega)
    refine T_callV (as := []) rfl (am_dec tX11_set_0 28 rfl) lkX11_146 (show (hfW w hb sp rb rs hb po ro ee (am_put hh 11 ((x + (10 * y)).toNat) yd) ss uu vv pp kk rr tt gg aa dd bd ga im)[0]? = some (cO 10 [aR hb, aR sp, aR rb, aR rs, aR 52, aR 53, aR 51, aI (ee 0 7), aI (ee 0 8), aR 54, aR 64, aR 74, aR 77, aR 83, aR 84, aR 86, aR 88, aI (ee 0 17), aR 107, aR 108]) from (hfW_c hl 0 (by decide))) rfl rfl (Nat.le_of_ble_eq_true rfl) (by omega) (mb_beginAgain (d := d - 1) hl hp hr hI2 hRI (by omega)) (fun _ => ?_)
    refine T_nmH (W := fun x9 => hfW w hb sp rb rs hb po ro ee (am_put hh 11 ((x + (10 * y)).toNat) yd) ss uu vv pp kk x9 tt gg aa (am_put dd 0 0 0) bd ga im) (v := f_begin (am_put hh 11 ((x + (10 * y)).toNat) yd) rr) (fun rr46 hrr46 => ?_)
    refine T_nmH (W := fun x9 => hfW w hb sp rb rs hb po ro ee (am_put hh 11 ((x + (10 * y)).toNat) yd) ss uu vv pp kk rr46 tt gg aa x9 bd ga im) (v := am_put dd 0 0 0) (fun dd46 hdd46 => ?_)
    have hIrr46 : RnI rr46 := by rw [hrr46]; exact f_begin_I (HbI_Fs hI2) hRI.2.1
    refine T_iload (am_dec tX11_set_0 29 rfl) rfl ?_
    exact T_ireturn (am_dec tX11_set_0 30 rfl) rfl (am_tr (fun (x9 : Int × Int × am_F × am_F × am_F × am_F) => Q (am_oc (x9.1) (x9.2.1)) (hfW w hb sp rb rs hb po ro x9.2.2.1 x9.2.2.2.1 ss uu vv pp kk x9.2.2.2.2.1 tt gg aa x9.2.2.2.2.2 bd ga im)) (y := (0, v5_32, ee, (am_put hh 11 ((x + (10 * y)).toNat) yd), rr46, dd46)) (show (c_set ee hh rr dd x y yd) = (0, v5_32, ee, (am_put hh 11 ((x + (10 * y)).toNat) yd), rr46, dd46) from (by have s9 := hv5_32.symm; subst s9; have s9 := hrr46.symm; subst s9; have s9 := hdd46.symm; subst s9; exact ((if_pos hN3).trans (if_pos hN11)))) hQ)
  exact key _ ⟨rfl, rfl⟩
theorem c_floorsOn_b {h : am_F} (hI : HbI h) (k : Int) : 0 ≤ c_floorsOn h k ∧ c_floorsOn h k ≤ 360 := by
  unfold c_floorsOn
  have q := am_fold_inv (P := fun (i : Int) (x : Int) => 0 ≤ x ∧ x ≤ 9 * i) (g := g_c_floorsOn_4 h k) 40 0 0 ⟨by omega, by omega⟩ (fun i x h1 h2 hx => by
    unfold g_c_floorsOn_4
    dsimp only
    split
    · omega
    · have q := HbI_fl hI (f_lotOn h (f_cellOf h k i))
      omega)
  omega
def c_damages (hh : am_F) (rr : am_F) (l : Int) (m : Int) : Int := (let v3 : Int := f_leaked rr l m; (let v15 : Int := f_at (hh 0 7) (hh 5) m 1; (am_w32 (v3 * v15))))
theorem mc_damages {S : am_S} {d u : Nat} {w : AH} {hb sp rb rs : Nat} {po ro : AV} (hl : 109 ≤ w.length) (hp : hb = 1 ∧ sp = 21 ∨ hb = 21 ∧ sp = 1) (hr : rb = 41 ∧ rs = 46 ∨ rb = 46 ∧ rs = 41) {ee : am_F} {hh : am_F} {ss : am_F} {uu : am_F} {vv : am_F} {pp : am_F} {kk : am_F} {rr : am_F} {tt : am_F} {gg : am_F} {aa : am_F} {dd : am_F} {bd : am_F} {ga : am_F} {im : am_F} (l : Int) (m : Int) (hI : HbI hh)  (hd : 2 ≤ d) : am_Out S zX9_damages d u [aR 54, aI l, aI m] (hfW w hb sp rb rs hb po ro ee hh ss uu vv pp kk rr tt gg aa dd bd ga im) (.inl (some (aI (c_damages hh rr l m)))) (hfW w hb sp rb rs hb po ro ee hh ss uu vv pp kk rr tt gg aa dd bd ga im) := by
  have key : ∀ Q : AO → AH → Prop, Q (.inl (some (aI (c_damages hh rr l m)))) (hfW w hb sp rb rs hb po ro ee hh ss uu vv pp kk rr tt gg aa dd bd ga im) → am_M S zX9_damages d u [aR 54, aI l, aI m] (hfW w hb sp rb rs hb po ro ee hh ss uu vv pp kk rr tt gg aa dd bd ga im) Q := by
    intro Q hQ
    refine am_body rfl (by decide +kernel) rfl (am_cats_cons rfl ( am_cats_cons rfl ( am_cats_cons rfl (am_cats_nil)))) (Nat.le_of_ble_eq_true rfl) (?_ : am_T _ _ _ _ _ 0 [some (aR 54), some (aI l), some (aI m)] [] (hfW w hb sp rb rs hb po ro ee hh ss uu vv pp kk rr tt gg aa dd bd ga im))
    obtain ⟨vh1, vh2, vh3, vh4, vh5, vh6, vh7, vh8, vh9, vh10, vh11, vh12, vh13, vh14, vh15, vh16, vh17, vh18, vh19, vh20, vh21, vh22⟩ := (HbI_A hI).1
    refine T_aload_n (am_dec tX9_damages_0 0 rfl) rfl ?_
    refine T_iload_n (am_dec tX9_damages_0 1 rfl) rfl ?_
    refine T_iload_n (am_dec tX9_damages_0 2 rfl) rfl ?_
    refine T_callV (as := [aI l, aI m]) rfl (am_dec tX9_damages_0 3 rfl) lkX9_176 (show (hfW w hb sp rb rs hb po ro ee hh ss uu vv pp kk rr tt gg aa dd bd ga im)[54]? = some (cO 8 [aR hb, aI (rr 0 1), aI (rr 0 2), aI (rr 0 3), aI (rr 0 4), aI (rr 0 5), aR 55, aR 56, aR 57, aR 58, aR 59, aR 60, aR 61, aR 62, aR 63]) from (hfW_c hl 54 (by decide))) rfl rfl (Nat.le_of_ble_eq_true rfl) (by omega) (m_leaked (d := d - 1) (hf_R hl) l m) (fun _ => ?_)
    refine T_nm (fun v3 hv3 => ?_)
    refine T_aload_n (am_dec tX9_damages_0 4 rfl) rfl ?_
    refine T_getfield 8 0 (am_dec tX9_damages_0 5 rfl) flX9_43_8 (show (hfW w hb sp rb rs hb po ro ee hh ss uu vv pp kk rr tt gg aa dd bd ga im)[54]? = some (cO 8 [aR hb, aI (rr 0 1), aI (rr 0 2), aI (rr 0 3), aI (rr 0 4), aI (rr 0 5), aR 55, aR 56, aR 57, aR 58, aR 59, aR 60, aR 61, aR 62, aR 63]) from (hfW_c hl 54 (by decide))) rfl ?_
    refine T_getfield 3 7 (am_dec tX9_damages_0 6 rfl) flX9_179_3 (show (hfW w hb sp rb rs hb po ro ee hh ss uu vv pp kk rr tt gg aa dd bd ga im)[hb]? = some (cO 3 [aI (hh 0 0), aI (hh 0 1), aI (hh 0 2), aR (hb + 1), aR (hb + 3), aR (hb + 5), aR (hb + 7), aR (hb + 9), aR (hb + 11), aR (hb + 13), aR (hb + 15), aR (hb + 17), aR (hb + 18), aR (hb + 19)]) from ((hf_H hl hp) 0 (by decide))) rfl ?_
    refine T_iload_n (am_dec tX9_damages_0 7 rfl) rfl ?_
    refine T_iconst 1 (am_dec tX9_damages_0 8 rfl) rfl ⟨by decide, by decide⟩ ?_
    refine T_callV (as := [aI m, aI 1]) rfl (am_dec tX9_damages_0 9 rfl) lkX9_124 (show (hfW w hb sp rb rs hb po ro ee hh ss uu vv pp kk rr tt gg aa dd bd ga im)[hb + 9]? = some (cO 9 [aI 6, aR (hb + 10), aI (hh 0 7)]) from ((hf_H hl hp) 9 (by decide))) rfl rfl (Nat.le_of_ble_eq_true rfl) (by omega) (m_at (d := d - 1) (show (hfW w hb sp rb rs hb po ro ee hh ss uu vv pp kk rr tt gg aa dd bd ga im)[hb + 9]? = some (cO 9 [aI 6, aR (hb + 10), aI (hh 0 7)]) from ((hf_H hl hp) 9 (by decide))) (show (hfW w hb sp rb rs hb po ro ee hh ss uu vv pp kk rr tt gg aa dd bd ga im)[hb + 10]? = some (cP 0 48 (hh 5)) from ((hf_H hl hp) 10 (by decide))) (by omega) m 1) (fun _ => ?_)
    refine T_nm (fun v15 hv15 => ?_)
    refine T_imulW (am_w32 (v3 * v15)) (am_dec tX9_damages_0 10 rfl) (am_w32e _).symm (am_w32r _) ?_
    exact T_ireturn (am_dec tX9_damages_0 11 rfl) rfl (am_tr (fun (x9 : Int) => Q (.inl (some (aI (x9)))) (hfW w hb sp rb rs hb po ro ee hh ss uu vv pp kk rr tt gg aa dd bd ga im)) (y := (am_w32 (v3 * v15))) (show (c_damages hh rr l m) = (am_w32 (v3 * v15)) from (by have s9 := hv3.symm; subst s9; have s9 := hv15.symm; subst s9; exact rfl)) hQ)
  exact key _ ⟨rfl, rfl⟩
def c_leaks (ee : am_F) (hh : am_F) (rr : am_F) (l : Int) (m : Int) (what : Int) : Int × Int × am_F × am_F := (if n_two (hh 0 7) l m = 0 then (if n_range what 0 1 = 0 then (let rr26 : am_F := f_upTo hh rr 39; (let t30 : Int := (if what = 0 then f_leaked rr26 l m else c_damages hh rr26 l m); (0, t30, ee, rr26))) else ((n_range what 0 1), 0, n_ref ee (n_range what 0 1), rr)) else ((n_two (hh 0 7) l m), 0, n_ref ee (n_two (hh 0 7) l m), rr))
theorem mc_leaks {S : am_S} {d u : Nat} {w : AH} {hb sp rb rs : Nat} {po ro : AV} (hl : 109 ≤ w.length) (hp : hb = 1 ∧ sp = 21 ∨ hb = 21 ∧ sp = 1) (hr : rb = 41 ∧ rs = 46 ∨ rb = 46 ∧ rs = 41) {ee : am_F} {hh : am_F} {ss : am_F} {uu : am_F} {vv : am_F} {pp : am_F} {kk : am_F} {rr : am_F} {tt : am_F} {gg : am_F} {aa : am_F} {dd : am_F} {bd : am_F} {ga : am_F} {im : am_F} (l : Int) (m : Int) (what : Int) (hI : HbI hh) (hRI : RnI rr) (hu : 1 ≤ u) (hd : 8 ≤ d) : am_Out S zX11_leaks d u [aR 0, aI l, aI m, aI what] (hfW w hb sp rb rs hb po ro ee hh ss uu vv pp kk rr tt gg aa dd bd ga im) (am_oc ((c_leaks ee hh rr l m what).1) ((c_leaks ee hh rr l m what).2.1)) (hfW w hb sp rb rs hb po ro ((c_leaks ee hh rr l m what).2.2.1) hh ss uu vv pp kk ((c_leaks ee hh rr l m what).2.2.2) tt gg aa dd bd ga im) := by
  have key : ∀ Q : AO → AH → Prop, Q (am_oc ((c_leaks ee hh rr l m what).1) ((c_leaks ee hh rr l m what).2.1)) (hfW w hb sp rb rs hb po ro ((c_leaks ee hh rr l m what).2.2.1) hh ss uu vv pp kk ((c_leaks ee hh rr l m what).2.2.2) tt gg aa dd bd ga im) → am_M S zX11_leaks d u [aR 0, aI l, aI m, aI what] (hfW w hb sp rb rs hb po ro ee hh ss uu vv pp kk rr tt gg aa dd bd ga im) Q := by
    intro Q hQ
    refine am_body rfl (by decide +kernel) rfl (am_cats_cons rfl ( am_cats_cons rfl ( am_cats_cons rfl ( am_cats_cons rfl (am_cats_nil))))) (Nat.le_of_ble_eq_true rfl) (?_ : am_T _ _ _ _ _ 0 [some (aR 0), some (aI l), some (aI m), some (aI what)] [] (hfW w hb sp rb rs hb po ro ee hh ss uu vv pp kk rr tt gg aa dd bd ga im))
    obtain ⟨vh1, vh2, vh3, vh4, vh5, vh6, vh7, vh8, vh9, vh10, vh11, vh12, vh13, vh14, vh15, vh16, vh17, vh18, vh19, vh20, vh21, vh22⟩ := (HbI_A hI).1
    refine T_aload_n (am_dec tX11_leaks_0 0 rfl) rfl ?_
    refine T_aload_n (am_dec tX11_leaks_0 1 rfl) rfl ?_
    refine T_getfield 10 0 (am_dec tX11_leaks_0 2 rfl) flX11_10_10 (show (hfW w hb sp rb rs hb po ro ee hh ss uu vv pp kk rr tt gg aa dd bd ga im)[0]? = some (cO 10 [aR hb, aR sp, aR rb, aR rs, aR 52, aR 53, aR 51, aI (ee 0 7), aI (ee 0 8), aR 54, aR 64, aR 74, aR 77, aR 83, aR 84, aR 86, aR 88, aI (ee 0 17), aR 107, aR 108]) from (hfW_c hl 0 (by decide))) rfl ?_
    refine T_getfield 3 7 (am_dec tX11_leaks_0 3 rfl) flX11_149_3 (show (hfW w hb sp rb rs hb po ro ee hh ss uu vv pp kk rr tt gg aa dd bd ga im)[hb]? = some (cO 3 [aI (hh 0 0), aI (hh 0 1), aI (hh 0 2), aR (hb + 1), aR (hb + 3), aR (hb + 5), aR (hb + 7), aR (hb + 9), aR (hb + 11), aR (hb + 13), aR (hb + 15), aR (hb + 17), aR (hb + 18), aR (hb + 19)]) from ((hf_H hl hp) 0 (by decide))) rfl ?_
    refine T_iload_n (am_dec tX11_leaks_0 4 rfl) rfl ?_
    refine T_iload_n (am_dec tX11_leaks_0 5 rfl) rfl ?_
    refine T_callVo (as := [aR (hb + 9), aI l, aI m]) (code := n_two (hh 0 7) l m) rfl (am_dec tX11_leaks_0 6 rfl) lkX11_219 (show (hfW w hb sp rb rs hb po ro ee hh ss uu vv pp kk rr tt gg aa dd bd ga im)[0]? = some (cO 10 [aR hb, aR sp, aR rb, aR rs, aR 52, aR 53, aR 51, aI (ee 0 7), aI (ee 0 8), aR 54, aR 64, aR 74, aR 77, aR 83, aR 84, aR 86, aR 88, aI (ee 0 17), aR 107, aR 108]) from (hfW_c hl 0 (by decide))) rfl rfl (Nat.le_of_ble_eq_true rfl) (by omega) (by omega) (fun hN10 => (mx_two0 (d := d - 1) hl hp hr l m (show (hfW w hb sp rb rs hb po ro ee hh ss uu vv pp kk rr tt gg aa dd bd ga im)[hb + 9]? = some (cO 9 [aI 6, aR (hb + 10), aI (hh 0 7)]) from ((hf_H hl hp) 9 (by decide))) (show (hfW w hb sp rb rs hb po ro ee hh ss uu vv pp kk rr tt gg aa dd bd ga im)[hb + 10]? = some (cP 0 48 (hh 5)) from ((hf_H hl hp) 10 (by decide))) (by omega) hN10 (by omega))) (fun hN10 => (x_twoX (d := d - 1) hl hp hr l m (show (hfW w hb sp rb rs hb po ro ee hh ss uu vv pp kk rr tt gg aa dd bd ga im)[hb + 9]? = some (cO 9 [aI 6, aR (hb + 10), aI (hh 0 7)]) from ((hf_H hl hp) 9 (by decide))) (show (hfW w hb sp rb rs hb po ro ee hh ss uu vv pp kk rr tt gg aa dd bd ga im)[hb + 10]? = some (cP 0 48 (hh 5)) from ((hf_H hl hp) 10 (by decide))) (by omega) hN10 (by omega) (by omega))) (fun hN10 => ?_) (fun hN10 => ?_)
    · exact (am_tr (fun (x9 : Int × Int × am_F × am_F) => Q (am_oc (x9.1) (x9.2.1)) (hfW w hb sp rb rs hb po ro x9.2.2.1 hh ss uu vv pp kk x9.2.2.2 tt gg aa dd bd ga im)) (y := ((n_two (hh 0 7) l m), 0, n_ref ee (n_two (hh 0 7) l m), rr)) (show (c_leaks ee hh rr l m what) = ((n_two (hh 0 7) l m), 0, n_ref ee (n_two (hh 0 7) l m), rr) from (if_neg hN10)) hQ)
    have hk10 := n_two_0 hN10
    refine T_aload_n (am_dec tX11_leaks_0 7 rfl) rfl ?_
    refine T_iload_n (am_dec tX11_leaks_0 8 rfl) rfl ?_
    refine T_iconst 0 (am_dec tX11_leaks_0 9 rfl) rfl ⟨by decide, by decide⟩ ?_
    refine T_iconst 1 (am_dec tX11_leaks_0 10 rfl) rfl ⟨by decide, by decide⟩ ?_
    refine T_callVo (as := [aI what, aI 0, aI 1]) (code := n_range what 0 1) rfl (am_dec tX11_leaks_0 11 rfl) lkX11_117 (show (hfW w hb sp rb rs hb po ro ee hh ss uu vv pp kk rr tt gg aa dd bd ga im)[0]? = some (cO 10 [aR hb, aR sp, aR rb, aR rs, aR 52, aR 53, aR 51, aI (ee 0 7), aI (ee 0 8), aR 54, aR 64, aR 74, aR 77, aR 83, aR 84, aR 86, aR 88, aI (ee 0 17), aR 107, aR 108]) from (hfW_c hl 0 (by decide))) rfl rfl (Nat.le_of_ble_eq_true rfl) (by omega) (by omega) (fun hN17 => (mx_range0 (d := d - 1) hl hp hr what 0 1  hN17 (by omega))) (fun hN17 => (x_rangeX (d := d - 1) hl hp hr what 0 1  hN17 (by omega) (by omega))) (fun hN17 => ?_) (fun hN17 => ?_)
    · exact (am_tr (fun (x9 : Int × Int × am_F × am_F) => Q (am_oc (x9.1) (x9.2.1)) (hfW w hb sp rb rs hb po ro x9.2.2.1 hh ss uu vv pp kk x9.2.2.2 tt gg aa dd bd ga im)) (y := ((n_range what 0 1), 0, n_ref ee (n_range what 0 1), rr)) (show (c_leaks ee hh rr l m what) = ((n_range what 0 1), 0, n_ref ee (n_range what 0 1), rr) from ((if_pos hN10).trans (if_neg hN17))) hQ)
    have hk17 := n_range_0 hN17
    refine T_aload_n (am_dec tX11_leaks_0 12 rfl) rfl ?_
    refine T_getfield 10 9 (am_dec tX11_leaks_0 13 rfl) flX11_58_10 (show (hfW w hb sp rb rs hb po ro ee hh ss uu vv pp kk rr tt gg aa dd bd ga im)[0]? = some (cO 10 [aR hb, aR sp, aR rb, aR rs, aR 52, aR 53, aR 51, aI (ee 0 7), aI (ee 0 8), aR 54, aR 64, aR 74, aR 77, aR 83, aR 84, aR 86, aR 88, aI (ee 0 17), aR 107, aR 108]) from (hfW_c hl 0 (by decide))) rfl ?_
    refine T_bipush 39 (am_dec tX11_leaks_0 14 rfl) rfl ⟨by decide, by decide⟩ ?_
    refine T_callV (as := [aI 39]) rfl (am_dec tX11_leaks_0 15 rfl) lkX11_177 (show (hfW w hb sp rb rs hb po ro ee hh ss uu vv pp kk rr tt gg aa dd bd ga im)[54]? = some (cO 8 [aR hb, aI (rr 0 1), aI (rr 0 2), aI (rr 0 3), aI (rr 0 4), aI (rr 0 5), aR 55, aR 56, aR 57, aR 58, aR 59, aR 60, aR 61, aR 62, aR 63]) from (hfW_c hl 54 (by decide))) rfl rfl (Nat.le_of_ble_eq_true rfl) (by omega) (am_OutE (m_upTo (d := d - 1) (w := hfW w hb sp rb rs hb po ro ee hh ss uu vv pp kk rr tt gg aa dd bd ga im) (hf_le hl (by omega)) (by omega) (hf_H hl hp) (HbI_A hI) 39 hRI.1 hRI.2.1 hRI.2.2 (by omega)) hf_uR hf_uR) (fun _ => ?_)
    refine T_nmH (W := fun x9 => hfW w hb sp rb rs hb po ro ee hh ss uu vv pp kk x9 tt gg aa dd bd ga im) (v := f_upTo hh rr 39) (fun rr26 hrr26 => ?_)
    have hIrr26 : RnI rr26 := by rw [hrr26]; exact f_upTo_I (HbI_A hI) hRI
    refine T_iload_n (am_dec tX11_leaks_0 16 rfl) rfl ?_
    have K30 : ∀ (t30 : Int), t30 = (if what = 0 then f_leaked rr26 l m else c_damages hh rr26 l m) →  am_T S zX11_leaks d u Q 54 [none, none, none, none] [aI t30] (hfW w hb sp rb rs hb po ro ee hh ss uu vv pp kk rr26 tt gg aa dd bd ga im) := by
      intro t30 ht30 
      exact T_ireturn (am_dec tX11_leaks_0 29 rfl) rfl (am_tr (fun (x9 : Int × Int × am_F × am_F) => Q (am_oc (x9.1) (x9.2.1)) (hfW w hb sp rb rs hb po ro x9.2.2.1 hh ss uu vv pp kk x9.2.2.2 tt gg aa dd bd ga im)) (y := (0, t30, ee, rr26)) (show (c_leaks ee hh rr l m what) = (0, t30, ee, rr26) from (by have s9 := hrr26.symm; subst s9; have s9 := ht30.symm; subst s9; exact ((if_pos hN10).trans (if_pos hN17)))) hQ)
    refine T_if_ne 45 (am_dec tX11_leaks_0 17 rfl) rfl (fun h30 => ?_) (fun h30 => ?_)
    · refine T_aload_n (am_dec tX11_leaks_0 24 rfl) rfl ?_
      refine T_getfield 10 9 (am_dec tX11_leaks_0 25 rfl) flX11_58_10 (show (hfW w hb sp rb rs hb po ro ee hh ss uu vv pp kk rr26 tt gg aa dd bd ga im)[0]? = some (cO 10 [aR hb, aR sp, aR rb, aR rs, aR 52, aR 53, aR 51, aI (ee 0 7), aI (ee 0 8), aR 54, aR 64, aR 74, aR 77, aR 83, aR 84, aR 86, aR 88, aI (ee 0 17), aR 107, aR 108]) from (hfW_c hl 0 (by decide))) rfl ?_
      refine T_iload_n (am_dec tX11_leaks_0 26 rfl) rfl ?_
      refine T_iload_n (am_dec tX11_leaks_0 27 rfl) rfl ?_
      refine T_callV (as := [aI l, aI m]) rfl (am_dec tX11_leaks_0 28 rfl) lkX11_309 (show (hfW w hb sp rb rs hb po ro ee hh ss uu vv pp kk rr26 tt gg aa dd bd ga im)[54]? = some (cO 8 [aR hb, aI (rr26 0 1), aI (rr26 0 2), aI (rr26 0 3), aI (rr26 0 4), aI (rr26 0 5), aR 55, aR 56, aR 57, aR 58, aR 59, aR 60, aR 61, aR 62, aR 63]) from (hfW_c hl 54 (by decide))) rfl rfl (Nat.le_of_ble_eq_true rfl) (by omega) (mc_damages (d := d - 1) hl hp hr l m hI (by omega)) (fun _ => ?_)
      refine T_nm (fun v51 hv51 => ?_)
      refine T_weak (ls' := [none, none, none, none]) (am_sub_n (am_sub_n (am_sub_n (am_sub_n am_sub_nil)))) ?_
      exact K30 _ (by have s9 := hv51.symm; subst s9; exact (if_neg h30).symm) 
    · refine T_aload_n (am_dec tX11_leaks_0 18 rfl) rfl ?_
      refine T_getfield 10 9 (am_dec tX11_leaks_0 19 rfl) flX11_58_10 (show (hfW w hb sp rb rs hb po ro ee hh ss uu vv pp kk rr26 tt gg aa dd bd ga im)[0]? = some (cO 10 [aR hb, aR sp, aR rb, aR rs, aR 52, aR 53, aR 51, aI (ee 0 7), aI (ee 0 8), aR 54, aR 64, aR 74, aR 77, aR 83, aR 84, aR 86, aR 88, aI (ee 0 17), aR 107, aR 108]) from (hfW_c hl 0 (by decide))) rfl ?_
      refine T_iload_n (am_dec tX11_leaks_0 20 rfl) rfl ?_
      refine T_iload_n (am_dec tX11_leaks_0 21 rfl) rfl ?_
      refine T_callV (as := [aI l, aI m]) rfl (am_dec tX11_leaks_0 22 rfl) lkX11_306 (show (hfW w hb sp rb rs hb po ro ee hh ss uu vv pp kk rr26 tt gg aa dd bd ga im)[54]? = some (cO 8 [aR hb, aI (rr26 0 1), aI (rr26 0 2), aI (rr26 0 3), aI (rr26 0 4), aI (rr26 0 5), aR 55, aR 56, aR 57, aR 58, aR 59, aR 60, aR 61, aR 62, aR 63]) from (hfW_c hl 54 (by decide))) rfl rfl (Nat.le_of_ble_eq_true rfl) (by omega) (m_leaked (d := d - 1) (hf_R hl) l m) (fun _ => ?_)
      refine T_nm (fun v39 hv39 => ?_)
      refine T_goto 54 (am_dec tX11_leaks_0 23 rfl) rfl ?_
      refine T_weak (ls' := [none, none, none, none]) (am_sub_n (am_sub_n (am_sub_n (am_sub_n am_sub_nil)))) ?_
      exact K30 _ (by have s9 := hv39.symm; subst s9; exact (if_pos h30).symm) 
  exact key _ ⟨rfl, rfl⟩
def g_c_net_25 (hh : am_F) (rr : am_F) (l : Int) (v3 : Int) (v2 : Int) : Int := (if v3 = l then v2 else (let v51 : Int := c_damages hh rr v3 l; (let v60 : Int := c_damages hh rr l v3; am_w32 (v2 + (am_w32 (v51 - v60))))))
theorem L_c_net_25 {S : am_S} {d u : Nat} {Q : AO → AH → Prop} {w : AH} {hb sp rb rs : Nat} {po ro : AV} (hl : 109 ≤ w.length) (hp : hb = 1 ∧ sp = 21 ∨ hb = 21 ∧ sp = 1) (hr : rb = 41 ∧ rs = 46 ∨ rb = 46 ∧ rs = 41) (ee : am_F) (hh : am_F) (ss : am_F) (uu : am_F) (vv : am_F) (pp : am_F) (kk : am_F) (rr : am_F) (tt : am_F) (gg : am_F) (aa : am_F) (dd : am_F) (bd : am_F) (ga : am_F) (im : am_F) (l : Int) (hI : HbI hh) (hRI : RnI rr)  (hd : 7 ≤ d) (B9 : Int) (hB : B9 = hh 0 7) : ∀ (n : Nat) (v3 : Int) (v2 : Int), v3 + n = B9 → 0 ≤ v3 → (∀ (v2' : Int), v2' = am_fold (g_c_net_25 hh rr l) v3 n v2 → am_T S zX11_net d u Q 72 [none, none, some (aI v2'), none] [] (hfW w hb sp rb rs hb po ro ee hh ss uu vv pp kk rr tt gg aa dd bd ga im)) → am_T S zX11_net d u Q 25 [some (aR 0), some (aI l), some (aI v2), some (aI v3)] [] (hfW w hb sp rb rs hb po ro ee hh ss uu vv pp kk rr tt gg aa dd bd ga im) := by
  intro n
  induction n with
  | zero =>
    intro v3 v2 hi9 h0i k9
    have e9 : v3 = B9 := by omega
    subst e9
    obtain ⟨vh1, vh2, vh3, vh4, vh5, vh6, vh7, vh8, vh9, vh10, vh11, vh12, vh13, vh14, vh15, vh16, vh17, vh18, vh19, vh20, vh21, vh22⟩ := (HbI_A hI).1
    refine T_iload_n (am_dec tX11_net_0 14 rfl) rfl ?_
    refine T_aload_n (am_dec tX11_net_0 15 rfl) rfl ?_
    refine T_getfield 10 0 (am_dec tX11_net_0 16 rfl) flX11_10_10 (show (hfW w hb sp rb rs hb po ro ee hh ss uu vv pp kk rr tt gg aa dd bd ga im)[0]? = some (cO 10 [aR hb, aR sp, aR rb, aR rs, aR 52, aR 53, aR 51, aI (ee 0 7), aI (ee 0 8), aR 54, aR 64, aR 74, aR 77, aR 83, aR 84, aR 86, aR 88, aI (ee 0 17), aR 107, aR 108]) from (hfW_c hl 0 (by decide))) rfl ?_
    refine T_getfield 3 7 (am_dec tX11_net_0 17 rfl) flX11_149_3 (show (hfW w hb sp rb rs hb po ro ee hh ss uu vv pp kk rr tt gg aa dd bd ga im)[hb]? = some (cO 3 [aI (hh 0 0), aI (hh 0 1), aI (hh 0 2), aR (hb + 1), aR (hb + 3), aR (hb + 5), aR (hb + 7), aR (hb + 9), aR (hb + 11), aR (hb + 13), aR (hb + 15), aR (hb + 17), aR (hb + 18), aR (hb + 19)]) from ((hf_H hl hp) 0 (by decide))) rfl ?_
    refine T_getfield 9 2 (am_dec tX11_net_0 18 rfl) flX11_140_9 (show (hfW w hb sp rb rs hb po ro ee hh ss uu vv pp kk rr tt gg aa dd bd ga im)[hb + 9]? = some (cO 9 [aI 6, aR (hb + 10), aI (hh 0 7)]) from ((hf_H hl hp) 9 (by decide))) rfl ?_
    refine T_icmp_ge 72 (am_dec tX11_net_0 19 rfl) rfl (fun h36 => ?_) (fun h36 => by exfalso; omega)
    refine T_weak (ls' := [none, none, some (aI v2), none]) (am_sub_n (am_sub_n (am_sub_s (am_sub_n am_sub_nil)))) ?_
    exact k9 v2 rfl
  | succ n ih =>
    intro v3 v2 hi9 h0i k9
    obtain ⟨vh1, vh2, vh3, vh4, vh5, vh6, vh7, vh8, vh9, vh10, vh11, vh12, vh13, vh14, vh15, vh16, vh17, vh18, vh19, vh20, vh21, vh22⟩ := (HbI_A hI).1
    refine T_iload_n (am_dec tX11_net_0 14 rfl) rfl ?_
    refine T_aload_n (am_dec tX11_net_0 15 rfl) rfl ?_
    refine T_getfield 10 0 (am_dec tX11_net_0 16 rfl) flX11_10_10 (show (hfW w hb sp rb rs hb po ro ee hh ss uu vv pp kk rr tt gg aa dd bd ga im)[0]? = some (cO 10 [aR hb, aR sp, aR rb, aR rs, aR 52, aR 53, aR 51, aI (ee 0 7), aI (ee 0 8), aR 54, aR 64, aR 74, aR 77, aR 83, aR 84, aR 86, aR 88, aI (ee 0 17), aR 107, aR 108]) from (hfW_c hl 0 (by decide))) rfl ?_
    refine T_getfield 3 7 (am_dec tX11_net_0 17 rfl) flX11_149_3 (show (hfW w hb sp rb rs hb po ro ee hh ss uu vv pp kk rr tt gg aa dd bd ga im)[hb]? = some (cO 3 [aI (hh 0 0), aI (hh 0 1), aI (hh 0 2), aR (hb + 1), aR (hb + 3), aR (hb + 5), aR (hb + 7), aR (hb + 9), aR (hb + 11), aR (hb + 13), aR (hb + 15), aR (hb + 17), aR (hb + 18), aR (hb + 19)]) from ((hf_H hl hp) 0 (by decide))) rfl ?_
    refine T_getfield 9 2 (am_dec tX11_net_0 18 rfl) flX11_140_9 (show (hfW w hb sp rb rs hb po ro ee hh ss uu vv pp kk rr tt gg aa dd bd ga im)[hb + 9]? = some (cO 9 [aI 6, aR (hb + 10), aI (hh 0 7)]) from ((hf_H hl hp) 9 (by decide))) rfl ?_
    refine T_icmp_ge 72 (am_dec tX11_net_0 19 rfl) rfl (fun h36 => by exfalso; omega) (fun h36 => ?_)
    refine T_iload_n (am_dec tX11_net_0 20 rfl) rfl ?_
    refine T_iload_n (am_dec tX11_net_0 21 rfl) rfl ?_
    have K41 : ∀ (v2_41 : Int), v2_41 = (if v3 = l then v2 else (let v51 : Int := c_damages hh rr v3 l; (let v60 : Int := c_damages hh rr l v3; am_w32 (v2 + (am_w32 (v51 - v60)))))) →  am_T S zX11_net d u Q 66 [some (aR 0), some (aI l), some (aI v2_41), some (aI v3)] [] (hfW w hb sp rb rs hb po ro ee hh ss uu vv pp kk rr tt gg aa dd bd ga im) := by
      intro v2_41 hv2_41 
      have hxv2_41 := hv2_41
      dsimp only at hxv2_41
      refine T_iinc (ls' := [some (aR 0), some (aI l), some (aI v2_41), some (aI (v3 + 1))]) (v3 + 1) (am_dec tX11_net_0 37 rfl) rfl rfl ⟨by omega, by omega⟩ (by decide) rfl ?_
      refine T_goto 25 (am_dec tX11_net_0 38 rfl) rfl ?_
      have e9 : (g_c_net_25 hh rr l) v3 v2 = v2_41 := (by have s9 := hv2_41.symm; subst s9; exact rfl)
      simp only [am_fold_s, e9] at k9
      exact ih (v3 + 1) v2_41 (by omega) (by omega) k9
    refine T_icmp_eq 66 (am_dec tX11_net_0 22 rfl) rfl (fun h41 => ?_) (fun h41 => ?_)
    · exact K41 _ (if_pos h41).symm 
    · refine T_iload_n (am_dec tX11_net_0 23 rfl) rfl ?_
      refine T_aload_n (am_dec tX11_net_0 24 rfl) rfl ?_
      refine T_getfield 10 9 (am_dec tX11_net_0 25 rfl) flX11_58_10 (show (hfW w hb sp rb rs hb po ro ee hh ss uu vv pp kk rr tt gg aa dd bd ga im)[0]? = some (cO 10 [aR hb, aR sp, aR rb, aR rs, aR 52, aR 53, aR 51, aI (ee 0 7), aI (ee 0 8), aR 54, aR 64, aR 74, aR 77, aR 83, aR 84, aR 86, aR 88, aI (ee 0 17), aR 107, aR 108]) from (hfW_c hl 0 (by decide))) rfl ?_
      refine T_iload_n (am_dec tX11_net_0 26 rfl) rfl ?_
      refine T_iload_n (am_dec tX11_net_0 27 rfl) rfl ?_
      refine T_callV (as := [aI v3, aI l]) rfl (am_dec tX11_net_0 28 rfl) lkX11_309 (show (hfW w hb sp rb rs hb po ro ee hh ss uu vv pp kk rr tt gg aa dd bd ga im)[54]? = some (cO 8 [aR hb, aI (rr 0 1), aI (rr 0 2), aI (rr 0 3), aI (rr 0 4), aI (rr 0 5), aR 55, aR 56, aR 57, aR 58, aR 59, aR 60, aR 61, aR 62, aR 63]) from (hfW_c hl 54 (by decide))) rfl rfl (Nat.le_of_ble_eq_true rfl) (by omega) (mc_damages (d := d - 1) hl hp hr v3 l hI (by omega)) (fun _ => ?_)
      refine T_nm (fun v51 hv51 => ?_)
      refine T_aload_n (am_dec tX11_net_0 29 rfl) rfl ?_
      refine T_getfield 10 9 (am_dec tX11_net_0 30 rfl) flX11_58_10 (show (hfW w hb sp rb rs hb po ro ee hh ss uu vv pp kk rr tt gg aa dd bd ga im)[0]? = some (cO 10 [aR hb, aR sp, aR rb, aR rs, aR 52, aR 53, aR 51, aI (ee 0 7), aI (ee 0 8), aR 54, aR 64, aR 74, aR 77, aR 83, aR 84, aR 86, aR 88, aI (ee 0 17), aR 107, aR 108]) from (hfW_c hl 0 (by decide))) rfl ?_
      refine T_iload_n (am_dec tX11_net_0 31 rfl) rfl ?_
      refine T_iload_n (am_dec tX11_net_0 32 rfl) rfl ?_
      refine T_callV (as := [aI l, aI v3]) rfl (am_dec tX11_net_0 33 rfl) lkX11_309 (show (hfW w hb sp rb rs hb po ro ee hh ss uu vv pp kk rr tt gg aa dd bd ga im)[54]? = some (cO 8 [aR hb, aI (rr 0 1), aI (rr 0 2), aI (rr 0 3), aI (rr 0 4), aI (rr 0 5), aR 55, aR 56, aR 57, aR 58, aR 59, aR 60, aR 61, aR 62, aR 63]) from (hfW_c hl 54 (by decide))) rfl rfl (Nat.le_of_ble_eq_true rfl) (by omega) (mc_damages (d := d - 1) hl hp hr l v3 hI (by omega)) (fun _ => ?_)
      refine T_nm (fun v60 hv60 => ?_)
      refine T_isubW (am_w32 (v51 - v60)) (am_dec tX11_net_0 34 rfl) (am_w32e _).symm (am_w32r _) ?_
      refine T_iaddW (am_w32 (v2 + (am_w32 (v51 - v60)))) (am_dec tX11_net_0 35 rfl) (am_w32e _).symm (am_w32r _) ?_
      refine T_nm (fun v2_65 hv2_65 => ?_)
      refine T_istore_n (ls' := [some (aR 0), some (aI l), some (aI v2_65), some (aI v3)]) (am_dec tX11_net_0 36 rfl) (by decide) rfl ?_
      exact K41 _ (by have s9 := hv51.symm; subst s9; have s9 := hv60.symm; subst s9; have s9 := hv2_65.symm; subst s9; exact (if_neg h41).symm) 
def c_net (ee : am_F) (hh : am_F) (rr : am_F) (l : Int) : Int × Int × am_F × am_F := (if n_row (hh 0 7) l = 0 then (let rr18 : am_F := f_upTo hh rr 39; (let v2_25 : Int := am_fold (g_c_net_25 hh rr18 l) 0 (hh 0 7).toNat 0; (0, v2_25, ee, rr18))) else ((n_row (hh 0 7) l), 0, n_ref ee (n_row (hh 0 7) l), rr))
theorem mc_net {S : am_S} {d u : Nat} {w : AH} {hb sp rb rs : Nat} {po ro : AV} (hl : 109 ≤ w.length) (hp : hb = 1 ∧ sp = 21 ∨ hb = 21 ∧ sp = 1) (hr : rb = 41 ∧ rs = 46 ∨ rb = 46 ∧ rs = 41) {ee : am_F} {hh : am_F} {ss : am_F} {uu : am_F} {vv : am_F} {pp : am_F} {kk : am_F} {rr : am_F} {tt : am_F} {gg : am_F} {aa : am_F} {dd : am_F} {bd : am_F} {ga : am_F} {im : am_F} (l : Int) (hI : HbI hh) (hRI : RnI rr) (hu : 1 ≤ u) (hd : 7 ≤ d) : am_Out S zX11_net d u [aR 0, aI l] (hfW w hb sp rb rs hb po ro ee hh ss uu vv pp kk rr tt gg aa dd bd ga im) (am_oc ((c_net ee hh rr l).1) ((c_net ee hh rr l).2.1)) (hfW w hb sp rb rs hb po ro ((c_net ee hh rr l).2.2.1) hh ss uu vv pp kk ((c_net ee hh rr l).2.2.2) tt gg aa dd bd ga im) := by
  have key : ∀ Q : AO → AH → Prop, Q (am_oc ((c_net ee hh rr l).1) ((c_net ee hh rr l).2.1)) (hfW w hb sp rb rs hb po ro ((c_net ee hh rr l).2.2.1) hh ss uu vv pp kk ((c_net ee hh rr l).2.2.2) tt gg aa dd bd ga im) → am_M S zX11_net d u [aR 0, aI l] (hfW w hb sp rb rs hb po ro ee hh ss uu vv pp kk rr tt gg aa dd bd ga im) Q := by
    intro Q hQ
    refine am_body rfl (by decide +kernel) rfl (am_cats_cons rfl ( am_cats_cons rfl (am_cats_nil))) (Nat.le_of_ble_eq_true rfl) (?_ : am_T _ _ _ _ _ 0 [some (aR 0), some (aI l), none, none] [] (hfW w hb sp rb rs hb po ro ee hh ss uu vv pp kk rr tt gg aa dd bd ga im))
    obtain ⟨vh1, vh2, vh3, vh4, vh5, vh6, vh7, vh8, vh9, vh10, vh11, vh12, vh13, vh14, vh15, vh16, vh17, vh18, vh19, vh20, vh21, vh22⟩ := (HbI_A hI).1
    refine T_aload_n (am_dec tX11_net_0 0 rfl) rfl ?_
    refine T_aload_n (am_dec tX11_net_0 1 rfl) rfl ?_
    refine T_getfield 10 0 (am_dec tX11_net_0 2 rfl) flX11_10_10 (show (hfW w hb sp rb rs hb po ro ee hh ss uu vv pp kk rr tt gg aa dd bd ga im)[0]? = some (cO 10 [aR hb, aR sp, aR rb, aR rs, aR 52, aR 53, aR 51, aI (ee 0 7), aI (ee 0 8), aR 54, aR 64, aR 74, aR 77, aR 83, aR 84, aR 86, aR 88, aI (ee 0 17), aR 107, aR 108]) from (hfW_c hl 0 (by decide))) rfl ?_
    refine T_getfield 3 7 (am_dec tX11_net_0 3 rfl) flX11_149_3 (show (hfW w hb sp rb rs hb po ro ee hh ss uu vv pp kk rr tt gg aa dd bd ga im)[hb]? = some (cO 3 [aI (hh 0 0), aI (hh 0 1), aI (hh 0 2), aR (hb + 1), aR (hb + 3), aR (hb + 5), aR (hb + 7), aR (hb + 9), aR (hb + 11), aR (hb + 13), aR (hb + 15), aR (hb + 17), aR (hb + 18), aR (hb + 19)]) from ((hf_H hl hp) 0 (by decide))) rfl ?_
    refine T_iload_n (am_dec tX11_net_0 4 rfl) rfl ?_
    refine T_callVo (as := [aR (hb + 9), aI l]) (code := n_row (hh 0 7) l) rfl (am_dec tX11_net_0 5 rfl) lkX11_190 (show (hfW w hb sp rb rs hb po ro ee hh ss uu vv pp kk rr tt gg aa dd bd ga im)[0]? = some (cO 10 [aR hb, aR sp, aR rb, aR rs, aR 52, aR 53, aR 51, aI (ee 0 7), aI (ee 0 8), aR 54, aR 64, aR 74, aR 77, aR 83, aR 84, aR 86, aR 88, aI (ee 0 17), aR 107, aR 108]) from (hfW_c hl 0 (by decide))) rfl rfl (Nat.le_of_ble_eq_true rfl) (by omega) (by omega) (fun hN9 => (mx_row0 (d := d - 1) hl hp hr l (show (hfW w hb sp rb rs hb po ro ee hh ss uu vv pp kk rr tt gg aa dd bd ga im)[hb + 9]? = some (cO 9 [aI 6, aR (hb + 10), aI (hh 0 7)]) from ((hf_H hl hp) 9 (by decide))) (show (hfW w hb sp rb rs hb po ro ee hh ss uu vv pp kk rr tt gg aa dd bd ga im)[hb + 10]? = some (cP 0 48 (hh 5)) from ((hf_H hl hp) 10 (by decide))) (by omega) hN9 (by omega))) (fun hN9 => (x_rowX (d := d - 1) hl hp hr l (show (hfW w hb sp rb rs hb po ro ee hh ss uu vv pp kk rr tt gg aa dd bd ga im)[hb + 9]? = some (cO 9 [aI 6, aR (hb + 10), aI (hh 0 7)]) from ((hf_H hl hp) 9 (by decide))) (show (hfW w hb sp rb rs hb po ro ee hh ss uu vv pp kk rr tt gg aa dd bd ga im)[hb + 10]? = some (cP 0 48 (hh 5)) from ((hf_H hl hp) 10 (by decide))) (by omega) hN9 (by omega) (by omega))) (fun hN9 => ?_) (fun hN9 => ?_)
    · exact (am_tr (fun (x9 : Int × Int × am_F × am_F) => Q (am_oc (x9.1) (x9.2.1)) (hfW w hb sp rb rs hb po ro x9.2.2.1 hh ss uu vv pp kk x9.2.2.2 tt gg aa dd bd ga im)) (y := ((n_row (hh 0 7) l), 0, n_ref ee (n_row (hh 0 7) l), rr)) (show (c_net ee hh rr l) = ((n_row (hh 0 7) l), 0, n_ref ee (n_row (hh 0 7) l), rr) from (if_neg hN9)) hQ)
    have hk9 := n_row_0 hN9
    refine T_aload_n (am_dec tX11_net_0 6 rfl) rfl ?_
    refine T_getfield 10 9 (am_dec tX11_net_0 7 rfl) flX11_58_10 (show (hfW w hb sp rb rs hb po ro ee hh ss uu vv pp kk rr tt gg aa dd bd ga im)[0]? = some (cO 10 [aR hb, aR sp, aR rb, aR rs, aR 52, aR 53, aR 51, aI (ee 0 7), aI (ee 0 8), aR 54, aR 64, aR 74, aR 77, aR 83, aR 84, aR 86, aR 88, aI (ee 0 17), aR 107, aR 108]) from (hfW_c hl 0 (by decide))) rfl ?_
    refine T_bipush 39 (am_dec tX11_net_0 8 rfl) rfl ⟨by decide, by decide⟩ ?_
    refine T_callV (as := [aI 39]) rfl (am_dec tX11_net_0 9 rfl) lkX11_177 (show (hfW w hb sp rb rs hb po ro ee hh ss uu vv pp kk rr tt gg aa dd bd ga im)[54]? = some (cO 8 [aR hb, aI (rr 0 1), aI (rr 0 2), aI (rr 0 3), aI (rr 0 4), aI (rr 0 5), aR 55, aR 56, aR 57, aR 58, aR 59, aR 60, aR 61, aR 62, aR 63]) from (hfW_c hl 54 (by decide))) rfl rfl (Nat.le_of_ble_eq_true rfl) (by omega) (am_OutE (m_upTo (d := d - 1) (w := hfW w hb sp rb rs hb po ro ee hh ss uu vv pp kk rr tt gg aa dd bd ga im) (hf_le hl (by omega)) (by omega) (hf_H hl hp) (HbI_A hI) 39 hRI.1 hRI.2.1 hRI.2.2 (by omega)) hf_uR hf_uR) (fun _ => ?_)
    refine T_nmH (W := fun x9 => hfW w hb sp rb rs hb po ro ee hh ss uu vv pp kk x9 tt gg aa dd bd ga im) (v := f_upTo hh rr 39) (fun rr18 hrr18 => ?_)
    have hIrr18 : RnI rr18 := by rw [hrr18]; exact f_upTo_I (HbI_A hI) hRI
    refine T_iconst 0 (am_dec tX11_net_0 10 rfl) rfl ⟨by decide, by decide⟩ ?_
    refine T_istore_n (ls' := [some (aR 0), some (aI l), some (aI 0), none]) (am_dec tX11_net_0 11 rfl) (by decide) rfl ?_
    refine T_iconst 0 (am_dec tX11_net_0 12 rfl) rfl ⟨by decide, by decide⟩ ?_
    refine T_istore_n (ls' := [some (aR 0), some (aI l), some (aI 0), some (aI 0)]) (am_dec tX11_net_0 13 rfl) (by decide) rfl ?_
    refine L_c_net_25 hl hp hr ee hh ss uu vv pp kk rr18 tt gg aa dd bd ga im l hI hIrr18  (by omega) _ rfl (hh 0 7).toNat 0 0 (by omega) (by omega) (fun v2_25 hv2_25 => ?_)
    refine T_iload_n (am_dec tX11_net_0 39 rfl) rfl ?_
    exact T_ireturn (am_dec tX11_net_1 0 rfl) rfl (am_tr (fun (x9 : Int × Int × am_F × am_F) => Q (am_oc (x9.1) (x9.2.1)) (hfW w hb sp rb rs hb po ro x9.2.2.1 hh ss uu vv pp kk x9.2.2.2 tt gg aa dd bd ga im)) (y := (0, v2_25, ee, rr18)) (show (c_net ee hh rr l) = (0, v2_25, ee, rr18) from (by have s9 := hrr18.symm; subst s9; have s9 := hv2_25.symm; subst s9; exact (if_pos hN9))) hQ)
  exact key _ ⟨rfl, rfl⟩
