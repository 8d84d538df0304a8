/-! leaks; ships; seeds: loops that may end early -/
theorem f_need_B {r h : am_F} (hV : HbV h) (hF : RnF r) (c s : Int) : 0 ≤ f_need r h c s ∧ f_need r h c s ≤ 99 := by
  unfold f_need
  obtain ⟨v1, v2, v3, v4, v5, v6, v7⟩ := hV
  exact am_fold_inv (P := fun (_ : Int) (x : Int) => 0 ≤ x ∧ x ≤ 99) _ _ 0 ⟨by omega, by omega⟩ (fun i x _ _ hx => by
    unfold g_need
    split
    · exact hx
    · rename_i hne
      split
      · have q : 0 ≤ f_line r (f_at (h 0 9) (h 7) i 0) c s := by
          unfold f_line at hne ⊢
          split
          · rename_i h9; rw [if_pos h9] at hne; exact absurd rfl hne
          · exact am_fold_inv (P := fun (_ : Int) (x : Int) => 0 ≤ x) _ _ 0 (by omega) (fun i x _ _ hx => by
              unfold g_line
              exact Int.add_nonneg hx (f_fogOn_b hF _ _).1)
        omega
      · exact hx)
theorem f_least_b (r h : am_F) (k bg : Int) (hV : HbV h) (hF : RnF r) : 0 ≤ f_least r h k bg ∧ f_least r h k bg ≤ 99 := by
  unfold f_least
  exact am_fold_inv (P := fun (_ : Int) (x : Int) => 0 ≤ x ∧ x ≤ 99) _ _ 0 ⟨by omega, by omega⟩ (fun i x _ _ hx => by
    unfold g_least
    split
    · exact f_need_B hV hF _ _
    · exact hx)
def w_c_worthless_33 (hh : am_F) (rr : am_F) (l : Int) (mu : Int) (s : Int) : (Int) ⊕ (Int) := (if s < 0 then .inr 0 else (let v43 : Int := f_inLot rr hh l s; (if v43 < mu then .inl (s + (-1)) else .inr (s + 1))))
theorem L_c_worthless_33 {S : am_S} {d u : Nat} {Q : AO → AH → Prop} {w : AH} {hb sp rb rs : Nat} {po ro : AV} (hl : 109 ≤ w.length) (hp : hb = 1 ∧ sp = 21 ∨ hb = 21 ∧ sp = 1) (hr : rb = 41 ∧ rs = 46 ∨ rb = 46 ∧ rs = 41) (ee : am_F) (hh : am_F) (ss : am_F) (uu : am_F) (vv : am_F) (pp : am_F) (kk : am_F) (rr : am_F) (tt : am_F) (gg : am_F) (aa : am_F) (dd : am_F) (bd : am_F) (ga : am_F) (im : am_F) (l : Int) (mu : Int) (hI : HbI hh) (hRI : RnI rr)  (hd : 7 ≤ d) : ∀ (n : Nat) (s : Int), s + 1 < n → -1 ≤ s ∧ s ≤ 39 → (∀ (rv' : Int), rv' = am_wr (w_c_worthless_33 hh rr l mu) 0 n s → Q (.inl (some (aI rv'))) (hfW w hb sp rb rs hb po ro ee hh ss uu vv pp kk rr tt gg aa dd bd ga im)) → am_T S zX11_worthless d u Q 33 [some (aR 0), some (aI l), some (aI mu), some (aI s)] [] (hfW w hb sp rb rs hb po ro ee hh ss uu vv pp kk rr tt gg aa dd bd ga im) := by
  intro n
  induction n with
  | zero =>
    intro s hm9 hinv k9
    obtain ⟨vh1, vh2, vh3, vh4, vh5, vh6, vh7, vh8, vh9, vh10, vh11, vh12, vh13, vh14, vh15, vh16, vh17, vh18, vh19, vh20, vh21, vh22⟩ := (HbI_A hI).1
    exfalso; omega
  | succ n ih =>
    intro s hm9 hinv k9
    obtain ⟨vh1, vh2, vh3, vh4, vh5, vh6, vh7, vh8, vh9, vh10, vh11, vh12, vh13, vh14, vh15, vh16, vh17, vh18, vh19, vh20, vh21, vh22⟩ := (HbI_A hI).1
    refine T_iload_n (am_dec tX11_worthless_0 17 rfl) rfl ?_
    refine T_if_lt 60 (am_dec tX11_worthless_0 18 rfl) rfl (fun h34 => ?_) (fun h34 => ?_)
    · refine T_iconst 0 (am_dec tX11_worthless_0 32 rfl) rfl ⟨by decide, by decide⟩ ?_
      exact T_ireturn (am_dec tX11_worthless_0 33 rfl) rfl (by have e9 : (w_c_worthless_33 hh rr l mu) s = .inr 0 := (if_pos h34); simp only [am_wr_r e9] at k9; exact k9 _ rfl)
    · refine T_aload_n (am_dec tX11_worthless_0 19 rfl) rfl ?_
      refine T_getfield 10 9 (am_dec tX11_worthless_0 20 rfl) flX11_58_10 (show (hfW w hb sp rb rs hb po ro ee hh ss uu vv pp kk rr tt gg aa dd bd ga im)[0]? = some (cO 10 [aR hb, aR sp, aR rb, aR rs, aR 52, aR 53, aR 51, aI (ee 0 7), aI (ee 0 8), aR 54, aR 64, aR 74, aR 77, aR 83, aR 84, aR 86, aR 88, aI (ee 0 17), aR 107, aR 108]) from (hfW_c hl 0 (by decide))) rfl ?_
      refine T_iload_n (am_dec tX11_worthless_0 21 rfl) rfl ?_
      refine T_iload_n (am_dec tX11_worthless_0 22 rfl) rfl ?_
      refine T_callV (as := [aI l, aI s]) rfl (am_dec tX11_worthless_0 23 rfl) lkX11_303 (show (hfW w hb sp rb rs hb po ro ee hh ss uu vv pp kk rr tt gg aa dd bd ga im)[54]? = some (cO 8 [aR hb, aI (rr 0 1), aI (rr 0 2), aI (rr 0 3), aI (rr 0 4), aI (rr 0 5), aR 55, aR 56, aR 57, aR 58, aR 59, aR 60, aR 61, aR 62, aR 63]) from (hfW_c hl 54 (by decide))) rfl rfl (Nat.le_of_ble_eq_true rfl) (by omega) (m_inLot (d := d - 1) (hf_R hl) (hf_H hl hp) (HbI_A hI).1 hRI.2.1 (by omega) l s) (fun _ => ?_)
      refine T_nm (fun v43 hv43 => ?_)
      obtain ⟨p43, q43⟩ := f_inLot_b (HbI_A hI).1 hRI.2.1 l s
      rw [← hv43] at p43 q43
      refine T_iload_n (am_dec tX11_worthless_0 24 rfl) rfl ?_
      refine T_icmp_lt 54 (am_dec tX11_worthless_0 25 rfl) rfl (fun h47 => ?_) (fun h47 => ?_)
      · refine T_iinc (ls' := [some (aR 0), some (aI l), some (aI mu), some (aI (s + (-1)))]) (s + (-1)) (am_dec tX11_worthless_0 30 rfl) rfl rfl ⟨by omega, by omega⟩ (by decide) rfl ?_
        refine T_goto 33 (am_dec tX11_worthless_0 31 rfl) rfl ?_
        have e9 : (w_c_worthless_33 hh rr l mu) s = .inl (s + (-1)) := (by have s9 := hv43.symm; subst s9; exact ((if_neg h34).trans (if_pos h47)))
        simp only [am_wr_l e9] at k9
        exact ih (s + (-1)) (by omega) (by omega) k9
      · refine T_iload_n (am_dec tX11_worthless_0 26 rfl) rfl ?_
        refine T_iconst 1 (am_dec tX11_worthless_0 27 rfl) rfl ⟨by decide, by decide⟩ ?_
        refine T_iadd (s + 1) (am_dec tX11_worthless_0 28 rfl) rfl ⟨by omega, by omega⟩ ?_
        exact T_ireturn (am_dec tX11_worthless_0 29 rfl) rfl (by have e9 : (w_c_worthless_33 hh rr l mu) s = .inr (s + 1) := (by have s9 := hv43.symm; subst s9; exact ((if_neg h34).trans (if_neg h47))); simp only [am_wr_r e9] at k9; exact k9 _ rfl)
def c_worthless (ee : am_F) (hh : am_F) (rr : am_F) (l : Int) (mu : Int) : Int × Int × am_F × am_F := (if n_row (hh 0 7) l = 0 then (if n_range mu 1 999 = 0 then (let rr27 : am_F := f_upTo hh rr 39; (let rv_33 : Int := am_wr (w_c_worthless_33 hh rr27 l mu) 0 41 39; (0, rv_33, ee, rr27))) else ((n_range mu 1 999), 0, n_ref ee (n_range mu 1 999), rr)) else ((n_row (hh 0 7) l), 0, n_ref ee (n_row (hh 0 7) l), rr))
theorem mc_worthless {S : am_S} {d u : Nat} {w : AH} {hb sp rb rs : Nat} {po ro : AV} (hl : 109 ≤ w.length) (hp : hb = 1 ∧ sp = 21 ∨ hb = 21 ∧ sp = 1) (hr : rb = 41 ∧ rs = 46 ∨ rb = 46 ∧ rs = 41) {ee : am_F} {hh : am_F} {ss : am_F} {uu : am_F} {vv : am_F} {pp : am_F} {kk : am_F} {rr : am_F} {tt : am_F} {gg : am_F} {aa : am_F} {dd : am_F} {bd : am_F} {ga : am_F} {im : am_F} (l : Int) (mu : Int) (hI : HbI hh) (hRI : RnI rr) (hu : 1 ≤ u) (hd : 7 ≤ d) : am_Out S zX11_worthless d u [aR 0, aI l, aI mu] (hfW w hb sp rb rs hb po ro ee hh ss uu vv pp kk rr tt gg aa dd bd ga im) (am_oc ((c_worthless ee hh rr l mu).1) ((c_worthless ee hh rr l mu).2.1)) (hfW w hb sp rb rs hb po ro ((c_worthless ee hh rr l mu).2.2.1) hh ss uu vv pp kk ((c_worthless ee hh rr l mu).2.2.2) tt gg aa dd bd ga im) := by
  have key : ∀ Q : AO → AH → Prop, Q (am_oc ((c_worthless ee hh rr l mu).1) ((c_worthless ee hh rr l mu).2.1)) (hfW w hb sp rb rs hb po ro ((c_worthless ee hh rr l mu).2.2.1) hh ss uu vv pp kk ((c_worthless ee hh rr l mu).2.2.2) tt gg aa dd bd ga im) → am_M S zX11_worthless d u [aR 0, aI l, aI mu] (hfW w hb sp rb rs hb po ro ee hh ss uu vv pp kk rr tt gg aa dd bd ga im) Q := by
    intro Q hQ
    refine am_body rfl (by decide +kernel) rfl (am_cats_cons rfl ( am_cats_cons rfl ( am_cats_cons rfl (am_cats_nil)))) (Nat.le_of_ble_eq_true rfl) (?_ : am_T _ _ _ _ _ 0 [some (aR 0), some (aI l), some (aI mu), none] [] (hfW w hb sp rb rs hb po ro ee hh ss uu vv pp kk rr tt gg aa dd bd ga im))
    obtain ⟨vh1, vh2, vh3, vh4, vh5, vh6, vh7, vh8, vh9, vh10, vh11, vh12, vh13, vh14, vh15, vh16, vh17, vh18, vh19, vh20, vh21, vh22⟩ := (HbI_A hI).1
    refine T_aload_n (am_dec tX11_worthless_0 0 rfl) rfl ?_
    refine T_aload_n (am_dec tX11_worthless_0 1 rfl) rfl ?_
    refine T_getfield 10 0 (am_dec tX11_worthless_0 2 rfl) flX11_10_10 (show (hfW w hb sp rb rs hb po ro ee hh ss uu vv pp kk rr tt gg aa dd bd ga im)[0]? = some (cO 10 [aR hb, aR sp, aR rb, aR rs, aR 52, aR 53, aR 51, aI (ee 0 7), aI (ee 0 8), aR 54, aR 64, aR 74, aR 77, aR 83, aR 84, aR 86, aR 88, aI (ee 0 17), aR 107, aR 108]) from (hfW_c hl 0 (by decide))) rfl ?_
    refine T_getfield 3 7 (am_dec tX11_worthless_0 3 rfl) flX11_149_3 (show (hfW w hb sp rb rs hb po ro ee hh ss uu vv pp kk rr tt gg aa dd bd ga im)[hb]? = some (cO 3 [aI (hh 0 0), aI (hh 0 1), aI (hh 0 2), aR (hb + 1), aR (hb + 3), aR (hb + 5), aR (hb + 7), aR (hb + 9), aR (hb + 11), aR (hb + 13), aR (hb + 15), aR (hb + 17), aR (hb + 18), aR (hb + 19)]) from ((hf_H hl hp) 0 (by decide))) rfl ?_
    refine T_iload_n (am_dec tX11_worthless_0 4 rfl) rfl ?_
    refine T_callVo (as := [aR (hb + 9), aI l]) (code := n_row (hh 0 7) l) rfl (am_dec tX11_worthless_0 5 rfl) lkX11_190 (show (hfW w hb sp rb rs hb po ro ee hh ss uu vv pp kk rr tt gg aa dd bd ga im)[0]? = some (cO 10 [aR hb, aR sp, aR rb, aR rs, aR 52, aR 53, aR 51, aI (ee 0 7), aI (ee 0 8), aR 54, aR 64, aR 74, aR 77, aR 83, aR 84, aR 86, aR 88, aI (ee 0 17), aR 107, aR 108]) from (hfW_c hl 0 (by decide))) rfl rfl (Nat.le_of_ble_eq_true rfl) (by omega) (by omega) (fun hN9 => (mx_row0 (d := d - 1) hl hp hr l (show (hfW w hb sp rb rs hb po ro ee hh ss uu vv pp kk rr tt gg aa dd bd ga im)[hb + 9]? = some (cO 9 [aI 6, aR (hb + 10), aI (hh 0 7)]) from ((hf_H hl hp) 9 (by decide))) (show (hfW w hb sp rb rs hb po ro ee hh ss uu vv pp kk rr tt gg aa dd bd ga im)[hb + 10]? = some (cP 0 48 (hh 5)) from ((hf_H hl hp) 10 (by decide))) (by omega) hN9 (by omega))) (fun hN9 => (x_rowX (d := d - 1) hl hp hr l (show (hfW w hb sp rb rs hb po ro ee hh ss uu vv pp kk rr tt gg aa dd bd ga im)[hb + 9]? = some (cO 9 [aI 6, aR (hb + 10), aI (hh 0 7)]) from ((hf_H hl hp) 9 (by decide))) (show (hfW w hb sp rb rs hb po ro ee hh ss uu vv pp kk rr tt gg aa dd bd ga im)[hb + 10]? = some (cP 0 48 (hh 5)) from ((hf_H hl hp) 10 (by decide))) (by omega) hN9 (by omega) (by omega))) (fun hN9 => ?_) (fun hN9 => ?_)
    · exact (am_tr (fun (x9 : Int × Int × am_F × am_F) => Q (am_oc (x9.1) (x9.2.1)) (hfW w hb sp rb rs hb po ro x9.2.2.1 hh ss uu vv pp kk x9.2.2.2 tt gg aa dd bd ga im)) (y := ((n_row (hh 0 7) l), 0, n_ref ee (n_row (hh 0 7) l), rr)) (show (c_worthless ee hh rr l mu) = ((n_row (hh 0 7) l), 0, n_ref ee (n_row (hh 0 7) l), rr) from (if_neg hN9)) hQ)
    have hk9 := n_row_0 hN9
    refine T_aload_n (am_dec tX11_worthless_0 6 rfl) rfl ?_
    refine T_iload_n (am_dec tX11_worthless_0 7 rfl) rfl ?_
    refine T_iconst 1 (am_dec tX11_worthless_0 8 rfl) rfl ⟨by decide, by decide⟩ ?_
    refine T_sipush 999 (am_dec tX11_worthless_0 9 rfl) rfl ⟨by decide, by decide⟩ ?_
    refine T_callVo (as := [aI mu, aI 1, aI 999]) (code := n_range mu 1 999) rfl (am_dec tX11_worthless_0 10 rfl) lkX11_117 (show (hfW w hb sp rb rs hb po ro ee hh ss uu vv pp kk rr tt gg aa dd bd ga im)[0]? = some (cO 10 [aR hb, aR sp, aR rb, aR rs, aR 52, aR 53, aR 51, aI (ee 0 7), aI (ee 0 8), aR 54, aR 64, aR 74, aR 77, aR 83, aR 84, aR 86, aR 88, aI (ee 0 17), aR 107, aR 108]) from (hfW_c hl 0 (by decide))) rfl rfl (Nat.le_of_ble_eq_true rfl) (by omega) (by omega) (fun hN18 => (mx_range0 (d := d - 1) hl hp hr mu 1 999  hN18 (by omega))) (fun hN18 => (x_rangeX (d := d - 1) hl hp hr mu 1 999  hN18 (by omega) (by omega))) (fun hN18 => ?_) (fun hN18 => ?_)
    · exact (am_tr (fun (x9 : Int × Int × am_F × am_F) => Q (am_oc (x9.1) (x9.2.1)) (hfW w hb sp rb rs hb po ro x9.2.2.1 hh ss uu vv pp kk x9.2.2.2 tt gg aa dd bd ga im)) (y := ((n_range mu 1 999), 0, n_ref ee (n_range mu 1 999), rr)) (show (c_worthless ee hh rr l mu) = ((n_range mu 1 999), 0, n_ref ee (n_range mu 1 999), rr) from ((if_pos hN9).trans (if_neg hN18))) hQ)
    have hk18 := n_range_0 hN18
    refine T_aload_n (am_dec tX11_worthless_0 11 rfl) rfl ?_
    refine T_getfield 10 9 (am_dec tX11_worthless_0 12 rfl) flX11_58_10 (show (hfW w hb sp rb rs hb po ro ee hh ss uu vv pp kk rr tt gg aa dd bd ga im)[0]? = some (cO 10 [aR hb, aR sp, aR rb, aR rs, aR 52, aR 53, aR 51, aI (ee 0 7), aI (ee 0 8), aR 54, aR 64, aR 74, aR 77, aR 83, aR 84, aR 86, aR 88, aI (ee 0 17), aR 107, aR 108]) from (hfW_c hl 0 (by decide))) rfl ?_
    refine T_bipush 39 (am_dec tX11_worthless_0 13 rfl) rfl ⟨by decide, by decide⟩ ?_
    refine T_callV (as := [aI 39]) rfl (am_dec tX11_worthless_0 14 rfl) lkX11_177 (show (hfW w hb sp rb rs hb po ro ee hh ss uu vv pp kk rr tt gg aa dd bd ga im)[54]? = some (cO 8 [aR hb, aI (rr 0 1), aI (rr 0 2), aI (rr 0 3), aI (rr 0 4), aI (rr 0 5), aR 55, aR 56, aR 57, aR 58, aR 59, aR 60, aR 61, aR 62, aR 63]) from (hfW_c hl 54 (by decide))) rfl rfl (Nat.le_of_ble_eq_true rfl) (by omega) (am_OutE (m_upTo (d := d - 1) (w := hfW w hb sp rb rs hb po ro ee hh ss uu vv pp kk rr tt gg aa dd bd ga im) (hf_le hl (by omega)) (by omega) (hf_H hl hp) (HbI_A hI) 39 hRI.1 hRI.2.1 hRI.2.2 (by omega)) hf_uR hf_uR) (fun _ => ?_)
    refine T_nmH (W := fun x9 => hfW w hb sp rb rs hb po ro ee hh ss uu vv pp kk x9 tt gg aa dd bd ga im) (v := f_upTo hh rr 39) (fun rr27 hrr27 => ?_)
    have hIrr27 : RnI rr27 := by rw [hrr27]; exact f_upTo_I (HbI_A hI) hRI
    refine T_bipush 39 (am_dec tX11_worthless_0 15 rfl) rfl ⟨by decide, by decide⟩ ?_
    refine T_istore_n (ls' := [some (aR 0), some (aI l), some (aI mu), some (aI 39)]) (am_dec tX11_worthless_0 16 rfl) (by decide) rfl ?_
    refine L_c_worthless_33 hl hp hr ee hh ss uu vv pp kk rr27 tt gg aa dd bd ga im l mu hI hIrr27  (by omega) 41 39 (by omega) (by omega) (fun rv_33 hrv_33 => ?_)
    exact (am_tr (fun (x9 : Int × Int × am_F × am_F) => Q (am_oc (x9.1) (x9.2.1)) (hfW w hb sp rb rs hb po ro x9.2.2.1 hh ss uu vv pp kk x9.2.2.2 tt gg aa dd bd ga im)) (y := (0, rv_33, ee, rr27)) (show (c_worthless ee hh rr l mu) = (0, rv_33, ee, rr27) from (by have s9 := hrr27.symm; subst s9; have s9 := hrv_33.symm; subst s9; exact ((if_pos hN9).trans (if_pos hN18)))) hQ)
  exact key _ ⟨rfl, rfl⟩
def w_c_tallied_4 (ee : am_F) (n0 : Int) (x9 : Int × Int) : (Int × Int) ⊕ (Int) := let tg : Int := x9.1; let n9 : Int := x9.2; (if 99 ≤ n9 then .inr 99 else (let tg_18 : Int := am_w32 (tg + ((ee 3) n9.toNat)); (if tg_18 < n0 then .inl (tg_18, (n9 + 1)) else .inr n9)))
theorem L_c_tallied_4 {S : am_S} {d u : Nat} {Q : AO → AH → Prop} {w : AH} {hb sp rb rs : Nat} {po ro : AV} (hl : 109 ≤ w.length) (hp : hb = 1 ∧ sp = 21 ∨ hb = 21 ∧ sp = 1) (hr : rb = 41 ∧ rs = 46 ∨ rb = 46 ∧ rs = 41) (ee : am_F) (hh : am_F) (ss : am_F) (uu : am_F) (vv : am_F) (pp : am_F) (kk : am_F) (rr : am_F) (tt : am_F) (gg : am_F) (aa : am_F) (dd : am_F) (bd : am_F) (ga : am_F) (im : am_F) (n0 : Int)  (hd : 1 ≤ d) : ∀ (n : Nat) (tg : Int) (n9 : Int), 99 - n9 < n → 0 ≤ n9 ∧ n9 ≤ 99 → (∀ (rv' : Int), rv' = am_wr (w_c_tallied_4 ee n0) 0 n (tg, n9) → Q (.inl (some (aI rv'))) (hfW w hb sp rb rs hb po ro ee hh ss uu vv pp kk rr tt gg aa dd bd ga im)) → am_T S zX11_tallied d u Q 4 [some (aR 0), some (aI n0), some (aI tg), some (aI n9)] [] (hfW w hb sp rb rs hb po ro ee hh ss uu vv pp kk rr tt gg aa dd bd ga im) := by
  intro n
  induction n with
  | zero =>
    intro tg n9 hm9 hinv k9
    exfalso; omega
  | succ n ih =>
    intro tg n9 hm9 hinv k9
    refine T_iload_n (am_dec tX11_tallied_0 4 rfl) rfl ?_
    refine T_bipush 99 (am_dec tX11_tallied_0 5 rfl) rfl ⟨by decide, by decide⟩ ?_
    refine T_icmp_ge 32 (am_dec tX11_tallied_0 6 rfl) rfl (fun h7 => ?_) (fun h7 => ?_)
    · refine T_bipush 99 (am_dec tX11_tallied_0 21 rfl) rfl ⟨by decide, by decide⟩ ?_
      exact T_ireturn (am_dec tX11_tallied_0 22 rfl) rfl (by have e9 : (w_c_tallied_4 ee n0) (tg, n9) = .inr 99 := (if_pos h7); simp only [am_wr_r e9] at k9; exact k9 _ rfl)
    · refine T_iload_n (am_dec tX11_tallied_0 7 rfl) rfl ?_
      refine T_aload_n (am_dec tX11_tallied_0 8 rfl) rfl ?_
      refine T_getfield 10 19 (am_dec tX11_tallied_0 9 rfl) flX11_108_10 (show (hfW w hb sp rb rs hb po ro ee hh ss uu vv pp kk rr tt gg aa dd bd ga im)[0]? = some (cO 10 [aR hb, aR sp, aR rb, aR rs, aR 52, aR 53, aR 51, aI (ee 0 7), aI (ee 0 8), aR 54, aR 64, aR 74, aR 77, aR 83, aR 84, aR 86, aR 88, aI (ee 0 17), aR 107, aR 108]) from (hfW_c hl 0 (by decide))) rfl ?_
      refine T_iload_n (am_dec tX11_tallied_0 10 rfl) rfl ?_
      refine T_ialoadE (x := (ee 3) n9.toNat) (am_dec tX11_tallied_0 11 rfl) (show (hfW w hb sp rb rs hb po ro ee hh ss uu vv pp kk rr tt gg aa dd bd ga im)[108]? = some (cP 0 100 (ee 3)) from (hfW_c hl 108 (by decide))) (by omega) (by omega) rfl ?_
      refine T_iaddW (am_w32 (tg + ((ee 3) n9.toNat))) (am_dec tX11_tallied_0 12 rfl) (am_w32e _).symm (am_w32r _) ?_
      refine T_nm (fun tg_18 htg_18 => ?_)
      refine T_istore_n (ls' := [some (aR 0), some (aI n0), some (aI tg_18), some (aI n9)]) (am_dec tX11_tallied_0 13 rfl) (by decide) rfl ?_
      refine T_iload_n (am_dec tX11_tallied_0 14 rfl) rfl ?_
      refine T_iload_n (am_dec tX11_tallied_0 15 rfl) rfl ?_
      refine T_icmp_lt 26 (am_dec tX11_tallied_0 16 rfl) rfl (fun h21 => ?_) (fun h21 => ?_)
      · refine T_iinc (ls' := [some (aR 0), some (aI n0), some (aI tg_18), some (aI (n9 + 1))]) (n9 + 1) (am_dec tX11_tallied_0 19 rfl) rfl rfl ⟨by omega, by omega⟩ (by decide) rfl ?_
        refine T_goto 4 (am_dec tX11_tallied_0 20 rfl) rfl ?_
        have e9 : (w_c_tallied_4 ee n0) (tg, n9) = .inl (tg_18, n9 + 1) := (by have s9 := htg_18.symm; subst s9; exact ((if_neg h7).trans (if_pos h21)))
        simp only [am_wr_l e9] at k9
        exact ih tg_18 (n9 + 1) (by omega) (by omega) k9
      · refine T_iload_n (am_dec tX11_tallied_0 17 rfl) rfl ?_
        exact T_ireturn (am_dec tX11_tallied_0 18 rfl) rfl (by have e9 : (w_c_tallied_4 ee n0) (tg, n9) = .inr n9 := (by have s9 := htg_18.symm; subst s9; exact ((if_neg h7).trans (if_neg h21))); simp only [am_wr_r e9] at k9; exact k9 _ rfl)
def c_tallied (ee : am_F) (n0 : Int) : Int := am_wr (w_c_tallied_4 ee n0) 0 100 (0, 0)
theorem mc_tallied {S : am_S} {d u : Nat} {w : AH} {hb sp rb rs : Nat} {po ro : AV} (hl : 109 ≤ w.length) (hp : hb = 1 ∧ sp = 21 ∨ hb = 21 ∧ sp = 1) (hr : rb = 41 ∧ rs = 46 ∨ rb = 46 ∧ rs = 41) {ee : am_F} {hh : am_F} {ss : am_F} {uu : am_F} {vv : am_F} {pp : am_F} {kk : am_F} {rr : am_F} {tt : am_F} {gg : am_F} {aa : am_F} {dd : am_F} {bd : am_F} {ga : am_F} {im : am_F} (n0 : Int)   (hd : 1 ≤ d) : am_Out S zX11_tallied d u [aR 0, aI n0] (hfW w hb sp rb rs hb po ro ee hh ss uu vv pp kk rr tt gg aa dd bd ga im) (.inl (some (aI (c_tallied ee n0)))) (hfW w hb sp rb rs hb po ro ee hh ss uu vv pp kk rr tt gg aa dd bd ga im) := by
  have key : ∀ Q : AO → AH → Prop, Q (.inl (some (aI (c_tallied ee n0)))) (hfW w hb sp rb rs hb po ro ee hh ss uu vv pp kk rr tt gg aa dd bd ga im) → am_M S zX11_tallied d u [aR 0, aI n0] (hfW w hb sp rb rs hb po ro ee hh ss uu vv pp kk rr tt gg aa dd bd ga im) Q := by
    intro Q hQ
    refine am_body rfl (by decide +kernel) rfl (am_cats_cons rfl ( am_cats_cons rfl (am_cats_nil))) (Nat.le_of_ble_eq_true rfl) (?_ : am_T _ _ _ _ _ 0 [some (aR 0), some (aI n0), none, none] [] (hfW w hb sp rb rs hb po ro ee hh ss uu vv pp kk rr tt gg aa dd bd ga im))
    refine T_iconst 0 (am_dec tX11_tallied_0 0 rfl) rfl ⟨by decide, by decide⟩ ?_
    refine T_istore_n (ls' := [some (aR 0), some (aI n0), some (aI 0), none]) (am_dec tX11_tallied_0 1 rfl) (by decide) rfl ?_
    refine T_iconst 0 (am_dec tX11_tallied_0 2 rfl) rfl ⟨by decide, by decide⟩ ?_
    refine T_istore_n (ls' := [some (aR 0), some (aI n0), some (aI 0), some (aI 0)]) (am_dec tX11_tallied_0 3 rfl) (by decide) rfl ?_
    refine L_c_tallied_4 hl hp hr ee hh ss uu vv pp kk rr tt gg aa dd bd ga im n0   (by omega) 100 0 0 (by omega) (by omega) (fun rv_4 hrv_4 => ?_)
    exact (am_tr (fun (x9 : Int) => Q (.inl (some (aI (x9)))) (hfW w hb sp rb rs hb po ro ee hh ss uu vv pp kk rr tt gg aa dd bd ga im)) (y := rv_4) (show (c_tallied ee n0) = rv_4 from (by have s9 := hrv_4.symm; subst s9; exact rfl)) hQ)
  exact key _ ⟨rfl, rfl⟩
def w_c_calm_7 (hh : am_F) (x9 : Int × am_F) : (Int × am_F) ⊕ (Int × am_F) := let s : Int := x9.1; let rr : am_F := x9.2; (if 40 ≤ s then .inr ((-1), rr) else (let rr18 : am_F := f_upTo hh rr s; (let v26 : Int := f_movedIn rr18 s; (if v26 = 0 then .inr (s, rr18) else .inl ((s + 1), rr18)))))
theorem L_c_calm_7 {S : am_S} {d u : Nat} {Q : AO → AH → Prop} {w : AH} {hb sp rb rs : Nat} {po ro : AV} (hl : 109 ≤ w.length) (hp : hb = 1 ∧ sp = 21 ∨ hb = 21 ∧ sp = 1) (hr : rb = 41 ∧ rs = 46 ∨ rb = 46 ∧ rs = 41) (ee : am_F) (hh : am_F) (ss : am_F) (uu : am_F) (vv : am_F) (pp : am_F) (kk : am_F) (tt : am_F) (gg : am_F) (aa : am_F) (dd : am_F) (bd : am_F) (ga : am_F) (im : am_F) (hI : HbI hh)  (hd : 8 ≤ d) : ∀ (n : Nat) (s : Int) (rr : am_F), 40 - s < n → RnI rr ∧ 0 ≤ s ∧ s ≤ 40 → (∀ (rv' : Int) (rr' : am_F), rv' = (am_wr (w_c_calm_7 hh) (0, (fun _ _ => 0)) n (s, rr)).1 → rr' = (am_wr (w_c_calm_7 hh) (0, (fun _ _ => 0)) n (s, rr)).2 → Q (.inl (some (aI rv'))) (hfW w hb sp rb rs hb po ro ee hh ss uu vv pp kk rr' tt gg aa dd bd ga im)) → am_T S zX11_calm d u Q 7 [some (aR 0), none, some (aI s)] [] (hfW w hb sp rb rs hb po ro ee hh ss uu vv pp kk rr tt gg aa dd bd ga im) := by
  intro n
  induction n with
  | zero =>
    intro s rr hm9 hinv k9
    obtain ⟨vh1, vh2, vh3, vh4, vh5, vh6, vh7, vh8, vh9, vh10, vh11, vh12, vh13, vh14, vh15, vh16, vh17, vh18, vh19, vh20, vh21, vh22⟩ := (HbI_A hI).1
    have hRI := hinv.1
    exfalso; omega
  | succ n ih =>
    intro s rr hm9 hinv k9
    obtain ⟨vh1, vh2, vh3, vh4, vh5, vh6, vh7, vh8, vh9, vh10, vh11, vh12, vh13, vh14, vh15, vh16, vh17, vh18, vh19, vh20, vh21, vh22⟩ := (HbI_A hI).1
    have hRI := hinv.1
    refine T_iload_n (am_dec tX11_calm_0 5 rfl) rfl ?_
    refine T_bipush 40 (am_dec tX11_calm_0 6 rfl) rfl ⟨by decide, by decide⟩ ?_
    refine T_icmp_ge 40 (am_dec tX11_calm_0 7 rfl) rfl (fun h10 => ?_) (fun h10 => ?_)
    · refine T_iconst (-1) (am_dec tX11_calm_0 21 rfl) rfl ⟨by decide, by decide⟩ ?_
      exact T_ireturn (am_dec tX11_calm_0 22 rfl) rfl (by have e9 : (w_c_calm_7 hh) (s, rr) = .inr ((-1), rr) := (if_pos h10); simp only [am_wr_r e9] at k9; exact k9 _ _ rfl rfl)
    · refine T_aload_n (am_dec tX11_calm_0 8 rfl) rfl ?_
      refine T_getfield 10 9 (am_dec tX11_calm_0 9 rfl) flX11_58_10 (show (hfW w hb sp rb rs hb po ro ee hh ss uu vv pp kk rr tt gg aa dd bd ga im)[0]? = some (cO 10 [aR hb, aR sp, aR rb, aR rs, aR 52, aR 53, aR 51, aI (ee 0 7), aI (ee 0 8), aR 54, aR 64, aR 74, aR 77, aR 83, aR 84, aR 86, aR 88, aI (ee 0 17), aR 107, aR 108]) from (hfW_c hl 0 (by decide))) rfl ?_
      refine T_iload_n (am_dec tX11_calm_0 10 rfl) rfl ?_
      refine T_callV (as := [aI s]) rfl (am_dec tX11_calm_0 11 rfl) lkX11_177 (show (hfW w hb sp rb rs hb po ro ee hh ss uu vv pp kk rr tt gg aa dd bd ga im)[54]? = some (cO 8 [aR hb, aI (rr 0 1), aI (rr 0 2), aI (rr 0 3), aI (rr 0 4), aI (rr 0 5), aR 55, aR 56, aR 57, aR 58, aR 59, aR 60, aR 61, aR 62, aR 63]) from (hfW_c hl 54 (by decide))) rfl rfl (Nat.le_of_ble_eq_true rfl) (by omega) (am_OutE (m_upTo (d := d - 1) (w := hfW w hb sp rb rs hb po ro ee hh ss uu vv pp kk rr tt gg aa dd bd ga im) (hf_le hl (by omega)) (by omega) (hf_H hl hp) (HbI_A hI) s hRI.1 hRI.2.1 hRI.2.2 (by omega)) hf_uR hf_uR) (fun _ => ?_)
      refine T_nmH (W := fun x9 => hfW w hb sp rb rs hb po ro ee hh ss uu vv pp kk x9 tt gg aa dd bd ga im) (v := f_upTo hh rr s) (fun rr18 hrr18 => ?_)
      have hIrr18 : RnI rr18 := by rw [hrr18]; exact f_upTo_I (HbI_A hI) hRI
      refine T_aload_n (am_dec tX11_calm_0 12 rfl) rfl ?_
      refine T_getfield 10 9 (am_dec tX11_calm_0 13 rfl) flX11_58_10 (show (hfW w hb sp rb rs hb po ro ee hh ss uu vv pp kk rr18 tt gg aa dd bd ga im)[0]? = some (cO 10 [aR hb, aR sp, aR rb, aR rs, aR 52, aR 53, aR 51, aI (ee 0 7), aI (ee 0 8), aR 54, aR 64, aR 74, aR 77, aR 83, aR 84, aR 86, aR 88, aI (ee 0 17), aR 107, aR 108]) from (hfW_c hl 0 (by decide))) rfl ?_
      refine T_iload_n (am_dec tX11_calm_0 14 rfl) rfl ?_
      refine T_callV (as := [aI s]) rfl (am_dec tX11_calm_0 15 rfl) lkX11_203 (show (hfW w hb sp rb rs hb po ro ee hh ss uu vv pp kk rr18 tt gg aa dd bd ga im)[54]? = some (cO 8 [aR hb, aI (rr18 0 1), aI (rr18 0 2), aI (rr18 0 3), aI (rr18 0 4), aI (rr18 0 5), aR 55, aR 56, aR 57, aR 58, aR 59, aR 60, aR 61, aR 62, aR 63]) from (hfW_c hl 54 (by decide))) rfl rfl (Nat.le_of_ble_eq_true rfl) (by omega) (m_movedIn (d := d - 1) (hf_R hl) (by omega) s) (fun _ => ?_)
      refine T_nm (fun v26 hv26 => ?_)
      refine T_if_ne 34 (am_dec tX11_calm_0 16 rfl) rfl (fun h29 => ?_) (fun h29 => ?_)
      · refine T_iinc (ls' := [some (aR 0), none, some (aI (s + 1))]) (s + 1) (am_dec tX11_calm_0 19 rfl) rfl rfl ⟨by omega, by omega⟩ (by decide) rfl ?_
        refine T_goto 7 (am_dec tX11_calm_0 20 rfl) rfl ?_
        have e9 : (w_c_calm_7 hh) (s, rr) = .inl (s + 1, rr18) := (by have s9 := hrr18.symm; subst s9; have s9 := hv26.symm; subst s9; exact ((if_neg h10).trans (if_neg h29)))
        simp only [am_wr_l e9] at k9
        exact ih (s + 1) rr18 (by omega) ⟨hIrr18, by omega, by omega⟩ k9
      · refine T_iload_n (am_dec tX11_calm_0 17 rfl) rfl ?_
        exact T_ireturn (am_dec tX11_calm_0 18 rfl) rfl (by have e9 : (w_c_calm_7 hh) (s, rr) = .inr (s, rr18) := (by have s9 := hrr18.symm; subst s9; have s9 := hv26.symm; subst s9; exact ((if_neg h10).trans (if_pos h29))); simp only [am_wr_r e9] at k9; exact k9 _ _ rfl rfl)
def c_calm (ee : am_F) (hh : am_F) (rr : am_F) (st : Int) : Int × Int × am_F × am_F := (if n_step st = 0 then (let rv_7 : Int := (am_wr (w_c_calm_7 hh) (0, (fun _ _ => 0)) 41 (st, rr)).1; (let rr7 : am_F := (am_wr (w_c_calm_7 hh) (0, (fun _ _ => 0)) 41 (st, rr)).2; (0, rv_7, ee, rr7))) else ((n_step st), 0, n_ref ee (n_step st), rr))
theorem mc_calm {S : am_S} {d u : Nat} {w : AH} {hb sp rb rs : Nat} {po ro : AV} (hl : 109 ≤ w.length) (hp : hb = 1 ∧ sp = 21 ∨ hb = 21 ∧ sp = 1) (hr : rb = 41 ∧ rs = 46 ∨ rb = 46 ∧ rs = 41) {ee : am_F} {hh : am_F} {ss : am_F} {uu : am_F} {vv : am_F} {pp : am_F} {kk : am_F} {rr : am_F} {tt : am_F} {gg : am_F} {aa : am_F} {dd : am_F} {bd : am_F} {ga : am_F} {im : am_F} (st : Int) (hI : HbI hh) (hRI : RnI rr) (hu : 1 ≤ u) (hd : 8 ≤ d) : am_Out S zX11_calm d u [aR 0, aI st] (hfW w hb sp rb rs hb po ro ee hh ss uu vv pp kk rr tt gg aa dd bd ga im) (am_oc ((c_calm ee hh rr st).1) ((c_calm ee hh rr st).2.1)) (hfW w hb sp rb rs hb po ro ((c_calm ee hh rr st).2.2.1) hh ss uu vv pp kk ((c_calm ee hh rr st).2.2.2) tt gg aa dd bd ga im) := by
  have key : ∀ Q : AO → AH → Prop, Q (am_oc ((c_calm ee hh rr st).1) ((c_calm ee hh rr st).2.1)) (hfW w hb sp rb rs hb po ro ((c_calm ee hh rr st).2.2.1) hh ss uu vv pp kk ((c_calm ee hh rr st).2.2.2) tt gg aa dd bd ga im) → am_M S zX11_calm d u [aR 0, aI st] (hfW w hb sp rb rs hb po ro ee hh ss uu vv pp kk rr tt gg aa dd bd ga im) Q := by
    intro Q hQ
    refine am_body rfl (by decide +kernel) rfl (am_cats_cons rfl ( am_cats_cons rfl (am_cats_nil))) (Nat.le_of_ble_eq_true rfl) (?_ : am_T _ _ _ _ _ 0 [some (aR 0), some (aI st), none] [] (hfW w hb sp rb rs hb po ro ee hh ss uu vv pp kk rr tt gg aa dd bd ga im))
    obtain ⟨vh1, vh2, vh3, vh4, vh5, vh6, vh7, vh8, vh9, vh10, vh11, vh12, vh13, vh14, vh15, vh16, vh17, vh18, vh19, vh20, vh21, vh22⟩ := (HbI_A hI).1
    refine T_aload_n (am_dec tX11_calm_0 0 rfl) rfl ?_
    refine T_iload_n (am_dec tX11_calm_0 1 rfl) rfl ?_
    refine T_callVo (as := [aI st]) (code := n_step st) rfl (am_dec tX11_calm_0 2 rfl) lkX11_194 (show (hfW w hb sp rb rs hb po ro ee hh ss uu vv pp kk rr tt gg aa dd bd ga im)[0]? = some (cO 10 [aR hb, aR sp, aR rb, aR rs, aR 52, aR 53, aR 51, aI (ee 0 7), aI (ee 0 8), aR 54, aR 64, aR 74, aR 77, aR 83, aR 84, aR 86, aR 88, aI (ee 0 17), aR 107, aR 108]) from (hfW_c hl 0 (by decide))) rfl rfl (Nat.le_of_ble_eq_true rfl) (by omega) (by omega) (fun hN2 => (mx_step0 (d := d - 1) hl hp hr st  hN2 (by omega))) (fun hN2 => (x_stepX (d := d - 1) hl hp hr st  hN2 (by omega) (by omega))) (fun hN2 => ?_) (fun hN2 => ?_)
    · exact (am_tr (fun (x9 : Int × Int × am_F × am_F) => Q (am_oc (x9.1) (x9.2.1)) (hfW w hb sp rb rs hb po ro x9.2.2.1 hh ss uu vv pp kk x9.2.2.2 tt gg aa dd bd ga im)) (y := ((n_step st), 0, n_ref ee (n_step st), rr)) (show (c_calm ee hh rr st) = ((n_step st), 0, n_ref ee (n_step st), rr) from (if_neg hN2)) hQ)
    have hk2 := n_step_0 hN2
    refine T_iload_n (am_dec tX11_calm_0 3 rfl) rfl ?_
    refine T_istore_n (ls' := [some (aR 0), some (aI st), some (aI st)]) (am_dec tX11_calm_0 4 rfl) (by decide) rfl ?_
    refine T_weak (ls' := [some (aR 0), none, some (aI st)]) (am_sub_s (am_sub_n (am_sub_s am_sub_nil))) ?_
    refine L_c_calm_7 hl hp hr ee hh ss uu vv pp kk tt gg aa dd bd ga im hI  (by omega) 41 st rr (by omega) ⟨hRI, by omega, by omega⟩ (fun rv_7 rr7 hrv_7 hrr7 => ?_)
    exact (am_tr (fun (x9 : Int × Int × am_F × am_F) => Q (am_oc (x9.1) (x9.2.1)) (hfW w hb sp rb rs hb po ro x9.2.2.1 hh ss uu vv pp kk x9.2.2.2 tt gg aa dd bd ga im)) (y := (0, rv_7, ee, rr7)) (show (c_calm ee hh rr st) = (0, rv_7, ee, rr7) from (by have s9 := hrv_7.symm; subst s9; have s9 := hrr7.symm; subst s9; exact (if_pos hN2))) hQ)
  exact key _ ⟨rfl, rfl⟩
def w_c_firstClear54_3 (hh : am_F) (k : Int) (ah : Int) (x9 : Int × am_F) : (Int × am_F) ⊕ (Int × am_F) := let s : Int := x9.1; let rr : am_F := x9.2; (if ah ≤ s then .inr ((-1), rr) else (let rr19 : am_F := f_upTo hh rr s; (let z26 : Int := f_letsIn rr19 hh k s; (if z26 = 0 then .inl ((s + 1), rr19) else .inr (s, rr19)))))
theorem L_c_firstClear54_3 {S : am_S} {d u : Nat} {Q : AO → AH → Prop} {w : AH} {hb sp rb rs : Nat} {po ro : AV} (hl : 109 ≤ w.length) (hp : hb = 1 ∧ sp = 21 ∨ hb = 21 ∧ sp = 1) (hr : rb = 41 ∧ rs = 46 ∨ rb = 46 ∧ rs = 41) (ee : am_F) (hh : am_F) (ss : am_F) (uu : am_F) (vv : am_F) (pp : am_F) (kk : am_F) (tt : am_F) (gg : am_F) (aa : am_F) (dd : am_F) (bd : am_F) (ga : am_F) (im : am_F) (k : Int) (ah : Int) (hI : HbI hh) (hah : ah ≤ 40)  (hd : 6 ≤ d) : ∀ (n : Nat) (s : Int) (rr : am_F), 40 - s < n → RnI rr ∧ 0 ≤ s ∧ s ≤ 40 → (∀ (rv' : Int) (rr' : am_F), rv' = (am_wr (w_c_firstClear54_3 hh k ah) (0, (fun _ _ => 0)) n (s, rr)).1 → rr' = (am_wr (w_c_firstClear54_3 hh k ah) (0, (fun _ _ => 0)) n (s, rr)).2 → Q (.inl (some (aI rv'))) (hfW w hb sp rb rs hb po ro ee hh ss uu vv pp kk rr' tt gg aa dd bd ga im)) → am_T S zX11_firstClear d u Q 3 [none, some (aR 54), some (aI k), some (aI ah), some (aI s)] [] (hfW w hb sp rb rs hb po ro ee hh ss uu vv pp kk rr tt gg aa dd bd ga im) := by
  intro n
  induction n with
  | zero =>
    intro s rr hm9 hinv k9
    obtain ⟨vh1, vh2, vh3, vh4, vh5, vh6, vh7, vh8, vh9, vh10, vh11, vh12, vh13, vh14, vh15, vh16, vh17, vh18, vh19, vh20, vh21, vh22⟩ := (HbI_A hI).1
    have hRI := hinv.1
    exfalso; omega
  | succ n ih =>
    intro s rr hm9 hinv k9
    obtain ⟨vh1, vh2, vh3, vh4, vh5, vh6, vh7, vh8, vh9, vh10, vh11, vh12, vh13, vh14, vh15, vh16, vh17, vh18, vh19, vh20, vh21, vh22⟩ := (HbI_A hI).1
    have hRI := hinv.1
    refine T_iload (am_dec tX11_firstClear_0 2 rfl) rfl ?_
    refine T_iload_n (am_dec tX11_firstClear_0 3 rfl) rfl ?_
    refine T_icmp_ge 41 (am_dec tX11_firstClear_0 4 rfl) rfl (fun h6 => ?_) (fun h6 => ?_)
    · refine T_iconst (-1) (am_dec tX11_firstClear_0 20 rfl) rfl ⟨by decide, by decide⟩ ?_
      exact T_ireturn (am_dec tX11_firstClear_0 21 rfl) rfl (by have e9 : (w_c_firstClear54_3 hh k ah) (s, rr) = .inr ((-1), rr) := (if_pos h6); simp only [am_wr_r e9] at k9; exact k9 _ _ rfl rfl)
    · refine T_iload (am_dec tX11_firstClear_0 5 rfl) rfl ?_
      refine T_bipush 40 (am_dec tX11_firstClear_0 6 rfl) rfl ⟨by decide, by decide⟩ ?_
      refine T_icmp_ge 41 (am_dec tX11_firstClear_0 7 rfl) rfl (fun h13 => by exfalso; omega) (fun h13 => ?_)
      refine T_aload_n (am_dec tX11_firstClear_0 8 rfl) rfl ?_
      refine T_iload (am_dec tX11_firstClear_0 9 rfl) rfl ?_
      refine T_callV (as := [aI s]) rfl (am_dec tX11_firstClear_0 10 rfl) lkX11_177 (show (hfW w hb sp rb rs hb po ro ee hh ss uu vv pp kk rr tt gg aa dd bd ga im)[54]? = some (cO 8 [aR hb, aI (rr 0 1), aI (rr 0 2), aI (rr 0 3), aI (rr 0 4), aI (rr 0 5), aR 55, aR 56, aR 57, aR 58, aR 59, aR 60, aR 61, aR 62, aR 63]) from (hfW_c hl 54 (by decide))) rfl rfl (Nat.le_of_ble_eq_true rfl) (by omega) (am_OutE (m_upTo (d := d - 1) (w := hfW w hb sp rb rs hb po ro ee hh ss uu vv pp kk rr tt gg aa dd bd ga im) (hf_le hl (by omega)) (by omega) (hf_H hl hp) (HbI_A hI) s hRI.1 hRI.2.1 hRI.2.2 (by omega)) hf_uR hf_uR) (fun _ => ?_)
      refine T_nmH (W := fun x9 => hfW w hb sp rb rs hb po ro ee hh ss uu vv pp kk x9 tt gg aa dd bd ga im) (v := f_upTo hh rr s) (fun rr19 hrr19 => ?_)
      have hIrr19 : RnI rr19 := by rw [hrr19]; exact f_upTo_I (HbI_A hI) hRI
      refine T_aload_n (am_dec tX11_firstClear_0 11 rfl) rfl ?_
      refine T_iload_n (am_dec tX11_firstClear_0 12 rfl) rfl ?_
      refine T_iload (am_dec tX11_firstClear_0 13 rfl) rfl ?_
      refine T_callV (as := [aI k, aI s]) rfl (am_dec tX11_firstClear_0 14 rfl) lkX11_385 (show (hfW w hb sp rb rs hb po ro ee hh ss uu vv pp kk rr19 tt gg aa dd bd ga im)[54]? = some (cO 8 [aR hb, aI (rr19 0 1), aI (rr19 0 2), aI (rr19 0 3), aI (rr19 0 4), aI (rr19 0 5), aR 55, aR 56, aR 57, aR 58, aR 59, aR 60, aR 61, aR 62, aR 63]) from (hfW_c hl 54 (by decide))) rfl rfl (Nat.le_of_ble_eq_true rfl) (by omega) (m_letsIn (d := d - 1) (hf_R hl) (hf_H hl hp) (HbI_A hI).1 hIrr19.2.1 (by omega) k s (HbI_Sh hI)) (fun _ => ?_)
      refine T_nm (fun z26 hz26 => ?_)
      have hb26 := f_letsIn_b rr19 hh k s
      rw [← hz26] at hb26
      refine T_if_eq 35 (am_dec tX11_firstClear_0 15 rfl) rfl (fun h29 => ?_) (fun h29 => ?_)
      · refine T_iinc (ls' := [none, some (aR 54), some (aI k), some (aI ah), some (aI (s + 1))]) (s + 1) (am_dec tX11_firstClear_0 18 rfl) rfl rfl ⟨by omega, by omega⟩ (by decide) rfl ?_
        refine T_goto 3 (am_dec tX11_firstClear_0 19 rfl) rfl ?_
        have e9 : (w_c_firstClear54_3 hh k ah) (s, rr) = .inl (s + 1, rr19) := (by have s9 := hrr19.symm; subst s9; have s9 := hz26.symm; subst s9; exact ((if_neg h6).trans (if_pos h29)))
        simp only [am_wr_l e9] at k9
        exact ih (s + 1) rr19 (by omega) ⟨hIrr19, by omega, by omega⟩ k9
      · refine T_iload (am_dec tX11_firstClear_0 16 rfl) rfl ?_
        exact T_ireturn (am_dec tX11_firstClear_0 17 rfl) rfl (by have e9 : (w_c_firstClear54_3 hh k ah) (s, rr) = .inr (s, rr19) := (by have s9 := hrr19.symm; subst s9; have s9 := hz26.symm; subst s9; exact ((if_neg h6).trans (if_neg h29))); simp only [am_wr_r e9] at k9; exact k9 _ _ rfl rfl)
def c_firstClear54 (hh : am_F) (rr : am_F) (k : Int) (ah : Int) : Int × am_F := (let rv_3 : Int := (am_wr (w_c_firstClear54_3 hh k ah) (0, (fun _ _ => 0)) 41 (0, rr)).1; (let rr3 : am_F := (am_wr (w_c_firstClear54_3 hh k ah) (0, (fun _ _ => 0)) 41 (0, rr)).2; (rv_3, rr3)))
theorem mc_firstClear54 {S : am_S} {d u : Nat} {w : AH} {hb sp rb rs : Nat} {po ro : AV} (hl : 109 ≤ w.length) (hp : hb = 1 ∧ sp = 21 ∨ hb = 21 ∧ sp = 1) (hr : rb = 41 ∧ rs = 46 ∨ rb = 46 ∧ rs = 41) {ee : am_F} {hh : am_F} {ss : am_F} {uu : am_F} {vv : am_F} {pp : am_F} {kk : am_F} {rr : am_F} {tt : am_F} {gg : am_F} {aa : am_F} {dd : am_F} {bd : am_F} {ga : am_F} {im : am_F} (k : Int) (ah : Int) (hI : HbI hh) (hRI : RnI rr) (hah : ah ≤ 40)  (hd : 6 ≤ d) : am_Out S zX11_firstClear d u [aR 0, aR 54, aI k, aI ah] (hfW w hb sp rb rs hb po ro ee hh ss uu vv pp kk rr tt gg aa dd bd ga im) (.inl (some (aI ((c_firstClear54 hh rr k ah).1)))) (hfW w hb sp rb rs hb po ro ee hh ss uu vv pp kk ((c_firstClear54 hh rr k ah).2) tt gg aa dd bd ga im) := by
  have key : ∀ Q : AO → AH → Prop, Q (.inl (some (aI ((c_firstClear54 hh rr k ah).1)))) (hfW w hb sp rb rs hb po ro ee hh ss uu vv pp kk ((c_firstClear54 hh rr k ah).2) tt gg aa dd bd ga im) → am_M S zX11_firstClear d u [aR 0, aR 54, aI k, aI ah] (hfW w hb sp rb rs hb po ro ee hh ss uu vv pp kk rr tt gg aa dd bd ga im) Q := by
    intro Q hQ
    refine am_body rfl (by decide +kernel) rfl (am_cats_cons rfl ( am_cats_cons rfl ( am_cats_cons rfl ( am_cats_cons rfl (am_cats_nil))))) (Nat.le_of_ble_eq_true rfl) (?_ : am_T _ _ _ _ _ 0 [some (aR 0), some (aR 54), some (aI k), some (aI ah), none] [] (hfW w hb sp rb rs hb po ro ee hh ss uu vv pp kk rr tt gg aa dd bd ga im))
    obtain ⟨vh1, vh2, vh3, vh4, vh5, vh6, vh7, vh8, vh9, vh10, vh11, vh12, vh13, vh14, vh15, vh16, vh17, vh18, vh19, vh20, vh21, vh22⟩ := (HbI_A hI).1
    refine T_iconst 0 (am_dec tX11_firstClear_0 0 rfl) rfl ⟨by decide, by decide⟩ ?_
    refine T_istore (ls' := [some (aR 0), some (aR 54), some (aI k), some (aI ah), some (aI 0)]) (am_dec tX11_firstClear_0 1 rfl) (by decide) rfl ?_
    refine T_weak (ls' := [none, some (aR 54), some (aI k), some (aI ah), some (aI 0)]) (am_sub_n (am_sub_s (am_sub_s (am_sub_s (am_sub_s am_sub_nil))))) ?_
    refine L_c_firstClear54_3 hl hp hr ee hh ss uu vv pp kk tt gg aa dd bd ga im k ah hI (by omega)  (by omega) 41 0 rr (by omega) ⟨hRI, by omega, by omega⟩ (fun rv_3 rr3 hrv_3 hrr3 => ?_)
    exact (am_tr (fun (x9 : Int × am_F) => Q (.inl (some (aI (x9.1)))) (hfW w hb sp rb rs hb po ro ee hh ss uu vv pp kk x9.2 tt gg aa dd bd ga im)) (y := (rv_3, rr3)) (show (c_firstClear54 hh rr k ah) = (rv_3, rr3) from (by have s9 := hrv_3.symm; subst s9; have s9 := hrr3.symm; subst s9; exact rfl)) hQ)
  exact key _ ⟨rfl, rfl⟩
def w_c_firstClear64_3 (hh : am_F) (k : Int) (ah : Int) (x9 : Int × am_F) : (Int × am_F) ⊕ (Int × am_F) := let s : Int := x9.1; let tt : am_F := x9.2; (if ah ≤ s then .inr ((-1), tt) else (let tt19 : am_F := f_upTo hh tt s; (let z26 : Int := f_letsIn tt19 hh k s; (if z26 = 0 then .inl ((s + 1), tt19) else .inr (s, tt19)))))
theorem L_c_firstClear64_3 {S : am_S} {d u : Nat} {Q : AO → AH → Prop} {w : AH} {hb sp rb rs : Nat} {po ro : AV} (hl : 109 ≤ w.length) (hp : hb = 1 ∧ sp = 21 ∨ hb = 21 ∧ sp = 1) (hr : rb = 41 ∧ rs = 46 ∨ rb = 46 ∧ rs = 41) (ee : am_F) (hh : am_F) (ss : am_F) (uu : am_F) (vv : am_F) (pp : am_F) (kk : am_F) (rr : am_F) (gg : am_F) (aa : am_F) (dd : am_F) (bd : am_F) (ga : am_F) (im : am_F) (k : Int) (ah : Int) (hI : HbI hh) (hah : ah ≤ 40)  (hd : 6 ≤ d) : ∀ (n : Nat) (s : Int) (tt : am_F), 40 - s < n → (RnI tt ∧ (tt 0 0).toNat = hb) ∧ 0 ≤ s ∧ s ≤ 40 → (∀ (rv' : Int) (tt' : am_F), rv' = (am_wr (w_c_firstClear64_3 hh k ah) (0, (fun _ _ => 0)) n (s, tt)).1 → tt' = (am_wr (w_c_firstClear64_3 hh k ah) (0, (fun _ _ => 0)) n (s, tt)).2 → Q (.inl (some (aI rv'))) (hfW w hb sp rb rs hb po ro ee hh ss uu vv pp kk rr tt' gg aa dd bd ga im)) → am_T S zX11_firstClear d u Q 3 [none, some (aR 64), some (aI k), some (aI ah), some (aI s)] [] (hfW w hb sp rb rs hb po ro ee hh ss uu vv pp kk rr tt gg aa dd bd ga im) := by
  intro n
  induction n with
  | zero =>
    intro s tt hm9 hinv k9
    obtain ⟨vh1, vh2, vh3, vh4, vh5, vh6, vh7, vh8, vh9, vh10, vh11, vh12, vh13, vh14, vh15, vh16, vh17, vh18, vh19, vh20, vh21, vh22⟩ := (HbI_A hI).1
    have hTI := hinv.1.1
    have htb := hinv.1.2
    exfalso; omega
  | succ n ih =>
    intro s tt hm9 hinv k9
    obtain ⟨vh1, vh2, vh3, vh4, vh5, vh6, vh7, vh8, vh9, vh10, vh11, vh12, vh13, vh14, vh15, vh16, vh17, vh18, vh19, vh20, vh21, vh22⟩ := (HbI_A hI).1
    have hTI := hinv.1.1
    have htb := hinv.1.2
    refine T_iload (am_dec tX11_firstClear_0 2 rfl) rfl ?_
    refine T_iload_n (am_dec tX11_firstClear_0 3 rfl) rfl ?_
    refine T_icmp_ge 41 (am_dec tX11_firstClear_0 4 rfl) rfl (fun h6 => ?_) (fun h6 => ?_)
    · refine T_iconst (-1) (am_dec tX11_firstClear_0 20 rfl) rfl ⟨by decide, by decide⟩ ?_
      exact T_ireturn (am_dec tX11_firstClear_0 21 rfl) rfl (by have e9 : (w_c_firstClear64_3 hh k ah) (s, tt) = .inr ((-1), tt) := (if_pos h6); simp only [am_wr_r e9] at k9; exact k9 _ _ rfl rfl)
    · refine T_iload (am_dec tX11_firstClear_0 5 rfl) rfl ?_
      refine T_bipush 40 (am_dec tX11_firstClear_0 6 rfl) rfl ⟨by decide, by decide⟩ ?_
      refine T_icmp_ge 41 (am_dec tX11_firstClear_0 7 rfl) rfl (fun h13 => by exfalso; omega) (fun h13 => ?_)
      refine T_aload_n (am_dec tX11_firstClear_0 8 rfl) rfl ?_
      refine T_iload (am_dec tX11_firstClear_0 9 rfl) rfl ?_
      refine T_callV (as := [aI s]) rfl (am_dec tX11_firstClear_0 10 rfl) lkX11_177 (show (hfW w hb sp rb rs hb po ro ee hh ss uu vv pp kk rr tt gg aa dd bd ga im)[64]? = some (cO 8 [aR ((tt 0 0).toNat), aI (tt 0 1), aI (tt 0 2), aI (tt 0 3), aI (tt 0 4), aI (tt 0 5), aR 65, aR 66, aR 67, aR 68, aR 69, aR 70, aR 71, aR 72, aR 73]) from (hfW_c hl 64 (by decide))) rfl rfl (Nat.le_of_ble_eq_true rfl) (by omega) (am_OutE (m_upTo (d := d - 1) (w := hfW w hb sp rb rs hb po ro ee hh ss uu vv pp kk rr tt gg aa dd bd ga im) (hf_le hl (by omega)) (by omega) (hf_H hl hp) (HbI_A hI) s hTI.1 hTI.2.1 hTI.2.2 (by omega)) (hf_uT htb) (hf_uT (f_upTo_tb hTI.1 htb s))) (fun _ => ?_)
      refine T_nmH (W := fun x9 => hfW w hb sp rb rs hb po ro ee hh ss uu vv pp kk rr x9 gg aa dd bd ga im) (v := f_upTo hh tt s) (fun tt19 htt19 => ?_)
      have hItt19 : RnI tt19 := by rw [htt19]; exact f_upTo_I (HbI_A hI) hTI
      have hTtt19 : (tt19 0 0).toNat = hb := by rw [htt19]; exact f_upTo_tb hTI.1 htb s
      refine T_aload_n (am_dec tX11_firstClear_0 11 rfl) rfl ?_
      refine T_iload_n (am_dec tX11_firstClear_0 12 rfl) rfl ?_
      refine T_iload (am_dec tX11_firstClear_0 13 rfl) rfl ?_
      refine T_callV (as := [aI k, aI s]) rfl (am_dec tX11_firstClear_0 14 rfl) lkX11_385 (show (hfW w hb sp rb rs hb po ro ee hh ss uu vv pp kk rr tt19 gg aa dd bd ga im)[64]? = some (cO 8 [aR ((tt19 0 0).toNat), aI (tt19 0 1), aI (tt19 0 2), aI (tt19 0 3), aI (tt19 0 4), aI (tt19 0 5), aR 65, aR 66, aR 67, aR 68, aR 69, aR 70, aR 71, aR 72, aR 73]) from (hfW_c hl 64 (by decide))) rfl rfl (Nat.le_of_ble_eq_true rfl) (by omega) (m_letsIn (d := d - 1) (hf_TH hl hTtt19) (hf_H hl hp) (HbI_A hI).1 hItt19.2.1 (by omega) k s (HbI_Sh hI)) (fun _ => ?_)
      refine T_nm (fun z26 hz26 => ?_)
      have hb26 := f_letsIn_b tt19 hh k s
      rw [← hz26] at hb26
      refine T_if_eq 35 (am_dec tX11_firstClear_0 15 rfl) rfl (fun h29 => ?_) (fun h29 => ?_)
      · refine T_iinc (ls' := [none, some (aR 64), some (aI k), some (aI ah), some (aI (s + 1))]) (s + 1) (am_dec tX11_firstClear_0 18 rfl) rfl rfl ⟨by omega, by omega⟩ (by decide) rfl ?_
        refine T_goto 3 (am_dec tX11_firstClear_0 19 rfl) rfl ?_
        have e9 : (w_c_firstClear64_3 hh k ah) (s, tt) = .inl (s + 1, tt19) := (by have s9 := htt19.symm; subst s9; have s9 := hz26.symm; subst s9; exact ((if_neg h6).trans (if_pos h29)))
        simp only [am_wr_l e9] at k9
        exact ih (s + 1) tt19 (by omega) ⟨⟨hItt19, hTtt19⟩, by omega, by omega⟩ k9
      · refine T_iload (am_dec tX11_firstClear_0 16 rfl) rfl ?_
        exact T_ireturn (am_dec tX11_firstClear_0 17 rfl) rfl (by have e9 : (w_c_firstClear64_3 hh k ah) (s, tt) = .inr (s, tt19) := (by have s9 := htt19.symm; subst s9; have s9 := hz26.symm; subst s9; exact ((if_neg h6).trans (if_neg h29))); simp only [am_wr_r e9] at k9; exact k9 _ _ rfl rfl)
def c_firstClear64 (hh : am_F) (tt : am_F) (k : Int) (ah : Int) : Int × am_F := (let rv_3 : Int := (am_wr (w_c_firstClear64_3 hh k ah) (0, (fun _ _ => 0)) 41 (0, tt)).1; (let tt3 : am_F := (am_wr (w_c_firstClear64_3 hh k ah) (0, (fun _ _ => 0)) 41 (0, tt)).2; (rv_3, tt3)))
theorem mc_firstClear64 {S : am_S} {d u : Nat} {w : AH} {hb sp rb rs : Nat} {po ro : AV} (hl : 109 ≤ w.length) (hp : hb = 1 ∧ sp = 21 ∨ hb = 21 ∧ sp = 1) (hr : rb = 41 ∧ rs = 46 ∨ rb = 46 ∧ rs = 41) {ee : am_F} {hh : am_F} {ss : am_F} {uu : am_F} {vv : am_F} {pp : am_F} {kk : am_F} {rr : am_F} {tt : am_F} {gg : am_F} {aa : am_F} {dd : am_F} {bd : am_F} {ga : am_F} {im : am_F} (k : Int) (ah : Int) (hI : HbI hh) (hTI : RnI tt) (htb : (tt 0 0).toNat = hb) (hah : ah ≤ 40)  (hd : 6 ≤ d) : am_Out S zX11_firstClear d u [aR 0, aR 64, aI k, aI ah] (hfW w hb sp rb rs hb po ro ee hh ss uu vv pp kk rr tt gg aa dd bd ga im) (.inl (some (aI ((c_firstClear64 hh tt k ah).1)))) (hfW w hb sp rb rs hb po ro ee hh ss uu vv pp kk rr ((c_firstClear64 hh tt k ah).2) gg aa dd bd ga im) := by
  have key : ∀ Q : AO → AH → Prop, Q (.inl (some (aI ((c_firstClear64 hh tt k ah).1)))) (hfW w hb sp rb rs hb po ro ee hh ss uu vv pp kk rr ((c_firstClear64 hh tt k ah).2) gg aa dd bd ga im) → am_M S zX11_firstClear d u [aR 0, aR 64, aI k, aI ah] (hfW w hb sp rb rs hb po ro ee hh ss uu vv pp kk rr tt gg aa dd bd ga im) Q := by
    intro Q hQ
    refine am_body rfl (by decide +kernel) rfl (am_cats_cons rfl ( am_cats_cons rfl ( am_cats_cons rfl ( am_cats_cons rfl (am_cats_nil))))) (Nat.le_of_ble_eq_true rfl) (?_ : am_T _ _ _ _ _ 0 [some (aR 0), some (aR 64), some (aI k), some (aI ah), none] [] (hfW w hb sp rb rs hb po ro ee hh ss uu vv pp kk rr tt gg aa dd bd ga im))
    obtain ⟨vh1, vh2, vh3, vh4, vh5, vh6, vh7, vh8, vh9, vh10, vh11, vh12, vh13, vh14, vh15, vh16, vh17, vh18, vh19, vh20, vh21, vh22⟩ := (HbI_A hI).1
    refine T_iconst 0 (am_dec tX11_firstClear_0 0 rfl) rfl ⟨by decide, by decide⟩ ?_
    refine T_istore (ls' := [some (aR 0), some (aR 64), some (aI k), some (aI ah), some (aI 0)]) (am_dec tX11_firstClear_0 1 rfl) (by decide) rfl ?_
    refine T_weak (ls' := [none, some (aR 64), some (aI k), some (aI ah), some (aI 0)]) (am_sub_n (am_sub_s (am_sub_s (am_sub_s (am_sub_s am_sub_nil))))) ?_
    refine L_c_firstClear64_3 hl hp hr ee hh ss uu vv pp kk rr gg aa dd bd ga im k ah hI (by omega)  (by omega) 41 0 tt (by omega) ⟨⟨hTI, htb⟩, by omega, by omega⟩ (fun rv_3 tt3 hrv_3 htt3 => ?_)
    exact (am_tr (fun (x9 : Int × am_F) => Q (.inl (some (aI (x9.1)))) (hfW w hb sp rb rs hb po ro ee hh ss uu vv pp kk rr x9.2 gg aa dd bd ga im)) (y := (rv_3, tt3)) (show (c_firstClear64 hh tt k ah) = (rv_3, tt3) from (by have s9 := hrv_3.symm; subst s9; have s9 := htt3.symm; subst s9; exact rfl)) hQ)
  exact key _ ⟨rfl, rfl⟩
def c_ship (ee : am_F) (hh : am_F) (rr : am_F) (k : Int) : Int × Int × am_F × am_F := (if n_row (hh 0 10) k = 0 then (let u20 : Int × am_F := c_firstClear54 hh rr k 40; (0, ((u20).1), ee, (u20).2)) else ((n_row (hh 0 10) k), 0, n_ref ee (n_row (hh 0 10) k), rr))
theorem mc_ship {S : am_S} {d u : Nat} {w : AH} {hb sp rb rs : Nat} {po ro : AV} (hl : 109 ≤ w.length) (hp : hb = 1 ∧ sp = 21 ∨ hb = 21 ∧ sp = 1) (hr : rb = 41 ∧ rs = 46 ∨ rb = 46 ∧ rs = 41) {ee : am_F} {hh : am_F} {ss : am_F} {uu : am_F} {vv : am_F} {pp : am_F} {kk : am_F} {rr : am_F} {tt : am_F} {gg : am_F} {aa : am_F} {dd : am_F} {bd : am_F} {ga : am_F} {im : am_F} (k : Int) (hI : HbI hh) (hRI : RnI rr) (hu : 1 ≤ u) (hd : 7 ≤ d) : am_Out S zX11_ship d u [aR 0, aI k] (hfW w hb sp rb rs hb po ro ee hh ss uu vv pp kk rr tt gg aa dd bd ga im) (am_oc ((c_ship ee hh rr k).1) ((c_ship ee hh rr k).2.1)) (hfW w hb sp rb rs hb po ro ((c_ship ee hh rr k).2.2.1) hh ss uu vv pp kk ((c_ship ee hh rr k).2.2.2) tt gg aa dd bd ga im) := by
  have key : ∀ Q : AO → AH → Prop, Q (am_oc ((c_ship ee hh rr k).1) ((c_ship ee hh rr k).2.1)) (hfW w hb sp rb rs hb po ro ((c_ship ee hh rr k).2.2.1) hh ss uu vv pp kk ((c_ship ee hh rr k).2.2.2) tt gg aa dd bd ga im) → am_M S zX11_ship d u [aR 0, aI k] (hfW w hb sp rb rs hb po ro ee hh ss uu vv pp kk rr tt gg aa dd bd ga im) Q := by
    intro Q hQ
    refine am_body rfl (by decide +kernel) rfl (am_cats_cons rfl ( am_cats_cons rfl (am_cats_nil))) (Nat.le_of_ble_eq_true rfl) (?_ : am_T _ _ _ _ _ 0 [some (aR 0), some (aI k)] [] (hfW w hb sp rb rs hb po ro ee hh ss uu vv pp kk rr tt gg aa dd bd ga im))
    obtain ⟨vh1, vh2, vh3, vh4, vh5, vh6, vh7, vh8, vh9, vh10, vh11, vh12, vh13, vh14, vh15, vh16, vh17, vh18, vh19, vh20, vh21, vh22⟩ := (HbI_A hI).1
    refine T_aload_n (am_dec tX11_ship_0 0 rfl) rfl ?_
    refine T_aload_n (am_dec tX11_ship_0 1 rfl) rfl ?_
    refine T_getfield 10 0 (am_dec tX11_ship_0 2 rfl) flX11_10_10 (show (hfW w hb sp rb rs hb po ro ee hh ss uu vv pp kk rr tt gg aa dd bd ga im)[0]? = some (cO 10 [aR hb, aR sp, aR rb, aR rs, aR 52, aR 53, aR 51, aI (ee 0 7), aI (ee 0 8), aR 54, aR 64, aR 74, aR 77, aR 83, aR 84, aR 86, aR 88, aI (ee 0 17), aR 107, aR 108]) from (hfW_c hl 0 (by decide))) rfl ?_
    refine T_getfield 3 10 (am_dec tX11_ship_0 3 rfl) flX11_167_3 (show (hfW w hb sp rb rs hb po ro ee hh ss uu vv pp kk rr tt gg aa dd bd ga im)[hb]? = some (cO 3 [aI (hh 0 0), aI (hh 0 1), aI (hh 0 2), aR (hb + 1), aR (hb + 3), aR (hb + 5), aR (hb + 7), aR (hb + 9), aR (hb + 11), aR (hb + 13), aR (hb + 15), aR (hb + 17), aR (hb + 18), aR (hb + 19)]) from ((hf_H hl hp) 0 (by decide))) rfl ?_
    refine T_iload_n (am_dec tX11_ship_0 4 rfl) rfl ?_
    refine T_callVo (as := [aR (hb + 15), aI k]) (code := n_row (hh 0 10) k) rfl (am_dec tX11_ship_0 5 rfl) lkX11_190 (show (hfW w hb sp rb rs hb po ro ee hh ss uu vv pp kk rr tt gg aa dd bd ga im)[0]? = some (cO 10 [aR hb, aR sp, aR rb, aR rs, aR 52, aR 53, aR 51, aI (ee 0 7), aI (ee 0 8), aR 54, aR 64, aR 74, aR 77, aR 83, aR 84, aR 86, aR 88, aI (ee 0 17), aR 107, aR 108]) from (hfW_c hl 0 (by decide))) rfl rfl (Nat.le_of_ble_eq_true rfl) (by omega) (by omega) (fun hN9 => (mx_row0 (d := d - 1) hl hp hr k (show (hfW w hb sp rb rs hb po ro ee hh ss uu vv pp kk rr tt gg aa dd bd ga im)[hb + 15]? = some (cO 9 [aI 4, aR (hb + 16), aI (hh 0 10)]) from ((hf_H hl hp) 15 (by decide))) (show (hfW w hb sp rb rs hb po ro ee hh ss uu vv pp kk rr tt gg aa dd bd ga im)[hb + 16]? = some (cP 0 48 (hh 8)) from ((hf_H hl hp) 16 (by decide))) (by omega) hN9 (by omega))) (fun hN9 => (x_rowX (d := d - 1) hl hp hr k (show (hfW w hb sp rb rs hb po ro ee hh ss uu vv pp kk rr tt gg aa dd bd ga im)[hb + 15]? = some (cO 9 [aI 4, aR (hb + 16), aI (hh 0 10)]) from ((hf_H hl hp) 15 (by decide))) (show (hfW w hb sp rb rs hb po ro ee hh ss uu vv pp kk rr tt gg aa dd bd ga im)[hb + 16]? = some (cP 0 48 (hh 8)) from ((hf_H hl hp) 16 (by decide))) (by omega) hN9 (by omega) (by omega))) (fun hN9 => ?_) (fun hN9 => ?_)
    · exact (am_tr (fun (x9 : Int × Int × am_F × am_F) => Q (am_oc (x9.1) (x9.2.1)) (hfW w hb sp rb rs hb po ro x9.2.2.1 hh ss uu vv pp kk x9.2.2.2 tt gg aa dd bd ga im)) (y := ((n_row (hh 0 10) k), 0, n_ref ee (n_row (hh 0 10) k), rr)) (show (c_ship ee hh rr k) = ((n_row (hh 0 10) k), 0, n_ref ee (n_row (hh 0 10) k), rr) from (if_neg hN9)) hQ)
    have hk9 := n_row_0 hN9
    refine T_aload_n (am_dec tX11_ship_0 6 rfl) rfl ?_
    refine T_aload_n (am_dec tX11_ship_0 7 rfl) rfl ?_
    refine T_getfield 10 9 (am_dec tX11_ship_0 8 rfl) flX11_58_10 (show (hfW w hb sp rb rs hb po ro ee hh ss uu vv pp kk rr tt gg aa dd bd ga im)[0]? = some (cO 10 [aR hb, aR sp, aR rb, aR rs, aR 52, aR 53, aR 51, aI (ee 0 7), aI (ee 0 8), aR 54, aR 64, aR 74, aR 77, aR 83, aR 84, aR 86, aR 88, aI (ee 0 17), aR 107, aR 108]) from (hfW_c hl 0 (by decide))) rfl ?_
    refine T_iload_n (am_dec tX11_ship_0 9 rfl) rfl ?_
    refine T_bipush 40 (am_dec tX11_ship_0 10 rfl) rfl ⟨by decide, by decide⟩ ?_
    refine T_callV (as := [aR 54, aI k, aI 40]) rfl (am_dec tX11_ship_0 11 rfl) lkX11_382 (show (hfW w hb sp rb rs hb po ro ee hh ss uu vv pp kk rr tt gg aa dd bd ga im)[0]? = some (cO 10 [aR hb, aR sp, aR rb, aR rs, aR 52, aR 53, aR 51, aI (ee 0 7), aI (ee 0 8), aR 54, aR 64, aR 74, aR 77, aR 83, aR 84, aR 86, aR 88, aI (ee 0 17), aR 107, aR 108]) from (hfW_c hl 0 (by decide))) rfl rfl (Nat.le_of_ble_eq_true rfl) (by omega) (mc_firstClear54 (d := d - 1) hl hp hr k 40  hI hRI (by omega) (by omega)) (fun _ => ?_)
    obtain ⟨u20, hu20⟩ : ∃ x9, x9 = c_firstClear54 hh rr k 40 := ⟨_, rfl⟩
    rw [← hu20]
    exact T_ireturn (am_dec tX11_ship_0 12 rfl) rfl (am_tr (fun (x9 : Int × Int × am_F × am_F) => Q (am_oc (x9.1) (x9.2.1)) (hfW w hb sp rb rs hb po ro x9.2.2.1 hh ss uu vv pp kk x9.2.2.2 tt gg aa dd bd ga im)) (y := (0, ((u20).1), ee, (u20).2)) (show (c_ship ee hh rr k) = (0, ((u20).1), ee, (u20).2) from (by have s9 := hu20.symm; subst s9; exact (if_pos hN9))) hQ)
  exact key _ ⟨rfl, rfl⟩
def w_c_start_36 (hh : am_F) (rr : am_F) (k : Int) (x9 : Int × Int × Int) : (Int × Int × Int) ⊕ (Int × Int × Int) := let bst : Int := x9.1; let lst : Int := x9.2.1; let s : Int := x9.2.2; (let v43 : Int := f_moves hh k; (if 40 ≤ s + v43 then .inr (bst, lst, s) else (let v59 : Int := f_least rr hh k s; (let bst_66 : Int := (if bst = (-1) then s else (if lst ≤ v59 then bst else s)); (let lst_66 : Int := (if bst = (-1) then v59 else (if lst ≤ v59 then lst else v59)); .inl (bst_66, lst_66, (s + 1)))))))
theorem L_c_start_36 {S : am_S} {d u : Nat} {Q : AO → AH → Prop} {w : AH} {hb sp rb rs : Nat} {po ro : AV} (hl : 109 ≤ w.length) (hp : hb = 1 ∧ sp = 21 ∨ hb = 21 ∧ sp = 1) (hr : rb = 41 ∧ rs = 46 ∨ rb = 46 ∧ rs = 41) (ee : am_F) (hh : am_F) (ss : am_F) (uu : am_F) (vv : am_F) (pp : am_F) (kk : am_F) (rr : am_F) (tt : am_F) (gg : am_F) (aa : am_F) (dd : am_F) (bd : am_F) (ga : am_F) (im : am_F) (k : Int) (what : Int) (hI : HbI hh) (hRI : RnI rr) (hkb : 0 ≤ k ∧ k < hh 0 8) (hd : 7 ≤ d) : ∀ (n : Nat) (bst : Int) (lst : Int) (s : Int), 40 - s < n → (-1 ≤ bst ∧ bst ≤ 40) ∧ 0 ≤ s ∧ s ≤ 40 → (∀ (bst' : Int) (lst' : Int) (s' : Int), bst' = (am_wh (w_c_start_36 hh rr k) n (bst, lst, s)).1 → lst' = (am_wh (w_c_start_36 hh rr k) n (bst, lst, s)).2.1 → s' = (am_wh (w_c_start_36 hh rr k) n (bst, lst, s)).2.2 → (-1 ≤ bst' ∧ bst' ≤ 40) ∧ 0 ≤ s' ∧ s' ≤ 40 → am_T S zX11_start d u Q 89 [none, none, some (aI what), some (aI bst'), some (aI lst'), none, none] [] (hfW w hb sp rb rs hb po ro ee hh ss uu vv pp kk rr tt gg aa dd bd ga im)) → am_T S zX11_start d u Q 36 [some (aR 0), some (aI k), some (aI what), some (aI bst), some (aI lst), some (aI s), none] [] (hfW w hb sp rb rs hb po ro ee hh ss uu vv pp kk rr tt gg aa dd bd ga im) := by
  intro n
  induction n with
  | zero =>
    intro bst lst s hm9 hinv k9
    obtain ⟨vh1, vh2, vh3, vh4, vh5, vh6, vh7, vh8, vh9, vh10, vh11, vh12, vh13, vh14, vh15, vh16, vh17, vh18, vh19, vh20, vh21, vh22⟩ := (HbI_A hI).1
    exfalso; omega
  | succ n ih =>
    intro bst lst s hm9 hinv k9
    obtain ⟨vh1, vh2, vh3, vh4, vh5, vh6, vh7, vh8, vh9, vh10, vh11, vh12, vh13, vh14, vh15, vh16, vh17, vh18, vh19, vh20, vh21, vh22⟩ := (HbI_A hI).1
    refine T_iload (am_dec tX11_start_0 21 rfl) rfl ?_
    refine T_aload_n (am_dec tX11_start_0 22 rfl) rfl ?_
    refine T_getfield 10 0 (am_dec tX11_start_0 23 rfl) flX11_10_10 (show (hfW w hb sp rb rs hb po ro ee hh ss uu vv pp kk rr tt gg aa dd bd ga im)[0]? = some (cO 10 [aR hb, aR sp, aR rb, aR rs, aR 52, aR 53, aR 51, aI (ee 0 7), aI (ee 0 8), aR 54, aR 64, aR 74, aR 77, aR 83, aR 84, aR 86, aR 88, aI (ee 0 17), aR 107, aR 108]) from (hfW_c hl 0 (by decide))) rfl ?_
    refine T_iload_n (am_dec tX11_start_0 24 rfl) rfl ?_
    refine T_callV (as := [aI k]) rfl (am_dec tX11_start_0 25 rfl) lkX11_278 (show (hfW w hb sp rb rs hb po ro ee hh ss uu vv pp kk rr tt gg aa dd bd ga im)[hb]? = some (cO 3 [aI (hh 0 0), aI (hh 0 1), aI (hh 0 2), aR (hb + 1), aR (hb + 3), aR (hb + 5), aR (hb + 7), aR (hb + 9), aR (hb + 11), aR (hb + 13), aR (hb + 15), aR (hb + 17), aR (hb + 18), aR (hb + 19)]) from ((hf_H hl hp) 0 (by decide))) rfl rfl (Nat.le_of_ble_eq_true rfl) (by omega) (m_movesOf (d := d - 1) (hf_H hl hp) (by omega) (by omega) k) (fun _ => ?_)
    refine T_nm (fun v43 hv43 => ?_)
    have hc43 := ((HbI_W hI) k).2
    rw [← hv43] at hc43
    refine T_iadd (s + v43) (am_dec tX11_start_0 26 rfl) rfl ⟨by omega, by omega⟩ ?_
    refine T_bipush 40 (am_dec tX11_start_0 27 rfl) rfl ⟨by decide, by decide⟩ ?_
    refine T_icmp_ge 89 (am_dec tX11_start_0 28 rfl) rfl (fun h49 => ?_) (fun h49 => ?_)
    · refine T_weak (ls' := [none, none, some (aI what), some (aI bst), some (aI lst), none, none]) (am_sub_n (am_sub_n (am_sub_s (am_sub_s (am_sub_s (am_sub_n (am_sub_n am_sub_nil))))))) ?_
      have e9 : (w_c_start_36 hh rr k) (bst, lst, s) = .inr (bst, lst, s) := (by have s9 := hv43.symm; subst s9; exact (if_pos h49))
      simp only [am_wh_r e9] at k9
      exact k9 _ _ _ rfl rfl rfl (by omega)
    · refine T_aload_n (am_dec tX11_start_0 29 rfl) rfl ?_
      refine T_getfield 10 9 (am_dec tX11_start_0 30 rfl) flX11_58_10 (show (hfW w hb sp rb rs hb po ro ee hh ss uu vv pp kk rr tt gg aa dd bd ga im)[0]? = some (cO 10 [aR hb, aR sp, aR rb, aR rs, aR 52, aR 53, aR 51, aI (ee 0 7), aI (ee 0 8), aR 54, aR 64, aR 74, aR 77, aR 83, aR 84, aR 86, aR 88, aI (ee 0 17), aR 107, aR 108]) from (hfW_c hl 0 (by decide))) rfl ?_
      refine T_iload_n (am_dec tX11_start_0 31 rfl) rfl ?_
      refine T_iload (am_dec tX11_start_0 32 rfl) rfl ?_
      refine T_callS (as := [aR 54, aI k, aI s]) rfl (am_dec tX11_start_0 33 rfl) lkX11_254 rfl (Nat.le_of_ble_eq_true rfl) (by omega) (m_least (d := d - 1) (hf_R hl) (hf_H hl hp) (HbI_A hI).1 hRI.2.1 (HbI_W hI) (HbI_Co hI) (HbI_Wt hI) k s (by omega) (fun i q1 q2 => HbI_P hI k i (by omega) (by omega) q1 q2) (by omega)) (fun _ => ?_)
      refine T_nm (fun v59 hv59 => ?_)
      obtain ⟨p59, q59⟩ := f_least_b rr hh k s (HbI_A hI).1 hRI.2.1
      rw [← hv59] at p59 q59
      refine T_istore (ls' := [some (aR 0), some (aI k), some (aI what), some (aI bst), some (aI lst), some (aI s), some (aI v59)]) (am_dec tX11_start_0 34 rfl) (by decide) rfl ?_
      refine T_iload_n (am_dec tX11_start_0 35 rfl) rfl ?_
      refine T_iconst (-1) (am_dec tX11_start_0 36 rfl) rfl ⟨by decide, by decide⟩ ?_
      have K66 : ∀ (bst_66 : Int), ∀ (lst_66 : Int), bst_66 = (if bst = (-1) then s else (if lst ≤ v59 then bst else s)) → lst_66 = (if bst = (-1) then v59 else (if lst ≤ v59 then lst else v59)) →  am_T S zX11_start d u Q 83 [some (aR 0), some (aI k), some (aI what), some (aI bst_66), some (aI lst_66), some (aI s), none] [] (hfW w hb sp rb rs hb po ro ee hh ss uu vv pp kk rr tt gg aa dd bd ga im) := by
        intro bst_66 lst_66 hbst_66 hlst_66 
        refine T_iinc (ls' := [some (aR 0), some (aI k), some (aI what), some (aI bst_66), some (aI lst_66), some (aI (s + 1)), none]) (s + 1) (am_dec tX11_start_1 5 rfl) rfl rfl ⟨by omega, by omega⟩ (by decide) rfl ?_
        refine T_goto 36 (am_dec tX11_start_1 6 rfl) rfl ?_
        have e9 : (w_c_start_36 hh rr k) (bst, lst, s) = .inl (bst_66, lst_66, s + 1) := (by have s9 := hv43.symm; subst s9; have s9 := hv59.symm; subst s9; have s9 := hbst_66.symm; subst s9; have s9 := hlst_66.symm; subst s9; exact (if_neg h49))
        simp only [am_wh_l e9] at k9
        exact ih bst_66 lst_66 (s + 1) (by omega) (by omega) k9
      refine T_icmp_eq 76 (am_dec tX11_start_0 37 rfl) rfl (fun h66 => ?_) (fun h66 => ?_)
      · refine T_iload (am_dec tX11_start_1 1 rfl) rfl ?_
        refine T_istore_n (ls' := [some (aR 0), some (aI k), some (aI what), some (aI s), some (aI lst), some (aI s), some (aI v59)]) (am_dec tX11_start_1 2 rfl) (by decide) rfl ?_
        refine T_iload (am_dec tX11_start_1 3 rfl) rfl ?_
        refine T_istore (ls' := [some (aR 0), some (aI k), some (aI what), some (aI s), some (aI v59), some (aI s), some (aI v59)]) (am_dec tX11_start_1 4 rfl) (by decide) rfl ?_
        refine T_weak (ls' := [some (aR 0), some (aI k), some (aI what), some (aI s), some (aI v59), some (aI s), none]) (am_sub_s (am_sub_s (am_sub_s (am_sub_s (am_sub_s (am_sub_s (am_sub_n am_sub_nil))))))) ?_
        exact K66 _ _ (if_pos h66).symm (if_pos h66).symm 
      · refine T_iload (am_dec tX11_start_0 38 rfl) rfl ?_
        refine T_iload (am_dec tX11_start_0 39 rfl) rfl ?_
        have K73 : ∀ (bst_73 : Int), ∀ (lst_73 : Int), bst_73 = (if lst ≤ v59 then bst else s) → lst_73 = (if lst ≤ v59 then lst else v59) →  am_T S zX11_start d u Q 83 [some (aR 0), some (aI k), some (aI what), some (aI bst_73), some (aI lst_73), some (aI s), none] [] (hfW w hb sp rb rs hb po ro ee hh ss uu vv pp kk rr tt gg aa dd bd ga im) := by
          intro bst_73 lst_73 hbst_73 hlst_73 
          exact K66 _ _ (by have s9 := hbst_73.symm; subst s9; have s9 := hlst_73.symm; subst s9; exact (if_neg h66).symm) (by have s9 := hbst_73.symm; subst s9; have s9 := hlst_73.symm; subst s9; exact (if_neg h66).symm) 
        refine T_icmp_ge 83 (am_dec tX11_start_1 0 rfl) rfl (fun h73 => ?_) (fun h73 => ?_)
        · refine T_weak (ls' := [some (aR 0), some (aI k), some (aI what), some (aI bst), some (aI lst), some (aI s), none]) (am_sub_s (am_sub_s (am_sub_s (am_sub_s (am_sub_s (am_sub_s (am_sub_n am_sub_nil))))))) ?_
          exact K73 _ _ (if_pos h73).symm (if_pos h73).symm 
        · refine T_iload (am_dec tX11_start_1 1 rfl) rfl ?_
          refine T_istore_n (ls' := [some (aR 0), some (aI k), some (aI what), some (aI s), some (aI lst), some (aI s), some (aI v59)]) (am_dec tX11_start_1 2 rfl) (by decide) rfl ?_
          refine T_iload (am_dec tX11_start_1 3 rfl) rfl ?_
          refine T_istore (ls' := [some (aR 0), some (aI k), some (aI what), some (aI s), some (aI v59), some (aI s), some (aI v59)]) (am_dec tX11_start_1 4 rfl) (by decide) rfl ?_
          refine T_weak (ls' := [some (aR 0), some (aI k), some (aI what), some (aI s), some (aI v59), some (aI s), none]) (am_sub_s (am_sub_s (am_sub_s (am_sub_s (am_sub_s (am_sub_s (am_sub_n am_sub_nil))))))) ?_
          exact K73 _ _ (if_neg h73).symm (if_neg h73).symm 
def c_start (ee : am_F) (hh : am_F) (rr : am_F) (k : Int) (what : Int) : Int × Int × am_F × am_F := (if n_row (hh 0 8) k = 0 then (if n_range what 0 1 = 0 then (let rr25 : am_F := f_upTo hh rr 39; (let bst_36 : Int := (am_wh (w_c_start_36 hh rr25 k) 41 ((-1), 0, 0)).1; (let lst_36 : Int := (am_wh (w_c_start_36 hh rr25 k) 41 ((-1), 0, 0)).2.1; (let t90 : Int := (if what = 0 then bst_36 else lst_36); (0, t90, ee, rr25))))) else ((n_range what 0 1), 0, n_ref ee (n_range what 0 1), rr)) else ((n_row (hh 0 8) k), 0, n_ref ee (n_row (hh 0 8) k), rr))
theorem mc_start {S : am_S} {d u : Nat} {w : AH} {hb sp rb rs : Nat} {po ro : AV} (hl : 109 ≤ w.length) (hp : hb = 1 ∧ sp = 21 ∨ hb = 21 ∧ sp = 1) (hr : rb = 41 ∧ rs = 46 ∨ rb = 46 ∧ rs = 41) {ee : am_F} {hh : am_F} {ss : am_F} {uu : am_F} {vv : am_F} {pp : am_F} {kk : am_F} {rr : am_F} {tt : am_F} {gg : am_F} {aa : am_F} {dd : am_F} {bd : am_F} {ga : am_F} {im : am_F} (k : Int) (what : Int) (hI : HbI hh) (hRI : RnI rr) (hu : 1 ≤ u) (hd : 7 ≤ d) : am_Out S zX11_start d u [aR 0, aI k, aI what] (hfW w hb sp rb rs hb po ro ee hh ss uu vv pp kk rr tt gg aa dd bd ga im) (am_oc ((c_start ee hh rr k what).1) ((c_start ee hh rr k what).2.1)) (hfW w hb sp rb rs hb po ro ((c_start ee hh rr k what).2.2.1) hh ss uu vv pp kk ((c_start ee hh rr k what).2.2.2) tt gg aa dd bd ga im) := by
  have key : ∀ Q : AO → AH → Prop, Q (am_oc ((c_start ee hh rr k what).1) ((c_start ee hh rr k what).2.1)) (hfW w hb sp rb rs hb po ro ((c_start ee hh rr k what).2.2.1) hh ss uu vv pp kk ((c_start ee hh rr k what).2.2.2) tt gg aa dd bd ga im) → am_M S zX11_start d u [aR 0, aI k, aI what] (hfW w hb sp rb rs hb po ro ee hh ss uu vv pp kk rr tt gg aa dd bd ga im) Q := by
    intro Q hQ
    refine am_body rfl (by decide +kernel) rfl (am_cats_cons rfl ( am_cats_cons rfl ( am_cats_cons rfl (am_cats_nil)))) (Nat.le_of_ble_eq_true rfl) (?_ : am_T _ _ _ _ _ 0 [some (aR 0), some (aI k), some (aI what), none, none, none, none] [] (hfW w hb sp rb rs hb po ro ee hh ss uu vv pp kk rr tt gg aa dd bd ga im))
    obtain ⟨vh1, vh2, vh3, vh4, vh5, vh6, vh7, vh8, vh9, vh10, vh11, vh12, vh13, vh14, vh15, vh16, vh17, vh18, vh19, vh20, vh21, vh22⟩ := (HbI_A hI).1
    refine T_aload_n (am_dec tX11_start_0 0 rfl) rfl ?_
    refine T_aload_n (am_dec tX11_start_0 1 rfl) rfl ?_
    refine T_getfield 10 0 (am_dec tX11_start_0 2 rfl) flX11_10_10 (show (hfW w hb sp rb rs hb po ro ee hh ss uu vv pp kk rr tt gg aa dd bd ga im)[0]? = some (cO 10 [aR hb, aR sp, aR rb, aR rs, aR 52, aR 53, aR 51, aI (ee 0 7), aI (ee 0 8), aR 54, aR 64, aR 74, aR 77, aR 83, aR 84, aR 86, aR 88, aI (ee 0 17), aR 107, aR 108]) from (hfW_c hl 0 (by decide))) rfl ?_
    refine T_getfield 3 8 (am_dec tX11_start_0 3 rfl) flX11_161_3 (show (hfW w hb sp rb rs hb po ro ee hh ss uu vv pp kk rr tt gg aa dd bd ga im)[hb]? = some (cO 3 [aI (hh 0 0), aI (hh 0 1), aI (hh 0 2), aR (hb + 1), aR (hb + 3), aR (hb + 5), aR (hb + 7), aR (hb + 9), aR (hb + 11), aR (hb + 13), aR (hb + 15), aR (hb + 17), aR (hb + 18), aR (hb + 19)]) from ((hf_H hl hp) 0 (by decide))) rfl ?_
    refine T_iload_n (am_dec tX11_start_0 4 rfl) rfl ?_
    refine T_callVo (as := [aR (hb + 11), aI k]) (code := n_row (hh 0 8) k) rfl (am_dec tX11_start_0 5 rfl) lkX11_190 (show (hfW w hb sp rb rs hb po ro ee hh ss uu vv pp kk rr tt gg aa dd bd ga im)[0]? = some (cO 10 [aR hb, aR sp, aR rb, aR rs, aR 52, aR 53, aR 51, aI (ee 0 7), aI (ee 0 8), aR 54, aR 64, aR 74, aR 77, aR 83, aR 84, aR 86, aR 88, aI (ee 0 17), aR 107, aR 108]) from (hfW_c hl 0 (by decide))) rfl rfl (Nat.le_of_ble_eq_true rfl) (by omega) (by omega) (fun hN9 => (mx_row0 (d := d - 1) hl hp hr k (show (hfW w hb sp rb rs hb po ro ee hh ss uu vv pp kk rr tt gg aa dd bd ga im)[hb + 11]? = some (cO 9 [aI 4, aR (hb + 12), aI (hh 0 8)]) from ((hf_H hl hp) 11 (by decide))) (show (hfW w hb sp rb rs hb po ro ee hh ss uu vv pp kk rr tt gg aa dd bd ga im)[hb + 12]? = some (cP 0 48 (hh 6)) from ((hf_H hl hp) 12 (by decide))) (by omega) hN9 (by omega))) (fun hN9 => (x_rowX (d := d - 1) hl hp hr k (show (hfW w hb sp rb rs hb po ro ee hh ss uu vv pp kk rr tt gg aa dd bd ga im)[hb + 11]? = some (cO 9 [aI 4, aR (hb + 12), aI (hh 0 8)]) from ((hf_H hl hp) 11 (by decide))) (show (hfW w hb sp rb rs hb po ro ee hh ss uu vv pp kk rr tt gg aa dd bd ga im)[hb + 12]? = some (cP 0 48 (hh 6)) from ((hf_H hl hp) 12 (by decide))) (by omega) hN9 (by omega) (by omega))) (fun hN9 => ?_) (fun hN9 => ?_)
    · exact (am_tr (fun (x9 : Int × Int × am_F × am_F) => Q (am_oc (x9.1) (x9.2.1)) (hfW w hb sp rb rs hb po ro x9.2.2.1 hh ss uu vv pp kk x9.2.2.2 tt gg aa dd bd ga im)) (y := ((n_row (hh 0 8) k), 0, n_ref ee (n_row (hh 0 8) k), rr)) (show (c_start ee hh rr k what) = ((n_row (hh 0 8) k), 0, n_ref ee (n_row (hh 0 8) k), rr) from (if_neg hN9)) hQ)
    have hk9 := n_row_0 hN9
    refine T_aload_n (am_dec tX11_start_0 6 rfl) rfl ?_
    refine T_iload_n (am_dec tX11_start_0 7 rfl) rfl ?_
    refine T_iconst 0 (am_dec tX11_start_0 8 rfl) rfl ⟨by decide, by decide⟩ ?_
    refine T_iconst 1 (am_dec tX11_start_0 9 rfl) rfl ⟨by decide, by decide⟩ ?_
    refine T_callVo (as := [aI what, aI 0, aI 1]) (code := n_range what 0 1) rfl (am_dec tX11_start_0 10 rfl) lkX11_117 (show (hfW w hb sp rb rs hb po ro ee hh ss uu vv pp kk rr tt gg aa dd bd ga im)[0]? = some (cO 10 [aR hb, aR sp, aR rb, aR rs, aR 52, aR 53, aR 51, aI (ee 0 7), aI (ee 0 8), aR 54, aR 64, aR 74, aR 77, aR 83, aR 84, aR 86, aR 88, aI (ee 0 17), aR 107, aR 108]) from (hfW_c hl 0 (by decide))) rfl rfl (Nat.le_of_ble_eq_true rfl) (by omega) (by omega) (fun hN16 => (mx_range0 (d := d - 1) hl hp hr what 0 1  hN16 (by omega))) (fun hN16 => (x_rangeX (d := d - 1) hl hp hr what 0 1  hN16 (by omega) (by omega))) (fun hN16 => ?_) (fun hN16 => ?_)
    · exact (am_tr (fun (x9 : Int × Int × am_F × am_F) => Q (am_oc (x9.1) (x9.2.1)) (hfW w hb sp rb rs hb po ro x9.2.2.1 hh ss uu vv pp kk x9.2.2.2 tt gg aa dd bd ga im)) (y := ((n_range what 0 1), 0, n_ref ee (n_range what 0 1), rr)) (show (c_start ee hh rr k what) = ((n_range what 0 1), 0, n_ref ee (n_range what 0 1), rr) from ((if_pos hN9).trans (if_neg hN16))) hQ)
    have hk16 := n_range_0 hN16
    refine T_aload_n (am_dec tX11_start_0 11 rfl) rfl ?_
    refine T_getfield 10 9 (am_dec tX11_start_0 12 rfl) flX11_58_10 (show (hfW w hb sp rb rs hb po ro ee hh ss uu vv pp kk rr tt gg aa dd bd ga im)[0]? = some (cO 10 [aR hb, aR sp, aR rb, aR rs, aR 52, aR 53, aR 51, aI (ee 0 7), aI (ee 0 8), aR 54, aR 64, aR 74, aR 77, aR 83, aR 84, aR 86, aR 88, aI (ee 0 17), aR 107, aR 108]) from (hfW_c hl 0 (by decide))) rfl ?_
    refine T_bipush 39 (am_dec tX11_start_0 13 rfl) rfl ⟨by decide, by decide⟩ ?_
    refine T_callV (as := [aI 39]) rfl (am_dec tX11_start_0 14 rfl) lkX11_177 (show (hfW w hb sp rb rs hb po ro ee hh ss uu vv pp kk rr tt gg aa dd bd ga im)[54]? = some (cO 8 [aR hb, aI (rr 0 1), aI (rr 0 2), aI (rr 0 3), aI (rr 0 4), aI (rr 0 5), aR 55, aR 56, aR 57, aR 58, aR 59, aR 60, aR 61, aR 62, aR 63]) from (hfW_c hl 54 (by decide))) rfl rfl (Nat.le_of_ble_eq_true rfl) (by omega) (am_OutE (m_upTo (d := d - 1) (w := hfW w hb sp rb rs hb po ro ee hh ss uu vv pp kk rr tt gg aa dd bd ga im) (hf_le hl (by omega)) (by omega) (hf_H hl hp) (HbI_A hI) 39 hRI.1 hRI.2.1 hRI.2.2 (by omega)) hf_uR hf_uR) (fun _ => ?_)
    refine T_nmH (W := fun x9 => hfW w hb sp rb rs hb po ro ee hh ss uu vv pp kk x9 tt gg aa dd bd ga im) (v := f_upTo hh rr 39) (fun rr25 hrr25 => ?_)
    have hIrr25 : RnI rr25 := by rw [hrr25]; exact f_upTo_I (HbI_A hI) hRI
    refine T_iconst (-1) (am_dec tX11_start_0 15 rfl) rfl ⟨by decide, by decide⟩ ?_
    refine T_istore_n (ls' := [some (aR 0), some (aI k), some (aI what), some (aI (-1)), none, none, none]) (am_dec tX11_start_0 16 rfl) (by decide) rfl ?_
    refine T_iconst 0 (am_dec tX11_start_0 17 rfl) rfl ⟨by decide, by decide⟩ ?_
    refine T_istore (ls' := [some (aR 0), some (aI k), some (aI what), some (aI (-1)), some (aI 0), none, none]) (am_dec tX11_start_0 18 rfl) (by decide) rfl ?_
    refine T_iconst 0 (am_dec tX11_start_0 19 rfl) rfl ⟨by decide, by decide⟩ ?_
    refine T_istore (ls' := [some (aR 0), some (aI k), some (aI what), some (aI (-1)), some (aI 0), some (aI 0), none]) (am_dec tX11_start_0 20 rfl) (by decide) rfl ?_
    refine L_c_start_36 hl hp hr ee hh ss uu vv pp kk rr25 tt gg aa dd bd ga im k what hI hIrr25 (by omega) (by omega) 41 (-1) 0 0 (by omega) (by omega) (fun bst_36 lst_36 s_36 hbst_36 hlst_36 hs_36 hv36 => ?_)
    refine T_iload_n (am_dec tX11_start_1 7 rfl) rfl ?_
    have K90 : ∀ (t90 : Int), t90 = (if what = 0 then bst_36 else lst_36) →  am_T S zX11_start d u Q 99 [none, none, none, none, none, none, none] [aI t90] (hfW w hb sp rb rs hb po ro ee hh ss uu vv pp kk rr25 tt gg aa dd bd ga im) := by
      intro t90 ht90 
      exact T_ireturn (am_dec tX11_start_1 12 rfl) rfl (am_tr (fun (x9 : Int × Int × am_F × am_F) => Q (am_oc (x9.1) (x9.2.1)) (hfW w hb sp rb rs hb po ro x9.2.2.1 hh ss uu vv pp kk x9.2.2.2 tt gg aa dd bd ga im)) (y := (0, t90, ee, rr25)) (show (c_start ee hh rr k what) = (0, t90, ee, rr25) from (by have s9 := hrr25.symm; subst s9; have s9 := hbst_36.symm; subst s9; have s9 := hlst_36.symm; subst s9; have s9 := hs_36.symm; subst s9; have s9 := ht90.symm; subst s9; exact ((if_pos hN9).trans (if_pos hN16)))) hQ)
    refine T_if_ne 97 (am_dec tX11_start_1 8 rfl) rfl (fun h90 => ?_) (fun h90 => ?_)
    · refine T_iload (am_dec tX11_start_1 11 rfl) rfl ?_
      refine T_weak (ls' := [none, none, none, none, none, none, none]) (am_sub_n (am_sub_n (am_sub_n (am_sub_n (am_sub_n (am_sub_n (am_sub_n am_sub_nil))))))) ?_
      exact K90 _ (if_neg h90).symm 
    · refine T_iload_n (am_dec tX11_start_1 9 rfl) rfl ?_
      refine T_goto 99 (am_dec tX11_start_1 10 rfl) rfl ?_
      refine T_weak (ls' := [none, none, none, none, none, none, none]) (am_sub_n (am_sub_n (am_sub_n (am_sub_n (am_sub_n (am_sub_n (am_sub_n am_sub_nil))))))) ?_
      exact K90 _ (if_pos h90).symm 
  exact key _ ⟨rfl, rfl⟩
def c_doubt (hb : Nat) (ee : am_F) (hh : am_F) (tt : am_F) (x : Int) (y : Int) (st : Int) (sd : Int) (qq : Int) : Int × Int × am_F × am_F := (if n_cell hh x y = 0 then (if n_step st = 0 then (if n_range qq 0 8 = 0 then (let tt28 : am_F := f_beginT hb hh tt; (let tt39 : am_F := am_put (am_put tt28 0 2 sd) 0 3 qq; (let tt47 : am_F := f_upTo hh tt39 st; (let f61 : Int := f_fogOn tt47 (x + (10 * y)) st; (0, f61, ee, tt47))))) else ((n_range qq 0 8), 0, n_ref ee (n_range qq 0 8), tt)) else ((n_step st), 0, n_ref ee (n_step st), tt)) else ((n_cell hh x y), 0, n_ref ee (n_cell hh x y), tt))
theorem mc_doubt {S : am_S} {d u : Nat} {w : AH} {hb sp rb rs : Nat} {po ro : AV} (hl : 109 ≤ w.length) (hp : hb = 1 ∧ sp = 21 ∨ hb = 21 ∧ sp = 1) (hr : rb = 41 ∧ rs = 46 ∨ rb = 46 ∧ rs = 41) {ee : am_F} {hh : am_F} {ss : am_F} {uu : am_F} {vv : am_F} {pp : am_F} {kk : am_F} {rr : am_F} {tt : am_F} {gg : am_F} {aa : am_F} {dd : am_F} {bd : am_F} {ga : am_F} {im : am_F} (x : Int) (y : Int) (st : Int) (sd : Int) (qq : Int) (hI : HbI hh) (hTI : RnI tt) (hu : 1 ≤ u) (hd : 8 ≤ d) : am_Out S zX11_doubt d u [aR 0, aI x, aI y, aI st, aI sd, aI qq] (hfW w hb sp rb rs hb po ro ee hh ss uu vv pp kk rr tt gg aa dd bd ga im) (am_oc ((c_doubt hb ee hh tt x y st sd qq).1) ((c_doubt hb ee hh tt x y st sd qq).2.1)) (hfW w hb sp rb rs hb po ro ((c_doubt hb ee hh tt x y st sd qq).2.2.1) hh ss uu vv pp kk rr ((c_doubt hb ee hh tt x y st sd qq).2.2.2) gg aa dd bd ga im) := by
  have key : ∀ Q : AO → AH → Prop, Q (am_oc ((c_doubt hb ee hh tt x y st sd qq).1) ((c_doubt hb ee hh tt x y st sd qq).2.1)) (hfW w hb sp rb rs hb po ro ((c_doubt hb ee hh tt x y st sd qq).2.2.1) hh ss uu vv pp kk rr ((c_doubt hb ee hh tt x y st sd qq).2.2.2) gg aa dd bd ga im) → am_M S zX11_doubt d u [aR 0, aI x, aI y, aI st, aI sd, aI qq] (hfW w hb sp rb rs hb po ro ee hh ss uu vv pp kk rr tt gg aa dd bd ga im) Q := by
    intro Q hQ
    refine am_body rfl (by decide +kernel) rfl (am_cats_cons rfl ( am_cats_cons rfl ( am_cats_cons rfl ( am_cats_cons rfl ( am_cats_cons rfl ( am_cats_cons rfl (am_cats_nil))))))) (Nat.le_of_ble_eq_true rfl) (?_ : am_T _ _ _ _ _ 0 [some (aR 0), some (aI x), some (aI y), some (aI st), some (aI sd), some (aI qq)] [] (hfW w hb sp rb rs hb po ro ee hh ss uu vv pp kk rr tt gg aa dd bd ga im))
    obtain ⟨vh1, vh2, vh3, vh4, vh5, vh6, vh7, vh8, vh9, vh10, vh11, vh12, vh13, vh14, vh15, vh16, vh17, vh18, vh19, vh20, vh21, vh22⟩ := (HbI_A hI).1
    refine T_aload_n (am_dec tX11_doubt_0 0 rfl) rfl ?_
    refine T_iload_n (am_dec tX11_doubt_0 1 rfl) rfl ?_
    refine T_iload_n (am_dec tX11_doubt_0 2 rfl) rfl ?_
    refine T_callVo (as := [aI x, aI y]) (code := n_cell hh x y) rfl (am_dec tX11_doubt_0 3 rfl) lkX11_173 (show (hfW w hb sp rb rs hb po ro ee hh ss uu vv pp kk rr tt gg aa dd bd ga im)[0]? = some (cO 10 [aR hb, aR sp, aR rb, aR rs, aR 52, aR 53, aR 51, aI (ee 0 7), aI (ee 0 8), aR 54, aR 64, aR 74, aR 77, aR 83, aR 84, aR 86, aR 88, aI (ee 0 17), aR 107, aR 108]) from (hfW_c hl 0 (by decide))) rfl rfl (Nat.le_of_ble_eq_true rfl) (by omega) (by omega) (fun hN3 => (mx_cell0 (d := d - 1) hl hp hr x y  hN3 (by omega))) (fun hN3 => (x_cellX (d := d - 1) hl hp hr x y  hN3 (by omega) (by omega))) (fun hN3 => ?_) (fun hN3 => ?_)
    · exact (am_tr (fun (x9 : Int × Int × am_F × am_F) => Q (am_oc (x9.1) (x9.2.1)) (hfW w hb sp rb rs hb po ro x9.2.2.1 hh ss uu vv pp kk rr x9.2.2.2 gg aa dd bd ga im)) (y := ((n_cell hh x y), 0, n_ref ee (n_cell hh x y), tt)) (show (c_doubt hb ee hh tt x y st sd qq) = ((n_cell hh x y), 0, n_ref ee (n_cell hh x y), tt) from (if_neg hN3)) hQ)
    have hk3 := n_cell_0 hN3
    refine T_aload_n (am_dec tX11_doubt_0 4 rfl) rfl ?_
    refine T_iload_n (am_dec tX11_doubt_0 5 rfl) rfl ?_
    refine T_callVo (as := [aI st]) (code := n_step st) rfl (am_dec tX11_doubt_0 6 rfl) lkX11_194 (show (hfW w hb sp rb rs hb po ro ee hh ss uu vv pp kk rr tt gg aa dd bd ga im)[0]? = some (cO 10 [aR hb, aR sp, aR rb, aR rs, aR 52, aR 53, aR 51, aI (ee 0 7), aI (ee 0 8), aR 54, aR 64, aR 74, aR 77, aR 83, aR 84, aR 86, aR 88, aI (ee 0 17), aR 107, aR 108]) from (hfW_c hl 0 (by decide))) rfl rfl (Nat.le_of_ble_eq_true rfl) (by omega) (by omega) (fun hN8 => (mx_step0 (d := d - 1) hl hp hr st  hN8 (by omega))) (fun hN8 => (x_stepX (d := d - 1) hl hp hr st  hN8 (by omega) (by omega))) (fun hN8 => ?_) (fun hN8 => ?_)
    · exact (am_tr (fun (x9 : Int × Int × am_F × am_F) => Q (am_oc (x9.1) (x9.2.1)) (hfW w hb sp rb rs hb po ro x9.2.2.1 hh ss uu vv pp kk rr x9.2.2.2 gg aa dd bd ga im)) (y := ((n_step st), 0, n_ref ee (n_step st), tt)) (show (c_doubt hb ee hh tt x y st sd qq) = ((n_step st), 0, n_ref ee (n_step st), tt) from ((if_pos hN3).trans (if_neg hN8))) hQ)
    have hk8 := n_step_0 hN8
    refine T_aload_n (am_dec tX11_doubt_0 7 rfl) rfl ?_
    refine T_iload (am_dec tX11_doubt_0 8 rfl) rfl ?_
    refine T_iconst 0 (am_dec tX11_doubt_0 9 rfl) rfl ⟨by decide, by decide⟩ ?_
    refine T_bipush 8 (am_dec tX11_doubt_0 10 rfl) rfl ⟨by decide, by decide⟩ ?_
    refine T_callVo (as := [aI qq, aI 0, aI 8]) (code := n_range qq 0 8) rfl (am_dec tX11_doubt_0 11 rfl) lkX11_117 (show (hfW w hb sp rb rs hb po ro ee hh ss uu vv pp kk rr tt gg aa dd bd ga im)[0]? = some (cO 10 [aR hb, aR sp, aR rb, aR rs, aR 52, aR 53, aR 51, aI (ee 0 7), aI (ee 0 8), aR 54, aR 64, aR 74, aR 77, aR 83, aR 84, aR 86, aR 88, aI (ee 0 17), aR 107, aR 108]) from (hfW_c hl 0 (by decide))) rfl rfl (Nat.le_of_ble_eq_true rfl) (by omega) (by omega) (fun hN17 => (mx_range0 (d := d - 1) hl hp hr qq 0 8  hN17 (by omega))) (fun hN17 => (x_rangeX (d := d - 1) hl hp hr qq 0 8  hN17 (by omega) (by omega))) (fun hN17 => ?_) (fun hN17 => ?_)
    · exact (am_tr (fun (x9 : Int × Int × am_F × am_F) => Q (am_oc (x9.1) (x9.2.1)) (hfW w hb sp rb rs hb po ro x9.2.2.1 hh ss uu vv pp kk rr x9.2.2.2 gg aa dd bd ga im)) (y := ((n_range qq 0 8), 0, n_ref ee (n_range qq 0 8), tt)) (show (c_doubt hb ee hh tt x y st sd qq) = ((n_range qq 0 8), 0, n_ref ee (n_range qq 0 8), tt) from ((if_pos hN3).trans ((if_pos hN8).trans (if_neg hN17)))) hQ)
    have hk17 := n_range_0 hN17
    refine T_aload_n (am_dec tX11_doubt_0 12 rfl) rfl ?_
    refine T_getfield 10 10 (am_dec tX11_doubt_0 13 rfl) flX11_62_10 (show (hfW w hb sp rb rs hb po ro ee hh ss uu vv pp kk rr tt gg aa dd bd ga im)[0]? = some (cO 10 [aR hb, aR sp, aR rb, aR rs, aR 52, aR 53, aR 51, aI (ee 0 7), aI (ee 0 8), aR 54, aR 64, aR 74, aR 77, aR 83, aR 84, aR 86, aR 88, aI (ee 0 17), aR 107, aR 108]) from (hfW_c hl 0 (by decide))) rfl ?_
    refine T_aload_n (am_dec tX11_doubt_0 14 rfl) rfl ?_
    refine T_getfield 10 0 (am_dec tX11_doubt_0 15 rfl) flX11_10_10 (show (hfW w hb sp rb rs hb po ro ee hh ss uu vv pp kk rr tt gg aa dd bd ga im)[0]? = some (cO 10 [aR hb, aR sp, aR rb, aR rs, aR 52, aR 53, aR 51, aI (ee 0 7), aI (ee 0 8), aR 54, aR 64, aR 74, aR 77, aR 83, aR 84, aR 86, aR 88, aI (ee 0 17), aR 107, aR 108]) from (hfW_c hl 0 (by decide))) rfl ?_
    refine T_callV (as := [aR hb]) rfl (am_dec tX11_doubt_0 16 rfl) lkX11_207 (show (hfW w hb sp rb rs hb po ro ee hh ss uu vv pp kk rr tt gg aa dd bd ga im)[64]? = some (cO 8 [aR ((tt 0 0).toNat), aI (tt 0 1), aI (tt 0 2), aI (tt 0 3), aI (tt 0 4), aI (tt 0 5), aR 65, aR 66, aR 67, aR 68, aR 69, aR 70, aR 71, aR 72, aR 73]) from (hfW_c hl 64 (by decide))) rfl rfl (Nat.le_of_ble_eq_true rfl) (by omega) (am_OutE (m_begin (d := d - 1) (w := hfW w hb sp rb rs hb po ro ee hh ss uu vv pp kk rr tt gg aa dd bd ga im) (Rn_Rn0 (hf_T hl)) (by omega) (hf_H hl hp) (HbI_A hI).1 hTI.2.1 (HbI_Fs hI) (by omega)) rfl hf_uTb) (fun _ => ?_)
    refine T_nmH (W := fun x9 => hfW w hb sp rb rs hb po ro ee hh ss uu vv pp kk rr x9 gg aa dd bd ga im) (v := f_beginT hb hh tt) (fun tt28 htt28 => ?_)
    have hItt28 : RnI tt28 := by rw [htt28]; exact f_begin_I (HbI_Fs hI) hTI.2.1
    have hTtt28 : (tt28 0 0).toNat = hb := by rw [htt28]; rfl
    refine T_aload_n (am_dec tX11_doubt_0 17 rfl) rfl ?_
    refine T_getfield 10 10 (am_dec tX11_doubt_0 18 rfl) flX11_62_10 (show (hfW w hb sp rb rs hb po ro ee hh ss uu vv pp kk rr tt28 gg aa dd bd ga im)[0]? = some (cO 10 [aR hb, aR sp, aR rb, aR rs, aR 52, aR 53, aR 51, aI (ee 0 7), aI (ee 0 8), aR 54, aR 64, aR 74, aR 77, aR 83, aR 84, aR 86, aR 88, aI (ee 0 17), aR 107, aR 108]) from (hfW_c hl 0 (by decide))) rfl ?_
    refine T_iload (am_dec tX11_doubt_0 19 rfl) rfl ?_
    refine T_iload (am_dec tX11_doubt_0 20 rfl) rfl ?_
    refine T_callV (as := [aI sd, aI qq]) rfl (am_dec tX11_doubt_0 21 rfl) lkX11_209 (show (hfW w hb sp rb rs hb po ro ee hh ss uu vv pp kk rr tt28 gg aa dd bd ga im)[64]? = some (cO 8 [aR ((tt28 0 0).toNat), aI (tt28 0 1), aI (tt28 0 2), aI (tt28 0 3), aI (tt28 0 4), aI (tt28 0 5), aR 65, aR 66, aR 67, aR 68, aR 69, aR 70, aR 71, aR 72, aR 73]) from (hfW_c hl 64 (by decide))) rfl rfl (Nat.le_of_ble_eq_true rfl) (by omega) (am_OutE (m_inDoubt (d := d - 1) (w := hfW w hb sp rb rs hb po ro ee hh ss uu vv pp kk rr tt28 gg aa dd bd ga im) (hf_le hl (by omega)) sd qq) (hf_uT hTtt28) (hf_uT hTtt28)) (fun _ => ?_)
    refine T_nmH (W := fun x9 => hfW w hb sp rb rs hb po ro ee hh ss uu vv pp kk rr x9 gg aa dd bd ga im) (v := am_put (am_put tt28 0 2 sd) 0 3 qq) (fun tt39 htt39 => ?_)
    have hItt39 : RnI tt39 := by rw [htt39]; exact RnI_doubt hItt28
    have hTtt39 : (tt39 0 0).toNat = hb := by rw [htt39]; exact hTtt28
    refine T_aload_n (am_dec tX11_doubt_0 22 rfl) rfl ?_
    refine T_getfield 10 10 (am_dec tX11_doubt_0 23 rfl) flX11_62_10 (show (hfW w hb sp rb rs hb po ro ee hh ss uu vv pp kk rr tt39 gg aa dd bd ga im)[0]? = some (cO 10 [aR hb, aR sp, aR rb, aR rs, aR 52, aR 53, aR 51, aI (ee 0 7), aI (ee 0 8), aR 54, aR 64, aR 74, aR 77, aR 83, aR 84, aR 86, aR 88, aI (ee 0 17), aR 107, aR 108]) from (hfW_c hl 0 (by decide))) rfl ?_
    refine T_iload_n (am_dec tX11_doubt_0 24 rfl) rfl ?_
    refine T_callV (as := [aI st]) rfl (am_dec tX11_doubt_0 25 rfl) lkX11_177 (show (hfW w hb sp rb rs hb po ro ee hh ss uu vv pp kk rr tt39 gg aa dd bd ga im)[64]? = some (cO 8 [aR ((tt39 0 0).toNat), aI (tt39 0 1), aI (tt39 0 2), aI (tt39 0 3), aI (tt39 0 4), aI (tt39 0 5), aR 65, aR 66, aR 67, aR 68, aR 69, aR 70, aR 71, aR 72, aR 73]) from (hfW_c hl 64 (by decide))) rfl rfl (Nat.le_of_ble_eq_true rfl) (by omega) (am_OutE (m_upTo (d := d - 1) (w := hfW w hb sp rb rs hb po ro ee hh ss uu vv pp kk rr tt39 gg aa dd bd ga im) (hf_le hl (by omega)) (by omega) (hf_H hl hp) (HbI_A hI) st hItt39.1 hItt39.2.1 hItt39.2.2 (by omega)) (hf_uT hTtt39) (hf_uT (f_upTo_tb hItt39.1 hTtt39 st))) (fun _ => ?_)
    refine T_nmH (W := fun x9 => hfW w hb sp rb rs hb po ro ee hh ss uu vv pp kk rr x9 gg aa dd bd ga im) (v := f_upTo hh tt39 st) (fun tt47 htt47 => ?_)
    have hItt47 : RnI tt47 := by rw [htt47]; exact f_upTo_I (HbI_A hI) hItt39
    have hTtt47 : (tt47 0 0).toNat = hb := by rw [htt47]; exact f_upTo_tb hItt39.1 hTtt39 st
    refine T_aload_n (am_dec tX11_doubt_0 26 rfl) rfl ?_
    refine T_getfield 10 10 (am_dec tX11_doubt_0 27 rfl) flX11_62_10 (show (hfW w hb sp rb rs hb po ro ee hh ss uu vv pp kk rr tt47 gg aa dd bd ga im)[0]? = some (cO 10 [aR hb, aR sp, aR rb, aR rs, aR 52, aR 53, aR 51, aI (ee 0 7), aI (ee 0 8), aR 54, aR 64, aR 74, aR 77, aR 83, aR 84, aR 86, aR 88, aI (ee 0 17), aR 107, aR 108]) from (hfW_c hl 0 (by decide))) rfl ?_
    refine T_iload_n (am_dec tX11_doubt_0 28 rfl) rfl ?_
    refine T_bipush 10 (am_dec tX11_doubt_0 29 rfl) rfl ⟨by decide, by decide⟩ ?_
    refine T_iload_n (am_dec tX11_doubt_0 30 rfl) rfl ?_
    refine T_imul (10 * y) (am_dec tX11_doubt_0 31 rfl) rfl ⟨by omega, by omega⟩ ?_
    refine T_iadd (x + (10 * y)) (am_dec tX11_doubt_0 32 rfl) rfl ⟨by omega, by omega⟩ ?_
    refine T_iload_n (am_dec tX11_doubt_0 33 rfl) rfl ?_
    refine T_callV (as := [aI (x + (10 * y)), aI st]) rfl (am_dec tX11_doubt_0 34 rfl) lkX11_180 (show (hfW w hb sp rb rs hb po ro ee hh ss uu vv pp kk rr tt47 gg aa dd bd ga im)[64]? = some (cO 8 [aR ((tt47 0 0).toNat), aI (tt47 0 1), aI (tt47 0 2), aI (tt47 0 3), aI (tt47 0 4), aI (tt47 0 5), aR 65, aR 66, aR 67, aR 68, aR 69, aR 70, aR 71, aR 72, aR 73]) from (hfW_c hl 64 (by decide))) rfl rfl (Nat.le_of_ble_eq_true rfl) (by omega) (m_fogOn (d := d - 1) (hf_TH hl hTtt47) (by omega) (x + (10 * y)) st) (fun _ => ?_)
    refine T_nm (fun f61 hf61 => ?_)
    obtain ⟨p61, q61⟩ := f_fogOn_b hItt47.2.1 (x + (10 * y)) st
    rw [← hf61] at p61 q61
    exact T_ireturn (am_dec tX11_doubt_0 35 rfl) rfl (am_tr (fun (x9 : Int × Int × am_F × am_F) => Q (am_oc (x9.1) (x9.2.1)) (hfW w hb sp rb rs hb po ro x9.2.2.1 hh ss uu vv pp kk rr x9.2.2.2 gg aa dd bd ga im)) (y := (0, f61, ee, tt47)) (show (c_doubt hb ee hh tt x y st sd qq) = (0, f61, ee, tt47) from (by have s9 := htt28.symm; subst s9; have s9 := htt39.symm; subst s9; have s9 := htt47.symm; subst s9; have s9 := hf61.symm; subst s9; exact ((if_pos hN3).trans ((if_pos hN8).trans (if_pos hN17))))) hQ)
  exact key _ ⟨rfl, rfl⟩
def c_buy (ee : am_F) (hh : am_F) (rr : am_F) (k : Int) (what : Int) : Int × Int × am_F × am_F := (if n_row (hh 0 8) k = 0 then (if n_range what 0 1 = 0 then (let rr25 : am_F := f_upTo hh rr 39; (let v38 : Int := f_comes hh k; (let v41 : Int := f_least rr25 hh k v38; (let t46 : Int := (if what = 0 then v41 else (am_w32 (v41 * (c_floorsOn hh k)))); (0, t46, ee, rr25))))) else ((n_range what 0 1), 0, n_ref ee (n_range what 0 1), rr)) else ((n_row (hh 0 8) k), 0, n_ref ee (n_row (hh 0 8) k), rr))
theorem mc_buy {S : am_S} {d u : Nat} {w : AH} {hb sp rb rs : Nat} {po ro : AV} (hl : 109 ≤ w.length) (hp : hb = 1 ∧ sp = 21 ∨ hb = 21 ∧ sp = 1) (hr : rb = 41 ∧ rs = 46 ∨ rb = 46 ∧ rs = 41) {ee : am_F} {hh : am_F} {ss : am_F} {uu : am_F} {vv : am_F} {pp : am_F} {kk : am_F} {rr : am_F} {tt : am_F} {gg : am_F} {aa : am_F} {dd : am_F} {bd : am_F} {ga : am_F} {im : am_F} (k : Int) (what : Int) (hI : HbI hh) (hRI : RnI rr) (hu : 1 ≤ u) (hd : 7 ≤ d) : am_Out S zX11_buy d u [aR 0, aI k, aI what] (hfW w hb sp rb rs hb po ro ee hh ss uu vv pp kk rr tt gg aa dd bd ga im) (am_oc ((c_buy ee hh rr k what).1) ((c_buy ee hh rr k what).2.1)) (hfW w hb sp rb rs hb po ro ((c_buy ee hh rr k what).2.2.1) hh ss uu vv pp kk ((c_buy ee hh rr k what).2.2.2) tt gg aa dd bd ga im) := by
  have key : ∀ Q : AO → AH → Prop, Q (am_oc ((c_buy ee hh rr k what).1) ((c_buy ee hh rr k what).2.1)) (hfW w hb sp rb rs hb po ro ((c_buy ee hh rr k what).2.2.1) hh ss uu vv pp kk ((c_buy ee hh rr k what).2.2.2) tt gg aa dd bd ga im) → am_M S zX11_buy d u [aR 0, aI k, aI what] (hfW w hb sp rb rs hb po ro ee hh ss uu vv pp kk rr tt gg aa dd bd ga im) Q := by
    intro Q hQ
    refine am_body rfl (by decide +kernel) rfl (am_cats_cons rfl ( am_cats_cons rfl ( am_cats_cons rfl (am_cats_nil)))) (Nat.le_of_ble_eq_true rfl) (?_ : am_T _ _ _ _ _ 0 [some (aR 0), some (aI k), some (aI what), none] [] (hfW w hb sp rb rs hb po ro ee hh ss uu vv pp kk rr tt gg aa dd bd ga im))
    obtain ⟨vh1, vh2, vh3, vh4, vh5, vh6, vh7, vh8, vh9, vh10, vh11, vh12, vh13, vh14, vh15, vh16, vh17, vh18, vh19, vh20, vh21, vh22⟩ := (HbI_A hI).1
    refine T_aload_n (am_dec tX11_buy_0 0 rfl) rfl ?_
    refine T_aload_n (am_dec tX11_buy_0 1 rfl) rfl ?_
    refine T_getfield 10 0 (am_dec tX11_buy_0 2 rfl) flX11_10_10 (show (hfW w hb sp rb rs hb po ro ee hh ss uu vv pp kk rr tt gg aa dd bd ga im)[0]? = some (cO 10 [aR hb, aR sp, aR rb, aR rs, aR 52, aR 53, aR 51, aI (ee 0 7), aI (ee 0 8), aR 54, aR 64, aR 74, aR 77, aR 83, aR 84, aR 86, aR 88, aI (ee 0 17), aR 107, aR 108]) from (hfW_c hl 0 (by decide))) rfl ?_
    refine T_getfield 3 8 (am_dec tX11_buy_0 3 rfl) flX11_161_3 (show (hfW w hb sp rb rs hb po ro ee hh ss uu vv pp kk rr tt gg aa dd bd ga im)[hb]? = some (cO 3 [aI (hh 0 0), aI (hh 0 1), aI (hh 0 2), aR (hb + 1), aR (hb + 3), aR (hb + 5), aR (hb + 7), aR (hb + 9), aR (hb + 11), aR (hb + 13), aR (hb + 15), aR (hb + 17), aR (hb + 18), aR (hb + 19)]) from ((hf_H hl hp) 0 (by decide))) rfl ?_
    refine T_iload_n (am_dec tX11_buy_0 4 rfl) rfl ?_
    refine T_callVo (as := [aR (hb + 11), aI k]) (code := n_row (hh 0 8) k) rfl (am_dec tX11_buy_0 5 rfl) lkX11_190 (show (hfW w hb sp rb rs hb po ro ee hh ss uu vv pp kk rr tt gg aa dd bd ga im)[0]? = some (cO 10 [aR hb, aR sp, aR rb, aR rs, aR 52, aR 53, aR 51, aI (ee 0 7), aI (ee 0 8), aR 54, aR 64, aR 74, aR 77, aR 83, aR 84, aR 86, aR 88, aI (ee 0 17), aR 107, aR 108]) from (hfW_c hl 0 (by decide))) rfl rfl (Nat.le_of_ble_eq_true rfl) (by omega) (by omega) (fun hN9 => (mx_row0 (d := d - 1) hl hp hr k (show (hfW w hb sp rb rs hb po ro ee hh ss uu vv pp kk rr tt gg aa dd bd ga im)[hb + 11]? = some (cO 9 [aI 4, aR (hb + 12), aI (hh 0 8)]) from ((hf_H hl hp) 11 (by decide))) (show (hfW w hb sp rb rs hb po ro ee hh ss uu vv pp kk rr tt gg aa dd bd ga im)[hb + 12]? = some (cP 0 48 (hh 6)) from ((hf_H hl hp) 12 (by decide))) (by omega) hN9 (by omega))) (fun hN9 => (x_rowX (d := d - 1) hl hp hr k (show (hfW w hb sp rb rs hb po ro ee hh ss uu vv pp kk rr tt gg aa dd bd ga im)[hb + 11]? = some (cO 9 [aI 4, aR (hb + 12), aI (hh 0 8)]) from ((hf_H hl hp) 11 (by decide))) (show (hfW w hb sp rb rs hb po ro ee hh ss uu vv pp kk rr tt gg aa dd bd ga im)[hb + 12]? = some (cP 0 48 (hh 6)) from ((hf_H hl hp) 12 (by decide))) (by omega) hN9 (by omega) (by omega))) (fun hN9 => ?_) (fun hN9 => ?_)
    · exact (am_tr (fun (x9 : Int × Int × am_F × am_F) => Q (am_oc (x9.1) (x9.2.1)) (hfW w hb sp rb rs hb po ro x9.2.2.1 hh ss uu vv pp kk x9.2.2.2 tt gg aa dd bd ga im)) (y := ((n_row (hh 0 8) k), 0, n_ref ee (n_row (hh 0 8) k), rr)) (show (c_buy ee hh rr k what) = ((n_row (hh 0 8) k), 0, n_ref ee (n_row (hh 0 8) k), rr) from (if_neg hN9)) hQ)
    have hk9 := n_row_0 hN9
    refine T_aload_n (am_dec tX11_buy_0 6 rfl) rfl ?_
    refine T_iload_n (am_dec tX11_buy_0 7 rfl) rfl ?_
    refine T_iconst 0 (am_dec tX11_buy_0 8 rfl) rfl ⟨by decide, by decide⟩ ?_
    refine T_iconst 1 (am_dec tX11_buy_0 9 rfl) rfl ⟨by decide, by decide⟩ ?_
    refine T_callVo (as := [aI what, aI 0, aI 1]) (code := n_range what 0 1) rfl (am_dec tX11_buy_0 10 rfl) lkX11_117 (show (hfW w hb sp rb rs hb po ro ee hh ss uu vv pp kk rr tt gg aa dd bd ga im)[0]? = some (cO 10 [aR hb, aR sp, aR rb, aR rs, aR 52, aR 53, aR 51, aI (ee 0 7), aI (ee 0 8), aR 54, aR 64, aR 74, aR 77, aR 83, aR 84, aR 86, aR 88, aI (ee 0 17), aR 107, aR 108]) from (hfW_c hl 0 (by decide))) rfl rfl (Nat.le_of_ble_eq_true rfl) (by omega) (by omega) (fun hN16 => (mx_range0 (d := d - 1) hl hp hr what 0 1  hN16 (by omega))) (fun hN16 => (x_rangeX (d := d - 1) hl hp hr what 0 1  hN16 (by omega) (by omega))) (fun hN16 => ?_) (fun hN16 => ?_)
    · exact (am_tr (fun (x9 : Int × Int × am_F × am_F) => Q (am_oc (x9.1) (x9.2.1)) (hfW w hb sp rb rs hb po ro x9.2.2.1 hh ss uu vv pp kk x9.2.2.2 tt gg aa dd bd ga im)) (y := ((n_range what 0 1), 0, n_ref ee (n_range what 0 1), rr)) (show (c_buy ee hh rr k what) = ((n_range what 0 1), 0, n_ref ee (n_range what 0 1), rr) from ((if_pos hN9).trans (if_neg hN16))) hQ)
    have hk16 := n_range_0 hN16
    refine T_aload_n (am_dec tX11_buy_0 11 rfl) rfl ?_
    refine T_getfield 10 9 (am_dec tX11_buy_0 12 rfl) flX11_58_10 (show (hfW w hb sp rb rs hb po ro ee hh ss uu vv pp kk rr tt gg aa dd bd ga im)[0]? = some (cO 10 [aR hb, aR sp, aR rb, aR rs, aR 52, aR 53, aR 51, aI (ee 0 7), aI (ee 0 8), aR 54, aR 64, aR 74, aR 77, aR 83, aR 84, aR 86, aR 88, aI (ee 0 17), aR 107, aR 108]) from (hfW_c hl 0 (by decide))) rfl ?_
    refine T_bipush 39 (am_dec tX11_buy_0 13 rfl) rfl ⟨by decide, by decide⟩ ?_
    refine T_callV (as := [aI 39]) rfl (am_dec tX11_buy_0 14 rfl) lkX11_177 (show (hfW w hb sp rb rs hb po ro ee hh ss uu vv pp kk rr tt gg aa dd bd ga im)[54]? = some (cO 8 [aR hb, aI (rr 0 1), aI (rr 0 2), aI (rr 0 3), aI (rr 0 4), aI (rr 0 5), aR 55, aR 56, aR 57, aR 58, aR 59, aR 60, aR 61, aR 62, aR 63]) from (hfW_c hl 54 (by decide))) rfl rfl (Nat.le_of_ble_eq_true rfl) (by omega) (am_OutE (m_upTo (d := d - 1) (w := hfW w hb sp rb rs hb po ro ee hh ss uu vv pp kk rr tt gg aa dd bd ga im) (hf_le hl (by omega)) (by omega) (hf_H hl hp) (HbI_A hI) 39 hRI.1 hRI.2.1 hRI.2.2 (by omega)) hf_uR hf_uR) (fun _ => ?_)
    refine T_nmH (W := fun x9 => hfW w hb sp rb rs hb po ro ee hh ss uu vv pp kk x9 tt gg aa dd bd ga im) (v := f_upTo hh rr 39) (fun rr25 hrr25 => ?_)
    have hIrr25 : RnI rr25 := by rw [hrr25]; exact f_upTo_I (HbI_A hI) hRI
    refine T_aload_n (am_dec tX11_buy_0 15 rfl) rfl ?_
    refine T_getfield 10 9 (am_dec tX11_buy_0 16 rfl) flX11_58_10 (show (hfW w hb sp rb rs hb po ro ee hh ss uu vv pp kk rr25 tt gg aa dd bd ga im)[0]? = some (cO 10 [aR hb, aR sp, aR rb, aR rs, aR 52, aR 53, aR 51, aI (ee 0 7), aI (ee 0 8), aR 54, aR 64, aR 74, aR 77, aR 83, aR 84, aR 86, aR 88, aI (ee 0 17), aR 107, aR 108]) from (hfW_c hl 0 (by decide))) rfl ?_
    refine T_iload_n (am_dec tX11_buy_0 17 rfl) rfl ?_
    refine T_aload_n (am_dec tX11_buy_0 18 rfl) rfl ?_
    refine T_getfield 10 0 (am_dec tX11_buy_0 19 rfl) flX11_10_10 (show (hfW w hb sp rb rs hb po ro ee hh ss uu vv pp kk rr25 tt gg aa dd bd ga im)[0]? = some (cO 10 [aR hb, aR sp, aR rb, aR rs, aR 52, aR 53, aR 51, aI (ee 0 7), aI (ee 0 8), aR 54, aR 64, aR 74, aR 77, aR 83, aR 84, aR 86, aR 88, aI (ee 0 17), aR 107, aR 108]) from (hfW_c hl 0 (by decide))) rfl ?_
    refine T_iload_n (am_dec tX11_buy_0 20 rfl) rfl ?_
    refine T_callV (as := [aI k]) rfl (am_dec tX11_buy_0 21 rfl) lkX11_251 (show (hfW w hb sp rb rs hb po ro ee hh ss uu vv pp kk rr25 tt gg aa dd bd ga im)[hb]? = some (cO 3 [aI (hh 0 0), aI (hh 0 1), aI (hh 0 2), aR (hb + 1), aR (hb + 3), aR (hb + 5), aR (hb + 7), aR (hb + 9), aR (hb + 11), aR (hb + 13), aR (hb + 15), aR (hb + 17), aR (hb + 18), aR (hb + 19)]) from ((hf_H hl hp) 0 (by decide))) rfl rfl (Nat.le_of_ble_eq_true rfl) (by omega) (m_comes (d := d - 1) (hf_H hl hp) (by omega) (by omega) k) (fun _ => ?_)
    refine T_nm (fun v38 hv38 => ?_)
    have hc38 := ((HbI_W hI) k).1
    rw [← hv38] at hc38
    refine T_callS (as := [aR 54, aI k, aI v38]) rfl (am_dec tX11_buy_0 22 rfl) lkX11_254 rfl (Nat.le_of_ble_eq_true rfl) (by omega) (m_least (d := d - 1) (hf_R hl) (hf_H hl hp) (HbI_A hI).1 hIrr25.2.1 (HbI_W hI) (HbI_Co hI) (HbI_Wt hI) k v38 (by omega) (fun i q1 q2 => HbI_P hI k i (by omega) (by omega) q1 q2) (by omega)) (fun _ => ?_)
    refine T_nm (fun v41 hv41 => ?_)
    obtain ⟨p41, q41⟩ := f_least_b rr25 hh k v38 (HbI_A hI).1 hIrr25.2.1
    rw [← hv41] at p41 q41
    refine T_istore_n (ls' := [some (aR 0), some (aI k), some (aI what), some (aI v41)]) (am_dec tX11_buy_0 23 rfl) (by decide) rfl ?_
    refine T_iload_n (am_dec tX11_buy_0 24 rfl) rfl ?_
    have K46 : ∀ (t46 : Int), t46 = (if what = 0 then v41 else (am_w32 (v41 * (c_floorsOn hh k)))) →  am_T S zX11_buy d u Q 60 [none, none, none, none] [aI t46] (hfW w hb sp rb rs hb po ro ee hh ss uu vv pp kk rr25 tt gg aa dd bd ga im) := by
      intro t46 ht46 
      exact T_ireturn (am_dec tX11_buy_0 33 rfl) rfl (am_tr (fun (x9 : Int × Int × am_F × am_F) => Q (am_oc (x9.1) (x9.2.1)) (hfW w hb sp rb rs hb po ro x9.2.2.1 hh ss uu vv pp kk x9.2.2.2 tt gg aa dd bd ga im)) (y := (0, t46, ee, rr25)) (show (c_buy ee hh rr k what) = (0, t46, ee, rr25) from (by have s9 := hrr25.symm; subst s9; have s9 := hv38.symm; subst s9; have s9 := hv41.symm; subst s9; have s9 := ht46.symm; subst s9; exact ((if_pos hN9).trans (if_pos hN16)))) hQ)
    refine T_if_ne 53 (am_dec tX11_buy_0 25 rfl) rfl (fun h46 => ?_) (fun h46 => ?_)
    · refine T_iload_n (am_dec tX11_buy_0 28 rfl) rfl ?_
      refine T_aload_n (am_dec tX11_buy_0 29 rfl) rfl ?_
      refine T_iload_n (am_dec tX11_buy_0 30 rfl) rfl ?_
      refine T_callV (as := [aI k]) rfl (am_dec tX11_buy_0 31 rfl) lkX11_257 (show (hfW w hb sp rb rs hb po ro ee hh ss uu vv pp kk rr25 tt gg aa dd bd ga im)[0]? = some (cO 10 [aR hb, aR sp, aR rb, aR rs, aR 52, aR 53, aR 51, aI (ee 0 7), aI (ee 0 8), aR 54, aR 64, aR 74, aR 77, aR 83, aR 84, aR 86, aR 88, aI (ee 0 17), aR 107, aR 108]) from (hfW_c hl 0 (by decide))) rfl rfl (Nat.le_of_ble_eq_true rfl) (by omega) (mc_floorsOn (d := d - 1) hl hp hr k  hI (by omega)) (fun _ => ?_)
      refine T_imulW (am_w32 (v41 * (c_floorsOn hh k))) (am_dec tX11_buy_0 32 rfl) (am_w32e _).symm (am_w32r _) ?_
      refine T_weak (ls' := [none, none, none, none]) (am_sub_n (am_sub_n (am_sub_n (am_sub_n am_sub_nil)))) ?_
      exact K46 _ (if_neg h46).symm 
    · refine T_iload_n (am_dec tX11_buy_0 26 rfl) rfl ?_
      refine T_goto 60 (am_dec tX11_buy_0 27 rfl) rfl ?_
      refine T_weak (ls' := [none, none, none, none]) (am_sub_n (am_sub_n (am_sub_n (am_sub_n am_sub_nil)))) ?_
      exact K46 _ (if_pos h46).symm 
  exact key _ ⟨rfl, rfl⟩
