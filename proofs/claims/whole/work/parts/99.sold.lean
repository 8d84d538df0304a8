/-! bids, asked; let, ruled, brings; clock -/
theorem am_wh_iv {α : Type} {P : α → Prop} {f : α → α ⊕ α} (hs : ∀ x y, P x → f x = .inl y → P y) (he : ∀ x y, P x → f x = .inr y → P y) : ∀ (n : Nat) (x : α), P x → P (am_wh f n x) := by
  intro n
  induction n with
  | zero => intro x hx; exact hx
  | succ n ih =>
    intro x hx
    cases hf : f x with
    | inl y => rw [am_wh_l hf]; exact ih y (hs x y hx hf)
    | inr y => rw [am_wh_r hf]; exact he x y hx hf
theorem c_sellByRule_I {uu aa bd : am_F} (hB : BdI bd) (q : RuI uu) : RuI (c_sellByRule uu aa bd).1 := by
  have h6 : ∀ x : am_F × am_F, RuI x.1 → ∀ i, RuI (g_c_sellByRule_6 bd i x).1 := fun x hx i => by
    unfold g_c_sellByRule_6
    dsimp only
    repeat' split
    all_goals first
      | exact hx
      | exact RuI_4 (c_isLetIn_x _ _).2 hx
      | exact RuI_4 (c_standing_x _ _) hx
      | exact RuI_4 (c_standing_x _ _) (RuI_4 (c_isLetIn_x _ _).2 hx)
  unfold c_sellByRule
  dsimp only
  have h7 : RuI (am_fold (g_c_sellByRule_6 bd) 0 (bd 0 2).toNat (uu, f_away aa)).1 := am_fold_inv (P := fun (_ : Int) (x : am_F × am_F) => RuI x.1) _ _ (uu, f_away aa) q (fun i x _ _ hx => h6 x hx i)
  exact am_wh_iv (P := fun (x : Int × am_F × am_F) => RuI x.2.1) (fun x y hx hf => by
    unfold w_c_sellByRule_92 at hf
    dsimp only at hf
    split at hf
    · cases hf
    · split at hf
      · cases hf
      · cases hf; exact c_serve_x _ _ _ hx) (fun x y hx hf => by
    unfold w_c_sellByRule_92 at hf
    dsimp only at hf
    split at hf
    · cases hf; exact hx
    · split at hf
      · cases hf; exact hx
      · cases hf) 13 _ h7
def c_takings (hh : am_F) (rr : am_F) (aa : am_F) (bd : am_F) (l : Int) (st : Int) (wy : Int) (fl : Int) : Int × am_F × am_F := (let rr5 : am_F := f_upTo hh rr st; (let v23 : Int := f_inLot rr5 hh l st; (let aa28 : am_F := f_sell (bd 0 2) (bd 1) l v23 fl aa; (let v40 : Int := f_takings aa28 (bd 0 2) (bd 1) wy; (v40, rr5, aa28)))))
theorem mc_takings {S : am_S} {d u : Nat} {w : AH} {hb sp rb rs : Nat} {po ro : AV} (hl : 109 ≤ w.length) (hp : hb = 1 ∧ sp = 21 ∨ hb = 21 ∧ sp = 1) (hr : rb = 41 ∧ rs = 46 ∨ rb = 46 ∧ rs = 41) {ee : am_F} {hh : am_F} {ss : am_F} {uu : am_F} {vv : am_F} {pp : am_F} {kk : am_F} {rr : am_F} {tt : am_F} {gg : am_F} {aa : am_F} {dd : am_F} {bd : am_F} {ga : am_F} {im : am_F} (l : Int) (st : Int) (wy : Int) (fl : Int) (hI : HbI hh) (hRI : RnI rr) (hBd : BdI bd)  (hd : 6 ≤ d) : am_Out S zX11_takings d u [aR 0, aI l, aI st, aI wy, aI fl] (hfW w hb sp rb rs hb po ro ee hh ss uu vv pp kk rr tt gg aa dd bd ga im) (.inl (some (aI ((c_takings hh rr aa bd l st wy fl).1)))) (hfW w hb sp rb rs hb po ro ee hh ss uu vv pp kk ((c_takings hh rr aa bd l st wy fl).2.1) tt gg ((c_takings hh rr aa bd l st wy fl).2.2) dd bd ga im) := by
  have key : ∀ Q : AO → AH → Prop, Q (.inl (some (aI ((c_takings hh rr aa bd l st wy fl).1)))) (hfW w hb sp rb rs hb po ro ee hh ss uu vv pp kk ((c_takings hh rr aa bd l st wy fl).2.1) tt gg ((c_takings hh rr aa bd l st wy fl).2.2) dd bd ga im) → am_M S zX11_takings d u [aR 0, aI l, aI st, aI wy, aI fl] (hfW w hb sp rb rs hb po ro ee hh ss uu vv pp kk rr tt gg aa dd bd ga im) Q := by
    intro Q hQ
    refine am_body rfl (by decide +kernel) rfl (am_cats_cons rfl ( am_cats_cons rfl ( am_cats_cons rfl ( am_cats_cons rfl ( am_cats_cons rfl (am_cats_nil)))))) (Nat.le_of_ble_eq_true rfl) (?_ : am_T _ _ _ _ _ 0 [some (aR 0), some (aI l), some (aI st), some (aI wy), some (aI fl)] [] (hfW w hb sp rb rs hb po ro ee hh ss uu vv pp kk rr tt gg aa dd bd ga im))
    obtain ⟨vh1, vh2, vh3, vh4, vh5, vh6, vh7, vh8, vh9, vh10, vh11, vh12, vh13, vh14, vh15, vh16, vh17, vh18, vh19, vh20, vh21, vh22⟩ := (HbI_A hI).1
    have hBd9 := hBd
    obtain ⟨vb0, ⟨vb1, vb2⟩, vb3⟩ := hBd9
    refine T_aload_n (am_dec tX11_takings_0 0 rfl) rfl ?_
    refine T_getfield 10 9 (am_dec tX11_takings_0 1 rfl) flX11_58_10 (show (hfW w hb sp rb rs hb po ro ee hh ss uu vv pp kk rr tt gg aa dd bd ga im)[0]? = some (cO 10 [aR hb, aR sp, aR rb, aR rs, aR 52, aR 53, aR 51, aI (ee 0 7), aI (ee 0 8), aR 54, aR 64, aR 74, aR 77, aR 83, aR 84, aR 86, aR 88, aI (ee 0 17), aR 107, aR 108]) from (hfW_c hl 0 (by decide))) rfl ?_
    refine T_iload_n (am_dec tX11_takings_0 2 rfl) rfl ?_
    refine T_callV (as := [aI st]) rfl (am_dec tX11_takings_0 3 rfl) lkX11_177 (show (hfW w hb sp rb rs hb po ro ee hh ss uu vv pp kk rr tt gg aa dd bd ga im)[54]? = some (cO 8 [aR hb, aI (rr 0 1), aI (rr 0 2), aI (rr 0 3), aI (rr 0 4), aI (rr 0 5), aR 55, aR 56, aR 57, aR 58, aR 59, aR 60, aR 61, aR 62, aR 63]) from (hfW_c hl 54 (by decide))) rfl rfl (Nat.le_of_ble_eq_true rfl) (by omega) (am_OutE (m_upTo (d := d - 1) (w := hfW w hb sp rb rs hb po ro ee hh ss uu vv pp kk rr tt gg aa dd bd ga im) (hf_le hl (by omega)) (by omega) (hf_H hl hp) (HbI_A hI) st hRI.1 hRI.2.1 hRI.2.2 (by omega)) hf_uR hf_uR) (fun _ => ?_)
    refine T_nmH (W := fun x9 => hfW w hb sp rb rs hb po ro ee hh ss uu vv pp kk x9 tt gg aa dd bd ga im) (v := f_upTo hh rr st) (fun rr5 hrr5 => ?_)
    have hIrr5 : RnI rr5 := by rw [hrr5]; exact f_upTo_I (HbI_A hI) hRI
    refine T_aload_n (am_dec tX11_takings_0 4 rfl) rfl ?_
    refine T_getfield 10 12 (am_dec tX11_takings_0 5 rfl) flX11_75_10 (show (hfW w hb sp rb rs hb po ro ee hh ss uu vv pp kk rr5 tt gg aa dd bd ga im)[0]? = some (cO 10 [aR hb, aR sp, aR rb, aR rs, aR 52, aR 53, aR 51, aI (ee 0 7), aI (ee 0 8), aR 54, aR 64, aR 74, aR 77, aR 83, aR 84, aR 86, aR 88, aI (ee 0 17), aR 107, aR 108]) from (hfW_c hl 0 (by decide))) rfl ?_
    refine T_aload_n (am_dec tX11_takings_0 6 rfl) rfl ?_
    refine T_getfield 10 14 (am_dec tX11_takings_0 7 rfl) flX11_91_10 (show (hfW w hb sp rb rs hb po ro ee hh ss uu vv pp kk rr5 tt gg aa dd bd ga im)[0]? = some (cO 10 [aR hb, aR sp, aR rb, aR rs, aR 52, aR 53, aR 51, aI (ee 0 7), aI (ee 0 8), aR 54, aR 64, aR 74, aR 77, aR 83, aR 84, aR 86, aR 88, aI (ee 0 17), aR 107, aR 108]) from (hfW_c hl 0 (by decide))) rfl ?_
    refine T_iload_n (am_dec tX11_takings_0 8 rfl) rfl ?_
    refine T_aload_n (am_dec tX11_takings_0 9 rfl) rfl ?_
    refine T_getfield 10 9 (am_dec tX11_takings_0 10 rfl) flX11_58_10 (show (hfW w hb sp rb rs hb po ro ee hh ss uu vv pp kk rr5 tt gg aa dd bd ga im)[0]? = some (cO 10 [aR hb, aR sp, aR rb, aR rs, aR 52, aR 53, aR 51, aI (ee 0 7), aI (ee 0 8), aR 54, aR 64, aR 74, aR 77, aR 83, aR 84, aR 86, aR 88, aI (ee 0 17), aR 107, aR 108]) from (hfW_c hl 0 (by decide))) rfl ?_
    refine T_iload_n (am_dec tX11_takings_0 11 rfl) rfl ?_
    refine T_iload_n (am_dec tX11_takings_0 12 rfl) rfl ?_
    refine T_callV (as := [aI l, aI st]) rfl (am_dec tX11_takings_0 13 rfl) lkX11_303 (show (hfW w hb sp rb rs hb po ro ee hh ss uu vv pp kk rr5 tt gg aa dd bd ga im)[54]? = some (cO 8 [aR hb, aI (rr5 0 1), aI (rr5 0 2), aI (rr5 0 3), aI (rr5 0 4), aI (rr5 0 5), aR 55, aR 56, aR 57, aR 58, aR 59, aR 60, aR 61, aR 62, aR 63]) from (hfW_c hl 54 (by decide))) rfl rfl (Nat.le_of_ble_eq_true rfl) (by omega) (m_inLot (d := d - 1) (hf_R hl) (hf_H hl hp) (HbI_A hI).1 hIrr5.2.1 (by omega) l st) (fun _ => ?_)
    refine T_nm (fun v23 hv23 => ?_)
    obtain ⟨p23, q23⟩ := f_inLot_b (HbI_A hI).1 hIrr5.2.1 l st
    rw [← hv23] at p23 q23
    refine T_iload (am_dec tX11_takings_0 14 rfl) rfl ?_
    refine T_callV (as := [aR 84, aI l, aI v23, aI fl]) rfl (am_dec tX11_takings_0 15 rfl) lkX11_321 (show (hfW w hb sp rb rs hb po ro ee hh ss uu vv pp kk rr5 tt gg aa dd bd ga im)[77]? = some (cO 0 [aR 78, aR 79, aR 80, aR 81, aR 82, aI (aa 0 5)]) from (hfW_c hl 77 (by decide))) rfl rfl (Nat.le_of_ble_eq_true rfl) (by omega) (am_OutE (m_sell (d := d - 1) (w := hfW w hb sp rb rs hb po ro ee hh ss uu vv pp kk rr5 tt gg aa dd bd ga im) (hf_le hl (by omega)) (by omega) (show (hfW w hb sp rb rs hb po ro ee hh ss uu vv pp kk rr5 tt gg aa dd bd ga im)[84]? = some (cO 9 [aI (bd 0 0), aR 85, aI (bd 0 2)]) from (hfW_c hl 84 (by decide))) (show (hfW w hb sp rb rs hb po ro ee hh ss uu vv pp kk rr5 tt gg aa dd bd ga im)[85]? = some (cP 0 48 (bd 1)) from (hfW_c hl 85 (by decide))) (by omega) l v23 fl hBd.2.2 (by omega) (by omega)) hf_uA hf_uA) (fun _ => ?_)
    refine T_nmH (W := fun x9 => hfW w hb sp rb rs hb po ro ee hh ss uu vv pp kk rr5 tt gg x9 dd bd ga im) (v := f_sell (bd 0 2) (bd 1) l v23 fl aa) (fun aa28 haa28 => ?_)
    refine T_aload_n (am_dec tX11_takings_0 16 rfl) rfl ?_
    refine T_getfield 10 12 (am_dec tX11_takings_0 17 rfl) flX11_75_10 (show (hfW w hb sp rb rs hb po ro ee hh ss uu vv pp kk rr5 tt gg aa28 dd bd ga im)[0]? = some (cO 10 [aR hb, aR sp, aR rb, aR rs, aR 52, aR 53, aR 51, aI (ee 0 7), aI (ee 0 8), aR 54, aR 64, aR 74, aR 77, aR 83, aR 84, aR 86, aR 88, aI (ee 0 17), aR 107, aR 108]) from (hfW_c hl 0 (by decide))) rfl ?_
    refine T_aload_n (am_dec tX11_takings_0 18 rfl) rfl ?_
    refine T_getfield 10 14 (am_dec tX11_takings_0 19 rfl) flX11_91_10 (show (hfW w hb sp rb rs hb po ro ee hh ss uu vv pp kk rr5 tt gg aa28 dd bd ga im)[0]? = some (cO 10 [aR hb, aR sp, aR rb, aR rs, aR 52, aR 53, aR 51, aI (ee 0 7), aI (ee 0 8), aR 54, aR 64, aR 74, aR 77, aR 83, aR 84, aR 86, aR 88, aI (ee 0 17), aR 107, aR 108]) from (hfW_c hl 0 (by decide))) rfl ?_
    refine T_iload_n (am_dec tX11_takings_0 20 rfl) rfl ?_
    refine T_callV (as := [aR 84, aI wy]) rfl (am_dec tX11_takings_0 21 rfl) lkX11_336 (show (hfW w hb sp rb rs hb po ro ee hh ss uu vv pp kk rr5 tt gg aa28 dd bd ga im)[77]? = some (cO 0 [aR 78, aR 79, aR 80, aR 81, aR 82, aI (aa28 0 5)]) from (hfW_c hl 77 (by decide))) rfl rfl (Nat.le_of_ble_eq_true rfl) (by omega) (am_OutE (m_takings (d := d - 1) (w := hfW w hb sp rb rs hb po ro ee hh ss uu vv pp kk rr5 tt gg aa28 dd bd ga im) (hf_le hl (by omega)) (by omega) (show (hfW w hb sp rb rs hb po ro ee hh ss uu vv pp kk rr5 tt gg aa28 dd bd ga im)[84]? = some (cO 9 [aI (bd 0 0), aR 85, aI (bd 0 2)]) from (hfW_c hl 84 (by decide))) (show (hfW w hb sp rb rs hb po ro ee hh ss uu vv pp kk rr5 tt gg aa28 dd bd ga im)[85]? = some (cP 0 48 (bd 1)) from (hfW_c hl 85 (by decide))) (by omega) wy (by omega)) hf_uA hf_uA) (fun _ => ?_)
    refine T_nm (fun v40 hv40 => ?_)
    exact T_ireturn (am_dec tX11_takings_0 22 rfl) rfl (am_tr (fun (x9 : Int × am_F × am_F) => Q (.inl (some (aI (x9.1)))) (hfW w hb sp rb rs hb po ro ee hh ss uu vv pp kk x9.2.1 tt gg x9.2.2 dd bd ga im)) (y := (v40, rr5, aa28)) (show (c_takings hh rr aa bd l st wy fl) = (v40, rr5, aa28) from (by have s9 := hrr5.symm; subst s9; have s9 := hv23.symm; subst s9; have s9 := haa28.symm; subst s9; have s9 := hv40.symm; subst s9; exact rfl)) hQ)
  exact key _ ⟨rfl, rfl⟩
def c_sold (ee : am_F) (hh : am_F) (rr : am_F) (aa : am_F) (bd : am_F) (l : Int) (st : Int) (wy : Int) : Int × Int × am_F × am_F × am_F := (if n_row (hh 0 7) l = 0 then (if n_step st = 0 then (if n_range wy 0 1 = 0 then (let v33 : Int := f_floor hh l; (let u36 : Int × am_F × am_F := c_takings hh rr aa bd l st wy v33; (0, ((u36).1), ee, (u36).2.1, (u36).2.2))) else ((n_range wy 0 1), 0, n_ref ee (n_range wy 0 1), rr, aa)) else ((n_step st), 0, n_ref ee (n_step st), rr, aa)) else ((n_row (hh 0 7) l), 0, n_ref ee (n_row (hh 0 7) l), rr, aa))
theorem mc_sold {S : am_S} {d u : Nat} {w : AH} {hb sp rb rs : Nat} {po ro : AV} (hl : 109 ≤ w.length) (hp : hb = 1 ∧ sp = 21 ∨ hb = 21 ∧ sp = 1) (hr : rb = 41 ∧ rs = 46 ∨ rb = 46 ∧ rs = 41) {ee : am_F} {hh : am_F} {ss : am_F} {uu : am_F} {vv : am_F} {pp : am_F} {kk : am_F} {rr : am_F} {tt : am_F} {gg : am_F} {aa : am_F} {dd : am_F} {bd : am_F} {ga : am_F} {im : am_F} (l : Int) (st : Int) (wy : Int) (hI : HbI hh) (hRI : RnI rr) (hBd : BdI bd) (hu : 1 ≤ u) (hd : 8 ≤ d) : am_Out S zX11_sold d u [aR 0, aI l, aI st, aI wy] (hfW w hb sp rb rs hb po ro ee hh ss uu vv pp kk rr tt gg aa dd bd ga im) (am_oc ((c_sold ee hh rr aa bd l st wy).1) ((c_sold ee hh rr aa bd l st wy).2.1)) (hfW w hb sp rb rs hb po ro ((c_sold ee hh rr aa bd l st wy).2.2.1) hh ss uu vv pp kk ((c_sold ee hh rr aa bd l st wy).2.2.2.1) tt gg ((c_sold ee hh rr aa bd l st wy).2.2.2.2) dd bd ga im) := by
  have key : ∀ Q : AO → AH → Prop, Q (am_oc ((c_sold ee hh rr aa bd l st wy).1) ((c_sold ee hh rr aa bd l st wy).2.1)) (hfW w hb sp rb rs hb po ro ((c_sold ee hh rr aa bd l st wy).2.2.1) hh ss uu vv pp kk ((c_sold ee hh rr aa bd l st wy).2.2.2.1) tt gg ((c_sold ee hh rr aa bd l st wy).2.2.2.2) dd bd ga im) → am_M S zX11_sold d u [aR 0, aI l, aI st, aI wy] (hfW w hb sp rb rs hb po ro ee hh ss uu vv pp kk rr tt gg aa dd bd ga im) Q := by
    intro Q hQ
    refine am_body rfl (by decide +kernel) rfl (am_cats_cons rfl ( am_cats_cons rfl ( am_cats_cons rfl ( am_cats_cons rfl (am_cats_nil))))) (Nat.le_of_ble_eq_true rfl) (?_ : am_T _ _ _ _ _ 0 [some (aR 0), some (aI l), some (aI st), some (aI wy)] [] (hfW w hb sp rb rs hb po ro ee hh ss uu vv pp kk rr tt gg aa dd bd ga im))
    obtain ⟨vh1, vh2, vh3, vh4, vh5, vh6, vh7, vh8, vh9, vh10, vh11, vh12, vh13, vh14, vh15, vh16, vh17, vh18, vh19, vh20, vh21, vh22⟩ := (HbI_A hI).1
    have hBd9 := hBd
    obtain ⟨vb0, ⟨vb1, vb2⟩, vb3⟩ := hBd9
    refine T_aload_n (am_dec tX11_sold_0 0 rfl) rfl ?_
    refine T_aload_n (am_dec tX11_sold_0 1 rfl) rfl ?_
    refine T_getfield 10 0 (am_dec tX11_sold_0 2 rfl) flX11_10_10 (show (hfW w hb sp rb rs hb po ro ee hh ss uu vv pp kk rr tt gg aa dd bd ga im)[0]? = some (cO 10 [aR hb, aR sp, aR rb, aR rs, aR 52, aR 53, aR 51, aI (ee 0 7), aI (ee 0 8), aR 54, aR 64, aR 74, aR 77, aR 83, aR 84, aR 86, aR 88, aI (ee 0 17), aR 107, aR 108]) from (hfW_c hl 0 (by decide))) rfl ?_
    refine T_getfield 3 7 (am_dec tX11_sold_0 3 rfl) flX11_149_3 (show (hfW w hb sp rb rs hb po ro ee hh ss uu vv pp kk rr tt gg aa dd bd ga im)[hb]? = some (cO 3 [aI (hh 0 0), aI (hh 0 1), aI (hh 0 2), aR (hb + 1), aR (hb + 3), aR (hb + 5), aR (hb + 7), aR (hb + 9), aR (hb + 11), aR (hb + 13), aR (hb + 15), aR (hb + 17), aR (hb + 18), aR (hb + 19)]) from ((hf_H hl hp) 0 (by decide))) rfl ?_
    refine T_iload_n (am_dec tX11_sold_0 4 rfl) rfl ?_
    refine T_callVo (as := [aR (hb + 9), aI l]) (code := n_row (hh 0 7) l) rfl (am_dec tX11_sold_0 5 rfl) lkX11_190 (show (hfW w hb sp rb rs hb po ro ee hh ss uu vv pp kk rr tt gg aa dd bd ga im)[0]? = some (cO 10 [aR hb, aR sp, aR rb, aR rs, aR 52, aR 53, aR 51, aI (ee 0 7), aI (ee 0 8), aR 54, aR 64, aR 74, aR 77, aR 83, aR 84, aR 86, aR 88, aI (ee 0 17), aR 107, aR 108]) from (hfW_c hl 0 (by decide))) rfl rfl (Nat.le_of_ble_eq_true rfl) (by omega) (by omega) (fun hN9 => (mx_row0 (d := d - 1) hl hp hr l (show (hfW w hb sp rb rs hb po ro ee hh ss uu vv pp kk rr tt gg aa dd bd ga im)[hb + 9]? = some (cO 9 [aI 6, aR (hb + 10), aI (hh 0 7)]) from ((hf_H hl hp) 9 (by decide))) (show (hfW w hb sp rb rs hb po ro ee hh ss uu vv pp kk rr tt gg aa dd bd ga im)[hb + 10]? = some (cP 0 48 (hh 5)) from ((hf_H hl hp) 10 (by decide))) (by omega) hN9 (by omega))) (fun hN9 => (x_rowX (d := d - 1) hl hp hr l (show (hfW w hb sp rb rs hb po ro ee hh ss uu vv pp kk rr tt gg aa dd bd ga im)[hb + 9]? = some (cO 9 [aI 6, aR (hb + 10), aI (hh 0 7)]) from ((hf_H hl hp) 9 (by decide))) (show (hfW w hb sp rb rs hb po ro ee hh ss uu vv pp kk rr tt gg aa dd bd ga im)[hb + 10]? = some (cP 0 48 (hh 5)) from ((hf_H hl hp) 10 (by decide))) (by omega) hN9 (by omega) (by omega))) (fun hN9 => ?_) (fun hN9 => ?_)
    · exact (am_tr (fun (x9 : Int × Int × am_F × am_F × am_F) => Q (am_oc (x9.1) (x9.2.1)) (hfW w hb sp rb rs hb po ro x9.2.2.1 hh ss uu vv pp kk x9.2.2.2.1 tt gg x9.2.2.2.2 dd bd ga im)) (y := ((n_row (hh 0 7) l), 0, n_ref ee (n_row (hh 0 7) l), rr, aa)) (show (c_sold ee hh rr aa bd l st wy) = ((n_row (hh 0 7) l), 0, n_ref ee (n_row (hh 0 7) l), rr, aa) from (if_neg hN9)) hQ)
    have hk9 := n_row_0 hN9
    refine T_aload_n (am_dec tX11_sold_0 6 rfl) rfl ?_
    refine T_iload_n (am_dec tX11_sold_0 7 rfl) rfl ?_
    refine T_callVo (as := [aI st]) (code := n_step st) rfl (am_dec tX11_sold_0 8 rfl) lkX11_194 (show (hfW w hb sp rb rs hb po ro ee hh ss uu vv pp kk rr tt gg aa dd bd ga im)[0]? = some (cO 10 [aR hb, aR sp, aR rb, aR rs, aR 52, aR 53, aR 51, aI (ee 0 7), aI (ee 0 8), aR 54, aR 64, aR 74, aR 77, aR 83, aR 84, aR 86, aR 88, aI (ee 0 17), aR 107, aR 108]) from (hfW_c hl 0 (by decide))) rfl rfl (Nat.le_of_ble_eq_true rfl) (by omega) (by omega) (fun hN14 => (mx_step0 (d := d - 1) hl hp hr st  hN14 (by omega))) (fun hN14 => (x_stepX (d := d - 1) hl hp hr st  hN14 (by omega) (by omega))) (fun hN14 => ?_) (fun hN14 => ?_)
    · exact (am_tr (fun (x9 : Int × Int × am_F × am_F × am_F) => Q (am_oc (x9.1) (x9.2.1)) (hfW w hb sp rb rs hb po ro x9.2.2.1 hh ss uu vv pp kk x9.2.2.2.1 tt gg x9.2.2.2.2 dd bd ga im)) (y := ((n_step st), 0, n_ref ee (n_step st), rr, aa)) (show (c_sold ee hh rr aa bd l st wy) = ((n_step st), 0, n_ref ee (n_step st), rr, aa) from ((if_pos hN9).trans (if_neg hN14))) hQ)
    have hk14 := n_step_0 hN14
    refine T_aload_n (am_dec tX11_sold_0 9 rfl) rfl ?_
    refine T_iload_n (am_dec tX11_sold_0 10 rfl) rfl ?_
    refine T_iconst 0 (am_dec tX11_sold_0 11 rfl) rfl ⟨by decide, by decide⟩ ?_
    refine T_iconst 1 (am_dec tX11_sold_0 12 rfl) rfl ⟨by decide, by decide⟩ ?_
    refine T_callVo (as := [aI wy, aI 0, aI 1]) (code := n_range wy 0 1) rfl (am_dec tX11_sold_0 13 rfl) lkX11_117 (show (hfW w hb sp rb rs hb po ro ee hh ss uu vv pp kk rr tt gg aa dd bd ga im)[0]? = some (cO 10 [aR hb, aR sp, aR rb, aR rs, aR 52, aR 53, aR 51, aI (ee 0 7), aI (ee 0 8), aR 54, aR 64, aR 74, aR 77, aR 83, aR 84, aR 86, aR 88, aI (ee 0 17), aR 107, aR 108]) from (hfW_c hl 0 (by decide))) rfl rfl (Nat.le_of_ble_eq_true rfl) (by omega) (by omega) (fun hN21 => (mx_range0 (d := d - 1) hl hp hr wy 0 1  hN21 (by omega))) (fun hN21 => (x_rangeX (d := d - 1) hl hp hr wy 0 1  hN21 (by omega) (by omega))) (fun hN21 => ?_) (fun hN21 => ?_)
    · exact (am_tr (fun (x9 : Int × Int × am_F × am_F × am_F) => Q (am_oc (x9.1) (x9.2.1)) (hfW w hb sp rb rs hb po ro x9.2.2.1 hh ss uu vv pp kk x9.2.2.2.1 tt gg x9.2.2.2.2 dd bd ga im)) (y := ((n_range wy 0 1), 0, n_ref ee (n_range wy 0 1), rr, aa)) (show (c_sold ee hh rr aa bd l st wy) = ((n_range wy 0 1), 0, n_ref ee (n_range wy 0 1), rr, aa) from ((if_pos hN9).trans ((if_pos hN14).trans (if_neg hN21)))) hQ)
    have hk21 := n_range_0 hN21
    refine T_aload_n (am_dec tX11_sold_0 14 rfl) rfl ?_
    refine T_iload_n (am_dec tX11_sold_0 15 rfl) rfl ?_
    refine T_iload_n (am_dec tX11_sold_0 16 rfl) rfl ?_
    refine T_iload_n (am_dec tX11_sold_0 17 rfl) rfl ?_
    refine T_aload_n (am_dec tX11_sold_0 18 rfl) rfl ?_
    refine T_getfield 10 0 (am_dec tX11_sold_0 19 rfl) flX11_10_10 (show (hfW w hb sp rb rs hb po ro ee hh ss uu vv pp kk rr tt gg aa dd bd ga im)[0]? = some (cO 10 [aR hb, aR sp, aR rb, aR rs, aR 52, aR 53, aR 51, aI (ee 0 7), aI (ee 0 8), aR 54, aR 64, aR 74, aR 77, aR 83, aR 84, aR 86, aR 88, aI (ee 0 17), aR 107, aR 108]) from (hfW_c hl 0 (by decide))) rfl ?_
    refine T_iload_n (am_dec tX11_sold_0 20 rfl) rfl ?_
    refine T_callV (as := [aI l]) rfl (am_dec tX11_sold_0 21 rfl) lkX11_263 (show (hfW w hb sp rb rs hb po ro ee hh ss uu vv pp kk rr tt gg aa dd bd ga im)[hb]? = some (cO 3 [aI (hh 0 0), aI (hh 0 1), aI (hh 0 2), aR (hb + 1), aR (hb + 3), aR (hb + 5), aR (hb + 7), aR (hb + 9), aR (hb + 11), aR (hb + 13), aR (hb + 15), aR (hb + 17), aR (hb + 18), aR (hb + 19)]) from ((hf_H hl hp) 0 (by decide))) rfl rfl (Nat.le_of_ble_eq_true rfl) (by omega) (m_floorOf (d := d - 1) (hf_H hl hp) (by omega) (by omega) l) (fun _ => ?_)
    refine T_nm (fun v33 hv33 => ?_)
    have hc33 := HbI_fl hI l
    rw [← hv33] at hc33
    refine T_callV (as := [aI l, aI st, aI wy, aI v33]) rfl (am_dec tX11_sold_0 22 rfl) lkX11_332 (show (hfW w hb sp rb rs hb po ro ee hh ss uu vv pp kk rr tt gg aa dd bd ga im)[0]? = some (cO 10 [aR hb, aR sp, aR rb, aR rs, aR 52, aR 53, aR 51, aI (ee 0 7), aI (ee 0 8), aR 54, aR 64, aR 74, aR 77, aR 83, aR 84, aR 86, aR 88, aI (ee 0 17), aR 107, aR 108]) from (hfW_c hl 0 (by decide))) rfl rfl (Nat.le_of_ble_eq_true rfl) (by omega) (mc_takings (d := d - 1) hl hp hr l st wy v33  hI hRI hBd (by omega)) (fun _ => ?_)
    obtain ⟨u36, hu36⟩ : ∃ x9, x9 = c_takings hh rr aa bd l st wy v33 := ⟨_, rfl⟩
    rw [← hu36]
    have hIu36 : RnI u36.2.1 := by rw [hu36]; exact f_upTo_I (HbI_A hI) hRI
    exact T_ireturn (am_dec tX11_sold_0 23 rfl) rfl (am_tr (fun (x9 : Int × Int × am_F × am_F × am_F) => Q (am_oc (x9.1) (x9.2.1)) (hfW w hb sp rb rs hb po ro x9.2.2.1 hh ss uu vv pp kk x9.2.2.2.1 tt gg x9.2.2.2.2 dd bd ga im)) (y := (0, ((u36).1), ee, (u36).2.1, (u36).2.2)) (show (c_sold ee hh rr aa bd l st wy) = (0, ((u36).1), ee, (u36).2.1, (u36).2.2) from (by have s9 := hv33.symm; subst s9; have s9 := hu36.symm; subst s9; exact ((if_pos hN9).trans ((if_pos hN14).trans (if_pos hN21))))) hQ)
  exact key _ ⟨rfl, rfl⟩
def g_c_when_27 (hh : am_F) (bd : am_F) (l : Int) (wy : Int) (s : Int) (x9 : Int × Int × am_F × am_F) : Int × Int × am_F × am_F := let mst := x9.1; let stp := x9.2.1; let rr := x9.2.2.1; let aa := x9.2.2.2; (let v44 : Int := f_floor hh l; (let u47 : Int × am_F × am_F := c_takings hh rr aa bd l s wy v44; (let mst_55 : Int := (if (u47).1 ≤ mst then mst else ((u47).1)); (let stp_55 : Int := (if (u47).1 ≤ mst then stp else s); (mst_55, stp_55, (u47).2.1, (u47).2.2)))))
theorem L_c_when_27 {S : am_S} {d u : Nat} {Q : AO → AH → Prop} {w : AH} {hb sp rb rs : Nat} {po ro : AV} (hl : 109 ≤ w.length) (hp : hb = 1 ∧ sp = 21 ∨ hb = 21 ∧ sp = 1) (hr : rb = 41 ∧ rs = 46 ∨ rb = 46 ∧ rs = 41) (ee : am_F) (hh : am_F) (ss : am_F) (uu : am_F) (vv : am_F) (pp : am_F) (kk : am_F) (tt : am_F) (gg : am_F) (dd : am_F) (bd : am_F) (ga : am_F) (im : am_F) (l : Int) (wy : Int)  (hI : HbI hh) (hBd : BdI bd) (hd : 7 ≤ d) (B9 : Int) (hB : B9 = 40) : ∀ (n : Nat) (s : Int) (mst : Int) (stp : Int) (rr : am_F) (aa : am_F), s + n = B9 → 0 ≤ s → RnI rr → (∀ (mst' : Int) (stp' : Int) (rr' : am_F) (aa' : am_F), mst' = (am_fold (g_c_when_27 hh bd l wy) s n (mst, stp, rr, aa)).1 → stp' = (am_fold (g_c_when_27 hh bd l wy) s n (mst, stp, rr, aa)).2.1 → rr' = (am_fold (g_c_when_27 hh bd l wy) s n (mst, stp, rr, aa)).2.2.1 → aa' = (am_fold (g_c_when_27 hh bd l wy) s n (mst, stp, rr, aa)).2.2.2 → RnI rr' → am_T S zX11_when d u Q 71 [none, none, none, none, some (aI stp'), none, none] [] (hfW w hb sp rb rs hb po ro ee hh ss uu vv pp kk rr' tt gg aa' dd bd ga im)) → am_T S zX11_when d u Q 27 [some (aR 0), some (aI l), some (aI wy), some (aI mst), some (aI stp), some (aI s), none] [] (hfW w hb sp rb rs hb po ro ee hh ss uu vv pp kk rr tt gg aa dd bd ga im) := by
  intro n
  induction n with
  | zero =>
    intro s mst stp rr aa hi9 h0i hinv k9
    have e9 : s = B9 := by omega
    subst e9
    obtain ⟨vh1, vh2, vh3, vh4, vh5, vh6, vh7, vh8, vh9, vh10, vh11, vh12, vh13, vh14, vh15, vh16, vh17, vh18, vh19, vh20, vh21, vh22⟩ := (HbI_A hI).1
    have hBd9 := hBd
    obtain ⟨vb0, ⟨vb1, vb2⟩, vb3⟩ := hBd9
    have hRI := hinv
    refine T_iload (am_dec tX11_when_0 17 rfl) rfl ?_
    refine T_bipush 40 (am_dec tX11_when_0 18 rfl) rfl ⟨by decide, by decide⟩ ?_
    refine T_icmp_ge 71 (am_dec tX11_when_0 19 rfl) rfl (fun h31 => ?_) (fun h31 => by exfalso; omega)
    refine T_weak (ls' := [none, none, none, none, some (aI stp), none, none]) (am_sub_n (am_sub_n (am_sub_n (am_sub_n (am_sub_s (am_sub_n (am_sub_n am_sub_nil))))))) ?_
    exact k9 mst stp rr aa rfl rfl rfl rfl hinv
  | succ n ih =>
    intro s mst stp rr aa hi9 h0i hinv k9
    obtain ⟨vh1, vh2, vh3, vh4, vh5, vh6, vh7, vh8, vh9, vh10, vh11, vh12, vh13, vh14, vh15, vh16, vh17, vh18, vh19, vh20, vh21, vh22⟩ := (HbI_A hI).1
    have hBd9 := hBd
    obtain ⟨vb0, ⟨vb1, vb2⟩, vb3⟩ := hBd9
    have hRI := hinv
    refine T_iload (am_dec tX11_when_0 17 rfl) rfl ?_
    refine T_bipush 40 (am_dec tX11_when_0 18 rfl) rfl ⟨by decide, by decide⟩ ?_
    refine T_icmp_ge 71 (am_dec tX11_when_0 19 rfl) rfl (fun h31 => by exfalso; omega) (fun h31 => ?_)
    refine T_aload_n (am_dec tX11_when_0 20 rfl) rfl ?_
    refine T_iload_n (am_dec tX11_when_0 21 rfl) rfl ?_
    refine T_iload (am_dec tX11_when_0 22 rfl) rfl ?_
    refine T_iload_n (am_dec tX11_when_0 23 rfl) rfl ?_
    refine T_aload_n (am_dec tX11_when_0 24 rfl) rfl ?_
    refine T_getfield 10 0 (am_dec tX11_when_0 25 rfl) flX11_10_10 (show (hfW w hb sp rb rs hb po ro ee hh ss uu vv pp kk rr tt gg aa dd bd ga im)[0]? = some (cO 10 [aR hb, aR sp, aR rb, aR rs, aR 52, aR 53, aR 51, aI (ee 0 7), aI (ee 0 8), aR 54, aR 64, aR 74, aR 77, aR 83, aR 84, aR 86, aR 88, aI (ee 0 17), aR 107, aR 108]) from (hfW_c hl 0 (by decide))) rfl ?_
    refine T_iload_n (am_dec tX11_when_0 26 rfl) rfl ?_
    refine T_callV (as := [aI l]) rfl (am_dec tX11_when_0 27 rfl) lkX11_263 (show (hfW w hb sp rb rs hb po ro ee hh ss uu vv pp kk rr tt gg aa dd bd ga im)[hb]? = some (cO 3 [aI (hh 0 0), aI (hh 0 1), aI (hh 0 2), aR (hb + 1), aR (hb + 3), aR (hb + 5), aR (hb + 7), aR (hb + 9), aR (hb + 11), aR (hb + 13), aR (hb + 15), aR (hb + 17), aR (hb + 18), aR (hb + 19)]) from ((hf_H hl hp) 0 (by decide))) rfl rfl (Nat.le_of_ble_eq_true rfl) (by omega) (m_floorOf (d := d - 1) (hf_H hl hp) (by omega) (by omega) l) (fun _ => ?_)
    refine T_nm (fun v44 hv44 => ?_)
    have hc44 := HbI_fl hI l
    rw [← hv44] at hc44
    refine T_callV (as := [aI l, aI s, aI wy, aI v44]) rfl (am_dec tX11_when_0 28 rfl) lkX11_332 (show (hfW w hb sp rb rs hb po ro ee hh ss uu vv pp kk rr tt gg aa dd bd ga im)[0]? = some (cO 10 [aR hb, aR sp, aR rb, aR rs, aR 52, aR 53, aR 51, aI (ee 0 7), aI (ee 0 8), aR 54, aR 64, aR 74, aR 77, aR 83, aR 84, aR 86, aR 88, aI (ee 0 17), aR 107, aR 108]) from (hfW_c hl 0 (by decide))) rfl rfl (Nat.le_of_ble_eq_true rfl) (by omega) (mc_takings (d := d - 1) hl hp hr l s wy v44  hI hRI hBd (by omega)) (fun _ => ?_)
    obtain ⟨u47, hu47⟩ : ∃ x9, x9 = c_takings hh rr aa bd l s wy v44 := ⟨_, rfl⟩
    rw [← hu47]
    have hIu47 : RnI u47.2.1 := by rw [hu47]; exact f_upTo_I (HbI_A hI) hRI
    refine T_istore (ls' := [some (aR 0), some (aI l), some (aI wy), some (aI mst), some (aI stp), some (aI s), some (aI ((u47).1))]) (am_dec tX11_when_0 29 rfl) (by decide) rfl ?_
    refine T_iload (am_dec tX11_when_0 30 rfl) rfl ?_
    refine T_iload_n (am_dec tX11_when_0 31 rfl) rfl ?_
    have K55 : ∀ (mst_55 : Int), ∀ (stp_55 : Int), mst_55 = (if (u47).1 ≤ mst then mst else ((u47).1)) → stp_55 = (if (u47).1 ≤ mst then stp else s) →  am_T S zX11_when d u Q 65 [some (aR 0), some (aI l), some (aI wy), some (aI mst_55), some (aI stp_55), some (aI s), none] [] (hfW w hb sp rb rs hb po ro ee hh ss uu vv pp kk ((u47).2.1) tt gg ((u47).2.2) dd bd ga im) := by
      intro mst_55 stp_55 hmst_55 hstp_55 
      refine T_iinc (ls' := [some (aR 0), some (aI l), some (aI wy), some (aI mst_55), some (aI stp_55), some (aI (s + 1)), none]) (s + 1) (am_dec tX11_when_0 37 rfl) rfl rfl ⟨by omega, by omega⟩ (by decide) rfl ?_
      refine T_goto 27 (am_dec tX11_when_0 38 rfl) rfl ?_
      have e9 : (g_c_when_27 hh bd l wy) s (mst, stp, rr, aa) = (mst_55, stp_55, (u47).2.1, (u47).2.2) := (by have s9 := hv44.symm; subst s9; have s9 := hu47.symm; subst s9; have s9 := hmst_55.symm; subst s9; have s9 := hstp_55.symm; subst s9; exact rfl)
      simp only [am_fold_s, e9] at k9
      exact ih (s + 1) mst_55 stp_55 ((u47).2.1) ((u47).2.2) (by omega) (by omega) hIu47 k9
    refine T_icmp_le 65 (am_dec tX11_when_0 32 rfl) rfl (fun h55 => ?_) (fun h55 => ?_)
    · refine T_weak (ls' := [some (aR 0), some (aI l), some (aI wy), some (aI mst), some (aI stp), some (aI s), none]) (am_sub_s (am_sub_s (am_sub_s (am_sub_s (am_sub_s (am_sub_s (am_sub_n am_sub_nil))))))) ?_
      exact K55 _ _ (if_pos h55).symm (if_pos h55).symm 
    · refine T_iload (am_dec tX11_when_0 33 rfl) rfl ?_
      refine T_istore_n (ls' := [some (aR 0), some (aI l), some (aI wy), some (aI ((u47).1)), some (aI stp), some (aI s), some (aI ((u47).1))]) (am_dec tX11_when_0 34 rfl) (by decide) rfl ?_
      refine T_iload (am_dec tX11_when_0 35 rfl) rfl ?_
      refine T_istore (ls' := [some (aR 0), some (aI l), some (aI wy), some (aI ((u47).1)), some (aI s), some (aI s), some (aI ((u47).1))]) (am_dec tX11_when_0 36 rfl) (by decide) rfl ?_
      refine T_weak (ls' := [some (aR 0), some (aI l), some (aI wy), some (aI ((u47).1)), some (aI s), some (aI s), none]) (am_sub_s (am_sub_s (am_sub_s (am_sub_s (am_sub_s (am_sub_s (am_sub_n am_sub_nil))))))) ?_
      exact K55 _ _ (if_neg h55).symm (if_neg h55).symm 
def c_when (ee : am_F) (hh : am_F) (rr : am_F) (aa : am_F) (bd : am_F) (l : Int) (wy : Int) : Int × Int × am_F × am_F × am_F := (if n_row (hh 0 7) l = 0 then (if n_range wy 0 1 = 0 then (let stp_27 : Int := (am_fold (g_c_when_27 hh bd l wy) 0 40 (0, (-1), rr, aa)).2.1; (let rr27 : am_F := (am_fold (g_c_when_27 hh bd l wy) 0 40 (0, (-1), rr, aa)).2.2.1; (let aa27 : am_F := (am_fold (g_c_when_27 hh bd l wy) 0 40 (0, (-1), rr, aa)).2.2.2; (0, stp_27, ee, rr27, aa27)))) else ((n_range wy 0 1), 0, n_ref ee (n_range wy 0 1), rr, aa)) else ((n_row (hh 0 7) l), 0, n_ref ee (n_row (hh 0 7) l), rr, aa))
theorem mc_when {S : am_S} {d u : Nat} {w : AH} {hb sp rb rs : Nat} {po ro : AV} (hl : 109 ≤ w.length) (hp : hb = 1 ∧ sp = 21 ∨ hb = 21 ∧ sp = 1) (hr : rb = 41 ∧ rs = 46 ∨ rb = 46 ∧ rs = 41) {ee : am_F} {hh : am_F} {ss : am_F} {uu : am_F} {vv : am_F} {pp : am_F} {kk : am_F} {rr : am_F} {tt : am_F} {gg : am_F} {aa : am_F} {dd : am_F} {bd : am_F} {ga : am_F} {im : am_F} (l : Int) (wy : Int) (hI : HbI hh) (hRI : RnI rr) (hBd : BdI bd) (hu : 1 ≤ u) (hd : 7 ≤ d) : am_Out S zX11_when d u [aR 0, aI l, aI wy] (hfW w hb sp rb rs hb po ro ee hh ss uu vv pp kk rr tt gg aa dd bd ga im) (am_oc ((c_when ee hh rr aa bd l wy).1) ((c_when ee hh rr aa bd l wy).2.1)) (hfW w hb sp rb rs hb po ro ((c_when ee hh rr aa bd l wy).2.2.1) hh ss uu vv pp kk ((c_when ee hh rr aa bd l wy).2.2.2.1) tt gg ((c_when ee hh rr aa bd l wy).2.2.2.2) dd bd ga im) := by
  have key : ∀ Q : AO → AH → Prop, Q (am_oc ((c_when ee hh rr aa bd l wy).1) ((c_when ee hh rr aa bd l wy).2.1)) (hfW w hb sp rb rs hb po ro ((c_when ee hh rr aa bd l wy).2.2.1) hh ss uu vv pp kk ((c_when ee hh rr aa bd l wy).2.2.2.1) tt gg ((c_when ee hh rr aa bd l wy).2.2.2.2) dd bd ga im) → am_M S zX11_when d u [aR 0, aI l, aI wy] (hfW w hb sp rb rs hb po ro ee hh ss uu vv pp kk rr tt gg aa dd bd ga im) Q := by
    intro Q hQ
    refine am_body rfl (by decide +kernel) rfl (am_cats_cons rfl ( am_cats_cons rfl ( am_cats_cons rfl (am_cats_nil)))) (Nat.le_of_ble_eq_true rfl) (?_ : am_T _ _ _ _ _ 0 [some (aR 0), some (aI l), some (aI wy), none, none, none, none] [] (hfW w hb sp rb rs hb po ro ee hh ss uu vv pp kk rr tt gg aa dd bd ga im))
    obtain ⟨vh1, vh2, vh3, vh4, vh5, vh6, vh7, vh8, vh9, vh10, vh11, vh12, vh13, vh14, vh15, vh16, vh17, vh18, vh19, vh20, vh21, vh22⟩ := (HbI_A hI).1
    have hBd9 := hBd
    obtain ⟨vb0, ⟨vb1, vb2⟩, vb3⟩ := hBd9
    refine T_aload_n (am_dec tX11_when_0 0 rfl) rfl ?_
    refine T_aload_n (am_dec tX11_when_0 1 rfl) rfl ?_
    refine T_getfield 10 0 (am_dec tX11_when_0 2 rfl) flX11_10_10 (show (hfW w hb sp rb rs hb po ro ee hh ss uu vv pp kk rr tt gg aa dd bd ga im)[0]? = some (cO 10 [aR hb, aR sp, aR rb, aR rs, aR 52, aR 53, aR 51, aI (ee 0 7), aI (ee 0 8), aR 54, aR 64, aR 74, aR 77, aR 83, aR 84, aR 86, aR 88, aI (ee 0 17), aR 107, aR 108]) from (hfW_c hl 0 (by decide))) rfl ?_
    refine T_getfield 3 7 (am_dec tX11_when_0 3 rfl) flX11_149_3 (show (hfW w hb sp rb rs hb po ro ee hh ss uu vv pp kk rr tt gg aa dd bd ga im)[hb]? = some (cO 3 [aI (hh 0 0), aI (hh 0 1), aI (hh 0 2), aR (hb + 1), aR (hb + 3), aR (hb + 5), aR (hb + 7), aR (hb + 9), aR (hb + 11), aR (hb + 13), aR (hb + 15), aR (hb + 17), aR (hb + 18), aR (hb + 19)]) from ((hf_H hl hp) 0 (by decide))) rfl ?_
    refine T_iload_n (am_dec tX11_when_0 4 rfl) rfl ?_
    refine T_callVo (as := [aR (hb + 9), aI l]) (code := n_row (hh 0 7) l) rfl (am_dec tX11_when_0 5 rfl) lkX11_190 (show (hfW w hb sp rb rs hb po ro ee hh ss uu vv pp kk rr tt gg aa dd bd ga im)[0]? = some (cO 10 [aR hb, aR sp, aR rb, aR rs, aR 52, aR 53, aR 51, aI (ee 0 7), aI (ee 0 8), aR 54, aR 64, aR 74, aR 77, aR 83, aR 84, aR 86, aR 88, aI (ee 0 17), aR 107, aR 108]) from (hfW_c hl 0 (by decide))) rfl rfl (Nat.le_of_ble_eq_true rfl) (by omega) (by omega) (fun hN9 => (mx_row0 (d := d - 1) hl hp hr l (show (hfW w hb sp rb rs hb po ro ee hh ss uu vv pp kk rr tt gg aa dd bd ga im)[hb + 9]? = some (cO 9 [aI 6, aR (hb + 10), aI (hh 0 7)]) from ((hf_H hl hp) 9 (by decide))) (show (hfW w hb sp rb rs hb po ro ee hh ss uu vv pp kk rr tt gg aa dd bd ga im)[hb + 10]? = some (cP 0 48 (hh 5)) from ((hf_H hl hp) 10 (by decide))) (by omega) hN9 (by omega))) (fun hN9 => (x_rowX (d := d - 1) hl hp hr l (show (hfW w hb sp rb rs hb po ro ee hh ss uu vv pp kk rr tt gg aa dd bd ga im)[hb + 9]? = some (cO 9 [aI 6, aR (hb + 10), aI (hh 0 7)]) from ((hf_H hl hp) 9 (by decide))) (show (hfW w hb sp rb rs hb po ro ee hh ss uu vv pp kk rr tt gg aa dd bd ga im)[hb + 10]? = some (cP 0 48 (hh 5)) from ((hf_H hl hp) 10 (by decide))) (by omega) hN9 (by omega) (by omega))) (fun hN9 => ?_) (fun hN9 => ?_)
    · exact (am_tr (fun (x9 : Int × Int × am_F × am_F × am_F) => Q (am_oc (x9.1) (x9.2.1)) (hfW w hb sp rb rs hb po ro x9.2.2.1 hh ss uu vv pp kk x9.2.2.2.1 tt gg x9.2.2.2.2 dd bd ga im)) (y := ((n_row (hh 0 7) l), 0, n_ref ee (n_row (hh 0 7) l), rr, aa)) (show (c_when ee hh rr aa bd l wy) = ((n_row (hh 0 7) l), 0, n_ref ee (n_row (hh 0 7) l), rr, aa) from (if_neg hN9)) hQ)
    have hk9 := n_row_0 hN9
    refine T_aload_n (am_dec tX11_when_0 6 rfl) rfl ?_
    refine T_iload_n (am_dec tX11_when_0 7 rfl) rfl ?_
    refine T_iconst 0 (am_dec tX11_when_0 8 rfl) rfl ⟨by decide, by decide⟩ ?_
    refine T_iconst 1 (am_dec tX11_when_0 9 rfl) rfl ⟨by decide, by decide⟩ ?_
    refine T_callVo (as := [aI wy, aI 0, aI 1]) (code := n_range wy 0 1) rfl (am_dec tX11_when_0 10 rfl) lkX11_117 (show (hfW w hb sp rb rs hb po ro ee hh ss uu vv pp kk rr tt gg aa dd bd ga im)[0]? = some (cO 10 [aR hb, aR sp, aR rb, aR rs, aR 52, aR 53, aR 51, aI (ee 0 7), aI (ee 0 8), aR 54, aR 64, aR 74, aR 77, aR 83, aR 84, aR 86, aR 88, aI (ee 0 17), aR 107, aR 108]) from (hfW_c hl 0 (by decide))) rfl rfl (Nat.le_of_ble_eq_true rfl) (by omega) (by omega) (fun hN16 => (mx_range0 (d := d - 1) hl hp hr wy 0 1  hN16 (by omega))) (fun hN16 => (x_rangeX (d := d - 1) hl hp hr wy 0 1  hN16 (by omega) (by omega))) (fun hN16 => ?_) (fun hN16 => ?_)
    · exact (am_tr (fun (x9 : Int × Int × am_F × am_F × am_F) => Q (am_oc (x9.1) (x9.2.1)) (hfW w hb sp rb rs hb po ro x9.2.2.1 hh ss uu vv pp kk x9.2.2.2.1 tt gg x9.2.2.2.2 dd bd ga im)) (y := ((n_range wy 0 1), 0, n_ref ee (n_range wy 0 1), rr, aa)) (show (c_when ee hh rr aa bd l wy) = ((n_range wy 0 1), 0, n_ref ee (n_range wy 0 1), rr, aa) from ((if_pos hN9).trans (if_neg hN16))) hQ)
    have hk16 := n_range_0 hN16
    refine T_iconst 0 (am_dec tX11_when_0 11 rfl) rfl ⟨by decide, by decide⟩ ?_
    refine T_istore_n (ls' := [some (aR 0), some (aI l), some (aI wy), some (aI 0), none, none, none]) (am_dec tX11_when_0 12 rfl) (by decide) rfl ?_
    refine T_iconst (-1) (am_dec tX11_when_0 13 rfl) rfl ⟨by decide, by decide⟩ ?_
    refine T_istore (ls' := [some (aR 0), some (aI l), some (aI wy), some (aI 0), some (aI (-1)), none, none]) (am_dec tX11_when_0 14 rfl) (by decide) rfl ?_
    refine T_iconst 0 (am_dec tX11_when_0 15 rfl) rfl ⟨by decide, by decide⟩ ?_
    refine T_istore (ls' := [some (aR 0), some (aI l), some (aI wy), some (aI 0), some (aI (-1)), some (aI 0), none]) (am_dec tX11_when_0 16 rfl) (by decide) rfl ?_
    refine L_c_when_27 hl hp hr ee hh ss uu vv pp kk tt gg dd bd ga im l wy  hI hBd (by omega) _ rfl 40 0 0 (-1) rr aa (by omega) (by omega) hRI (fun mst_27 stp_27 rr27 aa27 hmst_27 hstp_27 hrr27 haa27 hv27 => ?_)
    refine T_iload (am_dec tX11_when_0 39 rfl) rfl ?_
    exact T_ireturn (am_dec tX11_when_1 0 rfl) rfl (am_tr (fun (x9 : Int × Int × am_F × am_F × am_F) => Q (am_oc (x9.1) (x9.2.1)) (hfW w hb sp rb rs hb po ro x9.2.2.1 hh ss uu vv pp kk x9.2.2.2.1 tt gg x9.2.2.2.2 dd bd ga im)) (y := (0, stp_27, ee, rr27, aa27)) (show (c_when ee hh rr aa bd l wy) = (0, stp_27, ee, rr27, aa27) from (by have s9 := hmst_27.symm; subst s9; have s9 := hstp_27.symm; subst s9; have s9 := hrr27.symm; subst s9; have s9 := haa27.symm; subst s9; exact ((if_pos hN9).trans (if_pos hN16)))) hQ)
  exact key _ ⟨rfl, rfl⟩
def g_c_asked_41 (hh : am_F) (bd : am_F) (l : Int) (st : Int) (wy : Int) (f : Int) (x9 : Int × Int × am_F × am_F) : Int × Int × am_F × am_F := let mst := x9.1; let flr := x9.2.1; let rr := x9.2.2.1; let aa := x9.2.2.2; (let u54 : Int × am_F × am_F := c_takings hh rr aa bd l st wy f; (let mst_63 : Int := (if (u54).1 ≤ mst then mst else ((u54).1)); (let flr_63 : Int := (if (u54).1 ≤ mst then flr else f); (mst_63, flr_63, (u54).2.1, (u54).2.2))))
theorem L_c_asked_41 {S : am_S} {d u : Nat} {Q : AO → AH → Prop} {w : AH} {hb sp rb rs : Nat} {po ro : AV} (hl : 109 ≤ w.length) (hp : hb = 1 ∧ sp = 21 ∨ hb = 21 ∧ sp = 1) (hr : rb = 41 ∧ rs = 46 ∨ rb = 46 ∧ rs = 41) (ee : am_F) (hh : am_F) (ss : am_F) (uu : am_F) (vv : am_F) (pp : am_F) (kk : am_F) (tt : am_F) (gg : am_F) (dd : am_F) (bd : am_F) (ga : am_F) (im : am_F) (l : Int) (st : Int) (wy : Int) (what : Int)  (hI : HbI hh) (hBd : BdI bd) (hd : 8 ≤ d) (B9 : Int) (hB : B9 = 10) : ∀ (n : Nat) (f : Int) (mst : Int) (flr : Int) (rr : am_F) (aa : am_F), f + n = B9 → 0 ≤ f → RnI rr → (∀ (mst' : Int) (flr' : Int) (rr' : am_F) (aa' : am_F), mst' = (am_fold (g_c_asked_41 hh bd l st wy) f n (mst, flr, rr, aa)).1 → flr' = (am_fold (g_c_asked_41 hh bd l st wy) f n (mst, flr, rr, aa)).2.1 → rr' = (am_fold (g_c_asked_41 hh bd l st wy) f n (mst, flr, rr, aa)).2.2.1 → aa' = (am_fold (g_c_asked_41 hh bd l st wy) f n (mst, flr, rr, aa)).2.2.2 → RnI rr' → am_T S zX11_asked d u Q 80 [none, none, none, none, some (aI what), some (aI mst'), some (aI flr'), none, none] [] (hfW w hb sp rb rs hb po ro ee hh ss uu vv pp kk rr' tt gg aa' dd bd ga im)) → am_T S zX11_asked d u Q 41 [some (aR 0), some (aI l), some (aI st), some (aI wy), some (aI what), some (aI mst), some (aI flr), some (aI f), none] [] (hfW w hb sp rb rs hb po ro ee hh ss uu vv pp kk rr tt gg aa dd bd ga im) := by
  intro n
  induction n with
  | zero =>
    intro f mst flr rr aa hi9 h0i hinv k9
    have e9 : f = B9 := by omega
    subst e9
    obtain ⟨vh1, vh2, vh3, vh4, vh5, vh6, vh7, vh8, vh9, vh10, vh11, vh12, vh13, vh14, vh15, vh16, vh17, vh18, vh19, vh20, vh21, vh22⟩ := (HbI_A hI).1
    have hBd9 := hBd
    obtain ⟨vb0, ⟨vb1, vb2⟩, vb3⟩ := hBd9
    have hRI := hinv
    refine T_iload (am_dec tX11_asked_0 25 rfl) rfl ?_
    refine T_bipush 9 (am_dec tX11_asked_0 26 rfl) rfl ⟨by decide, by decide⟩ ?_
    refine T_icmp_gt 80 (am_dec tX11_asked_0 27 rfl) rfl (fun h45 => ?_) (fun h45 => by exfalso; omega)
    refine T_weak (ls' := [none, none, none, none, some (aI what), some (aI mst), some (aI flr), none, none]) (am_sub_n (am_sub_n (am_sub_n (am_sub_n (am_sub_s (am_sub_s (am_sub_s (am_sub_n (am_sub_n am_sub_nil))))))))) ?_
    exact k9 mst flr rr aa rfl rfl rfl rfl hinv
  | succ n ih =>
    intro f mst flr rr aa hi9 h0i hinv k9
    obtain ⟨vh1, vh2, vh3, vh4, vh5, vh6, vh7, vh8, vh9, vh10, vh11, vh12, vh13, vh14, vh15, vh16, vh17, vh18, vh19, vh20, vh21, vh22⟩ := (HbI_A hI).1
    have hBd9 := hBd
    obtain ⟨vb0, ⟨vb1, vb2⟩, vb3⟩ := hBd9
    have hRI := hinv
    refine T_iload (am_dec tX11_asked_0 25 rfl) rfl ?_
    refine T_bipush 9 (am_dec tX11_asked_0 26 rfl) rfl ⟨by decide, by decide⟩ ?_
    refine T_icmp_gt 80 (am_dec tX11_asked_0 27 rfl) rfl (fun h45 => by exfalso; omega) (fun h45 => ?_)
    refine T_aload_n (am_dec tX11_asked_0 28 rfl) rfl ?_
    refine T_iload_n (am_dec tX11_asked_0 29 rfl) rfl ?_
    refine T_iload_n (am_dec tX11_asked_0 30 rfl) rfl ?_
    refine T_iload_n (am_dec tX11_asked_0 31 rfl) rfl ?_
    refine T_iload (am_dec tX11_asked_0 32 rfl) rfl ?_
    refine T_callV (as := [aI l, aI st, aI wy, aI f]) rfl (am_dec tX11_asked_0 33 rfl) lkX11_332 (show (hfW w hb sp rb rs hb po ro ee hh ss uu vv pp kk rr tt gg aa dd bd ga im)[0]? = some (cO 10 [aR hb, aR sp, aR rb, aR rs, aR 52, aR 53, aR 51, aI (ee 0 7), aI (ee 0 8), aR 54, aR 64, aR 74, aR 77, aR 83, aR 84, aR 86, aR 88, aI (ee 0 17), aR 107, aR 108]) from (hfW_c hl 0 (by decide))) rfl rfl (Nat.le_of_ble_eq_true rfl) (by omega) (mc_takings (d := d - 1) hl hp hr l st wy f  hI hRI hBd (by omega)) (fun _ => ?_)
    obtain ⟨u54, hu54⟩ : ∃ x9, x9 = c_takings hh rr aa bd l st wy f := ⟨_, rfl⟩
    rw [← hu54]
    have hIu54 : RnI u54.2.1 := by rw [hu54]; exact f_upTo_I (HbI_A hI) hRI
    refine T_istore (ls' := [some (aR 0), some (aI l), some (aI st), some (aI wy), some (aI what), some (aI mst), some (aI flr), some (aI f), some (aI ((u54).1))]) (am_dec tX11_asked_0 34 rfl) (by decide) rfl ?_
    refine T_iload (am_dec tX11_asked_0 35 rfl) rfl ?_
    refine T_iload (am_dec tX11_asked_0 36 rfl) rfl ?_
    have K63 : ∀ (mst_63 : Int), ∀ (flr_63 : Int), mst_63 = (if (u54).1 ≤ mst then mst else ((u54).1)) → flr_63 = (if (u54).1 ≤ mst then flr else f) →  am_T S zX11_asked d u Q 74 [some (aR 0), some (aI l), some (aI st), some (aI wy), some (aI what), some (aI mst_63), some (aI flr_63), some (aI f), none] [] (hfW w hb sp rb rs hb po ro ee hh ss uu vv pp kk ((u54).2.1) tt gg ((u54).2.2) dd bd ga im) := by
      intro mst_63 flr_63 hmst_63 hflr_63 
      refine T_iinc (ls' := [some (aR 0), some (aI l), some (aI st), some (aI wy), some (aI what), some (aI mst_63), some (aI flr_63), some (aI (f + 1)), none]) (f + 1) (am_dec tX11_asked_1 2 rfl) rfl rfl ⟨by omega, by omega⟩ (by decide) rfl ?_
      refine T_goto 41 (am_dec tX11_asked_1 3 rfl) rfl ?_
      have e9 : (g_c_asked_41 hh bd l st wy) f (mst, flr, rr, aa) = (mst_63, flr_63, (u54).2.1, (u54).2.2) := (by have s9 := hu54.symm; subst s9; have s9 := hmst_63.symm; subst s9; have s9 := hflr_63.symm; subst s9; exact rfl)
      simp only [am_fold_s, e9] at k9
      exact ih (f + 1) mst_63 flr_63 ((u54).2.1) ((u54).2.2) (by omega) (by omega) hIu54 k9
    refine T_icmp_le 74 (am_dec tX11_asked_0 37 rfl) rfl (fun h63 => ?_) (fun h63 => ?_)
    · refine T_weak (ls' := [some (aR 0), some (aI l), some (aI st), some (aI wy), some (aI what), some (aI mst), some (aI flr), some (aI f), none]) (am_sub_s (am_sub_s (am_sub_s (am_sub_s (am_sub_s (am_sub_s (am_sub_s (am_sub_s (am_sub_n am_sub_nil))))))))) ?_
      exact K63 _ _ (if_pos h63).symm (if_pos h63).symm 
    · refine T_iload (am_dec tX11_asked_0 38 rfl) rfl ?_
      refine T_istore (ls' := [some (aR 0), some (aI l), some (aI st), some (aI wy), some (aI what), some (aI ((u54).1)), some (aI flr), some (aI f), some (aI ((u54).1))]) (am_dec tX11_asked_0 39 rfl) (by decide) rfl ?_
      refine T_iload (am_dec tX11_asked_1 0 rfl) rfl ?_
      refine T_istore (ls' := [some (aR 0), some (aI l), some (aI st), some (aI wy), some (aI what), some (aI ((u54).1)), some (aI f), some (aI f), some (aI ((u54).1))]) (am_dec tX11_asked_1 1 rfl) (by decide) rfl ?_
      refine T_weak (ls' := [some (aR 0), some (aI l), some (aI st), some (aI wy), some (aI what), some (aI ((u54).1)), some (aI f), some (aI f), none]) (am_sub_s (am_sub_s (am_sub_s (am_sub_s (am_sub_s (am_sub_s (am_sub_s (am_sub_s (am_sub_n am_sub_nil))))))))) ?_
      exact K63 _ _ (if_neg h63).symm (if_neg h63).symm 
def c_asked (ee : am_F) (hh : am_F) (rr : am_F) (aa : am_F) (bd : am_F) (l : Int) (st : Int) (wy : Int) (what : Int) : Int × Int × am_F × am_F × am_F := (if n_row (hh 0 7) l = 0 then (if n_step st = 0 then (if n_range wy 0 1 = 0 then (if n_range what 0 1 = 0 then (let mst_41 : Int := (am_fold (g_c_asked_41 hh bd l st wy) 0 10 ((-1), 0, rr, aa)).1; (let flr_41 : Int := (am_fold (g_c_asked_41 hh bd l st wy) 0 10 ((-1), 0, rr, aa)).2.1; (let rr41 : am_F := (am_fold (g_c_asked_41 hh bd l st wy) 0 10 ((-1), 0, rr, aa)).2.2.1; (let aa41 : am_F := (am_fold (g_c_asked_41 hh bd l st wy) 0 10 ((-1), 0, rr, aa)).2.2.2; (let t82 : Int := (if what = 0 then flr_41 else mst_41); (0, t82, ee, rr41, aa41)))))) else ((n_range what 0 1), 0, n_ref ee (n_range what 0 1), rr, aa)) else ((n_range wy 0 1), 0, n_ref ee (n_range wy 0 1), rr, aa)) else ((n_step st), 0, n_ref ee (n_step st), rr, aa)) else ((n_row (hh 0 7) l), 0, n_ref ee (n_row (hh 0 7) l), rr, aa))
theorem mc_asked {S : am_S} {d u : Nat} {w : AH} {hb sp rb rs : Nat} {po ro : AV} (hl : 109 ≤ w.length) (hp : hb = 1 ∧ sp = 21 ∨ hb = 21 ∧ sp = 1) (hr : rb = 41 ∧ rs = 46 ∨ rb = 46 ∧ rs = 41) {ee : am_F} {hh : am_F} {ss : am_F} {uu : am_F} {vv : am_F} {pp : am_F} {kk : am_F} {rr : am_F} {tt : am_F} {gg : am_F} {aa : am_F} {dd : am_F} {bd : am_F} {ga : am_F} {im : am_F} (l : Int) (st : Int) (wy : Int) (what : Int) (hI : HbI hh) (hRI : RnI rr) (hBd : BdI bd) (hu : 1 ≤ u) (hd : 8 ≤ d) : am_Out S zX11_asked d u [aR 0, aI l, aI st, aI wy, aI what] (hfW w hb sp rb rs hb po ro ee hh ss uu vv pp kk rr tt gg aa dd bd ga im) (am_oc ((c_asked ee hh rr aa bd l st wy what).1) ((c_asked ee hh rr aa bd l st wy what).2.1)) (hfW w hb sp rb rs hb po ro ((c_asked ee hh rr aa bd l st wy what).2.2.1) hh ss uu vv pp kk ((c_asked ee hh rr aa bd l st wy what).2.2.2.1) tt gg ((c_asked ee hh rr aa bd l st wy what).2.2.2.2) dd bd ga im) := by
  have key : ∀ Q : AO → AH → Prop, Q (am_oc ((c_asked ee hh rr aa bd l st wy what).1) ((c_asked ee hh rr aa bd l st wy what).2.1)) (hfW w hb sp rb rs hb po ro ((c_asked ee hh rr aa bd l st wy what).2.2.1) hh ss uu vv pp kk ((c_asked ee hh rr aa bd l st wy what).2.2.2.1) tt gg ((c_asked ee hh rr aa bd l st wy what).2.2.2.2) dd bd ga im) → am_M S zX11_asked d u [aR 0, aI l, aI st, aI wy, aI what] (hfW w hb sp rb rs hb po ro ee hh ss uu vv pp kk rr tt gg aa dd bd ga im) Q := by
    intro Q hQ
    refine am_body rfl (by decide +kernel) rfl (am_cats_cons rfl ( am_cats_cons rfl ( am_cats_cons rfl ( am_cats_cons rfl ( am_cats_cons rfl (am_cats_nil)))))) (Nat.le_of_ble_eq_true rfl) (?_ : am_T _ _ _ _ _ 0 [some (aR 0), some (aI l), some (aI st), some (aI wy), some (aI what), none, none, none, none] [] (hfW w hb sp rb rs hb po ro ee hh ss uu vv pp kk rr tt gg aa dd bd ga im))
    obtain ⟨vh1, vh2, vh3, vh4, vh5, vh6, vh7, vh8, vh9, vh10, vh11, vh12, vh13, vh14, vh15, vh16, vh17, vh18, vh19, vh20, vh21, vh22⟩ := (HbI_A hI).1
    have hBd9 := hBd
    obtain ⟨vb0, ⟨vb1, vb2⟩, vb3⟩ := hBd9
    refine T_aload_n (am_dec tX11_asked_0 0 rfl) rfl ?_
    refine T_aload_n (am_dec tX11_asked_0 1 rfl) rfl ?_
    refine T_getfield 10 0 (am_dec tX11_asked_0 2 rfl) flX11_10_10 (show (hfW w hb sp rb rs hb po ro ee hh ss uu vv pp kk rr tt gg aa dd bd ga im)[0]? = some (cO 10 [aR hb, aR sp, aR rb, aR rs, aR 52, aR 53, aR 51, aI (ee 0 7), aI (ee 0 8), aR 54, aR 64, aR 74, aR 77, aR 83, aR 84, aR 86, aR 88, aI (ee 0 17), aR 107, aR 108]) from (hfW_c hl 0 (by decide))) rfl ?_
    refine T_getfield 3 7 (am_dec tX11_asked_0 3 rfl) flX11_149_3 (show (hfW w hb sp rb rs hb po ro ee hh ss uu vv pp kk rr tt gg aa dd bd ga im)[hb]? = some (cO 3 [aI (hh 0 0), aI (hh 0 1), aI (hh 0 2), aR (hb + 1), aR (hb + 3), aR (hb + 5), aR (hb + 7), aR (hb + 9), aR (hb + 11), aR (hb + 13), aR (hb + 15), aR (hb + 17), aR (hb + 18), aR (hb + 19)]) from ((hf_H hl hp) 0 (by decide))) rfl ?_
    refine T_iload_n (am_dec tX11_asked_0 4 rfl) rfl ?_
    refine T_callVo (as := [aR (hb + 9), aI l]) (code := n_row (hh 0 7) l) rfl (am_dec tX11_asked_0 5 rfl) lkX11_190 (show (hfW w hb sp rb rs hb po ro ee hh ss uu vv pp kk rr tt gg aa dd bd ga im)[0]? = some (cO 10 [aR hb, aR sp, aR rb, aR rs, aR 52, aR 53, aR 51, aI (ee 0 7), aI (ee 0 8), aR 54, aR 64, aR 74, aR 77, aR 83, aR 84, aR 86, aR 88, aI (ee 0 17), aR 107, aR 108]) from (hfW_c hl 0 (by decide))) rfl rfl (Nat.le_of_ble_eq_true rfl) (by omega) (by omega) (fun hN9 => (mx_row0 (d := d - 1) hl hp hr l (show (hfW w hb sp rb rs hb po ro ee hh ss uu vv pp kk rr tt gg aa dd bd ga im)[hb + 9]? = some (cO 9 [aI 6, aR (hb + 10), aI (hh 0 7)]) from ((hf_H hl hp) 9 (by decide))) (show (hfW w hb sp rb rs hb po ro ee hh ss uu vv pp kk rr tt gg aa dd bd ga im)[hb + 10]? = some (cP 0 48 (hh 5)) from ((hf_H hl hp) 10 (by decide))) (by omega) hN9 (by omega))) (fun hN9 => (x_rowX (d := d - 1) hl hp hr l (show (hfW w hb sp rb rs hb po ro ee hh ss uu vv pp kk rr tt gg aa dd bd ga im)[hb + 9]? = some (cO 9 [aI 6, aR (hb + 10), aI (hh 0 7)]) from ((hf_H hl hp) 9 (by decide))) (show (hfW w hb sp rb rs hb po ro ee hh ss uu vv pp kk rr tt gg aa dd bd ga im)[hb + 10]? = some (cP 0 48 (hh 5)) from ((hf_H hl hp) 10 (by decide))) (by omega) hN9 (by omega) (by omega))) (fun hN9 => ?_) (fun hN9 => ?_)
    · exact (am_tr (fun (x9 : Int × Int × am_F × am_F × am_F) => Q (am_oc (x9.1) (x9.2.1)) (hfW w hb sp rb rs hb po ro x9.2.2.1 hh ss uu vv pp kk x9.2.2.2.1 tt gg x9.2.2.2.2 dd bd ga im)) (y := ((n_row (hh 0 7) l), 0, n_ref ee (n_row (hh 0 7) l), rr, aa)) (show (c_asked ee hh rr aa bd l st wy what) = ((n_row (hh 0 7) l), 0, n_ref ee (n_row (hh 0 7) l), rr, aa) from (if_neg hN9)) hQ)
    have hk9 := n_row_0 hN9
    refine T_aload_n (am_dec tX11_asked_0 6 rfl) rfl ?_
    refine T_iload_n (am_dec tX11_asked_0 7 rfl) rfl ?_
    refine T_callVo (as := [aI st]) (code := n_step st) rfl (am_dec tX11_asked_0 8 rfl) lkX11_194 (show (hfW w hb sp rb rs hb po ro ee hh ss uu vv pp kk rr tt gg aa dd bd ga im)[0]? = some (cO 10 [aR hb, aR sp, aR rb, aR rs, aR 52, aR 53, aR 51, aI (ee 0 7), aI (ee 0 8), aR 54, aR 64, aR 74, aR 77, aR 83, aR 84, aR 86, aR 88, aI (ee 0 17), aR 107, aR 108]) from (hfW_c hl 0 (by decide))) rfl rfl (Nat.le_of_ble_eq_true rfl) (by omega) (by omega) (fun hN14 => (mx_step0 (d := d - 1) hl hp hr st  hN14 (by omega))) (fun hN14 => (x_stepX (d := d - 1) hl hp hr st  hN14 (by omega) (by omega))) (fun hN14 => ?_) (fun hN14 => ?_)
    · exact (am_tr (fun (x9 : Int × Int × am_F × am_F × am_F) => Q (am_oc (x9.1) (x9.2.1)) (hfW w hb sp rb rs hb po ro x9.2.2.1 hh ss uu vv pp kk x9.2.2.2.1 tt gg x9.2.2.2.2 dd bd ga im)) (y := ((n_step st), 0, n_ref ee (n_step st), rr, aa)) (show (c_asked ee hh rr aa bd l st wy what) = ((n_step st), 0, n_ref ee (n_step st), rr, aa) from ((if_pos hN9).trans (if_neg hN14))) hQ)
    have hk14 := n_step_0 hN14
    refine T_aload_n (am_dec tX11_asked_0 9 rfl) rfl ?_
    refine T_iload_n (am_dec tX11_asked_0 10 rfl) rfl ?_
    refine T_iconst 0 (am_dec tX11_asked_0 11 rfl) rfl ⟨by decide, by decide⟩ ?_
    refine T_iconst 1 (am_dec tX11_asked_0 12 rfl) rfl ⟨by decide, by decide⟩ ?_
    refine T_callVo (as := [aI wy, aI 0, aI 1]) (code := n_range wy 0 1) rfl (am_dec tX11_asked_0 13 rfl) lkX11_117 (show (hfW w hb sp rb rs hb po ro ee hh ss uu vv pp kk rr tt gg aa dd bd ga im)[0]? = some (cO 10 [aR hb, aR sp, aR rb, aR rs, aR 52, aR 53, aR 51, aI (ee 0 7), aI (ee 0 8), aR 54, aR 64, aR 74, aR 77, aR 83, aR 84, aR 86, aR 88, aI (ee 0 17), aR 107, aR 108]) from (hfW_c hl 0 (by decide))) rfl rfl (Nat.le_of_ble_eq_true rfl) (by omega) (by omega) (fun hN21 => (mx_range0 (d := d - 1) hl hp hr wy 0 1  hN21 (by omega))) (fun hN21 => (x_rangeX (d := d - 1) hl hp hr wy 0 1  hN21 (by omega) (by omega))) (fun hN21 => ?_) (fun hN21 => ?_)
    · exact (am_tr (fun (x9 : Int × Int × am_F × am_F × am_F) => Q (am_oc (x9.1) (x9.2.1)) (hfW w hb sp rb rs hb po ro x9.2.2.1 hh ss uu vv pp kk x9.2.2.2.1 tt gg x9.2.2.2.2 dd bd ga im)) (y := ((n_range wy 0 1), 0, n_ref ee (n_range wy 0 1), rr, aa)) (show (c_asked ee hh rr aa bd l st wy what) = ((n_range wy 0 1), 0, n_ref ee (n_range wy 0 1), rr, aa) from ((if_pos hN9).trans ((if_pos hN14).trans (if_neg hN21)))) hQ)
    have hk21 := n_range_0 hN21
    refine T_aload_n (am_dec tX11_asked_0 14 rfl) rfl ?_
    refine T_iload (am_dec tX11_asked_0 15 rfl) rfl ?_
    refine T_iconst 0 (am_dec tX11_asked_0 16 rfl) rfl ⟨by decide, by decide⟩ ?_
    refine T_iconst 1 (am_dec tX11_asked_0 17 rfl) rfl ⟨by decide, by decide⟩ ?_
    refine T_callVo (as := [aI what, aI 0, aI 1]) (code := n_range what 0 1) rfl (am_dec tX11_asked_0 18 rfl) lkX11_117 (show (hfW w hb sp rb rs hb po ro ee hh ss uu vv pp kk rr tt gg aa dd bd ga im)[0]? = some (cO 10 [aR hb, aR sp, aR rb, aR rs, aR 52, aR 53, aR 51, aI (ee 0 7), aI (ee 0 8), aR 54, aR 64, aR 74, aR 77, aR 83, aR 84, aR 86, aR 88, aI (ee 0 17), aR 107, aR 108]) from (hfW_c hl 0 (by decide))) rfl rfl (Nat.le_of_ble_eq_true rfl) (by omega) (by omega) (fun hN29 => (mx_range0 (d := d - 1) hl hp hr what 0 1  hN29 (by omega))) (fun hN29 => (x_rangeX (d := d - 1) hl hp hr what 0 1  hN29 (by omega) (by omega))) (fun hN29 => ?_) (fun hN29 => ?_)
    · exact (am_tr (fun (x9 : Int × Int × am_F × am_F × am_F) => Q (am_oc (x9.1) (x9.2.1)) (hfW w hb sp rb rs hb po ro x9.2.2.1 hh ss uu vv pp kk x9.2.2.2.1 tt gg x9.2.2.2.2 dd bd ga im)) (y := ((n_range what 0 1), 0, n_ref ee (n_range what 0 1), rr, aa)) (show (c_asked ee hh rr aa bd l st wy what) = ((n_range what 0 1), 0, n_ref ee (n_range what 0 1), rr, aa) from ((if_pos hN9).trans ((if_pos hN14).trans ((if_pos hN21).trans (if_neg hN29))))) hQ)
    have hk29 := n_range_0 hN29
    refine T_iconst (-1) (am_dec tX11_asked_0 19 rfl) rfl ⟨by decide, by decide⟩ ?_
    refine T_istore (ls' := [some (aR 0), some (aI l), some (aI st), some (aI wy), some (aI what), some (aI (-1)), none, none, none]) (am_dec tX11_asked_0 20 rfl) (by decide) rfl ?_
    refine T_iconst 0 (am_dec tX11_asked_0 21 rfl) rfl ⟨by decide, by decide⟩ ?_
    refine T_istore (ls' := [some (aR 0), some (aI l), some (aI st), some (aI wy), some (aI what), some (aI (-1)), some (aI 0), none, none]) (am_dec tX11_asked_0 22 rfl) (by decide) rfl ?_
    refine T_iconst 0 (am_dec tX11_asked_0 23 rfl) rfl ⟨by decide, by decide⟩ ?_
    refine T_istore (ls' := [some (aR 0), some (aI l), some (aI st), some (aI wy), some (aI what), some (aI (-1)), some (aI 0), some (aI 0), none]) (am_dec tX11_asked_0 24 rfl) (by decide) rfl ?_
    refine L_c_asked_41 hl hp hr ee hh ss uu vv pp kk tt gg dd bd ga im l st wy what  hI hBd (by omega) _ rfl 10 0 (-1) 0 rr aa (by omega) (by omega) hRI (fun mst_41 flr_41 rr41 aa41 hmst_41 hflr_41 hrr41 haa41 hv41 => ?_)
    refine T_iload (am_dec tX11_asked_1 4 rfl) rfl ?_
    have K82 : ∀ (t82 : Int), t82 = (if what = 0 then flr_41 else mst_41) →  am_T S zX11_asked d u Q 92 [none, none, none, none, none, none, none, none, none] [aI t82] (hfW w hb sp rb rs hb po ro ee hh ss uu vv pp kk rr41 tt gg aa41 dd bd ga im) := by
      intro t82 ht82 
      exact T_ireturn (am_dec tX11_asked_1 9 rfl) rfl (am_tr (fun (x9 : Int × Int × am_F × am_F × am_F) => Q (am_oc (x9.1) (x9.2.1)) (hfW w hb sp rb rs hb po ro x9.2.2.1 hh ss uu vv pp kk x9.2.2.2.1 tt gg x9.2.2.2.2 dd bd ga im)) (y := (0, t82, ee, rr41, aa41)) (show (c_asked ee hh rr aa bd l st wy what) = (0, t82, ee, rr41, aa41) from (by have s9 := hmst_41.symm; subst s9; have s9 := hflr_41.symm; subst s9; have s9 := hrr41.symm; subst s9; have s9 := haa41.symm; subst s9; have s9 := ht82.symm; subst s9; exact ((if_pos hN9).trans ((if_pos hN14).trans ((if_pos hN21).trans (if_pos hN29)))))) hQ)
    refine T_if_ne 90 (am_dec tX11_asked_1 5 rfl) rfl (fun h82 => ?_) (fun h82 => ?_)
    · refine T_iload (am_dec tX11_asked_1 8 rfl) rfl ?_
      refine T_weak (ls' := [none, none, none, none, none, none, none, none, none]) (am_sub_n (am_sub_n (am_sub_n (am_sub_n (am_sub_n (am_sub_n (am_sub_n (am_sub_n (am_sub_n am_sub_nil))))))))) ?_
      exact K82 _ (if_neg h82).symm 
    · refine T_iload (am_dec tX11_asked_1 6 rfl) rfl ?_
      refine T_goto 92 (am_dec tX11_asked_1 7 rfl) rfl ?_
      refine T_weak (ls' := [none, none, none, none, none, none, none, none, none]) (am_sub_n (am_sub_n (am_sub_n (am_sub_n (am_sub_n (am_sub_n (am_sub_n (am_sub_n (am_sub_n am_sub_nil))))))))) ?_
      exact K82 _ (if_pos h82).symm 
  exact key _ ⟨rfl, rfl⟩
def c_gets (ee : am_F) (hh : am_F) (rr : am_F) (aa : am_F) (bd : am_F) (i : Int) (st : Int) (what : Int) : Int × Int × am_F × am_F × am_F := (if n_step st = 0 then (if n_range what 0 2 = 0 then (let z17 : Int := (if 0 ≤ i ∧ i < bd 0 2 then 1 else 0); (if z17 = 0 then (0, (-1), ee, rr, aa) else (let v31 : Int := f_at (bd 0 2) (bd 1) i 0; (let rr41 : am_F := f_upTo hh rr st; (let v61 : Int := f_inLot rr41 hh v31 st; (let v70 : Int := f_floor hh v31; (let aa73 : am_F := f_sell (bd 0 2) (bd 1) v31 v61 v70 aa; (let t77 : Int := (if what = 0 then f_got aa73 i else (let v96 : Int := f_got aa73 i; (let v111 : Int := f_priceOf aa73 (bd 0 2) (bd 1) i (what - 1); (am_w32 (v96 * v111))))); (0, t77, ee, rr41, aa73))))))))) else ((n_range what 0 2), 0, n_ref ee (n_range what 0 2), rr, aa)) else ((n_step st), 0, n_ref ee (n_step st), rr, aa))
theorem mc_gets {S : am_S} {d u : Nat} {w : AH} {hb sp rb rs : Nat} {po ro : AV} (hl : 109 ≤ w.length) (hp : hb = 1 ∧ sp = 21 ∨ hb = 21 ∧ sp = 1) (hr : rb = 41 ∧ rs = 46 ∨ rb = 46 ∧ rs = 41) {ee : am_F} {hh : am_F} {ss : am_F} {uu : am_F} {vv : am_F} {pp : am_F} {kk : am_F} {rr : am_F} {tt : am_F} {gg : am_F} {aa : am_F} {dd : am_F} {bd : am_F} {ga : am_F} {im : am_F} (i : Int) (st : Int) (what : Int) (hI : HbI hh) (hRI : RnI rr) (hBd : BdI bd) (hu : 1 ≤ u) (hd : 8 ≤ d) : am_Out S zX11_gets d u [aR 0, aI i, aI st, aI what] (hfW w hb sp rb rs hb po ro ee hh ss uu vv pp kk rr tt gg aa dd bd ga im) (am_oc ((c_gets ee hh rr aa bd i st what).1) ((c_gets ee hh rr aa bd i st what).2.1)) (hfW w hb sp rb rs hb po ro ((c_gets ee hh rr aa bd i st what).2.2.1) hh ss uu vv pp kk ((c_gets ee hh rr aa bd i st what).2.2.2.1) tt gg ((c_gets ee hh rr aa bd i st what).2.2.2.2) dd bd ga im) := by
  have key : ∀ Q : AO → AH → Prop, Q (am_oc ((c_gets ee hh rr aa bd i st what).1) ((c_gets ee hh rr aa bd i st what).2.1)) (hfW w hb sp rb rs hb po ro ((c_gets ee hh rr aa bd i st what).2.2.1) hh ss uu vv pp kk ((c_gets ee hh rr aa bd i st what).2.2.2.1) tt gg ((c_gets ee hh rr aa bd i st what).2.2.2.2) dd bd ga im) → am_M S zX11_gets d u [aR 0, aI i, aI st, aI what] (hfW w hb sp rb rs hb po ro ee hh ss uu vv pp kk rr tt gg aa dd bd ga im) Q := by
    intro Q hQ
    refine am_body rfl (by decide +kernel) rfl (am_cats_cons rfl ( am_cats_cons rfl ( am_cats_cons rfl ( am_cats_cons rfl (am_cats_nil))))) (Nat.le_of_ble_eq_true rfl) (?_ : am_T _ _ _ _ _ 0 [some (aR 0), some (aI i), some (aI st), some (aI what), none] [] (hfW w hb sp rb rs hb po ro ee hh ss uu vv pp kk rr tt gg aa dd bd ga im))
    obtain ⟨vh1, vh2, vh3, vh4, vh5, vh6, vh7, vh8, vh9, vh10, vh11, vh12, vh13, vh14, vh15, vh16, vh17, vh18, vh19, vh20, vh21, vh22⟩ := (HbI_A hI).1
    have hBd9 := hBd
    obtain ⟨vb0, ⟨vb1, vb2⟩, vb3⟩ := hBd9
    refine T_aload_n (am_dec tX11_gets_0 0 rfl) rfl ?_
    refine T_iload_n (am_dec tX11_gets_0 1 rfl) rfl ?_
    refine T_callVo (as := [aI st]) (code := n_step st) rfl (am_dec tX11_gets_0 2 rfl) lkX11_194 (show (hfW w hb sp rb rs hb po ro ee hh ss uu vv pp kk rr tt gg aa dd bd ga im)[0]? = some (cO 10 [aR hb, aR sp, aR rb, aR rs, aR 52, aR 53, aR 51, aI (ee 0 7), aI (ee 0 8), aR 54, aR 64, aR 74, aR 77, aR 83, aR 84, aR 86, aR 88, aI (ee 0 17), aR 107, aR 108]) from (hfW_c hl 0 (by decide))) rfl rfl (Nat.le_of_ble_eq_true rfl) (by omega) (by omega) (fun hN2 => (mx_step0 (d := d - 1) hl hp hr st  hN2 (by omega))) (fun hN2 => (x_stepX (d := d - 1) hl hp hr st  hN2 (by omega) (by omega))) (fun hN2 => ?_) (fun hN2 => ?_)
    · exact (am_tr (fun (x9 : Int × Int × am_F × am_F × am_F) => Q (am_oc (x9.1) (x9.2.1)) (hfW w hb sp rb rs hb po ro x9.2.2.1 hh ss uu vv pp kk x9.2.2.2.1 tt gg x9.2.2.2.2 dd bd ga im)) (y := ((n_step st), 0, n_ref ee (n_step st), rr, aa)) (show (c_gets ee hh rr aa bd i st what) = ((n_step st), 0, n_ref ee (n_step st), rr, aa) from (if_neg hN2)) hQ)
    have hk2 := n_step_0 hN2
    refine T_aload_n (am_dec tX11_gets_0 3 rfl) rfl ?_
    refine T_iload_n (am_dec tX11_gets_0 4 rfl) rfl ?_
    refine T_iconst 0 (am_dec tX11_gets_0 5 rfl) rfl ⟨by decide, by decide⟩ ?_
    refine T_iconst 2 (am_dec tX11_gets_0 6 rfl) rfl ⟨by decide, by decide⟩ ?_
    refine T_callVo (as := [aI what, aI 0, aI 2]) (code := n_range what 0 2) rfl (am_dec tX11_gets_0 7 rfl) lkX11_117 (show (hfW w hb sp rb rs hb po ro ee hh ss uu vv pp kk rr tt gg aa dd bd ga im)[0]? = some (cO 10 [aR hb, aR sp, aR rb, aR rs, aR 52, aR 53, aR 51, aI (ee 0 7), aI (ee 0 8), aR 54, aR 64, aR 74, aR 77, aR 83, aR 84, aR 86, aR 88, aI (ee 0 17), aR 107, aR 108]) from (hfW_c hl 0 (by decide))) rfl rfl (Nat.le_of_ble_eq_true rfl) (by omega) (by omega) (fun hN9 => (mx_range0 (d := d - 1) hl hp hr what 0 2  hN9 (by omega))) (fun hN9 => (x_rangeX (d := d - 1) hl hp hr what 0 2  hN9 (by omega) (by omega))) (fun hN9 => ?_) (fun hN9 => ?_)
    · exact (am_tr (fun (x9 : Int × Int × am_F × am_F × am_F) => Q (am_oc (x9.1) (x9.2.1)) (hfW w hb sp rb rs hb po ro x9.2.2.1 hh ss uu vv pp kk x9.2.2.2.1 tt gg x9.2.2.2.2 dd bd ga im)) (y := ((n_range what 0 2), 0, n_ref ee (n_range what 0 2), rr, aa)) (show (c_gets ee hh rr aa bd i st what) = ((n_range what 0 2), 0, n_ref ee (n_range what 0 2), rr, aa) from ((if_pos hN2).trans (if_neg hN9))) hQ)
    have hk9 := n_range_0 hN9
    refine T_aload_n (am_dec tX11_gets_0 8 rfl) rfl ?_
    refine T_getfield 10 14 (am_dec tX11_gets_0 9 rfl) flX11_91_10 (show (hfW w hb sp rb rs hb po ro ee hh ss uu vv pp kk rr tt gg aa dd bd ga im)[0]? = some (cO 10 [aR hb, aR sp, aR rb, aR rs, aR 52, aR 53, aR 51, aI (ee 0 7), aI (ee 0 8), aR 54, aR 64, aR 74, aR 77, aR 83, aR 84, aR 86, aR 88, aI (ee 0 17), aR 107, aR 108]) from (hfW_c hl 0 (by decide))) rfl ?_
    refine T_iload_n (am_dec tX11_gets_0 10 rfl) rfl ?_
    refine T_callV (as := [aI i]) rfl (am_dec tX11_gets_0 11 rfl) lkX11_318 (show (hfW w hb sp rb rs hb po ro ee hh ss uu vv pp kk rr tt gg aa dd bd ga im)[84]? = some (cO 9 [aI (bd 0 0), aR 85, aI (bd 0 2)]) from (hfW_c hl 84 (by decide))) rfl rfl (Nat.le_of_ble_eq_true rfl) (by omega) (m_thas (d := d - 1) (show (hfW w hb sp rb rs hb po ro ee hh ss uu vv pp kk rr tt gg aa dd bd ga im)[84]? = some (cO 9 [aI (bd 0 0), aR 85, aI (bd 0 2)]) from (hfW_c hl 84 (by decide))) (show (hfW w hb sp rb rs hb po ro ee hh ss uu vv pp kk rr tt gg aa dd bd ga im)[85]? = some (cP 0 48 (bd 1)) from (hfW_c hl 85 (by decide))) (by omega) i) (fun _ => ?_)
    refine T_nm (fun z17 hz17 => ?_)
    have hb17 : z17 = 0 ∧ ¬ (0 ≤ i ∧ i < bd 0 2) ∨ z17 = 1 ∧ 0 ≤ i ∧ i < bd 0 2 := by rw [hz17]; split <;> omega
    refine T_if_ne 25 (am_dec tX11_gets_0 12 rfl) rfl (fun h20 => ?_) (fun h20 => ?_)
    · refine T_aload_n (am_dec tX11_gets_0 15 rfl) rfl ?_
      refine T_getfield 10 14 (am_dec tX11_gets_0 16 rfl) flX11_91_10 (show (hfW w hb sp rb rs hb po ro ee hh ss uu vv pp kk rr tt gg aa dd bd ga im)[0]? = some (cO 10 [aR hb, aR sp, aR rb, aR rs, aR 52, aR 53, aR 51, aI (ee 0 7), aI (ee 0 8), aR 54, aR 64, aR 74, aR 77, aR 83, aR 84, aR 86, aR 88, aI (ee 0 17), aR 107, aR 108]) from (hfW_c hl 0 (by decide))) rfl ?_
      refine T_iload_n (am_dec tX11_gets_0 17 rfl) rfl ?_
      refine T_iconst 0 (am_dec tX11_gets_0 18 rfl) rfl ⟨by decide, by decide⟩ ?_
      refine T_callV (as := [aI i, aI 0]) rfl (am_dec tX11_gets_0 19 rfl) lkX11_300 (show (hfW w hb sp rb rs hb po ro ee hh ss uu vv pp kk rr tt gg aa dd bd ga im)[84]? = some (cO 9 [aI (bd 0 0), aR 85, aI (bd 0 2)]) from (hfW_c hl 84 (by decide))) rfl rfl (Nat.le_of_ble_eq_true rfl) (by omega) (m_at (d := d - 1) (show (hfW w hb sp rb rs hb po ro ee hh ss uu vv pp kk rr tt gg aa dd bd ga im)[84]? = some (cO 9 [aI (bd 0 0), aR 85, aI (bd 0 2)]) from (hfW_c hl 84 (by decide))) (show (hfW w hb sp rb rs hb po ro ee hh ss uu vv pp kk rr tt gg aa dd bd ga im)[85]? = some (cP 0 48 (bd 1)) from (hfW_c hl 85 (by decide))) (by omega) i 0) (fun _ => ?_)
      refine T_nm (fun v31 hv31 => ?_)
      refine T_istore (ls' := [some (aR 0), some (aI i), some (aI st), some (aI what), some (aI v31)]) (am_dec tX11_gets_0 20 rfl) (by decide) rfl ?_
      refine T_aload_n (am_dec tX11_gets_0 21 rfl) rfl ?_
      refine T_getfield 10 9 (am_dec tX11_gets_0 22 rfl) flX11_58_10 (show (hfW w hb sp rb rs hb po ro ee hh ss uu vv pp kk rr tt gg aa dd bd ga im)[0]? = some (cO 10 [aR hb, aR sp, aR rb, aR rs, aR 52, aR 53, aR 51, aI (ee 0 7), aI (ee 0 8), aR 54, aR 64, aR 74, aR 77, aR 83, aR 84, aR 86, aR 88, aI (ee 0 17), aR 107, aR 108]) from (hfW_c hl 0 (by decide))) rfl ?_
      refine T_iload_n (am_dec tX11_gets_0 23 rfl) rfl ?_
      refine T_callV (as := [aI st]) rfl (am_dec tX11_gets_0 24 rfl) lkX11_177 (show (hfW w hb sp rb rs hb po ro ee hh ss uu vv pp kk rr tt gg aa dd bd ga im)[54]? = some (cO 8 [aR hb, aI (rr 0 1), aI (rr 0 2), aI (rr 0 3), aI (rr 0 4), aI (rr 0 5), aR 55, aR 56, aR 57, aR 58, aR 59, aR 60, aR 61, aR 62, aR 63]) from (hfW_c hl 54 (by decide))) rfl rfl (Nat.le_of_ble_eq_true rfl) (by omega) (am_OutE (m_upTo (d := d - 1) (w := hfW w hb sp rb rs hb po ro ee hh ss uu vv pp kk rr tt gg aa dd bd ga im) (hf_le hl (by omega)) (by omega) (hf_H hl hp) (HbI_A hI) st hRI.1 hRI.2.1 hRI.2.2 (by omega)) hf_uR hf_uR) (fun _ => ?_)
      refine T_nmH (W := fun x9 => hfW w hb sp rb rs hb po ro ee hh ss uu vv pp kk x9 tt gg aa dd bd ga im) (v := f_upTo hh rr st) (fun rr41 hrr41 => ?_)
      have hIrr41 : RnI rr41 := by rw [hrr41]; exact f_upTo_I (HbI_A hI) hRI
      refine T_aload_n (am_dec tX11_gets_0 25 rfl) rfl ?_
      refine T_getfield 10 12 (am_dec tX11_gets_0 26 rfl) flX11_75_10 (show (hfW w hb sp rb rs hb po ro ee hh ss uu vv pp kk rr41 tt gg aa dd bd ga im)[0]? = some (cO 10 [aR hb, aR sp, aR rb, aR rs, aR 52, aR 53, aR 51, aI (ee 0 7), aI (ee 0 8), aR 54, aR 64, aR 74, aR 77, aR 83, aR 84, aR 86, aR 88, aI (ee 0 17), aR 107, aR 108]) from (hfW_c hl 0 (by decide))) rfl ?_
      refine T_aload_n (am_dec tX11_gets_0 27 rfl) rfl ?_
      refine T_getfield 10 14 (am_dec tX11_gets_0 28 rfl) flX11_91_10 (show (hfW w hb sp rb rs hb po ro ee hh ss uu vv pp kk rr41 tt gg aa dd bd ga im)[0]? = some (cO 10 [aR hb, aR sp, aR rb, aR rs, aR 52, aR 53, aR 51, aI (ee 0 7), aI (ee 0 8), aR 54, aR 64, aR 74, aR 77, aR 83, aR 84, aR 86, aR 88, aI (ee 0 17), aR 107, aR 108]) from (hfW_c hl 0 (by decide))) rfl ?_
      refine T_iload (am_dec tX11_gets_0 29 rfl) rfl ?_
      refine T_aload_n (am_dec tX11_gets_0 30 rfl) rfl ?_
      refine T_getfield 10 9 (am_dec tX11_gets_0 31 rfl) flX11_58_10 (show (hfW w hb sp rb rs hb po ro ee hh ss uu vv pp kk rr41 tt gg aa dd bd ga im)[0]? = some (cO 10 [aR hb, aR sp, aR rb, aR rs, aR 52, aR 53, aR 51, aI (ee 0 7), aI (ee 0 8), aR 54, aR 64, aR 74, aR 77, aR 83, aR 84, aR 86, aR 88, aI (ee 0 17), aR 107, aR 108]) from (hfW_c hl 0 (by decide))) rfl ?_
      refine T_iload (am_dec tX11_gets_0 32 rfl) rfl ?_
      refine T_iload_n (am_dec tX11_gets_0 33 rfl) rfl ?_
      refine T_callV (as := [aI v31, aI st]) rfl (am_dec tX11_gets_0 34 rfl) lkX11_303 (show (hfW w hb sp rb rs hb po ro ee hh ss uu vv pp kk rr41 tt gg aa dd bd ga im)[54]? = some (cO 8 [aR hb, aI (rr41 0 1), aI (rr41 0 2), aI (rr41 0 3), aI (rr41 0 4), aI (rr41 0 5), aR 55, aR 56, aR 57, aR 58, aR 59, aR 60, aR 61, aR 62, aR 63]) from (hfW_c hl 54 (by decide))) rfl rfl (Nat.le_of_ble_eq_true rfl) (by omega) (m_inLot (d := d - 1) (hf_R hl) (hf_H hl hp) (HbI_A hI).1 hIrr41.2.1 (by omega) v31 st) (fun _ => ?_)
      refine T_nm (fun v61 hv61 => ?_)
      obtain ⟨p61, q61⟩ := f_inLot_b (HbI_A hI).1 hIrr41.2.1 v31 st
      rw [← hv61] at p61 q61
      refine T_aload_n (am_dec tX11_gets_0 35 rfl) rfl ?_
      refine T_getfield 10 0 (am_dec tX11_gets_0 36 rfl) flX11_10_10 (show (hfW w hb sp rb rs hb po ro ee hh ss uu vv pp kk rr41 tt gg aa dd bd ga im)[0]? = some (cO 10 [aR hb, aR sp, aR rb, aR rs, aR 52, aR 53, aR 51, aI (ee 0 7), aI (ee 0 8), aR 54, aR 64, aR 74, aR 77, aR 83, aR 84, aR 86, aR 88, aI (ee 0 17), aR 107, aR 108]) from (hfW_c hl 0 (by decide))) rfl ?_
      refine T_iload (am_dec tX11_gets_0 37 rfl) rfl ?_
      refine T_callV (as := [aI v31]) rfl (am_dec tX11_gets_0 38 rfl) lkX11_263 (show (hfW w hb sp rb rs hb po ro ee hh ss uu vv pp kk rr41 tt gg aa dd bd ga im)[hb]? = some (cO 3 [aI (hh 0 0), aI (hh 0 1), aI (hh 0 2), aR (hb + 1), aR (hb + 3), aR (hb + 5), aR (hb + 7), aR (hb + 9), aR (hb + 11), aR (hb + 13), aR (hb + 15), aR (hb + 17), aR (hb + 18), aR (hb + 19)]) from ((hf_H hl hp) 0 (by decide))) rfl rfl (Nat.le_of_ble_eq_true rfl) (by omega) (m_floorOf (d := d - 1) (hf_H hl hp) (by omega) (by omega) v31) (fun _ => ?_)
      refine T_nm (fun v70 hv70 => ?_)
      have hc70 := HbI_fl hI v31
      rw [← hv70] at hc70
      refine T_callV (as := [aR 84, aI v31, aI v61, aI v70]) rfl (am_dec tX11_gets_0 39 rfl) lkX11_321 (show (hfW w hb sp rb rs hb po ro ee hh ss uu vv pp kk rr41 tt gg aa dd bd ga im)[77]? = some (cO 0 [aR 78, aR 79, aR 80, aR 81, aR 82, aI (aa 0 5)]) from (hfW_c hl 77 (by decide))) rfl rfl (Nat.le_of_ble_eq_true rfl) (by omega) (am_OutE (m_sell (d := d - 1) (w := hfW w hb sp rb rs hb po ro ee hh ss uu vv pp kk rr41 tt gg aa dd bd ga im) (hf_le hl (by omega)) (by omega) (show (hfW w hb sp rb rs hb po ro ee hh ss uu vv pp kk rr41 tt gg aa dd bd ga im)[84]? = some (cO 9 [aI (bd 0 0), aR 85, aI (bd 0 2)]) from (hfW_c hl 84 (by decide))) (show (hfW w hb sp rb rs hb po ro ee hh ss uu vv pp kk rr41 tt gg aa dd bd ga im)[85]? = some (cP 0 48 (bd 1)) from (hfW_c hl 85 (by decide))) (by omega) v31 v61 v70 hBd.2.2 (by omega) (by omega)) hf_uA hf_uA) (fun _ => ?_)
      refine T_nmH (W := fun x9 => hfW w hb sp rb rs hb po ro ee hh ss uu vv pp kk rr41 tt gg x9 dd bd ga im) (v := f_sell (bd 0 2) (bd 1) v31 v61 v70 aa) (fun aa73 haa73 => ?_)
      refine T_iload_n (am_dec tX11_gets_1 0 rfl) rfl ?_
      have K77 : ∀ (t77 : Int), t77 = (if what = 0 then f_got aa73 i else (let v96 : Int := f_got aa73 i; (let v111 : Int := f_priceOf aa73 (bd 0 2) (bd 1) i (what - 1); (am_w32 (v96 * v111))))) →  am_T S zX11_gets d u Q 115 [none, none, none, none, none] [aI t77] (hfW w hb sp rb rs hb po ro ee hh ss uu vv pp kk rr41 tt gg aa73 dd bd ga im) := by
        intro t77 ht77 
        have hxt77 := ht77
        dsimp only at hxt77
        exact T_ireturn (am_dec tX11_gets_1 21 rfl) rfl (am_tr (fun (x9 : Int × Int × am_F × am_F × am_F) => Q (am_oc (x9.1) (x9.2.1)) (hfW w hb sp rb rs hb po ro x9.2.2.1 hh ss uu vv pp kk x9.2.2.2.1 tt gg x9.2.2.2.2 dd bd ga im)) (y := (0, t77, ee, rr41, aa73)) (show (c_gets ee hh rr aa bd i st what) = (0, t77, ee, rr41, aa73) from (by have s9 := hz17.symm; subst s9; have s9 := hv31.symm; subst s9; have s9 := hrr41.symm; subst s9; have s9 := hv61.symm; subst s9; have s9 := hv70.symm; subst s9; have s9 := haa73.symm; subst s9; have s9 := ht77.symm; subst s9; exact ((if_pos hN2).trans ((if_pos hN9).trans (if_neg h20))))) hQ)
      refine T_if_ne 91 (am_dec tX11_gets_1 1 rfl) rfl (fun h77 => ?_) (fun h77 => ?_)
      · refine T_aload_n (am_dec tX11_gets_1 7 rfl) rfl ?_
        refine T_getfield 10 12 (am_dec tX11_gets_1 8 rfl) flX11_75_10 (show (hfW w hb sp rb rs hb po ro ee hh ss uu vv pp kk rr41 tt gg aa73 dd bd ga im)[0]? = some (cO 10 [aR hb, aR sp, aR rb, aR rs, aR 52, aR 53, aR 51, aI (ee 0 7), aI (ee 0 8), aR 54, aR 64, aR 74, aR 77, aR 83, aR 84, aR 86, aR 88, aI (ee 0 17), aR 107, aR 108]) from (hfW_c hl 0 (by decide))) rfl ?_
        refine T_iload_n (am_dec tX11_gets_1 9 rfl) rfl ?_
        refine T_callV (as := [aI i]) rfl (am_dec tX11_gets_1 10 rfl) lkX11_325 (show (hfW w hb sp rb rs hb po ro ee hh ss uu vv pp kk rr41 tt gg aa73 dd bd ga im)[77]? = some (cO 0 [aR 78, aR 79, aR 80, aR 81, aR 82, aI (aa73 0 5)]) from (hfW_c hl 77 (by decide))) rfl rfl (Nat.le_of_ble_eq_true rfl) (by omega) (am_OutE (m_got (d := d - 1) (w := hfW w hb sp rb rs hb po ro ee hh ss uu vv pp kk rr41 tt gg aa73 dd bd ga im) (hf_le hl (by omega))  i ) hf_uA hf_uA) (fun _ => ?_)
        refine T_nm (fun v96 hv96 => ?_)
        refine T_aload_n (am_dec tX11_gets_1 11 rfl) rfl ?_
        refine T_getfield 10 12 (am_dec tX11_gets_1 12 rfl) flX11_75_10 (show (hfW w hb sp rb rs hb po ro ee hh ss uu vv pp kk rr41 tt gg aa73 dd bd ga im)[0]? = some (cO 10 [aR hb, aR sp, aR rb, aR rs, aR 52, aR 53, aR 51, aI (ee 0 7), aI (ee 0 8), aR 54, aR 64, aR 74, aR 77, aR 83, aR 84, aR 86, aR 88, aI (ee 0 17), aR 107, aR 108]) from (hfW_c hl 0 (by decide))) rfl ?_
        refine T_aload_n (am_dec tX11_gets_1 13 rfl) rfl ?_
        refine T_getfield 10 14 (am_dec tX11_gets_1 14 rfl) flX11_91_10 (show (hfW w hb sp rb rs hb po ro ee hh ss uu vv pp kk rr41 tt gg aa73 dd bd ga im)[0]? = some (cO 10 [aR hb, aR sp, aR rb, aR rs, aR 52, aR 53, aR 51, aI (ee 0 7), aI (ee 0 8), aR 54, aR 64, aR 74, aR 77, aR 83, aR 84, aR 86, aR 88, aI (ee 0 17), aR 107, aR 108]) from (hfW_c hl 0 (by decide))) rfl ?_
        refine T_iload_n (am_dec tX11_gets_1 15 rfl) rfl ?_
        refine T_iload_n (am_dec tX11_gets_1 16 rfl) rfl ?_
        refine T_iconst 1 (am_dec tX11_gets_1 17 rfl) rfl ⟨by decide, by decide⟩ ?_
        refine T_isub (what - 1) (am_dec tX11_gets_1 18 rfl) rfl ⟨by omega, by omega⟩ ?_
        refine T_callV (as := [aR 84, aI i, aI (what - 1)]) rfl (am_dec tX11_gets_1 19 rfl) lkX11_328 (show (hfW w hb sp rb rs hb po ro ee hh ss uu vv pp kk rr41 tt gg aa73 dd bd ga im)[77]? = some (cO 0 [aR 78, aR 79, aR 80, aR 81, aR 82, aI (aa73 0 5)]) from (hfW_c hl 77 (by decide))) rfl rfl (Nat.le_of_ble_eq_true rfl) (by omega) (am_OutE (m_priceOf (d := d - 1) (w := hfW w hb sp rb rs hb po ro ee hh ss uu vv pp kk rr41 tt gg aa73 dd bd ga im) (hf_le hl (by omega)) (by omega) (show (hfW w hb sp rb rs hb po ro ee hh ss uu vv pp kk rr41 tt gg aa73 dd bd ga im)[84]? = some (cO 9 [aI (bd 0 0), aR 85, aI (bd 0 2)]) from (hfW_c hl 84 (by decide))) (show (hfW w hb sp rb rs hb po ro ee hh ss uu vv pp kk rr41 tt gg aa73 dd bd ga im)[85]? = some (cP 0 48 (bd 1)) from (hfW_c hl 85 (by decide))) (by omega) i (what - 1) (by omega)) hf_uA hf_uA) (fun _ => ?_)
        refine T_nm (fun v111 hv111 => ?_)
        refine T_imulW (am_w32 (v96 * v111)) (am_dec tX11_gets_1 20 rfl) (am_w32e _).symm (am_w32r _) ?_
        refine T_weak (ls' := [none, none, none, none, none]) (am_sub_n (am_sub_n (am_sub_n (am_sub_n (am_sub_n am_sub_nil))))) ?_
        exact K77 _ (by have s9 := hv96.symm; subst s9; have s9 := hv111.symm; subst s9; exact (if_neg h77).symm) 
      · refine T_aload_n (am_dec tX11_gets_1 2 rfl) rfl ?_
        refine T_getfield 10 12 (am_dec tX11_gets_1 3 rfl) flX11_75_10 (show (hfW w hb sp rb rs hb po ro ee hh ss uu vv pp kk rr41 tt gg aa73 dd bd ga im)[0]? = some (cO 10 [aR hb, aR sp, aR rb, aR rs, aR 52, aR 53, aR 51, aI (ee 0 7), aI (ee 0 8), aR 54, aR 64, aR 74, aR 77, aR 83, aR 84, aR 86, aR 88, aI (ee 0 17), aR 107, aR 108]) from (hfW_c hl 0 (by decide))) rfl ?_
        refine T_iload_n (am_dec tX11_gets_1 4 rfl) rfl ?_
        refine T_callV (as := [aI i]) rfl (am_dec tX11_gets_1 5 rfl) lkX11_325 (show (hfW w hb sp rb rs hb po ro ee hh ss uu vv pp kk rr41 tt gg aa73 dd bd ga im)[77]? = some (cO 0 [aR 78, aR 79, aR 80, aR 81, aR 82, aI (aa73 0 5)]) from (hfW_c hl 77 (by decide))) rfl rfl (Nat.le_of_ble_eq_true rfl) (by omega) (am_OutE (m_got (d := d - 1) (w := hfW w hb sp rb rs hb po ro ee hh ss uu vv pp kk rr41 tt gg aa73 dd bd ga im) (hf_le hl (by omega))  i ) hf_uA hf_uA) (fun _ => ?_)
        refine T_nm (fun v85 hv85 => ?_)
        refine T_goto 115 (am_dec tX11_gets_1 6 rfl) rfl ?_
        refine T_weak (ls' := [none, none, none, none, none]) (am_sub_n (am_sub_n (am_sub_n (am_sub_n (am_sub_n am_sub_nil))))) ?_
        exact K77 _ (by have s9 := hv85.symm; subst s9; exact (if_pos h77).symm) 
    · refine T_iconst (-1) (am_dec tX11_gets_0 13 rfl) rfl ⟨by decide, by decide⟩ ?_
      exact T_ireturn (am_dec tX11_gets_0 14 rfl) rfl (am_tr (fun (x9 : Int × Int × am_F × am_F × am_F) => Q (am_oc (x9.1) (x9.2.1)) (hfW w hb sp rb rs hb po ro x9.2.2.1 hh ss uu vv pp kk x9.2.2.2.1 tt gg x9.2.2.2.2 dd bd ga im)) (y := (0, (-1), ee, rr, aa)) (show (c_gets ee hh rr aa bd i st what) = (0, (-1), ee, rr, aa) from (by have s9 := hz17.symm; subst s9; exact ((if_pos hN2).trans ((if_pos hN9).trans (if_pos h20))))) hQ)
  exact key _ ⟨rfl, rfl⟩
def w_c_clock_65 (bd : am_F) (l : Int) (thr9 : Int) (x9 : Int × Int) : (Int × Int) ⊕ (Int × Int) := let prc : Int := x9.1; let wnt : Int := x9.2; (if wnt ≤ thr9 then .inr (prc, wnt) else (if 100 ≤ prc then .inr (prc, wnt) else (let v89 : Int := f_wanted (bd 0 2) (bd 1) l (prc + 1); .inl ((prc + 1), v89))))
theorem L_c_clock_65 {S : am_S} {d u : Nat} {Q : AO → AH → Prop} {w : AH} {hb sp rb rs : Nat} {po ro : AV} (hl : 109 ≤ w.length) (hp : hb = 1 ∧ sp = 21 ∨ hb = 21 ∧ sp = 1) (hr : rb = 41 ∧ rs = 46 ∨ rb = 46 ∧ rs = 41) (ee : am_F) (hh : am_F) (ss : am_F) (uu : am_F) (vv : am_F) (pp : am_F) (kk : am_F) (rr : am_F) (tt : am_F) (gg : am_F) (aa : am_F) (dd : am_F) (bd : am_F) (ga : am_F) (im : am_F) (l : Int) (what : Int) (thr9 : Int) (hI : HbI hh) (hRI : RnI rr) (hBd : BdI bd)  (hd : 8 ≤ d) : ∀ (n : Nat) (prc : Int) (wnt : Int), 100 - prc < n → 0 ≤ prc ∧ prc ≤ 100 → (∀ (prc' : Int) (wnt' : Int), prc' = (am_wh (w_c_clock_65 bd l thr9) n (prc, wnt)).1 → wnt' = (am_wh (w_c_clock_65 bd l thr9) n (prc, wnt)).2 → 0 ≤ prc' ∧ prc' ≤ 100 → am_T S zX11_clock d u Q 97 [none, none, none, some (aI what), none, some (aI prc'), some (aI wnt')] [] (hfW w hb sp rb rs hb po ro ee hh ss uu vv pp kk rr tt gg aa dd bd ga im)) → am_T S zX11_clock d u Q 65 [some (aR 0), some (aI l), none, some (aI what), some (aI thr9), some (aI prc), some (aI wnt)] [] (hfW w hb sp rb rs hb po ro ee hh ss uu vv pp kk rr tt gg aa dd bd ga im) := by
  intro n
  induction n with
  | zero =>
    intro prc wnt hm9 hinv k9
    obtain ⟨vh1, vh2, vh3, vh4, vh5, vh6, vh7, vh8, vh9, vh10, vh11, vh12, vh13, vh14, vh15, vh16, vh17, vh18, vh19, vh20, vh21, vh22⟩ := (HbI_A hI).1
    have hBd9 := hBd
    obtain ⟨vb0, ⟨vb1, vb2⟩, vb3⟩ := hBd9
    exfalso; omega
  | succ n ih =>
    intro prc wnt hm9 hinv k9
    obtain ⟨vh1, vh2, vh3, vh4, vh5, vh6, vh7, vh8, vh9, vh10, vh11, vh12, vh13, vh14, vh15, vh16, vh17, vh18, vh19, vh20, vh21, vh22⟩ := (HbI_A hI).1
    have hBd9 := hBd
    obtain ⟨vb0, ⟨vb1, vb2⟩, vb3⟩ := hBd9
    refine T_iload (am_dec tX11_clock_0 35 rfl) rfl ?_
    refine T_iload (am_dec tX11_clock_0 36 rfl) rfl ?_
    refine T_icmp_le 97 (am_dec tX11_clock_0 37 rfl) rfl (fun h69 => ?_) (fun h69 => ?_)
    · refine T_weak (ls' := [none, none, none, some (aI what), none, some (aI prc), some (aI wnt)]) (am_sub_n (am_sub_n (am_sub_n (am_sub_s (am_sub_n (am_sub_s (am_sub_s am_sub_nil))))))) ?_
      have e9 : (w_c_clock_65 bd l thr9) (prc, wnt) = .inr (prc, wnt) := (if_pos h69)
      simp only [am_wh_r e9] at k9
      exact k9 _ _ rfl rfl (by omega)
    · refine T_iload (am_dec tX11_clock_0 38 rfl) rfl ?_
      refine T_bipush 100 (am_dec tX11_clock_0 39 rfl) rfl ⟨by decide, by decide⟩ ?_
      refine T_icmp_ge 97 (am_dec tX11_clock_1 0 rfl) rfl (fun h76 => ?_) (fun h76 => ?_)
      · refine T_weak (ls' := [none, none, none, some (aI what), none, some (aI prc), some (aI wnt)]) (am_sub_n (am_sub_n (am_sub_n (am_sub_s (am_sub_n (am_sub_s (am_sub_s am_sub_nil))))))) ?_
        have e9 : (w_c_clock_65 bd l thr9) (prc, wnt) = .inr (prc, wnt) := ((if_neg h69).trans (if_pos h76))
        simp only [am_wh_r e9] at k9
        exact k9 _ _ rfl rfl (by omega)
      · refine T_iinc (ls' := [some (aR 0), some (aI l), none, some (aI what), some (aI thr9), some (aI (prc + 1)), some (aI wnt)]) (prc + 1) (am_dec tX11_clock_1 1 rfl) rfl rfl ⟨by omega, by omega⟩ (by decide) rfl ?_
        refine T_aload_n (am_dec tX11_clock_1 2 rfl) rfl ?_
        refine T_getfield 10 14 (am_dec tX11_clock_1 3 rfl) flX11_91_10 (show (hfW w hb sp rb rs hb po ro ee hh ss uu vv pp kk rr tt gg aa dd bd ga im)[0]? = some (cO 10 [aR hb, aR sp, aR rb, aR rs, aR 52, aR 53, aR 51, aI (ee 0 7), aI (ee 0 8), aR 54, aR 64, aR 74, aR 77, aR 83, aR 84, aR 86, aR 88, aI (ee 0 17), aR 107, aR 108]) from (hfW_c hl 0 (by decide))) rfl ?_
        refine T_iload_n (am_dec tX11_clock_1 4 rfl) rfl ?_
        refine T_iload (am_dec tX11_clock_1 5 rfl) rfl ?_
        refine T_callS (as := [aR 84, aI l, aI (prc + 1)]) rfl (am_dec tX11_clock_1 6 rfl) lkX11_339 rfl (Nat.le_of_ble_eq_true rfl) (by omega) (m_wanted (d := d - 1) (show (hfW w hb sp rb rs hb po ro ee hh ss uu vv pp kk rr tt gg aa dd bd ga im)[84]? = some (cO 9 [aI (bd 0 0), aR 85, aI (bd 0 2)]) from (hfW_c hl 84 (by decide))) (show (hfW w hb sp rb rs hb po ro ee hh ss uu vv pp kk rr tt gg aa dd bd ga im)[85]? = some (cP 0 48 (bd 1)) from (hfW_c hl 85 (by decide))) (by omega) l (prc + 1) (by omega)) (fun _ => ?_)
        refine T_nm (fun v89 hv89 => ?_)
        refine T_istore (ls' := [some (aR 0), some (aI l), none, some (aI what), some (aI thr9), some (aI (prc + 1)), some (aI v89)]) (am_dec tX11_clock_1 7 rfl) (by decide) rfl ?_
        refine T_goto 65 (am_dec tX11_clock_1 8 rfl) rfl ?_
        have e9 : (w_c_clock_65 bd l thr9) (prc, wnt) = .inl (prc + 1, v89) := (by have s9 := hv89.symm; subst s9; exact ((if_neg h69).trans (if_neg h76)))
        simp only [am_wh_l e9] at k9
        exact ih (prc + 1) v89 (by omega) (by omega) k9
def c_clock (ee : am_F) (hh : am_F) (rr : am_F) (bd : am_F) (l : Int) (st : Int) (what : Int) : Int × Int × am_F × am_F := (if n_row (hh 0 7) l = 0 then (if n_step st = 0 then (if n_range what 0 2 = 0 then (let rr29 : am_F := f_upTo hh rr st; (let v38 : Int := f_inLot rr29 hh l st; (let v48 : Int := f_floor hh l; (let v60 : Int := f_wanted (bd 0 2) (bd 1) l v48; (let prc_65 : Int := (am_wh (w_c_clock_65 bd l v38) 101 (v48, v60)).1; (let wnt_65 : Int := (am_wh (w_c_clock_65 bd l v38) 101 (v48, v60)).2; (if what = 0 then (0, prc_65, ee, rr29) else (if what = 1 then (0, wnt_65, ee, rr29) else (0, (am_w32 (prc_65 * wnt_65)), ee, rr29))))))))) else ((n_range what 0 2), 0, n_ref ee (n_range what 0 2), rr)) else ((n_step st), 0, n_ref ee (n_step st), rr)) else ((n_row (hh 0 7) l), 0, n_ref ee (n_row (hh 0 7) l), rr))
theorem mc_clock {S : am_S} {d u : Nat} {w : AH} {hb sp rb rs : Nat} {po ro : AV} (hl : 109 ≤ w.length) (hp : hb = 1 ∧ sp = 21 ∨ hb = 21 ∧ sp = 1) (hr : rb = 41 ∧ rs = 46 ∨ rb = 46 ∧ rs = 41) {ee : am_F} {hh : am_F} {ss : am_F} {uu : am_F} {vv : am_F} {pp : am_F} {kk : am_F} {rr : am_F} {tt : am_F} {gg : am_F} {aa : am_F} {dd : am_F} {bd : am_F} {ga : am_F} {im : am_F} (l : Int) (st : Int) (what : Int) (hI : HbI hh) (hRI : RnI rr) (hBd : BdI bd) (hu : 1 ≤ u) (hd : 8 ≤ d) : am_Out S zX11_clock d u [aR 0, aI l, aI st, aI what] (hfW w hb sp rb rs hb po ro ee hh ss uu vv pp kk rr tt gg aa dd bd ga im) (am_oc ((c_clock ee hh rr bd l st what).1) ((c_clock ee hh rr bd l st what).2.1)) (hfW w hb sp rb rs hb po ro ((c_clock ee hh rr bd l st what).2.2.1) hh ss uu vv pp kk ((c_clock ee hh rr bd l st what).2.2.2) tt gg aa dd bd ga im) := by
  have key : ∀ Q : AO → AH → Prop, Q (am_oc ((c_clock ee hh rr bd l st what).1) ((c_clock ee hh rr bd l st what).2.1)) (hfW w hb sp rb rs hb po ro ((c_clock ee hh rr bd l st what).2.2.1) hh ss uu vv pp kk ((c_clock ee hh rr bd l st what).2.2.2) tt gg aa dd bd ga im) → am_M S zX11_clock d u [aR 0, aI l, aI st, aI what] (hfW w hb sp rb rs hb po ro ee hh ss uu vv pp kk rr tt gg aa dd bd ga im) Q := by
    intro Q hQ
    refine am_body rfl (by decide +kernel) rfl (am_cats_cons rfl ( am_cats_cons rfl ( am_cats_cons rfl ( am_cats_cons rfl (am_cats_nil))))) (Nat.le_of_ble_eq_true rfl) (?_ : am_T _ _ _ _ _ 0 [some (aR 0), some (aI l), some (aI st), some (aI what), none, none, none] [] (hfW w hb sp rb rs hb po ro ee hh ss uu vv pp kk rr tt gg aa dd bd ga im))
    obtain ⟨vh1, vh2, vh3, vh4, vh5, vh6, vh7, vh8, vh9, vh10, vh11, vh12, vh13, vh14, vh15, vh16, vh17, vh18, vh19, vh20, vh21, vh22⟩ := (HbI_A hI).1
    have hBd9 := hBd
    obtain ⟨vb0, ⟨vb1, vb2⟩, vb3⟩ := hBd9
    refine T_aload_n (am_dec tX11_clock_0 0 rfl) rfl ?_
    refine T_aload_n (am_dec tX11_clock_0 1 rfl) rfl ?_
    refine T_getfield 10 0 (am_dec tX11_clock_0 2 rfl) flX11_10_10 (show (hfW w hb sp rb rs hb po ro ee hh ss uu vv pp kk rr tt gg aa dd bd ga im)[0]? = some (cO 10 [aR hb, aR sp, aR rb, aR rs, aR 52, aR 53, aR 51, aI (ee 0 7), aI (ee 0 8), aR 54, aR 64, aR 74, aR 77, aR 83, aR 84, aR 86, aR 88, aI (ee 0 17), aR 107, aR 108]) from (hfW_c hl 0 (by decide))) rfl ?_
    refine T_getfield 3 7 (am_dec tX11_clock_0 3 rfl) flX11_149_3 (show (hfW w hb sp rb rs hb po ro ee hh ss uu vv pp kk rr tt gg aa dd bd ga im)[hb]? = some (cO 3 [aI (hh 0 0), aI (hh 0 1), aI (hh 0 2), aR (hb + 1), aR (hb + 3), aR (hb + 5), aR (hb + 7), aR (hb + 9), aR (hb + 11), aR (hb + 13), aR (hb + 15), aR (hb + 17), aR (hb + 18), aR (hb + 19)]) from ((hf_H hl hp) 0 (by decide))) rfl ?_
    refine T_iload_n (am_dec tX11_clock_0 4 rfl) rfl ?_
    refine T_callVo (as := [aR (hb + 9), aI l]) (code := n_row (hh 0 7) l) rfl (am_dec tX11_clock_0 5 rfl) lkX11_190 (show (hfW w hb sp rb rs hb po ro ee hh ss uu vv pp kk rr tt gg aa dd bd ga im)[0]? = some (cO 10 [aR hb, aR sp, aR rb, aR rs, aR 52, aR 53, aR 51, aI (ee 0 7), aI (ee 0 8), aR 54, aR 64, aR 74, aR 77, aR 83, aR 84, aR 86, aR 88, aI (ee 0 17), aR 107, aR 108]) from (hfW_c hl 0 (by decide))) rfl rfl (Nat.le_of_ble_eq_true rfl) (by omega) (by omega) (fun hN9 => (mx_row0 (d := d - 1) hl hp hr l (show (hfW w hb sp rb rs hb po ro ee hh ss uu vv pp kk rr tt gg aa dd bd ga im)[hb + 9]? = some (cO 9 [aI 6, aR (hb + 10), aI (hh 0 7)]) from ((hf_H hl hp) 9 (by decide))) (show (hfW w hb sp rb rs hb po ro ee hh ss uu vv pp kk rr tt gg aa dd bd ga im)[hb + 10]? = some (cP 0 48 (hh 5)) from ((hf_H hl hp) 10 (by decide))) (by omega) hN9 (by omega))) (fun hN9 => (x_rowX (d := d - 1) hl hp hr l (show (hfW w hb sp rb rs hb po ro ee hh ss uu vv pp kk rr tt gg aa dd bd ga im)[hb + 9]? = some (cO 9 [aI 6, aR (hb + 10), aI (hh 0 7)]) from ((hf_H hl hp) 9 (by decide))) (show (hfW w hb sp rb rs hb po ro ee hh ss uu vv pp kk rr tt gg aa dd bd ga im)[hb + 10]? = some (cP 0 48 (hh 5)) from ((hf_H hl hp) 10 (by decide))) (by omega) hN9 (by omega) (by omega))) (fun hN9 => ?_) (fun hN9 => ?_)
    · exact (am_tr (fun (x9 : Int × Int × am_F × am_F) => Q (am_oc (x9.1) (x9.2.1)) (hfW w hb sp rb rs hb po ro x9.2.2.1 hh ss uu vv pp kk x9.2.2.2 tt gg aa dd bd ga im)) (y := ((n_row (hh 0 7) l), 0, n_ref ee (n_row (hh 0 7) l), rr)) (show (c_clock ee hh rr bd l st what) = ((n_row (hh 0 7) l), 0, n_ref ee (n_row (hh 0 7) l), rr) from (if_neg hN9)) hQ)
    have hk9 := n_row_0 hN9
    refine T_aload_n (am_dec tX11_clock_0 6 rfl) rfl ?_
    refine T_iload_n (am_dec tX11_clock_0 7 rfl) rfl ?_
    refine T_callVo (as := [aI st]) (code := n_step st) rfl (am_dec tX11_clock_0 8 rfl) lkX11_194 (show (hfW w hb sp rb rs hb po ro ee hh ss uu vv pp kk rr tt gg aa dd bd ga im)[0]? = some (cO 10 [aR hb, aR sp, aR rb, aR rs, aR 52, aR 53, aR 51, aI (ee 0 7), aI (ee 0 8), aR 54, aR 64, aR 74, aR 77, aR 83, aR 84, aR 86, aR 88, aI (ee 0 17), aR 107, aR 108]) from (hfW_c hl 0 (by decide))) rfl rfl (Nat.le_of_ble_eq_true rfl) (by omega) (by omega) (fun hN14 => (mx_step0 (d := d - 1) hl hp hr st  hN14 (by omega))) (fun hN14 => (x_stepX (d := d - 1) hl hp hr st  hN14 (by omega) (by omega))) (fun hN14 => ?_) (fun hN14 => ?_)
    · exact (am_tr (fun (x9 : Int × Int × am_F × am_F) => Q (am_oc (x9.1) (x9.2.1)) (hfW w hb sp rb rs hb po ro x9.2.2.1 hh ss uu vv pp kk x9.2.2.2 tt gg aa dd bd ga im)) (y := ((n_step st), 0, n_ref ee (n_step st), rr)) (show (c_clock ee hh rr bd l st what) = ((n_step st), 0, n_ref ee (n_step st), rr) from ((if_pos hN9).trans (if_neg hN14))) hQ)
    have hk14 := n_step_0 hN14
    refine T_aload_n (am_dec tX11_clock_0 9 rfl) rfl ?_
    refine T_iload_n (am_dec tX11_clock_0 10 rfl) rfl ?_
    refine T_iconst 0 (am_dec tX11_clock_0 11 rfl) rfl ⟨by decide, by decide⟩ ?_
    refine T_iconst 2 (am_dec tX11_clock_0 12 rfl) rfl ⟨by decide, by decide⟩ ?_
    refine T_callVo (as := [aI what, aI 0, aI 2]) (code := n_range what 0 2) rfl (am_dec tX11_clock_0 13 rfl) lkX11_117 (show (hfW w hb sp rb rs hb po ro ee hh ss uu vv pp kk rr tt gg aa dd bd ga im)[0]? = some (cO 10 [aR hb, aR sp, aR rb, aR rs, aR 52, aR 53, aR 51, aI (ee 0 7), aI (ee 0 8), aR 54, aR 64, aR 74, aR 77, aR 83, aR 84, aR 86, aR 88, aI (ee 0 17), aR 107, aR 108]) from (hfW_c hl 0 (by decide))) rfl rfl (Nat.le_of_ble_eq_true rfl) (by omega) (by omega) (fun hN21 => (mx_range0 (d := d - 1) hl hp hr what 0 2  hN21 (by omega))) (fun hN21 => (x_rangeX (d := d - 1) hl hp hr what 0 2  hN21 (by omega) (by omega))) (fun hN21 => ?_) (fun hN21 => ?_)
    · exact (am_tr (fun (x9 : Int × Int × am_F × am_F) => Q (am_oc (x9.1) (x9.2.1)) (hfW w hb sp rb rs hb po ro x9.2.2.1 hh ss uu vv pp kk x9.2.2.2 tt gg aa dd bd ga im)) (y := ((n_range what 0 2), 0, n_ref ee (n_range what 0 2), rr)) (show (c_clock ee hh rr bd l st what) = ((n_range what 0 2), 0, n_ref ee (n_range what 0 2), rr) from ((if_pos hN9).trans ((if_pos hN14).trans (if_neg hN21)))) hQ)
    have hk21 := n_range_0 hN21
    refine T_aload_n (am_dec tX11_clock_0 14 rfl) rfl ?_
    refine T_getfield 10 9 (am_dec tX11_clock_0 15 rfl) flX11_58_10 (show (hfW w hb sp rb rs hb po ro ee hh ss uu vv pp kk rr tt gg aa dd bd ga im)[0]? = some (cO 10 [aR hb, aR sp, aR rb, aR rs, aR 52, aR 53, aR 51, aI (ee 0 7), aI (ee 0 8), aR 54, aR 64, aR 74, aR 77, aR 83, aR 84, aR 86, aR 88, aI (ee 0 17), aR 107, aR 108]) from (hfW_c hl 0 (by decide))) rfl ?_
    refine T_iload_n (am_dec tX11_clock_0 16 rfl) rfl ?_
    refine T_callV (as := [aI st]) rfl (am_dec tX11_clock_0 17 rfl) lkX11_177 (show (hfW w hb sp rb rs hb po ro ee hh ss uu vv pp kk rr tt gg aa dd bd ga im)[54]? = some (cO 8 [aR hb, aI (rr 0 1), aI (rr 0 2), aI (rr 0 3), aI (rr 0 4), aI (rr 0 5), aR 55, aR 56, aR 57, aR 58, aR 59, aR 60, aR 61, aR 62, aR 63]) from (hfW_c hl 54 (by decide))) rfl rfl (Nat.le_of_ble_eq_true rfl) (by omega) (am_OutE (m_upTo (d := d - 1) (w := hfW w hb sp rb rs hb po ro ee hh ss uu vv pp kk rr tt gg aa dd bd ga im) (hf_le hl (by omega)) (by omega) (hf_H hl hp) (HbI_A hI) st hRI.1 hRI.2.1 hRI.2.2 (by omega)) hf_uR hf_uR) (fun _ => ?_)
    refine T_nmH (W := fun x9 => hfW w hb sp rb rs hb po ro ee hh ss uu vv pp kk x9 tt gg aa dd bd ga im) (v := f_upTo hh rr st) (fun rr29 hrr29 => ?_)
    have hIrr29 : RnI rr29 := by rw [hrr29]; exact f_upTo_I (HbI_A hI) hRI
    refine T_aload_n (am_dec tX11_clock_0 18 rfl) rfl ?_
    refine T_getfield 10 9 (am_dec tX11_clock_0 19 rfl) flX11_58_10 (show (hfW w hb sp rb rs hb po ro ee hh ss uu vv pp kk rr29 tt gg aa dd bd ga im)[0]? = some (cO 10 [aR hb, aR sp, aR rb, aR rs, aR 52, aR 53, aR 51, aI (ee 0 7), aI (ee 0 8), aR 54, aR 64, aR 74, aR 77, aR 83, aR 84, aR 86, aR 88, aI (ee 0 17), aR 107, aR 108]) from (hfW_c hl 0 (by decide))) rfl ?_
    refine T_iload_n (am_dec tX11_clock_0 20 rfl) rfl ?_
    refine T_iload_n (am_dec tX11_clock_0 21 rfl) rfl ?_
    refine T_callV (as := [aI l, aI st]) rfl (am_dec tX11_clock_0 22 rfl) lkX11_303 (show (hfW w hb sp rb rs hb po ro ee hh ss uu vv pp kk rr29 tt gg aa dd bd ga im)[54]? = some (cO 8 [aR hb, aI (rr29 0 1), aI (rr29 0 2), aI (rr29 0 3), aI (rr29 0 4), aI (rr29 0 5), aR 55, aR 56, aR 57, aR 58, aR 59, aR 60, aR 61, aR 62, aR 63]) from (hfW_c hl 54 (by decide))) rfl rfl (Nat.le_of_ble_eq_true rfl) (by omega) (m_inLot (d := d - 1) (hf_R hl) (hf_H hl hp) (HbI_A hI).1 hIrr29.2.1 (by omega) l st) (fun _ => ?_)
    refine T_nm (fun v38 hv38 => ?_)
    obtain ⟨p38, q38⟩ := f_inLot_b (HbI_A hI).1 hIrr29.2.1 l st
    rw [← hv38] at p38 q38
    refine T_istore (ls' := [some (aR 0), some (aI l), some (aI st), some (aI what), some (aI v38), none, none]) (am_dec tX11_clock_0 23 rfl) (by decide) rfl ?_
    refine T_aload_n (am_dec tX11_clock_0 24 rfl) rfl ?_
    refine T_getfield 10 0 (am_dec tX11_clock_0 25 rfl) flX11_10_10 (show (hfW w hb sp rb rs hb po ro ee hh ss uu vv pp kk rr29 tt gg aa dd bd ga im)[0]? = some (cO 10 [aR hb, aR sp, aR rb, aR rs, aR 52, aR 53, aR 51, aI (ee 0 7), aI (ee 0 8), aR 54, aR 64, aR 74, aR 77, aR 83, aR 84, aR 86, aR 88, aI (ee 0 17), aR 107, aR 108]) from (hfW_c hl 0 (by decide))) rfl ?_
    refine T_iload_n (am_dec tX11_clock_0 26 rfl) rfl ?_
    refine T_callV (as := [aI l]) rfl (am_dec tX11_clock_0 27 rfl) lkX11_263 (show (hfW w hb sp rb rs hb po ro ee hh ss uu vv pp kk rr29 tt gg aa dd bd ga im)[hb]? = some (cO 3 [aI (hh 0 0), aI (hh 0 1), aI (hh 0 2), aR (hb + 1), aR (hb + 3), aR (hb + 5), aR (hb + 7), aR (hb + 9), aR (hb + 11), aR (hb + 13), aR (hb + 15), aR (hb + 17), aR (hb + 18), aR (hb + 19)]) from ((hf_H hl hp) 0 (by decide))) rfl rfl (Nat.le_of_ble_eq_true rfl) (by omega) (m_floorOf (d := d - 1) (hf_H hl hp) (by omega) (by omega) l) (fun _ => ?_)
    refine T_nm (fun v48 hv48 => ?_)
    have hc48 := HbI_fl hI l
    rw [← hv48] at hc48
    refine T_istore (ls' := [some (aR 0), some (aI l), some (aI st), some (aI what), some (aI v38), some (aI v48), none]) (am_dec tX11_clock_0 28 rfl) (by decide) rfl ?_
    refine T_aload_n (am_dec tX11_clock_0 29 rfl) rfl ?_
    refine T_getfield 10 14 (am_dec tX11_clock_0 30 rfl) flX11_91_10 (show (hfW w hb sp rb rs hb po ro ee hh ss uu vv pp kk rr29 tt gg aa dd bd ga im)[0]? = some (cO 10 [aR hb, aR sp, aR rb, aR rs, aR 52, aR 53, aR 51, aI (ee 0 7), aI (ee 0 8), aR 54, aR 64, aR 74, aR 77, aR 83, aR 84, aR 86, aR 88, aI (ee 0 17), aR 107, aR 108]) from (hfW_c hl 0 (by decide))) rfl ?_
    refine T_iload_n (am_dec tX11_clock_0 31 rfl) rfl ?_
    refine T_iload (am_dec tX11_clock_0 32 rfl) rfl ?_
    refine T_callS (as := [aR 84, aI l, aI v48]) rfl (am_dec tX11_clock_0 33 rfl) lkX11_339 rfl (Nat.le_of_ble_eq_true rfl) (by omega) (m_wanted (d := d - 1) (show (hfW w hb sp rb rs hb po ro ee hh ss uu vv pp kk rr29 tt gg aa dd bd ga im)[84]? = some (cO 9 [aI (bd 0 0), aR 85, aI (bd 0 2)]) from (hfW_c hl 84 (by decide))) (show (hfW w hb sp rb rs hb po ro ee hh ss uu vv pp kk rr29 tt gg aa dd bd ga im)[85]? = some (cP 0 48 (bd 1)) from (hfW_c hl 85 (by decide))) (by omega) l v48 (by omega)) (fun _ => ?_)
    refine T_nm (fun v60 hv60 => ?_)
    refine T_istore (ls' := [some (aR 0), some (aI l), some (aI st), some (aI what), some (aI v38), some (aI v48), some (aI v60)]) (am_dec tX11_clock_0 34 rfl) (by decide) rfl ?_
    refine T_weak (ls' := [some (aR 0), some (aI l), none, some (aI what), some (aI v38), some (aI v48), some (aI v60)]) (am_sub_s (am_sub_s (am_sub_n (am_sub_s (am_sub_s (am_sub_s (am_sub_s am_sub_nil))))))) ?_
    refine L_c_clock_65 hl hp hr ee hh ss uu vv pp kk rr29 tt gg aa dd bd ga im l what v38 hI hIrr29 hBd  (by omega) 101 v48 v60 (by omega) (by omega) (fun prc_65 wnt_65 hprc_65 hwnt_65 hv65 => ?_)
    refine T_iload_n (am_dec tX11_clock_1 9 rfl) rfl ?_
    by_cases e98_0 : what = 0
    · refine T_lookup (off := 26) 124 (am_dec tX11_clock_1 10 rfl) (by decide) (if_pos e98_0.symm) rfl ?_
      refine T_iload (am_dec tX11_clock_1 11 rfl) rfl ?_
      exact T_ireturn (am_dec tX11_clock_1 12 rfl) rfl (am_tr (fun (x9 : Int × Int × am_F × am_F) => Q (am_oc (x9.1) (x9.2.1)) (hfW w hb sp rb rs hb po ro x9.2.2.1 hh ss uu vv pp kk x9.2.2.2 tt gg aa dd bd ga im)) (y := (0, prc_65, ee, rr29)) (show (c_clock ee hh rr bd l st what) = (0, prc_65, ee, rr29) from (by have s9 := hrr29.symm; subst s9; have s9 := hv38.symm; subst s9; have s9 := hv48.symm; subst s9; have s9 := hv60.symm; subst s9; have s9 := hprc_65.symm; subst s9; have s9 := hwnt_65.symm; subst s9; exact ((if_pos hN9).trans ((if_pos hN14).trans ((if_pos hN21).trans (if_pos e98_0)))))) hQ)
    by_cases e98_1 : what = 1
    · refine T_lookup (off := 29) 127 (am_dec tX11_clock_1 10 rfl) (by decide) ((if_neg (fun q9 => e98_0 q9.symm)).trans (if_pos e98_1.symm)) rfl ?_
      refine T_iload (am_dec tX11_clock_1 13 rfl) rfl ?_
      exact T_ireturn (am_dec tX11_clock_1 14 rfl) rfl (am_tr (fun (x9 : Int × Int × am_F × am_F) => Q (am_oc (x9.1) (x9.2.1)) (hfW w hb sp rb rs hb po ro x9.2.2.1 hh ss uu vv pp kk x9.2.2.2 tt gg aa dd bd ga im)) (y := (0, wnt_65, ee, rr29)) (show (c_clock ee hh rr bd l st what) = (0, wnt_65, ee, rr29) from (by have s9 := hrr29.symm; subst s9; have s9 := hv38.symm; subst s9; have s9 := hv48.symm; subst s9; have s9 := hv60.symm; subst s9; have s9 := hprc_65.symm; subst s9; have s9 := hwnt_65.symm; subst s9; exact ((if_pos hN9).trans ((if_pos hN14).trans ((if_pos hN21).trans ((if_neg e98_0).trans (if_pos e98_1))))))) hQ)
    refine T_lookup (off := 32) 130 (am_dec tX11_clock_1 10 rfl) (by decide) ((if_neg (fun q9 => e98_0 q9.symm)).trans ((if_neg (fun q9 => e98_1 q9.symm)))) rfl ?_
    refine T_iload (am_dec tX11_clock_1 15 rfl) rfl ?_
    refine T_iload (am_dec tX11_clock_1 16 rfl) rfl ?_
    refine T_imulW (am_w32 (prc_65 * wnt_65)) (am_dec tX11_clock_1 17 rfl) (am_w32e _).symm (am_w32r _) ?_
    exact T_ireturn (am_dec tX11_clock_1 18 rfl) rfl (am_tr (fun (x9 : Int × Int × am_F × am_F) => Q (am_oc (x9.1) (x9.2.1)) (hfW w hb sp rb rs hb po ro x9.2.2.1 hh ss uu vv pp kk x9.2.2.2 tt gg aa dd bd ga im)) (y := (0, (am_w32 (prc_65 * wnt_65)), ee, rr29)) (show (c_clock ee hh rr bd l st what) = (0, (am_w32 (prc_65 * wnt_65)), ee, rr29) from (by have s9 := hrr29.symm; subst s9; have s9 := hv38.symm; subst s9; have s9 := hv48.symm; subst s9; have s9 := hv60.symm; subst s9; have s9 := hprc_65.symm; subst s9; have s9 := hwnt_65.symm; subst s9; exact ((if_pos hN9).trans ((if_pos hN14).trans ((if_pos hN21).trans ((if_neg e98_0).trans (if_neg e98_1))))))) hQ)
  exact key _ ⟨rfl, rfl⟩
def c_tellAuction (hh : am_F) (rr : am_F) (aa : am_F) (bd : am_F) (l : Int) (st : Int) : am_F × am_F := (let rr5 : am_F := f_upTo hh rr st; (let v20 : Int := f_inLot rr5 hh l st; (let v28 : Int := f_floor hh l; (let aa31 : am_F := f_open aa l st v20 v28; (let aa42 : am_F := f_count (bd 0 2) (bd 1) aa31; (rr5, aa42))))))
theorem mc_tellAuction {S : am_S} {d u : Nat} {w : AH} {hb sp rb rs : Nat} {po ro : AV} (hl : 109 ≤ w.length) (hp : hb = 1 ∧ sp = 21 ∨ hb = 21 ∧ sp = 1) (hr : rb = 41 ∧ rs = 46 ∨ rb = 46 ∧ rs = 41) {ee : am_F} {hh : am_F} {ss : am_F} {uu : am_F} {vv : am_F} {pp : am_F} {kk : am_F} {rr : am_F} {tt : am_F} {gg : am_F} {aa : am_F} {dd : am_F} {bd : am_F} {ga : am_F} {im : am_F} (l : Int) (st : Int) (hI : HbI hh) (hRI : RnI rr) (hBd : BdI bd)  (hd : 6 ≤ d) : am_Out S zX11_tellAuction d u [aR 0, aI l, aI st] (hfW w hb sp rb rs hb po ro ee hh ss uu vv pp kk rr tt gg aa dd bd ga im) (.inl none) (hfW w hb sp rb rs hb po ro ee hh ss uu vv pp kk ((c_tellAuction hh rr aa bd l st).1) tt gg ((c_tellAuction hh rr aa bd l st).2) dd bd ga im) := by
  have key : ∀ Q : AO → AH → Prop, Q (.inl none) (hfW w hb sp rb rs hb po ro ee hh ss uu vv pp kk ((c_tellAuction hh rr aa bd l st).1) tt gg ((c_tellAuction hh rr aa bd l st).2) dd bd ga im) → am_M S zX11_tellAuction d u [aR 0, aI l, aI st] (hfW w hb sp rb rs hb po ro ee hh ss uu vv pp kk rr tt gg aa dd bd ga im) Q := by
    intro Q hQ
    refine am_body rfl (by decide +kernel) rfl (am_cats_cons rfl ( am_cats_cons rfl ( am_cats_cons rfl (am_cats_nil)))) (Nat.le_of_ble_eq_true rfl) (?_ : am_T _ _ _ _ _ 0 [some (aR 0), some (aI l), some (aI st)] [] (hfW w hb sp rb rs hb po ro ee hh ss uu vv pp kk rr tt gg aa dd bd ga im))
    obtain ⟨vh1, vh2, vh3, vh4, vh5, vh6, vh7, vh8, vh9, vh10, vh11, vh12, vh13, vh14, vh15, vh16, vh17, vh18, vh19, vh20, vh21, vh22⟩ := (HbI_A hI).1
    have hBd9 := hBd
    obtain ⟨vb0, ⟨vb1, vb2⟩, vb3⟩ := hBd9
    refine T_aload_n (am_dec tX11_tellAuction_0 0 rfl) rfl ?_
    refine T_getfield 10 9 (am_dec tX11_tellAuction_0 1 rfl) flX11_58_10 (show (hfW w hb sp rb rs hb po ro ee hh ss uu vv pp kk rr tt gg aa dd bd ga im)[0]? = some (cO 10 [aR hb, aR sp, aR rb, aR rs, aR 52, aR 53, aR 51, aI (ee 0 7), aI (ee 0 8), aR 54, aR 64, aR 74, aR 77, aR 83, aR 84, aR 86, aR 88, aI (ee 0 17), aR 107, aR 108]) from (hfW_c hl 0 (by decide))) rfl ?_
    refine T_iload_n (am_dec tX11_tellAuction_0 2 rfl) rfl ?_
    refine T_callV (as := [aI st]) rfl (am_dec tX11_tellAuction_0 3 rfl) lkX11_177 (show (hfW w hb sp rb rs hb po ro ee hh ss uu vv pp kk rr tt gg aa dd bd ga im)[54]? = some (cO 8 [aR hb, aI (rr 0 1), aI (rr 0 2), aI (rr 0 3), aI (rr 0 4), aI (rr 0 5), aR 55, aR 56, aR 57, aR 58, aR 59, aR 60, aR 61, aR 62, aR 63]) from (hfW_c hl 54 (by decide))) rfl rfl (Nat.le_of_ble_eq_true rfl) (by omega) (am_OutE (m_upTo (d := d - 1) (w := hfW w hb sp rb rs hb po ro ee hh ss uu vv pp kk rr tt gg aa dd bd ga im) (hf_le hl (by omega)) (by omega) (hf_H hl hp) (HbI_A hI) st hRI.1 hRI.2.1 hRI.2.2 (by omega)) hf_uR hf_uR) (fun _ => ?_)
    refine T_nmH (W := fun x9 => hfW w hb sp rb rs hb po ro ee hh ss uu vv pp kk x9 tt gg aa dd bd ga im) (v := f_upTo hh rr st) (fun rr5 hrr5 => ?_)
    have hIrr5 : RnI rr5 := by rw [hrr5]; exact f_upTo_I (HbI_A hI) hRI
    refine T_aload_n (am_dec tX11_tellAuction_0 4 rfl) rfl ?_
    refine T_getfield 10 12 (am_dec tX11_tellAuction_0 5 rfl) flX11_75_10 (show (hfW w hb sp rb rs hb po ro ee hh ss uu vv pp kk rr5 tt gg aa dd bd ga im)[0]? = some (cO 10 [aR hb, aR sp, aR rb, aR rs, aR 52, aR 53, aR 51, aI (ee 0 7), aI (ee 0 8), aR 54, aR 64, aR 74, aR 77, aR 83, aR 84, aR 86, aR 88, aI (ee 0 17), aR 107, aR 108]) from (hfW_c hl 0 (by decide))) rfl ?_
    refine T_iload_n (am_dec tX11_tellAuction_0 6 rfl) rfl ?_
    refine T_iload_n (am_dec tX11_tellAuction_0 7 rfl) rfl ?_
    refine T_aload_n (am_dec tX11_tellAuction_0 8 rfl) rfl ?_
    refine T_getfield 10 9 (am_dec tX11_tellAuction_0 9 rfl) flX11_58_10 (show (hfW w hb sp rb rs hb po ro ee hh ss uu vv pp kk rr5 tt gg aa dd bd ga im)[0]? = some (cO 10 [aR hb, aR sp, aR rb, aR rs, aR 52, aR 53, aR 51, aI (ee 0 7), aI (ee 0 8), aR 54, aR 64, aR 74, aR 77, aR 83, aR 84, aR 86, aR 88, aI (ee 0 17), aR 107, aR 108]) from (hfW_c hl 0 (by decide))) rfl ?_
    refine T_iload_n (am_dec tX11_tellAuction_0 10 rfl) rfl ?_
    refine T_iload_n (am_dec tX11_tellAuction_0 11 rfl) rfl ?_
    refine T_callV (as := [aI l, aI st]) rfl (am_dec tX11_tellAuction_0 12 rfl) lkX11_303 (show (hfW w hb sp rb rs hb po ro ee hh ss uu vv pp kk rr5 tt gg aa dd bd ga im)[54]? = some (cO 8 [aR hb, aI (rr5 0 1), aI (rr5 0 2), aI (rr5 0 3), aI (rr5 0 4), aI (rr5 0 5), aR 55, aR 56, aR 57, aR 58, aR 59, aR 60, aR 61, aR 62, aR 63]) from (hfW_c hl 54 (by decide))) rfl rfl (Nat.le_of_ble_eq_true rfl) (by omega) (m_inLot (d := d - 1) (hf_R hl) (hf_H hl hp) (HbI_A hI).1 hIrr5.2.1 (by omega) l st) (fun _ => ?_)
    refine T_nm (fun v20 hv20 => ?_)
    obtain ⟨p20, q20⟩ := f_inLot_b (HbI_A hI).1 hIrr5.2.1 l st
    rw [← hv20] at p20 q20
    refine T_aload_n (am_dec tX11_tellAuction_0 13 rfl) rfl ?_
    refine T_getfield 10 0 (am_dec tX11_tellAuction_0 14 rfl) flX11_10_10 (show (hfW w hb sp rb rs hb po ro ee hh ss uu vv pp kk rr5 tt gg aa dd bd ga im)[0]? = some (cO 10 [aR hb, aR sp, aR rb, aR rs, aR 52, aR 53, aR 51, aI (ee 0 7), aI (ee 0 8), aR 54, aR 64, aR 74, aR 77, aR 83, aR 84, aR 86, aR 88, aI (ee 0 17), aR 107, aR 108]) from (hfW_c hl 0 (by decide))) rfl ?_
    refine T_iload_n (am_dec tX11_tellAuction_0 15 rfl) rfl ?_
    refine T_callV (as := [aI l]) rfl (am_dec tX11_tellAuction_0 16 rfl) lkX11_263 (show (hfW w hb sp rb rs hb po ro ee hh ss uu vv pp kk rr5 tt gg aa dd bd ga im)[hb]? = some (cO 3 [aI (hh 0 0), aI (hh 0 1), aI (hh 0 2), aR (hb + 1), aR (hb + 3), aR (hb + 5), aR (hb + 7), aR (hb + 9), aR (hb + 11), aR (hb + 13), aR (hb + 15), aR (hb + 17), aR (hb + 18), aR (hb + 19)]) from ((hf_H hl hp) 0 (by decide))) rfl rfl (Nat.le_of_ble_eq_true rfl) (by omega) (m_floorOf (d := d - 1) (hf_H hl hp) (by omega) (by omega) l) (fun _ => ?_)
    refine T_nm (fun v28 hv28 => ?_)
    have hc28 := HbI_fl hI l
    rw [← hv28] at hc28
    refine T_callV (as := [aI l, aI st, aI v20, aI v28]) rfl (am_dec tX11_tellAuction_0 17 rfl) lkX11_375 (show (hfW w hb sp rb rs hb po ro ee hh ss uu vv pp kk rr5 tt gg aa dd bd ga im)[77]? = some (cO 0 [aR 78, aR 79, aR 80, aR 81, aR 82, aI (aa 0 5)]) from (hfW_c hl 77 (by decide))) rfl rfl (Nat.le_of_ble_eq_true rfl) (by omega) (am_OutE (m_open (d := d - 1) (w := hfW w hb sp rb rs hb po ro ee hh ss uu vv pp kk rr5 tt gg aa dd bd ga im) (hf_le hl (by omega))  l st v20 v28 ) hf_uA hf_uA) (fun _ => ?_)
    refine T_nmH (W := fun x9 => hfW w hb sp rb rs hb po ro ee hh ss uu vv pp kk rr5 tt gg x9 dd bd ga im) (v := f_open aa l st v20 v28) (fun aa31 haa31 => ?_)
    refine T_aload_n (am_dec tX11_tellAuction_0 18 rfl) rfl ?_
    refine T_getfield 10 12 (am_dec tX11_tellAuction_0 19 rfl) flX11_75_10 (show (hfW w hb sp rb rs hb po ro ee hh ss uu vv pp kk rr5 tt gg aa31 dd bd ga im)[0]? = some (cO 10 [aR hb, aR sp, aR rb, aR rs, aR 52, aR 53, aR 51, aI (ee 0 7), aI (ee 0 8), aR 54, aR 64, aR 74, aR 77, aR 83, aR 84, aR 86, aR 88, aI (ee 0 17), aR 107, aR 108]) from (hfW_c hl 0 (by decide))) rfl ?_
    refine T_aload_n (am_dec tX11_tellAuction_0 20 rfl) rfl ?_
    refine T_getfield 10 14 (am_dec tX11_tellAuction_0 21 rfl) flX11_91_10 (show (hfW w hb sp rb rs hb po ro ee hh ss uu vv pp kk rr5 tt gg aa31 dd bd ga im)[0]? = some (cO 10 [aR hb, aR sp, aR rb, aR rs, aR 52, aR 53, aR 51, aI (ee 0 7), aI (ee 0 8), aR 54, aR 64, aR 74, aR 77, aR 83, aR 84, aR 86, aR 88, aI (ee 0 17), aR 107, aR 108]) from (hfW_c hl 0 (by decide))) rfl ?_
    refine T_callV (as := [aR 84]) rfl (am_dec tX11_tellAuction_0 22 rfl) lkX11_378 (show (hfW w hb sp rb rs hb po ro ee hh ss uu vv pp kk rr5 tt gg aa31 dd bd ga im)[77]? = some (cO 0 [aR 78, aR 79, aR 80, aR 81, aR 82, aI (aa31 0 5)]) from (hfW_c hl 77 (by decide))) rfl rfl (Nat.le_of_ble_eq_true rfl) (by omega) (am_OutE (m_count (d := d - 1) (w := hfW w hb sp rb rs hb po ro ee hh ss uu vv pp kk rr5 tt gg aa31 dd bd ga im) (hf_le hl (by omega)) (by omega) (show (hfW w hb sp rb rs hb po ro ee hh ss uu vv pp kk rr5 tt gg aa31 dd bd ga im)[84]? = some (cO 9 [aI (bd 0 0), aR 85, aI (bd 0 2)]) from (hfW_c hl 84 (by decide))) (show (hfW w hb sp rb rs hb po ro ee hh ss uu vv pp kk rr5 tt gg aa31 dd bd ga im)[85]? = some (cP 0 48 (bd 1)) from (hfW_c hl 85 (by decide))) (by omega)  (by omega)) hf_uA hf_uA) (fun _ => ?_)
    refine T_nmH (W := fun x9 => hfW w hb sp rb rs hb po ro ee hh ss uu vv pp kk rr5 tt gg x9 dd bd ga im) (v := f_count (bd 0 2) (bd 1) aa31) (fun aa42 haa42 => ?_)
    exact T_return (am_dec tX11_tellAuction_0 23 rfl) rfl (am_tr (fun (x9 : am_F × am_F) => Q (.inl none) (hfW w hb sp rb rs hb po ro ee hh ss uu vv pp kk x9.1 tt gg x9.2 dd bd ga im)) (y := (rr5, aa42)) (show (c_tellAuction hh rr aa bd l st) = (rr5, aa42) from (by have s9 := hrr5.symm; subst s9; have s9 := hv20.symm; subst s9; have s9 := hv28.symm; subst s9; have s9 := haa31.symm; subst s9; have s9 := haa42.symm; subst s9; exact rfl)) hQ)
  exact key _ ⟨rfl, rfl⟩
def c_sellRule (hh : am_F) (uu : am_F) (rr : am_F) (aa : am_F) (bd : am_F) (l : Int) (st : Int) : am_F × am_F × am_F := (let u3 : am_F × am_F := c_tellAuction hh rr aa bd l st; (let u18 : am_F × am_F := c_sellByRule uu ((u3).2) bd; ((u18).1, (u3).1, (u18).2)))
theorem mc_sellRule {S : am_S} {d u : Nat} {w : AH} {hb sp rb rs : Nat} {po ro : AV} (hl : 109 ≤ w.length) (hp : hb = 1 ∧ sp = 21 ∨ hb = 21 ∧ sp = 1) (hr : rb = 41 ∧ rs = 46 ∨ rb = 46 ∧ rs = 41) {ee : am_F} {hh : am_F} {ss : am_F} {uu : am_F} {vv : am_F} {pp : am_F} {kk : am_F} {rr : am_F} {tt : am_F} {gg : am_F} {aa : am_F} {dd : am_F} {bd : am_F} {ga : am_F} {im : am_F} (l : Int) (st : Int) (hI : HbI hh) (hRI : RnI rr) (hBd : BdI bd) (hU : RuI uu)  (hd : 7 ≤ d) : am_Out S zX11_sellByRule d u [aR 0, aI l, aI st] (hfW w hb sp rb rs hb po ro ee hh ss uu vv pp kk rr tt gg aa dd bd ga im) (.inl none) (hfW w hb sp rb rs hb po ro ee hh ss ((c_sellRule hh uu rr aa bd l st).1) vv pp kk ((c_sellRule hh uu rr aa bd l st).2.1) tt gg ((c_sellRule hh uu rr aa bd l st).2.2) dd bd ga im) := by
  have key : ∀ Q : AO → AH → Prop, Q (.inl none) (hfW w hb sp rb rs hb po ro ee hh ss ((c_sellRule hh uu rr aa bd l st).1) vv pp kk ((c_sellRule hh uu rr aa bd l st).2.1) tt gg ((c_sellRule hh uu rr aa bd l st).2.2) dd bd ga im) → am_M S zX11_sellByRule d u [aR 0, aI l, aI st] (hfW w hb sp rb rs hb po ro ee hh ss uu vv pp kk rr tt gg aa dd bd ga im) Q := by
    intro Q hQ
    refine am_body rfl (by decide +kernel) rfl (am_cats_cons rfl ( am_cats_cons rfl ( am_cats_cons rfl (am_cats_nil)))) (Nat.le_of_ble_eq_true rfl) (?_ : am_T _ _ _ _ _ 0 [some (aR 0), some (aI l), some (aI st)] [] (hfW w hb sp rb rs hb po ro ee hh ss uu vv pp kk rr tt gg aa dd bd ga im))
    obtain ⟨vh1, vh2, vh3, vh4, vh5, vh6, vh7, vh8, vh9, vh10, vh11, vh12, vh13, vh14, vh15, vh16, vh17, vh18, vh19, vh20, vh21, vh22⟩ := (HbI_A hI).1
    have hBd9 := hBd
    obtain ⟨vb0, ⟨vb1, vb2⟩, vb3⟩ := hBd9
    refine T_aload_n (am_dec tX11_sellByRule_0 0 rfl) rfl ?_
    refine T_iload_n (am_dec tX11_sellByRule_0 1 rfl) rfl ?_
    refine T_iload_n (am_dec tX11_sellByRule_0 2 rfl) rfl ?_
    refine T_callV (as := [aI l, aI st]) rfl (am_dec tX11_sellByRule_0 3 rfl) lkX11_352 (show (hfW w hb sp rb rs hb po ro ee hh ss uu vv pp kk rr tt gg aa dd bd ga im)[0]? = some (cO 10 [aR hb, aR sp, aR rb, aR rs, aR 52, aR 53, aR 51, aI (ee 0 7), aI (ee 0 8), aR 54, aR 64, aR 74, aR 77, aR 83, aR 84, aR 86, aR 88, aI (ee 0 17), aR 107, aR 108]) from (hfW_c hl 0 (by decide))) rfl rfl (Nat.le_of_ble_eq_true rfl) (by omega) (mc_tellAuction (d := d - 1) hl hp hr l st  hI hRI hBd (by omega)) (fun _ => ?_)
    obtain ⟨u3, hu3⟩ : ∃ x9, x9 = c_tellAuction hh rr aa bd l st := ⟨_, rfl⟩
    rw [← hu3]
    have hIu3 : RnI u3.1 := by rw [hu3]; exact f_upTo_I (HbI_A hI) hRI
    refine T_aload_n (am_dec tX11_sellByRule_0 4 rfl) rfl ?_
    refine T_getfield 10 12 (am_dec tX11_sellByRule_0 5 rfl) flX11_75_10 (show (hfW w hb sp rb rs hb po ro ee hh ss uu vv pp kk ((u3).1) tt gg ((u3).2) dd bd ga im)[0]? = some (cO 10 [aR hb, aR sp, aR rb, aR rs, aR 52, aR 53, aR 51, aI (ee 0 7), aI (ee 0 8), aR 54, aR 64, aR 74, aR 77, aR 83, aR 84, aR 86, aR 88, aI (ee 0 17), aR 107, aR 108]) from (hfW_c hl 0 (by decide))) rfl ?_
    refine T_aload_n (am_dec tX11_sellByRule_0 6 rfl) rfl ?_
    refine T_getfield 10 14 (am_dec tX11_sellByRule_0 7 rfl) flX11_91_10 (show (hfW w hb sp rb rs hb po ro ee hh ss uu vv pp kk ((u3).1) tt gg ((u3).2) dd bd ga im)[0]? = some (cO 10 [aR hb, aR sp, aR rb, aR rs, aR 52, aR 53, aR 51, aI (ee 0 7), aI (ee 0 8), aR 54, aR 64, aR 74, aR 77, aR 83, aR 84, aR 86, aR 88, aI (ee 0 17), aR 107, aR 108]) from (hfW_c hl 0 (by decide))) rfl ?_
    refine T_aload_n (am_dec tX11_sellByRule_0 8 rfl) rfl ?_
    refine T_getfield 10 2 (am_dec tX11_sellByRule_0 9 rfl) flX11_22_10 (show (hfW w hb sp rb rs hb po ro ee hh ss uu vv pp kk ((u3).1) tt gg ((u3).2) dd bd ga im)[0]? = some (cO 10 [aR hb, aR sp, aR rb, aR rs, aR 52, aR 53, aR 51, aI (ee 0 7), aI (ee 0 8), aR 54, aR 64, aR 74, aR 77, aR 83, aR 84, aR 86, aR 88, aI (ee 0 17), aR 107, aR 108]) from (hfW_c hl 0 (by decide))) rfl ?_
    refine T_callV (as := [aR 84, aR rb]) rfl (am_dec tX11_sellByRule_0 10 rfl) lkX11_372 (show (hfW w hb sp rb rs hb po ro ee hh ss uu vv pp kk ((u3).1) tt gg ((u3).2) dd bd ga im)[77]? = some (cO 0 [aR 78, aR 79, aR 80, aR 81, aR 82, aI ((u3).2 0 5)]) from (hfW_c hl 77 (by decide))) rfl rfl (Nat.le_of_ble_eq_true rfl) (by omega) (mc_sellByRule (d := d - 1) hl hp hr   hU hBd (by omega)) (fun _ => ?_)
    obtain ⟨u18, hu18⟩ : ∃ x9, x9 = c_sellByRule uu ((u3).2) bd := ⟨_, rfl⟩
    rw [← hu18]
    exact T_return (am_dec tX11_sellByRule_0 11 rfl) rfl (am_tr (fun (x9 : am_F × am_F × am_F) => Q (.inl none) (hfW w hb sp rb rs hb po ro ee hh ss x9.1 vv pp kk x9.2.1 tt gg x9.2.2 dd bd ga im)) (y := ((u18).1, (u3).1, (u18).2)) (show (c_sellRule hh uu rr aa bd l st) = ((u18).1, (u3).1, (u18).2) from (by have s9 := hu3.symm; subst s9; have s9 := hu18.symm; subst s9; exact rfl)) hQ)
  exact key _ ⟨rfl, rfl⟩
def c_let (ee : am_F) (hh : am_F) (uu : am_F) (rr : am_F) (aa : am_F) (bd : am_F) (b9 : Int) (st : Int) (what : Int) : Int × Int × am_F × am_F × am_F × am_F := (if n_row (bd 0 2) b9 = 0 then (if n_step st = 0 then (if n_range what 0 1 = 0 then (let v28 : Int := f_at (bd 0 2) (bd 1) b9 0; (let u32 : am_F × am_F := c_tellAuction hh rr aa bd v28 st; (let aa44 : am_F := f_look ((u32).2) (bd 0 2) (bd 1) b9; (if what = 1 then (let u60 : Int × am_F := c_standing uu aa44; (0, ((u60).1), ee, (u60).2, (u32).1, aa44)) else (let u72 : Int × am_F := c_isLetIn uu aa44; (let t75 : Int := (if (u72).1 = 0 then 0 else 1); (0, t75, ee, (u72).2, (u32).1, aa44))))))) else ((n_range what 0 1), 0, n_ref ee (n_range what 0 1), uu, rr, aa)) else ((n_step st), 0, n_ref ee (n_step st), uu, rr, aa)) else ((n_row (bd 0 2) b9), 0, n_ref ee (n_row (bd 0 2) b9), uu, rr, aa))
theorem mc_let {S : am_S} {d u : Nat} {w : AH} {hb sp rb rs : Nat} {po ro : AV} (hl : 109 ≤ w.length) (hp : hb = 1 ∧ sp = 21 ∨ hb = 21 ∧ sp = 1) (hr : rb = 41 ∧ rs = 46 ∨ rb = 46 ∧ rs = 41) {ee : am_F} {hh : am_F} {ss : am_F} {uu : am_F} {vv : am_F} {pp : am_F} {kk : am_F} {rr : am_F} {tt : am_F} {gg : am_F} {aa : am_F} {dd : am_F} {bd : am_F} {ga : am_F} {im : am_F} (b9 : Int) (st : Int) (what : Int) (hI : HbI hh) (hRI : RnI rr) (hBd : BdI bd) (hU : RuI uu) (hu : 1 ≤ u) (hd : 8 ≤ d) : am_Out S zX11_let d u [aR 0, aI b9, aI st, aI what] (hfW w hb sp rb rs hb po ro ee hh ss uu vv pp kk rr tt gg aa dd bd ga im) (am_oc ((c_let ee hh uu rr aa bd b9 st what).1) ((c_let ee hh uu rr aa bd b9 st what).2.1)) (hfW w hb sp rb rs hb po ro ((c_let ee hh uu rr aa bd b9 st what).2.2.1) hh ss ((c_let ee hh uu rr aa bd b9 st what).2.2.2.1) vv pp kk ((c_let ee hh uu rr aa bd b9 st what).2.2.2.2.1) tt gg ((c_let ee hh uu rr aa bd b9 st what).2.2.2.2.2) dd bd ga im) := by
  have key : ∀ Q : AO → AH → Prop, Q (am_oc ((c_let ee hh uu rr aa bd b9 st what).1) ((c_let ee hh uu rr aa bd b9 st what).2.1)) (hfW w hb sp rb rs hb po ro ((c_let ee hh uu rr aa bd b9 st what).2.2.1) hh ss ((c_let ee hh uu rr aa bd b9 st what).2.2.2.1) vv pp kk ((c_let ee hh uu rr aa bd b9 st what).2.2.2.2.1) tt gg ((c_let ee hh uu rr aa bd b9 st what).2.2.2.2.2) dd bd ga im) → am_M S zX11_let d u [aR 0, aI b9, aI st, aI what] (hfW w hb sp rb rs hb po ro ee hh ss uu vv pp kk rr tt gg aa dd bd ga im) Q := by
    intro Q hQ
    refine am_body rfl (by decide +kernel) rfl (am_cats_cons rfl ( am_cats_cons rfl ( am_cats_cons rfl ( am_cats_cons rfl (am_cats_nil))))) (Nat.le_of_ble_eq_true rfl) (?_ : am_T _ _ _ _ _ 0 [some (aR 0), some (aI b9), some (aI st), some (aI what)] [] (hfW w hb sp rb rs hb po ro ee hh ss uu vv pp kk rr tt gg aa dd bd ga im))
    obtain ⟨vh1, vh2, vh3, vh4, vh5, vh6, vh7, vh8, vh9, vh10, vh11, vh12, vh13, vh14, vh15, vh16, vh17, vh18, vh19, vh20, vh21, vh22⟩ := (HbI_A hI).1
    have hBd9 := hBd
    obtain ⟨vb0, ⟨vb1, vb2⟩, vb3⟩ := hBd9
    refine T_aload_n (am_dec tX11_let_0 0 rfl) rfl ?_
    refine T_aload_n (am_dec tX11_let_0 1 rfl) rfl ?_
    refine T_getfield 10 14 (am_dec tX11_let_0 2 rfl) flX11_91_10 (show (hfW w hb sp rb rs hb po ro ee hh ss uu vv pp kk rr tt gg aa dd bd ga im)[0]? = some (cO 10 [aR hb, aR sp, aR rb, aR rs, aR 52, aR 53, aR 51, aI (ee 0 7), aI (ee 0 8), aR 54, aR 64, aR 74, aR 77, aR 83, aR 84, aR 86, aR 88, aI (ee 0 17), aR 107, aR 108]) from (hfW_c hl 0 (by decide))) rfl ?_
    refine T_iload_n (am_dec tX11_let_0 3 rfl) rfl ?_
    refine T_callVo (as := [aR 84, aI b9]) (code := n_row (bd 0 2) b9) rfl (am_dec tX11_let_0 4 rfl) lkX11_190 (show (hfW w hb sp rb rs hb po ro ee hh ss uu vv pp kk rr tt gg aa dd bd ga im)[0]? = some (cO 10 [aR hb, aR sp, aR rb, aR rs, aR 52, aR 53, aR 51, aI (ee 0 7), aI (ee 0 8), aR 54, aR 64, aR 74, aR 77, aR 83, aR 84, aR 86, aR 88, aI (ee 0 17), aR 107, aR 108]) from (hfW_c hl 0 (by decide))) rfl rfl (Nat.le_of_ble_eq_true rfl) (by omega) (by omega) (fun hN6 => (mx_row0 (d := d - 1) hl hp hr b9 (show (hfW w hb sp rb rs hb po ro ee hh ss uu vv pp kk rr tt gg aa dd bd ga im)[84]? = some (cO 9 [aI (bd 0 0), aR 85, aI (bd 0 2)]) from (hfW_c hl 84 (by decide))) (show (hfW w hb sp rb rs hb po ro ee hh ss uu vv pp kk rr tt gg aa dd bd ga im)[85]? = some (cP 0 48 (bd 1)) from (hfW_c hl 85 (by decide))) (by omega) hN6 (by omega))) (fun hN6 => (x_rowX (d := d - 1) hl hp hr b9 (show (hfW w hb sp rb rs hb po ro ee hh ss uu vv pp kk rr tt gg aa dd bd ga im)[84]? = some (cO 9 [aI (bd 0 0), aR 85, aI (bd 0 2)]) from (hfW_c hl 84 (by decide))) (show (hfW w hb sp rb rs hb po ro ee hh ss uu vv pp kk rr tt gg aa dd bd ga im)[85]? = some (cP 0 48 (bd 1)) from (hfW_c hl 85 (by decide))) (by omega) hN6 (by omega) (by omega))) (fun hN6 => ?_) (fun hN6 => ?_)
    · exact (am_tr (fun (x9 : Int × Int × am_F × am_F × am_F × am_F) => Q (am_oc (x9.1) (x9.2.1)) (hfW w hb sp rb rs hb po ro x9.2.2.1 hh ss x9.2.2.2.1 vv pp kk x9.2.2.2.2.1 tt gg x9.2.2.2.2.2 dd bd ga im)) (y := ((n_row (bd 0 2) b9), 0, n_ref ee (n_row (bd 0 2) b9), uu, rr, aa)) (show (c_let ee hh uu rr aa bd b9 st what) = ((n_row (bd 0 2) b9), 0, n_ref ee (n_row (bd 0 2) b9), uu, rr, aa) from (if_neg hN6)) hQ)
    have hk6 := n_row_0 hN6
    refine T_aload_n (am_dec tX11_let_0 5 rfl) rfl ?_
    refine T_iload_n (am_dec tX11_let_0 6 rfl) rfl ?_
    refine T_callVo (as := [aI st]) (code := n_step st) rfl (am_dec tX11_let_0 7 rfl) lkX11_194 (show (hfW w hb sp rb rs hb po ro ee hh ss uu vv pp kk rr tt gg aa dd bd ga im)[0]? = some (cO 10 [aR hb, aR sp, aR rb, aR rs, aR 52, aR 53, aR 51, aI (ee 0 7), aI (ee 0 8), aR 54, aR 64, aR 74, aR 77, aR 83, aR 84, aR 86, aR 88, aI (ee 0 17), aR 107, aR 108]) from (hfW_c hl 0 (by decide))) rfl rfl (Nat.le_of_ble_eq_true rfl) (by omega) (by omega) (fun hN11 => (mx_step0 (d := d - 1) hl hp hr st  hN11 (by omega))) (fun hN11 => (x_stepX (d := d - 1) hl hp hr st  hN11 (by omega) (by omega))) (fun hN11 => ?_) (fun hN11 => ?_)
    · exact (am_tr (fun (x9 : Int × Int × am_F × am_F × am_F × am_F) => Q (am_oc (x9.1) (x9.2.1)) (hfW w hb sp rb rs hb po ro x9.2.2.1 hh ss x9.2.2.2.1 vv pp kk x9.2.2.2.2.1 tt gg x9.2.2.2.2.2 dd bd ga im)) (y := ((n_step st), 0, n_ref ee (n_step st), uu, rr, aa)) (show (c_let ee hh uu rr aa bd b9 st what) = ((n_step st), 0, n_ref ee (n_step st), uu, rr, aa) from ((if_pos hN6).trans (if_neg hN11))) hQ)
    have hk11 := n_step_0 hN11
    refine T_aload_n (am_dec tX11_let_0 8 rfl) rfl ?_
    refine T_iload_n (am_dec tX11_let_0 9 rfl) rfl ?_
    refine T_iconst 0 (am_dec tX11_let_0 10 rfl) rfl ⟨by decide, by decide⟩ ?_
    refine T_iconst 1 (am_dec tX11_let_0 11 rfl) rfl ⟨by decide, by decide⟩ ?_
    refine T_callVo (as := [aI what, aI 0, aI 1]) (code := n_range what 0 1) rfl (am_dec tX11_let_0 12 rfl) lkX11_117 (show (hfW w hb sp rb rs hb po ro ee hh ss uu vv pp kk rr tt gg aa dd bd ga im)[0]? = some (cO 10 [aR hb, aR sp, aR rb, aR rs, aR 52, aR 53, aR 51, aI (ee 0 7), aI (ee 0 8), aR 54, aR 64, aR 74, aR 77, aR 83, aR 84, aR 86, aR 88, aI (ee 0 17), aR 107, aR 108]) from (hfW_c hl 0 (by decide))) rfl rfl (Nat.le_of_ble_eq_true rfl) (by omega) (by omega) (fun hN18 => (mx_range0 (d := d - 1) hl hp hr what 0 1  hN18 (by omega))) (fun hN18 => (x_rangeX (d := d - 1) hl hp hr what 0 1  hN18 (by omega) (by omega))) (fun hN18 => ?_) (fun hN18 => ?_)
    · exact (am_tr (fun (x9 : Int × Int × am_F × am_F × am_F × am_F) => Q (am_oc (x9.1) (x9.2.1)) (hfW w hb sp rb rs hb po ro x9.2.2.1 hh ss x9.2.2.2.1 vv pp kk x9.2.2.2.2.1 tt gg x9.2.2.2.2.2 dd bd ga im)) (y := ((n_range what 0 1), 0, n_ref ee (n_range what 0 1), uu, rr, aa)) (show (c_let ee hh uu rr aa bd b9 st what) = ((n_range what 0 1), 0, n_ref ee (n_range what 0 1), uu, rr, aa) from ((if_pos hN6).trans ((if_pos hN11).trans (if_neg hN18)))) hQ)
    have hk18 := n_range_0 hN18
    refine T_aload_n (am_dec tX11_let_0 13 rfl) rfl ?_
    refine T_aload_n (am_dec tX11_let_0 14 rfl) rfl ?_
    refine T_getfield 10 14 (am_dec tX11_let_0 15 rfl) flX11_91_10 (show (hfW w hb sp rb rs hb po ro ee hh ss uu vv pp kk rr tt gg aa dd bd ga im)[0]? = some (cO 10 [aR hb, aR sp, aR rb, aR rs, aR 52, aR 53, aR 51, aI (ee 0 7), aI (ee 0 8), aR 54, aR 64, aR 74, aR 77, aR 83, aR 84, aR 86, aR 88, aI (ee 0 17), aR 107, aR 108]) from (hfW_c hl 0 (by decide))) rfl ?_
    refine T_iload_n (am_dec tX11_let_0 16 rfl) rfl ?_
    refine T_iconst 0 (am_dec tX11_let_0 17 rfl) rfl ⟨by decide, by decide⟩ ?_
    refine T_callV (as := [aI b9, aI 0]) rfl (am_dec tX11_let_0 18 rfl) lkX11_300 (show (hfW w hb sp rb rs hb po ro ee hh ss uu vv pp kk rr tt gg aa dd bd ga im)[84]? = some (cO 9 [aI (bd 0 0), aR 85, aI (bd 0 2)]) from (hfW_c hl 84 (by decide))) rfl rfl (Nat.le_of_ble_eq_true rfl) (by omega) (m_at (d := d - 1) (show (hfW w hb sp rb rs hb po ro ee hh ss uu vv pp kk rr tt gg aa dd bd ga im)[84]? = some (cO 9 [aI (bd 0 0), aR 85, aI (bd 0 2)]) from (hfW_c hl 84 (by decide))) (show (hfW w hb sp rb rs hb po ro ee hh ss uu vv pp kk rr tt gg aa dd bd ga im)[85]? = some (cP 0 48 (bd 1)) from (hfW_c hl 85 (by decide))) (by omega) b9 0) (fun _ => ?_)
    refine T_nm (fun v28 hv28 => ?_)
    refine T_iload_n (am_dec tX11_let_0 19 rfl) rfl ?_
    refine T_callV (as := [aI v28, aI st]) rfl (am_dec tX11_let_0 20 rfl) lkX11_352 (show (hfW w hb sp rb rs hb po ro ee hh ss uu vv pp kk rr tt gg aa dd bd ga im)[0]? = some (cO 10 [aR hb, aR sp, aR rb, aR rs, aR 52, aR 53, aR 51, aI (ee 0 7), aI (ee 0 8), aR 54, aR 64, aR 74, aR 77, aR 83, aR 84, aR 86, aR 88, aI (ee 0 17), aR 107, aR 108]) from (hfW_c hl 0 (by decide))) rfl rfl (Nat.le_of_ble_eq_true rfl) (by omega) (mc_tellAuction (d := d - 1) hl hp hr v28 st  hI hRI hBd (by omega)) (fun _ => ?_)
    obtain ⟨u32, hu32⟩ : ∃ x9, x9 = c_tellAuction hh rr aa bd v28 st := ⟨_, rfl⟩
    rw [← hu32]
    have hIu32 : RnI u32.1 := by rw [hu32]; exact f_upTo_I (HbI_A hI) hRI
    refine T_aload_n (am_dec tX11_let_0 21 rfl) rfl ?_
    refine T_getfield 10 12 (am_dec tX11_let_0 22 rfl) flX11_75_10 (show (hfW w hb sp rb rs hb po ro ee hh ss uu vv pp kk ((u32).1) tt gg ((u32).2) dd bd ga im)[0]? = some (cO 10 [aR hb, aR sp, aR rb, aR rs, aR 52, aR 53, aR 51, aI (ee 0 7), aI (ee 0 8), aR 54, aR 64, aR 74, aR 77, aR 83, aR 84, aR 86, aR 88, aI (ee 0 17), aR 107, aR 108]) from (hfW_c hl 0 (by decide))) rfl ?_
    refine T_aload_n (am_dec tX11_let_0 23 rfl) rfl ?_
    refine T_getfield 10 14 (am_dec tX11_let_0 24 rfl) flX11_91_10 (show (hfW w hb sp rb rs hb po ro ee hh ss uu vv pp kk ((u32).1) tt gg ((u32).2) dd bd ga im)[0]? = some (cO 10 [aR hb, aR sp, aR rb, aR rs, aR 52, aR 53, aR 51, aI (ee 0 7), aI (ee 0 8), aR 54, aR 64, aR 74, aR 77, aR 83, aR 84, aR 86, aR 88, aI (ee 0 17), aR 107, aR 108]) from (hfW_c hl 0 (by decide))) rfl ?_
    refine T_iload_n (am_dec tX11_let_0 25 rfl) rfl ?_
    refine T_callV (as := [aR 84, aI b9]) rfl (am_dec tX11_let_0 26 rfl) lkX11_355 (show (hfW w hb sp rb rs hb po ro ee hh ss uu vv pp kk ((u32).1) tt gg ((u32).2) dd bd ga im)[77]? = some (cO 0 [aR 78, aR 79, aR 80, aR 81, aR 82, aI ((u32).2 0 5)]) from (hfW_c hl 77 (by decide))) rfl rfl (Nat.le_of_ble_eq_true rfl) (by omega) (am_OutE (m_look (d := d - 1) (w := hfW w hb sp rb rs hb po ro ee hh ss uu vv pp kk ((u32).1) tt gg ((u32).2) dd bd ga im) (hf_le hl (by omega)) (by omega) (show (hfW w hb sp rb rs hb po ro ee hh ss uu vv pp kk ((u32).1) tt gg ((u32).2) dd bd ga im)[84]? = some (cO 9 [aI (bd 0 0), aR 85, aI (bd 0 2)]) from (hfW_c hl 84 (by decide))) (show (hfW w hb sp rb rs hb po ro ee hh ss uu vv pp kk ((u32).1) tt gg ((u32).2) dd bd ga im)[85]? = some (cP 0 48 (bd 1)) from (hfW_c hl 85 (by decide))) (by omega) b9 (by omega)) hf_uA hf_uA) (fun _ => ?_)
    refine T_nmH (W := fun x9 => hfW w hb sp rb rs hb po ro ee hh ss uu vv pp kk ((u32).1) tt gg x9 dd bd ga im) (v := f_look ((u32).2) (bd 0 2) (bd 1) b9) (fun aa44 haa44 => ?_)
    refine T_iload_n (am_dec tX11_let_0 27 rfl) rfl ?_
    refine T_iconst 1 (am_dec tX11_let_0 28 rfl) rfl ⟨by decide, by decide⟩ ?_
    refine T_icmp_ne 64 (am_dec tX11_let_0 29 rfl) rfl (fun h49 => ?_) (fun h49 => ?_)
    · refine T_aload_n (am_dec tX11_let_0 36 rfl) rfl ?_
      refine T_getfield 10 12 (am_dec tX11_let_0 37 rfl) flX11_75_10 (show (hfW w hb sp rb rs hb po ro ee hh ss uu vv pp kk ((u32).1) tt gg aa44 dd bd ga im)[0]? = some (cO 10 [aR hb, aR sp, aR rb, aR rs, aR 52, aR 53, aR 51, aI (ee 0 7), aI (ee 0 8), aR 54, aR 64, aR 74, aR 77, aR 83, aR 84, aR 86, aR 88, aI (ee 0 17), aR 107, aR 108]) from (hfW_c hl 0 (by decide))) rfl ?_
      refine T_aload_n (am_dec tX11_let_0 38 rfl) rfl ?_
      refine T_getfield 10 2 (am_dec tX11_let_0 39 rfl) flX11_22_10 (show (hfW w hb sp rb rs hb po ro ee hh ss uu vv pp kk ((u32).1) tt gg aa44 dd bd ga im)[0]? = some (cO 10 [aR hb, aR sp, aR rb, aR rs, aR 52, aR 53, aR 51, aI (ee 0 7), aI (ee 0 8), aR 54, aR 64, aR 74, aR 77, aR 83, aR 84, aR 86, aR 88, aI (ee 0 17), aR 107, aR 108]) from (hfW_c hl 0 (by decide))) rfl ?_
      refine T_callV (as := [aR rb]) rfl (am_dec tX11_let_1 0 rfl) lkX11_362 (show (hfW w hb sp rb rs hb po ro ee hh ss uu vv pp kk ((u32).1) tt gg aa44 dd bd ga im)[77]? = some (cO 0 [aR 78, aR 79, aR 80, aR 81, aR 82, aI (aa44 0 5)]) from (hfW_c hl 77 (by decide))) rfl rfl (Nat.le_of_ble_eq_true rfl) (by omega) (mc_isLetIn (d := d - 1) hl hp hr   hU (by omega)) (fun _ => ?_)
      obtain ⟨u72, hu72⟩ : ∃ x9, x9 = c_isLetIn uu aa44 := ⟨_, rfl⟩
      rw [← hu72]
      have hIu72 : RuI u72.2 := by rw [hu72]; exact RuI_4 (c_isLetIn_x _ _).2 hU
      have hb72 : u72.1 = 0 ∨ u72.1 = 1 := by rw [hu72]; exact (c_isLetIn_x _ _).1
      have K75 : ∀ (t75 : Int), t75 = (if (u72).1 = 0 then 0 else 1) →  am_T S zX11_let d u Q 83 [none, none, none, none] [aI t75] (hfW w hb sp rb rs hb po ro ee hh ss ((u72).2) vv pp kk ((u32).1) tt gg aa44 dd bd ga im) := by
        intro t75 ht75 
        have hbt75 : t75 = 0 ∨ t75 = 1 := by
          rw [ht75]
          try dsimp only
          repeat' split
          all_goals first | exact Or.inl rfl | exact Or.inr rfl | apply c_guardsAll_b | omega
        exact T_ireturn (am_dec tX11_let_1 5 rfl) rfl (am_tr (fun (x9 : Int × Int × am_F × am_F × am_F × am_F) => Q (am_oc (x9.1) (x9.2.1)) (hfW w hb sp rb rs hb po ro x9.2.2.1 hh ss x9.2.2.2.1 vv pp kk x9.2.2.2.2.1 tt gg x9.2.2.2.2.2 dd bd ga im)) (y := (0, t75, ee, (u72).2, (u32).1, aa44)) (show (c_let ee hh uu rr aa bd b9 st what) = (0, t75, ee, (u72).2, (u32).1, aa44) from (by have s9 := hv28.symm; subst s9; have s9 := hu32.symm; subst s9; have s9 := haa44.symm; subst s9; have s9 := hu72.symm; subst s9; have s9 := ht75.symm; subst s9; exact ((if_pos hN6).trans ((if_pos hN11).trans ((if_pos hN18).trans (if_neg h49)))))) hQ)
      refine T_if_eq 82 (am_dec tX11_let_1 1 rfl) rfl (fun h75 => ?_) (fun h75 => ?_)
      · refine T_iconst 0 (am_dec tX11_let_1 4 rfl) rfl ⟨by decide, by decide⟩ ?_
        refine T_weak (ls' := [none, none, none, none]) (am_sub_n (am_sub_n (am_sub_n (am_sub_n am_sub_nil)))) ?_
        exact K75 _ (if_pos h75).symm 
      · refine T_iconst 1 (am_dec tX11_let_1 2 rfl) rfl ⟨by decide, by decide⟩ ?_
        refine T_goto 83 (am_dec tX11_let_1 3 rfl) rfl ?_
        refine T_weak (ls' := [none, none, none, none]) (am_sub_n (am_sub_n (am_sub_n (am_sub_n am_sub_nil)))) ?_
        exact K75 _ (if_neg h75).symm 
    · refine T_aload_n (am_dec tX11_let_0 30 rfl) rfl ?_
      refine T_getfield 10 12 (am_dec tX11_let_0 31 rfl) flX11_75_10 (show (hfW w hb sp rb rs hb po ro ee hh ss uu vv pp kk ((u32).1) tt gg aa44 dd bd ga im)[0]? = some (cO 10 [aR hb, aR sp, aR rb, aR rs, aR 52, aR 53, aR 51, aI (ee 0 7), aI (ee 0 8), aR 54, aR 64, aR 74, aR 77, aR 83, aR 84, aR 86, aR 88, aI (ee 0 17), aR 107, aR 108]) from (hfW_c hl 0 (by decide))) rfl ?_
      refine T_aload_n (am_dec tX11_let_0 32 rfl) rfl ?_
      refine T_getfield 10 2 (am_dec tX11_let_0 33 rfl) flX11_22_10 (show (hfW w hb sp rb rs hb po ro ee hh ss uu vv pp kk ((u32).1) tt gg aa44 dd bd ga im)[0]? = some (cO 10 [aR hb, aR sp, aR rb, aR rs, aR 52, aR 53, aR 51, aI (ee 0 7), aI (ee 0 8), aR 54, aR 64, aR 74, aR 77, aR 83, aR 84, aR 86, aR 88, aI (ee 0 17), aR 107, aR 108]) from (hfW_c hl 0 (by decide))) rfl ?_
      refine T_callV (as := [aR rb]) rfl (am_dec tX11_let_0 34 rfl) lkX11_358 (show (hfW w hb sp rb rs hb po ro ee hh ss uu vv pp kk ((u32).1) tt gg aa44 dd bd ga im)[77]? = some (cO 0 [aR 78, aR 79, aR 80, aR 81, aR 82, aI (aa44 0 5)]) from (hfW_c hl 77 (by decide))) rfl rfl (Nat.le_of_ble_eq_true rfl) (by omega) (mc_standing (d := d - 1) hl hp hr   hU (by omega)) (fun _ => ?_)
      obtain ⟨u60, hu60⟩ : ∃ x9, x9 = c_standing uu aa44 := ⟨_, rfl⟩
      rw [← hu60]
      have hIu60 : RuI u60.2 := by rw [hu60]; exact RuI_4 (c_standing_x _ _) hU
      exact T_ireturn (am_dec tX11_let_0 35 rfl) rfl (am_tr (fun (x9 : Int × Int × am_F × am_F × am_F × am_F) => Q (am_oc (x9.1) (x9.2.1)) (hfW w hb sp rb rs hb po ro x9.2.2.1 hh ss x9.2.2.2.1 vv pp kk x9.2.2.2.2.1 tt gg x9.2.2.2.2.2 dd bd ga im)) (y := (0, ((u60).1), ee, (u60).2, (u32).1, aa44)) (show (c_let ee hh uu rr aa bd b9 st what) = (0, ((u60).1), ee, (u60).2, (u32).1, aa44) from (by have s9 := hv28.symm; subst s9; have s9 := hu32.symm; subst s9; have s9 := haa44.symm; subst s9; have s9 := hu60.symm; subst s9; exact ((if_pos hN6).trans ((if_pos hN11).trans ((if_pos hN18).trans (if_pos h49)))))) hQ)
  exact key _ ⟨rfl, rfl⟩
def c_ruled (ee : am_F) (hh : am_F) (uu : am_F) (rr : am_F) (aa : am_F) (bd : am_F) (b9 : Int) (st : Int) (what : Int) : Int × Int × am_F × am_F × am_F × am_F := (if n_row (bd 0 2) b9 = 0 then (if n_step st = 0 then (if n_range what 0 1 = 0 then (let v28 : Int := f_at (bd 0 2) (bd 1) b9 0; (let u32 : am_F × am_F × am_F := c_sellRule hh uu rr aa bd v28 st; (let t36 : Int := (if what = 0 then f_got ((u32).2.2) b9 else f_paid ((u32).2.2) b9); (0, t36, ee, (u32).1, (u32).2.1, (u32).2.2)))) else ((n_range what 0 1), 0, n_ref ee (n_range what 0 1), uu, rr, aa)) else ((n_step st), 0, n_ref ee (n_step st), uu, rr, aa)) else ((n_row (bd 0 2) b9), 0, n_ref ee (n_row (bd 0 2) b9), uu, rr, aa))
theorem mc_ruled {S : am_S} {d u : Nat} {w : AH} {hb sp rb rs : Nat} {po ro : AV} (hl : 109 ≤ w.length) (hp : hb = 1 ∧ sp = 21 ∨ hb = 21 ∧ sp = 1) (hr : rb = 41 ∧ rs = 46 ∨ rb = 46 ∧ rs = 41) {ee : am_F} {hh : am_F} {ss : am_F} {uu : am_F} {vv : am_F} {pp : am_F} {kk : am_F} {rr : am_F} {tt : am_F} {gg : am_F} {aa : am_F} {dd : am_F} {bd : am_F} {ga : am_F} {im : am_F} (b9 : Int) (st : Int) (what : Int) (hI : HbI hh) (hRI : RnI rr) (hBd : BdI bd) (hU : RuI uu) (hu : 1 ≤ u) (hd : 8 ≤ d) : am_Out S zX11_ruled d u [aR 0, aI b9, aI st, aI what] (hfW w hb sp rb rs hb po ro ee hh ss uu vv pp kk rr tt gg aa dd bd ga im) (am_oc ((c_ruled ee hh uu rr aa bd b9 st what).1) ((c_ruled ee hh uu rr aa bd b9 st what).2.1)) (hfW w hb sp rb rs hb po ro ((c_ruled ee hh uu rr aa bd b9 st what).2.2.1) hh ss ((c_ruled ee hh uu rr aa bd b9 st what).2.2.2.1) vv pp kk ((c_ruled ee hh uu rr aa bd b9 st what).2.2.2.2.1) tt gg ((c_ruled ee hh uu rr aa bd b9 st what).2.2.2.2.2) dd bd ga im) := by
  have key : ∀ Q : AO → AH → Prop, Q (am_oc ((c_ruled ee hh uu rr aa bd b9 st what).1) ((c_ruled ee hh uu rr aa bd b9 st what).2.1)) (hfW w hb sp rb rs hb po ro ((c_ruled ee hh uu rr aa bd b9 st what).2.2.1) hh ss ((c_ruled ee hh uu rr aa bd b9 st what).2.2.2.1) vv pp kk ((c_ruled ee hh uu rr aa bd b9 st what).2.2.2.2.1) tt gg ((c_ruled ee hh uu rr aa bd b9 st what).2.2.2.2.2) dd bd ga im) → am_M S zX11_ruled d u [aR 0, aI b9, aI st, aI what] (hfW w hb sp rb rs hb po ro ee hh ss uu vv pp kk rr tt gg aa dd bd ga im) Q := by
    intro Q hQ
    refine am_body rfl (by decide +kernel) rfl (am_cats_cons rfl ( am_cats_cons rfl ( am_cats_cons rfl ( am_cats_cons rfl (am_cats_nil))))) (Nat.le_of_ble_eq_true rfl) (?_ : am_T _ _ _ _ _ 0 [some (aR 0), some (aI b9), some (aI st), some (aI what)] [] (hfW w hb sp rb rs hb po ro ee hh ss uu vv pp kk rr tt gg aa dd bd ga im))
    obtain ⟨vh1, vh2, vh3, vh4, vh5, vh6, vh7, vh8, vh9, vh10, vh11, vh12, vh13, vh14, vh15, vh16, vh17, vh18, vh19, vh20, vh21, vh22⟩ := (HbI_A hI).1
    have hBd9 := hBd
    obtain ⟨vb0, ⟨vb1, vb2⟩, vb3⟩ := hBd9
    refine T_aload_n (am_dec tX11_ruled_0 0 rfl) rfl ?_
    refine T_aload_n (am_dec tX11_ruled_0 1 rfl) rfl ?_
    refine T_getfield 10 14 (am_dec tX11_ruled_0 2 rfl) flX11_91_10 (show (hfW w hb sp rb rs hb po ro ee hh ss uu vv pp kk rr tt gg aa dd bd ga im)[0]? = some (cO 10 [aR hb, aR sp, aR rb, aR rs, aR 52, aR 53, aR 51, aI (ee 0 7), aI (ee 0 8), aR 54, aR 64, aR 74, aR 77, aR 83, aR 84, aR 86, aR 88, aI (ee 0 17), aR 107, aR 108]) from (hfW_c hl 0 (by decide))) rfl ?_
    refine T_iload_n (am_dec tX11_ruled_0 3 rfl) rfl ?_
    refine T_callVo (as := [aR 84, aI b9]) (code := n_row (bd 0 2) b9) rfl (am_dec tX11_ruled_0 4 rfl) lkX11_190 (show (hfW w hb sp rb rs hb po ro ee hh ss uu vv pp kk rr tt gg aa dd bd ga im)[0]? = some (cO 10 [aR hb, aR sp, aR rb, aR rs, aR 52, aR 53, aR 51, aI (ee 0 7), aI (ee 0 8), aR 54, aR 64, aR 74, aR 77, aR 83, aR 84, aR 86, aR 88, aI (ee 0 17), aR 107, aR 108]) from (hfW_c hl 0 (by decide))) rfl rfl (Nat.le_of_ble_eq_true rfl) (by omega) (by omega) (fun hN6 => (mx_row0 (d := d - 1) hl hp hr b9 (show (hfW w hb sp rb rs hb po ro ee hh ss uu vv pp kk rr tt gg aa dd bd ga im)[84]? = some (cO 9 [aI (bd 0 0), aR 85, aI (bd 0 2)]) from (hfW_c hl 84 (by decide))) (show (hfW w hb sp rb rs hb po ro ee hh ss uu vv pp kk rr tt gg aa dd bd ga im)[85]? = some (cP 0 48 (bd 1)) from (hfW_c hl 85 (by decide))) (by omega) hN6 (by omega))) (fun hN6 => (x_rowX (d := d - 1) hl hp hr b9 (show (hfW w hb sp rb rs hb po ro ee hh ss uu vv pp kk rr tt gg aa dd bd ga im)[84]? = some (cO 9 [aI (bd 0 0), aR 85, aI (bd 0 2)]) from (hfW_c hl 84 (by decide))) (show (hfW w hb sp rb rs hb po ro ee hh ss uu vv pp kk rr tt gg aa dd bd ga im)[85]? = some (cP 0 48 (bd 1)) from (hfW_c hl 85 (by decide))) (by omega) hN6 (by omega) (by omega))) (fun hN6 => ?_) (fun hN6 => ?_)
    · exact (am_tr (fun (x9 : Int × Int × am_F × am_F × am_F × am_F) => Q (am_oc (x9.1) (x9.2.1)) (hfW w hb sp rb rs hb po ro x9.2.2.1 hh ss x9.2.2.2.1 vv pp kk x9.2.2.2.2.1 tt gg x9.2.2.2.2.2 dd bd ga im)) (y := ((n_row (bd 0 2) b9), 0, n_ref ee (n_row (bd 0 2) b9), uu, rr, aa)) (show (c_ruled ee hh uu rr aa bd b9 st what) = ((n_row (bd 0 2) b9), 0, n_ref ee (n_row (bd 0 2) b9), uu, rr, aa) from (if_neg hN6)) hQ)
    have hk6 := n_row_0 hN6
    refine T_aload_n (am_dec tX11_ruled_0 5 rfl) rfl ?_
    refine T_iload_n (am_dec tX11_ruled_0 6 rfl) rfl ?_
    refine T_callVo (as := [aI st]) (code := n_step st) rfl (am_dec tX11_ruled_0 7 rfl) lkX11_194 (show (hfW w hb sp rb rs hb po ro ee hh ss uu vv pp kk rr tt gg aa dd bd ga im)[0]? = some (cO 10 [aR hb, aR sp, aR rb, aR rs, aR 52, aR 53, aR 51, aI (ee 0 7), aI (ee 0 8), aR 54, aR 64, aR 74, aR 77, aR 83, aR 84, aR 86, aR 88, aI (ee 0 17), aR 107, aR 108]) from (hfW_c hl 0 (by decide))) rfl rfl (Nat.le_of_ble_eq_true rfl) (by omega) (by omega) (fun hN11 => (mx_step0 (d := d - 1) hl hp hr st  hN11 (by omega))) (fun hN11 => (x_stepX (d := d - 1) hl hp hr st  hN11 (by omega) (by omega))) (fun hN11 => ?_) (fun hN11 => ?_)
    · exact (am_tr (fun (x9 : Int × Int × am_F × am_F × am_F × am_F) => Q (am_oc (x9.1) (x9.2.1)) (hfW w hb sp rb rs hb po ro x9.2.2.1 hh ss x9.2.2.2.1 vv pp kk x9.2.2.2.2.1 tt gg x9.2.2.2.2.2 dd bd ga im)) (y := ((n_step st), 0, n_ref ee (n_step st), uu, rr, aa)) (show (c_ruled ee hh uu rr aa bd b9 st what) = ((n_step st), 0, n_ref ee (n_step st), uu, rr, aa) from ((if_pos hN6).trans (if_neg hN11))) hQ)
    have hk11 := n_step_0 hN11
    refine T_aload_n (am_dec tX11_ruled_0 8 rfl) rfl ?_
    refine T_iload_n (am_dec tX11_ruled_0 9 rfl) rfl ?_
    refine T_iconst 0 (am_dec tX11_ruled_0 10 rfl) rfl ⟨by decide, by decide⟩ ?_
    refine T_iconst 1 (am_dec tX11_ruled_0 11 rfl) rfl ⟨by decide, by decide⟩ ?_
    refine T_callVo (as := [aI what, aI 0, aI 1]) (code := n_range what 0 1) rfl (am_dec tX11_ruled_0 12 rfl) lkX11_117 (show (hfW w hb sp rb rs hb po ro ee hh ss uu vv pp kk rr tt gg aa dd bd ga im)[0]? = some (cO 10 [aR hb, aR sp, aR rb, aR rs, aR 52, aR 53, aR 51, aI (ee 0 7), aI (ee 0 8), aR 54, aR 64, aR 74, aR 77, aR 83, aR 84, aR 86, aR 88, aI (ee 0 17), aR 107, aR 108]) from (hfW_c hl 0 (by decide))) rfl rfl (Nat.le_of_ble_eq_true rfl) (by omega) (by omega) (fun hN18 => (mx_range0 (d := d - 1) hl hp hr what 0 1  hN18 (by omega))) (fun hN18 => (x_rangeX (d := d - 1) hl hp hr what 0 1  hN18 (by omega) (by omega))) (fun hN18 => ?_) (fun hN18 => ?_)
    · exact (am_tr (fun (x9 : Int × Int × am_F × am_F × am_F × am_F) => Q (am_oc (x9.1) (x9.2.1)) (hfW w hb sp rb rs hb po ro x9.2.2.1 hh ss x9.2.2.2.1 vv pp kk x9.2.2.2.2.1 tt gg x9.2.2.2.2.2 dd bd ga im)) (y := ((n_range what 0 1), 0, n_ref ee (n_range what 0 1), uu, rr, aa)) (show (c_ruled ee hh uu rr aa bd b9 st what) = ((n_range what 0 1), 0, n_ref ee (n_range what 0 1), uu, rr, aa) from ((if_pos hN6).trans ((if_pos hN11).trans (if_neg hN18)))) hQ)
    have hk18 := n_range_0 hN18
    refine T_aload_n (am_dec tX11_ruled_0 13 rfl) rfl ?_
    refine T_aload_n (am_dec tX11_ruled_0 14 rfl) rfl ?_
    refine T_getfield 10 14 (am_dec tX11_ruled_0 15 rfl) flX11_91_10 (show (hfW w hb sp rb rs hb po ro ee hh ss uu vv pp kk rr tt gg aa dd bd ga im)[0]? = some (cO 10 [aR hb, aR sp, aR rb, aR rs, aR 52, aR 53, aR 51, aI (ee 0 7), aI (ee 0 8), aR 54, aR 64, aR 74, aR 77, aR 83, aR 84, aR 86, aR 88, aI (ee 0 17), aR 107, aR 108]) from (hfW_c hl 0 (by decide))) rfl ?_
    refine T_iload_n (am_dec tX11_ruled_0 16 rfl) rfl ?_
    refine T_iconst 0 (am_dec tX11_ruled_0 17 rfl) rfl ⟨by decide, by decide⟩ ?_
    refine T_callV (as := [aI b9, aI 0]) rfl (am_dec tX11_ruled_0 18 rfl) lkX11_300 (show (hfW w hb sp rb rs hb po ro ee hh ss uu vv pp kk rr tt gg aa dd bd ga im)[84]? = some (cO 9 [aI (bd 0 0), aR 85, aI (bd 0 2)]) from (hfW_c hl 84 (by decide))) rfl rfl (Nat.le_of_ble_eq_true rfl) (by omega) (m_at (d := d - 1) (show (hfW w hb sp rb rs hb po ro ee hh ss uu vv pp kk rr tt gg aa dd bd ga im)[84]? = some (cO 9 [aI (bd 0 0), aR 85, aI (bd 0 2)]) from (hfW_c hl 84 (by decide))) (show (hfW w hb sp rb rs hb po ro ee hh ss uu vv pp kk rr tt gg aa dd bd ga im)[85]? = some (cP 0 48 (bd 1)) from (hfW_c hl 85 (by decide))) (by omega) b9 0) (fun _ => ?_)
    refine T_nm (fun v28 hv28 => ?_)
    refine T_iload_n (am_dec tX11_ruled_0 19 rfl) rfl ?_
    refine T_callV (as := [aI v28, aI st]) rfl (am_dec tX11_ruled_0 20 rfl) lkX11_366 (show (hfW w hb sp rb rs hb po ro ee hh ss uu vv pp kk rr tt gg aa dd bd ga im)[0]? = some (cO 10 [aR hb, aR sp, aR rb, aR rs, aR 52, aR 53, aR 51, aI (ee 0 7), aI (ee 0 8), aR 54, aR 64, aR 74, aR 77, aR 83, aR 84, aR 86, aR 88, aI (ee 0 17), aR 107, aR 108]) from (hfW_c hl 0 (by decide))) rfl rfl (Nat.le_of_ble_eq_true rfl) (by omega) (mc_sellRule (d := d - 1) hl hp hr v28 st  hI hRI hBd hU (by omega)) (fun _ => ?_)
    obtain ⟨u32, hu32⟩ : ∃ x9, x9 = c_sellRule hh uu rr aa bd v28 st := ⟨_, rfl⟩
    rw [← hu32]
    refine T_iload_n (am_dec tX11_ruled_0 21 rfl) rfl ?_
    have K36 : ∀ (t36 : Int), t36 = (if what = 0 then f_got ((u32).2.2) b9 else f_paid ((u32).2.2) b9) →  am_T S zX11_ruled d u Q 58 [none, none, none, none] [aI t36] (hfW w hb sp rb rs hb po ro ee hh ss ((u32).1) vv pp kk ((u32).2.1) tt gg ((u32).2.2) dd bd ga im) := by
      intro t36 ht36 
      exact T_ireturn (am_dec tX11_ruled_0 32 rfl) rfl (am_tr (fun (x9 : Int × Int × am_F × am_F × am_F × am_F) => Q (am_oc (x9.1) (x9.2.1)) (hfW w hb sp rb rs hb po ro x9.2.2.1 hh ss x9.2.2.2.1 vv pp kk x9.2.2.2.2.1 tt gg x9.2.2.2.2.2 dd bd ga im)) (y := (0, t36, ee, (u32).1, (u32).2.1, (u32).2.2)) (show (c_ruled ee hh uu rr aa bd b9 st what) = (0, t36, ee, (u32).1, (u32).2.1, (u32).2.2) from (by have s9 := hv28.symm; subst s9; have s9 := hu32.symm; subst s9; have s9 := ht36.symm; subst s9; exact ((if_pos hN6).trans ((if_pos hN11).trans (if_pos hN18))))) hQ)
    refine T_if_ne 50 (am_dec tX11_ruled_0 22 rfl) rfl (fun h36 => ?_) (fun h36 => ?_)
    · refine T_aload_n (am_dec tX11_ruled_0 28 rfl) rfl ?_
      refine T_getfield 10 12 (am_dec tX11_ruled_0 29 rfl) flX11_75_10 (show (hfW w hb sp rb rs hb po ro ee hh ss ((u32).1) vv pp kk ((u32).2.1) tt gg ((u32).2.2) dd bd ga im)[0]? = some (cO 10 [aR hb, aR sp, aR rb, aR rs, aR 52, aR 53, aR 51, aI (ee 0 7), aI (ee 0 8), aR 54, aR 64, aR 74, aR 77, aR 83, aR 84, aR 86, aR 88, aI (ee 0 17), aR 107, aR 108]) from (hfW_c hl 0 (by decide))) rfl ?_
      refine T_iload_n (am_dec tX11_ruled_0 30 rfl) rfl ?_
      refine T_callV (as := [aI b9]) rfl (am_dec tX11_ruled_0 31 rfl) lkX11_369 (show (hfW w hb sp rb rs hb po ro ee hh ss ((u32).1) vv pp kk ((u32).2.1) tt gg ((u32).2.2) dd bd ga im)[77]? = some (cO 0 [aR 78, aR 79, aR 80, aR 81, aR 82, aI ((u32).2.2 0 5)]) from (hfW_c hl 77 (by decide))) rfl rfl (Nat.le_of_ble_eq_true rfl) (by omega) (am_OutE (m_paid (d := d - 1) (w := hfW w hb sp rb rs hb po ro ee hh ss ((u32).1) vv pp kk ((u32).2.1) tt gg ((u32).2.2) dd bd ga im) (hf_le hl (by omega))  b9 ) hf_uA hf_uA) (fun _ => ?_)
      refine T_nm (fun v55 hv55 => ?_)
      refine T_weak (ls' := [none, none, none, none]) (am_sub_n (am_sub_n (am_sub_n (am_sub_n am_sub_nil)))) ?_
      exact K36 _ (by have s9 := hv55.symm; subst s9; exact (if_neg h36).symm) 
    · refine T_aload_n (am_dec tX11_ruled_0 23 rfl) rfl ?_
      refine T_getfield 10 12 (am_dec tX11_ruled_0 24 rfl) flX11_75_10 (show (hfW w hb sp rb rs hb po ro ee hh ss ((u32).1) vv pp kk ((u32).2.1) tt gg ((u32).2.2) dd bd ga im)[0]? = some (cO 10 [aR hb, aR sp, aR rb, aR rs, aR 52, aR 53, aR 51, aI (ee 0 7), aI (ee 0 8), aR 54, aR 64, aR 74, aR 77, aR 83, aR 84, aR 86, aR 88, aI (ee 0 17), aR 107, aR 108]) from (hfW_c hl 0 (by decide))) rfl ?_
      refine T_iload_n (am_dec tX11_ruled_0 25 rfl) rfl ?_
      refine T_callV (as := [aI b9]) rfl (am_dec tX11_ruled_0 26 rfl) lkX11_325 (show (hfW w hb sp rb rs hb po ro ee hh ss ((u32).1) vv pp kk ((u32).2.1) tt gg ((u32).2.2) dd bd ga im)[77]? = some (cO 0 [aR 78, aR 79, aR 80, aR 81, aR 82, aI ((u32).2.2 0 5)]) from (hfW_c hl 77 (by decide))) rfl rfl (Nat.le_of_ble_eq_true rfl) (by omega) (am_OutE (m_got (d := d - 1) (w := hfW w hb sp rb rs hb po ro ee hh ss ((u32).1) vv pp kk ((u32).2.1) tt gg ((u32).2.2) dd bd ga im) (hf_le hl (by omega))  b9 ) hf_uA hf_uA) (fun _ => ?_)
      refine T_nm (fun v44 hv44 => ?_)
      refine T_goto 58 (am_dec tX11_ruled_0 27 rfl) rfl ?_
      refine T_weak (ls' := [none, none, none, none]) (am_sub_n (am_sub_n (am_sub_n (am_sub_n am_sub_nil)))) ?_
      exact K36 _ (by have s9 := hv44.symm; subst s9; exact (if_pos h36).symm) 
  exact key _ ⟨rfl, rfl⟩
def g_c_brings_36 (aa : am_F) (what : Int) (v5 : Int) (v4 : Int) : Int := (let v54 : Int := f_got aa v5; (let t62 : Int := (if what = 0 then f_paid aa v5 else (if what = 1 then v54 else (if v54 ≤ 0 then 0 else 1))); am_w32 (v4 + t62)))
theorem L_c_brings_36 {S : am_S} {d u : Nat} {Q : AO → AH → Prop} {w : AH} {hb sp rb rs : Nat} {po ro : AV} (hl : 109 ≤ w.length) (hp : hb = 1 ∧ sp = 21 ∨ hb = 21 ∧ sp = 1) (hr : rb = 41 ∧ rs = 46 ∨ rb = 46 ∧ rs = 41) (ee : am_F) (hh : am_F) (ss : am_F) (uu : am_F) (vv : am_F) (pp : am_F) (kk : am_F) (rr : am_F) (tt : am_F) (gg : am_F) (aa : am_F) (dd : am_F) (bd : am_F) (ga : am_F) (im : am_F) (what : Int)  (hI : HbI hh) (hBd : BdI bd) (hd : 8 ≤ d) (B9 : Int) (hB : B9 = bd 0 2) : ∀ (n : Nat) (v5 : Int) (v4 : Int), v5 + n = B9 → 0 ≤ v5 → (∀ (v4' : Int), v4' = am_fold (g_c_brings_36 aa what) v5 n v4 → am_T S zX11_brings d u Q 106 [none, none, none, none, some (aI v4'), none, none] [] (hfW w hb sp rb rs hb po ro ee hh ss uu vv pp kk rr tt gg aa dd bd ga im)) → am_T S zX11_brings d u Q 36 [some (aR 0), none, none, some (aI what), some (aI v4), some (aI v5), none] [] (hfW w hb sp rb rs hb po ro ee hh ss uu vv pp kk rr tt gg aa dd bd ga im) := by
  intro n
  induction n with
  | zero =>
    intro v5 v4 hi9 h0i k9
    have e9 : v5 = B9 := by omega
    subst e9
    obtain ⟨vh1, vh2, vh3, vh4, vh5, vh6, vh7, vh8, vh9, vh10, vh11, vh12, vh13, vh14, vh15, vh16, vh17, vh18, vh19, vh20, vh21, vh22⟩ := (HbI_A hI).1
    have hBd9 := hBd
    obtain ⟨vb0, ⟨vb1, vb2⟩, vb3⟩ := hBd9
    refine T_iload (am_dec tX11_brings_0 22 rfl) rfl ?_
    refine T_aload_n (am_dec tX11_brings_0 23 rfl) rfl ?_
    refine T_getfield 10 14 (am_dec tX11_brings_0 24 rfl) flX11_91_10 (show (hfW w hb sp rb rs hb po ro ee hh ss uu vv pp kk rr tt gg aa dd bd ga im)[0]? = some (cO 10 [aR hb, aR sp, aR rb, aR rs, aR 52, aR 53, aR 51, aI (ee 0 7), aI (ee 0 8), aR 54, aR 64, aR 74, aR 77, aR 83, aR 84, aR 86, aR 88, aI (ee 0 17), aR 107, aR 108]) from (hfW_c hl 0 (by decide))) rfl ?_
    refine T_getfield 9 2 (am_dec tX11_brings_0 25 rfl) flX11_140_9 (show (hfW w hb sp rb rs hb po ro ee hh ss uu vv pp kk rr tt gg aa dd bd ga im)[84]? = some (cO 9 [aI (bd 0 0), aR 85, aI (bd 0 2)]) from (hfW_c hl 84 (by decide))) rfl ?_
    refine T_icmp_ge 106 (am_dec tX11_brings_0 26 rfl) rfl (fun h45 => ?_) (fun h45 => by exfalso; omega)
    refine T_weak (ls' := [none, none, none, none, some (aI v4), none, none]) (am_sub_n (am_sub_n (am_sub_n (am_sub_n (am_sub_s (am_sub_n (am_sub_n am_sub_nil))))))) ?_
    exact k9 v4 rfl
  | succ n ih =>
    intro v5 v4 hi9 h0i k9
    obtain ⟨vh1, vh2, vh3, vh4, vh5, vh6, vh7, vh8, vh9, vh10, vh11, vh12, vh13, vh14, vh15, vh16, vh17, vh18, vh19, vh20, vh21, vh22⟩ := (HbI_A hI).1
    have hBd9 := hBd
    obtain ⟨vb0, ⟨vb1, vb2⟩, vb3⟩ := hBd9
    refine T_iload (am_dec tX11_brings_0 22 rfl) rfl ?_
    refine T_aload_n (am_dec tX11_brings_0 23 rfl) rfl ?_
    refine T_getfield 10 14 (am_dec tX11_brings_0 24 rfl) flX11_91_10 (show (hfW w hb sp rb rs hb po ro ee hh ss uu vv pp kk rr tt gg aa dd bd ga im)[0]? = some (cO 10 [aR hb, aR sp, aR rb, aR rs, aR 52, aR 53, aR 51, aI (ee 0 7), aI (ee 0 8), aR 54, aR 64, aR 74, aR 77, aR 83, aR 84, aR 86, aR 88, aI (ee 0 17), aR 107, aR 108]) from (hfW_c hl 0 (by decide))) rfl ?_
    refine T_getfield 9 2 (am_dec tX11_brings_0 25 rfl) flX11_140_9 (show (hfW w hb sp rb rs hb po ro ee hh ss uu vv pp kk rr tt gg aa dd bd ga im)[84]? = some (cO 9 [aI (bd 0 0), aR 85, aI (bd 0 2)]) from (hfW_c hl 84 (by decide))) rfl ?_
    refine T_icmp_ge 106 (am_dec tX11_brings_0 26 rfl) rfl (fun h45 => by exfalso; omega) (fun h45 => ?_)
    refine T_aload_n (am_dec tX11_brings_0 27 rfl) rfl ?_
    refine T_getfield 10 12 (am_dec tX11_brings_0 28 rfl) flX11_75_10 (show (hfW w hb sp rb rs hb po ro ee hh ss uu vv pp kk rr tt gg aa dd bd ga im)[0]? = some (cO 10 [aR hb, aR sp, aR rb, aR rs, aR 52, aR 53, aR 51, aI (ee 0 7), aI (ee 0 8), aR 54, aR 64, aR 74, aR 77, aR 83, aR 84, aR 86, aR 88, aI (ee 0 17), aR 107, aR 108]) from (hfW_c hl 0 (by decide))) rfl ?_
    refine T_iload (am_dec tX11_brings_0 29 rfl) rfl ?_
    refine T_callV (as := [aI v5]) rfl (am_dec tX11_brings_0 30 rfl) lkX11_325 (show (hfW w hb sp rb rs hb po ro ee hh ss uu vv pp kk rr tt gg aa dd bd ga im)[77]? = some (cO 0 [aR 78, aR 79, aR 80, aR 81, aR 82, aI (aa 0 5)]) from (hfW_c hl 77 (by decide))) rfl rfl (Nat.le_of_ble_eq_true rfl) (by omega) (am_OutE (m_got (d := d - 1) (w := hfW w hb sp rb rs hb po ro ee hh ss uu vv pp kk rr tt gg aa dd bd ga im) (hf_le hl (by omega))  v5 ) hf_uA hf_uA) (fun _ => ?_)
    refine T_nm (fun v54 hv54 => ?_)
    refine T_istore (ls' := [some (aR 0), none, none, some (aI what), some (aI v4), some (aI v5), some (aI v54)]) (am_dec tX11_brings_0 31 rfl) (by decide) rfl ?_
    refine T_iload (am_dec tX11_brings_0 32 rfl) rfl ?_
    refine T_iload_n (am_dec tX11_brings_0 33 rfl) rfl ?_
    have K62 : ∀ (t62 : Int), t62 = (if what = 0 then f_paid aa v5 else (if what = 1 then v54 else (if v54 ≤ 0 then 0 else 1))) →  am_T S zX11_brings d u Q 97 [some (aR 0), none, none, some (aI what), none, some (aI v5), none] [aI t62, aI v4] (hfW w hb sp rb rs hb po ro ee hh ss uu vv pp kk rr tt gg aa dd bd ga im) := by
      intro t62 ht62 
      refine T_iaddW (am_w32 (v4 + t62)) (am_dec tX11_brings_1 10 rfl) (am_w32e _).symm (am_w32r _) ?_
      refine T_nm (fun v4_98 hv4_98 => ?_)
      refine T_istore (ls' := [some (aR 0), none, none, some (aI what), some (aI v4_98), some (aI v5), none]) (am_dec tX11_brings_1 11 rfl) (by decide) rfl ?_
      refine T_iinc (ls' := [some (aR 0), none, none, some (aI what), some (aI v4_98), some (aI (v5 + 1)), none]) (v5 + 1) (am_dec tX11_brings_1 12 rfl) rfl rfl ⟨by omega, by omega⟩ (by decide) rfl ?_
      refine T_goto 36 (am_dec tX11_brings_1 13 rfl) rfl ?_
      have e9 : (g_c_brings_36 aa what) v5 v4 = v4_98 := (by have s9 := hv54.symm; subst s9; have s9 := ht62.symm; subst s9; have s9 := hv4_98.symm; subst s9; exact rfl)
      simp only [am_fold_s, e9] at k9
      exact ih (v5 + 1) v4_98 (by omega) (by omega) k9
    refine T_if_ne 77 (am_dec tX11_brings_0 34 rfl) rfl (fun h62 => ?_) (fun h62 => ?_)
    · refine T_iload_n (am_dec tX11_brings_1 0 rfl) rfl ?_
      refine T_iconst 1 (am_dec tX11_brings_1 1 rfl) rfl ⟨by decide, by decide⟩ ?_
      have K79 : ∀ (t79 : Int), t79 = (if what = 1 then v54 else (if v54 ≤ 0 then 0 else 1)) →  am_T S zX11_brings d u Q 97 [some (aR 0), none, none, some (aI what), none, some (aI v5), none] [aI t79, aI v4] (hfW w hb sp rb rs hb po ro ee hh ss uu vv pp kk rr tt gg aa dd bd ga im) := by
        intro t79 ht79 
        exact K62 _ (by have s9 := ht79.symm; subst s9; exact (if_neg h62).symm) 
      refine T_icmp_ne 87 (am_dec tX11_brings_1 2 rfl) rfl (fun h79 => ?_) (fun h79 => ?_)
      · refine T_iload (am_dec tX11_brings_1 5 rfl) rfl ?_
        have K89 : ∀ (t89 : Int), t89 = (if v54 ≤ 0 then 0 else 1) →  am_T S zX11_brings d u Q 97 [some (aR 0), none, none, some (aI what), none, some (aI v5), none] [aI t89, aI v4] (hfW w hb sp rb rs hb po ro ee hh ss uu vv pp kk rr tt gg aa dd bd ga im) := by
          intro t89 ht89 
          have hbt89 : t89 = 0 ∨ t89 = 1 := by
            rw [ht89]
            try dsimp only
            repeat' split
            all_goals first | exact Or.inl rfl | exact Or.inr rfl | apply c_guardsAll_b | omega
          exact K79 _ (by have s9 := ht89.symm; subst s9; exact (if_neg h79).symm) 
        refine T_if_le 96 (am_dec tX11_brings_1 6 rfl) rfl (fun h89 => ?_) (fun h89 => ?_)
        · refine T_iconst 0 (am_dec tX11_brings_1 9 rfl) rfl ⟨by decide, by decide⟩ ?_
          refine T_weak (ls' := [some (aR 0), none, none, some (aI what), none, some (aI v5), none]) (am_sub_s (am_sub_n (am_sub_n (am_sub_s (am_sub_n (am_sub_s (am_sub_n am_sub_nil))))))) ?_
          exact K89 _ (if_pos h89).symm 
        · refine T_iconst 1 (am_dec tX11_brings_1 7 rfl) rfl ⟨by decide, by decide⟩ ?_
          refine T_goto 97 (am_dec tX11_brings_1 8 rfl) rfl ?_
          refine T_weak (ls' := [some (aR 0), none, none, some (aI what), none, some (aI v5), none]) (am_sub_s (am_sub_n (am_sub_n (am_sub_s (am_sub_n (am_sub_s (am_sub_n am_sub_nil))))))) ?_
          exact K89 _ (if_neg h89).symm 
      · refine T_iload (am_dec tX11_brings_1 3 rfl) rfl ?_
        refine T_goto 97 (am_dec tX11_brings_1 4 rfl) rfl ?_
        refine T_weak (ls' := [some (aR 0), none, none, some (aI what), none, some (aI v5), none]) (am_sub_s (am_sub_n (am_sub_n (am_sub_s (am_sub_n (am_sub_s (am_sub_n am_sub_nil))))))) ?_
        exact K79 _ (if_pos h79).symm 
    · refine T_aload_n (am_dec tX11_brings_0 35 rfl) rfl ?_
      refine T_getfield 10 12 (am_dec tX11_brings_0 36 rfl) flX11_75_10 (show (hfW w hb sp rb rs hb po ro ee hh ss uu vv pp kk rr tt gg aa dd bd ga im)[0]? = some (cO 10 [aR hb, aR sp, aR rb, aR rs, aR 52, aR 53, aR 51, aI (ee 0 7), aI (ee 0 8), aR 54, aR 64, aR 74, aR 77, aR 83, aR 84, aR 86, aR 88, aI (ee 0 17), aR 107, aR 108]) from (hfW_c hl 0 (by decide))) rfl ?_
      refine T_iload (am_dec tX11_brings_0 37 rfl) rfl ?_
      refine T_callV (as := [aI v5]) rfl (am_dec tX11_brings_0 38 rfl) lkX11_369 (show (hfW w hb sp rb rs hb po ro ee hh ss uu vv pp kk rr tt gg aa dd bd ga im)[77]? = some (cO 0 [aR 78, aR 79, aR 80, aR 81, aR 82, aI (aa 0 5)]) from (hfW_c hl 77 (by decide))) rfl rfl (Nat.le_of_ble_eq_true rfl) (by omega) (am_OutE (m_paid (d := d - 1) (w := hfW w hb sp rb rs hb po ro ee hh ss uu vv pp kk rr tt gg aa dd bd ga im) (hf_le hl (by omega))  v5 ) hf_uA hf_uA) (fun _ => ?_)
      refine T_nm (fun v71 hv71 => ?_)
      refine T_goto 97 (am_dec tX11_brings_0 39 rfl) rfl ?_
      refine T_weak (ls' := [some (aR 0), none, none, some (aI what), none, some (aI v5), none]) (am_sub_s (am_sub_n (am_sub_n (am_sub_s (am_sub_n (am_sub_s (am_sub_n am_sub_nil))))))) ?_
      exact K62 _ (by have s9 := hv71.symm; subst s9; exact (if_pos h62).symm) 
def c_brings (ee : am_F) (hh : am_F) (uu : am_F) (rr : am_F) (aa : am_F) (bd : am_F) (l : Int) (st : Int) (what : Int) : Int × Int × am_F × am_F × am_F × am_F := (if n_row (hh 0 7) l = 0 then (if n_step st = 0 then (if n_range what 0 2 = 0 then (let u27 : am_F × am_F × am_F := c_sellRule hh uu rr aa bd l st; (let v4_36 : Int := am_fold (g_c_brings_36 ((u27).2.2) what) 0 (bd 0 2).toNat 0; (0, v4_36, ee, (u27).1, (u27).2.1, (u27).2.2))) else ((n_range what 0 2), 0, n_ref ee (n_range what 0 2), uu, rr, aa)) else ((n_step st), 0, n_ref ee (n_step st), uu, rr, aa)) else ((n_row (hh 0 7) l), 0, n_ref ee (n_row (hh 0 7) l), uu, rr, aa))
theorem mc_brings {S : am_S} {d u : Nat} {w : AH} {hb sp rb rs : Nat} {po ro : AV} (hl : 109 ≤ w.length) (hp : hb = 1 ∧ sp = 21 ∨ hb = 21 ∧ sp = 1) (hr : rb = 41 ∧ rs = 46 ∨ rb = 46 ∧ rs = 41) {ee : am_F} {hh : am_F} {ss : am_F} {uu : am_F} {vv : am_F} {pp : am_F} {kk : am_F} {rr : am_F} {tt : am_F} {gg : am_F} {aa : am_F} {dd : am_F} {bd : am_F} {ga : am_F} {im : am_F} (l : Int) (st : Int) (what : Int) (hI : HbI hh) (hRI : RnI rr) (hBd : BdI bd) (hU : RuI uu) (hu : 1 ≤ u) (hd : 8 ≤ d) : am_Out S zX11_brings d u [aR 0, aI l, aI st, aI what] (hfW w hb sp rb rs hb po ro ee hh ss uu vv pp kk rr tt gg aa dd bd ga im) (am_oc ((c_brings ee hh uu rr aa bd l st what).1) ((c_brings ee hh uu rr aa bd l st what).2.1)) (hfW w hb sp rb rs hb po ro ((c_brings ee hh uu rr aa bd l st what).2.2.1) hh ss ((c_brings ee hh uu rr aa bd l st what).2.2.2.1) vv pp kk ((c_brings ee hh uu rr aa bd l st what).2.2.2.2.1) tt gg ((c_brings ee hh uu rr aa bd l st what).2.2.2.2.2) dd bd ga im) := by
  have key : ∀ Q : AO → AH → Prop, Q (am_oc ((c_brings ee hh uu rr aa bd l st what).1) ((c_brings ee hh uu rr aa bd l st what).2.1)) (hfW w hb sp rb rs hb po ro ((c_brings ee hh uu rr aa bd l st what).2.2.1) hh ss ((c_brings ee hh uu rr aa bd l st what).2.2.2.1) vv pp kk ((c_brings ee hh uu rr aa bd l st what).2.2.2.2.1) tt gg ((c_brings ee hh uu rr aa bd l st what).2.2.2.2.2) dd bd ga im) → am_M S zX11_brings d u [aR 0, aI l, aI st, aI what] (hfW w hb sp rb rs hb po ro ee hh ss uu vv pp kk rr tt gg aa dd bd ga im) Q := by
    intro Q hQ
    refine am_body rfl (by decide +kernel) rfl (am_cats_cons rfl ( am_cats_cons rfl ( am_cats_cons rfl ( am_cats_cons rfl (am_cats_nil))))) (Nat.le_of_ble_eq_true rfl) (?_ : am_T _ _ _ _ _ 0 [some (aR 0), some (aI l), some (aI st), some (aI what), none, none, none] [] (hfW w hb sp rb rs hb po ro ee hh ss uu vv pp kk rr tt gg aa dd bd ga im))
    obtain ⟨vh1, vh2, vh3, vh4, vh5, vh6, vh7, vh8, vh9, vh10, vh11, vh12, vh13, vh14, vh15, vh16, vh17, vh18, vh19, vh20, vh21, vh22⟩ := (HbI_A hI).1
    have hBd9 := hBd
    obtain ⟨vb0, ⟨vb1, vb2⟩, vb3⟩ := hBd9
    refine T_aload_n (am_dec tX11_brings_0 0 rfl) rfl ?_
    refine T_aload_n (am_dec tX11_brings_0 1 rfl) rfl ?_
    refine T_getfield 10 0 (am_dec tX11_brings_0 2 rfl) flX11_10_10 (show (hfW w hb sp rb rs hb po ro ee hh ss uu vv pp kk rr tt gg aa dd bd ga im)[0]? = some (cO 10 [aR hb, aR sp, aR rb, aR rs, aR 52, aR 53, aR 51, aI (ee 0 7), aI (ee 0 8), aR 54, aR 64, aR 74, aR 77, aR 83, aR 84, aR 86, aR 88, aI (ee 0 17), aR 107, aR 108]) from (hfW_c hl 0 (by decide))) rfl ?_
    refine T_getfield 3 7 (am_dec tX11_brings_0 3 rfl) flX11_149_3 (show (hfW w hb sp rb rs hb po ro ee hh ss uu vv pp kk rr tt gg aa dd bd ga im)[hb]? = some (cO 3 [aI (hh 0 0), aI (hh 0 1), aI (hh 0 2), aR (hb + 1), aR (hb + 3), aR (hb + 5), aR (hb + 7), aR (hb + 9), aR (hb + 11), aR (hb + 13), aR (hb + 15), aR (hb + 17), aR (hb + 18), aR (hb + 19)]) from ((hf_H hl hp) 0 (by decide))) rfl ?_
    refine T_iload_n (am_dec tX11_brings_0 4 rfl) rfl ?_
    refine T_callVo (as := [aR (hb + 9), aI l]) (code := n_row (hh 0 7) l) rfl (am_dec tX11_brings_0 5 rfl) lkX11_190 (show (hfW w hb sp rb rs hb po ro ee hh ss uu vv pp kk rr tt gg aa dd bd ga im)[0]? = some (cO 10 [aR hb, aR sp, aR rb, aR rs, aR 52, aR 53, aR 51, aI (ee 0 7), aI (ee 0 8), aR 54, aR 64, aR 74, aR 77, aR 83, aR 84, aR 86, aR 88, aI (ee 0 17), aR 107, aR 108]) from (hfW_c hl 0 (by decide))) rfl rfl (Nat.le_of_ble_eq_true rfl) (by omega) (by omega) (fun hN9 => (mx_row0 (d := d - 1) hl hp hr l (show (hfW w hb sp rb rs hb po ro ee hh ss uu vv pp kk rr tt gg aa dd bd ga im)[hb + 9]? = some (cO 9 [aI 6, aR (hb + 10), aI (hh 0 7)]) from ((hf_H hl hp) 9 (by decide))) (show (hfW w hb sp rb rs hb po ro ee hh ss uu vv pp kk rr tt gg aa dd bd ga im)[hb + 10]? = some (cP 0 48 (hh 5)) from ((hf_H hl hp) 10 (by decide))) (by omega) hN9 (by omega))) (fun hN9 => (x_rowX (d := d - 1) hl hp hr l (show (hfW w hb sp rb rs hb po ro ee hh ss uu vv pp kk rr tt gg aa dd bd ga im)[hb + 9]? = some (cO 9 [aI 6, aR (hb + 10), aI (hh 0 7)]) from ((hf_H hl hp) 9 (by decide))) (show (hfW w hb sp rb rs hb po ro ee hh ss uu vv pp kk rr tt gg aa dd bd ga im)[hb + 10]? = some (cP 0 48 (hh 5)) from ((hf_H hl hp) 10 (by decide))) (by omega) hN9 (by omega) (by omega))) (fun hN9 => ?_) (fun hN9 => ?_)
    · exact (am_tr (fun (x9 : Int × Int × am_F × am_F × am_F × am_F) => Q (am_oc (x9.1) (x9.2.1)) (hfW w hb sp rb rs hb po ro x9.2.2.1 hh ss x9.2.2.2.1 vv pp kk x9.2.2.2.2.1 tt gg x9.2.2.2.2.2 dd bd ga im)) (y := ((n_row (hh 0 7) l), 0, n_ref ee (n_row (hh 0 7) l), uu, rr, aa)) (show (c_brings ee hh uu rr aa bd l st what) = ((n_row (hh 0 7) l), 0, n_ref ee (n_row (hh 0 7) l), uu, rr, aa) from (if_neg hN9)) hQ)
    have hk9 := n_row_0 hN9
    refine T_aload_n (am_dec tX11_brings_0 6 rfl) rfl ?_
    refine T_iload_n (am_dec tX11_brings_0 7 rfl) rfl ?_
    refine T_callVo (as := [aI st]) (code := n_step st) rfl (am_dec tX11_brings_0 8 rfl) lkX11_194 (show (hfW w hb sp rb rs hb po ro ee hh ss uu vv pp kk rr tt gg aa dd bd ga im)[0]? = some (cO 10 [aR hb, aR sp, aR rb, aR rs, aR 52, aR 53, aR 51, aI (ee 0 7), aI (ee 0 8), aR 54, aR 64, aR 74, aR 77, aR 83, aR 84, aR 86, aR 88, aI (ee 0 17), aR 107, aR 108]) from (hfW_c hl 0 (by decide))) rfl rfl (Nat.le_of_ble_eq_true rfl) (by omega) (by omega) (fun hN14 => (mx_step0 (d := d - 1) hl hp hr st  hN14 (by omega))) (fun hN14 => (x_stepX (d := d - 1) hl hp hr st  hN14 (by omega) (by omega))) (fun hN14 => ?_) (fun hN14 => ?_)
    · exact (am_tr (fun (x9 : Int × Int × am_F × am_F × am_F × am_F) => Q (am_oc (x9.1) (x9.2.1)) (hfW w hb sp rb rs hb po ro x9.2.2.1 hh ss x9.2.2.2.1 vv pp kk x9.2.2.2.2.1 tt gg x9.2.2.2.2.2 dd bd ga im)) (y := ((n_step st), 0, n_ref ee (n_step st), uu, rr, aa)) (show (c_brings ee hh uu rr aa bd l st what) = ((n_step st), 0, n_ref ee (n_step st), uu, rr, aa) from ((if_pos hN9).trans (if_neg hN14))) hQ)
    have hk14 := n_step_0 hN14
    refine T_aload_n (am_dec tX11_brings_0 9 rfl) rfl ?_
    refine T_iload_n (am_dec tX11_brings_0 10 rfl) rfl ?_
    refine T_iconst 0 (am_dec tX11_brings_0 11 rfl) rfl ⟨by decide, by decide⟩ ?_
    refine T_iconst 2 (am_dec tX11_brings_0 12 rfl) rfl ⟨by decide, by decide⟩ ?_
    refine T_callVo (as := [aI what, aI 0, aI 2]) (code := n_range what 0 2) rfl (am_dec tX11_brings_0 13 rfl) lkX11_117 (show (hfW w hb sp rb rs hb po ro ee hh ss uu vv pp kk rr tt gg aa dd bd ga im)[0]? = some (cO 10 [aR hb, aR sp, aR rb, aR rs, aR 52, aR 53, aR 51, aI (ee 0 7), aI (ee 0 8), aR 54, aR 64, aR 74, aR 77, aR 83, aR 84, aR 86, aR 88, aI (ee 0 17), aR 107, aR 108]) from (hfW_c hl 0 (by decide))) rfl rfl (Nat.le_of_ble_eq_true rfl) (by omega) (by omega) (fun hN21 => (mx_range0 (d := d - 1) hl hp hr what 0 2  hN21 (by omega))) (fun hN21 => (x_rangeX (d := d - 1) hl hp hr what 0 2  hN21 (by omega) (by omega))) (fun hN21 => ?_) (fun hN21 => ?_)
    · exact (am_tr (fun (x9 : Int × Int × am_F × am_F × am_F × am_F) => Q (am_oc (x9.1) (x9.2.1)) (hfW w hb sp rb rs hb po ro x9.2.2.1 hh ss x9.2.2.2.1 vv pp kk x9.2.2.2.2.1 tt gg x9.2.2.2.2.2 dd bd ga im)) (y := ((n_range what 0 2), 0, n_ref ee (n_range what 0 2), uu, rr, aa)) (show (c_brings ee hh uu rr aa bd l st what) = ((n_range what 0 2), 0, n_ref ee (n_range what 0 2), uu, rr, aa) from ((if_pos hN9).trans ((if_pos hN14).trans (if_neg hN21)))) hQ)
    have hk21 := n_range_0 hN21
    refine T_aload_n (am_dec tX11_brings_0 14 rfl) rfl ?_
    refine T_iload_n (am_dec tX11_brings_0 15 rfl) rfl ?_
    refine T_iload_n (am_dec tX11_brings_0 16 rfl) rfl ?_
    refine T_callV (as := [aI l, aI st]) rfl (am_dec tX11_brings_0 17 rfl) lkX11_366 (show (hfW w hb sp rb rs hb po ro ee hh ss uu vv pp kk rr tt gg aa dd bd ga im)[0]? = some (cO 10 [aR hb, aR sp, aR rb, aR rs, aR 52, aR 53, aR 51, aI (ee 0 7), aI (ee 0 8), aR 54, aR 64, aR 74, aR 77, aR 83, aR 84, aR 86, aR 88, aI (ee 0 17), aR 107, aR 108]) from (hfW_c hl 0 (by decide))) rfl rfl (Nat.le_of_ble_eq_true rfl) (by omega) (mc_sellRule (d := d - 1) hl hp hr l st  hI hRI hBd hU (by omega)) (fun _ => ?_)
    obtain ⟨u27, hu27⟩ : ∃ x9, x9 = c_sellRule hh uu rr aa bd l st := ⟨_, rfl⟩
    rw [← hu27]
    refine T_iconst 0 (am_dec tX11_brings_0 18 rfl) rfl ⟨by decide, by decide⟩ ?_
    refine T_istore (ls' := [some (aR 0), some (aI l), some (aI st), some (aI what), some (aI 0), none, none]) (am_dec tX11_brings_0 19 rfl) (by decide) rfl ?_
    refine T_iconst 0 (am_dec tX11_brings_0 20 rfl) rfl ⟨by decide, by decide⟩ ?_
    refine T_istore (ls' := [some (aR 0), some (aI l), some (aI st), some (aI what), some (aI 0), some (aI 0), none]) (am_dec tX11_brings_0 21 rfl) (by decide) rfl ?_
    refine T_weak (ls' := [some (aR 0), none, none, some (aI what), some (aI 0), some (aI 0), none]) (am_sub_s (am_sub_n (am_sub_n (am_sub_s (am_sub_s (am_sub_s (am_sub_n am_sub_nil))))))) ?_
    refine L_c_brings_36 hl hp hr ee hh ss ((u27).1) vv pp kk ((u27).2.1) tt gg ((u27).2.2) dd bd ga im what  hI hBd (by omega) _ rfl (bd 0 2).toNat 0 0 (by omega) (by omega) (fun v4_36 hv4_36 => ?_)
    refine T_iload (am_dec tX11_brings_1 14 rfl) rfl ?_
    exact T_ireturn (am_dec tX11_brings_1 15 rfl) rfl (am_tr (fun (x9 : Int × Int × am_F × am_F × am_F × am_F) => Q (am_oc (x9.1) (x9.2.1)) (hfW w hb sp rb rs hb po ro x9.2.2.1 hh ss x9.2.2.2.1 vv pp kk x9.2.2.2.2.1 tt gg x9.2.2.2.2.2 dd bd ga im)) (y := (0, v4_36, ee, (u27).1, (u27).2.1, (u27).2.2)) (show (c_brings ee hh uu rr aa bd l st what) = (0, v4_36, ee, (u27).1, (u27).2.1, (u27).2.2) from (by have s9 := hu27.symm; subst s9; have s9 := hv4_36.symm; subst s9; exact ((if_pos hN9).trans ((if_pos hN14).trans (if_pos hN21))))) hQ)
  exact key _ ⟨rfl, rfl⟩
