/-! the port reader: cells, blocks, banks, walks -/
theorem f_has_x (h : am_F) (x y : Int) : f_has h x y = 0 ∨ f_has h x y = 1 ∧ 0 ≤ x ∧ x < h 0 0 ∧ 0 ≤ y ∧ y < h 0 1 := by
  unfold f_has
  split
  · right; exact ⟨rfl, by assumption⟩
  · exact Or.inl rfl
theorem SpI_put {h : am_F} (q : SpI h) (i : Nat) (v : Int) (hv : 0 ≤ v ∧ v ≤ 99) : SpI (am_put h 11 i v) := ⟨HbI_put q.1 i v hv, q.2⟩
theorem SpI_path {h : am_F} (q : SpI h) (i : Nat) (v : Int) (hv : 0 ≤ v ∧ v ≤ 88) : SpI (am_put h 9 i v) := by
  obtain ⟨⟨hA, hW, hCo, hWt, hFs, hSh, hP, hFD⟩, hPa⟩ := q
  have h2 : PaB (am_put h 9 i v) := fun j => by
    show 0 ≤ am_up (h 9) i v j ∧ am_up (h 9) i v j ≤ 88
    unfold am_up
    split
    · exact hv
    · exact hPa j
  have hW2 : HbW (am_put h 9 i v) := hW
  have hm : h 0 8 ≤ 4 := by obtain ⟨v1, v2, v3, v4, v5, v6, v7, v8, v9, v10, v11, v12, v13, v14, v15, v16, v17, v18, v19⟩ := hA.1; exact v18
  exact ⟨⟨hA, hW2, CoB_of h2, hWt, hFs, hSh, PaP_of hW2 h2 hm, hFD⟩, h2⟩
theorem SpI_lot {h : am_F} (q : SpI h) (i : Nat) (v : Int) (hv : -1 ≤ v ∧ v < 6) : SpI (am_put h 10 i v) := by
  obtain ⟨⟨⟨hV, hLt, hWd, hSt, hLp, hTh⟩, hW, hCo, hWt, hFs, hSh, hP, hFD⟩, hPa⟩ := q
  have h2 : LotB (am_put h 10 i v) := fun c => by
    have z := hLt c
    unfold f_lotOn at *
    show -1 ≤ (if 0 ≤ c ∧ c < 90 then am_up (h 10) i v c.toNat else -1) ∧ (if 0 ≤ c ∧ c < 90 then am_up (h 10) i v c.toNat else -1) < 6
    unfold am_up
    split
    · rename_i hc
      rw [if_pos hc] at z
      split
      · exact hv
      · exact z
    · omega
  exact ⟨⟨⟨hV, h2, hWd, hSt, hLp, hTh⟩, hW, hCo, hWt, hFs, hSh, hP, hFD⟩, hPa⟩
theorem SpI_size {h : am_F} (q : SpI h) (a b : Int) (ha : 2 ≤ a ∧ a ≤ 9) (hb : 2 ≤ b ∧ b ≤ 9) : SpI (am_put (am_put h 0 0 a) 0 1 b) := by
  obtain ⟨⟨⟨hV, hLt, hWd, hSt, hLp, hTh⟩, hW, hCo, hWt, hFs, hSh, hP, hFD⟩, hPa⟩ := q
  exact ⟨⟨⟨⟨ha.1, ha.2, hb.1, hb.2, hV.2.2.2.2⟩, hLt, hWd, hSt, hLp, hTh⟩, hW, hCo, hWt, hFs, hSh, hP, hFD⟩, hPa⟩
theorem SpI_sight {h : am_F} (q : SpI h) (a : Int) (ha : 1 ≤ a ∧ a ≤ 99) : SpI (am_put h 0 2 a) := by
  obtain ⟨⟨⟨hV, hLt, hWd, hSt, hLp, hTh⟩, hW, hCo, hWt, hFs, hSh, hP, hFD⟩, hPa⟩ := q
  exact ⟨⟨⟨⟨hV.1, hV.2.1, hV.2.2.1, hV.2.2.2.1, ha.1, ha.2, hV.2.2.2.2.2.2⟩, hLt, hWd, hSt, hLp, hTh⟩, hW, hCo, hWt, hFs, hSh, hP, hFD⟩, hPa⟩
def c_readStep (ee : am_F) (pp : am_F) : Int × am_F := (let u4 : Int × am_F := c_number ee pp 0 39; (((u4).1), (u4).2))
theorem mc_readStep {S : am_S} {d u : Nat} {w : AH} {hb sp rb rs : Nat} {ro : AV} (hl : 109 ≤ w.length) (hp : hb = 1 ∧ sp = 21 ∨ hb = 21 ∧ sp = 1) (hr : rb = 41 ∧ rs = 46 ∨ rb = 46 ∧ rs = 41) {ee : am_F} {hh : am_F} {ss : am_F} {uu : am_F} {vv : am_F} {pp : am_F} {kk : am_F} {rr : am_F} {tt : am_F} {gg : am_F} {aa : am_F} {dd : am_F} {bd : am_F} {ga : am_F} {im : am_F}  (hP : RdI pp) (hTp : TpI ee) (hS : SpI ss)  (hd : 3 ≤ d) : am_Out S zX5_readStep d u [aR 52] (hfW w hb sp rb rs hb (aR sp) ro ee hh ss uu vv pp kk rr tt gg aa dd bd ga im) (.inl (some (aI ((c_readStep ee pp).1)))) (hfW w hb sp rb rs hb (aR sp) ro ee hh ss uu vv ((c_readStep ee pp).2) kk rr tt gg aa dd bd ga im) := by
  have key : ∀ Q : AO → AH → Prop, Q (.inl (some (aI ((c_readStep ee pp).1)))) (hfW w hb sp rb rs hb (aR sp) ro ee hh ss uu vv ((c_readStep ee pp).2) kk rr tt gg aa dd bd ga im) → am_M S zX5_readStep d u [aR 52] (hfW w hb sp rb rs hb (aR sp) ro ee hh ss uu vv pp kk rr tt gg aa dd bd ga im) Q := by
    intro Q hQ
    refine am_body rfl (by decide +kernel) rfl (am_cats_cons rfl (am_cats_nil)) (Nat.le_of_ble_eq_true rfl) (?_ : am_T _ _ _ _ _ 0 [some (aR 52)] [] (hfW w hb sp rb rs hb (aR sp) ro ee hh ss uu vv pp kk rr tt gg aa dd bd ga im))
    have hP9 := hP
    obtain ⟨⟨vr1, vr2⟩, vr3, vr4, vr5⟩ := hP9
    obtain ⟨vs1, vs2, vs3, vs4, vs5, vs6, vs7, vs8, vs9, vs10, vs11, vs12, vs13, vs14, vs15, vs16, vs17, vs18, vs19, vs20, vs21, vs22⟩ := (HbI_A hS.1).1
    refine T_aload_n (am_dec tX5_readStep_0 0 rfl) rfl ?_
    refine T_iconst 0 (am_dec tX5_readStep_0 1 rfl) rfl ⟨by decide, by decide⟩ ?_
    refine T_bipush 39 (am_dec tX5_readStep_0 2 rfl) rfl ⟨by decide, by decide⟩ ?_
    refine T_callU (as := [aI 0, aI 39]) rfl (am_dec tX5_readStep_0 3 rfl) lkX5_109_X5 (show (hfW w hb sp rb rs hb (aR sp) ro ee hh ss uu vv pp kk rr tt gg aa dd bd ga im)[52]? = some (cO 5 [aR 51, aI (pp 0 1), aI (pp 0 2), aI (pp 0 3), aI (pp 0 4), aI (pp 0 5), aR sp, aI (pp 0 7), aI (pp 0 8), aI (pp 0 9), aI (pp 0 10)]) from (hfW_c hl 52 (by decide))) rfl rfl (Nat.le_of_ble_eq_true rfl) (by omega) (mc_number (d := d - 1) hl hp hr 0 39  hP hTp (by omega)) (fun _ => ?_)
    obtain ⟨u4, hu4⟩ : ∃ x9, x9 = c_number ee pp 0 39 := ⟨_, rfl⟩
    rw [← hu4]
    have hxu4 : Rd2 pp u4.2 := by rw [hu4]; exact (Rd2.rf hP).number hTp _ _
    have hIu4 := hxu4.1
    have hgu4 := hIu4
    obtain ⟨⟨yr41, yr42⟩, yr43, yr44, yr45⟩ := hgu4
    have heu4_7 : u4.2 0 7 = pp 0 7 := hxu4.2 0 7 (by decide)
    have heu4_8 : u4.2 0 8 = pp 0 8 := hxu4.2 0 8 (by decide)
    have heu4_9 : u4.2 0 9 = pp 0 9 := hxu4.2 0 9 (by decide)
    have heu4_10 : u4.2 0 10 = pp 0 10 := hxu4.2 0 10 (by decide)
    have hbu4 : 0 ≤ u4.1 ∧ u4.1 ≤ 39 := by rw [hu4]; exact c_number_b _ _ (by omega)
    exact T_ireturn (am_dec tX5_readStep_0 4 rfl) rfl (am_tr (fun (x9 : Int × am_F) => Q (.inl (some (aI (x9.1)))) (hfW w hb sp rb rs hb (aR sp) ro ee hh ss uu vv x9.2 kk rr tt gg aa dd bd ga im)) (y := (((u4).1), (u4).2)) (show (c_readStep ee pp) = (((u4).1), (u4).2) from (by have s9 := hu4.symm; subst s9; exact rfl)) hQ)
  exact key _ ⟨rfl, rfl⟩
def c_readCell (ee : am_F) (ss : am_F) (pp : am_F) : Int × am_F := (let u11 : Int × am_F := c_number ee pp 0 ((ss 0 0) - 1); (let u26 : Int × am_F := c_number ee ((u11).2) 0 ((ss 0 1) - 1); ((((u11).1) + (10 * ((u26).1))), (u26).2)))
theorem mc_readCell {S : am_S} {d u : Nat} {w : AH} {hb sp rb rs : Nat} {ro : AV} (hl : 109 ≤ w.length) (hp : hb = 1 ∧ sp = 21 ∨ hb = 21 ∧ sp = 1) (hr : rb = 41 ∧ rs = 46 ∨ rb = 46 ∧ rs = 41) {ee : am_F} {hh : am_F} {ss : am_F} {uu : am_F} {vv : am_F} {pp : am_F} {kk : am_F} {rr : am_F} {tt : am_F} {gg : am_F} {aa : am_F} {dd : am_F} {bd : am_F} {ga : am_F} {im : am_F}  (hP : RdI pp) (hTp : TpI ee) (hS : SpI ss)  (hd : 3 ≤ d) : am_Out S zX5_readCell d u [aR 52] (hfW w hb sp rb rs hb (aR sp) ro ee hh ss uu vv pp kk rr tt gg aa dd bd ga im) (.inl (some (aI ((c_readCell ee ss pp).1)))) (hfW w hb sp rb rs hb (aR sp) ro ee hh ss uu vv ((c_readCell ee ss pp).2) kk rr tt gg aa dd bd ga im) := by
  have key : ∀ Q : AO → AH → Prop, Q (.inl (some (aI ((c_readCell ee ss pp).1)))) (hfW w hb sp rb rs hb (aR sp) ro ee hh ss uu vv ((c_readCell ee ss pp).2) kk rr tt gg aa dd bd ga im) → am_M S zX5_readCell d u [aR 52] (hfW w hb sp rb rs hb (aR sp) ro ee hh ss uu vv pp kk rr tt gg aa dd bd ga im) Q := by
    intro Q hQ
    refine am_body rfl (by decide +kernel) rfl (am_cats_cons rfl (am_cats_nil)) (Nat.le_of_ble_eq_true rfl) (?_ : am_T _ _ _ _ _ 0 [some (aR 52), none, none] [] (hfW w hb sp rb rs hb (aR sp) ro ee hh ss uu vv pp kk rr tt gg aa dd bd ga im))
    have hP9 := hP
    obtain ⟨⟨vr1, vr2⟩, vr3, vr4, vr5⟩ := hP9
    obtain ⟨vs1, vs2, vs3, vs4, vs5, vs6, vs7, vs8, vs9, vs10, vs11, vs12, vs13, vs14, vs15, vs16, vs17, vs18, vs19, vs20, vs21, vs22⟩ := (HbI_A hS.1).1
    refine T_aload_n (am_dec tX5_readCell_0 0 rfl) rfl ?_
    refine T_iconst 0 (am_dec tX5_readCell_0 1 rfl) rfl ⟨by decide, by decide⟩ ?_
    refine T_aload_n (am_dec tX5_readCell_0 2 rfl) rfl ?_
    refine T_getfield 5 6 (am_dec tX5_readCell_0 3 rfl) flX5_9_5 (show (hfW w hb sp rb rs hb (aR sp) ro ee hh ss uu vv pp kk rr tt gg aa dd bd ga im)[52]? = some (cO 5 [aR 51, aI (pp 0 1), aI (pp 0 2), aI (pp 0 3), aI (pp 0 4), aI (pp 0 5), aR sp, aI (pp 0 7), aI (pp 0 8), aI (pp 0 9), aI (pp 0 10)]) from (hfW_c hl 52 (by decide))) rfl ?_
    refine T_getfield 3 0 (am_dec tX5_readCell_0 4 rfl) flX5_113_3 (show (hfW w hb sp rb rs hb (aR sp) ro ee hh ss uu vv pp kk rr tt gg aa dd bd ga im)[sp]? = some (cO 3 [aI (ss 0 0), aI (ss 0 1), aI (ss 0 2), aR (sp + 1), aR (sp + 3), aR (sp + 5), aR (sp + 7), aR (sp + 9), aR (sp + 11), aR (sp + 13), aR (sp + 15), aR (sp + 17), aR (sp + 18), aR (sp + 19)]) from ((hf_S hl hp) 0 (by decide))) rfl ?_
    refine T_iconst 1 (am_dec tX5_readCell_0 5 rfl) rfl ⟨by decide, by decide⟩ ?_
    refine T_isub ((ss 0 0) - 1) (am_dec tX5_readCell_0 6 rfl) rfl ⟨by omega, by omega⟩ ?_
    refine T_callU (as := [aI 0, aI ((ss 0 0) - 1)]) rfl (am_dec tX5_readCell_0 7 rfl) lkX5_109_X5 (show (hfW w hb sp rb rs hb (aR sp) ro ee hh ss uu vv pp kk rr tt gg aa dd bd ga im)[52]? = some (cO 5 [aR 51, aI (pp 0 1), aI (pp 0 2), aI (pp 0 3), aI (pp 0 4), aI (pp 0 5), aR sp, aI (pp 0 7), aI (pp 0 8), aI (pp 0 9), aI (pp 0 10)]) from (hfW_c hl 52 (by decide))) rfl rfl (Nat.le_of_ble_eq_true rfl) (by omega) (mc_number (d := d - 1) hl hp hr 0 ((ss 0 0) - 1)  hP hTp (by omega)) (fun _ => ?_)
    obtain ⟨u11, hu11⟩ : ∃ x9, x9 = c_number ee pp 0 ((ss 0 0) - 1) := ⟨_, rfl⟩
    rw [← hu11]
    have hxu11 : Rd2 pp u11.2 := by rw [hu11]; exact (Rd2.rf hP).number hTp _ _
    have hIu11 := hxu11.1
    have hgu11 := hIu11
    obtain ⟨⟨yr111, yr112⟩, yr113, yr114, yr115⟩ := hgu11
    have heu11_7 : u11.2 0 7 = pp 0 7 := hxu11.2 0 7 (by decide)
    have heu11_8 : u11.2 0 8 = pp 0 8 := hxu11.2 0 8 (by decide)
    have heu11_9 : u11.2 0 9 = pp 0 9 := hxu11.2 0 9 (by decide)
    have heu11_10 : u11.2 0 10 = pp 0 10 := hxu11.2 0 10 (by decide)
    have hbu11 : 0 ≤ u11.1 ∧ u11.1 ≤ ((ss 0 0) - 1) := by rw [hu11]; exact c_number_b _ _ (by omega)
    refine T_istore_n (ls' := [some (aR 52), some (aI ((u11).1)), none]) (am_dec tX5_readCell_0 8 rfl) (by decide) rfl ?_
    refine T_aload_n (am_dec tX5_readCell_0 9 rfl) rfl ?_
    refine T_iconst 0 (am_dec tX5_readCell_0 10 rfl) rfl ⟨by decide, by decide⟩ ?_
    refine T_aload_n (am_dec tX5_readCell_0 11 rfl) rfl ?_
    refine T_getfield 5 6 (am_dec tX5_readCell_0 12 rfl) flX5_9_5 (show (hfW w hb sp rb rs hb (aR sp) ro ee hh ss uu vv ((u11).2) kk rr tt gg aa dd bd ga im)[52]? = some (cO 5 [aR 51, aI ((u11).2 0 1), aI ((u11).2 0 2), aI ((u11).2 0 3), aI ((u11).2 0 4), aI ((u11).2 0 5), aR sp, aI ((u11).2 0 7), aI ((u11).2 0 8), aI ((u11).2 0 9), aI ((u11).2 0 10)]) from (hfW_c hl 52 (by decide))) rfl ?_
    refine T_getfield 3 1 (am_dec tX5_readCell_0 13 rfl) flX5_116_3 (show (hfW w hb sp rb rs hb (aR sp) ro ee hh ss uu vv ((u11).2) kk rr tt gg aa dd bd ga im)[sp]? = some (cO 3 [aI (ss 0 0), aI (ss 0 1), aI (ss 0 2), aR (sp + 1), aR (sp + 3), aR (sp + 5), aR (sp + 7), aR (sp + 9), aR (sp + 11), aR (sp + 13), aR (sp + 15), aR (sp + 17), aR (sp + 18), aR (sp + 19)]) from ((hf_S hl hp) 0 (by decide))) rfl ?_
    refine T_iconst 1 (am_dec tX5_readCell_0 14 rfl) rfl ⟨by decide, by decide⟩ ?_
    refine T_isub ((ss 0 1) - 1) (am_dec tX5_readCell_0 15 rfl) rfl ⟨by omega, by omega⟩ ?_
    refine T_callU (as := [aI 0, aI ((ss 0 1) - 1)]) rfl (am_dec tX5_readCell_0 16 rfl) lkX5_109_X5 (show (hfW w hb sp rb rs hb (aR sp) ro ee hh ss uu vv ((u11).2) kk rr tt gg aa dd bd ga im)[52]? = some (cO 5 [aR 51, aI ((u11).2 0 1), aI ((u11).2 0 2), aI ((u11).2 0 3), aI ((u11).2 0 4), aI ((u11).2 0 5), aR sp, aI ((u11).2 0 7), aI ((u11).2 0 8), aI ((u11).2 0 9), aI ((u11).2 0 10)]) from (hfW_c hl 52 (by decide))) rfl rfl (Nat.le_of_ble_eq_true rfl) (by omega) (mc_number (d := d - 1) hl hp hr 0 ((ss 0 1) - 1)  hIu11 hTp (by omega)) (fun _ => ?_)
    obtain ⟨u26, hu26⟩ : ∃ x9, x9 = c_number ee ((u11).2) 0 ((ss 0 1) - 1) := ⟨_, rfl⟩
    rw [← hu26]
    have hxu26 : Rd2 ((u11).2) u26.2 := by rw [hu26]; exact (Rd2.rf hIu11).number hTp _ _
    have hIu26 := hxu26.1
    have hgu26 := hIu26
    obtain ⟨⟨yr261, yr262⟩, yr263, yr264, yr265⟩ := hgu26
    have heu26_7 : u26.2 0 7 = (u11).2 0 7 := hxu26.2 0 7 (by decide)
    have heu26_8 : u26.2 0 8 = (u11).2 0 8 := hxu26.2 0 8 (by decide)
    have heu26_9 : u26.2 0 9 = (u11).2 0 9 := hxu26.2 0 9 (by decide)
    have heu26_10 : u26.2 0 10 = (u11).2 0 10 := hxu26.2 0 10 (by decide)
    have hbu26 : 0 ≤ u26.1 ∧ u26.1 ≤ ((ss 0 1) - 1) := by rw [hu26]; exact c_number_b _ _ (by omega)
    refine T_istore_n (ls' := [some (aR 52), some (aI ((u11).1)), some (aI ((u26).1))]) (am_dec tX5_readCell_0 17 rfl) (by decide) rfl ?_
    refine T_iload_n (am_dec tX5_readCell_0 18 rfl) rfl ?_
    refine T_bipush 10 (am_dec tX5_readCell_0 19 rfl) rfl ⟨by decide, by decide⟩ ?_
    refine T_iload_n (am_dec tX5_readCell_0 20 rfl) rfl ?_
    refine T_imul (10 * ((u26).1)) (am_dec tX5_readCell_0 21 rfl) rfl ⟨by omega, by omega⟩ ?_
    refine T_iadd (((u11).1) + (10 * ((u26).1))) (am_dec tX5_readCell_0 22 rfl) rfl ⟨by omega, by omega⟩ ?_
    exact T_ireturn (am_dec tX5_readCell_0 23 rfl) rfl (am_tr (fun (x9 : Int × am_F) => Q (.inl (some (aI (x9.1)))) (hfW w hb sp rb rs hb (aR sp) ro ee hh ss uu vv x9.2 kk rr tt gg aa dd bd ga im)) (y := ((((u11).1) + (10 * ((u26).1))), (u26).2)) (show (c_readCell ee ss pp) = ((((u11).1) + (10 * ((u26).1))), (u26).2) from (by have s9 := hu11.symm; subst s9; have s9 := hu26.symm; subst s9; exact rfl)) hQ)
  exact key _ ⟨rfl, rfl⟩
theorem c_readCell_x {ee ss a b : am_F} (h : Rd2 a b) (t : TpI ee) (q : SpI ss) : Rd2 a (c_readCell ee ss b).2 ∧ 0 ≤ (c_readCell ee ss b).1 ∧ (c_readCell ee ss b).1 ≤ 88 := by
  obtain ⟨v1, v2, v3, v4, v5⟩ := (HbI_A q.1).1
  unfold c_readCell
  dsimp only
  have b1 := c_number_b ee b (lo := 0) (hi := ss 0 0 - 1) (by omega)
  have b2 := c_number_b ee (c_number ee b 0 (ss 0 0 - 1)).2 (lo := 0) (hi := ss 0 1 - 1) (by omega)
  exact ⟨(h.number t _ _).number t _ _, by omega, by omega⟩
def c_readBlock (ee : am_F) (ss : am_F) (pp : am_F) : am_F := (let u12 : Int × am_F := c_number ee pp 0 ((ss 0 0) - 1); (let u30 : Int × am_F := c_number ee (am_put (u12).2 0 7 ((u12).1)) 0 ((ss 0 1) - 1); (let u51 : Int × am_F := c_number ee (am_put (u30).2 0 8 ((u30).1)) ((u30).2 0 7) ((ss 0 0) - 1); (let u72 : Int × am_F := c_number ee (am_put (u51).2 0 9 ((u51).1)) ((u51).2 0 8) ((ss 0 1) - 1); (am_put (u72).2 0 10 ((u72).1))))))
theorem mc_readBlock {S : am_S} {d u : Nat} {w : AH} {hb sp rb rs : Nat} {ro : AV} (hl : 109 ≤ w.length) (hp : hb = 1 ∧ sp = 21 ∨ hb = 21 ∧ sp = 1) (hr : rb = 41 ∧ rs = 46 ∨ rb = 46 ∧ rs = 41) {ee : am_F} {hh : am_F} {ss : am_F} {uu : am_F} {vv : am_F} {pp : am_F} {kk : am_F} {rr : am_F} {tt : am_F} {gg : am_F} {aa : am_F} {dd : am_F} {bd : am_F} {ga : am_F} {im : am_F}  (hP : RdI pp) (hTp : TpI ee) (hS : SpI ss)  (hd : 3 ≤ d) : am_Out S zX5_readBlock d u [aR 52] (hfW w hb sp rb rs hb (aR sp) ro ee hh ss uu vv pp kk rr tt gg aa dd bd ga im) (.inl none) (hfW w hb sp rb rs hb (aR sp) ro ee hh ss uu vv (c_readBlock ee ss pp) kk rr tt gg aa dd bd ga im) := by
  have key : ∀ Q : AO → AH → Prop, Q (.inl none) (hfW w hb sp rb rs hb (aR sp) ro ee hh ss uu vv (c_readBlock ee ss pp) kk rr tt gg aa dd bd ga im) → am_M S zX5_readBlock d u [aR 52] (hfW w hb sp rb rs hb (aR sp) ro ee hh ss uu vv pp kk rr tt gg aa dd bd ga im) Q := by
    intro Q hQ
    refine am_body rfl (by decide +kernel) rfl (am_cats_cons rfl (am_cats_nil)) (Nat.le_of_ble_eq_true rfl) (?_ : am_T _ _ _ _ _ 0 [some (aR 52)] [] (hfW w hb sp rb rs hb (aR sp) ro ee hh ss uu vv pp kk rr tt gg aa dd bd ga im))
    have hP9 := hP
    obtain ⟨⟨vr1, vr2⟩, vr3, vr4, vr5⟩ := hP9
    obtain ⟨vs1, vs2, vs3, vs4, vs5, vs6, vs7, vs8, vs9, vs10, vs11, vs12, vs13, vs14, vs15, vs16, vs17, vs18, vs19, vs20, vs21, vs22⟩ := (HbI_A hS.1).1
    refine T_aload_n (am_dec tX5_readBlock_0 0 rfl) rfl ?_
    refine T_aload_n (am_dec tX5_readBlock_0 1 rfl) rfl ?_
    refine T_iconst 0 (am_dec tX5_readBlock_0 2 rfl) rfl ⟨by decide, by decide⟩ ?_
    refine T_aload_n (am_dec tX5_readBlock_0 3 rfl) rfl ?_
    refine T_getfield 5 6 (am_dec tX5_readBlock_0 4 rfl) flX5_9_5 (show (hfW w hb sp rb rs hb (aR sp) ro ee hh ss uu vv pp kk rr tt gg aa dd bd ga im)[52]? = some (cO 5 [aR 51, aI (pp 0 1), aI (pp 0 2), aI (pp 0 3), aI (pp 0 4), aI (pp 0 5), aR sp, aI (pp 0 7), aI (pp 0 8), aI (pp 0 9), aI (pp 0 10)]) from (hfW_c hl 52 (by decide))) rfl ?_
    refine T_getfield 3 0 (am_dec tX5_readBlock_0 5 rfl) flX5_113_3 (show (hfW w hb sp rb rs hb (aR sp) ro ee hh ss uu vv pp kk rr tt gg aa dd bd ga im)[sp]? = some (cO 3 [aI (ss 0 0), aI (ss 0 1), aI (ss 0 2), aR (sp + 1), aR (sp + 3), aR (sp + 5), aR (sp + 7), aR (sp + 9), aR (sp + 11), aR (sp + 13), aR (sp + 15), aR (sp + 17), aR (sp + 18), aR (sp + 19)]) from ((hf_S hl hp) 0 (by decide))) rfl ?_
    refine T_iconst 1 (am_dec tX5_readBlock_0 6 rfl) rfl ⟨by decide, by decide⟩ ?_
    refine T_isub ((ss 0 0) - 1) (am_dec tX5_readBlock_0 7 rfl) rfl ⟨by omega, by omega⟩ ?_
    refine T_callU (as := [aI 0, aI ((ss 0 0) - 1)]) rfl (am_dec tX5_readBlock_0 8 rfl) lkX5_109_X5 (show (hfW w hb sp rb rs hb (aR sp) ro ee hh ss uu vv pp kk rr tt gg aa dd bd ga im)[52]? = some (cO 5 [aR 51, aI (pp 0 1), aI (pp 0 2), aI (pp 0 3), aI (pp 0 4), aI (pp 0 5), aR sp, aI (pp 0 7), aI (pp 0 8), aI (pp 0 9), aI (pp 0 10)]) from (hfW_c hl 52 (by decide))) rfl rfl (Nat.le_of_ble_eq_true rfl) (by omega) (mc_number (d := d - 1) hl hp hr 0 ((ss 0 0) - 1)  hP hTp (by omega)) (fun _ => ?_)
    obtain ⟨u12, hu12⟩ : ∃ x9, x9 = c_number ee pp 0 ((ss 0 0) - 1) := ⟨_, rfl⟩
    rw [← hu12]
    have hxu12 : Rd2 pp u12.2 := by rw [hu12]; exact (Rd2.rf hP).number hTp _ _
    have hIu12 := hxu12.1
    have hgu12 := hIu12
    obtain ⟨⟨yr121, yr122⟩, yr123, yr124, yr125⟩ := hgu12
    have heu12_7 : u12.2 0 7 = pp 0 7 := hxu12.2 0 7 (by decide)
    have heu12_8 : u12.2 0 8 = pp 0 8 := hxu12.2 0 8 (by decide)
    have heu12_9 : u12.2 0 9 = pp 0 9 := hxu12.2 0 9 (by decide)
    have heu12_10 : u12.2 0 10 = pp 0 10 := hxu12.2 0 10 (by decide)
    have hbu12 : 0 ≤ u12.1 ∧ u12.1 ≤ ((ss 0 0) - 1) := by rw [hu12]; exact c_number_b _ _ (by omega)
    refine T_putfield (fs' := [aR 51, aI ((u12).2 0 1), aI ((u12).2 0 2), aI ((u12).2 0 3), aI ((u12).2 0 4), aI ((u12).2 0 5), aR sp, aI ((u12).1), aI ((u12).2 0 8), aI ((u12).2 0 9), aI ((u12).2 0 10)]) 5 7 (am_dec tX5_readBlock_0 9 rfl) flX5_128_5 rfl rfl rfl trivial (show (hfW w hb sp rb rs hb (aR sp) ro ee hh ss uu vv ((u12).2) kk rr tt gg aa dd bd ga im)[52]? = some (cO 5 [aR 51, aI ((u12).2 0 1), aI ((u12).2 0 2), aI ((u12).2 0 3), aI ((u12).2 0 4), aI ((u12).2 0 5), aR sp, aI ((u12).2 0 7), aI ((u12).2 0 8), aI ((u12).2 0 9), aI ((u12).2 0 10)]) from (hfW_c hl 52 (by decide))) (Nat.le_of_ble_eq_true rfl) rfl ?_
    refine am_wE (w2 := hfW w hb sp rb rs hb (aR sp) ro ee hh ss uu vv (am_put (u12).2 0 7 ((u12).1)) kk rr tt gg aa dd bd ga im) (hf_pp7 hl) ?_
    refine T_aload_n (am_dec tX5_readBlock_0 10 rfl) rfl ?_
    refine T_aload_n (am_dec tX5_readBlock_0 11 rfl) rfl ?_
    refine T_iconst 0 (am_dec tX5_readBlock_0 12 rfl) rfl ⟨by decide, by decide⟩ ?_
    refine T_aload_n (am_dec tX5_readBlock_0 13 rfl) rfl ?_
    refine T_getfield 5 6 (am_dec tX5_readBlock_0 14 rfl) flX5_9_5 (show (hfW w hb sp rb rs hb (aR sp) ro ee hh ss uu vv (am_put (u12).2 0 7 ((u12).1)) kk rr tt gg aa dd bd ga im)[52]? = some (cO 5 [aR 51, aI ((u12).2 0 1), aI ((u12).2 0 2), aI ((u12).2 0 3), aI ((u12).2 0 4), aI ((u12).2 0 5), aR sp, aI ((u12).1), aI ((u12).2 0 8), aI ((u12).2 0 9), aI ((u12).2 0 10)]) from (hfW_c hl 52 (by decide))) rfl ?_
    refine T_getfield 3 1 (am_dec tX5_readBlock_0 15 rfl) flX5_116_3 (show (hfW w hb sp rb rs hb (aR sp) ro ee hh ss uu vv (am_put (u12).2 0 7 ((u12).1)) kk rr tt gg aa dd bd ga im)[sp]? = some (cO 3 [aI (ss 0 0), aI (ss 0 1), aI (ss 0 2), aR (sp + 1), aR (sp + 3), aR (sp + 5), aR (sp + 7), aR (sp + 9), aR (sp + 11), aR (sp + 13), aR (sp + 15), aR (sp + 17), aR (sp + 18), aR (sp + 19)]) from ((hf_S hl hp) 0 (by decide))) rfl ?_
    refine T_iconst 1 (am_dec tX5_readBlock_0 16 rfl) rfl ⟨by decide, by decide⟩ ?_
    refine T_isub ((ss 0 1) - 1) (am_dec tX5_readBlock_0 17 rfl) rfl ⟨by omega, by omega⟩ ?_
    refine T_callU (as := [aI 0, aI ((ss 0 1) - 1)]) rfl (am_dec tX5_readBlock_0 18 rfl) lkX5_109_X5 (show (hfW w hb sp rb rs hb (aR sp) ro ee hh ss uu vv (am_put (u12).2 0 7 ((u12).1)) kk rr tt gg aa dd bd ga im)[52]? = some (cO 5 [aR 51, aI ((u12).2 0 1), aI ((u12).2 0 2), aI ((u12).2 0 3), aI ((u12).2 0 4), aI ((u12).2 0 5), aR sp, aI ((u12).1), aI ((u12).2 0 8), aI ((u12).2 0 9), aI ((u12).2 0 10)]) from (hfW_c hl 52 (by decide))) rfl rfl (Nat.le_of_ble_eq_true rfl) (by omega) (mc_number (d := d - 1) hl hp hr 0 ((ss 0 1) - 1)  (RdI_k hIu12 (by decide) (by decide) (by decide)) hTp (by omega)) (fun _ => ?_)
    obtain ⟨u30, hu30⟩ : ∃ x9, x9 = c_number ee (am_put (u12).2 0 7 ((u12).1)) 0 ((ss 0 1) - 1) := ⟨_, rfl⟩
    rw [← hu30]
    have hxu30 : Rd2 (am_put (u12).2 0 7 ((u12).1)) u30.2 := by rw [hu30]; exact (Rd2.rf (RdI_k hIu12 (by decide) (by decide) (by decide))).number hTp _ _
    have hIu30 := hxu30.1
    have hgu30 := hIu30
    obtain ⟨⟨yr301, yr302⟩, yr303, yr304, yr305⟩ := hgu30
    have heu30_7 : u30.2 0 7 = (u12).1 := hxu30.2 0 7 (by decide)
    have heu30_8 : u30.2 0 8 = (u12).2 0 8 := hxu30.2 0 8 (by decide)
    have heu30_9 : u30.2 0 9 = (u12).2 0 9 := hxu30.2 0 9 (by decide)
    have heu30_10 : u30.2 0 10 = (u12).2 0 10 := hxu30.2 0 10 (by decide)
    have hbu30 : 0 ≤ u30.1 ∧ u30.1 ≤ ((ss 0 1) - 1) := by rw [hu30]; exact c_number_b _ _ (by omega)
    refine T_putfield (fs' := [aR 51, aI ((u30).2 0 1), aI ((u30).2 0 2), aI ((u30).2 0 3), aI ((u30).2 0 4), aI ((u30).2 0 5), aR sp, aI ((u30).2 0 7), aI ((u30).1), aI ((u30).2 0 9), aI ((u30).2 0 10)]) 5 8 (am_dec tX5_readBlock_0 19 rfl) flX5_131_5 rfl rfl rfl trivial (show (hfW w hb sp rb rs hb (aR sp) ro ee hh ss uu vv ((u30).2) kk rr tt gg aa dd bd ga im)[52]? = some (cO 5 [aR 51, aI ((u30).2 0 1), aI ((u30).2 0 2), aI ((u30).2 0 3), aI ((u30).2 0 4), aI ((u30).2 0 5), aR sp, aI ((u30).2 0 7), aI ((u30).2 0 8), aI ((u30).2 0 9), aI ((u30).2 0 10)]) from (hfW_c hl 52 (by decide))) (Nat.le_of_ble_eq_true rfl) rfl ?_
    refine am_wE (w2 := hfW w hb sp rb rs hb (aR sp) ro ee hh ss uu vv (am_put (u30).2 0 8 ((u30).1)) kk rr tt gg aa dd bd ga im) (hf_pp8 hl) ?_
    refine T_aload_n (am_dec tX5_readBlock_0 20 rfl) rfl ?_
    refine T_aload_n (am_dec tX5_readBlock_0 21 rfl) rfl ?_
    refine T_aload_n (am_dec tX5_readBlock_0 22 rfl) rfl ?_
    refine T_getfield 5 7 (am_dec tX5_readBlock_0 23 rfl) flX5_128_5 (show (hfW w hb sp rb rs hb (aR sp) ro ee hh ss uu vv (am_put (u30).2 0 8 ((u30).1)) kk rr tt gg aa dd bd ga im)[52]? = some (cO 5 [aR 51, aI ((u30).2 0 1), aI ((u30).2 0 2), aI ((u30).2 0 3), aI ((u30).2 0 4), aI ((u30).2 0 5), aR sp, aI ((u30).2 0 7), aI ((u30).1), aI ((u30).2 0 9), aI ((u30).2 0 10)]) from (hfW_c hl 52 (by decide))) rfl ?_
    refine T_aload_n (am_dec tX5_readBlock_0 24 rfl) rfl ?_
    refine T_getfield 5 6 (am_dec tX5_readBlock_0 25 rfl) flX5_9_5 (show (hfW w hb sp rb rs hb (aR sp) ro ee hh ss uu vv (am_put (u30).2 0 8 ((u30).1)) kk rr tt gg aa dd bd ga im)[52]? = some (cO 5 [aR 51, aI ((u30).2 0 1), aI ((u30).2 0 2), aI ((u30).2 0 3), aI ((u30).2 0 4), aI ((u30).2 0 5), aR sp, aI ((u30).2 0 7), aI ((u30).1), aI ((u30).2 0 9), aI ((u30).2 0 10)]) from (hfW_c hl 52 (by decide))) rfl ?_
    refine T_getfield 3 0 (am_dec tX5_readBlock_0 26 rfl) flX5_113_3 (show (hfW w hb sp rb rs hb (aR sp) ro ee hh ss uu vv (am_put (u30).2 0 8 ((u30).1)) kk rr tt gg aa dd bd ga im)[sp]? = some (cO 3 [aI (ss 0 0), aI (ss 0 1), aI (ss 0 2), aR (sp + 1), aR (sp + 3), aR (sp + 5), aR (sp + 7), aR (sp + 9), aR (sp + 11), aR (sp + 13), aR (sp + 15), aR (sp + 17), aR (sp + 18), aR (sp + 19)]) from ((hf_S hl hp) 0 (by decide))) rfl ?_
    refine T_iconst 1 (am_dec tX5_readBlock_0 27 rfl) rfl ⟨by decide, by decide⟩ ?_
    refine T_isub ((ss 0 0) - 1) (am_dec tX5_readBlock_0 28 rfl) rfl ⟨by omega, by omega⟩ ?_
    refine T_callU (as := [aI ((u30).2 0 7), aI ((ss 0 0) - 1)]) rfl (am_dec tX5_readBlock_0 29 rfl) lkX5_109_X5 (show (hfW w hb sp rb rs hb (aR sp) ro ee hh ss uu vv (am_put (u30).2 0 8 ((u30).1)) kk rr tt gg aa dd bd ga im)[52]? = some (cO 5 [aR 51, aI ((u30).2 0 1), aI ((u30).2 0 2), aI ((u30).2 0 3), aI ((u30).2 0 4), aI ((u30).2 0 5), aR sp, aI ((u30).2 0 7), aI ((u30).1), aI ((u30).2 0 9), aI ((u30).2 0 10)]) from (hfW_c hl 52 (by decide))) rfl rfl (Nat.le_of_ble_eq_true rfl) (by omega) (mc_number (d := d - 1) hl hp hr ((u30).2 0 7) ((ss 0 0) - 1)  (RdI_k hIu30 (by decide) (by decide) (by decide)) hTp (by omega)) (fun _ => ?_)
    obtain ⟨u51, hu51⟩ : ∃ x9, x9 = c_number ee (am_put (u30).2 0 8 ((u30).1)) ((u30).2 0 7) ((ss 0 0) - 1) := ⟨_, rfl⟩
    rw [← hu51]
    have hxu51 : Rd2 (am_put (u30).2 0 8 ((u30).1)) u51.2 := by rw [hu51]; exact (Rd2.rf (RdI_k hIu30 (by decide) (by decide) (by decide))).number hTp _ _
    have hIu51 := hxu51.1
    have hgu51 := hIu51
    obtain ⟨⟨yr511, yr512⟩, yr513, yr514, yr515⟩ := hgu51
    have heu51_7 : u51.2 0 7 = (u30).2 0 7 := hxu51.2 0 7 (by decide)
    have heu51_8 : u51.2 0 8 = (u30).1 := hxu51.2 0 8 (by decide)
    have heu51_9 : u51.2 0 9 = (u30).2 0 9 := hxu51.2 0 9 (by decide)
    have heu51_10 : u51.2 0 10 = (u30).2 0 10 := hxu51.2 0 10 (by decide)
    have hbu51 : ((u30).2 0 7) ≤ u51.1 ∧ u51.1 ≤ ((ss 0 0) - 1) := by rw [hu51]; exact c_number_b _ _ (by omega)
    refine T_putfield (fs' := [aR 51, aI ((u51).2 0 1), aI ((u51).2 0 2), aI ((u51).2 0 3), aI ((u51).2 0 4), aI ((u51).2 0 5), aR sp, aI ((u51).2 0 7), aI ((u51).2 0 8), aI ((u51).1), aI ((u51).2 0 10)]) 5 9 (am_dec tX5_readBlock_0 30 rfl) flX5_134_5 rfl rfl rfl trivial (show (hfW w hb sp rb rs hb (aR sp) ro ee hh ss uu vv ((u51).2) kk rr tt gg aa dd bd ga im)[52]? = some (cO 5 [aR 51, aI ((u51).2 0 1), aI ((u51).2 0 2), aI ((u51).2 0 3), aI ((u51).2 0 4), aI ((u51).2 0 5), aR sp, aI ((u51).2 0 7), aI ((u51).2 0 8), aI ((u51).2 0 9), aI ((u51).2 0 10)]) from (hfW_c hl 52 (by decide))) (Nat.le_of_ble_eq_true rfl) rfl ?_
    refine am_wE (w2 := hfW w hb sp rb rs hb (aR sp) ro ee hh ss uu vv (am_put (u51).2 0 9 ((u51).1)) kk rr tt gg aa dd bd ga im) (hf_pp9 hl) ?_
    refine T_aload_n (am_dec tX5_readBlock_0 31 rfl) rfl ?_
    refine T_aload_n (am_dec tX5_readBlock_0 32 rfl) rfl ?_
    refine T_aload_n (am_dec tX5_readBlock_0 33 rfl) rfl ?_
    refine T_getfield 5 8 (am_dec tX5_readBlock_0 34 rfl) flX5_131_5 (show (hfW w hb sp rb rs hb (aR sp) ro ee hh ss uu vv (am_put (u51).2 0 9 ((u51).1)) kk rr tt gg aa dd bd ga im)[52]? = some (cO 5 [aR 51, aI ((u51).2 0 1), aI ((u51).2 0 2), aI ((u51).2 0 3), aI ((u51).2 0 4), aI ((u51).2 0 5), aR sp, aI ((u51).2 0 7), aI ((u51).2 0 8), aI ((u51).1), aI ((u51).2 0 10)]) from (hfW_c hl 52 (by decide))) rfl ?_
    refine T_aload_n (am_dec tX5_readBlock_0 35 rfl) rfl ?_
    refine T_getfield 5 6 (am_dec tX5_readBlock_0 36 rfl) flX5_9_5 (show (hfW w hb sp rb rs hb (aR sp) ro ee hh ss uu vv (am_put (u51).2 0 9 ((u51).1)) kk rr tt gg aa dd bd ga im)[52]? = some (cO 5 [aR 51, aI ((u51).2 0 1), aI ((u51).2 0 2), aI ((u51).2 0 3), aI ((u51).2 0 4), aI ((u51).2 0 5), aR sp, aI ((u51).2 0 7), aI ((u51).2 0 8), aI ((u51).1), aI ((u51).2 0 10)]) from (hfW_c hl 52 (by decide))) rfl ?_
    refine T_getfield 3 1 (am_dec tX5_readBlock_0 37 rfl) flX5_116_3 (show (hfW w hb sp rb rs hb (aR sp) ro ee hh ss uu vv (am_put (u51).2 0 9 ((u51).1)) kk rr tt gg aa dd bd ga im)[sp]? = some (cO 3 [aI (ss 0 0), aI (ss 0 1), aI (ss 0 2), aR (sp + 1), aR (sp + 3), aR (sp + 5), aR (sp + 7), aR (sp + 9), aR (sp + 11), aR (sp + 13), aR (sp + 15), aR (sp + 17), aR (sp + 18), aR (sp + 19)]) from ((hf_S hl hp) 0 (by decide))) rfl ?_
    refine T_iconst 1 (am_dec tX5_readBlock_0 38 rfl) rfl ⟨by decide, by decide⟩ ?_
    refine T_isub ((ss 0 1) - 1) (am_dec tX5_readBlock_0 39 rfl) rfl ⟨by omega, by omega⟩ ?_
    refine T_callU (as := [aI ((u51).2 0 8), aI ((ss 0 1) - 1)]) rfl (am_dec tX5_readBlock_1 0 rfl) lkX5_109_X5 (show (hfW w hb sp rb rs hb (aR sp) ro ee hh ss uu vv (am_put (u51).2 0 9 ((u51).1)) kk rr tt gg aa dd bd ga im)[52]? = some (cO 5 [aR 51, aI ((u51).2 0 1), aI ((u51).2 0 2), aI ((u51).2 0 3), aI ((u51).2 0 4), aI ((u51).2 0 5), aR sp, aI ((u51).2 0 7), aI ((u51).2 0 8), aI ((u51).1), aI ((u51).2 0 10)]) from (hfW_c hl 52 (by decide))) rfl rfl (Nat.le_of_ble_eq_true rfl) (by omega) (mc_number (d := d - 1) hl hp hr ((u51).2 0 8) ((ss 0 1) - 1)  (RdI_k hIu51 (by decide) (by decide) (by decide)) hTp (by omega)) (fun _ => ?_)
    obtain ⟨u72, hu72⟩ : ∃ x9, x9 = c_number ee (am_put (u51).2 0 9 ((u51).1)) ((u51).2 0 8) ((ss 0 1) - 1) := ⟨_, rfl⟩
    rw [← hu72]
    have hxu72 : Rd2 (am_put (u51).2 0 9 ((u51).1)) u72.2 := by rw [hu72]; exact (Rd2.rf (RdI_k hIu51 (by decide) (by decide) (by decide))).number hTp _ _
    have hIu72 := hxu72.1
    have hgu72 := hIu72
    obtain ⟨⟨yr721, yr722⟩, yr723, yr724, yr725⟩ := hgu72
    have heu72_7 : u72.2 0 7 = (u51).2 0 7 := hxu72.2 0 7 (by decide)
    have heu72_8 : u72.2 0 8 = (u51).2 0 8 := hxu72.2 0 8 (by decide)
    have heu72_9 : u72.2 0 9 = (u51).1 := hxu72.2 0 9 (by decide)
    have heu72_10 : u72.2 0 10 = (u51).2 0 10 := hxu72.2 0 10 (by decide)
    have hbu72 : ((u51).2 0 8) ≤ u72.1 ∧ u72.1 ≤ ((ss 0 1) - 1) := by rw [hu72]; exact c_number_b _ _ (by omega)
    refine T_putfield (fs' := [aR 51, aI ((u72).2 0 1), aI ((u72).2 0 2), aI ((u72).2 0 3), aI ((u72).2 0 4), aI ((u72).2 0 5), aR sp, aI ((u72).2 0 7), aI ((u72).2 0 8), aI ((u72).2 0 9), aI ((u72).1)]) 5 10 (am_dec tX5_readBlock_1 1 rfl) flX5_137_5 rfl rfl rfl trivial (show (hfW w hb sp rb rs hb (aR sp) ro ee hh ss uu vv ((u72).2) kk rr tt gg aa dd bd ga im)[52]? = some (cO 5 [aR 51, aI ((u72).2 0 1), aI ((u72).2 0 2), aI ((u72).2 0 3), aI ((u72).2 0 4), aI ((u72).2 0 5), aR sp, aI ((u72).2 0 7), aI ((u72).2 0 8), aI ((u72).2 0 9), aI ((u72).2 0 10)]) from (hfW_c hl 52 (by decide))) (Nat.le_of_ble_eq_true rfl) rfl ?_
    refine am_wE (w2 := hfW w hb sp rb rs hb (aR sp) ro ee hh ss uu vv (am_put (u72).2 0 10 ((u72).1)) kk rr tt gg aa dd bd ga im) (hf_pp10 hl) ?_
    exact T_return (am_dec tX5_readBlock_1 2 rfl) rfl (am_tr (fun (x9 : am_F) => Q (.inl none) (hfW w hb sp rb rs hb (aR sp) ro ee hh ss uu vv x9 kk rr tt gg aa dd bd ga im)) (y := (am_put (u72).2 0 10 ((u72).1))) (show (c_readBlock ee ss pp) = (am_put (u72).2 0 10 ((u72).1)) from (by have s9 := hu12.symm; subst s9; have s9 := hu30.symm; subst s9; have s9 := hu51.symm; subst s9; have s9 := hu72.symm; subst s9; exact rfl)) hQ)
  exact key _ ⟨rfl, rfl⟩
