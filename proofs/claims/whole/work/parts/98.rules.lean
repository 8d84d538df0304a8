/-! bids, by price and by rule -/
def RuI (u : am_F) : Prop := RuE u ∧ 0 ≤ u 0 0
theorem RuI_4 {u v : am_F} (h : ∀ k, k ≠ 4 → v k = u k) (q : RuI u) : RuI v := ⟨fun j => by rw [h 3 (by decide)]; exact q.1 j, by rw [h 0 (by decide)]; exact q.2⟩
def c_isLetIn (uu : am_F) (aa : am_F) : Int × am_F := (let u5 : Int × am_F := c_lets uu 9 (aa 1); (((u5).1), (u5).2))
theorem mc_isLetIn {S : am_S} {d u : Nat} {w : AH} {hb sp rb rs : Nat} {po ro : AV} (hl : 109 ≤ w.length) (hp : hb = 1 ∧ sp = 21 ∨ hb = 21 ∧ sp = 1) (hr : rb = 41 ∧ rs = 46 ∨ rb = 46 ∧ rs = 41) {ee : am_F} {hh : am_F} {ss : am_F} {uu : am_F} {vv : am_F} {pp : am_F} {kk : am_F} {rr : am_F} {tt : am_F} {gg : am_F} {aa : am_F} {dd : am_F} {bd : am_F} {ga : am_F} {im : am_F}  (hU : RuI uu)  (hd : 3 ≤ d) : am_Out S zX0_isLetIn d u [aR 77, aR rb] (hfW w hb sp rb rs hb po ro ee hh ss uu vv pp kk rr tt gg aa dd bd ga im) (.inl (some (aI ((c_isLetIn uu aa).1)))) (hfW w hb sp rb rs hb po ro ee hh ss ((c_isLetIn uu aa).2) vv pp kk rr tt gg aa dd bd ga im) := by
  have key : ∀ Q : AO → AH → Prop, Q (.inl (some (aI ((c_isLetIn uu aa).1)))) (hfW w hb sp rb rs hb po ro ee hh ss ((c_isLetIn uu aa).2) vv pp kk rr tt gg aa dd bd ga im) → am_M S zX0_isLetIn d u [aR 77, aR rb] (hfW w hb sp rb rs hb po ro ee hh ss uu vv pp kk rr tt gg aa dd bd ga im) Q := by
    intro Q hQ
    refine am_body rfl (by decide +kernel) rfl (am_cats_cons rfl ( am_cats_cons rfl (am_cats_nil))) (Nat.le_of_ble_eq_true rfl) (?_ : am_T _ _ _ _ _ 0 [some (aR 77), some (aR rb)] [] (hfW w hb sp rb rs hb po ro ee hh ss uu vv pp kk rr tt gg aa dd bd ga im))
    refine T_aload_n (am_dec tX0_isLetIn_0 0 rfl) rfl ?_
    refine T_aload_n (am_dec tX0_isLetIn_0 1 rfl) rfl ?_
    refine T_getfield 0 0 (am_dec tX0_isLetIn_0 2 rfl) flX0_9_0 (show (hfW w hb sp rb rs hb po ro ee hh ss uu vv pp kk rr tt gg aa dd bd ga im)[77]? = some (cO 0 [aR 78, aR 79, aR 80, aR 81, aR 82, aI (aa 0 5)]) from (hfW_c hl 77 (by decide))) rfl ?_
    refine T_callV (as := [aR 78]) rfl (am_dec tX0_isLetIn_0 3 rfl) lkX0_67 (show (hfW w hb sp rb rs hb po ro ee hh ss uu vv pp kk rr tt gg aa dd bd ga im)[rb]? = some (cO 6 [aI (uu 0 0), aI (uu 0 1), aR (rb + 1), aR (rb + 2), aR (rb + 3), aR (rb + 4)]) from ((hf_U hl hr) 0 (by decide))) rfl rfl (Nat.le_of_ble_eq_true rfl) (by omega) (am_OutE (mc_lets (d := d - 1) (w := hfW w hb sp rb rs hb po ro ee hh ss uu vv pp kk rr tt gg aa dd bd ga im) (hf_le hl (by omega)) (by omega)  9 (aa 1) (show (hfW w hb sp rb rs hb po ro ee hh ss uu vv pp kk rr tt gg aa dd bd ga im)[78]? = some (cP 0 9 (aa 1)) from (hfW_c hl 78 (by decide))) (by omega) hU.1 hU.2 (by omega)) (hf_uU hr) (hf_uU hr)) (fun _ => ?_)
    obtain ⟨u5, hu5⟩ : ∃ x9, x9 = c_lets uu 9 (aa 1) := ⟨_, rfl⟩
    rw [← hu5]
    have hIu5 : RuI u5.2 := by rw [hu5]; exact RuI_4 (fun k hk => (c_lets_x uu 9 (aa 1)).2 k hk) hU
    have hb5 : u5.1 = 0 ∨ u5.1 = 1 := by rw [hu5]; exact (c_lets_x uu 9 (aa 1)).1
    exact T_zreturn (am_dec tX0_isLetIn_0 4 rfl) rfl (by first | exact Or.inl rfl | exact Or.inr rfl | omega) (am_tr (fun (x9 : Int × am_F) => Q (.inl (some (aI (x9.1)))) (hfW w hb sp rb rs hb po ro ee hh ss x9.2 vv pp kk rr tt gg aa dd bd ga im)) (y := (((u5).1), (u5).2)) (show (c_isLetIn uu aa) = (((u5).1), (u5).2) from (by have s9 := hu5.symm; subst s9; exact rfl)) hQ)
  exact key _ ⟨rfl, rfl⟩
def c_standing (uu : am_F) (aa : am_F) : Int × am_F := (let u12 : Int × am_F := c_tells uu 1 (aa 1 2) 9 (aa 1); (((u12).1), (u12).2))
theorem mc_standing {S : am_S} {d u : Nat} {w : AH} {hb sp rb rs : Nat} {po ro : AV} (hl : 109 ≤ w.length) (hp : hb = 1 ∧ sp = 21 ∨ hb = 21 ∧ sp = 1) (hr : rb = 41 ∧ rs = 46 ∨ rb = 46 ∧ rs = 41) {ee : am_F} {hh : am_F} {ss : am_F} {uu : am_F} {vv : am_F} {pp : am_F} {kk : am_F} {rr : am_F} {tt : am_F} {gg : am_F} {aa : am_F} {dd : am_F} {bd : am_F} {ga : am_F} {im : am_F}  (hU : RuI uu)  (hd : 3 ≤ d) : am_Out S zX0_standing d u [aR 77, aR rb] (hfW w hb sp rb rs hb po ro ee hh ss uu vv pp kk rr tt gg aa dd bd ga im) (.inl (some (aI ((c_standing uu aa).1)))) (hfW w hb sp rb rs hb po ro ee hh ss ((c_standing uu aa).2) vv pp kk rr tt gg aa dd bd ga im) := by
  have key : ∀ Q : AO → AH → Prop, Q (.inl (some (aI ((c_standing uu aa).1)))) (hfW w hb sp rb rs hb po ro ee hh ss ((c_standing uu aa).2) vv pp kk rr tt gg aa dd bd ga im) → am_M S zX0_standing d u [aR 77, aR rb] (hfW w hb sp rb rs hb po ro ee hh ss uu vv pp kk rr tt gg aa dd bd ga im) Q := by
    intro Q hQ
    refine am_body rfl (by decide +kernel) rfl (am_cats_cons rfl ( am_cats_cons rfl (am_cats_nil))) (Nat.le_of_ble_eq_true rfl) (?_ : am_T _ _ _ _ _ 0 [some (aR 77), some (aR rb)] [] (hfW w hb sp rb rs hb po ro ee hh ss uu vv pp kk rr tt gg aa dd bd ga im))
    refine T_aload_n (am_dec tX0_standing_0 0 rfl) rfl ?_
    refine T_iconst 1 (am_dec tX0_standing_0 1 rfl) rfl ⟨by decide, by decide⟩ ?_
    refine T_aload_n (am_dec tX0_standing_0 2 rfl) rfl ?_
    refine T_getfield 0 0 (am_dec tX0_standing_0 3 rfl) flX0_9_0 (show (hfW w hb sp rb rs hb po ro ee hh ss uu vv pp kk rr tt gg aa dd bd ga im)[77]? = some (cO 0 [aR 78, aR 79, aR 80, aR 81, aR 82, aI (aa 0 5)]) from (hfW_c hl 77 (by decide))) rfl ?_
    refine T_aload_n (am_dec tX0_standing_0 4 rfl) rfl ?_
    refine T_getfield 0 0 (am_dec tX0_standing_0 5 rfl) flX0_9_0 (show (hfW w hb sp rb rs hb po ro ee hh ss uu vv pp kk rr tt gg aa dd bd ga im)[77]? = some (cO 0 [aR 78, aR 79, aR 80, aR 81, aR 82, aI (aa 0 5)]) from (hfW_c hl 77 (by decide))) rfl ?_
    refine T_iconst 2 (am_dec tX0_standing_0 6 rfl) rfl ⟨by decide, by decide⟩ ?_
    refine T_ialoadE (x := aa 1 2) (am_dec tX0_standing_0 7 rfl) (show (hfW w hb sp rb rs hb po ro ee hh ss uu vv pp kk rr tt gg aa dd bd ga im)[78]? = some (cP 0 9 (aa 1)) from (hfW_c hl 78 (by decide))) (by omega) (by omega) rfl ?_
    refine T_callV (as := [aI 1, aR 78, aI (aa 1 2)]) rfl (am_dec tX0_standing_0 8 rfl) lkX0_73 (show (hfW w hb sp rb rs hb po ro ee hh ss uu vv pp kk rr tt gg aa dd bd ga im)[rb]? = some (cO 6 [aI (uu 0 0), aI (uu 0 1), aR (rb + 1), aR (rb + 2), aR (rb + 3), aR (rb + 4)]) from ((hf_U hl hr) 0 (by decide))) rfl rfl (Nat.le_of_ble_eq_true rfl) (by omega) (am_OutE (mc_tells (d := d - 1) (w := hfW w hb sp rb rs hb po ro ee hh ss uu vv pp kk rr tt gg aa dd bd ga im) (hf_le hl (by omega)) (by omega) 1 (aa 1 2) 9 (aa 1) (show (hfW w hb sp rb rs hb po ro ee hh ss uu vv pp kk rr tt gg aa dd bd ga im)[78]? = some (cP 0 9 (aa 1)) from (hfW_c hl 78 (by decide))) (by omega) hU.1 hU.2 (by omega)) (hf_uU hr) (hf_uU hr)) (fun _ => ?_)
    obtain ⟨u12, hu12⟩ : ∃ x9, x9 = c_tells uu 1 (aa 1 2) 9 (aa 1) := ⟨_, rfl⟩
    rw [← hu12]
    have hIu12 : RuI u12.2 := by rw [hu12]; exact RuI_4 (fun k hk => c_tells_x uu 1 (aa 1 2) 9 (aa 1) k hk) hU
    exact T_ireturn (am_dec tX0_standing_0 9 rfl) rfl (am_tr (fun (x9 : Int × am_F) => Q (.inl (some (aI (x9.1)))) (hfW w hb sp rb rs hb po ro ee hh ss x9.2 vv pp kk rr tt gg aa dd bd ga im)) (y := (((u12).1), (u12).2)) (show (c_standing uu aa) = (((u12).1), (u12).2) from (by have s9 := hu12.symm; subst s9; exact rfl)) hQ)
  exact key _ ⟨rfl, rfl⟩
theorem c_isLetIn_x (uu aa : am_F) : ((c_isLetIn uu aa).1 = 0 ∨ (c_isLetIn uu aa).1 = 1) ∧ ∀ k, k ≠ 4 → (c_isLetIn uu aa).2 k = uu k := c_lets_x uu 9 (aa 1)
theorem c_standing_x (uu aa : am_F) : ∀ k, k ≠ 4 → (c_standing uu aa).2 k = uu k := c_tells_x uu 1 _ 9 (aa 1)
def c_serve (uu : am_F) (aa : am_F) (i : Int) : am_F × am_F := (let u13 : Int × am_F := c_tells uu 3 (aa 1 1) 9 (aa 1); (let m16 : Int := (if 0 < (u13).1 then (u13).1 else 0); (let u33 : Int × am_F := c_tells ((u13).2) 2 (aa 1 2) 9 (aa 1); (let m36 : Int := (if 0 < (u33).1 then (u33).1 else 0); (let m59 : Int := (if aa 1 1 < m16 then aa 1 1 else m16); (let m62 : Int := (if m59 < aa 1 5 then m59 else aa 1 5); (let aa95 : am_F := (am_put (am_put (am_put aa 3 i.toNat m62) 4 i.toNat (am_w32 ((((am_put aa 3 i.toNat m62) 3) i.toNat) * m36))) 1 5 (am_w32 ((aa 1 5) - (((am_put (am_put aa 3 i.toNat m62) 4 i.toNat (am_w32 ((((am_put aa 3 i.toNat m62) 3) i.toNat) * m36))) 3) i.toNat)))); ((u33).2, aa95))))))))
theorem mc_serve {S : am_S} {d u : Nat} {w : AH} {hb sp rb rs : Nat} {po ro : AV} (hl : 109 ≤ w.length) (hp : hb = 1 ∧ sp = 21 ∨ hb = 21 ∧ sp = 1) (hr : rb = 41 ∧ rs = 46 ∨ rb = 46 ∧ rs = 41) {ee : am_F} {hh : am_F} {ss : am_F} {uu : am_F} {vv : am_F} {pp : am_F} {kk : am_F} {rr : am_F} {tt : am_F} {gg : am_F} {aa : am_F} {dd : am_F} {bd : am_F} {ga : am_F} {im : am_F} (i : Int) (hU : RuI uu) (hi9 : 0 ≤ i ∧ i < 12)  (hd : 3 ≤ d) : am_Out S zX0_serve d u [aR 77, aI i, aR rb] (hfW w hb sp rb rs hb po ro ee hh ss uu vv pp kk rr tt gg aa dd bd ga im) (.inl none) (hfW w hb sp rb rs hb po ro ee hh ss ((c_serve uu aa i).1) vv pp kk rr tt gg ((c_serve uu aa i).2) dd bd ga im) := by
  have key : ∀ Q : AO → AH → Prop, Q (.inl none) (hfW w hb sp rb rs hb po ro ee hh ss ((c_serve uu aa i).1) vv pp kk rr tt gg ((c_serve uu aa i).2) dd bd ga im) → am_M S zX0_serve d u [aR 77, aI i, aR rb] (hfW w hb sp rb rs hb po ro ee hh ss uu vv pp kk rr tt gg aa dd bd ga im) Q := by
    intro Q hQ
    refine am_body rfl (by decide +kernel) rfl (am_cats_cons rfl ( am_cats_cons rfl ( am_cats_cons rfl (am_cats_nil)))) (Nat.le_of_ble_eq_true rfl) (?_ : am_T _ _ _ _ _ 0 [some (aR 77), some (aI i), some (aR rb), none, none] [] (hfW w hb sp rb rs hb po ro ee hh ss uu vv pp kk rr tt gg aa dd bd ga im))
    refine T_iconst 0 (am_dec tX0_serve_0 0 rfl) rfl ⟨by decide, by decide⟩ ?_
    refine T_aload_n (am_dec tX0_serve_0 1 rfl) rfl ?_
    refine T_iconst 3 (am_dec tX0_serve_0 2 rfl) rfl ⟨by decide, by decide⟩ ?_
    refine T_aload_n (am_dec tX0_serve_0 3 rfl) rfl ?_
    refine T_getfield 0 0 (am_dec tX0_serve_0 4 rfl) flX0_9_0 (show (hfW w hb sp rb rs hb po ro ee hh ss uu vv pp kk rr tt gg aa dd bd ga im)[77]? = some (cO 0 [aR 78, aR 79, aR 80, aR 81, aR 82, aI (aa 0 5)]) from (hfW_c hl 77 (by decide))) rfl ?_
    refine T_aload_n (am_dec tX0_serve_0 5 rfl) rfl ?_
    refine T_getfield 0 0 (am_dec tX0_serve_0 6 rfl) flX0_9_0 (show (hfW w hb sp rb rs hb po ro ee hh ss uu vv pp kk rr tt gg aa dd bd ga im)[77]? = some (cO 0 [aR 78, aR 79, aR 80, aR 81, aR 82, aI (aa 0 5)]) from (hfW_c hl 77 (by decide))) rfl ?_
    refine T_iconst 1 (am_dec tX0_serve_0 7 rfl) rfl ⟨by decide, by decide⟩ ?_
    refine T_ialoadE (x := aa 1 1) (am_dec tX0_serve_0 8 rfl) (show (hfW w hb sp rb rs hb po ro ee hh ss uu vv pp kk rr tt gg aa dd bd ga im)[78]? = some (cP 0 9 (aa 1)) from (hfW_c hl 78 (by decide))) (by omega) (by omega) rfl ?_
    refine T_callV (as := [aI 3, aR 78, aI (aa 1 1)]) rfl (am_dec tX0_serve_0 9 rfl) lkX0_73 (show (hfW w hb sp rb rs hb po ro ee hh ss uu vv pp kk rr tt gg aa dd bd ga im)[rb]? = some (cO 6 [aI (uu 0 0), aI (uu 0 1), aR (rb + 1), aR (rb + 2), aR (rb + 3), aR (rb + 4)]) from ((hf_U hl hr) 0 (by decide))) rfl rfl (Nat.le_of_ble_eq_true rfl) (by omega) (am_OutE (mc_tells (d := d - 1) (w := hfW w hb sp rb rs hb po ro ee hh ss uu vv pp kk rr tt gg aa dd bd ga im) (hf_le hl (by omega)) (by omega) 3 (aa 1 1) 9 (aa 1) (show (hfW w hb sp rb rs hb po ro ee hh ss uu vv pp kk rr tt gg aa dd bd ga im)[78]? = some (cP 0 9 (aa 1)) from (hfW_c hl 78 (by decide))) (by omega) hU.1 hU.2 (by omega)) (hf_uU hr) (hf_uU hr)) (fun _ => ?_)
    obtain ⟨u13, hu13⟩ : ∃ x9, x9 = c_tells uu 3 (aa 1 1) 9 (aa 1) := ⟨_, rfl⟩
    rw [← hu13]
    have hIu13 : RuI u13.2 := by rw [hu13]; exact RuI_4 (fun k hk => c_tells_x uu 3 (aa 1 1) 9 (aa 1) k hk) hU
    refine T_mmax (am_dec tX0_serve_0 10 rfl) lkX0_93 (Nat.le_of_ble_eq_true rfl) (by omega) ?_
    obtain ⟨m16, hm16⟩ : ∃ x9 : Int, x9 = (if 0 < (u13).1 then (u13).1 else 0) := ⟨_, rfl⟩
    rw [← hm16]
    refine T_istore_n (ls' := [some (aR 77), some (aI i), some (aR rb), some (aI m16), none]) (am_dec tX0_serve_0 11 rfl) (by decide) rfl ?_
    refine T_iconst 0 (am_dec tX0_serve_0 12 rfl) rfl ⟨by decide, by decide⟩ ?_
    refine T_aload_n (am_dec tX0_serve_0 13 rfl) rfl ?_
    refine T_iconst 2 (am_dec tX0_serve_0 14 rfl) rfl ⟨by decide, by decide⟩ ?_
    refine T_aload_n (am_dec tX0_serve_0 15 rfl) rfl ?_
    refine T_getfield 0 0 (am_dec tX0_serve_0 16 rfl) flX0_9_0 (show (hfW w hb sp rb rs hb po ro ee hh ss ((u13).2) vv pp kk rr tt gg aa dd bd ga im)[77]? = some (cO 0 [aR 78, aR 79, aR 80, aR 81, aR 82, aI (aa 0 5)]) from (hfW_c hl 77 (by decide))) rfl ?_
    refine T_aload_n (am_dec tX0_serve_0 17 rfl) rfl ?_
    refine T_getfield 0 0 (am_dec tX0_serve_0 18 rfl) flX0_9_0 (show (hfW w hb sp rb rs hb po ro ee hh ss ((u13).2) vv pp kk rr tt gg aa dd bd ga im)[77]? = some (cO 0 [aR 78, aR 79, aR 80, aR 81, aR 82, aI (aa 0 5)]) from (hfW_c hl 77 (by decide))) rfl ?_
    refine T_iconst 2 (am_dec tX0_serve_0 19 rfl) rfl ⟨by decide, by decide⟩ ?_
    refine T_ialoadE (x := aa 1 2) (am_dec tX0_serve_0 20 rfl) (show (hfW w hb sp rb rs hb po ro ee hh ss ((u13).2) vv pp kk rr tt gg aa dd bd ga im)[78]? = some (cP 0 9 (aa 1)) from (hfW_c hl 78 (by decide))) (by omega) (by omega) rfl ?_
    refine T_callV (as := [aI 2, aR 78, aI (aa 1 2)]) rfl (am_dec tX0_serve_0 21 rfl) lkX0_73 (show (hfW w hb sp rb rs hb po ro ee hh ss ((u13).2) vv pp kk rr tt gg aa dd bd ga im)[rb]? = some (cO 6 [aI ((u13).2 0 0), aI ((u13).2 0 1), aR (rb + 1), aR (rb + 2), aR (rb + 3), aR (rb + 4)]) from ((hf_U hl hr) 0 (by decide))) rfl rfl (Nat.le_of_ble_eq_true rfl) (by omega) (am_OutE (mc_tells (d := d - 1) (w := hfW w hb sp rb rs hb po ro ee hh ss ((u13).2) vv pp kk rr tt gg aa dd bd ga im) (hf_le hl (by omega)) (by omega) 2 (aa 1 2) 9 (aa 1) (show (hfW w hb sp rb rs hb po ro ee hh ss ((u13).2) vv pp kk rr tt gg aa dd bd ga im)[78]? = some (cP 0 9 (aa 1)) from (hfW_c hl 78 (by decide))) (by omega) hIu13.1 hIu13.2 (by omega)) (hf_uU hr) (hf_uU hr)) (fun _ => ?_)
    obtain ⟨u33, hu33⟩ : ∃ x9, x9 = c_tells ((u13).2) 2 (aa 1 2) 9 (aa 1) := ⟨_, rfl⟩
    rw [← hu33]
    have hIu33 : RuI u33.2 := by rw [hu33]; exact RuI_4 (fun k hk => c_tells_x ((u13).2) 2 (aa 1 2) 9 (aa 1) k hk) hIu13
    refine T_mmax (am_dec tX0_serve_0 22 rfl) lkX0_93 (Nat.le_of_ble_eq_true rfl) (by omega) ?_
    obtain ⟨m36, hm36⟩ : ∃ x9 : Int, x9 = (if 0 < (u33).1 then (u33).1 else 0) := ⟨_, rfl⟩
    rw [← hm36]
    refine T_istore (ls' := [some (aR 77), some (aI i), some (aR rb), some (aI m16), some (aI m36)]) (am_dec tX0_serve_0 23 rfl) (by decide) rfl ?_
    refine T_aload_n (am_dec tX0_serve_0 24 rfl) rfl ?_
    refine T_getfield 0 2 (am_dec tX0_serve_0 25 rfl) flX0_18_0 (show (hfW w hb sp rb rs hb po ro ee hh ss ((u33).2) vv pp kk rr tt gg aa dd bd ga im)[77]? = some (cO 0 [aR 78, aR 79, aR 80, aR 81, aR 82, aI (aa 0 5)]) from (hfW_c hl 77 (by decide))) rfl ?_
    refine T_iload_n (am_dec tX0_serve_0 26 rfl) rfl ?_
    refine T_aload_n (am_dec tX0_serve_0 27 rfl) rfl ?_
    refine T_getfield 0 0 (am_dec tX0_serve_0 28 rfl) flX0_9_0 (show (hfW w hb sp rb rs hb po ro ee hh ss ((u33).2) vv pp kk rr tt gg aa dd bd ga im)[77]? = some (cO 0 [aR 78, aR 79, aR 80, aR 81, aR 82, aI (aa 0 5)]) from (hfW_c hl 77 (by decide))) rfl ?_
    refine T_iconst 5 (am_dec tX0_serve_0 29 rfl) rfl ⟨by decide, by decide⟩ ?_
    refine T_ialoadE (x := aa 1 5) (am_dec tX0_serve_0 30 rfl) (show (hfW w hb sp rb rs hb po ro ee hh ss ((u33).2) vv pp kk rr tt gg aa dd bd ga im)[78]? = some (cP 0 9 (aa 1)) from (hfW_c hl 78 (by decide))) (by omega) (by omega) rfl ?_
    refine T_iload_n (am_dec tX0_serve_0 31 rfl) rfl ?_
    refine T_aload_n (am_dec tX0_serve_0 32 rfl) rfl ?_
    refine T_getfield 0 0 (am_dec tX0_serve_0 33 rfl) flX0_9_0 (show (hfW w hb sp rb rs hb po ro ee hh ss ((u33).2) vv pp kk rr tt gg aa dd bd ga im)[77]? = some (cO 0 [aR 78, aR 79, aR 80, aR 81, aR 82, aI (aa 0 5)]) from (hfW_c hl 77 (by decide))) rfl ?_
    refine T_iconst 1 (am_dec tX0_serve_0 34 rfl) rfl ⟨by decide, by decide⟩ ?_
    refine T_ialoadE (x := aa 1 1) (am_dec tX0_serve_0 35 rfl) (show (hfW w hb sp rb rs hb po ro ee hh ss ((u33).2) vv pp kk rr tt gg aa dd bd ga im)[78]? = some (cP 0 9 (aa 1)) from (hfW_c hl 78 (by decide))) (by omega) (by omega) rfl ?_
    refine T_mmin (am_dec tX0_serve_0 36 rfl) lkX0_54 (Nat.le_of_ble_eq_true rfl) (by omega) ?_
    obtain ⟨m59, hm59⟩ : ∃ x9 : Int, x9 = (if aa 1 1 < m16 then aa 1 1 else m16) := ⟨_, rfl⟩
    rw [← hm59]
    refine T_mmin (am_dec tX0_serve_0 37 rfl) lkX0_54 (Nat.le_of_ble_eq_true rfl) (by omega) ?_
    obtain ⟨m62, hm62⟩ : ∃ x9 : Int, x9 = (if m59 < aa 1 5 then m59 else aa 1 5) := ⟨_, rfl⟩
    rw [← hm62]
    refine T_iastore (am_dec tX0_serve_0 38 rfl) (show (hfW w hb sp rb rs hb po ro ee hh ss ((u33).2) vv pp kk rr tt gg aa dd bd ga im)[80]? = some (cP 0 12 (aa 3)) from (hfW_c hl 80 (by decide))) (by omega) (by omega) ?_
    refine am_wE (w2 := hfW w hb sp rb rs hb po ro ee hh ss ((u33).2) vv pp kk rr tt gg (am_put aa 3 i.toNat m62) dd bd ga im) (am_via hf_uA (auW_p3 (w := hfW w hb sp rb rs hb po ro ee hh ss ((u33).2) vv pp kk rr tt gg aa dd bd ga im)) hf_uA) ?_
    refine T_aload_n (am_dec tX0_serve_0 39 rfl) rfl ?_
    refine T_getfield 0 3 (am_dec tX0_serve_1 0 rfl) flX0_21_0 (show (hfW w hb sp rb rs hb po ro ee hh ss ((u33).2) vv pp kk rr tt gg (am_put aa 3 i.toNat m62) dd bd ga im)[77]? = some (cO 0 [aR 78, aR 79, aR 80, aR 81, aR 82, aI (aa 0 5)]) from (hfW_c hl 77 (by decide))) rfl ?_
    refine T_iload_n (am_dec tX0_serve_1 1 rfl) rfl ?_
    refine T_aload_n (am_dec tX0_serve_1 2 rfl) rfl ?_
    refine T_getfield 0 2 (am_dec tX0_serve_1 3 rfl) flX0_18_0 (show (hfW w hb sp rb rs hb po ro ee hh ss ((u33).2) vv pp kk rr tt gg (am_put aa 3 i.toNat m62) dd bd ga im)[77]? = some (cO 0 [aR 78, aR 79, aR 80, aR 81, aR 82, aI (aa 0 5)]) from (hfW_c hl 77 (by decide))) rfl ?_
    refine T_iload_n (am_dec tX0_serve_1 4 rfl) rfl ?_
    refine T_ialoadE (x := ((am_put aa 3 i.toNat m62) 3) i.toNat) (am_dec tX0_serve_1 5 rfl) (show (hfW w hb sp rb rs hb po ro ee hh ss ((u33).2) vv pp kk rr tt gg (am_put aa 3 i.toNat m62) dd bd ga im)[80]? = some (cP 0 12 ((am_put aa 3 i.toNat m62) 3)) from (hfW_c hl 80 (by decide))) (by omega) (by omega) rfl ?_
    refine T_iload (am_dec tX0_serve_1 6 rfl) rfl ?_
    refine T_imulW (am_w32 ((((am_put aa 3 i.toNat m62) 3) i.toNat) * m36)) (am_dec tX0_serve_1 7 rfl) (am_w32e _).symm (am_w32r _) ?_
    refine T_iastore (am_dec tX0_serve_1 8 rfl) (show (hfW w hb sp rb rs hb po ro ee hh ss ((u33).2) vv pp kk rr tt gg (am_put aa 3 i.toNat m62) dd bd ga im)[81]? = some (cP 0 12 ((am_put aa 3 i.toNat m62) 4)) from (hfW_c hl 81 (by decide))) (by omega) (by omega) ?_
    refine am_wE (w2 := hfW w hb sp rb rs hb po ro ee hh ss ((u33).2) vv pp kk rr tt gg (am_put (am_put aa 3 i.toNat m62) 4 i.toNat (am_w32 ((((am_put aa 3 i.toNat m62) 3) i.toNat) * m36))) dd bd ga im) (am_via hf_uA (auW_p4 (w := hfW w hb sp rb rs hb po ro ee hh ss ((u33).2) vv pp kk rr tt gg (am_put aa 3 i.toNat m62) dd bd ga im)) hf_uA) ?_
    refine T_aload_n (am_dec tX0_serve_1 9 rfl) rfl ?_
    refine T_getfield 0 0 (am_dec tX0_serve_1 10 rfl) flX0_9_0 (show (hfW w hb sp rb rs hb po ro ee hh ss ((u33).2) vv pp kk rr tt gg (am_put (am_put aa 3 i.toNat m62) 4 i.toNat (am_w32 ((((am_put aa 3 i.toNat m62) 3) i.toNat) * m36))) dd bd ga im)[77]? = some (cO 0 [aR 78, aR 79, aR 80, aR 81, aR 82, aI (aa 0 5)]) from (hfW_c hl 77 (by decide))) rfl ?_
    refine T_iconst 5 (am_dec tX0_serve_1 11 rfl) rfl ⟨by decide, by decide⟩ ?_
    refine T_dup2 (am_dec tX0_serve_1 12 rfl) rfl rfl ?_
    refine T_ialoadE (x := aa 1 5) (am_dec tX0_serve_1 13 rfl) (show (hfW w hb sp rb rs hb po ro ee hh ss ((u33).2) vv pp kk rr tt gg (am_put (am_put aa 3 i.toNat m62) 4 i.toNat (am_w32 ((((am_put aa 3 i.toNat m62) 3) i.toNat) * m36))) dd bd ga im)[78]? = some (cP 0 9 ((am_put (am_put aa 3 i.toNat m62) 4 i.toNat (am_w32 ((((am_put aa 3 i.toNat m62) 3) i.toNat) * m36))) 1)) from (hfW_c hl 78 (by decide))) (by omega) (by omega) rfl ?_
    refine T_aload_n (am_dec tX0_serve_1 14 rfl) rfl ?_
    refine T_getfield 0 2 (am_dec tX0_serve_1 15 rfl) flX0_18_0 (show (hfW w hb sp rb rs hb po ro ee hh ss ((u33).2) vv pp kk rr tt gg (am_put (am_put aa 3 i.toNat m62) 4 i.toNat (am_w32 ((((am_put aa 3 i.toNat m62) 3) i.toNat) * m36))) dd bd ga im)[77]? = some (cO 0 [aR 78, aR 79, aR 80, aR 81, aR 82, aI (aa 0 5)]) from (hfW_c hl 77 (by decide))) rfl ?_
    refine T_iload_n (am_dec tX0_serve_1 16 rfl) rfl ?_
    refine T_ialoadE (x := ((am_put (am_put aa 3 i.toNat m62) 4 i.toNat (am_w32 ((((am_put aa 3 i.toNat m62) 3) i.toNat) * m36))) 3) i.toNat) (am_dec tX0_serve_1 17 rfl) (show (hfW w hb sp rb rs hb po ro ee hh ss ((u33).2) vv pp kk rr tt gg (am_put (am_put aa 3 i.toNat m62) 4 i.toNat (am_w32 ((((am_put aa 3 i.toNat m62) 3) i.toNat) * m36))) dd bd ga im)[80]? = some (cP 0 12 ((am_put (am_put aa 3 i.toNat m62) 4 i.toNat (am_w32 ((((am_put aa 3 i.toNat m62) 3) i.toNat) * m36))) 3)) from (hfW_c hl 80 (by decide))) (by omega) (by omega) rfl ?_
    refine T_isubW (am_w32 ((aa 1 5) - (((am_put (am_put aa 3 i.toNat m62) 4 i.toNat (am_w32 ((((am_put aa 3 i.toNat m62) 3) i.toNat) * m36))) 3) i.toNat))) (am_dec tX0_serve_1 18 rfl) (am_w32e _).symm (am_w32r _) ?_
    refine T_iastore (am_dec tX0_serve_1 19 rfl) (show (hfW w hb sp rb rs hb po ro ee hh ss ((u33).2) vv pp kk rr tt gg (am_put (am_put aa 3 i.toNat m62) 4 i.toNat (am_w32 ((((am_put aa 3 i.toNat m62) 3) i.toNat) * m36))) dd bd ga im)[78]? = some (cP 0 9 ((am_put (am_put aa 3 i.toNat m62) 4 i.toNat (am_w32 ((((am_put aa 3 i.toNat m62) 3) i.toNat) * m36))) 1)) from (hfW_c hl 78 (by decide))) (by omega) (by omega) ?_
    refine am_wE (w2 := hfW w hb sp rb rs hb po ro ee hh ss ((u33).2) vv pp kk rr tt gg (am_put (am_put (am_put aa 3 i.toNat m62) 4 i.toNat (am_w32 ((((am_put aa 3 i.toNat m62) 3) i.toNat) * m36))) 1 5 (am_w32 ((aa 1 5) - (((am_put (am_put aa 3 i.toNat m62) 4 i.toNat (am_w32 ((((am_put aa 3 i.toNat m62) 3) i.toNat) * m36))) 3) i.toNat)))) dd bd ga im) (am_via hf_uA (auW_p1 (w := hfW w hb sp rb rs hb po ro ee hh ss ((u33).2) vv pp kk rr tt gg (am_put (am_put aa 3 i.toNat m62) 4 i.toNat (am_w32 ((((am_put aa 3 i.toNat m62) 3) i.toNat) * m36))) dd bd ga im)) hf_uA) ?_
    refine T_nmH (W := fun x9 => hfW w hb sp rb rs hb po ro ee hh ss ((u33).2) vv pp kk rr tt gg x9 dd bd ga im) (v := (am_put (am_put (am_put aa 3 i.toNat m62) 4 i.toNat (am_w32 ((((am_put aa 3 i.toNat m62) 3) i.toNat) * m36))) 1 5 (am_w32 ((aa 1 5) - (((am_put (am_put aa 3 i.toNat m62) 4 i.toNat (am_w32 ((((am_put aa 3 i.toNat m62) 3) i.toNat) * m36))) 3) i.toNat))))) (fun aa95 haa95 => ?_)
    exact T_return (am_dec tX0_serve_1 20 rfl) rfl (am_tr (fun (x9 : am_F × am_F) => Q (.inl none) (hfW w hb sp rb rs hb po ro ee hh ss x9.1 vv pp kk rr tt gg x9.2 dd bd ga im)) (y := ((u33).2, aa95)) (show (c_serve uu aa i) = ((u33).2, aa95) from (by have s9 := hu13.symm; subst s9; have s9 := hm16.symm; subst s9; have s9 := hu33.symm; subst s9; have s9 := hm36.symm; subst s9; have s9 := hm59.symm; subst s9; have s9 := hm62.symm; subst s9; have s9 := haa95.symm; subst s9; exact rfl)) hQ)
  exact key _ ⟨rfl, rfl⟩
theorem c_serve_x (uu aa : am_F) (i : Int) (q : RuI uu) : RuI (c_serve uu aa i).1 := by
  unfold c_serve
  exact RuI_4 (fun k hk => (c_tells_x _ 2 (aa 1 2) 9 (aa 1) k hk).trans (c_tells_x _ 3 (aa 1 1) 9 (aa 1) k hk)) q
def g_c_sellByRule_6 (bd : am_F) (i : Int) (x9 : am_F × am_F) : am_F × am_F := let uu := x9.1; let aa := x9.2; (let aa23 : am_F := f_look aa (bd 0 2) (bd 1) i; (let v34 : Int := f_at (bd 0 2) (bd 1) i 0; (let t43 : Int := (if v34 = aa23 1 0 then (let u48 : Int × am_F := c_isLetIn uu aa23; (if (u48).1 = 0 then 0 else 1)) else 0); (let uu43 : am_F := (if v34 = aa23 1 0 then (let u48 : Int × am_F := c_isLetIn uu aa23; ((u48).2)) else uu); (let t71 : Int := (if ((am_put aa23 5 i.toNat t43) 5) i.toNat = 0 then 0 else (let u76 : Int × am_F := c_standing uu43 (am_put aa23 5 i.toNat t43); ((u76).1))); (let uu71 : am_F := (if ((am_put aa23 5 i.toNat t43) 5) i.toNat = 0 then uu43 else (let u76 : Int × am_F := c_standing uu43 (am_put aa23 5 i.toNat t43); ((u76).2))); (uu71, (am_put (am_put aa23 5 i.toNat t43) 2 i.toNat t71))))))))
theorem L_c_sellByRule_6 {S : am_S} {d u : Nat} {Q : AO → AH → Prop} {w : AH} {hb sp rb rs : Nat} {po ro : AV} (hl : 109 ≤ w.length) (hp : hb = 1 ∧ sp = 21 ∨ hb = 21 ∧ sp = 1) (hr : rb = 41 ∧ rs = 46 ∨ rb = 46 ∧ rs = 41) (ee : am_F) (hh : am_F) (ss : am_F) (vv : am_F) (pp : am_F) (kk : am_F) (rr : am_F) (tt : am_F) (gg : am_F) (dd : am_F) (bd : am_F) (ga : am_F) (im : am_F)  (hBd : BdI bd) (hd : 4 ≤ d) (B9 : Int) (hB : B9 = bd 0 2) : ∀ (n : Nat) (i : Int) (uu : am_F) (aa : am_F), i + n = B9 → 0 ≤ i → RuI uu → (∀ (uu' : am_F) (aa' : am_F), uu' = (am_fold (g_c_sellByRule_6 bd) i n (uu, aa)).1 → aa' = (am_fold (g_c_sellByRule_6 bd) i n (uu, aa)).2 → RuI uu' → am_T S zX0_sellByRule d u Q 90 [some (aR 77), some (aR 84), some (aR rb), none, none] [] (hfW w hb sp rb rs hb po ro ee hh ss uu' vv pp kk rr tt gg aa' dd bd ga im)) → am_T S zX0_sellByRule d u Q 6 [some (aR 77), some (aR 84), some (aR rb), some (aI i), none] [] (hfW w hb sp rb rs hb po ro ee hh ss uu vv pp kk rr tt gg aa dd bd ga im) := by
  intro n
  induction n with
  | zero =>
    intro i uu aa hi9 h0i hinv k9
    have e9 : i = B9 := by omega
    subst e9
    have hBd9 := hBd
    obtain ⟨vb0, ⟨vb1, vb2⟩, vb3⟩ := hBd9
    have hU := hinv
    refine T_iload_n (am_dec tX0_sellByRule_0 4 rfl) rfl ?_
    refine T_aload_n (am_dec tX0_sellByRule_0 5 rfl) rfl ?_
    refine T_getfield 9 2 (am_dec tX0_sellByRule_0 6 rfl) flX0_37_9 (show (hfW w hb sp rb rs hb po ro ee hh ss uu vv pp kk rr tt gg aa dd bd ga im)[84]? = some (cO 9 [aI (bd 0 0), aR 85, aI (bd 0 2)]) from (hfW_c hl 84 (by decide))) rfl ?_
    refine T_icmp_ge 90 (am_dec tX0_sellByRule_0 7 rfl) rfl (fun h11 => ?_) (fun h11 => by exfalso; omega)
    refine T_weak (ls' := [some (aR 77), some (aR 84), some (aR rb), none, none]) (am_sub_s (am_sub_s (am_sub_s (am_sub_n (am_sub_n am_sub_nil))))) ?_
    exact k9 uu aa rfl rfl hinv
  | succ n ih =>
    intro i uu aa hi9 h0i hinv k9
    have hBd9 := hBd
    obtain ⟨vb0, ⟨vb1, vb2⟩, vb3⟩ := hBd9
    have hU := hinv
    refine T_iload_n (am_dec tX0_sellByRule_0 4 rfl) rfl ?_
    refine T_aload_n (am_dec tX0_sellByRule_0 5 rfl) rfl ?_
    refine T_getfield 9 2 (am_dec tX0_sellByRule_0 6 rfl) flX0_37_9 (show (hfW w hb sp rb rs hb po ro ee hh ss uu vv pp kk rr tt gg aa dd bd ga im)[84]? = some (cO 9 [aI (bd 0 0), aR 85, aI (bd 0 2)]) from (hfW_c hl 84 (by decide))) rfl ?_
    refine T_icmp_ge 90 (am_dec tX0_sellByRule_0 7 rfl) rfl (fun h11 => by exfalso; omega) (fun h11 => ?_)
    refine T_iload_n (am_dec tX0_sellByRule_0 8 rfl) rfl ?_
    refine T_bipush 12 (am_dec tX0_sellByRule_0 9 rfl) rfl ⟨by decide, by decide⟩ ?_
    refine T_icmp_ge 90 (am_dec tX0_sellByRule_0 10 rfl) rfl (fun h17 => by exfalso; omega) (fun h17 => ?_)
    refine T_aload_n (am_dec tX0_sellByRule_0 11 rfl) rfl ?_
    refine T_aload_n (am_dec tX0_sellByRule_0 12 rfl) rfl ?_
    refine T_iload_n (am_dec tX0_sellByRule_0 13 rfl) rfl ?_
    refine T_callV (as := [aR 84, aI i]) rfl (am_dec tX0_sellByRule_0 14 rfl) lkX0_77 (show (hfW w hb sp rb rs hb po ro ee hh ss uu vv pp kk rr tt gg aa dd bd ga im)[77]? = some (cO 0 [aR 78, aR 79, aR 80, aR 81, aR 82, aI (aa 0 5)]) from (hfW_c hl 77 (by decide))) rfl rfl (Nat.le_of_ble_eq_true rfl) (by omega) (am_OutE (m_look (d := d - 1) (w := hfW w hb sp rb rs hb po ro ee hh ss uu vv pp kk rr tt gg aa dd bd ga im) (hf_le hl (by omega)) (by omega) (show (hfW w hb sp rb rs hb po ro ee hh ss uu vv pp kk rr tt gg aa dd bd ga im)[84]? = some (cO 9 [aI (bd 0 0), aR 85, aI (bd 0 2)]) from (hfW_c hl 84 (by decide))) (show (hfW w hb sp rb rs hb po ro ee hh ss uu vv pp kk rr tt gg aa dd bd ga im)[85]? = some (cP 0 48 (bd 1)) from (hfW_c hl 85 (by decide))) (by omega) i (by omega)) hf_uA hf_uA) (fun _ => ?_)
    refine T_nmH (W := fun x9 => hfW w hb sp rb rs hb po ro ee hh ss uu vv pp kk rr tt gg x9 dd bd ga im) (v := f_look aa (bd 0 2) (bd 1) i) (fun aa23 haa23 => ?_)
    refine T_aload_n (am_dec tX0_sellByRule_0 15 rfl) rfl ?_
    refine T_getfield 0 4 (am_dec tX0_sellByRule_0 16 rfl) flX0_24_0 (show (hfW w hb sp rb rs hb po ro ee hh ss uu vv pp kk rr tt gg aa23 dd bd ga im)[77]? = some (cO 0 [aR 78, aR 79, aR 80, aR 81, aR 82, aI (aa23 0 5)]) from (hfW_c hl 77 (by decide))) rfl ?_
    refine T_iload_n (am_dec tX0_sellByRule_0 17 rfl) rfl ?_
    refine T_aload_n (am_dec tX0_sellByRule_0 18 rfl) rfl ?_
    refine T_iload_n (am_dec tX0_sellByRule_0 19 rfl) rfl ?_
    refine T_iconst 0 (am_dec tX0_sellByRule_0 20 rfl) rfl ⟨by decide, by decide⟩ ?_
    refine T_callV (as := [aI i, aI 0]) rfl (am_dec tX0_sellByRule_0 21 rfl) lkX0_43 (show (hfW w hb sp rb rs hb po ro ee hh ss uu vv pp kk rr tt gg aa23 dd bd ga im)[84]? = some (cO 9 [aI (bd 0 0), aR 85, aI (bd 0 2)]) from (hfW_c hl 84 (by decide))) rfl rfl (Nat.le_of_ble_eq_true rfl) (by omega) (m_at (d := d - 1) (show (hfW w hb sp rb rs hb po ro ee hh ss uu vv pp kk rr tt gg aa23 dd bd ga im)[84]? = some (cO 9 [aI (bd 0 0), aR 85, aI (bd 0 2)]) from (hfW_c hl 84 (by decide))) (show (hfW w hb sp rb rs hb po ro ee hh ss uu vv pp kk rr tt gg aa23 dd bd ga im)[85]? = some (cP 0 48 (bd 1)) from (hfW_c hl 85 (by decide))) (by omega) i 0) (fun _ => ?_)
    refine T_nm (fun v34 hv34 => ?_)
    refine T_aload_n (am_dec tX0_sellByRule_0 22 rfl) rfl ?_
    refine T_getfield 0 0 (am_dec tX0_sellByRule_0 23 rfl) flX0_9_0 (show (hfW w hb sp rb rs hb po ro ee hh ss uu vv pp kk rr tt gg aa23 dd bd ga im)[77]? = some (cO 0 [aR 78, aR 79, aR 80, aR 81, aR 82, aI (aa23 0 5)]) from (hfW_c hl 77 (by decide))) rfl ?_
    refine T_iconst 0 (am_dec tX0_sellByRule_0 24 rfl) rfl ⟨by decide, by decide⟩ ?_
    refine T_ialoadE (x := aa23 1 0) (am_dec tX0_sellByRule_0 25 rfl) (show (hfW w hb sp rb rs hb po ro ee hh ss uu vv pp kk rr tt gg aa23 dd bd ga im)[78]? = some (cP 0 9 (aa23 1)) from (hfW_c hl 78 (by decide))) (by omega) (by omega) rfl ?_
    have K43 : ∀ (t43 : Int), ∀ (uu43 : am_F), t43 = (if v34 = aa23 1 0 then (let u48 : Int × am_F := c_isLetIn uu aa23; (if (u48).1 = 0 then 0 else 1)) else 0) → uu43 = (if v34 = aa23 1 0 then (let u48 : Int × am_F := c_isLetIn uu aa23; ((u48).2)) else uu) →  am_T S zX0_sellByRule d u Q 59 [some (aR 77), some (aR 84), some (aR rb), some (aI i), none] [aI t43, aI i, aR 82] (hfW w hb sp rb rs hb po ro ee hh ss uu43 vv pp kk rr tt gg aa23 dd bd ga im) := by
      intro t43 uu43 ht43 huu43 
      have hxt43 := ht43
      dsimp only at hxt43
      have hbt43 : t43 = 0 ∨ t43 = 1 := by
        rw [ht43]
        try dsimp only
        repeat' split
        all_goals first | exact Or.inl rfl | exact Or.inr rfl | apply c_guardsAll_b | omega
      have hIuu43 : RuI uu43 := by
        rw [huu43]
        dsimp only
        split
        · exact RuI_4 (c_isLetIn_x _ _).2 hU
        · exact hU
      refine T_bastore (am_dec tX0_sellByRule_0 34 rfl) (show (hfW w hb sp rb rs hb po ro ee hh ss uu43 vv pp kk rr tt gg aa23 dd bd ga im)[82]? = some (cP 1 12 (aa23 5)) from (hfW_c hl 82 (by decide))) (by omega) (by omega) (by omega) ?_
      refine am_wE (w2 := hfW w hb sp rb rs hb po ro ee hh ss uu43 vv pp kk rr tt gg (am_put aa23 5 i.toNat t43) dd bd ga im) (am_via hf_uA (auW_p5 (w := hfW w hb sp rb rs hb po ro ee hh ss uu43 vv pp kk rr tt gg aa23 dd bd ga im)) hf_uA) ?_
      refine T_aload_n (am_dec tX0_sellByRule_0 35 rfl) rfl ?_
      refine T_getfield 0 1 (am_dec tX0_sellByRule_0 36 rfl) flX0_15_0 (show (hfW w hb sp rb rs hb po ro ee hh ss uu43 vv pp kk rr tt gg (am_put aa23 5 i.toNat t43) dd bd ga im)[77]? = some (cO 0 [aR 78, aR 79, aR 80, aR 81, aR 82, aI (aa23 0 5)]) from (hfW_c hl 77 (by decide))) rfl ?_
      refine T_iload_n (am_dec tX0_sellByRule_0 37 rfl) rfl ?_
      refine T_aload_n (am_dec tX0_sellByRule_0 38 rfl) rfl ?_
      refine T_getfield 0 4 (am_dec tX0_sellByRule_0 39 rfl) flX0_24_0 (show (hfW w hb sp rb rs hb po ro ee hh ss uu43 vv pp kk rr tt gg (am_put aa23 5 i.toNat t43) dd bd ga im)[77]? = some (cO 0 [aR 78, aR 79, aR 80, aR 81, aR 82, aI (aa23 0 5)]) from (hfW_c hl 77 (by decide))) rfl ?_
      refine T_iload_n (am_dec tX0_sellByRule_1 0 rfl) rfl ?_
      refine T_baload (am_dec tX0_sellByRule_1 1 rfl) (show (hfW w hb sp rb rs hb po ro ee hh ss uu43 vv pp kk rr tt gg (am_put aa23 5 i.toNat t43) dd bd ga im)[82]? = some (cP 1 12 ((am_put aa23 5 i.toNat t43) 5)) from (hfW_c hl 82 (by decide))) (by omega) (by omega) ?_
      have K71 : ∀ (t71 : Int), ∀ (uu71 : am_F), t71 = (if ((am_put aa23 5 i.toNat t43) 5) i.toNat = 0 then 0 else (let u76 : Int × am_F := c_standing uu43 (am_put aa23 5 i.toNat t43); ((u76).1))) → uu71 = (if ((am_put aa23 5 i.toNat t43) 5) i.toNat = 0 then uu43 else (let u76 : Int × am_F := c_standing uu43 (am_put aa23 5 i.toNat t43); ((u76).2))) →  am_T S zX0_sellByRule d u Q 83 [some (aR 77), some (aR 84), some (aR rb), some (aI i), none] [aI t71, aI i, aR 79] (hfW w hb sp rb rs hb po ro ee hh ss uu71 vv pp kk rr tt gg (am_put aa23 5 i.toNat t43) dd bd ga im) := by
        intro t71 uu71 ht71 huu71 
        have hxt71 := ht71
        dsimp only at hxt71
        have hIuu71 : RuI uu71 := by
          rw [huu71]
          dsimp only
          split
          · exact hIuu43
          · exact RuI_4 (c_standing_x _ _) hIuu43
        refine T_iastore (am_dec tX0_sellByRule_1 8 rfl) (show (hfW w hb sp rb rs hb po ro ee hh ss uu71 vv pp kk rr tt gg (am_put aa23 5 i.toNat t43) dd bd ga im)[79]? = some (cP 0 12 ((am_put aa23 5 i.toNat t43) 2)) from (hfW_c hl 79 (by decide))) (by omega) (by omega) ?_
        refine am_wE (w2 := hfW w hb sp rb rs hb po ro ee hh ss uu71 vv pp kk rr tt gg (am_put (am_put aa23 5 i.toNat t43) 2 i.toNat t71) dd bd ga im) (am_via hf_uA (auW_p2 (w := hfW w hb sp rb rs hb po ro ee hh ss uu71 vv pp kk rr tt gg (am_put aa23 5 i.toNat t43) dd bd ga im)) hf_uA) ?_
        refine T_iinc (ls' := [some (aR 77), some (aR 84), some (aR rb), some (aI (i + 1)), none]) (i + 1) (am_dec tX0_sellByRule_1 9 rfl) rfl rfl ⟨by omega, by omega⟩ (by decide) rfl ?_
        refine T_goto 6 (am_dec tX0_sellByRule_1 10 rfl) rfl ?_
        have e9 : (g_c_sellByRule_6 bd) i (uu, aa) = (uu71, (am_put (am_put aa23 5 i.toNat t43) 2 i.toNat t71)) := (by have s9 := haa23.symm; subst s9; have s9 := hv34.symm; subst s9; have s9 := ht43.symm; subst s9; have s9 := huu43.symm; subst s9; have s9 := ht71.symm; subst s9; have s9 := huu71.symm; subst s9; exact rfl)
        simp only [am_fold_s, e9] at k9
        exact ih (i + 1) uu71 (am_put (am_put aa23 5 i.toNat t43) 2 i.toNat t71) (by omega) (by omega) hIuu71 k9
      refine T_if_eq 82 (am_dec tX0_sellByRule_1 2 rfl) rfl (fun h71 => ?_) (fun h71 => ?_)
      · refine T_iconst 0 (am_dec tX0_sellByRule_1 7 rfl) rfl ⟨by decide, by decide⟩ ?_
        exact K71 _ _ (if_pos h71).symm (if_pos h71).symm 
      · refine T_aload_n (am_dec tX0_sellByRule_1 3 rfl) rfl ?_
        refine T_aload_n (am_dec tX0_sellByRule_1 4 rfl) rfl ?_
        refine T_callV (as := [aR rb]) rfl (am_dec tX0_sellByRule_1 5 rfl) lkX0_85 (show (hfW w hb sp rb rs hb po ro ee hh ss uu43 vv pp kk rr tt gg (am_put aa23 5 i.toNat t43) dd bd ga im)[77]? = some (cO 0 [aR 78, aR 79, aR 80, aR 81, aR 82, aI (aa23 0 5)]) from (hfW_c hl 77 (by decide))) rfl rfl (Nat.le_of_ble_eq_true rfl) (by omega) (mc_standing (d := d - 1) hl hp hr   hIuu43 (by omega)) (fun _ => ?_)
        obtain ⟨u76, hu76⟩ : ∃ x9, x9 = c_standing uu43 (am_put aa23 5 i.toNat t43) := ⟨_, rfl⟩
        rw [← hu76]
        have hIu76 : RuI u76.2 := by rw [hu76]; exact RuI_4 (c_standing_x _ _) hIuu43
        refine T_goto 83 (am_dec tX0_sellByRule_1 6 rfl) rfl ?_
        exact K71 _ _ (by have s9 := hu76.symm; subst s9; exact (if_neg h71).symm) (by have s9 := hu76.symm; subst s9; exact (if_neg h71).symm) 
    refine T_icmp_ne 58 (am_dec tX0_sellByRule_0 26 rfl) rfl (fun h43 => ?_) (fun h43 => ?_)
    · refine T_iconst 0 (am_dec tX0_sellByRule_0 33 rfl) rfl ⟨by decide, by decide⟩ ?_
      exact K43 _ _ (if_neg h43).symm (if_neg h43).symm 
    · refine T_aload_n (am_dec tX0_sellByRule_0 27 rfl) rfl ?_
      refine T_aload_n (am_dec tX0_sellByRule_0 28 rfl) rfl ?_
      refine T_callV (as := [aR rb]) rfl (am_dec tX0_sellByRule_0 29 rfl) lkX0_81 (show (hfW w hb sp rb rs hb po ro ee hh ss uu vv pp kk rr tt gg aa23 dd bd ga im)[77]? = some (cO 0 [aR 78, aR 79, aR 80, aR 81, aR 82, aI (aa23 0 5)]) from (hfW_c hl 77 (by decide))) rfl rfl (Nat.le_of_ble_eq_true rfl) (by omega) (mc_isLetIn (d := d - 1) hl hp hr   hU (by omega)) (fun _ => ?_)
      obtain ⟨u48, hu48⟩ : ∃ x9, x9 = c_isLetIn uu aa23 := ⟨_, rfl⟩
      rw [← hu48]
      have hIu48 : RuI u48.2 := by rw [hu48]; exact RuI_4 (c_isLetIn_x _ _).2 hU
      have hb48 : u48.1 = 0 ∨ u48.1 = 1 := by rw [hu48]; exact (c_isLetIn_x _ _).1
      have K51 : ∀ (t51 : Int), t51 = (if (u48).1 = 0 then 0 else 1) →  am_T S zX0_sellByRule d u Q 59 [some (aR 77), some (aR 84), some (aR rb), some (aI i), none] [aI t51, aI i, aR 82] (hfW w hb sp rb rs hb po ro ee hh ss ((u48).2) vv pp kk rr tt gg aa23 dd bd ga im) := by
        intro t51 ht51 
        have hbt51 : t51 = 0 ∨ t51 = 1 := by
          rw [ht51]
          try dsimp only
          repeat' split
          all_goals first | exact Or.inl rfl | exact Or.inr rfl | apply c_guardsAll_b | omega
        exact K43 _ _ (by have s9 := hu48.symm; subst s9; have s9 := ht51.symm; subst s9; exact (if_pos h43).symm) (by have s9 := hu48.symm; subst s9; have s9 := ht51.symm; subst s9; exact (if_pos h43).symm) 
      refine T_if_eq 58 (am_dec tX0_sellByRule_0 30 rfl) rfl (fun h51 => ?_) (fun h51 => ?_)
      · refine T_iconst 0 (am_dec tX0_sellByRule_0 33 rfl) rfl ⟨by decide, by decide⟩ ?_
        exact K51 _ (if_pos h51).symm 
      · refine T_iconst 1 (am_dec tX0_sellByRule_0 31 rfl) rfl ⟨by decide, by decide⟩ ?_
        refine T_goto 59 (am_dec tX0_sellByRule_0 32 rfl) rfl ?_
        exact K51 _ (if_neg h51).symm 
def w_c_sellByRule_92 (bd : am_F) (x9 : Int × am_F × am_F) : (Int × am_F × am_F) ⊕ (Int × am_F × am_F) := let i : Int := x9.1; let uu : am_F := x9.2.1; let aa : am_F := x9.2.2; (if 12 ≤ i then .inr (i, uu, aa) else (let n99 : Int := f_nextUp aa; (if n99 = (-1) then .inr (i, uu, aa) else (let aa123 : am_F := f_look (am_put aa 5 n99.toNat 0) (bd 0 2) (bd 1) n99; (let u130 : am_F × am_F := c_serve uu aa123 n99; .inl ((i + 1), (u130).1, (u130).2))))))
theorem L_c_sellByRule_92 {S : am_S} {d u : Nat} {Q : AO → AH → Prop} {w : AH} {hb sp rb rs : Nat} {po ro : AV} (hl : 109 ≤ w.length) (hp : hb = 1 ∧ sp = 21 ∨ hb = 21 ∧ sp = 1) (hr : rb = 41 ∧ rs = 46 ∨ rb = 46 ∧ rs = 41) (ee : am_F) (hh : am_F) (ss : am_F) (vv : am_F) (pp : am_F) (kk : am_F) (rr : am_F) (tt : am_F) (gg : am_F) (dd : am_F) (bd : am_F) (ga : am_F) (im : am_F) (hBd : BdI bd)  (hd : 4 ≤ d) : ∀ (n : Nat) (i : Int) (uu : am_F) (aa : am_F), 12 - i < n → RuI uu ∧ 0 ≤ i ∧ i ≤ 12 → (∀ (i' : Int) (uu' : am_F) (aa' : am_F), i' = (am_wh (w_c_sellByRule_92 bd) n (i, uu, aa)).1 → uu' = (am_wh (w_c_sellByRule_92 bd) n (i, uu, aa)).2.1 → aa' = (am_wh (w_c_sellByRule_92 bd) n (i, uu, aa)).2.2 → Q (.inl none) (hfW w hb sp rb rs hb po ro ee hh ss uu' vv pp kk rr tt gg aa' dd bd ga im)) → am_T S zX0_sellByRule d u Q 92 [some (aR 77), some (aR 84), some (aR rb), some (aI i), none] [] (hfW w hb sp rb rs hb po ro ee hh ss uu vv pp kk rr tt gg aa dd bd ga im) := by
  intro n
  induction n with
  | zero =>
    intro i uu aa hm9 hinv k9
    have hBd9 := hBd
    obtain ⟨vb0, ⟨vb1, vb2⟩, vb3⟩ := hBd9
    have hU := hinv.1
    exfalso; omega
  | succ n ih =>
    intro i uu aa hm9 hinv k9
    have hBd9 := hBd
    obtain ⟨vb0, ⟨vb1, vb2⟩, vb3⟩ := hBd9
    have hU := hinv.1
    refine T_iload_n (am_dec tX0_sellByRule_1 13 rfl) rfl ?_
    refine T_bipush 12 (am_dec tX0_sellByRule_1 14 rfl) rfl ⟨by decide, by decide⟩ ?_
    refine T_icmp_ge 139 (am_dec tX0_sellByRule_1 15 rfl) rfl (fun h95 => ?_) (fun h95 => ?_)
    · exact T_return (am_dec tX0_sellByRule_1 38 rfl) rfl (by have e9 : (w_c_sellByRule_92 bd) (i, uu, aa) = .inr (i, uu, aa) := (if_pos h95); simp only [am_wh_r e9] at k9; exact k9 _ _ _ rfl rfl rfl)
    · refine T_aload_n (am_dec tX0_sellByRule_1 16 rfl) rfl ?_
      refine T_callV (as := []) rfl (am_dec tX0_sellByRule_1 17 rfl) lkX0_50 (show (hfW w hb sp rb rs hb po ro ee hh ss uu vv pp kk rr tt gg aa dd bd ga im)[77]? = some (cO 0 [aR 78, aR 79, aR 80, aR 81, aR 82, aI (aa 0 5)]) from (hfW_c hl 77 (by decide))) rfl rfl (Nat.le_of_ble_eq_true rfl) (by omega) (am_OutE (m_nextUp (d := d - 1) (w := hfW w hb sp rb rs hb po ro ee hh ss uu vv pp kk rr tt gg aa dd bd ga im) (hf_le hl (by omega))   ) hf_uA hf_uA) (fun _ => ?_)
      refine T_nm (fun n99 hn99 => ?_)
      have hc99 := f_nextUp_b aa
      rw [← hn99] at hc99
      refine T_istore (ls' := [some (aR 77), some (aR 84), some (aR rb), some (aI i), some (aI n99)]) (am_dec tX0_sellByRule_1 18 rfl) (by decide) rfl ?_
      refine T_iload (am_dec tX0_sellByRule_1 19 rfl) rfl ?_
      refine T_iconst (-1) (am_dec tX0_sellByRule_1 20 rfl) rfl ⟨by decide, by decide⟩ ?_
      refine T_icmp_ne 111 (am_dec tX0_sellByRule_1 21 rfl) rfl (fun h107 => ?_) (fun h107 => ?_)
      · refine T_aload_n (am_dec tX0_sellByRule_1 23 rfl) rfl ?_
        refine T_getfield 0 4 (am_dec tX0_sellByRule_1 24 rfl) flX0_24_0 (show (hfW w hb sp rb rs hb po ro ee hh ss uu vv pp kk rr tt gg aa dd bd ga im)[77]? = some (cO 0 [aR 78, aR 79, aR 80, aR 81, aR 82, aI (aa 0 5)]) from (hfW_c hl 77 (by decide))) rfl ?_
        refine T_iload (am_dec tX0_sellByRule_1 25 rfl) rfl ?_
        refine T_iconst 0 (am_dec tX0_sellByRule_1 26 rfl) rfl ⟨by decide, by decide⟩ ?_
        refine T_bastore (am_dec tX0_sellByRule_1 27 rfl) (show (hfW w hb sp rb rs hb po ro ee hh ss uu vv pp kk rr tt gg aa dd bd ga im)[82]? = some (cP 1 12 (aa 5)) from (hfW_c hl 82 (by decide))) (by omega) (by omega) (Or.inl rfl) ?_
        refine am_wE (w2 := hfW w hb sp rb rs hb po ro ee hh ss uu vv pp kk rr tt gg (am_put aa 5 n99.toNat 0) dd bd ga im) (am_via hf_uA (auW_p5 (w := hfW w hb sp rb rs hb po ro ee hh ss uu vv pp kk rr tt gg aa dd bd ga im)) hf_uA) ?_
        refine T_aload_n (am_dec tX0_sellByRule_1 28 rfl) rfl ?_
        refine T_aload_n (am_dec tX0_sellByRule_1 29 rfl) rfl ?_
        refine T_iload (am_dec tX0_sellByRule_1 30 rfl) rfl ?_
        refine T_callV (as := [aR 84, aI n99]) rfl (am_dec tX0_sellByRule_1 31 rfl) lkX0_77 (show (hfW w hb sp rb rs hb po ro ee hh ss uu vv pp kk rr tt gg (am_put aa 5 n99.toNat 0) dd bd ga im)[77]? = some (cO 0 [aR 78, aR 79, aR 80, aR 81, aR 82, aI (aa 0 5)]) from (hfW_c hl 77 (by decide))) rfl rfl (Nat.le_of_ble_eq_true rfl) (by omega) (am_OutE (m_look (d := d - 1) (w := hfW w hb sp rb rs hb po ro ee hh ss uu vv pp kk rr tt gg (am_put aa 5 n99.toNat 0) dd bd ga im) (hf_le hl (by omega)) (by omega) (show (hfW w hb sp rb rs hb po ro ee hh ss uu vv pp kk rr tt gg (am_put aa 5 n99.toNat 0) dd bd ga im)[84]? = some (cO 9 [aI (bd 0 0), aR 85, aI (bd 0 2)]) from (hfW_c hl 84 (by decide))) (show (hfW w hb sp rb rs hb po ro ee hh ss uu vv pp kk rr tt gg (am_put aa 5 n99.toNat 0) dd bd ga im)[85]? = some (cP 0 48 (bd 1)) from (hfW_c hl 85 (by decide))) (by omega) n99 (by omega)) hf_uA hf_uA) (fun _ => ?_)
        refine T_nmH (W := fun x9 => hfW w hb sp rb rs hb po ro ee hh ss uu vv pp kk rr tt gg x9 dd bd ga im) (v := f_look (am_put aa 5 n99.toNat 0) (bd 0 2) (bd 1) n99) (fun aa123 haa123 => ?_)
        refine T_aload_n (am_dec tX0_sellByRule_1 32 rfl) rfl ?_
        refine T_iload (am_dec tX0_sellByRule_1 33 rfl) rfl ?_
        refine T_aload_n (am_dec tX0_sellByRule_1 34 rfl) rfl ?_
        refine T_callV (as := [aI n99, aR rb]) rfl (am_dec tX0_sellByRule_1 35 rfl) lkX0_89 (show (hfW w hb sp rb rs hb po ro ee hh ss uu vv pp kk rr tt gg aa123 dd bd ga im)[77]? = some (cO 0 [aR 78, aR 79, aR 80, aR 81, aR 82, aI (aa123 0 5)]) from (hfW_c hl 77 (by decide))) rfl rfl (Nat.le_of_ble_eq_true rfl) (by omega) (mc_serve (d := d - 1) hl hp hr n99  hU (by omega) (by omega)) (fun _ => ?_)
        obtain ⟨u130, hu130⟩ : ∃ x9, x9 = c_serve uu aa123 n99 := ⟨_, rfl⟩
        rw [← hu130]
        have hIu130 : RuI u130.1 := by rw [hu130]; exact c_serve_x _ _ _ hU
        refine T_iinc (ls' := [some (aR 77), some (aR 84), some (aR rb), some (aI (i + 1)), some (aI n99)]) (i + 1) (am_dec tX0_sellByRule_1 36 rfl) rfl rfl ⟨by omega, by omega⟩ (by decide) rfl ?_
        refine T_goto 92 (am_dec tX0_sellByRule_1 37 rfl) rfl ?_
        refine T_weak (ls' := [some (aR 77), some (aR 84), some (aR rb), some (aI (i + 1)), none]) (am_sub_s (am_sub_s (am_sub_s (am_sub_s (am_sub_n am_sub_nil))))) ?_
        have e9 : (w_c_sellByRule_92 bd) (i, uu, aa) = .inl (i + 1, (u130).1, (u130).2) := (by have s9 := hn99.symm; subst s9; have s9 := haa123.symm; subst s9; have s9 := hu130.symm; subst s9; exact ((if_neg h95).trans (if_neg h107)))
        simp only [am_wh_l e9] at k9
        exact ih (i + 1) ((u130).1) ((u130).2) (by omega) ⟨hIu130, by omega, by omega⟩ k9
      · exact T_return (am_dec tX0_sellByRule_1 22 rfl) rfl (by have e9 : (w_c_sellByRule_92 bd) (i, uu, aa) = .inr (i, uu, aa) := (by have s9 := hn99.symm; subst s9; exact ((if_neg h95).trans (if_pos h107))); simp only [am_wh_r e9] at k9; exact k9 _ _ _ rfl rfl rfl)
def c_sellByRule (uu : am_F) (aa : am_F) (bd : am_F) : am_F × am_F := (let aa1 : am_F := f_away aa; (let uu6 : am_F := (am_fold (g_c_sellByRule_6 bd) 0 (bd 0 2).toNat (uu, aa1)).1; (let aa6 : am_F := (am_fold (g_c_sellByRule_6 bd) 0 (bd 0 2).toNat (uu, aa1)).2; (let uu92 : am_F := (am_wh (w_c_sellByRule_92 bd) 13 (0, uu6, aa6)).2.1; (let aa92 : am_F := (am_wh (w_c_sellByRule_92 bd) 13 (0, uu6, aa6)).2.2; (uu92, aa92))))))
theorem mc_sellByRule {S : am_S} {d u : Nat} {w : AH} {hb sp rb rs : Nat} {po ro : AV} (hl : 109 ≤ w.length) (hp : hb = 1 ∧ sp = 21 ∨ hb = 21 ∧ sp = 1) (hr : rb = 41 ∧ rs = 46 ∨ rb = 46 ∧ rs = 41) {ee : am_F} {hh : am_F} {ss : am_F} {uu : am_F} {vv : am_F} {pp : am_F} {kk : am_F} {rr : am_F} {tt : am_F} {gg : am_F} {aa : am_F} {dd : am_F} {bd : am_F} {ga : am_F} {im : am_F}  (hU : RuI uu) (hBd : BdI bd)  (hd : 4 ≤ d) : am_Out S zX0_sellByRule d u [aR 77, aR 84, aR rb] (hfW w hb sp rb rs hb po ro ee hh ss uu vv pp kk rr tt gg aa dd bd ga im) (.inl none) (hfW w hb sp rb rs hb po ro ee hh ss ((c_sellByRule uu aa bd).1) vv pp kk rr tt gg ((c_sellByRule uu aa bd).2) dd bd ga im) := by
  have key : ∀ Q : AO → AH → Prop, Q (.inl none) (hfW w hb sp rb rs hb po ro ee hh ss ((c_sellByRule uu aa bd).1) vv pp kk rr tt gg ((c_sellByRule uu aa bd).2) dd bd ga im) → am_M S zX0_sellByRule d u [aR 77, aR 84, aR rb] (hfW w hb sp rb rs hb po ro ee hh ss uu vv pp kk rr tt gg aa dd bd ga im) Q := by
    intro Q hQ
    refine am_body rfl (by decide +kernel) rfl (am_cats_cons rfl ( am_cats_cons rfl ( am_cats_cons rfl (am_cats_nil)))) (Nat.le_of_ble_eq_true rfl) (?_ : am_T _ _ _ _ _ 0 [some (aR 77), some (aR 84), some (aR rb), none, none] [] (hfW w hb sp rb rs hb po ro ee hh ss uu vv pp kk rr tt gg aa dd bd ga im))
    have hBd9 := hBd
    obtain ⟨vb0, ⟨vb1, vb2⟩, vb3⟩ := hBd9
    refine T_aload_n (am_dec tX0_sellByRule_0 0 rfl) rfl ?_
    refine T_callV (as := []) rfl (am_dec tX0_sellByRule_0 1 rfl) lkX0_34 (show (hfW w hb sp rb rs hb po ro ee hh ss uu vv pp kk rr tt gg aa dd bd ga im)[77]? = some (cO 0 [aR 78, aR 79, aR 80, aR 81, aR 82, aI (aa 0 5)]) from (hfW_c hl 77 (by decide))) rfl rfl (Nat.le_of_ble_eq_true rfl) (by omega) (am_OutE (m_away (d := d - 1) (w := hfW w hb sp rb rs hb po ro ee hh ss uu vv pp kk rr tt gg aa dd bd ga im) (hf_le hl (by omega))   (by omega)) hf_uA hf_uA) (fun _ => ?_)
    refine T_nmH (W := fun x9 => hfW w hb sp rb rs hb po ro ee hh ss uu vv pp kk rr tt gg x9 dd bd ga im) (v := f_away aa) (fun aa1 haa1 => ?_)
    refine T_iconst 0 (am_dec tX0_sellByRule_0 2 rfl) rfl ⟨by decide, by decide⟩ ?_
    refine T_istore_n (ls' := [some (aR 77), some (aR 84), some (aR rb), some (aI 0), none]) (am_dec tX0_sellByRule_0 3 rfl) (by decide) rfl ?_
    refine L_c_sellByRule_6 hl hp hr ee hh ss vv pp kk rr tt gg dd bd ga im  hBd (by omega) _ rfl (bd 0 2).toNat 0 uu aa1 (by omega) (by omega) hU (fun uu6 aa6 huu6 haa6 hv6 => ?_)
    refine T_iconst 0 (am_dec tX0_sellByRule_1 11 rfl) rfl ⟨by decide, by decide⟩ ?_
    refine T_istore_n (ls' := [some (aR 77), some (aR 84), some (aR rb), some (aI 0), none]) (am_dec tX0_sellByRule_1 12 rfl) (by decide) rfl ?_
    refine L_c_sellByRule_92 hl hp hr ee hh ss vv pp kk rr tt gg dd bd ga im hBd  (by omega) 13 0 uu6 aa6 (by omega) ⟨hv6, by omega, by omega⟩ (fun i_92 uu92 aa92 hi_92 huu92 haa92 => ?_)
    exact (am_tr (fun (x9 : am_F × am_F) => Q (.inl none) (hfW w hb sp rb rs hb po ro ee hh ss x9.1 vv pp kk rr tt gg x9.2 dd bd ga im)) (y := (uu92, aa92)) (show (c_sellByRule uu aa bd) = (uu92, aa92) from (by have s9 := haa1.symm; subst s9; have s9 := huu6.symm; subst s9; have s9 := haa6.symm; subst s9; have s9 := hi_92.symm; subst s9; have s9 := huu92.symm; subst s9; have s9 := haa92.symm; subst s9; exact rfl)) hQ)
  exact key _ ⟨rfl, rfl⟩
