/-! refusals, put together -/
theorem mx_code0 {S : am_S} {d u : Nat} {w : AH} {hb sp rb rs : Nat} {po ro : AV} (hl : 109 ≤ w.length) (hp : hb = 1 ∧ sp = 21 ∨ hb = 21 ∧ sp = 1) (hr : rb = 41 ∧ rs = 46 ∨ rb = 46 ∧ rs = 41) {ee : am_F} {hh : am_F} {ss : am_F} {uu : am_F} {vv : am_F} {pp : am_F} {kk : am_F} {rr : am_F} {tt : am_F} {gg : am_F} {aa : am_F} {dd : am_F} {bd : am_F} {ga : am_F} {im : am_F} (cell : Int) (hN : n_code hh cell = 0)  (hd : 7 ≤ d) : am_Out S zX11_needCode d u [aR 0, aI cell] (hfW w hb sp rb rs hb po ro ee hh ss uu vv pp kk rr tt gg aa dd bd ga im) (.inl none) (hfW w hb sp rb rs hb po ro ee hh ss uu vv pp kk rr tt gg aa dd bd ga im) := by
  have key : ∀ Q : AO → AH → Prop, Q (.inl none) (hfW w hb sp rb rs hb po ro ee hh ss uu vv pp kk rr tt gg aa dd bd ga im) → am_M S zX11_needCode d u [aR 0, aI cell] (hfW w hb sp rb rs hb po ro ee hh ss uu vv pp kk rr tt gg aa dd bd ga im) Q := by
    intro Q hQ
    refine am_body rfl (by decide +kernel) rfl (am_cats_cons rfl ( am_cats_cons rfl (am_cats_nil))) (Nat.le_of_ble_eq_true rfl) (?_ : am_T _ _ _ _ _ 0 [some (aR 0), some (aI cell)] [] (hfW w hb sp rb rs hb po ro ee hh ss uu vv pp kk rr tt gg aa dd bd ga im))
    refine T_rng (i := 1) rfl (fun hr9 => ?_)
    have hr8 : -2147483648 ≤ cell ∧ cell < 2147483648 := hr9
    refine T_aload_n (am_dec tX11_needCode_0 0 rfl) rfl ?_
    refine T_iload_n (am_dec tX11_needCode_0 1 rfl) rfl ?_
    have K2 : ∀ (t2 : Int), t2 = (if 0 ≤ cell then (cell % 10) else (-1)) →  am_T S zX11_needCode d u Q 13 [none, some (aI cell)] [aI t2, aR 0] (hfW w hb sp rb rs hb po ro ee hh ss uu vv pp kk rr tt gg aa dd bd ga im) := by
      intro t2 ht2 
      refine T_iload_n (am_dec tX11_needCode_0 8 rfl) rfl ?_
      have K14 : ∀ (t14 : Int), t14 = (if 0 ≤ cell then (cell / 10) else (-1)) →  am_T S zX11_needCode d u Q 25 [none, none] [aI t14, aI t2, aR 0] (hfW w hb sp rb rs hb po ro ee hh ss uu vv pp kk rr tt gg aa dd bd ga im) := by
        intro t14 ht14 
        refine T_callV (as := [aI t2, aI t14]) rfl (am_dec tX11_needCode_0 15 rfl) lkX11_173 (show (hfW w hb sp rb rs hb po ro ee hh ss uu vv pp kk rr tt gg aa dd bd ga im)[0]? = some (cO 10 [aR hb, aR sp, aR rb, aR rs, aR 52, aR 53, aR 51, aI (ee 0 7), aI (ee 0 8), aR 54, aR 64, aR 74, aR 77, aR 83, aR 84, aR 86, aR 88, aI (ee 0 17), aR 107, aR 108]) from (hfW_c hl 0 (by decide))) rfl rfl (Nat.le_of_ble_eq_true rfl) (by omega) (mx_cell0 (d := d - 1) hl hp hr t2 t14 (by rw [ht2, ht14]; exact hN) (by omega)) (fun _ => ?_)
        exact T_return (am_dec tX11_needCode_0 16 rfl) rfl hQ
      refine T_if_ge 21 (am_dec tX11_needCode_0 9 rfl) rfl (fun h14 => ?_) (fun h14 => ?_)
      · refine T_iload_n (am_dec tX11_needCode_0 12 rfl) rfl ?_
        refine T_bipush 10 (am_dec tX11_needCode_0 13 rfl) rfl ⟨by decide, by decide⟩ ?_
        refine T_idiv (cell / 10) (am_dec tX11_needCode_0 14 rfl) (by omega) (am_td (by omega)) ⟨by omega, by omega⟩ ?_
        refine T_weak (ls' := [none, none]) (am_sub_n (am_sub_n am_sub_nil)) ?_
        exact K14 _ (if_pos h14).symm 
      · refine T_iconst (-1) (am_dec tX11_needCode_0 10 rfl) rfl ⟨by decide, by decide⟩ ?_
        refine T_goto 25 (am_dec tX11_needCode_0 11 rfl) rfl ?_
        refine T_weak (ls' := [none, none]) (am_sub_n (am_sub_n am_sub_nil)) ?_
        exact K14 _ (if_neg h14).symm 
    refine T_if_ge 9 (am_dec tX11_needCode_0 2 rfl) rfl (fun h2 => ?_) (fun h2 => ?_)
    · refine T_iload_n (am_dec tX11_needCode_0 5 rfl) rfl ?_
      refine T_bipush 10 (am_dec tX11_needCode_0 6 rfl) rfl ⟨by decide, by decide⟩ ?_
      refine T_irem (cell % 10) (am_dec tX11_needCode_0 7 rfl) (by omega) (am_tm (by omega)) ⟨by omega, by omega⟩ ?_
      refine T_weak (ls' := [none, some (aI cell)]) (am_sub_n (am_sub_s am_sub_nil)) ?_
      exact K2 _ (if_pos h2).symm 
    · refine T_iconst (-1) (am_dec tX11_needCode_0 3 rfl) rfl ⟨by decide, by decide⟩ ?_
      refine T_goto 13 (am_dec tX11_needCode_0 4 rfl) rfl ?_
      refine T_weak (ls' := [none, some (aI cell)]) (am_sub_n (am_sub_s am_sub_nil)) ?_
      exact K2 _ (if_neg h2).symm 
  exact key _ ⟨rfl, rfl⟩
def c_needCode (ee : am_F) (hh : am_F) (cell : Int) : Int × am_F := (let t2 : Int := (if 0 ≤ cell then (cell % 10) else (-1)); (let t14 : Int := (if 0 ≤ cell then (cell / 10) else (-1)); (if n_cell hh t2 t14 = 0 then (0, ee) else ((n_cell hh t2 t14), n_ref ee (n_cell hh t2 t14)))))
theorem mc_needCode {S : am_S} {d u : Nat} {w : AH} {hb sp rb rs : Nat} {po ro : AV} (hl : 109 ≤ w.length) (hp : hb = 1 ∧ sp = 21 ∨ hb = 21 ∧ sp = 1) (hr : rb = 41 ∧ rs = 46 ∨ rb = 46 ∧ rs = 41) {ee : am_F} {hh : am_F} {ss : am_F} {uu : am_F} {vv : am_F} {pp : am_F} {kk : am_F} {rr : am_F} {tt : am_F} {gg : am_F} {aa : am_F} {dd : am_F} {bd : am_F} {ga : am_F} {im : am_F} (cell : Int)  (hu : 1 ≤ u) (hd : 7 ≤ d) : am_Out S zX11_needCode d u [aR 0, aI cell] (hfW w hb sp rb rs hb po ro ee hh ss uu vv pp kk rr tt gg aa dd bd ga im) (am_on ((c_needCode ee hh cell).1)) (hfW w hb sp rb rs hb po ro ((c_needCode ee hh cell).2) hh ss uu vv pp kk rr tt gg aa dd bd ga im) := by
  have key : ∀ Q : AO → AH → Prop, Q (am_on ((c_needCode ee hh cell).1)) (hfW w hb sp rb rs hb po ro ((c_needCode ee hh cell).2) hh ss uu vv pp kk rr tt gg aa dd bd ga im) → am_M S zX11_needCode d u [aR 0, aI cell] (hfW w hb sp rb rs hb po ro ee hh ss uu vv pp kk rr tt gg aa dd bd ga im) Q := by
    intro Q hQ
    refine am_body rfl (by decide +kernel) rfl (am_cats_cons rfl ( am_cats_cons rfl (am_cats_nil))) (Nat.le_of_ble_eq_true rfl) (?_ : am_T _ _ _ _ _ 0 [some (aR 0), some (aI cell)] [] (hfW w hb sp rb rs hb po ro ee hh ss uu vv pp kk rr tt gg aa dd bd ga im))
    refine T_rng (i := 1) rfl (fun hr9 => ?_)
    have hr8 : -2147483648 ≤ cell ∧ cell < 2147483648 := hr9
    refine T_aload_n (am_dec tX11_needCode_0 0 rfl) rfl ?_
    refine T_iload_n (am_dec tX11_needCode_0 1 rfl) rfl ?_
    have K2 : ∀ (t2 : Int), t2 = (if 0 ≤ cell then (cell % 10) else (-1)) →  am_T S zX11_needCode d u Q 13 [none, some (aI cell)] [aI t2, aR 0] (hfW w hb sp rb rs hb po ro ee hh ss uu vv pp kk rr tt gg aa dd bd ga im) := by
      intro t2 ht2 
      refine T_iload_n (am_dec tX11_needCode_0 8 rfl) rfl ?_
      have K14 : ∀ (t14 : Int), t14 = (if 0 ≤ cell then (cell / 10) else (-1)) →  am_T S zX11_needCode d u Q 25 [none, none] [aI t14, aI t2, aR 0] (hfW w hb sp rb rs hb po ro ee hh ss uu vv pp kk rr tt gg aa dd bd ga im) := by
        intro t14 ht14 
        refine T_callVn (as := [aI t2, aI t14]) (code := n_cell hh t2 t14) rfl (am_dec tX11_needCode_0 15 rfl) lkX11_173 (show (hfW w hb sp rb rs hb po ro ee hh ss uu vv pp kk rr tt gg aa dd bd ga im)[0]? = some (cO 10 [aR hb, aR sp, aR rb, aR rs, aR 52, aR 53, aR 51, aI (ee 0 7), aI (ee 0 8), aR 54, aR 64, aR 74, aR 77, aR 83, aR 84, aR 86, aR 88, aI (ee 0 17), aR 107, aR 108]) from (hfW_c hl 0 (by decide))) rfl rfl (Nat.le_of_ble_eq_true rfl) (by omega) (by omega) (fun hN25 => (mx_cell0 (d := d - 1) hl hp hr t2 t14  hN25 (by omega))) (fun hN25 => (x_cellX (d := d - 1) hl hp hr t2 t14  hN25 (by omega) (by omega))) (fun hN25 => ?_) (fun hN25 => ?_)
        · exact (am_tr (fun (x9 : Int × am_F) => Q (am_on (x9.1)) (hfW w hb sp rb rs hb po ro x9.2 hh ss uu vv pp kk rr tt gg aa dd bd ga im)) (y := ((n_cell hh t2 t14), n_ref ee (n_cell hh t2 t14))) (show (c_needCode ee hh cell) = ((n_cell hh t2 t14), n_ref ee (n_cell hh t2 t14)) from (by have s9 := ht2.symm; subst s9; have s9 := ht14.symm; subst s9; exact (if_neg hN25))) hQ)
        have hk25 := n_cell_0 hN25
        exact T_return (am_dec tX11_needCode_0 16 rfl) rfl (am_tr (fun (x9 : Int × am_F) => Q (am_on (x9.1)) (hfW w hb sp rb rs hb po ro x9.2 hh ss uu vv pp kk rr tt gg aa dd bd ga im)) (y := (0, ee)) (show (c_needCode ee hh cell) = (0, ee) from (by have s9 := ht2.symm; subst s9; have s9 := ht14.symm; subst s9; exact (if_pos hN25))) hQ)
      refine T_if_ge 21 (am_dec tX11_needCode_0 9 rfl) rfl (fun h14 => ?_) (fun h14 => ?_)
      · refine T_iload_n (am_dec tX11_needCode_0 12 rfl) rfl ?_
        refine T_bipush 10 (am_dec tX11_needCode_0 13 rfl) rfl ⟨by decide, by decide⟩ ?_
        refine T_idiv (cell / 10) (am_dec tX11_needCode_0 14 rfl) (by omega) (am_td (by omega)) ⟨by omega, by omega⟩ ?_
        refine T_weak (ls' := [none, none]) (am_sub_n (am_sub_n am_sub_nil)) ?_
        exact K14 _ (if_pos h14).symm 
      · refine T_iconst (-1) (am_dec tX11_needCode_0 10 rfl) rfl ⟨by decide, by decide⟩ ?_
        refine T_goto 25 (am_dec tX11_needCode_0 11 rfl) rfl ?_
        refine T_weak (ls' := [none, none]) (am_sub_n (am_sub_n am_sub_nil)) ?_
        exact K14 _ (if_neg h14).symm 
    refine T_if_ge 9 (am_dec tX11_needCode_0 2 rfl) rfl (fun h2 => ?_) (fun h2 => ?_)
    · refine T_iload_n (am_dec tX11_needCode_0 5 rfl) rfl ?_
      refine T_bipush 10 (am_dec tX11_needCode_0 6 rfl) rfl ⟨by decide, by decide⟩ ?_
      refine T_irem (cell % 10) (am_dec tX11_needCode_0 7 rfl) (by omega) (am_tm (by omega)) ⟨by omega, by omega⟩ ?_
      refine T_weak (ls' := [none, some (aI cell)]) (am_sub_n (am_sub_s am_sub_nil)) ?_
      exact K2 _ (if_pos h2).symm 
    · refine T_iconst (-1) (am_dec tX11_needCode_0 3 rfl) rfl ⟨by decide, by decide⟩ ?_
      refine T_goto 13 (am_dec tX11_needCode_0 4 rfl) rfl ?_
      refine T_weak (ls' := [none, some (aI cell)]) (am_sub_n (am_sub_s am_sub_nil)) ?_
      exact K2 _ (if_neg h2).symm 
  exact key _ ⟨rfl, rfl⟩
theorem mx_step0 {S : am_S} {d u : Nat} {w : AH} {hb sp rb rs : Nat} {po ro : AV} (hl : 109 ≤ w.length) (hp : hb = 1 ∧ sp = 21 ∨ hb = 21 ∧ sp = 1) (hr : rb = 41 ∧ rs = 46 ∨ rb = 46 ∧ rs = 41) {ee : am_F} {hh : am_F} {ss : am_F} {uu : am_F} {vv : am_F} {pp : am_F} {kk : am_F} {rr : am_F} {tt : am_F} {gg : am_F} {aa : am_F} {dd : am_F} {bd : am_F} {ga : am_F} {im : am_F} (s : Int) (hN : n_step s = 0)  (hd : 7 ≤ d) : am_Out S zX11_needStep d u [aR 0, aI s] (hfW w hb sp rb rs hb po ro ee hh ss uu vv pp kk rr tt gg aa dd bd ga im) (.inl none) (hfW w hb sp rb rs hb po ro ee hh ss uu vv pp kk rr tt gg aa dd bd ga im) := by
  have key : ∀ Q : AO → AH → Prop, Q (.inl none) (hfW w hb sp rb rs hb po ro ee hh ss uu vv pp kk rr tt gg aa dd bd ga im) → am_M S zX11_needStep d u [aR 0, aI s] (hfW w hb sp rb rs hb po ro ee hh ss uu vv pp kk rr tt gg aa dd bd ga im) Q := by
    intro Q hQ
    refine am_body rfl (by decide +kernel) rfl (am_cats_cons rfl ( am_cats_cons rfl (am_cats_nil))) (Nat.le_of_ble_eq_true rfl) (?_ : am_T _ _ _ _ _ 0 [some (aR 0), some (aI s)] [] (hfW w hb sp rb rs hb po ro ee hh ss uu vv pp kk rr tt gg aa dd bd ga im))
    refine T_aload_n (am_dec tX11_needStep_0 0 rfl) rfl ?_
    refine T_iload_n (am_dec tX11_needStep_0 1 rfl) rfl ?_
    refine T_iconst 0 (am_dec tX11_needStep_0 2 rfl) rfl ⟨by decide, by decide⟩ ?_
    refine T_bipush 39 (am_dec tX11_needStep_0 3 rfl) rfl ⟨by decide, by decide⟩ ?_
    refine T_callV (as := [aI s, aI 0, aI 39]) rfl (am_dec tX11_needStep_0 4 rfl) lkX11_117 (show (hfW w hb sp rb rs hb po ro ee hh ss uu vv pp kk rr tt gg aa dd bd ga im)[0]? = some (cO 10 [aR hb, aR sp, aR rb, aR rs, aR 52, aR 53, aR 51, aI (ee 0 7), aI (ee 0 8), aR 54, aR 64, aR 74, aR 77, aR 83, aR 84, aR 86, aR 88, aI (ee 0 17), aR 107, aR 108]) from (hfW_c hl 0 (by decide))) rfl rfl (Nat.le_of_ble_eq_true rfl) (by omega) (mx_range0 (d := d - 1) hl hp hr s 0 39 hN (by omega)) (fun _ => ?_)
    exact T_return (am_dec tX11_needStep_0 5 rfl) rfl hQ
  exact key _ ⟨rfl, rfl⟩
def c_needStep (ee : am_F) (s : Int) : Int × am_F := (if n_range s 0 39 = 0 then (0, ee) else ((n_range s 0 39), n_ref ee (n_range s 0 39)))
theorem mc_needStep {S : am_S} {d u : Nat} {w : AH} {hb sp rb rs : Nat} {po ro : AV} (hl : 109 ≤ w.length) (hp : hb = 1 ∧ sp = 21 ∨ hb = 21 ∧ sp = 1) (hr : rb = 41 ∧ rs = 46 ∨ rb = 46 ∧ rs = 41) {ee : am_F} {hh : am_F} {ss : am_F} {uu : am_F} {vv : am_F} {pp : am_F} {kk : am_F} {rr : am_F} {tt : am_F} {gg : am_F} {aa : am_F} {dd : am_F} {bd : am_F} {ga : am_F} {im : am_F} (s : Int)  (hu : 1 ≤ u) (hd : 7 ≤ d) : am_Out S zX11_needStep d u [aR 0, aI s] (hfW w hb sp rb rs hb po ro ee hh ss uu vv pp kk rr tt gg aa dd bd ga im) (am_on ((c_needStep ee s).1)) (hfW w hb sp rb rs hb po ro ((c_needStep ee s).2) hh ss uu vv pp kk rr tt gg aa dd bd ga im) := by
  have key : ∀ Q : AO → AH → Prop, Q (am_on ((c_needStep ee s).1)) (hfW w hb sp rb rs hb po ro ((c_needStep ee s).2) hh ss uu vv pp kk rr tt gg aa dd bd ga im) → am_M S zX11_needStep d u [aR 0, aI s] (hfW w hb sp rb rs hb po ro ee hh ss uu vv pp kk rr tt gg aa dd bd ga im) Q := by
    intro Q hQ
    refine am_body rfl (by decide +kernel) rfl (am_cats_cons rfl ( am_cats_cons rfl (am_cats_nil))) (Nat.le_of_ble_eq_true rfl) (?_ : am_T _ _ _ _ _ 0 [some (aR 0), some (aI s)] [] (hfW w hb sp rb rs hb po ro ee hh ss uu vv pp kk rr tt gg aa dd bd ga im))
    refine T_aload_n (am_dec tX11_needStep_0 0 rfl) rfl ?_
    refine T_iload_n (am_dec tX11_needStep_0 1 rfl) rfl ?_
    refine T_iconst 0 (am_dec tX11_needStep_0 2 rfl) rfl ⟨by decide, by decide⟩ ?_
    refine T_bipush 39 (am_dec tX11_needStep_0 3 rfl) rfl ⟨by decide, by decide⟩ ?_
    refine T_callVn (as := [aI s, aI 0, aI 39]) (code := n_range s 0 39) rfl (am_dec tX11_needStep_0 4 rfl) lkX11_117 (show (hfW w hb sp rb rs hb po ro ee hh ss uu vv pp kk rr tt gg aa dd bd ga im)[0]? = some (cO 10 [aR hb, aR sp, aR rb, aR rs, aR 52, aR 53, aR 51, aI (ee 0 7), aI (ee 0 8), aR 54, aR 64, aR 74, aR 77, aR 83, aR 84, aR 86, aR 88, aI (ee 0 17), aR 107, aR 108]) from (hfW_c hl 0 (by decide))) rfl rfl (Nat.le_of_ble_eq_true rfl) (by omega) (by omega) (fun hN5 => (mx_range0 (d := d - 1) hl hp hr s 0 39  hN5 (by omega))) (fun hN5 => (x_rangeX (d := d - 1) hl hp hr s 0 39  hN5 (by omega) (by omega))) (fun hN5 => ?_) (fun hN5 => ?_)
    · exact (am_tr (fun (x9 : Int × am_F) => Q (am_on (x9.1)) (hfW w hb sp rb rs hb po ro x9.2 hh ss uu vv pp kk rr tt gg aa dd bd ga im)) (y := ((n_range s 0 39), n_ref ee (n_range s 0 39))) (show (c_needStep ee s) = ((n_range s 0 39), n_ref ee (n_range s 0 39)) from (if_neg hN5)) hQ)
    have hk5 := n_range_0 hN5
    exact T_return (am_dec tX11_needStep_0 5 rfl) rfl (am_tr (fun (x9 : Int × am_F) => Q (am_on (x9.1)) (hfW w hb sp rb rs hb po ro x9.2 hh ss uu vv pp kk rr tt gg aa dd bd ga im)) (y := (0, ee)) (show (c_needStep ee s) = (0, ee) from (if_pos hN5)) hQ)
  exact key _ ⟨rfl, rfl⟩
theorem mx_seeds0 {S : am_S} {d u : Nat} {w : AH} {hb sp rb rs : Nat} {po ro : AV} (hl : 109 ≤ w.length) (hp : hb = 1 ∧ sp = 21 ∨ hb = 21 ∧ sp = 1) (hr : rb = 41 ∧ rs = 46 ∨ rb = 46 ∧ rs = 41) {ee : am_F} {hh : am_F} {ss : am_F} {uu : am_F} {vv : am_F} {pp : am_F} {kk : am_F} {rr : am_F} {tt : am_F} {gg : am_F} {aa : am_F} {dd : am_F} {bd : am_F} {ga : am_F} {im : am_F} (qq : Int) (mn : Int) (hN : n_seeds qq mn = 0)  (hd : 7 ≤ d) : am_Out S zX11_needSeeds d u [aR 0, aI qq, aI mn] (hfW w hb sp rb rs hb po ro ee hh ss uu vv pp kk rr tt gg aa dd bd ga im) (.inl none) (hfW w hb sp rb rs hb po ro ee hh ss uu vv pp kk rr tt gg aa dd bd ga im) := by
  have key : ∀ Q : AO → AH → Prop, Q (.inl none) (hfW w hb sp rb rs hb po ro ee hh ss uu vv pp kk rr tt gg aa dd bd ga im) → am_M S zX11_needSeeds d u [aR 0, aI qq, aI mn] (hfW w hb sp rb rs hb po ro ee hh ss uu vv pp kk rr tt gg aa dd bd ga im) Q := by
    intro Q hQ
    refine am_body rfl (by decide +kernel) rfl (am_cats_cons rfl ( am_cats_cons rfl ( am_cats_cons rfl (am_cats_nil)))) (Nat.le_of_ble_eq_true rfl) (?_ : am_T _ _ _ _ _ 0 [some (aR 0), some (aI qq), some (aI mn)] [] (hfW w hb sp rb rs hb po ro ee hh ss uu vv pp kk rr tt gg aa dd bd ga im))
    have hA9 : n_range qq 0 8 = 0 := by
      by_cases h : n_range qq 0 8 = 0
      · exact h
      · unfold n_seeds at hN; rw [if_neg h] at hN; exact absurd hN h
    have hB9 : n_range mn 1 40 = 0 := by unfold n_seeds at hN; rw [if_pos hA9] at hN; exact hN
    refine T_aload_n (am_dec tX11_needSeeds_0 0 rfl) rfl ?_
    refine T_iload_n (am_dec tX11_needSeeds_0 1 rfl) rfl ?_
    refine T_iconst 0 (am_dec tX11_needSeeds_0 2 rfl) rfl ⟨by decide, by decide⟩ ?_
    refine T_bipush 8 (am_dec tX11_needSeeds_0 3 rfl) rfl ⟨by decide, by decide⟩ ?_
    refine T_callV (as := [aI qq, aI 0, aI 8]) rfl (am_dec tX11_needSeeds_0 4 rfl) lkX11_117 (show (hfW w hb sp rb rs hb po ro ee hh ss uu vv pp kk rr tt gg aa dd bd ga im)[0]? = some (cO 10 [aR hb, aR sp, aR rb, aR rs, aR 52, aR 53, aR 51, aI (ee 0 7), aI (ee 0 8), aR 54, aR 64, aR 74, aR 77, aR 83, aR 84, aR 86, aR 88, aI (ee 0 17), aR 107, aR 108]) from (hfW_c hl 0 (by decide))) rfl rfl (Nat.le_of_ble_eq_true rfl) (by omega) (mx_range0 (d := d - 1) hl hp hr qq 0 8 hA9 (by omega)) (fun _ => ?_)
    refine T_aload_n (am_dec tX11_needSeeds_0 5 rfl) rfl ?_
    refine T_iload_n (am_dec tX11_needSeeds_0 6 rfl) rfl ?_
    refine T_iconst 1 (am_dec tX11_needSeeds_0 7 rfl) rfl ⟨by decide, by decide⟩ ?_
    refine T_bipush 40 (am_dec tX11_needSeeds_0 8 rfl) rfl ⟨by decide, by decide⟩ ?_
    refine T_callV (as := [aI mn, aI 1, aI 40]) rfl (am_dec tX11_needSeeds_0 9 rfl) lkX11_117 (show (hfW w hb sp rb rs hb po ro ee hh ss uu vv pp kk rr tt gg aa dd bd ga im)[0]? = some (cO 10 [aR hb, aR sp, aR rb, aR rs, aR 52, aR 53, aR 51, aI (ee 0 7), aI (ee 0 8), aR 54, aR 64, aR 74, aR 77, aR 83, aR 84, aR 86, aR 88, aI (ee 0 17), aR 107, aR 108]) from (hfW_c hl 0 (by decide))) rfl rfl (Nat.le_of_ble_eq_true rfl) (by omega) (mx_range0 (d := d - 1) hl hp hr mn 1 40 hB9 (by omega)) (fun _ => ?_)
    exact T_return (am_dec tX11_needSeeds_0 10 rfl) rfl hQ
  exact key _ ⟨rfl, rfl⟩
def c_needSeeds (ee : am_F) (qq : Int) (mn : Int) : Int × am_F := (if n_range qq 0 8 = 0 then (if n_range mn 1 40 = 0 then (0, ee) else ((n_range mn 1 40), n_ref ee (n_range mn 1 40))) else ((n_range qq 0 8), n_ref ee (n_range qq 0 8)))
theorem mc_needSeeds {S : am_S} {d u : Nat} {w : AH} {hb sp rb rs : Nat} {po ro : AV} (hl : 109 ≤ w.length) (hp : hb = 1 ∧ sp = 21 ∨ hb = 21 ∧ sp = 1) (hr : rb = 41 ∧ rs = 46 ∨ rb = 46 ∧ rs = 41) {ee : am_F} {hh : am_F} {ss : am_F} {uu : am_F} {vv : am_F} {pp : am_F} {kk : am_F} {rr : am_F} {tt : am_F} {gg : am_F} {aa : am_F} {dd : am_F} {bd : am_F} {ga : am_F} {im : am_F} (qq : Int) (mn : Int)  (hu : 1 ≤ u) (hd : 7 ≤ d) : am_Out S zX11_needSeeds d u [aR 0, aI qq, aI mn] (hfW w hb sp rb rs hb po ro ee hh ss uu vv pp kk rr tt gg aa dd bd ga im) (am_on ((c_needSeeds ee qq mn).1)) (hfW w hb sp rb rs hb po ro ((c_needSeeds ee qq mn).2) hh ss uu vv pp kk rr tt gg aa dd bd ga im) := by
  have key : ∀ Q : AO → AH → Prop, Q (am_on ((c_needSeeds ee qq mn).1)) (hfW w hb sp rb rs hb po ro ((c_needSeeds ee qq mn).2) hh ss uu vv pp kk rr tt gg aa dd bd ga im) → am_M S zX11_needSeeds d u [aR 0, aI qq, aI mn] (hfW w hb sp rb rs hb po ro ee hh ss uu vv pp kk rr tt gg aa dd bd ga im) Q := by
    intro Q hQ
    refine am_body rfl (by decide +kernel) rfl (am_cats_cons rfl ( am_cats_cons rfl ( am_cats_cons rfl (am_cats_nil)))) (Nat.le_of_ble_eq_true rfl) (?_ : am_T _ _ _ _ _ 0 [some (aR 0), some (aI qq), some (aI mn)] [] (hfW w hb sp rb rs hb po ro ee hh ss uu vv pp kk rr tt gg aa dd bd ga im))
    refine T_aload_n (am_dec tX11_needSeeds_0 0 rfl) rfl ?_
    refine T_iload_n (am_dec tX11_needSeeds_0 1 rfl) rfl ?_
    refine T_iconst 0 (am_dec tX11_needSeeds_0 2 rfl) rfl ⟨by decide, by decide⟩ ?_
    refine T_bipush 8 (am_dec tX11_needSeeds_0 3 rfl) rfl ⟨by decide, by decide⟩ ?_
    refine T_callVn (as := [aI qq, aI 0, aI 8]) (code := n_range qq 0 8) rfl (am_dec tX11_needSeeds_0 4 rfl) lkX11_117 (show (hfW w hb sp rb rs hb po ro ee hh ss uu vv pp kk rr tt gg aa dd bd ga im)[0]? = some (cO 10 [aR hb, aR sp, aR rb, aR rs, aR 52, aR 53, aR 51, aI (ee 0 7), aI (ee 0 8), aR 54, aR 64, aR 74, aR 77, aR 83, aR 84, aR 86, aR 88, aI (ee 0 17), aR 107, aR 108]) from (hfW_c hl 0 (by decide))) rfl rfl (Nat.le_of_ble_eq_true rfl) (by omega) (by omega) (fun hN5 => (mx_range0 (d := d - 1) hl hp hr qq 0 8  hN5 (by omega))) (fun hN5 => (x_rangeX (d := d - 1) hl hp hr qq 0 8  hN5 (by omega) (by omega))) (fun hN5 => ?_) (fun hN5 => ?_)
    · exact (am_tr (fun (x9 : Int × am_F) => Q (am_on (x9.1)) (hfW w hb sp rb rs hb po ro x9.2 hh ss uu vv pp kk rr tt gg aa dd bd ga im)) (y := ((n_range qq 0 8), n_ref ee (n_range qq 0 8))) (show (c_needSeeds ee qq mn) = ((n_range qq 0 8), n_ref ee (n_range qq 0 8)) from (if_neg hN5)) hQ)
    have hk5 := n_range_0 hN5
    refine T_aload_n (am_dec tX11_needSeeds_0 5 rfl) rfl ?_
    refine T_iload_n (am_dec tX11_needSeeds_0 6 rfl) rfl ?_
    refine T_iconst 1 (am_dec tX11_needSeeds_0 7 rfl) rfl ⟨by decide, by decide⟩ ?_
    refine T_bipush 40 (am_dec tX11_needSeeds_0 8 rfl) rfl ⟨by decide, by decide⟩ ?_
    refine T_callVn (as := [aI mn, aI 1, aI 40]) (code := n_range mn 1 40) rfl (am_dec tX11_needSeeds_0 9 rfl) lkX11_117 (show (hfW w hb sp rb rs hb po ro ee hh ss uu vv pp kk rr tt gg aa dd bd ga im)[0]? = some (cO 10 [aR hb, aR sp, aR rb, aR rs, aR 52, aR 53, aR 51, aI (ee 0 7), aI (ee 0 8), aR 54, aR 64, aR 74, aR 77, aR 83, aR 84, aR 86, aR 88, aI (ee 0 17), aR 107, aR 108]) from (hfW_c hl 0 (by decide))) rfl rfl (Nat.le_of_ble_eq_true rfl) (by omega) (by omega) (fun hN13 => (mx_range0 (d := d - 1) hl hp hr mn 1 40  hN13 (by omega))) (fun hN13 => (x_rangeX (d := d - 1) hl hp hr mn 1 40  hN13 (by omega) (by omega))) (fun hN13 => ?_) (fun hN13 => ?_)
    · exact (am_tr (fun (x9 : Int × am_F) => Q (am_on (x9.1)) (hfW w hb sp rb rs hb po ro x9.2 hh ss uu vv pp kk rr tt gg aa dd bd ga im)) (y := ((n_range mn 1 40), n_ref ee (n_range mn 1 40))) (show (c_needSeeds ee qq mn) = ((n_range mn 1 40), n_ref ee (n_range mn 1 40)) from ((if_pos hN5).trans (if_neg hN13))) hQ)
    have hk13 := n_range_0 hN13
    exact T_return (am_dec tX11_needSeeds_0 10 rfl) rfl (am_tr (fun (x9 : Int × am_F) => Q (am_on (x9.1)) (hfW w hb sp rb rs hb po ro x9.2 hh ss uu vv pp kk rr tt gg aa dd bd ga im)) (y := (0, ee)) (show (c_needSeeds ee qq mn) = (0, ee) from ((if_pos hN5).trans (if_pos hN13))) hQ)
  exact key _ ⟨rfl, rfl⟩
theorem mx_two0 {S : am_S} {d u : Nat} {w : AH} {hb sp rb rs : Nat} {po ro : AV} (hl : 109 ≤ w.length) (hp : hb = 1 ∧ sp = 21 ∨ hb = 21 ∧ sp = 1) (hr : rb = 41 ∧ rs = 46 ∨ rb = 46 ∧ rs = 41) {tb tn : Nat} {most many : Int} {tf : Nat → Int} {ee : am_F} {hh : am_F} {ss : am_F} {uu : am_F} {vv : am_F} {pp : am_F} {kk : am_F} {rr : am_F} {tt : am_F} {gg : am_F} {aa : am_F} {dd : am_F} {bd : am_F} {ga : am_F} {im : am_F} (a : Int) (b : Int) (ht : (hfW w hb sp rb rs hb po ro ee hh ss uu vv pp kk rr tt gg aa dd bd ga im)[tb]? = some (cO 9 [aI most, aR tn, aI many])) (hn : (hfW w hb sp rb rs hb po ro ee hh ss uu vv pp kk rr tt gg aa dd bd ga im)[tn]? = some (cP 0 48 tf)) (hm : many ≤ 12) (hN : n_two many a b = 0)  (hd : 7 ≤ d) : am_Out S zX11_needTwo d u [aR 0, aR tb, aI a, aI b] (hfW w hb sp rb rs hb po ro ee hh ss uu vv pp kk rr tt gg aa dd bd ga im) (.inl none) (hfW w hb sp rb rs hb po ro ee hh ss uu vv pp kk rr tt gg aa dd bd ga im) := by
  have key : ∀ Q : AO → AH → Prop, Q (.inl none) (hfW w hb sp rb rs hb po ro ee hh ss uu vv pp kk rr tt gg aa dd bd ga im) → am_M S zX11_needTwo d u [aR 0, aR tb, aI a, aI b] (hfW w hb sp rb rs hb po ro ee hh ss uu vv pp kk rr tt gg aa dd bd ga im) Q := by
    intro Q hQ
    refine am_body rfl (by decide +kernel) rfl (am_cats_cons rfl ( am_cats_cons rfl ( am_cats_cons rfl ( am_cats_cons rfl (am_cats_nil))))) (Nat.le_of_ble_eq_true rfl) (?_ : am_T _ _ _ _ _ 0 [some (aR 0), some (aR tb), some (aI a), some (aI b)] [] (hfW w hb sp rb rs hb po ro ee hh ss uu vv pp kk rr tt gg aa dd bd ga im))
    have hk := n_two_0 hN
    have hA9 : n_row many a = 0 := if_pos hk.1
    have hB9 : n_row many b = 0 := if_pos hk.2.1
    refine T_aload_n (am_dec tX11_needTwo_0 0 rfl) rfl ?_
    refine T_aload_n (am_dec tX11_needTwo_0 1 rfl) rfl ?_
    refine T_iload_n (am_dec tX11_needTwo_0 2 rfl) rfl ?_
    refine T_callV (as := [aR tb, aI a]) rfl (am_dec tX11_needTwo_0 3 rfl) lkX11_190 (show (hfW w hb sp rb rs hb po ro ee hh ss uu vv pp kk rr tt gg aa dd bd ga im)[0]? = some (cO 10 [aR hb, aR sp, aR rb, aR rs, aR 52, aR 53, aR 51, aI (ee 0 7), aI (ee 0 8), aR 54, aR 64, aR 74, aR 77, aR 83, aR 84, aR 86, aR 88, aI (ee 0 17), aR 107, aR 108]) from (hfW_c hl 0 (by decide))) rfl rfl (Nat.le_of_ble_eq_true rfl) (by omega) (mx_row0 (d := d - 1) hl hp hr a ht hn hm hA9 (by omega)) (fun _ => ?_)
    refine T_aload_n (am_dec tX11_needTwo_0 4 rfl) rfl ?_
    refine T_aload_n (am_dec tX11_needTwo_0 5 rfl) rfl ?_
    refine T_iload_n (am_dec tX11_needTwo_0 6 rfl) rfl ?_
    refine T_callV (as := [aR tb, aI b]) rfl (am_dec tX11_needTwo_0 7 rfl) lkX11_190 (show (hfW w hb sp rb rs hb po ro ee hh ss uu vv pp kk rr tt gg aa dd bd ga im)[0]? = some (cO 10 [aR hb, aR sp, aR rb, aR rs, aR 52, aR 53, aR 51, aI (ee 0 7), aI (ee 0 8), aR 54, aR 64, aR 74, aR 77, aR 83, aR 84, aR 86, aR 88, aI (ee 0 17), aR 107, aR 108]) from (hfW_c hl 0 (by decide))) rfl rfl (Nat.le_of_ble_eq_true rfl) (by omega) (mx_row0 (d := d - 1) hl hp hr b ht hn hm hB9 (by omega)) (fun _ => ?_)
    refine T_iload_n (am_dec tX11_needTwo_0 8 rfl) rfl ?_
    refine T_iload_n (am_dec tX11_needTwo_0 9 rfl) rfl ?_
    refine T_icmp_ne 35 (am_dec tX11_needTwo_0 10 rfl) rfl (fun h14 => ?_) (fun h14 => by exfalso; exact hk.2.2 (by omega))
    exact T_return (am_dec tX11_needTwo_0 23 rfl) rfl hQ
  exact key _ ⟨rfl, rfl⟩
def c_needTwo (ee : am_F) (a : Int) (b : Int) (many : Int) : Int × am_F := (if n_row many a = 0 then (if n_row many b = 0 then (if a = b then (3, (am_put ee 2 2 (am_w32 ((ee 2 2) + 1)))) else (0, ee)) else ((n_row many b), n_ref ee (n_row many b))) else ((n_row many a), n_ref ee (n_row many a)))
theorem mc_needTwo {S : am_S} {d u : Nat} {w : AH} {hb sp rb rs : Nat} {po ro : AV} (hl : 109 ≤ w.length) (hp : hb = 1 ∧ sp = 21 ∨ hb = 21 ∧ sp = 1) (hr : rb = 41 ∧ rs = 46 ∨ rb = 46 ∧ rs = 41) {tb tn : Nat} {most : Int} {tf : Nat → Int} {ee : am_F} {hh : am_F} {ss : am_F} {uu : am_F} {vv : am_F} {pp : am_F} {kk : am_F} {rr : am_F} {tt : am_F} {gg : am_F} {aa : am_F} {dd : am_F} {bd : am_F} {ga : am_F} {im : am_F} (a : Int) (b : Int) (many : Int) (ht : (hfW w hb sp rb rs hb po ro ee hh ss uu vv pp kk rr tt gg aa dd bd ga im)[tb]? = some (cO 9 [aI most, aR tn, aI many])) (hn : (hfW w hb sp rb rs hb po ro ee hh ss uu vv pp kk rr tt gg aa dd bd ga im)[tn]? = some (cP 0 48 tf)) (hm : many ≤ 12) (hu : 1 ≤ u) (hd : 7 ≤ d) : am_Out S zX11_needTwo d u [aR 0, aR tb, aI a, aI b] (hfW w hb sp rb rs hb po ro ee hh ss uu vv pp kk rr tt gg aa dd bd ga im) (am_on ((c_needTwo ee a b many).1)) (hfW w hb sp rb rs hb po ro ((c_needTwo ee a b many).2) hh ss uu vv pp kk rr tt gg aa dd bd ga im) := by
  have key : ∀ Q : AO → AH → Prop, Q (am_on ((c_needTwo ee a b many).1)) (hfW w hb sp rb rs hb po ro ((c_needTwo ee a b many).2) hh ss uu vv pp kk rr tt gg aa dd bd ga im) → am_M S zX11_needTwo d u [aR 0, aR tb, aI a, aI b] (hfW w hb sp rb rs hb po ro ee hh ss uu vv pp kk rr tt gg aa dd bd ga im) Q := by
    intro Q hQ
    refine am_body rfl (by decide +kernel) rfl (am_cats_cons rfl ( am_cats_cons rfl ( am_cats_cons rfl ( am_cats_cons rfl (am_cats_nil))))) (Nat.le_of_ble_eq_true rfl) (?_ : am_T _ _ _ _ _ 0 [some (aR 0), some (aR tb), some (aI a), some (aI b)] [] (hfW w hb sp rb rs hb po ro ee hh ss uu vv pp kk rr tt gg aa dd bd ga im))
    refine T_aload_n (am_dec tX11_needTwo_0 0 rfl) rfl ?_
    refine T_aload_n (am_dec tX11_needTwo_0 1 rfl) rfl ?_
    refine T_iload_n (am_dec tX11_needTwo_0 2 rfl) rfl ?_
    refine T_callVn (as := [aR tb, aI a]) (code := n_row many a) rfl (am_dec tX11_needTwo_0 3 rfl) lkX11_190 (show (hfW w hb sp rb rs hb po ro ee hh ss uu vv pp kk rr tt gg aa dd bd ga im)[0]? = some (cO 10 [aR hb, aR sp, aR rb, aR rs, aR 52, aR 53, aR 51, aI (ee 0 7), aI (ee 0 8), aR 54, aR 64, aR 74, aR 77, aR 83, aR 84, aR 86, aR 88, aI (ee 0 17), aR 107, aR 108]) from (hfW_c hl 0 (by decide))) rfl rfl (Nat.le_of_ble_eq_true rfl) (by omega) (by omega) (fun hN3 => (mx_row0 (d := d - 1) hl hp hr a ht hn hm hN3 (by omega))) (fun hN3 => (x_rowX (d := d - 1) hl hp hr a ht hn hm hN3 (by omega) (by omega))) (fun hN3 => ?_) (fun hN3 => ?_)
    · exact (am_tr (fun (x9 : Int × am_F) => Q (am_on (x9.1)) (hfW w hb sp rb rs hb po ro x9.2 hh ss uu vv pp kk rr tt gg aa dd bd ga im)) (y := ((n_row many a), n_ref ee (n_row many a))) (show (c_needTwo ee a b many) = ((n_row many a), n_ref ee (n_row many a)) from (if_neg hN3)) hQ)
    refine T_aload_n (am_dec tX11_needTwo_0 4 rfl) rfl ?_
    refine T_aload_n (am_dec tX11_needTwo_0 5 rfl) rfl ?_
    refine T_iload_n (am_dec tX11_needTwo_0 6 rfl) rfl ?_
    refine T_callVn (as := [aR tb, aI b]) (code := n_row many b) rfl (am_dec tX11_needTwo_0 7 rfl) lkX11_190 (show (hfW w hb sp rb rs hb po ro ee hh ss uu vv pp kk rr tt gg aa dd bd ga im)[0]? = some (cO 10 [aR hb, aR sp, aR rb, aR rs, aR 52, aR 53, aR 51, aI (ee 0 7), aI (ee 0 8), aR 54, aR 64, aR 74, aR 77, aR 83, aR 84, aR 86, aR 88, aI (ee 0 17), aR 107, aR 108]) from (hfW_c hl 0 (by decide))) rfl rfl (Nat.le_of_ble_eq_true rfl) (by omega) (by omega) (fun hN9 => (mx_row0 (d := d - 1) hl hp hr b ht hn hm hN9 (by omega))) (fun hN9 => (x_rowX (d := d - 1) hl hp hr b ht hn hm hN9 (by omega) (by omega))) (fun hN9 => ?_) (fun hN9 => ?_)
    · exact (am_tr (fun (x9 : Int × am_F) => Q (am_on (x9.1)) (hfW w hb sp rb rs hb po ro x9.2 hh ss uu vv pp kk rr tt gg aa dd bd ga im)) (y := ((n_row many b), n_ref ee (n_row many b))) (show (c_needTwo ee a b many) = ((n_row many b), n_ref ee (n_row many b)) from ((if_pos hN3).trans (if_neg hN9))) hQ)
    refine T_iload_n (am_dec tX11_needTwo_0 8 rfl) rfl ?_
    refine T_iload_n (am_dec tX11_needTwo_0 9 rfl) rfl ?_
    refine T_icmp_ne 35 (am_dec tX11_needTwo_0 10 rfl) rfl (fun h14 => ?_) (fun h14 => ?_)
    · exact T_return (am_dec tX11_needTwo_0 23 rfl) rfl (am_tr (fun (x9 : Int × am_F) => Q (am_on (x9.1)) (hfW w hb sp rb rs hb po ro x9.2 hh ss uu vv pp kk rr tt gg aa dd bd ga im)) (y := (0, ee)) (show (c_needTwo ee a b many) = (0, ee) from ((if_pos hN3).trans ((if_pos hN9).trans (if_neg h14)))) hQ)
    · refine T_aload_n (am_dec tX11_needTwo_0 11 rfl) rfl ?_
      refine T_getfield 10 18 (am_dec tX11_needTwo_0 12 rfl) flX11_105_10 (show (hfW w hb sp rb rs hb po ro ee hh ss uu vv pp kk rr tt gg aa dd bd ga im)[0]? = some (cO 10 [aR hb, aR sp, aR rb, aR rs, aR 52, aR 53, aR 51, aI (ee 0 7), aI (ee 0 8), aR 54, aR 64, aR 74, aR 77, aR 83, aR 84, aR 86, aR 88, aI (ee 0 17), aR 107, aR 108]) from (hfW_c hl 0 (by decide))) rfl ?_
      refine T_iconst 2 (am_dec tX11_needTwo_0 13 rfl) rfl ⟨by decide, by decide⟩ ?_
      refine T_dup2 (am_dec tX11_needTwo_0 14 rfl) rfl rfl ?_
      refine T_ialoadE (x := ee 2 2) (am_dec tX11_needTwo_0 15 rfl) (show (hfW w hb sp rb rs hb po ro ee hh ss uu vv pp kk rr tt gg aa dd bd ga im)[107]? = some (cP 0 3 (ee 2)) from (hfW_c hl 107 (by decide))) (by omega) (by omega) rfl ?_
      refine T_iconst 1 (am_dec tX11_needTwo_0 16 rfl) rfl ⟨by decide, by decide⟩ ?_
      refine T_iaddW (am_w32 ((ee 2 2) + 1)) (am_dec tX11_needTwo_0 17 rfl) (am_w32e _).symm (am_w32r _) ?_
      refine T_iastore (am_dec tX11_needTwo_0 18 rfl) (show (hfW w hb sp rb rs hb po ro ee hh ss uu vv pp kk rr tt gg aa dd bd ga im)[107]? = some (cP 0 3 (ee 2)) from (hfW_c hl 107 (by decide))) (by omega) (by omega) ?_
      refine am_wE (w2 := hfW w hb sp rb rs hb po ro (am_put ee 2 2 (am_w32 ((ee 2 2) + 1))) hh ss uu vv pp kk rr tt gg aa dd bd ga im) (hf_prf hl) ?_
      exact T_throw2 (ik := 426) (ic := 428) 2 rfl (am_dec tX11_needTwo_0 19 rfl) (am_dec tX11_needTwo_0 20 rfl) (am_dec tX11_needTwo_0 21 rfl) (am_dec tX11_needTwo_0 22 rfl) (by decide) thX11_426_428 (Nat.le_of_ble_eq_true rfl) (by omega) (by omega) (am_tr (fun (x9 : Int × am_F) => Q (am_on (x9.1)) (hfW w hb sp rb rs hb po ro x9.2 hh ss uu vv pp kk rr tt gg aa dd bd ga im)) (y := (3, (am_put ee 2 2 (am_w32 ((ee 2 2) + 1))))) (show (c_needTwo ee a b many) = (3, (am_put ee 2 2 (am_w32 ((ee 2 2) + 1)))) from ((if_pos hN3).trans ((if_pos hN9).trans (if_pos h14)))) hQ)
  exact key _ ⟨rfl, rfl⟩
theorem x_codeX {S : am_S} {d u : Nat} {w : AH} {hb sp rb rs : Nat} {po ro : AV} (hl : 109 ≤ w.length) (hp : hb = 1 ∧ sp = 21 ∨ hb = 21 ∧ sp = 1) (hr : rb = 41 ∧ rs = 46 ∨ rb = 46 ∧ rs = 41) {ee hh ss uu vv pp kk rr tt gg aa dd bd ga im : am_F} (c : Int) (hN : ¬ n_code hh c = 0) (hu : 1 ≤ u) (hd : 7 ≤ d) : am_Out S zX11_needCode d u [aR 0, aI c] (hfW w hb sp rb rs hb po ro ee hh ss uu vv pp kk rr tt gg aa dd bd ga im) (am_thr (n_code hh c)) (hfW w hb sp rb rs hb po ro (n_ref ee (n_code hh c)) hh ss uu vv pp kk rr tt gg aa dd bd ga im) := by
  have k := mc_needCode (S := S) (d := d) (u := u) (po := po) (ro := ro) (ee := ee) (hh := hh) (ss := ss) (uu := uu) (vv := vv) (pp := pp) (kk := kk) (rr := rr) (tt := tt) (gg := gg) (aa := aa) (dd := dd) (bd := bd) (ga := ga) (im := im) hl hp hr c hu hd
  have e : c_needCode ee hh c = (n_code hh c, n_ref ee (n_code hh c)) := by
    unfold c_needCode
    exact if_neg hN
  rw [e] at k
  rw [← am_onX hN]
  exact k
theorem x_stepX {S : am_S} {d u : Nat} {w : AH} {hb sp rb rs : Nat} {po ro : AV} (hl : 109 ≤ w.length) (hp : hb = 1 ∧ sp = 21 ∨ hb = 21 ∧ sp = 1) (hr : rb = 41 ∧ rs = 46 ∨ rb = 46 ∧ rs = 41) {ee hh ss uu vv pp kk rr tt gg aa dd bd ga im : am_F} (s : Int) (hN : ¬ n_step s = 0) (hu : 1 ≤ u) (hd : 7 ≤ d) : am_Out S zX11_needStep d u [aR 0, aI s] (hfW w hb sp rb rs hb po ro ee hh ss uu vv pp kk rr tt gg aa dd bd ga im) (am_thr (n_step s)) (hfW w hb sp rb rs hb po ro (n_ref ee (n_step s)) hh ss uu vv pp kk rr tt gg aa dd bd ga im) := by
  have k := mc_needStep (S := S) (d := d) (u := u) (po := po) (ro := ro) (ee := ee) (hh := hh) (ss := ss) (uu := uu) (vv := vv) (pp := pp) (kk := kk) (rr := rr) (tt := tt) (gg := gg) (aa := aa) (dd := dd) (bd := bd) (ga := ga) (im := im) hl hp hr s hu hd
  have e : c_needStep ee s = (n_step s, n_ref ee (n_step s)) := by
    unfold c_needStep
    exact if_neg hN
  rw [e] at k
  rw [← am_onX hN]
  exact k
theorem x_seedsX {S : am_S} {d u : Nat} {w : AH} {hb sp rb rs : Nat} {po ro : AV} (hl : 109 ≤ w.length) (hp : hb = 1 ∧ sp = 21 ∨ hb = 21 ∧ sp = 1) (hr : rb = 41 ∧ rs = 46 ∨ rb = 46 ∧ rs = 41) {ee hh ss uu vv pp kk rr tt gg aa dd bd ga im : am_F} (qq mn : Int) (hN : ¬ n_seeds qq mn = 0) (hu : 1 ≤ u) (hd : 7 ≤ d) : am_Out S zX11_needSeeds d u [aR 0, aI qq, aI mn] (hfW w hb sp rb rs hb po ro ee hh ss uu vv pp kk rr tt gg aa dd bd ga im) (am_thr (n_seeds qq mn)) (hfW w hb sp rb rs hb po ro (n_ref ee (n_seeds qq mn)) hh ss uu vv pp kk rr tt gg aa dd bd ga im) := by
  have k := mc_needSeeds (S := S) (d := d) (u := u) (po := po) (ro := ro) (ee := ee) (hh := hh) (ss := ss) (uu := uu) (vv := vv) (pp := pp) (kk := kk) (rr := rr) (tt := tt) (gg := gg) (aa := aa) (dd := dd) (bd := bd) (ga := ga) (im := im) hl hp hr qq mn hu hd
  have e : c_needSeeds ee qq mn = (n_seeds qq mn, n_ref ee (n_seeds qq mn)) := by
    unfold c_needSeeds n_seeds at *
    by_cases h : n_range qq 0 8 = 0
    · rw [if_pos h] at hN
      simp only [if_pos h]
      exact if_neg hN
    · simp only [if_neg h]
  rw [e] at k
  rw [← am_onX hN]
  exact k
theorem x_twoX {S : am_S} {d u : Nat} {w : AH} {hb sp rb rs : Nat} {po ro : AV} (hl : 109 ≤ w.length) (hp : hb = 1 ∧ sp = 21 ∨ hb = 21 ∧ sp = 1) (hr : rb = 41 ∧ rs = 46 ∨ rb = 46 ∧ rs = 41) {tb tn : Nat} {most many : Int} {tf : Nat → Int} {ee hh ss uu vv pp kk rr tt gg aa dd bd ga im : am_F} (a b : Int) (ht : (hfW w hb sp rb rs hb po ro ee hh ss uu vv pp kk rr tt gg aa dd bd ga im)[tb]? = some (cO 9 [aI most, aR tn, aI many])) (hn : (hfW w hb sp rb rs hb po ro ee hh ss uu vv pp kk rr tt gg aa dd bd ga im)[tn]? = some (cP 0 48 tf)) (hm : many ≤ 12) (hN : ¬ n_two many a b = 0) (hu : 1 ≤ u) (hd : 7 ≤ d) : am_Out S zX11_needTwo d u [aR 0, aR tb, aI a, aI b] (hfW w hb sp rb rs hb po ro ee hh ss uu vv pp kk rr tt gg aa dd bd ga im) (am_thr (n_two many a b)) (hfW w hb sp rb rs hb po ro (n_ref ee (n_two many a b)) hh ss uu vv pp kk rr tt gg aa dd bd ga im) := by
  have k := mc_needTwo (S := S) (d := d) (u := u) (po := po) (ro := ro) (ee := ee) (hh := hh) (ss := ss) (uu := uu) (vv := vv) (pp := pp) (kk := kk) (rr := rr) (tt := tt) (gg := gg) (aa := aa) (dd := dd) (bd := bd) (ga := ga) (im := im) hl hp hr a b many ht hn hm hu hd
  have e : c_needTwo ee a b many = (n_two many a b, n_ref ee (n_two many a b)) := by
    unfold c_needTwo n_two at *
    by_cases h1 : n_row many a = 0
    · simp only [if_pos h1] at *
      by_cases h2 : n_row many b = 0
      · simp only [if_pos h2] at *
        by_cases h3 : a = b
        · simp only [if_pos h3]; rfl
        · simp only [if_neg h3] at hN; exact absurd trivial hN
      · simp only [if_neg h2]
    · simp only [if_neg h1]
  rw [e] at k
  rw [← am_onX hN]
  exact k
