/-! the port reader: a clause, a port -/
theorem c_readWalk_x {ee ss pp : am_F} (h : RdI pp) (t : TpI ee) (q : SpI ss) : SpI (c_readWalk ee ss pp).1 ∧ RdI (c_readWalk ee ss pp).2 := by
  have x0 : RdI (c_needRoom5 ss pp) := ((Rd2.rf h).needRoom5).1
  unfold c_readWalk
  dsimp only
  generalize c_needRoom5 ss pp = p0 at *
  have y1 := c_readCell_x (Rd2.rf x0) t q
  have b1 := y1.2
  have x1 := y1.1.1
  generalize c_readCell ee ss p0 = u1 at *
  have b2 : 0 ≤ (c_readStep ee u1.2).1 ∧ (c_readStep ee u1.2).1 ≤ 39 := c_number_b _ _ (by omega)
  have x2 : RdI (c_readStep ee u1.2).2 := ((Rd2.rf x1).number t 0 39).1
  generalize c_readStep ee u1.2 = u2 at *
  have x3 := ((Rd2.rf x2).word t).1
  have b3 := c_word_0 x2 t
  generalize c_word ee u2.2 = u3 at *
  have hR : RdI (if c_fine u3.2 = 0 then u3.2 else (if 12 < u3.1 then c_wrong u3.2 2 (u3.2 0 3) else (if (c_walksInPort ee ss u3.2 u1.1 u3.1).1 = 0 then c_wrong u3.2 2 (u3.2 0 3) else u3.2))) := by
    repeat' split
    all_goals first | exact x3 | exact c_wrong_I x3 _ _
  have hS : SpI (if c_fine u3.2 = 0 then ss else (if 12 < u3.1 then ss else (c_walksInPort ee ss u3.2 u1.1 u3.1).2)) := by
    repeat' split
    all_goals first | exact q | exact (c_walksInPort_x q _ _ b1 (by omega)).1
  refine ⟨c_addIf5_J hS _ _ _ _ (fun h9 => ⟨b2, b3, ?_⟩), hR⟩
  repeat' split at h9
  · rename_i g; rw [c_fine_1 h9] at g; cases g
  · exact absurd h9 (wrong_k (by decide))
  all_goals first | omega | exact absurd h9 (wrong_k (by decide))
def c_clauseKind (ee : am_F) (pp : am_F) : Int := (let z3 : Int := (c_isWord ee pp 0); (if z3 = 0 then (let z14 : Int := (c_isWord ee pp 1); (if z14 = 0 then (let z25 : Int := (c_isWord ee pp 2); (if z25 = 0 then (let z36 : Int := (c_isWord ee pp 3); (if z36 = 0 then (let z47 : Int := (c_isWord ee pp 4); (if z47 = 0 then (let z58 : Int := (c_isWord ee pp 5); (if z58 = 0 then (let z69 : Int := (c_isWord ee pp 6); (if z69 = 0 then (let z81 : Int := (c_isWord ee pp 7); (if z81 = 0 then (let z93 : Int := (c_isWord ee pp 8); (if z93 = 0 then (let z105 : Int := (c_isWord ee pp 9); (if z105 = 0 then (let z117 : Int := (c_isWord ee pp 10); (if z117 = 0 then (-1) else 10)) else 9)) else 8)) else 7)) else 6)) else 5)) else 4)) else 3)) else 2)) else 1)) else 0))
theorem mc_clauseKind {S : am_S} {d u : Nat} {w : AH} {hb sp rb rs : Nat} {ro : AV} (hl : 109 ≤ w.length) (hp : hb = 1 ∧ sp = 21 ∨ hb = 21 ∧ sp = 1) (hr : rb = 41 ∧ rs = 46 ∨ rb = 46 ∧ rs = 41) {ee : am_F} {hh : am_F} {ss : am_F} {uu : am_F} {vv : am_F} {pp : am_F} {kk : am_F} {rr : am_F} {tt : am_F} {gg : am_F} {aa : am_F} {dd : am_F} {bd : am_F} {ga : am_F} {im : am_F}  (hP : RdI pp) (hTp : TpI ee) (hS : SpI ss)  (hd : 5 ≤ d) : am_Out S zX5_clauseKind d u [aR 52] (hfW w hb sp rb rs hb (aR sp) ro ee hh ss uu vv pp kk rr tt gg aa dd bd ga im) (.inl (some (aI (c_clauseKind ee pp)))) (hfW w hb sp rb rs hb (aR sp) ro ee hh ss uu vv pp kk rr tt gg aa dd bd ga im) := by
  have key : ∀ Q : AO → AH → Prop, Q (.inl (some (aI (c_clauseKind ee pp)))) (hfW w hb sp rb rs hb (aR sp) ro ee hh ss uu vv pp kk rr tt gg aa dd bd ga im) → am_M S zX5_clauseKind d u [aR 52] (hfW w hb sp rb rs hb (aR sp) ro ee hh ss uu vv pp kk rr tt gg aa dd bd ga im) Q := by
    intro Q hQ
    refine am_body rfl (by decide +kernel) rfl (am_cats_cons rfl (am_cats_nil)) (Nat.le_of_ble_eq_true rfl) (?_ : am_T _ _ _ _ _ 0 [some (aR 52)] [] (hfW w hb sp rb rs hb (aR sp) ro ee hh ss uu vv pp kk rr tt gg aa dd bd ga im))
    have hP9 := hP
    obtain ⟨⟨vr1, vr2⟩, vr3, vr4, vr5⟩ := hP9
    obtain ⟨vs1, vs2, vs3, vs4, vs5, vs6, vs7, vs8, vs9, vs10, vs11, vs12, vs13, vs14, vs15, vs16, vs17, vs18, vs19, vs20, vs21, vs22⟩ := (HbI_A hS.1).1
    refine T_aload_n (am_dec tX5_clauseKind_0 0 rfl) rfl ?_
    refine T_ldcS (j := 0) (tx := "port") 0 (am_dec tX5_clauseKind_0 1 rfl) rfl ?_
    refine T_callU (as := [aX (0 + 2)]) rfl (am_dec tX5_clauseKind_0 2 rfl) lkX5_85_X5 (show (hfW w hb sp rb rs hb (aR sp) ro ee hh ss uu vv pp kk rr tt gg aa dd bd ga im)[52]? = some (cO 5 [aR 51, aI (pp 0 1), aI (pp 0 2), aI (pp 0 3), aI (pp 0 4), aI (pp 0 5), aR sp, aI (pp 0 7), aI (pp 0 8), aI (pp 0 9), aI (pp 0 10)]) from (hfW_c hl 52 (by decide))) rfl rfl (Nat.le_of_ble_eq_true rfl) (by omega) (mc_isWord (d := d - 1) hl hp hr  0 (by omega) hP hTp (by omega)) (fun _ => ?_)
    refine T_nm (fun z3 hz3 => ?_)
    have hb3 := c_isWord_b ee pp 0
    rw [← hz3] at hb3
    refine T_if_eq 11 (am_dec tX5_clauseKind_0 3 rfl) rfl (fun h6 => ?_) (fun h6 => ?_)
    · refine T_aload_n (am_dec tX5_clauseKind_0 6 rfl) rfl ?_
      refine T_ldcS (j := 1) (tx := "fog") 1 (am_dec tX5_clauseKind_0 7 rfl) rfl ?_
      refine T_callU (as := [aX (1 + 2)]) rfl (am_dec tX5_clauseKind_0 8 rfl) lkX5_85_X5 (show (hfW w hb sp rb rs hb (aR sp) ro ee hh ss uu vv pp kk rr tt gg aa dd bd ga im)[52]? = some (cO 5 [aR 51, aI (pp 0 1), aI (pp 0 2), aI (pp 0 3), aI (pp 0 4), aI (pp 0 5), aR sp, aI (pp 0 7), aI (pp 0 8), aI (pp 0 9), aI (pp 0 10)]) from (hfW_c hl 52 (by decide))) rfl rfl (Nat.le_of_ble_eq_true rfl) (by omega) (mc_isWord (d := d - 1) hl hp hr  1 (by omega) hP hTp (by omega)) (fun _ => ?_)
      refine T_nm (fun z14 hz14 => ?_)
      have hb14 := c_isWord_b ee pp 1
      rw [← hz14] at hb14
      refine T_if_eq 22 (am_dec tX5_clauseKind_0 9 rfl) rfl (fun h17 => ?_) (fun h17 => ?_)
      · refine T_aload_n (am_dec tX5_clauseKind_0 12 rfl) rfl ?_
        refine T_ldcS (j := 2) (tx := "wind") 2 (am_dec tX5_clauseKind_0 13 rfl) rfl ?_
        refine T_callU (as := [aX (2 + 2)]) rfl (am_dec tX5_clauseKind_0 14 rfl) lkX5_85_X5 (show (hfW w hb sp rb rs hb (aR sp) ro ee hh ss uu vv pp kk rr tt gg aa dd bd ga im)[52]? = some (cO 5 [aR 51, aI (pp 0 1), aI (pp 0 2), aI (pp 0 3), aI (pp 0 4), aI (pp 0 5), aR sp, aI (pp 0 7), aI (pp 0 8), aI (pp 0 9), aI (pp 0 10)]) from (hfW_c hl 52 (by decide))) rfl rfl (Nat.le_of_ble_eq_true rfl) (by omega) (mc_isWord (d := d - 1) hl hp hr  2 (by omega) hP hTp (by omega)) (fun _ => ?_)
        refine T_nm (fun z25 hz25 => ?_)
        have hb25 := c_isWord_b ee pp 2
        rw [← hz25] at hb25
        refine T_if_eq 33 (am_dec tX5_clauseKind_0 15 rfl) rfl (fun h28 => ?_) (fun h28 => ?_)
        · refine T_aload_n (am_dec tX5_clauseKind_0 18 rfl) rfl ?_
          refine T_ldcS (j := 3) (tx := "thin") 3 (am_dec tX5_clauseKind_0 19 rfl) rfl ?_
          refine T_callU (as := [aX (3 + 2)]) rfl (am_dec tX5_clauseKind_0 20 rfl) lkX5_85_X5 (show (hfW w hb sp rb rs hb (aR sp) ro ee hh ss uu vv pp kk rr tt gg aa dd bd ga im)[52]? = some (cO 5 [aR 51, aI (pp 0 1), aI (pp 0 2), aI (pp 0 3), aI (pp 0 4), aI (pp 0 5), aR sp, aI (pp 0 7), aI (pp 0 8), aI (pp 0 9), aI (pp 0 10)]) from (hfW_c hl 52 (by decide))) rfl rfl (Nat.le_of_ble_eq_true rfl) (by omega) (mc_isWord (d := d - 1) hl hp hr  3 (by omega) hP hTp (by omega)) (fun _ => ?_)
          refine T_nm (fun z36 hz36 => ?_)
          have hb36 := c_isWord_b ee pp 3
          rw [← hz36] at hb36
          refine T_if_eq 44 (am_dec tX5_clauseKind_0 21 rfl) rfl (fun h39 => ?_) (fun h39 => ?_)
          · refine T_aload_n (am_dec tX5_clauseKind_0 24 rfl) rfl ?_
            refine T_ldcS (j := 4) (tx := "lamp") 4 (am_dec tX5_clauseKind_0 25 rfl) rfl ?_
            refine T_callU (as := [aX (4 + 2)]) rfl (am_dec tX5_clauseKind_0 26 rfl) lkX5_85_X5 (show (hfW w hb sp rb rs hb (aR sp) ro ee hh ss uu vv pp kk rr tt gg aa dd bd ga im)[52]? = some (cO 5 [aR 51, aI (pp 0 1), aI (pp 0 2), aI (pp 0 3), aI (pp 0 4), aI (pp 0 5), aR sp, aI (pp 0 7), aI (pp 0 8), aI (pp 0 9), aI (pp 0 10)]) from (hfW_c hl 52 (by decide))) rfl rfl (Nat.le_of_ble_eq_true rfl) (by omega) (mc_isWord (d := d - 1) hl hp hr  4 (by omega) hP hTp (by omega)) (fun _ => ?_)
            refine T_nm (fun z47 hz47 => ?_)
            have hb47 := c_isWord_b ee pp 4
            rw [← hz47] at hb47
            refine T_if_eq 55 (am_dec tX5_clauseKind_0 27 rfl) rfl (fun h50 => ?_) (fun h50 => ?_)
            · refine T_aload_n (am_dec tX5_clauseKind_0 30 rfl) rfl ?_
              refine T_ldcS (j := 5) (tx := "steamer") 5 (am_dec tX5_clauseKind_0 31 rfl) rfl ?_
              refine T_callU (as := [aX (5 + 2)]) rfl (am_dec tX5_clauseKind_0 32 rfl) lkX5_85_X5 (show (hfW w hb sp rb rs hb (aR sp) ro ee hh ss uu vv pp kk rr tt gg aa dd bd ga im)[52]? = some (cO 5 [aR 51, aI (pp 0 1), aI (pp 0 2), aI (pp 0 3), aI (pp 0 4), aI (pp 0 5), aR sp, aI (pp 0 7), aI (pp 0 8), aI (pp 0 9), aI (pp 0 10)]) from (hfW_c hl 52 (by decide))) rfl rfl (Nat.le_of_ble_eq_true rfl) (by omega) (mc_isWord (d := d - 1) hl hp hr  5 (by omega) hP hTp (by omega)) (fun _ => ?_)
              refine T_nm (fun z58 hz58 => ?_)
              have hb58 := c_isWord_b ee pp 5
              rw [← hz58] at hb58
              refine T_if_eq 66 (am_dec tX5_clauseKind_0 33 rfl) rfl (fun h61 => ?_) (fun h61 => ?_)
              · refine T_aload_n (am_dec tX5_clauseKind_0 36 rfl) rfl ?_
                refine T_ldcS (j := 6) (tx := "lot") 6 (am_dec tX5_clauseKind_0 37 rfl) rfl ?_
                refine T_callU (as := [aX (6 + 2)]) rfl (am_dec tX5_clauseKind_0 38 rfl) lkX5_85_X5 (show (hfW w hb sp rb rs hb (aR sp) ro ee hh ss uu vv pp kk rr tt gg aa dd bd ga im)[52]? = some (cO 5 [aR 51, aI (pp 0 1), aI (pp 0 2), aI (pp 0 3), aI (pp 0 4), aI (pp 0 5), aR sp, aI (pp 0 7), aI (pp 0 8), aI (pp 0 9), aI (pp 0 10)]) from (hfW_c hl 52 (by decide))) rfl rfl (Nat.le_of_ble_eq_true rfl) (by omega) (mc_isWord (d := d - 1) hl hp hr  6 (by omega) hP hTp (by omega)) (fun _ => ?_)
                refine T_nm (fun z69 hz69 => ?_)
                have hb69 := c_isWord_b ee pp 6
                rw [← hz69] at hb69
                refine T_if_eq 78 (am_dec tX5_clauseKind_0 39 rfl) rfl (fun h72 => ?_) (fun h72 => ?_)
                · refine T_aload_n (am_dec tX5_clauseKind_1 2 rfl) rfl ?_
                  refine T_ldcS (j := 7) (tx := "walk") 7 (am_dec tX5_clauseKind_1 3 rfl) rfl ?_
                  refine T_callU (as := [aX (7 + 2)]) rfl (am_dec tX5_clauseKind_1 4 rfl) lkX5_85_X5 (show (hfW w hb sp rb rs hb (aR sp) ro ee hh ss uu vv pp kk rr tt gg aa dd bd ga im)[52]? = some (cO 5 [aR 51, aI (pp 0 1), aI (pp 0 2), aI (pp 0 3), aI (pp 0 4), aI (pp 0 5), aR sp, aI (pp 0 7), aI (pp 0 8), aI (pp 0 9), aI (pp 0 10)]) from (hfW_c hl 52 (by decide))) rfl rfl (Nat.le_of_ble_eq_true rfl) (by omega) (mc_isWord (d := d - 1) hl hp hr  7 (by omega) hP hTp (by omega)) (fun _ => ?_)
                  refine T_nm (fun z81 hz81 => ?_)
                  have hb81 := c_isWord_b ee pp 7
                  rw [← hz81] at hb81
                  refine T_if_eq 90 (am_dec tX5_clauseKind_1 5 rfl) rfl (fun h84 => ?_) (fun h84 => ?_)
                  · refine T_aload_n (am_dec tX5_clauseKind_1 8 rfl) rfl ?_
                    refine T_ldcS (j := 8) (tx := "watch") 8 (am_dec tX5_clauseKind_1 9 rfl) rfl ?_
                    refine T_callU (as := [aX (8 + 2)]) rfl (am_dec tX5_clauseKind_1 10 rfl) lkX5_85_X5 (show (hfW w hb sp rb rs hb (aR sp) ro ee hh ss uu vv pp kk rr tt gg aa dd bd ga im)[52]? = some (cO 5 [aR 51, aI (pp 0 1), aI (pp 0 2), aI (pp 0 3), aI (pp 0 4), aI (pp 0 5), aR sp, aI (pp 0 7), aI (pp 0 8), aI (pp 0 9), aI (pp 0 10)]) from (hfW_c hl 52 (by decide))) rfl rfl (Nat.le_of_ble_eq_true rfl) (by omega) (mc_isWord (d := d - 1) hl hp hr  8 (by omega) hP hTp (by omega)) (fun _ => ?_)
                    refine T_nm (fun z93 hz93 => ?_)
                    have hb93 := c_isWord_b ee pp 8
                    rw [← hz93] at hb93
                    refine T_if_eq 102 (am_dec tX5_clauseKind_1 11 rfl) rfl (fun h96 => ?_) (fun h96 => ?_)
                    · refine T_aload_n (am_dec tX5_clauseKind_1 14 rfl) rfl ?_
                      refine T_ldcS (j := 9) (tx := "sight") 9 (am_dec tX5_clauseKind_1 15 rfl) rfl ?_
                      refine T_callU (as := [aX (9 + 2)]) rfl (am_dec tX5_clauseKind_1 16 rfl) lkX5_85_X5 (show (hfW w hb sp rb rs hb (aR sp) ro ee hh ss uu vv pp kk rr tt gg aa dd bd ga im)[52]? = some (cO 5 [aR 51, aI (pp 0 1), aI (pp 0 2), aI (pp 0 3), aI (pp 0 4), aI (pp 0 5), aR sp, aI (pp 0 7), aI (pp 0 8), aI (pp 0 9), aI (pp 0 10)]) from (hfW_c hl 52 (by decide))) rfl rfl (Nat.le_of_ble_eq_true rfl) (by omega) (mc_isWord (d := d - 1) hl hp hr  9 (by omega) hP hTp (by omega)) (fun _ => ?_)
                      refine T_nm (fun z105 hz105 => ?_)
                      have hb105 := c_isWord_b ee pp 9
                      rw [← hz105] at hb105
                      refine T_if_eq 114 (am_dec tX5_clauseKind_1 17 rfl) rfl (fun h108 => ?_) (fun h108 => ?_)
                      · refine T_aload_n (am_dec tX5_clauseKind_1 20 rfl) rfl ?_
                        refine T_ldcS (j := 10) (tx := "ship") 10 (am_dec tX5_clauseKind_1 21 rfl) rfl ?_
                        refine T_callU (as := [aX (10 + 2)]) rfl (am_dec tX5_clauseKind_1 22 rfl) lkX5_85_X5 (show (hfW w hb sp rb rs hb (aR sp) ro ee hh ss uu vv pp kk rr tt gg aa dd bd ga im)[52]? = some (cO 5 [aR 51, aI (pp 0 1), aI (pp 0 2), aI (pp 0 3), aI (pp 0 4), aI (pp 0 5), aR sp, aI (pp 0 7), aI (pp 0 8), aI (pp 0 9), aI (pp 0 10)]) from (hfW_c hl 52 (by decide))) rfl rfl (Nat.le_of_ble_eq_true rfl) (by omega) (mc_isWord (d := d - 1) hl hp hr  10 (by omega) hP hTp (by omega)) (fun _ => ?_)
                        refine T_nm (fun z117 hz117 => ?_)
                        have hb117 := c_isWord_b ee pp 10
                        rw [← hz117] at hb117
                        have K120 : ∀ (t120 : Int), t120 = (if z117 = 0 then (-1) else 10) →  am_T S zX5_clauseKind d u Q 129 [none] [aI t120] (hfW w hb sp rb rs hb (aR sp) ro ee hh ss uu vv pp kk rr tt gg aa dd bd ga im) := by
                          intro t120 ht120 
                          exact T_ireturn (am_dec tX5_clauseKind_1 27 rfl) rfl (am_tr (fun (x9 : Int) => Q (.inl (some (aI (x9)))) (hfW w hb sp rb rs hb (aR sp) ro ee hh ss uu vv pp kk rr tt gg aa dd bd ga im)) (y := t120) (show (c_clauseKind ee pp) = t120 from (by have s9 := hz3.symm; subst s9; have s9 := hz14.symm; subst s9; have s9 := hz25.symm; subst s9; have s9 := hz36.symm; subst s9; have s9 := hz47.symm; subst s9; have s9 := hz58.symm; subst s9; have s9 := hz69.symm; subst s9; have s9 := hz81.symm; subst s9; have s9 := hz93.symm; subst s9; have s9 := hz105.symm; subst s9; have s9 := hz117.symm; subst s9; have s9 := ht120.symm; subst s9; exact ((if_pos h6).trans ((if_pos h17).trans ((if_pos h28).trans ((if_pos h39).trans ((if_pos h50).trans ((if_pos h61).trans ((if_pos h72).trans ((if_pos h84).trans ((if_pos h96).trans (if_pos h108)))))))))))) hQ)
                        refine T_if_eq 128 (am_dec tX5_clauseKind_1 23 rfl) rfl (fun h120 => ?_) (fun h120 => ?_)
                        · refine T_iconst (-1) (am_dec tX5_clauseKind_1 26 rfl) rfl ⟨by decide, by decide⟩ ?_
                          refine T_weak (ls' := [none]) (am_sub_n am_sub_nil) ?_
                          exact K120 _ (if_pos h120).symm 
                        · refine T_bipush 10 (am_dec tX5_clauseKind_1 24 rfl) rfl ⟨by decide, by decide⟩ ?_
                          refine T_goto 129 (am_dec tX5_clauseKind_1 25 rfl) rfl ?_
                          refine T_weak (ls' := [none]) (am_sub_n am_sub_nil) ?_
                          exact K120 _ (if_neg h120).symm 
                      · refine T_bipush 9 (am_dec tX5_clauseKind_1 18 rfl) rfl ⟨by decide, by decide⟩ ?_
                        exact T_ireturn (am_dec tX5_clauseKind_1 19 rfl) rfl (am_tr (fun (x9 : Int) => Q (.inl (some (aI (x9)))) (hfW w hb sp rb rs hb (aR sp) ro ee hh ss uu vv pp kk rr tt gg aa dd bd ga im)) (y := 9) (show (c_clauseKind ee pp) = 9 from (by have s9 := hz3.symm; subst s9; have s9 := hz14.symm; subst s9; have s9 := hz25.symm; subst s9; have s9 := hz36.symm; subst s9; have s9 := hz47.symm; subst s9; have s9 := hz58.symm; subst s9; have s9 := hz69.symm; subst s9; have s9 := hz81.symm; subst s9; have s9 := hz93.symm; subst s9; have s9 := hz105.symm; subst s9; exact ((if_pos h6).trans ((if_pos h17).trans ((if_pos h28).trans ((if_pos h39).trans ((if_pos h50).trans ((if_pos h61).trans ((if_pos h72).trans ((if_pos h84).trans ((if_pos h96).trans (if_neg h108)))))))))))) hQ)
                    · refine T_bipush 8 (am_dec tX5_clauseKind_1 12 rfl) rfl ⟨by decide, by decide⟩ ?_
                      exact T_ireturn (am_dec tX5_clauseKind_1 13 rfl) rfl (am_tr (fun (x9 : Int) => Q (.inl (some (aI (x9)))) (hfW w hb sp rb rs hb (aR sp) ro ee hh ss uu vv pp kk rr tt gg aa dd bd ga im)) (y := 8) (show (c_clauseKind ee pp) = 8 from (by have s9 := hz3.symm; subst s9; have s9 := hz14.symm; subst s9; have s9 := hz25.symm; subst s9; have s9 := hz36.symm; subst s9; have s9 := hz47.symm; subst s9; have s9 := hz58.symm; subst s9; have s9 := hz69.symm; subst s9; have s9 := hz81.symm; subst s9; have s9 := hz93.symm; subst s9; exact ((if_pos h6).trans ((if_pos h17).trans ((if_pos h28).trans ((if_pos h39).trans ((if_pos h50).trans ((if_pos h61).trans ((if_pos h72).trans ((if_pos h84).trans (if_neg h96))))))))))) hQ)
                  · refine T_bipush 7 (am_dec tX5_clauseKind_1 6 rfl) rfl ⟨by decide, by decide⟩ ?_
                    exact T_ireturn (am_dec tX5_clauseKind_1 7 rfl) rfl (am_tr (fun (x9 : Int) => Q (.inl (some (aI (x9)))) (hfW w hb sp rb rs hb (aR sp) ro ee hh ss uu vv pp kk rr tt gg aa dd bd ga im)) (y := 7) (show (c_clauseKind ee pp) = 7 from (by have s9 := hz3.symm; subst s9; have s9 := hz14.symm; subst s9; have s9 := hz25.symm; subst s9; have s9 := hz36.symm; subst s9; have s9 := hz47.symm; subst s9; have s9 := hz58.symm; subst s9; have s9 := hz69.symm; subst s9; have s9 := hz81.symm; subst s9; exact ((if_pos h6).trans ((if_pos h17).trans ((if_pos h28).trans ((if_pos h39).trans ((if_pos h50).trans ((if_pos h61).trans ((if_pos h72).trans (if_neg h84)))))))))) hQ)
                · refine T_bipush 6 (am_dec tX5_clauseKind_1 0 rfl) rfl ⟨by decide, by decide⟩ ?_
                  exact T_ireturn (am_dec tX5_clauseKind_1 1 rfl) rfl (am_tr (fun (x9 : Int) => Q (.inl (some (aI (x9)))) (hfW w hb sp rb rs hb (aR sp) ro ee hh ss uu vv pp kk rr tt gg aa dd bd ga im)) (y := 6) (show (c_clauseKind ee pp) = 6 from (by have s9 := hz3.symm; subst s9; have s9 := hz14.symm; subst s9; have s9 := hz25.symm; subst s9; have s9 := hz36.symm; subst s9; have s9 := hz47.symm; subst s9; have s9 := hz58.symm; subst s9; have s9 := hz69.symm; subst s9; exact ((if_pos h6).trans ((if_pos h17).trans ((if_pos h28).trans ((if_pos h39).trans ((if_pos h50).trans ((if_pos h61).trans (if_neg h72))))))))) hQ)
              · refine T_iconst 5 (am_dec tX5_clauseKind_0 34 rfl) rfl ⟨by decide, by decide⟩ ?_
                exact T_ireturn (am_dec tX5_clauseKind_0 35 rfl) rfl (am_tr (fun (x9 : Int) => Q (.inl (some (aI (x9)))) (hfW w hb sp rb rs hb (aR sp) ro ee hh ss uu vv pp kk rr tt gg aa dd bd ga im)) (y := 5) (show (c_clauseKind ee pp) = 5 from (by have s9 := hz3.symm; subst s9; have s9 := hz14.symm; subst s9; have s9 := hz25.symm; subst s9; have s9 := hz36.symm; subst s9; have s9 := hz47.symm; subst s9; have s9 := hz58.symm; subst s9; exact ((if_pos h6).trans ((if_pos h17).trans ((if_pos h28).trans ((if_pos h39).trans ((if_pos h50).trans (if_neg h61)))))))) hQ)
            · refine T_iconst 4 (am_dec tX5_clauseKind_0 28 rfl) rfl ⟨by decide, by decide⟩ ?_
              exact T_ireturn (am_dec tX5_clauseKind_0 29 rfl) rfl (am_tr (fun (x9 : Int) => Q (.inl (some (aI (x9)))) (hfW w hb sp rb rs hb (aR sp) ro ee hh ss uu vv pp kk rr tt gg aa dd bd ga im)) (y := 4) (show (c_clauseKind ee pp) = 4 from (by have s9 := hz3.symm; subst s9; have s9 := hz14.symm; subst s9; have s9 := hz25.symm; subst s9; have s9 := hz36.symm; subst s9; have s9 := hz47.symm; subst s9; exact ((if_pos h6).trans ((if_pos h17).trans ((if_pos h28).trans ((if_pos h39).trans (if_neg h50))))))) hQ)
          · refine T_iconst 3 (am_dec tX5_clauseKind_0 22 rfl) rfl ⟨by decide, by decide⟩ ?_
            exact T_ireturn (am_dec tX5_clauseKind_0 23 rfl) rfl (am_tr (fun (x9 : Int) => Q (.inl (some (aI (x9)))) (hfW w hb sp rb rs hb (aR sp) ro ee hh ss uu vv pp kk rr tt gg aa dd bd ga im)) (y := 3) (show (c_clauseKind ee pp) = 3 from (by have s9 := hz3.symm; subst s9; have s9 := hz14.symm; subst s9; have s9 := hz25.symm; subst s9; have s9 := hz36.symm; subst s9; exact ((if_pos h6).trans ((if_pos h17).trans ((if_pos h28).trans (if_neg h39)))))) hQ)
        · refine T_iconst 2 (am_dec tX5_clauseKind_0 16 rfl) rfl ⟨by decide, by decide⟩ ?_
          exact T_ireturn (am_dec tX5_clauseKind_0 17 rfl) rfl (am_tr (fun (x9 : Int) => Q (.inl (some (aI (x9)))) (hfW w hb sp rb rs hb (aR sp) ro ee hh ss uu vv pp kk rr tt gg aa dd bd ga im)) (y := 2) (show (c_clauseKind ee pp) = 2 from (by have s9 := hz3.symm; subst s9; have s9 := hz14.symm; subst s9; have s9 := hz25.symm; subst s9; exact ((if_pos h6).trans ((if_pos h17).trans (if_neg h28))))) hQ)
      · refine T_iconst 1 (am_dec tX5_clauseKind_0 10 rfl) rfl ⟨by decide, by decide⟩ ?_
        exact T_ireturn (am_dec tX5_clauseKind_0 11 rfl) rfl (am_tr (fun (x9 : Int) => Q (.inl (some (aI (x9)))) (hfW w hb sp rb rs hb (aR sp) ro ee hh ss uu vv pp kk rr tt gg aa dd bd ga im)) (y := 1) (show (c_clauseKind ee pp) = 1 from (by have s9 := hz3.symm; subst s9; have s9 := hz14.symm; subst s9; exact ((if_pos h6).trans (if_neg h17)))) hQ)
    · refine T_iconst 0 (am_dec tX5_clauseKind_0 4 rfl) rfl ⟨by decide, by decide⟩ ?_
      exact T_ireturn (am_dec tX5_clauseKind_0 5 rfl) rfl (am_tr (fun (x9 : Int) => Q (.inl (some (aI (x9)))) (hfW w hb sp rb rs hb (aR sp) ro ee hh ss uu vv pp kk rr tt gg aa dd bd ga im)) (y := 0) (show (c_clauseKind ee pp) = 0 from (by have s9 := hz3.symm; subst s9; exact (if_neg h6))) hQ)
  exact key _ ⟨rfl, rfl⟩
def c_readClause (ee : am_F) (ss : am_F) (pp : am_F) (cs : Int) : am_F × am_F := (let u1 : Int × am_F := c_word ee pp; (let kd_9 : Int := (c_clauseKind ee ((u1).2)); (let pp12 : am_F := (if kd_9 = (-1) then c_wrong ((u1).2) 1 ((u1).2 0 3) else (if cs < 60 then (if kd_9 = 0 then (if cs ≤ 0 then ((u1).2) else c_wrong ((u1).2) 4 ((u1).2 0 3)) else ((u1).2)) else c_wrong ((u1).2) 3 ((u1).2 0 3))); (if kd_9 = 0 then (let u121 : am_F × am_F := c_readPort ee ss pp12; (let pp200 : am_F := c_needSign ee ((u121).2) 59; ((u121).1, pp200))) else (if kd_9 = 1 then (let u128 : am_F × am_F := c_readBank ee ss pp12; (let pp200 : am_F := c_needSign ee ((u128).2) 59; ((u128).1, pp200))) else (if kd_9 = 2 then (let u135 : am_F × am_F := c_readWind ee ss pp12; (let pp200 : am_F := c_needSign ee ((u135).2) 59; ((u135).1, pp200))) else (if kd_9 = 3 then (let u142 : am_F × am_F := c_readThin ee ss pp12; (let pp200 : am_F := c_needSign ee ((u142).2) 59; ((u142).1, pp200))) else (if kd_9 = 4 then (let u149 : am_F × am_F := c_readLamp ee ss pp12; (let pp200 : am_F := c_needSign ee ((u149).2) 59; ((u149).1, pp200))) else (if kd_9 = 5 then (let u156 : am_F × am_F := c_readSteamer ee ss pp12; (let pp200 : am_F := c_needSign ee ((u156).2) 59; ((u156).1, pp200))) else (if kd_9 = 6 then (let u163 : am_F × am_F := c_readLot ee ss pp12; (let pp200 : am_F := c_needSign ee ((u163).2) 59; ((u163).1, pp200))) else (if kd_9 = 7 then (let u170 : am_F × am_F := c_readWalk ee ss pp12; (let pp200 : am_F := c_needSign ee ((u170).2) 59; ((u170).1, pp200))) else (if kd_9 = 8 then (let u177 : am_F × am_F := c_readWatch ee ss pp12; (let pp200 : am_F := c_needSign ee ((u177).2) 59; ((u177).1, pp200))) else (if kd_9 = 9 then (let u184 : am_F × am_F := c_readSight ee ss pp12; (let pp200 : am_F := c_needSign ee ((u184).2) 59; ((u184).1, pp200))) else (if kd_9 = 10 then (let u191 : am_F × am_F := c_readShip ee ss pp12; (let pp200 : am_F := c_needSign ee ((u191).2) 59; ((u191).1, pp200))) else (let pp200 : am_F := c_needSign ee pp12 59; (ss, pp200))))))))))))))))
theorem mc_readClause {S : am_S} {d u : Nat} {w : AH} {hb sp rb rs : Nat} {ro : AV} (hl : 109 ≤ w.length) (hp : hb = 1 ∧ sp = 21 ∨ hb = 21 ∧ sp = 1) (hr : rb = 41 ∧ rs = 46 ∨ rb = 46 ∧ rs = 41) {ee : am_F} {hh : am_F} {ss : am_F} {uu : am_F} {vv : am_F} {pp : am_F} {kk : am_F} {rr : am_F} {tt : am_F} {gg : am_F} {aa : am_F} {dd : am_F} {bd : am_F} {ga : am_F} {im : am_F} (cs : Int) (hP : RdI pp) (hTp : TpI ee) (hS : SpI ss)  (hd : 6 ≤ d) : am_Out S zX5_readClause d u [aR 52, aI cs] (hfW w hb sp rb rs hb (aR sp) ro ee hh ss uu vv pp kk rr tt gg aa dd bd ga im) (.inl none) (hfW w hb sp rb rs hb (aR sp) ro ee hh ((c_readClause ee ss pp cs).1) uu vv ((c_readClause ee ss pp cs).2) kk rr tt gg aa dd bd ga im) := by
  have key : ∀ Q : AO → AH → Prop, Q (.inl none) (hfW w hb sp rb rs hb (aR sp) ro ee hh ((c_readClause ee ss pp cs).1) uu vv ((c_readClause ee ss pp cs).2) kk rr tt gg aa dd bd ga im) → am_M S zX5_readClause d u [aR 52, aI cs] (hfW w hb sp rb rs hb (aR sp) ro ee hh ss uu vv pp kk rr tt gg aa dd bd ga im) Q := by
    intro Q hQ
    refine am_body rfl (by decide +kernel) rfl (am_cats_cons rfl ( am_cats_cons rfl (am_cats_nil))) (Nat.le_of_ble_eq_true rfl) (?_ : am_T _ _ _ _ _ 0 [some (aR 52), some (aI cs), none] [] (hfW w hb sp rb rs hb (aR sp) ro ee hh ss uu vv pp kk rr tt gg aa dd bd ga im))
    have hP9 := hP
    obtain ⟨⟨vr1, vr2⟩, vr3, vr4, vr5⟩ := hP9
    obtain ⟨vs1, vs2, vs3, vs4, vs5, vs6, vs7, vs8, vs9, vs10, vs11, vs12, vs13, vs14, vs15, vs16, vs17, vs18, vs19, vs20, vs21, vs22⟩ := (HbI_A hS.1).1
    refine T_aload_n (am_dec tX5_readClause_0 0 rfl) rfl ?_
    refine T_callU (as := []) rfl (am_dec tX5_readClause_0 1 rfl) lkX5_33_X5 (show (hfW w hb sp rb rs hb (aR sp) ro ee hh ss uu vv pp kk rr tt gg aa dd bd ga im)[52]? = some (cO 5 [aR 51, aI (pp 0 1), aI (pp 0 2), aI (pp 0 3), aI (pp 0 4), aI (pp 0 5), aR sp, aI (pp 0 7), aI (pp 0 8), aI (pp 0 9), aI (pp 0 10)]) from (hfW_c hl 52 (by decide))) rfl rfl (Nat.le_of_ble_eq_true rfl) (by omega) (mc_word (d := d - 1) hl hp hr   hP hTp (by omega)) (fun _ => ?_)
    obtain ⟨u1, hu1⟩ : ∃ x9, x9 = c_word ee pp := ⟨_, rfl⟩
    rw [← hu1]
    have hxu1 : Rd2 pp u1.2 := by rw [hu1]; exact (Rd2.rf hP).word hTp
    have hIu1 := hxu1.1
    have hgu1 := hIu1
    obtain ⟨⟨yr11, yr12⟩, yr13, yr14, yr15⟩ := hgu1
    have heu1_7 : u1.2 0 7 = pp 0 7 := hxu1.2 0 7 (by decide)
    have heu1_8 : u1.2 0 8 = pp 0 8 := hxu1.2 0 8 (by decide)
    have heu1_9 : u1.2 0 9 = pp 0 9 := hxu1.2 0 9 (by decide)
    have heu1_10 : u1.2 0 10 = pp 0 10 := hxu1.2 0 10 (by decide)
    have hbu1 : 0 - 600 ≤ u1.1 ∧ u1.1 ≤ 600 := by rw [hu1]; exact c_word_b hP hTp
    have hzu1 : 0 ≤ u1.1 := by rw [hu1]; exact c_word_0 hP hTp
    refine T_pop (am_dec tX5_readClause_0 2 rfl) rfl ?_
    refine T_aload_n (am_dec tX5_readClause_0 3 rfl) rfl ?_
    refine T_callV (as := []) rfl (am_dec tX5_readClause_0 4 rfl) lkX5_36 (show (hfW w hb sp rb rs hb (aR sp) ro ee hh ss uu vv ((u1).2) kk rr tt gg aa dd bd ga im)[52]? = some (cO 5 [aR 51, aI ((u1).2 0 1), aI ((u1).2 0 2), aI ((u1).2 0 3), aI ((u1).2 0 4), aI ((u1).2 0 5), aR sp, aI ((u1).2 0 7), aI ((u1).2 0 8), aI ((u1).2 0 9), aI ((u1).2 0 10)]) from (hfW_c hl 52 (by decide))) rfl rfl (Nat.le_of_ble_eq_true rfl) (by omega) (mc_clauseKind (d := d - 1) hl hp hr   hIu1 hTp hS (by omega)) (fun _ => ?_)
    refine T_nm (fun kd_9 hkd_9 => ?_)
    refine T_istore_n (ls' := [some (aR 52), some (aI cs), some (aI kd_9)]) (am_dec tX5_readClause_0 5 rfl) (by decide) rfl ?_
    refine T_iload_n (am_dec tX5_readClause_0 6 rfl) rfl ?_
    refine T_iconst (-1) (am_dec tX5_readClause_0 7 rfl) rfl ⟨by decide, by decide⟩ ?_
    have K12 : ∀ (pp12 : am_F), pp12 = (if kd_9 = (-1) then c_wrong ((u1).2) 1 ((u1).2 0 3) else (if cs < 60 then (if kd_9 = 0 then (if cs ≤ 0 then ((u1).2) else c_wrong ((u1).2) 4 ((u1).2 0 3)) else ((u1).2)) else c_wrong ((u1).2) 3 ((u1).2 0 3))) →  am_T S zX5_readClause d u Q 62 [some (aR 52), none, some (aI kd_9)] [] (hfW w hb sp rb rs hb (aR sp) ro ee hh ss uu vv pp12 kk rr tt gg aa dd bd ga im) := by
      intro pp12 hpp12 
      have hIpp12 : RdI pp12 := by
        rw [hpp12]
        try dsimp only
        repeat' split
        all_goals first | exact hIu1 | exact c_wrong_I hIu1 _ _
      refine T_iload_n (am_dec tX5_readClause_0 33 rfl) rfl ?_
      by_cases e63_0 : kd_9 = 0
      · refine T_tableIn (off := 57) 120 (am_dec tX5_readClause_0 34 rfl) (by omega) (by omega) (by rw [e63_0]; rfl) rfl ?_
        refine T_aload_n (am_dec tX5_readClause_0 35 rfl) rfl ?_
        refine T_callV (as := []) rfl (am_dec tX5_readClause_0 36 rfl) lkX5_47 (show (hfW w hb sp rb rs hb (aR sp) ro ee hh ss uu vv pp12 kk rr tt gg aa dd bd ga im)[52]? = some (cO 5 [aR 51, aI (pp12 0 1), aI (pp12 0 2), aI (pp12 0 3), aI (pp12 0 4), aI (pp12 0 5), aR sp, aI (pp12 0 7), aI (pp12 0 8), aI (pp12 0 9), aI (pp12 0 10)]) from (hfW_c hl 52 (by decide))) rfl rfl (Nat.le_of_ble_eq_true rfl) (by omega) (mc_readPort (d := d - 1) hl hp hr   hIpp12 hTp hS (by omega)) (fun _ => ?_)
        obtain ⟨u121, hu121⟩ : ∃ x9, x9 = c_readPort ee ss pp12 := ⟨_, rfl⟩
        rw [← hu121]
        obtain ⟨hSu121, hIu121⟩ : SpI u121.1 ∧ RdI u121.2 := by rw [hu121]; exact c_readPort_x hIpp12 hTp hS
        refine T_goto 197 (am_dec tX5_readClause_0 37 rfl) rfl ?_
        refine T_aload_n (am_dec tX5_readClause_1 28 rfl) rfl ?_
        refine T_bipush 59 (am_dec tX5_readClause_1 29 rfl) rfl ⟨by decide, by decide⟩ ?_
        refine T_callU (as := [aI 59]) rfl (am_dec tX5_readClause_1 30 rfl) lkX5_80_X5 (show (hfW w hb sp rb rs hb (aR sp) ro ee hh ((u121).1) uu vv ((u121).2) kk rr tt gg aa dd bd ga im)[52]? = some (cO 5 [aR 51, aI ((u121).2 0 1), aI ((u121).2 0 2), aI ((u121).2 0 3), aI ((u121).2 0 4), aI ((u121).2 0 5), aR sp, aI ((u121).2 0 7), aI ((u121).2 0 8), aI ((u121).2 0 9), aI ((u121).2 0 10)]) from (hfW_c hl 52 (by decide))) rfl rfl (Nat.le_of_ble_eq_true rfl) (by omega) (mc_needSign (d := d - 1) hl hp hr 59  (by omega) hIu121 hTp (by omega)) (fun _ => ?_)
        refine T_nmH (W := fun x9 => hfW w hb sp rb rs hb (aR sp) ro ee hh ((u121).1) uu vv x9 kk rr tt gg aa dd bd ga im) (v := c_needSign ee ((u121).2) 59) (fun pp200 hpp200 => ?_)
        have hxpp200 : Rd2 ((u121).2) pp200 := by rw [hpp200]; exact (Rd2.rf hIu121).needSign hTp (by omega)
        have hIpp200 := hxpp200.1
        have hepp200_7 : pp200 0 7 = (u121).2 0 7 := hxpp200.2 0 7 (by decide)
        have hepp200_8 : pp200 0 8 = (u121).2 0 8 := hxpp200.2 0 8 (by decide)
        have hepp200_9 : pp200 0 9 = (u121).2 0 9 := hxpp200.2 0 9 (by decide)
        have hepp200_10 : pp200 0 10 = (u121).2 0 10 := hxpp200.2 0 10 (by decide)
        exact T_return (am_dec tX5_readClause_1 31 rfl) rfl (am_tr (fun (x9 : am_F × am_F) => Q (.inl none) (hfW w hb sp rb rs hb (aR sp) ro ee hh x9.1 uu vv x9.2 kk rr tt gg aa dd bd ga im)) (y := ((u121).1, pp200)) (show (c_readClause ee ss pp cs) = ((u121).1, pp200) from (by have s9 := hu1.symm; subst s9; have s9 := hkd_9.symm; subst s9; have s9 := hpp12.symm; subst s9; have s9 := hu121.symm; subst s9; have s9 := hpp200.symm; subst s9; exact (if_pos e63_0))) hQ)
      by_cases e63_1 : kd_9 = 1
      · refine T_tableIn (off := 64) 127 (am_dec tX5_readClause_0 34 rfl) (by omega) (by omega) (by rw [e63_1]; rfl) rfl ?_
        refine T_aload_n (am_dec tX5_readClause_0 38 rfl) rfl ?_
        refine T_callV (as := []) rfl (am_dec tX5_readClause_0 39 rfl) lkX5_50 (show (hfW w hb sp rb rs hb (aR sp) ro ee hh ss uu vv pp12 kk rr tt gg aa dd bd ga im)[52]? = some (cO 5 [aR 51, aI (pp12 0 1), aI (pp12 0 2), aI (pp12 0 3), aI (pp12 0 4), aI (pp12 0 5), aR sp, aI (pp12 0 7), aI (pp12 0 8), aI (pp12 0 9), aI (pp12 0 10)]) from (hfW_c hl 52 (by decide))) rfl rfl (Nat.le_of_ble_eq_true rfl) (by omega) (mc_readBank (d := d - 1) hl hp hr   hIpp12 hTp hS (by omega)) (fun _ => ?_)
        obtain ⟨u128, hu128⟩ : ∃ x9, x9 = c_readBank ee ss pp12 := ⟨_, rfl⟩
        rw [← hu128]
        obtain ⟨hSu128, hIu128⟩ : SpI u128.1 ∧ RdI u128.2 := by rw [hu128]; exact c_readBank_x hIpp12 hTp hS
        refine T_goto 197 (am_dec tX5_readClause_1 0 rfl) rfl ?_
        refine T_aload_n (am_dec tX5_readClause_1 28 rfl) rfl ?_
        refine T_bipush 59 (am_dec tX5_readClause_1 29 rfl) rfl ⟨by decide, by decide⟩ ?_
        refine T_callU (as := [aI 59]) rfl (am_dec tX5_readClause_1 30 rfl) lkX5_80_X5 (show (hfW w hb sp rb rs hb (aR sp) ro ee hh ((u128).1) uu vv ((u128).2) kk rr tt gg aa dd bd ga im)[52]? = some (cO 5 [aR 51, aI ((u128).2 0 1), aI ((u128).2 0 2), aI ((u128).2 0 3), aI ((u128).2 0 4), aI ((u128).2 0 5), aR sp, aI ((u128).2 0 7), aI ((u128).2 0 8), aI ((u128).2 0 9), aI ((u128).2 0 10)]) from (hfW_c hl 52 (by decide))) rfl rfl (Nat.le_of_ble_eq_true rfl) (by omega) (mc_needSign (d := d - 1) hl hp hr 59  (by omega) hIu128 hTp (by omega)) (fun _ => ?_)
        refine T_nmH (W := fun x9 => hfW w hb sp rb rs hb (aR sp) ro ee hh ((u128).1) uu vv x9 kk rr tt gg aa dd bd ga im) (v := c_needSign ee ((u128).2) 59) (fun pp200 hpp200 => ?_)
        have hxpp200 : Rd2 ((u128).2) pp200 := by rw [hpp200]; exact (Rd2.rf hIu128).needSign hTp (by omega)
        have hIpp200 := hxpp200.1
        have hepp200_7 : pp200 0 7 = (u128).2 0 7 := hxpp200.2 0 7 (by decide)
        have hepp200_8 : pp200 0 8 = (u128).2 0 8 := hxpp200.2 0 8 (by decide)
        have hepp200_9 : pp200 0 9 = (u128).2 0 9 := hxpp200.2 0 9 (by decide)
        have hepp200_10 : pp200 0 10 = (u128).2 0 10 := hxpp200.2 0 10 (by decide)
        exact T_return (am_dec tX5_readClause_1 31 rfl) rfl (am_tr (fun (x9 : am_F × am_F) => Q (.inl none) (hfW w hb sp rb rs hb (aR sp) ro ee hh x9.1 uu vv x9.2 kk rr tt gg aa dd bd ga im)) (y := ((u128).1, pp200)) (show (c_readClause ee ss pp cs) = ((u128).1, pp200) from (by have s9 := hu1.symm; subst s9; have s9 := hkd_9.symm; subst s9; have s9 := hpp12.symm; subst s9; have s9 := hu128.symm; subst s9; have s9 := hpp200.symm; subst s9; exact ((if_neg e63_0).trans (if_pos e63_1)))) hQ)
      by_cases e63_2 : kd_9 = 2
      · refine T_tableIn (off := 71) 134 (am_dec tX5_readClause_0 34 rfl) (by omega) (by omega) (by rw [e63_2]; rfl) rfl ?_
        refine T_aload_n (am_dec tX5_readClause_1 1 rfl) rfl ?_
        refine T_callV (as := []) rfl (am_dec tX5_readClause_1 2 rfl) lkX5_53 (show (hfW w hb sp rb rs hb (aR sp) ro ee hh ss uu vv pp12 kk rr tt gg aa dd bd ga im)[52]? = some (cO 5 [aR 51, aI (pp12 0 1), aI (pp12 0 2), aI (pp12 0 3), aI (pp12 0 4), aI (pp12 0 5), aR sp, aI (pp12 0 7), aI (pp12 0 8), aI (pp12 0 9), aI (pp12 0 10)]) from (hfW_c hl 52 (by decide))) rfl rfl (Nat.le_of_ble_eq_true rfl) (by omega) (mc_readWind (d := d - 1) hl hp hr   hIpp12 hTp hS (by omega)) (fun _ => ?_)
        obtain ⟨u135, hu135⟩ : ∃ x9, x9 = c_readWind ee ss pp12 := ⟨_, rfl⟩
        rw [← hu135]
        obtain ⟨hSu135, hIu135⟩ : SpI u135.1 ∧ RdI u135.2 := by rw [hu135]; exact c_readWind_x hIpp12 hTp hS
        refine T_goto 197 (am_dec tX5_readClause_1 3 rfl) rfl ?_
        refine T_aload_n (am_dec tX5_readClause_1 28 rfl) rfl ?_
        refine T_bipush 59 (am_dec tX5_readClause_1 29 rfl) rfl ⟨by decide, by decide⟩ ?_
        refine T_callU (as := [aI 59]) rfl (am_dec tX5_readClause_1 30 rfl) lkX5_80_X5 (show (hfW w hb sp rb rs hb (aR sp) ro ee hh ((u135).1) uu vv ((u135).2) kk rr tt gg aa dd bd ga im)[52]? = some (cO 5 [aR 51, aI ((u135).2 0 1), aI ((u135).2 0 2), aI ((u135).2 0 3), aI ((u135).2 0 4), aI ((u135).2 0 5), aR sp, aI ((u135).2 0 7), aI ((u135).2 0 8), aI ((u135).2 0 9), aI ((u135).2 0 10)]) from (hfW_c hl 52 (by decide))) rfl rfl (Nat.le_of_ble_eq_true rfl) (by omega) (mc_needSign (d := d - 1) hl hp hr 59  (by omega) hIu135 hTp (by omega)) (fun _ => ?_)
        refine T_nmH (W := fun x9 => hfW w hb sp rb rs hb (aR sp) ro ee hh ((u135).1) uu vv x9 kk rr tt gg aa dd bd ga im) (v := c_needSign ee ((u135).2) 59) (fun pp200 hpp200 => ?_)
        have hxpp200 : Rd2 ((u135).2) pp200 := by rw [hpp200]; exact (Rd2.rf hIu135).needSign hTp (by omega)
        have hIpp200 := hxpp200.1
        have hepp200_7 : pp200 0 7 = (u135).2 0 7 := hxpp200.2 0 7 (by decide)
        have hepp200_8 : pp200 0 8 = (u135).2 0 8 := hxpp200.2 0 8 (by decide)
        have hepp200_9 : pp200 0 9 = (u135).2 0 9 := hxpp200.2 0 9 (by decide)
        have hepp200_10 : pp200 0 10 = (u135).2 0 10 := hxpp200.2 0 10 (by decide)
        exact T_return (am_dec tX5_readClause_1 31 rfl) rfl (am_tr (fun (x9 : am_F × am_F) => Q (.inl none) (hfW w hb sp rb rs hb (aR sp) ro ee hh x9.1 uu vv x9.2 kk rr tt gg aa dd bd ga im)) (y := ((u135).1, pp200)) (show (c_readClause ee ss pp cs) = ((u135).1, pp200) from (by have s9 := hu1.symm; subst s9; have s9 := hkd_9.symm; subst s9; have s9 := hpp12.symm; subst s9; have s9 := hu135.symm; subst s9; have s9 := hpp200.symm; subst s9; exact ((if_neg e63_0).trans ((if_neg e63_1).trans (if_pos e63_2))))) hQ)
      by_cases e63_3 : kd_9 = 3
      · refine T_tableIn (off := 78) 141 (am_dec tX5_readClause_0 34 rfl) (by omega) (by omega) (by rw [e63_3]; rfl) rfl ?_
        refine T_aload_n (am_dec tX5_readClause_1 4 rfl) rfl ?_
        refine T_callV (as := []) rfl (am_dec tX5_readClause_1 5 rfl) lkX5_56 (show (hfW w hb sp rb rs hb (aR sp) ro ee hh ss uu vv pp12 kk rr tt gg aa dd bd ga im)[52]? = some (cO 5 [aR 51, aI (pp12 0 1), aI (pp12 0 2), aI (pp12 0 3), aI (pp12 0 4), aI (pp12 0 5), aR sp, aI (pp12 0 7), aI (pp12 0 8), aI (pp12 0 9), aI (pp12 0 10)]) from (hfW_c hl 52 (by decide))) rfl rfl (Nat.le_of_ble_eq_true rfl) (by omega) (mc_readThin (d := d - 1) hl hp hr   hIpp12 hTp hS (by omega)) (fun _ => ?_)
        obtain ⟨u142, hu142⟩ : ∃ x9, x9 = c_readThin ee ss pp12 := ⟨_, rfl⟩
        rw [← hu142]
        obtain ⟨hSu142, hIu142⟩ : SpI u142.1 ∧ RdI u142.2 := by rw [hu142]; exact c_readThin_x hIpp12 hTp hS
        refine T_goto 197 (am_dec tX5_readClause_1 6 rfl) rfl ?_
        refine T_aload_n (am_dec tX5_readClause_1 28 rfl) rfl ?_
        refine T_bipush 59 (am_dec tX5_readClause_1 29 rfl) rfl ⟨by decide, by decide⟩ ?_
        refine T_callU (as := [aI 59]) rfl (am_dec tX5_readClause_1 30 rfl) lkX5_80_X5 (show (hfW w hb sp rb rs hb (aR sp) ro ee hh ((u142).1) uu vv ((u142).2) kk rr tt gg aa dd bd ga im)[52]? = some (cO 5 [aR 51, aI ((u142).2 0 1), aI ((u142).2 0 2), aI ((u142).2 0 3), aI ((u142).2 0 4), aI ((u142).2 0 5), aR sp, aI ((u142).2 0 7), aI ((u142).2 0 8), aI ((u142).2 0 9), aI ((u142).2 0 10)]) from (hfW_c hl 52 (by decide))) rfl rfl (Nat.le_of_ble_eq_true rfl) (by omega) (mc_needSign (d := d - 1) hl hp hr 59  (by omega) hIu142 hTp (by omega)) (fun _ => ?_)
        refine T_nmH (W := fun x9 => hfW w hb sp rb rs hb (aR sp) ro ee hh ((u142).1) uu vv x9 kk rr tt gg aa dd bd ga im) (v := c_needSign ee ((u142).2) 59) (fun pp200 hpp200 => ?_)
        have hxpp200 : Rd2 ((u142).2) pp200 := by rw [hpp200]; exact (Rd2.rf hIu142).needSign hTp (by omega)
        have hIpp200 := hxpp200.1
        have hepp200_7 : pp200 0 7 = (u142).2 0 7 := hxpp200.2 0 7 (by decide)
        have hepp200_8 : pp200 0 8 = (u142).2 0 8 := hxpp200.2 0 8 (by decide)
        have hepp200_9 : pp200 0 9 = (u142).2 0 9 := hxpp200.2 0 9 (by decide)
        have hepp200_10 : pp200 0 10 = (u142).2 0 10 := hxpp200.2 0 10 (by decide)
        exact T_return (am_dec tX5_readClause_1 31 rfl) rfl (am_tr (fun (x9 : am_F × am_F) => Q (.inl none) (hfW w hb sp rb rs hb (aR sp) ro ee hh x9.1 uu vv x9.2 kk rr tt gg aa dd bd ga im)) (y := ((u142).1, pp200)) (show (c_readClause ee ss pp cs) = ((u142).1, pp200) from (by have s9 := hu1.symm; subst s9; have s9 := hkd_9.symm; subst s9; have s9 := hpp12.symm; subst s9; have s9 := hu142.symm; subst s9; have s9 := hpp200.symm; subst s9; exact ((if_neg e63_0).trans ((if_neg e63_1).trans ((if_neg e63_2).trans (if_pos e63_3)))))) hQ)
      by_cases e63_4 : kd_9 = 4
      · refine T_tableIn (off := 85) 148 (am_dec tX5_readClause_0 34 rfl) (by omega) (by omega) (by rw [e63_4]; rfl) rfl ?_
        refine T_aload_n (am_dec tX5_readClause_1 7 rfl) rfl ?_
        refine T_callV (as := []) rfl (am_dec tX5_readClause_1 8 rfl) lkX5_59 (show (hfW w hb sp rb rs hb (aR sp) ro ee hh ss uu vv pp12 kk rr tt gg aa dd bd ga im)[52]? = some (cO 5 [aR 51, aI (pp12 0 1), aI (pp12 0 2), aI (pp12 0 3), aI (pp12 0 4), aI (pp12 0 5), aR sp, aI (pp12 0 7), aI (pp12 0 8), aI (pp12 0 9), aI (pp12 0 10)]) from (hfW_c hl 52 (by decide))) rfl rfl (Nat.le_of_ble_eq_true rfl) (by omega) (mc_readLamp (d := d - 1) hl hp hr   hIpp12 hTp hS (by omega)) (fun _ => ?_)
        obtain ⟨u149, hu149⟩ : ∃ x9, x9 = c_readLamp ee ss pp12 := ⟨_, rfl⟩
        rw [← hu149]
        obtain ⟨hSu149, hIu149⟩ : SpI u149.1 ∧ RdI u149.2 := by rw [hu149]; exact c_readLamp_x hIpp12 hTp hS
        refine T_goto 197 (am_dec tX5_readClause_1 9 rfl) rfl ?_
        refine T_aload_n (am_dec tX5_readClause_1 28 rfl) rfl ?_
        refine T_bipush 59 (am_dec tX5_readClause_1 29 rfl) rfl ⟨by decide, by decide⟩ ?_
        refine T_callU (as := [aI 59]) rfl (am_dec tX5_readClause_1 30 rfl) lkX5_80_X5 (show (hfW w hb sp rb rs hb (aR sp) ro ee hh ((u149).1) uu vv ((u149).2) kk rr tt gg aa dd bd ga im)[52]? = some (cO 5 [aR 51, aI ((u149).2 0 1), aI ((u149).2 0 2), aI ((u149).2 0 3), aI ((u149).2 0 4), aI ((u149).2 0 5), aR sp, aI ((u149).2 0 7), aI ((u149).2 0 8), aI ((u149).2 0 9), aI ((u149).2 0 10)]) from (hfW_c hl 52 (by decide))) rfl rfl (Nat.le_of_ble_eq_true rfl) (by omega) (mc_needSign (d := d - 1) hl hp hr 59  (by omega) hIu149 hTp (by omega)) (fun _ => ?_)
        refine T_nmH (W := fun x9 => hfW w hb sp rb rs hb (aR sp) ro ee hh ((u149).1) uu vv x9 kk rr tt gg aa dd bd ga im) (v := c_needSign ee ((u149).2) 59) (fun pp200 hpp200 => ?_)
        have hxpp200 : Rd2 ((u149).2) pp200 := by rw [hpp200]; exact (Rd2.rf hIu149).needSign hTp (by omega)
        have hIpp200 := hxpp200.1
        have hepp200_7 : pp200 0 7 = (u149).2 0 7 := hxpp200.2 0 7 (by decide)
        have hepp200_8 : pp200 0 8 = (u149).2 0 8 := hxpp200.2 0 8 (by decide)
        have hepp200_9 : pp200 0 9 = (u149).2 0 9 := hxpp200.2 0 9 (by decide)
        have hepp200_10 : pp200 0 10 = (u149).2 0 10 := hxpp200.2 0 10 (by decide)
        exact T_return (am_dec tX5_readClause_1 31 rfl) rfl (am_tr (fun (x9 : am_F × am_F) => Q (.inl none) (hfW w hb sp rb rs hb (aR sp) ro ee hh x9.1 uu vv x9.2 kk rr tt gg aa dd bd ga im)) (y := ((u149).1, pp200)) (show (c_readClause ee ss pp cs) = ((u149).1, pp200) from (by have s9 := hu1.symm; subst s9; have s9 := hkd_9.symm; subst s9; have s9 := hpp12.symm; subst s9; have s9 := hu149.symm; subst s9; have s9 := hpp200.symm; subst s9; exact ((if_neg e63_0).trans ((if_neg e63_1).trans ((if_neg e63_2).trans ((if_neg e63_3).trans (if_pos e63_4))))))) hQ)
      by_cases e63_5 : kd_9 = 5
      · refine T_tableIn (off := 92) 155 (am_dec tX5_readClause_0 34 rfl) (by omega) (by omega) (by rw [e63_5]; rfl) rfl ?_
        refine T_aload_n (am_dec tX5_readClause_1 10 rfl) rfl ?_
        refine T_callV (as := []) rfl (am_dec tX5_readClause_1 11 rfl) lkX5_62 (show (hfW w hb sp rb rs hb (aR sp) ro ee hh ss uu vv pp12 kk rr tt gg aa dd bd ga im)[52]? = some (cO 5 [aR 51, aI (pp12 0 1), aI (pp12 0 2), aI (pp12 0 3), aI (pp12 0 4), aI (pp12 0 5), aR sp, aI (pp12 0 7), aI (pp12 0 8), aI (pp12 0 9), aI (pp12 0 10)]) from (hfW_c hl 52 (by decide))) rfl rfl (Nat.le_of_ble_eq_true rfl) (by omega) (mc_readSteamer (d := d - 1) hl hp hr   hIpp12 hTp hS (by omega)) (fun _ => ?_)
        obtain ⟨u156, hu156⟩ : ∃ x9, x9 = c_readSteamer ee ss pp12 := ⟨_, rfl⟩
        rw [← hu156]
        obtain ⟨hSu156, hIu156⟩ : SpI u156.1 ∧ RdI u156.2 := by rw [hu156]; exact c_readSteamer_x hIpp12 hTp hS
        refine T_goto 197 (am_dec tX5_readClause_1 12 rfl) rfl ?_
        refine T_aload_n (am_dec tX5_readClause_1 28 rfl) rfl ?_
        refine T_bipush 59 (am_dec tX5_readClause_1 29 rfl) rfl ⟨by decide, by decide⟩ ?_
        refine T_callU (as := [aI 59]) rfl (am_dec tX5_readClause_1 30 rfl) lkX5_80_X5 (show (hfW w hb sp rb rs hb (aR sp) ro ee hh ((u156).1) uu vv ((u156).2) kk rr tt gg aa dd bd ga im)[52]? = some (cO 5 [aR 51, aI ((u156).2 0 1), aI ((u156).2 0 2), aI ((u156).2 0 3), aI ((u156).2 0 4), aI ((u156).2 0 5), aR sp, aI ((u156).2 0 7), aI ((u156).2 0 8), aI ((u156).2 0 9), aI ((u156).2 0 10)]) from (hfW_c hl 52 (by decide))) rfl rfl (Nat.le_of_ble_eq_true rfl) (by omega) (mc_needSign (d := d - 1) hl hp hr 59  (by omega) hIu156 hTp (by omega)) (fun _ => ?_)
        refine T_nmH (W := fun x9 => hfW w hb sp rb rs hb (aR sp) ro ee hh ((u156).1) uu vv x9 kk rr tt gg aa dd bd ga im) (v := c_needSign ee ((u156).2) 59) (fun pp200 hpp200 => ?_)
        have hxpp200 : Rd2 ((u156).2) pp200 := by rw [hpp200]; exact (Rd2.rf hIu156).needSign hTp (by omega)
        have hIpp200 := hxpp200.1
        have hepp200_7 : pp200 0 7 = (u156).2 0 7 := hxpp200.2 0 7 (by decide)
        have hepp200_8 : pp200 0 8 = (u156).2 0 8 := hxpp200.2 0 8 (by decide)
        have hepp200_9 : pp200 0 9 = (u156).2 0 9 := hxpp200.2 0 9 (by decide)
        have hepp200_10 : pp200 0 10 = (u156).2 0 10 := hxpp200.2 0 10 (by decide)
        exact T_return (am_dec tX5_readClause_1 31 rfl) rfl (am_tr (fun (x9 : am_F × am_F) => Q (.inl none) (hfW w hb sp rb rs hb (aR sp) ro ee hh x9.1 uu vv x9.2 kk rr tt gg aa dd bd ga im)) (y := ((u156).1, pp200)) (show (c_readClause ee ss pp cs) = ((u156).1, pp200) from (by have s9 := hu1.symm; subst s9; have s9 := hkd_9.symm; subst s9; have s9 := hpp12.symm; subst s9; have s9 := hu156.symm; subst s9; have s9 := hpp200.symm; subst s9; exact ((if_neg e63_0).trans ((if_neg e63_1).trans ((if_neg e63_2).trans ((if_neg e63_3).trans ((if_neg e63_4).trans (if_pos e63_5)))))))) hQ)
      by_cases e63_6 : kd_9 = 6
      · refine T_tableIn (off := 99) 162 (am_dec tX5_readClause_0 34 rfl) (by omega) (by omega) (by rw [e63_6]; rfl) rfl ?_
        refine T_aload_n (am_dec tX5_readClause_1 13 rfl) rfl ?_
        refine T_callV (as := []) rfl (am_dec tX5_readClause_1 14 rfl) lkX5_65 (show (hfW w hb sp rb rs hb (aR sp) ro ee hh ss uu vv pp12 kk rr tt gg aa dd bd ga im)[52]? = some (cO 5 [aR 51, aI (pp12 0 1), aI (pp12 0 2), aI (pp12 0 3), aI (pp12 0 4), aI (pp12 0 5), aR sp, aI (pp12 0 7), aI (pp12 0 8), aI (pp12 0 9), aI (pp12 0 10)]) from (hfW_c hl 52 (by decide))) rfl rfl (Nat.le_of_ble_eq_true rfl) (by omega) (mc_readLot (d := d - 1) hl hp hr   hIpp12 hTp hS (by omega)) (fun _ => ?_)
        obtain ⟨u163, hu163⟩ : ∃ x9, x9 = c_readLot ee ss pp12 := ⟨_, rfl⟩
        rw [← hu163]
        obtain ⟨hSu163, hIu163⟩ : SpI u163.1 ∧ RdI u163.2 := by rw [hu163]; exact c_readLot_x hIpp12 hTp hS
        refine T_goto 197 (am_dec tX5_readClause_1 15 rfl) rfl ?_
        refine T_aload_n (am_dec tX5_readClause_1 28 rfl) rfl ?_
        refine T_bipush 59 (am_dec tX5_readClause_1 29 rfl) rfl ⟨by decide, by decide⟩ ?_
        refine T_callU (as := [aI 59]) rfl (am_dec tX5_readClause_1 30 rfl) lkX5_80_X5 (show (hfW w hb sp rb rs hb (aR sp) ro ee hh ((u163).1) uu vv ((u163).2) kk rr tt gg aa dd bd ga im)[52]? = some (cO 5 [aR 51, aI ((u163).2 0 1), aI ((u163).2 0 2), aI ((u163).2 0 3), aI ((u163).2 0 4), aI ((u163).2 0 5), aR sp, aI ((u163).2 0 7), aI ((u163).2 0 8), aI ((u163).2 0 9), aI ((u163).2 0 10)]) from (hfW_c hl 52 (by decide))) rfl rfl (Nat.le_of_ble_eq_true rfl) (by omega) (mc_needSign (d := d - 1) hl hp hr 59  (by omega) hIu163 hTp (by omega)) (fun _ => ?_)
        refine T_nmH (W := fun x9 => hfW w hb sp rb rs hb (aR sp) ro ee hh ((u163).1) uu vv x9 kk rr tt gg aa dd bd ga im) (v := c_needSign ee ((u163).2) 59) (fun pp200 hpp200 => ?_)
        have hxpp200 : Rd2 ((u163).2) pp200 := by rw [hpp200]; exact (Rd2.rf hIu163).needSign hTp (by omega)
        have hIpp200 := hxpp200.1
        have hepp200_7 : pp200 0 7 = (u163).2 0 7 := hxpp200.2 0 7 (by decide)
        have hepp200_8 : pp200 0 8 = (u163).2 0 8 := hxpp200.2 0 8 (by decide)
        have hepp200_9 : pp200 0 9 = (u163).2 0 9 := hxpp200.2 0 9 (by decide)
        have hepp200_10 : pp200 0 10 = (u163).2 0 10 := hxpp200.2 0 10 (by decide)
        exact T_return (am_dec tX5_readClause_1 31 rfl) rfl (am_tr (fun (x9 : am_F × am_F) => Q (.inl none) (hfW w hb sp rb rs hb (aR sp) ro ee hh x9.1 uu vv x9.2 kk rr tt gg aa dd bd ga im)) (y := ((u163).1, pp200)) (show (c_readClause ee ss pp cs) = ((u163).1, pp200) from (by have s9 := hu1.symm; subst s9; have s9 := hkd_9.symm; subst s9; have s9 := hpp12.symm; subst s9; have s9 := hu163.symm; subst s9; have s9 := hpp200.symm; subst s9; exact ((if_neg e63_0).trans ((if_neg e63_1).trans ((if_neg e63_2).trans ((if_neg e63_3).trans ((if_neg e63_4).trans ((if_neg e63_5).trans (if_pos e63_6))))))))) hQ)
      by_cases e63_7 : kd_9 = 7
      · refine T_tableIn (off := 106) 169 (am_dec tX5_readClause_0 34 rfl) (by omega) (by omega) (by rw [e63_7]; rfl) rfl ?_
        refine T_aload_n (am_dec tX5_readClause_1 16 rfl) rfl ?_
        refine T_callV (as := []) rfl (am_dec tX5_readClause_1 17 rfl) lkX5_68 (show (hfW w hb sp rb rs hb (aR sp) ro ee hh ss uu vv pp12 kk rr tt gg aa dd bd ga im)[52]? = some (cO 5 [aR 51, aI (pp12 0 1), aI (pp12 0 2), aI (pp12 0 3), aI (pp12 0 4), aI (pp12 0 5), aR sp, aI (pp12 0 7), aI (pp12 0 8), aI (pp12 0 9), aI (pp12 0 10)]) from (hfW_c hl 52 (by decide))) rfl rfl (Nat.le_of_ble_eq_true rfl) (by omega) (mc_readWalk (d := d - 1) hl hp hr   hIpp12 hTp hS (by omega)) (fun _ => ?_)
        obtain ⟨u170, hu170⟩ : ∃ x9, x9 = c_readWalk ee ss pp12 := ⟨_, rfl⟩
        rw [← hu170]
        obtain ⟨hSu170, hIu170⟩ : SpI u170.1 ∧ RdI u170.2 := by rw [hu170]; exact c_readWalk_x hIpp12 hTp hS
        refine T_goto 197 (am_dec tX5_readClause_1 18 rfl) rfl ?_
        refine T_aload_n (am_dec tX5_readClause_1 28 rfl) rfl ?_
        refine T_bipush 59 (am_dec tX5_readClause_1 29 rfl) rfl ⟨by decide, by decide⟩ ?_
        refine T_callU (as := [aI 59]) rfl (am_dec tX5_readClause_1 30 rfl) lkX5_80_X5 (show (hfW w hb sp rb rs hb (aR sp) ro ee hh ((u170).1) uu vv ((u170).2) kk rr tt gg aa dd bd ga im)[52]? = some (cO 5 [aR 51, aI ((u170).2 0 1), aI ((u170).2 0 2), aI ((u170).2 0 3), aI ((u170).2 0 4), aI ((u170).2 0 5), aR sp, aI ((u170).2 0 7), aI ((u170).2 0 8), aI ((u170).2 0 9), aI ((u170).2 0 10)]) from (hfW_c hl 52 (by decide))) rfl rfl (Nat.le_of_ble_eq_true rfl) (by omega) (mc_needSign (d := d - 1) hl hp hr 59  (by omega) hIu170 hTp (by omega)) (fun _ => ?_)
        refine T_nmH (W := fun x9 => hfW w hb sp rb rs hb (aR sp) ro ee hh ((u170).1) uu vv x9 kk rr tt gg aa dd bd ga im) (v := c_needSign ee ((u170).2) 59) (fun pp200 hpp200 => ?_)
        have hxpp200 : Rd2 ((u170).2) pp200 := by rw [hpp200]; exact (Rd2.rf hIu170).needSign hTp (by omega)
        have hIpp200 := hxpp200.1
        have hepp200_7 : pp200 0 7 = (u170).2 0 7 := hxpp200.2 0 7 (by decide)
        have hepp200_8 : pp200 0 8 = (u170).2 0 8 := hxpp200.2 0 8 (by decide)
        have hepp200_9 : pp200 0 9 = (u170).2 0 9 := hxpp200.2 0 9 (by decide)
        have hepp200_10 : pp200 0 10 = (u170).2 0 10 := hxpp200.2 0 10 (by decide)
        exact T_return (am_dec tX5_readClause_1 31 rfl) rfl (am_tr (fun (x9 : am_F × am_F) => Q (.inl none) (hfW w hb sp rb rs hb (aR sp) ro ee hh x9.1 uu vv x9.2 kk rr tt gg aa dd bd ga im)) (y := ((u170).1, pp200)) (show (c_readClause ee ss pp cs) = ((u170).1, pp200) from (by have s9 := hu1.symm; subst s9; have s9 := hkd_9.symm; subst s9; have s9 := hpp12.symm; subst s9; have s9 := hu170.symm; subst s9; have s9 := hpp200.symm; subst s9; exact ((if_neg e63_0).trans ((if_neg e63_1).trans ((if_neg e63_2).trans ((if_neg e63_3).trans ((if_neg e63_4).trans ((if_neg e63_5).trans ((if_neg e63_6).trans (if_pos e63_7)))))))))) hQ)
      by_cases e63_8 : kd_9 = 8
      · refine T_tableIn (off := 113) 176 (am_dec tX5_readClause_0 34 rfl) (by omega) (by omega) (by rw [e63_8]; rfl) rfl ?_
        refine T_aload_n (am_dec tX5_readClause_1 19 rfl) rfl ?_
        refine T_callV (as := []) rfl (am_dec tX5_readClause_1 20 rfl) lkX5_71 (show (hfW w hb sp rb rs hb (aR sp) ro ee hh ss uu vv pp12 kk rr tt gg aa dd bd ga im)[52]? = some (cO 5 [aR 51, aI (pp12 0 1), aI (pp12 0 2), aI (pp12 0 3), aI (pp12 0 4), aI (pp12 0 5), aR sp, aI (pp12 0 7), aI (pp12 0 8), aI (pp12 0 9), aI (pp12 0 10)]) from (hfW_c hl 52 (by decide))) rfl rfl (Nat.le_of_ble_eq_true rfl) (by omega) (mc_readWatch (d := d - 1) hl hp hr   hIpp12 hTp hS (by omega)) (fun _ => ?_)
        obtain ⟨u177, hu177⟩ : ∃ x9, x9 = c_readWatch ee ss pp12 := ⟨_, rfl⟩
        rw [← hu177]
        obtain ⟨hSu177, hIu177⟩ : SpI u177.1 ∧ RdI u177.2 := by rw [hu177]; exact c_readWatch_x hIpp12 hTp hS
        refine T_goto 197 (am_dec tX5_readClause_1 21 rfl) rfl ?_
        refine T_aload_n (am_dec tX5_readClause_1 28 rfl) rfl ?_
        refine T_bipush 59 (am_dec tX5_readClause_1 29 rfl) rfl ⟨by decide, by decide⟩ ?_
        refine T_callU (as := [aI 59]) rfl (am_dec tX5_readClause_1 30 rfl) lkX5_80_X5 (show (hfW w hb sp rb rs hb (aR sp) ro ee hh ((u177).1) uu vv ((u177).2) kk rr tt gg aa dd bd ga im)[52]? = some (cO 5 [aR 51, aI ((u177).2 0 1), aI ((u177).2 0 2), aI ((u177).2 0 3), aI ((u177).2 0 4), aI ((u177).2 0 5), aR sp, aI ((u177).2 0 7), aI ((u177).2 0 8), aI ((u177).2 0 9), aI ((u177).2 0 10)]) from (hfW_c hl 52 (by decide))) rfl rfl (Nat.le_of_ble_eq_true rfl) (by omega) (mc_needSign (d := d - 1) hl hp hr 59  (by omega) hIu177 hTp (by omega)) (fun _ => ?_)
        refine T_nmH (W := fun x9 => hfW w hb sp rb rs hb (aR sp) ro ee hh ((u177).1) uu vv x9 kk rr tt gg aa dd bd ga im) (v := c_needSign ee ((u177).2) 59) (fun pp200 hpp200 => ?_)
        have hxpp200 : Rd2 ((u177).2) pp200 := by rw [hpp200]; exact (Rd2.rf hIu177).needSign hTp (by omega)
        have hIpp200 := hxpp200.1
        have hepp200_7 : pp200 0 7 = (u177).2 0 7 := hxpp200.2 0 7 (by decide)
        have hepp200_8 : pp200 0 8 = (u177).2 0 8 := hxpp200.2 0 8 (by decide)
        have hepp200_9 : pp200 0 9 = (u177).2 0 9 := hxpp200.2 0 9 (by decide)
        have hepp200_10 : pp200 0 10 = (u177).2 0 10 := hxpp200.2 0 10 (by decide)
        exact T_return (am_dec tX5_readClause_1 31 rfl) rfl (am_tr (fun (x9 : am_F × am_F) => Q (.inl none) (hfW w hb sp rb rs hb (aR sp) ro ee hh x9.1 uu vv x9.2 kk rr tt gg aa dd bd ga im)) (y := ((u177).1, pp200)) (show (c_readClause ee ss pp cs) = ((u177).1, pp200) from (by have s9 := hu1.symm; subst s9; have s9 := hkd_9.symm; subst s9; have s9 := hpp12.symm; subst s9; have s9 := hu177.symm; subst s9; have s9 := hpp200.symm; subst s9; exact ((if_neg e63_0).trans ((if_neg e63_1).trans ((if_neg e63_2).trans ((if_neg e63_3).trans ((if_neg e63_4).trans ((if_neg e63_5).trans ((if_neg e63_6).trans ((if_neg e63_7).trans (if_pos e63_8))))))))))) hQ)
      by_cases e63_9 : kd_9 = 9
      · refine T_tableIn (off := 120) 183 (am_dec tX5_readClause_0 34 rfl) (by omega) (by omega) (by rw [e63_9]; rfl) rfl ?_
        refine T_aload_n (am_dec tX5_readClause_1 22 rfl) rfl ?_
        refine T_callV (as := []) rfl (am_dec tX5_readClause_1 23 rfl) lkX5_74 (show (hfW w hb sp rb rs hb (aR sp) ro ee hh ss uu vv pp12 kk rr tt gg aa dd bd ga im)[52]? = some (cO 5 [aR 51, aI (pp12 0 1), aI (pp12 0 2), aI (pp12 0 3), aI (pp12 0 4), aI (pp12 0 5), aR sp, aI (pp12 0 7), aI (pp12 0 8), aI (pp12 0 9), aI (pp12 0 10)]) from (hfW_c hl 52 (by decide))) rfl rfl (Nat.le_of_ble_eq_true rfl) (by omega) (mc_readSight (d := d - 1) hl hp hr   hIpp12 hTp hS (by omega)) (fun _ => ?_)
        obtain ⟨u184, hu184⟩ : ∃ x9, x9 = c_readSight ee ss pp12 := ⟨_, rfl⟩
        rw [← hu184]
        obtain ⟨hSu184, hIu184⟩ : SpI u184.1 ∧ RdI u184.2 := by rw [hu184]; exact c_readSight_x hIpp12 hTp hS
        refine T_goto 197 (am_dec tX5_readClause_1 24 rfl) rfl ?_
        refine T_aload_n (am_dec tX5_readClause_1 28 rfl) rfl ?_
        refine T_bipush 59 (am_dec tX5_readClause_1 29 rfl) rfl ⟨by decide, by decide⟩ ?_
        refine T_callU (as := [aI 59]) rfl (am_dec tX5_readClause_1 30 rfl) lkX5_80_X5 (show (hfW w hb sp rb rs hb (aR sp) ro ee hh ((u184).1) uu vv ((u184).2) kk rr tt gg aa dd bd ga im)[52]? = some (cO 5 [aR 51, aI ((u184).2 0 1), aI ((u184).2 0 2), aI ((u184).2 0 3), aI ((u184).2 0 4), aI ((u184).2 0 5), aR sp, aI ((u184).2 0 7), aI ((u184).2 0 8), aI ((u184).2 0 9), aI ((u184).2 0 10)]) from (hfW_c hl 52 (by decide))) rfl rfl (Nat.le_of_ble_eq_true rfl) (by omega) (mc_needSign (d := d - 1) hl hp hr 59  (by omega) hIu184 hTp (by omega)) (fun _ => ?_)
        refine T_nmH (W := fun x9 => hfW w hb sp rb rs hb (aR sp) ro ee hh ((u184).1) uu vv x9 kk rr tt gg aa dd bd ga im) (v := c_needSign ee ((u184).2) 59) (fun pp200 hpp200 => ?_)
        have hxpp200 : Rd2 ((u184).2) pp200 := by rw [hpp200]; exact (Rd2.rf hIu184).needSign hTp (by omega)
        have hIpp200 := hxpp200.1
        have hepp200_7 : pp200 0 7 = (u184).2 0 7 := hxpp200.2 0 7 (by decide)
        have hepp200_8 : pp200 0 8 = (u184).2 0 8 := hxpp200.2 0 8 (by decide)
        have hepp200_9 : pp200 0 9 = (u184).2 0 9 := hxpp200.2 0 9 (by decide)
        have hepp200_10 : pp200 0 10 = (u184).2 0 10 := hxpp200.2 0 10 (by decide)
        exact T_return (am_dec tX5_readClause_1 31 rfl) rfl (am_tr (fun (x9 : am_F × am_F) => Q (.inl none) (hfW w hb sp rb rs hb (aR sp) ro ee hh x9.1 uu vv x9.2 kk rr tt gg aa dd bd ga im)) (y := ((u184).1, pp200)) (show (c_readClause ee ss pp cs) = ((u184).1, pp200) from (by have s9 := hu1.symm; subst s9; have s9 := hkd_9.symm; subst s9; have s9 := hpp12.symm; subst s9; have s9 := hu184.symm; subst s9; have s9 := hpp200.symm; subst s9; exact ((if_neg e63_0).trans ((if_neg e63_1).trans ((if_neg e63_2).trans ((if_neg e63_3).trans ((if_neg e63_4).trans ((if_neg e63_5).trans ((if_neg e63_6).trans ((if_neg e63_7).trans ((if_neg e63_8).trans (if_pos e63_9)))))))))))) hQ)
      by_cases e63_10 : kd_9 = 10
      · refine T_tableIn (off := 127) 190 (am_dec tX5_readClause_0 34 rfl) (by omega) (by omega) (by rw [e63_10]; rfl) rfl ?_
        refine T_aload_n (am_dec tX5_readClause_1 25 rfl) rfl ?_
        refine T_callV (as := []) rfl (am_dec tX5_readClause_1 26 rfl) lkX5_77 (show (hfW w hb sp rb rs hb (aR sp) ro ee hh ss uu vv pp12 kk rr tt gg aa dd bd ga im)[52]? = some (cO 5 [aR 51, aI (pp12 0 1), aI (pp12 0 2), aI (pp12 0 3), aI (pp12 0 4), aI (pp12 0 5), aR sp, aI (pp12 0 7), aI (pp12 0 8), aI (pp12 0 9), aI (pp12 0 10)]) from (hfW_c hl 52 (by decide))) rfl rfl (Nat.le_of_ble_eq_true rfl) (by omega) (mc_readShip (d := d - 1) hl hp hr   hIpp12 hTp hS (by omega)) (fun _ => ?_)
        obtain ⟨u191, hu191⟩ : ∃ x9, x9 = c_readShip ee ss pp12 := ⟨_, rfl⟩
        rw [← hu191]
        obtain ⟨hSu191, hIu191⟩ : SpI u191.1 ∧ RdI u191.2 := by rw [hu191]; exact c_readShip_x hIpp12 hTp hS
        refine T_goto 197 (am_dec tX5_readClause_1 27 rfl) rfl ?_
        refine T_aload_n (am_dec tX5_readClause_1 28 rfl) rfl ?_
        refine T_bipush 59 (am_dec tX5_readClause_1 29 rfl) rfl ⟨by decide, by decide⟩ ?_
        refine T_callU (as := [aI 59]) rfl (am_dec tX5_readClause_1 30 rfl) lkX5_80_X5 (show (hfW w hb sp rb rs hb (aR sp) ro ee hh ((u191).1) uu vv ((u191).2) kk rr tt gg aa dd bd ga im)[52]? = some (cO 5 [aR 51, aI ((u191).2 0 1), aI ((u191).2 0 2), aI ((u191).2 0 3), aI ((u191).2 0 4), aI ((u191).2 0 5), aR sp, aI ((u191).2 0 7), aI ((u191).2 0 8), aI ((u191).2 0 9), aI ((u191).2 0 10)]) from (hfW_c hl 52 (by decide))) rfl rfl (Nat.le_of_ble_eq_true rfl) (by omega) (mc_needSign (d := d - 1) hl hp hr 59  (by omega) hIu191 hTp (by omega)) (fun _ => ?_)
        refine T_nmH (W := fun x9 => hfW w hb sp rb rs hb (aR sp) ro ee hh ((u191).1) uu vv x9 kk rr tt gg aa dd bd ga im) (v := c_needSign ee ((u191).2) 59) (fun pp200 hpp200 => ?_)
        have hxpp200 : Rd2 ((u191).2) pp200 := by rw [hpp200]; exact (Rd2.rf hIu191).needSign hTp (by omega)
        have hIpp200 := hxpp200.1
        have hepp200_7 : pp200 0 7 = (u191).2 0 7 := hxpp200.2 0 7 (by decide)
        have hepp200_8 : pp200 0 8 = (u191).2 0 8 := hxpp200.2 0 8 (by decide)
        have hepp200_9 : pp200 0 9 = (u191).2 0 9 := hxpp200.2 0 9 (by decide)
        have hepp200_10 : pp200 0 10 = (u191).2 0 10 := hxpp200.2 0 10 (by decide)
        exact T_return (am_dec tX5_readClause_1 31 rfl) rfl (am_tr (fun (x9 : am_F × am_F) => Q (.inl none) (hfW w hb sp rb rs hb (aR sp) ro ee hh x9.1 uu vv x9.2 kk rr tt gg aa dd bd ga im)) (y := ((u191).1, pp200)) (show (c_readClause ee ss pp cs) = ((u191).1, pp200) from (by have s9 := hu1.symm; subst s9; have s9 := hkd_9.symm; subst s9; have s9 := hpp12.symm; subst s9; have s9 := hu191.symm; subst s9; have s9 := hpp200.symm; subst s9; exact ((if_neg e63_0).trans ((if_neg e63_1).trans ((if_neg e63_2).trans ((if_neg e63_3).trans ((if_neg e63_4).trans ((if_neg e63_5).trans ((if_neg e63_6).trans ((if_neg e63_7).trans ((if_neg e63_8).trans ((if_neg e63_9).trans (if_pos e63_10))))))))))))) hQ)
      refine T_tableOut 197 (am_dec tX5_readClause_0 34 rfl) (by omega) rfl ?_
      refine T_aload_n (am_dec tX5_readClause_1 28 rfl) rfl ?_
      refine T_bipush 59 (am_dec tX5_readClause_1 29 rfl) rfl ⟨by decide, by decide⟩ ?_
      refine T_callU (as := [aI 59]) rfl (am_dec tX5_readClause_1 30 rfl) lkX5_80_X5 (show (hfW w hb sp rb rs hb (aR sp) ro ee hh ss uu vv pp12 kk rr tt gg aa dd bd ga im)[52]? = some (cO 5 [aR 51, aI (pp12 0 1), aI (pp12 0 2), aI (pp12 0 3), aI (pp12 0 4), aI (pp12 0 5), aR sp, aI (pp12 0 7), aI (pp12 0 8), aI (pp12 0 9), aI (pp12 0 10)]) from (hfW_c hl 52 (by decide))) rfl rfl (Nat.le_of_ble_eq_true rfl) (by omega) (mc_needSign (d := d - 1) hl hp hr 59  (by omega) hIpp12 hTp (by omega)) (fun _ => ?_)
      refine T_nmH (W := fun x9 => hfW w hb sp rb rs hb (aR sp) ro ee hh ss uu vv x9 kk rr tt gg aa dd bd ga im) (v := c_needSign ee pp12 59) (fun pp200 hpp200 => ?_)
      have hxpp200 : Rd2 pp12 pp200 := by rw [hpp200]; exact (Rd2.rf hIpp12).needSign hTp (by omega)
      have hIpp200 := hxpp200.1
      have hepp200_7 : pp200 0 7 = pp12 0 7 := hxpp200.2 0 7 (by decide)
      have hepp200_8 : pp200 0 8 = pp12 0 8 := hxpp200.2 0 8 (by decide)
      have hepp200_9 : pp200 0 9 = pp12 0 9 := hxpp200.2 0 9 (by decide)
      have hepp200_10 : pp200 0 10 = pp12 0 10 := hxpp200.2 0 10 (by decide)
      exact T_return (am_dec tX5_readClause_1 31 rfl) rfl (am_tr (fun (x9 : am_F × am_F) => Q (.inl none) (hfW w hb sp rb rs hb (aR sp) ro ee hh x9.1 uu vv x9.2 kk rr tt gg aa dd bd ga im)) (y := (ss, pp200)) (show (c_readClause ee ss pp cs) = (ss, pp200) from (by have s9 := hu1.symm; subst s9; have s9 := hkd_9.symm; subst s9; have s9 := hpp12.symm; subst s9; have s9 := hpp200.symm; subst s9; exact ((if_neg e63_0).trans ((if_neg e63_1).trans ((if_neg e63_2).trans ((if_neg e63_3).trans ((if_neg e63_4).trans ((if_neg e63_5).trans ((if_neg e63_6).trans ((if_neg e63_7).trans ((if_neg e63_8).trans ((if_neg e63_9).trans (if_neg e63_10))))))))))))) hQ)
    refine T_icmp_ne 27 (am_dec tX5_readClause_0 8 rfl) rfl (fun h12 => ?_) (fun h12 => ?_)
    · refine T_iload_n (am_dec tX5_readClause_0 15 rfl) rfl ?_
      refine T_bipush 60 (am_dec tX5_readClause_0 16 rfl) rfl ⟨by decide, by decide⟩ ?_
      have K30 : ∀ (pp30 : am_F), pp30 = (if cs < 60 then (if kd_9 = 0 then (if cs ≤ 0 then ((u1).2) else c_wrong ((u1).2) 4 ((u1).2 0 3)) else ((u1).2)) else c_wrong ((u1).2) 3 ((u1).2 0 3)) →  am_T S zX5_readClause d u Q 62 [some (aR 52), none, some (aI kd_9)] [] (hfW w hb sp rb rs hb (aR sp) ro ee hh ss uu vv pp30 kk rr tt gg aa dd bd ga im) := by
        intro pp30 hpp30 
        have hIpp30 : RdI pp30 := by
          rw [hpp30]
          try dsimp only
          repeat' split
          all_goals first | exact hIu1 | exact c_wrong_I hIu1 _ _
        exact K12 _ (by have s9 := hpp30.symm; subst s9; exact (if_neg h12).symm) 
      refine T_icmp_lt 45 (am_dec tX5_readClause_0 17 rfl) rfl (fun h30 => ?_) (fun h30 => ?_)
      · refine T_iload_n (am_dec tX5_readClause_0 24 rfl) rfl ?_
        have K46 : ∀ (pp46 : am_F), pp46 = (if kd_9 = 0 then (if cs ≤ 0 then ((u1).2) else c_wrong ((u1).2) 4 ((u1).2 0 3)) else ((u1).2)) →  am_T S zX5_readClause d u Q 62 [some (aR 52), none, some (aI kd_9)] [] (hfW w hb sp rb rs hb (aR sp) ro ee hh ss uu vv pp46 kk rr tt gg aa dd bd ga im) := by
          intro pp46 hpp46 
          have hIpp46 : RdI pp46 := by
            rw [hpp46]
            try dsimp only
            repeat' split
            all_goals first | exact hIu1 | exact c_wrong_I hIu1 _ _
          exact K30 _ (by have s9 := hpp46.symm; subst s9; exact (if_pos h30).symm) 
        refine T_if_ne 62 (am_dec tX5_readClause_0 25 rfl) rfl (fun h46 => ?_) (fun h46 => ?_)
        · refine T_weak (ls' := [some (aR 52), none, some (aI kd_9)]) (am_sub_s (am_sub_n (am_sub_s am_sub_nil))) ?_
          exact K46 _ (if_neg h46).symm 
        · refine T_iload_n (am_dec tX5_readClause_0 26 rfl) rfl ?_
          have K50 : ∀ (pp50 : am_F), pp50 = (if cs ≤ 0 then ((u1).2) else c_wrong ((u1).2) 4 ((u1).2 0 3)) →  am_T S zX5_readClause d u Q 62 [some (aR 52), none, some (aI kd_9)] [] (hfW w hb sp rb rs hb (aR sp) ro ee hh ss uu vv pp50 kk rr tt gg aa dd bd ga im) := by
            intro pp50 hpp50 
            have hIpp50 : RdI pp50 := by
              rw [hpp50]
              try dsimp only
              repeat' split
              all_goals first | exact hIu1 | exact c_wrong_I hIu1 _ _
            exact K46 _ (by have s9 := hpp50.symm; subst s9; exact (if_pos h46).symm) 
          refine T_if_le 62 (am_dec tX5_readClause_0 27 rfl) rfl (fun h50 => ?_) (fun h50 => ?_)
          · refine T_weak (ls' := [some (aR 52), none, some (aI kd_9)]) (am_sub_s (am_sub_n (am_sub_s am_sub_nil))) ?_
            exact K50 _ (if_pos h50).symm 
          · refine T_aload_n (am_dec tX5_readClause_0 28 rfl) rfl ?_
            refine T_iconst 4 (am_dec tX5_readClause_0 29 rfl) rfl ⟨by decide, by decide⟩ ?_
            refine T_aload_n (am_dec tX5_readClause_0 30 rfl) rfl ?_
            refine T_getfield 5 3 (am_dec tX5_readClause_0 31 rfl) flX5_39_5 (show (hfW w hb sp rb rs hb (aR sp) ro ee hh ss uu vv ((u1).2) kk rr tt gg aa dd bd ga im)[52]? = some (cO 5 [aR 51, aI ((u1).2 0 1), aI ((u1).2 0 2), aI ((u1).2 0 3), aI ((u1).2 0 4), aI ((u1).2 0 5), aR sp, aI ((u1).2 0 7), aI ((u1).2 0 8), aI ((u1).2 0 9), aI ((u1).2 0 10)]) from (hfW_c hl 52 (by decide))) rfl ?_
            refine T_callU (as := [aI 4, aI ((u1).2 0 3)]) rfl (am_dec tX5_readClause_0 32 rfl) lkX5_43_X5 (show (hfW w hb sp rb rs hb (aR sp) ro ee hh ss uu vv ((u1).2) kk rr tt gg aa dd bd ga im)[52]? = some (cO 5 [aR 51, aI ((u1).2 0 1), aI ((u1).2 0 2), aI ((u1).2 0 3), aI ((u1).2 0 4), aI ((u1).2 0 5), aR sp, aI ((u1).2 0 7), aI ((u1).2 0 8), aI ((u1).2 0 9), aI ((u1).2 0 10)]) from (hfW_c hl 52 (by decide))) rfl rfl (Nat.le_of_ble_eq_true rfl) (by omega) (mc_wrong (d := d - 1) hl hp hr 4 ((u1).2 0 3)   (by omega)) (fun _ => ?_)
            refine T_nmH (W := fun x9 => hfW w hb sp rb rs hb (aR sp) ro ee hh ss uu vv x9 kk rr tt gg aa dd bd ga im) (v := c_wrong ((u1).2) 4 ((u1).2 0 3)) (fun pp59 hpp59 => ?_)
            have hIpp59 : RdI pp59 := by rw [hpp59]; exact c_wrong_I hIu1 _ _
            refine T_weak (ls' := [some (aR 52), none, some (aI kd_9)]) (am_sub_s (am_sub_n (am_sub_s am_sub_nil))) ?_
            exact K50 _ (by have s9 := hpp59.symm; subst s9; exact (if_neg h50).symm) 
      · refine T_aload_n (am_dec tX5_readClause_0 18 rfl) rfl ?_
        refine T_iconst 3 (am_dec tX5_readClause_0 19 rfl) rfl ⟨by decide, by decide⟩ ?_
        refine T_aload_n (am_dec tX5_readClause_0 20 rfl) rfl ?_
        refine T_getfield 5 3 (am_dec tX5_readClause_0 21 rfl) flX5_39_5 (show (hfW w hb sp rb rs hb (aR sp) ro ee hh ss uu vv ((u1).2) kk rr tt gg aa dd bd ga im)[52]? = some (cO 5 [aR 51, aI ((u1).2 0 1), aI ((u1).2 0 2), aI ((u1).2 0 3), aI ((u1).2 0 4), aI ((u1).2 0 5), aR sp, aI ((u1).2 0 7), aI ((u1).2 0 8), aI ((u1).2 0 9), aI ((u1).2 0 10)]) from (hfW_c hl 52 (by decide))) rfl ?_
        refine T_callU (as := [aI 3, aI ((u1).2 0 3)]) rfl (am_dec tX5_readClause_0 22 rfl) lkX5_43_X5 (show (hfW w hb sp rb rs hb (aR sp) ro ee hh ss uu vv ((u1).2) kk rr tt gg aa dd bd ga im)[52]? = some (cO 5 [aR 51, aI ((u1).2 0 1), aI ((u1).2 0 2), aI ((u1).2 0 3), aI ((u1).2 0 4), aI ((u1).2 0 5), aR sp, aI ((u1).2 0 7), aI ((u1).2 0 8), aI ((u1).2 0 9), aI ((u1).2 0 10)]) from (hfW_c hl 52 (by decide))) rfl rfl (Nat.le_of_ble_eq_true rfl) (by omega) (mc_wrong (d := d - 1) hl hp hr 3 ((u1).2 0 3)   (by omega)) (fun _ => ?_)
        refine T_nmH (W := fun x9 => hfW w hb sp rb rs hb (aR sp) ro ee hh ss uu vv x9 kk rr tt gg aa dd bd ga im) (v := c_wrong ((u1).2) 3 ((u1).2 0 3)) (fun pp39 hpp39 => ?_)
        have hIpp39 : RdI pp39 := by rw [hpp39]; exact c_wrong_I hIu1 _ _
        refine T_goto 62 (am_dec tX5_readClause_0 23 rfl) rfl ?_
        refine T_weak (ls' := [some (aR 52), none, some (aI kd_9)]) (am_sub_s (am_sub_n (am_sub_s am_sub_nil))) ?_
        exact K30 _ (by have s9 := hpp39.symm; subst s9; exact (if_neg h30).symm) 
    · refine T_aload_n (am_dec tX5_readClause_0 9 rfl) rfl ?_
      refine T_iconst 1 (am_dec tX5_readClause_0 10 rfl) rfl ⟨by decide, by decide⟩ ?_
      refine T_aload_n (am_dec tX5_readClause_0 11 rfl) rfl ?_
      refine T_getfield 5 3 (am_dec tX5_readClause_0 12 rfl) flX5_39_5 (show (hfW w hb sp rb rs hb (aR sp) ro ee hh ss uu vv ((u1).2) kk rr tt gg aa dd bd ga im)[52]? = some (cO 5 [aR 51, aI ((u1).2 0 1), aI ((u1).2 0 2), aI ((u1).2 0 3), aI ((u1).2 0 4), aI ((u1).2 0 5), aR sp, aI ((u1).2 0 7), aI ((u1).2 0 8), aI ((u1).2 0 9), aI ((u1).2 0 10)]) from (hfW_c hl 52 (by decide))) rfl ?_
      refine T_callU (as := [aI 1, aI ((u1).2 0 3)]) rfl (am_dec tX5_readClause_0 13 rfl) lkX5_43_X5 (show (hfW w hb sp rb rs hb (aR sp) ro ee hh ss uu vv ((u1).2) kk rr tt gg aa dd bd ga im)[52]? = some (cO 5 [aR 51, aI ((u1).2 0 1), aI ((u1).2 0 2), aI ((u1).2 0 3), aI ((u1).2 0 4), aI ((u1).2 0 5), aR sp, aI ((u1).2 0 7), aI ((u1).2 0 8), aI ((u1).2 0 9), aI ((u1).2 0 10)]) from (hfW_c hl 52 (by decide))) rfl rfl (Nat.le_of_ble_eq_true rfl) (by omega) (mc_wrong (d := d - 1) hl hp hr 1 ((u1).2 0 3)   (by omega)) (fun _ => ?_)
      refine T_nmH (W := fun x9 => hfW w hb sp rb rs hb (aR sp) ro ee hh ss uu vv x9 kk rr tt gg aa dd bd ga im) (v := c_wrong ((u1).2) 1 ((u1).2 0 3)) (fun pp21 hpp21 => ?_)
      have hIpp21 : RdI pp21 := by rw [hpp21]; exact c_wrong_I hIu1 _ _
      refine T_goto 62 (am_dec tX5_readClause_0 14 rfl) rfl ?_
      refine T_weak (ls' := [some (aR 52), none, some (aI kd_9)]) (am_sub_s (am_sub_n (am_sub_s am_sub_nil))) ?_
      exact K12 _ (by have s9 := hpp21.symm; subst s9; exact (if_pos h12).symm) 
  exact key _ ⟨rfl, rfl⟩
