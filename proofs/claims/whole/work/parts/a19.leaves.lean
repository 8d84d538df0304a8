/-! the rule reader: leaves -/
def RvI (v : am_F) : Prop := RuI v ∧ 0 ≤ v 0 1 ∧ v 0 1 ≤ 200
theorem f_rput_I {v : am_F} (q : RvI v) (x : Int) : RvI (f_rput v x) := by
  obtain ⟨⟨q1, q2⟩, q3, q4⟩ := q
  unfold f_rput
  split
  · exact ⟨⟨q1, q2⟩, by show 0 ≤ v 0 1 + 1; omega, by show v 0 1 + 1 ≤ 200; omega⟩
  · exact ⟨⟨q1, q2⟩, q3, q4⟩
theorem f_endPart_I {v : am_F} (q : RvI v) (x : Int) : RvI (f_endPart v x) := by
  obtain ⟨⟨q1, q2⟩, q3, q4⟩ := q
  unfold f_endPart
  split
  · refine ⟨⟨fun j => ?_, by show 0 ≤ v 0 0 + 1; omega⟩, q3, q4⟩
    show 0 ≤ am_up (v 3) (v 0 0).toNat (v 0 1) j ∧ am_up (v 3) (v 0 0).toNat (v 0 1) j ≤ 200
    unfold am_up
    split
    · exact ⟨q3, q4⟩
    · exact q1 j
  · exact ⟨⟨q1, q2⟩, q3, q4⟩
theorem f_rreset_I {v : am_F} (q : RuI v) : RvI (am_put (am_put v 0 0 0) 0 1 0) := ⟨⟨q.1, by show (0 : Int) ≤ 0; decide⟩, by show (0 : Int) ≤ 0; decide, by show (0 : Int) ≤ 200; decide⟩
def c_partKind (ee : am_F) (kk : am_F) : Int := (let z3 : Int := (c_isWord ee kk 11); (if z3 = 0 then (let z14 : Int := (c_isWord ee kk 12); (if z14 = 0 then (let z25 : Int := (c_isWord ee kk 13); (if z25 = 0 then (let z36 : Int := (c_isWord ee kk 14); (if z36 = 0 then (-1) else 3)) else 2)) else 1)) else 0))
theorem mc_partKind {S : am_S} {d u : Nat} {w : AH} {hb sp rb rs : Nat} {po : AV} (hl : 109 ≤ w.length) (hp : hb = 1 ∧ sp = 21 ∨ hb = 21 ∧ sp = 1) (hr : rb = 41 ∧ rs = 46 ∨ rb = 46 ∧ rs = 41) {ee : am_F} {hh : am_F} {ss : am_F} {uu : am_F} {vv : am_F} {pp : am_F} {kk : am_F} {rr : am_F} {tt : am_F} {gg : am_F} {aa : am_F} {dd : am_F} {bd : am_F} {ga : am_F} {im : am_F}  (hP : RdI kk) (hTp : TpI ee)  (hd : 5 ≤ d) : am_Out S zX8_partKind d u [aR 53] (hfW w hb sp rb rs hb po (aR rs) ee hh ss uu vv pp kk rr tt gg aa dd bd ga im) (.inl (some (aI (c_partKind ee kk)))) (hfW w hb sp rb rs hb po (aR rs) ee hh ss uu vv pp kk rr tt gg aa dd bd ga im) := by
  have key : ∀ Q : AO → AH → Prop, Q (.inl (some (aI (c_partKind ee kk)))) (hfW w hb sp rb rs hb po (aR rs) ee hh ss uu vv pp kk rr tt gg aa dd bd ga im) → am_M S zX8_partKind d u [aR 53] (hfW w hb sp rb rs hb po (aR rs) ee hh ss uu vv pp kk rr tt gg aa dd bd ga im) Q := by
    intro Q hQ
    refine am_body rfl (by decide +kernel) rfl (am_cats_cons rfl (am_cats_nil)) (Nat.le_of_ble_eq_true rfl) (?_ : am_T _ _ _ _ _ 0 [some (aR 53)] [] (hfW w hb sp rb rs hb po (aR rs) ee hh ss uu vv pp kk rr tt gg aa dd bd ga im))
    have hP9 := hP
    obtain ⟨⟨vr1, vr2⟩, vr3, vr4, vr5⟩ := hP9
    refine T_aload_n (am_dec tX8_partKind_0 0 rfl) rfl ?_
    refine T_ldcS (j := 11) (tx := "allow") 11 (am_dec tX8_partKind_0 1 rfl) rfl ?_
    refine T_callU (as := [aX (11 + 2)]) rfl (am_dec tX8_partKind_0 2 rfl) lkX8_61_X8 (show (hfW w hb sp rb rs hb po (aR rs) ee hh ss uu vv pp kk rr tt gg aa dd bd ga im)[53]? = some (cO 7 [aR 51, aI (kk 0 1), aI (kk 0 2), aI (kk 0 3), aI (kk 0 4), aI (kk 0 5), aR rs]) from (hfW_c hl 53 (by decide))) rfl rfl (Nat.le_of_ble_eq_true rfl) (by omega) (md_isWord (d := d - 1) hl hp hr  11 (by omega) hP hTp (by omega)) (fun _ => ?_)
    refine T_nm (fun z3 hz3 => ?_)
    have hb3 := c_isWord_b ee kk 11
    rw [← hz3] at hb3
    refine T_if_eq 11 (am_dec tX8_partKind_0 3 rfl) rfl (fun h6 => ?_) (fun h6 => ?_)
    · refine T_aload_n (am_dec tX8_partKind_0 6 rfl) rfl ?_
      refine T_ldcS (j := 12) (tx := "first") 12 (am_dec tX8_partKind_0 7 rfl) rfl ?_
      refine T_callU (as := [aX (12 + 2)]) rfl (am_dec tX8_partKind_0 8 rfl) lkX8_61_X8 (show (hfW w hb sp rb rs hb po (aR rs) ee hh ss uu vv pp kk rr tt gg aa dd bd ga im)[53]? = some (cO 7 [aR 51, aI (kk 0 1), aI (kk 0 2), aI (kk 0 3), aI (kk 0 4), aI (kk 0 5), aR rs]) from (hfW_c hl 53 (by decide))) rfl rfl (Nat.le_of_ble_eq_true rfl) (by omega) (md_isWord (d := d - 1) hl hp hr  12 (by omega) hP hTp (by omega)) (fun _ => ?_)
      refine T_nm (fun z14 hz14 => ?_)
      have hb14 := c_isWord_b ee kk 12
      rw [← hz14] at hb14
      refine T_if_eq 22 (am_dec tX8_partKind_0 9 rfl) rfl (fun h17 => ?_) (fun h17 => ?_)
      · refine T_aload_n (am_dec tX8_partKind_0 12 rfl) rfl ?_
        refine T_ldcS (j := 13) (tx := "pay") 13 (am_dec tX8_partKind_0 13 rfl) rfl ?_
        refine T_callU (as := [aX (13 + 2)]) rfl (am_dec tX8_partKind_0 14 rfl) lkX8_61_X8 (show (hfW w hb sp rb rs hb po (aR rs) ee hh ss uu vv pp kk rr tt gg aa dd bd ga im)[53]? = some (cO 7 [aR 51, aI (kk 0 1), aI (kk 0 2), aI (kk 0 3), aI (kk 0 4), aI (kk 0 5), aR rs]) from (hfW_c hl 53 (by decide))) rfl rfl (Nat.le_of_ble_eq_true rfl) (by omega) (md_isWord (d := d - 1) hl hp hr  13 (by omega) hP hTp (by omega)) (fun _ => ?_)
        refine T_nm (fun z25 hz25 => ?_)
        have hb25 := c_isWord_b ee kk 13
        rw [← hz25] at hb25
        refine T_if_eq 33 (am_dec tX8_partKind_0 15 rfl) rfl (fun h28 => ?_) (fun h28 => ?_)
        · refine T_aload_n (am_dec tX8_partKind_0 18 rfl) rfl ?_
          refine T_ldcS (j := 14) (tx := "most") 14 (am_dec tX8_partKind_0 19 rfl) rfl ?_
          refine T_callU (as := [aX (14 + 2)]) rfl (am_dec tX8_partKind_0 20 rfl) lkX8_61_X8 (show (hfW w hb sp rb rs hb po (aR rs) ee hh ss uu vv pp kk rr tt gg aa dd bd ga im)[53]? = some (cO 7 [aR 51, aI (kk 0 1), aI (kk 0 2), aI (kk 0 3), aI (kk 0 4), aI (kk 0 5), aR rs]) from (hfW_c hl 53 (by decide))) rfl rfl (Nat.le_of_ble_eq_true rfl) (by omega) (md_isWord (d := d - 1) hl hp hr  14 (by omega) hP hTp (by omega)) (fun _ => ?_)
          refine T_nm (fun z36 hz36 => ?_)
          have hb36 := c_isWord_b ee kk 14
          rw [← hz36] at hb36
          have K39 : ∀ (t39 : Int), t39 = (if z36 = 0 then (-1) else 3) →  am_T S zX8_partKind d u Q 47 [none] [aI t39] (hfW w hb sp rb rs hb po (aR rs) ee hh ss uu vv pp kk rr tt gg aa dd bd ga im) := by
            intro t39 ht39 
            exact T_ireturn (am_dec tX8_partKind_0 25 rfl) rfl (am_tr (fun (x9 : Int) => Q (.inl (some (aI (x9)))) (hfW w hb sp rb rs hb po (aR rs) ee hh ss uu vv pp kk rr tt gg aa dd bd ga im)) (y := t39) (show (c_partKind ee kk) = t39 from (by have s9 := hz3.symm; subst s9; have s9 := hz14.symm; subst s9; have s9 := hz25.symm; subst s9; have s9 := hz36.symm; subst s9; have s9 := ht39.symm; subst s9; exact ((if_pos h6).trans ((if_pos h17).trans (if_pos h28))))) hQ)
          refine T_if_eq 46 (am_dec tX8_partKind_0 21 rfl) rfl (fun h39 => ?_) (fun h39 => ?_)
          · refine T_iconst (-1) (am_dec tX8_partKind_0 24 rfl) rfl ⟨by decide, by decide⟩ ?_
            refine T_weak (ls' := [none]) (am_sub_n am_sub_nil) ?_
            exact K39 _ (if_pos h39).symm 
          · refine T_iconst 3 (am_dec tX8_partKind_0 22 rfl) rfl ⟨by decide, by decide⟩ ?_
            refine T_goto 47 (am_dec tX8_partKind_0 23 rfl) rfl ?_
            refine T_weak (ls' := [none]) (am_sub_n am_sub_nil) ?_
            exact K39 _ (if_neg h39).symm 
        · refine T_iconst 2 (am_dec tX8_partKind_0 16 rfl) rfl ⟨by decide, by decide⟩ ?_
          exact T_ireturn (am_dec tX8_partKind_0 17 rfl) rfl (am_tr (fun (x9 : Int) => Q (.inl (some (aI (x9)))) (hfW w hb sp rb rs hb po (aR rs) ee hh ss uu vv pp kk rr tt gg aa dd bd ga im)) (y := 2) (show (c_partKind ee kk) = 2 from (by have s9 := hz3.symm; subst s9; have s9 := hz14.symm; subst s9; have s9 := hz25.symm; subst s9; exact ((if_pos h6).trans ((if_pos h17).trans (if_neg h28))))) hQ)
      · refine T_iconst 1 (am_dec tX8_partKind_0 10 rfl) rfl ⟨by decide, by decide⟩ ?_
        exact T_ireturn (am_dec tX8_partKind_0 11 rfl) rfl (am_tr (fun (x9 : Int) => Q (.inl (some (aI (x9)))) (hfW w hb sp rb rs hb po (aR rs) ee hh ss uu vv pp kk rr tt gg aa dd bd ga im)) (y := 1) (show (c_partKind ee kk) = 1 from (by have s9 := hz3.symm; subst s9; have s9 := hz14.symm; subst s9; exact ((if_pos h6).trans (if_neg h17)))) hQ)
    · refine T_iconst 0 (am_dec tX8_partKind_0 4 rfl) rfl ⟨by decide, by decide⟩ ?_
      exact T_ireturn (am_dec tX8_partKind_0 5 rfl) rfl (am_tr (fun (x9 : Int) => Q (.inl (some (aI (x9)))) (hfW w hb sp rb rs hb po (aR rs) ee hh ss uu vv pp kk rr tt gg aa dd bd ga im)) (y := 0) (show (c_partKind ee kk) = 0 from (by have s9 := hz3.symm; subst s9; exact (if_neg h6))) hQ)
  exact key _ ⟨rfl, rfl⟩
def c_readFact (ee : am_F) (kk : am_F) : Int := (let z3 : Int := (c_isWord ee kk 16); (if z3 = 0 then (let z14 : Int := (c_isWord ee kk 17); (if z14 = 0 then (let z25 : Int := (c_isWord ee kk 6); (if z25 = 0 then (let z36 : Int := (c_isWord ee kk 18); (if z36 = 0 then (let z47 : Int := (c_isWord ee kk 19); (if z47 = 0 then (let z58 : Int := (c_isWord ee kk 20); (if z58 = 0 then (let z69 : Int := (c_isWord ee kk 21); (if z69 = 0 then (let z81 : Int := (c_isWord ee kk 22); (if z81 = 0 then (let z93 : Int := (c_isWord ee kk 23); (if z93 = 0 then (-1) else 8)) else 7)) else 6)) else 5)) else 4)) else 3)) else 0)) else 1)) else 2))
theorem mc_readFact {S : am_S} {d u : Nat} {w : AH} {hb sp rb rs : Nat} {po : AV} (hl : 109 ≤ w.length) (hp : hb = 1 ∧ sp = 21 ∨ hb = 21 ∧ sp = 1) (hr : rb = 41 ∧ rs = 46 ∨ rb = 46 ∧ rs = 41) {ee : am_F} {hh : am_F} {ss : am_F} {uu : am_F} {vv : am_F} {pp : am_F} {kk : am_F} {rr : am_F} {tt : am_F} {gg : am_F} {aa : am_F} {dd : am_F} {bd : am_F} {ga : am_F} {im : am_F}  (hP : RdI kk) (hTp : TpI ee)  (hd : 5 ≤ d) : am_Out S zX8_readFact d u [aR 53] (hfW w hb sp rb rs hb po (aR rs) ee hh ss uu vv pp kk rr tt gg aa dd bd ga im) (.inl (some (aI (c_readFact ee kk)))) (hfW w hb sp rb rs hb po (aR rs) ee hh ss uu vv pp kk rr tt gg aa dd bd ga im) := by
  have key : ∀ Q : AO → AH → Prop, Q (.inl (some (aI (c_readFact ee kk)))) (hfW w hb sp rb rs hb po (aR rs) ee hh ss uu vv pp kk rr tt gg aa dd bd ga im) → am_M S zX8_readFact d u [aR 53] (hfW w hb sp rb rs hb po (aR rs) ee hh ss uu vv pp kk rr tt gg aa dd bd ga im) Q := by
    intro Q hQ
    refine am_body rfl (by decide +kernel) rfl (am_cats_cons rfl (am_cats_nil)) (Nat.le_of_ble_eq_true rfl) (?_ : am_T _ _ _ _ _ 0 [some (aR 53)] [] (hfW w hb sp rb rs hb po (aR rs) ee hh ss uu vv pp kk rr tt gg aa dd bd ga im))
    have hP9 := hP
    obtain ⟨⟨vr1, vr2⟩, vr3, vr4, vr5⟩ := hP9
    refine T_aload_n (am_dec tX8_readFact_0 0 rfl) rfl ?_
    refine T_ldcS (j := 16) (tx := "price") 16 (am_dec tX8_readFact_0 1 rfl) rfl ?_
    refine T_callU (as := [aX (16 + 2)]) rfl (am_dec tX8_readFact_0 2 rfl) lkX8_61_X8 (show (hfW w hb sp rb rs hb po (aR rs) ee hh ss uu vv pp kk rr tt gg aa dd bd ga im)[53]? = some (cO 7 [aR 51, aI (kk 0 1), aI (kk 0 2), aI (kk 0 3), aI (kk 0 4), aI (kk 0 5), aR rs]) from (hfW_c hl 53 (by decide))) rfl rfl (Nat.le_of_ble_eq_true rfl) (by omega) (md_isWord (d := d - 1) hl hp hr  16 (by omega) hP hTp (by omega)) (fun _ => ?_)
    refine T_nm (fun z3 hz3 => ?_)
    have hb3 := c_isWord_b ee kk 16
    rw [← hz3] at hb3
    refine T_if_eq 11 (am_dec tX8_readFact_0 3 rfl) rfl (fun h6 => ?_) (fun h6 => ?_)
    · refine T_aload_n (am_dec tX8_readFact_0 6 rfl) rfl ?_
      refine T_ldcS (j := 17) (tx := "wants") 17 (am_dec tX8_readFact_0 7 rfl) rfl ?_
      refine T_callU (as := [aX (17 + 2)]) rfl (am_dec tX8_readFact_0 8 rfl) lkX8_61_X8 (show (hfW w hb sp rb rs hb po (aR rs) ee hh ss uu vv pp kk rr tt gg aa dd bd ga im)[53]? = some (cO 7 [aR 51, aI (kk 0 1), aI (kk 0 2), aI (kk 0 3), aI (kk 0 4), aI (kk 0 5), aR rs]) from (hfW_c hl 53 (by decide))) rfl rfl (Nat.le_of_ble_eq_true rfl) (by omega) (md_isWord (d := d - 1) hl hp hr  17 (by omega) hP hTp (by omega)) (fun _ => ?_)
      refine T_nm (fun z14 hz14 => ?_)
      have hb14 := c_isWord_b ee kk 17
      rw [← hz14] at hb14
      refine T_if_eq 22 (am_dec tX8_readFact_0 9 rfl) rfl (fun h17 => ?_) (fun h17 => ?_)
      · refine T_aload_n (am_dec tX8_readFact_0 12 rfl) rfl ?_
        refine T_ldcS (j := 6) (tx := "lot") 18 (am_dec tX8_readFact_0 13 rfl) rfl ?_
        refine T_callU (as := [aX (6 + 2)]) rfl (am_dec tX8_readFact_0 14 rfl) lkX8_61_X8 (show (hfW w hb sp rb rs hb po (aR rs) ee hh ss uu vv pp kk rr tt gg aa dd bd ga im)[53]? = some (cO 7 [aR 51, aI (kk 0 1), aI (kk 0 2), aI (kk 0 3), aI (kk 0 4), aI (kk 0 5), aR rs]) from (hfW_c hl 53 (by decide))) rfl rfl (Nat.le_of_ble_eq_true rfl) (by omega) (md_isWord (d := d - 1) hl hp hr  6 (by omega) hP hTp (by omega)) (fun _ => ?_)
        refine T_nm (fun z25 hz25 => ?_)
        have hb25 := c_isWord_b ee kk 6
        rw [← hz25] at hb25
        refine T_if_eq 33 (am_dec tX8_readFact_0 15 rfl) rfl (fun h28 => ?_) (fun h28 => ?_)
        · refine T_aload_n (am_dec tX8_readFact_0 18 rfl) rfl ?_
          refine T_ldcS (j := 18) (tx := "step") 19 (am_dec tX8_readFact_0 19 rfl) rfl ?_
          refine T_callU (as := [aX (18 + 2)]) rfl (am_dec tX8_readFact_0 20 rfl) lkX8_61_X8 (show (hfW w hb sp rb rs hb po (aR rs) ee hh ss uu vv pp kk rr tt gg aa dd bd ga im)[53]? = some (cO 7 [aR 51, aI (kk 0 1), aI (kk 0 2), aI (kk 0 3), aI (kk 0 4), aI (kk 0 5), aR rs]) from (hfW_c hl 53 (by decide))) rfl rfl (Nat.le_of_ble_eq_true rfl) (by omega) (md_isWord (d := d - 1) hl hp hr  18 (by omega) hP hTp (by omega)) (fun _ => ?_)
          refine T_nm (fun z36 hz36 => ?_)
          have hb36 := c_isWord_b ee kk 18
          rw [← hz36] at hb36
          refine T_if_eq 44 (am_dec tX8_readFact_0 21 rfl) rfl (fun h39 => ?_) (fun h39 => ?_)
          · refine T_aload_n (am_dec tX8_readFact_0 24 rfl) rfl ?_
            refine T_ldcS (j := 19) (tx := "there") 20 (am_dec tX8_readFact_0 25 rfl) rfl ?_
            refine T_callU (as := [aX (19 + 2)]) rfl (am_dec tX8_readFact_0 26 rfl) lkX8_61_X8 (show (hfW w hb sp rb rs hb po (aR rs) ee hh ss uu vv pp kk rr tt gg aa dd bd ga im)[53]? = some (cO 7 [aR 51, aI (kk 0 1), aI (kk 0 2), aI (kk 0 3), aI (kk 0 4), aI (kk 0 5), aR rs]) from (hfW_c hl 53 (by decide))) rfl rfl (Nat.le_of_ble_eq_true rfl) (by omega) (md_isWord (d := d - 1) hl hp hr  19 (by omega) hP hTp (by omega)) (fun _ => ?_)
            refine T_nm (fun z47 hz47 => ?_)
            have hb47 := c_isWord_b ee kk 19
            rw [← hz47] at hb47
            refine T_if_eq 55 (am_dec tX8_readFact_0 27 rfl) rfl (fun h50 => ?_) (fun h50 => ?_)
            · refine T_aload_n (am_dec tX8_readFact_0 30 rfl) rfl ?_
              refine T_ldcS (j := 20) (tx := "left") 21 (am_dec tX8_readFact_0 31 rfl) rfl ?_
              refine T_callU (as := [aX (20 + 2)]) rfl (am_dec tX8_readFact_0 32 rfl) lkX8_61_X8 (show (hfW w hb sp rb rs hb po (aR rs) ee hh ss uu vv pp kk rr tt gg aa dd bd ga im)[53]? = some (cO 7 [aR 51, aI (kk 0 1), aI (kk 0 2), aI (kk 0 3), aI (kk 0 4), aI (kk 0 5), aR rs]) from (hfW_c hl 53 (by decide))) rfl rfl (Nat.le_of_ble_eq_true rfl) (by omega) (md_isWord (d := d - 1) hl hp hr  20 (by omega) hP hTp (by omega)) (fun _ => ?_)
              refine T_nm (fun z58 hz58 => ?_)
              have hb58 := c_isWord_b ee kk 20
              rw [← hz58] at hb58
              refine T_if_eq 66 (am_dec tX8_readFact_0 33 rfl) rfl (fun h61 => ?_) (fun h61 => ?_)
              · refine T_aload_n (am_dec tX8_readFact_0 36 rfl) rfl ?_
                refine T_ldcS (j := 21) (tx := "floor") 22 (am_dec tX8_readFact_0 37 rfl) rfl ?_
                refine T_callU (as := [aX (21 + 2)]) rfl (am_dec tX8_readFact_0 38 rfl) lkX8_61_X8 (show (hfW w hb sp rb rs hb po (aR rs) ee hh ss uu vv pp kk rr tt gg aa dd bd ga im)[53]? = some (cO 7 [aR 51, aI (kk 0 1), aI (kk 0 2), aI (kk 0 3), aI (kk 0 4), aI (kk 0 5), aR rs]) from (hfW_c hl 53 (by decide))) rfl rfl (Nat.le_of_ble_eq_true rfl) (by omega) (md_isWord (d := d - 1) hl hp hr  21 (by omega) hP hTp (by omega)) (fun _ => ?_)
                refine T_nm (fun z69 hz69 => ?_)
                have hb69 := c_isWord_b ee kk 21
                rw [← hz69] at hb69
                refine T_if_eq 78 (am_dec tX8_readFact_0 39 rfl) rfl (fun h72 => ?_) (fun h72 => ?_)
                · refine T_aload_n (am_dec tX8_readFact_1 2 rfl) rfl ?_
                  refine T_ldcS (j := 22) (tx := "number") 23 (am_dec tX8_readFact_1 3 rfl) rfl ?_
                  refine T_callU (as := [aX (22 + 2)]) rfl (am_dec tX8_readFact_1 4 rfl) lkX8_61_X8 (show (hfW w hb sp rb rs hb po (aR rs) ee hh ss uu vv pp kk rr tt gg aa dd bd ga im)[53]? = some (cO 7 [aR 51, aI (kk 0 1), aI (kk 0 2), aI (kk 0 3), aI (kk 0 4), aI (kk 0 5), aR rs]) from (hfW_c hl 53 (by decide))) rfl rfl (Nat.le_of_ble_eq_true rfl) (by omega) (md_isWord (d := d - 1) hl hp hr  22 (by omega) hP hTp (by omega)) (fun _ => ?_)
                  refine T_nm (fun z81 hz81 => ?_)
                  have hb81 := c_isWord_b ee kk 22
                  rw [← hz81] at hb81
                  refine T_if_eq 90 (am_dec tX8_readFact_1 5 rfl) rfl (fun h84 => ?_) (fun h84 => ?_)
                  · refine T_aload_n (am_dec tX8_readFact_1 8 rfl) rfl ?_
                    refine T_ldcS (j := 23) (tx := "bids") 24 (am_dec tX8_readFact_1 9 rfl) rfl ?_
                    refine T_callU (as := [aX (23 + 2)]) rfl (am_dec tX8_readFact_1 10 rfl) lkX8_61_X8 (show (hfW w hb sp rb rs hb po (aR rs) ee hh ss uu vv pp kk rr tt gg aa dd bd ga im)[53]? = some (cO 7 [aR 51, aI (kk 0 1), aI (kk 0 2), aI (kk 0 3), aI (kk 0 4), aI (kk 0 5), aR rs]) from (hfW_c hl 53 (by decide))) rfl rfl (Nat.le_of_ble_eq_true rfl) (by omega) (md_isWord (d := d - 1) hl hp hr  23 (by omega) hP hTp (by omega)) (fun _ => ?_)
                    refine T_nm (fun z93 hz93 => ?_)
                    have hb93 := c_isWord_b ee kk 23
                    rw [← hz93] at hb93
                    have K96 : ∀ (t96 : Int), t96 = (if z93 = 0 then (-1) else 8) →  am_T S zX8_readFact d u Q 105 [none] [aI t96] (hfW w hb sp rb rs hb po (aR rs) ee hh ss uu vv pp kk rr tt gg aa dd bd ga im) := by
                      intro t96 ht96 
                      exact T_ireturn (am_dec tX8_readFact_1 15 rfl) rfl (am_tr (fun (x9 : Int) => Q (.inl (some (aI (x9)))) (hfW w hb sp rb rs hb po (aR rs) ee hh ss uu vv pp kk rr tt gg aa dd bd ga im)) (y := t96) (show (c_readFact ee kk) = t96 from (by have s9 := hz3.symm; subst s9; have s9 := hz14.symm; subst s9; have s9 := hz25.symm; subst s9; have s9 := hz36.symm; subst s9; have s9 := hz47.symm; subst s9; have s9 := hz58.symm; subst s9; have s9 := hz69.symm; subst s9; have s9 := hz81.symm; subst s9; have s9 := hz93.symm; subst s9; have s9 := ht96.symm; subst s9; exact ((if_pos h6).trans ((if_pos h17).trans ((if_pos h28).trans ((if_pos h39).trans ((if_pos h50).trans ((if_pos h61).trans ((if_pos h72).trans (if_pos h84)))))))))) hQ)
                    refine T_if_eq 104 (am_dec tX8_readFact_1 11 rfl) rfl (fun h96 => ?_) (fun h96 => ?_)
                    · refine T_iconst (-1) (am_dec tX8_readFact_1 14 rfl) rfl ⟨by decide, by decide⟩ ?_
                      refine T_weak (ls' := [none]) (am_sub_n am_sub_nil) ?_
                      exact K96 _ (if_pos h96).symm 
                    · refine T_bipush 8 (am_dec tX8_readFact_1 12 rfl) rfl ⟨by decide, by decide⟩ ?_
                      refine T_goto 105 (am_dec tX8_readFact_1 13 rfl) rfl ?_
                      refine T_weak (ls' := [none]) (am_sub_n am_sub_nil) ?_
                      exact K96 _ (if_neg h96).symm 
                  · refine T_bipush 7 (am_dec tX8_readFact_1 6 rfl) rfl ⟨by decide, by decide⟩ ?_
                    exact T_ireturn (am_dec tX8_readFact_1 7 rfl) rfl (am_tr (fun (x9 : Int) => Q (.inl (some (aI (x9)))) (hfW w hb sp rb rs hb po (aR rs) ee hh ss uu vv pp kk rr tt gg aa dd bd ga im)) (y := 7) (show (c_readFact ee kk) = 7 from (by have s9 := hz3.symm; subst s9; have s9 := hz14.symm; subst s9; have s9 := hz25.symm; subst s9; have s9 := hz36.symm; subst s9; have s9 := hz47.symm; subst s9; have s9 := hz58.symm; subst s9; have s9 := hz69.symm; subst s9; have s9 := hz81.symm; subst s9; exact ((if_pos h6).trans ((if_pos h17).trans ((if_pos h28).trans ((if_pos h39).trans ((if_pos h50).trans ((if_pos h61).trans ((if_pos h72).trans (if_neg h84)))))))))) hQ)
                · refine T_bipush 6 (am_dec tX8_readFact_1 0 rfl) rfl ⟨by decide, by decide⟩ ?_
                  exact T_ireturn (am_dec tX8_readFact_1 1 rfl) rfl (am_tr (fun (x9 : Int) => Q (.inl (some (aI (x9)))) (hfW w hb sp rb rs hb po (aR rs) ee hh ss uu vv pp kk rr tt gg aa dd bd ga im)) (y := 6) (show (c_readFact ee kk) = 6 from (by have s9 := hz3.symm; subst s9; have s9 := hz14.symm; subst s9; have s9 := hz25.symm; subst s9; have s9 := hz36.symm; subst s9; have s9 := hz47.symm; subst s9; have s9 := hz58.symm; subst s9; have s9 := hz69.symm; subst s9; exact ((if_pos h6).trans ((if_pos h17).trans ((if_pos h28).trans ((if_pos h39).trans ((if_pos h50).trans ((if_pos h61).trans (if_neg h72))))))))) hQ)
              · refine T_iconst 5 (am_dec tX8_readFact_0 34 rfl) rfl ⟨by decide, by decide⟩ ?_
                exact T_ireturn (am_dec tX8_readFact_0 35 rfl) rfl (am_tr (fun (x9 : Int) => Q (.inl (some (aI (x9)))) (hfW w hb sp rb rs hb po (aR rs) ee hh ss uu vv pp kk rr tt gg aa dd bd ga im)) (y := 5) (show (c_readFact ee kk) = 5 from (by have s9 := hz3.symm; subst s9; have s9 := hz14.symm; subst s9; have s9 := hz25.symm; subst s9; have s9 := hz36.symm; subst s9; have s9 := hz47.symm; subst s9; have s9 := hz58.symm; subst s9; exact ((if_pos h6).trans ((if_pos h17).trans ((if_pos h28).trans ((if_pos h39).trans ((if_pos h50).trans (if_neg h61)))))))) hQ)
            · refine T_iconst 4 (am_dec tX8_readFact_0 28 rfl) rfl ⟨by decide, by decide⟩ ?_
              exact T_ireturn (am_dec tX8_readFact_0 29 rfl) rfl (am_tr (fun (x9 : Int) => Q (.inl (some (aI (x9)))) (hfW w hb sp rb rs hb po (aR rs) ee hh ss uu vv pp kk rr tt gg aa dd bd ga im)) (y := 4) (show (c_readFact ee kk) = 4 from (by have s9 := hz3.symm; subst s9; have s9 := hz14.symm; subst s9; have s9 := hz25.symm; subst s9; have s9 := hz36.symm; subst s9; have s9 := hz47.symm; subst s9; exact ((if_pos h6).trans ((if_pos h17).trans ((if_pos h28).trans ((if_pos h39).trans (if_neg h50))))))) hQ)
          · refine T_iconst 3 (am_dec tX8_readFact_0 22 rfl) rfl ⟨by decide, by decide⟩ ?_
            exact T_ireturn (am_dec tX8_readFact_0 23 rfl) rfl (am_tr (fun (x9 : Int) => Q (.inl (some (aI (x9)))) (hfW w hb sp rb rs hb po (aR rs) ee hh ss uu vv pp kk rr tt gg aa dd bd ga im)) (y := 3) (show (c_readFact ee kk) = 3 from (by have s9 := hz3.symm; subst s9; have s9 := hz14.symm; subst s9; have s9 := hz25.symm; subst s9; have s9 := hz36.symm; subst s9; exact ((if_pos h6).trans ((if_pos h17).trans ((if_pos h28).trans (if_neg h39)))))) hQ)
        · refine T_iconst 0 (am_dec tX8_readFact_0 16 rfl) rfl ⟨by decide, by decide⟩ ?_
          exact T_ireturn (am_dec tX8_readFact_0 17 rfl) rfl (am_tr (fun (x9 : Int) => Q (.inl (some (aI (x9)))) (hfW w hb sp rb rs hb po (aR rs) ee hh ss uu vv pp kk rr tt gg aa dd bd ga im)) (y := 0) (show (c_readFact ee kk) = 0 from (by have s9 := hz3.symm; subst s9; have s9 := hz14.symm; subst s9; have s9 := hz25.symm; subst s9; exact ((if_pos h6).trans ((if_pos h17).trans (if_neg h28))))) hQ)
      · refine T_iconst 1 (am_dec tX8_readFact_0 10 rfl) rfl ⟨by decide, by decide⟩ ?_
        exact T_ireturn (am_dec tX8_readFact_0 11 rfl) rfl (am_tr (fun (x9 : Int) => Q (.inl (some (aI (x9)))) (hfW w hb sp rb rs hb po (aR rs) ee hh ss uu vv pp kk rr tt gg aa dd bd ga im)) (y := 1) (show (c_readFact ee kk) = 1 from (by have s9 := hz3.symm; subst s9; have s9 := hz14.symm; subst s9; exact ((if_pos h6).trans (if_neg h17)))) hQ)
    · refine T_iconst 2 (am_dec tX8_readFact_0 4 rfl) rfl ⟨by decide, by decide⟩ ?_
      exact T_ireturn (am_dec tX8_readFact_0 5 rfl) rfl (am_tr (fun (x9 : Int) => Q (.inl (some (aI (x9)))) (hfW w hb sp rb rs hb po (aR rs) ee hh ss uu vv pp kk rr tt gg aa dd bd ga im)) (y := 2) (show (c_readFact ee kk) = 2 from (by have s9 := hz3.symm; subst s9; exact (if_neg h6))) hQ)
  exact key _ ⟨rfl, rfl⟩
def c_mayOpen (kk : am_F) (dp : Int) : Int × am_F := (let kk3 : am_F := (if dp < 6 then kk else c_wrong kk 3 (kk 0 3)); (let z16 : Int := (c_fine kk3); (z16, kk3)))
theorem mc_mayOpen {S : am_S} {d u : Nat} {w : AH} {hb sp rb rs : Nat} {po : AV} (hl : 109 ≤ w.length) (hp : hb = 1 ∧ sp = 21 ∨ hb = 21 ∧ sp = 1) (hr : rb = 41 ∧ rs = 46 ∨ rb = 46 ∧ rs = 41) {ee : am_F} {hh : am_F} {ss : am_F} {uu : am_F} {vv : am_F} {pp : am_F} {kk : am_F} {rr : am_F} {tt : am_F} {gg : am_F} {aa : am_F} {dd : am_F} {bd : am_F} {ga : am_F} {im : am_F} (dp : Int) (hP : RdI kk) (hTp : TpI ee)  (hd : 2 ≤ d) : am_Out S zX8_mayOpen d u [aR 53, aI dp] (hfW w hb sp rb rs hb po (aR rs) ee hh ss uu vv pp kk rr tt gg aa dd bd ga im) (.inl (some (aI ((c_mayOpen kk dp).1)))) (hfW w hb sp rb rs hb po (aR rs) ee hh ss uu vv pp ((c_mayOpen kk dp).2) rr tt gg aa dd bd ga im) := by
  have key : ∀ Q : AO → AH → Prop, Q (.inl (some (aI ((c_mayOpen kk dp).1)))) (hfW w hb sp rb rs hb po (aR rs) ee hh ss uu vv pp ((c_mayOpen kk dp).2) rr tt gg aa dd bd ga im) → am_M S zX8_mayOpen d u [aR 53, aI dp] (hfW w hb sp rb rs hb po (aR rs) ee hh ss uu vv pp kk rr tt gg aa dd bd ga im) Q := by
    intro Q hQ
    refine am_body rfl (by decide +kernel) rfl (am_cats_cons rfl ( am_cats_cons rfl (am_cats_nil))) (Nat.le_of_ble_eq_true rfl) (?_ : am_T _ _ _ _ _ 0 [some (aR 53), some (aI dp)] [] (hfW w hb sp rb rs hb po (aR rs) ee hh ss uu vv pp kk rr tt gg aa dd bd ga im))
    have hP9 := hP
    obtain ⟨⟨vr1, vr2⟩, vr3, vr4, vr5⟩ := hP9
    refine T_iload_n (am_dec tX8_mayOpen_0 0 rfl) rfl ?_
    refine T_bipush 6 (am_dec tX8_mayOpen_0 1 rfl) rfl ⟨by decide, by decide⟩ ?_
    have K3 : ∀ (kk3 : am_F), kk3 = (if dp < 6 then kk else c_wrong kk 3 (kk 0 3)) →  am_T S zX8_mayOpen d u Q 15 [some (aR 53), none] [] (hfW w hb sp rb rs hb po (aR rs) ee hh ss uu vv pp kk3 rr tt gg aa dd bd ga im) := by
      intro kk3 hkk3 
      refine T_aload_n (am_dec tX8_mayOpen_0 8 rfl) rfl ?_
      refine T_callU (as := []) rfl (am_dec tX8_mayOpen_0 9 rfl) lkX8_21_X8 (show (hfW w hb sp rb rs hb po (aR rs) ee hh ss uu vv pp kk3 rr tt gg aa dd bd ga im)[53]? = some (cO 7 [aR 51, aI (kk3 0 1), aI (kk3 0 2), aI (kk3 0 3), aI (kk3 0 4), aI (kk3 0 5), aR rs]) from (hfW_c hl 53 (by decide))) rfl rfl (Nat.le_of_ble_eq_true rfl) (by omega) (md_fine (d := d - 1) hl hp hr    (by omega)) (fun _ => ?_)
      refine T_nm (fun z16 hz16 => ?_)
      have hb16 := c_fine_b kk3
      rw [← hz16] at hb16
      exact T_zreturn (am_dec tX8_mayOpen_0 10 rfl) rfl (by first | exact Or.inl rfl | exact Or.inr rfl | omega) (am_tr (fun (x9 : Int × am_F) => Q (.inl (some (aI (x9.1)))) (hfW w hb sp rb rs hb po (aR rs) ee hh ss uu vv pp x9.2 rr tt gg aa dd bd ga im)) (y := (z16, kk3)) (show (c_mayOpen kk dp) = (z16, kk3) from (by have s9 := hkk3.symm; subst s9; have s9 := hz16.symm; subst s9; exact rfl)) hQ)
    refine T_icmp_lt 15 (am_dec tX8_mayOpen_0 2 rfl) rfl (fun h3 => ?_) (fun h3 => ?_)
    · refine T_weak (ls' := [some (aR 53), none]) (am_sub_s (am_sub_n am_sub_nil)) ?_
      exact K3 _ (if_pos h3).symm 
    · refine T_aload_n (am_dec tX8_mayOpen_0 3 rfl) rfl ?_
      refine T_iconst 3 (am_dec tX8_mayOpen_0 4 rfl) rfl ⟨by decide, by decide⟩ ?_
      refine T_aload_n (am_dec tX8_mayOpen_0 5 rfl) rfl ?_
      refine T_getfield 7 3 (am_dec tX8_mayOpen_0 6 rfl) flX8_39_7 (show (hfW w hb sp rb rs hb po (aR rs) ee hh ss uu vv pp kk rr tt gg aa dd bd ga im)[53]? = some (cO 7 [aR 51, aI (kk 0 1), aI (kk 0 2), aI (kk 0 3), aI (kk 0 4), aI (kk 0 5), aR rs]) from (hfW_c hl 53 (by decide))) rfl ?_
      refine T_callU (as := [aI 3, aI (kk 0 3)]) rfl (am_dec tX8_mayOpen_0 7 rfl) lkX8_43_X8 (show (hfW w hb sp rb rs hb po (aR rs) ee hh ss uu vv pp kk rr tt gg aa dd bd ga im)[53]? = some (cO 7 [aR 51, aI (kk 0 1), aI (kk 0 2), aI (kk 0 3), aI (kk 0 4), aI (kk 0 5), aR rs]) from (hfW_c hl 53 (by decide))) rfl rfl (Nat.le_of_ble_eq_true rfl) (by omega) (md_wrong (d := d - 1) hl hp hr 3 (kk 0 3)   (by omega)) (fun _ => ?_)
      refine T_nmH (W := fun x9 => hfW w hb sp rb rs hb po (aR rs) ee hh ss uu vv pp x9 rr tt gg aa dd bd ga im) (v := c_wrong kk 3 (kk 0 3)) (fun kk12 hkk12 => ?_)
      have hIkk12 : RdI kk12 := by rw [hkk12]; exact c_wrong_I hP _ _
      refine T_weak (ls' := [some (aR 53), none]) (am_sub_s (am_sub_n am_sub_nil)) ?_
      exact K3 _ (by have s9 := hkk12.symm; subst s9; exact (if_neg h3).symm) 
  exact key _ ⟨rfl, rfl⟩
theorem c_mayOpen_b (kk : am_F) (dp : Int) : (c_mayOpen kk dp).1 = 0 ∨ (c_mayOpen kk dp).1 = 1 := by
  unfold c_mayOpen
  try dsimp only
  repeat' split
  all_goals first | exact Or.inl rfl | exact Or.inr rfl | apply c_guardsAll_b | apply c_isRight54_b | apply c_isRight64_b | apply c_areRight_b | apply c_areRightIn_b | apply c_fine_b | apply c_isDigit_b | apply c_isLetter_b | apply c_isWord_b | apply c_fine_b | apply c_isWord_b
theorem c_mayOpen_x {kk : am_F} (q : RdI kk) (dp : Int) : RdI (c_mayOpen kk dp).2 := by
  unfold c_mayOpen
  dsimp only
  repeat' split
  all_goals first | exact q | exact c_wrong_I q _ _
theorem c_mayOpen_6 (kk : am_F) (dp : Int) : (c_mayOpen kk dp).1 = 0 ∨ dp < 6 := by
  by_cases h : dp < 6
  · exact Or.inr h
  · refine Or.inl ?_
    unfold c_mayOpen
    dsimp only
    rw [if_neg h]
    exact c_fine_0 (wrong_k (by decide))
def c_readRelation (ee : am_F) (kk : am_F) : Int × am_F := (let u3 : Int × am_F := c_takesSign ee kk 60; (if (u3).1 = 0 then (let u16 : Int × am_F := c_takesSign ee ((u3).2) 62; (if (u16).1 = 0 then (let kk29 : am_F := c_needSign ee ((u16).2) 61; (2006, kk29)) else (2005, (u16).2))) else (2004, (u3).2)))
theorem mc_readRelation {S : am_S} {d u : Nat} {w : AH} {hb sp rb rs : Nat} {po : AV} (hl : 109 ≤ w.length) (hp : hb = 1 ∧ sp = 21 ∨ hb = 21 ∧ sp = 1) (hr : rb = 41 ∧ rs = 46 ∨ rb = 46 ∧ rs = 41) {ee : am_F} {hh : am_F} {ss : am_F} {uu : am_F} {vv : am_F} {pp : am_F} {kk : am_F} {rr : am_F} {tt : am_F} {gg : am_F} {aa : am_F} {dd : am_F} {bd : am_F} {ga : am_F} {im : am_F}  (hP : RdI kk) (hTp : TpI ee)  (hd : 4 ≤ d) : am_Out S zX8_readRelation d u [aR 53] (hfW w hb sp rb rs hb po (aR rs) ee hh ss uu vv pp kk rr tt gg aa dd bd ga im) (.inl (some (aI ((c_readRelation ee kk).1)))) (hfW w hb sp rb rs hb po (aR rs) ee hh ss uu vv pp ((c_readRelation ee kk).2) rr tt gg aa dd bd ga im) := by
  have key : ∀ Q : AO → AH → Prop, Q (.inl (some (aI ((c_readRelation ee kk).1)))) (hfW w hb sp rb rs hb po (aR rs) ee hh ss uu vv pp ((c_readRelation ee kk).2) rr tt gg aa dd bd ga im) → am_M S zX8_readRelation d u [aR 53] (hfW w hb sp rb rs hb po (aR rs) ee hh ss uu vv pp kk rr tt gg aa dd bd ga im) Q := by
    intro Q hQ
    refine am_body rfl (by decide +kernel) rfl (am_cats_cons rfl (am_cats_nil)) (Nat.le_of_ble_eq_true rfl) (?_ : am_T _ _ _ _ _ 0 [some (aR 53)] [] (hfW w hb sp rb rs hb po (aR rs) ee hh ss uu vv pp kk rr tt gg aa dd bd ga im))
    have hP9 := hP
    obtain ⟨⟨vr1, vr2⟩, vr3, vr4, vr5⟩ := hP9
    refine T_aload_n (am_dec tX8_readRelation_0 0 rfl) rfl ?_
    refine T_bipush 60 (am_dec tX8_readRelation_0 1 rfl) rfl ⟨by decide, by decide⟩ ?_
    refine T_callU (as := [aI 60]) rfl (am_dec tX8_readRelation_0 2 rfl) lkX8_93_X8 (show (hfW w hb sp rb rs hb po (aR rs) ee hh ss uu vv pp kk rr tt gg aa dd bd ga im)[53]? = some (cO 7 [aR 51, aI (kk 0 1), aI (kk 0 2), aI (kk 0 3), aI (kk 0 4), aI (kk 0 5), aR rs]) from (hfW_c hl 53 (by decide))) rfl rfl (Nat.le_of_ble_eq_true rfl) (by omega) (md_takesSign (d := d - 1) hl hp hr 60  (by omega) hP hTp (by omega)) (fun _ => ?_)
    obtain ⟨u3, hu3⟩ : ∃ x9, x9 = c_takesSign ee kk 60 := ⟨_, rfl⟩
    rw [← hu3]
    have hxu3 : Rd2 kk u3.2 := by rw [hu3]; exact (Rd2.rf hP).takesSign hTp (by omega)
    have hIu3 := hxu3.1
    have hgu3 := hIu3
    obtain ⟨⟨yr31, yr32⟩, yr33, yr34, yr35⟩ := hgu3
    have heu3_7 : u3.2 0 7 = kk 0 7 := hxu3.2 0 7 (by decide)
    have heu3_8 : u3.2 0 8 = kk 0 8 := hxu3.2 0 8 (by decide)
    have heu3_9 : u3.2 0 9 = kk 0 9 := hxu3.2 0 9 (by decide)
    have heu3_10 : u3.2 0 10 = kk 0 10 := hxu3.2 0 10 (by decide)
    have hb3 : u3.1 = 0 ∨ u3.1 = 1 := by rw [hu3]; exact c_takesSign_b _ _ _
    refine T_if_eq 13 (am_dec tX8_readRelation_0 3 rfl) rfl (fun h6 => ?_) (fun h6 => ?_)
    · refine T_aload_n (am_dec tX8_readRelation_0 6 rfl) rfl ?_
      refine T_bipush 62 (am_dec tX8_readRelation_0 7 rfl) rfl ⟨by decide, by decide⟩ ?_
      refine T_callU (as := [aI 62]) rfl (am_dec tX8_readRelation_0 8 rfl) lkX8_93_X8 (show (hfW w hb sp rb rs hb po (aR rs) ee hh ss uu vv pp ((u3).2) rr tt gg aa dd bd ga im)[53]? = some (cO 7 [aR 51, aI ((u3).2 0 1), aI ((u3).2 0 2), aI ((u3).2 0 3), aI ((u3).2 0 4), aI ((u3).2 0 5), aR rs]) from (hfW_c hl 53 (by decide))) rfl rfl (Nat.le_of_ble_eq_true rfl) (by omega) (md_takesSign (d := d - 1) hl hp hr 62  (by omega) hIu3 hTp (by omega)) (fun _ => ?_)
      obtain ⟨u16, hu16⟩ : ∃ x9, x9 = c_takesSign ee ((u3).2) 62 := ⟨_, rfl⟩
      rw [← hu16]
      have hxu16 : Rd2 ((u3).2) u16.2 := by rw [hu16]; exact (Rd2.rf hIu3).takesSign hTp (by omega)
      have hIu16 := hxu16.1
      have hgu16 := hIu16
      obtain ⟨⟨yr161, yr162⟩, yr163, yr164, yr165⟩ := hgu16
      have heu16_7 : u16.2 0 7 = (u3).2 0 7 := hxu16.2 0 7 (by decide)
      have heu16_8 : u16.2 0 8 = (u3).2 0 8 := hxu16.2 0 8 (by decide)
      have heu16_9 : u16.2 0 9 = (u3).2 0 9 := hxu16.2 0 9 (by decide)
      have heu16_10 : u16.2 0 10 = (u3).2 0 10 := hxu16.2 0 10 (by decide)
      have hb16 : u16.1 = 0 ∨ u16.1 = 1 := by rw [hu16]; exact c_takesSign_b _ _ _
      refine T_if_eq 26 (am_dec tX8_readRelation_0 9 rfl) rfl (fun h19 => ?_) (fun h19 => ?_)
      · refine T_aload_n (am_dec tX8_readRelation_0 12 rfl) rfl ?_
        refine T_bipush 61 (am_dec tX8_readRelation_0 13 rfl) rfl ⟨by decide, by decide⟩ ?_
        refine T_callU (as := [aI 61]) rfl (am_dec tX8_readRelation_0 14 rfl) lkX8_53_X8 (show (hfW w hb sp rb rs hb po (aR rs) ee hh ss uu vv pp ((u16).2) rr tt gg aa dd bd ga im)[53]? = some (cO 7 [aR 51, aI ((u16).2 0 1), aI ((u16).2 0 2), aI ((u16).2 0 3), aI ((u16).2 0 4), aI ((u16).2 0 5), aR rs]) from (hfW_c hl 53 (by decide))) rfl rfl (Nat.le_of_ble_eq_true rfl) (by omega) (md_needSign (d := d - 1) hl hp hr 61  (by omega) hIu16 hTp (by omega)) (fun _ => ?_)
        refine T_nmH (W := fun x9 => hfW w hb sp rb rs hb po (aR rs) ee hh ss uu vv pp x9 rr tt gg aa dd bd ga im) (v := c_needSign ee ((u16).2) 61) (fun kk29 hkk29 => ?_)
        have hxkk29 : Rd2 ((u16).2) kk29 := by rw [hkk29]; exact (Rd2.rf hIu16).needSign hTp (by omega)
        have hIkk29 := hxkk29.1
        have hekk29_7 : kk29 0 7 = (u16).2 0 7 := hxkk29.2 0 7 (by decide)
        have hekk29_8 : kk29 0 8 = (u16).2 0 8 := hxkk29.2 0 8 (by decide)
        have hekk29_9 : kk29 0 9 = (u16).2 0 9 := hxkk29.2 0 9 (by decide)
        have hekk29_10 : kk29 0 10 = (u16).2 0 10 := hxkk29.2 0 10 (by decide)
        refine T_sipush 2006 (am_dec tX8_readRelation_0 15 rfl) rfl ⟨by decide, by decide⟩ ?_
        exact T_ireturn (am_dec tX8_readRelation_0 16 rfl) rfl (am_tr (fun (x9 : Int × am_F) => Q (.inl (some (aI (x9.1)))) (hfW w hb sp rb rs hb po (aR rs) ee hh ss uu vv pp x9.2 rr tt gg aa dd bd ga im)) (y := (2006, kk29)) (show (c_readRelation ee kk) = (2006, kk29) from (by have s9 := hu3.symm; subst s9; have s9 := hu16.symm; subst s9; have s9 := hkk29.symm; subst s9; exact ((if_pos h6).trans (if_pos h19)))) hQ)
      · refine T_sipush 2005 (am_dec tX8_readRelation_0 10 rfl) rfl ⟨by decide, by decide⟩ ?_
        exact T_ireturn (am_dec tX8_readRelation_0 11 rfl) rfl (am_tr (fun (x9 : Int × am_F) => Q (.inl (some (aI (x9.1)))) (hfW w hb sp rb rs hb po (aR rs) ee hh ss uu vv pp x9.2 rr tt gg aa dd bd ga im)) (y := (2005, (u16).2)) (show (c_readRelation ee kk) = (2005, (u16).2) from (by have s9 := hu3.symm; subst s9; have s9 := hu16.symm; subst s9; exact ((if_pos h6).trans (if_neg h19)))) hQ)
    · refine T_sipush 2004 (am_dec tX8_readRelation_0 4 rfl) rfl ⟨by decide, by decide⟩ ?_
      exact T_ireturn (am_dec tX8_readRelation_0 5 rfl) rfl (am_tr (fun (x9 : Int × am_F) => Q (.inl (some (aI (x9.1)))) (hfW w hb sp rb rs hb po (aR rs) ee hh ss uu vv pp x9.2 rr tt gg aa dd bd ga im)) (y := (2004, (u3).2)) (show (c_readRelation ee kk) = (2004, (u3).2) from (by have s9 := hu3.symm; subst s9; exact (if_neg h6))) hQ)
  exact key _ ⟨rfl, rfl⟩
theorem c_readRelation_x {ee kk : am_F} (q : RdI kk) (t : TpI ee) : RdI (c_readRelation ee kk).2 := by
  have h1 := (Rd2.rf q).takesSign t (sg := 60) (by decide)
  have h2 := h1.takesSign t (sg := 62) (by decide)
  have h3 := h2.needSign t (sg := 61) (by decide)
  unfold c_readRelation
  dsimp only
  split
  · split
    · exact h3.1
    · exact h2.1
  · exact h1.1
theorem c_readRelation_b (ee kk : am_F) : 2004 ≤ (c_readRelation ee kk).1 ∧ (c_readRelation ee kk).1 ≤ 2006 := by
  unfold c_readRelation
  dsimp only
  split
  · split
    · exact ⟨by dsimp only; omega, by dsimp only; omega⟩
    · exact ⟨by dsimp only; omega, by dsimp only; omega⟩
  · exact ⟨by dsimp only; omega, by dsimp only; omega⟩
theorem c_readFact_b (ee kk : am_F) : -1 ≤ c_readFact ee kk ∧ c_readFact ee kk ≤ 8 := by
  unfold c_readFact
  dsimp only
  repeat' split
  all_goals exact ⟨by decide, by decide⟩
theorem c_partKind_b (ee kk : am_F) : -1 ≤ c_partKind ee kk ∧ c_partKind ee kk ≤ 3 := by
  unfold c_partKind
  dsimp only
  repeat' split
  all_goals exact ⟨by decide, by decide⟩
