/-! the rule reader: a part, a rule -/
def rd_ch (ee v k : am_F) : am_F × am_F := lvCh ee (lvT ee 7) v k
def rd_sm (ee v k : am_F) : am_F × am_F := lvS ee 7 v k
theorem rd_ch_I {ee v k : am_F} (t : TpI ee) (hv : RvI v) (hk : RdI k) : RvI (rd_ch ee v k).1 ∧ RdI (rd_ch ee v k).2 := (lvCh_I t (lvT_I t 7)) v k hv hk
theorem rd_sm_I {ee v k : am_F} (t : TpI ee) (hv : RvI v) (hk : RdI k) : RvI (rd_sm ee v k).1 ∧ RdI (rd_sm ee v k).2 := (lvS_I t 7) v k hv hk
theorem rd_ch_C {S : am_S} {w : AH} {hb sp rb rs : Nat} {po : AV} {ee hh ss uu pp rr tt gg aa dd bd ga im : am_F} (hl : 109 ≤ w.length) (hp : hb = 1 ∧ sp = 21 ∨ hb = 21 ∧ sp = 1) (hr : rb = 41 ∧ rs = 46 ∨ rb = 46 ∧ rs = 41) (t : TpI ee) {v k : am_F} {d' : Nat} (hd : 32 ≤ d') (hv : RvI v) (hk : RdI k) : am_Out S zX8_readChoice d' 0 [aR 53, aI 0] (hfW w hb sp rb rs hb po (aR rs) ee hh ss uu v pp k rr tt gg aa dd bd ga im) (.inl none) (hfW w hb sp rb rs hb po (aR rs) ee hh ss uu (rd_ch ee v k).1 pp (rd_ch ee v k).2 rr tt gg aa dd bd ga im) := lvCh_0 hl hp hr t d' v k hd hv hk
theorem rd_sm_C {S : am_S} {w : AH} {hb sp rb rs : Nat} {po : AV} {ee hh ss uu pp rr tt gg aa dd bd ga im : am_F} (hl : 109 ≤ w.length) (hp : hb = 1 ∧ sp = 21 ∨ hb = 21 ∧ sp = 1) (hr : rb = 41 ∧ rs = 46 ∨ rb = 46 ∧ rs = 41) (t : TpI ee) {v k : am_F} {d' : Nat} (hd : 29 ≤ d') (hv : RvI v) (hk : RdI k) : am_Out S zX8_readSum d' 0 [aR 53, aI 0] (hfW w hb sp rb rs hb po (aR rs) ee hh ss uu v pp k rr tt gg aa dd bd ga im) (.inl none) (hfW w hb sp rb rs hb po (aR rs) ee hh ss uu (rd_sm ee v k).1 pp (rd_sm ee v k).2 rr tt gg aa dd bd ga im) := lvS_0 hl hp hr t d' v k hd hv hk
def c_readPart (ee : am_F) (vv : am_F) (kk : am_F) (ps : Int) : am_F × am_F := (let u1 : Int × am_F := c_word ee kk; (let wt_9 : Int := (c_partKind ee ((u1).2)); (let kk12 : am_F := (if wt_9 = (-1) then c_wrong ((u1).2) 1 ((u1).2 0 3) else (if ps < 8 then ((u1).2) else c_wrong ((u1).2) 3 ((u1).2 0 3))); (let vv43 : am_F := (if wt_9 = 0 then (let u48 : am_F × am_F := rd_ch ee vv kk12; ((u48).1)) else (let u56 : am_F × am_F := rd_sm ee vv kk12; ((u56).1))); (let kk43 : am_F := (if wt_9 = 0 then (let u48 : am_F × am_F := rd_ch ee vv kk12; ((u48).2)) else (let u56 : am_F × am_F := rd_sm ee vv kk12; ((u56).2))); (let kk62 : am_F := c_needSign ee kk43 59; (let z66 : Int := (c_fine kk62); (let vv69 : am_F := (if z66 = 0 then vv43 else f_endPart vv43 wt_9); (vv69, kk62)))))))))
theorem mc_readPart {S : am_S} {d u : Nat} {w : AH} {hb sp rb rs : Nat} {po : AV} (hl : 109 ≤ w.length) (hp : hb = 1 ∧ sp = 21 ∨ hb = 21 ∧ sp = 1) (hr : rb = 41 ∧ rs = 46 ∨ rb = 46 ∧ rs = 41) {ee : am_F} {hh : am_F} {ss : am_F} {uu : am_F} {vv : am_F} {pp : am_F} {kk : am_F} {rr : am_F} {tt : am_F} {gg : am_F} {aa : am_F} {dd : am_F} {bd : am_F} {ga : am_F} {im : am_F} (ps : Int) (hP : RdI kk) (hTp : TpI ee) (hV : RvI vv)  (hd : 33 ≤ d) : am_Out S zX8_readPart d u [aR 53, aI ps] (hfW w hb sp rb rs hb po (aR rs) ee hh ss uu vv pp kk rr tt gg aa dd bd ga im) (.inl none) (hfW w hb sp rb rs hb po (aR rs) ee hh ss uu ((c_readPart ee vv kk ps).1) pp ((c_readPart ee vv kk ps).2) rr tt gg aa dd bd ga im) := by
  have key : ∀ Q : AO → AH → Prop, Q (.inl none) (hfW w hb sp rb rs hb po (aR rs) ee hh ss uu ((c_readPart ee vv kk ps).1) pp ((c_readPart ee vv kk ps).2) rr tt gg aa dd bd ga im) → am_M S zX8_readPart d u [aR 53, aI ps] (hfW w hb sp rb rs hb po (aR rs) ee hh ss uu vv pp kk rr tt gg aa dd bd ga im) Q := by
    intro Q hQ
    refine am_body rfl (by decide +kernel) rfl (am_cats_cons rfl ( am_cats_cons rfl (am_cats_nil))) (Nat.le_of_ble_eq_true rfl) (?_ : am_T _ _ _ _ _ 0 [some (aR 53), some (aI ps), none] [] (hfW w hb sp rb rs hb po (aR rs) ee hh ss uu vv pp kk rr tt gg aa dd bd ga im))
    have hP9 := hP
    obtain ⟨⟨vr1, vr2⟩, vr3, vr4, vr5⟩ := hP9
    have hV9 := hV
    obtain ⟨⟨hV1, hV2⟩, hV3, hV4⟩ := hV9
    refine T_aload_n (am_dec tX8_readPart_0 0 rfl) rfl ?_
    refine T_callU (as := []) rfl (am_dec tX8_readPart_0 1 rfl) lkX8_33_X8 (show (hfW w hb sp rb rs hb po (aR rs) ee hh ss uu vv pp kk rr tt gg aa dd bd ga im)[53]? = some (cO 7 [aR 51, aI (kk 0 1), aI (kk 0 2), aI (kk 0 3), aI (kk 0 4), aI (kk 0 5), aR rs]) from (hfW_c hl 53 (by decide))) rfl rfl (Nat.le_of_ble_eq_true rfl) (by omega) (md_word (d := d - 1) hl hp hr   hP hTp (by omega)) (fun _ => ?_)
    obtain ⟨u1, hu1⟩ : ∃ x9, x9 = c_word ee kk := ⟨_, rfl⟩
    rw [← hu1]
    have hxu1 : Rd2 kk u1.2 := by rw [hu1]; exact (Rd2.rf hP).word hTp
    have hIu1 := hxu1.1
    have hgu1 := hIu1
    obtain ⟨⟨yr11, yr12⟩, yr13, yr14, yr15⟩ := hgu1
    have heu1_7 : u1.2 0 7 = kk 0 7 := hxu1.2 0 7 (by decide)
    have heu1_8 : u1.2 0 8 = kk 0 8 := hxu1.2 0 8 (by decide)
    have heu1_9 : u1.2 0 9 = kk 0 9 := hxu1.2 0 9 (by decide)
    have heu1_10 : u1.2 0 10 = kk 0 10 := hxu1.2 0 10 (by decide)
    have hbu1 : 0 - 600 ≤ u1.1 ∧ u1.1 ≤ 600 := by rw [hu1]; exact c_word_b hP hTp
    refine T_pop (am_dec tX8_readPart_0 2 rfl) rfl ?_
    refine T_aload_n (am_dec tX8_readPart_0 3 rfl) rfl ?_
    refine T_callV (as := []) rfl (am_dec tX8_readPart_0 4 rfl) lkX8_36 (show (hfW w hb sp rb rs hb po (aR rs) ee hh ss uu vv pp ((u1).2) rr tt gg aa dd bd ga im)[53]? = some (cO 7 [aR 51, aI ((u1).2 0 1), aI ((u1).2 0 2), aI ((u1).2 0 3), aI ((u1).2 0 4), aI ((u1).2 0 5), aR rs]) from (hfW_c hl 53 (by decide))) rfl rfl (Nat.le_of_ble_eq_true rfl) (by omega) (mc_partKind (d := d - 1) hl hp hr   hIu1 hTp (by omega)) (fun _ => ?_)
    have hb6 := c_partKind_b ee ((u1).2)
    refine T_nm (fun wt_9 hwt_9 => ?_)
    refine T_istore_n (ls' := [some (aR 53), some (aI ps), some (aI wt_9)]) (am_dec tX8_readPart_0 5 rfl) (by decide) rfl ?_
    refine T_iload_n (am_dec tX8_readPart_0 6 rfl) rfl ?_
    refine T_iconst (-1) (am_dec tX8_readPart_0 7 rfl) rfl ⟨by decide, by decide⟩ ?_
    have K12 : ∀ (kk12 : am_F), kk12 = (if wt_9 = (-1) then c_wrong ((u1).2) 1 ((u1).2 0 3) else (if ps < 8 then ((u1).2) else c_wrong ((u1).2) 3 ((u1).2 0 3))) →  am_T S zX8_readPart d u Q 42 [some (aR 53), none, some (aI wt_9)] [] (hfW w hb sp rb rs hb po (aR rs) ee hh ss uu vv pp kk12 rr tt gg aa dd bd ga im) := by
      intro kk12 hkk12 
      have hIkk12 : RdI kk12 := by
        rw [hkk12]
        try dsimp only
        repeat' split
        all_goals first | exact hIu1 | exact c_wrong_I hIu1 _ _
      refine T_iload_n (am_dec tX8_readPart_0 23 rfl) rfl ?_
      have K43 : ∀ (vv43 : am_F), ∀ (kk43 : am_F), vv43 = (if wt_9 = 0 then (let u48 : am_F × am_F := rd_ch ee vv kk12; ((u48).1)) else (let u56 : am_F × am_F := rd_sm ee vv kk12; ((u56).1))) → kk43 = (if wt_9 = 0 then (let u48 : am_F × am_F := rd_ch ee vv kk12; ((u48).2)) else (let u56 : am_F × am_F := rd_sm ee vv kk12; ((u56).2))) →  am_T S zX8_readPart d u Q 59 [some (aR 53), none, some (aI wt_9)] [] (hfW w hb sp rb rs hb po (aR rs) ee hh ss uu vv43 pp kk43 rr tt gg aa dd bd ga im) := by
        intro vv43 kk43 hvv43 hkk43 
        have hIkk43 : RdI kk43 := by
          rw [hkk43]
          try dsimp only
          split
          · exact (rd_ch_I hTp hV hIkk12).2
          · exact (rd_sm_I hTp hV hIkk12).2
        have hVvv43 : RvI vv43 := by
          rw [hvv43]
          try dsimp only
          split
          · exact (rd_ch_I hTp hV hIkk12).1
          · exact (rd_sm_I hTp hV hIkk12).1
        refine T_aload_n (am_dec tX8_readPart_0 32 rfl) rfl ?_
        refine T_bipush 59 (am_dec tX8_readPart_0 33 rfl) rfl ⟨by decide, by decide⟩ ?_
        refine T_callU (as := [aI 59]) rfl (am_dec tX8_readPart_0 34 rfl) lkX8_53_X8 (show (hfW w hb sp rb rs hb po (aR rs) ee hh ss uu vv43 pp kk43 rr tt gg aa dd bd ga im)[53]? = some (cO 7 [aR 51, aI (kk43 0 1), aI (kk43 0 2), aI (kk43 0 3), aI (kk43 0 4), aI (kk43 0 5), aR rs]) from (hfW_c hl 53 (by decide))) rfl rfl (Nat.le_of_ble_eq_true rfl) (by omega) (md_needSign (d := d - 1) hl hp hr 59  (by omega) hIkk43 hTp (by omega)) (fun _ => ?_)
        refine T_nmH (W := fun x9 => hfW w hb sp rb rs hb po (aR rs) ee hh ss uu vv43 pp x9 rr tt gg aa dd bd ga im) (v := c_needSign ee kk43 59) (fun kk62 hkk62 => ?_)
        have hxkk62 : Rd2 kk43 kk62 := by rw [hkk62]; exact (Rd2.rf hIkk43).needSign hTp (by omega)
        have hIkk62 := hxkk62.1
        have hekk62_7 : kk62 0 7 = kk43 0 7 := hxkk62.2 0 7 (by decide)
        have hekk62_8 : kk62 0 8 = kk43 0 8 := hxkk62.2 0 8 (by decide)
        have hekk62_9 : kk62 0 9 = kk43 0 9 := hxkk62.2 0 9 (by decide)
        have hekk62_10 : kk62 0 10 = kk43 0 10 := hxkk62.2 0 10 (by decide)
        refine T_aload_n (am_dec tX8_readPart_0 35 rfl) rfl ?_
        refine T_callU (as := []) rfl (am_dec tX8_readPart_0 36 rfl) lkX8_21_X8 (show (hfW w hb sp rb rs hb po (aR rs) ee hh ss uu vv43 pp kk62 rr tt gg aa dd bd ga im)[53]? = some (cO 7 [aR 51, aI (kk62 0 1), aI (kk62 0 2), aI (kk62 0 3), aI (kk62 0 4), aI (kk62 0 5), aR rs]) from (hfW_c hl 53 (by decide))) rfl rfl (Nat.le_of_ble_eq_true rfl) (by omega) (md_fine (d := d - 1) hl hp hr    (by omega)) (fun _ => ?_)
        refine T_nm (fun z66 hz66 => ?_)
        have hb66 := c_fine_b kk62
        rw [← hz66] at hb66
        have K69 : ∀ (vv69 : am_F), vv69 = (if z66 = 0 then vv43 else f_endPart vv43 wt_9) →  am_T S zX8_readPart d u Q 80 [none, none, none] [] (hfW w hb sp rb rs hb po (aR rs) ee hh ss uu vv69 pp kk62 rr tt gg aa dd bd ga im) := by
          intro vv69 hvv69 
          have hVvv69 : RvI vv69 := by
            rw [hvv69]
            try dsimp only
            split
            · exact hVvv43
            · exact f_endPart_I hVvv43 _
          exact T_return (am_dec tX8_readPart_1 2 rfl) rfl (am_tr (fun (x9 : am_F × am_F) => Q (.inl none) (hfW w hb sp rb rs hb po (aR rs) ee hh ss uu x9.1 pp x9.2 rr tt gg aa dd bd ga im)) (y := (vv69, kk62)) (show (c_readPart ee vv kk ps) = (vv69, kk62) from (by have s9 := hu1.symm; subst s9; have s9 := hwt_9.symm; subst s9; have s9 := hkk12.symm; subst s9; have s9 := hvv43.symm; subst s9; have s9 := hkk43.symm; subst s9; have s9 := hkk62.symm; subst s9; have s9 := hz66.symm; subst s9; have s9 := hvv69.symm; subst s9; exact rfl)) hQ)
        refine T_if_eq 80 (am_dec tX8_readPart_0 37 rfl) rfl (fun h69 => ?_) (fun h69 => ?_)
        · refine T_weak (ls' := [none, none, none]) (am_sub_n (am_sub_n (am_sub_n am_sub_nil))) ?_
          exact K69 _ (if_pos h69).symm 
        · refine T_aload_n (am_dec tX8_readPart_0 38 rfl) rfl ?_
          refine T_getfield 7 6 (am_dec tX8_readPart_0 39 rfl) flX8_9_7 (show (hfW w hb sp rb rs hb po (aR rs) ee hh ss uu vv43 pp kk62 rr tt gg aa dd bd ga im)[53]? = some (cO 7 [aR 51, aI (kk62 0 1), aI (kk62 0 2), aI (kk62 0 3), aI (kk62 0 4), aI (kk62 0 5), aR rs]) from (hfW_c hl 53 (by decide))) rfl ?_
          refine T_iload_n (am_dec tX8_readPart_1 0 rfl) rfl ?_
          refine T_callV (as := [aI wt_9]) rfl (am_dec tX8_readPart_1 1 rfl) lkX8_56 (show (hfW w hb sp rb rs hb po (aR rs) ee hh ss uu vv43 pp kk62 rr tt gg aa dd bd ga im)[rs]? = some (cO 6 [aI (vv43 0 0), aI (vv43 0 1), aR (rs + 1), aR (rs + 2), aR (rs + 3), aR (rs + 4)]) from ((hf_V hl hr) 0 (by decide))) rfl rfl (Nat.le_of_ble_eq_true rfl) (by omega) (am_OutE (m_endPart (d := d - 1) (w := hfW w hb sp rb rs hb po (aR rs) ee hh ss uu vv43 pp kk62 rr tt gg aa dd bd ga im) (hf_le hl (by omega)) wt_9 hVvv43.1.2) (hf_uV hr) (hf_uV hr)) (fun _ => ?_)
          refine T_nmH (W := fun x9 => hfW w hb sp rb rs hb po (aR rs) ee hh ss uu x9 pp kk62 rr tt gg aa dd bd ga im) (v := f_endPart vv43 wt_9) (fun vv77 hvv77 => ?_)
          have hVvv77 : RvI vv77 := by rw [hvv77]; exact f_endPart_I hVvv43 _
          refine T_weak (ls' := [none, none, none]) (am_sub_n (am_sub_n (am_sub_n am_sub_nil))) ?_
          exact K69 _ (by have s9 := hvv77.symm; subst s9; exact (if_neg h69).symm) 
      refine T_if_ne 54 (am_dec tX8_readPart_0 24 rfl) rfl (fun h43 => ?_) (fun h43 => ?_)
      · refine T_aload_n (am_dec tX8_readPart_0 29 rfl) rfl ?_
        refine T_iconst 0 (am_dec tX8_readPart_0 30 rfl) rfl ⟨by decide, by decide⟩ ?_
        refine T_callV (as := [aI 0]) rfl (am_dec tX8_readPart_0 31 rfl) lkX8_50 (show (hfW w hb sp rb rs hb po (aR rs) ee hh ss uu vv pp kk12 rr tt gg aa dd bd ga im)[53]? = some (cO 7 [aR 51, aI (kk12 0 1), aI (kk12 0 2), aI (kk12 0 3), aI (kk12 0 4), aI (kk12 0 5), aR rs]) from (hfW_c hl 53 (by decide))) rfl rfl (Nat.le_of_ble_eq_true rfl) (by omega) (rd_sm_C hl hp hr hTp (by omega) hV hIkk12) (fun _ => ?_)
        obtain ⟨u56, hu56⟩ : ∃ x9, x9 = rd_sm ee vv kk12 := ⟨_, rfl⟩
        rw [← hu56]
        obtain ⟨hVu56, hIu56⟩ : RvI u56.1 ∧ RdI u56.2 := by rw [hu56]; exact rd_sm_I hTp hV hIkk12
        exact K43 _ _ (by have s9 := hu56.symm; subst s9; exact (if_neg h43).symm) (by have s9 := hu56.symm; subst s9; exact (if_neg h43).symm) 
      · refine T_aload_n (am_dec tX8_readPart_0 25 rfl) rfl ?_
        refine T_iconst 0 (am_dec tX8_readPart_0 26 rfl) rfl ⟨by decide, by decide⟩ ?_
        refine T_callV (as := [aI 0]) rfl (am_dec tX8_readPart_0 27 rfl) lkX8_47 (show (hfW w hb sp rb rs hb po (aR rs) ee hh ss uu vv pp kk12 rr tt gg aa dd bd ga im)[53]? = some (cO 7 [aR 51, aI (kk12 0 1), aI (kk12 0 2), aI (kk12 0 3), aI (kk12 0 4), aI (kk12 0 5), aR rs]) from (hfW_c hl 53 (by decide))) rfl rfl (Nat.le_of_ble_eq_true rfl) (by omega) (rd_ch_C hl hp hr hTp (by omega) hV hIkk12) (fun _ => ?_)
        obtain ⟨u48, hu48⟩ : ∃ x9, x9 = rd_ch ee vv kk12 := ⟨_, rfl⟩
        rw [← hu48]
        obtain ⟨hVu48, hIu48⟩ : RvI u48.1 ∧ RdI u48.2 := by rw [hu48]; exact rd_ch_I hTp hV hIkk12
        refine T_goto 59 (am_dec tX8_readPart_0 28 rfl) rfl ?_
        exact K43 _ _ (by have s9 := hu48.symm; subst s9; exact (if_pos h43).symm) (by have s9 := hu48.symm; subst s9; exact (if_pos h43).symm) 
    refine T_icmp_ne 27 (am_dec tX8_readPart_0 8 rfl) rfl (fun h12 => ?_) (fun h12 => ?_)
    · refine T_iload_n (am_dec tX8_readPart_0 15 rfl) rfl ?_
      refine T_bipush 8 (am_dec tX8_readPart_0 16 rfl) rfl ⟨by decide, by decide⟩ ?_
      have K30 : ∀ (kk30 : am_F), kk30 = (if ps < 8 then ((u1).2) else c_wrong ((u1).2) 3 ((u1).2 0 3)) →  am_T S zX8_readPart d u Q 42 [some (aR 53), none, some (aI wt_9)] [] (hfW w hb sp rb rs hb po (aR rs) ee hh ss uu vv pp kk30 rr tt gg aa dd bd ga im) := by
        intro kk30 hkk30 
        have hIkk30 : RdI kk30 := by
          rw [hkk30]
          try dsimp only
          repeat' split
          all_goals first | exact hIu1 | exact c_wrong_I hIu1 _ _
        exact K12 _ (by have s9 := hkk30.symm; subst s9; exact (if_neg h12).symm) 
      refine T_icmp_lt 42 (am_dec tX8_readPart_0 17 rfl) rfl (fun h30 => ?_) (fun h30 => ?_)
      · refine T_weak (ls' := [some (aR 53), none, some (aI wt_9)]) (am_sub_s (am_sub_n (am_sub_s am_sub_nil))) ?_
        exact K30 _ (if_pos h30).symm 
      · refine T_aload_n (am_dec tX8_readPart_0 18 rfl) rfl ?_
        refine T_iconst 3 (am_dec tX8_readPart_0 19 rfl) rfl ⟨by decide, by decide⟩ ?_
        refine T_aload_n (am_dec tX8_readPart_0 20 rfl) rfl ?_
        refine T_getfield 7 3 (am_dec tX8_readPart_0 21 rfl) flX8_39_7 (show (hfW w hb sp rb rs hb po (aR rs) ee hh ss uu vv pp ((u1).2) rr tt gg aa dd bd ga im)[53]? = some (cO 7 [aR 51, aI ((u1).2 0 1), aI ((u1).2 0 2), aI ((u1).2 0 3), aI ((u1).2 0 4), aI ((u1).2 0 5), aR rs]) from (hfW_c hl 53 (by decide))) rfl ?_
        refine T_callU (as := [aI 3, aI ((u1).2 0 3)]) rfl (am_dec tX8_readPart_0 22 rfl) lkX8_43_X8 (show (hfW w hb sp rb rs hb po (aR rs) ee hh ss uu vv pp ((u1).2) rr tt gg aa dd bd ga im)[53]? = some (cO 7 [aR 51, aI ((u1).2 0 1), aI ((u1).2 0 2), aI ((u1).2 0 3), aI ((u1).2 0 4), aI ((u1).2 0 5), aR rs]) from (hfW_c hl 53 (by decide))) rfl rfl (Nat.le_of_ble_eq_true rfl) (by omega) (md_wrong (d := d - 1) hl hp hr 3 ((u1).2 0 3)   (by omega)) (fun _ => ?_)
        refine T_nmH (W := fun x9 => hfW w hb sp rb rs hb po (aR rs) ee hh ss uu vv pp x9 rr tt gg aa dd bd ga im) (v := c_wrong ((u1).2) 3 ((u1).2 0 3)) (fun kk39 hkk39 => ?_)
        have hIkk39 : RdI kk39 := by rw [hkk39]; exact c_wrong_I hIu1 _ _
        refine T_weak (ls' := [some (aR 53), none, some (aI wt_9)]) (am_sub_s (am_sub_n (am_sub_s am_sub_nil))) ?_
        exact K30 _ (by have s9 := hkk39.symm; subst s9; exact (if_neg h30).symm) 
    · refine T_aload_n (am_dec tX8_readPart_0 9 rfl) rfl ?_
      refine T_iconst 1 (am_dec tX8_readPart_0 10 rfl) rfl ⟨by decide, by decide⟩ ?_
      refine T_aload_n (am_dec tX8_readPart_0 11 rfl) rfl ?_
      refine T_getfield 7 3 (am_dec tX8_readPart_0 12 rfl) flX8_39_7 (show (hfW w hb sp rb rs hb po (aR rs) ee hh ss uu vv pp ((u1).2) rr tt gg aa dd bd ga im)[53]? = some (cO 7 [aR 51, aI ((u1).2 0 1), aI ((u1).2 0 2), aI ((u1).2 0 3), aI ((u1).2 0 4), aI ((u1).2 0 5), aR rs]) from (hfW_c hl 53 (by decide))) rfl ?_
      refine T_callU (as := [aI 1, aI ((u1).2 0 3)]) rfl (am_dec tX8_readPart_0 13 rfl) lkX8_43_X8 (show (hfW w hb sp rb rs hb po (aR rs) ee hh ss uu vv pp ((u1).2) rr tt gg aa dd bd ga im)[53]? = some (cO 7 [aR 51, aI ((u1).2 0 1), aI ((u1).2 0 2), aI ((u1).2 0 3), aI ((u1).2 0 4), aI ((u1).2 0 5), aR rs]) from (hfW_c hl 53 (by decide))) rfl rfl (Nat.le_of_ble_eq_true rfl) (by omega) (md_wrong (d := d - 1) hl hp hr 1 ((u1).2 0 3)   (by omega)) (fun _ => ?_)
      refine T_nmH (W := fun x9 => hfW w hb sp rb rs hb po (aR rs) ee hh ss uu vv pp x9 rr tt gg aa dd bd ga im) (v := c_wrong ((u1).2) 1 ((u1).2 0 3)) (fun kk21 hkk21 => ?_)
      have hIkk21 : RdI kk21 := by rw [hkk21]; exact c_wrong_I hIu1 _ _
      refine T_goto 42 (am_dec tX8_readPart_0 14 rfl) rfl ?_
      refine T_weak (ls' := [some (aR 53), none, some (aI wt_9)]) (am_sub_s (am_sub_n (am_sub_s am_sub_nil))) ?_
      exact K12 _ (by have s9 := hkk21.symm; subst s9; exact (if_pos h12).symm) 
  exact key _ ⟨rfl, rfl⟩
theorem c_readPart_x {ee vv kk : am_F} (t : TpI ee) (hv : RvI vv) (hk : RdI kk) (ps : Int) : RvI (c_readPart ee vv kk ps).1 ∧ RdI (c_readPart ee vv kk ps).2 := by
  have h1 := ((Rd2.rf hk).word t).1
  unfold c_readPart
  dsimp only
  generalize c_word ee kk = u1 at *
  generalize c_partKind ee u1.2 = wt
  have h2 : RdI (if wt = -1 then c_wrong u1.2 1 (u1.2 0 3) else (if ps < 8 then u1.2 else c_wrong u1.2 3 (u1.2 0 3))) := by
    repeat' split
    all_goals first | exact h1 | exact c_wrong_I h1 _ _
  generalize (if wt = -1 then c_wrong u1.2 1 (u1.2 0 3) else (if ps < 8 then u1.2 else c_wrong u1.2 3 (u1.2 0 3))) = k2 at *
  have h3 : RvI (if wt = 0 then (rd_ch ee vv k2).1 else (rd_sm ee vv k2).1) := by
    split
    · exact (rd_ch_I t hv h2).1
    · exact (rd_sm_I t hv h2).1
  have h4 : RdI (if wt = 0 then (rd_ch ee vv k2).2 else (rd_sm ee vv k2).2) := by
    split
    · exact (rd_ch_I t hv h2).2
    · exact (rd_sm_I t hv h2).2
  generalize (if wt = 0 then (rd_ch ee vv k2).1 else (rd_sm ee vv k2).1) = v3 at *
  generalize (if wt = 0 then (rd_ch ee vv k2).2 else (rd_sm ee vv k2).2) = k3 at *
  refine ⟨?_, ((Rd2.rf h4).needSign t (sg := 59) (by decide)).1⟩
  split
  · exact h3
  · exact f_endPart_I h3 _
def w_c_ruleInto_14 (ee : am_F) (x9 : Int × am_F × am_F) : (Int × am_F × am_F) ⊕ (Int × am_F × am_F) := let cs : Int := x9.1; let vv : am_F := x9.2.1; let kk : am_F := x9.2.2; (if 200 ≤ cs then .inr (cs, vv, kk) else (let z22 : Int := (c_fine kk); (if z22 = 0 then .inr (cs, vv, kk) else (let u29 : Int × am_F := c_peek ee kk; (if (u29).1 = (-1) then .inr (cs, vv, (u29).2) else (let u38 : am_F × am_F := c_readPart ee vv ((u29).2) cs; .inl ((cs + 1), (u38).1, (u38).2)))))))
theorem L_c_ruleInto_14 {S : am_S} {d u : Nat} {Q : AO → AH → Prop} {w : AH} {hb sp rb rs : Nat} {po ro : AV} (hl : 109 ≤ w.length) (hp : hb = 1 ∧ sp = 21 ∨ hb = 21 ∧ sp = 1) (hr : rb = 41 ∧ rs = 46 ∨ rb = 46 ∧ rs = 41) (ee : am_F) (hh : am_F) (ss : am_F) (uu : am_F) (pp : am_F) (rr : am_F) (tt : am_F) (gg : am_F) (aa : am_F) (dd : am_F) (bd : am_F) (ga : am_F) (im : am_F) (hTp : TpI ee) (hd : 34 ≤ d) : ∀ (n : Nat) (cs : Int) (vv : am_F) (kk : am_F), 200 - cs < n → (RvI vv ∧ RdI kk) ∧ 0 ≤ cs ∧ cs ≤ 200 → (∀ (cs' : Int) (vv' : am_F) (kk' : am_F), cs' = (am_wh (w_c_ruleInto_14 ee) n (cs, vv, kk)).1 → vv' = (am_wh (w_c_ruleInto_14 ee) n (cs, vv, kk)).2.1 → kk' = (am_wh (w_c_ruleInto_14 ee) n (cs, vv, kk)).2.2 → (RvI vv' ∧ RdI kk') ∧ 0 ≤ cs' ∧ cs' ≤ 200 → am_T S zX8_readInto d u Q 47 [none, none, none] [] (hfW w hb sp rb rs hb po (aR rs) ee hh ss uu vv' pp kk' rr tt gg aa dd bd ga im)) → am_T S zX8_readInto d u Q 14 [some (aR 53), none, some (aI cs)] [] (hfW w hb sp rb rs hb po (aR rs) ee hh ss uu vv pp kk rr tt gg aa dd bd ga im) := by
  intro n
  induction n with
  | zero =>
    intro cs vv kk hm9 hinv k9
    have hV := hinv.1.1
    have hP := hinv.1.2
    have hP9 := hP
    obtain ⟨⟨vr1, vr2⟩, vr3, vr4, vr5⟩ := hP9
    have hV9 := hV
    obtain ⟨⟨hV1, hV2⟩, hV3, hV4⟩ := hV9
    exfalso; omega
  | succ n ih =>
    intro cs vv kk hm9 hinv k9
    have hV := hinv.1.1
    have hP := hinv.1.2
    have hP9 := hP
    obtain ⟨⟨vr1, vr2⟩, vr3, vr4, vr5⟩ := hP9
    have hV9 := hV
    obtain ⟨⟨hV1, hV2⟩, hV3, hV4⟩ := hV9
    refine T_iload_n (am_dec tX8_readInto_0 8 rfl) rfl ?_
    refine T_sipush 200 (am_dec tX8_readInto_0 9 rfl) rfl ⟨by decide, by decide⟩ ?_
    refine T_icmp_ge 47 (am_dec tX8_readInto_0 10 rfl) rfl (fun h18 => ?_) (fun h18 => ?_)
    · refine T_weak (ls' := [none, none, none]) (am_sub_n (am_sub_n (am_sub_n am_sub_nil))) ?_
      have e9 : (w_c_ruleInto_14 ee) (cs, vv, kk) = .inr (cs, vv, kk) := (if_pos h18)
      simp only [am_wh_r e9] at k9
      exact k9 _ _ _ rfl rfl rfl ⟨⟨hV, hP⟩, by omega, by omega⟩
    · refine T_aload_n (am_dec tX8_readInto_0 11 rfl) rfl ?_
      refine T_callU (as := []) rfl (am_dec tX8_readInto_0 12 rfl) lkX8_21_X8 (show (hfW w hb sp rb rs hb po (aR rs) ee hh ss uu vv pp kk rr tt gg aa dd bd ga im)[53]? = some (cO 7 [aR 51, aI (kk 0 1), aI (kk 0 2), aI (kk 0 3), aI (kk 0 4), aI (kk 0 5), aR rs]) from (hfW_c hl 53 (by decide))) rfl rfl (Nat.le_of_ble_eq_true rfl) (by omega) (md_fine (d := d - 1) hl hp hr    (by omega)) (fun _ => ?_)
      refine T_nm (fun z22 hz22 => ?_)
      have hb22 := c_fine_b kk
      rw [← hz22] at hb22
      refine T_if_eq 47 (am_dec tX8_readInto_0 13 rfl) rfl (fun h25 => ?_) (fun h25 => ?_)
      · refine T_weak (ls' := [none, none, none]) (am_sub_n (am_sub_n (am_sub_n am_sub_nil))) ?_
        have e9 : (w_c_ruleInto_14 ee) (cs, vv, kk) = .inr (cs, vv, kk) := (by have s9 := hz22.symm; subst s9; exact ((if_neg h18).trans (if_pos h25)))
        simp only [am_wh_r e9] at k9
        exact k9 _ _ _ rfl rfl rfl ⟨⟨hV, hP⟩, by omega, by omega⟩
      · refine T_aload_n (am_dec tX8_readInto_0 14 rfl) rfl ?_
        refine T_callU (as := []) rfl (am_dec tX8_readInto_0 15 rfl) lkX8_25_X8 (show (hfW w hb sp rb rs hb po (aR rs) ee hh ss uu vv pp kk rr tt gg aa dd bd ga im)[53]? = some (cO 7 [aR 51, aI (kk 0 1), aI (kk 0 2), aI (kk 0 3), aI (kk 0 4), aI (kk 0 5), aR rs]) from (hfW_c hl 53 (by decide))) rfl rfl (Nat.le_of_ble_eq_true rfl) (by omega) (md_peek (d := d - 1) hl hp hr   hP hTp (by omega)) (fun _ => ?_)
        obtain ⟨u29, hu29⟩ : ∃ x9, x9 = c_peek ee kk := ⟨_, rfl⟩
        rw [← hu29]
        obtain ⟨hIu29, hvu29, hwu29, hfu29⟩ : RdI u29.2 ∧ (-1 ≤ u29.1 ∧ u29.1 ≤ 255) ∧ (u29.1 = -1 ∨ u29.2 0 2 < u29.2 0 1) ∧ ∀ k j, ¬ (k = 0 ∧ j = 2) → u29.2 k j = kk k j := by rw [hu29]; exact c_peek_x hP hTp
        have hgu29 := hIu29
        obtain ⟨⟨yr291, yr292⟩, yr293, yr294, yr295⟩ := hgu29
        refine T_iconst (-1) (am_dec tX8_readInto_0 16 rfl) rfl ⟨by decide, by decide⟩ ?_
        refine T_icmp_eq 47 (am_dec tX8_readInto_0 17 rfl) rfl (fun h33 => ?_) (fun h33 => ?_)
        · refine T_weak (ls' := [none, none, none]) (am_sub_n (am_sub_n (am_sub_n am_sub_nil))) ?_
          have e9 : (w_c_ruleInto_14 ee) (cs, vv, kk) = .inr (cs, vv, (u29).2) := (by have s9 := hz22.symm; subst s9; have s9 := hu29.symm; subst s9; exact ((if_neg h18).trans ((if_neg h25).trans (if_pos h33))))
          simp only [am_wh_r e9] at k9
          exact k9 _ _ _ rfl rfl rfl ⟨⟨hV, hIu29⟩, by omega, by omega⟩
        · refine T_aload_n (am_dec tX8_readInto_0 18 rfl) rfl ?_
          refine T_iload_n (am_dec tX8_readInto_0 19 rfl) rfl ?_
          refine T_callV (as := [aI cs]) rfl (am_dec tX8_readInto_0 20 rfl) lkX8_29 (show (hfW w hb sp rb rs hb po (aR rs) ee hh ss uu vv pp ((u29).2) rr tt gg aa dd bd ga im)[53]? = some (cO 7 [aR 51, aI ((u29).2 0 1), aI ((u29).2 0 2), aI ((u29).2 0 3), aI ((u29).2 0 4), aI ((u29).2 0 5), aR rs]) from (hfW_c hl 53 (by decide))) rfl rfl (Nat.le_of_ble_eq_true rfl) (by omega) (mc_readPart (d := d - 1) hl hp hr cs  hIu29 hTp hV (by omega)) (fun _ => ?_)
          obtain ⟨u38, hu38⟩ : ∃ x9, x9 = c_readPart ee vv ((u29).2) cs := ⟨_, rfl⟩
          rw [← hu38]
          obtain ⟨hVu38, hIu38⟩ : RvI u38.1 ∧ RdI u38.2 := by rw [hu38]; exact c_readPart_x hTp hV hIu29 _
          refine T_iinc (ls' := [some (aR 53), none, some (aI (cs + 1))]) (cs + 1) (am_dec tX8_readInto_0 21 rfl) rfl rfl ⟨by omega, by omega⟩ (by decide) rfl ?_
          refine T_goto 14 (am_dec tX8_readInto_0 22 rfl) rfl ?_
          have e9 : (w_c_ruleInto_14 ee) (cs, vv, kk) = .inl (cs + 1, (u38).1, (u38).2) := (by have s9 := hz22.symm; subst s9; have s9 := hu29.symm; subst s9; have s9 := hu38.symm; subst s9; exact ((if_neg h18).trans ((if_neg h25).trans (if_neg h33))))
          simp only [am_wh_l e9] at k9
          exact ih (cs + 1) ((u38).1) ((u38).2) (by omega) ⟨⟨hVu38, hIu38⟩, by omega, by omega⟩ k9
def c_ruleInto (ee : am_F) (vv : am_F) (kk : am_F) : am_F × am_F := (let vv9 : am_F := am_put (am_put vv 0 0 0) 0 1 0; (let vv14 : am_F := (am_wh (w_c_ruleInto_14 ee) 201 (0, vv9, kk)).2.1; (let kk14 : am_F := (am_wh (w_c_ruleInto_14 ee) 201 (0, vv9, kk)).2.2; (vv14, kk14))))
theorem mc_ruleInto {S : am_S} {d u : Nat} {w : AH} {hb sp rb rs : Nat} {po ro : AV} (hl : 109 ≤ w.length) (hp : hb = 1 ∧ sp = 21 ∨ hb = 21 ∧ sp = 1) (hr : rb = 41 ∧ rs = 46 ∨ rb = 46 ∧ rs = 41) {ee : am_F} {hh : am_F} {ss : am_F} {uu : am_F} {vv : am_F} {pp : am_F} {kk : am_F} {rr : am_F} {tt : am_F} {gg : am_F} {aa : am_F} {dd : am_F} {bd : am_F} {ga : am_F} {im : am_F}  (hP : RdI kk) (hTp : TpI ee) (hV : RvI vv)  (hd : 34 ≤ d) : am_Out S zX8_readInto d u [aR 53, aR rs] (hfW w hb sp rb rs hb po ro ee hh ss uu vv pp kk rr tt gg aa dd bd ga im) (.inl none) (hfW w hb sp rb rs hb po (aR rs) ee hh ss uu ((c_ruleInto ee vv kk).1) pp ((c_ruleInto ee vv kk).2) rr tt gg aa dd bd ga im) := by
  have key : ∀ Q : AO → AH → Prop, Q (.inl none) (hfW w hb sp rb rs hb po (aR rs) ee hh ss uu ((c_ruleInto ee vv kk).1) pp ((c_ruleInto ee vv kk).2) rr tt gg aa dd bd ga im) → am_M S zX8_readInto d u [aR 53, aR rs] (hfW w hb sp rb rs hb po ro ee hh ss uu vv pp kk rr tt gg aa dd bd ga im) Q := by
    intro Q hQ
    refine am_body rfl (by decide +kernel) rfl (am_cats_cons rfl ( am_cats_cons rfl (am_cats_nil))) (Nat.le_of_ble_eq_true rfl) (?_ : am_T _ _ _ _ _ 0 [some (aR 53), some (aR rs), none] [] (hfW w hb sp rb rs hb po ro ee hh ss uu vv pp kk rr tt gg aa dd bd ga im))
    have hP9 := hP
    obtain ⟨⟨vr1, vr2⟩, vr3, vr4, vr5⟩ := hP9
    have hV9 := hV
    obtain ⟨⟨hV1, hV2⟩, hV3, hV4⟩ := hV9
    refine T_aload_n (am_dec tX8_readInto_0 0 rfl) rfl ?_
    refine T_aload_n (am_dec tX8_readInto_0 1 rfl) rfl ?_
    refine T_putfield (fs' := [aR 51, aI (kk 0 1), aI (kk 0 2), aI (kk 0 3), aI (kk 0 4), aI (kk 0 5), aR rs]) 7 6 (am_dec tX8_readInto_0 2 rfl) flX8_9_7 rfl rfl rfl trivial (show (hfW w hb sp rb rs hb po ro ee hh ss uu vv pp kk rr tt gg aa dd bd ga im)[53]? = some (cO 7 [aR 51, aI (kk 0 1), aI (kk 0 2), aI (kk 0 3), aI (kk 0 4), aI (kk 0 5), ro]) from (hfW_c hl 53 (by decide))) (Nat.le_of_ble_eq_true rfl) rfl ?_
    refine am_wE (w2 := hfW w hb sp rb rs hb po (aR rs) ee hh ss uu vv pp kk rr tt gg aa dd bd ga im) (hf_ro hl) ?_
    refine T_aload_n (am_dec tX8_readInto_0 3 rfl) rfl ?_
    refine T_getfield 7 6 (am_dec tX8_readInto_0 4 rfl) flX8_9_7 (show (hfW w hb sp rb rs hb po (aR rs) ee hh ss uu vv pp kk rr tt gg aa dd bd ga im)[53]? = some (cO 7 [aR 51, aI (kk 0 1), aI (kk 0 2), aI (kk 0 3), aI (kk 0 4), aI (kk 0 5), aR rs]) from (hfW_c hl 53 (by decide))) rfl ?_
    refine T_callV (as := []) rfl (am_dec tX8_readInto_0 5 rfl) lkX8_15 (show (hfW w hb sp rb rs hb po (aR rs) ee hh ss uu vv pp kk rr tt gg aa dd bd ga im)[rs]? = some (cO 6 [aI (vv 0 0), aI (vv 0 1), aR (rs + 1), aR (rs + 2), aR (rs + 3), aR (rs + 4)]) from ((hf_V hl hr) 0 (by decide))) rfl rfl (Nat.le_of_ble_eq_true rfl) (by omega) (am_OutE (m_rreset (d := d - 1) (w := hfW w hb sp rb rs hb po (aR rs) ee hh ss uu vv pp kk rr tt gg aa dd bd ga im) (hf_le hl (by omega))) (hf_uV hr) (hf_uV hr)) (fun _ => ?_)
    refine T_nmH (W := fun x9 => hfW w hb sp rb rs hb po (aR rs) ee hh ss uu x9 pp kk rr tt gg aa dd bd ga im) (v := am_put (am_put vv 0 0 0) 0 1 0) (fun vv9 hvv9 => ?_)
    have hVvv9 : RvI vv9 := by rw [hvv9]; exact f_rreset_I hV.1
    refine T_iconst 0 (am_dec tX8_readInto_0 6 rfl) rfl ⟨by decide, by decide⟩ ?_
    refine T_istore_n (ls' := [some (aR 53), some (aR rs), some (aI 0)]) (am_dec tX8_readInto_0 7 rfl) (by decide) rfl ?_
    refine T_weak (ls' := [some (aR 53), none, some (aI 0)]) (am_sub_s (am_sub_n (am_sub_s am_sub_nil))) ?_
    refine L_c_ruleInto_14 (ro := ro) hl hp hr ee hh ss uu pp rr tt gg aa dd bd ga im  hTp (by omega) 201 0 vv9 kk (by omega) ⟨⟨hVvv9, hP⟩, by omega, by omega⟩ (fun cs_14 vv14 kk14 hcs_14 hvv14 hkk14 hv14 => ?_)
    exact T_return (am_dec tX8_readInto_0 23 rfl) rfl (am_tr (fun (x9 : am_F × am_F) => Q (.inl none) (hfW w hb sp rb rs hb po (aR rs) ee hh ss uu x9.1 pp x9.2 rr tt gg aa dd bd ga im)) (y := (vv14, kk14)) (show (c_ruleInto ee vv kk) = (vv14, kk14) from (by have s9 := hvv9.symm; subst s9; have s9 := hcs_14.symm; subst s9; have s9 := hvv14.symm; subst s9; have s9 := hkk14.symm; subst s9; exact rfl)) hQ)
  exact key _ ⟨rfl, rfl⟩
