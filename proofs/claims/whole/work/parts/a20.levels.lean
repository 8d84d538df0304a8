/-! the rule reader: what is open within what is open -/
def LvC (S : am_S) (w : AH) (hb sp rb rs : Nat) (po : AV) (ee hh ss uu pp rr tt gg aa dd bd ga im : am_F) (z : am_Z) (E : Nat) (dp : Int) (F : am_F → am_F → am_F × am_F) : Prop := ∀ (d' : Nat) (v k : am_F), E ≤ d' → RvI v → RdI k → am_Out S z d' 0 [aR 53, aI dp] (hfW w hb sp rb rs hb po (aR rs) ee hh ss uu v pp k rr tt gg aa dd bd ga im) (.inl none) (hfW w hb sp rb rs hb po (aR rs) ee hh ss uu (F v k).1 pp (F v k).2 rr tt gg aa dd bd ga im)
def LvI (F : am_F → am_F → am_F × am_F) : Prop := ∀ v k, RvI v → RdI k → RvI (F v k).1 ∧ RdI (F v k).2
def c_readUnit (ee : am_F) (vv : am_F) (kk : am_F) (dp : Int) (fs : am_F → am_F → am_F × am_F) : am_F × am_F := (let u3 : Int × am_F := c_takesSign ee kk 40; (let vv6 : am_F := (if (u3).1 = 0 then (let u34 : Int × am_F := c_peek ee ((u3).2); (let z37 : Int := (c_isDigit ((u34).1)); (if z37 = 0 then (let u62 : Int × am_F := c_word ee ((u34).2); (let v2_70 : Int := (c_readFact ee ((u62).2)); f_rput vv (1000 + v2_70))) else (let u52 : Int × am_F := c_number ee ((u34).2) 0 999; f_rput vv ((u52).1))))) else (let u11 : Int × am_F := c_mayOpen ((u3).2) dp; (if (u11).1 = 0 then vv else (let u21 : am_F × am_F := fs vv ((u11).2); ((u21).1))))); (let kk6 : am_F := (if (u3).1 = 0 then (let u34 : Int × am_F := c_peek ee ((u3).2); (let z37 : Int := (c_isDigit ((u34).1)); (if z37 = 0 then (let u62 : Int × am_F := c_word ee ((u34).2); (let v2_70 : Int := (c_readFact ee ((u62).2)); (if v2_70 = (-1) then c_wrong ((u62).2) 1 ((u62).2 0 3) else ((u62).2)))) else (let u52 : Int × am_F := c_number ee ((u34).2) 0 999; ((u52).2))))) else (let u11 : Int × am_F := c_mayOpen ((u3).2) dp; (if (u11).1 = 0 then ((u11).2) else (let u21 : am_F × am_F := fs vv ((u11).2); c_needSign ee ((u21).2) 41)))); (vv6, kk6))))
theorem mc_readUnit {S : am_S} {d u : Nat} {w : AH} {hb sp rb rs : Nat} {po : AV} (hl : 109 ≤ w.length) (hp : hb = 1 ∧ sp = 21 ∨ hb = 21 ∧ sp = 1) (hr : rb = 41 ∧ rs = 46 ∨ rb = 46 ∧ rs = 41) {ee : am_F} {hh : am_F} {ss : am_F} {uu : am_F} {vv : am_F} {pp : am_F} {kk : am_F} {rr : am_F} {tt : am_F} {gg : am_F} {aa : am_F} {dd : am_F} {bd : am_F} {ga : am_F} {im : am_F} (dp : Int) (E : Nat) (fs : am_F → am_F → am_F × am_F) (hP : RdI kk) (hTp : TpI ee) (hV : RvI vv) (hdp : 0 ≤ dp ∧ dp ≤ 6) (hE : E + 1 ≤ d) (hfs : dp < 6 → LvC S w hb sp rb rs po ee hh ss uu pp rr tt gg aa dd bd ga im zX8_readSum E (dp + 1) fs) (hfi : LvI fs)  (hd : 8 ≤ d) : am_Out S zX8_readUnit d u [aR 53, aI dp] (hfW w hb sp rb rs hb po (aR rs) ee hh ss uu vv pp kk rr tt gg aa dd bd ga im) (.inl none) (hfW w hb sp rb rs hb po (aR rs) ee hh ss uu ((c_readUnit ee vv kk dp fs).1) pp ((c_readUnit ee vv kk dp fs).2) rr tt gg aa dd bd ga im) := by
  have key : ∀ Q : AO → AH → Prop, Q (.inl none) (hfW w hb sp rb rs hb po (aR rs) ee hh ss uu ((c_readUnit ee vv kk dp fs).1) pp ((c_readUnit ee vv kk dp fs).2) rr tt gg aa dd bd ga im) → am_M S zX8_readUnit d u [aR 53, aI dp] (hfW w hb sp rb rs hb po (aR rs) ee hh ss uu vv pp kk rr tt gg aa dd bd ga im) Q := by
    intro Q hQ
    refine am_body rfl (by decide +kernel) rfl (am_cats_cons rfl ( am_cats_cons rfl (am_cats_nil))) (Nat.le_of_ble_eq_true rfl) (?_ : am_T _ _ _ _ _ 0 [some (aR 53), some (aI dp), none] [] (hfW w hb sp rb rs hb po (aR rs) ee hh ss uu vv pp kk rr tt gg aa dd bd ga im))
    have hP9 := hP
    obtain ⟨⟨vr1, vr2⟩, vr3, vr4, vr5⟩ := hP9
    have hV9 := hV
    obtain ⟨⟨hV1, hV2⟩, hV3, hV4⟩ := hV9
    have hdp9 := hdp
    obtain ⟨hdp1, hdp2⟩ := hdp9
    refine T_aload_n (am_dec tX8_readUnit_0 0 rfl) rfl ?_
    refine T_bipush 40 (am_dec tX8_readUnit_0 1 rfl) rfl ⟨by decide, by decide⟩ ?_
    refine T_callU (as := [aI 40]) rfl (am_dec tX8_readUnit_0 2 rfl) lkX8_93_X8 (show (hfW w hb sp rb rs hb po (aR rs) ee hh ss uu vv pp kk rr tt gg aa dd bd ga im)[53]? = some (cO 7 [aR 51, aI (kk 0 1), aI (kk 0 2), aI (kk 0 3), aI (kk 0 4), aI (kk 0 5), aR rs]) from (hfW_c hl 53 (by decide))) rfl rfl (Nat.le_of_ble_eq_true rfl) (by omega) (md_takesSign (d := d - 1) hl hp hr 40  (by omega) hP hTp (by omega)) (fun _ => ?_)
    obtain ⟨u3, hu3⟩ : ∃ x9, x9 = c_takesSign ee kk 40 := ⟨_, rfl⟩
    rw [← hu3]
    have hxu3 : Rd2 kk u3.2 := by rw [hu3]; exact (Rd2.rf hP).takesSign hTp (by omega)
    have hIu3 := hxu3.1
    have hgu3 := hIu3
    obtain ⟨⟨yr31, yr32⟩, yr33, yr34, yr35⟩ := hgu3
    have heu3_7 : u3.2 0 7 = kk 0 7 := hxu3.2 0 7 (by decide)
    have heu3_8 : u3.2 0 8 = kk 0 8 := hxu3.2 0 8 (by decide)
    have heu3_9 : u3.2 0 9 = kk 0 9 := hxu3.2 0 9 (by decide)
    have heu3_10 : u3.2 0 10 = kk 0 10 := hxu3.2 0 10 (by decide)
    have hb3 : u3.1 = 0 ∨ u3.1 = 1 := by rw [hu3]; exact c_takesSign_b _ _ _
    have K6 : ∀ (vv6 : am_F), ∀ (kk6 : am_F), vv6 = (if (u3).1 = 0 then (let u34 : Int × am_F := c_peek ee ((u3).2); (let z37 : Int := (c_isDigit ((u34).1)); (if z37 = 0 then (let u62 : Int × am_F := c_word ee ((u34).2); (let v2_70 : Int := (c_readFact ee ((u62).2)); f_rput vv (1000 + v2_70))) else (let u52 : Int × am_F := c_number ee ((u34).2) 0 999; f_rput vv ((u52).1))))) else (let u11 : Int × am_F := c_mayOpen ((u3).2) dp; (if (u11).1 = 0 then vv else (let u21 : am_F × am_F := fs vv ((u11).2); ((u21).1))))) → kk6 = (if (u3).1 = 0 then (let u34 : Int × am_F := c_peek ee ((u3).2); (let z37 : Int := (c_isDigit ((u34).1)); (if z37 = 0 then (let u62 : Int × am_F := c_word ee ((u34).2); (let v2_70 : Int := (c_readFact ee ((u62).2)); (if v2_70 = (-1) then c_wrong ((u62).2) 1 ((u62).2 0 3) else ((u62).2)))) else (let u52 : Int × am_F := c_number ee ((u34).2) 0 999; ((u52).2))))) else (let u11 : Int × am_F := c_mayOpen ((u3).2) dp; (if (u11).1 = 0 then ((u11).2) else (let u21 : am_F × am_F := fs vv ((u11).2); c_needSign ee ((u21).2) 41)))) →  am_T S zX8_readUnit d u Q 97 [none, none, none] [] (hfW w hb sp rb rs hb po (aR rs) ee hh ss uu vv6 pp kk6 rr tt gg aa dd bd ga im) := by
      intro vv6 kk6 hvv6 hkk6 
      exact T_return (am_dec tX8_readUnit_1 9 rfl) rfl (am_tr (fun (x9 : am_F × am_F) => Q (.inl none) (hfW w hb sp rb rs hb po (aR rs) ee hh ss uu x9.1 pp x9.2 rr tt gg aa dd bd ga im)) (y := (vv6, kk6)) (show (c_readUnit ee vv kk dp fs) = (vv6, kk6) from (by have s9 := hu3.symm; subst s9; have s9 := hvv6.symm; subst s9; have s9 := hkk6.symm; subst s9; exact rfl)) hQ)
    refine T_if_eq 33 (am_dec tX8_readUnit_0 3 rfl) rfl (fun h6 => ?_) (fun h6 => ?_)
    · refine T_aload_n (am_dec tX8_readUnit_0 17 rfl) rfl ?_
      refine T_callU (as := []) rfl (am_dec tX8_readUnit_0 18 rfl) lkX8_25_X8 (show (hfW w hb sp rb rs hb po (aR rs) ee hh ss uu vv pp ((u3).2) rr tt gg aa dd bd ga im)[53]? = some (cO 7 [aR 51, aI ((u3).2 0 1), aI ((u3).2 0 2), aI ((u3).2 0 3), aI ((u3).2 0 4), aI ((u3).2 0 5), aR rs]) from (hfW_c hl 53 (by decide))) rfl rfl (Nat.le_of_ble_eq_true rfl) (by omega) (md_peek (d := d - 1) hl hp hr   hIu3 hTp (by omega)) (fun _ => ?_)
      obtain ⟨u34, hu34⟩ : ∃ x9, x9 = c_peek ee ((u3).2) := ⟨_, rfl⟩
      rw [← hu34]
      obtain ⟨hIu34, hvu34, hwu34, hfu34⟩ : RdI u34.2 ∧ (-1 ≤ u34.1 ∧ u34.1 ≤ 255) ∧ (u34.1 = -1 ∨ u34.2 0 2 < u34.2 0 1) ∧ ∀ k j, ¬ (k = 0 ∧ j = 2) → u34.2 k j = ((u3).2) k j := by rw [hu34]; exact c_peek_x hIu3 hTp
      have hgu34 := hIu34
      obtain ⟨⟨yr341, yr342⟩, yr343, yr344, yr345⟩ := hgu34
      refine T_callSU (as := [aI ((u34).1)]) rfl (am_dec tX8_readUnit_0 19 rfl) lkX8_105 rfl (Nat.le_of_ble_eq_true rfl) (by omega) (mc_isDigit (d := d - 1) hl hp hr ((u34).1)   (by omega)) (fun _ => ?_)
      refine T_nm (fun z37 hz37 => ?_)
      have hb37 := c_isDigit_x ((u34).1)
      rw [← hz37] at hb37
      have K40 : ∀ (vv40 : am_F), ∀ (kk40 : am_F), vv40 = (if z37 = 0 then (let u62 : Int × am_F := c_word ee ((u34).2); (let v2_70 : Int := (c_readFact ee ((u62).2)); f_rput vv (1000 + v2_70))) else (let u52 : Int × am_F := c_number ee ((u34).2) 0 999; f_rput vv ((u52).1))) → kk40 = (if z37 = 0 then (let u62 : Int × am_F := c_word ee ((u34).2); (let v2_70 : Int := (c_readFact ee ((u62).2)); (if v2_70 = (-1) then c_wrong ((u62).2) 1 ((u62).2 0 3) else ((u62).2)))) else (let u52 : Int × am_F := c_number ee ((u34).2) 0 999; ((u52).2))) →  am_T S zX8_readUnit d u Q 97 [none, none, none] [] (hfW w hb sp rb rs hb po (aR rs) ee hh ss uu vv40 pp kk40 rr tt gg aa dd bd ga im) := by
        intro vv40 kk40 hvv40 hkk40 
        exact K6 _ _ (by have s9 := hu34.symm; subst s9; have s9 := hz37.symm; subst s9; have s9 := hvv40.symm; subst s9; have s9 := hkk40.symm; subst s9; exact (if_pos h6).symm) (by have s9 := hu34.symm; subst s9; have s9 := hz37.symm; subst s9; have s9 := hvv40.symm; subst s9; have s9 := hkk40.symm; subst s9; exact (if_pos h6).symm) 
      refine T_if_eq 61 (am_dec tX8_readUnit_0 20 rfl) rfl (fun h40 => ?_) (fun h40 => ?_)
      · refine T_aload_n (am_dec tX8_readUnit_0 29 rfl) rfl ?_
        refine T_callU (as := []) rfl (am_dec tX8_readUnit_0 30 rfl) lkX8_33_X8 (show (hfW w hb sp rb rs hb po (aR rs) ee hh ss uu vv pp ((u34).2) rr tt gg aa dd bd ga im)[53]? = some (cO 7 [aR 51, aI ((u34).2 0 1), aI ((u34).2 0 2), aI ((u34).2 0 3), aI ((u34).2 0 4), aI ((u34).2 0 5), aR rs]) from (hfW_c hl 53 (by decide))) rfl rfl (Nat.le_of_ble_eq_true rfl) (by omega) (md_word (d := d - 1) hl hp hr   hIu34 hTp (by omega)) (fun _ => ?_)
        obtain ⟨u62, hu62⟩ : ∃ x9, x9 = c_word ee ((u34).2) := ⟨_, rfl⟩
        rw [← hu62]
        have hxu62 : Rd2 ((u34).2) u62.2 := by rw [hu62]; exact (Rd2.rf hIu34).word hTp
        have hIu62 := hxu62.1
        have hgu62 := hIu62
        obtain ⟨⟨yr621, yr622⟩, yr623, yr624, yr625⟩ := hgu62
        have heu62_7 : u62.2 0 7 = (u34).2 0 7 := hxu62.2 0 7 (by decide)
        have heu62_8 : u62.2 0 8 = (u34).2 0 8 := hxu62.2 0 8 (by decide)
        have heu62_9 : u62.2 0 9 = (u34).2 0 9 := hxu62.2 0 9 (by decide)
        have heu62_10 : u62.2 0 10 = (u34).2 0 10 := hxu62.2 0 10 (by decide)
        have hbu62 : 0 - 600 ≤ u62.1 ∧ u62.1 ≤ 600 := by rw [hu62]; exact c_word_b hIu34 hTp
        refine T_pop (am_dec tX8_readUnit_0 31 rfl) rfl ?_
        refine T_aload_n (am_dec tX8_readUnit_0 32 rfl) rfl ?_
        refine T_callV (as := []) rfl (am_dec tX8_readUnit_0 33 rfl) lkX8_112 (show (hfW w hb sp rb rs hb po (aR rs) ee hh ss uu vv pp ((u62).2) rr tt gg aa dd bd ga im)[53]? = some (cO 7 [aR 51, aI ((u62).2 0 1), aI ((u62).2 0 2), aI ((u62).2 0 3), aI ((u62).2 0 4), aI ((u62).2 0 5), aR rs]) from (hfW_c hl 53 (by decide))) rfl rfl (Nat.le_of_ble_eq_true rfl) (by omega) (mc_readFact (d := d - 1) hl hp hr   hIu62 hTp (by omega)) (fun _ => ?_)
        have hb67 := c_readFact_b ee ((u62).2)
        refine T_nm (fun v2_70 hv2_70 => ?_)
        refine T_istore_n (ls' := [some (aR 53), some (aI dp), some (aI v2_70)]) (am_dec tX8_readUnit_0 34 rfl) (by decide) rfl ?_
        refine T_iload_n (am_dec tX8_readUnit_0 35 rfl) rfl ?_
        refine T_iconst (-1) (am_dec tX8_readUnit_0 36 rfl) rfl ⟨by decide, by decide⟩ ?_
        have K73 : ∀ (kk73 : am_F), kk73 = (if v2_70 = (-1) then c_wrong ((u62).2) 1 ((u62).2 0 3) else ((u62).2)) →  am_T S zX8_readUnit d u Q 85 [some (aR 53), none, some (aI v2_70)] [] (hfW w hb sp rb rs hb po (aR rs) ee hh ss uu vv pp kk73 rr tt gg aa dd bd ga im) := by
          intro kk73 hkk73 
          refine T_aload_n (am_dec tX8_readUnit_1 3 rfl) rfl ?_
          refine T_getfield 7 6 (am_dec tX8_readUnit_1 4 rfl) flX8_9_7 (show (hfW w hb sp rb rs hb po (aR rs) ee hh ss uu vv pp kk73 rr tt gg aa dd bd ga im)[53]? = some (cO 7 [aR 51, aI (kk73 0 1), aI (kk73 0 2), aI (kk73 0 3), aI (kk73 0 4), aI (kk73 0 5), aR rs]) from (hfW_c hl 53 (by decide))) rfl ?_
          refine T_sipush 1000 (am_dec tX8_readUnit_1 5 rfl) rfl ⟨by decide, by decide⟩ ?_
          refine T_iload_n (am_dec tX8_readUnit_1 6 rfl) rfl ?_
          refine T_iadd (1000 + v2_70) (am_dec tX8_readUnit_1 7 rfl) rfl ⟨by omega, by omega⟩ ?_
          refine T_callV (as := [aI (1000 + v2_70)]) rfl (am_dec tX8_readUnit_1 8 rfl) lkX8_79 (show (hfW w hb sp rb rs hb po (aR rs) ee hh ss uu vv pp kk73 rr tt gg aa dd bd ga im)[rs]? = some (cO 6 [aI (vv 0 0), aI (vv 0 1), aR (rs + 1), aR (rs + 2), aR (rs + 3), aR (rs + 4)]) from ((hf_V hl hr) 0 (by decide))) rfl rfl (Nat.le_of_ble_eq_true rfl) (by omega) (am_OutE (m_rput (d := d - 1) (w := hfW w hb sp rb rs hb po (aR rs) ee hh ss uu vv pp kk73 rr tt gg aa dd bd ga im) (hf_le hl (by omega)) (1000 + v2_70) hV.2.1) (hf_uV hr) (hf_uV hr)) (fun _ => ?_)
          refine T_nmH (W := fun x9 => hfW w hb sp rb rs hb po (aR rs) ee hh ss uu x9 pp kk73 rr tt gg aa dd bd ga im) (v := f_rput vv (1000 + v2_70)) (fun vv94 hvv94 => ?_)
          have hVvv94 : RvI vv94 := by rw [hvv94]; exact f_rput_I hV _
          refine T_weak (ls' := [none, none, none]) (am_sub_n (am_sub_n (am_sub_n am_sub_nil))) ?_
          exact K40 _ _ (by have s9 := hu62.symm; subst s9; have s9 := hv2_70.symm; subst s9; have s9 := hkk73.symm; subst s9; have s9 := hvv94.symm; subst s9; exact (if_pos h40).symm) (by have s9 := hu62.symm; subst s9; have s9 := hv2_70.symm; subst s9; have s9 := hkk73.symm; subst s9; have s9 := hvv94.symm; subst s9; exact (if_pos h40).symm) 
        refine T_icmp_ne 85 (am_dec tX8_readUnit_0 37 rfl) rfl (fun h73 => ?_) (fun h73 => ?_)
        · refine T_weak (ls' := [some (aR 53), none, some (aI v2_70)]) (am_sub_s (am_sub_n (am_sub_s am_sub_nil))) ?_
          exact K73 _ (if_neg h73).symm 
        · refine T_aload_n (am_dec tX8_readUnit_0 38 rfl) rfl ?_
          refine T_iconst 1 (am_dec tX8_readUnit_0 39 rfl) rfl ⟨by decide, by decide⟩ ?_
          refine T_aload_n (am_dec tX8_readUnit_1 0 rfl) rfl ?_
          refine T_getfield 7 3 (am_dec tX8_readUnit_1 1 rfl) flX8_39_7 (show (hfW w hb sp rb rs hb po (aR rs) ee hh ss uu vv pp ((u62).2) rr tt gg aa dd bd ga im)[53]? = some (cO 7 [aR 51, aI ((u62).2 0 1), aI ((u62).2 0 2), aI ((u62).2 0 3), aI ((u62).2 0 4), aI ((u62).2 0 5), aR rs]) from (hfW_c hl 53 (by decide))) rfl ?_
          refine T_callU (as := [aI 1, aI ((u62).2 0 3)]) rfl (am_dec tX8_readUnit_1 2 rfl) lkX8_43_X8 (show (hfW w hb sp rb rs hb po (aR rs) ee hh ss uu vv pp ((u62).2) rr tt gg aa dd bd ga im)[53]? = some (cO 7 [aR 51, aI ((u62).2 0 1), aI ((u62).2 0 2), aI ((u62).2 0 3), aI ((u62).2 0 4), aI ((u62).2 0 5), aR rs]) from (hfW_c hl 53 (by decide))) rfl rfl (Nat.le_of_ble_eq_true rfl) (by omega) (md_wrong (d := d - 1) hl hp hr 1 ((u62).2 0 3)   (by omega)) (fun _ => ?_)
          refine T_nmH (W := fun x9 => hfW w hb sp rb rs hb po (aR rs) ee hh ss uu vv pp x9 rr tt gg aa dd bd ga im) (v := c_wrong ((u62).2) 1 ((u62).2 0 3)) (fun kk82 hkk82 => ?_)
          have hIkk82 : RdI kk82 := by rw [hkk82]; exact c_wrong_I hIu62 _ _
          refine T_weak (ls' := [some (aR 53), none, some (aI v2_70)]) (am_sub_s (am_sub_n (am_sub_s am_sub_nil))) ?_
          exact K73 _ (by have s9 := hkk82.symm; subst s9; exact (if_pos h73).symm) 
      · refine T_aload_n (am_dec tX8_readUnit_0 21 rfl) rfl ?_
        refine T_getfield 7 6 (am_dec tX8_readUnit_0 22 rfl) flX8_9_7 (show (hfW w hb sp rb rs hb po (aR rs) ee hh ss uu vv pp ((u34).2) rr tt gg aa dd bd ga im)[53]? = some (cO 7 [aR 51, aI ((u34).2 0 1), aI ((u34).2 0 2), aI ((u34).2 0 3), aI ((u34).2 0 4), aI ((u34).2 0 5), aR rs]) from (hfW_c hl 53 (by decide))) rfl ?_
        refine T_aload_n (am_dec tX8_readUnit_0 23 rfl) rfl ?_
        refine T_iconst 0 (am_dec tX8_readUnit_0 24 rfl) rfl ⟨by decide, by decide⟩ ?_
        refine T_sipush 999 (am_dec tX8_readUnit_0 25 rfl) rfl ⟨by decide, by decide⟩ ?_
        refine T_callU (as := [aI 0, aI 999]) rfl (am_dec tX8_readUnit_0 26 rfl) lkX8_108_X8 (show (hfW w hb sp rb rs hb po (aR rs) ee hh ss uu vv pp ((u34).2) rr tt gg aa dd bd ga im)[53]? = some (cO 7 [aR 51, aI ((u34).2 0 1), aI ((u34).2 0 2), aI ((u34).2 0 3), aI ((u34).2 0 4), aI ((u34).2 0 5), aR rs]) from (hfW_c hl 53 (by decide))) rfl rfl (Nat.le_of_ble_eq_true rfl) (by omega) (md_number (d := d - 1) hl hp hr 0 999  hIu34 hTp (by omega)) (fun _ => ?_)
        obtain ⟨u52, hu52⟩ : ∃ x9, x9 = c_number ee ((u34).2) 0 999 := ⟨_, rfl⟩
        rw [← hu52]
        have hxu52 : Rd2 ((u34).2) u52.2 := by rw [hu52]; exact (Rd2.rf hIu34).number hTp _ _
        have hIu52 := hxu52.1
        have hgu52 := hIu52
        obtain ⟨⟨yr521, yr522⟩, yr523, yr524, yr525⟩ := hgu52
        have heu52_7 : u52.2 0 7 = (u34).2 0 7 := hxu52.2 0 7 (by decide)
        have heu52_8 : u52.2 0 8 = (u34).2 0 8 := hxu52.2 0 8 (by decide)
        have heu52_9 : u52.2 0 9 = (u34).2 0 9 := hxu52.2 0 9 (by decide)
        have heu52_10 : u52.2 0 10 = (u34).2 0 10 := hxu52.2 0 10 (by decide)
        have hbu52 : 0 ≤ u52.1 ∧ u52.1 ≤ 999 := by rw [hu52]; exact c_number_b _ _ (by omega)
        refine T_callV (as := [aI ((u52).1)]) rfl (am_dec tX8_readUnit_0 27 rfl) lkX8_79 (show (hfW w hb sp rb rs hb po (aR rs) ee hh ss uu vv pp ((u52).2) rr tt gg aa dd bd ga im)[rs]? = some (cO 6 [aI (vv 0 0), aI (vv 0 1), aR (rs + 1), aR (rs + 2), aR (rs + 3), aR (rs + 4)]) from ((hf_V hl hr) 0 (by decide))) rfl rfl (Nat.le_of_ble_eq_true rfl) (by omega) (am_OutE (m_rput (d := d - 1) (w := hfW w hb sp rb rs hb po (aR rs) ee hh ss uu vv pp ((u52).2) rr tt gg aa dd bd ga im) (hf_le hl (by omega)) ((u52).1) hV.2.1) (hf_uV hr) (hf_uV hr)) (fun _ => ?_)
        refine T_nmH (W := fun x9 => hfW w hb sp rb rs hb po (aR rs) ee hh ss uu x9 pp ((u52).2) rr tt gg aa dd bd ga im) (v := f_rput vv ((u52).1)) (fun vv55 hvv55 => ?_)
        have hVvv55 : RvI vv55 := by rw [hvv55]; exact f_rput_I hV _
        refine T_goto 97 (am_dec tX8_readUnit_0 28 rfl) rfl ?_
        refine T_weak (ls' := [none, none, none]) (am_sub_n (am_sub_n (am_sub_n am_sub_nil))) ?_
        exact K40 _ _ (by have s9 := hu52.symm; subst s9; have s9 := hvv55.symm; subst s9; exact (if_neg h40).symm) (by have s9 := hu52.symm; subst s9; have s9 := hvv55.symm; subst s9; exact (if_neg h40).symm) 
    · refine T_aload_n (am_dec tX8_readUnit_0 4 rfl) rfl ?_
      refine T_iload_n (am_dec tX8_readUnit_0 5 rfl) rfl ?_
      refine T_callV (as := [aI dp]) rfl (am_dec tX8_readUnit_0 6 rfl) lkX8_89 (show (hfW w hb sp rb rs hb po (aR rs) ee hh ss uu vv pp ((u3).2) rr tt gg aa dd bd ga im)[53]? = some (cO 7 [aR 51, aI ((u3).2 0 1), aI ((u3).2 0 2), aI ((u3).2 0 3), aI ((u3).2 0 4), aI ((u3).2 0 5), aR rs]) from (hfW_c hl 53 (by decide))) rfl rfl (Nat.le_of_ble_eq_true rfl) (by omega) (mc_mayOpen (d := d - 1) hl hp hr dp  hIu3 hTp (by omega)) (fun _ => ?_)
      obtain ⟨u11, hu11⟩ : ∃ x9, x9 = c_mayOpen ((u3).2) dp := ⟨_, rfl⟩
      rw [← hu11]
      have hb11 := c_mayOpen_b ((u3).2) dp
      rw [← hu11] at hb11
      have hIu11 : RdI u11.2 := by rw [hu11]; exact c_mayOpen_x hIu3 _
      have hlt11 : u11.1 = 0 ∨ dp < 6 := by rw [hu11]; exact c_mayOpen_6 _ _
      have K14 : ∀ (vv14 : am_F), ∀ (kk14 : am_F), vv14 = (if (u11).1 = 0 then vv else (let u21 : am_F × am_F := fs vv ((u11).2); ((u21).1))) → kk14 = (if (u11).1 = 0 then ((u11).2) else (let u21 : am_F × am_F := fs vv ((u11).2); c_needSign ee ((u21).2) 41)) →  am_T S zX8_readUnit d u Q 97 [none, none, none] [] (hfW w hb sp rb rs hb po (aR rs) ee hh ss uu vv14 pp kk14 rr tt gg aa dd bd ga im) := by
        intro vv14 kk14 hvv14 hkk14 
        exact K6 _ _ (by have s9 := hu11.symm; subst s9; have s9 := hvv14.symm; subst s9; have s9 := hkk14.symm; subst s9; exact (if_neg h6).symm) (by have s9 := hu11.symm; subst s9; have s9 := hvv14.symm; subst s9; have s9 := hkk14.symm; subst s9; exact (if_neg h6).symm) 
      refine T_if_eq 97 (am_dec tX8_readUnit_0 7 rfl) rfl (fun h14 => ?_) (fun h14 => ?_)
      · refine T_weak (ls' := [none, none, none]) (am_sub_n (am_sub_n (am_sub_n am_sub_nil))) ?_
        exact K14 _ _ (if_pos h14).symm (if_pos h14).symm 
      · refine T_aload_n (am_dec tX8_readUnit_0 8 rfl) rfl ?_
        refine T_iload_n (am_dec tX8_readUnit_0 9 rfl) rfl ?_
        refine T_iconst 1 (am_dec tX8_readUnit_0 10 rfl) rfl ⟨by decide, by decide⟩ ?_
        refine T_iadd (dp + 1) (am_dec tX8_readUnit_0 11 rfl) rfl ⟨by omega, by omega⟩ ?_
        refine T_callV (as := [aI (dp + 1)]) rfl (am_dec tX8_readUnit_0 12 rfl) lkX8_50 (show (hfW w hb sp rb rs hb po (aR rs) ee hh ss uu vv pp ((u11).2) rr tt gg aa dd bd ga im)[53]? = some (cO 7 [aR 51, aI ((u11).2 0 1), aI ((u11).2 0 2), aI ((u11).2 0 3), aI ((u11).2 0 4), aI ((u11).2 0 5), aR rs]) from (hfW_c hl 53 (by decide))) rfl rfl (Nat.le_of_ble_eq_true rfl) (by omega) ((hfs (by omega)) (d - 1) vv ((u11).2) (by omega) hV hIu11) (fun _ => ?_)
        obtain ⟨u21, hu21⟩ : ∃ x9, x9 = fs vv ((u11).2) := ⟨_, rfl⟩
        rw [← hu21]
        obtain ⟨hVu21, hIu21⟩ : RvI u21.1 ∧ RdI u21.2 := by rw [hu21]; exact hfi _ _ hV hIu11
        refine T_aload_n (am_dec tX8_readUnit_0 13 rfl) rfl ?_
        refine T_bipush 41 (am_dec tX8_readUnit_0 14 rfl) rfl ⟨by decide, by decide⟩ ?_
        refine T_callU (as := [aI 41]) rfl (am_dec tX8_readUnit_0 15 rfl) lkX8_53_X8 (show (hfW w hb sp rb rs hb po (aR rs) ee hh ss uu ((u21).1) pp ((u21).2) rr tt gg aa dd bd ga im)[53]? = some (cO 7 [aR 51, aI ((u21).2 0 1), aI ((u21).2 0 2), aI ((u21).2 0 3), aI ((u21).2 0 4), aI ((u21).2 0 5), aR rs]) from (hfW_c hl 53 (by decide))) rfl rfl (Nat.le_of_ble_eq_true rfl) (by omega) (md_needSign (d := d - 1) hl hp hr 41  (by omega) hIu21 hTp (by omega)) (fun _ => ?_)
        refine T_nmH (W := fun x9 => hfW w hb sp rb rs hb po (aR rs) ee hh ss uu ((u21).1) pp x9 rr tt gg aa dd bd ga im) (v := c_needSign ee ((u21).2) 41) (fun kk27 hkk27 => ?_)
        have hxkk27 : Rd2 ((u21).2) kk27 := by rw [hkk27]; exact (Rd2.rf hIu21).needSign hTp (by omega)
        have hIkk27 := hxkk27.1
        have hekk27_7 : kk27 0 7 = (u21).2 0 7 := hxkk27.2 0 7 (by decide)
        have hekk27_8 : kk27 0 8 = (u21).2 0 8 := hxkk27.2 0 8 (by decide)
        have hekk27_9 : kk27 0 9 = (u21).2 0 9 := hxkk27.2 0 9 (by decide)
        have hekk27_10 : kk27 0 10 = (u21).2 0 10 := hxkk27.2 0 10 (by decide)
        refine T_goto 97 (am_dec tX8_readUnit_0 16 rfl) rfl ?_
        refine T_weak (ls' := [none, none, none]) (am_sub_n (am_sub_n (am_sub_n am_sub_nil))) ?_
        exact K14 _ _ (by have s9 := hu21.symm; subst s9; have s9 := hkk27.symm; subst s9; exact (if_neg h14).symm) (by have s9 := hu21.symm; subst s9; have s9 := hkk27.symm; subst s9; exact (if_neg h14).symm) 
  exact key _ ⟨rfl, rfl⟩
theorem c_readUnit_x {ee : am_F} (t : TpI ee) (dp : Int) {fs : am_F → am_F → am_F × am_F} (h : LvI fs) : LvI (fun v k => c_readUnit ee v k dp fs) := by
  intro v k hv hk
  have h1 := (Rd2.rf hk).takesSign t (sg := 40) (by decide)
  show RvI (c_readUnit ee v k dp fs).1 ∧ RdI (c_readUnit ee v k dp fs).2
  unfold c_readUnit
  dsimp only
  generalize c_takesSign ee k 40 = u1 at *
  by_cases e1 : u1.1 = 0
  · rw [if_pos e1, if_pos e1]
    have h2 := (Rd2.rf h1.1).peek t
    generalize c_peek ee u1.2 = u2 at *
    by_cases e2 : c_isDigit u2.1 = 0
    · rw [if_pos e2, if_pos e2]
      have h3 := (Rd2.rf h2.1).word t
      generalize c_word ee u2.2 = u3 at *
      refine ⟨f_rput_I hv _, ?_⟩
      split
      · exact c_wrong_I h3.1 _ _
      · exact h3.1
    · rw [if_neg e2, if_neg e2]
      exact ⟨f_rput_I hv _, ((Rd2.rf h2.1).number t 0 999).1⟩
  · rw [if_neg e1, if_neg e1]
    have h2 := c_mayOpen_x h1.1 dp
    generalize c_mayOpen u1.2 dp = u2 at *
    by_cases e2 : u2.1 = 0
    · rw [if_pos e2, if_pos e2]
      exact ⟨hv, h2⟩
    · rw [if_neg e2, if_neg e2]
      have h3 := h v u2.2 hv h2
      exact ⟨h3.1, ((Rd2.rf h3.2).needSign t (sg := 41) (by decide)).1⟩
def w_c_readProduct_7 (ee : am_F) (fu : am_F → am_F → am_F × am_F) (x9 : Int × am_F × am_F) : (Int × am_F × am_F) ⊕ (Int × am_F × am_F) := let i : Int := x9.1; let vv : am_F := x9.2.1; let kk : am_F := x9.2.2; (if 200 ≤ i then .inr (i, vv, kk) else (let z15 : Int := (c_fine kk); (if z15 = 0 then .inr (i, vv, kk) else (let u24 : Int × am_F := c_takesSign ee kk 42; (if (u24).1 = 0 then (let u51 : Int × am_F := c_takesSign ee ((u24).2) 47; (if (u51).1 = 0 then .inr (i, vv, (u51).2) else (let u59 : am_F × am_F := fu vv ((u51).2); (let vv69 : am_F := f_rput ((u59).1) 2003; .inl ((i + 1), vv69, (u59).2))))) else (let u32 : am_F × am_F := fu vv ((u24).2); (let vv42 : am_F := f_rput ((u32).1) 2002; .inl ((i + 1), vv42, (u32).2))))))))
theorem L_c_readProduct_7 {S : am_S} {d u : Nat} {Q : AO → AH → Prop} {w : AH} {hb sp rb rs : Nat} {po : AV} (hl : 109 ≤ w.length) (hp : hb = 1 ∧ sp = 21 ∨ hb = 21 ∧ sp = 1) (hr : rb = 41 ∧ rs = 46 ∨ rb = 46 ∧ rs = 41) (ee : am_F) (hh : am_F) (ss : am_F) (uu : am_F) (pp : am_F) (rr : am_F) (tt : am_F) (gg : am_F) (aa : am_F) (dd : am_F) (bd : am_F) (ga : am_F) (im : am_F) (dp : Int) (E : Nat) (fu : am_F → am_F → am_F × am_F) (hTp : TpI ee) (hdp : 0 ≤ dp ∧ dp ≤ 6) (hE : E + 1 ≤ d) (hfu : LvC S w hb sp rb rs po ee hh ss uu pp rr tt gg aa dd bd ga im zX8_readUnit E dp fu) (hfi : LvI fu) (hd : 8 ≤ d) : ∀ (n : Nat) (i : Int) (vv : am_F) (kk : am_F), 200 - i < n → (RvI vv ∧ RdI kk) ∧ 0 ≤ i ∧ i ≤ 200 → (∀ (i' : Int) (vv' : am_F) (kk' : am_F), i' = (am_wh (w_c_readProduct_7 ee fu) n (i, vv, kk)).1 → vv' = (am_wh (w_c_readProduct_7 ee fu) n (i, vv, kk)).2.1 → kk' = (am_wh (w_c_readProduct_7 ee fu) n (i, vv, kk)).2.2 → Q (.inl none) (hfW w hb sp rb rs hb po (aR rs) ee hh ss uu vv' pp kk' rr tt gg aa dd bd ga im)) → am_T S zX8_readProduct d u Q 7 [some (aR 53), some (aI dp), some (aI i)] [] (hfW w hb sp rb rs hb po (aR rs) ee hh ss uu vv pp kk rr tt gg aa dd bd ga im) := by
  intro n
  induction n with
  | zero =>
    intro i vv kk hm9 hinv k9
    have hV := hinv.1.1
    have hP := hinv.1.2
    obtain ⟨hdp1, hdp2⟩ := hdp
    have hP9 := hP
    obtain ⟨⟨vr1, vr2⟩, vr3, vr4, vr5⟩ := hP9
    have hV9 := hV
    obtain ⟨⟨hV1, hV2⟩, hV3, hV4⟩ := hV9
    exfalso; omega
  | succ n ih =>
    intro i vv kk hm9 hinv k9
    have hV := hinv.1.1
    have hP := hinv.1.2
    obtain ⟨hdp1, hdp2⟩ := hdp
    have hP9 := hP
    obtain ⟨⟨vr1, vr2⟩, vr3, vr4, vr5⟩ := hP9
    have hV9 := hV
    obtain ⟨⟨hV1, hV2⟩, hV3, hV4⟩ := hV9
    refine T_iload_n (am_dec tX8_readProduct_0 5 rfl) rfl ?_
    refine T_sipush 200 (am_dec tX8_readProduct_0 6 rfl) rfl ⟨by decide, by decide⟩ ?_
    refine T_icmp_ge 82 (am_dec tX8_readProduct_0 7 rfl) rfl (fun h11 => ?_) (fun h11 => ?_)
    · exact T_return (am_dec tX8_readProduct_0 38 rfl) rfl (by have e9 : (w_c_readProduct_7 ee fu) (i, vv, kk) = .inr (i, vv, kk) := (if_pos h11); simp only [am_wh_r e9] at k9; exact k9 _ _ _ rfl rfl rfl)
    · refine T_aload_n (am_dec tX8_readProduct_0 8 rfl) rfl ?_
      refine T_callU (as := []) rfl (am_dec tX8_readProduct_0 9 rfl) lkX8_21_X8 (show (hfW w hb sp rb rs hb po (aR rs) ee hh ss uu vv pp kk rr tt gg aa dd bd ga im)[53]? = some (cO 7 [aR 51, aI (kk 0 1), aI (kk 0 2), aI (kk 0 3), aI (kk 0 4), aI (kk 0 5), aR rs]) from (hfW_c hl 53 (by decide))) rfl rfl (Nat.le_of_ble_eq_true rfl) (by omega) (md_fine (d := d - 1) hl hp hr    (by omega)) (fun _ => ?_)
      refine T_nm (fun z15 hz15 => ?_)
      have hb15 := c_fine_b kk
      rw [← hz15] at hb15
      refine T_if_eq 82 (am_dec tX8_readProduct_0 10 rfl) rfl (fun h18 => ?_) (fun h18 => ?_)
      · exact T_return (am_dec tX8_readProduct_0 38 rfl) rfl (by have e9 : (w_c_readProduct_7 ee fu) (i, vv, kk) = .inr (i, vv, kk) := (by have s9 := hz15.symm; subst s9; exact ((if_neg h11).trans (if_pos h18))); simp only [am_wh_r e9] at k9; exact k9 _ _ _ rfl rfl rfl)
      · refine T_aload_n (am_dec tX8_readProduct_0 11 rfl) rfl ?_
        refine T_bipush 42 (am_dec tX8_readProduct_0 12 rfl) rfl ⟨by decide, by decide⟩ ?_
        refine T_callU (as := [aI 42]) rfl (am_dec tX8_readProduct_0 13 rfl) lkX8_93_X8 (show (hfW w hb sp rb rs hb po (aR rs) ee hh ss uu vv pp kk rr tt gg aa dd bd ga im)[53]? = some (cO 7 [aR 51, aI (kk 0 1), aI (kk 0 2), aI (kk 0 3), aI (kk 0 4), aI (kk 0 5), aR rs]) from (hfW_c hl 53 (by decide))) rfl rfl (Nat.le_of_ble_eq_true rfl) (by omega) (md_takesSign (d := d - 1) hl hp hr 42  (by omega) hP hTp (by omega)) (fun _ => ?_)
        obtain ⟨u24, hu24⟩ : ∃ x9, x9 = c_takesSign ee kk 42 := ⟨_, rfl⟩
        rw [← hu24]
        have hxu24 : Rd2 kk u24.2 := by rw [hu24]; exact (Rd2.rf hP).takesSign hTp (by omega)
        have hIu24 := hxu24.1
        have hgu24 := hIu24
        obtain ⟨⟨yr241, yr242⟩, yr243, yr244, yr245⟩ := hgu24
        have heu24_7 : u24.2 0 7 = kk 0 7 := hxu24.2 0 7 (by decide)
        have heu24_8 : u24.2 0 8 = kk 0 8 := hxu24.2 0 8 (by decide)
        have heu24_9 : u24.2 0 9 = kk 0 9 := hxu24.2 0 9 (by decide)
        have heu24_10 : u24.2 0 10 = kk 0 10 := hxu24.2 0 10 (by decide)
        have hb24 : u24.1 = 0 ∨ u24.1 = 1 := by rw [hu24]; exact c_takesSign_b _ _ _
        refine T_if_eq 48 (am_dec tX8_readProduct_0 14 rfl) rfl (fun h27 => ?_) (fun h27 => ?_)
        · refine T_aload_n (am_dec tX8_readProduct_0 23 rfl) rfl ?_
          refine T_bipush 47 (am_dec tX8_readProduct_0 24 rfl) rfl ⟨by decide, by decide⟩ ?_
          refine T_callU (as := [aI 47]) rfl (am_dec tX8_readProduct_0 25 rfl) lkX8_93_X8 (show (hfW w hb sp rb rs hb po (aR rs) ee hh ss uu vv pp ((u24).2) rr tt gg aa dd bd ga im)[53]? = some (cO 7 [aR 51, aI ((u24).2 0 1), aI ((u24).2 0 2), aI ((u24).2 0 3), aI ((u24).2 0 4), aI ((u24).2 0 5), aR rs]) from (hfW_c hl 53 (by decide))) rfl rfl (Nat.le_of_ble_eq_true rfl) (by omega) (md_takesSign (d := d - 1) hl hp hr 47  (by omega) hIu24 hTp (by omega)) (fun _ => ?_)
          obtain ⟨u51, hu51⟩ : ∃ x9, x9 = c_takesSign ee ((u24).2) 47 := ⟨_, rfl⟩
          rw [← hu51]
          have hxu51 : Rd2 ((u24).2) u51.2 := by rw [hu51]; exact (Rd2.rf hIu24).takesSign hTp (by omega)
          have hIu51 := hxu51.1
          have hgu51 := hIu51
          obtain ⟨⟨yr511, yr512⟩, yr513, yr514, yr515⟩ := hgu51
          have heu51_7 : u51.2 0 7 = (u24).2 0 7 := hxu51.2 0 7 (by decide)
          have heu51_8 : u51.2 0 8 = (u24).2 0 8 := hxu51.2 0 8 (by decide)
          have heu51_9 : u51.2 0 9 = (u24).2 0 9 := hxu51.2 0 9 (by decide)
          have heu51_10 : u51.2 0 10 = (u24).2 0 10 := hxu51.2 0 10 (by decide)
          have hb51 : u51.1 = 0 ∨ u51.1 = 1 := by rw [hu51]; exact c_takesSign_b _ _ _
          refine T_if_eq 75 (am_dec tX8_readProduct_0 26 rfl) rfl (fun h54 => ?_) (fun h54 => ?_)
          · exact T_return (am_dec tX8_readProduct_0 35 rfl) rfl (by have e9 : (w_c_readProduct_7 ee fu) (i, vv, kk) = .inr (i, vv, (u51).2) := (by have s9 := hz15.symm; subst s9; have s9 := hu24.symm; subst s9; have s9 := hu51.symm; subst s9; exact ((if_neg h11).trans ((if_neg h18).trans ((if_pos h27).trans (if_pos h54))))); simp only [am_wh_r e9] at k9; exact k9 _ _ _ rfl rfl rfl)
          · refine T_aload_n (am_dec tX8_readProduct_0 27 rfl) rfl ?_
            refine T_iload_n (am_dec tX8_readProduct_0 28 rfl) rfl ?_
            refine T_callV (as := [aI dp]) rfl (am_dec tX8_readProduct_0 29 rfl) lkX8_102 (show (hfW w hb sp rb rs hb po (aR rs) ee hh ss uu vv pp ((u51).2) rr tt gg aa dd bd ga im)[53]? = some (cO 7 [aR 51, aI ((u51).2 0 1), aI ((u51).2 0 2), aI ((u51).2 0 3), aI ((u51).2 0 4), aI ((u51).2 0 5), aR rs]) from (hfW_c hl 53 (by decide))) rfl rfl (Nat.le_of_ble_eq_true rfl) (by omega) (hfu (d - 1) vv ((u51).2) (by omega) hV hIu51) (fun _ => ?_)
            obtain ⟨u59, hu59⟩ : ∃ x9, x9 = fu vv ((u51).2) := ⟨_, rfl⟩
            rw [← hu59]
            obtain ⟨hVu59, hIu59⟩ : RvI u59.1 ∧ RdI u59.2 := by rw [hu59]; exact hfi _ _ hV hIu51
            refine T_aload_n (am_dec tX8_readProduct_0 30 rfl) rfl ?_
            refine T_getfield 7 6 (am_dec tX8_readProduct_0 31 rfl) flX8_9_7 (show (hfW w hb sp rb rs hb po (aR rs) ee hh ss uu ((u59).1) pp ((u59).2) rr tt gg aa dd bd ga im)[53]? = some (cO 7 [aR 51, aI ((u59).2 0 1), aI ((u59).2 0 2), aI ((u59).2 0 3), aI ((u59).2 0 4), aI ((u59).2 0 5), aR rs]) from (hfW_c hl 53 (by decide))) rfl ?_
            refine T_sipush 2003 (am_dec tX8_readProduct_0 32 rfl) rfl ⟨by decide, by decide⟩ ?_
            refine T_callV (as := [aI 2003]) rfl (am_dec tX8_readProduct_0 33 rfl) lkX8_79 (show (hfW w hb sp rb rs hb po (aR rs) ee hh ss uu ((u59).1) pp ((u59).2) rr tt gg aa dd bd ga im)[rs]? = some (cO 6 [aI ((u59).1 0 0), aI ((u59).1 0 1), aR (rs + 1), aR (rs + 2), aR (rs + 3), aR (rs + 4)]) from ((hf_V hl hr) 0 (by decide))) rfl rfl (Nat.le_of_ble_eq_true rfl) (by omega) (am_OutE (m_rput (d := d - 1) (w := hfW w hb sp rb rs hb po (aR rs) ee hh ss uu ((u59).1) pp ((u59).2) rr tt gg aa dd bd ga im) (hf_le hl (by omega)) 2003 hVu59.2.1) (hf_uV hr) (hf_uV hr)) (fun _ => ?_)
            refine T_nmH (W := fun x9 => hfW w hb sp rb rs hb po (aR rs) ee hh ss uu x9 pp ((u59).2) rr tt gg aa dd bd ga im) (v := f_rput ((u59).1) 2003) (fun vv69 hvv69 => ?_)
            have hVvv69 : RvI vv69 := by rw [hvv69]; exact f_rput_I hVu59 _
            refine T_goto 76 (am_dec tX8_readProduct_0 34 rfl) rfl ?_
            refine T_iinc (ls' := [some (aR 53), some (aI dp), some (aI (i + 1))]) (i + 1) (am_dec tX8_readProduct_0 36 rfl) rfl rfl ⟨by omega, by omega⟩ (by decide) rfl ?_
            refine T_goto 7 (am_dec tX8_readProduct_0 37 rfl) rfl ?_
            have e9 : (w_c_readProduct_7 ee fu) (i, vv, kk) = .inl (i + 1, vv69, (u59).2) := (by have s9 := hz15.symm; subst s9; have s9 := hu24.symm; subst s9; have s9 := hu51.symm; subst s9; have s9 := hu59.symm; subst s9; have s9 := hvv69.symm; subst s9; exact ((if_neg h11).trans ((if_neg h18).trans ((if_pos h27).trans (if_neg h54)))))
            simp only [am_wh_l e9] at k9
            exact ih (i + 1) vv69 ((u59).2) (by omega) ⟨⟨hVvv69, hIu59⟩, by omega, by omega⟩ k9
        · refine T_aload_n (am_dec tX8_readProduct_0 15 rfl) rfl ?_
          refine T_iload_n (am_dec tX8_readProduct_0 16 rfl) rfl ?_
          refine T_callV (as := [aI dp]) rfl (am_dec tX8_readProduct_0 17 rfl) lkX8_102 (show (hfW w hb sp rb rs hb po (aR rs) ee hh ss uu vv pp ((u24).2) rr tt gg aa dd bd ga im)[53]? = some (cO 7 [aR 51, aI ((u24).2 0 1), aI ((u24).2 0 2), aI ((u24).2 0 3), aI ((u24).2 0 4), aI ((u24).2 0 5), aR rs]) from (hfW_c hl 53 (by decide))) rfl rfl (Nat.le_of_ble_eq_true rfl) (by omega) (hfu (d - 1) vv ((u24).2) (by omega) hV hIu24) (fun _ => ?_)
          obtain ⟨u32, hu32⟩ : ∃ x9, x9 = fu vv ((u24).2) := ⟨_, rfl⟩
          rw [← hu32]
          obtain ⟨hVu32, hIu32⟩ : RvI u32.1 ∧ RdI u32.2 := by rw [hu32]; exact hfi _ _ hV hIu24
          refine T_aload_n (am_dec tX8_readProduct_0 18 rfl) rfl ?_
          refine T_getfield 7 6 (am_dec tX8_readProduct_0 19 rfl) flX8_9_7 (show (hfW w hb sp rb rs hb po (aR rs) ee hh ss uu ((u32).1) pp ((u32).2) rr tt gg aa dd bd ga im)[53]? = some (cO 7 [aR 51, aI ((u32).2 0 1), aI ((u32).2 0 2), aI ((u32).2 0 3), aI ((u32).2 0 4), aI ((u32).2 0 5), aR rs]) from (hfW_c hl 53 (by decide))) rfl ?_
          refine T_sipush 2002 (am_dec tX8_readProduct_0 20 rfl) rfl ⟨by decide, by decide⟩ ?_
          refine T_callV (as := [aI 2002]) rfl (am_dec tX8_readProduct_0 21 rfl) lkX8_79 (show (hfW w hb sp rb rs hb po (aR rs) ee hh ss uu ((u32).1) pp ((u32).2) rr tt gg aa dd bd ga im)[rs]? = some (cO 6 [aI ((u32).1 0 0), aI ((u32).1 0 1), aR (rs + 1), aR (rs + 2), aR (rs + 3), aR (rs + 4)]) from ((hf_V hl hr) 0 (by decide))) rfl rfl (Nat.le_of_ble_eq_true rfl) (by omega) (am_OutE (m_rput (d := d - 1) (w := hfW w hb sp rb rs hb po (aR rs) ee hh ss uu ((u32).1) pp ((u32).2) rr tt gg aa dd bd ga im) (hf_le hl (by omega)) 2002 hVu32.2.1) (hf_uV hr) (hf_uV hr)) (fun _ => ?_)
          refine T_nmH (W := fun x9 => hfW w hb sp rb rs hb po (aR rs) ee hh ss uu x9 pp ((u32).2) rr tt gg aa dd bd ga im) (v := f_rput ((u32).1) 2002) (fun vv42 hvv42 => ?_)
          have hVvv42 : RvI vv42 := by rw [hvv42]; exact f_rput_I hVu32 _
          refine T_goto 76 (am_dec tX8_readProduct_0 22 rfl) rfl ?_
          refine T_iinc (ls' := [some (aR 53), some (aI dp), some (aI (i + 1))]) (i + 1) (am_dec tX8_readProduct_0 36 rfl) rfl rfl ⟨by omega, by omega⟩ (by decide) rfl ?_
          refine T_goto 7 (am_dec tX8_readProduct_0 37 rfl) rfl ?_
          have e9 : (w_c_readProduct_7 ee fu) (i, vv, kk) = .inl (i + 1, vv42, (u32).2) := (by have s9 := hz15.symm; subst s9; have s9 := hu24.symm; subst s9; have s9 := hu32.symm; subst s9; have s9 := hvv42.symm; subst s9; exact ((if_neg h11).trans ((if_neg h18).trans (if_neg h27))))
          simp only [am_wh_l e9] at k9
          exact ih (i + 1) vv42 ((u32).2) (by omega) ⟨⟨hVvv42, hIu32⟩, by omega, by omega⟩ k9
def c_readProduct (ee : am_F) (vv : am_F) (kk : am_F) (fu : am_F → am_F → am_F × am_F) : am_F × am_F := (let u2 : am_F × am_F := fu vv kk; (let vv7 : am_F := (am_wh (w_c_readProduct_7 ee fu) 201 (0, ((u2).1), ((u2).2))).2.1; (let kk7 : am_F := (am_wh (w_c_readProduct_7 ee fu) 201 (0, ((u2).1), ((u2).2))).2.2; (vv7, kk7))))
theorem mc_readProduct {S : am_S} {d u : Nat} {w : AH} {hb sp rb rs : Nat} {po : AV} (hl : 109 ≤ w.length) (hp : hb = 1 ∧ sp = 21 ∨ hb = 21 ∧ sp = 1) (hr : rb = 41 ∧ rs = 46 ∨ rb = 46 ∧ rs = 41) {ee : am_F} {hh : am_F} {ss : am_F} {uu : am_F} {vv : am_F} {pp : am_F} {kk : am_F} {rr : am_F} {tt : am_F} {gg : am_F} {aa : am_F} {dd : am_F} {bd : am_F} {ga : am_F} {im : am_F} (dp : Int) (E : Nat) (fu : am_F → am_F → am_F × am_F) (hP : RdI kk) (hTp : TpI ee) (hV : RvI vv) (hdp : 0 ≤ dp ∧ dp ≤ 6) (hE : E + 1 ≤ d) (hfu : LvC S w hb sp rb rs po ee hh ss uu pp rr tt gg aa dd bd ga im zX8_readUnit E dp fu) (hfi : LvI fu)  (hd : 8 ≤ d) : am_Out S zX8_readProduct d u [aR 53, aI dp] (hfW w hb sp rb rs hb po (aR rs) ee hh ss uu vv pp kk rr tt gg aa dd bd ga im) (.inl none) (hfW w hb sp rb rs hb po (aR rs) ee hh ss uu ((c_readProduct ee vv kk fu).1) pp ((c_readProduct ee vv kk fu).2) rr tt gg aa dd bd ga im) := by
  have key : ∀ Q : AO → AH → Prop, Q (.inl none) (hfW w hb sp rb rs hb po (aR rs) ee hh ss uu ((c_readProduct ee vv kk fu).1) pp ((c_readProduct ee vv kk fu).2) rr tt gg aa dd bd ga im) → am_M S zX8_readProduct d u [aR 53, aI dp] (hfW w hb sp rb rs hb po (aR rs) ee hh ss uu vv pp kk rr tt gg aa dd bd ga im) Q := by
    intro Q hQ
    refine am_body rfl (by decide +kernel) rfl (am_cats_cons rfl ( am_cats_cons rfl (am_cats_nil))) (Nat.le_of_ble_eq_true rfl) (?_ : am_T _ _ _ _ _ 0 [some (aR 53), some (aI dp), none] [] (hfW w hb sp rb rs hb po (aR rs) ee hh ss uu vv pp kk rr tt gg aa dd bd ga im))
    have hP9 := hP
    obtain ⟨⟨vr1, vr2⟩, vr3, vr4, vr5⟩ := hP9
    have hV9 := hV
    obtain ⟨⟨hV1, hV2⟩, hV3, hV4⟩ := hV9
    have hdp9 := hdp
    obtain ⟨hdp1, hdp2⟩ := hdp9
    refine T_aload_n (am_dec tX8_readProduct_0 0 rfl) rfl ?_
    refine T_iload_n (am_dec tX8_readProduct_0 1 rfl) rfl ?_
    refine T_callV (as := [aI dp]) rfl (am_dec tX8_readProduct_0 2 rfl) lkX8_102 (show (hfW w hb sp rb rs hb po (aR rs) ee hh ss uu vv pp kk rr tt gg aa dd bd ga im)[53]? = some (cO 7 [aR 51, aI (kk 0 1), aI (kk 0 2), aI (kk 0 3), aI (kk 0 4), aI (kk 0 5), aR rs]) from (hfW_c hl 53 (by decide))) rfl rfl (Nat.le_of_ble_eq_true rfl) (by omega) (hfu (d - 1) vv kk (by omega) hV hP) (fun _ => ?_)
    obtain ⟨u2, hu2⟩ : ∃ x9, x9 = fu vv kk := ⟨_, rfl⟩
    rw [← hu2]
    obtain ⟨hVu2, hIu2⟩ : RvI u2.1 ∧ RdI u2.2 := by rw [hu2]; exact hfi _ _ hV hP
    refine T_iconst 0 (am_dec tX8_readProduct_0 3 rfl) rfl ⟨by decide, by decide⟩ ?_
    refine T_istore_n (ls' := [some (aR 53), some (aI dp), some (aI 0)]) (am_dec tX8_readProduct_0 4 rfl) (by decide) rfl ?_
    refine L_c_readProduct_7 hl hp hr ee hh ss uu pp rr tt gg aa dd bd ga im dp E fu  hTp hdp hE hfu hfi (by omega) 201 0 ((u2).1) ((u2).2) (by omega) ⟨⟨hVu2, hIu2⟩, by omega, by omega⟩ (fun i_7 vv7 kk7 hi_7 hvv7 hkk7 => ?_)
    exact (am_tr (fun (x9 : am_F × am_F) => Q (.inl none) (hfW w hb sp rb rs hb po (aR rs) ee hh ss uu x9.1 pp x9.2 rr tt gg aa dd bd ga im)) (y := (vv7, kk7)) (show (c_readProduct ee vv kk fu) = (vv7, kk7) from (by have s9 := hu2.symm; subst s9; have s9 := hi_7.symm; subst s9; have s9 := hvv7.symm; subst s9; have s9 := hkk7.symm; subst s9; exact rfl)) hQ)
  exact key _ ⟨rfl, rfl⟩
def w_c_readSum_7 (ee : am_F) (fp : am_F → am_F → am_F × am_F) (x9 : Int × am_F × am_F) : (Int × am_F × am_F) ⊕ (Int × am_F × am_F) := let i : Int := x9.1; let vv : am_F := x9.2.1; let kk : am_F := x9.2.2; (if 200 ≤ i then .inr (i, vv, kk) else (let z15 : Int := (c_fine kk); (if z15 = 0 then .inr (i, vv, kk) else (let u24 : Int × am_F := c_takesSign ee kk 43; (if (u24).1 = 0 then (let u51 : Int × am_F := c_takesSign ee ((u24).2) 45; (if (u51).1 = 0 then .inr (i, vv, (u51).2) else (let u59 : am_F × am_F := fp vv ((u51).2); (let vv69 : am_F := f_rput ((u59).1) 2001; .inl ((i + 1), vv69, (u59).2))))) else (let u32 : am_F × am_F := fp vv ((u24).2); (let vv42 : am_F := f_rput ((u32).1) 2000; .inl ((i + 1), vv42, (u32).2))))))))
theorem L_c_readSum_7 {S : am_S} {d u : Nat} {Q : AO → AH → Prop} {w : AH} {hb sp rb rs : Nat} {po : AV} (hl : 109 ≤ w.length) (hp : hb = 1 ∧ sp = 21 ∨ hb = 21 ∧ sp = 1) (hr : rb = 41 ∧ rs = 46 ∨ rb = 46 ∧ rs = 41) (ee : am_F) (hh : am_F) (ss : am_F) (uu : am_F) (pp : am_F) (rr : am_F) (tt : am_F) (gg : am_F) (aa : am_F) (dd : am_F) (bd : am_F) (ga : am_F) (im : am_F) (dp : Int) (E : Nat) (fp : am_F → am_F → am_F × am_F) (hTp : TpI ee) (hdp : 0 ≤ dp ∧ dp ≤ 6) (hE : E + 1 ≤ d) (hfu : LvC S w hb sp rb rs po ee hh ss uu pp rr tt gg aa dd bd ga im zX8_readProduct E dp fp) (hfi : LvI fp) (hd : 8 ≤ d) : ∀ (n : Nat) (i : Int) (vv : am_F) (kk : am_F), 200 - i < n → (RvI vv ∧ RdI kk) ∧ 0 ≤ i ∧ i ≤ 200 → (∀ (i' : Int) (vv' : am_F) (kk' : am_F), i' = (am_wh (w_c_readSum_7 ee fp) n (i, vv, kk)).1 → vv' = (am_wh (w_c_readSum_7 ee fp) n (i, vv, kk)).2.1 → kk' = (am_wh (w_c_readSum_7 ee fp) n (i, vv, kk)).2.2 → Q (.inl none) (hfW w hb sp rb rs hb po (aR rs) ee hh ss uu vv' pp kk' rr tt gg aa dd bd ga im)) → am_T S zX8_readSum d u Q 7 [some (aR 53), some (aI dp), some (aI i)] [] (hfW w hb sp rb rs hb po (aR rs) ee hh ss uu vv pp kk rr tt gg aa dd bd ga im) := by
  intro n
  induction n with
  | zero =>
    intro i vv kk hm9 hinv k9
    have hV := hinv.1.1
    have hP := hinv.1.2
    obtain ⟨hdp1, hdp2⟩ := hdp
    have hP9 := hP
    obtain ⟨⟨vr1, vr2⟩, vr3, vr4, vr5⟩ := hP9
    have hV9 := hV
    obtain ⟨⟨hV1, hV2⟩, hV3, hV4⟩ := hV9
    exfalso; omega
  | succ n ih =>
    intro i vv kk hm9 hinv k9
    have hV := hinv.1.1
    have hP := hinv.1.2
    obtain ⟨hdp1, hdp2⟩ := hdp
    have hP9 := hP
    obtain ⟨⟨vr1, vr2⟩, vr3, vr4, vr5⟩ := hP9
    have hV9 := hV
    obtain ⟨⟨hV1, hV2⟩, hV3, hV4⟩ := hV9
    refine T_iload_n (am_dec tX8_readSum_0 5 rfl) rfl ?_
    refine T_sipush 200 (am_dec tX8_readSum_0 6 rfl) rfl ⟨by decide, by decide⟩ ?_
    refine T_icmp_ge 82 (am_dec tX8_readSum_0 7 rfl) rfl (fun h11 => ?_) (fun h11 => ?_)
    · exact T_return (am_dec tX8_readSum_0 38 rfl) rfl (by have e9 : (w_c_readSum_7 ee fp) (i, vv, kk) = .inr (i, vv, kk) := (if_pos h11); simp only [am_wh_r e9] at k9; exact k9 _ _ _ rfl rfl rfl)
    · refine T_aload_n (am_dec tX8_readSum_0 8 rfl) rfl ?_
      refine T_callU (as := []) rfl (am_dec tX8_readSum_0 9 rfl) lkX8_21_X8 (show (hfW w hb sp rb rs hb po (aR rs) ee hh ss uu vv pp kk rr tt gg aa dd bd ga im)[53]? = some (cO 7 [aR 51, aI (kk 0 1), aI (kk 0 2), aI (kk 0 3), aI (kk 0 4), aI (kk 0 5), aR rs]) from (hfW_c hl 53 (by decide))) rfl rfl (Nat.le_of_ble_eq_true rfl) (by omega) (md_fine (d := d - 1) hl hp hr    (by omega)) (fun _ => ?_)
      refine T_nm (fun z15 hz15 => ?_)
      have hb15 := c_fine_b kk
      rw [← hz15] at hb15
      refine T_if_eq 82 (am_dec tX8_readSum_0 10 rfl) rfl (fun h18 => ?_) (fun h18 => ?_)
      · exact T_return (am_dec tX8_readSum_0 38 rfl) rfl (by have e9 : (w_c_readSum_7 ee fp) (i, vv, kk) = .inr (i, vv, kk) := (by have s9 := hz15.symm; subst s9; exact ((if_neg h11).trans (if_pos h18))); simp only [am_wh_r e9] at k9; exact k9 _ _ _ rfl rfl rfl)
      · refine T_aload_n (am_dec tX8_readSum_0 11 rfl) rfl ?_
        refine T_bipush 43 (am_dec tX8_readSum_0 12 rfl) rfl ⟨by decide, by decide⟩ ?_
        refine T_callU (as := [aI 43]) rfl (am_dec tX8_readSum_0 13 rfl) lkX8_93_X8 (show (hfW w hb sp rb rs hb po (aR rs) ee hh ss uu vv pp kk rr tt gg aa dd bd ga im)[53]? = some (cO 7 [aR 51, aI (kk 0 1), aI (kk 0 2), aI (kk 0 3), aI (kk 0 4), aI (kk 0 5), aR rs]) from (hfW_c hl 53 (by decide))) rfl rfl (Nat.le_of_ble_eq_true rfl) (by omega) (md_takesSign (d := d - 1) hl hp hr 43  (by omega) hP hTp (by omega)) (fun _ => ?_)
        obtain ⟨u24, hu24⟩ : ∃ x9, x9 = c_takesSign ee kk 43 := ⟨_, rfl⟩
        rw [← hu24]
        have hxu24 : Rd2 kk u24.2 := by rw [hu24]; exact (Rd2.rf hP).takesSign hTp (by omega)
        have hIu24 := hxu24.1
        have hgu24 := hIu24
        obtain ⟨⟨yr241, yr242⟩, yr243, yr244, yr245⟩ := hgu24
        have heu24_7 : u24.2 0 7 = kk 0 7 := hxu24.2 0 7 (by decide)
        have heu24_8 : u24.2 0 8 = kk 0 8 := hxu24.2 0 8 (by decide)
        have heu24_9 : u24.2 0 9 = kk 0 9 := hxu24.2 0 9 (by decide)
        have heu24_10 : u24.2 0 10 = kk 0 10 := hxu24.2 0 10 (by decide)
        have hb24 : u24.1 = 0 ∨ u24.1 = 1 := by rw [hu24]; exact c_takesSign_b _ _ _
        refine T_if_eq 48 (am_dec tX8_readSum_0 14 rfl) rfl (fun h27 => ?_) (fun h27 => ?_)
        · refine T_aload_n (am_dec tX8_readSum_0 23 rfl) rfl ?_
          refine T_bipush 45 (am_dec tX8_readSum_0 24 rfl) rfl ⟨by decide, by decide⟩ ?_
          refine T_callU (as := [aI 45]) rfl (am_dec tX8_readSum_0 25 rfl) lkX8_93_X8 (show (hfW w hb sp rb rs hb po (aR rs) ee hh ss uu vv pp ((u24).2) rr tt gg aa dd bd ga im)[53]? = some (cO 7 [aR 51, aI ((u24).2 0 1), aI ((u24).2 0 2), aI ((u24).2 0 3), aI ((u24).2 0 4), aI ((u24).2 0 5), aR rs]) from (hfW_c hl 53 (by decide))) rfl rfl (Nat.le_of_ble_eq_true rfl) (by omega) (md_takesSign (d := d - 1) hl hp hr 45  (by omega) hIu24 hTp (by omega)) (fun _ => ?_)
          obtain ⟨u51, hu51⟩ : ∃ x9, x9 = c_takesSign ee ((u24).2) 45 := ⟨_, rfl⟩
          rw [← hu51]
          have hxu51 : Rd2 ((u24).2) u51.2 := by rw [hu51]; exact (Rd2.rf hIu24).takesSign hTp (by omega)
          have hIu51 := hxu51.1
          have hgu51 := hIu51
          obtain ⟨⟨yr511, yr512⟩, yr513, yr514, yr515⟩ := hgu51
          have heu51_7 : u51.2 0 7 = (u24).2 0 7 := hxu51.2 0 7 (by decide)
          have heu51_8 : u51.2 0 8 = (u24).2 0 8 := hxu51.2 0 8 (by decide)
          have heu51_9 : u51.2 0 9 = (u24).2 0 9 := hxu51.2 0 9 (by decide)
          have heu51_10 : u51.2 0 10 = (u24).2 0 10 := hxu51.2 0 10 (by decide)
          have hb51 : u51.1 = 0 ∨ u51.1 = 1 := by rw [hu51]; exact c_takesSign_b _ _ _
          refine T_if_eq 75 (am_dec tX8_readSum_0 26 rfl) rfl (fun h54 => ?_) (fun h54 => ?_)
          · exact T_return (am_dec tX8_readSum_0 35 rfl) rfl (by have e9 : (w_c_readSum_7 ee fp) (i, vv, kk) = .inr (i, vv, (u51).2) := (by have s9 := hz15.symm; subst s9; have s9 := hu24.symm; subst s9; have s9 := hu51.symm; subst s9; exact ((if_neg h11).trans ((if_neg h18).trans ((if_pos h27).trans (if_pos h54))))); simp only [am_wh_r e9] at k9; exact k9 _ _ _ rfl rfl rfl)
          · refine T_aload_n (am_dec tX8_readSum_0 27 rfl) rfl ?_
            refine T_iload_n (am_dec tX8_readSum_0 28 rfl) rfl ?_
            refine T_callV (as := [aI dp]) rfl (am_dec tX8_readSum_0 29 rfl) lkX8_99 (show (hfW w hb sp rb rs hb po (aR rs) ee hh ss uu vv pp ((u51).2) rr tt gg aa dd bd ga im)[53]? = some (cO 7 [aR 51, aI ((u51).2 0 1), aI ((u51).2 0 2), aI ((u51).2 0 3), aI ((u51).2 0 4), aI ((u51).2 0 5), aR rs]) from (hfW_c hl 53 (by decide))) rfl rfl (Nat.le_of_ble_eq_true rfl) (by omega) (hfu (d - 1) vv ((u51).2) (by omega) hV hIu51) (fun _ => ?_)
            obtain ⟨u59, hu59⟩ : ∃ x9, x9 = fp vv ((u51).2) := ⟨_, rfl⟩
            rw [← hu59]
            obtain ⟨hVu59, hIu59⟩ : RvI u59.1 ∧ RdI u59.2 := by rw [hu59]; exact hfi _ _ hV hIu51
            refine T_aload_n (am_dec tX8_readSum_0 30 rfl) rfl ?_
            refine T_getfield 7 6 (am_dec tX8_readSum_0 31 rfl) flX8_9_7 (show (hfW w hb sp rb rs hb po (aR rs) ee hh ss uu ((u59).1) pp ((u59).2) rr tt gg aa dd bd ga im)[53]? = some (cO 7 [aR 51, aI ((u59).2 0 1), aI ((u59).2 0 2), aI ((u59).2 0 3), aI ((u59).2 0 4), aI ((u59).2 0 5), aR rs]) from (hfW_c hl 53 (by decide))) rfl ?_
            refine T_sipush 2001 (am_dec tX8_readSum_0 32 rfl) rfl ⟨by decide, by decide⟩ ?_
            refine T_callV (as := [aI 2001]) rfl (am_dec tX8_readSum_0 33 rfl) lkX8_79 (show (hfW w hb sp rb rs hb po (aR rs) ee hh ss uu ((u59).1) pp ((u59).2) rr tt gg aa dd bd ga im)[rs]? = some (cO 6 [aI ((u59).1 0 0), aI ((u59).1 0 1), aR (rs + 1), aR (rs + 2), aR (rs + 3), aR (rs + 4)]) from ((hf_V hl hr) 0 (by decide))) rfl rfl (Nat.le_of_ble_eq_true rfl) (by omega) (am_OutE (m_rput (d := d - 1) (w := hfW w hb sp rb rs hb po (aR rs) ee hh ss uu ((u59).1) pp ((u59).2) rr tt gg aa dd bd ga im) (hf_le hl (by omega)) 2001 hVu59.2.1) (hf_uV hr) (hf_uV hr)) (fun _ => ?_)
            refine T_nmH (W := fun x9 => hfW w hb sp rb rs hb po (aR rs) ee hh ss uu x9 pp ((u59).2) rr tt gg aa dd bd ga im) (v := f_rput ((u59).1) 2001) (fun vv69 hvv69 => ?_)
            have hVvv69 : RvI vv69 := by rw [hvv69]; exact f_rput_I hVu59 _
            refine T_goto 76 (am_dec tX8_readSum_0 34 rfl) rfl ?_
            refine T_iinc (ls' := [some (aR 53), some (aI dp), some (aI (i + 1))]) (i + 1) (am_dec tX8_readSum_0 36 rfl) rfl rfl ⟨by omega, by omega⟩ (by decide) rfl ?_
            refine T_goto 7 (am_dec tX8_readSum_0 37 rfl) rfl ?_
            have e9 : (w_c_readSum_7 ee fp) (i, vv, kk) = .inl (i + 1, vv69, (u59).2) := (by have s9 := hz15.symm; subst s9; have s9 := hu24.symm; subst s9; have s9 := hu51.symm; subst s9; have s9 := hu59.symm; subst s9; have s9 := hvv69.symm; subst s9; exact ((if_neg h11).trans ((if_neg h18).trans ((if_pos h27).trans (if_neg h54)))))
            simp only [am_wh_l e9] at k9
            exact ih (i + 1) vv69 ((u59).2) (by omega) ⟨⟨hVvv69, hIu59⟩, by omega, by omega⟩ k9
        · refine T_aload_n (am_dec tX8_readSum_0 15 rfl) rfl ?_
          refine T_iload_n (am_dec tX8_readSum_0 16 rfl) rfl ?_
          refine T_callV (as := [aI dp]) rfl (am_dec tX8_readSum_0 17 rfl) lkX8_99 (show (hfW w hb sp rb rs hb po (aR rs) ee hh ss uu vv pp ((u24).2) rr tt gg aa dd bd ga im)[53]? = some (cO 7 [aR 51, aI ((u24).2 0 1), aI ((u24).2 0 2), aI ((u24).2 0 3), aI ((u24).2 0 4), aI ((u24).2 0 5), aR rs]) from (hfW_c hl 53 (by decide))) rfl rfl (Nat.le_of_ble_eq_true rfl) (by omega) (hfu (d - 1) vv ((u24).2) (by omega) hV hIu24) (fun _ => ?_)
          obtain ⟨u32, hu32⟩ : ∃ x9, x9 = fp vv ((u24).2) := ⟨_, rfl⟩
          rw [← hu32]
          obtain ⟨hVu32, hIu32⟩ : RvI u32.1 ∧ RdI u32.2 := by rw [hu32]; exact hfi _ _ hV hIu24
          refine T_aload_n (am_dec tX8_readSum_0 18 rfl) rfl ?_
          refine T_getfield 7 6 (am_dec tX8_readSum_0 19 rfl) flX8_9_7 (show (hfW w hb sp rb rs hb po (aR rs) ee hh ss uu ((u32).1) pp ((u32).2) rr tt gg aa dd bd ga im)[53]? = some (cO 7 [aR 51, aI ((u32).2 0 1), aI ((u32).2 0 2), aI ((u32).2 0 3), aI ((u32).2 0 4), aI ((u32).2 0 5), aR rs]) from (hfW_c hl 53 (by decide))) rfl ?_
          refine T_sipush 2000 (am_dec tX8_readSum_0 20 rfl) rfl ⟨by decide, by decide⟩ ?_
          refine T_callV (as := [aI 2000]) rfl (am_dec tX8_readSum_0 21 rfl) lkX8_79 (show (hfW w hb sp rb rs hb po (aR rs) ee hh ss uu ((u32).1) pp ((u32).2) rr tt gg aa dd bd ga im)[rs]? = some (cO 6 [aI ((u32).1 0 0), aI ((u32).1 0 1), aR (rs + 1), aR (rs + 2), aR (rs + 3), aR (rs + 4)]) from ((hf_V hl hr) 0 (by decide))) rfl rfl (Nat.le_of_ble_eq_true rfl) (by omega) (am_OutE (m_rput (d := d - 1) (w := hfW w hb sp rb rs hb po (aR rs) ee hh ss uu ((u32).1) pp ((u32).2) rr tt gg aa dd bd ga im) (hf_le hl (by omega)) 2000 hVu32.2.1) (hf_uV hr) (hf_uV hr)) (fun _ => ?_)
          refine T_nmH (W := fun x9 => hfW w hb sp rb rs hb po (aR rs) ee hh ss uu x9 pp ((u32).2) rr tt gg aa dd bd ga im) (v := f_rput ((u32).1) 2000) (fun vv42 hvv42 => ?_)
          have hVvv42 : RvI vv42 := by rw [hvv42]; exact f_rput_I hVu32 _
          refine T_goto 76 (am_dec tX8_readSum_0 22 rfl) rfl ?_
          refine T_iinc (ls' := [some (aR 53), some (aI dp), some (aI (i + 1))]) (i + 1) (am_dec tX8_readSum_0 36 rfl) rfl rfl ⟨by omega, by omega⟩ (by decide) rfl ?_
          refine T_goto 7 (am_dec tX8_readSum_0 37 rfl) rfl ?_
          have e9 : (w_c_readSum_7 ee fp) (i, vv, kk) = .inl (i + 1, vv42, (u32).2) := (by have s9 := hz15.symm; subst s9; have s9 := hu24.symm; subst s9; have s9 := hu32.symm; subst s9; have s9 := hvv42.symm; subst s9; exact ((if_neg h11).trans ((if_neg h18).trans (if_neg h27))))
          simp only [am_wh_l e9] at k9
          exact ih (i + 1) vv42 ((u32).2) (by omega) ⟨⟨hVvv42, hIu32⟩, by omega, by omega⟩ k9
def c_readSum (ee : am_F) (vv : am_F) (kk : am_F) (fp : am_F → am_F → am_F × am_F) : am_F × am_F := (let u2 : am_F × am_F := fp vv kk; (let vv7 : am_F := (am_wh (w_c_readSum_7 ee fp) 201 (0, ((u2).1), ((u2).2))).2.1; (let kk7 : am_F := (am_wh (w_c_readSum_7 ee fp) 201 (0, ((u2).1), ((u2).2))).2.2; (vv7, kk7))))
theorem mc_readSum {S : am_S} {d u : Nat} {w : AH} {hb sp rb rs : Nat} {po : AV} (hl : 109 ≤ w.length) (hp : hb = 1 ∧ sp = 21 ∨ hb = 21 ∧ sp = 1) (hr : rb = 41 ∧ rs = 46 ∨ rb = 46 ∧ rs = 41) {ee : am_F} {hh : am_F} {ss : am_F} {uu : am_F} {vv : am_F} {pp : am_F} {kk : am_F} {rr : am_F} {tt : am_F} {gg : am_F} {aa : am_F} {dd : am_F} {bd : am_F} {ga : am_F} {im : am_F} (dp : Int) (E : Nat) (fp : am_F → am_F → am_F × am_F) (hP : RdI kk) (hTp : TpI ee) (hV : RvI vv) (hdp : 0 ≤ dp ∧ dp ≤ 6) (hE : E + 1 ≤ d) (hfu : LvC S w hb sp rb rs po ee hh ss uu pp rr tt gg aa dd bd ga im zX8_readProduct E dp fp) (hfi : LvI fp)  (hd : 8 ≤ d) : am_Out S zX8_readSum d u [aR 53, aI dp] (hfW w hb sp rb rs hb po (aR rs) ee hh ss uu vv pp kk rr tt gg aa dd bd ga im) (.inl none) (hfW w hb sp rb rs hb po (aR rs) ee hh ss uu ((c_readSum ee vv kk fp).1) pp ((c_readSum ee vv kk fp).2) rr tt gg aa dd bd ga im) := by
  have key : ∀ Q : AO → AH → Prop, Q (.inl none) (hfW w hb sp rb rs hb po (aR rs) ee hh ss uu ((c_readSum ee vv kk fp).1) pp ((c_readSum ee vv kk fp).2) rr tt gg aa dd bd ga im) → am_M S zX8_readSum d u [aR 53, aI dp] (hfW w hb sp rb rs hb po (aR rs) ee hh ss uu vv pp kk rr tt gg aa dd bd ga im) Q := by
    intro Q hQ
    refine am_body rfl (by decide +kernel) rfl (am_cats_cons rfl ( am_cats_cons rfl (am_cats_nil))) (Nat.le_of_ble_eq_true rfl) (?_ : am_T _ _ _ _ _ 0 [some (aR 53), some (aI dp), none] [] (hfW w hb sp rb rs hb po (aR rs) ee hh ss uu vv pp kk rr tt gg aa dd bd ga im))
    have hP9 := hP
    obtain ⟨⟨vr1, vr2⟩, vr3, vr4, vr5⟩ := hP9
    have hV9 := hV
    obtain ⟨⟨hV1, hV2⟩, hV3, hV4⟩ := hV9
    have hdp9 := hdp
    obtain ⟨hdp1, hdp2⟩ := hdp9
    refine T_aload_n (am_dec tX8_readSum_0 0 rfl) rfl ?_
    refine T_iload_n (am_dec tX8_readSum_0 1 rfl) rfl ?_
    refine T_callV (as := [aI dp]) rfl (am_dec tX8_readSum_0 2 rfl) lkX8_99 (show (hfW w hb sp rb rs hb po (aR rs) ee hh ss uu vv pp kk rr tt gg aa dd bd ga im)[53]? = some (cO 7 [aR 51, aI (kk 0 1), aI (kk 0 2), aI (kk 0 3), aI (kk 0 4), aI (kk 0 5), aR rs]) from (hfW_c hl 53 (by decide))) rfl rfl (Nat.le_of_ble_eq_true rfl) (by omega) (hfu (d - 1) vv kk (by omega) hV hP) (fun _ => ?_)
    obtain ⟨u2, hu2⟩ : ∃ x9, x9 = fp vv kk := ⟨_, rfl⟩
    rw [← hu2]
    obtain ⟨hVu2, hIu2⟩ : RvI u2.1 ∧ RdI u2.2 := by rw [hu2]; exact hfi _ _ hV hP
    refine T_iconst 0 (am_dec tX8_readSum_0 3 rfl) rfl ⟨by decide, by decide⟩ ?_
    refine T_istore_n (ls' := [some (aR 53), some (aI dp), some (aI 0)]) (am_dec tX8_readSum_0 4 rfl) (by decide) rfl ?_
    refine L_c_readSum_7 hl hp hr ee hh ss uu pp rr tt gg aa dd bd ga im dp E fp  hTp hdp hE hfu hfi (by omega) 201 0 ((u2).1) ((u2).2) (by omega) ⟨⟨hVu2, hIu2⟩, by omega, by omega⟩ (fun i_7 vv7 kk7 hi_7 hvv7 hkk7 => ?_)
    exact (am_tr (fun (x9 : am_F × am_F) => Q (.inl none) (hfW w hb sp rb rs hb po (aR rs) ee hh ss uu x9.1 pp x9.2 rr tt gg aa dd bd ga im)) (y := (vv7, kk7)) (show (c_readSum ee vv kk fp) = (vv7, kk7) from (by have s9 := hu2.symm; subst s9; have s9 := hi_7.symm; subst s9; have s9 := hvv7.symm; subst s9; have s9 := hkk7.symm; subst s9; exact rfl)) hQ)
  exact key _ ⟨rfl, rfl⟩
def w_c_readBoth_7 (ee : am_F) (ft : am_F → am_F → am_F × am_F) (x9 : Int × am_F × am_F) : (Int × am_F × am_F) ⊕ (Int × am_F × am_F) := let i : Int := x9.1; let vv : am_F := x9.2.1; let kk : am_F := x9.2.2; (if 200 ≤ i then .inr (i, vv, kk) else (let u17 : Int × am_F := c_takesWord ee kk 24; (if (u17).1 = 0 then .inr (i, vv, (u17).2) else (let u25 : am_F × am_F := ft vv ((u17).2); (let vv35 : am_F := f_rput ((u25).1) 2007; .inl ((i + 1), vv35, (u25).2))))))
theorem L_c_readBoth_7 {S : am_S} {d u : Nat} {Q : AO → AH → Prop} {w : AH} {hb sp rb rs : Nat} {po : AV} (hl : 109 ≤ w.length) (hp : hb = 1 ∧ sp = 21 ∨ hb = 21 ∧ sp = 1) (hr : rb = 41 ∧ rs = 46 ∨ rb = 46 ∧ rs = 41) (ee : am_F) (hh : am_F) (ss : am_F) (uu : am_F) (pp : am_F) (rr : am_F) (tt : am_F) (gg : am_F) (aa : am_F) (dd : am_F) (bd : am_F) (ga : am_F) (im : am_F) (dp : Int) (E : Nat) (ft : am_F → am_F → am_F × am_F) (hTp : TpI ee) (hdp : 0 ≤ dp ∧ dp ≤ 6) (hE : E + 1 ≤ d) (hfu : LvC S w hb sp rb rs po ee hh ss uu pp rr tt gg aa dd bd ga im zX8_readTest E dp ft) (hfi : LvI ft) (hd : 8 ≤ d) : ∀ (n : Nat) (i : Int) (vv : am_F) (kk : am_F), 200 - i < n → (RvI vv ∧ RdI kk) ∧ 0 ≤ i ∧ i ≤ 200 → (∀ (i' : Int) (vv' : am_F) (kk' : am_F), i' = (am_wh (w_c_readBoth_7 ee ft) n (i, vv, kk)).1 → vv' = (am_wh (w_c_readBoth_7 ee ft) n (i, vv, kk)).2.1 → kk' = (am_wh (w_c_readBoth_7 ee ft) n (i, vv, kk)).2.2 → Q (.inl none) (hfW w hb sp rb rs hb po (aR rs) ee hh ss uu vv' pp kk' rr tt gg aa dd bd ga im)) → am_T S zX8_readBoth d u Q 7 [some (aR 53), some (aI dp), some (aI i)] [] (hfW w hb sp rb rs hb po (aR rs) ee hh ss uu vv pp kk rr tt gg aa dd bd ga im) := by
  intro n
  induction n with
  | zero =>
    intro i vv kk hm9 hinv k9
    have hV := hinv.1.1
    have hP := hinv.1.2
    obtain ⟨hdp1, hdp2⟩ := hdp
    have hP9 := hP
    obtain ⟨⟨vr1, vr2⟩, vr3, vr4, vr5⟩ := hP9
    have hV9 := hV
    obtain ⟨⟨hV1, hV2⟩, hV3, hV4⟩ := hV9
    exfalso; omega
  | succ n ih =>
    intro i vv kk hm9 hinv k9
    have hV := hinv.1.1
    have hP := hinv.1.2
    obtain ⟨hdp1, hdp2⟩ := hdp
    have hP9 := hP
    obtain ⟨⟨vr1, vr2⟩, vr3, vr4, vr5⟩ := hP9
    have hV9 := hV
    obtain ⟨⟨hV1, hV2⟩, hV3, hV4⟩ := hV9
    refine T_iload_n (am_dec tX8_readBoth_0 5 rfl) rfl ?_
    refine T_sipush 200 (am_dec tX8_readBoth_0 6 rfl) rfl ⟨by decide, by decide⟩ ?_
    refine T_icmp_ge 44 (am_dec tX8_readBoth_0 7 rfl) rfl (fun h11 => ?_) (fun h11 => ?_)
    · exact T_return (am_dec tX8_readBoth_0 21 rfl) rfl (by have e9 : (w_c_readBoth_7 ee ft) (i, vv, kk) = .inr (i, vv, kk) := (if_pos h11); simp only [am_wh_r e9] at k9; exact k9 _ _ _ rfl rfl rfl)
    · refine T_aload_n (am_dec tX8_readBoth_0 8 rfl) rfl ?_
      refine T_ldcS (j := 24) (tx := "and") 25 (am_dec tX8_readBoth_0 9 rfl) rfl ?_
      refine T_callU (as := [aX (24 + 2)]) rfl (am_dec tX8_readBoth_0 10 rfl) lkX8_76_X8 (show (hfW w hb sp rb rs hb po (aR rs) ee hh ss uu vv pp kk rr tt gg aa dd bd ga im)[53]? = some (cO 7 [aR 51, aI (kk 0 1), aI (kk 0 2), aI (kk 0 3), aI (kk 0 4), aI (kk 0 5), aR rs]) from (hfW_c hl 53 (by decide))) rfl rfl (Nat.le_of_ble_eq_true rfl) (by omega) (md_takesWord (d := d - 1) hl hp hr  24 (by omega) hP hTp (by omega)) (fun _ => ?_)
      obtain ⟨u17, hu17⟩ : ∃ x9, x9 = c_takesWord ee kk 24 := ⟨_, rfl⟩
      rw [← hu17]
      have hxu17 : Rd2 kk u17.2 := by rw [hu17]; exact (Rd2.rf hP).takesWord hTp
      have hIu17 := hxu17.1
      have hgu17 := hIu17
      obtain ⟨⟨yr171, yr172⟩, yr173, yr174, yr175⟩ := hgu17
      have heu17_7 : u17.2 0 7 = kk 0 7 := hxu17.2 0 7 (by decide)
      have heu17_8 : u17.2 0 8 = kk 0 8 := hxu17.2 0 8 (by decide)
      have heu17_9 : u17.2 0 9 = kk 0 9 := hxu17.2 0 9 (by decide)
      have heu17_10 : u17.2 0 10 = kk 0 10 := hxu17.2 0 10 (by decide)
      have hb17 : u17.1 = 0 ∨ u17.1 = 1 := by rw [hu17]; exact c_takesWord_b _ _ _
      refine T_if_eq 44 (am_dec tX8_readBoth_0 11 rfl) rfl (fun h20 => ?_) (fun h20 => ?_)
      · exact T_return (am_dec tX8_readBoth_0 21 rfl) rfl (by have e9 : (w_c_readBoth_7 ee ft) (i, vv, kk) = .inr (i, vv, (u17).2) := (by have s9 := hu17.symm; subst s9; exact ((if_neg h11).trans (if_pos h20))); simp only [am_wh_r e9] at k9; exact k9 _ _ _ rfl rfl rfl)
      · refine T_aload_n (am_dec tX8_readBoth_0 12 rfl) rfl ?_
        refine T_iload_n (am_dec tX8_readBoth_0 13 rfl) rfl ?_
        refine T_callV (as := [aI dp]) rfl (am_dec tX8_readBoth_0 14 rfl) lkX8_82 (show (hfW w hb sp rb rs hb po (aR rs) ee hh ss uu vv pp ((u17).2) rr tt gg aa dd bd ga im)[53]? = some (cO 7 [aR 51, aI ((u17).2 0 1), aI ((u17).2 0 2), aI ((u17).2 0 3), aI ((u17).2 0 4), aI ((u17).2 0 5), aR rs]) from (hfW_c hl 53 (by decide))) rfl rfl (Nat.le_of_ble_eq_true rfl) (by omega) (hfu (d - 1) vv ((u17).2) (by omega) hV hIu17) (fun _ => ?_)
        obtain ⟨u25, hu25⟩ : ∃ x9, x9 = ft vv ((u17).2) := ⟨_, rfl⟩
        rw [← hu25]
        obtain ⟨hVu25, hIu25⟩ : RvI u25.1 ∧ RdI u25.2 := by rw [hu25]; exact hfi _ _ hV hIu17
        refine T_aload_n (am_dec tX8_readBoth_0 15 rfl) rfl ?_
        refine T_getfield 7 6 (am_dec tX8_readBoth_0 16 rfl) flX8_9_7 (show (hfW w hb sp rb rs hb po (aR rs) ee hh ss uu ((u25).1) pp ((u25).2) rr tt gg aa dd bd ga im)[53]? = some (cO 7 [aR 51, aI ((u25).2 0 1), aI ((u25).2 0 2), aI ((u25).2 0 3), aI ((u25).2 0 4), aI ((u25).2 0 5), aR rs]) from (hfW_c hl 53 (by decide))) rfl ?_
        refine T_sipush 2007 (am_dec tX8_readBoth_0 17 rfl) rfl ⟨by decide, by decide⟩ ?_
        refine T_callV (as := [aI 2007]) rfl (am_dec tX8_readBoth_0 18 rfl) lkX8_79 (show (hfW w hb sp rb rs hb po (aR rs) ee hh ss uu ((u25).1) pp ((u25).2) rr tt gg aa dd bd ga im)[rs]? = some (cO 6 [aI ((u25).1 0 0), aI ((u25).1 0 1), aR (rs + 1), aR (rs + 2), aR (rs + 3), aR (rs + 4)]) from ((hf_V hl hr) 0 (by decide))) rfl rfl (Nat.le_of_ble_eq_true rfl) (by omega) (am_OutE (m_rput (d := d - 1) (w := hfW w hb sp rb rs hb po (aR rs) ee hh ss uu ((u25).1) pp ((u25).2) rr tt gg aa dd bd ga im) (hf_le hl (by omega)) 2007 hVu25.2.1) (hf_uV hr) (hf_uV hr)) (fun _ => ?_)
        refine T_nmH (W := fun x9 => hfW w hb sp rb rs hb po (aR rs) ee hh ss uu x9 pp ((u25).2) rr tt gg aa dd bd ga im) (v := f_rput ((u25).1) 2007) (fun vv35 hvv35 => ?_)
        have hVvv35 : RvI vv35 := by rw [hvv35]; exact f_rput_I hVu25 _
        refine T_iinc (ls' := [some (aR 53), some (aI dp), some (aI (i + 1))]) (i + 1) (am_dec tX8_readBoth_0 19 rfl) rfl rfl ⟨by omega, by omega⟩ (by decide) rfl ?_
        refine T_goto 7 (am_dec tX8_readBoth_0 20 rfl) rfl ?_
        have e9 : (w_c_readBoth_7 ee ft) (i, vv, kk) = .inl (i + 1, vv35, (u25).2) := (by have s9 := hu17.symm; subst s9; have s9 := hu25.symm; subst s9; have s9 := hvv35.symm; subst s9; exact ((if_neg h11).trans (if_neg h20)))
        simp only [am_wh_l e9] at k9
        exact ih (i + 1) vv35 ((u25).2) (by omega) ⟨⟨hVvv35, hIu25⟩, by omega, by omega⟩ k9
def c_readBoth (ee : am_F) (vv : am_F) (kk : am_F) (ft : am_F → am_F → am_F × am_F) : am_F × am_F := (let u2 : am_F × am_F := ft vv kk; (let vv7 : am_F := (am_wh (w_c_readBoth_7 ee ft) 201 (0, ((u2).1), ((u2).2))).2.1; (let kk7 : am_F := (am_wh (w_c_readBoth_7 ee ft) 201 (0, ((u2).1), ((u2).2))).2.2; (vv7, kk7))))
theorem mc_readBoth {S : am_S} {d u : Nat} {w : AH} {hb sp rb rs : Nat} {po : AV} (hl : 109 ≤ w.length) (hp : hb = 1 ∧ sp = 21 ∨ hb = 21 ∧ sp = 1) (hr : rb = 41 ∧ rs = 46 ∨ rb = 46 ∧ rs = 41) {ee : am_F} {hh : am_F} {ss : am_F} {uu : am_F} {vv : am_F} {pp : am_F} {kk : am_F} {rr : am_F} {tt : am_F} {gg : am_F} {aa : am_F} {dd : am_F} {bd : am_F} {ga : am_F} {im : am_F} (dp : Int) (E : Nat) (ft : am_F → am_F → am_F × am_F) (hP : RdI kk) (hTp : TpI ee) (hV : RvI vv) (hdp : 0 ≤ dp ∧ dp ≤ 6) (hE : E + 1 ≤ d) (hfu : LvC S w hb sp rb rs po ee hh ss uu pp rr tt gg aa dd bd ga im zX8_readTest E dp ft) (hfi : LvI ft)  (hd : 8 ≤ d) : am_Out S zX8_readBoth d u [aR 53, aI dp] (hfW w hb sp rb rs hb po (aR rs) ee hh ss uu vv pp kk rr tt gg aa dd bd ga im) (.inl none) (hfW w hb sp rb rs hb po (aR rs) ee hh ss uu ((c_readBoth ee vv kk ft).1) pp ((c_readBoth ee vv kk ft).2) rr tt gg aa dd bd ga im) := by
  have key : ∀ Q : AO → AH → Prop, Q (.inl none) (hfW w hb sp rb rs hb po (aR rs) ee hh ss uu ((c_readBoth ee vv kk ft).1) pp ((c_readBoth ee vv kk ft).2) rr tt gg aa dd bd ga im) → am_M S zX8_readBoth d u [aR 53, aI dp] (hfW w hb sp rb rs hb po (aR rs) ee hh ss uu vv pp kk rr tt gg aa dd bd ga im) Q := by
    intro Q hQ
    refine am_body rfl (by decide +kernel) rfl (am_cats_cons rfl ( am_cats_cons rfl (am_cats_nil))) (Nat.le_of_ble_eq_true rfl) (?_ : am_T _ _ _ _ _ 0 [some (aR 53), some (aI dp), none] [] (hfW w hb sp rb rs hb po (aR rs) ee hh ss uu vv pp kk rr tt gg aa dd bd ga im))
    have hP9 := hP
    obtain ⟨⟨vr1, vr2⟩, vr3, vr4, vr5⟩ := hP9
    have hV9 := hV
    obtain ⟨⟨hV1, hV2⟩, hV3, hV4⟩ := hV9
    have hdp9 := hdp
    obtain ⟨hdp1, hdp2⟩ := hdp9
    refine T_aload_n (am_dec tX8_readBoth_0 0 rfl) rfl ?_
    refine T_iload_n (am_dec tX8_readBoth_0 1 rfl) rfl ?_
    refine T_callV (as := [aI dp]) rfl (am_dec tX8_readBoth_0 2 rfl) lkX8_82 (show (hfW w hb sp rb rs hb po (aR rs) ee hh ss uu vv pp kk rr tt gg aa dd bd ga im)[53]? = some (cO 7 [aR 51, aI (kk 0 1), aI (kk 0 2), aI (kk 0 3), aI (kk 0 4), aI (kk 0 5), aR rs]) from (hfW_c hl 53 (by decide))) rfl rfl (Nat.le_of_ble_eq_true rfl) (by omega) (hfu (d - 1) vv kk (by omega) hV hP) (fun _ => ?_)
    obtain ⟨u2, hu2⟩ : ∃ x9, x9 = ft vv kk := ⟨_, rfl⟩
    rw [← hu2]
    obtain ⟨hVu2, hIu2⟩ : RvI u2.1 ∧ RdI u2.2 := by rw [hu2]; exact hfi _ _ hV hP
    refine T_iconst 0 (am_dec tX8_readBoth_0 3 rfl) rfl ⟨by decide, by decide⟩ ?_
    refine T_istore_n (ls' := [some (aR 53), some (aI dp), some (aI 0)]) (am_dec tX8_readBoth_0 4 rfl) (by decide) rfl ?_
    refine L_c_readBoth_7 hl hp hr ee hh ss uu pp rr tt gg aa dd bd ga im dp E ft  hTp hdp hE hfu hfi (by omega) 201 0 ((u2).1) ((u2).2) (by omega) ⟨⟨hVu2, hIu2⟩, by omega, by omega⟩ (fun i_7 vv7 kk7 hi_7 hvv7 hkk7 => ?_)
    exact (am_tr (fun (x9 : am_F × am_F) => Q (.inl none) (hfW w hb sp rb rs hb po (aR rs) ee hh ss uu x9.1 pp x9.2 rr tt gg aa dd bd ga im)) (y := (vv7, kk7)) (show (c_readBoth ee vv kk ft) = (vv7, kk7) from (by have s9 := hu2.symm; subst s9; have s9 := hi_7.symm; subst s9; have s9 := hvv7.symm; subst s9; have s9 := hkk7.symm; subst s9; exact rfl)) hQ)
  exact key _ ⟨rfl, rfl⟩
def w_c_readChoice_7 (ee : am_F) (fb : am_F → am_F → am_F × am_F) (x9 : Int × am_F × am_F) : (Int × am_F × am_F) ⊕ (Int × am_F × am_F) := let i : Int := x9.1; let vv : am_F := x9.2.1; let kk : am_F := x9.2.2; (if 200 ≤ i then .inr (i, vv, kk) else (let u17 : Int × am_F := c_takesWord ee kk 25; (if (u17).1 = 0 then .inr (i, vv, (u17).2) else (let u25 : am_F × am_F := fb vv ((u17).2); (let vv35 : am_F := f_rput ((u25).1) 2008; .inl ((i + 1), vv35, (u25).2))))))
theorem L_c_readChoice_7 {S : am_S} {d u : Nat} {Q : AO → AH → Prop} {w : AH} {hb sp rb rs : Nat} {po : AV} (hl : 109 ≤ w.length) (hp : hb = 1 ∧ sp = 21 ∨ hb = 21 ∧ sp = 1) (hr : rb = 41 ∧ rs = 46 ∨ rb = 46 ∧ rs = 41) (ee : am_F) (hh : am_F) (ss : am_F) (uu : am_F) (pp : am_F) (rr : am_F) (tt : am_F) (gg : am_F) (aa : am_F) (dd : am_F) (bd : am_F) (ga : am_F) (im : am_F) (dp : Int) (E : Nat) (fb : am_F → am_F → am_F × am_F) (hTp : TpI ee) (hdp : 0 ≤ dp ∧ dp ≤ 6) (hE : E + 1 ≤ d) (hfu : LvC S w hb sp rb rs po ee hh ss uu pp rr tt gg aa dd bd ga im zX8_readBoth E dp fb) (hfi : LvI fb) (hd : 8 ≤ d) : ∀ (n : Nat) (i : Int) (vv : am_F) (kk : am_F), 200 - i < n → (RvI vv ∧ RdI kk) ∧ 0 ≤ i ∧ i ≤ 200 → (∀ (i' : Int) (vv' : am_F) (kk' : am_F), i' = (am_wh (w_c_readChoice_7 ee fb) n (i, vv, kk)).1 → vv' = (am_wh (w_c_readChoice_7 ee fb) n (i, vv, kk)).2.1 → kk' = (am_wh (w_c_readChoice_7 ee fb) n (i, vv, kk)).2.2 → Q (.inl none) (hfW w hb sp rb rs hb po (aR rs) ee hh ss uu vv' pp kk' rr tt gg aa dd bd ga im)) → am_T S zX8_readChoice d u Q 7 [some (aR 53), some (aI dp), some (aI i)] [] (hfW w hb sp rb rs hb po (aR rs) ee hh ss uu vv pp kk rr tt gg aa dd bd ga im) := by
  intro n
  induction n with
  | zero =>
    intro i vv kk hm9 hinv k9
    have hV := hinv.1.1
    have hP := hinv.1.2
    obtain ⟨hdp1, hdp2⟩ := hdp
    have hP9 := hP
    obtain ⟨⟨vr1, vr2⟩, vr3, vr4, vr5⟩ := hP9
    have hV9 := hV
    obtain ⟨⟨hV1, hV2⟩, hV3, hV4⟩ := hV9
    exfalso; omega
  | succ n ih =>
    intro i vv kk hm9 hinv k9
    have hV := hinv.1.1
    have hP := hinv.1.2
    obtain ⟨hdp1, hdp2⟩ := hdp
    have hP9 := hP
    obtain ⟨⟨vr1, vr2⟩, vr3, vr4, vr5⟩ := hP9
    have hV9 := hV
    obtain ⟨⟨hV1, hV2⟩, hV3, hV4⟩ := hV9
    refine T_iload_n (am_dec tX8_readChoice_0 5 rfl) rfl ?_
    refine T_sipush 200 (am_dec tX8_readChoice_0 6 rfl) rfl ⟨by decide, by decide⟩ ?_
    refine T_icmp_ge 44 (am_dec tX8_readChoice_0 7 rfl) rfl (fun h11 => ?_) (fun h11 => ?_)
    · exact T_return (am_dec tX8_readChoice_0 21 rfl) rfl (by have e9 : (w_c_readChoice_7 ee fb) (i, vv, kk) = .inr (i, vv, kk) := (if_pos h11); simp only [am_wh_r e9] at k9; exact k9 _ _ _ rfl rfl rfl)
    · refine T_aload_n (am_dec tX8_readChoice_0 8 rfl) rfl ?_
      refine T_ldcS (j := 25) (tx := "or") 26 (am_dec tX8_readChoice_0 9 rfl) rfl ?_
      refine T_callU (as := [aX (25 + 2)]) rfl (am_dec tX8_readChoice_0 10 rfl) lkX8_76_X8 (show (hfW w hb sp rb rs hb po (aR rs) ee hh ss uu vv pp kk rr tt gg aa dd bd ga im)[53]? = some (cO 7 [aR 51, aI (kk 0 1), aI (kk 0 2), aI (kk 0 3), aI (kk 0 4), aI (kk 0 5), aR rs]) from (hfW_c hl 53 (by decide))) rfl rfl (Nat.le_of_ble_eq_true rfl) (by omega) (md_takesWord (d := d - 1) hl hp hr  25 (by omega) hP hTp (by omega)) (fun _ => ?_)
      obtain ⟨u17, hu17⟩ : ∃ x9, x9 = c_takesWord ee kk 25 := ⟨_, rfl⟩
      rw [← hu17]
      have hxu17 : Rd2 kk u17.2 := by rw [hu17]; exact (Rd2.rf hP).takesWord hTp
      have hIu17 := hxu17.1
      have hgu17 := hIu17
      obtain ⟨⟨yr171, yr172⟩, yr173, yr174, yr175⟩ := hgu17
      have heu17_7 : u17.2 0 7 = kk 0 7 := hxu17.2 0 7 (by decide)
      have heu17_8 : u17.2 0 8 = kk 0 8 := hxu17.2 0 8 (by decide)
      have heu17_9 : u17.2 0 9 = kk 0 9 := hxu17.2 0 9 (by decide)
      have heu17_10 : u17.2 0 10 = kk 0 10 := hxu17.2 0 10 (by decide)
      have hb17 : u17.1 = 0 ∨ u17.1 = 1 := by rw [hu17]; exact c_takesWord_b _ _ _
      refine T_if_eq 44 (am_dec tX8_readChoice_0 11 rfl) rfl (fun h20 => ?_) (fun h20 => ?_)
      · exact T_return (am_dec tX8_readChoice_0 21 rfl) rfl (by have e9 : (w_c_readChoice_7 ee fb) (i, vv, kk) = .inr (i, vv, (u17).2) := (by have s9 := hu17.symm; subst s9; exact ((if_neg h11).trans (if_pos h20))); simp only [am_wh_r e9] at k9; exact k9 _ _ _ rfl rfl rfl)
      · refine T_aload_n (am_dec tX8_readChoice_0 12 rfl) rfl ?_
        refine T_iload_n (am_dec tX8_readChoice_0 13 rfl) rfl ?_
        refine T_callV (as := [aI dp]) rfl (am_dec tX8_readChoice_0 14 rfl) lkX8_71 (show (hfW w hb sp rb rs hb po (aR rs) ee hh ss uu vv pp ((u17).2) rr tt gg aa dd bd ga im)[53]? = some (cO 7 [aR 51, aI ((u17).2 0 1), aI ((u17).2 0 2), aI ((u17).2 0 3), aI ((u17).2 0 4), aI ((u17).2 0 5), aR rs]) from (hfW_c hl 53 (by decide))) rfl rfl (Nat.le_of_ble_eq_true rfl) (by omega) (hfu (d - 1) vv ((u17).2) (by omega) hV hIu17) (fun _ => ?_)
        obtain ⟨u25, hu25⟩ : ∃ x9, x9 = fb vv ((u17).2) := ⟨_, rfl⟩
        rw [← hu25]
        obtain ⟨hVu25, hIu25⟩ : RvI u25.1 ∧ RdI u25.2 := by rw [hu25]; exact hfi _ _ hV hIu17
        refine T_aload_n (am_dec tX8_readChoice_0 15 rfl) rfl ?_
        refine T_getfield 7 6 (am_dec tX8_readChoice_0 16 rfl) flX8_9_7 (show (hfW w hb sp rb rs hb po (aR rs) ee hh ss uu ((u25).1) pp ((u25).2) rr tt gg aa dd bd ga im)[53]? = some (cO 7 [aR 51, aI ((u25).2 0 1), aI ((u25).2 0 2), aI ((u25).2 0 3), aI ((u25).2 0 4), aI ((u25).2 0 5), aR rs]) from (hfW_c hl 53 (by decide))) rfl ?_
        refine T_sipush 2008 (am_dec tX8_readChoice_0 17 rfl) rfl ⟨by decide, by decide⟩ ?_
        refine T_callV (as := [aI 2008]) rfl (am_dec tX8_readChoice_0 18 rfl) lkX8_79 (show (hfW w hb sp rb rs hb po (aR rs) ee hh ss uu ((u25).1) pp ((u25).2) rr tt gg aa dd bd ga im)[rs]? = some (cO 6 [aI ((u25).1 0 0), aI ((u25).1 0 1), aR (rs + 1), aR (rs + 2), aR (rs + 3), aR (rs + 4)]) from ((hf_V hl hr) 0 (by decide))) rfl rfl (Nat.le_of_ble_eq_true rfl) (by omega) (am_OutE (m_rput (d := d - 1) (w := hfW w hb sp rb rs hb po (aR rs) ee hh ss uu ((u25).1) pp ((u25).2) rr tt gg aa dd bd ga im) (hf_le hl (by omega)) 2008 hVu25.2.1) (hf_uV hr) (hf_uV hr)) (fun _ => ?_)
        refine T_nmH (W := fun x9 => hfW w hb sp rb rs hb po (aR rs) ee hh ss uu x9 pp ((u25).2) rr tt gg aa dd bd ga im) (v := f_rput ((u25).1) 2008) (fun vv35 hvv35 => ?_)
        have hVvv35 : RvI vv35 := by rw [hvv35]; exact f_rput_I hVu25 _
        refine T_iinc (ls' := [some (aR 53), some (aI dp), some (aI (i + 1))]) (i + 1) (am_dec tX8_readChoice_0 19 rfl) rfl rfl ⟨by omega, by omega⟩ (by decide) rfl ?_
        refine T_goto 7 (am_dec tX8_readChoice_0 20 rfl) rfl ?_
        have e9 : (w_c_readChoice_7 ee fb) (i, vv, kk) = .inl (i + 1, vv35, (u25).2) := (by have s9 := hu17.symm; subst s9; have s9 := hu25.symm; subst s9; have s9 := hvv35.symm; subst s9; exact ((if_neg h11).trans (if_neg h20)))
        simp only [am_wh_l e9] at k9
        exact ih (i + 1) vv35 ((u25).2) (by omega) ⟨⟨hVvv35, hIu25⟩, by omega, by omega⟩ k9
def c_readChoice (ee : am_F) (vv : am_F) (kk : am_F) (fb : am_F → am_F → am_F × am_F) : am_F × am_F := (let u2 : am_F × am_F := fb vv kk; (let vv7 : am_F := (am_wh (w_c_readChoice_7 ee fb) 201 (0, ((u2).1), ((u2).2))).2.1; (let kk7 : am_F := (am_wh (w_c_readChoice_7 ee fb) 201 (0, ((u2).1), ((u2).2))).2.2; (vv7, kk7))))
theorem mc_readChoice {S : am_S} {d u : Nat} {w : AH} {hb sp rb rs : Nat} {po : AV} (hl : 109 ≤ w.length) (hp : hb = 1 ∧ sp = 21 ∨ hb = 21 ∧ sp = 1) (hr : rb = 41 ∧ rs = 46 ∨ rb = 46 ∧ rs = 41) {ee : am_F} {hh : am_F} {ss : am_F} {uu : am_F} {vv : am_F} {pp : am_F} {kk : am_F} {rr : am_F} {tt : am_F} {gg : am_F} {aa : am_F} {dd : am_F} {bd : am_F} {ga : am_F} {im : am_F} (dp : Int) (E : Nat) (fb : am_F → am_F → am_F × am_F) (hP : RdI kk) (hTp : TpI ee) (hV : RvI vv) (hdp : 0 ≤ dp ∧ dp ≤ 6) (hE : E + 1 ≤ d) (hfu : LvC S w hb sp rb rs po ee hh ss uu pp rr tt gg aa dd bd ga im zX8_readBoth E dp fb) (hfi : LvI fb)  (hd : 8 ≤ d) : am_Out S zX8_readChoice d u [aR 53, aI dp] (hfW w hb sp rb rs hb po (aR rs) ee hh ss uu vv pp kk rr tt gg aa dd bd ga im) (.inl none) (hfW w hb sp rb rs hb po (aR rs) ee hh ss uu ((c_readChoice ee vv kk fb).1) pp ((c_readChoice ee vv kk fb).2) rr tt gg aa dd bd ga im) := by
  have key : ∀ Q : AO → AH → Prop, Q (.inl none) (hfW w hb sp rb rs hb po (aR rs) ee hh ss uu ((c_readChoice ee vv kk fb).1) pp ((c_readChoice ee vv kk fb).2) rr tt gg aa dd bd ga im) → am_M S zX8_readChoice d u [aR 53, aI dp] (hfW w hb sp rb rs hb po (aR rs) ee hh ss uu vv pp kk rr tt gg aa dd bd ga im) Q := by
    intro Q hQ
    refine am_body rfl (by decide +kernel) rfl (am_cats_cons rfl ( am_cats_cons rfl (am_cats_nil))) (Nat.le_of_ble_eq_true rfl) (?_ : am_T _ _ _ _ _ 0 [some (aR 53), some (aI dp), none] [] (hfW w hb sp rb rs hb po (aR rs) ee hh ss uu vv pp kk rr tt gg aa dd bd ga im))
    have hP9 := hP
    obtain ⟨⟨vr1, vr2⟩, vr3, vr4, vr5⟩ := hP9
    have hV9 := hV
    obtain ⟨⟨hV1, hV2⟩, hV3, hV4⟩ := hV9
    have hdp9 := hdp
    obtain ⟨hdp1, hdp2⟩ := hdp9
    refine T_aload_n (am_dec tX8_readChoice_0 0 rfl) rfl ?_
    refine T_iload_n (am_dec tX8_readChoice_0 1 rfl) rfl ?_
    refine T_callV (as := [aI dp]) rfl (am_dec tX8_readChoice_0 2 rfl) lkX8_71 (show (hfW w hb sp rb rs hb po (aR rs) ee hh ss uu vv pp kk rr tt gg aa dd bd ga im)[53]? = some (cO 7 [aR 51, aI (kk 0 1), aI (kk 0 2), aI (kk 0 3), aI (kk 0 4), aI (kk 0 5), aR rs]) from (hfW_c hl 53 (by decide))) rfl rfl (Nat.le_of_ble_eq_true rfl) (by omega) (hfu (d - 1) vv kk (by omega) hV hP) (fun _ => ?_)
    obtain ⟨u2, hu2⟩ : ∃ x9, x9 = fb vv kk := ⟨_, rfl⟩
    rw [← hu2]
    obtain ⟨hVu2, hIu2⟩ : RvI u2.1 ∧ RdI u2.2 := by rw [hu2]; exact hfi _ _ hV hP
    refine T_iconst 0 (am_dec tX8_readChoice_0 3 rfl) rfl ⟨by decide, by decide⟩ ?_
    refine T_istore_n (ls' := [some (aR 53), some (aI dp), some (aI 0)]) (am_dec tX8_readChoice_0 4 rfl) (by decide) rfl ?_
    refine L_c_readChoice_7 hl hp hr ee hh ss uu pp rr tt gg aa dd bd ga im dp E fb  hTp hdp hE hfu hfi (by omega) 201 0 ((u2).1) ((u2).2) (by omega) ⟨⟨hVu2, hIu2⟩, by omega, by omega⟩ (fun i_7 vv7 kk7 hi_7 hvv7 hkk7 => ?_)
    exact (am_tr (fun (x9 : am_F × am_F) => Q (.inl none) (hfW w hb sp rb rs hb po (aR rs) ee hh ss uu x9.1 pp x9.2 rr tt gg aa dd bd ga im)) (y := (vv7, kk7)) (show (c_readChoice ee vv kk fb) = (vv7, kk7) from (by have s9 := hu2.symm; subst s9; have s9 := hi_7.symm; subst s9; have s9 := hvv7.symm; subst s9; have s9 := hkk7.symm; subst s9; exact rfl)) hQ)
  exact key _ ⟨rfl, rfl⟩
def c_readTest (ee : am_F) (vv : am_F) (kk : am_F) (dp : Int) (fn : am_F → am_F → am_F × am_F) (fc : am_F → am_F → am_F × am_F) (fs : am_F → am_F → am_F × am_F) : am_F × am_F := (let u3 : Int × am_F := c_takesWord ee kk 15; (let vv6 : am_F := (if (u3).1 = 0 then (let u40 : Int × am_F := c_takesSign ee ((u3).2) 91; (if (u40).1 = 0 then (let u72 : am_F × am_F := fs vv ((u40).2); (let u76 : Int × am_F := c_readRelation ee ((u72).2); (let u82 : am_F × am_F := fs ((u72).1) ((u76).2); f_rput ((u82).1) ((u76).1)))) else (let u48 : Int × am_F := c_mayOpen ((u40).2) dp; (if (u48).1 = 0 then vv else (let u58 : am_F × am_F := fc vv ((u48).2); ((u58).1)))))) else (let u11 : Int × am_F := c_mayOpen ((u3).2) dp; (if (u11).1 = 0 then vv else (let u21 : am_F × am_F := fn vv ((u11).2); f_rput ((u21).1) 2009)))); (let kk6 : am_F := (if (u3).1 = 0 then (let u40 : Int × am_F := c_takesSign ee ((u3).2) 91; (if (u40).1 = 0 then (let u72 : am_F × am_F := fs vv ((u40).2); (let u76 : Int × am_F := c_readRelation ee ((u72).2); (let u82 : am_F × am_F := fs ((u72).1) ((u76).2); ((u82).2)))) else (let u48 : Int × am_F := c_mayOpen ((u40).2) dp; (if (u48).1 = 0 then ((u48).2) else (let u58 : am_F × am_F := fc vv ((u48).2); c_needSign ee ((u58).2) 93))))) else (let u11 : Int × am_F := c_mayOpen ((u3).2) dp; (if (u11).1 = 0 then ((u11).2) else (let u21 : am_F × am_F := fn vv ((u11).2); ((u21).2))))); (vv6, kk6))))
theorem mc_readTest {S : am_S} {d u : Nat} {w : AH} {hb sp rb rs : Nat} {po : AV} (hl : 109 ≤ w.length) (hp : hb = 1 ∧ sp = 21 ∨ hb = 21 ∧ sp = 1) (hr : rb = 41 ∧ rs = 46 ∨ rb = 46 ∧ rs = 41) {ee : am_F} {hh : am_F} {ss : am_F} {uu : am_F} {vv : am_F} {pp : am_F} {kk : am_F} {rr : am_F} {tt : am_F} {gg : am_F} {aa : am_F} {dd : am_F} {bd : am_F} {ga : am_F} {im : am_F} (dp : Int) (E : Nat) (fn : am_F → am_F → am_F × am_F) (fc : am_F → am_F → am_F × am_F) (fs : am_F → am_F → am_F × am_F) (hP : RdI kk) (hTp : TpI ee) (hV : RvI vv) (hdp : 0 ≤ dp ∧ dp ≤ 6) (hE : E + 1 ≤ d) (hfn : dp < 6 → LvC S w hb sp rb rs po ee hh ss uu pp rr tt gg aa dd bd ga im zX8_readTest E (dp + 1) fn) (hfc : dp < 6 → LvC S w hb sp rb rs po ee hh ss uu pp rr tt gg aa dd bd ga im zX8_readChoice E (dp + 1) fc) (hfs : LvC S w hb sp rb rs po ee hh ss uu pp rr tt gg aa dd bd ga im zX8_readSum E dp fs) (hin : LvI fn) (hic : LvI fc) (his : LvI fs)  (hd : 8 ≤ d) : am_Out S zX8_readTest d u [aR 53, aI dp] (hfW w hb sp rb rs hb po (aR rs) ee hh ss uu vv pp kk rr tt gg aa dd bd ga im) (.inl none) (hfW w hb sp rb rs hb po (aR rs) ee hh ss uu ((c_readTest ee vv kk dp fn fc fs).1) pp ((c_readTest ee vv kk dp fn fc fs).2) rr tt gg aa dd bd ga im) := by
  have key : ∀ Q : AO → AH → Prop, Q (.inl none) (hfW w hb sp rb rs hb po (aR rs) ee hh ss uu ((c_readTest ee vv kk dp fn fc fs).1) pp ((c_readTest ee vv kk dp fn fc fs).2) rr tt gg aa dd bd ga im) → am_M S zX8_readTest d u [aR 53, aI dp] (hfW w hb sp rb rs hb po (aR rs) ee hh ss uu vv pp kk rr tt gg aa dd bd ga im) Q := by
    intro Q hQ
    refine am_body rfl (by decide +kernel) rfl (am_cats_cons rfl ( am_cats_cons rfl (am_cats_nil))) (Nat.le_of_ble_eq_true rfl) (?_ : am_T _ _ _ _ _ 0 [some (aR 53), some (aI dp), none] [] (hfW w hb sp rb rs hb po (aR rs) ee hh ss uu vv pp kk rr tt gg aa dd bd ga im))
    have hP9 := hP
    obtain ⟨⟨vr1, vr2⟩, vr3, vr4, vr5⟩ := hP9
    have hV9 := hV
    obtain ⟨⟨hV1, hV2⟩, hV3, hV4⟩ := hV9
    have hdp9 := hdp
    obtain ⟨hdp1, hdp2⟩ := hdp9
    refine T_aload_n (am_dec tX8_readTest_0 0 rfl) rfl ?_
    refine T_ldcS (j := 15) (tx := "not") 15 (am_dec tX8_readTest_0 1 rfl) rfl ?_
    refine T_callU (as := [aX (15 + 2)]) rfl (am_dec tX8_readTest_0 2 rfl) lkX8_76_X8 (show (hfW w hb sp rb rs hb po (aR rs) ee hh ss uu vv pp kk rr tt gg aa dd bd ga im)[53]? = some (cO 7 [aR 51, aI (kk 0 1), aI (kk 0 2), aI (kk 0 3), aI (kk 0 4), aI (kk 0 5), aR rs]) from (hfW_c hl 53 (by decide))) rfl rfl (Nat.le_of_ble_eq_true rfl) (by omega) (md_takesWord (d := d - 1) hl hp hr  15 (by omega) hP hTp (by omega)) (fun _ => ?_)
    obtain ⟨u3, hu3⟩ : ∃ x9, x9 = c_takesWord ee kk 15 := ⟨_, rfl⟩
    rw [← hu3]
    have hxu3 : Rd2 kk u3.2 := by rw [hu3]; exact (Rd2.rf hP).takesWord hTp
    have hIu3 := hxu3.1
    have hgu3 := hIu3
    obtain ⟨⟨yr31, yr32⟩, yr33, yr34, yr35⟩ := hgu3
    have heu3_7 : u3.2 0 7 = kk 0 7 := hxu3.2 0 7 (by decide)
    have heu3_8 : u3.2 0 8 = kk 0 8 := hxu3.2 0 8 (by decide)
    have heu3_9 : u3.2 0 9 = kk 0 9 := hxu3.2 0 9 (by decide)
    have heu3_10 : u3.2 0 10 = kk 0 10 := hxu3.2 0 10 (by decide)
    have hb3 : u3.1 = 0 ∨ u3.1 = 1 := by rw [hu3]; exact c_takesWord_b _ _ _
    have K6 : ∀ (vv6 : am_F), ∀ (kk6 : am_F), vv6 = (if (u3).1 = 0 then (let u40 : Int × am_F := c_takesSign ee ((u3).2) 91; (if (u40).1 = 0 then (let u72 : am_F × am_F := fs vv ((u40).2); (let u76 : Int × am_F := c_readRelation ee ((u72).2); (let u82 : am_F × am_F := fs ((u72).1) ((u76).2); f_rput ((u82).1) ((u76).1)))) else (let u48 : Int × am_F := c_mayOpen ((u40).2) dp; (if (u48).1 = 0 then vv else (let u58 : am_F × am_F := fc vv ((u48).2); ((u58).1)))))) else (let u11 : Int × am_F := c_mayOpen ((u3).2) dp; (if (u11).1 = 0 then vv else (let u21 : am_F × am_F := fn vv ((u11).2); f_rput ((u21).1) 2009)))) → kk6 = (if (u3).1 = 0 then (let u40 : Int × am_F := c_takesSign ee ((u3).2) 91; (if (u40).1 = 0 then (let u72 : am_F × am_F := fs vv ((u40).2); (let u76 : Int × am_F := c_readRelation ee ((u72).2); (let u82 : am_F × am_F := fs ((u72).1) ((u76).2); ((u82).2)))) else (let u48 : Int × am_F := c_mayOpen ((u40).2) dp; (if (u48).1 = 0 then ((u48).2) else (let u58 : am_F × am_F := fc vv ((u48).2); c_needSign ee ((u58).2) 93))))) else (let u11 : Int × am_F := c_mayOpen ((u3).2) dp; (if (u11).1 = 0 then ((u11).2) else (let u21 : am_F × am_F := fn vv ((u11).2); ((u21).2))))) →  am_T S zX8_readTest d u Q 93 [none, none, none] [] (hfW w hb sp rb rs hb po (aR rs) ee hh ss uu vv6 pp kk6 rr tt gg aa dd bd ga im) := by
      intro vv6 kk6 hvv6 hkk6 
      exact T_return (am_dec tX8_readTest_1 8 rfl) rfl (am_tr (fun (x9 : am_F × am_F) => Q (.inl none) (hfW w hb sp rb rs hb po (aR rs) ee hh ss uu x9.1 pp x9.2 rr tt gg aa dd bd ga im)) (y := (vv6, kk6)) (show (c_readTest ee vv kk dp fn fc fs) = (vv6, kk6) from (by have s9 := hu3.symm; subst s9; have s9 := hvv6.symm; subst s9; have s9 := hkk6.symm; subst s9; exact rfl)) hQ)
    refine T_if_eq 37 (am_dec tX8_readTest_0 3 rfl) rfl (fun h6 => ?_) (fun h6 => ?_)
    · refine T_aload_n (am_dec tX8_readTest_0 18 rfl) rfl ?_
      refine T_bipush 91 (am_dec tX8_readTest_0 19 rfl) rfl ⟨by decide, by decide⟩ ?_
      refine T_callU (as := [aI 91]) rfl (am_dec tX8_readTest_0 20 rfl) lkX8_93_X8 (show (hfW w hb sp rb rs hb po (aR rs) ee hh ss uu vv pp ((u3).2) rr tt gg aa dd bd ga im)[53]? = some (cO 7 [aR 51, aI ((u3).2 0 1), aI ((u3).2 0 2), aI ((u3).2 0 3), aI ((u3).2 0 4), aI ((u3).2 0 5), aR rs]) from (hfW_c hl 53 (by decide))) rfl rfl (Nat.le_of_ble_eq_true rfl) (by omega) (md_takesSign (d := d - 1) hl hp hr 91  (by omega) hIu3 hTp (by omega)) (fun _ => ?_)
      obtain ⟨u40, hu40⟩ : ∃ x9, x9 = c_takesSign ee ((u3).2) 91 := ⟨_, rfl⟩
      rw [← hu40]
      have hxu40 : Rd2 ((u3).2) u40.2 := by rw [hu40]; exact (Rd2.rf hIu3).takesSign hTp (by omega)
      have hIu40 := hxu40.1
      have hgu40 := hIu40
      obtain ⟨⟨yr401, yr402⟩, yr403, yr404, yr405⟩ := hgu40
      have heu40_7 : u40.2 0 7 = (u3).2 0 7 := hxu40.2 0 7 (by decide)
      have heu40_8 : u40.2 0 8 = (u3).2 0 8 := hxu40.2 0 8 (by decide)
      have heu40_9 : u40.2 0 9 = (u3).2 0 9 := hxu40.2 0 9 (by decide)
      have heu40_10 : u40.2 0 10 = (u3).2 0 10 := hxu40.2 0 10 (by decide)
      have hb40 : u40.1 = 0 ∨ u40.1 = 1 := by rw [hu40]; exact c_takesSign_b _ _ _
      have K43 : ∀ (vv43 : am_F), ∀ (kk43 : am_F), vv43 = (if (u40).1 = 0 then (let u72 : am_F × am_F := fs vv ((u40).2); (let u76 : Int × am_F := c_readRelation ee ((u72).2); (let u82 : am_F × am_F := fs ((u72).1) ((u76).2); f_rput ((u82).1) ((u76).1)))) else (let u48 : Int × am_F := c_mayOpen ((u40).2) dp; (if (u48).1 = 0 then vv else (let u58 : am_F × am_F := fc vv ((u48).2); ((u58).1))))) → kk43 = (if (u40).1 = 0 then (let u72 : am_F × am_F := fs vv ((u40).2); (let u76 : Int × am_F := c_readRelation ee ((u72).2); (let u82 : am_F × am_F := fs ((u72).1) ((u76).2); ((u82).2)))) else (let u48 : Int × am_F := c_mayOpen ((u40).2) dp; (if (u48).1 = 0 then ((u48).2) else (let u58 : am_F × am_F := fc vv ((u48).2); c_needSign ee ((u58).2) 93)))) →  am_T S zX8_readTest d u Q 93 [none, none, none] [] (hfW w hb sp rb rs hb po (aR rs) ee hh ss uu vv43 pp kk43 rr tt gg aa dd bd ga im) := by
        intro vv43 kk43 hvv43 hkk43 
        exact K6 _ _ (by have s9 := hu40.symm; subst s9; have s9 := hvv43.symm; subst s9; have s9 := hkk43.symm; subst s9; exact (if_pos h6).symm) (by have s9 := hu40.symm; subst s9; have s9 := hvv43.symm; subst s9; have s9 := hkk43.symm; subst s9; exact (if_pos h6).symm) 
      refine T_if_eq 70 (am_dec tX8_readTest_0 21 rfl) rfl (fun h43 => ?_) (fun h43 => ?_)
      · refine T_aload_n (am_dec tX8_readTest_0 35 rfl) rfl ?_
        refine T_iload_n (am_dec tX8_readTest_0 36 rfl) rfl ?_
        refine T_callV (as := [aI dp]) rfl (am_dec tX8_readTest_0 37 rfl) lkX8_50 (show (hfW w hb sp rb rs hb po (aR rs) ee hh ss uu vv pp ((u40).2) rr tt gg aa dd bd ga im)[53]? = some (cO 7 [aR 51, aI ((u40).2 0 1), aI ((u40).2 0 2), aI ((u40).2 0 3), aI ((u40).2 0 4), aI ((u40).2 0 5), aR rs]) from (hfW_c hl 53 (by decide))) rfl rfl (Nat.le_of_ble_eq_true rfl) (by omega) (hfs (d - 1) vv ((u40).2) (by omega) hV hIu40) (fun _ => ?_)
        obtain ⟨u72, hu72⟩ : ∃ x9, x9 = fs vv ((u40).2) := ⟨_, rfl⟩
        rw [← hu72]
        obtain ⟨hVu72, hIu72⟩ : RvI u72.1 ∧ RdI u72.2 := by rw [hu72]; exact his _ _ hV hIu40
        refine T_aload_n (am_dec tX8_readTest_0 38 rfl) rfl ?_
        refine T_callV (as := []) rfl (am_dec tX8_readTest_0 39 rfl) lkX8_96 (show (hfW w hb sp rb rs hb po (aR rs) ee hh ss uu ((u72).1) pp ((u72).2) rr tt gg aa dd bd ga im)[53]? = some (cO 7 [aR 51, aI ((u72).2 0 1), aI ((u72).2 0 2), aI ((u72).2 0 3), aI ((u72).2 0 4), aI ((u72).2 0 5), aR rs]) from (hfW_c hl 53 (by decide))) rfl rfl (Nat.le_of_ble_eq_true rfl) (by omega) (mc_readRelation (d := d - 1) hl hp hr   hIu72 hTp (by omega)) (fun _ => ?_)
        obtain ⟨u76, hu76⟩ : ∃ x9, x9 = c_readRelation ee ((u72).2) := ⟨_, rfl⟩
        rw [← hu76]
        have hIu76 : RdI u76.2 := by rw [hu76]; exact c_readRelation_x hIu72 hTp
        have hb76 : 2004 ≤ u76.1 ∧ u76.1 ≤ 2006 := by rw [hu76]; exact c_readRelation_b _ _
        refine T_istore_n (ls' := [some (aR 53), some (aI dp), some (aI ((u76).1))]) (am_dec tX8_readTest_1 0 rfl) (by decide) rfl ?_
        refine T_aload_n (am_dec tX8_readTest_1 1 rfl) rfl ?_
        refine T_iload_n (am_dec tX8_readTest_1 2 rfl) rfl ?_
        refine T_callV (as := [aI dp]) rfl (am_dec tX8_readTest_1 3 rfl) lkX8_50 (show (hfW w hb sp rb rs hb po (aR rs) ee hh ss uu ((u72).1) pp ((u76).2) rr tt gg aa dd bd ga im)[53]? = some (cO 7 [aR 51, aI ((u76).2 0 1), aI ((u76).2 0 2), aI ((u76).2 0 3), aI ((u76).2 0 4), aI ((u76).2 0 5), aR rs]) from (hfW_c hl 53 (by decide))) rfl rfl (Nat.le_of_ble_eq_true rfl) (by omega) (hfs (d - 1) ((u72).1) ((u76).2) (by omega) hVu72 hIu76) (fun _ => ?_)
        obtain ⟨u82, hu82⟩ : ∃ x9, x9 = fs ((u72).1) ((u76).2) := ⟨_, rfl⟩
        rw [← hu82]
        obtain ⟨hVu82, hIu82⟩ : RvI u82.1 ∧ RdI u82.2 := by rw [hu82]; exact his _ _ hVu72 hIu76
        refine T_aload_n (am_dec tX8_readTest_1 4 rfl) rfl ?_
        refine T_getfield 7 6 (am_dec tX8_readTest_1 5 rfl) flX8_9_7 (show (hfW w hb sp rb rs hb po (aR rs) ee hh ss uu ((u82).1) pp ((u82).2) rr tt gg aa dd bd ga im)[53]? = some (cO 7 [aR 51, aI ((u82).2 0 1), aI ((u82).2 0 2), aI ((u82).2 0 3), aI ((u82).2 0 4), aI ((u82).2 0 5), aR rs]) from (hfW_c hl 53 (by decide))) rfl ?_
        refine T_iload_n (am_dec tX8_readTest_1 6 rfl) rfl ?_
        refine T_callV (as := [aI ((u76).1)]) rfl (am_dec tX8_readTest_1 7 rfl) lkX8_79 (show (hfW w hb sp rb rs hb po (aR rs) ee hh ss uu ((u82).1) pp ((u82).2) rr tt gg aa dd bd ga im)[rs]? = some (cO 6 [aI ((u82).1 0 0), aI ((u82).1 0 1), aR (rs + 1), aR (rs + 2), aR (rs + 3), aR (rs + 4)]) from ((hf_V hl hr) 0 (by decide))) rfl rfl (Nat.le_of_ble_eq_true rfl) (by omega) (am_OutE (m_rput (d := d - 1) (w := hfW w hb sp rb rs hb po (aR rs) ee hh ss uu ((u82).1) pp ((u82).2) rr tt gg aa dd bd ga im) (hf_le hl (by omega)) ((u76).1) hVu82.2.1) (hf_uV hr) (hf_uV hr)) (fun _ => ?_)
        refine T_nmH (W := fun x9 => hfW w hb sp rb rs hb po (aR rs) ee hh ss uu x9 pp ((u82).2) rr tt gg aa dd bd ga im) (v := f_rput ((u82).1) ((u76).1)) (fun vv90 hvv90 => ?_)
        have hVvv90 : RvI vv90 := by rw [hvv90]; exact f_rput_I hVu82 _
        refine T_weak (ls' := [none, none, none]) (am_sub_n (am_sub_n (am_sub_n am_sub_nil))) ?_
        exact K43 _ _ (by have s9 := hu72.symm; subst s9; have s9 := hu76.symm; subst s9; have s9 := hu82.symm; subst s9; have s9 := hvv90.symm; subst s9; exact (if_pos h43).symm) (by have s9 := hu72.symm; subst s9; have s9 := hu76.symm; subst s9; have s9 := hu82.symm; subst s9; have s9 := hvv90.symm; subst s9; exact (if_pos h43).symm) 
      · refine T_aload_n (am_dec tX8_readTest_0 22 rfl) rfl ?_
        refine T_iload_n (am_dec tX8_readTest_0 23 rfl) rfl ?_
        refine T_callV (as := [aI dp]) rfl (am_dec tX8_readTest_0 24 rfl) lkX8_89 (show (hfW w hb sp rb rs hb po (aR rs) ee hh ss uu vv pp ((u40).2) rr tt gg aa dd bd ga im)[53]? = some (cO 7 [aR 51, aI ((u40).2 0 1), aI ((u40).2 0 2), aI ((u40).2 0 3), aI ((u40).2 0 4), aI ((u40).2 0 5), aR rs]) from (hfW_c hl 53 (by decide))) rfl rfl (Nat.le_of_ble_eq_true rfl) (by omega) (mc_mayOpen (d := d - 1) hl hp hr dp  hIu40 hTp (by omega)) (fun _ => ?_)
        obtain ⟨u48, hu48⟩ : ∃ x9, x9 = c_mayOpen ((u40).2) dp := ⟨_, rfl⟩
        rw [← hu48]
        have hb48 := c_mayOpen_b ((u40).2) dp
        rw [← hu48] at hb48
        have hIu48 : RdI u48.2 := by rw [hu48]; exact c_mayOpen_x hIu40 _
        have hlt48 : u48.1 = 0 ∨ dp < 6 := by rw [hu48]; exact c_mayOpen_6 _ _
        have K51 : ∀ (vv51 : am_F), ∀ (kk51 : am_F), vv51 = (if (u48).1 = 0 then vv else (let u58 : am_F × am_F := fc vv ((u48).2); ((u58).1))) → kk51 = (if (u48).1 = 0 then ((u48).2) else (let u58 : am_F × am_F := fc vv ((u48).2); c_needSign ee ((u58).2) 93)) →  am_T S zX8_readTest d u Q 93 [none, none, none] [] (hfW w hb sp rb rs hb po (aR rs) ee hh ss uu vv51 pp kk51 rr tt gg aa dd bd ga im) := by
          intro vv51 kk51 hvv51 hkk51 
          exact K43 _ _ (by have s9 := hu48.symm; subst s9; have s9 := hvv51.symm; subst s9; have s9 := hkk51.symm; subst s9; exact (if_neg h43).symm) (by have s9 := hu48.symm; subst s9; have s9 := hvv51.symm; subst s9; have s9 := hkk51.symm; subst s9; exact (if_neg h43).symm) 
        refine T_if_eq 93 (am_dec tX8_readTest_0 25 rfl) rfl (fun h51 => ?_) (fun h51 => ?_)
        · refine T_weak (ls' := [none, none, none]) (am_sub_n (am_sub_n (am_sub_n am_sub_nil))) ?_
          exact K51 _ _ (if_pos h51).symm (if_pos h51).symm 
        · refine T_aload_n (am_dec tX8_readTest_0 26 rfl) rfl ?_
          refine T_iload_n (am_dec tX8_readTest_0 27 rfl) rfl ?_
          refine T_iconst 1 (am_dec tX8_readTest_0 28 rfl) rfl ⟨by decide, by decide⟩ ?_
          refine T_iadd (dp + 1) (am_dec tX8_readTest_0 29 rfl) rfl ⟨by omega, by omega⟩ ?_
          refine T_callV (as := [aI (dp + 1)]) rfl (am_dec tX8_readTest_0 30 rfl) lkX8_47 (show (hfW w hb sp rb rs hb po (aR rs) ee hh ss uu vv pp ((u48).2) rr tt gg aa dd bd ga im)[53]? = some (cO 7 [aR 51, aI ((u48).2 0 1), aI ((u48).2 0 2), aI ((u48).2 0 3), aI ((u48).2 0 4), aI ((u48).2 0 5), aR rs]) from (hfW_c hl 53 (by decide))) rfl rfl (Nat.le_of_ble_eq_true rfl) (by omega) ((hfc (by omega)) (d - 1) vv ((u48).2) (by omega) hV hIu48) (fun _ => ?_)
          obtain ⟨u58, hu58⟩ : ∃ x9, x9 = fc vv ((u48).2) := ⟨_, rfl⟩
          rw [← hu58]
          obtain ⟨hVu58, hIu58⟩ : RvI u58.1 ∧ RdI u58.2 := by rw [hu58]; exact hic _ _ hV hIu48
          refine T_aload_n (am_dec tX8_readTest_0 31 rfl) rfl ?_
          refine T_bipush 93 (am_dec tX8_readTest_0 32 rfl) rfl ⟨by decide, by decide⟩ ?_
          refine T_callU (as := [aI 93]) rfl (am_dec tX8_readTest_0 33 rfl) lkX8_53_X8 (show (hfW w hb sp rb rs hb po (aR rs) ee hh ss uu ((u58).1) pp ((u58).2) rr tt gg aa dd bd ga im)[53]? = some (cO 7 [aR 51, aI ((u58).2 0 1), aI ((u58).2 0 2), aI ((u58).2 0 3), aI ((u58).2 0 4), aI ((u58).2 0 5), aR rs]) from (hfW_c hl 53 (by decide))) rfl rfl (Nat.le_of_ble_eq_true rfl) (by omega) (md_needSign (d := d - 1) hl hp hr 93  (by omega) hIu58 hTp (by omega)) (fun _ => ?_)
          refine T_nmH (W := fun x9 => hfW w hb sp rb rs hb po (aR rs) ee hh ss uu ((u58).1) pp x9 rr tt gg aa dd bd ga im) (v := c_needSign ee ((u58).2) 93) (fun kk64 hkk64 => ?_)
          have hxkk64 : Rd2 ((u58).2) kk64 := by rw [hkk64]; exact (Rd2.rf hIu58).needSign hTp (by omega)
          have hIkk64 := hxkk64.1
          have hekk64_7 : kk64 0 7 = (u58).2 0 7 := hxkk64.2 0 7 (by decide)
          have hekk64_8 : kk64 0 8 = (u58).2 0 8 := hxkk64.2 0 8 (by decide)
          have hekk64_9 : kk64 0 9 = (u58).2 0 9 := hxkk64.2 0 9 (by decide)
          have hekk64_10 : kk64 0 10 = (u58).2 0 10 := hxkk64.2 0 10 (by decide)
          refine T_goto 93 (am_dec tX8_readTest_0 34 rfl) rfl ?_
          refine T_weak (ls' := [none, none, none]) (am_sub_n (am_sub_n (am_sub_n am_sub_nil))) ?_
          exact K51 _ _ (by have s9 := hu58.symm; subst s9; have s9 := hkk64.symm; subst s9; exact (if_neg h51).symm) (by have s9 := hu58.symm; subst s9; have s9 := hkk64.symm; subst s9; exact (if_neg h51).symm) 
    · refine T_aload_n (am_dec tX8_readTest_0 4 rfl) rfl ?_
      refine T_iload_n (am_dec tX8_readTest_0 5 rfl) rfl ?_
      refine T_callV (as := [aI dp]) rfl (am_dec tX8_readTest_0 6 rfl) lkX8_89 (show (hfW w hb sp rb rs hb po (aR rs) ee hh ss uu vv pp ((u3).2) rr tt gg aa dd bd ga im)[53]? = some (cO 7 [aR 51, aI ((u3).2 0 1), aI ((u3).2 0 2), aI ((u3).2 0 3), aI ((u3).2 0 4), aI ((u3).2 0 5), aR rs]) from (hfW_c hl 53 (by decide))) rfl rfl (Nat.le_of_ble_eq_true rfl) (by omega) (mc_mayOpen (d := d - 1) hl hp hr dp  hIu3 hTp (by omega)) (fun _ => ?_)
      obtain ⟨u11, hu11⟩ : ∃ x9, x9 = c_mayOpen ((u3).2) dp := ⟨_, rfl⟩
      rw [← hu11]
      have hb11 := c_mayOpen_b ((u3).2) dp
      rw [← hu11] at hb11
      have hIu11 : RdI u11.2 := by rw [hu11]; exact c_mayOpen_x hIu3 _
      have hlt11 : u11.1 = 0 ∨ dp < 6 := by rw [hu11]; exact c_mayOpen_6 _ _
      have K14 : ∀ (vv14 : am_F), ∀ (kk14 : am_F), vv14 = (if (u11).1 = 0 then vv else (let u21 : am_F × am_F := fn vv ((u11).2); f_rput ((u21).1) 2009)) → kk14 = (if (u11).1 = 0 then ((u11).2) else (let u21 : am_F × am_F := fn vv ((u11).2); ((u21).2))) →  am_T S zX8_readTest d u Q 93 [none, none, none] [] (hfW w hb sp rb rs hb po (aR rs) ee hh ss uu vv14 pp kk14 rr tt gg aa dd bd ga im) := by
        intro vv14 kk14 hvv14 hkk14 
        exact K6 _ _ (by have s9 := hu11.symm; subst s9; have s9 := hvv14.symm; subst s9; have s9 := hkk14.symm; subst s9; exact (if_neg h6).symm) (by have s9 := hu11.symm; subst s9; have s9 := hvv14.symm; subst s9; have s9 := hkk14.symm; subst s9; exact (if_neg h6).symm) 
      refine T_if_eq 93 (am_dec tX8_readTest_0 7 rfl) rfl (fun h14 => ?_) (fun h14 => ?_)
      · refine T_weak (ls' := [none, none, none]) (am_sub_n (am_sub_n (am_sub_n am_sub_nil))) ?_
        exact K14 _ _ (if_pos h14).symm (if_pos h14).symm 
      · refine T_aload_n (am_dec tX8_readTest_0 8 rfl) rfl ?_
        refine T_iload_n (am_dec tX8_readTest_0 9 rfl) rfl ?_
        refine T_iconst 1 (am_dec tX8_readTest_0 10 rfl) rfl ⟨by decide, by decide⟩ ?_
        refine T_iadd (dp + 1) (am_dec tX8_readTest_0 11 rfl) rfl ⟨by omega, by omega⟩ ?_
        refine T_callV (as := [aI (dp + 1)]) rfl (am_dec tX8_readTest_0 12 rfl) lkX8_82 (show (hfW w hb sp rb rs hb po (aR rs) ee hh ss uu vv pp ((u11).2) rr tt gg aa dd bd ga im)[53]? = some (cO 7 [aR 51, aI ((u11).2 0 1), aI ((u11).2 0 2), aI ((u11).2 0 3), aI ((u11).2 0 4), aI ((u11).2 0 5), aR rs]) from (hfW_c hl 53 (by decide))) rfl rfl (Nat.le_of_ble_eq_true rfl) (by omega) ((hfn (by omega)) (d - 1) vv ((u11).2) (by omega) hV hIu11) (fun _ => ?_)
        obtain ⟨u21, hu21⟩ : ∃ x9, x9 = fn vv ((u11).2) := ⟨_, rfl⟩
        rw [← hu21]
        obtain ⟨hVu21, hIu21⟩ : RvI u21.1 ∧ RdI u21.2 := by rw [hu21]; exact hin _ _ hV hIu11
        refine T_aload_n (am_dec tX8_readTest_0 13 rfl) rfl ?_
        refine T_getfield 7 6 (am_dec tX8_readTest_0 14 rfl) flX8_9_7 (show (hfW w hb sp rb rs hb po (aR rs) ee hh ss uu ((u21).1) pp ((u21).2) rr tt gg aa dd bd ga im)[53]? = some (cO 7 [aR 51, aI ((u21).2 0 1), aI ((u21).2 0 2), aI ((u21).2 0 3), aI ((u21).2 0 4), aI ((u21).2 0 5), aR rs]) from (hfW_c hl 53 (by decide))) rfl ?_
        refine T_sipush 2009 (am_dec tX8_readTest_0 15 rfl) rfl ⟨by decide, by decide⟩ ?_
        refine T_callV (as := [aI 2009]) rfl (am_dec tX8_readTest_0 16 rfl) lkX8_79 (show (hfW w hb sp rb rs hb po (aR rs) ee hh ss uu ((u21).1) pp ((u21).2) rr tt gg aa dd bd ga im)[rs]? = some (cO 6 [aI ((u21).1 0 0), aI ((u21).1 0 1), aR (rs + 1), aR (rs + 2), aR (rs + 3), aR (rs + 4)]) from ((hf_V hl hr) 0 (by decide))) rfl rfl (Nat.le_of_ble_eq_true rfl) (by omega) (am_OutE (m_rput (d := d - 1) (w := hfW w hb sp rb rs hb po (aR rs) ee hh ss uu ((u21).1) pp ((u21).2) rr tt gg aa dd bd ga im) (hf_le hl (by omega)) 2009 hVu21.2.1) (hf_uV hr) (hf_uV hr)) (fun _ => ?_)
        refine T_nmH (W := fun x9 => hfW w hb sp rb rs hb po (aR rs) ee hh ss uu x9 pp ((u21).2) rr tt gg aa dd bd ga im) (v := f_rput ((u21).1) 2009) (fun vv31 hvv31 => ?_)
        have hVvv31 : RvI vv31 := by rw [hvv31]; exact f_rput_I hVu21 _
        refine T_goto 93 (am_dec tX8_readTest_0 17 rfl) rfl ?_
        refine T_weak (ls' := [none, none, none]) (am_sub_n (am_sub_n (am_sub_n am_sub_nil))) ?_
        exact K14 _ _ (by have s9 := hu21.symm; subst s9; have s9 := hvv31.symm; subst s9; exact (if_neg h14).symm) (by have s9 := hu21.symm; subst s9; have s9 := hvv31.symm; subst s9; exact (if_neg h14).symm) 
  exact key _ ⟨rfl, rfl⟩
