/-! the rule reader: what is open within what is open -/
def LvC (S : am_S) (w : AH) (hb sp rb rs : Nat) (po : AV) (ee hh ss uu pp rr tt gg aa dd bd ga im : am_F) (z : am_Z) (E : Nat) (dp : Int) (F : am_F → am_F → am_F × am_F) : Prop := ∀ (d' : Nat) (v k : am_F), E ≤ d' → RvI v → RdI k → am_Out S z d' 0 [aR 53, aI dp] (hfW w hb sp rb rs hb po (aR rs) ee hh ss uu v pp k rr tt gg aa dd bd ga im) (.inl none) (hfW w hb sp rb rs hb po (aR rs) ee hh ss uu (F v k).1 pp (F v k).2 rr tt gg aa dd bd ga im)
def LvI (F : am_F → am_F → am_F × am_F) : Prop := ∀ v k, RvI v → RdI k → RvI (F v k).1 ∧ RdI (F v k).2
def c_readUnit (ee : am_F) (vv : am_F) (kk : am_F) (dp : Int) (fs : am_F → am_F → am_F × am_F) : am_F × am_F := (let u3 : Int × am_F := c_takesSign ee kk 40; (let vv6 : am_F := (if (u3).1 = 0 then (let u34 : Int × am_F := c_peek ee ((u3).2); (let z37 : Int := (c_isDigit ((u34).1)); (if z37 = 0 then (let u62 : Int × am_F := c_word ee ((u34).2); (let v2_70 : Int := (c_readFact ee ((u62).2)); f_rput vv (1000 + v2_70))) else (let u52 : Int × am_F := c_number ee ((u34).2) 0 999; f_rput vv ((u52).1))))) else (let u11 : Int × am_F := c_mayOpen ((u3).2) dp; (if (u11).1 = 0 then vv else (let u21 : am_F × am_F := fs vv ((u11).2); ((u21).1))))); (let kk6 : am_F := (if (u3).1 = 0 then (let u34 : Int × am_F := c_peek ee ((u3).2); (let z37 : Int := (c_isDigit ((u34).1)); (if z37 = 0 then (let u62 : Int × am_F := c_word ee ((u34).2); (let v2_70 : Int := (c_readFact ee ((u62).2)); (if v2_70 = (-1) then c_wrong ((u62).2) 1 ((u62).2 0 3) else ((u62).2)))) else (let u52 : Int × am_F := c_number ee ((u34).2) 0 999; ((u52).2))))) else (let u11 : Int × am_F := c_mayOpen ((u3).2) dp; (if (u11).1 = 0 then ((u11).2) else (let u21 : am_F × am_F := fs vv ((u11).2); c_needSign ee ((u21).2) 41)))); (vv6, kk6))))
theorem mc_readUnit {S : am_S} {d u : Nat} {w : AH} {hb sp rb rs : Nat} {po : AV} (hl : 109 ≤ w.length) (hp : hb = 1 ∧ sp = 21 ∨ hb = 21 ∧ sp = 1) (hr : rb = 41 ∧ rs = 46 ∨ rb = 46 ∧ rs = 41) {ee : am_F} {hh : am_F} {ss : am_F} {uu : am_F} {vv : am_F} {pp : am_F} {kk : am_F} {rr : am_F} {tt : am_F} {gg : am_F} {aa : am_F} {dd : am_F} {bd : am_F} {ga : am_F} {im : am_F} (dp : Int) (E : Nat) (fs : am_F → am_F → am_F × am_F) (hP : RdI kk) (hTp : TpI ee) (hV : RvI vv) (hdp : 0 ≤ dp ∧ dp ≤ 6) (hE : E + 1 ≤ d) (hfs : dp < 6 → LvC S w hb sp rb rs po ee hh ss uu pp rr tt gg aa dd bd ga im zX8_readSum E (dp + 1) fs) (hfi : LvI fs)  (hd : 8 ≤ d) : am_Out S zX8_readUnit d u [aR 53, aI dp] (hfW w hb sp rb rs hb po (aR rs) ee hh ss uu vv pp kk rr tt gg aa dd bd ga im) (.inl none) (hfW w hb sp rb rs hb po (aR rs) ee hh ss uu ((c_readUnit ee vv kk dp fs).1) pp ((c_readUnit ee vv kk dp fs).2) rr tt gg aa dd bd ga im) := by
  have key : ∀ Q : AO → AH → Prop, Q (.inl none) (hfW w hb sp rb rs hb po (aR rs) ee hh ss uu ((c_readUnit ee vv kk dp fs).1) pp ((c_readUnit ee vv kk dp fs).2) rr tt gg aa dd bd ga im) → am_M S zX8_readUnit d u [aR 53, aI dp] (hfW w hb sp rb rs hb po (aR rs) ee hh ss uu vv pp kk rr tt gg aa dd bd ga im) Q := by
    intro Q hQ
    refine am_body rfl (by decide +kernel) rfl (am_cats_cons rfl ( am_cats_cons rfl (am_cats_nil))) (Nat.le_of_ble_eq_true rfl) (?_ : am_T _ _ _ _ _ 0 [some (aR 53), some (aI dp), none] [] (hfW w hb sp rb rs hb po (aR rs) ee hh ss uu vv pp kk rr tt gg aa dd bd ga im))
    have hP9 := hP
    obtain ⟨⟨vr1, vr2⟩, vr3, vr4, vr5⟩ := hP9
    have hV9 := hV
    obtain ⟨⟨hV1, hV2⟩, hV3, hV4⟩ := hV9
    obtain ⟨hdp1, hdp2⟩ := hdp
    refine T_aload_n (am_dec tX8_readUnit_0 0 rfl) rfl ?_
    refine T_bipush 40 (am_dec tX8_readUnit_0 1 rfl) rfl ⟨by decide, by decide⟩ ?_
    refine T_callU (as := [aI 40]) rfl (am_dec tX8_readUnit_0 2 rfl) lkX8_93_X8 (show (hfW w hb sp rb rs hb po (aR rs) ee hh ss uu vv pp kk rr tt gg aa dd bd ga im)[53]? = some (cO 7 [aR 51, aI (kk 0 1), aI (kk 0 2), aI (kk 0 3), aI (kk 0 4), aI (kk 0 5), aR rs]) from (hfW_c hl 53 (by decide))) rfl rfl (Nat.le_of_ble_eq_true rfl) (by omega) (md_takesSign (d := d - 1) hl hp hr 40  (by omega) hP hTp (by omega)) (fun _ => ?_)
    obtain ⟨u3, hu3⟩ : ∃ x9, x9 = c_takesSign ee kk 40 := ⟨_, rfl⟩
    rw [← hu3]
    have hxu3 : Rd2 kk u3.2 := by rw [hu3]; exact (Rd2.rf hP).takesSign hTp (by omega)
    have hIu3 := hxu3.1
    have hgu3 := hIu3
    obtain ⟨⟨yr31, yr32⟩, yr33, yr34, yr35⟩ := hgu3
    have heu3_7 : u3.2 0 7 = kk 0 7 := hxu3.2 0 7 (by decide)
    have heu3_8 : u3.2 0 8 = kk 0 8 := hxu3.2 0 8 (by decide)
    have heu3_9 : u3.2 0 9 = kk 0 9 := hxu3.2 0 9 (by decide)
    have heu3_10 : u3.2 0 10 = kk 0 10 := hxu3.2 0 10 (by decide)
    have hb3 : u3.1 = 0 ∨ u3.1 = 1 := by rw [hu3]; exact c_takesSign_b _ _ _
    have K6 : ∀ (vv6 : am_F), ∀ (kk6 : am_F), vv6 = (if (u3).1 = 0 then (let u34 : Int × am_F := c_peek ee ((u3).2); (let z37 : Int := (c_isDigit ((u34).1)); (if z37 = 0 then (let u62 : Int × am_F := c_word ee ((u34).2); (let v2_70 : Int := (c_readFact ee ((u62).2)); f_rput vv (1000 + v2_70))) else (let u52 : Int × am_F := c_number ee ((u34).2) 0 999; f_rput vv ((u52).1))))) else (let u11 : Int × am_F := c_mayOpen ((u3).2) dp; (if (u11).1 = 0 then vv else (let u21 : am_F × am_F := fs vv ((u11).2); ((u21).1))))) → kk6 = (if (u3).1 = 0 then (let u34 : Int × am_F := c_peek ee ((u3).2); (let z37 : Int := (c_isDigit ((u34).1)); (if z37 = 0 then (let u62 : Int × am_F := c_word ee ((u34).2); (let v2_70 : Int := (c_readFact ee ((u62).2)); (if v2_70 = (-1) then c_wrong ((u62).2) 1 ((u62).2 0 3) else ((u62).2)))) else (let u52 : Int × am_F := c_number ee ((u34).2) 0 999; ((u52).2))))) else (let u11 : Int × am_F := c_mayOpen ((u3).2) dp; (if (u11).1 = 0 then ((u11).2) else (let u21 : am_F × am_F := fs vv ((u11).2); c_needSign ee ((u21).2) 41)))) →  am_T S zX8_readUnit d u Q 97 [none, none, none] [] (hfW w hb sp rb rs hb po (aR rs) ee hh ss uu vv6 pp kk6 rr tt gg aa dd bd ga im) := by
      intro vv6 kk6 hvv6 hkk6 
      exact T_return (am_dec tX8_readUnit_1 9 rfl) rfl (am_tr (fun (x9 : am_F × am_F) => Q (.inl none) (hfW w hb sp rb rs hb po (aR rs) ee hh ss uu x9.1 pp x9.2 rr tt gg aa dd bd ga im)) (y := (vv6, kk6)) (show (c_readUnit ee vv kk dp fs) = (vv6, kk6) from (by have s9 := hu3.symm; subst s9; have s9 := hvv6.symm; subst s9; have s9 := hkk6.symm; subst s9; exact rfl)) hQ)
    refine T_if_eq 33 (am_dec tX8_readUnit_0 3 rfl) rfl (fun h6 => ?_) (fun h6 => ?_)
    · refine T_aload_n (am_dec tX8_readUnit_0 17 rfl) rfl ?_
      refine T_callU (as := []) rfl (am_dec tX8_readUnit_0 18 rfl) lkX8_25_X8 (show (hfW w hb sp rb rs hb po (aR rs) ee hh ss uu vv pp ((u3).2) rr tt gg aa dd bd ga im)[53]? = some (cO 7 [aR 51, aI ((u3).2 0 1), aI ((u3).2 0 2), aI ((u3).2 0 3), aI ((u3).2 0 4), aI ((u3).2 0 5), aR rs]) from (hfW_c hl 53 (by decide))) rfl rfl (Nat.le_of_ble_eq_true rfl) (by omega) (md_peek (d := d - 1) hl hp hr   hIu3 hTp (by omega)) (fun _ => ?_)
      obtain ⟨u34, hu34⟩ : ∃ x9, x9 = c_peek ee ((u3).2) := ⟨_, rfl⟩
      rw [← hu34]
      obtain ⟨hIu34, hvu34, hwu34, hfu34⟩ : RdI u34.2 ∧ (-1 ≤ u34.1 ∧ u34.1 ≤ 255) ∧ (u34.1 = -1 ∨ u34.2 0 2 < u34.2 0 1) ∧ ∀ k j, ¬ (k = 0 ∧ j = 2) → u34.2 k j = ((u3).2) k j := by rw [hu34]; exact c_peek_x hIu3 hTp
      have hgu34 := hIu34
      obtain ⟨⟨yr341, yr342⟩, yr343, yr344, yr345⟩ := hgu34
      refine T_callSU (as := [aI ((u34).1)]) rfl (am_dec tX8_readUnit_0 19 rfl) lkX8_105 rfl (Nat.le_of_ble_eq_true rfl) (by omega) (mc_isDigit (d := d - 1) hl hp hr ((u34).1)   (by omega)) (fun _ => ?_)
      refine T_nm (fun z37 hz37 => ?_)
      have hb37 := c_isDigit_x ((u34).1)
      rw [← hz37] at hb37
      have K40 : ∀ (vv40 : am_F), ∀ (kk40 : am_F), vv40 = (if z37 = 0 then (let u62 : Int × am_F := c_word ee ((u34).2); (let v2_70 : Int := (c_readFact ee ((u62).2)); f_rput vv (1000 + v2_70))) else (let u52 : Int × am_F := c_number ee ((u34).2) 0 999; f_rput vv ((u52).1))) → kk40 = (if z37 = 0 then (let u62 : Int × am_F := c_word ee ((u34).2); (let v2_70 : Int := (c_readFact ee ((u62).2)); (if v2_70 = (-1) then c_wrong ((u62).2) 1 ((u62).2 0 3) else ((u62).2)))) else (let u52 : Int × am_F := c_number ee ((u34).2) 0 999; ((u52).2))) →  am_T S zX8_readUnit d u Q 97 [none, none, none] [] (hfW w hb sp rb rs hb po (aR rs) ee hh ss uu vv40 pp kk40 rr tt gg aa dd bd ga im) := by
        intro vv40 kk40 hvv40 hkk40 
        exact K6 _ _ (by have s9 := hu34.symm; subst s9; have s9 := hz37.symm; subst s9; have s9 := hvv40.symm; subst s9; have s9 := hkk40.symm; subst s9; exact (if_pos h6).symm) (by have s9 := hu34.symm; subst s9; have s9 := hz37.symm; subst s9; have s9 := hvv40.symm; subst s9; have s9 := hkk40.symm; subst s9; exact (if_pos h6).symm) 
      refine T_if_eq 61 (am_dec tX8_readUnit_0 20 rfl) rfl (fun h40 => ?_) (fun h40 => ?_)
      · refine T_aload_n (am_dec tX8_readUnit_0 29 rfl) rfl ?_
        refine T_callU (as := []) rfl (am_dec tX8_readUnit_0 30 rfl) lkX8_33_X8 (show (hfW w hb sp rb rs hb po (aR rs) ee hh ss uu vv pp ((u34).2) rr tt gg aa dd bd ga im)[53]? = some (cO 7 [aR 51, aI ((u34).2 0 1), aI ((u34).2 0 2), aI ((u34).2 0 3), aI ((u34).2 0 4), aI ((u34).2 0 5), aR rs]) from (hfW_c hl 53 (by decide))) rfl rfl (Nat.le_of_ble_eq_true rfl) (by omega) (md_word (d := d - 1) hl hp hr   hIu34 hTp (by omega)) (fun _ => ?_)
        obtain ⟨u62, hu62⟩ : ∃ x9, x9 = c_word ee ((u34).2) := ⟨_, rfl⟩
        rw [← hu62]
        have hxu62 : Rd2 ((u34).2) u62.2 := by rw [hu62]; exact (Rd2.rf hIu34).word hTp
        have hIu62 := hxu62.1
        have hgu62 := hIu62
        obtain ⟨⟨yr621, yr622⟩, yr623, yr624, yr625⟩ := hgu62
        have heu62_7 : u62.2 0 7 = (u34).2 0 7 := hxu62.2 0 7 (by decide)
        have heu62_8 : u62.2 0 8 = (u34).2 0 8 := hxu62.2 0 8 (by decide)
        have heu62_9 : u62.2 0 9 = (u34).2 0 9 := hxu62.2 0 9 (by decide)
        have heu62_10 : u62.2 0 10 = (u34).2 0 10 := hxu62.2 0 10 (by decide)
        have hbu62 : 0 - 600 ≤ u62.1 ∧ u62.1 ≤ 600 := by rw [hu62]; exact c_word_b hIu34 hTp
        refine T_pop (am_dec tX8_readUnit_0 31 rfl) rfl ?_
        refine T_aload_n (am_dec tX8_readUnit_0 32 rfl) rfl ?_
        refine T_callV (as := []) rfl (am_dec tX8_readUnit_0 33 rfl) lkX8_112 (show (hfW w hb sp rb rs hb po (aR rs) ee hh ss uu vv pp ((u62).2) rr tt gg aa dd bd ga im)[53]? = some (cO 7 [aR 51, aI ((u62).2 0 1), aI ((u62).2 0 2), aI ((u62).2 0 3), aI ((u62).2 0 4), aI ((u62).2 0 5), aR rs]) from (hfW_c hl 53 (by decide))) rfl rfl (Nat.le_of_ble_eq_true rfl) (by omega) (mc_readFact (d := d - 1) hl hp hr   hIu62 hTp (by omega)) (fun _ => ?_)
        have hb67 := c_readFact_b ee ((u62).2)
        refine T_nm (fun v2_70 hv2_70 => ?_)
        refine T_istore_n (ls' := [some (aR 53), some (aI dp), some (aI v2_70)]) (am_dec tX8_readUnit_0 34 rfl) (by decide) rfl ?_
        refine T_iload_n (am_dec tX8_readUnit_0 35 rfl) rfl ?_
        refine T_iconst (-1) (am_dec tX8_readUnit_0 36 rfl) rfl ⟨by decide, by decide⟩ ?_
        have K73 : ∀ (kk73 : am_F), kk73 = (if v2_70 = (-1) then c_wrong ((u62).2) 1 ((u62).2 0 3) else ((u62).2)) →  am_T S zX8_readUnit d u Q 85 [some (aR 53), none, some (aI v2_70)] [] (hfW w hb sp rb rs hb po (aR rs) ee hh ss uu vv pp kk73 rr tt gg aa dd bd ga im) := by
          intro kk73 hkk73 
          refine T_aload_n (am_dec tX8_readUnit_1 3 rfl) rfl ?_
          refine T_getfield 7 6 (am_dec tX8_readUnit_1 4 rfl) flX8_9_7 (show (hfW w hb sp rb rs hb po (aR rs) ee hh ss uu vv pp kk73 rr tt gg aa dd bd ga im)[53]? = some (cO 7 [aR 51, aI (kk73 0 1), aI (kk73 0 2), aI (kk73 0 3), aI (kk73 0 4), aI (kk73 0 5), aR rs]) from (hfW_c hl 53 (by decide))) rfl ?_
          refine T_sipush 1000 (am_dec tX8_readUnit_1 5 rfl) rfl ⟨by decide, by decide⟩ ?_
          refine T_iload_n (am_dec tX8_readUnit_1 6 rfl) rfl ?_
          refine T_iadd (1000 + v2_70) (am_dec tX8_readUnit_1 7 rfl) rfl ⟨by omega, by omega⟩ ?_
          refine T_callV (as := [aI (1000 + v2_70)]) rfl (am_dec tX8_readUnit_1 8 rfl) lkX8_79 (show (hfW w hb sp rb rs hb po (aR rs) ee hh ss uu vv pp kk73 rr tt gg aa dd bd ga im)[rs]? = some (cO 6 [aI (vv 0 0), aI (vv 0 1), aR (rs + 1), aR (rs + 2), aR (rs + 3), aR (rs + 4)]) from ((hf_V hl hr) 0 (by decide))) rfl rfl (Nat.le_of_ble_eq_true rfl) (by omega) (am_OutE (m_rput (d := d - 1) (w := hfW w hb sp rb rs hb po (aR rs) ee hh ss uu vv pp kk73 rr tt gg aa dd bd ga im) (hf_le hl (by omega)) (1000 + v2_70) hV.2.1) (hf_uV hr) (hf_uV hr)) (fun _ => ?_)
          refine T_nmH (W := fun x9 => hfW w hb sp rb rs hb po (aR rs) ee hh ss uu x9 pp kk73 rr tt gg aa dd bd ga im) (v := f_rput vv (1000 + v2_70)) (fun vv94 hvv94 => ?_)
          have hVvv94 : RvI vv94 := by rw [hvv94]; exact f_rput_I hV _
          refine T_weak (ls' := [none, none, none]) (am_sub_n (am_sub_n (am_sub_n am_sub_nil))) ?_
          exact K40 _ _ (by have s9 := hu62.symm; subst s9; have s9 := hv2_70.symm; subst s9; have s9 := hkk73.symm; subst s9; have s9 := hvv94.symm; subst s9; exact (if_pos h40).symm) (by have s9 := hu62.symm; subst s9; have s9 := hv2_70.symm; subst s9; have s9 := hkk73.symm; subst s9; have s9 := hvv94.symm; subst s9; exact (if_pos h40).symm) 
        refine T_icmp_ne 85 (am_dec tX8_readUnit_0 37 rfl) rfl (fun h73 => ?_) (fun h73 => ?_)
        · refine T_weak (ls' := [some (aR 53), none, some (aI v2_70)]) (am_sub_s (am_sub_n (am_sub_s am_sub_nil))) ?_
          exact K73 _ (if_neg h73).symm 
        · refine T_aload_n (am_dec tX8_readUnit_0 38 rfl) rfl ?_
          refine T_iconst 1 (am_dec tX8_readUnit_0 39 rfl) rfl ⟨by decide, by decide⟩ ?_
          refine T_aload_n (am_dec tX8_readUnit_1 0 rfl) rfl ?_
          refine T_getfield 7 3 (am_dec tX8_readUnit_1 1 rfl) flX8_39_7 (show (hfW w hb sp rb rs hb po (aR rs) ee hh ss uu vv pp ((u62).2) rr tt gg aa dd bd ga im)[53]? = some (cO 7 [aR 51, aI ((u62).2 0 1), aI ((u62).2 0 2), aI ((u62).2 0 3), aI ((u62).2 0 4), aI ((u62).2 0 5), aR rs]) from (hfW_c hl 53 (by decide))) rfl ?_
          refine T_callU (as := [aI 1, aI ((u62).2 0 3)]) rfl (am_dec tX8_readUnit_1 2 rfl) lkX8_43_X8 (show (hfW w hb sp rb rs hb po (aR rs) ee hh ss uu vv pp ((u62).2) rr tt gg aa dd bd ga im)[53]? = some (cO 7 [aR 51, aI ((u62).2 0 1), aI ((u62).2 0 2), aI ((u62).2 0 3), aI ((u62).2 0 4), aI ((u62).2 0 5), aR rs]) from (hfW_c hl 53 (by decide))) rfl rfl (Nat.le_of_ble_eq_true rfl) (by omega) (md_wrong (d := d - 1) hl hp hr 1 ((u62).2 0 3)   (by omega)) (fun _ => ?_)
          refine T_nmH (W := fun x9 => hfW w hb sp rb rs hb po (aR rs) ee hh ss uu vv pp x9 rr tt gg aa dd bd ga im) (v := c_wrong ((u62).2) 1 ((u62).2 0 3)) (fun kk82 hkk82 => ?_)
          have hIkk82 : RdI kk82 := by rw [hkk82]; exact c_wrong_I hIu62 _ _
          refine T_weak (ls' := [some (aR 53), none, some (aI v2_70)]) (am_sub_s (am_sub_n (am_sub_s am_sub_nil))) ?_
          exact K73 _ (by have s9 := hkk82.symm; subst s9; exact (if_pos h73).symm) 
      · refine T_aload_n (am_dec tX8_readUnit_0 21 rfl) rfl ?_
        refine T_getfield 7 6 (am_dec tX8_readUnit_0 22 rfl) flX8_9_7 (show (hfW w hb sp rb rs hb po (aR rs) ee hh ss uu vv pp ((u34).2) rr tt gg aa dd bd ga im)[53]? = some (cO 7 [aR 51, aI ((u34).2 0 1), aI ((u34).2 0 2), aI ((u34).2 0 3), aI ((u34).2 0 4), aI ((u34).2 0 5), aR rs]) from (hfW_c hl 53 (by decide))) rfl ?_
        refine T_aload_n (am_dec tX8_readUnit_0 23 rfl) rfl ?_
        refine T_iconst 0 (am_dec tX8_readUnit_0 24 rfl) rfl ⟨by decide, by decide⟩ ?_
        refine T_sipush 999 (am_dec tX8_readUnit_0 25 rfl) rfl ⟨by decide, by decide⟩ ?_
        refine T_callU (as := [aI 0, aI 999]) rfl (am_dec tX8_readUnit_0 26 rfl) lkX8_108_X8 (show (hfW w hb sp rb rs hb po (aR rs) ee hh ss uu vv pp ((u34).2) rr tt gg aa dd bd ga im)[53]? = some (cO 7 [aR 51, aI ((u34).2 0 1), aI ((u34).2 0 2), aI ((u34).2 0 3), aI ((u34).2 0 4), aI ((u34).2 0 5), aR rs]) from (hfW_c hl 53 (by decide))) rfl rfl (Nat.le_of_ble_eq_true rfl) (by omega) (md_number (d := d - 1) hl hp hr 0 999  hIu34 hTp (by omega)) (fun _ => ?_)
        obtain ⟨u52, hu52⟩ : ∃ x9, x9 = c_number ee ((u34).2) 0 999 := ⟨_, rfl⟩
        rw [← hu52]
        have hxu52 : Rd2 ((u34).2) u52.2 := by rw [hu52]; exact (Rd2.rf hIu34).number hTp _ _
        have hIu52 := hxu52.1
        have hgu52 := hIu52
        obtain ⟨⟨yr521, yr522⟩, yr523, yr524, yr525⟩ := hgu52
        have heu52_7 : u52.2 0 7 = (u34).2 0 7 := hxu52.2 0 7 (by decide)
        have heu52_8 : u52.2 0 8 = (u34).2 0 8 := hxu52.2 0 8 (by decide)
        have heu52_9 : u52.2 0 9 = (u34).2 0 9 := hxu52.2 0 9 (by decide)
        have heu52_10 : u52.2 0 10 = (u34).2 0 10 := hxu52.2 0 10 (by decide)
        have hbu52 : 0 ≤ u52.1 ∧ u52.1 ≤ 999 := by rw [hu52]; exact c_number_b _ _ (by omega)
        refine T_callV (as := [aI ((u52).1)]) rfl (am_dec tX8_readUnit_0 27 rfl) lkX8_79 (show (hfW w hb sp rb rs hb po (aR rs) ee hh ss uu vv pp ((u52).2) rr tt gg aa dd bd ga im)[rs]? = some (cO 6 [aI (vv 0 0), aI (vv 0 1), aR (rs + 1), aR (rs + 2), aR (rs + 3), aR (rs + 4)]) from ((hf_V hl hr) 0 (by decide))) rfl rfl (Nat.le_of_ble_eq_true rfl) (by omega) (am_OutE (m_rput (d := d - 1) (w := hfW w hb sp rb rs hb po (aR rs) ee hh ss uu vv pp ((u52).2) rr tt gg aa dd bd ga im) (hf_le hl (by omega)) ((u52).1) hV.2.1) (hf_uV hr) (hf_uV hr)) (fun _ => ?_)
        refine T_nmH (W := fun x9 => hfW w hb sp rb rs hb po (aR rs) ee hh ss uu x9 pp ((u52).2) rr tt gg aa dd bd ga im) (v := f_rput vv ((u52).1)) (fun vv55 hvv55 => ?_)
        have hVvv55 : RvI vv55 := by rw [hvv55]; exact f_rput_I hV _
        refine T_goto 97 (am_dec tX8_readUnit_0 28 rfl) rfl ?_
        refine T_weak (ls' := [none, none, none]) (am_sub_n (am_sub_n (am_sub_n am_sub_nil))) ?_
        exact K40 _ _ (by have s9 := hu52.symm; subst s9; have s9 := hvv55.symm; subst s9; exact (if_neg h40).symm) (by have s9 := hu52.symm; subst s9; have s9 := hvv55.symm; subst s9; exact (if_neg h40).symm) 
    · refine T_aload_n (am_dec tX8_readUnit_0 4 rfl) rfl ?_
      refine T_iload_n (am_dec tX8_readUnit_0 5 rfl) rfl ?_
      refine T_callV (as := [aI dp]) rfl (am_dec tX8_readUnit_0 6 rfl) lkX8_89 (show (hfW w hb sp rb rs hb po (aR rs) ee hh ss uu vv pp ((u3).2) rr tt gg aa dd bd ga im)[53]? = some (cO 7 [aR 51, aI ((u3).2 0 1), aI ((u3).2 0 2), aI ((u3).2 0 3), aI ((u3).2 0 4), aI ((u3).2 0 5), aR rs]) from (hfW_c hl 53 (by decide))) rfl rfl (Nat.le_of_ble_eq_true rfl) (by omega) (mc_mayOpen (d := d - 1) hl hp hr dp  hIu3 hTp (by omega)) (fun _ => ?_)
      obtain ⟨u11, hu11⟩ : ∃ x9, x9 = c_mayOpen ((u3).2) dp := ⟨_, rfl⟩
      rw [← hu11]
      have hb11 := c_mayOpen_b ((u3).2) dp
      rw [← hu11] at hb11
      have hIu11 : RdI u11.2 := by rw [hu11]; exact c_mayOpen_x hIu3 _
      have hlt11 : u11.1 = 0 ∨ dp < 6 := by rw [hu11]; exact c_mayOpen_6 _ _
      have K14 : ∀ (vv14 : am_F), ∀ (kk14 : am_F), vv14 = (if (u11).1 = 0 then vv else (let u21 : am_F × am_F := fs vv ((u11).2); ((u21).1))) → kk14 = (if (u11).1 = 0 then ((u11).2) else (let u21 : am_F × am_F := fs vv ((u11).2); c_needSign ee ((u21).2) 41)) →  am_T S zX8_readUnit d u Q 97 [none, none, none] [] (hfW w hb sp rb rs hb po (aR rs) ee hh ss uu vv14 pp kk14 rr tt gg aa dd bd ga im) := by
        intro vv14 kk14 hvv14 hkk14 
        exact K6 _ _ (by have s9 := hu11.symm; subst s9; have s9 := hvv14.symm; subst s9; have s9 := hkk14.symm; subst s9; exact (if_neg h6).symm) (by have s9 := hu11.symm; subst s9; have s9 := hvv14.symm; subst s9; have s9 := hkk14.symm; subst s9; exact (if_neg h6).symm) 
      refine T_if_eq 97 (am_dec tX8_readUnit_0 7 rfl) rfl (fun h14 => ?_) (fun h14 => ?_)
      · refine T_weak (ls' := [none, none, none]) (am_sub_n (am_sub_n (am_sub_n am_sub_nil))) ?_
        exact K14 _ _ (if_pos h14).symm (if_pos h14).symm 
      · refine T_aload_n (am_dec tX8_readUnit_0 8 rfl) rfl ?_
        refine T_iload_n (am_dec tX8_readUnit_0 9 rfl) rfl ?_
        refine T_iconst 1 (am_dec tX8_readUnit_0 10 rfl) rfl ⟨by decide, by decide⟩ ?_
        refine T_iadd (dp + 1) (am_dec tX8_readUnit_0 11 rfl) rfl ⟨by omega, by omega⟩ ?_
        refine T_callV (as := [aI (dp + 1)]) rfl (am_dec tX8_readUnit_0 12 rfl) lkX8_50 (show (hfW w hb sp rb rs hb po (aR rs) ee hh ss uu vv pp ((u11).2) rr tt gg aa dd bd ga im)[53]? = some (cO 7 [aR 51, aI ((u11).2 0 1), aI ((u11).2 0 2), aI ((u11).2 0 3), aI ((u11).2 0 4), aI ((u11).2 0 5), aR rs]) from (hfW_c hl 53 (by decide))) rfl rfl (Nat.le_of_ble_eq_true rfl) (by omega) ((hfs (by omega)) (d - 1) vv ((u11).2) (by omega) hV hIu11) (fun _ => ?_)
        obtain ⟨u21, hu21⟩ : ∃ x9, x9 = fs vv ((u11).2) := ⟨_, rfl⟩
        rw [← hu21]
        obtain ⟨hVu21, hIu21⟩ : RvI u21.1 ∧ RdI u21.2 := by rw [hu21]; exact hfi _ _ hV hIu11
        refine T_aload_n (am_dec tX8_readUnit_0 13 rfl) rfl ?_
        refine T_bipush 41 (am_dec tX8_readUnit_0 14 rfl) rfl ⟨by decide, by decide⟩ ?_
        refine T_callU (as := [aI 41]) rfl (am_dec tX8_readUnit_0 15 rfl) lkX8_53_X8 (show (hfW w hb sp rb rs hb po (aR rs) ee hh ss uu ((u21).1) pp ((u21).2) rr tt gg aa dd bd ga im)[53]? = some (cO 7 [aR 51, aI ((u21).2 0 1), aI ((u21).2 0 2), aI ((u21).2 0 3), aI ((u21).2 0 4), aI ((u21).2 0 5), aR rs]) from (hfW_c hl 53 (by decide))) rfl rfl (Nat.le_of_ble_eq_true rfl) (by omega) (md_needSign (d := d - 1) hl hp hr 41  (by omega) hIu21 hTp (by omega)) (fun _ => ?_)
        refine T_nmH (W := fun x9 => hfW w hb sp rb rs hb po (aR rs) ee hh ss uu ((u21).1) pp x9 rr tt gg aa dd bd ga im) (v := c_needSign ee ((u21).2) 41) (fun kk27 hkk27 => ?_)
        have hxkk27 : Rd2 ((u21).2) kk27 := by rw [hkk27]; exact (Rd2.rf hIu21).needSign hTp (by omega)
        have hIkk27 := hxkk27.1
        have hekk27_7 : kk27 0 7 = (u21).2 0 7 := hxkk27.2 0 7 (by decide)
        have hekk27_8 : kk27 0 8 = (u21).2 0 8 := hxkk27.2 0 8 (by decide)
        have hekk27_9 : kk27 0 9 = (u21).2 0 9 := hxkk27.2 0 9 (by decide)
        have hekk27_10 : kk27 0 10 = (u21).2 0 10 := hxkk27.2 0 10 (by decide)
        refine T_goto 97 (am_dec tX8_readUnit_0 16 rfl) rfl ?_
        refine T_weak (ls' := [none, none, none]) (am_sub_n (am_sub_n (am_sub_n am_sub_nil))) ?_
        exact K14 _ _ (by have s9 := hu21.symm; subst s9; have s9 := hkk27.symm; subst s9; exact (if_neg h14).symm) (by have s9 := hu21.symm; subst s9; have s9 := hkk27.symm; subst s9; exact (if_neg h14).symm) 
  exact key _ ⟨rfl, rfl⟩
theorem c_readUnit_x {ee : am_F} (t : TpI ee) (dp : Int) {fs : am_F → am_F → am_F × am_F} (h : LvI fs) : LvI (fun v k => c_readUnit ee v k dp fs) := by
  intro v k hv hk
  have h1 := (Rd2.rf hk).takesSign t (sg := 40) (by decide)
  show RvI (c_readUnit ee v k dp fs).1 ∧ RdI (c_readUnit ee v k dp fs).2
  unfold c_readUnit
  dsimp only
  generalize c_takesSign ee k 40 = u1 at *
  by_cases e1 : u1.1 = 0
  · rw [if_pos e1, if_pos e1]
    have h2 := (Rd2.rf h1.1).peek t
    generalize c_peek ee u1.2 = u2 at *
    by_cases e2 : c_isDigit u2.1 = 0
    · rw [if_pos e2, if_pos e2]
      have h3 := (Rd2.rf h2.1).word t
      generalize c_word ee u2.2 = u3 at *
      refine ⟨f_rput_I hv _, ?_⟩
      split
      · exact c_wrong_I h3.1 _ _
      · exact h3.1
    · rw [if_neg e2, if_neg e2]
      exact ⟨f_rput_I hv _, ((Rd2.rf h2.1).number t 0 999).1⟩
  · rw [if_neg e1, if_neg e1]
    have h2 := c_mayOpen_x h1.1 dp
    generalize c_mayOpen u1.2 dp = u2 at *
    by_cases e2 : u2.1 = 0
    · rw [if_pos e2, if_pos e2]
      exact ⟨hv, h2⟩
    · rw [if_neg e2, if_neg e2]
      have h3 := h v u2.2 hv h2
      exact ⟨h3.1, ((Rd2.rf h3.2).needSign t (sg := 41) (by decide)).1⟩
