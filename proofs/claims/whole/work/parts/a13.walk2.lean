/-! the port reader: walks, all clauses -/
theorem c_addIf5_J {ss : am_F} (q : SpI ss) (pp : am_F) (na nb nc : Int) (hb : pp 0 4 = 0 → (0 ≤ na ∧ na ≤ 39) ∧ 0 ≤ nb ∧ nb ≤ 12) : SpI (c_addIf5 ss pp na nb nc) := by
  unfold c_addIf5
  dsimp only
  split
  · exact q
  · rename_i h
    have z := hb (fine_k h)
    exact c_addS5_I q na nb nc 0 z.1 z.2
def c_readWalk (ee : am_F) (ss : am_F) (pp : am_F) : am_F × am_F := (let pp8 : am_F := c_needRoom5 ss pp; (let u12 : Int × am_F := c_readCell ee ss pp8; (let u17 : Int × am_F := c_readStep ee ((u12).2); (let u22 : Int × am_F := c_word ee ((u17).2); (let z27 : Int := (c_fine ((u22).2)); (let ss30 : am_F := (if z27 = 0 then ss else (if 12 < (u22).1 then ss else (let u42 : Int × am_F := c_walksInPort ee ss ((u22).2) ((u12).1) ((u22).1); ((u42).2)))); (let pp30 : am_F := (if z27 = 0 then ((u22).2) else (if 12 < (u22).1 then c_wrong ((u22).2) 2 ((u22).2 0 3) else (let u42 : Int × am_F := c_walksInPort ee ss ((u22).2) ((u12).1) ((u22).1); (if (u42).1 = 0 then c_wrong ((u22).2) 2 ((u22).2 0 3) else ((u22).2))))); (let ss68 : am_F := c_addIf5 ss30 pp30 ((u17).1) ((u22).1) 0; (ss68, pp30)))))))))
theorem mc_readWalk {S : am_S} {d u : Nat} {w : AH} {hb sp rb rs : Nat} {ro : AV} (hl : 109 ≤ w.length) (hp : hb = 1 ∧ sp = 21 ∨ hb = 21 ∧ sp = 1) (hr : rb = 41 ∧ rs = 46 ∨ rb = 46 ∧ rs = 41) {ee : am_F} {hh : am_F} {ss : am_F} {uu : am_F} {vv : am_F} {pp : am_F} {kk : am_F} {rr : am_F} {tt : am_F} {gg : am_F} {aa : am_F} {dd : am_F} {bd : am_F} {ga : am_F} {im : am_F}  (hP : RdI pp) (hTp : TpI ee) (hS : SpI ss)  (hd : 4 ≤ d) : am_Out S zX5_readWalk d u [aR 52] (hfW w hb sp rb rs hb (aR sp) ro ee hh ss uu vv pp kk rr tt gg aa dd bd ga im) (.inl none) (hfW w hb sp rb rs hb (aR sp) ro ee hh ((c_readWalk ee ss pp).1) uu vv ((c_readWalk ee ss pp).2) kk rr tt gg aa dd bd ga im) := by
  have key : ∀ Q : AO → AH → Prop, Q (.inl none) (hfW w hb sp rb rs hb (aR sp) ro ee hh ((c_readWalk ee ss pp).1) uu vv ((c_readWalk ee ss pp).2) kk rr tt gg aa dd bd ga im) → am_M S zX5_readWalk d u [aR 52] (hfW w hb sp rb rs hb (aR sp) ro ee hh ss uu vv pp kk rr tt gg aa dd bd ga im) Q := by
    intro Q hQ
    refine am_body rfl (by decide +kernel) rfl (am_cats_cons rfl (am_cats_nil)) (Nat.le_of_ble_eq_true rfl) (?_ : am_T _ _ _ _ _ 0 [some (aR 52), none, none, none] [] (hfW w hb sp rb rs hb (aR sp) ro ee hh ss uu vv pp kk rr tt gg aa dd bd ga im))
    have hP9 := hP
    obtain ⟨⟨vr1, vr2⟩, vr3, vr4, vr5⟩ := hP9
    obtain ⟨vs1, vs2, vs3, vs4, vs5, vs6, vs7, vs8, vs9, vs10, vs11, vs12, vs13, vs14, vs15, vs16, vs17, vs18, vs19, vs20, vs21, vs22⟩ := (HbI_A hS.1).1
    refine T_aload_n (am_dec tX5_readWalk_0 0 rfl) rfl ?_
    refine T_aload_n (am_dec tX5_readWalk_0 1 rfl) rfl ?_
    refine T_getfield 5 6 (am_dec tX5_readWalk_0 2 rfl) flX5_9_5 (show (hfW w hb sp rb rs hb (aR sp) ro ee hh ss uu vv pp kk rr tt gg aa dd bd ga im)[52]? = some (cO 5 [aR 51, aI (pp 0 1), aI (pp 0 2), aI (pp 0 3), aI (pp 0 4), aI (pp 0 5), aR sp, aI (pp 0 7), aI (pp 0 8), aI (pp 0 9), aI (pp 0 10)]) from (hfW_c hl 52 (by decide))) rfl ?_
    refine T_getfield 3 8 (am_dec tX5_readWalk_0 3 rfl) flX5_202_3 (show (hfW w hb sp rb rs hb (aR sp) ro ee hh ss uu vv pp kk rr tt gg aa dd bd ga im)[sp]? = some (cO 3 [aI (ss 0 0), aI (ss 0 1), aI (ss 0 2), aR (sp + 1), aR (sp + 3), aR (sp + 5), aR (sp + 7), aR (sp + 9), aR (sp + 11), aR (sp + 13), aR (sp + 15), aR (sp + 17), aR (sp + 18), aR (sp + 19)]) from ((hf_S hl hp) 0 (by decide))) rfl ?_
    refine T_callV (as := [aR (sp + 11)]) rfl (am_dec tX5_readWalk_0 4 rfl) lkX5_160 (show (hfW w hb sp rb rs hb (aR sp) ro ee hh ss uu vv pp kk rr tt gg aa dd bd ga im)[52]? = some (cO 5 [aR 51, aI (pp 0 1), aI (pp 0 2), aI (pp 0 3), aI (pp 0 4), aI (pp 0 5), aR sp, aI (pp 0 7), aI (pp 0 8), aI (pp 0 9), aI (pp 0 10)]) from (hfW_c hl 52 (by decide))) rfl rfl (Nat.le_of_ble_eq_true rfl) (by omega) (mc_needRoom5 (d := d - 1) hl hp hr   hP hTp hS (by omega)) (fun _ => ?_)
    refine T_nmH (W := fun x9 => hfW w hb sp rb rs hb (aR sp) ro ee hh ss uu vv x9 kk rr tt gg aa dd bd ga im) (v := c_needRoom5 ss pp) (fun pp8 hpp8 => ?_)
    have hxpp8 : Rd2 pp pp8 := by rw [hpp8]; exact (Rd2.rf hP).needRoom5
    have hIpp8 := hxpp8.1
    have hepp8_7 : pp8 0 7 = pp 0 7 := hxpp8.2 0 7 (by decide)
    have hepp8_8 : pp8 0 8 = pp 0 8 := hxpp8.2 0 8 (by decide)
    have hepp8_9 : pp8 0 9 = pp 0 9 := hxpp8.2 0 9 (by decide)
    have hepp8_10 : pp8 0 10 = pp 0 10 := hxpp8.2 0 10 (by decide)
    refine T_aload_n (am_dec tX5_readWalk_0 5 rfl) rfl ?_
    refine T_callV (as := []) rfl (am_dec tX5_readWalk_0 6 rfl) lkX5_177 (show (hfW w hb sp rb rs hb (aR sp) ro ee hh ss uu vv pp8 kk rr tt gg aa dd bd ga im)[52]? = some (cO 5 [aR 51, aI (pp8 0 1), aI (pp8 0 2), aI (pp8 0 3), aI (pp8 0 4), aI (pp8 0 5), aR sp, aI (pp8 0 7), aI (pp8 0 8), aI (pp8 0 9), aI (pp8 0 10)]) from (hfW_c hl 52 (by decide))) rfl rfl (Nat.le_of_ble_eq_true rfl) (by omega) (mc_readCell (d := d - 1) hl hp hr   hIpp8 hTp hS (by omega)) (fun _ => ?_)
    obtain ⟨u12, hu12⟩ : ∃ x9, x9 = c_readCell ee ss pp8 := ⟨_, rfl⟩
    rw [← hu12]
    have hyu12 : Rd2 pp8 u12.2 ∧ 0 ≤ u12.1 ∧ u12.1 ≤ 88 := by rw [hu12]; exact c_readCell_x (Rd2.rf hIpp8) hTp hS
    have hxu12 := hyu12.1
    have hIu12 := hxu12.1
    refine T_istore_n (ls' := [some (aR 52), some (aI ((u12).1)), none, none]) (am_dec tX5_readWalk_0 7 rfl) (by decide) rfl ?_
    refine T_aload_n (am_dec tX5_readWalk_0 8 rfl) rfl ?_
    refine T_callV (as := []) rfl (am_dec tX5_readWalk_0 9 rfl) lkX5_164 (show (hfW w hb sp rb rs hb (aR sp) ro ee hh ss uu vv ((u12).2) kk rr tt gg aa dd bd ga im)[52]? = some (cO 5 [aR 51, aI ((u12).2 0 1), aI ((u12).2 0 2), aI ((u12).2 0 3), aI ((u12).2 0 4), aI ((u12).2 0 5), aR sp, aI ((u12).2 0 7), aI ((u12).2 0 8), aI ((u12).2 0 9), aI ((u12).2 0 10)]) from (hfW_c hl 52 (by decide))) rfl rfl (Nat.le_of_ble_eq_true rfl) (by omega) (mc_readStep (d := d - 1) hl hp hr   hIu12 hTp hS (by omega)) (fun _ => ?_)
    obtain ⟨u17, hu17⟩ : ∃ x9, x9 = c_readStep ee ((u12).2) := ⟨_, rfl⟩
    rw [← hu17]
    have hxu17 : Rd2 ((u12).2) u17.2 := by rw [hu17]; exact (Rd2.rf hIu12).number hTp _ _
    have hIu17 := hxu17.1
    have heu17_7 : u17.2 0 7 = (u12).2 0 7 := hxu17.2 0 7 (by decide)
    have heu17_8 : u17.2 0 8 = (u12).2 0 8 := hxu17.2 0 8 (by decide)
    have heu17_9 : u17.2 0 9 = (u12).2 0 9 := hxu17.2 0 9 (by decide)
    have heu17_10 : u17.2 0 10 = (u12).2 0 10 := hxu17.2 0 10 (by decide)
    have hbu17 : 0 ≤ u17.1 ∧ u17.1 ≤ 39 := by rw [hu17]; exact c_number_b _ _ (by omega)
    refine T_istore_n (ls' := [some (aR 52), some (aI ((u12).1)), some (aI ((u17).1)), none]) (am_dec tX5_readWalk_0 10 rfl) (by decide) rfl ?_
    refine T_aload_n (am_dec tX5_readWalk_0 11 rfl) rfl ?_
    refine T_callU (as := []) rfl (am_dec tX5_readWalk_0 12 rfl) lkX5_33_X5 (show (hfW w hb sp rb rs hb (aR sp) ro ee hh ss uu vv ((u17).2) kk rr tt gg aa dd bd ga im)[52]? = some (cO 5 [aR 51, aI ((u17).2 0 1), aI ((u17).2 0 2), aI ((u17).2 0 3), aI ((u17).2 0 4), aI ((u17).2 0 5), aR sp, aI ((u17).2 0 7), aI ((u17).2 0 8), aI ((u17).2 0 9), aI ((u17).2 0 10)]) from (hfW_c hl 52 (by decide))) rfl rfl (Nat.le_of_ble_eq_true rfl) (by omega) (mc_word (d := d - 1) hl hp hr   hIu17 hTp (by omega)) (fun _ => ?_)
    obtain ⟨u22, hu22⟩ : ∃ x9, x9 = c_word ee ((u17).2) := ⟨_, rfl⟩
    rw [← hu22]
    have hxu22 : Rd2 ((u17).2) u22.2 := by rw [hu22]; exact (Rd2.rf hIu17).word hTp
    have hIu22 := hxu22.1
    have hgu22 := hIu22
    obtain ⟨⟨yr221, yr222⟩, yr223, yr224, yr225⟩ := hgu22
    have heu22_7 : u22.2 0 7 = (u17).2 0 7 := hxu22.2 0 7 (by decide)
    have heu22_8 : u22.2 0 8 = (u17).2 0 8 := hxu22.2 0 8 (by decide)
    have heu22_9 : u22.2 0 9 = (u17).2 0 9 := hxu22.2 0 9 (by decide)
    have heu22_10 : u22.2 0 10 = (u17).2 0 10 := hxu22.2 0 10 (by decide)
    have hbu22 : 0 - 600 ≤ u22.1 ∧ u22.1 ≤ 600 := by rw [hu22]; exact c_word_b hIu17 hTp
    have hzu22 : 0 ≤ u22.1 := by rw [hu22]; exact c_word_0 hIu17 hTp
    refine T_istore_n (ls' := [some (aR 52), some (aI ((u12).1)), some (aI ((u17).1)), some (aI ((u22).1))]) (am_dec tX5_readWalk_0 13 rfl) (by decide) rfl ?_
    refine T_aload_n (am_dec tX5_readWalk_0 14 rfl) rfl ?_
    refine T_callU (as := []) rfl (am_dec tX5_readWalk_0 15 rfl) lkX5_21_X5 (show (hfW w hb sp rb rs hb (aR sp) ro ee hh ss uu vv ((u22).2) kk rr tt gg aa dd bd ga im)[52]? = some (cO 5 [aR 51, aI ((u22).2 0 1), aI ((u22).2 0 2), aI ((u22).2 0 3), aI ((u22).2 0 4), aI ((u22).2 0 5), aR sp, aI ((u22).2 0 7), aI ((u22).2 0 8), aI ((u22).2 0 9), aI ((u22).2 0 10)]) from (hfW_c hl 52 (by decide))) rfl rfl (Nat.le_of_ble_eq_true rfl) (by omega) (mc_fine (d := d - 1) hl hp hr    (by omega)) (fun _ => ?_)
    refine T_nm (fun z27 hz27 => ?_)
    have hb27 := c_fine_b ((u22).2)
    rw [← hz27] at hb27
    have K30 : ∀ (ss30 : am_F), ∀ (pp30 : am_F), ss30 = (if z27 = 0 then ss else (if 12 < (u22).1 then ss else (let u42 : Int × am_F := c_walksInPort ee ss ((u22).2) ((u12).1) ((u22).1); ((u42).2)))) → pp30 = (if z27 = 0 then ((u22).2) else (if 12 < (u22).1 then c_wrong ((u22).2) 2 ((u22).2 0 3) else (let u42 : Int × am_F := c_walksInPort ee ss ((u22).2) ((u12).1) ((u22).1); (if (u42).1 = 0 then c_wrong ((u22).2) 2 ((u22).2 0 3) else ((u22).2))))) →  am_T S zX5_readWalk d u Q 57 [some (aR 52), none, some (aI ((u17).1)), some (aI ((u22).1))] [] (hfW w hb sp rb rs hb (aR sp) ro ee hh ss30 uu vv pp30 kk rr tt gg aa dd bd ga im) := by
      intro ss30 pp30 hss30 hpp30 
      have hIpp30 : RdI pp30 := by
        rw [hpp30]
        try dsimp only
        repeat' split
        all_goals first | exact hIu22 | exact c_wrong_I hIu22 _ _
      have hSss30 : SpI ss30 := by
        rw [hss30]
        try dsimp only
        repeat' split
        all_goals first | exact hS | exact (c_walksInPort_x hS _ _ (by omega) (by omega)).1
      have hm9 : pp30 0 4 = 0 → u22.1 ≤ 12 := by
        rw [hpp30]
        try dsimp only
        intro h9
        repeat' split at h9
        · rename_i g; rw [hz27] at g; rw [c_fine_1 h9] at g; cases g
        · exact absurd h9 (wrong_k (by decide))
        all_goals first | omega | exact absurd h9 (wrong_k (by decide))
      refine T_aload_n (am_dec tX5_readWalk_0 30 rfl) rfl ?_
      refine T_aload_n (am_dec tX5_readWalk_0 31 rfl) rfl ?_
      refine T_getfield 5 6 (am_dec tX5_readWalk_0 32 rfl) flX5_9_5 (show (hfW w hb sp rb rs hb (aR sp) ro ee hh ss30 uu vv pp30 kk rr tt gg aa dd bd ga im)[52]? = some (cO 5 [aR 51, aI (pp30 0 1), aI (pp30 0 2), aI (pp30 0 3), aI (pp30 0 4), aI (pp30 0 5), aR sp, aI (pp30 0 7), aI (pp30 0 8), aI (pp30 0 9), aI (pp30 0 10)]) from (hfW_c hl 52 (by decide))) rfl ?_
      refine T_getfield 3 8 (am_dec tX5_readWalk_0 33 rfl) flX5_202_3 (show (hfW w hb sp rb rs hb (aR sp) ro ee hh ss30 uu vv pp30 kk rr tt gg aa dd bd ga im)[sp]? = some (cO 3 [aI (ss30 0 0), aI (ss30 0 1), aI (ss30 0 2), aR (sp + 1), aR (sp + 3), aR (sp + 5), aR (sp + 7), aR (sp + 9), aR (sp + 11), aR (sp + 13), aR (sp + 15), aR (sp + 17), aR (sp + 18), aR (sp + 19)]) from ((hf_S hl hp) 0 (by decide))) rfl ?_
      refine T_iload_n (am_dec tX5_readWalk_0 34 rfl) rfl ?_
      refine T_iload_n (am_dec tX5_readWalk_0 35 rfl) rfl ?_
      refine T_iconst 0 (am_dec tX5_readWalk_0 36 rfl) rfl ⟨by decide, by decide⟩ ?_
      refine T_callV (as := [aR (sp + 11), aI ((u17).1), aI ((u22).1), aI 0]) rfl (am_dec tX5_readWalk_0 37 rfl) lkX5_167 (show (hfW w hb sp rb rs hb (aR sp) ro ee hh ss30 uu vv pp30 kk rr tt gg aa dd bd ga im)[52]? = some (cO 5 [aR 51, aI (pp30 0 1), aI (pp30 0 2), aI (pp30 0 3), aI (pp30 0 4), aI (pp30 0 5), aR sp, aI (pp30 0 7), aI (pp30 0 8), aI (pp30 0 9), aI (pp30 0 10)]) from (hfW_c hl 52 (by decide))) rfl rfl (Nat.le_of_ble_eq_true rfl) (by omega) (mc_addIf5 (d := d - 1) hl hp hr ((u17).1) ((u22).1) 0  hSss30 (by omega)) (fun _ => ?_)
      refine T_nmH (W := fun x9 => hfW w hb sp rb rs hb (aR sp) ro ee hh x9 uu vv pp30 kk rr tt gg aa dd bd ga im) (v := c_addIf5 ss30 pp30 ((u17).1) ((u22).1) 0) (fun ss68 hss68 => ?_)
      have hSss68 : SpI ss68 := by rw [hss68]; exact c_addIf5_J hSss30 _ _ _ _ (fun h9 => ⟨by omega, by omega, hm9 h9⟩)
      exact T_return (am_dec tX5_readWalk_0 38 rfl) rfl (am_tr (fun (x9 : am_F × am_F) => Q (.inl none) (hfW w hb sp rb rs hb (aR sp) ro ee hh x9.1 uu vv x9.2 kk rr tt gg aa dd bd ga im)) (y := (ss68, pp30)) (show (c_readWalk ee ss pp) = (ss68, pp30) from (by have s9 := hpp8.symm; subst s9; have s9 := hu12.symm; subst s9; have s9 := hu17.symm; subst s9; have s9 := hu22.symm; subst s9; have s9 := hz27.symm; subst s9; have s9 := hss30.symm; subst s9; have s9 := hpp30.symm; subst s9; have s9 := hss68.symm; subst s9; exact rfl)) hQ)
    refine T_if_eq 57 (am_dec tX5_readWalk_0 16 rfl) rfl (fun h30 => ?_) (fun h30 => ?_)
    · refine T_weak (ls' := [some (aR 52), none, some (aI ((u17).1)), some (aI ((u22).1))]) (am_sub_s (am_sub_n (am_sub_s (am_sub_s am_sub_nil)))) ?_
      exact K30 _ _ (if_pos h30).symm (if_pos h30).symm 
    · refine T_iload_n (am_dec tX5_readWalk_0 17 rfl) rfl ?_
      refine T_bipush 12 (am_dec tX5_readWalk_0 18 rfl) rfl ⟨by decide, by decide⟩ ?_
      have K36 : ∀ (ss36 : am_F), ∀ (pp36 : am_F), ss36 = (if 12 < (u22).1 then ss else (let u42 : Int × am_F := c_walksInPort ee ss ((u22).2) ((u12).1) ((u22).1); ((u42).2))) → pp36 = (if 12 < (u22).1 then c_wrong ((u22).2) 2 ((u22).2 0 3) else (let u42 : Int × am_F := c_walksInPort ee ss ((u22).2) ((u12).1) ((u22).1); (if (u42).1 = 0 then c_wrong ((u22).2) 2 ((u22).2 0 3) else ((u22).2)))) →  am_T S zX5_readWalk d u Q 57 [some (aR 52), none, some (aI ((u17).1)), some (aI ((u22).1))] [] (hfW w hb sp rb rs hb (aR sp) ro ee hh ss36 uu vv pp36 kk rr tt gg aa dd bd ga im) := by
        intro ss36 pp36 hss36 hpp36 
        exact K30 _ _ (by have s9 := hss36.symm; subst s9; have s9 := hpp36.symm; subst s9; exact (if_neg h30).symm) (by have s9 := hss36.symm; subst s9; have s9 := hpp36.symm; subst s9; exact (if_neg h30).symm) 
      refine T_icmp_gt 48 (am_dec tX5_readWalk_0 19 rfl) rfl (fun h36 => ?_) (fun h36 => ?_)
      · refine T_aload_n (am_dec tX5_readWalk_0 25 rfl) rfl ?_
        refine T_iconst 2 (am_dec tX5_readWalk_0 26 rfl) rfl ⟨by decide, by decide⟩ ?_
        refine T_aload_n (am_dec tX5_readWalk_0 27 rfl) rfl ?_
        refine T_getfield 5 3 (am_dec tX5_readWalk_0 28 rfl) flX5_39_5 (show (hfW w hb sp rb rs hb (aR sp) ro ee hh ss uu vv ((u22).2) kk rr tt gg aa dd bd ga im)[52]? = some (cO 5 [aR 51, aI ((u22).2 0 1), aI ((u22).2 0 2), aI ((u22).2 0 3), aI ((u22).2 0 4), aI ((u22).2 0 5), aR sp, aI ((u22).2 0 7), aI ((u22).2 0 8), aI ((u22).2 0 9), aI ((u22).2 0 10)]) from (hfW_c hl 52 (by decide))) rfl ?_
        refine T_callU (as := [aI 2, aI ((u22).2 0 3)]) rfl (am_dec tX5_readWalk_0 29 rfl) lkX5_43_X5 (show (hfW w hb sp rb rs hb (aR sp) ro ee hh ss uu vv ((u22).2) kk rr tt gg aa dd bd ga im)[52]? = some (cO 5 [aR 51, aI ((u22).2 0 1), aI ((u22).2 0 2), aI ((u22).2 0 3), aI ((u22).2 0 4), aI ((u22).2 0 5), aR sp, aI ((u22).2 0 7), aI ((u22).2 0 8), aI ((u22).2 0 9), aI ((u22).2 0 10)]) from (hfW_c hl 52 (by decide))) rfl rfl (Nat.le_of_ble_eq_true rfl) (by omega) (mc_wrong (d := d - 1) hl hp hr 2 ((u22).2 0 3)   (by omega)) (fun _ => ?_)
        refine T_nmH (W := fun x9 => hfW w hb sp rb rs hb (aR sp) ro ee hh ss uu vv x9 kk rr tt gg aa dd bd ga im) (v := c_wrong ((u22).2) 2 ((u22).2 0 3)) (fun pp54 hpp54 => ?_)
        have hIpp54 : RdI pp54 := by rw [hpp54]; exact c_wrong_I hIu22 _ _
        refine T_weak (ls' := [some (aR 52), none, some (aI ((u17).1)), some (aI ((u22).1))]) (am_sub_s (am_sub_n (am_sub_s (am_sub_s am_sub_nil)))) ?_
        exact K36 _ _ (by have s9 := hpp54.symm; subst s9; exact (if_pos h36).symm) (by have s9 := hpp54.symm; subst s9; exact (if_pos h36).symm) 
      · refine T_aload_n (am_dec tX5_readWalk_0 20 rfl) rfl ?_
        refine T_iload_n (am_dec tX5_readWalk_0 21 rfl) rfl ?_
        refine T_iload_n (am_dec tX5_readWalk_0 22 rfl) rfl ?_
        refine T_callV (as := [aI ((u12).1), aI ((u22).1)]) rfl (am_dec tX5_readWalk_0 23 rfl) lkX5_205 (show (hfW w hb sp rb rs hb (aR sp) ro ee hh ss uu vv ((u22).2) kk rr tt gg aa dd bd ga im)[52]? = some (cO 5 [aR 51, aI ((u22).2 0 1), aI ((u22).2 0 2), aI ((u22).2 0 3), aI ((u22).2 0 4), aI ((u22).2 0 5), aR sp, aI ((u22).2 0 7), aI ((u22).2 0 8), aI ((u22).2 0 9), aI ((u22).2 0 10)]) from (hfW_c hl 52 (by decide))) rfl rfl (Nat.le_of_ble_eq_true rfl) (by omega) (mc_walksInPort (d := d - 1) hl hp hr ((u12).1) ((u22).1)  hIu22 hTp hS (by omega) (by omega) (by omega)) (fun _ => ?_)
        obtain ⟨u42, hu42⟩ : ∃ x9, x9 = c_walksInPort ee ss ((u22).2) ((u12).1) ((u22).1) := ⟨_, rfl⟩
        rw [← hu42]
        obtain ⟨hSu42, hbu42⟩ : SpI u42.2 ∧ (u42.1 = 0 ∨ u42.1 = 1) := by rw [hu42]; exact c_walksInPort_x hS _ _ (by omega) (by omega)
        have K45 : ∀ (pp45 : am_F), pp45 = (if (u42).1 = 0 then c_wrong ((u22).2) 2 ((u22).2 0 3) else ((u22).2)) →  am_T S zX5_readWalk d u Q 57 [some (aR 52), none, some (aI ((u17).1)), some (aI ((u22).1))] [] (hfW w hb sp rb rs hb (aR sp) ro ee hh ((u42).2) uu vv pp45 kk rr tt gg aa dd bd ga im) := by
          intro pp45 hpp45 
          exact K36 _ _ (by have s9 := hu42.symm; subst s9; have s9 := hpp45.symm; subst s9; exact (if_neg h36).symm) (by have s9 := hu42.symm; subst s9; have s9 := hpp45.symm; subst s9; exact (if_neg h36).symm) 
        refine T_if_ne 57 (am_dec tX5_readWalk_0 24 rfl) rfl (fun h45 => ?_) (fun h45 => ?_)
        · refine T_weak (ls' := [some (aR 52), none, some (aI ((u17).1)), some (aI ((u22).1))]) (am_sub_s (am_sub_n (am_sub_s (am_sub_s am_sub_nil)))) ?_
          exact K45 _ (if_neg h45).symm 
        · refine T_aload_n (am_dec tX5_readWalk_0 25 rfl) rfl ?_
          refine T_iconst 2 (am_dec tX5_readWalk_0 26 rfl) rfl ⟨by decide, by decide⟩ ?_
          refine T_aload_n (am_dec tX5_readWalk_0 27 rfl) rfl ?_
          refine T_getfield 5 3 (am_dec tX5_readWalk_0 28 rfl) flX5_39_5 (show (hfW w hb sp rb rs hb (aR sp) ro ee hh ((u42).2) uu vv ((u22).2) kk rr tt gg aa dd bd ga im)[52]? = some (cO 5 [aR 51, aI ((u22).2 0 1), aI ((u22).2 0 2), aI ((u22).2 0 3), aI ((u22).2 0 4), aI ((u22).2 0 5), aR sp, aI ((u22).2 0 7), aI ((u22).2 0 8), aI ((u22).2 0 9), aI ((u22).2 0 10)]) from (hfW_c hl 52 (by decide))) rfl ?_
          refine T_callU (as := [aI 2, aI ((u22).2 0 3)]) rfl (am_dec tX5_readWalk_0 29 rfl) lkX5_43_X5 (show (hfW w hb sp rb rs hb (aR sp) ro ee hh ((u42).2) uu vv ((u22).2) kk rr tt gg aa dd bd ga im)[52]? = some (cO 5 [aR 51, aI ((u22).2 0 1), aI ((u22).2 0 2), aI ((u22).2 0 3), aI ((u22).2 0 4), aI ((u22).2 0 5), aR sp, aI ((u22).2 0 7), aI ((u22).2 0 8), aI ((u22).2 0 9), aI ((u22).2 0 10)]) from (hfW_c hl 52 (by decide))) rfl rfl (Nat.le_of_ble_eq_true rfl) (by omega) (mc_wrong (d := d - 1) hl hp hr 2 ((u22).2 0 3)   (by omega)) (fun _ => ?_)
          refine T_nmH (W := fun x9 => hfW w hb sp rb rs hb (aR sp) ro ee hh ((u42).2) uu vv x9 kk rr tt gg aa dd bd ga im) (v := c_wrong ((u22).2) 2 ((u22).2 0 3)) (fun pp54 hpp54 => ?_)
          have hIpp54 : RdI pp54 := by rw [hpp54]; exact c_wrong_I hIu22 _ _
          refine T_weak (ls' := [some (aR 52), none, some (aI ((u17).1)), some (aI ((u22).1))]) (am_sub_s (am_sub_n (am_sub_s (am_sub_s am_sub_nil)))) ?_
          exact K45 _ (by have s9 := hpp54.symm; subst s9; exact (if_pos h45).symm) 
  exact key _ ⟨rfl, rfl⟩
