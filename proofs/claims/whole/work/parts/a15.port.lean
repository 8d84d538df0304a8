/-! the port reader: a port -/
theorem c_readClause_x {ee ss pp : am_F} (h : RdI pp) (t : TpI ee) (q : SpI ss) (cs : Int) : SpI (c_readClause ee ss pp cs).1 ∧ RdI (c_readClause ee ss pp cs).2 := by
  have x1 := ((Rd2.rf h).word t).1
  have key : ∀ (pp12 : am_F) (kd_9 : Int), RdI pp12 → SpI ((if kd_9 = 0 then (let u121 : am_F × am_F := c_readPort ee ss pp12; (let pp200 : am_F := c_needSign ee ((u121).2) 59; ((u121).1, pp200))) else (if kd_9 = 1 then (let u128 : am_F × am_F := c_readBank ee ss pp12; (let pp200 : am_F := c_needSign ee ((u128).2) 59; ((u128).1, pp200))) else (if kd_9 = 2 then (let u135 : am_F × am_F := c_readWind ee ss pp12; (let pp200 : am_F := c_needSign ee ((u135).2) 59; ((u135).1, pp200))) else (if kd_9 = 3 then (let u142 : am_F × am_F := c_readThin ee ss pp12; (let pp200 : am_F := c_needSign ee ((u142).2) 59; ((u142).1, pp200))) else (if kd_9 = 4 then (let u149 : am_F × am_F := c_readLamp ee ss pp12; (let pp200 : am_F := c_needSign ee ((u149).2) 59; ((u149).1, pp200))) else (if kd_9 = 5 then (let u156 : am_F × am_F := c_readSteamer ee ss pp12; (let pp200 : am_F := c_needSign ee ((u156).2) 59; ((u156).1, pp200))) else (if kd_9 = 6 then (let u163 : am_F × am_F := c_readLot ee ss pp12; (let pp200 : am_F := c_needSign ee ((u163).2) 59; ((u163).1, pp200))) else (if kd_9 = 7 then (let u170 : am_F × am_F := c_readWalk ee ss pp12; (let pp200 : am_F := c_needSign ee ((u170).2) 59; ((u170).1, pp200))) else (if kd_9 = 8 then (let u177 : am_F × am_F := c_readWatch ee ss pp12; (let pp200 : am_F := c_needSign ee ((u177).2) 59; ((u177).1, pp200))) else (if kd_9 = 9 then (let u184 : am_F × am_F := c_readSight ee ss pp12; (let pp200 : am_F := c_needSign ee ((u184).2) 59; ((u184).1, pp200))) else (if kd_9 = 10 then (let u191 : am_F × am_F := c_readShip ee ss pp12; (let pp200 : am_F := c_needSign ee ((u191).2) 59; ((u191).1, pp200))) else (let pp200 : am_F := c_needSign ee pp12 59; (ss, pp200)))))))))))))).1 ∧ RdI ((if kd_9 = 0 then (let u121 : am_F × am_F := c_readPort ee ss pp12; (let pp200 : am_F := c_needSign ee ((u121).2) 59; ((u121).1, pp200))) else (if kd_9 = 1 then (let u128 : am_F × am_F := c_readBank ee ss pp12; (let pp200 : am_F := c_needSign ee ((u128).2) 59; ((u128).1, pp200))) else (if kd_9 = 2 then (let u135 : am_F × am_F := c_readWind ee ss pp12; (let pp200 : am_F := c_needSign ee ((u135).2) 59; ((u135).1, pp200))) else (if kd_9 = 3 then (let u142 : am_F × am_F := c_readThin ee ss pp12; (let pp200 : am_F := c_needSign ee ((u142).2) 59; ((u142).1, pp200))) else (if kd_9 = 4 then (let u149 : am_F × am_F := c_readLamp ee ss pp12; (let pp200 : am_F := c_needSign ee ((u149).2) 59; ((u149).1, pp200))) else (if kd_9 = 5 then (let u156 : am_F × am_F := c_readSteamer ee ss pp12; (let pp200 : am_F := c_needSign ee ((u156).2) 59; ((u156).1, pp200))) else (if kd_9 = 6 then (let u163 : am_F × am_F := c_readLot ee ss pp12; (let pp200 : am_F := c_needSign ee ((u163).2) 59; ((u163).1, pp200))) else (if kd_9 = 7 then (let u170 : am_F × am_F := c_readWalk ee ss pp12; (let pp200 : am_F := c_needSign ee ((u170).2) 59; ((u170).1, pp200))) else (if kd_9 = 8 then (let u177 : am_F × am_F := c_readWatch ee ss pp12; (let pp200 : am_F := c_needSign ee ((u177).2) 59; ((u177).1, pp200))) else (if kd_9 = 9 then (let u184 : am_F × am_F := c_readSight ee ss pp12; (let pp200 : am_F := c_needSign ee ((u184).2) 59; ((u184).1, pp200))) else (if kd_9 = 10 then (let u191 : am_F × am_F := c_readShip ee ss pp12; (let pp200 : am_F := c_needSign ee ((u191).2) 59; ((u191).1, pp200))) else (let pp200 : am_F := c_needSign ee pp12 59; (ss, pp200)))))))))))))).2 := fun pp12 kd_9 x2 => by
    dsimp only
    repeat' split
    all_goals first
      | exact ⟨(c_readPort_x x2 t q).1, ((Rd2.rf (c_readPort_x x2 t q).2).needSign t (by omega)).1⟩
      | exact ⟨(c_readBank_x x2 t q).1, ((Rd2.rf (c_readBank_x x2 t q).2).needSign t (by omega)).1⟩
      | exact ⟨(c_readWind_x x2 t q).1, ((Rd2.rf (c_readWind_x x2 t q).2).needSign t (by omega)).1⟩
      | exact ⟨(c_readThin_x x2 t q).1, ((Rd2.rf (c_readThin_x x2 t q).2).needSign t (by omega)).1⟩
      | exact ⟨(c_readLamp_x x2 t q).1, ((Rd2.rf (c_readLamp_x x2 t q).2).needSign t (by omega)).1⟩
      | exact ⟨(c_readSteamer_x x2 t q).1, ((Rd2.rf (c_readSteamer_x x2 t q).2).needSign t (by omega)).1⟩
      | exact ⟨(c_readLot_x x2 t q).1, ((Rd2.rf (c_readLot_x x2 t q).2).needSign t (by omega)).1⟩
      | exact ⟨(c_readWalk_x x2 t q).1, ((Rd2.rf (c_readWalk_x x2 t q).2).needSign t (by omega)).1⟩
      | exact ⟨(c_readWatch_x x2 t q).1, ((Rd2.rf (c_readWatch_x x2 t q).2).needSign t (by omega)).1⟩
      | exact ⟨(c_readSight_x x2 t q).1, ((Rd2.rf (c_readSight_x x2 t q).2).needSign t (by omega)).1⟩
      | exact ⟨(c_readShip_x x2 t q).1, ((Rd2.rf (c_readShip_x x2 t q).2).needSign t (by omega)).1⟩
      | exact ⟨q, ((Rd2.rf x2).needSign t (by omega)).1⟩
  unfold c_readClause
  exact key _ _ (by
    repeat' split
    all_goals first | exact x1 | exact c_wrong_I x1 _ _)
def c_resetS (ss : am_F) : am_F := (let ss86 : am_F := (am_row (am_put (am_put (am_put (am_put (am_put (am_put (am_put (am_put (am_put (am_put (am_put ss 0 0 6) 0 1 5) 0 2 20) 0 3 0) 0 4 0) 0 5 0) 0 6 0) 0 7 0) 0 8 0) 0 9 0) 0 10 0) 10 (am_fill 90 ((am_put (am_put (am_put (am_put (am_put (am_put (am_put (am_put (am_put (am_put (am_put ss 0 0 6) 0 1 5) 0 2 20) 0 3 0) 0 4 0) 0 5 0) 0 6 0) 0 7 0) 0 8 0) 0 9 0) 0 10 0) 10) (-1))); (am_row ss86 11 (am_fill 90 (ss86 11) 0)))
theorem mc_resetS {S : am_S} {d u : Nat} {w : AH} {hb sp rb rs : Nat} {ro : AV} (hl : 109 ≤ w.length) (hp : hb = 1 ∧ sp = 21 ∨ hb = 21 ∧ sp = 1) (hr : rb = 41 ∧ rs = 46 ∨ rb = 46 ∧ rs = 41) {ee : am_F} {hh : am_F} {ss : am_F} {uu : am_F} {vv : am_F} {pp : am_F} {kk : am_F} {rr : am_F} {tt : am_F} {gg : am_F} {aa : am_F} {dd : am_F} {bd : am_F} {ga : am_F} {im : am_F}    (hd : 1 ≤ d) : am_Out S zX3_reset d u [aR sp] (hfW w hb sp rb rs hb (aR sp) ro ee hh ss uu vv pp kk rr tt gg aa dd bd ga im) (.inl none) (hfW w hb sp rb rs hb (aR sp) ro ee hh (c_resetS ss) uu vv pp kk rr tt gg aa dd bd ga im) := by
  have key : ∀ Q : AO → AH → Prop, Q (.inl none) (hfW w hb sp rb rs hb (aR sp) ro ee hh (c_resetS ss) uu vv pp kk rr tt gg aa dd bd ga im) → am_M S zX3_reset d u [aR sp] (hfW w hb sp rb rs hb (aR sp) ro ee hh ss uu vv pp kk rr tt gg aa dd bd ga im) Q := by
    intro Q hQ
    refine am_body rfl (by decide +kernel) rfl (am_cats_cons rfl (am_cats_nil)) (Nat.le_of_ble_eq_true rfl) (?_ : am_T _ _ _ _ _ 0 [some (aR sp)] [] (hfW w hb sp rb rs hb (aR sp) ro ee hh ss uu vv pp kk rr tt gg aa dd bd ga im))
    refine T_aload_n (am_dec tX3_reset_0 0 rfl) rfl ?_
    refine T_bipush 6 (am_dec tX3_reset_0 1 rfl) rfl ⟨by decide, by decide⟩ ?_
    refine T_putfield (fs' := [aI 6, aI (ss 0 1), aI (ss 0 2), aR (sp + 1), aR (sp + 3), aR (sp + 5), aR (sp + 7), aR (sp + 9), aR (sp + 11), aR (sp + 13), aR (sp + 15), aR (sp + 17), aR (sp + 18), aR (sp + 19)]) 3 0 (am_dec tX3_reset_0 2 rfl) flX3_54_3 rfl rfl rfl trivial (show (hfW w hb sp rb rs hb (aR sp) ro ee hh ss uu vv pp kk rr tt gg aa dd bd ga im)[sp]? = some (cO 3 [aI (ss 0 0), aI (ss 0 1), aI (ss 0 2), aR (sp + 1), aR (sp + 3), aR (sp + 5), aR (sp + 7), aR (sp + 9), aR (sp + 11), aR (sp + 13), aR (sp + 15), aR (sp + 17), aR (sp + 18), aR (sp + 19)]) from ((hf_S hl hp) 0 (by decide))) (Nat.le_of_ble_eq_true rfl) rfl ?_
    refine am_wE (w2 := hfW w hb sp rb rs hb (aR sp) ro ee hh (am_put ss 0 0 6) uu vv pp kk rr tt gg aa dd bd ga im) (am_via (hf_uS hp) (hbW_f0 (w := hfW w hb sp rb rs hb (aR sp) ro ee hh ss uu vv pp kk rr tt gg aa dd bd ga im)) (hf_uS hp)) ?_
    refine T_aload_n (am_dec tX3_reset_0 3 rfl) rfl ?_
    refine T_iconst 5 (am_dec tX3_reset_0 4 rfl) rfl ⟨by decide, by decide⟩ ?_
    refine T_putfield (fs' := [aI 6, aI 5, aI (ss 0 2), aR (sp + 1), aR (sp + 3), aR (sp + 5), aR (sp + 7), aR (sp + 9), aR (sp + 11), aR (sp + 13), aR (sp + 15), aR (sp + 17), aR (sp + 18), aR (sp + 19)]) 3 1 (am_dec tX3_reset_0 5 rfl) flX3_58_3 rfl rfl rfl trivial (show (hfW w hb sp rb rs hb (aR sp) ro ee hh (am_put ss 0 0 6) uu vv pp kk rr tt gg aa dd bd ga im)[sp]? = some (cO 3 [aI 6, aI (ss 0 1), aI (ss 0 2), aR (sp + 1), aR (sp + 3), aR (sp + 5), aR (sp + 7), aR (sp + 9), aR (sp + 11), aR (sp + 13), aR (sp + 15), aR (sp + 17), aR (sp + 18), aR (sp + 19)]) from ((hf_S hl hp) 0 (by decide))) (Nat.le_of_ble_eq_true rfl) rfl ?_
    refine am_wE (w2 := hfW w hb sp rb rs hb (aR sp) ro ee hh (am_put (am_put ss 0 0 6) 0 1 5) uu vv pp kk rr tt gg aa dd bd ga im) (am_via (hf_uS hp) (hbW_f1 (w := hfW w hb sp rb rs hb (aR sp) ro ee hh (am_put ss 0 0 6) uu vv pp kk rr tt gg aa dd bd ga im)) (hf_uS hp)) ?_
    refine T_aload_n (am_dec tX3_reset_0 6 rfl) rfl ?_
    refine T_bipush 20 (am_dec tX3_reset_0 7 rfl) rfl ⟨by decide, by decide⟩ ?_
    refine T_putfield (fs' := [aI 6, aI 5, aI 20, aR (sp + 1), aR (sp + 3), aR (sp + 5), aR (sp + 7), aR (sp + 9), aR (sp + 11), aR (sp + 13), aR (sp + 15), aR (sp + 17), aR (sp + 18), aR (sp + 19)]) 3 2 (am_dec tX3_reset_0 8 rfl) flX3_61_3 rfl rfl rfl trivial (show (hfW w hb sp rb rs hb (aR sp) ro ee hh (am_put (am_put ss 0 0 6) 0 1 5) uu vv pp kk rr tt gg aa dd bd ga im)[sp]? = some (cO 3 [aI 6, aI 5, aI (ss 0 2), aR (sp + 1), aR (sp + 3), aR (sp + 5), aR (sp + 7), aR (sp + 9), aR (sp + 11), aR (sp + 13), aR (sp + 15), aR (sp + 17), aR (sp + 18), aR (sp + 19)]) from ((hf_S hl hp) 0 (by decide))) (Nat.le_of_ble_eq_true rfl) rfl ?_
    refine am_wE (w2 := hfW w hb sp rb rs hb (aR sp) ro ee hh (am_put (am_put (am_put ss 0 0 6) 0 1 5) 0 2 20) uu vv pp kk rr tt gg aa dd bd ga im) (am_via (hf_uS hp) (hbW_f2 (w := hfW w hb sp rb rs hb (aR sp) ro ee hh (am_put (am_put ss 0 0 6) 0 1 5) uu vv pp kk rr tt gg aa dd bd ga im)) (hf_uS hp)) ?_
    refine T_aload_n (am_dec tX3_reset_0 9 rfl) rfl ?_
    refine T_getfield 3 3 (am_dec tX3_reset_0 10 rfl) flX3_14_3 (show (hfW w hb sp rb rs hb (aR sp) ro ee hh (am_put (am_put (am_put ss 0 0 6) 0 1 5) 0 2 20) uu vv pp kk rr tt gg aa dd bd ga im)[sp]? = some (cO 3 [aI 6, aI 5, aI 20, aR (sp + 1), aR (sp + 3), aR (sp + 5), aR (sp + 7), aR (sp + 9), aR (sp + 11), aR (sp + 13), aR (sp + 15), aR (sp + 17), aR (sp + 18), aR (sp + 19)]) from ((hf_S hl hp) 0 (by decide))) rfl ?_
    refine T_iconst 0 (am_dec tX3_reset_0 11 rfl) rfl ⟨by decide, by decide⟩ ?_
    refine T_putfield (fs' := [aI 12, aR (sp + 2), aI 0]) 9 2 (am_dec tX3_reset_0 12 rfl) flX3_64_9 rfl rfl rfl trivial (show (hfW w hb sp rb rs hb (aR sp) ro ee hh (am_put (am_put (am_put ss 0 0 6) 0 1 5) 0 2 20) uu vv pp kk rr tt gg aa dd bd ga im)[sp + 1]? = some (cO 9 [aI 12, aR (sp + 2), aI (ss 0 3)]) from ((hf_S hl hp) 1 (by decide))) (Nat.le_of_ble_eq_true rfl) rfl ?_
    refine am_wE (w2 := hfW w hb sp rb rs hb (aR sp) ro ee hh (am_put (am_put (am_put (am_put ss 0 0 6) 0 1 5) 0 2 20) 0 3 0) uu vv pp kk rr tt gg aa dd bd ga im) (am_via (hf_uS hp) (hbW_t1 (w := hfW w hb sp rb rs hb (aR sp) ro ee hh (am_put (am_put (am_put ss 0 0 6) 0 1 5) 0 2 20) uu vv pp kk rr tt gg aa dd bd ga im)) (hf_uS hp)) ?_
    refine T_aload_n (am_dec tX3_reset_0 13 rfl) rfl ?_
    refine T_getfield 3 4 (am_dec tX3_reset_0 14 rfl) flX3_20_3 (show (hfW w hb sp rb rs hb (aR sp) ro ee hh (am_put (am_put (am_put (am_put ss 0 0 6) 0 1 5) 0 2 20) 0 3 0) uu vv pp kk rr tt gg aa dd bd ga im)[sp]? = some (cO 3 [aI 6, aI 5, aI 20, aR (sp + 1), aR (sp + 3), aR (sp + 5), aR (sp + 7), aR (sp + 9), aR (sp + 11), aR (sp + 13), aR (sp + 15), aR (sp + 17), aR (sp + 18), aR (sp + 19)]) from ((hf_S hl hp) 0 (by decide))) rfl ?_
    refine T_iconst 0 (am_dec tX3_reset_0 15 rfl) rfl ⟨by decide, by decide⟩ ?_
    refine T_putfield (fs' := [aI 12, aR (sp + 4), aI 0]) 9 2 (am_dec tX3_reset_0 16 rfl) flX3_64_9 rfl rfl rfl trivial (show (hfW w hb sp rb rs hb (aR sp) ro ee hh (am_put (am_put (am_put (am_put ss 0 0 6) 0 1 5) 0 2 20) 0 3 0) uu vv pp kk rr tt gg aa dd bd ga im)[sp + 3]? = some (cO 9 [aI 12, aR (sp + 4), aI (ss 0 4)]) from ((hf_S hl hp) 3 (by decide))) (Nat.le_of_ble_eq_true rfl) rfl ?_
    refine am_wE (w2 := hfW w hb sp rb rs hb (aR sp) ro ee hh (am_put (am_put (am_put (am_put (am_put ss 0 0 6) 0 1 5) 0 2 20) 0 3 0) 0 4 0) uu vv pp kk rr tt gg aa dd bd ga im) (am_via (hf_uS hp) (hbW_t3 (w := hfW w hb sp rb rs hb (aR sp) ro ee hh (am_put (am_put (am_put (am_put ss 0 0 6) 0 1 5) 0 2 20) 0 3 0) uu vv pp kk rr tt gg aa dd bd ga im)) (hf_uS hp)) ?_
    refine T_aload_n (am_dec tX3_reset_0 17 rfl) rfl ?_
    refine T_getfield 3 5 (am_dec tX3_reset_0 18 rfl) flX3_23_3 (show (hfW w hb sp rb rs hb (aR sp) ro ee hh (am_put (am_put (am_put (am_put (am_put ss 0 0 6) 0 1 5) 0 2 20) 0 3 0) 0 4 0) uu vv pp kk rr tt gg aa dd bd ga im)[sp]? = some (cO 3 [aI 6, aI 5, aI 20, aR (sp + 1), aR (sp + 3), aR (sp + 5), aR (sp + 7), aR (sp + 9), aR (sp + 11), aR (sp + 13), aR (sp + 15), aR (sp + 17), aR (sp + 18), aR (sp + 19)]) from ((hf_S hl hp) 0 (by decide))) rfl ?_
    refine T_iconst 0 (am_dec tX3_reset_0 19 rfl) rfl ⟨by decide, by decide⟩ ?_
    refine T_putfield (fs' := [aI 6, aR (sp + 6), aI 0]) 9 2 (am_dec tX3_reset_0 20 rfl) flX3_64_9 rfl rfl rfl trivial (show (hfW w hb sp rb rs hb (aR sp) ro ee hh (am_put (am_put (am_put (am_put (am_put ss 0 0 6) 0 1 5) 0 2 20) 0 3 0) 0 4 0) uu vv pp kk rr tt gg aa dd bd ga im)[sp + 5]? = some (cO 9 [aI 6, aR (sp + 6), aI (ss 0 5)]) from ((hf_S hl hp) 5 (by decide))) (Nat.le_of_ble_eq_true rfl) rfl ?_
    refine am_wE (w2 := hfW w hb sp rb rs hb (aR sp) ro ee hh (am_put (am_put (am_put (am_put (am_put (am_put ss 0 0 6) 0 1 5) 0 2 20) 0 3 0) 0 4 0) 0 5 0) uu vv pp kk rr tt gg aa dd bd ga im) (am_via (hf_uS hp) (hbW_t5 (w := hfW w hb sp rb rs hb (aR sp) ro ee hh (am_put (am_put (am_put (am_put (am_put ss 0 0 6) 0 1 5) 0 2 20) 0 3 0) 0 4 0) uu vv pp kk rr tt gg aa dd bd ga im)) (hf_uS hp)) ?_
    refine T_aload_n (am_dec tX3_reset_0 21 rfl) rfl ?_
    refine T_getfield 3 6 (am_dec tX3_reset_0 22 rfl) flX3_26_3 (show (hfW w hb sp rb rs hb (aR sp) ro ee hh (am_put (am_put (am_put (am_put (am_put (am_put ss 0 0 6) 0 1 5) 0 2 20) 0 3 0) 0 4 0) 0 5 0) uu vv pp kk rr tt gg aa dd bd ga im)[sp]? = some (cO 3 [aI 6, aI 5, aI 20, aR (sp + 1), aR (sp + 3), aR (sp + 5), aR (sp + 7), aR (sp + 9), aR (sp + 11), aR (sp + 13), aR (sp + 15), aR (sp + 17), aR (sp + 18), aR (sp + 19)]) from ((hf_S hl hp) 0 (by decide))) rfl ?_
    refine T_iconst 0 (am_dec tX3_reset_0 23 rfl) rfl ⟨by decide, by decide⟩ ?_
    refine T_putfield (fs' := [aI 6, aR (sp + 8), aI 0]) 9 2 (am_dec tX3_reset_0 24 rfl) flX3_64_9 rfl rfl rfl trivial (show (hfW w hb sp rb rs hb (aR sp) ro ee hh (am_put (am_put (am_put (am_put (am_put (am_put ss 0 0 6) 0 1 5) 0 2 20) 0 3 0) 0 4 0) 0 5 0) uu vv pp kk rr tt gg aa dd bd ga im)[sp + 7]? = some (cO 9 [aI 6, aR (sp + 8), aI (ss 0 6)]) from ((hf_S hl hp) 7 (by decide))) (Nat.le_of_ble_eq_true rfl) rfl ?_
    refine am_wE (w2 := hfW w hb sp rb rs hb (aR sp) ro ee hh (am_put (am_put (am_put (am_put (am_put (am_put (am_put ss 0 0 6) 0 1 5) 0 2 20) 0 3 0) 0 4 0) 0 5 0) 0 6 0) uu vv pp kk rr tt gg aa dd bd ga im) (am_via (hf_uS hp) (hbW_t7 (w := hfW w hb sp rb rs hb (aR sp) ro ee hh (am_put (am_put (am_put (am_put (am_put (am_put ss 0 0 6) 0 1 5) 0 2 20) 0 3 0) 0 4 0) 0 5 0) uu vv pp kk rr tt gg aa dd bd ga im)) (hf_uS hp)) ?_
    refine T_aload_n (am_dec tX3_reset_0 25 rfl) rfl ?_
    refine T_getfield 3 7 (am_dec tX3_reset_0 26 rfl) flX3_29_3 (show (hfW w hb sp rb rs hb (aR sp) ro ee hh (am_put (am_put (am_put (am_put (am_put (am_put (am_put ss 0 0 6) 0 1 5) 0 2 20) 0 3 0) 0 4 0) 0 5 0) 0 6 0) uu vv pp kk rr tt gg aa dd bd ga im)[sp]? = some (cO 3 [aI 6, aI 5, aI 20, aR (sp + 1), aR (sp + 3), aR (sp + 5), aR (sp + 7), aR (sp + 9), aR (sp + 11), aR (sp + 13), aR (sp + 15), aR (sp + 17), aR (sp + 18), aR (sp + 19)]) from ((hf_S hl hp) 0 (by decide))) rfl ?_
    refine T_iconst 0 (am_dec tX3_reset_0 27 rfl) rfl ⟨by decide, by decide⟩ ?_
    refine T_putfield (fs' := [aI 6, aR (sp + 10), aI 0]) 9 2 (am_dec tX3_reset_0 28 rfl) flX3_64_9 rfl rfl rfl trivial (show (hfW w hb sp rb rs hb (aR sp) ro ee hh (am_put (am_put (am_put (am_put (am_put (am_put (am_put ss 0 0 6) 0 1 5) 0 2 20) 0 3 0) 0 4 0) 0 5 0) 0 6 0) uu vv pp kk rr tt gg aa dd bd ga im)[sp + 9]? = some (cO 9 [aI 6, aR (sp + 10), aI (ss 0 7)]) from ((hf_S hl hp) 9 (by decide))) (Nat.le_of_ble_eq_true rfl) rfl ?_
    refine am_wE (w2 := hfW w hb sp rb rs hb (aR sp) ro ee hh (am_put (am_put (am_put (am_put (am_put (am_put (am_put (am_put ss 0 0 6) 0 1 5) 0 2 20) 0 3 0) 0 4 0) 0 5 0) 0 6 0) 0 7 0) uu vv pp kk rr tt gg aa dd bd ga im) (am_via (hf_uS hp) (hbW_t9 (w := hfW w hb sp rb rs hb (aR sp) ro ee hh (am_put (am_put (am_put (am_put (am_put (am_put (am_put ss 0 0 6) 0 1 5) 0 2 20) 0 3 0) 0 4 0) 0 5 0) 0 6 0) uu vv pp kk rr tt gg aa dd bd ga im)) (hf_uS hp)) ?_
    refine T_aload_n (am_dec tX3_reset_0 29 rfl) rfl ?_
    refine T_getfield 3 8 (am_dec tX3_reset_0 30 rfl) flX3_32_3 (show (hfW w hb sp rb rs hb (aR sp) ro ee hh (am_put (am_put (am_put (am_put (am_put (am_put (am_put (am_put ss 0 0 6) 0 1 5) 0 2 20) 0 3 0) 0 4 0) 0 5 0) 0 6 0) 0 7 0) uu vv pp kk rr tt gg aa dd bd ga im)[sp]? = some (cO 3 [aI 6, aI 5, aI 20, aR (sp + 1), aR (sp + 3), aR (sp + 5), aR (sp + 7), aR (sp + 9), aR (sp + 11), aR (sp + 13), aR (sp + 15), aR (sp + 17), aR (sp + 18), aR (sp + 19)]) from ((hf_S hl hp) 0 (by decide))) rfl ?_
    refine T_iconst 0 (am_dec tX3_reset_0 31 rfl) rfl ⟨by decide, by decide⟩ ?_
    refine T_putfield (fs' := [aI 4, aR (sp + 12), aI 0]) 9 2 (am_dec tX3_reset_0 32 rfl) flX3_64_9 rfl rfl rfl trivial (show (hfW w hb sp rb rs hb (aR sp) ro ee hh (am_put (am_put (am_put (am_put (am_put (am_put (am_put (am_put ss 0 0 6) 0 1 5) 0 2 20) 0 3 0) 0 4 0) 0 5 0) 0 6 0) 0 7 0) uu vv pp kk rr tt gg aa dd bd ga im)[sp + 11]? = some (cO 9 [aI 4, aR (sp + 12), aI (ss 0 8)]) from ((hf_S hl hp) 11 (by decide))) (Nat.le_of_ble_eq_true rfl) rfl ?_
    refine am_wE (w2 := hfW w hb sp rb rs hb (aR sp) ro ee hh (am_put (am_put (am_put (am_put (am_put (am_put (am_put (am_put (am_put ss 0 0 6) 0 1 5) 0 2 20) 0 3 0) 0 4 0) 0 5 0) 0 6 0) 0 7 0) 0 8 0) uu vv pp kk rr tt gg aa dd bd ga im) (am_via (hf_uS hp) (hbW_t11 (w := hfW w hb sp rb rs hb (aR sp) ro ee hh (am_put (am_put (am_put (am_put (am_put (am_put (am_put (am_put ss 0 0 6) 0 1 5) 0 2 20) 0 3 0) 0 4 0) 0 5 0) 0 6 0) 0 7 0) uu vv pp kk rr tt gg aa dd bd ga im)) (hf_uS hp)) ?_
    refine T_aload_n (am_dec tX3_reset_0 33 rfl) rfl ?_
    refine T_getfield 3 9 (am_dec tX3_reset_0 34 rfl) flX3_35_3 (show (hfW w hb sp rb rs hb (aR sp) ro ee hh (am_put (am_put (am_put (am_put (am_put (am_put (am_put (am_put (am_put ss 0 0 6) 0 1 5) 0 2 20) 0 3 0) 0 4 0) 0 5 0) 0 6 0) 0 7 0) 0 8 0) uu vv pp kk rr tt gg aa dd bd ga im)[sp]? = some (cO 3 [aI 6, aI 5, aI 20, aR (sp + 1), aR (sp + 3), aR (sp + 5), aR (sp + 7), aR (sp + 9), aR (sp + 11), aR (sp + 13), aR (sp + 15), aR (sp + 17), aR (sp + 18), aR (sp + 19)]) from ((hf_S hl hp) 0 (by decide))) rfl ?_
    refine T_iconst 0 (am_dec tX3_reset_0 35 rfl) rfl ⟨by decide, by decide⟩ ?_
    refine T_putfield (fs' := [aI 4, aR (sp + 14), aI 0]) 9 2 (am_dec tX3_reset_0 36 rfl) flX3_64_9 rfl rfl rfl trivial (show (hfW w hb sp rb rs hb (aR sp) ro ee hh (am_put (am_put (am_put (am_put (am_put (am_put (am_put (am_put (am_put ss 0 0 6) 0 1 5) 0 2 20) 0 3 0) 0 4 0) 0 5 0) 0 6 0) 0 7 0) 0 8 0) uu vv pp kk rr tt gg aa dd bd ga im)[sp + 13]? = some (cO 9 [aI 4, aR (sp + 14), aI (ss 0 9)]) from ((hf_S hl hp) 13 (by decide))) (Nat.le_of_ble_eq_true rfl) rfl ?_
    refine am_wE (w2 := hfW w hb sp rb rs hb (aR sp) ro ee hh (am_put (am_put (am_put (am_put (am_put (am_put (am_put (am_put (am_put (am_put ss 0 0 6) 0 1 5) 0 2 20) 0 3 0) 0 4 0) 0 5 0) 0 6 0) 0 7 0) 0 8 0) 0 9 0) uu vv pp kk rr tt gg aa dd bd ga im) (am_via (hf_uS hp) (hbW_t13 (w := hfW w hb sp rb rs hb (aR sp) ro ee hh (am_put (am_put (am_put (am_put (am_put (am_put (am_put (am_put (am_put ss 0 0 6) 0 1 5) 0 2 20) 0 3 0) 0 4 0) 0 5 0) 0 6 0) 0 7 0) 0 8 0) uu vv pp kk rr tt gg aa dd bd ga im)) (hf_uS hp)) ?_
    refine T_aload_n (am_dec tX3_reset_0 37 rfl) rfl ?_
    refine T_getfield 3 10 (am_dec tX3_reset_0 38 rfl) flX3_38_3 (show (hfW w hb sp rb rs hb (aR sp) ro ee hh (am_put (am_put (am_put (am_put (am_put (am_put (am_put (am_put (am_put (am_put ss 0 0 6) 0 1 5) 0 2 20) 0 3 0) 0 4 0) 0 5 0) 0 6 0) 0 7 0) 0 8 0) 0 9 0) uu vv pp kk rr tt gg aa dd bd ga im)[sp]? = some (cO 3 [aI 6, aI 5, aI 20, aR (sp + 1), aR (sp + 3), aR (sp + 5), aR (sp + 7), aR (sp + 9), aR (sp + 11), aR (sp + 13), aR (sp + 15), aR (sp + 17), aR (sp + 18), aR (sp + 19)]) from ((hf_S hl hp) 0 (by decide))) rfl ?_
    refine T_iconst 0 (am_dec tX3_reset_0 39 rfl) rfl ⟨by decide, by decide⟩ ?_
    refine T_putfield (fs' := [aI 4, aR (sp + 16), aI 0]) 9 2 (am_dec tX3_reset_1 0 rfl) flX3_64_9 rfl rfl rfl trivial (show (hfW w hb sp rb rs hb (aR sp) ro ee hh (am_put (am_put (am_put (am_put (am_put (am_put (am_put (am_put (am_put (am_put ss 0 0 6) 0 1 5) 0 2 20) 0 3 0) 0 4 0) 0 5 0) 0 6 0) 0 7 0) 0 8 0) 0 9 0) uu vv pp kk rr tt gg aa dd bd ga im)[sp + 15]? = some (cO 9 [aI 4, aR (sp + 16), aI (ss 0 10)]) from ((hf_S hl hp) 15 (by decide))) (Nat.le_of_ble_eq_true rfl) rfl ?_
    refine am_wE (w2 := hfW w hb sp rb rs hb (aR sp) ro ee hh (am_put (am_put (am_put (am_put (am_put (am_put (am_put (am_put (am_put (am_put (am_put ss 0 0 6) 0 1 5) 0 2 20) 0 3 0) 0 4 0) 0 5 0) 0 6 0) 0 7 0) 0 8 0) 0 9 0) 0 10 0) uu vv pp kk rr tt gg aa dd bd ga im) (am_via (hf_uS hp) (hbW_t15 (w := hfW w hb sp rb rs hb (aR sp) ro ee hh (am_put (am_put (am_put (am_put (am_put (am_put (am_put (am_put (am_put (am_put ss 0 0 6) 0 1 5) 0 2 20) 0 3 0) 0 4 0) 0 5 0) 0 6 0) 0 7 0) 0 8 0) 0 9 0) uu vv pp kk rr tt gg aa dd bd ga im)) (hf_uS hp)) ?_
    refine T_aload_n (am_dec tX3_reset_1 1 rfl) rfl ?_
    refine T_getfield 3 12 (am_dec tX3_reset_1 2 rfl) flX3_45_3 (show (hfW w hb sp rb rs hb (aR sp) ro ee hh (am_put (am_put (am_put (am_put (am_put (am_put (am_put (am_put (am_put (am_put (am_put ss 0 0 6) 0 1 5) 0 2 20) 0 3 0) 0 4 0) 0 5 0) 0 6 0) 0 7 0) 0 8 0) 0 9 0) 0 10 0) uu vv pp kk rr tt gg aa dd bd ga im)[sp]? = some (cO 3 [aI 6, aI 5, aI 20, aR (sp + 1), aR (sp + 3), aR (sp + 5), aR (sp + 7), aR (sp + 9), aR (sp + 11), aR (sp + 13), aR (sp + 15), aR (sp + 17), aR (sp + 18), aR (sp + 19)]) from ((hf_S hl hp) 0 (by decide))) rfl ?_
    refine T_iconst (-1) (am_dec tX3_reset_1 3 rfl) rfl ⟨by decide, by decide⟩ ?_
    refine T_callS (as := [aR (sp + 18), aI (-1)]) rfl (am_dec tX3_reset_1 4 rfl) lkX3_67 rfl (Nat.le_of_ble_eq_true rfl) (by omega) (m_fill (show (hfW w hb sp rb rs hb (aR sp) ro ee hh (am_put (am_put (am_put (am_put (am_put (am_put (am_put (am_put (am_put (am_put (am_put ss 0 0 6) 0 1 5) 0 2 20) 0 3 0) 0 4 0) 0 5 0) 0 6 0) 0 7 0) 0 8 0) 0 9 0) 0 10 0) uu vv pp kk rr tt gg aa dd bd ga im)[sp + 18]? = some (cP 0 90 ((am_put (am_put (am_put (am_put (am_put (am_put (am_put (am_put (am_put (am_put (am_put ss 0 0 6) 0 1 5) 0 2 20) 0 3 0) 0 4 0) 0 5 0) 0 6 0) 0 7 0) 0 8 0) 0 9 0) 0 10 0) 10)) from ((hf_S hl hp) 18 (by decide))) (by decide) (-1) (show _ = hfW w hb sp rb rs hb (aR sp) ro ee hh (am_row (am_put (am_put (am_put (am_put (am_put (am_put (am_put (am_put (am_put (am_put (am_put ss 0 0 6) 0 1 5) 0 2 20) 0 3 0) 0 4 0) 0 5 0) 0 6 0) 0 7 0) 0 8 0) 0 9 0) 0 10 0) 10 (am_fill 90 ((am_put (am_put (am_put (am_put (am_put (am_put (am_put (am_put (am_put (am_put (am_put ss 0 0 6) 0 1 5) 0 2 20) 0 3 0) 0 4 0) 0 5 0) 0 6 0) 0 7 0) 0 8 0) 0 9 0) 0 10 0) 10) (-1))) uu vv pp kk rr tt gg aa dd bd ga im from (am_via (hf_uS hp) (hbW_r18 (w := hfW w hb sp rb rs hb (aR sp) ro ee hh (am_put (am_put (am_put (am_put (am_put (am_put (am_put (am_put (am_put (am_put (am_put ss 0 0 6) 0 1 5) 0 2 20) 0 3 0) 0 4 0) 0 5 0) 0 6 0) 0 7 0) 0 8 0) 0 9 0) 0 10 0) uu vv pp kk rr tt gg aa dd bd ga im)) (hf_uS hp)))) (fun _ => ?_)
    refine T_nmH (W := fun x9 => hfW w hb sp rb rs hb (aR sp) ro ee hh x9 uu vv pp kk rr tt gg aa dd bd ga im) (v := (am_row (am_put (am_put (am_put (am_put (am_put (am_put (am_put (am_put (am_put (am_put (am_put ss 0 0 6) 0 1 5) 0 2 20) 0 3 0) 0 4 0) 0 5 0) 0 6 0) 0 7 0) 0 8 0) 0 9 0) 0 10 0) 10 (am_fill 90 ((am_put (am_put (am_put (am_put (am_put (am_put (am_put (am_put (am_put (am_put (am_put ss 0 0 6) 0 1 5) 0 2 20) 0 3 0) 0 4 0) 0 5 0) 0 6 0) 0 7 0) 0 8 0) 0 9 0) 0 10 0) 10) (-1)))) (fun ss86 hss86 => ?_)
    refine T_aload_n (am_dec tX3_reset_1 5 rfl) rfl ?_
    refine T_getfield 3 13 (am_dec tX3_reset_1 6 rfl) flX3_48_3 (show (hfW w hb sp rb rs hb (aR sp) ro ee hh ss86 uu vv pp kk rr tt gg aa dd bd ga im)[sp]? = some (cO 3 [aI (ss86 0 0), aI (ss86 0 1), aI (ss86 0 2), aR (sp + 1), aR (sp + 3), aR (sp + 5), aR (sp + 7), aR (sp + 9), aR (sp + 11), aR (sp + 13), aR (sp + 15), aR (sp + 17), aR (sp + 18), aR (sp + 19)]) from ((hf_S hl hp) 0 (by decide))) rfl ?_
    refine T_iconst 0 (am_dec tX3_reset_1 7 rfl) rfl ⟨by decide, by decide⟩ ?_
    refine T_callS (as := [aR (sp + 19), aI 0]) rfl (am_dec tX3_reset_1 8 rfl) lkX3_67 rfl (Nat.le_of_ble_eq_true rfl) (by omega) (m_fill (show (hfW w hb sp rb rs hb (aR sp) ro ee hh ss86 uu vv pp kk rr tt gg aa dd bd ga im)[sp + 19]? = some (cP 0 90 (ss86 11)) from ((hf_S hl hp) 19 (by decide))) (by decide) 0 (show _ = hfW w hb sp rb rs hb (aR sp) ro ee hh (am_row ss86 11 (am_fill 90 (ss86 11) 0)) uu vv pp kk rr tt gg aa dd bd ga im from (am_via (hf_uS hp) (hbW_r19 (w := hfW w hb sp rb rs hb (aR sp) ro ee hh ss86 uu vv pp kk rr tt gg aa dd bd ga im)) (hf_uS hp)))) (fun _ => ?_)
    refine T_nmH (W := fun x9 => hfW w hb sp rb rs hb (aR sp) ro ee hh x9 uu vv pp kk rr tt gg aa dd bd ga im) (v := (am_row ss86 11 (am_fill 90 (ss86 11) 0))) (fun ss94 hss94 => ?_)
    exact T_return (am_dec tX3_reset_1 9 rfl) rfl (am_tr (fun (x9 : am_F) => Q (.inl none) (hfW w hb sp rb rs hb (aR sp) ro ee hh x9 uu vv pp kk rr tt gg aa dd bd ga im)) (y := ss94) (show (c_resetS ss) = ss94 from (by have s9 := hss86.symm; subst s9; have s9 := hss94.symm; subst s9; exact rfl)) hQ)
  exact key _ ⟨rfl, rfl⟩
theorem am_fill_at : ∀ (q : Nat) (f : Nat → Int) (v : Int) (j : Nat), j < q → am_fill q f v j = v := by
  intro q f v j hj
  unfold am_fill
  have h : ∀ (n : Nat) (i : Int) (f : Nat → Int), 0 ≤ i → (i ≤ j ∧ (j : Int) < i + n) ∨ f j = v → am_fold (fun i f => am_up f i.toNat v) i n f j = v := by
    intro n
    induction n with
    | zero => intro i f h0 h; rcases h with h | h; omega; exact h
    | succ n ih =>
      intro i f h0 h
      rw [am_fold_s]
      refine ih (i + 1) _ (by omega) ?_
      unfold am_up
      by_cases e : j = i.toNat
      · right; rw [if_pos e]
      · rw [if_neg e]
        rcases h with h | h
        · left; omega
        · right; exact h
  exact h q 0 f (by omega) (Or.inl (by omega))
theorem f_at_0 (f : Nat → Int) (r c : Int) : f_at 0 f r c = 0 := by
  unfold f_at
  rw [if_neg (by omega)]
theorem c_resetS_I {h : am_F} (q : SpI h) : SpI (c_resetS h) := by
  obtain ⟨⟨⟨hV, hLt, hWd, hSt, hLp, hTh⟩, hW, hCo, hWt, hFs, hSh, hP, hFD⟩, hPa⟩ := q
  have hLt2 : LotB (c_resetS h) := fun c => by
    unfold f_lotOn
    show -1 ≤ (if 0 ≤ c ∧ c < 90 then am_fill 90 (h 10) (-1) c.toNat else -1) ∧ (if 0 ≤ c ∧ c < 90 then am_fill 90 (h 10) (-1) c.toNat else -1) < 6
    split
    · rw [am_fill_at 90 _ _ _ (by omega)]; omega
    · omega
  have hFs2 : FsB (c_resetS h) := am_fillB hFs (by omega)
  have hPa2 : PaB (c_resetS h) := hPa
  have hW2 : HbW (c_resetS h) := fun k => by
    unfold f_comes f_moves
    show (0 ≤ f_at 0 _ k 0 ∧ f_at 0 _ k 0 < 40) ∧ 0 ≤ f_at 0 _ k 1 ∧ f_at 0 _ k 1 ≤ 12
    rw [f_at_0, f_at_0]; omega
  refine ⟨⟨⟨?_, hLt2, ?_, ?_, ?_, ?_⟩, hW2, CoB_of hPa2, ?_, hFs2, ?_, PaP_of hW2 hPa2 (by show (0 : Int) ≤ 4; omega), ?_⟩, hPa2⟩
  · exact ⟨by show (2 : Int) ≤ 6; decide, by show (6 : Int) ≤ 9; decide, by show (2 : Int) ≤ 5; decide, by show (5 : Int) ≤ 9; decide, by show (1 : Int) ≤ 20; decide, by show (20 : Int) ≤ 99; decide, by show (0 : Int) ≤ 0; decide, by show (0 : Int) ≤ 12; decide, by show (0 : Int) ≤ 0; decide, by show (0 : Int) ≤ 12; decide, by show (0 : Int) ≤ 0; decide, by show (0 : Int) ≤ 6; decide, by show (0 : Int) ≤ 0; decide, by show (0 : Int) ≤ 6; decide, by show (0 : Int) ≤ 0; decide, by show (0 : Int) ≤ 6; decide, by show (0 : Int) ≤ 0; decide, by show (0 : Int) ≤ 4; decide, by show (0 : Int) ≤ 0; decide, by show (0 : Int) ≤ 4; decide, by show (0 : Int) ≤ 0; decide, by show (0 : Int) ≤ 4; decide⟩
  · intro k; show (0 ≤ f_at 0 _ k 1 ∧ f_at 0 _ k 1 ≤ 8) ∧ 0 ≤ f_at 0 _ k 2 ∧ f_at 0 _ k 2 ≤ 8; rw [f_at_0, f_at_0]; omega
  · intro k; show 0 ≤ f_at 0 _ k 1 ∧ f_at 0 _ k 1 ≤ 88; rw [f_at_0]; omega
  · intro k; show (0 ≤ f_at 0 _ k 0 ∧ f_at 0 _ k 0 ≤ 88) ∧ 0 ≤ f_at 0 _ k 1 ∧ f_at 0 _ k 1 ≤ 99; rw [f_at_0, f_at_0]; omega
  · intro k; show 0 ≤ f_at 0 _ k 1 ∧ f_at 0 _ k 1 ≤ 99; rw [f_at_0]; omega
  · intro k; show 0 ≤ f_at 0 _ k 0 ∧ f_at 0 _ k 0 ≤ 88; rw [f_at_0]; omega
  · intro k; show -100000 ≤ f_at 0 _ k 0 ∧ f_at 0 _ k 0 ≤ 100000; rw [f_at_0]; omega
  · intro k; show (0 ≤ f_at 0 _ k 0 ∧ f_at 0 _ k 0 ≤ 9) ∧ 0 ≤ f_at 0 _ k 1 ∧ f_at 0 _ k 1 ≤ 9; rw [f_at_0, f_at_0]; omega
def w_c_readInto_14 (ee : am_F) (x9 : Int × am_F × am_F) : (Int × am_F × am_F) ⊕ (Int × am_F × am_F) := let cs : Int := x9.1; let ss : am_F := x9.2.1; let pp : am_F := x9.2.2; (if 600 ≤ cs then .inr (cs, ss, pp) else (let z22 : Int := (c_fine pp); (if z22 = 0 then .inr (cs, ss, pp) else (let u29 : Int × am_F := c_peek ee pp; (if (u29).1 = (-1) then .inr (cs, ss, (u29).2) else (let u38 : am_F × am_F := c_readClause ee ss ((u29).2) cs; .inl ((cs + 1), (u38).1, (u38).2)))))))
theorem L_c_readInto_14 {S : am_S} {d u : Nat} {Q : AO → AH → Prop} {w : AH} {hb sp rb rs : Nat} {po ro : AV} (hl : 109 ≤ w.length) (hp : hb = 1 ∧ sp = 21 ∨ hb = 21 ∧ sp = 1) (hr : rb = 41 ∧ rs = 46 ∨ rb = 46 ∧ rs = 41) (ee : am_F) (hh : am_F) (uu : am_F) (vv : am_F) (kk : am_F) (rr : am_F) (tt : am_F) (gg : am_F) (aa : am_F) (dd : am_F) (bd : am_F) (ga : am_F) (im : am_F) (hTp : TpI ee) (hd : 7 ≤ d) : ∀ (n : Nat) (cs : Int) (ss : am_F) (pp : am_F), 600 - cs < n → SpI ss ∧ RdI pp ∧ 0 ≤ cs ∧ cs ≤ 600 → (∀ (cs' : Int) (ss' : am_F) (pp' : am_F), cs' = (am_wh (w_c_readInto_14 ee) n (cs, ss, pp)).1 → ss' = (am_wh (w_c_readInto_14 ee) n (cs, ss, pp)).2.1 → pp' = (am_wh (w_c_readInto_14 ee) n (cs, ss, pp)).2.2 → SpI ss' ∧ RdI pp' ∧ 0 ≤ cs' ∧ cs' ≤ 600 → am_T S zX5_readInto d u Q 47 [none, none, none] [] (hfW w hb sp rb rs hb (aR sp) ro ee hh ss' uu vv pp' kk rr tt gg aa dd bd ga im)) → am_T S zX5_readInto d u Q 14 [some (aR 52), none, some (aI cs)] [] (hfW w hb sp rb rs hb (aR sp) ro ee hh ss uu vv pp kk rr tt gg aa dd bd ga im) := by
  intro n
  induction n with
  | zero =>
    intro cs ss pp hm9 hinv k9
    have hS := hinv.1
    have hP := hinv.2.1
    have hP9 := hP
    obtain ⟨⟨vr1, vr2⟩, vr3, vr4, vr5⟩ := hP9
    exfalso; omega
  | succ n ih =>
    intro cs ss pp hm9 hinv k9
    have hS := hinv.1
    have hP := hinv.2.1
    have hP9 := hP
    obtain ⟨⟨vr1, vr2⟩, vr3, vr4, vr5⟩ := hP9
    refine T_iload_n (am_dec tX5_readInto_0 8 rfl) rfl ?_
    refine T_sipush 600 (am_dec tX5_readInto_0 9 rfl) rfl ⟨by decide, by decide⟩ ?_
    refine T_icmp_ge 47 (am_dec tX5_readInto_0 10 rfl) rfl (fun h18 => ?_) (fun h18 => ?_)
    · refine T_weak (ls' := [none, none, none]) (am_sub_n (am_sub_n (am_sub_n am_sub_nil))) ?_
      have e9 : (w_c_readInto_14 ee) (cs, ss, pp) = .inr (cs, ss, pp) := (if_pos h18)
      simp only [am_wh_r e9] at k9
      exact k9 _ _ _ rfl rfl rfl ⟨hS, hP, by omega, by omega⟩
    · refine T_aload_n (am_dec tX5_readInto_0 11 rfl) rfl ?_
      refine T_callU (as := []) rfl (am_dec tX5_readInto_0 12 rfl) lkX5_21_X5 (show (hfW w hb sp rb rs hb (aR sp) ro ee hh ss uu vv pp kk rr tt gg aa dd bd ga im)[52]? = some (cO 5 [aR 51, aI (pp 0 1), aI (pp 0 2), aI (pp 0 3), aI (pp 0 4), aI (pp 0 5), aR sp, aI (pp 0 7), aI (pp 0 8), aI (pp 0 9), aI (pp 0 10)]) from (hfW_c hl 52 (by decide))) rfl rfl (Nat.le_of_ble_eq_true rfl) (by omega) (mc_fine (d := d - 1) hl hp hr    (by omega)) (fun _ => ?_)
      refine T_nm (fun z22 hz22 => ?_)
      have hb22 := c_fine_b pp
      rw [← hz22] at hb22
      refine T_if_eq 47 (am_dec tX5_readInto_0 13 rfl) rfl (fun h25 => ?_) (fun h25 => ?_)
      · refine T_weak (ls' := [none, none, none]) (am_sub_n (am_sub_n (am_sub_n am_sub_nil))) ?_
        have e9 : (w_c_readInto_14 ee) (cs, ss, pp) = .inr (cs, ss, pp) := (by have s9 := hz22.symm; subst s9; exact ((if_neg h18).trans (if_pos h25)))
        simp only [am_wh_r e9] at k9
        exact k9 _ _ _ rfl rfl rfl ⟨hS, hP, by omega, by omega⟩
      · refine T_aload_n (am_dec tX5_readInto_0 14 rfl) rfl ?_
        refine T_callU (as := []) rfl (am_dec tX5_readInto_0 15 rfl) lkX5_25_X5 (show (hfW w hb sp rb rs hb (aR sp) ro ee hh ss uu vv pp kk rr tt gg aa dd bd ga im)[52]? = some (cO 5 [aR 51, aI (pp 0 1), aI (pp 0 2), aI (pp 0 3), aI (pp 0 4), aI (pp 0 5), aR sp, aI (pp 0 7), aI (pp 0 8), aI (pp 0 9), aI (pp 0 10)]) from (hfW_c hl 52 (by decide))) rfl rfl (Nat.le_of_ble_eq_true rfl) (by omega) (mc_peek (d := d - 1) hl hp hr   hP hTp (by omega)) (fun _ => ?_)
        obtain ⟨u29, hu29⟩ : ∃ x9, x9 = c_peek ee pp := ⟨_, rfl⟩
        rw [← hu29]
        obtain ⟨hIu29, hvu29, hwu29, hfu29⟩ : RdI u29.2 ∧ (-1 ≤ u29.1 ∧ u29.1 ≤ 255) ∧ (u29.1 = -1 ∨ u29.2 0 2 < u29.2 0 1) ∧ ∀ k j, ¬ (k = 0 ∧ j = 2) → u29.2 k j = pp k j := by rw [hu29]; exact c_peek_x hP hTp
        have hgu29 := hIu29
        obtain ⟨⟨yr291, yr292⟩, yr293, yr294, yr295⟩ := hgu29
        refine T_iconst (-1) (am_dec tX5_readInto_0 16 rfl) rfl ⟨by decide, by decide⟩ ?_
        refine T_icmp_eq 47 (am_dec tX5_readInto_0 17 rfl) rfl (fun h33 => ?_) (fun h33 => ?_)
        · refine T_weak (ls' := [none, none, none]) (am_sub_n (am_sub_n (am_sub_n am_sub_nil))) ?_
          have e9 : (w_c_readInto_14 ee) (cs, ss, pp) = .inr (cs, ss, (u29).2) := (by have s9 := hz22.symm; subst s9; have s9 := hu29.symm; subst s9; exact ((if_neg h18).trans ((if_neg h25).trans (if_pos h33))))
          simp only [am_wh_r e9] at k9
          exact k9 _ _ _ rfl rfl rfl ⟨hS, hIu29, by omega, by omega⟩
        · refine T_aload_n (am_dec tX5_readInto_0 18 rfl) rfl ?_
          refine T_iload_n (am_dec tX5_readInto_0 19 rfl) rfl ?_
          refine T_callV (as := [aI cs]) rfl (am_dec tX5_readInto_0 20 rfl) lkX5_29 (show (hfW w hb sp rb rs hb (aR sp) ro ee hh ss uu vv ((u29).2) kk rr tt gg aa dd bd ga im)[52]? = some (cO 5 [aR 51, aI ((u29).2 0 1), aI ((u29).2 0 2), aI ((u29).2 0 3), aI ((u29).2 0 4), aI ((u29).2 0 5), aR sp, aI ((u29).2 0 7), aI ((u29).2 0 8), aI ((u29).2 0 9), aI ((u29).2 0 10)]) from (hfW_c hl 52 (by decide))) rfl rfl (Nat.le_of_ble_eq_true rfl) (by omega) (mc_readClause (d := d - 1) hl hp hr cs  hIu29 hTp hS (by omega)) (fun _ => ?_)
          obtain ⟨u38, hu38⟩ : ∃ x9, x9 = c_readClause ee ss ((u29).2) cs := ⟨_, rfl⟩
          rw [← hu38]
          obtain ⟨hSu38, hIu38⟩ : SpI u38.1 ∧ RdI u38.2 := by rw [hu38]; exact c_readClause_x hIu29 hTp hS _
          refine T_iinc (ls' := [some (aR 52), none, some (aI (cs + 1))]) (cs + 1) (am_dec tX5_readInto_0 21 rfl) rfl rfl ⟨by omega, by omega⟩ (by decide) rfl ?_
          refine T_goto 14 (am_dec tX5_readInto_0 22 rfl) rfl ?_
          have e9 : (w_c_readInto_14 ee) (cs, ss, pp) = .inl (cs + 1, (u38).1, (u38).2) := (by have s9 := hz22.symm; subst s9; have s9 := hu29.symm; subst s9; have s9 := hu38.symm; subst s9; exact ((if_neg h18).trans ((if_neg h25).trans (if_neg h33))))
          simp only [am_wh_l e9] at k9
          exact ih (cs + 1) ((u38).1) ((u38).2) (by omega) ⟨hSu38, hIu38, by omega, by omega⟩ k9
def c_readInto (ee : am_F) (ss : am_F) (pp : am_F) : am_F × am_F := (let ss9 : am_F := c_resetS ss; (let ss14 : am_F := (am_wh (w_c_readInto_14 ee) 601 (0, ss9, pp)).2.1; (let pp14 : am_F := (am_wh (w_c_readInto_14 ee) 601 (0, ss9, pp)).2.2; (ss14, pp14))))
theorem mc_readInto {S : am_S} {d u : Nat} {w : AH} {hb sp rb rs : Nat} {po ro : AV} (hl : 109 ≤ w.length) (hp : hb = 1 ∧ sp = 21 ∨ hb = 21 ∧ sp = 1) (hr : rb = 41 ∧ rs = 46 ∨ rb = 46 ∧ rs = 41) {ee : am_F} {hh : am_F} {ss : am_F} {uu : am_F} {vv : am_F} {pp : am_F} {kk : am_F} {rr : am_F} {tt : am_F} {gg : am_F} {aa : am_F} {dd : am_F} {bd : am_F} {ga : am_F} {im : am_F}  (hP : RdI pp) (hTp : TpI ee) (hS : SpI ss)  (hd : 7 ≤ d) : am_Out S zX5_readInto d u [aR 52, aR sp] (hfW w hb sp rb rs hb po ro ee hh ss uu vv pp kk rr tt gg aa dd bd ga im) (.inl none) (hfW w hb sp rb rs hb (aR sp) ro ee hh ((c_readInto ee ss pp).1) uu vv ((c_readInto ee ss pp).2) kk rr tt gg aa dd bd ga im) := by
  have key : ∀ Q : AO → AH → Prop, Q (.inl none) (hfW w hb sp rb rs hb (aR sp) ro ee hh ((c_readInto ee ss pp).1) uu vv ((c_readInto ee ss pp).2) kk rr tt gg aa dd bd ga im) → am_M S zX5_readInto d u [aR 52, aR sp] (hfW w hb sp rb rs hb po ro ee hh ss uu vv pp kk rr tt gg aa dd bd ga im) Q := by
    intro Q hQ
    refine am_body rfl (by decide +kernel) rfl (am_cats_cons rfl ( am_cats_cons rfl (am_cats_nil))) (Nat.le_of_ble_eq_true rfl) (?_ : am_T _ _ _ _ _ 0 [some (aR 52), some (aR sp), none] [] (hfW w hb sp rb rs hb po ro ee hh ss uu vv pp kk rr tt gg aa dd bd ga im))
    have hP9 := hP
    obtain ⟨⟨vr1, vr2⟩, vr3, vr4, vr5⟩ := hP9
    obtain ⟨vs1, vs2, vs3, vs4, vs5, vs6, vs7, vs8, vs9, vs10, vs11, vs12, vs13, vs14, vs15, vs16, vs17, vs18, vs19, vs20, vs21, vs22⟩ := (HbI_A hS.1).1
    refine T_aload_n (am_dec tX5_readInto_0 0 rfl) rfl ?_
    refine T_aload_n (am_dec tX5_readInto_0 1 rfl) rfl ?_
    refine T_putfield (fs' := [aR 51, aI (pp 0 1), aI (pp 0 2), aI (pp 0 3), aI (pp 0 4), aI (pp 0 5), aR sp, aI (pp 0 7), aI (pp 0 8), aI (pp 0 9), aI (pp 0 10)]) 5 6 (am_dec tX5_readInto_0 2 rfl) flX5_9_5 rfl rfl rfl trivial (show (hfW w hb sp rb rs hb po ro ee hh ss uu vv pp kk rr tt gg aa dd bd ga im)[52]? = some (cO 5 [aR 51, aI (pp 0 1), aI (pp 0 2), aI (pp 0 3), aI (pp 0 4), aI (pp 0 5), po, aI (pp 0 7), aI (pp 0 8), aI (pp 0 9), aI (pp 0 10)]) from (hfW_c hl 52 (by decide))) (Nat.le_of_ble_eq_true rfl) rfl ?_
    refine am_wE (w2 := hfW w hb sp rb rs hb (aR sp) ro ee hh ss uu vv pp kk rr tt gg aa dd bd ga im) (hf_po hl) ?_
    refine T_aload_n (am_dec tX5_readInto_0 3 rfl) rfl ?_
    refine T_getfield 5 6 (am_dec tX5_readInto_0 4 rfl) flX5_9_5 (show (hfW w hb sp rb rs hb (aR sp) ro ee hh ss uu vv pp kk rr tt gg aa dd bd ga im)[52]? = some (cO 5 [aR 51, aI (pp 0 1), aI (pp 0 2), aI (pp 0 3), aI (pp 0 4), aI (pp 0 5), aR sp, aI (pp 0 7), aI (pp 0 8), aI (pp 0 9), aI (pp 0 10)]) from (hfW_c hl 52 (by decide))) rfl ?_
    refine T_callV (as := []) rfl (am_dec tX5_readInto_0 5 rfl) lkX5_15 (show (hfW w hb sp rb rs hb (aR sp) ro ee hh ss uu vv pp kk rr tt gg aa dd bd ga im)[sp]? = some (cO 3 [aI (ss 0 0), aI (ss 0 1), aI (ss 0 2), aR (sp + 1), aR (sp + 3), aR (sp + 5), aR (sp + 7), aR (sp + 9), aR (sp + 11), aR (sp + 13), aR (sp + 15), aR (sp + 17), aR (sp + 18), aR (sp + 19)]) from ((hf_S hl hp) 0 (by decide))) rfl rfl (Nat.le_of_ble_eq_true rfl) (by omega) (mc_resetS (d := d - 1) hl hp hr    (by omega)) (fun _ => ?_)
    refine T_nmH (W := fun x9 => hfW w hb sp rb rs hb (aR sp) ro ee hh x9 uu vv pp kk rr tt gg aa dd bd ga im) (v := c_resetS ss) (fun ss9 hss9 => ?_)
    have hSss9 : SpI ss9 := by rw [hss9]; exact c_resetS_I hS
    refine T_iconst 0 (am_dec tX5_readInto_0 6 rfl) rfl ⟨by decide, by decide⟩ ?_
    refine T_istore_n (ls' := [some (aR 52), some (aR sp), some (aI 0)]) (am_dec tX5_readInto_0 7 rfl) (by decide) rfl ?_
    refine T_weak (ls' := [some (aR 52), none, some (aI 0)]) (am_sub_s (am_sub_n (am_sub_s am_sub_nil))) ?_
    refine L_c_readInto_14 (po := po) hl hp hr ee hh uu vv kk rr tt gg aa dd bd ga im  hTp (by omega) 601 0 ss9 pp (by omega) ⟨hSss9, hP, by omega, by omega⟩ (fun cs_14 ss14 pp14 hcs_14 hss14 hpp14 hv14 => ?_)
    exact T_return (am_dec tX5_readInto_0 23 rfl) rfl (am_tr (fun (x9 : am_F × am_F) => Q (.inl none) (hfW w hb sp rb rs hb (aR sp) ro ee hh x9.1 uu vv x9.2 kk rr tt gg aa dd bd ga im)) (y := (ss14, pp14)) (show (c_readInto ee ss pp) = (ss14, pp14) from (by have s9 := hss9.symm; subst s9; have s9 := hcs_14.symm; subst s9; have s9 := hss14.symm; subst s9; have s9 := hpp14.symm; subst s9; exact rfl)) hQ)
  exact key _ ⟨rfl, rfl⟩
