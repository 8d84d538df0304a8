/-! the port reader: tables, cells, blocks -/
def PaB (h : am_F) : Prop := ∀ j, 0 ≤ h 9 j ∧ h 9 j ≤ 88
def SpI (h : am_F) : Prop := HbI h ∧ PaB h
theorem f_at_addS {M : Int} {f : Nat → Int} (hM : 0 ≤ M) (a b c d row col : Int) (hc : 0 ≤ col ∧ col < 4) : f_at (M + 1) (am_up (am_up (am_up (am_up f (M * 4).toNat a) ((M * 4) + 1).toNat b) ((M * 4) + 2).toNat c) ((M * 4) + 3).toNat d) row col = if row = M then (if col = 0 then a else if col = 1 then b else if col = 2 then c else d) else f_at M f row col := by
  unfold f_at am_up
  by_cases h : row = M
  · subst h
    rw [if_pos rfl, if_pos (by omega)]
    have e : col = 0 ∨ col = 1 ∨ col = 2 ∨ col = 3 := by omega
    rcases e with e | e | e | e
    · subst e; rw [if_neg (by omega), if_neg (by omega), if_neg (by omega), if_pos (by omega), if_pos rfl]
    · subst e; rw [if_neg (by omega), if_neg (by omega), if_pos (by omega), if_neg (by omega), if_pos rfl]
    · subst e; rw [if_neg (by omega), if_pos (by omega), if_neg (by omega), if_neg (by omega), if_pos rfl]
    · subst e; rw [if_pos (by omega), if_neg (by omega), if_neg (by omega), if_neg (by omega)]
  · rw [if_neg h]
    by_cases h2 : 0 ≤ row ∧ row < M ∧ 0 ≤ col ∧ col < 4
    · rw [if_pos (by omega), if_pos h2, if_neg (by omega), if_neg (by omega), if_neg (by omega), if_neg (by omega)]
    · rw [if_neg (by omega), if_neg h2]
def c_addS0 (ss : am_F) (na : Int) (nb : Int) (nc : Int) (nd : Int) : am_F := (let z1 : Int := (if 12 ≤ ss 0 3 then 1 else 0); (if z1 = 0 then (let ss53 : am_F := (am_put (am_put (am_put (am_put ss 1 (((ss 0 3) * 4).toNat) na) 1 ((((ss 0 3) * 4) + 1).toNat) nb) 1 ((((ss 0 3) * 4) + 2).toNat) nc) 1 ((((ss 0 3) * 4) + 3).toNat) nd); (am_put ss53 0 3 ((ss53 0 3) + 1))) else ss))
theorem mc_addS0 {S : am_S} {d u : Nat} {w : AH} {hb sp rb rs : Nat} {ro : AV} (hl : 109 ≤ w.length) (hp : hb = 1 ∧ sp = 21 ∨ hb = 21 ∧ sp = 1) (hr : rb = 41 ∧ rs = 46 ∨ rb = 46 ∧ rs = 41) {ee : am_F} {hh : am_F} {ss : am_F} {uu : am_F} {vv : am_F} {pp : am_F} {kk : am_F} {rr : am_F} {tt : am_F} {gg : am_F} {aa : am_F} {dd : am_F} {bd : am_F} {ga : am_F} {im : am_F} (na : Int) (nb : Int) (nc : Int) (nd : Int) (hS : SpI ss)  (hd : 1 ≤ d) : am_Out S zX10_add d u [aR (sp + 1), aI na, aI nb, aI nc, aI nd] (hfW w hb sp rb rs hb (aR sp) ro ee hh ss uu vv pp kk rr tt gg aa dd bd ga im) (.inl none) (hfW w hb sp rb rs hb (aR sp) ro ee hh (c_addS0 ss na nb nc nd) uu vv pp kk rr tt gg aa dd bd ga im) := by
  have key : ∀ Q : AO → AH → Prop, Q (.inl none) (hfW w hb sp rb rs hb (aR sp) ro ee hh (c_addS0 ss na nb nc nd) uu vv pp kk rr tt gg aa dd bd ga im) → am_M S zX10_add d u [aR (sp + 1), aI na, aI nb, aI nc, aI nd] (hfW w hb sp rb rs hb (aR sp) ro ee hh ss uu vv pp kk rr tt gg aa dd bd ga im) Q := by
    intro Q hQ
    refine am_body rfl (by decide +kernel) rfl (am_cats_cons rfl ( am_cats_cons rfl ( am_cats_cons rfl ( am_cats_cons rfl ( am_cats_cons rfl (am_cats_nil)))))) (Nat.le_of_ble_eq_true rfl) (?_ : am_T _ _ _ _ _ 0 [some (aR (sp + 1)), some (aI na), some (aI nb), some (aI nc), some (aI nd), none] [] (hfW w hb sp rb rs hb (aR sp) ro ee hh ss uu vv pp kk rr tt gg aa dd bd ga im))
    obtain ⟨vs1, vs2, vs3, vs4, vs5, vs6, vs7, vs8, vs9, vs10, vs11, vs12, vs13, vs14, vs15, vs16, vs17, vs18, vs19, vs20, vs21, vs22⟩ := (HbI_A hS.1).1
    refine T_aload_n (am_dec tX10_add_0 0 rfl) rfl ?_
    refine T_callV (as := []) rfl (am_dec tX10_add_0 1 rfl) lkX10_28 (show (hfW w hb sp rb rs hb (aR sp) ro ee hh ss uu vv pp kk rr tt gg aa dd bd ga im)[sp + 1]? = some (cO 9 [aI 12, aR (sp + 2), aI (ss 0 3)]) from ((hf_S hl hp) 1 (by decide))) rfl rfl (Nat.le_of_ble_eq_true rfl) (by omega) (m_full (d := d - 1) (show (hfW w hb sp rb rs hb (aR sp) ro ee hh ss uu vv pp kk rr tt gg aa dd bd ga im)[sp + 1]? = some (cO 9 [aI 12, aR (sp + 2), aI (ss 0 3)]) from ((hf_S hl hp) 1 (by decide))) (show (hfW w hb sp rb rs hb (aR sp) ro ee hh ss uu vv pp kk rr tt gg aa dd bd ga im)[sp + 2]? = some (cP 0 48 (ss 1)) from ((hf_S hl hp) 2 (by decide))) (by omega)) (fun _ => ?_)
    refine T_nm (fun z1 hz1 => ?_)
    have hb1 : z1 = 0 ∧ ss 0 3 < 12 ∨ z1 = 1 ∧ 12 ≤ ss 0 3 := by rw [hz1]; split <;> omega
    have K4 : ∀ (ss4 : am_F), ss4 = (if z1 = 0 then (let ss53 : am_F := (am_put (am_put (am_put (am_put ss 1 (((ss 0 3) * 4).toNat) na) 1 ((((ss 0 3) * 4) + 1).toNat) nb) 1 ((((ss 0 3) * 4) + 2).toNat) nc) 1 ((((ss 0 3) * 4) + 3).toNat) nd); (am_put ss53 0 3 ((ss53 0 3) + 1))) else ss) →  am_T S zX10_add d u Q 64 [none, none, none, none, none, none] [] (hfW w hb sp rb rs hb (aR sp) ro ee hh ss4 uu vv pp kk rr tt gg aa dd bd ga im) := by
      intro ss4 hss4 
      exact T_return (am_dec tX10_add_1 0 rfl) rfl (am_tr (fun (x9 : am_F) => Q (.inl none) (hfW w hb sp rb rs hb (aR sp) ro ee hh x9 uu vv pp kk rr tt gg aa dd bd ga im)) (y := ss4) (show (c_addS0 ss na nb nc nd) = ss4 from (by have s9 := hz1.symm; subst s9; have s9 := hss4.symm; subst s9; exact rfl)) hQ)
    refine T_if_ne 64 (am_dec tX10_add_0 2 rfl) rfl (fun h4 => ?_) (fun h4 => ?_)
    · refine T_weak (ls' := [none, none, none, none, none, none]) (am_sub_n (am_sub_n (am_sub_n (am_sub_n (am_sub_n (am_sub_n am_sub_nil)))))) ?_
      exact K4 _ (if_neg h4).symm 
    · refine T_aload_n (am_dec tX10_add_0 3 rfl) rfl ?_
      refine T_getfield 9 2 (am_dec tX10_add_0 4 rfl) flX10_25_9 (show (hfW w hb sp rb rs hb (aR sp) ro ee hh ss uu vv pp kk rr tt gg aa dd bd ga im)[sp + 1]? = some (cO 9 [aI 12, aR (sp + 2), aI (ss 0 3)]) from ((hf_S hl hp) 1 (by decide))) rfl ?_
      refine T_iconst 4 (am_dec tX10_add_0 5 rfl) rfl ⟨by decide, by decide⟩ ?_
      refine T_imul ((ss 0 3) * 4) (am_dec tX10_add_0 6 rfl) rfl ⟨by omega, by omega⟩ ?_
      refine T_istore (ls' := [some (aR (sp + 1)), some (aI na), some (aI nb), some (aI nc), some (aI nd), some (aI ((ss 0 3) * 4))]) (am_dec tX10_add_0 7 rfl) (by decide) rfl ?_
      refine T_aload_n (am_dec tX10_add_0 8 rfl) rfl ?_
      refine T_getfield 9 1 (am_dec tX10_add_0 9 rfl) flX10_11_9 (show (hfW w hb sp rb rs hb (aR sp) ro ee hh ss uu vv pp kk rr tt gg aa dd bd ga im)[sp + 1]? = some (cO 9 [aI 12, aR (sp + 2), aI (ss 0 3)]) from ((hf_S hl hp) 1 (by decide))) rfl ?_
      refine T_iload (am_dec tX10_add_0 10 rfl) rfl ?_
      refine T_iload_n (am_dec tX10_add_0 11 rfl) rfl ?_
      refine T_iastore (am_dec tX10_add_0 12 rfl) (show (hfW w hb sp rb rs hb (aR sp) ro ee hh ss uu vv pp kk rr tt gg aa dd bd ga im)[sp + 2]? = some (cP 0 48 (ss 1)) from ((hf_S hl hp) 2 (by decide))) (by omega) (by omega) ?_
      refine am_wE (w2 := hfW w hb sp rb rs hb (aR sp) ro ee hh (am_put ss 1 (((ss 0 3) * 4).toNat) na) uu vv pp kk rr tt gg aa dd bd ga im) (am_via (hf_uS hp) (hbW_p2 (w := hfW w hb sp rb rs hb (aR sp) ro ee hh ss uu vv pp kk rr tt gg aa dd bd ga im)) (hf_uS hp)) ?_
      refine T_aload_n (am_dec tX10_add_0 13 rfl) rfl ?_
      refine T_getfield 9 1 (am_dec tX10_add_0 14 rfl) flX10_11_9 (show (hfW w hb sp rb rs hb (aR sp) ro ee hh (am_put ss 1 (((ss 0 3) * 4).toNat) na) uu vv pp kk rr tt gg aa dd bd ga im)[sp + 1]? = some (cO 9 [aI 12, aR (sp + 2), aI (ss 0 3)]) from ((hf_S hl hp) 1 (by decide))) rfl ?_
      refine T_iload (am_dec tX10_add_0 15 rfl) rfl ?_
      refine T_iconst 1 (am_dec tX10_add_0 16 rfl) rfl ⟨by decide, by decide⟩ ?_
      refine T_iadd (((ss 0 3) * 4) + 1) (am_dec tX10_add_0 17 rfl) rfl ⟨by omega, by omega⟩ ?_
      refine T_iload_n (am_dec tX10_add_0 18 rfl) rfl ?_
      refine T_iastore (am_dec tX10_add_0 19 rfl) (show (hfW w hb sp rb rs hb (aR sp) ro ee hh (am_put ss 1 (((ss 0 3) * 4).toNat) na) uu vv pp kk rr tt gg aa dd bd ga im)[sp + 2]? = some (cP 0 48 ((am_put ss 1 (((ss 0 3) * 4).toNat) na) 1)) from ((hf_S hl hp) 2 (by decide))) (by omega) (by omega) ?_
      refine am_wE (w2 := hfW w hb sp rb rs hb (aR sp) ro ee hh (am_put (am_put ss 1 (((ss 0 3) * 4).toNat) na) 1 ((((ss 0 3) * 4) + 1).toNat) nb) uu vv pp kk rr tt gg aa dd bd ga im) (am_via (hf_uS hp) (hbW_p2 (w := hfW w hb sp rb rs hb (aR sp) ro ee hh (am_put ss 1 (((ss 0 3) * 4).toNat) na) uu vv pp kk rr tt gg aa dd bd ga im)) (hf_uS hp)) ?_
      refine T_aload_n (am_dec tX10_add_0 20 rfl) rfl ?_
      refine T_getfield 9 1 (am_dec tX10_add_0 21 rfl) flX10_11_9 (show (hfW w hb sp rb rs hb (aR sp) ro ee hh (am_put (am_put ss 1 (((ss 0 3) * 4).toNat) na) 1 ((((ss 0 3) * 4) + 1).toNat) nb) uu vv pp kk rr tt gg aa dd bd ga im)[sp + 1]? = some (cO 9 [aI 12, aR (sp + 2), aI (ss 0 3)]) from ((hf_S hl hp) 1 (by decide))) rfl ?_
      refine T_iload (am_dec tX10_add_0 22 rfl) rfl ?_
      refine T_iconst 2 (am_dec tX10_add_0 23 rfl) rfl ⟨by decide, by decide⟩ ?_
      refine T_iadd (((ss 0 3) * 4) + 2) (am_dec tX10_add_0 24 rfl) rfl ⟨by omega, by omega⟩ ?_
      refine T_iload_n (am_dec tX10_add_0 25 rfl) rfl ?_
      refine T_iastore (am_dec tX10_add_0 26 rfl) (show (hfW w hb sp rb rs hb (aR sp) ro ee hh (am_put (am_put ss 1 (((ss 0 3) * 4).toNat) na) 1 ((((ss 0 3) * 4) + 1).toNat) nb) uu vv pp kk rr tt gg aa dd bd ga im)[sp + 2]? = some (cP 0 48 ((am_put (am_put ss 1 (((ss 0 3) * 4).toNat) na) 1 ((((ss 0 3) * 4) + 1).toNat) nb) 1)) from ((hf_S hl hp) 2 (by decide))) (by omega) (by omega) ?_
      refine am_wE (w2 := hfW w hb sp rb rs hb (aR sp) ro ee hh (am_put (am_put (am_put ss 1 (((ss 0 3) * 4).toNat) na) 1 ((((ss 0 3) * 4) + 1).toNat) nb) 1 ((((ss 0 3) * 4) + 2).toNat) nc) uu vv pp kk rr tt gg aa dd bd ga im) (am_via (hf_uS hp) (hbW_p2 (w := hfW w hb sp rb rs hb (aR sp) ro ee hh (am_put (am_put ss 1 (((ss 0 3) * 4).toNat) na) 1 ((((ss 0 3) * 4) + 1).toNat) nb) uu vv pp kk rr tt gg aa dd bd ga im)) (hf_uS hp)) ?_
      refine T_aload_n (am_dec tX10_add_0 27 rfl) rfl ?_
      refine T_getfield 9 1 (am_dec tX10_add_0 28 rfl) flX10_11_9 (show (hfW w hb sp rb rs hb (aR sp) ro ee hh (am_put (am_put (am_put ss 1 (((ss 0 3) * 4).toNat) na) 1 ((((ss 0 3) * 4) + 1).toNat) nb) 1 ((((ss 0 3) * 4) + 2).toNat) nc) uu vv pp kk rr tt gg aa dd bd ga im)[sp + 1]? = some (cO 9 [aI 12, aR (sp + 2), aI (ss 0 3)]) from ((hf_S hl hp) 1 (by decide))) rfl ?_
      refine T_iload (am_dec tX10_add_0 29 rfl) rfl ?_
      refine T_iconst 3 (am_dec tX10_add_0 30 rfl) rfl ⟨by decide, by decide⟩ ?_
      refine T_iadd (((ss 0 3) * 4) + 3) (am_dec tX10_add_0 31 rfl) rfl ⟨by omega, by omega⟩ ?_
      refine T_iload (am_dec tX10_add_0 32 rfl) rfl ?_
      refine T_iastore (am_dec tX10_add_0 33 rfl) (show (hfW w hb sp rb rs hb (aR sp) ro ee hh (am_put (am_put (am_put ss 1 (((ss 0 3) * 4).toNat) na) 1 ((((ss 0 3) * 4) + 1).toNat) nb) 1 ((((ss 0 3) * 4) + 2).toNat) nc) uu vv pp kk rr tt gg aa dd bd ga im)[sp + 2]? = some (cP 0 48 ((am_put (am_put (am_put ss 1 (((ss 0 3) * 4).toNat) na) 1 ((((ss 0 3) * 4) + 1).toNat) nb) 1 ((((ss 0 3) * 4) + 2).toNat) nc) 1)) from ((hf_S hl hp) 2 (by decide))) (by omega) (by omega) ?_
      refine am_wE (w2 := hfW w hb sp rb rs hb (aR sp) ro ee hh (am_put (am_put (am_put (am_put ss 1 (((ss 0 3) * 4).toNat) na) 1 ((((ss 0 3) * 4) + 1).toNat) nb) 1 ((((ss 0 3) * 4) + 2).toNat) nc) 1 ((((ss 0 3) * 4) + 3).toNat) nd) uu vv pp kk rr tt gg aa dd bd ga im) (am_via (hf_uS hp) (hbW_p2 (w := hfW w hb sp rb rs hb (aR sp) ro ee hh (am_put (am_put (am_put ss 1 (((ss 0 3) * 4).toNat) na) 1 ((((ss 0 3) * 4) + 1).toNat) nb) 1 ((((ss 0 3) * 4) + 2).toNat) nc) uu vv pp kk rr tt gg aa dd bd ga im)) (hf_uS hp)) ?_
      refine T_nmH (W := fun x9 => hfW w hb sp rb rs hb (aR sp) ro ee hh x9 uu vv pp kk rr tt gg aa dd bd ga im) (v := (am_put (am_put (am_put (am_put ss 1 (((ss 0 3) * 4).toNat) na) 1 ((((ss 0 3) * 4) + 1).toNat) nb) 1 ((((ss 0 3) * 4) + 2).toNat) nc) 1 ((((ss 0 3) * 4) + 3).toNat) nd)) (fun ss53 hss53 => ?_)
      have hk53 : ss53 0 3 = ss 0 3 := by rw [hss53]; rfl
      refine T_aload_n (am_dec tX10_add_0 34 rfl) rfl ?_
      refine T_dup (am_dec tX10_add_0 35 rfl) rfl ?_
      refine T_getfield 9 2 (am_dec tX10_add_0 36 rfl) flX10_25_9 (show (hfW w hb sp rb rs hb (aR sp) ro ee hh ss53 uu vv pp kk rr tt gg aa dd bd ga im)[sp + 1]? = some (cO 9 [aI 12, aR (sp + 2), aI (ss53 0 3)]) from ((hf_S hl hp) 1 (by decide))) rfl ?_
      refine T_iconst 1 (am_dec tX10_add_0 37 rfl) rfl ⟨by decide, by decide⟩ ?_
      refine T_iadd ((ss53 0 3) + 1) (am_dec tX10_add_0 38 rfl) rfl ⟨by omega, by omega⟩ ?_
      refine T_putfield (fs' := [aI 12, aR (sp + 2), aI ((ss53 0 3) + 1)]) 9 2 (am_dec tX10_add_0 39 rfl) flX10_25_9 rfl rfl rfl trivial (show (hfW w hb sp rb rs hb (aR sp) ro ee hh ss53 uu vv pp kk rr tt gg aa dd bd ga im)[sp + 1]? = some (cO 9 [aI 12, aR (sp + 2), aI (ss53 0 3)]) from ((hf_S hl hp) 1 (by decide))) (Nat.le_of_ble_eq_true rfl) rfl ?_
      refine am_wE (w2 := hfW w hb sp rb rs hb (aR sp) ro ee hh (am_put ss53 0 3 ((ss53 0 3) + 1)) uu vv pp kk rr tt gg aa dd bd ga im) (am_via (hf_uS hp) (hbW_t1 (w := hfW w hb sp rb rs hb (aR sp) ro ee hh ss53 uu vv pp kk rr tt gg aa dd bd ga im)) (hf_uS hp)) ?_
      refine T_weak (ls' := [none, none, none, none, none, none]) (am_sub_n (am_sub_n (am_sub_n (am_sub_n (am_sub_n (am_sub_n am_sub_nil)))))) ?_
      exact K4 _ (by have s9 := hss53.symm; subst s9; exact (if_pos h4).symm) 
  exact key _ ⟨rfl, rfl⟩
def c_addS1 (ss : am_F) (na : Int) (nb : Int) (nc : Int) (nd : Int) : am_F := (let z1 : Int := (if 12 ≤ ss 0 4 then 1 else 0); (if z1 = 0 then (let ss53 : am_F := (am_put (am_put (am_put (am_put ss 2 (((ss 0 4) * 4).toNat) na) 2 ((((ss 0 4) * 4) + 1).toNat) nb) 2 ((((ss 0 4) * 4) + 2).toNat) nc) 2 ((((ss 0 4) * 4) + 3).toNat) nd); (am_put ss53 0 4 ((ss53 0 4) + 1))) else ss))
theorem mc_addS1 {S : am_S} {d u : Nat} {w : AH} {hb sp rb rs : Nat} {ro : AV} (hl : 109 ≤ w.length) (hp : hb = 1 ∧ sp = 21 ∨ hb = 21 ∧ sp = 1) (hr : rb = 41 ∧ rs = 46 ∨ rb = 46 ∧ rs = 41) {ee : am_F} {hh : am_F} {ss : am_F} {uu : am_F} {vv : am_F} {pp : am_F} {kk : am_F} {rr : am_F} {tt : am_F} {gg : am_F} {aa : am_F} {dd : am_F} {bd : am_F} {ga : am_F} {im : am_F} (na : Int) (nb : Int) (nc : Int) (nd : Int) (hS : SpI ss)  (hd : 1 ≤ d) : am_Out S zX10_add d u [aR (sp + 3), aI na, aI nb, aI nc, aI nd] (hfW w hb sp rb rs hb (aR sp) ro ee hh ss uu vv pp kk rr tt gg aa dd bd ga im) (.inl none) (hfW w hb sp rb rs hb (aR sp) ro ee hh (c_addS1 ss na nb nc nd) uu vv pp kk rr tt gg aa dd bd ga im) := by
  have key : ∀ Q : AO → AH → Prop, Q (.inl none) (hfW w hb sp rb rs hb (aR sp) ro ee hh (c_addS1 ss na nb nc nd) uu vv pp kk rr tt gg aa dd bd ga im) → am_M S zX10_add d u [aR (sp + 3), aI na, aI nb, aI nc, aI nd] (hfW w hb sp rb rs hb (aR sp) ro ee hh ss uu vv pp kk rr tt gg aa dd bd ga im) Q := by
    intro Q hQ
    refine am_body rfl (by decide +kernel) rfl (am_cats_cons rfl ( am_cats_cons rfl ( am_cats_cons rfl ( am_cats_cons rfl ( am_cats_cons rfl (am_cats_nil)))))) (Nat.le_of_ble_eq_true rfl) (?_ : am_T _ _ _ _ _ 0 [some (aR (sp + 3)), some (aI na), some (aI nb), some (aI nc), some (aI nd), none] [] (hfW w hb sp rb rs hb (aR sp) ro ee hh ss uu vv pp kk rr tt gg aa dd bd ga im))
    obtain ⟨vs1, vs2, vs3, vs4, vs5, vs6, vs7, vs8, vs9, vs10, vs11, vs12, vs13, vs14, vs15, vs16, vs17, vs18, vs19, vs20, vs21, vs22⟩ := (HbI_A hS.1).1
    refine T_aload_n (am_dec tX10_add_0 0 rfl) rfl ?_
    refine T_callV (as := []) rfl (am_dec tX10_add_0 1 rfl) lkX10_28 (show (hfW w hb sp rb rs hb (aR sp) ro ee hh ss uu vv pp kk rr tt gg aa dd bd ga im)[sp + 3]? = some (cO 9 [aI 12, aR (sp + 4), aI (ss 0 4)]) from ((hf_S hl hp) 3 (by decide))) rfl rfl (Nat.le_of_ble_eq_true rfl) (by omega) (m_full (d := d - 1) (show (hfW w hb sp rb rs hb (aR sp) ro ee hh ss uu vv pp kk rr tt gg aa dd bd ga im)[sp + 3]? = some (cO 9 [aI 12, aR (sp + 4), aI (ss 0 4)]) from ((hf_S hl hp) 3 (by decide))) (show (hfW w hb sp rb rs hb (aR sp) ro ee hh ss uu vv pp kk rr tt gg aa dd bd ga im)[sp + 4]? = some (cP 0 48 (ss 2)) from ((hf_S hl hp) 4 (by decide))) (by omega)) (fun _ => ?_)
    refine T_nm (fun z1 hz1 => ?_)
    have hb1 : z1 = 0 ∧ ss 0 4 < 12 ∨ z1 = 1 ∧ 12 ≤ ss 0 4 := by rw [hz1]; split <;> omega
    have K4 : ∀ (ss4 : am_F), ss4 = (if z1 = 0 then (let ss53 : am_F := (am_put (am_put (am_put (am_put ss 2 (((ss 0 4) * 4).toNat) na) 2 ((((ss 0 4) * 4) + 1).toNat) nb) 2 ((((ss 0 4) * 4) + 2).toNat) nc) 2 ((((ss 0 4) * 4) + 3).toNat) nd); (am_put ss53 0 4 ((ss53 0 4) + 1))) else ss) →  am_T S zX10_add d u Q 64 [none, none, none, none, none, none] [] (hfW w hb sp rb rs hb (aR sp) ro ee hh ss4 uu vv pp kk rr tt gg aa dd bd ga im) := by
      intro ss4 hss4 
      exact T_return (am_dec tX10_add_1 0 rfl) rfl (am_tr (fun (x9 : am_F) => Q (.inl none) (hfW w hb sp rb rs hb (aR sp) ro ee hh x9 uu vv pp kk rr tt gg aa dd bd ga im)) (y := ss4) (show (c_addS1 ss na nb nc nd) = ss4 from (by have s9 := hz1.symm; subst s9; have s9 := hss4.symm; subst s9; exact rfl)) hQ)
    refine T_if_ne 64 (am_dec tX10_add_0 2 rfl) rfl (fun h4 => ?_) (fun h4 => ?_)
    · refine T_weak (ls' := [none, none, none, none, none, none]) (am_sub_n (am_sub_n (am_sub_n (am_sub_n (am_sub_n (am_sub_n am_sub_nil)))))) ?_
      exact K4 _ (if_neg h4).symm 
    · refine T_aload_n (am_dec tX10_add_0 3 rfl) rfl ?_
      refine T_getfield 9 2 (am_dec tX10_add_0 4 rfl) flX10_25_9 (show (hfW w hb sp rb rs hb (aR sp) ro ee hh ss uu vv pp kk rr tt gg aa dd bd ga im)[sp + 3]? = some (cO 9 [aI 12, aR (sp + 4), aI (ss 0 4)]) from ((hf_S hl hp) 3 (by decide))) rfl ?_
      refine T_iconst 4 (am_dec tX10_add_0 5 rfl) rfl ⟨by decide, by decide⟩ ?_
      refine T_imul ((ss 0 4) * 4) (am_dec tX10_add_0 6 rfl) rfl ⟨by omega, by omega⟩ ?_
      refine T_istore (ls' := [some (aR (sp + 3)), some (aI na), some (aI nb), some (aI nc), some (aI nd), some (aI ((ss 0 4) * 4))]) (am_dec tX10_add_0 7 rfl) (by decide) rfl ?_
      refine T_aload_n (am_dec tX10_add_0 8 rfl) rfl ?_
      refine T_getfield 9 1 (am_dec tX10_add_0 9 rfl) flX10_11_9 (show (hfW w hb sp rb rs hb (aR sp) ro ee hh ss uu vv pp kk rr tt gg aa dd bd ga im)[sp + 3]? = some (cO 9 [aI 12, aR (sp + 4), aI (ss 0 4)]) from ((hf_S hl hp) 3 (by decide))) rfl ?_
      refine T_iload (am_dec tX10_add_0 10 rfl) rfl ?_
      refine T_iload_n (am_dec tX10_add_0 11 rfl) rfl ?_
      refine T_iastore (am_dec tX10_add_0 12 rfl) (show (hfW w hb sp rb rs hb (aR sp) ro ee hh ss uu vv pp kk rr tt gg aa dd bd ga im)[sp + 4]? = some (cP 0 48 (ss 2)) from ((hf_S hl hp) 4 (by decide))) (by omega) (by omega) ?_
      refine am_wE (w2 := hfW w hb sp rb rs hb (aR sp) ro ee hh (am_put ss 2 (((ss 0 4) * 4).toNat) na) uu vv pp kk rr tt gg aa dd bd ga im) (am_via (hf_uS hp) (hbW_p4 (w := hfW w hb sp rb rs hb (aR sp) ro ee hh ss uu vv pp kk rr tt gg aa dd bd ga im)) (hf_uS hp)) ?_
      refine T_aload_n (am_dec tX10_add_0 13 rfl) rfl ?_
      refine T_getfield 9 1 (am_dec tX10_add_0 14 rfl) flX10_11_9 (show (hfW w hb sp rb rs hb (aR sp) ro ee hh (am_put ss 2 (((ss 0 4) * 4).toNat) na) uu vv pp kk rr tt gg aa dd bd ga im)[sp + 3]? = some (cO 9 [aI 12, aR (sp + 4), aI (ss 0 4)]) from ((hf_S hl hp) 3 (by decide))) rfl ?_
      refine T_iload (am_dec tX10_add_0 15 rfl) rfl ?_
      refine T_iconst 1 (am_dec tX10_add_0 16 rfl) rfl ⟨by decide, by decide⟩ ?_
      refine T_iadd (((ss 0 4) * 4) + 1) (am_dec tX10_add_0 17 rfl) rfl ⟨by omega, by omega⟩ ?_
      refine T_iload_n (am_dec tX10_add_0 18 rfl) rfl ?_
      refine T_iastore (am_dec tX10_add_0 19 rfl) (show (hfW w hb sp rb rs hb (aR sp) ro ee hh (am_put ss 2 (((ss 0 4) * 4).toNat) na) uu vv pp kk rr tt gg aa dd bd ga im)[sp + 4]? = some (cP 0 48 ((am_put ss 2 (((ss 0 4) * 4).toNat) na) 2)) from ((hf_S hl hp) 4 (by decide))) (by omega) (by omega) ?_
      refine am_wE (w2 := hfW w hb sp rb rs hb (aR sp) ro ee hh (am_put (am_put ss 2 (((ss 0 4) * 4).toNat) na) 2 ((((ss 0 4) * 4) + 1).toNat) nb) uu vv pp kk rr tt gg aa dd bd ga im) (am_via (hf_uS hp) (hbW_p4 (w := hfW w hb sp rb rs hb (aR sp) ro ee hh (am_put ss 2 (((ss 0 4) * 4).toNat) na) uu vv pp kk rr tt gg aa dd bd ga im)) (hf_uS hp)) ?_
      refine T_aload_n (am_dec tX10_add_0 20 rfl) rfl ?_
      refine T_getfield 9 1 (am_dec tX10_add_0 21 rfl) flX10_11_9 (show (hfW w hb sp rb rs hb (aR sp) ro ee hh (am_put (am_put ss 2 (((ss 0 4) * 4).toNat) na) 2 ((((ss 0 4) * 4) + 1).toNat) nb) uu vv pp kk rr tt gg aa dd bd ga im)[sp + 3]? = some (cO 9 [aI 12, aR (sp + 4), aI (ss 0 4)]) from ((hf_S hl hp) 3 (by decide))) rfl ?_
      refine T_iload (am_dec tX10_add_0 22 rfl) rfl ?_
      refine T_iconst 2 (am_dec tX10_add_0 23 rfl) rfl ⟨by decide, by decide⟩ ?_
      refine T_iadd (((ss 0 4) * 4) + 2) (am_dec tX10_add_0 24 rfl) rfl ⟨by omega, by omega⟩ ?_
      refine T_iload_n (am_dec tX10_add_0 25 rfl) rfl ?_
      refine T_iastore (am_dec tX10_add_0 26 rfl) (show (hfW w hb sp rb rs hb (aR sp) ro ee hh (am_put (am_put ss 2 (((ss 0 4) * 4).toNat) na) 2 ((((ss 0 4) * 4) + 1).toNat) nb) uu vv pp kk rr tt gg aa dd bd ga im)[sp + 4]? = some (cP 0 48 ((am_put (am_put ss 2 (((ss 0 4) * 4).toNat) na) 2 ((((ss 0 4) * 4) + 1).toNat) nb) 2)) from ((hf_S hl hp) 4 (by decide))) (by omega) (by omega) ?_
      refine am_wE (w2 := hfW w hb sp rb rs hb (aR sp) ro ee hh (am_put (am_put (am_put ss 2 (((ss 0 4) * 4).toNat) na) 2 ((((ss 0 4) * 4) + 1).toNat) nb) 2 ((((ss 0 4) * 4) + 2).toNat) nc) uu vv pp kk rr tt gg aa dd bd ga im) (am_via (hf_uS hp) (hbW_p4 (w := hfW w hb sp rb rs hb (aR sp) ro ee hh (am_put (am_put ss 2 (((ss 0 4) * 4).toNat) na) 2 ((((ss 0 4) * 4) + 1).toNat) nb) uu vv pp kk rr tt gg aa dd bd ga im)) (hf_uS hp)) ?_
      refine T_aload_n (am_dec tX10_add_0 27 rfl) rfl ?_
      refine T_getfield 9 1 (am_dec tX10_add_0 28 rfl) flX10_11_9 (show (hfW w hb sp rb rs hb (aR sp) ro ee hh (am_put (am_put (am_put ss 2 (((ss 0 4) * 4).toNat) na) 2 ((((ss 0 4) * 4) + 1).toNat) nb) 2 ((((ss 0 4) * 4) + 2).toNat) nc) uu vv pp kk rr tt gg aa dd bd ga im)[sp + 3]? = some (cO 9 [aI 12, aR (sp + 4), aI (ss 0 4)]) from ((hf_S hl hp) 3 (by decide))) rfl ?_
      refine T_iload (am_dec tX10_add_0 29 rfl) rfl ?_
      refine T_iconst 3 (am_dec tX10_add_0 30 rfl) rfl ⟨by decide, by decide⟩ ?_
      refine T_iadd (((ss 0 4) * 4) + 3) (am_dec tX10_add_0 31 rfl) rfl ⟨by omega, by omega⟩ ?_
      refine T_iload (am_dec tX10_add_0 32 rfl) rfl ?_
      refine T_iastore (am_dec tX10_add_0 33 rfl) (show (hfW w hb sp rb rs hb (aR sp) ro ee hh (am_put (am_put (am_put ss 2 (((ss 0 4) * 4).toNat) na) 2 ((((ss 0 4) * 4) + 1).toNat) nb) 2 ((((ss 0 4) * 4) + 2).toNat) nc) uu vv pp kk rr tt gg aa dd bd ga im)[sp + 4]? = some (cP 0 48 ((am_put (am_put (am_put ss 2 (((ss 0 4) * 4).toNat) na) 2 ((((ss 0 4) * 4) + 1).toNat) nb) 2 ((((ss 0 4) * 4) + 2).toNat) nc) 2)) from ((hf_S hl hp) 4 (by decide))) (by omega) (by omega) ?_
      refine am_wE (w2 := hfW w hb sp rb rs hb (aR sp) ro ee hh (am_put (am_put (am_put (am_put ss 2 (((ss 0 4) * 4).toNat) na) 2 ((((ss 0 4) * 4) + 1).toNat) nb) 2 ((((ss 0 4) * 4) + 2).toNat) nc) 2 ((((ss 0 4) * 4) + 3).toNat) nd) uu vv pp kk rr tt gg aa dd bd ga im) (am_via (hf_uS hp) (hbW_p4 (w := hfW w hb sp rb rs hb (aR sp) ro ee hh (am_put (am_put (am_put ss 2 (((ss 0 4) * 4).toNat) na) 2 ((((ss 0 4) * 4) + 1).toNat) nb) 2 ((((ss 0 4) * 4) + 2).toNat) nc) uu vv pp kk rr tt gg aa dd bd ga im)) (hf_uS hp)) ?_
      refine T_nmH (W := fun x9 => hfW w hb sp rb rs hb (aR sp) ro ee hh x9 uu vv pp kk rr tt gg aa dd bd ga im) (v := (am_put (am_put (am_put (am_put ss 2 (((ss 0 4) * 4).toNat) na) 2 ((((ss 0 4) * 4) + 1).toNat) nb) 2 ((((ss 0 4) * 4) + 2).toNat) nc) 2 ((((ss 0 4) * 4) + 3).toNat) nd)) (fun ss53 hss53 => ?_)
      have hk53 : ss53 0 4 = ss 0 4 := by rw [hss53]; rfl
      refine T_aload_n (am_dec tX10_add_0 34 rfl) rfl ?_
      refine T_dup (am_dec tX10_add_0 35 rfl) rfl ?_
      refine T_getfield 9 2 (am_dec tX10_add_0 36 rfl) flX10_25_9 (show (hfW w hb sp rb rs hb (aR sp) ro ee hh ss53 uu vv pp kk rr tt gg aa dd bd ga im)[sp + 3]? = some (cO 9 [aI 12, aR (sp + 4), aI (ss53 0 4)]) from ((hf_S hl hp) 3 (by decide))) rfl ?_
      refine T_iconst 1 (am_dec tX10_add_0 37 rfl) rfl ⟨by decide, by decide⟩ ?_
      refine T_iadd ((ss53 0 4) + 1) (am_dec tX10_add_0 38 rfl) rfl ⟨by omega, by omega⟩ ?_
      refine T_putfield (fs' := [aI 12, aR (sp + 4), aI ((ss53 0 4) + 1)]) 9 2 (am_dec tX10_add_0 39 rfl) flX10_25_9 rfl rfl rfl trivial (show (hfW w hb sp rb rs hb (aR sp) ro ee hh ss53 uu vv pp kk rr tt gg aa dd bd ga im)[sp + 3]? = some (cO 9 [aI 12, aR (sp + 4), aI (ss53 0 4)]) from ((hf_S hl hp) 3 (by decide))) (Nat.le_of_ble_eq_true rfl) rfl ?_
      refine am_wE (w2 := hfW w hb sp rb rs hb (aR sp) ro ee hh (am_put ss53 0 4 ((ss53 0 4) + 1)) uu vv pp kk rr tt gg aa dd bd ga im) (am_via (hf_uS hp) (hbW_t3 (w := hfW w hb sp rb rs hb (aR sp) ro ee hh ss53 uu vv pp kk rr tt gg aa dd bd ga im)) (hf_uS hp)) ?_
      refine T_weak (ls' := [none, none, none, none, none, none]) (am_sub_n (am_sub_n (am_sub_n (am_sub_n (am_sub_n (am_sub_n am_sub_nil)))))) ?_
      exact K4 _ (by have s9 := hss53.symm; subst s9; exact (if_pos h4).symm) 
  exact key _ ⟨rfl, rfl⟩
def c_addS2 (ss : am_F) (na : Int) (nb : Int) (nc : Int) (nd : Int) : am_F := (let z1 : Int := (if 6 ≤ ss 0 5 then 1 else 0); (if z1 = 0 then (let ss53 : am_F := (am_put (am_put (am_put (am_put ss 3 (((ss 0 5) * 4).toNat) na) 3 ((((ss 0 5) * 4) + 1).toNat) nb) 3 ((((ss 0 5) * 4) + 2).toNat) nc) 3 ((((ss 0 5) * 4) + 3).toNat) nd); (am_put ss53 0 5 ((ss53 0 5) + 1))) else ss))
theorem mc_addS2 {S : am_S} {d u : Nat} {w : AH} {hb sp rb rs : Nat} {ro : AV} (hl : 109 ≤ w.length) (hp : hb = 1 ∧ sp = 21 ∨ hb = 21 ∧ sp = 1) (hr : rb = 41 ∧ rs = 46 ∨ rb = 46 ∧ rs = 41) {ee : am_F} {hh : am_F} {ss : am_F} {uu : am_F} {vv : am_F} {pp : am_F} {kk : am_F} {rr : am_F} {tt : am_F} {gg : am_F} {aa : am_F} {dd : am_F} {bd : am_F} {ga : am_F} {im : am_F} (na : Int) (nb : Int) (nc : Int) (nd : Int) (hS : SpI ss)  (hd : 1 ≤ d) : am_Out S zX10_add d u [aR (sp + 5), aI na, aI nb, aI nc, aI nd] (hfW w hb sp rb rs hb (aR sp) ro ee hh ss uu vv pp kk rr tt gg aa dd bd ga im) (.inl none) (hfW w hb sp rb rs hb (aR sp) ro ee hh (c_addS2 ss na nb nc nd) uu vv pp kk rr tt gg aa dd bd ga im) := by
  have key : ∀ Q : AO → AH → Prop, Q (.inl none) (hfW w hb sp rb rs hb (aR sp) ro ee hh (c_addS2 ss na nb nc nd) uu vv pp kk rr tt gg aa dd bd ga im) → am_M S zX10_add d u [aR (sp + 5), aI na, aI nb, aI nc, aI nd] (hfW w hb sp rb rs hb (aR sp) ro ee hh ss uu vv pp kk rr tt gg aa dd bd ga im) Q := by
    intro Q hQ
    refine am_body rfl (by decide +kernel) rfl (am_cats_cons rfl ( am_cats_cons rfl ( am_cats_cons rfl ( am_cats_cons rfl ( am_cats_cons rfl (am_cats_nil)))))) (Nat.le_of_ble_eq_true rfl) (?_ : am_T _ _ _ _ _ 0 [some (aR (sp + 5)), some (aI na), some (aI nb), some (aI nc), some (aI nd), none] [] (hfW w hb sp rb rs hb (aR sp) ro ee hh ss uu vv pp kk rr tt gg aa dd bd ga im))
    obtain ⟨vs1, vs2, vs3, vs4, vs5, vs6, vs7, vs8, vs9, vs10, vs11, vs12, vs13, vs14, vs15, vs16, vs17, vs18, vs19, vs20, vs21, vs22⟩ := (HbI_A hS.1).1
    refine T_aload_n (am_dec tX10_add_0 0 rfl) rfl ?_
    refine T_callV (as := []) rfl (am_dec tX10_add_0 1 rfl) lkX10_28 (show (hfW w hb sp rb rs hb (aR sp) ro ee hh ss uu vv pp kk rr tt gg aa dd bd ga im)[sp + 5]? = some (cO 9 [aI 6, aR (sp + 6), aI (ss 0 5)]) from ((hf_S hl hp) 5 (by decide))) rfl rfl (Nat.le_of_ble_eq_true rfl) (by omega) (m_full (d := d - 1) (show (hfW w hb sp rb rs hb (aR sp) ro ee hh ss uu vv pp kk rr tt gg aa dd bd ga im)[sp + 5]? = some (cO 9 [aI 6, aR (sp + 6), aI (ss 0 5)]) from ((hf_S hl hp) 5 (by decide))) (show (hfW w hb sp rb rs hb (aR sp) ro ee hh ss uu vv pp kk rr tt gg aa dd bd ga im)[sp + 6]? = some (cP 0 48 (ss 3)) from ((hf_S hl hp) 6 (by decide))) (by omega)) (fun _ => ?_)
    refine T_nm (fun z1 hz1 => ?_)
    have hb1 : z1 = 0 ∧ ss 0 5 < 6 ∨ z1 = 1 ∧ 6 ≤ ss 0 5 := by rw [hz1]; split <;> omega
    have K4 : ∀ (ss4 : am_F), ss4 = (if z1 = 0 then (let ss53 : am_F := (am_put (am_put (am_put (am_put ss 3 (((ss 0 5) * 4).toNat) na) 3 ((((ss 0 5) * 4) + 1).toNat) nb) 3 ((((ss 0 5) * 4) + 2).toNat) nc) 3 ((((ss 0 5) * 4) + 3).toNat) nd); (am_put ss53 0 5 ((ss53 0 5) + 1))) else ss) →  am_T S zX10_add d u Q 64 [none, none, none, none, none, none] [] (hfW w hb sp rb rs hb (aR sp) ro ee hh ss4 uu vv pp kk rr tt gg aa dd bd ga im) := by
      intro ss4 hss4 
      exact T_return (am_dec tX10_add_1 0 rfl) rfl (am_tr (fun (x9 : am_F) => Q (.inl none) (hfW w hb sp rb rs hb (aR sp) ro ee hh x9 uu vv pp kk rr tt gg aa dd bd ga im)) (y := ss4) (show (c_addS2 ss na nb nc nd) = ss4 from (by have s9 := hz1.symm; subst s9; have s9 := hss4.symm; subst s9; exact rfl)) hQ)
    refine T_if_ne 64 (am_dec tX10_add_0 2 rfl) rfl (fun h4 => ?_) (fun h4 => ?_)
    · refine T_weak (ls' := [none, none, none, none, none, none]) (am_sub_n (am_sub_n (am_sub_n (am_sub_n (am_sub_n (am_sub_n am_sub_nil)))))) ?_
      exact K4 _ (if_neg h4).symm 
    · refine T_aload_n (am_dec tX10_add_0 3 rfl) rfl ?_
      refine T_getfield 9 2 (am_dec tX10_add_0 4 rfl) flX10_25_9 (show (hfW w hb sp rb rs hb (aR sp) ro ee hh ss uu vv pp kk rr tt gg aa dd bd ga im)[sp + 5]? = some (cO 9 [aI 6, aR (sp + 6), aI (ss 0 5)]) from ((hf_S hl hp) 5 (by decide))) rfl ?_
      refine T_iconst 4 (am_dec tX10_add_0 5 rfl) rfl ⟨by decide, by decide⟩ ?_
      refine T_imul ((ss 0 5) * 4) (am_dec tX10_add_0 6 rfl) rfl ⟨by omega, by omega⟩ ?_
      refine T_istore (ls' := [some (aR (sp + 5)), some (aI na), some (aI nb), some (aI nc), some (aI nd), some (aI ((ss 0 5) * 4))]) (am_dec tX10_add_0 7 rfl) (by decide) rfl ?_
      refine T_aload_n (am_dec tX10_add_0 8 rfl) rfl ?_
      refine T_getfield 9 1 (am_dec tX10_add_0 9 rfl) flX10_11_9 (show (hfW w hb sp rb rs hb (aR sp) ro ee hh ss uu vv pp kk rr tt gg aa dd bd ga im)[sp + 5]? = some (cO 9 [aI 6, aR (sp + 6), aI (ss 0 5)]) from ((hf_S hl hp) 5 (by decide))) rfl ?_
      refine T_iload (am_dec tX10_add_0 10 rfl) rfl ?_
      refine T_iload_n (am_dec tX10_add_0 11 rfl) rfl ?_
      refine T_iastore (am_dec tX10_add_0 12 rfl) (show (hfW w hb sp rb rs hb (aR sp) ro ee hh ss uu vv pp kk rr tt gg aa dd bd ga im)[sp + 6]? = some (cP 0 48 (ss 3)) from ((hf_S hl hp) 6 (by decide))) (by omega) (by omega) ?_
      refine am_wE (w2 := hfW w hb sp rb rs hb (aR sp) ro ee hh (am_put ss 3 (((ss 0 5) * 4).toNat) na) uu vv pp kk rr tt gg aa dd bd ga im) (am_via (hf_uS hp) (hbW_p6 (w := hfW w hb sp rb rs hb (aR sp) ro ee hh ss uu vv pp kk rr tt gg aa dd bd ga im)) (hf_uS hp)) ?_
      refine T_aload_n (am_dec tX10_add_0 13 rfl) rfl ?_
      refine T_getfield 9 1 (am_dec tX10_add_0 14 rfl) flX10_11_9 (show (hfW w hb sp rb rs hb (aR sp) ro ee hh (am_put ss 3 (((ss 0 5) * 4).toNat) na) uu vv pp kk rr tt gg aa dd bd ga im)[sp + 5]? = some (cO 9 [aI 6, aR (sp + 6), aI (ss 0 5)]) from ((hf_S hl hp) 5 (by decide))) rfl ?_
      refine T_iload (am_dec tX10_add_0 15 rfl) rfl ?_
      refine T_iconst 1 (am_dec tX10_add_0 16 rfl) rfl ⟨by decide, by decide⟩ ?_
      refine T_iadd (((ss 0 5) * 4) + 1) (am_dec tX10_add_0 17 rfl) rfl ⟨by omega, by omega⟩ ?_
      refine T_iload_n (am_dec tX10_add_0 18 rfl) rfl ?_
      refine T_iastore (am_dec tX10_add_0 19 rfl) (show (hfW w hb sp rb rs hb (aR sp) ro ee hh (am_put ss 3 (((ss 0 5) * 4).toNat) na) uu vv pp kk rr tt gg aa dd bd ga im)[sp + 6]? = some (cP 0 48 ((am_put ss 3 (((ss 0 5) * 4).toNat) na) 3)) from ((hf_S hl hp) 6 (by decide))) (by omega) (by omega) ?_
      refine am_wE (w2 := hfW w hb sp rb rs hb (aR sp) ro ee hh (am_put (am_put ss 3 (((ss 0 5) * 4).toNat) na) 3 ((((ss 0 5) * 4) + 1).toNat) nb) uu vv pp kk rr tt gg aa dd bd ga im) (am_via (hf_uS hp) (hbW_p6 (w := hfW w hb sp rb rs hb (aR sp) ro ee hh (am_put ss 3 (((ss 0 5) * 4).toNat) na) uu vv pp kk rr tt gg aa dd bd ga im)) (hf_uS hp)) ?_
      refine T_aload_n (am_dec tX10_add_0 20 rfl) rfl ?_
      refine T_getfield 9 1 (am_dec tX10_add_0 21 rfl) flX10_11_9 (show (hfW w hb sp rb rs hb (aR sp) ro ee hh (am_put (am_put ss 3 (((ss 0 5) * 4).toNat) na) 3 ((((ss 0 5) * 4) + 1).toNat) nb) uu vv pp kk rr tt gg aa dd bd ga im)[sp + 5]? = some (cO 9 [aI 6, aR (sp + 6), aI (ss 0 5)]) from ((hf_S hl hp) 5 (by decide))) rfl ?_
      refine T_iload (am_dec tX10_add_0 22 rfl) rfl ?_
      refine T_iconst 2 (am_dec tX10_add_0 23 rfl) rfl ⟨by decide, by decide⟩ ?_
      refine T_iadd (((ss 0 5) * 4) + 2) (am_dec tX10_add_0 24 rfl) rfl ⟨by omega, by omega⟩ ?_
      refine T_iload_n (am_dec tX10_add_0 25 rfl) rfl ?_
      refine T_iastore (am_dec tX10_add_0 26 rfl) (show (hfW w hb sp rb rs hb (aR sp) ro ee hh (am_put (am_put ss 3 (((ss 0 5) * 4).toNat) na) 3 ((((ss 0 5) * 4) + 1).toNat) nb) uu vv pp kk rr tt gg aa dd bd ga im)[sp + 6]? = some (cP 0 48 ((am_put (am_put ss 3 (((ss 0 5) * 4).toNat) na) 3 ((((ss 0 5) * 4) + 1).toNat) nb) 3)) from ((hf_S hl hp) 6 (by decide))) (by omega) (by omega) ?_
      refine am_wE (w2 := hfW w hb sp rb rs hb (aR sp) ro ee hh (am_put (am_put (am_put ss 3 (((ss 0 5) * 4).toNat) na) 3 ((((ss 0 5) * 4) + 1).toNat) nb) 3 ((((ss 0 5) * 4) + 2).toNat) nc) uu vv pp kk rr tt gg aa dd bd ga im) (am_via (hf_uS hp) (hbW_p6 (w := hfW w hb sp rb rs hb (aR sp) ro ee hh (am_put (am_put ss 3 (((ss 0 5) * 4).toNat) na) 3 ((((ss 0 5) * 4) + 1).toNat) nb) uu vv pp kk rr tt gg aa dd bd ga im)) (hf_uS hp)) ?_
      refine T_aload_n (am_dec tX10_add_0 27 rfl) rfl ?_
      refine T_getfield 9 1 (am_dec tX10_add_0 28 rfl) flX10_11_9 (show (hfW w hb sp rb rs hb (aR sp) ro ee hh (am_put (am_put (am_put ss 3 (((ss 0 5) * 4).toNat) na) 3 ((((ss 0 5) * 4) + 1).toNat) nb) 3 ((((ss 0 5) * 4) + 2).toNat) nc) uu vv pp kk rr tt gg aa dd bd ga im)[sp + 5]? = some (cO 9 [aI 6, aR (sp + 6), aI (ss 0 5)]) from ((hf_S hl hp) 5 (by decide))) rfl ?_
      refine T_iload (am_dec tX10_add_0 29 rfl) rfl ?_
      refine T_iconst 3 (am_dec tX10_add_0 30 rfl) rfl ⟨by decide, by decide⟩ ?_
      refine T_iadd (((ss 0 5) * 4) + 3) (am_dec tX10_add_0 31 rfl) rfl ⟨by omega, by omega⟩ ?_
      refine T_iload (am_dec tX10_add_0 32 rfl) rfl ?_
      refine T_iastore (am_dec tX10_add_0 33 rfl) (show (hfW w hb sp rb rs hb (aR sp) ro ee hh (am_put (am_put (am_put ss 3 (((ss 0 5) * 4).toNat) na) 3 ((((ss 0 5) * 4) + 1).toNat) nb) 3 ((((ss 0 5) * 4) + 2).toNat) nc) uu vv pp kk rr tt gg aa dd bd ga im)[sp + 6]? = some (cP 0 48 ((am_put (am_put (am_put ss 3 (((ss 0 5) * 4).toNat) na) 3 ((((ss 0 5) * 4) + 1).toNat) nb) 3 ((((ss 0 5) * 4) + 2).toNat) nc) 3)) from ((hf_S hl hp) 6 (by decide))) (by omega) (by omega) ?_
      refine am_wE (w2 := hfW w hb sp rb rs hb (aR sp) ro ee hh (am_put (am_put (am_put (am_put ss 3 (((ss 0 5) * 4).toNat) na) 3 ((((ss 0 5) * 4) + 1).toNat) nb) 3 ((((ss 0 5) * 4) + 2).toNat) nc) 3 ((((ss 0 5) * 4) + 3).toNat) nd) uu vv pp kk rr tt gg aa dd bd ga im) (am_via (hf_uS hp) (hbW_p6 (w := hfW w hb sp rb rs hb (aR sp) ro ee hh (am_put (am_put (am_put ss 3 (((ss 0 5) * 4).toNat) na) 3 ((((ss 0 5) * 4) + 1).toNat) nb) 3 ((((ss 0 5) * 4) + 2).toNat) nc) uu vv pp kk rr tt gg aa dd bd ga im)) (hf_uS hp)) ?_
      refine T_nmH (W := fun x9 => hfW w hb sp rb rs hb (aR sp) ro ee hh x9 uu vv pp kk rr tt gg aa dd bd ga im) (v := (am_put (am_put (am_put (am_put ss 3 (((ss 0 5) * 4).toNat) na) 3 ((((ss 0 5) * 4) + 1).toNat) nb) 3 ((((ss 0 5) * 4) + 2).toNat) nc) 3 ((((ss 0 5) * 4) + 3).toNat) nd)) (fun ss53 hss53 => ?_)
      have hk53 : ss53 0 5 = ss 0 5 := by rw [hss53]; rfl
      refine T_aload_n (am_dec tX10_add_0 34 rfl) rfl ?_
      refine T_dup (am_dec tX10_add_0 35 rfl) rfl ?_
      refine T_getfield 9 2 (am_dec tX10_add_0 36 rfl) flX10_25_9 (show (hfW w hb sp rb rs hb (aR sp) ro ee hh ss53 uu vv pp kk rr tt gg aa dd bd ga im)[sp + 5]? = some (cO 9 [aI 6, aR (sp + 6), aI (ss53 0 5)]) from ((hf_S hl hp) 5 (by decide))) rfl ?_
      refine T_iconst 1 (am_dec tX10_add_0 37 rfl) rfl ⟨by decide, by decide⟩ ?_
      refine T_iadd ((ss53 0 5) + 1) (am_dec tX10_add_0 38 rfl) rfl ⟨by omega, by omega⟩ ?_
      refine T_putfield (fs' := [aI 6, aR (sp + 6), aI ((ss53 0 5) + 1)]) 9 2 (am_dec tX10_add_0 39 rfl) flX10_25_9 rfl rfl rfl trivial (show (hfW w hb sp rb rs hb (aR sp) ro ee hh ss53 uu vv pp kk rr tt gg aa dd bd ga im)[sp + 5]? = some (cO 9 [aI 6, aR (sp + 6), aI (ss53 0 5)]) from ((hf_S hl hp) 5 (by decide))) (Nat.le_of_ble_eq_true rfl) rfl ?_
      refine am_wE (w2 := hfW w hb sp rb rs hb (aR sp) ro ee hh (am_put ss53 0 5 ((ss53 0 5) + 1)) uu vv pp kk rr tt gg aa dd bd ga im) (am_via (hf_uS hp) (hbW_t5 (w := hfW w hb sp rb rs hb (aR sp) ro ee hh ss53 uu vv pp kk rr tt gg aa dd bd ga im)) (hf_uS hp)) ?_
      refine T_weak (ls' := [none, none, none, none, none, none]) (am_sub_n (am_sub_n (am_sub_n (am_sub_n (am_sub_n (am_sub_n am_sub_nil)))))) ?_
      exact K4 _ (by have s9 := hss53.symm; subst s9; exact (if_pos h4).symm) 
  exact key _ ⟨rfl, rfl⟩
def c_addS3 (ss : am_F) (na : Int) (nb : Int) (nc : Int) (nd : Int) : am_F := (let z1 : Int := (if 6 ≤ ss 0 6 then 1 else 0); (if z1 = 0 then (let ss53 : am_F := (am_put (am_put (am_put (am_put ss 4 (((ss 0 6) * 4).toNat) na) 4 ((((ss 0 6) * 4) + 1).toNat) nb) 4 ((((ss 0 6) * 4) + 2).toNat) nc) 4 ((((ss 0 6) * 4) + 3).toNat) nd); (am_put ss53 0 6 ((ss53 0 6) + 1))) else ss))
theorem mc_addS3 {S : am_S} {d u : Nat} {w : AH} {hb sp rb rs : Nat} {ro : AV} (hl : 109 ≤ w.length) (hp : hb = 1 ∧ sp = 21 ∨ hb = 21 ∧ sp = 1) (hr : rb = 41 ∧ rs = 46 ∨ rb = 46 ∧ rs = 41) {ee : am_F} {hh : am_F} {ss : am_F} {uu : am_F} {vv : am_F} {pp : am_F} {kk : am_F} {rr : am_F} {tt : am_F} {gg : am_F} {aa : am_F} {dd : am_F} {bd : am_F} {ga : am_F} {im : am_F} (na : Int) (nb : Int) (nc : Int) (nd : Int) (hS : SpI ss)  (hd : 1 ≤ d) : am_Out S zX10_add d u [aR (sp + 7), aI na, aI nb, aI nc, aI nd] (hfW w hb sp rb rs hb (aR sp) ro ee hh ss uu vv pp kk rr tt gg aa dd bd ga im) (.inl none) (hfW w hb sp rb rs hb (aR sp) ro ee hh (c_addS3 ss na nb nc nd) uu vv pp kk rr tt gg aa dd bd ga im) := by
  have key : ∀ Q : AO → AH → Prop, Q (.inl none) (hfW w hb sp rb rs hb (aR sp) ro ee hh (c_addS3 ss na nb nc nd) uu vv pp kk rr tt gg aa dd bd ga im) → am_M S zX10_add d u [aR (sp + 7), aI na, aI nb, aI nc, aI nd] (hfW w hb sp rb rs hb (aR sp) ro ee hh ss uu vv pp kk rr tt gg aa dd bd ga im) Q := by
    intro Q hQ
    refine am_body rfl (by decide +kernel) rfl (am_cats_cons rfl ( am_cats_cons rfl ( am_cats_cons rfl ( am_cats_cons rfl ( am_cats_cons rfl (am_cats_nil)))))) (Nat.le_of_ble_eq_true rfl) (?_ : am_T _ _ _ _ _ 0 [some (aR (sp + 7)), some (aI na), some (aI nb), some (aI nc), some (aI nd), none] [] (hfW w hb sp rb rs hb (aR sp) ro ee hh ss uu vv pp kk rr tt gg aa dd bd ga im))
    obtain ⟨vs1, vs2, vs3, vs4, vs5, vs6, vs7, vs8, vs9, vs10, vs11, vs12, vs13, vs14, vs15, vs16, vs17, vs18, vs19, vs20, vs21, vs22⟩ := (HbI_A hS.1).1
    refine T_aload_n (am_dec tX10_add_0 0 rfl) rfl ?_
    refine T_callV (as := []) rfl (am_dec tX10_add_0 1 rfl) lkX10_28 (show (hfW w hb sp rb rs hb (aR sp) ro ee hh ss uu vv pp kk rr tt gg aa dd bd ga im)[sp + 7]? = some (cO 9 [aI 6, aR (sp + 8), aI (ss 0 6)]) from ((hf_S hl hp) 7 (by decide))) rfl rfl (Nat.le_of_ble_eq_true rfl) (by omega) (m_full (d := d - 1) (show (hfW w hb sp rb rs hb (aR sp) ro ee hh ss uu vv pp kk rr tt gg aa dd bd ga im)[sp + 7]? = some (cO 9 [aI 6, aR (sp + 8), aI (ss 0 6)]) from ((hf_S hl hp) 7 (by decide))) (show (hfW w hb sp rb rs hb (aR sp) ro ee hh ss uu vv pp kk rr tt gg aa dd bd ga im)[sp + 8]? = some (cP 0 48 (ss 4)) from ((hf_S hl hp) 8 (by decide))) (by omega)) (fun _ => ?_)
    refine T_nm (fun z1 hz1 => ?_)
    have hb1 : z1 = 0 ∧ ss 0 6 < 6 ∨ z1 = 1 ∧ 6 ≤ ss 0 6 := by rw [hz1]; split <;> omega
    have K4 : ∀ (ss4 : am_F), ss4 = (if z1 = 0 then (let ss53 : am_F := (am_put (am_put (am_put (am_put ss 4 (((ss 0 6) * 4).toNat) na) 4 ((((ss 0 6) * 4) + 1).toNat) nb) 4 ((((ss 0 6) * 4) + 2).toNat) nc) 4 ((((ss 0 6) * 4) + 3).toNat) nd); (am_put ss53 0 6 ((ss53 0 6) + 1))) else ss) →  am_T S zX10_add d u Q 64 [none, none, none, none, none, none] [] (hfW w hb sp rb rs hb (aR sp) ro ee hh ss4 uu vv pp kk rr tt gg aa dd bd ga im) := by
      intro ss4 hss4 
      exact T_return (am_dec tX10_add_1 0 rfl) rfl (am_tr (fun (x9 : am_F) => Q (.inl none) (hfW w hb sp rb rs hb (aR sp) ro ee hh x9 uu vv pp kk rr tt gg aa dd bd ga im)) (y := ss4) (show (c_addS3 ss na nb nc nd) = ss4 from (by have s9 := hz1.symm; subst s9; have s9 := hss4.symm; subst s9; exact rfl)) hQ)
    refine T_if_ne 64 (am_dec tX10_add_0 2 rfl) rfl (fun h4 => ?_) (fun h4 => ?_)
    · refine T_weak (ls' := [none, none, none, none, none, none]) (am_sub_n (am_sub_n (am_sub_n (am_sub_n (am_sub_n (am_sub_n am_sub_nil)))))) ?_
      exact K4 _ (if_neg h4).symm 
    · refine T_aload_n (am_dec tX10_add_0 3 rfl) rfl ?_
      refine T_getfield 9 2 (am_dec tX10_add_0 4 rfl) flX10_25_9 (show (hfW w hb sp rb rs hb (aR sp) ro ee hh ss uu vv pp kk rr tt gg aa dd bd ga im)[sp + 7]? = some (cO 9 [aI 6, aR (sp + 8), aI (ss 0 6)]) from ((hf_S hl hp) 7 (by decide))) rfl ?_
      refine T_iconst 4 (am_dec tX10_add_0 5 rfl) rfl ⟨by decide, by decide⟩ ?_
      refine T_imul ((ss 0 6) * 4) (am_dec tX10_add_0 6 rfl) rfl ⟨by omega, by omega⟩ ?_
      refine T_istore (ls' := [some (aR (sp + 7)), some (aI na), some (aI nb), some (aI nc), some (aI nd), some (aI ((ss 0 6) * 4))]) (am_dec tX10_add_0 7 rfl) (by decide) rfl ?_
      refine T_aload_n (am_dec tX10_add_0 8 rfl) rfl ?_
      refine T_getfield 9 1 (am_dec tX10_add_0 9 rfl) flX10_11_9 (show (hfW w hb sp rb rs hb (aR sp) ro ee hh ss uu vv pp kk rr tt gg aa dd bd ga im)[sp + 7]? = some (cO 9 [aI 6, aR (sp + 8), aI (ss 0 6)]) from ((hf_S hl hp) 7 (by decide))) rfl ?_
      refine T_iload (am_dec tX10_add_0 10 rfl) rfl ?_
      refine T_iload_n (am_dec tX10_add_0 11 rfl) rfl ?_
      refine T_iastore (am_dec tX10_add_0 12 rfl) (show (hfW w hb sp rb rs hb (aR sp) ro ee hh ss uu vv pp kk rr tt gg aa dd bd ga im)[sp + 8]? = some (cP 0 48 (ss 4)) from ((hf_S hl hp) 8 (by decide))) (by omega) (by omega) ?_
      refine am_wE (w2 := hfW w hb sp rb rs hb (aR sp) ro ee hh (am_put ss 4 (((ss 0 6) * 4).toNat) na) uu vv pp kk rr tt gg aa dd bd ga im) (am_via (hf_uS hp) (hbW_p8 (w := hfW w hb sp rb rs hb (aR sp) ro ee hh ss uu vv pp kk rr tt gg aa dd bd ga im)) (hf_uS hp)) ?_
      refine T_aload_n (am_dec tX10_add_0 13 rfl) rfl ?_
      refine T_getfield 9 1 (am_dec tX10_add_0 14 rfl) flX10_11_9 (show (hfW w hb sp rb rs hb (aR sp) ro ee hh (am_put ss 4 (((ss 0 6) * 4).toNat) na) uu vv pp kk rr tt gg aa dd bd ga im)[sp + 7]? = some (cO 9 [aI 6, aR (sp + 8), aI (ss 0 6)]) from ((hf_S hl hp) 7 (by decide))) rfl ?_
      refine T_iload (am_dec tX10_add_0 15 rfl) rfl ?_
      refine T_iconst 1 (am_dec tX10_add_0 16 rfl) rfl ⟨by decide, by decide⟩ ?_
      refine T_iadd (((ss 0 6) * 4) + 1) (am_dec tX10_add_0 17 rfl) rfl ⟨by omega, by omega⟩ ?_
      refine T_iload_n (am_dec tX10_add_0 18 rfl) rfl ?_
      refine T_iastore (am_dec tX10_add_0 19 rfl) (show (hfW w hb sp rb rs hb (aR sp) ro ee hh (am_put ss 4 (((ss 0 6) * 4).toNat) na) uu vv pp kk rr tt gg aa dd bd ga im)[sp + 8]? = some (cP 0 48 ((am_put ss 4 (((ss 0 6) * 4).toNat) na) 4)) from ((hf_S hl hp) 8 (by decide))) (by omega) (by omega) ?_
      refine am_wE (w2 := hfW w hb sp rb rs hb (aR sp) ro ee hh (am_put (am_put ss 4 (((ss 0 6) * 4).toNat) na) 4 ((((ss 0 6) * 4) + 1).toNat) nb) uu vv pp kk rr tt gg aa dd bd ga im) (am_via (hf_uS hp) (hbW_p8 (w := hfW w hb sp rb rs hb (aR sp) ro ee hh (am_put ss 4 (((ss 0 6) * 4).toNat) na) uu vv pp kk rr tt gg aa dd bd ga im)) (hf_uS hp)) ?_
      refine T_aload_n (am_dec tX10_add_0 20 rfl) rfl ?_
      refine T_getfield 9 1 (am_dec tX10_add_0 21 rfl) flX10_11_9 (show (hfW w hb sp rb rs hb (aR sp) ro ee hh (am_put (am_put ss 4 (((ss 0 6) * 4).toNat) na) 4 ((((ss 0 6) * 4) + 1).toNat) nb) uu vv pp kk rr tt gg aa dd bd ga im)[sp + 7]? = some (cO 9 [aI 6, aR (sp + 8), aI (ss 0 6)]) from ((hf_S hl hp) 7 (by decide))) rfl ?_
      refine T_iload (am_dec tX10_add_0 22 rfl) rfl ?_
      refine T_iconst 2 (am_dec tX10_add_0 23 rfl) rfl ⟨by decide, by decide⟩ ?_
      refine T_iadd (((ss 0 6) * 4) + 2) (am_dec tX10_add_0 24 rfl) rfl ⟨by omega, by omega⟩ ?_
      refine T_iload_n (am_dec tX10_add_0 25 rfl) rfl ?_
      refine T_iastore (am_dec tX10_add_0 26 rfl) (show (hfW w hb sp rb rs hb (aR sp) ro ee hh (am_put (am_put ss 4 (((ss 0 6) * 4).toNat) na) 4 ((((ss 0 6) * 4) + 1).toNat) nb) uu vv pp kk rr tt gg aa dd bd ga im)[sp + 8]? = some (cP 0 48 ((am_put (am_put ss 4 (((ss 0 6) * 4).toNat) na) 4 ((((ss 0 6) * 4) + 1).toNat) nb) 4)) from ((hf_S hl hp) 8 (by decide))) (by omega) (by omega) ?_
      refine am_wE (w2 := hfW w hb sp rb rs hb (aR sp) ro ee hh (am_put (am_put (am_put ss 4 (((ss 0 6) * 4).toNat) na) 4 ((((ss 0 6) * 4) + 1).toNat) nb) 4 ((((ss 0 6) * 4) + 2).toNat) nc) uu vv pp kk rr tt gg aa dd bd ga im) (am_via (hf_uS hp) (hbW_p8 (w := hfW w hb sp rb rs hb (aR sp) ro ee hh (am_put (am_put ss 4 (((ss 0 6) * 4).toNat) na) 4 ((((ss 0 6) * 4) + 1).toNat) nb) uu vv pp kk rr tt gg aa dd bd ga im)) (hf_uS hp)) ?_
      refine T_aload_n (am_dec tX10_add_0 27 rfl) rfl ?_
      refine T_getfield 9 1 (am_dec tX10_add_0 28 rfl) flX10_11_9 (show (hfW w hb sp rb rs hb (aR sp) ro ee hh (am_put (am_put (am_put ss 4 (((ss 0 6) * 4).toNat) na) 4 ((((ss 0 6) * 4) + 1).toNat) nb) 4 ((((ss 0 6) * 4) + 2).toNat) nc) uu vv pp kk rr tt gg aa dd bd ga im)[sp + 7]? = some (cO 9 [aI 6, aR (sp + 8), aI (ss 0 6)]) from ((hf_S hl hp) 7 (by decide))) rfl ?_
      refine T_iload (am_dec tX10_add_0 29 rfl) rfl ?_
      refine T_iconst 3 (am_dec tX10_add_0 30 rfl) rfl ⟨by decide, by decide⟩ ?_
      refine T_iadd (((ss 0 6) * 4) + 3) (am_dec tX10_add_0 31 rfl) rfl ⟨by omega, by omega⟩ ?_
      refine T_iload (am_dec tX10_add_0 32 rfl) rfl ?_
      refine T_iastore (am_dec tX10_add_0 33 rfl) (show (hfW w hb sp rb rs hb (aR sp) ro ee hh (am_put (am_put (am_put ss 4 (((ss 0 6) * 4).toNat) na) 4 ((((ss 0 6) * 4) + 1).toNat) nb) 4 ((((ss 0 6) * 4) + 2).toNat) nc) uu vv pp kk rr tt gg aa dd bd ga im)[sp + 8]? = some (cP 0 48 ((am_put (am_put (am_put ss 4 (((ss 0 6) * 4).toNat) na) 4 ((((ss 0 6) * 4) + 1).toNat) nb) 4 ((((ss 0 6) * 4) + 2).toNat) nc) 4)) from ((hf_S hl hp) 8 (by decide))) (by omega) (by omega) ?_
      refine am_wE (w2 := hfW w hb sp rb rs hb (aR sp) ro ee hh (am_put (am_put (am_put (am_put ss 4 (((ss 0 6) * 4).toNat) na) 4 ((((ss 0 6) * 4) + 1).toNat) nb) 4 ((((ss 0 6) * 4) + 2).toNat) nc) 4 ((((ss 0 6) * 4) + 3).toNat) nd) uu vv pp kk rr tt gg aa dd bd ga im) (am_via (hf_uS hp) (hbW_p8 (w := hfW w hb sp rb rs hb (aR sp) ro ee hh (am_put (am_put (am_put ss 4 (((ss 0 6) * 4).toNat) na) 4 ((((ss 0 6) * 4) + 1).toNat) nb) 4 ((((ss 0 6) * 4) + 2).toNat) nc) uu vv pp kk rr tt gg aa dd bd ga im)) (hf_uS hp)) ?_
      refine T_nmH (W := fun x9 => hfW w hb sp rb rs hb (aR sp) ro ee hh x9 uu vv pp kk rr tt gg aa dd bd ga im) (v := (am_put (am_put (am_put (am_put ss 4 (((ss 0 6) * 4).toNat) na) 4 ((((ss 0 6) * 4) + 1).toNat) nb) 4 ((((ss 0 6) * 4) + 2).toNat) nc) 4 ((((ss 0 6) * 4) + 3).toNat) nd)) (fun ss53 hss53 => ?_)
      have hk53 : ss53 0 6 = ss 0 6 := by rw [hss53]; rfl
      refine T_aload_n (am_dec tX10_add_0 34 rfl) rfl ?_
      refine T_dup (am_dec tX10_add_0 35 rfl) rfl ?_
      refine T_getfield 9 2 (am_dec tX10_add_0 36 rfl) flX10_25_9 (show (hfW w hb sp rb rs hb (aR sp) ro ee hh ss53 uu vv pp kk rr tt gg aa dd bd ga im)[sp + 7]? = some (cO 9 [aI 6, aR (sp + 8), aI (ss53 0 6)]) from ((hf_S hl hp) 7 (by decide))) rfl ?_
      refine T_iconst 1 (am_dec tX10_add_0 37 rfl) rfl ⟨by decide, by decide⟩ ?_
      refine T_iadd ((ss53 0 6) + 1) (am_dec tX10_add_0 38 rfl) rfl ⟨by omega, by omega⟩ ?_
      refine T_putfield (fs' := [aI 6, aR (sp + 8), aI ((ss53 0 6) + 1)]) 9 2 (am_dec tX10_add_0 39 rfl) flX10_25_9 rfl rfl rfl trivial (show (hfW w hb sp rb rs hb (aR sp) ro ee hh ss53 uu vv pp kk rr tt gg aa dd bd ga im)[sp + 7]? = some (cO 9 [aI 6, aR (sp + 8), aI (ss53 0 6)]) from ((hf_S hl hp) 7 (by decide))) (Nat.le_of_ble_eq_true rfl) rfl ?_
      refine am_wE (w2 := hfW w hb sp rb rs hb (aR sp) ro ee hh (am_put ss53 0 6 ((ss53 0 6) + 1)) uu vv pp kk rr tt gg aa dd bd ga im) (am_via (hf_uS hp) (hbW_t7 (w := hfW w hb sp rb rs hb (aR sp) ro ee hh ss53 uu vv pp kk rr tt gg aa dd bd ga im)) (hf_uS hp)) ?_
      refine T_weak (ls' := [none, none, none, none, none, none]) (am_sub_n (am_sub_n (am_sub_n (am_sub_n (am_sub_n (am_sub_n am_sub_nil)))))) ?_
      exact K4 _ (by have s9 := hss53.symm; subst s9; exact (if_pos h4).symm) 
  exact key _ ⟨rfl, rfl⟩
def c_addS4 (ss : am_F) (na : Int) (nb : Int) (nc : Int) (nd : Int) : am_F := (let z1 : Int := (if 6 ≤ ss 0 7 then 1 else 0); (if z1 = 0 then (let ss53 : am_F := (am_put (am_put (am_put (am_put ss 5 (((ss 0 7) * 4).toNat) na) 5 ((((ss 0 7) * 4) + 1).toNat) nb) 5 ((((ss 0 7) * 4) + 2).toNat) nc) 5 ((((ss 0 7) * 4) + 3).toNat) nd); (am_put ss53 0 7 ((ss53 0 7) + 1))) else ss))
theorem mc_addS4 {S : am_S} {d u : Nat} {w : AH} {hb sp rb rs : Nat} {ro : AV} (hl : 109 ≤ w.length) (hp : hb = 1 ∧ sp = 21 ∨ hb = 21 ∧ sp = 1) (hr : rb = 41 ∧ rs = 46 ∨ rb = 46 ∧ rs = 41) {ee : am_F} {hh : am_F} {ss : am_F} {uu : am_F} {vv : am_F} {pp : am_F} {kk : am_F} {rr : am_F} {tt : am_F} {gg : am_F} {aa : am_F} {dd : am_F} {bd : am_F} {ga : am_F} {im : am_F} (na : Int) (nb : Int) (nc : Int) (nd : Int) (hS : SpI ss)  (hd : 1 ≤ d) : am_Out S zX10_add d u [aR (sp + 9), aI na, aI nb, aI nc, aI nd] (hfW w hb sp rb rs hb (aR sp) ro ee hh ss uu vv pp kk rr tt gg aa dd bd ga im) (.inl none) (hfW w hb sp rb rs hb (aR sp) ro ee hh (c_addS4 ss na nb nc nd) uu vv pp kk rr tt gg aa dd bd ga im) := by
  have key : ∀ Q : AO → AH → Prop, Q (.inl none) (hfW w hb sp rb rs hb (aR sp) ro ee hh (c_addS4 ss na nb nc nd) uu vv pp kk rr tt gg aa dd bd ga im) → am_M S zX10_add d u [aR (sp + 9), aI na, aI nb, aI nc, aI nd] (hfW w hb sp rb rs hb (aR sp) ro ee hh ss uu vv pp kk rr tt gg aa dd bd ga im) Q := by
    intro Q hQ
    refine am_body rfl (by decide +kernel) rfl (am_cats_cons rfl ( am_cats_cons rfl ( am_cats_cons rfl ( am_cats_cons rfl ( am_cats_cons rfl (am_cats_nil)))))) (Nat.le_of_ble_eq_true rfl) (?_ : am_T _ _ _ _ _ 0 [some (aR (sp + 9)), some (aI na), some (aI nb), some (aI nc), some (aI nd), none] [] (hfW w hb sp rb rs hb (aR sp) ro ee hh ss uu vv pp kk rr tt gg aa dd bd ga im))
    obtain ⟨vs1, vs2, vs3, vs4, vs5, vs6, vs7, vs8, vs9, vs10, vs11, vs12, vs13, vs14, vs15, vs16, vs17, vs18, vs19, vs20, vs21, vs22⟩ := (HbI_A hS.1).1
    refine T_aload_n (am_dec tX10_add_0 0 rfl) rfl ?_
    refine T_callV (as := []) rfl (am_dec tX10_add_0 1 rfl) lkX10_28 (show (hfW w hb sp rb rs hb (aR sp) ro ee hh ss uu vv pp kk rr tt gg aa dd bd ga im)[sp + 9]? = some (cO 9 [aI 6, aR (sp + 10), aI (ss 0 7)]) from ((hf_S hl hp) 9 (by decide))) rfl rfl (Nat.le_of_ble_eq_true rfl) (by omega) (m_full (d := d - 1) (show (hfW w hb sp rb rs hb (aR sp) ro ee hh ss uu vv pp kk rr tt gg aa dd bd ga im)[sp + 9]? = some (cO 9 [aI 6, aR (sp + 10), aI (ss 0 7)]) from ((hf_S hl hp) 9 (by decide))) (show (hfW w hb sp rb rs hb (aR sp) ro ee hh ss uu vv pp kk rr tt gg aa dd bd ga im)[sp + 10]? = some (cP 0 48 (ss 5)) from ((hf_S hl hp) 10 (by decide))) (by omega)) (fun _ => ?_)
    refine T_nm (fun z1 hz1 => ?_)
    have hb1 : z1 = 0 ∧ ss 0 7 < 6 ∨ z1 = 1 ∧ 6 ≤ ss 0 7 := by rw [hz1]; split <;> omega
    have K4 : ∀ (ss4 : am_F), ss4 = (if z1 = 0 then (let ss53 : am_F := (am_put (am_put (am_put (am_put ss 5 (((ss 0 7) * 4).toNat) na) 5 ((((ss 0 7) * 4) + 1).toNat) nb) 5 ((((ss 0 7) * 4) + 2).toNat) nc) 5 ((((ss 0 7) * 4) + 3).toNat) nd); (am_put ss53 0 7 ((ss53 0 7) + 1))) else ss) →  am_T S zX10_add d u Q 64 [none, none, none, none, none, none] [] (hfW w hb sp rb rs hb (aR sp) ro ee hh ss4 uu vv pp kk rr tt gg aa dd bd ga im) := by
      intro ss4 hss4 
      exact T_return (am_dec tX10_add_1 0 rfl) rfl (am_tr (fun (x9 : am_F) => Q (.inl none) (hfW w hb sp rb rs hb (aR sp) ro ee hh x9 uu vv pp kk rr tt gg aa dd bd ga im)) (y := ss4) (show (c_addS4 ss na nb nc nd) = ss4 from (by have s9 := hz1.symm; subst s9; have s9 := hss4.symm; subst s9; exact rfl)) hQ)
    refine T_if_ne 64 (am_dec tX10_add_0 2 rfl) rfl (fun h4 => ?_) (fun h4 => ?_)
    · refine T_weak (ls' := [none, none, none, none, none, none]) (am_sub_n (am_sub_n (am_sub_n (am_sub_n (am_sub_n (am_sub_n am_sub_nil)))))) ?_
      exact K4 _ (if_neg h4).symm 
    · refine T_aload_n (am_dec tX10_add_0 3 rfl) rfl ?_
      refine T_getfield 9 2 (am_dec tX10_add_0 4 rfl) flX10_25_9 (show (hfW w hb sp rb rs hb (aR sp) ro ee hh ss uu vv pp kk rr tt gg aa dd bd ga im)[sp + 9]? = some (cO 9 [aI 6, aR (sp + 10), aI (ss 0 7)]) from ((hf_S hl hp) 9 (by decide))) rfl ?_
      refine T_iconst 4 (am_dec tX10_add_0 5 rfl) rfl ⟨by decide, by decide⟩ ?_
      refine T_imul ((ss 0 7) * 4) (am_dec tX10_add_0 6 rfl) rfl ⟨by omega, by omega⟩ ?_
      refine T_istore (ls' := [some (aR (sp + 9)), some (aI na), some (aI nb), some (aI nc), some (aI nd), some (aI ((ss 0 7) * 4))]) (am_dec tX10_add_0 7 rfl) (by decide) rfl ?_
      refine T_aload_n (am_dec tX10_add_0 8 rfl) rfl ?_
      refine T_getfield 9 1 (am_dec tX10_add_0 9 rfl) flX10_11_9 (show (hfW w hb sp rb rs hb (aR sp) ro ee hh ss uu vv pp kk rr tt gg aa dd bd ga im)[sp + 9]? = some (cO 9 [aI 6, aR (sp + 10), aI (ss 0 7)]) from ((hf_S hl hp) 9 (by decide))) rfl ?_
      refine T_iload (am_dec tX10_add_0 10 rfl) rfl ?_
      refine T_iload_n (am_dec tX10_add_0 11 rfl) rfl ?_
      refine T_iastore (am_dec tX10_add_0 12 rfl) (show (hfW w hb sp rb rs hb (aR sp) ro ee hh ss uu vv pp kk rr tt gg aa dd bd ga im)[sp + 10]? = some (cP 0 48 (ss 5)) from ((hf_S hl hp) 10 (by decide))) (by omega) (by omega) ?_
      refine am_wE (w2 := hfW w hb sp rb rs hb (aR sp) ro ee hh (am_put ss 5 (((ss 0 7) * 4).toNat) na) uu vv pp kk rr tt gg aa dd bd ga im) (am_via (hf_uS hp) (hbW_p10 (w := hfW w hb sp rb rs hb (aR sp) ro ee hh ss uu vv pp kk rr tt gg aa dd bd ga im)) (hf_uS hp)) ?_
      refine T_aload_n (am_dec tX10_add_0 13 rfl) rfl ?_
      refine T_getfield 9 1 (am_dec tX10_add_0 14 rfl) flX10_11_9 (show (hfW w hb sp rb rs hb (aR sp) ro ee hh (am_put ss 5 (((ss 0 7) * 4).toNat) na) uu vv pp kk rr tt gg aa dd bd ga im)[sp + 9]? = some (cO 9 [aI 6, aR (sp + 10), aI (ss 0 7)]) from ((hf_S hl hp) 9 (by decide))) rfl ?_
      refine T_iload (am_dec tX10_add_0 15 rfl) rfl ?_
      refine T_iconst 1 (am_dec tX10_add_0 16 rfl) rfl ⟨by decide, by decide⟩ ?_
      refine T_iadd (((ss 0 7) * 4) + 1) (am_dec tX10_add_0 17 rfl) rfl ⟨by omega, by omega⟩ ?_
      refine T_iload_n (am_dec tX10_add_0 18 rfl) rfl ?_
      refine T_iastore (am_dec tX10_add_0 19 rfl) (show (hfW w hb sp rb rs hb (aR sp) ro ee hh (am_put ss 5 (((ss 0 7) * 4).toNat) na) uu vv pp kk rr tt gg aa dd bd ga im)[sp + 10]? = some (cP 0 48 ((am_put ss 5 (((ss 0 7) * 4).toNat) na) 5)) from ((hf_S hl hp) 10 (by decide))) (by omega) (by omega) ?_
      refine am_wE (w2 := hfW w hb sp rb rs hb (aR sp) ro ee hh (am_put (am_put ss 5 (((ss 0 7) * 4).toNat) na) 5 ((((ss 0 7) * 4) + 1).toNat) nb) uu vv pp kk rr tt gg aa dd bd ga im) (am_via (hf_uS hp) (hbW_p10 (w := hfW w hb sp rb rs hb (aR sp) ro ee hh (am_put ss 5 (((ss 0 7) * 4).toNat) na) uu vv pp kk rr tt gg aa dd bd ga im)) (hf_uS hp)) ?_
      refine T_aload_n (am_dec tX10_add_0 20 rfl) rfl ?_
      refine T_getfield 9 1 (am_dec tX10_add_0 21 rfl) flX10_11_9 (show (hfW w hb sp rb rs hb (aR sp) ro ee hh (am_put (am_put ss 5 (((ss 0 7) * 4).toNat) na) 5 ((((ss 0 7) * 4) + 1).toNat) nb) uu vv pp kk rr tt gg aa dd bd ga im)[sp + 9]? = some (cO 9 [aI 6, aR (sp + 10), aI (ss 0 7)]) from ((hf_S hl hp) 9 (by decide))) rfl ?_
      refine T_iload (am_dec tX10_add_0 22 rfl) rfl ?_
      refine T_iconst 2 (am_dec tX10_add_0 23 rfl) rfl ⟨by decide, by decide⟩ ?_
      refine T_iadd (((ss 0 7) * 4) + 2) (am_dec tX10_add_0 24 rfl) rfl ⟨by omega, by omega⟩ ?_
      refine T_iload_n (am_dec tX10_add_0 25 rfl) rfl ?_
      refine T_iastore (am_dec tX10_add_0 26 rfl) (show (hfW w hb sp rb rs hb (aR sp) ro ee hh (am_put (am_put ss 5 (((ss 0 7) * 4).toNat) na) 5 ((((ss 0 7) * 4) + 1).toNat) nb) uu vv pp kk rr tt gg aa dd bd ga im)[sp + 10]? = some (cP 0 48 ((am_put (am_put ss 5 (((ss 0 7) * 4).toNat) na) 5 ((((ss 0 7) * 4) + 1).toNat) nb) 5)) from ((hf_S hl hp) 10 (by decide))) (by omega) (by omega) ?_
      refine am_wE (w2 := hfW w hb sp rb rs hb (aR sp) ro ee hh (am_put (am_put (am_put ss 5 (((ss 0 7) * 4).toNat) na) 5 ((((ss 0 7) * 4) + 1).toNat) nb) 5 ((((ss 0 7) * 4) + 2).toNat) nc) uu vv pp kk rr tt gg aa dd bd ga im) (am_via (hf_uS hp) (hbW_p10 (w := hfW w hb sp rb rs hb (aR sp) ro ee hh (am_put (am_put ss 5 (((ss 0 7) * 4).toNat) na) 5 ((((ss 0 7) * 4) + 1).toNat) nb) uu vv pp kk rr tt gg aa dd bd ga im)) (hf_uS hp)) ?_
      refine T_aload_n (am_dec tX10_add_0 27 rfl) rfl ?_
      refine T_getfield 9 1 (am_dec tX10_add_0 28 rfl) flX10_11_9 (show (hfW w hb sp rb rs hb (aR sp) ro ee hh (am_put (am_put (am_put ss 5 (((ss 0 7) * 4).toNat) na) 5 ((((ss 0 7) * 4) + 1).toNat) nb) 5 ((((ss 0 7) * 4) + 2).toNat) nc) uu vv pp kk rr tt gg aa dd bd ga im)[sp + 9]? = some (cO 9 [aI 6, aR (sp + 10), aI (ss 0 7)]) from ((hf_S hl hp) 9 (by decide))) rfl ?_
      refine T_iload (am_dec tX10_add_0 29 rfl) rfl ?_
      refine T_iconst 3 (am_dec tX10_add_0 30 rfl) rfl ⟨by decide, by decide⟩ ?_
      refine T_iadd (((ss 0 7) * 4) + 3) (am_dec tX10_add_0 31 rfl) rfl ⟨by omega, by omega⟩ ?_
      refine T_iload (am_dec tX10_add_0 32 rfl) rfl ?_
      refine T_iastore (am_dec tX10_add_0 33 rfl) (show (hfW w hb sp rb rs hb (aR sp) ro ee hh (am_put (am_put (am_put ss 5 (((ss 0 7) * 4).toNat) na) 5 ((((ss 0 7) * 4) + 1).toNat) nb) 5 ((((ss 0 7) * 4) + 2).toNat) nc) uu vv pp kk rr tt gg aa dd bd ga im)[sp + 10]? = some (cP 0 48 ((am_put (am_put (am_put ss 5 (((ss 0 7) * 4).toNat) na) 5 ((((ss 0 7) * 4) + 1).toNat) nb) 5 ((((ss 0 7) * 4) + 2).toNat) nc) 5)) from ((hf_S hl hp) 10 (by decide))) (by omega) (by omega) ?_
      refine am_wE (w2 := hfW w hb sp rb rs hb (aR sp) ro ee hh (am_put (am_put (am_put (am_put ss 5 (((ss 0 7) * 4).toNat) na) 5 ((((ss 0 7) * 4) + 1).toNat) nb) 5 ((((ss 0 7) * 4) + 2).toNat) nc) 5 ((((ss 0 7) * 4) + 3).toNat) nd) uu vv pp kk rr tt gg aa dd bd ga im) (am_via (hf_uS hp) (hbW_p10 (w := hfW w hb sp rb rs hb (aR sp) ro ee hh (am_put (am_put (am_put ss 5 (((ss 0 7) * 4).toNat) na) 5 ((((ss 0 7) * 4) + 1).toNat) nb) 5 ((((ss 0 7) * 4) + 2).toNat) nc) uu vv pp kk rr tt gg aa dd bd ga im)) (hf_uS hp)) ?_
      refine T_nmH (W := fun x9 => hfW w hb sp rb rs hb (aR sp) ro ee hh x9 uu vv pp kk rr tt gg aa dd bd ga im) (v := (am_put (am_put (am_put (am_put ss 5 (((ss 0 7) * 4).toNat) na) 5 ((((ss 0 7) * 4) + 1).toNat) nb) 5 ((((ss 0 7) * 4) + 2).toNat) nc) 5 ((((ss 0 7) * 4) + 3).toNat) nd)) (fun ss53 hss53 => ?_)
      have hk53 : ss53 0 7 = ss 0 7 := by rw [hss53]; rfl
      refine T_aload_n (am_dec tX10_add_0 34 rfl) rfl ?_
      refine T_dup (am_dec tX10_add_0 35 rfl) rfl ?_
      refine T_getfield 9 2 (am_dec tX10_add_0 36 rfl) flX10_25_9 (show (hfW w hb sp rb rs hb (aR sp) ro ee hh ss53 uu vv pp kk rr tt gg aa dd bd ga im)[sp + 9]? = some (cO 9 [aI 6, aR (sp + 10), aI (ss53 0 7)]) from ((hf_S hl hp) 9 (by decide))) rfl ?_
      refine T_iconst 1 (am_dec tX10_add_0 37 rfl) rfl ⟨by decide, by decide⟩ ?_
      refine T_iadd ((ss53 0 7) + 1) (am_dec tX10_add_0 38 rfl) rfl ⟨by omega, by omega⟩ ?_
      refine T_putfield (fs' := [aI 6, aR (sp + 10), aI ((ss53 0 7) + 1)]) 9 2 (am_dec tX10_add_0 39 rfl) flX10_25_9 rfl rfl rfl trivial (show (hfW w hb sp rb rs hb (aR sp) ro ee hh ss53 uu vv pp kk rr tt gg aa dd bd ga im)[sp + 9]? = some (cO 9 [aI 6, aR (sp + 10), aI (ss53 0 7)]) from ((hf_S hl hp) 9 (by decide))) (Nat.le_of_ble_eq_true rfl) rfl ?_
      refine am_wE (w2 := hfW w hb sp rb rs hb (aR sp) ro ee hh (am_put ss53 0 7 ((ss53 0 7) + 1)) uu vv pp kk rr tt gg aa dd bd ga im) (am_via (hf_uS hp) (hbW_t9 (w := hfW w hb sp rb rs hb (aR sp) ro ee hh ss53 uu vv pp kk rr tt gg aa dd bd ga im)) (hf_uS hp)) ?_
      refine T_weak (ls' := [none, none, none, none, none, none]) (am_sub_n (am_sub_n (am_sub_n (am_sub_n (am_sub_n (am_sub_n am_sub_nil)))))) ?_
      exact K4 _ (by have s9 := hss53.symm; subst s9; exact (if_pos h4).symm) 
  exact key _ ⟨rfl, rfl⟩
def c_addS5 (ss : am_F) (na : Int) (nb : Int) (nc : Int) (nd : Int) : am_F := (let z1 : Int := (if 4 ≤ ss 0 8 then 1 else 0); (if z1 = 0 then (let ss53 : am_F := (am_put (am_put (am_put (am_put ss 6 (((ss 0 8) * 4).toNat) na) 6 ((((ss 0 8) * 4) + 1).toNat) nb) 6 ((((ss 0 8) * 4) + 2).toNat) nc) 6 ((((ss 0 8) * 4) + 3).toNat) nd); (am_put ss53 0 8 ((ss53 0 8) + 1))) else ss))
theorem mc_addS5 {S : am_S} {d u : Nat} {w : AH} {hb sp rb rs : Nat} {ro : AV} (hl : 109 ≤ w.length) (hp : hb = 1 ∧ sp = 21 ∨ hb = 21 ∧ sp = 1) (hr : rb = 41 ∧ rs = 46 ∨ rb = 46 ∧ rs = 41) {ee : am_F} {hh : am_F} {ss : am_F} {uu : am_F} {vv : am_F} {pp : am_F} {kk : am_F} {rr : am_F} {tt : am_F} {gg : am_F} {aa : am_F} {dd : am_F} {bd : am_F} {ga : am_F} {im : am_F} (na : Int) (nb : Int) (nc : Int) (nd : Int) (hS : SpI ss)  (hd : 1 ≤ d) : am_Out S zX10_add d u [aR (sp + 11), aI na, aI nb, aI nc, aI nd] (hfW w hb sp rb rs hb (aR sp) ro ee hh ss uu vv pp kk rr tt gg aa dd bd ga im) (.inl none) (hfW w hb sp rb rs hb (aR sp) ro ee hh (c_addS5 ss na nb nc nd) uu vv pp kk rr tt gg aa dd bd ga im) := by
  have key : ∀ Q : AO → AH → Prop, Q (.inl none) (hfW w hb sp rb rs hb (aR sp) ro ee hh (c_addS5 ss na nb nc nd) uu vv pp kk rr tt gg aa dd bd ga im) → am_M S zX10_add d u [aR (sp + 11), aI na, aI nb, aI nc, aI nd] (hfW w hb sp rb rs hb (aR sp) ro ee hh ss uu vv pp kk rr tt gg aa dd bd ga im) Q := by
    intro Q hQ
    refine am_body rfl (by decide +kernel) rfl (am_cats_cons rfl ( am_cats_cons rfl ( am_cats_cons rfl ( am_cats_cons rfl ( am_cats_cons rfl (am_cats_nil)))))) (Nat.le_of_ble_eq_true rfl) (?_ : am_T _ _ _ _ _ 0 [some (aR (sp + 11)), some (aI na), some (aI nb), some (aI nc), some (aI nd), none] [] (hfW w hb sp rb rs hb (aR sp) ro ee hh ss uu vv pp kk rr tt gg aa dd bd ga im))
    obtain ⟨vs1, vs2, vs3, vs4, vs5, vs6, vs7, vs8, vs9, vs10, vs11, vs12, vs13, vs14, vs15, vs16, vs17, vs18, vs19, vs20, vs21, vs22⟩ := (HbI_A hS.1).1
    refine T_aload_n (am_dec tX10_add_0 0 rfl) rfl ?_
    refine T_callV (as := []) rfl (am_dec tX10_add_0 1 rfl) lkX10_28 (show (hfW w hb sp rb rs hb (aR sp) ro ee hh ss uu vv pp kk rr tt gg aa dd bd ga im)[sp + 11]? = some (cO 9 [aI 4, aR (sp + 12), aI (ss 0 8)]) from ((hf_S hl hp) 11 (by decide))) rfl rfl (Nat.le_of_ble_eq_true rfl) (by omega) (m_full (d := d - 1) (show (hfW w hb sp rb rs hb (aR sp) ro ee hh ss uu vv pp kk rr tt gg aa dd bd ga im)[sp + 11]? = some (cO 9 [aI 4, aR (sp + 12), aI (ss 0 8)]) from ((hf_S hl hp) 11 (by decide))) (show (hfW w hb sp rb rs hb (aR sp) ro ee hh ss uu vv pp kk rr tt gg aa dd bd ga im)[sp + 12]? = some (cP 0 48 (ss 6)) from ((hf_S hl hp) 12 (by decide))) (by omega)) (fun _ => ?_)
    refine T_nm (fun z1 hz1 => ?_)
    have hb1 : z1 = 0 ∧ ss 0 8 < 4 ∨ z1 = 1 ∧ 4 ≤ ss 0 8 := by rw [hz1]; split <;> omega
    have K4 : ∀ (ss4 : am_F), ss4 = (if z1 = 0 then (let ss53 : am_F := (am_put (am_put (am_put (am_put ss 6 (((ss 0 8) * 4).toNat) na) 6 ((((ss 0 8) * 4) + 1).toNat) nb) 6 ((((ss 0 8) * 4) + 2).toNat) nc) 6 ((((ss 0 8) * 4) + 3).toNat) nd); (am_put ss53 0 8 ((ss53 0 8) + 1))) else ss) →  am_T S zX10_add d u Q 64 [none, none, none, none, none, none] [] (hfW w hb sp rb rs hb (aR sp) ro ee hh ss4 uu vv pp kk rr tt gg aa dd bd ga im) := by
      intro ss4 hss4 
      exact T_return (am_dec tX10_add_1 0 rfl) rfl (am_tr (fun (x9 : am_F) => Q (.inl none) (hfW w hb sp rb rs hb (aR sp) ro ee hh x9 uu vv pp kk rr tt gg aa dd bd ga im)) (y := ss4) (show (c_addS5 ss na nb nc nd) = ss4 from (by have s9 := hz1.symm; subst s9; have s9 := hss4.symm; subst s9; exact rfl)) hQ)
    refine T_if_ne 64 (am_dec tX10_add_0 2 rfl) rfl (fun h4 => ?_) (fun h4 => ?_)
    · refine T_weak (ls' := [none, none, none, none, none, none]) (am_sub_n (am_sub_n (am_sub_n (am_sub_n (am_sub_n (am_sub_n am_sub_nil)))))) ?_
      exact K4 _ (if_neg h4).symm 
    · refine T_aload_n (am_dec tX10_add_0 3 rfl) rfl ?_
      refine T_getfield 9 2 (am_dec tX10_add_0 4 rfl) flX10_25_9 (show (hfW w hb sp rb rs hb (aR sp) ro ee hh ss uu vv pp kk rr tt gg aa dd bd ga im)[sp + 11]? = some (cO 9 [aI 4, aR (sp + 12), aI (ss 0 8)]) from ((hf_S hl hp) 11 (by decide))) rfl ?_
      refine T_iconst 4 (am_dec tX10_add_0 5 rfl) rfl ⟨by decide, by decide⟩ ?_
      refine T_imul ((ss 0 8) * 4) (am_dec tX10_add_0 6 rfl) rfl ⟨by omega, by omega⟩ ?_
      refine T_istore (ls' := [some (aR (sp + 11)), some (aI na), some (aI nb), some (aI nc), some (aI nd), some (aI ((ss 0 8) * 4))]) (am_dec tX10_add_0 7 rfl) (by decide) rfl ?_
      refine T_aload_n (am_dec tX10_add_0 8 rfl) rfl ?_
      refine T_getfield 9 1 (am_dec tX10_add_0 9 rfl) flX10_11_9 (show (hfW w hb sp rb rs hb (aR sp) ro ee hh ss uu vv pp kk rr tt gg aa dd bd ga im)[sp + 11]? = some (cO 9 [aI 4, aR (sp + 12), aI (ss 0 8)]) from ((hf_S hl hp) 11 (by decide))) rfl ?_
      refine T_iload (am_dec tX10_add_0 10 rfl) rfl ?_
      refine T_iload_n (am_dec tX10_add_0 11 rfl) rfl ?_
      refine T_iastore (am_dec tX10_add_0 12 rfl) (show (hfW w hb sp rb rs hb (aR sp) ro ee hh ss uu vv pp kk rr tt gg aa dd bd ga im)[sp + 12]? = some (cP 0 48 (ss 6)) from ((hf_S hl hp) 12 (by decide))) (by omega) (by omega) ?_
      refine am_wE (w2 := hfW w hb sp rb rs hb (aR sp) ro ee hh (am_put ss 6 (((ss 0 8) * 4).toNat) na) uu vv pp kk rr tt gg aa dd bd ga im) (am_via (hf_uS hp) (hbW_p12 (w := hfW w hb sp rb rs hb (aR sp) ro ee hh ss uu vv pp kk rr tt gg aa dd bd ga im)) (hf_uS hp)) ?_
      refine T_aload_n (am_dec tX10_add_0 13 rfl) rfl ?_
      refine T_getfield 9 1 (am_dec tX10_add_0 14 rfl) flX10_11_9 (show (hfW w hb sp rb rs hb (aR sp) ro ee hh (am_put ss 6 (((ss 0 8) * 4).toNat) na) uu vv pp kk rr tt gg aa dd bd ga im)[sp + 11]? = some (cO 9 [aI 4, aR (sp + 12), aI (ss 0 8)]) from ((hf_S hl hp) 11 (by decide))) rfl ?_
      refine T_iload (am_dec tX10_add_0 15 rfl) rfl ?_
      refine T_iconst 1 (am_dec tX10_add_0 16 rfl) rfl ⟨by decide, by decide⟩ ?_
      refine T_iadd (((ss 0 8) * 4) + 1) (am_dec tX10_add_0 17 rfl) rfl ⟨by omega, by omega⟩ ?_
      refine T_iload_n (am_dec tX10_add_0 18 rfl) rfl ?_
      refine T_iastore (am_dec tX10_add_0 19 rfl) (show (hfW w hb sp rb rs hb (aR sp) ro ee hh (am_put ss 6 (((ss 0 8) * 4).toNat) na) uu vv pp kk rr tt gg aa dd bd ga im)[sp + 12]? = some (cP 0 48 ((am_put ss 6 (((ss 0 8) * 4).toNat) na) 6)) from ((hf_S hl hp) 12 (by decide))) (by omega) (by omega) ?_
      refine am_wE (w2 := hfW w hb sp rb rs hb (aR sp) ro ee hh (am_put (am_put ss 6 (((ss 0 8) * 4).toNat) na) 6 ((((ss 0 8) * 4) + 1).toNat) nb) uu vv pp kk rr tt gg aa dd bd ga im) (am_via (hf_uS hp) (hbW_p12 (w := hfW w hb sp rb rs hb (aR sp) ro ee hh (am_put ss 6 (((ss 0 8) * 4).toNat) na) uu vv pp kk rr tt gg aa dd bd ga im)) (hf_uS hp)) ?_
      refine T_aload_n (am_dec tX10_add_0 20 rfl) rfl ?_
      refine T_getfield 9 1 (am_dec tX10_add_0 21 rfl) flX10_11_9 (show (hfW w hb sp rb rs hb (aR sp) ro ee hh (am_put (am_put ss 6 (((ss 0 8) * 4).toNat) na) 6 ((((ss 0 8) * 4) + 1).toNat) nb) uu vv pp kk rr tt gg aa dd bd ga im)[sp + 11]? = some (cO 9 [aI 4, aR (sp + 12), aI (ss 0 8)]) from ((hf_S hl hp) 11 (by decide))) rfl ?_
      refine T_iload (am_dec tX10_add_0 22 rfl) rfl ?_
      refine T_iconst 2 (am_dec tX10_add_0 23 rfl) rfl ⟨by decide, by decide⟩ ?_
      refine T_iadd (((ss 0 8) * 4) + 2) (am_dec tX10_add_0 24 rfl) rfl ⟨by omega, by omega⟩ ?_
      refine T_iload_n (am_dec tX10_add_0 25 rfl) rfl ?_
      refine T_iastore (am_dec tX10_add_0 26 rfl) (show (hfW w hb sp rb rs hb (aR sp) ro ee hh (am_put (am_put ss 6 (((ss 0 8) * 4).toNat) na) 6 ((((ss 0 8) * 4) + 1).toNat) nb) uu vv pp kk rr tt gg aa dd bd ga im)[sp + 12]? = some (cP 0 48 ((am_put (am_put ss 6 (((ss 0 8) * 4).toNat) na) 6 ((((ss 0 8) * 4) + 1).toNat) nb) 6)) from ((hf_S hl hp) 12 (by decide))) (by omega) (by omega) ?_
      refine am_wE (w2 := hfW w hb sp rb rs hb (aR sp) ro ee hh (am_put (am_put (am_put ss 6 (((ss 0 8) * 4).toNat) na) 6 ((((ss 0 8) * 4) + 1).toNat) nb) 6 ((((ss 0 8) * 4) + 2).toNat) nc) uu vv pp kk rr tt gg aa dd bd ga im) (am_via (hf_uS hp) (hbW_p12 (w := hfW w hb sp rb rs hb (aR sp) ro ee hh (am_put (am_put ss 6 (((ss 0 8) * 4).toNat) na) 6 ((((ss 0 8) * 4) + 1).toNat) nb) uu vv pp kk rr tt gg aa dd bd ga im)) (hf_uS hp)) ?_
      refine T_aload_n (am_dec tX10_add_0 27 rfl) rfl ?_
      refine T_getfield 9 1 (am_dec tX10_add_0 28 rfl) flX10_11_9 (show (hfW w hb sp rb rs hb (aR sp) ro ee hh (am_put (am_put (am_put ss 6 (((ss 0 8) * 4).toNat) na) 6 ((((ss 0 8) * 4) + 1).toNat) nb) 6 ((((ss 0 8) * 4) + 2).toNat) nc) uu vv pp kk rr tt gg aa dd bd ga im)[sp + 11]? = some (cO 9 [aI 4, aR (sp + 12), aI (ss 0 8)]) from ((hf_S hl hp) 11 (by decide))) rfl ?_
      refine T_iload (am_dec tX10_add_0 29 rfl) rfl ?_
      refine T_iconst 3 (am_dec tX10_add_0 30 rfl) rfl ⟨by decide, by decide⟩ ?_
      refine T_iadd (((ss 0 8) * 4) + 3) (am_dec tX10_add_0 31 rfl) rfl ⟨by omega, by omega⟩ ?_
      refine T_iload (am_dec tX10_add_0 32 rfl) rfl ?_
      refine T_iastore (am_dec tX10_add_0 33 rfl) (show (hfW w hb sp rb rs hb (aR sp) ro ee hh (am_put (am_put (am_put ss 6 (((ss 0 8) * 4).toNat) na) 6 ((((ss 0 8) * 4) + 1).toNat) nb) 6 ((((ss 0 8) * 4) + 2).toNat) nc) uu vv pp kk rr tt gg aa dd bd ga im)[sp + 12]? = some (cP 0 48 ((am_put (am_put (am_put ss 6 (((ss 0 8) * 4).toNat) na) 6 ((((ss 0 8) * 4) + 1).toNat) nb) 6 ((((ss 0 8) * 4) + 2).toNat) nc) 6)) from ((hf_S hl hp) 12 (by decide))) (by omega) (by omega) ?_
      refine am_wE (w2 := hfW w hb sp rb rs hb (aR sp) ro ee hh (am_put (am_put (am_put (am_put ss 6 (((ss 0 8) * 4).toNat) na) 6 ((((ss 0 8) * 4) + 1).toNat) nb) 6 ((((ss 0 8) * 4) + 2).toNat) nc) 6 ((((ss 0 8) * 4) + 3).toNat) nd) uu vv pp kk rr tt gg aa dd bd ga im) (am_via (hf_uS hp) (hbW_p12 (w := hfW w hb sp rb rs hb (aR sp) ro ee hh (am_put (am_put (am_put ss 6 (((ss 0 8) * 4).toNat) na) 6 ((((ss 0 8) * 4) + 1).toNat) nb) 6 ((((ss 0 8) * 4) + 2).toNat) nc) uu vv pp kk rr tt gg aa dd bd ga im)) (hf_uS hp)) ?_
      refine T_nmH (W := fun x9 => hfW w hb sp rb rs hb (aR sp) ro ee hh x9 uu vv pp kk rr tt gg aa dd bd ga im) (v := (am_put (am_put (am_put (am_put ss 6 (((ss 0 8) * 4).toNat) na) 6 ((((ss 0 8) * 4) + 1).toNat) nb) 6 ((((ss 0 8) * 4) + 2).toNat) nc) 6 ((((ss 0 8) * 4) + 3).toNat) nd)) (fun ss53 hss53 => ?_)
      have hk53 : ss53 0 8 = ss 0 8 := by rw [hss53]; rfl
      refine T_aload_n (am_dec tX10_add_0 34 rfl) rfl ?_
      refine T_dup (am_dec tX10_add_0 35 rfl) rfl ?_
      refine T_getfield 9 2 (am_dec tX10_add_0 36 rfl) flX10_25_9 (show (hfW w hb sp rb rs hb (aR sp) ro ee hh ss53 uu vv pp kk rr tt gg aa dd bd ga im)[sp + 11]? = some (cO 9 [aI 4, aR (sp + 12), aI (ss53 0 8)]) from ((hf_S hl hp) 11 (by decide))) rfl ?_
      refine T_iconst 1 (am_dec tX10_add_0 37 rfl) rfl ⟨by decide, by decide⟩ ?_
      refine T_iadd ((ss53 0 8) + 1) (am_dec tX10_add_0 38 rfl) rfl ⟨by omega, by omega⟩ ?_
      refine T_putfield (fs' := [aI 4, aR (sp + 12), aI ((ss53 0 8) + 1)]) 9 2 (am_dec tX10_add_0 39 rfl) flX10_25_9 rfl rfl rfl trivial (show (hfW w hb sp rb rs hb (aR sp) ro ee hh ss53 uu vv pp kk rr tt gg aa dd bd ga im)[sp + 11]? = some (cO 9 [aI 4, aR (sp + 12), aI (ss53 0 8)]) from ((hf_S hl hp) 11 (by decide))) (Nat.le_of_ble_eq_true rfl) rfl ?_
      refine am_wE (w2 := hfW w hb sp rb rs hb (aR sp) ro ee hh (am_put ss53 0 8 ((ss53 0 8) + 1)) uu vv pp kk rr tt gg aa dd bd ga im) (am_via (hf_uS hp) (hbW_t11 (w := hfW w hb sp rb rs hb (aR sp) ro ee hh ss53 uu vv pp kk rr tt gg aa dd bd ga im)) (hf_uS hp)) ?_
      refine T_weak (ls' := [none, none, none, none, none, none]) (am_sub_n (am_sub_n (am_sub_n (am_sub_n (am_sub_n (am_sub_n am_sub_nil)))))) ?_
      exact K4 _ (by have s9 := hss53.symm; subst s9; exact (if_pos h4).symm) 
  exact key _ ⟨rfl, rfl⟩
def c_addS6 (ss : am_F) (na : Int) (nb : Int) (nc : Int) (nd : Int) : am_F := (let z1 : Int := (if 4 ≤ ss 0 9 then 1 else 0); (if z1 = 0 then (let ss53 : am_F := (am_put (am_put (am_put (am_put ss 7 (((ss 0 9) * 4).toNat) na) 7 ((((ss 0 9) * 4) + 1).toNat) nb) 7 ((((ss 0 9) * 4) + 2).toNat) nc) 7 ((((ss 0 9) * 4) + 3).toNat) nd); (am_put ss53 0 9 ((ss53 0 9) + 1))) else ss))
theorem mc_addS6 {S : am_S} {d u : Nat} {w : AH} {hb sp rb rs : Nat} {ro : AV} (hl : 109 ≤ w.length) (hp : hb = 1 ∧ sp = 21 ∨ hb = 21 ∧ sp = 1) (hr : rb = 41 ∧ rs = 46 ∨ rb = 46 ∧ rs = 41) {ee : am_F} {hh : am_F} {ss : am_F} {uu : am_F} {vv : am_F} {pp : am_F} {kk : am_F} {rr : am_F} {tt : am_F} {gg : am_F} {aa : am_F} {dd : am_F} {bd : am_F} {ga : am_F} {im : am_F} (na : Int) (nb : Int) (nc : Int) (nd : Int) (hS : SpI ss)  (hd : 1 ≤ d) : am_Out S zX10_add d u [aR (sp + 13), aI na, aI nb, aI nc, aI nd] (hfW w hb sp rb rs hb (aR sp) ro ee hh ss uu vv pp kk rr tt gg aa dd bd ga im) (.inl none) (hfW w hb sp rb rs hb (aR sp) ro ee hh (c_addS6 ss na nb nc nd) uu vv pp kk rr tt gg aa dd bd ga im) := by
  have key : ∀ Q : AO → AH → Prop, Q (.inl none) (hfW w hb sp rb rs hb (aR sp) ro ee hh (c_addS6 ss na nb nc nd) uu vv pp kk rr tt gg aa dd bd ga im) → am_M S zX10_add d u [aR (sp + 13), aI na, aI nb, aI nc, aI nd] (hfW w hb sp rb rs hb (aR sp) ro ee hh ss uu vv pp kk rr tt gg aa dd bd ga im) Q := by
    intro Q hQ
    refine am_body rfl (by decide +kernel) rfl (am_cats_cons rfl ( am_cats_cons rfl ( am_cats_cons rfl ( am_cats_cons rfl ( am_cats_cons rfl (am_cats_nil)))))) (Nat.le_of_ble_eq_true rfl) (?_ : am_T _ _ _ _ _ 0 [some (aR (sp + 13)), some (aI na), some (aI nb), some (aI nc), some (aI nd), none] [] (hfW w hb sp rb rs hb (aR sp) ro ee hh ss uu vv pp kk rr tt gg aa dd bd ga im))
    obtain ⟨vs1, vs2, vs3, vs4, vs5, vs6, vs7, vs8, vs9, vs10, vs11, vs12, vs13, vs14, vs15, vs16, vs17, vs18, vs19, vs20, vs21, vs22⟩ := (HbI_A hS.1).1
    refine T_aload_n (am_dec tX10_add_0 0 rfl) rfl ?_
    refine T_callV (as := []) rfl (am_dec tX10_add_0 1 rfl) lkX10_28 (show (hfW w hb sp rb rs hb (aR sp) ro ee hh ss uu vv pp kk rr tt gg aa dd bd ga im)[sp + 13]? = some (cO 9 [aI 4, aR (sp + 14), aI (ss 0 9)]) from ((hf_S hl hp) 13 (by decide))) rfl rfl (Nat.le_of_ble_eq_true rfl) (by omega) (m_full (d := d - 1) (show (hfW w hb sp rb rs hb (aR sp) ro ee hh ss uu vv pp kk rr tt gg aa dd bd ga im)[sp + 13]? = some (cO 9 [aI 4, aR (sp + 14), aI (ss 0 9)]) from ((hf_S hl hp) 13 (by decide))) (show (hfW w hb sp rb rs hb (aR sp) ro ee hh ss uu vv pp kk rr tt gg aa dd bd ga im)[sp + 14]? = some (cP 0 48 (ss 7)) from ((hf_S hl hp) 14 (by decide))) (by omega)) (fun _ => ?_)
    refine T_nm (fun z1 hz1 => ?_)
    have hb1 : z1 = 0 ∧ ss 0 9 < 4 ∨ z1 = 1 ∧ 4 ≤ ss 0 9 := by rw [hz1]; split <;> omega
    have K4 : ∀ (ss4 : am_F), ss4 = (if z1 = 0 then (let ss53 : am_F := (am_put (am_put (am_put (am_put ss 7 (((ss 0 9) * 4).toNat) na) 7 ((((ss 0 9) * 4) + 1).toNat) nb) 7 ((((ss 0 9) * 4) + 2).toNat) nc) 7 ((((ss 0 9) * 4) + 3).toNat) nd); (am_put ss53 0 9 ((ss53 0 9) + 1))) else ss) →  am_T S zX10_add d u Q 64 [none, none, none, none, none, none] [] (hfW w hb sp rb rs hb (aR sp) ro ee hh ss4 uu vv pp kk rr tt gg aa dd bd ga im) := by
      intro ss4 hss4 
      exact T_return (am_dec tX10_add_1 0 rfl) rfl (am_tr (fun (x9 : am_F) => Q (.inl none) (hfW w hb sp rb rs hb (aR sp) ro ee hh x9 uu vv pp kk rr tt gg aa dd bd ga im)) (y := ss4) (show (c_addS6 ss na nb nc nd) = ss4 from (by have s9 := hz1.symm; subst s9; have s9 := hss4.symm; subst s9; exact rfl)) hQ)
    refine T_if_ne 64 (am_dec tX10_add_0 2 rfl) rfl (fun h4 => ?_) (fun h4 => ?_)
    · refine T_weak (ls' := [none, none, none, none, none, none]) (am_sub_n (am_sub_n (am_sub_n (am_sub_n (am_sub_n (am_sub_n am_sub_nil)))))) ?_
      exact K4 _ (if_neg h4).symm 
    · refine T_aload_n (am_dec tX10_add_0 3 rfl) rfl ?_
      refine T_getfield 9 2 (am_dec tX10_add_0 4 rfl) flX10_25_9 (show (hfW w hb sp rb rs hb (aR sp) ro ee hh ss uu vv pp kk rr tt gg aa dd bd ga im)[sp + 13]? = some (cO 9 [aI 4, aR (sp + 14), aI (ss 0 9)]) from ((hf_S hl hp) 13 (by decide))) rfl ?_
      refine T_iconst 4 (am_dec tX10_add_0 5 rfl) rfl ⟨by decide, by decide⟩ ?_
      refine T_imul ((ss 0 9) * 4) (am_dec tX10_add_0 6 rfl) rfl ⟨by omega, by omega⟩ ?_
      refine T_istore (ls' := [some (aR (sp + 13)), some (aI na), some (aI nb), some (aI nc), some (aI nd), some (aI ((ss 0 9) * 4))]) (am_dec tX10_add_0 7 rfl) (by decide) rfl ?_
      refine T_aload_n (am_dec tX10_add_0 8 rfl) rfl ?_
      refine T_getfield 9 1 (am_dec tX10_add_0 9 rfl) flX10_11_9 (show (hfW w hb sp rb rs hb (aR sp) ro ee hh ss uu vv pp kk rr tt gg aa dd bd ga im)[sp + 13]? = some (cO 9 [aI 4, aR (sp + 14), aI (ss 0 9)]) from ((hf_S hl hp) 13 (by decide))) rfl ?_
      refine T_iload (am_dec tX10_add_0 10 rfl) rfl ?_
      refine T_iload_n (am_dec tX10_add_0 11 rfl) rfl ?_
      refine T_iastore (am_dec tX10_add_0 12 rfl) (show (hfW w hb sp rb rs hb (aR sp) ro ee hh ss uu vv pp kk rr tt gg aa dd bd ga im)[sp + 14]? = some (cP 0 48 (ss 7)) from ((hf_S hl hp) 14 (by decide))) (by omega) (by omega) ?_
      refine am_wE (w2 := hfW w hb sp rb rs hb (aR sp) ro ee hh (am_put ss 7 (((ss 0 9) * 4).toNat) na) uu vv pp kk rr tt gg aa dd bd ga im) (am_via (hf_uS hp) (hbW_p14 (w := hfW w hb sp rb rs hb (aR sp) ro ee hh ss uu vv pp kk rr tt gg aa dd bd ga im)) (hf_uS hp)) ?_
      refine T_aload_n (am_dec tX10_add_0 13 rfl) rfl ?_
      refine T_getfield 9 1 (am_dec tX10_add_0 14 rfl) flX10_11_9 (show (hfW w hb sp rb rs hb (aR sp) ro ee hh (am_put ss 7 (((ss 0 9) * 4).toNat) na) uu vv pp kk rr tt gg aa dd bd ga im)[sp + 13]? = some (cO 9 [aI 4, aR (sp + 14), aI (ss 0 9)]) from ((hf_S hl hp) 13 (by decide))) rfl ?_
      refine T_iload (am_dec tX10_add_0 15 rfl) rfl ?_
      refine T_iconst 1 (am_dec tX10_add_0 16 rfl) rfl ⟨by decide, by decide⟩ ?_
      refine T_iadd (((ss 0 9) * 4) + 1) (am_dec tX10_add_0 17 rfl) rfl ⟨by omega, by omega⟩ ?_
      refine T_iload_n (am_dec tX10_add_0 18 rfl) rfl ?_
      refine T_iastore (am_dec tX10_add_0 19 rfl) (show (hfW w hb sp rb rs hb (aR sp) ro ee hh (am_put ss 7 (((ss 0 9) * 4).toNat) na) uu vv pp kk rr tt gg aa dd bd ga im)[sp + 14]? = some (cP 0 48 ((am_put ss 7 (((ss 0 9) * 4).toNat) na) 7)) from ((hf_S hl hp) 14 (by decide))) (by omega) (by omega) ?_
      refine am_wE (w2 := hfW w hb sp rb rs hb (aR sp) ro ee hh (am_put (am_put ss 7 (((ss 0 9) * 4).toNat) na) 7 ((((ss 0 9) * 4) + 1).toNat) nb) uu vv pp kk rr tt gg aa dd bd ga im) (am_via (hf_uS hp) (hbW_p14 (w := hfW w hb sp rb rs hb (aR sp) ro ee hh (am_put ss 7 (((ss 0 9) * 4).toNat) na) uu vv pp kk rr tt gg aa dd bd ga im)) (hf_uS hp)) ?_
      refine T_aload_n (am_dec tX10_add_0 20 rfl) rfl ?_
      refine T_getfield 9 1 (am_dec tX10_add_0 21 rfl) flX10_11_9 (show (hfW w hb sp rb rs hb (aR sp) ro ee hh (am_put (am_put ss 7 (((ss 0 9) * 4).toNat) na) 7 ((((ss 0 9) * 4) + 1).toNat) nb) uu vv pp kk rr tt gg aa dd bd ga im)[sp + 13]? = some (cO 9 [aI 4, aR (sp + 14), aI (ss 0 9)]) from ((hf_S hl hp) 13 (by decide))) rfl ?_
      refine T_iload (am_dec tX10_add_0 22 rfl) rfl ?_
      refine T_iconst 2 (am_dec tX10_add_0 23 rfl) rfl ⟨by decide, by decide⟩ ?_
      refine T_iadd (((ss 0 9) * 4) + 2) (am_dec tX10_add_0 24 rfl) rfl ⟨by omega, by omega⟩ ?_
      refine T_iload_n (am_dec tX10_add_0 25 rfl) rfl ?_
      refine T_iastore (am_dec tX10_add_0 26 rfl) (show (hfW w hb sp rb rs hb (aR sp) ro ee hh (am_put (am_put ss 7 (((ss 0 9) * 4).toNat) na) 7 ((((ss 0 9) * 4) + 1).toNat) nb) uu vv pp kk rr tt gg aa dd bd ga im)[sp + 14]? = some (cP 0 48 ((am_put (am_put ss 7 (((ss 0 9) * 4).toNat) na) 7 ((((ss 0 9) * 4) + 1).toNat) nb) 7)) from ((hf_S hl hp) 14 (by decide))) (by omega) (by omega) ?_
      refine am_wE (w2 := hfW w hb sp rb rs hb (aR sp) ro ee hh (am_put (am_put (am_put ss 7 (((ss 0 9) * 4).toNat) na) 7 ((((ss 0 9) * 4) + 1).toNat) nb) 7 ((((ss 0 9) * 4) + 2).toNat) nc) uu vv pp kk rr tt gg aa dd bd ga im) (am_via (hf_uS hp) (hbW_p14 (w := hfW w hb sp rb rs hb (aR sp) ro ee hh (am_put (am_put ss 7 (((ss 0 9) * 4).toNat) na) 7 ((((ss 0 9) * 4) + 1).toNat) nb) uu vv pp kk rr tt gg aa dd bd ga im)) (hf_uS hp)) ?_
      refine T_aload_n (am_dec tX10_add_0 27 rfl) rfl ?_
      refine T_getfield 9 1 (am_dec tX10_add_0 28 rfl) flX10_11_9 (show (hfW w hb sp rb rs hb (aR sp) ro ee hh (am_put (am_put (am_put ss 7 (((ss 0 9) * 4).toNat) na) 7 ((((ss 0 9) * 4) + 1).toNat) nb) 7 ((((ss 0 9) * 4) + 2).toNat) nc) uu vv pp kk rr tt gg aa dd bd ga im)[sp + 13]? = some (cO 9 [aI 4, aR (sp + 14), aI (ss 0 9)]) from ((hf_S hl hp) 13 (by decide))) rfl ?_
      refine T_iload (am_dec tX10_add_0 29 rfl) rfl ?_
      refine T_iconst 3 (am_dec tX10_add_0 30 rfl) rfl ⟨by decide, by decide⟩ ?_
      refine T_iadd (((ss 0 9) * 4) + 3) (am_dec tX10_add_0 31 rfl) rfl ⟨by omega, by omega⟩ ?_
      refine T_iload (am_dec tX10_add_0 32 rfl) rfl ?_
      refine T_iastore (am_dec tX10_add_0 33 rfl) (show (hfW w hb sp rb rs hb (aR sp) ro ee hh (am_put (am_put (am_put ss 7 (((ss 0 9) * 4).toNat) na) 7 ((((ss 0 9) * 4) + 1).toNat) nb) 7 ((((ss 0 9) * 4) + 2).toNat) nc) uu vv pp kk rr tt gg aa dd bd ga im)[sp + 14]? = some (cP 0 48 ((am_put (am_put (am_put ss 7 (((ss 0 9) * 4).toNat) na) 7 ((((ss 0 9) * 4) + 1).toNat) nb) 7 ((((ss 0 9) * 4) + 2).toNat) nc) 7)) from ((hf_S hl hp) 14 (by decide))) (by omega) (by omega) ?_
      refine am_wE (w2 := hfW w hb sp rb rs hb (aR sp) ro ee hh (am_put (am_put (am_put (am_put ss 7 (((ss 0 9) * 4).toNat) na) 7 ((((ss 0 9) * 4) + 1).toNat) nb) 7 ((((ss 0 9) * 4) + 2).toNat) nc) 7 ((((ss 0 9) * 4) + 3).toNat) nd) uu vv pp kk rr tt gg aa dd bd ga im) (am_via (hf_uS hp) (hbW_p14 (w := hfW w hb sp rb rs hb (aR sp) ro ee hh (am_put (am_put (am_put ss 7 (((ss 0 9) * 4).toNat) na) 7 ((((ss 0 9) * 4) + 1).toNat) nb) 7 ((((ss 0 9) * 4) + 2).toNat) nc) uu vv pp kk rr tt gg aa dd bd ga im)) (hf_uS hp)) ?_
      refine T_nmH (W := fun x9 => hfW w hb sp rb rs hb (aR sp) ro ee hh x9 uu vv pp kk rr tt gg aa dd bd ga im) (v := (am_put (am_put (am_put (am_put ss 7 (((ss 0 9) * 4).toNat) na) 7 ((((ss 0 9) * 4) + 1).toNat) nb) 7 ((((ss 0 9) * 4) + 2).toNat) nc) 7 ((((ss 0 9) * 4) + 3).toNat) nd)) (fun ss53 hss53 => ?_)
      have hk53 : ss53 0 9 = ss 0 9 := by rw [hss53]; rfl
      refine T_aload_n (am_dec tX10_add_0 34 rfl) rfl ?_
      refine T_dup (am_dec tX10_add_0 35 rfl) rfl ?_
      refine T_getfield 9 2 (am_dec tX10_add_0 36 rfl) flX10_25_9 (show (hfW w hb sp rb rs hb (aR sp) ro ee hh ss53 uu vv pp kk rr tt gg aa dd bd ga im)[sp + 13]? = some (cO 9 [aI 4, aR (sp + 14), aI (ss53 0 9)]) from ((hf_S hl hp) 13 (by decide))) rfl ?_
      refine T_iconst 1 (am_dec tX10_add_0 37 rfl) rfl ⟨by decide, by decide⟩ ?_
      refine T_iadd ((ss53 0 9) + 1) (am_dec tX10_add_0 38 rfl) rfl ⟨by omega, by omega⟩ ?_
      refine T_putfield (fs' := [aI 4, aR (sp + 14), aI ((ss53 0 9) + 1)]) 9 2 (am_dec tX10_add_0 39 rfl) flX10_25_9 rfl rfl rfl trivial (show (hfW w hb sp rb rs hb (aR sp) ro ee hh ss53 uu vv pp kk rr tt gg aa dd bd ga im)[sp + 13]? = some (cO 9 [aI 4, aR (sp + 14), aI (ss53 0 9)]) from ((hf_S hl hp) 13 (by decide))) (Nat.le_of_ble_eq_true rfl) rfl ?_
      refine am_wE (w2 := hfW w hb sp rb rs hb (aR sp) ro ee hh (am_put ss53 0 9 ((ss53 0 9) + 1)) uu vv pp kk rr tt gg aa dd bd ga im) (am_via (hf_uS hp) (hbW_t13 (w := hfW w hb sp rb rs hb (aR sp) ro ee hh ss53 uu vv pp kk rr tt gg aa dd bd ga im)) (hf_uS hp)) ?_
      refine T_weak (ls' := [none, none, none, none, none, none]) (am_sub_n (am_sub_n (am_sub_n (am_sub_n (am_sub_n (am_sub_n am_sub_nil)))))) ?_
      exact K4 _ (by have s9 := hss53.symm; subst s9; exact (if_pos h4).symm) 
  exact key _ ⟨rfl, rfl⟩
def c_addS7 (ss : am_F) (na : Int) (nb : Int) (nc : Int) (nd : Int) : am_F := (let z1 : Int := (if 4 ≤ ss 0 10 then 1 else 0); (if z1 = 0 then (let ss53 : am_F := (am_put (am_put (am_put (am_put ss 8 (((ss 0 10) * 4).toNat) na) 8 ((((ss 0 10) * 4) + 1).toNat) nb) 8 ((((ss 0 10) * 4) + 2).toNat) nc) 8 ((((ss 0 10) * 4) + 3).toNat) nd); (am_put ss53 0 10 ((ss53 0 10) + 1))) else ss))
theorem mc_addS7 {S : am_S} {d u : Nat} {w : AH} {hb sp rb rs : Nat} {ro : AV} (hl : 109 ≤ w.length) (hp : hb = 1 ∧ sp = 21 ∨ hb = 21 ∧ sp = 1) (hr : rb = 41 ∧ rs = 46 ∨ rb = 46 ∧ rs = 41) {ee : am_F} {hh : am_F} {ss : am_F} {uu : am_F} {vv : am_F} {pp : am_F} {kk : am_F} {rr : am_F} {tt : am_F} {gg : am_F} {aa : am_F} {dd : am_F} {bd : am_F} {ga : am_F} {im : am_F} (na : Int) (nb : Int) (nc : Int) (nd : Int) (hS : SpI ss)  (hd : 1 ≤ d) : am_Out S zX10_add d u [aR (sp + 15), aI na, aI nb, aI nc, aI nd] (hfW w hb sp rb rs hb (aR sp) ro ee hh ss uu vv pp kk rr tt gg aa dd bd ga im) (.inl none) (hfW w hb sp rb rs hb (aR sp) ro ee hh (c_addS7 ss na nb nc nd) uu vv pp kk rr tt gg aa dd bd ga im) := by
  have key : ∀ Q : AO → AH → Prop, Q (.inl none) (hfW w hb sp rb rs hb (aR sp) ro ee hh (c_addS7 ss na nb nc nd) uu vv pp kk rr tt gg aa dd bd ga im) → am_M S zX10_add d u [aR (sp + 15), aI na, aI nb, aI nc, aI nd] (hfW w hb sp rb rs hb (aR sp) ro ee hh ss uu vv pp kk rr tt gg aa dd bd ga im) Q := by
    intro Q hQ
    refine am_body rfl (by decide +kernel) rfl (am_cats_cons rfl ( am_cats_cons rfl ( am_cats_cons rfl ( am_cats_cons rfl ( am_cats_cons rfl (am_cats_nil)))))) (Nat.le_of_ble_eq_true rfl) (?_ : am_T _ _ _ _ _ 0 [some (aR (sp + 15)), some (aI na), some (aI nb), some (aI nc), some (aI nd), none] [] (hfW w hb sp rb rs hb (aR sp) ro ee hh ss uu vv pp kk rr tt gg aa dd bd ga im))
    obtain ⟨vs1, vs2, vs3, vs4, vs5, vs6, vs7, vs8, vs9, vs10, vs11, vs12, vs13, vs14, vs15, vs16, vs17, vs18, vs19, vs20, vs21, vs22⟩ := (HbI_A hS.1).1
    refine T_aload_n (am_dec tX10_add_0 0 rfl) rfl ?_
    refine T_callV (as := []) rfl (am_dec tX10_add_0 1 rfl) lkX10_28 (show (hfW w hb sp rb rs hb (aR sp) ro ee hh ss uu vv pp kk rr tt gg aa dd bd ga im)[sp + 15]? = some (cO 9 [aI 4, aR (sp + 16), aI (ss 0 10)]) from ((hf_S hl hp) 15 (by decide))) rfl rfl (Nat.le_of_ble_eq_true rfl) (by omega) (m_full (d := d - 1) (show (hfW w hb sp rb rs hb (aR sp) ro ee hh ss uu vv pp kk rr tt gg aa dd bd ga im)[sp + 15]? = some (cO 9 [aI 4, aR (sp + 16), aI (ss 0 10)]) from ((hf_S hl hp) 15 (by decide))) (show (hfW w hb sp rb rs hb (aR sp) ro ee hh ss uu vv pp kk rr tt gg aa dd bd ga im)[sp + 16]? = some (cP 0 48 (ss 8)) from ((hf_S hl hp) 16 (by decide))) (by omega)) (fun _ => ?_)
    refine T_nm (fun z1 hz1 => ?_)
    have hb1 : z1 = 0 ∧ ss 0 10 < 4 ∨ z1 = 1 ∧ 4 ≤ ss 0 10 := by rw [hz1]; split <;> omega
    have K4 : ∀ (ss4 : am_F), ss4 = (if z1 = 0 then (let ss53 : am_F := (am_put (am_put (am_put (am_put ss 8 (((ss 0 10) * 4).toNat) na) 8 ((((ss 0 10) * 4) + 1).toNat) nb) 8 ((((ss 0 10) * 4) + 2).toNat) nc) 8 ((((ss 0 10) * 4) + 3).toNat) nd); (am_put ss53 0 10 ((ss53 0 10) + 1))) else ss) →  am_T S zX10_add d u Q 64 [none, none, none, none, none, none] [] (hfW w hb sp rb rs hb (aR sp) ro ee hh ss4 uu vv pp kk rr tt gg aa dd bd ga im) := by
      intro ss4 hss4 
      exact T_return (am_dec tX10_add_1 0 rfl) rfl (am_tr (fun (x9 : am_F) => Q (.inl none) (hfW w hb sp rb rs hb (aR sp) ro ee hh x9 uu vv pp kk rr tt gg aa dd bd ga im)) (y := ss4) (show (c_addS7 ss na nb nc nd) = ss4 from (by have s9 := hz1.symm; subst s9; have s9 := hss4.symm; subst s9; exact rfl)) hQ)
    refine T_if_ne 64 (am_dec tX10_add_0 2 rfl) rfl (fun h4 => ?_) (fun h4 => ?_)
    · refine T_weak (ls' := [none, none, none, none, none, none]) (am_sub_n (am_sub_n (am_sub_n (am_sub_n (am_sub_n (am_sub_n am_sub_nil)))))) ?_
      exact K4 _ (if_neg h4).symm 
    · refine T_aload_n (am_dec tX10_add_0 3 rfl) rfl ?_
      refine T_getfield 9 2 (am_dec tX10_add_0 4 rfl) flX10_25_9 (show (hfW w hb sp rb rs hb (aR sp) ro ee hh ss uu vv pp kk rr tt gg aa dd bd ga im)[sp + 15]? = some (cO 9 [aI 4, aR (sp + 16), aI (ss 0 10)]) from ((hf_S hl hp) 15 (by decide))) rfl ?_
      refine T_iconst 4 (am_dec tX10_add_0 5 rfl) rfl ⟨by decide, by decide⟩ ?_
      refine T_imul ((ss 0 10) * 4) (am_dec tX10_add_0 6 rfl) rfl ⟨by omega, by omega⟩ ?_
      refine T_istore (ls' := [some (aR (sp + 15)), some (aI na), some (aI nb), some (aI nc), some (aI nd), some (aI ((ss 0 10) * 4))]) (am_dec tX10_add_0 7 rfl) (by decide) rfl ?_
      refine T_aload_n (am_dec tX10_add_0 8 rfl) rfl ?_
      refine T_getfield 9 1 (am_dec tX10_add_0 9 rfl) flX10_11_9 (show (hfW w hb sp rb rs hb (aR sp) ro ee hh ss uu vv pp kk rr tt gg aa dd bd ga im)[sp + 15]? = some (cO 9 [aI 4, aR (sp + 16), aI (ss 0 10)]) from ((hf_S hl hp) 15 (by decide))) rfl ?_
      refine T_iload (am_dec tX10_add_0 10 rfl) rfl ?_
      refine T_iload_n (am_dec tX10_add_0 11 rfl) rfl ?_
      refine T_iastore (am_dec tX10_add_0 12 rfl) (show (hfW w hb sp rb rs hb (aR sp) ro ee hh ss uu vv pp kk rr tt gg aa dd bd ga im)[sp + 16]? = some (cP 0 48 (ss 8)) from ((hf_S hl hp) 16 (by decide))) (by omega) (by omega) ?_
      refine am_wE (w2 := hfW w hb sp rb rs hb (aR sp) ro ee hh (am_put ss 8 (((ss 0 10) * 4).toNat) na) uu vv pp kk rr tt gg aa dd bd ga im) (am_via (hf_uS hp) (hbW_p16 (w := hfW w hb sp rb rs hb (aR sp) ro ee hh ss uu vv pp kk rr tt gg aa dd bd ga im)) (hf_uS hp)) ?_
      refine T_aload_n (am_dec tX10_add_0 13 rfl) rfl ?_
      refine T_getfield 9 1 (am_dec tX10_add_0 14 rfl) flX10_11_9 (show (hfW w hb sp rb rs hb (aR sp) ro ee hh (am_put ss 8 (((ss 0 10) * 4).toNat) na) uu vv pp kk rr tt gg aa dd bd ga im)[sp + 15]? = some (cO 9 [aI 4, aR (sp + 16), aI (ss 0 10)]) from ((hf_S hl hp) 15 (by decide))) rfl ?_
      refine T_iload (am_dec tX10_add_0 15 rfl) rfl ?_
      refine T_iconst 1 (am_dec tX10_add_0 16 rfl) rfl ⟨by decide, by decide⟩ ?_
      refine T_iadd (((ss 0 10) * 4) + 1) (am_dec tX10_add_0 17 rfl) rfl ⟨by omega, by omega⟩ ?_
      refine T_iload_n (am_dec tX10_add_0 18 rfl) rfl ?_
      refine T_iastore (am_dec tX10_add_0 19 rfl) (show (hfW w hb sp rb rs hb (aR sp) ro ee hh (am_put ss 8 (((ss 0 10) * 4).toNat) na) uu vv pp kk rr tt gg aa dd bd ga im)[sp + 16]? = some (cP 0 48 ((am_put ss 8 (((ss 0 10) * 4).toNat) na) 8)) from ((hf_S hl hp) 16 (by decide))) (by omega) (by omega) ?_
      refine am_wE (w2 := hfW w hb sp rb rs hb (aR sp) ro ee hh (am_put (am_put ss 8 (((ss 0 10) * 4).toNat) na) 8 ((((ss 0 10) * 4) + 1).toNat) nb) uu vv pp kk rr tt gg aa dd bd ga im) (am_via (hf_uS hp) (hbW_p16 (w := hfW w hb sp rb rs hb (aR sp) ro ee hh (am_put ss 8 (((ss 0 10) * 4).toNat) na) uu vv pp kk rr tt gg aa dd bd ga im)) (hf_uS hp)) ?_
      refine T_aload_n (am_dec tX10_add_0 20 rfl) rfl ?_
      refine T_getfield 9 1 (am_dec tX10_add_0 21 rfl) flX10_11_9 (show (hfW w hb sp rb rs hb (aR sp) ro ee hh (am_put (am_put ss 8 (((ss 0 10) * 4).toNat) na) 8 ((((ss 0 10) * 4) + 1).toNat) nb) uu vv pp kk rr tt gg aa dd bd ga im)[sp + 15]? = some (cO 9 [aI 4, aR (sp + 16), aI (ss 0 10)]) from ((hf_S hl hp) 15 (by decide))) rfl ?_
      refine T_iload (am_dec tX10_add_0 22 rfl) rfl ?_
      refine T_iconst 2 (am_dec tX10_add_0 23 rfl) rfl ⟨by decide, by decide⟩ ?_
      refine T_iadd (((ss 0 10) * 4) + 2) (am_dec tX10_add_0 24 rfl) rfl ⟨by omega, by omega⟩ ?_
      refine T_iload_n (am_dec tX10_add_0 25 rfl) rfl ?_
      refine T_iastore (am_dec tX10_add_0 26 rfl) (show (hfW w hb sp rb rs hb (aR sp) ro ee hh (am_put (am_put ss 8 (((ss 0 10) * 4).toNat) na) 8 ((((ss 0 10) * 4) + 1).toNat) nb) uu vv pp kk rr tt gg aa dd bd ga im)[sp + 16]? = some (cP 0 48 ((am_put (am_put ss 8 (((ss 0 10) * 4).toNat) na) 8 ((((ss 0 10) * 4) + 1).toNat) nb) 8)) from ((hf_S hl hp) 16 (by decide))) (by omega) (by omega) ?_
      refine am_wE (w2 := hfW w hb sp rb rs hb (aR sp) ro ee hh (am_put (am_put (am_put ss 8 (((ss 0 10) * 4).toNat) na) 8 ((((ss 0 10) * 4) + 1).toNat) nb) 8 ((((ss 0 10) * 4) + 2).toNat) nc) uu vv pp kk rr tt gg aa dd bd ga im) (am_via (hf_uS hp) (hbW_p16 (w := hfW w hb sp rb rs hb (aR sp) ro ee hh (am_put (am_put ss 8 (((ss 0 10) * 4).toNat) na) 8 ((((ss 0 10) * 4) + 1).toNat) nb) uu vv pp kk rr tt gg aa dd bd ga im)) (hf_uS hp)) ?_
      refine T_aload_n (am_dec tX10_add_0 27 rfl) rfl ?_
      refine T_getfield 9 1 (am_dec tX10_add_0 28 rfl) flX10_11_9 (show (hfW w hb sp rb rs hb (aR sp) ro ee hh (am_put (am_put (am_put ss 8 (((ss 0 10) * 4).toNat) na) 8 ((((ss 0 10) * 4) + 1).toNat) nb) 8 ((((ss 0 10) * 4) + 2).toNat) nc) uu vv pp kk rr tt gg aa dd bd ga im)[sp + 15]? = some (cO 9 [aI 4, aR (sp + 16), aI (ss 0 10)]) from ((hf_S hl hp) 15 (by decide))) rfl ?_
      refine T_iload (am_dec tX10_add_0 29 rfl) rfl ?_
      refine T_iconst 3 (am_dec tX10_add_0 30 rfl) rfl ⟨by decide, by decide⟩ ?_
      refine T_iadd (((ss 0 10) * 4) + 3) (am_dec tX10_add_0 31 rfl) rfl ⟨by omega, by omega⟩ ?_
      refine T_iload (am_dec tX10_add_0 32 rfl) rfl ?_
      refine T_iastore (am_dec tX10_add_0 33 rfl) (show (hfW w hb sp rb rs hb (aR sp) ro ee hh (am_put (am_put (am_put ss 8 (((ss 0 10) * 4).toNat) na) 8 ((((ss 0 10) * 4) + 1).toNat) nb) 8 ((((ss 0 10) * 4) + 2).toNat) nc) uu vv pp kk rr tt gg aa dd bd ga im)[sp + 16]? = some (cP 0 48 ((am_put (am_put (am_put ss 8 (((ss 0 10) * 4).toNat) na) 8 ((((ss 0 10) * 4) + 1).toNat) nb) 8 ((((ss 0 10) * 4) + 2).toNat) nc) 8)) from ((hf_S hl hp) 16 (by decide))) (by omega) (by omega) ?_
      refine am_wE (w2 := hfW w hb sp rb rs hb (aR sp) ro ee hh (am_put (am_put (am_put (am_put ss 8 (((ss 0 10) * 4).toNat) na) 8 ((((ss 0 10) * 4) + 1).toNat) nb) 8 ((((ss 0 10) * 4) + 2).toNat) nc) 8 ((((ss 0 10) * 4) + 3).toNat) nd) uu vv pp kk rr tt gg aa dd bd ga im) (am_via (hf_uS hp) (hbW_p16 (w := hfW w hb sp rb rs hb (aR sp) ro ee hh (am_put (am_put (am_put ss 8 (((ss 0 10) * 4).toNat) na) 8 ((((ss 0 10) * 4) + 1).toNat) nb) 8 ((((ss 0 10) * 4) + 2).toNat) nc) uu vv pp kk rr tt gg aa dd bd ga im)) (hf_uS hp)) ?_
      refine T_nmH (W := fun x9 => hfW w hb sp rb rs hb (aR sp) ro ee hh x9 uu vv pp kk rr tt gg aa dd bd ga im) (v := (am_put (am_put (am_put (am_put ss 8 (((ss 0 10) * 4).toNat) na) 8 ((((ss 0 10) * 4) + 1).toNat) nb) 8 ((((ss 0 10) * 4) + 2).toNat) nc) 8 ((((ss 0 10) * 4) + 3).toNat) nd)) (fun ss53 hss53 => ?_)
      have hk53 : ss53 0 10 = ss 0 10 := by rw [hss53]; rfl
      refine T_aload_n (am_dec tX10_add_0 34 rfl) rfl ?_
      refine T_dup (am_dec tX10_add_0 35 rfl) rfl ?_
      refine T_getfield 9 2 (am_dec tX10_add_0 36 rfl) flX10_25_9 (show (hfW w hb sp rb rs hb (aR sp) ro ee hh ss53 uu vv pp kk rr tt gg aa dd bd ga im)[sp + 15]? = some (cO 9 [aI 4, aR (sp + 16), aI (ss53 0 10)]) from ((hf_S hl hp) 15 (by decide))) rfl ?_
      refine T_iconst 1 (am_dec tX10_add_0 37 rfl) rfl ⟨by decide, by decide⟩ ?_
      refine T_iadd ((ss53 0 10) + 1) (am_dec tX10_add_0 38 rfl) rfl ⟨by omega, by omega⟩ ?_
      refine T_putfield (fs' := [aI 4, aR (sp + 16), aI ((ss53 0 10) + 1)]) 9 2 (am_dec tX10_add_0 39 rfl) flX10_25_9 rfl rfl rfl trivial (show (hfW w hb sp rb rs hb (aR sp) ro ee hh ss53 uu vv pp kk rr tt gg aa dd bd ga im)[sp + 15]? = some (cO 9 [aI 4, aR (sp + 16), aI (ss53 0 10)]) from ((hf_S hl hp) 15 (by decide))) (Nat.le_of_ble_eq_true rfl) rfl ?_
      refine am_wE (w2 := hfW w hb sp rb rs hb (aR sp) ro ee hh (am_put ss53 0 10 ((ss53 0 10) + 1)) uu vv pp kk rr tt gg aa dd bd ga im) (am_via (hf_uS hp) (hbW_t15 (w := hfW w hb sp rb rs hb (aR sp) ro ee hh ss53 uu vv pp kk rr tt gg aa dd bd ga im)) (hf_uS hp)) ?_
      refine T_weak (ls' := [none, none, none, none, none, none]) (am_sub_n (am_sub_n (am_sub_n (am_sub_n (am_sub_n (am_sub_n am_sub_nil)))))) ?_
      exact K4 _ (by have s9 := hss53.symm; subst s9; exact (if_pos h4).symm) 
  exact key _ ⟨rfl, rfl⟩
def c_needRoom0 (ss : am_F) (pp : am_F) : am_F := (let z1 : Int := (if 12 ≤ ss 0 3 then 1 else 0); (if z1 = 0 then pp else c_wrong pp 3 (pp 0 3)))
theorem mc_needRoom0 {S : am_S} {d u : Nat} {w : AH} {hb sp rb rs : Nat} {ro : AV} (hl : 109 ≤ w.length) (hp : hb = 1 ∧ sp = 21 ∨ hb = 21 ∧ sp = 1) (hr : rb = 41 ∧ rs = 46 ∨ rb = 46 ∧ rs = 41) {ee : am_F} {hh : am_F} {ss : am_F} {uu : am_F} {vv : am_F} {pp : am_F} {kk : am_F} {rr : am_F} {tt : am_F} {gg : am_F} {aa : am_F} {dd : am_F} {bd : am_F} {ga : am_F} {im : am_F}  (hP : RdI pp) (hTp : TpI ee) (hS : SpI ss)  (hd : 2 ≤ d) : am_Out S zX5_needRoom d u [aR 52, aR (sp + 1)] (hfW w hb sp rb rs hb (aR sp) ro ee hh ss uu vv pp kk rr tt gg aa dd bd ga im) (.inl none) (hfW w hb sp rb rs hb (aR sp) ro ee hh ss uu vv (c_needRoom0 ss pp) kk rr tt gg aa dd bd ga im) := by
  have key : ∀ Q : AO → AH → Prop, Q (.inl none) (hfW w hb sp rb rs hb (aR sp) ro ee hh ss uu vv (c_needRoom0 ss pp) kk rr tt gg aa dd bd ga im) → am_M S zX5_needRoom d u [aR 52, aR (sp + 1)] (hfW w hb sp rb rs hb (aR sp) ro ee hh ss uu vv pp kk rr tt gg aa dd bd ga im) Q := by
    intro Q hQ
    refine am_body rfl (by decide +kernel) rfl (am_cats_cons rfl ( am_cats_cons rfl (am_cats_nil))) (Nat.le_of_ble_eq_true rfl) (?_ : am_T _ _ _ _ _ 0 [some (aR 52), some (aR (sp + 1))] [] (hfW w hb sp rb rs hb (aR sp) ro ee hh ss uu vv pp kk rr tt gg aa dd bd ga im))
    have hP9 := hP
    obtain ⟨⟨vr1, vr2⟩, vr3, vr4, vr5⟩ := hP9
    obtain ⟨vs1, vs2, vs3, vs4, vs5, vs6, vs7, vs8, vs9, vs10, vs11, vs12, vs13, vs14, vs15, vs16, vs17, vs18, vs19, vs20, vs21, vs22⟩ := (HbI_A hS.1).1
    refine T_aload_n (am_dec tX5_needRoom_0 0 rfl) rfl ?_
    refine T_callV (as := []) rfl (am_dec tX5_needRoom_0 1 rfl) lkX5_119 (show (hfW w hb sp rb rs hb (aR sp) ro ee hh ss uu vv pp kk rr tt gg aa dd bd ga im)[sp + 1]? = some (cO 9 [aI 12, aR (sp + 2), aI (ss 0 3)]) from ((hf_S hl hp) 1 (by decide))) rfl rfl (Nat.le_of_ble_eq_true rfl) (by omega) (m_full (d := d - 1) (show (hfW w hb sp rb rs hb (aR sp) ro ee hh ss uu vv pp kk rr tt gg aa dd bd ga im)[sp + 1]? = some (cO 9 [aI 12, aR (sp + 2), aI (ss 0 3)]) from ((hf_S hl hp) 1 (by decide))) (show (hfW w hb sp rb rs hb (aR sp) ro ee hh ss uu vv pp kk rr tt gg aa dd bd ga im)[sp + 2]? = some (cP 0 48 (ss 1)) from ((hf_S hl hp) 2 (by decide))) (by omega)) (fun _ => ?_)
    refine T_nm (fun z1 hz1 => ?_)
    have hb1 : z1 = 0 ∧ ss 0 3 < 12 ∨ z1 = 1 ∧ 12 ≤ ss 0 3 := by rw [hz1]; split <;> omega
    have K4 : ∀ (pp4 : am_F), pp4 = (if z1 = 0 then pp else c_wrong pp 3 (pp 0 3)) →  am_T S zX5_needRoom d u Q 16 [none, none] [] (hfW w hb sp rb rs hb (aR sp) ro ee hh ss uu vv pp4 kk rr tt gg aa dd bd ga im) := by
      intro pp4 hpp4 
      exact T_return (am_dec tX5_needRoom_0 8 rfl) rfl (am_tr (fun (x9 : am_F) => Q (.inl none) (hfW w hb sp rb rs hb (aR sp) ro ee hh ss uu vv x9 kk rr tt gg aa dd bd ga im)) (y := pp4) (show (c_needRoom0 ss pp) = pp4 from (by have s9 := hz1.symm; subst s9; have s9 := hpp4.symm; subst s9; exact rfl)) hQ)
    refine T_if_eq 16 (am_dec tX5_needRoom_0 2 rfl) rfl (fun h4 => ?_) (fun h4 => ?_)
    · refine T_weak (ls' := [none, none]) (am_sub_n (am_sub_n am_sub_nil)) ?_
      exact K4 _ (if_pos h4).symm 
    · refine T_aload_n (am_dec tX5_needRoom_0 3 rfl) rfl ?_
      refine T_iconst 3 (am_dec tX5_needRoom_0 4 rfl) rfl ⟨by decide, by decide⟩ ?_
      refine T_aload_n (am_dec tX5_needRoom_0 5 rfl) rfl ?_
      refine T_getfield 5 3 (am_dec tX5_needRoom_0 6 rfl) flX5_39_5 (show (hfW w hb sp rb rs hb (aR sp) ro ee hh ss uu vv pp kk rr tt gg aa dd bd ga im)[52]? = some (cO 5 [aR 51, aI (pp 0 1), aI (pp 0 2), aI (pp 0 3), aI (pp 0 4), aI (pp 0 5), aR sp, aI (pp 0 7), aI (pp 0 8), aI (pp 0 9), aI (pp 0 10)]) from (hfW_c hl 52 (by decide))) rfl ?_
      refine T_callU (as := [aI 3, aI (pp 0 3)]) rfl (am_dec tX5_needRoom_0 7 rfl) lkX5_43_X5 (show (hfW w hb sp rb rs hb (aR sp) ro ee hh ss uu vv pp kk rr tt gg aa dd bd ga im)[52]? = some (cO 5 [aR 51, aI (pp 0 1), aI (pp 0 2), aI (pp 0 3), aI (pp 0 4), aI (pp 0 5), aR sp, aI (pp 0 7), aI (pp 0 8), aI (pp 0 9), aI (pp 0 10)]) from (hfW_c hl 52 (by decide))) rfl rfl (Nat.le_of_ble_eq_true rfl) (by omega) (mc_wrong (d := d - 1) hl hp hr 3 (pp 0 3)   (by omega)) (fun _ => ?_)
      refine T_nmH (W := fun x9 => hfW w hb sp rb rs hb (aR sp) ro ee hh ss uu vv x9 kk rr tt gg aa dd bd ga im) (v := c_wrong pp 3 (pp 0 3)) (fun pp13 hpp13 => ?_)
      have hIpp13 : RdI pp13 := by rw [hpp13]; exact c_wrong_I hP _ _
      refine T_weak (ls' := [none, none]) (am_sub_n (am_sub_n am_sub_nil)) ?_
      exact K4 _ (by have s9 := hpp13.symm; subst s9; exact (if_neg h4).symm) 
  exact key _ ⟨rfl, rfl⟩
def c_addIf0 (ss : am_F) (pp : am_F) (na : Int) (nb : Int) (nc : Int) : am_F := (let z1 : Int := (c_fine pp); (if z1 = 0 then ss else c_addS0 ss na nb nc 0))
theorem mc_addIf0 {S : am_S} {d u : Nat} {w : AH} {hb sp rb rs : Nat} {ro : AV} (hl : 109 ≤ w.length) (hp : hb = 1 ∧ sp = 21 ∨ hb = 21 ∧ sp = 1) (hr : rb = 41 ∧ rs = 46 ∨ rb = 46 ∧ rs = 41) {ee : am_F} {hh : am_F} {ss : am_F} {uu : am_F} {vv : am_F} {pp : am_F} {kk : am_F} {rr : am_F} {tt : am_F} {gg : am_F} {aa : am_F} {dd : am_F} {bd : am_F} {ga : am_F} {im : am_F} (na : Int) (nb : Int) (nc : Int) (hS : SpI ss)  (hd : 2 ≤ d) : am_Out S zX5_addIfFine d u [aR 52, aR (sp + 1), aI na, aI nb, aI nc] (hfW w hb sp rb rs hb (aR sp) ro ee hh ss uu vv pp kk rr tt gg aa dd bd ga im) (.inl none) (hfW w hb sp rb rs hb (aR sp) ro ee hh (c_addIf0 ss pp na nb nc) uu vv pp kk rr tt gg aa dd bd ga im) := by
  have key : ∀ Q : AO → AH → Prop, Q (.inl none) (hfW w hb sp rb rs hb (aR sp) ro ee hh (c_addIf0 ss pp na nb nc) uu vv pp kk rr tt gg aa dd bd ga im) → am_M S zX5_addIfFine d u [aR 52, aR (sp + 1), aI na, aI nb, aI nc] (hfW w hb sp rb rs hb (aR sp) ro ee hh ss uu vv pp kk rr tt gg aa dd bd ga im) Q := by
    intro Q hQ
    refine am_body rfl (by decide +kernel) rfl (am_cats_cons rfl ( am_cats_cons rfl ( am_cats_cons rfl ( am_cats_cons rfl ( am_cats_cons rfl (am_cats_nil)))))) (Nat.le_of_ble_eq_true rfl) (?_ : am_T _ _ _ _ _ 0 [some (aR 52), some (aR (sp + 1)), some (aI na), some (aI nb), some (aI nc)] [] (hfW w hb sp rb rs hb (aR sp) ro ee hh ss uu vv pp kk rr tt gg aa dd bd ga im))
    obtain ⟨vs1, vs2, vs3, vs4, vs5, vs6, vs7, vs8, vs9, vs10, vs11, vs12, vs13, vs14, vs15, vs16, vs17, vs18, vs19, vs20, vs21, vs22⟩ := (HbI_A hS.1).1
    refine T_aload_n (am_dec tX5_addIfFine_0 0 rfl) rfl ?_
    refine T_callU (as := []) rfl (am_dec tX5_addIfFine_0 1 rfl) lkX5_21_X5 (show (hfW w hb sp rb rs hb (aR sp) ro ee hh ss uu vv pp kk rr tt gg aa dd bd ga im)[52]? = some (cO 5 [aR 51, aI (pp 0 1), aI (pp 0 2), aI (pp 0 3), aI (pp 0 4), aI (pp 0 5), aR sp, aI (pp 0 7), aI (pp 0 8), aI (pp 0 9), aI (pp 0 10)]) from (hfW_c hl 52 (by decide))) rfl rfl (Nat.le_of_ble_eq_true rfl) (by omega) (mc_fine (d := d - 1) hl hp hr    (by omega)) (fun _ => ?_)
    refine T_nm (fun z1 hz1 => ?_)
    have hb1 := c_fine_b pp
    rw [← hz1] at hb1
    have K4 : ∀ (ss4 : am_F), ss4 = (if z1 = 0 then ss else c_addS0 ss na nb nc 0) →  am_T S zX5_addIfFine d u Q 16 [none, none, none, none, none] [] (hfW w hb sp rb rs hb (aR sp) ro ee hh ss4 uu vv pp kk rr tt gg aa dd bd ga im) := by
      intro ss4 hss4 
      exact T_return (am_dec tX5_addIfFine_0 9 rfl) rfl (am_tr (fun (x9 : am_F) => Q (.inl none) (hfW w hb sp rb rs hb (aR sp) ro ee hh x9 uu vv pp kk rr tt gg aa dd bd ga im)) (y := ss4) (show (c_addIf0 ss pp na nb nc) = ss4 from (by have s9 := hz1.symm; subst s9; have s9 := hss4.symm; subst s9; exact rfl)) hQ)
    refine T_if_eq 16 (am_dec tX5_addIfFine_0 2 rfl) rfl (fun h4 => ?_) (fun h4 => ?_)
    · refine T_weak (ls' := [none, none, none, none, none]) (am_sub_n (am_sub_n (am_sub_n (am_sub_n (am_sub_n am_sub_nil))))) ?_
      exact K4 _ (if_pos h4).symm 
    · refine T_aload_n (am_dec tX5_addIfFine_0 3 rfl) rfl ?_
      refine T_iload_n (am_dec tX5_addIfFine_0 4 rfl) rfl ?_
      refine T_iload_n (am_dec tX5_addIfFine_0 5 rfl) rfl ?_
      refine T_iload (am_dec tX5_addIfFine_0 6 rfl) rfl ?_
      refine T_iconst 0 (am_dec tX5_addIfFine_0 7 rfl) rfl ⟨by decide, by decide⟩ ?_
      refine T_callV (as := [aI na, aI nb, aI nc, aI 0]) rfl (am_dec tX5_addIfFine_0 8 rfl) lkX5_124 (show (hfW w hb sp rb rs hb (aR sp) ro ee hh ss uu vv pp kk rr tt gg aa dd bd ga im)[sp + 1]? = some (cO 9 [aI 12, aR (sp + 2), aI (ss 0 3)]) from ((hf_S hl hp) 1 (by decide))) rfl rfl (Nat.le_of_ble_eq_true rfl) (by omega) (mc_addS0 (d := d - 1) hl hp hr na nb nc 0  hS (by omega)) (fun _ => ?_)
      refine T_nmH (W := fun x9 => hfW w hb sp rb rs hb (aR sp) ro ee hh x9 uu vv pp kk rr tt gg aa dd bd ga im) (v := c_addS0 ss na nb nc 0) (fun ss13 hss13 => ?_)
      refine T_weak (ls' := [none, none, none, none, none]) (am_sub_n (am_sub_n (am_sub_n (am_sub_n (am_sub_n am_sub_nil))))) ?_
      exact K4 _ (by have s9 := hss13.symm; subst s9; exact (if_neg h4).symm) 
  exact key _ ⟨rfl, rfl⟩
def c_needRoom1 (ss : am_F) (pp : am_F) : am_F := (let z1 : Int := (if 12 ≤ ss 0 4 then 1 else 0); (if z1 = 0 then pp else c_wrong pp 3 (pp 0 3)))
theorem mc_needRoom1 {S : am_S} {d u : Nat} {w : AH} {hb sp rb rs : Nat} {ro : AV} (hl : 109 ≤ w.length) (hp : hb = 1 ∧ sp = 21 ∨ hb = 21 ∧ sp = 1) (hr : rb = 41 ∧ rs = 46 ∨ rb = 46 ∧ rs = 41) {ee : am_F} {hh : am_F} {ss : am_F} {uu : am_F} {vv : am_F} {pp : am_F} {kk : am_F} {rr : am_F} {tt : am_F} {gg : am_F} {aa : am_F} {dd : am_F} {bd : am_F} {ga : am_F} {im : am_F}  (hP : RdI pp) (hTp : TpI ee) (hS : SpI ss)  (hd : 2 ≤ d) : am_Out S zX5_needRoom d u [aR 52, aR (sp + 3)] (hfW w hb sp rb rs hb (aR sp) ro ee hh ss uu vv pp kk rr tt gg aa dd bd ga im) (.inl none) (hfW w hb sp rb rs hb (aR sp) ro ee hh ss uu vv (c_needRoom1 ss pp) kk rr tt gg aa dd bd ga im) := by
  have key : ∀ Q : AO → AH → Prop, Q (.inl none) (hfW w hb sp rb rs hb (aR sp) ro ee hh ss uu vv (c_needRoom1 ss pp) kk rr tt gg aa dd bd ga im) → am_M S zX5_needRoom d u [aR 52, aR (sp + 3)] (hfW w hb sp rb rs hb (aR sp) ro ee hh ss uu vv pp kk rr tt gg aa dd bd ga im) Q := by
    intro Q hQ
    refine am_body rfl (by decide +kernel) rfl (am_cats_cons rfl ( am_cats_cons rfl (am_cats_nil))) (Nat.le_of_ble_eq_true rfl) (?_ : am_T _ _ _ _ _ 0 [some (aR 52), some (aR (sp + 3))] [] (hfW w hb sp rb rs hb (aR sp) ro ee hh ss uu vv pp kk rr tt gg aa dd bd ga im))
    have hP9 := hP
    obtain ⟨⟨vr1, vr2⟩, vr3, vr4, vr5⟩ := hP9
    obtain ⟨vs1, vs2, vs3, vs4, vs5, vs6, vs7, vs8, vs9, vs10, vs11, vs12, vs13, vs14, vs15, vs16, vs17, vs18, vs19, vs20, vs21, vs22⟩ := (HbI_A hS.1).1
    refine T_aload_n (am_dec tX5_needRoom_0 0 rfl) rfl ?_
    refine T_callV (as := []) rfl (am_dec tX5_needRoom_0 1 rfl) lkX5_119 (show (hfW w hb sp rb rs hb (aR sp) ro ee hh ss uu vv pp kk rr tt gg aa dd bd ga im)[sp + 3]? = some (cO 9 [aI 12, aR (sp + 4), aI (ss 0 4)]) from ((hf_S hl hp) 3 (by decide))) rfl rfl (Nat.le_of_ble_eq_true rfl) (by omega) (m_full (d := d - 1) (show (hfW w hb sp rb rs hb (aR sp) ro ee hh ss uu vv pp kk rr tt gg aa dd bd ga im)[sp + 3]? = some (cO 9 [aI 12, aR (sp + 4), aI (ss 0 4)]) from ((hf_S hl hp) 3 (by decide))) (show (hfW w hb sp rb rs hb (aR sp) ro ee hh ss uu vv pp kk rr tt gg aa dd bd ga im)[sp + 4]? = some (cP 0 48 (ss 2)) from ((hf_S hl hp) 4 (by decide))) (by omega)) (fun _ => ?_)
    refine T_nm (fun z1 hz1 => ?_)
    have hb1 : z1 = 0 ∧ ss 0 4 < 12 ∨ z1 = 1 ∧ 12 ≤ ss 0 4 := by rw [hz1]; split <;> omega
    have K4 : ∀ (pp4 : am_F), pp4 = (if z1 = 0 then pp else c_wrong pp 3 (pp 0 3)) →  am_T S zX5_needRoom d u Q 16 [none, none] [] (hfW w hb sp rb rs hb (aR sp) ro ee hh ss uu vv pp4 kk rr tt gg aa dd bd ga im) := by
      intro pp4 hpp4 
      exact T_return (am_dec tX5_needRoom_0 8 rfl) rfl (am_tr (fun (x9 : am_F) => Q (.inl none) (hfW w hb sp rb rs hb (aR sp) ro ee hh ss uu vv x9 kk rr tt gg aa dd bd ga im)) (y := pp4) (show (c_needRoom1 ss pp) = pp4 from (by have s9 := hz1.symm; subst s9; have s9 := hpp4.symm; subst s9; exact rfl)) hQ)
    refine T_if_eq 16 (am_dec tX5_needRoom_0 2 rfl) rfl (fun h4 => ?_) (fun h4 => ?_)
    · refine T_weak (ls' := [none, none]) (am_sub_n (am_sub_n am_sub_nil)) ?_
      exact K4 _ (if_pos h4).symm 
    · refine T_aload_n (am_dec tX5_needRoom_0 3 rfl) rfl ?_
      refine T_iconst 3 (am_dec tX5_needRoom_0 4 rfl) rfl ⟨by decide, by decide⟩ ?_
      refine T_aload_n (am_dec tX5_needRoom_0 5 rfl) rfl ?_
      refine T_getfield 5 3 (am_dec tX5_needRoom_0 6 rfl) flX5_39_5 (show (hfW w hb sp rb rs hb (aR sp) ro ee hh ss uu vv pp kk rr tt gg aa dd bd ga im)[52]? = some (cO 5 [aR 51, aI (pp 0 1), aI (pp 0 2), aI (pp 0 3), aI (pp 0 4), aI (pp 0 5), aR sp, aI (pp 0 7), aI (pp 0 8), aI (pp 0 9), aI (pp 0 10)]) from (hfW_c hl 52 (by decide))) rfl ?_
      refine T_callU (as := [aI 3, aI (pp 0 3)]) rfl (am_dec tX5_needRoom_0 7 rfl) lkX5_43_X5 (show (hfW w hb sp rb rs hb (aR sp) ro ee hh ss uu vv pp kk rr tt gg aa dd bd ga im)[52]? = some (cO 5 [aR 51, aI (pp 0 1), aI (pp 0 2), aI (pp 0 3), aI (pp 0 4), aI (pp 0 5), aR sp, aI (pp 0 7), aI (pp 0 8), aI (pp 0 9), aI (pp 0 10)]) from (hfW_c hl 52 (by decide))) rfl rfl (Nat.le_of_ble_eq_true rfl) (by omega) (mc_wrong (d := d - 1) hl hp hr 3 (pp 0 3)   (by omega)) (fun _ => ?_)
      refine T_nmH (W := fun x9 => hfW w hb sp rb rs hb (aR sp) ro ee hh ss uu vv x9 kk rr tt gg aa dd bd ga im) (v := c_wrong pp 3 (pp 0 3)) (fun pp13 hpp13 => ?_)
      have hIpp13 : RdI pp13 := by rw [hpp13]; exact c_wrong_I hP _ _
      refine T_weak (ls' := [none, none]) (am_sub_n (am_sub_n am_sub_nil)) ?_
      exact K4 _ (by have s9 := hpp13.symm; subst s9; exact (if_neg h4).symm) 
  exact key _ ⟨rfl, rfl⟩
def c_addIf1 (ss : am_F) (pp : am_F) (na : Int) (nb : Int) (nc : Int) : am_F := (let z1 : Int := (c_fine pp); (if z1 = 0 then ss else c_addS1 ss na nb nc 0))
theorem mc_addIf1 {S : am_S} {d u : Nat} {w : AH} {hb sp rb rs : Nat} {ro : AV} (hl : 109 ≤ w.length) (hp : hb = 1 ∧ sp = 21 ∨ hb = 21 ∧ sp = 1) (hr : rb = 41 ∧ rs = 46 ∨ rb = 46 ∧ rs = 41) {ee : am_F} {hh : am_F} {ss : am_F} {uu : am_F} {vv : am_F} {pp : am_F} {kk : am_F} {rr : am_F} {tt : am_F} {gg : am_F} {aa : am_F} {dd : am_F} {bd : am_F} {ga : am_F} {im : am_F} (na : Int) (nb : Int) (nc : Int) (hS : SpI ss)  (hd : 2 ≤ d) : am_Out S zX5_addIfFine d u [aR 52, aR (sp + 3), aI na, aI nb, aI nc] (hfW w hb sp rb rs hb (aR sp) ro ee hh ss uu vv pp kk rr tt gg aa dd bd ga im) (.inl none) (hfW w hb sp rb rs hb (aR sp) ro ee hh (c_addIf1 ss pp na nb nc) uu vv pp kk rr tt gg aa dd bd ga im) := by
  have key : ∀ Q : AO → AH → Prop, Q (.inl none) (hfW w hb sp rb rs hb (aR sp) ro ee hh (c_addIf1 ss pp na nb nc) uu vv pp kk rr tt gg aa dd bd ga im) → am_M S zX5_addIfFine d u [aR 52, aR (sp + 3), aI na, aI nb, aI nc] (hfW w hb sp rb rs hb (aR sp) ro ee hh ss uu vv pp kk rr tt gg aa dd bd ga im) Q := by
    intro Q hQ
    refine am_body rfl (by decide +kernel) rfl (am_cats_cons rfl ( am_cats_cons rfl ( am_cats_cons rfl ( am_cats_cons rfl ( am_cats_cons rfl (am_cats_nil)))))) (Nat.le_of_ble_eq_true rfl) (?_ : am_T _ _ _ _ _ 0 [some (aR 52), some (aR (sp + 3)), some (aI na), some (aI nb), some (aI nc)] [] (hfW w hb sp rb rs hb (aR sp) ro ee hh ss uu vv pp kk rr tt gg aa dd bd ga im))
    obtain ⟨vs1, vs2, vs3, vs4, vs5, vs6, vs7, vs8, vs9, vs10, vs11, vs12, vs13, vs14, vs15, vs16, vs17, vs18, vs19, vs20, vs21, vs22⟩ := (HbI_A hS.1).1
    refine T_aload_n (am_dec tX5_addIfFine_0 0 rfl) rfl ?_
    refine T_callU (as := []) rfl (am_dec tX5_addIfFine_0 1 rfl) lkX5_21_X5 (show (hfW w hb sp rb rs hb (aR sp) ro ee hh ss uu vv pp kk rr tt gg aa dd bd ga im)[52]? = some (cO 5 [aR 51, aI (pp 0 1), aI (pp 0 2), aI (pp 0 3), aI (pp 0 4), aI (pp 0 5), aR sp, aI (pp 0 7), aI (pp 0 8), aI (pp 0 9), aI (pp 0 10)]) from (hfW_c hl 52 (by decide))) rfl rfl (Nat.le_of_ble_eq_true rfl) (by omega) (mc_fine (d := d - 1) hl hp hr    (by omega)) (fun _ => ?_)
    refine T_nm (fun z1 hz1 => ?_)
    have hb1 := c_fine_b pp
    rw [← hz1] at hb1
    have K4 : ∀ (ss4 : am_F), ss4 = (if z1 = 0 then ss else c_addS1 ss na nb nc 0) →  am_T S zX5_addIfFine d u Q 16 [none, none, none, none, none] [] (hfW w hb sp rb rs hb (aR sp) ro ee hh ss4 uu vv pp kk rr tt gg aa dd bd ga im) := by
      intro ss4 hss4 
      exact T_return (am_dec tX5_addIfFine_0 9 rfl) rfl (am_tr (fun (x9 : am_F) => Q (.inl none) (hfW w hb sp rb rs hb (aR sp) ro ee hh x9 uu vv pp kk rr tt gg aa dd bd ga im)) (y := ss4) (show (c_addIf1 ss pp na nb nc) = ss4 from (by have s9 := hz1.symm; subst s9; have s9 := hss4.symm; subst s9; exact rfl)) hQ)
    refine T_if_eq 16 (am_dec tX5_addIfFine_0 2 rfl) rfl (fun h4 => ?_) (fun h4 => ?_)
    · refine T_weak (ls' := [none, none, none, none, none]) (am_sub_n (am_sub_n (am_sub_n (am_sub_n (am_sub_n am_sub_nil))))) ?_
      exact K4 _ (if_pos h4).symm 
    · refine T_aload_n (am_dec tX5_addIfFine_0 3 rfl) rfl ?_
      refine T_iload_n (am_dec tX5_addIfFine_0 4 rfl) rfl ?_
      refine T_iload_n (am_dec tX5_addIfFine_0 5 rfl) rfl ?_
      refine T_iload (am_dec tX5_addIfFine_0 6 rfl) rfl ?_
      refine T_iconst 0 (am_dec tX5_addIfFine_0 7 rfl) rfl ⟨by decide, by decide⟩ ?_
      refine T_callV (as := [aI na, aI nb, aI nc, aI 0]) rfl (am_dec tX5_addIfFine_0 8 rfl) lkX5_124 (show (hfW w hb sp rb rs hb (aR sp) ro ee hh ss uu vv pp kk rr tt gg aa dd bd ga im)[sp + 3]? = some (cO 9 [aI 12, aR (sp + 4), aI (ss 0 4)]) from ((hf_S hl hp) 3 (by decide))) rfl rfl (Nat.le_of_ble_eq_true rfl) (by omega) (mc_addS1 (d := d - 1) hl hp hr na nb nc 0  hS (by omega)) (fun _ => ?_)
      refine T_nmH (W := fun x9 => hfW w hb sp rb rs hb (aR sp) ro ee hh x9 uu vv pp kk rr tt gg aa dd bd ga im) (v := c_addS1 ss na nb nc 0) (fun ss13 hss13 => ?_)
      refine T_weak (ls' := [none, none, none, none, none]) (am_sub_n (am_sub_n (am_sub_n (am_sub_n (am_sub_n am_sub_nil))))) ?_
      exact K4 _ (by have s9 := hss13.symm; subst s9; exact (if_neg h4).symm) 
  exact key _ ⟨rfl, rfl⟩
def c_needRoom2 (ss : am_F) (pp : am_F) : am_F := (let z1 : Int := (if 6 ≤ ss 0 5 then 1 else 0); (if z1 = 0 then pp else c_wrong pp 3 (pp 0 3)))
theorem mc_needRoom2 {S : am_S} {d u : Nat} {w : AH} {hb sp rb rs : Nat} {ro : AV} (hl : 109 ≤ w.length) (hp : hb = 1 ∧ sp = 21 ∨ hb = 21 ∧ sp = 1) (hr : rb = 41 ∧ rs = 46 ∨ rb = 46 ∧ rs = 41) {ee : am_F} {hh : am_F} {ss : am_F} {uu : am_F} {vv : am_F} {pp : am_F} {kk : am_F} {rr : am_F} {tt : am_F} {gg : am_F} {aa : am_F} {dd : am_F} {bd : am_F} {ga : am_F} {im : am_F}  (hP : RdI pp) (hTp : TpI ee) (hS : SpI ss)  (hd : 2 ≤ d) : am_Out S zX5_needRoom d u [aR 52, aR (sp + 5)] (hfW w hb sp rb rs hb (aR sp) ro ee hh ss uu vv pp kk rr tt gg aa dd bd ga im) (.inl none) (hfW w hb sp rb rs hb (aR sp) ro ee hh ss uu vv (c_needRoom2 ss pp) kk rr tt gg aa dd bd ga im) := by
  have key : ∀ Q : AO → AH → Prop, Q (.inl none) (hfW w hb sp rb rs hb (aR sp) ro ee hh ss uu vv (c_needRoom2 ss pp) kk rr tt gg aa dd bd ga im) → am_M S zX5_needRoom d u [aR 52, aR (sp + 5)] (hfW w hb sp rb rs hb (aR sp) ro ee hh ss uu vv pp kk rr tt gg aa dd bd ga im) Q := by
    intro Q hQ
    refine am_body rfl (by decide +kernel) rfl (am_cats_cons rfl ( am_cats_cons rfl (am_cats_nil))) (Nat.le_of_ble_eq_true rfl) (?_ : am_T _ _ _ _ _ 0 [some (aR 52), some (aR (sp + 5))] [] (hfW w hb sp rb rs hb (aR sp) ro ee hh ss uu vv pp kk rr tt gg aa dd bd ga im))
    have hP9 := hP
    obtain ⟨⟨vr1, vr2⟩, vr3, vr4, vr5⟩ := hP9
    obtain ⟨vs1, vs2, vs3, vs4, vs5, vs6, vs7, vs8, vs9, vs10, vs11, vs12, vs13, vs14, vs15, vs16, vs17, vs18, vs19, vs20, vs21, vs22⟩ := (HbI_A hS.1).1
    refine T_aload_n (am_dec tX5_needRoom_0 0 rfl) rfl ?_
    refine T_callV (as := []) rfl (am_dec tX5_needRoom_0 1 rfl) lkX5_119 (show (hfW w hb sp rb rs hb (aR sp) ro ee hh ss uu vv pp kk rr tt gg aa dd bd ga im)[sp + 5]? = some (cO 9 [aI 6, aR (sp + 6), aI (ss 0 5)]) from ((hf_S hl hp) 5 (by decide))) rfl rfl (Nat.le_of_ble_eq_true rfl) (by omega) (m_full (d := d - 1) (show (hfW w hb sp rb rs hb (aR sp) ro ee hh ss uu vv pp kk rr tt gg aa dd bd ga im)[sp + 5]? = some (cO 9 [aI 6, aR (sp + 6), aI (ss 0 5)]) from ((hf_S hl hp) 5 (by decide))) (show (hfW w hb sp rb rs hb (aR sp) ro ee hh ss uu vv pp kk rr tt gg aa dd bd ga im)[sp + 6]? = some (cP 0 48 (ss 3)) from ((hf_S hl hp) 6 (by decide))) (by omega)) (fun _ => ?_)
    refine T_nm (fun z1 hz1 => ?_)
    have hb1 : z1 = 0 ∧ ss 0 5 < 6 ∨ z1 = 1 ∧ 6 ≤ ss 0 5 := by rw [hz1]; split <;> omega
    have K4 : ∀ (pp4 : am_F), pp4 = (if z1 = 0 then pp else c_wrong pp 3 (pp 0 3)) →  am_T S zX5_needRoom d u Q 16 [none, none] [] (hfW w hb sp rb rs hb (aR sp) ro ee hh ss uu vv pp4 kk rr tt gg aa dd bd ga im) := by
      intro pp4 hpp4 
      exact T_return (am_dec tX5_needRoom_0 8 rfl) rfl (am_tr (fun (x9 : am_F) => Q (.inl none) (hfW w hb sp rb rs hb (aR sp) ro ee hh ss uu vv x9 kk rr tt gg aa dd bd ga im)) (y := pp4) (show (c_needRoom2 ss pp) = pp4 from (by have s9 := hz1.symm; subst s9; have s9 := hpp4.symm; subst s9; exact rfl)) hQ)
    refine T_if_eq 16 (am_dec tX5_needRoom_0 2 rfl) rfl (fun h4 => ?_) (fun h4 => ?_)
    · refine T_weak (ls' := [none, none]) (am_sub_n (am_sub_n am_sub_nil)) ?_
      exact K4 _ (if_pos h4).symm 
    · refine T_aload_n (am_dec tX5_needRoom_0 3 rfl) rfl ?_
      refine T_iconst 3 (am_dec tX5_needRoom_0 4 rfl) rfl ⟨by decide, by decide⟩ ?_
      refine T_aload_n (am_dec tX5_needRoom_0 5 rfl) rfl ?_
      refine T_getfield 5 3 (am_dec tX5_needRoom_0 6 rfl) flX5_39_5 (show (hfW w hb sp rb rs hb (aR sp) ro ee hh ss uu vv pp kk rr tt gg aa dd bd ga im)[52]? = some (cO 5 [aR 51, aI (pp 0 1), aI (pp 0 2), aI (pp 0 3), aI (pp 0 4), aI (pp 0 5), aR sp, aI (pp 0 7), aI (pp 0 8), aI (pp 0 9), aI (pp 0 10)]) from (hfW_c hl 52 (by decide))) rfl ?_
      refine T_callU (as := [aI 3, aI (pp 0 3)]) rfl (am_dec tX5_needRoom_0 7 rfl) lkX5_43_X5 (show (hfW w hb sp rb rs hb (aR sp) ro ee hh ss uu vv pp kk rr tt gg aa dd bd ga im)[52]? = some (cO 5 [aR 51, aI (pp 0 1), aI (pp 0 2), aI (pp 0 3), aI (pp 0 4), aI (pp 0 5), aR sp, aI (pp 0 7), aI (pp 0 8), aI (pp 0 9), aI (pp 0 10)]) from (hfW_c hl 52 (by decide))) rfl rfl (Nat.le_of_ble_eq_true rfl) (by omega) (mc_wrong (d := d - 1) hl hp hr 3 (pp 0 3)   (by omega)) (fun _ => ?_)
      refine T_nmH (W := fun x9 => hfW w hb sp rb rs hb (aR sp) ro ee hh ss uu vv x9 kk rr tt gg aa dd bd ga im) (v := c_wrong pp 3 (pp 0 3)) (fun pp13 hpp13 => ?_)
      have hIpp13 : RdI pp13 := by rw [hpp13]; exact c_wrong_I hP _ _
      refine T_weak (ls' := [none, none]) (am_sub_n (am_sub_n am_sub_nil)) ?_
      exact K4 _ (by have s9 := hpp13.symm; subst s9; exact (if_neg h4).symm) 
  exact key _ ⟨rfl, rfl⟩
def c_addIf2 (ss : am_F) (pp : am_F) (na : Int) (nb : Int) (nc : Int) : am_F := (let z1 : Int := (c_fine pp); (if z1 = 0 then ss else c_addS2 ss na nb nc 0))
theorem mc_addIf2 {S : am_S} {d u : Nat} {w : AH} {hb sp rb rs : Nat} {ro : AV} (hl : 109 ≤ w.length) (hp : hb = 1 ∧ sp = 21 ∨ hb = 21 ∧ sp = 1) (hr : rb = 41 ∧ rs = 46 ∨ rb = 46 ∧ rs = 41) {ee : am_F} {hh : am_F} {ss : am_F} {uu : am_F} {vv : am_F} {pp : am_F} {kk : am_F} {rr : am_F} {tt : am_F} {gg : am_F} {aa : am_F} {dd : am_F} {bd : am_F} {ga : am_F} {im : am_F} (na : Int) (nb : Int) (nc : Int) (hS : SpI ss)  (hd : 2 ≤ d) : am_Out S zX5_addIfFine d u [aR 52, aR (sp + 5), aI na, aI nb, aI nc] (hfW w hb sp rb rs hb (aR sp) ro ee hh ss uu vv pp kk rr tt gg aa dd bd ga im) (.inl none) (hfW w hb sp rb rs hb (aR sp) ro ee hh (c_addIf2 ss pp na nb nc) uu vv pp kk rr tt gg aa dd bd ga im) := by
  have key : ∀ Q : AO → AH → Prop, Q (.inl none) (hfW w hb sp rb rs hb (aR sp) ro ee hh (c_addIf2 ss pp na nb nc) uu vv pp kk rr tt gg aa dd bd ga im) → am_M S zX5_addIfFine d u [aR 52, aR (sp + 5), aI na, aI nb, aI nc] (hfW w hb sp rb rs hb (aR sp) ro ee hh ss uu vv pp kk rr tt gg aa dd bd ga im) Q := by
    intro Q hQ
    refine am_body rfl (by decide +kernel) rfl (am_cats_cons rfl ( am_cats_cons rfl ( am_cats_cons rfl ( am_cats_cons rfl ( am_cats_cons rfl (am_cats_nil)))))) (Nat.le_of_ble_eq_true rfl) (?_ : am_T _ _ _ _ _ 0 [some (aR 52), some (aR (sp + 5)), some (aI na), some (aI nb), some (aI nc)] [] (hfW w hb sp rb rs hb (aR sp) ro ee hh ss uu vv pp kk rr tt gg aa dd bd ga im))
    obtain ⟨vs1, vs2, vs3, vs4, vs5, vs6, vs7, vs8, vs9, vs10, vs11, vs12, vs13, vs14, vs15, vs16, vs17, vs18, vs19, vs20, vs21, vs22⟩ := (HbI_A hS.1).1
    refine T_aload_n (am_dec tX5_addIfFine_0 0 rfl) rfl ?_
    refine T_callU (as := []) rfl (am_dec tX5_addIfFine_0 1 rfl) lkX5_21_X5 (show (hfW w hb sp rb rs hb (aR sp) ro ee hh ss uu vv pp kk rr tt gg aa dd bd ga im)[52]? = some (cO 5 [aR 51, aI (pp 0 1), aI (pp 0 2), aI (pp 0 3), aI (pp 0 4), aI (pp 0 5), aR sp, aI (pp 0 7), aI (pp 0 8), aI (pp 0 9), aI (pp 0 10)]) from (hfW_c hl 52 (by decide))) rfl rfl (Nat.le_of_ble_eq_true rfl) (by omega) (mc_fine (d := d - 1) hl hp hr    (by omega)) (fun _ => ?_)
    refine T_nm (fun z1 hz1 => ?_)
    have hb1 := c_fine_b pp
    rw [← hz1] at hb1
    have K4 : ∀ (ss4 : am_F), ss4 = (if z1 = 0 then ss else c_addS2 ss na nb nc 0) →  am_T S zX5_addIfFine d u Q 16 [none, none, none, none, none] [] (hfW w hb sp rb rs hb (aR sp) ro ee hh ss4 uu vv pp kk rr tt gg aa dd bd ga im) := by
      intro ss4 hss4 
      exact T_return (am_dec tX5_addIfFine_0 9 rfl) rfl (am_tr (fun (x9 : am_F) => Q (.inl none) (hfW w hb sp rb rs hb (aR sp) ro ee hh x9 uu vv pp kk rr tt gg aa dd bd ga im)) (y := ss4) (show (c_addIf2 ss pp na nb nc) = ss4 from (by have s9 := hz1.symm; subst s9; have s9 := hss4.symm; subst s9; exact rfl)) hQ)
    refine T_if_eq 16 (am_dec tX5_addIfFine_0 2 rfl) rfl (fun h4 => ?_) (fun h4 => ?_)
    · refine T_weak (ls' := [none, none, none, none, none]) (am_sub_n (am_sub_n (am_sub_n (am_sub_n (am_sub_n am_sub_nil))))) ?_
      exact K4 _ (if_pos h4).symm 
    · refine T_aload_n (am_dec tX5_addIfFine_0 3 rfl) rfl ?_
      refine T_iload_n (am_dec tX5_addIfFine_0 4 rfl) rfl ?_
      refine T_iload_n (am_dec tX5_addIfFine_0 5 rfl) rfl ?_
      refine T_iload (am_dec tX5_addIfFine_0 6 rfl) rfl ?_
      refine T_iconst 0 (am_dec tX5_addIfFine_0 7 rfl) rfl ⟨by decide, by decide⟩ ?_
      refine T_callV (as := [aI na, aI nb, aI nc, aI 0]) rfl (am_dec tX5_addIfFine_0 8 rfl) lkX5_124 (show (hfW w hb sp rb rs hb (aR sp) ro ee hh ss uu vv pp kk rr tt gg aa dd bd ga im)[sp + 5]? = some (cO 9 [aI 6, aR (sp + 6), aI (ss 0 5)]) from ((hf_S hl hp) 5 (by decide))) rfl rfl (Nat.le_of_ble_eq_true rfl) (by omega) (mc_addS2 (d := d - 1) hl hp hr na nb nc 0  hS (by omega)) (fun _ => ?_)
      refine T_nmH (W := fun x9 => hfW w hb sp rb rs hb (aR sp) ro ee hh x9 uu vv pp kk rr tt gg aa dd bd ga im) (v := c_addS2 ss na nb nc 0) (fun ss13 hss13 => ?_)
      refine T_weak (ls' := [none, none, none, none, none]) (am_sub_n (am_sub_n (am_sub_n (am_sub_n (am_sub_n am_sub_nil))))) ?_
      exact K4 _ (by have s9 := hss13.symm; subst s9; exact (if_neg h4).symm) 
  exact key _ ⟨rfl, rfl⟩
def c_needRoom3 (ss : am_F) (pp : am_F) : am_F := (let z1 : Int := (if 6 ≤ ss 0 6 then 1 else 0); (if z1 = 0 then pp else c_wrong pp 3 (pp 0 3)))
theorem mc_needRoom3 {S : am_S} {d u : Nat} {w : AH} {hb sp rb rs : Nat} {ro : AV} (hl : 109 ≤ w.length) (hp : hb = 1 ∧ sp = 21 ∨ hb = 21 ∧ sp = 1) (hr : rb = 41 ∧ rs = 46 ∨ rb = 46 ∧ rs = 41) {ee : am_F} {hh : am_F} {ss : am_F} {uu : am_F} {vv : am_F} {pp : am_F} {kk : am_F} {rr : am_F} {tt : am_F} {gg : am_F} {aa : am_F} {dd : am_F} {bd : am_F} {ga : am_F} {im : am_F}  (hP : RdI pp) (hTp : TpI ee) (hS : SpI ss)  (hd : 2 ≤ d) : am_Out S zX5_needRoom d u [aR 52, aR (sp + 7)] (hfW w hb sp rb rs hb (aR sp) ro ee hh ss uu vv pp kk rr tt gg aa dd bd ga im) (.inl none) (hfW w hb sp rb rs hb (aR sp) ro ee hh ss uu vv (c_needRoom3 ss pp) kk rr tt gg aa dd bd ga im) := by
  have key : ∀ Q : AO → AH → Prop, Q (.inl none) (hfW w hb sp rb rs hb (aR sp) ro ee hh ss uu vv (c_needRoom3 ss pp) kk rr tt gg aa dd bd ga im) → am_M S zX5_needRoom d u [aR 52, aR (sp + 7)] (hfW w hb sp rb rs hb (aR sp) ro ee hh ss uu vv pp kk rr tt gg aa dd bd ga im) Q := by
    intro Q hQ
    refine am_body rfl (by decide +kernel) rfl (am_cats_cons rfl ( am_cats_cons rfl (am_cats_nil))) (Nat.le_of_ble_eq_true rfl) (?_ : am_T _ _ _ _ _ 0 [some (aR 52), some (aR (sp + 7))] [] (hfW w hb sp rb rs hb (aR sp) ro ee hh ss uu vv pp kk rr tt gg aa dd bd ga im))
    have hP9 := hP
    obtain ⟨⟨vr1, vr2⟩, vr3, vr4, vr5⟩ := hP9
    obtain ⟨vs1, vs2, vs3, vs4, vs5, vs6, vs7, vs8, vs9, vs10, vs11, vs12, vs13, vs14, vs15, vs16, vs17, vs18, vs19, vs20, vs21, vs22⟩ := (HbI_A hS.1).1
    refine T_aload_n (am_dec tX5_needRoom_0 0 rfl) rfl ?_
    refine T_callV (as := []) rfl (am_dec tX5_needRoom_0 1 rfl) lkX5_119 (show (hfW w hb sp rb rs hb (aR sp) ro ee hh ss uu vv pp kk rr tt gg aa dd bd ga im)[sp + 7]? = some (cO 9 [aI 6, aR (sp + 8), aI (ss 0 6)]) from ((hf_S hl hp) 7 (by decide))) rfl rfl (Nat.le_of_ble_eq_true rfl) (by omega) (m_full (d := d - 1) (show (hfW w hb sp rb rs hb (aR sp) ro ee hh ss uu vv pp kk rr tt gg aa dd bd ga im)[sp + 7]? = some (cO 9 [aI 6, aR (sp + 8), aI (ss 0 6)]) from ((hf_S hl hp) 7 (by decide))) (show (hfW w hb sp rb rs hb (aR sp) ro ee hh ss uu vv pp kk rr tt gg aa dd bd ga im)[sp + 8]? = some (cP 0 48 (ss 4)) from ((hf_S hl hp) 8 (by decide))) (by omega)) (fun _ => ?_)
    refine T_nm (fun z1 hz1 => ?_)
    have hb1 : z1 = 0 ∧ ss 0 6 < 6 ∨ z1 = 1 ∧ 6 ≤ ss 0 6 := by rw [hz1]; split <;> omega
    have K4 : ∀ (pp4 : am_F), pp4 = (if z1 = 0 then pp else c_wrong pp 3 (pp 0 3)) →  am_T S zX5_needRoom d u Q 16 [none, none] [] (hfW w hb sp rb rs hb (aR sp) ro ee hh ss uu vv pp4 kk rr tt gg aa dd bd ga im) := by
      intro pp4 hpp4 
      exact T_return (am_dec tX5_needRoom_0 8 rfl) rfl (am_tr (fun (x9 : am_F) => Q (.inl none) (hfW w hb sp rb rs hb (aR sp) ro ee hh ss uu vv x9 kk rr tt gg aa dd bd ga im)) (y := pp4) (show (c_needRoom3 ss pp) = pp4 from (by have s9 := hz1.symm; subst s9; have s9 := hpp4.symm; subst s9; exact rfl)) hQ)
    refine T_if_eq 16 (am_dec tX5_needRoom_0 2 rfl) rfl (fun h4 => ?_) (fun h4 => ?_)
    · refine T_weak (ls' := [none, none]) (am_sub_n (am_sub_n am_sub_nil)) ?_
      exact K4 _ (if_pos h4).symm 
    · refine T_aload_n (am_dec tX5_needRoom_0 3 rfl) rfl ?_
      refine T_iconst 3 (am_dec tX5_needRoom_0 4 rfl) rfl ⟨by decide, by decide⟩ ?_
      refine T_aload_n (am_dec tX5_needRoom_0 5 rfl) rfl ?_
      refine T_getfield 5 3 (am_dec tX5_needRoom_0 6 rfl) flX5_39_5 (show (hfW w hb sp rb rs hb (aR sp) ro ee hh ss uu vv pp kk rr tt gg aa dd bd ga im)[52]? = some (cO 5 [aR 51, aI (pp 0 1), aI (pp 0 2), aI (pp 0 3), aI (pp 0 4), aI (pp 0 5), aR sp, aI (pp 0 7), aI (pp 0 8), aI (pp 0 9), aI (pp 0 10)]) from (hfW_c hl 52 (by decide))) rfl ?_
      refine T_callU (as := [aI 3, aI (pp 0 3)]) rfl (am_dec tX5_needRoom_0 7 rfl) lkX5_43_X5 (show (hfW w hb sp rb rs hb (aR sp) ro ee hh ss uu vv pp kk rr tt gg aa dd bd ga im)[52]? = some (cO 5 [aR 51, aI (pp 0 1), aI (pp 0 2), aI (pp 0 3), aI (pp 0 4), aI (pp 0 5), aR sp, aI (pp 0 7), aI (pp 0 8), aI (pp 0 9), aI (pp 0 10)]) from (hfW_c hl 52 (by decide))) rfl rfl (Nat.le_of_ble_eq_true rfl) (by omega) (mc_wrong (d := d - 1) hl hp hr 3 (pp 0 3)   (by omega)) (fun _ => ?_)
      refine T_nmH (W := fun x9 => hfW w hb sp rb rs hb (aR sp) ro ee hh ss uu vv x9 kk rr tt gg aa dd bd ga im) (v := c_wrong pp 3 (pp 0 3)) (fun pp13 hpp13 => ?_)
      have hIpp13 : RdI pp13 := by rw [hpp13]; exact c_wrong_I hP _ _
      refine T_weak (ls' := [none, none]) (am_sub_n (am_sub_n am_sub_nil)) ?_
      exact K4 _ (by have s9 := hpp13.symm; subst s9; exact (if_neg h4).symm) 
  exact key _ ⟨rfl, rfl⟩
def c_addIf3 (ss : am_F) (pp : am_F) (na : Int) (nb : Int) (nc : Int) : am_F := (let z1 : Int := (c_fine pp); (if z1 = 0 then ss else c_addS3 ss na nb nc 0))
theorem mc_addIf3 {S : am_S} {d u : Nat} {w : AH} {hb sp rb rs : Nat} {ro : AV} (hl : 109 ≤ w.length) (hp : hb = 1 ∧ sp = 21 ∨ hb = 21 ∧ sp = 1) (hr : rb = 41 ∧ rs = 46 ∨ rb = 46 ∧ rs = 41) {ee : am_F} {hh : am_F} {ss : am_F} {uu : am_F} {vv : am_F} {pp : am_F} {kk : am_F} {rr : am_F} {tt : am_F} {gg : am_F} {aa : am_F} {dd : am_F} {bd : am_F} {ga : am_F} {im : am_F} (na : Int) (nb : Int) (nc : Int) (hS : SpI ss)  (hd : 2 ≤ d) : am_Out S zX5_addIfFine d u [aR 52, aR (sp + 7), aI na, aI nb, aI nc] (hfW w hb sp rb rs hb (aR sp) ro ee hh ss uu vv pp kk rr tt gg aa dd bd ga im) (.inl none) (hfW w hb sp rb rs hb (aR sp) ro ee hh (c_addIf3 ss pp na nb nc) uu vv pp kk rr tt gg aa dd bd ga im) := by
  have key : ∀ Q : AO → AH → Prop, Q (.inl none) (hfW w hb sp rb rs hb (aR sp) ro ee hh (c_addIf3 ss pp na nb nc) uu vv pp kk rr tt gg aa dd bd ga im) → am_M S zX5_addIfFine d u [aR 52, aR (sp + 7), aI na, aI nb, aI nc] (hfW w hb sp rb rs hb (aR sp) ro ee hh ss uu vv pp kk rr tt gg aa dd bd ga im) Q := by
    intro Q hQ
    refine am_body rfl (by decide +kernel) rfl (am_cats_cons rfl ( am_cats_cons rfl ( am_cats_cons rfl ( am_cats_cons rfl ( am_cats_cons rfl (am_cats_nil)))))) (Nat.le_of_ble_eq_true rfl) (?_ : am_T _ _ _ _ _ 0 [some (aR 52), some (aR (sp + 7)), some (aI na), some (aI nb), some (aI nc)] [] (hfW w hb sp rb rs hb (aR sp) ro ee hh ss uu vv pp kk rr tt gg aa dd bd ga im))
    obtain ⟨vs1, vs2, vs3, vs4, vs5, vs6, vs7, vs8, vs9, vs10, vs11, vs12, vs13, vs14, vs15, vs16, vs17, vs18, vs19, vs20, vs21, vs22⟩ := (HbI_A hS.1).1
    refine T_aload_n (am_dec tX5_addIfFine_0 0 rfl) rfl ?_
    refine T_callU (as := []) rfl (am_dec tX5_addIfFine_0 1 rfl) lkX5_21_X5 (show (hfW w hb sp rb rs hb (aR sp) ro ee hh ss uu vv pp kk rr tt gg aa dd bd ga im)[52]? = some (cO 5 [aR 51, aI (pp 0 1), aI (pp 0 2), aI (pp 0 3), aI (pp 0 4), aI (pp 0 5), aR sp, aI (pp 0 7), aI (pp 0 8), aI (pp 0 9), aI (pp 0 10)]) from (hfW_c hl 52 (by decide))) rfl rfl (Nat.le_of_ble_eq_true rfl) (by omega) (mc_fine (d := d - 1) hl hp hr    (by omega)) (fun _ => ?_)
    refine T_nm (fun z1 hz1 => ?_)
    have hb1 := c_fine_b pp
    rw [← hz1] at hb1
    have K4 : ∀ (ss4 : am_F), ss4 = (if z1 = 0 then ss else c_addS3 ss na nb nc 0) →  am_T S zX5_addIfFine d u Q 16 [none, none, none, none, none] [] (hfW w hb sp rb rs hb (aR sp) ro ee hh ss4 uu vv pp kk rr tt gg aa dd bd ga im) := by
      intro ss4 hss4 
      exact T_return (am_dec tX5_addIfFine_0 9 rfl) rfl (am_tr (fun (x9 : am_F) => Q (.inl none) (hfW w hb sp rb rs hb (aR sp) ro ee hh x9 uu vv pp kk rr tt gg aa dd bd ga im)) (y := ss4) (show (c_addIf3 ss pp na nb nc) = ss4 from (by have s9 := hz1.symm; subst s9; have s9 := hss4.symm; subst s9; exact rfl)) hQ)
    refine T_if_eq 16 (am_dec tX5_addIfFine_0 2 rfl) rfl (fun h4 => ?_) (fun h4 => ?_)
    · refine T_weak (ls' := [none, none, none, none, none]) (am_sub_n (am_sub_n (am_sub_n (am_sub_n (am_sub_n am_sub_nil))))) ?_
      exact K4 _ (if_pos h4).symm 
    · refine T_aload_n (am_dec tX5_addIfFine_0 3 rfl) rfl ?_
      refine T_iload_n (am_dec tX5_addIfFine_0 4 rfl) rfl ?_
      refine T_iload_n (am_dec tX5_addIfFine_0 5 rfl) rfl ?_
      refine T_iload (am_dec tX5_addIfFine_0 6 rfl) rfl ?_
      refine T_iconst 0 (am_dec tX5_addIfFine_0 7 rfl) rfl ⟨by decide, by decide⟩ ?_
      refine T_callV (as := [aI na, aI nb, aI nc, aI 0]) rfl (am_dec tX5_addIfFine_0 8 rfl) lkX5_124 (show (hfW w hb sp rb rs hb (aR sp) ro ee hh ss uu vv pp kk rr tt gg aa dd bd ga im)[sp + 7]? = some (cO 9 [aI 6, aR (sp + 8), aI (ss 0 6)]) from ((hf_S hl hp) 7 (by decide))) rfl rfl (Nat.le_of_ble_eq_true rfl) (by omega) (mc_addS3 (d := d - 1) hl hp hr na nb nc 0  hS (by omega)) (fun _ => ?_)
      refine T_nmH (W := fun x9 => hfW w hb sp rb rs hb (aR sp) ro ee hh x9 uu vv pp kk rr tt gg aa dd bd ga im) (v := c_addS3 ss na nb nc 0) (fun ss13 hss13 => ?_)
      refine T_weak (ls' := [none, none, none, none, none]) (am_sub_n (am_sub_n (am_sub_n (am_sub_n (am_sub_n am_sub_nil))))) ?_
      exact K4 _ (by have s9 := hss13.symm; subst s9; exact (if_neg h4).symm) 
  exact key _ ⟨rfl, rfl⟩
def c_needRoom4 (ss : am_F) (pp : am_F) : am_F := (let z1 : Int := (if 6 ≤ ss 0 7 then 1 else 0); (if z1 = 0 then pp else c_wrong pp 3 (pp 0 3)))
theorem mc_needRoom4 {S : am_S} {d u : Nat} {w : AH} {hb sp rb rs : Nat} {ro : AV} (hl : 109 ≤ w.length) (hp : hb = 1 ∧ sp = 21 ∨ hb = 21 ∧ sp = 1) (hr : rb = 41 ∧ rs = 46 ∨ rb = 46 ∧ rs = 41) {ee : am_F} {hh : am_F} {ss : am_F} {uu : am_F} {vv : am_F} {pp : am_F} {kk : am_F} {rr : am_F} {tt : am_F} {gg : am_F} {aa : am_F} {dd : am_F} {bd : am_F} {ga : am_F} {im : am_F}  (hP : RdI pp) (hTp : TpI ee) (hS : SpI ss)  (hd : 2 ≤ d) : am_Out S zX5_needRoom d u [aR 52, aR (sp + 9)] (hfW w hb sp rb rs hb (aR sp) ro ee hh ss uu vv pp kk rr tt gg aa dd bd ga im) (.inl none) (hfW w hb sp rb rs hb (aR sp) ro ee hh ss uu vv (c_needRoom4 ss pp) kk rr tt gg aa dd bd ga im) := by
  have key : ∀ Q : AO → AH → Prop, Q (.inl none) (hfW w hb sp rb rs hb (aR sp) ro ee hh ss uu vv (c_needRoom4 ss pp) kk rr tt gg aa dd bd ga im) → am_M S zX5_needRoom d u [aR 52, aR (sp + 9)] (hfW w hb sp rb rs hb (aR sp) ro ee hh ss uu vv pp kk rr tt gg aa dd bd ga im) Q := by
    intro Q hQ
    refine am_body rfl (by decide +kernel) rfl (am_cats_cons rfl ( am_cats_cons rfl (am_cats_nil))) (Nat.le_of_ble_eq_true rfl) (?_ : am_T _ _ _ _ _ 0 [some (aR 52), some (aR (sp + 9))] [] (hfW w hb sp rb rs hb (aR sp) ro ee hh ss uu vv pp kk rr tt gg aa dd bd ga im))
    have hP9 := hP
    obtain ⟨⟨vr1, vr2⟩, vr3, vr4, vr5⟩ := hP9
    obtain ⟨vs1, vs2, vs3, vs4, vs5, vs6, vs7, vs8, vs9, vs10, vs11, vs12, vs13, vs14, vs15, vs16, vs17, vs18, vs19, vs20, vs21, vs22⟩ := (HbI_A hS.1).1
    refine T_aload_n (am_dec tX5_needRoom_0 0 rfl) rfl ?_
    refine T_callV (as := []) rfl (am_dec tX5_needRoom_0 1 rfl) lkX5_119 (show (hfW w hb sp rb rs hb (aR sp) ro ee hh ss uu vv pp kk rr tt gg aa dd bd ga im)[sp + 9]? = some (cO 9 [aI 6, aR (sp + 10), aI (ss 0 7)]) from ((hf_S hl hp) 9 (by decide))) rfl rfl (Nat.le_of_ble_eq_true rfl) (by omega) (m_full (d := d - 1) (show (hfW w hb sp rb rs hb (aR sp) ro ee hh ss uu vv pp kk rr tt gg aa dd bd ga im)[sp + 9]? = some (cO 9 [aI 6, aR (sp + 10), aI (ss 0 7)]) from ((hf_S hl hp) 9 (by decide))) (show (hfW w hb sp rb rs hb (aR sp) ro ee hh ss uu vv pp kk rr tt gg aa dd bd ga im)[sp + 10]? = some (cP 0 48 (ss 5)) from ((hf_S hl hp) 10 (by decide))) (by omega)) (fun _ => ?_)
    refine T_nm (fun z1 hz1 => ?_)
    have hb1 : z1 = 0 ∧ ss 0 7 < 6 ∨ z1 = 1 ∧ 6 ≤ ss 0 7 := by rw [hz1]; split <;> omega
    have K4 : ∀ (pp4 : am_F), pp4 = (if z1 = 0 then pp else c_wrong pp 3 (pp 0 3)) →  am_T S zX5_needRoom d u Q 16 [none, none] [] (hfW w hb sp rb rs hb (aR sp) ro ee hh ss uu vv pp4 kk rr tt gg aa dd bd ga im) := by
      intro pp4 hpp4 
      exact T_return (am_dec tX5_needRoom_0 8 rfl) rfl (am_tr (fun (x9 : am_F) => Q (.inl none) (hfW w hb sp rb rs hb (aR sp) ro ee hh ss uu vv x9 kk rr tt gg aa dd bd ga im)) (y := pp4) (show (c_needRoom4 ss pp) = pp4 from (by have s9 := hz1.symm; subst s9; have s9 := hpp4.symm; subst s9; exact rfl)) hQ)
    refine T_if_eq 16 (am_dec tX5_needRoom_0 2 rfl) rfl (fun h4 => ?_) (fun h4 => ?_)
    · refine T_weak (ls' := [none, none]) (am_sub_n (am_sub_n am_sub_nil)) ?_
      exact K4 _ (if_pos h4).symm 
    · refine T_aload_n (am_dec tX5_needRoom_0 3 rfl) rfl ?_
      refine T_iconst 3 (am_dec tX5_needRoom_0 4 rfl) rfl ⟨by decide, by decide⟩ ?_
      refine T_aload_n (am_dec tX5_needRoom_0 5 rfl) rfl ?_
      refine T_getfield 5 3 (am_dec tX5_needRoom_0 6 rfl) flX5_39_5 (show (hfW w hb sp rb rs hb (aR sp) ro ee hh ss uu vv pp kk rr tt gg aa dd bd ga im)[52]? = some (cO 5 [aR 51, aI (pp 0 1), aI (pp 0 2), aI (pp 0 3), aI (pp 0 4), aI (pp 0 5), aR sp, aI (pp 0 7), aI (pp 0 8), aI (pp 0 9), aI (pp 0 10)]) from (hfW_c hl 52 (by decide))) rfl ?_
      refine T_callU (as := [aI 3, aI (pp 0 3)]) rfl (am_dec tX5_needRoom_0 7 rfl) lkX5_43_X5 (show (hfW w hb sp rb rs hb (aR sp) ro ee hh ss uu vv pp kk rr tt gg aa dd bd ga im)[52]? = some (cO 5 [aR 51, aI (pp 0 1), aI (pp 0 2), aI (pp 0 3), aI (pp 0 4), aI (pp 0 5), aR sp, aI (pp 0 7), aI (pp 0 8), aI (pp 0 9), aI (pp 0 10)]) from (hfW_c hl 52 (by decide))) rfl rfl (Nat.le_of_ble_eq_true rfl) (by omega) (mc_wrong (d := d - 1) hl hp hr 3 (pp 0 3)   (by omega)) (fun _ => ?_)
      refine T_nmH (W := fun x9 => hfW w hb sp rb rs hb (aR sp) ro ee hh ss uu vv x9 kk rr tt gg aa dd bd ga im) (v := c_wrong pp 3 (pp 0 3)) (fun pp13 hpp13 => ?_)
      have hIpp13 : RdI pp13 := by rw [hpp13]; exact c_wrong_I hP _ _
      refine T_weak (ls' := [none, none]) (am_sub_n (am_sub_n am_sub_nil)) ?_
      exact K4 _ (by have s9 := hpp13.symm; subst s9; exact (if_neg h4).symm) 
  exact key _ ⟨rfl, rfl⟩
def c_addIf4 (ss : am_F) (pp : am_F) (na : Int) (nb : Int) (nc : Int) : am_F := (let z1 : Int := (c_fine pp); (if z1 = 0 then ss else c_addS4 ss na nb nc 0))
theorem mc_addIf4 {S : am_S} {d u : Nat} {w : AH} {hb sp rb rs : Nat} {ro : AV} (hl : 109 ≤ w.length) (hp : hb = 1 ∧ sp = 21 ∨ hb = 21 ∧ sp = 1) (hr : rb = 41 ∧ rs = 46 ∨ rb = 46 ∧ rs = 41) {ee : am_F} {hh : am_F} {ss : am_F} {uu : am_F} {vv : am_F} {pp : am_F} {kk : am_F} {rr : am_F} {tt : am_F} {gg : am_F} {aa : am_F} {dd : am_F} {bd : am_F} {ga : am_F} {im : am_F} (na : Int) (nb : Int) (nc : Int) (hS : SpI ss)  (hd : 2 ≤ d) : am_Out S zX5_addIfFine d u [aR 52, aR (sp + 9), aI na, aI nb, aI nc] (hfW w hb sp rb rs hb (aR sp) ro ee hh ss uu vv pp kk rr tt gg aa dd bd ga im) (.inl none) (hfW w hb sp rb rs hb (aR sp) ro ee hh (c_addIf4 ss pp na nb nc) uu vv pp kk rr tt gg aa dd bd ga im) := by
  have key : ∀ Q : AO → AH → Prop, Q (.inl none) (hfW w hb sp rb rs hb (aR sp) ro ee hh (c_addIf4 ss pp na nb nc) uu vv pp kk rr tt gg aa dd bd ga im) → am_M S zX5_addIfFine d u [aR 52, aR (sp + 9), aI na, aI nb, aI nc] (hfW w hb sp rb rs hb (aR sp) ro ee hh ss uu vv pp kk rr tt gg aa dd bd ga im) Q := by
    intro Q hQ
    refine am_body rfl (by decide +kernel) rfl (am_cats_cons rfl ( am_cats_cons rfl ( am_cats_cons rfl ( am_cats_cons rfl ( am_cats_cons rfl (am_cats_nil)))))) (Nat.le_of_ble_eq_true rfl) (?_ : am_T _ _ _ _ _ 0 [some (aR 52), some (aR (sp + 9)), some (aI na), some (aI nb), some (aI nc)] [] (hfW w hb sp rb rs hb (aR sp) ro ee hh ss uu vv pp kk rr tt gg aa dd bd ga im))
    obtain ⟨vs1, vs2, vs3, vs4, vs5, vs6, vs7, vs8, vs9, vs10, vs11, vs12, vs13, vs14, vs15, vs16, vs17, vs18, vs19, vs20, vs21, vs22⟩ := (HbI_A hS.1).1
    refine T_aload_n (am_dec tX5_addIfFine_0 0 rfl) rfl ?_
    refine T_callU (as := []) rfl (am_dec tX5_addIfFine_0 1 rfl) lkX5_21_X5 (show (hfW w hb sp rb rs hb (aR sp) ro ee hh ss uu vv pp kk rr tt gg aa dd bd ga im)[52]? = some (cO 5 [aR 51, aI (pp 0 1), aI (pp 0 2), aI (pp 0 3), aI (pp 0 4), aI (pp 0 5), aR sp, aI (pp 0 7), aI (pp 0 8), aI (pp 0 9), aI (pp 0 10)]) from (hfW_c hl 52 (by decide))) rfl rfl (Nat.le_of_ble_eq_true rfl) (by omega) (mc_fine (d := d - 1) hl hp hr    (by omega)) (fun _ => ?_)
    refine T_nm (fun z1 hz1 => ?_)
    have hb1 := c_fine_b pp
    rw [← hz1] at hb1
    have K4 : ∀ (ss4 : am_F), ss4 = (if z1 = 0 then ss else c_addS4 ss na nb nc 0) →  am_T S zX5_addIfFine d u Q 16 [none, none, none, none, none] [] (hfW w hb sp rb rs hb (aR sp) ro ee hh ss4 uu vv pp kk rr tt gg aa dd bd ga im) := by
      intro ss4 hss4 
      exact T_return (am_dec tX5_addIfFine_0 9 rfl) rfl (am_tr (fun (x9 : am_F) => Q (.inl none) (hfW w hb sp rb rs hb (aR sp) ro ee hh x9 uu vv pp kk rr tt gg aa dd bd ga im)) (y := ss4) (show (c_addIf4 ss pp na nb nc) = ss4 from (by have s9 := hz1.symm; subst s9; have s9 := hss4.symm; subst s9; exact rfl)) hQ)
    refine T_if_eq 16 (am_dec tX5_addIfFine_0 2 rfl) rfl (fun h4 => ?_) (fun h4 => ?_)
    · refine T_weak (ls' := [none, none, none, none, none]) (am_sub_n (am_sub_n (am_sub_n (am_sub_n (am_sub_n am_sub_nil))))) ?_
      exact K4 _ (if_pos h4).symm 
    · refine T_aload_n (am_dec tX5_addIfFine_0 3 rfl) rfl ?_
      refine T_iload_n (am_dec tX5_addIfFine_0 4 rfl) rfl ?_
      refine T_iload_n (am_dec tX5_addIfFine_0 5 rfl) rfl ?_
      refine T_iload (am_dec tX5_addIfFine_0 6 rfl) rfl ?_
      refine T_iconst 0 (am_dec tX5_addIfFine_0 7 rfl) rfl ⟨by decide, by decide⟩ ?_
      refine T_callV (as := [aI na, aI nb, aI nc, aI 0]) rfl (am_dec tX5_addIfFine_0 8 rfl) lkX5_124 (show (hfW w hb sp rb rs hb (aR sp) ro ee hh ss uu vv pp kk rr tt gg aa dd bd ga im)[sp + 9]? = some (cO 9 [aI 6, aR (sp + 10), aI (ss 0 7)]) from ((hf_S hl hp) 9 (by decide))) rfl rfl (Nat.le_of_ble_eq_true rfl) (by omega) (mc_addS4 (d := d - 1) hl hp hr na nb nc 0  hS (by omega)) (fun _ => ?_)
      refine T_nmH (W := fun x9 => hfW w hb sp rb rs hb (aR sp) ro ee hh x9 uu vv pp kk rr tt gg aa dd bd ga im) (v := c_addS4 ss na nb nc 0) (fun ss13 hss13 => ?_)
      refine T_weak (ls' := [none, none, none, none, none]) (am_sub_n (am_sub_n (am_sub_n (am_sub_n (am_sub_n am_sub_nil))))) ?_
      exact K4 _ (by have s9 := hss13.symm; subst s9; exact (if_neg h4).symm) 
  exact key _ ⟨rfl, rfl⟩
def c_needRoom5 (ss : am_F) (pp : am_F) : am_F := (let z1 : Int := (if 4 ≤ ss 0 8 then 1 else 0); (if z1 = 0 then pp else c_wrong pp 3 (pp 0 3)))
theorem mc_needRoom5 {S : am_S} {d u : Nat} {w : AH} {hb sp rb rs : Nat} {ro : AV} (hl : 109 ≤ w.length) (hp : hb = 1 ∧ sp = 21 ∨ hb = 21 ∧ sp = 1) (hr : rb = 41 ∧ rs = 46 ∨ rb = 46 ∧ rs = 41) {ee : am_F} {hh : am_F} {ss : am_F} {uu : am_F} {vv : am_F} {pp : am_F} {kk : am_F} {rr : am_F} {tt : am_F} {gg : am_F} {aa : am_F} {dd : am_F} {bd : am_F} {ga : am_F} {im : am_F}  (hP : RdI pp) (hTp : TpI ee) (hS : SpI ss)  (hd : 2 ≤ d) : am_Out S zX5_needRoom d u [aR 52, aR (sp + 11)] (hfW w hb sp rb rs hb (aR sp) ro ee hh ss uu vv pp kk rr tt gg aa dd bd ga im) (.inl none) (hfW w hb sp rb rs hb (aR sp) ro ee hh ss uu vv (c_needRoom5 ss pp) kk rr tt gg aa dd bd ga im) := by
  have key : ∀ Q : AO → AH → Prop, Q (.inl none) (hfW w hb sp rb rs hb (aR sp) ro ee hh ss uu vv (c_needRoom5 ss pp) kk rr tt gg aa dd bd ga im) → am_M S zX5_needRoom d u [aR 52, aR (sp + 11)] (hfW w hb sp rb rs hb (aR sp) ro ee hh ss uu vv pp kk rr tt gg aa dd bd ga im) Q := by
    intro Q hQ
    refine am_body rfl (by decide +kernel) rfl (am_cats_cons rfl ( am_cats_cons rfl (am_cats_nil))) (Nat.le_of_ble_eq_true rfl) (?_ : am_T _ _ _ _ _ 0 [some (aR 52), some (aR (sp + 11))] [] (hfW w hb sp rb rs hb (aR sp) ro ee hh ss uu vv pp kk rr tt gg aa dd bd ga im))
    have hP9 := hP
    obtain ⟨⟨vr1, vr2⟩, vr3, vr4, vr5⟩ := hP9
    obtain ⟨vs1, vs2, vs3, vs4, vs5, vs6, vs7, vs8, vs9, vs10, vs11, vs12, vs13, vs14, vs15, vs16, vs17, vs18, vs19, vs20, vs21, vs22⟩ := (HbI_A hS.1).1
    refine T_aload_n (am_dec tX5_needRoom_0 0 rfl) rfl ?_
    refine T_callV (as := []) rfl (am_dec tX5_needRoom_0 1 rfl) lkX5_119 (show (hfW w hb sp rb rs hb (aR sp) ro ee hh ss uu vv pp kk rr tt gg aa dd bd ga im)[sp + 11]? = some (cO 9 [aI 4, aR (sp + 12), aI (ss 0 8)]) from ((hf_S hl hp) 11 (by decide))) rfl rfl (Nat.le_of_ble_eq_true rfl) (by omega) (m_full (d := d - 1) (show (hfW w hb sp rb rs hb (aR sp) ro ee hh ss uu vv pp kk rr tt gg aa dd bd ga im)[sp + 11]? = some (cO 9 [aI 4, aR (sp + 12), aI (ss 0 8)]) from ((hf_S hl hp) 11 (by decide))) (show (hfW w hb sp rb rs hb (aR sp) ro ee hh ss uu vv pp kk rr tt gg aa dd bd ga im)[sp + 12]? = some (cP 0 48 (ss 6)) from ((hf_S hl hp) 12 (by decide))) (by omega)) (fun _ => ?_)
    refine T_nm (fun z1 hz1 => ?_)
    have hb1 : z1 = 0 ∧ ss 0 8 < 4 ∨ z1 = 1 ∧ 4 ≤ ss 0 8 := by rw [hz1]; split <;> omega
    have K4 : ∀ (pp4 : am_F), pp4 = (if z1 = 0 then pp else c_wrong pp 3 (pp 0 3)) →  am_T S zX5_needRoom d u Q 16 [none, none] [] (hfW w hb sp rb rs hb (aR sp) ro ee hh ss uu vv pp4 kk rr tt gg aa dd bd ga im) := by
      intro pp4 hpp4 
      exact T_return (am_dec tX5_needRoom_0 8 rfl) rfl (am_tr (fun (x9 : am_F) => Q (.inl none) (hfW w hb sp rb rs hb (aR sp) ro ee hh ss uu vv x9 kk rr tt gg aa dd bd ga im)) (y := pp4) (show (c_needRoom5 ss pp) = pp4 from (by have s9 := hz1.symm; subst s9; have s9 := hpp4.symm; subst s9; exact rfl)) hQ)
    refine T_if_eq 16 (am_dec tX5_needRoom_0 2 rfl) rfl (fun h4 => ?_) (fun h4 => ?_)
    · refine T_weak (ls' := [none, none]) (am_sub_n (am_sub_n am_sub_nil)) ?_
      exact K4 _ (if_pos h4).symm 
    · refine T_aload_n (am_dec tX5_needRoom_0 3 rfl) rfl ?_
      refine T_iconst 3 (am_dec tX5_needRoom_0 4 rfl) rfl ⟨by decide, by decide⟩ ?_
      refine T_aload_n (am_dec tX5_needRoom_0 5 rfl) rfl ?_
      refine T_getfield 5 3 (am_dec tX5_needRoom_0 6 rfl) flX5_39_5 (show (hfW w hb sp rb rs hb (aR sp) ro ee hh ss uu vv pp kk rr tt gg aa dd bd ga im)[52]? = some (cO 5 [aR 51, aI (pp 0 1), aI (pp 0 2), aI (pp 0 3), aI (pp 0 4), aI (pp 0 5), aR sp, aI (pp 0 7), aI (pp 0 8), aI (pp 0 9), aI (pp 0 10)]) from (hfW_c hl 52 (by decide))) rfl ?_
      refine T_callU (as := [aI 3, aI (pp 0 3)]) rfl (am_dec tX5_needRoom_0 7 rfl) lkX5_43_X5 (show (hfW w hb sp rb rs hb (aR sp) ro ee hh ss uu vv pp kk rr tt gg aa dd bd ga im)[52]? = some (cO 5 [aR 51, aI (pp 0 1), aI (pp 0 2), aI (pp 0 3), aI (pp 0 4), aI (pp 0 5), aR sp, aI (pp 0 7), aI (pp 0 8), aI (pp 0 9), aI (pp 0 10)]) from (hfW_c hl 52 (by decide))) rfl rfl (Nat.le_of_ble_eq_true rfl) (by omega) (mc_wrong (d := d - 1) hl hp hr 3 (pp 0 3)   (by omega)) (fun _ => ?_)
      refine T_nmH (W := fun x9 => hfW w hb sp rb rs hb (aR sp) ro ee hh ss uu vv x9 kk rr tt gg aa dd bd ga im) (v := c_wrong pp 3 (pp 0 3)) (fun pp13 hpp13 => ?_)
      have hIpp13 : RdI pp13 := by rw [hpp13]; exact c_wrong_I hP _ _
      refine T_weak (ls' := [none, none]) (am_sub_n (am_sub_n am_sub_nil)) ?_
      exact K4 _ (by have s9 := hpp13.symm; subst s9; exact (if_neg h4).symm) 
  exact key _ ⟨rfl, rfl⟩
def c_addIf5 (ss : am_F) (pp : am_F) (na : Int) (nb : Int) (nc : Int) : am_F := (let z1 : Int := (c_fine pp); (if z1 = 0 then ss else c_addS5 ss na nb nc 0))
theorem mc_addIf5 {S : am_S} {d u : Nat} {w : AH} {hb sp rb rs : Nat} {ro : AV} (hl : 109 ≤ w.length) (hp : hb = 1 ∧ sp = 21 ∨ hb = 21 ∧ sp = 1) (hr : rb = 41 ∧ rs = 46 ∨ rb = 46 ∧ rs = 41) {ee : am_F} {hh : am_F} {ss : am_F} {uu : am_F} {vv : am_F} {pp : am_F} {kk : am_F} {rr : am_F} {tt : am_F} {gg : am_F} {aa : am_F} {dd : am_F} {bd : am_F} {ga : am_F} {im : am_F} (na : Int) (nb : Int) (nc : Int) (hS : SpI ss)  (hd : 2 ≤ d) : am_Out S zX5_addIfFine d u [aR 52, aR (sp + 11), aI na, aI nb, aI nc] (hfW w hb sp rb rs hb (aR sp) ro ee hh ss uu vv pp kk rr tt gg aa dd bd ga im) (.inl none) (hfW w hb sp rb rs hb (aR sp) ro ee hh (c_addIf5 ss pp na nb nc) uu vv pp kk rr tt gg aa dd bd ga im) := by
  have key : ∀ Q : AO → AH → Prop, Q (.inl none) (hfW w hb sp rb rs hb (aR sp) ro ee hh (c_addIf5 ss pp na nb nc) uu vv pp kk rr tt gg aa dd bd ga im) → am_M S zX5_addIfFine d u [aR 52, aR (sp + 11), aI na, aI nb, aI nc] (hfW w hb sp rb rs hb (aR sp) ro ee hh ss uu vv pp kk rr tt gg aa dd bd ga im) Q := by
    intro Q hQ
    refine am_body rfl (by decide +kernel) rfl (am_cats_cons rfl ( am_cats_cons rfl ( am_cats_cons rfl ( am_cats_cons rfl ( am_cats_cons rfl (am_cats_nil)))))) (Nat.le_of_ble_eq_true rfl) (?_ : am_T _ _ _ _ _ 0 [some (aR 52), some (aR (sp + 11)), some (aI na), some (aI nb), some (aI nc)] [] (hfW w hb sp rb rs hb (aR sp) ro ee hh ss uu vv pp kk rr tt gg aa dd bd ga im))
    obtain ⟨vs1, vs2, vs3, vs4, vs5, vs6, vs7, vs8, vs9, vs10, vs11, vs12, vs13, vs14, vs15, vs16, vs17, vs18, vs19, vs20, vs21, vs22⟩ := (HbI_A hS.1).1
    refine T_aload_n (am_dec tX5_addIfFine_0 0 rfl) rfl ?_
    refine T_callU (as := []) rfl (am_dec tX5_addIfFine_0 1 rfl) lkX5_21_X5 (show (hfW w hb sp rb rs hb (aR sp) ro ee hh ss uu vv pp kk rr tt gg aa dd bd ga im)[52]? = some (cO 5 [aR 51, aI (pp 0 1), aI (pp 0 2), aI (pp 0 3), aI (pp 0 4), aI (pp 0 5), aR sp, aI (pp 0 7), aI (pp 0 8), aI (pp 0 9), aI (pp 0 10)]) from (hfW_c hl 52 (by decide))) rfl rfl (Nat.le_of_ble_eq_true rfl) (by omega) (mc_fine (d := d - 1) hl hp hr    (by omega)) (fun _ => ?_)
    refine T_nm (fun z1 hz1 => ?_)
    have hb1 := c_fine_b pp
    rw [← hz1] at hb1
    have K4 : ∀ (ss4 : am_F), ss4 = (if z1 = 0 then ss else c_addS5 ss na nb nc 0) →  am_T S zX5_addIfFine d u Q 16 [none, none, none, none, none] [] (hfW w hb sp rb rs hb (aR sp) ro ee hh ss4 uu vv pp kk rr tt gg aa dd bd ga im) := by
      intro ss4 hss4 
      exact T_return (am_dec tX5_addIfFine_0 9 rfl) rfl (am_tr (fun (x9 : am_F) => Q (.inl none) (hfW w hb sp rb rs hb (aR sp) ro ee hh x9 uu vv pp kk rr tt gg aa dd bd ga im)) (y := ss4) (show (c_addIf5 ss pp na nb nc) = ss4 from (by have s9 := hz1.symm; subst s9; have s9 := hss4.symm; subst s9; exact rfl)) hQ)
    refine T_if_eq 16 (am_dec tX5_addIfFine_0 2 rfl) rfl (fun h4 => ?_) (fun h4 => ?_)
    · refine T_weak (ls' := [none, none, none, none, none]) (am_sub_n (am_sub_n (am_sub_n (am_sub_n (am_sub_n am_sub_nil))))) ?_
      exact K4 _ (if_pos h4).symm 
    · refine T_aload_n (am_dec tX5_addIfFine_0 3 rfl) rfl ?_
      refine T_iload_n (am_dec tX5_addIfFine_0 4 rfl) rfl ?_
      refine T_iload_n (am_dec tX5_addIfFine_0 5 rfl) rfl ?_
      refine T_iload (am_dec tX5_addIfFine_0 6 rfl) rfl ?_
      refine T_iconst 0 (am_dec tX5_addIfFine_0 7 rfl) rfl ⟨by decide, by decide⟩ ?_
      refine T_callV (as := [aI na, aI nb, aI nc, aI 0]) rfl (am_dec tX5_addIfFine_0 8 rfl) lkX5_124 (show (hfW w hb sp rb rs hb (aR sp) ro ee hh ss uu vv pp kk rr tt gg aa dd bd ga im)[sp + 11]? = some (cO 9 [aI 4, aR (sp + 12), aI (ss 0 8)]) from ((hf_S hl hp) 11 (by decide))) rfl rfl (Nat.le_of_ble_eq_true rfl) (by omega) (mc_addS5 (d := d - 1) hl hp hr na nb nc 0  hS (by omega)) (fun _ => ?_)
      refine T_nmH (W := fun x9 => hfW w hb sp rb rs hb (aR sp) ro ee hh x9 uu vv pp kk rr tt gg aa dd bd ga im) (v := c_addS5 ss na nb nc 0) (fun ss13 hss13 => ?_)
      refine T_weak (ls' := [none, none, none, none, none]) (am_sub_n (am_sub_n (am_sub_n (am_sub_n (am_sub_n am_sub_nil))))) ?_
      exact K4 _ (by have s9 := hss13.symm; subst s9; exact (if_neg h4).symm) 
  exact key _ ⟨rfl, rfl⟩
def c_needRoom6 (ss : am_F) (pp : am_F) : am_F := (let z1 : Int := (if 4 ≤ ss 0 9 then 1 else 0); (if z1 = 0 then pp else c_wrong pp 3 (pp 0 3)))
theorem mc_needRoom6 {S : am_S} {d u : Nat} {w : AH} {hb sp rb rs : Nat} {ro : AV} (hl : 109 ≤ w.length) (hp : hb = 1 ∧ sp = 21 ∨ hb = 21 ∧ sp = 1) (hr : rb = 41 ∧ rs = 46 ∨ rb = 46 ∧ rs = 41) {ee : am_F} {hh : am_F} {ss : am_F} {uu : am_F} {vv : am_F} {pp : am_F} {kk : am_F} {rr : am_F} {tt : am_F} {gg : am_F} {aa : am_F} {dd : am_F} {bd : am_F} {ga : am_F} {im : am_F}  (hP : RdI pp) (hTp : TpI ee) (hS : SpI ss)  (hd : 2 ≤ d) : am_Out S zX5_needRoom d u [aR 52, aR (sp + 13)] (hfW w hb sp rb rs hb (aR sp) ro ee hh ss uu vv pp kk rr tt gg aa dd bd ga im) (.inl none) (hfW w hb sp rb rs hb (aR sp) ro ee hh ss uu vv (c_needRoom6 ss pp) kk rr tt gg aa dd bd ga im) := by
  have key : ∀ Q : AO → AH → Prop, Q (.inl none) (hfW w hb sp rb rs hb (aR sp) ro ee hh ss uu vv (c_needRoom6 ss pp) kk rr tt gg aa dd bd ga im) → am_M S zX5_needRoom d u [aR 52, aR (sp + 13)] (hfW w hb sp rb rs hb (aR sp) ro ee hh ss uu vv pp kk rr tt gg aa dd bd ga im) Q := by
    intro Q hQ
    refine am_body rfl (by decide +kernel) rfl (am_cats_cons rfl ( am_cats_cons rfl (am_cats_nil))) (Nat.le_of_ble_eq_true rfl) (?_ : am_T _ _ _ _ _ 0 [some (aR 52), some (aR (sp + 13))] [] (hfW w hb sp rb rs hb (aR sp) ro ee hh ss uu vv pp kk rr tt gg aa dd bd ga im))
    have hP9 := hP
    obtain ⟨⟨vr1, vr2⟩, vr3, vr4, vr5⟩ := hP9
    obtain ⟨vs1, vs2, vs3, vs4, vs5, vs6, vs7, vs8, vs9, vs10, vs11, vs12, vs13, vs14, vs15, vs16, vs17, vs18, vs19, vs20, vs21, vs22⟩ := (HbI_A hS.1).1
    refine T_aload_n (am_dec tX5_needRoom_0 0 rfl) rfl ?_
    refine T_callV (as := []) rfl (am_dec tX5_needRoom_0 1 rfl) lkX5_119 (show (hfW w hb sp rb rs hb (aR sp) ro ee hh ss uu vv pp kk rr tt gg aa dd bd ga im)[sp + 13]? = some (cO 9 [aI 4, aR (sp + 14), aI (ss 0 9)]) from ((hf_S hl hp) 13 (by decide))) rfl rfl (Nat.le_of_ble_eq_true rfl) (by omega) (m_full (d := d - 1) (show (hfW w hb sp rb rs hb (aR sp) ro ee hh ss uu vv pp kk rr tt gg aa dd bd ga im)[sp + 13]? = some (cO 9 [aI 4, aR (sp + 14), aI (ss 0 9)]) from ((hf_S hl hp) 13 (by decide))) (show (hfW w hb sp rb rs hb (aR sp) ro ee hh ss uu vv pp kk rr tt gg aa dd bd ga im)[sp + 14]? = some (cP 0 48 (ss 7)) from ((hf_S hl hp) 14 (by decide))) (by omega)) (fun _ => ?_)
    refine T_nm (fun z1 hz1 => ?_)
    have hb1 : z1 = 0 ∧ ss 0 9 < 4 ∨ z1 = 1 ∧ 4 ≤ ss 0 9 := by rw [hz1]; split <;> omega
    have K4 : ∀ (pp4 : am_F), pp4 = (if z1 = 0 then pp else c_wrong pp 3 (pp 0 3)) →  am_T S zX5_needRoom d u Q 16 [none, none] [] (hfW w hb sp rb rs hb (aR sp) ro ee hh ss uu vv pp4 kk rr tt gg aa dd bd ga im) := by
      intro pp4 hpp4 
      exact T_return (am_dec tX5_needRoom_0 8 rfl) rfl (am_tr (fun (x9 : am_F) => Q (.inl none) (hfW w hb sp rb rs hb (aR sp) ro ee hh ss uu vv x9 kk rr tt gg aa dd bd ga im)) (y := pp4) (show (c_needRoom6 ss pp) = pp4 from (by have s9 := hz1.symm; subst s9; have s9 := hpp4.symm; subst s9; exact rfl)) hQ)
    refine T_if_eq 16 (am_dec tX5_needRoom_0 2 rfl) rfl (fun h4 => ?_) (fun h4 => ?_)
    · refine T_weak (ls' := [none, none]) (am_sub_n (am_sub_n am_sub_nil)) ?_
      exact K4 _ (if_pos h4).symm 
    · refine T_aload_n (am_dec tX5_needRoom_0 3 rfl) rfl ?_
      refine T_iconst 3 (am_dec tX5_needRoom_0 4 rfl) rfl ⟨by decide, by decide⟩ ?_
      refine T_aload_n (am_dec tX5_needRoom_0 5 rfl) rfl ?_
      refine T_getfield 5 3 (am_dec tX5_needRoom_0 6 rfl) flX5_39_5 (show (hfW w hb sp rb rs hb (aR sp) ro ee hh ss uu vv pp kk rr tt gg aa dd bd ga im)[52]? = some (cO 5 [aR 51, aI (pp 0 1), aI (pp 0 2), aI (pp 0 3), aI (pp 0 4), aI (pp 0 5), aR sp, aI (pp 0 7), aI (pp 0 8), aI (pp 0 9), aI (pp 0 10)]) from (hfW_c hl 52 (by decide))) rfl ?_
      refine T_callU (as := [aI 3, aI (pp 0 3)]) rfl (am_dec tX5_needRoom_0 7 rfl) lkX5_43_X5 (show (hfW w hb sp rb rs hb (aR sp) ro ee hh ss uu vv pp kk rr tt gg aa dd bd ga im)[52]? = some (cO 5 [aR 51, aI (pp 0 1), aI (pp 0 2), aI (pp 0 3), aI (pp 0 4), aI (pp 0 5), aR sp, aI (pp 0 7), aI (pp 0 8), aI (pp 0 9), aI (pp 0 10)]) from (hfW_c hl 52 (by decide))) rfl rfl (Nat.le_of_ble_eq_true rfl) (by omega) (mc_wrong (d := d - 1) hl hp hr 3 (pp 0 3)   (by omega)) (fun _ => ?_)
      refine T_nmH (W := fun x9 => hfW w hb sp rb rs hb (aR sp) ro ee hh ss uu vv x9 kk rr tt gg aa dd bd ga im) (v := c_wrong pp 3 (pp 0 3)) (fun pp13 hpp13 => ?_)
      have hIpp13 : RdI pp13 := by rw [hpp13]; exact c_wrong_I hP _ _
      refine T_weak (ls' := [none, none]) (am_sub_n (am_sub_n am_sub_nil)) ?_
      exact K4 _ (by have s9 := hpp13.symm; subst s9; exact (if_neg h4).symm) 
  exact key _ ⟨rfl, rfl⟩
def c_addIf6 (ss : am_F) (pp : am_F) (na : Int) (nb : Int) (nc : Int) : am_F := (let z1 : Int := (c_fine pp); (if z1 = 0 then ss else c_addS6 ss na nb nc 0))
theorem mc_addIf6 {S : am_S} {d u : Nat} {w : AH} {hb sp rb rs : Nat} {ro : AV} (hl : 109 ≤ w.length) (hp : hb = 1 ∧ sp = 21 ∨ hb = 21 ∧ sp = 1) (hr : rb = 41 ∧ rs = 46 ∨ rb = 46 ∧ rs = 41) {ee : am_F} {hh : am_F} {ss : am_F} {uu : am_F} {vv : am_F} {pp : am_F} {kk : am_F} {rr : am_F} {tt : am_F} {gg : am_F} {aa : am_F} {dd : am_F} {bd : am_F} {ga : am_F} {im : am_F} (na : Int) (nb : Int) (nc : Int) (hS : SpI ss)  (hd : 2 ≤ d) : am_Out S zX5_addIfFine d u [aR 52, aR (sp + 13), aI na, aI nb, aI nc] (hfW w hb sp rb rs hb (aR sp) ro ee hh ss uu vv pp kk rr tt gg aa dd bd ga im) (.inl none) (hfW w hb sp rb rs hb (aR sp) ro ee hh (c_addIf6 ss pp na nb nc) uu vv pp kk rr tt gg aa dd bd ga im) := by
  have key : ∀ Q : AO → AH → Prop, Q (.inl none) (hfW w hb sp rb rs hb (aR sp) ro ee hh (c_addIf6 ss pp na nb nc) uu vv pp kk rr tt gg aa dd bd ga im) → am_M S zX5_addIfFine d u [aR 52, aR (sp + 13), aI na, aI nb, aI nc] (hfW w hb sp rb rs hb (aR sp) ro ee hh ss uu vv pp kk rr tt gg aa dd bd ga im) Q := by
    intro Q hQ
    refine am_body rfl (by decide +kernel) rfl (am_cats_cons rfl ( am_cats_cons rfl ( am_cats_cons rfl ( am_cats_cons rfl ( am_cats_cons rfl (am_cats_nil)))))) (Nat.le_of_ble_eq_true rfl) (?_ : am_T _ _ _ _ _ 0 [some (aR 52), some (aR (sp + 13)), some (aI na), some (aI nb), some (aI nc)] [] (hfW w hb sp rb rs hb (aR sp) ro ee hh ss uu vv pp kk rr tt gg aa dd bd ga im))
    obtain ⟨vs1, vs2, vs3, vs4, vs5, vs6, vs7, vs8, vs9, vs10, vs11, vs12, vs13, vs14, vs15, vs16, vs17, vs18, vs19, vs20, vs21, vs22⟩ := (HbI_A hS.1).1
    refine T_aload_n (am_dec tX5_addIfFine_0 0 rfl) rfl ?_
    refine T_callU (as := []) rfl (am_dec tX5_addIfFine_0 1 rfl) lkX5_21_X5 (show (hfW w hb sp rb rs hb (aR sp) ro ee hh ss uu vv pp kk rr tt gg aa dd bd ga im)[52]? = some (cO 5 [aR 51, aI (pp 0 1), aI (pp 0 2), aI (pp 0 3), aI (pp 0 4), aI (pp 0 5), aR sp, aI (pp 0 7), aI (pp 0 8), aI (pp 0 9), aI (pp 0 10)]) from (hfW_c hl 52 (by decide))) rfl rfl (Nat.le_of_ble_eq_true rfl) (by omega) (mc_fine (d := d - 1) hl hp hr    (by omega)) (fun _ => ?_)
    refine T_nm (fun z1 hz1 => ?_)
    have hb1 := c_fine_b pp
    rw [← hz1] at hb1
    have K4 : ∀ (ss4 : am_F), ss4 = (if z1 = 0 then ss else c_addS6 ss na nb nc 0) →  am_T S zX5_addIfFine d u Q 16 [none, none, none, none, none] [] (hfW w hb sp rb rs hb (aR sp) ro ee hh ss4 uu vv pp kk rr tt gg aa dd bd ga im) := by
      intro ss4 hss4 
      exact T_return (am_dec tX5_addIfFine_0 9 rfl) rfl (am_tr (fun (x9 : am_F) => Q (.inl none) (hfW w hb sp rb rs hb (aR sp) ro ee hh x9 uu vv pp kk rr tt gg aa dd bd ga im)) (y := ss4) (show (c_addIf6 ss pp na nb nc) = ss4 from (by have s9 := hz1.symm; subst s9; have s9 := hss4.symm; subst s9; exact rfl)) hQ)
    refine T_if_eq 16 (am_dec tX5_addIfFine_0 2 rfl) rfl (fun h4 => ?_) (fun h4 => ?_)
    · refine T_weak (ls' := [none, none, none, none, none]) (am_sub_n (am_sub_n (am_sub_n (am_sub_n (am_sub_n am_sub_nil))))) ?_
      exact K4 _ (if_pos h4).symm 
    · refine T_aload_n (am_dec tX5_addIfFine_0 3 rfl) rfl ?_
      refine T_iload_n (am_dec tX5_addIfFine_0 4 rfl) rfl ?_
      refine T_iload_n (am_dec tX5_addIfFine_0 5 rfl) rfl ?_
      refine T_iload (am_dec tX5_addIfFine_0 6 rfl) rfl ?_
      refine T_iconst 0 (am_dec tX5_addIfFine_0 7 rfl) rfl ⟨by decide, by decide⟩ ?_
      refine T_callV (as := [aI na, aI nb, aI nc, aI 0]) rfl (am_dec tX5_addIfFine_0 8 rfl) lkX5_124 (show (hfW w hb sp rb rs hb (aR sp) ro ee hh ss uu vv pp kk rr tt gg aa dd bd ga im)[sp + 13]? = some (cO 9 [aI 4, aR (sp + 14), aI (ss 0 9)]) from ((hf_S hl hp) 13 (by decide))) rfl rfl (Nat.le_of_ble_eq_true rfl) (by omega) (mc_addS6 (d := d - 1) hl hp hr na nb nc 0  hS (by omega)) (fun _ => ?_)
      refine T_nmH (W := fun x9 => hfW w hb sp rb rs hb (aR sp) ro ee hh x9 uu vv pp kk rr tt gg aa dd bd ga im) (v := c_addS6 ss na nb nc 0) (fun ss13 hss13 => ?_)
      refine T_weak (ls' := [none, none, none, none, none]) (am_sub_n (am_sub_n (am_sub_n (am_sub_n (am_sub_n am_sub_nil))))) ?_
      exact K4 _ (by have s9 := hss13.symm; subst s9; exact (if_neg h4).symm) 
  exact key _ ⟨rfl, rfl⟩
def c_needRoom7 (ss : am_F) (pp : am_F) : am_F := (let z1 : Int := (if 4 ≤ ss 0 10 then 1 else 0); (if z1 = 0 then pp else c_wrong pp 3 (pp 0 3)))
theorem mc_needRoom7 {S : am_S} {d u : Nat} {w : AH} {hb sp rb rs : Nat} {ro : AV} (hl : 109 ≤ w.length) (hp : hb = 1 ∧ sp = 21 ∨ hb = 21 ∧ sp = 1) (hr : rb = 41 ∧ rs = 46 ∨ rb = 46 ∧ rs = 41) {ee : am_F} {hh : am_F} {ss : am_F} {uu : am_F} {vv : am_F} {pp : am_F} {kk : am_F} {rr : am_F} {tt : am_F} {gg : am_F} {aa : am_F} {dd : am_F} {bd : am_F} {ga : am_F} {im : am_F}  (hP : RdI pp) (hTp : TpI ee) (hS : SpI ss)  (hd : 2 ≤ d) : am_Out S zX5_needRoom d u [aR 52, aR (sp + 15)] (hfW w hb sp rb rs hb (aR sp) ro ee hh ss uu vv pp kk rr tt gg aa dd bd ga im) (.inl none) (hfW w hb sp rb rs hb (aR sp) ro ee hh ss uu vv (c_needRoom7 ss pp) kk rr tt gg aa dd bd ga im) := by
  have key : ∀ Q : AO → AH → Prop, Q (.inl none) (hfW w hb sp rb rs hb (aR sp) ro ee hh ss uu vv (c_needRoom7 ss pp) kk rr tt gg aa dd bd ga im) → am_M S zX5_needRoom d u [aR 52, aR (sp + 15)] (hfW w hb sp rb rs hb (aR sp) ro ee hh ss uu vv pp kk rr tt gg aa dd bd ga im) Q := by
    intro Q hQ
    refine am_body rfl (by decide +kernel) rfl (am_cats_cons rfl ( am_cats_cons rfl (am_cats_nil))) (Nat.le_of_ble_eq_true rfl) (?_ : am_T _ _ _ _ _ 0 [some (aR 52), some (aR (sp + 15))] [] (hfW w hb sp rb rs hb (aR sp) ro ee hh ss uu vv pp kk rr tt gg aa dd bd ga im))
    have hP9 := hP
    obtain ⟨⟨vr1, vr2⟩, vr3, vr4, vr5⟩ := hP9
    obtain ⟨vs1, vs2, vs3, vs4, vs5, vs6, vs7, vs8, vs9, vs10, vs11, vs12, vs13, vs14, vs15, vs16, vs17, vs18, vs19, vs20, vs21, vs22⟩ := (HbI_A hS.1).1
    refine T_aload_n (am_dec tX5_needRoom_0 0 rfl) rfl ?_
    refine T_callV (as := []) rfl (am_dec tX5_needRoom_0 1 rfl) lkX5_119 (show (hfW w hb sp rb rs hb (aR sp) ro ee hh ss uu vv pp kk rr tt gg aa dd bd ga im)[sp + 15]? = some (cO 9 [aI 4, aR (sp + 16), aI (ss 0 10)]) from ((hf_S hl hp) 15 (by decide))) rfl rfl (Nat.le_of_ble_eq_true rfl) (by omega) (m_full (d := d - 1) (show (hfW w hb sp rb rs hb (aR sp) ro ee hh ss uu vv pp kk rr tt gg aa dd bd ga im)[sp + 15]? = some (cO 9 [aI 4, aR (sp + 16), aI (ss 0 10)]) from ((hf_S hl hp) 15 (by decide))) (show (hfW w hb sp rb rs hb (aR sp) ro ee hh ss uu vv pp kk rr tt gg aa dd bd ga im)[sp + 16]? = some (cP 0 48 (ss 8)) from ((hf_S hl hp) 16 (by decide))) (by omega)) (fun _ => ?_)
    refine T_nm (fun z1 hz1 => ?_)
    have hb1 : z1 = 0 ∧ ss 0 10 < 4 ∨ z1 = 1 ∧ 4 ≤ ss 0 10 := by rw [hz1]; split <;> omega
    have K4 : ∀ (pp4 : am_F), pp4 = (if z1 = 0 then pp else c_wrong pp 3 (pp 0 3)) →  am_T S zX5_needRoom d u Q 16 [none, none] [] (hfW w hb sp rb rs hb (aR sp) ro ee hh ss uu vv pp4 kk rr tt gg aa dd bd ga im) := by
      intro pp4 hpp4 
      exact T_return (am_dec tX5_needRoom_0 8 rfl) rfl (am_tr (fun (x9 : am_F) => Q (.inl none) (hfW w hb sp rb rs hb (aR sp) ro ee hh ss uu vv x9 kk rr tt gg aa dd bd ga im)) (y := pp4) (show (c_needRoom7 ss pp) = pp4 from (by have s9 := hz1.symm; subst s9; have s9 := hpp4.symm; subst s9; exact rfl)) hQ)
    refine T_if_eq 16 (am_dec tX5_needRoom_0 2 rfl) rfl (fun h4 => ?_) (fun h4 => ?_)
    · refine T_weak (ls' := [none, none]) (am_sub_n (am_sub_n am_sub_nil)) ?_
      exact K4 _ (if_pos h4).symm 
    · refine T_aload_n (am_dec tX5_needRoom_0 3 rfl) rfl ?_
      refine T_iconst 3 (am_dec tX5_needRoom_0 4 rfl) rfl ⟨by decide, by decide⟩ ?_
      refine T_aload_n (am_dec tX5_needRoom_0 5 rfl) rfl ?_
      refine T_getfield 5 3 (am_dec tX5_needRoom_0 6 rfl) flX5_39_5 (show (hfW w hb sp rb rs hb (aR sp) ro ee hh ss uu vv pp kk rr tt gg aa dd bd ga im)[52]? = some (cO 5 [aR 51, aI (pp 0 1), aI (pp 0 2), aI (pp 0 3), aI (pp 0 4), aI (pp 0 5), aR sp, aI (pp 0 7), aI (pp 0 8), aI (pp 0 9), aI (pp 0 10)]) from (hfW_c hl 52 (by decide))) rfl ?_
      refine T_callU (as := [aI 3, aI (pp 0 3)]) rfl (am_dec tX5_needRoom_0 7 rfl) lkX5_43_X5 (show (hfW w hb sp rb rs hb (aR sp) ro ee hh ss uu vv pp kk rr tt gg aa dd bd ga im)[52]? = some (cO 5 [aR 51, aI (pp 0 1), aI (pp 0 2), aI (pp 0 3), aI (pp 0 4), aI (pp 0 5), aR sp, aI (pp 0 7), aI (pp 0 8), aI (pp 0 9), aI (pp 0 10)]) from (hfW_c hl 52 (by decide))) rfl rfl (Nat.le_of_ble_eq_true rfl) (by omega) (mc_wrong (d := d - 1) hl hp hr 3 (pp 0 3)   (by omega)) (fun _ => ?_)
      refine T_nmH (W := fun x9 => hfW w hb sp rb rs hb (aR sp) ro ee hh ss uu vv x9 kk rr tt gg aa dd bd ga im) (v := c_wrong pp 3 (pp 0 3)) (fun pp13 hpp13 => ?_)
      have hIpp13 : RdI pp13 := by rw [hpp13]; exact c_wrong_I hP _ _
      refine T_weak (ls' := [none, none]) (am_sub_n (am_sub_n am_sub_nil)) ?_
      exact K4 _ (by have s9 := hpp13.symm; subst s9; exact (if_neg h4).symm) 
  exact key _ ⟨rfl, rfl⟩
def c_addIf7 (ss : am_F) (pp : am_F) (na : Int) (nb : Int) (nc : Int) : am_F := (let z1 : Int := (c_fine pp); (if z1 = 0 then ss else c_addS7 ss na nb nc 0))
theorem mc_addIf7 {S : am_S} {d u : Nat} {w : AH} {hb sp rb rs : Nat} {ro : AV} (hl : 109 ≤ w.length) (hp : hb = 1 ∧ sp = 21 ∨ hb = 21 ∧ sp = 1) (hr : rb = 41 ∧ rs = 46 ∨ rb = 46 ∧ rs = 41) {ee : am_F} {hh : am_F} {ss : am_F} {uu : am_F} {vv : am_F} {pp : am_F} {kk : am_F} {rr : am_F} {tt : am_F} {gg : am_F} {aa : am_F} {dd : am_F} {bd : am_F} {ga : am_F} {im : am_F} (na : Int) (nb : Int) (nc : Int) (hS : SpI ss)  (hd : 2 ≤ d) : am_Out S zX5_addIfFine d u [aR 52, aR (sp + 15), aI na, aI nb, aI nc] (hfW w hb sp rb rs hb (aR sp) ro ee hh ss uu vv pp kk rr tt gg aa dd bd ga im) (.inl none) (hfW w hb sp rb rs hb (aR sp) ro ee hh (c_addIf7 ss pp na nb nc) uu vv pp kk rr tt gg aa dd bd ga im) := by
  have key : ∀ Q : AO → AH → Prop, Q (.inl none) (hfW w hb sp rb rs hb (aR sp) ro ee hh (c_addIf7 ss pp na nb nc) uu vv pp kk rr tt gg aa dd bd ga im) → am_M S zX5_addIfFine d u [aR 52, aR (sp + 15), aI na, aI nb, aI nc] (hfW w hb sp rb rs hb (aR sp) ro ee hh ss uu vv pp kk rr tt gg aa dd bd ga im) Q := by
    intro Q hQ
    refine am_body rfl (by decide +kernel) rfl (am_cats_cons rfl ( am_cats_cons rfl ( am_cats_cons rfl ( am_cats_cons rfl ( am_cats_cons rfl (am_cats_nil)))))) (Nat.le_of_ble_eq_true rfl) (?_ : am_T _ _ _ _ _ 0 [some (aR 52), some (aR (sp + 15)), some (aI na), some (aI nb), some (aI nc)] [] (hfW w hb sp rb rs hb (aR sp) ro ee hh ss uu vv pp kk rr tt gg aa dd bd ga im))
    obtain ⟨vs1, vs2, vs3, vs4, vs5, vs6, vs7, vs8, vs9, vs10, vs11, vs12, vs13, vs14, vs15, vs16, vs17, vs18, vs19, vs20, vs21, vs22⟩ := (HbI_A hS.1).1
    refine T_aload_n (am_dec tX5_addIfFine_0 0 rfl) rfl ?_
    refine T_callU (as := []) rfl (am_dec tX5_addIfFine_0 1 rfl) lkX5_21_X5 (show (hfW w hb sp rb rs hb (aR sp) ro ee hh ss uu vv pp kk rr tt gg aa dd bd ga im)[52]? = some (cO 5 [aR 51, aI (pp 0 1), aI (pp 0 2), aI (pp 0 3), aI (pp 0 4), aI (pp 0 5), aR sp, aI (pp 0 7), aI (pp 0 8), aI (pp 0 9), aI (pp 0 10)]) from (hfW_c hl 52 (by decide))) rfl rfl (Nat.le_of_ble_eq_true rfl) (by omega) (mc_fine (d := d - 1) hl hp hr    (by omega)) (fun _ => ?_)
    refine T_nm (fun z1 hz1 => ?_)
    have hb1 := c_fine_b pp
    rw [← hz1] at hb1
    have K4 : ∀ (ss4 : am_F), ss4 = (if z1 = 0 then ss else c_addS7 ss na nb nc 0) →  am_T S zX5_addIfFine d u Q 16 [none, none, none, none, none] [] (hfW w hb sp rb rs hb (aR sp) ro ee hh ss4 uu vv pp kk rr tt gg aa dd bd ga im) := by
      intro ss4 hss4 
      exact T_return (am_dec tX5_addIfFine_0 9 rfl) rfl (am_tr (fun (x9 : am_F) => Q (.inl none) (hfW w hb sp rb rs hb (aR sp) ro ee hh x9 uu vv pp kk rr tt gg aa dd bd ga im)) (y := ss4) (show (c_addIf7 ss pp na nb nc) = ss4 from (by have s9 := hz1.symm; subst s9; have s9 := hss4.symm; subst s9; exact rfl)) hQ)
    refine T_if_eq 16 (am_dec tX5_addIfFine_0 2 rfl) rfl (fun h4 => ?_) (fun h4 => ?_)
    · refine T_weak (ls' := [none, none, none, none, none]) (am_sub_n (am_sub_n (am_sub_n (am_sub_n (am_sub_n am_sub_nil))))) ?_
      exact K4 _ (if_pos h4).symm 
    · refine T_aload_n (am_dec tX5_addIfFine_0 3 rfl) rfl ?_
      refine T_iload_n (am_dec tX5_addIfFine_0 4 rfl) rfl ?_
      refine T_iload_n (am_dec tX5_addIfFine_0 5 rfl) rfl ?_
      refine T_iload (am_dec tX5_addIfFine_0 6 rfl) rfl ?_
      refine T_iconst 0 (am_dec tX5_addIfFine_0 7 rfl) rfl ⟨by decide, by decide⟩ ?_
      refine T_callV (as := [aI na, aI nb, aI nc, aI 0]) rfl (am_dec tX5_addIfFine_0 8 rfl) lkX5_124 (show (hfW w hb sp rb rs hb (aR sp) ro ee hh ss uu vv pp kk rr tt gg aa dd bd ga im)[sp + 15]? = some (cO 9 [aI 4, aR (sp + 16), aI (ss 0 10)]) from ((hf_S hl hp) 15 (by decide))) rfl rfl (Nat.le_of_ble_eq_true rfl) (by omega) (mc_addS7 (d := d - 1) hl hp hr na nb nc 0  hS (by omega)) (fun _ => ?_)
      refine T_nmH (W := fun x9 => hfW w hb sp rb rs hb (aR sp) ro ee hh x9 uu vv pp kk rr tt gg aa dd bd ga im) (v := c_addS7 ss na nb nc 0) (fun ss13 hss13 => ?_)
      refine T_weak (ls' := [none, none, none, none, none]) (am_sub_n (am_sub_n (am_sub_n (am_sub_n (am_sub_n am_sub_nil))))) ?_
      exact K4 _ (by have s9 := hss13.symm; subst s9; exact (if_neg h4).symm) 
  exact key _ ⟨rfl, rfl⟩
theorem PaB_p {h : am_F} (q : PaB h) (k m : Int) : -1 ≤ f_pathAt h k m ∧ f_pathAt h k m ≤ 88 := by
  unfold f_pathAt
  have z := q (k * 13 + m).toNat
  split <;> omega
theorem CoB_of {h : am_F} (q : PaB h) : CoB h := fun k s => by
  unfold f_cellOf
  have z := PaB_p q k (s - f_comes h k)
  split <;> omega
theorem PaP_of {h : am_F} (w : HbW h) (q : PaB h) (hm : h 0 8 ≤ 4) : ∀ k i : Int, 0 ≤ k → k < h 0 8 → 0 ≤ i → i ≤ f_moves h k → 0 ≤ f_pathAt h k i ∧ f_pathAt h k i ≤ 88 := fun k i h1 h2 h3 h4 => by
  have z := (w k).2
  unfold f_pathAt
  rw [if_pos (by omega)]
  exact q _
theorem c_addS0_I {ss : am_F} (q : SpI ss) (na nb nc nd : Int) (hnb : 0 ≤ nb ∧ nb ≤ 8) (hnc : 0 ≤ nc ∧ nc ≤ 8) : SpI (c_addS0 ss na nb nc nd) := by
  unfold c_addS0
  dsimp only
  obtain ⟨⟨⟨hV, hLt, hWd, hSt, hLp, hTh⟩, hW, hCo, hWt, hFs, hSh, hP, hFD⟩, hPa⟩ := q
  by_cases h12 : 12 ≤ ss 0 3
  · rw [if_pos h12]
    exact ⟨⟨⟨hV, hLt, hWd, hSt, hLp, hTh⟩, hW, hCo, hWt, hFs, hSh, hP, hFD⟩, hPa⟩
  · rw [if_neg h12, if_pos rfl]
    obtain ⟨v1, v2, v3, v4, v5, v6, v7, v8, v9, v10, v11, v12, v13, v14, v15, v16, v17, v18, v19, v20, v21, v22⟩ := hV
    have ea : ∀ (r c : Int), 0 ≤ c ∧ c < 4 → f_at ((am_put (am_put (am_put (am_put (am_put ss 1 (((ss 0 3) * 4).toNat) na) 1 ((((ss 0 3) * 4) + 1).toNat) nb) 1 ((((ss 0 3) * 4) + 2).toNat) nc) 1 ((((ss 0 3) * 4) + 3).toNat) nd) 0 3 ((am_put (am_put (am_put (am_put ss 1 (((ss 0 3) * 4).toNat) na) 1 ((((ss 0 3) * 4) + 1).toNat) nb) 1 ((((ss 0 3) * 4) + 2).toNat) nc) 1 ((((ss 0 3) * 4) + 3).toNat) nd) 0 3 + 1)) 0 3) ((am_put (am_put (am_put (am_put (am_put ss 1 (((ss 0 3) * 4).toNat) na) 1 ((((ss 0 3) * 4) + 1).toNat) nb) 1 ((((ss 0 3) * 4) + 2).toNat) nc) 1 ((((ss 0 3) * 4) + 3).toNat) nd) 0 3 ((am_put (am_put (am_put (am_put ss 1 (((ss 0 3) * 4).toNat) na) 1 ((((ss 0 3) * 4) + 1).toNat) nb) 1 ((((ss 0 3) * 4) + 2).toNat) nc) 1 ((((ss 0 3) * 4) + 3).toNat) nd) 0 3 + 1)) 1) r c = if r = ss 0 3 then (if c = 0 then na else if c = 1 then nb else if c = 2 then nc else nd) else f_at (ss 0 3) (ss 1) r c := fun r c hc => f_at_addS (M := ss 0 3) (f := ss 1) (by omega) na nb nc nd r c hc
    exact ⟨⟨⟨⟨v1, v2, v3, v4, v5, v6, (by show 0 ≤ ss 0 3 + 1; omega), (by show ss 0 3 + 1 ≤ 12; omega), v9, v10, v11, v12, v13, v14, v15, v16, v17, v18, v19, v20, v21, v22⟩, hLt, (fun r => by
      have e1 := ea r 1 (by decide)
      have e2 := ea r 2 (by decide)
      have z := hWd r
      simp only [if_true, if_false, Int.reduceEq, Nat.reduceEqDiff] at e1 e2
      by_cases hr : r = ss 0 3
      · rw [if_pos hr] at e1 e2
        refine ⟨⟨?_, ?_⟩, ?_, ?_⟩ <;> first | (rw [e1]; omega) | (rw [e2]; omega)
      · rw [if_neg hr] at e1 e2
        refine ⟨⟨?_, ?_⟩, ?_, ?_⟩ <;> first | (rw [e1]; omega) | (rw [e2]; omega)), hSt, hLp, hTh⟩, hW, hCo, hWt, hFs, hSh, hP, hFD⟩, hPa⟩
theorem c_addS1_I {ss : am_F} (q : SpI ss) (na nb nc nd : Int) (hnb : 0 ≤ nb ∧ nb ≤ 99) : SpI (c_addS1 ss na nb nc nd) := by
  unfold c_addS1
  dsimp only
  obtain ⟨⟨⟨hV, hLt, hWd, hSt, hLp, hTh⟩, hW, hCo, hWt, hFs, hSh, hP, hFD⟩, hPa⟩ := q
  by_cases h12 : 12 ≤ ss 0 4
  · rw [if_pos h12]
    exact ⟨⟨⟨hV, hLt, hWd, hSt, hLp, hTh⟩, hW, hCo, hWt, hFs, hSh, hP, hFD⟩, hPa⟩
  · rw [if_neg h12, if_pos rfl]
    obtain ⟨v1, v2, v3, v4, v5, v6, v7, v8, v9, v10, v11, v12, v13, v14, v15, v16, v17, v18, v19, v20, v21, v22⟩ := hV
    have ea : ∀ (r c : Int), 0 ≤ c ∧ c < 4 → f_at ((am_put (am_put (am_put (am_put (am_put ss 2 (((ss 0 4) * 4).toNat) na) 2 ((((ss 0 4) * 4) + 1).toNat) nb) 2 ((((ss 0 4) * 4) + 2).toNat) nc) 2 ((((ss 0 4) * 4) + 3).toNat) nd) 0 4 ((am_put (am_put (am_put (am_put ss 2 (((ss 0 4) * 4).toNat) na) 2 ((((ss 0 4) * 4) + 1).toNat) nb) 2 ((((ss 0 4) * 4) + 2).toNat) nc) 2 ((((ss 0 4) * 4) + 3).toNat) nd) 0 4 + 1)) 0 4) ((am_put (am_put (am_put (am_put (am_put ss 2 (((ss 0 4) * 4).toNat) na) 2 ((((ss 0 4) * 4) + 1).toNat) nb) 2 ((((ss 0 4) * 4) + 2).toNat) nc) 2 ((((ss 0 4) * 4) + 3).toNat) nd) 0 4 ((am_put (am_put (am_put (am_put ss 2 (((ss 0 4) * 4).toNat) na) 2 ((((ss 0 4) * 4) + 1).toNat) nb) 2 ((((ss 0 4) * 4) + 2).toNat) nc) 2 ((((ss 0 4) * 4) + 3).toNat) nd) 0 4 + 1)) 2) r c = if r = ss 0 4 then (if c = 0 then na else if c = 1 then nb else if c = 2 then nc else nd) else f_at (ss 0 4) (ss 2) r c := fun r c hc => f_at_addS (M := ss 0 4) (f := ss 2) (by omega) na nb nc nd r c hc
    exact ⟨⟨⟨⟨v1, v2, v3, v4, v5, v6, v7, v8, (by show 0 ≤ ss 0 4 + 1; omega), (by show ss 0 4 + 1 ≤ 12; omega), v11, v12, v13, v14, v15, v16, v17, v18, v19, v20, v21, v22⟩, hLt, hWd, hSt, hLp, (fun r => by
      have e1 := ea r 1 (by decide)
      have z := hTh r
      simp only [if_true, if_false, Int.reduceEq, Nat.reduceEqDiff] at e1
      by_cases hr : r = ss 0 4
      · rw [if_pos hr] at e1
        refine ⟨?_, ?_⟩ <;> (rw [e1]; omega)
      · rw [if_neg hr] at e1
        refine ⟨?_, ?_⟩ <;> (rw [e1]; omega))⟩, hW, hCo, hWt, hFs, hSh, hP, hFD⟩, hPa⟩
theorem c_addS2_I {ss : am_F} (q : SpI ss) (na nb nc nd : Int) (hna : 0 ≤ na ∧ na ≤ 88) (hnb : 0 ≤ nb ∧ nb ≤ 99) : SpI (c_addS2 ss na nb nc nd) := by
  unfold c_addS2
  dsimp only
  obtain ⟨⟨⟨hV, hLt, hWd, hSt, hLp, hTh⟩, hW, hCo, hWt, hFs, hSh, hP, hFD⟩, hPa⟩ := q
  by_cases h12 : 6 ≤ ss 0 5
  · rw [if_pos h12]
    exact ⟨⟨⟨hV, hLt, hWd, hSt, hLp, hTh⟩, hW, hCo, hWt, hFs, hSh, hP, hFD⟩, hPa⟩
  · rw [if_neg h12, if_pos rfl]
    obtain ⟨v1, v2, v3, v4, v5, v6, v7, v8, v9, v10, v11, v12, v13, v14, v15, v16, v17, v18, v19, v20, v21, v22⟩ := hV
    have ea : ∀ (r c : Int), 0 ≤ c ∧ c < 4 → f_at ((am_put (am_put (am_put (am_put (am_put ss 3 (((ss 0 5) * 4).toNat) na) 3 ((((ss 0 5) * 4) + 1).toNat) nb) 3 ((((ss 0 5) * 4) + 2).toNat) nc) 3 ((((ss 0 5) * 4) + 3).toNat) nd) 0 5 ((am_put (am_put (am_put (am_put ss 3 (((ss 0 5) * 4).toNat) na) 3 ((((ss 0 5) * 4) + 1).toNat) nb) 3 ((((ss 0 5) * 4) + 2).toNat) nc) 3 ((((ss 0 5) * 4) + 3).toNat) nd) 0 5 + 1)) 0 5) ((am_put (am_put (am_put (am_put (am_put ss 3 (((ss 0 5) * 4).toNat) na) 3 ((((ss 0 5) * 4) + 1).toNat) nb) 3 ((((ss 0 5) * 4) + 2).toNat) nc) 3 ((((ss 0 5) * 4) + 3).toNat) nd) 0 5 ((am_put (am_put (am_put (am_put ss 3 (((ss 0 5) * 4).toNat) na) 3 ((((ss 0 5) * 4) + 1).toNat) nb) 3 ((((ss 0 5) * 4) + 2).toNat) nc) 3 ((((ss 0 5) * 4) + 3).toNat) nd) 0 5 + 1)) 3) r c = if r = ss 0 5 then (if c = 0 then na else if c = 1 then nb else if c = 2 then nc else nd) else f_at (ss 0 5) (ss 3) r c := fun r c hc => f_at_addS (M := ss 0 5) (f := ss 3) (by omega) na nb nc nd r c hc
    exact ⟨⟨⟨⟨v1, v2, v3, v4, v5, v6, v7, v8, v9, v10, (by show 0 ≤ ss 0 5 + 1; omega), (by show ss 0 5 + 1 ≤ 6; omega), v13, v14, v15, v16, v17, v18, v19, v20, v21, v22⟩, hLt, hWd, hSt, (fun r => by
      have e1 := ea r 0 (by decide)
      have e2 := ea r 1 (by decide)
      have z := hLp r
      simp only [if_true, if_false, Int.reduceEq, Nat.reduceEqDiff] at e1 e2
      by_cases hr : r = ss 0 5
      · rw [if_pos hr] at e1 e2
        refine ⟨⟨?_, ?_⟩, ?_, ?_⟩ <;> first | (rw [e1]; omega) | (rw [e2]; omega)
      · rw [if_neg hr] at e1 e2
        refine ⟨⟨?_, ?_⟩, ?_, ?_⟩ <;> first | (rw [e1]; omega) | (rw [e2]; omega)), hTh⟩, hW, hCo, hWt, hFs, hSh, hP, hFD⟩, hPa⟩
theorem c_addS3_I {ss : am_F} (q : SpI ss) (na nb nc nd : Int) (hnb : 0 ≤ nb ∧ nb ≤ 88) : SpI (c_addS3 ss na nb nc nd) := by
  unfold c_addS3
  dsimp only
  obtain ⟨⟨⟨hV, hLt, hWd, hSt, hLp, hTh⟩, hW, hCo, hWt, hFs, hSh, hP, hFD⟩, hPa⟩ := q
  by_cases h12 : 6 ≤ ss 0 6
  · rw [if_pos h12]
    exact ⟨⟨⟨hV, hLt, hWd, hSt, hLp, hTh⟩, hW, hCo, hWt, hFs, hSh, hP, hFD⟩, hPa⟩
  · rw [if_neg h12, if_pos rfl]
    obtain ⟨v1, v2, v3, v4, v5, v6, v7, v8, v9, v10, v11, v12, v13, v14, v15, v16, v17, v18, v19, v20, v21, v22⟩ := hV
    have ea : ∀ (r c : Int), 0 ≤ c ∧ c < 4 → f_at ((am_put (am_put (am_put (am_put (am_put ss 4 (((ss 0 6) * 4).toNat) na) 4 ((((ss 0 6) * 4) + 1).toNat) nb) 4 ((((ss 0 6) * 4) + 2).toNat) nc) 4 ((((ss 0 6) * 4) + 3).toNat) nd) 0 6 ((am_put (am_put (am_put (am_put ss 4 (((ss 0 6) * 4).toNat) na) 4 ((((ss 0 6) * 4) + 1).toNat) nb) 4 ((((ss 0 6) * 4) + 2).toNat) nc) 4 ((((ss 0 6) * 4) + 3).toNat) nd) 0 6 + 1)) 0 6) ((am_put (am_put (am_put (am_put (am_put ss 4 (((ss 0 6) * 4).toNat) na) 4 ((((ss 0 6) * 4) + 1).toNat) nb) 4 ((((ss 0 6) * 4) + 2).toNat) nc) 4 ((((ss 0 6) * 4) + 3).toNat) nd) 0 6 ((am_put (am_put (am_put (am_put ss 4 (((ss 0 6) * 4).toNat) na) 4 ((((ss 0 6) * 4) + 1).toNat) nb) 4 ((((ss 0 6) * 4) + 2).toNat) nc) 4 ((((ss 0 6) * 4) + 3).toNat) nd) 0 6 + 1)) 4) r c = if r = ss 0 6 then (if c = 0 then na else if c = 1 then nb else if c = 2 then nc else nd) else f_at (ss 0 6) (ss 4) r c := fun r c hc => f_at_addS (M := ss 0 6) (f := ss 4) (by omega) na nb nc nd r c hc
    exact ⟨⟨⟨⟨v1, v2, v3, v4, v5, v6, v7, v8, v9, v10, v11, v12, (by show 0 ≤ ss 0 6 + 1; omega), (by show ss 0 6 + 1 ≤ 6; omega), v15, v16, v17, v18, v19, v20, v21, v22⟩, hLt, hWd, (fun r => by
      have e1 := ea r 1 (by decide)
      have z := hSt r
      simp only [if_true, if_false, Int.reduceEq, Nat.reduceEqDiff] at e1
      by_cases hr : r = ss 0 6
      · rw [if_pos hr] at e1
        refine ⟨?_, ?_⟩ <;> (rw [e1]; omega)
      · rw [if_neg hr] at e1
        refine ⟨?_, ?_⟩ <;> (rw [e1]; omega)), hLp, hTh⟩, hW, hCo, hWt, hFs, hSh, hP, hFD⟩, hPa⟩
theorem c_addS4_I {ss : am_F} (q : SpI ss) (na nb nc nd : Int) (hna : 0 ≤ na ∧ na ≤ 9) (hnb : 0 ≤ nb ∧ nb ≤ 9) : SpI (c_addS4 ss na nb nc nd) := by
  unfold c_addS4
  dsimp only
  obtain ⟨⟨⟨hV, hLt, hWd, hSt, hLp, hTh⟩, hW, hCo, hWt, hFs, hSh, hP, hFD⟩, hPa⟩ := q
  by_cases h12 : 6 ≤ ss 0 7
  · rw [if_pos h12]
    exact ⟨⟨⟨hV, hLt, hWd, hSt, hLp, hTh⟩, hW, hCo, hWt, hFs, hSh, hP, hFD⟩, hPa⟩
  · rw [if_neg h12, if_pos rfl]
    obtain ⟨v1, v2, v3, v4, v5, v6, v7, v8, v9, v10, v11, v12, v13, v14, v15, v16, v17, v18, v19, v20, v21, v22⟩ := hV
    have ea : ∀ (r c : Int), 0 ≤ c ∧ c < 4 → f_at ((am_put (am_put (am_put (am_put (am_put ss 5 (((ss 0 7) * 4).toNat) na) 5 ((((ss 0 7) * 4) + 1).toNat) nb) 5 ((((ss 0 7) * 4) + 2).toNat) nc) 5 ((((ss 0 7) * 4) + 3).toNat) nd) 0 7 ((am_put (am_put (am_put (am_put ss 5 (((ss 0 7) * 4).toNat) na) 5 ((((ss 0 7) * 4) + 1).toNat) nb) 5 ((((ss 0 7) * 4) + 2).toNat) nc) 5 ((((ss 0 7) * 4) + 3).toNat) nd) 0 7 + 1)) 0 7) ((am_put (am_put (am_put (am_put (am_put ss 5 (((ss 0 7) * 4).toNat) na) 5 ((((ss 0 7) * 4) + 1).toNat) nb) 5 ((((ss 0 7) * 4) + 2).toNat) nc) 5 ((((ss 0 7) * 4) + 3).toNat) nd) 0 7 ((am_put (am_put (am_put (am_put ss 5 (((ss 0 7) * 4).toNat) na) 5 ((((ss 0 7) * 4) + 1).toNat) nb) 5 ((((ss 0 7) * 4) + 2).toNat) nc) 5 ((((ss 0 7) * 4) + 3).toNat) nd) 0 7 + 1)) 5) r c = if r = ss 0 7 then (if c = 0 then na else if c = 1 then nb else if c = 2 then nc else nd) else f_at (ss 0 7) (ss 5) r c := fun r c hc => f_at_addS (M := ss 0 7) (f := ss 5) (by omega) na nb nc nd r c hc
    exact ⟨⟨⟨⟨v1, v2, v3, v4, v5, v6, v7, v8, v9, v10, v11, v12, v13, v14, (by show 0 ≤ ss 0 7 + 1; omega), (by show ss 0 7 + 1 ≤ 6; omega), v17, v18, v19, v20, v21, v22⟩, hLt, hWd, hSt, hLp, hTh⟩, hW, hCo, hWt, hFs, hSh, hP, (fun r => by
      have e1 := ea r 0 (by decide)
      have e2 := ea r 1 (by decide)
      have z := hFD r
      simp only [if_true, if_false, Int.reduceEq, Nat.reduceEqDiff] at e1 e2
      by_cases hr : r = ss 0 7
      · rw [if_pos hr] at e1 e2
        refine ⟨⟨?_, ?_⟩, ?_, ?_⟩ <;> first | (rw [e1]; omega) | (rw [e2]; omega)
      · rw [if_neg hr] at e1 e2
        refine ⟨⟨?_, ?_⟩, ?_, ?_⟩ <;> first | (rw [e1]; omega) | (rw [e2]; omega))⟩, hPa⟩
theorem c_addS5_I {ss : am_F} (q : SpI ss) (na nb nc nd : Int) (hna : 0 ≤ na ∧ na ≤ 39) (hnb : 0 ≤ nb ∧ nb ≤ 12) : SpI (c_addS5 ss na nb nc nd) := by
  unfold c_addS5
  dsimp only
  obtain ⟨⟨⟨hV, hLt, hWd, hSt, hLp, hTh⟩, hW, hCo, hWt, hFs, hSh, hP, hFD⟩, hPa⟩ := q
  by_cases h12 : 4 ≤ ss 0 8
  · rw [if_pos h12]
    exact ⟨⟨⟨hV, hLt, hWd, hSt, hLp, hTh⟩, hW, hCo, hWt, hFs, hSh, hP, hFD⟩, hPa⟩
  · rw [if_neg h12, if_pos rfl]
    obtain ⟨v1, v2, v3, v4, v5, v6, v7, v8, v9, v10, v11, v12, v13, v14, v15, v16, v17, v18, v19, v20, v21, v22⟩ := hV
    have ea : ∀ (r c : Int), 0 ≤ c ∧ c < 4 → f_at ((am_put (am_put (am_put (am_put (am_put ss 6 (((ss 0 8) * 4).toNat) na) 6 ((((ss 0 8) * 4) + 1).toNat) nb) 6 ((((ss 0 8) * 4) + 2).toNat) nc) 6 ((((ss 0 8) * 4) + 3).toNat) nd) 0 8 ((am_put (am_put (am_put (am_put ss 6 (((ss 0 8) * 4).toNat) na) 6 ((((ss 0 8) * 4) + 1).toNat) nb) 6 ((((ss 0 8) * 4) + 2).toNat) nc) 6 ((((ss 0 8) * 4) + 3).toNat) nd) 0 8 + 1)) 0 8) ((am_put (am_put (am_put (am_put (am_put ss 6 (((ss 0 8) * 4).toNat) na) 6 ((((ss 0 8) * 4) + 1).toNat) nb) 6 ((((ss 0 8) * 4) + 2).toNat) nc) 6 ((((ss 0 8) * 4) + 3).toNat) nd) 0 8 ((am_put (am_put (am_put (am_put ss 6 (((ss 0 8) * 4).toNat) na) 6 ((((ss 0 8) * 4) + 1).toNat) nb) 6 ((((ss 0 8) * 4) + 2).toNat) nc) 6 ((((ss 0 8) * 4) + 3).toNat) nd) 0 8 + 1)) 6) r c = if r = ss 0 8 then (if c = 0 then na else if c = 1 then nb else if c = 2 then nc else nd) else f_at (ss 0 8) (ss 6) r c := fun r c hc => f_at_addS (M := ss 0 8) (f := ss 6) (by omega) na nb nc nd r c hc
    have hW2 : HbW (am_put (am_put (am_put (am_put (am_put ss 6 (((ss 0 8) * 4).toNat) na) 6 ((((ss 0 8) * 4) + 1).toNat) nb) 6 ((((ss 0 8) * 4) + 2).toNat) nc) 6 ((((ss 0 8) * 4) + 3).toNat) nd) 0 8 ((am_put (am_put (am_put (am_put ss 6 (((ss 0 8) * 4).toNat) na) 6 ((((ss 0 8) * 4) + 1).toNat) nb) 6 ((((ss 0 8) * 4) + 2).toNat) nc) 6 ((((ss 0 8) * 4) + 3).toNat) nd) 0 8 + 1)) := fun r => by
      have e1 := ea r 0 (by decide)
      have e2 := ea r 1 (by decide)
      have z := hW r
      unfold f_comes f_moves at *
      simp only [if_true, if_false, Int.reduceEq, Nat.reduceEqDiff] at e1 e2
      by_cases hr : r = ss 0 8
      · rw [if_pos hr] at e1 e2
        refine ⟨⟨?_, ?_⟩, ?_, ?_⟩ <;> first | (rw [e1]; omega) | (rw [e2]; omega)
      · rw [if_neg hr] at e1 e2
        refine ⟨⟨?_, ?_⟩, ?_, ?_⟩ <;> first | (rw [e1]; omega) | (rw [e2]; omega)
    exact ⟨⟨⟨⟨v1, v2, v3, v4, v5, v6, v7, v8, v9, v10, v11, v12, v13, v14, v15, v16, (by show 0 ≤ ss 0 8 + 1; omega), (by show ss 0 8 + 1 ≤ 4; omega), v19, v20, v21, v22⟩, hLt, hWd, hSt, hLp, hTh⟩, hW2, (CoB_of hPa), hWt, hFs, hSh, (PaP_of hW2 hPa (by show ss 0 8 + 1 ≤ 4; omega)), hFD⟩, hPa⟩
theorem c_addS6_I {ss : am_F} (q : SpI ss) (na nb nc nd : Int) (hna : 0 ≤ na ∧ na ≤ 88) : SpI (c_addS6 ss na nb nc nd) := by
  unfold c_addS6
  dsimp only
  obtain ⟨⟨⟨hV, hLt, hWd, hSt, hLp, hTh⟩, hW, hCo, hWt, hFs, hSh, hP, hFD⟩, hPa⟩ := q
  by_cases h12 : 4 ≤ ss 0 9
  · rw [if_pos h12]
    exact ⟨⟨⟨hV, hLt, hWd, hSt, hLp, hTh⟩, hW, hCo, hWt, hFs, hSh, hP, hFD⟩, hPa⟩
  · rw [if_neg h12, if_pos rfl]
    obtain ⟨v1, v2, v3, v4, v5, v6, v7, v8, v9, v10, v11, v12, v13, v14, v15, v16, v17, v18, v19, v20, v21, v22⟩ := hV
    have ea : ∀ (r c : Int), 0 ≤ c ∧ c < 4 → f_at ((am_put (am_put (am_put (am_put (am_put ss 7 (((ss 0 9) * 4).toNat) na) 7 ((((ss 0 9) * 4) + 1).toNat) nb) 7 ((((ss 0 9) * 4) + 2).toNat) nc) 7 ((((ss 0 9) * 4) + 3).toNat) nd) 0 9 ((am_put (am_put (am_put (am_put ss 7 (((ss 0 9) * 4).toNat) na) 7 ((((ss 0 9) * 4) + 1).toNat) nb) 7 ((((ss 0 9) * 4) + 2).toNat) nc) 7 ((((ss 0 9) * 4) + 3).toNat) nd) 0 9 + 1)) 0 9) ((am_put (am_put (am_put (am_put (am_put ss 7 (((ss 0 9) * 4).toNat) na) 7 ((((ss 0 9) * 4) + 1).toNat) nb) 7 ((((ss 0 9) * 4) + 2).toNat) nc) 7 ((((ss 0 9) * 4) + 3).toNat) nd) 0 9 ((am_put (am_put (am_put (am_put ss 7 (((ss 0 9) * 4).toNat) na) 7 ((((ss 0 9) * 4) + 1).toNat) nb) 7 ((((ss 0 9) * 4) + 2).toNat) nc) 7 ((((ss 0 9) * 4) + 3).toNat) nd) 0 9 + 1)) 7) r c = if r = ss 0 9 then (if c = 0 then na else if c = 1 then nb else if c = 2 then nc else nd) else f_at (ss 0 9) (ss 7) r c := fun r c hc => f_at_addS (M := ss 0 9) (f := ss 7) (by omega) na nb nc nd r c hc
    exact ⟨⟨⟨⟨v1, v2, v3, v4, v5, v6, v7, v8, v9, v10, v11, v12, v13, v14, v15, v16, v17, v18, (by show 0 ≤ ss 0 9 + 1; omega), (by show ss 0 9 + 1 ≤ 4; omega), v21, v22⟩, hLt, hWd, hSt, hLp, hTh⟩, hW, hCo, (fun r => by
      have e1 := ea r 0 (by decide)
      have z := hWt r
      simp only [if_true, if_false, Int.reduceEq, Nat.reduceEqDiff] at e1
      by_cases hr : r = ss 0 9
      · rw [if_pos hr] at e1
        refine ⟨?_, ?_⟩ <;> (rw [e1]; omega)
      · rw [if_neg hr] at e1
        refine ⟨?_, ?_⟩ <;> (rw [e1]; omega)), hFs, hSh, hP, hFD⟩, hPa⟩
theorem c_addS7_I {ss : am_F} (q : SpI ss) (na nb nc nd : Int) (hna : -100000 ≤ na ∧ na ≤ 100000) : SpI (c_addS7 ss na nb nc nd) := by
  unfold c_addS7
  dsimp only
  obtain ⟨⟨⟨hV, hLt, hWd, hSt, hLp, hTh⟩, hW, hCo, hWt, hFs, hSh, hP, hFD⟩, hPa⟩ := q
  by_cases h12 : 4 ≤ ss 0 10
  · rw [if_pos h12]
    exact ⟨⟨⟨hV, hLt, hWd, hSt, hLp, hTh⟩, hW, hCo, hWt, hFs, hSh, hP, hFD⟩, hPa⟩
  · rw [if_neg h12, if_pos rfl]
    obtain ⟨v1, v2, v3, v4, v5, v6, v7, v8, v9, v10, v11, v12, v13, v14, v15, v16, v17, v18, v19, v20, v21, v22⟩ := hV
    have ea : ∀ (r c : Int), 0 ≤ c ∧ c < 4 → f_at ((am_put (am_put (am_put (am_put (am_put ss 8 (((ss 0 10) * 4).toNat) na) 8 ((((ss 0 10) * 4) + 1).toNat) nb) 8 ((((ss 0 10) * 4) + 2).toNat) nc) 8 ((((ss 0 10) * 4) + 3).toNat) nd) 0 10 ((am_put (am_put (am_put (am_put ss 8 (((ss 0 10) * 4).toNat) na) 8 ((((ss 0 10) * 4) + 1).toNat) nb) 8 ((((ss 0 10) * 4) + 2).toNat) nc) 8 ((((ss 0 10) * 4) + 3).toNat) nd) 0 10 + 1)) 0 10) ((am_put (am_put (am_put (am_put (am_put ss 8 (((ss 0 10) * 4).toNat) na) 8 ((((ss 0 10) * 4) + 1).toNat) nb) 8 ((((ss 0 10) * 4) + 2).toNat) nc) 8 ((((ss 0 10) * 4) + 3).toNat) nd) 0 10 ((am_put (am_put (am_put (am_put ss 8 (((ss 0 10) * 4).toNat) na) 8 ((((ss 0 10) * 4) + 1).toNat) nb) 8 ((((ss 0 10) * 4) + 2).toNat) nc) 8 ((((ss 0 10) * 4) + 3).toNat) nd) 0 10 + 1)) 8) r c = if r = ss 0 10 then (if c = 0 then na else if c = 1 then nb else if c = 2 then nc else nd) else f_at (ss 0 10) (ss 8) r c := fun r c hc => f_at_addS (M := ss 0 10) (f := ss 8) (by omega) na nb nc nd r c hc
    exact ⟨⟨⟨⟨v1, v2, v3, v4, v5, v6, v7, v8, v9, v10, v11, v12, v13, v14, v15, v16, v17, v18, v19, v20, (by show 0 ≤ ss 0 10 + 1; omega), (by show ss 0 10 + 1 ≤ 4; omega)⟩, hLt, hWd, hSt, hLp, hTh⟩, hW, hCo, hWt, hFs, (fun r => by
      have e1 := ea r 0 (by decide)
      have z := hSh r
      simp only [if_true, if_false, Int.reduceEq, Nat.reduceEqDiff] at e1
      by_cases hr : r = ss 0 10
      · rw [if_pos hr] at e1
        refine ⟨?_, ?_⟩ <;> (rw [e1]; omega)
      · rw [if_neg hr] at e1
        refine ⟨?_, ?_⟩ <;> (rw [e1]; omega)), hP, hFD⟩, hPa⟩
theorem c_addIf0_I {ss : am_F} (q : SpI ss) (pp : am_F) (na nb nc : Int) (hnb : 0 ≤ nb ∧ nb ≤ 8) (hnc : 0 ≤ nc ∧ nc ≤ 8) : SpI (c_addIf0 ss pp na nb nc) := by
  unfold c_addIf0
  dsimp only
  split
  · exact q
  · exact c_addS0_I q na nb nc 0 hnb hnc
theorem Rd2.needRoom0 {ss a b : am_F} (h : Rd2 a b) : Rd2 a (c_needRoom0 ss b) := by
  unfold c_needRoom0
  dsimp only
  repeat' split
  all_goals first | exact h | exact h.wrong _ _
theorem c_addIf1_I {ss : am_F} (q : SpI ss) (pp : am_F) (na nb nc : Int) (hnb : 0 ≤ nb ∧ nb ≤ 99) : SpI (c_addIf1 ss pp na nb nc) := by
  unfold c_addIf1
  dsimp only
  split
  · exact q
  · exact c_addS1_I q na nb nc 0 hnb
theorem Rd2.needRoom1 {ss a b : am_F} (h : Rd2 a b) : Rd2 a (c_needRoom1 ss b) := by
  unfold c_needRoom1
  dsimp only
  repeat' split
  all_goals first | exact h | exact h.wrong _ _
theorem c_addIf2_I {ss : am_F} (q : SpI ss) (pp : am_F) (na nb nc : Int) (hna : 0 ≤ na ∧ na ≤ 88) (hnb : 0 ≤ nb ∧ nb ≤ 99) : SpI (c_addIf2 ss pp na nb nc) := by
  unfold c_addIf2
  dsimp only
  split
  · exact q
  · exact c_addS2_I q na nb nc 0 hna hnb
theorem Rd2.needRoom2 {ss a b : am_F} (h : Rd2 a b) : Rd2 a (c_needRoom2 ss b) := by
  unfold c_needRoom2
  dsimp only
  repeat' split
  all_goals first | exact h | exact h.wrong _ _
theorem c_addIf3_I {ss : am_F} (q : SpI ss) (pp : am_F) (na nb nc : Int) (hnb : 0 ≤ nb ∧ nb ≤ 88) : SpI (c_addIf3 ss pp na nb nc) := by
  unfold c_addIf3
  dsimp only
  split
  · exact q
  · exact c_addS3_I q na nb nc 0 hnb
theorem Rd2.needRoom3 {ss a b : am_F} (h : Rd2 a b) : Rd2 a (c_needRoom3 ss b) := by
  unfold c_needRoom3
  dsimp only
  repeat' split
  all_goals first | exact h | exact h.wrong _ _
theorem c_addIf4_I {ss : am_F} (q : SpI ss) (pp : am_F) (na nb nc : Int) (hna : 0 ≤ na ∧ na ≤ 9) (hnb : 0 ≤ nb ∧ nb ≤ 9) : SpI (c_addIf4 ss pp na nb nc) := by
  unfold c_addIf4
  dsimp only
  split
  · exact q
  · exact c_addS4_I q na nb nc 0 hna hnb
theorem Rd2.needRoom4 {ss a b : am_F} (h : Rd2 a b) : Rd2 a (c_needRoom4 ss b) := by
  unfold c_needRoom4
  dsimp only
  repeat' split
  all_goals first | exact h | exact h.wrong _ _
theorem c_addIf5_I {ss : am_F} (q : SpI ss) (pp : am_F) (na nb nc : Int) (hna : 0 ≤ na ∧ na ≤ 39) (hnb : 0 ≤ nb ∧ nb ≤ 12) : SpI (c_addIf5 ss pp na nb nc) := by
  unfold c_addIf5
  dsimp only
  split
  · exact q
  · exact c_addS5_I q na nb nc 0 hna hnb
theorem Rd2.needRoom5 {ss a b : am_F} (h : Rd2 a b) : Rd2 a (c_needRoom5 ss b) := by
  unfold c_needRoom5
  dsimp only
  repeat' split
  all_goals first | exact h | exact h.wrong _ _
theorem c_addIf6_I {ss : am_F} (q : SpI ss) (pp : am_F) (na nb nc : Int) (hna : 0 ≤ na ∧ na ≤ 88) : SpI (c_addIf6 ss pp na nb nc) := by
  unfold c_addIf6
  dsimp only
  split
  · exact q
  · exact c_addS6_I q na nb nc 0 hna
theorem Rd2.needRoom6 {ss a b : am_F} (h : Rd2 a b) : Rd2 a (c_needRoom6 ss b) := by
  unfold c_needRoom6
  dsimp only
  repeat' split
  all_goals first | exact h | exact h.wrong _ _
theorem c_addIf7_I {ss : am_F} (q : SpI ss) (pp : am_F) (na nb nc : Int) (hna : -100000 ≤ na ∧ na ≤ 100000) : SpI (c_addIf7 ss pp na nb nc) := by
  unfold c_addIf7
  dsimp only
  split
  · exact q
  · exact c_addS7_I q na nb nc 0 hna
theorem Rd2.needRoom7 {ss a b : am_F} (h : Rd2 a b) : Rd2 a (c_needRoom7 ss b) := by
  unfold c_needRoom7
  dsimp only
  repeat' split
  all_goals first | exact h | exact h.wrong _ _
