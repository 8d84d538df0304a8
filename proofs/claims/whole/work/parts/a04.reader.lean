/-! what reads a text -/
def RdI (p : am_F) : Prop := (0 ≤ p 0 2 ∧ p 0 2 ≤ p 0 1) ∧ p 0 1 ≤ 600 ∧ 0 ≤ p 0 3 ∧ p 0 3 ≤ p 0 1
def TpI (e : am_F) : Prop := ∀ j, 0 ≤ e 1 j ∧ e 1 j ≤ 255
theorem RdI_3 {p : am_F} (q : RdI p) : RdI (am_put p 0 3 (p 0 2)) := ⟨q.1, q.2.1, by show 0 ≤ p 0 2; exact q.1.1, by show p 0 2 ≤ p 0 1; exact q.1.2⟩
theorem RdI_k {p : am_F} (q : RdI p) {i : Nat} {v : Int} (h : i ≠ 1) (h2 : i ≠ 2) (h3 : i ≠ 3) : RdI (am_put p 0 i v) := by
  have e : ∀ j, j ≠ i → am_put p 0 i v 0 j = p 0 j := fun j hj => (if_pos rfl).trans (if_neg hj)
  unfold RdI
  rw [e 1 (Ne.symm h), e 2 (Ne.symm h2), e 3 (Ne.symm h3)]
  exact q
def c_fine (pp : am_F) : Int := (if pp 0 4 = 0 then 1 else 0)
theorem mc_fine {S : am_S} {d u : Nat} {w : AH} {hb sp rb rs : Nat} {po ro : AV} (hl : 109 ≤ w.length) (hp : hb = 1 ∧ sp = 21 ∨ hb = 21 ∧ sp = 1) (hr : rb = 41 ∧ rs = 46 ∨ rb = 46 ∧ rs = 41) {ee : am_F} {hh : am_F} {ss : am_F} {uu : am_F} {vv : am_F} {pp : am_F} {kk : am_F} {rr : am_F} {tt : am_F} {gg : am_F} {aa : am_F} {dd : am_F} {bd : am_F} {ga : am_F} {im : am_F}    (hd : 1 ≤ d) : am_Out S zX6_fine d u [aR 52] (hfW w hb sp rb rs hb po ro ee hh ss uu vv pp kk rr tt gg aa dd bd ga im) (.inl (some (aI (c_fine pp)))) (hfW w hb sp rb rs hb po ro ee hh ss uu vv pp kk rr tt gg aa dd bd ga im) := by
  have key : ∀ Q : AO → AH → Prop, Q (.inl (some (aI (c_fine pp)))) (hfW w hb sp rb rs hb po ro ee hh ss uu vv pp kk rr tt gg aa dd bd ga im) → am_M S zX6_fine d u [aR 52] (hfW w hb sp rb rs hb po ro ee hh ss uu vv pp kk rr tt gg aa dd bd ga im) Q := by
    intro Q hQ
    refine am_body rfl (by decide +kernel) rfl (am_cats_cons rfl (am_cats_nil)) (Nat.le_of_ble_eq_true rfl) (?_ : am_T _ _ _ _ _ 0 [some (aR 52)] [] (hfW w hb sp rb rs hb po ro ee hh ss uu vv pp kk rr tt gg aa dd bd ga im))
    refine T_aload_n (am_dec tX6_fine_0 0 rfl) rfl ?_
    refine T_getfield 5 4 (am_dec tX6_fine_0 1 rfl) flX6_31_5 (show (hfW w hb sp rb rs hb po ro ee hh ss uu vv pp kk rr tt gg aa dd bd ga im)[52]? = some (cO 5 [aR 51, aI (pp 0 1), aI (pp 0 2), aI (pp 0 3), aI (pp 0 4), aI (pp 0 5), po, aI (pp 0 7), aI (pp 0 8), aI (pp 0 9), aI (pp 0 10)]) from (hfW_c hl 52 (by decide))) rfl ?_
    have K4 : ∀ (t4 : Int), t4 = (if pp 0 4 = 0 then 1 else 0) →  am_T S zX6_fine d u Q 12 [none] [aI t4] (hfW w hb sp rb rs hb po ro ee hh ss uu vv pp kk rr tt gg aa dd bd ga im) := by
      intro t4 ht4 
      have hbt4 : t4 = 0 ∨ t4 = 1 := by
        rw [ht4]
        try dsimp only
        repeat' split
        all_goals first | exact Or.inl rfl | exact Or.inr rfl | apply c_guardsAll_b | apply c_isRight54_b | apply c_isRight64_b | apply c_areRight_b | apply c_areRightIn_b | omega
      exact T_zreturn (am_dec tX6_fine_0 6 rfl) rfl (by first | exact Or.inl rfl | exact Or.inr rfl | omega) (am_tr (fun (x9 : Int) => Q (.inl (some (aI (x9)))) (hfW w hb sp rb rs hb po ro ee hh ss uu vv pp kk rr tt gg aa dd bd ga im)) (y := t4) (show (c_fine pp) = t4 from (by have s9 := ht4.symm; subst s9; exact rfl)) hQ)
    refine T_if_ne 11 (am_dec tX6_fine_0 2 rfl) rfl (fun h4 => ?_) (fun h4 => ?_)
    · refine T_iconst 0 (am_dec tX6_fine_0 5 rfl) rfl ⟨by decide, by decide⟩ ?_
      refine T_weak (ls' := [none]) (am_sub_n am_sub_nil) ?_
      exact K4 _ (if_neg h4).symm 
    · refine T_iconst 1 (am_dec tX6_fine_0 3 rfl) rfl ⟨by decide, by decide⟩ ?_
      refine T_goto 12 (am_dec tX6_fine_0 4 rfl) rfl ?_
      refine T_weak (ls' := [none]) (am_sub_n am_sub_nil) ?_
      exact K4 _ (if_pos h4).symm 
  exact key _ ⟨rfl, rfl⟩
theorem c_fine_b (pp : am_F) : (c_fine pp) = 0 ∨ (c_fine pp) = 1 := by
  unfold c_fine
  try dsimp only
  repeat' split
  all_goals first | exact Or.inl rfl | exact Or.inr rfl | apply c_guardsAll_b | apply c_isRight54_b | apply c_isRight64_b | apply c_areRight_b | apply c_areRightIn_b
def c_wrong (pp : am_F) (wh : Int) (pl : Int) : am_F := (if pp 0 4 = 0 then (am_put (am_put pp 0 4 wh) 0 5 pl) else pp)
theorem mc_wrong {S : am_S} {d u : Nat} {w : AH} {hb sp rb rs : Nat} {po ro : AV} (hl : 109 ≤ w.length) (hp : hb = 1 ∧ sp = 21 ∨ hb = 21 ∧ sp = 1) (hr : rb = 41 ∧ rs = 46 ∨ rb = 46 ∧ rs = 41) {ee : am_F} {hh : am_F} {ss : am_F} {uu : am_F} {vv : am_F} {pp : am_F} {kk : am_F} {rr : am_F} {tt : am_F} {gg : am_F} {aa : am_F} {dd : am_F} {bd : am_F} {ga : am_F} {im : am_F} (wh : Int) (pl : Int)   (hd : 1 ≤ d) : am_Out S zX6_wrong d u [aR 52, aI wh, aI pl] (hfW w hb sp rb rs hb po ro ee hh ss uu vv pp kk rr tt gg aa dd bd ga im) (.inl none) (hfW w hb sp rb rs hb po ro ee hh ss uu vv (c_wrong pp wh pl) kk rr tt gg aa dd bd ga im) := by
  have key : ∀ Q : AO → AH → Prop, Q (.inl none) (hfW w hb sp rb rs hb po ro ee hh ss uu vv (c_wrong pp wh pl) kk rr tt gg aa dd bd ga im) → am_M S zX6_wrong d u [aR 52, aI wh, aI pl] (hfW w hb sp rb rs hb po ro ee hh ss uu vv pp kk rr tt gg aa dd bd ga im) Q := by
    intro Q hQ
    refine am_body rfl (by decide +kernel) rfl (am_cats_cons rfl ( am_cats_cons rfl ( am_cats_cons rfl (am_cats_nil)))) (Nat.le_of_ble_eq_true rfl) (?_ : am_T _ _ _ _ _ 0 [some (aR 52), some (aI wh), some (aI pl)] [] (hfW w hb sp rb rs hb po ro ee hh ss uu vv pp kk rr tt gg aa dd bd ga im))
    refine T_aload_n (am_dec tX6_wrong_0 0 rfl) rfl ?_
    refine T_getfield 5 4 (am_dec tX6_wrong_0 1 rfl) flX6_31_5 (show (hfW w hb sp rb rs hb po ro ee hh ss uu vv pp kk rr tt gg aa dd bd ga im)[52]? = some (cO 5 [aR 51, aI (pp 0 1), aI (pp 0 2), aI (pp 0 3), aI (pp 0 4), aI (pp 0 5), po, aI (pp 0 7), aI (pp 0 8), aI (pp 0 9), aI (pp 0 10)]) from (hfW_c hl 52 (by decide))) rfl ?_
    have K4 : ∀ (pp4 : am_F), pp4 = (if pp 0 4 = 0 then (am_put (am_put pp 0 4 wh) 0 5 pl) else pp) →  am_T S zX6_wrong d u Q 17 [none, none, none] [] (hfW w hb sp rb rs hb po ro ee hh ss uu vv pp4 kk rr tt gg aa dd bd ga im) := by
      intro pp4 hpp4 
      exact T_return (am_dec tX6_wrong_0 9 rfl) rfl (am_tr (fun (x9 : am_F) => Q (.inl none) (hfW w hb sp rb rs hb po ro ee hh ss uu vv x9 kk rr tt gg aa dd bd ga im)) (y := pp4) (show (c_wrong pp wh pl) = pp4 from (by have s9 := hpp4.symm; subst s9; exact rfl)) hQ)
    refine T_if_ne 17 (am_dec tX6_wrong_0 2 rfl) rfl (fun h4 => ?_) (fun h4 => ?_)
    · refine T_weak (ls' := [none, none, none]) (am_sub_n (am_sub_n (am_sub_n am_sub_nil))) ?_
      exact K4 _ (if_neg h4).symm 
    · refine T_aload_n (am_dec tX6_wrong_0 3 rfl) rfl ?_
      refine T_iload_n (am_dec tX6_wrong_0 4 rfl) rfl ?_
      refine T_putfield (fs' := [aR 51, aI (pp 0 1), aI (pp 0 2), aI (pp 0 3), aI wh, aI (pp 0 5), po, aI (pp 0 7), aI (pp 0 8), aI (pp 0 9), aI (pp 0 10)]) 5 4 (am_dec tX6_wrong_0 5 rfl) flX6_31_5 rfl rfl rfl trivial (show (hfW w hb sp rb rs hb po ro ee hh ss uu vv pp kk rr tt gg aa dd bd ga im)[52]? = some (cO 5 [aR 51, aI (pp 0 1), aI (pp 0 2), aI (pp 0 3), aI (pp 0 4), aI (pp 0 5), po, aI (pp 0 7), aI (pp 0 8), aI (pp 0 9), aI (pp 0 10)]) from (hfW_c hl 52 (by decide))) (Nat.le_of_ble_eq_true rfl) rfl ?_
      refine am_wE (w2 := hfW w hb sp rb rs hb po ro ee hh ss uu vv (am_put pp 0 4 wh) kk rr tt gg aa dd bd ga im) (hf_pp4 hl) ?_
      refine T_aload_n (am_dec tX6_wrong_0 6 rfl) rfl ?_
      refine T_iload_n (am_dec tX6_wrong_0 7 rfl) rfl ?_
      refine T_putfield (fs' := [aR 51, aI (pp 0 1), aI (pp 0 2), aI (pp 0 3), aI wh, aI pl, po, aI (pp 0 7), aI (pp 0 8), aI (pp 0 9), aI (pp 0 10)]) 5 5 (am_dec tX6_wrong_0 8 rfl) flX6_34_5 rfl rfl rfl trivial (show (hfW w hb sp rb rs hb po ro ee hh ss uu vv (am_put pp 0 4 wh) kk rr tt gg aa dd bd ga im)[52]? = some (cO 5 [aR 51, aI (pp 0 1), aI (pp 0 2), aI (pp 0 3), aI wh, aI (pp 0 5), po, aI (pp 0 7), aI (pp 0 8), aI (pp 0 9), aI (pp 0 10)]) from (hfW_c hl 52 (by decide))) (Nat.le_of_ble_eq_true rfl) rfl ?_
      refine am_wE (w2 := hfW w hb sp rb rs hb po ro ee hh ss uu vv (am_put (am_put pp 0 4 wh) 0 5 pl) kk rr tt gg aa dd bd ga im) (hf_pp5 hl) ?_
      refine T_weak (ls' := [none, none, none]) (am_sub_n (am_sub_n (am_sub_n am_sub_nil))) ?_
      exact K4 _ (if_pos h4).symm 
  exact key _ ⟨rfl, rfl⟩
def c_byteAt (ee : am_F) (pp : am_F) (pl : Int) : Int := (if pl < 0 then (-1) else (if pp 0 1 ≤ pl then (-1) else ((ee 1) pl.toNat)))
theorem mc_byteAt {S : am_S} {d u : Nat} {w : AH} {hb sp rb rs : Nat} {po ro : AV} (hl : 109 ≤ w.length) (hp : hb = 1 ∧ sp = 21 ∨ hb = 21 ∧ sp = 1) (hr : rb = 41 ∧ rs = 46 ∨ rb = 46 ∧ rs = 41) {ee : am_F} {hh : am_F} {ss : am_F} {uu : am_F} {vv : am_F} {pp : am_F} {kk : am_F} {rr : am_F} {tt : am_F} {gg : am_F} {aa : am_F} {dd : am_F} {bd : am_F} {ga : am_F} {im : am_F} (pl : Int) (hP : RdI pp) (hTp : TpI ee)  (hd : 1 ≤ d) : am_Out S zX6_byteAt d u [aR 52, aI pl] (hfW w hb sp rb rs hb po ro ee hh ss uu vv pp kk rr tt gg aa dd bd ga im) (.inl (some (aI (c_byteAt ee pp pl)))) (hfW w hb sp rb rs hb po ro ee hh ss uu vv pp kk rr tt gg aa dd bd ga im) := by
  have key : ∀ Q : AO → AH → Prop, Q (.inl (some (aI (c_byteAt ee pp pl)))) (hfW w hb sp rb rs hb po ro ee hh ss uu vv pp kk rr tt gg aa dd bd ga im) → am_M S zX6_byteAt d u [aR 52, aI pl] (hfW w hb sp rb rs hb po ro ee hh ss uu vv pp kk rr tt gg aa dd bd ga im) Q := by
    intro Q hQ
    refine am_body rfl (by decide +kernel) rfl (am_cats_cons rfl ( am_cats_cons rfl (am_cats_nil))) (Nat.le_of_ble_eq_true rfl) (?_ : am_T _ _ _ _ _ 0 [some (aR 52), some (aI pl)] [] (hfW w hb sp rb rs hb po ro ee hh ss uu vv pp kk rr tt gg aa dd bd ga im))
    have hP9 := hP
    obtain ⟨⟨vr1, vr2⟩, vr3, vr4, vr5⟩ := hP9
    refine T_iload_n (am_dec tX6_byteAt_0 0 rfl) rfl ?_
    have K1 : ∀ (t1 : Int), t1 = (if pl < 0 then (-1) else (if pp 0 1 ≤ pl then (-1) else ((ee 1) pl.toNat))) →  am_T S zX6_byteAt d u Q 22 [none, none] [aI t1] (hfW w hb sp rb rs hb po ro ee hh ss uu vv pp kk rr tt gg aa dd bd ga im) := by
      intro t1 ht1 
      exact T_ireturn (am_dec tX6_byteAt_0 12 rfl) rfl (am_tr (fun (x9 : Int) => Q (.inl (some (aI (x9)))) (hfW w hb sp rb rs hb po ro ee hh ss uu vv pp kk rr tt gg aa dd bd ga im)) (y := t1) (show (c_byteAt ee pp pl) = t1 from (by have s9 := ht1.symm; subst s9; exact rfl)) hQ)
    refine T_if_lt 21 (am_dec tX6_byteAt_0 1 rfl) rfl (fun h1 => ?_) (fun h1 => ?_)
    · refine T_iconst (-1) (am_dec tX6_byteAt_0 11 rfl) rfl ⟨by decide, by decide⟩ ?_
      refine T_weak (ls' := [none, none]) (am_sub_n (am_sub_n am_sub_nil)) ?_
      exact K1 _ (if_pos h1).symm 
    · refine T_iload_n (am_dec tX6_byteAt_0 2 rfl) rfl ?_
      refine T_aload_n (am_dec tX6_byteAt_0 3 rfl) rfl ?_
      refine T_getfield 5 1 (am_dec tX6_byteAt_0 4 rfl) flX6_21_5 (show (hfW w hb sp rb rs hb po ro ee hh ss uu vv pp kk rr tt gg aa dd bd ga im)[52]? = some (cO 5 [aR 51, aI (pp 0 1), aI (pp 0 2), aI (pp 0 3), aI (pp 0 4), aI (pp 0 5), po, aI (pp 0 7), aI (pp 0 8), aI (pp 0 9), aI (pp 0 10)]) from (hfW_c hl 52 (by decide))) rfl ?_
      have K9 : ∀ (t9 : Int), t9 = (if pp 0 1 ≤ pl then (-1) else ((ee 1) pl.toNat)) →  am_T S zX6_byteAt d u Q 22 [none, none] [aI t9] (hfW w hb sp rb rs hb po ro ee hh ss uu vv pp kk rr tt gg aa dd bd ga im) := by
        intro t9 ht9 
        exact K1 _ (by have s9 := ht9.symm; subst s9; exact (if_neg h1).symm) 
      refine T_icmp_ge 21 (am_dec tX6_byteAt_0 5 rfl) rfl (fun h9 => ?_) (fun h9 => ?_)
      · refine T_iconst (-1) (am_dec tX6_byteAt_0 11 rfl) rfl ⟨by decide, by decide⟩ ?_
        refine T_weak (ls' := [none, none]) (am_sub_n (am_sub_n am_sub_nil)) ?_
        exact K9 _ (if_pos h9).symm 
      · refine T_aload_n (am_dec tX6_byteAt_0 6 rfl) rfl ?_
        refine T_getfield 5 0 (am_dec tX6_byteAt_0 7 rfl) flX6_9_5 (show (hfW w hb sp rb rs hb po ro ee hh ss uu vv pp kk rr tt gg aa dd bd ga im)[52]? = some (cO 5 [aR 51, aI (pp 0 1), aI (pp 0 2), aI (pp 0 3), aI (pp 0 4), aI (pp 0 5), po, aI (pp 0 7), aI (pp 0 8), aI (pp 0 9), aI (pp 0 10)]) from (hfW_c hl 52 (by decide))) rfl ?_
        refine T_iload_n (am_dec tX6_byteAt_0 8 rfl) rfl ?_
        refine T_ialoadE (x := (ee 1) pl.toNat) (am_dec tX6_byteAt_0 9 rfl) (show (hfW w hb sp rb rs hb po ro ee hh ss uu vv pp kk rr tt gg aa dd bd ga im)[51]? = some (cP 0 600 (ee 1)) from (hfW_c hl 51 (by decide))) (by omega) (by omega) rfl ?_
        refine T_goto 22 (am_dec tX6_byteAt_0 10 rfl) rfl ?_
        refine T_weak (ls' := [none, none]) (am_sub_n (am_sub_n am_sub_nil)) ?_
        exact K9 _ (if_neg h9).symm 
  exact key _ ⟨rfl, rfl⟩
def w_c_peek_0 (ee : am_F) (pp : am_F) : (am_F) ⊕ (am_F) := (if pp 0 1 ≤ pp 0 2 then .inr pp else (if (ee 1) (pp 0 2).toNat = 32 then .inl (am_put pp 0 2 ((pp 0 2) + 1)) else .inr pp))
theorem L_c_peek_0 {S : am_S} {d u : Nat} {Q : AO → AH → Prop} {w : AH} {hb sp rb rs : Nat} {po ro : AV} (hl : 109 ≤ w.length) (hp : hb = 1 ∧ sp = 21 ∨ hb = 21 ∧ sp = 1) (hr : rb = 41 ∧ rs = 46 ∨ rb = 46 ∧ rs = 41) (ee : am_F) (hh : am_F) (ss : am_F) (uu : am_F) (vv : am_F) (kk : am_F) (rr : am_F) (tt : am_F) (gg : am_F) (aa : am_F) (dd : am_F) (bd : am_F) (ga : am_F) (im : am_F) (hTp : TpI ee)  (hd : 1 ≤ d) : ∀ (n : Nat) (pp : am_F), pp 0 1 - pp 0 2 < n → RdI pp → (∀ (pp' : am_F), pp' = am_wh (w_c_peek_0 ee) n pp → RdI pp' → am_T S zX6_peek d u Q 38 [some (aR 52)] [] (hfW w hb sp rb rs hb po ro ee hh ss uu vv pp' kk rr tt gg aa dd bd ga im)) → am_T S zX6_peek d u Q 0 [some (aR 52)] [] (hfW w hb sp rb rs hb po ro ee hh ss uu vv pp kk rr tt gg aa dd bd ga im) := by
  intro n
  induction n with
  | zero =>
    intro pp hm9 hinv k9
    have hP := hinv
    have hP9 := hP
    obtain ⟨⟨vr1, vr2⟩, vr3, vr4, vr5⟩ := hP9
    exfalso; omega
  | succ n ih =>
    intro pp hm9 hinv k9
    have hP := hinv
    have hP9 := hP
    obtain ⟨⟨vr1, vr2⟩, vr3, vr4, vr5⟩ := hP9
    refine T_aload_n (am_dec tX6_peek_0 0 rfl) rfl ?_
    refine T_getfield 5 2 (am_dec tX6_peek_0 1 rfl) flX6_25_5 (show (hfW w hb sp rb rs hb po ro ee hh ss uu vv pp kk rr tt gg aa dd bd ga im)[52]? = some (cO 5 [aR 51, aI (pp 0 1), aI (pp 0 2), aI (pp 0 3), aI (pp 0 4), aI (pp 0 5), po, aI (pp 0 7), aI (pp 0 8), aI (pp 0 9), aI (pp 0 10)]) from (hfW_c hl 52 (by decide))) rfl ?_
    refine T_aload_n (am_dec tX6_peek_0 2 rfl) rfl ?_
    refine T_getfield 5 1 (am_dec tX6_peek_0 3 rfl) flX6_21_5 (show (hfW w hb sp rb rs hb po ro ee hh ss uu vv pp kk rr tt gg aa dd bd ga im)[52]? = some (cO 5 [aR 51, aI (pp 0 1), aI (pp 0 2), aI (pp 0 3), aI (pp 0 4), aI (pp 0 5), po, aI (pp 0 7), aI (pp 0 8), aI (pp 0 9), aI (pp 0 10)]) from (hfW_c hl 52 (by decide))) rfl ?_
    refine T_icmp_ge 38 (am_dec tX6_peek_0 4 rfl) rfl (fun h8 => ?_) (fun h8 => ?_)
    · have e9 : (w_c_peek_0 ee) pp = .inr pp := (if_pos h8)
      simp only [am_wh_r e9] at k9
      exact k9 _ rfl hinv
    · refine T_aload_n (am_dec tX6_peek_0 5 rfl) rfl ?_
      refine T_getfield 5 0 (am_dec tX6_peek_0 6 rfl) flX6_9_5 (show (hfW w hb sp rb rs hb po ro ee hh ss uu vv pp kk rr tt gg aa dd bd ga im)[52]? = some (cO 5 [aR 51, aI (pp 0 1), aI (pp 0 2), aI (pp 0 3), aI (pp 0 4), aI (pp 0 5), po, aI (pp 0 7), aI (pp 0 8), aI (pp 0 9), aI (pp 0 10)]) from (hfW_c hl 52 (by decide))) rfl ?_
      refine T_aload_n (am_dec tX6_peek_0 7 rfl) rfl ?_
      refine T_getfield 5 2 (am_dec tX6_peek_0 8 rfl) flX6_25_5 (show (hfW w hb sp rb rs hb po ro ee hh ss uu vv pp kk rr tt gg aa dd bd ga im)[52]? = some (cO 5 [aR 51, aI (pp 0 1), aI (pp 0 2), aI (pp 0 3), aI (pp 0 4), aI (pp 0 5), po, aI (pp 0 7), aI (pp 0 8), aI (pp 0 9), aI (pp 0 10)]) from (hfW_c hl 52 (by decide))) rfl ?_
      refine T_ialoadE (x := (ee 1) (pp 0 2).toNat) (am_dec tX6_peek_0 9 rfl) (show (hfW w hb sp rb rs hb po ro ee hh ss uu vv pp kk rr tt gg aa dd bd ga im)[51]? = some (cP 0 600 (ee 1)) from (hfW_c hl 51 (by decide))) (by omega) (by omega) rfl ?_
      refine T_bipush 32 (am_dec tX6_peek_0 10 rfl) rfl ⟨by decide, by decide⟩ ?_
      refine T_icmp_ne 38 (am_dec tX6_peek_0 11 rfl) rfl (fun h22 => ?_) (fun h22 => ?_)
      · have e9 : (w_c_peek_0 ee) pp = .inr pp := ((if_neg h8).trans (if_neg h22))
        simp only [am_wh_r e9] at k9
        exact k9 _ rfl hinv
      · refine T_aload_n (am_dec tX6_peek_0 12 rfl) rfl ?_
        refine T_dup (am_dec tX6_peek_0 13 rfl) rfl ?_
        refine T_getfield 5 2 (am_dec tX6_peek_0 14 rfl) flX6_25_5 (show (hfW w hb sp rb rs hb po ro ee hh ss uu vv pp kk rr tt gg aa dd bd ga im)[52]? = some (cO 5 [aR 51, aI (pp 0 1), aI (pp 0 2), aI (pp 0 3), aI (pp 0 4), aI (pp 0 5), po, aI (pp 0 7), aI (pp 0 8), aI (pp 0 9), aI (pp 0 10)]) from (hfW_c hl 52 (by decide))) rfl ?_
        refine T_iconst 1 (am_dec tX6_peek_0 15 rfl) rfl ⟨by decide, by decide⟩ ?_
        refine T_iadd ((pp 0 2) + 1) (am_dec tX6_peek_0 16 rfl) rfl ⟨by omega, by omega⟩ ?_
        refine T_putfield (fs' := [aR 51, aI (pp 0 1), aI ((pp 0 2) + 1), aI (pp 0 3), aI (pp 0 4), aI (pp 0 5), po, aI (pp 0 7), aI (pp 0 8), aI (pp 0 9), aI (pp 0 10)]) 5 2 (am_dec tX6_peek_0 17 rfl) flX6_25_5 rfl rfl rfl trivial (show (hfW w hb sp rb rs hb po ro ee hh ss uu vv pp kk rr tt gg aa dd bd ga im)[52]? = some (cO 5 [aR 51, aI (pp 0 1), aI (pp 0 2), aI (pp 0 3), aI (pp 0 4), aI (pp 0 5), po, aI (pp 0 7), aI (pp 0 8), aI (pp 0 9), aI (pp 0 10)]) from (hfW_c hl 52 (by decide))) (Nat.le_of_ble_eq_true rfl) rfl ?_
        refine am_wE (w2 := hfW w hb sp rb rs hb po ro ee hh ss uu vv (am_put pp 0 2 ((pp 0 2) + 1)) kk rr tt gg aa dd bd ga im) (hf_pp2 hl) ?_
        refine T_goto 0 (am_dec tX6_peek_0 18 rfl) rfl ?_
        have e9 : (w_c_peek_0 ee) pp = .inl (am_put pp 0 2 ((pp 0 2) + 1)) := ((if_neg h8).trans (if_pos h22))
        simp only [am_wh_l e9] at k9
        exact ih (am_put pp 0 2 ((pp 0 2) + 1)) (by show pp 0 1 - (pp 0 2 + 1) < _; omega) ⟨⟨by show 0 ≤ pp 0 2 + 1; omega, by show pp 0 2 + 1 ≤ pp 0 1; omega⟩, vr3, vr4, vr5⟩ k9
def c_peek (ee : am_F) (pp : am_F) : Int × am_F := (let pp0 : am_F := am_wh (w_c_peek_0 ee) 601 pp; (let t46 : Int := (if pp0 0 1 ≤ pp0 0 2 then (-1) else ((ee 1) (pp0 0 2).toNat)); (t46, pp0)))
theorem mc_peek {S : am_S} {d u : Nat} {w : AH} {hb sp rb rs : Nat} {po ro : AV} (hl : 109 ≤ w.length) (hp : hb = 1 ∧ sp = 21 ∨ hb = 21 ∧ sp = 1) (hr : rb = 41 ∧ rs = 46 ∨ rb = 46 ∧ rs = 41) {ee : am_F} {hh : am_F} {ss : am_F} {uu : am_F} {vv : am_F} {pp : am_F} {kk : am_F} {rr : am_F} {tt : am_F} {gg : am_F} {aa : am_F} {dd : am_F} {bd : am_F} {ga : am_F} {im : am_F}  (hP : RdI pp) (hTp : TpI ee)  (hd : 1 ≤ d) : am_Out S zX6_peek d u [aR 52] (hfW w hb sp rb rs hb po ro ee hh ss uu vv pp kk rr tt gg aa dd bd ga im) (.inl (some (aI ((c_peek ee pp).1)))) (hfW w hb sp rb rs hb po ro ee hh ss uu vv ((c_peek ee pp).2) kk rr tt gg aa dd bd ga im) := by
  have key : ∀ Q : AO → AH → Prop, Q (.inl (some (aI ((c_peek ee pp).1)))) (hfW w hb sp rb rs hb po ro ee hh ss uu vv ((c_peek ee pp).2) kk rr tt gg aa dd bd ga im) → am_M S zX6_peek d u [aR 52] (hfW w hb sp rb rs hb po ro ee hh ss uu vv pp kk rr tt gg aa dd bd ga im) Q := by
    intro Q hQ
    refine am_body rfl (by decide +kernel) rfl (am_cats_cons rfl (am_cats_nil)) (Nat.le_of_ble_eq_true rfl) (?_ : am_T _ _ _ _ _ 0 [some (aR 52)] [] (hfW w hb sp rb rs hb po ro ee hh ss uu vv pp kk rr tt gg aa dd bd ga im))
    have hP9 := hP
    obtain ⟨⟨vr1, vr2⟩, vr3, vr4, vr5⟩ := hP9
    refine L_c_peek_0 hl hp hr ee hh ss uu vv kk rr tt gg aa dd bd ga im hTp  (by omega) 601 pp (by show pp 0 1 - pp 0 2 < 601; omega) hP (fun pp0 hpp0 hv0 => ?_)
    have hP0 := hv0
    obtain ⟨⟨wr1, wr2⟩, wr3, wr4, wr5⟩ := hP0
    refine T_aload_n (am_dec tX6_peek_0 19 rfl) rfl ?_
    refine T_getfield 5 2 (am_dec tX6_peek_0 20 rfl) flX6_25_5 (show (hfW w hb sp rb rs hb po ro ee hh ss uu vv pp0 kk rr tt gg aa dd bd ga im)[52]? = some (cO 5 [aR 51, aI (pp0 0 1), aI (pp0 0 2), aI (pp0 0 3), aI (pp0 0 4), aI (pp0 0 5), po, aI (pp0 0 7), aI (pp0 0 8), aI (pp0 0 9), aI (pp0 0 10)]) from (hfW_c hl 52 (by decide))) rfl ?_
    refine T_aload_n (am_dec tX6_peek_0 21 rfl) rfl ?_
    refine T_getfield 5 1 (am_dec tX6_peek_0 22 rfl) flX6_21_5 (show (hfW w hb sp rb rs hb po ro ee hh ss uu vv pp0 kk rr tt gg aa dd bd ga im)[52]? = some (cO 5 [aR 51, aI (pp0 0 1), aI (pp0 0 2), aI (pp0 0 3), aI (pp0 0 4), aI (pp0 0 5), po, aI (pp0 0 7), aI (pp0 0 8), aI (pp0 0 9), aI (pp0 0 10)]) from (hfW_c hl 52 (by decide))) rfl ?_
    have K46 : ∀ (t46 : Int), t46 = (if pp0 0 1 ≤ pp0 0 2 then (-1) else ((ee 1) (pp0 0 2).toNat)) →  am_T S zX6_peek d u Q 62 [none] [aI t46] (hfW w hb sp rb rs hb po ro ee hh ss uu vv pp0 kk rr tt gg aa dd bd ga im) := by
      intro t46 ht46 
      exact T_ireturn (am_dec tX6_peek_0 31 rfl) rfl (am_tr (fun (x9 : Int × am_F) => Q (.inl (some (aI (x9.1)))) (hfW w hb sp rb rs hb po ro ee hh ss uu vv x9.2 kk rr tt gg aa dd bd ga im)) (y := (t46, pp0)) (show (c_peek ee pp) = (t46, pp0) from (by have s9 := hpp0.symm; subst s9; have s9 := ht46.symm; subst s9; exact rfl)) hQ)
    refine T_icmp_ge 61 (am_dec tX6_peek_0 23 rfl) rfl (fun h46 => ?_) (fun h46 => ?_)
    · refine T_iconst (-1) (am_dec tX6_peek_0 30 rfl) rfl ⟨by decide, by decide⟩ ?_
      refine T_weak (ls' := [none]) (am_sub_n am_sub_nil) ?_
      exact K46 _ (if_pos h46).symm 
    · refine T_aload_n (am_dec tX6_peek_0 24 rfl) rfl ?_
      refine T_getfield 5 0 (am_dec tX6_peek_0 25 rfl) flX6_9_5 (show (hfW w hb sp rb rs hb po ro ee hh ss uu vv pp0 kk rr tt gg aa dd bd ga im)[52]? = some (cO 5 [aR 51, aI (pp0 0 1), aI (pp0 0 2), aI (pp0 0 3), aI (pp0 0 4), aI (pp0 0 5), po, aI (pp0 0 7), aI (pp0 0 8), aI (pp0 0 9), aI (pp0 0 10)]) from (hfW_c hl 52 (by decide))) rfl ?_
      refine T_aload_n (am_dec tX6_peek_0 26 rfl) rfl ?_
      refine T_getfield 5 2 (am_dec tX6_peek_0 27 rfl) flX6_25_5 (show (hfW w hb sp rb rs hb po ro ee hh ss uu vv pp0 kk rr tt gg aa dd bd ga im)[52]? = some (cO 5 [aR 51, aI (pp0 0 1), aI (pp0 0 2), aI (pp0 0 3), aI (pp0 0 4), aI (pp0 0 5), po, aI (pp0 0 7), aI (pp0 0 8), aI (pp0 0 9), aI (pp0 0 10)]) from (hfW_c hl 52 (by decide))) rfl ?_
      refine T_ialoadE (x := (ee 1) (pp0 0 2).toNat) (am_dec tX6_peek_0 28 rfl) (show (hfW w hb sp rb rs hb po ro ee hh ss uu vv pp0 kk rr tt gg aa dd bd ga im)[51]? = some (cP 0 600 (ee 1)) from (hfW_c hl 51 (by decide))) (by omega) (by omega) rfl ?_
      refine T_goto 62 (am_dec tX6_peek_0 29 rfl) rfl ?_
      refine T_weak (ls' := [none]) (am_sub_n am_sub_nil) ?_
      exact K46 _ (if_neg h46).symm 
  exact key _ ⟨rfl, rfl⟩
theorem c_peek_x {ee pp : am_F} (q : RdI pp) (t : TpI ee) : RdI (c_peek ee pp).2 ∧ (-1 ≤ (c_peek ee pp).1 ∧ (c_peek ee pp).1 ≤ 255) ∧ ((c_peek ee pp).1 = -1 ∨ (c_peek ee pp).2 0 2 < (c_peek ee pp).2 0 1) ∧ ∀ k j, ¬ (k = 0 ∧ j = 2) → (c_peek ee pp).2 k j = pp k j := by
  have h : RdI (am_wh (w_c_peek_0 ee) 601 pp) ∧ ∀ k j, ¬ (k = 0 ∧ j = 2) → am_wh (w_c_peek_0 ee) 601 pp k j = pp k j := am_wh_iv (P := fun (x : am_F) => RdI x ∧ ∀ k j, ¬ (k = 0 ∧ j = 2) → x k j = pp k j) (fun x y hx hf => by
    unfold w_c_peek_0 at hf
    split at hf
    · cases hf
    · split at hf
      · cases hf
        obtain ⟨⟨⟨q1, q2⟩, q3, q4⟩, q5⟩ := hx
        refine ⟨⟨⟨by show 0 ≤ x 0 2 + 1; omega, by show x 0 2 + 1 ≤ x 0 1; omega⟩, q3, q4⟩, fun k j hk => ?_⟩
        rw [← q5 k j hk]
        unfold am_put am_up
        split
        · rename_i e; subst e
          split
          · rename_i e; exact absurd ⟨rfl, e⟩ hk
          · rfl
        · rfl
      · cases hf) (fun x y hx hf => by
    unfold w_c_peek_0 at hf
    split at hf
    · cases hf; exact hx
    · split at hf
      · cases hf
      · cases hf; exact hx) 601 pp ⟨q, fun _ _ _ => rfl⟩
  refine ⟨h.1, ?_, ?_, h.2⟩
  · unfold c_peek
    dsimp only
    have b := t (am_wh (w_c_peek_0 ee) 601 pp 0 2).toNat
    split <;> omega
  · unfold c_peek
    dsimp only
    split
    · exact Or.inl rfl
    · right; omega
def c_isDigit (sg : Int) : Int := (if sg < 48 then 0 else (if 57 < sg then 0 else 1))
theorem mc_isDigit {S : am_S} {d u : Nat} {w : AH} {hb sp rb rs : Nat} {po ro : AV} (hl : 109 ≤ w.length) (hp : hb = 1 ∧ sp = 21 ∨ hb = 21 ∧ sp = 1) (hr : rb = 41 ∧ rs = 46 ∨ rb = 46 ∧ rs = 41) {ee : am_F} {hh : am_F} {ss : am_F} {uu : am_F} {vv : am_F} {pp : am_F} {kk : am_F} {rr : am_F} {tt : am_F} {gg : am_F} {aa : am_F} {dd : am_F} {bd : am_F} {ga : am_F} {im : am_F} (sg : Int)   (hd : 1 ≤ d) : am_Out S zX6_isDigit d u [aI sg] (hfW w hb sp rb rs hb po ro ee hh ss uu vv pp kk rr tt gg aa dd bd ga im) (.inl (some (aI (c_isDigit sg)))) (hfW w hb sp rb rs hb po ro ee hh ss uu vv pp kk rr tt gg aa dd bd ga im) := by
  have key : ∀ Q : AO → AH → Prop, Q (.inl (some (aI (c_isDigit sg)))) (hfW w hb sp rb rs hb po ro ee hh ss uu vv pp kk rr tt gg aa dd bd ga im) → am_M S zX6_isDigit d u [aI sg] (hfW w hb sp rb rs hb po ro ee hh ss uu vv pp kk rr tt gg aa dd bd ga im) Q := by
    intro Q hQ
    refine am_body rfl (by decide +kernel) rfl (am_cats_cons rfl (am_cats_nil)) (Nat.le_of_ble_eq_true rfl) (?_ : am_T _ _ _ _ _ 0 [some (aI sg)] [] (hfW w hb sp rb rs hb po ro ee hh ss uu vv pp kk rr tt gg aa dd bd ga im))
    refine T_iload_n (am_dec tX6_isDigit_0 0 rfl) rfl ?_
    refine T_bipush 48 (am_dec tX6_isDigit_0 1 rfl) rfl ⟨by decide, by decide⟩ ?_
    have K3 : ∀ (t3 : Int), t3 = (if sg < 48 then 0 else (if 57 < sg then 0 else 1)) →  am_T S zX6_isDigit d u Q 17 [none] [aI t3] (hfW w hb sp rb rs hb po ro ee hh ss uu vv pp kk rr tt gg aa dd bd ga im) := by
      intro t3 ht3 
      have hbt3 : t3 = 0 ∨ t3 = 1 := by
        rw [ht3]
        try dsimp only
        repeat' split
        all_goals first | exact Or.inl rfl | exact Or.inr rfl | apply c_guardsAll_b | apply c_isRight54_b | apply c_isRight64_b | apply c_areRight_b | apply c_areRightIn_b | apply c_fine_b | omega
      exact T_zreturn (am_dec tX6_isDigit_0 9 rfl) rfl (by first | exact Or.inl rfl | exact Or.inr rfl | omega) (am_tr (fun (x9 : Int) => Q (.inl (some (aI (x9)))) (hfW w hb sp rb rs hb po ro ee hh ss uu vv pp kk rr tt gg aa dd bd ga im)) (y := t3) (show (c_isDigit sg) = t3 from (by have s9 := ht3.symm; subst s9; exact rfl)) hQ)
    refine T_icmp_lt 16 (am_dec tX6_isDigit_0 2 rfl) rfl (fun h3 => ?_) (fun h3 => ?_)
    · refine T_iconst 0 (am_dec tX6_isDigit_0 8 rfl) rfl ⟨by decide, by decide⟩ ?_
      refine T_weak (ls' := [none]) (am_sub_n am_sub_nil) ?_
      exact K3 _ (if_pos h3).symm 
    · refine T_iload_n (am_dec tX6_isDigit_0 3 rfl) rfl ?_
      refine T_bipush 57 (am_dec tX6_isDigit_0 4 rfl) rfl ⟨by decide, by decide⟩ ?_
      have K9 : ∀ (t9 : Int), t9 = (if 57 < sg then 0 else 1) →  am_T S zX6_isDigit d u Q 17 [none] [aI t9] (hfW w hb sp rb rs hb po ro ee hh ss uu vv pp kk rr tt gg aa dd bd ga im) := by
        intro t9 ht9 
        have hbt9 : t9 = 0 ∨ t9 = 1 := by
          rw [ht9]
          try dsimp only
          repeat' split
          all_goals first | exact Or.inl rfl | exact Or.inr rfl | apply c_guardsAll_b | apply c_isRight54_b | apply c_isRight64_b | apply c_areRight_b | apply c_areRightIn_b | apply c_fine_b | omega
        exact K3 _ (by have s9 := ht9.symm; subst s9; exact (if_neg h3).symm) 
      refine T_icmp_gt 16 (am_dec tX6_isDigit_0 5 rfl) rfl (fun h9 => ?_) (fun h9 => ?_)
      · refine T_iconst 0 (am_dec tX6_isDigit_0 8 rfl) rfl ⟨by decide, by decide⟩ ?_
        refine T_weak (ls' := [none]) (am_sub_n am_sub_nil) ?_
        exact K9 _ (if_pos h9).symm 
      · refine T_iconst 1 (am_dec tX6_isDigit_0 6 rfl) rfl ⟨by decide, by decide⟩ ?_
        refine T_goto 17 (am_dec tX6_isDigit_0 7 rfl) rfl ?_
        refine T_weak (ls' := [none]) (am_sub_n am_sub_nil) ?_
        exact K9 _ (if_neg h9).symm 
  exact key _ ⟨rfl, rfl⟩
theorem c_isDigit_b (sg : Int) : (c_isDigit sg) = 0 ∨ (c_isDigit sg) = 1 := by
  unfold c_isDigit
  try dsimp only
  repeat' split
  all_goals first | exact Or.inl rfl | exact Or.inr rfl | apply c_guardsAll_b | apply c_isRight54_b | apply c_isRight64_b | apply c_areRight_b | apply c_areRightIn_b | apply c_fine_b
theorem c_isDigit_x (sg : Int) : c_isDigit sg = 0 ∧ ¬ (48 ≤ sg ∧ sg ≤ 57) ∨ c_isDigit sg = 1 ∧ 48 ≤ sg ∧ sg ≤ 57 := by
  unfold c_isDigit
  repeat' split
  all_goals omega
def c_isLetter (sg : Int) : Int := (if sg < 97 then 0 else (if 122 < sg then 0 else 1))
theorem mc_isLetter {S : am_S} {d u : Nat} {w : AH} {hb sp rb rs : Nat} {po ro : AV} (hl : 109 ≤ w.length) (hp : hb = 1 ∧ sp = 21 ∨ hb = 21 ∧ sp = 1) (hr : rb = 41 ∧ rs = 46 ∨ rb = 46 ∧ rs = 41) {ee : am_F} {hh : am_F} {ss : am_F} {uu : am_F} {vv : am_F} {pp : am_F} {kk : am_F} {rr : am_F} {tt : am_F} {gg : am_F} {aa : am_F} {dd : am_F} {bd : am_F} {ga : am_F} {im : am_F} (sg : Int)   (hd : 1 ≤ d) : am_Out S zX6_isLetter d u [aI sg] (hfW w hb sp rb rs hb po ro ee hh ss uu vv pp kk rr tt gg aa dd bd ga im) (.inl (some (aI (c_isLetter sg)))) (hfW w hb sp rb rs hb po ro ee hh ss uu vv pp kk rr tt gg aa dd bd ga im) := by
  have key : ∀ Q : AO → AH → Prop, Q (.inl (some (aI (c_isLetter sg)))) (hfW w hb sp rb rs hb po ro ee hh ss uu vv pp kk rr tt gg aa dd bd ga im) → am_M S zX6_isLetter d u [aI sg] (hfW w hb sp rb rs hb po ro ee hh ss uu vv pp kk rr tt gg aa dd bd ga im) Q := by
    intro Q hQ
    refine am_body rfl (by decide +kernel) rfl (am_cats_cons rfl (am_cats_nil)) (Nat.le_of_ble_eq_true rfl) (?_ : am_T _ _ _ _ _ 0 [some (aI sg)] [] (hfW w hb sp rb rs hb po ro ee hh ss uu vv pp kk rr tt gg aa dd bd ga im))
    refine T_iload_n (am_dec tX6_isLetter_0 0 rfl) rfl ?_
    refine T_bipush 97 (am_dec tX6_isLetter_0 1 rfl) rfl ⟨by decide, by decide⟩ ?_
    have K3 : ∀ (t3 : Int), t3 = (if sg < 97 then 0 else (if 122 < sg then 0 else 1)) →  am_T S zX6_isLetter d u Q 17 [none] [aI t3] (hfW w hb sp rb rs hb po ro ee hh ss uu vv pp kk rr tt gg aa dd bd ga im) := by
      intro t3 ht3 
      have hbt3 : t3 = 0 ∨ t3 = 1 := by
        rw [ht3]
        try dsimp only
        repeat' split
        all_goals first | exact Or.inl rfl | exact Or.inr rfl | apply c_guardsAll_b | apply c_isRight54_b | apply c_isRight64_b | apply c_areRight_b | apply c_areRightIn_b | apply c_fine_b | apply c_isDigit_b | omega
      exact T_zreturn (am_dec tX6_isLetter_0 9 rfl) rfl (by first | exact Or.inl rfl | exact Or.inr rfl | omega) (am_tr (fun (x9 : Int) => Q (.inl (some (aI (x9)))) (hfW w hb sp rb rs hb po ro ee hh ss uu vv pp kk rr tt gg aa dd bd ga im)) (y := t3) (show (c_isLetter sg) = t3 from (by have s9 := ht3.symm; subst s9; exact rfl)) hQ)
    refine T_icmp_lt 16 (am_dec tX6_isLetter_0 2 rfl) rfl (fun h3 => ?_) (fun h3 => ?_)
    · refine T_iconst 0 (am_dec tX6_isLetter_0 8 rfl) rfl ⟨by decide, by decide⟩ ?_
      refine T_weak (ls' := [none]) (am_sub_n am_sub_nil) ?_
      exact K3 _ (if_pos h3).symm 
    · refine T_iload_n (am_dec tX6_isLetter_0 3 rfl) rfl ?_
      refine T_bipush 122 (am_dec tX6_isLetter_0 4 rfl) rfl ⟨by decide, by decide⟩ ?_
      have K9 : ∀ (t9 : Int), t9 = (if 122 < sg then 0 else 1) →  am_T S zX6_isLetter d u Q 17 [none] [aI t9] (hfW w hb sp rb rs hb po ro ee hh ss uu vv pp kk rr tt gg aa dd bd ga im) := by
        intro t9 ht9 
        have hbt9 : t9 = 0 ∨ t9 = 1 := by
          rw [ht9]
          try dsimp only
          repeat' split
          all_goals first | exact Or.inl rfl | exact Or.inr rfl | apply c_guardsAll_b | apply c_isRight54_b | apply c_isRight64_b | apply c_areRight_b | apply c_areRightIn_b | apply c_fine_b | apply c_isDigit_b | omega
        exact K3 _ (by have s9 := ht9.symm; subst s9; exact (if_neg h3).symm) 
      refine T_icmp_gt 16 (am_dec tX6_isLetter_0 5 rfl) rfl (fun h9 => ?_) (fun h9 => ?_)
      · refine T_iconst 0 (am_dec tX6_isLetter_0 8 rfl) rfl ⟨by decide, by decide⟩ ?_
        refine T_weak (ls' := [none]) (am_sub_n am_sub_nil) ?_
        exact K9 _ (if_pos h9).symm 
      · refine T_iconst 1 (am_dec tX6_isLetter_0 6 rfl) rfl ⟨by decide, by decide⟩ ?_
        refine T_goto 17 (am_dec tX6_isLetter_0 7 rfl) rfl ?_
        refine T_weak (ls' := [none]) (am_sub_n am_sub_nil) ?_
        exact K9 _ (if_neg h9).symm 
  exact key _ ⟨rfl, rfl⟩
theorem c_isLetter_b (sg : Int) : (c_isLetter sg) = 0 ∨ (c_isLetter sg) = 1 := by
  unfold c_isLetter
  try dsimp only
  repeat' split
  all_goals first | exact Or.inl rfl | exact Or.inr rfl | apply c_guardsAll_b | apply c_isRight54_b | apply c_isRight64_b | apply c_areRight_b | apply c_areRightIn_b | apply c_fine_b | apply c_isDigit_b
theorem c_isLetter_x (sg : Int) : c_isLetter sg = 0 ∧ ¬ (97 ≤ sg ∧ sg ≤ 122) ∨ c_isLetter sg = 1 ∧ 97 ≤ sg ∧ sg ≤ 122 := by
  unfold c_isLetter
  repeat' split
  all_goals omega
theorem c_wrong_I {pp : am_F} (q : RdI pp) (wh pl : Int) : RdI (c_wrong pp wh pl) := by
  unfold c_wrong
  split
  · exact q
  · exact q
theorem c_byteAt_b {ee pp : am_F} (t : TpI ee) (pl : Int) : -1 ≤ c_byteAt ee pp pl ∧ c_byteAt ee pp pl ≤ 255 := by
  unfold c_byteAt
  have b := t pl.toNat
  repeat' split
  all_goals omega
def w_c_number_43 (ee : am_F) (x9 : Int × am_F) : (Int × am_F) ⊕ (Int × am_F) := let v : Int := x9.1; let pp : am_F := x9.2; (if pp 0 1 ≤ pp 0 2 then .inr (v, pp) else (let b59 : Int := (c_byteAt ee pp (pp 0 2)); (let z62 : Int := (c_isDigit b59); (if z62 = 0 then .inr (v, pp) else (let b80 : Int := (c_byteAt ee pp (pp 0 2)); (let m87 : Int := (if ((v * 10) + b80) - 48 < 100000 then ((v * 10) + b80) - 48 else 100000); .inl (m87, (am_put pp 0 2 ((pp 0 2) + 1)))))))))
theorem L_c_number_43 {S : am_S} {d u : Nat} {Q : AO → AH → Prop} {w : AH} {hb sp rb rs : Nat} {po ro : AV} (hl : 109 ≤ w.length) (hp : hb = 1 ∧ sp = 21 ∨ hb = 21 ∧ sp = 1) (hr : rb = 41 ∧ rs = 46 ∨ rb = 46 ∧ rs = 41) (ee : am_F) (hh : am_F) (ss : am_F) (uu : am_F) (vv : am_F) (kk : am_F) (rr : am_F) (tt : am_F) (gg : am_F) (aa : am_F) (dd : am_F) (bd : am_F) (ga : am_F) (im : am_F) (lo : Int) (hi : Int) (hTp : TpI ee)  (hd : 2 ≤ d) : ∀ (n : Nat) (v : Int) (pp : am_F), pp 0 1 - pp 0 2 < n → RdI pp ∧ 0 ≤ v ∧ v ≤ 100000 → (∀ (v' : Int) (pp' : am_F), v' = (am_wh (w_c_number_43 ee) n (v, pp)).1 → pp' = (am_wh (w_c_number_43 ee) n (v, pp)).2 → RdI pp' ∧ 0 ≤ v' ∧ v' ≤ 100000 → am_T S zX6_number d u Q 105 [some (aR 52), some (aI lo), some (aI hi), none, some (aI v')] [] (hfW w hb sp rb rs hb po ro ee hh ss uu vv pp' kk rr tt gg aa dd bd ga im)) → am_T S zX6_number d u Q 43 [some (aR 52), some (aI lo), some (aI hi), none, some (aI v)] [] (hfW w hb sp rb rs hb po ro ee hh ss uu vv pp kk rr tt gg aa dd bd ga im) := by
  intro n
  induction n with
  | zero =>
    intro v pp hm9 hinv k9
    have hP := hinv.1
    have hP9 := hP
    obtain ⟨⟨vr1, vr2⟩, vr3, vr4, vr5⟩ := hP9
    exfalso; omega
  | succ n ih =>
    intro v pp hm9 hinv k9
    have hP := hinv.1
    have hP9 := hP
    obtain ⟨⟨vr1, vr2⟩, vr3, vr4, vr5⟩ := hP9
    refine T_aload_n (am_dec tX6_number_0 24 rfl) rfl ?_
    refine T_getfield 5 2 (am_dec tX6_number_0 25 rfl) flX6_25_5 (show (hfW w hb sp rb rs hb po ro ee hh ss uu vv pp kk rr tt gg aa dd bd ga im)[52]? = some (cO 5 [aR 51, aI (pp 0 1), aI (pp 0 2), aI (pp 0 3), aI (pp 0 4), aI (pp 0 5), po, aI (pp 0 7), aI (pp 0 8), aI (pp 0 9), aI (pp 0 10)]) from (hfW_c hl 52 (by decide))) rfl ?_
    refine T_aload_n (am_dec tX6_number_0 26 rfl) rfl ?_
    refine T_getfield 5 1 (am_dec tX6_number_0 27 rfl) flX6_21_5 (show (hfW w hb sp rb rs hb po ro ee hh ss uu vv pp kk rr tt gg aa dd bd ga im)[52]? = some (cO 5 [aR 51, aI (pp 0 1), aI (pp 0 2), aI (pp 0 3), aI (pp 0 4), aI (pp 0 5), po, aI (pp 0 7), aI (pp 0 8), aI (pp 0 9), aI (pp 0 10)]) from (hfW_c hl 52 (by decide))) rfl ?_
    refine T_icmp_ge 105 (am_dec tX6_number_0 28 rfl) rfl (fun h51 => ?_) (fun h51 => ?_)
    · have e9 : (w_c_number_43 ee) (v, pp) = .inr (v, pp) := (if_pos h51)
      simp only [am_wh_r e9] at k9
      exact k9 _ _ rfl rfl hinv
    · refine T_aload_n (am_dec tX6_number_0 29 rfl) rfl ?_
      refine T_aload_n (am_dec tX6_number_0 30 rfl) rfl ?_
      refine T_getfield 5 2 (am_dec tX6_number_0 31 rfl) flX6_25_5 (show (hfW w hb sp rb rs hb po ro ee hh ss uu vv pp kk rr tt gg aa dd bd ga im)[52]? = some (cO 5 [aR 51, aI (pp 0 1), aI (pp 0 2), aI (pp 0 3), aI (pp 0 4), aI (pp 0 5), po, aI (pp 0 7), aI (pp 0 8), aI (pp 0 9), aI (pp 0 10)]) from (hfW_c hl 52 (by decide))) rfl ?_
      refine T_callU (as := [aI (pp 0 2)]) rfl (am_dec tX6_number_0 32 rfl) lkX6_53_X5 (show (hfW w hb sp rb rs hb po ro ee hh ss uu vv pp kk rr tt gg aa dd bd ga im)[52]? = some (cO 5 [aR 51, aI (pp 0 1), aI (pp 0 2), aI (pp 0 3), aI (pp 0 4), aI (pp 0 5), po, aI (pp 0 7), aI (pp 0 8), aI (pp 0 9), aI (pp 0 10)]) from (hfW_c hl 52 (by decide))) rfl rfl (Nat.le_of_ble_eq_true rfl) (by omega) (mc_byteAt (d := d - 1) hl hp hr (pp 0 2)  (by omega) hTp (by omega)) (fun _ => ?_)
      refine T_nm (fun b59 hb59 => ?_)
      have hq59 := c_byteAt_b (pp := pp) hTp (pp 0 2)
      rw [← hb59] at hq59
      refine T_callS (as := [aI b59]) rfl (am_dec tX6_number_0 33 rfl) lkX6_45 rfl (Nat.le_of_ble_eq_true rfl) (by omega) (mc_isDigit (d := d - 1) hl hp hr b59   (by omega)) (fun _ => ?_)
      refine T_nm (fun z62 hz62 => ?_)
      have hb62 := c_isDigit_x b59
      rw [← hz62] at hb62
      refine T_if_eq 105 (am_dec tX6_number_0 34 rfl) rfl (fun h65 => ?_) (fun h65 => ?_)
      · have e9 : (w_c_number_43 ee) (v, pp) = .inr (v, pp) := (by have s9 := hb59.symm; subst s9; have s9 := hz62.symm; subst s9; exact ((if_neg h51).trans (if_pos h65)))
        simp only [am_wh_r e9] at k9
        exact k9 _ _ rfl rfl hinv
      · refine T_ldc 100000 (am_dec tX6_number_0 35 rfl) (am_m4 168 rfl rfl) ⟨by decide, by decide⟩ ?_
        refine T_iload (am_dec tX6_number_0 36 rfl) rfl ?_
        refine T_bipush 10 (am_dec tX6_number_0 37 rfl) rfl ⟨by decide, by decide⟩ ?_
        refine T_imul (v * 10) (am_dec tX6_number_0 38 rfl) rfl ⟨by omega, by omega⟩ ?_
        refine T_aload_n (am_dec tX6_number_0 39 rfl) rfl ?_
        refine T_aload_n (am_dec tX6_number_1 0 rfl) rfl ?_
        refine T_getfield 5 2 (am_dec tX6_number_1 1 rfl) flX6_25_5 (show (hfW w hb sp rb rs hb po ro ee hh ss uu vv pp kk rr tt gg aa dd bd ga im)[52]? = some (cO 5 [aR 51, aI (pp 0 1), aI (pp 0 2), aI (pp 0 3), aI (pp 0 4), aI (pp 0 5), po, aI (pp 0 7), aI (pp 0 8), aI (pp 0 9), aI (pp 0 10)]) from (hfW_c hl 52 (by decide))) rfl ?_
        refine T_callU (as := [aI (pp 0 2)]) rfl (am_dec tX6_number_1 2 rfl) lkX6_53_X5 (show (hfW w hb sp rb rs hb po ro ee hh ss uu vv pp kk rr tt gg aa dd bd ga im)[52]? = some (cO 5 [aR 51, aI (pp 0 1), aI (pp 0 2), aI (pp 0 3), aI (pp 0 4), aI (pp 0 5), po, aI (pp 0 7), aI (pp 0 8), aI (pp 0 9), aI (pp 0 10)]) from (hfW_c hl 52 (by decide))) rfl rfl (Nat.le_of_ble_eq_true rfl) (by omega) (mc_byteAt (d := d - 1) hl hp hr (pp 0 2)  (by omega) hTp (by omega)) (fun _ => ?_)
        refine T_nm (fun b80 hb80 => ?_)
        have hq80 := c_byteAt_b (pp := pp) hTp (pp 0 2)
        rw [← hb80] at hq80
        refine T_iadd ((v * 10) + b80) (am_dec tX6_number_1 3 rfl) rfl ⟨by omega, by omega⟩ ?_
        refine T_bipush 48 (am_dec tX6_number_1 4 rfl) rfl ⟨by decide, by decide⟩ ?_
        refine T_isub (((v * 10) + b80) - 48) (am_dec tX6_number_1 5 rfl) rfl ⟨by omega, by omega⟩ ?_
        refine T_mmin (am_dec tX6_number_1 6 rfl) lkX6_15 (Nat.le_of_ble_eq_true rfl) (by omega) ?_
        obtain ⟨m87, hm87⟩ : ∃ x9 : Int, x9 = (if ((v * 10) + b80) - 48 < 100000 then ((v * 10) + b80) - 48 else 100000) := ⟨_, rfl⟩
        rw [← hm87]
        refine T_istore (ls' := [some (aR 52), some (aI lo), some (aI hi), none, some (aI m87)]) (am_dec tX6_number_1 7 rfl) (by decide) rfl ?_
        refine T_aload_n (am_dec tX6_number_1 8 rfl) rfl ?_
        refine T_dup (am_dec tX6_number_1 9 rfl) rfl ?_
        refine T_getfield 5 2 (am_dec tX6_number_1 10 rfl) flX6_25_5 (show (hfW w hb sp rb rs hb po ro ee hh ss uu vv pp kk rr tt gg aa dd bd ga im)[52]? = some (cO 5 [aR 51, aI (pp 0 1), aI (pp 0 2), aI (pp 0 3), aI (pp 0 4), aI (pp 0 5), po, aI (pp 0 7), aI (pp 0 8), aI (pp 0 9), aI (pp 0 10)]) from (hfW_c hl 52 (by decide))) rfl ?_
        refine T_iconst 1 (am_dec tX6_number_1 11 rfl) rfl ⟨by decide, by decide⟩ ?_
        refine T_iadd ((pp 0 2) + 1) (am_dec tX6_number_1 12 rfl) rfl ⟨by omega, by omega⟩ ?_
        refine T_putfield (fs' := [aR 51, aI (pp 0 1), aI ((pp 0 2) + 1), aI (pp 0 3), aI (pp 0 4), aI (pp 0 5), po, aI (pp 0 7), aI (pp 0 8), aI (pp 0 9), aI (pp 0 10)]) 5 2 (am_dec tX6_number_1 13 rfl) flX6_25_5 rfl rfl rfl trivial (show (hfW w hb sp rb rs hb po ro ee hh ss uu vv pp kk rr tt gg aa dd bd ga im)[52]? = some (cO 5 [aR 51, aI (pp 0 1), aI (pp 0 2), aI (pp 0 3), aI (pp 0 4), aI (pp 0 5), po, aI (pp 0 7), aI (pp 0 8), aI (pp 0 9), aI (pp 0 10)]) from (hfW_c hl 52 (by decide))) (Nat.le_of_ble_eq_true rfl) rfl ?_
        refine am_wE (w2 := hfW w hb sp rb rs hb po ro ee hh ss uu vv (am_put pp 0 2 ((pp 0 2) + 1)) kk rr tt gg aa dd bd ga im) (hf_pp2 hl) ?_
        refine T_goto 43 (am_dec tX6_number_1 14 rfl) rfl ?_
        have e9 : (w_c_number_43 ee) (v, pp) = .inl (m87, (am_put pp 0 2 ((pp 0 2) + 1))) := (by have s9 := hb59.symm; subst s9; have s9 := hz62.symm; subst s9; have s9 := hb80.symm; subst s9; have s9 := hm87.symm; subst s9; exact ((if_neg h51).trans (if_neg h65)))
        simp only [am_wh_l e9] at k9
        exact ih m87 (am_put pp 0 2 ((pp 0 2) + 1)) (by show pp 0 1 - (pp 0 2 + 1) < _; omega) ⟨⟨⟨by show 0 ≤ pp 0 2 + 1; omega, by show pp 0 2 + 1 ≤ pp 0 1; omega⟩, vr3, vr4, vr5⟩, by omega, by omega⟩ k9
def c_number (ee : am_F) (pp : am_F) (lo : Int) (hi : Int) : Int × am_F := (let z1 : Int := (c_fine pp); (if z1 = 0 then (lo, pp) else (let u10 : Int × am_F := c_peek ee pp; (let z23 : Int := (c_isDigit ((u10).1)); (if z23 = 0 then (let pp35 : am_F := c_wrong (am_put (u10).2 0 3 ((u10).2 0 2)) 1 ((u10).2 0 2); (lo, pp35)) else (let v_43 : Int := (am_wh (w_c_number_43 ee) 601 (0, (am_put (u10).2 0 3 ((u10).2 0 2)))).1; (let pp43 : am_F := (am_wh (w_c_number_43 ee) 601 (0, (am_put (u10).2 0 3 ((u10).2 0 2)))).2; (if v_43 < lo then (let pp123 : am_F := c_wrong pp43 2 (pp43 0 3); (lo, pp123)) else (if v_43 ≤ hi then (v_43, pp43) else (let pp123 : am_F := c_wrong pp43 2 (pp43 0 3); (lo, pp123)))))))))))
theorem mc_number {S : am_S} {d u : Nat} {w : AH} {hb sp rb rs : Nat} {po ro : AV} (hl : 109 ≤ w.length) (hp : hb = 1 ∧ sp = 21 ∨ hb = 21 ∧ sp = 1) (hr : rb = 41 ∧ rs = 46 ∨ rb = 46 ∧ rs = 41) {ee : am_F} {hh : am_F} {ss : am_F} {uu : am_F} {vv : am_F} {pp : am_F} {kk : am_F} {rr : am_F} {tt : am_F} {gg : am_F} {aa : am_F} {dd : am_F} {bd : am_F} {ga : am_F} {im : am_F} (lo : Int) (hi : Int) (hP : RdI pp) (hTp : TpI ee)  (hd : 2 ≤ d) : am_Out S zX6_number d u [aR 52, aI lo, aI hi] (hfW w hb sp rb rs hb po ro ee hh ss uu vv pp kk rr tt gg aa dd bd ga im) (.inl (some (aI ((c_number ee pp lo hi).1)))) (hfW w hb sp rb rs hb po ro ee hh ss uu vv ((c_number ee pp lo hi).2) kk rr tt gg aa dd bd ga im) := by
  have key : ∀ Q : AO → AH → Prop, Q (.inl (some (aI ((c_number ee pp lo hi).1)))) (hfW w hb sp rb rs hb po ro ee hh ss uu vv ((c_number ee pp lo hi).2) kk rr tt gg aa dd bd ga im) → am_M S zX6_number d u [aR 52, aI lo, aI hi] (hfW w hb sp rb rs hb po ro ee hh ss uu vv pp kk rr tt gg aa dd bd ga im) Q := by
    intro Q hQ
    refine am_body rfl (by decide +kernel) rfl (am_cats_cons rfl ( am_cats_cons rfl ( am_cats_cons rfl (am_cats_nil)))) (Nat.le_of_ble_eq_true rfl) (?_ : am_T _ _ _ _ _ 0 [some (aR 52), some (aI lo), some (aI hi), none, none] [] (hfW w hb sp rb rs hb po ro ee hh ss uu vv pp kk rr tt gg aa dd bd ga im))
    have hP9 := hP
    obtain ⟨⟨vr1, vr2⟩, vr3, vr4, vr5⟩ := hP9
    refine T_aload_n (am_dec tX6_number_0 0 rfl) rfl ?_
    refine T_callU (as := []) rfl (am_dec tX6_number_0 1 rfl) lkX6_37_X5 (show (hfW w hb sp rb rs hb po ro ee hh ss uu vv pp kk rr tt gg aa dd bd ga im)[52]? = some (cO 5 [aR 51, aI (pp 0 1), aI (pp 0 2), aI (pp 0 3), aI (pp 0 4), aI (pp 0 5), po, aI (pp 0 7), aI (pp 0 8), aI (pp 0 9), aI (pp 0 10)]) from (hfW_c hl 52 (by decide))) rfl rfl (Nat.le_of_ble_eq_true rfl) (by omega) (mc_fine (d := d - 1) hl hp hr    (by omega)) (fun _ => ?_)
    refine T_nm (fun z1 hz1 => ?_)
    have hb1 := c_fine_b pp
    rw [← hz1] at hb1
    refine T_if_ne 9 (am_dec tX6_number_0 2 rfl) rfl (fun h4 => ?_) (fun h4 => ?_)
    · refine T_aload_n (am_dec tX6_number_0 5 rfl) rfl ?_
      refine T_callU (as := []) rfl (am_dec tX6_number_0 6 rfl) lkX6_41_X5 (show (hfW w hb sp rb rs hb po ro ee hh ss uu vv pp kk rr tt gg aa dd bd ga im)[52]? = some (cO 5 [aR 51, aI (pp 0 1), aI (pp 0 2), aI (pp 0 3), aI (pp 0 4), aI (pp 0 5), po, aI (pp 0 7), aI (pp 0 8), aI (pp 0 9), aI (pp 0 10)]) from (hfW_c hl 52 (by decide))) rfl rfl (Nat.le_of_ble_eq_true rfl) (by omega) (mc_peek (d := d - 1) hl hp hr   (by omega) hTp (by omega)) (fun _ => ?_)
      obtain ⟨u10, hu10⟩ : ∃ x9, x9 = c_peek ee pp := ⟨_, rfl⟩
      rw [← hu10]
      obtain ⟨hIu10, hvu10, hwu10, hfu10⟩ : RdI u10.2 ∧ (-1 ≤ u10.1 ∧ u10.1 ≤ 255) ∧ (u10.1 = -1 ∨ u10.2 0 2 < u10.2 0 1) ∧ ∀ k j, ¬ (k = 0 ∧ j = 2) → u10.2 k j = pp k j := by rw [hu10]; exact c_peek_x hP hTp
      have hgu10 := hIu10
      obtain ⟨⟨yr101, yr102⟩, yr103, yr104, yr105⟩ := hgu10
      refine T_istore_n (ls' := [some (aR 52), some (aI lo), some (aI hi), some (aI ((u10).1)), none]) (am_dec tX6_number_0 7 rfl) (by decide) rfl ?_
      refine T_aload_n (am_dec tX6_number_0 8 rfl) rfl ?_
      refine T_aload_n (am_dec tX6_number_0 9 rfl) rfl ?_
      refine T_getfield 5 2 (am_dec tX6_number_0 10 rfl) flX6_25_5 (show (hfW w hb sp rb rs hb po ro ee hh ss uu vv ((u10).2) kk rr tt gg aa dd bd ga im)[52]? = some (cO 5 [aR 51, aI ((u10).2 0 1), aI ((u10).2 0 2), aI ((u10).2 0 3), aI ((u10).2 0 4), aI ((u10).2 0 5), po, aI ((u10).2 0 7), aI ((u10).2 0 8), aI ((u10).2 0 9), aI ((u10).2 0 10)]) from (hfW_c hl 52 (by decide))) rfl ?_
      refine T_putfield (fs' := [aR 51, aI ((u10).2 0 1), aI ((u10).2 0 2), aI ((u10).2 0 2), aI ((u10).2 0 4), aI ((u10).2 0 5), po, aI ((u10).2 0 7), aI ((u10).2 0 8), aI ((u10).2 0 9), aI ((u10).2 0 10)]) 5 3 (am_dec tX6_number_0 11 rfl) flX6_28_5 rfl rfl rfl trivial (show (hfW w hb sp rb rs hb po ro ee hh ss uu vv ((u10).2) kk rr tt gg aa dd bd ga im)[52]? = some (cO 5 [aR 51, aI ((u10).2 0 1), aI ((u10).2 0 2), aI ((u10).2 0 3), aI ((u10).2 0 4), aI ((u10).2 0 5), po, aI ((u10).2 0 7), aI ((u10).2 0 8), aI ((u10).2 0 9), aI ((u10).2 0 10)]) from (hfW_c hl 52 (by decide))) (Nat.le_of_ble_eq_true rfl) rfl ?_
      refine am_wE (w2 := hfW w hb sp rb rs hb po ro ee hh ss uu vv (am_put (u10).2 0 3 ((u10).2 0 2)) kk rr tt gg aa dd bd ga im) (hf_pp3 hl) ?_
      refine T_iload_n (am_dec tX6_number_0 12 rfl) rfl ?_
      refine T_callS (as := [aI ((u10).1)]) rfl (am_dec tX6_number_0 13 rfl) lkX6_45 rfl (Nat.le_of_ble_eq_true rfl) (by omega) (mc_isDigit (d := d - 1) hl hp hr ((u10).1)   (by omega)) (fun _ => ?_)
      refine T_nm (fun z23 hz23 => ?_)
      have hb23 := c_isDigit_x ((u10).1)
      rw [← hz23] at hb23
      refine T_if_ne 40 (am_dec tX6_number_0 14 rfl) rfl (fun h26 => ?_) (fun h26 => ?_)
      · refine T_iconst 0 (am_dec tX6_number_0 22 rfl) rfl ⟨by decide, by decide⟩ ?_
        refine T_istore (ls' := [some (aR 52), some (aI lo), some (aI hi), some (aI ((u10).1)), some (aI 0)]) (am_dec tX6_number_0 23 rfl) (by decide) rfl ?_
        refine T_weak (ls' := [some (aR 52), some (aI lo), some (aI hi), none, some (aI 0)]) (am_sub_s (am_sub_s (am_sub_s (am_sub_n (am_sub_s am_sub_nil))))) ?_
        refine L_c_number_43 hl hp hr ee hh ss uu vv kk rr tt gg aa dd bd ga im lo hi hTp  (by omega) 601 0 (am_put (u10).2 0 3 ((u10).2 0 2)) (by show ((u10).2) 0 1 - ((u10).2) 0 2 < 601; omega) ⟨(RdI_3 hIu10), by omega, by omega⟩ (fun v_43 pp43 hv_43 hpp43 hv43 => ?_)
        refine T_iload (am_dec tX6_number_1 15 rfl) rfl ?_
        refine T_iload_n (am_dec tX6_number_1 16 rfl) rfl ?_
        refine T_icmp_lt 117 (am_dec tX6_number_1 17 rfl) rfl (fun h108 => ?_) (fun h108 => ?_)
        · refine T_aload_n (am_dec tX6_number_1 21 rfl) rfl ?_
          refine T_iconst 2 (am_dec tX6_number_1 22 rfl) rfl ⟨by decide, by decide⟩ ?_
          refine T_aload_n (am_dec tX6_number_1 23 rfl) rfl ?_
          refine T_getfield 5 3 (am_dec tX6_number_1 24 rfl) flX6_28_5 (show (hfW w hb sp rb rs hb po ro ee hh ss uu vv pp43 kk rr tt gg aa dd bd ga im)[52]? = some (cO 5 [aR 51, aI (pp43 0 1), aI (pp43 0 2), aI (pp43 0 3), aI (pp43 0 4), aI (pp43 0 5), po, aI (pp43 0 7), aI (pp43 0 8), aI (pp43 0 9), aI (pp43 0 10)]) from (hfW_c hl 52 (by decide))) rfl ?_
          refine T_callU (as := [aI 2, aI (pp43 0 3)]) rfl (am_dec tX6_number_1 25 rfl) lkX6_49_X5 (show (hfW w hb sp rb rs hb po ro ee hh ss uu vv pp43 kk rr tt gg aa dd bd ga im)[52]? = some (cO 5 [aR 51, aI (pp43 0 1), aI (pp43 0 2), aI (pp43 0 3), aI (pp43 0 4), aI (pp43 0 5), po, aI (pp43 0 7), aI (pp43 0 8), aI (pp43 0 9), aI (pp43 0 10)]) from (hfW_c hl 52 (by decide))) rfl rfl (Nat.le_of_ble_eq_true rfl) (by omega) (mc_wrong (d := d - 1) hl hp hr 2 (pp43 0 3)   (by omega)) (fun _ => ?_)
          refine T_nmH (W := fun x9 => hfW w hb sp rb rs hb po ro ee hh ss uu vv x9 kk rr tt gg aa dd bd ga im) (v := c_wrong pp43 2 (pp43 0 3)) (fun pp123 hpp123 => ?_)
          have hIpp123 : RdI pp123 := by rw [hpp123]; exact c_wrong_I hv43.1 _ _
          refine T_iload_n (am_dec tX6_number_1 26 rfl) rfl ?_
          exact T_ireturn (am_dec tX6_number_1 27 rfl) rfl (am_tr (fun (x9 : Int × am_F) => Q (.inl (some (aI (x9.1)))) (hfW w hb sp rb rs hb po ro ee hh ss uu vv x9.2 kk rr tt gg aa dd bd ga im)) (y := (lo, pp123)) (show (c_number ee pp lo hi) = (lo, pp123) from (by have s9 := hz1.symm; subst s9; have s9 := hu10.symm; subst s9; have s9 := hz23.symm; subst s9; have s9 := hv_43.symm; subst s9; have s9 := hpp43.symm; subst s9; have s9 := hpp123.symm; subst s9; exact ((if_neg h4).trans ((if_neg h26).trans (if_pos h108))))) hQ)
        · refine T_iload (am_dec tX6_number_1 18 rfl) rfl ?_
          refine T_iload_n (am_dec tX6_number_1 19 rfl) rfl ?_
          refine T_icmp_le 128 (am_dec tX6_number_1 20 rfl) rfl (fun h114 => ?_) (fun h114 => ?_)
          · refine T_iload (am_dec tX6_number_1 28 rfl) rfl ?_
            exact T_ireturn (am_dec tX6_number_1 29 rfl) rfl (am_tr (fun (x9 : Int × am_F) => Q (.inl (some (aI (x9.1)))) (hfW w hb sp rb rs hb po ro ee hh ss uu vv x9.2 kk rr tt gg aa dd bd ga im)) (y := (v_43, pp43)) (show (c_number ee pp lo hi) = (v_43, pp43) from (by have s9 := hz1.symm; subst s9; have s9 := hu10.symm; subst s9; have s9 := hz23.symm; subst s9; have s9 := hv_43.symm; subst s9; have s9 := hpp43.symm; subst s9; exact ((if_neg h4).trans ((if_neg h26).trans ((if_neg h108).trans (if_pos h114)))))) hQ)
          · refine T_aload_n (am_dec tX6_number_1 21 rfl) rfl ?_
            refine T_iconst 2 (am_dec tX6_number_1 22 rfl) rfl ⟨by decide, by decide⟩ ?_
            refine T_aload_n (am_dec tX6_number_1 23 rfl) rfl ?_
            refine T_getfield 5 3 (am_dec tX6_number_1 24 rfl) flX6_28_5 (show (hfW w hb sp rb rs hb po ro ee hh ss uu vv pp43 kk rr tt gg aa dd bd ga im)[52]? = some (cO 5 [aR 51, aI (pp43 0 1), aI (pp43 0 2), aI (pp43 0 3), aI (pp43 0 4), aI (pp43 0 5), po, aI (pp43 0 7), aI (pp43 0 8), aI (pp43 0 9), aI (pp43 0 10)]) from (hfW_c hl 52 (by decide))) rfl ?_
            refine T_callU (as := [aI 2, aI (pp43 0 3)]) rfl (am_dec tX6_number_1 25 rfl) lkX6_49_X5 (show (hfW w hb sp rb rs hb po ro ee hh ss uu vv pp43 kk rr tt gg aa dd bd ga im)[52]? = some (cO 5 [aR 51, aI (pp43 0 1), aI (pp43 0 2), aI (pp43 0 3), aI (pp43 0 4), aI (pp43 0 5), po, aI (pp43 0 7), aI (pp43 0 8), aI (pp43 0 9), aI (pp43 0 10)]) from (hfW_c hl 52 (by decide))) rfl rfl (Nat.le_of_ble_eq_true rfl) (by omega) (mc_wrong (d := d - 1) hl hp hr 2 (pp43 0 3)   (by omega)) (fun _ => ?_)
            refine T_nmH (W := fun x9 => hfW w hb sp rb rs hb po ro ee hh ss uu vv x9 kk rr tt gg aa dd bd ga im) (v := c_wrong pp43 2 (pp43 0 3)) (fun pp123 hpp123 => ?_)
            have hIpp123 : RdI pp123 := by rw [hpp123]; exact c_wrong_I hv43.1 _ _
            refine T_iload_n (am_dec tX6_number_1 26 rfl) rfl ?_
            exact T_ireturn (am_dec tX6_number_1 27 rfl) rfl (am_tr (fun (x9 : Int × am_F) => Q (.inl (some (aI (x9.1)))) (hfW w hb sp rb rs hb po ro ee hh ss uu vv x9.2 kk rr tt gg aa dd bd ga im)) (y := (lo, pp123)) (show (c_number ee pp lo hi) = (lo, pp123) from (by have s9 := hz1.symm; subst s9; have s9 := hu10.symm; subst s9; have s9 := hz23.symm; subst s9; have s9 := hv_43.symm; subst s9; have s9 := hpp43.symm; subst s9; have s9 := hpp123.symm; subst s9; exact ((if_neg h4).trans ((if_neg h26).trans ((if_neg h108).trans (if_neg h114)))))) hQ)
      · refine T_aload_n (am_dec tX6_number_0 15 rfl) rfl ?_
        refine T_iconst 1 (am_dec tX6_number_0 16 rfl) rfl ⟨by decide, by decide⟩ ?_
        refine T_aload_n (am_dec tX6_number_0 17 rfl) rfl ?_
        refine T_getfield 5 2 (am_dec tX6_number_0 18 rfl) flX6_25_5 (show (hfW w hb sp rb rs hb po ro ee hh ss uu vv (am_put (u10).2 0 3 ((u10).2 0 2)) kk rr tt gg aa dd bd ga im)[52]? = some (cO 5 [aR 51, aI ((u10).2 0 1), aI ((u10).2 0 2), aI ((u10).2 0 2), aI ((u10).2 0 4), aI ((u10).2 0 5), po, aI ((u10).2 0 7), aI ((u10).2 0 8), aI ((u10).2 0 9), aI ((u10).2 0 10)]) from (hfW_c hl 52 (by decide))) rfl ?_
        refine T_callU (as := [aI 1, aI ((u10).2 0 2)]) rfl (am_dec tX6_number_0 19 rfl) lkX6_49_X5 (show (hfW w hb sp rb rs hb po ro ee hh ss uu vv (am_put (u10).2 0 3 ((u10).2 0 2)) kk rr tt gg aa dd bd ga im)[52]? = some (cO 5 [aR 51, aI ((u10).2 0 1), aI ((u10).2 0 2), aI ((u10).2 0 2), aI ((u10).2 0 4), aI ((u10).2 0 5), po, aI ((u10).2 0 7), aI ((u10).2 0 8), aI ((u10).2 0 9), aI ((u10).2 0 10)]) from (hfW_c hl 52 (by decide))) rfl rfl (Nat.le_of_ble_eq_true rfl) (by omega) (mc_wrong (d := d - 1) hl hp hr 1 ((u10).2 0 2)   (by omega)) (fun _ => ?_)
        refine T_nmH (W := fun x9 => hfW w hb sp rb rs hb po ro ee hh ss uu vv x9 kk rr tt gg aa dd bd ga im) (v := c_wrong (am_put (u10).2 0 3 ((u10).2 0 2)) 1 ((u10).2 0 2)) (fun pp35 hpp35 => ?_)
        have hIpp35 : RdI pp35 := by rw [hpp35]; exact c_wrong_I (RdI_3 hIu10) _ _
        refine T_iload_n (am_dec tX6_number_0 20 rfl) rfl ?_
        exact T_ireturn (am_dec tX6_number_0 21 rfl) rfl (am_tr (fun (x9 : Int × am_F) => Q (.inl (some (aI (x9.1)))) (hfW w hb sp rb rs hb po ro ee hh ss uu vv x9.2 kk rr tt gg aa dd bd ga im)) (y := (lo, pp35)) (show (c_number ee pp lo hi) = (lo, pp35) from (by have s9 := hz1.symm; subst s9; have s9 := hu10.symm; subst s9; have s9 := hz23.symm; subst s9; have s9 := hpp35.symm; subst s9; exact ((if_neg h4).trans (if_pos h26)))) hQ)
    · refine T_iload_n (am_dec tX6_number_0 3 rfl) rfl ?_
      exact T_ireturn (am_dec tX6_number_0 4 rfl) rfl (am_tr (fun (x9 : Int × am_F) => Q (.inl (some (aI (x9.1)))) (hfW w hb sp rb rs hb po ro ee hh ss uu vv x9.2 kk rr tt gg aa dd bd ga im)) (y := (lo, pp)) (show (c_number ee pp lo hi) = (lo, pp) from (by have s9 := hz1.symm; subst s9; exact (if_pos h4))) hQ)
  exact key _ ⟨rfl, rfl⟩
def w_c_word_40 (ee : am_F) (pp : am_F) : (am_F) ⊕ (am_F) := (if pp 0 1 ≤ pp 0 2 then .inr pp else (let b56 : Int := (c_byteAt ee pp (pp 0 2)); (let z59 : Int := (c_isLetter b56); (if z59 = 0 then .inr pp else .inl (am_put pp 0 2 ((pp 0 2) + 1))))))
theorem L_c_word_40 {S : am_S} {d u : Nat} {Q : AO → AH → Prop} {w : AH} {hb sp rb rs : Nat} {po ro : AV} (hl : 109 ≤ w.length) (hp : hb = 1 ∧ sp = 21 ∨ hb = 21 ∧ sp = 1) (hr : rb = 41 ∧ rs = 46 ∨ rb = 46 ∧ rs = 41) (ee : am_F) (hh : am_F) (ss : am_F) (uu : am_F) (vv : am_F) (kk : am_F) (rr : am_F) (tt : am_F) (gg : am_F) (aa : am_F) (dd : am_F) (bd : am_F) (ga : am_F) (im : am_F) (hTp : TpI ee)  (hd : 2 ≤ d) : ∀ (n : Nat) (pp : am_F), pp 0 1 - pp 0 2 < n → RdI pp → (∀ (pp' : am_F), pp' = am_wh (w_c_word_40 ee) n pp → RdI pp' → am_T S zX6_word d u Q 78 [some (aR 52), none] [] (hfW w hb sp rb rs hb po ro ee hh ss uu vv pp' kk rr tt gg aa dd bd ga im)) → am_T S zX6_word d u Q 40 [some (aR 52), none] [] (hfW w hb sp rb rs hb po ro ee hh ss uu vv pp kk rr tt gg aa dd bd ga im) := by
  intro n
  induction n with
  | zero =>
    intro pp hm9 hinv k9
    have hP := hinv
    have hP9 := hP
    obtain ⟨⟨vr1, vr2⟩, vr3, vr4, vr5⟩ := hP9
    exfalso; omega
  | succ n ih =>
    intro pp hm9 hinv k9
    have hP := hinv
    have hP9 := hP
    obtain ⟨⟨vr1, vr2⟩, vr3, vr4, vr5⟩ := hP9
    refine T_aload_n (am_dec tX6_word_0 22 rfl) rfl ?_
    refine T_getfield 5 2 (am_dec tX6_word_0 23 rfl) flX6_25_5 (show (hfW w hb sp rb rs hb po ro ee hh ss uu vv pp kk rr tt gg aa dd bd ga im)[52]? = some (cO 5 [aR 51, aI (pp 0 1), aI (pp 0 2), aI (pp 0 3), aI (pp 0 4), aI (pp 0 5), po, aI (pp 0 7), aI (pp 0 8), aI (pp 0 9), aI (pp 0 10)]) from (hfW_c hl 52 (by decide))) rfl ?_
    refine T_aload_n (am_dec tX6_word_0 24 rfl) rfl ?_
    refine T_getfield 5 1 (am_dec tX6_word_0 25 rfl) flX6_21_5 (show (hfW w hb sp rb rs hb po ro ee hh ss uu vv pp kk rr tt gg aa dd bd ga im)[52]? = some (cO 5 [aR 51, aI (pp 0 1), aI (pp 0 2), aI (pp 0 3), aI (pp 0 4), aI (pp 0 5), po, aI (pp 0 7), aI (pp 0 8), aI (pp 0 9), aI (pp 0 10)]) from (hfW_c hl 52 (by decide))) rfl ?_
    refine T_icmp_ge 78 (am_dec tX6_word_0 26 rfl) rfl (fun h48 => ?_) (fun h48 => ?_)
    · have e9 : (w_c_word_40 ee) pp = .inr pp := (if_pos h48)
      simp only [am_wh_r e9] at k9
      exact k9 _ rfl hinv
    · refine T_aload_n (am_dec tX6_word_0 27 rfl) rfl ?_
      refine T_aload_n (am_dec tX6_word_0 28 rfl) rfl ?_
      refine T_getfield 5 2 (am_dec tX6_word_0 29 rfl) flX6_25_5 (show (hfW w hb sp rb rs hb po ro ee hh ss uu vv pp kk rr tt gg aa dd bd ga im)[52]? = some (cO 5 [aR 51, aI (pp 0 1), aI (pp 0 2), aI (pp 0 3), aI (pp 0 4), aI (pp 0 5), po, aI (pp 0 7), aI (pp 0 8), aI (pp 0 9), aI (pp 0 10)]) from (hfW_c hl 52 (by decide))) rfl ?_
      refine T_callU (as := [aI (pp 0 2)]) rfl (am_dec tX6_word_0 30 rfl) lkX6_53_X5 (show (hfW w hb sp rb rs hb po ro ee hh ss uu vv pp kk rr tt gg aa dd bd ga im)[52]? = some (cO 5 [aR 51, aI (pp 0 1), aI (pp 0 2), aI (pp 0 3), aI (pp 0 4), aI (pp 0 5), po, aI (pp 0 7), aI (pp 0 8), aI (pp 0 9), aI (pp 0 10)]) from (hfW_c hl 52 (by decide))) rfl rfl (Nat.le_of_ble_eq_true rfl) (by omega) (mc_byteAt (d := d - 1) hl hp hr (pp 0 2)  (by omega) hTp (by omega)) (fun _ => ?_)
      refine T_nm (fun b56 hb56 => ?_)
      have hq56 := c_byteAt_b (pp := pp) hTp (pp 0 2)
      rw [← hb56] at hq56
      refine T_callS (as := [aI b56]) rfl (am_dec tX6_word_0 31 rfl) lkX6_58 rfl (Nat.le_of_ble_eq_true rfl) (by omega) (mc_isLetter (d := d - 1) hl hp hr b56   (by omega)) (fun _ => ?_)
      refine T_nm (fun z59 hz59 => ?_)
      have hb59 := c_isLetter_x b56
      rw [← hz59] at hb59
      refine T_if_eq 78 (am_dec tX6_word_0 32 rfl) rfl (fun h62 => ?_) (fun h62 => ?_)
      · have e9 : (w_c_word_40 ee) pp = .inr pp := (by have s9 := hb56.symm; subst s9; have s9 := hz59.symm; subst s9; exact ((if_neg h48).trans (if_pos h62)))
        simp only [am_wh_r e9] at k9
        exact k9 _ rfl hinv
      · refine T_aload_n (am_dec tX6_word_0 33 rfl) rfl ?_
        refine T_dup (am_dec tX6_word_0 34 rfl) rfl ?_
        refine T_getfield 5 2 (am_dec tX6_word_0 35 rfl) flX6_25_5 (show (hfW w hb sp rb rs hb po ro ee hh ss uu vv pp kk rr tt gg aa dd bd ga im)[52]? = some (cO 5 [aR 51, aI (pp 0 1), aI (pp 0 2), aI (pp 0 3), aI (pp 0 4), aI (pp 0 5), po, aI (pp 0 7), aI (pp 0 8), aI (pp 0 9), aI (pp 0 10)]) from (hfW_c hl 52 (by decide))) rfl ?_
        refine T_iconst 1 (am_dec tX6_word_0 36 rfl) rfl ⟨by decide, by decide⟩ ?_
        refine T_iadd ((pp 0 2) + 1) (am_dec tX6_word_0 37 rfl) rfl ⟨by omega, by omega⟩ ?_
        refine T_putfield (fs' := [aR 51, aI (pp 0 1), aI ((pp 0 2) + 1), aI (pp 0 3), aI (pp 0 4), aI (pp 0 5), po, aI (pp 0 7), aI (pp 0 8), aI (pp 0 9), aI (pp 0 10)]) 5 2 (am_dec tX6_word_0 38 rfl) flX6_25_5 rfl rfl rfl trivial (show (hfW w hb sp rb rs hb po ro ee hh ss uu vv pp kk rr tt gg aa dd bd ga im)[52]? = some (cO 5 [aR 51, aI (pp 0 1), aI (pp 0 2), aI (pp 0 3), aI (pp 0 4), aI (pp 0 5), po, aI (pp 0 7), aI (pp 0 8), aI (pp 0 9), aI (pp 0 10)]) from (hfW_c hl 52 (by decide))) (Nat.le_of_ble_eq_true rfl) rfl ?_
        refine am_wE (w2 := hfW w hb sp rb rs hb po ro ee hh ss uu vv (am_put pp 0 2 ((pp 0 2) + 1)) kk rr tt gg aa dd bd ga im) (hf_pp2 hl) ?_
        refine T_goto 40 (am_dec tX6_word_0 39 rfl) rfl ?_
        have e9 : (w_c_word_40 ee) pp = .inl (am_put pp 0 2 ((pp 0 2) + 1)) := (by have s9 := hb56.symm; subst s9; have s9 := hz59.symm; subst s9; exact ((if_neg h48).trans (if_neg h62)))
        simp only [am_wh_l e9] at k9
        exact ih (am_put pp 0 2 ((pp 0 2) + 1)) (by show pp 0 1 - (pp 0 2 + 1) < _; omega) ⟨⟨by show 0 ≤ pp 0 2 + 1; omega, by show pp 0 2 + 1 ≤ pp 0 1; omega⟩, vr3, vr4, vr5⟩ k9
def c_word (ee : am_F) (pp : am_F) : Int × am_F := (let z1 : Int := (c_fine pp); (if z1 = 0 then (0, pp) else (let u10 : Int × am_F := c_peek ee pp; (let z23 : Int := (c_isLetter ((u10).1)); (if z23 = 0 then (let pp35 : am_F := c_wrong (am_put (u10).2 0 3 ((u10).2 0 2)) 1 ((u10).2 0 2); (0, pp35)) else (let pp40 : am_F := am_wh (w_c_word_40 ee) 601 (am_put (u10).2 0 3 ((u10).2 0 2)); (((pp40 0 2) - (pp40 0 3)), pp40)))))))
theorem mc_word {S : am_S} {d u : Nat} {w : AH} {hb sp rb rs : Nat} {po ro : AV} (hl : 109 ≤ w.length) (hp : hb = 1 ∧ sp = 21 ∨ hb = 21 ∧ sp = 1) (hr : rb = 41 ∧ rs = 46 ∨ rb = 46 ∧ rs = 41) {ee : am_F} {hh : am_F} {ss : am_F} {uu : am_F} {vv : am_F} {pp : am_F} {kk : am_F} {rr : am_F} {tt : am_F} {gg : am_F} {aa : am_F} {dd : am_F} {bd : am_F} {ga : am_F} {im : am_F}  (hP : RdI pp) (hTp : TpI ee)  (hd : 2 ≤ d) : am_Out S zX6_word d u [aR 52] (hfW w hb sp rb rs hb po ro ee hh ss uu vv pp kk rr tt gg aa dd bd ga im) (.inl (some (aI ((c_word ee pp).1)))) (hfW w hb sp rb rs hb po ro ee hh ss uu vv ((c_word ee pp).2) kk rr tt gg aa dd bd ga im) := by
  have key : ∀ Q : AO → AH → Prop, Q (.inl (some (aI ((c_word ee pp).1)))) (hfW w hb sp rb rs hb po ro ee hh ss uu vv ((c_word ee pp).2) kk rr tt gg aa dd bd ga im) → am_M S zX6_word d u [aR 52] (hfW w hb sp rb rs hb po ro ee hh ss uu vv pp kk rr tt gg aa dd bd ga im) Q := by
    intro Q hQ
    refine am_body rfl (by decide +kernel) rfl (am_cats_cons rfl (am_cats_nil)) (Nat.le_of_ble_eq_true rfl) (?_ : am_T _ _ _ _ _ 0 [some (aR 52), none] [] (hfW w hb sp rb rs hb po ro ee hh ss uu vv pp kk rr tt gg aa dd bd ga im))
    have hP9 := hP
    obtain ⟨⟨vr1, vr2⟩, vr3, vr4, vr5⟩ := hP9
    refine T_aload_n (am_dec tX6_word_0 0 rfl) rfl ?_
    refine T_callU (as := []) rfl (am_dec tX6_word_0 1 rfl) lkX6_37_X5 (show (hfW w hb sp rb rs hb po ro ee hh ss uu vv pp kk rr tt gg aa dd bd ga im)[52]? = some (cO 5 [aR 51, aI (pp 0 1), aI (pp 0 2), aI (pp 0 3), aI (pp 0 4), aI (pp 0 5), po, aI (pp 0 7), aI (pp 0 8), aI (pp 0 9), aI (pp 0 10)]) from (hfW_c hl 52 (by decide))) rfl rfl (Nat.le_of_ble_eq_true rfl) (by omega) (mc_fine (d := d - 1) hl hp hr    (by omega)) (fun _ => ?_)
    refine T_nm (fun z1 hz1 => ?_)
    have hb1 := c_fine_b pp
    rw [← hz1] at hb1
    refine T_if_ne 9 (am_dec tX6_word_0 2 rfl) rfl (fun h4 => ?_) (fun h4 => ?_)
    · refine T_aload_n (am_dec tX6_word_0 5 rfl) rfl ?_
      refine T_callU (as := []) rfl (am_dec tX6_word_0 6 rfl) lkX6_41_X5 (show (hfW w hb sp rb rs hb po ro ee hh ss uu vv pp kk rr tt gg aa dd bd ga im)[52]? = some (cO 5 [aR 51, aI (pp 0 1), aI (pp 0 2), aI (pp 0 3), aI (pp 0 4), aI (pp 0 5), po, aI (pp 0 7), aI (pp 0 8), aI (pp 0 9), aI (pp 0 10)]) from (hfW_c hl 52 (by decide))) rfl rfl (Nat.le_of_ble_eq_true rfl) (by omega) (mc_peek (d := d - 1) hl hp hr   (by omega) hTp (by omega)) (fun _ => ?_)
      obtain ⟨u10, hu10⟩ : ∃ x9, x9 = c_peek ee pp := ⟨_, rfl⟩
      rw [← hu10]
      obtain ⟨hIu10, hvu10, hwu10, hfu10⟩ : RdI u10.2 ∧ (-1 ≤ u10.1 ∧ u10.1 ≤ 255) ∧ (u10.1 = -1 ∨ u10.2 0 2 < u10.2 0 1) ∧ ∀ k j, ¬ (k = 0 ∧ j = 2) → u10.2 k j = pp k j := by rw [hu10]; exact c_peek_x hP hTp
      have hgu10 := hIu10
      obtain ⟨⟨yr101, yr102⟩, yr103, yr104, yr105⟩ := hgu10
      refine T_istore_n (ls' := [some (aR 52), some (aI ((u10).1))]) (am_dec tX6_word_0 7 rfl) (by decide) rfl ?_
      refine T_aload_n (am_dec tX6_word_0 8 rfl) rfl ?_
      refine T_aload_n (am_dec tX6_word_0 9 rfl) rfl ?_
      refine T_getfield 5 2 (am_dec tX6_word_0 10 rfl) flX6_25_5 (show (hfW w hb sp rb rs hb po ro ee hh ss uu vv ((u10).2) kk rr tt gg aa dd bd ga im)[52]? = some (cO 5 [aR 51, aI ((u10).2 0 1), aI ((u10).2 0 2), aI ((u10).2 0 3), aI ((u10).2 0 4), aI ((u10).2 0 5), po, aI ((u10).2 0 7), aI ((u10).2 0 8), aI ((u10).2 0 9), aI ((u10).2 0 10)]) from (hfW_c hl 52 (by decide))) rfl ?_
      refine T_putfield (fs' := [aR 51, aI ((u10).2 0 1), aI ((u10).2 0 2), aI ((u10).2 0 2), aI ((u10).2 0 4), aI ((u10).2 0 5), po, aI ((u10).2 0 7), aI ((u10).2 0 8), aI ((u10).2 0 9), aI ((u10).2 0 10)]) 5 3 (am_dec tX6_word_0 11 rfl) flX6_28_5 rfl rfl rfl trivial (show (hfW w hb sp rb rs hb po ro ee hh ss uu vv ((u10).2) kk rr tt gg aa dd bd ga im)[52]? = some (cO 5 [aR 51, aI ((u10).2 0 1), aI ((u10).2 0 2), aI ((u10).2 0 3), aI ((u10).2 0 4), aI ((u10).2 0 5), po, aI ((u10).2 0 7), aI ((u10).2 0 8), aI ((u10).2 0 9), aI ((u10).2 0 10)]) from (hfW_c hl 52 (by decide))) (Nat.le_of_ble_eq_true rfl) rfl ?_
      refine am_wE (w2 := hfW w hb sp rb rs hb po ro ee hh ss uu vv (am_put (u10).2 0 3 ((u10).2 0 2)) kk rr tt gg aa dd bd ga im) (hf_pp3 hl) ?_
      refine T_iload_n (am_dec tX6_word_0 12 rfl) rfl ?_
      refine T_callS (as := [aI ((u10).1)]) rfl (am_dec tX6_word_0 13 rfl) lkX6_58 rfl (Nat.le_of_ble_eq_true rfl) (by omega) (mc_isLetter (d := d - 1) hl hp hr ((u10).1)   (by omega)) (fun _ => ?_)
      refine T_nm (fun z23 hz23 => ?_)
      have hb23 := c_isLetter_x ((u10).1)
      rw [← hz23] at hb23
      refine T_if_ne 40 (am_dec tX6_word_0 14 rfl) rfl (fun h26 => ?_) (fun h26 => ?_)
      · refine T_weak (ls' := [some (aR 52), none]) (am_sub_s (am_sub_n am_sub_nil)) ?_
        refine L_c_word_40 hl hp hr ee hh ss uu vv kk rr tt gg aa dd bd ga im hTp  (by omega) 601 (am_put (u10).2 0 3 ((u10).2 0 2)) (by show ((u10).2) 0 1 - ((u10).2) 0 2 < 601; omega) (RdI_3 hIu10) (fun pp40 hpp40 hv40 => ?_)
        have hP0 := hv40
        obtain ⟨⟨wr1, wr2⟩, wr3, wr4, wr5⟩ := hP0
        refine T_aload_n (am_dec tX6_word_1 0 rfl) rfl ?_
        refine T_getfield 5 2 (am_dec tX6_word_1 1 rfl) flX6_25_5 (show (hfW w hb sp rb rs hb po ro ee hh ss uu vv pp40 kk rr tt gg aa dd bd ga im)[52]? = some (cO 5 [aR 51, aI (pp40 0 1), aI (pp40 0 2), aI (pp40 0 3), aI (pp40 0 4), aI (pp40 0 5), po, aI (pp40 0 7), aI (pp40 0 8), aI (pp40 0 9), aI (pp40 0 10)]) from (hfW_c hl 52 (by decide))) rfl ?_
        refine T_aload_n (am_dec tX6_word_1 2 rfl) rfl ?_
        refine T_getfield 5 3 (am_dec tX6_word_1 3 rfl) flX6_28_5 (show (hfW w hb sp rb rs hb po ro ee hh ss uu vv pp40 kk rr tt gg aa dd bd ga im)[52]? = some (cO 5 [aR 51, aI (pp40 0 1), aI (pp40 0 2), aI (pp40 0 3), aI (pp40 0 4), aI (pp40 0 5), po, aI (pp40 0 7), aI (pp40 0 8), aI (pp40 0 9), aI (pp40 0 10)]) from (hfW_c hl 52 (by decide))) rfl ?_
        refine T_isub ((pp40 0 2) - (pp40 0 3)) (am_dec tX6_word_1 4 rfl) rfl ⟨by omega, by omega⟩ ?_
        exact T_ireturn (am_dec tX6_word_1 5 rfl) rfl (am_tr (fun (x9 : Int × am_F) => Q (.inl (some (aI (x9.1)))) (hfW w hb sp rb rs hb po ro ee hh ss uu vv x9.2 kk rr tt gg aa dd bd ga im)) (y := (((pp40 0 2) - (pp40 0 3)), pp40)) (show (c_word ee pp) = (((pp40 0 2) - (pp40 0 3)), pp40) from (by have s9 := hz1.symm; subst s9; have s9 := hu10.symm; subst s9; have s9 := hz23.symm; subst s9; have s9 := hpp40.symm; subst s9; exact ((if_neg h4).trans (if_neg h26)))) hQ)
      · refine T_aload_n (am_dec tX6_word_0 15 rfl) rfl ?_
        refine T_iconst 1 (am_dec tX6_word_0 16 rfl) rfl ⟨by decide, by decide⟩ ?_
        refine T_aload_n (am_dec tX6_word_0 17 rfl) rfl ?_
        refine T_getfield 5 2 (am_dec tX6_word_0 18 rfl) flX6_25_5 (show (hfW w hb sp rb rs hb po ro ee hh ss uu vv (am_put (u10).2 0 3 ((u10).2 0 2)) kk rr tt gg aa dd bd ga im)[52]? = some (cO 5 [aR 51, aI ((u10).2 0 1), aI ((u10).2 0 2), aI ((u10).2 0 2), aI ((u10).2 0 4), aI ((u10).2 0 5), po, aI ((u10).2 0 7), aI ((u10).2 0 8), aI ((u10).2 0 9), aI ((u10).2 0 10)]) from (hfW_c hl 52 (by decide))) rfl ?_
        refine T_callU (as := [aI 1, aI ((u10).2 0 2)]) rfl (am_dec tX6_word_0 19 rfl) lkX6_49_X5 (show (hfW w hb sp rb rs hb po ro ee hh ss uu vv (am_put (u10).2 0 3 ((u10).2 0 2)) kk rr tt gg aa dd bd ga im)[52]? = some (cO 5 [aR 51, aI ((u10).2 0 1), aI ((u10).2 0 2), aI ((u10).2 0 2), aI ((u10).2 0 4), aI ((u10).2 0 5), po, aI ((u10).2 0 7), aI ((u10).2 0 8), aI ((u10).2 0 9), aI ((u10).2 0 10)]) from (hfW_c hl 52 (by decide))) rfl rfl (Nat.le_of_ble_eq_true rfl) (by omega) (mc_wrong (d := d - 1) hl hp hr 1 ((u10).2 0 2)   (by omega)) (fun _ => ?_)
        refine T_nmH (W := fun x9 => hfW w hb sp rb rs hb po ro ee hh ss uu vv x9 kk rr tt gg aa dd bd ga im) (v := c_wrong (am_put (u10).2 0 3 ((u10).2 0 2)) 1 ((u10).2 0 2)) (fun pp35 hpp35 => ?_)
        have hIpp35 : RdI pp35 := by rw [hpp35]; exact c_wrong_I (RdI_3 hIu10) _ _
        refine T_iconst 0 (am_dec tX6_word_0 20 rfl) rfl ⟨by decide, by decide⟩ ?_
        exact T_ireturn (am_dec tX6_word_0 21 rfl) rfl (am_tr (fun (x9 : Int × am_F) => Q (.inl (some (aI (x9.1)))) (hfW w hb sp rb rs hb po ro ee hh ss uu vv x9.2 kk rr tt gg aa dd bd ga im)) (y := (0, pp35)) (show (c_word ee pp) = (0, pp35) from (by have s9 := hz1.symm; subst s9; have s9 := hu10.symm; subst s9; have s9 := hz23.symm; subst s9; have s9 := hpp35.symm; subst s9; exact ((if_neg h4).trans (if_pos h26)))) hQ)
    · refine T_iconst 0 (am_dec tX6_word_0 3 rfl) rfl ⟨by decide, by decide⟩ ?_
      exact T_ireturn (am_dec tX6_word_0 4 rfl) rfl (am_tr (fun (x9 : Int × am_F) => Q (.inl (some (aI (x9.1)))) (hfW w hb sp rb rs hb po ro ee hh ss uu vv x9.2 kk rr tt gg aa dd bd ga im)) (y := (0, pp)) (show (c_word ee pp) = (0, pp) from (by have s9 := hz1.symm; subst s9; exact (if_pos h4))) hQ)
  exact key _ ⟨rfl, rfl⟩
