/-! the rule reader reads likewise -/
theorem Rd2.needSign {ee a b : am_F} (h : Rd2 a b) (t : TpI ee) {sg : Int} (hs : 0 ≤ sg) : Rd2 a (c_needSign ee b sg) := by
  have h1 := h.takesSign t hs
  unfold c_needSign
  dsimp only
  repeat' split
  · exact h
  · exact h1.wrong _ _
  · exact h1
theorem c_begin_I {b : am_F} {n : Int} (hn : 0 ≤ n ∧ n ≤ 600) : RdI (c_begin b n) ∧ ∀ k j, ¬ (k = 0 ∧ 1 ≤ j ∧ j ≤ 5) → c_begin b n k j = b k j := by
  unfold c_begin
  dsimp only
  refine ⟨⟨⟨by show (0 : Int) ≤ 0; omega, ?_⟩, ?_, by show (0 : Int) ≤ 0; omega, ?_⟩, fun k j hk => ?_⟩
  · show (0 : Int) ≤ (if 600 < n then 600 else n); split <;> omega
  · show (if 600 < n then 600 else n) ≤ (600 : Int); split <;> omega
  · show (0 : Int) ≤ (if 600 < n then 600 else n); split <;> omega
  · rw [am_put_o (fun e => hk ⟨e.1, by omega, by omega⟩), am_put_o (fun e => hk ⟨e.1, by omega, by omega⟩), am_put_o (fun e => hk ⟨e.1, by omega, by omega⟩), am_put_o (fun e => hk ⟨e.1, by omega, by omega⟩), am_put_o (fun e => hk ⟨e.1, by omega, by omega⟩)]
theorem md_fine {S : am_S} {d u : Nat} {w : AH} {hb sp rb rs : Nat} {po ro : AV} (hl : 109 ≤ w.length) (hp : hb = 1 ∧ sp = 21 ∨ hb = 21 ∧ sp = 1) (hr : rb = 41 ∧ rs = 46 ∨ rb = 46 ∧ rs = 41) {ee : am_F} {hh : am_F} {ss : am_F} {uu : am_F} {vv : am_F} {pp : am_F} {kk : am_F} {rr : am_F} {tt : am_F} {gg : am_F} {aa : am_F} {dd : am_F} {bd : am_F} {ga : am_F} {im : am_F}    (hd : 1 ≤ d) : am_Out S zX6_fine d u [aR 53] (hfW w hb sp rb rs hb po ro ee hh ss uu vv pp kk rr tt gg aa dd bd ga im) (.inl (some (aI (c_fine kk)))) (hfW w hb sp rb rs hb po ro ee hh ss uu vv pp kk rr tt gg aa dd bd ga im) := by
  have key : ∀ Q : AO → AH → Prop, Q (.inl (some (aI (c_fine kk)))) (hfW w hb sp rb rs hb po ro ee hh ss uu vv pp kk rr tt gg aa dd bd ga im) → am_M S zX6_fine d u [aR 53] (hfW w hb sp rb rs hb po ro ee hh ss uu vv pp kk rr tt gg aa dd bd ga im) Q := by
    intro Q hQ
    refine am_body rfl (by decide +kernel) rfl (am_cats_cons rfl (am_cats_nil)) (Nat.le_of_ble_eq_true rfl) (?_ : am_T _ _ _ _ _ 0 [some (aR 53)] [] (hfW w hb sp rb rs hb po ro ee hh ss uu vv pp kk rr tt gg aa dd bd ga im))
    refine T_aload_n (am_dec tX6_fine_0 0 rfl) rfl ?_
    refine T_getfield 7 4 (am_dec tX6_fine_0 1 rfl) flX6_31_7 (show (hfW w hb sp rb rs hb po ro ee hh ss uu vv pp kk rr tt gg aa dd bd ga im)[53]? = some (cO 7 [aR 51, aI (kk 0 1), aI (kk 0 2), aI (kk 0 3), aI (kk 0 4), aI (kk 0 5), ro]) from (hfW_c hl 53 (by decide))) rfl ?_
    have K4 : ∀ (t4 : Int), t4 = (if kk 0 4 = 0 then 1 else 0) →  am_T S zX6_fine d u Q 12 [none] [aI t4] (hfW w hb sp rb rs hb po ro ee hh ss uu vv pp kk rr tt gg aa dd bd ga im) := by
      intro t4 ht4 
      have hbt4 : t4 = 0 ∨ t4 = 1 := by
        rw [ht4]
        try dsimp only
        repeat' split
        all_goals first | exact Or.inl rfl | exact Or.inr rfl | apply c_guardsAll_b | apply c_isRight54_b | apply c_isRight64_b | apply c_areRight_b | apply c_areRightIn_b | apply c_fine_b | apply c_isDigit_b | apply c_isLetter_b | apply c_isWord_b | omega
      exact T_zreturn (am_dec tX6_fine_0 6 rfl) rfl (by first | exact Or.inl rfl | exact Or.inr rfl | omega) (am_tr (fun (x9 : Int) => Q (.inl (some (aI (x9)))) (hfW w hb sp rb rs hb po ro ee hh ss uu vv pp kk rr tt gg aa dd bd ga im)) (y := t4) (show (c_fine kk) = t4 from (by have s9 := ht4.symm; subst s9; exact rfl)) hQ)
    refine T_if_ne 11 (am_dec tX6_fine_0 2 rfl) rfl (fun h4 => ?_) (fun h4 => ?_)
    · refine T_iconst 0 (am_dec tX6_fine_0 5 rfl) rfl ⟨by decide, by decide⟩ ?_
      refine T_weak (ls' := [none]) (am_sub_n am_sub_nil) ?_
      exact K4 _ (if_neg h4).symm 
    · refine T_iconst 1 (am_dec tX6_fine_0 3 rfl) rfl ⟨by decide, by decide⟩ ?_
      refine T_goto 12 (am_dec tX6_fine_0 4 rfl) rfl ?_
      refine T_weak (ls' := [none]) (am_sub_n am_sub_nil) ?_
      exact K4 _ (if_pos h4).symm 
  exact key _ ⟨rfl, rfl⟩
theorem md_wrong {S : am_S} {d u : Nat} {w : AH} {hb sp rb rs : Nat} {po ro : AV} (hl : 109 ≤ w.length) (hp : hb = 1 ∧ sp = 21 ∨ hb = 21 ∧ sp = 1) (hr : rb = 41 ∧ rs = 46 ∨ rb = 46 ∧ rs = 41) {ee : am_F} {hh : am_F} {ss : am_F} {uu : am_F} {vv : am_F} {pp : am_F} {kk : am_F} {rr : am_F} {tt : am_F} {gg : am_F} {aa : am_F} {dd : am_F} {bd : am_F} {ga : am_F} {im : am_F} (wh : Int) (pl : Int)   (hd : 1 ≤ d) : am_Out S zX6_wrong d u [aR 53, aI wh, aI pl] (hfW w hb sp rb rs hb po ro ee hh ss uu vv pp kk rr tt gg aa dd bd ga im) (.inl none) (hfW w hb sp rb rs hb po ro ee hh ss uu vv pp (c_wrong kk wh pl) rr tt gg aa dd bd ga im) := by
  have key : ∀ Q : AO → AH → Prop, Q (.inl none) (hfW w hb sp rb rs hb po ro ee hh ss uu vv pp (c_wrong kk wh pl) rr tt gg aa dd bd ga im) → am_M S zX6_wrong d u [aR 53, aI wh, aI pl] (hfW w hb sp rb rs hb po ro ee hh ss uu vv pp kk rr tt gg aa dd bd ga im) Q := by
    intro Q hQ
    refine am_body rfl (by decide +kernel) rfl (am_cats_cons rfl ( am_cats_cons rfl ( am_cats_cons rfl (am_cats_nil)))) (Nat.le_of_ble_eq_true rfl) (?_ : am_T _ _ _ _ _ 0 [some (aR 53), some (aI wh), some (aI pl)] [] (hfW w hb sp rb rs hb po ro ee hh ss uu vv pp kk rr tt gg aa dd bd ga im))
    refine T_aload_n (am_dec tX6_wrong_0 0 rfl) rfl ?_
    refine T_getfield 7 4 (am_dec tX6_wrong_0 1 rfl) flX6_31_7 (show (hfW w hb sp rb rs hb po ro ee hh ss uu vv pp kk rr tt gg aa dd bd ga im)[53]? = some (cO 7 [aR 51, aI (kk 0 1), aI (kk 0 2), aI (kk 0 3), aI (kk 0 4), aI (kk 0 5), ro]) from (hfW_c hl 53 (by decide))) rfl ?_
    have K4 : ∀ (kk4 : am_F), kk4 = (if kk 0 4 = 0 then (am_put (am_put kk 0 4 wh) 0 5 pl) else kk) →  am_T S zX6_wrong d u Q 17 [none, none, none] [] (hfW w hb sp rb rs hb po ro ee hh ss uu vv pp kk4 rr tt gg aa dd bd ga im) := by
      intro kk4 hkk4 
      exact T_return (am_dec tX6_wrong_0 9 rfl) rfl (am_tr (fun (x9 : am_F) => Q (.inl none) (hfW w hb sp rb rs hb po ro ee hh ss uu vv pp x9 rr tt gg aa dd bd ga im)) (y := kk4) (show (c_wrong kk wh pl) = kk4 from (by have s9 := hkk4.symm; subst s9; exact rfl)) hQ)
    refine T_if_ne 17 (am_dec tX6_wrong_0 2 rfl) rfl (fun h4 => ?_) (fun h4 => ?_)
    · refine T_weak (ls' := [none, none, none]) (am_sub_n (am_sub_n (am_sub_n am_sub_nil))) ?_
      exact K4 _ (if_neg h4).symm 
    · refine T_aload_n (am_dec tX6_wrong_0 3 rfl) rfl ?_
      refine T_iload_n (am_dec tX6_wrong_0 4 rfl) rfl ?_
      refine T_putfield (fs' := [aR 51, aI (kk 0 1), aI (kk 0 2), aI (kk 0 3), aI wh, aI (kk 0 5), ro]) 7 4 (am_dec tX6_wrong_0 5 rfl) flX6_31_7 rfl rfl rfl trivial (show (hfW w hb sp rb rs hb po ro ee hh ss uu vv pp kk rr tt gg aa dd bd ga im)[53]? = some (cO 7 [aR 51, aI (kk 0 1), aI (kk 0 2), aI (kk 0 3), aI (kk 0 4), aI (kk 0 5), ro]) from (hfW_c hl 53 (by decide))) (Nat.le_of_ble_eq_true rfl) rfl ?_
      refine am_wE (w2 := hfW w hb sp rb rs hb po ro ee hh ss uu vv pp (am_put kk 0 4 wh) rr tt gg aa dd bd ga im) (hf_kk4 hl) ?_
      refine T_aload_n (am_dec tX6_wrong_0 6 rfl) rfl ?_
      refine T_iload_n (am_dec tX6_wrong_0 7 rfl) rfl ?_
      refine T_putfield (fs' := [aR 51, aI (kk 0 1), aI (kk 0 2), aI (kk 0 3), aI wh, aI pl, ro]) 7 5 (am_dec tX6_wrong_0 8 rfl) flX6_34_7 rfl rfl rfl trivial (show (hfW w hb sp rb rs hb po ro ee hh ss uu vv pp (am_put kk 0 4 wh) rr tt gg aa dd bd ga im)[53]? = some (cO 7 [aR 51, aI (kk 0 1), aI (kk 0 2), aI (kk 0 3), aI wh, aI (kk 0 5), ro]) from (hfW_c hl 53 (by decide))) (Nat.le_of_ble_eq_true rfl) rfl ?_
      refine am_wE (w2 := hfW w hb sp rb rs hb po ro ee hh ss uu vv pp (am_put (am_put kk 0 4 wh) 0 5 pl) rr tt gg aa dd bd ga im) (hf_kk5 hl) ?_
      refine T_weak (ls' := [none, none, none]) (am_sub_n (am_sub_n (am_sub_n am_sub_nil))) ?_
      exact K4 _ (if_pos h4).symm 
  exact key _ ⟨rfl, rfl⟩
theorem md_byteAt {S : am_S} {d u : Nat} {w : AH} {hb sp rb rs : Nat} {po ro : AV} (hl : 109 ≤ w.length) (hp : hb = 1 ∧ sp = 21 ∨ hb = 21 ∧ sp = 1) (hr : rb = 41 ∧ rs = 46 ∨ rb = 46 ∧ rs = 41) {ee : am_F} {hh : am_F} {ss : am_F} {uu : am_F} {vv : am_F} {pp : am_F} {kk : am_F} {rr : am_F} {tt : am_F} {gg : am_F} {aa : am_F} {dd : am_F} {bd : am_F} {ga : am_F} {im : am_F} (pl : Int) (hP : RdI kk) (hTp : TpI ee)  (hd : 1 ≤ d) : am_Out S zX6_byteAt d u [aR 53, aI pl] (hfW w hb sp rb rs hb po ro ee hh ss uu vv pp kk rr tt gg aa dd bd ga im) (.inl (some (aI (c_byteAt ee kk pl)))) (hfW w hb sp rb rs hb po ro ee hh ss uu vv pp kk rr tt gg aa dd bd ga im) := by
  have key : ∀ Q : AO → AH → Prop, Q (.inl (some (aI (c_byteAt ee kk pl)))) (hfW w hb sp rb rs hb po ro ee hh ss uu vv pp kk rr tt gg aa dd bd ga im) → am_M S zX6_byteAt d u [aR 53, aI pl] (hfW w hb sp rb rs hb po ro ee hh ss uu vv pp kk rr tt gg aa dd bd ga im) Q := by
    intro Q hQ
    refine am_body rfl (by decide +kernel) rfl (am_cats_cons rfl ( am_cats_cons rfl (am_cats_nil))) (Nat.le_of_ble_eq_true rfl) (?_ : am_T _ _ _ _ _ 0 [some (aR 53), some (aI pl)] [] (hfW w hb sp rb rs hb po ro ee hh ss uu vv pp kk rr tt gg aa dd bd ga im))
    have hP9 := hP
    obtain ⟨⟨vr1, vr2⟩, vr3, vr4, vr5⟩ := hP9
    refine T_iload_n (am_dec tX6_byteAt_0 0 rfl) rfl ?_
    have K1 : ∀ (t1 : Int), t1 = (if pl < 0 then (-1) else (if kk 0 1 ≤ pl then (-1) else ((ee 1) pl.toNat))) →  am_T S zX6_byteAt d u Q 22 [none, none] [aI t1] (hfW w hb sp rb rs hb po ro ee hh ss uu vv pp kk rr tt gg aa dd bd ga im) := by
      intro t1 ht1 
      exact T_ireturn (am_dec tX6_byteAt_0 12 rfl) rfl (am_tr (fun (x9 : Int) => Q (.inl (some (aI (x9)))) (hfW w hb sp rb rs hb po ro ee hh ss uu vv pp kk rr tt gg aa dd bd ga im)) (y := t1) (show (c_byteAt ee kk pl) = t1 from (by have s9 := ht1.symm; subst s9; exact rfl)) hQ)
    refine T_if_lt 21 (am_dec tX6_byteAt_0 1 rfl) rfl (fun h1 => ?_) (fun h1 => ?_)
    · refine T_iconst (-1) (am_dec tX6_byteAt_0 11 rfl) rfl ⟨by decide, by decide⟩ ?_
      refine T_weak (ls' := [none, none]) (am_sub_n (am_sub_n am_sub_nil)) ?_
      exact K1 _ (if_pos h1).symm 
    · refine T_iload_n (am_dec tX6_byteAt_0 2 rfl) rfl ?_
      refine T_aload_n (am_dec tX6_byteAt_0 3 rfl) rfl ?_
      refine T_getfield 7 1 (am_dec tX6_byteAt_0 4 rfl) flX6_21_7 (show (hfW w hb sp rb rs hb po ro ee hh ss uu vv pp kk rr tt gg aa dd bd ga im)[53]? = some (cO 7 [aR 51, aI (kk 0 1), aI (kk 0 2), aI (kk 0 3), aI (kk 0 4), aI (kk 0 5), ro]) from (hfW_c hl 53 (by decide))) rfl ?_
      have K9 : ∀ (t9 : Int), t9 = (if kk 0 1 ≤ pl then (-1) else ((ee 1) pl.toNat)) →  am_T S zX6_byteAt d u Q 22 [none, none] [aI t9] (hfW w hb sp rb rs hb po ro ee hh ss uu vv pp kk rr tt gg aa dd bd ga im) := by
        intro t9 ht9 
        exact K1 _ (by have s9 := ht9.symm; subst s9; exact (if_neg h1).symm) 
      refine T_icmp_ge 21 (am_dec tX6_byteAt_0 5 rfl) rfl (fun h9 => ?_) (fun h9 => ?_)
      · refine T_iconst (-1) (am_dec tX6_byteAt_0 11 rfl) rfl ⟨by decide, by decide⟩ ?_
        refine T_weak (ls' := [none, none]) (am_sub_n (am_sub_n am_sub_nil)) ?_
        exact K9 _ (if_pos h9).symm 
      · refine T_aload_n (am_dec tX6_byteAt_0 6 rfl) rfl ?_
        refine T_getfield 7 0 (am_dec tX6_byteAt_0 7 rfl) flX6_9_7 (show (hfW w hb sp rb rs hb po ro ee hh ss uu vv pp kk rr tt gg aa dd bd ga im)[53]? = some (cO 7 [aR 51, aI (kk 0 1), aI (kk 0 2), aI (kk 0 3), aI (kk 0 4), aI (kk 0 5), ro]) from (hfW_c hl 53 (by decide))) rfl ?_
        refine T_iload_n (am_dec tX6_byteAt_0 8 rfl) rfl ?_
        refine T_ialoadE (x := (ee 1) pl.toNat) (am_dec tX6_byteAt_0 9 rfl) (show (hfW w hb sp rb rs hb po ro ee hh ss uu vv pp kk rr tt gg aa dd bd ga im)[51]? = some (cP 0 600 (ee 1)) from (hfW_c hl 51 (by decide))) (by omega) (by omega) rfl ?_
        refine T_goto 22 (am_dec tX6_byteAt_0 10 rfl) rfl ?_
        refine T_weak (ls' := [none, none]) (am_sub_n (am_sub_n am_sub_nil)) ?_
        exact K9 _ (if_neg h9).symm 
  exact key _ ⟨rfl, rfl⟩
theorem L_d_peek_0 {S : am_S} {d u : Nat} {Q : AO → AH → Prop} {w : AH} {hb sp rb rs : Nat} {po ro : AV} (hl : 109 ≤ w.length) (hp : hb = 1 ∧ sp = 21 ∨ hb = 21 ∧ sp = 1) (hr : rb = 41 ∧ rs = 46 ∨ rb = 46 ∧ rs = 41) (ee : am_F) (hh : am_F) (ss : am_F) (uu : am_F) (vv : am_F) (pp : am_F) (rr : am_F) (tt : am_F) (gg : am_F) (aa : am_F) (dd : am_F) (bd : am_F) (ga : am_F) (im : am_F) (hTp : TpI ee)  (hd : 1 ≤ d) : ∀ (n : Nat) (kk : am_F), kk 0 1 - kk 0 2 < n → RdI kk → (∀ (kk' : am_F), kk' = am_wh (w_c_peek_0 ee) n kk → RdI kk' → am_T S zX6_peek d u Q 38 [some (aR 53)] [] (hfW w hb sp rb rs hb po ro ee hh ss uu vv pp kk' rr tt gg aa dd bd ga im)) → am_T S zX6_peek d u Q 0 [some (aR 53)] [] (hfW w hb sp rb rs hb po ro ee hh ss uu vv pp kk rr tt gg aa dd bd ga im) := by
  intro n
  induction n with
  | zero =>
    intro kk hm9 hinv k9
    have hP := hinv
    have hP9 := hP
    obtain ⟨⟨vr1, vr2⟩, vr3, vr4, vr5⟩ := hP9
    exfalso; omega
  | succ n ih =>
    intro kk hm9 hinv k9
    have hP := hinv
    have hP9 := hP
    obtain ⟨⟨vr1, vr2⟩, vr3, vr4, vr5⟩ := hP9
    refine T_aload_n (am_dec tX6_peek_0 0 rfl) rfl ?_
    refine T_getfield 7 2 (am_dec tX6_peek_0 1 rfl) flX6_25_7 (show (hfW w hb sp rb rs hb po ro ee hh ss uu vv pp kk rr tt gg aa dd bd ga im)[53]? = some (cO 7 [aR 51, aI (kk 0 1), aI (kk 0 2), aI (kk 0 3), aI (kk 0 4), aI (kk 0 5), ro]) from (hfW_c hl 53 (by decide))) rfl ?_
    refine T_aload_n (am_dec tX6_peek_0 2 rfl) rfl ?_
    refine T_getfield 7 1 (am_dec tX6_peek_0 3 rfl) flX6_21_7 (show (hfW w hb sp rb rs hb po ro ee hh ss uu vv pp kk rr tt gg aa dd bd ga im)[53]? = some (cO 7 [aR 51, aI (kk 0 1), aI (kk 0 2), aI (kk 0 3), aI (kk 0 4), aI (kk 0 5), ro]) from (hfW_c hl 53 (by decide))) rfl ?_
    refine T_icmp_ge 38 (am_dec tX6_peek_0 4 rfl) rfl (fun h8 => ?_) (fun h8 => ?_)
    · have e9 : (w_c_peek_0 ee) kk = .inr kk := (if_pos h8)
      simp only [am_wh_r e9] at k9
      exact k9 _ rfl hinv
    · refine T_aload_n (am_dec tX6_peek_0 5 rfl) rfl ?_
      refine T_getfield 7 0 (am_dec tX6_peek_0 6 rfl) flX6_9_7 (show (hfW w hb sp rb rs hb po ro ee hh ss uu vv pp kk rr tt gg aa dd bd ga im)[53]? = some (cO 7 [aR 51, aI (kk 0 1), aI (kk 0 2), aI (kk 0 3), aI (kk 0 4), aI (kk 0 5), ro]) from (hfW_c hl 53 (by decide))) rfl ?_
      refine T_aload_n (am_dec tX6_peek_0 7 rfl) rfl ?_
      refine T_getfield 7 2 (am_dec tX6_peek_0 8 rfl) flX6_25_7 (show (hfW w hb sp rb rs hb po ro ee hh ss uu vv pp kk rr tt gg aa dd bd ga im)[53]? = some (cO 7 [aR 51, aI (kk 0 1), aI (kk 0 2), aI (kk 0 3), aI (kk 0 4), aI (kk 0 5), ro]) from (hfW_c hl 53 (by decide))) rfl ?_
      refine T_ialoadE (x := (ee 1) (kk 0 2).toNat) (am_dec tX6_peek_0 9 rfl) (show (hfW w hb sp rb rs hb po ro ee hh ss uu vv pp kk rr tt gg aa dd bd ga im)[51]? = some (cP 0 600 (ee 1)) from (hfW_c hl 51 (by decide))) (by omega) (by omega) rfl ?_
      refine T_bipush 32 (am_dec tX6_peek_0 10 rfl) rfl ⟨by decide, by decide⟩ ?_
      refine T_icmp_ne 38 (am_dec tX6_peek_0 11 rfl) rfl (fun h22 => ?_) (fun h22 => ?_)
      · have e9 : (w_c_peek_0 ee) kk = .inr kk := ((if_neg h8).trans (if_neg h22))
        simp only [am_wh_r e9] at k9
        exact k9 _ rfl hinv
      · refine T_aload_n (am_dec tX6_peek_0 12 rfl) rfl ?_
        refine T_dup (am_dec tX6_peek_0 13 rfl) rfl ?_
        refine T_getfield 7 2 (am_dec tX6_peek_0 14 rfl) flX6_25_7 (show (hfW w hb sp rb rs hb po ro ee hh ss uu vv pp kk rr tt gg aa dd bd ga im)[53]? = some (cO 7 [aR 51, aI (kk 0 1), aI (kk 0 2), aI (kk 0 3), aI (kk 0 4), aI (kk 0 5), ro]) from (hfW_c hl 53 (by decide))) rfl ?_
        refine T_iconst 1 (am_dec tX6_peek_0 15 rfl) rfl ⟨by decide, by decide⟩ ?_
        refine T_iadd ((kk 0 2) + 1) (am_dec tX6_peek_0 16 rfl) rfl ⟨by omega, by omega⟩ ?_
        refine T_putfield (fs' := [aR 51, aI (kk 0 1), aI ((kk 0 2) + 1), aI (kk 0 3), aI (kk 0 4), aI (kk 0 5), ro]) 7 2 (am_dec tX6_peek_0 17 rfl) flX6_25_7 rfl rfl rfl trivial (show (hfW w hb sp rb rs hb po ro ee hh ss uu vv pp kk rr tt gg aa dd bd ga im)[53]? = some (cO 7 [aR 51, aI (kk 0 1), aI (kk 0 2), aI (kk 0 3), aI (kk 0 4), aI (kk 0 5), ro]) from (hfW_c hl 53 (by decide))) (Nat.le_of_ble_eq_true rfl) rfl ?_
        refine am_wE (w2 := hfW w hb sp rb rs hb po ro ee hh ss uu vv pp (am_put kk 0 2 ((kk 0 2) + 1)) rr tt gg aa dd bd ga im) (hf_kk2 hl) ?_
        refine T_goto 0 (am_dec tX6_peek_0 18 rfl) rfl ?_
        have e9 : (w_c_peek_0 ee) kk = .inl (am_put kk 0 2 ((kk 0 2) + 1)) := ((if_neg h8).trans (if_pos h22))
        simp only [am_wh_l e9] at k9
        exact ih (am_put kk 0 2 ((kk 0 2) + 1)) (by show kk 0 1 - (kk 0 2 + 1) < _; omega) ⟨⟨by show 0 ≤ kk 0 2 + 1; omega, by show kk 0 2 + 1 ≤ kk 0 1; omega⟩, vr3, vr4, vr5⟩ k9
theorem md_peek {S : am_S} {d u : Nat} {w : AH} {hb sp rb rs : Nat} {po ro : AV} (hl : 109 ≤ w.length) (hp : hb = 1 ∧ sp = 21 ∨ hb = 21 ∧ sp = 1) (hr : rb = 41 ∧ rs = 46 ∨ rb = 46 ∧ rs = 41) {ee : am_F} {hh : am_F} {ss : am_F} {uu : am_F} {vv : am_F} {pp : am_F} {kk : am_F} {rr : am_F} {tt : am_F} {gg : am_F} {aa : am_F} {dd : am_F} {bd : am_F} {ga : am_F} {im : am_F}  (hP : RdI kk) (hTp : TpI ee)  (hd : 1 ≤ d) : am_Out S zX6_peek d u [aR 53] (hfW w hb sp rb rs hb po ro ee hh ss uu vv pp kk rr tt gg aa dd bd ga im) (.inl (some (aI ((c_peek ee kk).1)))) (hfW w hb sp rb rs hb po ro ee hh ss uu vv pp ((c_peek ee kk).2) rr tt gg aa dd bd ga im) := by
  have key : ∀ Q : AO → AH → Prop, Q (.inl (some (aI ((c_peek ee kk).1)))) (hfW w hb sp rb rs hb po ro ee hh ss uu vv pp ((c_peek ee kk).2) rr tt gg aa dd bd ga im) → am_M S zX6_peek d u [aR 53] (hfW w hb sp rb rs hb po ro ee hh ss uu vv pp kk rr tt gg aa dd bd ga im) Q := by
    intro Q hQ
    refine am_body rfl (by decide +kernel) rfl (am_cats_cons rfl (am_cats_nil)) (Nat.le_of_ble_eq_true rfl) (?_ : am_T _ _ _ _ _ 0 [some (aR 53)] [] (hfW w hb sp rb rs hb po ro ee hh ss uu vv pp kk rr tt gg aa dd bd ga im))
    have hP9 := hP
    obtain ⟨⟨vr1, vr2⟩, vr3, vr4, vr5⟩ := hP9
    refine L_d_peek_0 hl hp hr ee hh ss uu vv pp rr tt gg aa dd bd ga im hTp  (by omega) 601 kk (by show kk 0 1 - kk 0 2 < 601; omega) hP (fun kk0 hkk0 hv0 => ?_)
    have hP0 := hv0
    obtain ⟨⟨wr1, wr2⟩, wr3, wr4, wr5⟩ := hP0
    refine T_aload_n (am_dec tX6_peek_0 19 rfl) rfl ?_
    refine T_getfield 7 2 (am_dec tX6_peek_0 20 rfl) flX6_25_7 (show (hfW w hb sp rb rs hb po ro ee hh ss uu vv pp kk0 rr tt gg aa dd bd ga im)[53]? = some (cO 7 [aR 51, aI (kk0 0 1), aI (kk0 0 2), aI (kk0 0 3), aI (kk0 0 4), aI (kk0 0 5), ro]) from (hfW_c hl 53 (by decide))) rfl ?_
    refine T_aload_n (am_dec tX6_peek_0 21 rfl) rfl ?_
    refine T_getfield 7 1 (am_dec tX6_peek_0 22 rfl) flX6_21_7 (show (hfW w hb sp rb rs hb po ro ee hh ss uu vv pp kk0 rr tt gg aa dd bd ga im)[53]? = some (cO 7 [aR 51, aI (kk0 0 1), aI (kk0 0 2), aI (kk0 0 3), aI (kk0 0 4), aI (kk0 0 5), ro]) from (hfW_c hl 53 (by decide))) rfl ?_
    have K46 : ∀ (t46 : Int), t46 = (if kk0 0 1 ≤ kk0 0 2 then (-1) else ((ee 1) (kk0 0 2).toNat)) →  am_T S zX6_peek d u Q 62 [none] [aI t46] (hfW w hb sp rb rs hb po ro ee hh ss uu vv pp kk0 rr tt gg aa dd bd ga im) := by
      intro t46 ht46 
      exact T_ireturn (am_dec tX6_peek_0 31 rfl) rfl (am_tr (fun (x9 : Int × am_F) => Q (.inl (some (aI (x9.1)))) (hfW w hb sp rb rs hb po ro ee hh ss uu vv pp x9.2 rr tt gg aa dd bd ga im)) (y := (t46, kk0)) (show (c_peek ee kk) = (t46, kk0) from (by have s9 := hkk0.symm; subst s9; have s9 := ht46.symm; subst s9; exact rfl)) hQ)
    refine T_icmp_ge 61 (am_dec tX6_peek_0 23 rfl) rfl (fun h46 => ?_) (fun h46 => ?_)
    · refine T_iconst (-1) (am_dec tX6_peek_0 30 rfl) rfl ⟨by decide, by decide⟩ ?_
      refine T_weak (ls' := [none]) (am_sub_n am_sub_nil) ?_
      exact K46 _ (if_pos h46).symm 
    · refine T_aload_n (am_dec tX6_peek_0 24 rfl) rfl ?_
      refine T_getfield 7 0 (am_dec tX6_peek_0 25 rfl) flX6_9_7 (show (hfW w hb sp rb rs hb po ro ee hh ss uu vv pp kk0 rr tt gg aa dd bd ga im)[53]? = some (cO 7 [aR 51, aI (kk0 0 1), aI (kk0 0 2), aI (kk0 0 3), aI (kk0 0 4), aI (kk0 0 5), ro]) from (hfW_c hl 53 (by decide))) rfl ?_
      refine T_aload_n (am_dec tX6_peek_0 26 rfl) rfl ?_
      refine T_getfield 7 2 (am_dec tX6_peek_0 27 rfl) flX6_25_7 (show (hfW w hb sp rb rs hb po ro ee hh ss uu vv pp kk0 rr tt gg aa dd bd ga im)[53]? = some (cO 7 [aR 51, aI (kk0 0 1), aI (kk0 0 2), aI (kk0 0 3), aI (kk0 0 4), aI (kk0 0 5), ro]) from (hfW_c hl 53 (by decide))) rfl ?_
      refine T_ialoadE (x := (ee 1) (kk0 0 2).toNat) (am_dec tX6_peek_0 28 rfl) (show (hfW w hb sp rb rs hb po ro ee hh ss uu vv pp kk0 rr tt gg aa dd bd ga im)[51]? = some (cP 0 600 (ee 1)) from (hfW_c hl 51 (by decide))) (by omega) (by omega) rfl ?_
      refine T_goto 62 (am_dec tX6_peek_0 29 rfl) rfl ?_
      refine T_weak (ls' := [none]) (am_sub_n am_sub_nil) ?_
      exact K46 _ (if_neg h46).symm 
  exact key _ ⟨rfl, rfl⟩
theorem L_d_number_43 {S : am_S} {d u : Nat} {Q : AO → AH → Prop} {w : AH} {hb sp rb rs : Nat} {po ro : AV} (hl : 109 ≤ w.length) (hp : hb = 1 ∧ sp = 21 ∨ hb = 21 ∧ sp = 1) (hr : rb = 41 ∧ rs = 46 ∨ rb = 46 ∧ rs = 41) (ee : am_F) (hh : am_F) (ss : am_F) (uu : am_F) (vv : am_F) (pp : am_F) (rr : am_F) (tt : am_F) (gg : am_F) (aa : am_F) (dd : am_F) (bd : am_F) (ga : am_F) (im : am_F) (lo : Int) (hi : Int) (hTp : TpI ee)  (hd : 2 ≤ d) : ∀ (n : Nat) (v : Int) (kk : am_F), kk 0 1 - kk 0 2 < n → RdI kk ∧ 0 ≤ v ∧ v ≤ 100000 → (∀ (v' : Int) (kk' : am_F), v' = (am_wh (w_c_number_43 ee) n (v, kk)).1 → kk' = (am_wh (w_c_number_43 ee) n (v, kk)).2 → RdI kk' ∧ 0 ≤ v' ∧ v' ≤ 100000 → am_T S zX6_number d u Q 105 [some (aR 53), some (aI lo), some (aI hi), none, some (aI v')] [] (hfW w hb sp rb rs hb po ro ee hh ss uu vv pp kk' rr tt gg aa dd bd ga im)) → am_T S zX6_number d u Q 43 [some (aR 53), some (aI lo), some (aI hi), none, some (aI v)] [] (hfW w hb sp rb rs hb po ro ee hh ss uu vv pp kk rr tt gg aa dd bd ga im) := by
  intro n
  induction n with
  | zero =>
    intro v kk hm9 hinv k9
    have hP := hinv.1
    have hP9 := hP
    obtain ⟨⟨vr1, vr2⟩, vr3, vr4, vr5⟩ := hP9
    exfalso; omega
  | succ n ih =>
    intro v kk hm9 hinv k9
    have hP := hinv.1
    have hP9 := hP
    obtain ⟨⟨vr1, vr2⟩, vr3, vr4, vr5⟩ := hP9
    refine T_aload_n (am_dec tX6_number_0 24 rfl) rfl ?_
    refine T_getfield 7 2 (am_dec tX6_number_0 25 rfl) flX6_25_7 (show (hfW w hb sp rb rs hb po ro ee hh ss uu vv pp kk rr tt gg aa dd bd ga im)[53]? = some (cO 7 [aR 51, aI (kk 0 1), aI (kk 0 2), aI (kk 0 3), aI (kk 0 4), aI (kk 0 5), ro]) from (hfW_c hl 53 (by decide))) rfl ?_
    refine T_aload_n (am_dec tX6_number_0 26 rfl) rfl ?_
    refine T_getfield 7 1 (am_dec tX6_number_0 27 rfl) flX6_21_7 (show (hfW w hb sp rb rs hb po ro ee hh ss uu vv pp kk rr tt gg aa dd bd ga im)[53]? = some (cO 7 [aR 51, aI (kk 0 1), aI (kk 0 2), aI (kk 0 3), aI (kk 0 4), aI (kk 0 5), ro]) from (hfW_c hl 53 (by decide))) rfl ?_
    refine T_icmp_ge 105 (am_dec tX6_number_0 28 rfl) rfl (fun h51 => ?_) (fun h51 => ?_)
    · have e9 : (w_c_number_43 ee) (v, kk) = .inr (v, kk) := (if_pos h51)
      simp only [am_wh_r e9] at k9
      exact k9 _ _ rfl rfl hinv
    · refine T_aload_n (am_dec tX6_number_0 29 rfl) rfl ?_
      refine T_aload_n (am_dec tX6_number_0 30 rfl) rfl ?_
      refine T_getfield 7 2 (am_dec tX6_number_0 31 rfl) flX6_25_7 (show (hfW w hb sp rb rs hb po ro ee hh ss uu vv pp kk rr tt gg aa dd bd ga im)[53]? = some (cO 7 [aR 51, aI (kk 0 1), aI (kk 0 2), aI (kk 0 3), aI (kk 0 4), aI (kk 0 5), ro]) from (hfW_c hl 53 (by decide))) rfl ?_
      refine T_callU (as := [aI (kk 0 2)]) rfl (am_dec tX6_number_0 32 rfl) lkX6_53_X8 (show (hfW w hb sp rb rs hb po ro ee hh ss uu vv pp kk rr tt gg aa dd bd ga im)[53]? = some (cO 7 [aR 51, aI (kk 0 1), aI (kk 0 2), aI (kk 0 3), aI (kk 0 4), aI (kk 0 5), ro]) from (hfW_c hl 53 (by decide))) rfl rfl (Nat.le_of_ble_eq_true rfl) (by omega) (md_byteAt (d := d - 1) hl hp hr (kk 0 2)  (by omega) hTp (by omega)) (fun _ => ?_)
      refine T_nm (fun b59 hb59 => ?_)
      have hq59 := c_byteAt_b (pp := kk) hTp (kk 0 2)
      rw [← hb59] at hq59
      refine T_callS (as := [aI b59]) rfl (am_dec tX6_number_0 33 rfl) lkX6_45 rfl (Nat.le_of_ble_eq_true rfl) (by omega) (mc_isDigit (d := d - 1) hl hp hr b59   (by omega)) (fun _ => ?_)
      refine T_nm (fun z62 hz62 => ?_)
      have hb62 := c_isDigit_x b59
      rw [← hz62] at hb62
      refine T_if_eq 105 (am_dec tX6_number_0 34 rfl) rfl (fun h65 => ?_) (fun h65 => ?_)
      · have e9 : (w_c_number_43 ee) (v, kk) = .inr (v, kk) := (by have s9 := hb59.symm; subst s9; have s9 := hz62.symm; subst s9; exact ((if_neg h51).trans (if_pos h65)))
        simp only [am_wh_r e9] at k9
        exact k9 _ _ rfl rfl hinv
      · refine T_ldc 100000 (am_dec tX6_number_0 35 rfl) (am_m4 168 rfl rfl) ⟨by decide, by decide⟩ ?_
        refine T_iload (am_dec tX6_number_0 36 rfl) rfl ?_
        refine T_bipush 10 (am_dec tX6_number_0 37 rfl) rfl ⟨by decide, by decide⟩ ?_
        refine T_imul (v * 10) (am_dec tX6_number_0 38 rfl) rfl ⟨by omega, by omega⟩ ?_
        refine T_aload_n (am_dec tX6_number_0 39 rfl) rfl ?_
        refine T_aload_n (am_dec tX6_number_1 0 rfl) rfl ?_
        refine T_getfield 7 2 (am_dec tX6_number_1 1 rfl) flX6_25_7 (show (hfW w hb sp rb rs hb po ro ee hh ss uu vv pp kk rr tt gg aa dd bd ga im)[53]? = some (cO 7 [aR 51, aI (kk 0 1), aI (kk 0 2), aI (kk 0 3), aI (kk 0 4), aI (kk 0 5), ro]) from (hfW_c hl 53 (by decide))) rfl ?_
        refine T_callU (as := [aI (kk 0 2)]) rfl (am_dec tX6_number_1 2 rfl) lkX6_53_X8 (show (hfW w hb sp rb rs hb po ro ee hh ss uu vv pp kk rr tt gg aa dd bd ga im)[53]? = some (cO 7 [aR 51, aI (kk 0 1), aI (kk 0 2), aI (kk 0 3), aI (kk 0 4), aI (kk 0 5), ro]) from (hfW_c hl 53 (by decide))) rfl rfl (Nat.le_of_ble_eq_true rfl) (by omega) (md_byteAt (d := d - 1) hl hp hr (kk 0 2)  (by omega) hTp (by omega)) (fun _ => ?_)
        refine T_nm (fun b80 hb80 => ?_)
        have hq80 := c_byteAt_b (pp := kk) hTp (kk 0 2)
        rw [← hb80] at hq80
        refine T_iadd ((v * 10) + b80) (am_dec tX6_number_1 3 rfl) rfl ⟨by omega, by omega⟩ ?_
        refine T_bipush 48 (am_dec tX6_number_1 4 rfl) rfl ⟨by decide, by decide⟩ ?_
        refine T_isub (((v * 10) + b80) - 48) (am_dec tX6_number_1 5 rfl) rfl ⟨by omega, by omega⟩ ?_
        refine T_mmin (am_dec tX6_number_1 6 rfl) lkX6_15 (Nat.le_of_ble_eq_true rfl) (by omega) ?_
        obtain ⟨m87, hm87⟩ : ∃ x9 : Int, x9 = (if ((v * 10) + b80) - 48 < 100000 then ((v * 10) + b80) - 48 else 100000) := ⟨_, rfl⟩
        rw [← hm87]
        refine T_istore (ls' := [some (aR 53), some (aI lo), some (aI hi), none, some (aI m87)]) (am_dec tX6_number_1 7 rfl) (by decide) rfl ?_
        refine T_aload_n (am_dec tX6_number_1 8 rfl) rfl ?_
        refine T_dup (am_dec tX6_number_1 9 rfl) rfl ?_
        refine T_getfield 7 2 (am_dec tX6_number_1 10 rfl) flX6_25_7 (show (hfW w hb sp rb rs hb po ro ee hh ss uu vv pp kk rr tt gg aa dd bd ga im)[53]? = some (cO 7 [aR 51, aI (kk 0 1), aI (kk 0 2), aI (kk 0 3), aI (kk 0 4), aI (kk 0 5), ro]) from (hfW_c hl 53 (by decide))) rfl ?_
        refine T_iconst 1 (am_dec tX6_number_1 11 rfl) rfl ⟨by decide, by decide⟩ ?_
        refine T_iadd ((kk 0 2) + 1) (am_dec tX6_number_1 12 rfl) rfl ⟨by omega, by omega⟩ ?_
        refine T_putfield (fs' := [aR 51, aI (kk 0 1), aI ((kk 0 2) + 1), aI (kk 0 3), aI (kk 0 4), aI (kk 0 5), ro]) 7 2 (am_dec tX6_number_1 13 rfl) flX6_25_7 rfl rfl rfl trivial (show (hfW w hb sp rb rs hb po ro ee hh ss uu vv pp kk rr tt gg aa dd bd ga im)[53]? = some (cO 7 [aR 51, aI (kk 0 1), aI (kk 0 2), aI (kk 0 3), aI (kk 0 4), aI (kk 0 5), ro]) from (hfW_c hl 53 (by decide))) (Nat.le_of_ble_eq_true rfl) rfl ?_
        refine am_wE (w2 := hfW w hb sp rb rs hb po ro ee hh ss uu vv pp (am_put kk 0 2 ((kk 0 2) + 1)) rr tt gg aa dd bd ga im) (hf_kk2 hl) ?_
        refine T_goto 43 (am_dec tX6_number_1 14 rfl) rfl ?_
        have e9 : (w_c_number_43 ee) (v, kk) = .inl (m87, (am_put kk 0 2 ((kk 0 2) + 1))) := (by have s9 := hb59.symm; subst s9; have s9 := hz62.symm; subst s9; have s9 := hb80.symm; subst s9; have s9 := hm87.symm; subst s9; exact ((if_neg h51).trans (if_neg h65)))
        simp only [am_wh_l e9] at k9
        exact ih m87 (am_put kk 0 2 ((kk 0 2) + 1)) (by show kk 0 1 - (kk 0 2 + 1) < _; omega) ⟨⟨⟨by show 0 ≤ kk 0 2 + 1; omega, by show kk 0 2 + 1 ≤ kk 0 1; omega⟩, vr3, vr4, vr5⟩, by omega, by omega⟩ k9
theorem md_number {S : am_S} {d u : Nat} {w : AH} {hb sp rb rs : Nat} {po ro : AV} (hl : 109 ≤ w.length) (hp : hb = 1 ∧ sp = 21 ∨ hb = 21 ∧ sp = 1) (hr : rb = 41 ∧ rs = 46 ∨ rb = 46 ∧ rs = 41) {ee : am_F} {hh : am_F} {ss : am_F} {uu : am_F} {vv : am_F} {pp : am_F} {kk : am_F} {rr : am_F} {tt : am_F} {gg : am_F} {aa : am_F} {dd : am_F} {bd : am_F} {ga : am_F} {im : am_F} (lo : Int) (hi : Int) (hP : RdI kk) (hTp : TpI ee)  (hd : 2 ≤ d) : am_Out S zX6_number d u [aR 53, aI lo, aI hi] (hfW w hb sp rb rs hb po ro ee hh ss uu vv pp kk rr tt gg aa dd bd ga im) (.inl (some (aI ((c_number ee kk lo hi).1)))) (hfW w hb sp rb rs hb po ro ee hh ss uu vv pp ((c_number ee kk lo hi).2) rr tt gg aa dd bd ga im) := by
  have key : ∀ Q : AO → AH → Prop, Q (.inl (some (aI ((c_number ee kk lo hi).1)))) (hfW w hb sp rb rs hb po ro ee hh ss uu vv pp ((c_number ee kk lo hi).2) rr tt gg aa dd bd ga im) → am_M S zX6_number d u [aR 53, aI lo, aI hi] (hfW w hb sp rb rs hb po ro ee hh ss uu vv pp kk rr tt gg aa dd bd ga im) Q := by
    intro Q hQ
    refine am_body rfl (by decide +kernel) rfl (am_cats_cons rfl ( am_cats_cons rfl ( am_cats_cons rfl (am_cats_nil)))) (Nat.le_of_ble_eq_true rfl) (?_ : am_T _ _ _ _ _ 0 [some (aR 53), some (aI lo), some (aI hi), none, none] [] (hfW w hb sp rb rs hb po ro ee hh ss uu vv pp kk rr tt gg aa dd bd ga im))
    have hP9 := hP
    obtain ⟨⟨vr1, vr2⟩, vr3, vr4, vr5⟩ := hP9
    refine T_aload_n (am_dec tX6_number_0 0 rfl) rfl ?_
    refine T_callU (as := []) rfl (am_dec tX6_number_0 1 rfl) lkX6_37_X8 (show (hfW w hb sp rb rs hb po ro ee hh ss uu vv pp kk rr tt gg aa dd bd ga im)[53]? = some (cO 7 [aR 51, aI (kk 0 1), aI (kk 0 2), aI (kk 0 3), aI (kk 0 4), aI (kk 0 5), ro]) from (hfW_c hl 53 (by decide))) rfl rfl (Nat.le_of_ble_eq_true rfl) (by omega) (md_fine (d := d - 1) hl hp hr    (by omega)) (fun _ => ?_)
    refine T_nm (fun z1 hz1 => ?_)
    have hb1 := c_fine_b kk
    rw [← hz1] at hb1
    refine T_if_ne 9 (am_dec tX6_number_0 2 rfl) rfl (fun h4 => ?_) (fun h4 => ?_)
    · refine T_aload_n (am_dec tX6_number_0 5 rfl) rfl ?_
      refine T_callU (as := []) rfl (am_dec tX6_number_0 6 rfl) lkX6_41_X8 (show (hfW w hb sp rb rs hb po ro ee hh ss uu vv pp kk rr tt gg aa dd bd ga im)[53]? = some (cO 7 [aR 51, aI (kk 0 1), aI (kk 0 2), aI (kk 0 3), aI (kk 0 4), aI (kk 0 5), ro]) from (hfW_c hl 53 (by decide))) rfl rfl (Nat.le_of_ble_eq_true rfl) (by omega) (md_peek (d := d - 1) hl hp hr   (by omega) hTp (by omega)) (fun _ => ?_)
      obtain ⟨u10, hu10⟩ : ∃ x9, x9 = c_peek ee kk := ⟨_, rfl⟩
      rw [← hu10]
      obtain ⟨hIu10, hvu10, hwu10, hfu10⟩ : RdI u10.2 ∧ (-1 ≤ u10.1 ∧ u10.1 ≤ 255) ∧ (u10.1 = -1 ∨ u10.2 0 2 < u10.2 0 1) ∧ ∀ k j, ¬ (k = 0 ∧ j = 2) → u10.2 k j = kk k j := by rw [hu10]; exact c_peek_x hP hTp
      have hgu10 := hIu10
      obtain ⟨⟨yr101, yr102⟩, yr103, yr104, yr105⟩ := hgu10
      refine T_istore_n (ls' := [some (aR 53), some (aI lo), some (aI hi), some (aI ((u10).1)), none]) (am_dec tX6_number_0 7 rfl) (by decide) rfl ?_
      refine T_aload_n (am_dec tX6_number_0 8 rfl) rfl ?_
      refine T_aload_n (am_dec tX6_number_0 9 rfl) rfl ?_
      refine T_getfield 7 2 (am_dec tX6_number_0 10 rfl) flX6_25_7 (show (hfW w hb sp rb rs hb po ro ee hh ss uu vv pp ((u10).2) rr tt gg aa dd bd ga im)[53]? = some (cO 7 [aR 51, aI ((u10).2 0 1), aI ((u10).2 0 2), aI ((u10).2 0 3), aI ((u10).2 0 4), aI ((u10).2 0 5), ro]) from (hfW_c hl 53 (by decide))) rfl ?_
      refine T_putfield (fs' := [aR 51, aI ((u10).2 0 1), aI ((u10).2 0 2), aI ((u10).2 0 2), aI ((u10).2 0 4), aI ((u10).2 0 5), ro]) 7 3 (am_dec tX6_number_0 11 rfl) flX6_28_7 rfl rfl rfl trivial (show (hfW w hb sp rb rs hb po ro ee hh ss uu vv pp ((u10).2) rr tt gg aa dd bd ga im)[53]? = some (cO 7 [aR 51, aI ((u10).2 0 1), aI ((u10).2 0 2), aI ((u10).2 0 3), aI ((u10).2 0 4), aI ((u10).2 0 5), ro]) from (hfW_c hl 53 (by decide))) (Nat.le_of_ble_eq_true rfl) rfl ?_
      refine am_wE (w2 := hfW w hb sp rb rs hb po ro ee hh ss uu vv pp (am_put (u10).2 0 3 ((u10).2 0 2)) rr tt gg aa dd bd ga im) (hf_kk3 hl) ?_
      refine T_iload_n (am_dec tX6_number_0 12 rfl) rfl ?_
      refine T_callS (as := [aI ((u10).1)]) rfl (am_dec tX6_number_0 13 rfl) lkX6_45 rfl (Nat.le_of_ble_eq_true rfl) (by omega) (mc_isDigit (d := d - 1) hl hp hr ((u10).1)   (by omega)) (fun _ => ?_)
      refine T_nm (fun z23 hz23 => ?_)
      have hb23 := c_isDigit_x ((u10).1)
      rw [← hz23] at hb23
      refine T_if_ne 40 (am_dec tX6_number_0 14 rfl) rfl (fun h26 => ?_) (fun h26 => ?_)
      · refine T_iconst 0 (am_dec tX6_number_0 22 rfl) rfl ⟨by decide, by decide⟩ ?_
        refine T_istore (ls' := [some (aR 53), some (aI lo), some (aI hi), some (aI ((u10).1)), some (aI 0)]) (am_dec tX6_number_0 23 rfl) (by decide) rfl ?_
        refine T_weak (ls' := [some (aR 53), some (aI lo), some (aI hi), none, some (aI 0)]) (am_sub_s (am_sub_s (am_sub_s (am_sub_n (am_sub_s am_sub_nil))))) ?_
        refine L_d_number_43 hl hp hr ee hh ss uu vv pp rr tt gg aa dd bd ga im lo hi hTp  (by omega) 601 0 (am_put (u10).2 0 3 ((u10).2 0 2)) (by show ((u10).2) 0 1 - ((u10).2) 0 2 < 601; omega) ⟨(RdI_3 hIu10), by omega, by omega⟩ (fun v_43 kk43 hv_43 hkk43 hv43 => ?_)
        refine T_iload (am_dec tX6_number_1 15 rfl) rfl ?_
        refine T_iload_n (am_dec tX6_number_1 16 rfl) rfl ?_
        refine T_icmp_lt 117 (am_dec tX6_number_1 17 rfl) rfl (fun h108 => ?_) (fun h108 => ?_)
        · refine T_aload_n (am_dec tX6_number_1 21 rfl) rfl ?_
          refine T_iconst 2 (am_dec tX6_number_1 22 rfl) rfl ⟨by decide, by decide⟩ ?_
          refine T_aload_n (am_dec tX6_number_1 23 rfl) rfl ?_
          refine T_getfield 7 3 (am_dec tX6_number_1 24 rfl) flX6_28_7 (show (hfW w hb sp rb rs hb po ro ee hh ss uu vv pp kk43 rr tt gg aa dd bd ga im)[53]? = some (cO 7 [aR 51, aI (kk43 0 1), aI (kk43 0 2), aI (kk43 0 3), aI (kk43 0 4), aI (kk43 0 5), ro]) from (hfW_c hl 53 (by decide))) rfl ?_
          refine T_callU (as := [aI 2, aI (kk43 0 3)]) rfl (am_dec tX6_number_1 25 rfl) lkX6_49_X8 (show (hfW w hb sp rb rs hb po ro ee hh ss uu vv pp kk43 rr tt gg aa dd bd ga im)[53]? = some (cO 7 [aR 51, aI (kk43 0 1), aI (kk43 0 2), aI (kk43 0 3), aI (kk43 0 4), aI (kk43 0 5), ro]) from (hfW_c hl 53 (by decide))) rfl rfl (Nat.le_of_ble_eq_true rfl) (by omega) (md_wrong (d := d - 1) hl hp hr 2 (kk43 0 3)   (by omega)) (fun _ => ?_)
          refine T_nmH (W := fun x9 => hfW w hb sp rb rs hb po ro ee hh ss uu vv pp x9 rr tt gg aa dd bd ga im) (v := c_wrong kk43 2 (kk43 0 3)) (fun kk123 hkk123 => ?_)
          have hIkk123 : RdI kk123 := by rw [hkk123]; exact c_wrong_I hv43.1 _ _
          refine T_iload_n (am_dec tX6_number_1 26 rfl) rfl ?_
          exact T_ireturn (am_dec tX6_number_1 27 rfl) rfl (am_tr (fun (x9 : Int × am_F) => Q (.inl (some (aI (x9.1)))) (hfW w hb sp rb rs hb po ro ee hh ss uu vv pp x9.2 rr tt gg aa dd bd ga im)) (y := (lo, kk123)) (show (c_number ee kk lo hi) = (lo, kk123) from (by have s9 := hz1.symm; subst s9; have s9 := hu10.symm; subst s9; have s9 := hz23.symm; subst s9; have s9 := hv_43.symm; subst s9; have s9 := hkk43.symm; subst s9; have s9 := hkk123.symm; subst s9; exact ((if_neg h4).trans ((if_neg h26).trans (if_pos h108))))) hQ)
        · refine T_iload (am_dec tX6_number_1 18 rfl) rfl ?_
          refine T_iload_n (am_dec tX6_number_1 19 rfl) rfl ?_
          refine T_icmp_le 128 (am_dec tX6_number_1 20 rfl) rfl (fun h114 => ?_) (fun h114 => ?_)
          · refine T_iload (am_dec tX6_number_1 28 rfl) rfl ?_
            exact T_ireturn (am_dec tX6_number_1 29 rfl) rfl (am_tr (fun (x9 : Int × am_F) => Q (.inl (some (aI (x9.1)))) (hfW w hb sp rb rs hb po ro ee hh ss uu vv pp x9.2 rr tt gg aa dd bd ga im)) (y := (v_43, kk43)) (show (c_number ee kk lo hi) = (v_43, kk43) from (by have s9 := hz1.symm; subst s9; have s9 := hu10.symm; subst s9; have s9 := hz23.symm; subst s9; have s9 := hv_43.symm; subst s9; have s9 := hkk43.symm; subst s9; exact ((if_neg h4).trans ((if_neg h26).trans ((if_neg h108).trans (if_pos h114)))))) hQ)
          · refine T_aload_n (am_dec tX6_number_1 21 rfl) rfl ?_
            refine T_iconst 2 (am_dec tX6_number_1 22 rfl) rfl ⟨by decide, by decide⟩ ?_
            refine T_aload_n (am_dec tX6_number_1 23 rfl) rfl ?_
            refine T_getfield 7 3 (am_dec tX6_number_1 24 rfl) flX6_28_7 (show (hfW w hb sp rb rs hb po ro ee hh ss uu vv pp kk43 rr tt gg aa dd bd ga im)[53]? = some (cO 7 [aR 51, aI (kk43 0 1), aI (kk43 0 2), aI (kk43 0 3), aI (kk43 0 4), aI (kk43 0 5), ro]) from (hfW_c hl 53 (by decide))) rfl ?_
            refine T_callU (as := [aI 2, aI (kk43 0 3)]) rfl (am_dec tX6_number_1 25 rfl) lkX6_49_X8 (show (hfW w hb sp rb rs hb po ro ee hh ss uu vv pp kk43 rr tt gg aa dd bd ga im)[53]? = some (cO 7 [aR 51, aI (kk43 0 1), aI (kk43 0 2), aI (kk43 0 3), aI (kk43 0 4), aI (kk43 0 5), ro]) from (hfW_c hl 53 (by decide))) rfl rfl (Nat.le_of_ble_eq_true rfl) (by omega) (md_wrong (d := d - 1) hl hp hr 2 (kk43 0 3)   (by omega)) (fun _ => ?_)
            refine T_nmH (W := fun x9 => hfW w hb sp rb rs hb po ro ee hh ss uu vv pp x9 rr tt gg aa dd bd ga im) (v := c_wrong kk43 2 (kk43 0 3)) (fun kk123 hkk123 => ?_)
            have hIkk123 : RdI kk123 := by rw [hkk123]; exact c_wrong_I hv43.1 _ _
            refine T_iload_n (am_dec tX6_number_1 26 rfl) rfl ?_
            exact T_ireturn (am_dec tX6_number_1 27 rfl) rfl (am_tr (fun (x9 : Int × am_F) => Q (.inl (some (aI (x9.1)))) (hfW w hb sp rb rs hb po ro ee hh ss uu vv pp x9.2 rr tt gg aa dd bd ga im)) (y := (lo, kk123)) (show (c_number ee kk lo hi) = (lo, kk123) from (by have s9 := hz1.symm; subst s9; have s9 := hu10.symm; subst s9; have s9 := hz23.symm; subst s9; have s9 := hv_43.symm; subst s9; have s9 := hkk43.symm; subst s9; have s9 := hkk123.symm; subst s9; exact ((if_neg h4).trans ((if_neg h26).trans ((if_neg h108).trans (if_neg h114)))))) hQ)
      · refine T_aload_n (am_dec tX6_number_0 15 rfl) rfl ?_
        refine T_iconst 1 (am_dec tX6_number_0 16 rfl) rfl ⟨by decide, by decide⟩ ?_
        refine T_aload_n (am_dec tX6_number_0 17 rfl) rfl ?_
        refine T_getfield 7 2 (am_dec tX6_number_0 18 rfl) flX6_25_7 (show (hfW w hb sp rb rs hb po ro ee hh ss uu vv pp (am_put (u10).2 0 3 ((u10).2 0 2)) rr tt gg aa dd bd ga im)[53]? = some (cO 7 [aR 51, aI ((u10).2 0 1), aI ((u10).2 0 2), aI ((u10).2 0 2), aI ((u10).2 0 4), aI ((u10).2 0 5), ro]) from (hfW_c hl 53 (by decide))) rfl ?_
        refine T_callU (as := [aI 1, aI ((u10).2 0 2)]) rfl (am_dec tX6_number_0 19 rfl) lkX6_49_X8 (show (hfW w hb sp rb rs hb po ro ee hh ss uu vv pp (am_put (u10).2 0 3 ((u10).2 0 2)) rr tt gg aa dd bd ga im)[53]? = some (cO 7 [aR 51, aI ((u10).2 0 1), aI ((u10).2 0 2), aI ((u10).2 0 2), aI ((u10).2 0 4), aI ((u10).2 0 5), ro]) from (hfW_c hl 53 (by decide))) rfl rfl (Nat.le_of_ble_eq_true rfl) (by omega) (md_wrong (d := d - 1) hl hp hr 1 ((u10).2 0 2)   (by omega)) (fun _ => ?_)
        refine T_nmH (W := fun x9 => hfW w hb sp rb rs hb po ro ee hh ss uu vv pp x9 rr tt gg aa dd bd ga im) (v := c_wrong (am_put (u10).2 0 3 ((u10).2 0 2)) 1 ((u10).2 0 2)) (fun kk35 hkk35 => ?_)
        have hIkk35 : RdI kk35 := by rw [hkk35]; exact c_wrong_I (RdI_3 hIu10) _ _
        refine T_iload_n (am_dec tX6_number_0 20 rfl) rfl ?_
        exact T_ireturn (am_dec tX6_number_0 21 rfl) rfl (am_tr (fun (x9 : Int × am_F) => Q (.inl (some (aI (x9.1)))) (hfW w hb sp rb rs hb po ro ee hh ss uu vv pp x9.2 rr tt gg aa dd bd ga im)) (y := (lo, kk35)) (show (c_number ee kk lo hi) = (lo, kk35) from (by have s9 := hz1.symm; subst s9; have s9 := hu10.symm; subst s9; have s9 := hz23.symm; subst s9; have s9 := hkk35.symm; subst s9; exact ((if_neg h4).trans (if_pos h26)))) hQ)
    · refine T_iload_n (am_dec tX6_number_0 3 rfl) rfl ?_
      exact T_ireturn (am_dec tX6_number_0 4 rfl) rfl (am_tr (fun (x9 : Int × am_F) => Q (.inl (some (aI (x9.1)))) (hfW w hb sp rb rs hb po ro ee hh ss uu vv pp x9.2 rr tt gg aa dd bd ga im)) (y := (lo, kk)) (show (c_number ee kk lo hi) = (lo, kk) from (by have s9 := hz1.symm; subst s9; exact (if_pos h4))) hQ)
  exact key _ ⟨rfl, rfl⟩
theorem L_d_word_40 {S : am_S} {d u : Nat} {Q : AO → AH → Prop} {w : AH} {hb sp rb rs : Nat} {po ro : AV} (hl : 109 ≤ w.length) (hp : hb = 1 ∧ sp = 21 ∨ hb = 21 ∧ sp = 1) (hr : rb = 41 ∧ rs = 46 ∨ rb = 46 ∧ rs = 41) (ee : am_F) (hh : am_F) (ss : am_F) (uu : am_F) (vv : am_F) (pp : am_F) (rr : am_F) (tt : am_F) (gg : am_F) (aa : am_F) (dd : am_F) (bd : am_F) (ga : am_F) (im : am_F) (hTp : TpI ee)  (hd : 2 ≤ d) : ∀ (n : Nat) (kk : am_F), kk 0 1 - kk 0 2 < n → RdI kk → (∀ (kk' : am_F), kk' = am_wh (w_c_word_40 ee) n kk → RdI kk' → am_T S zX6_word d u Q 78 [some (aR 53), none] [] (hfW w hb sp rb rs hb po ro ee hh ss uu vv pp kk' rr tt gg aa dd bd ga im)) → am_T S zX6_word d u Q 40 [some (aR 53), none] [] (hfW w hb sp rb rs hb po ro ee hh ss uu vv pp kk rr tt gg aa dd bd ga im) := by
  intro n
  induction n with
  | zero =>
    intro kk hm9 hinv k9
    have hP := hinv
    have hP9 := hP
    obtain ⟨⟨vr1, vr2⟩, vr3, vr4, vr5⟩ := hP9
    exfalso; omega
  | succ n ih =>
    intro kk hm9 hinv k9
    have hP := hinv
    have hP9 := hP
    obtain ⟨⟨vr1, vr2⟩, vr3, vr4, vr5⟩ := hP9
    refine T_aload_n (am_dec tX6_word_0 22 rfl) rfl ?_
    refine T_getfield 7 2 (am_dec tX6_word_0 23 rfl) flX6_25_7 (show (hfW w hb sp rb rs hb po ro ee hh ss uu vv pp kk rr tt gg aa dd bd ga im)[53]? = some (cO 7 [aR 51, aI (kk 0 1), aI (kk 0 2), aI (kk 0 3), aI (kk 0 4), aI (kk 0 5), ro]) from (hfW_c hl 53 (by decide))) rfl ?_
    refine T_aload_n (am_dec tX6_word_0 24 rfl) rfl ?_
    refine T_getfield 7 1 (am_dec tX6_word_0 25 rfl) flX6_21_7 (show (hfW w hb sp rb rs hb po ro ee hh ss uu vv pp kk rr tt gg aa dd bd ga im)[53]? = some (cO 7 [aR 51, aI (kk 0 1), aI (kk 0 2), aI (kk 0 3), aI (kk 0 4), aI (kk 0 5), ro]) from (hfW_c hl 53 (by decide))) rfl ?_
    refine T_icmp_ge 78 (am_dec tX6_word_0 26 rfl) rfl (fun h48 => ?_) (fun h48 => ?_)
    · have e9 : (w_c_word_40 ee) kk = .inr kk := (if_pos h48)
      simp only [am_wh_r e9] at k9
      exact k9 _ rfl hinv
    · refine T_aload_n (am_dec tX6_word_0 27 rfl) rfl ?_
      refine T_aload_n (am_dec tX6_word_0 28 rfl) rfl ?_
      refine T_getfield 7 2 (am_dec tX6_word_0 29 rfl) flX6_25_7 (show (hfW w hb sp rb rs hb po ro ee hh ss uu vv pp kk rr tt gg aa dd bd ga im)[53]? = some (cO 7 [aR 51, aI (kk 0 1), aI (kk 0 2), aI (kk 0 3), aI (kk 0 4), aI (kk 0 5), ro]) from (hfW_c hl 53 (by decide))) rfl ?_
      refine T_callU (as := [aI (kk 0 2)]) rfl (am_dec tX6_word_0 30 rfl) lkX6_53_X8 (show (hfW w hb sp rb rs hb po ro ee hh ss uu vv pp kk rr tt gg aa dd bd ga im)[53]? = some (cO 7 [aR 51, aI (kk 0 1), aI (kk 0 2), aI (kk 0 3), aI (kk 0 4), aI (kk 0 5), ro]) from (hfW_c hl 53 (by decide))) rfl rfl (Nat.le_of_ble_eq_true rfl) (by omega) (md_byteAt (d := d - 1) hl hp hr (kk 0 2)  (by omega) hTp (by omega)) (fun _ => ?_)
      refine T_nm (fun b56 hb56 => ?_)
      have hq56 := c_byteAt_b (pp := kk) hTp (kk 0 2)
      rw [← hb56] at hq56
      refine T_callS (as := [aI b56]) rfl (am_dec tX6_word_0 31 rfl) lkX6_58 rfl (Nat.le_of_ble_eq_true rfl) (by omega) (mc_isLetter (d := d - 1) hl hp hr b56   (by omega)) (fun _ => ?_)
      refine T_nm (fun z59 hz59 => ?_)
      have hb59 := c_isLetter_x b56
      rw [← hz59] at hb59
      refine T_if_eq 78 (am_dec tX6_word_0 32 rfl) rfl (fun h62 => ?_) (fun h62 => ?_)
      · have e9 : (w_c_word_40 ee) kk = .inr kk := (by have s9 := hb56.symm; subst s9; have s9 := hz59.symm; subst s9; exact ((if_neg h48).trans (if_pos h62)))
        simp only [am_wh_r e9] at k9
        exact k9 _ rfl hinv
      · refine T_aload_n (am_dec tX6_word_0 33 rfl) rfl ?_
        refine T_dup (am_dec tX6_word_0 34 rfl) rfl ?_
        refine T_getfield 7 2 (am_dec tX6_word_0 35 rfl) flX6_25_7 (show (hfW w hb sp rb rs hb po ro ee hh ss uu vv pp kk rr tt gg aa dd bd ga im)[53]? = some (cO 7 [aR 51, aI (kk 0 1), aI (kk 0 2), aI (kk 0 3), aI (kk 0 4), aI (kk 0 5), ro]) from (hfW_c hl 53 (by decide))) rfl ?_
        refine T_iconst 1 (am_dec tX6_word_0 36 rfl) rfl ⟨by decide, by decide⟩ ?_
        refine T_iadd ((kk 0 2) + 1) (am_dec tX6_word_0 37 rfl) rfl ⟨by omega, by omega⟩ ?_
        refine T_putfield (fs' := [aR 51, aI (kk 0 1), aI ((kk 0 2) + 1), aI (kk 0 3), aI (kk 0 4), aI (kk 0 5), ro]) 7 2 (am_dec tX6_word_0 38 rfl) flX6_25_7 rfl rfl rfl trivial (show (hfW w hb sp rb rs hb po ro ee hh ss uu vv pp kk rr tt gg aa dd bd ga im)[53]? = some (cO 7 [aR 51, aI (kk 0 1), aI (kk 0 2), aI (kk 0 3), aI (kk 0 4), aI (kk 0 5), ro]) from (hfW_c hl 53 (by decide))) (Nat.le_of_ble_eq_true rfl) rfl ?_
        refine am_wE (w2 := hfW w hb sp rb rs hb po ro ee hh ss uu vv pp (am_put kk 0 2 ((kk 0 2) + 1)) rr tt gg aa dd bd ga im) (hf_kk2 hl) ?_
        refine T_goto 40 (am_dec tX6_word_0 39 rfl) rfl ?_
        have e9 : (w_c_word_40 ee) kk = .inl (am_put kk 0 2 ((kk 0 2) + 1)) := (by have s9 := hb56.symm; subst s9; have s9 := hz59.symm; subst s9; exact ((if_neg h48).trans (if_neg h62)))
        simp only [am_wh_l e9] at k9
        exact ih (am_put kk 0 2 ((kk 0 2) + 1)) (by show kk 0 1 - (kk 0 2 + 1) < _; omega) ⟨⟨by show 0 ≤ kk 0 2 + 1; omega, by show kk 0 2 + 1 ≤ kk 0 1; omega⟩, vr3, vr4, vr5⟩ k9
theorem md_word {S : am_S} {d u : Nat} {w : AH} {hb sp rb rs : Nat} {po ro : AV} (hl : 109 ≤ w.length) (hp : hb = 1 ∧ sp = 21 ∨ hb = 21 ∧ sp = 1) (hr : rb = 41 ∧ rs = 46 ∨ rb = 46 ∧ rs = 41) {ee : am_F} {hh : am_F} {ss : am_F} {uu : am_F} {vv : am_F} {pp : am_F} {kk : am_F} {rr : am_F} {tt : am_F} {gg : am_F} {aa : am_F} {dd : am_F} {bd : am_F} {ga : am_F} {im : am_F}  (hP : RdI kk) (hTp : TpI ee)  (hd : 2 ≤ d) : am_Out S zX6_word d u [aR 53] (hfW w hb sp rb rs hb po ro ee hh ss uu vv pp kk rr tt gg aa dd bd ga im) (.inl (some (aI ((c_word ee kk).1)))) (hfW w hb sp rb rs hb po ro ee hh ss uu vv pp ((c_word ee kk).2) rr tt gg aa dd bd ga im) := by
  have key : ∀ Q : AO → AH → Prop, Q (.inl (some (aI ((c_word ee kk).1)))) (hfW w hb sp rb rs hb po ro ee hh ss uu vv pp ((c_word ee kk).2) rr tt gg aa dd bd ga im) → am_M S zX6_word d u [aR 53] (hfW w hb sp rb rs hb po ro ee hh ss uu vv pp kk rr tt gg aa dd bd ga im) Q := by
    intro Q hQ
    refine am_body rfl (by decide +kernel) rfl (am_cats_cons rfl (am_cats_nil)) (Nat.le_of_ble_eq_true rfl) (?_ : am_T _ _ _ _ _ 0 [some (aR 53), none] [] (hfW w hb sp rb rs hb po ro ee hh ss uu vv pp kk rr tt gg aa dd bd ga im))
    have hP9 := hP
    obtain ⟨⟨vr1, vr2⟩, vr3, vr4, vr5⟩ := hP9
    refine T_aload_n (am_dec tX6_word_0 0 rfl) rfl ?_
    refine T_callU (as := []) rfl (am_dec tX6_word_0 1 rfl) lkX6_37_X8 (show (hfW w hb sp rb rs hb po ro ee hh ss uu vv pp kk rr tt gg aa dd bd ga im)[53]? = some (cO 7 [aR 51, aI (kk 0 1), aI (kk 0 2), aI (kk 0 3), aI (kk 0 4), aI (kk 0 5), ro]) from (hfW_c hl 53 (by decide))) rfl rfl (Nat.le_of_ble_eq_true rfl) (by omega) (md_fine (d := d - 1) hl hp hr    (by omega)) (fun _ => ?_)
    refine T_nm (fun z1 hz1 => ?_)
    have hb1 := c_fine_b kk
    rw [← hz1] at hb1
    refine T_if_ne 9 (am_dec tX6_word_0 2 rfl) rfl (fun h4 => ?_) (fun h4 => ?_)
    · refine T_aload_n (am_dec tX6_word_0 5 rfl) rfl ?_
      refine T_callU (as := []) rfl (am_dec tX6_word_0 6 rfl) lkX6_41_X8 (show (hfW w hb sp rb rs hb po ro ee hh ss uu vv pp kk rr tt gg aa dd bd ga im)[53]? = some (cO 7 [aR 51, aI (kk 0 1), aI (kk 0 2), aI (kk 0 3), aI (kk 0 4), aI (kk 0 5), ro]) from (hfW_c hl 53 (by decide))) rfl rfl (Nat.le_of_ble_eq_true rfl) (by omega) (md_peek (d := d - 1) hl hp hr   (by omega) hTp (by omega)) (fun _ => ?_)
      obtain ⟨u10, hu10⟩ : ∃ x9, x9 = c_peek ee kk := ⟨_, rfl⟩
      rw [← hu10]
      obtain ⟨hIu10, hvu10, hwu10, hfu10⟩ : RdI u10.2 ∧ (-1 ≤ u10.1 ∧ u10.1 ≤ 255) ∧ (u10.1 = -1 ∨ u10.2 0 2 < u10.2 0 1) ∧ ∀ k j, ¬ (k = 0 ∧ j = 2) → u10.2 k j = kk k j := by rw [hu10]; exact c_peek_x hP hTp
      have hgu10 := hIu10
      obtain ⟨⟨yr101, yr102⟩, yr103, yr104, yr105⟩ := hgu10
      refine T_istore_n (ls' := [some (aR 53), some (aI ((u10).1))]) (am_dec tX6_word_0 7 rfl) (by decide) rfl ?_
      refine T_aload_n (am_dec tX6_word_0 8 rfl) rfl ?_
      refine T_aload_n (am_dec tX6_word_0 9 rfl) rfl ?_
      refine T_getfield 7 2 (am_dec tX6_word_0 10 rfl) flX6_25_7 (show (hfW w hb sp rb rs hb po ro ee hh ss uu vv pp ((u10).2) rr tt gg aa dd bd ga im)[53]? = some (cO 7 [aR 51, aI ((u10).2 0 1), aI ((u10).2 0 2), aI ((u10).2 0 3), aI ((u10).2 0 4), aI ((u10).2 0 5), ro]) from (hfW_c hl 53 (by decide))) rfl ?_
      refine T_putfield (fs' := [aR 51, aI ((u10).2 0 1), aI ((u10).2 0 2), aI ((u10).2 0 2), aI ((u10).2 0 4), aI ((u10).2 0 5), ro]) 7 3 (am_dec tX6_word_0 11 rfl) flX6_28_7 rfl rfl rfl trivial (show (hfW w hb sp rb rs hb po ro ee hh ss uu vv pp ((u10).2) rr tt gg aa dd bd ga im)[53]? = some (cO 7 [aR 51, aI ((u10).2 0 1), aI ((u10).2 0 2), aI ((u10).2 0 3), aI ((u10).2 0 4), aI ((u10).2 0 5), ro]) from (hfW_c hl 53 (by decide))) (Nat.le_of_ble_eq_true rfl) rfl ?_
      refine am_wE (w2 := hfW w hb sp rb rs hb po ro ee hh ss uu vv pp (am_put (u10).2 0 3 ((u10).2 0 2)) rr tt gg aa dd bd ga im) (hf_kk3 hl) ?_
      refine T_iload_n (am_dec tX6_word_0 12 rfl) rfl ?_
      refine T_callS (as := [aI ((u10).1)]) rfl (am_dec tX6_word_0 13 rfl) lkX6_58 rfl (Nat.le_of_ble_eq_true rfl) (by omega) (mc_isLetter (d := d - 1) hl hp hr ((u10).1)   (by omega)) (fun _ => ?_)
      refine T_nm (fun z23 hz23 => ?_)
      have hb23 := c_isLetter_x ((u10).1)
      rw [← hz23] at hb23
      refine T_if_ne 40 (am_dec tX6_word_0 14 rfl) rfl (fun h26 => ?_) (fun h26 => ?_)
      · refine T_weak (ls' := [some (aR 53), none]) (am_sub_s (am_sub_n am_sub_nil)) ?_
        refine L_d_word_40 hl hp hr ee hh ss uu vv pp rr tt gg aa dd bd ga im hTp  (by omega) 601 (am_put (u10).2 0 3 ((u10).2 0 2)) (by show ((u10).2) 0 1 - ((u10).2) 0 2 < 601; omega) (RdI_3 hIu10) (fun kk40 hkk40 hv40 => ?_)
        have hP0 := hv40
        obtain ⟨⟨wr1, wr2⟩, wr3, wr4, wr5⟩ := hP0
        refine T_aload_n (am_dec tX6_word_1 0 rfl) rfl ?_
        refine T_getfield 7 2 (am_dec tX6_word_1 1 rfl) flX6_25_7 (show (hfW w hb sp rb rs hb po ro ee hh ss uu vv pp kk40 rr tt gg aa dd bd ga im)[53]? = some (cO 7 [aR 51, aI (kk40 0 1), aI (kk40 0 2), aI (kk40 0 3), aI (kk40 0 4), aI (kk40 0 5), ro]) from (hfW_c hl 53 (by decide))) rfl ?_
        refine T_aload_n (am_dec tX6_word_1 2 rfl) rfl ?_
        refine T_getfield 7 3 (am_dec tX6_word_1 3 rfl) flX6_28_7 (show (hfW w hb sp rb rs hb po ro ee hh ss uu vv pp kk40 rr tt gg aa dd bd ga im)[53]? = some (cO 7 [aR 51, aI (kk40 0 1), aI (kk40 0 2), aI (kk40 0 3), aI (kk40 0 4), aI (kk40 0 5), ro]) from (hfW_c hl 53 (by decide))) rfl ?_
        refine T_isub ((kk40 0 2) - (kk40 0 3)) (am_dec tX6_word_1 4 rfl) rfl ⟨by omega, by omega⟩ ?_
        exact T_ireturn (am_dec tX6_word_1 5 rfl) rfl (am_tr (fun (x9 : Int × am_F) => Q (.inl (some (aI (x9.1)))) (hfW w hb sp rb rs hb po ro ee hh ss uu vv pp x9.2 rr tt gg aa dd bd ga im)) (y := (((kk40 0 2) - (kk40 0 3)), kk40)) (show (c_word ee kk) = (((kk40 0 2) - (kk40 0 3)), kk40) from (by have s9 := hz1.symm; subst s9; have s9 := hu10.symm; subst s9; have s9 := hz23.symm; subst s9; have s9 := hkk40.symm; subst s9; exact ((if_neg h4).trans (if_neg h26)))) hQ)
      · refine T_aload_n (am_dec tX6_word_0 15 rfl) rfl ?_
        refine T_iconst 1 (am_dec tX6_word_0 16 rfl) rfl ⟨by decide, by decide⟩ ?_
        refine T_aload_n (am_dec tX6_word_0 17 rfl) rfl ?_
        refine T_getfield 7 2 (am_dec tX6_word_0 18 rfl) flX6_25_7 (show (hfW w hb sp rb rs hb po ro ee hh ss uu vv pp (am_put (u10).2 0 3 ((u10).2 0 2)) rr tt gg aa dd bd ga im)[53]? = some (cO 7 [aR 51, aI ((u10).2 0 1), aI ((u10).2 0 2), aI ((u10).2 0 2), aI ((u10).2 0 4), aI ((u10).2 0 5), ro]) from (hfW_c hl 53 (by decide))) rfl ?_
        refine T_callU (as := [aI 1, aI ((u10).2 0 2)]) rfl (am_dec tX6_word_0 19 rfl) lkX6_49_X8 (show (hfW w hb sp rb rs hb po ro ee hh ss uu vv pp (am_put (u10).2 0 3 ((u10).2 0 2)) rr tt gg aa dd bd ga im)[53]? = some (cO 7 [aR 51, aI ((u10).2 0 1), aI ((u10).2 0 2), aI ((u10).2 0 2), aI ((u10).2 0 4), aI ((u10).2 0 5), ro]) from (hfW_c hl 53 (by decide))) rfl rfl (Nat.le_of_ble_eq_true rfl) (by omega) (md_wrong (d := d - 1) hl hp hr 1 ((u10).2 0 2)   (by omega)) (fun _ => ?_)
        refine T_nmH (W := fun x9 => hfW w hb sp rb rs hb po ro ee hh ss uu vv pp x9 rr tt gg aa dd bd ga im) (v := c_wrong (am_put (u10).2 0 3 ((u10).2 0 2)) 1 ((u10).2 0 2)) (fun kk35 hkk35 => ?_)
        have hIkk35 : RdI kk35 := by rw [hkk35]; exact c_wrong_I (RdI_3 hIu10) _ _
        refine T_iconst 0 (am_dec tX6_word_0 20 rfl) rfl ⟨by decide, by decide⟩ ?_
        exact T_ireturn (am_dec tX6_word_0 21 rfl) rfl (am_tr (fun (x9 : Int × am_F) => Q (.inl (some (aI (x9.1)))) (hfW w hb sp rb rs hb po ro ee hh ss uu vv pp x9.2 rr tt gg aa dd bd ga im)) (y := (0, kk35)) (show (c_word ee kk) = (0, kk35) from (by have s9 := hz1.symm; subst s9; have s9 := hu10.symm; subst s9; have s9 := hz23.symm; subst s9; have s9 := hkk35.symm; subst s9; exact ((if_neg h4).trans (if_pos h26)))) hQ)
    · refine T_iconst 0 (am_dec tX6_word_0 3 rfl) rfl ⟨by decide, by decide⟩ ?_
      exact T_ireturn (am_dec tX6_word_0 4 rfl) rfl (am_tr (fun (x9 : Int × am_F) => Q (.inl (some (aI (x9.1)))) (hfW w hb sp rb rs hb po ro ee hh ss uu vv pp x9.2 rr tt gg aa dd bd ga im)) (y := (0, kk)) (show (c_word ee kk) = (0, kk) from (by have s9 := hz1.symm; subst s9; exact (if_pos h4))) hQ)
  exact key _ ⟨rfl, rfl⟩
theorem L_d_isWord_20 {S : am_S} {d u : Nat} {Q : AO → AH → Prop} {w : AH} {hb sp rb rs : Nat} {po ro : AV} (hl : 109 ≤ w.length) (hp : hb = 1 ∧ sp = 21 ∨ hb = 21 ∧ sp = 1) (hr : rb = 41 ∧ rs = 46 ∨ rb = 46 ∧ rs = 41) (ee : am_F) (hh : am_F) (ss : am_F) (uu : am_F) (vv : am_F) (pp : am_F) (kk : am_F) (rr : am_F) (tt : am_F) (gg : am_F) (aa : am_F) (dd : am_F) (bd : am_F) (ga : am_F) (im : am_F) (j : Nat) (hj : j < 26) (hP : RdI kk) (hTp : TpI ee)  (hd : 4 ≤ d) (B9 : Int) (hB : B9 = am_ln j) : ∀ (n : Nat) (i : Int), i + n = B9 → 0 ≤ i → (am_find (p_c_isWord_20 ee kk j) i n = none → am_T S zX6_isWord d u Q 54 [none, none, none] [] (hfW w hb sp rb rs hb po ro ee hh ss uu vv pp kk rr tt gg aa dd bd ga im)) → (∀ r9, am_find (p_c_isWord_20 ee kk j) i n = some r9 → Q (.inl (some (aI r9))) (hfW w hb sp rb rs hb po ro ee hh ss uu vv pp kk rr tt gg aa dd bd ga im)) → am_T S zX6_isWord d u Q 20 [some (aR 53), some (aX (j + 2)), some (aI i)] [] (hfW w hb sp rb rs hb po ro ee hh ss uu vv pp kk rr tt gg aa dd bd ga im) := by
  intro n
  induction n with
  | zero =>
    intro i hi9 h0i k9 kr9
    have e9 : i = B9 := by omega
    subst e9
    have hP9 := hP
    obtain ⟨⟨vr1, vr2⟩, vr3, vr4, vr5⟩ := hP9
    have hln := am_ln_b hj
    have hln2 : 0 ≤ am_ln j ∧ am_ln j < 100 := by unfold am_ln; omega
    skip
    refine T_iload_n (am_dec tX6_isWord_0 12 rfl) rfl ?_
    refine T_aloadX_n (am_dec tX6_isWord_0 13 rfl) rfl ?_
    refine T_callX (as := []) rfl hj (am_dec tX6_isWord_0 14 rfl) lkX6_61 rfl rfl (Nat.le_of_ble_eq_true rfl) (by omega) (m_slen (d := d - 1) hj (by omega)) (fun _ => ?_)
    refine T_icmp_ge 54 (am_dec tX6_isWord_0 15 rfl) rfl (fun h25 => ?_) (fun h25 => by exfalso; omega)
    refine T_weak (ls' := [none, none, none]) (am_sub_n (am_sub_n (am_sub_n am_sub_nil))) ?_
    exact k9 rfl
  | succ n ih =>
    intro i hi9 h0i k9 kr9
    have hP9 := hP
    obtain ⟨⟨vr1, vr2⟩, vr3, vr4, vr5⟩ := hP9
    have hln := am_ln_b hj
    have hln2 : 0 ≤ am_ln j ∧ am_ln j < 100 := by unfold am_ln; omega
    skip
    refine T_iload_n (am_dec tX6_isWord_0 12 rfl) rfl ?_
    refine T_aloadX_n (am_dec tX6_isWord_0 13 rfl) rfl ?_
    refine T_callX (as := []) rfl hj (am_dec tX6_isWord_0 14 rfl) lkX6_61 rfl rfl (Nat.le_of_ble_eq_true rfl) (by omega) (m_slen (d := d - 1) hj (by omega)) (fun _ => ?_)
    refine T_icmp_ge 54 (am_dec tX6_isWord_0 15 rfl) rfl (fun h25 => by exfalso; omega) (fun h25 => ?_)
    refine T_aload_n (am_dec tX6_isWord_0 16 rfl) rfl ?_
    refine T_aload_n (am_dec tX6_isWord_0 17 rfl) rfl ?_
    refine T_getfield 7 3 (am_dec tX6_isWord_0 18 rfl) flX6_28_7 (show (hfW w hb sp rb rs hb po ro ee hh ss uu vv pp kk rr tt gg aa dd bd ga im)[53]? = some (cO 7 [aR 51, aI (kk 0 1), aI (kk 0 2), aI (kk 0 3), aI (kk 0 4), aI (kk 0 5), ro]) from (hfW_c hl 53 (by decide))) rfl ?_
    refine T_iload_n (am_dec tX6_isWord_0 19 rfl) rfl ?_
    refine T_iadd ((kk 0 3) + i) (am_dec tX6_isWord_0 20 rfl) rfl ⟨by omega, by omega⟩ ?_
    refine T_callU (as := [aI ((kk 0 3) + i)]) rfl (am_dec tX6_isWord_0 21 rfl) lkX6_53_X8 (show (hfW w hb sp rb rs hb po ro ee hh ss uu vv pp kk rr tt gg aa dd bd ga im)[53]? = some (cO 7 [aR 51, aI (kk 0 1), aI (kk 0 2), aI (kk 0 3), aI (kk 0 4), aI (kk 0 5), ro]) from (hfW_c hl 53 (by decide))) rfl rfl (Nat.le_of_ble_eq_true rfl) (by omega) (md_byteAt (d := d - 1) hl hp hr ((kk 0 3) + i)  (by omega) hTp (by omega)) (fun _ => ?_)
    refine T_nm (fun b35 hb35 => ?_)
    have hq35 := c_byteAt_b (pp := kk) hTp ((kk 0 3) + i)
    rw [← hb35] at hq35
    refine T_aloadX_n (am_dec tX6_isWord_0 22 rfl) rfl ?_
    refine T_iload_n (am_dec tX6_isWord_0 23 rfl) rfl ?_
    refine T_callX (as := [aI i]) rfl hj (am_dec tX6_isWord_0 24 rfl) lkX6_65 rfl rfl (Nat.le_of_ble_eq_true rfl) (by omega) (m_charAt (d := d - 1) hj i (by omega) (by omega)) (fun _ => ?_)
    refine T_icmp_eq 48 (am_dec tX6_isWord_0 25 rfl) rfl (fun h43 => ?_) (fun h43 => ?_)
    · refine T_iinc (ls' := [some (aR 53), some (aX (j + 2)), some (aI (i + 1))]) (i + 1) (am_dec tX6_isWord_0 28 rfl) rfl rfl ⟨by omega, by omega⟩ (by decide) rfl ?_
      refine T_goto 20 (am_dec tX6_isWord_0 29 rfl) rfl ?_
      have e9 : (p_c_isWord_20 ee kk j) i = none := (by have s9 := hb35.symm; subst s9; exact (if_pos h43))
      rw [am_find_n e9] at k9 kr9
      exact ih (i + 1) (by omega) (by omega) k9 kr9
    · refine T_iconst 0 (am_dec tX6_isWord_0 26 rfl) rfl ⟨by decide, by decide⟩ ?_
      exact T_zreturn (am_dec tX6_isWord_0 27 rfl) rfl (by first | exact Or.inl rfl | exact Or.inr rfl | omega) (kr9 _ (am_find_y (show (p_c_isWord_20 ee kk j) i = some 0 from (by have s9 := hb35.symm; subst s9; exact (if_neg h43)))))
theorem md_isWord {S : am_S} {d u : Nat} {w : AH} {hb sp rb rs : Nat} {po ro : AV} (hl : 109 ≤ w.length) (hp : hb = 1 ∧ sp = 21 ∨ hb = 21 ∧ sp = 1) (hr : rb = 41 ∧ rs = 46 ∨ rb = 46 ∧ rs = 41) {ee : am_F} {hh : am_F} {ss : am_F} {uu : am_F} {vv : am_F} {pp : am_F} {kk : am_F} {rr : am_F} {tt : am_F} {gg : am_F} {aa : am_F} {dd : am_F} {bd : am_F} {ga : am_F} {im : am_F} (j : Nat) (hj : j < 26) (hP : RdI kk) (hTp : TpI ee)  (hd : 4 ≤ d) : am_Out S zX6_isWord d u [aR 53, aX (j + 2)] (hfW w hb sp rb rs hb po ro ee hh ss uu vv pp kk rr tt gg aa dd bd ga im) (.inl (some (aI (c_isWord ee kk j)))) (hfW w hb sp rb rs hb po ro ee hh ss uu vv pp kk rr tt gg aa dd bd ga im) := by
  have key : ∀ Q : AO → AH → Prop, Q (.inl (some (aI (c_isWord ee kk j)))) (hfW w hb sp rb rs hb po ro ee hh ss uu vv pp kk rr tt gg aa dd bd ga im) → am_M S zX6_isWord d u [aR 53, aX (j + 2)] (hfW w hb sp rb rs hb po ro ee hh ss uu vv pp kk rr tt gg aa dd bd ga im) Q := by
    intro Q hQ
    refine am_body rfl (by decide +kernel) rfl (am_cats_cons rfl ( am_cats_cons rfl (am_cats_nil))) (Nat.le_of_ble_eq_true rfl) (?_ : am_T _ _ _ _ _ 0 [some (aR 53), some (aX (j + 2)), none] [] (hfW w hb sp rb rs hb po ro ee hh ss uu vv pp kk rr tt gg aa dd bd ga im))
    have hP9 := hP
    obtain ⟨⟨vr1, vr2⟩, vr3, vr4, vr5⟩ := hP9
    have hln := am_ln_b hj
    have hln2 : 0 ≤ am_ln j ∧ am_ln j < 100 := by unfold am_ln; omega
    refine T_aload_n (am_dec tX6_isWord_0 0 rfl) rfl ?_
    refine T_getfield 7 2 (am_dec tX6_isWord_0 1 rfl) flX6_25_7 (show (hfW w hb sp rb rs hb po ro ee hh ss uu vv pp kk rr tt gg aa dd bd ga im)[53]? = some (cO 7 [aR 51, aI (kk 0 1), aI (kk 0 2), aI (kk 0 3), aI (kk 0 4), aI (kk 0 5), ro]) from (hfW_c hl 53 (by decide))) rfl ?_
    refine T_aload_n (am_dec tX6_isWord_0 2 rfl) rfl ?_
    refine T_getfield 7 3 (am_dec tX6_isWord_0 3 rfl) flX6_28_7 (show (hfW w hb sp rb rs hb po ro ee hh ss uu vv pp kk rr tt gg aa dd bd ga im)[53]? = some (cO 7 [aR 51, aI (kk 0 1), aI (kk 0 2), aI (kk 0 3), aI (kk 0 4), aI (kk 0 5), ro]) from (hfW_c hl 53 (by decide))) rfl ?_
    refine T_isub ((kk 0 2) - (kk 0 3)) (am_dec tX6_isWord_0 4 rfl) rfl ⟨by omega, by omega⟩ ?_
    refine T_aloadX_n (am_dec tX6_isWord_0 5 rfl) rfl ?_
    refine T_callX (as := []) rfl hj (am_dec tX6_isWord_0 6 rfl) lkX6_61 rfl rfl (Nat.le_of_ble_eq_true rfl) (by omega) (m_slen (d := d - 1) hj (by omega)) (fun _ => ?_)
    refine T_icmp_eq 18 (am_dec tX6_isWord_0 7 rfl) rfl (fun h13 => ?_) (fun h13 => ?_)
    · refine T_iconst 0 (am_dec tX6_isWord_0 10 rfl) rfl ⟨by decide, by decide⟩ ?_
      refine T_istore_n (ls' := [some (aR 53), some (aX (j + 2)), some (aI 0)]) (am_dec tX6_isWord_0 11 rfl) (by decide) rfl ?_
      refine L_d_isWord_20 hl hp hr ee hh ss uu vv pp kk rr tt gg aa dd bd ga im j hj hP hTp  (by omega) _ rfl (am_ln j).toNat 0  (by omega) (by omega) (fun hn20 => ?_) (fun r20 hr20 => (am_tr (fun (x9 : Int) => Q (.inl (some (aI (x9)))) (hfW w hb sp rb rs hb po ro ee hh ss uu vv pp kk rr tt gg aa dd bd ga im)) (y := r20) (show (c_isWord ee kk j) = r20 from ((if_pos h13).trans (am_el_s hr20))) hQ))
      refine T_iconst 1 (am_dec tX6_isWord_0 30 rfl) rfl ⟨by decide, by decide⟩ ?_
      exact T_zreturn (am_dec tX6_isWord_0 31 rfl) rfl (by first | exact Or.inl rfl | exact Or.inr rfl | omega) (am_tr (fun (x9 : Int) => Q (.inl (some (aI (x9)))) (hfW w hb sp rb rs hb po ro ee hh ss uu vv pp kk rr tt gg aa dd bd ga im)) (y := 1) (show (c_isWord ee kk j) = 1 from ((if_pos h13).trans (am_el_n hn20))) hQ)
    · refine T_iconst 0 (am_dec tX6_isWord_0 8 rfl) rfl ⟨by decide, by decide⟩ ?_
      exact T_zreturn (am_dec tX6_isWord_0 9 rfl) rfl (by first | exact Or.inl rfl | exact Or.inr rfl | omega) (am_tr (fun (x9 : Int) => Q (.inl (some (aI (x9)))) (hfW w hb sp rb rs hb po ro ee hh ss uu vv pp kk rr tt gg aa dd bd ga im)) (y := 0) (show (c_isWord ee kk j) = 0 from (if_neg h13)) hQ)
  exact key _ ⟨rfl, rfl⟩
theorem md_takesWord {S : am_S} {d u : Nat} {w : AH} {hb sp rb rs : Nat} {po ro : AV} (hl : 109 ≤ w.length) (hp : hb = 1 ∧ sp = 21 ∨ hb = 21 ∧ sp = 1) (hr : rb = 41 ∧ rs = 46 ∨ rb = 46 ∧ rs = 41) {ee : am_F} {hh : am_F} {ss : am_F} {uu : am_F} {vv : am_F} {pp : am_F} {kk : am_F} {rr : am_F} {tt : am_F} {gg : am_F} {aa : am_F} {dd : am_F} {bd : am_F} {ga : am_F} {im : am_F} (j : Nat) (hj : j < 26) (hP : RdI kk) (hTp : TpI ee)  (hd : 5 ≤ d) : am_Out S zX6_takesWord d u [aR 53, aX (j + 2)] (hfW w hb sp rb rs hb po ro ee hh ss uu vv pp kk rr tt gg aa dd bd ga im) (.inl (some (aI ((c_takesWord ee kk j).1)))) (hfW w hb sp rb rs hb po ro ee hh ss uu vv pp ((c_takesWord ee kk j).2) rr tt gg aa dd bd ga im) := by
  have key : ∀ Q : AO → AH → Prop, Q (.inl (some (aI ((c_takesWord ee kk j).1)))) (hfW w hb sp rb rs hb po ro ee hh ss uu vv pp ((c_takesWord ee kk j).2) rr tt gg aa dd bd ga im) → am_M S zX6_takesWord d u [aR 53, aX (j + 2)] (hfW w hb sp rb rs hb po ro ee hh ss uu vv pp kk rr tt gg aa dd bd ga im) Q := by
    intro Q hQ
    refine am_body rfl (by decide +kernel) rfl (am_cats_cons rfl ( am_cats_cons rfl (am_cats_nil))) (Nat.le_of_ble_eq_true rfl) (?_ : am_T _ _ _ _ _ 0 [some (aR 53), some (aX (j + 2))] [] (hfW w hb sp rb rs hb po ro ee hh ss uu vv pp kk rr tt gg aa dd bd ga im))
    have hP9 := hP
    obtain ⟨⟨vr1, vr2⟩, vr3, vr4, vr5⟩ := hP9
    refine T_aload_n (am_dec tX6_takesWord_0 0 rfl) rfl ?_
    refine T_callU (as := []) rfl (am_dec tX6_takesWord_0 1 rfl) lkX6_37_X8 (show (hfW w hb sp rb rs hb po ro ee hh ss uu vv pp kk rr tt gg aa dd bd ga im)[53]? = some (cO 7 [aR 51, aI (kk 0 1), aI (kk 0 2), aI (kk 0 3), aI (kk 0 4), aI (kk 0 5), ro]) from (hfW_c hl 53 (by decide))) rfl rfl (Nat.le_of_ble_eq_true rfl) (by omega) (md_fine (d := d - 1) hl hp hr    (by omega)) (fun _ => ?_)
    refine T_nm (fun z1 hz1 => ?_)
    have hb1 := c_fine_b kk
    rw [← hz1] at hb1
    refine T_if_eq 17 (am_dec tX6_takesWord_0 2 rfl) rfl (fun h4 => ?_) (fun h4 => ?_)
    · refine T_iconst 0 (am_dec tX6_takesWord_0 7 rfl) rfl ⟨by decide, by decide⟩ ?_
      exact T_zreturn (am_dec tX6_takesWord_0 8 rfl) rfl (by first | exact Or.inl rfl | exact Or.inr rfl | omega) (am_tr (fun (x9 : Int × am_F) => Q (.inl (some (aI (x9.1)))) (hfW w hb sp rb rs hb po ro ee hh ss uu vv pp x9.2 rr tt gg aa dd bd ga im)) (y := (0, kk)) (show (c_takesWord ee kk j) = (0, kk) from (by have s9 := hz1.symm; subst s9; exact (if_pos h4))) hQ)
    · refine T_aload_n (am_dec tX6_takesWord_0 3 rfl) rfl ?_
      refine T_callU (as := []) rfl (am_dec tX6_takesWord_0 4 rfl) lkX6_41_X8 (show (hfW w hb sp rb rs hb po ro ee hh ss uu vv pp kk rr tt gg aa dd bd ga im)[53]? = some (cO 7 [aR 51, aI (kk 0 1), aI (kk 0 2), aI (kk 0 3), aI (kk 0 4), aI (kk 0 5), ro]) from (hfW_c hl 53 (by decide))) rfl rfl (Nat.le_of_ble_eq_true rfl) (by omega) (md_peek (d := d - 1) hl hp hr   (by omega) hTp (by omega)) (fun _ => ?_)
      obtain ⟨u8, hu8⟩ : ∃ x9, x9 = c_peek ee kk := ⟨_, rfl⟩
      rw [← hu8]
      obtain ⟨hIu8, hvu8, hwu8, hfu8⟩ : RdI u8.2 ∧ (-1 ≤ u8.1 ∧ u8.1 ≤ 255) ∧ (u8.1 = -1 ∨ u8.2 0 2 < u8.2 0 1) ∧ ∀ k j, ¬ (k = 0 ∧ j = 2) → u8.2 k j = kk k j := by rw [hu8]; exact c_peek_x hP hTp
      have hgu8 := hIu8
      obtain ⟨⟨yr81, yr82⟩, yr83, yr84, yr85⟩ := hgu8
      refine T_callS (as := [aI ((u8).1)]) rfl (am_dec tX6_takesWord_0 5 rfl) lkX6_58 rfl (Nat.le_of_ble_eq_true rfl) (by omega) (mc_isLetter (d := d - 1) hl hp hr ((u8).1)   (by omega)) (fun _ => ?_)
      refine T_nm (fun z11 hz11 => ?_)
      have hb11 := c_isLetter_x ((u8).1)
      rw [← hz11] at hb11
      refine T_if_ne 19 (am_dec tX6_takesWord_0 6 rfl) rfl (fun h14 => ?_) (fun h14 => ?_)
      · refine T_aload_n (am_dec tX6_takesWord_0 9 rfl) rfl ?_
        refine T_callU (as := []) rfl (am_dec tX6_takesWord_0 10 rfl) lkX6_69_X8 (show (hfW w hb sp rb rs hb po ro ee hh ss uu vv pp ((u8).2) rr tt gg aa dd bd ga im)[53]? = some (cO 7 [aR 51, aI ((u8).2 0 1), aI ((u8).2 0 2), aI ((u8).2 0 3), aI ((u8).2 0 4), aI ((u8).2 0 5), ro]) from (hfW_c hl 53 (by decide))) rfl rfl (Nat.le_of_ble_eq_true rfl) (by omega) (md_word (d := d - 1) hl hp hr   hIu8 hTp (by omega)) (fun _ => ?_)
        obtain ⟨u20, hu20⟩ : ∃ x9, x9 = c_word ee ((u8).2) := ⟨_, rfl⟩
        rw [← hu20]
        have hxu20 : Rd2 ((u8).2) u20.2 := by rw [hu20]; exact (Rd2.rf hIu8).word hTp
        have hIu20 := hxu20.1
        have hgu20 := hIu20
        obtain ⟨⟨yr201, yr202⟩, yr203, yr204, yr205⟩ := hgu20
        have heu20_7 : u20.2 0 7 = (u8).2 0 7 := hxu20.2 0 7 (by decide)
        have heu20_8 : u20.2 0 8 = (u8).2 0 8 := hxu20.2 0 8 (by decide)
        have heu20_9 : u20.2 0 9 = (u8).2 0 9 := hxu20.2 0 9 (by decide)
        have heu20_10 : u20.2 0 10 = (u8).2 0 10 := hxu20.2 0 10 (by decide)
        have hbu20 : 0 - 600 ≤ u20.1 ∧ u20.1 ≤ 600 := by rw [hu20]; exact c_word_b hIu8 hTp
        refine T_pop (am_dec tX6_takesWord_0 11 rfl) rfl ?_
        refine T_aload_n (am_dec tX6_takesWord_0 12 rfl) rfl ?_
        refine T_aloadX_n (am_dec tX6_takesWord_0 13 rfl) rfl ?_
        refine T_callU (as := [aX (j + 2)]) rfl (am_dec tX6_takesWord_0 14 rfl) lkX6_72_X8 (show (hfW w hb sp rb rs hb po ro ee hh ss uu vv pp ((u20).2) rr tt gg aa dd bd ga im)[53]? = some (cO 7 [aR 51, aI ((u20).2 0 1), aI ((u20).2 0 2), aI ((u20).2 0 3), aI ((u20).2 0 4), aI ((u20).2 0 5), ro]) from (hfW_c hl 53 (by decide))) rfl rfl (Nat.le_of_ble_eq_true rfl) (by omega) (md_isWord (d := d - 1) hl hp hr  j (by omega) hIu20 hTp (by omega)) (fun _ => ?_)
        refine T_nm (fun z26 hz26 => ?_)
        have hb26 := c_isWord_b ee ((u20).2) j
        rw [← hz26] at hb26
        refine T_if_ne 42 (am_dec tX6_takesWord_0 15 rfl) rfl (fun h29 => ?_) (fun h29 => ?_)
        · refine T_iconst 1 (am_dec tX6_takesWord_0 22 rfl) rfl ⟨by decide, by decide⟩ ?_
          exact T_zreturn (am_dec tX6_takesWord_0 23 rfl) rfl (by first | exact Or.inl rfl | exact Or.inr rfl | omega) (am_tr (fun (x9 : Int × am_F) => Q (.inl (some (aI (x9.1)))) (hfW w hb sp rb rs hb po ro ee hh ss uu vv pp x9.2 rr tt gg aa dd bd ga im)) (y := (1, (u20).2)) (show (c_takesWord ee kk j) = (1, (u20).2) from (by have s9 := hz1.symm; subst s9; have s9 := hu8.symm; subst s9; have s9 := hz11.symm; subst s9; have s9 := hu20.symm; subst s9; have s9 := hz26.symm; subst s9; exact ((if_neg h4).trans ((if_neg h14).trans (if_neg h29))))) hQ)
        · refine T_aload_n (am_dec tX6_takesWord_0 16 rfl) rfl ?_
          refine T_aload_n (am_dec tX6_takesWord_0 17 rfl) rfl ?_
          refine T_getfield 7 3 (am_dec tX6_takesWord_0 18 rfl) flX6_28_7 (show (hfW w hb sp rb rs hb po ro ee hh ss uu vv pp ((u20).2) rr tt gg aa dd bd ga im)[53]? = some (cO 7 [aR 51, aI ((u20).2 0 1), aI ((u20).2 0 2), aI ((u20).2 0 3), aI ((u20).2 0 4), aI ((u20).2 0 5), ro]) from (hfW_c hl 53 (by decide))) rfl ?_
          refine T_putfield (fs' := [aR 51, aI ((u20).2 0 1), aI ((u20).2 0 3), aI ((u20).2 0 3), aI ((u20).2 0 4), aI ((u20).2 0 5), ro]) 7 2 (am_dec tX6_takesWord_0 19 rfl) flX6_25_7 rfl rfl rfl trivial (show (hfW w hb sp rb rs hb po ro ee hh ss uu vv pp ((u20).2) rr tt gg aa dd bd ga im)[53]? = some (cO 7 [aR 51, aI ((u20).2 0 1), aI ((u20).2 0 2), aI ((u20).2 0 3), aI ((u20).2 0 4), aI ((u20).2 0 5), ro]) from (hfW_c hl 53 (by decide))) (Nat.le_of_ble_eq_true rfl) rfl ?_
          refine am_wE (w2 := hfW w hb sp rb rs hb po ro ee hh ss uu vv pp (am_put (u20).2 0 2 ((u20).2 0 3)) rr tt gg aa dd bd ga im) (hf_kk2 hl) ?_
          refine T_iconst 0 (am_dec tX6_takesWord_0 20 rfl) rfl ⟨by decide, by decide⟩ ?_
          exact T_zreturn (am_dec tX6_takesWord_0 21 rfl) rfl (by first | exact Or.inl rfl | exact Or.inr rfl | omega) (am_tr (fun (x9 : Int × am_F) => Q (.inl (some (aI (x9.1)))) (hfW w hb sp rb rs hb po ro ee hh ss uu vv pp x9.2 rr tt gg aa dd bd ga im)) (y := (0, (am_put (u20).2 0 2 ((u20).2 0 3)))) (show (c_takesWord ee kk j) = (0, (am_put (u20).2 0 2 ((u20).2 0 3))) from (by have s9 := hz1.symm; subst s9; have s9 := hu8.symm; subst s9; have s9 := hz11.symm; subst s9; have s9 := hu20.symm; subst s9; have s9 := hz26.symm; subst s9; exact ((if_neg h4).trans ((if_neg h14).trans (if_pos h29))))) hQ)
      · refine T_iconst 0 (am_dec tX6_takesWord_0 7 rfl) rfl ⟨by decide, by decide⟩ ?_
        exact T_zreturn (am_dec tX6_takesWord_0 8 rfl) rfl (by first | exact Or.inl rfl | exact Or.inr rfl | omega) (am_tr (fun (x9 : Int × am_F) => Q (.inl (some (aI (x9.1)))) (hfW w hb sp rb rs hb po ro ee hh ss uu vv pp x9.2 rr tt gg aa dd bd ga im)) (y := (0, (u8).2)) (show (c_takesWord ee kk j) = (0, (u8).2) from (by have s9 := hz1.symm; subst s9; have s9 := hu8.symm; subst s9; have s9 := hz11.symm; subst s9; exact ((if_neg h4).trans (if_pos h14)))) hQ)
  exact key _ ⟨rfl, rfl⟩
theorem md_takesSign {S : am_S} {d u : Nat} {w : AH} {hb sp rb rs : Nat} {po ro : AV} (hl : 109 ≤ w.length) (hp : hb = 1 ∧ sp = 21 ∨ hb = 21 ∧ sp = 1) (hr : rb = 41 ∧ rs = 46 ∨ rb = 46 ∧ rs = 41) {ee : am_F} {hh : am_F} {ss : am_F} {uu : am_F} {vv : am_F} {pp : am_F} {kk : am_F} {rr : am_F} {tt : am_F} {gg : am_F} {aa : am_F} {dd : am_F} {bd : am_F} {ga : am_F} {im : am_F} (sg : Int) (hs0 : 0 ≤ sg) (hP : RdI kk) (hTp : TpI ee)  (hd : 2 ≤ d) : am_Out S zX6_takesSign d u [aR 53, aI sg] (hfW w hb sp rb rs hb po ro ee hh ss uu vv pp kk rr tt gg aa dd bd ga im) (.inl (some (aI ((c_takesSign ee kk sg).1)))) (hfW w hb sp rb rs hb po ro ee hh ss uu vv pp ((c_takesSign ee kk sg).2) rr tt gg aa dd bd ga im) := by
  have key : ∀ Q : AO → AH → Prop, Q (.inl (some (aI ((c_takesSign ee kk sg).1)))) (hfW w hb sp rb rs hb po ro ee hh ss uu vv pp ((c_takesSign ee kk sg).2) rr tt gg aa dd bd ga im) → am_M S zX6_takesSign d u [aR 53, aI sg] (hfW w hb sp rb rs hb po ro ee hh ss uu vv pp kk rr tt gg aa dd bd ga im) Q := by
    intro Q hQ
    refine am_body rfl (by decide +kernel) rfl (am_cats_cons rfl ( am_cats_cons rfl (am_cats_nil))) (Nat.le_of_ble_eq_true rfl) (?_ : am_T _ _ _ _ _ 0 [some (aR 53), some (aI sg)] [] (hfW w hb sp rb rs hb po ro ee hh ss uu vv pp kk rr tt gg aa dd bd ga im))
    have hP9 := hP
    obtain ⟨⟨vr1, vr2⟩, vr3, vr4, vr5⟩ := hP9
    refine T_aload_n (am_dec tX6_takesSign_0 0 rfl) rfl ?_
    refine T_callU (as := []) rfl (am_dec tX6_takesSign_0 1 rfl) lkX6_37_X8 (show (hfW w hb sp rb rs hb po ro ee hh ss uu vv pp kk rr tt gg aa dd bd ga im)[53]? = some (cO 7 [aR 51, aI (kk 0 1), aI (kk 0 2), aI (kk 0 3), aI (kk 0 4), aI (kk 0 5), ro]) from (hfW_c hl 53 (by decide))) rfl rfl (Nat.le_of_ble_eq_true rfl) (by omega) (md_fine (d := d - 1) hl hp hr    (by omega)) (fun _ => ?_)
    refine T_nm (fun z1 hz1 => ?_)
    have hb1 := c_fine_b kk
    rw [← hz1] at hb1
    refine T_if_eq 15 (am_dec tX6_takesSign_0 2 rfl) rfl (fun h4 => ?_) (fun h4 => ?_)
    · refine T_iconst 0 (am_dec tX6_takesSign_0 7 rfl) rfl ⟨by decide, by decide⟩ ?_
      exact T_zreturn (am_dec tX6_takesSign_0 8 rfl) rfl (by first | exact Or.inl rfl | exact Or.inr rfl | omega) (am_tr (fun (x9 : Int × am_F) => Q (.inl (some (aI (x9.1)))) (hfW w hb sp rb rs hb po ro ee hh ss uu vv pp x9.2 rr tt gg aa dd bd ga im)) (y := (0, kk)) (show (c_takesSign ee kk sg) = (0, kk) from (by have s9 := hz1.symm; subst s9; exact (if_pos h4))) hQ)
    · refine T_aload_n (am_dec tX6_takesSign_0 3 rfl) rfl ?_
      refine T_callU (as := []) rfl (am_dec tX6_takesSign_0 4 rfl) lkX6_41_X8 (show (hfW w hb sp rb rs hb po ro ee hh ss uu vv pp kk rr tt gg aa dd bd ga im)[53]? = some (cO 7 [aR 51, aI (kk 0 1), aI (kk 0 2), aI (kk 0 3), aI (kk 0 4), aI (kk 0 5), ro]) from (hfW_c hl 53 (by decide))) rfl rfl (Nat.le_of_ble_eq_true rfl) (by omega) (md_peek (d := d - 1) hl hp hr   (by omega) hTp (by omega)) (fun _ => ?_)
      obtain ⟨u8, hu8⟩ : ∃ x9, x9 = c_peek ee kk := ⟨_, rfl⟩
      rw [← hu8]
      obtain ⟨hIu8, hvu8, hwu8, hfu8⟩ : RdI u8.2 ∧ (-1 ≤ u8.1 ∧ u8.1 ≤ 255) ∧ (u8.1 = -1 ∨ u8.2 0 2 < u8.2 0 1) ∧ ∀ k j, ¬ (k = 0 ∧ j = 2) → u8.2 k j = kk k j := by rw [hu8]; exact c_peek_x hP hTp
      have hgu8 := hIu8
      obtain ⟨⟨yr81, yr82⟩, yr83, yr84, yr85⟩ := hgu8
      refine T_iload_n (am_dec tX6_takesSign_0 5 rfl) rfl ?_
      refine T_icmp_eq 17 (am_dec tX6_takesSign_0 6 rfl) rfl (fun h12 => ?_) (fun h12 => ?_)
      · refine T_aload_n (am_dec tX6_takesSign_0 9 rfl) rfl ?_
        refine T_aload_n (am_dec tX6_takesSign_0 10 rfl) rfl ?_
        refine T_getfield 7 2 (am_dec tX6_takesSign_0 11 rfl) flX6_25_7 (show (hfW w hb sp rb rs hb po ro ee hh ss uu vv pp ((u8).2) rr tt gg aa dd bd ga im)[53]? = some (cO 7 [aR 51, aI ((u8).2 0 1), aI ((u8).2 0 2), aI ((u8).2 0 3), aI ((u8).2 0 4), aI ((u8).2 0 5), ro]) from (hfW_c hl 53 (by decide))) rfl ?_
        refine T_putfield (fs' := [aR 51, aI ((u8).2 0 1), aI ((u8).2 0 2), aI ((u8).2 0 2), aI ((u8).2 0 4), aI ((u8).2 0 5), ro]) 7 3 (am_dec tX6_takesSign_0 12 rfl) flX6_28_7 rfl rfl rfl trivial (show (hfW w hb sp rb rs hb po ro ee hh ss uu vv pp ((u8).2) rr tt gg aa dd bd ga im)[53]? = some (cO 7 [aR 51, aI ((u8).2 0 1), aI ((u8).2 0 2), aI ((u8).2 0 3), aI ((u8).2 0 4), aI ((u8).2 0 5), ro]) from (hfW_c hl 53 (by decide))) (Nat.le_of_ble_eq_true rfl) rfl ?_
        refine am_wE (w2 := hfW w hb sp rb rs hb po ro ee hh ss uu vv pp (am_put (u8).2 0 3 ((u8).2 0 2)) rr tt gg aa dd bd ga im) (hf_kk3 hl) ?_
        refine T_aload_n (am_dec tX6_takesSign_0 13 rfl) rfl ?_
        refine T_dup (am_dec tX6_takesSign_0 14 rfl) rfl ?_
        refine T_getfield 7 2 (am_dec tX6_takesSign_0 15 rfl) flX6_25_7 (show (hfW w hb sp rb rs hb po ro ee hh ss uu vv pp (am_put (u8).2 0 3 ((u8).2 0 2)) rr tt gg aa dd bd ga im)[53]? = some (cO 7 [aR 51, aI ((u8).2 0 1), aI ((u8).2 0 2), aI ((u8).2 0 2), aI ((u8).2 0 4), aI ((u8).2 0 5), ro]) from (hfW_c hl 53 (by decide))) rfl ?_
        refine T_iconst 1 (am_dec tX6_takesSign_0 16 rfl) rfl ⟨by decide, by decide⟩ ?_
        refine T_iadd (((u8).2 0 2) + 1) (am_dec tX6_takesSign_0 17 rfl) rfl ⟨by omega, by omega⟩ ?_
        refine T_putfield (fs' := [aR 51, aI ((u8).2 0 1), aI (((u8).2 0 2) + 1), aI ((u8).2 0 2), aI ((u8).2 0 4), aI ((u8).2 0 5), ro]) 7 2 (am_dec tX6_takesSign_0 18 rfl) flX6_25_7 rfl rfl rfl trivial (show (hfW w hb sp rb rs hb po ro ee hh ss uu vv pp (am_put (u8).2 0 3 ((u8).2 0 2)) rr tt gg aa dd bd ga im)[53]? = some (cO 7 [aR 51, aI ((u8).2 0 1), aI ((u8).2 0 2), aI ((u8).2 0 2), aI ((u8).2 0 4), aI ((u8).2 0 5), ro]) from (hfW_c hl 53 (by decide))) (Nat.le_of_ble_eq_true rfl) rfl ?_
        refine am_wE (w2 := hfW w hb sp rb rs hb po ro ee hh ss uu vv pp (am_put (am_put (u8).2 0 3 ((u8).2 0 2)) 0 2 (((u8).2 0 2) + 1)) rr tt gg aa dd bd ga im) (hf_kk2 hl) ?_
        refine T_iconst 1 (am_dec tX6_takesSign_0 19 rfl) rfl ⟨by decide, by decide⟩ ?_
        exact T_zreturn (am_dec tX6_takesSign_0 20 rfl) rfl (by first | exact Or.inl rfl | exact Or.inr rfl | omega) (am_tr (fun (x9 : Int × am_F) => Q (.inl (some (aI (x9.1)))) (hfW w hb sp rb rs hb po ro ee hh ss uu vv pp x9.2 rr tt gg aa dd bd ga im)) (y := (1, (am_put (am_put (u8).2 0 3 ((u8).2 0 2)) 0 2 (((u8).2 0 2) + 1)))) (show (c_takesSign ee kk sg) = (1, (am_put (am_put (u8).2 0 3 ((u8).2 0 2)) 0 2 (((u8).2 0 2) + 1))) from (by have s9 := hz1.symm; subst s9; have s9 := hu8.symm; subst s9; exact ((if_neg h4).trans (if_pos h12)))) hQ)
      · refine T_iconst 0 (am_dec tX6_takesSign_0 7 rfl) rfl ⟨by decide, by decide⟩ ?_
        exact T_zreturn (am_dec tX6_takesSign_0 8 rfl) rfl (by first | exact Or.inl rfl | exact Or.inr rfl | omega) (am_tr (fun (x9 : Int × am_F) => Q (.inl (some (aI (x9.1)))) (hfW w hb sp rb rs hb po ro ee hh ss uu vv pp x9.2 rr tt gg aa dd bd ga im)) (y := (0, (u8).2)) (show (c_takesSign ee kk sg) = (0, (u8).2) from (by have s9 := hz1.symm; subst s9; have s9 := hu8.symm; subst s9; exact ((if_neg h4).trans (if_neg h12)))) hQ)
  exact key _ ⟨rfl, rfl⟩
theorem md_needSign {S : am_S} {d u : Nat} {w : AH} {hb sp rb rs : Nat} {po ro : AV} (hl : 109 ≤ w.length) (hp : hb = 1 ∧ sp = 21 ∨ hb = 21 ∧ sp = 1) (hr : rb = 41 ∧ rs = 46 ∨ rb = 46 ∧ rs = 41) {ee : am_F} {hh : am_F} {ss : am_F} {uu : am_F} {vv : am_F} {pp : am_F} {kk : am_F} {rr : am_F} {tt : am_F} {gg : am_F} {aa : am_F} {dd : am_F} {bd : am_F} {ga : am_F} {im : am_F} (sg : Int) (hs0 : 0 ≤ sg) (hP : RdI kk) (hTp : TpI ee)  (hd : 3 ≤ d) : am_Out S zX6_needSign d u [aR 53, aI sg] (hfW w hb sp rb rs hb po ro ee hh ss uu vv pp kk rr tt gg aa dd bd ga im) (.inl none) (hfW w hb sp rb rs hb po ro ee hh ss uu vv pp (c_needSign ee kk sg) rr tt gg aa dd bd ga im) := by
  have key : ∀ Q : AO → AH → Prop, Q (.inl none) (hfW w hb sp rb rs hb po ro ee hh ss uu vv pp (c_needSign ee kk sg) rr tt gg aa dd bd ga im) → am_M S zX6_needSign d u [aR 53, aI sg] (hfW w hb sp rb rs hb po ro ee hh ss uu vv pp kk rr tt gg aa dd bd ga im) Q := by
    intro Q hQ
    refine am_body rfl (by decide +kernel) rfl (am_cats_cons rfl ( am_cats_cons rfl (am_cats_nil))) (Nat.le_of_ble_eq_true rfl) (?_ : am_T _ _ _ _ _ 0 [some (aR 53), some (aI sg)] [] (hfW w hb sp rb rs hb po ro ee hh ss uu vv pp kk rr tt gg aa dd bd ga im))
    have hP9 := hP
    obtain ⟨⟨vr1, vr2⟩, vr3, vr4, vr5⟩ := hP9
    refine T_aload_n (am_dec tX6_needSign_0 0 rfl) rfl ?_
    refine T_callU (as := []) rfl (am_dec tX6_needSign_0 1 rfl) lkX6_37_X8 (show (hfW w hb sp rb rs hb po ro ee hh ss uu vv pp kk rr tt gg aa dd bd ga im)[53]? = some (cO 7 [aR 51, aI (kk 0 1), aI (kk 0 2), aI (kk 0 3), aI (kk 0 4), aI (kk 0 5), ro]) from (hfW_c hl 53 (by decide))) rfl rfl (Nat.le_of_ble_eq_true rfl) (by omega) (md_fine (d := d - 1) hl hp hr    (by omega)) (fun _ => ?_)
    refine T_nm (fun z1 hz1 => ?_)
    have hb1 := c_fine_b kk
    rw [← hz1] at hb1
    have K4 : ∀ (kk4 : am_F), kk4 = (if z1 = 0 then kk else (let u9 : Int × am_F := c_takesSign ee kk sg; (if (u9).1 = 0 then c_wrong ((u9).2) 1 ((u9).2 0 2) else ((u9).2)))) →  am_T S zX6_needSign d u Q 24 [none, none] [] (hfW w hb sp rb rs hb po ro ee hh ss uu vv pp kk4 rr tt gg aa dd bd ga im) := by
      intro kk4 hkk4 
      exact T_return (am_dec tX6_needSign_0 12 rfl) rfl (am_tr (fun (x9 : am_F) => Q (.inl none) (hfW w hb sp rb rs hb po ro ee hh ss uu vv pp x9 rr tt gg aa dd bd ga im)) (y := kk4) (show (c_needSign ee kk sg) = kk4 from (by have s9 := hz1.symm; subst s9; have s9 := hkk4.symm; subst s9; exact rfl)) hQ)
    refine T_if_eq 24 (am_dec tX6_needSign_0 2 rfl) rfl (fun h4 => ?_) (fun h4 => ?_)
    · refine T_weak (ls' := [none, none]) (am_sub_n (am_sub_n am_sub_nil)) ?_
      exact K4 _ (if_pos h4).symm 
    · refine T_aload_n (am_dec tX6_needSign_0 3 rfl) rfl ?_
      refine T_iload_n (am_dec tX6_needSign_0 4 rfl) rfl ?_
      refine T_callU (as := [aI sg]) rfl (am_dec tX6_needSign_0 5 rfl) lkX6_76_X8 (show (hfW w hb sp rb rs hb po ro ee hh ss uu vv pp kk rr tt gg aa dd bd ga im)[53]? = some (cO 7 [aR 51, aI (kk 0 1), aI (kk 0 2), aI (kk 0 3), aI (kk 0 4), aI (kk 0 5), ro]) from (hfW_c hl 53 (by decide))) rfl rfl (Nat.le_of_ble_eq_true rfl) (by omega) (md_takesSign (d := d - 1) hl hp hr sg  (by omega) (by omega) hTp (by omega)) (fun _ => ?_)
      obtain ⟨u9, hu9⟩ : ∃ x9, x9 = c_takesSign ee kk sg := ⟨_, rfl⟩
      rw [← hu9]
      have hxu9 : Rd2 kk u9.2 := by rw [hu9]; exact (Rd2.rf hP).takesSign hTp (by omega)
      have hIu9 := hxu9.1
      have hgu9 := hIu9
      obtain ⟨⟨yr91, yr92⟩, yr93, yr94, yr95⟩ := hgu9
      have heu9_7 : u9.2 0 7 = kk 0 7 := hxu9.2 0 7 (by decide)
      have heu9_8 : u9.2 0 8 = kk 0 8 := hxu9.2 0 8 (by decide)
      have heu9_9 : u9.2 0 9 = kk 0 9 := hxu9.2 0 9 (by decide)
      have heu9_10 : u9.2 0 10 = kk 0 10 := hxu9.2 0 10 (by decide)
      have hb9 : u9.1 = 0 ∨ u9.1 = 1 := by rw [hu9]; exact c_takesSign_b _ _ _
      have K12 : ∀ (kk12 : am_F), kk12 = (if (u9).1 = 0 then c_wrong ((u9).2) 1 ((u9).2 0 2) else ((u9).2)) →  am_T S zX6_needSign d u Q 24 [none, none] [] (hfW w hb sp rb rs hb po ro ee hh ss uu vv pp kk12 rr tt gg aa dd bd ga im) := by
        intro kk12 hkk12 
        exact K4 _ (by have s9 := hu9.symm; subst s9; have s9 := hkk12.symm; subst s9; exact (if_neg h4).symm) 
      refine T_if_ne 24 (am_dec tX6_needSign_0 6 rfl) rfl (fun h12 => ?_) (fun h12 => ?_)
      · refine T_weak (ls' := [none, none]) (am_sub_n (am_sub_n am_sub_nil)) ?_
        exact K12 _ (if_neg h12).symm 
      · refine T_aload_n (am_dec tX6_needSign_0 7 rfl) rfl ?_
        refine T_iconst 1 (am_dec tX6_needSign_0 8 rfl) rfl ⟨by decide, by decide⟩ ?_
        refine T_aload_n (am_dec tX6_needSign_0 9 rfl) rfl ?_
        refine T_getfield 7 2 (am_dec tX6_needSign_0 10 rfl) flX6_25_7 (show (hfW w hb sp rb rs hb po ro ee hh ss uu vv pp ((u9).2) rr tt gg aa dd bd ga im)[53]? = some (cO 7 [aR 51, aI ((u9).2 0 1), aI ((u9).2 0 2), aI ((u9).2 0 3), aI ((u9).2 0 4), aI ((u9).2 0 5), ro]) from (hfW_c hl 53 (by decide))) rfl ?_
        refine T_callU (as := [aI 1, aI ((u9).2 0 2)]) rfl (am_dec tX6_needSign_0 11 rfl) lkX6_49_X8 (show (hfW w hb sp rb rs hb po ro ee hh ss uu vv pp ((u9).2) rr tt gg aa dd bd ga im)[53]? = some (cO 7 [aR 51, aI ((u9).2 0 1), aI ((u9).2 0 2), aI ((u9).2 0 3), aI ((u9).2 0 4), aI ((u9).2 0 5), ro]) from (hfW_c hl 53 (by decide))) rfl rfl (Nat.le_of_ble_eq_true rfl) (by omega) (md_wrong (d := d - 1) hl hp hr 1 ((u9).2 0 2)   (by omega)) (fun _ => ?_)
        refine T_nmH (W := fun x9 => hfW w hb sp rb rs hb po ro ee hh ss uu vv pp x9 rr tt gg aa dd bd ga im) (v := c_wrong ((u9).2) 1 ((u9).2 0 2)) (fun kk21 hkk21 => ?_)
        have hIkk21 : RdI kk21 := by rw [hkk21]; exact c_wrong_I hIu9 _ _
        refine T_weak (ls' := [none, none]) (am_sub_n (am_sub_n am_sub_nil)) ?_
        exact K12 _ (by have s9 := hkk21.symm; subst s9; exact (if_pos h12).symm) 
  exact key _ ⟨rfl, rfl⟩
theorem md_begin {S : am_S} {d u : Nat} {w : AH} {hb sp rb rs : Nat} {po ro : AV} (hl : 109 ≤ w.length) (hp : hb = 1 ∧ sp = 21 ∨ hb = 21 ∧ sp = 1) (hr : rb = 41 ∧ rs = 46 ∨ rb = 46 ∧ rs = 41) {ee : am_F} {hh : am_F} {ss : am_F} {uu : am_F} {vv : am_F} {pp : am_F} {kk : am_F} {rr : am_F} {tt : am_F} {gg : am_F} {aa : am_F} {dd : am_F} {bd : am_F} {ga : am_F} {im : am_F} (n9 : Int) (hn : 0 ≤ n9 ∧ n9 ≤ 600)  (hd : 1 ≤ d) : am_Out S zX6_begin d u [aR 53, aI n9] (hfW w hb sp rb rs hb po ro ee hh ss uu vv pp kk rr tt gg aa dd bd ga im) (.inl none) (hfW w hb sp rb rs hb po ro ee hh ss uu vv pp (c_begin kk n9) rr tt gg aa dd bd ga im) := by
  have key : ∀ Q : AO → AH → Prop, Q (.inl none) (hfW w hb sp rb rs hb po ro ee hh ss uu vv pp (c_begin kk n9) rr tt gg aa dd bd ga im) → am_M S zX6_begin d u [aR 53, aI n9] (hfW w hb sp rb rs hb po ro ee hh ss uu vv pp kk rr tt gg aa dd bd ga im) Q := by
    intro Q hQ
    refine am_body rfl (by decide +kernel) rfl (am_cats_cons rfl ( am_cats_cons rfl (am_cats_nil))) (Nat.le_of_ble_eq_true rfl) (?_ : am_T _ _ _ _ _ 0 [some (aR 53), some (aI n9)] [] (hfW w hb sp rb rs hb po ro ee hh ss uu vv pp kk rr tt gg aa dd bd ga im))
    refine T_aload_n (am_dec tX6_begin_0 0 rfl) rfl ?_
    refine T_iload_n (am_dec tX6_begin_0 1 rfl) rfl ?_
    refine T_aload_n (am_dec tX6_begin_0 2 rfl) rfl ?_
    refine T_getfield 7 0 (am_dec tX6_begin_0 3 rfl) flX6_9_7 (show (hfW w hb sp rb rs hb po ro ee hh ss uu vv pp kk rr tt gg aa dd bd ga im)[53]? = some (cO 7 [aR 51, aI (kk 0 1), aI (kk 0 2), aI (kk 0 3), aI (kk 0 4), aI (kk 0 5), ro]) from (hfW_c hl 53 (by decide))) rfl ?_
    refine T_alenP (am_dec tX6_begin_0 4 rfl) (by decide) (show (hfW w hb sp rb rs hb po ro ee hh ss uu vv pp kk rr tt gg aa dd bd ga im)[51]? = some (cP 0 600 (ee 1)) from (hfW_c hl 51 (by decide))) (by omega) ?_
    rw [show ((600 : Nat) : Int) = 600 from rfl]
    refine T_mmin (am_dec tX6_begin_0 5 rfl) lkX6_15 (Nat.le_of_ble_eq_true rfl) (by omega) ?_
    obtain ⟨m7, hm7⟩ : ∃ x9 : Int, x9 = (if 600 < n9 then 600 else n9) := ⟨_, rfl⟩
    rw [← hm7]
    refine T_putfield (fs' := [aR 51, aI m7, aI (kk 0 2), aI (kk 0 3), aI (kk 0 4), aI (kk 0 5), ro]) 7 1 (am_dec tX6_begin_0 6 rfl) flX6_21_7 rfl rfl rfl trivial (show (hfW w hb sp rb rs hb po ro ee hh ss uu vv pp kk rr tt gg aa dd bd ga im)[53]? = some (cO 7 [aR 51, aI (kk 0 1), aI (kk 0 2), aI (kk 0 3), aI (kk 0 4), aI (kk 0 5), ro]) from (hfW_c hl 53 (by decide))) (Nat.le_of_ble_eq_true rfl) rfl ?_
    refine am_wE (w2 := hfW w hb sp rb rs hb po ro ee hh ss uu vv pp (am_put kk 0 1 m7) rr tt gg aa dd bd ga im) (hf_kk1 hl) ?_
    refine T_aload_n (am_dec tX6_begin_0 7 rfl) rfl ?_
    refine T_iconst 0 (am_dec tX6_begin_0 8 rfl) rfl ⟨by decide, by decide⟩ ?_
    refine T_putfield (fs' := [aR 51, aI m7, aI 0, aI (kk 0 3), aI (kk 0 4), aI (kk 0 5), ro]) 7 2 (am_dec tX6_begin_0 9 rfl) flX6_25_7 rfl rfl rfl trivial (show (hfW w hb sp rb rs hb po ro ee hh ss uu vv pp (am_put kk 0 1 m7) rr tt gg aa dd bd ga im)[53]? = some (cO 7 [aR 51, aI m7, aI (kk 0 2), aI (kk 0 3), aI (kk 0 4), aI (kk 0 5), ro]) from (hfW_c hl 53 (by decide))) (Nat.le_of_ble_eq_true rfl) rfl ?_
    refine am_wE (w2 := hfW w hb sp rb rs hb po ro ee hh ss uu vv pp (am_put (am_put kk 0 1 m7) 0 2 0) rr tt gg aa dd bd ga im) (hf_kk2 hl) ?_
    refine T_aload_n (am_dec tX6_begin_0 10 rfl) rfl ?_
    refine T_iconst 0 (am_dec tX6_begin_0 11 rfl) rfl ⟨by decide, by decide⟩ ?_
    refine T_putfield (fs' := [aR 51, aI m7, aI 0, aI 0, aI (kk 0 4), aI (kk 0 5), ro]) 7 3 (am_dec tX6_begin_0 12 rfl) flX6_28_7 rfl rfl rfl trivial (show (hfW w hb sp rb rs hb po ro ee hh ss uu vv pp (am_put (am_put kk 0 1 m7) 0 2 0) rr tt gg aa dd bd ga im)[53]? = some (cO 7 [aR 51, aI m7, aI 0, aI (kk 0 3), aI (kk 0 4), aI (kk 0 5), ro]) from (hfW_c hl 53 (by decide))) (Nat.le_of_ble_eq_true rfl) rfl ?_
    refine am_wE (w2 := hfW w hb sp rb rs hb po ro ee hh ss uu vv pp (am_put (am_put (am_put kk 0 1 m7) 0 2 0) 0 3 0) rr tt gg aa dd bd ga im) (hf_kk3 hl) ?_
    refine T_aload_n (am_dec tX6_begin_0 13 rfl) rfl ?_
    refine T_iconst 0 (am_dec tX6_begin_0 14 rfl) rfl ⟨by decide, by decide⟩ ?_
    refine T_putfield (fs' := [aR 51, aI m7, aI 0, aI 0, aI 0, aI (kk 0 5), ro]) 7 4 (am_dec tX6_begin_0 15 rfl) flX6_31_7 rfl rfl rfl trivial (show (hfW w hb sp rb rs hb po ro ee hh ss uu vv pp (am_put (am_put (am_put kk 0 1 m7) 0 2 0) 0 3 0) rr tt gg aa dd bd ga im)[53]? = some (cO 7 [aR 51, aI m7, aI 0, aI 0, aI (kk 0 4), aI (kk 0 5), ro]) from (hfW_c hl 53 (by decide))) (Nat.le_of_ble_eq_true rfl) rfl ?_
    refine am_wE (w2 := hfW w hb sp rb rs hb po ro ee hh ss uu vv pp (am_put (am_put (am_put (am_put kk 0 1 m7) 0 2 0) 0 3 0) 0 4 0) rr tt gg aa dd bd ga im) (hf_kk4 hl) ?_
    refine T_aload_n (am_dec tX6_begin_0 16 rfl) rfl ?_
    refine T_iconst (-1) (am_dec tX6_begin_0 17 rfl) rfl ⟨by decide, by decide⟩ ?_
    refine T_putfield (fs' := [aR 51, aI m7, aI 0, aI 0, aI 0, aI (-1), ro]) 7 5 (am_dec tX6_begin_0 18 rfl) flX6_34_7 rfl rfl rfl trivial (show (hfW w hb sp rb rs hb po ro ee hh ss uu vv pp (am_put (am_put (am_put (am_put kk 0 1 m7) 0 2 0) 0 3 0) 0 4 0) rr tt gg aa dd bd ga im)[53]? = some (cO 7 [aR 51, aI m7, aI 0, aI 0, aI 0, aI (kk 0 5), ro]) from (hfW_c hl 53 (by decide))) (Nat.le_of_ble_eq_true rfl) rfl ?_
    refine am_wE (w2 := hfW w hb sp rb rs hb po ro ee hh ss uu vv pp (am_put (am_put (am_put (am_put (am_put kk 0 1 m7) 0 2 0) 0 3 0) 0 4 0) 0 5 (-1)) rr tt gg aa dd bd ga im) (hf_kk5 hl) ?_
    exact T_return (am_dec tX6_begin_0 19 rfl) rfl (am_tr (fun (x9 : am_F) => Q (.inl none) (hfW w hb sp rb rs hb po ro ee hh ss uu vv pp x9 rr tt gg aa dd bd ga im)) (y := (am_put (am_put (am_put (am_put (am_put kk 0 1 m7) 0 2 0) 0 3 0) 0 4 0) 0 5 (-1))) (show (c_begin kk n9) = (am_put (am_put (am_put (am_put (am_put kk 0 1 m7) 0 2 0) 0 3 0) 0 4 0) 0 5 (-1)) from (by have s9 := hm7.symm; subst s9; exact rfl)) hQ)
  exact key _ ⟨rfl, rfl⟩
