/-! a STEP -/
theorem L_led {S : am_S} {d u : Nat} {Q : AO → AH → Prop} {w : AH} {b hb : Nat} {h : am_F} (hl : b + 10 ≤ w.length) (hx : hb + 20 ≤ b ∨ b + 10 ≤ hb) (hH : Hb w hb h) (hV : HbV h) (s : Int) (hs : 0 ≤ s ∧ s < 40) : ∀ (n : Nat) (lamp : Int) (r : am_F), lamp + n = 7 → 0 ≤ lamp → True → (∀ (r' : am_F), r' = am_fold (g_led s) lamp n r → True → am_T S zX9_goOn d u Q 112 [some (aR b), some (aI s), some (aI 7)] [] (rnW w b hb r')) → am_T S zX9_goOn d u Q 76 [some (aR b), some (aI s), some (aI lamp)] [] (rnW w b hb r) := by
  intro n
  induction n with
  | zero =>
    intro lamp r hi9 h0i hinv k9
    refine T_iload_n (am_dec tX9_goOn_1 13 rfl) rfl ?_
    refine T_bipush 7 (am_dec tX9_goOn_1 14 rfl) rfl ⟨by decide, by decide⟩ ?_
    refine T_icmp_ge 112 (am_dec tX9_goOn_1 15 rfl) rfl (fun h79 => ?_) (fun h79 => by exfalso; omega)
    have e9 : lamp = 7 := by omega
    rw [← e9] at k9
    exact k9 r rfl (by first | exact hinv | omega)
  | succ n ih =>
    intro lamp r hi9 h0i hinv k9
    refine T_iload_n (am_dec tX9_goOn_1 13 rfl) rfl ?_
    refine T_bipush 7 (am_dec tX9_goOn_1 14 rfl) rfl ⟨by decide, by decide⟩ ?_
    refine T_icmp_ge 112 (am_dec tX9_goOn_1 15 rfl) rfl (fun h79 => by exfalso; omega) (fun h79 => ?_)
    refine T_aload_n (am_dec tX9_goOn_1 16 rfl) rfl ?_
    refine T_getfield 8 12 (am_dec tX9_goOn_1 17 rfl) flX9_30_8 (show (rnW w b hb r)[b]? = some (cO 8 [aR hb, aI (r 0 1), aI (r 0 2), aI (r 0 3), aI (r 0 4), aI (r 0 5), aR (b + 1), aR (b + 2), aR (b + 3), aR (b + 4), aR (b + 5), aR (b + 6), aR (b + 7), aR (b + 8), aR (b + 9)]) from rnW_Rn hl 0 (by decide)) rfl ?_
    refine T_iload_n (am_dec tX9_goOn_1 18 rfl) rfl ?_
    refine T_bipush 41 (am_dec tX9_goOn_1 19 rfl) rfl ⟨by decide, by decide⟩ ?_
    refine T_imul (lamp * 41) (am_dec tX9_goOn_1 20 rfl) rfl ⟨by omega, by omega⟩ ?_
    refine T_iload_n (am_dec tX9_goOn_1 21 rfl) rfl ?_
    refine T_iadd ((lamp * 41) + s) (am_dec tX9_goOn_1 22 rfl) rfl ⟨by omega, by omega⟩ ?_
    refine T_iconst 1 (am_dec tX9_goOn_1 23 rfl) rfl ⟨by decide, by decide⟩ ?_
    refine T_iadd (((lamp * 41) + s) + 1) (am_dec tX9_goOn_1 24 rfl) rfl ⟨by omega, by omega⟩ ?_
    refine T_aload_n (am_dec tX9_goOn_1 25 rfl) rfl ?_
    refine T_getfield 8 12 (am_dec tX9_goOn_1 26 rfl) flX9_30_8 (show (rnW w b hb r)[b]? = some (cO 8 [aR hb, aI (r 0 1), aI (r 0 2), aI (r 0 3), aI (r 0 4), aI (r 0 5), aR (b + 1), aR (b + 2), aR (b + 3), aR (b + 4), aR (b + 5), aR (b + 6), aR (b + 7), aR (b + 8), aR (b + 9)]) from rnW_Rn hl 0 (by decide)) rfl ?_
    refine T_iload_n (am_dec tX9_goOn_1 27 rfl) rfl ?_
    refine T_bipush 41 (am_dec tX9_goOn_1 28 rfl) rfl ⟨by decide, by decide⟩ ?_
    refine T_imul (lamp * 41) (am_dec tX9_goOn_1 29 rfl) rfl ⟨by omega, by omega⟩ ?_
    refine T_iload_n (am_dec tX9_goOn_1 30 rfl) rfl ?_
    refine T_iadd ((lamp * 41) + s) (am_dec tX9_goOn_1 31 rfl) rfl ⟨by omega, by omega⟩ ?_
    refine T_iaload (am_dec tX9_goOn_1 32 rfl) (show (rnW w b hb r)[b + 7]? = some (cP 0 287 (r 7)) from rnW_Rn hl 7 (by decide)) (by omega) (by omega) ?_
    refine T_iastore (am_dec tX9_goOn_1 33 rfl) (show (rnW w b hb r)[b + 7]? = some (cP 0 287 (r 7)) from rnW_Rn hl 7 (by decide)) (by omega) (by omega) ?_
    refine am_wE (w2 := rnW w b hb (am_put r 7 ((((lamp * 41) + s) + 1).toNat) ((r 7) ((lamp * 41) + s).toNat))) rnW_p7 ?_
    refine T_iinc (ls' := [some (aR b), some (aI s), some (aI (lamp + 1))]) (lamp + 1) (am_dec tX9_goOn_1 34 rfl) rfl rfl ⟨by omega, by omega⟩ (by decide) rfl ?_
    refine T_goto 76 (am_dec tX9_goOn_1 35 rfl) rfl ?_
    have e9 : (g_led s) lamp r = (am_put r 7 ((((lamp * 41) + s) + 1).toNat) ((r 7) ((lamp * 41) + s).toNat)) := rfl
    simp only [am_fold_s, e9] at k9
    exact ih (lamp + 1) (am_put r 7 ((((lamp * 41) + s) + 1).toNat) ((r 7) ((lamp * 41) + s).toNat)) (by omega) (by omega) trivial k9
theorem m_goOn {S : am_S} {d u : Nat} {w : AH} {b hb : Nat} {r h : am_F} (hl : b + 10 ≤ w.length) (hx : hb + 20 ≤ b ∨ b + 10 ≤ hb) (hH : Hb w hb h) (hA : HbAll h) (s : Int) (hs : 0 ≤ s ∧ s < 40) (hF : RnF r) (hMl : MlB r) (hd : 4 ≤ d) : am_Out S zX9_goOn d u [aR b, aI s] (rnW w b hb r) (.inl none) (rnW w b hb (f_goOn h r s)) := by
  refine am_body rfl (by decide +kernel) rfl (am_cats_cons rfl ( am_cats_cons rfl (am_cats_nil))) (Nat.le_of_ble_eq_true rfl) (?_ : am_T _ _ _ _ _ 0 [some (aR b), some (aI s), none] [] (rnW w b hb r))
  obtain ⟨hV, hLt, hWd, hSt, hLp, hTh⟩ := id hA
  obtain ⟨g1, g2, g3⟩ := f_go1_f hs hF hMl
  obtain ⟨k1, k2, k3, k4, k5, k6, k7⟩ := f_go_k hA hs hF hMl
  refine T_aload_n (am_dec tX9_goOn_0 0 rfl) rfl ?_
  refine T_getfield 8 6 (am_dec tX9_goOn_0 1 rfl) flX9_11_8 (show (rnW w b hb r)[b]? = some (cO 8 [aR hb, aI (r 0 1), aI (r 0 2), aI (r 0 3), aI (r 0 4), aI (r 0 5), aR (b + 1), aR (b + 2), aR (b + 3), aR (b + 4), aR (b + 5), aR (b + 6), aR (b + 7), aR (b + 8), aR (b + 9)]) from rnW_Rn hl 0 (by decide)) rfl ?_
  refine T_iload_n (am_dec tX9_goOn_0 2 rfl) rfl ?_
  refine T_bipush 90 (am_dec tX9_goOn_0 3 rfl) rfl ⟨by decide, by decide⟩ ?_
  refine T_imul (s * 90) (am_dec tX9_goOn_0 4 rfl) rfl ⟨by omega, by omega⟩ ?_
  refine T_aload_n (am_dec tX9_goOn_0 5 rfl) rfl ?_
  refine T_getfield 8 6 (am_dec tX9_goOn_0 6 rfl) flX9_11_8 (show (rnW w b hb r)[b]? = some (cO 8 [aR hb, aI (r 0 1), aI (r 0 2), aI (r 0 3), aI (r 0 4), aI (r 0 5), aR (b + 1), aR (b + 2), aR (b + 3), aR (b + 4), aR (b + 5), aR (b + 6), aR (b + 7), aR (b + 8), aR (b + 9)]) from rnW_Rn hl 0 (by decide)) rfl ?_
  refine T_iload_n (am_dec tX9_goOn_0 7 rfl) rfl ?_
  refine T_iconst 1 (am_dec tX9_goOn_0 8 rfl) rfl ⟨by decide, by decide⟩ ?_
  refine T_iadd (s + 1) (am_dec tX9_goOn_0 9 rfl) rfl ⟨by omega, by omega⟩ ?_
  refine T_bipush 90 (am_dec tX9_goOn_0 10 rfl) rfl ⟨by decide, by decide⟩ ?_
  refine T_imul ((s + 1) * 90) (am_dec tX9_goOn_0 11 rfl) rfl ⟨by omega, by omega⟩ ?_
  refine T_bipush 90 (am_dec tX9_goOn_0 12 rfl) rfl ⟨by decide, by decide⟩ ?_
  refine T_arraycopy (am_dec tX9_goOn_0 13 rfl) (⟨am_m2 24 rfl rfl, am_m2 26 rfl rfl, am_m2 25 rfl rfl, am_m1 11 rfl rfl⟩) (show (rnW w b hb r)[b + 1]? = some (cP 0 3690 (r 1)) from rnW_Rn hl 1 (by decide)) (show (rnW w b hb r)[b + 1]? = some (cP 0 3690 (r 1)) from rnW_Rn hl 1 (by decide)) (by omega) (by omega) (by omega) (by omega) (by omega) (Nat.le_of_ble_eq_true rfl) (by omega) ?_
  refine am_wE (w2 := rnW w b hb (am_row r 1 (am_cpy (r 1) (r 1) (s * 90).toNat ((s + 1) * 90).toNat (90 : Int).toNat))) rnW_r1 ?_
  refine T_aload_n (am_dec tX9_goOn_0 14 rfl) rfl ?_
  refine T_getfield 8 8 (am_dec tX9_goOn_0 15 rfl) flX9_18_8 (show (rnW w b hb (am_row r 1 (am_cpy (r 1) (r 1) (s * 90).toNat ((s + 1) * 90).toNat (90 : Int).toNat)))[b]? = some (cO 8 [aR hb, aI (r 0 1), aI (r 0 2), aI (r 0 3), aI (r 0 4), aI (r 0 5), aR (b + 1), aR (b + 2), aR (b + 3), aR (b + 4), aR (b + 5), aR (b + 6), aR (b + 7), aR (b + 8), aR (b + 9)]) from rnW_Rn hl 0 (by decide)) rfl ?_
  refine T_iload_n (am_dec tX9_goOn_0 16 rfl) rfl ?_
  refine T_iconst 1 (am_dec tX9_goOn_0 17 rfl) rfl ⟨by decide, by decide⟩ ?_
  refine T_iadd (s + 1) (am_dec tX9_goOn_0 18 rfl) rfl ⟨by omega, by omega⟩ ?_
  refine T_aload_n (am_dec tX9_goOn_0 19 rfl) rfl ?_
  refine T_getfield 8 8 (am_dec tX9_goOn_0 20 rfl) flX9_18_8 (show (rnW w b hb (am_row r 1 (am_cpy (r 1) (r 1) (s * 90).toNat ((s + 1) * 90).toNat (90 : Int).toNat)))[b]? = some (cO 8 [aR hb, aI (r 0 1), aI (r 0 2), aI (r 0 3), aI (r 0 4), aI (r 0 5), aR (b + 1), aR (b + 2), aR (b + 3), aR (b + 4), aR (b + 5), aR (b + 6), aR (b + 7), aR (b + 8), aR (b + 9)]) from rnW_Rn hl 0 (by decide)) rfl ?_
  refine T_iload_n (am_dec tX9_goOn_0 21 rfl) rfl ?_
  refine T_iaload (am_dec tX9_goOn_0 22 rfl) (show (rnW w b hb (am_row r 1 (am_cpy (r 1) (r 1) (s * 90).toNat ((s + 1) * 90).toNat (90 : Int).toNat)))[b + 3]? = some (cP 0 41 (r 3)) from rnW_Rn hl 3 (by decide)) (by omega) (by omega) ?_
  refine T_iastore (am_dec tX9_goOn_0 23 rfl) (show (rnW w b hb (am_row r 1 (am_cpy (r 1) (r 1) (s * 90).toNat ((s + 1) * 90).toNat (90 : Int).toNat)))[b + 3]? = some (cP 0 41 (r 3)) from rnW_Rn hl 3 (by decide)) (by omega) (by omega) ?_
  refine am_wE (w2 := rnW w b hb (am_put (am_row r 1 (am_cpy (r 1) (r 1) (s * 90).toNat ((s + 1) * 90).toNat (90 : Int).toNat)) 3 ((s + 1).toNat) ((r 3) s.toNat))) rnW_p3 ?_
  refine T_aload_n (am_dec tX9_goOn_0 24 rfl) rfl ?_
  refine T_getfield 8 9 (am_dec tX9_goOn_0 25 rfl) flX9_21_8 (show (rnW w b hb (am_put (am_row r 1 (am_cpy (r 1) (r 1) (s * 90).toNat ((s + 1) * 90).toNat (90 : Int).toNat)) 3 ((s + 1).toNat) ((r 3) s.toNat)))[b]? = some (cO 8 [aR hb, aI (r 0 1), aI (r 0 2), aI (r 0 3), aI (r 0 4), aI (r 0 5), aR (b + 1), aR (b + 2), aR (b + 3), aR (b + 4), aR (b + 5), aR (b + 6), aR (b + 7), aR (b + 8), aR (b + 9)]) from rnW_Rn hl 0 (by decide)) rfl ?_
  refine T_iload_n (am_dec tX9_goOn_0 26 rfl) rfl ?_
  refine T_iconst 1 (am_dec tX9_goOn_0 27 rfl) rfl ⟨by decide, by decide⟩ ?_
  refine T_iadd (s + 1) (am_dec tX9_goOn_0 28 rfl) rfl ⟨by omega, by omega⟩ ?_
  refine T_aload_n (am_dec tX9_goOn_0 29 rfl) rfl ?_
  refine T_getfield 8 9 (am_dec tX9_goOn_0 30 rfl) flX9_21_8 (show (rnW w b hb (am_put (am_row r 1 (am_cpy (r 1) (r 1) (s * 90).toNat ((s + 1) * 90).toNat (90 : Int).toNat)) 3 ((s + 1).toNat) ((r 3) s.toNat)))[b]? = some (cO 8 [aR hb, aI (r 0 1), aI (r 0 2), aI (r 0 3), aI (r 0 4), aI (r 0 5), aR (b + 1), aR (b + 2), aR (b + 3), aR (b + 4), aR (b + 5), aR (b + 6), aR (b + 7), aR (b + 8), aR (b + 9)]) from rnW_Rn hl 0 (by decide)) rfl ?_
  refine T_iload_n (am_dec tX9_goOn_0 31 rfl) rfl ?_
  refine T_iaload (am_dec tX9_goOn_0 32 rfl) (show (rnW w b hb (am_put (am_row r 1 (am_cpy (r 1) (r 1) (s * 90).toNat ((s + 1) * 90).toNat (90 : Int).toNat)) 3 ((s + 1).toNat) ((r 3) s.toNat)))[b + 4]? = some (cP 0 41 (r 4)) from rnW_Rn hl 4 (by decide)) (by omega) (by omega) ?_
  refine T_iastore (am_dec tX9_goOn_0 33 rfl) (show (rnW w b hb (am_put (am_row r 1 (am_cpy (r 1) (r 1) (s * 90).toNat ((s + 1) * 90).toNat (90 : Int).toNat)) 3 ((s + 1).toNat) ((r 3) s.toNat)))[b + 4]? = some (cP 0 41 (r 4)) from rnW_Rn hl 4 (by decide)) (by omega) (by omega) ?_
  refine am_wE (w2 := rnW w b hb (am_put (am_put (am_row r 1 (am_cpy (r 1) (r 1) (s * 90).toNat ((s + 1) * 90).toNat (90 : Int).toNat)) 3 ((s + 1).toNat) ((r 3) s.toNat)) 4 ((s + 1).toNat) ((r 4) s.toNat))) rnW_p4 ?_
  refine T_aload_n (am_dec tX9_goOn_0 34 rfl) rfl ?_
  refine T_getfield 8 10 (am_dec tX9_goOn_0 35 rfl) flX9_24_8 (show (rnW w b hb (am_put (am_put (am_row r 1 (am_cpy (r 1) (r 1) (s * 90).toNat ((s + 1) * 90).toNat (90 : Int).toNat)) 3 ((s + 1).toNat) ((r 3) s.toNat)) 4 ((s + 1).toNat) ((r 4) s.toNat)))[b]? = some (cO 8 [aR hb, aI (r 0 1), aI (r 0 2), aI (r 0 3), aI (r 0 4), aI (r 0 5), aR (b + 1), aR (b + 2), aR (b + 3), aR (b + 4), aR (b + 5), aR (b + 6), aR (b + 7), aR (b + 8), aR (b + 9)]) from rnW_Rn hl 0 (by decide)) rfl ?_
  refine T_iload_n (am_dec tX9_goOn_0 36 rfl) rfl ?_
  refine T_iconst 1 (am_dec tX9_goOn_0 37 rfl) rfl ⟨by decide, by decide⟩ ?_
  refine T_iadd (s + 1) (am_dec tX9_goOn_0 38 rfl) rfl ⟨by omega, by omega⟩ ?_
  refine T_aload_n (am_dec tX9_goOn_0 39 rfl) rfl ?_
  refine T_getfield 8 10 (am_dec tX9_goOn_1 0 rfl) flX9_24_8 (show (rnW w b hb (am_put (am_put (am_row r 1 (am_cpy (r 1) (r 1) (s * 90).toNat ((s + 1) * 90).toNat (90 : Int).toNat)) 3 ((s + 1).toNat) ((r 3) s.toNat)) 4 ((s + 1).toNat) ((r 4) s.toNat)))[b]? = some (cO 8 [aR hb, aI (r 0 1), aI (r 0 2), aI (r 0 3), aI (r 0 4), aI (r 0 5), aR (b + 1), aR (b + 2), aR (b + 3), aR (b + 4), aR (b + 5), aR (b + 6), aR (b + 7), aR (b + 8), aR (b + 9)]) from rnW_Rn hl 0 (by decide)) rfl ?_
  refine T_iload_n (am_dec tX9_goOn_1 1 rfl) rfl ?_
  refine T_iaload (am_dec tX9_goOn_1 2 rfl) (show (rnW w b hb (am_put (am_put (am_row r 1 (am_cpy (r 1) (r 1) (s * 90).toNat ((s + 1) * 90).toNat (90 : Int).toNat)) 3 ((s + 1).toNat) ((r 3) s.toNat)) 4 ((s + 1).toNat) ((r 4) s.toNat)))[b + 5]? = some (cP 0 41 (r 5)) from rnW_Rn hl 5 (by decide)) (by omega) (by omega) ?_
  refine T_iastore (am_dec tX9_goOn_1 3 rfl) (show (rnW w b hb (am_put (am_put (am_row r 1 (am_cpy (r 1) (r 1) (s * 90).toNat ((s + 1) * 90).toNat (90 : Int).toNat)) 3 ((s + 1).toNat) ((r 3) s.toNat)) 4 ((s + 1).toNat) ((r 4) s.toNat)))[b + 5]? = some (cP 0 41 (r 5)) from rnW_Rn hl 5 (by decide)) (by omega) (by omega) ?_
  refine am_wE (w2 := rnW w b hb (am_put (am_put (am_put (am_row r 1 (am_cpy (r 1) (r 1) (s * 90).toNat ((s + 1) * 90).toNat (90 : Int).toNat)) 3 ((s + 1).toNat) ((r 3) s.toNat)) 4 ((s + 1).toNat) ((r 4) s.toNat)) 5 ((s + 1).toNat) ((r 5) s.toNat))) rnW_p5 ?_
  refine T_aload_n (am_dec tX9_goOn_1 4 rfl) rfl ?_
  refine T_getfield 8 11 (am_dec tX9_goOn_1 5 rfl) flX9_27_8 (show (rnW w b hb (am_put (am_put (am_put (am_row r 1 (am_cpy (r 1) (r 1) (s * 90).toNat ((s + 1) * 90).toNat (90 : Int).toNat)) 3 ((s + 1).toNat) ((r 3) s.toNat)) 4 ((s + 1).toNat) ((r 4) s.toNat)) 5 ((s + 1).toNat) ((r 5) s.toNat)))[b]? = some (cO 8 [aR hb, aI (r 0 1), aI (r 0 2), aI (r 0 3), aI (r 0 4), aI (r 0 5), aR (b + 1), aR (b + 2), aR (b + 3), aR (b + 4), aR (b + 5), aR (b + 6), aR (b + 7), aR (b + 8), aR (b + 9)]) from rnW_Rn hl 0 (by decide)) rfl ?_
  refine T_iload_n (am_dec tX9_goOn_1 6 rfl) rfl ?_
  refine T_iconst 1 (am_dec tX9_goOn_1 7 rfl) rfl ⟨by decide, by decide⟩ ?_
  refine T_iadd (s + 1) (am_dec tX9_goOn_1 8 rfl) rfl ⟨by omega, by omega⟩ ?_
  refine T_iconst 0 (am_dec tX9_goOn_1 9 rfl) rfl ⟨by decide, by decide⟩ ?_
  refine T_iastore (am_dec tX9_goOn_1 10 rfl) (show (rnW w b hb (am_put (am_put (am_put (am_row r 1 (am_cpy (r 1) (r 1) (s * 90).toNat ((s + 1) * 90).toNat (90 : Int).toNat)) 3 ((s + 1).toNat) ((r 3) s.toNat)) 4 ((s + 1).toNat) ((r 4) s.toNat)) 5 ((s + 1).toNat) ((r 5) s.toNat)))[b + 6]? = some (cP 0 41 (r 6)) from rnW_Rn hl 6 (by decide)) (by omega) (by omega) ?_
  refine am_wE (w2 := rnW w b hb (am_put (am_put (am_put (am_put (am_row r 1 (am_cpy (r 1) (r 1) (s * 90).toNat ((s + 1) * 90).toNat (90 : Int).toNat)) 3 ((s + 1).toNat) ((r 3) s.toNat)) 4 ((s + 1).toNat) ((r 4) s.toNat)) 5 ((s + 1).toNat) ((r 5) s.toNat)) 6 ((s + 1).toNat) 0)) rnW_p6 ?_
  refine T_iconst 0 (am_dec tX9_goOn_1 11 rfl) rfl ⟨by decide, by decide⟩ ?_
  refine T_istore_n (ls' := [some (aR b), some (aI s), some (aI 0)]) (am_dec tX9_goOn_1 12 rfl) (by decide) rfl ?_
  refine L_led hl hx hH hV s hs ((7 : Int) - 0).toNat 0 (am_put (am_put (am_put (am_put (am_row r 1 (am_cpy (r 1) (r 1) (s * 90).toNat ((s + 1) * 90).toNat (90 : Int).toNat)) 3 ((s + 1).toNat) ((r 3) s.toNat)) 4 ((s + 1).toNat) ((r 4) s.toNat)) 5 ((s + 1).toNat) ((r 5) s.toNat)) 6 ((s + 1).toNat) 0) (by omega) (by omega) trivial (fun r76 hr76 hv76 => ?_)
  have e76 : r76 = f_go0 r s := hr76
  rw [e76]
  refine T_aload_n (am_dec tX9_goOn_1 36 rfl) rfl ?_
  refine T_callV (as := []) rfl (am_dec tX9_goOn_1 37 rfl) lkX9_93 (show (rnW w b hb (f_go0 r s))[b]? = some (cO 8 [aR hb, aI ((f_go0 r s) 0 1), aI ((f_go0 r s) 0 2), aI ((f_go0 r s) 0 3), aI ((f_go0 r s) 0 4), aI ((f_go0 r s) 0 5), aR (b + 1), aR (b + 2), aR (b + 3), aR (b + 4), aR (b + 5), aR (b + 6), aR (b + 7), aR (b + 8), aR (b + 9)]) from rnW_Rn hl 0 (by decide)) rfl rfl (Nat.le_of_ble_eq_true rfl) (by omega) (m_draws hl hx hH hV) (fun _ => ?_)
  refine T_istore_n (ls' := [some (aR b), some (aI s), some (aI (f_draws (f_go0 r s)))]) (am_dec tX9_goOn_1 38 rfl) (by decide) rfl ?_
  refine T_aload_n (am_dec tX9_goOn_1 39 rfl) rfl ?_
  refine T_getfield 8 7 (am_dec tX9_goOn_2 0 rfl) flX9_15_8 (show (rnW w b hb (f_go1 r s))[b]? = some (cO 8 [aR hb, aI ((f_go1 r s) 0 1), aI ((f_go1 r s) 0 2), aI ((f_go1 r s) 0 3), aI ((f_go1 r s) 0 4), aI ((f_go1 r s) 0 5), aR (b + 1), aR (b + 2), aR (b + 3), aR (b + 4), aR (b + 5), aR (b + 6), aR (b + 7), aR (b + 8), aR (b + 9)]) from rnW_Rn hl 0 (by decide)) rfl ?_
  refine T_iload_n (am_dec tX9_goOn_2 1 rfl) rfl ?_
  refine T_iaload (am_dec tX9_goOn_2 2 rfl) (show (rnW w b hb (f_go1 r s))[b + 2]? = some (cP 0 41 ((f_go1 r s) 2)) from rnW_Rn hl 2 (by decide)) (by omega) (by omega) ?_
  refine T_if_le 156 (am_dec tX9_goOn_2 3 rfl) rfl (fun h123 => ?_) (fun h123 => ?_)
  · refine T_aload_n (am_dec tX9_goOn_2 24 rfl) rfl ?_
    refine T_iload_n (am_dec tX9_goOn_2 25 rfl) rfl ?_
    refine T_iconst 1 (am_dec tX9_goOn_2 26 rfl) rfl ⟨by decide, by decide⟩ ?_
    refine T_iadd (s + 1) (am_dec tX9_goOn_2 27 rfl) rfl ⟨by omega, by omega⟩ ?_
    refine T_callV (as := [aI (s + 1)]) rfl (am_dec tX9_goOn_2 28 rfl) lkX9_74 (show (rnW w b hb (f_go1 r s))[b]? = some (cO 8 [aR hb, aI ((f_go1 r s) 0 1), aI ((f_go1 r s) 0 2), aI ((f_go1 r s) 0 3), aI ((f_go1 r s) 0 4), aI ((f_go1 r s) 0 5), aR (b + 1), aR (b + 2), aR (b + 3), aR (b + 4), aR (b + 5), aR (b + 6), aR (b + 7), aR (b + 8), aR (b + 9)]) from rnW_Rn hl 0 (by decide)) rfl rfl (Nat.le_of_ble_eq_true rfl) (by omega) (m_addUp hl hx hH hV g1 (s + 1) (by omega)) (fun _ => ?_)
    exact T_return (am_dec tX9_goOn_2 29 rfl) rfl ⟨rfl, by unfold f_goOn; rw [if_neg (by omega)]⟩
  · refine T_aload_n (am_dec tX9_goOn_2 4 rfl) rfl ?_
    refine T_iload_n (am_dec tX9_goOn_2 5 rfl) rfl ?_
    refine T_iload_n (am_dec tX9_goOn_2 6 rfl) rfl ?_
    refine T_callV (as := [aI s, aI (f_draws (f_go0 r s))]) rfl (am_dec tX9_goOn_2 7 rfl) lkX9_97 (show (rnW w b hb (f_go1 r s))[b]? = some (cO 8 [aR hb, aI ((f_go1 r s) 0 1), aI ((f_go1 r s) 0 2), aI ((f_go1 r s) 0 3), aI ((f_go1 r s) 0 4), aI ((f_go1 r s) 0 5), aR (b + 1), aR (b + 2), aR (b + 3), aR (b + 4), aR (b + 5), aR (b + 6), aR (b + 7), aR (b + 8), aR (b + 9)]) from rnW_Rn hl 0 (by decide)) rfl rfl (Nat.le_of_ble_eq_true rfl) (by omega) (m_blow hl hx hH hV hLt hWd s (f_draws (f_go0 r s)) hs k1 (by omega)) (fun _ => ?_)
    refine T_aload_n (am_dec tX9_goOn_2 8 rfl) rfl ?_
    refine T_iload_n (am_dec tX9_goOn_2 9 rfl) rfl ?_
    refine T_callV (as := [aI s]) rfl (am_dec tX9_goOn_2 10 rfl) lkX9_101 (show (rnW w b hb (f_go2 h r s))[b]? = some (cO 8 [aR hb, aI ((f_go2 h r s) 0 1), aI ((f_go2 h r s) 0 2), aI ((f_go2 h r s) 0 3), aI ((f_go2 h r s) 0 4), aI ((f_go2 h r s) 0 5), aR (b + 1), aR (b + 2), aR (b + 3), aR (b + 4), aR (b + 5), aR (b + 6), aR (b + 7), aR (b + 8), aR (b + 9)]) from rnW_Rn hl 0 (by decide)) rfl rfl (Nat.le_of_ble_eq_true rfl) (by omega) (m_mixAll hl hx hH hV hSt s hs k2 (by omega)) (fun _ => ?_)
    refine T_aload_n (am_dec tX9_goOn_2 11 rfl) rfl ?_
    refine T_iload_n (am_dec tX9_goOn_2 12 rfl) rfl ?_
    refine T_iconst 1 (am_dec tX9_goOn_2 13 rfl) rfl ⟨by decide, by decide⟩ ?_
    refine T_iadd (s + 1) (am_dec tX9_goOn_2 14 rfl) rfl ⟨by omega, by omega⟩ ?_
    refine T_callV (as := [aI (s + 1)]) rfl (am_dec tX9_goOn_2 15 rfl) lkX9_104 (show (rnW w b hb (f_mixAll h (f_go2 h r s) s))[b]? = some (cO 8 [aR hb, aI ((f_mixAll h (f_go2 h r s) s) 0 1), aI ((f_mixAll h (f_go2 h r s) s) 0 2), aI ((f_mixAll h (f_go2 h r s) s) 0 3), aI ((f_mixAll h (f_go2 h r s) s) 0 4), aI ((f_mixAll h (f_go2 h r s) s) 0 5), aR (b + 1), aR (b + 2), aR (b + 3), aR (b + 4), aR (b + 5), aR (b + 6), aR (b + 7), aR (b + 8), aR (b + 9)]) from rnW_Rn hl 0 (by decide)) rfl rfl (Nat.le_of_ble_eq_true rfl) (by omega) (m_spill hl hx hH hV (s + 1) (by omega) (k3.le (by omega))) (fun _ => ?_)
    refine T_aload_n (am_dec tX9_goOn_2 16 rfl) rfl ?_
    refine T_iload_n (am_dec tX9_goOn_2 17 rfl) rfl ?_
    refine T_iconst 1 (am_dec tX9_goOn_2 18 rfl) rfl ⟨by decide, by decide⟩ ?_
    refine T_iadd (s + 1) (am_dec tX9_goOn_2 19 rfl) rfl ⟨by omega, by omega⟩ ?_
    refine T_callV (as := [aI (s + 1)]) rfl (am_dec tX9_goOn_2 20 rfl) lkX9_107 (show (rnW w b hb (f_go3 h r s))[b]? = some (cO 8 [aR hb, aI ((f_go3 h r s) 0 1), aI ((f_go3 h r s) 0 2), aI ((f_go3 h r s) 0 3), aI ((f_go3 h r s) 0 4), aI ((f_go3 h r s) 0 5), aR (b + 1), aR (b + 2), aR (b + 3), aR (b + 4), aR (b + 5), aR (b + 6), aR (b + 7), aR (b + 8), aR (b + 9)]) from rnW_Rn hl 0 (by decide)) rfl rfl (Nat.le_of_ble_eq_true rfl) (by omega) (m_burnAll hl hx hH hV hLp k4.2 (s + 1) (by omega) (k4.1.le (by omega)) (by omega)) (fun _ => ?_)
    refine T_aload_n (am_dec tX9_goOn_2 21 rfl) rfl ?_
    refine T_iload_n (am_dec tX9_goOn_2 22 rfl) rfl ?_
    refine T_callV (as := [aI s]) rfl (am_dec tX9_goOn_2 23 rfl) lkX9_110 (show (rnW w b hb (f_burnAll h (f_go3 h r s) (s + 1)))[b]? = some (cO 8 [aR hb, aI ((f_burnAll h (f_go3 h r s) (s + 1)) 0 1), aI ((f_burnAll h (f_go3 h r s) (s + 1)) 0 2), aI ((f_burnAll h (f_go3 h r s) (s + 1)) 0 3), aI ((f_burnAll h (f_go3 h r s) (s + 1)) 0 4), aI ((f_burnAll h (f_go3 h r s) (s + 1)) 0 5), aR (b + 1), aR (b + 2), aR (b + 3), aR (b + 4), aR (b + 5), aR (b + 6), aR (b + 7), aR (b + 8), aR (b + 9)]) from rnW_Rn hl 0 (by decide)) rfl rfl (Nat.le_of_ble_eq_true rfl) (by omega) (m_thinOut hl hx hH hV hTh s hs (k5.le (by omega)) (by omega)) (fun _ => ?_)
    refine T_aload_n (am_dec tX9_goOn_2 24 rfl) rfl ?_
    refine T_iload_n (am_dec tX9_goOn_2 25 rfl) rfl ?_
    refine T_iconst 1 (am_dec tX9_goOn_2 26 rfl) rfl ⟨by decide, by decide⟩ ?_
    refine T_iadd (s + 1) (am_dec tX9_goOn_2 27 rfl) rfl ⟨by omega, by omega⟩ ?_
    refine T_callV (as := [aI (s + 1)]) rfl (am_dec tX9_goOn_2 28 rfl) lkX9_74 (show (rnW w b hb (f_go4 h r s))[b]? = some (cO 8 [aR hb, aI ((f_go4 h r s) 0 1), aI ((f_go4 h r s) 0 2), aI ((f_go4 h r s) 0 3), aI ((f_go4 h r s) 0 4), aI ((f_go4 h r s) 0 5), aR (b + 1), aR (b + 2), aR (b + 3), aR (b + 4), aR (b + 5), aR (b + 6), aR (b + 7), aR (b + 8), aR (b + 9)]) from rnW_Rn hl 0 (by decide)) rfl rfl (Nat.le_of_ble_eq_true rfl) (by omega) (m_addUp hl hx hH hV k6 (s + 1) (by omega)) (fun _ => ?_)
    exact T_return (am_dec tX9_goOn_2 29 rfl) rfl ⟨rfl, by unfold f_goOn; rw [if_pos (by omega)]⟩
def g_upTo (h : am_F) (s : Int) (r : am_F) : am_F := am_put (f_goOn h r s) 0 1 (s + 1)
def f_from (r : am_F) : Int := if 0 < r 0 1 then r 0 1 else 0
def f_to (step : Int) : Int := (if step < 39 then step else 39) + 1
def f_upTo (h r : am_F) (step : Int) : am_F := am_fold (g_upTo h) (f_from r) (f_to step - f_from r).toNat r
theorem f_upTo_k {h r : am_F} {step : Int} (hA : HbAll h) (hF : RnF r) (hMl : MlB r) : RnF (f_upTo h r step) ∧ MlB (f_upTo h r step) := by
  have q := am_fold_inv (P := fun (_ : Int) (x : am_F) => RnF x ∧ MlB x) (g := g_upTo h) (f_to step - f_from r).toNat (f_from r) r ⟨hF, hMl⟩ (fun i x a b hp => by
    have g := f_goOn_k (h := h) (r := x) (s := i) hA (by unfold f_from f_to at *; omega) hp.1 hp.2
    exact g)
  exact q
theorem L_upTo {S : am_S} {d u : Nat} {Q : AO → AH → Prop} {w : AH} {b hb : Nat} {h : am_F} (hl : b + 10 ≤ w.length) (hx : hb + 20 ≤ b ∨ b + 10 ≤ hb) (hH : Hb w hb h) (hA : HbAll h) (step B s0 : Int) (hs0 : 0 ≤ s0) (hB : step < B ∨ 40 ≤ B) (hB2 : s0 < B → B ≤ step + 1 ∧ B ≤ 40) (hd : 5 ≤ d) : ∀ (n : Nat) (i : Int) (r : am_F), i + n = B → 0 ≤ i → s0 ≤ i ∧ RnF r ∧ MlB r → (∀ (r' : am_F), r' = am_fold (g_upTo h) i n r → s0 ≤ B ∧ RnF r' ∧ MlB r' → am_T S zX9_upTo d u Q 38 [some (aR b), some (aI step), some (aI B)] [] (rnW w b hb r')) → am_T S zX9_upTo d u Q 9 [some (aR b), some (aI step), some (aI i)] [] (rnW w b hb r) := by
  intro n
  induction n with
  | zero =>
    intro i r hi9 h0i hinv k9
    obtain ⟨i0, i1, i2⟩ := hinv
    have hinv := And.intro i0 (And.intro i1 i2)
    refine T_iload_n (am_dec tX9_upTo_0 5 rfl) rfl ?_
    refine T_iload_n (am_dec tX9_upTo_0 6 rfl) rfl ?_
    refine T_icmp_gt 38 (am_dec tX9_upTo_0 7 rfl) rfl (fun h11 => ?_) (fun h11 => ?_)
    · have e9 : i = B := by omega
      rw [← e9] at k9
      exact k9 r rfl (by first | exact hinv | omega)
    · refine T_iload_n (am_dec tX9_upTo_0 8 rfl) rfl ?_
      refine T_bipush 40 (am_dec tX9_upTo_0 9 rfl) rfl ⟨by decide, by decide⟩ ?_
      refine T_icmp_ge 38 (am_dec tX9_upTo_0 10 rfl) rfl (fun h17 => ?_) (fun h17 => ?_)
      · have e9 : i = B := by omega
        rw [← e9] at k9
        exact k9 r rfl (by first | exact hinv | omega)
      · exfalso; omega
  | succ n ih =>
    intro i r hi9 h0i hinv k9
    obtain ⟨i0, i1, i2⟩ := hinv
    have hinv := And.intro i0 (And.intro i1 i2)
    refine T_iload_n (am_dec tX9_upTo_0 5 rfl) rfl ?_
    refine T_iload_n (am_dec tX9_upTo_0 6 rfl) rfl ?_
    refine T_icmp_gt 38 (am_dec tX9_upTo_0 7 rfl) rfl (fun h11 => ?_) (fun h11 => ?_)
    · exfalso; omega
    · refine T_iload_n (am_dec tX9_upTo_0 8 rfl) rfl ?_
      refine T_bipush 40 (am_dec tX9_upTo_0 9 rfl) rfl ⟨by decide, by decide⟩ ?_
      refine T_icmp_ge 38 (am_dec tX9_upTo_0 10 rfl) rfl (fun h17 => ?_) (fun h17 => ?_)
      · exfalso; omega
      · refine T_aload_n (am_dec tX9_upTo_0 11 rfl) rfl ?_
        refine T_iload_n (am_dec tX9_upTo_0 12 rfl) rfl ?_
        refine T_callV (as := [aI i]) rfl (am_dec tX9_upTo_0 13 rfl) lkX9_90 (show (rnW w b hb r)[b]? = some (cO 8 [aR hb, aI (r 0 1), aI (r 0 2), aI (r 0 3), aI (r 0 4), aI (r 0 5), aR (b + 1), aR (b + 2), aR (b + 3), aR (b + 4), aR (b + 5), aR (b + 6), aR (b + 7), aR (b + 8), aR (b + 9)]) from rnW_Rn hl 0 (by decide)) rfl rfl (Nat.le_of_ble_eq_true rfl) (by omega) (m_goOn hl hx hH hA i (by omega) i1 i2 (by omega)) (fun _ => ?_)
        refine T_aload_n (am_dec tX9_upTo_0 14 rfl) rfl ?_
        refine T_iload_n (am_dec tX9_upTo_0 15 rfl) rfl ?_
        refine T_iconst 1 (am_dec tX9_upTo_0 16 rfl) rfl ⟨by decide, by decide⟩ ?_
        refine T_iadd (i + 1) (am_dec tX9_upTo_0 17 rfl) rfl ⟨by omega, by omega⟩ ?_
        refine T_putfield (fs' := [aR hb, aI (i + 1), aI ((f_goOn h r i) 0 2), aI ((f_goOn h r i) 0 3), aI ((f_goOn h r i) 0 4), aI ((f_goOn h r i) 0 5), aR (b + 1), aR (b + 2), aR (b + 3), aR (b + 4), aR (b + 5), aR (b + 6), aR (b + 7), aR (b + 8), aR (b + 9)]) 8 1 (am_dec tX9_upTo_0 18 rfl) flX9_47_8 rfl rfl rfl trivial (show (rnW w b hb (f_goOn h r i))[b]? = some (cO 8 [aR hb, aI ((f_goOn h r i) 0 1), aI ((f_goOn h r i) 0 2), aI ((f_goOn h r i) 0 3), aI ((f_goOn h r i) 0 4), aI ((f_goOn h r i) 0 5), aR (b + 1), aR (b + 2), aR (b + 3), aR (b + 4), aR (b + 5), aR (b + 6), aR (b + 7), aR (b + 8), aR (b + 9)]) from rnW_Rn hl 0 (by decide)) (Nat.le_of_ble_eq_true rfl) rfl ?_
        refine am_wE (w2 := rnW w b hb (am_put (f_goOn h r i) 0 1 (i + 1))) rnW_f1 ?_
        refine T_iinc (ls' := [some (aR b), some (aI step), some (aI (i + 1))]) (i + 1) (am_dec tX9_upTo_0 19 rfl) rfl rfl ⟨by omega, by omega⟩ (by decide) rfl ?_
        refine T_goto 9 (am_dec tX9_upTo_0 20 rfl) rfl ?_
        have e9 : (g_upTo h) i r = (am_put (f_goOn h r i) 0 1 (i + 1)) := rfl
        simp only [am_fold_s, e9] at k9
        exact ih (i + 1) (am_put (f_goOn h r i) 0 1 (i + 1)) (by omega) (by omega) ⟨by omega, (f_goOn_k hA (by omega) i1 i2).1, (f_goOn_k hA (by omega) i1 i2).2⟩ k9
theorem m_upTo {S : am_S} {d u : Nat} {w : AH} {b hb : Nat} {r h : am_F} (hl : b + 10 ≤ w.length) (hx : hb + 20 ≤ b ∨ b + 10 ≤ hb) (hH : Hb w hb h) (hA : HbAll h) (step : Int) (hS : 0 ≤ r 0 1 ∧ r 0 1 ≤ 40) (hF : RnF r) (hMl : MlB r) (hd : 5 ≤ d) : am_Out S zX9_upTo d u [aR b, aI step] (rnW w b hb r) (.inl none) (rnW w b hb (f_upTo h r step)) := by
  refine am_body rfl (by decide +kernel) rfl (am_cats_cons rfl ( am_cats_cons rfl (am_cats_nil))) (Nat.le_of_ble_eq_true rfl) (?_ : am_T _ _ _ _ _ 0 [some (aR b), some (aI step), none] [] (rnW w b hb r))
  refine T_iconst 0 (am_dec tX9_upTo_0 0 rfl) rfl ⟨by decide, by decide⟩ ?_
  refine T_aload_n (am_dec tX9_upTo_0 1 rfl) rfl ?_
  refine T_getfield 8 1 (am_dec tX9_upTo_0 2 rfl) flX9_47_8 (show (rnW w b hb r)[b]? = some (cO 8 [aR hb, aI (r 0 1), aI (r 0 2), aI (r 0 3), aI (r 0 4), aI (r 0 5), aR (b + 1), aR (b + 2), aR (b + 3), aR (b + 4), aR (b + 5), aR (b + 6), aR (b + 7), aR (b + 8), aR (b + 9)]) from rnW_Rn hl 0 (by decide)) rfl ?_
  refine T_mmax (am_dec tX9_upTo_0 3 rfl) lkX9_84 (Nat.le_of_ble_eq_true rfl) (by omega) ?_
  obtain ⟨m5, hm5⟩ : ∃ x9 : Int, x9 = (if 0 < r 0 1 then r 0 1 else 0) := ⟨_, rfl⟩
  rw [← hm5]
  refine T_istore_n (ls' := [some (aR b), some (aI step), some (aI m5)]) (am_dec tX9_upTo_0 4 rfl) (by decide) rfl ?_
  obtain ⟨B, eB⟩ : ∃ B : Int, B = if m5 < f_to step then f_to step else m5 := ⟨_, rfl⟩
  have eT : f_to step = (if step < 39 then step else 39) + 1 := rfl
  have e5 : f_from r = m5 := hm5.symm
  refine L_upTo hl hx hH hA step B m5 (by omega) (by omega) (by omega) hd (B - m5).toNat m5 r (by omega) (by omega) ⟨by omega, hF, hMl⟩ (fun r9 hr9 hv9 => ?_)
  exact T_return (am_dec tX9_upTo_0 21 rfl) rfl ⟨rfl, by unfold f_upTo; rw [e5, hr9, show (f_to step - m5).toNat = (B - m5).toNat by omega]⟩
