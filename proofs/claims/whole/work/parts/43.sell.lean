/-! Auction sells -/
theorem am_stuck {α : Type} {g : Int → α → α} : ∀ (n : Nat) (i : Int) (x : α), (∀ j, g j x = x) → am_fold g i n x = x := by
  intro n
  induction n with
  | zero => intro i x _; rfl
  | succ n ih => intro i x h; rw [am_fold_s, h i]; exact ih (i + 1) x h
def f_asks (nb : Int) (f : Nat → Int) (lot floor i : Int) : Int := if f_at nb f i 0 = lot ∧ floor ≤ f_at nb f i 2 then 1 else 0
def g_ask (nb : Int) (f : Nat → Int) (lot floor i : Int) (q : am_F) : am_F := am_put (am_put q 2 i.toNat (f_at nb f i 2)) 5 i.toNat (f_asks nb f lot floor i)
theorem L_ask {S : am_S} {d u : Nat} {Q : AO → AH → Prop} {w : AH} {a t : Nat} {most nb : Int} {f : Nat → Int} (hl : a + 6 ≤ w.length) (hx : t + 2 ≤ a ∨ a + 6 ≤ t) (ht : w[t]? = some (cO 9 [aI most, aR (t + 1), aI nb])) (hn : w[t + 1]? = some (cP 0 48 f)) (hm : 0 ≤ nb ∧ nb ≤ 12) (lot there floor : Int) (hd : 1 ≤ d) : ∀ (n : Nat) (i : Int) (q : am_F), i + n = nb → 0 ≤ i → True → (∀ (q' : am_F), q' = am_fold (g_ask nb f lot floor) i n q → True → am_T S zX0_sell d u Q 78 [some (aR a), some (aR t), some (aI lot), some (aI there), some (aI floor), some (aI nb), none, none] [] (auW w a q')) → am_T S zX0_sell d u Q 7 [some (aR a), some (aR t), some (aI lot), some (aI there), some (aI floor), some (aI i), none, none] [] (auW w a q) := by
  intro n
  induction n with
  | zero =>
    intro i q hi9 h0i hinv k9
    refine T_iload (am_dec tX0_sell_0 4 rfl) rfl ?_
    refine T_aload_n (am_dec tX0_sell_0 5 rfl) rfl ?_
    refine T_getfield 9 2 (am_dec tX0_sell_0 6 rfl) flX0_37_9 ((auW_o (by omega)).trans ht) rfl ?_
    refine T_icmp_ge 78 (am_dec tX0_sell_0 7 rfl) rfl (fun h13 => ?_) (fun h13 => by exfalso; omega)
    have e9 : i = nb := by omega
    rw [← e9] at k9
    exact k9 q rfl (by first | exact hinv | omega)
  | succ n ih =>
    intro i q hi9 h0i hinv k9
    refine T_iload (am_dec tX0_sell_0 4 rfl) rfl ?_
    refine T_aload_n (am_dec tX0_sell_0 5 rfl) rfl ?_
    refine T_getfield 9 2 (am_dec tX0_sell_0 6 rfl) flX0_37_9 ((auW_o (by omega)).trans ht) rfl ?_
    refine T_icmp_ge 78 (am_dec tX0_sell_0 7 rfl) rfl (fun h13 => by exfalso; omega) (fun h13 => ?_)
    refine T_iload (am_dec tX0_sell_0 8 rfl) rfl ?_
    refine T_bipush 12 (am_dec tX0_sell_0 9 rfl) rfl ⟨by decide, by decide⟩ ?_
    refine T_icmp_ge 78 (am_dec tX0_sell_0 10 rfl) rfl (fun h20 => by exfalso; omega) (fun h20 => ?_)
    refine T_aload_n (am_dec tX0_sell_0 11 rfl) rfl ?_
    refine T_getfield 0 1 (am_dec tX0_sell_0 12 rfl) flX0_15_0 (show (auW w a q)[a]? = some (cO 0 [aR (a + 1), aR (a + 2), aR (a + 3), aR (a + 4), aR (a + 5), aI (q 0 5)]) from auW_c hl 0 (by decide)) rfl ?_
    refine T_iload (am_dec tX0_sell_0 13 rfl) rfl ?_
    refine T_aload_n (am_dec tX0_sell_0 14 rfl) rfl ?_
    refine T_iload (am_dec tX0_sell_0 15 rfl) rfl ?_
    refine T_iconst 2 (am_dec tX0_sell_0 16 rfl) rfl ⟨by decide, by decide⟩ ?_
    refine T_callV (as := [aI i, aI 2]) rfl (am_dec tX0_sell_0 17 rfl) lkX0_43 ((auW_o (by omega)).trans ht) rfl rfl (Nat.le_of_ble_eq_true rfl) (by omega) (m_at ((auW_o (by omega)).trans ht) ((auW_o (by omega)).trans hn) (by omega) i 2) (fun _ => ?_)
    refine T_iastore (am_dec tX0_sell_0 18 rfl) (show (auW w a q)[a + 2]? = some (cP 0 12 (q 2)) from auW_c hl 2 (by decide)) (by omega) (by omega) ?_
    refine am_wE (w2 := auW w a (am_put q 2 i.toNat (f_at nb f i 2))) auW_p2 ?_
    refine T_aload_n (am_dec tX0_sell_0 19 rfl) rfl ?_
    refine T_getfield 0 4 (am_dec tX0_sell_0 20 rfl) flX0_24_0 (show (auW w a (am_put q 2 i.toNat (f_at nb f i 2)))[a]? = some (cO 0 [aR (a + 1), aR (a + 2), aR (a + 3), aR (a + 4), aR (a + 5), aI (q 0 5)]) from auW_c hl 0 (by decide)) rfl ?_
    refine T_iload (am_dec tX0_sell_0 21 rfl) rfl ?_
    refine T_aload_n (am_dec tX0_sell_0 22 rfl) rfl ?_
    refine T_iload (am_dec tX0_sell_0 23 rfl) rfl ?_
    refine T_iconst 0 (am_dec tX0_sell_0 24 rfl) rfl ⟨by decide, by decide⟩ ?_
    refine T_callV (as := [aI i, aI 0]) rfl (am_dec tX0_sell_0 25 rfl) lkX0_43 ((auW_o (by omega)).trans ht) rfl rfl (Nat.le_of_ble_eq_true rfl) (by omega) (m_at ((auW_o (by omega)).trans ht) ((auW_o (by omega)).trans hn) (by omega) i 0) (fun _ => ?_)
    refine T_iload_n (am_dec tX0_sell_0 26 rfl) rfl ?_
    refine T_icmp_ne 70 (am_dec tX0_sell_0 27 rfl) rfl (fun h51 => ?_) (fun h51 => ?_)
    · refine T_iconst 0 (am_dec tX0_sell_0 36 rfl) rfl ⟨by decide, by decide⟩ ?_
      refine T_bastore (am_dec tX0_sell_0 37 rfl) (show (auW w a (am_put q 2 i.toNat (f_at nb f i 2)))[a + 5]? = some (cP 1 12 (q 5)) from auW_c hl 5 (by decide)) (by omega) (by omega) (Or.inl rfl) ?_
      refine am_wE (w2 := auW w a (am_put (am_put q 2 i.toNat (f_at nb f i 2)) 5 i.toNat 0)) auW_p5 ?_
      refine T_iinc (ls' := [some (aR a), some (aR t), some (aI lot), some (aI there), some (aI floor), some (aI (i + 1)), none, none]) (i + 1) (am_dec tX0_sell_0 38 rfl) rfl rfl ⟨by omega, by omega⟩ (by decide) rfl ?_
      refine T_goto 7 (am_dec tX0_sell_0 39 rfl) rfl ?_
      have e9 : (g_ask nb f lot floor) i q = (am_put (am_put q 2 i.toNat (f_at nb f i 2)) 5 i.toNat 0) := (by unfold g_ask f_asks; first | (rw [if_pos (by omega)]; done) | (rw [if_neg (by omega)]; done))
      simp only [am_fold_s, e9] at k9
      exact ih (i + 1) (am_put (am_put q 2 i.toNat (f_at nb f i 2)) 5 i.toNat 0) (by omega) (by omega) trivial k9
    · refine T_aload_n (am_dec tX0_sell_0 28 rfl) rfl ?_
      refine T_getfield 0 1 (am_dec tX0_sell_0 29 rfl) flX0_15_0 (show (auW w a (am_put q 2 i.toNat (f_at nb f i 2)))[a]? = some (cO 0 [aR (a + 1), aR (a + 2), aR (a + 3), aR (a + 4), aR (a + 5), aI (q 0 5)]) from auW_c hl 0 (by decide)) rfl ?_
      refine T_iload (am_dec tX0_sell_0 30 rfl) rfl ?_
      refine T_iaload (am_dec tX0_sell_0 31 rfl) (show (auW w a (am_put q 2 i.toNat (f_at nb f i 2)))[a + 2]? = some (cP 0 12 (am_up (q 2) i.toNat (f_at nb f i 2))) from auW_c hl 2 (by decide)) (by omega) (by omega) ?_
      have e61 : am_up (q 2) i.toNat (f_at nb f i 2) i.toNat = f_at nb f i 2 := am_up_s
      refine T_iload (am_dec tX0_sell_0 32 rfl) rfl ?_
      refine T_icmp_lt 70 (am_dec tX0_sell_0 33 rfl) rfl (fun h63 => ?_) (fun h63 => ?_)
      · refine T_iconst 0 (am_dec tX0_sell_0 36 rfl) rfl ⟨by decide, by decide⟩ ?_
        refine T_bastore (am_dec tX0_sell_0 37 rfl) (show (auW w a (am_put q 2 i.toNat (f_at nb f i 2)))[a + 5]? = some (cP 1 12 (q 5)) from auW_c hl 5 (by decide)) (by omega) (by omega) (Or.inl rfl) ?_
        refine am_wE (w2 := auW w a (am_put (am_put q 2 i.toNat (f_at nb f i 2)) 5 i.toNat 0)) auW_p5 ?_
        refine T_iinc (ls' := [some (aR a), some (aR t), some (aI lot), some (aI there), some (aI floor), some (aI (i + 1)), none, none]) (i + 1) (am_dec tX0_sell_0 38 rfl) rfl rfl ⟨by omega, by omega⟩ (by decide) rfl ?_
        refine T_goto 7 (am_dec tX0_sell_0 39 rfl) rfl ?_
        have e9 : (g_ask nb f lot floor) i q = (am_put (am_put q 2 i.toNat (f_at nb f i 2)) 5 i.toNat 0) := (by unfold g_ask f_asks; first | (rw [if_pos (by omega)]; done) | (rw [if_neg (by omega)]; done))
        simp only [am_fold_s, e9] at k9
        exact ih (i + 1) (am_put (am_put q 2 i.toNat (f_at nb f i 2)) 5 i.toNat 0) (by omega) (by omega) trivial k9
      · refine T_iconst 1 (am_dec tX0_sell_0 34 rfl) rfl ⟨by decide, by decide⟩ ?_
        refine T_goto 71 (am_dec tX0_sell_0 35 rfl) rfl ?_
        refine T_bastore (am_dec tX0_sell_0 37 rfl) (show (auW w a (am_put q 2 i.toNat (f_at nb f i 2)))[a + 5]? = some (cP 1 12 (q 5)) from auW_c hl 5 (by decide)) (by omega) (by omega) (Or.inr rfl) ?_
        refine am_wE (w2 := auW w a (am_put (am_put q 2 i.toNat (f_at nb f i 2)) 5 i.toNat 1)) auW_p5 ?_
        refine T_iinc (ls' := [some (aR a), some (aR t), some (aI lot), some (aI there), some (aI floor), some (aI (i + 1)), none, none]) (i + 1) (am_dec tX0_sell_0 38 rfl) rfl rfl ⟨by omega, by omega⟩ (by decide) rfl ?_
        refine T_goto 7 (am_dec tX0_sell_0 39 rfl) rfl ?_
        have e9 : (g_ask nb f lot floor) i q = (am_put (am_put q 2 i.toNat (f_at nb f i 2)) 5 i.toNat 1) := (by unfold g_ask f_asks; first | (rw [if_pos (by omega)]; done) | (rw [if_neg (by omega)]; done))
        simp only [am_fold_s, e9] at k9
        exact ih (i + 1) (am_put (am_put q 2 i.toNat (f_at nb f i 2)) 5 i.toNat 1) (by omega) (by omega) trivial k9
