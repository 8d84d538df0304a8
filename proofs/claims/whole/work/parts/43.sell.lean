/-! Auction sells -/
theorem am_stuck {α : Type} {g : Int → α → α} : ∀ (n : Nat) (i : Int) (x : α), (∀ j, g j x = x) → am_fold g i n x = x := by
  intro n
  induction n with
  | zero => intro i x _; rfl
  | succ n ih => intro i x h; rw [am_fold_s, h i]; exact ih (i + 1) x h
def f_asks (nb : Int) (f : Nat → Int) (lot floor i : Int) : Int := if f_at nb f i 0 = lot ∧ floor ≤ f_at nb f i 2 then 1 else 0
def g_ask (nb : Int) (f : Nat → Int) (lot floor i : Int) (q : am_F) : am_F := am_put (am_put q 2 i.toNat (f_at nb f i 2)) 5 i.toNat (f_asks nb f lot floor i)
theorem L_ask {S : am_S} {d u : Nat} {Q : AO → AH → Prop} {w : AH} {a t : Nat} {most nb : Int} {f : Nat → Int} (hl : a + 6 ≤ w.length) (hx : t + 2 ≤ a ∨ a + 6 ≤ t) (ht : w[t]? = some (cO 9 [aI most, aR (t + 1), aI nb])) (hn : w[t + 1]? = some (cP 0 48 f)) (hm : 0 ≤ nb ∧ nb ≤ 12) (lot there floor : Int) (hd : 1 ≤ d) : ∀ (n : Nat) (i : Int) (q : am_F), i + n = nb → 0 ≤ i → True → (∀ (q' : am_F), q' = am_fold (g_ask nb f lot floor) i n q → True → am_T S zX0_sell d u Q 78 [some (aR a), some (aR t), some (aI lot), some (aI there), some (aI floor), some (aI nb), none, none] [] (auW w a q')) → am_T S zX0_sell d u Q 7 [some (aR a), some (aR t), some (aI lot), some (aI there), some (aI floor), some (aI i), none, none] [] (auW w a q) := by
  intro n
  induction n with
  | zero =>
    intro i q hi9 h0i hinv k9
    refine T_iload (am_dec tX0_sell_0 4 rfl) rfl ?_
    refine T_aload_n (am_dec tX0_sell_0 5 rfl) rfl ?_
    refine T_getfield 9 2 (am_dec tX0_sell_0 6 rfl) flX0_37_9 ((auW_o (by omega)).trans ht) rfl ?_
    refine T_icmp_ge 78 (am_dec tX0_sell_0 7 rfl) rfl (fun h13 => ?_) (fun h13 => by exfalso; omega)
    have e9 : i = nb := by omega
    rw [← e9] at k9
    exact k9 q rfl (by first | exact hinv | omega)
  | succ n ih =>
    intro i q hi9 h0i hinv k9
    refine T_iload (am_dec tX0_sell_0 4 rfl) rfl ?_
    refine T_aload_n (am_dec tX0_sell_0 5 rfl) rfl ?_
    refine T_getfield 9 2 (am_dec tX0_sell_0 6 rfl) flX0_37_9 ((auW_o (by omega)).trans ht) rfl ?_
    refine T_icmp_ge 78 (am_dec tX0_sell_0 7 rfl) rfl (fun h13 => by exfalso; omega) (fun h13 => ?_)
    refine T_iload (am_dec tX0_sell_0 8 rfl) rfl ?_
    refine T_bipush 12 (am_dec tX0_sell_0 9 rfl) rfl ⟨by decide, by decide⟩ ?_
    refine T_icmp_ge 78 (am_dec tX0_sell_0 10 rfl) rfl (fun h20 => by exfalso; omega) (fun h20 => ?_)
    refine T_aload_n (am_dec tX0_sell_0 11 rfl) rfl ?_
    refine T_getfield 0 1 (am_dec tX0_sell_0 12 rfl) flX0_15_0 (show (auW w a q)[a]? = some (cO 0 [aR (a + 1), aR (a + 2), aR (a + 3), aR (a + 4), aR (a + 5), aI (q 0 5)]) from auW_c hl 0 (by decide)) rfl ?_
    refine T_iload (am_dec tX0_sell_0 13 rfl) rfl ?_
    refine T_aload_n (am_dec tX0_sell_0 14 rfl) rfl ?_
    refine T_iload (am_dec tX0_sell_0 15 rfl) rfl ?_
    refine T_iconst 2 (am_dec tX0_sell_0 16 rfl) rfl ⟨by decide, by decide⟩ ?_
    refine T_callV (as := [aI i, aI 2]) rfl (am_dec tX0_sell_0 17 rfl) lkX0_43 ((auW_o (by omega)).trans ht) rfl rfl (Nat.le_of_ble_eq_true rfl) (by omega) (m_at ((auW_o (by omega)).trans ht) ((auW_o (by omega)).trans hn) (by omega) i 2) (fun _ => ?_)
    refine T_iastore (am_dec tX0_sell_0 18 rfl) (show (auW w a q)[a + 2]? = some (cP 0 12 (q 2)) from auW_c hl 2 (by decide)) (by omega) (by omega) ?_
    refine am_wE (w2 := auW w a (am_put q 2 i.toNat (f_at nb f i 2))) auW_p2 ?_
    refine T_aload_n (am_dec tX0_sell_0 19 rfl) rfl ?_
    refine T_getfield 0 4 (am_dec tX0_sell_0 20 rfl) flX0_24_0 (show (auW w a (am_put q 2 i.toNat (f_at nb f i 2)))[a]? = some (cO 0 [aR (a + 1), aR (a + 2), aR (a + 3), aR (a + 4), aR (a + 5), aI (q 0 5)]) from auW_c hl 0 (by decide)) rfl ?_
    refine T_iload (am_dec tX0_sell_0 21 rfl) rfl ?_
    refine T_aload_n (am_dec tX0_sell_0 22 rfl) rfl ?_
    refine T_iload (am_dec tX0_sell_0 23 rfl) rfl ?_
    refine T_iconst 0 (am_dec tX0_sell_0 24 rfl) rfl ⟨by decide, by decide⟩ ?_
    refine T_callV (as := [aI i, aI 0]) rfl (am_dec tX0_sell_0 25 rfl) lkX0_43 ((auW_o (by omega)).trans ht) rfl rfl (Nat.le_of_ble_eq_true rfl) (by omega) (m_at ((auW_o (by omega)).trans ht) ((auW_o (by omega)).trans hn) (by omega) i 0) (fun _ => ?_)
    refine T_iload_n (am_dec tX0_sell_0 26 rfl) rfl ?_
    refine T_icmp_ne 70 (am_dec tX0_sell_0 27 rfl) rfl (fun h51 => ?_) (fun h51 => ?_)
    · refine T_iconst 0 (am_dec tX0_sell_0 36 rfl) rfl ⟨by decide, by decide⟩ ?_
      refine T_bastore (am_dec tX0_sell_0 37 rfl) (show (auW w a (am_put q 2 i.toNat (f_at nb f i 2)))[a + 5]? = some (cP 1 12 (q 5)) from auW_c hl 5 (by decide)) (by omega) (by omega) (Or.inl rfl) ?_
      refine am_wE (w2 := auW w a (am_put (am_put q 2 i.toNat (f_at nb f i 2)) 5 i.toNat 0)) auW_p5 ?_
      refine T_iinc (ls' := [some (aR a), some (aR t), some (aI lot), some (aI there), some (aI floor), some (aI (i + 1)), none, none]) (i + 1) (am_dec tX0_sell_0 38 rfl) rfl rfl ⟨by omega, by omega⟩ (by decide) rfl ?_
      refine T_goto 7 (am_dec tX0_sell_0 39 rfl) rfl ?_
      have e9 : (g_ask nb f lot floor) i q = (am_put (am_put q 2 i.toNat (f_at nb f i 2)) 5 i.toNat 0) := (by unfold g_ask f_asks; first | (rw [if_pos (by omega)]; done) | (rw [if_neg (by omega)]; done))
      simp only [am_fold_s, e9] at k9
      exact ih (i + 1) (am_put (am_put q 2 i.toNat (f_at nb f i 2)) 5 i.toNat 0) (by omega) (by omega) trivial k9
    · refine T_aload_n (am_dec tX0_sell_0 28 rfl) rfl ?_
      refine T_getfield 0 1 (am_dec tX0_sell_0 29 rfl) flX0_15_0 (show (auW w a (am_put q 2 i.toNat (f_at nb f i 2)))[a]? = some (cO 0 [aR (a + 1), aR (a + 2), aR (a + 3), aR (a + 4), aR (a + 5), aI (q 0 5)]) from auW_c hl 0 (by decide)) rfl ?_
      refine T_iload (am_dec tX0_sell_0 30 rfl) rfl ?_
      refine T_iaload (am_dec tX0_sell_0 31 rfl) (show (auW w a (am_put q 2 i.toNat (f_at nb f i 2)))[a + 2]? = some (cP 0 12 (am_up (q 2) i.toNat (f_at nb f i 2))) from auW_c hl 2 (by decide)) (by omega) (by omega) ?_
      have e61 : am_up (q 2) i.toNat (f_at nb f i 2) i.toNat = f_at nb f i 2 := am_up_s
      refine T_iload (am_dec tX0_sell_0 32 rfl) rfl ?_
      refine T_icmp_lt 70 (am_dec tX0_sell_0 33 rfl) rfl (fun h63 => ?_) (fun h63 => ?_)
      · refine T_iconst 0 (am_dec tX0_sell_0 36 rfl) rfl ⟨by decide, by decide⟩ ?_
        refine T_bastore (am_dec tX0_sell_0 37 rfl) (show (auW w a (am_put q 2 i.toNat (f_at nb f i 2)))[a + 5]? = some (cP 1 12 (q 5)) from auW_c hl 5 (by decide)) (by omega) (by omega) (Or.inl rfl) ?_
        refine am_wE (w2 := auW w a (am_put (am_put q 2 i.toNat (f_at nb f i 2)) 5 i.toNat 0)) auW_p5 ?_
        refine T_iinc (ls' := [some (aR a), some (aR t), some (aI lot), some (aI there), some (aI floor), some (aI (i + 1)), none, none]) (i + 1) (am_dec tX0_sell_0 38 rfl) rfl rfl ⟨by omega, by omega⟩ (by decide) rfl ?_
        refine T_goto 7 (am_dec tX0_sell_0 39 rfl) rfl ?_
        have e9 : (g_ask nb f lot floor) i q = (am_put (am_put q 2 i.toNat (f_at nb f i 2)) 5 i.toNat 0) := (by unfold g_ask f_asks; first | (rw [if_pos (by omega)]; done) | (rw [if_neg (by omega)]; done))
        simp only [am_fold_s, e9] at k9
        exact ih (i + 1) (am_put (am_put q 2 i.toNat (f_at nb f i 2)) 5 i.toNat 0) (by omega) (by omega) trivial k9
      · refine T_iconst 1 (am_dec tX0_sell_0 34 rfl) rfl ⟨by decide, by decide⟩ ?_
        refine T_goto 71 (am_dec tX0_sell_0 35 rfl) rfl ?_
        refine T_bastore (am_dec tX0_sell_0 37 rfl) (show (auW w a (am_put q 2 i.toNat (f_at nb f i 2)))[a + 5]? = some (cP 1 12 (q 5)) from auW_c hl 5 (by decide)) (by omega) (by omega) (Or.inr rfl) ?_
        refine am_wE (w2 := auW w a (am_put (am_put q 2 i.toNat (f_at nb f i 2)) 5 i.toNat 1)) auW_p5 ?_
        refine T_iinc (ls' := [some (aR a), some (aR t), some (aI lot), some (aI there), some (aI floor), some (aI (i + 1)), none, none]) (i + 1) (am_dec tX0_sell_0 38 rfl) rfl rfl ⟨by omega, by omega⟩ (by decide) rfl ?_
        refine T_goto 7 (am_dec tX0_sell_0 39 rfl) rfl ?_
        have e9 : (g_ask nb f lot floor) i q = (am_put (am_put q 2 i.toNat (f_at nb f i 2)) 5 i.toNat 1) := (by unfold g_ask f_asks; first | (rw [if_pos (by omega)]; done) | (rw [if_neg (by omega)]; done))
        simp only [am_fold_s, e9] at k9
        exact ih (i + 1) (am_put (am_put q 2 i.toNat (f_at nb f i 2)) 5 i.toNat 1) (by omega) (by omega) trivial k9
theorem f_nextUp_b (q : am_F) : -1 ≤ f_nextUp q ∧ f_nextUp q < 12 := by
  have h := am_fold_inv (P := fun (i a : Int) => -1 ≤ a ∧ a < 12) (g := g_nextUp q) 12 0 (-1) (by omega) (fun i a x y hp => by
    unfold g_nextUp
    split <;> omega)
  exact h
def f_gets (nb : Int) (f : Nat → Int) (x : Int × am_F) : Int := if f_at nb f (f_nextUp x.2) 1 < x.1 then f_at nb f (f_nextUp x.2) 1 else x.1
def g_sell (nb : Int) (f : Nat → Int) (j : Int) (x : Int × am_F) : Int × am_F := if x.1 ≤ 0 ∨ f_nextUp x.2 = -1 then x else
  (x.1 - f_gets nb f x, am_put (am_put (am_put x.2 5 (f_nextUp x.2).toNat 0) 3 (f_nextUp x.2).toNat (f_gets nb f x)) 0 5 (x.2 2 (f_nextUp x.2).toNat))
def f_sell (nb : Int) (f : Nat → Int) (lot there floor : Int) (q : am_F) : am_F := (am_fold (g_sell nb f) 0 12 (there, am_put (am_fold (g_ask nb f lot floor) 0 nb.toNat (f_away q)) 0 5 0)).2
theorem L_sell {S : am_S} {d u : Nat} {Q : AO → AH → Prop} {w : AH} {a t : Nat} {most nb : Int} {f : Nat → Int} (hl : a + 6 ≤ w.length) (hx : t + 2 ≤ a ∨ a + 6 ≤ t) (ht : w[t]? = some (cO 9 [aI most, aR (t + 1), aI nb])) (hn : w[t + 1]? = some (cP 0 48 f)) (hm : 0 ≤ nb ∧ nb ≤ 12) (lot there floor : Int) (hB : ∀ k : Int, 0 ≤ f_at nb f k 1 ∧ f_at nb f k 1 ≤ 1000000) (hd : 1 ≤ d) : ∀ (n : Nat) (i left : Int) (q : am_F), i + n = 12 → 0 ≤ i → (-1000000000 ≤ left ∧ left ≤ 1000000000) → Q (.inl none) (auW w a (am_fold (g_sell nb f) i n (left, q)).2) → am_T S zX0_sell d u Q 89 [some (aR a), some (aR t), some (aI lot), some (aI there), some (aI floor), some (aI left), some (aI i), none] [] (auW w a q) := by
  intro n
  induction n with
  | zero =>
    intro i left q hi9 h0i hinv k9
    refine T_iload (am_dec tX0_sell_1 7 rfl) rfl ?_
    refine T_bipush 12 (am_dec tX0_sell_1 8 rfl) rfl ⟨by decide, by decide⟩ ?_
    refine T_icmp_ge 170 (am_dec tX0_sell_1 9 rfl) rfl (fun h93 => ?_) (fun h93 => by exfalso; omega)
    exact T_return (am_dec tX0_sell_2 9 rfl) rfl k9
  | succ n ih =>
    intro i left q hi9 h0i hinv k9
    refine T_iload (am_dec tX0_sell_1 7 rfl) rfl ?_
    refine T_bipush 12 (am_dec tX0_sell_1 8 rfl) rfl ⟨by decide, by decide⟩ ?_
    refine T_icmp_ge 170 (am_dec tX0_sell_1 9 rfl) rfl (fun h93 => by exfalso; omega) (fun h93 => ?_)
    refine T_iload (am_dec tX0_sell_1 10 rfl) rfl ?_
    refine T_if_le 170 (am_dec tX0_sell_1 11 rfl) rfl (fun h98 => ?_) (fun h98 => ?_)
    · exact T_return (am_dec tX0_sell_2 9 rfl) rfl (by have e := am_stuck (g := g_sell nb f) (n + 1) i (left, q) (fun j => by unfold g_sell; rw [if_pos (show left ≤ 0 ∨ f_nextUp q = -1 by omega)]); rw [e] at k9; exact k9)
    · refine T_aload_n (am_dec tX0_sell_1 12 rfl) rfl ?_
      have ub := f_nextUp_b q
      refine T_callV (as := []) rfl (am_dec tX0_sell_1 13 rfl) lkX0_50 (show (auW w a q)[a]? = some (cO 0 [aR (a + 1), aR (a + 2), aR (a + 3), aR (a + 4), aR (a + 5), aI (q 0 5)]) from auW_c hl 0 (by decide)) rfl rfl (Nat.le_of_ble_eq_true rfl) (by omega) (m_nextUp hl) (fun _ => ?_)
      obtain ⟨up102, hup102⟩ : ∃ x9 : Int, x9 = f_nextUp q := ⟨_, rfl⟩
      rw [← hup102]
      refine T_istore (ls' := [some (aR a), some (aR t), some (aI lot), some (aI there), some (aI floor), some (aI left), some (aI i), some (aI up102)]) (am_dec tX0_sell_1 14 rfl) (by decide) rfl ?_
      refine T_iload (am_dec tX0_sell_1 15 rfl) rfl ?_
      refine T_iconst (-1) (am_dec tX0_sell_1 16 rfl) rfl ⟨by decide, by decide⟩ ?_
      refine T_icmp_ne 114 (am_dec tX0_sell_1 17 rfl) rfl (fun h110 => ?_) (fun h110 => ?_)
      · refine T_aload_n (am_dec tX0_sell_1 19 rfl) rfl ?_
        refine T_getfield 0 4 (am_dec tX0_sell_1 20 rfl) flX0_24_0 (show (auW w a q)[a]? = some (cO 0 [aR (a + 1), aR (a + 2), aR (a + 3), aR (a + 4), aR (a + 5), aI (q 0 5)]) from auW_c hl 0 (by decide)) rfl ?_
        refine T_iload (am_dec tX0_sell_1 21 rfl) rfl ?_
        refine T_iconst 0 (am_dec tX0_sell_1 22 rfl) rfl ⟨by decide, by decide⟩ ?_
        refine T_bastore (am_dec tX0_sell_1 23 rfl) (show (auW w a q)[a + 5]? = some (cP 1 12 (q 5)) from auW_c hl 5 (by decide)) (by omega) (by omega) (Or.inl rfl) ?_
        refine am_wE (w2 := auW w a (am_put q 5 up102.toNat 0)) auW_p5 ?_
        refine T_aload_n (am_dec tX0_sell_1 24 rfl) rfl ?_
        refine T_getfield 0 2 (am_dec tX0_sell_1 25 rfl) flX0_18_0 (show (auW w a (am_put q 5 up102.toNat 0))[a]? = some (cO 0 [aR (a + 1), aR (a + 2), aR (a + 3), aR (a + 4), aR (a + 5), aI (q 0 5)]) from auW_c hl 0 (by decide)) rfl ?_
        refine T_iload (am_dec tX0_sell_1 26 rfl) rfl ?_
        refine T_iload (am_dec tX0_sell_1 27 rfl) rfl ?_
        refine T_aload_n (am_dec tX0_sell_1 28 rfl) rfl ?_
        refine T_iload (am_dec tX0_sell_1 29 rfl) rfl ?_
        refine T_iconst 1 (am_dec tX0_sell_1 30 rfl) rfl ⟨by decide, by decide⟩ ?_
        have ba := hB up102
        refine T_callV (as := [aI up102, aI 1]) rfl (am_dec tX0_sell_1 31 rfl) lkX0_43 ((auW_o (by omega)).trans ht) rfl rfl (Nat.le_of_ble_eq_true rfl) (by omega) (m_at ((auW_o (by omega)).trans ht) ((auW_o (by omega)).trans hn) (by omega) up102 1) (fun _ => ?_)
        refine T_mmin (am_dec tX0_sell_1 32 rfl) lkX0_54 (Nat.le_of_ble_eq_true rfl) (by omega) ?_
        obtain ⟨m137, hm137⟩ : ∃ x9 : Int, x9 = (if f_at nb f up102 1 < left then f_at nb f up102 1 else left) := ⟨_, rfl⟩
        rw [← hm137]
        refine T_iastore (am_dec tX0_sell_1 33 rfl) (show (auW w a (am_put q 5 up102.toNat 0))[a + 3]? = some (cP 0 12 (q 3)) from auW_c hl 3 (by decide)) (by omega) (by omega) ?_
        refine am_wE (w2 := auW w a (am_put (am_put q 5 up102.toNat 0) 3 up102.toNat m137)) auW_p3 ?_
        refine T_iload (am_dec tX0_sell_1 34 rfl) rfl ?_
        refine T_aload_n (am_dec tX0_sell_1 35 rfl) rfl ?_
        refine T_getfield 0 2 (am_dec tX0_sell_1 36 rfl) flX0_18_0 (show (auW w a (am_put (am_put q 5 up102.toNat 0) 3 up102.toNat m137))[a]? = some (cO 0 [aR (a + 1), aR (a + 2), aR (a + 3), aR (a + 4), aR (a + 5), aI (q 0 5)]) from auW_c hl 0 (by decide)) rfl ?_
        refine T_iload (am_dec tX0_sell_1 37 rfl) rfl ?_
        refine T_iaload (am_dec tX0_sell_1 38 rfl) (show (auW w a (am_put (am_put q 5 up102.toNat 0) 3 up102.toNat m137))[a + 3]? = some (cP 0 12 (am_up (q 3) up102.toNat m137)) from auW_c hl 3 (by decide)) (by omega) (by omega) ?_
        refine T_isub (left - ((am_up (q 3) up102.toNat m137) up102.toNat)) (am_dec tX0_sell_1 39 rfl) rfl (by rw [am_up_s]; exact ⟨by omega, by omega⟩) ?_
        refine T_istore (ls' := [some (aR a), some (aR t), some (aI lot), some (aI there), some (aI floor), some (aI (left - ((am_up (q 3) up102.toNat m137) up102.toNat))), some (aI i), some (aI up102)]) (am_dec tX0_sell_2 0 rfl) (by decide) rfl ?_
        refine T_aload_n (am_dec tX0_sell_2 1 rfl) rfl ?_
        refine T_aload_n (am_dec tX0_sell_2 2 rfl) rfl ?_
        refine T_getfield 0 1 (am_dec tX0_sell_2 3 rfl) flX0_15_0 (show (auW w a (am_put (am_put q 5 up102.toNat 0) 3 up102.toNat m137))[a]? = some (cO 0 [aR (a + 1), aR (a + 2), aR (a + 3), aR (a + 4), aR (a + 5), aI (q 0 5)]) from auW_c hl 0 (by decide)) rfl ?_
        refine T_iload (am_dec tX0_sell_2 4 rfl) rfl ?_
        refine T_iaload (am_dec tX0_sell_2 5 rfl) (show (auW w a (am_put (am_put q 5 up102.toNat 0) 3 up102.toNat m137))[a + 2]? = some (cP 0 12 (q 2)) from auW_c hl 2 (by decide)) (by omega) (by omega) ?_
        refine T_putfield (fs' := [aR (a + 1), aR (a + 2), aR (a + 3), aR (a + 4), aR (a + 5), aI ((q 2) up102.toNat)]) 0 5 (am_dec tX0_sell_2 6 rfl) flX0_47_0 rfl rfl rfl trivial (show (auW w a (am_put (am_put q 5 up102.toNat 0) 3 up102.toNat m137))[a]? = some (cO 0 [aR (a + 1), aR (a + 2), aR (a + 3), aR (a + 4), aR (a + 5), aI (q 0 5)]) from auW_c hl 0 (by decide)) (Nat.le_of_ble_eq_true rfl) rfl ?_
        refine am_wE (w2 := auW w a (am_put (am_put (am_put q 5 up102.toNat 0) 3 up102.toNat m137) 0 5 ((q 2) up102.toNat))) auW_f5 ?_
        refine T_iinc (ls' := [some (aR a), some (aR t), some (aI lot), some (aI there), some (aI floor), some (aI (left - ((am_up (q 3) up102.toNat m137) up102.toNat))), some (aI (i + 1)), some (aI up102)]) (i + 1) (am_dec tX0_sell_2 7 rfl) rfl rfl ⟨by omega, by omega⟩ (by decide) rfl ?_
        refine T_goto 89 (am_dec tX0_sell_2 8 rfl) rfl ?_
        refine T_weak (ls' := [some (aR a), some (aR t), some (aI lot), some (aI there), some (aI floor), some (aI (left - ((am_up (q 3) up102.toNat m137) up102.toNat))), some (aI (i + 1)), none]) (am_sub_s (am_sub_s (am_sub_s (am_sub_s (am_sub_s (am_sub_s (am_sub_s (am_sub_n am_sub_nil)))))))) ?_
        have e9 : g_sell nb f i (left, q) = (left - m137, (am_put (am_put (am_put q 5 up102.toNat 0) 3 up102.toNat m137) 0 5 ((q 2) up102.toNat))) := by unfold g_sell f_gets; rw [if_neg (show ¬ (left ≤ 0 ∨ f_nextUp q = -1) by omega)]; dsimp only; rw [← hup102, ← hm137]
        rw [am_fold_s, e9] at k9
        rw [am_up_s]
        exact ih (i + 1) (left - m137) (am_put (am_put (am_put q 5 up102.toNat 0) 3 up102.toNat m137) 0 5 ((q 2) up102.toNat)) (by omega) (by omega) (by omega) k9
      · exact T_return (am_dec tX0_sell_1 18 rfl) rfl (by have e := am_stuck (g := g_sell nb f) (n + 1) i (left, q) (fun j => by unfold g_sell; rw [if_pos (show left ≤ 0 ∨ f_nextUp q = -1 by omega)]); rw [e] at k9; exact k9)
theorem m_sell {S : am_S} {d u : Nat} {w : AH} {a t : Nat} {q : am_F} {most nb : Int} {f : Nat → Int} (hl : a + 6 ≤ w.length) (hx : t + 2 ≤ a ∨ a + 6 ≤ t) (ht : w[t]? = some (cO 9 [aI most, aR (t + 1), aI nb])) (hn : w[t + 1]? = some (cP 0 48 f)) (hm : 0 ≤ nb ∧ nb ≤ 12) (lot there floor : Int) (hB : ∀ k : Int, 0 ≤ f_at nb f k 1 ∧ f_at nb f k 1 ≤ 1000000) (hd : 2 ≤ d) (hth : 0 ≤ there ∧ there ≤ 1000000) : am_Out S zX0_sell d u [aR a, aR t, aI lot, aI there, aI floor] (auW w a q) (.inl none) (auW w a (f_sell nb f lot there floor q)) := by
  refine am_body rfl (by decide +kernel) rfl (am_cats_cons rfl ( am_cats_cons rfl ( am_cats_cons rfl ( am_cats_cons rfl ( am_cats_cons rfl (am_cats_nil)))))) (Nat.le_of_ble_eq_true rfl) (?_ : am_T _ _ _ _ _ 0 [some (aR a), some (aR t), some (aI lot), some (aI there), some (aI floor), none, none, none] [] (auW w a q))
  refine T_aload_n (am_dec tX0_sell_0 0 rfl) rfl ?_
  refine T_callV (as := []) rfl (am_dec tX0_sell_0 1 rfl) lkX0_34 (show (auW w a q)[a]? = some (cO 0 [aR (a + 1), aR (a + 2), aR (a + 3), aR (a + 4), aR (a + 5), aI (q 0 5)]) from auW_c hl 0 (by decide)) rfl rfl (Nat.le_of_ble_eq_true rfl) (by omega) (m_away hl (by omega)) (fun _ => ?_)
  refine T_iconst 0 (am_dec tX0_sell_0 2 rfl) rfl ⟨by decide, by decide⟩ ?_
  refine T_istore (ls' := [some (aR a), some (aR t), some (aI lot), some (aI there), some (aI floor), some (aI 0), none, none]) (am_dec tX0_sell_0 3 rfl) (by decide) rfl ?_
  refine L_ask hl hx ht hn hm lot there floor (by omega) (nb - 0).toNat 0 (f_away q) (by omega) (by omega) trivial (fun r7 hr7 hv7 => ?_)
  refine T_iload_n (am_dec tX0_sell_1 0 rfl) rfl ?_
  refine T_istore (ls' := [some (aR a), some (aR t), some (aI lot), some (aI there), some (aI floor), some (aI there), none, none]) (am_dec tX0_sell_1 1 rfl) (by decide) rfl ?_
  refine T_aload_n (am_dec tX0_sell_1 2 rfl) rfl ?_
  refine T_iconst 0 (am_dec tX0_sell_1 3 rfl) rfl ⟨by decide, by decide⟩ ?_
  refine T_putfield (fs' := [aR (a + 1), aR (a + 2), aR (a + 3), aR (a + 4), aR (a + 5), aI 0]) 0 5 (am_dec tX0_sell_1 4 rfl) flX0_47_0 rfl rfl rfl trivial (show (auW w a r7)[a]? = some (cO 0 [aR (a + 1), aR (a + 2), aR (a + 3), aR (a + 4), aR (a + 5), aI (r7 0 5)]) from auW_c hl 0 (by decide)) (Nat.le_of_ble_eq_true rfl) rfl ?_
  refine am_wE (w2 := auW w a (am_put r7 0 5 0)) auW_f5 ?_
  refine T_iconst 0 (am_dec tX0_sell_1 5 rfl) rfl ⟨by decide, by decide⟩ ?_
  refine T_istore (ls' := [some (aR a), some (aR t), some (aI lot), some (aI there), some (aI floor), some (aI there), some (aI 0), none]) (am_dec tX0_sell_1 6 rfl) (by decide) rfl ?_
  exact L_sell hl hx ht hn hm lot there floor hB (by omega) 12 0 there (am_put r7 0 5 0) (by omega) (by omega) (by omega) ⟨rfl, by rw [hr7, Int.sub_zero]; rfl⟩
