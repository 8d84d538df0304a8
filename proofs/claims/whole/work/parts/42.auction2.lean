/-! Auction: takings, the count of BIDS -/
def g_count (nb : Int) (f : Nat → Int) (i : Int) (q : am_F) : am_F := if f_at nb f i 0 = q 1 0 then am_put q 1 8 (am_w32 (q 1 8 + 1)) else q
def f_count (nb : Int) (f : Nat → Int) (q : am_F) : am_F := am_fold (g_count nb f) 0 nb.toNat (am_put q 1 8 0)
theorem L_count {S : am_S} {d u : Nat} {Q : AO → AH → Prop} {w : AH} {a t : Nat} {most nb : Int} {f : Nat → Int} (hl : a + 6 ≤ w.length) (hx : t + 2 ≤ a ∨ a + 6 ≤ t) (ht : w[t]? = some (cO 9 [aI most, aR (t + 1), aI nb])) (hn : w[t + 1]? = some (cP 0 48 f)) (hm : 0 ≤ nb ∧ nb ≤ 12) (hd : 1 ≤ d) : ∀ (n : Nat) (i : Int) (q : am_F), i + n = nb → 0 ≤ i → True → (∀ (q' : am_F), q' = am_fold (g_count nb f) i n q → True → am_T S zX0_countBids d u Q 50 [some (aR a), some (aR t), some (aI nb)] [] (auW w a q')) → am_T S zX0_countBids d u Q 10 [some (aR a), some (aR t), some (aI i)] [] (auW w a q) := by
  intro n
  induction n with
  | zero =>
    intro i q hi9 h0i hinv k9
    refine T_iload_n (am_dec tX0_countBids_0 7 rfl) rfl ?_
    refine T_aload_n (am_dec tX0_countBids_0 8 rfl) rfl ?_
    refine T_getfield 9 2 (am_dec tX0_countBids_0 9 rfl) flX0_37_9 ((auW_o (by omega)).trans ht) rfl ?_
    refine T_icmp_ge 50 (am_dec tX0_countBids_0 10 rfl) rfl (fun h15 => ?_) (fun h15 => by exfalso; omega)
    have e9 : i = nb := by omega
    rw [← e9] at k9
    exact k9 q rfl (by first | exact hinv | omega)
  | succ n ih =>
    intro i q hi9 h0i hinv k9
    refine T_iload_n (am_dec tX0_countBids_0 7 rfl) rfl ?_
    refine T_aload_n (am_dec tX0_countBids_0 8 rfl) rfl ?_
    refine T_getfield 9 2 (am_dec tX0_countBids_0 9 rfl) flX0_37_9 ((auW_o (by omega)).trans ht) rfl ?_
    refine T_icmp_ge 50 (am_dec tX0_countBids_0 10 rfl) rfl (fun h15 => by exfalso; omega) (fun h15 => ?_)
    refine T_aload_n (am_dec tX0_countBids_0 11 rfl) rfl ?_
    refine T_iload_n (am_dec tX0_countBids_0 12 rfl) rfl ?_
    refine T_iconst 0 (am_dec tX0_countBids_0 13 rfl) rfl ⟨by decide, by decide⟩ ?_
    refine T_callV (as := [aI i, aI 0]) rfl (am_dec tX0_countBids_0 14 rfl) lkX0_43 ((auW_o (by omega)).trans ht) rfl rfl (Nat.le_of_ble_eq_true rfl) (by omega) (m_at ((auW_o (by omega)).trans ht) ((auW_o (by omega)).trans hn) (by omega) i 0) (fun _ => ?_)
    refine T_aload_n (am_dec tX0_countBids_0 15 rfl) rfl ?_
    refine T_getfield 0 0 (am_dec tX0_countBids_0 16 rfl) flX0_9_0 (show (auW w a q)[a]? = some (cO 0 [aR (a + 1), aR (a + 2), aR (a + 3), aR (a + 4), aR (a + 5), aI (q 0 5)]) from auW_c hl 0 (by decide)) rfl ?_
    refine T_iconst 0 (am_dec tX0_countBids_0 17 rfl) rfl ⟨by decide, by decide⟩ ?_
    refine T_ialoadE (x := q 1 0) (am_dec tX0_countBids_0 18 rfl) (show (auW w a q)[a + 1]? = some (cP 0 9 (q 1)) from auW_c hl 1 (by decide)) (by omega) (by omega) rfl ?_
    refine T_icmp_ne 44 (am_dec tX0_countBids_0 19 rfl) rfl (fun h30 => ?_) (fun h30 => ?_)
    · refine T_iinc (ls' := [some (aR a), some (aR t), some (aI (i + 1))]) (i + 1) (am_dec tX0_countBids_0 28 rfl) rfl rfl ⟨by omega, by omega⟩ (by decide) rfl ?_
      refine T_goto 10 (am_dec tX0_countBids_0 29 rfl) rfl ?_
      have e9 : (g_count nb f) i q = q := (by unfold g_count; first | (rw [if_pos (by omega)]; done) | (rw [if_neg (by omega)]; done))
      simp only [am_fold_s, e9] at k9
      exact ih (i + 1) q (by omega) (by omega) trivial k9
    · refine T_aload_n (am_dec tX0_countBids_0 20 rfl) rfl ?_
      refine T_getfield 0 0 (am_dec tX0_countBids_0 21 rfl) flX0_9_0 (show (auW w a q)[a]? = some (cO 0 [aR (a + 1), aR (a + 2), aR (a + 3), aR (a + 4), aR (a + 5), aI (q 0 5)]) from auW_c hl 0 (by decide)) rfl ?_
      refine T_bipush 8 (am_dec tX0_countBids_0 22 rfl) rfl ⟨by decide, by decide⟩ ?_
      refine T_dup2 (am_dec tX0_countBids_0 23 rfl) rfl rfl ?_
      refine T_ialoadE (x := q 1 8) (am_dec tX0_countBids_0 24 rfl) (show (auW w a q)[a + 1]? = some (cP 0 9 (q 1)) from auW_c hl 1 (by decide)) (by omega) (by omega) rfl ?_
      refine T_iconst 1 (am_dec tX0_countBids_0 25 rfl) rfl ⟨by decide, by decide⟩ ?_
      refine T_iaddW (am_w32 (q 1 8 + 1)) (am_dec tX0_countBids_0 26 rfl) (am_w32e _).symm (am_w32r _) ?_
      refine T_iastore (am_dec tX0_countBids_0 27 rfl) (show (auW w a q)[a + 1]? = some (cP 0 9 (q 1)) from auW_c hl 1 (by decide)) (by omega) (by omega) ?_
      refine am_wE (w2 := auW w a (am_put q 1 8 (am_w32 (q 1 8 + 1)))) auW_p1 ?_
      refine T_iinc (ls' := [some (aR a), some (aR t), some (aI (i + 1))]) (i + 1) (am_dec tX0_countBids_0 28 rfl) rfl rfl ⟨by omega, by omega⟩ (by decide) rfl ?_
      refine T_goto 10 (am_dec tX0_countBids_0 29 rfl) rfl ?_
      have e9 : (g_count nb f) i q = (am_put q 1 8 (am_w32 (q 1 8 + 1))) := (by unfold g_count; first | (rw [if_pos (by omega)]; done) | (rw [if_neg (by omega)]; done))
      simp only [am_fold_s, e9] at k9
      exact ih (i + 1) (am_put q 1 8 (am_w32 (q 1 8 + 1))) (by omega) (by omega) trivial k9
theorem m_count {S : am_S} {d u : Nat} {w : AH} {a t : Nat} {q : am_F} {most nb : Int} {f : Nat → Int} (hl : a + 6 ≤ w.length) (hx : t + 2 ≤ a ∨ a + 6 ≤ t) (ht : w[t]? = some (cO 9 [aI most, aR (t + 1), aI nb])) (hn : w[t + 1]? = some (cP 0 48 f)) (hm : 0 ≤ nb ∧ nb ≤ 12) (hd : 1 ≤ d) : am_Out S zX0_countBids d u [aR a, aR t] (auW w a q) (.inl none) (auW w a (f_count nb f q)) := by
  refine am_body rfl (by decide +kernel) rfl (am_cats_cons rfl ( am_cats_cons rfl (am_cats_nil))) (Nat.le_of_ble_eq_true rfl) (?_ : am_T _ _ _ _ _ 0 [some (aR a), some (aR t), none] [] (auW w a q))
  refine T_aload_n (am_dec tX0_countBids_0 0 rfl) rfl ?_
  refine T_getfield 0 0 (am_dec tX0_countBids_0 1 rfl) flX0_9_0 (show (auW w a q)[a]? = some (cO 0 [aR (a + 1), aR (a + 2), aR (a + 3), aR (a + 4), aR (a + 5), aI (q 0 5)]) from auW_c hl 0 (by decide)) rfl ?_
  refine T_bipush 8 (am_dec tX0_countBids_0 2 rfl) rfl ⟨by decide, by decide⟩ ?_
  refine T_iconst 0 (am_dec tX0_countBids_0 3 rfl) rfl ⟨by decide, by decide⟩ ?_
  refine T_iastore (am_dec tX0_countBids_0 4 rfl) (show (auW w a q)[a + 1]? = some (cP 0 9 (q 1)) from auW_c hl 1 (by decide)) (by omega) (by omega) ?_
  refine am_wE (w2 := auW w a (am_put q 1 8 0)) auW_p1 ?_
  refine T_iconst 0 (am_dec tX0_countBids_0 5 rfl) rfl ⟨by decide, by decide⟩ ?_
  refine T_istore_n (ls' := [some (aR a), some (aR t), some (aI 0)]) (am_dec tX0_countBids_0 6 rfl) (by decide) rfl ?_
  refine L_count hl hx ht hn hm hd (nb - 0).toNat 0 (am_put q 1 8 0) (by omega) (by omega) trivial (fun r10 hr10 hv10 => ?_)
  exact T_return (am_dec tX0_countBids_0 30 rfl) rfl ⟨rfl, by rw [hr10, Int.sub_zero]; rfl⟩
def g_takings (q : am_F) (nb : Int) (f : Nat → Int) (way i x : Int) : Int := am_w32 (x + am_w32 (f_got q i * f_priceOf q nb f i way))
def f_takings (q : am_F) (nb : Int) (f : Nat → Int) (way : Int) : Int := am_fold (g_takings q nb f way) 0 nb.toNat 0
theorem L_takings {S : am_S} {d u : Nat} {Q : AO → AH → Prop} {w : AH} {a t : Nat} {q : am_F} {most nb : Int} {f : Nat → Int} (hl : a + 6 ≤ w.length) (hx : t + 2 ≤ a ∨ a + 6 ≤ t) (ht : w[t]? = some (cO 9 [aI most, aR (t + 1), aI nb])) (hn : w[t + 1]? = some (cP 0 48 f)) (hm : 0 ≤ nb ∧ nb ≤ 12) (way : Int) (hd : 2 ≤ d) : ∀ (n : Nat) (i : Int) (x : Int), i + n = nb → 0 ≤ i → True → (∀ (x' : Int), x' = am_fold (g_takings q nb f way) i n x → True → am_T S zX0_takings d u Q 38 [some (aR a), some (aR t), some (aI way), some (aI x'), some (aI nb)] [] ((auW w a q))) → am_T S zX0_takings d u Q 5 [some (aR a), some (aR t), some (aI way), some (aI x), some (aI i)] [] ((auW w a q)) := by
  intro n
  induction n with
  | zero =>
    intro i x hi9 h0i hinv k9
    refine T_iload (am_dec tX0_takings_0 4 rfl) rfl ?_
    refine T_aload_n (am_dec tX0_takings_0 5 rfl) rfl ?_
    refine T_getfield 9 2 (am_dec tX0_takings_0 6 rfl) flX0_37_9 ((auW_o (by omega)).trans ht) rfl ?_
    refine T_icmp_ge 38 (am_dec tX0_takings_0 7 rfl) rfl (fun h11 => ?_) (fun h11 => by exfalso; omega)
    have e9 : i = nb := by omega
    rw [← e9] at k9
    exact k9 x rfl (by first | exact hinv | omega)
  | succ n ih =>
    intro i x hi9 h0i hinv k9
    refine T_iload (am_dec tX0_takings_0 4 rfl) rfl ?_
    refine T_aload_n (am_dec tX0_takings_0 5 rfl) rfl ?_
    refine T_getfield 9 2 (am_dec tX0_takings_0 6 rfl) flX0_37_9 ((auW_o (by omega)).trans ht) rfl ?_
    refine T_icmp_ge 38 (am_dec tX0_takings_0 7 rfl) rfl (fun h11 => by exfalso; omega) (fun h11 => ?_)
    refine T_iload_n (am_dec tX0_takings_0 8 rfl) rfl ?_
    refine T_aload_n (am_dec tX0_takings_0 9 rfl) rfl ?_
    refine T_iload (am_dec tX0_takings_0 10 rfl) rfl ?_
    refine T_callV (as := [aI i]) rfl (am_dec tX0_takings_0 11 rfl) lkX0_59 (show (auW w a q)[a]? = some (cO 0 [aR (a + 1), aR (a + 2), aR (a + 3), aR (a + 4), aR (a + 5), aI (q 0 5)]) from auW_c hl 0 (by decide)) rfl rfl (Nat.le_of_ble_eq_true rfl) (by omega) (m_got hl i) (fun _ => ?_)
    refine T_aload_n (am_dec tX0_takings_0 12 rfl) rfl ?_
    refine T_aload_n (am_dec tX0_takings_0 13 rfl) rfl ?_
    refine T_iload (am_dec tX0_takings_0 14 rfl) rfl ?_
    refine T_iload_n (am_dec tX0_takings_0 15 rfl) rfl ?_
    refine T_callV (as := [aR t, aI i, aI way]) rfl (am_dec tX0_takings_0 16 rfl) lkX0_63 (show (auW w a q)[a]? = some (cO 0 [aR (a + 1), aR (a + 2), aR (a + 3), aR (a + 4), aR (a + 5), aI (q 0 5)]) from auW_c hl 0 (by decide)) rfl rfl (Nat.le_of_ble_eq_true rfl) (by omega) (m_priceOf hl hx ht hn hm i way (by omega)) (fun _ => ?_)
    refine T_imulW (am_w32 (f_got q i * f_priceOf q nb f i way)) (am_dec tX0_takings_0 17 rfl) (am_w32e _).symm (am_w32r _) ?_
    refine T_iaddW (am_w32 (x + am_w32 (f_got q i * f_priceOf q nb f i way))) (am_dec tX0_takings_0 18 rfl) (am_w32e _).symm (am_w32r _) ?_
    refine T_istore_n (ls' := [some (aR a), some (aR t), some (aI way), some (aI (am_w32 (x + am_w32 (f_got q i * f_priceOf q nb f i way)))), some (aI i)]) (am_dec tX0_takings_0 19 rfl) (by decide) rfl ?_
    refine T_iinc (ls' := [some (aR a), some (aR t), some (aI way), some (aI (am_w32 (x + am_w32 (f_got q i * f_priceOf q nb f i way)))), some (aI (i + 1))]) (i + 1) (am_dec tX0_takings_0 20 rfl) rfl rfl ⟨by omega, by omega⟩ (by decide) rfl ?_
    refine T_goto 5 (am_dec tX0_takings_0 21 rfl) rfl ?_
    have e9 : (g_takings q nb f way) i x = am_w32 (x + am_w32 (f_got q i * f_priceOf q nb f i way)) := rfl
    simp only [am_fold_s, e9] at k9
    exact ih (i + 1) (am_w32 (x + am_w32 (f_got q i * f_priceOf q nb f i way))) (by omega) (by omega) trivial k9
theorem m_takings {S : am_S} {d u : Nat} {w : AH} {a t : Nat} {q : am_F} {most nb : Int} {f : Nat → Int} (hl : a + 6 ≤ w.length) (hx : t + 2 ≤ a ∨ a + 6 ≤ t) (ht : w[t]? = some (cO 9 [aI most, aR (t + 1), aI nb])) (hn : w[t + 1]? = some (cP 0 48 f)) (hm : 0 ≤ nb ∧ nb ≤ 12) (way : Int) (hd : 2 ≤ d) : am_Out S zX0_takings d u [aR a, aR t, aI way] (auW w a q) (.inl (some (aI (f_takings q nb f way)))) (auW w a q) := by
  refine am_body rfl (by decide +kernel) rfl (am_cats_cons rfl ( am_cats_cons rfl ( am_cats_cons rfl (am_cats_nil)))) (Nat.le_of_ble_eq_true rfl) (?_ : am_T _ _ _ _ _ 0 [some (aR a), some (aR t), some (aI way), none, none] [] (auW w a q))
  refine T_iconst 0 (am_dec tX0_takings_0 0 rfl) rfl ⟨by decide, by decide⟩ ?_
  refine T_istore_n (ls' := [some (aR a), some (aR t), some (aI way), some (aI 0), none]) (am_dec tX0_takings_0 1 rfl) (by decide) rfl ?_
  refine T_iconst 0 (am_dec tX0_takings_0 2 rfl) rfl ⟨by decide, by decide⟩ ?_
  refine T_istore (ls' := [some (aR a), some (aR t), some (aI way), some (aI 0), some (aI 0)]) (am_dec tX0_takings_0 3 rfl) (by decide) rfl ?_
  refine L_takings hl hx ht hn hm way hd (nb - 0).toNat 0 0 (by omega) (by omega) trivial (fun x5 hx5 hv5 => ?_)
  refine T_iload_n (am_dec tX0_takings_0 22 rfl) rfl ?_
  exact T_ireturn (am_dec tX0_takings_0 23 rfl) rfl (am_outI (by rw [hx5, Int.sub_zero]; rfl))
