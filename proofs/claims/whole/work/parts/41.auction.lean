/-! Auction -/
theorem T_ialoadE {S : am_S} {z : am_Z} {d u : Nat} {Q : AO → AH → Prop} {pc : Nat} {ls : List (Option AV)} {st : List AV} {w : AH} {a n : Nat} {f : Nat → Int} {i x : Int} (hd : decode (am_cc z) pc = .ok (.iaload, 1)) (hw : w[a]? = some (cP 0 n f)) (h0 : 0 ≤ i) (hi : i < n) (e : f i.toNat = x) (kk : am_T S z d u Q (pc + 1) ls (aI x :: st) w) : am_T S z d u Q pc ls (aI i :: aR a :: st) w := T_iaload hd hw h0 hi (e ▸ kk)
def auC (b : Nat) (q : am_F) : Nat → AC
  | 0 => cO 0 [aR (b + 1), aR (b + 2), aR (b + 3), aR (b + 4), aR (b + 5), aI (q 0 5)]
  | 1 => cP 0 9 (q 1)
  | 2 => cP 0 12 (q 2)
  | 3 => cP 0 12 (q 3)
  | 4 => cP 0 12 (q 4)
  | _ => cP 1 12 (q 5)
def auW (w : AH) (b : Nat) (q : am_F) : AH := am_ov w b 6 (auC b q)
theorem auW_c {w : AH} {b : Nat} {q : am_F} (hl : b + 6 ≤ w.length) (k : Nat) (hk : k < 6) : (auW w b q)[b + k]? = some (auC b q k) := am_ovi hl k hk
theorem auW_o {w : AH} {b : Nat} {q : am_F} {j : Nat} (hj : j < b ∨ b + 6 ≤ j) : (auW w b q)[j]? = w[j]? := am_ovo j hj
theorem auW_self {w : AH} {b : Nat} {q : am_F} (h : ∀ k, k < 6 → w[b + k]? = some (auC b q k)) : auW w b q = w := am_ovself h
theorem auW_W {w : AH} {b : Nat} {q q2 : am_F} : auW (auW w b q) b q2 = auW w b q2 := am_ovov
theorem auW_p1 {w : AH} {b : Nat} {q : am_F} {i : Nat} {v : Int} : (auW w b q).set (b + 1) (cP 0 9 (am_up (q 1) i v)) = auW w b (am_put q 1 i v) := am_ovset 1 (by decide) (fun j hj => match j, hj with | 0, _ => rfl | 1, _ => rfl | 2, _ => rfl | 3, _ => rfl | 4, _ => rfl | 5, _ => rfl | n + 6, h => absurd h (by omega))
theorem auW_r1 {w : AH} {b : Nat} {q : am_F} {f : Nat → Int} : (auW w b q).set (b + 1) (cP 0 9 f) = auW w b (am_row q 1 f) := am_ovset 1 (by decide) (fun j hj => match j, hj with | 0, _ => rfl | 1, _ => rfl | 2, _ => rfl | 3, _ => rfl | 4, _ => rfl | 5, _ => rfl | n + 6, h => absurd h (by omega))
theorem auW_p2 {w : AH} {b : Nat} {q : am_F} {i : Nat} {v : Int} : (auW w b q).set (b + 2) (cP 0 12 (am_up (q 2) i v)) = auW w b (am_put q 2 i v) := am_ovset 2 (by decide) (fun j hj => match j, hj with | 0, _ => rfl | 1, _ => rfl | 2, _ => rfl | 3, _ => rfl | 4, _ => rfl | 5, _ => rfl | n + 6, h => absurd h (by omega))
theorem auW_r2 {w : AH} {b : Nat} {q : am_F} {f : Nat → Int} : (auW w b q).set (b + 2) (cP 0 12 f) = auW w b (am_row q 2 f) := am_ovset 2 (by decide) (fun j hj => match j, hj with | 0, _ => rfl | 1, _ => rfl | 2, _ => rfl | 3, _ => rfl | 4, _ => rfl | 5, _ => rfl | n + 6, h => absurd h (by omega))
theorem auW_p3 {w : AH} {b : Nat} {q : am_F} {i : Nat} {v : Int} : (auW w b q).set (b + 3) (cP 0 12 (am_up (q 3) i v)) = auW w b (am_put q 3 i v) := am_ovset 3 (by decide) (fun j hj => match j, hj with | 0, _ => rfl | 1, _ => rfl | 2, _ => rfl | 3, _ => rfl | 4, _ => rfl | 5, _ => rfl | n + 6, h => absurd h (by omega))
theorem auW_r3 {w : AH} {b : Nat} {q : am_F} {f : Nat → Int} : (auW w b q).set (b + 3) (cP 0 12 f) = auW w b (am_row q 3 f) := am_ovset 3 (by decide) (fun j hj => match j, hj with | 0, _ => rfl | 1, _ => rfl | 2, _ => rfl | 3, _ => rfl | 4, _ => rfl | 5, _ => rfl | n + 6, h => absurd h (by omega))
theorem auW_p4 {w : AH} {b : Nat} {q : am_F} {i : Nat} {v : Int} : (auW w b q).set (b + 4) (cP 0 12 (am_up (q 4) i v)) = auW w b (am_put q 4 i v) := am_ovset 4 (by decide) (fun j hj => match j, hj with | 0, _ => rfl | 1, _ => rfl | 2, _ => rfl | 3, _ => rfl | 4, _ => rfl | 5, _ => rfl | n + 6, h => absurd h (by omega))
theorem auW_r4 {w : AH} {b : Nat} {q : am_F} {f : Nat → Int} : (auW w b q).set (b + 4) (cP 0 12 f) = auW w b (am_row q 4 f) := am_ovset 4 (by decide) (fun j hj => match j, hj with | 0, _ => rfl | 1, _ => rfl | 2, _ => rfl | 3, _ => rfl | 4, _ => rfl | 5, _ => rfl | n + 6, h => absurd h (by omega))
theorem auW_p5 {w : AH} {b : Nat} {q : am_F} {i : Nat} {v : Int} : (auW w b q).set (b + 5) (cP 1 12 (am_up (q 5) i v)) = auW w b (am_put q 5 i v) := am_ovset 5 (by decide) (fun j hj => match j, hj with | 0, _ => rfl | 1, _ => rfl | 2, _ => rfl | 3, _ => rfl | 4, _ => rfl | 5, _ => rfl | n + 6, h => absurd h (by omega))
theorem auW_r5 {w : AH} {b : Nat} {q : am_F} {f : Nat → Int} : (auW w b q).set (b + 5) (cP 1 12 f) = auW w b (am_row q 5 f) := am_ovset 5 (by decide) (fun j hj => match j, hj with | 0, _ => rfl | 1, _ => rfl | 2, _ => rfl | 3, _ => rfl | 4, _ => rfl | 5, _ => rfl | n + 6, h => absurd h (by omega))
theorem auW_f5 {w : AH} {b : Nat} {q : am_F} {v : Int} : (auW w b q).set b (cO 0 [aR (b + 1), aR (b + 2), aR (b + 3), aR (b + 4), aR (b + 5), aI v]) = auW w b (am_put q 0 5 v) := am_ovset (b := b) 0 (by decide) (fun j hj => match j, hj with | 0, _ => rfl | 1, _ => rfl | 2, _ => rfl | 3, _ => rfl | 4, _ => rfl | 5, _ => rfl | n + 6, h => absurd h (by omega))
def f_got (q : am_F) (i : Int) : Int := if 0 ≤ i ∧ i < 12 then q 3 i.toNat else 0
def f_paid (q : am_F) (i : Int) : Int := if 0 ≤ i ∧ i < 12 then q 4 i.toNat else 0
theorem m_got {S : am_S} {d u : Nat} {w : AH} {a : Nat} {q : am_F} (hl : a + 6 ≤ w.length) (i : Int) : am_Out S zX0_got d u [aR a, aI i] (auW w a q) (.inl (some (aI (f_got q i)))) (auW w a q) := by
  refine am_body rfl (by decide +kernel) rfl (am_cats_cons rfl ( am_cats_cons rfl (am_cats_nil))) (Nat.le_of_ble_eq_true rfl) (?_ : am_T _ _ _ _ _ 0 [some (aR a), some (aI i)] [] (auW w a q))
  refine T_iload_n (am_dec tX0_got_0 0 rfl) rfl ?_
  refine T_if_lt 19 (am_dec tX0_got_0 1 rfl) rfl (fun h1 => ?_) (fun h1 => ?_)
  · refine T_iconst 0 (am_dec tX0_got_0 10 rfl) rfl ⟨by decide, by decide⟩ ?_
    exact T_ireturn (am_dec tX0_got_0 11 rfl) rfl (am_outI (by unfold f_got; first | (rw [if_pos (by omega)]; done) | (rw [if_neg (by omega)]; done)))
  · refine T_iload_n (am_dec tX0_got_0 2 rfl) rfl ?_
    refine T_bipush 12 (am_dec tX0_got_0 3 rfl) rfl ⟨by decide, by decide⟩ ?_
    refine T_icmp_ge 19 (am_dec tX0_got_0 4 rfl) rfl (fun h7 => ?_) (fun h7 => ?_)
    · refine T_iconst 0 (am_dec tX0_got_0 10 rfl) rfl ⟨by decide, by decide⟩ ?_
      exact T_ireturn (am_dec tX0_got_0 11 rfl) rfl (am_outI (by unfold f_got; first | (rw [if_pos (by omega)]; done) | (rw [if_neg (by omega)]; done)))
    · refine T_aload_n (am_dec tX0_got_0 5 rfl) rfl ?_
      refine T_getfield 0 2 (am_dec tX0_got_0 6 rfl) flX0_18_0 (show (auW w a q)[a]? = some (cO 0 [aR (a + 1), aR (a + 2), aR (a + 3), aR (a + 4), aR (a + 5), aI (q 0 5)]) from auW_c hl 0 (by decide)) rfl ?_
      refine T_iload_n (am_dec tX0_got_0 7 rfl) rfl ?_
      refine T_iaload (am_dec tX0_got_0 8 rfl) (show (auW w a q)[a + 3]? = some (cP 0 12 (q 3)) from auW_c hl 3 (by decide)) (by omega) (by omega) ?_
      refine T_goto 20 (am_dec tX0_got_0 9 rfl) rfl ?_
      exact T_ireturn (am_dec tX0_got_0 11 rfl) rfl (am_outI (by unfold f_got; first | (rw [if_pos (by omega)]; done) | (rw [if_neg (by omega)]; done)))
theorem m_paid {S : am_S} {d u : Nat} {w : AH} {a : Nat} {q : am_F} (hl : a + 6 ≤ w.length) (i : Int) : am_Out S zX0_paid d u [aR a, aI i] (auW w a q) (.inl (some (aI (f_paid q i)))) (auW w a q) := by
  refine am_body rfl (by decide +kernel) rfl (am_cats_cons rfl ( am_cats_cons rfl (am_cats_nil))) (Nat.le_of_ble_eq_true rfl) (?_ : am_T _ _ _ _ _ 0 [some (aR a), some (aI i)] [] (auW w a q))
  refine T_iload_n (am_dec tX0_paid_0 0 rfl) rfl ?_
  refine T_if_lt 19 (am_dec tX0_paid_0 1 rfl) rfl (fun h1 => ?_) (fun h1 => ?_)
  · refine T_iconst 0 (am_dec tX0_paid_0 10 rfl) rfl ⟨by decide, by decide⟩ ?_
    exact T_ireturn (am_dec tX0_paid_0 11 rfl) rfl (am_outI (by unfold f_paid; first | (rw [if_pos (by omega)]; done) | (rw [if_neg (by omega)]; done)))
  · refine T_iload_n (am_dec tX0_paid_0 2 rfl) rfl ?_
    refine T_bipush 12 (am_dec tX0_paid_0 3 rfl) rfl ⟨by decide, by decide⟩ ?_
    refine T_icmp_ge 19 (am_dec tX0_paid_0 4 rfl) rfl (fun h7 => ?_) (fun h7 => ?_)
    · refine T_iconst 0 (am_dec tX0_paid_0 10 rfl) rfl ⟨by decide, by decide⟩ ?_
      exact T_ireturn (am_dec tX0_paid_0 11 rfl) rfl (am_outI (by unfold f_paid; first | (rw [if_pos (by omega)]; done) | (rw [if_neg (by omega)]; done)))
    · refine T_aload_n (am_dec tX0_paid_0 5 rfl) rfl ?_
      refine T_getfield 0 3 (am_dec tX0_paid_0 6 rfl) flX0_21_0 (show (auW w a q)[a]? = some (cO 0 [aR (a + 1), aR (a + 2), aR (a + 3), aR (a + 4), aR (a + 5), aI (q 0 5)]) from auW_c hl 0 (by decide)) rfl ?_
      refine T_iload_n (am_dec tX0_paid_0 7 rfl) rfl ?_
      refine T_iaload (am_dec tX0_paid_0 8 rfl) (show (auW w a q)[a + 4]? = some (cP 0 12 (q 4)) from auW_c hl 4 (by decide)) (by omega) (by omega) ?_
      refine T_goto 20 (am_dec tX0_paid_0 9 rfl) rfl ?_
      exact T_ireturn (am_dec tX0_paid_0 11 rfl) rfl (am_outI (by unfold f_paid; first | (rw [if_pos (by omega)]; done) | (rw [if_neg (by omega)]; done)))
def f_priceOf (q : am_F) (n : Int) (f : Nat → Int) (i way : Int) : Int := if way = 0 then f_at n f i 2 else q 0 5
theorem m_priceOf {S : am_S} {d u : Nat} {w : AH} {a t : Nat} {q : am_F} {most nb : Int} {f : Nat → Int} (hl : a + 6 ≤ w.length) (hx : t + 2 ≤ a ∨ a + 6 ≤ t) (ht : w[t]? = some (cO 9 [aI most, aR (t + 1), aI nb])) (hn : w[t + 1]? = some (cP 0 48 f)) (hm : 0 ≤ nb ∧ nb ≤ 12) (i way : Int) (hd : 1 ≤ d) : am_Out S zX0_priceOf d u [aR a, aR t, aI i, aI way] (auW w a q) (.inl (some (aI (f_priceOf q nb f i way)))) (auW w a q) := by
  refine am_body rfl (by decide +kernel) rfl (am_cats_cons rfl ( am_cats_cons rfl ( am_cats_cons rfl ( am_cats_cons rfl (am_cats_nil))))) (Nat.le_of_ble_eq_true rfl) (?_ : am_T _ _ _ _ _ 0 [some (aR a), some (aR t), some (aI i), some (aI way)] [] (auW w a q))
  refine T_iload_n (am_dec tX0_priceOf_0 0 rfl) rfl ?_
  refine T_if_ne 13 (am_dec tX0_priceOf_0 1 rfl) rfl (fun h1 => ?_) (fun h1 => ?_)
  · refine T_aload_n (am_dec tX0_priceOf_0 7 rfl) rfl ?_
    refine T_getfield 0 5 (am_dec tX0_priceOf_0 8 rfl) flX0_47_0 (show (auW w a q)[a]? = some (cO 0 [aR (a + 1), aR (a + 2), aR (a + 3), aR (a + 4), aR (a + 5), aI (q 0 5)]) from auW_c hl 0 (by decide)) rfl ?_
    exact T_ireturn (am_dec tX0_priceOf_0 9 rfl) rfl (am_outI (by unfold f_priceOf; first | (rw [if_pos (by omega)]; done) | (rw [if_neg (by omega)]; done)))
  · refine T_aload_n (am_dec tX0_priceOf_0 2 rfl) rfl ?_
    refine T_iload_n (am_dec tX0_priceOf_0 3 rfl) rfl ?_
    refine T_iconst 2 (am_dec tX0_priceOf_0 4 rfl) rfl ⟨by decide, by decide⟩ ?_
    refine T_callV (as := [aI i, aI 2]) rfl (am_dec tX0_priceOf_0 5 rfl) lkX0_43 ((auW_o (by omega)).trans ht) rfl rfl (Nat.le_of_ble_eq_true rfl) (by omega) (m_at ((auW_o (by omega)).trans ht) ((auW_o (by omega)).trans hn) (by omega) i 2) (fun _ => ?_)
    refine T_goto 17 (am_dec tX0_priceOf_0 6 rfl) rfl ?_
    exact T_ireturn (am_dec tX0_priceOf_0 9 rfl) rfl (am_outI (by unfold f_priceOf; first | (rw [if_pos (by omega)]; done) | (rw [if_neg (by omega)]; done)))
def f_open (q : am_F) (l s th fl : Int) : am_F := am_put (am_put (am_put (am_put (am_put q 1 0 l) 1 3 s) 1 4 th) 1 5 th) 1 6 fl
theorem m_open {S : am_S} {d u : Nat} {w : AH} {a : Nat} {q : am_F} (hl : a + 6 ≤ w.length) (l s th fl : Int) : am_Out S zX0_open d u [aR a, aI l, aI s, aI th, aI fl] (auW w a q) (.inl none) (auW w a (f_open q l s th fl)) := by
  refine am_body rfl (by decide +kernel) rfl (am_cats_cons rfl ( am_cats_cons rfl ( am_cats_cons rfl ( am_cats_cons rfl ( am_cats_cons rfl (am_cats_nil)))))) (Nat.le_of_ble_eq_true rfl) (?_ : am_T _ _ _ _ _ 0 [some (aR a), some (aI l), some (aI s), some (aI th), some (aI fl)] [] (auW w a q))
  refine T_aload_n (am_dec tX0_open_0 0 rfl) rfl ?_
  refine T_getfield 0 0 (am_dec tX0_open_0 1 rfl) flX0_9_0 (show (auW w a q)[a]? = some (cO 0 [aR (a + 1), aR (a + 2), aR (a + 3), aR (a + 4), aR (a + 5), aI (q 0 5)]) from auW_c hl 0 (by decide)) rfl ?_
  refine T_iconst 0 (am_dec tX0_open_0 2 rfl) rfl ⟨by decide, by decide⟩ ?_
  refine T_iload_n (am_dec tX0_open_0 3 rfl) rfl ?_
  refine T_iastore (am_dec tX0_open_0 4 rfl) (show (auW w a q)[a + 1]? = some (cP 0 9 (q 1)) from auW_c hl 1 (by decide)) (by omega) (by omega) ?_
  refine am_wE (w2 := auW w a (am_put q 1 0 l)) auW_p1 ?_
  refine T_aload_n (am_dec tX0_open_0 5 rfl) rfl ?_
  refine T_getfield 0 0 (am_dec tX0_open_0 6 rfl) flX0_9_0 (show (auW w a (am_put q 1 0 l))[a]? = some (cO 0 [aR (a + 1), aR (a + 2), aR (a + 3), aR (a + 4), aR (a + 5), aI (q 0 5)]) from auW_c hl 0 (by decide)) rfl ?_
  refine T_iconst 3 (am_dec tX0_open_0 7 rfl) rfl ⟨by decide, by decide⟩ ?_
  refine T_iload_n (am_dec tX0_open_0 8 rfl) rfl ?_
  refine T_iastore (am_dec tX0_open_0 9 rfl) (show (auW w a (am_put q 1 0 l))[a + 1]? = some (cP 0 9 (am_up (q 1) 0 l)) from auW_c hl 1 (by decide)) (by omega) (by omega) ?_
  refine am_wE (w2 := auW w a (am_put (am_put q 1 0 l) 1 3 s)) auW_p1 ?_
  refine T_aload_n (am_dec tX0_open_0 10 rfl) rfl ?_
  refine T_getfield 0 0 (am_dec tX0_open_0 11 rfl) flX0_9_0 (show (auW w a (am_put (am_put q 1 0 l) 1 3 s))[a]? = some (cO 0 [aR (a + 1), aR (a + 2), aR (a + 3), aR (a + 4), aR (a + 5), aI (q 0 5)]) from auW_c hl 0 (by decide)) rfl ?_
  refine T_iconst 4 (am_dec tX0_open_0 12 rfl) rfl ⟨by decide, by decide⟩ ?_
  refine T_iload_n (am_dec tX0_open_0 13 rfl) rfl ?_
  refine T_iastore (am_dec tX0_open_0 14 rfl) (show (auW w a (am_put (am_put q 1 0 l) 1 3 s))[a + 1]? = some (cP 0 9 (am_up (am_up (q 1) 0 l) 3 s)) from auW_c hl 1 (by decide)) (by omega) (by omega) ?_
  refine am_wE (w2 := auW w a (am_put (am_put (am_put q 1 0 l) 1 3 s) 1 4 th)) auW_p1 ?_
  refine T_aload_n (am_dec tX0_open_0 15 rfl) rfl ?_
  refine T_getfield 0 0 (am_dec tX0_open_0 16 rfl) flX0_9_0 (show (auW w a (am_put (am_put (am_put q 1 0 l) 1 3 s) 1 4 th))[a]? = some (cO 0 [aR (a + 1), aR (a + 2), aR (a + 3), aR (a + 4), aR (a + 5), aI (q 0 5)]) from auW_c hl 0 (by decide)) rfl ?_
  refine T_iconst 5 (am_dec tX0_open_0 17 rfl) rfl ⟨by decide, by decide⟩ ?_
  refine T_iload_n (am_dec tX0_open_0 18 rfl) rfl ?_
  refine T_iastore (am_dec tX0_open_0 19 rfl) (show (auW w a (am_put (am_put (am_put q 1 0 l) 1 3 s) 1 4 th))[a + 1]? = some (cP 0 9 (am_up (am_up (am_up (q 1) 0 l) 3 s) 4 th)) from auW_c hl 1 (by decide)) (by omega) (by omega) ?_
  refine am_wE (w2 := auW w a (am_put (am_put (am_put (am_put q 1 0 l) 1 3 s) 1 4 th) 1 5 th)) auW_p1 ?_
  refine T_aload_n (am_dec tX0_open_0 20 rfl) rfl ?_
  refine T_getfield 0 0 (am_dec tX0_open_0 21 rfl) flX0_9_0 (show (auW w a (am_put (am_put (am_put (am_put q 1 0 l) 1 3 s) 1 4 th) 1 5 th))[a]? = some (cO 0 [aR (a + 1), aR (a + 2), aR (a + 3), aR (a + 4), aR (a + 5), aI (q 0 5)]) from auW_c hl 0 (by decide)) rfl ?_
  refine T_bipush 6 (am_dec tX0_open_0 22 rfl) rfl ⟨by decide, by decide⟩ ?_
  refine T_iload (am_dec tX0_open_0 23 rfl) rfl ?_
  refine T_iastore (am_dec tX0_open_0 24 rfl) (show (auW w a (am_put (am_put (am_put (am_put q 1 0 l) 1 3 s) 1 4 th) 1 5 th))[a + 1]? = some (cP 0 9 (am_up (am_up (am_up (am_up (q 1) 0 l) 3 s) 4 th) 5 th)) from auW_c hl 1 (by decide)) (by omega) (by omega) ?_
  refine am_wE (w2 := auW w a (am_put (am_put (am_put (am_put (am_put q 1 0 l) 1 3 s) 1 4 th) 1 5 th) 1 6 fl)) auW_p1 ?_
  exact T_return (am_dec tX0_open_0 25 rfl) rfl ⟨rfl, rfl⟩
def f_look (q : am_F) (n : Int) (f : Nat → Int) (i : Int) : am_F := am_put (am_put (am_put q 1 7 i) 1 1 (f_at n f i 1)) 1 2 (f_at n f i 2)
theorem m_look {S : am_S} {d u : Nat} {w : AH} {a t : Nat} {q : am_F} {most nb : Int} {f : Nat → Int} (hl : a + 6 ≤ w.length) (hx : t + 2 ≤ a ∨ a + 6 ≤ t) (ht : w[t]? = some (cO 9 [aI most, aR (t + 1), aI nb])) (hn : w[t + 1]? = some (cP 0 48 f)) (hm : 0 ≤ nb ∧ nb ≤ 12) (i : Int) (hd : 1 ≤ d) : am_Out S zX0_look d u [aR a, aR t, aI i] (auW w a q) (.inl none) (auW w a (f_look q nb f i)) := by
  refine am_body rfl (by decide +kernel) rfl (am_cats_cons rfl ( am_cats_cons rfl ( am_cats_cons rfl (am_cats_nil)))) (Nat.le_of_ble_eq_true rfl) (?_ : am_T _ _ _ _ _ 0 [some (aR a), some (aR t), some (aI i)] [] (auW w a q))
  refine T_aload_n (am_dec tX0_look_0 0 rfl) rfl ?_
  refine T_getfield 0 0 (am_dec tX0_look_0 1 rfl) flX0_9_0 (show (auW w a q)[a]? = some (cO 0 [aR (a + 1), aR (a + 2), aR (a + 3), aR (a + 4), aR (a + 5), aI (q 0 5)]) from auW_c hl 0 (by decide)) rfl ?_
  refine T_bipush 7 (am_dec tX0_look_0 2 rfl) rfl ⟨by decide, by decide⟩ ?_
  refine T_iload_n (am_dec tX0_look_0 3 rfl) rfl ?_
  refine T_iastore (am_dec tX0_look_0 4 rfl) (show (auW w a q)[a + 1]? = some (cP 0 9 (q 1)) from auW_c hl 1 (by decide)) (by omega) (by omega) ?_
  refine am_wE (w2 := auW w a (am_put q 1 7 i)) auW_p1 ?_
  refine T_aload_n (am_dec tX0_look_0 5 rfl) rfl ?_
  refine T_getfield 0 0 (am_dec tX0_look_0 6 rfl) flX0_9_0 (show (auW w a (am_put q 1 7 i))[a]? = some (cO 0 [aR (a + 1), aR (a + 2), aR (a + 3), aR (a + 4), aR (a + 5), aI (q 0 5)]) from auW_c hl 0 (by decide)) rfl ?_
  refine T_iconst 1 (am_dec tX0_look_0 7 rfl) rfl ⟨by decide, by decide⟩ ?_
  refine T_aload_n (am_dec tX0_look_0 8 rfl) rfl ?_
  refine T_iload_n (am_dec tX0_look_0 9 rfl) rfl ?_
  refine T_iconst 1 (am_dec tX0_look_0 10 rfl) rfl ⟨by decide, by decide⟩ ?_
  refine T_callV (as := [aI i, aI 1]) rfl (am_dec tX0_look_0 11 rfl) lkX0_43 ((auW_o (by omega)).trans ht) rfl rfl (Nat.le_of_ble_eq_true rfl) (by omega) (m_at ((auW_o (by omega)).trans ht) ((auW_o (by omega)).trans hn) (by omega) i 1) (fun _ => ?_)
  refine T_iastore (am_dec tX0_look_0 12 rfl) (show (auW w a (am_put q 1 7 i))[a + 1]? = some (cP 0 9 (am_up (q 1) 7 i)) from auW_c hl 1 (by decide)) (by omega) (by omega) ?_
  refine am_wE (w2 := auW w a (am_put (am_put q 1 7 i) 1 1 (f_at nb f i 1))) auW_p1 ?_
  refine T_aload_n (am_dec tX0_look_0 13 rfl) rfl ?_
  refine T_getfield 0 0 (am_dec tX0_look_0 14 rfl) flX0_9_0 (show (auW w a (am_put (am_put q 1 7 i) 1 1 (f_at nb f i 1)))[a]? = some (cO 0 [aR (a + 1), aR (a + 2), aR (a + 3), aR (a + 4), aR (a + 5), aI (q 0 5)]) from auW_c hl 0 (by decide)) rfl ?_
  refine T_iconst 2 (am_dec tX0_look_0 15 rfl) rfl ⟨by decide, by decide⟩ ?_
  refine T_aload_n (am_dec tX0_look_0 16 rfl) rfl ?_
  refine T_iload_n (am_dec tX0_look_0 17 rfl) rfl ?_
  refine T_iconst 2 (am_dec tX0_look_0 18 rfl) rfl ⟨by decide, by decide⟩ ?_
  refine T_callV (as := [aI i, aI 2]) rfl (am_dec tX0_look_0 19 rfl) lkX0_43 ((auW_o (by omega)).trans ht) rfl rfl (Nat.le_of_ble_eq_true rfl) (by omega) (m_at ((auW_o (by omega)).trans ht) ((auW_o (by omega)).trans hn) (by omega) i 2) (fun _ => ?_)
  refine T_iastore (am_dec tX0_look_0 20 rfl) (show (auW w a (am_put (am_put q 1 7 i) 1 1 (f_at nb f i 1)))[a + 1]? = some (cP 0 9 (am_up (am_up (q 1) 7 i) 1 (f_at nb f i 1))) from auW_c hl 1 (by decide)) (by omega) (by omega) ?_
  refine am_wE (w2 := auW w a (am_put (am_put (am_put q 1 7 i) 1 1 (f_at nb f i 1)) 1 2 (f_at nb f i 2))) auW_p1 ?_
  exact T_return (am_dec tX0_look_0 21 rfl) rfl ⟨rfl, rfl⟩
def g_nextUp (q : am_F) (i best : Int) : Int := if q 5 i.toNat ≠ 0 ∧ (best = -1 ∨ q 2 best.toNat < q 2 i.toNat) then i else best
def f_nextUp (q : am_F) : Int := am_fold (g_nextUp q) 0 12 (-1)
theorem L_nextUp {S : am_S} {d u : Nat} {Q : AO → AH → Prop} {w : AH} {a : Nat} {q : am_F} (hl : a + 6 ≤ w.length) : ∀ (n : Nat) (i : Int) (best : Int), i + n = 12 → 0 ≤ i → -1 ≤ best ∧ best < 12 → (∀ (best' : Int), best' = am_fold (g_nextUp q) i n best → -1 ≤ best' ∧ best' < 12 → am_T S zX0_nextUp d u Q 47 [some (aR a), some (aI best'), some (aI 12)] [] ((auW w a q))) → am_T S zX0_nextUp d u Q 4 [some (aR a), some (aI best), some (aI i)] [] ((auW w a q)) := by
  intro n
  induction n with
  | zero =>
    intro i best hi9 h0i hinv k9
    refine T_iload_n (am_dec tX0_nextUp_0 4 rfl) rfl ?_
    refine T_bipush 12 (am_dec tX0_nextUp_0 5 rfl) rfl ⟨by decide, by decide⟩ ?_
    refine T_icmp_ge 47 (am_dec tX0_nextUp_0 6 rfl) rfl (fun h7 => ?_) (fun h7 => by exfalso; omega)
    have e9 : i = 12 := by omega
    rw [← e9] at k9
    exact k9 best rfl (by first | exact hinv | omega)
  | succ n ih =>
    intro i best hi9 h0i hinv k9
    refine T_iload_n (am_dec tX0_nextUp_0 4 rfl) rfl ?_
    refine T_bipush 12 (am_dec tX0_nextUp_0 5 rfl) rfl ⟨by decide, by decide⟩ ?_
    refine T_icmp_ge 47 (am_dec tX0_nextUp_0 6 rfl) rfl (fun h7 => by exfalso; omega) (fun h7 => ?_)
    refine T_aload_n (am_dec tX0_nextUp_0 7 rfl) rfl ?_
    refine T_getfield 0 4 (am_dec tX0_nextUp_0 8 rfl) flX0_24_0 (show (auW w a q)[a]? = some (cO 0 [aR (a + 1), aR (a + 2), aR (a + 3), aR (a + 4), aR (a + 5), aI (q 0 5)]) from auW_c hl 0 (by decide)) rfl ?_
    refine T_iload_n (am_dec tX0_nextUp_0 9 rfl) rfl ?_
    refine T_baload (am_dec tX0_nextUp_0 10 rfl) (show (auW w a q)[a + 5]? = some (cP 1 12 (q 5)) from auW_c hl 5 (by decide)) (by omega) (by omega) ?_
    refine T_if_eq 41 (am_dec tX0_nextUp_0 11 rfl) rfl (fun h16 => ?_) (fun h16 => ?_)
    · refine T_iinc (ls' := [some (aR a), some (aI best), some (aI (i + 1))]) (i + 1) (am_dec tX0_nextUp_0 26 rfl) rfl rfl ⟨by omega, by omega⟩ (by decide) rfl ?_
      refine T_goto 4 (am_dec tX0_nextUp_0 27 rfl) rfl ?_
      have e9 : (g_nextUp q) i best = best := (by unfold g_nextUp; first | (rw [if_pos (by omega)]; done) | (rw [if_neg (by omega)]; done))
      simp only [am_fold_s, e9] at k9
      exact ih (i + 1) best (by omega) (by omega) (by omega) k9
    · refine T_iload_n (am_dec tX0_nextUp_0 12 rfl) rfl ?_
      refine T_iconst (-1) (am_dec tX0_nextUp_0 13 rfl) rfl ⟨by decide, by decide⟩ ?_
      refine T_icmp_eq 39 (am_dec tX0_nextUp_0 14 rfl) rfl (fun h21 => ?_) (fun h21 => ?_)
      · refine T_iload_n (am_dec tX0_nextUp_0 24 rfl) rfl ?_
        refine T_istore_n (ls' := [some (aR a), some (aI i), some (aI i)]) (am_dec tX0_nextUp_0 25 rfl) (by decide) rfl ?_
        refine T_iinc (ls' := [some (aR a), some (aI i), some (aI (i + 1))]) (i + 1) (am_dec tX0_nextUp_0 26 rfl) rfl rfl ⟨by omega, by omega⟩ (by decide) rfl ?_
        refine T_goto 4 (am_dec tX0_nextUp_0 27 rfl) rfl ?_
        have e9 : (g_nextUp q) i best = i := (by unfold g_nextUp; first | (rw [if_pos (by omega)]; done) | (rw [if_neg (by omega)]; done))
        simp only [am_fold_s, e9] at k9
        exact ih (i + 1) i (by omega) (by omega) (by omega) k9
      · refine T_aload_n (am_dec tX0_nextUp_0 15 rfl) rfl ?_
        refine T_getfield 0 1 (am_dec tX0_nextUp_0 16 rfl) flX0_15_0 (show (auW w a q)[a]? = some (cO 0 [aR (a + 1), aR (a + 2), aR (a + 3), aR (a + 4), aR (a + 5), aI (q 0 5)]) from auW_c hl 0 (by decide)) rfl ?_
        refine T_iload_n (am_dec tX0_nextUp_0 17 rfl) rfl ?_
        refine T_iaload (am_dec tX0_nextUp_0 18 rfl) (show (auW w a q)[a + 2]? = some (cP 0 12 (q 2)) from auW_c hl 2 (by decide)) (by omega) (by omega) ?_
        refine T_aload_n (am_dec tX0_nextUp_0 19 rfl) rfl ?_
        refine T_getfield 0 1 (am_dec tX0_nextUp_0 20 rfl) flX0_15_0 (show (auW w a q)[a]? = some (cO 0 [aR (a + 1), aR (a + 2), aR (a + 3), aR (a + 4), aR (a + 5), aI (q 0 5)]) from auW_c hl 0 (by decide)) rfl ?_
        refine T_iload_n (am_dec tX0_nextUp_0 21 rfl) rfl ?_
        refine T_iaload (am_dec tX0_nextUp_0 22 rfl) (show (auW w a q)[a + 2]? = some (cP 0 12 (q 2)) from auW_c hl 2 (by decide)) (by omega) (by omega) ?_
        refine T_icmp_le 41 (am_dec tX0_nextUp_0 23 rfl) rfl (fun h36 => ?_) (fun h36 => ?_)
        · refine T_iinc (ls' := [some (aR a), some (aI best), some (aI (i + 1))]) (i + 1) (am_dec tX0_nextUp_0 26 rfl) rfl rfl ⟨by omega, by omega⟩ (by decide) rfl ?_
          refine T_goto 4 (am_dec tX0_nextUp_0 27 rfl) rfl ?_
          have e9 : (g_nextUp q) i best = best := (by unfold g_nextUp; first | (rw [if_pos (by omega)]; done) | (rw [if_neg (by omega)]; done))
          simp only [am_fold_s, e9] at k9
          exact ih (i + 1) best (by omega) (by omega) (by omega) k9
        · refine T_iload_n (am_dec tX0_nextUp_0 24 rfl) rfl ?_
          refine T_istore_n (ls' := [some (aR a), some (aI i), some (aI i)]) (am_dec tX0_nextUp_0 25 rfl) (by decide) rfl ?_
          refine T_iinc (ls' := [some (aR a), some (aI i), some (aI (i + 1))]) (i + 1) (am_dec tX0_nextUp_0 26 rfl) rfl rfl ⟨by omega, by omega⟩ (by decide) rfl ?_
          refine T_goto 4 (am_dec tX0_nextUp_0 27 rfl) rfl ?_
          have e9 : (g_nextUp q) i best = i := (by unfold g_nextUp; first | (rw [if_pos (by omega)]; done) | (rw [if_neg (by omega)]; done))
          simp only [am_fold_s, e9] at k9
          exact ih (i + 1) i (by omega) (by omega) (by omega) k9
theorem m_nextUp {S : am_S} {d u : Nat} {w : AH} {a : Nat} {q : am_F} (hl : a + 6 ≤ w.length) : am_Out S zX0_nextUp d u [aR a] (auW w a q) (.inl (some (aI (f_nextUp q)))) (auW w a q) := by
  refine am_body rfl (by decide +kernel) rfl (am_cats_cons rfl (am_cats_nil)) (Nat.le_of_ble_eq_true rfl) (?_ : am_T _ _ _ _ _ 0 [some (aR a), none, none] [] (auW w a q))
  refine T_iconst (-1) (am_dec tX0_nextUp_0 0 rfl) rfl ⟨by decide, by decide⟩ ?_
  refine T_istore_n (ls' := [some (aR a), some (aI (-1)), none]) (am_dec tX0_nextUp_0 1 rfl) (by decide) rfl ?_
  refine T_iconst 0 (am_dec tX0_nextUp_0 2 rfl) rfl ⟨by decide, by decide⟩ ?_
  refine T_istore_n (ls' := [some (aR a), some (aI (-1)), some (aI 0)]) (am_dec tX0_nextUp_0 3 rfl) (by decide) rfl ?_
  refine L_nextUp hl ((12 : Int) - 0).toNat 0 (-1) (by omega) (by omega) (by omega) (fun best4 hbest4 hv4 => ?_)
  simp only [show ((12 : Int) - 0).toNat = 12 from rfl] at hbest4
  refine T_iload_n (am_dec tX0_nextUp_0 28 rfl) rfl ?_
  exact T_ireturn (am_dec tX0_nextUp_0 29 rfl) rfl (am_outI (by rw [hbest4]; rfl))
def g_away (i : Int) (q : am_F) : am_F := am_put q 5 i.toNat 0
def f_away (q : am_F) : am_F := am_fold g_away 0 12 (am_row (am_row q 3 (am_fill 12 (q 3) 0)) 4 (am_fill 12 (q 4) 0))
theorem L_away {S : am_S} {d u : Nat} {Q : AO → AH → Prop} {w : AH} {a : Nat} (hl : a + 6 ≤ w.length) : ∀ (n : Nat) (i : Int) (q : am_F), i + n = 12 → 0 ≤ i → True → (∀ (q' : am_F), q' = am_fold (g_away) i n q → True → am_T S zX0_sendAllAway d u Q 37 [some (aR a), some (aI 12)] [] (auW w a q')) → am_T S zX0_sendAllAway d u Q 18 [some (aR a), some (aI i)] [] (auW w a q) := by
  intro n
  induction n with
  | zero =>
    intro i q hi9 h0i hinv k9
    refine T_iload_n (am_dec tX0_sendAllAway_0 10 rfl) rfl ?_
    refine T_bipush 12 (am_dec tX0_sendAllAway_0 11 rfl) rfl ⟨by decide, by decide⟩ ?_
    refine T_icmp_ge 37 (am_dec tX0_sendAllAway_0 12 rfl) rfl (fun h21 => ?_) (fun h21 => by exfalso; omega)
    have e9 : i = 12 := by omega
    rw [← e9] at k9
    exact k9 q rfl (by first | exact hinv | omega)
  | succ n ih =>
    intro i q hi9 h0i hinv k9
    refine T_iload_n (am_dec tX0_sendAllAway_0 10 rfl) rfl ?_
    refine T_bipush 12 (am_dec tX0_sendAllAway_0 11 rfl) rfl ⟨by decide, by decide⟩ ?_
    refine T_icmp_ge 37 (am_dec tX0_sendAllAway_0 12 rfl) rfl (fun h21 => by exfalso; omega) (fun h21 => ?_)
    refine T_aload_n (am_dec tX0_sendAllAway_0 13 rfl) rfl ?_
    refine T_getfield 0 4 (am_dec tX0_sendAllAway_0 14 rfl) flX0_24_0 (show (auW w a q)[a]? = some (cO 0 [aR (a + 1), aR (a + 2), aR (a + 3), aR (a + 4), aR (a + 5), aI (q 0 5)]) from auW_c hl 0 (by decide)) rfl ?_
    refine T_iload_n (am_dec tX0_sendAllAway_0 15 rfl) rfl ?_
    refine T_iconst 0 (am_dec tX0_sendAllAway_0 16 rfl) rfl ⟨by decide, by decide⟩ ?_
    refine T_bastore (am_dec tX0_sendAllAway_0 17 rfl) (show (auW w a q)[a + 5]? = some (cP 1 12 (q 5)) from auW_c hl 5 (by decide)) (by omega) (by omega) (Or.inl rfl) ?_
    refine am_wE (w2 := auW w a (am_put q 5 i.toNat 0)) auW_p5 ?_
    refine T_iinc (ls' := [some (aR a), some (aI (i + 1))]) (i + 1) (am_dec tX0_sendAllAway_0 18 rfl) rfl rfl ⟨by omega, by omega⟩ (by decide) rfl ?_
    refine T_goto 18 (am_dec tX0_sendAllAway_0 19 rfl) rfl ?_
    have e9 : (g_away) i q = (am_put q 5 i.toNat 0) := rfl
    simp only [am_fold_s, e9] at k9
    exact ih (i + 1) (am_put q 5 i.toNat 0) (by omega) (by omega) trivial k9
theorem m_away {S : am_S} {d u : Nat} {w : AH} {a : Nat} {q : am_F} (hl : a + 6 ≤ w.length) (hd : 1 ≤ d) : am_Out S zX0_sendAllAway d u [aR a] (auW w a q) (.inl none) (auW w a (f_away q)) := by
  refine am_body rfl (by decide +kernel) rfl (am_cats_cons rfl (am_cats_nil)) (Nat.le_of_ble_eq_true rfl) (?_ : am_T _ _ _ _ _ 0 [some (aR a), none] [] (auW w a q))
  refine T_aload_n (am_dec tX0_sendAllAway_0 0 rfl) rfl ?_
  refine T_getfield 0 2 (am_dec tX0_sendAllAway_0 1 rfl) flX0_18_0 (show (auW w a q)[a]? = some (cO 0 [aR (a + 1), aR (a + 2), aR (a + 3), aR (a + 4), aR (a + 5), aI (q 0 5)]) from auW_c hl 0 (by decide)) rfl ?_
  refine T_iconst 0 (am_dec tX0_sendAllAway_0 2 rfl) rfl ⟨by decide, by decide⟩ ?_
  refine T_callS (as := [aR (a + 3), aI 0]) rfl (am_dec tX0_sendAllAway_0 3 rfl) lkX0_28 rfl (Nat.le_of_ble_eq_true rfl) (by omega) (m_fill (show (auW w a q)[a + 3]? = some (cP 0 12 (q 3)) from auW_c hl 3 (by decide)) (by decide) 0 (show _ = auW w a (am_row q 3 (am_fill 12 (q 3) 0)) from auW_r3)) (fun _ => ?_)
  refine T_aload_n (am_dec tX0_sendAllAway_0 4 rfl) rfl ?_
  refine T_getfield 0 3 (am_dec tX0_sendAllAway_0 5 rfl) flX0_21_0 (show (auW w a (am_row q 3 (am_fill 12 (q 3) 0)))[a]? = some (cO 0 [aR (a + 1), aR (a + 2), aR (a + 3), aR (a + 4), aR (a + 5), aI (q 0 5)]) from auW_c hl 0 (by decide)) rfl ?_
  refine T_iconst 0 (am_dec tX0_sendAllAway_0 6 rfl) rfl ⟨by decide, by decide⟩ ?_
  refine T_callS (as := [aR (a + 4), aI 0]) rfl (am_dec tX0_sendAllAway_0 7 rfl) lkX0_28 rfl (Nat.le_of_ble_eq_true rfl) (by omega) (m_fill (show (auW w a (am_row q 3 (am_fill 12 (q 3) 0)))[a + 4]? = some (cP 0 12 (q 4)) from auW_c hl 4 (by decide)) (by decide) 0 (show _ = auW w a (am_row (am_row q 3 (am_fill 12 (q 3) 0)) 4 (am_fill 12 (q 4) 0)) from auW_r4)) (fun _ => ?_)
  refine T_iconst 0 (am_dec tX0_sendAllAway_0 8 rfl) rfl ⟨by decide, by decide⟩ ?_
  refine T_istore_n (ls' := [some (aR a), some (aI 0)]) (am_dec tX0_sendAllAway_0 9 rfl) (by decide) rfl ?_
  refine L_away hl ((12 : Int) - 0).toNat 0 (am_row (am_row q 3 (am_fill 12 (q 3) 0)) 4 (am_fill 12 (q 4) 0)) (by omega) (by omega) trivial (fun r18 hr18 hv18 => ?_)
  simp only [show ((12 : Int) - 0).toNat = 12 from rfl] at hr18
  exact T_return (am_dec tX0_sendAllAway_0 20 rfl) rfl ⟨rfl, by rw [hr18]; rfl⟩
def g_wanted (n : Int) (f : Nat → Int) (l p i x : Int) : Int := if f_at n f i 0 = l ∧ p ≤ f_at n f i 2 then am_w32 (x + f_at n f i 1) else x
def f_wanted (n : Int) (f : Nat → Int) (l p : Int) : Int := am_fold (g_wanted n f l p) 0 n.toNat 0
theorem L_wanted {S : am_S} {d u : Nat} {Q : AO → AH → Prop} {w : AH} {t : Nat} {most nb : Int} {f : Nat → Int} (ht : w[t]? = some (cO 9 [aI most, aR (t + 1), aI nb])) (hn : w[t + 1]? = some (cP 0 48 f)) (hm : 0 ≤ nb ∧ nb ≤ 12) (l p : Int) (hd : 1 ≤ d) : ∀ (n : Nat) (i : Int) (x : Int), i + n = nb → 0 ≤ i → True → (∀ (x' : Int), x' = am_fold (g_wanted nb f l p) i n x → True → am_T S zX0_wantedFor d u Q 52 [some (aR t), some (aI l), some (aI p), some (aI x'), some (aI nb)] [] (w)) → am_T S zX0_wantedFor d u Q 5 [some (aR t), some (aI l), some (aI p), some (aI x), some (aI i)] [] (w) := by
  intro n
  induction n with
  | zero =>
    intro i x hi9 h0i hinv k9
    refine T_iload (am_dec tX0_wantedFor_0 4 rfl) rfl ?_
    refine T_aload_n (am_dec tX0_wantedFor_0 5 rfl) rfl ?_
    refine T_getfield 9 2 (am_dec tX0_wantedFor_0 6 rfl) flX0_37_9 ht rfl ?_
    refine T_icmp_ge 52 (am_dec tX0_wantedFor_0 7 rfl) rfl (fun h11 => ?_) (fun h11 => by exfalso; omega)
    have e9 : i = nb := by omega
    rw [← e9] at k9
    exact k9 x rfl (by first | exact hinv | omega)
  | succ n ih =>
    intro i x hi9 h0i hinv k9
    refine T_iload (am_dec tX0_wantedFor_0 4 rfl) rfl ?_
    refine T_aload_n (am_dec tX0_wantedFor_0 5 rfl) rfl ?_
    refine T_getfield 9 2 (am_dec tX0_wantedFor_0 6 rfl) flX0_37_9 ht rfl ?_
    refine T_icmp_ge 52 (am_dec tX0_wantedFor_0 7 rfl) rfl (fun h11 => by exfalso; omega) (fun h11 => ?_)
    refine T_aload_n (am_dec tX0_wantedFor_0 8 rfl) rfl ?_
    refine T_iload (am_dec tX0_wantedFor_0 9 rfl) rfl ?_
    refine T_iconst 0 (am_dec tX0_wantedFor_0 10 rfl) rfl ⟨by decide, by decide⟩ ?_
    refine T_callV (as := [aI i, aI 0]) rfl (am_dec tX0_wantedFor_0 11 rfl) lkX0_43 ht rfl rfl (Nat.le_of_ble_eq_true rfl) (by omega) (m_at ht hn (by omega) i 0) (fun _ => ?_)
    refine T_iload_n (am_dec tX0_wantedFor_0 12 rfl) rfl ?_
    refine T_icmp_ne 46 (am_dec tX0_wantedFor_0 13 rfl) rfl (fun h22 => ?_) (fun h22 => ?_)
    · refine T_iinc (ls' := [some (aR t), some (aI l), some (aI p), some (aI x), some (aI (i + 1))]) (i + 1) (am_dec tX0_wantedFor_0 27 rfl) rfl rfl ⟨by omega, by omega⟩ (by decide) rfl ?_
      refine T_goto 5 (am_dec tX0_wantedFor_0 28 rfl) rfl ?_
      have e9 : (g_wanted nb f l p) i x = x := (by unfold g_wanted; first | (rw [if_pos (by omega)]; done) | (rw [if_neg (by omega)]; done))
      simp only [am_fold_s, e9] at k9
      exact ih (i + 1) x (by omega) (by omega) trivial k9
    · refine T_aload_n (am_dec tX0_wantedFor_0 14 rfl) rfl ?_
      refine T_iload (am_dec tX0_wantedFor_0 15 rfl) rfl ?_
      refine T_iconst 2 (am_dec tX0_wantedFor_0 16 rfl) rfl ⟨by decide, by decide⟩ ?_
      refine T_callV (as := [aI i, aI 2]) rfl (am_dec tX0_wantedFor_0 17 rfl) lkX0_43 ht rfl rfl (Nat.le_of_ble_eq_true rfl) (by omega) (m_at ht hn (by omega) i 2) (fun _ => ?_)
      refine T_iload_n (am_dec tX0_wantedFor_0 18 rfl) rfl ?_
      refine T_icmp_lt 46 (am_dec tX0_wantedFor_0 19 rfl) rfl (fun h33 => ?_) (fun h33 => ?_)
      · refine T_iinc (ls' := [some (aR t), some (aI l), some (aI p), some (aI x), some (aI (i + 1))]) (i + 1) (am_dec tX0_wantedFor_0 27 rfl) rfl rfl ⟨by omega, by omega⟩ (by decide) rfl ?_
        refine T_goto 5 (am_dec tX0_wantedFor_0 28 rfl) rfl ?_
        have e9 : (g_wanted nb f l p) i x = x := (by unfold g_wanted; first | (rw [if_pos (by omega)]; done) | (rw [if_neg (by omega)]; done))
        simp only [am_fold_s, e9] at k9
        exact ih (i + 1) x (by omega) (by omega) trivial k9
      · refine T_iload_n (am_dec tX0_wantedFor_0 20 rfl) rfl ?_
        refine T_aload_n (am_dec tX0_wantedFor_0 21 rfl) rfl ?_
        refine T_iload (am_dec tX0_wantedFor_0 22 rfl) rfl ?_
        refine T_iconst 1 (am_dec tX0_wantedFor_0 23 rfl) rfl ⟨by decide, by decide⟩ ?_
        refine T_callV (as := [aI i, aI 1]) rfl (am_dec tX0_wantedFor_0 24 rfl) lkX0_43 ht rfl rfl (Nat.le_of_ble_eq_true rfl) (by omega) (m_at ht hn (by omega) i 1) (fun _ => ?_)
        refine T_iaddW (am_w32 (x + f_at nb f i 1)) (am_dec tX0_wantedFor_0 25 rfl) (am_w32e _).symm (am_w32r _) ?_
        refine T_istore_n (ls' := [some (aR t), some (aI l), some (aI p), some (aI (am_w32 (x + f_at nb f i 1))), some (aI i)]) (am_dec tX0_wantedFor_0 26 rfl) (by decide) rfl ?_
        refine T_iinc (ls' := [some (aR t), some (aI l), some (aI p), some (aI (am_w32 (x + f_at nb f i 1))), some (aI (i + 1))]) (i + 1) (am_dec tX0_wantedFor_0 27 rfl) rfl rfl ⟨by omega, by omega⟩ (by decide) rfl ?_
        refine T_goto 5 (am_dec tX0_wantedFor_0 28 rfl) rfl ?_
        have e9 : (g_wanted nb f l p) i x = am_w32 (x + f_at nb f i 1) := (by unfold g_wanted; first | (rw [if_pos (by omega)]; done) | (rw [if_neg (by omega)]; done))
        simp only [am_fold_s, e9] at k9
        exact ih (i + 1) (am_w32 (x + f_at nb f i 1)) (by omega) (by omega) trivial k9
theorem m_wanted {S : am_S} {d u : Nat} {w : AH} {t : Nat} {most nb : Int} {f : Nat → Int} (ht : w[t]? = some (cO 9 [aI most, aR (t + 1), aI nb])) (hn : w[t + 1]? = some (cP 0 48 f)) (hm : 0 ≤ nb ∧ nb ≤ 12) (l p : Int) (hd : 1 ≤ d) : am_Out S zX0_wantedFor d u [aR t, aI l, aI p] w (.inl (some (aI (f_wanted nb f l p)))) w := by
  refine am_body rfl (by decide +kernel) rfl (am_cats_cons rfl ( am_cats_cons rfl ( am_cats_cons rfl (am_cats_nil)))) (Nat.le_of_ble_eq_true rfl) (?_ : am_T _ _ _ _ _ 0 [some (aR t), some (aI l), some (aI p), none, none] [] w)
  refine T_iconst 0 (am_dec tX0_wantedFor_0 0 rfl) rfl ⟨by decide, by decide⟩ ?_
  refine T_istore_n (ls' := [some (aR t), some (aI l), some (aI p), some (aI 0), none]) (am_dec tX0_wantedFor_0 1 rfl) (by decide) rfl ?_
  refine T_iconst 0 (am_dec tX0_wantedFor_0 2 rfl) rfl ⟨by decide, by decide⟩ ?_
  refine T_istore (ls' := [some (aR t), some (aI l), some (aI p), some (aI 0), some (aI 0)]) (am_dec tX0_wantedFor_0 3 rfl) (by decide) rfl ?_
  refine L_wanted ht hn hm l p hd (nb - 0).toNat 0 0 (by omega) (by omega) trivial (fun x5 hx5 hv5 => ?_)
  refine T_iload_n (am_dec tX0_wantedFor_0 29 rfl) rfl ?_
  exact T_ireturn (am_dec tX0_wantedFor_0 30 rfl) rfl (am_outI (by rw [hx5, Int.sub_zero]; rfl))
