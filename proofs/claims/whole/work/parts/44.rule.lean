/-! Rule -/
def ruC (b : Nat) (q : am_F) : Nat → AC
  | 0 => cO 6 [aI (q 0 0), aI (q 0 1), aR (b + 1), aR (b + 2), aR (b + 3), aR (b + 4)]
  | 1 => cP 0 200 (q 1)
  | 2 => cP 0 8 (q 2)
  | 3 => cP 0 8 (q 3)
  | _ => cP 0 64 (q 4)
def ruW (w : AH) (b : Nat) (q : am_F) : AH := am_ov w b 5 (ruC b q)
theorem ruW_c {w : AH} {b : Nat} {q : am_F} (hl : b + 5 ≤ w.length) (k : Nat) (hk : k < 5) : (ruW w b q)[b + k]? = some (ruC b q k) := am_ovi hl k hk
theorem ruW_o {w : AH} {b : Nat} {q : am_F} {j : Nat} (hj : j < b ∨ b + 5 ≤ j) : (ruW w b q)[j]? = w[j]? := am_ovo j hj
theorem ruW_self {w : AH} {b : Nat} {q : am_F} (h : ∀ k, k < 5 → w[b + k]? = some (ruC b q k)) : ruW w b q = w := am_ovself h
theorem ruW_W {w : AH} {b : Nat} {q q2 : am_F} : ruW (ruW w b q) b q2 = ruW w b q2 := am_ovov
theorem ruW_f0 {w : AH} {b : Nat} {q : am_F} {v : Int} : (ruW w b q).set b (cO 6 [aI v, aI (q 0 1), aR (b + 1), aR (b + 2), aR (b + 3), aR (b + 4)]) = ruW w b (am_put q 0 0 v) := am_ovset (b := b) 0 (by decide) (fun j hj => match j, hj with | 0, _ => rfl | 1, _ => rfl | 2, _ => rfl | 3, _ => rfl | 4, _ => rfl | n + 5, h => absurd h (by omega))
theorem ruW_f1 {w : AH} {b : Nat} {q : am_F} {v : Int} : (ruW w b q).set b (cO 6 [aI (q 0 0), aI v, aR (b + 1), aR (b + 2), aR (b + 3), aR (b + 4)]) = ruW w b (am_put q 0 1 v) := am_ovset (b := b) 0 (by decide) (fun j hj => match j, hj with | 0, _ => rfl | 1, _ => rfl | 2, _ => rfl | 3, _ => rfl | 4, _ => rfl | n + 5, h => absurd h (by omega))
theorem ruW_p1 {w : AH} {b : Nat} {q : am_F} {i : Nat} {v : Int} : (ruW w b q).set (b + 1) (cP 0 200 (am_up (q 1) i v)) = ruW w b (am_put q 1 i v) := am_ovset 1 (by decide) (fun j hj => match j, hj with | 0, _ => rfl | 1, _ => rfl | 2, _ => rfl | 3, _ => rfl | 4, _ => rfl | n + 5, h => absurd h (by omega))
theorem ruW_r1 {w : AH} {b : Nat} {q : am_F} {f : Nat → Int} : (ruW w b q).set (b + 1) (cP 0 200 f) = ruW w b (am_row q 1 f) := am_ovset 1 (by decide) (fun j hj => match j, hj with | 0, _ => rfl | 1, _ => rfl | 2, _ => rfl | 3, _ => rfl | 4, _ => rfl | n + 5, h => absurd h (by omega))
theorem ruW_p2 {w : AH} {b : Nat} {q : am_F} {i : Nat} {v : Int} : (ruW w b q).set (b + 2) (cP 0 8 (am_up (q 2) i v)) = ruW w b (am_put q 2 i v) := am_ovset 2 (by decide) (fun j hj => match j, hj with | 0, _ => rfl | 1, _ => rfl | 2, _ => rfl | 3, _ => rfl | 4, _ => rfl | n + 5, h => absurd h (by omega))
theorem ruW_r2 {w : AH} {b : Nat} {q : am_F} {f : Nat → Int} : (ruW w b q).set (b + 2) (cP 0 8 f) = ruW w b (am_row q 2 f) := am_ovset 2 (by decide) (fun j hj => match j, hj with | 0, _ => rfl | 1, _ => rfl | 2, _ => rfl | 3, _ => rfl | 4, _ => rfl | n + 5, h => absurd h (by omega))
theorem ruW_p3 {w : AH} {b : Nat} {q : am_F} {i : Nat} {v : Int} : (ruW w b q).set (b + 3) (cP 0 8 (am_up (q 3) i v)) = ruW w b (am_put q 3 i v) := am_ovset 3 (by decide) (fun j hj => match j, hj with | 0, _ => rfl | 1, _ => rfl | 2, _ => rfl | 3, _ => rfl | 4, _ => rfl | n + 5, h => absurd h (by omega))
theorem ruW_r3 {w : AH} {b : Nat} {q : am_F} {f : Nat → Int} : (ruW w b q).set (b + 3) (cP 0 8 f) = ruW w b (am_row q 3 f) := am_ovset 3 (by decide) (fun j hj => match j, hj with | 0, _ => rfl | 1, _ => rfl | 2, _ => rfl | 3, _ => rfl | 4, _ => rfl | n + 5, h => absurd h (by omega))
theorem ruW_p4 {w : AH} {b : Nat} {q : am_F} {i : Nat} {v : Int} : (ruW w b q).set (b + 4) (cP 0 64 (am_up (q 4) i v)) = ruW w b (am_put q 4 i v) := am_ovset 4 (by decide) (fun j hj => match j, hj with | 0, _ => rfl | 1, _ => rfl | 2, _ => rfl | 3, _ => rfl | 4, _ => rfl | n + 5, h => absurd h (by omega))
theorem ruW_r4 {w : AH} {b : Nat} {q : am_F} {f : Nat → Int} : (ruW w b q).set (b + 4) (cP 0 64 f) = ruW w b (am_row q 4 f) := am_ovset 4 (by decide) (fun j hj => match j, hj with | 0, _ => rfl | 1, _ => rfl | 2, _ => rfl | 3, _ => rfl | 4, _ => rfl | n + 5, h => absurd h (by omega))
theorem m_rreset {S : am_S} {d u : Nat} {w : AH} {a : Nat} {q : am_F} (hl : a + 5 ≤ w.length) : am_Out S zX7_reset d u [aR a] (ruW w a q) (.inl none) (ruW w a (am_put (am_put q 0 0 0) 0 1 0)) := by
  refine am_body rfl (by decide +kernel) rfl (am_cats_cons rfl (am_cats_nil)) (Nat.le_of_ble_eq_true rfl) (?_ : am_T _ _ _ _ _ 0 [some (aR a)] [] (ruW w a q))
  refine T_aload_n (am_dec tX7_reset_0 0 rfl) rfl ?_
  refine T_iconst 0 (am_dec tX7_reset_0 1 rfl) rfl ⟨by decide, by decide⟩ ?_
  refine T_putfield (fs' := [aI 0, aI (q 0 1), aR (a + 1), aR (a + 2), aR (a + 3), aR (a + 4)]) 6 0 (am_dec tX7_reset_0 2 rfl) flX7_24_6 rfl rfl rfl trivial (show (ruW w a q)[a]? = some (cO 6 [aI (q 0 0), aI (q 0 1), aR (a + 1), aR (a + 2), aR (a + 3), aR (a + 4)]) from ruW_c hl 0 (by decide)) (Nat.le_of_ble_eq_true rfl) rfl ?_
  refine am_wE (w2 := ruW w a (am_put q 0 0 0)) ruW_f0 ?_
  refine T_aload_n (am_dec tX7_reset_0 3 rfl) rfl ?_
  refine T_iconst 0 (am_dec tX7_reset_0 4 rfl) rfl ⟨by decide, by decide⟩ ?_
  refine T_putfield (fs' := [aI 0, aI 0, aR (a + 1), aR (a + 2), aR (a + 3), aR (a + 4)]) 6 1 (am_dec tX7_reset_0 5 rfl) flX7_28_6 rfl rfl rfl trivial (show (ruW w a (am_put q 0 0 0))[a]? = some (cO 6 [aI 0, aI (q 0 1), aR (a + 1), aR (a + 2), aR (a + 3), aR (a + 4)]) from ruW_c hl 0 (by decide)) (Nat.le_of_ble_eq_true rfl) rfl ?_
  refine am_wE (w2 := ruW w a (am_put (am_put q 0 0 0) 0 1 0)) ruW_f1 ?_
  exact T_return (am_dec tX7_reset_0 6 rfl) rfl ⟨rfl, rfl⟩
def f_rput (q : am_F) (v : Int) : am_F := if q 0 1 < 200 then am_put (am_put q 1 (q 0 1).toNat v) 0 1 (q 0 1 + 1) else q
theorem m_rput {S : am_S} {d u : Nat} {w : AH} {a : Nat} {q : am_F} (hl : a + 5 ≤ w.length) (v : Int) (hO : 0 ≤ q 0 1) : am_Out S zX7_put d u [aR a, aI v] (ruW w a q) (.inl none) (ruW w a (f_rput q v)) := by
  refine am_body rfl (by decide +kernel) rfl (am_cats_cons rfl ( am_cats_cons rfl (am_cats_nil))) (Nat.le_of_ble_eq_true rfl) (?_ : am_T _ _ _ _ _ 0 [some (aR a), some (aI v)] [] (ruW w a q))
  refine T_aload_n (am_dec tX7_put_0 0 rfl) rfl ?_
  refine T_getfield 6 1 (am_dec tX7_put_0 1 rfl) flX7_28_6 (show (ruW w a q)[a]? = some (cO 6 [aI (q 0 0), aI (q 0 1), aR (a + 1), aR (a + 2), aR (a + 3), aR (a + 4)]) from ruW_c hl 0 (by decide)) rfl ?_
  refine T_sipush 200 (am_dec tX7_put_0 2 rfl) rfl ⟨by decide, by decide⟩ ?_
  refine T_icmp_ge 30 (am_dec tX7_put_0 3 rfl) rfl (fun h7 => ?_) (fun h7 => ?_)
  · exact T_return (am_dec tX7_put_0 16 rfl) rfl ⟨rfl, by unfold f_rput; first | (rw [if_pos (by omega)]; done) | (rw [if_pos (by omega)]; rfl) | (rw [if_neg (by omega)]; done)⟩
  · refine T_aload_n (am_dec tX7_put_0 4 rfl) rfl ?_
    refine T_getfield 6 2 (am_dec tX7_put_0 5 rfl) flX7_11_6 (show (ruW w a q)[a]? = some (cO 6 [aI (q 0 0), aI (q 0 1), aR (a + 1), aR (a + 2), aR (a + 3), aR (a + 4)]) from ruW_c hl 0 (by decide)) rfl ?_
    refine T_aload_n (am_dec tX7_put_0 6 rfl) rfl ?_
    refine T_getfield 6 1 (am_dec tX7_put_0 7 rfl) flX7_28_6 (show (ruW w a q)[a]? = some (cO 6 [aI (q 0 0), aI (q 0 1), aR (a + 1), aR (a + 2), aR (a + 3), aR (a + 4)]) from ruW_c hl 0 (by decide)) rfl ?_
    refine T_iload_n (am_dec tX7_put_0 8 rfl) rfl ?_
    refine T_iastore (am_dec tX7_put_0 9 rfl) (show (ruW w a q)[a + 1]? = some (cP 0 200 (q 1)) from ruW_c hl 1 (by decide)) (by omega) (by omega) ?_
    refine am_wE (w2 := ruW w a (am_put q 1 ((q 0 1).toNat) v)) ruW_p1 ?_
    refine T_aload_n (am_dec tX7_put_0 10 rfl) rfl ?_
    refine T_dup (am_dec tX7_put_0 11 rfl) rfl ?_
    refine T_getfield 6 1 (am_dec tX7_put_0 12 rfl) flX7_28_6 (show (ruW w a (am_put q 1 ((q 0 1).toNat) v))[a]? = some (cO 6 [aI (q 0 0), aI (q 0 1), aR (a + 1), aR (a + 2), aR (a + 3), aR (a + 4)]) from ruW_c hl 0 (by decide)) rfl ?_
    refine T_iconst 1 (am_dec tX7_put_0 13 rfl) rfl ⟨by decide, by decide⟩ ?_
    refine T_iadd ((q 0 1) + 1) (am_dec tX7_put_0 14 rfl) rfl ⟨by omega, by omega⟩ ?_
    refine T_putfield (fs' := [aI (q 0 0), aI ((q 0 1) + 1), aR (a + 1), aR (a + 2), aR (a + 3), aR (a + 4)]) 6 1 (am_dec tX7_put_0 15 rfl) flX7_28_6 rfl rfl rfl trivial (show (ruW w a (am_put q 1 ((q 0 1).toNat) v))[a]? = some (cO 6 [aI (q 0 0), aI (q 0 1), aR (a + 1), aR (a + 2), aR (a + 3), aR (a + 4)]) from ruW_c hl 0 (by decide)) (Nat.le_of_ble_eq_true rfl) rfl ?_
    refine am_wE (w2 := ruW w a (am_put (am_put q 1 ((q 0 1).toNat) v) 0 1 ((q 0 1) + 1))) ruW_f1 ?_
    exact T_return (am_dec tX7_put_0 16 rfl) rfl ⟨rfl, by unfold f_rput; first | (rw [if_pos (by omega)]; done) | (rw [if_pos (by omega)]; rfl) | (rw [if_neg (by omega)]; done)⟩
def f_endPart (q : am_F) (v : Int) : am_F := if q 0 0 < 8 then am_put (am_put (am_put q 2 (q 0 0).toNat v) 3 (q 0 0).toNat (q 0 1)) 0 0 (q 0 0 + 1) else q
theorem m_endPart {S : am_S} {d u : Nat} {w : AH} {a : Nat} {q : am_F} (hl : a + 5 ≤ w.length) (v : Int) (hO : 0 ≤ q 0 0) : am_Out S zX7_endPart d u [aR a, aI v] (ruW w a q) (.inl none) (ruW w a (f_endPart q v)) := by
  refine am_body rfl (by decide +kernel) rfl (am_cats_cons rfl ( am_cats_cons rfl (am_cats_nil))) (Nat.le_of_ble_eq_true rfl) (?_ : am_T _ _ _ _ _ 0 [some (aR a), some (aI v)] [] (ruW w a q))
  refine T_aload_n (am_dec tX7_endPart_0 0 rfl) rfl ?_
  refine T_getfield 6 0 (am_dec tX7_endPart_0 1 rfl) flX7_24_6 (show (ruW w a q)[a]? = some (cO 6 [aI (q 0 0), aI (q 0 1), aR (a + 1), aR (a + 2), aR (a + 3), aR (a + 4)]) from ruW_c hl 0 (by decide)) rfl ?_
  refine T_bipush 8 (am_dec tX7_endPart_0 2 rfl) rfl ⟨by decide, by decide⟩ ?_
  refine T_icmp_ge 42 (am_dec tX7_endPart_0 3 rfl) rfl (fun h6 => ?_) (fun h6 => ?_)
  · exact T_return (am_dec tX7_endPart_0 23 rfl) rfl ⟨rfl, by unfold f_endPart; first | (rw [if_pos (by omega)]; done) | (rw [if_pos (by omega)]; rfl) | (rw [if_neg (by omega)]; done)⟩
  · refine T_aload_n (am_dec tX7_endPart_0 4 rfl) rfl ?_
    refine T_getfield 6 3 (am_dec tX7_endPart_0 5 rfl) flX7_15_6 (show (ruW w a q)[a]? = some (cO 6 [aI (q 0 0), aI (q 0 1), aR (a + 1), aR (a + 2), aR (a + 3), aR (a + 4)]) from ruW_c hl 0 (by decide)) rfl ?_
    refine T_aload_n (am_dec tX7_endPart_0 6 rfl) rfl ?_
    refine T_getfield 6 0 (am_dec tX7_endPart_0 7 rfl) flX7_24_6 (show (ruW w a q)[a]? = some (cO 6 [aI (q 0 0), aI (q 0 1), aR (a + 1), aR (a + 2), aR (a + 3), aR (a + 4)]) from ruW_c hl 0 (by decide)) rfl ?_
    refine T_iload_n (am_dec tX7_endPart_0 8 rfl) rfl ?_
    refine T_iastore (am_dec tX7_endPart_0 9 rfl) (show (ruW w a q)[a + 2]? = some (cP 0 8 (q 2)) from ruW_c hl 2 (by decide)) (by omega) (by omega) ?_
    refine am_wE (w2 := ruW w a (am_put q 2 ((q 0 0).toNat) v)) ruW_p2 ?_
    refine T_aload_n (am_dec tX7_endPart_0 10 rfl) rfl ?_
    refine T_getfield 6 4 (am_dec tX7_endPart_0 11 rfl) flX7_18_6 (show (ruW w a (am_put q 2 ((q 0 0).toNat) v))[a]? = some (cO 6 [aI (q 0 0), aI (q 0 1), aR (a + 1), aR (a + 2), aR (a + 3), aR (a + 4)]) from ruW_c hl 0 (by decide)) rfl ?_
    refine T_aload_n (am_dec tX7_endPart_0 12 rfl) rfl ?_
    refine T_getfield 6 0 (am_dec tX7_endPart_0 13 rfl) flX7_24_6 (show (ruW w a (am_put q 2 ((q 0 0).toNat) v))[a]? = some (cO 6 [aI (q 0 0), aI (q 0 1), aR (a + 1), aR (a + 2), aR (a + 3), aR (a + 4)]) from ruW_c hl 0 (by decide)) rfl ?_
    refine T_aload_n (am_dec tX7_endPart_0 14 rfl) rfl ?_
    refine T_getfield 6 1 (am_dec tX7_endPart_0 15 rfl) flX7_28_6 (show (ruW w a (am_put q 2 ((q 0 0).toNat) v))[a]? = some (cO 6 [aI (q 0 0), aI (q 0 1), aR (a + 1), aR (a + 2), aR (a + 3), aR (a + 4)]) from ruW_c hl 0 (by decide)) rfl ?_
    refine T_iastore (am_dec tX7_endPart_0 16 rfl) (show (ruW w a (am_put q 2 ((q 0 0).toNat) v))[a + 3]? = some (cP 0 8 (q 3)) from ruW_c hl 3 (by decide)) (by omega) (by omega) ?_
    refine am_wE (w2 := ruW w a (am_put (am_put q 2 ((q 0 0).toNat) v) 3 ((q 0 0).toNat) (q 0 1))) ruW_p3 ?_
    refine T_aload_n (am_dec tX7_endPart_0 17 rfl) rfl ?_
    refine T_dup (am_dec tX7_endPart_0 18 rfl) rfl ?_
    refine T_getfield 6 0 (am_dec tX7_endPart_0 19 rfl) flX7_24_6 (show (ruW w a (am_put (am_put q 2 ((q 0 0).toNat) v) 3 ((q 0 0).toNat) (q 0 1)))[a]? = some (cO 6 [aI (q 0 0), aI (q 0 1), aR (a + 1), aR (a + 2), aR (a + 3), aR (a + 4)]) from ruW_c hl 0 (by decide)) rfl ?_
    refine T_iconst 1 (am_dec tX7_endPart_0 20 rfl) rfl ⟨by decide, by decide⟩ ?_
    refine T_iadd ((q 0 0) + 1) (am_dec tX7_endPart_0 21 rfl) rfl ⟨by omega, by omega⟩ ?_
    refine T_putfield (fs' := [aI ((q 0 0) + 1), aI (q 0 1), aR (a + 1), aR (a + 2), aR (a + 3), aR (a + 4)]) 6 0 (am_dec tX7_endPart_0 22 rfl) flX7_24_6 rfl rfl rfl trivial (show (ruW w a (am_put (am_put q 2 ((q 0 0).toNat) v) 3 ((q 0 0).toNat) (q 0 1)))[a]? = some (cO 6 [aI (q 0 0), aI (q 0 1), aR (a + 1), aR (a + 2), aR (a + 3), aR (a + 4)]) from ruW_c hl 0 (by decide)) (Nat.le_of_ble_eq_true rfl) rfl ?_
    refine am_wE (w2 := ruW w a (am_put (am_put (am_put q 2 ((q 0 0).toNat) v) 3 ((q 0 0).toNat) (q 0 1)) 0 0 ((q 0 0) + 1))) ruW_f0 ?_
    exact T_return (am_dec tX7_endPart_0 23 rfl) rfl ⟨rfl, by unfold f_endPart; first | (rw [if_pos (by omega)]; done) | (rw [if_pos (by omega)]; rfl) | (rw [if_neg (by omega)]; done)⟩
def f_top (q : am_F) (i : Int) : Int := if 1 ≤ i ∧ i ≤ 64 then q 4 (i - 1).toNat else 0
theorem m_top {S : am_S} {d u : Nat} {w : AH} {a : Nat} {q : am_F} (hl : a + 5 ≤ w.length) (i : Int) : am_Out S zX7_top d u [aR a, aI i] (ruW w a q) (.inl (some (aI (f_top q i)))) (ruW w a q) := by
  refine am_body rfl (by decide +kernel) rfl (am_cats_cons rfl ( am_cats_cons rfl (am_cats_nil))) (Nat.le_of_ble_eq_true rfl) (?_ : am_T _ _ _ _ _ 0 [some (aR a), some (aI i)] [] (ruW w a q))
  refine T_iload_n (am_dec tX7_top_0 0 rfl) rfl ?_
  refine T_iconst 1 (am_dec tX7_top_0 1 rfl) rfl ⟨by decide, by decide⟩ ?_
  refine T_icmp_lt 22 (am_dec tX7_top_0 2 rfl) rfl (fun h2 => ?_) (fun h2 => ?_)
  · refine T_iconst 0 (am_dec tX7_top_0 13 rfl) rfl ⟨by decide, by decide⟩ ?_
    exact T_ireturn (am_dec tX7_top_0 14 rfl) rfl (am_outI (by unfold f_top; first | (rw [if_pos (by omega)]; done) | (rw [if_neg (by omega)]; done)))
  · refine T_iload_n (am_dec tX7_top_0 3 rfl) rfl ?_
    refine T_bipush 64 (am_dec tX7_top_0 4 rfl) rfl ⟨by decide, by decide⟩ ?_
    refine T_icmp_gt 22 (am_dec tX7_top_0 5 rfl) rfl (fun h8 => ?_) (fun h8 => ?_)
    · refine T_iconst 0 (am_dec tX7_top_0 13 rfl) rfl ⟨by decide, by decide⟩ ?_
      exact T_ireturn (am_dec tX7_top_0 14 rfl) rfl (am_outI (by unfold f_top; first | (rw [if_pos (by omega)]; done) | (rw [if_neg (by omega)]; done)))
    · refine T_aload_n (am_dec tX7_top_0 6 rfl) rfl ?_
      refine T_getfield 6 5 (am_dec tX7_top_0 7 rfl) flX7_21_6 (show (ruW w a q)[a]? = some (cO 6 [aI (q 0 0), aI (q 0 1), aR (a + 1), aR (a + 2), aR (a + 3), aR (a + 4)]) from ruW_c hl 0 (by decide)) rfl ?_
      refine T_iload_n (am_dec tX7_top_0 8 rfl) rfl ?_
      refine T_iconst 1 (am_dec tX7_top_0 9 rfl) rfl ⟨by decide, by decide⟩ ?_
      refine T_isub (i - 1) (am_dec tX7_top_0 10 rfl) rfl ⟨by omega, by omega⟩ ?_
      refine T_iaload (am_dec tX7_top_0 11 rfl) (show (ruW w a q)[a + 4]? = some (cP 0 64 (q 4)) from ruW_c hl 4 (by decide)) (by omega) (by omega) ?_
      refine T_goto 23 (am_dec tX7_top_0 12 rfl) rfl ?_
      exact T_ireturn (am_dec tX7_top_0 14 rfl) rfl (am_outI (by unfold f_top; first | (rw [if_pos (by omega)]; done) | (rw [if_neg (by omega)]; done)))
def f_push (q : am_F) (i v : Int) : am_F := if 0 ≤ i ∧ i < 64 then am_put q 4 i.toNat v else q
theorem m_push {S : am_S} {d u : Nat} {w : AH} {a : Nat} {q : am_F} (hl : a + 5 ≤ w.length) (i v : Int) : am_Out S zX7_push d u [aR a, aI i, aI v] (ruW w a q) (.inl none) (ruW w a (f_push q i v)) := by
  refine am_body rfl (by decide +kernel) rfl (am_cats_cons rfl ( am_cats_cons rfl ( am_cats_cons rfl (am_cats_nil)))) (Nat.le_of_ble_eq_true rfl) (?_ : am_T _ _ _ _ _ 0 [some (aR a), some (aI i), some (aI v)] [] (ruW w a q))
  refine T_iload_n (am_dec tX7_push_0 0 rfl) rfl ?_
  refine T_if_lt 17 (am_dec tX7_push_0 1 rfl) rfl (fun h1 => ?_) (fun h1 => ?_)
  · exact T_return (am_dec tX7_push_0 10 rfl) rfl ⟨rfl, by unfold f_push; first | (rw [if_pos (by omega)]; done) | (rw [if_pos (by omega)]; rfl) | (rw [if_neg (by omega)]; done)⟩
  · refine T_iload_n (am_dec tX7_push_0 2 rfl) rfl ?_
    refine T_bipush 64 (am_dec tX7_push_0 3 rfl) rfl ⟨by decide, by decide⟩ ?_
    refine T_icmp_ge 17 (am_dec tX7_push_0 4 rfl) rfl (fun h7 => ?_) (fun h7 => ?_)
    · exact T_return (am_dec tX7_push_0 10 rfl) rfl ⟨rfl, by unfold f_push; first | (rw [if_pos (by omega)]; done) | (rw [if_pos (by omega)]; rfl) | (rw [if_neg (by omega)]; done)⟩
    · refine T_aload_n (am_dec tX7_push_0 5 rfl) rfl ?_
      refine T_getfield 6 5 (am_dec tX7_push_0 6 rfl) flX7_21_6 (show (ruW w a q)[a]? = some (cO 6 [aI (q 0 0), aI (q 0 1), aR (a + 1), aR (a + 2), aR (a + 3), aR (a + 4)]) from ruW_c hl 0 (by decide)) rfl ?_
      refine T_iload_n (am_dec tX7_push_0 7 rfl) rfl ?_
      refine T_iload_n (am_dec tX7_push_0 8 rfl) rfl ?_
      refine T_iastore (am_dec tX7_push_0 9 rfl) (show (ruW w a q)[a + 4]? = some (cP 0 64 (q 4)) from ruW_c hl 4 (by decide)) (by omega) (by omega) ?_
      refine am_wE (w2 := ruW w a (am_put q 4 i.toNat v)) ruW_p4 ?_
      exact T_return (am_dec tX7_push_0 10 rfl) rfl ⟨rfl, by unfold f_push; first | (rw [if_pos (by omega)]; done) | (rw [if_pos (by omega)]; rfl) | (rw [if_neg (by omega)]; done)⟩
def f_factOf (n : Nat) (f : Nat → Int) (i : Int) : Int := if 0 ≤ i ∧ i < n then f i.toNat else 0
theorem m_factOf {S : am_S} {d u : Nat} {w : AH} {a n : Nat} {f : Nat → Int} (hf : w[a]? = some (cP 0 n f)) (hn : n < 1000) (i : Int) : am_Out S zX7_factOf d u [aR a, aI i] w (.inl (some (aI (f_factOf n f i)))) w := by
  refine am_body rfl (by decide +kernel) rfl (am_cats_cons rfl ( am_cats_cons rfl (am_cats_nil))) (Nat.le_of_ble_eq_true rfl) (?_ : am_T _ _ _ _ _ 0 [some (aR a), some (aI i)] [] w)
  refine T_iload_n (am_dec tX7_factOf_0 0 rfl) rfl ?_
  refine T_if_lt 16 (am_dec tX7_factOf_0 1 rfl) rfl (fun h1 => ?_) (fun h1 => ?_)
  · refine T_iconst 0 (am_dec tX7_factOf_0 10 rfl) rfl ⟨by decide, by decide⟩ ?_
    exact T_ireturn (am_dec tX7_factOf_0 11 rfl) rfl (am_outI (by unfold f_factOf; first | (rw [if_pos (by omega)]; done) | (rw [if_neg (by omega)]; done)))
  · refine T_iload_n (am_dec tX7_factOf_0 2 rfl) rfl ?_
    refine T_aload_n (am_dec tX7_factOf_0 3 rfl) rfl ?_
    refine T_alenP (am_dec tX7_factOf_0 4 rfl) (by decide) hf (by omega) ?_
    refine T_icmp_ge 16 (am_dec tX7_factOf_0 5 rfl) rfl (fun h7 => ?_) (fun h7 => ?_)
    · refine T_iconst 0 (am_dec tX7_factOf_0 10 rfl) rfl ⟨by decide, by decide⟩ ?_
      exact T_ireturn (am_dec tX7_factOf_0 11 rfl) rfl (am_outI (by unfold f_factOf; first | (rw [if_pos (by omega)]; done) | (rw [if_neg (by omega)]; done)))
    · refine T_aload_n (am_dec tX7_factOf_0 6 rfl) rfl ?_
      refine T_iload_n (am_dec tX7_factOf_0 7 rfl) rfl ?_
      refine T_iaload (am_dec tX7_factOf_0 8 rfl) hf (by omega) (by omega) ?_
      refine T_goto 17 (am_dec tX7_factOf_0 9 rfl) rfl ?_
      exact T_ireturn (am_dec tX7_factOf_0 11 rfl) rfl (am_outI (by unfold f_factOf; first | (rw [if_pos (by omega)]; done) | (rw [if_neg (by omega)]; done)))
