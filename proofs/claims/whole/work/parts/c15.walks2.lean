/-! THE LAW: the walks, on -/
theorem wk_yards {S : am_S} {d u : Nat} {Q : AO → AH → Prop} {W W1 W2 W3 : AH} {i code v kv t : Int} {fs fs2 fs3 : List AV} {f f3 : Nat → Int} (hS : LawS S) (hi : 0 ≤ i ∧ i + 5 < S.1) (hd : 50 ≤ d) (hu : 1 ≤ u) (h0 : W[0]? = some (cO 10 fs)) (hf : W1[844]? = some (cP 2 1 f)) (hM : am_Out S zX11_yards 40 1 [aR 0, aI (S.2 (i + 1).toNat), aI (S.2 (i + 2).toNat)] W (am_oc code v) W1) (hc : code = 0 ∨ code = 2 ∨ code = 3) (hW2 : W2 = if code = 0 then W1.set 844 (cP 2 1 (am_up f 0 v)) else W1) (h109 : W2[109]? = some (cO 11 fs2)) (hK : am_Out S zX12_yards 40 0 [aR 109, aI (S.2 (i + 1).toNat), aI (S.2 (i + 2).toNat)] W2 (.inl (some (aI kv))) W3) (h109b : W3[109]? = some (cO 11 fs3)) (hT : am_Out S zX12_thrown 40 0 [aR 109] W3 (.inl (some (aI t))) W3) (ht : t = (if code = 0 then 0 else if code = 2 then 1 else 2)) (hf3 : W3[844]? = some (cP 2 1 f3)) (hv : code = 0 → f3 (Int.toNat 0) = v) (hC : code = 0 → v = kv) (kk : am_T S zL_law d (u - 1) Q 3820 (LL i none none) [] W3) : am_T S zL_law d u Q 1533 (LL i none none) [] W := by
  have fin : am_T S zL_law d (u - 1) Q 1598 (LL i (some (aI (if code = 0 then 0 else if code = 2 then 1 else 2))) (some (aI kv))) [] W3 := T_goto 3820 (am_dec tL_law_23 6 rfl) rfl (T_weak LL_w kk)
  refine T_aload_n (am_dec tL_law_22 2 rfl) rfl ?_
  refine LA_arg (k := 1) (am_dec tL_law_22 3 rfl) (am_dec tL_law_22 4 rfl) (am_dec tL_law_22 5 rfl) (am_dec tL_law_22 6 rfl) (am_dec tL_law_22 7 rfl) hS hi ⟨by decide, by decide⟩ (?_ : am_T _ _ _ _ _ 1540 _ _ _)
  refine LA_arg (k := 2) (am_dec tL_law_22 8 rfl) (am_dec tL_law_22 9 rfl) (am_dec tL_law_22 10 rfl) (am_dec tL_law_22 11 rfl) (am_dec tL_law_22 12 rfl) hS hi ⟨by decide, by decide⟩ (?_ : am_T _ _ _ _ _ 1546 _ _ _)
  refine T_aload_n (am_dec tL_law_22 13 rfl) rfl ?_
  refine T_callW (d' := 41) (u' := 1) (as := [aR 0, aI (S.2 (i + 1).toNat), aI (S.2 (i + 2).toNat), aR 844]) rfl (am_dec tL_law_22 14 rfl) lkL_225 rfl (Nat.le_of_ble_eq_true rfl) (by omega) hu (am_OutWE (wr_yards (d := 40) (W1 := W1) (f := f) _ _ h0 hf hM hc) hW2.symm) ?_
  refine T_istore (ls' := LL i (some (aI (if code = 0 then 0 else if code = 2 then 1 else 2))) none) (am_dec tL_law_22 15 rfl) (by decide) rfl ?_
  refine T_aload_n (am_dec tL_law_22 16 rfl) rfl ?_
  refine LA_arg (k := 1) (am_dec tL_law_22 17 rfl) (am_dec tL_law_22 18 rfl) (am_dec tL_law_22 19 rfl) (am_dec tL_law_22 20 rfl) (am_dec tL_law_22 21 rfl) hS hi ⟨by decide, by decide⟩ (?_ : am_T _ _ _ _ _ 1559 _ _ _)
  refine LA_arg (k := 2) (am_dec tL_law_22 22 rfl) (am_dec tL_law_22 23 rfl) (am_dec tL_law_22 24 rfl) (am_dec tL_law_22 25 rfl) (am_dec tL_law_22 26 rfl) hS hi ⟨by decide, by decide⟩ (?_ : am_T _ _ _ _ _ 1565 _ _ _)
  refine T_callV (d' := 40) (as := [aI (S.2 (i + 1).toNat), aI (S.2 (i + 2).toNat)]) rfl (am_dec tL_law_22 27 rfl) lkL_227 h109 rfl rfl (Nat.le_of_ble_eq_true rfl) (by omega) hK (fun _ => ?_)
  refine T_istore (ls' := LL i (some (aI (if code = 0 then 0 else if code = 2 then 1 else 2))) (some (aI kv))) (am_dec tL_law_22 28 rfl) (by decide) rfl ?_
  refine T_aload_n (am_dec tL_law_22 29 rfl) rfl ?_
  refine T_callV (d' := 40) (as := []) rfl (am_dec tL_law_22 30 rfl) lkL_168 h109b rfl rfl (Nat.le_of_ble_eq_true rfl) (by omega) hT (fun _ => ?_)
  refine T_iload (am_dec tL_law_22 31 rfl) rfl ?_
  refine T_icmp_eq 1581 (am_dec tL_law_22 32 rfl) rfl (fun _ => ?_) (fun h => absurd ht h)
  refine T_iload (am_dec tL_law_22 35 rfl) rfl ?_
  refine T_if_ne 1598 (am_dec tL_law_22 36 rfl) rfl (fun _ => fin) (fun g => ?_)
  have e0 : code = 0 := by
    by_cases e : code = 0
    · exact e
    · rw [if_neg e] at g
      split at g <;> omega
  have e1 : f3 (Int.toNat 0) = kv := (hv e0).trans (hC e0)
  refine T_aload_n (am_dec tL_law_22 37 rfl) rfl ?_
  refine T_iconst 0 (am_dec tL_law_22 38 rfl) rfl ⟨by decide, by decide⟩ ?_
  refine T_laload (n := 1) (f := f3) (am_dec tL_law_22 39 rfl) hf3 (by decide) (by decide) ?_
  refine T_iload (am_dec tL_law_23 0 rfl) rfl ?_
  refine T_i2l (am_dec tL_law_23 1 rfl) ?_
  refine T_lcmp (am_dec tL_law_23 2 rfl) ?_
  exact T_if_eq 1598 (am_dec tL_law_23 3 rfl) rfl (fun _ => fin) (fun h => absurd (by rw [e1, if_neg (Int.lt_irrefl _), if_pos rfl]) h)
theorem wk_leaks {S : am_S} {d u : Nat} {Q : AO → AH → Prop} {W W1 W2 W3 : AH} {i code v kv t : Int} {fs fs2 fs3 : List AV} {f f3 : Nat → Int} (hS : LawS S) (hi : 0 ≤ i ∧ i + 5 < S.1) (hd : 50 ≤ d) (hu : 1 ≤ u) (h0 : W[0]? = some (cO 10 fs)) (hf : W1[844]? = some (cP 2 1 f)) (hM : am_Out S zX11_leaks 40 1 [aR 0, aI (S.2 (i + 1).toNat), aI (S.2 (i + 2).toNat), aI (S.2 (i + 3).toNat)] W (am_oc code v) W1) (hc : code = 0 ∨ code = 2 ∨ code = 3) (hW2 : W2 = if code = 0 then W1.set 844 (cP 2 1 (am_up f 0 v)) else W1) (h109 : W2[109]? = some (cO 11 fs2)) (hK : am_Out S zX12_leaks 40 0 [aR 109, aI (S.2 (i + 1).toNat), aI (S.2 (i + 2).toNat), aI (S.2 (i + 3).toNat)] W2 (.inl (some (aI kv))) W3) (h109b : W3[109]? = some (cO 11 fs3)) (hT : am_Out S zX12_thrown 40 0 [aR 109] W3 (.inl (some (aI t))) W3) (ht : t = (if code = 0 then 0 else if code = 2 then 1 else 2)) (hf3 : W3[844]? = some (cP 2 1 f3)) (hv : code = 0 → f3 (Int.toNat 0) = v) (hC : code = 0 → v = kv) (kk : am_T S zL_law d (u - 1) Q 3820 (LL i none none) [] W3) : am_T S zL_law d u Q 1601 (LL i none none) [] W := by
  have fin : am_T S zL_law d (u - 1) Q 1678 (LL i (some (aI (if code = 0 then 0 else if code = 2 then 1 else 2))) (some (aI kv))) [] W3 := T_goto 3820 (am_dec tL_law_24 21 rfl) rfl (T_weak LL_w kk)
  refine T_aload_n (am_dec tL_law_23 7 rfl) rfl ?_
  refine LA_arg (k := 1) (am_dec tL_law_23 8 rfl) (am_dec tL_law_23 9 rfl) (am_dec tL_law_23 10 rfl) (am_dec tL_law_23 11 rfl) (am_dec tL_law_23 12 rfl) hS hi ⟨by decide, by decide⟩ (?_ : am_T _ _ _ _ _ 1608 _ _ _)
  refine LA_arg (k := 2) (am_dec tL_law_23 13 rfl) (am_dec tL_law_23 14 rfl) (am_dec tL_law_23 15 rfl) (am_dec tL_law_23 16 rfl) (am_dec tL_law_23 17 rfl) hS hi ⟨by decide, by decide⟩ (?_ : am_T _ _ _ _ _ 1614 _ _ _)
  refine LA_arg (k := 3) (am_dec tL_law_23 18 rfl) (am_dec tL_law_23 19 rfl) (am_dec tL_law_23 20 rfl) (am_dec tL_law_23 21 rfl) (am_dec tL_law_23 22 rfl) hS hi ⟨by decide, by decide⟩ (?_ : am_T _ _ _ _ _ 1620 _ _ _)
  refine T_aload_n (am_dec tL_law_23 23 rfl) rfl ?_
  refine T_callW (d' := 41) (u' := 1) (as := [aR 0, aI (S.2 (i + 1).toNat), aI (S.2 (i + 2).toNat), aI (S.2 (i + 3).toNat), aR 844]) rfl (am_dec tL_law_23 24 rfl) lkL_228 rfl (Nat.le_of_ble_eq_true rfl) (by omega) hu (am_OutWE (wr_leaks (d := 40) (W1 := W1) (f := f) _ _ _ h0 hf hM hc) hW2.symm) ?_
  refine T_istore (ls' := LL i (some (aI (if code = 0 then 0 else if code = 2 then 1 else 2))) none) (am_dec tL_law_23 25 rfl) (by decide) rfl ?_
  refine T_aload_n (am_dec tL_law_23 26 rfl) rfl ?_
  refine LA_arg (k := 1) (am_dec tL_law_23 27 rfl) (am_dec tL_law_23 28 rfl) (am_dec tL_law_23 29 rfl) (am_dec tL_law_23 30 rfl) (am_dec tL_law_23 31 rfl) hS hi ⟨by decide, by decide⟩ (?_ : am_T _ _ _ _ _ 1633 _ _ _)
  refine LA_arg (k := 2) (am_dec tL_law_23 32 rfl) (am_dec tL_law_23 33 rfl) (am_dec tL_law_23 34 rfl) (am_dec tL_law_23 35 rfl) (am_dec tL_law_23 36 rfl) hS hi ⟨by decide, by decide⟩ (?_ : am_T _ _ _ _ _ 1639 _ _ _)
  refine LA_arg (k := 3) (am_dec tL_law_23 37 rfl) (am_dec tL_law_23 38 rfl) (am_dec tL_law_23 39 rfl) (am_dec tL_law_24 0 rfl) (am_dec tL_law_24 1 rfl) hS hi ⟨by decide, by decide⟩ (?_ : am_T _ _ _ _ _ 1645 _ _ _)
  refine T_callV (d' := 40) (as := [aI (S.2 (i + 1).toNat), aI (S.2 (i + 2).toNat), aI (S.2 (i + 3).toNat)]) rfl (am_dec tL_law_24 2 rfl) lkL_230 h109 rfl rfl (Nat.le_of_ble_eq_true rfl) (by omega) hK (fun _ => ?_)
  refine T_istore (ls' := LL i (some (aI (if code = 0 then 0 else if code = 2 then 1 else 2))) (some (aI kv))) (am_dec tL_law_24 3 rfl) (by decide) rfl ?_
  refine T_aload_n (am_dec tL_law_24 4 rfl) rfl ?_
  refine T_callV (d' := 40) (as := []) rfl (am_dec tL_law_24 5 rfl) lkL_168 h109b rfl rfl (Nat.le_of_ble_eq_true rfl) (by omega) hT (fun _ => ?_)
  refine T_iload (am_dec tL_law_24 6 rfl) rfl ?_
  refine T_icmp_eq 1661 (am_dec tL_law_24 7 rfl) rfl (fun _ => ?_) (fun h => absurd ht h)
  refine T_iload (am_dec tL_law_24 10 rfl) rfl ?_
  refine T_if_ne 1678 (am_dec tL_law_24 11 rfl) rfl (fun _ => fin) (fun g => ?_)
  have e0 : code = 0 := by
    by_cases e : code = 0
    · exact e
    · rw [if_neg e] at g
      split at g <;> omega
  have e1 : f3 (Int.toNat 0) = kv := (hv e0).trans (hC e0)
  refine T_aload_n (am_dec tL_law_24 12 rfl) rfl ?_
  refine T_iconst 0 (am_dec tL_law_24 13 rfl) rfl ⟨by decide, by decide⟩ ?_
  refine T_laload (n := 1) (f := f3) (am_dec tL_law_24 14 rfl) hf3 (by decide) (by decide) ?_
  refine T_iload (am_dec tL_law_24 15 rfl) rfl ?_
  refine T_i2l (am_dec tL_law_24 16 rfl) ?_
  refine T_lcmp (am_dec tL_law_24 17 rfl) ?_
  exact T_if_eq 1678 (am_dec tL_law_24 18 rfl) rfl (fun _ => fin) (fun h => absurd (by rw [e1, if_neg (Int.lt_irrefl _), if_pos rfl]) h)
theorem wk_net {S : am_S} {d u : Nat} {Q : AO → AH → Prop} {W W1 W2 W3 : AH} {i code v kv t : Int} {fs fs2 fs3 : List AV} {f f3 : Nat → Int} (hS : LawS S) (hi : 0 ≤ i ∧ i + 5 < S.1) (hd : 50 ≤ d) (hu : 1 ≤ u) (h0 : W[0]? = some (cO 10 fs)) (hf : W1[844]? = some (cP 2 1 f)) (hM : am_Out S zX11_net 40 1 [aR 0, aI (S.2 (i + 1).toNat)] W (am_oc code v) W1) (hc : code = 0 ∨ code = 2) (hW2 : W2 = if code = 0 then W1.set 844 (cP 2 1 (am_up f 0 v)) else W1) (h109 : W2[109]? = some (cO 11 fs2)) (hK : am_Out S zX12_net 40 0 [aR 109, aI (S.2 (i + 1).toNat)] W2 (.inl (some (aI kv))) W3) (h109b : W3[109]? = some (cO 11 fs3)) (hT : am_Out S zX12_thrown 40 0 [aR 109] W3 (.inl (some (aI t))) W3) (ht : t = (if code = 0 then 0 else if code = 2 then 1 else 2)) (hf3 : W3[844]? = some (cP 2 1 f3)) (hv : code = 0 → f3 (Int.toNat 0) = v) (hC : code = 0 → v = kv) (kk : am_T S zL_law d (u - 1) Q 3820 (LL i none none) [] W3) : am_T S zL_law d u Q 1681 (LL i none none) [] W := by
  have fin : am_T S zL_law d (u - 1) Q 1734 (LL i (some (aI (if code = 0 then 0 else if code = 2 then 1 else 2))) (some (aI kv))) [] W3 := T_goto 3820 (am_dec tL_law_25 16 rfl) rfl (T_weak LL_w kk)
  refine T_aload_n (am_dec tL_law_24 22 rfl) rfl ?_
  refine LA_arg (k := 1) (am_dec tL_law_24 23 rfl) (am_dec tL_law_24 24 rfl) (am_dec tL_law_24 25 rfl) (am_dec tL_law_24 26 rfl) (am_dec tL_law_24 27 rfl) hS hi ⟨by decide, by decide⟩ (?_ : am_T _ _ _ _ _ 1688 _ _ _)
  refine T_aload_n (am_dec tL_law_24 28 rfl) rfl ?_
  refine T_callW (d' := 41) (u' := 1) (as := [aR 0, aI (S.2 (i + 1).toNat), aR 844]) rfl (am_dec tL_law_24 29 rfl) lkL_231 rfl (Nat.le_of_ble_eq_true rfl) (by omega) hu (am_OutWE (wr_net (d := 40) (W1 := W1) (f := f) _ h0 hf hM hc) hW2.symm) ?_
  refine T_istore (ls' := LL i (some (aI (if code = 0 then 0 else if code = 2 then 1 else 2))) none) (am_dec tL_law_24 30 rfl) (by decide) rfl ?_
  refine T_aload_n (am_dec tL_law_24 31 rfl) rfl ?_
  refine LA_arg (k := 1) (am_dec tL_law_24 32 rfl) (am_dec tL_law_24 33 rfl) (am_dec tL_law_24 34 rfl) (am_dec tL_law_24 35 rfl) (am_dec tL_law_24 36 rfl) hS hi ⟨by decide, by decide⟩ (?_ : am_T _ _ _ _ _ 1701 _ _ _)
  refine T_callV (d' := 40) (as := [aI (S.2 (i + 1).toNat)]) rfl (am_dec tL_law_24 37 rfl) lkL_233 h109 rfl rfl (Nat.le_of_ble_eq_true rfl) (by omega) hK (fun _ => ?_)
  refine T_istore (ls' := LL i (some (aI (if code = 0 then 0 else if code = 2 then 1 else 2))) (some (aI kv))) (am_dec tL_law_24 38 rfl) (by decide) rfl ?_
  refine T_aload_n (am_dec tL_law_24 39 rfl) rfl ?_
  refine T_callV (d' := 40) (as := []) rfl (am_dec tL_law_25 0 rfl) lkL_168 h109b rfl rfl (Nat.le_of_ble_eq_true rfl) (by omega) hT (fun _ => ?_)
  refine T_iload (am_dec tL_law_25 1 rfl) rfl ?_
  refine T_icmp_eq 1717 (am_dec tL_law_25 2 rfl) rfl (fun _ => ?_) (fun h => absurd ht h)
  refine T_iload (am_dec tL_law_25 5 rfl) rfl ?_
  refine T_if_ne 1734 (am_dec tL_law_25 6 rfl) rfl (fun _ => fin) (fun g => ?_)
  have e0 : code = 0 := by
    by_cases e : code = 0
    · exact e
    · rw [if_neg e] at g
      split at g <;> omega
  have e1 : f3 (Int.toNat 0) = kv := (hv e0).trans (hC e0)
  refine T_aload_n (am_dec tL_law_25 7 rfl) rfl ?_
  refine T_iconst 0 (am_dec tL_law_25 8 rfl) rfl ⟨by decide, by decide⟩ ?_
  refine T_laload (n := 1) (f := f3) (am_dec tL_law_25 9 rfl) hf3 (by decide) (by decide) ?_
  refine T_iload (am_dec tL_law_25 10 rfl) rfl ?_
  refine T_i2l (am_dec tL_law_25 11 rfl) ?_
  refine T_lcmp (am_dec tL_law_25 12 rfl) ?_
  exact T_if_eq 1734 (am_dec tL_law_25 13 rfl) rfl (fun _ => fin) (fun h => absurd (by rw [e1, if_neg (Int.lt_irrefl _), if_pos rfl]) h)
theorem wk_bid {S : am_S} {d u : Nat} {Q : AO → AH → Prop} {W W1 W2 W3 : AH} {i code v kv t : Int} {fs fs2 fs3 : List AV} {f f3 : Nat → Int} (hS : LawS S) (hi : 0 ≤ i ∧ i + 5 < S.1) (hd : 50 ≤ d) (hu : 1 ≤ u) (h0 : W[0]? = some (cO 10 fs)) (hf : W1[844]? = some (cP 2 1 f)) (hM : am_Out S zX11_bid 40 1 [aR 0, aI (S.2 (i + 1).toNat), aI (S.2 (i + 2).toNat), aI (S.2 (i + 3).toNat)] W (am_oc code v) W1) (hc : code = 0 ∨ code = 2 ∨ code = 3) (hW2 : W2 = if code = 0 then W1.set 844 (cP 2 1 (am_up f 0 v)) else W1) (h109 : W2[109]? = some (cO 11 fs2)) (hK : am_Out S zX12_bid 40 0 [aR 109, aI (S.2 (i + 1).toNat), aI (S.2 (i + 2).toNat), aI (S.2 (i + 3).toNat)] W2 (.inl (some (aI kv))) W3) (h109b : W3[109]? = some (cO 11 fs3)) (hT : am_Out S zX12_thrown 40 0 [aR 109] W3 (.inl (some (aI t))) W3) (ht : t = (if code = 0 then 0 else if code = 2 then 1 else 2)) (hf3 : W3[844]? = some (cP 2 1 f3)) (hv : code = 0 → f3 (Int.toNat 0) = v) (hC : code = 0 → v = kv) (kk : am_T S zL_law d (u - 1) Q 3820 (LL i none none) [] W3) : am_T S zL_law d u Q 1737 (LL i none none) [] W := by
  have fin : am_T S zL_law d (u - 1) Q 1814 (LL i (some (aI (if code = 0 then 0 else if code = 2 then 1 else 2))) (some (aI kv))) [] W3 := T_goto 3820 (am_dec tL_law_26 31 rfl) rfl (T_weak LL_w kk)
  refine T_aload_n (am_dec tL_law_25 17 rfl) rfl ?_
  refine LA_arg (k := 1) (am_dec tL_law_25 18 rfl) (am_dec tL_law_25 19 rfl) (am_dec tL_law_25 20 rfl) (am_dec tL_law_25 21 rfl) (am_dec tL_law_25 22 rfl) hS hi ⟨by decide, by decide⟩ (?_ : am_T _ _ _ _ _ 1744 _ _ _)
  refine LA_arg (k := 2) (am_dec tL_law_25 23 rfl) (am_dec tL_law_25 24 rfl) (am_dec tL_law_25 25 rfl) (am_dec tL_law_25 26 rfl) (am_dec tL_law_25 27 rfl) hS hi ⟨by decide, by decide⟩ (?_ : am_T _ _ _ _ _ 1750 _ _ _)
  refine LA_arg (k := 3) (am_dec tL_law_25 28 rfl) (am_dec tL_law_25 29 rfl) (am_dec tL_law_25 30 rfl) (am_dec tL_law_25 31 rfl) (am_dec tL_law_25 32 rfl) hS hi ⟨by decide, by decide⟩ (?_ : am_T _ _ _ _ _ 1756 _ _ _)
  refine T_aload_n (am_dec tL_law_25 33 rfl) rfl ?_
  refine T_callW (d' := 41) (u' := 1) (as := [aR 0, aI (S.2 (i + 1).toNat), aI (S.2 (i + 2).toNat), aI (S.2 (i + 3).toNat), aR 844]) rfl (am_dec tL_law_25 34 rfl) lkL_234 rfl (Nat.le_of_ble_eq_true rfl) (by omega) hu (am_OutWE (wr_bid (d := 40) (W1 := W1) (f := f) _ _ _ h0 hf hM hc) hW2.symm) ?_
  refine T_istore (ls' := LL i (some (aI (if code = 0 then 0 else if code = 2 then 1 else 2))) none) (am_dec tL_law_25 35 rfl) (by decide) rfl ?_
  refine T_aload_n (am_dec tL_law_25 36 rfl) rfl ?_
  refine LA_arg (k := 1) (am_dec tL_law_25 37 rfl) (am_dec tL_law_25 38 rfl) (am_dec tL_law_25 39 rfl) (am_dec tL_law_26 0 rfl) (am_dec tL_law_26 1 rfl) hS hi ⟨by decide, by decide⟩ (?_ : am_T _ _ _ _ _ 1769 _ _ _)
  refine LA_arg (k := 2) (am_dec tL_law_26 2 rfl) (am_dec tL_law_26 3 rfl) (am_dec tL_law_26 4 rfl) (am_dec tL_law_26 5 rfl) (am_dec tL_law_26 6 rfl) hS hi ⟨by decide, by decide⟩ (?_ : am_T _ _ _ _ _ 1775 _ _ _)
  refine LA_arg (k := 3) (am_dec tL_law_26 7 rfl) (am_dec tL_law_26 8 rfl) (am_dec tL_law_26 9 rfl) (am_dec tL_law_26 10 rfl) (am_dec tL_law_26 11 rfl) hS hi ⟨by decide, by decide⟩ (?_ : am_T _ _ _ _ _ 1781 _ _ _)
  refine T_callV (d' := 40) (as := [aI (S.2 (i + 1).toNat), aI (S.2 (i + 2).toNat), aI (S.2 (i + 3).toNat)]) rfl (am_dec tL_law_26 12 rfl) lkL_236 h109 rfl rfl (Nat.le_of_ble_eq_true rfl) (by omega) hK (fun _ => ?_)
  refine T_istore (ls' := LL i (some (aI (if code = 0 then 0 else if code = 2 then 1 else 2))) (some (aI kv))) (am_dec tL_law_26 13 rfl) (by decide) rfl ?_
  refine T_aload_n (am_dec tL_law_26 14 rfl) rfl ?_
  refine T_callV (d' := 40) (as := []) rfl (am_dec tL_law_26 15 rfl) lkL_168 h109b rfl rfl (Nat.le_of_ble_eq_true rfl) (by omega) hT (fun _ => ?_)
  refine T_iload (am_dec tL_law_26 16 rfl) rfl ?_
  refine T_icmp_eq 1797 (am_dec tL_law_26 17 rfl) rfl (fun _ => ?_) (fun h => absurd ht h)
  refine T_iload (am_dec tL_law_26 20 rfl) rfl ?_
  refine T_if_ne 1814 (am_dec tL_law_26 21 rfl) rfl (fun _ => fin) (fun g => ?_)
  have e0 : code = 0 := by
    by_cases e : code = 0
    · exact e
    · rw [if_neg e] at g
      split at g <;> omega
  have e1 : f3 (Int.toNat 0) = kv := (hv e0).trans (hC e0)
  refine T_aload_n (am_dec tL_law_26 22 rfl) rfl ?_
  refine T_iconst 0 (am_dec tL_law_26 23 rfl) rfl ⟨by decide, by decide⟩ ?_
  refine T_laload (n := 1) (f := f3) (am_dec tL_law_26 24 rfl) hf3 (by decide) (by decide) ?_
  refine T_iload (am_dec tL_law_26 25 rfl) rfl ?_
  refine T_i2l (am_dec tL_law_26 26 rfl) ?_
  refine T_lcmp (am_dec tL_law_26 27 rfl) ?_
  exact T_if_eq 1814 (am_dec tL_law_26 28 rfl) rfl (fun _ => fin) (fun h => absurd (by rw [e1, if_neg (Int.lt_irrefl _), if_pos rfl]) h)
theorem wk_gets {S : am_S} {d u : Nat} {Q : AO → AH → Prop} {W W1 W2 W3 : AH} {i code v kv t : Int} {fs fs2 fs3 : List AV} {f f3 : Nat → Int} (hS : LawS S) (hi : 0 ≤ i ∧ i + 5 < S.1) (hd : 50 ≤ d) (hu : 1 ≤ u) (h0 : W[0]? = some (cO 10 fs)) (hf : W1[844]? = some (cP 2 1 f)) (hM : am_Out S zX11_gets 40 1 [aR 0, aI (S.2 (i + 1).toNat), aI (S.2 (i + 2).toNat), aI (S.2 (i + 3).toNat)] W (am_oc code v) W1) (hc : code = 0 ∨ code = 3) (hW2 : W2 = if code = 0 then W1.set 844 (cP 2 1 (am_up f 0 v)) else W1) (h109 : W2[109]? = some (cO 11 fs2)) (hK : am_Out S zX12_gets 40 0 [aR 109, aI (S.2 (i + 1).toNat), aI (S.2 (i + 2).toNat), aI (S.2 (i + 3).toNat)] W2 (.inl (some (aI kv))) W3) (h109b : W3[109]? = some (cO 11 fs3)) (hT : am_Out S zX12_thrown 40 0 [aR 109] W3 (.inl (some (aI t))) W3) (ht : t = (if code = 0 then 0 else if code = 3 then 1 else 2)) (hf3 : W3[844]? = some (cP 2 1 f3)) (hv : code = 0 → f3 (Int.toNat 0) = v) (hC : code = 0 → v = kv) (kk : am_T S zL_law d (u - 1) Q 3820 (LL i none none) [] W3) : am_T S zL_law d u Q 1817 (LL i none none) [] W := by
  have fin : am_T S zL_law d (u - 1) Q 1894 (LL i (some (aI (if code = 0 then 0 else if code = 3 then 1 else 2))) (some (aI kv))) [] W3 := T_goto 3820 (am_dec tL_law_28 6 rfl) rfl (T_weak LL_w kk)
  refine T_aload_n (am_dec tL_law_26 32 rfl) rfl ?_
  refine LA_arg (k := 1) (am_dec tL_law_26 33 rfl) (am_dec tL_law_26 34 rfl) (am_dec tL_law_26 35 rfl) (am_dec tL_law_26 36 rfl) (am_dec tL_law_26 37 rfl) hS hi ⟨by decide, by decide⟩ (?_ : am_T _ _ _ _ _ 1824 _ _ _)
  refine LA_arg (k := 2) (am_dec tL_law_26 38 rfl) (am_dec tL_law_26 39 rfl) (am_dec tL_law_27 0 rfl) (am_dec tL_law_27 1 rfl) (am_dec tL_law_27 2 rfl) hS hi ⟨by decide, by decide⟩ (?_ : am_T _ _ _ _ _ 1830 _ _ _)
  refine LA_arg (k := 3) (am_dec tL_law_27 3 rfl) (am_dec tL_law_27 4 rfl) (am_dec tL_law_27 5 rfl) (am_dec tL_law_27 6 rfl) (am_dec tL_law_27 7 rfl) hS hi ⟨by decide, by decide⟩ (?_ : am_T _ _ _ _ _ 1836 _ _ _)
  refine T_aload_n (am_dec tL_law_27 8 rfl) rfl ?_
  refine T_callW (d' := 41) (u' := 1) (as := [aR 0, aI (S.2 (i + 1).toNat), aI (S.2 (i + 2).toNat), aI (S.2 (i + 3).toNat), aR 844]) rfl (am_dec tL_law_27 9 rfl) lkL_237 rfl (Nat.le_of_ble_eq_true rfl) (by omega) hu (am_OutWE (wr_gets (d := 40) (W1 := W1) (f := f) _ _ _ h0 hf hM hc) hW2.symm) ?_
  refine T_istore (ls' := LL i (some (aI (if code = 0 then 0 else if code = 3 then 1 else 2))) none) (am_dec tL_law_27 10 rfl) (by decide) rfl ?_
  refine T_aload_n (am_dec tL_law_27 11 rfl) rfl ?_
  refine LA_arg (k := 1) (am_dec tL_law_27 12 rfl) (am_dec tL_law_27 13 rfl) (am_dec tL_law_27 14 rfl) (am_dec tL_law_27 15 rfl) (am_dec tL_law_27 16 rfl) hS hi ⟨by decide, by decide⟩ (?_ : am_T _ _ _ _ _ 1849 _ _ _)
  refine LA_arg (k := 2) (am_dec tL_law_27 17 rfl) (am_dec tL_law_27 18 rfl) (am_dec tL_law_27 19 rfl) (am_dec tL_law_27 20 rfl) (am_dec tL_law_27 21 rfl) hS hi ⟨by decide, by decide⟩ (?_ : am_T _ _ _ _ _ 1855 _ _ _)
  refine LA_arg (k := 3) (am_dec tL_law_27 22 rfl) (am_dec tL_law_27 23 rfl) (am_dec tL_law_27 24 rfl) (am_dec tL_law_27 25 rfl) (am_dec tL_law_27 26 rfl) hS hi ⟨by decide, by decide⟩ (?_ : am_T _ _ _ _ _ 1861 _ _ _)
  refine T_callV (d' := 40) (as := [aI (S.2 (i + 1).toNat), aI (S.2 (i + 2).toNat), aI (S.2 (i + 3).toNat)]) rfl (am_dec tL_law_27 27 rfl) lkL_239 h109 rfl rfl (Nat.le_of_ble_eq_true rfl) (by omega) hK (fun _ => ?_)
  refine T_istore (ls' := LL i (some (aI (if code = 0 then 0 else if code = 3 then 1 else 2))) (some (aI kv))) (am_dec tL_law_27 28 rfl) (by decide) rfl ?_
  refine T_aload_n (am_dec tL_law_27 29 rfl) rfl ?_
  refine T_callV (d' := 40) (as := []) rfl (am_dec tL_law_27 30 rfl) lkL_168 h109b rfl rfl (Nat.le_of_ble_eq_true rfl) (by omega) hT (fun _ => ?_)
  refine T_iload (am_dec tL_law_27 31 rfl) rfl ?_
  refine T_icmp_eq 1877 (am_dec tL_law_27 32 rfl) rfl (fun _ => ?_) (fun h => absurd ht h)
  refine T_iload (am_dec tL_law_27 35 rfl) rfl ?_
  refine T_if_ne 1894 (am_dec tL_law_27 36 rfl) rfl (fun _ => fin) (fun g => ?_)
  have e0 : code = 0 := by
    by_cases e : code = 0
    · exact e
    · rw [if_neg e] at g
      split at g <;> omega
  have e1 : f3 (Int.toNat 0) = kv := (hv e0).trans (hC e0)
  refine T_aload_n (am_dec tL_law_27 37 rfl) rfl ?_
  refine T_iconst 0 (am_dec tL_law_27 38 rfl) rfl ⟨by decide, by decide⟩ ?_
  refine T_laload (n := 1) (f := f3) (am_dec tL_law_27 39 rfl) hf3 (by decide) (by decide) ?_
  refine T_iload (am_dec tL_law_28 0 rfl) rfl ?_
  refine T_i2l (am_dec tL_law_28 1 rfl) ?_
  refine T_lcmp (am_dec tL_law_28 2 rfl) ?_
  exact T_if_eq 1894 (am_dec tL_law_28 3 rfl) rfl (fun _ => fin) (fun h => absurd (by rw [e1, if_neg (Int.lt_irrefl _), if_pos rfl]) h)
theorem wk_sold {S : am_S} {d u : Nat} {Q : AO → AH → Prop} {W W1 W2 W3 : AH} {i code v kv t : Int} {fs fs2 fs3 : List AV} {f f3 : Nat → Int} (hS : LawS S) (hi : 0 ≤ i ∧ i + 5 < S.1) (hd : 50 ≤ d) (hu : 1 ≤ u) (h0 : W[0]? = some (cO 10 fs)) (hf : W1[844]? = some (cP 2 1 f)) (hM : am_Out S zX11_sold 40 1 [aR 0, aI (S.2 (i + 1).toNat), aI (S.2 (i + 2).toNat), aI (S.2 (i + 3).toNat)] W (am_oc code v) W1) (hc : code = 0 ∨ code = 2 ∨ code = 3) (hW2 : W2 = if code = 0 then W1.set 844 (cP 2 1 (am_up f 0 v)) else W1) (h109 : W2[109]? = some (cO 11 fs2)) (hK : am_Out S zX12_sold 40 0 [aR 109, aI (S.2 (i + 1).toNat), aI (S.2 (i + 2).toNat), aI (S.2 (i + 3).toNat)] W2 (.inl (some (aI kv))) W3) (h109b : W3[109]? = some (cO 11 fs3)) (hT : am_Out S zX12_thrown 40 0 [aR 109] W3 (.inl (some (aI t))) W3) (ht : t = (if code = 0 then 0 else if code = 2 then 1 else 2)) (hf3 : W3[844]? = some (cP 2 1 f3)) (hv : code = 0 → f3 (Int.toNat 0) = v) (hC : code = 0 → v = kv) (kk : am_T S zL_law d (u - 1) Q 3820 (LL i none none) [] W3) : am_T S zL_law d u Q 1897 (LL i none none) [] W := by
  have fin : am_T S zL_law d (u - 1) Q 1974 (LL i (some (aI (if code = 0 then 0 else if code = 2 then 1 else 2))) (some (aI kv))) [] W3 := T_goto 3820 (am_dec tL_law_29 21 rfl) rfl (T_weak LL_w kk)
  refine T_aload_n (am_dec tL_law_28 7 rfl) rfl ?_
  refine LA_arg (k := 1) (am_dec tL_law_28 8 rfl) (am_dec tL_law_28 9 rfl) (am_dec tL_law_28 10 rfl) (am_dec tL_law_28 11 rfl) (am_dec tL_law_28 12 rfl) hS hi ⟨by decide, by decide⟩ (?_ : am_T _ _ _ _ _ 1904 _ _ _)
  refine LA_arg (k := 2) (am_dec tL_law_28 13 rfl) (am_dec tL_law_28 14 rfl) (am_dec tL_law_28 15 rfl) (am_dec tL_law_28 16 rfl) (am_dec tL_law_28 17 rfl) hS hi ⟨by decide, by decide⟩ (?_ : am_T _ _ _ _ _ 1910 _ _ _)
  refine LA_arg (k := 3) (am_dec tL_law_28 18 rfl) (am_dec tL_law_28 19 rfl) (am_dec tL_law_28 20 rfl) (am_dec tL_law_28 21 rfl) (am_dec tL_law_28 22 rfl) hS hi ⟨by decide, by decide⟩ (?_ : am_T _ _ _ _ _ 1916 _ _ _)
  refine T_aload_n (am_dec tL_law_28 23 rfl) rfl ?_
  refine T_callW (d' := 41) (u' := 1) (as := [aR 0, aI (S.2 (i + 1).toNat), aI (S.2 (i + 2).toNat), aI (S.2 (i + 3).toNat), aR 844]) rfl (am_dec tL_law_28 24 rfl) lkL_240 rfl (Nat.le_of_ble_eq_true rfl) (by omega) hu (am_OutWE (wr_sold (d := 40) (W1 := W1) (f := f) _ _ _ h0 hf hM hc) hW2.symm) ?_
  refine T_istore (ls' := LL i (some (aI (if code = 0 then 0 else if code = 2 then 1 else 2))) none) (am_dec tL_law_28 25 rfl) (by decide) rfl ?_
  refine T_aload_n (am_dec tL_law_28 26 rfl) rfl ?_
  refine LA_arg (k := 1) (am_dec tL_law_28 27 rfl) (am_dec tL_law_28 28 rfl) (am_dec tL_law_28 29 rfl) (am_dec tL_law_28 30 rfl) (am_dec tL_law_28 31 rfl) hS hi ⟨by decide, by decide⟩ (?_ : am_T _ _ _ _ _ 1929 _ _ _)
  refine LA_arg (k := 2) (am_dec tL_law_28 32 rfl) (am_dec tL_law_28 33 rfl) (am_dec tL_law_28 34 rfl) (am_dec tL_law_28 35 rfl) (am_dec tL_law_28 36 rfl) hS hi ⟨by decide, by decide⟩ (?_ : am_T _ _ _ _ _ 1935 _ _ _)
  refine LA_arg (k := 3) (am_dec tL_law_28 37 rfl) (am_dec tL_law_28 38 rfl) (am_dec tL_law_28 39 rfl) (am_dec tL_law_29 0 rfl) (am_dec tL_law_29 1 rfl) hS hi ⟨by decide, by decide⟩ (?_ : am_T _ _ _ _ _ 1941 _ _ _)
  refine T_callV (d' := 40) (as := [aI (S.2 (i + 1).toNat), aI (S.2 (i + 2).toNat), aI (S.2 (i + 3).toNat)]) rfl (am_dec tL_law_29 2 rfl) lkL_242 h109 rfl rfl (Nat.le_of_ble_eq_true rfl) (by omega) hK (fun _ => ?_)
  refine T_istore (ls' := LL i (some (aI (if code = 0 then 0 else if code = 2 then 1 else 2))) (some (aI kv))) (am_dec tL_law_29 3 rfl) (by decide) rfl ?_
  refine T_aload_n (am_dec tL_law_29 4 rfl) rfl ?_
  refine T_callV (d' := 40) (as := []) rfl (am_dec tL_law_29 5 rfl) lkL_168 h109b rfl rfl (Nat.le_of_ble_eq_true rfl) (by omega) hT (fun _ => ?_)
  refine T_iload (am_dec tL_law_29 6 rfl) rfl ?_
  refine T_icmp_eq 1957 (am_dec tL_law_29 7 rfl) rfl (fun _ => ?_) (fun h => absurd ht h)
  refine T_iload (am_dec tL_law_29 10 rfl) rfl ?_
  refine T_if_ne 1974 (am_dec tL_law_29 11 rfl) rfl (fun _ => fin) (fun g => ?_)
  have e0 : code = 0 := by
    by_cases e : code = 0
    · exact e
    · rw [if_neg e] at g
      split at g <;> omega
  have e1 : f3 (Int.toNat 0) = kv := (hv e0).trans (hC e0)
  refine T_aload_n (am_dec tL_law_29 12 rfl) rfl ?_
  refine T_iconst 0 (am_dec tL_law_29 13 rfl) rfl ⟨by decide, by decide⟩ ?_
  refine T_laload (n := 1) (f := f3) (am_dec tL_law_29 14 rfl) hf3 (by decide) (by decide) ?_
  refine T_iload (am_dec tL_law_29 15 rfl) rfl ?_
  refine T_i2l (am_dec tL_law_29 16 rfl) ?_
  refine T_lcmp (am_dec tL_law_29 17 rfl) ?_
  exact T_if_eq 1974 (am_dec tL_law_29 18 rfl) rfl (fun _ => fin) (fun h => absurd (by rw [e1, if_neg (Int.lt_irrefl _), if_pos rfl]) h)
theorem wk_when {S : am_S} {d u : Nat} {Q : AO → AH → Prop} {W W1 W2 W3 : AH} {i code v kv t : Int} {fs fs2 fs3 : List AV} {f f3 : Nat → Int} (hS : LawS S) (hi : 0 ≤ i ∧ i + 5 < S.1) (hd : 50 ≤ d) (hu : 1 ≤ u) (h0 : W[0]? = some (cO 10 fs)) (hf : W1[844]? = some (cP 2 1 f)) (hM : am_Out S zX11_when 40 1 [aR 0, aI (S.2 (i + 1).toNat), aI (S.2 (i + 2).toNat)] W (am_oc code v) W1) (hc : code = 0 ∨ code = 2 ∨ code = 3) (hW2 : W2 = if code = 0 then W1.set 844 (cP 2 1 (am_up f 0 v)) else W1) (h109 : W2[109]? = some (cO 11 fs2)) (hK : am_Out S zX12_when 40 0 [aR 109, aI (S.2 (i + 1).toNat), aI (S.2 (i + 2).toNat)] W2 (.inl (some (aI kv))) W3) (h109b : W3[109]? = some (cO 11 fs3)) (hT : am_Out S zX12_thrown 40 0 [aR 109] W3 (.inl (some (aI t))) W3) (ht : t = (if code = 0 then 0 else if code = 2 then 1 else 2)) (hf3 : W3[844]? = some (cP 2 1 f3)) (hv : code = 0 → f3 (Int.toNat 0) = v) (hC : code = 0 → v = kv) (kk : am_T S zL_law d (u - 1) Q 3820 (LL i none none) [] W3) : am_T S zL_law d u Q 1977 (LL i none none) [] W := by
  have fin : am_T S zL_law d (u - 1) Q 2042 (LL i (some (aI (if code = 0 then 0 else if code = 2 then 1 else 2))) (some (aI kv))) [] W3 := T_goto 3820 (am_dec tL_law_30 26 rfl) rfl (T_weak LL_w kk)
  refine T_aload_n (am_dec tL_law_29 22 rfl) rfl ?_
  refine LA_arg (k := 1) (am_dec tL_law_29 23 rfl) (am_dec tL_law_29 24 rfl) (am_dec tL_law_29 25 rfl) (am_dec tL_law_29 26 rfl) (am_dec tL_law_29 27 rfl) hS hi ⟨by decide, by decide⟩ (?_ : am_T _ _ _ _ _ 1984 _ _ _)
  refine LA_arg (k := 2) (am_dec tL_law_29 28 rfl) (am_dec tL_law_29 29 rfl) (am_dec tL_law_29 30 rfl) (am_dec tL_law_29 31 rfl) (am_dec tL_law_29 32 rfl) hS hi ⟨by decide, by decide⟩ (?_ : am_T _ _ _ _ _ 1990 _ _ _)
  refine T_aload_n (am_dec tL_law_29 33 rfl) rfl ?_
  refine T_callW (d' := 41) (u' := 1) (as := [aR 0, aI (S.2 (i + 1).toNat), aI (S.2 (i + 2).toNat), aR 844]) rfl (am_dec tL_law_29 34 rfl) lkL_243 rfl (Nat.le_of_ble_eq_true rfl) (by omega) hu (am_OutWE (wr_when (d := 40) (W1 := W1) (f := f) _ _ h0 hf hM hc) hW2.symm) ?_
  refine T_istore (ls' := LL i (some (aI (if code = 0 then 0 else if code = 2 then 1 else 2))) none) (am_dec tL_law_29 35 rfl) (by decide) rfl ?_
  refine T_aload_n (am_dec tL_law_29 36 rfl) rfl ?_
  refine LA_arg (k := 1) (am_dec tL_law_29 37 rfl) (am_dec tL_law_29 38 rfl) (am_dec tL_law_29 39 rfl) (am_dec tL_law_30 0 rfl) (am_dec tL_law_30 1 rfl) hS hi ⟨by decide, by decide⟩ (?_ : am_T _ _ _ _ _ 2003 _ _ _)
  refine LA_arg (k := 2) (am_dec tL_law_30 2 rfl) (am_dec tL_law_30 3 rfl) (am_dec tL_law_30 4 rfl) (am_dec tL_law_30 5 rfl) (am_dec tL_law_30 6 rfl) hS hi ⟨by decide, by decide⟩ (?_ : am_T _ _ _ _ _ 2009 _ _ _)
  refine T_callV (d' := 40) (as := [aI (S.2 (i + 1).toNat), aI (S.2 (i + 2).toNat)]) rfl (am_dec tL_law_30 7 rfl) lkL_245 h109 rfl rfl (Nat.le_of_ble_eq_true rfl) (by omega) hK (fun _ => ?_)
  refine T_istore (ls' := LL i (some (aI (if code = 0 then 0 else if code = 2 then 1 else 2))) (some (aI kv))) (am_dec tL_law_30 8 rfl) (by decide) rfl ?_
  refine T_aload_n (am_dec tL_law_30 9 rfl) rfl ?_
  refine T_callV (d' := 40) (as := []) rfl (am_dec tL_law_30 10 rfl) lkL_168 h109b rfl rfl (Nat.le_of_ble_eq_true rfl) (by omega) hT (fun _ => ?_)
  refine T_iload (am_dec tL_law_30 11 rfl) rfl ?_
  refine T_icmp_eq 2025 (am_dec tL_law_30 12 rfl) rfl (fun _ => ?_) (fun h => absurd ht h)
  refine T_iload (am_dec tL_law_30 15 rfl) rfl ?_
  refine T_if_ne 2042 (am_dec tL_law_30 16 rfl) rfl (fun _ => fin) (fun g => ?_)
  have e0 : code = 0 := by
    by_cases e : code = 0
    · exact e
    · rw [if_neg e] at g
      split at g <;> omega
  have e1 : f3 (Int.toNat 0) = kv := (hv e0).trans (hC e0)
  refine T_aload_n (am_dec tL_law_30 17 rfl) rfl ?_
  refine T_iconst 0 (am_dec tL_law_30 18 rfl) rfl ⟨by decide, by decide⟩ ?_
  refine T_laload (n := 1) (f := f3) (am_dec tL_law_30 19 rfl) hf3 (by decide) (by decide) ?_
  refine T_iload (am_dec tL_law_30 20 rfl) rfl ?_
  refine T_i2l (am_dec tL_law_30 21 rfl) ?_
  refine T_lcmp (am_dec tL_law_30 22 rfl) ?_
  exact T_if_eq 2042 (am_dec tL_law_30 23 rfl) rfl (fun _ => fin) (fun h => absurd (by rw [e1, if_neg (Int.lt_irrefl _), if_pos rfl]) h)
theorem wk_ship {S : am_S} {d u : Nat} {Q : AO → AH → Prop} {W W1 W2 W3 : AH} {i code v kv t : Int} {fs fs2 fs3 : List AV} {f f3 : Nat → Int} (hS : LawS S) (hi : 0 ≤ i ∧ i + 5 < S.1) (hd : 50 ≤ d) (hu : 1 ≤ u) (h0 : W[0]? = some (cO 10 fs)) (hf : W1[844]? = some (cP 2 1 f)) (hM : am_Out S zX11_ship 40 1 [aR 0, aI (S.2 (i + 1).toNat)] W (am_oc code v) W1) (hc : code = 0 ∨ code = 2) (hW2 : W2 = if code = 0 then W1.set 844 (cP 2 1 (am_up f 0 v)) else W1) (h109 : W2[109]? = some (cO 11 fs2)) (hK : am_Out S zX12_ship 40 0 [aR 109, aI (S.2 (i + 1).toNat)] W2 (.inl (some (aI kv))) W3) (h109b : W3[109]? = some (cO 11 fs3)) (hT : am_Out S zX12_thrown 40 0 [aR 109] W3 (.inl (some (aI t))) W3) (ht : t = (if code = 0 then 0 else if code = 2 then 1 else 2)) (hf3 : W3[844]? = some (cP 2 1 f3)) (hv : code = 0 → f3 (Int.toNat 0) = v) (hC : code = 0 → v = kv) (kk : am_T S zL_law d (u - 1) Q 3820 (LL i none none) [] W3) : am_T S zL_law d u Q 2045 (LL i none none) [] W := by
  have fin : am_T S zL_law d (u - 1) Q 2098 (LL i (some (aI (if code = 0 then 0 else if code = 2 then 1 else 2))) (some (aI kv))) [] W3 := T_goto 3820 (am_dec tL_law_31 21 rfl) rfl (T_weak LL_w kk)
  refine T_aload_n (am_dec tL_law_30 27 rfl) rfl ?_
  refine LA_arg (k := 1) (am_dec tL_law_30 28 rfl) (am_dec tL_law_30 29 rfl) (am_dec tL_law_30 30 rfl) (am_dec tL_law_30 31 rfl) (am_dec tL_law_30 32 rfl) hS hi ⟨by decide, by decide⟩ (?_ : am_T _ _ _ _ _ 2052 _ _ _)
  refine T_aload_n (am_dec tL_law_30 33 rfl) rfl ?_
  refine T_callW (d' := 41) (u' := 1) (as := [aR 0, aI (S.2 (i + 1).toNat), aR 844]) rfl (am_dec tL_law_30 34 rfl) lkL_246 rfl (Nat.le_of_ble_eq_true rfl) (by omega) hu (am_OutWE (wr_ship (d := 40) (W1 := W1) (f := f) _ h0 hf hM hc) hW2.symm) ?_
  refine T_istore (ls' := LL i (some (aI (if code = 0 then 0 else if code = 2 then 1 else 2))) none) (am_dec tL_law_30 35 rfl) (by decide) rfl ?_
  refine T_aload_n (am_dec tL_law_30 36 rfl) rfl ?_
  refine LA_arg (k := 1) (am_dec tL_law_30 37 rfl) (am_dec tL_law_30 38 rfl) (am_dec tL_law_30 39 rfl) (am_dec tL_law_31 0 rfl) (am_dec tL_law_31 1 rfl) hS hi ⟨by decide, by decide⟩ (?_ : am_T _ _ _ _ _ 2065 _ _ _)
  refine T_callV (d' := 40) (as := [aI (S.2 (i + 1).toNat)]) rfl (am_dec tL_law_31 2 rfl) lkL_248 h109 rfl rfl (Nat.le_of_ble_eq_true rfl) (by omega) hK (fun _ => ?_)
  refine T_istore (ls' := LL i (some (aI (if code = 0 then 0 else if code = 2 then 1 else 2))) (some (aI kv))) (am_dec tL_law_31 3 rfl) (by decide) rfl ?_
  refine T_aload_n (am_dec tL_law_31 4 rfl) rfl ?_
  refine T_callV (d' := 40) (as := []) rfl (am_dec tL_law_31 5 rfl) lkL_168 h109b rfl rfl (Nat.le_of_ble_eq_true rfl) (by omega) hT (fun _ => ?_)
  refine T_iload (am_dec tL_law_31 6 rfl) rfl ?_
  refine T_icmp_eq 2081 (am_dec tL_law_31 7 rfl) rfl (fun _ => ?_) (fun h => absurd ht h)
  refine T_iload (am_dec tL_law_31 10 rfl) rfl ?_
  refine T_if_ne 2098 (am_dec tL_law_31 11 rfl) rfl (fun _ => fin) (fun g => ?_)
  have e0 : code = 0 := by
    by_cases e : code = 0
    · exact e
    · rw [if_neg e] at g
      split at g <;> omega
  have e1 : f3 (Int.toNat 0) = kv := (hv e0).trans (hC e0)
  refine T_aload_n (am_dec tL_law_31 12 rfl) rfl ?_
  refine T_iconst 0 (am_dec tL_law_31 13 rfl) rfl ⟨by decide, by decide⟩ ?_
  refine T_laload (n := 1) (f := f3) (am_dec tL_law_31 14 rfl) hf3 (by decide) (by decide) ?_
  refine T_iload (am_dec tL_law_31 15 rfl) rfl ?_
  refine T_i2l (am_dec tL_law_31 16 rfl) ?_
  refine T_lcmp (am_dec tL_law_31 17 rfl) ?_
  exact T_if_eq 2098 (am_dec tL_law_31 18 rfl) rfl (fun _ => fin) (fun h => absurd (by rw [e1, if_neg (Int.lt_irrefl _), if_pos rfl]) h)
theorem wk_worthless {S : am_S} {d u : Nat} {Q : AO → AH → Prop} {W W1 W2 W3 : AH} {i code v kv t : Int} {fs fs2 fs3 : List AV} {f f3 : Nat → Int} (hS : LawS S) (hi : 0 ≤ i ∧ i + 5 < S.1) (hd : 50 ≤ d) (hu : 1 ≤ u) (h0 : W[0]? = some (cO 10 fs)) (hf : W1[844]? = some (cP 2 1 f)) (hM : am_Out S zX11_worthless 40 1 [aR 0, aI (S.2 (i + 1).toNat), aI (S.2 (i + 2).toNat)] W (am_oc code v) W1) (hc : code = 0 ∨ code = 2 ∨ code = 3) (hW2 : W2 = if code = 0 then W1.set 844 (cP 2 1 (am_up f 0 v)) else W1) (h109 : W2[109]? = some (cO 11 fs2)) (hK : am_Out S zX12_worthless 40 0 [aR 109, aI (S.2 (i + 1).toNat), aI (S.2 (i + 2).toNat)] W2 (.inl (some (aI kv))) W3) (h109b : W3[109]? = some (cO 11 fs3)) (hT : am_Out S zX12_thrown 40 0 [aR 109] W3 (.inl (some (aI t))) W3) (ht : t = (if code = 0 then 0 else if code = 2 then 1 else 2)) (hf3 : W3[844]? = some (cP 2 1 f3)) (hv : code = 0 → f3 (Int.toNat 0) = v) (hC : code = 0 → v = kv) (kk : am_T S zL_law d (u - 1) Q 3820 (LL i none none) [] W3) : am_T S zL_law d u Q 2101 (LL i none none) [] W := by
  have fin : am_T S zL_law d (u - 1) Q 2166 (LL i (some (aI (if code = 0 then 0 else if code = 2 then 1 else 2))) (some (aI kv))) [] W3 := T_goto 3820 (am_dec tL_law_32 26 rfl) rfl (T_weak LL_w kk)
  refine T_aload_n (am_dec tL_law_31 22 rfl) rfl ?_
  refine LA_arg (k := 1) (am_dec tL_law_31 23 rfl) (am_dec tL_law_31 24 rfl) (am_dec tL_law_31 25 rfl) (am_dec tL_law_31 26 rfl) (am_dec tL_law_31 27 rfl) hS hi ⟨by decide, by decide⟩ (?_ : am_T _ _ _ _ _ 2108 _ _ _)
  refine LA_arg (k := 2) (am_dec tL_law_31 28 rfl) (am_dec tL_law_31 29 rfl) (am_dec tL_law_31 30 rfl) (am_dec tL_law_31 31 rfl) (am_dec tL_law_31 32 rfl) hS hi ⟨by decide, by decide⟩ (?_ : am_T _ _ _ _ _ 2114 _ _ _)
  refine T_aload_n (am_dec tL_law_31 33 rfl) rfl ?_
  refine T_callW (d' := 41) (u' := 1) (as := [aR 0, aI (S.2 (i + 1).toNat), aI (S.2 (i + 2).toNat), aR 844]) rfl (am_dec tL_law_31 34 rfl) lkL_249 rfl (Nat.le_of_ble_eq_true rfl) (by omega) hu (am_OutWE (wr_worthless (d := 40) (W1 := W1) (f := f) _ _ h0 hf hM hc) hW2.symm) ?_
  refine T_istore (ls' := LL i (some (aI (if code = 0 then 0 else if code = 2 then 1 else 2))) none) (am_dec tL_law_31 35 rfl) (by decide) rfl ?_
  refine T_aload_n (am_dec tL_law_31 36 rfl) rfl ?_
  refine LA_arg (k := 1) (am_dec tL_law_31 37 rfl) (am_dec tL_law_31 38 rfl) (am_dec tL_law_31 39 rfl) (am_dec tL_law_32 0 rfl) (am_dec tL_law_32 1 rfl) hS hi ⟨by decide, by decide⟩ (?_ : am_T _ _ _ _ _ 2127 _ _ _)
  refine LA_arg (k := 2) (am_dec tL_law_32 2 rfl) (am_dec tL_law_32 3 rfl) (am_dec tL_law_32 4 rfl) (am_dec tL_law_32 5 rfl) (am_dec tL_law_32 6 rfl) hS hi ⟨by decide, by decide⟩ (?_ : am_T _ _ _ _ _ 2133 _ _ _)
  refine T_callV (d' := 40) (as := [aI (S.2 (i + 1).toNat), aI (S.2 (i + 2).toNat)]) rfl (am_dec tL_law_32 7 rfl) lkL_251 h109 rfl rfl (Nat.le_of_ble_eq_true rfl) (by omega) hK (fun _ => ?_)
  refine T_istore (ls' := LL i (some (aI (if code = 0 then 0 else if code = 2 then 1 else 2))) (some (aI kv))) (am_dec tL_law_32 8 rfl) (by decide) rfl ?_
  refine T_aload_n (am_dec tL_law_32 9 rfl) rfl ?_
  refine T_callV (d' := 40) (as := []) rfl (am_dec tL_law_32 10 rfl) lkL_168 h109b rfl rfl (Nat.le_of_ble_eq_true rfl) (by omega) hT (fun _ => ?_)
  refine T_iload (am_dec tL_law_32 11 rfl) rfl ?_
  refine T_icmp_eq 2149 (am_dec tL_law_32 12 rfl) rfl (fun _ => ?_) (fun h => absurd ht h)
  refine T_iload (am_dec tL_law_32 15 rfl) rfl ?_
  refine T_if_ne 2166 (am_dec tL_law_32 16 rfl) rfl (fun _ => fin) (fun g => ?_)
  have e0 : code = 0 := by
    by_cases e : code = 0
    · exact e
    · rw [if_neg e] at g
      split at g <;> omega
  have e1 : f3 (Int.toNat 0) = kv := (hv e0).trans (hC e0)
  refine T_aload_n (am_dec tL_law_32 17 rfl) rfl ?_
  refine T_iconst 0 (am_dec tL_law_32 18 rfl) rfl ⟨by decide, by decide⟩ ?_
  refine T_laload (n := 1) (f := f3) (am_dec tL_law_32 19 rfl) hf3 (by decide) (by decide) ?_
  refine T_iload (am_dec tL_law_32 20 rfl) rfl ?_
  refine T_i2l (am_dec tL_law_32 21 rfl) ?_
  refine T_lcmp (am_dec tL_law_32 22 rfl) ?_
  exact T_if_eq 2166 (am_dec tL_law_32 23 rfl) rfl (fun _ => fin) (fun h => absurd (by rw [e1, if_neg (Int.lt_irrefl _), if_pos rfl]) h)
theorem wk_gauge {S : am_S} {d u : Nat} {Q : AO → AH → Prop} {W W1 W2 W3 : AH} {i code v kv t : Int} {fs fs2 fs3 : List AV} {f f3 : Nat → Int} (hS : LawS S) (hi : 0 ≤ i ∧ i + 5 < S.1) (hd : 50 ≤ d) (hu : 1 ≤ u) (h0 : W[0]? = some (cO 10 fs)) (hf : W1[844]? = some (cP 2 1 f)) (hM : am_Out S zX11_gauge 40 1 [aR 0, aI (S.2 (i + 1).toNat), aI (S.2 (i + 2).toNat), aI (S.2 (i + 3).toNat), aI (S.2 (i + 4).toNat)] W (am_oc code v) W1) (hc : code = 0 ∨ code = 1 ∨ code = 3) (hW2 : W2 = if code = 0 then W1.set 844 (cP 2 1 (am_up f 0 v)) else W1) (h109 : W2[109]? = some (cO 11 fs2)) (hK : am_Out S zX12_gauge 40 0 [aR 109, aI (S.2 (i + 1).toNat), aI (S.2 (i + 2).toNat), aI (S.2 (i + 3).toNat), aI (S.2 (i + 4).toNat)] W2 (.inl (some (aI kv))) W3) (h109b : W3[109]? = some (cO 11 fs3)) (hT : am_Out S zX12_thrown 40 0 [aR 109] W3 (.inl (some (aI t))) W3) (ht : t = (if code = 0 then 0 else if code = 1 then 1 else 2)) (hf3 : W3[844]? = some (cP 2 1 f3)) (hv : code = 0 → f3 (Int.toNat 0) = v) (hC : code = 0 → v = kv) (kk : am_T S zL_law d (u - 1) Q 3820 (LL i none none) [] W3) : am_T S zL_law d u Q 2169 (LL i none none) [] W := by
  have fin : am_T S zL_law d (u - 1) Q 2258 (LL i (some (aI (if code = 0 then 0 else if code = 1 then 1 else 2))) (some (aI kv))) [] W3 := T_goto 3820 (am_dec tL_law_34 11 rfl) rfl (T_weak LL_w kk)
  refine T_aload_n (am_dec tL_law_32 27 rfl) rfl ?_
  refine LA_arg (k := 1) (am_dec tL_law_32 28 rfl) (am_dec tL_law_32 29 rfl) (am_dec tL_law_32 30 rfl) (am_dec tL_law_32 31 rfl) (am_dec tL_law_32 32 rfl) hS hi ⟨by decide, by decide⟩ (?_ : am_T _ _ _ _ _ 2176 _ _ _)
  refine LA_arg (k := 2) (am_dec tL_law_32 33 rfl) (am_dec tL_law_32 34 rfl) (am_dec tL_law_32 35 rfl) (am_dec tL_law_32 36 rfl) (am_dec tL_law_32 37 rfl) hS hi ⟨by decide, by decide⟩ (?_ : am_T _ _ _ _ _ 2182 _ _ _)
  refine LA_arg (k := 3) (am_dec tL_law_32 38 rfl) (am_dec tL_law_32 39 rfl) (am_dec tL_law_33 0 rfl) (am_dec tL_law_33 1 rfl) (am_dec tL_law_33 2 rfl) hS hi ⟨by decide, by decide⟩ (?_ : am_T _ _ _ _ _ 2188 _ _ _)
  refine LA_arg (k := 4) (am_dec tL_law_33 3 rfl) (am_dec tL_law_33 4 rfl) (am_dec tL_law_33 5 rfl) (am_dec tL_law_33 6 rfl) (am_dec tL_law_33 7 rfl) hS hi ⟨by decide, by decide⟩ (?_ : am_T _ _ _ _ _ 2194 _ _ _)
  refine T_aload_n (am_dec tL_law_33 8 rfl) rfl ?_
  refine T_callW (d' := 41) (u' := 1) (as := [aR 0, aI (S.2 (i + 1).toNat), aI (S.2 (i + 2).toNat), aI (S.2 (i + 3).toNat), aI (S.2 (i + 4).toNat), aR 844]) rfl (am_dec tL_law_33 9 rfl) lkL_252 rfl (Nat.le_of_ble_eq_true rfl) (by omega) hu (am_OutWE (wr_gauge (d := 40) (W1 := W1) (f := f) _ _ _ _ h0 hf hM hc) hW2.symm) ?_
  refine T_istore (ls' := LL i (some (aI (if code = 0 then 0 else if code = 1 then 1 else 2))) none) (am_dec tL_law_33 10 rfl) (by decide) rfl ?_
  refine T_aload_n (am_dec tL_law_33 11 rfl) rfl ?_
  refine LA_arg (k := 1) (am_dec tL_law_33 12 rfl) (am_dec tL_law_33 13 rfl) (am_dec tL_law_33 14 rfl) (am_dec tL_law_33 15 rfl) (am_dec tL_law_33 16 rfl) hS hi ⟨by decide, by decide⟩ (?_ : am_T _ _ _ _ _ 2207 _ _ _)
  refine LA_arg (k := 2) (am_dec tL_law_33 17 rfl) (am_dec tL_law_33 18 rfl) (am_dec tL_law_33 19 rfl) (am_dec tL_law_33 20 rfl) (am_dec tL_law_33 21 rfl) hS hi ⟨by decide, by decide⟩ (?_ : am_T _ _ _ _ _ 2213 _ _ _)
  refine LA_arg (k := 3) (am_dec tL_law_33 22 rfl) (am_dec tL_law_33 23 rfl) (am_dec tL_law_33 24 rfl) (am_dec tL_law_33 25 rfl) (am_dec tL_law_33 26 rfl) hS hi ⟨by decide, by decide⟩ (?_ : am_T _ _ _ _ _ 2219 _ _ _)
  refine LA_arg (k := 4) (am_dec tL_law_33 27 rfl) (am_dec tL_law_33 28 rfl) (am_dec tL_law_33 29 rfl) (am_dec tL_law_33 30 rfl) (am_dec tL_law_33 31 rfl) hS hi ⟨by decide, by decide⟩ (?_ : am_T _ _ _ _ _ 2225 _ _ _)
  refine T_callV (d' := 40) (as := [aI (S.2 (i + 1).toNat), aI (S.2 (i + 2).toNat), aI (S.2 (i + 3).toNat), aI (S.2 (i + 4).toNat)]) rfl (am_dec tL_law_33 32 rfl) lkL_254 h109 rfl rfl (Nat.le_of_ble_eq_true rfl) (by omega) hK (fun _ => ?_)
  refine T_istore (ls' := LL i (some (aI (if code = 0 then 0 else if code = 1 then 1 else 2))) (some (aI kv))) (am_dec tL_law_33 33 rfl) (by decide) rfl ?_
  refine T_aload_n (am_dec tL_law_33 34 rfl) rfl ?_
  refine T_callV (d' := 40) (as := []) rfl (am_dec tL_law_33 35 rfl) lkL_168 h109b rfl rfl (Nat.le_of_ble_eq_true rfl) (by omega) hT (fun _ => ?_)
  refine T_iload (am_dec tL_law_33 36 rfl) rfl ?_
  refine T_icmp_eq 2241 (am_dec tL_law_33 37 rfl) rfl (fun _ => ?_) (fun h => absurd ht h)
  refine T_iload (am_dec tL_law_34 0 rfl) rfl ?_
  refine T_if_ne 2258 (am_dec tL_law_34 1 rfl) rfl (fun _ => fin) (fun g => ?_)
  have e0 : code = 0 := by
    by_cases e : code = 0
    · exact e
    · rw [if_neg e] at g
      split at g <;> omega
  have e1 : f3 (Int.toNat 0) = kv := (hv e0).trans (hC e0)
  refine T_aload_n (am_dec tL_law_34 2 rfl) rfl ?_
  refine T_iconst 0 (am_dec tL_law_34 3 rfl) rfl ⟨by decide, by decide⟩ ?_
  refine T_laload (n := 1) (f := f3) (am_dec tL_law_34 4 rfl) hf3 (by decide) (by decide) ?_
  refine T_iload (am_dec tL_law_34 5 rfl) rfl ?_
  refine T_i2l (am_dec tL_law_34 6 rfl) ?_
  refine T_lcmp (am_dec tL_law_34 7 rfl) ?_
  exact T_if_eq 2258 (am_dec tL_law_34 8 rfl) rfl (fun _ => fin) (fun h => absurd (by rw [e1, if_neg (Int.lt_irrefl _), if_pos rfl]) h)
theorem wk_right {S : am_S} {d u : Nat} {Q : AO → AH → Prop} {W W1 W3 : AH} {i v kv : Int} {fs fs2 : List AV} (hS : LawS S) (hi : 0 ≤ i ∧ i + 5 < S.1) (hd : 50 ≤ d) (h0 : W[0]? = some (cO 10 fs)) (hM : am_Out S zX11_right 40 0 [aR 0] W (.inl (some (aI v))) W1) (h109 : W1[109]? = some (cO 11 fs2)) (hK : am_Out S zX12_right 40 0 [aR 109] W1 (.inl (some (aI kv))) W3) (hC : v = kv) (kk : am_T S zL_law d u Q 3820 (LL i none none) [] W3) : am_T S zL_law d u Q 2261 (LL i none none) [] W := by
  refine T_aload_n (am_dec tL_law_34 12 rfl) rfl ?_
  refine T_callV (d' := 40) (as := []) rfl (am_dec tL_law_34 13 rfl) lkL_255 h0 rfl rfl (Nat.le_of_ble_eq_true rfl) (by omega) hM (fun _ => ?_)
  refine T_aload_n (am_dec tL_law_34 14 rfl) rfl ?_
  refine T_callV (d' := 40) (as := []) rfl (am_dec tL_law_34 15 rfl) lkL_259 h109 rfl rfl (Nat.le_of_ble_eq_true rfl) (by omega) hK (fun _ => ?_)
  exact T_icmp_eq 3820 (am_dec tL_law_34 16 rfl) rfl (fun _ => kk) (fun h => absurd hC h)
theorem wk_found {S : am_S} {d u : Nat} {Q : AO → AH → Prop} {W W1 W2 W3 : AH} {i code v kv t : Int} {fs fs2 fs3 : List AV} {f f3 : Nat → Int} (hS : LawS S) (hi : 0 ≤ i ∧ i + 5 < S.1) (hd : 50 ≤ d) (hu : 1 ≤ u) (h0 : W[0]? = some (cO 10 fs)) (hf : W1[844]? = some (cP 2 1 f)) (hM : am_Out S zX11_found 40 1 [aR 0, aI (S.2 (i + 1).toNat)] W (am_oc code v) W1) (hc : code = 0 ∨ code = 3) (hW2 : W2 = if code = 0 then W1.set 844 (cP 2 1 (am_up f 0 v)) else W1) (h109 : W2[109]? = some (cO 11 fs2)) (hK : am_Out S zX12_found 40 0 [aR 109, aI (S.2 (i + 1).toNat)] W2 (.inl (some (aI kv))) W3) (h109b : W3[109]? = some (cO 11 fs3)) (hT : am_Out S zX12_thrown 40 0 [aR 109] W3 (.inl (some (aI t))) W3) (ht : t = (if code = 0 then 0 else if code = 3 then 1 else 2)) (hf3 : W3[844]? = some (cP 2 1 f3)) (hv : code = 0 → f3 (Int.toNat 0) = v) (hC : code = 0 → v = kv) (kk : am_T S zL_law d (u - 1) Q 3820 (LL i none none) [] W3) : am_T S zL_law d u Q 2274 (LL i none none) [] W := by
  have fin : am_T S zL_law d (u - 1) Q 2327 (LL i (some (aI (if code = 0 then 0 else if code = 3 then 1 else 2))) (some (aI kv))) [] W3 := T_goto 3820 (am_dec tL_law_35 13 rfl) rfl (T_weak LL_w kk)
  refine T_aload_n (am_dec tL_law_34 19 rfl) rfl ?_
  refine LA_arg (k := 1) (am_dec tL_law_34 20 rfl) (am_dec tL_law_34 21 rfl) (am_dec tL_law_34 22 rfl) (am_dec tL_law_34 23 rfl) (am_dec tL_law_34 24 rfl) hS hi ⟨by decide, by decide⟩ (?_ : am_T _ _ _ _ _ 2281 _ _ _)
  refine T_aload_n (am_dec tL_law_34 25 rfl) rfl ?_
  refine T_callW (d' := 41) (u' := 1) (as := [aR 0, aI (S.2 (i + 1).toNat), aR 844]) rfl (am_dec tL_law_34 26 rfl) lkL_260 rfl (Nat.le_of_ble_eq_true rfl) (by omega) hu (am_OutWE (wr_found (d := 40) (W1 := W1) (f := f) _ h0 hf hM hc) hW2.symm) ?_
  refine T_istore (ls' := LL i (some (aI (if code = 0 then 0 else if code = 3 then 1 else 2))) none) (am_dec tL_law_34 27 rfl) (by decide) rfl ?_
  refine T_aload_n (am_dec tL_law_34 28 rfl) rfl ?_
  refine LA_arg (k := 1) (am_dec tL_law_34 29 rfl) (am_dec tL_law_34 30 rfl) (am_dec tL_law_34 31 rfl) (am_dec tL_law_34 32 rfl) (am_dec tL_law_34 33 rfl) hS hi ⟨by decide, by decide⟩ (?_ : am_T _ _ _ _ _ 2294 _ _ _)
  refine T_callV (d' := 40) (as := [aI (S.2 (i + 1).toNat)]) rfl (am_dec tL_law_34 34 rfl) lkL_262 h109 rfl rfl (Nat.le_of_ble_eq_true rfl) (by omega) hK (fun _ => ?_)
  refine T_istore (ls' := LL i (some (aI (if code = 0 then 0 else if code = 3 then 1 else 2))) (some (aI kv))) (am_dec tL_law_34 35 rfl) (by decide) rfl ?_
  refine T_aload_n (am_dec tL_law_34 36 rfl) rfl ?_
  refine T_callV (d' := 40) (as := []) rfl (am_dec tL_law_34 37 rfl) lkL_168 h109b rfl rfl (Nat.le_of_ble_eq_true rfl) (by omega) hT (fun _ => ?_)
  refine T_iload (am_dec tL_law_34 38 rfl) rfl ?_
  refine T_icmp_eq 2310 (am_dec tL_law_34 39 rfl) rfl (fun _ => ?_) (fun h => absurd ht h)
  refine T_iload (am_dec tL_law_35 2 rfl) rfl ?_
  refine T_if_ne 2327 (am_dec tL_law_35 3 rfl) rfl (fun _ => fin) (fun g => ?_)
  have e0 : code = 0 := by
    by_cases e : code = 0
    · exact e
    · rw [if_neg e] at g
      split at g <;> omega
  have e1 : f3 (Int.toNat 0) = kv := (hv e0).trans (hC e0)
  refine T_aload_n (am_dec tL_law_35 4 rfl) rfl ?_
  refine T_iconst 0 (am_dec tL_law_35 5 rfl) rfl ⟨by decide, by decide⟩ ?_
  refine T_laload (n := 1) (f := f3) (am_dec tL_law_35 6 rfl) hf3 (by decide) (by decide) ?_
  refine T_iload (am_dec tL_law_35 7 rfl) rfl ?_
  refine T_i2l (am_dec tL_law_35 8 rfl) ?_
  refine T_lcmp (am_dec tL_law_35 9 rfl) ?_
  exact T_if_eq 2327 (am_dec tL_law_35 10 rfl) rfl (fun _ => fin) (fun h => absurd (by rw [e1, if_neg (Int.lt_irrefl _), if_pos rfl]) h)
theorem wk_clear {S : am_S} {d u : Nat} {Q : AO → AH → Prop} {W W1 W3 : AH} {i v kv : Int} {fs fs2 : List AV} (hS : LawS S) (hi : 0 ≤ i ∧ i + 5 < S.1) (hd : 50 ≤ d) (h0 : W[0]? = some (cO 10 fs)) (hM : am_Out S zX11_clear 40 0 [aR 0] W (.inl (some (aI v))) W1) (h109 : W1[109]? = some (cO 11 fs2)) (hK : am_Out S zX12_clear 40 0 [aR 109] W1 (.inl (some (aI kv))) W3) (hC : v = kv) (kk : am_T S zL_law d u Q 3820 (LL i none none) [] W3) : am_T S zL_law d u Q 2330 (LL i none none) [] W := by
  refine T_aload_n (am_dec tL_law_35 14 rfl) rfl ?_
  refine T_callV (d' := 40) (as := []) rfl (am_dec tL_law_35 15 rfl) lkL_263 h0 rfl rfl (Nat.le_of_ble_eq_true rfl) (by omega) hM (fun _ => ?_)
  refine T_aload_n (am_dec tL_law_35 16 rfl) rfl ?_
  refine T_callV (d' := 40) (as := []) rfl (am_dec tL_law_35 17 rfl) lkL_266 h109 rfl rfl (Nat.le_of_ble_eq_true rfl) (by omega) hK (fun _ => ?_)
  exact T_icmp_eq 3820 (am_dec tL_law_35 18 rfl) rfl (fun _ => kk) (fun h => absurd hC h)
theorem wk_doubt {S : am_S} {d u : Nat} {Q : AO → AH → Prop} {W W1 W2 W3 : AH} {i code v kv t : Int} {fs fs2 fs3 : List AV} {f f3 : Nat → Int} (hS : LawS S) (hi : 0 ≤ i ∧ i + 5 < S.1) (hd : 50 ≤ d) (hu : 1 ≤ u) (h0 : W[0]? = some (cO 10 fs)) (hf : W1[844]? = some (cP 2 1 f)) (hM : am_Out S zX11_doubt 40 1 [aR 0, aI (S.2 (i + 1).toNat), aI (S.2 (i + 2).toNat), aI (S.2 (i + 3).toNat), aI (S.2 (i + 4).toNat), aI (S.2 (i + 5).toNat)] W (am_oc code v) W1) (hc : code = 0 ∨ code = 1 ∨ code = 3) (hW2 : W2 = if code = 0 then W1.set 844 (cP 2 1 (am_up f 0 v)) else W1) (h109 : W2[109]? = some (cO 11 fs2)) (hK : am_Out S zX12_doubt 40 0 [aR 109, aI (S.2 (i + 1).toNat), aI (S.2 (i + 2).toNat), aI (S.2 (i + 3).toNat), aI (S.2 (i + 4).toNat), aI (S.2 (i + 5).toNat)] W2 (.inl (some (aI kv))) W3) (h109b : W3[109]? = some (cO 11 fs3)) (hT : am_Out S zX12_thrown 40 0 [aR 109] W3 (.inl (some (aI t))) W3) (ht : t = (if code = 0 then 0 else if code = 1 then 1 else 2)) (hf3 : W3[844]? = some (cP 2 1 f3)) (hv : code = 0 → f3 (Int.toNat 0) = v) (hC : code = 0 → v = kv) (kk : am_T S zL_law d (u - 1) Q 3820 (LL i none none) [] W3) : am_T S zL_law d u Q 2343 (LL i none none) [] W := by
  have fin : am_T S zL_law d (u - 1) Q 2444 (LL i (some (aI (if code = 0 then 0 else if code = 1 then 1 else 2))) (some (aI kv))) [] W3 := T_goto 3820 (am_dec tL_law_37 15 rfl) rfl (T_weak LL_w kk)
  refine T_aload_n (am_dec tL_law_35 21 rfl) rfl ?_
  refine LA_arg (k := 1) (am_dec tL_law_35 22 rfl) (am_dec tL_law_35 23 rfl) (am_dec tL_law_35 24 rfl) (am_dec tL_law_35 25 rfl) (am_dec tL_law_35 26 rfl) hS hi ⟨by decide, by decide⟩ (?_ : am_T _ _ _ _ _ 2350 _ _ _)
  refine LA_arg (k := 2) (am_dec tL_law_35 27 rfl) (am_dec tL_law_35 28 rfl) (am_dec tL_law_35 29 rfl) (am_dec tL_law_35 30 rfl) (am_dec tL_law_35 31 rfl) hS hi ⟨by decide, by decide⟩ (?_ : am_T _ _ _ _ _ 2356 _ _ _)
  refine LA_arg (k := 3) (am_dec tL_law_35 32 rfl) (am_dec tL_law_35 33 rfl) (am_dec tL_law_35 34 rfl) (am_dec tL_law_35 35 rfl) (am_dec tL_law_35 36 rfl) hS hi ⟨by decide, by decide⟩ (?_ : am_T _ _ _ _ _ 2362 _ _ _)
  refine LA_arg (k := 4) (am_dec tL_law_35 37 rfl) (am_dec tL_law_35 38 rfl) (am_dec tL_law_35 39 rfl) (am_dec tL_law_36 0 rfl) (am_dec tL_law_36 1 rfl) hS hi ⟨by decide, by decide⟩ (?_ : am_T _ _ _ _ _ 2368 _ _ _)
  refine LA_arg (k := 5) (am_dec tL_law_36 2 rfl) (am_dec tL_law_36 3 rfl) (am_dec tL_law_36 4 rfl) (am_dec tL_law_36 5 rfl) (am_dec tL_law_36 6 rfl) hS hi ⟨by decide, by decide⟩ (?_ : am_T _ _ _ _ _ 2374 _ _ _)
  refine T_aload_n (am_dec tL_law_36 7 rfl) rfl ?_
  refine T_callW (d' := 41) (u' := 1) (as := [aR 0, aI (S.2 (i + 1).toNat), aI (S.2 (i + 2).toNat), aI (S.2 (i + 3).toNat), aI (S.2 (i + 4).toNat), aI (S.2 (i + 5).toNat), aR 844]) rfl (am_dec tL_law_36 8 rfl) lkL_267 rfl (Nat.le_of_ble_eq_true rfl) (by omega) hu (am_OutWE (wr_doubt (d := 40) (W1 := W1) (f := f) _ _ _ _ _ h0 hf hM hc) hW2.symm) ?_
  refine T_istore (ls' := LL i (some (aI (if code = 0 then 0 else if code = 1 then 1 else 2))) none) (am_dec tL_law_36 9 rfl) (by decide) rfl ?_
  refine T_aload_n (am_dec tL_law_36 10 rfl) rfl ?_
  refine LA_arg (k := 1) (am_dec tL_law_36 11 rfl) (am_dec tL_law_36 12 rfl) (am_dec tL_law_36 13 rfl) (am_dec tL_law_36 14 rfl) (am_dec tL_law_36 15 rfl) hS hi ⟨by decide, by decide⟩ (?_ : am_T _ _ _ _ _ 2387 _ _ _)
  refine LA_arg (k := 2) (am_dec tL_law_36 16 rfl) (am_dec tL_law_36 17 rfl) (am_dec tL_law_36 18 rfl) (am_dec tL_law_36 19 rfl) (am_dec tL_law_36 20 rfl) hS hi ⟨by decide, by decide⟩ (?_ : am_T _ _ _ _ _ 2393 _ _ _)
  refine LA_arg (k := 3) (am_dec tL_law_36 21 rfl) (am_dec tL_law_36 22 rfl) (am_dec tL_law_36 23 rfl) (am_dec tL_law_36 24 rfl) (am_dec tL_law_36 25 rfl) hS hi ⟨by decide, by decide⟩ (?_ : am_T _ _ _ _ _ 2399 _ _ _)
  refine LA_arg (k := 4) (am_dec tL_law_36 26 rfl) (am_dec tL_law_36 27 rfl) (am_dec tL_law_36 28 rfl) (am_dec tL_law_36 29 rfl) (am_dec tL_law_36 30 rfl) hS hi ⟨by decide, by decide⟩ (?_ : am_T _ _ _ _ _ 2405 _ _ _)
  refine LA_arg (k := 5) (am_dec tL_law_36 31 rfl) (am_dec tL_law_36 32 rfl) (am_dec tL_law_36 33 rfl) (am_dec tL_law_36 34 rfl) (am_dec tL_law_36 35 rfl) hS hi ⟨by decide, by decide⟩ (?_ : am_T _ _ _ _ _ 2411 _ _ _)
  refine T_callV (d' := 40) (as := [aI (S.2 (i + 1).toNat), aI (S.2 (i + 2).toNat), aI (S.2 (i + 3).toNat), aI (S.2 (i + 4).toNat), aI (S.2 (i + 5).toNat)]) rfl (am_dec tL_law_36 36 rfl) lkL_269 h109 rfl rfl (Nat.le_of_ble_eq_true rfl) (by omega) hK (fun _ => ?_)
  refine T_istore (ls' := LL i (some (aI (if code = 0 then 0 else if code = 1 then 1 else 2))) (some (aI kv))) (am_dec tL_law_36 37 rfl) (by decide) rfl ?_
  refine T_aload_n (am_dec tL_law_36 38 rfl) rfl ?_
  refine T_callV (d' := 40) (as := []) rfl (am_dec tL_law_36 39 rfl) lkL_168 h109b rfl rfl (Nat.le_of_ble_eq_true rfl) (by omega) hT (fun _ => ?_)
  refine T_iload (am_dec tL_law_37 0 rfl) rfl ?_
  refine T_icmp_eq 2427 (am_dec tL_law_37 1 rfl) rfl (fun _ => ?_) (fun h => absurd ht h)
  refine T_iload (am_dec tL_law_37 4 rfl) rfl ?_
  refine T_if_ne 2444 (am_dec tL_law_37 5 rfl) rfl (fun _ => fin) (fun g => ?_)
  have e0 : code = 0 := by
    by_cases e : code = 0
    · exact e
    · rw [if_neg e] at g
      split at g <;> omega
  have e1 : f3 (Int.toNat 0) = kv := (hv e0).trans (hC e0)
  refine T_aload_n (am_dec tL_law_37 6 rfl) rfl ?_
  refine T_iconst 0 (am_dec tL_law_37 7 rfl) rfl ⟨by decide, by decide⟩ ?_
  refine T_laload (n := 1) (f := f3) (am_dec tL_law_37 8 rfl) hf3 (by decide) (by decide) ?_
  refine T_iload (am_dec tL_law_37 9 rfl) rfl ?_
  refine T_i2l (am_dec tL_law_37 10 rfl) ?_
  refine T_lcmp (am_dec tL_law_37 11 rfl) ?_
  exact T_if_eq 2444 (am_dec tL_law_37 12 rfl) rfl (fun _ => fin) (fun h => absurd (by rw [e1, if_neg (Int.lt_irrefl _), if_pos rfl]) h)
theorem wk_span {S : am_S} {d u : Nat} {Q : AO → AH → Prop} {W W1 W2 W3 : AH} {i code v kv t : Int} {fs fs2 fs3 : List AV} {f f3 : Nat → Int} (hS : LawS S) (hi : 0 ≤ i ∧ i + 5 < S.1) (hd : 50 ≤ d) (hu : 1 ≤ u) (h0 : W[0]? = some (cO 10 fs)) (hf : W1[844]? = some (cP 2 1 f)) (hM : am_Out S zX11_span 40 1 [aR 0, aI (S.2 (i + 1).toNat), aI (S.2 (i + 2).toNat), aI (S.2 (i + 3).toNat), aI (S.2 (i + 4).toNat), aI (S.2 (i + 5).toNat)] W (am_oc code v) W1) (hc : code = 0 ∨ code = 2 ∨ code = 3) (hW2 : W2 = if code = 0 then W1.set 844 (cP 2 1 (am_up f 0 v)) else W1) (h109 : W2[109]? = some (cO 11 fs2)) (hK : am_Out S zX12_span 40 0 [aR 109, aI (S.2 (i + 1).toNat), aI (S.2 (i + 2).toNat), aI (S.2 (i + 3).toNat), aI (S.2 (i + 4).toNat), aI (S.2 (i + 5).toNat)] W2 (.inl (some (aI kv))) W3) (h109b : W3[109]? = some (cO 11 fs3)) (hT : am_Out S zX12_thrown 40 0 [aR 109] W3 (.inl (some (aI t))) W3) (ht : t = (if code = 0 then 0 else if code = 2 then 1 else 2)) (hf3 : W3[844]? = some (cP 2 1 f3)) (hv : code = 0 → f3 (Int.toNat 0) = v) (hC : code = 0 → v = kv) (kk : am_T S zL_law d (u - 1) Q 3820 (LL i none none) [] W3) : am_T S zL_law d u Q 2447 (LL i none none) [] W := by
  have fin : am_T S zL_law d (u - 1) Q 2548 (LL i (some (aI (if code = 0 then 0 else if code = 2 then 1 else 2))) (some (aI kv))) [] W3 := T_goto 3820 (am_dec tL_law_39 10 rfl) rfl (T_weak LL_w kk)
  refine T_aload_n (am_dec tL_law_37 16 rfl) rfl ?_
  refine LA_arg (k := 1) (am_dec tL_law_37 17 rfl) (am_dec tL_law_37 18 rfl) (am_dec tL_law_37 19 rfl) (am_dec tL_law_37 20 rfl) (am_dec tL_law_37 21 rfl) hS hi ⟨by decide, by decide⟩ (?_ : am_T _ _ _ _ _ 2454 _ _ _)
  refine LA_arg (k := 2) (am_dec tL_law_37 22 rfl) (am_dec tL_law_37 23 rfl) (am_dec tL_law_37 24 rfl) (am_dec tL_law_37 25 rfl) (am_dec tL_law_37 26 rfl) hS hi ⟨by decide, by decide⟩ (?_ : am_T _ _ _ _ _ 2460 _ _ _)
  refine LA_arg (k := 3) (am_dec tL_law_37 27 rfl) (am_dec tL_law_37 28 rfl) (am_dec tL_law_37 29 rfl) (am_dec tL_law_37 30 rfl) (am_dec tL_law_37 31 rfl) hS hi ⟨by decide, by decide⟩ (?_ : am_T _ _ _ _ _ 2466 _ _ _)
  refine LA_arg (k := 4) (am_dec tL_law_37 32 rfl) (am_dec tL_law_37 33 rfl) (am_dec tL_law_37 34 rfl) (am_dec tL_law_37 35 rfl) (am_dec tL_law_37 36 rfl) hS hi ⟨by decide, by decide⟩ (?_ : am_T _ _ _ _ _ 2472 _ _ _)
  refine LA_arg (k := 5) (am_dec tL_law_37 37 rfl) (am_dec tL_law_37 38 rfl) (am_dec tL_law_37 39 rfl) (am_dec tL_law_38 0 rfl) (am_dec tL_law_38 1 rfl) hS hi ⟨by decide, by decide⟩ (?_ : am_T _ _ _ _ _ 2478 _ _ _)
  refine T_aload_n (am_dec tL_law_38 2 rfl) rfl ?_
  refine T_callW (d' := 41) (u' := 1) (as := [aR 0, aI (S.2 (i + 1).toNat), aI (S.2 (i + 2).toNat), aI (S.2 (i + 3).toNat), aI (S.2 (i + 4).toNat), aI (S.2 (i + 5).toNat), aR 844]) rfl (am_dec tL_law_38 3 rfl) lkL_270 rfl (Nat.le_of_ble_eq_true rfl) (by omega) hu (am_OutWE (wr_span (d := 40) (W1 := W1) (f := f) _ _ _ _ _ h0 hf hM hc) hW2.symm) ?_
  refine T_istore (ls' := LL i (some (aI (if code = 0 then 0 else if code = 2 then 1 else 2))) none) (am_dec tL_law_38 4 rfl) (by decide) rfl ?_
  refine T_aload_n (am_dec tL_law_38 5 rfl) rfl ?_
  refine LA_arg (k := 1) (am_dec tL_law_38 6 rfl) (am_dec tL_law_38 7 rfl) (am_dec tL_law_38 8 rfl) (am_dec tL_law_38 9 rfl) (am_dec tL_law_38 10 rfl) hS hi ⟨by decide, by decide⟩ (?_ : am_T _ _ _ _ _ 2491 _ _ _)
  refine LA_arg (k := 2) (am_dec tL_law_38 11 rfl) (am_dec tL_law_38 12 rfl) (am_dec tL_law_38 13 rfl) (am_dec tL_law_38 14 rfl) (am_dec tL_law_38 15 rfl) hS hi ⟨by decide, by decide⟩ (?_ : am_T _ _ _ _ _ 2497 _ _ _)
  refine LA_arg (k := 3) (am_dec tL_law_38 16 rfl) (am_dec tL_law_38 17 rfl) (am_dec tL_law_38 18 rfl) (am_dec tL_law_38 19 rfl) (am_dec tL_law_38 20 rfl) hS hi ⟨by decide, by decide⟩ (?_ : am_T _ _ _ _ _ 2503 _ _ _)
  refine LA_arg (k := 4) (am_dec tL_law_38 21 rfl) (am_dec tL_law_38 22 rfl) (am_dec tL_law_38 23 rfl) (am_dec tL_law_38 24 rfl) (am_dec tL_law_38 25 rfl) hS hi ⟨by decide, by decide⟩ (?_ : am_T _ _ _ _ _ 2509 _ _ _)
  refine LA_arg (k := 5) (am_dec tL_law_38 26 rfl) (am_dec tL_law_38 27 rfl) (am_dec tL_law_38 28 rfl) (am_dec tL_law_38 29 rfl) (am_dec tL_law_38 30 rfl) hS hi ⟨by decide, by decide⟩ (?_ : am_T _ _ _ _ _ 2515 _ _ _)
  refine T_callV (d' := 40) (as := [aI (S.2 (i + 1).toNat), aI (S.2 (i + 2).toNat), aI (S.2 (i + 3).toNat), aI (S.2 (i + 4).toNat), aI (S.2 (i + 5).toNat)]) rfl (am_dec tL_law_38 31 rfl) lkL_272 h109 rfl rfl (Nat.le_of_ble_eq_true rfl) (by omega) hK (fun _ => ?_)
  refine T_istore (ls' := LL i (some (aI (if code = 0 then 0 else if code = 2 then 1 else 2))) (some (aI kv))) (am_dec tL_law_38 32 rfl) (by decide) rfl ?_
  refine T_aload_n (am_dec tL_law_38 33 rfl) rfl ?_
  refine T_callV (d' := 40) (as := []) rfl (am_dec tL_law_38 34 rfl) lkL_168 h109b rfl rfl (Nat.le_of_ble_eq_true rfl) (by omega) hT (fun _ => ?_)
  refine T_iload (am_dec tL_law_38 35 rfl) rfl ?_
  refine T_icmp_eq 2531 (am_dec tL_law_38 36 rfl) rfl (fun _ => ?_) (fun h => absurd ht h)
  refine T_iload (am_dec tL_law_38 39 rfl) rfl ?_
  refine T_if_ne 2548 (am_dec tL_law_39 0 rfl) rfl (fun _ => fin) (fun g => ?_)
  have e0 : code = 0 := by
    by_cases e : code = 0
    · exact e
    · rw [if_neg e] at g
      split at g <;> omega
  have e1 : f3 (Int.toNat 0) = kv := (hv e0).trans (hC e0)
  refine T_aload_n (am_dec tL_law_39 1 rfl) rfl ?_
  refine T_iconst 0 (am_dec tL_law_39 2 rfl) rfl ⟨by decide, by decide⟩ ?_
  refine T_laload (n := 1) (f := f3) (am_dec tL_law_39 3 rfl) hf3 (by decide) (by decide) ?_
  refine T_iload (am_dec tL_law_39 4 rfl) rfl ?_
  refine T_i2l (am_dec tL_law_39 5 rfl) ?_
  refine T_lcmp (am_dec tL_law_39 6 rfl) ?_
  exact T_if_eq 2548 (am_dec tL_law_39 7 rfl) rfl (fun _ => fin) (fun h => absurd (by rw [e1, if_neg (Int.lt_irrefl _), if_pos rfl]) h)
theorem wk_rule {S : am_S} {d u : Nat} {Q : AO → AH → Prop} {W W1 W2 W3 : AH} {i code v kv t : Int} {fs fs2 fs3 : List AV} {f f3 : Nat → Int} (hS : LawS S) (hi : 0 ≤ i ∧ i + 5 < S.1) (hd : 50 ≤ d) (hu : 1 ≤ u) (h0 : W[0]? = some (cO 10 fs)) (hf : W1[844]? = some (cP 2 1 f)) (hM : am_Out S zX11_rule 40 1 [aR 0, aI (S.2 (i + 1).toNat)] W (am_oc code v) W1) (hc : code = 0 ∨ code = 3) (hW2 : W2 = if code = 0 then W1.set 844 (cP 2 1 (am_up f 0 v)) else W1) (h109 : W2[109]? = some (cO 11 fs2)) (hK : am_Out S zX12_rule 40 0 [aR 109, aI (S.2 (i + 1).toNat)] W2 (.inl (some (aI kv))) W3) (h109b : W3[109]? = some (cO 11 fs3)) (hT : am_Out S zX12_thrown 40 0 [aR 109] W3 (.inl (some (aI t))) W3) (ht : t = (if code = 0 then 0 else if code = 3 then 1 else 2)) (hf3 : W3[844]? = some (cP 2 1 f3)) (hv : code = 0 → f3 (Int.toNat 0) = v) (hC : code = 0 → v = kv) (kk : am_T S zL_law d (u - 1) Q 3820 (LL i none none) [] W3) : am_T S zL_law d u Q 2551 (LL i none none) [] W := by
  have fin : am_T S zL_law d (u - 1) Q 2604 (LL i (some (aI (if code = 0 then 0 else if code = 3 then 1 else 2))) (some (aI kv))) [] W3 := T_goto 3820 (am_dec tL_law_40 5 rfl) rfl (T_weak LL_w kk)
  refine T_aload_n (am_dec tL_law_39 11 rfl) rfl ?_
  refine LA_arg (k := 1) (am_dec tL_law_39 12 rfl) (am_dec tL_law_39 13 rfl) (am_dec tL_law_39 14 rfl) (am_dec tL_law_39 15 rfl) (am_dec tL_law_39 16 rfl) hS hi ⟨by decide, by decide⟩ (?_ : am_T _ _ _ _ _ 2558 _ _ _)
  refine T_aload_n (am_dec tL_law_39 17 rfl) rfl ?_
  refine T_callW (d' := 41) (u' := 1) (as := [aR 0, aI (S.2 (i + 1).toNat), aR 844]) rfl (am_dec tL_law_39 18 rfl) lkL_273 rfl (Nat.le_of_ble_eq_true rfl) (by omega) hu (am_OutWE (wr_rule (d := 40) (W1 := W1) (f := f) _ h0 hf hM hc) hW2.symm) ?_
  refine T_istore (ls' := LL i (some (aI (if code = 0 then 0 else if code = 3 then 1 else 2))) none) (am_dec tL_law_39 19 rfl) (by decide) rfl ?_
  refine T_aload_n (am_dec tL_law_39 20 rfl) rfl ?_
  refine LA_arg (k := 1) (am_dec tL_law_39 21 rfl) (am_dec tL_law_39 22 rfl) (am_dec tL_law_39 23 rfl) (am_dec tL_law_39 24 rfl) (am_dec tL_law_39 25 rfl) hS hi ⟨by decide, by decide⟩ (?_ : am_T _ _ _ _ _ 2571 _ _ _)
  refine T_callV (d' := 40) (as := [aI (S.2 (i + 1).toNat)]) rfl (am_dec tL_law_39 26 rfl) lkL_275 h109 rfl rfl (Nat.le_of_ble_eq_true rfl) (by omega) hK (fun _ => ?_)
  refine T_istore (ls' := LL i (some (aI (if code = 0 then 0 else if code = 3 then 1 else 2))) (some (aI kv))) (am_dec tL_law_39 27 rfl) (by decide) rfl ?_
  refine T_aload_n (am_dec tL_law_39 28 rfl) rfl ?_
  refine T_callV (d' := 40) (as := []) rfl (am_dec tL_law_39 29 rfl) lkL_168 h109b rfl rfl (Nat.le_of_ble_eq_true rfl) (by omega) hT (fun _ => ?_)
  refine T_iload (am_dec tL_law_39 30 rfl) rfl ?_
  refine T_icmp_eq 2587 (am_dec tL_law_39 31 rfl) rfl (fun _ => ?_) (fun h => absurd ht h)
  refine T_iload (am_dec tL_law_39 34 rfl) rfl ?_
  refine T_if_ne 2604 (am_dec tL_law_39 35 rfl) rfl (fun _ => fin) (fun g => ?_)
  have e0 : code = 0 := by
    by_cases e : code = 0
    · exact e
    · rw [if_neg e] at g
      split at g <;> omega
  have e1 : f3 (Int.toNat 0) = kv := (hv e0).trans (hC e0)
  refine T_aload_n (am_dec tL_law_39 36 rfl) rfl ?_
  refine T_iconst 0 (am_dec tL_law_39 37 rfl) rfl ⟨by decide, by decide⟩ ?_
  refine T_laload (n := 1) (f := f3) (am_dec tL_law_39 38 rfl) hf3 (by decide) (by decide) ?_
  refine T_iload (am_dec tL_law_39 39 rfl) rfl ?_
  refine T_i2l (am_dec tL_law_40 0 rfl) ?_
  refine T_lcmp (am_dec tL_law_40 1 rfl) ?_
  exact T_if_eq 2604 (am_dec tL_law_40 2 rfl) rfl (fun _ => fin) (fun h => absurd (by rw [e1, if_neg (Int.lt_irrefl _), if_pos rfl]) h)
theorem wk_let {S : am_S} {d u : Nat} {Q : AO → AH → Prop} {W W1 W2 W3 : AH} {i code v kv t : Int} {fs fs2 fs3 : List AV} {f f3 : Nat → Int} (hS : LawS S) (hi : 0 ≤ i ∧ i + 5 < S.1) (hd : 50 ≤ d) (hu : 1 ≤ u) (h0 : W[0]? = some (cO 10 fs)) (hf : W1[844]? = some (cP 2 1 f)) (hM : am_Out S zX11_let 40 1 [aR 0, aI (S.2 (i + 1).toNat), aI (S.2 (i + 2).toNat), aI (S.2 (i + 3).toNat)] W (am_oc code v) W1) (hc : code = 0 ∨ code = 2 ∨ code = 3) (hW2 : W2 = if code = 0 then W1.set 844 (cP 2 1 (am_up f 0 v)) else W1) (h109 : W2[109]? = some (cO 11 fs2)) (hK : am_Out S zX12_let 40 0 [aR 109, aI (S.2 (i + 1).toNat), aI (S.2 (i + 2).toNat), aI (S.2 (i + 3).toNat)] W2 (.inl (some (aI kv))) W3) (h109b : W3[109]? = some (cO 11 fs3)) (hT : am_Out S zX12_thrown 40 0 [aR 109] W3 (.inl (some (aI t))) W3) (ht : t = (if code = 0 then 0 else if code = 2 then 1 else 2)) (hf3 : W3[844]? = some (cP 2 1 f3)) (hv : code = 0 → f3 (Int.toNat 0) = v) (hC : code = 0 → v = kv) (kk : am_T S zL_law d (u - 1) Q 3820 (LL i none none) [] W3) : am_T S zL_law d u Q 2607 (LL i none none) [] W := by
  have fin : am_T S zL_law d (u - 1) Q 2684 (LL i (some (aI (if code = 0 then 0 else if code = 2 then 1 else 2))) (some (aI kv))) [] W3 := T_goto 3820 (am_dec tL_law_41 20 rfl) rfl (T_weak LL_w kk)
  refine T_aload_n (am_dec tL_law_40 6 rfl) rfl ?_
  refine LA_arg (k := 1) (am_dec tL_law_40 7 rfl) (am_dec tL_law_40 8 rfl) (am_dec tL_law_40 9 rfl) (am_dec tL_law_40 10 rfl) (am_dec tL_law_40 11 rfl) hS hi ⟨by decide, by decide⟩ (?_ : am_T _ _ _ _ _ 2614 _ _ _)
  refine LA_arg (k := 2) (am_dec tL_law_40 12 rfl) (am_dec tL_law_40 13 rfl) (am_dec tL_law_40 14 rfl) (am_dec tL_law_40 15 rfl) (am_dec tL_law_40 16 rfl) hS hi ⟨by decide, by decide⟩ (?_ : am_T _ _ _ _ _ 2620 _ _ _)
  refine LA_arg (k := 3) (am_dec tL_law_40 17 rfl) (am_dec tL_law_40 18 rfl) (am_dec tL_law_40 19 rfl) (am_dec tL_law_40 20 rfl) (am_dec tL_law_40 21 rfl) hS hi ⟨by decide, by decide⟩ (?_ : am_T _ _ _ _ _ 2626 _ _ _)
  refine T_aload_n (am_dec tL_law_40 22 rfl) rfl ?_
  refine T_callW (d' := 41) (u' := 1) (as := [aR 0, aI (S.2 (i + 1).toNat), aI (S.2 (i + 2).toNat), aI (S.2 (i + 3).toNat), aR 844]) rfl (am_dec tL_law_40 23 rfl) lkL_276 rfl (Nat.le_of_ble_eq_true rfl) (by omega) hu (am_OutWE (wr_let (d := 40) (W1 := W1) (f := f) _ _ _ h0 hf hM hc) hW2.symm) ?_
  refine T_istore (ls' := LL i (some (aI (if code = 0 then 0 else if code = 2 then 1 else 2))) none) (am_dec tL_law_40 24 rfl) (by decide) rfl ?_
  refine T_aload_n (am_dec tL_law_40 25 rfl) rfl ?_
  refine LA_arg (k := 1) (am_dec tL_law_40 26 rfl) (am_dec tL_law_40 27 rfl) (am_dec tL_law_40 28 rfl) (am_dec tL_law_40 29 rfl) (am_dec tL_law_40 30 rfl) hS hi ⟨by decide, by decide⟩ (?_ : am_T _ _ _ _ _ 2639 _ _ _)
  refine LA_arg (k := 2) (am_dec tL_law_40 31 rfl) (am_dec tL_law_40 32 rfl) (am_dec tL_law_40 33 rfl) (am_dec tL_law_40 34 rfl) (am_dec tL_law_40 35 rfl) hS hi ⟨by decide, by decide⟩ (?_ : am_T _ _ _ _ _ 2645 _ _ _)
  refine LA_arg (k := 3) (am_dec tL_law_40 36 rfl) (am_dec tL_law_40 37 rfl) (am_dec tL_law_40 38 rfl) (am_dec tL_law_40 39 rfl) (am_dec tL_law_41 0 rfl) hS hi ⟨by decide, by decide⟩ (?_ : am_T _ _ _ _ _ 2651 _ _ _)
  refine T_callV (d' := 40) (as := [aI (S.2 (i + 1).toNat), aI (S.2 (i + 2).toNat), aI (S.2 (i + 3).toNat)]) rfl (am_dec tL_law_41 1 rfl) lkL_278 h109 rfl rfl (Nat.le_of_ble_eq_true rfl) (by omega) hK (fun _ => ?_)
  refine T_istore (ls' := LL i (some (aI (if code = 0 then 0 else if code = 2 then 1 else 2))) (some (aI kv))) (am_dec tL_law_41 2 rfl) (by decide) rfl ?_
  refine T_aload_n (am_dec tL_law_41 3 rfl) rfl ?_
  refine T_callV (d' := 40) (as := []) rfl (am_dec tL_law_41 4 rfl) lkL_168 h109b rfl rfl (Nat.le_of_ble_eq_true rfl) (by omega) hT (fun _ => ?_)
  refine T_iload (am_dec tL_law_41 5 rfl) rfl ?_
  refine T_icmp_eq 2667 (am_dec tL_law_41 6 rfl) rfl (fun _ => ?_) (fun h => absurd ht h)
  refine T_iload (am_dec tL_law_41 9 rfl) rfl ?_
  refine T_if_ne 2684 (am_dec tL_law_41 10 rfl) rfl (fun _ => fin) (fun g => ?_)
  have e0 : code = 0 := by
    by_cases e : code = 0
    · exact e
    · rw [if_neg e] at g
      split at g <;> omega
  have e1 : f3 (Int.toNat 0) = kv := (hv e0).trans (hC e0)
  refine T_aload_n (am_dec tL_law_41 11 rfl) rfl ?_
  refine T_iconst 0 (am_dec tL_law_41 12 rfl) rfl ⟨by decide, by decide⟩ ?_
  refine T_laload (n := 1) (f := f3) (am_dec tL_law_41 13 rfl) hf3 (by decide) (by decide) ?_
  refine T_iload (am_dec tL_law_41 14 rfl) rfl ?_
  refine T_i2l (am_dec tL_law_41 15 rfl) ?_
  refine T_lcmp (am_dec tL_law_41 16 rfl) ?_
  exact T_if_eq 2684 (am_dec tL_law_41 17 rfl) rfl (fun _ => fin) (fun h => absurd (by rw [e1, if_neg (Int.lt_irrefl _), if_pos rfl]) h)
theorem wk_ruled {S : am_S} {d u : Nat} {Q : AO → AH → Prop} {W W1 W2 W3 : AH} {i code v kv t : Int} {fs fs2 fs3 : List AV} {f f3 : Nat → Int} (hS : LawS S) (hi : 0 ≤ i ∧ i + 5 < S.1) (hd : 50 ≤ d) (hu : 1 ≤ u) (h0 : W[0]? = some (cO 10 fs)) (hf : W1[844]? = some (cP 2 1 f)) (hM : am_Out S zX11_ruled 40 1 [aR 0, aI (S.2 (i + 1).toNat), aI (S.2 (i + 2).toNat), aI (S.2 (i + 3).toNat)] W (am_oc code v) W1) (hc : code = 0 ∨ code = 2 ∨ code = 3) (hW2 : W2 = if code = 0 then W1.set 844 (cP 2 1 (am_up f 0 v)) else W1) (h109 : W2[109]? = some (cO 11 fs2)) (hK : am_Out S zX12_ruled 40 0 [aR 109, aI (S.2 (i + 1).toNat), aI (S.2 (i + 2).toNat), aI (S.2 (i + 3).toNat)] W2 (.inl (some (aI kv))) W3) (h109b : W3[109]? = some (cO 11 fs3)) (hT : am_Out S zX12_thrown 40 0 [aR 109] W3 (.inl (some (aI t))) W3) (ht : t = (if code = 0 then 0 else if code = 2 then 1 else 2)) (hf3 : W3[844]? = some (cP 2 1 f3)) (hv : code = 0 → f3 (Int.toNat 0) = v) (hC : code = 0 → v = kv) (kk : am_T S zL_law d (u - 1) Q 3820 (LL i none none) [] W3) : am_T S zL_law d u Q 2687 (LL i none none) [] W := by
  have fin : am_T S zL_law d (u - 1) Q 2764 (LL i (some (aI (if code = 0 then 0 else if code = 2 then 1 else 2))) (some (aI kv))) [] W3 := T_goto 3820 (am_dec tL_law_42 35 rfl) rfl (T_weak LL_w kk)
  refine T_aload_n (am_dec tL_law_41 21 rfl) rfl ?_
  refine LA_arg (k := 1) (am_dec tL_law_41 22 rfl) (am_dec tL_law_41 23 rfl) (am_dec tL_law_41 24 rfl) (am_dec tL_law_41 25 rfl) (am_dec tL_law_41 26 rfl) hS hi ⟨by decide, by decide⟩ (?_ : am_T _ _ _ _ _ 2694 _ _ _)
  refine LA_arg (k := 2) (am_dec tL_law_41 27 rfl) (am_dec tL_law_41 28 rfl) (am_dec tL_law_41 29 rfl) (am_dec tL_law_41 30 rfl) (am_dec tL_law_41 31 rfl) hS hi ⟨by decide, by decide⟩ (?_ : am_T _ _ _ _ _ 2700 _ _ _)
  refine LA_arg (k := 3) (am_dec tL_law_41 32 rfl) (am_dec tL_law_41 33 rfl) (am_dec tL_law_41 34 rfl) (am_dec tL_law_41 35 rfl) (am_dec tL_law_41 36 rfl) hS hi ⟨by decide, by decide⟩ (?_ : am_T _ _ _ _ _ 2706 _ _ _)
  refine T_aload_n (am_dec tL_law_41 37 rfl) rfl ?_
  refine T_callW (d' := 41) (u' := 1) (as := [aR 0, aI (S.2 (i + 1).toNat), aI (S.2 (i + 2).toNat), aI (S.2 (i + 3).toNat), aR 844]) rfl (am_dec tL_law_41 38 rfl) lkL_279 rfl (Nat.le_of_ble_eq_true rfl) (by omega) hu (am_OutWE (wr_ruled (d := 40) (W1 := W1) (f := f) _ _ _ h0 hf hM hc) hW2.symm) ?_
  refine T_istore (ls' := LL i (some (aI (if code = 0 then 0 else if code = 2 then 1 else 2))) none) (am_dec tL_law_41 39 rfl) (by decide) rfl ?_
  refine T_aload_n (am_dec tL_law_42 0 rfl) rfl ?_
  refine LA_arg (k := 1) (am_dec tL_law_42 1 rfl) (am_dec tL_law_42 2 rfl) (am_dec tL_law_42 3 rfl) (am_dec tL_law_42 4 rfl) (am_dec tL_law_42 5 rfl) hS hi ⟨by decide, by decide⟩ (?_ : am_T _ _ _ _ _ 2719 _ _ _)
  refine LA_arg (k := 2) (am_dec tL_law_42 6 rfl) (am_dec tL_law_42 7 rfl) (am_dec tL_law_42 8 rfl) (am_dec tL_law_42 9 rfl) (am_dec tL_law_42 10 rfl) hS hi ⟨by decide, by decide⟩ (?_ : am_T _ _ _ _ _ 2725 _ _ _)
  refine LA_arg (k := 3) (am_dec tL_law_42 11 rfl) (am_dec tL_law_42 12 rfl) (am_dec tL_law_42 13 rfl) (am_dec tL_law_42 14 rfl) (am_dec tL_law_42 15 rfl) hS hi ⟨by decide, by decide⟩ (?_ : am_T _ _ _ _ _ 2731 _ _ _)
  refine T_callV (d' := 40) (as := [aI (S.2 (i + 1).toNat), aI (S.2 (i + 2).toNat), aI (S.2 (i + 3).toNat)]) rfl (am_dec tL_law_42 16 rfl) lkL_281 h109 rfl rfl (Nat.le_of_ble_eq_true rfl) (by omega) hK (fun _ => ?_)
  refine T_istore (ls' := LL i (some (aI (if code = 0 then 0 else if code = 2 then 1 else 2))) (some (aI kv))) (am_dec tL_law_42 17 rfl) (by decide) rfl ?_
  refine T_aload_n (am_dec tL_law_42 18 rfl) rfl ?_
  refine T_callV (d' := 40) (as := []) rfl (am_dec tL_law_42 19 rfl) lkL_168 h109b rfl rfl (Nat.le_of_ble_eq_true rfl) (by omega) hT (fun _ => ?_)
  refine T_iload (am_dec tL_law_42 20 rfl) rfl ?_
  refine T_icmp_eq 2747 (am_dec tL_law_42 21 rfl) rfl (fun _ => ?_) (fun h => absurd ht h)
  refine T_iload (am_dec tL_law_42 24 rfl) rfl ?_
  refine T_if_ne 2764 (am_dec tL_law_42 25 rfl) rfl (fun _ => fin) (fun g => ?_)
  have e0 : code = 0 := by
    by_cases e : code = 0
    · exact e
    · rw [if_neg e] at g
      split at g <;> omega
  have e1 : f3 (Int.toNat 0) = kv := (hv e0).trans (hC e0)
  refine T_aload_n (am_dec tL_law_42 26 rfl) rfl ?_
  refine T_iconst 0 (am_dec tL_law_42 27 rfl) rfl ⟨by decide, by decide⟩ ?_
  refine T_laload (n := 1) (f := f3) (am_dec tL_law_42 28 rfl) hf3 (by decide) (by decide) ?_
  refine T_iload (am_dec tL_law_42 29 rfl) rfl ?_
  refine T_i2l (am_dec tL_law_42 30 rfl) ?_
  refine T_lcmp (am_dec tL_law_42 31 rfl) ?_
  exact T_if_eq 2764 (am_dec tL_law_42 32 rfl) rfl (fun _ => fin) (fun h => absurd (by rw [e1, if_neg (Int.lt_irrefl _), if_pos rfl]) h)
