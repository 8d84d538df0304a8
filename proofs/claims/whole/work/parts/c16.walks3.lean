/-! THE LAW: the walks, to their end -/
theorem wk_brings {S : am_S} {d u : Nat} {Q : AO → AH → Prop} {W W1 W2 W3 : AH} {i code v kv t : Int} {fs fs2 fs3 : List AV} {f f3 : Nat → Int} (hS : LawS S) (hi : 0 ≤ i ∧ i + 5 < S.1) (hd : 50 ≤ d) (hu : 1 ≤ u) (h0 : W[0]? = some (cO 10 fs)) (hf : W1[844]? = some (cP 2 1 f)) (hM : am_Out S zX11_brings 40 1 [aR 0, aI (S.2 (i + 1).toNat), aI (S.2 (i + 2).toNat), aI (S.2 (i + 3).toNat)] W (am_oc code v) W1) (hc : code = 0 ∨ code = 2 ∨ code = 3) (hW2 : W2 = if code = 0 then W1.set 844 (cP 2 1 (am_up f 0 v)) else W1) (h109 : W2[109]? = some (cO 11 fs2)) (hK : am_Out S zX12_brings 40 0 [aR 109, aI (S.2 (i + 1).toNat), aI (S.2 (i + 2).toNat), aI (S.2 (i + 3).toNat)] W2 (.inl (some (aI kv))) W3) (h109b : W3[109]? = some (cO 11 fs3)) (hT : am_Out S zX12_thrown 40 0 [aR 109] W3 (.inl (some (aI t))) W3) (ht : t = (if code = 0 then 0 else if code = 2 then 1 else 2)) (hf3 : W3[844]? = some (cP 2 1 f3)) (hv : code = 0 → f3 (Int.toNat 0) = v) (hC : code = 0 → v = kv) (kk : am_T S zL_law d (u - 1) Q 3820 (LL i none none) [] W3) : am_T S zL_law d u Q 2767 (LL i none none) [] W := by
  have fin : am_T S zL_law d (u - 1) Q 2844 (LL i (some (aI (if code = 0 then 0 else if code = 2 then 1 else 2))) (some (aI kv))) [] W3 := T_goto 3820 (am_dec tL_law_44 10 rfl) rfl (T_weak LL_w kk)
  refine T_aload_n (am_dec tL_law_42 36 rfl) rfl ?_
  refine LA_arg (k := 1) (am_dec tL_law_42 37 rfl) (am_dec tL_law_42 38 rfl) (am_dec tL_law_42 39 rfl) (am_dec tL_law_43 0 rfl) (am_dec tL_law_43 1 rfl) hS hi ⟨by decide, by decide⟩ (?_ : am_T _ _ _ _ _ 2774 _ _ _)
  refine LA_arg (k := 2) (am_dec tL_law_43 2 rfl) (am_dec tL_law_43 3 rfl) (am_dec tL_law_43 4 rfl) (am_dec tL_law_43 5 rfl) (am_dec tL_law_43 6 rfl) hS hi ⟨by decide, by decide⟩ (?_ : am_T _ _ _ _ _ 2780 _ _ _)
  refine LA_arg (k := 3) (am_dec tL_law_43 7 rfl) (am_dec tL_law_43 8 rfl) (am_dec tL_law_43 9 rfl) (am_dec tL_law_43 10 rfl) (am_dec tL_law_43 11 rfl) hS hi ⟨by decide, by decide⟩ (?_ : am_T _ _ _ _ _ 2786 _ _ _)
  refine T_aload_n (am_dec tL_law_43 12 rfl) rfl ?_
  refine T_callW (d' := 41) (u' := 1) (as := [aR 0, aI (S.2 (i + 1).toNat), aI (S.2 (i + 2).toNat), aI (S.2 (i + 3).toNat), aR 844]) rfl (am_dec tL_law_43 13 rfl) lkL_282 rfl (Nat.le_of_ble_eq_true rfl) (by omega) hu (am_OutWE (wr_brings (d := 40) (W1 := W1) (f := f) _ _ _ h0 hf hM hc) hW2.symm) ?_
  refine T_istore (ls' := LL i (some (aI (if code = 0 then 0 else if code = 2 then 1 else 2))) none) (am_dec tL_law_43 14 rfl) (by decide) rfl ?_
  refine T_aload_n (am_dec tL_law_43 15 rfl) rfl ?_
  refine LA_arg (k := 1) (am_dec tL_law_43 16 rfl) (am_dec tL_law_43 17 rfl) (am_dec tL_law_43 18 rfl) (am_dec tL_law_43 19 rfl) (am_dec tL_law_43 20 rfl) hS hi ⟨by decide, by decide⟩ (?_ : am_T _ _ _ _ _ 2799 _ _ _)
  refine LA_arg (k := 2) (am_dec tL_law_43 21 rfl) (am_dec tL_law_43 22 rfl) (am_dec tL_law_43 23 rfl) (am_dec tL_law_43 24 rfl) (am_dec tL_law_43 25 rfl) hS hi ⟨by decide, by decide⟩ (?_ : am_T _ _ _ _ _ 2805 _ _ _)
  refine LA_arg (k := 3) (am_dec tL_law_43 26 rfl) (am_dec tL_law_43 27 rfl) (am_dec tL_law_43 28 rfl) (am_dec tL_law_43 29 rfl) (am_dec tL_law_43 30 rfl) hS hi ⟨by decide, by decide⟩ (?_ : am_T _ _ _ _ _ 2811 _ _ _)
  refine T_callV (d' := 40) (as := [aI (S.2 (i + 1).toNat), aI (S.2 (i + 2).toNat), aI (S.2 (i + 3).toNat)]) rfl (am_dec tL_law_43 31 rfl) lkL_284 h109 rfl rfl (Nat.le_of_ble_eq_true rfl) (by omega) hK (fun _ => ?_)
  refine T_istore (ls' := LL i (some (aI (if code = 0 then 0 else if code = 2 then 1 else 2))) (some (aI kv))) (am_dec tL_law_43 32 rfl) (by decide) rfl ?_
  refine T_aload_n (am_dec tL_law_43 33 rfl) rfl ?_
  refine T_callV (d' := 40) (as := []) rfl (am_dec tL_law_43 34 rfl) lkL_168 h109b rfl rfl (Nat.le_of_ble_eq_true rfl) (by omega) hT (fun _ => ?_)
  refine T_iload (am_dec tL_law_43 35 rfl) rfl ?_
  refine T_icmp_eq 2827 (am_dec tL_law_43 36 rfl) rfl (fun _ => ?_) (fun h => absurd ht h)
  refine T_iload (am_dec tL_law_43 39 rfl) rfl ?_
  refine T_if_ne 2844 (am_dec tL_law_44 0 rfl) rfl (fun _ => fin) (fun g => ?_)
  have e0 : code = 0 := by
    by_cases e : code = 0
    · exact e
    · rw [if_neg e] at g
      split at g <;> omega
  have e1 : f3 (Int.toNat 0) = kv := (hv e0).trans (hC e0)
  refine T_aload_n (am_dec tL_law_44 1 rfl) rfl ?_
  refine T_iconst 0 (am_dec tL_law_44 2 rfl) rfl ⟨by decide, by decide⟩ ?_
  refine T_laload (n := 1) (f := f3) (am_dec tL_law_44 3 rfl) hf3 (by decide) (by decide) ?_
  refine T_iload (am_dec tL_law_44 4 rfl) rfl ?_
  refine T_i2l (am_dec tL_law_44 5 rfl) ?_
  refine T_lcmp (am_dec tL_law_44 6 rfl) ?_
  exact T_if_eq 2844 (am_dec tL_law_44 7 rfl) rfl (fun _ => fin) (fun h => absurd (by rw [e1, if_neg (Int.lt_irrefl _), if_pos rfl]) h)
theorem wk_clock {S : am_S} {d u : Nat} {Q : AO → AH → Prop} {W W1 W2 W3 : AH} {i code v kv t : Int} {fs fs2 fs3 : List AV} {f f3 : Nat → Int} (hS : LawS S) (hi : 0 ≤ i ∧ i + 5 < S.1) (hd : 50 ≤ d) (hu : 1 ≤ u) (h0 : W[0]? = some (cO 10 fs)) (hf : W1[844]? = some (cP 2 1 f)) (hM : am_Out S zX11_clock 40 1 [aR 0, aI (S.2 (i + 1).toNat), aI (S.2 (i + 2).toNat), aI (S.2 (i + 3).toNat)] W (am_oc code v) W1) (hc : code = 0 ∨ code = 2 ∨ code = 3) (hW2 : W2 = if code = 0 then W1.set 844 (cP 2 1 (am_up f 0 v)) else W1) (h109 : W2[109]? = some (cO 11 fs2)) (hK : am_Out S zX12_clock 40 0 [aR 109, aI (S.2 (i + 1).toNat), aI (S.2 (i + 2).toNat), aI (S.2 (i + 3).toNat)] W2 (.inl (some (aI kv))) W3) (h109b : W3[109]? = some (cO 11 fs3)) (hT : am_Out S zX12_thrown 40 0 [aR 109] W3 (.inl (some (aI t))) W3) (ht : t = (if code = 0 then 0 else if code = 2 then 1 else 2)) (hf3 : W3[844]? = some (cP 2 1 f3)) (hv : code = 0 → f3 (Int.toNat 0) = v) (hC : code = 0 → v = kv) (kk : am_T S zL_law d (u - 1) Q 3820 (LL i none none) [] W3) : am_T S zL_law d u Q 2847 (LL i none none) [] W := by
  have fin : am_T S zL_law d (u - 1) Q 2924 (LL i (some (aI (if code = 0 then 0 else if code = 2 then 1 else 2))) (some (aI kv))) [] W3 := T_goto 3820 (am_dec tL_law_45 25 rfl) rfl (T_weak LL_w kk)
  refine T_aload_n (am_dec tL_law_44 11 rfl) rfl ?_
  refine LA_arg (k := 1) (am_dec tL_law_44 12 rfl) (am_dec tL_law_44 13 rfl) (am_dec tL_law_44 14 rfl) (am_dec tL_law_44 15 rfl) (am_dec tL_law_44 16 rfl) hS hi ⟨by decide, by decide⟩ (?_ : am_T _ _ _ _ _ 2854 _ _ _)
  refine LA_arg (k := 2) (am_dec tL_law_44 17 rfl) (am_dec tL_law_44 18 rfl) (am_dec tL_law_44 19 rfl) (am_dec tL_law_44 20 rfl) (am_dec tL_law_44 21 rfl) hS hi ⟨by decide, by decide⟩ (?_ : am_T _ _ _ _ _ 2860 _ _ _)
  refine LA_arg (k := 3) (am_dec tL_law_44 22 rfl) (am_dec tL_law_44 23 rfl) (am_dec tL_law_44 24 rfl) (am_dec tL_law_44 25 rfl) (am_dec tL_law_44 26 rfl) hS hi ⟨by decide, by decide⟩ (?_ : am_T _ _ _ _ _ 2866 _ _ _)
  refine T_aload_n (am_dec tL_law_44 27 rfl) rfl ?_
  refine T_callW (d' := 41) (u' := 1) (as := [aR 0, aI (S.2 (i + 1).toNat), aI (S.2 (i + 2).toNat), aI (S.2 (i + 3).toNat), aR 844]) rfl (am_dec tL_law_44 28 rfl) lkL_285 rfl (Nat.le_of_ble_eq_true rfl) (by omega) hu (am_OutWE (wr_clock (d := 40) (W1 := W1) (f := f) _ _ _ h0 hf hM hc) hW2.symm) ?_
  refine T_istore (ls' := LL i (some (aI (if code = 0 then 0 else if code = 2 then 1 else 2))) none) (am_dec tL_law_44 29 rfl) (by decide) rfl ?_
  refine T_aload_n (am_dec tL_law_44 30 rfl) rfl ?_
  refine LA_arg (k := 1) (am_dec tL_law_44 31 rfl) (am_dec tL_law_44 32 rfl) (am_dec tL_law_44 33 rfl) (am_dec tL_law_44 34 rfl) (am_dec tL_law_44 35 rfl) hS hi ⟨by decide, by decide⟩ (?_ : am_T _ _ _ _ _ 2879 _ _ _)
  refine LA_arg (k := 2) (am_dec tL_law_44 36 rfl) (am_dec tL_law_44 37 rfl) (am_dec tL_law_44 38 rfl) (am_dec tL_law_44 39 rfl) (am_dec tL_law_45 0 rfl) hS hi ⟨by decide, by decide⟩ (?_ : am_T _ _ _ _ _ 2885 _ _ _)
  refine LA_arg (k := 3) (am_dec tL_law_45 1 rfl) (am_dec tL_law_45 2 rfl) (am_dec tL_law_45 3 rfl) (am_dec tL_law_45 4 rfl) (am_dec tL_law_45 5 rfl) hS hi ⟨by decide, by decide⟩ (?_ : am_T _ _ _ _ _ 2891 _ _ _)
  refine T_callV (d' := 40) (as := [aI (S.2 (i + 1).toNat), aI (S.2 (i + 2).toNat), aI (S.2 (i + 3).toNat)]) rfl (am_dec tL_law_45 6 rfl) lkL_287 h109 rfl rfl (Nat.le_of_ble_eq_true rfl) (by omega) hK (fun _ => ?_)
  refine T_istore (ls' := LL i (some (aI (if code = 0 then 0 else if code = 2 then 1 else 2))) (some (aI kv))) (am_dec tL_law_45 7 rfl) (by decide) rfl ?_
  refine T_aload_n (am_dec tL_law_45 8 rfl) rfl ?_
  refine T_callV (d' := 40) (as := []) rfl (am_dec tL_law_45 9 rfl) lkL_168 h109b rfl rfl (Nat.le_of_ble_eq_true rfl) (by omega) hT (fun _ => ?_)
  refine T_iload (am_dec tL_law_45 10 rfl) rfl ?_
  refine T_icmp_eq 2907 (am_dec tL_law_45 11 rfl) rfl (fun _ => ?_) (fun h => absurd ht h)
  refine T_iload (am_dec tL_law_45 14 rfl) rfl ?_
  refine T_if_ne 2924 (am_dec tL_law_45 15 rfl) rfl (fun _ => fin) (fun g => ?_)
  have e0 : code = 0 := by
    by_cases e : code = 0
    · exact e
    · rw [if_neg e] at g
      split at g <;> omega
  have e1 : f3 (Int.toNat 0) = kv := (hv e0).trans (hC e0)
  refine T_aload_n (am_dec tL_law_45 16 rfl) rfl ?_
  refine T_iconst 0 (am_dec tL_law_45 17 rfl) rfl ⟨by decide, by decide⟩ ?_
  refine T_laload (n := 1) (f := f3) (am_dec tL_law_45 18 rfl) hf3 (by decide) (by decide) ?_
  refine T_iload (am_dec tL_law_45 19 rfl) rfl ?_
  refine T_i2l (am_dec tL_law_45 20 rfl) ?_
  refine T_lcmp (am_dec tL_law_45 21 rfl) ?_
  exact T_if_eq 2924 (am_dec tL_law_45 22 rfl) rfl (fun _ => fin) (fun h => absurd (by rw [e1, if_neg (Int.lt_irrefl _), if_pos rfl]) h)
theorem wk_enough {S : am_S} {d u : Nat} {Q : AO → AH → Prop} {W W1 W2 W3 : AH} {i code v kv t : Int} {fs fs2 fs3 : List AV} {f f3 : Nat → Int} (hS : LawS S) (hi : 0 ≤ i ∧ i + 5 < S.1) (hd : 50 ≤ d) (hu : 1 ≤ u) (h0 : W[0]? = some (cO 10 fs)) (hf : W1[844]? = some (cP 2 1 f)) (hM : am_Out S zX11_enough 40 1 [aR 0, aI (S.2 (i + 1).toNat), aI (S.2 (i + 2).toNat), aI (S.2 (i + 3).toNat), aI (S.2 (i + 4).toNat), aI (S.2 (i + 5).toNat)] W (am_oc code v) W1) (hc : code = 0 ∨ code = 2 ∨ code = 3) (hW2 : W2 = if code = 0 then W1.set 844 (cP 2 1 (am_up f 0 v)) else W1) (h109 : W2[109]? = some (cO 11 fs2)) (hK : am_Out S zX12_enough 40 0 [aR 109, aI (S.2 (i + 1).toNat), aI (S.2 (i + 2).toNat), aI (S.2 (i + 3).toNat), aI (S.2 (i + 4).toNat), aI (S.2 (i + 5).toNat)] W2 (.inl (some (aI kv))) W3) (h109b : W3[109]? = some (cO 11 fs3)) (hT : am_Out S zX12_thrown 40 0 [aR 109] W3 (.inl (some (aI t))) W3) (ht : t = (if code = 0 then 0 else if code = 2 then 1 else 2)) (hf3 : W3[844]? = some (cP 2 1 f3)) (hv : code = 0 → f3 (Int.toNat 0) = v) (hC : code = 0 → v = kv) (kk : am_T S zL_law d (u - 1) Q 3820 (LL i none none) [] W3) : am_T S zL_law d u Q 2927 (LL i none none) [] W := by
  have fin : am_T S zL_law d (u - 1) Q 3028 (LL i (some (aI (if code = 0 then 0 else if code = 2 then 1 else 2))) (some (aI kv))) [] W3 := T_goto 3820 (am_dec tL_law_47 20 rfl) rfl (T_weak LL_w kk)
  refine T_aload_n (am_dec tL_law_45 26 rfl) rfl ?_
  refine LA_arg (k := 1) (am_dec tL_law_45 27 rfl) (am_dec tL_law_45 28 rfl) (am_dec tL_law_45 29 rfl) (am_dec tL_law_45 30 rfl) (am_dec tL_law_45 31 rfl) hS hi ⟨by decide, by decide⟩ (?_ : am_T _ _ _ _ _ 2934 _ _ _)
  refine LA_arg (k := 2) (am_dec tL_law_45 32 rfl) (am_dec tL_law_45 33 rfl) (am_dec tL_law_45 34 rfl) (am_dec tL_law_45 35 rfl) (am_dec tL_law_45 36 rfl) hS hi ⟨by decide, by decide⟩ (?_ : am_T _ _ _ _ _ 2940 _ _ _)
  refine LA_arg (k := 3) (am_dec tL_law_45 37 rfl) (am_dec tL_law_45 38 rfl) (am_dec tL_law_45 39 rfl) (am_dec tL_law_46 0 rfl) (am_dec tL_law_46 1 rfl) hS hi ⟨by decide, by decide⟩ (?_ : am_T _ _ _ _ _ 2946 _ _ _)
  refine LA_arg (k := 4) (am_dec tL_law_46 2 rfl) (am_dec tL_law_46 3 rfl) (am_dec tL_law_46 4 rfl) (am_dec tL_law_46 5 rfl) (am_dec tL_law_46 6 rfl) hS hi ⟨by decide, by decide⟩ (?_ : am_T _ _ _ _ _ 2952 _ _ _)
  refine LA_arg (k := 5) (am_dec tL_law_46 7 rfl) (am_dec tL_law_46 8 rfl) (am_dec tL_law_46 9 rfl) (am_dec tL_law_46 10 rfl) (am_dec tL_law_46 11 rfl) hS hi ⟨by decide, by decide⟩ (?_ : am_T _ _ _ _ _ 2958 _ _ _)
  refine T_aload_n (am_dec tL_law_46 12 rfl) rfl ?_
  refine T_callW (d' := 41) (u' := 1) (as := [aR 0, aI (S.2 (i + 1).toNat), aI (S.2 (i + 2).toNat), aI (S.2 (i + 3).toNat), aI (S.2 (i + 4).toNat), aI (S.2 (i + 5).toNat), aR 844]) rfl (am_dec tL_law_46 13 rfl) lkL_288 rfl (Nat.le_of_ble_eq_true rfl) (by omega) hu (am_OutWE (wr_enough (d := 40) (W1 := W1) (f := f) _ _ _ _ _ h0 hf hM hc) hW2.symm) ?_
  refine T_istore (ls' := LL i (some (aI (if code = 0 then 0 else if code = 2 then 1 else 2))) none) (am_dec tL_law_46 14 rfl) (by decide) rfl ?_
  refine T_aload_n (am_dec tL_law_46 15 rfl) rfl ?_
  refine LA_arg (k := 1) (am_dec tL_law_46 16 rfl) (am_dec tL_law_46 17 rfl) (am_dec tL_law_46 18 rfl) (am_dec tL_law_46 19 rfl) (am_dec tL_law_46 20 rfl) hS hi ⟨by decide, by decide⟩ (?_ : am_T _ _ _ _ _ 2971 _ _ _)
  refine LA_arg (k := 2) (am_dec tL_law_46 21 rfl) (am_dec tL_law_46 22 rfl) (am_dec tL_law_46 23 rfl) (am_dec tL_law_46 24 rfl) (am_dec tL_law_46 25 rfl) hS hi ⟨by decide, by decide⟩ (?_ : am_T _ _ _ _ _ 2977 _ _ _)
  refine LA_arg (k := 3) (am_dec tL_law_46 26 rfl) (am_dec tL_law_46 27 rfl) (am_dec tL_law_46 28 rfl) (am_dec tL_law_46 29 rfl) (am_dec tL_law_46 30 rfl) hS hi ⟨by decide, by decide⟩ (?_ : am_T _ _ _ _ _ 2983 _ _ _)
  refine LA_arg (k := 4) (am_dec tL_law_46 31 rfl) (am_dec tL_law_46 32 rfl) (am_dec tL_law_46 33 rfl) (am_dec tL_law_46 34 rfl) (am_dec tL_law_46 35 rfl) hS hi ⟨by decide, by decide⟩ (?_ : am_T _ _ _ _ _ 2989 _ _ _)
  refine LA_arg (k := 5) (am_dec tL_law_46 36 rfl) (am_dec tL_law_46 37 rfl) (am_dec tL_law_46 38 rfl) (am_dec tL_law_46 39 rfl) (am_dec tL_law_47 0 rfl) hS hi ⟨by decide, by decide⟩ (?_ : am_T _ _ _ _ _ 2995 _ _ _)
  refine T_callV (d' := 40) (as := [aI (S.2 (i + 1).toNat), aI (S.2 (i + 2).toNat), aI (S.2 (i + 3).toNat), aI (S.2 (i + 4).toNat), aI (S.2 (i + 5).toNat)]) rfl (am_dec tL_law_47 1 rfl) lkL_290 h109 rfl rfl (Nat.le_of_ble_eq_true rfl) (by omega) hK (fun _ => ?_)
  refine T_istore (ls' := LL i (some (aI (if code = 0 then 0 else if code = 2 then 1 else 2))) (some (aI kv))) (am_dec tL_law_47 2 rfl) (by decide) rfl ?_
  refine T_aload_n (am_dec tL_law_47 3 rfl) rfl ?_
  refine T_callV (d' := 40) (as := []) rfl (am_dec tL_law_47 4 rfl) lkL_168 h109b rfl rfl (Nat.le_of_ble_eq_true rfl) (by omega) hT (fun _ => ?_)
  refine T_iload (am_dec tL_law_47 5 rfl) rfl ?_
  refine T_icmp_eq 3011 (am_dec tL_law_47 6 rfl) rfl (fun _ => ?_) (fun h => absurd ht h)
  refine T_iload (am_dec tL_law_47 9 rfl) rfl ?_
  refine T_if_ne 3028 (am_dec tL_law_47 10 rfl) rfl (fun _ => fin) (fun g => ?_)
  have e0 : code = 0 := by
    by_cases e : code = 0
    · exact e
    · rw [if_neg e] at g
      split at g <;> omega
  have e1 : f3 (Int.toNat 0) = kv := (hv e0).trans (hC e0)
  refine T_aload_n (am_dec tL_law_47 11 rfl) rfl ?_
  refine T_iconst 0 (am_dec tL_law_47 12 rfl) rfl ⟨by decide, by decide⟩ ?_
  refine T_laload (n := 1) (f := f3) (am_dec tL_law_47 13 rfl) hf3 (by decide) (by decide) ?_
  refine T_iload (am_dec tL_law_47 14 rfl) rfl ?_
  refine T_i2l (am_dec tL_law_47 15 rfl) ?_
  refine T_lcmp (am_dec tL_law_47 16 rfl) ?_
  exact T_if_eq 3028 (am_dec tL_law_47 17 rfl) rfl (fun _ => fin) (fun h => absurd (by rw [e1, if_neg (Int.lt_irrefl _), if_pos rfl]) h)
theorem wk_sure {S : am_S} {d u : Nat} {Q : AO → AH → Prop} {W W1 W2 W3 : AH} {i code v kv t : Int} {fs fs2 fs3 : List AV} {f f3 : Nat → Int} (hS : LawS S) (hi : 0 ≤ i ∧ i + 5 < S.1) (hd : 50 ≤ d) (hu : 1 ≤ u) (h0 : W[0]? = some (cO 10 fs)) (hf : W1[844]? = some (cP 2 1 f)) (hM : am_Out S zX11_sure 40 1 [aR 0, aI (S.2 (i + 1).toNat), aI (S.2 (i + 2).toNat), aI (S.2 (i + 3).toNat), aI (S.2 (i + 4).toNat), aI (S.2 (i + 5).toNat)] W (am_oc code v) W1) (hc : code = 0 ∨ code = 2 ∨ code = 3) (hW2 : W2 = if code = 0 then W1.set 844 (cP 2 1 (am_up f 0 v)) else W1) (h109 : W2[109]? = some (cO 11 fs2)) (hK : am_Out S zX12_sure 40 0 [aR 109, aI (S.2 (i + 1).toNat), aI (S.2 (i + 2).toNat), aI (S.2 (i + 3).toNat), aI (S.2 (i + 4).toNat), aI (S.2 (i + 5).toNat)] W2 (.inl (some (aI kv))) W3) (h109b : W3[109]? = some (cO 11 fs3)) (hT : am_Out S zX12_thrown 40 0 [aR 109] W3 (.inl (some (aI t))) W3) (ht : t = (if code = 0 then 0 else if code = 2 then 1 else 2)) (hf3 : W3[844]? = some (cP 2 1 f3)) (hv : code = 0 → f3 (Int.toNat 0) = v) (hC : code = 0 → v = kv) (kk : am_T S zL_law d (u - 1) Q 3820 (LL i none none) [] W3) : am_T S zL_law d u Q 3031 (LL i none none) [] W := by
  have fin : am_T S zL_law d (u - 1) Q 3132 (LL i (some (aI (if code = 0 then 0 else if code = 2 then 1 else 2))) (some (aI kv))) [] W3 := T_goto 3820 (am_dec tL_law_49 15 rfl) rfl (T_weak LL_w kk)
  refine T_aload_n (am_dec tL_law_47 21 rfl) rfl ?_
  refine LA_arg (k := 1) (am_dec tL_law_47 22 rfl) (am_dec tL_law_47 23 rfl) (am_dec tL_law_47 24 rfl) (am_dec tL_law_47 25 rfl) (am_dec tL_law_47 26 rfl) hS hi ⟨by decide, by decide⟩ (?_ : am_T _ _ _ _ _ 3038 _ _ _)
  refine LA_arg (k := 2) (am_dec tL_law_47 27 rfl) (am_dec tL_law_47 28 rfl) (am_dec tL_law_47 29 rfl) (am_dec tL_law_47 30 rfl) (am_dec tL_law_47 31 rfl) hS hi ⟨by decide, by decide⟩ (?_ : am_T _ _ _ _ _ 3044 _ _ _)
  refine LA_arg (k := 3) (am_dec tL_law_47 32 rfl) (am_dec tL_law_47 33 rfl) (am_dec tL_law_47 34 rfl) (am_dec tL_law_47 35 rfl) (am_dec tL_law_47 36 rfl) hS hi ⟨by decide, by decide⟩ (?_ : am_T _ _ _ _ _ 3050 _ _ _)
  refine LA_arg (k := 4) (am_dec tL_law_47 37 rfl) (am_dec tL_law_47 38 rfl) (am_dec tL_law_47 39 rfl) (am_dec tL_law_48 0 rfl) (am_dec tL_law_48 1 rfl) hS hi ⟨by decide, by decide⟩ (?_ : am_T _ _ _ _ _ 3056 _ _ _)
  refine LA_arg (k := 5) (am_dec tL_law_48 2 rfl) (am_dec tL_law_48 3 rfl) (am_dec tL_law_48 4 rfl) (am_dec tL_law_48 5 rfl) (am_dec tL_law_48 6 rfl) hS hi ⟨by decide, by decide⟩ (?_ : am_T _ _ _ _ _ 3062 _ _ _)
  refine T_aload_n (am_dec tL_law_48 7 rfl) rfl ?_
  refine T_callW (d' := 41) (u' := 1) (as := [aR 0, aI (S.2 (i + 1).toNat), aI (S.2 (i + 2).toNat), aI (S.2 (i + 3).toNat), aI (S.2 (i + 4).toNat), aI (S.2 (i + 5).toNat), aR 844]) rfl (am_dec tL_law_48 8 rfl) lkL_291 rfl (Nat.le_of_ble_eq_true rfl) (by omega) hu (am_OutWE (wr_sure (d := 40) (W1 := W1) (f := f) _ _ _ _ _ h0 hf hM hc) hW2.symm) ?_
  refine T_istore (ls' := LL i (some (aI (if code = 0 then 0 else if code = 2 then 1 else 2))) none) (am_dec tL_law_48 9 rfl) (by decide) rfl ?_
  refine T_aload_n (am_dec tL_law_48 10 rfl) rfl ?_
  refine LA_arg (k := 1) (am_dec tL_law_48 11 rfl) (am_dec tL_law_48 12 rfl) (am_dec tL_law_48 13 rfl) (am_dec tL_law_48 14 rfl) (am_dec tL_law_48 15 rfl) hS hi ⟨by decide, by decide⟩ (?_ : am_T _ _ _ _ _ 3075 _ _ _)
  refine LA_arg (k := 2) (am_dec tL_law_48 16 rfl) (am_dec tL_law_48 17 rfl) (am_dec tL_law_48 18 rfl) (am_dec tL_law_48 19 rfl) (am_dec tL_law_48 20 rfl) hS hi ⟨by decide, by decide⟩ (?_ : am_T _ _ _ _ _ 3081 _ _ _)
  refine LA_arg (k := 3) (am_dec tL_law_48 21 rfl) (am_dec tL_law_48 22 rfl) (am_dec tL_law_48 23 rfl) (am_dec tL_law_48 24 rfl) (am_dec tL_law_48 25 rfl) hS hi ⟨by decide, by decide⟩ (?_ : am_T _ _ _ _ _ 3087 _ _ _)
  refine LA_arg (k := 4) (am_dec tL_law_48 26 rfl) (am_dec tL_law_48 27 rfl) (am_dec tL_law_48 28 rfl) (am_dec tL_law_48 29 rfl) (am_dec tL_law_48 30 rfl) hS hi ⟨by decide, by decide⟩ (?_ : am_T _ _ _ _ _ 3093 _ _ _)
  refine LA_arg (k := 5) (am_dec tL_law_48 31 rfl) (am_dec tL_law_48 32 rfl) (am_dec tL_law_48 33 rfl) (am_dec tL_law_48 34 rfl) (am_dec tL_law_48 35 rfl) hS hi ⟨by decide, by decide⟩ (?_ : am_T _ _ _ _ _ 3099 _ _ _)
  refine T_callV (d' := 40) (as := [aI (S.2 (i + 1).toNat), aI (S.2 (i + 2).toNat), aI (S.2 (i + 3).toNat), aI (S.2 (i + 4).toNat), aI (S.2 (i + 5).toNat)]) rfl (am_dec tL_law_48 36 rfl) lkL_293 h109 rfl rfl (Nat.le_of_ble_eq_true rfl) (by omega) hK (fun _ => ?_)
  refine T_istore (ls' := LL i (some (aI (if code = 0 then 0 else if code = 2 then 1 else 2))) (some (aI kv))) (am_dec tL_law_48 37 rfl) (by decide) rfl ?_
  refine T_aload_n (am_dec tL_law_48 38 rfl) rfl ?_
  refine T_callV (d' := 40) (as := []) rfl (am_dec tL_law_48 39 rfl) lkL_168 h109b rfl rfl (Nat.le_of_ble_eq_true rfl) (by omega) hT (fun _ => ?_)
  refine T_iload (am_dec tL_law_49 0 rfl) rfl ?_
  refine T_icmp_eq 3115 (am_dec tL_law_49 1 rfl) rfl (fun _ => ?_) (fun h => absurd ht h)
  refine T_iload (am_dec tL_law_49 4 rfl) rfl ?_
  refine T_if_ne 3132 (am_dec tL_law_49 5 rfl) rfl (fun _ => fin) (fun g => ?_)
  have e0 : code = 0 := by
    by_cases e : code = 0
    · exact e
    · rw [if_neg e] at g
      split at g <;> omega
  have e1 : f3 (Int.toNat 0) = kv := (hv e0).trans (hC e0)
  refine T_aload_n (am_dec tL_law_49 6 rfl) rfl ?_
  refine T_iconst 0 (am_dec tL_law_49 7 rfl) rfl ⟨by decide, by decide⟩ ?_
  refine T_laload (n := 1) (f := f3) (am_dec tL_law_49 8 rfl) hf3 (by decide) (by decide) ?_
  refine T_iload (am_dec tL_law_49 9 rfl) rfl ?_
  refine T_i2l (am_dec tL_law_49 10 rfl) ?_
  refine T_lcmp (am_dec tL_law_49 11 rfl) ?_
  exact T_if_eq 3132 (am_dec tL_law_49 12 rfl) rfl (fun _ => fin) (fun h => absurd (by rw [e1, if_neg (Int.lt_irrefl _), if_pos rfl]) h)
theorem wk_start {S : am_S} {d u : Nat} {Q : AO → AH → Prop} {W W1 W2 W3 : AH} {i code v kv t : Int} {fs fs2 fs3 : List AV} {f f3 : Nat → Int} (hS : LawS S) (hi : 0 ≤ i ∧ i + 5 < S.1) (hd : 50 ≤ d) (hu : 1 ≤ u) (h0 : W[0]? = some (cO 10 fs)) (hf : W1[844]? = some (cP 2 1 f)) (hM : am_Out S zX11_start 40 1 [aR 0, aI (S.2 (i + 1).toNat), aI (S.2 (i + 2).toNat)] W (am_oc code v) W1) (hc : code = 0 ∨ code = 2 ∨ code = 3) (hW2 : W2 = if code = 0 then W1.set 844 (cP 2 1 (am_up f 0 v)) else W1) (h109 : W2[109]? = some (cO 11 fs2)) (hK : am_Out S zX12_start 40 0 [aR 109, aI (S.2 (i + 1).toNat), aI (S.2 (i + 2).toNat)] W2 (.inl (some (aI kv))) W3) (h109b : W3[109]? = some (cO 11 fs3)) (hT : am_Out S zX12_thrown 40 0 [aR 109] W3 (.inl (some (aI t))) W3) (ht : t = (if code = 0 then 0 else if code = 2 then 1 else 2)) (hf3 : W3[844]? = some (cP 2 1 f3)) (hv : code = 0 → f3 (Int.toNat 0) = v) (hC : code = 0 → v = kv) (kk : am_T S zL_law d (u - 1) Q 3820 (LL i none none) [] W3) : am_T S zL_law d u Q 3135 (LL i none none) [] W := by
  have fin : am_T S zL_law d (u - 1) Q 3200 (LL i (some (aI (if code = 0 then 0 else if code = 2 then 1 else 2))) (some (aI kv))) [] W3 := T_goto 3820 (am_dec tL_law_50 20 rfl) rfl (T_weak LL_w kk)
  refine T_aload_n (am_dec tL_law_49 16 rfl) rfl ?_
  refine LA_arg (k := 1) (am_dec tL_law_49 17 rfl) (am_dec tL_law_49 18 rfl) (am_dec tL_law_49 19 rfl) (am_dec tL_law_49 20 rfl) (am_dec tL_law_49 21 rfl) hS hi ⟨by decide, by decide⟩ (?_ : am_T _ _ _ _ _ 3142 _ _ _)
  refine LA_arg (k := 2) (am_dec tL_law_49 22 rfl) (am_dec tL_law_49 23 rfl) (am_dec tL_law_49 24 rfl) (am_dec tL_law_49 25 rfl) (am_dec tL_law_49 26 rfl) hS hi ⟨by decide, by decide⟩ (?_ : am_T _ _ _ _ _ 3148 _ _ _)
  refine T_aload_n (am_dec tL_law_49 27 rfl) rfl ?_
  refine T_callW (d' := 41) (u' := 1) (as := [aR 0, aI (S.2 (i + 1).toNat), aI (S.2 (i + 2).toNat), aR 844]) rfl (am_dec tL_law_49 28 rfl) lkL_294 rfl (Nat.le_of_ble_eq_true rfl) (by omega) hu (am_OutWE (wr_start (d := 40) (W1 := W1) (f := f) _ _ h0 hf hM hc) hW2.symm) ?_
  refine T_istore (ls' := LL i (some (aI (if code = 0 then 0 else if code = 2 then 1 else 2))) none) (am_dec tL_law_49 29 rfl) (by decide) rfl ?_
  refine T_aload_n (am_dec tL_law_49 30 rfl) rfl ?_
  refine LA_arg (k := 1) (am_dec tL_law_49 31 rfl) (am_dec tL_law_49 32 rfl) (am_dec tL_law_49 33 rfl) (am_dec tL_law_49 34 rfl) (am_dec tL_law_49 35 rfl) hS hi ⟨by decide, by decide⟩ (?_ : am_T _ _ _ _ _ 3161 _ _ _)
  refine LA_arg (k := 2) (am_dec tL_law_49 36 rfl) (am_dec tL_law_49 37 rfl) (am_dec tL_law_49 38 rfl) (am_dec tL_law_49 39 rfl) (am_dec tL_law_50 0 rfl) hS hi ⟨by decide, by decide⟩ (?_ : am_T _ _ _ _ _ 3167 _ _ _)
  refine T_callV (d' := 40) (as := [aI (S.2 (i + 1).toNat), aI (S.2 (i + 2).toNat)]) rfl (am_dec tL_law_50 1 rfl) lkL_296 h109 rfl rfl (Nat.le_of_ble_eq_true rfl) (by omega) hK (fun _ => ?_)
  refine T_istore (ls' := LL i (some (aI (if code = 0 then 0 else if code = 2 then 1 else 2))) (some (aI kv))) (am_dec tL_law_50 2 rfl) (by decide) rfl ?_
  refine T_aload_n (am_dec tL_law_50 3 rfl) rfl ?_
  refine T_callV (d' := 40) (as := []) rfl (am_dec tL_law_50 4 rfl) lkL_168 h109b rfl rfl (Nat.le_of_ble_eq_true rfl) (by omega) hT (fun _ => ?_)
  refine T_iload (am_dec tL_law_50 5 rfl) rfl ?_
  refine T_icmp_eq 3183 (am_dec tL_law_50 6 rfl) rfl (fun _ => ?_) (fun h => absurd ht h)
  refine T_iload (am_dec tL_law_50 9 rfl) rfl ?_
  refine T_if_ne 3200 (am_dec tL_law_50 10 rfl) rfl (fun _ => fin) (fun g => ?_)
  have e0 : code = 0 := by
    by_cases e : code = 0
    · exact e
    · rw [if_neg e] at g
      split at g <;> omega
  have e1 : f3 (Int.toNat 0) = kv := (hv e0).trans (hC e0)
  refine T_aload_n (am_dec tL_law_50 11 rfl) rfl ?_
  refine T_iconst 0 (am_dec tL_law_50 12 rfl) rfl ⟨by decide, by decide⟩ ?_
  refine T_laload (n := 1) (f := f3) (am_dec tL_law_50 13 rfl) hf3 (by decide) (by decide) ?_
  refine T_iload (am_dec tL_law_50 14 rfl) rfl ?_
  refine T_i2l (am_dec tL_law_50 15 rfl) ?_
  refine T_lcmp (am_dec tL_law_50 16 rfl) ?_
  exact T_if_eq 3200 (am_dec tL_law_50 17 rfl) rfl (fun _ => fin) (fun h => absurd (by rw [e1, if_neg (Int.lt_irrefl _), if_pos rfl]) h)
theorem wk_meet {S : am_S} {d u : Nat} {Q : AO → AH → Prop} {W W1 W2 W3 : AH} {i code v kv t : Int} {fs fs2 fs3 : List AV} {f f3 : Nat → Int} (hS : LawS S) (hi : 0 ≤ i ∧ i + 5 < S.1) (hd : 50 ≤ d) (hu : 1 ≤ u) (h0 : W[0]? = some (cO 10 fs)) (hf : W1[844]? = some (cP 2 1 f)) (hM : am_Out S zX11_meet 40 1 [aR 0, aI (S.2 (i + 1).toNat), aI (S.2 (i + 2).toNat)] W (am_oc code v) W1) (hc : code = 0 ∨ code = 2 ∨ code = 3) (hW2 : W2 = if code = 0 then W1.set 844 (cP 2 1 (am_up f 0 v)) else W1) (h109 : W2[109]? = some (cO 11 fs2)) (hK : am_Out S zX12_meet 40 0 [aR 109, aI (S.2 (i + 1).toNat), aI (S.2 (i + 2).toNat)] W2 (.inl (some (aI kv))) W3) (h109b : W3[109]? = some (cO 11 fs3)) (hT : am_Out S zX12_thrown 40 0 [aR 109] W3 (.inl (some (aI t))) W3) (ht : t = (if code = 0 then 0 else if code = 2 then 1 else 2)) (hf3 : W3[844]? = some (cP 2 1 f3)) (hv : code = 0 → f3 (Int.toNat 0) = v) (hC : code = 0 → v = kv) (kk : am_T S zL_law d (u - 1) Q 3820 (LL i none none) [] W3) : am_T S zL_law d u Q 3203 (LL i none none) [] W := by
  have fin : am_T S zL_law d (u - 1) Q 3268 (LL i (some (aI (if code = 0 then 0 else if code = 2 then 1 else 2))) (some (aI kv))) [] W3 := T_goto 3820 (am_dec tL_law_51 25 rfl) rfl (T_weak LL_w kk)
  refine T_aload_n (am_dec tL_law_50 21 rfl) rfl ?_
  refine LA_arg (k := 1) (am_dec tL_law_50 22 rfl) (am_dec tL_law_50 23 rfl) (am_dec tL_law_50 24 rfl) (am_dec tL_law_50 25 rfl) (am_dec tL_law_50 26 rfl) hS hi ⟨by decide, by decide⟩ (?_ : am_T _ _ _ _ _ 3210 _ _ _)
  refine LA_arg (k := 2) (am_dec tL_law_50 27 rfl) (am_dec tL_law_50 28 rfl) (am_dec tL_law_50 29 rfl) (am_dec tL_law_50 30 rfl) (am_dec tL_law_50 31 rfl) hS hi ⟨by decide, by decide⟩ (?_ : am_T _ _ _ _ _ 3216 _ _ _)
  refine T_aload_n (am_dec tL_law_50 32 rfl) rfl ?_
  refine T_callW (d' := 41) (u' := 1) (as := [aR 0, aI (S.2 (i + 1).toNat), aI (S.2 (i + 2).toNat), aR 844]) rfl (am_dec tL_law_50 33 rfl) lkL_297 rfl (Nat.le_of_ble_eq_true rfl) (by omega) hu (am_OutWE (wr_meet (d := 40) (W1 := W1) (f := f) _ _ h0 hf hM hc) hW2.symm) ?_
  refine T_istore (ls' := LL i (some (aI (if code = 0 then 0 else if code = 2 then 1 else 2))) none) (am_dec tL_law_50 34 rfl) (by decide) rfl ?_
  refine T_aload_n (am_dec tL_law_50 35 rfl) rfl ?_
  refine LA_arg (k := 1) (am_dec tL_law_50 36 rfl) (am_dec tL_law_50 37 rfl) (am_dec tL_law_50 38 rfl) (am_dec tL_law_50 39 rfl) (am_dec tL_law_51 0 rfl) hS hi ⟨by decide, by decide⟩ (?_ : am_T _ _ _ _ _ 3229 _ _ _)
  refine LA_arg (k := 2) (am_dec tL_law_51 1 rfl) (am_dec tL_law_51 2 rfl) (am_dec tL_law_51 3 rfl) (am_dec tL_law_51 4 rfl) (am_dec tL_law_51 5 rfl) hS hi ⟨by decide, by decide⟩ (?_ : am_T _ _ _ _ _ 3235 _ _ _)
  refine T_callV (d' := 40) (as := [aI (S.2 (i + 1).toNat), aI (S.2 (i + 2).toNat)]) rfl (am_dec tL_law_51 6 rfl) lkL_299 h109 rfl rfl (Nat.le_of_ble_eq_true rfl) (by omega) hK (fun _ => ?_)
  refine T_istore (ls' := LL i (some (aI (if code = 0 then 0 else if code = 2 then 1 else 2))) (some (aI kv))) (am_dec tL_law_51 7 rfl) (by decide) rfl ?_
  refine T_aload_n (am_dec tL_law_51 8 rfl) rfl ?_
  refine T_callV (d' := 40) (as := []) rfl (am_dec tL_law_51 9 rfl) lkL_168 h109b rfl rfl (Nat.le_of_ble_eq_true rfl) (by omega) hT (fun _ => ?_)
  refine T_iload (am_dec tL_law_51 10 rfl) rfl ?_
  refine T_icmp_eq 3251 (am_dec tL_law_51 11 rfl) rfl (fun _ => ?_) (fun h => absurd ht h)
  refine T_iload (am_dec tL_law_51 14 rfl) rfl ?_
  refine T_if_ne 3268 (am_dec tL_law_51 15 rfl) rfl (fun _ => fin) (fun g => ?_)
  have e0 : code = 0 := by
    by_cases e : code = 0
    · exact e
    · rw [if_neg e] at g
      split at g <;> omega
  have e1 : f3 (Int.toNat 0) = kv := (hv e0).trans (hC e0)
  refine T_aload_n (am_dec tL_law_51 16 rfl) rfl ?_
  refine T_iconst 0 (am_dec tL_law_51 17 rfl) rfl ⟨by decide, by decide⟩ ?_
  refine T_laload (n := 1) (f := f3) (am_dec tL_law_51 18 rfl) hf3 (by decide) (by decide) ?_
  refine T_iload (am_dec tL_law_51 19 rfl) rfl ?_
  refine T_i2l (am_dec tL_law_51 20 rfl) ?_
  refine T_lcmp (am_dec tL_law_51 21 rfl) ?_
  exact T_if_eq 3268 (am_dec tL_law_51 22 rfl) rfl (fun _ => fin) (fun h => absurd (by rw [e1, if_neg (Int.lt_irrefl _), if_pos rfl]) h)
theorem wk_witnesses {S : am_S} {d u : Nat} {Q : AO → AH → Prop} {W W1 W2 W3 : AH} {i code v kv t al : Int} {fs fs2 fs3 : List AV} {f f3 : Nat → Int} (hS : LawS S) (hi : 0 ≤ i ∧ i + 5 < S.1) (hd : 50 ≤ d) (hu : 1 ≤ u) (hal : al = if S.2 (i + 5).toNat = 0 then 0 else 1) (h0 : W[0]? = some (cO 10 fs)) (hf : W1[844]? = some (cP 2 1 f)) (hM : am_Out S zX11_witnesses 40 1 [aR 0, aI (S.2 (i + 1).toNat), aI (S.2 (i + 2).toNat), aI (S.2 (i + 3).toNat), aI (S.2 (i + 4).toNat), aI al] W (am_oc code v) W1) (hc : code = 0 ∨ code = 1 ∨ code = 3) (hW2 : W2 = if code = 0 then W1.set 844 (cP 2 1 (am_up f 0 v)) else W1) (h109 : W2[109]? = some (cO 11 fs2)) (hK : am_Out S zX12_witnesses 40 0 [aR 109, aI (S.2 (i + 1).toNat), aI (S.2 (i + 2).toNat), aI (S.2 (i + 3).toNat), aI (S.2 (i + 4).toNat), aI al] W2 (.inl (some (aI kv))) W3) (h109b : W3[109]? = some (cO 11 fs3)) (hT : am_Out S zX12_thrown 40 0 [aR 109] W3 (.inl (some (aI t))) W3) (ht : t = (if code = 0 then 0 else if code = 1 then 1 else 2)) (hf3 : W3[844]? = some (cP 2 1 f3)) (hv : code = 0 → f3 (Int.toNat 0) = v) (hC : code = 0 → v = kv) (kk : am_T S zL_law d (u - 1) Q 3820 (LL i none none) [] W3) : am_T S zL_law d u Q 3271 (LL i none none) [] W := by
  have fin : am_T S zL_law d (u - 1) Q 3388 (LL i (some (aI (if code = 0 then 0 else if code = 1 then 1 else 2))) (some (aI kv))) [] W3 := T_goto 3820 (am_dec tL_law_53 28 rfl) rfl (T_weak LL_w kk)
  have KM : am_T S zL_law d (u - 1) Q 3355 (LL i (some (aI (if code = 0 then 0 else if code = 1 then 1 else 2))) none) [aI al, aI (S.2 (i + 4).toNat), aI (S.2 (i + 3).toNat), aI (S.2 (i + 2).toNat), aI (S.2 (i + 1).toNat), aR 109] W2 := by
    refine T_callV (d' := 40) (as := [aI (S.2 (i + 1).toNat), aI (S.2 (i + 2).toNat), aI (S.2 (i + 3).toNat), aI (S.2 (i + 4).toNat), aI al]) rfl (am_dec tL_law_53 9 rfl) lkL_303 h109 rfl rfl (Nat.le_of_ble_eq_true rfl) (by omega) hK (fun _ => ?_)
    refine T_istore (ls' := LL i (some (aI (if code = 0 then 0 else if code = 1 then 1 else 2))) (some (aI kv))) (am_dec tL_law_53 10 rfl) (by decide) rfl ?_
    refine T_aload_n (am_dec tL_law_53 11 rfl) rfl ?_
    refine T_callV (d' := 40) (as := []) rfl (am_dec tL_law_53 12 rfl) lkL_168 h109b rfl rfl (Nat.le_of_ble_eq_true rfl) (by omega) hT (fun _ => ?_)
    refine T_iload (am_dec tL_law_53 13 rfl) rfl ?_
    refine T_icmp_eq 3371 (am_dec tL_law_53 14 rfl) rfl (fun _ => ?_) (fun h => absurd ht h)
    refine T_iload (am_dec tL_law_53 17 rfl) rfl ?_
    refine T_if_ne 3388 (am_dec tL_law_53 18 rfl) rfl (fun _ => fin) (fun g => ?_)
    have e0 : code = 0 := by
      by_cases e : code = 0
      · exact e
      · rw [if_neg e] at g
        split at g <;> omega
    have e1 : f3 (Int.toNat 0) = kv := (hv e0).trans (hC e0)
    refine T_aload_n (am_dec tL_law_53 19 rfl) rfl ?_
    refine T_iconst 0 (am_dec tL_law_53 20 rfl) rfl ⟨by decide, by decide⟩ ?_
    refine T_laload (n := 1) (f := f3) (am_dec tL_law_53 21 rfl) hf3 (by decide) (by decide) ?_
    refine T_iload (am_dec tL_law_53 22 rfl) rfl ?_
    refine T_i2l (am_dec tL_law_53 23 rfl) ?_
    refine T_lcmp (am_dec tL_law_53 24 rfl) ?_
    exact T_if_eq 3388 (am_dec tL_law_53 25 rfl) rfl (fun _ => fin) (fun h => absurd (by rw [e1, if_neg (Int.lt_irrefl _), if_pos rfl]) h)
  have KX : am_T S zL_law d u Q 3310 (LL i none none) [aI al, aI (S.2 (i + 4).toNat), aI (S.2 (i + 3).toNat), aI (S.2 (i + 2).toNat), aI (S.2 (i + 1).toNat), aR 0] W := by
    refine T_aload_n (am_dec tL_law_52 16 rfl) rfl ?_
    refine T_callW (d' := 41) (u' := 1) (as := [aR 0, aI (S.2 (i + 1).toNat), aI (S.2 (i + 2).toNat), aI (S.2 (i + 3).toNat), aI (S.2 (i + 4).toNat), aI al, aR 844]) rfl (am_dec tL_law_52 17 rfl) lkL_300 rfl (Nat.le_of_ble_eq_true rfl) (by omega) hu (am_OutWE (wr_witnesses (d := 40) (W1 := W1) (f := f) _ _ _ _ _ h0 hf hM hc) hW2.symm) ?_
    refine T_istore (ls' := LL i (some (aI (if code = 0 then 0 else if code = 1 then 1 else 2))) none) (am_dec tL_law_52 18 rfl) (by decide) rfl ?_
    refine T_aload_n (am_dec tL_law_52 19 rfl) rfl ?_
    refine LA_arg (k := 1) (am_dec tL_law_52 20 rfl) (am_dec tL_law_52 21 rfl) (am_dec tL_law_52 22 rfl) (am_dec tL_law_52 23 rfl) (am_dec tL_law_52 24 rfl) hS hi ⟨by decide, by decide⟩ (?_ : am_T _ _ _ _ _ 3323 _ _ _)
    refine LA_arg (k := 2) (am_dec tL_law_52 25 rfl) (am_dec tL_law_52 26 rfl) (am_dec tL_law_52 27 rfl) (am_dec tL_law_52 28 rfl) (am_dec tL_law_52 29 rfl) hS hi ⟨by decide, by decide⟩ (?_ : am_T _ _ _ _ _ 3329 _ _ _)
    refine LA_arg (k := 3) (am_dec tL_law_52 30 rfl) (am_dec tL_law_52 31 rfl) (am_dec tL_law_52 32 rfl) (am_dec tL_law_52 33 rfl) (am_dec tL_law_52 34 rfl) hS hi ⟨by decide, by decide⟩ (?_ : am_T _ _ _ _ _ 3335 _ _ _)
    refine LA_arg (k := 4) (am_dec tL_law_52 35 rfl) (am_dec tL_law_52 36 rfl) (am_dec tL_law_52 37 rfl) (am_dec tL_law_52 38 rfl) (am_dec tL_law_52 39 rfl) hS hi ⟨by decide, by decide⟩ (?_ : am_T _ _ _ _ _ 3341 _ _ _)
    refine LA_arg (k := 5) (am_dec tL_law_53 0 rfl) (am_dec tL_law_53 1 rfl) (am_dec tL_law_53 2 rfl) (am_dec tL_law_53 3 rfl) (am_dec tL_law_53 4 rfl) hS hi ⟨by decide, by decide⟩ (?_ : am_T _ _ _ _ _ 3347 _ _ _)
    have KX := KM
    clear KM
    refine T_if_eq 3354 (am_dec tL_law_53 5 rfl) rfl (fun g => ?_) (fun g => ?_)
    · refine T_iconst 0 (am_dec tL_law_53 8 rfl) rfl ⟨by decide, by decide⟩ ?_
      have e : al = 0 := by rw [hal, if_pos g]
      rw [e] at KX
      exact KX
    · refine T_iconst 1 (am_dec tL_law_53 6 rfl) rfl ⟨by decide, by decide⟩ ?_
      refine T_goto 3355 (am_dec tL_law_53 7 rfl) rfl ?_
      have e : al = 1 := by rw [hal, if_neg g]
      rw [e] at KX
      exact KX
  clear KM
  refine T_aload_n (am_dec tL_law_51 26 rfl) rfl ?_
  refine LA_arg (k := 1) (am_dec tL_law_51 27 rfl) (am_dec tL_law_51 28 rfl) (am_dec tL_law_51 29 rfl) (am_dec tL_law_51 30 rfl) (am_dec tL_law_51 31 rfl) hS hi ⟨by decide, by decide⟩ (?_ : am_T _ _ _ _ _ 3278 _ _ _)
  refine LA_arg (k := 2) (am_dec tL_law_51 32 rfl) (am_dec tL_law_51 33 rfl) (am_dec tL_law_51 34 rfl) (am_dec tL_law_51 35 rfl) (am_dec tL_law_51 36 rfl) hS hi ⟨by decide, by decide⟩ (?_ : am_T _ _ _ _ _ 3284 _ _ _)
  refine LA_arg (k := 3) (am_dec tL_law_51 37 rfl) (am_dec tL_law_51 38 rfl) (am_dec tL_law_51 39 rfl) (am_dec tL_law_52 0 rfl) (am_dec tL_law_52 1 rfl) hS hi ⟨by decide, by decide⟩ (?_ : am_T _ _ _ _ _ 3290 _ _ _)
  refine LA_arg (k := 4) (am_dec tL_law_52 2 rfl) (am_dec tL_law_52 3 rfl) (am_dec tL_law_52 4 rfl) (am_dec tL_law_52 5 rfl) (am_dec tL_law_52 6 rfl) hS hi ⟨by decide, by decide⟩ (?_ : am_T _ _ _ _ _ 3296 _ _ _)
  refine LA_arg (k := 5) (am_dec tL_law_52 7 rfl) (am_dec tL_law_52 8 rfl) (am_dec tL_law_52 9 rfl) (am_dec tL_law_52 10 rfl) (am_dec tL_law_52 11 rfl) hS hi ⟨by decide, by decide⟩ (?_ : am_T _ _ _ _ _ 3302 _ _ _)
  refine T_if_eq 3309 (am_dec tL_law_52 12 rfl) rfl (fun g => ?_) (fun g => ?_)
  · refine T_iconst 0 (am_dec tL_law_52 15 rfl) rfl ⟨by decide, by decide⟩ ?_
    have e : al = 0 := by rw [hal, if_pos g]
    rw [e] at KX
    exact KX
  · refine T_iconst 1 (am_dec tL_law_52 13 rfl) rfl ⟨by decide, by decide⟩ ?_
    refine T_goto 3310 (am_dec tL_law_52 14 rfl) rfl ?_
    have e : al = 1 := by rw [hal, if_neg g]
    rw [e] at KX
    exact KX
theorem wk_guards {S : am_S} {d u : Nat} {Q : AO → AH → Prop} {W W1 W3 : AH} {i v kv : Int} {fs fs2 : List AV} (hS : LawS S) (hi : 0 ≤ i ∧ i + 5 < S.1) (hd : 50 ≤ d) (h0 : W[0]? = some (cO 10 fs)) (hM : am_Out S zX11_guards 40 0 [aR 0] W (.inl (some (aI v))) W1) (h109 : W1[109]? = some (cO 11 fs2)) (hK : am_Out S zX12_guards 40 0 [aR 109] W1 (.inl (some (aI kv))) W3) (hC : v = kv) (kk : am_T S zL_law d u Q 3820 (LL i none none) [] W3) : am_T S zL_law d u Q 3391 (LL i none none) [] W := by
  refine T_aload_n (am_dec tL_law_53 29 rfl) rfl ?_
  refine T_callV (d' := 40) (as := []) rfl (am_dec tL_law_53 30 rfl) lkL_304 h0 rfl rfl (Nat.le_of_ble_eq_true rfl) (by omega) hM (fun _ => ?_)
  refine T_aload_n (am_dec tL_law_53 31 rfl) rfl ?_
  refine T_callV (d' := 40) (as := []) rfl (am_dec tL_law_53 32 rfl) lkL_307 h109 rfl rfl (Nat.le_of_ble_eq_true rfl) (by omega) hK (fun _ => ?_)
  exact T_icmp_eq 3820 (am_dec tL_law_53 33 rfl) rfl (fun _ => kk) (fun h => absurd hC h)
theorem wk_light {S : am_S} {d u : Nat} {Q : AO → AH → Prop} {W W1 W2 W3 : AH} {i code v kv t : Int} {fs fs2 fs3 : List AV} {f f3 : Nat → Int} (hS : LawS S) (hi : 0 ≤ i ∧ i + 5 < S.1) (hd : 50 ≤ d) (hu : 1 ≤ u) (h0 : W[0]? = some (cO 10 fs)) (hf : W1[844]? = some (cP 2 1 f)) (hM : am_Out S zX11_light 40 1 [aR 0, aI (S.2 (i + 1).toNat), aI (S.2 (i + 2).toNat), aI (S.2 (i + 3).toNat)] W (am_oc code v) W1) (hc : code = 0 ∨ code = 2 ∨ code = 3) (hW2 : W2 = if code = 0 then W1.set 844 (cP 2 1 (am_up f 0 v)) else W1) (h109 : W2[109]? = some (cO 11 fs2)) (hK : am_Out S zX12_light 40 0 [aR 109, aI (S.2 (i + 1).toNat), aI (S.2 (i + 2).toNat), aI (S.2 (i + 3).toNat)] W2 (.inl (some (aI kv))) W3) (h109b : W3[109]? = some (cO 11 fs3)) (hT : am_Out S zX12_thrown 40 0 [aR 109] W3 (.inl (some (aI t))) W3) (ht : t = (if code = 0 then 0 else if code = 2 then 1 else 2)) (hf3 : W3[844]? = some (cP 2 1 f3)) (hv : code = 0 → f3 (Int.toNat 0) = v) (hC : code = 0 → v = kv) (kk : am_T S zL_law d (u - 1) Q 3820 (LL i none none) [] W3) : am_T S zL_law d u Q 3404 (LL i none none) [] W := by
  have fin : am_T S zL_law d (u - 1) Q 3481 (LL i (some (aI (if code = 0 then 0 else if code = 2 then 1 else 2))) (some (aI kv))) [] W3 := T_goto 3820 (am_dec tL_law_55 10 rfl) rfl (T_weak LL_w kk)
  refine T_aload_n (am_dec tL_law_53 36 rfl) rfl ?_
  refine LA_arg (k := 1) (am_dec tL_law_53 37 rfl) (am_dec tL_law_53 38 rfl) (am_dec tL_law_53 39 rfl) (am_dec tL_law_54 0 rfl) (am_dec tL_law_54 1 rfl) hS hi ⟨by decide, by decide⟩ (?_ : am_T _ _ _ _ _ 3411 _ _ _)
  refine LA_arg (k := 2) (am_dec tL_law_54 2 rfl) (am_dec tL_law_54 3 rfl) (am_dec tL_law_54 4 rfl) (am_dec tL_law_54 5 rfl) (am_dec tL_law_54 6 rfl) hS hi ⟨by decide, by decide⟩ (?_ : am_T _ _ _ _ _ 3417 _ _ _)
  refine LA_arg (k := 3) (am_dec tL_law_54 7 rfl) (am_dec tL_law_54 8 rfl) (am_dec tL_law_54 9 rfl) (am_dec tL_law_54 10 rfl) (am_dec tL_law_54 11 rfl) hS hi ⟨by decide, by decide⟩ (?_ : am_T _ _ _ _ _ 3423 _ _ _)
  refine T_aload_n (am_dec tL_law_54 12 rfl) rfl ?_
  refine T_callW (d' := 41) (u' := 1) (as := [aR 0, aI (S.2 (i + 1).toNat), aI (S.2 (i + 2).toNat), aI (S.2 (i + 3).toNat), aR 844]) rfl (am_dec tL_law_54 13 rfl) lkL_308 rfl (Nat.le_of_ble_eq_true rfl) (by omega) hu (am_OutWE (wr_light (d := 40) (W1 := W1) (f := f) _ _ _ h0 hf hM hc) hW2.symm) ?_
  refine T_istore (ls' := LL i (some (aI (if code = 0 then 0 else if code = 2 then 1 else 2))) none) (am_dec tL_law_54 14 rfl) (by decide) rfl ?_
  refine T_aload_n (am_dec tL_law_54 15 rfl) rfl ?_
  refine LA_arg (k := 1) (am_dec tL_law_54 16 rfl) (am_dec tL_law_54 17 rfl) (am_dec tL_law_54 18 rfl) (am_dec tL_law_54 19 rfl) (am_dec tL_law_54 20 rfl) hS hi ⟨by decide, by decide⟩ (?_ : am_T _ _ _ _ _ 3436 _ _ _)
  refine LA_arg (k := 2) (am_dec tL_law_54 21 rfl) (am_dec tL_law_54 22 rfl) (am_dec tL_law_54 23 rfl) (am_dec tL_law_54 24 rfl) (am_dec tL_law_54 25 rfl) hS hi ⟨by decide, by decide⟩ (?_ : am_T _ _ _ _ _ 3442 _ _ _)
  refine LA_arg (k := 3) (am_dec tL_law_54 26 rfl) (am_dec tL_law_54 27 rfl) (am_dec tL_law_54 28 rfl) (am_dec tL_law_54 29 rfl) (am_dec tL_law_54 30 rfl) hS hi ⟨by decide, by decide⟩ (?_ : am_T _ _ _ _ _ 3448 _ _ _)
  refine T_callV (d' := 40) (as := [aI (S.2 (i + 1).toNat), aI (S.2 (i + 2).toNat), aI (S.2 (i + 3).toNat)]) rfl (am_dec tL_law_54 31 rfl) lkL_310 h109 rfl rfl (Nat.le_of_ble_eq_true rfl) (by omega) hK (fun _ => ?_)
  refine T_istore (ls' := LL i (some (aI (if code = 0 then 0 else if code = 2 then 1 else 2))) (some (aI kv))) (am_dec tL_law_54 32 rfl) (by decide) rfl ?_
  refine T_aload_n (am_dec tL_law_54 33 rfl) rfl ?_
  refine T_callV (d' := 40) (as := []) rfl (am_dec tL_law_54 34 rfl) lkL_168 h109b rfl rfl (Nat.le_of_ble_eq_true rfl) (by omega) hT (fun _ => ?_)
  refine T_iload (am_dec tL_law_54 35 rfl) rfl ?_
  refine T_icmp_eq 3464 (am_dec tL_law_54 36 rfl) rfl (fun _ => ?_) (fun h => absurd ht h)
  refine T_iload (am_dec tL_law_54 39 rfl) rfl ?_
  refine T_if_ne 3481 (am_dec tL_law_55 0 rfl) rfl (fun _ => fin) (fun g => ?_)
  have e0 : code = 0 := by
    by_cases e : code = 0
    · exact e
    · rw [if_neg e] at g
      split at g <;> omega
  have e1 : f3 (Int.toNat 0) = kv := (hv e0).trans (hC e0)
  refine T_aload_n (am_dec tL_law_55 1 rfl) rfl ?_
  refine T_iconst 0 (am_dec tL_law_55 2 rfl) rfl ⟨by decide, by decide⟩ ?_
  refine T_laload (n := 1) (f := f3) (am_dec tL_law_55 3 rfl) hf3 (by decide) (by decide) ?_
  refine T_iload (am_dec tL_law_55 4 rfl) rfl ?_
  refine T_i2l (am_dec tL_law_55 5 rfl) ?_
  refine T_lcmp (am_dec tL_law_55 6 rfl) ?_
  exact T_if_eq 3481 (am_dec tL_law_55 7 rfl) rfl (fun _ => fin) (fun h => absurd (by rw [e1, if_neg (Int.lt_irrefl _), if_pos rfl]) h)
theorem wk_asked {S : am_S} {d u : Nat} {Q : AO → AH → Prop} {W W1 W2 W3 : AH} {i code v kv t : Int} {fs fs2 fs3 : List AV} {f f3 : Nat → Int} (hS : LawS S) (hi : 0 ≤ i ∧ i + 5 < S.1) (hd : 50 ≤ d) (hu : 1 ≤ u) (h0 : W[0]? = some (cO 10 fs)) (hf : W1[844]? = some (cP 2 1 f)) (hM : am_Out S zX11_asked 40 1 [aR 0, aI (S.2 (i + 1).toNat), aI (S.2 (i + 2).toNat), aI (S.2 (i + 3).toNat), aI (S.2 (i + 4).toNat)] W (am_oc code v) W1) (hc : code = 0 ∨ code = 2 ∨ code = 3) (hW2 : W2 = if code = 0 then W1.set 844 (cP 2 1 (am_up f 0 v)) else W1) (h109 : W2[109]? = some (cO 11 fs2)) (hK : am_Out S zX12_asked 40 0 [aR 109, aI (S.2 (i + 1).toNat), aI (S.2 (i + 2).toNat), aI (S.2 (i + 3).toNat), aI (S.2 (i + 4).toNat)] W2 (.inl (some (aI kv))) W3) (h109b : W3[109]? = some (cO 11 fs3)) (hT : am_Out S zX12_thrown 40 0 [aR 109] W3 (.inl (some (aI t))) W3) (ht : t = (if code = 0 then 0 else if code = 2 then 1 else 2)) (hf3 : W3[844]? = some (cP 2 1 f3)) (hv : code = 0 → f3 (Int.toNat 0) = v) (hC : code = 0 → v = kv) (kk : am_T S zL_law d (u - 1) Q 3820 (LL i none none) [] W3) : am_T S zL_law d u Q 3484 (LL i none none) [] W := by
  have fin : am_T S zL_law d (u - 1) Q 3573 (LL i (some (aI (if code = 0 then 0 else if code = 2 then 1 else 2))) (some (aI kv))) [] W3 := T_goto 3820 (am_dec tL_law_56 35 rfl) rfl (T_weak LL_w kk)
  refine T_aload_n (am_dec tL_law_55 11 rfl) rfl ?_
  refine LA_arg (k := 1) (am_dec tL_law_55 12 rfl) (am_dec tL_law_55 13 rfl) (am_dec tL_law_55 14 rfl) (am_dec tL_law_55 15 rfl) (am_dec tL_law_55 16 rfl) hS hi ⟨by decide, by decide⟩ (?_ : am_T _ _ _ _ _ 3491 _ _ _)
  refine LA_arg (k := 2) (am_dec tL_law_55 17 rfl) (am_dec tL_law_55 18 rfl) (am_dec tL_law_55 19 rfl) (am_dec tL_law_55 20 rfl) (am_dec tL_law_55 21 rfl) hS hi ⟨by decide, by decide⟩ (?_ : am_T _ _ _ _ _ 3497 _ _ _)
  refine LA_arg (k := 3) (am_dec tL_law_55 22 rfl) (am_dec tL_law_55 23 rfl) (am_dec tL_law_55 24 rfl) (am_dec tL_law_55 25 rfl) (am_dec tL_law_55 26 rfl) hS hi ⟨by decide, by decide⟩ (?_ : am_T _ _ _ _ _ 3503 _ _ _)
  refine LA_arg (k := 4) (am_dec tL_law_55 27 rfl) (am_dec tL_law_55 28 rfl) (am_dec tL_law_55 29 rfl) (am_dec tL_law_55 30 rfl) (am_dec tL_law_55 31 rfl) hS hi ⟨by decide, by decide⟩ (?_ : am_T _ _ _ _ _ 3509 _ _ _)
  refine T_aload_n (am_dec tL_law_55 32 rfl) rfl ?_
  refine T_callW (d' := 41) (u' := 1) (as := [aR 0, aI (S.2 (i + 1).toNat), aI (S.2 (i + 2).toNat), aI (S.2 (i + 3).toNat), aI (S.2 (i + 4).toNat), aR 844]) rfl (am_dec tL_law_55 33 rfl) lkL_311 rfl (Nat.le_of_ble_eq_true rfl) (by omega) hu (am_OutWE (wr_asked (d := 40) (W1 := W1) (f := f) _ _ _ _ h0 hf hM hc) hW2.symm) ?_
  refine T_istore (ls' := LL i (some (aI (if code = 0 then 0 else if code = 2 then 1 else 2))) none) (am_dec tL_law_55 34 rfl) (by decide) rfl ?_
  refine T_aload_n (am_dec tL_law_55 35 rfl) rfl ?_
  refine LA_arg (k := 1) (am_dec tL_law_55 36 rfl) (am_dec tL_law_55 37 rfl) (am_dec tL_law_55 38 rfl) (am_dec tL_law_55 39 rfl) (am_dec tL_law_56 0 rfl) hS hi ⟨by decide, by decide⟩ (?_ : am_T _ _ _ _ _ 3522 _ _ _)
  refine LA_arg (k := 2) (am_dec tL_law_56 1 rfl) (am_dec tL_law_56 2 rfl) (am_dec tL_law_56 3 rfl) (am_dec tL_law_56 4 rfl) (am_dec tL_law_56 5 rfl) hS hi ⟨by decide, by decide⟩ (?_ : am_T _ _ _ _ _ 3528 _ _ _)
  refine LA_arg (k := 3) (am_dec tL_law_56 6 rfl) (am_dec tL_law_56 7 rfl) (am_dec tL_law_56 8 rfl) (am_dec tL_law_56 9 rfl) (am_dec tL_law_56 10 rfl) hS hi ⟨by decide, by decide⟩ (?_ : am_T _ _ _ _ _ 3534 _ _ _)
  refine LA_arg (k := 4) (am_dec tL_law_56 11 rfl) (am_dec tL_law_56 12 rfl) (am_dec tL_law_56 13 rfl) (am_dec tL_law_56 14 rfl) (am_dec tL_law_56 15 rfl) hS hi ⟨by decide, by decide⟩ (?_ : am_T _ _ _ _ _ 3540 _ _ _)
  refine T_callV (d' := 40) (as := [aI (S.2 (i + 1).toNat), aI (S.2 (i + 2).toNat), aI (S.2 (i + 3).toNat), aI (S.2 (i + 4).toNat)]) rfl (am_dec tL_law_56 16 rfl) lkL_313 h109 rfl rfl (Nat.le_of_ble_eq_true rfl) (by omega) hK (fun _ => ?_)
  refine T_istore (ls' := LL i (some (aI (if code = 0 then 0 else if code = 2 then 1 else 2))) (some (aI kv))) (am_dec tL_law_56 17 rfl) (by decide) rfl ?_
  refine T_aload_n (am_dec tL_law_56 18 rfl) rfl ?_
  refine T_callV (d' := 40) (as := []) rfl (am_dec tL_law_56 19 rfl) lkL_168 h109b rfl rfl (Nat.le_of_ble_eq_true rfl) (by omega) hT (fun _ => ?_)
  refine T_iload (am_dec tL_law_56 20 rfl) rfl ?_
  refine T_icmp_eq 3556 (am_dec tL_law_56 21 rfl) rfl (fun _ => ?_) (fun h => absurd ht h)
  refine T_iload (am_dec tL_law_56 24 rfl) rfl ?_
  refine T_if_ne 3573 (am_dec tL_law_56 25 rfl) rfl (fun _ => fin) (fun g => ?_)
  have e0 : code = 0 := by
    by_cases e : code = 0
    · exact e
    · rw [if_neg e] at g
      split at g <;> omega
  have e1 : f3 (Int.toNat 0) = kv := (hv e0).trans (hC e0)
  refine T_aload_n (am_dec tL_law_56 26 rfl) rfl ?_
  refine T_iconst 0 (am_dec tL_law_56 27 rfl) rfl ⟨by decide, by decide⟩ ?_
  refine T_laload (n := 1) (f := f3) (am_dec tL_law_56 28 rfl) hf3 (by decide) (by decide) ?_
  refine T_iload (am_dec tL_law_56 29 rfl) rfl ?_
  refine T_i2l (am_dec tL_law_56 30 rfl) ?_
  refine T_lcmp (am_dec tL_law_56 31 rfl) ?_
  exact T_if_eq 3573 (am_dec tL_law_56 32 rfl) rfl (fun _ => fin) (fun h => absurd (by rw [e1, if_neg (Int.lt_irrefl _), if_pos rfl]) h)
theorem wk_calm {S : am_S} {d u : Nat} {Q : AO → AH → Prop} {W W1 W2 W3 : AH} {i code v kv t : Int} {fs fs2 fs3 : List AV} {f f3 : Nat → Int} (hS : LawS S) (hi : 0 ≤ i ∧ i + 5 < S.1) (hd : 50 ≤ d) (hu : 1 ≤ u) (h0 : W[0]? = some (cO 10 fs)) (hf : W1[844]? = some (cP 2 1 f)) (hM : am_Out S zX11_calm 40 1 [aR 0, aI (S.2 (i + 1).toNat)] W (am_oc code v) W1) (hc : code = 0 ∨ code = 3) (hW2 : W2 = if code = 0 then W1.set 844 (cP 2 1 (am_up f 0 v)) else W1) (h109 : W2[109]? = some (cO 11 fs2)) (hK : am_Out S zX12_calm 40 0 [aR 109, aI (S.2 (i + 1).toNat)] W2 (.inl (some (aI kv))) W3) (h109b : W3[109]? = some (cO 11 fs3)) (hT : am_Out S zX12_thrown 40 0 [aR 109] W3 (.inl (some (aI t))) W3) (ht : t = (if code = 0 then 0 else if code = 3 then 1 else 2)) (hf3 : W3[844]? = some (cP 2 1 f3)) (hv : code = 0 → f3 (Int.toNat 0) = v) (hC : code = 0 → v = kv) (kk : am_T S zL_law d (u - 1) Q 3820 (LL i none none) [] W3) : am_T S zL_law d u Q 3576 (LL i none none) [] W := by
  have fin : am_T S zL_law d (u - 1) Q 3629 (LL i (some (aI (if code = 0 then 0 else if code = 3 then 1 else 2))) (some (aI kv))) [] W3 := T_goto 3820 (am_dec tL_law_57 30 rfl) rfl (T_weak LL_w kk)
  refine T_aload_n (am_dec tL_law_56 36 rfl) rfl ?_
  refine LA_arg (k := 1) (am_dec tL_law_56 37 rfl) (am_dec tL_law_56 38 rfl) (am_dec tL_law_56 39 rfl) (am_dec tL_law_57 0 rfl) (am_dec tL_law_57 1 rfl) hS hi ⟨by decide, by decide⟩ (?_ : am_T _ _ _ _ _ 3583 _ _ _)
  refine T_aload_n (am_dec tL_law_57 2 rfl) rfl ?_
  refine T_callW (d' := 41) (u' := 1) (as := [aR 0, aI (S.2 (i + 1).toNat), aR 844]) rfl (am_dec tL_law_57 3 rfl) lkL_314 rfl (Nat.le_of_ble_eq_true rfl) (by omega) hu (am_OutWE (wr_calm (d := 40) (W1 := W1) (f := f) _ h0 hf hM hc) hW2.symm) ?_
  refine T_istore (ls' := LL i (some (aI (if code = 0 then 0 else if code = 3 then 1 else 2))) none) (am_dec tL_law_57 4 rfl) (by decide) rfl ?_
  refine T_aload_n (am_dec tL_law_57 5 rfl) rfl ?_
  refine LA_arg (k := 1) (am_dec tL_law_57 6 rfl) (am_dec tL_law_57 7 rfl) (am_dec tL_law_57 8 rfl) (am_dec tL_law_57 9 rfl) (am_dec tL_law_57 10 rfl) hS hi ⟨by decide, by decide⟩ (?_ : am_T _ _ _ _ _ 3596 _ _ _)
  refine T_callV (d' := 40) (as := [aI (S.2 (i + 1).toNat)]) rfl (am_dec tL_law_57 11 rfl) lkL_316 h109 rfl rfl (Nat.le_of_ble_eq_true rfl) (by omega) hK (fun _ => ?_)
  refine T_istore (ls' := LL i (some (aI (if code = 0 then 0 else if code = 3 then 1 else 2))) (some (aI kv))) (am_dec tL_law_57 12 rfl) (by decide) rfl ?_
  refine T_aload_n (am_dec tL_law_57 13 rfl) rfl ?_
  refine T_callV (d' := 40) (as := []) rfl (am_dec tL_law_57 14 rfl) lkL_168 h109b rfl rfl (Nat.le_of_ble_eq_true rfl) (by omega) hT (fun _ => ?_)
  refine T_iload (am_dec tL_law_57 15 rfl) rfl ?_
  refine T_icmp_eq 3612 (am_dec tL_law_57 16 rfl) rfl (fun _ => ?_) (fun h => absurd ht h)
  refine T_iload (am_dec tL_law_57 19 rfl) rfl ?_
  refine T_if_ne 3629 (am_dec tL_law_57 20 rfl) rfl (fun _ => fin) (fun g => ?_)
  have e0 : code = 0 := by
    by_cases e : code = 0
    · exact e
    · rw [if_neg e] at g
      split at g <;> omega
  have e1 : f3 (Int.toNat 0) = kv := (hv e0).trans (hC e0)
  refine T_aload_n (am_dec tL_law_57 21 rfl) rfl ?_
  refine T_iconst 0 (am_dec tL_law_57 22 rfl) rfl ⟨by decide, by decide⟩ ?_
  refine T_laload (n := 1) (f := f3) (am_dec tL_law_57 23 rfl) hf3 (by decide) (by decide) ?_
  refine T_iload (am_dec tL_law_57 24 rfl) rfl ?_
  refine T_i2l (am_dec tL_law_57 25 rfl) ?_
  refine T_lcmp (am_dec tL_law_57 26 rfl) ?_
  exact T_if_eq 3629 (am_dec tL_law_57 27 rfl) rfl (fun _ => fin) (fun h => absurd (by rw [e1, if_neg (Int.lt_irrefl _), if_pos rfl]) h)
theorem wk_thick {S : am_S} {d u : Nat} {Q : AO → AH → Prop} {W W1 W2 W3 : AH} {i code v kv t : Int} {fs fs2 fs3 : List AV} {f f3 : Nat → Int} (hS : LawS S) (hi : 0 ≤ i ∧ i + 5 < S.1) (hd : 50 ≤ d) (hu : 1 ≤ u) (h0 : W[0]? = some (cO 10 fs)) (hf : W1[844]? = some (cP 2 1 f)) (hM : am_Out S zX11_thick 40 1 [aR 0, aI (S.2 (i + 1).toNat)] W (am_oc code v) W1) (hc : code = 0 ∨ code = 3) (hW2 : W2 = if code = 0 then W1.set 844 (cP 2 1 (am_up f 0 v)) else W1) (h109 : W2[109]? = some (cO 11 fs2)) (hK : am_Out S zX12_thick 40 0 [aR 109, aI (S.2 (i + 1).toNat)] W2 (.inl (some (aI kv))) W3) (h109b : W3[109]? = some (cO 11 fs3)) (hT : am_Out S zX12_thrown 40 0 [aR 109] W3 (.inl (some (aI t))) W3) (ht : t = (if code = 0 then 0 else if code = 3 then 1 else 2)) (hf3 : W3[844]? = some (cP 2 1 f3)) (hv : code = 0 → f3 (Int.toNat 0) = v) (hC : code = 0 → v = kv) (kk : am_T S zL_law d (u - 1) Q 3820 (LL i none none) [] W3) : am_T S zL_law d u Q 3632 (LL i none none) [] W := by
  have fin : am_T S zL_law d (u - 1) Q 3685 (LL i (some (aI (if code = 0 then 0 else if code = 3 then 1 else 2))) (some (aI kv))) [] W3 := T_goto 3820 (am_dec tL_law_58 25 rfl) rfl (T_weak LL_w kk)
  refine T_aload_n (am_dec tL_law_57 31 rfl) rfl ?_
  refine LA_arg (k := 1) (am_dec tL_law_57 32 rfl) (am_dec tL_law_57 33 rfl) (am_dec tL_law_57 34 rfl) (am_dec tL_law_57 35 rfl) (am_dec tL_law_57 36 rfl) hS hi ⟨by decide, by decide⟩ (?_ : am_T _ _ _ _ _ 3639 _ _ _)
  refine T_aload_n (am_dec tL_law_57 37 rfl) rfl ?_
  refine T_callW (d' := 41) (u' := 1) (as := [aR 0, aI (S.2 (i + 1).toNat), aR 844]) rfl (am_dec tL_law_57 38 rfl) lkL_317 rfl (Nat.le_of_ble_eq_true rfl) (by omega) hu (am_OutWE (wr_thick (d := 40) (W1 := W1) (f := f) _ h0 hf hM hc) hW2.symm) ?_
  refine T_istore (ls' := LL i (some (aI (if code = 0 then 0 else if code = 3 then 1 else 2))) none) (am_dec tL_law_57 39 rfl) (by decide) rfl ?_
  refine T_aload_n (am_dec tL_law_58 0 rfl) rfl ?_
  refine LA_arg (k := 1) (am_dec tL_law_58 1 rfl) (am_dec tL_law_58 2 rfl) (am_dec tL_law_58 3 rfl) (am_dec tL_law_58 4 rfl) (am_dec tL_law_58 5 rfl) hS hi ⟨by decide, by decide⟩ (?_ : am_T _ _ _ _ _ 3652 _ _ _)
  refine T_callV (d' := 40) (as := [aI (S.2 (i + 1).toNat)]) rfl (am_dec tL_law_58 6 rfl) lkL_319 h109 rfl rfl (Nat.le_of_ble_eq_true rfl) (by omega) hK (fun _ => ?_)
  refine T_istore (ls' := LL i (some (aI (if code = 0 then 0 else if code = 3 then 1 else 2))) (some (aI kv))) (am_dec tL_law_58 7 rfl) (by decide) rfl ?_
  refine T_aload_n (am_dec tL_law_58 8 rfl) rfl ?_
  refine T_callV (d' := 40) (as := []) rfl (am_dec tL_law_58 9 rfl) lkL_168 h109b rfl rfl (Nat.le_of_ble_eq_true rfl) (by omega) hT (fun _ => ?_)
  refine T_iload (am_dec tL_law_58 10 rfl) rfl ?_
  refine T_icmp_eq 3668 (am_dec tL_law_58 11 rfl) rfl (fun _ => ?_) (fun h => absurd ht h)
  refine T_iload (am_dec tL_law_58 14 rfl) rfl ?_
  refine T_if_ne 3685 (am_dec tL_law_58 15 rfl) rfl (fun _ => fin) (fun g => ?_)
  have e0 : code = 0 := by
    by_cases e : code = 0
    · exact e
    · rw [if_neg e] at g
      split at g <;> omega
  have e1 : f3 (Int.toNat 0) = kv := (hv e0).trans (hC e0)
  refine T_aload_n (am_dec tL_law_58 16 rfl) rfl ?_
  refine T_iconst 0 (am_dec tL_law_58 17 rfl) rfl ⟨by decide, by decide⟩ ?_
  refine T_laload (n := 1) (f := f3) (am_dec tL_law_58 18 rfl) hf3 (by decide) (by decide) ?_
  refine T_iload (am_dec tL_law_58 19 rfl) rfl ?_
  refine T_i2l (am_dec tL_law_58 20 rfl) ?_
  refine T_lcmp (am_dec tL_law_58 21 rfl) ?_
  exact T_if_eq 3685 (am_dec tL_law_58 22 rfl) rfl (fun _ => fin) (fun h => absurd (by rw [e1, if_neg (Int.lt_irrefl _), if_pos rfl]) h)
theorem wk_hid {S : am_S} {d u : Nat} {Q : AO → AH → Prop} {W W1 W2 W3 : AH} {i code v kv t : Int} {fs fs2 fs3 : List AV} {f f3 : Nat → Int} (hS : LawS S) (hi : 0 ≤ i ∧ i + 5 < S.1) (hd : 50 ≤ d) (hu : 1 ≤ u) (h0 : W[0]? = some (cO 10 fs)) (hf : W1[844]? = some (cP 2 1 f)) (hM : am_Out S zX11_hid 40 1 [aR 0, aI (S.2 (i + 1).toNat)] W (am_oc code v) W1) (hc : code = 0 ∨ code = 2) (hW2 : W2 = if code = 0 then W1.set 844 (cP 2 1 (am_up f 0 v)) else W1) (h109 : W2[109]? = some (cO 11 fs2)) (hK : am_Out S zX12_hid 40 0 [aR 109, aI (S.2 (i + 1).toNat)] W2 (.inl (some (aI kv))) W3) (h109b : W3[109]? = some (cO 11 fs3)) (hT : am_Out S zX12_thrown 40 0 [aR 109] W3 (.inl (some (aI t))) W3) (ht : t = (if code = 0 then 0 else if code = 2 then 1 else 2)) (hf3 : W3[844]? = some (cP 2 1 f3)) (hv : code = 0 → f3 (Int.toNat 0) = v) (hC : code = 0 → v = kv) (kk : am_T S zL_law d (u - 1) Q 3820 (LL i none none) [] W3) : am_T S zL_law d u Q 3688 (LL i none none) [] W := by
  have fin : am_T S zL_law d (u - 1) Q 3741 (LL i (some (aI (if code = 0 then 0 else if code = 2 then 1 else 2))) (some (aI kv))) [] W3 := T_goto 3820 (am_dec tL_law_59 20 rfl) rfl (T_weak LL_w kk)
  refine T_aload_n (am_dec tL_law_58 26 rfl) rfl ?_
  refine LA_arg (k := 1) (am_dec tL_law_58 27 rfl) (am_dec tL_law_58 28 rfl) (am_dec tL_law_58 29 rfl) (am_dec tL_law_58 30 rfl) (am_dec tL_law_58 31 rfl) hS hi ⟨by decide, by decide⟩ (?_ : am_T _ _ _ _ _ 3695 _ _ _)
  refine T_aload_n (am_dec tL_law_58 32 rfl) rfl ?_
  refine T_callW (d' := 41) (u' := 1) (as := [aR 0, aI (S.2 (i + 1).toNat), aR 844]) rfl (am_dec tL_law_58 33 rfl) lkL_320 rfl (Nat.le_of_ble_eq_true rfl) (by omega) hu (am_OutWE (wr_hid (d := 40) (W1 := W1) (f := f) _ h0 hf hM hc) hW2.symm) ?_
  refine T_istore (ls' := LL i (some (aI (if code = 0 then 0 else if code = 2 then 1 else 2))) none) (am_dec tL_law_58 34 rfl) (by decide) rfl ?_
  refine T_aload_n (am_dec tL_law_58 35 rfl) rfl ?_
  refine LA_arg (k := 1) (am_dec tL_law_58 36 rfl) (am_dec tL_law_58 37 rfl) (am_dec tL_law_58 38 rfl) (am_dec tL_law_58 39 rfl) (am_dec tL_law_59 0 rfl) hS hi ⟨by decide, by decide⟩ (?_ : am_T _ _ _ _ _ 3708 _ _ _)
  refine T_callV (d' := 40) (as := [aI (S.2 (i + 1).toNat)]) rfl (am_dec tL_law_59 1 rfl) lkL_322 h109 rfl rfl (Nat.le_of_ble_eq_true rfl) (by omega) hK (fun _ => ?_)
  refine T_istore (ls' := LL i (some (aI (if code = 0 then 0 else if code = 2 then 1 else 2))) (some (aI kv))) (am_dec tL_law_59 2 rfl) (by decide) rfl ?_
  refine T_aload_n (am_dec tL_law_59 3 rfl) rfl ?_
  refine T_callV (d' := 40) (as := []) rfl (am_dec tL_law_59 4 rfl) lkL_168 h109b rfl rfl (Nat.le_of_ble_eq_true rfl) (by omega) hT (fun _ => ?_)
  refine T_iload (am_dec tL_law_59 5 rfl) rfl ?_
  refine T_icmp_eq 3724 (am_dec tL_law_59 6 rfl) rfl (fun _ => ?_) (fun h => absurd ht h)
  refine T_iload (am_dec tL_law_59 9 rfl) rfl ?_
  refine T_if_ne 3741 (am_dec tL_law_59 10 rfl) rfl (fun _ => fin) (fun g => ?_)
  have e0 : code = 0 := by
    by_cases e : code = 0
    · exact e
    · rw [if_neg e] at g
      split at g <;> omega
  have e1 : f3 (Int.toNat 0) = kv := (hv e0).trans (hC e0)
  refine T_aload_n (am_dec tL_law_59 11 rfl) rfl ?_
  refine T_iconst 0 (am_dec tL_law_59 12 rfl) rfl ⟨by decide, by decide⟩ ?_
  refine T_laload (n := 1) (f := f3) (am_dec tL_law_59 13 rfl) hf3 (by decide) (by decide) ?_
  refine T_iload (am_dec tL_law_59 14 rfl) rfl ?_
  refine T_i2l (am_dec tL_law_59 15 rfl) ?_
  refine T_lcmp (am_dec tL_law_59 16 rfl) ?_
  exact T_if_eq 3741 (am_dec tL_law_59 17 rfl) rfl (fun _ => fin) (fun h => absurd (by rw [e1, if_neg (Int.lt_irrefl _), if_pos rfl]) h)
theorem wk_image {S : am_S} {d u : Nat} {Q : AO → AH → Prop} {W W1 W3 : AH} {i v kv : Int} {fs fs2 : List AV} (hS : LawS S) (hi : 0 ≤ i ∧ i + 5 < S.1) (hd : 50 ≤ d) (h0 : W[0]? = some (cO 10 fs)) (hM : am_Out S zX11_image 40 0 [aR 0] W (.inl (some (aI v))) W1) (h109 : W1[109]? = some (cO 11 fs2)) (hK : am_Out S zX12_image 40 0 [aR 109] W1 (.inl (some (aI kv))) W3) (hC : v = kv) (kk : am_T S zL_law d u Q 3820 (LL i none none) [] W3) : am_T S zL_law d u Q 3744 (LL i none none) [] W := by
  refine T_aload_n (am_dec tL_law_59 21 rfl) rfl ?_
  refine T_callV (d' := 40) (as := []) rfl (am_dec tL_law_59 22 rfl) lkL_323 h0 rfl rfl (Nat.le_of_ble_eq_true rfl) (by omega) hM (fun _ => ?_)
  refine T_aload_n (am_dec tL_law_59 23 rfl) rfl ?_
  refine T_callV (d' := 40) (as := []) rfl (am_dec tL_law_59 24 rfl) lkL_326 h109 rfl rfl (Nat.le_of_ble_eq_true rfl) (by omega) hK (fun _ => ?_)
  exact T_icmp_eq 3820 (am_dec tL_law_59 25 rfl) rfl (fun _ => kk) (fun h => absurd hC h)
theorem wk_restore {S : am_S} {d u : Nat} {Q : AO → AH → Prop} {W W1 W3 : AH} {i v kv : Int} {fs fs2 : List AV} (hS : LawS S) (hi : 0 ≤ i ∧ i + 5 < S.1) (hd : 50 ≤ d) (h0 : W[0]? = some (cO 10 fs)) (hM : am_Out S zX11_restore 40 0 [aR 0] W (.inl (some (aI v))) W1) (h109 : W1[109]? = some (cO 11 fs2)) (hK : am_Out S zX12_restore 40 0 [aR 109] W1 (.inl (some (aI kv))) W3) (hC : v = kv) (kk : am_T S zL_law d u Q 3820 (LL i none none) [] W3) : am_T S zL_law d u Q 3757 (LL i none none) [] W := by
  refine T_aload_n (am_dec tL_law_59 28 rfl) rfl ?_
  refine T_callV (d' := 40) (as := []) rfl (am_dec tL_law_59 29 rfl) lkL_327 h0 rfl rfl (Nat.le_of_ble_eq_true rfl) (by omega) hM (fun _ => ?_)
  refine T_aload_n (am_dec tL_law_59 30 rfl) rfl ?_
  refine T_callV (d' := 40) (as := []) rfl (am_dec tL_law_59 31 rfl) lkL_330 h109 rfl rfl (Nat.le_of_ble_eq_true rfl) (by omega) hK (fun _ => ?_)
  exact T_icmp_eq 3820 (am_dec tL_law_59 32 rfl) rfl (fun _ => kk) (fun h => absurd hC h)
theorem wk_status {S : am_S} {d u : Nat} {Q : AO → AH → Prop} {W W1 W3 : AH} {i v kv : Int} {fs fs2 : List AV} (hS : LawS S) (hi : 0 ≤ i ∧ i + 5 < S.1) (hd : 50 ≤ d) (h0 : W[0]? = some (cO 10 fs)) (hM : am_Out S zX11_status 40 0 [aR 0, aI (S.2 (i + 1).toNat)] W (.inl (some (aI v))) W1) (h109 : W1[109]? = some (cO 11 fs2)) (hK : am_Out S zX12_status 40 0 [aR 109, aI (S.2 (i + 1).toNat)] W1 (.inl (some (aI kv))) W3) (hC : v = kv) (kk : am_T S zL_law d u Q 3820 (LL i none none) [] W3) : am_T S zL_law d u Q 3770 (LL i none none) [] W := by
  refine T_aload_n (am_dec tL_law_59 35 rfl) rfl ?_
  refine LA_arg (k := 1) (am_dec tL_law_59 36 rfl) (am_dec tL_law_59 37 rfl) (am_dec tL_law_59 38 rfl) (am_dec tL_law_59 39 rfl) (am_dec tL_law_60 0 rfl) hS hi ⟨by decide, by decide⟩ (?_ : am_T _ _ _ _ _ 3777 _ _ _)
  refine T_callV (d' := 40) (as := [aI (S.2 (i + 1).toNat)]) rfl (am_dec tL_law_60 1 rfl) lkL_331 h0 rfl rfl (Nat.le_of_ble_eq_true rfl) (by omega) hM (fun _ => ?_)
  refine T_aload_n (am_dec tL_law_60 2 rfl) rfl ?_
  refine LA_arg (k := 1) (am_dec tL_law_60 3 rfl) (am_dec tL_law_60 4 rfl) (am_dec tL_law_60 5 rfl) (am_dec tL_law_60 6 rfl) (am_dec tL_law_60 7 rfl) hS hi ⟨by decide, by decide⟩ (?_ : am_T _ _ _ _ _ 3787 _ _ _)
  refine T_callV (d' := 40) (as := [aI (S.2 (i + 1).toNat)]) rfl (am_dec tL_law_60 8 rfl) lkL_334 h109 rfl rfl (Nat.le_of_ble_eq_true rfl) (by omega) hK (fun _ => ?_)
  exact T_icmp_eq 3820 (am_dec tL_law_60 9 rfl) rfl (fun _ => kk) (fun h => absurd hC h)
theorem wk_count {S : am_S} {d u : Nat} {Q : AO → AH → Prop} {W W1 W3 : AH} {i v kv : Int} {fs fs2 : List AV} (hS : LawS S) (hi : 0 ≤ i ∧ i + 5 < S.1) (hd : 50 ≤ d) (h0 : W[0]? = some (cO 10 fs)) (hM : am_Out S zX11_count 40 0 [aR 0, aI (S.2 (i + 1).toNat)] W (.inl (some (aI v))) W1) (h109 : W1[109]? = some (cO 11 fs2)) (hK : am_Out S zX12_count 40 0 [aR 109, aI (S.2 (i + 1).toNat)] W1 (.inl (some (aI kv))) W3) (hC : v = kv) (kk : am_T S zL_law d u Q 3820 (LL i none none) [] W3) : am_T S zL_law d u Q 3795 (LL i none none) [] W := by
  refine T_aload_n (am_dec tL_law_60 12 rfl) rfl ?_
  refine LA_arg (k := 1) (am_dec tL_law_60 13 rfl) (am_dec tL_law_60 14 rfl) (am_dec tL_law_60 15 rfl) (am_dec tL_law_60 16 rfl) (am_dec tL_law_60 17 rfl) hS hi ⟨by decide, by decide⟩ (?_ : am_T _ _ _ _ _ 3802 _ _ _)
  refine T_callV (d' := 40) (as := [aI (S.2 (i + 1).toNat)]) rfl (am_dec tL_law_60 18 rfl) lkL_335 h0 rfl rfl (Nat.le_of_ble_eq_true rfl) (by omega) hM (fun _ => ?_)
  refine T_aload_n (am_dec tL_law_60 19 rfl) rfl ?_
  refine LA_arg (k := 1) (am_dec tL_law_60 20 rfl) (am_dec tL_law_60 21 rfl) (am_dec tL_law_60 22 rfl) (am_dec tL_law_60 23 rfl) (am_dec tL_law_60 24 rfl) hS hi ⟨by decide, by decide⟩ (?_ : am_T _ _ _ _ _ 3812 _ _ _)
  refine T_callV (d' := 40) (as := [aI (S.2 (i + 1).toNat)]) rfl (am_dec tL_law_60 25 rfl) lkL_338 h109 rfl rfl (Nat.le_of_ble_eq_true rfl) (by omega) hK (fun _ => ?_)
  exact T_icmp_eq 3820 (am_dec tL_law_60 26 rfl) rfl (fun _ => kk) (fun h => absurd hC h)
