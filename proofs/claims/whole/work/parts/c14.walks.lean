/-! THE LAW: the walks of its cases -/
abbrev LL (i : Int) (x5 x6 : Option AV) : List (Option AV) := [some (aX 1), some (aR 0), some (aR 109), some (aR 844), some (aI i), x5, x6]
def LawS (S : am_S) : Prop := S.1 ≤ 3072 ∧ ∀ j, am_i32 (S.2 j)
theorem LL_w {i : Int} {x5 x6 : Option AV} : am_sub (LL i none none) (LL i x5 x6) := ⟨rfl, fun j v hj => by
  match j with
  | 0 => exact hj
  | 1 => exact hj
  | 2 => exact hj
  | 3 => exact hj
  | 4 => exact hj
  | 5 => cases hj
  | 6 => cases hj
  | n + 7 => cases hj⟩
theorem am_OutWE {S : am_S} {y : am_Z} {d u : Nat} {as : List AV} {w w1 w2 : AH} {o : AO} (h : am_OutW S y d u as w o w1) (e : w1 = w2) : am_OutW S y d u as w o w2 := e ▸ h
theorem LA_arg {S : am_S} {d u pc : Nat} {Q : AO → AH → Prop} {i k : Int} {x5 x6 : Option AV} {st : List AV} {w : AH} (h1 : decode (am_cc zL_law) pc = .ok (.aload_n 0, 1)) (h2 : decode (am_cc zL_law) (pc + 1) = .ok (.iload 4, 2)) (h3 : decode (am_cc zL_law) (pc + 3) = .ok (.iconst k, 1)) (h4 : decode (am_cc zL_law) (pc + 4) = .ok (.iadd, 1)) (h5 : decode (am_cc zL_law) (pc + 5) = .ok (.iaload, 1)) (hS : LawS S) (hi : 0 ≤ i ∧ i + 5 < S.1) (hk : 0 ≤ k ∧ k ≤ 5) (kk : am_T S zL_law d u Q (pc + 6) (LL i x5 x6) (aI (S.2 (i + k).toNat) :: st) w) : am_T S zL_law d u Q pc (LL i x5 x6) st w := by
  have hS1 := hS.1
  refine T_aloadX_n h1 rfl ?_
  refine T_iload h2 rfl ?_
  refine T_iconst k h3 rfl ⟨by omega, by omega⟩ ?_
  refine T_iadd (i + k) h4 rfl ⟨by omega, by omega⟩ ?_
  exact T_ialoadS h5 (by omega) (by omega) (hS.2 _) kk
theorem wk_feed {S : am_S} {d u : Nat} {Q : AO → AH → Prop} {W W1 W3 : AH} {i v kv : Int} {fs fs2 : List AV} (hS : LawS S) (hi : 0 ≤ i ∧ i + 5 < S.1) (hd : 50 ≤ d) (h0 : W[0]? = some (cO 10 fs)) (hM : am_Out S zX11_feed 40 0 [aR 0, aI (S.2 (i + 1).toNat), aI (S.2 (i + 2).toNat), aI (S.2 (i + 3).toNat), aI (S.2 (i + 4).toNat), aI (S.2 (i + 5).toNat)] W (.inl (some (aI v))) W1) (h109 : W1[109]? = some (cO 11 fs2)) (hK : am_Out S zX12_feed 40 0 [aR 109, aI (S.2 (i + 1).toNat), aI (S.2 (i + 2).toNat), aI (S.2 (i + 3).toNat), aI (S.2 (i + 4).toNat), aI (S.2 (i + 5).toNat)] W1 (.inl (some (aI kv))) W3) (hC : v = kv) (kk : am_T S zL_law d u Q 3820 (LL i none none) [] W3) : am_T S zL_law d u Q 268 (LL i none none) [] W := by
  refine T_aload_n (am_dec tL_law_0 25 rfl) rfl ?_
  refine LA_arg (k := 1) (am_dec tL_law_0 26 rfl) (am_dec tL_law_0 27 rfl) (am_dec tL_law_0 28 rfl) (am_dec tL_law_0 29 rfl) (am_dec tL_law_0 30 rfl) hS hi ⟨by decide, by decide⟩ (?_ : am_T _ _ _ _ _ 275 _ _ _)
  refine LA_arg (k := 2) (am_dec tL_law_0 31 rfl) (am_dec tL_law_0 32 rfl) (am_dec tL_law_0 33 rfl) (am_dec tL_law_0 34 rfl) (am_dec tL_law_0 35 rfl) hS hi ⟨by decide, by decide⟩ (?_ : am_T _ _ _ _ _ 281 _ _ _)
  refine LA_arg (k := 3) (am_dec tL_law_0 36 rfl) (am_dec tL_law_0 37 rfl) (am_dec tL_law_0 38 rfl) (am_dec tL_law_0 39 rfl) (am_dec tL_law_1 0 rfl) hS hi ⟨by decide, by decide⟩ (?_ : am_T _ _ _ _ _ 287 _ _ _)
  refine LA_arg (k := 4) (am_dec tL_law_1 1 rfl) (am_dec tL_law_1 2 rfl) (am_dec tL_law_1 3 rfl) (am_dec tL_law_1 4 rfl) (am_dec tL_law_1 5 rfl) hS hi ⟨by decide, by decide⟩ (?_ : am_T _ _ _ _ _ 293 _ _ _)
  refine LA_arg (k := 5) (am_dec tL_law_1 6 rfl) (am_dec tL_law_1 7 rfl) (am_dec tL_law_1 8 rfl) (am_dec tL_law_1 9 rfl) (am_dec tL_law_1 10 rfl) hS hi ⟨by decide, by decide⟩ (?_ : am_T _ _ _ _ _ 299 _ _ _)
  refine T_callV (d' := 40) (as := [aI (S.2 (i + 1).toNat), aI (S.2 (i + 2).toNat), aI (S.2 (i + 3).toNat), aI (S.2 (i + 4).toNat), aI (S.2 (i + 5).toNat)]) rfl (am_dec tL_law_1 11 rfl) lkL_158 h0 rfl rfl (Nat.le_of_ble_eq_true rfl) (by omega) hM (fun _ => ?_)
  refine T_aload_n (am_dec tL_law_1 12 rfl) rfl ?_
  refine LA_arg (k := 1) (am_dec tL_law_1 13 rfl) (am_dec tL_law_1 14 rfl) (am_dec tL_law_1 15 rfl) (am_dec tL_law_1 16 rfl) (am_dec tL_law_1 17 rfl) hS hi ⟨by decide, by decide⟩ (?_ : am_T _ _ _ _ _ 309 _ _ _)
  refine LA_arg (k := 2) (am_dec tL_law_1 18 rfl) (am_dec tL_law_1 19 rfl) (am_dec tL_law_1 20 rfl) (am_dec tL_law_1 21 rfl) (am_dec tL_law_1 22 rfl) hS hi ⟨by decide, by decide⟩ (?_ : am_T _ _ _ _ _ 315 _ _ _)
  refine LA_arg (k := 3) (am_dec tL_law_1 23 rfl) (am_dec tL_law_1 24 rfl) (am_dec tL_law_1 25 rfl) (am_dec tL_law_1 26 rfl) (am_dec tL_law_1 27 rfl) hS hi ⟨by decide, by decide⟩ (?_ : am_T _ _ _ _ _ 321 _ _ _)
  refine LA_arg (k := 4) (am_dec tL_law_1 28 rfl) (am_dec tL_law_1 29 rfl) (am_dec tL_law_1 30 rfl) (am_dec tL_law_1 31 rfl) (am_dec tL_law_1 32 rfl) hS hi ⟨by decide, by decide⟩ (?_ : am_T _ _ _ _ _ 327 _ _ _)
  refine LA_arg (k := 5) (am_dec tL_law_1 33 rfl) (am_dec tL_law_1 34 rfl) (am_dec tL_law_1 35 rfl) (am_dec tL_law_1 36 rfl) (am_dec tL_law_1 37 rfl) hS hi ⟨by decide, by decide⟩ (?_ : am_T _ _ _ _ _ 333 _ _ _)
  refine T_callV (d' := 40) (as := [aI (S.2 (i + 1).toNat), aI (S.2 (i + 2).toNat), aI (S.2 (i + 3).toNat), aI (S.2 (i + 4).toNat), aI (S.2 (i + 5).toNat)]) rfl (am_dec tL_law_1 38 rfl) lkL_161 h109 rfl rfl (Nat.le_of_ble_eq_true rfl) (by omega) hK (fun _ => ?_)
  exact T_icmp_eq 3820 (am_dec tL_law_1 39 rfl) rfl (fun _ => kk) (fun h => absurd hC h)
theorem wk_port {S : am_S} {d u : Nat} {Q : AO → AH → Prop} {W W1 W2 W3 : AH} {i code v kv t : Int} {fs fs2 fs3 : List AV} {f f3 : Nat → Int} (hS : LawS S) (hi : 0 ≤ i ∧ i + 5 < S.1) (hd : 50 ≤ d) (hu : 1 ≤ u) (h0 : W[0]? = some (cO 10 fs)) (hf : W1[844]? = some (cP 2 1 f)) (hM : am_Out S zX11_port 40 1 [aR 0, aI (S.2 (i + 1).toNat)] W (am_oc code v) W1) (hc : code = 0 ∨ code = 3) (hW2 : W2 = if code = 0 then W1.set 844 (cP 2 1 (am_up f 0 v)) else W1) (h109 : W2[109]? = some (cO 11 fs2)) (hK : am_Out S zX12_port 40 0 [aR 109, aI (S.2 (i + 1).toNat)] W2 (.inl (some (aI kv))) W3) (h109b : W3[109]? = some (cO 11 fs3)) (hT : am_Out S zX12_thrown 40 0 [aR 109] W3 (.inl (some (aI t))) W3) (ht : t = (if code = 0 then 0 else if code = 3 then 1 else 2)) (hf3 : W3[844]? = some (cP 2 1 f3)) (hv : code = 0 → f3 (Int.toNat 0) = v) (hC : code = 0 → v = kv) (kk : am_T S zL_law d (u - 1) Q 3820 (LL i none none) [] W3) : am_T S zL_law d u Q 341 (LL i none none) [] W := by
  have fin : am_T S zL_law d (u - 1) Q 394 (LL i (some (aI (if code = 0 then 0 else if code = 3 then 1 else 2))) (some (aI kv))) [] W3 := T_goto 3820 (am_dec tL_law_2 36 rfl) rfl (T_weak LL_w kk)
  refine T_aload_n (am_dec tL_law_2 2 rfl) rfl ?_
  refine LA_arg (k := 1) (am_dec tL_law_2 3 rfl) (am_dec tL_law_2 4 rfl) (am_dec tL_law_2 5 rfl) (am_dec tL_law_2 6 rfl) (am_dec tL_law_2 7 rfl) hS hi ⟨by decide, by decide⟩ (?_ : am_T _ _ _ _ _ 348 _ _ _)
  refine T_aload_n (am_dec tL_law_2 8 rfl) rfl ?_
  refine T_callW (d' := 41) (u' := 1) (as := [aR 0, aI (S.2 (i + 1).toNat), aR 844]) rfl (am_dec tL_law_2 9 rfl) lkL_162 rfl (Nat.le_of_ble_eq_true rfl) (by omega) hu (am_OutWE (wr_port (d := 40) (W1 := W1) (f := f) _ h0 hf hM hc) hW2.symm) ?_
  refine T_istore (ls' := LL i (some (aI (if code = 0 then 0 else if code = 3 then 1 else 2))) none) (am_dec tL_law_2 10 rfl) (by decide) rfl ?_
  refine T_aload_n (am_dec tL_law_2 11 rfl) rfl ?_
  refine LA_arg (k := 1) (am_dec tL_law_2 12 rfl) (am_dec tL_law_2 13 rfl) (am_dec tL_law_2 14 rfl) (am_dec tL_law_2 15 rfl) (am_dec tL_law_2 16 rfl) hS hi ⟨by decide, by decide⟩ (?_ : am_T _ _ _ _ _ 361 _ _ _)
  refine T_callV (d' := 40) (as := [aI (S.2 (i + 1).toNat)]) rfl (am_dec tL_law_2 17 rfl) lkL_167 h109 rfl rfl (Nat.le_of_ble_eq_true rfl) (by omega) hK (fun _ => ?_)
  refine T_istore (ls' := LL i (some (aI (if code = 0 then 0 else if code = 3 then 1 else 2))) (some (aI kv))) (am_dec tL_law_2 18 rfl) (by decide) rfl ?_
  refine T_aload_n (am_dec tL_law_2 19 rfl) rfl ?_
  refine T_callV (d' := 40) (as := []) rfl (am_dec tL_law_2 20 rfl) lkL_168 h109b rfl rfl (Nat.le_of_ble_eq_true rfl) (by omega) hT (fun _ => ?_)
  refine T_iload (am_dec tL_law_2 21 rfl) rfl ?_
  refine T_icmp_eq 377 (am_dec tL_law_2 22 rfl) rfl (fun _ => ?_) (fun h => absurd ht h)
  refine T_iload (am_dec tL_law_2 25 rfl) rfl ?_
  refine T_if_ne 394 (am_dec tL_law_2 26 rfl) rfl (fun _ => fin) (fun g => ?_)
  have e0 : code = 0 := by
    by_cases e : code = 0
    · exact e
    · rw [if_neg e] at g
      split at g <;> omega
  have e1 : f3 (Int.toNat 0) = kv := (hv e0).trans (hC e0)
  refine T_aload_n (am_dec tL_law_2 27 rfl) rfl ?_
  refine T_iconst 0 (am_dec tL_law_2 28 rfl) rfl ⟨by decide, by decide⟩ ?_
  refine T_laload (n := 1) (f := f3) (am_dec tL_law_2 29 rfl) hf3 (by decide) (by decide) ?_
  refine T_iload (am_dec tL_law_2 30 rfl) rfl ?_
  refine T_i2l (am_dec tL_law_2 31 rfl) ?_
  refine T_lcmp (am_dec tL_law_2 32 rfl) ?_
  exact T_if_eq 394 (am_dec tL_law_2 33 rfl) rfl (fun _ => fin) (fun h => absurd (by rw [e1, if_neg (Int.lt_irrefl _), if_pos rfl]) h)
theorem wk_fault {S : am_S} {d u : Nat} {Q : AO → AH → Prop} {W W1 W3 : AH} {i v kv : Int} {fs fs2 : List AV} (hS : LawS S) (hi : 0 ≤ i ∧ i + 5 < S.1) (hd : 50 ≤ d) (h0 : W[0]? = some (cO 10 fs)) (hM : am_Out S zX11_fault 40 0 [aR 0] W (.inl (some (aI v))) W1) (h109 : W1[109]? = some (cO 11 fs2)) (hK : am_Out S zX12_fault 40 0 [aR 109] W1 (.inl (some (aI kv))) W3) (hC : v = kv) (kk : am_T S zL_law d u Q 3820 (LL i none none) [] W3) : am_T S zL_law d u Q 397 (LL i none none) [] W := by
  refine T_aload_n (am_dec tL_law_2 37 rfl) rfl ?_
  refine T_callV (d' := 40) (as := []) rfl (am_dec tL_law_2 38 rfl) lkL_172 h0 rfl rfl (Nat.le_of_ble_eq_true rfl) (by omega) hM (fun _ => ?_)
  refine T_aload_n (am_dec tL_law_2 39 rfl) rfl ?_
  refine T_callV (d' := 40) (as := []) rfl (am_dec tL_law_3 0 rfl) lkL_175 h109 rfl rfl (Nat.le_of_ble_eq_true rfl) (by omega) hK (fun _ => ?_)
  exact T_icmp_eq 3820 (am_dec tL_law_3 1 rfl) rfl (fun _ => kk) (fun h => absurd hC h)
theorem wk_told {S : am_S} {d u : Nat} {Q : AO → AH → Prop} {W W1 W2 W3 : AH} {i code v kv t : Int} {fs fs2 fs3 : List AV} {f f3 : Nat → Int} (hS : LawS S) (hi : 0 ≤ i ∧ i + 5 < S.1) (hd : 50 ≤ d) (hu : 1 ≤ u) (h0 : W[0]? = some (cO 10 fs)) (hf : W1[844]? = some (cP 2 1 f)) (hM : am_Out S zX11_told 40 1 [aR 0, aI (S.2 (i + 1).toNat)] W (am_oc code v) W1) (hc : code = 0 ∨ code = 3) (hW2 : W2 = if code = 0 then W1.set 844 (cP 2 1 (am_up f 0 v)) else W1) (h109 : W2[109]? = some (cO 11 fs2)) (hK : am_Out S zX12_told 40 0 [aR 109, aI (S.2 (i + 1).toNat)] W2 (.inl (some (aI kv))) W3) (h109b : W3[109]? = some (cO 11 fs3)) (hT : am_Out S zX12_thrown 40 0 [aR 109] W3 (.inl (some (aI t))) W3) (ht : t = (if code = 0 then 0 else if code = 3 then 1 else 2)) (hf3 : W3[844]? = some (cP 2 1 f3)) (hv : code = 0 → f3 (Int.toNat 0) = v) (hC : code = 0 → v = kv) (kk : am_T S zL_law d (u - 1) Q 3820 (LL i none none) [] W3) : am_T S zL_law d u Q 410 (LL i none none) [] W := by
  have fin : am_T S zL_law d (u - 1) Q 463 (LL i (some (aI (if code = 0 then 0 else if code = 3 then 1 else 2))) (some (aI kv))) [] W3 := T_goto 3820 (am_dec tL_law_3 38 rfl) rfl (T_weak LL_w kk)
  refine T_aload_n (am_dec tL_law_3 4 rfl) rfl ?_
  refine LA_arg (k := 1) (am_dec tL_law_3 5 rfl) (am_dec tL_law_3 6 rfl) (am_dec tL_law_3 7 rfl) (am_dec tL_law_3 8 rfl) (am_dec tL_law_3 9 rfl) hS hi ⟨by decide, by decide⟩ (?_ : am_T _ _ _ _ _ 417 _ _ _)
  refine T_aload_n (am_dec tL_law_3 10 rfl) rfl ?_
  refine T_callW (d' := 41) (u' := 1) (as := [aR 0, aI (S.2 (i + 1).toNat), aR 844]) rfl (am_dec tL_law_3 11 rfl) lkL_176 rfl (Nat.le_of_ble_eq_true rfl) (by omega) hu (am_OutWE (wr_told (d := 40) (W1 := W1) (f := f) _ h0 hf hM hc) hW2.symm) ?_
  refine T_istore (ls' := LL i (some (aI (if code = 0 then 0 else if code = 3 then 1 else 2))) none) (am_dec tL_law_3 12 rfl) (by decide) rfl ?_
  refine T_aload_n (am_dec tL_law_3 13 rfl) rfl ?_
  refine LA_arg (k := 1) (am_dec tL_law_3 14 rfl) (am_dec tL_law_3 15 rfl) (am_dec tL_law_3 16 rfl) (am_dec tL_law_3 17 rfl) (am_dec tL_law_3 18 rfl) hS hi ⟨by decide, by decide⟩ (?_ : am_T _ _ _ _ _ 430 _ _ _)
  refine T_callV (d' := 40) (as := [aI (S.2 (i + 1).toNat)]) rfl (am_dec tL_law_3 19 rfl) lkL_178 h109 rfl rfl (Nat.le_of_ble_eq_true rfl) (by omega) hK (fun _ => ?_)
  refine T_istore (ls' := LL i (some (aI (if code = 0 then 0 else if code = 3 then 1 else 2))) (some (aI kv))) (am_dec tL_law_3 20 rfl) (by decide) rfl ?_
  refine T_aload_n (am_dec tL_law_3 21 rfl) rfl ?_
  refine T_callV (d' := 40) (as := []) rfl (am_dec tL_law_3 22 rfl) lkL_168 h109b rfl rfl (Nat.le_of_ble_eq_true rfl) (by omega) hT (fun _ => ?_)
  refine T_iload (am_dec tL_law_3 23 rfl) rfl ?_
  refine T_icmp_eq 446 (am_dec tL_law_3 24 rfl) rfl (fun _ => ?_) (fun h => absurd ht h)
  refine T_iload (am_dec tL_law_3 27 rfl) rfl ?_
  refine T_if_ne 463 (am_dec tL_law_3 28 rfl) rfl (fun _ => fin) (fun g => ?_)
  have e0 : code = 0 := by
    by_cases e : code = 0
    · exact e
    · rw [if_neg e] at g
      split at g <;> omega
  have e1 : f3 (Int.toNat 0) = kv := (hv e0).trans (hC e0)
  refine T_aload_n (am_dec tL_law_3 29 rfl) rfl ?_
  refine T_iconst 0 (am_dec tL_law_3 30 rfl) rfl ⟨by decide, by decide⟩ ?_
  refine T_laload (n := 1) (f := f3) (am_dec tL_law_3 31 rfl) hf3 (by decide) (by decide) ?_
  refine T_iload (am_dec tL_law_3 32 rfl) rfl ?_
  refine T_i2l (am_dec tL_law_3 33 rfl) ?_
  refine T_lcmp (am_dec tL_law_3 34 rfl) ?_
  exact T_if_eq 463 (am_dec tL_law_3 35 rfl) rfl (fun _ => fin) (fun h => absurd (by rw [e1, if_neg (Int.lt_irrefl _), if_pos rfl]) h)
theorem wk_fog {S : am_S} {d u : Nat} {Q : AO → AH → Prop} {W W1 W2 W3 : AH} {i code v kv t : Int} {fs fs2 fs3 : List AV} {f f3 : Nat → Int} (hS : LawS S) (hi : 0 ≤ i ∧ i + 5 < S.1) (hd : 50 ≤ d) (hu : 1 ≤ u) (h0 : W[0]? = some (cO 10 fs)) (hf : W1[844]? = some (cP 2 1 f)) (hM : am_Out S zX11_fog 40 1 [aR 0, aI (S.2 (i + 1).toNat), aI (S.2 (i + 2).toNat), aI (S.2 (i + 3).toNat)] W (am_oc code v) W1) (hc : code = 0 ∨ code = 1 ∨ code = 3) (hW2 : W2 = if code = 0 then W1.set 844 (cP 2 1 (am_up f 0 v)) else W1) (h109 : W2[109]? = some (cO 11 fs2)) (hK : am_Out S zX12_fog 40 0 [aR 109, aI (S.2 (i + 1).toNat), aI (S.2 (i + 2).toNat), aI (S.2 (i + 3).toNat)] W2 (.inl (some (aI kv))) W3) (h109b : W3[109]? = some (cO 11 fs3)) (hT : am_Out S zX12_thrown 40 0 [aR 109] W3 (.inl (some (aI t))) W3) (ht : t = (if code = 0 then 0 else if code = 1 then 1 else 2)) (hf3 : W3[844]? = some (cP 2 1 f3)) (hv : code = 0 → f3 (Int.toNat 0) = v) (hC : code = 0 → v = kv) (kk : am_T S zL_law d (u - 1) Q 3820 (LL i none none) [] W3) : am_T S zL_law d u Q 466 (LL i none none) [] W := by
  have fin : am_T S zL_law d (u - 1) Q 543 (LL i (some (aI (if code = 0 then 0 else if code = 1 then 1 else 2))) (some (aI kv))) [] W3 := T_goto 3820 (am_dec tL_law_5 13 rfl) rfl (T_weak LL_w kk)
  refine T_aload_n (am_dec tL_law_3 39 rfl) rfl ?_
  refine LA_arg (k := 1) (am_dec tL_law_4 0 rfl) (am_dec tL_law_4 1 rfl) (am_dec tL_law_4 2 rfl) (am_dec tL_law_4 3 rfl) (am_dec tL_law_4 4 rfl) hS hi ⟨by decide, by decide⟩ (?_ : am_T _ _ _ _ _ 473 _ _ _)
  refine LA_arg (k := 2) (am_dec tL_law_4 5 rfl) (am_dec tL_law_4 6 rfl) (am_dec tL_law_4 7 rfl) (am_dec tL_law_4 8 rfl) (am_dec tL_law_4 9 rfl) hS hi ⟨by decide, by decide⟩ (?_ : am_T _ _ _ _ _ 479 _ _ _)
  refine LA_arg (k := 3) (am_dec tL_law_4 10 rfl) (am_dec tL_law_4 11 rfl) (am_dec tL_law_4 12 rfl) (am_dec tL_law_4 13 rfl) (am_dec tL_law_4 14 rfl) hS hi ⟨by decide, by decide⟩ (?_ : am_T _ _ _ _ _ 485 _ _ _)
  refine T_aload_n (am_dec tL_law_4 15 rfl) rfl ?_
  refine T_callW (d' := 41) (u' := 1) (as := [aR 0, aI (S.2 (i + 1).toNat), aI (S.2 (i + 2).toNat), aI (S.2 (i + 3).toNat), aR 844]) rfl (am_dec tL_law_4 16 rfl) lkL_179 rfl (Nat.le_of_ble_eq_true rfl) (by omega) hu (am_OutWE (wr_fog (d := 40) (W1 := W1) (f := f) _ _ _ h0 hf hM hc) hW2.symm) ?_
  refine T_istore (ls' := LL i (some (aI (if code = 0 then 0 else if code = 1 then 1 else 2))) none) (am_dec tL_law_4 17 rfl) (by decide) rfl ?_
  refine T_aload_n (am_dec tL_law_4 18 rfl) rfl ?_
  refine LA_arg (k := 1) (am_dec tL_law_4 19 rfl) (am_dec tL_law_4 20 rfl) (am_dec tL_law_4 21 rfl) (am_dec tL_law_4 22 rfl) (am_dec tL_law_4 23 rfl) hS hi ⟨by decide, by decide⟩ (?_ : am_T _ _ _ _ _ 498 _ _ _)
  refine LA_arg (k := 2) (am_dec tL_law_4 24 rfl) (am_dec tL_law_4 25 rfl) (am_dec tL_law_4 26 rfl) (am_dec tL_law_4 27 rfl) (am_dec tL_law_4 28 rfl) hS hi ⟨by decide, by decide⟩ (?_ : am_T _ _ _ _ _ 504 _ _ _)
  refine LA_arg (k := 3) (am_dec tL_law_4 29 rfl) (am_dec tL_law_4 30 rfl) (am_dec tL_law_4 31 rfl) (am_dec tL_law_4 32 rfl) (am_dec tL_law_4 33 rfl) hS hi ⟨by decide, by decide⟩ (?_ : am_T _ _ _ _ _ 510 _ _ _)
  refine T_callV (d' := 40) (as := [aI (S.2 (i + 1).toNat), aI (S.2 (i + 2).toNat), aI (S.2 (i + 3).toNat)]) rfl (am_dec tL_law_4 34 rfl) lkL_182 h109 rfl rfl (Nat.le_of_ble_eq_true rfl) (by omega) hK (fun _ => ?_)
  refine T_istore (ls' := LL i (some (aI (if code = 0 then 0 else if code = 1 then 1 else 2))) (some (aI kv))) (am_dec tL_law_4 35 rfl) (by decide) rfl ?_
  refine T_aload_n (am_dec tL_law_4 36 rfl) rfl ?_
  refine T_callV (d' := 40) (as := []) rfl (am_dec tL_law_4 37 rfl) lkL_168 h109b rfl rfl (Nat.le_of_ble_eq_true rfl) (by omega) hT (fun _ => ?_)
  refine T_iload (am_dec tL_law_4 38 rfl) rfl ?_
  refine T_icmp_eq 526 (am_dec tL_law_4 39 rfl) rfl (fun _ => ?_) (fun h => absurd ht h)
  refine T_iload (am_dec tL_law_5 2 rfl) rfl ?_
  refine T_if_ne 543 (am_dec tL_law_5 3 rfl) rfl (fun _ => fin) (fun g => ?_)
  have e0 : code = 0 := by
    by_cases e : code = 0
    · exact e
    · rw [if_neg e] at g
      split at g <;> omega
  have e1 : f3 (Int.toNat 0) = kv := (hv e0).trans (hC e0)
  refine T_aload_n (am_dec tL_law_5 4 rfl) rfl ?_
  refine T_iconst 0 (am_dec tL_law_5 5 rfl) rfl ⟨by decide, by decide⟩ ?_
  refine T_laload (n := 1) (f := f3) (am_dec tL_law_5 6 rfl) hf3 (by decide) (by decide) ?_
  refine T_iload (am_dec tL_law_5 7 rfl) rfl ?_
  refine T_i2l (am_dec tL_law_5 8 rfl) ?_
  refine T_lcmp (am_dec tL_law_5 9 rfl) ?_
  exact T_if_eq 543 (am_dec tL_law_5 10 rfl) rfl (fun _ => fin) (fun h => absurd (by rw [e1, if_neg (Int.lt_irrefl _), if_pos rfl]) h)
theorem wk_sums {S : am_S} {d u : Nat} {Q : AO → AH → Prop} {W W1 W2 W3 : AH} {i code v kv t : Int} {fs fs2 fs3 : List AV} {f f3 : Nat → Int} (hS : LawS S) (hi : 0 ≤ i ∧ i + 5 < S.1) (hd : 50 ≤ d) (hu : 1 ≤ u) (h0 : W[0]? = some (cO 10 fs)) (hf : W1[844]? = some (cP 2 1 f)) (hM : am_Out S zX11_sums 40 1 [aR 0, aI (S.2 (i + 1).toNat), aI (S.2 (i + 2).toNat)] W (am_oc code v) W1) (hc : code = 0 ∨ code = 3) (hW2 : W2 = if code = 0 then W1.set 844 (cP 2 1 (am_up f 0 v)) else W1) (h109 : W2[109]? = some (cO 11 fs2)) (hK : am_Out S zX12_sums 40 0 [aR 109, aI (S.2 (i + 1).toNat), aI (S.2 (i + 2).toNat)] W2 (.inl (some (aI kv))) W3) (h109b : W3[109]? = some (cO 11 fs3)) (hT : am_Out S zX12_thrown 40 0 [aR 109] W3 (.inl (some (aI t))) W3) (ht : t = (if code = 0 then 0 else if code = 3 then 1 else 2)) (hf3 : W3[844]? = some (cP 2 1 f3)) (hv : code = 0 → f3 (Int.toNat 0) = v) (hC : code = 0 → v = kv) (kk : am_T S zL_law d (u - 1) Q 3820 (LL i none none) [] W3) : am_T S zL_law d u Q 546 (LL i none none) [] W := by
  have fin : am_T S zL_law d (u - 1) Q 611 (LL i (some (aI (if code = 0 then 0 else if code = 3 then 1 else 2))) (some (aI kv))) [] W3 := T_goto 3820 (am_dec tL_law_6 18 rfl) rfl (T_weak LL_w kk)
  refine T_aload_n (am_dec tL_law_5 14 rfl) rfl ?_
  refine LA_arg (k := 1) (am_dec tL_law_5 15 rfl) (am_dec tL_law_5 16 rfl) (am_dec tL_law_5 17 rfl) (am_dec tL_law_5 18 rfl) (am_dec tL_law_5 19 rfl) hS hi ⟨by decide, by decide⟩ (?_ : am_T _ _ _ _ _ 553 _ _ _)
  refine LA_arg (k := 2) (am_dec tL_law_5 20 rfl) (am_dec tL_law_5 21 rfl) (am_dec tL_law_5 22 rfl) (am_dec tL_law_5 23 rfl) (am_dec tL_law_5 24 rfl) hS hi ⟨by decide, by decide⟩ (?_ : am_T _ _ _ _ _ 559 _ _ _)
  refine T_aload_n (am_dec tL_law_5 25 rfl) rfl ?_
  refine T_callW (d' := 41) (u' := 1) (as := [aR 0, aI (S.2 (i + 1).toNat), aI (S.2 (i + 2).toNat), aR 844]) rfl (am_dec tL_law_5 26 rfl) lkL_183 rfl (Nat.le_of_ble_eq_true rfl) (by omega) hu (am_OutWE (wr_sums (d := 40) (W1 := W1) (f := f) _ _ h0 hf hM hc) hW2.symm) ?_
  refine T_istore (ls' := LL i (some (aI (if code = 0 then 0 else if code = 3 then 1 else 2))) none) (am_dec tL_law_5 27 rfl) (by decide) rfl ?_
  refine T_aload_n (am_dec tL_law_5 28 rfl) rfl ?_
  refine LA_arg (k := 1) (am_dec tL_law_5 29 rfl) (am_dec tL_law_5 30 rfl) (am_dec tL_law_5 31 rfl) (am_dec tL_law_5 32 rfl) (am_dec tL_law_5 33 rfl) hS hi ⟨by decide, by decide⟩ (?_ : am_T _ _ _ _ _ 572 _ _ _)
  refine LA_arg (k := 2) (am_dec tL_law_5 34 rfl) (am_dec tL_law_5 35 rfl) (am_dec tL_law_5 36 rfl) (am_dec tL_law_5 37 rfl) (am_dec tL_law_5 38 rfl) hS hi ⟨by decide, by decide⟩ (?_ : am_T _ _ _ _ _ 578 _ _ _)
  refine T_callV (d' := 40) (as := [aI (S.2 (i + 1).toNat), aI (S.2 (i + 2).toNat)]) rfl (am_dec tL_law_5 39 rfl) lkL_186 h109 rfl rfl (Nat.le_of_ble_eq_true rfl) (by omega) hK (fun _ => ?_)
  refine T_istore (ls' := LL i (some (aI (if code = 0 then 0 else if code = 3 then 1 else 2))) (some (aI kv))) (am_dec tL_law_6 0 rfl) (by decide) rfl ?_
  refine T_aload_n (am_dec tL_law_6 1 rfl) rfl ?_
  refine T_callV (d' := 40) (as := []) rfl (am_dec tL_law_6 2 rfl) lkL_168 h109b rfl rfl (Nat.le_of_ble_eq_true rfl) (by omega) hT (fun _ => ?_)
  refine T_iload (am_dec tL_law_6 3 rfl) rfl ?_
  refine T_icmp_eq 594 (am_dec tL_law_6 4 rfl) rfl (fun _ => ?_) (fun h => absurd ht h)
  refine T_iload (am_dec tL_law_6 7 rfl) rfl ?_
  refine T_if_ne 611 (am_dec tL_law_6 8 rfl) rfl (fun _ => fin) (fun g => ?_)
  have e0 : code = 0 := by
    by_cases e : code = 0
    · exact e
    · rw [if_neg e] at g
      split at g <;> omega
  have e1 : f3 (Int.toNat 0) = kv := (hv e0).trans (hC e0)
  refine T_aload_n (am_dec tL_law_6 9 rfl) rfl ?_
  refine T_iconst 0 (am_dec tL_law_6 10 rfl) rfl ⟨by decide, by decide⟩ ?_
  refine T_laload (n := 1) (f := f3) (am_dec tL_law_6 11 rfl) hf3 (by decide) (by decide) ?_
  refine T_iload (am_dec tL_law_6 12 rfl) rfl ?_
  refine T_i2l (am_dec tL_law_6 13 rfl) ?_
  refine T_lcmp (am_dec tL_law_6 14 rfl) ?_
  exact T_if_eq 611 (am_dec tL_law_6 15 rfl) rfl (fun _ => fin) (fun h => absurd (by rw [e1, if_neg (Int.lt_irrefl _), if_pos rfl]) h)
theorem wk_set {S : am_S} {d u : Nat} {Q : AO → AH → Prop} {W W1 W2 W3 : AH} {i code v kv t : Int} {fs fs2 fs3 : List AV} {f f3 : Nat → Int} (hS : LawS S) (hi : 0 ≤ i ∧ i + 5 < S.1) (hd : 50 ≤ d) (hu : 1 ≤ u) (h0 : W[0]? = some (cO 10 fs)) (hf : W1[844]? = some (cP 2 1 f)) (hM : am_Out S zX11_set 40 1 [aR 0, aI (S.2 (i + 1).toNat), aI (S.2 (i + 2).toNat), aI (S.2 (i + 3).toNat)] W (am_oc code v) W1) (hc : code = 0 ∨ code = 1 ∨ code = 3) (hW2 : W2 = if code = 0 then W1.set 844 (cP 2 1 (am_up f 0 v)) else W1) (h109 : W2[109]? = some (cO 11 fs2)) (hK : am_Out S zX12_set 40 0 [aR 109, aI (S.2 (i + 1).toNat), aI (S.2 (i + 2).toNat), aI (S.2 (i + 3).toNat)] W2 (.inl (some (aI kv))) W3) (h109b : W3[109]? = some (cO 11 fs3)) (hT : am_Out S zX12_thrown 40 0 [aR 109] W3 (.inl (some (aI t))) W3) (ht : t = (if code = 0 then 0 else if code = 1 then 1 else 2)) (hf3 : W3[844]? = some (cP 2 1 f3)) (hv : code = 0 → f3 (Int.toNat 0) = v) (hC : code = 0 → v = kv) (kk : am_T S zL_law d (u - 1) Q 3820 (LL i none none) [] W3) : am_T S zL_law d u Q 614 (LL i none none) [] W := by
  have fin : am_T S zL_law d (u - 1) Q 691 (LL i (some (aI (if code = 0 then 0 else if code = 1 then 1 else 2))) (some (aI kv))) [] W3 := T_goto 3820 (am_dec tL_law_7 33 rfl) rfl (T_weak LL_w kk)
  refine T_aload_n (am_dec tL_law_6 19 rfl) rfl ?_
  refine LA_arg (k := 1) (am_dec tL_law_6 20 rfl) (am_dec tL_law_6 21 rfl) (am_dec tL_law_6 22 rfl) (am_dec tL_law_6 23 rfl) (am_dec tL_law_6 24 rfl) hS hi ⟨by decide, by decide⟩ (?_ : am_T _ _ _ _ _ 621 _ _ _)
  refine LA_arg (k := 2) (am_dec tL_law_6 25 rfl) (am_dec tL_law_6 26 rfl) (am_dec tL_law_6 27 rfl) (am_dec tL_law_6 28 rfl) (am_dec tL_law_6 29 rfl) hS hi ⟨by decide, by decide⟩ (?_ : am_T _ _ _ _ _ 627 _ _ _)
  refine LA_arg (k := 3) (am_dec tL_law_6 30 rfl) (am_dec tL_law_6 31 rfl) (am_dec tL_law_6 32 rfl) (am_dec tL_law_6 33 rfl) (am_dec tL_law_6 34 rfl) hS hi ⟨by decide, by decide⟩ (?_ : am_T _ _ _ _ _ 633 _ _ _)
  refine T_aload_n (am_dec tL_law_6 35 rfl) rfl ?_
  refine T_callW (d' := 41) (u' := 1) (as := [aR 0, aI (S.2 (i + 1).toNat), aI (S.2 (i + 2).toNat), aI (S.2 (i + 3).toNat), aR 844]) rfl (am_dec tL_law_6 36 rfl) lkL_187 rfl (Nat.le_of_ble_eq_true rfl) (by omega) hu (am_OutWE (wr_set (d := 40) (W1 := W1) (f := f) _ _ _ h0 hf hM hc) hW2.symm) ?_
  refine T_istore (ls' := LL i (some (aI (if code = 0 then 0 else if code = 1 then 1 else 2))) none) (am_dec tL_law_6 37 rfl) (by decide) rfl ?_
  refine T_aload_n (am_dec tL_law_6 38 rfl) rfl ?_
  refine LA_arg (k := 1) (am_dec tL_law_6 39 rfl) (am_dec tL_law_7 0 rfl) (am_dec tL_law_7 1 rfl) (am_dec tL_law_7 2 rfl) (am_dec tL_law_7 3 rfl) hS hi ⟨by decide, by decide⟩ (?_ : am_T _ _ _ _ _ 646 _ _ _)
  refine LA_arg (k := 2) (am_dec tL_law_7 4 rfl) (am_dec tL_law_7 5 rfl) (am_dec tL_law_7 6 rfl) (am_dec tL_law_7 7 rfl) (am_dec tL_law_7 8 rfl) hS hi ⟨by decide, by decide⟩ (?_ : am_T _ _ _ _ _ 652 _ _ _)
  refine LA_arg (k := 3) (am_dec tL_law_7 9 rfl) (am_dec tL_law_7 10 rfl) (am_dec tL_law_7 11 rfl) (am_dec tL_law_7 12 rfl) (am_dec tL_law_7 13 rfl) hS hi ⟨by decide, by decide⟩ (?_ : am_T _ _ _ _ _ 658 _ _ _)
  refine T_callV (d' := 40) (as := [aI (S.2 (i + 1).toNat), aI (S.2 (i + 2).toNat), aI (S.2 (i + 3).toNat)]) rfl (am_dec tL_law_7 14 rfl) lkL_189 h109 rfl rfl (Nat.le_of_ble_eq_true rfl) (by omega) hK (fun _ => ?_)
  refine T_istore (ls' := LL i (some (aI (if code = 0 then 0 else if code = 1 then 1 else 2))) (some (aI kv))) (am_dec tL_law_7 15 rfl) (by decide) rfl ?_
  refine T_aload_n (am_dec tL_law_7 16 rfl) rfl ?_
  refine T_callV (d' := 40) (as := []) rfl (am_dec tL_law_7 17 rfl) lkL_168 h109b rfl rfl (Nat.le_of_ble_eq_true rfl) (by omega) hT (fun _ => ?_)
  refine T_iload (am_dec tL_law_7 18 rfl) rfl ?_
  refine T_icmp_eq 674 (am_dec tL_law_7 19 rfl) rfl (fun _ => ?_) (fun h => absurd ht h)
  refine T_iload (am_dec tL_law_7 22 rfl) rfl ?_
  refine T_if_ne 691 (am_dec tL_law_7 23 rfl) rfl (fun _ => fin) (fun g => ?_)
  have e0 : code = 0 := by
    by_cases e : code = 0
    · exact e
    · rw [if_neg e] at g
      split at g <;> omega
  have e1 : f3 (Int.toNat 0) = kv := (hv e0).trans (hC e0)
  refine T_aload_n (am_dec tL_law_7 24 rfl) rfl ?_
  refine T_iconst 0 (am_dec tL_law_7 25 rfl) rfl ⟨by decide, by decide⟩ ?_
  refine T_laload (n := 1) (f := f3) (am_dec tL_law_7 26 rfl) hf3 (by decide) (by decide) ?_
  refine T_iload (am_dec tL_law_7 27 rfl) rfl ?_
  refine T_i2l (am_dec tL_law_7 28 rfl) ?_
  refine T_lcmp (am_dec tL_law_7 29 rfl) ?_
  exact T_if_eq 691 (am_dec tL_law_7 30 rfl) rfl (fun _ => fin) (fun h => absurd (by rw [e1, if_neg (Int.lt_irrefl _), if_pos rfl]) h)
theorem wk_led {S : am_S} {d u : Nat} {Q : AO → AH → Prop} {W W1 W2 W3 : AH} {i code v kv t : Int} {fs fs2 fs3 : List AV} {f f3 : Nat → Int} (hS : LawS S) (hi : 0 ≤ i ∧ i + 5 < S.1) (hd : 50 ≤ d) (hu : 1 ≤ u) (h0 : W[0]? = some (cO 10 fs)) (hf : W1[844]? = some (cP 2 1 f)) (hM : am_Out S zX11_led 40 1 [aR 0, aI (S.2 (i + 1).toNat), aI (S.2 (i + 2).toNat)] W (am_oc code v) W1) (hc : code = 0 ∨ code = 2 ∨ code = 3) (hW2 : W2 = if code = 0 then W1.set 844 (cP 2 1 (am_up f 0 v)) else W1) (h109 : W2[109]? = some (cO 11 fs2)) (hK : am_Out S zX12_led 40 0 [aR 109, aI (S.2 (i + 1).toNat), aI (S.2 (i + 2).toNat)] W2 (.inl (some (aI kv))) W3) (h109b : W3[109]? = some (cO 11 fs3)) (hT : am_Out S zX12_thrown 40 0 [aR 109] W3 (.inl (some (aI t))) W3) (ht : t = (if code = 0 then 0 else if code = 2 then 1 else 2)) (hf3 : W3[844]? = some (cP 2 1 f3)) (hv : code = 0 → f3 (Int.toNat 0) = v) (hC : code = 0 → v = kv) (kk : am_T S zL_law d (u - 1) Q 3820 (LL i none none) [] W3) : am_T S zL_law d u Q 694 (LL i none none) [] W := by
  have fin : am_T S zL_law d (u - 1) Q 759 (LL i (some (aI (if code = 0 then 0 else if code = 2 then 1 else 2))) (some (aI kv))) [] W3 := T_goto 3820 (am_dec tL_law_8 38 rfl) rfl (T_weak LL_w kk)
  refine T_aload_n (am_dec tL_law_7 34 rfl) rfl ?_
  refine LA_arg (k := 1) (am_dec tL_law_7 35 rfl) (am_dec tL_law_7 36 rfl) (am_dec tL_law_7 37 rfl) (am_dec tL_law_7 38 rfl) (am_dec tL_law_7 39 rfl) hS hi ⟨by decide, by decide⟩ (?_ : am_T _ _ _ _ _ 701 _ _ _)
  refine LA_arg (k := 2) (am_dec tL_law_8 0 rfl) (am_dec tL_law_8 1 rfl) (am_dec tL_law_8 2 rfl) (am_dec tL_law_8 3 rfl) (am_dec tL_law_8 4 rfl) hS hi ⟨by decide, by decide⟩ (?_ : am_T _ _ _ _ _ 707 _ _ _)
  refine T_aload_n (am_dec tL_law_8 5 rfl) rfl ?_
  refine T_callW (d' := 41) (u' := 1) (as := [aR 0, aI (S.2 (i + 1).toNat), aI (S.2 (i + 2).toNat), aR 844]) rfl (am_dec tL_law_8 6 rfl) lkL_190 rfl (Nat.le_of_ble_eq_true rfl) (by omega) hu (am_OutWE (wr_led (d := 40) (W1 := W1) (f := f) _ _ h0 hf hM hc) hW2.symm) ?_
  refine T_istore (ls' := LL i (some (aI (if code = 0 then 0 else if code = 2 then 1 else 2))) none) (am_dec tL_law_8 7 rfl) (by decide) rfl ?_
  refine T_aload_n (am_dec tL_law_8 8 rfl) rfl ?_
  refine LA_arg (k := 1) (am_dec tL_law_8 9 rfl) (am_dec tL_law_8 10 rfl) (am_dec tL_law_8 11 rfl) (am_dec tL_law_8 12 rfl) (am_dec tL_law_8 13 rfl) hS hi ⟨by decide, by decide⟩ (?_ : am_T _ _ _ _ _ 720 _ _ _)
  refine LA_arg (k := 2) (am_dec tL_law_8 14 rfl) (am_dec tL_law_8 15 rfl) (am_dec tL_law_8 16 rfl) (am_dec tL_law_8 17 rfl) (am_dec tL_law_8 18 rfl) hS hi ⟨by decide, by decide⟩ (?_ : am_T _ _ _ _ _ 726 _ _ _)
  refine T_callV (d' := 40) (as := [aI (S.2 (i + 1).toNat), aI (S.2 (i + 2).toNat)]) rfl (am_dec tL_law_8 19 rfl) lkL_192 h109 rfl rfl (Nat.le_of_ble_eq_true rfl) (by omega) hK (fun _ => ?_)
  refine T_istore (ls' := LL i (some (aI (if code = 0 then 0 else if code = 2 then 1 else 2))) (some (aI kv))) (am_dec tL_law_8 20 rfl) (by decide) rfl ?_
  refine T_aload_n (am_dec tL_law_8 21 rfl) rfl ?_
  refine T_callV (d' := 40) (as := []) rfl (am_dec tL_law_8 22 rfl) lkL_168 h109b rfl rfl (Nat.le_of_ble_eq_true rfl) (by omega) hT (fun _ => ?_)
  refine T_iload (am_dec tL_law_8 23 rfl) rfl ?_
  refine T_icmp_eq 742 (am_dec tL_law_8 24 rfl) rfl (fun _ => ?_) (fun h => absurd ht h)
  refine T_iload (am_dec tL_law_8 27 rfl) rfl ?_
  refine T_if_ne 759 (am_dec tL_law_8 28 rfl) rfl (fun _ => fin) (fun g => ?_)
  have e0 : code = 0 := by
    by_cases e : code = 0
    · exact e
    · rw [if_neg e] at g
      split at g <;> omega
  have e1 : f3 (Int.toNat 0) = kv := (hv e0).trans (hC e0)
  refine T_aload_n (am_dec tL_law_8 29 rfl) rfl ?_
  refine T_iconst 0 (am_dec tL_law_8 30 rfl) rfl ⟨by decide, by decide⟩ ?_
  refine T_laload (n := 1) (f := f3) (am_dec tL_law_8 31 rfl) hf3 (by decide) (by decide) ?_
  refine T_iload (am_dec tL_law_8 32 rfl) rfl ?_
  refine T_i2l (am_dec tL_law_8 33 rfl) ?_
  refine T_lcmp (am_dec tL_law_8 34 rfl) ?_
  exact T_if_eq 759 (am_dec tL_law_8 35 rfl) rfl (fun _ => fin) (fun h => absurd (by rw [e1, if_neg (Int.lt_irrefl _), if_pos rfl]) h)
theorem wk_whose {S : am_S} {d u : Nat} {Q : AO → AH → Prop} {W W1 W2 W3 : AH} {i code v kv t : Int} {fs fs2 fs3 : List AV} {f f3 : Nat → Int} (hS : LawS S) (hi : 0 ≤ i ∧ i + 5 < S.1) (hd : 50 ≤ d) (hu : 1 ≤ u) (h0 : W[0]? = some (cO 10 fs)) (hf : W1[844]? = some (cP 2 1 f)) (hM : am_Out S zX11_whose 40 1 [aR 0, aI (S.2 (i + 1).toNat), aI (S.2 (i + 2).toNat)] W (am_oc code v) W1) (hc : code = 0 ∨ code = 1) (hW2 : W2 = if code = 0 then W1.set 844 (cP 2 1 (am_up f 0 v)) else W1) (h109 : W2[109]? = some (cO 11 fs2)) (hK : am_Out S zX12_whose 40 0 [aR 109, aI (S.2 (i + 1).toNat), aI (S.2 (i + 2).toNat)] W2 (.inl (some (aI kv))) W3) (h109b : W3[109]? = some (cO 11 fs3)) (hT : am_Out S zX12_thrown 40 0 [aR 109] W3 (.inl (some (aI t))) W3) (ht : t = (if code = 0 then 0 else if code = 1 then 1 else 2)) (hf3 : W3[844]? = some (cP 2 1 f3)) (hv : code = 0 → f3 (Int.toNat 0) = v) (hC : code = 0 → v = kv) (kk : am_T S zL_law d (u - 1) Q 3820 (LL i none none) [] W3) : am_T S zL_law d u Q 762 (LL i none none) [] W := by
  have fin : am_T S zL_law d (u - 1) Q 827 (LL i (some (aI (if code = 0 then 0 else if code = 1 then 1 else 2))) (some (aI kv))) [] W3 := T_goto 3820 (am_dec tL_law_10 3 rfl) rfl (T_weak LL_w kk)
  refine T_aload_n (am_dec tL_law_8 39 rfl) rfl ?_
  refine LA_arg (k := 1) (am_dec tL_law_9 0 rfl) (am_dec tL_law_9 1 rfl) (am_dec tL_law_9 2 rfl) (am_dec tL_law_9 3 rfl) (am_dec tL_law_9 4 rfl) hS hi ⟨by decide, by decide⟩ (?_ : am_T _ _ _ _ _ 769 _ _ _)
  refine LA_arg (k := 2) (am_dec tL_law_9 5 rfl) (am_dec tL_law_9 6 rfl) (am_dec tL_law_9 7 rfl) (am_dec tL_law_9 8 rfl) (am_dec tL_law_9 9 rfl) hS hi ⟨by decide, by decide⟩ (?_ : am_T _ _ _ _ _ 775 _ _ _)
  refine T_aload_n (am_dec tL_law_9 10 rfl) rfl ?_
  refine T_callW (d' := 41) (u' := 1) (as := [aR 0, aI (S.2 (i + 1).toNat), aI (S.2 (i + 2).toNat), aR 844]) rfl (am_dec tL_law_9 11 rfl) lkL_193 rfl (Nat.le_of_ble_eq_true rfl) (by omega) hu (am_OutWE (wr_whose (d := 40) (W1 := W1) (f := f) _ _ h0 hf hM hc) hW2.symm) ?_
  refine T_istore (ls' := LL i (some (aI (if code = 0 then 0 else if code = 1 then 1 else 2))) none) (am_dec tL_law_9 12 rfl) (by decide) rfl ?_
  refine T_aload_n (am_dec tL_law_9 13 rfl) rfl ?_
  refine LA_arg (k := 1) (am_dec tL_law_9 14 rfl) (am_dec tL_law_9 15 rfl) (am_dec tL_law_9 16 rfl) (am_dec tL_law_9 17 rfl) (am_dec tL_law_9 18 rfl) hS hi ⟨by decide, by decide⟩ (?_ : am_T _ _ _ _ _ 788 _ _ _)
  refine LA_arg (k := 2) (am_dec tL_law_9 19 rfl) (am_dec tL_law_9 20 rfl) (am_dec tL_law_9 21 rfl) (am_dec tL_law_9 22 rfl) (am_dec tL_law_9 23 rfl) hS hi ⟨by decide, by decide⟩ (?_ : am_T _ _ _ _ _ 794 _ _ _)
  refine T_callV (d' := 40) (as := [aI (S.2 (i + 1).toNat), aI (S.2 (i + 2).toNat)]) rfl (am_dec tL_law_9 24 rfl) lkL_195 h109 rfl rfl (Nat.le_of_ble_eq_true rfl) (by omega) hK (fun _ => ?_)
  refine T_istore (ls' := LL i (some (aI (if code = 0 then 0 else if code = 1 then 1 else 2))) (some (aI kv))) (am_dec tL_law_9 25 rfl) (by decide) rfl ?_
  refine T_aload_n (am_dec tL_law_9 26 rfl) rfl ?_
  refine T_callV (d' := 40) (as := []) rfl (am_dec tL_law_9 27 rfl) lkL_168 h109b rfl rfl (Nat.le_of_ble_eq_true rfl) (by omega) hT (fun _ => ?_)
  refine T_iload (am_dec tL_law_9 28 rfl) rfl ?_
  refine T_icmp_eq 810 (am_dec tL_law_9 29 rfl) rfl (fun _ => ?_) (fun h => absurd ht h)
  refine T_iload (am_dec tL_law_9 32 rfl) rfl ?_
  refine T_if_ne 827 (am_dec tL_law_9 33 rfl) rfl (fun _ => fin) (fun g => ?_)
  have e0 : code = 0 := by
    by_cases e : code = 0
    · exact e
    · rw [if_neg e] at g
      split at g <;> omega
  have e1 : f3 (Int.toNat 0) = kv := (hv e0).trans (hC e0)
  refine T_aload_n (am_dec tL_law_9 34 rfl) rfl ?_
  refine T_iconst 0 (am_dec tL_law_9 35 rfl) rfl ⟨by decide, by decide⟩ ?_
  refine T_laload (n := 1) (f := f3) (am_dec tL_law_9 36 rfl) hf3 (by decide) (by decide) ?_
  refine T_iload (am_dec tL_law_9 37 rfl) rfl ?_
  refine T_i2l (am_dec tL_law_9 38 rfl) ?_
  refine T_lcmp (am_dec tL_law_9 39 rfl) ?_
  exact T_if_eq 827 (am_dec tL_law_10 0 rfl) rfl (fun _ => fin) (fun h => absurd (by rw [e1, if_neg (Int.lt_irrefl _), if_pos rfl]) h)
theorem wk_line {S : am_S} {d u : Nat} {Q : AO → AH → Prop} {W W1 W2 W3 : AH} {i code v kv t : Int} {fs fs2 fs3 : List AV} {f f3 : Nat → Int} (hS : LawS S) (hi : 0 ≤ i ∧ i + 5 < S.1) (hd : 50 ≤ d) (hu : 1 ≤ u) (h0 : W[0]? = some (cO 10 fs)) (hf : W1[844]? = some (cP 2 1 f)) (hM : am_Out S zX11_line 40 1 [aR 0, aI (S.2 (i + 1).toNat), aI (S.2 (i + 2).toNat), aI (S.2 (i + 3).toNat), aI (S.2 (i + 4).toNat), aI (S.2 (i + 5).toNat)] W (am_oc code v) W1) (hc : code = 0 ∨ code = 1 ∨ code = 3) (hW2 : W2 = if code = 0 then W1.set 844 (cP 2 1 (am_up f 0 v)) else W1) (h109 : W2[109]? = some (cO 11 fs2)) (hK : am_Out S zX12_line 40 0 [aR 109, aI (S.2 (i + 1).toNat), aI (S.2 (i + 2).toNat), aI (S.2 (i + 3).toNat), aI (S.2 (i + 4).toNat), aI (S.2 (i + 5).toNat)] W2 (.inl (some (aI kv))) W3) (h109b : W3[109]? = some (cO 11 fs3)) (hT : am_Out S zX12_thrown 40 0 [aR 109] W3 (.inl (some (aI t))) W3) (ht : t = (if code = 0 then 0 else if code = 1 then 1 else 2)) (hf3 : W3[844]? = some (cP 2 1 f3)) (hv : code = 0 → f3 (Int.toNat 0) = v) (hC : code = 0 → v = kv) (kk : am_T S zL_law d (u - 1) Q 3820 (LL i none none) [] W3) : am_T S zL_law d u Q 830 (LL i none none) [] W := by
  have fin : am_T S zL_law d (u - 1) Q 931 (LL i (some (aI (if code = 0 then 0 else if code = 1 then 1 else 2))) (some (aI kv))) [] W3 := T_goto 3820 (am_dec tL_law_11 38 rfl) rfl (T_weak LL_w kk)
  refine T_aload_n (am_dec tL_law_10 4 rfl) rfl ?_
  refine LA_arg (k := 1) (am_dec tL_law_10 5 rfl) (am_dec tL_law_10 6 rfl) (am_dec tL_law_10 7 rfl) (am_dec tL_law_10 8 rfl) (am_dec tL_law_10 9 rfl) hS hi ⟨by decide, by decide⟩ (?_ : am_T _ _ _ _ _ 837 _ _ _)
  refine LA_arg (k := 2) (am_dec tL_law_10 10 rfl) (am_dec tL_law_10 11 rfl) (am_dec tL_law_10 12 rfl) (am_dec tL_law_10 13 rfl) (am_dec tL_law_10 14 rfl) hS hi ⟨by decide, by decide⟩ (?_ : am_T _ _ _ _ _ 843 _ _ _)
  refine LA_arg (k := 3) (am_dec tL_law_10 15 rfl) (am_dec tL_law_10 16 rfl) (am_dec tL_law_10 17 rfl) (am_dec tL_law_10 18 rfl) (am_dec tL_law_10 19 rfl) hS hi ⟨by decide, by decide⟩ (?_ : am_T _ _ _ _ _ 849 _ _ _)
  refine LA_arg (k := 4) (am_dec tL_law_10 20 rfl) (am_dec tL_law_10 21 rfl) (am_dec tL_law_10 22 rfl) (am_dec tL_law_10 23 rfl) (am_dec tL_law_10 24 rfl) hS hi ⟨by decide, by decide⟩ (?_ : am_T _ _ _ _ _ 855 _ _ _)
  refine LA_arg (k := 5) (am_dec tL_law_10 25 rfl) (am_dec tL_law_10 26 rfl) (am_dec tL_law_10 27 rfl) (am_dec tL_law_10 28 rfl) (am_dec tL_law_10 29 rfl) hS hi ⟨by decide, by decide⟩ (?_ : am_T _ _ _ _ _ 861 _ _ _)
  refine T_aload_n (am_dec tL_law_10 30 rfl) rfl ?_
  refine T_callW (d' := 41) (u' := 1) (as := [aR 0, aI (S.2 (i + 1).toNat), aI (S.2 (i + 2).toNat), aI (S.2 (i + 3).toNat), aI (S.2 (i + 4).toNat), aI (S.2 (i + 5).toNat), aR 844]) rfl (am_dec tL_law_10 31 rfl) lkL_196 rfl (Nat.le_of_ble_eq_true rfl) (by omega) hu (am_OutWE (wr_line (d := 40) (W1 := W1) (f := f) _ _ _ _ _ h0 hf hM hc) hW2.symm) ?_
  refine T_istore (ls' := LL i (some (aI (if code = 0 then 0 else if code = 1 then 1 else 2))) none) (am_dec tL_law_10 32 rfl) (by decide) rfl ?_
  refine T_aload_n (am_dec tL_law_10 33 rfl) rfl ?_
  refine LA_arg (k := 1) (am_dec tL_law_10 34 rfl) (am_dec tL_law_10 35 rfl) (am_dec tL_law_10 36 rfl) (am_dec tL_law_10 37 rfl) (am_dec tL_law_10 38 rfl) hS hi ⟨by decide, by decide⟩ (?_ : am_T _ _ _ _ _ 874 _ _ _)
  refine LA_arg (k := 2) (am_dec tL_law_10 39 rfl) (am_dec tL_law_11 0 rfl) (am_dec tL_law_11 1 rfl) (am_dec tL_law_11 2 rfl) (am_dec tL_law_11 3 rfl) hS hi ⟨by decide, by decide⟩ (?_ : am_T _ _ _ _ _ 880 _ _ _)
  refine LA_arg (k := 3) (am_dec tL_law_11 4 rfl) (am_dec tL_law_11 5 rfl) (am_dec tL_law_11 6 rfl) (am_dec tL_law_11 7 rfl) (am_dec tL_law_11 8 rfl) hS hi ⟨by decide, by decide⟩ (?_ : am_T _ _ _ _ _ 886 _ _ _)
  refine LA_arg (k := 4) (am_dec tL_law_11 9 rfl) (am_dec tL_law_11 10 rfl) (am_dec tL_law_11 11 rfl) (am_dec tL_law_11 12 rfl) (am_dec tL_law_11 13 rfl) hS hi ⟨by decide, by decide⟩ (?_ : am_T _ _ _ _ _ 892 _ _ _)
  refine LA_arg (k := 5) (am_dec tL_law_11 14 rfl) (am_dec tL_law_11 15 rfl) (am_dec tL_law_11 16 rfl) (am_dec tL_law_11 17 rfl) (am_dec tL_law_11 18 rfl) hS hi ⟨by decide, by decide⟩ (?_ : am_T _ _ _ _ _ 898 _ _ _)
  refine T_callV (d' := 40) (as := [aI (S.2 (i + 1).toNat), aI (S.2 (i + 2).toNat), aI (S.2 (i + 3).toNat), aI (S.2 (i + 4).toNat), aI (S.2 (i + 5).toNat)]) rfl (am_dec tL_law_11 19 rfl) lkL_199 h109 rfl rfl (Nat.le_of_ble_eq_true rfl) (by omega) hK (fun _ => ?_)
  refine T_istore (ls' := LL i (some (aI (if code = 0 then 0 else if code = 1 then 1 else 2))) (some (aI kv))) (am_dec tL_law_11 20 rfl) (by decide) rfl ?_
  refine T_aload_n (am_dec tL_law_11 21 rfl) rfl ?_
  refine T_callV (d' := 40) (as := []) rfl (am_dec tL_law_11 22 rfl) lkL_168 h109b rfl rfl (Nat.le_of_ble_eq_true rfl) (by omega) hT (fun _ => ?_)
  refine T_iload (am_dec tL_law_11 23 rfl) rfl ?_
  refine T_icmp_eq 914 (am_dec tL_law_11 24 rfl) rfl (fun _ => ?_) (fun h => absurd ht h)
  refine T_iload (am_dec tL_law_11 27 rfl) rfl ?_
  refine T_if_ne 931 (am_dec tL_law_11 28 rfl) rfl (fun _ => fin) (fun g => ?_)
  have e0 : code = 0 := by
    by_cases e : code = 0
    · exact e
    · rw [if_neg e] at g
      split at g <;> omega
  have e1 : f3 (Int.toNat 0) = kv := (hv e0).trans (hC e0)
  refine T_aload_n (am_dec tL_law_11 29 rfl) rfl ?_
  refine T_iconst 0 (am_dec tL_law_11 30 rfl) rfl ⟨by decide, by decide⟩ ?_
  refine T_laload (n := 1) (f := f3) (am_dec tL_law_11 31 rfl) hf3 (by decide) (by decide) ?_
  refine T_iload (am_dec tL_law_11 32 rfl) rfl ?_
  refine T_i2l (am_dec tL_law_11 33 rfl) ?_
  refine T_lcmp (am_dec tL_law_11 34 rfl) ?_
  exact T_if_eq 931 (am_dec tL_law_11 35 rfl) rfl (fun _ => fin) (fun h => absurd (by rw [e1, if_neg (Int.lt_irrefl _), if_pos rfl]) h)
theorem wk_where {S : am_S} {d u : Nat} {Q : AO → AH → Prop} {W W1 W2 W3 : AH} {i code v kv t : Int} {fs fs2 fs3 : List AV} {f f3 : Nat → Int} (hS : LawS S) (hi : 0 ≤ i ∧ i + 5 < S.1) (hd : 50 ≤ d) (hu : 1 ≤ u) (h0 : W[0]? = some (cO 10 fs)) (hf : W1[844]? = some (cP 2 1 f)) (hM : am_Out S zX11_where 40 1 [aR 0, aI (S.2 (i + 1).toNat), aI (S.2 (i + 2).toNat)] W (am_oc code v) W1) (hc : code = 0 ∨ code = 2 ∨ code = 3) (hW2 : W2 = if code = 0 then W1.set 844 (cP 2 1 (am_up f 0 v)) else W1) (h109 : W2[109]? = some (cO 11 fs2)) (hK : am_Out S zX12_where 40 0 [aR 109, aI (S.2 (i + 1).toNat), aI (S.2 (i + 2).toNat)] W2 (.inl (some (aI kv))) W3) (h109b : W3[109]? = some (cO 11 fs3)) (hT : am_Out S zX12_thrown 40 0 [aR 109] W3 (.inl (some (aI t))) W3) (ht : t = (if code = 0 then 0 else if code = 2 then 1 else 2)) (hf3 : W3[844]? = some (cP 2 1 f3)) (hv : code = 0 → f3 (Int.toNat 0) = v) (hC : code = 0 → v = kv) (kk : am_T S zL_law d (u - 1) Q 3820 (LL i none none) [] W3) : am_T S zL_law d u Q 934 (LL i none none) [] W := by
  have fin : am_T S zL_law d (u - 1) Q 999 (LL i (some (aI (if code = 0 then 0 else if code = 2 then 1 else 2))) (some (aI kv))) [] W3 := T_goto 3820 (am_dec tL_law_13 3 rfl) rfl (T_weak LL_w kk)
  refine T_aload_n (am_dec tL_law_11 39 rfl) rfl ?_
  refine LA_arg (k := 1) (am_dec tL_law_12 0 rfl) (am_dec tL_law_12 1 rfl) (am_dec tL_law_12 2 rfl) (am_dec tL_law_12 3 rfl) (am_dec tL_law_12 4 rfl) hS hi ⟨by decide, by decide⟩ (?_ : am_T _ _ _ _ _ 941 _ _ _)
  refine LA_arg (k := 2) (am_dec tL_law_12 5 rfl) (am_dec tL_law_12 6 rfl) (am_dec tL_law_12 7 rfl) (am_dec tL_law_12 8 rfl) (am_dec tL_law_12 9 rfl) hS hi ⟨by decide, by decide⟩ (?_ : am_T _ _ _ _ _ 947 _ _ _)
  refine T_aload_n (am_dec tL_law_12 10 rfl) rfl ?_
  refine T_callW (d' := 41) (u' := 1) (as := [aR 0, aI (S.2 (i + 1).toNat), aI (S.2 (i + 2).toNat), aR 844]) rfl (am_dec tL_law_12 11 rfl) lkL_200 rfl (Nat.le_of_ble_eq_true rfl) (by omega) hu (am_OutWE (wr_where (d := 40) (W1 := W1) (f := f) _ _ h0 hf hM hc) hW2.symm) ?_
  refine T_istore (ls' := LL i (some (aI (if code = 0 then 0 else if code = 2 then 1 else 2))) none) (am_dec tL_law_12 12 rfl) (by decide) rfl ?_
  refine T_aload_n (am_dec tL_law_12 13 rfl) rfl ?_
  refine LA_arg (k := 1) (am_dec tL_law_12 14 rfl) (am_dec tL_law_12 15 rfl) (am_dec tL_law_12 16 rfl) (am_dec tL_law_12 17 rfl) (am_dec tL_law_12 18 rfl) hS hi ⟨by decide, by decide⟩ (?_ : am_T _ _ _ _ _ 960 _ _ _)
  refine LA_arg (k := 2) (am_dec tL_law_12 19 rfl) (am_dec tL_law_12 20 rfl) (am_dec tL_law_12 21 rfl) (am_dec tL_law_12 22 rfl) (am_dec tL_law_12 23 rfl) hS hi ⟨by decide, by decide⟩ (?_ : am_T _ _ _ _ _ 966 _ _ _)
  refine T_callV (d' := 40) (as := [aI (S.2 (i + 1).toNat), aI (S.2 (i + 2).toNat)]) rfl (am_dec tL_law_12 24 rfl) lkL_202 h109 rfl rfl (Nat.le_of_ble_eq_true rfl) (by omega) hK (fun _ => ?_)
  refine T_istore (ls' := LL i (some (aI (if code = 0 then 0 else if code = 2 then 1 else 2))) (some (aI kv))) (am_dec tL_law_12 25 rfl) (by decide) rfl ?_
  refine T_aload_n (am_dec tL_law_12 26 rfl) rfl ?_
  refine T_callV (d' := 40) (as := []) rfl (am_dec tL_law_12 27 rfl) lkL_168 h109b rfl rfl (Nat.le_of_ble_eq_true rfl) (by omega) hT (fun _ => ?_)
  refine T_iload (am_dec tL_law_12 28 rfl) rfl ?_
  refine T_icmp_eq 982 (am_dec tL_law_12 29 rfl) rfl (fun _ => ?_) (fun h => absurd ht h)
  refine T_iload (am_dec tL_law_12 32 rfl) rfl ?_
  refine T_if_ne 999 (am_dec tL_law_12 33 rfl) rfl (fun _ => fin) (fun g => ?_)
  have e0 : code = 0 := by
    by_cases e : code = 0
    · exact e
    · rw [if_neg e] at g
      split at g <;> omega
  have e1 : f3 (Int.toNat 0) = kv := (hv e0).trans (hC e0)
  refine T_aload_n (am_dec tL_law_12 34 rfl) rfl ?_
  refine T_iconst 0 (am_dec tL_law_12 35 rfl) rfl ⟨by decide, by decide⟩ ?_
  refine T_laload (n := 1) (f := f3) (am_dec tL_law_12 36 rfl) hf3 (by decide) (by decide) ?_
  refine T_iload (am_dec tL_law_12 37 rfl) rfl ?_
  refine T_i2l (am_dec tL_law_12 38 rfl) ?_
  refine T_lcmp (am_dec tL_law_12 39 rfl) ?_
  exact T_if_eq 999 (am_dec tL_law_13 0 rfl) rfl (fun _ => fin) (fun h => absurd (by rw [e1, if_neg (Int.lt_irrefl _), if_pos rfl]) h)
theorem wk_sees {S : am_S} {d u : Nat} {Q : AO → AH → Prop} {W W1 W2 W3 : AH} {i code v kv t : Int} {fs fs2 fs3 : List AV} {f f3 : Nat → Int} (hS : LawS S) (hi : 0 ≤ i ∧ i + 5 < S.1) (hd : 50 ≤ d) (hu : 1 ≤ u) (h0 : W[0]? = some (cO 10 fs)) (hf : W1[844]? = some (cP 2 1 f)) (hM : am_Out S zX11_sees 40 1 [aR 0, aI (S.2 (i + 1).toNat), aI (S.2 (i + 2).toNat), aI (S.2 (i + 3).toNat)] W (am_oc code v) W1) (hc : code = 0 ∨ code = 2 ∨ code = 3) (hW2 : W2 = if code = 0 then W1.set 844 (cP 2 1 (am_up f 0 v)) else W1) (h109 : W2[109]? = some (cO 11 fs2)) (hK : am_Out S zX12_sees 40 0 [aR 109, aI (S.2 (i + 1).toNat), aI (S.2 (i + 2).toNat), aI (S.2 (i + 3).toNat)] W2 (.inl (some (aI kv))) W3) (h109b : W3[109]? = some (cO 11 fs3)) (hT : am_Out S zX12_thrown 40 0 [aR 109] W3 (.inl (some (aI t))) W3) (ht : t = (if code = 0 then 0 else if code = 2 then 1 else 2)) (hf3 : W3[844]? = some (cP 2 1 f3)) (hv : code = 0 → f3 (Int.toNat 0) = v) (hC : code = 0 → v = kv) (hb01 : code = 0 → v = 0 ∨ v = 1) (kk : am_T S zL_law d (u - 1) Q 3820 (LL i none none) [] W3) : am_T S zL_law d u Q 1002 (LL i none none) [] W := by
  have fin : am_T S zL_law d (u - 1) Q 1086 (LL i (some (aI (if code = 0 then 0 else if code = 2 then 1 else 2))) (some (aI kv))) [] W3 := T_goto 3820 (am_dec tL_law_14 21 rfl) rfl (T_weak LL_w kk)
  refine T_aload_n (am_dec tL_law_13 4 rfl) rfl ?_
  refine LA_arg (k := 1) (am_dec tL_law_13 5 rfl) (am_dec tL_law_13 6 rfl) (am_dec tL_law_13 7 rfl) (am_dec tL_law_13 8 rfl) (am_dec tL_law_13 9 rfl) hS hi ⟨by decide, by decide⟩ (?_ : am_T _ _ _ _ _ 1009 _ _ _)
  refine LA_arg (k := 2) (am_dec tL_law_13 10 rfl) (am_dec tL_law_13 11 rfl) (am_dec tL_law_13 12 rfl) (am_dec tL_law_13 13 rfl) (am_dec tL_law_13 14 rfl) hS hi ⟨by decide, by decide⟩ (?_ : am_T _ _ _ _ _ 1015 _ _ _)
  refine LA_arg (k := 3) (am_dec tL_law_13 15 rfl) (am_dec tL_law_13 16 rfl) (am_dec tL_law_13 17 rfl) (am_dec tL_law_13 18 rfl) (am_dec tL_law_13 19 rfl) hS hi ⟨by decide, by decide⟩ (?_ : am_T _ _ _ _ _ 1021 _ _ _)
  refine T_aload_n (am_dec tL_law_13 20 rfl) rfl ?_
  refine T_callW (d' := 41) (u' := 1) (as := [aR 0, aI (S.2 (i + 1).toNat), aI (S.2 (i + 2).toNat), aI (S.2 (i + 3).toNat), aR 844]) rfl (am_dec tL_law_13 21 rfl) lkL_203 rfl (Nat.le_of_ble_eq_true rfl) (by omega) hu (am_OutWE (wr_sees (d := 40) (W1 := W1) (f := f) _ _ _ h0 hf hM hc hb01) hW2.symm) ?_
  refine T_istore (ls' := LL i (some (aI (if code = 0 then 0 else if code = 2 then 1 else 2))) none) (am_dec tL_law_13 22 rfl) (by decide) rfl ?_
  refine T_aload_n (am_dec tL_law_13 23 rfl) rfl ?_
  refine LA_arg (k := 1) (am_dec tL_law_13 24 rfl) (am_dec tL_law_13 25 rfl) (am_dec tL_law_13 26 rfl) (am_dec tL_law_13 27 rfl) (am_dec tL_law_13 28 rfl) hS hi ⟨by decide, by decide⟩ (?_ : am_T _ _ _ _ _ 1034 _ _ _)
  refine LA_arg (k := 2) (am_dec tL_law_13 29 rfl) (am_dec tL_law_13 30 rfl) (am_dec tL_law_13 31 rfl) (am_dec tL_law_13 32 rfl) (am_dec tL_law_13 33 rfl) hS hi ⟨by decide, by decide⟩ (?_ : am_T _ _ _ _ _ 1040 _ _ _)
  refine LA_arg (k := 3) (am_dec tL_law_13 34 rfl) (am_dec tL_law_13 35 rfl) (am_dec tL_law_13 36 rfl) (am_dec tL_law_13 37 rfl) (am_dec tL_law_13 38 rfl) hS hi ⟨by decide, by decide⟩ (?_ : am_T _ _ _ _ _ 1046 _ _ _)
  refine T_callV (d' := 40) (as := [aI (S.2 (i + 1).toNat), aI (S.2 (i + 2).toNat), aI (S.2 (i + 3).toNat)]) rfl (am_dec tL_law_13 39 rfl) lkL_205 h109 rfl rfl (Nat.le_of_ble_eq_true rfl) (by omega) hK (fun _ => ?_)
  refine T_istore (ls' := LL i (some (aI (if code = 0 then 0 else if code = 2 then 1 else 2))) (some (aI kv))) (am_dec tL_law_14 0 rfl) (by decide) rfl ?_
  refine T_aload_n (am_dec tL_law_14 1 rfl) rfl ?_
  refine T_callV (d' := 40) (as := []) rfl (am_dec tL_law_14 2 rfl) lkL_168 h109b rfl rfl (Nat.le_of_ble_eq_true rfl) (by omega) hT (fun _ => ?_)
  refine T_iload (am_dec tL_law_14 3 rfl) rfl ?_
  refine T_icmp_eq 1062 (am_dec tL_law_14 4 rfl) rfl (fun _ => ?_) (fun h => absurd ht h)
  refine T_iload (am_dec tL_law_14 7 rfl) rfl ?_
  refine T_if_ne 1086 (am_dec tL_law_14 8 rfl) rfl (fun _ => fin) (fun g => ?_)
  have e0 : code = 0 := by
    by_cases e : code = 0
    · exact e
    · rw [if_neg e] at g
      split at g <;> omega
  have e1 : f3 (Int.toNat 0) = kv := (hv e0).trans (hC e0)
  refine T_aload_n (am_dec tL_law_14 9 rfl) rfl ?_
  refine T_iconst 0 (am_dec tL_law_14 10 rfl) rfl ⟨by decide, by decide⟩ ?_
  refine T_laload (n := 1) (f := f3) (am_dec tL_law_14 11 rfl) hf3 (by decide) (by decide) ?_
  refine T_iload (am_dec tL_law_14 12 rfl) rfl ?_
  have hk01 : kv = 0 ∨ kv = 1 := by
    rw [← hC e0]
    exact hb01 e0
  refine T_if_eq 1079 (am_dec tL_law_14 13 rfl) rfl (fun g2 => ?_) (fun g2 => ?_)
  · refine T_lconst 0 (am_dec tL_law_14 16 rfl) rfl ⟨by decide, by decide⟩ ?_
    refine T_lcmp (am_dec tL_law_14 17 rfl) ?_
    exact T_if_eq 1086 (am_dec tL_law_14 18 rfl) rfl (fun _ => fin) (fun h => absurd (by rw [e1, g2, if_neg (Int.lt_irrefl _), if_pos rfl]) h)
  · refine T_lconst 1 (am_dec tL_law_14 14 rfl) rfl ⟨by decide, by decide⟩ ?_
    refine T_goto 1080 (am_dec tL_law_14 15 rfl) rfl ?_
    refine T_lcmp (am_dec tL_law_14 17 rfl) ?_
    exact T_if_eq 1086 (am_dec tL_law_14 18 rfl) rfl (fun _ => fin) (fun h => absurd (by rw [e1, hk01.resolve_left g2, if_neg (Int.lt_irrefl _), if_pos rfl]) h)
theorem wk_often {S : am_S} {d u : Nat} {Q : AO → AH → Prop} {W W1 W2 W3 : AH} {i code v kv t : Int} {fs fs2 fs3 : List AV} {f f3 : Nat → Int} (hS : LawS S) (hi : 0 ≤ i ∧ i + 5 < S.1) (hd : 50 ≤ d) (hu : 1 ≤ u) (h0 : W[0]? = some (cO 10 fs)) (hf : W1[844]? = some (cP 2 1 f)) (hM : am_Out S zX11_often 40 1 [aR 0, aI (S.2 (i + 1).toNat), aI (S.2 (i + 2).toNat)] W (am_oc code v) W1) (hc : code = 0 ∨ code = 2 ∨ code = 3) (hW2 : W2 = if code = 0 then W1.set 844 (cP 2 1 (am_up f 0 v)) else W1) (h109 : W2[109]? = some (cO 11 fs2)) (hK : am_Out S zX12_often 40 0 [aR 109, aI (S.2 (i + 1).toNat), aI (S.2 (i + 2).toNat)] W2 (.inl (some (aI kv))) W3) (h109b : W3[109]? = some (cO 11 fs3)) (hT : am_Out S zX12_thrown 40 0 [aR 109] W3 (.inl (some (aI t))) W3) (ht : t = (if code = 0 then 0 else if code = 2 then 1 else 2)) (hf3 : W3[844]? = some (cP 2 1 f3)) (hv : code = 0 → f3 (Int.toNat 0) = v) (hC : code = 0 → v = kv) (kk : am_T S zL_law d (u - 1) Q 3820 (LL i none none) [] W3) : am_T S zL_law d u Q 1089 (LL i none none) [] W := by
  have fin : am_T S zL_law d (u - 1) Q 1154 (LL i (some (aI (if code = 0 then 0 else if code = 2 then 1 else 2))) (some (aI kv))) [] W3 := T_goto 3820 (am_dec tL_law_15 26 rfl) rfl (T_weak LL_w kk)
  refine T_aload_n (am_dec tL_law_14 22 rfl) rfl ?_
  refine LA_arg (k := 1) (am_dec tL_law_14 23 rfl) (am_dec tL_law_14 24 rfl) (am_dec tL_law_14 25 rfl) (am_dec tL_law_14 26 rfl) (am_dec tL_law_14 27 rfl) hS hi ⟨by decide, by decide⟩ (?_ : am_T _ _ _ _ _ 1096 _ _ _)
  refine LA_arg (k := 2) (am_dec tL_law_14 28 rfl) (am_dec tL_law_14 29 rfl) (am_dec tL_law_14 30 rfl) (am_dec tL_law_14 31 rfl) (am_dec tL_law_14 32 rfl) hS hi ⟨by decide, by decide⟩ (?_ : am_T _ _ _ _ _ 1102 _ _ _)
  refine T_aload_n (am_dec tL_law_14 33 rfl) rfl ?_
  refine T_callW (d' := 41) (u' := 1) (as := [aR 0, aI (S.2 (i + 1).toNat), aI (S.2 (i + 2).toNat), aR 844]) rfl (am_dec tL_law_14 34 rfl) lkL_206 rfl (Nat.le_of_ble_eq_true rfl) (by omega) hu (am_OutWE (wr_often (d := 40) (W1 := W1) (f := f) _ _ h0 hf hM hc) hW2.symm) ?_
  refine T_istore (ls' := LL i (some (aI (if code = 0 then 0 else if code = 2 then 1 else 2))) none) (am_dec tL_law_14 35 rfl) (by decide) rfl ?_
  refine T_aload_n (am_dec tL_law_14 36 rfl) rfl ?_
  refine LA_arg (k := 1) (am_dec tL_law_14 37 rfl) (am_dec tL_law_14 38 rfl) (am_dec tL_law_14 39 rfl) (am_dec tL_law_15 0 rfl) (am_dec tL_law_15 1 rfl) hS hi ⟨by decide, by decide⟩ (?_ : am_T _ _ _ _ _ 1115 _ _ _)
  refine LA_arg (k := 2) (am_dec tL_law_15 2 rfl) (am_dec tL_law_15 3 rfl) (am_dec tL_law_15 4 rfl) (am_dec tL_law_15 5 rfl) (am_dec tL_law_15 6 rfl) hS hi ⟨by decide, by decide⟩ (?_ : am_T _ _ _ _ _ 1121 _ _ _)
  refine T_callV (d' := 40) (as := [aI (S.2 (i + 1).toNat), aI (S.2 (i + 2).toNat)]) rfl (am_dec tL_law_15 7 rfl) lkL_208 h109 rfl rfl (Nat.le_of_ble_eq_true rfl) (by omega) hK (fun _ => ?_)
  refine T_istore (ls' := LL i (some (aI (if code = 0 then 0 else if code = 2 then 1 else 2))) (some (aI kv))) (am_dec tL_law_15 8 rfl) (by decide) rfl ?_
  refine T_aload_n (am_dec tL_law_15 9 rfl) rfl ?_
  refine T_callV (d' := 40) (as := []) rfl (am_dec tL_law_15 10 rfl) lkL_168 h109b rfl rfl (Nat.le_of_ble_eq_true rfl) (by omega) hT (fun _ => ?_)
  refine T_iload (am_dec tL_law_15 11 rfl) rfl ?_
  refine T_icmp_eq 1137 (am_dec tL_law_15 12 rfl) rfl (fun _ => ?_) (fun h => absurd ht h)
  refine T_iload (am_dec tL_law_15 15 rfl) rfl ?_
  refine T_if_ne 1154 (am_dec tL_law_15 16 rfl) rfl (fun _ => fin) (fun g => ?_)
  have e0 : code = 0 := by
    by_cases e : code = 0
    · exact e
    · rw [if_neg e] at g
      split at g <;> omega
  have e1 : f3 (Int.toNat 0) = kv := (hv e0).trans (hC e0)
  refine T_aload_n (am_dec tL_law_15 17 rfl) rfl ?_
  refine T_iconst 0 (am_dec tL_law_15 18 rfl) rfl ⟨by decide, by decide⟩ ?_
  refine T_laload (n := 1) (f := f3) (am_dec tL_law_15 19 rfl) hf3 (by decide) (by decide) ?_
  refine T_iload (am_dec tL_law_15 20 rfl) rfl ?_
  refine T_i2l (am_dec tL_law_15 21 rfl) ?_
  refine T_lcmp (am_dec tL_law_15 22 rfl) ?_
  exact T_if_eq 1154 (am_dec tL_law_15 23 rfl) rfl (fun _ => fin) (fun h => absurd (by rw [e1, if_neg (Int.lt_irrefl _), if_pos rfl]) h)
theorem wk_seen {S : am_S} {d u : Nat} {Q : AO → AH → Prop} {W W1 W2 W3 : AH} {i code v kv t : Int} {fs fs2 fs3 : List AV} {f f3 : Nat → Int} (hS : LawS S) (hi : 0 ≤ i ∧ i + 5 < S.1) (hd : 50 ≤ d) (hu : 1 ≤ u) (h0 : W[0]? = some (cO 10 fs)) (hf : W1[844]? = some (cP 2 1 f)) (hM : am_Out S zX11_seen 40 1 [aR 0, aI (S.2 (i + 1).toNat), aI (S.2 (i + 2).toNat)] W (am_oc code v) W1) (hc : code = 0 ∨ code = 2 ∨ code = 3) (hW2 : W2 = if code = 0 then W1.set 844 (cP 2 1 (am_up f 0 v)) else W1) (h109 : W2[109]? = some (cO 11 fs2)) (hK : am_Out S zX12_seen 40 0 [aR 109, aI (S.2 (i + 1).toNat), aI (S.2 (i + 2).toNat)] W2 (.inl (some (aI kv))) W3) (h109b : W3[109]? = some (cO 11 fs3)) (hT : am_Out S zX12_thrown 40 0 [aR 109] W3 (.inl (some (aI t))) W3) (ht : t = (if code = 0 then 0 else if code = 2 then 1 else 2)) (hf3 : W3[844]? = some (cP 2 1 f3)) (hv : code = 0 → f3 (Int.toNat 0) = v) (hC : code = 0 → v = kv) (kk : am_T S zL_law d (u - 1) Q 3820 (LL i none none) [] W3) : am_T S zL_law d u Q 1157 (LL i none none) [] W := by
  have fin : am_T S zL_law d (u - 1) Q 1222 (LL i (some (aI (if code = 0 then 0 else if code = 2 then 1 else 2))) (some (aI kv))) [] W3 := T_goto 3820 (am_dec tL_law_16 31 rfl) rfl (T_weak LL_w kk)
  refine T_aload_n (am_dec tL_law_15 27 rfl) rfl ?_
  refine LA_arg (k := 1) (am_dec tL_law_15 28 rfl) (am_dec tL_law_15 29 rfl) (am_dec tL_law_15 30 rfl) (am_dec tL_law_15 31 rfl) (am_dec tL_law_15 32 rfl) hS hi ⟨by decide, by decide⟩ (?_ : am_T _ _ _ _ _ 1164 _ _ _)
  refine LA_arg (k := 2) (am_dec tL_law_15 33 rfl) (am_dec tL_law_15 34 rfl) (am_dec tL_law_15 35 rfl) (am_dec tL_law_15 36 rfl) (am_dec tL_law_15 37 rfl) hS hi ⟨by decide, by decide⟩ (?_ : am_T _ _ _ _ _ 1170 _ _ _)
  refine T_aload_n (am_dec tL_law_15 38 rfl) rfl ?_
  refine T_callW (d' := 41) (u' := 1) (as := [aR 0, aI (S.2 (i + 1).toNat), aI (S.2 (i + 2).toNat), aR 844]) rfl (am_dec tL_law_15 39 rfl) lkL_209 rfl (Nat.le_of_ble_eq_true rfl) (by omega) hu (am_OutWE (wr_seen (d := 40) (W1 := W1) (f := f) _ _ h0 hf hM hc) hW2.symm) ?_
  refine T_istore (ls' := LL i (some (aI (if code = 0 then 0 else if code = 2 then 1 else 2))) none) (am_dec tL_law_16 0 rfl) (by decide) rfl ?_
  refine T_aload_n (am_dec tL_law_16 1 rfl) rfl ?_
  refine LA_arg (k := 1) (am_dec tL_law_16 2 rfl) (am_dec tL_law_16 3 rfl) (am_dec tL_law_16 4 rfl) (am_dec tL_law_16 5 rfl) (am_dec tL_law_16 6 rfl) hS hi ⟨by decide, by decide⟩ (?_ : am_T _ _ _ _ _ 1183 _ _ _)
  refine LA_arg (k := 2) (am_dec tL_law_16 7 rfl) (am_dec tL_law_16 8 rfl) (am_dec tL_law_16 9 rfl) (am_dec tL_law_16 10 rfl) (am_dec tL_law_16 11 rfl) hS hi ⟨by decide, by decide⟩ (?_ : am_T _ _ _ _ _ 1189 _ _ _)
  refine T_callV (d' := 40) (as := [aI (S.2 (i + 1).toNat), aI (S.2 (i + 2).toNat)]) rfl (am_dec tL_law_16 12 rfl) lkL_211 h109 rfl rfl (Nat.le_of_ble_eq_true rfl) (by omega) hK (fun _ => ?_)
  refine T_istore (ls' := LL i (some (aI (if code = 0 then 0 else if code = 2 then 1 else 2))) (some (aI kv))) (am_dec tL_law_16 13 rfl) (by decide) rfl ?_
  refine T_aload_n (am_dec tL_law_16 14 rfl) rfl ?_
  refine T_callV (d' := 40) (as := []) rfl (am_dec tL_law_16 15 rfl) lkL_168 h109b rfl rfl (Nat.le_of_ble_eq_true rfl) (by omega) hT (fun _ => ?_)
  refine T_iload (am_dec tL_law_16 16 rfl) rfl ?_
  refine T_icmp_eq 1205 (am_dec tL_law_16 17 rfl) rfl (fun _ => ?_) (fun h => absurd ht h)
  refine T_iload (am_dec tL_law_16 20 rfl) rfl ?_
  refine T_if_ne 1222 (am_dec tL_law_16 21 rfl) rfl (fun _ => fin) (fun g => ?_)
  have e0 : code = 0 := by
    by_cases e : code = 0
    · exact e
    · rw [if_neg e] at g
      split at g <;> omega
  have e1 : f3 (Int.toNat 0) = kv := (hv e0).trans (hC e0)
  refine T_aload_n (am_dec tL_law_16 22 rfl) rfl ?_
  refine T_iconst 0 (am_dec tL_law_16 23 rfl) rfl ⟨by decide, by decide⟩ ?_
  refine T_laload (n := 1) (f := f3) (am_dec tL_law_16 24 rfl) hf3 (by decide) (by decide) ?_
  refine T_iload (am_dec tL_law_16 25 rfl) rfl ?_
  refine T_i2l (am_dec tL_law_16 26 rfl) ?_
  refine T_lcmp (am_dec tL_law_16 27 rfl) ?_
  exact T_if_eq 1222 (am_dec tL_law_16 28 rfl) rfl (fun _ => fin) (fun h => absurd (by rw [e1, if_neg (Int.lt_irrefl _), if_pos rfl]) h)
theorem wk_could {S : am_S} {d u : Nat} {Q : AO → AH → Prop} {W W1 W2 W3 : AH} {i code v kv t : Int} {fs fs2 fs3 : List AV} {f f3 : Nat → Int} (hS : LawS S) (hi : 0 ≤ i ∧ i + 5 < S.1) (hd : 50 ≤ d) (hu : 1 ≤ u) (h0 : W[0]? = some (cO 10 fs)) (hf : W1[844]? = some (cP 2 1 f)) (hM : am_Out S zX11_could 40 1 [aR 0, aI (S.2 (i + 1).toNat), aI (S.2 (i + 2).toNat), aI (S.2 (i + 3).toNat)] W (am_oc code v) W1) (hc : code = 0 ∨ code = 1 ∨ code = 3) (hW2 : W2 = if code = 0 then W1.set 844 (cP 2 1 (am_up f 0 v)) else W1) (h109 : W2[109]? = some (cO 11 fs2)) (hK : am_Out S zX12_could 40 0 [aR 109, aI (S.2 (i + 1).toNat), aI (S.2 (i + 2).toNat), aI (S.2 (i + 3).toNat)] W2 (.inl (some (aI kv))) W3) (h109b : W3[109]? = some (cO 11 fs3)) (hT : am_Out S zX12_thrown 40 0 [aR 109] W3 (.inl (some (aI t))) W3) (ht : t = (if code = 0 then 0 else if code = 1 then 1 else 2)) (hf3 : W3[844]? = some (cP 2 1 f3)) (hv : code = 0 → f3 (Int.toNat 0) = v) (hC : code = 0 → v = kv) (kk : am_T S zL_law d (u - 1) Q 3820 (LL i none none) [] W3) : am_T S zL_law d u Q 1225 (LL i none none) [] W := by
  have fin : am_T S zL_law d (u - 1) Q 1302 (LL i (some (aI (if code = 0 then 0 else if code = 1 then 1 else 2))) (some (aI kv))) [] W3 := T_goto 3820 (am_dec tL_law_18 6 rfl) rfl (T_weak LL_w kk)
  refine T_aload_n (am_dec tL_law_16 32 rfl) rfl ?_
  refine LA_arg (k := 1) (am_dec tL_law_16 33 rfl) (am_dec tL_law_16 34 rfl) (am_dec tL_law_16 35 rfl) (am_dec tL_law_16 36 rfl) (am_dec tL_law_16 37 rfl) hS hi ⟨by decide, by decide⟩ (?_ : am_T _ _ _ _ _ 1232 _ _ _)
  refine LA_arg (k := 2) (am_dec tL_law_16 38 rfl) (am_dec tL_law_16 39 rfl) (am_dec tL_law_17 0 rfl) (am_dec tL_law_17 1 rfl) (am_dec tL_law_17 2 rfl) hS hi ⟨by decide, by decide⟩ (?_ : am_T _ _ _ _ _ 1238 _ _ _)
  refine LA_arg (k := 3) (am_dec tL_law_17 3 rfl) (am_dec tL_law_17 4 rfl) (am_dec tL_law_17 5 rfl) (am_dec tL_law_17 6 rfl) (am_dec tL_law_17 7 rfl) hS hi ⟨by decide, by decide⟩ (?_ : am_T _ _ _ _ _ 1244 _ _ _)
  refine T_aload_n (am_dec tL_law_17 8 rfl) rfl ?_
  refine T_callW (d' := 41) (u' := 1) (as := [aR 0, aI (S.2 (i + 1).toNat), aI (S.2 (i + 2).toNat), aI (S.2 (i + 3).toNat), aR 844]) rfl (am_dec tL_law_17 9 rfl) lkL_212 rfl (Nat.le_of_ble_eq_true rfl) (by omega) hu (am_OutWE (wr_could (d := 40) (W1 := W1) (f := f) _ _ _ h0 hf hM hc) hW2.symm) ?_
  refine T_istore (ls' := LL i (some (aI (if code = 0 then 0 else if code = 1 then 1 else 2))) none) (am_dec tL_law_17 10 rfl) (by decide) rfl ?_
  refine T_aload_n (am_dec tL_law_17 11 rfl) rfl ?_
  refine LA_arg (k := 1) (am_dec tL_law_17 12 rfl) (am_dec tL_law_17 13 rfl) (am_dec tL_law_17 14 rfl) (am_dec tL_law_17 15 rfl) (am_dec tL_law_17 16 rfl) hS hi ⟨by decide, by decide⟩ (?_ : am_T _ _ _ _ _ 1257 _ _ _)
  refine LA_arg (k := 2) (am_dec tL_law_17 17 rfl) (am_dec tL_law_17 18 rfl) (am_dec tL_law_17 19 rfl) (am_dec tL_law_17 20 rfl) (am_dec tL_law_17 21 rfl) hS hi ⟨by decide, by decide⟩ (?_ : am_T _ _ _ _ _ 1263 _ _ _)
  refine LA_arg (k := 3) (am_dec tL_law_17 22 rfl) (am_dec tL_law_17 23 rfl) (am_dec tL_law_17 24 rfl) (am_dec tL_law_17 25 rfl) (am_dec tL_law_17 26 rfl) hS hi ⟨by decide, by decide⟩ (?_ : am_T _ _ _ _ _ 1269 _ _ _)
  refine T_callV (d' := 40) (as := [aI (S.2 (i + 1).toNat), aI (S.2 (i + 2).toNat), aI (S.2 (i + 3).toNat)]) rfl (am_dec tL_law_17 27 rfl) lkL_214 h109 rfl rfl (Nat.le_of_ble_eq_true rfl) (by omega) hK (fun _ => ?_)
  refine T_istore (ls' := LL i (some (aI (if code = 0 then 0 else if code = 1 then 1 else 2))) (some (aI kv))) (am_dec tL_law_17 28 rfl) (by decide) rfl ?_
  refine T_aload_n (am_dec tL_law_17 29 rfl) rfl ?_
  refine T_callV (d' := 40) (as := []) rfl (am_dec tL_law_17 30 rfl) lkL_168 h109b rfl rfl (Nat.le_of_ble_eq_true rfl) (by omega) hT (fun _ => ?_)
  refine T_iload (am_dec tL_law_17 31 rfl) rfl ?_
  refine T_icmp_eq 1285 (am_dec tL_law_17 32 rfl) rfl (fun _ => ?_) (fun h => absurd ht h)
  refine T_iload (am_dec tL_law_17 35 rfl) rfl ?_
  refine T_if_ne 1302 (am_dec tL_law_17 36 rfl) rfl (fun _ => fin) (fun g => ?_)
  have e0 : code = 0 := by
    by_cases e : code = 0
    · exact e
    · rw [if_neg e] at g
      split at g <;> omega
  have e1 : f3 (Int.toNat 0) = kv := (hv e0).trans (hC e0)
  refine T_aload_n (am_dec tL_law_17 37 rfl) rfl ?_
  refine T_iconst 0 (am_dec tL_law_17 38 rfl) rfl ⟨by decide, by decide⟩ ?_
  refine T_laload (n := 1) (f := f3) (am_dec tL_law_17 39 rfl) hf3 (by decide) (by decide) ?_
  refine T_iload (am_dec tL_law_18 0 rfl) rfl ?_
  refine T_i2l (am_dec tL_law_18 1 rfl) ?_
  refine T_lcmp (am_dec tL_law_18 2 rfl) ?_
  exact T_if_eq 1302 (am_dec tL_law_18 3 rfl) rfl (fun _ => fin) (fun h => absurd (by rw [e1, if_neg (Int.lt_irrefl _), if_pos rfl]) h)
theorem wk_buy {S : am_S} {d u : Nat} {Q : AO → AH → Prop} {W W1 W2 W3 : AH} {i code v kv t : Int} {fs fs2 fs3 : List AV} {f f3 : Nat → Int} (hS : LawS S) (hi : 0 ≤ i ∧ i + 5 < S.1) (hd : 50 ≤ d) (hu : 1 ≤ u) (h0 : W[0]? = some (cO 10 fs)) (hf : W1[844]? = some (cP 2 1 f)) (hM : am_Out S zX11_buy 40 1 [aR 0, aI (S.2 (i + 1).toNat), aI (S.2 (i + 2).toNat)] W (am_oc code v) W1) (hc : code = 0 ∨ code = 2 ∨ code = 3) (hW2 : W2 = if code = 0 then W1.set 844 (cP 2 1 (am_up f 0 v)) else W1) (h109 : W2[109]? = some (cO 11 fs2)) (hK : am_Out S zX12_buy 40 0 [aR 109, aI (S.2 (i + 1).toNat), aI (S.2 (i + 2).toNat)] W2 (.inl (some (aI kv))) W3) (h109b : W3[109]? = some (cO 11 fs3)) (hT : am_Out S zX12_thrown 40 0 [aR 109] W3 (.inl (some (aI t))) W3) (ht : t = (if code = 0 then 0 else if code = 2 then 1 else 2)) (hf3 : W3[844]? = some (cP 2 1 f3)) (hv : code = 0 → f3 (Int.toNat 0) = v) (hC : code = 0 → v = kv) (kk : am_T S zL_law d (u - 1) Q 3820 (LL i none none) [] W3) : am_T S zL_law d u Q 1305 (LL i none none) [] W := by
  have fin : am_T S zL_law d (u - 1) Q 1370 (LL i (some (aI (if code = 0 then 0 else if code = 2 then 1 else 2))) (some (aI kv))) [] W3 := T_goto 3820 (am_dec tL_law_19 11 rfl) rfl (T_weak LL_w kk)
  refine T_aload_n (am_dec tL_law_18 7 rfl) rfl ?_
  refine LA_arg (k := 1) (am_dec tL_law_18 8 rfl) (am_dec tL_law_18 9 rfl) (am_dec tL_law_18 10 rfl) (am_dec tL_law_18 11 rfl) (am_dec tL_law_18 12 rfl) hS hi ⟨by decide, by decide⟩ (?_ : am_T _ _ _ _ _ 1312 _ _ _)
  refine LA_arg (k := 2) (am_dec tL_law_18 13 rfl) (am_dec tL_law_18 14 rfl) (am_dec tL_law_18 15 rfl) (am_dec tL_law_18 16 rfl) (am_dec tL_law_18 17 rfl) hS hi ⟨by decide, by decide⟩ (?_ : am_T _ _ _ _ _ 1318 _ _ _)
  refine T_aload_n (am_dec tL_law_18 18 rfl) rfl ?_
  refine T_callW (d' := 41) (u' := 1) (as := [aR 0, aI (S.2 (i + 1).toNat), aI (S.2 (i + 2).toNat), aR 844]) rfl (am_dec tL_law_18 19 rfl) lkL_215 rfl (Nat.le_of_ble_eq_true rfl) (by omega) hu (am_OutWE (wr_buy (d := 40) (W1 := W1) (f := f) _ _ h0 hf hM hc) hW2.symm) ?_
  refine T_istore (ls' := LL i (some (aI (if code = 0 then 0 else if code = 2 then 1 else 2))) none) (am_dec tL_law_18 20 rfl) (by decide) rfl ?_
  refine T_aload_n (am_dec tL_law_18 21 rfl) rfl ?_
  refine LA_arg (k := 1) (am_dec tL_law_18 22 rfl) (am_dec tL_law_18 23 rfl) (am_dec tL_law_18 24 rfl) (am_dec tL_law_18 25 rfl) (am_dec tL_law_18 26 rfl) hS hi ⟨by decide, by decide⟩ (?_ : am_T _ _ _ _ _ 1331 _ _ _)
  refine LA_arg (k := 2) (am_dec tL_law_18 27 rfl) (am_dec tL_law_18 28 rfl) (am_dec tL_law_18 29 rfl) (am_dec tL_law_18 30 rfl) (am_dec tL_law_18 31 rfl) hS hi ⟨by decide, by decide⟩ (?_ : am_T _ _ _ _ _ 1337 _ _ _)
  refine T_callV (d' := 40) (as := [aI (S.2 (i + 1).toNat), aI (S.2 (i + 2).toNat)]) rfl (am_dec tL_law_18 32 rfl) lkL_217 h109 rfl rfl (Nat.le_of_ble_eq_true rfl) (by omega) hK (fun _ => ?_)
  refine T_istore (ls' := LL i (some (aI (if code = 0 then 0 else if code = 2 then 1 else 2))) (some (aI kv))) (am_dec tL_law_18 33 rfl) (by decide) rfl ?_
  refine T_aload_n (am_dec tL_law_18 34 rfl) rfl ?_
  refine T_callV (d' := 40) (as := []) rfl (am_dec tL_law_18 35 rfl) lkL_168 h109b rfl rfl (Nat.le_of_ble_eq_true rfl) (by omega) hT (fun _ => ?_)
  refine T_iload (am_dec tL_law_18 36 rfl) rfl ?_
  refine T_icmp_eq 1353 (am_dec tL_law_18 37 rfl) rfl (fun _ => ?_) (fun h => absurd ht h)
  refine T_iload (am_dec tL_law_19 0 rfl) rfl ?_
  refine T_if_ne 1370 (am_dec tL_law_19 1 rfl) rfl (fun _ => fin) (fun g => ?_)
  have e0 : code = 0 := by
    by_cases e : code = 0
    · exact e
    · rw [if_neg e] at g
      split at g <;> omega
  have e1 : f3 (Int.toNat 0) = kv := (hv e0).trans (hC e0)
  refine T_aload_n (am_dec tL_law_19 2 rfl) rfl ?_
  refine T_iconst 0 (am_dec tL_law_19 3 rfl) rfl ⟨by decide, by decide⟩ ?_
  refine T_laload (n := 1) (f := f3) (am_dec tL_law_19 4 rfl) hf3 (by decide) (by decide) ?_
  refine T_iload (am_dec tL_law_19 5 rfl) rfl ?_
  refine T_i2l (am_dec tL_law_19 6 rfl) ?_
  refine T_lcmp (am_dec tL_law_19 7 rfl) ?_
  exact T_if_eq 1370 (am_dec tL_law_19 8 rfl) rfl (fun _ => fin) (fun h => absurd (by rw [e1, if_neg (Int.lt_irrefl _), if_pos rfl]) h)
theorem wk_way {S : am_S} {d u : Nat} {Q : AO → AH → Prop} {W W1 W2 W3 : AH} {i code v kv t : Int} {fs fs2 fs3 : List AV} {f f3 : Nat → Int} (hS : LawS S) (hi : 0 ≤ i ∧ i + 5 < S.1) (hd : 50 ≤ d) (hu : 1 ≤ u) (h0 : W[0]? = some (cO 10 fs)) (hf : W1[844]? = some (cP 2 1 f)) (hM : am_Out S zX11_way 40 1 [aR 0, aI (S.2 (i + 1).toNat), aI (S.2 (i + 2).toNat), aI (S.2 (i + 3).toNat), aI (S.2 (i + 4).toNat)] W (am_oc code v) W1) (hc : code = 0 ∨ code = 1 ∨ code = 3) (hW2 : W2 = if code = 0 then W1.set 844 (cP 2 1 (am_up f 0 v)) else W1) (h109 : W2[109]? = some (cO 11 fs2)) (hK : am_Out S zX12_way 40 0 [aR 109, aI (S.2 (i + 1).toNat), aI (S.2 (i + 2).toNat), aI (S.2 (i + 3).toNat), aI (S.2 (i + 4).toNat)] W2 (.inl (some (aI kv))) W3) (h109b : W3[109]? = some (cO 11 fs3)) (hT : am_Out S zX12_thrown 40 0 [aR 109] W3 (.inl (some (aI t))) W3) (ht : t = (if code = 0 then 0 else if code = 1 then 1 else 2)) (hf3 : W3[844]? = some (cP 2 1 f3)) (hv : code = 0 → f3 (Int.toNat 0) = v) (hC : code = 0 → v = kv) (kk : am_T S zL_law d (u - 1) Q 3820 (LL i none none) [] W3) : am_T S zL_law d u Q 1373 (LL i none none) [] W := by
  have fin : am_T S zL_law d (u - 1) Q 1462 (LL i (some (aI (if code = 0 then 0 else if code = 1 then 1 else 2))) (some (aI kv))) [] W3 := T_goto 3820 (am_dec tL_law_20 36 rfl) rfl (T_weak LL_w kk)
  refine T_aload_n (am_dec tL_law_19 12 rfl) rfl ?_
  refine LA_arg (k := 1) (am_dec tL_law_19 13 rfl) (am_dec tL_law_19 14 rfl) (am_dec tL_law_19 15 rfl) (am_dec tL_law_19 16 rfl) (am_dec tL_law_19 17 rfl) hS hi ⟨by decide, by decide⟩ (?_ : am_T _ _ _ _ _ 1380 _ _ _)
  refine LA_arg (k := 2) (am_dec tL_law_19 18 rfl) (am_dec tL_law_19 19 rfl) (am_dec tL_law_19 20 rfl) (am_dec tL_law_19 21 rfl) (am_dec tL_law_19 22 rfl) hS hi ⟨by decide, by decide⟩ (?_ : am_T _ _ _ _ _ 1386 _ _ _)
  refine LA_arg (k := 3) (am_dec tL_law_19 23 rfl) (am_dec tL_law_19 24 rfl) (am_dec tL_law_19 25 rfl) (am_dec tL_law_19 26 rfl) (am_dec tL_law_19 27 rfl) hS hi ⟨by decide, by decide⟩ (?_ : am_T _ _ _ _ _ 1392 _ _ _)
  refine LA_arg (k := 4) (am_dec tL_law_19 28 rfl) (am_dec tL_law_19 29 rfl) (am_dec tL_law_19 30 rfl) (am_dec tL_law_19 31 rfl) (am_dec tL_law_19 32 rfl) hS hi ⟨by decide, by decide⟩ (?_ : am_T _ _ _ _ _ 1398 _ _ _)
  refine T_aload_n (am_dec tL_law_19 33 rfl) rfl ?_
  refine T_callW (d' := 41) (u' := 1) (as := [aR 0, aI (S.2 (i + 1).toNat), aI (S.2 (i + 2).toNat), aI (S.2 (i + 3).toNat), aI (S.2 (i + 4).toNat), aR 844]) rfl (am_dec tL_law_19 34 rfl) lkL_218 rfl (Nat.le_of_ble_eq_true rfl) (by omega) hu (am_OutWE (wr_way (d := 40) (W1 := W1) (f := f) _ _ _ _ h0 hf hM hc) hW2.symm) ?_
  refine T_istore (ls' := LL i (some (aI (if code = 0 then 0 else if code = 1 then 1 else 2))) none) (am_dec tL_law_19 35 rfl) (by decide) rfl ?_
  refine T_aload_n (am_dec tL_law_19 36 rfl) rfl ?_
  refine LA_arg (k := 1) (am_dec tL_law_19 37 rfl) (am_dec tL_law_19 38 rfl) (am_dec tL_law_19 39 rfl) (am_dec tL_law_20 0 rfl) (am_dec tL_law_20 1 rfl) hS hi ⟨by decide, by decide⟩ (?_ : am_T _ _ _ _ _ 1411 _ _ _)
  refine LA_arg (k := 2) (am_dec tL_law_20 2 rfl) (am_dec tL_law_20 3 rfl) (am_dec tL_law_20 4 rfl) (am_dec tL_law_20 5 rfl) (am_dec tL_law_20 6 rfl) hS hi ⟨by decide, by decide⟩ (?_ : am_T _ _ _ _ _ 1417 _ _ _)
  refine LA_arg (k := 3) (am_dec tL_law_20 7 rfl) (am_dec tL_law_20 8 rfl) (am_dec tL_law_20 9 rfl) (am_dec tL_law_20 10 rfl) (am_dec tL_law_20 11 rfl) hS hi ⟨by decide, by decide⟩ (?_ : am_T _ _ _ _ _ 1423 _ _ _)
  refine LA_arg (k := 4) (am_dec tL_law_20 12 rfl) (am_dec tL_law_20 13 rfl) (am_dec tL_law_20 14 rfl) (am_dec tL_law_20 15 rfl) (am_dec tL_law_20 16 rfl) hS hi ⟨by decide, by decide⟩ (?_ : am_T _ _ _ _ _ 1429 _ _ _)
  refine T_callV (d' := 40) (as := [aI (S.2 (i + 1).toNat), aI (S.2 (i + 2).toNat), aI (S.2 (i + 3).toNat), aI (S.2 (i + 4).toNat)]) rfl (am_dec tL_law_20 17 rfl) lkL_221 h109 rfl rfl (Nat.le_of_ble_eq_true rfl) (by omega) hK (fun _ => ?_)
  refine T_istore (ls' := LL i (some (aI (if code = 0 then 0 else if code = 1 then 1 else 2))) (some (aI kv))) (am_dec tL_law_20 18 rfl) (by decide) rfl ?_
  refine T_aload_n (am_dec tL_law_20 19 rfl) rfl ?_
  refine T_callV (d' := 40) (as := []) rfl (am_dec tL_law_20 20 rfl) lkL_168 h109b rfl rfl (Nat.le_of_ble_eq_true rfl) (by omega) hT (fun _ => ?_)
  refine T_iload (am_dec tL_law_20 21 rfl) rfl ?_
  refine T_icmp_eq 1445 (am_dec tL_law_20 22 rfl) rfl (fun _ => ?_) (fun h => absurd ht h)
  refine T_iload (am_dec tL_law_20 25 rfl) rfl ?_
  refine T_if_ne 1462 (am_dec tL_law_20 26 rfl) rfl (fun _ => fin) (fun g => ?_)
  have e0 : code = 0 := by
    by_cases e : code = 0
    · exact e
    · rw [if_neg e] at g
      split at g <;> omega
  have e1 : f3 (Int.toNat 0) = kv := (hv e0).trans (hC e0)
  refine T_aload_n (am_dec tL_law_20 27 rfl) rfl ?_
  refine T_iconst 0 (am_dec tL_law_20 28 rfl) rfl ⟨by decide, by decide⟩ ?_
  refine T_laload (n := 1) (f := f3) (am_dec tL_law_20 29 rfl) hf3 (by decide) (by decide) ?_
  refine T_iload (am_dec tL_law_20 30 rfl) rfl ?_
  refine T_i2l (am_dec tL_law_20 31 rfl) ?_
  refine T_lcmp (am_dec tL_law_20 32 rfl) ?_
  exact T_if_eq 1462 (am_dec tL_law_20 33 rfl) rfl (fun _ => fin) (fun h => absurd (by rw [e1, if_neg (Int.lt_irrefl _), if_pos rfl]) h)
theorem wk_lot {S : am_S} {d u : Nat} {Q : AO → AH → Prop} {W W1 W2 W3 : AH} {i code v kv t : Int} {fs fs2 fs3 : List AV} {f f3 : Nat → Int} (hS : LawS S) (hi : 0 ≤ i ∧ i + 5 < S.1) (hd : 50 ≤ d) (hu : 1 ≤ u) (h0 : W[0]? = some (cO 10 fs)) (hf : W1[844]? = some (cP 2 1 f)) (hM : am_Out S zX11_lot 40 1 [aR 0, aI (S.2 (i + 1).toNat), aI (S.2 (i + 2).toNat)] W (am_oc code v) W1) (hc : code = 0 ∨ code = 2 ∨ code = 3) (hW2 : W2 = if code = 0 then W1.set 844 (cP 2 1 (am_up f 0 v)) else W1) (h109 : W2[109]? = some (cO 11 fs2)) (hK : am_Out S zX12_lot 40 0 [aR 109, aI (S.2 (i + 1).toNat), aI (S.2 (i + 2).toNat)] W2 (.inl (some (aI kv))) W3) (h109b : W3[109]? = some (cO 11 fs3)) (hT : am_Out S zX12_thrown 40 0 [aR 109] W3 (.inl (some (aI t))) W3) (ht : t = (if code = 0 then 0 else if code = 2 then 1 else 2)) (hf3 : W3[844]? = some (cP 2 1 f3)) (hv : code = 0 → f3 (Int.toNat 0) = v) (hC : code = 0 → v = kv) (kk : am_T S zL_law d (u - 1) Q 3820 (LL i none none) [] W3) : am_T S zL_law d u Q 1465 (LL i none none) [] W := by
  have fin : am_T S zL_law d (u - 1) Q 1530 (LL i (some (aI (if code = 0 then 0 else if code = 2 then 1 else 2))) (some (aI kv))) [] W3 := T_goto 3820 (am_dec tL_law_22 1 rfl) rfl (T_weak LL_w kk)
  refine T_aload_n (am_dec tL_law_20 37 rfl) rfl ?_
  refine LA_arg (k := 1) (am_dec tL_law_20 38 rfl) (am_dec tL_law_20 39 rfl) (am_dec tL_law_21 0 rfl) (am_dec tL_law_21 1 rfl) (am_dec tL_law_21 2 rfl) hS hi ⟨by decide, by decide⟩ (?_ : am_T _ _ _ _ _ 1472 _ _ _)
  refine LA_arg (k := 2) (am_dec tL_law_21 3 rfl) (am_dec tL_law_21 4 rfl) (am_dec tL_law_21 5 rfl) (am_dec tL_law_21 6 rfl) (am_dec tL_law_21 7 rfl) hS hi ⟨by decide, by decide⟩ (?_ : am_T _ _ _ _ _ 1478 _ _ _)
  refine T_aload_n (am_dec tL_law_21 8 rfl) rfl ?_
  refine T_callW (d' := 41) (u' := 1) (as := [aR 0, aI (S.2 (i + 1).toNat), aI (S.2 (i + 2).toNat), aR 844]) rfl (am_dec tL_law_21 9 rfl) lkL_222 rfl (Nat.le_of_ble_eq_true rfl) (by omega) hu (am_OutWE (wr_lot (d := 40) (W1 := W1) (f := f) _ _ h0 hf hM hc) hW2.symm) ?_
  refine T_istore (ls' := LL i (some (aI (if code = 0 then 0 else if code = 2 then 1 else 2))) none) (am_dec tL_law_21 10 rfl) (by decide) rfl ?_
  refine T_aload_n (am_dec tL_law_21 11 rfl) rfl ?_
  refine LA_arg (k := 1) (am_dec tL_law_21 12 rfl) (am_dec tL_law_21 13 rfl) (am_dec tL_law_21 14 rfl) (am_dec tL_law_21 15 rfl) (am_dec tL_law_21 16 rfl) hS hi ⟨by decide, by decide⟩ (?_ : am_T _ _ _ _ _ 1491 _ _ _)
  refine LA_arg (k := 2) (am_dec tL_law_21 17 rfl) (am_dec tL_law_21 18 rfl) (am_dec tL_law_21 19 rfl) (am_dec tL_law_21 20 rfl) (am_dec tL_law_21 21 rfl) hS hi ⟨by decide, by decide⟩ (?_ : am_T _ _ _ _ _ 1497 _ _ _)
  refine T_callV (d' := 40) (as := [aI (S.2 (i + 1).toNat), aI (S.2 (i + 2).toNat)]) rfl (am_dec tL_law_21 22 rfl) lkL_224 h109 rfl rfl (Nat.le_of_ble_eq_true rfl) (by omega) hK (fun _ => ?_)
  refine T_istore (ls' := LL i (some (aI (if code = 0 then 0 else if code = 2 then 1 else 2))) (some (aI kv))) (am_dec tL_law_21 23 rfl) (by decide) rfl ?_
  refine T_aload_n (am_dec tL_law_21 24 rfl) rfl ?_
  refine T_callV (d' := 40) (as := []) rfl (am_dec tL_law_21 25 rfl) lkL_168 h109b rfl rfl (Nat.le_of_ble_eq_true rfl) (by omega) hT (fun _ => ?_)
  refine T_iload (am_dec tL_law_21 26 rfl) rfl ?_
  refine T_icmp_eq 1513 (am_dec tL_law_21 27 rfl) rfl (fun _ => ?_) (fun h => absurd ht h)
  refine T_iload (am_dec tL_law_21 30 rfl) rfl ?_
  refine T_if_ne 1530 (am_dec tL_law_21 31 rfl) rfl (fun _ => fin) (fun g => ?_)
  have e0 : code = 0 := by
    by_cases e : code = 0
    · exact e
    · rw [if_neg e] at g
      split at g <;> omega
  have e1 : f3 (Int.toNat 0) = kv := (hv e0).trans (hC e0)
  refine T_aload_n (am_dec tL_law_21 32 rfl) rfl ?_
  refine T_iconst 0 (am_dec tL_law_21 33 rfl) rfl ⟨by decide, by decide⟩ ?_
  refine T_laload (n := 1) (f := f3) (am_dec tL_law_21 34 rfl) hf3 (by decide) (by decide) ?_
  refine T_iload (am_dec tL_law_21 35 rfl) rfl ?_
  refine T_i2l (am_dec tL_law_21 36 rfl) ?_
  refine T_lcmp (am_dec tL_law_21 37 rfl) ?_
  exact T_if_eq 1530 (am_dec tL_law_21 38 rfl) rfl (fun _ => fin) (fun h => absurd (by rw [e1, if_neg (Int.lt_irrefl _), if_pos rfl]) h)
