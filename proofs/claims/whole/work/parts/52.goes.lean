/-! the model: steamers, lamps, a step, all steps -/
theorem T_idivD {S : am_S} {z : am_Z} {d u : Nat} {Q : AO → AH → Prop} {pc : Nat} {ls : List (Option AV)} {st : List AV} {w : AH} {a b : Int} (v : Int) (hd : decode (am_cc z) pc = .ok (.idiv, 1)) (h0 : 0 < b) (hv : a.tdiv b = v) (k : am_T S z d u Q (pc + 1) ls (aI v :: st) w) : am_T S z d u Q pc ls (aI b :: aI a :: st) w :=
  am_simple (fun p l e R s m args below meth c H locs cells slots Z lsc ad ax hx hb ho ht hL hst kk => lv_idiv hx hb hd (am_ne0 (by omega) (am_ok_hd hst)) (by rw [am_div (am_ok_hd (am_ok_tl hst)) (am_ok_hd hst), hv]; exact kk)) (fun hs _ => am_ok_cons (am_okI (hv ▸ am_tdr h0 (am_ok_hd (am_ok_tl hs)))) (am_ok_tl (am_ok_tl hs))) k
theorem T_iremD {S : am_S} {z : am_Z} {d u : Nat} {Q : AO → AH → Prop} {pc : Nat} {ls : List (Option AV)} {st : List AV} {w : AH} {a b : Int} (v : Int) (hd : decode (am_cc z) pc = .ok (.irem, 1)) (h0 : 0 < b) (hv : a.tmod b = v) (k : am_T S z d u Q (pc + 1) ls (aI v :: st) w) : am_T S z d u Q pc ls (aI b :: aI a :: st) w := fun p l e R s m args below meth c lo dC dI dA ax n0 ad0 ad H locs cells slots lsc B h1 h2 h3 h4 h5 h6 hR hL hst hS =>
  T_irem v hd (by omega) hv (hv ▸ am_tmr h0 (am_ok_hd hst)) k p l e R s m args below meth c lo dC dI dA ax n0 ad0 ad H locs cells slots lsc B h1 h2 h3 h4 h5 h6 hR hL hst hS
def g_k_mixes_28 (c : am_F) (q : am_F) (y : Int) (x : Int) (x9 : Int × Int) : Int × Int := let all := x9.1; let many := x9.2; (let z43 : Int := (k_isIn c x y); (let all_46 : Int := (if z43 = 0 then all else am_w32 (all + (q 265 ((x + (9 * y)).toNat)))); (let many_46 : Int := (if z43 = 0 then many else (many + 1)); (all_46, many_46))))
theorem L_k_mixes_28 {S : am_S} {d u : Nat} {Q : AO → AH → Prop} {w : AH} {b : Nat} (hl : b + 735 ≤ w.length) (c : am_F) (q : am_F) (k : Int) (y : Int) (hV : MdV c) (hk : 0 ≤ k ∧ k < 6) (hs : (0 ≤ c (82 + k.toNat) 1 ∧ c (82 + k.toNat) 1 < c 4 0) ∧ 0 ≤ c (82 + k.toNat) 2 ∧ c (82 + k.toNat) 2 < c 4 1) (ho11 : c (82 + k.toNat) 2 - 1 ≤ y ∧ y < ((c (82 + k.toNat) 2) + 1) + 1) (hd : 2 ≤ d) (B9 : Int) (hB : B9 = ((c (82 + k.toNat) 1) + 1) + 1) : ∀ (n : Nat) (x : Int) (all : Int) (many : Int), x + n = B9 → c (82 + k.toNat) 1 - 1 ≤ x → 0 ≤ many ∧ many ≤ 3 * (y - c (82 + k.toNat) 2 + 1) + (x - c (82 + k.toNat) 1 + 1) ∧ (c (82 + k.toNat) 2 < y → 1 ≤ many) ∧ (y = c (82 + k.toNat) 2 → c (82 + k.toNat) 1 < x → 1 ≤ many) → (∀ (all' : Int) (many' : Int), all' = (am_fold (g_k_mixes_28 c q y) x n (all, many)).1 → many' = (am_fold (g_k_mixes_28 c q y) x n (all, many)).2 → 0 ≤ many' ∧ many' ≤ 3 * (y - c (82 + k.toNat) 2 + 1) + (B9 - c (82 + k.toNat) 1 + 1) ∧ (c (82 + k.toNat) 2 < y → 1 ≤ many') ∧ (y = c (82 + k.toNat) 2 → c (82 + k.toNat) 1 < B9 → 1 ≤ many') → am_T S zX12_mixes d u Q 76 [some (aR b), some (aR (b + (82 + k.toNat))), some (aI all'), some (aI many'), some (aI y), none] [] (mdW w b c q)) → am_T S zX12_mixes d u Q 28 [some (aR b), some (aR (b + (82 + k.toNat))), some (aI all), some (aI many), some (aI y), some (aI x)] [] (mdW w b c q) := by
  intro n
  induction n with
  | zero =>
    intro x all many hi9 h0i hinv k9
    have e9 : x = B9 := by omega
    subst e9
    obtain ⟨vl0, vu0⟩ := MdV_0 hV
    obtain ⟨vl1, vu1⟩ := MdV_1 hV
    refine T_iload (am_dec tX12_mixes_0 23 rfl) rfl ?_
    refine T_aload_n (am_dec tX12_mixes_0 24 rfl) rfl ?_
    refine T_iconst 1 (am_dec tX12_mixes_0 25 rfl) rfl ⟨by decide, by decide⟩ ?_
    refine T_ialoadE (x := c (82 + k.toNat) 1) (am_dec tX12_mixes_0 26 rfl) (mr_steamer hl (i := k) (by omega) (by omega)) (by omega) (by omega) rfl ?_
    refine T_iconst 1 (am_dec tX12_mixes_0 27 rfl) rfl ⟨by decide, by decide⟩ ?_
    refine T_iadd ((c (82 + k.toNat) 1) + 1) (am_dec tX12_mixes_0 28 rfl) rfl ⟨by omega, by omega⟩ ?_
    refine T_icmp_gt 76 (am_dec tX12_mixes_0 29 rfl) rfl (fun h35 => ?_) (fun h35 => by exfalso; omega)
    refine T_weak (ls' := [some (aR b), some (aR (b + (82 + k.toNat))), some (aI all), some (aI many), some (aI y), none]) (am_sub_s (am_sub_s (am_sub_s (am_sub_s (am_sub_s (am_sub_n am_sub_nil)))))) ?_
    exact k9 all many rfl rfl hinv
  | succ n ih =>
    intro x all many hi9 h0i hinv k9
    obtain ⟨vl0, vu0⟩ := MdV_0 hV
    obtain ⟨vl1, vu1⟩ := MdV_1 hV
    refine T_iload (am_dec tX12_mixes_0 23 rfl) rfl ?_
    refine T_aload_n (am_dec tX12_mixes_0 24 rfl) rfl ?_
    refine T_iconst 1 (am_dec tX12_mixes_0 25 rfl) rfl ⟨by decide, by decide⟩ ?_
    refine T_ialoadE (x := c (82 + k.toNat) 1) (am_dec tX12_mixes_0 26 rfl) (mr_steamer hl (i := k) (by omega) (by omega)) (by omega) (by omega) rfl ?_
    refine T_iconst 1 (am_dec tX12_mixes_0 27 rfl) rfl ⟨by decide, by decide⟩ ?_
    refine T_iadd ((c (82 + k.toNat) 1) + 1) (am_dec tX12_mixes_0 28 rfl) rfl ⟨by omega, by omega⟩ ?_
    refine T_icmp_gt 76 (am_dec tX12_mixes_0 29 rfl) rfl (fun h35 => by exfalso; omega) (fun h35 => ?_)
    refine T_aload_n (am_dec tX12_mixes_0 30 rfl) rfl ?_
    refine T_iload (am_dec tX12_mixes_0 31 rfl) rfl ?_
    refine T_iload (am_dec tX12_mixes_0 32 rfl) rfl ?_
    refine T_callV (as := [aI x, aI y]) rfl (am_dec tX12_mixes_0 33 rfl) lkX12_320 (md_obj hl) rfl rfl (Nat.le_of_ble_eq_true rfl) (by omega) (mk_isIn (d := d - 1) hl x y  hV (by omega)) (fun _ => ?_)
    refine T_nm (fun z43 hz43 => ?_)
    have hb43 := k_isIn_b c x y
    rw [← hz43] at hb43
    have hs43 := k_isIn_s c x y
    rw [← hz43] at hs43
    have K46 : ∀ (all_46 : Int), ∀ (many_46 : Int), all_46 = (if z43 = 0 then all else am_w32 (all + (q 265 ((x + (9 * y)).toNat)))) → many_46 = (if z43 = 0 then many else (many + 1)) →  am_T S zX12_mixes d u Q 70 [some (aR b), some (aR (b + (82 + k.toNat))), some (aI all_46), some (aI many_46), some (aI y), some (aI x)] [] (mdW w b c q) := by
      intro all_46 many_46 hall_46 hmany_46
      refine T_iinc (ls' := [some (aR b), some (aR (b + (82 + k.toNat))), some (aI all_46), some (aI many_46), some (aI y), some (aI (x + 1))]) (x + 1) (am_dec tX12_mixes_1 6 rfl) rfl rfl ⟨by omega, by omega⟩ (by decide) rfl ?_
      refine T_goto 28 (am_dec tX12_mixes_1 7 rfl) rfl ?_
      have e9 : (g_k_mixes_28 c q y) x (all, many) = (all_46, many_46) := (by have s9 := hz43.symm; subst s9; have s9 := hall_46.symm; subst s9; have s9 := hmany_46.symm; subst s9; exact rfl)
      simp only [am_fold_s, e9] at k9
      exact ih (x + 1) all_46 many_46 (by omega) (by omega) (by omega) k9
    refine T_if_ne 52 (am_dec tX12_mixes_0 34 rfl) rfl (fun h46 => ?_) (fun h46 => ?_)
    · refine T_iload_n (am_dec tX12_mixes_0 36 rfl) rfl ?_
      refine T_aload_n (am_dec tX12_mixes_0 37 rfl) rfl ?_
      refine T_getfield 11 42 (am_dec tX12_mixes_0 38 rfl) flX12_106_11 (md_obj hl) rfl ?_
      refine T_iload (am_dec tX12_mixes_0 39 rfl) rfl ?_
      refine T_iload (am_dec tX12_mixes_1 0 rfl) rfl ?_
      refine T_callS (as := [aI x, aI y]) rfl (am_dec tX12_mixes_1 1 rfl) lkX12_317 rfl (Nat.le_of_ble_eq_true rfl) (by omega) (mk_cell' (d := d - 1) x y (by omega)) (fun _ => ?_)
      refine T_ialoadE (x := q 265 ((x + (9 * y)).toNat)) (am_dec tX12_mixes_1 2 rfl) (md_now hl) (by omega) (by omega) rfl ?_
      refine T_iaddW (am_w32 (all + (q 265 ((x + (9 * y)).toNat)))) (am_dec tX12_mixes_1 3 rfl) (am_w32e _).symm (am_w32r _) ?_
      refine T_nm (fun all_66 hall_66 => ?_)
      refine T_istore_n (ls' := [some (aR b), some (aR (b + (82 + k.toNat))), some (aI all_66), some (aI many), some (aI y), some (aI x)]) (am_dec tX12_mixes_1 4 rfl) (by decide) rfl ?_
      refine T_iinc (ls' := [some (aR b), some (aR (b + (82 + k.toNat))), some (aI all_66), some (aI (many + 1)), some (aI y), some (aI x)]) (many + 1) (am_dec tX12_mixes_1 5 rfl) rfl rfl ⟨by omega, by omega⟩ (by decide) rfl ?_
      exact K46 _ _ (by have s9 := hall_66.symm; subst s9; exact (if_neg h46).symm) (by have s9 := hall_66.symm; subst s9; exact (if_neg h46).symm)
    · refine T_goto 70 (am_dec tX12_mixes_0 35 rfl) rfl ?_
      exact K46 _ _ (if_pos h46).symm (if_pos h46).symm
def g_k_mixes_11 (c : am_F) (q : am_F) (k : Int) (y : Int) (x9 : Int × Int) : Int × Int := let all := x9.1; let many := x9.2; (let x_26 : Int := (c (82 + k.toNat) 1) - 1; (let all_28 : Int := (am_fold (g_k_mixes_28 c q y) x_26 (((c (82 + k.toNat) 1) + 1) + 1 - x_26).toNat (all, many)).1; (let many_28 : Int := (am_fold (g_k_mixes_28 c q y) x_26 (((c (82 + k.toNat) 1) + 1) + 1 - x_26).toNat (all, many)).2; (all_28, many_28))))
theorem L_k_mixes_11 {S : am_S} {d u : Nat} {Q : AO → AH → Prop} {w : AH} {b : Nat} (hl : b + 735 ≤ w.length) (c : am_F) (q : am_F) (k : Int) (hV : MdV c) (hk : 0 ≤ k ∧ k < 6) (hs : (0 ≤ c (82 + k.toNat) 1 ∧ c (82 + k.toNat) 1 < c 4 0) ∧ 0 ≤ c (82 + k.toNat) 2 ∧ c (82 + k.toNat) 2 < c 4 1)  (hd : 2 ≤ d) (B9 : Int) (hB : B9 = ((c (82 + k.toNat) 2) + 1) + 1) : ∀ (n : Nat) (y : Int) (all : Int) (many : Int), y + n = B9 → c (82 + k.toNat) 2 - 1 ≤ y → 0 ≤ many ∧ many ≤ 3 * (y - c (82 + k.toNat) 2 + 1) ∧ (c (82 + k.toNat) 2 < y → 1 ≤ many) → (∀ (all' : Int) (many' : Int), all' = (am_fold (g_k_mixes_11 c q k) y n (all, many)).1 → many' = (am_fold (g_k_mixes_11 c q k) y n (all, many)).2 → 0 ≤ many' ∧ many' ≤ 3 * (B9 - c (82 + k.toNat) 2 + 1) ∧ (c (82 + k.toNat) 2 < B9 → 1 ≤ many') → am_T S zX12_mixes d u Q 82 [some (aR b), some (aR (b + (82 + k.toNat))), some (aI all'), some (aI many'), none, none] [] (mdW w b c q)) → am_T S zX12_mixes d u Q 11 [some (aR b), some (aR (b + (82 + k.toNat))), some (aI all), some (aI many), some (aI y), none] [] (mdW w b c q) := by
  intro n
  induction n with
  | zero =>
    intro y all many hi9 h0i hinv k9
    have e9 : y = B9 := by omega
    subst e9
    obtain ⟨vl0, vu0⟩ := MdV_0 hV
    obtain ⟨vl1, vu1⟩ := MdV_1 hV
    refine T_iload (am_dec tX12_mixes_0 10 rfl) rfl ?_
    refine T_aload_n (am_dec tX12_mixes_0 11 rfl) rfl ?_
    refine T_iconst 2 (am_dec tX12_mixes_0 12 rfl) rfl ⟨by decide, by decide⟩ ?_
    refine T_ialoadE (x := c (82 + k.toNat) 2) (am_dec tX12_mixes_0 13 rfl) (mr_steamer hl (i := k) (by omega) (by omega)) (by omega) (by omega) rfl ?_
    refine T_iconst 1 (am_dec tX12_mixes_0 14 rfl) rfl ⟨by decide, by decide⟩ ?_
    refine T_iadd ((c (82 + k.toNat) 2) + 1) (am_dec tX12_mixes_0 15 rfl) rfl ⟨by omega, by omega⟩ ?_
    refine T_icmp_gt 82 (am_dec tX12_mixes_0 16 rfl) rfl (fun h18 => ?_) (fun h18 => by exfalso; omega)
    refine T_weak (ls' := [some (aR b), some (aR (b + (82 + k.toNat))), some (aI all), some (aI many), none, none]) (am_sub_s (am_sub_s (am_sub_s (am_sub_s (am_sub_n (am_sub_n am_sub_nil)))))) ?_
    exact k9 all many rfl rfl hinv
  | succ n ih =>
    intro y all many hi9 h0i hinv k9
    obtain ⟨vl0, vu0⟩ := MdV_0 hV
    obtain ⟨vl1, vu1⟩ := MdV_1 hV
    refine T_iload (am_dec tX12_mixes_0 10 rfl) rfl ?_
    refine T_aload_n (am_dec tX12_mixes_0 11 rfl) rfl ?_
    refine T_iconst 2 (am_dec tX12_mixes_0 12 rfl) rfl ⟨by decide, by decide⟩ ?_
    refine T_ialoadE (x := c (82 + k.toNat) 2) (am_dec tX12_mixes_0 13 rfl) (mr_steamer hl (i := k) (by omega) (by omega)) (by omega) (by omega) rfl ?_
    refine T_iconst 1 (am_dec tX12_mixes_0 14 rfl) rfl ⟨by decide, by decide⟩ ?_
    refine T_iadd ((c (82 + k.toNat) 2) + 1) (am_dec tX12_mixes_0 15 rfl) rfl ⟨by omega, by omega⟩ ?_
    refine T_icmp_gt 82 (am_dec tX12_mixes_0 16 rfl) rfl (fun h18 => by exfalso; omega) (fun h18 => ?_)
    refine T_aload_n (am_dec tX12_mixes_0 17 rfl) rfl ?_
    refine T_iconst 1 (am_dec tX12_mixes_0 18 rfl) rfl ⟨by decide, by decide⟩ ?_
    refine T_ialoadE (x := c (82 + k.toNat) 1) (am_dec tX12_mixes_0 19 rfl) (mr_steamer hl (i := k) (by omega) (by omega)) (by omega) (by omega) rfl ?_
    refine T_iconst 1 (am_dec tX12_mixes_0 20 rfl) rfl ⟨by decide, by decide⟩ ?_
    refine T_isub ((c (82 + k.toNat) 1) - 1) (am_dec tX12_mixes_0 21 rfl) rfl ⟨by omega, by omega⟩ ?_
    refine T_nm (fun x_26 hx_26 => ?_)
    refine T_istore (ls' := [some (aR b), some (aR (b + (82 + k.toNat))), some (aI all), some (aI many), some (aI y), some (aI x_26)]) (am_dec tX12_mixes_0 22 rfl) (by decide) rfl ?_
    refine L_k_mixes_28 hl c q k y hV hk hs (by omega) (by omega) _ rfl (((c (82 + k.toNat) 1) + 1) + 1 - x_26).toNat x_26 all many (by omega) (by omega) (by omega) (fun all_28 many_28 hall_28 hmany_28 hv28 => ?_)
    refine T_iinc (ls' := [some (aR b), some (aR (b + (82 + k.toNat))), some (aI all_28), some (aI many_28), some (aI (y + 1)), none]) (y + 1) (am_dec tX12_mixes_1 8 rfl) rfl rfl ⟨by omega, by omega⟩ (by decide) rfl ?_
    refine T_goto 11 (am_dec tX12_mixes_1 9 rfl) rfl ?_
    have e9 : (g_k_mixes_11 c q k) y (all, many) = (all_28, many_28) := (by have s9 := hx_26.symm; subst s9; have s9 := hall_28.symm; subst s9; have s9 := hmany_28.symm; subst s9; exact rfl)
    simp only [am_fold_s, e9] at k9
    exact ih (y + 1) all_28 many_28 (by omega) (by omega) (by omega) k9
def g_k_mixes_106 (c : am_F) (all : Int) (many : Int) (y : Int) (x : Int) (q : am_F) : am_F := (let z121 : Int := (k_isIn c x y); (if z121 = 0 then q else (am_put q 265 ((x + (9 * y)).toNat) (all.tdiv many))))
theorem L_k_mixes_106 {S : am_S} {d u : Nat} {Q : AO → AH → Prop} {w : AH} {b : Nat} (hl : b + 735 ≤ w.length) (c : am_F) (k : Int) (all : Int) (many : Int) (y : Int) (hV : MdV c) (hk : 0 ≤ k ∧ k < 6) (hs : (0 ≤ c (82 + k.toNat) 1 ∧ c (82 + k.toNat) 1 < c 4 0) ∧ 0 ≤ c (82 + k.toNat) 2 ∧ c (82 + k.toNat) 2 < c 4 1) (hm : 1 ≤ many ∧ many ≤ 9) (ho89 : c (82 + k.toNat) 2 - 1 ≤ y ∧ y < ((c (82 + k.toNat) 2) + 1) + 1) (hd : 2 ≤ d) (B9 : Int) (hB : B9 = ((c (82 + k.toNat) 1) + 1) + 1) : ∀ (n : Nat) (x : Int) (q : am_F), x + n = B9 → c (82 + k.toNat) 1 - 1 ≤ x → (∀ (q' : am_F), q' = am_fold (g_k_mixes_106 c all many y) x n q → am_T S zX12_mixes d u Q 148 [some (aR b), some (aR (b + (82 + k.toNat))), some (aI all), some (aI many), some (aI y), none] [] (mdW w b c q')) → am_T S zX12_mixes d u Q 106 [some (aR b), some (aR (b + (82 + k.toNat))), some (aI all), some (aI many), some (aI y), some (aI x)] [] (mdW w b c q) := by
  intro n
  induction n with
  | zero =>
    intro x q hi9 h0i k9
    have e9 : x = B9 := by omega
    subst e9
    obtain ⟨vl0, vu0⟩ := MdV_0 hV
    obtain ⟨vl1, vu1⟩ := MdV_1 hV
    refine T_iload (am_dec tX12_mixes_1 29 rfl) rfl ?_
    refine T_aload_n (am_dec tX12_mixes_1 30 rfl) rfl ?_
    refine T_iconst 1 (am_dec tX12_mixes_1 31 rfl) rfl ⟨by decide, by decide⟩ ?_
    refine T_ialoadE (x := c (82 + k.toNat) 1) (am_dec tX12_mixes_1 32 rfl) (mr_steamer hl (i := k) (by omega) (by omega)) (by omega) (by omega) rfl ?_
    refine T_iconst 1 (am_dec tX12_mixes_1 33 rfl) rfl ⟨by decide, by decide⟩ ?_
    refine T_iadd ((c (82 + k.toNat) 1) + 1) (am_dec tX12_mixes_1 34 rfl) rfl ⟨by omega, by omega⟩ ?_
    refine T_icmp_gt 148 (am_dec tX12_mixes_1 35 rfl) rfl (fun h113 => ?_) (fun h113 => by exfalso; omega)
    refine T_weak (ls' := [some (aR b), some (aR (b + (82 + k.toNat))), some (aI all), some (aI many), some (aI y), none]) (am_sub_s (am_sub_s (am_sub_s (am_sub_s (am_sub_s (am_sub_n am_sub_nil)))))) ?_
    exact k9 q rfl
  | succ n ih =>
    intro x q hi9 h0i k9
    obtain ⟨vl0, vu0⟩ := MdV_0 hV
    obtain ⟨vl1, vu1⟩ := MdV_1 hV
    refine T_iload (am_dec tX12_mixes_1 29 rfl) rfl ?_
    refine T_aload_n (am_dec tX12_mixes_1 30 rfl) rfl ?_
    refine T_iconst 1 (am_dec tX12_mixes_1 31 rfl) rfl ⟨by decide, by decide⟩ ?_
    refine T_ialoadE (x := c (82 + k.toNat) 1) (am_dec tX12_mixes_1 32 rfl) (mr_steamer hl (i := k) (by omega) (by omega)) (by omega) (by omega) rfl ?_
    refine T_iconst 1 (am_dec tX12_mixes_1 33 rfl) rfl ⟨by decide, by decide⟩ ?_
    refine T_iadd ((c (82 + k.toNat) 1) + 1) (am_dec tX12_mixes_1 34 rfl) rfl ⟨by omega, by omega⟩ ?_
    refine T_icmp_gt 148 (am_dec tX12_mixes_1 35 rfl) rfl (fun h113 => by exfalso; omega) (fun h113 => ?_)
    refine T_aload_n (am_dec tX12_mixes_1 36 rfl) rfl ?_
    refine T_iload (am_dec tX12_mixes_1 37 rfl) rfl ?_
    refine T_iload (am_dec tX12_mixes_1 38 rfl) rfl ?_
    refine T_callV (as := [aI x, aI y]) rfl (am_dec tX12_mixes_1 39 rfl) lkX12_320 (md_obj hl) rfl rfl (Nat.le_of_ble_eq_true rfl) (by omega) (mk_isIn (d := d - 1) hl x y  hV (by omega)) (fun _ => ?_)
    refine T_nm (fun z121 hz121 => ?_)
    have hb121 := k_isIn_b c x y
    rw [← hz121] at hb121
    have hs121 := k_isIn_s c x y
    rw [← hz121] at hs121
    have K124 : ∀ (q124 : am_F), q124 = (if z121 = 0 then q else (am_put q 265 ((x + (9 * y)).toNat) (all.tdiv many))) →  am_T S zX12_mixes d u Q 142 [some (aR b), some (aR (b + (82 + k.toNat))), some (aI all), some (aI many), some (aI y), some (aI x)] [] (mdW w b c q124) := by
      intro q124 hq124
      refine T_iinc (ls' := [some (aR b), some (aR (b + (82 + k.toNat))), some (aI all), some (aI many), some (aI y), some (aI (x + 1))]) (x + 1) (am_dec tX12_mixes_2 10 rfl) rfl rfl ⟨by omega, by omega⟩ (by decide) rfl ?_
      refine T_goto 106 (am_dec tX12_mixes_2 11 rfl) rfl ?_
      have e9 : (g_k_mixes_106 c all many y) x q = q124 := (by have s9 := hz121.symm; subst s9; have s9 := hq124.symm; subst s9; exact rfl)
      simp only [am_fold_s, e9] at k9
      exact ih (x + 1) q124 (by omega) (by omega) k9
    refine T_if_eq 142 (am_dec tX12_mixes_2 0 rfl) rfl (fun h124 => ?_) (fun h124 => ?_)
    · exact K124 _ (if_pos h124).symm
    · refine T_aload_n (am_dec tX12_mixes_2 1 rfl) rfl ?_
      refine T_getfield 11 42 (am_dec tX12_mixes_2 2 rfl) flX12_106_11 (md_obj hl) rfl ?_
      refine T_iload (am_dec tX12_mixes_2 3 rfl) rfl ?_
      refine T_iload (am_dec tX12_mixes_2 4 rfl) rfl ?_
      refine T_callS (as := [aI x, aI y]) rfl (am_dec tX12_mixes_2 5 rfl) lkX12_317 rfl (Nat.le_of_ble_eq_true rfl) (by omega) (mk_cell' (d := d - 1) x y (by omega)) (fun _ => ?_)
      refine T_iload_n (am_dec tX12_mixes_2 6 rfl) rfl ?_
      refine T_iload_n (am_dec tX12_mixes_2 7 rfl) rfl ?_
      refine T_idivD (all.tdiv many) (am_dec tX12_mixes_2 8 rfl) (by omega) rfl ?_
      refine T_iastore (am_dec tX12_mixes_2 9 rfl) (md_now hl) (by omega) (by omega) ?_
      refine am_wE (w2 := mdW w b c (am_put q 265 ((x + (9 * y)).toNat) (all.tdiv many))) (md_pq (Nat.le_of_ble_eq_true rfl) (fun _ _ => rfl)) ?_
      exact K124 _ (if_neg h124).symm
def g_k_mixes_89 (c : am_F) (k : Int) (all : Int) (many : Int) (y : Int) (q : am_F) : am_F := (let x_104 : Int := (c (82 + k.toNat) 1) - 1; am_fold (g_k_mixes_106 c all many y) x_104 (((c (82 + k.toNat) 1) + 1) + 1 - x_104).toNat q)
theorem L_k_mixes_89 {S : am_S} {d u : Nat} {Q : AO → AH → Prop} {w : AH} {b : Nat} (hl : b + 735 ≤ w.length) (c : am_F) (k : Int) (all : Int) (many : Int) (hV : MdV c) (hk : 0 ≤ k ∧ k < 6) (hs : (0 ≤ c (82 + k.toNat) 1 ∧ c (82 + k.toNat) 1 < c 4 0) ∧ 0 ≤ c (82 + k.toNat) 2 ∧ c (82 + k.toNat) 2 < c 4 1) (hm : 1 ≤ many ∧ many ≤ 9) (hd : 2 ≤ d) (B9 : Int) (hB : B9 = ((c (82 + k.toNat) 2) + 1) + 1) : ∀ (n : Nat) (y : Int) (q : am_F), y + n = B9 → c (82 + k.toNat) 2 - 1 ≤ y → (∀ (q' : am_F), q' = am_fold (g_k_mixes_89 c k all many) y n q → am_T S zX12_mixes d u Q 154 [some (aR b), some (aR (b + (82 + k.toNat))), some (aI all), some (aI many), none, none] [] (mdW w b c q')) → am_T S zX12_mixes d u Q 89 [some (aR b), some (aR (b + (82 + k.toNat))), some (aI all), some (aI many), some (aI y), none] [] (mdW w b c q) := by
  intro n
  induction n with
  | zero =>
    intro y q hi9 h0i k9
    have e9 : y = B9 := by omega
    subst e9
    obtain ⟨vl0, vu0⟩ := MdV_0 hV
    obtain ⟨vl1, vu1⟩ := MdV_1 hV
    refine T_iload (am_dec tX12_mixes_1 16 rfl) rfl ?_
    refine T_aload_n (am_dec tX12_mixes_1 17 rfl) rfl ?_
    refine T_iconst 2 (am_dec tX12_mixes_1 18 rfl) rfl ⟨by decide, by decide⟩ ?_
    refine T_ialoadE (x := c (82 + k.toNat) 2) (am_dec tX12_mixes_1 19 rfl) (mr_steamer hl (i := k) (by omega) (by omega)) (by omega) (by omega) rfl ?_
    refine T_iconst 1 (am_dec tX12_mixes_1 20 rfl) rfl ⟨by decide, by decide⟩ ?_
    refine T_iadd ((c (82 + k.toNat) 2) + 1) (am_dec tX12_mixes_1 21 rfl) rfl ⟨by omega, by omega⟩ ?_
    refine T_icmp_gt 154 (am_dec tX12_mixes_1 22 rfl) rfl (fun h96 => ?_) (fun h96 => by exfalso; omega)
    refine T_weak (ls' := [some (aR b), some (aR (b + (82 + k.toNat))), some (aI all), some (aI many), none, none]) (am_sub_s (am_sub_s (am_sub_s (am_sub_s (am_sub_n (am_sub_n am_sub_nil)))))) ?_
    exact k9 q rfl
  | succ n ih =>
    intro y q hi9 h0i k9
    obtain ⟨vl0, vu0⟩ := MdV_0 hV
    obtain ⟨vl1, vu1⟩ := MdV_1 hV
    refine T_iload (am_dec tX12_mixes_1 16 rfl) rfl ?_
    refine T_aload_n (am_dec tX12_mixes_1 17 rfl) rfl ?_
    refine T_iconst 2 (am_dec tX12_mixes_1 18 rfl) rfl ⟨by decide, by decide⟩ ?_
    refine T_ialoadE (x := c (82 + k.toNat) 2) (am_dec tX12_mixes_1 19 rfl) (mr_steamer hl (i := k) (by omega) (by omega)) (by omega) (by omega) rfl ?_
    refine T_iconst 1 (am_dec tX12_mixes_1 20 rfl) rfl ⟨by decide, by decide⟩ ?_
    refine T_iadd ((c (82 + k.toNat) 2) + 1) (am_dec tX12_mixes_1 21 rfl) rfl ⟨by omega, by omega⟩ ?_
    refine T_icmp_gt 154 (am_dec tX12_mixes_1 22 rfl) rfl (fun h96 => by exfalso; omega) (fun h96 => ?_)
    refine T_aload_n (am_dec tX12_mixes_1 23 rfl) rfl ?_
    refine T_iconst 1 (am_dec tX12_mixes_1 24 rfl) rfl ⟨by decide, by decide⟩ ?_
    refine T_ialoadE (x := c (82 + k.toNat) 1) (am_dec tX12_mixes_1 25 rfl) (mr_steamer hl (i := k) (by omega) (by omega)) (by omega) (by omega) rfl ?_
    refine T_iconst 1 (am_dec tX12_mixes_1 26 rfl) rfl ⟨by decide, by decide⟩ ?_
    refine T_isub ((c (82 + k.toNat) 1) - 1) (am_dec tX12_mixes_1 27 rfl) rfl ⟨by omega, by omega⟩ ?_
    refine T_nm (fun x_104 hx_104 => ?_)
    refine T_istore (ls' := [some (aR b), some (aR (b + (82 + k.toNat))), some (aI all), some (aI many), some (aI y), some (aI x_104)]) (am_dec tX12_mixes_1 28 rfl) (by decide) rfl ?_
    refine L_k_mixes_106 hl c k all many y hV hk hs (by omega) (by omega) (by omega) _ rfl (((c (82 + k.toNat) 1) + 1) + 1 - x_104).toNat x_104 q (by omega) (by omega) (fun q106 hq106 => ?_)
    refine T_iinc (ls' := [some (aR b), some (aR (b + (82 + k.toNat))), some (aI all), some (aI many), some (aI (y + 1)), none]) (y + 1) (am_dec tX12_mixes_2 12 rfl) rfl rfl ⟨by omega, by omega⟩ (by decide) rfl ?_
    refine T_goto 89 (am_dec tX12_mixes_2 13 rfl) rfl ?_
    have e9 : (g_k_mixes_89 c k all many) y q = q106 := (by have s9 := hx_104.symm; subst s9; have s9 := hq106.symm; subst s9; exact rfl)
    simp only [am_fold_s, e9] at k9
    exact ih (y + 1) q106 (by omega) (by omega) k9
def k_mixes (c : am_F) (q : am_F) (k : Int) : am_F := (let y_9 : Int := (c (82 + k.toNat) 2) - 1; (let all_11 : Int := (am_fold (g_k_mixes_11 c q k) y_9 (((c (82 + k.toNat) 2) + 1) + 1 - y_9).toNat (0, 0)).1; (let many_11 : Int := (am_fold (g_k_mixes_11 c q k) y_9 (((c (82 + k.toNat) 2) + 1) + 1 - y_9).toNat (0, 0)).2; (let y_87 : Int := (c (82 + k.toNat) 2) - 1; (let q89 : am_F := am_fold (g_k_mixes_89 c k all_11 many_11) y_87 (((c (82 + k.toNat) 2) + 1) + 1 - y_87).toNat q; (am_put q89 265 (((c (82 + k.toNat) 1) + (9 * (c (82 + k.toNat) 2))).toNat) (am_w32 ((q89 265 (((c (82 + k.toNat) 1) + (9 * (c (82 + k.toNat) 2))).toNat)) + (all_11.tmod many_11)))))))))
theorem mk_mixes {S : am_S} {d u : Nat} {w : AH} {b : Nat} (hl : b + 735 ≤ w.length) {c : am_F} {q : am_F} (k : Int) (hV : MdV c) (hk : 0 ≤ k ∧ k < 6) (hs : (0 ≤ c (82 + k.toNat) 1 ∧ c (82 + k.toNat) 1 < c 4 0) ∧ 0 ≤ c (82 + k.toNat) 2 ∧ c (82 + k.toNat) 2 < c 4 1) (hd : 2 ≤ d) : am_Out S zX12_mixes d u [aR b, aR (b + (82 + k.toNat))] (mdW w b c q) (.inl none) (mdW w b c (k_mixes c q k)) := by
  have key : ∀ Q : AO → AH → Prop, Q (.inl none) (mdW w b c (k_mixes c q k)) → am_M S zX12_mixes d u [aR b, aR (b + (82 + k.toNat))] (mdW w b c q) Q := by
    intro Q hQ
    refine am_body rfl (by decide +kernel) rfl (am_cats_cons rfl ( am_cats_cons rfl (am_cats_nil))) (Nat.le_of_ble_eq_true rfl) (?_ : am_T _ _ _ _ _ 0 [some (aR b), some (aR (b + (82 + k.toNat))), none, none, none, none] [] (mdW w b c q))
    obtain ⟨vl0, vu0⟩ := MdV_0 hV
    obtain ⟨vl1, vu1⟩ := MdV_1 hV
    refine T_iconst 0 (am_dec tX12_mixes_0 0 rfl) rfl ⟨by decide, by decide⟩ ?_
    refine T_istore_n (ls' := [some (aR b), some (aR (b + (82 + k.toNat))), some (aI 0), none, none, none]) (am_dec tX12_mixes_0 1 rfl) (by decide) rfl ?_
    refine T_iconst 0 (am_dec tX12_mixes_0 2 rfl) rfl ⟨by decide, by decide⟩ ?_
    refine T_istore_n (ls' := [some (aR b), some (aR (b + (82 + k.toNat))), some (aI 0), some (aI 0), none, none]) (am_dec tX12_mixes_0 3 rfl) (by decide) rfl ?_
    refine T_aload_n (am_dec tX12_mixes_0 4 rfl) rfl ?_
    refine T_iconst 2 (am_dec tX12_mixes_0 5 rfl) rfl ⟨by decide, by decide⟩ ?_
    refine T_ialoadE (x := c (82 + k.toNat) 2) (am_dec tX12_mixes_0 6 rfl) (mr_steamer hl (i := k) (by omega) (by omega)) (by omega) (by omega) rfl ?_
    refine T_iconst 1 (am_dec tX12_mixes_0 7 rfl) rfl ⟨by decide, by decide⟩ ?_
    refine T_isub ((c (82 + k.toNat) 2) - 1) (am_dec tX12_mixes_0 8 rfl) rfl ⟨by omega, by omega⟩ ?_
    refine T_nm (fun y_9 hy_9 => ?_)
    refine T_istore (ls' := [some (aR b), some (aR (b + (82 + k.toNat))), some (aI 0), some (aI 0), some (aI y_9), none]) (am_dec tX12_mixes_0 9 rfl) (by decide) rfl ?_
    refine L_k_mixes_11 hl c q k hV hk hs  (by omega) _ rfl (((c (82 + k.toNat) 2) + 1) + 1 - y_9).toNat y_9 0 0 (by omega) (by omega) (by omega) (fun all_11 many_11 hall_11 hmany_11 hv11 => ?_)
    refine T_aload_n (am_dec tX12_mixes_1 10 rfl) rfl ?_
    refine T_iconst 2 (am_dec tX12_mixes_1 11 rfl) rfl ⟨by decide, by decide⟩ ?_
    refine T_ialoadE (x := c (82 + k.toNat) 2) (am_dec tX12_mixes_1 12 rfl) (mr_steamer hl (i := k) (by omega) (by omega)) (by omega) (by omega) rfl ?_
    refine T_iconst 1 (am_dec tX12_mixes_1 13 rfl) rfl ⟨by decide, by decide⟩ ?_
    refine T_isub ((c (82 + k.toNat) 2) - 1) (am_dec tX12_mixes_1 14 rfl) rfl ⟨by omega, by omega⟩ ?_
    refine T_nm (fun y_87 hy_87 => ?_)
    refine T_istore (ls' := [some (aR b), some (aR (b + (82 + k.toNat))), some (aI all_11), some (aI many_11), some (aI y_87), none]) (am_dec tX12_mixes_1 15 rfl) (by decide) rfl ?_
    refine L_k_mixes_89 hl c k all_11 many_11 hV hk hs (by omega) (by omega) _ rfl (((c (82 + k.toNat) 2) + 1) + 1 - y_87).toNat y_87 q (by omega) (by omega) (fun q89 hq89 => ?_)
    refine T_aload_n (am_dec tX12_mixes_2 14 rfl) rfl ?_
    refine T_getfield 11 42 (am_dec tX12_mixes_2 15 rfl) flX12_106_11 (md_obj hl) rfl ?_
    refine T_aload_n (am_dec tX12_mixes_2 16 rfl) rfl ?_
    refine T_iconst 1 (am_dec tX12_mixes_2 17 rfl) rfl ⟨by decide, by decide⟩ ?_
    refine T_ialoadE (x := c (82 + k.toNat) 1) (am_dec tX12_mixes_2 18 rfl) (mr_steamer hl (i := k) (by omega) (by omega)) (by omega) (by omega) rfl ?_
    refine T_aload_n (am_dec tX12_mixes_2 19 rfl) rfl ?_
    refine T_iconst 2 (am_dec tX12_mixes_2 20 rfl) rfl ⟨by decide, by decide⟩ ?_
    refine T_ialoadE (x := c (82 + k.toNat) 2) (am_dec tX12_mixes_2 21 rfl) (mr_steamer hl (i := k) (by omega) (by omega)) (by omega) (by omega) rfl ?_
    refine T_callS (as := [aI (c (82 + k.toNat) 1), aI (c (82 + k.toNat) 2)]) rfl (am_dec tX12_mixes_2 22 rfl) lkX12_317 rfl (Nat.le_of_ble_eq_true rfl) (by omega) (mk_cell' (d := d - 1) (c (82 + k.toNat) 1) (c (82 + k.toNat) 2) (by omega)) (fun _ => ?_)
    refine T_dup2 (am_dec tX12_mixes_2 23 rfl) rfl rfl ?_
    refine T_ialoadE (x := q89 265 (((c (82 + k.toNat) 1) + (9 * (c (82 + k.toNat) 2))).toNat)) (am_dec tX12_mixes_2 24 rfl) (md_now hl) (by omega) (by omega) rfl ?_
    refine T_iload_n (am_dec tX12_mixes_2 25 rfl) rfl ?_
    refine T_iload_n (am_dec tX12_mixes_2 26 rfl) rfl ?_
    refine T_iremD (all_11.tmod many_11) (am_dec tX12_mixes_2 27 rfl) (by omega) rfl ?_
    refine T_iaddW (am_w32 ((q89 265 (((c (82 + k.toNat) 1) + (9 * (c (82 + k.toNat) 2))).toNat)) + (all_11.tmod many_11))) (am_dec tX12_mixes_2 28 rfl) (am_w32e _).symm (am_w32r _) ?_
    refine T_iastore (am_dec tX12_mixes_2 29 rfl) (md_now hl) (by omega) (by omega) ?_
    refine am_wE (w2 := mdW w b c (am_put q89 265 (((c (82 + k.toNat) 1) + (9 * (c (82 + k.toNat) 2))).toNat) (am_w32 ((q89 265 (((c (82 + k.toNat) 1) + (9 * (c (82 + k.toNat) 2))).toNat)) + (all_11.tmod many_11))))) (md_pq (Nat.le_of_ble_eq_true rfl) (fun _ _ => rfl)) ?_
    refine T_nmH (W := fun x9 => mdW w b c x9) (v := (am_put q89 265 (((c (82 + k.toNat) 1) + (9 * (c (82 + k.toNat) 2))).toNat) (am_w32 ((q89 265 (((c (82 + k.toNat) 1) + (9 * (c (82 + k.toNat) 2))).toNat)) + (all_11.tmod many_11))))) (fun q173 hq173 => ?_)
    exact T_return (am_dec tX12_mixes_2 30 rfl) rfl (am_tr (fun (x9 : am_F) => Q (.inl none) (mdW w b c x9)) (y := q173) (show (k_mixes c q k) = q173 from (by have s9 := hy_9.symm; subst s9; have s9 := hall_11.symm; subst s9; have s9 := hmany_11.symm; subst s9; have s9 := hy_87.symm; subst s9; have s9 := hq89.symm; subst s9; have s9 := hq173.symm; subst s9; exact rfl)) hQ)
  exact key _ ⟨rfl, rfl⟩
def g_k_burns_37 (c : am_F) (k : Int) (t : Int) (y : Int) (x : Int) (q : am_F) : am_F := (let z56 : Int := (k_isIn c x y); (if z56 = 0 then q else (let m_87 : Int := (k_less (c (67 + k.toNat) 2) (q 265 ((x + (9 * y)).toNat))); (let q119 : am_F := (am_put (am_put q 265 ((x + (9 * y)).toNat) (am_w32 ((q 265 ((x + (9 * y)).toNat)) - m_87))) (201 + (t + 1).toNat) 2 (am_w32 ((q (201 + (t + 1).toNat) 2) + m_87))); (am_put (am_put q119 (243 + k.toNat) ((t + 1).toNat) (am_w32 ((q119 (243 + k.toNat) ((t + 1).toNat)) + m_87))) (251 + k.toNat) ((x + (9 * y)).toNat) (am_w32 ((q119 (251 + k.toNat) ((x + (9 * y)).toNat)) + m_87)))))))
theorem L_k_burns_37 {S : am_S} {d u : Nat} {Q : AO → AH → Prop} {w : AH} {b : Nat} (hl : b + 735 ≤ w.length) (c : am_F) (k : Int) (t : Int) (y : Int) (hV : MdV c) (hk : 0 ≤ k ∧ k < 7) (ht : 0 ≤ t ∧ t < 40) (hs : (0 ≤ c (67 + k.toNat) 0 ∧ c (67 + k.toNat) 0 ≤ 8) ∧ 0 ≤ c (67 + k.toNat) 1 ∧ c (67 + k.toNat) 1 ≤ 8) (ho11 : c (67 + k.toNat) 1 - 1 ≤ y ∧ y < ((c (67 + k.toNat) 1) + 1) + 1) (hd : 2 ≤ d) (B9 : Int) (hB : B9 = ((c (67 + k.toNat) 0) + 1) + 1) : ∀ (n : Nat) (x : Int) (q : am_F), x + n = B9 → c (67 + k.toNat) 0 - 1 ≤ x → (∀ (q' : am_F), q' = am_fold (g_k_burns_37 c k t y) x n q → am_T S zX12_burns d u Q 159 [some (aR b), some (aI k), some (aI t), some (aI y), none, none] [] (mdW w b c q')) → am_T S zX12_burns d u Q 37 [some (aR b), some (aI k), some (aI t), some (aI y), some (aI x), none] [] (mdW w b c q) := by
  intro n
  induction n with
  | zero =>
    intro x q hi9 h0i k9
    have e9 : x = B9 := by omega
    subst e9
    obtain ⟨vl0, vu0⟩ := MdV_0 hV
    obtain ⟨vl1, vu1⟩ := MdV_1 hV
    refine T_iload (am_dec tX12_burns_0 28 rfl) rfl ?_
    refine T_aload_n (am_dec tX12_burns_0 29 rfl) rfl ?_
    refine T_getfield 11 19 (am_dec tX12_burns_0 30 rfl) flX12_49_11 (md_obj hl) rfl ?_
    refine T_iload_n (am_dec tX12_burns_0 31 rfl) rfl ?_
    refine T_aaloadR (r := b + (67 + k.toNat)) (am_dec tX12_burns_0 32 rfl) (by decide) (mh_lamp hl) (by omega) (by omega) (if_pos (by omega)) ?_
    refine T_iconst 0 (am_dec tX12_burns_0 33 rfl) rfl ⟨by decide, by decide⟩ ?_
    refine T_ialoadE (x := c (67 + k.toNat) 0) (am_dec tX12_burns_0 34 rfl) (mr_lamp hl (i := k) (by omega) (by omega)) (by omega) (by omega) rfl ?_
    refine T_iconst 1 (am_dec tX12_burns_0 35 rfl) rfl ⟨by decide, by decide⟩ ?_
    refine T_iadd ((c (67 + k.toNat) 0) + 1) (am_dec tX12_burns_0 36 rfl) rfl ⟨by omega, by omega⟩ ?_
    refine T_icmp_gt 159 (am_dec tX12_burns_0 37 rfl) rfl (fun h49 => ?_) (fun h49 => by exfalso; omega)
    refine T_weak (ls' := [some (aR b), some (aI k), some (aI t), some (aI y), none, none]) (am_sub_s (am_sub_s (am_sub_s (am_sub_s (am_sub_n (am_sub_n am_sub_nil)))))) ?_
    exact k9 q rfl
  | succ n ih =>
    intro x q hi9 h0i k9
    obtain ⟨vl0, vu0⟩ := MdV_0 hV
    obtain ⟨vl1, vu1⟩ := MdV_1 hV
    refine T_iload (am_dec tX12_burns_0 28 rfl) rfl ?_
    refine T_aload_n (am_dec tX12_burns_0 29 rfl) rfl ?_
    refine T_getfield 11 19 (am_dec tX12_burns_0 30 rfl) flX12_49_11 (md_obj hl) rfl ?_
    refine T_iload_n (am_dec tX12_burns_0 31 rfl) rfl ?_
    refine T_aaloadR (r := b + (67 + k.toNat)) (am_dec tX12_burns_0 32 rfl) (by decide) (mh_lamp hl) (by omega) (by omega) (if_pos (by omega)) ?_
    refine T_iconst 0 (am_dec tX12_burns_0 33 rfl) rfl ⟨by decide, by decide⟩ ?_
    refine T_ialoadE (x := c (67 + k.toNat) 0) (am_dec tX12_burns_0 34 rfl) (mr_lamp hl (i := k) (by omega) (by omega)) (by omega) (by omega) rfl ?_
    refine T_iconst 1 (am_dec tX12_burns_0 35 rfl) rfl ⟨by decide, by decide⟩ ?_
    refine T_iadd ((c (67 + k.toNat) 0) + 1) (am_dec tX12_burns_0 36 rfl) rfl ⟨by omega, by omega⟩ ?_
    refine T_icmp_gt 159 (am_dec tX12_burns_0 37 rfl) rfl (fun h49 => by exfalso; omega) (fun h49 => ?_)
    refine T_aload_n (am_dec tX12_burns_0 38 rfl) rfl ?_
    refine T_iload (am_dec tX12_burns_0 39 rfl) rfl ?_
    refine T_iload_n (am_dec tX12_burns_1 0 rfl) rfl ?_
    refine T_callV (as := [aI x, aI y]) rfl (am_dec tX12_burns_1 1 rfl) lkX12_320 (md_obj hl) rfl rfl (Nat.le_of_ble_eq_true rfl) (by omega) (mk_isIn (d := d - 1) hl x y  hV (by omega)) (fun _ => ?_)
    refine T_nm (fun z56 hz56 => ?_)
    have hb56 := k_isIn_b c x y
    rw [← hz56] at hb56
    have hs56 := k_isIn_s c x y
    rw [← hz56] at hs56
    have K59 : ∀ (q59 : am_F), q59 = (if z56 = 0 then q else (let m_87 : Int := (k_less (c (67 + k.toNat) 2) (q 265 ((x + (9 * y)).toNat))); (let q119 : am_F := (am_put (am_put q 265 ((x + (9 * y)).toNat) (am_w32 ((q 265 ((x + (9 * y)).toNat)) - m_87))) (201 + (t + 1).toNat) 2 (am_w32 ((q (201 + (t + 1).toNat) 2) + m_87))); (am_put (am_put q119 (243 + k.toNat) ((t + 1).toNat) (am_w32 ((q119 (243 + k.toNat) ((t + 1).toNat)) + m_87))) (251 + k.toNat) ((x + (9 * y)).toNat) (am_w32 ((q119 (251 + k.toNat) ((x + (9 * y)).toNat)) + m_87)))))) →  am_T S zX12_burns d u Q 153 [some (aR b), some (aI k), some (aI t), some (aI y), some (aI x), none] [] (mdW w b c q59) := by
      intro q59 hq59
      refine T_iinc (ls' := [some (aR b), some (aI k), some (aI t), some (aI y), some (aI (x + 1)), none]) (x + 1) (am_dec tX12_burns_2 24 rfl) rfl rfl ⟨by omega, by omega⟩ (by decide) rfl ?_
      refine T_goto 37 (am_dec tX12_burns_2 25 rfl) rfl ?_
      have e9 : (g_k_burns_37 c k t y) x q = q59 := (by have s9 := hz56.symm; subst s9; have s9 := hq59.symm; subst s9; exact rfl)
      simp only [am_fold_s, e9] at k9
      exact ih (x + 1) q59 (by omega) (by omega) k9
    refine T_if_ne 65 (am_dec tX12_burns_1 2 rfl) rfl (fun h59 => ?_) (fun h59 => ?_)
    · refine T_aload_n (am_dec tX12_burns_1 4 rfl) rfl ?_
      refine T_getfield 11 19 (am_dec tX12_burns_1 5 rfl) flX12_49_11 (md_obj hl) rfl ?_
      refine T_iload_n (am_dec tX12_burns_1 6 rfl) rfl ?_
      refine T_aaloadR (r := b + (67 + k.toNat)) (am_dec tX12_burns_1 7 rfl) (by decide) (mh_lamp hl) (by omega) (by omega) (if_pos (by omega)) ?_
      refine T_iconst 2 (am_dec tX12_burns_1 8 rfl) rfl ⟨by decide, by decide⟩ ?_
      refine T_ialoadE (x := c (67 + k.toNat) 2) (am_dec tX12_burns_1 9 rfl) (mr_lamp hl (i := k) (by omega) (by omega)) (by omega) (by omega) rfl ?_
      refine T_aload_n (am_dec tX12_burns_1 10 rfl) rfl ?_
      refine T_getfield 11 42 (am_dec tX12_burns_1 11 rfl) flX12_106_11 (md_obj hl) rfl ?_
      refine T_iload (am_dec tX12_burns_1 12 rfl) rfl ?_
      refine T_iload_n (am_dec tX12_burns_1 13 rfl) rfl ?_
      refine T_callS (as := [aI x, aI y]) rfl (am_dec tX12_burns_1 14 rfl) lkX12_317 rfl (Nat.le_of_ble_eq_true rfl) (by omega) (mk_cell' (d := d - 1) x y (by omega)) (fun _ => ?_)
      refine T_ialoadE (x := q 265 ((x + (9 * y)).toNat)) (am_dec tX12_burns_1 15 rfl) (md_now hl) (by omega) (by omega) rfl ?_
      refine T_callS (as := [aI (c (67 + k.toNat) 2), aI (q 265 ((x + (9 * y)).toNat))]) rfl (am_dec tX12_burns_1 16 rfl) lkX12_268 rfl (Nat.le_of_ble_eq_true rfl) (by omega) (mk_less (d := d - 1)  (c (67 + k.toNat) 2) (q 265 ((x + (9 * y)).toNat))   ) (fun _ => ?_)
      refine T_nm (fun m_87 hm_87 => ?_)
      refine T_istore (ls' := [some (aR b), some (aI k), some (aI t), some (aI y), some (aI x), some (aI m_87)]) (am_dec tX12_burns_1 17 rfl) (by decide) rfl ?_
      refine T_aload_n (am_dec tX12_burns_1 18 rfl) rfl ?_
      refine T_getfield 11 42 (am_dec tX12_burns_1 19 rfl) flX12_106_11 (md_obj hl) rfl ?_
      refine T_iload (am_dec tX12_burns_1 20 rfl) rfl ?_
      refine T_iload_n (am_dec tX12_burns_1 21 rfl) rfl ?_
      refine T_callS (as := [aI x, aI y]) rfl (am_dec tX12_burns_1 22 rfl) lkX12_317 rfl (Nat.le_of_ble_eq_true rfl) (by omega) (mk_cell' (d := d - 1) x y (by omega)) (fun _ => ?_)
      refine T_dup2 (am_dec tX12_burns_1 23 rfl) rfl rfl ?_
      refine T_ialoadE (x := q 265 ((x + (9 * y)).toNat)) (am_dec tX12_burns_1 24 rfl) (md_now hl) (by omega) (by omega) rfl ?_
      refine T_iload (am_dec tX12_burns_1 25 rfl) rfl ?_
      refine T_isubW (am_w32 ((q 265 ((x + (9 * y)).toNat)) - m_87)) (am_dec tX12_burns_1 26 rfl) (am_w32e _).symm (am_w32r _) ?_
      refine T_iastore (am_dec tX12_burns_1 27 rfl) (md_now hl) (by omega) (by omega) ?_
      refine am_wE (w2 := mdW w b c (am_put q 265 ((x + (9 * y)).toNat) (am_w32 ((q 265 ((x + (9 * y)).toNat)) - m_87)))) (md_pq (Nat.le_of_ble_eq_true rfl) (fun _ _ => rfl)) ?_
      refine T_aload_n (am_dec tX12_burns_1 28 rfl) rfl ?_
      refine T_getfield 11 38 (am_dec tX12_burns_1 29 rfl) flX12_94_11 (md_obj hl) rfl ?_
      refine T_iload_n (am_dec tX12_burns_1 30 rfl) rfl ?_
      refine T_iconst 1 (am_dec tX12_burns_1 31 rfl) rfl ⟨by decide, by decide⟩ ?_
      refine T_iadd (t + 1) (am_dec tX12_burns_1 32 rfl) rfl ⟨by omega, by omega⟩ ?_
      refine T_aaloadR (r := b + (201 + (t + 1).toNat)) (am_dec tX12_burns_1 33 rfl) (by decide) (mh_sums hl) (by omega) (by omega) (if_pos (by omega)) ?_
      refine T_iconst 2 (am_dec tX12_burns_1 34 rfl) rfl ⟨by decide, by decide⟩ ?_
      refine T_dup2 (am_dec tX12_burns_1 35 rfl) rfl rfl ?_
      refine T_ialoadE (x := q (201 + (t + 1).toNat) 2) (am_dec tX12_burns_1 36 rfl) (mr_sums hl (i := (t + 1)) (by omega) (by omega)) (by omega) (by omega) (am_put_k (by omega)) ?_
      refine T_iload (am_dec tX12_burns_1 37 rfl) rfl ?_
      refine T_iaddW (am_w32 ((q (201 + (t + 1).toNat) 2) + m_87)) (am_dec tX12_burns_1 38 rfl) (am_w32e _).symm (am_w32r _) ?_
      refine T_iastore (am_dec tX12_burns_1 39 rfl) (mr_sums hl (i := (t + 1)) (by omega) (by omega)) (by omega) (by omega) ?_
      refine am_wE (w2 := mdW w b c (am_put (am_put q 265 ((x + (9 * y)).toNat) (am_w32 ((q 265 ((x + (9 * y)).toNat)) - m_87))) (201 + (t + 1).toNat) 2 (am_w32 ((q (201 + (t + 1).toNat) 2) + m_87)))) (md_pq (by omega) (fun f g => md_t_sums f g (by omega))) ?_
      refine T_nmH (W := fun x9 => mdW w b c x9) (v := (am_put (am_put q 265 ((x + (9 * y)).toNat) (am_w32 ((q 265 ((x + (9 * y)).toNat)) - m_87))) (201 + (t + 1).toNat) 2 (am_w32 ((q (201 + (t + 1).toNat) 2) + m_87)))) (fun q119 hq119 => ?_)
      refine T_aload_n (am_dec tX12_burns_2 0 rfl) rfl ?_
      refine T_getfield 11 39 (am_dec tX12_burns_2 1 rfl) flX12_97_11 (md_obj hl) rfl ?_
      refine T_iload_n (am_dec tX12_burns_2 2 rfl) rfl ?_
      refine T_aaloadR (r := b + (243 + k.toNat)) (am_dec tX12_burns_2 3 rfl) (by decide) (mh_burned hl) (by omega) (by omega) (if_pos (by omega)) ?_
      refine T_iload_n (am_dec tX12_burns_2 4 rfl) rfl ?_
      refine T_iconst 1 (am_dec tX12_burns_2 5 rfl) rfl ⟨by decide, by decide⟩ ?_
      refine T_iadd (t + 1) (am_dec tX12_burns_2 6 rfl) rfl ⟨by omega, by omega⟩ ?_
      refine T_dup2 (am_dec tX12_burns_2 7 rfl) rfl rfl ?_
      refine T_ialoadE (x := q119 (243 + k.toNat) ((t + 1).toNat)) (am_dec tX12_burns_2 8 rfl) (mr_burned hl (i := k) (by omega) (by omega)) (by omega) (by omega) rfl ?_
      refine T_iload (am_dec tX12_burns_2 9 rfl) rfl ?_
      refine T_iaddW (am_w32 ((q119 (243 + k.toNat) ((t + 1).toNat)) + m_87)) (am_dec tX12_burns_2 10 rfl) (am_w32e _).symm (am_w32r _) ?_
      refine T_iastore (am_dec tX12_burns_2 11 rfl) (mr_burned hl (i := k) (by omega) (by omega)) (by omega) (by omega) ?_
      refine am_wE (w2 := mdW w b c (am_put q119 (243 + k.toNat) ((t + 1).toNat) (am_w32 ((q119 (243 + k.toNat) ((t + 1).toNat)) + m_87)))) (md_pq (by omega) (fun f g => md_t_burned f g (by omega))) ?_
      refine T_aload_n (am_dec tX12_burns_2 12 rfl) rfl ?_
      refine T_getfield 11 40 (am_dec tX12_burns_2 13 rfl) flX12_100_11 (md_obj hl) rfl ?_
      refine T_iload_n (am_dec tX12_burns_2 14 rfl) rfl ?_
      refine T_aaloadR (r := b + (251 + k.toNat)) (am_dec tX12_burns_2 15 rfl) (by decide) (mh_burnedOn hl) (by omega) (by omega) (if_pos (by omega)) ?_
      refine T_iload (am_dec tX12_burns_2 16 rfl) rfl ?_
      refine T_iload_n (am_dec tX12_burns_2 17 rfl) rfl ?_
      refine T_callS (as := [aI x, aI y]) rfl (am_dec tX12_burns_2 18 rfl) lkX12_317 rfl (Nat.le_of_ble_eq_true rfl) (by omega) (mk_cell' (d := d - 1) x y (by omega)) (fun _ => ?_)
      refine T_dup2 (am_dec tX12_burns_2 19 rfl) rfl rfl ?_
      refine T_ialoadE (x := q119 (251 + k.toNat) ((x + (9 * y)).toNat)) (am_dec tX12_burns_2 20 rfl) (mr_burnedOn hl (i := k) (by omega) (by omega)) (by omega) (by omega) (am_put_k (by omega)) ?_
      refine T_iload (am_dec tX12_burns_2 21 rfl) rfl ?_
      refine T_iaddW (am_w32 ((q119 (251 + k.toNat) ((x + (9 * y)).toNat)) + m_87)) (am_dec tX12_burns_2 22 rfl) (am_w32e _).symm (am_w32r _) ?_
      refine T_iastore (am_dec tX12_burns_2 23 rfl) (mr_burnedOn hl (i := k) (by omega) (by omega)) (by omega) (by omega) ?_
      refine am_wE (w2 := mdW w b c (am_put (am_put q119 (243 + k.toNat) ((t + 1).toNat) (am_w32 ((q119 (243 + k.toNat) ((t + 1).toNat)) + m_87))) (251 + k.toNat) ((x + (9 * y)).toNat) (am_w32 ((q119 (251 + k.toNat) ((x + (9 * y)).toNat)) + m_87)))) (md_pq (by omega) (fun f g => md_t_burnedOn f g (by omega))) ?_
      refine T_nmH (W := fun x9 => mdW w b c x9) (v := (am_put (am_put q119 (243 + k.toNat) ((t + 1).toNat) (am_w32 ((q119 (243 + k.toNat) ((t + 1).toNat)) + m_87))) (251 + k.toNat) ((x + (9 * y)).toNat) (am_w32 ((q119 (251 + k.toNat) ((x + (9 * y)).toNat)) + m_87)))) (fun q152 hq152 => ?_)
      refine T_weak (ls' := [some (aR b), some (aI k), some (aI t), some (aI y), some (aI x), none]) (am_sub_s (am_sub_s (am_sub_s (am_sub_s (am_sub_s (am_sub_n am_sub_nil)))))) ?_
      exact K59 _ (by have s9 := hm_87.symm; subst s9; have s9 := hq119.symm; subst s9; have s9 := hq152.symm; subst s9; exact (if_neg h59).symm)
    · refine T_goto 153 (am_dec tX12_burns_1 3 rfl) rfl ?_
      exact K59 _ (if_pos h59).symm
def g_k_burns_11 (c : am_F) (k : Int) (t : Int) (y : Int) (q : am_F) : am_F := (let x_35 : Int := (c (67 + k.toNat) 0) - 1; am_fold (g_k_burns_37 c k t y) x_35 (((c (67 + k.toNat) 0) + 1) + 1 - x_35).toNat q)
theorem L_k_burns_11 {S : am_S} {d u : Nat} {Q : AO → AH → Prop} {w : AH} {b : Nat} (hl : b + 735 ≤ w.length) (c : am_F) (k : Int) (t : Int) (hV : MdV c) (hk : 0 ≤ k ∧ k < 7) (ht : 0 ≤ t ∧ t < 40) (hs : (0 ≤ c (67 + k.toNat) 0 ∧ c (67 + k.toNat) 0 ≤ 8) ∧ 0 ≤ c (67 + k.toNat) 1 ∧ c (67 + k.toNat) 1 ≤ 8)  (hd : 2 ≤ d) (B9 : Int) (hB : B9 = ((c (67 + k.toNat) 1) + 1) + 1) : ∀ (n : Nat) (y : Int) (q : am_F), y + n = B9 → c (67 + k.toNat) 1 - 1 ≤ y → (∀ (q' : am_F), q' = am_fold (g_k_burns_11 c k t) y n q → am_T S zX12_burns d u Q 165 [none, none, none, none, none, none] [] (mdW w b c q')) → am_T S zX12_burns d u Q 11 [some (aR b), some (aI k), some (aI t), some (aI y), none, none] [] (mdW w b c q) := by
  intro n
  induction n with
  | zero =>
    intro y q hi9 h0i k9
    have e9 : y = B9 := by omega
    subst e9
    obtain ⟨vl0, vu0⟩ := MdV_0 hV
    obtain ⟨vl1, vu1⟩ := MdV_1 hV
    refine T_iload_n (am_dec tX12_burns_0 9 rfl) rfl ?_
    refine T_aload_n (am_dec tX12_burns_0 10 rfl) rfl ?_
    refine T_getfield 11 19 (am_dec tX12_burns_0 11 rfl) flX12_49_11 (md_obj hl) rfl ?_
    refine T_iload_n (am_dec tX12_burns_0 12 rfl) rfl ?_
    refine T_aaloadR (r := b + (67 + k.toNat)) (am_dec tX12_burns_0 13 rfl) (by decide) (mh_lamp hl) (by omega) (by omega) (if_pos (by omega)) ?_
    refine T_iconst 1 (am_dec tX12_burns_0 14 rfl) rfl ⟨by decide, by decide⟩ ?_
    refine T_ialoadE (x := c (67 + k.toNat) 1) (am_dec tX12_burns_0 15 rfl) (mr_lamp hl (i := k) (by omega) (by omega)) (by omega) (by omega) rfl ?_
    refine T_iconst 1 (am_dec tX12_burns_0 16 rfl) rfl ⟨by decide, by decide⟩ ?_
    refine T_iadd ((c (67 + k.toNat) 1) + 1) (am_dec tX12_burns_0 17 rfl) rfl ⟨by omega, by omega⟩ ?_
    refine T_icmp_gt 165 (am_dec tX12_burns_0 18 rfl) rfl (fun h22 => ?_) (fun h22 => by exfalso; omega)
    refine T_weak (ls' := [none, none, none, none, none, none]) (am_sub_n (am_sub_n (am_sub_n (am_sub_n (am_sub_n (am_sub_n am_sub_nil)))))) ?_
    exact k9 q rfl
  | succ n ih =>
    intro y q hi9 h0i k9
    obtain ⟨vl0, vu0⟩ := MdV_0 hV
    obtain ⟨vl1, vu1⟩ := MdV_1 hV
    refine T_iload_n (am_dec tX12_burns_0 9 rfl) rfl ?_
    refine T_aload_n (am_dec tX12_burns_0 10 rfl) rfl ?_
    refine T_getfield 11 19 (am_dec tX12_burns_0 11 rfl) flX12_49_11 (md_obj hl) rfl ?_
    refine T_iload_n (am_dec tX12_burns_0 12 rfl) rfl ?_
    refine T_aaloadR (r := b + (67 + k.toNat)) (am_dec tX12_burns_0 13 rfl) (by decide) (mh_lamp hl) (by omega) (by omega) (if_pos (by omega)) ?_
    refine T_iconst 1 (am_dec tX12_burns_0 14 rfl) rfl ⟨by decide, by decide⟩ ?_
    refine T_ialoadE (x := c (67 + k.toNat) 1) (am_dec tX12_burns_0 15 rfl) (mr_lamp hl (i := k) (by omega) (by omega)) (by omega) (by omega) rfl ?_
    refine T_iconst 1 (am_dec tX12_burns_0 16 rfl) rfl ⟨by decide, by decide⟩ ?_
    refine T_iadd ((c (67 + k.toNat) 1) + 1) (am_dec tX12_burns_0 17 rfl) rfl ⟨by omega, by omega⟩ ?_
    refine T_icmp_gt 165 (am_dec tX12_burns_0 18 rfl) rfl (fun h22 => by exfalso; omega) (fun h22 => ?_)
    refine T_aload_n (am_dec tX12_burns_0 19 rfl) rfl ?_
    refine T_getfield 11 19 (am_dec tX12_burns_0 20 rfl) flX12_49_11 (md_obj hl) rfl ?_
    refine T_iload_n (am_dec tX12_burns_0 21 rfl) rfl ?_
    refine T_aaloadR (r := b + (67 + k.toNat)) (am_dec tX12_burns_0 22 rfl) (by decide) (mh_lamp hl) (by omega) (by omega) (if_pos (by omega)) ?_
    refine T_iconst 0 (am_dec tX12_burns_0 23 rfl) rfl ⟨by decide, by decide⟩ ?_
    refine T_ialoadE (x := c (67 + k.toNat) 0) (am_dec tX12_burns_0 24 rfl) (mr_lamp hl (i := k) (by omega) (by omega)) (by omega) (by omega) rfl ?_
    refine T_iconst 1 (am_dec tX12_burns_0 25 rfl) rfl ⟨by decide, by decide⟩ ?_
    refine T_isub ((c (67 + k.toNat) 0) - 1) (am_dec tX12_burns_0 26 rfl) rfl ⟨by omega, by omega⟩ ?_
    refine T_nm (fun x_35 hx_35 => ?_)
    refine T_istore (ls' := [some (aR b), some (aI k), some (aI t), some (aI y), some (aI x_35), none]) (am_dec tX12_burns_0 27 rfl) (by decide) rfl ?_
    refine L_k_burns_37 hl c k t y hV hk ht hs (by omega) (by omega) _ rfl (((c (67 + k.toNat) 0) + 1) + 1 - x_35).toNat x_35 q (by omega) (by omega) (fun q37 hq37 => ?_)
    refine T_iinc (ls' := [some (aR b), some (aI k), some (aI t), some (aI (y + 1)), none, none]) (y + 1) (am_dec tX12_burns_2 26 rfl) rfl rfl ⟨by omega, by omega⟩ (by decide) rfl ?_
    refine T_goto 11 (am_dec tX12_burns_2 27 rfl) rfl ?_
    have e9 : (g_k_burns_11 c k t) y q = q37 := (by have s9 := hx_35.symm; subst s9; have s9 := hq37.symm; subst s9; exact rfl)
    simp only [am_fold_s, e9] at k9
    exact ih (y + 1) q37 (by omega) (by omega) k9
def k_burns (c : am_F) (q : am_F) (k : Int) (t : Int) : am_F := (let y_10 : Int := (c (67 + k.toNat) 1) - 1; am_fold (g_k_burns_11 c k t) y_10 (((c (67 + k.toNat) 1) + 1) + 1 - y_10).toNat q)
theorem mk_burns {S : am_S} {d u : Nat} {w : AH} {b : Nat} (hl : b + 735 ≤ w.length) {c : am_F} {q : am_F} (k : Int) (t : Int) (hV : MdV c) (hk : 0 ≤ k ∧ k < 7) (ht : 0 ≤ t ∧ t < 40) (hs : (0 ≤ c (67 + k.toNat) 0 ∧ c (67 + k.toNat) 0 ≤ 8) ∧ 0 ≤ c (67 + k.toNat) 1 ∧ c (67 + k.toNat) 1 ≤ 8) (hd : 2 ≤ d) : am_Out S zX12_burns d u [aR b, aI k, aI t] (mdW w b c q) (.inl none) (mdW w b c (k_burns c q k t)) := by
  have key : ∀ Q : AO → AH → Prop, Q (.inl none) (mdW w b c (k_burns c q k t)) → am_M S zX12_burns d u [aR b, aI k, aI t] (mdW w b c q) Q := by
    intro Q hQ
    refine am_body rfl (by decide +kernel) rfl (am_cats_cons rfl ( am_cats_cons rfl ( am_cats_cons rfl (am_cats_nil)))) (Nat.le_of_ble_eq_true rfl) (?_ : am_T _ _ _ _ _ 0 [some (aR b), some (aI k), some (aI t), none, none, none] [] (mdW w b c q))
    obtain ⟨vl0, vu0⟩ := MdV_0 hV
    obtain ⟨vl1, vu1⟩ := MdV_1 hV
    refine T_aload_n (am_dec tX12_burns_0 0 rfl) rfl ?_
    refine T_getfield 11 19 (am_dec tX12_burns_0 1 rfl) flX12_49_11 (md_obj hl) rfl ?_
    refine T_iload_n (am_dec tX12_burns_0 2 rfl) rfl ?_
    refine T_aaloadR (r := b + (67 + k.toNat)) (am_dec tX12_burns_0 3 rfl) (by decide) (mh_lamp hl) (by omega) (by omega) (if_pos (by omega)) ?_
    refine T_iconst 1 (am_dec tX12_burns_0 4 rfl) rfl ⟨by decide, by decide⟩ ?_
    refine T_ialoadE (x := c (67 + k.toNat) 1) (am_dec tX12_burns_0 5 rfl) (mr_lamp hl (i := k) (by omega) (by omega)) (by omega) (by omega) rfl ?_
    refine T_iconst 1 (am_dec tX12_burns_0 6 rfl) rfl ⟨by decide, by decide⟩ ?_
    refine T_isub ((c (67 + k.toNat) 1) - 1) (am_dec tX12_burns_0 7 rfl) rfl ⟨by omega, by omega⟩ ?_
    refine T_nm (fun y_10 hy_10 => ?_)
    refine T_istore_n (ls' := [some (aR b), some (aI k), some (aI t), some (aI y_10), none, none]) (am_dec tX12_burns_0 8 rfl) (by decide) rfl ?_
    refine L_k_burns_11 hl c k t hV hk ht hs  (by omega) _ rfl (((c (67 + k.toNat) 1) + 1) + 1 - y_10).toNat y_10 q (by omega) (by omega) (fun q11 hq11 => ?_)
    exact T_return (am_dec tX12_burns_2 28 rfl) rfl (am_tr (fun (x9 : am_F) => Q (.inl none) (mdW w b c x9)) (y := q11) (show (k_burns c q k t) = q11 from (by have s9 := hy_10.symm; subst s9; have s9 := hq11.symm; subst s9; exact rfl)) hQ)
  exact key _ ⟨rfl, rfl⟩
def MdS (c : am_F) : Prop := ∀ k : Int, 0 ≤ k → k < c 4 10 → (0 ≤ c (82 + k.toNat) 1 ∧ c (82 + k.toNat) 1 < c 4 0) ∧ 0 ≤ c (82 + k.toNat) 2 ∧ c (82 + k.toNat) 2 < c 4 1
def MdLp (c : am_F) : Prop := ∀ k : Int, 0 ≤ k → k < c 0 45 → (0 ≤ c (67 + k.toNat) 0 ∧ c (67 + k.toNat) 0 ≤ 8) ∧ 0 ≤ c (67 + k.toNat) 1 ∧ c (67 + k.toNat) 1 ≤ 8
def MdDu (c : am_F) : Prop := -1 ≤ c 0 58 ∧ (0 ≤ c 0 58 → 0 ≤ c 0 59 ∧ c 0 59 ≤ 80)
theorem am_put0 {c : am_F} {i k : Nat} {v : Int} (hk : k ≠ 0) : am_put c 0 i v k = c k := funext fun _ => if_neg hk
theorem MdWd_p0 {c : am_F} {i : Nat} {v : Int} (h : MdWd c) : MdWd (am_put c 0 i v) := fun k h0 h1 => by
  rw [am_put0 (by omega : 21 + k.toNat ≠ 0)]
  exact h k h0 h1
theorem MdS_p0 {c : am_F} {i : Nat} {v : Int} (h : MdS c) : MdS (am_put c 0 i v) := fun k h0 h1 => by
  rw [am_put0 (by omega : 82 + k.toNat ≠ 0)]
  exact h k h0 h1
theorem MdLp_p0 {c : am_F} {i : Nat} {v : Int} (h : MdLp c) (hi : i ≠ 45 := by decide) : MdLp (am_put c 0 i v) := fun k h0 h1 => by
  rw [am_put0 (by omega : 67 + k.toNat ≠ 0)]
  exact h k h0 (by rw [am_put_i (by omega)] at h1; exact h1)
def g_k_stepGoes_2 (t : Int) (v2 : Int) (q : am_F) : am_F := (am_put q (201 + (t + 1).toNat) v2.toNat (q (201 + t.toNat) v2.toNat))
theorem L_k_stepGoes_2 {S : am_S} {d u : Nat} {Q : AO → AH → Prop} {w : AH} {b : Nat} (hl : b + 735 ≤ w.length) (c : am_F) (t : Int) (hV : MdV c) (hWd : MdWd c) (hS9 : MdS c) (hLp : MdLp c) (hDu : MdDu c) (ht : 0 ≤ t ∧ t < 40)  (hd : 3 ≤ d) (B9 : Int) (hB : B9 = 4) : ∀ (n : Nat) (v2 : Int) (q : am_F), v2 + n = B9 → 1 ≤ v2 → (∀ (q' : am_F), q' = am_fold (g_k_stepGoes_2 t) v2 n q → am_T S zX12_stepGoes d u Q 31 [some (aR b), some (aI t), none, none, none] [] (mdW w b c q')) → am_T S zX12_stepGoes d u Q 2 [some (aR b), some (aI t), some (aI v2), none, none] [] (mdW w b c q) := by
  intro n
  induction n with
  | zero =>
    intro v2 q hi9 h0i k9
    have e9 : v2 = B9 := by omega
    subst e9
    obtain ⟨vl10, vu10⟩ := MdV_10 hV
    obtain ⟨vl11, vu11⟩ := MdV_11 hV
    refine T_iload_n (am_dec tX12_stepGoes_0 2 rfl) rfl ?_
    refine T_iconst 4 (am_dec tX12_stepGoes_0 3 rfl) rfl ⟨by decide, by decide⟩ ?_
    refine T_icmp_ge 31 (am_dec tX12_stepGoes_0 4 rfl) rfl (fun h4 => ?_) (fun h4 => by exfalso; omega)
    refine T_weak (ls' := [some (aR b), some (aI t), none, none, none]) (am_sub_s (am_sub_s (am_sub_n (am_sub_n (am_sub_n am_sub_nil))))) ?_
    exact k9 q rfl
  | succ n ih =>
    intro v2 q hi9 h0i k9
    obtain ⟨vl10, vu10⟩ := MdV_10 hV
    obtain ⟨vl11, vu11⟩ := MdV_11 hV
    refine T_iload_n (am_dec tX12_stepGoes_0 2 rfl) rfl ?_
    refine T_iconst 4 (am_dec tX12_stepGoes_0 3 rfl) rfl ⟨by decide, by decide⟩ ?_
    refine T_icmp_ge 31 (am_dec tX12_stepGoes_0 4 rfl) rfl (fun h4 => by exfalso; omega) (fun h4 => ?_)
    refine T_aload_n (am_dec tX12_stepGoes_0 5 rfl) rfl ?_
    refine T_getfield 11 38 (am_dec tX12_stepGoes_0 6 rfl) flX12_94_11 (md_obj hl) rfl ?_
    refine T_iload_n (am_dec tX12_stepGoes_0 7 rfl) rfl ?_
    refine T_iconst 1 (am_dec tX12_stepGoes_0 8 rfl) rfl ⟨by decide, by decide⟩ ?_
    refine T_iadd (t + 1) (am_dec tX12_stepGoes_0 9 rfl) rfl ⟨by omega, by omega⟩ ?_
    refine T_aaloadR (r := b + (201 + (t + 1).toNat)) (am_dec tX12_stepGoes_0 10 rfl) (by decide) (mh_sums hl) (by omega) (by omega) (if_pos (by omega)) ?_
    refine T_iload_n (am_dec tX12_stepGoes_0 11 rfl) rfl ?_
    refine T_aload_n (am_dec tX12_stepGoes_0 12 rfl) rfl ?_
    refine T_getfield 11 38 (am_dec tX12_stepGoes_0 13 rfl) flX12_94_11 (md_obj hl) rfl ?_
    refine T_iload_n (am_dec tX12_stepGoes_0 14 rfl) rfl ?_
    refine T_aaloadR (r := b + (201 + t.toNat)) (am_dec tX12_stepGoes_0 15 rfl) (by decide) (mh_sums hl) (by omega) (by omega) (if_pos (by omega)) ?_
    refine T_iload_n (am_dec tX12_stepGoes_0 16 rfl) rfl ?_
    refine T_ialoadE (x := q (201 + t.toNat) v2.toNat) (am_dec tX12_stepGoes_0 17 rfl) (mr_sums hl (i := t) (by omega) (by omega)) (by omega) (by omega) rfl ?_
    refine T_iastore (am_dec tX12_stepGoes_0 18 rfl) (mr_sums hl (i := (t + 1)) (by omega) (by omega)) (by omega) (by omega) ?_
    refine am_wE (w2 := mdW w b c (am_put q (201 + (t + 1).toNat) v2.toNat (q (201 + t.toNat) v2.toNat))) (md_pq (by omega) (fun f g => md_t_sums f g (by omega))) ?_
    refine T_iinc (ls' := [some (aR b), some (aI t), some (aI (v2 + 1)), none, none]) (v2 + 1) (am_dec tX12_stepGoes_0 19 rfl) rfl rfl ⟨by omega, by omega⟩ (by decide) rfl ?_
    refine T_goto 2 (am_dec tX12_stepGoes_0 20 rfl) rfl ?_
    have e9 : (g_k_stepGoes_2 t) v2 q = (am_put q (201 + (t + 1).toNat) v2.toNat (q (201 + t.toNat) v2.toNat)) := rfl
    simp only [am_fold_s, e9] at k9
    exact ih (v2 + 1) (am_put q (201 + (t + 1).toNat) v2.toNat (q (201 + t.toNat) v2.toNat)) (by omega) (by omega) k9
def g_k_stepGoes_33 (t : Int) (v2 : Int) (q : am_F) : am_F := (am_put q (243 + v2.toNat) ((t + 1).toNat) (q (243 + v2.toNat) t.toNat))
theorem L_k_stepGoes_33 {S : am_S} {d u : Nat} {Q : AO → AH → Prop} {w : AH} {b : Nat} (hl : b + 735 ≤ w.length) (c : am_F) (t : Int) (hV : MdV c) (hWd : MdWd c) (hS9 : MdS c) (hLp : MdLp c) (hDu : MdDu c) (ht : 0 ≤ t ∧ t < 40)  (hd : 3 ≤ d) (B9 : Int) (hB : B9 = c 0 45) : ∀ (n : Nat) (v2 : Int) (q : am_F), v2 + n = B9 → 0 ≤ v2 → (∀ (q' : am_F), q' = am_fold (g_k_stepGoes_33 t) v2 n q → am_T S zX12_stepGoes d u Q 65 [some (aR b), some (aI t), none, none, none] [] (mdW w b c q')) → am_T S zX12_stepGoes d u Q 33 [some (aR b), some (aI t), some (aI v2), none, none] [] (mdW w b c q) := by
  intro n
  induction n with
  | zero =>
    intro v2 q hi9 h0i k9
    have e9 : v2 = B9 := by omega
    subst e9
    obtain ⟨vl10, vu10⟩ := MdV_10 hV
    obtain ⟨vl11, vu11⟩ := MdV_11 hV
    refine T_iload_n (am_dec tX12_stepGoes_0 23 rfl) rfl ?_
    refine T_aload_n (am_dec tX12_stepGoes_0 24 rfl) rfl ?_
    refine T_getfield 11 45 (am_dec tX12_stepGoes_0 25 rfl) flX12_289_11 (md_obj hl) rfl ?_
    refine T_icmp_ge 65 (am_dec tX12_stepGoes_0 26 rfl) rfl (fun h38 => ?_) (fun h38 => by exfalso; omega)
    refine T_weak (ls' := [some (aR b), some (aI t), none, none, none]) (am_sub_s (am_sub_s (am_sub_n (am_sub_n (am_sub_n am_sub_nil))))) ?_
    exact k9 q rfl
  | succ n ih =>
    intro v2 q hi9 h0i k9
    obtain ⟨vl10, vu10⟩ := MdV_10 hV
    obtain ⟨vl11, vu11⟩ := MdV_11 hV
    refine T_iload_n (am_dec tX12_stepGoes_0 23 rfl) rfl ?_
    refine T_aload_n (am_dec tX12_stepGoes_0 24 rfl) rfl ?_
    refine T_getfield 11 45 (am_dec tX12_stepGoes_0 25 rfl) flX12_289_11 (md_obj hl) rfl ?_
    refine T_icmp_ge 65 (am_dec tX12_stepGoes_0 26 rfl) rfl (fun h38 => by exfalso; omega) (fun h38 => ?_)
    refine T_aload_n (am_dec tX12_stepGoes_0 27 rfl) rfl ?_
    refine T_getfield 11 39 (am_dec tX12_stepGoes_0 28 rfl) flX12_97_11 (md_obj hl) rfl ?_
    refine T_iload_n (am_dec tX12_stepGoes_0 29 rfl) rfl ?_
    refine T_aaloadR (r := b + (243 + v2.toNat)) (am_dec tX12_stepGoes_0 30 rfl) (by decide) (mh_burned hl) (by omega) (by omega) (if_pos (by omega)) ?_
    refine T_iload_n (am_dec tX12_stepGoes_0 31 rfl) rfl ?_
    refine T_iconst 1 (am_dec tX12_stepGoes_0 32 rfl) rfl ⟨by decide, by decide⟩ ?_
    refine T_iadd (t + 1) (am_dec tX12_stepGoes_0 33 rfl) rfl ⟨by omega, by omega⟩ ?_
    refine T_aload_n (am_dec tX12_stepGoes_0 34 rfl) rfl ?_
    refine T_getfield 11 39 (am_dec tX12_stepGoes_0 35 rfl) flX12_97_11 (md_obj hl) rfl ?_
    refine T_iload_n (am_dec tX12_stepGoes_0 36 rfl) rfl ?_
    refine T_aaloadR (r := b + (243 + v2.toNat)) (am_dec tX12_stepGoes_0 37 rfl) (by decide) (mh_burned hl) (by omega) (by omega) (if_pos (by omega)) ?_
    refine T_iload_n (am_dec tX12_stepGoes_0 38 rfl) rfl ?_
    refine T_ialoadE (x := q (243 + v2.toNat) t.toNat) (am_dec tX12_stepGoes_0 39 rfl) (mr_burned hl (i := v2) (by omega) (by omega)) (by omega) (by omega) rfl ?_
    refine T_iastore (am_dec tX12_stepGoes_1 0 rfl) (mr_burned hl (i := v2) (by omega) (by omega)) (by omega) (by omega) ?_
    refine am_wE (w2 := mdW w b c (am_put q (243 + v2.toNat) ((t + 1).toNat) (q (243 + v2.toNat) t.toNat))) (md_pq (by omega) (fun f g => md_t_burned f g (by omega))) ?_
    refine T_iinc (ls' := [some (aR b), some (aI t), some (aI (v2 + 1)), none, none]) (v2 + 1) (am_dec tX12_stepGoes_1 1 rfl) rfl rfl ⟨by omega, by omega⟩ (by decide) rfl ?_
    refine T_goto 33 (am_dec tX12_stepGoes_1 2 rfl) rfl ?_
    have e9 : (g_k_stepGoes_33 t) v2 q = (am_put q (243 + v2.toNat) ((t + 1).toNat) (q (243 + v2.toNat) t.toNat)) := rfl
    simp only [am_fold_s, e9] at k9
    exact ih (v2 + 1) (am_put q (243 + v2.toNat) ((t + 1).toNat) (q (243 + v2.toNat) t.toNat)) (by omega) (by omega) k9
def g_k_stepGoes_72 (c : am_F) (t : Int) (v2 : Int) (q : am_F) : am_F := (if c (82 + v2.toNat) 0 = t then k_mixes c q v2 else q)
theorem L_k_stepGoes_72 {S : am_S} {d u : Nat} {Q : AO → AH → Prop} {w : AH} {b : Nat} (hl : b + 735 ≤ w.length) (c : am_F) (t : Int) (hV : MdV c) (hWd : MdWd c) (hS9 : MdS c) (hLp : MdLp c) (hDu : MdDu c) (ht : 0 ≤ t ∧ t < 40)  (hd : 3 ≤ d) (B9 : Int) (hB : B9 = c 4 10) : ∀ (n : Nat) (v2 : Int) (q : am_F), v2 + n = B9 → 0 ≤ v2 → (∀ (q' : am_F), q' = am_fold (g_k_stepGoes_72 c t) v2 n q → am_T S zX12_stepGoes d u Q 111 [some (aR b), some (aI t), none, none, none] [] (mdW w b c q')) → am_T S zX12_stepGoes d u Q 72 [some (aR b), some (aI t), some (aI v2), none, none] [] (mdW w b c q) := by
  intro n
  induction n with
  | zero =>
    intro v2 q hi9 h0i k9
    have e9 : v2 = B9 := by omega
    subst e9
    obtain ⟨vl10, vu10⟩ := MdV_10 hV
    obtain ⟨vl11, vu11⟩ := MdV_11 hV
    refine T_iload_n (am_dec tX12_stepGoes_1 8 rfl) rfl ?_
    refine T_aload_n (am_dec tX12_stepGoes_1 9 rfl) rfl ?_
    refine T_getfield 11 11 (am_dec tX12_stepGoes_1 10 rfl) flX12_23_11 (md_obj hl) rfl ?_
    refine T_bipush 10 (am_dec tX12_stepGoes_1 11 rfl) rfl ⟨by decide, by decide⟩ ?_
    refine T_ialoadE (x := c 4 10) (am_dec tX12_stepGoes_1 12 rfl) (md_told hl) (by omega) (by omega) rfl ?_
    refine T_icmp_ge 111 (am_dec tX12_stepGoes_1 13 rfl) rfl (fun h80 => ?_) (fun h80 => by exfalso; omega)
    refine T_weak (ls' := [some (aR b), some (aI t), none, none, none]) (am_sub_s (am_sub_s (am_sub_n (am_sub_n (am_sub_n am_sub_nil))))) ?_
    exact k9 q rfl
  | succ n ih =>
    intro v2 q hi9 h0i k9
    obtain ⟨vl10, vu10⟩ := MdV_10 hV
    obtain ⟨vl11, vu11⟩ := MdV_11 hV
    refine T_iload_n (am_dec tX12_stepGoes_1 8 rfl) rfl ?_
    refine T_aload_n (am_dec tX12_stepGoes_1 9 rfl) rfl ?_
    refine T_getfield 11 11 (am_dec tX12_stepGoes_1 10 rfl) flX12_23_11 (md_obj hl) rfl ?_
    refine T_bipush 10 (am_dec tX12_stepGoes_1 11 rfl) rfl ⟨by decide, by decide⟩ ?_
    refine T_ialoadE (x := c 4 10) (am_dec tX12_stepGoes_1 12 rfl) (md_told hl) (by omega) (by omega) rfl ?_
    refine T_icmp_ge 111 (am_dec tX12_stepGoes_1 13 rfl) rfl (fun h80 => by exfalso; omega) (fun h80 => ?_)
    refine T_aload_n (am_dec tX12_stepGoes_1 14 rfl) rfl ?_
    refine T_getfield 11 21 (am_dec tX12_stepGoes_1 15 rfl) flX12_55_11 (md_obj hl) rfl ?_
    refine T_iload_n (am_dec tX12_stepGoes_1 16 rfl) rfl ?_
    refine T_aaloadR (r := b + (82 + v2.toNat)) (am_dec tX12_stepGoes_1 17 rfl) (by decide) (mh_steamer hl) (by omega) (by omega) (if_pos (by omega)) ?_
    refine T_iconst 0 (am_dec tX12_stepGoes_1 18 rfl) rfl ⟨by decide, by decide⟩ ?_
    refine T_ialoadE (x := c (82 + v2.toNat) 0) (am_dec tX12_stepGoes_1 19 rfl) (mr_steamer hl (i := v2) (by omega) (by omega)) (by omega) (by omega) rfl ?_
    refine T_iload_n (am_dec tX12_stepGoes_1 20 rfl) rfl ?_
    have K92 : ∀ (q92 : am_F), q92 = (if c (82 + v2.toNat) 0 = t then k_mixes c q v2 else q) →  am_T S zX12_stepGoes d u Q 105 [some (aR b), some (aI t), some (aI v2), none, none] [] (mdW w b c q92) := by
      intro q92 hq92
      refine T_iinc (ls' := [some (aR b), some (aI t), some (aI (v2 + 1)), none, none]) (v2 + 1) (am_dec tX12_stepGoes_1 28 rfl) rfl rfl ⟨by omega, by omega⟩ (by decide) rfl ?_
      refine T_goto 72 (am_dec tX12_stepGoes_1 29 rfl) rfl ?_
      have e9 : (g_k_stepGoes_72 c t) v2 q = q92 := (by have s9 := hq92.symm; subst s9; exact rfl)
      simp only [am_fold_s, e9] at k9
      exact ih (v2 + 1) q92 (by omega) (by omega) k9
    refine T_icmp_ne 105 (am_dec tX12_stepGoes_1 21 rfl) rfl (fun h92 => ?_) (fun h92 => ?_)
    · exact K92 _ (if_neg h92).symm
    · refine T_aload_n (am_dec tX12_stepGoes_1 22 rfl) rfl ?_
      refine T_aload_n (am_dec tX12_stepGoes_1 23 rfl) rfl ?_
      refine T_getfield 11 21 (am_dec tX12_stepGoes_1 24 rfl) flX12_55_11 (md_obj hl) rfl ?_
      refine T_iload_n (am_dec tX12_stepGoes_1 25 rfl) rfl ?_
      refine T_aaloadR (r := b + (82 + v2.toNat)) (am_dec tX12_stepGoes_1 26 rfl) (by decide) (mh_steamer hl) (by omega) (by omega) (if_pos (by omega)) ?_
      have hs102 := hS9 v2 (by omega) (by omega)
      refine T_callV (as := [aR (b + (82 + v2.toNat))]) rfl (am_dec tX12_stepGoes_1 27 rfl) lkX12_330 (md_obj hl) rfl rfl (Nat.le_of_ble_eq_true rfl) (by omega) (mk_mixes (d := d - 1) hl  v2 hV (by omega) (by omega) (by omega)) (fun _ => ?_)
      refine T_nmH (W := fun x9 => mdW w b c x9) (v := k_mixes c q v2) (fun q102 hq102 => ?_)
      exact K92 _ (by have s9 := hq102.symm; subst s9; exact (if_pos h92).symm)
def g_k_stepGoes_113 (t : Int) (v2 : Int) (q : am_F) : am_F := (let t127 : Int := (if q 265 v2.toNat ≤ 99 then 0 else (am_w32 ((q 265 v2.toNat) - 99))); (am_put (am_put q 265 v2.toNat (am_w32 ((q 265 v2.toNat) - t127))) (201 + (t + 1).toNat) 1 (am_w32 ((q (201 + (t + 1).toNat) 1) + t127))))
theorem L_k_stepGoes_113 {S : am_S} {d u : Nat} {Q : AO → AH → Prop} {w : AH} {b : Nat} (hl : b + 735 ≤ w.length) (c : am_F) (t : Int) (hV : MdV c) (hWd : MdWd c) (hS9 : MdS c) (hLp : MdLp c) (hDu : MdDu c) (ht : 0 ≤ t ∧ t < 40)  (hd : 3 ≤ d) (B9 : Int) (hB : B9 = 81) : ∀ (n : Nat) (v2 : Int) (q : am_F), v2 + n = B9 → 0 ≤ v2 → (∀ (q' : am_F), q' = am_fold (g_k_stepGoes_113 t) v2 n q → am_T S zX12_stepGoes d u Q 174 [some (aR b), some (aI t), none, none, none] [] (mdW w b c q')) → am_T S zX12_stepGoes d u Q 113 [some (aR b), some (aI t), some (aI v2), none, none] [] (mdW w b c q) := by
  intro n
  induction n with
  | zero =>
    intro v2 q hi9 h0i k9
    have e9 : v2 = B9 := by omega
    subst e9
    obtain ⟨vl10, vu10⟩ := MdV_10 hV
    obtain ⟨vl11, vu11⟩ := MdV_11 hV
    refine T_iload_n (am_dec tX12_stepGoes_1 32 rfl) rfl ?_
    refine T_bipush 81 (am_dec tX12_stepGoes_1 33 rfl) rfl ⟨by decide, by decide⟩ ?_
    refine T_icmp_ge 174 (am_dec tX12_stepGoes_1 34 rfl) rfl (fun h116 => ?_) (fun h116 => by exfalso; omega)
    refine T_weak (ls' := [some (aR b), some (aI t), none, none, none]) (am_sub_s (am_sub_s (am_sub_n (am_sub_n (am_sub_n am_sub_nil))))) ?_
    exact k9 q rfl
  | succ n ih =>
    intro v2 q hi9 h0i k9
    obtain ⟨vl10, vu10⟩ := MdV_10 hV
    obtain ⟨vl11, vu11⟩ := MdV_11 hV
    refine T_iload_n (am_dec tX12_stepGoes_1 32 rfl) rfl ?_
    refine T_bipush 81 (am_dec tX12_stepGoes_1 33 rfl) rfl ⟨by decide, by decide⟩ ?_
    refine T_icmp_ge 174 (am_dec tX12_stepGoes_1 34 rfl) rfl (fun h116 => by exfalso; omega) (fun h116 => ?_)
    refine T_aload_n (am_dec tX12_stepGoes_1 35 rfl) rfl ?_
    refine T_getfield 11 42 (am_dec tX12_stepGoes_1 36 rfl) flX12_106_11 (md_obj hl) rfl ?_
    refine T_iload_n (am_dec tX12_stepGoes_1 37 rfl) rfl ?_
    refine T_ialoadE (x := q 265 v2.toNat) (am_dec tX12_stepGoes_1 38 rfl) (md_now hl) (by omega) (by omega) rfl ?_
    refine T_bipush 99 (am_dec tX12_stepGoes_1 39 rfl) rfl ⟨by decide, by decide⟩ ?_
    have K127 : ∀ (t127 : Int), t127 = (if q 265 v2.toNat ≤ 99 then 0 else (am_w32 ((q 265 v2.toNat) - 99))) →  am_T S zX12_stepGoes d u Q 143 [some (aR b), some (aI t), some (aI v2), none, none] [aI t127] (mdW w b c q) := by
      intro t127 ht127
      refine T_istore_n (ls' := [some (aR b), some (aI t), some (aI v2), some (aI t127), none]) (am_dec tX12_stepGoes_2 9 rfl) (by decide) rfl ?_
      refine T_aload_n (am_dec tX12_stepGoes_2 10 rfl) rfl ?_
      refine T_getfield 11 42 (am_dec tX12_stepGoes_2 11 rfl) flX12_106_11 (md_obj hl) rfl ?_
      refine T_iload_n (am_dec tX12_stepGoes_2 12 rfl) rfl ?_
      refine T_dup2 (am_dec tX12_stepGoes_2 13 rfl) rfl rfl ?_
      refine T_ialoadE (x := q 265 v2.toNat) (am_dec tX12_stepGoes_2 14 rfl) (md_now hl) (by omega) (by omega) rfl ?_
      refine T_iload_n (am_dec tX12_stepGoes_2 15 rfl) rfl ?_
      refine T_isubW (am_w32 ((q 265 v2.toNat) - t127)) (am_dec tX12_stepGoes_2 16 rfl) (am_w32e _).symm (am_w32r _) ?_
      refine T_iastore (am_dec tX12_stepGoes_2 17 rfl) (md_now hl) (by omega) (by omega) ?_
      refine am_wE (w2 := mdW w b c (am_put q 265 v2.toNat (am_w32 ((q 265 v2.toNat) - t127)))) (md_pq (Nat.le_of_ble_eq_true rfl) (fun _ _ => rfl)) ?_
      refine T_aload_n (am_dec tX12_stepGoes_2 18 rfl) rfl ?_
      refine T_getfield 11 38 (am_dec tX12_stepGoes_2 19 rfl) flX12_94_11 (md_obj hl) rfl ?_
      refine T_iload_n (am_dec tX12_stepGoes_2 20 rfl) rfl ?_
      refine T_iconst 1 (am_dec tX12_stepGoes_2 21 rfl) rfl ⟨by decide, by decide⟩ ?_
      refine T_iadd (t + 1) (am_dec tX12_stepGoes_2 22 rfl) rfl ⟨by omega, by omega⟩ ?_
      refine T_aaloadR (r := b + (201 + (t + 1).toNat)) (am_dec tX12_stepGoes_2 23 rfl) (by decide) (mh_sums hl) (by omega) (by omega) (if_pos (by omega)) ?_
      refine T_iconst 1 (am_dec tX12_stepGoes_2 24 rfl) rfl ⟨by decide, by decide⟩ ?_
      refine T_dup2 (am_dec tX12_stepGoes_2 25 rfl) rfl rfl ?_
      refine T_ialoadE (x := q (201 + (t + 1).toNat) 1) (am_dec tX12_stepGoes_2 26 rfl) (mr_sums hl (i := (t + 1)) (by omega) (by omega)) (by omega) (by omega) (am_put_k (by omega)) ?_
      refine T_iload_n (am_dec tX12_stepGoes_2 27 rfl) rfl ?_
      refine T_iaddW (am_w32 ((q (201 + (t + 1).toNat) 1) + t127)) (am_dec tX12_stepGoes_2 28 rfl) (am_w32e _).symm (am_w32r _) ?_
      refine T_iastore (am_dec tX12_stepGoes_2 29 rfl) (mr_sums hl (i := (t + 1)) (by omega) (by omega)) (by omega) (by omega) ?_
      refine am_wE (w2 := mdW w b c (am_put (am_put q 265 v2.toNat (am_w32 ((q 265 v2.toNat) - t127))) (201 + (t + 1).toNat) 1 (am_w32 ((q (201 + (t + 1).toNat) 1) + t127)))) (md_pq (by omega) (fun f g => md_t_sums f g (by omega))) ?_
      refine T_iinc (ls' := [some (aR b), some (aI t), some (aI (v2 + 1)), some (aI t127), none]) (v2 + 1) (am_dec tX12_stepGoes_2 30 rfl) rfl rfl ⟨by omega, by omega⟩ (by decide) rfl ?_
      refine T_goto 113 (am_dec tX12_stepGoes_2 31 rfl) rfl ?_
      refine T_weak (ls' := [some (aR b), some (aI t), some (aI (v2 + 1)), none, none]) (am_sub_s (am_sub_s (am_sub_s (am_sub_n (am_sub_n am_sub_nil))))) ?_
      have e9 : (g_k_stepGoes_113 t) v2 q = (am_put (am_put q 265 v2.toNat (am_w32 ((q 265 v2.toNat) - t127))) (201 + (t + 1).toNat) 1 (am_w32 ((q (201 + (t + 1).toNat) 1) + t127))) := (by have s9 := ht127.symm; subst s9; exact rfl)
      simp only [am_fold_s, e9] at k9
      exact ih (v2 + 1) (am_put (am_put q 265 v2.toNat (am_w32 ((q 265 v2.toNat) - t127))) (201 + (t + 1).toNat) 1 (am_w32 ((q (201 + (t + 1).toNat) 1) + t127))) (by omega) (by omega) k9
    refine T_icmp_le 142 (am_dec tX12_stepGoes_2 0 rfl) rfl (fun h127 => ?_) (fun h127 => ?_)
    · refine T_iconst 0 (am_dec tX12_stepGoes_2 8 rfl) rfl ⟨by decide, by decide⟩ ?_
      exact K127 _ (if_pos h127).symm
    · refine T_aload_n (am_dec tX12_stepGoes_2 1 rfl) rfl ?_
      refine T_getfield 11 42 (am_dec tX12_stepGoes_2 2 rfl) flX12_106_11 (md_obj hl) rfl ?_
      refine T_iload_n (am_dec tX12_stepGoes_2 3 rfl) rfl ?_
      refine T_ialoadE (x := q 265 v2.toNat) (am_dec tX12_stepGoes_2 4 rfl) (md_now hl) (by omega) (by omega) rfl ?_
      refine T_bipush 99 (am_dec tX12_stepGoes_2 5 rfl) rfl ⟨by decide, by decide⟩ ?_
      refine T_isubW (am_w32 ((q 265 v2.toNat) - 99)) (am_dec tX12_stepGoes_2 6 rfl) (am_w32e _).symm (am_w32r _) ?_
      refine T_goto 143 (am_dec tX12_stepGoes_2 7 rfl) rfl ?_
      exact K127 _ (if_neg h127).symm
def g_k_stepGoes_176 (c : am_F) (t : Int) (v2 : Int) (q : am_F) : am_F := k_burns c q v2 t
theorem L_k_stepGoes_176 {S : am_S} {d u : Nat} {Q : AO → AH → Prop} {w : AH} {b : Nat} (hl : b + 735 ≤ w.length) (c : am_F) (t : Int) (hV : MdV c) (hWd : MdWd c) (hS9 : MdS c) (hLp : MdLp c) (hDu : MdDu c) (ht : 0 ≤ t ∧ t < 40)  (hd : 3 ≤ d) (B9 : Int) (hB : B9 = c 0 45) : ∀ (n : Nat) (v2 : Int) (q : am_F), v2 + n = B9 → 0 ≤ v2 → (∀ (q' : am_F), q' = am_fold (g_k_stepGoes_176 c t) v2 n q → am_T S zX12_stepGoes d u Q 196 [some (aR b), some (aI t), none, none, none] [] (mdW w b c q')) → am_T S zX12_stepGoes d u Q 176 [some (aR b), some (aI t), some (aI v2), none, none] [] (mdW w b c q) := by
  intro n
  induction n with
  | zero =>
    intro v2 q hi9 h0i k9
    have e9 : v2 = B9 := by omega
    subst e9
    obtain ⟨vl10, vu10⟩ := MdV_10 hV
    obtain ⟨vl11, vu11⟩ := MdV_11 hV
    refine T_iload_n (am_dec tX12_stepGoes_2 34 rfl) rfl ?_
    refine T_aload_n (am_dec tX12_stepGoes_2 35 rfl) rfl ?_
    refine T_getfield 11 45 (am_dec tX12_stepGoes_2 36 rfl) flX12_289_11 (md_obj hl) rfl ?_
    refine T_icmp_ge 196 (am_dec tX12_stepGoes_2 37 rfl) rfl (fun h181 => ?_) (fun h181 => by exfalso; omega)
    refine T_weak (ls' := [some (aR b), some (aI t), none, none, none]) (am_sub_s (am_sub_s (am_sub_n (am_sub_n (am_sub_n am_sub_nil))))) ?_
    exact k9 q rfl
  | succ n ih =>
    intro v2 q hi9 h0i k9
    obtain ⟨vl10, vu10⟩ := MdV_10 hV
    obtain ⟨vl11, vu11⟩ := MdV_11 hV
    refine T_iload_n (am_dec tX12_stepGoes_2 34 rfl) rfl ?_
    refine T_aload_n (am_dec tX12_stepGoes_2 35 rfl) rfl ?_
    refine T_getfield 11 45 (am_dec tX12_stepGoes_2 36 rfl) flX12_289_11 (md_obj hl) rfl ?_
    refine T_icmp_ge 196 (am_dec tX12_stepGoes_2 37 rfl) rfl (fun h181 => by exfalso; omega) (fun h181 => ?_)
    refine T_aload_n (am_dec tX12_stepGoes_2 38 rfl) rfl ?_
    refine T_iload_n (am_dec tX12_stepGoes_2 39 rfl) rfl ?_
    refine T_iload_n (am_dec tX12_stepGoes_3 0 rfl) rfl ?_
    have hs187 := hLp v2 (by omega) (by omega)
    refine T_callV (as := [aI v2, aI t]) rfl (am_dec tX12_stepGoes_3 1 rfl) lkX12_333 (md_obj hl) rfl rfl (Nat.le_of_ble_eq_true rfl) (by omega) (mk_burns (d := d - 1) hl v2 t  hV (by omega) (by omega) (by omega) (by omega)) (fun _ => ?_)
    refine T_nmH (W := fun x9 => mdW w b c x9) (v := k_burns c q v2 t) (fun q187 hq187 => ?_)
    refine T_iinc (ls' := [some (aR b), some (aI t), some (aI (v2 + 1)), none, none]) (v2 + 1) (am_dec tX12_stepGoes_3 2 rfl) rfl rfl ⟨by omega, by omega⟩ (by decide) rfl ?_
    refine T_goto 176 (am_dec tX12_stepGoes_3 3 rfl) rfl ?_
    have e9 : (g_k_stepGoes_176 c t) v2 q = q187 := (by have s9 := hq187.symm; subst s9; exact rfl)
    simp only [am_fold_s, e9] at k9
    exact ih (v2 + 1) q187 (by omega) (by omega) k9
def g_k_stepGoes_204 (t : Int) (v2 : Int) (v3 : Int) (q : am_F) : am_F := (let v4_220 : Int := (k_less v2 (q 265 v3.toNat)); (am_put (am_put q 265 v3.toNat (am_w32 ((q 265 v3.toNat) - v4_220))) (201 + (t + 1).toNat) 3 (am_w32 ((q (201 + (t + 1).toNat) 3) + v4_220))))
theorem L_k_stepGoes_204 {S : am_S} {d u : Nat} {Q : AO → AH → Prop} {w : AH} {b : Nat} (hl : b + 735 ≤ w.length) (c : am_F) (t : Int) (v2 : Int) (hV : MdV c) (hWd : MdWd c) (hS9 : MdS c) (hLp : MdLp c) (hDu : MdDu c) (ht : 0 ≤ t ∧ t < 40)  (hd : 3 ≤ d) (B9 : Int) (hB : B9 = 81) : ∀ (n : Nat) (v3 : Int) (q : am_F), v3 + n = B9 → 0 ≤ v3 → (∀ (q' : am_F), q' = am_fold (g_k_stepGoes_204 t v2) v3 n q → am_T S zX12_stepGoes d u Q 254 [some (aR b), some (aI t), none, none, none] [] (mdW w b c q')) → am_T S zX12_stepGoes d u Q 204 [some (aR b), some (aI t), some (aI v2), some (aI v3), none] [] (mdW w b c q) := by
  intro n
  induction n with
  | zero =>
    intro v3 q hi9 h0i k9
    have e9 : v3 = B9 := by omega
    subst e9
    obtain ⟨vl10, vu10⟩ := MdV_10 hV
    obtain ⟨vl11, vu11⟩ := MdV_11 hV
    refine T_iload_n (am_dec tX12_stepGoes_3 10 rfl) rfl ?_
    refine T_bipush 81 (am_dec tX12_stepGoes_3 11 rfl) rfl ⟨by decide, by decide⟩ ?_
    refine T_icmp_ge 254 (am_dec tX12_stepGoes_3 12 rfl) rfl (fun h207 => ?_) (fun h207 => by exfalso; omega)
    refine T_weak (ls' := [some (aR b), some (aI t), none, none, none]) (am_sub_s (am_sub_s (am_sub_n (am_sub_n (am_sub_n am_sub_nil))))) ?_
    exact k9 q rfl
  | succ n ih =>
    intro v3 q hi9 h0i k9
    obtain ⟨vl10, vu10⟩ := MdV_10 hV
    obtain ⟨vl11, vu11⟩ := MdV_11 hV
    refine T_iload_n (am_dec tX12_stepGoes_3 10 rfl) rfl ?_
    refine T_bipush 81 (am_dec tX12_stepGoes_3 11 rfl) rfl ⟨by decide, by decide⟩ ?_
    refine T_icmp_ge 254 (am_dec tX12_stepGoes_3 12 rfl) rfl (fun h207 => by exfalso; omega) (fun h207 => ?_)
    refine T_iload_n (am_dec tX12_stepGoes_3 13 rfl) rfl ?_
    refine T_aload_n (am_dec tX12_stepGoes_3 14 rfl) rfl ?_
    refine T_getfield 11 42 (am_dec tX12_stepGoes_3 15 rfl) flX12_106_11 (md_obj hl) rfl ?_
    refine T_iload_n (am_dec tX12_stepGoes_3 16 rfl) rfl ?_
    refine T_ialoadE (x := q 265 v3.toNat) (am_dec tX12_stepGoes_3 17 rfl) (md_now hl) (by omega) (by omega) rfl ?_
    refine T_callS (as := [aI v2, aI (q 265 v3.toNat)]) rfl (am_dec tX12_stepGoes_3 18 rfl) lkX12_268 rfl (Nat.le_of_ble_eq_true rfl) (by omega) (mk_less (d := d - 1)  v2 (q 265 v3.toNat)   ) (fun _ => ?_)
    refine T_nm (fun v4_220 hv4_220 => ?_)
    refine T_istore (ls' := [some (aR b), some (aI t), some (aI v2), some (aI v3), some (aI v4_220)]) (am_dec tX12_stepGoes_3 19 rfl) (by decide) rfl ?_
    refine T_aload_n (am_dec tX12_stepGoes_3 20 rfl) rfl ?_
    refine T_getfield 11 42 (am_dec tX12_stepGoes_3 21 rfl) flX12_106_11 (md_obj hl) rfl ?_
    refine T_iload_n (am_dec tX12_stepGoes_3 22 rfl) rfl ?_
    refine T_dup2 (am_dec tX12_stepGoes_3 23 rfl) rfl rfl ?_
    refine T_ialoadE (x := q 265 v3.toNat) (am_dec tX12_stepGoes_3 24 rfl) (md_now hl) (by omega) (by omega) rfl ?_
    refine T_iload (am_dec tX12_stepGoes_3 25 rfl) rfl ?_
    refine T_isubW (am_w32 ((q 265 v3.toNat) - v4_220)) (am_dec tX12_stepGoes_3 26 rfl) (am_w32e _).symm (am_w32r _) ?_
    refine T_iastore (am_dec tX12_stepGoes_3 27 rfl) (md_now hl) (by omega) (by omega) ?_
    refine am_wE (w2 := mdW w b c (am_put q 265 v3.toNat (am_w32 ((q 265 v3.toNat) - v4_220)))) (md_pq (Nat.le_of_ble_eq_true rfl) (fun _ _ => rfl)) ?_
    refine T_aload_n (am_dec tX12_stepGoes_3 28 rfl) rfl ?_
    refine T_getfield 11 38 (am_dec tX12_stepGoes_3 29 rfl) flX12_94_11 (md_obj hl) rfl ?_
    refine T_iload_n (am_dec tX12_stepGoes_3 30 rfl) rfl ?_
    refine T_iconst 1 (am_dec tX12_stepGoes_3 31 rfl) rfl ⟨by decide, by decide⟩ ?_
    refine T_iadd (t + 1) (am_dec tX12_stepGoes_3 32 rfl) rfl ⟨by omega, by omega⟩ ?_
    refine T_aaloadR (r := b + (201 + (t + 1).toNat)) (am_dec tX12_stepGoes_3 33 rfl) (by decide) (mh_sums hl) (by omega) (by omega) (if_pos (by omega)) ?_
    refine T_iconst 3 (am_dec tX12_stepGoes_3 34 rfl) rfl ⟨by decide, by decide⟩ ?_
    refine T_dup2 (am_dec tX12_stepGoes_3 35 rfl) rfl rfl ?_
    refine T_ialoadE (x := q (201 + (t + 1).toNat) 3) (am_dec tX12_stepGoes_3 36 rfl) (mr_sums hl (i := (t + 1)) (by omega) (by omega)) (by omega) (by omega) (am_put_k (by omega)) ?_
    refine T_iload (am_dec tX12_stepGoes_3 37 rfl) rfl ?_
    refine T_iaddW (am_w32 ((q (201 + (t + 1).toNat) 3) + v4_220)) (am_dec tX12_stepGoes_3 38 rfl) (am_w32e _).symm (am_w32r _) ?_
    refine T_iastore (am_dec tX12_stepGoes_3 39 rfl) (mr_sums hl (i := (t + 1)) (by omega) (by omega)) (by omega) (by omega) ?_
    refine am_wE (w2 := mdW w b c (am_put (am_put q 265 v3.toNat (am_w32 ((q 265 v3.toNat) - v4_220))) (201 + (t + 1).toNat) 3 (am_w32 ((q (201 + (t + 1).toNat) 3) + v4_220)))) (md_pq (by omega) (fun f g => md_t_sums f g (by omega))) ?_
    refine T_iinc (ls' := [some (aR b), some (aI t), some (aI v2), some (aI (v3 + 1)), some (aI v4_220)]) (v3 + 1) (am_dec tX12_stepGoes_4 0 rfl) rfl rfl ⟨by omega, by omega⟩ (by decide) rfl ?_
    refine T_goto 204 (am_dec tX12_stepGoes_4 1 rfl) rfl ?_
    refine T_weak (ls' := [some (aR b), some (aI t), some (aI v2), some (aI (v3 + 1)), none]) (am_sub_s (am_sub_s (am_sub_s (am_sub_s (am_sub_n am_sub_nil))))) ?_
    have e9 : (g_k_stepGoes_204 t v2) v3 q = (am_put (am_put q 265 v3.toNat (am_w32 ((q 265 v3.toNat) - v4_220))) (201 + (t + 1).toNat) 3 (am_w32 ((q (201 + (t + 1).toNat) 3) + v4_220))) := (by have s9 := hv4_220.symm; subst s9; exact rfl)
    simp only [am_fold_s, e9] at k9
    exact ih (v3 + 1) (am_put (am_put q 265 v3.toNat (am_w32 ((q 265 v3.toNat) - v4_220))) (201 + (t + 1).toNat) 3 (am_w32 ((q (201 + (t + 1).toNat) 3) + v4_220))) (by omega) (by omega) k9
def g_k_stepGoes_285 (t : Int) (v3 : Int) (q : am_F) : am_F := (am_put (am_put q (159 + (t + 1).toNat) v3.toNat (q 265 v3.toNat)) (201 + (t + 1).toNat) 0 (am_w32 ((q (201 + (t + 1).toNat) 0) + (q 265 v3.toNat))))
theorem L_k_stepGoes_285 {S : am_S} {d u : Nat} {Q : AO → AH → Prop} {w : AH} {b : Nat} (hl : b + 735 ≤ w.length) (c : am_F) (t : Int) (hV : MdV c) (hWd : MdWd c) (hS9 : MdS c) (hLp : MdLp c) (hDu : MdDu c) (ht : 0 ≤ t ∧ t < 40)  (hd : 3 ≤ d) (B9 : Int) (hB : B9 = 81) : ∀ (n : Nat) (v3 : Int) (q : am_F), v3 + n = B9 → 0 ≤ v3 → (∀ (q' : am_F), q' = am_fold (g_k_stepGoes_285 t) v3 n q → am_T S zX12_stepGoes d u Q 332 [none, none, none, none, none] [] (mdW w b c q')) → am_T S zX12_stepGoes d u Q 285 [some (aR b), some (aI t), none, some (aI v3), none] [] (mdW w b c q) := by
  intro n
  induction n with
  | zero =>
    intro v3 q hi9 h0i k9
    have e9 : v3 = B9 := by omega
    subst e9
    obtain ⟨vl10, vu10⟩ := MdV_10 hV
    obtain ⟨vl11, vu11⟩ := MdV_11 hV
    refine T_iload_n (am_dec tX12_stepGoes_4 23 rfl) rfl ?_
    refine T_bipush 81 (am_dec tX12_stepGoes_4 24 rfl) rfl ⟨by decide, by decide⟩ ?_
    refine T_icmp_ge 332 (am_dec tX12_stepGoes_4 25 rfl) rfl (fun h288 => ?_) (fun h288 => by exfalso; omega)
    refine T_weak (ls' := [none, none, none, none, none]) (am_sub_n (am_sub_n (am_sub_n (am_sub_n (am_sub_n am_sub_nil))))) ?_
    exact k9 q rfl
  | succ n ih =>
    intro v3 q hi9 h0i k9
    obtain ⟨vl10, vu10⟩ := MdV_10 hV
    obtain ⟨vl11, vu11⟩ := MdV_11 hV
    refine T_iload_n (am_dec tX12_stepGoes_4 23 rfl) rfl ?_
    refine T_bipush 81 (am_dec tX12_stepGoes_4 24 rfl) rfl ⟨by decide, by decide⟩ ?_
    refine T_icmp_ge 332 (am_dec tX12_stepGoes_4 25 rfl) rfl (fun h288 => by exfalso; omega) (fun h288 => ?_)
    refine T_aload_n (am_dec tX12_stepGoes_4 26 rfl) rfl ?_
    refine T_getfield 11 37 (am_dec tX12_stepGoes_4 27 rfl) flX12_91_11 (md_obj hl) rfl ?_
    refine T_iload_n (am_dec tX12_stepGoes_4 28 rfl) rfl ?_
    refine T_iconst 1 (am_dec tX12_stepGoes_4 29 rfl) rfl ⟨by decide, by decide⟩ ?_
    refine T_iadd (t + 1) (am_dec tX12_stepGoes_4 30 rfl) rfl ⟨by omega, by omega⟩ ?_
    refine T_aaloadR (r := b + (159 + (t + 1).toNat)) (am_dec tX12_stepGoes_4 31 rfl) (by decide) (mh_fog hl) (by omega) (by omega) (if_pos (by omega)) ?_
    refine T_iload_n (am_dec tX12_stepGoes_4 32 rfl) rfl ?_
    refine T_aload_n (am_dec tX12_stepGoes_4 33 rfl) rfl ?_
    refine T_getfield 11 42 (am_dec tX12_stepGoes_4 34 rfl) flX12_106_11 (md_obj hl) rfl ?_
    refine T_iload_n (am_dec tX12_stepGoes_4 35 rfl) rfl ?_
    refine T_ialoadE (x := q 265 v3.toNat) (am_dec tX12_stepGoes_4 36 rfl) (md_now hl) (by omega) (by omega) rfl ?_
    refine T_iastore (am_dec tX12_stepGoes_4 37 rfl) (mr_fog hl (i := (t + 1)) (by omega) (by omega)) (by omega) (by omega) ?_
    refine am_wE (w2 := mdW w b c (am_put q (159 + (t + 1).toNat) v3.toNat (q 265 v3.toNat))) (md_pq (by omega) (fun f g => md_t_fog f g (by omega))) ?_
    refine T_aload_n (am_dec tX12_stepGoes_4 38 rfl) rfl ?_
    refine T_getfield 11 38 (am_dec tX12_stepGoes_4 39 rfl) flX12_94_11 (md_obj hl) rfl ?_
    refine T_iload_n (am_dec tX12_stepGoes_5 0 rfl) rfl ?_
    refine T_iconst 1 (am_dec tX12_stepGoes_5 1 rfl) rfl ⟨by decide, by decide⟩ ?_
    refine T_iadd (t + 1) (am_dec tX12_stepGoes_5 2 rfl) rfl ⟨by omega, by omega⟩ ?_
    refine T_aaloadR (r := b + (201 + (t + 1).toNat)) (am_dec tX12_stepGoes_5 3 rfl) (by decide) (mh_sums hl) (by omega) (by omega) (if_pos (by omega)) ?_
    refine T_iconst 0 (am_dec tX12_stepGoes_5 4 rfl) rfl ⟨by decide, by decide⟩ ?_
    refine T_dup2 (am_dec tX12_stepGoes_5 5 rfl) rfl rfl ?_
    refine T_ialoadE (x := q (201 + (t + 1).toNat) 0) (am_dec tX12_stepGoes_5 6 rfl) (mr_sums hl (i := (t + 1)) (by omega) (by omega)) (by omega) (by omega) (am_put_k (by omega)) ?_
    refine T_aload_n (am_dec tX12_stepGoes_5 7 rfl) rfl ?_
    refine T_getfield 11 42 (am_dec tX12_stepGoes_5 8 rfl) flX12_106_11 (md_obj hl) rfl ?_
    refine T_iload_n (am_dec tX12_stepGoes_5 9 rfl) rfl ?_
    refine T_ialoadE (x := q 265 v3.toNat) (am_dec tX12_stepGoes_5 10 rfl) (md_now hl) (by omega) (by omega) (am_put_k (by omega)) ?_
    refine T_iaddW (am_w32 ((q (201 + (t + 1).toNat) 0) + (q 265 v3.toNat))) (am_dec tX12_stepGoes_5 11 rfl) (am_w32e _).symm (am_w32r _) ?_
    refine T_iastore (am_dec tX12_stepGoes_5 12 rfl) (mr_sums hl (i := (t + 1)) (by omega) (by omega)) (by omega) (by omega) ?_
    refine am_wE (w2 := mdW w b c (am_put (am_put q (159 + (t + 1).toNat) v3.toNat (q 265 v3.toNat)) (201 + (t + 1).toNat) 0 (am_w32 ((q (201 + (t + 1).toNat) 0) + (q 265 v3.toNat))))) (md_pq (by omega) (fun f g => md_t_sums f g (by omega))) ?_
    refine T_iinc (ls' := [some (aR b), some (aI t), none, some (aI (v3 + 1)), none]) (v3 + 1) (am_dec tX12_stepGoes_5 13 rfl) rfl rfl ⟨by omega, by omega⟩ (by decide) rfl ?_
    refine T_goto 285 (am_dec tX12_stepGoes_5 14 rfl) rfl ?_
    have e9 : (g_k_stepGoes_285 t) v3 q = (am_put (am_put q (159 + (t + 1).toNat) v3.toNat (q 265 v3.toNat)) (201 + (t + 1).toNat) 0 (am_w32 ((q (201 + (t + 1).toNat) 0) + (q 265 v3.toNat)))) := rfl
    simp only [am_fold_s, e9] at k9
    exact ih (v3 + 1) (am_put (am_put q (159 + (t + 1).toNat) v3.toNat (q 265 v3.toNat)) (201 + (t + 1).toNat) 0 (am_w32 ((q (201 + (t + 1).toNat) 0) + (q 265 v3.toNat)))) (by omega) (by omega) k9
def k_stepGoes (c : am_F) (q : am_F) (t : Int) : am_F := (let q2 : am_F := am_fold (g_k_stepGoes_2 t) 1 3 q; (let q33 : am_F := am_fold (g_k_stepGoes_33 t) 0 (c 0 45).toNat q2; (let q67 : am_F := k_blows c q33 t; (let q72 : am_F := am_fold (g_k_stepGoes_72 c t) 0 (c 4 10).toNat q67; (let q113 : am_F := am_fold (g_k_stepGoes_113 t) 0 81 q72; (let q176 : am_F := am_fold (g_k_stepGoes_176 c t) 0 (c 0 45).toNat q113; (let q204 : am_F := am_fold (g_k_stepGoes_204 t (k_thinAt c t)) 0 81 q176; (let q259 : am_F := (if t = c 0 58 then (am_put q204 265 ((c 0 59).toNat) 0) else q204); am_fold (g_k_stepGoes_285 t) 0 81 (am_put q259 (201 + (t + 1).toNat) 0 0)))))))))
theorem mk_stepGoes {S : am_S} {d u : Nat} {w : AH} {b : Nat} (hl : b + 735 ≤ w.length) {c : am_F} {q : am_F} (t : Int) (hV : MdV c) (hWd : MdWd c) (hS9 : MdS c) (hLp : MdLp c) (hDu : MdDu c) (ht : 0 ≤ t ∧ t < 40) (hd : 3 ≤ d) : am_Out S zX12_stepGoes d u [aR b, aI t] (mdW w b c q) (.inl none) (mdW w b c (k_stepGoes c q t)) := by
  have key : ∀ Q : AO → AH → Prop, Q (.inl none) (mdW w b c (k_stepGoes c q t)) → am_M S zX12_stepGoes d u [aR b, aI t] (mdW w b c q) Q := by
    intro Q hQ
    refine am_body rfl (by decide +kernel) rfl (am_cats_cons rfl ( am_cats_cons rfl (am_cats_nil))) (Nat.le_of_ble_eq_true rfl) (?_ : am_T _ _ _ _ _ 0 [some (aR b), some (aI t), none, none, none] [] (mdW w b c q))
    obtain ⟨vl10, vu10⟩ := MdV_10 hV
    obtain ⟨vl11, vu11⟩ := MdV_11 hV
    refine T_iconst 1 (am_dec tX12_stepGoes_0 0 rfl) rfl ⟨by decide, by decide⟩ ?_
    refine T_istore_n (ls' := [some (aR b), some (aI t), some (aI 1), none, none]) (am_dec tX12_stepGoes_0 1 rfl) (by decide) rfl ?_
    refine L_k_stepGoes_2 hl c t hV hWd hS9 hLp hDu ht  (by omega) _ rfl 3 1 q (by omega) (by omega) (fun q2 hq2 => ?_)
    refine T_iconst 0 (am_dec tX12_stepGoes_0 21 rfl) rfl ⟨by decide, by decide⟩ ?_
    refine T_istore_n (ls' := [some (aR b), some (aI t), some (aI 0), none, none]) (am_dec tX12_stepGoes_0 22 rfl) (by decide) rfl ?_
    refine L_k_stepGoes_33 hl c t hV hWd hS9 hLp hDu ht  (by omega) _ rfl (c 0 45).toNat 0 q2 (by omega) (by omega) (fun q33 hq33 => ?_)
    refine T_aload_n (am_dec tX12_stepGoes_1 3 rfl) rfl ?_
    refine T_iload_n (am_dec tX12_stepGoes_1 4 rfl) rfl ?_
    refine T_callV (as := [aI t]) rfl (am_dec tX12_stepGoes_1 5 rfl) lkX12_327 (md_obj hl) rfl rfl (Nat.le_of_ble_eq_true rfl) (by omega) (mk_blows (d := d - 1) hl t  hV hWd (by omega) (by omega)) (fun _ => ?_)
    refine T_nmH (W := fun x9 => mdW w b c x9) (v := k_blows c q33 t) (fun q67 hq67 => ?_)
    refine T_iconst 0 (am_dec tX12_stepGoes_1 6 rfl) rfl ⟨by decide, by decide⟩ ?_
    refine T_istore_n (ls' := [some (aR b), some (aI t), some (aI 0), none, none]) (am_dec tX12_stepGoes_1 7 rfl) (by decide) rfl ?_
    refine L_k_stepGoes_72 hl c t hV hWd hS9 hLp hDu ht  (by omega) _ rfl (c 4 10).toNat 0 q67 (by omega) (by omega) (fun q72 hq72 => ?_)
    refine T_iconst 0 (am_dec tX12_stepGoes_1 30 rfl) rfl ⟨by decide, by decide⟩ ?_
    refine T_istore_n (ls' := [some (aR b), some (aI t), some (aI 0), none, none]) (am_dec tX12_stepGoes_1 31 rfl) (by decide) rfl ?_
    refine L_k_stepGoes_113 hl c t hV hWd hS9 hLp hDu ht  (by omega) _ rfl 81 0 q72 (by omega) (by omega) (fun q113 hq113 => ?_)
    refine T_iconst 0 (am_dec tX12_stepGoes_2 32 rfl) rfl ⟨by decide, by decide⟩ ?_
    refine T_istore_n (ls' := [some (aR b), some (aI t), some (aI 0), none, none]) (am_dec tX12_stepGoes_2 33 rfl) (by decide) rfl ?_
    refine L_k_stepGoes_176 hl c t hV hWd hS9 hLp hDu ht  (by omega) _ rfl (c 0 45).toNat 0 q113 (by omega) (by omega) (fun q176 hq176 => ?_)
    refine T_aload_n (am_dec tX12_stepGoes_3 4 rfl) rfl ?_
    refine T_iload_n (am_dec tX12_stepGoes_3 5 rfl) rfl ?_
    refine T_callV (as := [aI t]) rfl (am_dec tX12_stepGoes_3 6 rfl) lkX12_336 (md_obj hl) rfl rfl (Nat.le_of_ble_eq_true rfl) (by omega) (mk_thinAt (d := d - 1) hl t  hV ) (fun _ => ?_)
    refine T_istore_n (ls' := [some (aR b), some (aI t), some (aI (k_thinAt c t)), none, none]) (am_dec tX12_stepGoes_3 7 rfl) (by decide) rfl ?_
    refine T_iconst 0 (am_dec tX12_stepGoes_3 8 rfl) rfl ⟨by decide, by decide⟩ ?_
    refine T_istore_n (ls' := [some (aR b), some (aI t), some (aI (k_thinAt c t)), some (aI 0), none]) (am_dec tX12_stepGoes_3 9 rfl) (by decide) rfl ?_
    refine L_k_stepGoes_204 hl c t (k_thinAt c t) hV hWd hS9 hLp hDu ht  (by omega) _ rfl 81 0 q176 (by omega) (by omega) (fun q204 hq204 => ?_)
    have du := hDu
    unfold MdDu at du
    refine T_iload_n (am_dec tX12_stepGoes_4 2 rfl) rfl ?_
    refine T_aload_n (am_dec tX12_stepGoes_4 3 rfl) rfl ?_
    refine T_getfield 11 58 (am_dec tX12_stepGoes_4 4 rfl) flX12_130_11 (md_obj hl) rfl ?_
    have K259 : ∀ (q259 : am_F), q259 = (if t = c 0 58 then (am_put q204 265 ((c 0 59).toNat) 0) else q204) →  am_T S zX12_stepGoes d u Q 272 [some (aR b), some (aI t), none, none, none] [] (mdW w b c q259) := by
      intro q259 hq259
      refine T_aload_n (am_dec tX12_stepGoes_4 12 rfl) rfl ?_
      refine T_getfield 11 38 (am_dec tX12_stepGoes_4 13 rfl) flX12_94_11 (md_obj hl) rfl ?_
      refine T_iload_n (am_dec tX12_stepGoes_4 14 rfl) rfl ?_
      refine T_iconst 1 (am_dec tX12_stepGoes_4 15 rfl) rfl ⟨by decide, by decide⟩ ?_
      refine T_iadd (t + 1) (am_dec tX12_stepGoes_4 16 rfl) rfl ⟨by omega, by omega⟩ ?_
      refine T_aaloadR (r := b + (201 + (t + 1).toNat)) (am_dec tX12_stepGoes_4 17 rfl) (by decide) (mh_sums hl) (by omega) (by omega) (if_pos (by omega)) ?_
      refine T_iconst 0 (am_dec tX12_stepGoes_4 18 rfl) rfl ⟨by decide, by decide⟩ ?_
      refine T_iconst 0 (am_dec tX12_stepGoes_4 19 rfl) rfl ⟨by decide, by decide⟩ ?_
      refine T_iastore (am_dec tX12_stepGoes_4 20 rfl) (mr_sums hl (i := (t + 1)) (by omega) (by omega)) (by omega) (by omega) ?_
      refine am_wE (w2 := mdW w b c (am_put q259 (201 + (t + 1).toNat) 0 0)) (md_pq (by omega) (fun f g => md_t_sums f g (by omega))) ?_
      refine T_iconst 0 (am_dec tX12_stepGoes_4 21 rfl) rfl ⟨by decide, by decide⟩ ?_
      refine T_istore_n (ls' := [some (aR b), some (aI t), none, some (aI 0), none]) (am_dec tX12_stepGoes_4 22 rfl) (by decide) rfl ?_
      refine L_k_stepGoes_285 hl c t hV hWd hS9 hLp hDu ht  (by omega) _ rfl 81 0 (am_put q259 (201 + (t + 1).toNat) 0 0) (by omega) (by omega) (fun q285 hq285 => ?_)
      exact T_return (am_dec tX12_stepGoes_5 15 rfl) rfl (am_tr (fun (x9 : am_F) => Q (.inl none) (mdW w b c x9)) (y := q285) (show (k_stepGoes c q t) = q285 from (by have s9 := hq2.symm; subst s9; have s9 := hq33.symm; subst s9; have s9 := hq67.symm; subst s9; have s9 := hq72.symm; subst s9; have s9 := hq113.symm; subst s9; have s9 := hq176.symm; subst s9; have s9 := hq204.symm; subst s9; have s9 := hq259.symm; subst s9; have s9 := hq285.symm; subst s9; exact rfl)) hQ)
    refine T_icmp_ne 272 (am_dec tX12_stepGoes_4 5 rfl) rfl (fun h259 => ?_) (fun h259 => ?_)
    · exact K259 _ (if_neg h259).symm
    · refine T_aload_n (am_dec tX12_stepGoes_4 6 rfl) rfl ?_
      refine T_getfield 11 42 (am_dec tX12_stepGoes_4 7 rfl) flX12_106_11 (md_obj hl) rfl ?_
      refine T_aload_n (am_dec tX12_stepGoes_4 8 rfl) rfl ?_
      refine T_getfield 11 59 (am_dec tX12_stepGoes_4 9 rfl) flX12_339_11 (md_obj hl) rfl ?_
      refine T_iconst 0 (am_dec tX12_stepGoes_4 10 rfl) rfl ⟨by decide, by decide⟩ ?_
      refine T_iastore (am_dec tX12_stepGoes_4 11 rfl) (md_now hl) (by omega) (by omega) ?_
      refine am_wE (w2 := mdW w b c (am_put q204 265 ((c 0 59).toNat) 0)) (md_pq (Nat.le_of_ble_eq_true rfl) (fun _ _ => rfl)) ?_
      exact K259 _ (if_pos h259).symm
  exact key _ ⟨rfl, rfl⟩
def g_k_goes_2  (v1 : Int) (q : am_F) : am_F := (am_put q 201 v1.toNat 0)
theorem L_k_goes_2 {S : am_S} {d u : Nat} {Q : AO → AH → Prop} {w : AH} {b : Nat} (hl : b + 735 ≤ w.length) (c : am_F) (hV : MdV c) (hWd : MdWd c) (hS9 : MdS c) (hLp : MdLp c) (hDu : MdDu c)  (hd : 4 ≤ d) (B9 : Int) (hB : B9 = 4) : ∀ (n : Nat) (v1 : Int) (q : am_F), v1 + n = B9 → 0 ≤ v1 → (∀ (q' : am_F), q' = am_fold (g_k_goes_2) v1 n q → am_T S zX12_goes d u Q 22 [some (aR b), none, none] [] (mdW w b c q')) → am_T S zX12_goes d u Q 2 [some (aR b), some (aI v1), none] [] (mdW w b c q) := by
  intro n
  induction n with
  | zero =>
    intro v1 q hi9 h0i k9
    have e9 : v1 = B9 := by omega
    subst e9
    skip
    refine T_iload_n (am_dec tX12_goes_0 2 rfl) rfl ?_
    refine T_iconst 4 (am_dec tX12_goes_0 3 rfl) rfl ⟨by decide, by decide⟩ ?_
    refine T_icmp_ge 22 (am_dec tX12_goes_0 4 rfl) rfl (fun h4 => ?_) (fun h4 => by exfalso; omega)
    refine T_weak (ls' := [some (aR b), none, none]) (am_sub_s (am_sub_n (am_sub_n am_sub_nil))) ?_
    exact k9 q rfl
  | succ n ih =>
    intro v1 q hi9 h0i k9
    skip
    refine T_iload_n (am_dec tX12_goes_0 2 rfl) rfl ?_
    refine T_iconst 4 (am_dec tX12_goes_0 3 rfl) rfl ⟨by decide, by decide⟩ ?_
    refine T_icmp_ge 22 (am_dec tX12_goes_0 4 rfl) rfl (fun h4 => by exfalso; omega) (fun h4 => ?_)
    refine T_aload_n (am_dec tX12_goes_0 5 rfl) rfl ?_
    refine T_getfield 11 38 (am_dec tX12_goes_0 6 rfl) flX12_94_11 (md_obj hl) rfl ?_
    refine T_iconst 0 (am_dec tX12_goes_0 7 rfl) rfl ⟨by decide, by decide⟩ ?_
    refine T_aaloadR (r := b + 201) (am_dec tX12_goes_0 8 rfl) (by decide) (mh_sums hl) (by omega) (by omega) (if_pos (by decide)) ?_
    refine T_iload_n (am_dec tX12_goes_0 9 rfl) rfl ?_
    refine T_iconst 0 (am_dec tX12_goes_0 10 rfl) rfl ⟨by decide, by decide⟩ ?_
    refine T_iastore (am_dec tX12_goes_0 11 rfl) (mr_sums hl (i := 0) (by decide) (by decide)) (by omega) (by omega) ?_
    refine am_wE (w2 := mdW w b c (am_put q 201 v1.toNat 0)) (md_pq (Nat.le_of_ble_eq_true rfl) (fun f g => md_t_sums f g (j := 0) (by decide))) ?_
    refine T_iinc (ls' := [some (aR b), some (aI (v1 + 1)), none]) (v1 + 1) (am_dec tX12_goes_0 12 rfl) rfl rfl ⟨by omega, by omega⟩ (by decide) rfl ?_
    refine T_goto 2 (am_dec tX12_goes_0 13 rfl) rfl ?_
    have e9 : (g_k_goes_2) v1 q = (am_put q 201 v1.toNat 0) := rfl
    simp only [am_fold_s, e9] at k9
    exact ih (v1 + 1) (am_put q 201 v1.toNat 0) (by omega) (by omega) k9
def g_k_goes_32 (v1 : Int) (v2 : Int) (q : am_F) : am_F := (am_put q (259 + v1.toNat) v2.toNat 0)
theorem L_k_goes_32 {S : am_S} {d u : Nat} {Q : AO → AH → Prop} {w : AH} {b : Nat} (hl : b + 735 ≤ w.length) (c : am_F) (v1 : Int) (hV : MdV c) (hWd : MdWd c) (hS9 : MdS c) (hLp : MdLp c) (hDu : MdDu c) (ho24 : 0 ≤ v1 ∧ v1 < 6) (hd : 4 ≤ d) (B9 : Int) (hB : B9 = 6) : ∀ (n : Nat) (v2 : Int) (q : am_F), v2 + n = B9 → 0 ≤ v2 → (∀ (q' : am_F), q' = am_fold (g_k_goes_32 v1) v2 n q → am_T S zX12_goes d u Q 53 [some (aR b), some (aI v1), none] [] (mdW w b c q')) → am_T S zX12_goes d u Q 32 [some (aR b), some (aI v1), some (aI v2)] [] (mdW w b c q) := by
  intro n
  induction n with
  | zero =>
    intro v2 q hi9 h0i k9
    have e9 : v2 = B9 := by omega
    subst e9
    skip
    refine T_iload_n (am_dec tX12_goes_0 21 rfl) rfl ?_
    refine T_bipush 6 (am_dec tX12_goes_0 22 rfl) rfl ⟨by decide, by decide⟩ ?_
    refine T_icmp_ge 53 (am_dec tX12_goes_0 23 rfl) rfl (fun h35 => ?_) (fun h35 => by exfalso; omega)
    refine T_weak (ls' := [some (aR b), some (aI v1), none]) (am_sub_s (am_sub_s (am_sub_n am_sub_nil))) ?_
    exact k9 q rfl
  | succ n ih =>
    intro v2 q hi9 h0i k9
    skip
    refine T_iload_n (am_dec tX12_goes_0 21 rfl) rfl ?_
    refine T_bipush 6 (am_dec tX12_goes_0 22 rfl) rfl ⟨by decide, by decide⟩ ?_
    refine T_icmp_ge 53 (am_dec tX12_goes_0 23 rfl) rfl (fun h35 => by exfalso; omega) (fun h35 => ?_)
    refine T_aload_n (am_dec tX12_goes_0 24 rfl) rfl ?_
    refine T_getfield 11 41 (am_dec tX12_goes_0 25 rfl) flX12_103_11 (md_obj hl) rfl ?_
    refine T_iload_n (am_dec tX12_goes_0 26 rfl) rfl ?_
    refine T_aaloadR (r := b + (259 + v1.toNat)) (am_dec tX12_goes_0 27 rfl) (by decide) (mh_leak hl) (by omega) (by omega) (if_pos (by omega)) ?_
    refine T_iload_n (am_dec tX12_goes_0 28 rfl) rfl ?_
    refine T_iconst 0 (am_dec tX12_goes_0 29 rfl) rfl ⟨by decide, by decide⟩ ?_
    refine T_iastore (am_dec tX12_goes_0 30 rfl) (mr_leak hl (i := v1) (by omega) (by omega)) (by omega) (by omega) ?_
    refine am_wE (w2 := mdW w b c (am_put q (259 + v1.toNat) v2.toNat 0)) (md_pq (by omega) (fun f g => md_t_leak f g (by omega))) ?_
    refine T_iinc (ls' := [some (aR b), some (aI v1), some (aI (v2 + 1))]) (v2 + 1) (am_dec tX12_goes_0 31 rfl) rfl rfl ⟨by omega, by omega⟩ (by decide) rfl ?_
    refine T_goto 32 (am_dec tX12_goes_0 32 rfl) rfl ?_
    have e9 : (g_k_goes_32 v1) v2 q = (am_put q (259 + v1.toNat) v2.toNat 0) := rfl
    simp only [am_fold_s, e9] at k9
    exact ih (v2 + 1) (am_put q (259 + v1.toNat) v2.toNat 0) (by omega) (by omega) k9
def g_k_goes_24  (v1 : Int) (q : am_F) : am_F := am_fold (g_k_goes_32 v1) 0 6 q
theorem L_k_goes_24 {S : am_S} {d u : Nat} {Q : AO → AH → Prop} {w : AH} {b : Nat} (hl : b + 735 ≤ w.length) (c : am_F) (hV : MdV c) (hWd : MdWd c) (hS9 : MdS c) (hLp : MdLp c) (hDu : MdDu c)  (hd : 4 ≤ d) (B9 : Int) (hB : B9 = 6) : ∀ (n : Nat) (v1 : Int) (q : am_F), v1 + n = B9 → 0 ≤ v1 → (∀ (q' : am_F), q' = am_fold (g_k_goes_24) v1 n q → am_T S zX12_goes d u Q 59 [some (aR b), none, none] [] (mdW w b c q')) → am_T S zX12_goes d u Q 24 [some (aR b), some (aI v1), none] [] (mdW w b c q) := by
  intro n
  induction n with
  | zero =>
    intro v1 q hi9 h0i k9
    have e9 : v1 = B9 := by omega
    subst e9
    skip
    refine T_iload_n (am_dec tX12_goes_0 16 rfl) rfl ?_
    refine T_bipush 6 (am_dec tX12_goes_0 17 rfl) rfl ⟨by decide, by decide⟩ ?_
    refine T_icmp_ge 59 (am_dec tX12_goes_0 18 rfl) rfl (fun h27 => ?_) (fun h27 => by exfalso; omega)
    refine T_weak (ls' := [some (aR b), none, none]) (am_sub_s (am_sub_n (am_sub_n am_sub_nil))) ?_
    exact k9 q rfl
  | succ n ih =>
    intro v1 q hi9 h0i k9
    skip
    refine T_iload_n (am_dec tX12_goes_0 16 rfl) rfl ?_
    refine T_bipush 6 (am_dec tX12_goes_0 17 rfl) rfl ⟨by decide, by decide⟩ ?_
    refine T_icmp_ge 59 (am_dec tX12_goes_0 18 rfl) rfl (fun h27 => by exfalso; omega) (fun h27 => ?_)
    refine T_iconst 0 (am_dec tX12_goes_0 19 rfl) rfl ⟨by decide, by decide⟩ ?_
    refine T_istore_n (ls' := [some (aR b), some (aI v1), some (aI 0)]) (am_dec tX12_goes_0 20 rfl) (by decide) rfl ?_
    refine L_k_goes_32 hl c v1 hV hWd hS9 hLp hDu (by omega) (by omega) _ rfl 6 0 q (by omega) (by omega) (fun q32 hq32 => ?_)
    refine T_iinc (ls' := [some (aR b), some (aI (v1 + 1)), none]) (v1 + 1) (am_dec tX12_goes_0 33 rfl) rfl rfl ⟨by omega, by omega⟩ (by decide) rfl ?_
    refine T_goto 24 (am_dec tX12_goes_0 34 rfl) rfl ?_
    have e9 : (g_k_goes_24) v1 q = q32 := (by have s9 := hq32.symm; subst s9; exact rfl)
    simp only [am_fold_s, e9] at k9
    exact ih (v1 + 1) q32 (by omega) (by omega) k9
def g_k_goes_78 (v1 : Int) (v2 : Int) (q : am_F) : am_F := (am_put q (251 + v1.toNat) v2.toNat 0)
theorem L_k_goes_78 {S : am_S} {d u : Nat} {Q : AO → AH → Prop} {w : AH} {b : Nat} (hl : b + 735 ≤ w.length) (c : am_F) (v1 : Int) (hV : MdV c) (hWd : MdWd c) (hS9 : MdS c) (hLp : MdLp c) (hDu : MdDu c) (ho61 : 0 ≤ v1 ∧ v1 < 6 + 1) (hd : 4 ≤ d) (B9 : Int) (hB : B9 = 81) : ∀ (n : Nat) (v2 : Int) (q : am_F), v2 + n = B9 → 0 ≤ v2 → (∀ (q' : am_F), q' = am_fold (g_k_goes_78 v1) v2 n q → am_T S zX12_goes d u Q 99 [some (aR b), some (aI v1), none] [] (mdW w b c q')) → am_T S zX12_goes d u Q 78 [some (aR b), some (aI v1), some (aI v2)] [] (mdW w b c q) := by
  intro n
  induction n with
  | zero =>
    intro v2 q hi9 h0i k9
    have e9 : v2 = B9 := by omega
    subst e9
    skip
    refine T_iload_n (am_dec tX12_goes_1 9 rfl) rfl ?_
    refine T_bipush 81 (am_dec tX12_goes_1 10 rfl) rfl ⟨by decide, by decide⟩ ?_
    refine T_icmp_ge 99 (am_dec tX12_goes_1 11 rfl) rfl (fun h81 => ?_) (fun h81 => by exfalso; omega)
    refine T_weak (ls' := [some (aR b), some (aI v1), none]) (am_sub_s (am_sub_s (am_sub_n am_sub_nil))) ?_
    exact k9 q rfl
  | succ n ih =>
    intro v2 q hi9 h0i k9
    skip
    refine T_iload_n (am_dec tX12_goes_1 9 rfl) rfl ?_
    refine T_bipush 81 (am_dec tX12_goes_1 10 rfl) rfl ⟨by decide, by decide⟩ ?_
    refine T_icmp_ge 99 (am_dec tX12_goes_1 11 rfl) rfl (fun h81 => by exfalso; omega) (fun h81 => ?_)
    refine T_aload_n (am_dec tX12_goes_1 12 rfl) rfl ?_
    refine T_getfield 11 40 (am_dec tX12_goes_1 13 rfl) flX12_100_11 (md_obj hl) rfl ?_
    refine T_iload_n (am_dec tX12_goes_1 14 rfl) rfl ?_
    refine T_aaloadR (r := b + (251 + v1.toNat)) (am_dec tX12_goes_1 15 rfl) (by decide) (mh_burnedOn hl) (by omega) (by omega) (if_pos (by omega)) ?_
    refine T_iload_n (am_dec tX12_goes_1 16 rfl) rfl ?_
    refine T_iconst 0 (am_dec tX12_goes_1 17 rfl) rfl ⟨by decide, by decide⟩ ?_
    refine T_iastore (am_dec tX12_goes_1 18 rfl) (mr_burnedOn hl (i := v1) (by omega) (by omega)) (by omega) (by omega) ?_
    refine am_wE (w2 := mdW w b c (am_put q (251 + v1.toNat) v2.toNat 0)) (md_pq (by omega) (fun f g => md_t_burnedOn f g (by omega))) ?_
    refine T_iinc (ls' := [some (aR b), some (aI v1), some (aI (v2 + 1))]) (v2 + 1) (am_dec tX12_goes_1 19 rfl) rfl rfl ⟨by omega, by omega⟩ (by decide) rfl ?_
    refine T_goto 78 (am_dec tX12_goes_1 20 rfl) rfl ?_
    have e9 : (g_k_goes_78 v1) v2 q = (am_put q (251 + v1.toNat) v2.toNat 0) := rfl
    simp only [am_fold_s, e9] at k9
    exact ih (v2 + 1) (am_put q (251 + v1.toNat) v2.toNat 0) (by omega) (by omega) k9
def g_k_goes_61  (v1 : Int) (q : am_F) : am_F := am_fold (g_k_goes_78 v1) 0 81 (am_put q (243 + v1.toNat) 0 0)
theorem L_k_goes_61 {S : am_S} {d u : Nat} {Q : AO → AH → Prop} {w : AH} {b : Nat} (hl : b + 735 ≤ w.length) (c : am_F) (hV : MdV c) (hWd : MdWd c) (hS9 : MdS c) (hLp : MdLp c) (hDu : MdDu c)  (hd : 4 ≤ d) (B9 : Int) (hB : B9 = 7) : ∀ (n : Nat) (v1 : Int) (q : am_F), v1 + n = B9 → 0 ≤ v1 → (∀ (q' : am_F), q' = am_fold (g_k_goes_61) v1 n q → am_T S zX12_goes d u Q 105 [some (aR b), none, none] [] (mdW w b c q')) → am_T S zX12_goes d u Q 61 [some (aR b), some (aI v1), none] [] (mdW w b c q) := by
  intro n
  induction n with
  | zero =>
    intro v1 q hi9 h0i k9
    have e9 : v1 = B9 := by omega
    subst e9
    skip
    refine T_iload_n (am_dec tX12_goes_0 37 rfl) rfl ?_
    refine T_bipush 6 (am_dec tX12_goes_0 38 rfl) rfl ⟨by decide, by decide⟩ ?_
    refine T_icmp_gt 105 (am_dec tX12_goes_0 39 rfl) rfl (fun h64 => ?_) (fun h64 => by exfalso; omega)
    refine T_weak (ls' := [some (aR b), none, none]) (am_sub_s (am_sub_n (am_sub_n am_sub_nil))) ?_
    exact k9 q rfl
  | succ n ih =>
    intro v1 q hi9 h0i k9
    skip
    refine T_iload_n (am_dec tX12_goes_0 37 rfl) rfl ?_
    refine T_bipush 6 (am_dec tX12_goes_0 38 rfl) rfl ⟨by decide, by decide⟩ ?_
    refine T_icmp_gt 105 (am_dec tX12_goes_0 39 rfl) rfl (fun h64 => by exfalso; omega) (fun h64 => ?_)
    refine T_aload_n (am_dec tX12_goes_1 0 rfl) rfl ?_
    refine T_getfield 11 39 (am_dec tX12_goes_1 1 rfl) flX12_97_11 (md_obj hl) rfl ?_
    refine T_iload_n (am_dec tX12_goes_1 2 rfl) rfl ?_
    refine T_aaloadR (r := b + (243 + v1.toNat)) (am_dec tX12_goes_1 3 rfl) (by decide) (mh_burned hl) (by omega) (by omega) (if_pos (by omega)) ?_
    refine T_iconst 0 (am_dec tX12_goes_1 4 rfl) rfl ⟨by decide, by decide⟩ ?_
    refine T_iconst 0 (am_dec tX12_goes_1 5 rfl) rfl ⟨by decide, by decide⟩ ?_
    refine T_iastore (am_dec tX12_goes_1 6 rfl) (mr_burned hl (i := v1) (by omega) (by omega)) (by omega) (by omega) ?_
    refine am_wE (w2 := mdW w b c (am_put q (243 + v1.toNat) 0 0)) (md_pq (by omega) (fun f g => md_t_burned f g (by omega))) ?_
    refine T_iconst 0 (am_dec tX12_goes_1 7 rfl) rfl ⟨by decide, by decide⟩ ?_
    refine T_istore_n (ls' := [some (aR b), some (aI v1), some (aI 0)]) (am_dec tX12_goes_1 8 rfl) (by decide) rfl ?_
    refine L_k_goes_78 hl c v1 hV hWd hS9 hLp hDu (by omega) (by omega) _ rfl 81 0 (am_put q (243 + v1.toNat) 0 0) (by omega) (by omega) (fun q78 hq78 => ?_)
    refine T_iinc (ls' := [some (aR b), some (aI (v1 + 1)), none]) (v1 + 1) (am_dec tX12_goes_1 21 rfl) rfl rfl ⟨by omega, by omega⟩ (by decide) rfl ?_
    refine T_goto 61 (am_dec tX12_goes_1 22 rfl) rfl ?_
    have e9 : (g_k_goes_61) v1 q = q78 := (by have s9 := hq78.symm; subst s9; exact rfl)
    simp only [am_fold_s, e9] at k9
    exact ih (v1 + 1) q78 (by omega) (by omega) k9
def g_k_goes_107 (c : am_F) (v1 : Int) (q : am_F) : am_F := (am_put (am_put (am_put q 265 v1.toNat (c 6 v1.toNat)) 159 v1.toNat (c 6 v1.toNat)) 201 0 (am_w32 ((q 201 0) + (c 6 v1.toNat))))
theorem L_k_goes_107 {S : am_S} {d u : Nat} {Q : AO → AH → Prop} {w : AH} {b : Nat} (hl : b + 735 ≤ w.length) (c : am_F) (hV : MdV c) (hWd : MdWd c) (hS9 : MdS c) (hLp : MdLp c) (hDu : MdDu c)  (hd : 4 ≤ d) (B9 : Int) (hB : B9 = 81) : ∀ (n : Nat) (v1 : Int) (q : am_F), v1 + n = B9 → 0 ≤ v1 → (∀ (q' : am_F), q' = am_fold (g_k_goes_107 c) v1 n q → am_T S zX12_goes d u Q 162 [some (aR b), none, none] [] (mdW w b c q')) → am_T S zX12_goes d u Q 107 [some (aR b), some (aI v1), none] [] (mdW w b c q) := by
  intro n
  induction n with
  | zero =>
    intro v1 q hi9 h0i k9
    have e9 : v1 = B9 := by omega
    subst e9
    skip
    refine T_iload_n (am_dec tX12_goes_1 25 rfl) rfl ?_
    refine T_bipush 81 (am_dec tX12_goes_1 26 rfl) rfl ⟨by decide, by decide⟩ ?_
    refine T_icmp_ge 162 (am_dec tX12_goes_1 27 rfl) rfl (fun h110 => ?_) (fun h110 => by exfalso; omega)
    refine T_weak (ls' := [some (aR b), none, none]) (am_sub_s (am_sub_n (am_sub_n am_sub_nil))) ?_
    exact k9 q rfl
  | succ n ih =>
    intro v1 q hi9 h0i k9
    skip
    refine T_iload_n (am_dec tX12_goes_1 25 rfl) rfl ?_
    refine T_bipush 81 (am_dec tX12_goes_1 26 rfl) rfl ⟨by decide, by decide⟩ ?_
    refine T_icmp_ge 162 (am_dec tX12_goes_1 27 rfl) rfl (fun h110 => by exfalso; omega) (fun h110 => ?_)
    refine T_aload_n (am_dec tX12_goes_1 28 rfl) rfl ?_
    refine T_getfield 11 42 (am_dec tX12_goes_1 29 rfl) flX12_106_11 (md_obj hl) rfl ?_
    refine T_iload_n (am_dec tX12_goes_1 30 rfl) rfl ?_
    refine T_aload_n (am_dec tX12_goes_1 31 rfl) rfl ?_
    refine T_getfield 11 13 (am_dec tX12_goes_1 32 rfl) flX12_29_11 (md_obj hl) rfl ?_
    refine T_iload_n (am_dec tX12_goes_1 33 rfl) rfl ?_
    refine T_ialoadE (x := c 6 v1.toNat) (am_dec tX12_goes_1 34 rfl) (md_first hl) (by omega) (by omega) rfl ?_
    refine T_iastore (am_dec tX12_goes_1 35 rfl) (md_now hl) (by omega) (by omega) ?_
    refine am_wE (w2 := mdW w b c (am_put q 265 v1.toNat (c 6 v1.toNat))) (md_pq (Nat.le_of_ble_eq_true rfl) (fun _ _ => rfl)) ?_
    refine T_aload_n (am_dec tX12_goes_1 36 rfl) rfl ?_
    refine T_getfield 11 37 (am_dec tX12_goes_1 37 rfl) flX12_91_11 (md_obj hl) rfl ?_
    refine T_iconst 0 (am_dec tX12_goes_1 38 rfl) rfl ⟨by decide, by decide⟩ ?_
    refine T_aaloadR (r := b + 159) (am_dec tX12_goes_1 39 rfl) (by decide) (mh_fog hl) (by omega) (by omega) (if_pos (by decide)) ?_
    refine T_iload_n (am_dec tX12_goes_2 0 rfl) rfl ?_
    refine T_aload_n (am_dec tX12_goes_2 1 rfl) rfl ?_
    refine T_getfield 11 13 (am_dec tX12_goes_2 2 rfl) flX12_29_11 (md_obj hl) rfl ?_
    refine T_iload_n (am_dec tX12_goes_2 3 rfl) rfl ?_
    refine T_ialoadE (x := c 6 v1.toNat) (am_dec tX12_goes_2 4 rfl) (md_first hl) (by omega) (by omega) rfl ?_
    refine T_iastore (am_dec tX12_goes_2 5 rfl) (mr_fog hl (i := 0) (by decide) (by decide)) (by omega) (by omega) ?_
    refine am_wE (w2 := mdW w b c (am_put (am_put q 265 v1.toNat (c 6 v1.toNat)) 159 v1.toNat (c 6 v1.toNat))) (md_pq (Nat.le_of_ble_eq_true rfl) (fun f g => md_t_fog f g (j := 0) (by decide))) ?_
    refine T_aload_n (am_dec tX12_goes_2 6 rfl) rfl ?_
    refine T_getfield 11 38 (am_dec tX12_goes_2 7 rfl) flX12_94_11 (md_obj hl) rfl ?_
    refine T_iconst 0 (am_dec tX12_goes_2 8 rfl) rfl ⟨by decide, by decide⟩ ?_
    refine T_aaloadR (r := b + 201) (am_dec tX12_goes_2 9 rfl) (by decide) (mh_sums hl) (by omega) (by omega) (if_pos (by decide)) ?_
    refine T_iconst 0 (am_dec tX12_goes_2 10 rfl) rfl ⟨by decide, by decide⟩ ?_
    refine T_dup2 (am_dec tX12_goes_2 11 rfl) rfl rfl ?_
    refine T_ialoadE (x := q 201 0) (am_dec tX12_goes_2 12 rfl) (mr_sums hl (i := 0) (by decide) (by decide)) (by omega) (by omega) ((am_put_k (by decide)).trans (am_put_k (by decide))) ?_
    refine T_aload_n (am_dec tX12_goes_2 13 rfl) rfl ?_
    refine T_getfield 11 13 (am_dec tX12_goes_2 14 rfl) flX12_29_11 (md_obj hl) rfl ?_
    refine T_iload_n (am_dec tX12_goes_2 15 rfl) rfl ?_
    refine T_ialoadE (x := c 6 v1.toNat) (am_dec tX12_goes_2 16 rfl) (md_first hl) (by omega) (by omega) rfl ?_
    refine T_iaddW (am_w32 ((q 201 0) + (c 6 v1.toNat))) (am_dec tX12_goes_2 17 rfl) (am_w32e _).symm (am_w32r _) ?_
    refine T_iastore (am_dec tX12_goes_2 18 rfl) (mr_sums hl (i := 0) (by decide) (by decide)) (by omega) (by omega) ?_
    refine am_wE (w2 := mdW w b c (am_put (am_put (am_put q 265 v1.toNat (c 6 v1.toNat)) 159 v1.toNat (c 6 v1.toNat)) 201 0 (am_w32 ((q 201 0) + (c 6 v1.toNat))))) (md_pq (Nat.le_of_ble_eq_true rfl) (fun f g => md_t_sums f g (j := 0) (by decide))) ?_
    refine T_iinc (ls' := [some (aR b), some (aI (v1 + 1)), none]) (v1 + 1) (am_dec tX12_goes_2 19 rfl) rfl rfl ⟨by omega, by omega⟩ (by decide) rfl ?_
    refine T_goto 107 (am_dec tX12_goes_2 20 rfl) rfl ?_
    have e9 : (g_k_goes_107 c) v1 q = (am_put (am_put (am_put q 265 v1.toNat (c 6 v1.toNat)) 159 v1.toNat (c 6 v1.toNat)) 201 0 (am_w32 ((q 201 0) + (c 6 v1.toNat)))) := rfl
    simp only [am_fold_s, e9] at k9
    exact ih (v1 + 1) (am_put (am_put (am_put q 265 v1.toNat (c 6 v1.toNat)) 159 v1.toNat (c 6 v1.toNat)) 201 0 (am_w32 ((q 201 0) + (c 6 v1.toNat)))) (by omega) (by omega) k9
def g_k_goes_164 (c : am_F) (v1 : Int) (q : am_F) : am_F := k_stepGoes c q v1
theorem L_k_goes_164 {S : am_S} {d u : Nat} {Q : AO → AH → Prop} {w : AH} {b : Nat} (hl : b + 735 ≤ w.length) (c : am_F) (hV : MdV c) (hWd : MdWd c) (hS9 : MdS c) (hLp : MdLp c) (hDu : MdDu c)  (hd : 4 ≤ d) (B9 : Int) (hB : B9 = 40) : ∀ (n : Nat) (v1 : Int) (q : am_F), v1 + n = B9 → 0 ≤ v1 → (∀ (q' : am_F), q' = am_fold (g_k_goes_164 c) v1 n q → am_T S zX12_goes d u Q 181 [none, none, none] [] (mdW w b c q')) → am_T S zX12_goes d u Q 164 [some (aR b), some (aI v1), none] [] (mdW w b c q) := by
  intro n
  induction n with
  | zero =>
    intro v1 q hi9 h0i k9
    have e9 : v1 = B9 := by omega
    subst e9
    skip
    refine T_iload_n (am_dec tX12_goes_2 23 rfl) rfl ?_
    refine T_bipush 40 (am_dec tX12_goes_2 24 rfl) rfl ⟨by decide, by decide⟩ ?_
    refine T_icmp_ge 181 (am_dec tX12_goes_2 25 rfl) rfl (fun h167 => ?_) (fun h167 => by exfalso; omega)
    refine T_weak (ls' := [none, none, none]) (am_sub_n (am_sub_n (am_sub_n am_sub_nil))) ?_
    exact k9 q rfl
  | succ n ih =>
    intro v1 q hi9 h0i k9
    skip
    refine T_iload_n (am_dec tX12_goes_2 23 rfl) rfl ?_
    refine T_bipush 40 (am_dec tX12_goes_2 24 rfl) rfl ⟨by decide, by decide⟩ ?_
    refine T_icmp_ge 181 (am_dec tX12_goes_2 25 rfl) rfl (fun h167 => by exfalso; omega) (fun h167 => ?_)
    refine T_aload_n (am_dec tX12_goes_2 26 rfl) rfl ?_
    refine T_iload_n (am_dec tX12_goes_2 27 rfl) rfl ?_
    refine T_callV (as := [aI v1]) rfl (am_dec tX12_goes_2 28 rfl) lkX12_342 (md_obj hl) rfl rfl (Nat.le_of_ble_eq_true rfl) (by omega) (mk_stepGoes (d := d - 1) hl v1  hV hWd hS9 hLp hDu (by omega) (by omega)) (fun _ => ?_)
    refine T_nmH (W := fun x9 => mdW w b c x9) (v := k_stepGoes c q v1) (fun q172 hq172 => ?_)
    refine T_iinc (ls' := [some (aR b), some (aI (v1 + 1)), none]) (v1 + 1) (am_dec tX12_goes_2 29 rfl) rfl rfl ⟨by omega, by omega⟩ (by decide) rfl ?_
    refine T_goto 164 (am_dec tX12_goes_2 30 rfl) rfl ?_
    have e9 : (g_k_goes_164 c) v1 q = q172 := (by have s9 := hq172.symm; subst s9; exact rfl)
    simp only [am_fold_s, e9] at k9
    exact ih (v1 + 1) q172 (by omega) (by omega) k9
def k_goes (c : am_F) (q : am_F) : am_F := (let q2 : am_F := am_fold (g_k_goes_2) 0 4 q; (let q24 : am_F := am_fold (g_k_goes_24) 0 6 q2; (let q61 : am_F := am_fold (g_k_goes_61) 0 7 q24; (let q107 : am_F := am_fold (g_k_goes_107 c) 0 81 q61; am_fold (g_k_goes_164 c) 0 40 q107))))
theorem mk_goes {S : am_S} {d u : Nat} {w : AH} {b : Nat} (hl : b + 735 ≤ w.length) {c : am_F} {q : am_F}  (hV : MdV c) (hWd : MdWd c) (hS9 : MdS c) (hLp : MdLp c) (hDu : MdDu c) (hd : 4 ≤ d) : am_Out S zX12_goes d u [aR b] (mdW w b c q) (.inl none) (mdW w b c (k_goes c q)) := by
  have key : ∀ Q : AO → AH → Prop, Q (.inl none) (mdW w b c (k_goes c q)) → am_M S zX12_goes d u [aR b] (mdW w b c q) Q := by
    intro Q hQ
    refine am_body rfl (by decide +kernel) rfl (am_cats_cons rfl (am_cats_nil)) (Nat.le_of_ble_eq_true rfl) (?_ : am_T _ _ _ _ _ 0 [some (aR b), none, none] [] (mdW w b c q))
    skip
    refine T_iconst 0 (am_dec tX12_goes_0 0 rfl) rfl ⟨by decide, by decide⟩ ?_
    refine T_istore_n (ls' := [some (aR b), some (aI 0), none]) (am_dec tX12_goes_0 1 rfl) (by decide) rfl ?_
    refine L_k_goes_2 hl c hV hWd hS9 hLp hDu  (by omega) _ rfl 4 0 q (by omega) (by omega) (fun q2 hq2 => ?_)
    refine T_iconst 0 (am_dec tX12_goes_0 14 rfl) rfl ⟨by decide, by decide⟩ ?_
    refine T_istore_n (ls' := [some (aR b), some (aI 0), none]) (am_dec tX12_goes_0 15 rfl) (by decide) rfl ?_
    refine L_k_goes_24 hl c hV hWd hS9 hLp hDu  (by omega) _ rfl 6 0 q2 (by omega) (by omega) (fun q24 hq24 => ?_)
    refine T_iconst 0 (am_dec tX12_goes_0 35 rfl) rfl ⟨by decide, by decide⟩ ?_
    refine T_istore_n (ls' := [some (aR b), some (aI 0), none]) (am_dec tX12_goes_0 36 rfl) (by decide) rfl ?_
    refine L_k_goes_61 hl c hV hWd hS9 hLp hDu  (by omega) _ rfl 7 0 q24 (by omega) (by omega) (fun q61 hq61 => ?_)
    refine T_iconst 0 (am_dec tX12_goes_1 23 rfl) rfl ⟨by decide, by decide⟩ ?_
    refine T_istore_n (ls' := [some (aR b), some (aI 0), none]) (am_dec tX12_goes_1 24 rfl) (by decide) rfl ?_
    refine L_k_goes_107 hl c hV hWd hS9 hLp hDu  (by omega) _ rfl 81 0 q61 (by omega) (by omega) (fun q107 hq107 => ?_)
    refine T_iconst 0 (am_dec tX12_goes_2 21 rfl) rfl ⟨by decide, by decide⟩ ?_
    refine T_istore_n (ls' := [some (aR b), some (aI 0), none]) (am_dec tX12_goes_2 22 rfl) (by decide) rfl ?_
    refine L_k_goes_164 hl c hV hWd hS9 hLp hDu  (by omega) _ rfl 40 0 q107 (by omega) (by omega) (fun q164 hq164 => ?_)
    exact T_return (am_dec tX12_goes_2 31 rfl) rfl (am_tr (fun (x9 : am_F) => Q (.inl none) (mdW w b c x9)) (y := q164) (show (k_goes c q) = q164 from (by have s9 := hq2.symm; subst s9; have s9 := hq24.symm; subst s9; have s9 := hq61.symm; subst s9; have s9 := hq107.symm; subst s9; have s9 := hq164.symm; subst s9; exact rfl)) hQ)
  exact key _ ⟨rfl, rfl⟩
def k_goesInDoubt (c : am_F) (q : am_F) (seed : Int) (dq : Int) : am_F × am_F := (let q11 : am_F := k_goes (am_put c 0 61 dq) (am_put q 0 60 seed); ((am_put (am_put c 0 61 dq) 0 61 (-1)), q11))
theorem mk_goesInDoubt {S : am_S} {d u : Nat} {w : AH} {b : Nat} (hl : b + 735 ≤ w.length) {c : am_F} {q : am_F} (seed : Int) (dq : Int) (hV : MdV c) (hWd : MdWd c) (hS9 : MdS c) (hLp : MdLp c) (hDu : MdDu c) (hd : 5 ≤ d) : am_Out S zX12_goesInDoubt d u [aR b, aI seed, aI dq] (mdW w b c q) (.inl none) (mdW w b ((k_goesInDoubt c q seed dq).1) ((k_goesInDoubt c q seed dq).2)) := by
  have key : ∀ Q : AO → AH → Prop, Q (.inl none) (mdW w b ((k_goesInDoubt c q seed dq).1) ((k_goesInDoubt c q seed dq).2)) → am_M S zX12_goesInDoubt d u [aR b, aI seed, aI dq] (mdW w b c q) Q := by
    intro Q hQ
    refine am_body rfl (by decide +kernel) rfl (am_cats_cons rfl ( am_cats_cons rfl ( am_cats_cons rfl (am_cats_nil)))) (Nat.le_of_ble_eq_true rfl) (?_ : am_T _ _ _ _ _ 0 [some (aR b), some (aI seed), some (aI dq)] [] (mdW w b c q))
    skip
    refine T_aload_n (am_dec tX12_goesInDoubt_0 0 rfl) rfl ?_
    refine T_iload_n (am_dec tX12_goesInDoubt_0 1 rfl) rfl ?_
    refine T_putfield (fs' := mdO b (c 0) (am_up (q 0) 60 seed)) 11 60 (am_dec tX12_goesInDoubt_0 2 rfl) flX12_310_11 rfl rfl rfl trivial (md_obj hl) (Nat.le_of_ble_eq_true rfl) rfl ?_
    refine am_wE (w2 := mdW w b c (am_put q 0 60 seed)) (md_fq) ?_
    refine T_aload_n (am_dec tX12_goesInDoubt_0 3 rfl) rfl ?_
    refine T_iload_n (am_dec tX12_goesInDoubt_0 4 rfl) rfl ?_
    refine T_putfield (fs' := mdO b (am_up (c 0) 61 dq) ((am_put q 0 60 seed) 0)) 11 61 (am_dec tX12_goesInDoubt_0 5 rfl) flX12_133_11 rfl rfl rfl trivial (md_obj hl) (Nat.le_of_ble_eq_true rfl) rfl ?_
    refine am_wE (w2 := mdW w b (am_put c 0 61 dq) (am_put q 0 60 seed)) (md_fc) ?_
    refine T_aload_n (am_dec tX12_goesInDoubt_0 6 rfl) rfl ?_
    refine T_callV (as := []) rfl (am_dec tX12_goesInDoubt_0 7 rfl) lkX12_345 (md_obj hl) rfl rfl (Nat.le_of_ble_eq_true rfl) (by omega) (mk_goes (d := d - 1) hl   hV (MdWd_p0 hWd) (MdS_p0 hS9) (MdLp_p0 hLp) hDu (by omega)) (fun _ => ?_)
    refine T_nmH (W := fun x9 => mdW w b (am_put c 0 61 dq) x9) (v := k_goes (am_put c 0 61 dq) (am_put q 0 60 seed)) (fun q11 hq11 => ?_)
    refine T_aload_n (am_dec tX12_goesInDoubt_0 8 rfl) rfl ?_
    refine T_iconst (-1) (am_dec tX12_goesInDoubt_0 9 rfl) rfl ⟨by decide, by decide⟩ ?_
    refine T_putfield (fs' := mdO b (am_up ((am_put c 0 61 dq) 0) 61 (-1)) (q11 0)) 11 61 (am_dec tX12_goesInDoubt_0 10 rfl) flX12_133_11 rfl rfl rfl trivial (md_obj hl) (Nat.le_of_ble_eq_true rfl) rfl ?_
    refine am_wE (w2 := mdW w b (am_put (am_put c 0 61 dq) 0 61 (-1)) q11) (md_fc) ?_
    exact T_return (am_dec tX12_goesInDoubt_0 11 rfl) rfl (am_tr (fun (x9 : am_F × am_F) => Q (.inl none) (mdW w b x9.1 x9.2)) (y := ((am_put (am_put c 0 61 dq) 0 61 (-1)), q11)) (show (k_goesInDoubt c q seed dq) = ((am_put (am_put c 0 61 dq) 0 61 (-1)), q11) from (by have s9 := hq11.symm; subst s9; exact rfl)) hQ)
  exact key _ ⟨rfl, rfl⟩
def k_goesD (c q : am_F) (seed dq : Int) : am_F := k_goes (am_put c 0 61 dq) (am_put q 0 60 seed)
theorem mk_goesInDoubt' {S : am_S} {d u : Nat} {w : AH} {b : Nat} (hl : b + 735 ≤ w.length) {c q : am_F} (seed dq : Int) (hV : MdV c) (hWd : MdWd c) (hS9 : MdS c) (hLp : MdLp c) (hDu : MdDu c) (hD1 : c 0 61 = -1) (hd : 5 ≤ d) : am_Out S zX12_goesInDoubt d u [aR b, aI seed, aI dq] (mdW w b c q) (.inl none) (mdW w b c (k_goesD c q seed dq)) := by
  have h := mk_goesInDoubt (S := S) (d := d) (u := u) (w := w) hl (c := c) (q := q) seed dq hV hWd hS9 hLp hDu hd
  have e : (k_goesInDoubt c q seed dq).1 = c := by
    show am_put (am_put c 0 61 dq) 0 61 (-1) = c
    funext k j
    by_cases hk : k = 0
    · subst hk
      by_cases hj : j = 61
      · subst hj
        rw [am_put_s, hD1]
      · rw [am_put_i hj, am_put_i hj]
    · rw [am_put_k hk, am_put_k hk]
  rw [e] at h
  exact h
