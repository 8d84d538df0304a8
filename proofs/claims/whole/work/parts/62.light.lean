/-! the model: one lamp more -/
def LiI (c0 c : am_F) : Prop := ∀ k, k ≠ 67 + (c0 0 45).toNat → c k = c0 k
theorem LiI_r {c : am_F} : LiI c c := fun _ _ => rfl
def LgT (c : am_F) (x y r : Int) : am_F := am_put (am_put (am_put (am_put c (67 + (c 0 45).toNat) 0 x) (67 + (c 0 45).toNat) 1 y) (67 + (c 0 45).toNat) 2 r) 0 45 (c 0 45 + 1)
theorem Lg_k {c : am_F} {x y r : Int} {k : Nat} (h0 : k ≠ 0) (h : k ≠ 67 + (c 0 45).toNat) : LgT c x y r k = c k := by
  unfold LgT
  rw [am_put0 h0, am_put_kr h, am_put_kr h, am_put_kr h]
theorem Lg_h {c : am_F} {x y r : Int} {j : Nat} (h : j ≠ 45) : LgT c x y r 0 j = c 0 j := by
  unfold LgT
  rw [am_put_i h, am_put_k (by omega), am_put_k (by omega), am_put_k (by omega)]
theorem Lg_45 {c : am_F} {x y r : Int} : LgT c x y r 0 45 = c 0 45 + 1 := am_put_s
theorem Lg_V {c : am_F} {x y r : Int} (hV : MdV c) (h : c 0 45 ≤ 6) : MdV (LgT c x y r) := by
  have h45 := MdV_11 hV
  unfold MdV at hV ⊢
  rw [Lg_k (by decide) (by omega), Lg_45, Lg_h (by decide), Lg_h (by decide)]
  omega
theorem Lg_Wd {c : am_F} {x y r : Int} (hv : MdV c) (hV : MdWd c) : MdWd (LgT c x y r) := fun k h0 h1 => by
  have h8 := MdV_8 hv
  have h45 := MdV_11 hv
  rw [Lg_k (k := 4) (by decide) (by omega)] at h1
  rw [Lg_k (k := 21 + k.toNat) (by omega) (by omega)]
  exact hV k h0 h1
theorem Lg_S {c : am_F} {x y r : Int} (hv : MdV c) (hV : MdS c) : MdS (LgT c x y r) := fun k h0 h1 => by
  have h45 := MdV_11 hv
  rw [Lg_k (k := 4) (by decide) (by omega)] at h1 ⊢
  rw [Lg_k (k := 82 + k.toNat) (by omega) (by omega)]
  exact hV k h0 h1
theorem Lg_Lp {c : am_F} {x y r : Int} (hv : MdV c) (hV : MdLp c) (hx : 0 ≤ x ∧ x ≤ 8) (hy : 0 ≤ y ∧ y ≤ 8) : MdLp (LgT c x y r) := fun k h0 h1 => by
  have h45 := MdV_11 hv
  rw [Lg_45] at h1
  by_cases hk : k = c 0 45
  · subst hk
    unfold LgT
    rw [am_put0 (by omega), am_put_i (j := 0) (by decide), am_put_i (j := 0) (by decide), am_put_s, am_put_i (j := 1) (by decide), am_put_s]
    exact ⟨hx, hy⟩
  · rw [Lg_k (k := 67 + k.toNat) (by omega) (by omega)]
    exact hV k h0 (by omega)
def LgU (c : am_F) (x y r : Int) : am_F := am_put (LgT c x y r) 0 45 (c 0 45 + 1 - 1)
theorem LgU_I {c0 c : am_F} {x y r : Int} (h : LiI c0 c) : LiI c0 (LgU c x y r) := by
  have e0 : c 0 = c0 0 := h 0 (by omega)
  intro k hk
  by_cases h0 : k = 0
  · subst h0
    funext j
    unfold LgU
    by_cases hj : j = 45
    · subst hj
      rw [am_put_s, e0]
      omega
    · rw [am_put_i hj, Lg_h hj, e0]
  · unfold LgU
    rw [am_put0 h0, Lg_k h0 (by rw [e0]; exact hk)]
    exact h k hk
theorem LiI_V {c0 c : am_F} (h : LiI c0 c) (hV : MdV c0) : MdV c := by
  unfold MdV
  rw [h 4 (by omega), h 0 (by omega)]
  exact hV
theorem LiI_Wd {c0 c : am_F} (hv : MdV c0) (h : LiI c0 c) (hV : MdWd c0) : MdWd c := fun k h0 h1 => by
  have h8 := MdV_8 hv
  rw [h 4 (by omega)] at h1
  rw [h (21 + k.toNat) (by omega)]
  exact hV k h0 h1
theorem LiI_S {c0 c : am_F} (hv : MdV c0) (h : LiI c0 c) (hV : MdS c0) : MdS c := fun k h0 h1 => by
  have h45 := MdV_11 hv
  rw [h 4 (by omega)] at h1 ⊢
  rw [h (82 + k.toNat) (by omega)]
  exact hV k h0 h1
theorem LiI_Lp {c0 c : am_F} (h : LiI c0 c) (hV : MdLp c0) : MdLp c := fun k h0 h1 => by
  rw [h 0 (by omega)] at h1
  rw [h (67 + k.toNat) (by omega)]
  exact hV k h0 h1
theorem LiI_Sh {c0 c : am_F} (hv : MdV c0) (h : LiI c0 c) (hV : MdSh c0) : MdSh c := fun k h0 h1 => by
  have h45 := MdV_11 hv
  rw [h 4 (by omega)] at h1 ⊢
  rw [h (128 + k.toNat) (by omega)]
  exact hV k h0 h1
theorem LiI_Du {c0 c : am_F} (h : LiI c0 c) (hV : MdDu c0) : MdDu c := by
  unfold MdDu
  rw [h 0 (by omega)]
  exact hV
theorem Lg_Du {c : am_F} {x y r : Int} (hV : MdDu c) : MdDu (LgT c x y r) := by
  unfold MdDu
  rw [Lg_h (by decide), Lg_h (by decide)]
  exact hV
def g_k_light_98 (k : Int) (r : Int) (y : Int) (x : Int) (x9 : Int × Int × am_F × am_F) : Int × Int × am_F × am_F := let bst := x9.1; let soon := x9.2.1; let c := x9.2.2.1; let q := x9.2.2.2; (let q158 : am_F := k_goes (am_put (am_put (am_put (am_put c (67 + (c 0 45).toNat) 0 x) (67 + (c 0 45).toNat) 1 y) (67 + (c 0 45).toNat) 2 r) 0 45 ((c 0 45) + 1)) q; (let t_176 : Int := (k_comesIn (am_put (am_put (am_put (am_put (am_put c (67 + (c 0 45).toNat) 0 x) (67 + (c 0 45).toNat) 1 y) (67 + (c 0 45).toNat) 2 r) 0 45 ((c 0 45) + 1)) 0 45 (((c 0 45) + 1) - 1)) q158 k); (let bst_181 : Int := (if t_176 = (-1) then bst else (if bst = (-1) then (x + (10 * y)) else (if t_176 < soon then (x + (10 * y)) else bst))); (let soon_181 : Int := (if t_176 = (-1) then soon else (if bst = (-1) then t_176 else (if t_176 < soon then t_176 else soon))); (bst_181, soon_181, (am_put (am_put (am_put (am_put (am_put c (67 + (c 0 45).toNat) 0 x) (67 + (c 0 45).toNat) 1 y) (67 + (c 0 45).toNat) 2 r) 0 45 ((c 0 45) + 1)) 0 45 (((c 0 45) + 1) - 1)), q158)))))
theorem L_k_light_98 {S : am_S} {d u : Nat} {Q : AO → AH → Prop} {w : AH} {b : Nat} (hl : b + 735 ≤ w.length) (k : Int) (r : Int) (what : Int) (c0 : am_F) (y : Int) (hV : MdV c0) (hWd : MdWd c0) (hS9 : MdS c0) (hLp : MdLp c0) (hDu : MdDu c0) (hSh : MdSh c0) (hLm : c0 0 45 = c0 4 2) (hl5 : 0 ≤ c0 0 45 ∧ c0 0 45 ≤ 5) (hks9 : 0 ≤ k ∧ k < c0 4 6) (ho84 : 0 ≤ y ∧ y < c0 4 1) (hd : 5 ≤ d) (B9 : Int) (hB : B9 = c0 4 0) : ∀ (n : Nat) (x : Int) (bst : Int) (soon : Int) (c : am_F) (q : am_F), x + n = B9 → 0 ≤ x → LiI c0 c → (∀ (bst' : Int) (soon' : Int) (c' : am_F) (q' : am_F), bst' = (am_fold (g_k_light_98 k r y) x n (bst, soon, c, q)).1 → soon' = (am_fold (g_k_light_98 k r y) x n (bst, soon, c, q)).2.1 → c' = (am_fold (g_k_light_98 k r y) x n (bst, soon, c, q)).2.2.1 → q' = (am_fold (g_k_light_98 k r y) x n (bst, soon, c, q)).2.2.2 → LiI c0 c' → am_T S zX12_light d u Q 220 [some (aR b), some (aI k), some (aI r), some (aI what), some (aI bst'), some (aI soon'), some (aI y), none, none] [] (mdW w b c' q')) → am_T S zX12_light d u Q 98 [some (aR b), some (aI k), some (aI r), some (aI what), some (aI bst), some (aI soon), some (aI y), some (aI x), none] [] (mdW w b c q) := by
  intro n
  induction n with
  | zero =>
    intro x bst soon c q hi9 h0i hinv k9
    have e9 : x = B9 := by omega
    subst e9
    obtain ⟨vl0, vu0⟩ := MdV_0 hV
    obtain ⟨vl1, vu1⟩ := MdV_1 hV
    obtain ⟨vl2, vu2⟩ := MdV_2 hV
    obtain ⟨vl3, vu3⟩ := MdV_3 hV
    obtain ⟨vl6, vu6⟩ := MdV_6 hV
    obtain ⟨vl11, vu11⟩ := MdV_11 hV
    have hV0 := hV
    have hWd0 := hWd
    have hS90 := hS9
    have hLp0 := hLp
    have hSh0 := hSh
    have hDu0 := hDu
    have hLm0 := hLm
    have hV : MdV c := LiI_V hinv hV0
    have hWd : MdWd c := LiI_Wd hV0 hinv hWd0
    have hS9 : MdS c := LiI_S hV0 hinv hS90
    have hLp : MdLp c := LiI_Lp hinv hLp0
    have hSh : MdSh c := LiI_Sh hV0 hinv hSh0
    have hDu : MdDu c := LiI_Du hinv hDu0
    have e40 : c 4 0 = c0 4 0 := congrFun (hinv 4 (by omega)) 0
    have e41 : c 4 1 = c0 4 1 := congrFun (hinv 4 (by omega)) 1
    have e46 : c 4 6 = c0 4 6 := congrFun (hinv 4 (by omega)) 6
    have e45 : c 0 45 = c0 0 45 := congrFun (hinv 0 (by omega)) 45
    refine T_iload (am_dec tX12_light_1 17 rfl) rfl ?_
    refine T_aload_n (am_dec tX12_light_1 18 rfl) rfl ?_
    refine T_getfield 11 11 (am_dec tX12_light_1 19 rfl) flX12_23_11 (md_obj hl) rfl ?_
    refine T_iconst 0 (am_dec tX12_light_1 20 rfl) rfl ⟨by decide, by decide⟩ ?_
    refine T_ialoadE (x := c 4 0) (am_dec tX12_light_1 21 rfl) (md_told hl) (by omega) (by omega) rfl ?_
    refine T_icmp_ge 220 (am_dec tX12_light_1 22 rfl) rfl (fun h106 => ?_) (fun h106 => by exfalso; omega)
    refine T_weak (ls' := [some (aR b), some (aI k), some (aI r), some (aI what), some (aI bst), some (aI soon), some (aI y), none, none]) (am_sub_s (am_sub_s (am_sub_s (am_sub_s (am_sub_s (am_sub_s (am_sub_s (am_sub_n (am_sub_n am_sub_nil))))))))) ?_
    exact k9 bst soon c q rfl rfl rfl rfl hinv
  | succ n ih =>
    intro x bst soon c q hi9 h0i hinv k9
    obtain ⟨vl0, vu0⟩ := MdV_0 hV
    obtain ⟨vl1, vu1⟩ := MdV_1 hV
    obtain ⟨vl2, vu2⟩ := MdV_2 hV
    obtain ⟨vl3, vu3⟩ := MdV_3 hV
    obtain ⟨vl6, vu6⟩ := MdV_6 hV
    obtain ⟨vl11, vu11⟩ := MdV_11 hV
    have hV0 := hV
    have hWd0 := hWd
    have hS90 := hS9
    have hLp0 := hLp
    have hSh0 := hSh
    have hDu0 := hDu
    have hLm0 := hLm
    have hV : MdV c := LiI_V hinv hV0
    have hWd : MdWd c := LiI_Wd hV0 hinv hWd0
    have hS9 : MdS c := LiI_S hV0 hinv hS90
    have hLp : MdLp c := LiI_Lp hinv hLp0
    have hSh : MdSh c := LiI_Sh hV0 hinv hSh0
    have hDu : MdDu c := LiI_Du hinv hDu0
    have e40 : c 4 0 = c0 4 0 := congrFun (hinv 4 (by omega)) 0
    have e41 : c 4 1 = c0 4 1 := congrFun (hinv 4 (by omega)) 1
    have e46 : c 4 6 = c0 4 6 := congrFun (hinv 4 (by omega)) 6
    have e45 : c 0 45 = c0 0 45 := congrFun (hinv 0 (by omega)) 45
    refine T_iload (am_dec tX12_light_1 17 rfl) rfl ?_
    refine T_aload_n (am_dec tX12_light_1 18 rfl) rfl ?_
    refine T_getfield 11 11 (am_dec tX12_light_1 19 rfl) flX12_23_11 (md_obj hl) rfl ?_
    refine T_iconst 0 (am_dec tX12_light_1 20 rfl) rfl ⟨by decide, by decide⟩ ?_
    refine T_ialoadE (x := c 4 0) (am_dec tX12_light_1 21 rfl) (md_told hl) (by omega) (by omega) rfl ?_
    refine T_icmp_ge 220 (am_dec tX12_light_1 22 rfl) rfl (fun h106 => by exfalso; omega) (fun h106 => ?_)
    refine T_aload_n (am_dec tX12_light_1 23 rfl) rfl ?_
    refine T_getfield 11 19 (am_dec tX12_light_1 24 rfl) flX12_49_11 (md_obj hl) rfl ?_
    refine T_aload_n (am_dec tX12_light_1 25 rfl) rfl ?_
    refine T_getfield 11 45 (am_dec tX12_light_1 26 rfl) flX12_289_11 (md_obj hl) rfl ?_
    refine T_aaloadR (r := b + (67 + (c 0 45).toNat)) (am_dec tX12_light_1 27 rfl) (by decide) (mh_lamp hl) (by omega) (by omega) (if_pos (by omega)) ?_
    refine T_iconst 0 (am_dec tX12_light_1 28 rfl) rfl ⟨by decide, by decide⟩ ?_
    refine T_iload (am_dec tX12_light_1 29 rfl) rfl ?_
    refine T_iastore (am_dec tX12_light_1 30 rfl) (mr_lamp hl (i := (c 0 45)) (by omega) (by omega)) (by omega) (by omega) ?_
    refine am_wE (w2 := mdW w b (am_put c (67 + (c 0 45).toNat) 0 x) q) (md_pc (by omega) (fun f g => md_t_lamp f g (by omega))) ?_
    refine T_aload_n (am_dec tX12_light_1 31 rfl) rfl ?_
    refine T_getfield 11 19 (am_dec tX12_light_1 32 rfl) flX12_49_11 (md_obj hl) rfl ?_
    refine T_aload_n (am_dec tX12_light_1 33 rfl) rfl ?_
    refine T_getfield 11 45 (am_dec tX12_light_1 34 rfl) flX12_289_11 (md_obj hl) (md_fe rfl (am_put_k (by omega))) ?_
    refine T_aaloadR (r := b + (67 + (c 0 45).toNat)) (am_dec tX12_light_1 35 rfl) (by decide) (mh_lamp hl) (by omega) (by omega) (if_pos (by omega)) ?_
    refine T_iconst 1 (am_dec tX12_light_1 36 rfl) rfl ⟨by decide, by decide⟩ ?_
    refine T_iload (am_dec tX12_light_1 37 rfl) rfl ?_
    refine T_iastore (am_dec tX12_light_1 38 rfl) (mr_lamp hl (i := (c 0 45)) (by omega) (by omega)) (by omega) (by omega) ?_
    refine am_wE (w2 := mdW w b (am_put (am_put c (67 + (c 0 45).toNat) 0 x) (67 + (c 0 45).toNat) 1 y) q) (md_pc (by omega) (fun f g => md_t_lamp f g (by omega))) ?_
    refine T_aload_n (am_dec tX12_light_1 39 rfl) rfl ?_
    refine T_getfield 11 19 (am_dec tX12_light_2 0 rfl) flX12_49_11 (md_obj hl) rfl ?_
    refine T_aload_n (am_dec tX12_light_2 1 rfl) rfl ?_
    refine T_getfield 11 45 (am_dec tX12_light_2 2 rfl) flX12_289_11 (md_obj hl) (md_fe rfl ((am_put_k (by omega)).trans (am_put_k (by omega)))) ?_
    refine T_aaloadR (r := b + (67 + (c 0 45).toNat)) (am_dec tX12_light_2 3 rfl) (by decide) (mh_lamp hl) (by omega) (by omega) (if_pos (by omega)) ?_
    refine T_iconst 2 (am_dec tX12_light_2 4 rfl) rfl ⟨by decide, by decide⟩ ?_
    refine T_iload_n (am_dec tX12_light_2 5 rfl) rfl ?_
    refine T_iastore (am_dec tX12_light_2 6 rfl) (mr_lamp hl (i := (c 0 45)) (by omega) (by omega)) (by omega) (by omega) ?_
    refine am_wE (w2 := mdW w b (am_put (am_put (am_put c (67 + (c 0 45).toNat) 0 x) (67 + (c 0 45).toNat) 1 y) (67 + (c 0 45).toNat) 2 r) q) (md_pc (by omega) (fun f g => md_t_lamp f g (by omega))) ?_
    refine T_aload_n (am_dec tX12_light_2 7 rfl) rfl ?_
    refine T_dup (am_dec tX12_light_2 8 rfl) rfl ?_
    refine T_getfield 11 45 (am_dec tX12_light_2 9 rfl) flX12_289_11 (md_obj hl) (md_fe rfl ((am_put_k (by omega)).trans ((am_put_k (by omega)).trans (am_put_k (by omega))))) ?_
    refine T_iconst 1 (am_dec tX12_light_2 10 rfl) rfl ⟨by decide, by decide⟩ ?_
    refine T_iadd ((c 0 45) + 1) (am_dec tX12_light_2 11 rfl) rfl ⟨by omega, by omega⟩ ?_
    refine T_putfield (fs' := mdO b (am_up ((am_put (am_put (am_put c (67 + (c 0 45).toNat) 0 x) (67 + (c 0 45).toNat) 1 y) (67 + (c 0 45).toNat) 2 r) 0) 45 ((c 0 45) + 1)) (q 0)) 11 45 (am_dec tX12_light_2 12 rfl) flX12_289_11 rfl rfl rfl trivial (md_obj hl) (Nat.le_of_ble_eq_true rfl) rfl ?_
    refine am_wE (w2 := mdW w b (am_put (am_put (am_put (am_put c (67 + (c 0 45).toNat) 0 x) (67 + (c 0 45).toNat) 1 y) (67 + (c 0 45).toNat) 2 r) 0 45 ((c 0 45) + 1)) q) (md_fc) ?_
    refine T_aload_n (am_dec tX12_light_2 13 rfl) rfl ?_
    refine T_callV (as := []) rfl (am_dec tX12_light_2 14 rfl) lkX12_345 (md_obj hl) rfl rfl (Nat.le_of_ble_eq_true rfl) (by omega) (mk_goes (d := d - 1) hl   (Lg_V hV (by omega)) (Lg_Wd hV hWd) (Lg_S hV hS9) (Lg_Lp hV hLp (by omega) (by omega)) (Lg_Du hDu) (by omega)) (fun _ => ?_)
    refine T_nmH (W := fun x9 => mdW w b (am_put (am_put (am_put (am_put c (67 + (c 0 45).toNat) 0 x) (67 + (c 0 45).toNat) 1 y) (67 + (c 0 45).toNat) 2 r) 0 45 ((c 0 45) + 1)) x9) (v := k_goes (am_put (am_put (am_put (am_put c (67 + (c 0 45).toNat) 0 x) (67 + (c 0 45).toNat) 1 y) (67 + (c 0 45).toNat) 2 r) 0 45 ((c 0 45) + 1)) q) (fun q158 hq158 => ?_)
    refine T_aload_n (am_dec tX12_light_2 15 rfl) rfl ?_
    refine T_dup (am_dec tX12_light_2 16 rfl) rfl ?_
    refine T_getfield 11 45 (am_dec tX12_light_2 17 rfl) flX12_289_11 (md_obj hl) (md_fe rfl (am_put_s)) ?_
    refine T_iconst 1 (am_dec tX12_light_2 18 rfl) rfl ⟨by decide, by decide⟩ ?_
    refine T_isub (((c 0 45) + 1) - 1) (am_dec tX12_light_2 19 rfl) rfl ⟨by omega, by omega⟩ ?_
    refine T_putfield (fs' := mdO b (am_up ((am_put (am_put (am_put (am_put c (67 + (c 0 45).toNat) 0 x) (67 + (c 0 45).toNat) 1 y) (67 + (c 0 45).toNat) 2 r) 0 45 ((c 0 45) + 1)) 0) 45 (((c 0 45) + 1) - 1)) (q158 0)) 11 45 (am_dec tX12_light_2 20 rfl) flX12_289_11 rfl rfl rfl trivial (md_obj hl) (Nat.le_of_ble_eq_true rfl) rfl ?_
    refine am_wE (w2 := mdW w b (am_put (am_put (am_put (am_put (am_put c (67 + (c 0 45).toNat) 0 x) (67 + (c 0 45).toNat) 1 y) (67 + (c 0 45).toNat) 2 r) 0 45 ((c 0 45) + 1)) 0 45 (((c 0 45) + 1) - 1)) q158) (md_fc) ?_
    have e47 : (LgU c x y r) 4 6 = c0 4 6 := congrFun (LgU_I hinv 4 (by omega)) 6
    unfold LgU LgT at e47
    refine T_aload_n (am_dec tX12_light_2 21 rfl) rfl ?_
    refine T_iload_n (am_dec tX12_light_2 22 rfl) rfl ?_
    refine T_callV (as := [aI k]) rfl (am_dec tX12_light_2 23 rfl) lkX12_432 (md_obj hl) rfl rfl (Nat.le_of_ble_eq_true rfl) (by omega) (mk_comesIn (d := d - 1) hl k  (LiI_V (LgU_I hinv) hV0) (LiI_Sh hV0 (LgU_I hinv) hSh0) (by omega) (by omega)) (fun _ => ?_)
    refine T_nm (fun t_176 ht_176 => ?_)
    refine T_istore (ls' := [some (aR b), some (aI k), some (aI r), some (aI what), some (aI bst), some (aI soon), some (aI y), some (aI x), some (aI t_176)]) (am_dec tX12_light_2 24 rfl) (by decide) rfl ?_
    refine T_iload (am_dec tX12_light_2 25 rfl) rfl ?_
    refine T_iconst (-1) (am_dec tX12_light_2 26 rfl) rfl ⟨by decide, by decide⟩ ?_
    have K181 : ∀ (bst_181 : Int), ∀ (soon_181 : Int), bst_181 = (if t_176 = (-1) then bst else (if bst = (-1) then (x + (10 * y)) else (if t_176 < soon then (x + (10 * y)) else bst))) → soon_181 = (if t_176 = (-1) then soon else (if bst = (-1) then t_176 else (if t_176 < soon then t_176 else soon))) →  am_T S zX12_light d u Q 214 [some (aR b), some (aI k), some (aI r), some (aI what), some (aI bst_181), some (aI soon_181), some (aI y), some (aI x), none] [] (mdW w b (am_put (am_put (am_put (am_put (am_put c (67 + (c 0 45).toNat) 0 x) (67 + (c 0 45).toNat) 1 y) (67 + (c 0 45).toNat) 2 r) 0 45 ((c 0 45) + 1)) 0 45 (((c 0 45) + 1) - 1)) q158) := by
      intro bst_181 soon_181 hbst_181 hsoon_181
      refine T_iinc (ls' := [some (aR b), some (aI k), some (aI r), some (aI what), some (aI bst_181), some (aI soon_181), some (aI y), some (aI (x + 1)), none]) (x + 1) (am_dec tX12_light_3 3 rfl) rfl rfl ⟨by omega, by omega⟩ (by decide) rfl ?_
      refine T_goto 98 (am_dec tX12_light_3 4 rfl) rfl ?_
      have e9 : (g_k_light_98 k r y) x (bst, soon, c, q) = (bst_181, soon_181, (am_put (am_put (am_put (am_put (am_put c (67 + (c 0 45).toNat) 0 x) (67 + (c 0 45).toNat) 1 y) (67 + (c 0 45).toNat) 2 r) 0 45 ((c 0 45) + 1)) 0 45 (((c 0 45) + 1) - 1)), q158) := (by have s9 := hq158.symm; subst s9; have s9 := ht_176.symm; subst s9; have s9 := hbst_181.symm; subst s9; have s9 := hsoon_181.symm; subst s9; exact rfl)
      simp only [am_fold_s, e9] at k9
      exact ih (x + 1) bst_181 soon_181 (am_put (am_put (am_put (am_put (am_put c (67 + (c 0 45).toNat) 0 x) (67 + (c 0 45).toNat) 1 y) (67 + (c 0 45).toNat) 2 r) 0 45 ((c 0 45) + 1)) 0 45 (((c 0 45) + 1) - 1)) q158 (by omega) (by omega) (LgU_I hinv) k9
    refine T_icmp_eq 214 (am_dec tX12_light_2 27 rfl) rfl (fun h181 => ?_) (fun h181 => ?_)
    · refine T_weak (ls' := [some (aR b), some (aI k), some (aI r), some (aI what), some (aI bst), some (aI soon), some (aI y), some (aI x), none]) (am_sub_s (am_sub_s (am_sub_s (am_sub_s (am_sub_s (am_sub_s (am_sub_s (am_sub_s (am_sub_n am_sub_nil))))))))) ?_
      exact K181 _ _ (if_pos h181).symm (if_pos h181).symm
    · refine T_iload (am_dec tX12_light_2 28 rfl) rfl ?_
      refine T_iconst (-1) (am_dec tX12_light_2 29 rfl) rfl ⟨by decide, by decide⟩ ?_
      have K187 : ∀ (bst_187 : Int), ∀ (soon_187 : Int), bst_187 = (if bst = (-1) then (x + (10 * y)) else (if t_176 < soon then (x + (10 * y)) else bst)) → soon_187 = (if bst = (-1) then t_176 else (if t_176 < soon then t_176 else soon)) →  am_T S zX12_light d u Q 214 [some (aR b), some (aI k), some (aI r), some (aI what), some (aI bst_187), some (aI soon_187), some (aI y), some (aI x), none] [] (mdW w b (am_put (am_put (am_put (am_put (am_put c (67 + (c 0 45).toNat) 0 x) (67 + (c 0 45).toNat) 1 y) (67 + (c 0 45).toNat) 2 r) 0 45 ((c 0 45) + 1)) 0 45 (((c 0 45) + 1) - 1)) q158) := by
        intro bst_187 soon_187 hbst_187 hsoon_187
        exact K181 _ _ (by have s9 := hbst_187.symm; subst s9; have s9 := hsoon_187.symm; subst s9; exact (if_neg h181).symm) (by have s9 := hbst_187.symm; subst s9; have s9 := hsoon_187.symm; subst s9; exact (if_neg h181).symm)
      refine T_icmp_eq 200 (am_dec tX12_light_2 30 rfl) rfl (fun h187 => ?_) (fun h187 => ?_)
      · refine T_iload (am_dec tX12_light_2 35 rfl) rfl ?_
        refine T_bipush 10 (am_dec tX12_light_2 36 rfl) rfl ⟨by decide, by decide⟩ ?_
        refine T_iload (am_dec tX12_light_2 37 rfl) rfl ?_
        refine T_imul (10 * y) (am_dec tX12_light_2 38 rfl) rfl ⟨by omega, by omega⟩ ?_
        refine T_iadd (x + (10 * y)) (am_dec tX12_light_2 39 rfl) rfl ⟨by omega, by omega⟩ ?_
        refine T_istore (ls' := [some (aR b), some (aI k), some (aI r), some (aI what), some (aI (x + (10 * y))), some (aI soon), some (aI y), some (aI x), some (aI t_176)]) (am_dec tX12_light_3 0 rfl) (by decide) rfl ?_
        refine T_iload (am_dec tX12_light_3 1 rfl) rfl ?_
        refine T_istore (ls' := [some (aR b), some (aI k), some (aI r), some (aI what), some (aI (x + (10 * y))), some (aI t_176), some (aI y), some (aI x), some (aI t_176)]) (am_dec tX12_light_3 2 rfl) (by decide) rfl ?_
        refine T_weak (ls' := [some (aR b), some (aI k), some (aI r), some (aI what), some (aI (x + (10 * y))), some (aI t_176), some (aI y), some (aI x), none]) (am_sub_s (am_sub_s (am_sub_s (am_sub_s (am_sub_s (am_sub_s (am_sub_s (am_sub_s (am_sub_n am_sub_nil))))))))) ?_
        exact K187 _ _ (if_pos h187).symm (if_pos h187).symm
      · refine T_iload (am_dec tX12_light_2 31 rfl) rfl ?_
        refine T_iload (am_dec tX12_light_2 32 rfl) rfl ?_
        have K194 : ∀ (bst_194 : Int), ∀ (soon_194 : Int), bst_194 = (if t_176 < soon then (x + (10 * y)) else bst) → soon_194 = (if t_176 < soon then t_176 else soon) →  am_T S zX12_light d u Q 214 [some (aR b), some (aI k), some (aI r), some (aI what), some (aI bst_194), some (aI soon_194), some (aI y), some (aI x), none] [] (mdW w b (am_put (am_put (am_put (am_put (am_put c (67 + (c 0 45).toNat) 0 x) (67 + (c 0 45).toNat) 1 y) (67 + (c 0 45).toNat) 2 r) 0 45 ((c 0 45) + 1)) 0 45 (((c 0 45) + 1) - 1)) q158) := by
          intro bst_194 soon_194 hbst_194 hsoon_194
          exact K187 _ _ (by have s9 := hbst_194.symm; subst s9; have s9 := hsoon_194.symm; subst s9; exact (if_neg h187).symm) (by have s9 := hbst_194.symm; subst s9; have s9 := hsoon_194.symm; subst s9; exact (if_neg h187).symm)
        refine T_icmp_lt 200 (am_dec tX12_light_2 33 rfl) rfl (fun h194 => ?_) (fun h194 => ?_)
        · refine T_iload (am_dec tX12_light_2 35 rfl) rfl ?_
          refine T_bipush 10 (am_dec tX12_light_2 36 rfl) rfl ⟨by decide, by decide⟩ ?_
          refine T_iload (am_dec tX12_light_2 37 rfl) rfl ?_
          refine T_imul (10 * y) (am_dec tX12_light_2 38 rfl) rfl ⟨by omega, by omega⟩ ?_
          refine T_iadd (x + (10 * y)) (am_dec tX12_light_2 39 rfl) rfl ⟨by omega, by omega⟩ ?_
          refine T_istore (ls' := [some (aR b), some (aI k), some (aI r), some (aI what), some (aI (x + (10 * y))), some (aI soon), some (aI y), some (aI x), some (aI t_176)]) (am_dec tX12_light_3 0 rfl) (by decide) rfl ?_
          refine T_iload (am_dec tX12_light_3 1 rfl) rfl ?_
          refine T_istore (ls' := [some (aR b), some (aI k), some (aI r), some (aI what), some (aI (x + (10 * y))), some (aI t_176), some (aI y), some (aI x), some (aI t_176)]) (am_dec tX12_light_3 2 rfl) (by decide) rfl ?_
          refine T_weak (ls' := [some (aR b), some (aI k), some (aI r), some (aI what), some (aI (x + (10 * y))), some (aI t_176), some (aI y), some (aI x), none]) (am_sub_s (am_sub_s (am_sub_s (am_sub_s (am_sub_s (am_sub_s (am_sub_s (am_sub_s (am_sub_n am_sub_nil))))))))) ?_
          exact K194 _ _ (if_pos h194).symm (if_pos h194).symm
        · refine T_goto 214 (am_dec tX12_light_2 34 rfl) rfl ?_
          refine T_weak (ls' := [some (aR b), some (aI k), some (aI r), some (aI what), some (aI bst), some (aI soon), some (aI y), some (aI x), none]) (am_sub_s (am_sub_s (am_sub_s (am_sub_s (am_sub_s (am_sub_s (am_sub_s (am_sub_s (am_sub_n am_sub_nil))))))))) ?_
          exact K194 _ _ (if_neg h194).symm (if_neg h194).symm
def g_k_light_84 (k : Int) (r : Int) (c0 : am_F) (y : Int) (x9 : Int × Int × am_F × am_F) : Int × Int × am_F × am_F := let bst := x9.1; let soon := x9.2.1; let c := x9.2.2.1; let q := x9.2.2.2; (let bst_98 : Int := (am_fold (g_k_light_98 k r y) 0 (c0 4 0).toNat (bst, soon, c, q)).1; (let soon_98 : Int := (am_fold (g_k_light_98 k r y) 0 (c0 4 0).toNat (bst, soon, c, q)).2.1; (let c98 : am_F := (am_fold (g_k_light_98 k r y) 0 (c0 4 0).toNat (bst, soon, c, q)).2.2.1; (let q98 : am_F := (am_fold (g_k_light_98 k r y) 0 (c0 4 0).toNat (bst, soon, c, q)).2.2.2; (bst_98, soon_98, c98, q98)))))
theorem L_k_light_84 {S : am_S} {d u : Nat} {Q : AO → AH → Prop} {w : AH} {b : Nat} (hl : b + 735 ≤ w.length) (k : Int) (r : Int) (what : Int) (c0 : am_F) (hV : MdV c0) (hWd : MdWd c0) (hS9 : MdS c0) (hLp : MdLp c0) (hDu : MdDu c0) (hSh : MdSh c0) (hLm : c0 0 45 = c0 4 2) (hl5 : 0 ≤ c0 0 45 ∧ c0 0 45 ≤ 5) (hks9 : 0 ≤ k ∧ k < c0 4 6) (hd : 5 ≤ d) (B9 : Int) (hB : B9 = c0 4 1) : ∀ (n : Nat) (y : Int) (bst : Int) (soon : Int) (c : am_F) (q : am_F), y + n = B9 → 0 ≤ y → LiI c0 c → (∀ (bst' : Int) (soon' : Int) (c' : am_F) (q' : am_F), bst' = (am_fold (g_k_light_84 k r c0) y n (bst, soon, c, q)).1 → soon' = (am_fold (g_k_light_84 k r c0) y n (bst, soon, c, q)).2.1 → c' = (am_fold (g_k_light_84 k r c0) y n (bst, soon, c, q)).2.2.1 → q' = (am_fold (g_k_light_84 k r c0) y n (bst, soon, c, q)).2.2.2 → LiI c0 c' → am_T S zX12_light d u Q 226 [none, none, none, some (aI what), some (aI bst'), some (aI soon'), none, none, none] [] (mdW w b c' q')) → am_T S zX12_light d u Q 84 [some (aR b), some (aI k), some (aI r), some (aI what), some (aI bst), some (aI soon), some (aI y), none, none] [] (mdW w b c q) := by
  intro n
  induction n with
  | zero =>
    intro y bst soon c q hi9 h0i hinv k9
    have e9 : y = B9 := by omega
    subst e9
    obtain ⟨vl0, vu0⟩ := MdV_0 hV
    obtain ⟨vl1, vu1⟩ := MdV_1 hV
    obtain ⟨vl2, vu2⟩ := MdV_2 hV
    obtain ⟨vl3, vu3⟩ := MdV_3 hV
    obtain ⟨vl6, vu6⟩ := MdV_6 hV
    obtain ⟨vl11, vu11⟩ := MdV_11 hV
    have hV0 := hV
    have hWd0 := hWd
    have hS90 := hS9
    have hLp0 := hLp
    have hSh0 := hSh
    have hDu0 := hDu
    have hLm0 := hLm
    have hV : MdV c := LiI_V hinv hV0
    have hWd : MdWd c := LiI_Wd hV0 hinv hWd0
    have hS9 : MdS c := LiI_S hV0 hinv hS90
    have hLp : MdLp c := LiI_Lp hinv hLp0
    have hSh : MdSh c := LiI_Sh hV0 hinv hSh0
    have hDu : MdDu c := LiI_Du hinv hDu0
    have e40 : c 4 0 = c0 4 0 := congrFun (hinv 4 (by omega)) 0
    have e41 : c 4 1 = c0 4 1 := congrFun (hinv 4 (by omega)) 1
    have e46 : c 4 6 = c0 4 6 := congrFun (hinv 4 (by omega)) 6
    have e45 : c 0 45 = c0 0 45 := congrFun (hinv 0 (by omega)) 45
    refine T_iload (am_dec tX12_light_1 9 rfl) rfl ?_
    refine T_aload_n (am_dec tX12_light_1 10 rfl) rfl ?_
    refine T_getfield 11 11 (am_dec tX12_light_1 11 rfl) flX12_23_11 (md_obj hl) rfl ?_
    refine T_iconst 1 (am_dec tX12_light_1 12 rfl) rfl ⟨by decide, by decide⟩ ?_
    refine T_ialoadE (x := c 4 1) (am_dec tX12_light_1 13 rfl) (md_told hl) (by omega) (by omega) rfl ?_
    refine T_icmp_ge 226 (am_dec tX12_light_1 14 rfl) rfl (fun h92 => ?_) (fun h92 => by exfalso; omega)
    refine T_weak (ls' := [none, none, none, some (aI what), some (aI bst), some (aI soon), none, none, none]) (am_sub_n (am_sub_n (am_sub_n (am_sub_s (am_sub_s (am_sub_s (am_sub_n (am_sub_n (am_sub_n am_sub_nil))))))))) ?_
    exact k9 bst soon c q rfl rfl rfl rfl hinv
  | succ n ih =>
    intro y bst soon c q hi9 h0i hinv k9
    obtain ⟨vl0, vu0⟩ := MdV_0 hV
    obtain ⟨vl1, vu1⟩ := MdV_1 hV
    obtain ⟨vl2, vu2⟩ := MdV_2 hV
    obtain ⟨vl3, vu3⟩ := MdV_3 hV
    obtain ⟨vl6, vu6⟩ := MdV_6 hV
    obtain ⟨vl11, vu11⟩ := MdV_11 hV
    have hV0 := hV
    have hWd0 := hWd
    have hS90 := hS9
    have hLp0 := hLp
    have hSh0 := hSh
    have hDu0 := hDu
    have hLm0 := hLm
    have hV : MdV c := LiI_V hinv hV0
    have hWd : MdWd c := LiI_Wd hV0 hinv hWd0
    have hS9 : MdS c := LiI_S hV0 hinv hS90
    have hLp : MdLp c := LiI_Lp hinv hLp0
    have hSh : MdSh c := LiI_Sh hV0 hinv hSh0
    have hDu : MdDu c := LiI_Du hinv hDu0
    have e40 : c 4 0 = c0 4 0 := congrFun (hinv 4 (by omega)) 0
    have e41 : c 4 1 = c0 4 1 := congrFun (hinv 4 (by omega)) 1
    have e46 : c 4 6 = c0 4 6 := congrFun (hinv 4 (by omega)) 6
    have e45 : c 0 45 = c0 0 45 := congrFun (hinv 0 (by omega)) 45
    refine T_iload (am_dec tX12_light_1 9 rfl) rfl ?_
    refine T_aload_n (am_dec tX12_light_1 10 rfl) rfl ?_
    refine T_getfield 11 11 (am_dec tX12_light_1 11 rfl) flX12_23_11 (md_obj hl) rfl ?_
    refine T_iconst 1 (am_dec tX12_light_1 12 rfl) rfl ⟨by decide, by decide⟩ ?_
    refine T_ialoadE (x := c 4 1) (am_dec tX12_light_1 13 rfl) (md_told hl) (by omega) (by omega) rfl ?_
    refine T_icmp_ge 226 (am_dec tX12_light_1 14 rfl) rfl (fun h92 => by exfalso; omega) (fun h92 => ?_)
    refine T_iconst 0 (am_dec tX12_light_1 15 rfl) rfl ⟨by decide, by decide⟩ ?_
    refine T_istore (ls' := [some (aR b), some (aI k), some (aI r), some (aI what), some (aI bst), some (aI soon), some (aI y), some (aI 0), none]) (am_dec tX12_light_1 16 rfl) (by decide) rfl ?_
    refine L_k_light_98 hl k r what c0 y hV0 hWd0 hS90 hLp0 hDu0 hSh0 hLm0 (by omega) (by omega) (by omega) (by omega) _ rfl (c0 4 0).toNat 0 bst soon c q (by omega) (by omega) hinv (fun bst_98 soon_98 c98 q98 hbst_98 hsoon_98 hc98 hq98 hv98 => ?_)
    refine T_iinc (ls' := [some (aR b), some (aI k), some (aI r), some (aI what), some (aI bst_98), some (aI soon_98), some (aI (y + 1)), none, none]) (y + 1) (am_dec tX12_light_3 5 rfl) rfl rfl ⟨by omega, by omega⟩ (by decide) rfl ?_
    refine T_goto 84 (am_dec tX12_light_3 6 rfl) rfl ?_
    have e9 : (g_k_light_84 k r c0) y (bst, soon, c, q) = (bst_98, soon_98, c98, q98) := (by have s9 := hbst_98.symm; subst s9; have s9 := hsoon_98.symm; subst s9; have s9 := hc98.symm; subst s9; have s9 := hq98.symm; subst s9; exact rfl)
    simp only [am_fold_s, e9] at k9
    exact ih (y + 1) bst_98 soon_98 c98 q98 (by omega) (by omega) hv98 k9
def k_light (c : am_F) (q : am_F) (k : Int) (r : Int) (what : Int) : Int × am_F × am_F := (let z8 : Int := (k_isShip c k); (let t11 : Int := (if z8 = 0 then 1 else 0); (let q21 : am_F := (k_refuse (am_put q 0 0 0) t11 1 1); (let z21 : Int := (if t11 = 0 then 0 else 1); (if z21 = 0 then (let z32 : Int := (k_in r 1 20); (let t35 : Int := (if z32 = 0 then 1 else (let z41 : Int := (k_in what 0 1); (if z41 = 0 then 1 else 0))); (let q54 : am_F := (k_refuse q21 t35 2 2); (let z54 : Int := (if t35 = 0 then 0 else 1); (if z54 = 0 then (if c 4 2 = 6 then ((-1), c, q54) else (let bst_84 : Int := (am_fold (g_k_light_84 k r c) 0 (c 4 1).toNat ((-1), 0, c, q54)).1; (let soon_84 : Int := (am_fold (g_k_light_84 k r c) 0 (c 4 1).toNat ((-1), 0, c, q54)).2.1; (let c84 : am_F := (am_fold (g_k_light_84 k r c) 0 (c 4 1).toNat ((-1), 0, c, q54)).2.2.1; (let q84 : am_F := (am_fold (g_k_light_84 k r c) 0 (c 4 1).toNat ((-1), 0, c, q54)).2.2.2; (let t227 : Int := (if what = 0 then bst_84 else (if bst_84 = (-1) then bst_84 else soon_84)); (t227, c84, q84))))))) else (0, c, q54)))))) else (0, c, q21))))))
theorem mk_light {S : am_S} {d u : Nat} {w : AH} {b : Nat} (hl : b + 735 ≤ w.length) {c : am_F} {q : am_F} (k : Int) (r : Int) (what : Int) (hV : MdV c) (hWd : MdWd c) (hS9 : MdS c) (hLp : MdLp c) (hDu : MdDu c) (hSh : MdSh c) (hLm : c 0 45 = c 4 2) (hd : 5 ≤ d) : am_Out S zX12_light d u [aR b, aI k, aI r, aI what] (mdW w b c q) (.inl (some (aI ((k_light c q k r what).1)))) (mdW w b ((k_light c q k r what).2.1) ((k_light c q k r what).2.2)) := by
  have key : ∀ Q : AO → AH → Prop, Q (.inl (some (aI ((k_light c q k r what).1)))) (mdW w b ((k_light c q k r what).2.1) ((k_light c q k r what).2.2)) → am_M S zX12_light d u [aR b, aI k, aI r, aI what] (mdW w b c q) Q := by
    intro Q hQ
    refine am_body rfl (by decide +kernel) rfl (am_cats_cons rfl ( am_cats_cons rfl ( am_cats_cons rfl ( am_cats_cons rfl (am_cats_nil))))) (Nat.le_of_ble_eq_true rfl) (?_ : am_T _ _ _ _ _ 0 [some (aR b), some (aI k), some (aI r), some (aI what), none, none, none, none, none] [] (mdW w b c q))
    obtain ⟨vl0, vu0⟩ := MdV_0 hV
    obtain ⟨vl1, vu1⟩ := MdV_1 hV
    obtain ⟨vl2, vu2⟩ := MdV_2 hV
    obtain ⟨vl3, vu3⟩ := MdV_3 hV
    obtain ⟨vl6, vu6⟩ := MdV_6 hV
    obtain ⟨vl11, vu11⟩ := MdV_11 hV
    refine T_aload_n (am_dec tX12_light_0 0 rfl) rfl ?_
    refine T_iconst 0 (am_dec tX12_light_0 1 rfl) rfl ⟨by decide, by decide⟩ ?_
    refine T_putfield (fs' := mdO b (c 0) (am_up (q 0) 0 0)) 11 0 (am_dec tX12_light_0 2 rfl) flX12_160_11 rfl rfl rfl trivial (md_obj hl) (Nat.le_of_ble_eq_true rfl) rfl ?_
    refine am_wE (w2 := mdW w b c (am_put q 0 0 0)) (md_fq) ?_
    refine T_aload_n (am_dec tX12_light_0 3 rfl) rfl ?_
    refine T_aload_n (am_dec tX12_light_0 4 rfl) rfl ?_
    refine T_iload_n (am_dec tX12_light_0 5 rfl) rfl ?_
    refine T_callV (as := [aI k]) rfl (am_dec tX12_light_0 6 rfl) lkX12_429 (md_obj hl) rfl rfl (Nat.le_of_ble_eq_true rfl) (by omega) (mk_isShip (d := d - 1) hl k  hV (by omega)) (fun _ => ?_)
    refine T_nm (fun z8 hz8 => ?_)
    have hb8 := k_isShip_b c k
    rw [← hz8] at hb8
    have hs8 := k_isShip_s c k
    rw [← hz8] at hs8
    have K11 : ∀ (t11 : Int), t11 = (if z8 = 0 then 1 else 0) →  am_T S zX12_light d u Q 19 [some (aR b), some (aI k), some (aI r), some (aI what), none, none, none, none, none] [aI t11, aR b] (mdW w b c (am_put q 0 0 0)) := by
      intro t11 ht11
      have hbt11 : t11 = 0 ∨ t11 = 1 := by
        rw [ht11]
        try dsimp only
        repeat' split
        all_goals first | exact Or.inl rfl | exact Or.inr rfl | apply k_in_b | apply k_isDigit_b | apply k_isSmall_b | apply k_bad_b | apply k_isIn_b | apply k_isStep_b | apply k_isFirst_b | apply k_isLine_b | apply k_seesBy_b | apply k_isWalker_b | apply k_seesOne_b | apply k_badTwo_b | apply k_sees_b | apply k_isCode_b | apply k_isLot_b | apply k_isShip_b | apply k_areRight_b | apply k_right_b | apply k_areSeeds_b | omega
      refine T_iconst 1 (am_dec tX12_light_0 11 rfl) rfl ⟨by decide, by decide⟩ ?_
      refine T_iconst 1 (am_dec tX12_light_0 12 rfl) rfl ⟨by decide, by decide⟩ ?_
      refine T_callV (as := [aI t11, aI 1, aI 1]) rfl (am_dec tX12_light_0 13 rfl) lkX12_275 (md_obj hl) rfl rfl (Nat.le_of_ble_eq_true rfl) (by omega) (mk_bad0 (d := d - 1) hl t11 1 1 (by omega) am_put_s (by omega)) (fun _ => ?_)
      refine T_nmH (W := fun x9 => mdW w b c x9) (v := (k_refuse (am_put q 0 0 0) t11 1 1)) (fun q21 hq21 => ?_)
      refine T_nm (fun z21 hz21 => ?_)
      have hq021 : t11 = 0 → q21 0 0 = 0 := fun h9 => by rw [hq21]; exact k_refuse_0 am_put_s h9
      refine T_if_ne 60 (am_dec tX12_light_0 14 rfl) rfl (fun h24 => ?_) (fun h24 => ?_)
      · refine T_iconst 0 (am_dec tX12_light_0 33 rfl) rfl ⟨by decide, by decide⟩ ?_
        exact T_ireturn (am_dec tX12_light_0 34 rfl) rfl (am_tr (fun (x9 : Int × am_F × am_F) => Q (.inl (some (aI (x9.1)))) (mdW w b x9.2.1 x9.2.2)) (y := (0, c, q21)) (show (k_light c q k r what) = (0, c, q21) from (by have s9 := hz8.symm; subst s9; have s9 := ht11.symm; subst s9; have s9 := hq21.symm; subst s9; have s9 := hz21.symm; subst s9; exact (if_neg h24))) hQ)
      · refine T_aload_n (am_dec tX12_light_0 15 rfl) rfl ?_
        refine T_iload_n (am_dec tX12_light_0 16 rfl) rfl ?_
        refine T_iconst 1 (am_dec tX12_light_0 17 rfl) rfl ⟨by decide, by decide⟩ ?_
        refine T_bipush 20 (am_dec tX12_light_0 18 rfl) rfl ⟨by decide, by decide⟩ ?_
        refine T_callS (as := [aI r, aI 1, aI 20]) rfl (am_dec tX12_light_0 19 rfl) lkX12_194 rfl (Nat.le_of_ble_eq_true rfl) (by omega) (mk_in (d := d - 1)  r 1 20   ) (fun _ => ?_)
        refine T_nm (fun z32 hz32 => ?_)
        have hb32 := k_in_b r 1 20
        rw [← hz32] at hb32
        have hs32 := k_in_s r 1 20
        rw [← hz32] at hs32
        have K35 : ∀ (t35 : Int), t35 = (if z32 = 0 then 1 else (let z41 : Int := (k_in what 0 1); (if z41 = 0 then 1 else 0))) →  am_T S zX12_light d u Q 52 [some (aR b), some (aI k), some (aI r), some (aI what), none, none, none, none, none] [aI t35, aR b] (mdW w b c q21) := by
          intro t35 ht35
          have hxt35 := ht35
          dsimp only at hxt35
          have hy2 := k_in_s what 0 1
          have hbt35 : t35 = 0 ∨ t35 = 1 := by
            rw [ht35]
            try dsimp only
            repeat' split
            all_goals first | exact Or.inl rfl | exact Or.inr rfl | apply k_in_b | apply k_isDigit_b | apply k_isSmall_b | apply k_bad_b | apply k_isIn_b | apply k_isStep_b | apply k_isFirst_b | apply k_isLine_b | apply k_seesBy_b | apply k_isWalker_b | apply k_seesOne_b | apply k_badTwo_b | apply k_sees_b | apply k_isCode_b | apply k_isLot_b | apply k_isShip_b | apply k_areRight_b | apply k_right_b | apply k_areSeeds_b | omega
          refine T_iconst 2 (am_dec tX12_light_0 29 rfl) rfl ⟨by decide, by decide⟩ ?_
          refine T_iconst 2 (am_dec tX12_light_0 30 rfl) rfl ⟨by decide, by decide⟩ ?_
          refine T_callV (as := [aI t35, aI 2, aI 2]) rfl (am_dec tX12_light_0 31 rfl) lkX12_275 (md_obj hl) rfl rfl (Nat.le_of_ble_eq_true rfl) (by omega) (mk_bad0 (d := d - 1) hl t35 2 2 (by omega) (hq021 (by omega)) (by omega)) (fun _ => ?_)
          refine T_nmH (W := fun x9 => mdW w b c x9) (v := (k_refuse q21 t35 2 2)) (fun q54 hq54 => ?_)
          refine T_nm (fun z54 hz54 => ?_)
          have hq054 : t35 = 0 → q54 0 0 = 0 := fun h9 => by rw [hq54]; exact k_refuse_0 (hq021 (by omega)) h9
          refine T_if_eq 62 (am_dec tX12_light_0 32 rfl) rfl (fun h57 => ?_) (fun h57 => ?_)
          · refine T_aload_n (am_dec tX12_light_0 35 rfl) rfl ?_
            refine T_getfield 11 11 (am_dec tX12_light_0 36 rfl) flX12_23_11 (md_obj hl) rfl ?_
            refine T_iconst 2 (am_dec tX12_light_0 37 rfl) rfl ⟨by decide, by decide⟩ ?_
            refine T_ialoadE (x := c 4 2) (am_dec tX12_light_0 38 rfl) (md_told hl) (by omega) (by omega) rfl ?_
            refine T_bipush 6 (am_dec tX12_light_0 39 rfl) rfl ⟨by decide, by decide⟩ ?_
            refine T_icmp_ne 75 (am_dec tX12_light_1 0 rfl) rfl (fun h70 => ?_) (fun h70 => ?_)
            · refine T_iconst (-1) (am_dec tX12_light_1 3 rfl) rfl ⟨by decide, by decide⟩ ?_
              refine T_istore (ls' := [some (aR b), some (aI k), some (aI r), some (aI what), some (aI (-1)), none, none, none, none]) (am_dec tX12_light_1 4 rfl) (by decide) rfl ?_
              refine T_iconst 0 (am_dec tX12_light_1 5 rfl) rfl ⟨by decide, by decide⟩ ?_
              refine T_istore (ls' := [some (aR b), some (aI k), some (aI r), some (aI what), some (aI (-1)), some (aI 0), none, none, none]) (am_dec tX12_light_1 6 rfl) (by decide) rfl ?_
              refine T_iconst 0 (am_dec tX12_light_1 7 rfl) rfl ⟨by decide, by decide⟩ ?_
              refine T_istore (ls' := [some (aR b), some (aI k), some (aI r), some (aI what), some (aI (-1)), some (aI 0), some (aI 0), none, none]) (am_dec tX12_light_1 8 rfl) (by decide) rfl ?_
              refine L_k_light_84 hl k r what c hV hWd hS9 hLp hDu hSh hLm (by omega) (by omega) (by omega) _ rfl (c 4 1).toNat 0 (-1) 0 c q54 (by omega) (by omega) LiI_r (fun bst_84 soon_84 c84 q84 hbst_84 hsoon_84 hc84 hq84 hv84 => ?_)
              refine T_iload_n (am_dec tX12_light_3 7 rfl) rfl ?_
              have K227 : ∀ (t227 : Int), t227 = (if what = 0 then bst_84 else (if bst_84 = (-1) then bst_84 else soon_84)) →  am_T S zX12_light d u Q 243 [none, none, none, none, none, none, none, none, none] [aI t227] (mdW w b c84 q84) := by
                intro t227 ht227
                exact T_ireturn (am_dec tX12_light_3 15 rfl) rfl (am_tr (fun (x9 : Int × am_F × am_F) => Q (.inl (some (aI (x9.1)))) (mdW w b x9.2.1 x9.2.2)) (y := (t227, c84, q84)) (show (k_light c q k r what) = (t227, c84, q84) from (by have s9 := hz8.symm; subst s9; have s9 := ht11.symm; subst s9; have s9 := hq21.symm; subst s9; have s9 := hz21.symm; subst s9; have s9 := hz32.symm; subst s9; have s9 := ht35.symm; subst s9; have s9 := hq54.symm; subst s9; have s9 := hz54.symm; subst s9; have s9 := hbst_84.symm; subst s9; have s9 := hsoon_84.symm; subst s9; have s9 := hc84.symm; subst s9; have s9 := hq84.symm; subst s9; have s9 := ht227.symm; subst s9; exact ((if_pos h24).trans ((if_pos h57).trans (if_neg h70))))) hQ)
              refine T_if_eq 236 (am_dec tX12_light_3 8 rfl) rfl (fun h227 => ?_) (fun h227 => ?_)
              · refine T_iload (am_dec tX12_light_3 12 rfl) rfl ?_
                refine T_goto 243 (am_dec tX12_light_3 13 rfl) rfl ?_
                refine T_weak (ls' := [none, none, none, none, none, none, none, none, none]) (am_sub_n (am_sub_n (am_sub_n (am_sub_n (am_sub_n (am_sub_n (am_sub_n (am_sub_n (am_sub_n am_sub_nil))))))))) ?_
                exact K227 _ (if_pos h227).symm
              · refine T_iload (am_dec tX12_light_3 9 rfl) rfl ?_
                refine T_iconst (-1) (am_dec tX12_light_3 10 rfl) rfl ⟨by decide, by decide⟩ ?_
                have K233 : ∀ (t233 : Int), t233 = (if bst_84 = (-1) then bst_84 else soon_84) →  am_T S zX12_light d u Q 243 [none, none, none, none, none, none, none, none, none] [aI t233] (mdW w b c84 q84) := by
                  intro t233 ht233
                  exact K227 _ (by have s9 := ht233.symm; subst s9; exact (if_neg h227).symm)
                refine T_icmp_ne 241 (am_dec tX12_light_3 11 rfl) rfl (fun h233 => ?_) (fun h233 => ?_)
                · refine T_iload (am_dec tX12_light_3 14 rfl) rfl ?_
                  refine T_weak (ls' := [none, none, none, none, none, none, none, none, none]) (am_sub_n (am_sub_n (am_sub_n (am_sub_n (am_sub_n (am_sub_n (am_sub_n (am_sub_n (am_sub_n am_sub_nil))))))))) ?_
                  exact K233 _ (if_neg h233).symm
                · refine T_iload (am_dec tX12_light_3 12 rfl) rfl ?_
                  refine T_goto 243 (am_dec tX12_light_3 13 rfl) rfl ?_
                  refine T_weak (ls' := [none, none, none, none, none, none, none, none, none]) (am_sub_n (am_sub_n (am_sub_n (am_sub_n (am_sub_n (am_sub_n (am_sub_n (am_sub_n (am_sub_n am_sub_nil))))))))) ?_
                  exact K233 _ (if_pos h233).symm
            · refine T_iconst (-1) (am_dec tX12_light_1 1 rfl) rfl ⟨by decide, by decide⟩ ?_
              exact T_ireturn (am_dec tX12_light_1 2 rfl) rfl (am_tr (fun (x9 : Int × am_F × am_F) => Q (.inl (some (aI (x9.1)))) (mdW w b x9.2.1 x9.2.2)) (y := ((-1), c, q54)) (show (k_light c q k r what) = ((-1), c, q54) from (by have s9 := hz8.symm; subst s9; have s9 := ht11.symm; subst s9; have s9 := hq21.symm; subst s9; have s9 := hz21.symm; subst s9; have s9 := hz32.symm; subst s9; have s9 := ht35.symm; subst s9; have s9 := hq54.symm; subst s9; have s9 := hz54.symm; subst s9; exact ((if_pos h24).trans ((if_pos h57).trans (if_pos h70))))) hQ)
          · refine T_iconst 0 (am_dec tX12_light_0 33 rfl) rfl ⟨by decide, by decide⟩ ?_
            exact T_ireturn (am_dec tX12_light_0 34 rfl) rfl (am_tr (fun (x9 : Int × am_F × am_F) => Q (.inl (some (aI (x9.1)))) (mdW w b x9.2.1 x9.2.2)) (y := (0, c, q54)) (show (k_light c q k r what) = (0, c, q54) from (by have s9 := hz8.symm; subst s9; have s9 := ht11.symm; subst s9; have s9 := hq21.symm; subst s9; have s9 := hz21.symm; subst s9; have s9 := hz32.symm; subst s9; have s9 := ht35.symm; subst s9; have s9 := hq54.symm; subst s9; have s9 := hz54.symm; subst s9; exact ((if_pos h24).trans (if_neg h57)))) hQ)
        refine T_if_eq 47 (am_dec tX12_light_0 20 rfl) rfl (fun h35 => ?_) (fun h35 => ?_)
        · refine T_iconst 1 (am_dec tX12_light_0 26 rfl) rfl ⟨by decide, by decide⟩ ?_
          refine T_goto 52 (am_dec tX12_light_0 27 rfl) rfl ?_
          exact K35 _ (if_pos h35).symm
        · refine T_iload_n (am_dec tX12_light_0 21 rfl) rfl ?_
          refine T_iconst 0 (am_dec tX12_light_0 22 rfl) rfl ⟨by decide, by decide⟩ ?_
          refine T_iconst 1 (am_dec tX12_light_0 23 rfl) rfl ⟨by decide, by decide⟩ ?_
          refine T_callS (as := [aI what, aI 0, aI 1]) rfl (am_dec tX12_light_0 24 rfl) lkX12_194 rfl (Nat.le_of_ble_eq_true rfl) (by omega) (mk_in (d := d - 1)  what 0 1   ) (fun _ => ?_)
          refine T_nm (fun z41 hz41 => ?_)
          have hb41 := k_in_b what 0 1
          rw [← hz41] at hb41
          have hs41 := k_in_s what 0 1
          rw [← hz41] at hs41
          have K44 : ∀ (t44 : Int), t44 = (if z41 = 0 then 1 else 0) →  am_T S zX12_light d u Q 52 [some (aR b), some (aI k), some (aI r), some (aI what), none, none, none, none, none] [aI t44, aR b] (mdW w b c q21) := by
            intro t44 ht44
            have hbt44 : t44 = 0 ∨ t44 = 1 := by
              rw [ht44]
              try dsimp only
              repeat' split
              all_goals first | exact Or.inl rfl | exact Or.inr rfl | apply k_in_b | apply k_isDigit_b | apply k_isSmall_b | apply k_bad_b | apply k_isIn_b | apply k_isStep_b | apply k_isFirst_b | apply k_isLine_b | apply k_seesBy_b | apply k_isWalker_b | apply k_seesOne_b | apply k_badTwo_b | apply k_sees_b | apply k_isCode_b | apply k_isLot_b | apply k_isShip_b | apply k_areRight_b | apply k_right_b | apply k_areSeeds_b | omega
            exact K35 _ (by have s9 := hz41.symm; subst s9; have s9 := ht44.symm; subst s9; exact (if_neg h35).symm)
          refine T_if_ne 51 (am_dec tX12_light_0 25 rfl) rfl (fun h44 => ?_) (fun h44 => ?_)
          · refine T_iconst 0 (am_dec tX12_light_0 28 rfl) rfl ⟨by decide, by decide⟩ ?_
            exact K44 _ (if_neg h44).symm
          · refine T_iconst 1 (am_dec tX12_light_0 26 rfl) rfl ⟨by decide, by decide⟩ ?_
            refine T_goto 52 (am_dec tX12_light_0 27 rfl) rfl ?_
            exact K44 _ (if_pos h44).symm
    refine T_if_ne 18 (am_dec tX12_light_0 7 rfl) rfl (fun h11 => ?_) (fun h11 => ?_)
    · refine T_iconst 0 (am_dec tX12_light_0 10 rfl) rfl ⟨by decide, by decide⟩ ?_
      exact K11 _ (if_neg h11).symm
    · refine T_iconst 1 (am_dec tX12_light_0 8 rfl) rfl ⟨by decide, by decide⟩ ?_
      refine T_goto 19 (am_dec tX12_light_0 9 rfl) rfl ?_
      exact K11 _ (if_pos h11).symm
  exact key _ ⟨rfl, rfl⟩
