/-! the model: clauses -/
/-- what a clause's reading leaves as it is -/
def Ly (c c' : am_F) : Prop := c' 3 = c 3 ∧ ∀ j, j ≠ 4 → j ≠ 5 → j ≠ 6 → c' 0 j = c 0 j
theorem Ly_r {c : am_F} : Ly c c := ⟨rfl, fun _ _ _ _ => rfl⟩
theorem Ly_t {c d e : am_F} (h : Ly c d) (h2 : Ly d e) : Ly c e := ⟨h2.1.trans h.1, fun j h4 h5 h6 => (h2.2 j h4 h5 h6).trans (h.2 j h4 h5 h6)⟩
theorem Ly_x {c d : am_F} (h : Lx c d) : Ly c d := ⟨h.1 3 (by decide), h.2⟩
theorem Ly_k {c : am_F} {k i : Nat} {v : Int} (h0 : k ≠ 0) (h3 : k ≠ 3) : Ly c (am_put c k i v) := ⟨am_put_kr (by omega), fun j _ _ _ => am_put_k (by omega)⟩
theorem RdV_k {c : am_F} {k i : Nat} {v : Int} (h0 : k ≠ 0) (_ : k ≠ 0) (h : RdV c) : RdV (am_put c k i v) := by
  unfold RdV
  rw [am_put_kr (by omega)]
  exact h
def RW (c : am_F) : Prop := (0 ≤ c 3 0 ∧ c 3 0 ≤ 9) ∧ (0 ≤ c 3 1 ∧ c 3 1 ≤ 9) ∧ (0 ≤ c 3 2 ∧ c 3 2 ≤ 6) ∧ (0 ≤ c 3 3 ∧ c 3 3 ≤ 6) ∧ (0 ≤ c 3 4 ∧ c 3 4 ≤ 4) ∧ (0 ≤ c 3 5 ∧ c 3 5 ≤ 4) ∧ (0 ≤ c 3 6 ∧ c 3 6 ≤ 4) ∧ (0 ≤ c 3 8 ∧ c 3 8 ≤ c 0 56 ∧ c 0 56 ≤ 12) ∧ (0 ≤ c 3 9 ∧ c 3 9 ≤ c 0 57 ∧ c 0 57 ≤ 12) ∧ (0 ≤ c 3 10 ∧ c 3 10 ≤ 6) ∧ 0 ≤ c 0 7 ∧ c 0 7 ≤ 60
theorem RW_y {c d : am_F} (h : Ly c d) (hw : RW c) : RW d := by
  unfold RW
  rw [h.1, h.2 56 (by decide) (by decide) (by decide), h.2 57 (by decide) (by decide) (by decide), h.2 7 (by decide) (by decide) (by decide)]
  exact hw
theorem k_blanks_5 {c : am_F} : k_blanks c 0 5 = c 0 5 := by
  unfold k_blanks
  refine am_wh_inv (P := fun d => d 0 5 = c 0 5) ?_ ?_ 601 c rfl
  · intro x y hp e
    revert e
    unfold w_k_blanks_0
    dsimp only
    split
    · intro e
      rw [← Sum.inl.inj e, am_put_i (by decide)]
      exact hp
    · intro e; cases e
  · intro x y hp e
    revert e
    unfold w_k_blanks_0
    dsimp only
    split
    · intro e; cases e
    · intro e; rw [← Sum.inr.inj e]; exact hp
theorem k_number_5 {c : am_F} {lo hi : Int} (h : (k_number c lo hi).2 0 5 = 0) : c 0 5 = 0 := by
  by_cases h5 : c 0 5 = 0
  · exact h5
  · revert h
    unfold k_number
    rw [if_neg h5]
    exact id
theorem k_across_x {c : am_F} (h : RdV c) : RdV (k_acrossHere c).2 ∧ Lx c (k_acrossHere c).2 ∧ (((k_acrossHere c).2 0 5 = 0 ∧ 0 ≤ (k_acrossHere c).1 ∧ (k_acrossHere c).1 ≤ c 3 0 - 1) ∨ ((k_acrossHere c).2 0 5 ≠ 0 ∧ (k_acrossHere c).1 = 0)) := k_number_x h
theorem k_down_x {c : am_F} (h : RdV c) : RdV (k_downHere c).2 ∧ Lx c (k_downHere c).2 ∧ (((k_downHere c).2 0 5 = 0 ∧ 0 ≤ (k_downHere c).1 ∧ (k_downHere c).1 ≤ c 3 1 - 1) ∨ ((k_downHere c).2 0 5 ≠ 0 ∧ (k_downHere c).1 = 0)) := k_number_x h
theorem k_across_5 {c : am_F} (h : (k_acrossHere c).2 0 5 = 0) : c 0 5 = 0 := k_number_5 h
theorem k_down_5 {c : am_F} (h : (k_downHere c).2 0 5 = 0) : c 0 5 = 0 := k_number_5 h
def g_k_fogHere_68 (j : Int) (more : Int) (i : Int) (c : am_F) : am_F := (am_put c 5 ((i + (9 * j)).toNat) (k_less 99 (am_w32 ((c 5 ((i + (9 * j)).toNat)) + more))))
theorem L_k_fogHere_68 {S : am_S} {d u : Nat} {Q : AO → AH → Prop} {w : AH} {b : Nat} (hl : b + 735 ≤ w.length) (q : am_F) (c0 : am_F) (j : Int) (more : Int) (x : Int) (xe : Int) (ye : Int)  (hx0 : (0 ≤ x ∧ x ≤ 8) ∧ (0 ≤ xe ∧ xe ≤ 8) ∧ 0 ≤ more ∧ more ≤ 99) (hj : 0 ≤ j ∧ j ≤ 8) (hd : 4 ≤ d) (B9 : Int) (hB : B9 = xe + 1) : ∀ (n : Nat) (i : Int) (c : am_F), i + n = B9 → x ≤ i → c 0 5 = c0 0 5 → (∀ (c' : am_F), c' = am_fold (g_k_fogHere_68 j more) i n c → c' 0 5 = c0 0 5 → am_T S zX12_fogHere d u Q 114 [some (aR b), some (aI x), none, some (aI xe), some (aI ye), some (aI more), some (aI j), none] [] (mdW w b c' q)) → am_T S zX12_fogHere d u Q 68 [some (aR b), some (aI x), none, some (aI xe), some (aI ye), some (aI more), some (aI j), some (aI i)] [] (mdW w b c q) := by
  intro n
  induction n with
  | zero =>
    intro i c hi9 h0i hinv k9
    have e9 : i = B9 := by omega
    subst e9
    refine T_iload (am_dec tX12_fogHere_1 1 rfl) rfl ?_
    refine T_iload_n (am_dec tX12_fogHere_1 2 rfl) rfl ?_
    refine T_icmp_gt 114 (am_dec tX12_fogHere_1 3 rfl) rfl (fun h71 => ?_) (fun h71 => by exfalso; omega)
    refine T_weak (ls' := [some (aR b), some (aI x), none, some (aI xe), some (aI ye), some (aI more), some (aI j), none]) (am_sub_s (am_sub_s (am_sub_n (am_sub_s (am_sub_s (am_sub_s (am_sub_s (am_sub_n am_sub_nil)))))))) ?_
    exact k9 c rfl hinv
  | succ n ih =>
    intro i c hi9 h0i hinv k9
    refine T_iload (am_dec tX12_fogHere_1 1 rfl) rfl ?_
    refine T_iload_n (am_dec tX12_fogHere_1 2 rfl) rfl ?_
    refine T_icmp_gt 114 (am_dec tX12_fogHere_1 3 rfl) rfl (fun h71 => by exfalso; omega) (fun h71 => ?_)
    refine T_aload_n (am_dec tX12_fogHere_1 4 rfl) rfl ?_
    refine T_getfield 11 12 (am_dec tX12_fogHere_1 5 rfl) flX12_26_11 (md_obj hl) rfl ?_
    refine T_iload (am_dec tX12_fogHere_1 6 rfl) rfl ?_
    refine T_bipush 9 (am_dec tX12_fogHere_1 7 rfl) rfl ⟨by decide, by decide⟩ ?_
    refine T_iload (am_dec tX12_fogHere_1 8 rfl) rfl ?_
    refine T_imul (9 * j) (am_dec tX12_fogHere_1 9 rfl) rfl ⟨by omega, by omega⟩ ?_
    refine T_iadd (i + (9 * j)) (am_dec tX12_fogHere_1 10 rfl) rfl ⟨by omega, by omega⟩ ?_
    refine T_bipush 99 (am_dec tX12_fogHere_1 11 rfl) rfl ⟨by decide, by decide⟩ ?_
    refine T_aload_n (am_dec tX12_fogHere_1 12 rfl) rfl ?_
    refine T_getfield 11 12 (am_dec tX12_fogHere_1 13 rfl) flX12_26_11 (md_obj hl) rfl ?_
    refine T_iload (am_dec tX12_fogHere_1 14 rfl) rfl ?_
    refine T_bipush 9 (am_dec tX12_fogHere_1 15 rfl) rfl ⟨by decide, by decide⟩ ?_
    refine T_iload (am_dec tX12_fogHere_1 16 rfl) rfl ?_
    refine T_imul (9 * j) (am_dec tX12_fogHere_1 17 rfl) rfl ⟨by omega, by omega⟩ ?_
    refine T_iadd (i + (9 * j)) (am_dec tX12_fogHere_1 18 rfl) rfl ⟨by omega, by omega⟩ ?_
    refine T_ialoadE (x := c 5 ((i + (9 * j)).toNat)) (am_dec tX12_fogHere_1 19 rfl) (md_readFog hl) (by omega) (by omega) rfl ?_
    refine T_iload (am_dec tX12_fogHere_1 20 rfl) rfl ?_
    refine T_iaddW (am_w32 ((c 5 ((i + (9 * j)).toNat)) + more)) (am_dec tX12_fogHere_1 21 rfl) (am_w32e _).symm (am_w32r _) ?_
    refine T_callS (as := [aI 99, aI (am_w32 ((c 5 ((i + (9 * j)).toNat)) + more))]) rfl (am_dec tX12_fogHere_1 22 rfl) lkX12_268 rfl (Nat.le_of_ble_eq_true rfl) (by omega) (mk_less (d := d - 1)  99 (am_w32 ((c 5 ((i + (9 * j)).toNat)) + more))   ) (fun _ => ?_)
    refine T_iastore (am_dec tX12_fogHere_1 23 rfl) (md_readFog hl) (by omega) (by omega) ?_
    refine am_wE (w2 := mdW w b (am_put c 5 ((i + (9 * j)).toNat) (k_less 99 (am_w32 ((c 5 ((i + (9 * j)).toNat)) + more)))) q) (md_pc (Nat.le_of_ble_eq_true rfl) (fun _ _ => rfl)) ?_
    refine T_iinc (ls' := [some (aR b), some (aI x), none, some (aI xe), some (aI ye), some (aI more), some (aI j), some (aI (i + 1))]) (i + 1) (am_dec tX12_fogHere_1 24 rfl) rfl rfl ⟨by omega, by omega⟩ (by decide) rfl ?_
    refine T_goto 68 (am_dec tX12_fogHere_1 25 rfl) rfl ?_
    have e9 : (g_k_fogHere_68 j more) i c = (am_put c 5 ((i + (9 * j)).toNat) (k_less 99 (am_w32 ((c 5 ((i + (9 * j)).toNat)) + more)))) := rfl
    simp only [am_fold_s, e9] at k9
    exact ih (i + 1) (am_put c 5 ((i + (9 * j)).toNat) (k_less 99 (am_w32 ((c 5 ((i + (9 * j)).toNat)) + more)))) (by omega) (by omega) (by rw [am_put_k (by decide)]; exact hinv) k9
def w_k_fogHere_51 (more : Int) (x : Int) (xe : Int) (ye : Int) (x9 : Int × am_F) : (Int × am_F) ⊕ (Int × am_F) := let j : Int := x9.1; let c : am_F := x9.2; (if ye < j then .inr (j, c) else (if c 0 5 = 0 then (let c68 : am_F := am_fold (g_k_fogHere_68 j more) x (xe + 1 - x).toNat c; .inl ((j + 1), c68)) else .inr (j, c)))
theorem L_k_fogHere_51 {S : am_S} {d u : Nat} {Q : AO → AH → Prop} {w : AH} {b : Nat} (hl : b + 735 ≤ w.length) (q : am_F) (more : Int) (x : Int) (xe : Int) (ye : Int) (hx0 : (0 ≤ x ∧ x ≤ 8) ∧ (0 ≤ xe ∧ xe ≤ 8) ∧ (0 ≤ ye ∧ ye ≤ 8) ∧ 0 ≤ more ∧ more ≤ 99) (hd : 4 ≤ d) : ∀ (n : Nat) (j : Int) (c : am_F), 9 - j < n → 0 ≤ j ∧ j ≤ 9 ∧ (c 0 5 = 0 → x ≤ xe) → (∀ (j' : Int) (c' : am_F), j' = (am_wh (w_k_fogHere_51 more x xe ye) n (j, c)).1 → c' = (am_wh (w_k_fogHere_51 more x xe ye) n (j, c)).2 → 0 ≤ j' ∧ j' ≤ 9 ∧ (c' 0 5 = 0 → x ≤ xe) → am_T S zX12_fogHere d u Q 120 [none, none, none, none, none, none, none, none] [] (mdW w b c' q)) → am_T S zX12_fogHere d u Q 51 [some (aR b), some (aI x), none, some (aI xe), some (aI ye), some (aI more), some (aI j), none] [] (mdW w b c q) := by
  intro n
  induction n with
  | zero =>
    intro j c hm9 hinv k9
    exfalso; omega
  | succ n ih =>
    intro j c hm9 hinv k9
    refine T_iload (am_dec tX12_fogHere_0 33 rfl) rfl ?_
    refine T_iload (am_dec tX12_fogHere_0 34 rfl) rfl ?_
    refine T_icmp_gt 120 (am_dec tX12_fogHere_0 35 rfl) rfl (fun h55 => ?_) (fun h55 => ?_)
    · refine T_weak (ls' := [none, none, none, none, none, none, none, none]) (am_sub_n (am_sub_n (am_sub_n (am_sub_n (am_sub_n (am_sub_n (am_sub_n (am_sub_n am_sub_nil)))))))) ?_
      have e9 : (w_k_fogHere_51 more x xe ye) (j, c) = .inr (j, c) := (if_pos h55)
      simp only [am_wh_r e9] at k9
      exact k9 _ _ rfl rfl ⟨by omega, by omega, fun h9 => by omega⟩
    · refine T_aload_n (am_dec tX12_fogHere_0 36 rfl) rfl ?_
      refine T_getfield 11 5 (am_dec tX12_fogHere_0 37 rfl) flX12_176_11 (md_obj hl) rfl ?_
      refine T_if_ne 120 (am_dec tX12_fogHere_0 38 rfl) rfl (fun h62 => ?_) (fun h62 => ?_)
      · refine T_weak (ls' := [none, none, none, none, none, none, none, none]) (am_sub_n (am_sub_n (am_sub_n (am_sub_n (am_sub_n (am_sub_n (am_sub_n (am_sub_n am_sub_nil)))))))) ?_
        have e9 : (w_k_fogHere_51 more x xe ye) (j, c) = .inr (j, c) := ((if_neg h55).trans (if_neg h62))
        simp only [am_wh_r e9] at k9
        exact k9 _ _ rfl rfl ⟨by omega, by omega, fun h9 => by omega⟩
      · refine T_iload_n (am_dec tX12_fogHere_0 39 rfl) rfl ?_
        refine T_istore (ls' := [some (aR b), some (aI x), none, some (aI xe), some (aI ye), some (aI more), some (aI j), some (aI x)]) (am_dec tX12_fogHere_1 0 rfl) (by decide) rfl ?_
        refine L_k_fogHere_68 hl q c j more x xe ye  (by omega) (by omega) (by omega) _ rfl (xe + 1 - x).toNat x c (by omega) (by omega) rfl (fun c68 hc68 hv68 => ?_)
        refine T_iinc (ls' := [some (aR b), some (aI x), none, some (aI xe), some (aI ye), some (aI more), some (aI (j + 1)), none]) (j + 1) (am_dec tX12_fogHere_1 26 rfl) rfl rfl ⟨by omega, by omega⟩ (by decide) rfl ?_
        refine T_goto 51 (am_dec tX12_fogHere_1 27 rfl) rfl ?_
        have e9 : (w_k_fogHere_51 more x xe ye) (j, c) = .inl (j + 1, c68) := (by have s9 := hc68.symm; subst s9; exact ((if_neg h55).trans (if_pos h62)))
        simp only [am_wh_l e9] at k9
        exact ih (j + 1) c68 (by omega) ⟨by omega, by omega, fun h9 => by omega⟩ k9
def k_fogHere (c : am_F) : am_F := (let u1 : Int × am_F := k_acrossHere c; (let u6 : Int × am_F := k_downHere ((u1).2); (let u20 : Int × am_F := k_number ((u6).2) ((u1).1) (((u6).2 3 0) - 1); (let u34 : Int × am_F := k_number ((u20).2) ((u6).1) (((u20).2 3 1) - 1); (let u43 : Int × am_F := k_number ((u34).2) 1 99; (am_wh (w_k_fogHere_51 ((u43).1) ((u1).1) ((u20).1) ((u34).1)) 10 (((u6).1), ((u43).2))).2)))))
theorem mk_fogHere {S : am_S} {d u : Nat} {w : AH} {b : Nat} (hl : b + 735 ≤ w.length) {c : am_F} {q : am_F}  (hR : RdV c) (hRW : RW c) (hd : 4 ≤ d) : am_Out S zX12_fogHere d u [aR b] (mdW w b c q) (.inl none) (mdW w b (k_fogHere c) q) := by
  have key : ∀ Q : AO → AH → Prop, Q (.inl none) (mdW w b (k_fogHere c) q) → am_M S zX12_fogHere d u [aR b] (mdW w b c q) Q := by
    intro Q hQ
    refine am_body rfl (by decide +kernel) rfl (am_cats_cons rfl (am_cats_nil)) (Nat.le_of_ble_eq_true rfl) (?_ : am_T _ _ _ _ _ 0 [some (aR b), none, none, none, none, none, none, none] [] (mdW w b c q))
    have hR9 := hR
    obtain ⟨r1, r2, r3⟩ := hR9
    have w9 := hRW
    obtain ⟨w0, w1, w2, w3, w4, w5, w6, w8, w7, w10, w11⟩ := w9
    refine T_aload_n (am_dec tX12_fogHere_0 0 rfl) rfl ?_
    refine T_callV (as := []) rfl (am_dec tX12_fogHere_0 1 rfl) lkX12_242 (md_obj hl) rfl rfl (Nat.le_of_ble_eq_true rfl) (by omega) (mk_acrossHere (d := d - 1) hl   hR (RW_y Ly_r hRW).1 (by omega)) (fun _ => ?_)
    obtain ⟨u1, hu1⟩ : ∃ x9, x9 = k_acrossHere c := ⟨_, rfl⟩
    rw [← hu1]
    have hR1 : RdV (u1).2 := by rw [hu1]; exact (k_across_x hR).1
    have hR9 := hR1
    obtain ⟨ra1, rb1, rc1⟩ := hR9
    have hx1 : Ly c (u1).2 := Ly_t Ly_r (Ly_x (by rw [hu1]; exact (k_across_x hR).2.1))
    have hz1 : (u1).2 0 2 = c 0 2 := hx1.2 2 (by decide) (by decide) (by decide)
    have ht1_0 : (u1).2 3 0 = c 3 0 := congrFun hx1.1 0
    have ht1_1 : (u1).2 3 1 = c 3 1 := congrFun hx1.1 1
    have hv1 : ((u1).2 0 5 = 0 ∧ 0 ≤ (u1).1 ∧ (u1).1 ≤ (c 3 0 - 1)) ∨ ((u1).2 0 5 ≠ 0 ∧ (u1).1 = 0) := by rw [hu1]; have q9 := (k_across_x hR).2.2; exact q9
    have hf1 : (u1).2 0 5 = 0 → c 0 5 = 0 := by rw [hu1]; exact fun h9 => (k_across_5 h9)
    refine T_istore_n (ls' := [some (aR b), some (aI ((u1).1)), none, none, none, none, none, none]) (am_dec tX12_fogHere_0 2 rfl) (by decide) rfl ?_
    refine T_aload_n (am_dec tX12_fogHere_0 3 rfl) rfl ?_
    refine T_callV (as := []) rfl (am_dec tX12_fogHere_0 4 rfl) lkX12_245 (md_obj hl) rfl rfl (Nat.le_of_ble_eq_true rfl) (by omega) (mk_downHere (d := d - 1) hl   hR1 (RW_y hx1 hRW).2.1 (by omega)) (fun _ => ?_)
    obtain ⟨u6, hu6⟩ : ∃ x9, x9 = k_downHere ((u1).2) := ⟨_, rfl⟩
    rw [← hu6]
    have hR6 : RdV (u6).2 := by rw [hu6]; exact (k_down_x hR1).1
    have hR9 := hR6
    obtain ⟨ra6, rb6, rc6⟩ := hR9
    have hx6 : Ly c (u6).2 := Ly_t hx1 (Ly_x (by rw [hu6]; exact (k_down_x hR1).2.1))
    have hz6 : (u6).2 0 2 = c 0 2 := hx6.2 2 (by decide) (by decide) (by decide)
    have ht6_0 : (u6).2 3 0 = c 3 0 := congrFun hx6.1 0
    have ht6_1 : (u6).2 3 1 = c 3 1 := congrFun hx6.1 1
    have hv6 : ((u6).2 0 5 = 0 ∧ 0 ≤ (u6).1 ∧ (u6).1 ≤ ((u1).2 3 1 - 1)) ∨ ((u6).2 0 5 ≠ 0 ∧ (u6).1 = 0) := by rw [hu6]; have q9 := (k_down_x hR1).2.2; exact q9
    have hf6 : (u6).2 0 5 = 0 → (u1).2 0 5 = 0 := by rw [hu6]; exact fun h9 => (k_down_5 h9)
    refine T_istore_n (ls' := [some (aR b), some (aI ((u1).1)), some (aI ((u6).1)), none, none, none, none, none]) (am_dec tX12_fogHere_0 5 rfl) (by decide) rfl ?_
    refine T_aload_n (am_dec tX12_fogHere_0 6 rfl) rfl ?_
    refine T_iload_n (am_dec tX12_fogHere_0 7 rfl) rfl ?_
    refine T_aload_n (am_dec tX12_fogHere_0 8 rfl) rfl ?_
    refine T_getfield 11 10 (am_dec tX12_fogHere_0 9 rfl) flX12_20_11 (md_obj hl) rfl ?_
    refine T_iconst 0 (am_dec tX12_fogHere_0 10 rfl) rfl ⟨by decide, by decide⟩ ?_
    refine T_ialoadE (x := (u6).2 3 0) (am_dec tX12_fogHere_0 11 rfl) (md_readTold hl) (by omega) (by omega) rfl ?_
    refine T_iconst 1 (am_dec tX12_fogHere_0 12 rfl) rfl ⟨by decide, by decide⟩ ?_
    refine T_isub (((u6).2 3 0) - 1) (am_dec tX12_fogHere_0 13 rfl) rfl ⟨by omega, by omega⟩ ?_
    refine T_callV (as := [aI ((u1).1), aI (((u6).2 3 0) - 1)]) rfl (am_dec tX12_fogHere_0 14 rfl) lkX12_231 (md_obj hl) rfl rfl (Nat.le_of_ble_eq_true rfl) (by omega) (mk_number (d := d - 1) hl ((u1).1) (((u6).2 3 0) - 1)  hR6 (by omega)) (fun _ => ?_)
    obtain ⟨u20, hu20⟩ : ∃ x9, x9 = k_number ((u6).2) ((u1).1) (((u6).2 3 0) - 1) := ⟨_, rfl⟩
    rw [← hu20]
    have hR20 : RdV (u20).2 := by rw [hu20]; exact (k_number_x hR6).1
    have hR9 := hR20
    obtain ⟨ra20, rb20, rc20⟩ := hR9
    have hx20 : Ly c (u20).2 := Ly_t hx6 (Ly_x (by rw [hu20]; exact (k_number_x hR6).2.1))
    have hz20 : (u20).2 0 2 = c 0 2 := hx20.2 2 (by decide) (by decide) (by decide)
    have ht20_0 : (u20).2 3 0 = c 3 0 := congrFun hx20.1 0
    have ht20_1 : (u20).2 3 1 = c 3 1 := congrFun hx20.1 1
    have hv20 : ((u20).2 0 5 = 0 ∧ ((u1).1) ≤ (u20).1 ∧ (u20).1 ≤ (((u6).2 3 0) - 1)) ∨ ((u20).2 0 5 ≠ 0 ∧ (u20).1 = 0) := by rw [hu20]; have q9 := (k_number_x (lo := ((u1).1)) (hi := (((u6).2 3 0) - 1)) hR6).2.2; exact q9
    have hf20 : (u20).2 0 5 = 0 → (u6).2 0 5 = 0 := by rw [hu20]; exact fun h9 => (k_number_5 h9)
    refine T_istore_n (ls' := [some (aR b), some (aI ((u1).1)), some (aI ((u6).1)), some (aI ((u20).1)), none, none, none, none]) (am_dec tX12_fogHere_0 15 rfl) (by decide) rfl ?_
    refine T_aload_n (am_dec tX12_fogHere_0 16 rfl) rfl ?_
    refine T_iload_n (am_dec tX12_fogHere_0 17 rfl) rfl ?_
    refine T_aload_n (am_dec tX12_fogHere_0 18 rfl) rfl ?_
    refine T_getfield 11 10 (am_dec tX12_fogHere_0 19 rfl) flX12_20_11 (md_obj hl) rfl ?_
    refine T_iconst 1 (am_dec tX12_fogHere_0 20 rfl) rfl ⟨by decide, by decide⟩ ?_
    refine T_ialoadE (x := (u20).2 3 1) (am_dec tX12_fogHere_0 21 rfl) (md_readTold hl) (by omega) (by omega) rfl ?_
    refine T_iconst 1 (am_dec tX12_fogHere_0 22 rfl) rfl ⟨by decide, by decide⟩ ?_
    refine T_isub (((u20).2 3 1) - 1) (am_dec tX12_fogHere_0 23 rfl) rfl ⟨by omega, by omega⟩ ?_
    refine T_callV (as := [aI ((u6).1), aI (((u20).2 3 1) - 1)]) rfl (am_dec tX12_fogHere_0 24 rfl) lkX12_231 (md_obj hl) rfl rfl (Nat.le_of_ble_eq_true rfl) (by omega) (mk_number (d := d - 1) hl ((u6).1) (((u20).2 3 1) - 1)  hR20 (by omega)) (fun _ => ?_)
    obtain ⟨u34, hu34⟩ : ∃ x9, x9 = k_number ((u20).2) ((u6).1) (((u20).2 3 1) - 1) := ⟨_, rfl⟩
    rw [← hu34]
    have hR34 : RdV (u34).2 := by rw [hu34]; exact (k_number_x hR20).1
    have hR9 := hR34
    obtain ⟨ra34, rb34, rc34⟩ := hR9
    have hx34 : Ly c (u34).2 := Ly_t hx20 (Ly_x (by rw [hu34]; exact (k_number_x hR20).2.1))
    have hz34 : (u34).2 0 2 = c 0 2 := hx34.2 2 (by decide) (by decide) (by decide)
    have ht34_0 : (u34).2 3 0 = c 3 0 := congrFun hx34.1 0
    have ht34_1 : (u34).2 3 1 = c 3 1 := congrFun hx34.1 1
    have hv34 : ((u34).2 0 5 = 0 ∧ ((u6).1) ≤ (u34).1 ∧ (u34).1 ≤ (((u20).2 3 1) - 1)) ∨ ((u34).2 0 5 ≠ 0 ∧ (u34).1 = 0) := by rw [hu34]; have q9 := (k_number_x (lo := ((u6).1)) (hi := (((u20).2 3 1) - 1)) hR20).2.2; exact q9
    have hf34 : (u34).2 0 5 = 0 → (u20).2 0 5 = 0 := by rw [hu34]; exact fun h9 => (k_number_5 h9)
    refine T_istore (ls' := [some (aR b), some (aI ((u1).1)), some (aI ((u6).1)), some (aI ((u20).1)), some (aI ((u34).1)), none, none, none]) (am_dec tX12_fogHere_0 25 rfl) (by decide) rfl ?_
    refine T_aload_n (am_dec tX12_fogHere_0 26 rfl) rfl ?_
    refine T_iconst 1 (am_dec tX12_fogHere_0 27 rfl) rfl ⟨by decide, by decide⟩ ?_
    refine T_bipush 99 (am_dec tX12_fogHere_0 28 rfl) rfl ⟨by decide, by decide⟩ ?_
    refine T_callV (as := [aI 1, aI 99]) rfl (am_dec tX12_fogHere_0 29 rfl) lkX12_231 (md_obj hl) rfl rfl (Nat.le_of_ble_eq_true rfl) (by omega) (mk_number (d := d - 1) hl 1 99  hR34 (by omega)) (fun _ => ?_)
    obtain ⟨u43, hu43⟩ : ∃ x9, x9 = k_number ((u34).2) 1 99 := ⟨_, rfl⟩
    rw [← hu43]
    have hR43 : RdV (u43).2 := by rw [hu43]; exact (k_number_x hR34).1
    have hR9 := hR43
    obtain ⟨ra43, rb43, rc43⟩ := hR9
    have hx43 : Ly c (u43).2 := Ly_t hx34 (Ly_x (by rw [hu43]; exact (k_number_x hR34).2.1))
    have hz43 : (u43).2 0 2 = c 0 2 := hx43.2 2 (by decide) (by decide) (by decide)
    have ht43_0 : (u43).2 3 0 = c 3 0 := congrFun hx43.1 0
    have ht43_1 : (u43).2 3 1 = c 3 1 := congrFun hx43.1 1
    have hv43 : ((u43).2 0 5 = 0 ∧ 1 ≤ (u43).1 ∧ (u43).1 ≤ 99) ∨ ((u43).2 0 5 ≠ 0 ∧ (u43).1 = 0) := by rw [hu43]; have q9 := (k_number_x (lo := 1) (hi := 99) hR34).2.2; exact q9
    have hf43 : (u43).2 0 5 = 0 → (u34).2 0 5 = 0 := by rw [hu43]; exact fun h9 => (k_number_5 h9)
    refine T_istore (ls' := [some (aR b), some (aI ((u1).1)), some (aI ((u6).1)), some (aI ((u20).1)), some (aI ((u34).1)), some (aI ((u43).1)), none, none]) (am_dec tX12_fogHere_0 30 rfl) (by decide) rfl ?_
    refine T_iload_n (am_dec tX12_fogHere_0 31 rfl) rfl ?_
    refine T_istore (ls' := [some (aR b), some (aI ((u1).1)), some (aI ((u6).1)), some (aI ((u20).1)), some (aI ((u34).1)), some (aI ((u43).1)), some (aI ((u6).1)), none]) (am_dec tX12_fogHere_0 32 rfl) (by decide) rfl ?_
    refine T_weak (ls' := [some (aR b), some (aI ((u1).1)), none, some (aI ((u20).1)), some (aI ((u34).1)), some (aI ((u43).1)), some (aI ((u6).1)), none]) (am_sub_s (am_sub_s (am_sub_n (am_sub_s (am_sub_s (am_sub_s (am_sub_s (am_sub_n am_sub_nil)))))))) ?_
    refine L_k_fogHere_51 hl q ((u43).1) ((u1).1) ((u20).1) ((u34).1)  (by omega) (by omega) 10 ((u6).1) ((u43).2) (by omega) (by omega) (fun j_51 c51 hj_51 hc51 hv51 => ?_)
    exact T_return (am_dec tX12_fogHere_1 28 rfl) rfl (am_tr (fun (x9 : am_F) => Q (.inl none) (mdW w b x9 q)) (y := c51) (show (k_fogHere c) = c51 from (by have s9 := hu1.symm; subst s9; have s9 := hu6.symm; subst s9; have s9 := hu20.symm; subst s9; have s9 := hu34.symm; subst s9; have s9 := hu43.symm; subst s9; have s9 := hj_51.symm; subst s9; have s9 := hc51.symm; subst s9; exact rfl)) hQ)
  exact key _ ⟨rfl, rfl⟩
