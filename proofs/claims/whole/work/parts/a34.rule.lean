/-! the model: rule -/
theorem MI_start {d : am_F} (h : RdV d) (h2 : d 0 2 ≤ 200) : MI (am_put (am_put (am_put d 0 47 0) 0 49 0) 0 50 0) := by
  obtain ⟨a, b, c⟩ := h
  exact ⟨⟨(show 0 ≤ d 0 4 from a), (show d 0 4 ≤ d 0 2 from b), (show d 0 2 ≤ 600 from c)⟩, (show d 0 2 ≤ 200 from h2), ⟨(show (0 : Int) ≤ 0 by decide), (show (0 : Int) ≤ 200 by decide)⟩, ⟨(show (0 : Int) ≤ 0 by decide), (show (0 : Int) ≤ 6 by decide)⟩, fun _ => (show (0 : Int) ≤ d 0 4 from a)⟩
theorem k_starts_2 {c : am_F} {n : Int} (hn : 0 ≤ n ∧ n ≤ 600) : k_starts c n 0 2 = n := by
  unfold k_starts
  have h0 : RdV (am_put (am_put (am_put (am_put (am_put (am_put c 0 1 0) 0 2 n) 0 4 0) 0 5 0) 0 6 (-1)) 0 7 0) := ⟨(show (0 : Int) ≤ 0 by omega), (show (0 : Int) ≤ n by omega), (show n ≤ 600 by omega)⟩
  exact ((k_blanks_x h0).2.2 2 (by decide) (by decide) (by decide)).trans rfl
theorem MI_blanks {c : am_F} (h : MI c) : MI (k_blanks c) ∧ k_blanks c 0 47 = c 0 47 ∧ k_blanks c 0 5 = c 0 5 ∧ k_blanks c 0 2 = c 0 2 ∧ (c 0 5 = 0 → c 0 4 ≤ k_blanks c 0 4) := by
  have e := Ea_blanks (Ea_r h.1)
  have m := MR_E (MR_r h) e.1
  refine ⟨MR_I h m (by omega) (by have := h.2.2.2.1; omega), MR_47 m, e.2, m.2.1.1, fun z => ?_⟩
  have := (e.1.2.2 (e.2.trans z)).2
  omega
def g_k_cp_part_10 (k : Int) (i : Int) (c : am_F) : am_F := (am_put c (269 + k.toNat) i.toNat (c (278 + k.toNat) i.toNat))
theorem L_k_cp_part_10 {S : am_S} {d u : Nat} {Q : AO → AH → Prop} {w : AH} {b : Nat} (hl : b + 735 ≤ w.length) (q : am_F) (many : Int) (k : Int) (hm : 0 ≤ many ∧ many ≤ 8) (ho2 : 0 ≤ k ∧ k < many)  (B9 : Int) (hB : B9 = 3) : ∀ (n : Nat) (i : Int) (c : am_F), i + n = B9 → 0 ≤ i → (∀ (c' : am_F), c' = am_fold (g_k_cp_part_10 k) i n c → am_T S zX12_copies d u Q 37 [some (aR (b + 277)), some (aR (b + 268)), some (aI many), some (aI k), none] [] (mdW w b c' q)) → am_T S zX12_copies d u Q 10 [some (aR (b + 277)), some (aR (b + 268)), some (aI many), some (aI k), some (aI i)] [] (mdW w b c q) := by
  intro n
  induction n with
  | zero =>
    intro i c hi9 h0i k9
    have e9 : i = B9 := by omega
    subst e9
    refine T_iload (am_dec tX12_copies_0 7 rfl) rfl ?_
    refine T_aload_n (am_dec tX12_copies_0 8 rfl) rfl ?_
    refine T_iload_n (am_dec tX12_copies_0 9 rfl) rfl ?_
    refine T_aaloadR (r := b + (269 + k.toNat)) (am_dec tX12_copies_0 10 rfl) (by decide) (mh_part hl) (by omega) (by omega) (if_pos (by omega)) ?_
    refine T_alenP (am_dec tX12_copies_0 11 rfl) (by decide) (mr_part hl (i := k) (by omega) (by omega)) (by omega) ?_
    refine T_icmp_ge 37 (am_dec tX12_copies_0 12 rfl) rfl (fun h16 => ?_) (fun h16 => by exfalso; omega)
    refine T_weak (ls' := [some (aR (b + 277)), some (aR (b + 268)), some (aI many), some (aI k), none]) (am_sub_s (am_sub_s (am_sub_s (am_sub_s (am_sub_n am_sub_nil))))) ?_
    exact k9 c rfl
  | succ n ih =>
    intro i c hi9 h0i k9
    refine T_iload (am_dec tX12_copies_0 7 rfl) rfl ?_
    refine T_aload_n (am_dec tX12_copies_0 8 rfl) rfl ?_
    refine T_iload_n (am_dec tX12_copies_0 9 rfl) rfl ?_
    refine T_aaloadR (r := b + (269 + k.toNat)) (am_dec tX12_copies_0 10 rfl) (by decide) (mh_part hl) (by omega) (by omega) (if_pos (by omega)) ?_
    refine T_alenP (am_dec tX12_copies_0 11 rfl) (by decide) (mr_part hl (i := k) (by omega) (by omega)) (by omega) ?_
    refine T_icmp_ge 37 (am_dec tX12_copies_0 12 rfl) rfl (fun h16 => by exfalso; omega) (fun h16 => ?_)
    refine T_aload_n (am_dec tX12_copies_0 13 rfl) rfl ?_
    refine T_iload_n (am_dec tX12_copies_0 14 rfl) rfl ?_
    refine T_aaloadR (r := b + (269 + k.toNat)) (am_dec tX12_copies_0 15 rfl) (by decide) (mh_part hl) (by omega) (by omega) (if_pos (by omega)) ?_
    refine T_iload (am_dec tX12_copies_0 16 rfl) rfl ?_
    refine T_aload_n (am_dec tX12_copies_0 17 rfl) rfl ?_
    refine T_iload_n (am_dec tX12_copies_0 18 rfl) rfl ?_
    refine T_aaloadR (r := b + (278 + k.toNat)) (am_dec tX12_copies_0 19 rfl) (by decide) (mh_readPart hl) (by omega) (by omega) (if_pos (by omega)) ?_
    refine T_iload (am_dec tX12_copies_0 20 rfl) rfl ?_
    refine T_ialoadE (x := c (278 + k.toNat) i.toNat) (am_dec tX12_copies_0 21 rfl) (mr_readPart hl (i := k) (by omega) (by omega)) (by omega) (by omega) rfl ?_
    refine T_iastore (am_dec tX12_copies_0 22 rfl) (mr_part hl (i := k) (by omega) (by omega)) (by omega) (by omega) ?_
    refine am_wE (w2 := mdW w b (am_put c (269 + k.toNat) i.toNat (c (278 + k.toNat) i.toNat)) q) (md_pc (by omega) (fun f g => md_t_part f g (by omega))) ?_
    refine T_iinc (ls' := [some (aR (b + 277)), some (aR (b + 268)), some (aI many), some (aI k), some (aI (i + 1))]) (i + 1) (am_dec tX12_copies_0 23 rfl) rfl rfl ⟨by omega, by omega⟩ (by decide) rfl ?_
    refine T_goto 10 (am_dec tX12_copies_0 24 rfl) rfl ?_
    have e9 : (g_k_cp_part_10 k) i c = (am_put c (269 + k.toNat) i.toNat (c (278 + k.toNat) i.toNat)) := rfl
    simp only [am_fold_s, e9] at k9
    exact ih (i + 1) (am_put c (269 + k.toNat) i.toNat (c (278 + k.toNat) i.toNat)) (by omega) (by omega) k9
def g_k_cp_part_2  (k : Int) (c : am_F) : am_F := am_fold (g_k_cp_part_10 k) 0 3 c
theorem L_k_cp_part_2 {S : am_S} {d u : Nat} {Q : AO → AH → Prop} {w : AH} {b : Nat} (hl : b + 735 ≤ w.length) (q : am_F) (many : Int) (hm : 0 ≤ many ∧ many ≤ 8)   (B9 : Int) (hB : B9 = many) : ∀ (n : Nat) (k : Int) (c : am_F), k + n = B9 → 0 ≤ k → (∀ (c' : am_F), c' = am_fold (g_k_cp_part_2) k n c → am_T S zX12_copies d u Q 43 [none, none, none, none, none] [] (mdW w b c' q)) → am_T S zX12_copies d u Q 2 [some (aR (b + 277)), some (aR (b + 268)), some (aI many), some (aI k), none] [] (mdW w b c q) := by
  intro n
  induction n with
  | zero =>
    intro k c hi9 h0i k9
    have e9 : k = B9 := by omega
    subst e9
    refine T_iload_n (am_dec tX12_copies_0 2 rfl) rfl ?_
    refine T_iload_n (am_dec tX12_copies_0 3 rfl) rfl ?_
    refine T_icmp_ge 43 (am_dec tX12_copies_0 4 rfl) rfl (fun h4 => ?_) (fun h4 => by exfalso; omega)
    refine T_weak (ls' := [none, none, none, none, none]) (am_sub_n (am_sub_n (am_sub_n (am_sub_n (am_sub_n am_sub_nil))))) ?_
    exact k9 c rfl
  | succ n ih =>
    intro k c hi9 h0i k9
    refine T_iload_n (am_dec tX12_copies_0 2 rfl) rfl ?_
    refine T_iload_n (am_dec tX12_copies_0 3 rfl) rfl ?_
    refine T_icmp_ge 43 (am_dec tX12_copies_0 4 rfl) rfl (fun h4 => by exfalso; omega) (fun h4 => ?_)
    refine T_iconst 0 (am_dec tX12_copies_0 5 rfl) rfl ⟨by decide, by decide⟩ ?_
    refine T_istore (ls' := [some (aR (b + 277)), some (aR (b + 268)), some (aI many), some (aI k), some (aI 0)]) (am_dec tX12_copies_0 6 rfl) (by decide) rfl ?_
    refine L_k_cp_part_10 hl q many k hm (by omega)  _ rfl 3 0 c (by omega) (by omega) (fun c10 hc10 => ?_)
    refine T_iinc (ls' := [some (aR (b + 277)), some (aR (b + 268)), some (aI many), some (aI (k + 1)), none]) (k + 1) (am_dec tX12_copies_0 25 rfl) rfl rfl ⟨by omega, by omega⟩ (by decide) rfl ?_
    refine T_goto 2 (am_dec tX12_copies_0 26 rfl) rfl ?_
    have e9 : (g_k_cp_part_2) k c = c10 := (by have s9 := hc10.symm; subst s9; exact rfl)
    simp only [am_fold_s, e9] at k9
    exact ih (k + 1) c10 (by omega) (by omega) k9
def k_cp_part (c : am_F) (many : Int) : am_F := am_fold (g_k_cp_part_2) 0 (many).toNat c
theorem mk_cp_part {S : am_S} {d u : Nat} {w : AH} {b : Nat} (hl : b + 735 ≤ w.length) {c : am_F} {q : am_F} (many : Int) (hm : 0 ≤ many ∧ many ≤ 8)   : am_Out S zX12_copies d u [aR (b + 277), aR (b + 268), aI many] (mdW w b c q) (.inl none) (mdW w b (k_cp_part c many) q) := by
  have key : ∀ Q : AO → AH → Prop, Q (.inl none) (mdW w b (k_cp_part c many) q) → am_M S zX12_copies d u [aR (b + 277), aR (b + 268), aI many] (mdW w b c q) Q := by
    intro Q hQ
    refine am_body rfl (by decide +kernel) rfl (am_cats_cons rfl ( am_cats_cons rfl ( am_cats_cons rfl (am_cats_nil)))) (Nat.le_of_ble_eq_true rfl) (?_ : am_T _ _ _ _ _ 0 [some (aR (b + 277)), some (aR (b + 268)), some (aI many), none, none] [] (mdW w b c q))
    refine T_iconst 0 (am_dec tX12_copies_0 0 rfl) rfl ⟨by decide, by decide⟩ ?_
    refine T_istore_n (ls' := [some (aR (b + 277)), some (aR (b + 268)), some (aI many), some (aI 0), none]) (am_dec tX12_copies_0 1 rfl) (by decide) rfl ?_
    refine L_k_cp_part_2 hl q many hm   _ rfl (many).toNat 0 c (by omega) (by omega) (fun c2 hc2 => ?_)
    exact T_return (am_dec tX12_copies_0 27 rfl) rfl (am_tr (fun (x9 : am_F) => Q (.inl none) (mdW w b x9 q)) (y := c2) (show (k_cp_part c many) = c2 from (by have s9 := hc2.symm; subst s9; exact rfl)) hQ)
  exact key _ ⟨rfl, rfl⟩
def g_k_cp_code_10 (k : Int) (i : Int) (c : am_F) : am_F := (am_put c (287 + k.toNat) i.toNat (c (508 + k.toNat) i.toNat))
theorem L_k_cp_code_10 {S : am_S} {d u : Nat} {Q : AO → AH → Prop} {w : AH} {b : Nat} (hl : b + 735 ≤ w.length) (q : am_F) (many : Int) (k : Int) (hm : 0 ≤ many ∧ many ≤ 220) (ho2 : 0 ≤ k ∧ k < many)  (B9 : Int) (hB : B9 = 2) : ∀ (n : Nat) (i : Int) (c : am_F), i + n = B9 → 0 ≤ i → (∀ (c' : am_F), c' = am_fold (g_k_cp_code_10 k) i n c → am_T S zX12_copies d u Q 37 [some (aR (b + 507)), some (aR (b + 286)), some (aI many), some (aI k), none] [] (mdW w b c' q)) → am_T S zX12_copies d u Q 10 [some (aR (b + 507)), some (aR (b + 286)), some (aI many), some (aI k), some (aI i)] [] (mdW w b c q) := by
  intro n
  induction n with
  | zero =>
    intro i c hi9 h0i k9
    have e9 : i = B9 := by omega
    subst e9
    refine T_iload (am_dec tX12_copies_0 7 rfl) rfl ?_
    refine T_aload_n (am_dec tX12_copies_0 8 rfl) rfl ?_
    refine T_iload_n (am_dec tX12_copies_0 9 rfl) rfl ?_
    refine T_aaloadR (r := b + (287 + k.toNat)) (am_dec tX12_copies_0 10 rfl) (by decide) (mh_code hl) (by omega) (by omega) (if_pos (by omega)) ?_
    refine T_alenP (am_dec tX12_copies_0 11 rfl) (by decide) (mr_code hl (i := k) (by omega) (by omega)) (by omega) ?_
    refine T_icmp_ge 37 (am_dec tX12_copies_0 12 rfl) rfl (fun h16 => ?_) (fun h16 => by exfalso; omega)
    refine T_weak (ls' := [some (aR (b + 507)), some (aR (b + 286)), some (aI many), some (aI k), none]) (am_sub_s (am_sub_s (am_sub_s (am_sub_s (am_sub_n am_sub_nil))))) ?_
    exact k9 c rfl
  | succ n ih =>
    intro i c hi9 h0i k9
    refine T_iload (am_dec tX12_copies_0 7 rfl) rfl ?_
    refine T_aload_n (am_dec tX12_copies_0 8 rfl) rfl ?_
    refine T_iload_n (am_dec tX12_copies_0 9 rfl) rfl ?_
    refine T_aaloadR (r := b + (287 + k.toNat)) (am_dec tX12_copies_0 10 rfl) (by decide) (mh_code hl) (by omega) (by omega) (if_pos (by omega)) ?_
    refine T_alenP (am_dec tX12_copies_0 11 rfl) (by decide) (mr_code hl (i := k) (by omega) (by omega)) (by omega) ?_
    refine T_icmp_ge 37 (am_dec tX12_copies_0 12 rfl) rfl (fun h16 => by exfalso; omega) (fun h16 => ?_)
    refine T_aload_n (am_dec tX12_copies_0 13 rfl) rfl ?_
    refine T_iload_n (am_dec tX12_copies_0 14 rfl) rfl ?_
    refine T_aaloadR (r := b + (287 + k.toNat)) (am_dec tX12_copies_0 15 rfl) (by decide) (mh_code hl) (by omega) (by omega) (if_pos (by omega)) ?_
    refine T_iload (am_dec tX12_copies_0 16 rfl) rfl ?_
    refine T_aload_n (am_dec tX12_copies_0 17 rfl) rfl ?_
    refine T_iload_n (am_dec tX12_copies_0 18 rfl) rfl ?_
    refine T_aaloadR (r := b + (508 + k.toNat)) (am_dec tX12_copies_0 19 rfl) (by decide) (mh_readCode hl) (by omega) (by omega) (if_pos (by omega)) ?_
    refine T_iload (am_dec tX12_copies_0 20 rfl) rfl ?_
    refine T_ialoadE (x := c (508 + k.toNat) i.toNat) (am_dec tX12_copies_0 21 rfl) (mr_readCode hl (i := k) (by omega) (by omega)) (by omega) (by omega) rfl ?_
    refine T_iastore (am_dec tX12_copies_0 22 rfl) (mr_code hl (i := k) (by omega) (by omega)) (by omega) (by omega) ?_
    refine am_wE (w2 := mdW w b (am_put c (287 + k.toNat) i.toNat (c (508 + k.toNat) i.toNat)) q) (md_pc (by omega) (fun f g => md_t_code f g (by omega))) ?_
    refine T_iinc (ls' := [some (aR (b + 507)), some (aR (b + 286)), some (aI many), some (aI k), some (aI (i + 1))]) (i + 1) (am_dec tX12_copies_0 23 rfl) rfl rfl ⟨by omega, by omega⟩ (by decide) rfl ?_
    refine T_goto 10 (am_dec tX12_copies_0 24 rfl) rfl ?_
    have e9 : (g_k_cp_code_10 k) i c = (am_put c (287 + k.toNat) i.toNat (c (508 + k.toNat) i.toNat)) := rfl
    simp only [am_fold_s, e9] at k9
    exact ih (i + 1) (am_put c (287 + k.toNat) i.toNat (c (508 + k.toNat) i.toNat)) (by omega) (by omega) k9
def g_k_cp_code_2  (k : Int) (c : am_F) : am_F := am_fold (g_k_cp_code_10 k) 0 2 c
theorem L_k_cp_code_2 {S : am_S} {d u : Nat} {Q : AO → AH → Prop} {w : AH} {b : Nat} (hl : b + 735 ≤ w.length) (q : am_F) (many : Int) (hm : 0 ≤ many ∧ many ≤ 220)   (B9 : Int) (hB : B9 = many) : ∀ (n : Nat) (k : Int) (c : am_F), k + n = B9 → 0 ≤ k → (∀ (c' : am_F), c' = am_fold (g_k_cp_code_2) k n c → am_T S zX12_copies d u Q 43 [none, none, none, none, none] [] (mdW w b c' q)) → am_T S zX12_copies d u Q 2 [some (aR (b + 507)), some (aR (b + 286)), some (aI many), some (aI k), none] [] (mdW w b c q) := by
  intro n
  induction n with
  | zero =>
    intro k c hi9 h0i k9
    have e9 : k = B9 := by omega
    subst e9
    refine T_iload_n (am_dec tX12_copies_0 2 rfl) rfl ?_
    refine T_iload_n (am_dec tX12_copies_0 3 rfl) rfl ?_
    refine T_icmp_ge 43 (am_dec tX12_copies_0 4 rfl) rfl (fun h4 => ?_) (fun h4 => by exfalso; omega)
    refine T_weak (ls' := [none, none, none, none, none]) (am_sub_n (am_sub_n (am_sub_n (am_sub_n (am_sub_n am_sub_nil))))) ?_
    exact k9 c rfl
  | succ n ih =>
    intro k c hi9 h0i k9
    refine T_iload_n (am_dec tX12_copies_0 2 rfl) rfl ?_
    refine T_iload_n (am_dec tX12_copies_0 3 rfl) rfl ?_
    refine T_icmp_ge 43 (am_dec tX12_copies_0 4 rfl) rfl (fun h4 => by exfalso; omega) (fun h4 => ?_)
    refine T_iconst 0 (am_dec tX12_copies_0 5 rfl) rfl ⟨by decide, by decide⟩ ?_
    refine T_istore (ls' := [some (aR (b + 507)), some (aR (b + 286)), some (aI many), some (aI k), some (aI 0)]) (am_dec tX12_copies_0 6 rfl) (by decide) rfl ?_
    refine L_k_cp_code_10 hl q many k hm (by omega)  _ rfl 2 0 c (by omega) (by omega) (fun c10 hc10 => ?_)
    refine T_iinc (ls' := [some (aR (b + 507)), some (aR (b + 286)), some (aI many), some (aI (k + 1)), none]) (k + 1) (am_dec tX12_copies_0 25 rfl) rfl rfl ⟨by omega, by omega⟩ (by decide) rfl ?_
    refine T_goto 2 (am_dec tX12_copies_0 26 rfl) rfl ?_
    have e9 : (g_k_cp_code_2) k c = c10 := (by have s9 := hc10.symm; subst s9; exact rfl)
    simp only [am_fold_s, e9] at k9
    exact ih (k + 1) c10 (by omega) (by omega) k9
def k_cp_code (c : am_F) (many : Int) : am_F := am_fold (g_k_cp_code_2) 0 (many).toNat c
theorem mk_cp_code {S : am_S} {d u : Nat} {w : AH} {b : Nat} (hl : b + 735 ≤ w.length) {c : am_F} {q : am_F} (many : Int) (hm : 0 ≤ many ∧ many ≤ 220)   : am_Out S zX12_copies d u [aR (b + 507), aR (b + 286), aI many] (mdW w b c q) (.inl none) (mdW w b (k_cp_code c many) q) := by
  have key : ∀ Q : AO → AH → Prop, Q (.inl none) (mdW w b (k_cp_code c many) q) → am_M S zX12_copies d u [aR (b + 507), aR (b + 286), aI many] (mdW w b c q) Q := by
    intro Q hQ
    refine am_body rfl (by decide +kernel) rfl (am_cats_cons rfl ( am_cats_cons rfl ( am_cats_cons rfl (am_cats_nil)))) (Nat.le_of_ble_eq_true rfl) (?_ : am_T _ _ _ _ _ 0 [some (aR (b + 507)), some (aR (b + 286)), some (aI many), none, none] [] (mdW w b c q))
    refine T_iconst 0 (am_dec tX12_copies_0 0 rfl) rfl ⟨by decide, by decide⟩ ?_
    refine T_istore_n (ls' := [some (aR (b + 507)), some (aR (b + 286)), some (aI many), some (aI 0), none]) (am_dec tX12_copies_0 1 rfl) (by decide) rfl ?_
    refine L_k_cp_code_2 hl q many hm   _ rfl (many).toNat 0 c (by omega) (by omega) (fun c2 hc2 => ?_)
    exact T_return (am_dec tX12_copies_0 27 rfl) rfl (am_tr (fun (x9 : am_F) => Q (.inl none) (mdW w b x9 q)) (y := c2) (show (k_cp_code c many) = c2 from (by have s9 := hc2.symm; subst s9; exact rfl)) hQ)
  exact key _ ⟨rfl, rfl⟩
theorem k_cp_part_0 {c : am_F} {many : Int} : k_cp_part c many 0 = c 0 := by
  unfold k_cp_part
  exact (am_fold_inv (P := fun (_ : Int) (e : am_F) => e 0 = c 0) many.toNat 0 c rfl (fun k e h0 h1 he => by
    unfold g_k_cp_part_2
    exact (am_fold_inv (P := fun (_ : Int) (e : am_F) => e 0 = c 0) 3 0 e he (fun i e2 _ _ he2 => by
      unfold g_k_cp_part_10
      rw [am_put_kr (by omega)]
      exact he2))))
def w_k_rule_60  (c : am_F) : (am_F) ⊕ (am_F) := (if c 0 5 = 0 then (if c 0 2 ≤ c 0 4 then .inr c else (let c79 : am_F := k_partHere c; (let c83 : am_F := k_blanks c79; .inl c83))) else .inr c)
theorem L_k_rule_60 {S : am_S} {d u : Nat} {Q : AO → AH → Prop} {w : AH} {b : Nat} (hl : b + 735 ≤ w.length) (q : am_F)  (hd : 36 ≤ d) : ∀ (n : Nat) (c : am_F), (if c 0 5 = 0 then c 0 2 - c 0 4 + 1 else 0) < n → MI c ∧ (0 ≤ c 0 47 ∧ c 0 47 ≤ 8) → (∀ (c' : am_F), c' = am_wh (w_k_rule_60) n c → MI c' ∧ (0 ≤ c' 0 47 ∧ c' 0 47 ≤ 8) → am_T S zX12_rule d u Q 89 [some (aR b), none] [] (mdW w b c' q)) → am_T S zX12_rule d u Q 60 [some (aR b), none] [] (mdW w b c q) := by
  intro n
  induction n with
  | zero =>
    intro c hm9 hinv k9
    have hM := hinv.1
    have hpp := hinv.2
    have hMr := hM.1
    obtain ⟨r1, r2, r3⟩ := hMr
    exfalso; omega
  | succ n ih =>
    intro c hm9 hinv k9
    have hM := hinv.1
    have hpp := hinv.2
    have hMr := hM.1
    obtain ⟨r1, r2, r3⟩ := hMr
    refine T_aload_n (am_dec tX12_rule_0 34 rfl) rfl ?_
    refine T_getfield 11 5 (am_dec tX12_rule_0 35 rfl) flX12_176_11 (md_obj hl) rfl ?_
    refine T_if_ne 89 (am_dec tX12_rule_0 36 rfl) rfl (fun h64 => ?_) (fun h64 => ?_)
    · have e9 : (w_k_rule_60) c = .inr c := (if_neg h64)
      simp only [am_wh_r e9] at k9
      exact k9 _ rfl hinv
    · refine T_aload_n (am_dec tX12_rule_0 37 rfl) rfl ?_
      refine T_getfield 11 4 (am_dec tX12_rule_0 38 rfl) flX12_169_11 (md_obj hl) rfl ?_
      refine T_aload_n (am_dec tX12_rule_0 39 rfl) rfl ?_
      refine T_getfield 11 2 (am_dec tX12_rule_1 0 rfl) flX12_166_11 (md_obj hl) rfl ?_
      refine T_icmp_ge 89 (am_dec tX12_rule_1 1 rfl) rfl (fun h75 => ?_) (fun h75 => ?_)
      · have e9 : (w_k_rule_60) c = .inr c := ((if_pos h64).trans (if_pos h75))
        simp only [am_wh_r e9] at k9
        exact k9 _ rfl hinv
      · refine T_aload_n (am_dec tX12_rule_1 2 rfl) rfl ?_
        refine T_callV (as := []) rfl (am_dec tX12_rule_1 3 rfl) lkX12_494 (md_obj hl) rfl rfl (Nat.le_of_ble_eq_true rfl) (by omega) (mk_partHere (d := d - 1) hl   hM (by omega) (by omega)) (fun _ => ?_)
        refine T_nmH (W := fun x9 => mdW w b x9 q) (v := k_partHere c) (fun c79 hc79 => ?_)
        have hx79 := k_partHere_x hM hpp
        rw [← hc79] at hx79
        obtain ⟨hI79, hp79, h2_79, hg79⟩ := hx79
        have hR79 : RdV c79 := hI79.1
        refine T_aload_n (am_dec tX12_rule_1 4 rfl) rfl ?_
        refine T_callV (as := []) rfl (am_dec tX12_rule_1 5 rfl) lkX12_182 (md_obj hl) rfl rfl (Nat.le_of_ble_eq_true rfl) (by omega) (mk_blanks (d := d - 1) hl   hR79 (by omega)) (fun _ => ?_)
        refine T_nmH (W := fun x9 => mdW w b x9 q) (v := k_blanks c79) (fun c83 hc83 => ?_)
        have hx83 := MI_blanks hI79
        rw [← hc83] at hx83
        obtain ⟨hI83, h47_83, h5_83, hz83, h4_83⟩ := hx83
        refine T_goto 60 (am_dec tX12_rule_1 6 rfl) rfl ?_
        have e9 : (w_k_rule_60) c = .inl c83 := (by have s9 := hc79.symm; subst s9; have s9 := hc83.symm; subst s9; exact ((if_pos h64).trans (if_neg h75)))
        simp only [am_wh_l e9] at k9
        exact ih c83 (by omega) ⟨hI83, by omega⟩ k9
def k_rule (c : am_F) (q : am_F) (n9 : Int) : Int × am_F × am_F := (let z12 : Int := (k_in n9 0 (c 0 1)); (let t15 : Int := (if z12 = 0 then 1 else (if n9 ≤ 200 then 0 else 1)); (let q32 : am_F := (k_refuse (am_put q 0 0 0) t15 1 2); (let z32 : Int := (if t15 = 0 then 0 else 1); (if z32 = 0 then (let c42 : am_F := k_starts c n9; (let c60 : am_F := am_wh (w_k_rule_60) 602 (am_put (am_put (am_put c42 0 47 0) 0 49 0) 0 50 0); (if c60 0 5 = 0 then (let c140 : am_F := k_cp_part (am_put (am_put (am_put c60 0 3 (c60 0 6)) 0 46 (c60 0 47)) 0 48 (c60 0 49)) (c60 0 47); (let c155 : am_F := k_cp_code c140 (c140 0 48); ((c155 0 46), c155, q32))) else ((am_w32 ((c60 0 5) - 10)), (am_put c60 0 3 (c60 0 6)), q32)))) else (0, c, q32))))))
theorem mk_rule {S : am_S} {d u : Nat} {w : AH} {b : Nat} (hl : b + 735 ≤ w.length) {c : am_F} {q : am_F} (n9 : Int) (htp : 0 ≤ c 0 1 ∧ c 0 1 ≤ 600)  (hd : 36 ≤ d) : am_Out S zX12_rule d u [aR b, aI n9] (mdW w b c q) (.inl (some (aI ((k_rule c q n9).1)))) (mdW w b ((k_rule c q n9).2.1) ((k_rule c q n9).2.2)) := by
  have key : ∀ Q : AO → AH → Prop, Q (.inl (some (aI ((k_rule c q n9).1)))) (mdW w b ((k_rule c q n9).2.1) ((k_rule c q n9).2.2)) → am_M S zX12_rule d u [aR b, aI n9] (mdW w b c q) Q := by
    intro Q hQ
    refine am_body rfl (by decide +kernel) rfl (am_cats_cons rfl ( am_cats_cons rfl (am_cats_nil))) (Nat.le_of_ble_eq_true rfl) (?_ : am_T _ _ _ _ _ 0 [some (aR b), some (aI n9)] [] (mdW w b c q))
    refine T_aload_n (am_dec tX12_rule_0 0 rfl) rfl ?_
    refine T_iconst 0 (am_dec tX12_rule_0 1 rfl) rfl ⟨by decide, by decide⟩ ?_
    refine T_putfield (fs' := mdO b (c 0) (am_up (q 0) 0 0)) 11 0 (am_dec tX12_rule_0 2 rfl) flX12_160_11 rfl rfl rfl trivial (md_obj hl) (Nat.le_of_ble_eq_true rfl) rfl ?_
    refine am_wE (w2 := mdW w b c (am_put q 0 0 0)) (md_fq) ?_
    refine T_aload_n (am_dec tX12_rule_0 3 rfl) rfl ?_
    refine T_iload_n (am_dec tX12_rule_0 4 rfl) rfl ?_
    refine T_iconst 0 (am_dec tX12_rule_0 5 rfl) rfl ⟨by decide, by decide⟩ ?_
    refine T_aload_n (am_dec tX12_rule_0 6 rfl) rfl ?_
    refine T_getfield 11 1 (am_dec tX12_rule_0 7 rfl) flX12_163_11 (md_obj hl) rfl ?_
    refine T_callS (as := [aI n9, aI 0, aI (c 0 1)]) rfl (am_dec tX12_rule_0 8 rfl) lkX12_194 rfl (Nat.le_of_ble_eq_true rfl) (by omega) (mk_in (d := d - 1)  n9 0 (c 0 1)   ) (fun _ => ?_)
    refine T_nm (fun z12 hz12 => ?_)
    have hb12 := k_in_b n9 0 (c 0 1)
    rw [← hz12] at hb12
    have hs12 := k_in_s n9 0 (c 0 1)
    rw [← hz12] at hs12
    have K15 : ∀ (t15 : Int), t15 = (if z12 = 0 then 1 else (if n9 ≤ 200 then 0 else 1)) →  am_T S zX12_rule d u Q 30 [some (aR b), some (aI n9)] [aI t15, aR b] (mdW w b c (am_put q 0 0 0)) := by
      intro t15 ht15 
      have hbt15 : t15 = 0 ∨ t15 = 1 := by
        rw [ht15]
        try dsimp only
        repeat' split
        all_goals first | exact Or.inl rfl | exact Or.inr rfl | apply k_in_b | apply k_isDigit_b | apply k_isSmall_b | apply k_bad_b | apply k_isIn_b | apply k_isStep_b | apply k_isFirst_b | apply k_isLine_b | apply k_seesBy_b | apply k_isWalker_b | apply k_seesOne_b | apply k_badTwo_b | apply k_sees_b | apply k_isCode_b | apply k_isLot_b | apply k_isShip_b | apply k_areRight_b | apply k_right_b | apply k_areSeeds_b | apply k_badBid_b | apply k_isWord_b | apply k_takes_b | apply k_takesSign_b | apply k_isFull_b | apply k_opens_b | omega
      refine T_iconst 1 (am_dec tX12_rule_0 16 rfl) rfl ⟨by decide, by decide⟩ ?_
      refine T_iconst 2 (am_dec tX12_rule_0 17 rfl) rfl ⟨by decide, by decide⟩ ?_
      refine T_callV (as := [aI t15, aI 1, aI 2]) rfl (am_dec tX12_rule_0 18 rfl) lkX12_275 (md_obj hl) rfl rfl (Nat.le_of_ble_eq_true rfl) (by omega) (mk_bad0 (d := d - 1) hl t15 1 2 (by omega) am_put_s (by omega)) (fun _ => ?_)
      refine T_nmH (W := fun x9 => mdW w b c x9) (v := (k_refuse (am_put q 0 0 0) t15 1 2)) (fun q32 hq32 => ?_)
      refine T_nm (fun z32 hz32 => ?_)
      have hq032 : t15 = 0 → q32 0 0 = 0 := fun h9 => by rw [hq32]; exact k_refuse_0 am_put_s h9
      refine T_if_eq 40 (am_dec tX12_rule_0 19 rfl) rfl (fun h35 => ?_) (fun h35 => ?_)
      · refine T_aload_n (am_dec tX12_rule_0 22 rfl) rfl ?_
        refine T_iload_n (am_dec tX12_rule_0 23 rfl) rfl ?_
        refine T_callV (as := [aI n9]) rfl (am_dec tX12_rule_0 24 rfl) lkX12_279 (md_obj hl) rfl rfl (Nat.le_of_ble_eq_true rfl) (by omega) (mk_starts (d := d - 1) hl n9  (by omega) (by omega)) (fun _ => ?_)
        refine T_nmH (W := fun x9 => mdW w b x9 q32) (v := k_starts c n9) (fun c42 hc42 => ?_)
        have hR42 : RdV c42 := by rw [hc42]; exact (k_starts_x (by omega)).1
        have h2_42 : c42 0 2 = n9 := by rw [hc42]; exact k_starts_2 (by omega)
        refine T_aload_n (am_dec tX12_rule_0 25 rfl) rfl ?_
        refine T_iconst 0 (am_dec tX12_rule_0 26 rfl) rfl ⟨by decide, by decide⟩ ?_
        refine T_putfield (fs' := mdO b (am_up (c42 0) 47 0) (q32 0)) 11 47 (am_dec tX12_rule_0 27 rfl) flX12_491_11 rfl rfl rfl trivial (md_obj hl) (Nat.le_of_ble_eq_true rfl) rfl ?_
        refine am_wE (w2 := mdW w b (am_put c42 0 47 0) q32) (md_fc) ?_
        refine T_aload_n (am_dec tX12_rule_0 28 rfl) rfl ?_
        refine T_iconst 0 (am_dec tX12_rule_0 29 rfl) rfl ⟨by decide, by decide⟩ ?_
        refine T_putfield (fs' := mdO b (am_up ((am_put c42 0 47 0) 0) 49 0) (q32 0)) 11 49 (am_dec tX12_rule_0 30 rfl) flX12_452_11 rfl rfl rfl trivial (md_obj hl) (Nat.le_of_ble_eq_true rfl) rfl ?_
        refine am_wE (w2 := mdW w b (am_put (am_put c42 0 47 0) 0 49 0) q32) (md_fc) ?_
        refine T_aload_n (am_dec tX12_rule_0 31 rfl) rfl ?_
        refine T_iconst 0 (am_dec tX12_rule_0 32 rfl) rfl ⟨by decide, by decide⟩ ?_
        refine T_putfield (fs' := mdO b (am_up ((am_put (am_put c42 0 47 0) 0 49 0) 0) 50 0) (q32 0)) 11 50 (am_dec tX12_rule_0 33 rfl) flX12_455_11 rfl rfl rfl trivial (md_obj hl) (Nat.le_of_ble_eq_true rfl) rfl ?_
        refine am_wE (w2 := mdW w b (am_put (am_put (am_put c42 0 47 0) 0 49 0) 0 50 0) q32) (md_fc) ?_
        refine T_weak (ls' := [some (aR b), none]) (am_sub_s (am_sub_n am_sub_nil)) ?_
        refine L_k_rule_60 hl q32   (by omega) 602 (am_put (am_put (am_put c42 0 47 0) 0 49 0) 0 50 0) (by have w9 := hR42; obtain ⟨w1, w2, w3⟩ := w9; show (if c42 0 5 = 0 then c42 0 2 - c42 0 4 + 1 else 0) < (602 : Int); omega) ⟨MI_start hR42 (by omega), ⟨(show (0 : Int) ≤ 0 by decide), (show (0 : Int) ≤ 8 by decide)⟩⟩ (fun c60 hc60 hv60 => ?_)
        have hk60 := hv60.1.2.2.1
        have hl60 := hv60.2
        refine T_aload_n (am_dec tX12_rule_1 7 rfl) rfl ?_
        refine T_aload_n (am_dec tX12_rule_1 8 rfl) rfl ?_
        refine T_getfield 11 6 (am_dec tX12_rule_1 9 rfl) flX12_179_11 (md_obj hl) rfl ?_
        refine T_putfield (fs' := mdO b (am_up (c60 0) 3 (c60 0 6)) (q32 0)) 11 3 (am_dec tX12_rule_1 10 rfl) flX12_9_11 rfl rfl rfl trivial (md_obj hl) (Nat.le_of_ble_eq_true rfl) rfl ?_
        refine am_wE (w2 := mdW w b (am_put c60 0 3 (c60 0 6)) q32) (md_fc) ?_
        refine T_aload_n (am_dec tX12_rule_1 11 rfl) rfl ?_
        refine T_getfield 11 5 (am_dec tX12_rule_1 12 rfl) flX12_176_11 (md_obj hl) rfl ?_
        refine T_if_eq 112 (am_dec tX12_rule_1 13 rfl) rfl (fun h101 => ?_) (fun h101 => ?_)
        · refine T_aload_n (am_dec tX12_rule_1 19 rfl) rfl ?_
          refine T_aload_n (am_dec tX12_rule_1 20 rfl) rfl ?_
          refine T_getfield 11 47 (am_dec tX12_rule_1 21 rfl) flX12_491_11 (md_obj hl) rfl ?_
          refine T_putfield (fs' := mdO b (am_up ((am_put c60 0 3 (c60 0 6)) 0) 46 (c60 0 47)) (q32 0)) 11 46 (am_dec tX12_rule_1 22 rfl) flX12_301_11 rfl rfl rfl trivial (md_obj hl) (Nat.le_of_ble_eq_true rfl) rfl ?_
          refine am_wE (w2 := mdW w b (am_put (am_put c60 0 3 (c60 0 6)) 0 46 (c60 0 47)) q32) (md_fc) ?_
          refine T_aload_n (am_dec tX12_rule_1 23 rfl) rfl ?_
          refine T_aload_n (am_dec tX12_rule_1 24 rfl) rfl ?_
          refine T_getfield 11 49 (am_dec tX12_rule_1 25 rfl) flX12_452_11 (md_obj hl) rfl ?_
          refine T_putfield (fs' := mdO b (am_up ((am_put (am_put c60 0 3 (c60 0 6)) 0 46 (c60 0 47)) 0) 48 (c60 0 49)) (q32 0)) 11 48 (am_dec tX12_rule_1 26 rfl) flX12_304_11 rfl rfl rfl trivial (md_obj hl) (Nat.le_of_ble_eq_true rfl) rfl ?_
          refine am_wE (w2 := mdW w b (am_put (am_put (am_put c60 0 3 (c60 0 6)) 0 46 (c60 0 47)) 0 48 (c60 0 49)) q32) (md_fc) ?_
          refine T_aload_n (am_dec tX12_rule_1 27 rfl) rfl ?_
          refine T_getfield 11 52 (am_dec tX12_rule_1 28 rfl) flX12_118_11 (md_obj hl) rfl ?_
          refine T_aload_n (am_dec tX12_rule_1 29 rfl) rfl ?_
          refine T_getfield 11 51 (am_dec tX12_rule_1 30 rfl) flX12_115_11 (md_obj hl) rfl ?_
          refine T_aload_n (am_dec tX12_rule_1 31 rfl) rfl ?_
          refine T_getfield 11 46 (am_dec tX12_rule_1 32 rfl) flX12_301_11 (md_obj hl) (md_fe rfl ((am_put_i (by decide)).trans (am_put_s))) ?_
          refine T_callS (as := [aR (b + 277), aR (b + 268), aI (c60 0 47)]) rfl (am_dec tX12_rule_1 33 rfl) lkX12_285 rfl (Nat.le_of_ble_eq_true rfl) (by omega) (mk_cp_part (d := d - 1) hl (c60 0 47)  (by omega) ) (fun _ => ?_)
          refine T_nmH (W := fun x9 => mdW w b x9 q32) (v := k_cp_part (am_put (am_put (am_put c60 0 3 (c60 0 6)) 0 46 (c60 0 47)) 0 48 (c60 0 49)) (c60 0 47)) (fun c140 hc140 => ?_)
          have h48_140 : c140 0 48 = c60 0 49 := by rw [hc140]; exact congrFun k_cp_part_0 48
          refine T_aload_n (am_dec tX12_rule_1 34 rfl) rfl ?_
          refine T_getfield 11 54 (am_dec tX12_rule_1 35 rfl) flX12_124_11 (md_obj hl) rfl ?_
          refine T_aload_n (am_dec tX12_rule_1 36 rfl) rfl ?_
          refine T_getfield 11 53 (am_dec tX12_rule_1 37 rfl) flX12_121_11 (md_obj hl) rfl ?_
          refine T_aload_n (am_dec tX12_rule_1 38 rfl) rfl ?_
          refine T_getfield 11 48 (am_dec tX12_rule_1 39 rfl) flX12_304_11 (md_obj hl) rfl ?_
          refine T_callS (as := [aR (b + 507), aR (b + 286), aI (c140 0 48)]) rfl (am_dec tX12_rule_2 0 rfl) lkX12_285 rfl (Nat.le_of_ble_eq_true rfl) (by omega) (mk_cp_code (d := d - 1) hl (c140 0 48)  (by omega) ) (fun _ => ?_)
          refine T_nmH (W := fun x9 => mdW w b x9 q32) (v := k_cp_code c140 (c140 0 48)) (fun c155 hc155 => ?_)
          refine T_aload_n (am_dec tX12_rule_2 1 rfl) rfl ?_
          refine T_getfield 11 46 (am_dec tX12_rule_2 2 rfl) flX12_301_11 (md_obj hl) rfl ?_
          exact T_ireturn (am_dec tX12_rule_2 3 rfl) rfl (am_tr (fun (x9 : Int × am_F × am_F) => Q (.inl (some (aI (x9.1)))) (mdW w b x9.2.1 x9.2.2)) (y := ((c155 0 46), c155, q32)) (show (k_rule c q n9) = ((c155 0 46), c155, q32) from (by have s9 := hz12.symm; subst s9; have s9 := ht15.symm; subst s9; have s9 := hq32.symm; subst s9; have s9 := hz32.symm; subst s9; have s9 := hc42.symm; subst s9; have s9 := hc60.symm; subst s9; have s9 := hc140.symm; subst s9; have s9 := hc155.symm; subst s9; exact ((if_pos h35).trans (if_pos h101)))) hQ)
        · refine T_aload_n (am_dec tX12_rule_1 14 rfl) rfl ?_
          refine T_getfield 11 5 (am_dec tX12_rule_1 15 rfl) flX12_176_11 (md_obj hl) rfl ?_
          refine T_bipush 10 (am_dec tX12_rule_1 16 rfl) rfl ⟨by decide, by decide⟩ ?_
          refine T_isubW (am_w32 ((c60 0 5) - 10)) (am_dec tX12_rule_1 17 rfl) (am_w32e _).symm (am_w32r _) ?_
          exact T_ireturn (am_dec tX12_rule_1 18 rfl) rfl (am_tr (fun (x9 : Int × am_F × am_F) => Q (.inl (some (aI (x9.1)))) (mdW w b x9.2.1 x9.2.2)) (y := ((am_w32 ((c60 0 5) - 10)), (am_put c60 0 3 (c60 0 6)), q32)) (show (k_rule c q n9) = ((am_w32 ((c60 0 5) - 10)), (am_put c60 0 3 (c60 0 6)), q32) from (by have s9 := hz12.symm; subst s9; have s9 := ht15.symm; subst s9; have s9 := hq32.symm; subst s9; have s9 := hz32.symm; subst s9; have s9 := hc42.symm; subst s9; have s9 := hc60.symm; subst s9; exact ((if_pos h35).trans (if_neg h101)))) hQ)
      · refine T_iconst 0 (am_dec tX12_rule_0 20 rfl) rfl ⟨by decide, by decide⟩ ?_
        exact T_ireturn (am_dec tX12_rule_0 21 rfl) rfl (am_tr (fun (x9 : Int × am_F × am_F) => Q (.inl (some (aI (x9.1)))) (mdW w b x9.2.1 x9.2.2)) (y := (0, c, q32)) (show (k_rule c q n9) = (0, c, q32) from (by have s9 := hz12.symm; subst s9; have s9 := ht15.symm; subst s9; have s9 := hq32.symm; subst s9; have s9 := hz32.symm; subst s9; exact (if_neg h35))) hQ)
    refine T_if_eq 25 (am_dec tX12_rule_0 9 rfl) rfl (fun h15 => ?_) (fun h15 => ?_)
    · refine T_iconst 1 (am_dec tX12_rule_0 13 rfl) rfl ⟨by decide, by decide⟩ ?_
      refine T_goto 30 (am_dec tX12_rule_0 14 rfl) rfl ?_
      exact K15 _ (if_pos h15).symm 
    · refine T_iload_n (am_dec tX12_rule_0 10 rfl) rfl ?_
      refine T_sipush 200 (am_dec tX12_rule_0 11 rfl) rfl ⟨by decide, by decide⟩ ?_
      have K22 : ∀ (t22 : Int), t22 = (if n9 ≤ 200 then 0 else 1) →  am_T S zX12_rule d u Q 30 [some (aR b), some (aI n9)] [aI t22, aR b] (mdW w b c (am_put q 0 0 0)) := by
        intro t22 ht22 
        have hbt22 : t22 = 0 ∨ t22 = 1 := by
          rw [ht22]
          try dsimp only
          repeat' split
          all_goals first | exact Or.inl rfl | exact Or.inr rfl | apply k_in_b | apply k_isDigit_b | apply k_isSmall_b | apply k_bad_b | apply k_isIn_b | apply k_isStep_b | apply k_isFirst_b | apply k_isLine_b | apply k_seesBy_b | apply k_isWalker_b | apply k_seesOne_b | apply k_badTwo_b | apply k_sees_b | apply k_isCode_b | apply k_isLot_b | apply k_isShip_b | apply k_areRight_b | apply k_right_b | apply k_areSeeds_b | apply k_badBid_b | apply k_isWord_b | apply k_takes_b | apply k_takesSign_b | apply k_isFull_b | apply k_opens_b | omega
        exact K15 _ (by have s9 := ht22.symm; subst s9; exact (if_neg h15).symm) 
      refine T_icmp_le 29 (am_dec tX12_rule_0 12 rfl) rfl (fun h22 => ?_) (fun h22 => ?_)
      · refine T_iconst 0 (am_dec tX12_rule_0 15 rfl) rfl ⟨by decide, by decide⟩ ?_
        exact K22 _ (if_pos h22).symm 
      · refine T_iconst 1 (am_dec tX12_rule_0 13 rfl) rfl ⟨by decide, by decide⟩ ?_
        refine T_goto 30 (am_dec tX12_rule_0 14 rfl) rfl ?_
        exact K22 _ (if_neg h22).symm 
  exact key _ ⟨rfl, rfl⟩
