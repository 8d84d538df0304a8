/-! the model: what is read becomes what is told -/
def g_k_tellsNothing_2  (v1 : Int) (c : am_F) : am_F := (am_put c 3 v1.toNat 0)
theorem L_k_tellsNothing_2 {S : am_S} {d u : Nat} {Q : AO → AH → Prop} {w : AH} {b : Nat} (hl : b + 735 ≤ w.length) (q : am_F)    (B9 : Int) (hB : B9 = 11) : ∀ (n : Nat) (v1 : Int) (c : am_F), v1 + n = B9 → 0 ≤ v1 → (∀ (c' : am_F), c' = am_fold (g_k_tellsNothing_2) v1 n c → am_T S zX12_tellsNothing d u Q 21 [some (aR b), none] [] (mdW w b c' q)) → am_T S zX12_tellsNothing d u Q 2 [some (aR b), some (aI v1)] [] (mdW w b c q) := by
  intro n
  induction n with
  | zero =>
    intro v1 c hi9 h0i k9
    have e9 : v1 = B9 := by omega
    subst e9
    refine T_iload_n (am_dec tX12_tellsNothing_0 2 rfl) rfl ?_
    refine T_bipush 11 (am_dec tX12_tellsNothing_0 3 rfl) rfl ⟨by decide, by decide⟩ ?_
    refine T_icmp_ge 21 (am_dec tX12_tellsNothing_0 4 rfl) rfl (fun h5 => ?_) (fun h5 => by exfalso; omega)
    refine T_weak (ls' := [some (aR b), none]) (am_sub_s (am_sub_n am_sub_nil)) ?_
    exact k9 c rfl
  | succ n ih =>
    intro v1 c hi9 h0i k9
    refine T_iload_n (am_dec tX12_tellsNothing_0 2 rfl) rfl ?_
    refine T_bipush 11 (am_dec tX12_tellsNothing_0 3 rfl) rfl ⟨by decide, by decide⟩ ?_
    refine T_icmp_ge 21 (am_dec tX12_tellsNothing_0 4 rfl) rfl (fun h5 => by exfalso; omega) (fun h5 => ?_)
    refine T_aload_n (am_dec tX12_tellsNothing_0 5 rfl) rfl ?_
    refine T_getfield 11 10 (am_dec tX12_tellsNothing_0 6 rfl) flX12_20_11 (md_obj hl) rfl ?_
    refine T_iload_n (am_dec tX12_tellsNothing_0 7 rfl) rfl ?_
    refine T_iconst 0 (am_dec tX12_tellsNothing_0 8 rfl) rfl ⟨by decide, by decide⟩ ?_
    refine T_iastore (am_dec tX12_tellsNothing_0 9 rfl) (md_readTold hl) (by omega) (by omega) ?_
    refine am_wE (w2 := mdW w b (am_put c 3 v1.toNat 0) q) (md_pc (Nat.le_of_ble_eq_true rfl) (fun _ _ => rfl)) ?_
    refine T_iinc (ls' := [some (aR b), some (aI (v1 + 1))]) (v1 + 1) (am_dec tX12_tellsNothing_0 10 rfl) rfl rfl ⟨by omega, by omega⟩ (by decide) rfl ?_
    refine T_goto 2 (am_dec tX12_tellsNothing_0 11 rfl) rfl ?_
    have e9 : (g_k_tellsNothing_2) v1 c = (am_put c 3 v1.toNat 0) := rfl
    simp only [am_fold_s, e9] at k9
    exact ih (v1 + 1) (am_put c 3 v1.toNat 0) (by omega) (by omega) k9
def g_k_tellsNothing_47  (v1 : Int) (c : am_F) : am_F := (am_put c 5 v1.toNat 0)
theorem L_k_tellsNothing_47 {S : am_S} {d u : Nat} {Q : AO → AH → Prop} {w : AH} {b : Nat} (hl : b + 735 ≤ w.length) (q : am_F)    (B9 : Int) (hB : B9 = 81) : ∀ (n : Nat) (v1 : Int) (c : am_F), v1 + n = B9 → 0 ≤ v1 → (∀ (c' : am_F), c' = am_fold (g_k_tellsNothing_47) v1 n c → am_T S zX12_tellsNothing d u Q 66 [none, none] [] (mdW w b c' q)) → am_T S zX12_tellsNothing d u Q 47 [some (aR b), some (aI v1)] [] (mdW w b c q) := by
  intro n
  induction n with
  | zero =>
    intro v1 c hi9 h0i k9
    have e9 : v1 = B9 := by omega
    subst e9
    refine T_iload_n (am_dec tX12_tellsNothing_0 29 rfl) rfl ?_
    refine T_bipush 81 (am_dec tX12_tellsNothing_0 30 rfl) rfl ⟨by decide, by decide⟩ ?_
    refine T_icmp_ge 66 (am_dec tX12_tellsNothing_0 31 rfl) rfl (fun h50 => ?_) (fun h50 => by exfalso; omega)
    refine T_weak (ls' := [none, none]) (am_sub_n (am_sub_n am_sub_nil)) ?_
    exact k9 c rfl
  | succ n ih =>
    intro v1 c hi9 h0i k9
    refine T_iload_n (am_dec tX12_tellsNothing_0 29 rfl) rfl ?_
    refine T_bipush 81 (am_dec tX12_tellsNothing_0 30 rfl) rfl ⟨by decide, by decide⟩ ?_
    refine T_icmp_ge 66 (am_dec tX12_tellsNothing_0 31 rfl) rfl (fun h50 => by exfalso; omega) (fun h50 => ?_)
    refine T_aload_n (am_dec tX12_tellsNothing_0 32 rfl) rfl ?_
    refine T_getfield 11 12 (am_dec tX12_tellsNothing_0 33 rfl) flX12_26_11 (md_obj hl) rfl ?_
    refine T_iload_n (am_dec tX12_tellsNothing_0 34 rfl) rfl ?_
    refine T_iconst 0 (am_dec tX12_tellsNothing_0 35 rfl) rfl ⟨by decide, by decide⟩ ?_
    refine T_iastore (am_dec tX12_tellsNothing_0 36 rfl) (md_readFog hl) (by omega) (by omega) ?_
    refine am_wE (w2 := mdW w b (am_put c 5 v1.toNat 0) q) (md_pc (Nat.le_of_ble_eq_true rfl) (fun _ _ => rfl)) ?_
    refine T_iinc (ls' := [some (aR b), some (aI (v1 + 1))]) (v1 + 1) (am_dec tX12_tellsNothing_0 37 rfl) rfl rfl ⟨by omega, by omega⟩ (by decide) rfl ?_
    refine T_goto 47 (am_dec tX12_tellsNothing_0 38 rfl) rfl ?_
    have e9 : (g_k_tellsNothing_47) v1 c = (am_put c 5 v1.toNat 0) := rfl
    simp only [am_fold_s, e9] at k9
    exact ih (v1 + 1) (am_put c 5 v1.toNat 0) (by omega) (by omega) k9
def k_tellsNothing (c : am_F) : am_F := (let c2 : am_F := am_fold (g_k_tellsNothing_2) 0 11 c; am_fold (g_k_tellsNothing_47) 0 81 (am_put (am_put (am_put c2 3 0 6) 3 1 5) 3 7 20))
theorem mk_tellsNothing {S : am_S} {d u : Nat} {w : AH} {b : Nat} (hl : b + 735 ≤ w.length) {c : am_F} {q : am_F}    : am_Out S zX12_tellsNothing d u [aR b] (mdW w b c q) (.inl none) (mdW w b (k_tellsNothing c) q) := by
  have key : ∀ Q : AO → AH → Prop, Q (.inl none) (mdW w b (k_tellsNothing c) q) → am_M S zX12_tellsNothing d u [aR b] (mdW w b c q) Q := by
    intro Q hQ
    refine am_body rfl (by decide +kernel) rfl (am_cats_cons rfl (am_cats_nil)) (Nat.le_of_ble_eq_true rfl) (?_ : am_T _ _ _ _ _ 0 [some (aR b), none] [] (mdW w b c q))
    refine T_iconst 0 (am_dec tX12_tellsNothing_0 0 rfl) rfl ⟨by decide, by decide⟩ ?_
    refine T_istore_n (ls' := [some (aR b), some (aI 0)]) (am_dec tX12_tellsNothing_0 1 rfl) (by decide) rfl ?_
    refine L_k_tellsNothing_2 hl q    _ rfl 11 0 c (by omega) (by omega) (fun c2 hc2 => ?_)
    refine T_aload_n (am_dec tX12_tellsNothing_0 12 rfl) rfl ?_
    refine T_getfield 11 10 (am_dec tX12_tellsNothing_0 13 rfl) flX12_20_11 (md_obj hl) rfl ?_
    refine T_iconst 0 (am_dec tX12_tellsNothing_0 14 rfl) rfl ⟨by decide, by decide⟩ ?_
    refine T_bipush 6 (am_dec tX12_tellsNothing_0 15 rfl) rfl ⟨by decide, by decide⟩ ?_
    refine T_iastore (am_dec tX12_tellsNothing_0 16 rfl) (md_readTold hl) (by omega) (by omega) ?_
    refine am_wE (w2 := mdW w b (am_put c2 3 0 6) q) (md_pc (Nat.le_of_ble_eq_true rfl) (fun _ _ => rfl)) ?_
    refine T_aload_n (am_dec tX12_tellsNothing_0 17 rfl) rfl ?_
    refine T_getfield 11 10 (am_dec tX12_tellsNothing_0 18 rfl) flX12_20_11 (md_obj hl) rfl ?_
    refine T_iconst 1 (am_dec tX12_tellsNothing_0 19 rfl) rfl ⟨by decide, by decide⟩ ?_
    refine T_iconst 5 (am_dec tX12_tellsNothing_0 20 rfl) rfl ⟨by decide, by decide⟩ ?_
    refine T_iastore (am_dec tX12_tellsNothing_0 21 rfl) (md_readTold hl) (by omega) (by omega) ?_
    refine am_wE (w2 := mdW w b (am_put (am_put c2 3 0 6) 3 1 5) q) (md_pc (Nat.le_of_ble_eq_true rfl) (fun _ _ => rfl)) ?_
    refine T_aload_n (am_dec tX12_tellsNothing_0 22 rfl) rfl ?_
    refine T_getfield 11 10 (am_dec tX12_tellsNothing_0 23 rfl) flX12_20_11 (md_obj hl) rfl ?_
    refine T_bipush 7 (am_dec tX12_tellsNothing_0 24 rfl) rfl ⟨by decide, by decide⟩ ?_
    refine T_bipush 20 (am_dec tX12_tellsNothing_0 25 rfl) rfl ⟨by decide, by decide⟩ ?_
    refine T_iastore (am_dec tX12_tellsNothing_0 26 rfl) (md_readTold hl) (by omega) (by omega) ?_
    refine am_wE (w2 := mdW w b (am_put (am_put (am_put c2 3 0 6) 3 1 5) 3 7 20) q) (md_pc (Nat.le_of_ble_eq_true rfl) (fun _ _ => rfl)) ?_
    refine T_iconst 0 (am_dec tX12_tellsNothing_0 27 rfl) rfl ⟨by decide, by decide⟩ ?_
    refine T_istore_n (ls' := [some (aR b), some (aI 0)]) (am_dec tX12_tellsNothing_0 28 rfl) (by decide) rfl ?_
    refine L_k_tellsNothing_47 hl q    _ rfl 81 0 (am_put (am_put (am_put c2 3 0 6) 3 1 5) 3 7 20) (by omega) (by omega) (fun c47 hc47 => ?_)
    exact T_return (am_dec tX12_tellsNothing_0 39 rfl) rfl (am_tr (fun (x9 : am_F) => Q (.inl none) (mdW w b x9 q)) (y := c47) (show (k_tellsNothing c) = c47 from (by have s9 := hc2.symm; subst s9; have s9 := hc47.symm; subst s9; exact rfl)) hQ)
  exact key _ ⟨rfl, rfl⟩
def k_starts (c : am_F) (n9 : Int) : am_F := k_blanks (am_put (am_put (am_put (am_put (am_put (am_put c 0 1 0) 0 2 n9) 0 4 0) 0 5 0) 0 6 (-1)) 0 7 0)
theorem mk_starts {S : am_S} {d u : Nat} {w : AH} {b : Nat} (hl : b + 735 ≤ w.length) {c : am_F} {q : am_F} (n9 : Int) (hn : 0 ≤ n9 ∧ n9 ≤ 600) (hd : 2 ≤ d) : am_Out S zX12_starts d u [aR b, aI n9] (mdW w b c q) (.inl none) (mdW w b (k_starts c n9) q) := by
  have key : ∀ Q : AO → AH → Prop, Q (.inl none) (mdW w b (k_starts c n9) q) → am_M S zX12_starts d u [aR b, aI n9] (mdW w b c q) Q := by
    intro Q hQ
    refine am_body rfl (by decide +kernel) rfl (am_cats_cons rfl ( am_cats_cons rfl (am_cats_nil))) (Nat.le_of_ble_eq_true rfl) (?_ : am_T _ _ _ _ _ 0 [some (aR b), some (aI n9)] [] (mdW w b c q))
    refine T_aload_n (am_dec tX12_starts_0 0 rfl) rfl ?_
    refine T_iconst 0 (am_dec tX12_starts_0 1 rfl) rfl ⟨by decide, by decide⟩ ?_
    refine T_putfield (fs' := mdO b (am_up (c 0) 1 0) (q 0)) 11 1 (am_dec tX12_starts_0 2 rfl) flX12_163_11 rfl rfl rfl trivial (md_obj hl) (Nat.le_of_ble_eq_true rfl) rfl ?_
    refine am_wE (w2 := mdW w b (am_put c 0 1 0) q) (md_fc) ?_
    refine T_aload_n (am_dec tX12_starts_0 3 rfl) rfl ?_
    refine T_iload_n (am_dec tX12_starts_0 4 rfl) rfl ?_
    refine T_putfield (fs' := mdO b (am_up ((am_put c 0 1 0) 0) 2 n9) (q 0)) 11 2 (am_dec tX12_starts_0 5 rfl) flX12_166_11 rfl rfl rfl trivial (md_obj hl) (Nat.le_of_ble_eq_true rfl) rfl ?_
    refine am_wE (w2 := mdW w b (am_put (am_put c 0 1 0) 0 2 n9) q) (md_fc) ?_
    refine T_aload_n (am_dec tX12_starts_0 6 rfl) rfl ?_
    refine T_iconst 0 (am_dec tX12_starts_0 7 rfl) rfl ⟨by decide, by decide⟩ ?_
    refine T_putfield (fs' := mdO b (am_up ((am_put (am_put c 0 1 0) 0 2 n9) 0) 4 0) (q 0)) 11 4 (am_dec tX12_starts_0 8 rfl) flX12_169_11 rfl rfl rfl trivial (md_obj hl) (Nat.le_of_ble_eq_true rfl) rfl ?_
    refine am_wE (w2 := mdW w b (am_put (am_put (am_put c 0 1 0) 0 2 n9) 0 4 0) q) (md_fc) ?_
    refine T_aload_n (am_dec tX12_starts_0 9 rfl) rfl ?_
    refine T_iconst 0 (am_dec tX12_starts_0 10 rfl) rfl ⟨by decide, by decide⟩ ?_
    refine T_putfield (fs' := mdO b (am_up ((am_put (am_put (am_put c 0 1 0) 0 2 n9) 0 4 0) 0) 5 0) (q 0)) 11 5 (am_dec tX12_starts_0 11 rfl) flX12_176_11 rfl rfl rfl trivial (md_obj hl) (Nat.le_of_ble_eq_true rfl) rfl ?_
    refine am_wE (w2 := mdW w b (am_put (am_put (am_put (am_put c 0 1 0) 0 2 n9) 0 4 0) 0 5 0) q) (md_fc) ?_
    refine T_aload_n (am_dec tX12_starts_0 12 rfl) rfl ?_
    refine T_iconst (-1) (am_dec tX12_starts_0 13 rfl) rfl ⟨by decide, by decide⟩ ?_
    refine T_putfield (fs' := mdO b (am_up ((am_put (am_put (am_put (am_put c 0 1 0) 0 2 n9) 0 4 0) 0 5 0) 0) 6 (-1)) (q 0)) 11 6 (am_dec tX12_starts_0 14 rfl) flX12_179_11 rfl rfl rfl trivial (md_obj hl) (Nat.le_of_ble_eq_true rfl) rfl ?_
    refine am_wE (w2 := mdW w b (am_put (am_put (am_put (am_put (am_put c 0 1 0) 0 2 n9) 0 4 0) 0 5 0) 0 6 (-1)) q) (md_fc) ?_
    refine T_aload_n (am_dec tX12_starts_0 15 rfl) rfl ?_
    refine T_iconst 0 (am_dec tX12_starts_0 16 rfl) rfl ⟨by decide, by decide⟩ ?_
    refine T_putfield (fs' := mdO b (am_up ((am_put (am_put (am_put (am_put (am_put c 0 1 0) 0 2 n9) 0 4 0) 0 5 0) 0 6 (-1)) 0) 7 0) (q 0)) 11 7 (am_dec tX12_starts_0 17 rfl) flX12_222_11 rfl rfl rfl trivial (md_obj hl) (Nat.le_of_ble_eq_true rfl) rfl ?_
    refine am_wE (w2 := mdW w b (am_put (am_put (am_put (am_put (am_put (am_put c 0 1 0) 0 2 n9) 0 4 0) 0 5 0) 0 6 (-1)) 0 7 0) q) (md_fc) ?_
    refine T_aload_n (am_dec tX12_starts_0 18 rfl) rfl ?_
    refine T_callV (as := []) rfl (am_dec tX12_starts_0 19 rfl) lkX12_182 (md_obj hl) rfl rfl (Nat.le_of_ble_eq_true rfl) (by omega) (mk_blanks (d := d - 1) hl   (show RdV (am_put (am_put (am_put (am_put (am_put (am_put c 0 1 0) 0 2 n9) 0 4 0) 0 5 0) 0 6 (-1)) 0 7 0) from ⟨(show (0 : Int) ≤ 0 by omega), (show (0 : Int) ≤ n9 by omega), (show n9 ≤ 600 by omega)⟩) (by omega)) (fun _ => ?_)
    refine T_nmH (W := fun x9 => mdW w b x9 q) (v := k_blanks (am_put (am_put (am_put (am_put (am_put (am_put c 0 1 0) 0 2 n9) 0 4 0) 0 5 0) 0 6 (-1)) 0 7 0)) (fun c31 hc31 => ?_)
    have hR31 : RdV c31 := by rw [hc31]; exact (k_blanks_x (show RdV (am_put (am_put (am_put (am_put (am_put (am_put c 0 1 0) 0 2 n9) 0 4 0) 0 5 0) 0 6 (-1)) 0 7 0) from ⟨(show (0 : Int) ≤ 0 by omega), (show (0 : Int) ≤ n9 by omega), (show n9 ≤ 600 by omega)⟩)).1
    have hR9 := hR31
    obtain ⟨ra31, rb31, rc31⟩ := hR9
    have hf31 : c31 0 5 = 0 := by rw [hc31]; exact k_blanks_5.trans ((am_put_i (by decide)).trans ((am_put_i (by decide)).trans (am_put_s)))
    exact T_return (am_dec tX12_starts_0 20 rfl) rfl (am_tr (fun (x9 : am_F) => Q (.inl none) (mdW w b x9 q)) (y := c31) (show (k_starts c n9) = c31 from (by have s9 := hc31.symm; subst s9; exact rfl)) hQ)
  exact key _ ⟨rfl, rfl⟩
def g_k_cp_wind_10 (k : Int) (i : Int) (c : am_F) : am_F := (am_put c (21 + k.toNat) i.toNat (c (8 + k.toNat) i.toNat))
theorem L_k_cp_wind_10 {S : am_S} {d u : Nat} {Q : AO → AH → Prop} {w : AH} {b : Nat} (hl : b + 735 ≤ w.length) (q : am_F) (many : Int) (k : Int) (hm : 0 ≤ many ∧ many ≤ 12) (ho2 : 0 ≤ k ∧ k < many)  (B9 : Int) (hB : B9 = 4) : ∀ (n : Nat) (i : Int) (c : am_F), i + n = B9 → 0 ≤ i → (∀ (c' : am_F), c' = am_fold (g_k_cp_wind_10 k) i n c → am_T S zX12_copies d u Q 37 [some (aR (b + 7)), some (aR (b + 20)), some (aI many), some (aI k), none] [] (mdW w b c' q)) → am_T S zX12_copies d u Q 10 [some (aR (b + 7)), some (aR (b + 20)), some (aI many), some (aI k), some (aI i)] [] (mdW w b c q) := by
  intro n
  induction n with
  | zero =>
    intro i c hi9 h0i k9
    have e9 : i = B9 := by omega
    subst e9
    refine T_iload (am_dec tX12_copies_0 7 rfl) rfl ?_
    refine T_aload_n (am_dec tX12_copies_0 8 rfl) rfl ?_
    refine T_iload_n (am_dec tX12_copies_0 9 rfl) rfl ?_
    refine T_aaloadR (r := b + (21 + k.toNat)) (am_dec tX12_copies_0 10 rfl) (by decide) (mh_wind hl) (by omega) (by omega) (if_pos (by omega)) ?_
    refine T_alenP (am_dec tX12_copies_0 11 rfl) (by decide) (mr_wind hl (i := k) (by omega) (by omega)) (by omega) ?_
    refine T_icmp_ge 37 (am_dec tX12_copies_0 12 rfl) rfl (fun h16 => ?_) (fun h16 => by exfalso; omega)
    refine T_weak (ls' := [some (aR (b + 7)), some (aR (b + 20)), some (aI many), some (aI k), none]) (am_sub_s (am_sub_s (am_sub_s (am_sub_s (am_sub_n am_sub_nil))))) ?_
    exact k9 c rfl
  | succ n ih =>
    intro i c hi9 h0i k9
    refine T_iload (am_dec tX12_copies_0 7 rfl) rfl ?_
    refine T_aload_n (am_dec tX12_copies_0 8 rfl) rfl ?_
    refine T_iload_n (am_dec tX12_copies_0 9 rfl) rfl ?_
    refine T_aaloadR (r := b + (21 + k.toNat)) (am_dec tX12_copies_0 10 rfl) (by decide) (mh_wind hl) (by omega) (by omega) (if_pos (by omega)) ?_
    refine T_alenP (am_dec tX12_copies_0 11 rfl) (by decide) (mr_wind hl (i := k) (by omega) (by omega)) (by omega) ?_
    refine T_icmp_ge 37 (am_dec tX12_copies_0 12 rfl) rfl (fun h16 => by exfalso; omega) (fun h16 => ?_)
    refine T_aload_n (am_dec tX12_copies_0 13 rfl) rfl ?_
    refine T_iload_n (am_dec tX12_copies_0 14 rfl) rfl ?_
    refine T_aaloadR (r := b + (21 + k.toNat)) (am_dec tX12_copies_0 15 rfl) (by decide) (mh_wind hl) (by omega) (by omega) (if_pos (by omega)) ?_
    refine T_iload (am_dec tX12_copies_0 16 rfl) rfl ?_
    refine T_aload_n (am_dec tX12_copies_0 17 rfl) rfl ?_
    refine T_iload_n (am_dec tX12_copies_0 18 rfl) rfl ?_
    refine T_aaloadR (r := b + (8 + k.toNat)) (am_dec tX12_copies_0 19 rfl) (by decide) (mh_readWind hl) (by omega) (by omega) (if_pos (by omega)) ?_
    refine T_iload (am_dec tX12_copies_0 20 rfl) rfl ?_
    refine T_ialoadE (x := c (8 + k.toNat) i.toNat) (am_dec tX12_copies_0 21 rfl) (mr_readWind hl (i := k) (by omega) (by omega)) (by omega) (by omega) rfl ?_
    refine T_iastore (am_dec tX12_copies_0 22 rfl) (mr_wind hl (i := k) (by omega) (by omega)) (by omega) (by omega) ?_
    refine am_wE (w2 := mdW w b (am_put c (21 + k.toNat) i.toNat (c (8 + k.toNat) i.toNat)) q) (md_pc (by omega) (fun f g => md_t_wind f g (by omega))) ?_
    refine T_iinc (ls' := [some (aR (b + 7)), some (aR (b + 20)), some (aI many), some (aI k), some (aI (i + 1))]) (i + 1) (am_dec tX12_copies_0 23 rfl) rfl rfl ⟨by omega, by omega⟩ (by decide) rfl ?_
    refine T_goto 10 (am_dec tX12_copies_0 24 rfl) rfl ?_
    have e9 : (g_k_cp_wind_10 k) i c = (am_put c (21 + k.toNat) i.toNat (c (8 + k.toNat) i.toNat)) := rfl
    simp only [am_fold_s, e9] at k9
    exact ih (i + 1) (am_put c (21 + k.toNat) i.toNat (c (8 + k.toNat) i.toNat)) (by omega) (by omega) k9
def g_k_cp_wind_2  (k : Int) (c : am_F) : am_F := am_fold (g_k_cp_wind_10 k) 0 4 c
theorem L_k_cp_wind_2 {S : am_S} {d u : Nat} {Q : AO → AH → Prop} {w : AH} {b : Nat} (hl : b + 735 ≤ w.length) (q : am_F) (many : Int) (hm : 0 ≤ many ∧ many ≤ 12)   (B9 : Int) (hB : B9 = many) : ∀ (n : Nat) (k : Int) (c : am_F), k + n = B9 → 0 ≤ k → (∀ (c' : am_F), c' = am_fold (g_k_cp_wind_2) k n c → am_T S zX12_copies d u Q 43 [none, none, none, none, none] [] (mdW w b c' q)) → am_T S zX12_copies d u Q 2 [some (aR (b + 7)), some (aR (b + 20)), some (aI many), some (aI k), none] [] (mdW w b c q) := by
  intro n
  induction n with
  | zero =>
    intro k c hi9 h0i k9
    have e9 : k = B9 := by omega
    subst e9
    refine T_iload_n (am_dec tX12_copies_0 2 rfl) rfl ?_
    refine T_iload_n (am_dec tX12_copies_0 3 rfl) rfl ?_
    refine T_icmp_ge 43 (am_dec tX12_copies_0 4 rfl) rfl (fun h4 => ?_) (fun h4 => by exfalso; omega)
    refine T_weak (ls' := [none, none, none, none, none]) (am_sub_n (am_sub_n (am_sub_n (am_sub_n (am_sub_n am_sub_nil))))) ?_
    exact k9 c rfl
  | succ n ih =>
    intro k c hi9 h0i k9
    refine T_iload_n (am_dec tX12_copies_0 2 rfl) rfl ?_
    refine T_iload_n (am_dec tX12_copies_0 3 rfl) rfl ?_
    refine T_icmp_ge 43 (am_dec tX12_copies_0 4 rfl) rfl (fun h4 => by exfalso; omega) (fun h4 => ?_)
    refine T_iconst 0 (am_dec tX12_copies_0 5 rfl) rfl ⟨by decide, by decide⟩ ?_
    refine T_istore (ls' := [some (aR (b + 7)), some (aR (b + 20)), some (aI many), some (aI k), some (aI 0)]) (am_dec tX12_copies_0 6 rfl) (by decide) rfl ?_
    refine L_k_cp_wind_10 hl q many k hm (by omega)  _ rfl 4 0 c (by omega) (by omega) (fun c10 hc10 => ?_)
    refine T_iinc (ls' := [some (aR (b + 7)), some (aR (b + 20)), some (aI many), some (aI (k + 1)), none]) (k + 1) (am_dec tX12_copies_0 25 rfl) rfl rfl ⟨by omega, by omega⟩ (by decide) rfl ?_
    refine T_goto 2 (am_dec tX12_copies_0 26 rfl) rfl ?_
    have e9 : (g_k_cp_wind_2) k c = c10 := (by have s9 := hc10.symm; subst s9; exact rfl)
    simp only [am_fold_s, e9] at k9
    exact ih (k + 1) c10 (by omega) (by omega) k9
def k_cp_wind (c : am_F) (many : Int) : am_F := am_fold (g_k_cp_wind_2) 0 (many).toNat c
theorem mk_cp_wind {S : am_S} {d u : Nat} {w : AH} {b : Nat} (hl : b + 735 ≤ w.length) {c : am_F} {q : am_F} (many : Int) (hm : 0 ≤ many ∧ many ≤ 12)  : am_Out S zX12_copies d u [aR (b + 7), aR (b + 20), aI many] (mdW w b c q) (.inl none) (mdW w b (k_cp_wind c many) q) := by
  have key : ∀ Q : AO → AH → Prop, Q (.inl none) (mdW w b (k_cp_wind c many) q) → am_M S zX12_copies d u [aR (b + 7), aR (b + 20), aI many] (mdW w b c q) Q := by
    intro Q hQ
    refine am_body rfl (by decide +kernel) rfl (am_cats_cons rfl ( am_cats_cons rfl ( am_cats_cons rfl (am_cats_nil)))) (Nat.le_of_ble_eq_true rfl) (?_ : am_T _ _ _ _ _ 0 [some (aR (b + 7)), some (aR (b + 20)), some (aI many), none, none] [] (mdW w b c q))
    refine T_iconst 0 (am_dec tX12_copies_0 0 rfl) rfl ⟨by decide, by decide⟩ ?_
    refine T_istore_n (ls' := [some (aR (b + 7)), some (aR (b + 20)), some (aI many), some (aI 0), none]) (am_dec tX12_copies_0 1 rfl) (by decide) rfl ?_
    refine L_k_cp_wind_2 hl q many hm   _ rfl (many).toNat 0 c (by omega) (by omega) (fun c2 hc2 => ?_)
    exact T_return (am_dec tX12_copies_0 27 rfl) rfl (am_tr (fun (x9 : am_F) => Q (.inl none) (mdW w b x9 q)) (y := c2) (show (k_cp_wind c many) = c2 from (by have s9 := hc2.symm; subst s9; exact rfl)) hQ)
  exact key _ ⟨rfl, rfl⟩
theorem k_cp_wind_4 {c : am_F} {many : Int} (hm : 0 ≤ many ∧ many ≤ 12) : k_cp_wind c many 4 = c 4 := by
  unfold k_cp_wind
  exact (am_fold_inv (P := fun (_ : Int) (e : am_F) => e 4 = c 4) many.toNat 0 c rfl (fun k e h0 h1 he => by
    unfold g_k_cp_wind_2
    exact (am_fold_inv (P := fun (_ : Int) (e : am_F) => e 4 = c 4) 4 0 e he (fun i e2 _ _ he2 => by
      unfold g_k_cp_wind_10
      rw [am_put_kr (by omega)]
      exact he2))))
def g_k_cp_thin_10 (k : Int) (i : Int) (c : am_F) : am_F := (am_put c (47 + k.toNat) i.toNat (c (34 + k.toNat) i.toNat))
theorem L_k_cp_thin_10 {S : am_S} {d u : Nat} {Q : AO → AH → Prop} {w : AH} {b : Nat} (hl : b + 735 ≤ w.length) (q : am_F) (many : Int) (k : Int) (hm : 0 ≤ many ∧ many ≤ 12) (ho2 : 0 ≤ k ∧ k < many)  (B9 : Int) (hB : B9 = 2) : ∀ (n : Nat) (i : Int) (c : am_F), i + n = B9 → 0 ≤ i → (∀ (c' : am_F), c' = am_fold (g_k_cp_thin_10 k) i n c → am_T S zX12_copies d u Q 37 [some (aR (b + 33)), some (aR (b + 46)), some (aI many), some (aI k), none] [] (mdW w b c' q)) → am_T S zX12_copies d u Q 10 [some (aR (b + 33)), some (aR (b + 46)), some (aI many), some (aI k), some (aI i)] [] (mdW w b c q) := by
  intro n
  induction n with
  | zero =>
    intro i c hi9 h0i k9
    have e9 : i = B9 := by omega
    subst e9
    refine T_iload (am_dec tX12_copies_0 7 rfl) rfl ?_
    refine T_aload_n (am_dec tX12_copies_0 8 rfl) rfl ?_
    refine T_iload_n (am_dec tX12_copies_0 9 rfl) rfl ?_
    refine T_aaloadR (r := b + (47 + k.toNat)) (am_dec tX12_copies_0 10 rfl) (by decide) (mh_thin hl) (by omega) (by omega) (if_pos (by omega)) ?_
    refine T_alenP (am_dec tX12_copies_0 11 rfl) (by decide) (mr_thin hl (i := k) (by omega) (by omega)) (by omega) ?_
    refine T_icmp_ge 37 (am_dec tX12_copies_0 12 rfl) rfl (fun h16 => ?_) (fun h16 => by exfalso; omega)
    refine T_weak (ls' := [some (aR (b + 33)), some (aR (b + 46)), some (aI many), some (aI k), none]) (am_sub_s (am_sub_s (am_sub_s (am_sub_s (am_sub_n am_sub_nil))))) ?_
    exact k9 c rfl
  | succ n ih =>
    intro i c hi9 h0i k9
    refine T_iload (am_dec tX12_copies_0 7 rfl) rfl ?_
    refine T_aload_n (am_dec tX12_copies_0 8 rfl) rfl ?_
    refine T_iload_n (am_dec tX12_copies_0 9 rfl) rfl ?_
    refine T_aaloadR (r := b + (47 + k.toNat)) (am_dec tX12_copies_0 10 rfl) (by decide) (mh_thin hl) (by omega) (by omega) (if_pos (by omega)) ?_
    refine T_alenP (am_dec tX12_copies_0 11 rfl) (by decide) (mr_thin hl (i := k) (by omega) (by omega)) (by omega) ?_
    refine T_icmp_ge 37 (am_dec tX12_copies_0 12 rfl) rfl (fun h16 => by exfalso; omega) (fun h16 => ?_)
    refine T_aload_n (am_dec tX12_copies_0 13 rfl) rfl ?_
    refine T_iload_n (am_dec tX12_copies_0 14 rfl) rfl ?_
    refine T_aaloadR (r := b + (47 + k.toNat)) (am_dec tX12_copies_0 15 rfl) (by decide) (mh_thin hl) (by omega) (by omega) (if_pos (by omega)) ?_
    refine T_iload (am_dec tX12_copies_0 16 rfl) rfl ?_
    refine T_aload_n (am_dec tX12_copies_0 17 rfl) rfl ?_
    refine T_iload_n (am_dec tX12_copies_0 18 rfl) rfl ?_
    refine T_aaloadR (r := b + (34 + k.toNat)) (am_dec tX12_copies_0 19 rfl) (by decide) (mh_readThin hl) (by omega) (by omega) (if_pos (by omega)) ?_
    refine T_iload (am_dec tX12_copies_0 20 rfl) rfl ?_
    refine T_ialoadE (x := c (34 + k.toNat) i.toNat) (am_dec tX12_copies_0 21 rfl) (mr_readThin hl (i := k) (by omega) (by omega)) (by omega) (by omega) rfl ?_
    refine T_iastore (am_dec tX12_copies_0 22 rfl) (mr_thin hl (i := k) (by omega) (by omega)) (by omega) (by omega) ?_
    refine am_wE (w2 := mdW w b (am_put c (47 + k.toNat) i.toNat (c (34 + k.toNat) i.toNat)) q) (md_pc (by omega) (fun f g => md_t_thin f g (by omega))) ?_
    refine T_iinc (ls' := [some (aR (b + 33)), some (aR (b + 46)), some (aI many), some (aI k), some (aI (i + 1))]) (i + 1) (am_dec tX12_copies_0 23 rfl) rfl rfl ⟨by omega, by omega⟩ (by decide) rfl ?_
    refine T_goto 10 (am_dec tX12_copies_0 24 rfl) rfl ?_
    have e9 : (g_k_cp_thin_10 k) i c = (am_put c (47 + k.toNat) i.toNat (c (34 + k.toNat) i.toNat)) := rfl
    simp only [am_fold_s, e9] at k9
    exact ih (i + 1) (am_put c (47 + k.toNat) i.toNat (c (34 + k.toNat) i.toNat)) (by omega) (by omega) k9
def g_k_cp_thin_2  (k : Int) (c : am_F) : am_F := am_fold (g_k_cp_thin_10 k) 0 2 c
theorem L_k_cp_thin_2 {S : am_S} {d u : Nat} {Q : AO → AH → Prop} {w : AH} {b : Nat} (hl : b + 735 ≤ w.length) (q : am_F) (many : Int) (hm : 0 ≤ many ∧ many ≤ 12)   (B9 : Int) (hB : B9 = many) : ∀ (n : Nat) (k : Int) (c : am_F), k + n = B9 → 0 ≤ k → (∀ (c' : am_F), c' = am_fold (g_k_cp_thin_2) k n c → am_T S zX12_copies d u Q 43 [none, none, none, none, none] [] (mdW w b c' q)) → am_T S zX12_copies d u Q 2 [some (aR (b + 33)), some (aR (b + 46)), some (aI many), some (aI k), none] [] (mdW w b c q) := by
  intro n
  induction n with
  | zero =>
    intro k c hi9 h0i k9
    have e9 : k = B9 := by omega
    subst e9
    refine T_iload_n (am_dec tX12_copies_0 2 rfl) rfl ?_
    refine T_iload_n (am_dec tX12_copies_0 3 rfl) rfl ?_
    refine T_icmp_ge 43 (am_dec tX12_copies_0 4 rfl) rfl (fun h4 => ?_) (fun h4 => by exfalso; omega)
    refine T_weak (ls' := [none, none, none, none, none]) (am_sub_n (am_sub_n (am_sub_n (am_sub_n (am_sub_n am_sub_nil))))) ?_
    exact k9 c rfl
  | succ n ih =>
    intro k c hi9 h0i k9
    refine T_iload_n (am_dec tX12_copies_0 2 rfl) rfl ?_
    refine T_iload_n (am_dec tX12_copies_0 3 rfl) rfl ?_
    refine T_icmp_ge 43 (am_dec tX12_copies_0 4 rfl) rfl (fun h4 => by exfalso; omega) (fun h4 => ?_)
    refine T_iconst 0 (am_dec tX12_copies_0 5 rfl) rfl ⟨by decide, by decide⟩ ?_
    refine T_istore (ls' := [some (aR (b + 33)), some (aR (b + 46)), some (aI many), some (aI k), some (aI 0)]) (am_dec tX12_copies_0 6 rfl) (by decide) rfl ?_
    refine L_k_cp_thin_10 hl q many k hm (by omega)  _ rfl 2 0 c (by omega) (by omega) (fun c10 hc10 => ?_)
    refine T_iinc (ls' := [some (aR (b + 33)), some (aR (b + 46)), some (aI many), some (aI (k + 1)), none]) (k + 1) (am_dec tX12_copies_0 25 rfl) rfl rfl ⟨by omega, by omega⟩ (by decide) rfl ?_
    refine T_goto 2 (am_dec tX12_copies_0 26 rfl) rfl ?_
    have e9 : (g_k_cp_thin_2) k c = c10 := (by have s9 := hc10.symm; subst s9; exact rfl)
    simp only [am_fold_s, e9] at k9
    exact ih (k + 1) c10 (by omega) (by omega) k9
def k_cp_thin (c : am_F) (many : Int) : am_F := am_fold (g_k_cp_thin_2) 0 (many).toNat c
theorem mk_cp_thin {S : am_S} {d u : Nat} {w : AH} {b : Nat} (hl : b + 735 ≤ w.length) {c : am_F} {q : am_F} (many : Int) (hm : 0 ≤ many ∧ many ≤ 12)  : am_Out S zX12_copies d u [aR (b + 33), aR (b + 46), aI many] (mdW w b c q) (.inl none) (mdW w b (k_cp_thin c many) q) := by
  have key : ∀ Q : AO → AH → Prop, Q (.inl none) (mdW w b (k_cp_thin c many) q) → am_M S zX12_copies d u [aR (b + 33), aR (b + 46), aI many] (mdW w b c q) Q := by
    intro Q hQ
    refine am_body rfl (by decide +kernel) rfl (am_cats_cons rfl ( am_cats_cons rfl ( am_cats_cons rfl (am_cats_nil)))) (Nat.le_of_ble_eq_true rfl) (?_ : am_T _ _ _ _ _ 0 [some (aR (b + 33)), some (aR (b + 46)), some (aI many), none, none] [] (mdW w b c q))
    refine T_iconst 0 (am_dec tX12_copies_0 0 rfl) rfl ⟨by decide, by decide⟩ ?_
    refine T_istore_n (ls' := [some (aR (b + 33)), some (aR (b + 46)), some (aI many), some (aI 0), none]) (am_dec tX12_copies_0 1 rfl) (by decide) rfl ?_
    refine L_k_cp_thin_2 hl q many hm   _ rfl (many).toNat 0 c (by omega) (by omega) (fun c2 hc2 => ?_)
    exact T_return (am_dec tX12_copies_0 27 rfl) rfl (am_tr (fun (x9 : am_F) => Q (.inl none) (mdW w b x9 q)) (y := c2) (show (k_cp_thin c many) = c2 from (by have s9 := hc2.symm; subst s9; exact rfl)) hQ)
  exact key _ ⟨rfl, rfl⟩
theorem k_cp_thin_4 {c : am_F} {many : Int} (hm : 0 ≤ many ∧ many ≤ 12) : k_cp_thin c many 4 = c 4 := by
  unfold k_cp_thin
  exact (am_fold_inv (P := fun (_ : Int) (e : am_F) => e 4 = c 4) many.toNat 0 c rfl (fun k e h0 h1 he => by
    unfold g_k_cp_thin_2
    exact (am_fold_inv (P := fun (_ : Int) (e : am_F) => e 4 = c 4) 2 0 e he (fun i e2 _ _ he2 => by
      unfold g_k_cp_thin_10
      rw [am_put_kr (by omega)]
      exact he2))))
def g_k_cp_lamp_10 (k : Int) (i : Int) (c : am_F) : am_F := (am_put c (67 + k.toNat) i.toNat (c (60 + k.toNat) i.toNat))
theorem L_k_cp_lamp_10 {S : am_S} {d u : Nat} {Q : AO → AH → Prop} {w : AH} {b : Nat} (hl : b + 735 ≤ w.length) (q : am_F) (many : Int) (k : Int) (hm : 0 ≤ many ∧ many ≤ 6) (ho2 : 0 ≤ k ∧ k < many)  (B9 : Int) (hB : B9 = 3) : ∀ (n : Nat) (i : Int) (c : am_F), i + n = B9 → 0 ≤ i → (∀ (c' : am_F), c' = am_fold (g_k_cp_lamp_10 k) i n c → am_T S zX12_copies d u Q 37 [some (aR (b + 59)), some (aR (b + 66)), some (aI many), some (aI k), none] [] (mdW w b c' q)) → am_T S zX12_copies d u Q 10 [some (aR (b + 59)), some (aR (b + 66)), some (aI many), some (aI k), some (aI i)] [] (mdW w b c q) := by
  intro n
  induction n with
  | zero =>
    intro i c hi9 h0i k9
    have e9 : i = B9 := by omega
    subst e9
    refine T_iload (am_dec tX12_copies_0 7 rfl) rfl ?_
    refine T_aload_n (am_dec tX12_copies_0 8 rfl) rfl ?_
    refine T_iload_n (am_dec tX12_copies_0 9 rfl) rfl ?_
    refine T_aaloadR (r := b + (67 + k.toNat)) (am_dec tX12_copies_0 10 rfl) (by decide) (mh_lamp hl) (by omega) (by omega) (if_pos (by omega)) ?_
    refine T_alenP (am_dec tX12_copies_0 11 rfl) (by decide) (mr_lamp hl (i := k) (by omega) (by omega)) (by omega) ?_
    refine T_icmp_ge 37 (am_dec tX12_copies_0 12 rfl) rfl (fun h16 => ?_) (fun h16 => by exfalso; omega)
    refine T_weak (ls' := [some (aR (b + 59)), some (aR (b + 66)), some (aI many), some (aI k), none]) (am_sub_s (am_sub_s (am_sub_s (am_sub_s (am_sub_n am_sub_nil))))) ?_
    exact k9 c rfl
  | succ n ih =>
    intro i c hi9 h0i k9
    refine T_iload (am_dec tX12_copies_0 7 rfl) rfl ?_
    refine T_aload_n (am_dec tX12_copies_0 8 rfl) rfl ?_
    refine T_iload_n (am_dec tX12_copies_0 9 rfl) rfl ?_
    refine T_aaloadR (r := b + (67 + k.toNat)) (am_dec tX12_copies_0 10 rfl) (by decide) (mh_lamp hl) (by omega) (by omega) (if_pos (by omega)) ?_
    refine T_alenP (am_dec tX12_copies_0 11 rfl) (by decide) (mr_lamp hl (i := k) (by omega) (by omega)) (by omega) ?_
    refine T_icmp_ge 37 (am_dec tX12_copies_0 12 rfl) rfl (fun h16 => by exfalso; omega) (fun h16 => ?_)
    refine T_aload_n (am_dec tX12_copies_0 13 rfl) rfl ?_
    refine T_iload_n (am_dec tX12_copies_0 14 rfl) rfl ?_
    refine T_aaloadR (r := b + (67 + k.toNat)) (am_dec tX12_copies_0 15 rfl) (by decide) (mh_lamp hl) (by omega) (by omega) (if_pos (by omega)) ?_
    refine T_iload (am_dec tX12_copies_0 16 rfl) rfl ?_
    refine T_aload_n (am_dec tX12_copies_0 17 rfl) rfl ?_
    refine T_iload_n (am_dec tX12_copies_0 18 rfl) rfl ?_
    refine T_aaloadR (r := b + (60 + k.toNat)) (am_dec tX12_copies_0 19 rfl) (by decide) (mh_readLamp hl) (by omega) (by omega) (if_pos (by omega)) ?_
    refine T_iload (am_dec tX12_copies_0 20 rfl) rfl ?_
    refine T_ialoadE (x := c (60 + k.toNat) i.toNat) (am_dec tX12_copies_0 21 rfl) (mr_readLamp hl (i := k) (by omega) (by omega)) (by omega) (by omega) rfl ?_
    refine T_iastore (am_dec tX12_copies_0 22 rfl) (mr_lamp hl (i := k) (by omega) (by omega)) (by omega) (by omega) ?_
    refine am_wE (w2 := mdW w b (am_put c (67 + k.toNat) i.toNat (c (60 + k.toNat) i.toNat)) q) (md_pc (by omega) (fun f g => md_t_lamp f g (by omega))) ?_
    refine T_iinc (ls' := [some (aR (b + 59)), some (aR (b + 66)), some (aI many), some (aI k), some (aI (i + 1))]) (i + 1) (am_dec tX12_copies_0 23 rfl) rfl rfl ⟨by omega, by omega⟩ (by decide) rfl ?_
    refine T_goto 10 (am_dec tX12_copies_0 24 rfl) rfl ?_
    have e9 : (g_k_cp_lamp_10 k) i c = (am_put c (67 + k.toNat) i.toNat (c (60 + k.toNat) i.toNat)) := rfl
    simp only [am_fold_s, e9] at k9
    exact ih (i + 1) (am_put c (67 + k.toNat) i.toNat (c (60 + k.toNat) i.toNat)) (by omega) (by omega) k9
def g_k_cp_lamp_2  (k : Int) (c : am_F) : am_F := am_fold (g_k_cp_lamp_10 k) 0 3 c
theorem L_k_cp_lamp_2 {S : am_S} {d u : Nat} {Q : AO → AH → Prop} {w : AH} {b : Nat} (hl : b + 735 ≤ w.length) (q : am_F) (many : Int) (hm : 0 ≤ many ∧ many ≤ 6)   (B9 : Int) (hB : B9 = many) : ∀ (n : Nat) (k : Int) (c : am_F), k + n = B9 → 0 ≤ k → (∀ (c' : am_F), c' = am_fold (g_k_cp_lamp_2) k n c → am_T S zX12_copies d u Q 43 [none, none, none, none, none] [] (mdW w b c' q)) → am_T S zX12_copies d u Q 2 [some (aR (b + 59)), some (aR (b + 66)), some (aI many), some (aI k), none] [] (mdW w b c q) := by
  intro n
  induction n with
  | zero =>
    intro k c hi9 h0i k9
    have e9 : k = B9 := by omega
    subst e9
    refine T_iload_n (am_dec tX12_copies_0 2 rfl) rfl ?_
    refine T_iload_n (am_dec tX12_copies_0 3 rfl) rfl ?_
    refine T_icmp_ge 43 (am_dec tX12_copies_0 4 rfl) rfl (fun h4 => ?_) (fun h4 => by exfalso; omega)
    refine T_weak (ls' := [none, none, none, none, none]) (am_sub_n (am_sub_n (am_sub_n (am_sub_n (am_sub_n am_sub_nil))))) ?_
    exact k9 c rfl
  | succ n ih =>
    intro k c hi9 h0i k9
    refine T_iload_n (am_dec tX12_copies_0 2 rfl) rfl ?_
    refine T_iload_n (am_dec tX12_copies_0 3 rfl) rfl ?_
    refine T_icmp_ge 43 (am_dec tX12_copies_0 4 rfl) rfl (fun h4 => by exfalso; omega) (fun h4 => ?_)
    refine T_iconst 0 (am_dec tX12_copies_0 5 rfl) rfl ⟨by decide, by decide⟩ ?_
    refine T_istore (ls' := [some (aR (b + 59)), some (aR (b + 66)), some (aI many), some (aI k), some (aI 0)]) (am_dec tX12_copies_0 6 rfl) (by decide) rfl ?_
    refine L_k_cp_lamp_10 hl q many k hm (by omega)  _ rfl 3 0 c (by omega) (by omega) (fun c10 hc10 => ?_)
    refine T_iinc (ls' := [some (aR (b + 59)), some (aR (b + 66)), some (aI many), some (aI (k + 1)), none]) (k + 1) (am_dec tX12_copies_0 25 rfl) rfl rfl ⟨by omega, by omega⟩ (by decide) rfl ?_
    refine T_goto 2 (am_dec tX12_copies_0 26 rfl) rfl ?_
    have e9 : (g_k_cp_lamp_2) k c = c10 := (by have s9 := hc10.symm; subst s9; exact rfl)
    simp only [am_fold_s, e9] at k9
    exact ih (k + 1) c10 (by omega) (by omega) k9
def k_cp_lamp (c : am_F) (many : Int) : am_F := am_fold (g_k_cp_lamp_2) 0 (many).toNat c
theorem mk_cp_lamp {S : am_S} {d u : Nat} {w : AH} {b : Nat} (hl : b + 735 ≤ w.length) {c : am_F} {q : am_F} (many : Int) (hm : 0 ≤ many ∧ many ≤ 6)  : am_Out S zX12_copies d u [aR (b + 59), aR (b + 66), aI many] (mdW w b c q) (.inl none) (mdW w b (k_cp_lamp c many) q) := by
  have key : ∀ Q : AO → AH → Prop, Q (.inl none) (mdW w b (k_cp_lamp c many) q) → am_M S zX12_copies d u [aR (b + 59), aR (b + 66), aI many] (mdW w b c q) Q := by
    intro Q hQ
    refine am_body rfl (by decide +kernel) rfl (am_cats_cons rfl ( am_cats_cons rfl ( am_cats_cons rfl (am_cats_nil)))) (Nat.le_of_ble_eq_true rfl) (?_ : am_T _ _ _ _ _ 0 [some (aR (b + 59)), some (aR (b + 66)), some (aI many), none, none] [] (mdW w b c q))
    refine T_iconst 0 (am_dec tX12_copies_0 0 rfl) rfl ⟨by decide, by decide⟩ ?_
    refine T_istore_n (ls' := [some (aR (b + 59)), some (aR (b + 66)), some (aI many), some (aI 0), none]) (am_dec tX12_copies_0 1 rfl) (by decide) rfl ?_
    refine L_k_cp_lamp_2 hl q many hm   _ rfl (many).toNat 0 c (by omega) (by omega) (fun c2 hc2 => ?_)
    exact T_return (am_dec tX12_copies_0 27 rfl) rfl (am_tr (fun (x9 : am_F) => Q (.inl none) (mdW w b x9 q)) (y := c2) (show (k_cp_lamp c many) = c2 from (by have s9 := hc2.symm; subst s9; exact rfl)) hQ)
  exact key _ ⟨rfl, rfl⟩
theorem k_cp_lamp_4 {c : am_F} {many : Int} (hm : 0 ≤ many ∧ many ≤ 6) : k_cp_lamp c many 4 = c 4 := by
  unfold k_cp_lamp
  exact (am_fold_inv (P := fun (_ : Int) (e : am_F) => e 4 = c 4) many.toNat 0 c rfl (fun k e h0 h1 he => by
    unfold g_k_cp_lamp_2
    exact (am_fold_inv (P := fun (_ : Int) (e : am_F) => e 4 = c 4) 3 0 e he (fun i e2 _ _ he2 => by
      unfold g_k_cp_lamp_10
      rw [am_put_kr (by omega)]
      exact he2))))
def g_k_cp_steamer_10 (k : Int) (i : Int) (c : am_F) : am_F := (am_put c (82 + k.toNat) i.toNat (c (75 + k.toNat) i.toNat))
theorem L_k_cp_steamer_10 {S : am_S} {d u : Nat} {Q : AO → AH → Prop} {w : AH} {b : Nat} (hl : b + 735 ≤ w.length) (q : am_F) (many : Int) (k : Int) (hm : 0 ≤ many ∧ many ≤ 6) (ho2 : 0 ≤ k ∧ k < many)  (B9 : Int) (hB : B9 = 3) : ∀ (n : Nat) (i : Int) (c : am_F), i + n = B9 → 0 ≤ i → (∀ (c' : am_F), c' = am_fold (g_k_cp_steamer_10 k) i n c → am_T S zX12_copies d u Q 37 [some (aR (b + 74)), some (aR (b + 81)), some (aI many), some (aI k), none] [] (mdW w b c' q)) → am_T S zX12_copies d u Q 10 [some (aR (b + 74)), some (aR (b + 81)), some (aI many), some (aI k), some (aI i)] [] (mdW w b c q) := by
  intro n
  induction n with
  | zero =>
    intro i c hi9 h0i k9
    have e9 : i = B9 := by omega
    subst e9
    refine T_iload (am_dec tX12_copies_0 7 rfl) rfl ?_
    refine T_aload_n (am_dec tX12_copies_0 8 rfl) rfl ?_
    refine T_iload_n (am_dec tX12_copies_0 9 rfl) rfl ?_
    refine T_aaloadR (r := b + (82 + k.toNat)) (am_dec tX12_copies_0 10 rfl) (by decide) (mh_steamer hl) (by omega) (by omega) (if_pos (by omega)) ?_
    refine T_alenP (am_dec tX12_copies_0 11 rfl) (by decide) (mr_steamer hl (i := k) (by omega) (by omega)) (by omega) ?_
    refine T_icmp_ge 37 (am_dec tX12_copies_0 12 rfl) rfl (fun h16 => ?_) (fun h16 => by exfalso; omega)
    refine T_weak (ls' := [some (aR (b + 74)), some (aR (b + 81)), some (aI many), some (aI k), none]) (am_sub_s (am_sub_s (am_sub_s (am_sub_s (am_sub_n am_sub_nil))))) ?_
    exact k9 c rfl
  | succ n ih =>
    intro i c hi9 h0i k9
    refine T_iload (am_dec tX12_copies_0 7 rfl) rfl ?_
    refine T_aload_n (am_dec tX12_copies_0 8 rfl) rfl ?_
    refine T_iload_n (am_dec tX12_copies_0 9 rfl) rfl ?_
    refine T_aaloadR (r := b + (82 + k.toNat)) (am_dec tX12_copies_0 10 rfl) (by decide) (mh_steamer hl) (by omega) (by omega) (if_pos (by omega)) ?_
    refine T_alenP (am_dec tX12_copies_0 11 rfl) (by decide) (mr_steamer hl (i := k) (by omega) (by omega)) (by omega) ?_
    refine T_icmp_ge 37 (am_dec tX12_copies_0 12 rfl) rfl (fun h16 => by exfalso; omega) (fun h16 => ?_)
    refine T_aload_n (am_dec tX12_copies_0 13 rfl) rfl ?_
    refine T_iload_n (am_dec tX12_copies_0 14 rfl) rfl ?_
    refine T_aaloadR (r := b + (82 + k.toNat)) (am_dec tX12_copies_0 15 rfl) (by decide) (mh_steamer hl) (by omega) (by omega) (if_pos (by omega)) ?_
    refine T_iload (am_dec tX12_copies_0 16 rfl) rfl ?_
    refine T_aload_n (am_dec tX12_copies_0 17 rfl) rfl ?_
    refine T_iload_n (am_dec tX12_copies_0 18 rfl) rfl ?_
    refine T_aaloadR (r := b + (75 + k.toNat)) (am_dec tX12_copies_0 19 rfl) (by decide) (mh_readSteamer hl) (by omega) (by omega) (if_pos (by omega)) ?_
    refine T_iload (am_dec tX12_copies_0 20 rfl) rfl ?_
    refine T_ialoadE (x := c (75 + k.toNat) i.toNat) (am_dec tX12_copies_0 21 rfl) (mr_readSteamer hl (i := k) (by omega) (by omega)) (by omega) (by omega) rfl ?_
    refine T_iastore (am_dec tX12_copies_0 22 rfl) (mr_steamer hl (i := k) (by omega) (by omega)) (by omega) (by omega) ?_
    refine am_wE (w2 := mdW w b (am_put c (82 + k.toNat) i.toNat (c (75 + k.toNat) i.toNat)) q) (md_pc (by omega) (fun f g => md_t_steamer f g (by omega))) ?_
    refine T_iinc (ls' := [some (aR (b + 74)), some (aR (b + 81)), some (aI many), some (aI k), some (aI (i + 1))]) (i + 1) (am_dec tX12_copies_0 23 rfl) rfl rfl ⟨by omega, by omega⟩ (by decide) rfl ?_
    refine T_goto 10 (am_dec tX12_copies_0 24 rfl) rfl ?_
    have e9 : (g_k_cp_steamer_10 k) i c = (am_put c (82 + k.toNat) i.toNat (c (75 + k.toNat) i.toNat)) := rfl
    simp only [am_fold_s, e9] at k9
    exact ih (i + 1) (am_put c (82 + k.toNat) i.toNat (c (75 + k.toNat) i.toNat)) (by omega) (by omega) k9
def g_k_cp_steamer_2  (k : Int) (c : am_F) : am_F := am_fold (g_k_cp_steamer_10 k) 0 3 c
theorem L_k_cp_steamer_2 {S : am_S} {d u : Nat} {Q : AO → AH → Prop} {w : AH} {b : Nat} (hl : b + 735 ≤ w.length) (q : am_F) (many : Int) (hm : 0 ≤ many ∧ many ≤ 6)   (B9 : Int) (hB : B9 = many) : ∀ (n : Nat) (k : Int) (c : am_F), k + n = B9 → 0 ≤ k → (∀ (c' : am_F), c' = am_fold (g_k_cp_steamer_2) k n c → am_T S zX12_copies d u Q 43 [none, none, none, none, none] [] (mdW w b c' q)) → am_T S zX12_copies d u Q 2 [some (aR (b + 74)), some (aR (b + 81)), some (aI many), some (aI k), none] [] (mdW w b c q) := by
  intro n
  induction n with
  | zero =>
    intro k c hi9 h0i k9
    have e9 : k = B9 := by omega
    subst e9
    refine T_iload_n (am_dec tX12_copies_0 2 rfl) rfl ?_
    refine T_iload_n (am_dec tX12_copies_0 3 rfl) rfl ?_
    refine T_icmp_ge 43 (am_dec tX12_copies_0 4 rfl) rfl (fun h4 => ?_) (fun h4 => by exfalso; omega)
    refine T_weak (ls' := [none, none, none, none, none]) (am_sub_n (am_sub_n (am_sub_n (am_sub_n (am_sub_n am_sub_nil))))) ?_
    exact k9 c rfl
  | succ n ih =>
    intro k c hi9 h0i k9
    refine T_iload_n (am_dec tX12_copies_0 2 rfl) rfl ?_
    refine T_iload_n (am_dec tX12_copies_0 3 rfl) rfl ?_
    refine T_icmp_ge 43 (am_dec tX12_copies_0 4 rfl) rfl (fun h4 => by exfalso; omega) (fun h4 => ?_)
    refine T_iconst 0 (am_dec tX12_copies_0 5 rfl) rfl ⟨by decide, by decide⟩ ?_
    refine T_istore (ls' := [some (aR (b + 74)), some (aR (b + 81)), some (aI many), some (aI k), some (aI 0)]) (am_dec tX12_copies_0 6 rfl) (by decide) rfl ?_
    refine L_k_cp_steamer_10 hl q many k hm (by omega)  _ rfl 3 0 c (by omega) (by omega) (fun c10 hc10 => ?_)
    refine T_iinc (ls' := [some (aR (b + 74)), some (aR (b + 81)), some (aI many), some (aI (k + 1)), none]) (k + 1) (am_dec tX12_copies_0 25 rfl) rfl rfl ⟨by omega, by omega⟩ (by decide) rfl ?_
    refine T_goto 2 (am_dec tX12_copies_0 26 rfl) rfl ?_
    have e9 : (g_k_cp_steamer_2) k c = c10 := (by have s9 := hc10.symm; subst s9; exact rfl)
    simp only [am_fold_s, e9] at k9
    exact ih (k + 1) c10 (by omega) (by omega) k9
def k_cp_steamer (c : am_F) (many : Int) : am_F := am_fold (g_k_cp_steamer_2) 0 (many).toNat c
theorem mk_cp_steamer {S : am_S} {d u : Nat} {w : AH} {b : Nat} (hl : b + 735 ≤ w.length) {c : am_F} {q : am_F} (many : Int) (hm : 0 ≤ many ∧ many ≤ 6)  : am_Out S zX12_copies d u [aR (b + 74), aR (b + 81), aI many] (mdW w b c q) (.inl none) (mdW w b (k_cp_steamer c many) q) := by
  have key : ∀ Q : AO → AH → Prop, Q (.inl none) (mdW w b (k_cp_steamer c many) q) → am_M S zX12_copies d u [aR (b + 74), aR (b + 81), aI many] (mdW w b c q) Q := by
    intro Q hQ
    refine am_body rfl (by decide +kernel) rfl (am_cats_cons rfl ( am_cats_cons rfl ( am_cats_cons rfl (am_cats_nil)))) (Nat.le_of_ble_eq_true rfl) (?_ : am_T _ _ _ _ _ 0 [some (aR (b + 74)), some (aR (b + 81)), some (aI many), none, none] [] (mdW w b c q))
    refine T_iconst 0 (am_dec tX12_copies_0 0 rfl) rfl ⟨by decide, by decide⟩ ?_
    refine T_istore_n (ls' := [some (aR (b + 74)), some (aR (b + 81)), some (aI many), some (aI 0), none]) (am_dec tX12_copies_0 1 rfl) (by decide) rfl ?_
    refine L_k_cp_steamer_2 hl q many hm   _ rfl (many).toNat 0 c (by omega) (by omega) (fun c2 hc2 => ?_)
    exact T_return (am_dec tX12_copies_0 27 rfl) rfl (am_tr (fun (x9 : am_F) => Q (.inl none) (mdW w b x9 q)) (y := c2) (show (k_cp_steamer c many) = c2 from (by have s9 := hc2.symm; subst s9; exact rfl)) hQ)
  exact key _ ⟨rfl, rfl⟩
theorem k_cp_steamer_4 {c : am_F} {many : Int} (hm : 0 ≤ many ∧ many ≤ 6) : k_cp_steamer c many 4 = c 4 := by
  unfold k_cp_steamer
  exact (am_fold_inv (P := fun (_ : Int) (e : am_F) => e 4 = c 4) many.toNat 0 c rfl (fun k e h0 h1 he => by
    unfold g_k_cp_steamer_2
    exact (am_fold_inv (P := fun (_ : Int) (e : am_F) => e 4 = c 4) 3 0 e he (fun i e2 _ _ he2 => by
      unfold g_k_cp_steamer_10
      rw [am_put_kr (by omega)]
      exact he2))))
def g_k_cp_lot_10 (k : Int) (i : Int) (c : am_F) : am_F := (am_put c (96 + k.toNat) i.toNat (c (89 + k.toNat) i.toNat))
theorem L_k_cp_lot_10 {S : am_S} {d u : Nat} {Q : AO → AH → Prop} {w : AH} {b : Nat} (hl : b + 735 ≤ w.length) (q : am_F) (many : Int) (k : Int) (hm : 0 ≤ many ∧ many ≤ 6) (ho2 : 0 ≤ k ∧ k < many)  (B9 : Int) (hB : B9 = 6) : ∀ (n : Nat) (i : Int) (c : am_F), i + n = B9 → 0 ≤ i → (∀ (c' : am_F), c' = am_fold (g_k_cp_lot_10 k) i n c → am_T S zX12_copies d u Q 37 [some (aR (b + 88)), some (aR (b + 95)), some (aI many), some (aI k), none] [] (mdW w b c' q)) → am_T S zX12_copies d u Q 10 [some (aR (b + 88)), some (aR (b + 95)), some (aI many), some (aI k), some (aI i)] [] (mdW w b c q) := by
  intro n
  induction n with
  | zero =>
    intro i c hi9 h0i k9
    have e9 : i = B9 := by omega
    subst e9
    refine T_iload (am_dec tX12_copies_0 7 rfl) rfl ?_
    refine T_aload_n (am_dec tX12_copies_0 8 rfl) rfl ?_
    refine T_iload_n (am_dec tX12_copies_0 9 rfl) rfl ?_
    refine T_aaloadR (r := b + (96 + k.toNat)) (am_dec tX12_copies_0 10 rfl) (by decide) (mh_lot hl) (by omega) (by omega) (if_pos (by omega)) ?_
    refine T_alenP (am_dec tX12_copies_0 11 rfl) (by decide) (mr_lot hl (i := k) (by omega) (by omega)) (by omega) ?_
    refine T_icmp_ge 37 (am_dec tX12_copies_0 12 rfl) rfl (fun h16 => ?_) (fun h16 => by exfalso; omega)
    refine T_weak (ls' := [some (aR (b + 88)), some (aR (b + 95)), some (aI many), some (aI k), none]) (am_sub_s (am_sub_s (am_sub_s (am_sub_s (am_sub_n am_sub_nil))))) ?_
    exact k9 c rfl
  | succ n ih =>
    intro i c hi9 h0i k9
    refine T_iload (am_dec tX12_copies_0 7 rfl) rfl ?_
    refine T_aload_n (am_dec tX12_copies_0 8 rfl) rfl ?_
    refine T_iload_n (am_dec tX12_copies_0 9 rfl) rfl ?_
    refine T_aaloadR (r := b + (96 + k.toNat)) (am_dec tX12_copies_0 10 rfl) (by decide) (mh_lot hl) (by omega) (by omega) (if_pos (by omega)) ?_
    refine T_alenP (am_dec tX12_copies_0 11 rfl) (by decide) (mr_lot hl (i := k) (by omega) (by omega)) (by omega) ?_
    refine T_icmp_ge 37 (am_dec tX12_copies_0 12 rfl) rfl (fun h16 => by exfalso; omega) (fun h16 => ?_)
    refine T_aload_n (am_dec tX12_copies_0 13 rfl) rfl ?_
    refine T_iload_n (am_dec tX12_copies_0 14 rfl) rfl ?_
    refine T_aaloadR (r := b + (96 + k.toNat)) (am_dec tX12_copies_0 15 rfl) (by decide) (mh_lot hl) (by omega) (by omega) (if_pos (by omega)) ?_
    refine T_iload (am_dec tX12_copies_0 16 rfl) rfl ?_
    refine T_aload_n (am_dec tX12_copies_0 17 rfl) rfl ?_
    refine T_iload_n (am_dec tX12_copies_0 18 rfl) rfl ?_
    refine T_aaloadR (r := b + (89 + k.toNat)) (am_dec tX12_copies_0 19 rfl) (by decide) (mh_readLot hl) (by omega) (by omega) (if_pos (by omega)) ?_
    refine T_iload (am_dec tX12_copies_0 20 rfl) rfl ?_
    refine T_ialoadE (x := c (89 + k.toNat) i.toNat) (am_dec tX12_copies_0 21 rfl) (mr_readLot hl (i := k) (by omega) (by omega)) (by omega) (by omega) rfl ?_
    refine T_iastore (am_dec tX12_copies_0 22 rfl) (mr_lot hl (i := k) (by omega) (by omega)) (by omega) (by omega) ?_
    refine am_wE (w2 := mdW w b (am_put c (96 + k.toNat) i.toNat (c (89 + k.toNat) i.toNat)) q) (md_pc (by omega) (fun f g => md_t_lot f g (by omega))) ?_
    refine T_iinc (ls' := [some (aR (b + 88)), some (aR (b + 95)), some (aI many), some (aI k), some (aI (i + 1))]) (i + 1) (am_dec tX12_copies_0 23 rfl) rfl rfl ⟨by omega, by omega⟩ (by decide) rfl ?_
    refine T_goto 10 (am_dec tX12_copies_0 24 rfl) rfl ?_
    have e9 : (g_k_cp_lot_10 k) i c = (am_put c (96 + k.toNat) i.toNat (c (89 + k.toNat) i.toNat)) := rfl
    simp only [am_fold_s, e9] at k9
    exact ih (i + 1) (am_put c (96 + k.toNat) i.toNat (c (89 + k.toNat) i.toNat)) (by omega) (by omega) k9
def g_k_cp_lot_2  (k : Int) (c : am_F) : am_F := am_fold (g_k_cp_lot_10 k) 0 6 c
theorem L_k_cp_lot_2 {S : am_S} {d u : Nat} {Q : AO → AH → Prop} {w : AH} {b : Nat} (hl : b + 735 ≤ w.length) (q : am_F) (many : Int) (hm : 0 ≤ many ∧ many ≤ 6)   (B9 : Int) (hB : B9 = many) : ∀ (n : Nat) (k : Int) (c : am_F), k + n = B9 → 0 ≤ k → (∀ (c' : am_F), c' = am_fold (g_k_cp_lot_2) k n c → am_T S zX12_copies d u Q 43 [none, none, none, none, none] [] (mdW w b c' q)) → am_T S zX12_copies d u Q 2 [some (aR (b + 88)), some (aR (b + 95)), some (aI many), some (aI k), none] [] (mdW w b c q) := by
  intro n
  induction n with
  | zero =>
    intro k c hi9 h0i k9
    have e9 : k = B9 := by omega
    subst e9
    refine T_iload_n (am_dec tX12_copies_0 2 rfl) rfl ?_
    refine T_iload_n (am_dec tX12_copies_0 3 rfl) rfl ?_
    refine T_icmp_ge 43 (am_dec tX12_copies_0 4 rfl) rfl (fun h4 => ?_) (fun h4 => by exfalso; omega)
    refine T_weak (ls' := [none, none, none, none, none]) (am_sub_n (am_sub_n (am_sub_n (am_sub_n (am_sub_n am_sub_nil))))) ?_
    exact k9 c rfl
  | succ n ih =>
    intro k c hi9 h0i k9
    refine T_iload_n (am_dec tX12_copies_0 2 rfl) rfl ?_
    refine T_iload_n (am_dec tX12_copies_0 3 rfl) rfl ?_
    refine T_icmp_ge 43 (am_dec tX12_copies_0 4 rfl) rfl (fun h4 => by exfalso; omega) (fun h4 => ?_)
    refine T_iconst 0 (am_dec tX12_copies_0 5 rfl) rfl ⟨by decide, by decide⟩ ?_
    refine T_istore (ls' := [some (aR (b + 88)), some (aR (b + 95)), some (aI many), some (aI k), some (aI 0)]) (am_dec tX12_copies_0 6 rfl) (by decide) rfl ?_
    refine L_k_cp_lot_10 hl q many k hm (by omega)  _ rfl 6 0 c (by omega) (by omega) (fun c10 hc10 => ?_)
    refine T_iinc (ls' := [some (aR (b + 88)), some (aR (b + 95)), some (aI many), some (aI (k + 1)), none]) (k + 1) (am_dec tX12_copies_0 25 rfl) rfl rfl ⟨by omega, by omega⟩ (by decide) rfl ?_
    refine T_goto 2 (am_dec tX12_copies_0 26 rfl) rfl ?_
    have e9 : (g_k_cp_lot_2) k c = c10 := (by have s9 := hc10.symm; subst s9; exact rfl)
    simp only [am_fold_s, e9] at k9
    exact ih (k + 1) c10 (by omega) (by omega) k9
def k_cp_lot (c : am_F) (many : Int) : am_F := am_fold (g_k_cp_lot_2) 0 (many).toNat c
theorem mk_cp_lot {S : am_S} {d u : Nat} {w : AH} {b : Nat} (hl : b + 735 ≤ w.length) {c : am_F} {q : am_F} (many : Int) (hm : 0 ≤ many ∧ many ≤ 6)  : am_Out S zX12_copies d u [aR (b + 88), aR (b + 95), aI many] (mdW w b c q) (.inl none) (mdW w b (k_cp_lot c many) q) := by
  have key : ∀ Q : AO → AH → Prop, Q (.inl none) (mdW w b (k_cp_lot c many) q) → am_M S zX12_copies d u [aR (b + 88), aR (b + 95), aI many] (mdW w b c q) Q := by
    intro Q hQ
    refine am_body rfl (by decide +kernel) rfl (am_cats_cons rfl ( am_cats_cons rfl ( am_cats_cons rfl (am_cats_nil)))) (Nat.le_of_ble_eq_true rfl) (?_ : am_T _ _ _ _ _ 0 [some (aR (b + 88)), some (aR (b + 95)), some (aI many), none, none] [] (mdW w b c q))
    refine T_iconst 0 (am_dec tX12_copies_0 0 rfl) rfl ⟨by decide, by decide⟩ ?_
    refine T_istore_n (ls' := [some (aR (b + 88)), some (aR (b + 95)), some (aI many), some (aI 0), none]) (am_dec tX12_copies_0 1 rfl) (by decide) rfl ?_
    refine L_k_cp_lot_2 hl q many hm   _ rfl (many).toNat 0 c (by omega) (by omega) (fun c2 hc2 => ?_)
    exact T_return (am_dec tX12_copies_0 27 rfl) rfl (am_tr (fun (x9 : am_F) => Q (.inl none) (mdW w b x9 q)) (y := c2) (show (k_cp_lot c many) = c2 from (by have s9 := hc2.symm; subst s9; exact rfl)) hQ)
  exact key _ ⟨rfl, rfl⟩
theorem k_cp_lot_4 {c : am_F} {many : Int} (hm : 0 ≤ many ∧ many ≤ 6) : k_cp_lot c many 4 = c 4 := by
  unfold k_cp_lot
  exact (am_fold_inv (P := fun (_ : Int) (e : am_F) => e 4 = c 4) many.toNat 0 c rfl (fun k e h0 h1 he => by
    unfold g_k_cp_lot_2
    exact (am_fold_inv (P := fun (_ : Int) (e : am_F) => e 4 = c 4) 6 0 e he (fun i e2 _ _ he2 => by
      unfold g_k_cp_lot_10
      rw [am_put_kr (by omega)]
      exact he2))))
def g_k_cp_walker_10 (k : Int) (i : Int) (c : am_F) : am_F := (am_put c (108 + k.toNat) i.toNat (c (103 + k.toNat) i.toNat))
theorem L_k_cp_walker_10 {S : am_S} {d u : Nat} {Q : AO → AH → Prop} {w : AH} {b : Nat} (hl : b + 735 ≤ w.length) (q : am_F) (many : Int) (k : Int) (hm : 0 ≤ many ∧ many ≤ 4) (ho2 : 0 ≤ k ∧ k < many)  (B9 : Int) (hB : B9 = 16) : ∀ (n : Nat) (i : Int) (c : am_F), i + n = B9 → 0 ≤ i → (∀ (c' : am_F), c' = am_fold (g_k_cp_walker_10 k) i n c → am_T S zX12_copies d u Q 37 [some (aR (b + 102)), some (aR (b + 107)), some (aI many), some (aI k), none] [] (mdW w b c' q)) → am_T S zX12_copies d u Q 10 [some (aR (b + 102)), some (aR (b + 107)), some (aI many), some (aI k), some (aI i)] [] (mdW w b c q) := by
  intro n
  induction n with
  | zero =>
    intro i c hi9 h0i k9
    have e9 : i = B9 := by omega
    subst e9
    refine T_iload (am_dec tX12_copies_0 7 rfl) rfl ?_
    refine T_aload_n (am_dec tX12_copies_0 8 rfl) rfl ?_
    refine T_iload_n (am_dec tX12_copies_0 9 rfl) rfl ?_
    refine T_aaloadR (r := b + (108 + k.toNat)) (am_dec tX12_copies_0 10 rfl) (by decide) (mh_walker hl) (by omega) (by omega) (if_pos (by omega)) ?_
    refine T_alenP (am_dec tX12_copies_0 11 rfl) (by decide) (mr_walker hl (i := k) (by omega) (by omega)) (by omega) ?_
    refine T_icmp_ge 37 (am_dec tX12_copies_0 12 rfl) rfl (fun h16 => ?_) (fun h16 => by exfalso; omega)
    refine T_weak (ls' := [some (aR (b + 102)), some (aR (b + 107)), some (aI many), some (aI k), none]) (am_sub_s (am_sub_s (am_sub_s (am_sub_s (am_sub_n am_sub_nil))))) ?_
    exact k9 c rfl
  | succ n ih =>
    intro i c hi9 h0i k9
    refine T_iload (am_dec tX12_copies_0 7 rfl) rfl ?_
    refine T_aload_n (am_dec tX12_copies_0 8 rfl) rfl ?_
    refine T_iload_n (am_dec tX12_copies_0 9 rfl) rfl ?_
    refine T_aaloadR (r := b + (108 + k.toNat)) (am_dec tX12_copies_0 10 rfl) (by decide) (mh_walker hl) (by omega) (by omega) (if_pos (by omega)) ?_
    refine T_alenP (am_dec tX12_copies_0 11 rfl) (by decide) (mr_walker hl (i := k) (by omega) (by omega)) (by omega) ?_
    refine T_icmp_ge 37 (am_dec tX12_copies_0 12 rfl) rfl (fun h16 => by exfalso; omega) (fun h16 => ?_)
    refine T_aload_n (am_dec tX12_copies_0 13 rfl) rfl ?_
    refine T_iload_n (am_dec tX12_copies_0 14 rfl) rfl ?_
    refine T_aaloadR (r := b + (108 + k.toNat)) (am_dec tX12_copies_0 15 rfl) (by decide) (mh_walker hl) (by omega) (by omega) (if_pos (by omega)) ?_
    refine T_iload (am_dec tX12_copies_0 16 rfl) rfl ?_
    refine T_aload_n (am_dec tX12_copies_0 17 rfl) rfl ?_
    refine T_iload_n (am_dec tX12_copies_0 18 rfl) rfl ?_
    refine T_aaloadR (r := b + (103 + k.toNat)) (am_dec tX12_copies_0 19 rfl) (by decide) (mh_readWalker hl) (by omega) (by omega) (if_pos (by omega)) ?_
    refine T_iload (am_dec tX12_copies_0 20 rfl) rfl ?_
    refine T_ialoadE (x := c (103 + k.toNat) i.toNat) (am_dec tX12_copies_0 21 rfl) (mr_readWalker hl (i := k) (by omega) (by omega)) (by omega) (by omega) rfl ?_
    refine T_iastore (am_dec tX12_copies_0 22 rfl) (mr_walker hl (i := k) (by omega) (by omega)) (by omega) (by omega) ?_
    refine am_wE (w2 := mdW w b (am_put c (108 + k.toNat) i.toNat (c (103 + k.toNat) i.toNat)) q) (md_pc (by omega) (fun f g => md_t_walker f g (by omega))) ?_
    refine T_iinc (ls' := [some (aR (b + 102)), some (aR (b + 107)), some (aI many), some (aI k), some (aI (i + 1))]) (i + 1) (am_dec tX12_copies_0 23 rfl) rfl rfl ⟨by omega, by omega⟩ (by decide) rfl ?_
    refine T_goto 10 (am_dec tX12_copies_0 24 rfl) rfl ?_
    have e9 : (g_k_cp_walker_10 k) i c = (am_put c (108 + k.toNat) i.toNat (c (103 + k.toNat) i.toNat)) := rfl
    simp only [am_fold_s, e9] at k9
    exact ih (i + 1) (am_put c (108 + k.toNat) i.toNat (c (103 + k.toNat) i.toNat)) (by omega) (by omega) k9
def g_k_cp_walker_2  (k : Int) (c : am_F) : am_F := am_fold (g_k_cp_walker_10 k) 0 16 c
theorem L_k_cp_walker_2 {S : am_S} {d u : Nat} {Q : AO → AH → Prop} {w : AH} {b : Nat} (hl : b + 735 ≤ w.length) (q : am_F) (many : Int) (hm : 0 ≤ many ∧ many ≤ 4)   (B9 : Int) (hB : B9 = many) : ∀ (n : Nat) (k : Int) (c : am_F), k + n = B9 → 0 ≤ k → (∀ (c' : am_F), c' = am_fold (g_k_cp_walker_2) k n c → am_T S zX12_copies d u Q 43 [none, none, none, none, none] [] (mdW w b c' q)) → am_T S zX12_copies d u Q 2 [some (aR (b + 102)), some (aR (b + 107)), some (aI many), some (aI k), none] [] (mdW w b c q) := by
  intro n
  induction n with
  | zero =>
    intro k c hi9 h0i k9
    have e9 : k = B9 := by omega
    subst e9
    refine T_iload_n (am_dec tX12_copies_0 2 rfl) rfl ?_
    refine T_iload_n (am_dec tX12_copies_0 3 rfl) rfl ?_
    refine T_icmp_ge 43 (am_dec tX12_copies_0 4 rfl) rfl (fun h4 => ?_) (fun h4 => by exfalso; omega)
    refine T_weak (ls' := [none, none, none, none, none]) (am_sub_n (am_sub_n (am_sub_n (am_sub_n (am_sub_n am_sub_nil))))) ?_
    exact k9 c rfl
  | succ n ih =>
    intro k c hi9 h0i k9
    refine T_iload_n (am_dec tX12_copies_0 2 rfl) rfl ?_
    refine T_iload_n (am_dec tX12_copies_0 3 rfl) rfl ?_
    refine T_icmp_ge 43 (am_dec tX12_copies_0 4 rfl) rfl (fun h4 => by exfalso; omega) (fun h4 => ?_)
    refine T_iconst 0 (am_dec tX12_copies_0 5 rfl) rfl ⟨by decide, by decide⟩ ?_
    refine T_istore (ls' := [some (aR (b + 102)), some (aR (b + 107)), some (aI many), some (aI k), some (aI 0)]) (am_dec tX12_copies_0 6 rfl) (by decide) rfl ?_
    refine L_k_cp_walker_10 hl q many k hm (by omega)  _ rfl 16 0 c (by omega) (by omega) (fun c10 hc10 => ?_)
    refine T_iinc (ls' := [some (aR (b + 102)), some (aR (b + 107)), some (aI many), some (aI (k + 1)), none]) (k + 1) (am_dec tX12_copies_0 25 rfl) rfl rfl ⟨by omega, by omega⟩ (by decide) rfl ?_
    refine T_goto 2 (am_dec tX12_copies_0 26 rfl) rfl ?_
    have e9 : (g_k_cp_walker_2) k c = c10 := (by have s9 := hc10.symm; subst s9; exact rfl)
    simp only [am_fold_s, e9] at k9
    exact ih (k + 1) c10 (by omega) (by omega) k9
def k_cp_walker (c : am_F) (many : Int) : am_F := am_fold (g_k_cp_walker_2) 0 (many).toNat c
theorem mk_cp_walker {S : am_S} {d u : Nat} {w : AH} {b : Nat} (hl : b + 735 ≤ w.length) {c : am_F} {q : am_F} (many : Int) (hm : 0 ≤ many ∧ many ≤ 4)  : am_Out S zX12_copies d u [aR (b + 102), aR (b + 107), aI many] (mdW w b c q) (.inl none) (mdW w b (k_cp_walker c many) q) := by
  have key : ∀ Q : AO → AH → Prop, Q (.inl none) (mdW w b (k_cp_walker c many) q) → am_M S zX12_copies d u [aR (b + 102), aR (b + 107), aI many] (mdW w b c q) Q := by
    intro Q hQ
    refine am_body rfl (by decide +kernel) rfl (am_cats_cons rfl ( am_cats_cons rfl ( am_cats_cons rfl (am_cats_nil)))) (Nat.le_of_ble_eq_true rfl) (?_ : am_T _ _ _ _ _ 0 [some (aR (b + 102)), some (aR (b + 107)), some (aI many), none, none] [] (mdW w b c q))
    refine T_iconst 0 (am_dec tX12_copies_0 0 rfl) rfl ⟨by decide, by decide⟩ ?_
    refine T_istore_n (ls' := [some (aR (b + 102)), some (aR (b + 107)), some (aI many), some (aI 0), none]) (am_dec tX12_copies_0 1 rfl) (by decide) rfl ?_
    refine L_k_cp_walker_2 hl q many hm   _ rfl (many).toNat 0 c (by omega) (by omega) (fun c2 hc2 => ?_)
    exact T_return (am_dec tX12_copies_0 27 rfl) rfl (am_tr (fun (x9 : am_F) => Q (.inl none) (mdW w b x9 q)) (y := c2) (show (k_cp_walker c many) = c2 from (by have s9 := hc2.symm; subst s9; exact rfl)) hQ)
  exact key _ ⟨rfl, rfl⟩
theorem k_cp_walker_4 {c : am_F} {many : Int} (hm : 0 ≤ many ∧ many ≤ 4) : k_cp_walker c many 4 = c 4 := by
  unfold k_cp_walker
  exact (am_fold_inv (P := fun (_ : Int) (e : am_F) => e 4 = c 4) many.toNat 0 c rfl (fun k e h0 h1 he => by
    unfold g_k_cp_walker_2
    exact (am_fold_inv (P := fun (_ : Int) (e : am_F) => e 4 = c 4) 16 0 e he (fun i e2 _ _ he2 => by
      unfold g_k_cp_walker_10
      rw [am_put_kr (by omega)]
      exact he2))))
def g_k_cp_watch_10 (k : Int) (i : Int) (c : am_F) : am_F := (am_put c (118 + k.toNat) i.toNat (c (113 + k.toNat) i.toNat))
theorem L_k_cp_watch_10 {S : am_S} {d u : Nat} {Q : AO → AH → Prop} {w : AH} {b : Nat} (hl : b + 735 ≤ w.length) (q : am_F) (many : Int) (k : Int) (hm : 0 ≤ many ∧ many ≤ 4) (ho2 : 0 ≤ k ∧ k < many)  (B9 : Int) (hB : B9 = 2) : ∀ (n : Nat) (i : Int) (c : am_F), i + n = B9 → 0 ≤ i → (∀ (c' : am_F), c' = am_fold (g_k_cp_watch_10 k) i n c → am_T S zX12_copies d u Q 37 [some (aR (b + 112)), some (aR (b + 117)), some (aI many), some (aI k), none] [] (mdW w b c' q)) → am_T S zX12_copies d u Q 10 [some (aR (b + 112)), some (aR (b + 117)), some (aI many), some (aI k), some (aI i)] [] (mdW w b c q) := by
  intro n
  induction n with
  | zero =>
    intro i c hi9 h0i k9
    have e9 : i = B9 := by omega
    subst e9
    refine T_iload (am_dec tX12_copies_0 7 rfl) rfl ?_
    refine T_aload_n (am_dec tX12_copies_0 8 rfl) rfl ?_
    refine T_iload_n (am_dec tX12_copies_0 9 rfl) rfl ?_
    refine T_aaloadR (r := b + (118 + k.toNat)) (am_dec tX12_copies_0 10 rfl) (by decide) (mh_watch hl) (by omega) (by omega) (if_pos (by omega)) ?_
    refine T_alenP (am_dec tX12_copies_0 11 rfl) (by decide) (mr_watch hl (i := k) (by omega) (by omega)) (by omega) ?_
    refine T_icmp_ge 37 (am_dec tX12_copies_0 12 rfl) rfl (fun h16 => ?_) (fun h16 => by exfalso; omega)
    refine T_weak (ls' := [some (aR (b + 112)), some (aR (b + 117)), some (aI many), some (aI k), none]) (am_sub_s (am_sub_s (am_sub_s (am_sub_s (am_sub_n am_sub_nil))))) ?_
    exact k9 c rfl
  | succ n ih =>
    intro i c hi9 h0i k9
    refine T_iload (am_dec tX12_copies_0 7 rfl) rfl ?_
    refine T_aload_n (am_dec tX12_copies_0 8 rfl) rfl ?_
    refine T_iload_n (am_dec tX12_copies_0 9 rfl) rfl ?_
    refine T_aaloadR (r := b + (118 + k.toNat)) (am_dec tX12_copies_0 10 rfl) (by decide) (mh_watch hl) (by omega) (by omega) (if_pos (by omega)) ?_
    refine T_alenP (am_dec tX12_copies_0 11 rfl) (by decide) (mr_watch hl (i := k) (by omega) (by omega)) (by omega) ?_
    refine T_icmp_ge 37 (am_dec tX12_copies_0 12 rfl) rfl (fun h16 => by exfalso; omega) (fun h16 => ?_)
    refine T_aload_n (am_dec tX12_copies_0 13 rfl) rfl ?_
    refine T_iload_n (am_dec tX12_copies_0 14 rfl) rfl ?_
    refine T_aaloadR (r := b + (118 + k.toNat)) (am_dec tX12_copies_0 15 rfl) (by decide) (mh_watch hl) (by omega) (by omega) (if_pos (by omega)) ?_
    refine T_iload (am_dec tX12_copies_0 16 rfl) rfl ?_
    refine T_aload_n (am_dec tX12_copies_0 17 rfl) rfl ?_
    refine T_iload_n (am_dec tX12_copies_0 18 rfl) rfl ?_
    refine T_aaloadR (r := b + (113 + k.toNat)) (am_dec tX12_copies_0 19 rfl) (by decide) (mh_readWatch hl) (by omega) (by omega) (if_pos (by omega)) ?_
    refine T_iload (am_dec tX12_copies_0 20 rfl) rfl ?_
    refine T_ialoadE (x := c (113 + k.toNat) i.toNat) (am_dec tX12_copies_0 21 rfl) (mr_readWatch hl (i := k) (by omega) (by omega)) (by omega) (by omega) rfl ?_
    refine T_iastore (am_dec tX12_copies_0 22 rfl) (mr_watch hl (i := k) (by omega) (by omega)) (by omega) (by omega) ?_
    refine am_wE (w2 := mdW w b (am_put c (118 + k.toNat) i.toNat (c (113 + k.toNat) i.toNat)) q) (md_pc (by omega) (fun f g => md_t_watch f g (by omega))) ?_
    refine T_iinc (ls' := [some (aR (b + 112)), some (aR (b + 117)), some (aI many), some (aI k), some (aI (i + 1))]) (i + 1) (am_dec tX12_copies_0 23 rfl) rfl rfl ⟨by omega, by omega⟩ (by decide) rfl ?_
    refine T_goto 10 (am_dec tX12_copies_0 24 rfl) rfl ?_
    have e9 : (g_k_cp_watch_10 k) i c = (am_put c (118 + k.toNat) i.toNat (c (113 + k.toNat) i.toNat)) := rfl
    simp only [am_fold_s, e9] at k9
    exact ih (i + 1) (am_put c (118 + k.toNat) i.toNat (c (113 + k.toNat) i.toNat)) (by omega) (by omega) k9
def g_k_cp_watch_2  (k : Int) (c : am_F) : am_F := am_fold (g_k_cp_watch_10 k) 0 2 c
theorem L_k_cp_watch_2 {S : am_S} {d u : Nat} {Q : AO → AH → Prop} {w : AH} {b : Nat} (hl : b + 735 ≤ w.length) (q : am_F) (many : Int) (hm : 0 ≤ many ∧ many ≤ 4)   (B9 : Int) (hB : B9 = many) : ∀ (n : Nat) (k : Int) (c : am_F), k + n = B9 → 0 ≤ k → (∀ (c' : am_F), c' = am_fold (g_k_cp_watch_2) k n c → am_T S zX12_copies d u Q 43 [none, none, none, none, none] [] (mdW w b c' q)) → am_T S zX12_copies d u Q 2 [some (aR (b + 112)), some (aR (b + 117)), some (aI many), some (aI k), none] [] (mdW w b c q) := by
  intro n
  induction n with
  | zero =>
    intro k c hi9 h0i k9
    have e9 : k = B9 := by omega
    subst e9
    refine T_iload_n (am_dec tX12_copies_0 2 rfl) rfl ?_
    refine T_iload_n (am_dec tX12_copies_0 3 rfl) rfl ?_
    refine T_icmp_ge 43 (am_dec tX12_copies_0 4 rfl) rfl (fun h4 => ?_) (fun h4 => by exfalso; omega)
    refine T_weak (ls' := [none, none, none, none, none]) (am_sub_n (am_sub_n (am_sub_n (am_sub_n (am_sub_n am_sub_nil))))) ?_
    exact k9 c rfl
  | succ n ih =>
    intro k c hi9 h0i k9
    refine T_iload_n (am_dec tX12_copies_0 2 rfl) rfl ?_
    refine T_iload_n (am_dec tX12_copies_0 3 rfl) rfl ?_
    refine T_icmp_ge 43 (am_dec tX12_copies_0 4 rfl) rfl (fun h4 => by exfalso; omega) (fun h4 => ?_)
    refine T_iconst 0 (am_dec tX12_copies_0 5 rfl) rfl ⟨by decide, by decide⟩ ?_
    refine T_istore (ls' := [some (aR (b + 112)), some (aR (b + 117)), some (aI many), some (aI k), some (aI 0)]) (am_dec tX12_copies_0 6 rfl) (by decide) rfl ?_
    refine L_k_cp_watch_10 hl q many k hm (by omega)  _ rfl 2 0 c (by omega) (by omega) (fun c10 hc10 => ?_)
    refine T_iinc (ls' := [some (aR (b + 112)), some (aR (b + 117)), some (aI many), some (aI (k + 1)), none]) (k + 1) (am_dec tX12_copies_0 25 rfl) rfl rfl ⟨by omega, by omega⟩ (by decide) rfl ?_
    refine T_goto 2 (am_dec tX12_copies_0 26 rfl) rfl ?_
    have e9 : (g_k_cp_watch_2) k c = c10 := (by have s9 := hc10.symm; subst s9; exact rfl)
    simp only [am_fold_s, e9] at k9
    exact ih (k + 1) c10 (by omega) (by omega) k9
def k_cp_watch (c : am_F) (many : Int) : am_F := am_fold (g_k_cp_watch_2) 0 (many).toNat c
theorem mk_cp_watch {S : am_S} {d u : Nat} {w : AH} {b : Nat} (hl : b + 735 ≤ w.length) {c : am_F} {q : am_F} (many : Int) (hm : 0 ≤ many ∧ many ≤ 4)  : am_Out S zX12_copies d u [aR (b + 112), aR (b + 117), aI many] (mdW w b c q) (.inl none) (mdW w b (k_cp_watch c many) q) := by
  have key : ∀ Q : AO → AH → Prop, Q (.inl none) (mdW w b (k_cp_watch c many) q) → am_M S zX12_copies d u [aR (b + 112), aR (b + 117), aI many] (mdW w b c q) Q := by
    intro Q hQ
    refine am_body rfl (by decide +kernel) rfl (am_cats_cons rfl ( am_cats_cons rfl ( am_cats_cons rfl (am_cats_nil)))) (Nat.le_of_ble_eq_true rfl) (?_ : am_T _ _ _ _ _ 0 [some (aR (b + 112)), some (aR (b + 117)), some (aI many), none, none] [] (mdW w b c q))
    refine T_iconst 0 (am_dec tX12_copies_0 0 rfl) rfl ⟨by decide, by decide⟩ ?_
    refine T_istore_n (ls' := [some (aR (b + 112)), some (aR (b + 117)), some (aI many), some (aI 0), none]) (am_dec tX12_copies_0 1 rfl) (by decide) rfl ?_
    refine L_k_cp_watch_2 hl q many hm   _ rfl (many).toNat 0 c (by omega) (by omega) (fun c2 hc2 => ?_)
    exact T_return (am_dec tX12_copies_0 27 rfl) rfl (am_tr (fun (x9 : am_F) => Q (.inl none) (mdW w b x9 q)) (y := c2) (show (k_cp_watch c many) = c2 from (by have s9 := hc2.symm; subst s9; exact rfl)) hQ)
  exact key _ ⟨rfl, rfl⟩
theorem k_cp_watch_4 {c : am_F} {many : Int} (hm : 0 ≤ many ∧ many ≤ 4) : k_cp_watch c many 4 = c 4 := by
  unfold k_cp_watch
  exact (am_fold_inv (P := fun (_ : Int) (e : am_F) => e 4 = c 4) many.toNat 0 c rfl (fun k e h0 h1 he => by
    unfold g_k_cp_watch_2
    exact (am_fold_inv (P := fun (_ : Int) (e : am_F) => e 4 = c 4) 2 0 e he (fun i e2 _ _ he2 => by
      unfold g_k_cp_watch_10
      rw [am_put_kr (by omega)]
      exact he2))))
def g_k_cp_ship_10 (k : Int) (i : Int) (c : am_F) : am_F := (am_put c (128 + k.toNat) i.toNat (c (123 + k.toNat) i.toNat))
theorem L_k_cp_ship_10 {S : am_S} {d u : Nat} {Q : AO → AH → Prop} {w : AH} {b : Nat} (hl : b + 735 ≤ w.length) (q : am_F) (many : Int) (k : Int) (hm : 0 ≤ many ∧ many ≤ 4) (ho2 : 0 ≤ k ∧ k < many)  (B9 : Int) (hB : B9 = 2) : ∀ (n : Nat) (i : Int) (c : am_F), i + n = B9 → 0 ≤ i → (∀ (c' : am_F), c' = am_fold (g_k_cp_ship_10 k) i n c → am_T S zX12_copies d u Q 37 [some (aR (b + 122)), some (aR (b + 127)), some (aI many), some (aI k), none] [] (mdW w b c' q)) → am_T S zX12_copies d u Q 10 [some (aR (b + 122)), some (aR (b + 127)), some (aI many), some (aI k), some (aI i)] [] (mdW w b c q) := by
  intro n
  induction n with
  | zero =>
    intro i c hi9 h0i k9
    have e9 : i = B9 := by omega
    subst e9
    refine T_iload (am_dec tX12_copies_0 7 rfl) rfl ?_
    refine T_aload_n (am_dec tX12_copies_0 8 rfl) rfl ?_
    refine T_iload_n (am_dec tX12_copies_0 9 rfl) rfl ?_
    refine T_aaloadR (r := b + (128 + k.toNat)) (am_dec tX12_copies_0 10 rfl) (by decide) (mh_ship hl) (by omega) (by omega) (if_pos (by omega)) ?_
    refine T_alenP (am_dec tX12_copies_0 11 rfl) (by decide) (mr_ship hl (i := k) (by omega) (by omega)) (by omega) ?_
    refine T_icmp_ge 37 (am_dec tX12_copies_0 12 rfl) rfl (fun h16 => ?_) (fun h16 => by exfalso; omega)
    refine T_weak (ls' := [some (aR (b + 122)), some (aR (b + 127)), some (aI many), some (aI k), none]) (am_sub_s (am_sub_s (am_sub_s (am_sub_s (am_sub_n am_sub_nil))))) ?_
    exact k9 c rfl
  | succ n ih =>
    intro i c hi9 h0i k9
    refine T_iload (am_dec tX12_copies_0 7 rfl) rfl ?_
    refine T_aload_n (am_dec tX12_copies_0 8 rfl) rfl ?_
    refine T_iload_n (am_dec tX12_copies_0 9 rfl) rfl ?_
    refine T_aaloadR (r := b + (128 + k.toNat)) (am_dec tX12_copies_0 10 rfl) (by decide) (mh_ship hl) (by omega) (by omega) (if_pos (by omega)) ?_
    refine T_alenP (am_dec tX12_copies_0 11 rfl) (by decide) (mr_ship hl (i := k) (by omega) (by omega)) (by omega) ?_
    refine T_icmp_ge 37 (am_dec tX12_copies_0 12 rfl) rfl (fun h16 => by exfalso; omega) (fun h16 => ?_)
    refine T_aload_n (am_dec tX12_copies_0 13 rfl) rfl ?_
    refine T_iload_n (am_dec tX12_copies_0 14 rfl) rfl ?_
    refine T_aaloadR (r := b + (128 + k.toNat)) (am_dec tX12_copies_0 15 rfl) (by decide) (mh_ship hl) (by omega) (by omega) (if_pos (by omega)) ?_
    refine T_iload (am_dec tX12_copies_0 16 rfl) rfl ?_
    refine T_aload_n (am_dec tX12_copies_0 17 rfl) rfl ?_
    refine T_iload_n (am_dec tX12_copies_0 18 rfl) rfl ?_
    refine T_aaloadR (r := b + (123 + k.toNat)) (am_dec tX12_copies_0 19 rfl) (by decide) (mh_readShip hl) (by omega) (by omega) (if_pos (by omega)) ?_
    refine T_iload (am_dec tX12_copies_0 20 rfl) rfl ?_
    refine T_ialoadE (x := c (123 + k.toNat) i.toNat) (am_dec tX12_copies_0 21 rfl) (mr_readShip hl (i := k) (by omega) (by omega)) (by omega) (by omega) rfl ?_
    refine T_iastore (am_dec tX12_copies_0 22 rfl) (mr_ship hl (i := k) (by omega) (by omega)) (by omega) (by omega) ?_
    refine am_wE (w2 := mdW w b (am_put c (128 + k.toNat) i.toNat (c (123 + k.toNat) i.toNat)) q) (md_pc (by omega) (fun f g => md_t_ship f g (by omega))) ?_
    refine T_iinc (ls' := [some (aR (b + 122)), some (aR (b + 127)), some (aI many), some (aI k), some (aI (i + 1))]) (i + 1) (am_dec tX12_copies_0 23 rfl) rfl rfl ⟨by omega, by omega⟩ (by decide) rfl ?_
    refine T_goto 10 (am_dec tX12_copies_0 24 rfl) rfl ?_
    have e9 : (g_k_cp_ship_10 k) i c = (am_put c (128 + k.toNat) i.toNat (c (123 + k.toNat) i.toNat)) := rfl
    simp only [am_fold_s, e9] at k9
    exact ih (i + 1) (am_put c (128 + k.toNat) i.toNat (c (123 + k.toNat) i.toNat)) (by omega) (by omega) k9
def g_k_cp_ship_2  (k : Int) (c : am_F) : am_F := am_fold (g_k_cp_ship_10 k) 0 2 c
theorem L_k_cp_ship_2 {S : am_S} {d u : Nat} {Q : AO → AH → Prop} {w : AH} {b : Nat} (hl : b + 735 ≤ w.length) (q : am_F) (many : Int) (hm : 0 ≤ many ∧ many ≤ 4)   (B9 : Int) (hB : B9 = many) : ∀ (n : Nat) (k : Int) (c : am_F), k + n = B9 → 0 ≤ k → (∀ (c' : am_F), c' = am_fold (g_k_cp_ship_2) k n c → am_T S zX12_copies d u Q 43 [none, none, none, none, none] [] (mdW w b c' q)) → am_T S zX12_copies d u Q 2 [some (aR (b + 122)), some (aR (b + 127)), some (aI many), some (aI k), none] [] (mdW w b c q) := by
  intro n
  induction n with
  | zero =>
    intro k c hi9 h0i k9
    have e9 : k = B9 := by omega
    subst e9
    refine T_iload_n (am_dec tX12_copies_0 2 rfl) rfl ?_
    refine T_iload_n (am_dec tX12_copies_0 3 rfl) rfl ?_
    refine T_icmp_ge 43 (am_dec tX12_copies_0 4 rfl) rfl (fun h4 => ?_) (fun h4 => by exfalso; omega)
    refine T_weak (ls' := [none, none, none, none, none]) (am_sub_n (am_sub_n (am_sub_n (am_sub_n (am_sub_n am_sub_nil))))) ?_
    exact k9 c rfl
  | succ n ih =>
    intro k c hi9 h0i k9
    refine T_iload_n (am_dec tX12_copies_0 2 rfl) rfl ?_
    refine T_iload_n (am_dec tX12_copies_0 3 rfl) rfl ?_
    refine T_icmp_ge 43 (am_dec tX12_copies_0 4 rfl) rfl (fun h4 => by exfalso; omega) (fun h4 => ?_)
    refine T_iconst 0 (am_dec tX12_copies_0 5 rfl) rfl ⟨by decide, by decide⟩ ?_
    refine T_istore (ls' := [some (aR (b + 122)), some (aR (b + 127)), some (aI many), some (aI k), some (aI 0)]) (am_dec tX12_copies_0 6 rfl) (by decide) rfl ?_
    refine L_k_cp_ship_10 hl q many k hm (by omega)  _ rfl 2 0 c (by omega) (by omega) (fun c10 hc10 => ?_)
    refine T_iinc (ls' := [some (aR (b + 122)), some (aR (b + 127)), some (aI many), some (aI (k + 1)), none]) (k + 1) (am_dec tX12_copies_0 25 rfl) rfl rfl ⟨by omega, by omega⟩ (by decide) rfl ?_
    refine T_goto 2 (am_dec tX12_copies_0 26 rfl) rfl ?_
    have e9 : (g_k_cp_ship_2) k c = c10 := (by have s9 := hc10.symm; subst s9; exact rfl)
    simp only [am_fold_s, e9] at k9
    exact ih (k + 1) c10 (by omega) (by omega) k9
def k_cp_ship (c : am_F) (many : Int) : am_F := am_fold (g_k_cp_ship_2) 0 (many).toNat c
theorem mk_cp_ship {S : am_S} {d u : Nat} {w : AH} {b : Nat} (hl : b + 735 ≤ w.length) {c : am_F} {q : am_F} (many : Int) (hm : 0 ≤ many ∧ many ≤ 4)  : am_Out S zX12_copies d u [aR (b + 122), aR (b + 127), aI many] (mdW w b c q) (.inl none) (mdW w b (k_cp_ship c many) q) := by
  have key : ∀ Q : AO → AH → Prop, Q (.inl none) (mdW w b (k_cp_ship c many) q) → am_M S zX12_copies d u [aR (b + 122), aR (b + 127), aI many] (mdW w b c q) Q := by
    intro Q hQ
    refine am_body rfl (by decide +kernel) rfl (am_cats_cons rfl ( am_cats_cons rfl ( am_cats_cons rfl (am_cats_nil)))) (Nat.le_of_ble_eq_true rfl) (?_ : am_T _ _ _ _ _ 0 [some (aR (b + 122)), some (aR (b + 127)), some (aI many), none, none] [] (mdW w b c q))
    refine T_iconst 0 (am_dec tX12_copies_0 0 rfl) rfl ⟨by decide, by decide⟩ ?_
    refine T_istore_n (ls' := [some (aR (b + 122)), some (aR (b + 127)), some (aI many), some (aI 0), none]) (am_dec tX12_copies_0 1 rfl) (by decide) rfl ?_
    refine L_k_cp_ship_2 hl q many hm   _ rfl (many).toNat 0 c (by omega) (by omega) (fun c2 hc2 => ?_)
    exact T_return (am_dec tX12_copies_0 27 rfl) rfl (am_tr (fun (x9 : am_F) => Q (.inl none) (mdW w b x9 q)) (y := c2) (show (k_cp_ship c many) = c2 from (by have s9 := hc2.symm; subst s9; exact rfl)) hQ)
  exact key _ ⟨rfl, rfl⟩
theorem k_cp_ship_4 {c : am_F} {many : Int} (hm : 0 ≤ many ∧ many ≤ 4) : k_cp_ship c many 4 = c 4 := by
  unfold k_cp_ship
  exact (am_fold_inv (P := fun (_ : Int) (e : am_F) => e 4 = c 4) many.toNat 0 c rfl (fun k e h0 h1 he => by
    unfold g_k_cp_ship_2
    exact (am_fold_inv (P := fun (_ : Int) (e : am_F) => e 4 = c 4) 2 0 e he (fun i e2 _ _ he2 => by
      unfold g_k_cp_ship_10
      rw [am_put_kr (by omega)]
      exact he2))))
