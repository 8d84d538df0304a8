/-! the model: it stands as it was read -/
def g_k_stands_2  (v1 : Int) (c : am_F) : am_F := (am_put c 4 v1.toNat (c 3 v1.toNat))
theorem L_k_stands_2 {S : am_S} {d u : Nat} {Q : AO → AH → Prop} {w : AH} {b : Nat} (hl : b + 735 ≤ w.length) (q : am_F)   (hd : 1 ≤ d) (B9 : Int) (hB : B9 = 11) : ∀ (n : Nat) (v1 : Int) (c : am_F), v1 + n = B9 → 0 ≤ v1 → (∀ (c' : am_F), c' = am_fold (g_k_stands_2) v1 n c → am_T S zX12_stands d u Q 26 [some (aR b), none] [] (mdW w b c' q)) → am_T S zX12_stands d u Q 2 [some (aR b), some (aI v1)] [] (mdW w b c q) := by
  intro n
  induction n with
  | zero =>
    intro v1 c hi9 h0i k9
    have e9 : v1 = B9 := by omega
    subst e9
    refine T_iload_n (am_dec tX12_stands_0 2 rfl) rfl ?_
    refine T_bipush 11 (am_dec tX12_stands_0 3 rfl) rfl ⟨by decide, by decide⟩ ?_
    refine T_icmp_ge 26 (am_dec tX12_stands_0 4 rfl) rfl (fun h5 => ?_) (fun h5 => by exfalso; omega)
    refine T_weak (ls' := [some (aR b), none]) (am_sub_s (am_sub_n am_sub_nil)) ?_
    exact k9 c rfl
  | succ n ih =>
    intro v1 c hi9 h0i k9
    refine T_iload_n (am_dec tX12_stands_0 2 rfl) rfl ?_
    refine T_bipush 11 (am_dec tX12_stands_0 3 rfl) rfl ⟨by decide, by decide⟩ ?_
    refine T_icmp_ge 26 (am_dec tX12_stands_0 4 rfl) rfl (fun h5 => by exfalso; omega) (fun h5 => ?_)
    refine T_aload_n (am_dec tX12_stands_0 5 rfl) rfl ?_
    refine T_getfield 11 11 (am_dec tX12_stands_0 6 rfl) flX12_23_11 (md_obj hl) rfl ?_
    refine T_iload_n (am_dec tX12_stands_0 7 rfl) rfl ?_
    refine T_aload_n (am_dec tX12_stands_0 8 rfl) rfl ?_
    refine T_getfield 11 10 (am_dec tX12_stands_0 9 rfl) flX12_20_11 (md_obj hl) rfl ?_
    refine T_iload_n (am_dec tX12_stands_0 10 rfl) rfl ?_
    refine T_ialoadE (x := c 3 v1.toNat) (am_dec tX12_stands_0 11 rfl) (md_readTold hl) (by omega) (by omega) rfl ?_
    refine T_iastore (am_dec tX12_stands_0 12 rfl) (md_told hl) (by omega) (by omega) ?_
    refine am_wE (w2 := mdW w b (am_put c 4 v1.toNat (c 3 v1.toNat)) q) (md_pc (Nat.le_of_ble_eq_true rfl) (fun _ _ => rfl)) ?_
    refine T_iinc (ls' := [some (aR b), some (aI (v1 + 1))]) (v1 + 1) (am_dec tX12_stands_0 13 rfl) rfl rfl ⟨by omega, by omega⟩ (by decide) rfl ?_
    refine T_goto 2 (am_dec tX12_stands_0 14 rfl) rfl ?_
    have e9 : (g_k_stands_2) v1 c = (am_put c 4 v1.toNat (c 3 v1.toNat)) := rfl
    simp only [am_fold_s, e9] at k9
    exact ih (v1 + 1) (am_put c 4 v1.toNat (c 3 v1.toNat)) (by omega) (by omega) k9
def g_k_stands_28  (v1 : Int) (c : am_F) : am_F := (am_put c 6 v1.toNat (c 5 v1.toNat))
theorem L_k_stands_28 {S : am_S} {d u : Nat} {Q : AO → AH → Prop} {w : AH} {b : Nat} (hl : b + 735 ≤ w.length) (q : am_F)   (hd : 1 ≤ d) (B9 : Int) (hB : B9 = 81) : ∀ (n : Nat) (v1 : Int) (c : am_F), v1 + n = B9 → 0 ≤ v1 → (∀ (c' : am_F), c' = am_fold (g_k_stands_28) v1 n c → am_T S zX12_stands d u Q 52 [some (aR b), none] [] (mdW w b c' q)) → am_T S zX12_stands d u Q 28 [some (aR b), some (aI v1)] [] (mdW w b c q) := by
  intro n
  induction n with
  | zero =>
    intro v1 c hi9 h0i k9
    have e9 : v1 = B9 := by omega
    subst e9
    refine T_iload_n (am_dec tX12_stands_0 17 rfl) rfl ?_
    refine T_bipush 81 (am_dec tX12_stands_0 18 rfl) rfl ⟨by decide, by decide⟩ ?_
    refine T_icmp_ge 52 (am_dec tX12_stands_0 19 rfl) rfl (fun h31 => ?_) (fun h31 => by exfalso; omega)
    refine T_weak (ls' := [some (aR b), none]) (am_sub_s (am_sub_n am_sub_nil)) ?_
    exact k9 c rfl
  | succ n ih =>
    intro v1 c hi9 h0i k9
    refine T_iload_n (am_dec tX12_stands_0 17 rfl) rfl ?_
    refine T_bipush 81 (am_dec tX12_stands_0 18 rfl) rfl ⟨by decide, by decide⟩ ?_
    refine T_icmp_ge 52 (am_dec tX12_stands_0 19 rfl) rfl (fun h31 => by exfalso; omega) (fun h31 => ?_)
    refine T_aload_n (am_dec tX12_stands_0 20 rfl) rfl ?_
    refine T_getfield 11 13 (am_dec tX12_stands_0 21 rfl) flX12_29_11 (md_obj hl) rfl ?_
    refine T_iload_n (am_dec tX12_stands_0 22 rfl) rfl ?_
    refine T_aload_n (am_dec tX12_stands_0 23 rfl) rfl ?_
    refine T_getfield 11 12 (am_dec tX12_stands_0 24 rfl) flX12_26_11 (md_obj hl) rfl ?_
    refine T_iload_n (am_dec tX12_stands_0 25 rfl) rfl ?_
    refine T_ialoadE (x := c 5 v1.toNat) (am_dec tX12_stands_0 26 rfl) (md_readFog hl) (by omega) (by omega) rfl ?_
    refine T_iastore (am_dec tX12_stands_0 27 rfl) (md_first hl) (by omega) (by omega) ?_
    refine am_wE (w2 := mdW w b (am_put c 6 v1.toNat (c 5 v1.toNat)) q) (md_pc (Nat.le_of_ble_eq_true rfl) (fun _ _ => rfl)) ?_
    refine T_iinc (ls' := [some (aR b), some (aI (v1 + 1))]) (v1 + 1) (am_dec tX12_stands_0 28 rfl) rfl rfl ⟨by omega, by omega⟩ (by decide) rfl ?_
    refine T_goto 28 (am_dec tX12_stands_0 29 rfl) rfl ?_
    have e9 : (g_k_stands_28) v1 c = (am_put c 6 v1.toNat (c 5 v1.toNat)) := rfl
    simp only [am_fold_s, e9] at k9
    exact ih (v1 + 1) (am_put c 6 v1.toNat (c 5 v1.toNat)) (by omega) (by omega) k9
def k_stands (c : am_F) : am_F := (let c2 : am_F := am_fold (g_k_stands_2) 0 11 c; (let c28 : am_F := am_fold (g_k_stands_28) 0 81 c2; (let c67 : am_F := k_cp_wind c28 (c28 4 8); (let c85 : am_F := k_cp_thin c67 (c67 4 9); (let c102 : am_F := k_cp_lamp c85 (c85 4 2); (let c120 : am_F := k_cp_steamer c102 (c102 4 10); (let c137 : am_F := k_cp_lot c120 (c120 4 3); (let c154 : am_F := k_cp_walker c137 (c137 4 4); (let c171 : am_F := k_cp_watch c154 (c154 4 5); (let c189 : am_F := k_cp_ship c171 (c171 4 6); (am_put (am_put (am_put (am_put (am_put (am_put c189 0 45 (c189 4 2)) 0 30 0) 0 31 0) 0 32 0) 0 46 0) 0 48 0)))))))))))
theorem mk_stands {S : am_S} {d u : Nat} {w : AH} {b : Nat} (hl : b + 735 ≤ w.length) {c : am_F} {q : am_F}  (hRW : RW c) (hd : 1 ≤ d) : am_Out S zX12_stands d u [aR b] (mdW w b c q) (.inl none) (mdW w b (k_stands c) q) := by
  have key : ∀ Q : AO → AH → Prop, Q (.inl none) (mdW w b (k_stands c) q) → am_M S zX12_stands d u [aR b] (mdW w b c q) Q := by
    intro Q hQ
    refine am_body rfl (by decide +kernel) rfl (am_cats_cons rfl (am_cats_nil)) (Nat.le_of_ble_eq_true rfl) (?_ : am_T _ _ _ _ _ 0 [some (aR b), none] [] (mdW w b c q))
    have w9 := hRW
    obtain ⟨w0, w1, w2, w3, w4, w5, w6, w8, w7, w10, w11⟩ := w9
    refine T_iconst 0 (am_dec tX12_stands_0 0 rfl) rfl ⟨by decide, by decide⟩ ?_
    refine T_istore_n (ls' := [some (aR b), some (aI 0)]) (am_dec tX12_stands_0 1 rfl) (by decide) rfl ?_
    refine L_k_stands_2 hl q   (by omega) _ rfl 11 0 c (by omega) (by omega) (fun c2 hc2 => ?_)
    have hst : ∀ j : Nat, j < 11 → c2 4 j = c 3 j := by
      have e := am_fold_inv (P := fun (i : Int) (d : am_F) => 0 ≤ i ∧ d 3 = c 3 ∧ ∀ j : Nat, (j : Int) < i → d 4 j = c 3 j) (g := g_k_stands_2) 11 0 c ⟨by omega, rfl, fun j hj => by omega⟩ (fun i d h0 h1 hd => by
        obtain ⟨d0, d1, d2⟩ := hd
        unfold g_k_stands_2
        refine ⟨by omega, by rw [am_put_kr (by decide)]; exact d1, fun j hj => ?_⟩
        by_cases e9 : j = i.toNat
        · rw [e9, am_put_s, d1]
        · rw [am_put_i e9]
          exact d2 j (by omega))
      intro j hj
      rw [hc2]
      exact e.2.2 j (by omega)
    refine T_iconst 0 (am_dec tX12_stands_0 15 rfl) rfl ⟨by decide, by decide⟩ ?_
    refine T_istore_n (ls' := [some (aR b), some (aI 0)]) (am_dec tX12_stands_0 16 rfl) (by decide) rfl ?_
    refine L_k_stands_28 hl q   (by omega) _ rfl 81 0 c2 (by omega) (by omega) (fun c28 hc28 => ?_)
    have h4_28 : c28 4 = c2 4 := by
      rw [hc28]
      exact am_fold_inv (P := fun (_ : Int) (d : am_F) => d 4 = c2 4) (g := g_k_stands_28) 81 0 c2 rfl (fun i d _ _ hd => by
        unfold g_k_stands_28
        rw [am_put_kr (by decide)]
        exact hd)
    have hj28_2 : c28 4 2 = c 3 2 := (congrFun h4_28 2).trans (hst 2 (by decide))
    have hj28_3 : c28 4 3 = c 3 3 := (congrFun h4_28 3).trans (hst 3 (by decide))
    have hj28_4 : c28 4 4 = c 3 4 := (congrFun h4_28 4).trans (hst 4 (by decide))
    have hj28_5 : c28 4 5 = c 3 5 := (congrFun h4_28 5).trans (hst 5 (by decide))
    have hj28_6 : c28 4 6 = c 3 6 := (congrFun h4_28 6).trans (hst 6 (by decide))
    have hj28_8 : c28 4 8 = c 3 8 := (congrFun h4_28 8).trans (hst 8 (by decide))
    have hj28_9 : c28 4 9 = c 3 9 := (congrFun h4_28 9).trans (hst 9 (by decide))
    have hj28_10 : c28 4 10 = c 3 10 := (congrFun h4_28 10).trans (hst 10 (by decide))
    refine T_aload_n (am_dec tX12_stands_0 30 rfl) rfl ?_
    refine T_getfield 11 14 (am_dec tX12_stands_0 31 rfl) flX12_34_11 (md_obj hl) rfl ?_
    refine T_aload_n (am_dec tX12_stands_0 32 rfl) rfl ?_
    refine T_getfield 11 15 (am_dec tX12_stands_0 33 rfl) flX12_37_11 (md_obj hl) rfl ?_
    refine T_aload_n (am_dec tX12_stands_0 34 rfl) rfl ?_
    refine T_getfield 11 11 (am_dec tX12_stands_0 35 rfl) flX12_23_11 (md_obj hl) rfl ?_
    refine T_bipush 8 (am_dec tX12_stands_0 36 rfl) rfl ⟨by decide, by decide⟩ ?_
    refine T_ialoadE (x := c28 4 8) (am_dec tX12_stands_0 37 rfl) (md_told hl) (by omega) (by omega) rfl ?_
    refine T_callS (as := [aR (b + 7), aR (b + 20), aI (c28 4 8)]) rfl (am_dec tX12_stands_0 38 rfl) lkX12_285 rfl (Nat.le_of_ble_eq_true rfl) (by omega) (mk_cp_wind (d := d - 1) hl (c28 4 8)  (by omega) ) (fun _ => ?_)
    refine T_nmH (W := fun x9 => mdW w b x9 q) (v := k_cp_wind c28 (c28 4 8)) (fun c67 hc67 => ?_)
    have h4_67 : c67 4 = c2 4 := (show c67 4 = c28 4 by rw [hc67]; exact k_cp_wind_4 (by omega)).trans h4_28
    have hj67_2 : c67 4 2 = c 3 2 := (congrFun h4_67 2).trans (hst 2 (by decide))
    have hj67_3 : c67 4 3 = c 3 3 := (congrFun h4_67 3).trans (hst 3 (by decide))
    have hj67_4 : c67 4 4 = c 3 4 := (congrFun h4_67 4).trans (hst 4 (by decide))
    have hj67_5 : c67 4 5 = c 3 5 := (congrFun h4_67 5).trans (hst 5 (by decide))
    have hj67_6 : c67 4 6 = c 3 6 := (congrFun h4_67 6).trans (hst 6 (by decide))
    have hj67_8 : c67 4 8 = c 3 8 := (congrFun h4_67 8).trans (hst 8 (by decide))
    have hj67_9 : c67 4 9 = c 3 9 := (congrFun h4_67 9).trans (hst 9 (by decide))
    have hj67_10 : c67 4 10 = c 3 10 := (congrFun h4_67 10).trans (hst 10 (by decide))
    refine T_aload_n (am_dec tX12_stands_0 39 rfl) rfl ?_
    refine T_getfield 11 16 (am_dec tX12_stands_1 0 rfl) flX12_40_11 (md_obj hl) rfl ?_
    refine T_aload_n (am_dec tX12_stands_1 1 rfl) rfl ?_
    refine T_getfield 11 17 (am_dec tX12_stands_1 2 rfl) flX12_43_11 (md_obj hl) rfl ?_
    refine T_aload_n (am_dec tX12_stands_1 3 rfl) rfl ?_
    refine T_getfield 11 11 (am_dec tX12_stands_1 4 rfl) flX12_23_11 (md_obj hl) rfl ?_
    refine T_bipush 9 (am_dec tX12_stands_1 5 rfl) rfl ⟨by decide, by decide⟩ ?_
    refine T_ialoadE (x := c67 4 9) (am_dec tX12_stands_1 6 rfl) (md_told hl) (by omega) (by omega) rfl ?_
    refine T_callS (as := [aR (b + 33), aR (b + 46), aI (c67 4 9)]) rfl (am_dec tX12_stands_1 7 rfl) lkX12_285 rfl (Nat.le_of_ble_eq_true rfl) (by omega) (mk_cp_thin (d := d - 1) hl (c67 4 9)  (by omega) ) (fun _ => ?_)
    refine T_nmH (W := fun x9 => mdW w b x9 q) (v := k_cp_thin c67 (c67 4 9)) (fun c85 hc85 => ?_)
    have h4_85 : c85 4 = c2 4 := (show c85 4 = c67 4 by rw [hc85]; exact k_cp_thin_4 (by omega)).trans h4_67
    have hj85_2 : c85 4 2 = c 3 2 := (congrFun h4_85 2).trans (hst 2 (by decide))
    have hj85_3 : c85 4 3 = c 3 3 := (congrFun h4_85 3).trans (hst 3 (by decide))
    have hj85_4 : c85 4 4 = c 3 4 := (congrFun h4_85 4).trans (hst 4 (by decide))
    have hj85_5 : c85 4 5 = c 3 5 := (congrFun h4_85 5).trans (hst 5 (by decide))
    have hj85_6 : c85 4 6 = c 3 6 := (congrFun h4_85 6).trans (hst 6 (by decide))
    have hj85_8 : c85 4 8 = c 3 8 := (congrFun h4_85 8).trans (hst 8 (by decide))
    have hj85_9 : c85 4 9 = c 3 9 := (congrFun h4_85 9).trans (hst 9 (by decide))
    have hj85_10 : c85 4 10 = c 3 10 := (congrFun h4_85 10).trans (hst 10 (by decide))
    refine T_aload_n (am_dec tX12_stands_1 8 rfl) rfl ?_
    refine T_getfield 11 18 (am_dec tX12_stands_1 9 rfl) flX12_46_11 (md_obj hl) rfl ?_
    refine T_aload_n (am_dec tX12_stands_1 10 rfl) rfl ?_
    refine T_getfield 11 19 (am_dec tX12_stands_1 11 rfl) flX12_49_11 (md_obj hl) rfl ?_
    refine T_aload_n (am_dec tX12_stands_1 12 rfl) rfl ?_
    refine T_getfield 11 11 (am_dec tX12_stands_1 13 rfl) flX12_23_11 (md_obj hl) rfl ?_
    refine T_iconst 2 (am_dec tX12_stands_1 14 rfl) rfl ⟨by decide, by decide⟩ ?_
    refine T_ialoadE (x := c85 4 2) (am_dec tX12_stands_1 15 rfl) (md_told hl) (by omega) (by omega) rfl ?_
    refine T_callS (as := [aR (b + 59), aR (b + 66), aI (c85 4 2)]) rfl (am_dec tX12_stands_1 16 rfl) lkX12_285 rfl (Nat.le_of_ble_eq_true rfl) (by omega) (mk_cp_lamp (d := d - 1) hl (c85 4 2)  (by omega) ) (fun _ => ?_)
    refine T_nmH (W := fun x9 => mdW w b x9 q) (v := k_cp_lamp c85 (c85 4 2)) (fun c102 hc102 => ?_)
    have h4_102 : c102 4 = c2 4 := (show c102 4 = c85 4 by rw [hc102]; exact k_cp_lamp_4 (by omega)).trans h4_85
    have hj102_2 : c102 4 2 = c 3 2 := (congrFun h4_102 2).trans (hst 2 (by decide))
    have hj102_3 : c102 4 3 = c 3 3 := (congrFun h4_102 3).trans (hst 3 (by decide))
    have hj102_4 : c102 4 4 = c 3 4 := (congrFun h4_102 4).trans (hst 4 (by decide))
    have hj102_5 : c102 4 5 = c 3 5 := (congrFun h4_102 5).trans (hst 5 (by decide))
    have hj102_6 : c102 4 6 = c 3 6 := (congrFun h4_102 6).trans (hst 6 (by decide))
    have hj102_8 : c102 4 8 = c 3 8 := (congrFun h4_102 8).trans (hst 8 (by decide))
    have hj102_9 : c102 4 9 = c 3 9 := (congrFun h4_102 9).trans (hst 9 (by decide))
    have hj102_10 : c102 4 10 = c 3 10 := (congrFun h4_102 10).trans (hst 10 (by decide))
    refine T_aload_n (am_dec tX12_stands_1 17 rfl) rfl ?_
    refine T_getfield 11 20 (am_dec tX12_stands_1 18 rfl) flX12_52_11 (md_obj hl) rfl ?_
    refine T_aload_n (am_dec tX12_stands_1 19 rfl) rfl ?_
    refine T_getfield 11 21 (am_dec tX12_stands_1 20 rfl) flX12_55_11 (md_obj hl) rfl ?_
    refine T_aload_n (am_dec tX12_stands_1 21 rfl) rfl ?_
    refine T_getfield 11 11 (am_dec tX12_stands_1 22 rfl) flX12_23_11 (md_obj hl) rfl ?_
    refine T_bipush 10 (am_dec tX12_stands_1 23 rfl) rfl ⟨by decide, by decide⟩ ?_
    refine T_ialoadE (x := c102 4 10) (am_dec tX12_stands_1 24 rfl) (md_told hl) (by omega) (by omega) rfl ?_
    refine T_callS (as := [aR (b + 74), aR (b + 81), aI (c102 4 10)]) rfl (am_dec tX12_stands_1 25 rfl) lkX12_285 rfl (Nat.le_of_ble_eq_true rfl) (by omega) (mk_cp_steamer (d := d - 1) hl (c102 4 10)  (by omega) ) (fun _ => ?_)
    refine T_nmH (W := fun x9 => mdW w b x9 q) (v := k_cp_steamer c102 (c102 4 10)) (fun c120 hc120 => ?_)
    have h4_120 : c120 4 = c2 4 := (show c120 4 = c102 4 by rw [hc120]; exact k_cp_steamer_4 (by omega)).trans h4_102
    have hj120_2 : c120 4 2 = c 3 2 := (congrFun h4_120 2).trans (hst 2 (by decide))
    have hj120_3 : c120 4 3 = c 3 3 := (congrFun h4_120 3).trans (hst 3 (by decide))
    have hj120_4 : c120 4 4 = c 3 4 := (congrFun h4_120 4).trans (hst 4 (by decide))
    have hj120_5 : c120 4 5 = c 3 5 := (congrFun h4_120 5).trans (hst 5 (by decide))
    have hj120_6 : c120 4 6 = c 3 6 := (congrFun h4_120 6).trans (hst 6 (by decide))
    have hj120_8 : c120 4 8 = c 3 8 := (congrFun h4_120 8).trans (hst 8 (by decide))
    have hj120_9 : c120 4 9 = c 3 9 := (congrFun h4_120 9).trans (hst 9 (by decide))
    have hj120_10 : c120 4 10 = c 3 10 := (congrFun h4_120 10).trans (hst 10 (by decide))
    refine T_aload_n (am_dec tX12_stands_1 26 rfl) rfl ?_
    refine T_getfield 11 22 (am_dec tX12_stands_1 27 rfl) flX12_58_11 (md_obj hl) rfl ?_
    refine T_aload_n (am_dec tX12_stands_1 28 rfl) rfl ?_
    refine T_getfield 11 23 (am_dec tX12_stands_1 29 rfl) flX12_61_11 (md_obj hl) rfl ?_
    refine T_aload_n (am_dec tX12_stands_1 30 rfl) rfl ?_
    refine T_getfield 11 11 (am_dec tX12_stands_1 31 rfl) flX12_23_11 (md_obj hl) rfl ?_
    refine T_iconst 3 (am_dec tX12_stands_1 32 rfl) rfl ⟨by decide, by decide⟩ ?_
    refine T_ialoadE (x := c120 4 3) (am_dec tX12_stands_1 33 rfl) (md_told hl) (by omega) (by omega) rfl ?_
    refine T_callS (as := [aR (b + 88), aR (b + 95), aI (c120 4 3)]) rfl (am_dec tX12_stands_1 34 rfl) lkX12_285 rfl (Nat.le_of_ble_eq_true rfl) (by omega) (mk_cp_lot (d := d - 1) hl (c120 4 3)  (by omega) ) (fun _ => ?_)
    refine T_nmH (W := fun x9 => mdW w b x9 q) (v := k_cp_lot c120 (c120 4 3)) (fun c137 hc137 => ?_)
    have h4_137 : c137 4 = c2 4 := (show c137 4 = c120 4 by rw [hc137]; exact k_cp_lot_4 (by omega)).trans h4_120
    have hj137_2 : c137 4 2 = c 3 2 := (congrFun h4_137 2).trans (hst 2 (by decide))
    have hj137_3 : c137 4 3 = c 3 3 := (congrFun h4_137 3).trans (hst 3 (by decide))
    have hj137_4 : c137 4 4 = c 3 4 := (congrFun h4_137 4).trans (hst 4 (by decide))
    have hj137_5 : c137 4 5 = c 3 5 := (congrFun h4_137 5).trans (hst 5 (by decide))
    have hj137_6 : c137 4 6 = c 3 6 := (congrFun h4_137 6).trans (hst 6 (by decide))
    have hj137_8 : c137 4 8 = c 3 8 := (congrFun h4_137 8).trans (hst 8 (by decide))
    have hj137_9 : c137 4 9 = c 3 9 := (congrFun h4_137 9).trans (hst 9 (by decide))
    have hj137_10 : c137 4 10 = c 3 10 := (congrFun h4_137 10).trans (hst 10 (by decide))
    refine T_aload_n (am_dec tX12_stands_1 35 rfl) rfl ?_
    refine T_getfield 11 24 (am_dec tX12_stands_1 36 rfl) flX12_64_11 (md_obj hl) rfl ?_
    refine T_aload_n (am_dec tX12_stands_1 37 rfl) rfl ?_
    refine T_getfield 11 25 (am_dec tX12_stands_1 38 rfl) flX12_67_11 (md_obj hl) rfl ?_
    refine T_aload_n (am_dec tX12_stands_1 39 rfl) rfl ?_
    refine T_getfield 11 11 (am_dec tX12_stands_2 0 rfl) flX12_23_11 (md_obj hl) rfl ?_
    refine T_iconst 4 (am_dec tX12_stands_2 1 rfl) rfl ⟨by decide, by decide⟩ ?_
    refine T_ialoadE (x := c137 4 4) (am_dec tX12_stands_2 2 rfl) (md_told hl) (by omega) (by omega) rfl ?_
    refine T_callS (as := [aR (b + 102), aR (b + 107), aI (c137 4 4)]) rfl (am_dec tX12_stands_2 3 rfl) lkX12_285 rfl (Nat.le_of_ble_eq_true rfl) (by omega) (mk_cp_walker (d := d - 1) hl (c137 4 4)  (by omega) ) (fun _ => ?_)
    refine T_nmH (W := fun x9 => mdW w b x9 q) (v := k_cp_walker c137 (c137 4 4)) (fun c154 hc154 => ?_)
    have h4_154 : c154 4 = c2 4 := (show c154 4 = c137 4 by rw [hc154]; exact k_cp_walker_4 (by omega)).trans h4_137
    have hj154_2 : c154 4 2 = c 3 2 := (congrFun h4_154 2).trans (hst 2 (by decide))
    have hj154_3 : c154 4 3 = c 3 3 := (congrFun h4_154 3).trans (hst 3 (by decide))
    have hj154_4 : c154 4 4 = c 3 4 := (congrFun h4_154 4).trans (hst 4 (by decide))
    have hj154_5 : c154 4 5 = c 3 5 := (congrFun h4_154 5).trans (hst 5 (by decide))
    have hj154_6 : c154 4 6 = c 3 6 := (congrFun h4_154 6).trans (hst 6 (by decide))
    have hj154_8 : c154 4 8 = c 3 8 := (congrFun h4_154 8).trans (hst 8 (by decide))
    have hj154_9 : c154 4 9 = c 3 9 := (congrFun h4_154 9).trans (hst 9 (by decide))
    have hj154_10 : c154 4 10 = c 3 10 := (congrFun h4_154 10).trans (hst 10 (by decide))
    refine T_aload_n (am_dec tX12_stands_2 4 rfl) rfl ?_
    refine T_getfield 11 26 (am_dec tX12_stands_2 5 rfl) flX12_70_11 (md_obj hl) rfl ?_
    refine T_aload_n (am_dec tX12_stands_2 6 rfl) rfl ?_
    refine T_getfield 11 27 (am_dec tX12_stands_2 7 rfl) flX12_73_11 (md_obj hl) rfl ?_
    refine T_aload_n (am_dec tX12_stands_2 8 rfl) rfl ?_
    refine T_getfield 11 11 (am_dec tX12_stands_2 9 rfl) flX12_23_11 (md_obj hl) rfl ?_
    refine T_iconst 5 (am_dec tX12_stands_2 10 rfl) rfl ⟨by decide, by decide⟩ ?_
    refine T_ialoadE (x := c154 4 5) (am_dec tX12_stands_2 11 rfl) (md_told hl) (by omega) (by omega) rfl ?_
    refine T_callS (as := [aR (b + 112), aR (b + 117), aI (c154 4 5)]) rfl (am_dec tX12_stands_2 12 rfl) lkX12_285 rfl (Nat.le_of_ble_eq_true rfl) (by omega) (mk_cp_watch (d := d - 1) hl (c154 4 5)  (by omega) ) (fun _ => ?_)
    refine T_nmH (W := fun x9 => mdW w b x9 q) (v := k_cp_watch c154 (c154 4 5)) (fun c171 hc171 => ?_)
    have h4_171 : c171 4 = c2 4 := (show c171 4 = c154 4 by rw [hc171]; exact k_cp_watch_4 (by omega)).trans h4_154
    have hj171_2 : c171 4 2 = c 3 2 := (congrFun h4_171 2).trans (hst 2 (by decide))
    have hj171_3 : c171 4 3 = c 3 3 := (congrFun h4_171 3).trans (hst 3 (by decide))
    have hj171_4 : c171 4 4 = c 3 4 := (congrFun h4_171 4).trans (hst 4 (by decide))
    have hj171_5 : c171 4 5 = c 3 5 := (congrFun h4_171 5).trans (hst 5 (by decide))
    have hj171_6 : c171 4 6 = c 3 6 := (congrFun h4_171 6).trans (hst 6 (by decide))
    have hj171_8 : c171 4 8 = c 3 8 := (congrFun h4_171 8).trans (hst 8 (by decide))
    have hj171_9 : c171 4 9 = c 3 9 := (congrFun h4_171 9).trans (hst 9 (by decide))
    have hj171_10 : c171 4 10 = c 3 10 := (congrFun h4_171 10).trans (hst 10 (by decide))
    refine T_aload_n (am_dec tX12_stands_2 13 rfl) rfl ?_
    refine T_getfield 11 28 (am_dec tX12_stands_2 14 rfl) flX12_76_11 (md_obj hl) rfl ?_
    refine T_aload_n (am_dec tX12_stands_2 15 rfl) rfl ?_
    refine T_getfield 11 29 (am_dec tX12_stands_2 16 rfl) flX12_79_11 (md_obj hl) rfl ?_
    refine T_aload_n (am_dec tX12_stands_2 17 rfl) rfl ?_
    refine T_getfield 11 11 (am_dec tX12_stands_2 18 rfl) flX12_23_11 (md_obj hl) rfl ?_
    refine T_bipush 6 (am_dec tX12_stands_2 19 rfl) rfl ⟨by decide, by decide⟩ ?_
    refine T_ialoadE (x := c171 4 6) (am_dec tX12_stands_2 20 rfl) (md_told hl) (by omega) (by omega) rfl ?_
    refine T_callS (as := [aR (b + 122), aR (b + 127), aI (c171 4 6)]) rfl (am_dec tX12_stands_2 21 rfl) lkX12_285 rfl (Nat.le_of_ble_eq_true rfl) (by omega) (mk_cp_ship (d := d - 1) hl (c171 4 6)  (by omega) ) (fun _ => ?_)
    refine T_nmH (W := fun x9 => mdW w b x9 q) (v := k_cp_ship c171 (c171 4 6)) (fun c189 hc189 => ?_)
    have h4_189 : c189 4 = c2 4 := (show c189 4 = c171 4 by rw [hc189]; exact k_cp_ship_4 (by omega)).trans h4_171
    have hj189_2 : c189 4 2 = c 3 2 := (congrFun h4_189 2).trans (hst 2 (by decide))
    have hj189_3 : c189 4 3 = c 3 3 := (congrFun h4_189 3).trans (hst 3 (by decide))
    have hj189_4 : c189 4 4 = c 3 4 := (congrFun h4_189 4).trans (hst 4 (by decide))
    have hj189_5 : c189 4 5 = c 3 5 := (congrFun h4_189 5).trans (hst 5 (by decide))
    have hj189_6 : c189 4 6 = c 3 6 := (congrFun h4_189 6).trans (hst 6 (by decide))
    have hj189_8 : c189 4 8 = c 3 8 := (congrFun h4_189 8).trans (hst 8 (by decide))
    have hj189_9 : c189 4 9 = c 3 9 := (congrFun h4_189 9).trans (hst 9 (by decide))
    have hj189_10 : c189 4 10 = c 3 10 := (congrFun h4_189 10).trans (hst 10 (by decide))
    refine T_aload_n (am_dec tX12_stands_2 22 rfl) rfl ?_
    refine T_aload_n (am_dec tX12_stands_2 23 rfl) rfl ?_
    refine T_getfield 11 11 (am_dec tX12_stands_2 24 rfl) flX12_23_11 (md_obj hl) rfl ?_
    refine T_iconst 2 (am_dec tX12_stands_2 25 rfl) rfl ⟨by decide, by decide⟩ ?_
    refine T_ialoadE (x := c189 4 2) (am_dec tX12_stands_2 26 rfl) (md_told hl) (by omega) (by omega) rfl ?_
    refine T_putfield (fs' := mdO b (am_up (c189 0) 45 (c189 4 2)) (q 0)) 11 45 (am_dec tX12_stands_2 27 rfl) flX12_289_11 rfl rfl rfl trivial (md_obj hl) (Nat.le_of_ble_eq_true rfl) rfl ?_
    refine am_wE (w2 := mdW w b (am_put c189 0 45 (c189 4 2)) q) (md_fc) ?_
    refine T_aload_n (am_dec tX12_stands_2 28 rfl) rfl ?_
    refine T_iconst 0 (am_dec tX12_stands_2 29 rfl) rfl ⟨by decide, by decide⟩ ?_
    refine T_putfield (fs' := mdO b (am_up ((am_put c189 0 45 (c189 4 2)) 0) 30 0) (q 0)) 11 30 (am_dec tX12_stands_2 30 rfl) flX12_292_11 rfl rfl rfl trivial (md_obj hl) (Nat.le_of_ble_eq_true rfl) rfl ?_
    refine am_wE (w2 := mdW w b (am_put (am_put c189 0 45 (c189 4 2)) 0 30 0) q) (md_fc) ?_
    refine T_aload_n (am_dec tX12_stands_2 31 rfl) rfl ?_
    refine T_iconst 0 (am_dec tX12_stands_2 32 rfl) rfl ⟨by decide, by decide⟩ ?_
    refine T_putfield (fs' := mdO b (am_up ((am_put (am_put c189 0 45 (c189 4 2)) 0 30 0) 0) 31 0) (q 0)) 11 31 (am_dec tX12_stands_2 33 rfl) flX12_295_11 rfl rfl rfl trivial (md_obj hl) (Nat.le_of_ble_eq_true rfl) rfl ?_
    refine am_wE (w2 := mdW w b (am_put (am_put (am_put c189 0 45 (c189 4 2)) 0 30 0) 0 31 0) q) (md_fc) ?_
    refine T_aload_n (am_dec tX12_stands_2 34 rfl) rfl ?_
    refine T_iconst 0 (am_dec tX12_stands_2 35 rfl) rfl ⟨by decide, by decide⟩ ?_
    refine T_putfield (fs' := mdO b (am_up ((am_put (am_put (am_put c189 0 45 (c189 4 2)) 0 30 0) 0 31 0) 0) 32 0) (q 0)) 11 32 (am_dec tX12_stands_2 36 rfl) flX12_298_11 rfl rfl rfl trivial (md_obj hl) (Nat.le_of_ble_eq_true rfl) rfl ?_
    refine am_wE (w2 := mdW w b (am_put (am_put (am_put (am_put c189 0 45 (c189 4 2)) 0 30 0) 0 31 0) 0 32 0) q) (md_fc) ?_
    refine T_aload_n (am_dec tX12_stands_2 37 rfl) rfl ?_
    refine T_iconst 0 (am_dec tX12_stands_2 38 rfl) rfl ⟨by decide, by decide⟩ ?_
    refine T_putfield (fs' := mdO b (am_up ((am_put (am_put (am_put (am_put c189 0 45 (c189 4 2)) 0 30 0) 0 31 0) 0 32 0) 0) 46 0) (q 0)) 11 46 (am_dec tX12_stands_2 39 rfl) flX12_301_11 rfl rfl rfl trivial (md_obj hl) (Nat.le_of_ble_eq_true rfl) rfl ?_
    refine am_wE (w2 := mdW w b (am_put (am_put (am_put (am_put (am_put c189 0 45 (c189 4 2)) 0 30 0) 0 31 0) 0 32 0) 0 46 0) q) (md_fc) ?_
    refine T_aload_n (am_dec tX12_stands_3 0 rfl) rfl ?_
    refine T_iconst 0 (am_dec tX12_stands_3 1 rfl) rfl ⟨by decide, by decide⟩ ?_
    refine T_putfield (fs' := mdO b (am_up ((am_put (am_put (am_put (am_put (am_put c189 0 45 (c189 4 2)) 0 30 0) 0 31 0) 0 32 0) 0 46 0) 0) 48 0) (q 0)) 11 48 (am_dec tX12_stands_3 2 rfl) flX12_304_11 rfl rfl rfl trivial (md_obj hl) (Nat.le_of_ble_eq_true rfl) rfl ?_
    refine am_wE (w2 := mdW w b (am_put (am_put (am_put (am_put (am_put (am_put c189 0 45 (c189 4 2)) 0 30 0) 0 31 0) 0 32 0) 0 46 0) 0 48 0) q) (md_fc) ?_
    exact T_return (am_dec tX12_stands_3 3 rfl) rfl (am_tr (fun (x9 : am_F) => Q (.inl none) (mdW w b x9 q)) (y := (am_put (am_put (am_put (am_put (am_put (am_put c189 0 45 (c189 4 2)) 0 30 0) 0 31 0) 0 32 0) 0 46 0) 0 48 0)) (show (k_stands c) = (am_put (am_put (am_put (am_put (am_put (am_put c189 0 45 (c189 4 2)) 0 30 0) 0 31 0) 0 32 0) 0 46 0) 0 48 0) from (by have s9 := hc2.symm; subst s9; have s9 := hc28.symm; subst s9; have s9 := hc67.symm; subst s9; have s9 := hc85.symm; subst s9; have s9 := hc102.symm; subst s9; have s9 := hc120.symm; subst s9; have s9 := hc137.symm; subst s9; have s9 := hc154.symm; subst s9; have s9 := hc171.symm; subst s9; have s9 := hc189.symm; subst s9; exact rfl)) hQ)
  exact key _ ⟨rfl, rfl⟩
