/-! the model: thinning, lots, walks -/
def w_k_thinHere_36 (c : am_F) (t : Int) (tq : Int) : (Int) ⊕ (Int) := (if c 3 9 ≤ tq then .inr tq else (if c (34 + tq.toNat) 0 = t then .inr tq else .inl (tq + 1)))
theorem L_k_thinHere_36 {S : am_S} {d u : Nat} {Q : AO → AH → Prop} {w : AH} {b : Nat} (hl : b + 735 ≤ w.length) (c : am_F) (q : am_F) (t : Int) (wi : Int) (h38 : 0 ≤ c 3 9 ∧ c 3 9 ≤ 11) (hd : 3 ≤ d) : ∀ (n : Nat) (tq : Int), c 3 9 - tq < n → 0 ≤ tq ∧ tq ≤ c 3 9 → (∀ (tq' : Int), tq' = am_wh (w_k_thinHere_36 c t) n tq → 0 ≤ tq' ∧ tq' ≤ c 3 9 → am_T S zX12_thinHere d u Q 65 [some (aR b), some (aI t), some (aI wi), some (aI tq')] [] (mdW w b c q)) → am_T S zX12_thinHere d u Q 36 [some (aR b), some (aI t), some (aI wi), some (aI tq)] [] (mdW w b c q) := by
  intro n
  induction n with
  | zero =>
    intro tq hm9 hinv k9
    exfalso; omega
  | succ n ih =>
    intro tq hm9 hinv k9
    refine T_iload_n (am_dec tX12_thinHere_0 22 rfl) rfl ?_
    refine T_aload_n (am_dec tX12_thinHere_0 23 rfl) rfl ?_
    refine T_getfield 11 10 (am_dec tX12_thinHere_0 24 rfl) flX12_20_11 (md_obj hl) rfl ?_
    refine T_bipush 9 (am_dec tX12_thinHere_0 25 rfl) rfl ⟨by decide, by decide⟩ ?_
    refine T_ialoadE (x := c 3 9) (am_dec tX12_thinHere_0 26 rfl) (md_readTold hl) (by omega) (by omega) rfl ?_
    refine T_icmp_ge 65 (am_dec tX12_thinHere_0 27 rfl) rfl (fun h44 => ?_) (fun h44 => ?_)
    · have e9 : (w_k_thinHere_36 c t) tq = .inr tq := (if_pos h44)
      simp only [am_wh_r e9] at k9
      exact k9 _ rfl (by omega)
    · refine T_aload_n (am_dec tX12_thinHere_0 28 rfl) rfl ?_
      refine T_getfield 11 16 (am_dec tX12_thinHere_0 29 rfl) flX12_40_11 (md_obj hl) rfl ?_
      refine T_iload_n (am_dec tX12_thinHere_0 30 rfl) rfl ?_
      refine T_aaloadR (r := b + (34 + tq.toNat)) (am_dec tX12_thinHere_0 31 rfl) (by decide) (mh_readThin hl) (by omega) (by omega) (if_pos (by omega)) ?_
      refine T_iconst 0 (am_dec tX12_thinHere_0 32 rfl) rfl ⟨by decide, by decide⟩ ?_
      refine T_ialoadE (x := c (34 + tq.toNat) 0) (am_dec tX12_thinHere_0 33 rfl) (mr_readThin hl (i := tq) (by omega) (by omega)) (by omega) (by omega) rfl ?_
      refine T_iload_n (am_dec tX12_thinHere_0 34 rfl) rfl ?_
      refine T_icmp_eq 65 (am_dec tX12_thinHere_0 35 rfl) rfl (fun h56 => ?_) (fun h56 => ?_)
      · have e9 : (w_k_thinHere_36 c t) tq = .inr tq := ((if_neg h44).trans (if_pos h56))
        simp only [am_wh_r e9] at k9
        exact k9 _ rfl (by omega)
      · refine T_iinc (ls' := [some (aR b), some (aI t), some (aI wi), some (aI (tq + 1))]) (tq + 1) (am_dec tX12_thinHere_0 36 rfl) rfl rfl ⟨by omega, by omega⟩ (by decide) rfl ?_
        refine T_goto 36 (am_dec tX12_thinHere_0 37 rfl) rfl ?_
        have e9 : (w_k_thinHere_36 c t) tq = .inl (tq + 1) := ((if_neg h44).trans (if_neg h56))
        simp only [am_wh_l e9] at k9
        exact ih (tq + 1) (by omega) (by omega) k9
def k_thinHere (c : am_F) : am_F := (let u4 : Int × am_F := k_number c 0 39; (let u12 : Int × am_F := k_number ((u4).2) 0 9; (if (u12).2 0 5 = 0 then (let tq_36 : Int := am_wh (w_k_thinHere_36 (am_put (u12).2 0 57 (((u12).2 0 57) + 1)) ((u4).1)) 13 0; (let t99 : Int := (if tq_36 = (u12).2 3 9 then 1 else 0); (am_put (am_put (am_put (am_put (u12).2 0 57 (((u12).2 0 57) + 1)) (34 + tq_36.toNat) 0 ((u4).1)) (34 + tq_36.toNat) 1 ((u12).1)) 3 9 (((u12).2 3 9) + t99)))) else (u12).2)))
theorem mk_thinHere {S : am_S} {d u : Nat} {w : AH} {b : Nat} (hl : b + 735 ≤ w.length) {c : am_F} {q : am_F}  (hR : RdV c) (hRW : RW c) (hnf : c 0 57 ≤ 11) (hd : 3 ≤ d) : am_Out S zX12_thinHere d u [aR b] (mdW w b c q) (.inl none) (mdW w b (k_thinHere c) q) := by
  have key : ∀ Q : AO → AH → Prop, Q (.inl none) (mdW w b (k_thinHere c) q) → am_M S zX12_thinHere d u [aR b] (mdW w b c q) Q := by
    intro Q hQ
    refine am_body rfl (by decide +kernel) rfl (am_cats_cons rfl (am_cats_nil)) (Nat.le_of_ble_eq_true rfl) (?_ : am_T _ _ _ _ _ 0 [some (aR b), none, none, none] [] (mdW w b c q))
    have hR9 := hR
    obtain ⟨r1, r2, r3⟩ := hR9
    have w9 := hRW
    obtain ⟨w0, w1, w2, w3, w4, w5, w6, w8, w7, w10, w11⟩ := w9
    refine T_aload_n (am_dec tX12_thinHere_0 0 rfl) rfl ?_
    refine T_iconst 0 (am_dec tX12_thinHere_0 1 rfl) rfl ⟨by decide, by decide⟩ ?_
    refine T_bipush 39 (am_dec tX12_thinHere_0 2 rfl) rfl ⟨by decide, by decide⟩ ?_
    refine T_callV (as := [aI 0, aI 39]) rfl (am_dec tX12_thinHere_0 3 rfl) lkX12_231 (md_obj hl) rfl rfl (Nat.le_of_ble_eq_true rfl) (by omega) (mk_number (d := d - 1) hl 0 39  hR (by omega)) (fun _ => ?_)
    obtain ⟨u4, hu4⟩ : ∃ x9, x9 = k_number c 0 39 := ⟨_, rfl⟩
    rw [← hu4]
    have hR4 : RdV (u4).2 := by rw [hu4]; exact (k_number_x hR).1
    have hR9 := hR4
    obtain ⟨ra4, rb4, rc4⟩ := hR9
    have hx4 : Ly c (u4).2 := Ly_t Ly_r (Ly_x (by rw [hu4]; exact (k_number_x hR).2.1))
    have hz4 : (u4).2 0 2 = c 0 2 := hx4.2 2 (by decide) (by decide) (by decide)
    have ht4_0 : (u4).2 3 0 = c 3 0 := congrFun hx4.1 0
    have ht4_1 : (u4).2 3 1 = c 3 1 := congrFun hx4.1 1
    have hv4 : ((u4).2 0 5 = 0 ∧ 0 ≤ (u4).1 ∧ (u4).1 ≤ 39) ∨ ((u4).2 0 5 ≠ 0 ∧ (u4).1 = 0) := by rw [hu4]; have q9 := (k_number_x (lo := 0) (hi := 39) hR).2.2; exact q9
    have hf4 : (u4).2 0 5 = 0 → c 0 5 = 0 := by rw [hu4]; exact fun h9 => (k_number_5 h9)
    refine T_istore_n (ls' := [some (aR b), some (aI ((u4).1)), none, none]) (am_dec tX12_thinHere_0 4 rfl) (by decide) rfl ?_
    refine T_aload_n (am_dec tX12_thinHere_0 5 rfl) rfl ?_
    refine T_iconst 0 (am_dec tX12_thinHere_0 6 rfl) rfl ⟨by decide, by decide⟩ ?_
    refine T_bipush 9 (am_dec tX12_thinHere_0 7 rfl) rfl ⟨by decide, by decide⟩ ?_
    refine T_callV (as := [aI 0, aI 9]) rfl (am_dec tX12_thinHere_0 8 rfl) lkX12_231 (md_obj hl) rfl rfl (Nat.le_of_ble_eq_true rfl) (by omega) (mk_number (d := d - 1) hl 0 9  hR4 (by omega)) (fun _ => ?_)
    obtain ⟨u12, hu12⟩ : ∃ x9, x9 = k_number ((u4).2) 0 9 := ⟨_, rfl⟩
    rw [← hu12]
    have hR12 : RdV (u12).2 := by rw [hu12]; exact (k_number_x hR4).1
    have hR9 := hR12
    obtain ⟨ra12, rb12, rc12⟩ := hR9
    have hx12 : Ly c (u12).2 := Ly_t hx4 (Ly_x (by rw [hu12]; exact (k_number_x hR4).2.1))
    have hz12 : (u12).2 0 2 = c 0 2 := hx12.2 2 (by decide) (by decide) (by decide)
    have ht12_0 : (u12).2 3 0 = c 3 0 := congrFun hx12.1 0
    have ht12_1 : (u12).2 3 1 = c 3 1 := congrFun hx12.1 1
    have hv12 : ((u12).2 0 5 = 0 ∧ 0 ≤ (u12).1 ∧ (u12).1 ≤ 9) ∨ ((u12).2 0 5 ≠ 0 ∧ (u12).1 = 0) := by rw [hu12]; have q9 := (k_number_x (lo := 0) (hi := 9) hR4).2.2; exact q9
    have hf12 : (u12).2 0 5 = 0 → (u4).2 0 5 = 0 := by rw [hu12]; exact fun h9 => (k_number_5 h9)
    refine T_istore_n (ls' := [some (aR b), some (aI ((u4).1)), some (aI ((u12).1)), none]) (am_dec tX12_thinHere_0 9 rfl) (by decide) rfl ?_
    refine T_iconst 0 (am_dec tX12_thinHere_0 10 rfl) rfl ⟨by decide, by decide⟩ ?_
    refine T_istore_n (ls' := [some (aR b), some (aI ((u4).1)), some (aI ((u12).1)), some (aI 0)]) (am_dec tX12_thinHere_0 11 rfl) (by decide) rfl ?_
    have hq34 : (u12).2 3 9 = c 3 9 := congrFun hx12.1 9
    have hw34 : (u12).2 0 57 = c 0 57 := hx12.2 57 (by decide) (by decide) (by decide)
    refine T_aload_n (am_dec tX12_thinHere_0 12 rfl) rfl ?_
    refine T_getfield 11 5 (am_dec tX12_thinHere_0 13 rfl) flX12_176_11 (md_obj hl) rfl ?_
    refine T_if_eq 26 (am_dec tX12_thinHere_0 14 rfl) rfl (fun h22 => ?_) (fun h22 => ?_)
    · refine T_aload_n (am_dec tX12_thinHere_0 16 rfl) rfl ?_
      refine T_dup (am_dec tX12_thinHere_0 17 rfl) rfl ?_
      refine T_getfield 11 57 (am_dec tX12_thinHere_0 18 rfl) flX12_228_11 (md_obj hl) rfl ?_
      refine T_iconst 1 (am_dec tX12_thinHere_0 19 rfl) rfl ⟨by decide, by decide⟩ ?_
      refine T_iadd (((u12).2 0 57) + 1) (am_dec tX12_thinHere_0 20 rfl) rfl ⟨by omega, by omega⟩ ?_
      refine T_putfield (fs' := mdO b (am_up ((u12).2 0) 57 (((u12).2 0 57) + 1)) (q 0)) 11 57 (am_dec tX12_thinHere_0 21 rfl) flX12_228_11 rfl rfl rfl trivial (md_obj hl) (Nat.le_of_ble_eq_true rfl) rfl ?_
      refine am_wE (w2 := mdW w b (am_put (u12).2 0 57 (((u12).2 0 57) + 1)) q) (md_fc) ?_
      refine L_k_thinHere_36 hl (am_put (u12).2 0 57 (((u12).2 0 57) + 1)) q ((u4).1) ((u12).1)  (show 0 ≤ (u12).2 3 9 ∧ (u12).2 3 9 ≤ 11 by omega) (by omega) 13 0 (show (u12).2 3 9 - 0 < 13 by omega) (show 0 ≤ 0 ∧ 0 ≤ (u12).2 3 9 by omega) (fun tq_36 htq_36 hv36 => ?_)
      have hv59 : 0 ≤ tq_36 ∧ tq_36 ≤ (u12).2 3 9 := hv36
      refine T_aload_n (am_dec tX12_thinHere_0 38 rfl) rfl ?_
      refine T_getfield 11 16 (am_dec tX12_thinHere_0 39 rfl) flX12_40_11 (md_obj hl) rfl ?_
      refine T_iload_n (am_dec tX12_thinHere_1 0 rfl) rfl ?_
      refine T_aaloadR (r := b + (34 + tq_36.toNat)) (am_dec tX12_thinHere_1 1 rfl) (by decide) (mh_readThin hl) (by omega) (by omega) (if_pos (by omega)) ?_
      refine T_iconst 0 (am_dec tX12_thinHere_1 2 rfl) rfl ⟨by decide, by decide⟩ ?_
      refine T_iload_n (am_dec tX12_thinHere_1 3 rfl) rfl ?_
      refine T_iastore (am_dec tX12_thinHere_1 4 rfl) (mr_readThin hl (i := tq_36) (by omega) (by omega)) (by omega) (by omega) ?_
      refine am_wE (w2 := mdW w b (am_put (am_put (u12).2 0 57 (((u12).2 0 57) + 1)) (34 + tq_36.toNat) 0 ((u4).1)) q) (md_pc (by omega) (fun f g => md_t_readThin f g (by omega))) ?_
      refine T_aload_n (am_dec tX12_thinHere_1 5 rfl) rfl ?_
      refine T_getfield 11 16 (am_dec tX12_thinHere_1 6 rfl) flX12_40_11 (md_obj hl) rfl ?_
      refine T_iload_n (am_dec tX12_thinHere_1 7 rfl) rfl ?_
      refine T_aaloadR (r := b + (34 + tq_36.toNat)) (am_dec tX12_thinHere_1 8 rfl) (by decide) (mh_readThin hl) (by omega) (by omega) (if_pos (by omega)) ?_
      refine T_iconst 1 (am_dec tX12_thinHere_1 9 rfl) rfl ⟨by decide, by decide⟩ ?_
      refine T_iload_n (am_dec tX12_thinHere_1 10 rfl) rfl ?_
      refine T_iastore (am_dec tX12_thinHere_1 11 rfl) (mr_readThin hl (i := tq_36) (by omega) (by omega)) (by omega) (by omega) ?_
      refine am_wE (w2 := mdW w b (am_put (am_put (am_put (u12).2 0 57 (((u12).2 0 57) + 1)) (34 + tq_36.toNat) 0 ((u4).1)) (34 + tq_36.toNat) 1 ((u12).1)) q) (md_pc (by omega) (fun f g => md_t_readThin f g (by omega))) ?_
      refine T_aload_n (am_dec tX12_thinHere_1 12 rfl) rfl ?_
      refine T_getfield 11 10 (am_dec tX12_thinHere_1 13 rfl) flX12_20_11 (md_obj hl) rfl ?_
      refine T_bipush 9 (am_dec tX12_thinHere_1 14 rfl) rfl ⟨by decide, by decide⟩ ?_
      refine T_dup2 (am_dec tX12_thinHere_1 15 rfl) rfl rfl ?_
      refine T_ialoadE (x := (u12).2 3 9) (am_dec tX12_thinHere_1 16 rfl) (md_readTold hl) (by omega) (by omega) ((am_put_k (by omega)).trans ((am_put_k (by omega)).trans (am_put_k (by decide)))) ?_
      refine T_iload_n (am_dec tX12_thinHere_1 17 rfl) rfl ?_
      refine T_aload_n (am_dec tX12_thinHere_1 18 rfl) rfl ?_
      refine T_getfield 11 10 (am_dec tX12_thinHere_1 19 rfl) flX12_20_11 (md_obj hl) rfl ?_
      refine T_bipush 9 (am_dec tX12_thinHere_1 20 rfl) rfl ⟨by decide, by decide⟩ ?_
      refine T_ialoadE (x := (u12).2 3 9) (am_dec tX12_thinHere_1 21 rfl) (md_readTold hl) (by omega) (by omega) ((am_put_k (by omega)).trans ((am_put_k (by omega)).trans (am_put_k (by decide)))) ?_
      have K99 : ∀ (t99 : Int), t99 = (if tq_36 = (u12).2 3 9 then 1 else 0) →  am_T S zX12_thinHere d u Q 107 [none, none, none, none] [aI t99, aI ((u12).2 3 9), aI 9, aR (b + 3)] (mdW w b (am_put (am_put (am_put (u12).2 0 57 (((u12).2 0 57) + 1)) (34 + tq_36.toNat) 0 ((u4).1)) (34 + tq_36.toNat) 1 ((u12).1)) q) := by
        intro t99 ht99 
        have hbt99 : t99 = 0 ∨ t99 = 1 := by
          rw [ht99]
          try dsimp only
          repeat' split
          all_goals first | exact Or.inl rfl | exact Or.inr rfl | apply k_in_b | apply k_isDigit_b | apply k_isSmall_b | apply k_bad_b | apply k_isIn_b | apply k_isStep_b | apply k_isFirst_b | apply k_isLine_b | apply k_seesBy_b | apply k_isWalker_b | apply k_seesOne_b | apply k_badTwo_b | apply k_sees_b | apply k_isCode_b | apply k_isLot_b | apply k_isShip_b | apply k_areRight_b | apply k_right_b | apply k_areSeeds_b | apply k_badBid_b | apply k_isWord_b | apply k_takes_b | apply k_takesSign_b | apply k_isFull_b | omega
        refine T_iadd (((u12).2 3 9) + t99) (am_dec tX12_thinHere_1 26 rfl) rfl ⟨by omega, by omega⟩ ?_
        refine T_iastore (am_dec tX12_thinHere_1 27 rfl) (md_readTold hl) (by omega) (by omega) ?_
        refine am_wE (w2 := mdW w b (am_put (am_put (am_put (am_put (u12).2 0 57 (((u12).2 0 57) + 1)) (34 + tq_36.toNat) 0 ((u4).1)) (34 + tq_36.toNat) 1 ((u12).1)) 3 9 (((u12).2 3 9) + t99)) q) (md_pc (Nat.le_of_ble_eq_true rfl) (fun _ _ => rfl)) ?_
        exact T_return (am_dec tX12_thinHere_1 28 rfl) rfl (am_tr (fun (x9 : am_F) => Q (.inl none) (mdW w b x9 q)) (y := (am_put (am_put (am_put (am_put (u12).2 0 57 (((u12).2 0 57) + 1)) (34 + tq_36.toNat) 0 ((u4).1)) (34 + tq_36.toNat) 1 ((u12).1)) 3 9 (((u12).2 3 9) + t99))) (show (k_thinHere c) = (am_put (am_put (am_put (am_put (u12).2 0 57 (((u12).2 0 57) + 1)) (34 + tq_36.toNat) 0 ((u4).1)) (34 + tq_36.toNat) 1 ((u12).1)) 3 9 (((u12).2 3 9) + t99)) from (by have s9 := hu4.symm; subst s9; have s9 := hu12.symm; subst s9; have s9 := htq_36.symm; subst s9; have s9 := ht99.symm; subst s9; exact (if_pos h22))) hQ)
      refine T_icmp_ne 106 (am_dec tX12_thinHere_1 22 rfl) rfl (fun h99 => ?_) (fun h99 => ?_)
      · refine T_iconst 0 (am_dec tX12_thinHere_1 25 rfl) rfl ⟨by decide, by decide⟩ ?_
        refine T_weak (ls' := [none, none, none, none]) (am_sub_n (am_sub_n (am_sub_n (am_sub_n am_sub_nil)))) ?_
        exact K99 _ (if_neg h99).symm 
      · refine T_iconst 1 (am_dec tX12_thinHere_1 23 rfl) rfl ⟨by decide, by decide⟩ ?_
        refine T_goto 107 (am_dec tX12_thinHere_1 24 rfl) rfl ?_
        refine T_weak (ls' := [none, none, none, none]) (am_sub_n (am_sub_n (am_sub_n (am_sub_n am_sub_nil)))) ?_
        exact K99 _ (if_pos h99).symm 
    · exact T_return (am_dec tX12_thinHere_0 15 rfl) rfl (am_tr (fun (x9 : am_F) => Q (.inl none) (mdW w b x9 q)) (y := (u12).2) (show (k_thinHere c) = (u12).2 from (by have s9 := hu4.symm; subst s9; have s9 := hu12.symm; subst s9; exact (if_neg h22))) hQ)
  exact key _ ⟨rfl, rfl⟩
def g_k_lotHere_61 (k : Int) (here : Int) (i : Int) (c : am_F) : am_F := (if c 0 5 = 0 then (if c (89 + i.toNat) 2 < c (89 + k.toNat) 0 then c else (if c (89 + k.toNat) 2 < c (89 + i.toNat) 0 then c else (if c (89 + i.toNat) 3 < c (89 + k.toNat) 1 then c else (if c (89 + k.toNat) 3 < c (89 + i.toNat) 1 then c else k_wrong c 2 here)))) else c)
theorem L_k_lotHere_61 {S : am_S} {d u : Nat} {Q : AO → AH → Prop} {w : AH} {b : Nat} (hl : b + 735 ≤ w.length) (q : am_F) (k : Int) (c0 : am_F) (here : Int)  (h33 : 0 ≤ c0 3 3 ∧ c0 3 3 ≤ 6) (hk : 0 ≤ k ∧ k < 6) (hd : 4 ≤ d) (B9 : Int) (hB : B9 = c0 3 3) : ∀ (n : Nat) (i : Int) (c : am_F), i + n = B9 → 0 ≤ i → RdV c ∧ Ly c0 c → (∀ (c' : am_F), c' = am_fold (g_k_lotHere_61 k here) i n c → RdV c' ∧ Ly c0 c' → am_T S zX12_lotHere d u Q 138 [some (aR b), some (aR (b + (89 + k.toNat))), none, none, none] [] (mdW w b c' q)) → am_T S zX12_lotHere d u Q 61 [some (aR b), some (aR (b + (89 + k.toNat))), some (aI here), some (aI i), none] [] (mdW w b c q) := by
  intro n
  induction n with
  | zero =>
    intro i c hi9 h0i hinv k9
    have e9 : i = B9 := by omega
    subst e9
    have hR := hinv.1
    have hL9 := hinv.2
    have hR9 := hR
    obtain ⟨r1, r2, r3⟩ := hR9
    have e33 : c 3 3 = c0 3 3 := congrFun hL9.1 3
    refine T_iload_n (am_dec tX12_lotHere_1 5 rfl) rfl ?_
    refine T_aload_n (am_dec tX12_lotHere_1 6 rfl) rfl ?_
    refine T_getfield 11 10 (am_dec tX12_lotHere_1 7 rfl) flX12_20_11 (md_obj hl) rfl ?_
    refine T_iconst 3 (am_dec tX12_lotHere_1 8 rfl) rfl ⟨by decide, by decide⟩ ?_
    refine T_ialoadE (x := c 3 3) (am_dec tX12_lotHere_1 9 rfl) (md_readTold hl) (by omega) (by omega) rfl ?_
    refine T_icmp_ge 138 (am_dec tX12_lotHere_1 10 rfl) rfl (fun h68 => ?_) (fun h68 => by exfalso; omega)
    refine T_weak (ls' := [some (aR b), some (aR (b + (89 + k.toNat))), none, none, none]) (am_sub_s (am_sub_s (am_sub_n (am_sub_n (am_sub_n am_sub_nil))))) ?_
    exact k9 c rfl hinv
  | succ n ih =>
    intro i c hi9 h0i hinv k9
    have hR := hinv.1
    have hL9 := hinv.2
    have hR9 := hR
    obtain ⟨r1, r2, r3⟩ := hR9
    have e33 : c 3 3 = c0 3 3 := congrFun hL9.1 3
    refine T_iload_n (am_dec tX12_lotHere_1 5 rfl) rfl ?_
    refine T_aload_n (am_dec tX12_lotHere_1 6 rfl) rfl ?_
    refine T_getfield 11 10 (am_dec tX12_lotHere_1 7 rfl) flX12_20_11 (md_obj hl) rfl ?_
    refine T_iconst 3 (am_dec tX12_lotHere_1 8 rfl) rfl ⟨by decide, by decide⟩ ?_
    refine T_ialoadE (x := c 3 3) (am_dec tX12_lotHere_1 9 rfl) (md_readTold hl) (by omega) (by omega) rfl ?_
    refine T_icmp_ge 138 (am_dec tX12_lotHere_1 10 rfl) rfl (fun h68 => by exfalso; omega) (fun h68 => ?_)
    refine T_aload_n (am_dec tX12_lotHere_1 11 rfl) rfl ?_
    refine T_getfield 11 22 (am_dec tX12_lotHere_1 12 rfl) flX12_58_11 (md_obj hl) rfl ?_
    refine T_iload_n (am_dec tX12_lotHere_1 13 rfl) rfl ?_
    refine T_aaloadR (r := b + (89 + i.toNat)) (am_dec tX12_lotHere_1 14 rfl) (by decide) (mh_readLot hl) (by omega) (by omega) (if_pos (by omega)) ?_
    refine T_astore (ls' := [some (aR b), some (aR (b + (89 + k.toNat))), some (aI here), some (aI i), some (aR (b + (89 + i.toNat)))]) (am_dec tX12_lotHere_1 15 rfl) (by decide) rfl ?_
    refine T_aload_n (am_dec tX12_lotHere_1 16 rfl) rfl ?_
    refine T_getfield 11 5 (am_dec tX12_lotHere_1 17 rfl) flX12_176_11 (md_obj hl) rfl ?_
    have K83 : ∀ (c83 : am_F), c83 = (if c 0 5 = 0 then (if c (89 + i.toNat) 2 < c (89 + k.toNat) 0 then c else (if c (89 + k.toNat) 2 < c (89 + i.toNat) 0 then c else (if c (89 + i.toNat) 3 < c (89 + k.toNat) 1 then c else (if c (89 + k.toNat) 3 < c (89 + i.toNat) 1 then c else k_wrong c 2 here)))) else c) → RdV c83 → Ly c c83 →  am_T S zX12_lotHere d u Q 132 [some (aR b), some (aR (b + (89 + k.toNat))), some (aI here), some (aI i), none] [] (mdW w b c83 q) := by
      intro c83 hc83 hR_c83 hx_c83
      have hR9 := hR_c83
      obtain ⟨ra_c83, rb_c83, rc_c83⟩ := hR9
      have hz_c83 : c83 0 2 = c 0 2 := hx_c83.2 2 (by decide) (by decide) (by decide)
      refine T_iinc (ls' := [some (aR b), some (aR (b + (89 + k.toNat))), some (aI here), some (aI (i + 1)), none]) (i + 1) (am_dec tX12_lotHere_2 11 rfl) rfl rfl ⟨by omega, by omega⟩ (by decide) rfl ?_
      refine T_goto 61 (am_dec tX12_lotHere_2 12 rfl) rfl ?_
      have e9 : (g_k_lotHere_61 k here) i c = c83 := (by have s9 := hc83.symm; subst s9; exact rfl)
      simp only [am_fold_s, e9] at k9
      exact ih (i + 1) c83 (by omega) (by omega) ⟨hR_c83, Ly_t hL9 hx_c83⟩ k9
    refine T_if_ne 132 (am_dec tX12_lotHere_1 18 rfl) rfl (fun h83 => ?_) (fun h83 => ?_)
    · refine T_weak (ls' := [some (aR b), some (aR (b + (89 + k.toNat))), some (aI here), some (aI i), none]) (am_sub_s (am_sub_s (am_sub_s (am_sub_s (am_sub_n am_sub_nil))))) ?_
      exact K83 _ (if_neg h83).symm hR Ly_r
    · refine T_aload_n (am_dec tX12_lotHere_1 19 rfl) rfl ?_
      refine T_iconst 0 (am_dec tX12_lotHere_1 20 rfl) rfl ⟨by decide, by decide⟩ ?_
      refine T_ialoadE (x := c (89 + k.toNat) 0) (am_dec tX12_lotHere_1 21 rfl) (mr_readLot hl (i := k) (by omega) (by omega)) (by omega) (by omega) rfl ?_
      refine T_aload (am_dec tX12_lotHere_1 22 rfl) rfl ?_
      refine T_iconst 2 (am_dec tX12_lotHere_1 23 rfl) rfl ⟨by decide, by decide⟩ ?_
      refine T_ialoadE (x := c (89 + i.toNat) 2) (am_dec tX12_lotHere_1 24 rfl) (mr_readLot hl (i := i) (by omega) (by omega)) (by omega) (by omega) rfl ?_
      have K93 : ∀ (c93 : am_F), c93 = (if c (89 + i.toNat) 2 < c (89 + k.toNat) 0 then c else (if c (89 + k.toNat) 2 < c (89 + i.toNat) 0 then c else (if c (89 + i.toNat) 3 < c (89 + k.toNat) 1 then c else (if c (89 + k.toNat) 3 < c (89 + i.toNat) 1 then c else k_wrong c 2 here)))) → RdV c93 → Ly c c93 →  am_T S zX12_lotHere d u Q 132 [some (aR b), some (aR (b + (89 + k.toNat))), some (aI here), some (aI i), none] [] (mdW w b c93 q) := by
        intro c93 hc93 hR_c93 hx_c93
        have hR9 := hR_c93
        obtain ⟨ra_c93, rb_c93, rc_c93⟩ := hR9
        have hz_c93 : c93 0 2 = c 0 2 := hx_c93.2 2 (by decide) (by decide) (by decide)
        exact K83 _ (by have s9 := hc93.symm; subst s9; exact (if_pos h83).symm) hR_c93 hx_c93
      refine T_icmp_gt 132 (am_dec tX12_lotHere_1 25 rfl) rfl (fun h93 => ?_) (fun h93 => ?_)
      · refine T_weak (ls' := [some (aR b), some (aR (b + (89 + k.toNat))), some (aI here), some (aI i), none]) (am_sub_s (am_sub_s (am_sub_s (am_sub_s (am_sub_n am_sub_nil))))) ?_
        exact K93 _ (if_pos h93).symm hR Ly_r
      · refine T_aload (am_dec tX12_lotHere_1 26 rfl) rfl ?_
        refine T_iconst 0 (am_dec tX12_lotHere_1 27 rfl) rfl ⟨by decide, by decide⟩ ?_
        refine T_ialoadE (x := c (89 + i.toNat) 0) (am_dec tX12_lotHere_1 28 rfl) (mr_readLot hl (i := i) (by omega) (by omega)) (by omega) (by omega) rfl ?_
        refine T_aload_n (am_dec tX12_lotHere_1 29 rfl) rfl ?_
        refine T_iconst 2 (am_dec tX12_lotHere_1 30 rfl) rfl ⟨by decide, by decide⟩ ?_
        refine T_ialoadE (x := c (89 + k.toNat) 2) (am_dec tX12_lotHere_1 31 rfl) (mr_readLot hl (i := k) (by omega) (by omega)) (by omega) (by omega) rfl ?_
        have K103 : ∀ (c103 : am_F), c103 = (if c (89 + k.toNat) 2 < c (89 + i.toNat) 0 then c else (if c (89 + i.toNat) 3 < c (89 + k.toNat) 1 then c else (if c (89 + k.toNat) 3 < c (89 + i.toNat) 1 then c else k_wrong c 2 here))) → RdV c103 → Ly c c103 →  am_T S zX12_lotHere d u Q 132 [some (aR b), some (aR (b + (89 + k.toNat))), some (aI here), some (aI i), none] [] (mdW w b c103 q) := by
          intro c103 hc103 hR_c103 hx_c103
          have hR9 := hR_c103
          obtain ⟨ra_c103, rb_c103, rc_c103⟩ := hR9
          have hz_c103 : c103 0 2 = c 0 2 := hx_c103.2 2 (by decide) (by decide) (by decide)
          exact K93 _ (by have s9 := hc103.symm; subst s9; exact (if_neg h93).symm) hR_c103 hx_c103
        refine T_icmp_gt 132 (am_dec tX12_lotHere_1 32 rfl) rfl (fun h103 => ?_) (fun h103 => ?_)
        · refine T_weak (ls' := [some (aR b), some (aR (b + (89 + k.toNat))), some (aI here), some (aI i), none]) (am_sub_s (am_sub_s (am_sub_s (am_sub_s (am_sub_n am_sub_nil))))) ?_
          exact K103 _ (if_pos h103).symm hR Ly_r
        · refine T_aload_n (am_dec tX12_lotHere_1 33 rfl) rfl ?_
          refine T_iconst 1 (am_dec tX12_lotHere_1 34 rfl) rfl ⟨by decide, by decide⟩ ?_
          refine T_ialoadE (x := c (89 + k.toNat) 1) (am_dec tX12_lotHere_1 35 rfl) (mr_readLot hl (i := k) (by omega) (by omega)) (by omega) (by omega) rfl ?_
          refine T_aload (am_dec tX12_lotHere_1 36 rfl) rfl ?_
          refine T_iconst 3 (am_dec tX12_lotHere_1 37 rfl) rfl ⟨by decide, by decide⟩ ?_
          refine T_ialoadE (x := c (89 + i.toNat) 3) (am_dec tX12_lotHere_1 38 rfl) (mr_readLot hl (i := i) (by omega) (by omega)) (by omega) (by omega) rfl ?_
          have K113 : ∀ (c113 : am_F), c113 = (if c (89 + i.toNat) 3 < c (89 + k.toNat) 1 then c else (if c (89 + k.toNat) 3 < c (89 + i.toNat) 1 then c else k_wrong c 2 here)) → RdV c113 → Ly c c113 →  am_T S zX12_lotHere d u Q 132 [some (aR b), some (aR (b + (89 + k.toNat))), some (aI here), some (aI i), none] [] (mdW w b c113 q) := by
            intro c113 hc113 hR_c113 hx_c113
            have hR9 := hR_c113
            obtain ⟨ra_c113, rb_c113, rc_c113⟩ := hR9
            have hz_c113 : c113 0 2 = c 0 2 := hx_c113.2 2 (by decide) (by decide) (by decide)
            exact K103 _ (by have s9 := hc113.symm; subst s9; exact (if_neg h103).symm) hR_c113 hx_c113
          refine T_icmp_gt 132 (am_dec tX12_lotHere_1 39 rfl) rfl (fun h113 => ?_) (fun h113 => ?_)
          · refine T_weak (ls' := [some (aR b), some (aR (b + (89 + k.toNat))), some (aI here), some (aI i), none]) (am_sub_s (am_sub_s (am_sub_s (am_sub_s (am_sub_n am_sub_nil))))) ?_
            exact K113 _ (if_pos h113).symm hR Ly_r
          · refine T_aload (am_dec tX12_lotHere_2 0 rfl) rfl ?_
            refine T_iconst 1 (am_dec tX12_lotHere_2 1 rfl) rfl ⟨by decide, by decide⟩ ?_
            refine T_ialoadE (x := c (89 + i.toNat) 1) (am_dec tX12_lotHere_2 2 rfl) (mr_readLot hl (i := i) (by omega) (by omega)) (by omega) (by omega) rfl ?_
            refine T_aload_n (am_dec tX12_lotHere_2 3 rfl) rfl ?_
            refine T_iconst 3 (am_dec tX12_lotHere_2 4 rfl) rfl ⟨by decide, by decide⟩ ?_
            refine T_ialoadE (x := c (89 + k.toNat) 3) (am_dec tX12_lotHere_2 5 rfl) (mr_readLot hl (i := k) (by omega) (by omega)) (by omega) (by omega) rfl ?_
            have K123 : ∀ (c123 : am_F), c123 = (if c (89 + k.toNat) 3 < c (89 + i.toNat) 1 then c else k_wrong c 2 here) → RdV c123 → Ly c c123 →  am_T S zX12_lotHere d u Q 132 [some (aR b), some (aR (b + (89 + k.toNat))), some (aI here), some (aI i), none] [] (mdW w b c123 q) := by
              intro c123 hc123 hR_c123 hx_c123
              have hR9 := hR_c123
              obtain ⟨ra_c123, rb_c123, rc_c123⟩ := hR9
              have hz_c123 : c123 0 2 = c 0 2 := hx_c123.2 2 (by decide) (by decide) (by decide)
              exact K113 _ (by have s9 := hc123.symm; subst s9; exact (if_neg h113).symm) hR_c123 hx_c123
            refine T_icmp_gt 132 (am_dec tX12_lotHere_2 6 rfl) rfl (fun h123 => ?_) (fun h123 => ?_)
            · refine T_weak (ls' := [some (aR b), some (aR (b + (89 + k.toNat))), some (aI here), some (aI i), none]) (am_sub_s (am_sub_s (am_sub_s (am_sub_s (am_sub_n am_sub_nil))))) ?_
              exact K123 _ (if_pos h123).symm hR Ly_r
            · refine T_aload_n (am_dec tX12_lotHere_2 7 rfl) rfl ?_
              refine T_iconst 2 (am_dec tX12_lotHere_2 8 rfl) rfl ⟨by decide, by decide⟩ ?_
              refine T_iload_n (am_dec tX12_lotHere_2 9 rfl) rfl ?_
              refine T_callV (as := [aI 2, aI here]) rfl (am_dec tX12_lotHere_2 10 rfl) lkX12_189 (md_obj hl) rfl rfl (Nat.le_of_ble_eq_true rfl) (by omega) (mk_wrong (d := d - 1) hl 2 here   ) (fun _ => ?_)
              refine T_nmH (W := fun x9 => mdW w b x9 q) (v := k_wrong c 2 here) (fun c129 hc129 => ?_)
              have hR129 : RdV c129 := by rw [hc129]; exact (k_wrong_x hR).1
              have hR9 := hR129
              obtain ⟨ra129, rb129, rc129⟩ := hR9
              have hx129 : Ly c c129 := Ly_t Ly_r (Ly_x (by rw [hc129]; exact (k_wrong_x hR).2))
              have hz129 : c129 0 2 = c 0 2 := hx129.2 2 (by decide) (by decide) (by decide)
              have ht129_0 : c129 3 0 = c 3 0 := congrFun hx129.1 0
              have ht129_1 : c129 3 1 = c 3 1 := congrFun hx129.1 1
              refine T_weak (ls' := [some (aR b), some (aR (b + (89 + k.toNat))), some (aI here), some (aI i), none]) (am_sub_s (am_sub_s (am_sub_s (am_sub_s (am_sub_n am_sub_nil))))) ?_
              exact K123 _ (by have s9 := hc129.symm; subst s9; exact (if_neg h123).symm) hR129 hx129
def k_lotHere (c : am_F) (k : Int) : am_F := (let u3 : Int × am_F := k_acrossHere c; (let u10 : Int × am_F := k_downHere (am_put (u3).2 (89 + k.toNat) 0 ((u3).1)); (let u28 : Int × am_F := k_number (am_put (u10).2 (89 + k.toNat) 1 ((u10).1)) ((u10).2 (89 + k.toNat) 0) (((u10).2 3 0) - 1); (let c33 : am_F := k_blanks (am_put (u28).2 (89 + k.toNat) 2 ((u28).1)); (let u55 : Int × am_F := k_number c33 (c33 (89 + k.toNat) 1) ((c33 3 1) - 1); (let c61 : am_F := am_fold (g_k_lotHere_61 k (c33 0 4)) 0 ((am_put (u55).2 (89 + k.toNat) 3 ((u55).1)) 3 3).toNat (am_put (u55).2 (89 + k.toNat) 3 ((u55).1)); (let u144 : Int × am_F := k_number c61 0 9; (let u154 : Int × am_F := k_number (am_put (u144).2 (89 + k.toNat) 4 ((u144).1)) 0 9; (am_put (u154).2 (89 + k.toNat) 5 ((u154).1))))))))))
theorem mk_lotHere {S : am_S} {d u : Nat} {w : AH} {b : Nat} (hl : b + 735 ≤ w.length) {c : am_F} {q : am_F} (k : Int) (hR : RdV c) (hRW : RW c) (hk : 0 ≤ k ∧ k < 6) (hd : 4 ≤ d) : am_Out S zX12_lotHere d u [aR b, aR (b + (89 + k.toNat))] (mdW w b c q) (.inl none) (mdW w b (k_lotHere c k) q) := by
  have key : ∀ Q : AO → AH → Prop, Q (.inl none) (mdW w b (k_lotHere c k) q) → am_M S zX12_lotHere d u [aR b, aR (b + (89 + k.toNat))] (mdW w b c q) Q := by
    intro Q hQ
    refine am_body rfl (by decide +kernel) rfl (am_cats_cons rfl ( am_cats_cons rfl (am_cats_nil))) (Nat.le_of_ble_eq_true rfl) (?_ : am_T _ _ _ _ _ 0 [some (aR b), some (aR (b + (89 + k.toNat))), none, none, none] [] (mdW w b c q))
    have hR9 := hR
    obtain ⟨r1, r2, r3⟩ := hR9
    have w9 := hRW
    obtain ⟨w0, w1, w2, w3, w4, w5, w6, w8, w7, w10, w11⟩ := w9
    refine T_aload_n (am_dec tX12_lotHere_0 0 rfl) rfl ?_
    refine T_iconst 0 (am_dec tX12_lotHere_0 1 rfl) rfl ⟨by decide, by decide⟩ ?_
    refine T_aload_n (am_dec tX12_lotHere_0 2 rfl) rfl ?_
    refine T_callV (as := []) rfl (am_dec tX12_lotHere_0 3 rfl) lkX12_242 (md_obj hl) rfl rfl (Nat.le_of_ble_eq_true rfl) (by omega) (mk_acrossHere (d := d - 1) hl   hR (RW_y Ly_r hRW).1 (by omega)) (fun _ => ?_)
    obtain ⟨u3, hu3⟩ : ∃ x9, x9 = k_acrossHere c := ⟨_, rfl⟩
    rw [← hu3]
    have hR3 : RdV (u3).2 := by rw [hu3]; exact (k_across_x hR).1
    have hR9 := hR3
    obtain ⟨ra3, rb3, rc3⟩ := hR9
    have hx3 : Ly c (u3).2 := Ly_t Ly_r (Ly_x (by rw [hu3]; exact (k_across_x hR).2.1))
    have hz3 : (u3).2 0 2 = c 0 2 := hx3.2 2 (by decide) (by decide) (by decide)
    have ht3_0 : (u3).2 3 0 = c 3 0 := congrFun hx3.1 0
    have ht3_1 : (u3).2 3 1 = c 3 1 := congrFun hx3.1 1
    have hv3 : ((u3).2 0 5 = 0 ∧ 0 ≤ (u3).1 ∧ (u3).1 ≤ (c 3 0 - 1)) ∨ ((u3).2 0 5 ≠ 0 ∧ (u3).1 = 0) := by rw [hu3]; have q9 := (k_across_x hR).2.2; exact q9
    have hf3 : (u3).2 0 5 = 0 → c 0 5 = 0 := by rw [hu3]; exact fun h9 => (k_across_5 h9)
    refine T_iastore (am_dec tX12_lotHere_0 4 rfl) (mr_readLot hl (i := k) (by omega) (by omega)) (by omega) (by omega) ?_
    refine am_wE (w2 := mdW w b (am_put (u3).2 (89 + k.toNat) 0 ((u3).1)) q) (md_pc (by omega) (fun f g => md_t_readLot f g (by omega))) ?_
    refine T_aload_n (am_dec tX12_lotHere_0 5 rfl) rfl ?_
    refine T_iconst 1 (am_dec tX12_lotHere_0 6 rfl) rfl ⟨by decide, by decide⟩ ?_
    refine T_aload_n (am_dec tX12_lotHere_0 7 rfl) rfl ?_
    refine T_callV (as := []) rfl (am_dec tX12_lotHere_0 8 rfl) lkX12_245 (md_obj hl) rfl rfl (Nat.le_of_ble_eq_true rfl) (by omega) (mk_downHere (d := d - 1) hl   (RdV_k (k := (89 + k.toNat)) (i := 0) (v := ((u3).1)) (by omega) (by omega) hR3) (RW_y (Ly_t hx3 (Ly_k (k := (89 + k.toNat)) (i := 0) (v := ((u3).1)) (by omega) (by omega))) hRW).2.1 (by omega)) (fun _ => ?_)
    obtain ⟨u10, hu10⟩ : ∃ x9, x9 = k_downHere (am_put (u3).2 (89 + k.toNat) 0 ((u3).1)) := ⟨_, rfl⟩
    rw [← hu10]
    have hR10 : RdV (u10).2 := by rw [hu10]; exact (k_down_x (RdV_k (k := (89 + k.toNat)) (i := 0) (v := ((u3).1)) (by omega) (by omega) hR3)).1
    have hR9 := hR10
    obtain ⟨ra10, rb10, rc10⟩ := hR9
    have hx10 : Ly c (u10).2 := Ly_t (Ly_t hx3 (Ly_k (k := (89 + k.toNat)) (i := 0) (v := ((u3).1)) (by omega) (by omega))) (Ly_x (by rw [hu10]; exact (k_down_x (RdV_k (k := (89 + k.toNat)) (i := 0) (v := ((u3).1)) (by omega) (by omega) hR3)).2.1))
    have hz10 : (u10).2 0 2 = c 0 2 := hx10.2 2 (by decide) (by decide) (by decide)
    have ht10_0 : (u10).2 3 0 = c 3 0 := congrFun hx10.1 0
    have ht10_1 : (u10).2 3 1 = c 3 1 := congrFun hx10.1 1
    have hv10 : ((u10).2 0 5 = 0 ∧ 0 ≤ (u10).1 ∧ (u10).1 ≤ ((u3).2 3 1 - 1)) ∨ ((u10).2 0 5 ≠ 0 ∧ (u10).1 = 0) := by rw [hu10]; have q9 := (k_down_x (RdV_k (k := (89 + k.toNat)) (i := 0) (v := ((u3).1)) (by omega) (by omega) hR3)).2.2; rw [show (am_put (u3).2 (89 + k.toNat) 0 ((u3).1)) 3 1 = (u3).2 3 1 from (am_put_k (by omega))] at q9; exact q9
    have hf10 : (u10).2 0 5 = 0 → (u3).2 0 5 = 0 := by rw [hu10]; exact fun h9 => (show (am_put (u3).2 (89 + k.toNat) 0 ((u3).1)) 0 5 = (u3).2 0 5 from (am_put_k (by omega))).symm.trans (k_down_5 h9)
    refine T_iastore (am_dec tX12_lotHere_0 9 rfl) (mr_readLot hl (i := k) (by omega) (by omega)) (by omega) (by omega) ?_
    refine am_wE (w2 := mdW w b (am_put (u10).2 (89 + k.toNat) 1 ((u10).1)) q) (md_pc (by omega) (fun f g => md_t_readLot f g (by omega))) ?_
    refine T_aload_n (am_dec tX12_lotHere_0 10 rfl) rfl ?_
    refine T_iconst 2 (am_dec tX12_lotHere_0 11 rfl) rfl ⟨by decide, by decide⟩ ?_
    refine T_aload_n (am_dec tX12_lotHere_0 12 rfl) rfl ?_
    refine T_aload_n (am_dec tX12_lotHere_0 13 rfl) rfl ?_
    refine T_iconst 0 (am_dec tX12_lotHere_0 14 rfl) rfl ⟨by decide, by decide⟩ ?_
    refine T_ialoadE (x := (u10).2 (89 + k.toNat) 0) (am_dec tX12_lotHere_0 15 rfl) (mr_readLot hl (i := k) (by omega) (by omega)) (by omega) (by omega) (am_put_i (by decide)) ?_
    refine T_aload_n (am_dec tX12_lotHere_0 16 rfl) rfl ?_
    refine T_getfield 11 10 (am_dec tX12_lotHere_0 17 rfl) flX12_20_11 (md_obj hl) rfl ?_
    refine T_iconst 0 (am_dec tX12_lotHere_0 18 rfl) rfl ⟨by decide, by decide⟩ ?_
    refine T_ialoadE (x := (u10).2 3 0) (am_dec tX12_lotHere_0 19 rfl) (md_readTold hl) (by omega) (by omega) (am_put_k (by omega)) ?_
    refine T_iconst 1 (am_dec tX12_lotHere_0 20 rfl) rfl ⟨by decide, by decide⟩ ?_
    refine T_isub (((u10).2 3 0) - 1) (am_dec tX12_lotHere_0 21 rfl) rfl ⟨by omega, by omega⟩ ?_
    refine T_callV (as := [aI ((u10).2 (89 + k.toNat) 0), aI (((u10).2 3 0) - 1)]) rfl (am_dec tX12_lotHere_0 22 rfl) lkX12_231 (md_obj hl) rfl rfl (Nat.le_of_ble_eq_true rfl) (by omega) (mk_number (d := d - 1) hl ((u10).2 (89 + k.toNat) 0) (((u10).2 3 0) - 1)  (RdV_k (k := (89 + k.toNat)) (i := 1) (v := ((u10).1)) (by omega) (by omega) hR10) (by omega)) (fun _ => ?_)
    obtain ⟨u28, hu28⟩ : ∃ x9, x9 = k_number (am_put (u10).2 (89 + k.toNat) 1 ((u10).1)) ((u10).2 (89 + k.toNat) 0) (((u10).2 3 0) - 1) := ⟨_, rfl⟩
    rw [← hu28]
    have hR28 : RdV (u28).2 := by rw [hu28]; exact (k_number_x (RdV_k (k := (89 + k.toNat)) (i := 1) (v := ((u10).1)) (by omega) (by omega) hR10)).1
    have hR9 := hR28
    obtain ⟨ra28, rb28, rc28⟩ := hR9
    have hx28 : Ly c (u28).2 := Ly_t (Ly_t hx10 (Ly_k (k := (89 + k.toNat)) (i := 1) (v := ((u10).1)) (by omega) (by omega))) (Ly_x (by rw [hu28]; exact (k_number_x (RdV_k (k := (89 + k.toNat)) (i := 1) (v := ((u10).1)) (by omega) (by omega) hR10)).2.1))
    have hz28 : (u28).2 0 2 = c 0 2 := hx28.2 2 (by decide) (by decide) (by decide)
    have ht28_0 : (u28).2 3 0 = c 3 0 := congrFun hx28.1 0
    have ht28_1 : (u28).2 3 1 = c 3 1 := congrFun hx28.1 1
    have hv28 : ((u28).2 0 5 = 0 ∧ ((u10).2 (89 + k.toNat) 0) ≤ (u28).1 ∧ (u28).1 ≤ (((u10).2 3 0) - 1)) ∨ ((u28).2 0 5 ≠ 0 ∧ (u28).1 = 0) := by rw [hu28]; have q9 := (k_number_x (lo := ((u10).2 (89 + k.toNat) 0)) (hi := (((u10).2 3 0) - 1)) (RdV_k (k := (89 + k.toNat)) (i := 1) (v := ((u10).1)) (by omega) (by omega) hR10)).2.2; exact q9
    have hf28 : (u28).2 0 5 = 0 → (u10).2 0 5 = 0 := by rw [hu28]; exact fun h9 => (show (am_put (u10).2 (89 + k.toNat) 1 ((u10).1)) 0 5 = (u10).2 0 5 from (am_put_k (by omega))).symm.trans (k_number_5 h9)
    refine T_iastore (am_dec tX12_lotHere_0 23 rfl) (mr_readLot hl (i := k) (by omega) (by omega)) (by omega) (by omega) ?_
    refine am_wE (w2 := mdW w b (am_put (u28).2 (89 + k.toNat) 2 ((u28).1)) q) (md_pc (by omega) (fun f g => md_t_readLot f g (by omega))) ?_
    refine T_aload_n (am_dec tX12_lotHere_0 24 rfl) rfl ?_
    refine T_callV (as := []) rfl (am_dec tX12_lotHere_0 25 rfl) lkX12_182 (md_obj hl) rfl rfl (Nat.le_of_ble_eq_true rfl) (by omega) (mk_blanks (d := d - 1) hl   (RdV_k (k := (89 + k.toNat)) (i := 2) (v := ((u28).1)) (by omega) (by omega) hR28) (by omega)) (fun _ => ?_)
    refine T_nmH (W := fun x9 => mdW w b x9 q) (v := k_blanks (am_put (u28).2 (89 + k.toNat) 2 ((u28).1))) (fun c33 hc33 => ?_)
    have hR33 : RdV c33 := by rw [hc33]; exact (k_blanks_x (RdV_k (k := (89 + k.toNat)) (i := 2) (v := ((u28).1)) (by omega) (by omega) hR28)).1
    have hR9 := hR33
    obtain ⟨ra33, rb33, rc33⟩ := hR9
    have hx33 : Ly c c33 := Ly_t (Ly_t hx28 (Ly_k (k := (89 + k.toNat)) (i := 2) (v := ((u28).1)) (by omega) (by omega))) (Ly_x (by rw [hc33]; exact (k_blanks_x (RdV_k (k := (89 + k.toNat)) (i := 2) (v := ((u28).1)) (by omega) (by omega) hR28)).2))
    have hz33 : c33 0 2 = c 0 2 := hx33.2 2 (by decide) (by decide) (by decide)
    have ht33_0 : c33 3 0 = c 3 0 := congrFun hx33.1 0
    have ht33_1 : c33 3 1 = c 3 1 := congrFun hx33.1 1
    have hf33 : c33 0 5 = (u28).2 0 5 := by rw [hc33]; exact k_blanks_5.trans (am_put_k (by omega))
    refine T_aload_n (am_dec tX12_lotHere_0 26 rfl) rfl ?_
    refine T_getfield 11 4 (am_dec tX12_lotHere_0 27 rfl) flX12_169_11 (md_obj hl) rfl ?_
    refine T_istore_n (ls' := [some (aR b), some (aR (b + (89 + k.toNat))), some (aI (c33 0 4)), none, none]) (am_dec tX12_lotHere_0 28 rfl) (by decide) rfl ?_
    refine T_aload_n (am_dec tX12_lotHere_0 29 rfl) rfl ?_
    refine T_iconst 3 (am_dec tX12_lotHere_0 30 rfl) rfl ⟨by decide, by decide⟩ ?_
    refine T_aload_n (am_dec tX12_lotHere_0 31 rfl) rfl ?_
    refine T_aload_n (am_dec tX12_lotHere_0 32 rfl) rfl ?_
    refine T_iconst 1 (am_dec tX12_lotHere_0 33 rfl) rfl ⟨by decide, by decide⟩ ?_
    refine T_ialoadE (x := c33 (89 + k.toNat) 1) (am_dec tX12_lotHere_0 34 rfl) (mr_readLot hl (i := k) (by omega) (by omega)) (by omega) (by omega) rfl ?_
    refine T_aload_n (am_dec tX12_lotHere_0 35 rfl) rfl ?_
    refine T_getfield 11 10 (am_dec tX12_lotHere_0 36 rfl) flX12_20_11 (md_obj hl) rfl ?_
    refine T_iconst 1 (am_dec tX12_lotHere_0 37 rfl) rfl ⟨by decide, by decide⟩ ?_
    refine T_ialoadE (x := c33 3 1) (am_dec tX12_lotHere_0 38 rfl) (md_readTold hl) (by omega) (by omega) rfl ?_
    refine T_iconst 1 (am_dec tX12_lotHere_0 39 rfl) rfl ⟨by decide, by decide⟩ ?_
    refine T_isub ((c33 3 1) - 1) (am_dec tX12_lotHere_1 0 rfl) rfl ⟨by omega, by omega⟩ ?_
    refine T_callV (as := [aI (c33 (89 + k.toNat) 1), aI ((c33 3 1) - 1)]) rfl (am_dec tX12_lotHere_1 1 rfl) lkX12_231 (md_obj hl) rfl rfl (Nat.le_of_ble_eq_true rfl) (by omega) (mk_number (d := d - 1) hl (c33 (89 + k.toNat) 1) ((c33 3 1) - 1)  hR33 (by omega)) (fun _ => ?_)
    obtain ⟨u55, hu55⟩ : ∃ x9, x9 = k_number c33 (c33 (89 + k.toNat) 1) ((c33 3 1) - 1) := ⟨_, rfl⟩
    rw [← hu55]
    have hR55 : RdV (u55).2 := by rw [hu55]; exact (k_number_x hR33).1
    have hR9 := hR55
    obtain ⟨ra55, rb55, rc55⟩ := hR9
    have hx55 : Ly c (u55).2 := Ly_t hx33 (Ly_x (by rw [hu55]; exact (k_number_x hR33).2.1))
    have hz55 : (u55).2 0 2 = c 0 2 := hx55.2 2 (by decide) (by decide) (by decide)
    have ht55_0 : (u55).2 3 0 = c 3 0 := congrFun hx55.1 0
    have ht55_1 : (u55).2 3 1 = c 3 1 := congrFun hx55.1 1
    have hv55 : ((u55).2 0 5 = 0 ∧ (c33 (89 + k.toNat) 1) ≤ (u55).1 ∧ (u55).1 ≤ ((c33 3 1) - 1)) ∨ ((u55).2 0 5 ≠ 0 ∧ (u55).1 = 0) := by rw [hu55]; have q9 := (k_number_x (lo := (c33 (89 + k.toNat) 1)) (hi := ((c33 3 1) - 1)) hR33).2.2; exact q9
    have hf55 : (u55).2 0 5 = 0 → c33 0 5 = 0 := by rw [hu55]; exact fun h9 => (k_number_5 h9)
    refine T_iastore (am_dec tX12_lotHere_1 2 rfl) (mr_readLot hl (i := k) (by omega) (by omega)) (by omega) (by omega) ?_
    refine am_wE (w2 := mdW w b (am_put (u55).2 (89 + k.toNat) 3 ((u55).1)) q) (md_pc (by omega) (fun f g => md_t_readLot f g (by omega))) ?_
    have hlp : Ly c (am_put (u55).2 (89 + k.toNat) 3 ((u55).1)) := (Ly_t hx55 (Ly_k (k := (89 + k.toNat)) (i := 3) (v := ((u55).1)) (by omega) (by omega)))
    have e33 : (am_put (u55).2 (89 + k.toNat) 3 ((u55).1)) 3 3 = c 3 3 := congrFun hlp.1 3
    refine T_iconst 0 (am_dec tX12_lotHere_1 3 rfl) rfl ⟨by decide, by decide⟩ ?_
    refine T_istore_n (ls' := [some (aR b), some (aR (b + (89 + k.toNat))), some (aI (c33 0 4)), some (aI 0), none]) (am_dec tX12_lotHere_1 4 rfl) (by decide) rfl ?_
    refine L_k_lotHere_61 hl q k (am_put (u55).2 (89 + k.toNat) 3 ((u55).1)) (c33 0 4)  (by omega) (by omega) (by omega) _ rfl ((am_put (u55).2 (89 + k.toNat) 3 ((u55).1)) 3 3).toNat 0 (am_put (u55).2 (89 + k.toNat) 3 ((u55).1)) (by omega) (by omega) ⟨(RdV_k (k := (89 + k.toNat)) (i := 3) (v := ((u55).1)) (by omega) (by omega) hR55), Ly_r⟩ (fun c61 hc61 hv61 => ?_)
    have hR9 := hv61.1
    obtain ⟨ra61, rb61, rc61⟩ := hR9
    refine T_aload_n (am_dec tX12_lotHere_2 13 rfl) rfl ?_
    refine T_iconst 4 (am_dec tX12_lotHere_2 14 rfl) rfl ⟨by decide, by decide⟩ ?_
    refine T_aload_n (am_dec tX12_lotHere_2 15 rfl) rfl ?_
    refine T_iconst 0 (am_dec tX12_lotHere_2 16 rfl) rfl ⟨by decide, by decide⟩ ?_
    refine T_bipush 9 (am_dec tX12_lotHere_2 17 rfl) rfl ⟨by decide, by decide⟩ ?_
    refine T_callV (as := [aI 0, aI 9]) rfl (am_dec tX12_lotHere_2 18 rfl) lkX12_231 (md_obj hl) rfl rfl (Nat.le_of_ble_eq_true rfl) (by omega) (mk_number (d := d - 1) hl 0 9  hv61.1 (by omega)) (fun _ => ?_)
    obtain ⟨u144, hu144⟩ : ∃ x9, x9 = k_number c61 0 9 := ⟨_, rfl⟩
    rw [← hu144]
    have hR144 : RdV (u144).2 := by rw [hu144]; exact (k_number_x hv61.1).1
    have hR9 := hR144
    obtain ⟨ra144, rb144, rc144⟩ := hR9
    have hx144 : Ly c (u144).2 := Ly_t (Ly_t hlp hv61.2) (Ly_x (by rw [hu144]; exact (k_number_x hv61.1).2.1))
    have hz144 : (u144).2 0 2 = c 0 2 := hx144.2 2 (by decide) (by decide) (by decide)
    have ht144_0 : (u144).2 3 0 = c 3 0 := congrFun hx144.1 0
    have ht144_1 : (u144).2 3 1 = c 3 1 := congrFun hx144.1 1
    have hv144 : ((u144).2 0 5 = 0 ∧ 0 ≤ (u144).1 ∧ (u144).1 ≤ 9) ∨ ((u144).2 0 5 ≠ 0 ∧ (u144).1 = 0) := by rw [hu144]; have q9 := (k_number_x (lo := 0) (hi := 9) hv61.1).2.2; exact q9
    have hf144 : (u144).2 0 5 = 0 → c61 0 5 = 0 := by rw [hu144]; exact fun h9 => (k_number_5 h9)
    refine T_iastore (am_dec tX12_lotHere_2 19 rfl) (mr_readLot hl (i := k) (by omega) (by omega)) (by omega) (by omega) ?_
    refine am_wE (w2 := mdW w b (am_put (u144).2 (89 + k.toNat) 4 ((u144).1)) q) (md_pc (by omega) (fun f g => md_t_readLot f g (by omega))) ?_
    refine T_aload_n (am_dec tX12_lotHere_2 20 rfl) rfl ?_
    refine T_iconst 5 (am_dec tX12_lotHere_2 21 rfl) rfl ⟨by decide, by decide⟩ ?_
    refine T_aload_n (am_dec tX12_lotHere_2 22 rfl) rfl ?_
    refine T_iconst 0 (am_dec tX12_lotHere_2 23 rfl) rfl ⟨by decide, by decide⟩ ?_
    refine T_bipush 9 (am_dec tX12_lotHere_2 24 rfl) rfl ⟨by decide, by decide⟩ ?_
    refine T_callV (as := [aI 0, aI 9]) rfl (am_dec tX12_lotHere_2 25 rfl) lkX12_231 (md_obj hl) rfl rfl (Nat.le_of_ble_eq_true rfl) (by omega) (mk_number (d := d - 1) hl 0 9  (RdV_k (k := (89 + k.toNat)) (i := 4) (v := ((u144).1)) (by omega) (by omega) hR144) (by omega)) (fun _ => ?_)
    obtain ⟨u154, hu154⟩ : ∃ x9, x9 = k_number (am_put (u144).2 (89 + k.toNat) 4 ((u144).1)) 0 9 := ⟨_, rfl⟩
    rw [← hu154]
    have hR154 : RdV (u154).2 := by rw [hu154]; exact (k_number_x (RdV_k (k := (89 + k.toNat)) (i := 4) (v := ((u144).1)) (by omega) (by omega) hR144)).1
    have hR9 := hR154
    obtain ⟨ra154, rb154, rc154⟩ := hR9
    have hx154 : Ly c (u154).2 := Ly_t (Ly_t hx144 (Ly_k (k := (89 + k.toNat)) (i := 4) (v := ((u144).1)) (by omega) (by omega))) (Ly_x (by rw [hu154]; exact (k_number_x (RdV_k (k := (89 + k.toNat)) (i := 4) (v := ((u144).1)) (by omega) (by omega) hR144)).2.1))
    have hz154 : (u154).2 0 2 = c 0 2 := hx154.2 2 (by decide) (by decide) (by decide)
    have ht154_0 : (u154).2 3 0 = c 3 0 := congrFun hx154.1 0
    have ht154_1 : (u154).2 3 1 = c 3 1 := congrFun hx154.1 1
    have hv154 : ((u154).2 0 5 = 0 ∧ 0 ≤ (u154).1 ∧ (u154).1 ≤ 9) ∨ ((u154).2 0 5 ≠ 0 ∧ (u154).1 = 0) := by rw [hu154]; have q9 := (k_number_x (lo := 0) (hi := 9) (RdV_k (k := (89 + k.toNat)) (i := 4) (v := ((u144).1)) (by omega) (by omega) hR144)).2.2; exact q9
    have hf154 : (u154).2 0 5 = 0 → (u144).2 0 5 = 0 := by rw [hu154]; exact fun h9 => (show (am_put (u144).2 (89 + k.toNat) 4 ((u144).1)) 0 5 = (u144).2 0 5 from (am_put_k (by omega))).symm.trans (k_number_5 h9)
    refine T_iastore (am_dec tX12_lotHere_2 26 rfl) (mr_readLot hl (i := k) (by omega) (by omega)) (by omega) (by omega) ?_
    refine am_wE (w2 := mdW w b (am_put (u154).2 (89 + k.toNat) 5 ((u154).1)) q) (md_pc (by omega) (fun f g => md_t_readLot f g (by omega))) ?_
    exact T_return (am_dec tX12_lotHere_2 27 rfl) rfl (am_tr (fun (x9 : am_F) => Q (.inl none) (mdW w b x9 q)) (y := (am_put (u154).2 (89 + k.toNat) 5 ((u154).1))) (show (k_lotHere c k) = (am_put (u154).2 (89 + k.toNat) 5 ((u154).1)) from (by have s9 := hu3.symm; subst s9; have s9 := hu10.symm; subst s9; have s9 := hu28.symm; subst s9; have s9 := hc33.symm; subst s9; have s9 := hu55.symm; subst s9; have s9 := hc61.symm; subst s9; have s9 := hu144.symm; subst s9; have s9 := hu154.symm; subst s9; exact rfl)) hQ)
  exact key _ ⟨rfl, rfl⟩
