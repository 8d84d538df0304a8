/-! the model: winds, thinning -/
theorem k_fogHere_x {c : am_F} (h : RdV c) : RdV (k_fogHere c) ∧ Ly c (k_fogHere c) := by
  unfold k_fogHere
  dsimp only
  have h1 := k_across_x h
  have h2 := k_down_x h1.1
  have h3 := k_number_x (lo := (k_acrossHere c).1) (hi := (k_downHere (k_acrossHere c).2).2 3 0 - 1) h2.1
  obtain ⟨u3, e3⟩ : ∃ u, u = k_number (k_downHere (k_acrossHere c).2).2 (k_acrossHere c).1 ((k_downHere (k_acrossHere c).2).2 3 0 - 1) := ⟨_, rfl⟩
  rw [← e3] at h3 ⊢
  have h4 := k_number_x (lo := (k_downHere (k_acrossHere c).2).1) (hi := u3.2 3 1 - 1) h3.1
  obtain ⟨u4, e4⟩ : ∃ u, u = k_number u3.2 (k_downHere (k_acrossHere c).2).1 (u3.2 3 1 - 1) := ⟨_, rfl⟩
  rw [← e4] at h4 ⊢
  have h5 := k_number_x (lo := 1) (hi := 99) h4.1
  obtain ⟨u5, e5⟩ : ∃ u, u = k_number u4.2 1 99 := ⟨_, rfl⟩
  rw [← e5] at h5 ⊢
  have hy : Ly c u5.2 := Ly_x (Lx_t h1.2.1 (Lx_t h2.2.1 (Lx_t h3.2.1 (Lx_t h4.2.1 h5.2.1))))
  have hin : ∀ (y more : Int) (n : Nat) (x : Int) (d : am_F), RdV d ∧ Ly c d → RdV (am_fold (g_k_fogHere_68 y more) x n d) ∧ Ly c (am_fold (g_k_fogHere_68 y more) x n d) := by
    intro y more n x d hd
    exact am_fold_inv (P := fun _ e => RdV e ∧ Ly c e) n x d hd (fun i e _ _ he => by
      unfold g_k_fogHere_68
      exact ⟨RdV_k (by decide) (by decide) he.1, Ly_t he.2 (Ly_k (by decide) (by decide))⟩)
  refine am_wh_inv (P := fun d : Int × am_F => RdV d.2 ∧ Ly c d.2) ?_ ?_ 10 _ ⟨h5.1, hy⟩
  · intro x y hp e
    revert e
    unfold w_k_fogHere_51
    dsimp only
    split
    · intro e; cases e
    · split
      · intro e; rw [← Sum.inl.inj e]; exact hin _ _ _ _ _ hp
      · intro e; cases e
  · intro x y hp e
    revert e
    unfold w_k_fogHere_51
    dsimp only
    split
    · intro e; rw [← Sum.inr.inj e]; exact hp
    · split
      · intro e; cases e
      · intro e; rw [← Sum.inr.inj e]; exact hp
def w_k_windHere_52 (c : am_F) (t : Int) (tq : Int) : (Int) ⊕ (Int) := (if c 3 8 ≤ tq then .inr tq else (if c (8 + tq.toNat) 0 = t then .inr tq else .inl (tq + 1)))
theorem L_k_windHere_52 {S : am_S} {d u : Nat} {Q : AO → AH → Prop} {w : AH} {b : Nat} (hl : b + 735 ≤ w.length) (c : am_F) (q : am_F) (t : Int) (wi : Int) (wj : Int) (wp : Int) (h38 : 0 ≤ c 3 8 ∧ c 3 8 ≤ 11) (hd : 3 ≤ d) : ∀ (n : Nat) (tq : Int), c 3 8 - tq < n → 0 ≤ tq ∧ tq ≤ c 3 8 → (∀ (tq' : Int), tq' = am_wh (w_k_windHere_52 c t) n tq → 0 ≤ tq' ∧ tq' ≤ c 3 8 → am_T S zX12_windHere d u Q 83 [some (aR b), some (aI t), some (aI wi), some (aI wj), some (aI wp), some (aI tq')] [] (mdW w b c q)) → am_T S zX12_windHere d u Q 52 [some (aR b), some (aI t), some (aI wi), some (aI wj), some (aI wp), some (aI tq)] [] (mdW w b c q) := by
  intro n
  induction n with
  | zero =>
    intro tq hm9 hinv k9
    exfalso; omega
  | succ n ih =>
    intro tq hm9 hinv k9
    refine T_iload (am_dec tX12_windHere_0 32 rfl) rfl ?_
    refine T_aload_n (am_dec tX12_windHere_0 33 rfl) rfl ?_
    refine T_getfield 11 10 (am_dec tX12_windHere_0 34 rfl) flX12_20_11 (md_obj hl) rfl ?_
    refine T_bipush 8 (am_dec tX12_windHere_0 35 rfl) rfl ⟨by decide, by decide⟩ ?_
    refine T_ialoadE (x := c 3 8) (am_dec tX12_windHere_0 36 rfl) (md_readTold hl) (by omega) (by omega) rfl ?_
    refine T_icmp_ge 83 (am_dec tX12_windHere_0 37 rfl) rfl (fun h61 => ?_) (fun h61 => ?_)
    · have e9 : (w_k_windHere_52 c t) tq = .inr tq := (if_pos h61)
      simp only [am_wh_r e9] at k9
      exact k9 _ rfl (by omega)
    · refine T_aload_n (am_dec tX12_windHere_0 38 rfl) rfl ?_
      refine T_getfield 11 14 (am_dec tX12_windHere_0 39 rfl) flX12_34_11 (md_obj hl) rfl ?_
      refine T_iload (am_dec tX12_windHere_1 0 rfl) rfl ?_
      refine T_aaloadR (r := b + (8 + tq.toNat)) (am_dec tX12_windHere_1 1 rfl) (by decide) (mh_readWind hl) (by omega) (by omega) (if_pos (by omega)) ?_
      refine T_iconst 0 (am_dec tX12_windHere_1 2 rfl) rfl ⟨by decide, by decide⟩ ?_
      refine T_ialoadE (x := c (8 + tq.toNat) 0) (am_dec tX12_windHere_1 3 rfl) (mr_readWind hl (i := tq) (by omega) (by omega)) (by omega) (by omega) rfl ?_
      refine T_iload_n (am_dec tX12_windHere_1 4 rfl) rfl ?_
      refine T_icmp_eq 83 (am_dec tX12_windHere_1 5 rfl) rfl (fun h74 => ?_) (fun h74 => ?_)
      · have e9 : (w_k_windHere_52 c t) tq = .inr tq := ((if_neg h61).trans (if_pos h74))
        simp only [am_wh_r e9] at k9
        exact k9 _ rfl (by omega)
      · refine T_iinc (ls' := [some (aR b), some (aI t), some (aI wi), some (aI wj), some (aI wp), some (aI (tq + 1))]) (tq + 1) (am_dec tX12_windHere_1 6 rfl) rfl rfl ⟨by omega, by omega⟩ (by decide) rfl ?_
        refine T_goto 52 (am_dec tX12_windHere_1 7 rfl) rfl ?_
        have e9 : (w_k_windHere_52 c t) tq = .inl (tq + 1) := ((if_neg h61).trans (if_neg h74))
        simp only [am_wh_l e9] at k9
        exact ih (tq + 1) (by omega) (by omega) k9
def k_windHere (c : am_F) : am_F := (let u4 : Int × am_F := k_number c 0 39; (let u11 : Int × am_F := k_number ((u4).2) 0 2; (let u18 : Int × am_F := k_number ((u11).2) 0 2; (let u26 : Int × am_F := k_number ((u18).2) 0 8; (if (u26).2 0 5 = 0 then (let tq_52 : Int := am_wh (w_k_windHere_52 (am_put (u26).2 0 56 (((u26).2 0 56) + 1)) ((u4).1)) 13 0; (let t141 : Int := (if tq_52 = (u26).2 3 8 then 1 else 0); (am_put (am_put (am_put (am_put (am_put (am_put (u26).2 0 56 (((u26).2 0 56) + 1)) (8 + tq_52.toNat) 0 ((u4).1)) (8 + tq_52.toNat) 1 ((u11).1)) (8 + tq_52.toNat) 2 ((u18).1)) (8 + tq_52.toNat) 3 ((u26).1)) 3 8 (((u26).2 3 8) + t141)))) else (u26).2)))))
theorem mk_windHere {S : am_S} {d u : Nat} {w : AH} {b : Nat} (hl : b + 735 ≤ w.length) {c : am_F} {q : am_F}  (hR : RdV c) (hRW : RW c) (hnf : c 0 56 ≤ 11) (hd : 3 ≤ d) : am_Out S zX12_windHere d u [aR b] (mdW w b c q) (.inl none) (mdW w b (k_windHere c) q) := by
  have key : ∀ Q : AO → AH → Prop, Q (.inl none) (mdW w b (k_windHere c) q) → am_M S zX12_windHere d u [aR b] (mdW w b c q) Q := by
    intro Q hQ
    refine am_body rfl (by decide +kernel) rfl (am_cats_cons rfl (am_cats_nil)) (Nat.le_of_ble_eq_true rfl) (?_ : am_T _ _ _ _ _ 0 [some (aR b), none, none, none, none, none] [] (mdW w b c q))
    have hR9 := hR
    obtain ⟨r1, r2, r3⟩ := hR9
    have w9 := hRW
    obtain ⟨w0, w1, w2, w3, w4, w5, w6, w8, w7, w10, w11⟩ := w9
    refine T_aload_n (am_dec tX12_windHere_0 0 rfl) rfl ?_
    refine T_iconst 0 (am_dec tX12_windHere_0 1 rfl) rfl ⟨by decide, by decide⟩ ?_
    refine T_bipush 39 (am_dec tX12_windHere_0 2 rfl) rfl ⟨by decide, by decide⟩ ?_
    refine T_callV (as := [aI 0, aI 39]) rfl (am_dec tX12_windHere_0 3 rfl) lkX12_231 (md_obj hl) rfl rfl (Nat.le_of_ble_eq_true rfl) (by omega) (mk_number (d := d - 1) hl 0 39  hR (by omega)) (fun _ => ?_)
    obtain ⟨u4, hu4⟩ : ∃ x9, x9 = k_number c 0 39 := ⟨_, rfl⟩
    rw [← hu4]
    have hR4 : RdV (u4).2 := by rw [hu4]; exact (k_number_x hR).1
    have hR9 := hR4
    obtain ⟨ra4, rb4, rc4⟩ := hR9
    have hx4 : Ly c (u4).2 := Ly_t Ly_r (Ly_x (by rw [hu4]; exact (k_number_x hR).2.1))
    have hz4 : (u4).2 0 2 = c 0 2 := hx4.2 2 (by decide) (by decide) (by decide)
    have ht4_0 : (u4).2 3 0 = c 3 0 := congrFun hx4.1 0
    have ht4_1 : (u4).2 3 1 = c 3 1 := congrFun hx4.1 1
    have hv4 : ((u4).2 0 5 = 0 ∧ 0 ≤ (u4).1 ∧ (u4).1 ≤ 39) ∨ ((u4).2 0 5 ≠ 0 ∧ (u4).1 = 0) := by rw [hu4]; have q9 := (k_number_x (lo := 0) (hi := 39) hR).2.2; exact q9
    have hf4 : (u4).2 0 5 = 0 → c 0 5 = 0 := by rw [hu4]; exact fun h9 => (k_number_5 h9)
    refine T_istore_n (ls' := [some (aR b), some (aI ((u4).1)), none, none, none, none]) (am_dec tX12_windHere_0 4 rfl) (by decide) rfl ?_
    refine T_aload_n (am_dec tX12_windHere_0 5 rfl) rfl ?_
    refine T_iconst 0 (am_dec tX12_windHere_0 6 rfl) rfl ⟨by decide, by decide⟩ ?_
    refine T_iconst 2 (am_dec tX12_windHere_0 7 rfl) rfl ⟨by decide, by decide⟩ ?_
    refine T_callV (as := [aI 0, aI 2]) rfl (am_dec tX12_windHere_0 8 rfl) lkX12_231 (md_obj hl) rfl rfl (Nat.le_of_ble_eq_true rfl) (by omega) (mk_number (d := d - 1) hl 0 2  hR4 (by omega)) (fun _ => ?_)
    obtain ⟨u11, hu11⟩ : ∃ x9, x9 = k_number ((u4).2) 0 2 := ⟨_, rfl⟩
    rw [← hu11]
    have hR11 : RdV (u11).2 := by rw [hu11]; exact (k_number_x hR4).1
    have hR9 := hR11
    obtain ⟨ra11, rb11, rc11⟩ := hR9
    have hx11 : Ly c (u11).2 := Ly_t hx4 (Ly_x (by rw [hu11]; exact (k_number_x hR4).2.1))
    have hz11 : (u11).2 0 2 = c 0 2 := hx11.2 2 (by decide) (by decide) (by decide)
    have ht11_0 : (u11).2 3 0 = c 3 0 := congrFun hx11.1 0
    have ht11_1 : (u11).2 3 1 = c 3 1 := congrFun hx11.1 1
    have hv11 : ((u11).2 0 5 = 0 ∧ 0 ≤ (u11).1 ∧ (u11).1 ≤ 2) ∨ ((u11).2 0 5 ≠ 0 ∧ (u11).1 = 0) := by rw [hu11]; have q9 := (k_number_x (lo := 0) (hi := 2) hR4).2.2; exact q9
    have hf11 : (u11).2 0 5 = 0 → (u4).2 0 5 = 0 := by rw [hu11]; exact fun h9 => (k_number_5 h9)
    refine T_istore_n (ls' := [some (aR b), some (aI ((u4).1)), some (aI ((u11).1)), none, none, none]) (am_dec tX12_windHere_0 9 rfl) (by decide) rfl ?_
    refine T_aload_n (am_dec tX12_windHere_0 10 rfl) rfl ?_
    refine T_iconst 0 (am_dec tX12_windHere_0 11 rfl) rfl ⟨by decide, by decide⟩ ?_
    refine T_iconst 2 (am_dec tX12_windHere_0 12 rfl) rfl ⟨by decide, by decide⟩ ?_
    refine T_callV (as := [aI 0, aI 2]) rfl (am_dec tX12_windHere_0 13 rfl) lkX12_231 (md_obj hl) rfl rfl (Nat.le_of_ble_eq_true rfl) (by omega) (mk_number (d := d - 1) hl 0 2  hR11 (by omega)) (fun _ => ?_)
    obtain ⟨u18, hu18⟩ : ∃ x9, x9 = k_number ((u11).2) 0 2 := ⟨_, rfl⟩
    rw [← hu18]
    have hR18 : RdV (u18).2 := by rw [hu18]; exact (k_number_x hR11).1
    have hR9 := hR18
    obtain ⟨ra18, rb18, rc18⟩ := hR9
    have hx18 : Ly c (u18).2 := Ly_t hx11 (Ly_x (by rw [hu18]; exact (k_number_x hR11).2.1))
    have hz18 : (u18).2 0 2 = c 0 2 := hx18.2 2 (by decide) (by decide) (by decide)
    have ht18_0 : (u18).2 3 0 = c 3 0 := congrFun hx18.1 0
    have ht18_1 : (u18).2 3 1 = c 3 1 := congrFun hx18.1 1
    have hv18 : ((u18).2 0 5 = 0 ∧ 0 ≤ (u18).1 ∧ (u18).1 ≤ 2) ∨ ((u18).2 0 5 ≠ 0 ∧ (u18).1 = 0) := by rw [hu18]; have q9 := (k_number_x (lo := 0) (hi := 2) hR11).2.2; exact q9
    have hf18 : (u18).2 0 5 = 0 → (u11).2 0 5 = 0 := by rw [hu18]; exact fun h9 => (k_number_5 h9)
    refine T_istore_n (ls' := [some (aR b), some (aI ((u4).1)), some (aI ((u11).1)), some (aI ((u18).1)), none, none]) (am_dec tX12_windHere_0 14 rfl) (by decide) rfl ?_
    refine T_aload_n (am_dec tX12_windHere_0 15 rfl) rfl ?_
    refine T_iconst 0 (am_dec tX12_windHere_0 16 rfl) rfl ⟨by decide, by decide⟩ ?_
    refine T_bipush 8 (am_dec tX12_windHere_0 17 rfl) rfl ⟨by decide, by decide⟩ ?_
    refine T_callV (as := [aI 0, aI 8]) rfl (am_dec tX12_windHere_0 18 rfl) lkX12_231 (md_obj hl) rfl rfl (Nat.le_of_ble_eq_true rfl) (by omega) (mk_number (d := d - 1) hl 0 8  hR18 (by omega)) (fun _ => ?_)
    obtain ⟨u26, hu26⟩ : ∃ x9, x9 = k_number ((u18).2) 0 8 := ⟨_, rfl⟩
    rw [← hu26]
    have hR26 : RdV (u26).2 := by rw [hu26]; exact (k_number_x hR18).1
    have hR9 := hR26
    obtain ⟨ra26, rb26, rc26⟩ := hR9
    have hx26 : Ly c (u26).2 := Ly_t hx18 (Ly_x (by rw [hu26]; exact (k_number_x hR18).2.1))
    have hz26 : (u26).2 0 2 = c 0 2 := hx26.2 2 (by decide) (by decide) (by decide)
    have ht26_0 : (u26).2 3 0 = c 3 0 := congrFun hx26.1 0
    have ht26_1 : (u26).2 3 1 = c 3 1 := congrFun hx26.1 1
    have hv26 : ((u26).2 0 5 = 0 ∧ 0 ≤ (u26).1 ∧ (u26).1 ≤ 8) ∨ ((u26).2 0 5 ≠ 0 ∧ (u26).1 = 0) := by rw [hu26]; have q9 := (k_number_x (lo := 0) (hi := 8) hR18).2.2; exact q9
    have hf26 : (u26).2 0 5 = 0 → (u18).2 0 5 = 0 := by rw [hu26]; exact fun h9 => (k_number_5 h9)
    refine T_istore (ls' := [some (aR b), some (aI ((u4).1)), some (aI ((u11).1)), some (aI ((u18).1)), some (aI ((u26).1)), none]) (am_dec tX12_windHere_0 19 rfl) (by decide) rfl ?_
    refine T_iconst 0 (am_dec tX12_windHere_0 20 rfl) rfl ⟨by decide, by decide⟩ ?_
    refine T_istore (ls' := [some (aR b), some (aI ((u4).1)), some (aI ((u11).1)), some (aI ((u18).1)), some (aI ((u26).1)), some (aI 0)]) (am_dec tX12_windHere_0 21 rfl) (by decide) rfl ?_
    have hq34 : (u26).2 3 8 = c 3 8 := congrFun hx26.1 8
    have hw34 : (u26).2 0 56 = c 0 56 := hx26.2 56 (by decide) (by decide) (by decide)
    refine T_aload_n (am_dec tX12_windHere_0 22 rfl) rfl ?_
    refine T_getfield 11 5 (am_dec tX12_windHere_0 23 rfl) flX12_176_11 (md_obj hl) rfl ?_
    refine T_if_eq 42 (am_dec tX12_windHere_0 24 rfl) rfl (fun h38 => ?_) (fun h38 => ?_)
    · refine T_aload_n (am_dec tX12_windHere_0 26 rfl) rfl ?_
      refine T_dup (am_dec tX12_windHere_0 27 rfl) rfl ?_
      refine T_getfield 11 56 (am_dec tX12_windHere_0 28 rfl) flX12_225_11 (md_obj hl) rfl ?_
      refine T_iconst 1 (am_dec tX12_windHere_0 29 rfl) rfl ⟨by decide, by decide⟩ ?_
      refine T_iadd (((u26).2 0 56) + 1) (am_dec tX12_windHere_0 30 rfl) rfl ⟨by omega, by omega⟩ ?_
      refine T_putfield (fs' := mdO b (am_up ((u26).2 0) 56 (((u26).2 0 56) + 1)) (q 0)) 11 56 (am_dec tX12_windHere_0 31 rfl) flX12_225_11 rfl rfl rfl trivial (md_obj hl) (Nat.le_of_ble_eq_true rfl) rfl ?_
      refine am_wE (w2 := mdW w b (am_put (u26).2 0 56 (((u26).2 0 56) + 1)) q) (md_fc) ?_
      refine L_k_windHere_52 hl (am_put (u26).2 0 56 (((u26).2 0 56) + 1)) q ((u4).1) ((u11).1) ((u18).1) ((u26).1)  (show 0 ≤ (u26).2 3 8 ∧ (u26).2 3 8 ≤ 11 by omega) (by omega) 13 0 (show (u26).2 3 8 - 0 < 13 by omega) (show 0 ≤ 0 ∧ 0 ≤ (u26).2 3 8 by omega) (fun tq_52 htq_52 hv52 => ?_)
      have hv59 : 0 ≤ tq_52 ∧ tq_52 ≤ (u26).2 3 8 := hv52
      refine T_aload_n (am_dec tX12_windHere_1 8 rfl) rfl ?_
      refine T_getfield 11 14 (am_dec tX12_windHere_1 9 rfl) flX12_34_11 (md_obj hl) rfl ?_
      refine T_iload (am_dec tX12_windHere_1 10 rfl) rfl ?_
      refine T_aaloadR (r := b + (8 + tq_52.toNat)) (am_dec tX12_windHere_1 11 rfl) (by decide) (mh_readWind hl) (by omega) (by omega) (if_pos (by omega)) ?_
      refine T_iconst 0 (am_dec tX12_windHere_1 12 rfl) rfl ⟨by decide, by decide⟩ ?_
      refine T_iload_n (am_dec tX12_windHere_1 13 rfl) rfl ?_
      refine T_iastore (am_dec tX12_windHere_1 14 rfl) (mr_readWind hl (i := tq_52) (by omega) (by omega)) (by omega) (by omega) ?_
      refine am_wE (w2 := mdW w b (am_put (am_put (u26).2 0 56 (((u26).2 0 56) + 1)) (8 + tq_52.toNat) 0 ((u4).1)) q) (md_pc (by omega) (fun f g => md_t_readWind f g (by omega))) ?_
      refine T_aload_n (am_dec tX12_windHere_1 15 rfl) rfl ?_
      refine T_getfield 11 14 (am_dec tX12_windHere_1 16 rfl) flX12_34_11 (md_obj hl) rfl ?_
      refine T_iload (am_dec tX12_windHere_1 17 rfl) rfl ?_
      refine T_aaloadR (r := b + (8 + tq_52.toNat)) (am_dec tX12_windHere_1 18 rfl) (by decide) (mh_readWind hl) (by omega) (by omega) (if_pos (by omega)) ?_
      refine T_iconst 1 (am_dec tX12_windHere_1 19 rfl) rfl ⟨by decide, by decide⟩ ?_
      refine T_iload_n (am_dec tX12_windHere_1 20 rfl) rfl ?_
      refine T_iastore (am_dec tX12_windHere_1 21 rfl) (mr_readWind hl (i := tq_52) (by omega) (by omega)) (by omega) (by omega) ?_
      refine am_wE (w2 := mdW w b (am_put (am_put (am_put (u26).2 0 56 (((u26).2 0 56) + 1)) (8 + tq_52.toNat) 0 ((u4).1)) (8 + tq_52.toNat) 1 ((u11).1)) q) (md_pc (by omega) (fun f g => md_t_readWind f g (by omega))) ?_
      refine T_aload_n (am_dec tX12_windHere_1 22 rfl) rfl ?_
      refine T_getfield 11 14 (am_dec tX12_windHere_1 23 rfl) flX12_34_11 (md_obj hl) rfl ?_
      refine T_iload (am_dec tX12_windHere_1 24 rfl) rfl ?_
      refine T_aaloadR (r := b + (8 + tq_52.toNat)) (am_dec tX12_windHere_1 25 rfl) (by decide) (mh_readWind hl) (by omega) (by omega) (if_pos (by omega)) ?_
      refine T_iconst 2 (am_dec tX12_windHere_1 26 rfl) rfl ⟨by decide, by decide⟩ ?_
      refine T_iload_n (am_dec tX12_windHere_1 27 rfl) rfl ?_
      refine T_iastore (am_dec tX12_windHere_1 28 rfl) (mr_readWind hl (i := tq_52) (by omega) (by omega)) (by omega) (by omega) ?_
      refine am_wE (w2 := mdW w b (am_put (am_put (am_put (am_put (u26).2 0 56 (((u26).2 0 56) + 1)) (8 + tq_52.toNat) 0 ((u4).1)) (8 + tq_52.toNat) 1 ((u11).1)) (8 + tq_52.toNat) 2 ((u18).1)) q) (md_pc (by omega) (fun f g => md_t_readWind f g (by omega))) ?_
      refine T_aload_n (am_dec tX12_windHere_1 29 rfl) rfl ?_
      refine T_getfield 11 14 (am_dec tX12_windHere_1 30 rfl) flX12_34_11 (md_obj hl) rfl ?_
      refine T_iload (am_dec tX12_windHere_1 31 rfl) rfl ?_
      refine T_aaloadR (r := b + (8 + tq_52.toNat)) (am_dec tX12_windHere_1 32 rfl) (by decide) (mh_readWind hl) (by omega) (by omega) (if_pos (by omega)) ?_
      refine T_iconst 3 (am_dec tX12_windHere_1 33 rfl) rfl ⟨by decide, by decide⟩ ?_
      refine T_iload (am_dec tX12_windHere_1 34 rfl) rfl ?_
      refine T_iastore (am_dec tX12_windHere_1 35 rfl) (mr_readWind hl (i := tq_52) (by omega) (by omega)) (by omega) (by omega) ?_
      refine am_wE (w2 := mdW w b (am_put (am_put (am_put (am_put (am_put (u26).2 0 56 (((u26).2 0 56) + 1)) (8 + tq_52.toNat) 0 ((u4).1)) (8 + tq_52.toNat) 1 ((u11).1)) (8 + tq_52.toNat) 2 ((u18).1)) (8 + tq_52.toNat) 3 ((u26).1)) q) (md_pc (by omega) (fun f g => md_t_readWind f g (by omega))) ?_
      refine T_aload_n (am_dec tX12_windHere_1 36 rfl) rfl ?_
      refine T_getfield 11 10 (am_dec tX12_windHere_1 37 rfl) flX12_20_11 (md_obj hl) rfl ?_
      refine T_bipush 8 (am_dec tX12_windHere_1 38 rfl) rfl ⟨by decide, by decide⟩ ?_
      refine T_dup2 (am_dec tX12_windHere_1 39 rfl) rfl rfl ?_
      refine T_ialoadE (x := (u26).2 3 8) (am_dec tX12_windHere_2 0 rfl) (md_readTold hl) (by omega) (by omega) ((am_put_k (by omega)).trans ((am_put_k (by omega)).trans ((am_put_k (by omega)).trans ((am_put_k (by omega)).trans (am_put_k (by decide)))))) ?_
      refine T_iload (am_dec tX12_windHere_2 1 rfl) rfl ?_
      refine T_aload_n (am_dec tX12_windHere_2 2 rfl) rfl ?_
      refine T_getfield 11 10 (am_dec tX12_windHere_2 3 rfl) flX12_20_11 (md_obj hl) rfl ?_
      refine T_bipush 8 (am_dec tX12_windHere_2 4 rfl) rfl ⟨by decide, by decide⟩ ?_
      refine T_ialoadE (x := (u26).2 3 8) (am_dec tX12_windHere_2 5 rfl) (md_readTold hl) (by omega) (by omega) ((am_put_k (by omega)).trans ((am_put_k (by omega)).trans ((am_put_k (by omega)).trans ((am_put_k (by omega)).trans (am_put_k (by decide)))))) ?_
      have K141 : ∀ (t141 : Int), t141 = (if tq_52 = (u26).2 3 8 then 1 else 0) →  am_T S zX12_windHere d u Q 149 [none, none, none, none, none, none] [aI t141, aI ((u26).2 3 8), aI 8, aR (b + 3)] (mdW w b (am_put (am_put (am_put (am_put (am_put (u26).2 0 56 (((u26).2 0 56) + 1)) (8 + tq_52.toNat) 0 ((u4).1)) (8 + tq_52.toNat) 1 ((u11).1)) (8 + tq_52.toNat) 2 ((u18).1)) (8 + tq_52.toNat) 3 ((u26).1)) q) := by
        intro t141 ht141 
        have hbt141 : t141 = 0 ∨ t141 = 1 := by
          rw [ht141]
          try dsimp only
          repeat' split
          all_goals first | exact Or.inl rfl | exact Or.inr rfl | apply k_in_b | apply k_isDigit_b | apply k_isSmall_b | apply k_bad_b | apply k_isIn_b | apply k_isStep_b | apply k_isFirst_b | apply k_isLine_b | apply k_seesBy_b | apply k_isWalker_b | apply k_seesOne_b | apply k_badTwo_b | apply k_sees_b | apply k_isCode_b | apply k_isLot_b | apply k_isShip_b | apply k_areRight_b | apply k_right_b | apply k_areSeeds_b | apply k_badBid_b | apply k_isWord_b | apply k_takes_b | apply k_takesSign_b | apply k_isFull_b | omega
        refine T_iadd (((u26).2 3 8) + t141) (am_dec tX12_windHere_2 10 rfl) rfl ⟨by omega, by omega⟩ ?_
        refine T_iastore (am_dec tX12_windHere_2 11 rfl) (md_readTold hl) (by omega) (by omega) ?_
        refine am_wE (w2 := mdW w b (am_put (am_put (am_put (am_put (am_put (am_put (u26).2 0 56 (((u26).2 0 56) + 1)) (8 + tq_52.toNat) 0 ((u4).1)) (8 + tq_52.toNat) 1 ((u11).1)) (8 + tq_52.toNat) 2 ((u18).1)) (8 + tq_52.toNat) 3 ((u26).1)) 3 8 (((u26).2 3 8) + t141)) q) (md_pc (Nat.le_of_ble_eq_true rfl) (fun _ _ => rfl)) ?_
        exact T_return (am_dec tX12_windHere_2 12 rfl) rfl (am_tr (fun (x9 : am_F) => Q (.inl none) (mdW w b x9 q)) (y := (am_put (am_put (am_put (am_put (am_put (am_put (u26).2 0 56 (((u26).2 0 56) + 1)) (8 + tq_52.toNat) 0 ((u4).1)) (8 + tq_52.toNat) 1 ((u11).1)) (8 + tq_52.toNat) 2 ((u18).1)) (8 + tq_52.toNat) 3 ((u26).1)) 3 8 (((u26).2 3 8) + t141))) (show (k_windHere c) = (am_put (am_put (am_put (am_put (am_put (am_put (u26).2 0 56 (((u26).2 0 56) + 1)) (8 + tq_52.toNat) 0 ((u4).1)) (8 + tq_52.toNat) 1 ((u11).1)) (8 + tq_52.toNat) 2 ((u18).1)) (8 + tq_52.toNat) 3 ((u26).1)) 3 8 (((u26).2 3 8) + t141)) from (by have s9 := hu4.symm; subst s9; have s9 := hu11.symm; subst s9; have s9 := hu18.symm; subst s9; have s9 := hu26.symm; subst s9; have s9 := htq_52.symm; subst s9; have s9 := ht141.symm; subst s9; exact (if_pos h38))) hQ)
      refine T_icmp_ne 148 (am_dec tX12_windHere_2 6 rfl) rfl (fun h141 => ?_) (fun h141 => ?_)
      · refine T_iconst 0 (am_dec tX12_windHere_2 9 rfl) rfl ⟨by decide, by decide⟩ ?_
        refine T_weak (ls' := [none, none, none, none, none, none]) (am_sub_n (am_sub_n (am_sub_n (am_sub_n (am_sub_n (am_sub_n am_sub_nil)))))) ?_
        exact K141 _ (if_neg h141).symm 
      · refine T_iconst 1 (am_dec tX12_windHere_2 7 rfl) rfl ⟨by decide, by decide⟩ ?_
        refine T_goto 149 (am_dec tX12_windHere_2 8 rfl) rfl ?_
        refine T_weak (ls' := [none, none, none, none, none, none]) (am_sub_n (am_sub_n (am_sub_n (am_sub_n (am_sub_n (am_sub_n am_sub_nil)))))) ?_
        exact K141 _ (if_pos h141).symm 
    · exact T_return (am_dec tX12_windHere_0 25 rfl) rfl (am_tr (fun (x9 : am_F) => Q (.inl none) (mdW w b x9 q)) (y := (u26).2) (show (k_windHere c) = (u26).2 from (by have s9 := hu4.symm; subst s9; have s9 := hu11.symm; subst s9; have s9 := hu18.symm; subst s9; have s9 := hu26.symm; subst s9; exact (if_neg h38))) hQ)
  exact key _ ⟨rfl, rfl⟩
