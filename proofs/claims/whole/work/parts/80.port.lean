/-! the model: a port is read -/
theorem RW_h {c : am_F} {j : Nat} {v : Int} (hj : j ≠ 7 ∧ j ≠ 56 ∧ j ≠ 57) (h : RW c) : RW (am_put c 0 j v) := by
  unfold RW at h ⊢
  rw [am_put0 (by decide), am_put_i (by omega), am_put_i (by omega), am_put_i (by omega)]
  exact h
theorem k_starts_x {c : am_F} {n : Int} (hn : 0 ≤ n ∧ n ≤ 600) : RdV (k_starts c n) ∧ k_starts c n 0 7 = 0 := by
  unfold k_starts
  have h0 : RdV (am_put (am_put (am_put (am_put (am_put (am_put c 0 1 0) 0 2 n) 0 4 0) 0 5 0) 0 6 (-1)) 0 7 0) := ⟨(show (0 : Int) ≤ 0 by omega), (show (0 : Int) ≤ n by omega), (show n ≤ 600 by omega)⟩
  have h := k_blanks_x h0
  exact ⟨h.1, (h.2.2 7 (by decide) (by decide) (by decide)).trans am_put_s⟩
theorem k_tells_x {c : am_F} (h : RdV c) (h7 : c 0 7 = 0) (h5 : c 0 56 = 0) (h6 : c 0 57 = 0) : RdV (k_tellsNothing c) ∧ RW (k_tellsNothing c) := by
  unfold k_tellsNothing
  dsimp only
  have e1 := am_fold_inv (P := fun (i : Int) (d : am_F) => 0 ≤ i ∧ d 0 = c 0 ∧ ∀ j : Nat, (j : Int) < i → d 3 j = 0) (g := g_k_tellsNothing_2) 11 0 c ⟨by omega, rfl, fun j hj => by omega⟩ (fun i d h0 h1 hd => by
    obtain ⟨d0, d1, d2⟩ := hd
    unfold g_k_tellsNothing_2
    refine ⟨by omega, by rw [am_put_kr (by decide)]; exact d1, fun j hj => ?_⟩
    by_cases e9 : j = i.toNat
    · rw [e9, am_put_s]
    · rw [am_put_i e9]
      exact d2 j (by omega))
  obtain ⟨d, hd⟩ : ∃ d, d = am_fold g_k_tellsNothing_2 0 11 c := ⟨_, rfl⟩
  rw [← hd] at e1 ⊢
  obtain ⟨-, e2, e3⟩ := e1
  have e4 := am_fold_inv (P := fun (_ : Int) (f : am_F) => f 0 = c 0 ∧ f 3 = (am_put (am_put (am_put d 3 0 6) 3 1 5) 3 7 20) 3) (g := g_k_tellsNothing_47) 81 0 (am_put (am_put (am_put d 3 0 6) 3 1 5) 3 7 20) ⟨by rw [am_put_kr (by decide), am_put_kr (by decide), am_put_kr (by decide)]; exact e2, rfl⟩ (fun i f h0 h1 hf => by
    unfold g_k_tellsNothing_47
    rw [am_put_kr (by decide), am_put_kr (by decide)]
    exact hf)
  obtain ⟨f, hf⟩ : ∃ f, f = am_fold g_k_tellsNothing_47 0 81 (am_put (am_put (am_put d 3 0 6) 3 1 5) 3 7 20) := ⟨_, rfl⟩
  rw [← hf] at e4 ⊢
  refine ⟨?_, ?_⟩
  · unfold RdV
    rw [e4.1]
    exact h
  · unfold RW
    rw [e4.1, e4.2, h7, h5, h6]
    have t2 := e3 2 (by decide)
    have t3 := e3 3 (by decide)
    have t4 := e3 4 (by decide)
    have t5 := e3 5 (by decide)
    have t6 := e3 6 (by decide)
    have t8 := e3 8 (by decide)
    have t9 := e3 9 (by decide)
    have t10 := e3 10 (by decide)
    rw [show am_put (am_put (am_put d 3 0 6) 3 1 5) 3 7 20 3 0 = 6 from rfl, show am_put (am_put (am_put d 3 0 6) 3 1 5) 3 7 20 3 1 = 5 from rfl, show am_put (am_put (am_put d 3 0 6) 3 1 5) 3 7 20 3 2 = d 3 2 from rfl, show am_put (am_put (am_put d 3 0 6) 3 1 5) 3 7 20 3 3 = d 3 3 from rfl, show am_put (am_put (am_put d 3 0 6) 3 1 5) 3 7 20 3 4 = d 3 4 from rfl, show am_put (am_put (am_put d 3 0 6) 3 1 5) 3 7 20 3 5 = d 3 5 from rfl, show am_put (am_put (am_put d 3 0 6) 3 1 5) 3 7 20 3 6 = d 3 6 from rfl, show am_put (am_put (am_put d 3 0 6) 3 1 5) 3 7 20 3 8 = d 3 8 from rfl, show am_put (am_put (am_put d 3 0 6) 3 1 5) 3 7 20 3 9 = d 3 9 from rfl, show am_put (am_put (am_put d 3 0 6) 3 1 5) 3 7 20 3 10 = d 3 10 from rfl, t2, t3, t4, t5, t6, t8, t9, t10]
    decide
def w_k_port_52  (c : am_F) : (am_F) ⊕ (am_F) := (if c 0 5 = 0 then (if c 0 2 ≤ c 0 4 then .inr c else (let c71 : am_F := k_clause c; (let c75 : am_F := k_blanks c71; .inl c75))) else .inr c)
theorem L_k_port_52 {S : am_S} {d u : Nat} {Q : AO → AH → Prop} {w : AH} {b : Nat} (hl : b + 735 ≤ w.length) (q : am_F)  (hd : 6 ≤ d) : ∀ (n : Nat) (c : am_F), (if c 0 5 = 0 then 61 - c 0 7 else 0) < n → RdV c ∧ RW c → (∀ (c' : am_F), c' = am_wh (w_k_port_52) n c → RdV c' ∧ RW c' → am_T S zX12_port d u Q 81 [some (aR b), none] [] (mdW w b c' q)) → am_T S zX12_port d u Q 52 [some (aR b), none] [] (mdW w b c q) := by
  intro n
  induction n with
  | zero =>
    intro c hm9 hinv k9
    have hR := hinv.1
    have hRW := hinv.2
    have hR9 := hR
    obtain ⟨r1, r2, r3⟩ := hR9
    have w9 := hRW
    obtain ⟨w0, w1, w2, w3, w4, w5, w6, w8, w7, w10, w11⟩ := w9
    exfalso; omega
  | succ n ih =>
    intro c hm9 hinv k9
    have hR := hinv.1
    have hRW := hinv.2
    have hR9 := hR
    obtain ⟨r1, r2, r3⟩ := hR9
    have w9 := hRW
    obtain ⟨w0, w1, w2, w3, w4, w5, w6, w8, w7, w10, w11⟩ := w9
    refine T_aload_n (am_dec tX12_port_0 30 rfl) rfl ?_
    refine T_getfield 11 5 (am_dec tX12_port_0 31 rfl) flX12_176_11 (md_obj hl) rfl ?_
    refine T_if_ne 81 (am_dec tX12_port_0 32 rfl) rfl (fun h56 => ?_) (fun h56 => ?_)
    · have e9 : (w_k_port_52) c = .inr c := (if_neg h56)
      simp only [am_wh_r e9] at k9
      exact k9 _ rfl hinv
    · refine T_aload_n (am_dec tX12_port_0 33 rfl) rfl ?_
      refine T_getfield 11 4 (am_dec tX12_port_0 34 rfl) flX12_169_11 (md_obj hl) rfl ?_
      refine T_aload_n (am_dec tX12_port_0 35 rfl) rfl ?_
      refine T_getfield 11 2 (am_dec tX12_port_0 36 rfl) flX12_166_11 (md_obj hl) rfl ?_
      refine T_icmp_ge 81 (am_dec tX12_port_0 37 rfl) rfl (fun h67 => ?_) (fun h67 => ?_)
      · have e9 : (w_k_port_52) c = .inr c := ((if_pos h56).trans (if_pos h67))
        simp only [am_wh_r e9] at k9
        exact k9 _ rfl hinv
      · refine T_aload_n (am_dec tX12_port_0 38 rfl) rfl ?_
        refine T_callV (as := []) rfl (am_dec tX12_port_0 39 rfl) lkX12_282 (md_obj hl) rfl rfl (Nat.le_of_ble_eq_true rfl) (by omega) (mk_clause (d := d - 1) hl   hR hRW (by omega)) (fun _ => ?_)
        refine T_nmH (W := fun x9 => mdW w b x9 q) (v := k_clause c) (fun c71 hc71 => ?_)
        have hx71 := k_clause_x hR hRW
        rw [← hc71] at hx71
        refine T_aload_n (am_dec tX12_port_1 0 rfl) rfl ?_
        refine T_callV (as := []) rfl (am_dec tX12_port_1 1 rfl) lkX12_182 (md_obj hl) rfl rfl (Nat.le_of_ble_eq_true rfl) (by omega) (mk_blanks (d := d - 1) hl   hx71.1 (by omega)) (fun _ => ?_)
        refine T_nmH (W := fun x9 => mdW w b x9 q) (v := k_blanks c71) (fun c75 hc75 => ?_)
        have hx75 := k_blanks_x hx71.1
        rw [← hc75] at hx75
        have hy75 : RW c75 := RW_y (Ly_x hx75.2) hx71.2.1
        have h5_75 : c75 0 5 = c71 0 5 := by rw [hc75]; exact k_blanks_5
        have h7_75 : c75 0 7 = c71 0 7 := hx75.2.2 7 (by decide) (by decide) (by decide)
        refine T_goto 52 (am_dec tX12_port_1 2 rfl) rfl ?_
        have e9 : (w_k_port_52) c = .inl c75 := (by have s9 := hc71.symm; subst s9; have s9 := hc75.symm; subst s9; exact ((if_pos h56).trans (if_neg h67)))
        simp only [am_wh_l e9] at k9
        exact ih c75 (by have h9 := hx71.2.2; omega) ⟨hx75.1, hy75⟩ k9
def k_port (c : am_F) (q : am_F) (n9 : Int) : Int × am_F × am_F := (let z12 : Int := (k_in n9 0 (c 0 1)); (let t15 : Int := (if z12 = 0 then 1 else 0); (let q25 : am_F := (k_refuse (am_put q 0 0 0) t15 1 2); (let z25 : Int := (if t15 = 0 then 0 else 1); (if z25 = 0 then (let c35 : am_F := k_starts c n9; (let c49 : am_F := k_tellsNothing (am_put (am_put c35 0 56 0) 0 57 0); (let c52 : am_F := am_wh (w_k_port_52) 62 c49; (if c52 0 5 = 0 then (let c105 : am_F := k_stands (am_put c52 0 3 (c52 0 6)); ((c105 4 3), c105, q25)) else ((am_w32 ((c52 0 5) - 10)), (am_put c52 0 3 (c52 0 6)), q25))))) else (0, c, q25))))))
theorem mk_port {S : am_S} {d u : Nat} {w : AH} {b : Nat} (hl : b + 735 ≤ w.length) {c : am_F} {q : am_F} (n9 : Int) (htp : 0 ≤ c 0 1 ∧ c 0 1 ≤ 600) (hd : 6 ≤ d) : am_Out S zX12_port d u [aR b, aI n9] (mdW w b c q) (.inl (some (aI ((k_port c q n9).1)))) (mdW w b ((k_port c q n9).2.1) ((k_port c q n9).2.2)) := by
  have key : ∀ Q : AO → AH → Prop, Q (.inl (some (aI ((k_port c q n9).1)))) (mdW w b ((k_port c q n9).2.1) ((k_port c q n9).2.2)) → am_M S zX12_port d u [aR b, aI n9] (mdW w b c q) Q := by
    intro Q hQ
    refine am_body rfl (by decide +kernel) rfl (am_cats_cons rfl ( am_cats_cons rfl (am_cats_nil))) (Nat.le_of_ble_eq_true rfl) (?_ : am_T _ _ _ _ _ 0 [some (aR b), some (aI n9)] [] (mdW w b c q))
    refine T_aload_n (am_dec tX12_port_0 0 rfl) rfl ?_
    refine T_iconst 0 (am_dec tX12_port_0 1 rfl) rfl ⟨by decide, by decide⟩ ?_
    refine T_putfield (fs' := mdO b (c 0) (am_up (q 0) 0 0)) 11 0 (am_dec tX12_port_0 2 rfl) flX12_160_11 rfl rfl rfl trivial (md_obj hl) (Nat.le_of_ble_eq_true rfl) rfl ?_
    refine am_wE (w2 := mdW w b c (am_put q 0 0 0)) (md_fq) ?_
    refine T_aload_n (am_dec tX12_port_0 3 rfl) rfl ?_
    refine T_iload_n (am_dec tX12_port_0 4 rfl) rfl ?_
    refine T_iconst 0 (am_dec tX12_port_0 5 rfl) rfl ⟨by decide, by decide⟩ ?_
    refine T_aload_n (am_dec tX12_port_0 6 rfl) rfl ?_
    refine T_getfield 11 1 (am_dec tX12_port_0 7 rfl) flX12_163_11 (md_obj hl) rfl ?_
    refine T_callS (as := [aI n9, aI 0, aI (c 0 1)]) rfl (am_dec tX12_port_0 8 rfl) lkX12_194 rfl (Nat.le_of_ble_eq_true rfl) (by omega) (mk_in (d := d - 1)  n9 0 (c 0 1)   ) (fun _ => ?_)
    refine T_nm (fun z12 hz12 => ?_)
    have hb12 := k_in_b n9 0 (c 0 1)
    rw [← hz12] at hb12
    have hs12 := k_in_s n9 0 (c 0 1)
    rw [← hz12] at hs12
    have K15 : ∀ (t15 : Int), t15 = (if z12 = 0 then 1 else 0) →  am_T S zX12_port d u Q 23 [some (aR b), some (aI n9)] [aI t15, aR b] (mdW w b c (am_put q 0 0 0)) := by
      intro t15 ht15 
      have hbt15 : t15 = 0 ∨ t15 = 1 := by
        rw [ht15]
        try dsimp only
        repeat' split
        all_goals first | exact Or.inl rfl | exact Or.inr rfl | apply k_in_b | apply k_isDigit_b | apply k_isSmall_b | apply k_bad_b | apply k_isIn_b | apply k_isStep_b | apply k_isFirst_b | apply k_isLine_b | apply k_seesBy_b | apply k_isWalker_b | apply k_seesOne_b | apply k_badTwo_b | apply k_sees_b | apply k_isCode_b | apply k_isLot_b | apply k_isShip_b | apply k_areRight_b | apply k_right_b | apply k_areSeeds_b | apply k_badBid_b | apply k_isWord_b | apply k_takes_b | apply k_takesSign_b | apply k_isFull_b | omega
      refine T_iconst 1 (am_dec tX12_port_0 13 rfl) rfl ⟨by decide, by decide⟩ ?_
      refine T_iconst 2 (am_dec tX12_port_0 14 rfl) rfl ⟨by decide, by decide⟩ ?_
      refine T_callV (as := [aI t15, aI 1, aI 2]) rfl (am_dec tX12_port_0 15 rfl) lkX12_275 (md_obj hl) rfl rfl (Nat.le_of_ble_eq_true rfl) (by omega) (mk_bad0 (d := d - 1) hl t15 1 2 (by omega) am_put_s (by omega)) (fun _ => ?_)
      refine T_nmH (W := fun x9 => mdW w b c x9) (v := (k_refuse (am_put q 0 0 0) t15 1 2)) (fun q25 hq25 => ?_)
      refine T_nm (fun z25 hz25 => ?_)
      have hq025 : t15 = 0 → q25 0 0 = 0 := fun h9 => by rw [hq25]; exact k_refuse_0 am_put_s h9
      refine T_if_eq 33 (am_dec tX12_port_0 16 rfl) rfl (fun h28 => ?_) (fun h28 => ?_)
      · refine T_aload_n (am_dec tX12_port_0 19 rfl) rfl ?_
        refine T_iload_n (am_dec tX12_port_0 20 rfl) rfl ?_
        refine T_callV (as := [aI n9]) rfl (am_dec tX12_port_0 21 rfl) lkX12_279 (md_obj hl) rfl rfl (Nat.le_of_ble_eq_true rfl) (by omega) (mk_starts (d := d - 1) hl n9  (by omega) (by omega)) (fun _ => ?_)
        refine T_nmH (W := fun x9 => mdW w b x9 q25) (v := k_starts c n9) (fun c35 hc35 => ?_)
        have hR35 : RdV c35 := by rw [hc35]; exact (k_starts_x (by omega)).1
        have h7_35 : c35 0 7 = 0 := by rw [hc35]; exact (k_starts_x (by omega)).2
        refine T_aload_n (am_dec tX12_port_0 22 rfl) rfl ?_
        refine T_iconst 0 (am_dec tX12_port_0 23 rfl) rfl ⟨by decide, by decide⟩ ?_
        refine T_putfield (fs' := mdO b (am_up (c35 0) 56 0) (q25 0)) 11 56 (am_dec tX12_port_0 24 rfl) flX12_225_11 rfl rfl rfl trivial (md_obj hl) (Nat.le_of_ble_eq_true rfl) rfl ?_
        refine am_wE (w2 := mdW w b (am_put c35 0 56 0) q25) (md_fc) ?_
        refine T_aload_n (am_dec tX12_port_0 25 rfl) rfl ?_
        refine T_iconst 0 (am_dec tX12_port_0 26 rfl) rfl ⟨by decide, by decide⟩ ?_
        refine T_putfield (fs' := mdO b (am_up ((am_put c35 0 56 0) 0) 57 0) (q25 0)) 11 57 (am_dec tX12_port_0 27 rfl) flX12_228_11 rfl rfl rfl trivial (md_obj hl) (Nat.le_of_ble_eq_true rfl) rfl ?_
        refine am_wE (w2 := mdW w b (am_put (am_put c35 0 56 0) 0 57 0) q25) (md_fc) ?_
        refine T_aload_n (am_dec tX12_port_0 28 rfl) rfl ?_
        refine T_callV (as := []) rfl (am_dec tX12_port_0 29 rfl) lkX12_154 (md_obj hl) rfl rfl (Nat.le_of_ble_eq_true rfl) (by omega) (mk_tellsNothing (d := d - 1) hl    ) (fun _ => ?_)
        refine T_nmH (W := fun x9 => mdW w b x9 q25) (v := k_tellsNothing (am_put (am_put c35 0 56 0) 0 57 0)) (fun c49 hc49 => ?_)
        have hx49 := (k_tells_x (RdV_h (j := 57) (v := 0) (by decide) (RdV_h (j := 56) (v := 0) (by decide) hR35)) (show c35 0 7 = 0 from h7_35) rfl rfl)
        rw [← hc49] at hx49
        refine T_weak (ls' := [some (aR b), none]) (am_sub_s (am_sub_n am_sub_nil)) ?_
        refine L_k_port_52 hl q25   (by omega) 62 c49 (by have w9 := hx49.2; obtain ⟨w0, w1, w2, w3, w4, w5, w6, w8, w7, w10, w11⟩ := w9; omega) ⟨hx49.1, hx49.2⟩ (fun c52 hc52 hv52 => ?_)
        refine T_aload_n (am_dec tX12_port_1 3 rfl) rfl ?_
        refine T_aload_n (am_dec tX12_port_1 4 rfl) rfl ?_
        refine T_getfield 11 6 (am_dec tX12_port_1 5 rfl) flX12_179_11 (md_obj hl) rfl ?_
        refine T_putfield (fs' := mdO b (am_up (c52 0) 3 (c52 0 6)) (q25 0)) 11 3 (am_dec tX12_port_1 6 rfl) flX12_9_11 rfl rfl rfl trivial (md_obj hl) (Nat.le_of_ble_eq_true rfl) rfl ?_
        refine am_wE (w2 := mdW w b (am_put c52 0 3 (c52 0 6)) q25) (md_fc) ?_
        refine T_aload_n (am_dec tX12_port_1 7 rfl) rfl ?_
        refine T_getfield 11 5 (am_dec tX12_port_1 8 rfl) flX12_176_11 (md_obj hl) rfl ?_
        refine T_if_eq 104 (am_dec tX12_port_1 9 rfl) rfl (fun h93 => ?_) (fun h93 => ?_)
        · refine T_aload_n (am_dec tX12_port_1 15 rfl) rfl ?_
          refine T_callV (as := []) rfl (am_dec tX12_port_1 16 rfl) lkX12_157 (md_obj hl) rfl rfl (Nat.le_of_ble_eq_true rfl) (by omega) (mk_stands (d := d - 1) hl   (RW_h (by decide) hv52.2) (by omega)) (fun _ => ?_)
          refine T_nmH (W := fun x9 => mdW w b x9 q25) (v := k_stands (am_put c52 0 3 (c52 0 6))) (fun c105 hc105 => ?_)
          refine T_aload_n (am_dec tX12_port_1 17 rfl) rfl ?_
          refine T_getfield 11 11 (am_dec tX12_port_1 18 rfl) flX12_23_11 (md_obj hl) rfl ?_
          refine T_iconst 3 (am_dec tX12_port_1 19 rfl) rfl ⟨by decide, by decide⟩ ?_
          refine T_ialoadE (x := c105 4 3) (am_dec tX12_port_1 20 rfl) (md_told hl) (by omega) (by omega) rfl ?_
          exact T_ireturn (am_dec tX12_port_1 21 rfl) rfl (am_tr (fun (x9 : Int × am_F × am_F) => Q (.inl (some (aI (x9.1)))) (mdW w b x9.2.1 x9.2.2)) (y := ((c105 4 3), c105, q25)) (show (k_port c q n9) = ((c105 4 3), c105, q25) from (by have s9 := hz12.symm; subst s9; have s9 := ht15.symm; subst s9; have s9 := hq25.symm; subst s9; have s9 := hz25.symm; subst s9; have s9 := hc35.symm; subst s9; have s9 := hc49.symm; subst s9; have s9 := hc52.symm; subst s9; have s9 := hc105.symm; subst s9; exact ((if_pos h28).trans (if_pos h93)))) hQ)
        · refine T_aload_n (am_dec tX12_port_1 10 rfl) rfl ?_
          refine T_getfield 11 5 (am_dec tX12_port_1 11 rfl) flX12_176_11 (md_obj hl) rfl ?_
          refine T_bipush 10 (am_dec tX12_port_1 12 rfl) rfl ⟨by decide, by decide⟩ ?_
          refine T_isubW (am_w32 ((c52 0 5) - 10)) (am_dec tX12_port_1 13 rfl) (am_w32e _).symm (am_w32r _) ?_
          exact T_ireturn (am_dec tX12_port_1 14 rfl) rfl (am_tr (fun (x9 : Int × am_F × am_F) => Q (.inl (some (aI (x9.1)))) (mdW w b x9.2.1 x9.2.2)) (y := ((am_w32 ((c52 0 5) - 10)), (am_put c52 0 3 (c52 0 6)), q25)) (show (k_port c q n9) = ((am_w32 ((c52 0 5) - 10)), (am_put c52 0 3 (c52 0 6)), q25) from (by have s9 := hz12.symm; subst s9; have s9 := ht15.symm; subst s9; have s9 := hq25.symm; subst s9; have s9 := hz25.symm; subst s9; have s9 := hc35.symm; subst s9; have s9 := hc49.symm; subst s9; have s9 := hc52.symm; subst s9; exact ((if_pos h28).trans (if_neg h93)))) hQ)
      · refine T_iconst 0 (am_dec tX12_port_0 17 rfl) rfl ⟨by decide, by decide⟩ ?_
        exact T_ireturn (am_dec tX12_port_0 18 rfl) rfl (am_tr (fun (x9 : Int × am_F × am_F) => Q (.inl (some (aI (x9.1)))) (mdW w b x9.2.1 x9.2.2)) (y := (0, c, q25)) (show (k_port c q n9) = (0, c, q25) from (by have s9 := hz12.symm; subst s9; have s9 := ht15.symm; subst s9; have s9 := hq25.symm; subst s9; have s9 := hz25.symm; subst s9; exact (if_neg h28))) hQ)
    refine T_if_ne 22 (am_dec tX12_port_0 9 rfl) rfl (fun h15 => ?_) (fun h15 => ?_)
    · refine T_iconst 0 (am_dec tX12_port_0 12 rfl) rfl ⟨by decide, by decide⟩ ?_
      exact K15 _ (if_neg h15).symm 
    · refine T_iconst 1 (am_dec tX12_port_0 10 rfl) rfl ⟨by decide, by decide⟩ ?_
      refine T_goto 23 (am_dec tX12_port_0 11 rfl) rfl ?_
      exact K15 _ (if_pos h15).symm 
  exact key _ ⟨rfl, rfl⟩
