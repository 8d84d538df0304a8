/-! the model: walks -/
theorem k_wrong_4 {c : am_F} {x y : Int} : k_wrong c x y 0 4 = c 0 4 := by
  unfold k_wrong
  split
  · rw [am_put_i (by decide), am_put_i (by decide)]
  · rfl
def w_k_walkHere_76 (k : Int) (here : Int) (x9 : Int × Int × Int × am_F) : (Int × Int × Int × am_F) ⊕ (Int × Int × Int × am_F) := let x : Int := x9.1; let y : Int := x9.2.1; let m : Int := x9.2.2.1; let c : am_F := x9.2.2.2; (let n81 : Int := (k_byteAt c (c 0 4)); (let z84 : Int := (k_isSmall n81); (if z84 = 0 then .inr (x, y, m, c) else (let n95 : Int := (k_byteAt c (c 0 4)); (let t104 : Int := (if 12 ≤ m then 0 else (if n95 = 110 then 1 else (if n95 = 115 then 1 else (if n95 = 119 then 1 else (if n95 = 101 then 1 else (if n95 = 111 then 1 else 0)))))); (let n153 : Int := (k_goesBy n95 1); (let x_157 : Int := am_w32 (x + n153); (let n163 : Int := (k_goesBy n95 0); (let y_167 : Int := am_w32 (y + n163); (let c171 : am_F := (if t104 = 0 then k_wrong c 2 here else (let z184 : Int := (k_in x_157 0 ((c 3 0) - 1)); (if z184 = 0 then k_wrong c 2 here else (let z201 : Int := (k_in y_167 0 ((c 3 1) - 1)); (if z201 = 0 then k_wrong c 2 here else (am_put c (103 + k.toNat) ((4 + m).toNat) n95)))))); .inl (x_157, y_167, (m + 1), (am_put c171 0 4 ((c171 0 4) + 1)))))))))))))
theorem L_k_walkHere_76 {S : am_S} {d u : Nat} {Q : AO → AH → Prop} {w : AH} {b : Nat} (hl : b + 735 ≤ w.length) (q : am_F) (k : Int) (here : Int) (hk : 0 ≤ k ∧ k < 4) (hd : 4 ≤ d) : ∀ (n : Nat) (x : Int) (y : Int) (m : Int) (c : am_F), c 0 2 - c 0 4 < n → RdV c ∧ RW c ∧ 0 ≤ m ∧ m ≤ c 0 4 → (∀ (x' : Int) (y' : Int) (m' : Int) (c' : am_F), x' = (am_wh (w_k_walkHere_76 k here) n (x, y, m, c)).1 → y' = (am_wh (w_k_walkHere_76 k here) n (x, y, m, c)).2.1 → m' = (am_wh (w_k_walkHere_76 k here) n (x, y, m, c)).2.2.1 → c' = (am_wh (w_k_walkHere_76 k here) n (x, y, m, c)).2.2.2 → RdV c' ∧ RW c' ∧ 0 ≤ m' ∧ m' ≤ c' 0 4 → am_T S zX12_walkHere d u Q 240 [none, some (aR (b + (103 + k.toNat))), none, none, none, some (aI m'), none, none] [] (mdW w b c' q)) → am_T S zX12_walkHere d u Q 76 [some (aR b), some (aR (b + (103 + k.toNat))), some (aI here), some (aI x), some (aI y), some (aI m), none, none] [] (mdW w b c q) := by
  intro n
  induction n with
  | zero =>
    intro x y m c hm9 hinv k9
    have hR := hinv.1
    have hRW := hinv.2.1
    have hm8 := hinv.2.2
    have hR9 := hR
    obtain ⟨r1, r2, r3⟩ := hR9
    have w9 := hRW
    obtain ⟨w0, w1, w2, w3, w4, w5, w6, w8, w7, w10, w11⟩ := w9
    exfalso; omega
  | succ n ih =>
    intro x y m c hm9 hinv k9
    have hR := hinv.1
    have hRW := hinv.2.1
    have hm8 := hinv.2.2
    have hR9 := hR
    obtain ⟨r1, r2, r3⟩ := hR9
    have w9 := hRW
    obtain ⟨w0, w1, w2, w3, w4, w5, w6, w8, w7, w10, w11⟩ := w9
    refine T_aload_n (am_dec tX12_walkHere_1 7 rfl) rfl ?_
    refine T_aload_n (am_dec tX12_walkHere_1 8 rfl) rfl ?_
    refine T_getfield 11 4 (am_dec tX12_walkHere_1 9 rfl) flX12_169_11 (md_obj hl) rfl ?_
    refine T_callV (as := [aI (c 0 4)]) rfl (am_dec tX12_walkHere_1 10 rfl) lkX12_172 (md_obj hl) rfl rfl (Nat.le_of_ble_eq_true rfl) (by omega) (mk_byteAt (d := d - 1) hl (c 0 4)  (by omega) ) (fun _ => ?_)
    refine T_nm (fun n81 hn81 => ?_)
    have hs81 : ((c 0 4) < c 0 2 ∧ n81 = c 1 (c 0 4).toNat) ∨ (c 0 2 ≤ (c 0 4) ∧ n81 = -1) := by rw [hn81]; exact k_byteAt_s _ _
    refine T_callS (as := [aI n81]) rfl (am_dec tX12_walkHere_1 11 rfl) lkX12_198 rfl (Nat.le_of_ble_eq_true rfl) (by omega) (mk_isSmall (d := d - 1)  n81   ) (fun _ => ?_)
    refine T_nm (fun z84 hz84 => ?_)
    have hb84 := k_isSmall_b n81
    rw [← hz84] at hb84
    have hs84 := k_isSmall_s n81
    rw [← hz84] at hs84
    refine T_if_eq 240 (am_dec tX12_walkHere_1 12 rfl) rfl (fun h87 => ?_) (fun h87 => ?_)
    · refine T_weak (ls' := [none, some (aR (b + (103 + k.toNat))), none, none, none, some (aI m), none, none]) (am_sub_n (am_sub_s (am_sub_n (am_sub_n (am_sub_n (am_sub_s (am_sub_n (am_sub_n am_sub_nil)))))))) ?_
      have e9 : (w_k_walkHere_76 k here) (x, y, m, c) = .inr (x, y, m, c) := (by have s9 := hn81.symm; subst s9; have s9 := hz84.symm; subst s9; exact (if_pos h87))
      simp only [am_wh_r e9] at k9
      exact k9 _ _ _ _ rfl rfl rfl rfl hinv
    · refine T_aload_n (am_dec tX12_walkHere_1 13 rfl) rfl ?_
      refine T_aload_n (am_dec tX12_walkHere_1 14 rfl) rfl ?_
      refine T_getfield 11 4 (am_dec tX12_walkHere_1 15 rfl) flX12_169_11 (md_obj hl) rfl ?_
      refine T_callV (as := [aI (c 0 4)]) rfl (am_dec tX12_walkHere_1 16 rfl) lkX12_172 (md_obj hl) rfl rfl (Nat.le_of_ble_eq_true rfl) (by omega) (mk_byteAt (d := d - 1) hl (c 0 4)  (by omega) ) (fun _ => ?_)
      refine T_nm (fun n95 hn95 => ?_)
      have hs95 : ((c 0 4) < c 0 2 ∧ n95 = c 1 (c 0 4).toNat) ∨ (c 0 2 ≤ (c 0 4) ∧ n95 = -1) := by rw [hn95]; exact k_byteAt_s _ _
      refine T_istore (ls' := [some (aR b), some (aR (b + (103 + k.toNat))), some (aI here), some (aI x), some (aI y), some (aI m), some (aI n95), none]) (am_dec tX12_walkHere_1 17 rfl) (by decide) rfl ?_
      refine T_iload (am_dec tX12_walkHere_1 18 rfl) rfl ?_
      refine T_bipush 12 (am_dec tX12_walkHere_1 19 rfl) rfl ⟨by decide, by decide⟩ ?_
      have K104 : ∀ (t104 : Int), t104 = (if 12 ≤ m then 0 else (if n95 = 110 then 1 else (if n95 = 115 then 1 else (if n95 = 119 then 1 else (if n95 = 101 then 1 else (if n95 = 111 then 1 else 0)))))) →  am_T S zX12_walkHere d u Q 147 [some (aR b), some (aR (b + (103 + k.toNat))), some (aI here), some (aI x), some (aI y), some (aI m), some (aI n95), none] [aI t104] (mdW w b c q) := by
        intro t104 ht104 
        have hbt104 : t104 = 0 ∨ t104 = 1 := by
          rw [ht104]
          try dsimp only
          repeat' split
          all_goals first | exact Or.inl rfl | exact Or.inr rfl | apply k_in_b | apply k_isDigit_b | apply k_isSmall_b | apply k_bad_b | apply k_isIn_b | apply k_isStep_b | apply k_isFirst_b | apply k_isLine_b | apply k_seesBy_b | apply k_isWalker_b | apply k_seesOne_b | apply k_badTwo_b | apply k_sees_b | apply k_isCode_b | apply k_isLot_b | apply k_isShip_b | apply k_areRight_b | apply k_right_b | apply k_areSeeds_b | apply k_badBid_b | apply k_isWord_b | apply k_takes_b | apply k_takesSign_b | apply k_isFull_b | omega
        refine T_istore (ls' := [some (aR b), some (aR (b + (103 + k.toNat))), some (aI here), some (aI x), some (aI y), some (aI m), some (aI n95), some (aI t104)]) (am_dec tX12_walkHere_1 39 rfl) (by decide) rfl ?_
        refine T_iload_n (am_dec tX12_walkHere_2 0 rfl) rfl ?_
        refine T_iload (am_dec tX12_walkHere_2 1 rfl) rfl ?_
        refine T_iconst 1 (am_dec tX12_walkHere_2 2 rfl) rfl ⟨by decide, by decide⟩ ?_
        refine T_callS (as := [aI n95, aI 1]) rfl (am_dec tX12_walkHere_2 3 rfl) lkX12_271 rfl (Nat.le_of_ble_eq_true rfl) (by omega) (mk_goesBy (d := d - 1)  n95 1   ) (fun _ => ?_)
        refine T_nm (fun n153 hn153 => ?_)
        have hs153 := k_goesBy_b n95 1
        rw [← hn153] at hs153
        refine T_iaddW (am_w32 (x + n153)) (am_dec tX12_walkHere_2 4 rfl) (am_w32e _).symm (am_w32r _) ?_
        refine T_nm (fun x_157 hx_157 => ?_)
        refine T_istore_n (ls' := [some (aR b), some (aR (b + (103 + k.toNat))), some (aI here), some (aI x_157), some (aI y), some (aI m), some (aI n95), some (aI t104)]) (am_dec tX12_walkHere_2 5 rfl) (by decide) rfl ?_
        refine T_iload (am_dec tX12_walkHere_2 6 rfl) rfl ?_
        refine T_iload (am_dec tX12_walkHere_2 7 rfl) rfl ?_
        refine T_iconst 0 (am_dec tX12_walkHere_2 8 rfl) rfl ⟨by decide, by decide⟩ ?_
        refine T_callS (as := [aI n95, aI 0]) rfl (am_dec tX12_walkHere_2 9 rfl) lkX12_271 rfl (Nat.le_of_ble_eq_true rfl) (by omega) (mk_goesBy (d := d - 1)  n95 0   ) (fun _ => ?_)
        refine T_nm (fun n163 hn163 => ?_)
        have hs163 := k_goesBy_b n95 0
        rw [← hn163] at hs163
        refine T_iaddW (am_w32 (y + n163)) (am_dec tX12_walkHere_2 10 rfl) (am_w32e _).symm (am_w32r _) ?_
        refine T_nm (fun y_167 hy_167 => ?_)
        refine T_istore (ls' := [some (aR b), some (aR (b + (103 + k.toNat))), some (aI here), some (aI x_157), some (aI y_167), some (aI m), some (aI n95), some (aI t104)]) (am_dec tX12_walkHere_2 11 rfl) (by decide) rfl ?_
        refine T_iload (am_dec tX12_walkHere_2 12 rfl) rfl ?_
        have K171 : ∀ (c171 : am_F), c171 = (if t104 = 0 then k_wrong c 2 here else (let z184 : Int := (k_in x_157 0 ((c 3 0) - 1)); (if z184 = 0 then k_wrong c 2 here else (let z201 : Int := (k_in y_167 0 ((c 3 1) - 1)); (if z201 = 0 then k_wrong c 2 here else (am_put c (103 + k.toNat) ((4 + m).toNat) n95)))))) → RdV c171 → Ly c c171 → c171 0 4 = c 0 4 →  am_T S zX12_walkHere d u Q 224 [some (aR b), some (aR (b + (103 + k.toNat))), some (aI here), some (aI x_157), some (aI y_167), some (aI m), none, none] [] (mdW w b c171 q) := by
          intro c171 hc171 hR_c171 hx_c171 h4_c171
          have hR9 := hR_c171
          obtain ⟨ra_c171, rb_c171, rc_c171⟩ := hR9
          have hz_c171 : c171 0 2 = c 0 2 := hx_c171.2 2 (by decide) (by decide) (by decide)
          refine T_iinc (ls' := [some (aR b), some (aR (b + (103 + k.toNat))), some (aI here), some (aI x_157), some (aI y_167), some (aI (m + 1)), none, none]) (m + 1) (am_dec tX12_walkHere_3 5 rfl) rfl rfl ⟨by omega, by omega⟩ (by decide) rfl ?_
          refine T_aload_n (am_dec tX12_walkHere_3 6 rfl) rfl ?_
          refine T_dup (am_dec tX12_walkHere_3 7 rfl) rfl ?_
          refine T_getfield 11 4 (am_dec tX12_walkHere_3 8 rfl) flX12_169_11 (md_obj hl) rfl ?_
          refine T_iconst 1 (am_dec tX12_walkHere_3 9 rfl) rfl ⟨by decide, by decide⟩ ?_
          refine T_iadd ((c171 0 4) + 1) (am_dec tX12_walkHere_3 10 rfl) rfl ⟨by omega, by omega⟩ ?_
          refine T_putfield (fs' := mdO b (am_up (c171 0) 4 ((c171 0 4) + 1)) (q 0)) 11 4 (am_dec tX12_walkHere_3 11 rfl) flX12_169_11 rfl rfl rfl trivial (md_obj hl) (Nat.le_of_ble_eq_true rfl) rfl ?_
          refine am_wE (w2 := mdW w b (am_put c171 0 4 ((c171 0 4) + 1)) q) (md_fc) ?_
          refine T_goto 76 (am_dec tX12_walkHere_3 12 rfl) rfl ?_
          have e9 : (w_k_walkHere_76 k here) (x, y, m, c) = .inl (x_157, y_167, m + 1, (am_put c171 0 4 ((c171 0 4) + 1))) := (by have s9 := hn81.symm; subst s9; have s9 := hz84.symm; subst s9; have s9 := hn95.symm; subst s9; have s9 := ht104.symm; subst s9; have s9 := hn153.symm; subst s9; have s9 := hx_157.symm; subst s9; have s9 := hn163.symm; subst s9; have s9 := hy_167.symm; subst s9; have s9 := hc171.symm; subst s9; exact (if_neg h87))
          simp only [am_wh_l e9] at k9
          exact ih x_157 y_167 (m + 1) (am_put c171 0 4 ((c171 0 4) + 1)) (by rw [am_put_s, am_put_i (by decide)]; omega) ⟨(RdV_p4 hR_c171 (by omega) (show ((c171 0 4) + 1) ≤ c171 0 2 by omega)), RW_y (Ly_t hx_c171 (Ly_x (Lx_p (by omega)))) hRW, by omega, (show m + 1 ≤ (c171 0 4) + 1 by omega)⟩ k9
        refine T_if_eq 207 (am_dec tX12_walkHere_2 13 rfl) rfl (fun h171 => ?_) (fun h171 => ?_)
        · refine T_aload_n (am_dec tX12_walkHere_2 34 rfl) rfl ?_
          refine T_iconst 2 (am_dec tX12_walkHere_2 35 rfl) rfl ⟨by decide, by decide⟩ ?_
          refine T_iload_n (am_dec tX12_walkHere_2 36 rfl) rfl ?_
          refine T_callV (as := [aI 2, aI here]) rfl (am_dec tX12_walkHere_2 37 rfl) lkX12_189 (md_obj hl) rfl rfl (Nat.le_of_ble_eq_true rfl) (by omega) (mk_wrong (d := d - 1) hl 2 here   ) (fun _ => ?_)
          refine T_nmH (W := fun x9 => mdW w b x9 q) (v := k_wrong c 2 here) (fun c210 hc210 => ?_)
          have hR210 : RdV c210 := by rw [hc210]; exact (k_wrong_x hR).1
          have hR9 := hR210
          obtain ⟨ra210, rb210, rc210⟩ := hR9
          have hx210 : Ly c c210 := Ly_t Ly_r (Ly_x (by rw [hc210]; exact (k_wrong_x hR).2))
          have hz210 : c210 0 2 = c 0 2 := hx210.2 2 (by decide) (by decide) (by decide)
          have ht210_0 : c210 3 0 = c 3 0 := congrFun hx210.1 0
          have ht210_1 : c210 3 1 = c 3 1 := congrFun hx210.1 1
          have h4_210 : c210 0 4 = c 0 4 := by rw [hc210]; exact k_wrong_4
          refine T_goto 224 (am_dec tX12_walkHere_2 38 rfl) rfl ?_
          refine T_weak (ls' := [some (aR b), some (aR (b + (103 + k.toNat))), some (aI here), some (aI x_157), some (aI y_167), some (aI m), none, none]) (am_sub_s (am_sub_s (am_sub_s (am_sub_s (am_sub_s (am_sub_s (am_sub_n (am_sub_n am_sub_nil)))))))) ?_
          exact K171 _ (by have s9 := hc210.symm; subst s9; exact (if_pos h171).symm) hR210 hx210 h4_210
        · refine T_iload_n (am_dec tX12_walkHere_2 14 rfl) rfl ?_
          refine T_iconst 0 (am_dec tX12_walkHere_2 15 rfl) rfl ⟨by decide, by decide⟩ ?_
          refine T_aload_n (am_dec tX12_walkHere_2 16 rfl) rfl ?_
          refine T_getfield 11 10 (am_dec tX12_walkHere_2 17 rfl) flX12_20_11 (md_obj hl) rfl ?_
          refine T_iconst 0 (am_dec tX12_walkHere_2 18 rfl) rfl ⟨by decide, by decide⟩ ?_
          refine T_ialoadE (x := c 3 0) (am_dec tX12_walkHere_2 19 rfl) (md_readTold hl) (by omega) (by omega) rfl ?_
          refine T_iconst 1 (am_dec tX12_walkHere_2 20 rfl) rfl ⟨by decide, by decide⟩ ?_
          refine T_isub ((c 3 0) - 1) (am_dec tX12_walkHere_2 21 rfl) rfl ⟨by omega, by omega⟩ ?_
          refine T_callS (as := [aI x_157, aI 0, aI ((c 3 0) - 1)]) rfl (am_dec tX12_walkHere_2 22 rfl) lkX12_194 rfl (Nat.le_of_ble_eq_true rfl) (by omega) (mk_in (d := d - 1)  x_157 0 ((c 3 0) - 1)   ) (fun _ => ?_)
          refine T_nm (fun z184 hz184 => ?_)
          have hb184 := k_in_b x_157 0 ((c 3 0) - 1)
          rw [← hz184] at hb184
          have hs184 := k_in_s x_157 0 ((c 3 0) - 1)
          rw [← hz184] at hs184
          have K187 : ∀ (c187 : am_F), c187 = (if z184 = 0 then k_wrong c 2 here else (let z201 : Int := (k_in y_167 0 ((c 3 1) - 1)); (if z201 = 0 then k_wrong c 2 here else (am_put c (103 + k.toNat) ((4 + m).toNat) n95)))) → RdV c187 → Ly c c187 → c187 0 4 = c 0 4 →  am_T S zX12_walkHere d u Q 224 [some (aR b), some (aR (b + (103 + k.toNat))), some (aI here), some (aI x_157), some (aI y_167), some (aI m), none, none] [] (mdW w b c187 q) := by
            intro c187 hc187 hR_c187 hx_c187 h4_c187
            have hR9 := hR_c187
            obtain ⟨ra_c187, rb_c187, rc_c187⟩ := hR9
            have hz_c187 : c187 0 2 = c 0 2 := hx_c187.2 2 (by decide) (by decide) (by decide)
            exact K171 _ (by have s9 := hz184.symm; subst s9; have s9 := hc187.symm; subst s9; exact (if_neg h171).symm) hR_c187 hx_c187 h4_c187
          refine T_if_eq 207 (am_dec tX12_walkHere_2 23 rfl) rfl (fun h187 => ?_) (fun h187 => ?_)
          · refine T_aload_n (am_dec tX12_walkHere_2 34 rfl) rfl ?_
            refine T_iconst 2 (am_dec tX12_walkHere_2 35 rfl) rfl ⟨by decide, by decide⟩ ?_
            refine T_iload_n (am_dec tX12_walkHere_2 36 rfl) rfl ?_
            refine T_callV (as := [aI 2, aI here]) rfl (am_dec tX12_walkHere_2 37 rfl) lkX12_189 (md_obj hl) rfl rfl (Nat.le_of_ble_eq_true rfl) (by omega) (mk_wrong (d := d - 1) hl 2 here   ) (fun _ => ?_)
            refine T_nmH (W := fun x9 => mdW w b x9 q) (v := k_wrong c 2 here) (fun c210 hc210 => ?_)
            have hR210 : RdV c210 := by rw [hc210]; exact (k_wrong_x hR).1
            have hR9 := hR210
            obtain ⟨ra210, rb210, rc210⟩ := hR9
            have hx210 : Ly c c210 := Ly_t Ly_r (Ly_x (by rw [hc210]; exact (k_wrong_x hR).2))
            have hz210 : c210 0 2 = c 0 2 := hx210.2 2 (by decide) (by decide) (by decide)
            have ht210_0 : c210 3 0 = c 3 0 := congrFun hx210.1 0
            have ht210_1 : c210 3 1 = c 3 1 := congrFun hx210.1 1
            have h4_210 : c210 0 4 = c 0 4 := by rw [hc210]; exact k_wrong_4
            refine T_goto 224 (am_dec tX12_walkHere_2 38 rfl) rfl ?_
            refine T_weak (ls' := [some (aR b), some (aR (b + (103 + k.toNat))), some (aI here), some (aI x_157), some (aI y_167), some (aI m), none, none]) (am_sub_s (am_sub_s (am_sub_s (am_sub_s (am_sub_s (am_sub_s (am_sub_n (am_sub_n am_sub_nil)))))))) ?_
            exact K187 _ (by have s9 := hc210.symm; subst s9; exact (if_pos h187).symm) hR210 hx210 h4_210
          · refine T_iload (am_dec tX12_walkHere_2 24 rfl) rfl ?_
            refine T_iconst 0 (am_dec tX12_walkHere_2 25 rfl) rfl ⟨by decide, by decide⟩ ?_
            refine T_aload_n (am_dec tX12_walkHere_2 26 rfl) rfl ?_
            refine T_getfield 11 10 (am_dec tX12_walkHere_2 27 rfl) flX12_20_11 (md_obj hl) rfl ?_
            refine T_iconst 1 (am_dec tX12_walkHere_2 28 rfl) rfl ⟨by decide, by decide⟩ ?_
            refine T_ialoadE (x := c 3 1) (am_dec tX12_walkHere_2 29 rfl) (md_readTold hl) (by omega) (by omega) rfl ?_
            refine T_iconst 1 (am_dec tX12_walkHere_2 30 rfl) rfl ⟨by decide, by decide⟩ ?_
            refine T_isub ((c 3 1) - 1) (am_dec tX12_walkHere_2 31 rfl) rfl ⟨by omega, by omega⟩ ?_
            refine T_callS (as := [aI y_167, aI 0, aI ((c 3 1) - 1)]) rfl (am_dec tX12_walkHere_2 32 rfl) lkX12_194 rfl (Nat.le_of_ble_eq_true rfl) (by omega) (mk_in (d := d - 1)  y_167 0 ((c 3 1) - 1)   ) (fun _ => ?_)
            refine T_nm (fun z201 hz201 => ?_)
            have hb201 := k_in_b y_167 0 ((c 3 1) - 1)
            rw [← hz201] at hb201
            have hs201 := k_in_s y_167 0 ((c 3 1) - 1)
            rw [← hz201] at hs201
            have K204 : ∀ (c204 : am_F), c204 = (if z201 = 0 then k_wrong c 2 here else (am_put c (103 + k.toNat) ((4 + m).toNat) n95)) → RdV c204 → Ly c c204 → c204 0 4 = c 0 4 →  am_T S zX12_walkHere d u Q 224 [some (aR b), some (aR (b + (103 + k.toNat))), some (aI here), some (aI x_157), some (aI y_167), some (aI m), none, none] [] (mdW w b c204 q) := by
              intro c204 hc204 hR_c204 hx_c204 h4_c204
              have hR9 := hR_c204
              obtain ⟨ra_c204, rb_c204, rc_c204⟩ := hR9
              have hz_c204 : c204 0 2 = c 0 2 := hx_c204.2 2 (by decide) (by decide) (by decide)
              exact K187 _ (by have s9 := hz201.symm; subst s9; have s9 := hc204.symm; subst s9; exact (if_neg h187).symm) hR_c204 hx_c204 h4_c204
            refine T_if_ne 216 (am_dec tX12_walkHere_2 33 rfl) rfl (fun h204 => ?_) (fun h204 => ?_)
            · refine T_aload_n (am_dec tX12_walkHere_2 39 rfl) rfl ?_
              refine T_iconst 4 (am_dec tX12_walkHere_3 0 rfl) rfl ⟨by decide, by decide⟩ ?_
              refine T_iload (am_dec tX12_walkHere_3 1 rfl) rfl ?_
              refine T_iadd (4 + m) (am_dec tX12_walkHere_3 2 rfl) rfl ⟨by omega, by omega⟩ ?_
              refine T_iload (am_dec tX12_walkHere_3 3 rfl) rfl ?_
              refine T_iastore (am_dec tX12_walkHere_3 4 rfl) (mr_readWalker hl (i := k) (by omega) (by omega)) (by omega) (by omega) ?_
              refine am_wE (w2 := mdW w b (am_put c (103 + k.toNat) ((4 + m).toNat) n95) q) (md_pc (by omega) (fun f g => md_t_readWalker f g (by omega))) ?_
              refine T_weak (ls' := [some (aR b), some (aR (b + (103 + k.toNat))), some (aI here), some (aI x_157), some (aI y_167), some (aI m), none, none]) (am_sub_s (am_sub_s (am_sub_s (am_sub_s (am_sub_s (am_sub_s (am_sub_n (am_sub_n am_sub_nil)))))))) ?_
              exact K204 _ (if_neg h204).symm (RdV_k (k := (103 + k.toNat)) (i := ((4 + m).toNat)) (v := n95) (by omega) (by omega) hR) (Ly_t Ly_r (Ly_k (k := (103 + k.toNat)) (i := ((4 + m).toNat)) (v := n95) (by omega) (by omega))) (am_put_k (by omega))
            · refine T_aload_n (am_dec tX12_walkHere_2 34 rfl) rfl ?_
              refine T_iconst 2 (am_dec tX12_walkHere_2 35 rfl) rfl ⟨by decide, by decide⟩ ?_
              refine T_iload_n (am_dec tX12_walkHere_2 36 rfl) rfl ?_
              refine T_callV (as := [aI 2, aI here]) rfl (am_dec tX12_walkHere_2 37 rfl) lkX12_189 (md_obj hl) rfl rfl (Nat.le_of_ble_eq_true rfl) (by omega) (mk_wrong (d := d - 1) hl 2 here   ) (fun _ => ?_)
              refine T_nmH (W := fun x9 => mdW w b x9 q) (v := k_wrong c 2 here) (fun c210 hc210 => ?_)
              have hR210 : RdV c210 := by rw [hc210]; exact (k_wrong_x hR).1
              have hR9 := hR210
              obtain ⟨ra210, rb210, rc210⟩ := hR9
              have hx210 : Ly c c210 := Ly_t Ly_r (Ly_x (by rw [hc210]; exact (k_wrong_x hR).2))
              have hz210 : c210 0 2 = c 0 2 := hx210.2 2 (by decide) (by decide) (by decide)
              have ht210_0 : c210 3 0 = c 3 0 := congrFun hx210.1 0
              have ht210_1 : c210 3 1 = c 3 1 := congrFun hx210.1 1
              have h4_210 : c210 0 4 = c 0 4 := by rw [hc210]; exact k_wrong_4
              refine T_goto 224 (am_dec tX12_walkHere_2 38 rfl) rfl ?_
              refine T_weak (ls' := [some (aR b), some (aR (b + (103 + k.toNat))), some (aI here), some (aI x_157), some (aI y_167), some (aI m), none, none]) (am_sub_s (am_sub_s (am_sub_s (am_sub_s (am_sub_s (am_sub_s (am_sub_n (am_sub_n am_sub_nil)))))))) ?_
              exact K204 _ (by have s9 := hc210.symm; subst s9; exact (if_pos h204).symm) hR210 hx210 h4_210
      refine T_icmp_ge 146 (am_dec tX12_walkHere_1 20 rfl) rfl (fun h104 => ?_) (fun h104 => ?_)
      · refine T_iconst 0 (am_dec tX12_walkHere_1 38 rfl) rfl ⟨by decide, by decide⟩ ?_
        exact K104 _ (if_pos h104).symm 
      · refine T_iload (am_dec tX12_walkHere_1 21 rfl) rfl ?_
        refine T_bipush 110 (am_dec tX12_walkHere_1 22 rfl) rfl ⟨by decide, by decide⟩ ?_
        have K111 : ∀ (t111 : Int), t111 = (if n95 = 110 then 1 else (if n95 = 115 then 1 else (if n95 = 119 then 1 else (if n95 = 101 then 1 else (if n95 = 111 then 1 else 0))))) →  am_T S zX12_walkHere d u Q 147 [some (aR b), some (aR (b + (103 + k.toNat))), some (aI here), some (aI x), some (aI y), some (aI m), some (aI n95), none] [aI t111] (mdW w b c q) := by
          intro t111 ht111 
          have hbt111 : t111 = 0 ∨ t111 = 1 := by
            rw [ht111]
            try dsimp only
            repeat' split
            all_goals first | exact Or.inl rfl | exact Or.inr rfl | apply k_in_b | apply k_isDigit_b | apply k_isSmall_b | apply k_bad_b | apply k_isIn_b | apply k_isStep_b | apply k_isFirst_b | apply k_isLine_b | apply k_seesBy_b | apply k_isWalker_b | apply k_seesOne_b | apply k_badTwo_b | apply k_sees_b | apply k_isCode_b | apply k_isLot_b | apply k_isShip_b | apply k_areRight_b | apply k_right_b | apply k_areSeeds_b | apply k_badBid_b | apply k_isWord_b | apply k_takes_b | apply k_takesSign_b | apply k_isFull_b | omega
          exact K104 _ (by have s9 := ht111.symm; subst s9; exact (if_neg h104).symm) 
        refine T_icmp_eq 142 (am_dec tX12_walkHere_1 23 rfl) rfl (fun h111 => ?_) (fun h111 => ?_)
        · refine T_iconst 1 (am_dec tX12_walkHere_1 36 rfl) rfl ⟨by decide, by decide⟩ ?_
          refine T_goto 147 (am_dec tX12_walkHere_1 37 rfl) rfl ?_
          exact K111 _ (if_pos h111).symm 
        · refine T_iload (am_dec tX12_walkHere_1 24 rfl) rfl ?_
          refine T_bipush 115 (am_dec tX12_walkHere_1 25 rfl) rfl ⟨by decide, by decide⟩ ?_
          have K118 : ∀ (t118 : Int), t118 = (if n95 = 115 then 1 else (if n95 = 119 then 1 else (if n95 = 101 then 1 else (if n95 = 111 then 1 else 0)))) →  am_T S zX12_walkHere d u Q 147 [some (aR b), some (aR (b + (103 + k.toNat))), some (aI here), some (aI x), some (aI y), some (aI m), some (aI n95), none] [aI t118] (mdW w b c q) := by
            intro t118 ht118 
            have hbt118 : t118 = 0 ∨ t118 = 1 := by
              rw [ht118]
              try dsimp only
              repeat' split
              all_goals first | exact Or.inl rfl | exact Or.inr rfl | apply k_in_b | apply k_isDigit_b | apply k_isSmall_b | apply k_bad_b | apply k_isIn_b | apply k_isStep_b | apply k_isFirst_b | apply k_isLine_b | apply k_seesBy_b | apply k_isWalker_b | apply k_seesOne_b | apply k_badTwo_b | apply k_sees_b | apply k_isCode_b | apply k_isLot_b | apply k_isShip_b | apply k_areRight_b | apply k_right_b | apply k_areSeeds_b | apply k_badBid_b | apply k_isWord_b | apply k_takes_b | apply k_takesSign_b | apply k_isFull_b | omega
            exact K111 _ (by have s9 := ht118.symm; subst s9; exact (if_neg h111).symm) 
          refine T_icmp_eq 142 (am_dec tX12_walkHere_1 26 rfl) rfl (fun h118 => ?_) (fun h118 => ?_)
          · refine T_iconst 1 (am_dec tX12_walkHere_1 36 rfl) rfl ⟨by decide, by decide⟩ ?_
            refine T_goto 147 (am_dec tX12_walkHere_1 37 rfl) rfl ?_
            exact K118 _ (if_pos h118).symm 
          · refine T_iload (am_dec tX12_walkHere_1 27 rfl) rfl ?_
            refine T_bipush 119 (am_dec tX12_walkHere_1 28 rfl) rfl ⟨by decide, by decide⟩ ?_
            have K125 : ∀ (t125 : Int), t125 = (if n95 = 119 then 1 else (if n95 = 101 then 1 else (if n95 = 111 then 1 else 0))) →  am_T S zX12_walkHere d u Q 147 [some (aR b), some (aR (b + (103 + k.toNat))), some (aI here), some (aI x), some (aI y), some (aI m), some (aI n95), none] [aI t125] (mdW w b c q) := by
              intro t125 ht125 
              have hbt125 : t125 = 0 ∨ t125 = 1 := by
                rw [ht125]
                try dsimp only
                repeat' split
                all_goals first | exact Or.inl rfl | exact Or.inr rfl | apply k_in_b | apply k_isDigit_b | apply k_isSmall_b | apply k_bad_b | apply k_isIn_b | apply k_isStep_b | apply k_isFirst_b | apply k_isLine_b | apply k_seesBy_b | apply k_isWalker_b | apply k_seesOne_b | apply k_badTwo_b | apply k_sees_b | apply k_isCode_b | apply k_isLot_b | apply k_isShip_b | apply k_areRight_b | apply k_right_b | apply k_areSeeds_b | apply k_badBid_b | apply k_isWord_b | apply k_takes_b | apply k_takesSign_b | apply k_isFull_b | omega
              exact K118 _ (by have s9 := ht125.symm; subst s9; exact (if_neg h118).symm) 
            refine T_icmp_eq 142 (am_dec tX12_walkHere_1 29 rfl) rfl (fun h125 => ?_) (fun h125 => ?_)
            · refine T_iconst 1 (am_dec tX12_walkHere_1 36 rfl) rfl ⟨by decide, by decide⟩ ?_
              refine T_goto 147 (am_dec tX12_walkHere_1 37 rfl) rfl ?_
              exact K125 _ (if_pos h125).symm 
            · refine T_iload (am_dec tX12_walkHere_1 30 rfl) rfl ?_
              refine T_bipush 101 (am_dec tX12_walkHere_1 31 rfl) rfl ⟨by decide, by decide⟩ ?_
              have K132 : ∀ (t132 : Int), t132 = (if n95 = 101 then 1 else (if n95 = 111 then 1 else 0)) →  am_T S zX12_walkHere d u Q 147 [some (aR b), some (aR (b + (103 + k.toNat))), some (aI here), some (aI x), some (aI y), some (aI m), some (aI n95), none] [aI t132] (mdW w b c q) := by
                intro t132 ht132 
                have hbt132 : t132 = 0 ∨ t132 = 1 := by
                  rw [ht132]
                  try dsimp only
                  repeat' split
                  all_goals first | exact Or.inl rfl | exact Or.inr rfl | apply k_in_b | apply k_isDigit_b | apply k_isSmall_b | apply k_bad_b | apply k_isIn_b | apply k_isStep_b | apply k_isFirst_b | apply k_isLine_b | apply k_seesBy_b | apply k_isWalker_b | apply k_seesOne_b | apply k_badTwo_b | apply k_sees_b | apply k_isCode_b | apply k_isLot_b | apply k_isShip_b | apply k_areRight_b | apply k_right_b | apply k_areSeeds_b | apply k_badBid_b | apply k_isWord_b | apply k_takes_b | apply k_takesSign_b | apply k_isFull_b | omega
                exact K125 _ (by have s9 := ht132.symm; subst s9; exact (if_neg h125).symm) 
              refine T_icmp_eq 142 (am_dec tX12_walkHere_1 32 rfl) rfl (fun h132 => ?_) (fun h132 => ?_)
              · refine T_iconst 1 (am_dec tX12_walkHere_1 36 rfl) rfl ⟨by decide, by decide⟩ ?_
                refine T_goto 147 (am_dec tX12_walkHere_1 37 rfl) rfl ?_
                exact K132 _ (if_pos h132).symm 
              · refine T_iload (am_dec tX12_walkHere_1 33 rfl) rfl ?_
                refine T_bipush 111 (am_dec tX12_walkHere_1 34 rfl) rfl ⟨by decide, by decide⟩ ?_
                have K139 : ∀ (t139 : Int), t139 = (if n95 = 111 then 1 else 0) →  am_T S zX12_walkHere d u Q 147 [some (aR b), some (aR (b + (103 + k.toNat))), some (aI here), some (aI x), some (aI y), some (aI m), some (aI n95), none] [aI t139] (mdW w b c q) := by
                  intro t139 ht139 
                  have hbt139 : t139 = 0 ∨ t139 = 1 := by
                    rw [ht139]
                    try dsimp only
                    repeat' split
                    all_goals first | exact Or.inl rfl | exact Or.inr rfl | apply k_in_b | apply k_isDigit_b | apply k_isSmall_b | apply k_bad_b | apply k_isIn_b | apply k_isStep_b | apply k_isFirst_b | apply k_isLine_b | apply k_seesBy_b | apply k_isWalker_b | apply k_seesOne_b | apply k_badTwo_b | apply k_sees_b | apply k_isCode_b | apply k_isLot_b | apply k_isShip_b | apply k_areRight_b | apply k_right_b | apply k_areSeeds_b | apply k_badBid_b | apply k_isWord_b | apply k_takes_b | apply k_takesSign_b | apply k_isFull_b | omega
                  exact K132 _ (by have s9 := ht139.symm; subst s9; exact (if_neg h132).symm) 
                refine T_icmp_ne 146 (am_dec tX12_walkHere_1 35 rfl) rfl (fun h139 => ?_) (fun h139 => ?_)
                · refine T_iconst 0 (am_dec tX12_walkHere_1 38 rfl) rfl ⟨by decide, by decide⟩ ?_
                  exact K139 _ (if_neg h139).symm 
                · refine T_iconst 1 (am_dec tX12_walkHere_1 36 rfl) rfl ⟨by decide, by decide⟩ ?_
                  refine T_goto 147 (am_dec tX12_walkHere_1 37 rfl) rfl ?_
                  exact K139 _ (if_pos h139).symm 
def k_walkHere (c : am_F) (k : Int) : am_F := (let u3 : Int × am_F := k_acrossHere c; (let u10 : Int × am_F := k_downHere (am_put (u3).2 (103 + k.toNat) 0 ((u3).1)); (let u20 : Int × am_F := k_number (am_put (u10).2 (103 + k.toNat) 1 ((u10).1)) 0 39; (if (u20).2 0 5 = 0 then (let c33 : am_F := k_blanks (am_put (u20).2 (103 + k.toNat) 2 ((u20).1)); (let x_44 : Int := c33 (103 + k.toNat) 0; (let y_48 : Int := c33 (103 + k.toNat) 1; (let n58 : Int := (k_byteAt c33 (c33 0 4)); (let z61 : Int := (k_isSmall n58); (let c64 : am_F := (if z61 = 0 then k_wrong c33 1 (c33 0 4) else c33); (let m_76 : Int := (am_wh (w_k_walkHere_76 k (c33 0 4)) 601 (x_44, y_48, 0, c64)).2.2.1; (let c76 : am_F := (am_wh (w_k_walkHere_76 k (c33 0 4)) 601 (x_44, y_48, 0, c64)).2.2.2; (am_put c76 (103 + k.toNat) 3 m_76))))))))) else (am_put (u20).2 (103 + k.toNat) 2 ((u20).1))))))
theorem mk_walkHere {S : am_S} {d u : Nat} {w : AH} {b : Nat} (hl : b + 735 ≤ w.length) {c : am_F} {q : am_F} (k : Int) (hR : RdV c) (hRW : RW c) (hk : 0 ≤ k ∧ k < 4) (hd : 4 ≤ d) : am_Out S zX12_walkHere d u [aR b, aR (b + (103 + k.toNat))] (mdW w b c q) (.inl none) (mdW w b (k_walkHere c k) q) := by
  have key : ∀ Q : AO → AH → Prop, Q (.inl none) (mdW w b (k_walkHere c k) q) → am_M S zX12_walkHere d u [aR b, aR (b + (103 + k.toNat))] (mdW w b c q) Q := by
    intro Q hQ
    refine am_body rfl (by decide +kernel) rfl (am_cats_cons rfl ( am_cats_cons rfl (am_cats_nil))) (Nat.le_of_ble_eq_true rfl) (?_ : am_T _ _ _ _ _ 0 [some (aR b), some (aR (b + (103 + k.toNat))), none, none, none, none, none, none] [] (mdW w b c q))
    have hR9 := hR
    obtain ⟨r1, r2, r3⟩ := hR9
    have w9 := hRW
    obtain ⟨w0, w1, w2, w3, w4, w5, w6, w8, w7, w10, w11⟩ := w9
    refine T_aload_n (am_dec tX12_walkHere_0 0 rfl) rfl ?_
    refine T_iconst 0 (am_dec tX12_walkHere_0 1 rfl) rfl ⟨by decide, by decide⟩ ?_
    refine T_aload_n (am_dec tX12_walkHere_0 2 rfl) rfl ?_
    refine T_callV (as := []) rfl (am_dec tX12_walkHere_0 3 rfl) lkX12_242 (md_obj hl) rfl rfl (Nat.le_of_ble_eq_true rfl) (by omega) (mk_acrossHere (d := d - 1) hl   hR (RW_y Ly_r hRW).1 (by omega)) (fun _ => ?_)
    obtain ⟨u3, hu3⟩ : ∃ x9, x9 = k_acrossHere c := ⟨_, rfl⟩
    rw [← hu3]
    have hR3 : RdV (u3).2 := by rw [hu3]; exact (k_across_x hR).1
    have hR9 := hR3
    obtain ⟨ra3, rb3, rc3⟩ := hR9
    have hx3 : Ly c (u3).2 := Ly_t Ly_r (Ly_x (by rw [hu3]; exact (k_across_x hR).2.1))
    have hz3 : (u3).2 0 2 = c 0 2 := hx3.2 2 (by decide) (by decide) (by decide)
    have ht3_0 : (u3).2 3 0 = c 3 0 := congrFun hx3.1 0
    have ht3_1 : (u3).2 3 1 = c 3 1 := congrFun hx3.1 1
    have hv3 : ((u3).2 0 5 = 0 ∧ 0 ≤ (u3).1 ∧ (u3).1 ≤ (c 3 0 - 1)) ∨ ((u3).2 0 5 ≠ 0 ∧ (u3).1 = 0) := by rw [hu3]; have q9 := (k_across_x hR).2.2; exact q9
    have hf3 : (u3).2 0 5 = 0 → c 0 5 = 0 := by rw [hu3]; exact fun h9 => (k_across_5 h9)
    refine T_iastore (am_dec tX12_walkHere_0 4 rfl) (mr_readWalker hl (i := k) (by omega) (by omega)) (by omega) (by omega) ?_
    refine am_wE (w2 := mdW w b (am_put (u3).2 (103 + k.toNat) 0 ((u3).1)) q) (md_pc (by omega) (fun f g => md_t_readWalker f g (by omega))) ?_
    refine T_aload_n (am_dec tX12_walkHere_0 5 rfl) rfl ?_
    refine T_iconst 1 (am_dec tX12_walkHere_0 6 rfl) rfl ⟨by decide, by decide⟩ ?_
    refine T_aload_n (am_dec tX12_walkHere_0 7 rfl) rfl ?_
    refine T_callV (as := []) rfl (am_dec tX12_walkHere_0 8 rfl) lkX12_245 (md_obj hl) rfl rfl (Nat.le_of_ble_eq_true rfl) (by omega) (mk_downHere (d := d - 1) hl   (RdV_k (k := (103 + k.toNat)) (i := 0) (v := ((u3).1)) (by omega) (by omega) hR3) (RW_y (Ly_t hx3 (Ly_k (k := (103 + k.toNat)) (i := 0) (v := ((u3).1)) (by omega) (by omega))) hRW).2.1 (by omega)) (fun _ => ?_)
    obtain ⟨u10, hu10⟩ : ∃ x9, x9 = k_downHere (am_put (u3).2 (103 + k.toNat) 0 ((u3).1)) := ⟨_, rfl⟩
    rw [← hu10]
    have hR10 : RdV (u10).2 := by rw [hu10]; exact (k_down_x (RdV_k (k := (103 + k.toNat)) (i := 0) (v := ((u3).1)) (by omega) (by omega) hR3)).1
    have hR9 := hR10
    obtain ⟨ra10, rb10, rc10⟩ := hR9
    have hx10 : Ly c (u10).2 := Ly_t (Ly_t hx3 (Ly_k (k := (103 + k.toNat)) (i := 0) (v := ((u3).1)) (by omega) (by omega))) (Ly_x (by rw [hu10]; exact (k_down_x (RdV_k (k := (103 + k.toNat)) (i := 0) (v := ((u3).1)) (by omega) (by omega) hR3)).2.1))
    have hz10 : (u10).2 0 2 = c 0 2 := hx10.2 2 (by decide) (by decide) (by decide)
    have ht10_0 : (u10).2 3 0 = c 3 0 := congrFun hx10.1 0
    have ht10_1 : (u10).2 3 1 = c 3 1 := congrFun hx10.1 1
    have hv10 : ((u10).2 0 5 = 0 ∧ 0 ≤ (u10).1 ∧ (u10).1 ≤ ((u3).2 3 1 - 1)) ∨ ((u10).2 0 5 ≠ 0 ∧ (u10).1 = 0) := by rw [hu10]; have q9 := (k_down_x (RdV_k (k := (103 + k.toNat)) (i := 0) (v := ((u3).1)) (by omega) (by omega) hR3)).2.2; rw [show (am_put (u3).2 (103 + k.toNat) 0 ((u3).1)) 3 1 = (u3).2 3 1 from (am_put_k (by omega))] at q9; exact q9
    have hf10 : (u10).2 0 5 = 0 → (u3).2 0 5 = 0 := by rw [hu10]; exact fun h9 => (show (am_put (u3).2 (103 + k.toNat) 0 ((u3).1)) 0 5 = (u3).2 0 5 from (am_put_k (by omega))).symm.trans (k_down_5 h9)
    refine T_iastore (am_dec tX12_walkHere_0 9 rfl) (mr_readWalker hl (i := k) (by omega) (by omega)) (by omega) (by omega) ?_
    refine am_wE (w2 := mdW w b (am_put (u10).2 (103 + k.toNat) 1 ((u10).1)) q) (md_pc (by omega) (fun f g => md_t_readWalker f g (by omega))) ?_
    refine T_aload_n (am_dec tX12_walkHere_0 10 rfl) rfl ?_
    refine T_iconst 2 (am_dec tX12_walkHere_0 11 rfl) rfl ⟨by decide, by decide⟩ ?_
    refine T_aload_n (am_dec tX12_walkHere_0 12 rfl) rfl ?_
    refine T_iconst 0 (am_dec tX12_walkHere_0 13 rfl) rfl ⟨by decide, by decide⟩ ?_
    refine T_bipush 39 (am_dec tX12_walkHere_0 14 rfl) rfl ⟨by decide, by decide⟩ ?_
    refine T_callV (as := [aI 0, aI 39]) rfl (am_dec tX12_walkHere_0 15 rfl) lkX12_231 (md_obj hl) rfl rfl (Nat.le_of_ble_eq_true rfl) (by omega) (mk_number (d := d - 1) hl 0 39  (RdV_k (k := (103 + k.toNat)) (i := 1) (v := ((u10).1)) (by omega) (by omega) hR10) (by omega)) (fun _ => ?_)
    obtain ⟨u20, hu20⟩ : ∃ x9, x9 = k_number (am_put (u10).2 (103 + k.toNat) 1 ((u10).1)) 0 39 := ⟨_, rfl⟩
    rw [← hu20]
    have hR20 : RdV (u20).2 := by rw [hu20]; exact (k_number_x (RdV_k (k := (103 + k.toNat)) (i := 1) (v := ((u10).1)) (by omega) (by omega) hR10)).1
    have hR9 := hR20
    obtain ⟨ra20, rb20, rc20⟩ := hR9
    have hx20 : Ly c (u20).2 := Ly_t (Ly_t hx10 (Ly_k (k := (103 + k.toNat)) (i := 1) (v := ((u10).1)) (by omega) (by omega))) (Ly_x (by rw [hu20]; exact (k_number_x (RdV_k (k := (103 + k.toNat)) (i := 1) (v := ((u10).1)) (by omega) (by omega) hR10)).2.1))
    have hz20 : (u20).2 0 2 = c 0 2 := hx20.2 2 (by decide) (by decide) (by decide)
    have ht20_0 : (u20).2 3 0 = c 3 0 := congrFun hx20.1 0
    have ht20_1 : (u20).2 3 1 = c 3 1 := congrFun hx20.1 1
    have hv20 : ((u20).2 0 5 = 0 ∧ 0 ≤ (u20).1 ∧ (u20).1 ≤ 39) ∨ ((u20).2 0 5 ≠ 0 ∧ (u20).1 = 0) := by rw [hu20]; have q9 := (k_number_x (lo := 0) (hi := 39) (RdV_k (k := (103 + k.toNat)) (i := 1) (v := ((u10).1)) (by omega) (by omega) hR10)).2.2; exact q9
    have hf20 : (u20).2 0 5 = 0 → (u10).2 0 5 = 0 := by rw [hu20]; exact fun h9 => (show (am_put (u10).2 (103 + k.toNat) 1 ((u10).1)) 0 5 = (u10).2 0 5 from (am_put_k (by omega))).symm.trans (k_number_5 h9)
    refine T_iastore (am_dec tX12_walkHere_0 16 rfl) (mr_readWalker hl (i := k) (by omega) (by omega)) (by omega) (by omega) ?_
    refine am_wE (w2 := mdW w b (am_put (u20).2 (103 + k.toNat) 2 ((u20).1)) q) (md_pc (by omega) (fun f g => md_t_readWalker f g (by omega))) ?_
    refine T_aload_n (am_dec tX12_walkHere_0 17 rfl) rfl ?_
    refine T_getfield 11 5 (am_dec tX12_walkHere_0 18 rfl) flX12_176_11 (md_obj hl) (md_fe rfl (am_put_k (by omega))) ?_
    refine T_if_eq 32 (am_dec tX12_walkHere_0 19 rfl) rfl (fun h28 => ?_) (fun h28 => ?_)
    · refine T_aload_n (am_dec tX12_walkHere_0 21 rfl) rfl ?_
      refine T_callV (as := []) rfl (am_dec tX12_walkHere_0 22 rfl) lkX12_182 (md_obj hl) rfl rfl (Nat.le_of_ble_eq_true rfl) (by omega) (mk_blanks (d := d - 1) hl   (RdV_k (k := (103 + k.toNat)) (i := 2) (v := ((u20).1)) (by omega) (by omega) hR20) (by omega)) (fun _ => ?_)
      refine T_nmH (W := fun x9 => mdW w b x9 q) (v := k_blanks (am_put (u20).2 (103 + k.toNat) 2 ((u20).1))) (fun c33 hc33 => ?_)
      have hR33 : RdV c33 := by rw [hc33]; exact (k_blanks_x (RdV_k (k := (103 + k.toNat)) (i := 2) (v := ((u20).1)) (by omega) (by omega) hR20)).1
      have hR9 := hR33
      obtain ⟨ra33, rb33, rc33⟩ := hR9
      have hx33 : Ly c c33 := Ly_t (Ly_t hx20 (Ly_k (k := (103 + k.toNat)) (i := 2) (v := ((u20).1)) (by omega) (by omega))) (Ly_x (by rw [hc33]; exact (k_blanks_x (RdV_k (k := (103 + k.toNat)) (i := 2) (v := ((u20).1)) (by omega) (by omega) hR20)).2))
      have hz33 : c33 0 2 = c 0 2 := hx33.2 2 (by decide) (by decide) (by decide)
      have ht33_0 : c33 3 0 = c 3 0 := congrFun hx33.1 0
      have ht33_1 : c33 3 1 = c 3 1 := congrFun hx33.1 1
      have hf33 : c33 0 5 = (u20).2 0 5 := by rw [hc33]; exact k_blanks_5.trans (am_put_k (by omega))
      refine T_aload_n (am_dec tX12_walkHere_0 23 rfl) rfl ?_
      refine T_getfield 11 4 (am_dec tX12_walkHere_0 24 rfl) flX12_169_11 (md_obj hl) rfl ?_
      refine T_istore_n (ls' := [some (aR b), some (aR (b + (103 + k.toNat))), some (aI (c33 0 4)), none, none, none, none, none]) (am_dec tX12_walkHere_0 25 rfl) (by decide) rfl ?_
      refine T_aload_n (am_dec tX12_walkHere_0 26 rfl) rfl ?_
      refine T_iconst 0 (am_dec tX12_walkHere_0 27 rfl) rfl ⟨by decide, by decide⟩ ?_
      refine T_ialoadE (x := c33 (103 + k.toNat) 0) (am_dec tX12_walkHere_0 28 rfl) (mr_readWalker hl (i := k) (by omega) (by omega)) (by omega) (by omega) rfl ?_
      refine T_nm (fun x_44 hx_44 => ?_)
      refine T_istore_n (ls' := [some (aR b), some (aR (b + (103 + k.toNat))), some (aI (c33 0 4)), some (aI x_44), none, none, none, none]) (am_dec tX12_walkHere_0 29 rfl) (by decide) rfl ?_
      refine T_aload_n (am_dec tX12_walkHere_0 30 rfl) rfl ?_
      refine T_iconst 1 (am_dec tX12_walkHere_0 31 rfl) rfl ⟨by decide, by decide⟩ ?_
      refine T_ialoadE (x := c33 (103 + k.toNat) 1) (am_dec tX12_walkHere_0 32 rfl) (mr_readWalker hl (i := k) (by omega) (by omega)) (by omega) (by omega) rfl ?_
      refine T_nm (fun y_48 hy_48 => ?_)
      refine T_istore (ls' := [some (aR b), some (aR (b + (103 + k.toNat))), some (aI (c33 0 4)), some (aI x_44), some (aI y_48), none, none, none]) (am_dec tX12_walkHere_0 33 rfl) (by decide) rfl ?_
      refine T_iconst 0 (am_dec tX12_walkHere_0 34 rfl) rfl ⟨by decide, by decide⟩ ?_
      refine T_istore (ls' := [some (aR b), some (aR (b + (103 + k.toNat))), some (aI (c33 0 4)), some (aI x_44), some (aI y_48), some (aI 0), none, none]) (am_dec tX12_walkHere_0 35 rfl) (by decide) rfl ?_
      refine T_aload_n (am_dec tX12_walkHere_0 36 rfl) rfl ?_
      refine T_aload_n (am_dec tX12_walkHere_0 37 rfl) rfl ?_
      refine T_getfield 11 4 (am_dec tX12_walkHere_0 38 rfl) flX12_169_11 (md_obj hl) rfl ?_
      refine T_callV (as := [aI (c33 0 4)]) rfl (am_dec tX12_walkHere_0 39 rfl) lkX12_172 (md_obj hl) rfl rfl (Nat.le_of_ble_eq_true rfl) (by omega) (mk_byteAt (d := d - 1) hl (c33 0 4)  (by omega) ) (fun _ => ?_)
      refine T_nm (fun n58 hn58 => ?_)
      have hs58 : ((c33 0 4) < c33 0 2 ∧ n58 = c33 1 (c33 0 4).toNat) ∨ (c33 0 2 ≤ (c33 0 4) ∧ n58 = -1) := by rw [hn58]; exact k_byteAt_s _ _
      refine T_callS (as := [aI n58]) rfl (am_dec tX12_walkHere_1 0 rfl) lkX12_198 rfl (Nat.le_of_ble_eq_true rfl) (by omega) (mk_isSmall (d := d - 1)  n58   ) (fun _ => ?_)
      refine T_nm (fun z61 hz61 => ?_)
      have hb61 := k_isSmall_b n58
      rw [← hz61] at hb61
      have hs61 := k_isSmall_s n58
      rw [← hz61] at hs61
      have K64 : ∀ (c64 : am_F), c64 = (if z61 = 0 then k_wrong c33 1 (c33 0 4) else c33) → RdV c64 → Ly c c64 → c64 0 4 = c33 0 4 →  am_T S zX12_walkHere d u Q 76 [some (aR b), some (aR (b + (103 + k.toNat))), some (aI (c33 0 4)), some (aI x_44), some (aI y_48), some (aI 0), none, none] [] (mdW w b c64 q) := by
        intro c64 hc64 hR_c64 hx_c64 h4_c64
        have hR9 := hR_c64
        obtain ⟨ra_c64, rb_c64, rc_c64⟩ := hR9
        have hz_c64 : c64 0 2 = c 0 2 := hx_c64.2 2 (by decide) (by decide) (by decide)
        refine L_k_walkHere_76 hl q k (c33 0 4)  (by omega) (by omega) 601 x_44 y_48 0 c64 (by omega) ⟨hR_c64, RW_y hx_c64 hRW, by omega, (show 0 ≤ c64 0 4 by omega)⟩ (fun x_76 y_76 m_76 c76 hx_76 hy_76 hm_76 hc76 hv76 => ?_)
        refine T_aload_n (am_dec tX12_walkHere_3 13 rfl) rfl ?_
        refine T_iconst 3 (am_dec tX12_walkHere_3 14 rfl) rfl ⟨by decide, by decide⟩ ?_
        refine T_iload (am_dec tX12_walkHere_3 15 rfl) rfl ?_
        refine T_iastore (am_dec tX12_walkHere_3 16 rfl) (mr_readWalker hl (i := k) (by omega) (by omega)) (by omega) (by omega) ?_
        refine am_wE (w2 := mdW w b (am_put c76 (103 + k.toNat) 3 m_76) q) (md_pc (by omega) (fun f g => md_t_readWalker f g (by omega))) ?_
        exact T_return (am_dec tX12_walkHere_3 17 rfl) rfl (am_tr (fun (x9 : am_F) => Q (.inl none) (mdW w b x9 q)) (y := (am_put c76 (103 + k.toNat) 3 m_76)) (show (k_walkHere c k) = (am_put c76 (103 + k.toNat) 3 m_76) from (by have s9 := hu3.symm; subst s9; have s9 := hu10.symm; subst s9; have s9 := hu20.symm; subst s9; have s9 := hc33.symm; subst s9; have s9 := hx_44.symm; subst s9; have s9 := hy_48.symm; subst s9; have s9 := hn58.symm; subst s9; have s9 := hz61.symm; subst s9; have s9 := hc64.symm; subst s9; have s9 := hx_76.symm; subst s9; have s9 := hy_76.symm; subst s9; have s9 := hm_76.symm; subst s9; have s9 := hc76.symm; subst s9; exact (if_pos h28))) hQ)
      refine T_if_ne 76 (am_dec tX12_walkHere_1 1 rfl) rfl (fun h64 => ?_) (fun h64 => ?_)
      · exact K64 _ (if_neg h64).symm hR33 hx33 rfl
      · refine T_aload_n (am_dec tX12_walkHere_1 2 rfl) rfl ?_
        refine T_iconst 1 (am_dec tX12_walkHere_1 3 rfl) rfl ⟨by decide, by decide⟩ ?_
        refine T_aload_n (am_dec tX12_walkHere_1 4 rfl) rfl ?_
        refine T_getfield 11 4 (am_dec tX12_walkHere_1 5 rfl) flX12_169_11 (md_obj hl) rfl ?_
        refine T_callV (as := [aI 1, aI (c33 0 4)]) rfl (am_dec tX12_walkHere_1 6 rfl) lkX12_189 (md_obj hl) rfl rfl (Nat.le_of_ble_eq_true rfl) (by omega) (mk_wrong (d := d - 1) hl 1 (c33 0 4)   ) (fun _ => ?_)
        refine T_nmH (W := fun x9 => mdW w b x9 q) (v := k_wrong c33 1 (c33 0 4)) (fun c73 hc73 => ?_)
        have hR73 : RdV c73 := by rw [hc73]; exact (k_wrong_x hR33).1
        have hR9 := hR73
        obtain ⟨ra73, rb73, rc73⟩ := hR9
        have hx73 : Ly c c73 := Ly_t hx33 (Ly_x (by rw [hc73]; exact (k_wrong_x hR33).2))
        have hz73 : c73 0 2 = c 0 2 := hx73.2 2 (by decide) (by decide) (by decide)
        have ht73_0 : c73 3 0 = c 3 0 := congrFun hx73.1 0
        have ht73_1 : c73 3 1 = c 3 1 := congrFun hx73.1 1
        have h4_73 : c73 0 4 = c33 0 4 := by rw [hc73]; exact k_wrong_4
        exact K64 _ (by have s9 := hc73.symm; subst s9; exact (if_pos h64).symm) hR73 hx73 h4_73
    · exact T_return (am_dec tX12_walkHere_0 20 rfl) rfl (am_tr (fun (x9 : am_F) => Q (.inl none) (mdW w b x9 q)) (y := (am_put (u20).2 (103 + k.toNat) 2 ((u20).1))) (show (k_walkHere c k) = (am_put (u20).2 (103 + k.toNat) 2 ((u20).1)) from (by have s9 := hu3.symm; subst s9; have s9 := hu10.symm; subst s9; have s9 := hu20.symm; subst s9; exact (if_neg h28))) hQ)
  exact key _ ⟨rfl, rfl⟩
