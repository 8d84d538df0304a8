/-! the model: its reading, sign by sign -/
def RdV (c : am_F) : Prop := 0 ≤ c 0 4 ∧ c 0 4 ≤ c 0 2 ∧ c 0 2 ≤ 600
theorem RdV_p4 {c : am_F} {v : Int} (h : RdV c) (h0 : 0 ≤ v) (h1 : v ≤ c 0 2) : RdV (am_put c 0 4 v) := ⟨h0, h1, h.2.2⟩
/-- only the place and the fault are other -/
def Lx (c c' : am_F) : Prop := (∀ k, k ≠ 0 → c' k = c k) ∧ (∀ j, j ≠ 4 → j ≠ 5 → j ≠ 6 → c' 0 j = c 0 j)
theorem Lx_r {c : am_F} : Lx c c := ⟨fun _ _ => rfl, fun _ _ _ _ => rfl⟩
theorem Lx_t {c d e : am_F} (h : Lx c d) (h2 : Lx d e) : Lx c e := ⟨fun k hk => (h2.1 k hk).trans (h.1 k hk), fun j h4 h5 h6 => (h2.2 j h4 h5 h6).trans (h.2 j h4 h5 h6)⟩
theorem Lx_p {c : am_F} {j : Nat} {v : Int} (hj : j = 4 ∨ j = 5 ∨ j = 6) : Lx c (am_put c 0 j v) := ⟨fun k hk => am_put0 hk, fun i h4 h5 h6 => am_put_i (by omega)⟩
theorem am_wh_inv {α : Type} {P : α → Prop} {f : α → α ⊕ α} (hs : ∀ x y, P x → f x = .inl y → P y) (he : ∀ x y, P x → f x = .inr y → P y) : ∀ (n : Nat) (x : α), P x → P (am_wh f n x) := by
  intro n
  induction n with
  | zero => intro x h; exact h
  | succ n ih =>
    intro x h
    cases hf : f x with
    | inl y => rw [am_wh_l hf]; exact ih y (hs x y h hf)
    | inr y => rw [am_wh_r hf]; exact he x y h hf
theorem k_isDigit_s (x : Int) : (k_isDigit x = 1 ∧ 48 ≤ x ∧ x ≤ 57) ∨ (k_isDigit x = 0 ∧ ¬ (48 ≤ x ∧ x ≤ 57)) := by
  unfold k_isDigit
  repeat' split
  all_goals omega
theorem k_isSmall_s (x : Int) : (k_isSmall x = 1 ∧ 97 ≤ x ∧ x ≤ 122) ∨ (k_isSmall x = 0 ∧ ¬ (97 ≤ x ∧ x ≤ 122)) := by
  unfold k_isSmall
  repeat' split
  all_goals omega
def k_byteAt (c : am_F) (k : Int) : Int := (if k < c 0 2 then (c 1 k.toNat) else (-1))
theorem mk_byteAt {S : am_S} {d u : Nat} {w : AH} {b : Nat} (hl : b + 735 ≤ w.length) {c : am_F} {q : am_F} (k : Int) (hb : 0 ≤ k ∧ (k < c 0 2 → k < 600))  : am_Out S zX12_byteAt d u [aR b, aI k] (mdW w b c q) (.inl (some (aI (k_byteAt c k)))) (mdW w b c q) := by
  have key : ∀ Q : AO → AH → Prop, Q (.inl (some (aI (k_byteAt c k)))) (mdW w b c q) → am_M S zX12_byteAt d u [aR b, aI k] (mdW w b c q) Q := by
    intro Q hQ
    refine am_body rfl (by decide +kernel) rfl (am_cats_cons rfl ( am_cats_cons rfl (am_cats_nil))) (Nat.le_of_ble_eq_true rfl) (?_ : am_T _ _ _ _ _ 0 [some (aR b), some (aI k)] [] (mdW w b c q))
    refine T_iload_n (am_dec tX12_byteAt_0 0 rfl) rfl ?_
    refine T_aload_n (am_dec tX12_byteAt_0 1 rfl) rfl ?_
    refine T_getfield 11 2 (am_dec tX12_byteAt_0 2 rfl) flX12_166_11 (md_obj hl) rfl ?_
    have K5 : ∀ (t5 : Int), t5 = (if k < c 0 2 then (c 1 k.toNat) else (-1)) →  am_T S zX12_byteAt d u Q 18 [none, none] [aI t5] (mdW w b c q) := by
      intro t5 ht5 
      exact T_ireturn (am_dec tX12_byteAt_0 10 rfl) rfl (am_tr (fun (x9 : Int) => Q (.inl (some (aI (x9)))) (mdW w b c q)) (y := t5) (show (k_byteAt c k) = t5 from (by have s9 := ht5.symm; subst s9; exact rfl)) hQ)
    refine T_icmp_lt 12 (am_dec tX12_byteAt_0 3 rfl) rfl (fun h5 => ?_) (fun h5 => ?_)
    · refine T_aload_n (am_dec tX12_byteAt_0 6 rfl) rfl ?_
      refine T_getfield 11 8 (am_dec tX12_byteAt_0 7 rfl) flX12_13_11 (md_obj hl) rfl ?_
      refine T_iload_n (am_dec tX12_byteAt_0 8 rfl) rfl ?_
      refine T_ialoadE (x := c 1 k.toNat) (am_dec tX12_byteAt_0 9 rfl) (md_fed hl) (by omega) (by omega) rfl ?_
      refine T_weak (ls' := [none, none]) (am_sub_n (am_sub_n am_sub_nil)) ?_
      exact K5 _ (if_pos h5).symm 
    · refine T_iconst (-1) (am_dec tX12_byteAt_0 4 rfl) rfl ⟨by decide, by decide⟩ ?_
      refine T_goto 18 (am_dec tX12_byteAt_0 5 rfl) rfl ?_
      refine T_weak (ls' := [none, none]) (am_sub_n (am_sub_n am_sub_nil)) ?_
      exact K5 _ (if_neg h5).symm 
  exact key _ ⟨rfl, rfl⟩
theorem k_byteAt_s (c : am_F) (k : Int) : (k < c 0 2 ∧ k_byteAt c k = c 1 k.toNat) ∨ (c 0 2 ≤ k ∧ k_byteAt c k = -1) := by
  unfold k_byteAt
  split
  · left; exact ⟨by omega, rfl⟩
  · right; exact ⟨by omega, rfl⟩
def w_k_blanks_0  (c : am_F) : (am_F) ⊕ (am_F) := (let n5 : Int := (k_byteAt c (c 0 4)); (if n5 = 32 then .inl (am_put c 0 4 ((c 0 4) + 1)) else .inr c))
theorem L_k_blanks_0 {S : am_S} {d u : Nat} {Q : AO → AH → Prop} {w : AH} {b : Nat} (hl : b + 735 ≤ w.length) (q : am_F)  (hd : 1 ≤ d) : ∀ (n : Nat) (c : am_F), c 0 2 - c 0 4 < n → RdV c → (∀ (c' : am_F), c' = am_wh (w_k_blanks_0) n c → RdV c' → am_T S zX12_blanks d u Q 26 [none] [] (mdW w b c' q)) → am_T S zX12_blanks d u Q 0 [some (aR b)] [] (mdW w b c q) := by
  intro n
  induction n with
  | zero =>
    intro c hm9 hinv k9
    have hR := hinv
    have hR9 := hR
    obtain ⟨r1, r2, r3⟩ := hR9
    exfalso; omega
  | succ n ih =>
    intro c hm9 hinv k9
    have hR := hinv
    have hR9 := hR
    obtain ⟨r1, r2, r3⟩ := hR9
    refine T_aload_n (am_dec tX12_blanks_0 0 rfl) rfl ?_
    refine T_aload_n (am_dec tX12_blanks_0 1 rfl) rfl ?_
    refine T_getfield 11 4 (am_dec tX12_blanks_0 2 rfl) flX12_169_11 (md_obj hl) rfl ?_
    refine T_callV (as := [aI (c 0 4)]) rfl (am_dec tX12_blanks_0 3 rfl) lkX12_172 (md_obj hl) rfl rfl (Nat.le_of_ble_eq_true rfl) (by omega) (mk_byteAt (d := d - 1) hl (c 0 4)  (by omega) ) (fun _ => ?_)
    refine T_nm (fun n5 hn5 => ?_)
    have hs5 : ((c 0 4) < c 0 2 ∧ n5 = c 1 (c 0 4).toNat) ∨ (c 0 2 ≤ (c 0 4) ∧ n5 = -1) := by rw [hn5]; exact k_byteAt_s _ _
    refine T_bipush 32 (am_dec tX12_blanks_0 4 rfl) rfl ⟨by decide, by decide⟩ ?_
    refine T_icmp_ne 26 (am_dec tX12_blanks_0 5 rfl) rfl (fun h10 => ?_) (fun h10 => ?_)
    · refine T_weak (ls' := [none]) (am_sub_n am_sub_nil) ?_
      have e9 : (w_k_blanks_0) c = .inr c := (by have s9 := hn5.symm; subst s9; exact (if_neg h10))
      simp only [am_wh_r e9] at k9
      exact k9 _ rfl hR
    · refine T_aload_n (am_dec tX12_blanks_0 6 rfl) rfl ?_
      refine T_dup (am_dec tX12_blanks_0 7 rfl) rfl ?_
      refine T_getfield 11 4 (am_dec tX12_blanks_0 8 rfl) flX12_169_11 (md_obj hl) rfl ?_
      refine T_iconst 1 (am_dec tX12_blanks_0 9 rfl) rfl ⟨by decide, by decide⟩ ?_
      refine T_iadd ((c 0 4) + 1) (am_dec tX12_blanks_0 10 rfl) rfl ⟨by omega, by omega⟩ ?_
      refine T_putfield (fs' := mdO b (am_up (c 0) 4 ((c 0 4) + 1)) (q 0)) 11 4 (am_dec tX12_blanks_0 11 rfl) flX12_169_11 rfl rfl rfl trivial (md_obj hl) (Nat.le_of_ble_eq_true rfl) rfl ?_
      refine am_wE (w2 := mdW w b (am_put c 0 4 ((c 0 4) + 1)) q) (md_fc) ?_
      refine T_goto 0 (am_dec tX12_blanks_0 12 rfl) rfl ?_
      have e9 : (w_k_blanks_0) c = .inl (am_put c 0 4 ((c 0 4) + 1)) := (by have s9 := hn5.symm; subst s9; exact (if_pos h10))
      simp only [am_wh_l e9] at k9
      exact ih (am_put c 0 4 ((c 0 4) + 1)) (by rw [am_put_s, am_put_i (by decide)]; omega) (RdV_p4 hR (by omega) (show ((c 0 4) + 1) ≤ c 0 2 by omega)) k9
def k_blanks (c : am_F) : am_F := am_wh (w_k_blanks_0) 601 c
theorem mk_blanks {S : am_S} {d u : Nat} {w : AH} {b : Nat} (hl : b + 735 ≤ w.length) {c : am_F} {q : am_F}  (hR : RdV c) (hd : 1 ≤ d) : am_Out S zX12_blanks d u [aR b] (mdW w b c q) (.inl none) (mdW w b (k_blanks c) q) := by
  have key : ∀ Q : AO → AH → Prop, Q (.inl none) (mdW w b (k_blanks c) q) → am_M S zX12_blanks d u [aR b] (mdW w b c q) Q := by
    intro Q hQ
    refine am_body rfl (by decide +kernel) rfl (am_cats_cons rfl (am_cats_nil)) (Nat.le_of_ble_eq_true rfl) (?_ : am_T _ _ _ _ _ 0 [some (aR b)] [] (mdW w b c q))
    have hR9 := hR
    obtain ⟨r1, r2, r3⟩ := hR9
    refine L_k_blanks_0 hl q   (by omega) 601 c (by omega) hR (fun c0 hc0 hv0 => ?_)
    exact T_return (am_dec tX12_blanks_0 13 rfl) rfl (am_tr (fun (x9 : am_F) => Q (.inl none) (mdW w b x9 q)) (y := c0) (show (k_blanks c) = c0 from (by have s9 := hc0.symm; subst s9; exact rfl)) hQ)
  exact key _ ⟨rfl, rfl⟩
def k_wrong (c : am_F) (wt : Int) (hr : Int) : am_F := (if c 0 5 = 0 then (am_put (am_put c 0 5 wt) 0 6 hr) else c)
theorem mk_wrong {S : am_S} {d u : Nat} {w : AH} {b : Nat} (hl : b + 735 ≤ w.length) {c : am_F} {q : am_F} (wt : Int) (hr : Int)   : am_Out S zX12_wrong d u [aR b, aI wt, aI hr] (mdW w b c q) (.inl none) (mdW w b (k_wrong c wt hr) q) := by
  have key : ∀ Q : AO → AH → Prop, Q (.inl none) (mdW w b (k_wrong c wt hr) q) → am_M S zX12_wrong d u [aR b, aI wt, aI hr] (mdW w b c q) Q := by
    intro Q hQ
    refine am_body rfl (by decide +kernel) rfl (am_cats_cons rfl ( am_cats_cons rfl ( am_cats_cons rfl (am_cats_nil)))) (Nat.le_of_ble_eq_true rfl) (?_ : am_T _ _ _ _ _ 0 [some (aR b), some (aI wt), some (aI hr)] [] (mdW w b c q))
    refine T_aload_n (am_dec tX12_wrong_0 0 rfl) rfl ?_
    refine T_getfield 11 5 (am_dec tX12_wrong_0 1 rfl) flX12_176_11 (md_obj hl) rfl ?_
    have K4 : ∀ (c4 : am_F), c4 = (if c 0 5 = 0 then (am_put (am_put c 0 5 wt) 0 6 hr) else c) →  am_T S zX12_wrong d u Q 17 [none, none, none] [] (mdW w b c4 q) := by
      intro c4 hc4 
      exact T_return (am_dec tX12_wrong_0 9 rfl) rfl (am_tr (fun (x9 : am_F) => Q (.inl none) (mdW w b x9 q)) (y := c4) (show (k_wrong c wt hr) = c4 from (by have s9 := hc4.symm; subst s9; exact rfl)) hQ)
    refine T_if_ne 17 (am_dec tX12_wrong_0 2 rfl) rfl (fun h4 => ?_) (fun h4 => ?_)
    · refine T_weak (ls' := [none, none, none]) (am_sub_n (am_sub_n (am_sub_n am_sub_nil))) ?_
      exact K4 _ (if_neg h4).symm 
    · refine T_aload_n (am_dec tX12_wrong_0 3 rfl) rfl ?_
      refine T_iload_n (am_dec tX12_wrong_0 4 rfl) rfl ?_
      refine T_putfield (fs' := mdO b (am_up (c 0) 5 wt) (q 0)) 11 5 (am_dec tX12_wrong_0 5 rfl) flX12_176_11 rfl rfl rfl trivial (md_obj hl) (Nat.le_of_ble_eq_true rfl) rfl ?_
      refine am_wE (w2 := mdW w b (am_put c 0 5 wt) q) (md_fc) ?_
      refine T_aload_n (am_dec tX12_wrong_0 6 rfl) rfl ?_
      refine T_iload_n (am_dec tX12_wrong_0 7 rfl) rfl ?_
      refine T_putfield (fs' := mdO b (am_up ((am_put c 0 5 wt) 0) 6 hr) (q 0)) 11 6 (am_dec tX12_wrong_0 8 rfl) flX12_179_11 rfl rfl rfl trivial (md_obj hl) (Nat.le_of_ble_eq_true rfl) rfl ?_
      refine am_wE (w2 := mdW w b (am_put (am_put c 0 5 wt) 0 6 hr) q) (md_fc) ?_
      refine T_weak (ls' := [none, none, none]) (am_sub_n (am_sub_n (am_sub_n am_sub_nil))) ?_
      exact K4 _ (if_pos h4).symm 
  exact key _ ⟨rfl, rfl⟩
def w_k_skipWord_0  (c : am_F) : (am_F) ⊕ (am_F) := (let n5 : Int := (k_byteAt c (c 0 4)); (let z8 : Int := (k_isSmall n5); (if z8 = 0 then .inr c else .inl (am_put c 0 4 ((c 0 4) + 1)))))
theorem L_k_skipWord_0 {S : am_S} {d u : Nat} {Q : AO → AH → Prop} {w : AH} {b : Nat} (hl : b + 735 ≤ w.length) (q : am_F)  (hd : 1 ≤ d) : ∀ (n : Nat) (c : am_F), c 0 2 - c 0 4 < n → RdV c → (∀ (c' : am_F), c' = am_wh (w_k_skipWord_0) n c → RdV c' → am_T S zX12_skipWord d u Q 27 [none] [] (mdW w b c' q)) → am_T S zX12_skipWord d u Q 0 [some (aR b)] [] (mdW w b c q) := by
  intro n
  induction n with
  | zero =>
    intro c hm9 hinv k9
    have hR := hinv
    have hR9 := hR
    obtain ⟨r1, r2, r3⟩ := hR9
    exfalso; omega
  | succ n ih =>
    intro c hm9 hinv k9
    have hR := hinv
    have hR9 := hR
    obtain ⟨r1, r2, r3⟩ := hR9
    refine T_aload_n (am_dec tX12_skipWord_0 0 rfl) rfl ?_
    refine T_aload_n (am_dec tX12_skipWord_0 1 rfl) rfl ?_
    refine T_getfield 11 4 (am_dec tX12_skipWord_0 2 rfl) flX12_169_11 (md_obj hl) rfl ?_
    refine T_callV (as := [aI (c 0 4)]) rfl (am_dec tX12_skipWord_0 3 rfl) lkX12_172 (md_obj hl) rfl rfl (Nat.le_of_ble_eq_true rfl) (by omega) (mk_byteAt (d := d - 1) hl (c 0 4)  (by omega) ) (fun _ => ?_)
    refine T_nm (fun n5 hn5 => ?_)
    have hs5 : ((c 0 4) < c 0 2 ∧ n5 = c 1 (c 0 4).toNat) ∨ (c 0 2 ≤ (c 0 4) ∧ n5 = -1) := by rw [hn5]; exact k_byteAt_s _ _
    refine T_callS (as := [aI n5]) rfl (am_dec tX12_skipWord_0 4 rfl) lkX12_198 rfl (Nat.le_of_ble_eq_true rfl) (by omega) (mk_isSmall (d := d - 1)  n5   ) (fun _ => ?_)
    refine T_nm (fun z8 hz8 => ?_)
    have hb8 := k_isSmall_b n5
    rw [← hz8] at hb8
    have hs8 := k_isSmall_s n5
    rw [← hz8] at hs8
    refine T_if_eq 27 (am_dec tX12_skipWord_0 5 rfl) rfl (fun h11 => ?_) (fun h11 => ?_)
    · refine T_weak (ls' := [none]) (am_sub_n am_sub_nil) ?_
      have e9 : (w_k_skipWord_0) c = .inr c := (by have s9 := hn5.symm; subst s9; have s9 := hz8.symm; subst s9; exact (if_pos h11))
      simp only [am_wh_r e9] at k9
      exact k9 _ rfl hR
    · refine T_aload_n (am_dec tX12_skipWord_0 6 rfl) rfl ?_
      refine T_dup (am_dec tX12_skipWord_0 7 rfl) rfl ?_
      refine T_getfield 11 4 (am_dec tX12_skipWord_0 8 rfl) flX12_169_11 (md_obj hl) rfl ?_
      refine T_iconst 1 (am_dec tX12_skipWord_0 9 rfl) rfl ⟨by decide, by decide⟩ ?_
      refine T_iadd ((c 0 4) + 1) (am_dec tX12_skipWord_0 10 rfl) rfl ⟨by omega, by omega⟩ ?_
      refine T_putfield (fs' := mdO b (am_up (c 0) 4 ((c 0 4) + 1)) (q 0)) 11 4 (am_dec tX12_skipWord_0 11 rfl) flX12_169_11 rfl rfl rfl trivial (md_obj hl) (Nat.le_of_ble_eq_true rfl) rfl ?_
      refine am_wE (w2 := mdW w b (am_put c 0 4 ((c 0 4) + 1)) q) (md_fc) ?_
      refine T_goto 0 (am_dec tX12_skipWord_0 12 rfl) rfl ?_
      have e9 : (w_k_skipWord_0) c = .inl (am_put c 0 4 ((c 0 4) + 1)) := (by have s9 := hn5.symm; subst s9; have s9 := hz8.symm; subst s9; exact (if_neg h11))
      simp only [am_wh_l e9] at k9
      exact ih (am_put c 0 4 ((c 0 4) + 1)) (by rw [am_put_s, am_put_i (by decide)]; omega) (RdV_p4 hR (by omega) (show ((c 0 4) + 1) ≤ c 0 2 by omega)) k9
def k_skipWord (c : am_F) : am_F := am_wh (w_k_skipWord_0) 601 c
theorem mk_skipWord {S : am_S} {d u : Nat} {w : AH} {b : Nat} (hl : b + 735 ≤ w.length) {c : am_F} {q : am_F}  (hR : RdV c) (hd : 1 ≤ d) : am_Out S zX12_skipWord d u [aR b] (mdW w b c q) (.inl none) (mdW w b (k_skipWord c) q) := by
  have key : ∀ Q : AO → AH → Prop, Q (.inl none) (mdW w b (k_skipWord c) q) → am_M S zX12_skipWord d u [aR b] (mdW w b c q) Q := by
    intro Q hQ
    refine am_body rfl (by decide +kernel) rfl (am_cats_cons rfl (am_cats_nil)) (Nat.le_of_ble_eq_true rfl) (?_ : am_T _ _ _ _ _ 0 [some (aR b)] [] (mdW w b c q))
    have hR9 := hR
    obtain ⟨r1, r2, r3⟩ := hR9
    refine L_k_skipWord_0 hl q   (by omega) 601 c (by omega) hR (fun c0 hc0 hv0 => ?_)
    exact T_return (am_dec tX12_skipWord_0 13 rfl) rfl (am_tr (fun (x9 : am_F) => Q (.inl none) (mdW w b x9 q)) (y := c0) (show (k_skipWord c) = c0 from (by have s9 := hc0.symm; subst s9; exact rfl)) hQ)
  exact key _ ⟨rfl, rfl⟩
theorem k_blanks_x {c : am_F} (h : RdV c) : RdV (k_blanks c) ∧ Lx c (k_blanks c) := by
  unfold k_blanks
  refine am_wh_inv (P := fun d => RdV d ∧ Lx c d) ?_ ?_ 601 c ⟨h, Lx_r⟩
  · intro x y hp e
    revert e
    unfold w_k_blanks_0
    dsimp only
    have hb := k_byteAt_s x (x 0 4)
    have hr := hp.1
    obtain ⟨r1, r2, r3⟩ := hr
    split
    · intro e
      rw [← Sum.inl.inj e]
      exact ⟨RdV_p4 hp.1 (by omega) (by omega), Lx_t hp.2 (Lx_p (by omega))⟩
    · intro e; cases e
  · intro x y hp e
    revert e
    unfold w_k_blanks_0
    dsimp only
    split
    · intro e; cases e
    · intro e; rw [← Sum.inr.inj e]; exact hp
theorem k_skipWord_x {c : am_F} (h : RdV c) : RdV (k_skipWord c) ∧ Lx c (k_skipWord c) := by
  unfold k_skipWord
  refine am_wh_inv (P := fun d => RdV d ∧ Lx c d) ?_ ?_ 601 c ⟨h, Lx_r⟩
  · intro x y hp e
    revert e
    unfold w_k_skipWord_0
    dsimp only
    have hb := k_byteAt_s x (x 0 4)
    have hd := k_isSmall_s (k_byteAt x (x 0 4))
    have hr := hp.1
    obtain ⟨r1, r2, r3⟩ := hr
    split
    · intro e; cases e
    · intro e
      rw [← Sum.inl.inj e]
      exact ⟨RdV_p4 hp.1 (by omega) (by omega), Lx_t hp.2 (Lx_p (by omega))⟩
  · intro x y hp e
    revert e
    unfold w_k_skipWord_0
    dsimp only
    split
    · intro e; rw [← Sum.inr.inj e]; exact hp
    · intro e; cases e
theorem k_wrong_x {c : am_F} {x y : Int} (h : RdV c) : RdV (k_wrong c x y) ∧ Lx c (k_wrong c x y) := by
  unfold k_wrong
  split
  · exact ⟨h, Lx_t (Lx_p (by omega)) (Lx_p (by omega))⟩
  · exact ⟨h, Lx_r⟩
def w_k_number_44  (x9 : Int × am_F) : (Int × am_F) ⊕ (Int × am_F) := let v : Int := x9.1; let c : am_F := x9.2; (let n49 : Int := (k_byteAt c (c 0 4)); (let z52 : Int := (k_isDigit n49); (if z52 = 0 then .inr (v, c) else (let n68 : Int := (k_byteAt c (c 0 4)); (let v_75 : Int := ((10 * v) + n68) - 48; (let t81 : Int := (if v_75 ≤ 100000 then v_75 else 100000); .inl (t81, (am_put c 0 4 ((c 0 4) + 1)))))))))
theorem L_k_number_44 {S : am_S} {d u : Nat} {Q : AO → AH → Prop} {w : AH} {b : Nat} (hl : b + 735 ≤ w.length) (q : am_F) (low : Int) (high : Int) (bg : Int)  (hd : 2 ≤ d) : ∀ (n : Nat) (v : Int) (c : am_F), c 0 2 - c 0 4 < n → RdV c ∧ 0 ≤ v ∧ v ≤ 100000 → (∀ (v' : Int) (c' : am_F), v' = (am_wh (w_k_number_44) n (v, c)).1 → c' = (am_wh (w_k_number_44) n (v, c)).2 → RdV c' ∧ 0 ≤ v' ∧ v' ≤ 100000 → am_T S zX12_number d u Q 106 [some (aR b), some (aI low), some (aI high), some (aI bg), some (aI v')] [] (mdW w b c' q)) → am_T S zX12_number d u Q 44 [some (aR b), some (aI low), some (aI high), some (aI bg), some (aI v)] [] (mdW w b c q) := by
  intro n
  induction n with
  | zero =>
    intro v c hm9 hinv k9
    have hR := hinv.1
    have hv9 := hinv.2
    have hR9 := hR
    obtain ⟨r1, r2, r3⟩ := hR9
    exfalso; omega
  | succ n ih =>
    intro v c hm9 hinv k9
    have hR := hinv.1
    have hv9 := hinv.2
    have hR9 := hR
    obtain ⟨r1, r2, r3⟩ := hR9
    refine T_aload_n (am_dec tX12_number_0 23 rfl) rfl ?_
    refine T_aload_n (am_dec tX12_number_0 24 rfl) rfl ?_
    refine T_getfield 11 4 (am_dec tX12_number_0 25 rfl) flX12_169_11 (md_obj hl) rfl ?_
    refine T_callV (as := [aI (c 0 4)]) rfl (am_dec tX12_number_0 26 rfl) lkX12_172 (md_obj hl) rfl rfl (Nat.le_of_ble_eq_true rfl) (by omega) (mk_byteAt (d := d - 1) hl (c 0 4)  (by omega) ) (fun _ => ?_)
    refine T_nm (fun n49 hn49 => ?_)
    have hs49 : ((c 0 4) < c 0 2 ∧ n49 = c 1 (c 0 4).toNat) ∨ (c 0 2 ≤ (c 0 4) ∧ n49 = -1) := by rw [hn49]; exact k_byteAt_s _ _
    refine T_callS (as := [aI n49]) rfl (am_dec tX12_number_0 27 rfl) lkX12_185 rfl (Nat.le_of_ble_eq_true rfl) (by omega) (mk_isDigit (d := d - 1)  n49   ) (fun _ => ?_)
    refine T_nm (fun z52 hz52 => ?_)
    have hb52 := k_isDigit_b n49
    rw [← hz52] at hb52
    have hs52 := k_isDigit_s n49
    rw [← hz52] at hs52
    refine T_if_eq 106 (am_dec tX12_number_0 28 rfl) rfl (fun h55 => ?_) (fun h55 => ?_)
    · have e9 : (w_k_number_44) (v, c) = .inr (v, c) := (by have s9 := hn49.symm; subst s9; have s9 := hz52.symm; subst s9; exact (if_pos h55))
      simp only [am_wh_r e9] at k9
      exact k9 _ _ rfl rfl hinv
    · refine T_bipush 10 (am_dec tX12_number_0 29 rfl) rfl ⟨by decide, by decide⟩ ?_
      refine T_iload (am_dec tX12_number_0 30 rfl) rfl ?_
      refine T_imul (10 * v) (am_dec tX12_number_0 31 rfl) rfl ⟨by omega, by omega⟩ ?_
      refine T_aload_n (am_dec tX12_number_0 32 rfl) rfl ?_
      refine T_aload_n (am_dec tX12_number_0 33 rfl) rfl ?_
      refine T_getfield 11 4 (am_dec tX12_number_0 34 rfl) flX12_169_11 (md_obj hl) rfl ?_
      refine T_callV (as := [aI (c 0 4)]) rfl (am_dec tX12_number_0 35 rfl) lkX12_172 (md_obj hl) rfl rfl (Nat.le_of_ble_eq_true rfl) (by omega) (mk_byteAt (d := d - 1) hl (c 0 4)  (by omega) ) (fun _ => ?_)
      refine T_nm (fun n68 hn68 => ?_)
      have hs68 : ((c 0 4) < c 0 2 ∧ n68 = c 1 (c 0 4).toNat) ∨ (c 0 2 ≤ (c 0 4) ∧ n68 = -1) := by rw [hn68]; exact k_byteAt_s _ _
      refine T_iadd ((10 * v) + n68) (am_dec tX12_number_0 36 rfl) rfl ⟨by omega, by omega⟩ ?_
      refine T_bipush 48 (am_dec tX12_number_0 37 rfl) rfl ⟨by decide, by decide⟩ ?_
      refine T_isub (((10 * v) + n68) - 48) (am_dec tX12_number_0 38 rfl) rfl ⟨by omega, by omega⟩ ?_
      refine T_nm (fun v_75 hv_75 => ?_)
      refine T_istore (ls' := [some (aR b), some (aI low), some (aI high), some (aI bg), some (aI v_75)]) (am_dec tX12_number_0 39 rfl) (by decide) rfl ?_
      refine T_iload (am_dec tX12_number_1 0 rfl) rfl ?_
      refine T_ldc 100000 (am_dec tX12_number_1 1 rfl) (am_m9 108 rfl rfl) ⟨by decide, by decide⟩ ?_
      have K81 : ∀ (t81 : Int), t81 = (if v_75 ≤ 100000 then v_75 else 100000) →  am_T S zX12_number d u Q 91 [some (aR b), some (aI low), some (aI high), some (aI bg), none] [aI t81] (mdW w b c q) := by
        intro t81 ht81 
        refine T_istore (ls' := [some (aR b), some (aI low), some (aI high), some (aI bg), some (aI t81)]) (am_dec tX12_number_1 6 rfl) (by decide) rfl ?_
        refine T_aload_n (am_dec tX12_number_1 7 rfl) rfl ?_
        refine T_dup (am_dec tX12_number_1 8 rfl) rfl ?_
        refine T_getfield 11 4 (am_dec tX12_number_1 9 rfl) flX12_169_11 (md_obj hl) rfl ?_
        refine T_iconst 1 (am_dec tX12_number_1 10 rfl) rfl ⟨by decide, by decide⟩ ?_
        refine T_iadd ((c 0 4) + 1) (am_dec tX12_number_1 11 rfl) rfl ⟨by omega, by omega⟩ ?_
        refine T_putfield (fs' := mdO b (am_up (c 0) 4 ((c 0 4) + 1)) (q 0)) 11 4 (am_dec tX12_number_1 12 rfl) flX12_169_11 rfl rfl rfl trivial (md_obj hl) (Nat.le_of_ble_eq_true rfl) rfl ?_
        refine am_wE (w2 := mdW w b (am_put c 0 4 ((c 0 4) + 1)) q) (md_fc) ?_
        refine T_goto 44 (am_dec tX12_number_1 13 rfl) rfl ?_
        have e9 : (w_k_number_44) (v, c) = .inl (t81, (am_put c 0 4 ((c 0 4) + 1))) := (by have s9 := hn49.symm; subst s9; have s9 := hz52.symm; subst s9; have s9 := hn68.symm; subst s9; have s9 := hv_75.symm; subst s9; have s9 := ht81.symm; subst s9; exact (if_neg h55))
        simp only [am_wh_l e9] at k9
        exact ih t81 (am_put c 0 4 ((c 0 4) + 1)) (by rw [am_put_s, am_put_i (by decide)]; omega) ⟨(RdV_p4 hR (by omega) (show ((c 0 4) + 1) ≤ c 0 2 by omega)), by omega⟩ k9
      refine T_icmp_le 89 (am_dec tX12_number_1 2 rfl) rfl (fun h81 => ?_) (fun h81 => ?_)
      · refine T_iload (am_dec tX12_number_1 5 rfl) rfl ?_
        refine T_weak (ls' := [some (aR b), some (aI low), some (aI high), some (aI bg), none]) (am_sub_s (am_sub_s (am_sub_s (am_sub_s (am_sub_n am_sub_nil))))) ?_
        exact K81 _ (if_pos h81).symm 
      · refine T_ldc 100000 (am_dec tX12_number_1 3 rfl) (am_m9 108 rfl rfl) ⟨by decide, by decide⟩ ?_
        refine T_goto 91 (am_dec tX12_number_1 4 rfl) rfl ?_
        refine T_weak (ls' := [some (aR b), some (aI low), some (aI high), some (aI bg), none]) (am_sub_s (am_sub_s (am_sub_s (am_sub_s (am_sub_n am_sub_nil))))) ?_
        exact K81 _ (if_neg h81).symm 
def k_number (c : am_F) (low : Int) (high : Int) : Int × am_F := (if c 0 5 = 0 then (let c10 : am_F := k_blanks c; (let n26 : Int := (k_byteAt c10 (c10 0 4)); (let z29 : Int := (k_isDigit n26); (let c32 : am_F := (if z29 = 0 then k_wrong c10 1 (c10 0 4) else c10); (let v_44 : Int := (am_wh (w_k_number_44) 601 (0, c32)).1; (let c44 : am_F := (am_wh (w_k_number_44) 601 (0, c32)).2; (let z110 : Int := (k_in v_44 low high); (let c113 : am_F := (if z110 = 0 then k_wrong c44 2 (c10 0 4) else c44); (let t126 : Int := (if c113 0 5 = 0 then v_44 else 0); (t126, c113)))))))))) else (0, c))
theorem mk_number {S : am_S} {d u : Nat} {w : AH} {b : Nat} (hl : b + 735 ≤ w.length) {c : am_F} {q : am_F} (low : Int) (high : Int) (hR : RdV c) (hd : 2 ≤ d) : am_Out S zX12_number d u [aR b, aI low, aI high] (mdW w b c q) (.inl (some (aI ((k_number c low high).1)))) (mdW w b ((k_number c low high).2) q) := by
  have key : ∀ Q : AO → AH → Prop, Q (.inl (some (aI ((k_number c low high).1)))) (mdW w b ((k_number c low high).2) q) → am_M S zX12_number d u [aR b, aI low, aI high] (mdW w b c q) Q := by
    intro Q hQ
    refine am_body rfl (by decide +kernel) rfl (am_cats_cons rfl ( am_cats_cons rfl ( am_cats_cons rfl (am_cats_nil)))) (Nat.le_of_ble_eq_true rfl) (?_ : am_T _ _ _ _ _ 0 [some (aR b), some (aI low), some (aI high), none, none] [] (mdW w b c q))
    have hR9 := hR
    obtain ⟨r1, r2, r3⟩ := hR9
    refine T_aload_n (am_dec tX12_number_0 0 rfl) rfl ?_
    refine T_getfield 11 5 (am_dec tX12_number_0 1 rfl) flX12_176_11 (md_obj hl) rfl ?_
    refine T_if_eq 9 (am_dec tX12_number_0 2 rfl) rfl (fun h4 => ?_) (fun h4 => ?_)
    · refine T_aload_n (am_dec tX12_number_0 5 rfl) rfl ?_
      refine T_callV (as := []) rfl (am_dec tX12_number_0 6 rfl) lkX12_182 (md_obj hl) rfl rfl (Nat.le_of_ble_eq_true rfl) (by omega) (mk_blanks (d := d - 1) hl   hR (by omega)) (fun _ => ?_)
      refine T_nmH (W := fun x9 => mdW w b x9 q) (v := k_blanks c) (fun c10 hc10 => ?_)
      have hR10 : RdV c10 := by rw [hc10]; exact (k_blanks_x hR).1
      have hR9 := hR10
      obtain ⟨ra10, rb10, rc10⟩ := hR9
      have hx10 : Lx c c10 := Lx_t Lx_r (by rw [hc10]; exact (k_blanks_x hR).2)
      have hz10 : c10 0 2 = c 0 2 := hx10.2 2 (by decide) (by decide) (by decide)
      refine T_aload_n (am_dec tX12_number_0 7 rfl) rfl ?_
      refine T_getfield 11 4 (am_dec tX12_number_0 8 rfl) flX12_169_11 (md_obj hl) rfl ?_
      refine T_istore_n (ls' := [some (aR b), some (aI low), some (aI high), some (aI (c10 0 4)), none]) (am_dec tX12_number_0 9 rfl) (by decide) rfl ?_
      refine T_iconst 0 (am_dec tX12_number_0 10 rfl) rfl ⟨by decide, by decide⟩ ?_
      refine T_istore (ls' := [some (aR b), some (aI low), some (aI high), some (aI (c10 0 4)), some (aI 0)]) (am_dec tX12_number_0 11 rfl) (by decide) rfl ?_
      refine T_aload_n (am_dec tX12_number_0 12 rfl) rfl ?_
      refine T_aload_n (am_dec tX12_number_0 13 rfl) rfl ?_
      refine T_getfield 11 4 (am_dec tX12_number_0 14 rfl) flX12_169_11 (md_obj hl) rfl ?_
      refine T_callV (as := [aI (c10 0 4)]) rfl (am_dec tX12_number_0 15 rfl) lkX12_172 (md_obj hl) rfl rfl (Nat.le_of_ble_eq_true rfl) (by omega) (mk_byteAt (d := d - 1) hl (c10 0 4)  (by omega) ) (fun _ => ?_)
      refine T_nm (fun n26 hn26 => ?_)
      have hs26 : ((c10 0 4) < c10 0 2 ∧ n26 = c10 1 (c10 0 4).toNat) ∨ (c10 0 2 ≤ (c10 0 4) ∧ n26 = -1) := by rw [hn26]; exact k_byteAt_s _ _
      refine T_callS (as := [aI n26]) rfl (am_dec tX12_number_0 16 rfl) lkX12_185 rfl (Nat.le_of_ble_eq_true rfl) (by omega) (mk_isDigit (d := d - 1)  n26   ) (fun _ => ?_)
      refine T_nm (fun z29 hz29 => ?_)
      have hb29 := k_isDigit_b n26
      rw [← hz29] at hb29
      have hs29 := k_isDigit_s n26
      rw [← hz29] at hs29
      have K32 : ∀ (c32 : am_F), c32 = (if z29 = 0 then k_wrong c10 1 (c10 0 4) else c10) → RdV c32 → Lx c c32 →  am_T S zX12_number d u Q 44 [some (aR b), some (aI low), some (aI high), some (aI (c10 0 4)), some (aI 0)] [] (mdW w b c32 q) := by
        intro c32 hc32 hR_c32 hx_c32
        have hR9 := hR_c32
        obtain ⟨ra_c32, rb_c32, rc_c32⟩ := hR9
        have hz_c32 : c32 0 2 = c 0 2 := hx_c32.2 2 (by decide) (by decide) (by decide)
        refine L_k_number_44 hl q low high (c10 0 4)   (by omega) 601 0 c32 (by omega) ⟨hR_c32, by omega⟩ (fun v_44 c44 hv_44 hc44 hv44 => ?_)
        have hR9 := hv44.1
        obtain ⟨ra44, rb44, rc44⟩ := hR9
        refine T_iload (am_dec tX12_number_1 14 rfl) rfl ?_
        refine T_iload_n (am_dec tX12_number_1 15 rfl) rfl ?_
        refine T_iload_n (am_dec tX12_number_1 16 rfl) rfl ?_
        refine T_callS (as := [aI v_44, aI low, aI high]) rfl (am_dec tX12_number_1 17 rfl) lkX12_194 rfl (Nat.le_of_ble_eq_true rfl) (by omega) (mk_in (d := d - 1)  v_44 low high   ) (fun _ => ?_)
        refine T_nm (fun z110 hz110 => ?_)
        have hb110 := k_in_b v_44 low high
        rw [← hz110] at hb110
        have hs110 := k_in_s v_44 low high
        rw [← hz110] at hs110
        have K113 : ∀ (c113 : am_F), c113 = (if z110 = 0 then k_wrong c44 2 (c10 0 4) else c44) → RdV c113 →  am_T S zX12_number d u Q 122 [some (aR b), none, none, none, some (aI v_44)] [] (mdW w b c113 q) := by
          intro c113 hc113 hR_c113
          have hR9 := hR_c113
          obtain ⟨ra_c113, rb_c113, rc_c113⟩ := hR9
          refine T_aload_n (am_dec tX12_number_1 23 rfl) rfl ?_
          refine T_getfield 11 5 (am_dec tX12_number_1 24 rfl) flX12_176_11 (md_obj hl) rfl ?_
          have K126 : ∀ (t126 : Int), t126 = (if c113 0 5 = 0 then v_44 else 0) →  am_T S zX12_number d u Q 135 [none, none, none, none, none] [aI t126] (mdW w b c113 q) := by
            intro t126 ht126 
            exact T_ireturn (am_dec tX12_number_1 29 rfl) rfl (am_tr (fun (x9 : Int × am_F) => Q (.inl (some (aI (x9.1)))) (mdW w b x9.2 q)) (y := (t126, c113)) (show (k_number c low high) = (t126, c113) from (by have s9 := hc10.symm; subst s9; have s9 := hn26.symm; subst s9; have s9 := hz29.symm; subst s9; have s9 := hc32.symm; subst s9; have s9 := hv_44.symm; subst s9; have s9 := hc44.symm; subst s9; have s9 := hz110.symm; subst s9; have s9 := hc113.symm; subst s9; have s9 := ht126.symm; subst s9; exact (if_pos h4))) hQ)
          refine T_if_ne 134 (am_dec tX12_number_1 25 rfl) rfl (fun h126 => ?_) (fun h126 => ?_)
          · refine T_iconst 0 (am_dec tX12_number_1 28 rfl) rfl ⟨by decide, by decide⟩ ?_
            refine T_weak (ls' := [none, none, none, none, none]) (am_sub_n (am_sub_n (am_sub_n (am_sub_n (am_sub_n am_sub_nil))))) ?_
            exact K126 _ (if_neg h126).symm 
          · refine T_iload (am_dec tX12_number_1 26 rfl) rfl ?_
            refine T_goto 135 (am_dec tX12_number_1 27 rfl) rfl ?_
            refine T_weak (ls' := [none, none, none, none, none]) (am_sub_n (am_sub_n (am_sub_n (am_sub_n (am_sub_n am_sub_nil))))) ?_
            exact K126 _ (if_pos h126).symm 
        refine T_if_ne 122 (am_dec tX12_number_1 18 rfl) rfl (fun h113 => ?_) (fun h113 => ?_)
        · refine T_weak (ls' := [some (aR b), none, none, none, some (aI v_44)]) (am_sub_s (am_sub_n (am_sub_n (am_sub_n (am_sub_s am_sub_nil))))) ?_
          exact K113 _ (if_neg h113).symm hv44.1
        · refine T_aload_n (am_dec tX12_number_1 19 rfl) rfl ?_
          refine T_iconst 2 (am_dec tX12_number_1 20 rfl) rfl ⟨by decide, by decide⟩ ?_
          refine T_iload_n (am_dec tX12_number_1 21 rfl) rfl ?_
          refine T_callV (as := [aI 2, aI (c10 0 4)]) rfl (am_dec tX12_number_1 22 rfl) lkX12_189 (md_obj hl) rfl rfl (Nat.le_of_ble_eq_true rfl) (by omega) (mk_wrong (d := d - 1) hl 2 (c10 0 4)   ) (fun _ => ?_)
          refine T_nmH (W := fun x9 => mdW w b x9 q) (v := k_wrong c44 2 (c10 0 4)) (fun c119 hc119 => ?_)
          have hR119 : RdV c119 := by rw [hc119]; exact (k_wrong_x hv44.1).1
          have hR9 := hR119
          obtain ⟨ra119, rb119, rc119⟩ := hR9
          refine T_weak (ls' := [some (aR b), none, none, none, some (aI v_44)]) (am_sub_s (am_sub_n (am_sub_n (am_sub_n (am_sub_s am_sub_nil))))) ?_
          exact K113 _ (by have s9 := hc119.symm; subst s9; exact (if_pos h113).symm) hR119
      refine T_if_ne 44 (am_dec tX12_number_0 17 rfl) rfl (fun h32 => ?_) (fun h32 => ?_)
      · exact K32 _ (if_neg h32).symm hR10 hx10
      · refine T_aload_n (am_dec tX12_number_0 18 rfl) rfl ?_
        refine T_iconst 1 (am_dec tX12_number_0 19 rfl) rfl ⟨by decide, by decide⟩ ?_
        refine T_aload_n (am_dec tX12_number_0 20 rfl) rfl ?_
        refine T_getfield 11 4 (am_dec tX12_number_0 21 rfl) flX12_169_11 (md_obj hl) rfl ?_
        refine T_callV (as := [aI 1, aI (c10 0 4)]) rfl (am_dec tX12_number_0 22 rfl) lkX12_189 (md_obj hl) rfl rfl (Nat.le_of_ble_eq_true rfl) (by omega) (mk_wrong (d := d - 1) hl 1 (c10 0 4)   ) (fun _ => ?_)
        refine T_nmH (W := fun x9 => mdW w b x9 q) (v := k_wrong c10 1 (c10 0 4)) (fun c41 hc41 => ?_)
        have hR41 : RdV c41 := by rw [hc41]; exact (k_wrong_x hR10).1
        have hR9 := hR41
        obtain ⟨ra41, rb41, rc41⟩ := hR9
        have hx41 : Lx c c41 := Lx_t hx10 (by rw [hc41]; exact (k_wrong_x hR10).2)
        have hz41 : c41 0 2 = c 0 2 := hx41.2 2 (by decide) (by decide) (by decide)
        exact K32 _ (by have s9 := hc41.symm; subst s9; exact (if_pos h32).symm) hR41 hx41
    · refine T_iconst 0 (am_dec tX12_number_0 3 rfl) rfl ⟨by decide, by decide⟩ ?_
      exact T_ireturn (am_dec tX12_number_0 4 rfl) rfl (am_tr (fun (x9 : Int × am_F) => Q (.inl (some (aI (x9.1)))) (mdW w b x9.2 q)) (y := (0, c)) (show (k_number c low high) = (0, c) from (if_neg h4)) hQ)
  exact key _ ⟨rfl, rfl⟩
