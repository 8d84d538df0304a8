/-! the model: tests, rows -/
theorem k_takes_f (c : am_F) (la lb lc ld le lf lg : Int) : (k_takes c la lb lc ld le lf lg).1 = 0 ∨ c 0 5 = 0 := by
  by_cases h : c 0 5 = 0
  · exact Or.inr h
  · left
    unfold k_takes k_isWord
    dsimp only
    rw [if_neg h]
theorem k_opens_s (t : am_F) : k_byteAt (k_opens t).2 ((k_opens t).2 0 4) = k_byteAt t (t 0 4) := by
  obtain ⟨e4, e2⟩ := k_opens_4 t
  have e1 : (k_opens t).2 1 = t 1 := by
    unfold k_opens
    dsimp only
    split
    · unfold k_wrong
      split
      · rw [am_put_kr (by decide), am_put_kr (by decide)]
      · rfl
    · rw [am_put_kr (by decide)]
  unfold k_byteAt
  rw [e4, e2, e1]
def w_k_andRow_4 (fu : am_F → am_F) (c : am_F) : (am_F) ⊕ (am_F) := (let u13 : Int × am_F := k_takes c 1 14 4 0 0 0 0; (if (u13).1 = 0 then .inr ((u13).2) else (let c20 : am_F := fu ((u13).2); (let c27 : am_F := k_says c20 10 0; .inl c27))))
theorem L_k_andRow_4 {S : am_S} {d u : Nat} {Q : AO → AH → Prop} {w : AH} {b : Nat} (hl : b + 735 ≤ w.length) (q : am_F) (E : Nat) (nf : Int) (fu : am_F → am_F) (hE : E + 1 ≤ d) (hfu : LmC S w b q zX12_oneIs E nf fu) (hfi : LmI fu) (hd : 8 ≤ d) : ∀ (n : Nat) (c : am_F), (if c 0 5 = 0 then c 0 2 - c 0 4 + 1 else 0) < n → MI c ∧ 6 - c 0 50 ≤ nf → (∀ (c' : am_F), c' = am_wh (w_k_andRow_4 fu) n c → Q (.inl none) (mdW w b c' q)) → am_T S zX12_andRow d u Q 4 [some (aR b)] [] (mdW w b c q) := by
  intro n
  induction n with
  | zero =>
    intro c hm9 hinv k9
    have hM := hinv.1
    have hnf := hinv.2
    have hM9 := hM
    obtain ⟨hMr, hM2, hM3, hM4, hM5⟩ := hM9
    have hR := hMr
    obtain ⟨r1, r2, r3⟩ := hMr
    have hMR0 := MR_r hM
    exfalso; omega
  | succ n ih =>
    intro c hm9 hinv k9
    have hM := hinv.1
    have hnf := hinv.2
    have hM9 := hM
    obtain ⟨hMr, hM2, hM3, hM4, hM5⟩ := hM9
    have hR := hMr
    obtain ⟨r1, r2, r3⟩ := hMr
    have hMR0 := MR_r hM
    refine T_aload_n (am_dec tX12_andRow_0 2 rfl) rfl ?_
    refine T_iconst 1 (am_dec tX12_andRow_0 3 rfl) rfl ⟨by decide, by decide⟩ ?_
    refine T_bipush 14 (am_dec tX12_andRow_0 4 rfl) rfl ⟨by decide, by decide⟩ ?_
    refine T_iconst 4 (am_dec tX12_andRow_0 5 rfl) rfl ⟨by decide, by decide⟩ ?_
    refine T_iconst 0 (am_dec tX12_andRow_0 6 rfl) rfl ⟨by decide, by decide⟩ ?_
    refine T_iconst 0 (am_dec tX12_andRow_0 7 rfl) rfl ⟨by decide, by decide⟩ ?_
    refine T_iconst 0 (am_dec tX12_andRow_0 8 rfl) rfl ⟨by decide, by decide⟩ ?_
    refine T_iconst 0 (am_dec tX12_andRow_0 9 rfl) rfl ⟨by decide, by decide⟩ ?_
    refine T_callV (as := [aI 1, aI 14, aI 4, aI 0, aI 0, aI 0, aI 0]) rfl (am_dec tX12_andRow_0 10 rfl) lkX12_461 (md_obj hl) rfl rfl (Nat.le_of_ble_eq_true rfl) (by omega) (mk_takes (d := d - 1) hl 1 14 4 0 0 0 0  hMR0.1 (by omega) (by omega) (by omega) (by omega) (by omega) (by omega) (by omega) (by omega)) (fun _ => ?_)
    obtain ⟨u13, hu13⟩ : ∃ x9, x9 = k_takes c 1 14 4 0 0 0 0 := ⟨_, rfl⟩
    rw [← hu13]
    have hb13 := k_takes_b c 1 14 4 0 0 0 0
    rw [← hu13] at hb13
    have hm13 : MR c (u13).2 (0 + (u13).1) (0) := by rw [hu13]; exact MR_le (MR_E hMR0 (Ea_takes (Ea_r hMR0.1) (by decide))) (by omega)
    have hR_hm13 : RdV (u13).2 := hm13.1
    obtain ⟨rahm13, rbhm13, rchm13⟩ : RdV (u13).2 := hR_hm13
    have hohm13 : (u13).2 0 50 = c 0 50 + (0) := hm13.2.2.2.1
    have hnhm13 := hm13.2.2.1
    have hghm13 := MR_at hm13
    have hyhm13 := hm13.2.1.1
    have hw13 : (u13).1 = 0 ∨ c 0 5 = 0 := by rw [hu13]; exact k_takes_f _ _ _ _ _ _ _ _
    refine T_if_eq 33 (am_dec tX12_andRow_0 11 rfl) rfl (fun h16 => ?_) (fun h16 => ?_)
    · exact T_return (am_dec tX12_andRow_0 19 rfl) rfl (by have e9 : (w_k_andRow_4 fu) c = .inr ((u13).2) := (by have s9 := hu13.symm; subst s9; exact (if_pos h16)); simp only [am_wh_r e9] at k9; exact k9 _ rfl)
    · refine T_aload_n (am_dec tX12_andRow_0 12 rfl) rfl ?_
      refine T_callV (as := []) rfl (am_dec tX12_andRow_0 13 rfl) lkX12_467 (md_obj hl) rfl rfl (Nat.le_of_ble_eq_true rfl) (by omega) (hfu (d - 1) ((u13).2) (by omega) (MR_I hM hm13 (by omega) (by omega)) (show 6 - ((u13).2 0 50) ≤ nf by omega)) (fun _ => ?_)
      refine T_nmH (W := fun x9 => mdW w b x9 q) (v := fu ((u13).2)) (fun c20 hc20 => ?_)
      have hMI20 : MI ((u13).2) := (MR_I hM hm13 (by omega) (by omega))
      have hm20 : MR c c20 (0 + (u13).1) (0) := by rw [hc20]; exact MR_o (MR_le (MR_t hm13 (hfi ((u13).2) (MR_I hM hm13 (by omega) (by omega)))) (by omega)) (by omega)
      have hR_hm20 : RdV c20 := hm20.1
      obtain ⟨rahm20, rbhm20, rchm20⟩ : RdV c20 := hR_hm20
      have hohm20 : c20 0 50 = c 0 50 + (0) := hm20.2.2.2.1
      have hnhm20 := hm20.2.2.1
      have hghm20 := MR_at hm20
      have hyhm20 := hm20.2.1.1
      refine T_aload_n (am_dec tX12_andRow_0 14 rfl) rfl ?_
      refine T_bipush 10 (am_dec tX12_andRow_0 15 rfl) rfl ⟨by decide, by decide⟩ ?_
      refine T_iconst 0 (am_dec tX12_andRow_0 16 rfl) rfl ⟨by decide, by decide⟩ ?_
      refine T_callV (as := [aI 10, aI 0]) rfl (am_dec tX12_andRow_0 17 rfl) lkX12_464 (md_obj hl) rfl rfl (Nat.le_of_ble_eq_true rfl) (by omega) (mk_says (d := d - 1) hl 10 0  (by omega) ) (fun _ => ?_)
      refine T_nmH (W := fun x9 => mdW w b x9 q) (v := k_says c20 10 0) (fun c27 hc27 => ?_)
      have hm27 : MR c c27 (0 + (u13).1 - 1) (0) := by rw [hc27]; exact MR_says hM hm20 (by omega)
      have hR_hm27 : RdV c27 := hm27.1
      obtain ⟨rahm27, rbhm27, rchm27⟩ : RdV c27 := hR_hm27
      have hohm27 : c27 0 50 = c 0 50 + (0) := hm27.2.2.2.1
      have hnhm27 := hm27.2.2.1
      have hghm27 := MR_at hm27
      have hyhm27 := hm27.2.1.1
      have hs27 := k_says_4 c20 (10) (0)
      rw [← hc27] at hs27
      obtain ⟨hs27a, hs27b⟩ := hs27
      refine T_goto 4 (am_dec tX12_andRow_0 18 rfl) rfl ?_
      have e9 : (w_k_andRow_4 fu) c = .inl c27 := (by have s9 := hu13.symm; subst s9; have s9 := hc20.symm; subst s9; have s9 := hc27.symm; subst s9; exact (if_neg h16))
      simp only [am_wh_l e9] at k9
      exact ih c27 (by omega) ⟨(MR_I hM hm27 (by omega) (by omega)), by omega⟩ k9
def k_andRow (c : am_F) (fu : am_F → am_F) : am_F := (let c1 : am_F := fu c; am_wh (w_k_andRow_4 fu) 602 c1)
theorem mk_andRow {S : am_S} {d u : Nat} {w : AH} {b : Nat} (hl : b + 735 ≤ w.length) {c : am_F} {q : am_F} (E : Nat) (nf : Int) (fu : am_F → am_F) (hM : MI c) (hE : E + 1 ≤ d) (hnf : 6 - c 0 50 ≤ nf) (hfu : LmC S w b q zX12_oneIs E nf fu) (hfi : LmI fu)  (hd : 8 ≤ d) : am_Out S zX12_andRow d u [aR b] (mdW w b c q) (.inl none) (mdW w b (k_andRow c fu) q) := by
  have key : ∀ Q : AO → AH → Prop, Q (.inl none) (mdW w b (k_andRow c fu) q) → am_M S zX12_andRow d u [aR b] (mdW w b c q) Q := by
    intro Q hQ
    refine am_body rfl (by decide +kernel) rfl (am_cats_cons rfl (am_cats_nil)) (Nat.le_of_ble_eq_true rfl) (?_ : am_T _ _ _ _ _ 0 [some (aR b)] [] (mdW w b c q))
    have hM9 := hM
    obtain ⟨hMr, hM2, hM3, hM4, hM5⟩ := hM9
    have hR := hMr
    obtain ⟨r1, r2, r3⟩ := hMr
    have hMR0 := MR_r hM
    refine T_aload_n (am_dec tX12_andRow_0 0 rfl) rfl ?_
    refine T_callV (as := []) rfl (am_dec tX12_andRow_0 1 rfl) lkX12_467 (md_obj hl) rfl rfl (Nat.le_of_ble_eq_true rfl) (by omega) (hfu (d - 1) c (by omega) (MR_I hM hMR0 (by omega) (by omega)) (show 6 - (c 0 50) ≤ nf by omega)) (fun _ => ?_)
    refine T_nmH (W := fun x9 => mdW w b x9 q) (v := fu c) (fun c1 hc1 => ?_)
    have hMI1 : MI c := (MR_I hM hMR0 (by omega) (by omega))
    have hm1 : MR c c1 (0) (0) := by rw [hc1]; exact MR_o (MR_le (MR_t hMR0 (hfi c (MR_I hM hMR0 (by omega) (by omega)))) (by omega)) (by omega)
    have hR_hm1 : RdV c1 := hm1.1
    obtain ⟨rahm1, rbhm1, rchm1⟩ : RdV c1 := hR_hm1
    have hohm1 : c1 0 50 = c 0 50 + (0) := hm1.2.2.2.1
    have hnhm1 := hm1.2.2.1
    have hghm1 := MR_at hm1
    have hyhm1 := hm1.2.1.1
    refine L_k_andRow_4 hl q E nf fu  hE hfu hfi (by omega) 602 c1 (by omega) ⟨(MR_I hM hm1 (by omega) (by omega)), by omega⟩ (fun c4 hc4 => ?_)
    exact (am_tr (fun (x9 : am_F) => Q (.inl none) (mdW w b x9 q)) (y := c4) (show (k_andRow c fu) = c4 from (by have s9 := hc1.symm; subst s9; have s9 := hc4.symm; subst s9; exact rfl)) hQ)
  exact key _ ⟨rfl, rfl⟩
def w_k_orRow_4 (fu : am_F → am_F) (c : am_F) : (am_F) ⊕ (am_F) := (let u14 : Int × am_F := k_takes c 15 18 0 0 0 0 0; (if (u14).1 = 0 then .inr ((u14).2) else (let c21 : am_F := fu ((u14).2); (let c28 : am_F := k_says c21 11 0; .inl c28))))
theorem L_k_orRow_4 {S : am_S} {d u : Nat} {Q : AO → AH → Prop} {w : AH} {b : Nat} (hl : b + 735 ≤ w.length) (q : am_F) (E : Nat) (nf : Int) (fu : am_F → am_F) (hE : E + 1 ≤ d) (hfu : LmC S w b q zX12_andRow E nf fu) (hfi : LmI fu) (hd : 8 ≤ d) : ∀ (n : Nat) (c : am_F), (if c 0 5 = 0 then c 0 2 - c 0 4 + 1 else 0) < n → MI c ∧ 6 - c 0 50 ≤ nf → (∀ (c' : am_F), c' = am_wh (w_k_orRow_4 fu) n c → Q (.inl none) (mdW w b c' q)) → am_T S zX12_orRow d u Q 4 [some (aR b)] [] (mdW w b c q) := by
  intro n
  induction n with
  | zero =>
    intro c hm9 hinv k9
    have hM := hinv.1
    have hnf := hinv.2
    have hM9 := hM
    obtain ⟨hMr, hM2, hM3, hM4, hM5⟩ := hM9
    have hR := hMr
    obtain ⟨r1, r2, r3⟩ := hMr
    have hMR0 := MR_r hM
    exfalso; omega
  | succ n ih =>
    intro c hm9 hinv k9
    have hM := hinv.1
    have hnf := hinv.2
    have hM9 := hM
    obtain ⟨hMr, hM2, hM3, hM4, hM5⟩ := hM9
    have hR := hMr
    obtain ⟨r1, r2, r3⟩ := hMr
    have hMR0 := MR_r hM
    refine T_aload_n (am_dec tX12_orRow_0 2 rfl) rfl ?_
    refine T_bipush 15 (am_dec tX12_orRow_0 3 rfl) rfl ⟨by decide, by decide⟩ ?_
    refine T_bipush 18 (am_dec tX12_orRow_0 4 rfl) rfl ⟨by decide, by decide⟩ ?_
    refine T_iconst 0 (am_dec tX12_orRow_0 5 rfl) rfl ⟨by decide, by decide⟩ ?_
    refine T_iconst 0 (am_dec tX12_orRow_0 6 rfl) rfl ⟨by decide, by decide⟩ ?_
    refine T_iconst 0 (am_dec tX12_orRow_0 7 rfl) rfl ⟨by decide, by decide⟩ ?_
    refine T_iconst 0 (am_dec tX12_orRow_0 8 rfl) rfl ⟨by decide, by decide⟩ ?_
    refine T_iconst 0 (am_dec tX12_orRow_0 9 rfl) rfl ⟨by decide, by decide⟩ ?_
    refine T_callV (as := [aI 15, aI 18, aI 0, aI 0, aI 0, aI 0, aI 0]) rfl (am_dec tX12_orRow_0 10 rfl) lkX12_461 (md_obj hl) rfl rfl (Nat.le_of_ble_eq_true rfl) (by omega) (mk_takes (d := d - 1) hl 15 18 0 0 0 0 0  hMR0.1 (by omega) (by omega) (by omega) (by omega) (by omega) (by omega) (by omega) (by omega)) (fun _ => ?_)
    obtain ⟨u14, hu14⟩ : ∃ x9, x9 = k_takes c 15 18 0 0 0 0 0 := ⟨_, rfl⟩
    rw [← hu14]
    have hb14 := k_takes_b c 15 18 0 0 0 0 0
    rw [← hu14] at hb14
    have hm14 : MR c (u14).2 (0 + (u14).1) (0) := by rw [hu14]; exact MR_le (MR_E hMR0 (Ea_takes (Ea_r hMR0.1) (by decide))) (by omega)
    have hR_hm14 : RdV (u14).2 := hm14.1
    obtain ⟨rahm14, rbhm14, rchm14⟩ : RdV (u14).2 := hR_hm14
    have hohm14 : (u14).2 0 50 = c 0 50 + (0) := hm14.2.2.2.1
    have hnhm14 := hm14.2.2.1
    have hghm14 := MR_at hm14
    have hyhm14 := hm14.2.1.1
    have hw14 : (u14).1 = 0 ∨ c 0 5 = 0 := by rw [hu14]; exact k_takes_f _ _ _ _ _ _ _ _
    refine T_if_eq 34 (am_dec tX12_orRow_0 11 rfl) rfl (fun h17 => ?_) (fun h17 => ?_)
    · exact T_return (am_dec tX12_orRow_0 19 rfl) rfl (by have e9 : (w_k_orRow_4 fu) c = .inr ((u14).2) := (by have s9 := hu14.symm; subst s9; exact (if_pos h17)); simp only [am_wh_r e9] at k9; exact k9 _ rfl)
    · refine T_aload_n (am_dec tX12_orRow_0 12 rfl) rfl ?_
      refine T_callV (as := []) rfl (am_dec tX12_orRow_0 13 rfl) lkX12_458 (md_obj hl) rfl rfl (Nat.le_of_ble_eq_true rfl) (by omega) (hfu (d - 1) ((u14).2) (by omega) (MR_I hM hm14 (by omega) (by omega)) (show 6 - ((u14).2 0 50) ≤ nf by omega)) (fun _ => ?_)
      refine T_nmH (W := fun x9 => mdW w b x9 q) (v := fu ((u14).2)) (fun c21 hc21 => ?_)
      have hMI21 : MI ((u14).2) := (MR_I hM hm14 (by omega) (by omega))
      have hm21 : MR c c21 (0 + (u14).1) (0) := by rw [hc21]; exact MR_o (MR_le (MR_t hm14 (hfi ((u14).2) (MR_I hM hm14 (by omega) (by omega)))) (by omega)) (by omega)
      have hR_hm21 : RdV c21 := hm21.1
      obtain ⟨rahm21, rbhm21, rchm21⟩ : RdV c21 := hR_hm21
      have hohm21 : c21 0 50 = c 0 50 + (0) := hm21.2.2.2.1
      have hnhm21 := hm21.2.2.1
      have hghm21 := MR_at hm21
      have hyhm21 := hm21.2.1.1
      refine T_aload_n (am_dec tX12_orRow_0 14 rfl) rfl ?_
      refine T_bipush 11 (am_dec tX12_orRow_0 15 rfl) rfl ⟨by decide, by decide⟩ ?_
      refine T_iconst 0 (am_dec tX12_orRow_0 16 rfl) rfl ⟨by decide, by decide⟩ ?_
      refine T_callV (as := [aI 11, aI 0]) rfl (am_dec tX12_orRow_0 17 rfl) lkX12_464 (md_obj hl) rfl rfl (Nat.le_of_ble_eq_true rfl) (by omega) (mk_says (d := d - 1) hl 11 0  (by omega) ) (fun _ => ?_)
      refine T_nmH (W := fun x9 => mdW w b x9 q) (v := k_says c21 11 0) (fun c28 hc28 => ?_)
      have hm28 : MR c c28 (0 + (u14).1 - 1) (0) := by rw [hc28]; exact MR_says hM hm21 (by omega)
      have hR_hm28 : RdV c28 := hm28.1
      obtain ⟨rahm28, rbhm28, rchm28⟩ : RdV c28 := hR_hm28
      have hohm28 : c28 0 50 = c 0 50 + (0) := hm28.2.2.2.1
      have hnhm28 := hm28.2.2.1
      have hghm28 := MR_at hm28
      have hyhm28 := hm28.2.1.1
      have hs28 := k_says_4 c21 (11) (0)
      rw [← hc28] at hs28
      obtain ⟨hs28a, hs28b⟩ := hs28
      refine T_goto 4 (am_dec tX12_orRow_0 18 rfl) rfl ?_
      have e9 : (w_k_orRow_4 fu) c = .inl c28 := (by have s9 := hu14.symm; subst s9; have s9 := hc21.symm; subst s9; have s9 := hc28.symm; subst s9; exact (if_neg h17))
      simp only [am_wh_l e9] at k9
      exact ih c28 (by omega) ⟨(MR_I hM hm28 (by omega) (by omega)), by omega⟩ k9
def k_orRow (c : am_F) (fu : am_F → am_F) : am_F := (let c1 : am_F := fu c; am_wh (w_k_orRow_4 fu) 602 c1)
theorem mk_orRow {S : am_S} {d u : Nat} {w : AH} {b : Nat} (hl : b + 735 ≤ w.length) {c : am_F} {q : am_F} (E : Nat) (nf : Int) (fu : am_F → am_F) (hM : MI c) (hE : E + 1 ≤ d) (hnf : 6 - c 0 50 ≤ nf) (hfu : LmC S w b q zX12_andRow E nf fu) (hfi : LmI fu)  (hd : 8 ≤ d) : am_Out S zX12_orRow d u [aR b] (mdW w b c q) (.inl none) (mdW w b (k_orRow c fu) q) := by
  have key : ∀ Q : AO → AH → Prop, Q (.inl none) (mdW w b (k_orRow c fu) q) → am_M S zX12_orRow d u [aR b] (mdW w b c q) Q := by
    intro Q hQ
    refine am_body rfl (by decide +kernel) rfl (am_cats_cons rfl (am_cats_nil)) (Nat.le_of_ble_eq_true rfl) (?_ : am_T _ _ _ _ _ 0 [some (aR b)] [] (mdW w b c q))
    have hM9 := hM
    obtain ⟨hMr, hM2, hM3, hM4, hM5⟩ := hM9
    have hR := hMr
    obtain ⟨r1, r2, r3⟩ := hMr
    have hMR0 := MR_r hM
    refine T_aload_n (am_dec tX12_orRow_0 0 rfl) rfl ?_
    refine T_callV (as := []) rfl (am_dec tX12_orRow_0 1 rfl) lkX12_458 (md_obj hl) rfl rfl (Nat.le_of_ble_eq_true rfl) (by omega) (hfu (d - 1) c (by omega) (MR_I hM hMR0 (by omega) (by omega)) (show 6 - (c 0 50) ≤ nf by omega)) (fun _ => ?_)
    refine T_nmH (W := fun x9 => mdW w b x9 q) (v := fu c) (fun c1 hc1 => ?_)
    have hMI1 : MI c := (MR_I hM hMR0 (by omega) (by omega))
    have hm1 : MR c c1 (0) (0) := by rw [hc1]; exact MR_o (MR_le (MR_t hMR0 (hfi c (MR_I hM hMR0 (by omega) (by omega)))) (by omega)) (by omega)
    have hR_hm1 : RdV c1 := hm1.1
    obtain ⟨rahm1, rbhm1, rchm1⟩ : RdV c1 := hR_hm1
    have hohm1 : c1 0 50 = c 0 50 + (0) := hm1.2.2.2.1
    have hnhm1 := hm1.2.2.1
    have hghm1 := MR_at hm1
    have hyhm1 := hm1.2.1.1
    refine L_k_orRow_4 hl q E nf fu  hE hfu hfi (by omega) 602 c1 (by omega) ⟨(MR_I hM hm1 (by omega) (by omega)), by omega⟩ (fun c4 hc4 => ?_)
    exact (am_tr (fun (x9 : am_F) => Q (.inl none) (mdW w b x9 q)) (y := c4) (show (k_orRow c fu) = c4 from (by have s9 := hc1.symm; subst s9; have s9 := hc4.symm; subst s9; exact rfl)) hQ)
  exact key _ ⟨rfl, rfl⟩
def k_oneIs (c : am_F) (fn : am_F → am_F) (fc : am_F → am_F) (fs : am_F → am_F) : am_F := (if c 0 5 = 0 then (let c9 : am_F := k_blanks c; (let u23 : Int × am_F := k_isWord c9 14 15 20 0 0 0 0; (if (u23).1 = 0 then (let n68 : Int := (k_byteAt ((u23).2) ((u23).2 0 4)); (if n68 = 91 then (let u77 : Int × am_F := k_opens ((u23).2); (if (u77).1 = 0 then (u77).2 else (let c95 : am_F := fc (am_put (u77).2 0 4 (((u77).2 0 4) + 1)); (let c101 : am_F := k_sign c95 93; (am_put c101 0 50 ((c101 0 50) - 1)))))) else (let c116 : am_F := fs ((u23).2); (let u122 : Int × am_F := k_takesSign c116 60; (let t125 : Int := (if (u122).1 = 0 then (let u136 : Int × am_F := k_takesSign ((u122).2) 62; (if (u136).1 = 0 then (let u150 : Int × am_F := k_takesSign ((u136).2) 61; (if (u150).1 = 0 then (-1) else 8)) else 7)) else 6); (let c125 : am_F := (if (u122).1 = 0 then (let u136 : Int × am_F := k_takesSign ((u122).2) 62; (if (u136).1 = 0 then (let u150 : Int × am_F := k_takesSign ((u136).2) 61; ((u150).2)) else ((u136).2))) else ((u122).2)); (let c165 : am_F := (if t125 = (-1) then k_wrong c125 1 (c125 0 4) else c125); (let c178 : am_F := fs c165; k_says c178 t125 0)))))))) else (let u30 : Int × am_F := k_opens ((u23).2); (if (u30).1 = 0 then (u30).2 else (let c38 : am_F := k_skipWord ((u30).2); (let c42 : am_F := fn c38; (let c49 : am_F := k_says c42 9 0; (am_put c49 0 50 ((c49 0 50) - 1)))))))))) else c)
theorem mk_oneIs {S : am_S} {d u : Nat} {w : AH} {b : Nat} (hl : b + 735 ≤ w.length) {c : am_F} {q : am_F} (E : Nat) (nf : Int) (fn : am_F → am_F) (fc : am_F → am_F) (fs : am_F → am_F) (hM : MI c) (hE : E + 1 ≤ d) (hnf : 6 - c 0 50 ≤ nf) (hfn : LmC S w b q zX12_oneIs E (nf - 1) fn) (hfc : LmC S w b q zX12_orRow E (nf - 1) fc) (hfs : LmC S w b q zX12_sum E nf fs) (hin : LmI fn) (hic : LmI fc) (his : LmI fs)  (hd : 8 ≤ d) : am_Out S zX12_oneIs d u [aR b] (mdW w b c q) (.inl none) (mdW w b (k_oneIs c fn fc fs) q) := by
  have key : ∀ Q : AO → AH → Prop, Q (.inl none) (mdW w b (k_oneIs c fn fc fs) q) → am_M S zX12_oneIs d u [aR b] (mdW w b c q) Q := by
    intro Q hQ
    refine am_body rfl (by decide +kernel) rfl (am_cats_cons rfl (am_cats_nil)) (Nat.le_of_ble_eq_true rfl) (?_ : am_T _ _ _ _ _ 0 [some (aR b), none] [] (mdW w b c q))
    have hM9 := hM
    obtain ⟨hMr, hM2, hM3, hM4, hM5⟩ := hM9
    have hR := hMr
    obtain ⟨r1, r2, r3⟩ := hMr
    have hMR0 := MR_r hM
    refine T_aload_n (am_dec tX12_oneIs_0 0 rfl) rfl ?_
    refine T_getfield 11 5 (am_dec tX12_oneIs_0 1 rfl) flX12_176_11 (md_obj hl) rfl ?_
    refine T_if_eq 8 (am_dec tX12_oneIs_0 2 rfl) rfl (fun h4 => ?_) (fun h4 => ?_)
    · refine T_aload_n (am_dec tX12_oneIs_0 4 rfl) rfl ?_
      refine T_callV (as := []) rfl (am_dec tX12_oneIs_0 5 rfl) lkX12_182 (md_obj hl) rfl rfl (Nat.le_of_ble_eq_true rfl) (by omega) (mk_blanks (d := d - 1) hl   hMR0.1 (by omega)) (fun _ => ?_)
      refine T_nmH (W := fun x9 => mdW w b x9 q) (v := k_blanks c) (fun c9 hc9 => ?_)
      have hm9 : MR c c9 (0) (0) := by rw [hc9]; exact MR_le (MR_E hMR0 (Ea_blanks (Ea_r hMR0.1)).1) (by omega)
      have hR_hm9 : RdV c9 := hm9.1
      obtain ⟨rahm9, rbhm9, rchm9⟩ : RdV c9 := hR_hm9
      have hohm9 : c9 0 50 = c 0 50 + (0) := hm9.2.2.2.1
      have hnhm9 := hm9.2.2.1
      have hghm9 := MR_at hm9
      have hyhm9 := hm9.2.1.1
      have hf9 : c9 0 5 = c 0 5 := by rw [hc9]; exact k_blanks_5
      refine T_aload_n (am_dec tX12_oneIs_0 6 rfl) rfl ?_
      refine T_bipush 14 (am_dec tX12_oneIs_0 7 rfl) rfl ⟨by decide, by decide⟩ ?_
      refine T_bipush 15 (am_dec tX12_oneIs_0 8 rfl) rfl ⟨by decide, by decide⟩ ?_
      refine T_bipush 20 (am_dec tX12_oneIs_0 9 rfl) rfl ⟨by decide, by decide⟩ ?_
      refine T_iconst 0 (am_dec tX12_oneIs_0 10 rfl) rfl ⟨by decide, by decide⟩ ?_
      refine T_iconst 0 (am_dec tX12_oneIs_0 11 rfl) rfl ⟨by decide, by decide⟩ ?_
      refine T_iconst 0 (am_dec tX12_oneIs_0 12 rfl) rfl ⟨by decide, by decide⟩ ?_
      refine T_iconst 0 (am_dec tX12_oneIs_0 13 rfl) rfl ⟨by decide, by decide⟩ ?_
      refine T_callV (as := [aI 14, aI 15, aI 20, aI 0, aI 0, aI 0, aI 0]) rfl (am_dec tX12_oneIs_0 14 rfl) lkX12_215 (md_obj hl) rfl rfl (Nat.le_of_ble_eq_true rfl) (by omega) (mk_isWord (d := d - 1) hl 14 15 20 0 0 0 0  hm9.1 (by omega) (by omega) (by omega) (by omega) (by omega) (by omega) (by omega) (by omega)) (fun _ => ?_)
      obtain ⟨u23, hu23⟩ : ∃ x9, x9 = k_isWord c9 14 15 20 0 0 0 0 := ⟨_, rfl⟩
      rw [← hu23]
      have hb23 := k_isWord_b c9 14 15 20 0 0 0 0
      rw [← hu23] at hb23
      have hm23 : MR c (u23).2 (0) (0) := by rw [hu23]; exact MR_le (MR_E hm9 (Ea_isWord (Ea_r hm9.1) (by decide)).1) (by omega)
      have hR_hm23 : RdV (u23).2 := hm23.1
      obtain ⟨rahm23, rbhm23, rchm23⟩ : RdV (u23).2 := hR_hm23
      have hohm23 : (u23).2 0 50 = c 0 50 + (0) := hm23.2.2.2.1
      have hnhm23 := hm23.2.2.1
      have hghm23 := MR_at hm23
      have hyhm23 := hm23.2.1.1
      have hf23 : (u23).2 0 5 = c9 0 5 := by rw [hu23]; exact k_isWord_5 _ _ _ _ _ _ _ _
      refine T_if_eq 63 (am_dec tX12_oneIs_0 15 rfl) rfl (fun h26 => ?_) (fun h26 => ?_)
      · refine T_aload_n (am_dec tX12_oneIs_0 35 rfl) rfl ?_
        refine T_aload_n (am_dec tX12_oneIs_0 36 rfl) rfl ?_
        refine T_getfield 11 4 (am_dec tX12_oneIs_0 37 rfl) flX12_169_11 (md_obj hl) rfl ?_
        refine T_callV (as := [aI ((u23).2 0 4)]) rfl (am_dec tX12_oneIs_0 38 rfl) lkX12_172 (md_obj hl) rfl rfl (Nat.le_of_ble_eq_true rfl) (by omega) (mk_byteAt (d := d - 1) hl ((u23).2 0 4)  (by omega) ) (fun _ => ?_)
        refine T_nm (fun n68 hn68 => ?_)
        have hs68 : (((u23).2 0 4) < (u23).2 0 2 ∧ n68 = ((u23).2) 1 ((u23).2 0 4).toNat) ∨ ((u23).2 0 2 ≤ ((u23).2 0 4) ∧ n68 = -1) := by rw [hn68]; exact k_byteAt_s _ _
        refine T_bipush 91 (am_dec tX12_oneIs_0 39 rfl) rfl ⟨by decide, by decide⟩ ?_
        refine T_icmp_ne 115 (am_dec tX12_oneIs_1 0 rfl) rfl (fun h73 => ?_) (fun h73 => ?_)
        · refine T_aload_n (am_dec tX12_oneIs_1 23 rfl) rfl ?_
          refine T_callV (as := []) rfl (am_dec tX12_oneIs_1 24 rfl) lkX12_476 (md_obj hl) rfl rfl (Nat.le_of_ble_eq_true rfl) (by omega) (hfs (d - 1) ((u23).2) (by omega) (MR_I hM hm23 (by omega) (by omega)) (show 6 - ((u23).2 0 50) ≤ nf by omega)) (fun _ => ?_)
          refine T_nmH (W := fun x9 => mdW w b x9 q) (v := fs ((u23).2)) (fun c116 hc116 => ?_)
          have hMI116 : MI ((u23).2) := (MR_I hM hm23 (by omega) (by omega))
          have hm116 : MR c c116 (0) (0) := by rw [hc116]; exact MR_o (MR_le (MR_t hm23 (his ((u23).2) (MR_I hM hm23 (by omega) (by omega)))) (by omega)) (by omega)
          have hR_hm116 : RdV c116 := hm116.1
          obtain ⟨rahm116, rbhm116, rchm116⟩ : RdV c116 := hR_hm116
          have hohm116 : c116 0 50 = c 0 50 + (0) := hm116.2.2.2.1
          have hnhm116 := hm116.2.2.1
          have hghm116 := MR_at hm116
          have hyhm116 := hm116.2.1.1
          refine T_aload_n (am_dec tX12_oneIs_1 25 rfl) rfl ?_
          refine T_bipush 60 (am_dec tX12_oneIs_1 26 rfl) rfl ⟨by decide, by decide⟩ ?_
          refine T_callV (as := [aI 60]) rfl (am_dec tX12_oneIs_1 27 rfl) lkX12_479 (md_obj hl) rfl rfl (Nat.le_of_ble_eq_true rfl) (by omega) (mk_takesSign (d := d - 1) hl 60  hm116.1 (by omega) (by omega)) (fun _ => ?_)
          obtain ⟨u122, hu122⟩ : ∃ x9, x9 = k_takesSign c116 60 := ⟨_, rfl⟩
          rw [← hu122]
          have hb122 := k_takesSign_b c116 60
          rw [← hu122] at hb122
          have hm122 : MR c (u122).2 (0 + (u122).1) (0) := by rw [hu122]; exact MR_le (MR_E hm116 (Ea_takesSign (Ea_r hm116.1) (by decide))) (by omega)
          have hR_hm122 : RdV (u122).2 := hm122.1
          obtain ⟨rahm122, rbhm122, rchm122⟩ : RdV (u122).2 := hR_hm122
          have hohm122 : (u122).2 0 50 = c 0 50 + (0) := hm122.2.2.2.1
          have hnhm122 := hm122.2.2.1
          have hghm122 := MR_at hm122
          have hyhm122 := hm122.2.1.1
          have K125 : ∀ (t125 : Int), ∀ (c125 : am_F), t125 = (if (u122).1 = 0 then (let u136 : Int × am_F := k_takesSign ((u122).2) 62; (if (u136).1 = 0 then (let u150 : Int × am_F := k_takesSign ((u136).2) 61; (if (u150).1 = 0 then (-1) else 8)) else 7)) else 6) → c125 = (if (u122).1 = 0 then (let u136 : Int × am_F := k_takesSign ((u122).2) 62; (if (u136).1 = 0 then (let u150 : Int × am_F := k_takesSign ((u136).2) 61; ((u150).2)) else ((u136).2))) else ((u122).2)) →  am_T S zX12_oneIs d u Q 162 [some (aR b), none] [aI t125] (mdW w b c125 q) := by
            intro t125 c125 ht125 hc125 
            have hxt125 := ht125
            dsimp only at hxt125
            have hm125 : MR c c125 ((if t125 = -1 then 0 else 1)) (0) := by
              rw [hc125, ht125]
              try dsimp only
              by_cases g : (u122).1 = 0
              · rw [if_pos g, if_pos g]
                have hb := k_takesSign_b (u122).2 62
                have m1 := MR_le (j := 0 + (k_takesSign (u122).2 62).1) (MR_E hm122 (Ea_takesSign (Ea_r hm122.1) (sg := 62) (by decide))) (by omega)
                by_cases g2 : (k_takesSign (u122).2 62).1 = 0
                · rw [if_pos g2, if_pos g2]
                  have hb2 := k_takesSign_b (k_takesSign (u122).2 62).2 61
                  exact MR_le (MR_E m1 (Ea_takesSign (Ea_r m1.1) (by decide))) (by omega)
                · rw [if_neg g2, if_neg g2]
                  exact MR_le m1 (by omega)
              · rw [if_neg g, if_neg g]
                exact MR_le hm122 (by omega)
            have hR_hm125 : RdV c125 := hm125.1
            obtain ⟨rahm125, rbhm125, rchm125⟩ : RdV c125 := hR_hm125
            have hohm125 : c125 0 50 = c 0 50 + (0) := hm125.2.2.2.1
            have hnhm125 := hm125.2.2.1
            have hghm125 := MR_at hm125
            have hyhm125 := hm125.2.1.1
            refine T_istore_n (ls' := [some (aR b), some (aI t125)]) (am_dec tX12_oneIs_2 4 rfl) (by decide) rfl ?_
            refine T_iload_n (am_dec tX12_oneIs_2 5 rfl) rfl ?_
            refine T_iconst (-1) (am_dec tX12_oneIs_2 6 rfl) rfl ⟨by decide, by decide⟩ ?_
            have K165 : ∀ (c165 : am_F), c165 = (if t125 = (-1) then k_wrong c125 1 (c125 0 4) else c125) →  am_T S zX12_oneIs d u Q 177 [some (aR b), some (aI t125)] [] (mdW w b c165 q) := by
              intro c165 hc165 
              have hm165 : MR c c165 (1) (0) := by
                rw [hc165]
                split
                · exact MR_le (MR_E hm125 (Ea_wrong (j := 1000) (Ea_r hm125.1) (by decide))) (by omega)
                · exact MR_le hm125 (by omega)
              have hR_hm165 : RdV c165 := hm165.1
              obtain ⟨rahm165, rbhm165, rchm165⟩ : RdV c165 := hR_hm165
              have hohm165 : c165 0 50 = c 0 50 + (0) := hm165.2.2.2.1
              have hnhm165 := hm165.2.2.1
              have hghm165 := MR_at hm165
              have hyhm165 := hm165.2.1.1
              refine T_aload_n (am_dec tX12_oneIs_2 13 rfl) rfl ?_
              refine T_callV (as := []) rfl (am_dec tX12_oneIs_2 14 rfl) lkX12_476 (md_obj hl) rfl rfl (Nat.le_of_ble_eq_true rfl) (by omega) (hfs (d - 1) c165 (by omega) (MR_I hM hm165 (by omega) (by omega)) (show 6 - (c165 0 50) ≤ nf by omega)) (fun _ => ?_)
              refine T_nmH (W := fun x9 => mdW w b x9 q) (v := fs c165) (fun c178 hc178 => ?_)
              have hMI178 : MI c165 := (MR_I hM hm165 (by omega) (by omega))
              have hm178 : MR c c178 (1) (0) := by rw [hc178]; exact MR_o (MR_le (MR_t hm165 (his c165 (MR_I hM hm165 (by omega) (by omega)))) (by omega)) (by omega)
              have hR_hm178 : RdV c178 := hm178.1
              obtain ⟨rahm178, rbhm178, rchm178⟩ : RdV c178 := hR_hm178
              have hohm178 : c178 0 50 = c 0 50 + (0) := hm178.2.2.2.1
              have hnhm178 := hm178.2.2.1
              have hghm178 := MR_at hm178
              have hyhm178 := hm178.2.1.1
              refine T_aload_n (am_dec tX12_oneIs_2 15 rfl) rfl ?_
              refine T_iload_n (am_dec tX12_oneIs_2 16 rfl) rfl ?_
              refine T_iconst 0 (am_dec tX12_oneIs_2 17 rfl) rfl ⟨by decide, by decide⟩ ?_
              refine T_callV (as := [aI t125, aI 0]) rfl (am_dec tX12_oneIs_2 18 rfl) lkX12_464 (md_obj hl) rfl rfl (Nat.le_of_ble_eq_true rfl) (by omega) (mk_says (d := d - 1) hl t125 0  (by omega) ) (fun _ => ?_)
              refine T_nmH (W := fun x9 => mdW w b x9 q) (v := k_says c178 t125 0) (fun c184 hc184 => ?_)
              have hm184 : MR c c184 (1 - 1) (0) := by rw [hc184]; exact MR_says hM hm178 (by omega)
              have hR_hm184 : RdV c184 := hm184.1
              obtain ⟨rahm184, rbhm184, rchm184⟩ : RdV c184 := hR_hm184
              have hohm184 : c184 0 50 = c 0 50 + (0) := hm184.2.2.2.1
              have hnhm184 := hm184.2.2.1
              have hghm184 := MR_at hm184
              have hyhm184 := hm184.2.1.1
              have hs184 := k_says_4 c178 (t125) (0)
              rw [← hc184] at hs184
              obtain ⟨hs184a, hs184b⟩ := hs184
              exact T_return (am_dec tX12_oneIs_2 19 rfl) rfl (am_tr (fun (x9 : am_F) => Q (.inl none) (mdW w b x9 q)) (y := c184) (show (k_oneIs c fn fc fs) = c184 from (by have s9 := hc9.symm; subst s9; have s9 := hu23.symm; subst s9; have s9 := hn68.symm; subst s9; have s9 := hc116.symm; subst s9; have s9 := hu122.symm; subst s9; have s9 := ht125.symm; subst s9; have s9 := hc125.symm; subst s9; have s9 := hc165.symm; subst s9; have s9 := hc178.symm; subst s9; have s9 := hc184.symm; subst s9; exact ((if_pos h4).trans ((if_pos h26).trans (if_neg h73))))) hQ)
            refine T_icmp_ne 177 (am_dec tX12_oneIs_2 7 rfl) rfl (fun h165 => ?_) (fun h165 => ?_)
            · exact K165 _ (if_neg h165).symm 
            · refine T_aload_n (am_dec tX12_oneIs_2 8 rfl) rfl ?_
              refine T_iconst 1 (am_dec tX12_oneIs_2 9 rfl) rfl ⟨by decide, by decide⟩ ?_
              refine T_aload_n (am_dec tX12_oneIs_2 10 rfl) rfl ?_
              refine T_getfield 11 4 (am_dec tX12_oneIs_2 11 rfl) flX12_169_11 (md_obj hl) rfl ?_
              refine T_callV (as := [aI 1, aI (c125 0 4)]) rfl (am_dec tX12_oneIs_2 12 rfl) lkX12_189 (md_obj hl) rfl rfl (Nat.le_of_ble_eq_true rfl) (by omega) (mk_wrong (d := d - 1) hl 1 (c125 0 4)   ) (fun _ => ?_)
              refine T_nmH (W := fun x9 => mdW w b x9 q) (v := k_wrong c125 1 (c125 0 4)) (fun c174 hc174 => ?_)
              have hm174 : MR c c174 ((if t125 = -1 then 0 else 1) + 1000) (0) := by rw [hc174]; exact MR_le (MR_E hm125 (Ea_wrong (j := 1000) (Ea_r hm125.1) (by decide))) (by omega)
              have hR_hm174 : RdV c174 := hm174.1
              obtain ⟨rahm174, rbhm174, rchm174⟩ : RdV c174 := hR_hm174
              have hohm174 : c174 0 50 = c 0 50 + (0) := hm174.2.2.2.1
              have hnhm174 := hm174.2.2.1
              have hghm174 := MR_at hm174
              have hyhm174 := hm174.2.1.1
              exact K165 _ (by have s9 := hc174.symm; subst s9; exact (if_pos h165).symm) 
          refine T_if_eq 133 (am_dec tX12_oneIs_1 28 rfl) rfl (fun h125 => ?_) (fun h125 => ?_)
          · refine T_aload_n (am_dec tX12_oneIs_1 31 rfl) rfl ?_
            refine T_bipush 62 (am_dec tX12_oneIs_1 32 rfl) rfl ⟨by decide, by decide⟩ ?_
            refine T_callV (as := [aI 62]) rfl (am_dec tX12_oneIs_1 33 rfl) lkX12_479 (md_obj hl) rfl rfl (Nat.le_of_ble_eq_true rfl) (by omega) (mk_takesSign (d := d - 1) hl 62  hm122.1 (by omega) (by omega)) (fun _ => ?_)
            obtain ⟨u136, hu136⟩ : ∃ x9, x9 = k_takesSign ((u122).2) 62 := ⟨_, rfl⟩
            rw [← hu136]
            have hb136 := k_takesSign_b ((u122).2) 62
            rw [← hu136] at hb136
            have hm136 : MR c (u136).2 (0 + (u122).1 + (u136).1) (0) := by rw [hu136]; exact MR_le (MR_E hm122 (Ea_takesSign (Ea_r hm122.1) (by decide))) (by omega)
            have hR_hm136 : RdV (u136).2 := hm136.1
            obtain ⟨rahm136, rbhm136, rchm136⟩ : RdV (u136).2 := hR_hm136
            have hohm136 : (u136).2 0 50 = c 0 50 + (0) := hm136.2.2.2.1
            have hnhm136 := hm136.2.2.1
            have hghm136 := MR_at hm136
            have hyhm136 := hm136.2.1.1
            have K139 : ∀ (t139 : Int), ∀ (c139 : am_F), t139 = (if (u136).1 = 0 then (let u150 : Int × am_F := k_takesSign ((u136).2) 61; (if (u150).1 = 0 then (-1) else 8)) else 7) → c139 = (if (u136).1 = 0 then (let u150 : Int × am_F := k_takesSign ((u136).2) 61; ((u150).2)) else ((u136).2)) →  am_T S zX12_oneIs d u Q 162 [some (aR b), none] [aI t139] (mdW w b c139 q) := by
              intro t139 c139 ht139 hc139 
              have hxt139 := ht139
              dsimp only at hxt139
              exact K125 _ _ (by have s9 := hu136.symm; subst s9; have s9 := ht139.symm; subst s9; have s9 := hc139.symm; subst s9; exact (if_pos h125).symm) (by have s9 := hu136.symm; subst s9; have s9 := ht139.symm; subst s9; have s9 := hc139.symm; subst s9; exact (if_pos h125).symm) 
            refine T_if_eq 147 (am_dec tX12_oneIs_1 34 rfl) rfl (fun h139 => ?_) (fun h139 => ?_)
            · refine T_aload_n (am_dec tX12_oneIs_1 37 rfl) rfl ?_
              refine T_bipush 61 (am_dec tX12_oneIs_1 38 rfl) rfl ⟨by decide, by decide⟩ ?_
              refine T_callV (as := [aI 61]) rfl (am_dec tX12_oneIs_1 39 rfl) lkX12_479 (md_obj hl) rfl rfl (Nat.le_of_ble_eq_true rfl) (by omega) (mk_takesSign (d := d - 1) hl 61  hm136.1 (by omega) (by omega)) (fun _ => ?_)
              obtain ⟨u150, hu150⟩ : ∃ x9, x9 = k_takesSign ((u136).2) 61 := ⟨_, rfl⟩
              rw [← hu150]
              have hb150 := k_takesSign_b ((u136).2) 61
              rw [← hu150] at hb150
              have hm150 : MR c (u150).2 (0 + (u122).1 + (u136).1 + (u150).1) (0) := by rw [hu150]; exact MR_le (MR_E hm136 (Ea_takesSign (Ea_r hm136.1) (by decide))) (by omega)
              have hR_hm150 : RdV (u150).2 := hm150.1
              obtain ⟨rahm150, rbhm150, rchm150⟩ : RdV (u150).2 := hR_hm150
              have hohm150 : (u150).2 0 50 = c 0 50 + (0) := hm150.2.2.2.1
              have hnhm150 := hm150.2.2.1
              have hghm150 := MR_at hm150
              have hyhm150 := hm150.2.1.1
              have K153 : ∀ (t153 : Int), t153 = (if (u150).1 = 0 then (-1) else 8) →  am_T S zX12_oneIs d u Q 162 [some (aR b), none] [aI t153] (mdW w b (u150).2 q) := by
                intro t153 ht153 
                exact K139 _ _ (by have s9 := hu150.symm; subst s9; have s9 := ht153.symm; subst s9; exact (if_pos h139).symm) (by have s9 := hu150.symm; subst s9; have s9 := ht153.symm; subst s9; exact (if_pos h139).symm) 
              refine T_if_eq 161 (am_dec tX12_oneIs_2 0 rfl) rfl (fun h153 => ?_) (fun h153 => ?_)
              · refine T_iconst (-1) (am_dec tX12_oneIs_2 3 rfl) rfl ⟨by decide, by decide⟩ ?_
                exact K153 _ (if_pos h153).symm 
              · refine T_bipush 8 (am_dec tX12_oneIs_2 1 rfl) rfl ⟨by decide, by decide⟩ ?_
                refine T_goto 162 (am_dec tX12_oneIs_2 2 rfl) rfl ?_
                exact K153 _ (if_neg h153).symm 
            · refine T_bipush 7 (am_dec tX12_oneIs_1 35 rfl) rfl ⟨by decide, by decide⟩ ?_
              refine T_goto 162 (am_dec tX12_oneIs_1 36 rfl) rfl ?_
              exact K139 _ _ (if_neg h139).symm (if_neg h139).symm 
          · refine T_bipush 6 (am_dec tX12_oneIs_1 29 rfl) rfl ⟨by decide, by decide⟩ ?_
            refine T_goto 162 (am_dec tX12_oneIs_1 30 rfl) rfl ?_
            exact K125 _ _ (if_neg h125).symm (if_neg h125).symm 
        · refine T_aload_n (am_dec tX12_oneIs_1 1 rfl) rfl ?_
          refine T_callV (as := []) rfl (am_dec tX12_oneIs_1 2 rfl) lkX12_470 (md_obj hl) rfl rfl (Nat.le_of_ble_eq_true rfl) (by omega) (mk_opens (d := d - 1) hl   hm23.1 (by omega) (by omega)) (fun _ => ?_)
          obtain ⟨u77, hu77⟩ : ∃ x9, x9 = k_opens ((u23).2) := ⟨_, rfl⟩
          rw [← hu77]
          have hb77 := k_opens_b ((u23).2)
          rw [← hu77] at hb77
          have hm77 : MR c (u77).2 (0) (0 + (u77).1) := by rw [hu77]; exact (MR_opens hm23 (by omega)).1
          have hR_hm77 : RdV (u77).2 := hm77.1
          obtain ⟨rahm77, rbhm77, rchm77⟩ : RdV (u77).2 := hR_hm77
          have hohm77 : (u77).2 0 50 = c 0 50 + (0 + (u77).1) := hm77.2.2.2.1
          have hnhm77 := hm77.2.2.1
          have hghm77 := MR_at hm77
          have hyhm77 := hm77.2.1.1
          have hq77 := (MR_opens hm23 (by omega)).2
          rw [← hu77] at hq77
          have hp77 := k_opens_4 ((u23).2)
          rw [← hu77] at hp77
          obtain ⟨hp77a, hp77b⟩ := hp77
          refine T_if_ne 84 (am_dec tX12_oneIs_1 3 rfl) rfl (fun h80 => ?_) (fun h80 => ?_)
          · refine T_aload_n (am_dec tX12_oneIs_1 5 rfl) rfl ?_
            refine T_dup (am_dec tX12_oneIs_1 6 rfl) rfl ?_
            refine T_getfield 11 4 (am_dec tX12_oneIs_1 7 rfl) flX12_169_11 (md_obj hl) rfl ?_
            refine T_iconst 1 (am_dec tX12_oneIs_1 8 rfl) rfl ⟨by decide, by decide⟩ ?_
            refine T_iadd (((u77).2 0 4) + 1) (am_dec tX12_oneIs_1 9 rfl) rfl ⟨by omega, by omega⟩ ?_
            refine T_putfield (fs' := mdO b (am_up ((u77).2 0) 4 (((u77).2 0 4) + 1)) (q 0)) 11 4 (am_dec tX12_oneIs_1 10 rfl) flX12_169_11 rfl rfl rfl trivial (md_obj hl) (Nat.le_of_ble_eq_true rfl) rfl ?_
            refine am_wE (w2 := mdW w b (am_put (u77).2 0 4 (((u77).2 0 4) + 1)) q) (md_fc) ?_
            refine T_aload_n (am_dec tX12_oneIs_1 11 rfl) rfl ?_
            refine T_callV (as := []) rfl (am_dec tX12_oneIs_1 12 rfl) lkX12_473 (md_obj hl) rfl rfl (Nat.le_of_ble_eq_true rfl) (by omega) (hfc (d - 1) (am_put (u77).2 0 4 (((u77).2 0 4) + 1)) (by omega) (MR_I hM (MR_adv hm77 (by omega)) (by omega) (by omega)) (show 6 - ((u77).2 0 50) ≤ nf - 1 by omega)) (fun _ => ?_)
            refine T_nmH (W := fun x9 => mdW w b x9 q) (v := fc (am_put (u77).2 0 4 (((u77).2 0 4) + 1))) (fun c95 hc95 => ?_)
            have hMI95 : MI (am_put (u77).2 0 4 (((u77).2 0 4) + 1)) := (MR_I hM (MR_adv hm77 (by omega)) (by omega) (by omega))
            have hm95 : MR c c95 (0 + 1) (0 + (u77).1) := by rw [hc95]; exact MR_o (MR_le (MR_t (MR_adv hm77 (by omega)) (hic (am_put (u77).2 0 4 (((u77).2 0 4) + 1)) (MR_I hM (MR_adv hm77 (by omega)) (by omega) (by omega)))) (by omega)) (by omega)
            have hR_hm95 : RdV c95 := hm95.1
            obtain ⟨rahm95, rbhm95, rchm95⟩ : RdV c95 := hR_hm95
            have hohm95 : c95 0 50 = c 0 50 + (0 + (u77).1) := hm95.2.2.2.1
            have hnhm95 := hm95.2.2.1
            have hghm95 := MR_at hm95
            have hyhm95 := hm95.2.1.1
            refine T_aload_n (am_dec tX12_oneIs_1 13 rfl) rfl ?_
            refine T_bipush 93 (am_dec tX12_oneIs_1 14 rfl) rfl ⟨by decide, by decide⟩ ?_
            refine T_callV (as := [aI 93]) rfl (am_dec tX12_oneIs_1 15 rfl) lkX12_264 (md_obj hl) rfl rfl (Nat.le_of_ble_eq_true rfl) (by omega) (mk_sign (d := d - 1) hl 93  hm95.1 (by omega) (by omega)) (fun _ => ?_)
            refine T_nmH (W := fun x9 => mdW w b x9 q) (v := k_sign c95 93) (fun c101 hc101 => ?_)
            have hm101 : MR c c101 (0 + 1) (0 + (u77).1) := by rw [hc101]; exact MR_le (MR_E hm95 (Ea_sign (Ea_r hm95.1) (by decide))) (by omega)
            have hR_hm101 : RdV c101 := hm101.1
            obtain ⟨rahm101, rbhm101, rchm101⟩ : RdV c101 := hR_hm101
            have hohm101 : c101 0 50 = c 0 50 + (0 + (u77).1) := hm101.2.2.2.1
            have hnhm101 := hm101.2.2.1
            have hghm101 := MR_at hm101
            have hyhm101 := hm101.2.1.1
            refine T_aload_n (am_dec tX12_oneIs_1 16 rfl) rfl ?_
            refine T_dup (am_dec tX12_oneIs_1 17 rfl) rfl ?_
            refine T_getfield 11 50 (am_dec tX12_oneIs_1 18 rfl) flX12_455_11 (md_obj hl) rfl ?_
            refine T_iconst 1 (am_dec tX12_oneIs_1 19 rfl) rfl ⟨by decide, by decide⟩ ?_
            refine T_isub ((c101 0 50) - 1) (am_dec tX12_oneIs_1 20 rfl) rfl ⟨by omega, by omega⟩ ?_
            refine T_putfield (fs' := mdO b (am_up (c101 0) 50 ((c101 0 50) - 1)) (q 0)) 11 50 (am_dec tX12_oneIs_1 21 rfl) flX12_455_11 rfl rfl rfl trivial (md_obj hl) (Nat.le_of_ble_eq_true rfl) rfl ?_
            refine am_wE (w2 := mdW w b (am_put c101 0 50 ((c101 0 50) - 1)) q) (md_fc) ?_
            exact T_return (am_dec tX12_oneIs_1 22 rfl) rfl (am_tr (fun (x9 : am_F) => Q (.inl none) (mdW w b x9 q)) (y := (am_put c101 0 50 ((c101 0 50) - 1))) (show (k_oneIs c fn fc fs) = (am_put c101 0 50 ((c101 0 50) - 1)) from (by have s9 := hc9.symm; subst s9; have s9 := hu23.symm; subst s9; have s9 := hn68.symm; subst s9; have s9 := hu77.symm; subst s9; have s9 := hc95.symm; subst s9; have s9 := hc101.symm; subst s9; exact ((if_pos h4).trans ((if_pos h26).trans ((if_pos h73).trans (if_neg h80)))))) hQ)
          · exact T_return (am_dec tX12_oneIs_1 4 rfl) rfl (am_tr (fun (x9 : am_F) => Q (.inl none) (mdW w b x9 q)) (y := (u77).2) (show (k_oneIs c fn fc fs) = (u77).2 from (by have s9 := hc9.symm; subst s9; have s9 := hu23.symm; subst s9; have s9 := hn68.symm; subst s9; have s9 := hu77.symm; subst s9; exact ((if_pos h4).trans ((if_pos h26).trans ((if_pos h73).trans (if_pos h80)))))) hQ)
      · refine T_aload_n (am_dec tX12_oneIs_0 16 rfl) rfl ?_
        refine T_callV (as := []) rfl (am_dec tX12_oneIs_0 17 rfl) lkX12_470 (md_obj hl) rfl rfl (Nat.le_of_ble_eq_true rfl) (by omega) (mk_opens (d := d - 1) hl   hm23.1 (by omega) (by omega)) (fun _ => ?_)
        obtain ⟨u30, hu30⟩ : ∃ x9, x9 = k_opens ((u23).2) := ⟨_, rfl⟩
        rw [← hu30]
        have hb30 := k_opens_b ((u23).2)
        rw [← hu30] at hb30
        have hm30 : MR c (u30).2 (0) (0 + (u30).1) := by rw [hu30]; exact (MR_opens hm23 (by omega)).1
        have hR_hm30 : RdV (u30).2 := hm30.1
        obtain ⟨rahm30, rbhm30, rchm30⟩ : RdV (u30).2 := hR_hm30
        have hohm30 : (u30).2 0 50 = c 0 50 + (0 + (u30).1) := hm30.2.2.2.1
        have hnhm30 := hm30.2.2.1
        have hghm30 := MR_at hm30
        have hyhm30 := hm30.2.1.1
        have hq30 := (MR_opens hm23 (by omega)).2
        rw [← hu30] at hq30
        have hp30 := k_opens_4 ((u23).2)
        rw [← hu30] at hp30
        obtain ⟨hp30a, hp30b⟩ := hp30
        refine T_if_ne 37 (am_dec tX12_oneIs_0 18 rfl) rfl (fun h33 => ?_) (fun h33 => ?_)
        · refine T_aload_n (am_dec tX12_oneIs_0 20 rfl) rfl ?_
          refine T_callV (as := []) rfl (am_dec tX12_oneIs_0 21 rfl) lkX12_219 (md_obj hl) rfl rfl (Nat.le_of_ble_eq_true rfl) (by omega) (mk_skipWord (d := d - 1) hl   hm30.1 (by omega)) (fun _ => ?_)
          refine T_nmH (W := fun x9 => mdW w b x9 q) (v := k_skipWord ((u30).2)) (fun c38 hc38 => ?_)
          have hsm : k_isSmall (k_byteAt (u30).2 ((u30).2 0 4)) ≠ 0 := by
            rw [hu30, k_opens_s]
            have z9 := (Ea_isWord (la := 14) (lb := 15) (lc := 20) (ld := 0) (le := 0) (lf := 0) (lg := 0) (Ea_r hm9.1) (by decide)).2
            rw [← hu23] at z9
            exact z9.resolve_left (by assumption)
          have hm38 : MR c c38 (0 + 1) (0 + (u30).1) := by rw [hc38]; exact MR_le (MR_E hm30 (Ea_skip (Ea_r hm30.1) hsm)) (by omega)
          have hR_hm38 : RdV c38 := hm38.1
          obtain ⟨rahm38, rbhm38, rchm38⟩ : RdV c38 := hR_hm38
          have hohm38 : c38 0 50 = c 0 50 + (0 + (u30).1) := hm38.2.2.2.1
          have hnhm38 := hm38.2.2.1
          have hghm38 := MR_at hm38
          have hyhm38 := hm38.2.1.1
          refine T_aload_n (am_dec tX12_oneIs_0 22 rfl) rfl ?_
          refine T_callV (as := []) rfl (am_dec tX12_oneIs_0 23 rfl) lkX12_467 (md_obj hl) rfl rfl (Nat.le_of_ble_eq_true rfl) (by omega) (hfn (d - 1) c38 (by omega) (MR_I hM hm38 (by omega) (by omega)) (show 6 - (c38 0 50) ≤ nf - 1 by omega)) (fun _ => ?_)
          refine T_nmH (W := fun x9 => mdW w b x9 q) (v := fn c38) (fun c42 hc42 => ?_)
          have hMI42 : MI c38 := (MR_I hM hm38 (by omega) (by omega))
          have hm42 : MR c c42 (0 + 1) (0 + (u30).1) := by rw [hc42]; exact MR_o (MR_le (MR_t hm38 (hin c38 (MR_I hM hm38 (by omega) (by omega)))) (by omega)) (by omega)
          have hR_hm42 : RdV c42 := hm42.1
          obtain ⟨rahm42, rbhm42, rchm42⟩ : RdV c42 := hR_hm42
          have hohm42 : c42 0 50 = c 0 50 + (0 + (u30).1) := hm42.2.2.2.1
          have hnhm42 := hm42.2.2.1
          have hghm42 := MR_at hm42
          have hyhm42 := hm42.2.1.1
          refine T_aload_n (am_dec tX12_oneIs_0 24 rfl) rfl ?_
          refine T_bipush 9 (am_dec tX12_oneIs_0 25 rfl) rfl ⟨by decide, by decide⟩ ?_
          refine T_iconst 0 (am_dec tX12_oneIs_0 26 rfl) rfl ⟨by decide, by decide⟩ ?_
          refine T_callV (as := [aI 9, aI 0]) rfl (am_dec tX12_oneIs_0 27 rfl) lkX12_464 (md_obj hl) rfl rfl (Nat.le_of_ble_eq_true rfl) (by omega) (mk_says (d := d - 1) hl 9 0  (by omega) ) (fun _ => ?_)
          refine T_nmH (W := fun x9 => mdW w b x9 q) (v := k_says c42 9 0) (fun c49 hc49 => ?_)
          have hm49 : MR c c49 (0 + 1 - 1) (0 + (u30).1) := by rw [hc49]; exact MR_says hM hm42 (by omega)
          have hR_hm49 : RdV c49 := hm49.1
          obtain ⟨rahm49, rbhm49, rchm49⟩ : RdV c49 := hR_hm49
          have hohm49 : c49 0 50 = c 0 50 + (0 + (u30).1) := hm49.2.2.2.1
          have hnhm49 := hm49.2.2.1
          have hghm49 := MR_at hm49
          have hyhm49 := hm49.2.1.1
          have hs49 := k_says_4 c42 (9) (0)
          rw [← hc49] at hs49
          obtain ⟨hs49a, hs49b⟩ := hs49
          refine T_aload_n (am_dec tX12_oneIs_0 28 rfl) rfl ?_
          refine T_dup (am_dec tX12_oneIs_0 29 rfl) rfl ?_
          refine T_getfield 11 50 (am_dec tX12_oneIs_0 30 rfl) flX12_455_11 (md_obj hl) rfl ?_
          refine T_iconst 1 (am_dec tX12_oneIs_0 31 rfl) rfl ⟨by decide, by decide⟩ ?_
          refine T_isub ((c49 0 50) - 1) (am_dec tX12_oneIs_0 32 rfl) rfl ⟨by omega, by omega⟩ ?_
          refine T_putfield (fs' := mdO b (am_up (c49 0) 50 ((c49 0 50) - 1)) (q 0)) 11 50 (am_dec tX12_oneIs_0 33 rfl) flX12_455_11 rfl rfl rfl trivial (md_obj hl) (Nat.le_of_ble_eq_true rfl) rfl ?_
          refine am_wE (w2 := mdW w b (am_put c49 0 50 ((c49 0 50) - 1)) q) (md_fc) ?_
          exact T_return (am_dec tX12_oneIs_0 34 rfl) rfl (am_tr (fun (x9 : am_F) => Q (.inl none) (mdW w b x9 q)) (y := (am_put c49 0 50 ((c49 0 50) - 1))) (show (k_oneIs c fn fc fs) = (am_put c49 0 50 ((c49 0 50) - 1)) from (by have s9 := hc9.symm; subst s9; have s9 := hu23.symm; subst s9; have s9 := hu30.symm; subst s9; have s9 := hc38.symm; subst s9; have s9 := hc42.symm; subst s9; have s9 := hc49.symm; subst s9; exact ((if_pos h4).trans ((if_neg h26).trans (if_neg h33))))) hQ)
        · exact T_return (am_dec tX12_oneIs_0 19 rfl) rfl (am_tr (fun (x9 : am_F) => Q (.inl none) (mdW w b x9 q)) (y := (u30).2) (show (k_oneIs c fn fc fs) = (u30).2 from (by have s9 := hc9.symm; subst s9; have s9 := hu23.symm; subst s9; have s9 := hu30.symm; subst s9; exact ((if_pos h4).trans ((if_neg h26).trans (if_pos h33))))) hQ)
    · exact T_return (am_dec tX12_oneIs_0 3 rfl) rfl (am_tr (fun (x9 : am_F) => Q (.inl none) (mdW w b x9 q)) (y := c) (show (k_oneIs c fn fc fs) = c from (if_neg h4)) hQ)
  exact key _ ⟨rfl, rfl⟩
