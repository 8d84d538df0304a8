/-! the model: numbers and words -/
theorem k_numl_x {c : am_F} {v : Int} (h : RdV c) : RdV (am_wh w_k_number_44 601 (v, c)).2 ∧ Lx c (am_wh w_k_number_44 601 (v, c)).2 := by
  refine am_wh_inv (P := fun d => RdV d.2 ∧ Lx c d.2) ?_ ?_ 601 (v, c) ⟨h, Lx_r⟩
  · intro x y hp e
    revert e
    unfold w_k_number_44
    dsimp only
    have hb := k_byteAt_s x.2 (x.2 0 4)
    have hd := k_isDigit_s (k_byteAt x.2 (x.2 0 4))
    have hr := hp.1
    obtain ⟨r1, r2, r3⟩ := hr
    split
    · intro e; cases e
    · intro e
      rw [← Sum.inl.inj e]
      exact ⟨RdV_p4 hp.1 (by omega) (by omega), Lx_t hp.2 (Lx_p (by omega))⟩
  · intro x y hp e
    revert e
    unfold w_k_number_44
    dsimp only
    split
    · intro e; rw [← Sum.inr.inj e]; exact hp
    · intro e; cases e
theorem k_wrong_5 {c : am_F} {x y : Int} (hx : x ≠ 0) : k_wrong c x y 0 5 ≠ 0 := by
  unfold k_wrong
  split
  · rw [am_put_i (by decide), am_put_s]; exact hx
  · assumption
theorem k_number_x {c : am_F} {lo hi : Int} (h : RdV c) : RdV (k_number c lo hi).2 ∧ Lx c (k_number c lo hi).2 ∧ (((k_number c lo hi).2 0 5 = 0 ∧ lo ≤ (k_number c lo hi).1 ∧ (k_number c lo hi).1 ≤ hi) ∨ ((k_number c lo hi).2 0 5 ≠ 0 ∧ (k_number c lo hi).1 = 0)) := by
  unfold k_number
  by_cases h5 : c 0 5 = 0
  · rw [if_pos h5]
    dsimp only
    have hb := k_blanks_x h
    obtain ⟨c1, e1⟩ : ∃ d, d = (if k_isDigit (k_byteAt (k_blanks c) (k_blanks c 0 4)) = 0 then k_wrong (k_blanks c) 1 (k_blanks c 0 4) else k_blanks c) := ⟨_, rfl⟩
    have h1 : RdV c1 ∧ Lx c c1 := by
      rw [e1]
      split
      · have := k_wrong_x (x := 1) (y := k_blanks c 0 4) hb.1
        exact ⟨this.1, Lx_t hb.2 this.2⟩
      · exact hb
    rw [← e1]
    have h2 := k_numl_x (v := 0) h1.1
    obtain ⟨r, er⟩ : ∃ r, r = am_wh w_k_number_44 601 (0, c1) := ⟨_, rfl⟩
    rw [← er] at h2 ⊢
    have hi2 := k_in_s r.1 lo hi
    by_cases hz : k_in r.1 lo hi = 0
    · rw [if_pos hz]
      have h3 := k_wrong_x (x := 2) (y := k_blanks c 0 4) h2.1
      have h4 := k_wrong_5 (c := r.2) (x := 2) (y := k_blanks c 0 4) (by decide)
      rw [if_neg h4]
      exact ⟨h3.1, Lx_t h1.2 (Lx_t h2.2 h3.2), Or.inr ⟨h4, rfl⟩⟩
    · rw [if_neg hz]
      refine ⟨h2.1, Lx_t h1.2 h2.2, ?_⟩
      by_cases h6 : r.2 0 5 = 0
      · rw [if_pos h6]
        left
        exact ⟨h6, by omega, by omega⟩
      · rw [if_neg h6]
        right
        exact ⟨h6, rfl⟩
  · rw [if_neg h5]
    exact ⟨h, Lx_r, Or.inr ⟨h5, rfl⟩⟩
def w_k_wordHere_8 (c : am_F) (x9 : Int × Int) : (Int × Int) ⊕ (Int × Int) := let v : Int := x9.1; let m : Int := x9.2; (let n15 : Int := (k_byteAt c ((c 0 4) + m)); (let z18 : Int := (k_isSmall n15); (if z18 = 0 then .inr (v, m) else (let t27 : Int := (if 8 ≤ m then v else (let n42 : Int := (k_byteAt c ((c 0 4) + m)); ((((27 * v) + n42) - 97) + 1))); .inl (t27, (m + 1))))))
theorem L_k_wordHere_8 {S : am_S} {d u : Nat} {Q : AO → AH → Prop} {w : AH} {b : Nat} (hl : b + 735 ≤ w.length) (c : am_F) (q : am_F) (hR : RdV c)  (hd : 2 ≤ d) : ∀ (n : Nat) (v : Int) (m : Int), c 0 2 - c 0 4 - m < n → (0 ≤ m ∧ c 0 4 + m ≤ c 0 2) ∧ 0 ≤ v ∧ v ≤ (if m ≤ 0 then 0 else if m ≤ 1 then 26 else if m ≤ 2 then 728 else if m ≤ 3 then 19682 else if m ≤ 4 then 531440 else if m ≤ 5 then 14348906 else if m ≤ 6 then 387420488 else if m ≤ 7 then 10460353202 else 282429536480) → (∀ (v' : Int) (m' : Int), v' = (am_wh (w_k_wordHere_8 c) n (v, m)).1 → m' = (am_wh (w_k_wordHere_8 c) n (v, m)).2 → (0 ≤ m' ∧ c 0 4 + m' ≤ c 0 2) ∧ 0 ≤ v' ∧ v' ≤ (if m' ≤ 0 then 0 else if m' ≤ 1 then 26 else if m' ≤ 2 then 728 else if m' ≤ 3 then 19682 else if m' ≤ 4 then 531440 else if m' ≤ 5 then 14348906 else if m' ≤ 6 then 387420488 else if m' ≤ 7 then 10460353202 else 282429536480) → am_T S zX12_wordHere d u Q 64 [none, some (aL v'), none, some (aI m')] [] (mdW w b c q)) → am_T S zX12_wordHere d u Q 8 [some (aR b), some (aL v), none, some (aI m)] [] (mdW w b c q) := by
  intro n
  induction n with
  | zero =>
    intro v m hm9 hinv k9
    have hR9 := hR
    obtain ⟨r1, r2, r3⟩ := hR9
    exfalso; omega
  | succ n ih =>
    intro v m hm9 hinv k9
    have hR9 := hR
    obtain ⟨r1, r2, r3⟩ := hR9
    refine T_aload_n (am_dec tX12_wordHere_0 6 rfl) rfl ?_
    refine T_aload_n (am_dec tX12_wordHere_0 7 rfl) rfl ?_
    refine T_getfield 11 4 (am_dec tX12_wordHere_0 8 rfl) flX12_169_11 (md_obj hl) rfl ?_
    refine T_iload_n (am_dec tX12_wordHere_0 9 rfl) rfl ?_
    refine T_iadd ((c 0 4) + m) (am_dec tX12_wordHere_0 10 rfl) rfl ⟨by omega, by omega⟩ ?_
    refine T_callV (as := [aI ((c 0 4) + m)]) rfl (am_dec tX12_wordHere_0 11 rfl) lkX12_172 (md_obj hl) rfl rfl (Nat.le_of_ble_eq_true rfl) (by omega) (mk_byteAt (d := d - 1) hl ((c 0 4) + m)  (by omega) ) (fun _ => ?_)
    refine T_nm (fun n15 hn15 => ?_)
    have hs15 : (((c 0 4) + m) < c 0 2 ∧ n15 = c 1 ((c 0 4) + m).toNat) ∨ (c 0 2 ≤ ((c 0 4) + m) ∧ n15 = -1) := by rw [hn15]; exact k_byteAt_s _ _
    refine T_callS (as := [aI n15]) rfl (am_dec tX12_wordHere_0 12 rfl) lkX12_198 rfl (Nat.le_of_ble_eq_true rfl) (by omega) (mk_isSmall (d := d - 1)  n15   ) (fun _ => ?_)
    refine T_nm (fun z18 hz18 => ?_)
    have hb18 := k_isSmall_b n15
    rw [← hz18] at hb18
    have hs18 := k_isSmall_s n15
    rw [← hz18] at hs18
    refine T_if_eq 64 (am_dec tX12_wordHere_0 13 rfl) rfl (fun h21 => ?_) (fun h21 => ?_)
    · refine T_weak (ls' := [none, some (aL v), none, some (aI m)]) (am_sub_n (am_sub_s (am_sub_n (am_sub_s am_sub_nil)))) ?_
      have e9 : (w_k_wordHere_8 c) (v, m) = .inr (v, m) := (by have s9 := hn15.symm; subst s9; have s9 := hz18.symm; subst s9; exact (if_pos h21))
      simp only [am_wh_r e9] at k9
      exact k9 _ _ rfl rfl (by omega)
    · refine T_iload_n (am_dec tX12_wordHere_0 14 rfl) rfl ?_
      refine T_bipush 8 (am_dec tX12_wordHere_0 15 rfl) rfl ⟨by decide, by decide⟩ ?_
      have K27 : ∀ (t27 : Int), t27 = (if 8 ≤ m then v else (let n42 : Int := (k_byteAt c ((c 0 4) + m)); ((((27 * v) + n42) - 97) + 1))) →  am_T S zX12_wordHere d u Q 57 [some (aR b), none, none, some (aI m)] [aL t27] (mdW w b c q) := by
        intro t27 ht27 
        have hxt27 := ht27
        dsimp only at hxt27
        refine T_lstore_n (ls' := [some (aR b), some (aL t27), none, some (aI m)]) (am_dec tX12_wordHere_0 34 rfl) (by decide) rfl ?_
        refine T_iinc (ls' := [some (aR b), some (aL t27), none, some (aI (m + 1))]) (m + 1) (am_dec tX12_wordHere_0 35 rfl) rfl rfl ⟨by omega, by omega⟩ (by decide) rfl ?_
        refine T_goto 8 (am_dec tX12_wordHere_0 36 rfl) rfl ?_
        have e9 : (w_k_wordHere_8 c) (v, m) = .inl (t27, m + 1) := (by have s9 := hn15.symm; subst s9; have s9 := hz18.symm; subst s9; have s9 := ht27.symm; subst s9; exact (if_neg h21))
        simp only [am_wh_l e9] at k9
        exact ih t27 (m + 1) (by omega) (by omega) k9
      refine T_icmp_ge 56 (am_dec tX12_wordHere_0 16 rfl) rfl (fun h27 => ?_) (fun h27 => ?_)
      · refine T_lload_n (am_dec tX12_wordHere_0 33 rfl) rfl ?_
        refine T_weak (ls' := [some (aR b), none, none, some (aI m)]) (am_sub_s (am_sub_n (am_sub_n (am_sub_s am_sub_nil)))) ?_
        exact K27 _ (if_pos h27).symm 
      · refine T_ldc2 27 (am_dec tX12_wordHere_0 17 rfl) (am_m9 83 rfl rfl) ⟨by decide, by decide⟩ ?_
        refine T_lload_n (am_dec tX12_wordHere_0 18 rfl) rfl ?_
        refine T_lmul (27 * v) (am_dec tX12_wordHere_0 19 rfl) rfl ⟨by omega, by omega⟩ ?_
        refine T_aload_n (am_dec tX12_wordHere_0 20 rfl) rfl ?_
        refine T_aload_n (am_dec tX12_wordHere_0 21 rfl) rfl ?_
        refine T_getfield 11 4 (am_dec tX12_wordHere_0 22 rfl) flX12_169_11 (md_obj hl) rfl ?_
        refine T_iload_n (am_dec tX12_wordHere_0 23 rfl) rfl ?_
        refine T_iadd ((c 0 4) + m) (am_dec tX12_wordHere_0 24 rfl) rfl ⟨by omega, by omega⟩ ?_
        refine T_callV (as := [aI ((c 0 4) + m)]) rfl (am_dec tX12_wordHere_0 25 rfl) lkX12_172 (md_obj hl) rfl rfl (Nat.le_of_ble_eq_true rfl) (by omega) (mk_byteAt (d := d - 1) hl ((c 0 4) + m)  (by omega) ) (fun _ => ?_)
        refine T_nm (fun n42 hn42 => ?_)
        have hs42 : (((c 0 4) + m) < c 0 2 ∧ n42 = c 1 ((c 0 4) + m).toNat) ∨ (c 0 2 ≤ ((c 0 4) + m) ∧ n42 = -1) := by rw [hn42]; exact k_byteAt_s _ _
        refine T_i2l (am_dec tX12_wordHere_0 26 rfl) ?_
        refine T_ladd ((27 * v) + n42) (am_dec tX12_wordHere_0 27 rfl) rfl ⟨by omega, by omega⟩ ?_
        refine T_ldc2 97 (am_dec tX12_wordHere_0 28 rfl) (am_m9 84 rfl rfl) ⟨by decide, by decide⟩ ?_
        refine T_lsub (((27 * v) + n42) - 97) (am_dec tX12_wordHere_0 29 rfl) rfl ⟨by omega, by omega⟩ ?_
        refine T_lconst 1 (am_dec tX12_wordHere_0 30 rfl) rfl ⟨by decide, by decide⟩ ?_
        refine T_ladd ((((27 * v) + n42) - 97) + 1) (am_dec tX12_wordHere_0 31 rfl) rfl ⟨by omega, by omega⟩ ?_
        refine T_goto 57 (am_dec tX12_wordHere_0 32 rfl) rfl ?_
        refine T_weak (ls' := [some (aR b), none, none, some (aI m)]) (am_sub_s (am_sub_n (am_sub_n (am_sub_s am_sub_nil)))) ?_
        exact K27 _ (by have s9 := hn42.symm; subst s9; exact (if_neg h27).symm) 
def k_wordHere (c : am_F) : Int × am_F := (let c1 : am_F := k_blanks c; (let v_8 : Int := (am_wh (w_k_wordHere_8 c1) 601 (0, 0)).1; (let m_8 : Int := (am_wh (w_k_wordHere_8 c1) 601 (0, 0)).2; (let t67 : Int := (if m_8 ≤ 7 then v_8 else (-1)); (t67, c1)))))
theorem mk_wordHere {S : am_S} {d u : Nat} {w : AH} {b : Nat} (hl : b + 735 ≤ w.length) {c : am_F} {q : am_F}  (hR : RdV c) (hd : 2 ≤ d) : am_Out S zX12_wordHere d u [aR b] (mdW w b c q) (.inl (some (aL ((k_wordHere c).1)))) (mdW w b ((k_wordHere c).2) q) := by
  have key : ∀ Q : AO → AH → Prop, Q (.inl (some (aL ((k_wordHere c).1)))) (mdW w b ((k_wordHere c).2) q) → am_M S zX12_wordHere d u [aR b] (mdW w b c q) Q := by
    intro Q hQ
    refine am_body rfl (by decide +kernel) rfl (am_cats_cons rfl (am_cats_nil)) (Nat.le_of_ble_eq_true rfl) (?_ : am_T _ _ _ _ _ 0 [some (aR b), none, none, none] [] (mdW w b c q))
    have hR9 := hR
    obtain ⟨r1, r2, r3⟩ := hR9
    refine T_aload_n (am_dec tX12_wordHere_0 0 rfl) rfl ?_
    refine T_callV (as := []) rfl (am_dec tX12_wordHere_0 1 rfl) lkX12_182 (md_obj hl) rfl rfl (Nat.le_of_ble_eq_true rfl) (by omega) (mk_blanks (d := d - 1) hl   hR (by omega)) (fun _ => ?_)
    refine T_nmH (W := fun x9 => mdW w b x9 q) (v := k_blanks c) (fun c1 hc1 => ?_)
    have hR1 : RdV c1 := by rw [hc1]; exact (k_blanks_x hR).1
    have hR9 := hR1
    obtain ⟨ra1, rb1, rc1⟩ := hR9
    have hx1 : Lx c c1 := Lx_t Lx_r (by rw [hc1]; exact (k_blanks_x hR).2)
    have hz1 : c1 0 2 = c 0 2 := hx1.2 2 (by decide) (by decide) (by decide)
    refine T_lconst 0 (am_dec tX12_wordHere_0 2 rfl) rfl ⟨by decide, by decide⟩ ?_
    refine T_lstore_n (ls' := [some (aR b), some (aL 0), none, none]) (am_dec tX12_wordHere_0 3 rfl) (by decide) rfl ?_
    refine T_iconst 0 (am_dec tX12_wordHere_0 4 rfl) rfl ⟨by decide, by decide⟩ ?_
    refine T_istore_n (ls' := [some (aR b), some (aL 0), none, some (aI 0)]) (am_dec tX12_wordHere_0 5 rfl) (by decide) rfl ?_
    refine L_k_wordHere_8 hl c1 q hR1  (by omega) 601 0 0 (by omega) (by omega) (fun v_8 m_8 hv_8 hm_8 hv8 => ?_)
    refine T_iload_n (am_dec tX12_wordHere_0 37 rfl) rfl ?_
    refine T_bipush 7 (am_dec tX12_wordHere_0 38 rfl) rfl ⟨by decide, by decide⟩ ?_
    have K67 : ∀ (t67 : Int), t67 = (if m_8 ≤ 7 then v_8 else (-1)) →  am_T S zX12_wordHere d u Q 77 [none, none, none, none] [aL t67] (mdW w b c1 q) := by
      intro t67 ht67 
      exact T_lreturn (am_dec tX12_wordHere_1 3 rfl) rfl (am_tr (fun (x9 : Int × am_F) => Q (.inl (some (aL (x9.1)))) (mdW w b x9.2 q)) (y := (t67, c1)) (show (k_wordHere c) = (t67, c1) from (by have s9 := hc1.symm; subst s9; have s9 := hv_8.symm; subst s9; have s9 := hm_8.symm; subst s9; have s9 := ht67.symm; subst s9; exact rfl)) hQ)
    refine T_icmp_le 76 (am_dec tX12_wordHere_0 39 rfl) rfl (fun h67 => ?_) (fun h67 => ?_)
    · refine T_lload_n (am_dec tX12_wordHere_1 2 rfl) rfl ?_
      refine T_weak (ls' := [none, none, none, none]) (am_sub_n (am_sub_n (am_sub_n (am_sub_n am_sub_nil)))) ?_
      exact K67 _ (if_pos h67).symm 
    · refine T_ldc2 (-1) (am_dec tX12_wordHere_1 0 rfl) (am_m9 85 rfl rfl) ⟨by decide, by decide⟩ ?_
      refine T_goto 77 (am_dec tX12_wordHere_1 1 rfl) rfl ?_
      refine T_weak (ls' := [none, none, none, none]) (am_sub_n (am_sub_n (am_sub_n (am_sub_n am_sub_nil)))) ?_
      exact K67 _ (if_neg h67).symm 
  exact key _ ⟨rfl, rfl⟩
def k_seven (la : Int) (lb : Int) (lc : Int) (ld : Int) (le : Int) (lf : Int) (lg : Int) : Int := (let t12 : Int := (if lc = 0 then ((27 * la) + lb) else ((27 * ((27 * la) + lb)) + lc)); (let t32 : Int := (if ld = 0 then t12 else ((27 * t12) + ld)); (let t53 : Int := (if le = 0 then t32 else ((27 * t32) + le)); (let t75 : Int := (if lf = 0 then t53 else ((27 * t53) + lf)); (if lg = 0 then t75 else ((27 * t75) + lg))))))
theorem mk_seven {S : am_S} {d u : Nat} {w : AH}  (la : Int) (lb : Int) (lc : Int) (ld : Int) (le : Int) (lf : Int) (lg : Int) (hla : 0 ≤ la ∧ la ≤ 26) (hlb : 0 ≤ lb ∧ lb ≤ 26) (hlc : 0 ≤ lc ∧ lc ≤ 26) (hld : 0 ≤ ld ∧ ld ≤ 26) (hle : 0 ≤ le ∧ le ≤ 26) (hlf : 0 ≤ lf ∧ lf ≤ 26) (hlg : 0 ≤ lg ∧ lg ≤ 26)  : am_Out S zX12_seven d u [aI la, aI lb, aI lc, aI ld, aI le, aI lf, aI lg] (w) (.inl (some (aL (k_seven la lb lc ld le lf lg)))) (w) := by
  have key : ∀ Q : AO → AH → Prop, Q (.inl (some (aL (k_seven la lb lc ld le lf lg)))) (w) → am_M S zX12_seven d u [aI la, aI lb, aI lc, aI ld, aI le, aI lf, aI lg] (w) Q := by
    intro Q hQ
    refine am_body rfl (by decide +kernel) rfl (am_cats_cons rfl ( am_cats_cons rfl ( am_cats_cons rfl ( am_cats_cons rfl ( am_cats_cons rfl ( am_cats_cons rfl ( am_cats_cons rfl (am_cats_nil)))))))) (Nat.le_of_ble_eq_true rfl) (?_ : am_T _ _ _ _ _ 0 [some (aI la), some (aI lb), some (aI lc), some (aI ld), some (aI le), some (aI lf), some (aI lg), none, none] [] (w))
    refine T_ldc2 27 (am_dec tX12_seven_0 0 rfl) (am_m9 83 rfl rfl) ⟨by decide, by decide⟩ ?_
    refine T_iload_n (am_dec tX12_seven_0 1 rfl) rfl ?_
    refine T_i2l (am_dec tX12_seven_0 2 rfl) ?_
    refine T_lmul (27 * la) (am_dec tX12_seven_0 3 rfl) rfl ⟨by omega, by omega⟩ ?_
    refine T_iload_n (am_dec tX12_seven_0 4 rfl) rfl ?_
    refine T_i2l (am_dec tX12_seven_0 5 rfl) ?_
    refine T_ladd ((27 * la) + lb) (am_dec tX12_seven_0 6 rfl) rfl ⟨by omega, by omega⟩ ?_
    refine T_lstore (ls' := [some (aI la), some (aI lb), some (aI lc), some (aI ld), some (aI le), some (aI lf), some (aI lg), some (aL ((27 * la) + lb)), none]) (am_dec tX12_seven_0 7 rfl) (by decide) rfl ?_
    refine T_iload_n (am_dec tX12_seven_0 8 rfl) rfl ?_
    have K12 : ∀ (t12 : Int), t12 = (if lc = 0 then ((27 * la) + lb) else ((27 * ((27 * la) + lb)) + lc)) →  am_T S zX12_seven d u Q 29 [none, none, none, some (aI ld), some (aI le), some (aI lf), some (aI lg), none, none] [aL t12] (w) := by
      intro t12 ht12 
      refine T_lstore (ls' := [none, none, none, some (aI ld), some (aI le), some (aI lf), some (aI lg), some (aL t12), none]) (am_dec tX12_seven_0 18 rfl) (by decide) rfl ?_
      refine T_iload_n (am_dec tX12_seven_0 19 rfl) rfl ?_
      have K32 : ∀ (t32 : Int), t32 = (if ld = 0 then t12 else ((27 * t12) + ld)) →  am_T S zX12_seven d u Q 49 [none, none, none, none, some (aI le), some (aI lf), some (aI lg), none, none] [aL t32] (w) := by
        intro t32 ht32 
        refine T_lstore (ls' := [none, none, none, none, some (aI le), some (aI lf), some (aI lg), some (aL t32), none]) (am_dec tX12_seven_0 29 rfl) (by decide) rfl ?_
        refine T_iload (am_dec tX12_seven_0 30 rfl) rfl ?_
        have K53 : ∀ (t53 : Int), t53 = (if le = 0 then t32 else ((27 * t32) + le)) →  am_T S zX12_seven d u Q 71 [none, none, none, none, none, some (aI lf), some (aI lg), none, none] [aL t53] (w) := by
          intro t53 ht53 
          refine T_lstore (ls' := [none, none, none, none, none, some (aI lf), some (aI lg), some (aL t53), none]) (am_dec tX12_seven_1 0 rfl) (by decide) rfl ?_
          refine T_iload (am_dec tX12_seven_1 1 rfl) rfl ?_
          have K75 : ∀ (t75 : Int), t75 = (if lf = 0 then t53 else ((27 * t53) + lf)) →  am_T S zX12_seven d u Q 93 [none, none, none, none, none, none, some (aI lg), none, none] [aL t75] (w) := by
            intro t75 ht75 
            refine T_lstore (ls' := [none, none, none, none, none, none, some (aI lg), some (aL t75), none]) (am_dec tX12_seven_1 11 rfl) (by decide) rfl ?_
            refine T_iload (am_dec tX12_seven_1 12 rfl) rfl ?_
            have K97 : ∀ (t97 : Int), t97 = (if lg = 0 then t75 else ((27 * t75) + lg)) →  am_T S zX12_seven d u Q 115 [none, none, none, none, none, none, none, none, none] [aL t97] (w) := by
              intro t97 ht97 
              exact T_lreturn (am_dec tX12_seven_1 22 rfl) rfl (am_tr (fun (x9 : Int) => Q (.inl (some (aL (x9)))) (w)) (y := t97) (show (k_seven la lb lc ld le lf lg) = t97 from (by have s9 := ht12.symm; subst s9; have s9 := ht32.symm; subst s9; have s9 := ht53.symm; subst s9; have s9 := ht75.symm; subst s9; have s9 := ht97.symm; subst s9; exact rfl)) hQ)
            refine T_if_ne 105 (am_dec tX12_seven_1 13 rfl) rfl (fun h97 => ?_) (fun h97 => ?_)
            · refine T_ldc2 27 (am_dec tX12_seven_1 16 rfl) (am_m9 83 rfl rfl) ⟨by decide, by decide⟩ ?_
              refine T_lload (am_dec tX12_seven_1 17 rfl) rfl ?_
              refine T_lmul (27 * t75) (am_dec tX12_seven_1 18 rfl) rfl ⟨by omega, by omega⟩ ?_
              refine T_iload (am_dec tX12_seven_1 19 rfl) rfl ?_
              refine T_i2l (am_dec tX12_seven_1 20 rfl) ?_
              refine T_ladd ((27 * t75) + lg) (am_dec tX12_seven_1 21 rfl) rfl ⟨by omega, by omega⟩ ?_
              refine T_weak (ls' := [none, none, none, none, none, none, none, none, none]) (am_sub_n (am_sub_n (am_sub_n (am_sub_n (am_sub_n (am_sub_n (am_sub_n (am_sub_n (am_sub_n am_sub_nil))))))))) ?_
              exact K97 _ (if_neg h97).symm 
            · refine T_lload (am_dec tX12_seven_1 14 rfl) rfl ?_
              refine T_goto 115 (am_dec tX12_seven_1 15 rfl) rfl ?_
              refine T_weak (ls' := [none, none, none, none, none, none, none, none, none]) (am_sub_n (am_sub_n (am_sub_n (am_sub_n (am_sub_n (am_sub_n (am_sub_n (am_sub_n (am_sub_n am_sub_nil))))))))) ?_
              exact K97 _ (if_pos h97).symm 
          refine T_if_ne 83 (am_dec tX12_seven_1 2 rfl) rfl (fun h75 => ?_) (fun h75 => ?_)
          · refine T_ldc2 27 (am_dec tX12_seven_1 5 rfl) (am_m9 83 rfl rfl) ⟨by decide, by decide⟩ ?_
            refine T_lload (am_dec tX12_seven_1 6 rfl) rfl ?_
            refine T_lmul (27 * t53) (am_dec tX12_seven_1 7 rfl) rfl ⟨by omega, by omega⟩ ?_
            refine T_iload (am_dec tX12_seven_1 8 rfl) rfl ?_
            refine T_i2l (am_dec tX12_seven_1 9 rfl) ?_
            refine T_ladd ((27 * t53) + lf) (am_dec tX12_seven_1 10 rfl) rfl ⟨by omega, by omega⟩ ?_
            refine T_weak (ls' := [none, none, none, none, none, none, some (aI lg), none, none]) (am_sub_n (am_sub_n (am_sub_n (am_sub_n (am_sub_n (am_sub_n (am_sub_s (am_sub_n (am_sub_n am_sub_nil))))))))) ?_
            exact K75 _ (if_neg h75).symm 
          · refine T_lload (am_dec tX12_seven_1 3 rfl) rfl ?_
            refine T_goto 93 (am_dec tX12_seven_1 4 rfl) rfl ?_
            refine T_weak (ls' := [none, none, none, none, none, none, some (aI lg), none, none]) (am_sub_n (am_sub_n (am_sub_n (am_sub_n (am_sub_n (am_sub_n (am_sub_s (am_sub_n (am_sub_n am_sub_nil))))))))) ?_
            exact K75 _ (if_pos h75).symm 
        refine T_if_ne 61 (am_dec tX12_seven_0 31 rfl) rfl (fun h53 => ?_) (fun h53 => ?_)
        · refine T_ldc2 27 (am_dec tX12_seven_0 34 rfl) (am_m9 83 rfl rfl) ⟨by decide, by decide⟩ ?_
          refine T_lload (am_dec tX12_seven_0 35 rfl) rfl ?_
          refine T_lmul (27 * t32) (am_dec tX12_seven_0 36 rfl) rfl ⟨by omega, by omega⟩ ?_
          refine T_iload (am_dec tX12_seven_0 37 rfl) rfl ?_
          refine T_i2l (am_dec tX12_seven_0 38 rfl) ?_
          refine T_ladd ((27 * t32) + le) (am_dec tX12_seven_0 39 rfl) rfl ⟨by omega, by omega⟩ ?_
          refine T_weak (ls' := [none, none, none, none, none, some (aI lf), some (aI lg), none, none]) (am_sub_n (am_sub_n (am_sub_n (am_sub_n (am_sub_n (am_sub_s (am_sub_s (am_sub_n (am_sub_n am_sub_nil))))))))) ?_
          exact K53 _ (if_neg h53).symm 
        · refine T_lload (am_dec tX12_seven_0 32 rfl) rfl ?_
          refine T_goto 71 (am_dec tX12_seven_0 33 rfl) rfl ?_
          refine T_weak (ls' := [none, none, none, none, none, some (aI lf), some (aI lg), none, none]) (am_sub_n (am_sub_n (am_sub_n (am_sub_n (am_sub_n (am_sub_s (am_sub_s (am_sub_n (am_sub_n am_sub_nil))))))))) ?_
          exact K53 _ (if_pos h53).symm 
      refine T_if_ne 40 (am_dec tX12_seven_0 20 rfl) rfl (fun h32 => ?_) (fun h32 => ?_)
      · refine T_ldc2 27 (am_dec tX12_seven_0 23 rfl) (am_m9 83 rfl rfl) ⟨by decide, by decide⟩ ?_
        refine T_lload (am_dec tX12_seven_0 24 rfl) rfl ?_
        refine T_lmul (27 * t12) (am_dec tX12_seven_0 25 rfl) rfl ⟨by omega, by omega⟩ ?_
        refine T_iload_n (am_dec tX12_seven_0 26 rfl) rfl ?_
        refine T_i2l (am_dec tX12_seven_0 27 rfl) ?_
        refine T_ladd ((27 * t12) + ld) (am_dec tX12_seven_0 28 rfl) rfl ⟨by omega, by omega⟩ ?_
        refine T_weak (ls' := [none, none, none, none, some (aI le), some (aI lf), some (aI lg), none, none]) (am_sub_n (am_sub_n (am_sub_n (am_sub_n (am_sub_s (am_sub_s (am_sub_s (am_sub_n (am_sub_n am_sub_nil))))))))) ?_
        exact K32 _ (if_neg h32).symm 
      · refine T_lload (am_dec tX12_seven_0 21 rfl) rfl ?_
        refine T_goto 49 (am_dec tX12_seven_0 22 rfl) rfl ?_
        refine T_weak (ls' := [none, none, none, none, some (aI le), some (aI lf), some (aI lg), none, none]) (am_sub_n (am_sub_n (am_sub_n (am_sub_n (am_sub_s (am_sub_s (am_sub_s (am_sub_n (am_sub_n am_sub_nil))))))))) ?_
        exact K32 _ (if_pos h32).symm 
    refine T_if_ne 20 (am_dec tX12_seven_0 9 rfl) rfl (fun h12 => ?_) (fun h12 => ?_)
    · refine T_ldc2 27 (am_dec tX12_seven_0 12 rfl) (am_m9 83 rfl rfl) ⟨by decide, by decide⟩ ?_
      refine T_lload (am_dec tX12_seven_0 13 rfl) rfl ?_
      refine T_lmul (27 * ((27 * la) + lb)) (am_dec tX12_seven_0 14 rfl) rfl ⟨by omega, by omega⟩ ?_
      refine T_iload_n (am_dec tX12_seven_0 15 rfl) rfl ?_
      refine T_i2l (am_dec tX12_seven_0 16 rfl) ?_
      refine T_ladd ((27 * ((27 * la) + lb)) + lc) (am_dec tX12_seven_0 17 rfl) rfl ⟨by omega, by omega⟩ ?_
      refine T_weak (ls' := [none, none, none, some (aI ld), some (aI le), some (aI lf), some (aI lg), none, none]) (am_sub_n (am_sub_n (am_sub_n (am_sub_s (am_sub_s (am_sub_s (am_sub_s (am_sub_n (am_sub_n am_sub_nil))))))))) ?_
      exact K12 _ (if_neg h12).symm 
    · refine T_lload (am_dec tX12_seven_0 10 rfl) rfl ?_
      refine T_goto 29 (am_dec tX12_seven_0 11 rfl) rfl ?_
      refine T_weak (ls' := [none, none, none, some (aI ld), some (aI le), some (aI lf), some (aI lg), none, none]) (am_sub_n (am_sub_n (am_sub_n (am_sub_s (am_sub_s (am_sub_s (am_sub_s (am_sub_n (am_sub_n am_sub_nil))))))))) ?_
      exact K12 _ (if_pos h12).symm 
  exact key _ ⟨rfl, rfl⟩
