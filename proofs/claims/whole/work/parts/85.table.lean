/-! a table as a region -/
def tbC (b : Nat) (q : am_F) : Nat → AC
  | 0 => cO 9 [aI (q 0 0), aR (b + 1), aI (q 0 2)]
  | _ => cP 0 48 (q 1)
def tbW (w : AH) (b : Nat) (q : am_F) : AH := am_ov w b 2 (tbC b q)
theorem tbW_c {w : AH} {b : Nat} {q : am_F} (hl : b + 2 ≤ w.length) (k : Nat) (hk : k < 2) : (tbW w b q)[b + k]? = some (tbC b q k) := am_ovi hl k hk
theorem tbW_o {w : AH} {b : Nat} {q : am_F} {j : Nat} (hj : j < b ∨ b + 2 ≤ j) : (tbW w b q)[j]? = w[j]? := am_ovo j hj
theorem tbW_self {w : AH} {b : Nat} {q : am_F} (h : ∀ k, k < 2 → w[b + k]? = some (tbC b q k)) : tbW w b q = w := am_ovself h
theorem tbW_W {w : AH} {b : Nat} {q q2 : am_F} : tbW (tbW w b q) b q2 = tbW w b q2 := am_ovov
theorem tbW_f0 {w : AH} {b : Nat} {q : am_F} {v : Int} : (tbW w b q).set b (cO 9 [aI v, aR (b + 1), aI (q 0 2)]) = tbW w b (am_put q 0 0 v) := am_ovset (b := b) 0 (by decide) (fun j hj => match j, hj with | 0, _ => rfl | 1, _ => rfl | n + 2, h => absurd h (by omega))
theorem tbW_p1 {w : AH} {b : Nat} {q : am_F} {i : Nat} {v : Int} : (tbW w b q).set (b + 1) (cP 0 48 (am_up (q 1) i v)) = tbW w b (am_put q 1 i v) := am_ovset 1 (by decide) (fun j hj => match j, hj with | 0, _ => rfl | 1, _ => rfl | n + 2, h => absurd h (by omega))
theorem tbW_r1 {w : AH} {b : Nat} {q : am_F} {f : Nat → Int} : (tbW w b q).set (b + 1) (cP 0 48 f) = tbW w b (am_row q 1 f) := am_ovset 1 (by decide) (fun j hj => match j, hj with | 0, _ => rfl | 1, _ => rfl | n + 2, h => absurd h (by omega))
theorem tbW_f2 {w : AH} {b : Nat} {q : am_F} {v : Int} : (tbW w b q).set b (cO 9 [aI (q 0 0), aR (b + 1), aI v]) = tbW w b (am_put q 0 2 v) := am_ovset (b := b) 0 (by decide) (fun j hj => match j, hj with | 0, _ => rfl | 1, _ => rfl | n + 2, h => absurd h (by omega))
def c_add (h : am_F) (v0 : Int) (v1 : Int) (v2 : Int) (v3 : Int) : am_F := (let e1 : Int := (if h 0 0 ≤ h 0 2 then 1 else 0); (if e1 = 0 then (let h53 : am_F := (am_put (am_put (am_put (am_put h 1 (((h 0 2) * 4).toNat) v0) 1 ((((h 0 2) * 4) + 1).toNat) v1) 1 ((((h 0 2) * 4) + 2).toNat) v2) 1 ((((h 0 2) * 4) + 3).toNat) v3); (am_put h53 0 2 ((h53 0 2) + 1))) else h))
theorem mc_add {S : am_S} {d u : Nat} {w : AH} {t : Nat} (hl : t + 2 ≤ w.length) {h : am_F} (v0 : Int) (v1 : Int) (v2 : Int) (v3 : Int) (ht : h 0 0 ≤ 12 ∧ 0 ≤ h 0 2 ∧ h 0 2 ≤ 12) (hd : 1 ≤ d) : am_Out S zX10_add d u [aR t, aI v0, aI v1, aI v2, aI v3] (tbW w t h) (.inl none) (tbW w t (c_add h v0 v1 v2 v3)) := by
  have key : ∀ Q : AO → AH → Prop, Q (.inl none) (tbW w t (c_add h v0 v1 v2 v3)) → am_M S zX10_add d u [aR t, aI v0, aI v1, aI v2, aI v3] (tbW w t h) Q := by
    intro Q hQ
    refine am_body rfl (by decide +kernel) rfl (am_cats_cons rfl ( am_cats_cons rfl ( am_cats_cons rfl ( am_cats_cons rfl ( am_cats_cons rfl (am_cats_nil)))))) (Nat.le_of_ble_eq_true rfl) (?_ : am_T _ _ _ _ _ 0 [some (aR t), some (aI v0), some (aI v1), some (aI v2), some (aI v3), none] [] (tbW w t h))
    refine T_aload_n (am_dec tX10_add_0 0 rfl) rfl ?_
    refine T_callV (as := []) rfl (am_dec tX10_add_0 1 rfl) lkX10_28 (show (tbW w t h)[t]? = some (cO 9 [aI (h 0 0), aR (t + 1), aI (h 0 2)]) from tbW_c hl 0 (by decide)) rfl rfl (Nat.le_of_ble_eq_true rfl) (by omega) (m_full (show (tbW w t h)[t]? = some (cO 9 [aI (h 0 0), aR (t + 1), aI (h 0 2)]) from tbW_c hl 0 (by decide)) (show (tbW w t h)[t + 1]? = some (cP 0 48 (h 1)) from tbW_c hl 1 (by decide)) (by omega)) (fun _ => ?_)
    refine T_nm (fun e1 he1 => ?_)
    have hw1 : h 0 2 < h 0 0 ∨ e1 = 1 := by rw [he1]; split <;> omega
    have K4 : ∀ (h4 : am_F), h4 = (if e1 = 0 then (let h53 : am_F := (am_put (am_put (am_put (am_put h 1 (((h 0 2) * 4).toNat) v0) 1 ((((h 0 2) * 4) + 1).toNat) v1) 1 ((((h 0 2) * 4) + 2).toNat) v2) 1 ((((h 0 2) * 4) + 3).toNat) v3); (am_put h53 0 2 ((h53 0 2) + 1))) else h) →  am_T S zX10_add d u Q 64 [none, none, none, none, none, none] [] (tbW w t h4) := by
      intro h4 hh4 
      exact T_return (am_dec tX10_add_1 0 rfl) rfl (am_tr (fun (x9 : am_F) => Q (.inl none) (tbW w t x9)) (y := h4) (show (c_add h v0 v1 v2 v3) = h4 from (by have s9 := he1.symm; subst s9; have s9 := hh4.symm; subst s9; exact rfl)) hQ)
    refine T_if_ne 64 (am_dec tX10_add_0 2 rfl) rfl (fun h4 => ?_) (fun h4 => ?_)
    · refine T_weak (ls' := [none, none, none, none, none, none]) (am_sub_n (am_sub_n (am_sub_n (am_sub_n (am_sub_n (am_sub_n am_sub_nil)))))) ?_
      exact K4 _ (if_neg h4).symm 
    · refine T_aload_n (am_dec tX10_add_0 3 rfl) rfl ?_
      refine T_getfield 9 2 (am_dec tX10_add_0 4 rfl) flX10_25_9 (show (tbW w t h)[t]? = some (cO 9 [aI (h 0 0), aR (t + 1), aI (h 0 2)]) from tbW_c hl 0 (by decide)) rfl ?_
      refine T_iconst 4 (am_dec tX10_add_0 5 rfl) rfl ⟨by decide, by decide⟩ ?_
      refine T_imul ((h 0 2) * 4) (am_dec tX10_add_0 6 rfl) rfl ⟨by omega, by omega⟩ ?_
      refine T_istore (ls' := [some (aR t), some (aI v0), some (aI v1), some (aI v2), some (aI v3), some (aI ((h 0 2) * 4))]) (am_dec tX10_add_0 7 rfl) (by decide) rfl ?_
      refine T_aload_n (am_dec tX10_add_0 8 rfl) rfl ?_
      refine T_getfield 9 1 (am_dec tX10_add_0 9 rfl) flX10_11_9 (show (tbW w t h)[t]? = some (cO 9 [aI (h 0 0), aR (t + 1), aI (h 0 2)]) from tbW_c hl 0 (by decide)) rfl ?_
      refine T_iload (am_dec tX10_add_0 10 rfl) rfl ?_
      refine T_iload_n (am_dec tX10_add_0 11 rfl) rfl ?_
      refine T_iastore (am_dec tX10_add_0 12 rfl) (show (tbW w t h)[t + 1]? = some (cP 0 48 (h 1)) from tbW_c hl 1 (by decide)) (by omega) (by omega) ?_
      refine am_wE (w2 := tbW w t (am_put h 1 (((h 0 2) * 4).toNat) v0)) tbW_p1 ?_
      refine T_aload_n (am_dec tX10_add_0 13 rfl) rfl ?_
      refine T_getfield 9 1 (am_dec tX10_add_0 14 rfl) flX10_11_9 (show (tbW w t (am_put h 1 (((h 0 2) * 4).toNat) v0))[t]? = some (cO 9 [aI (h 0 0), aR (t + 1), aI (h 0 2)]) from tbW_c hl 0 (by decide)) rfl ?_
      refine T_iload (am_dec tX10_add_0 15 rfl) rfl ?_
      refine T_iconst 1 (am_dec tX10_add_0 16 rfl) rfl ⟨by decide, by decide⟩ ?_
      refine T_iadd (((h 0 2) * 4) + 1) (am_dec tX10_add_0 17 rfl) rfl ⟨by omega, by omega⟩ ?_
      refine T_iload_n (am_dec tX10_add_0 18 rfl) rfl ?_
      refine T_iastore (am_dec tX10_add_0 19 rfl) (show (tbW w t (am_put h 1 (((h 0 2) * 4).toNat) v0))[t + 1]? = some (cP 0 48 (am_up (h 1) (((h 0 2) * 4).toNat) v0)) from tbW_c hl 1 (by decide)) (by omega) (by omega) ?_
      refine am_wE (w2 := tbW w t (am_put (am_put h 1 (((h 0 2) * 4).toNat) v0) 1 ((((h 0 2) * 4) + 1).toNat) v1)) tbW_p1 ?_
      refine T_aload_n (am_dec tX10_add_0 20 rfl) rfl ?_
      refine T_getfield 9 1 (am_dec tX10_add_0 21 rfl) flX10_11_9 (show (tbW w t (am_put (am_put h 1 (((h 0 2) * 4).toNat) v0) 1 ((((h 0 2) * 4) + 1).toNat) v1))[t]? = some (cO 9 [aI (h 0 0), aR (t + 1), aI (h 0 2)]) from tbW_c hl 0 (by decide)) rfl ?_
      refine T_iload (am_dec tX10_add_0 22 rfl) rfl ?_
      refine T_iconst 2 (am_dec tX10_add_0 23 rfl) rfl ⟨by decide, by decide⟩ ?_
      refine T_iadd (((h 0 2) * 4) + 2) (am_dec tX10_add_0 24 rfl) rfl ⟨by omega, by omega⟩ ?_
      refine T_iload_n (am_dec tX10_add_0 25 rfl) rfl ?_
      refine T_iastore (am_dec tX10_add_0 26 rfl) (show (tbW w t (am_put (am_put h 1 (((h 0 2) * 4).toNat) v0) 1 ((((h 0 2) * 4) + 1).toNat) v1))[t + 1]? = some (cP 0 48 (am_up (am_up (h 1) (((h 0 2) * 4).toNat) v0) ((((h 0 2) * 4) + 1).toNat) v1)) from tbW_c hl 1 (by decide)) (by omega) (by omega) ?_
      refine am_wE (w2 := tbW w t (am_put (am_put (am_put h 1 (((h 0 2) * 4).toNat) v0) 1 ((((h 0 2) * 4) + 1).toNat) v1) 1 ((((h 0 2) * 4) + 2).toNat) v2)) tbW_p1 ?_
      refine T_aload_n (am_dec tX10_add_0 27 rfl) rfl ?_
      refine T_getfield 9 1 (am_dec tX10_add_0 28 rfl) flX10_11_9 (show (tbW w t (am_put (am_put (am_put h 1 (((h 0 2) * 4).toNat) v0) 1 ((((h 0 2) * 4) + 1).toNat) v1) 1 ((((h 0 2) * 4) + 2).toNat) v2))[t]? = some (cO 9 [aI (h 0 0), aR (t + 1), aI (h 0 2)]) from tbW_c hl 0 (by decide)) rfl ?_
      refine T_iload (am_dec tX10_add_0 29 rfl) rfl ?_
      refine T_iconst 3 (am_dec tX10_add_0 30 rfl) rfl ⟨by decide, by decide⟩ ?_
      refine T_iadd (((h 0 2) * 4) + 3) (am_dec tX10_add_0 31 rfl) rfl ⟨by omega, by omega⟩ ?_
      refine T_iload (am_dec tX10_add_0 32 rfl) rfl ?_
      refine T_iastore (am_dec tX10_add_0 33 rfl) (show (tbW w t (am_put (am_put (am_put h 1 (((h 0 2) * 4).toNat) v0) 1 ((((h 0 2) * 4) + 1).toNat) v1) 1 ((((h 0 2) * 4) + 2).toNat) v2))[t + 1]? = some (cP 0 48 (am_up (am_up (am_up (h 1) (((h 0 2) * 4).toNat) v0) ((((h 0 2) * 4) + 1).toNat) v1) ((((h 0 2) * 4) + 2).toNat) v2)) from tbW_c hl 1 (by decide)) (by omega) (by omega) ?_
      refine am_wE (w2 := tbW w t (am_put (am_put (am_put (am_put h 1 (((h 0 2) * 4).toNat) v0) 1 ((((h 0 2) * 4) + 1).toNat) v1) 1 ((((h 0 2) * 4) + 2).toNat) v2) 1 ((((h 0 2) * 4) + 3).toNat) v3)) tbW_p1 ?_
      refine T_nmH (W := fun x9 => tbW w t x9) (v := (am_put (am_put (am_put (am_put h 1 (((h 0 2) * 4).toNat) v0) 1 ((((h 0 2) * 4) + 1).toNat) v1) 1 ((((h 0 2) * 4) + 2).toNat) v2) 1 ((((h 0 2) * 4) + 3).toNat) v3)) (fun h53 hh53 => ?_)
      have hk53 : h53 0 2 = h 0 2 := by rw [hh53]; rfl
      refine T_aload_n (am_dec tX10_add_0 34 rfl) rfl ?_
      refine T_dup (am_dec tX10_add_0 35 rfl) rfl ?_
      refine T_getfield 9 2 (am_dec tX10_add_0 36 rfl) flX10_25_9 (show (tbW w t h53)[t]? = some (cO 9 [aI (h53 0 0), aR (t + 1), aI (h53 0 2)]) from tbW_c hl 0 (by decide)) rfl ?_
      refine T_iconst 1 (am_dec tX10_add_0 37 rfl) rfl ⟨by decide, by decide⟩ ?_
      refine T_iadd ((h53 0 2) + 1) (am_dec tX10_add_0 38 rfl) rfl ⟨by omega, by omega⟩ ?_
      refine T_putfield (fs' := [aI (h53 0 0), aR (t + 1), aI ((h53 0 2) + 1)]) 9 2 (am_dec tX10_add_0 39 rfl) flX10_25_9 rfl rfl rfl trivial (show (tbW w t h53)[t]? = some (cO 9 [aI (h53 0 0), aR (t + 1), aI (h53 0 2)]) from tbW_c hl 0 (by decide)) (Nat.le_of_ble_eq_true rfl) rfl ?_
      refine am_wE (w2 := tbW w t (am_put h53 0 2 ((h53 0 2) + 1))) tbW_f2 ?_
      refine T_weak (ls' := [none, none, none, none, none, none]) (am_sub_n (am_sub_n (am_sub_n (am_sub_n (am_sub_n (am_sub_n am_sub_nil)))))) ?_
      exact K4 _ (by have s9 := hh53.symm; subst s9; exact (if_pos h4).symm) 
  exact key _ ⟨rfl, rfl⟩
