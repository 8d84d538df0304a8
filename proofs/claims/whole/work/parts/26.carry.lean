/-! the WIND carries -/
def LotB (h : am_F) : Prop := ∀ c : Int, -1 ≤ f_lotOn h c ∧ f_lotOn h c < 6
def FgC (r : am_F) (m : Int) : Prop := ∀ j, -m ≤ r 1 j ∧ r 1 j ≤ m
def f_carry1 (r : am_F) (s cell yards : Int) : am_F := am_put (am_put r 6 (s + 1).toNat (am_w32 (r 6 (s + 1).toNat + yards))) 1 ((s + 1) * 90 + cell).toNat (r 1 ((s + 1) * 90 + cell).toNat - yards)
def f_carry2 (r : am_F) (s cell yards t : Int) : am_F := am_put (f_carry1 r s cell yards) 1 ((s + 1) * 90 + t).toNat (f_carry1 r s cell yards 1 ((s + 1) * 90 + t).toNat + yards)
def f_carry (h r : am_F) (s cell way yards : Int) : am_F := if f_has h (cell % 10 + way / 3 - 1) (cell / 10 + way % 3 - 1) = 0 then am_put (f_carry1 r s cell yards) 3 (s + 1).toNat (am_w32 (r 3 (s + 1).toNat + yards))
  else if f_lotOn h cell ≠ f_lotOn h ((cell % 10 + way / 3 - 1) + 10 * (cell / 10 + way % 3 - 1)) ∧ f_lotOn h cell ≠ -1 ∧ f_lotOn h ((cell % 10 + way / 3 - 1) + 10 * (cell / 10 + way % 3 - 1)) ≠ -1 then am_put (f_carry2 r s cell yards ((cell % 10 + way / 3 - 1) + 10 * (cell / 10 + way % 3 - 1))) 9 (f_lotOn h cell * 6 + f_lotOn h ((cell % 10 + way / 3 - 1) + 10 * (cell / 10 + way % 3 - 1))).toNat (am_w32 (r 9 (f_lotOn h cell * 6 + f_lotOn h ((cell % 10 + way / 3 - 1) + 10 * (cell / 10 + way % 3 - 1))).toNat + yards))
  else f_carry2 r s cell yards ((cell % 10 + way / 3 - 1) + 10 * (cell / 10 + way % 3 - 1))
theorem m_carry {S : am_S} {d u : Nat} {w : AH} {b hb : Nat} {r h : am_F} (hl : b + 10 ≤ w.length) (hx : hb + 20 ≤ b ∨ b + 10 ≤ hb) (hH : Hb w hb h) (hV : HbV h) (hLt : LotB h) (s cell way yards : Int) (hs : 0 ≤ s ∧ s < 40) (hc : 0 ≤ cell ∧ cell ≤ 88) (hw9 : 0 ≤ way ∧ way ≤ 8) (hy : 0 ≤ yards ∧ yards ≤ 10000) (hB : FgC r 20000) (hd : 1 ≤ d) : am_Out S zX9_carry d u [aR b, aI s, aI cell, aI way, aI yards] (rnW w b hb r) (.inl none) (rnW w b hb (f_carry h r s cell way yards)) := by
  refine am_body rfl (by decide +kernel) rfl (am_cats_cons rfl ( am_cats_cons rfl ( am_cats_cons rfl ( am_cats_cons rfl ( am_cats_cons rfl (am_cats_nil)))))) (Nat.le_of_ble_eq_true rfl) (?_ : am_T _ _ _ _ _ 0 [some (aR b), some (aI s), some (aI cell), some (aI way), some (aI yards), none, none, none, none, none, none] [] (rnW w b hb r))
  have hV9 := hV
  obtain ⟨v1, v2, v3, v4, v5, v6, v7, v8, v9, v10, v11, v12, v13, v14, v15, v16, v17, v18, v19, v20, v21, v22⟩ := hV9
  have b9 := hB ((s + 1) * 90 + cell).toNat
  refine T_iload_n (am_dec tX9_carry_0 0 rfl) rfl ?_
  refine T_iconst 1 (am_dec tX9_carry_0 1 rfl) rfl ⟨by decide, by decide⟩ ?_
  refine T_iadd (s + 1) (am_dec tX9_carry_0 2 rfl) rfl ⟨by omega, by omega⟩ ?_
  refine T_bipush 90 (am_dec tX9_carry_0 3 rfl) rfl ⟨by decide, by decide⟩ ?_
  refine T_imul ((s + 1) * 90) (am_dec tX9_carry_0 4 rfl) rfl ⟨by omega, by omega⟩ ?_
  refine T_istore (ls' := [some (aR b), some (aI s), some (aI cell), some (aI way), some (aI yards), some (aI ((s + 1) * 90)), none, none, none, none, none]) (am_dec tX9_carry_0 5 rfl) (by decide) rfl ?_
  refine T_iload_n (am_dec tX9_carry_0 6 rfl) rfl ?_
  refine T_bipush 10 (am_dec tX9_carry_0 7 rfl) rfl ⟨by decide, by decide⟩ ?_
  refine T_irem (cell % 10) (am_dec tX9_carry_0 8 rfl) (by omega) (am_tm (by omega)) ⟨by omega, by omega⟩ ?_
  refine T_iload_n (am_dec tX9_carry_0 9 rfl) rfl ?_
  refine T_iconst 3 (am_dec tX9_carry_0 10 rfl) rfl ⟨by decide, by decide⟩ ?_
  refine T_idiv (way / 3) (am_dec tX9_carry_0 11 rfl) (by omega) (am_td (by omega)) ⟨by omega, by omega⟩ ?_
  refine T_iadd ((cell % 10) + (way / 3)) (am_dec tX9_carry_0 12 rfl) rfl ⟨by omega, by omega⟩ ?_
  refine T_iconst 1 (am_dec tX9_carry_0 13 rfl) rfl ⟨by decide, by decide⟩ ?_
  refine T_isub (((cell % 10) + (way / 3)) - 1) (am_dec tX9_carry_0 14 rfl) rfl ⟨by omega, by omega⟩ ?_
  refine T_istore (ls' := [some (aR b), some (aI s), some (aI cell), some (aI way), some (aI yards), some (aI ((s + 1) * 90)), some (aI (((cell % 10) + (way / 3)) - 1)), none, none, none, none]) (am_dec tX9_carry_0 15 rfl) (by decide) rfl ?_
  refine T_iload_n (am_dec tX9_carry_0 16 rfl) rfl ?_
  refine T_bipush 10 (am_dec tX9_carry_0 17 rfl) rfl ⟨by decide, by decide⟩ ?_
  refine T_idiv (cell / 10) (am_dec tX9_carry_0 18 rfl) (by omega) (am_td (by omega)) ⟨by omega, by omega⟩ ?_
  refine T_iload_n (am_dec tX9_carry_0 19 rfl) rfl ?_
  refine T_iconst 3 (am_dec tX9_carry_0 20 rfl) rfl ⟨by decide, by decide⟩ ?_
  refine T_irem (way % 3) (am_dec tX9_carry_0 21 rfl) (by omega) (am_tm (by omega)) ⟨by omega, by omega⟩ ?_
  refine T_iadd ((cell / 10) + (way % 3)) (am_dec tX9_carry_0 22 rfl) rfl ⟨by omega, by omega⟩ ?_
  refine T_iconst 1 (am_dec tX9_carry_0 23 rfl) rfl ⟨by decide, by decide⟩ ?_
  refine T_isub (((cell / 10) + (way % 3)) - 1) (am_dec tX9_carry_0 24 rfl) rfl ⟨by omega, by omega⟩ ?_
  refine T_istore (ls' := [some (aR b), some (aI s), some (aI cell), some (aI way), some (aI yards), some (aI ((s + 1) * 90)), some (aI (((cell % 10) + (way / 3)) - 1)), some (aI (((cell / 10) + (way % 3)) - 1)), none, none, none]) (am_dec tX9_carry_0 25 rfl) (by decide) rfl ?_
  refine T_aload_n (am_dec tX9_carry_0 26 rfl) rfl ?_
  refine T_getfield 8 11 (am_dec tX9_carry_0 27 rfl) flX9_27_8 (show (rnW w b hb r)[b]? = some (cO 8 [aR hb, aI (r 0 1), aI (r 0 2), aI (r 0 3), aI (r 0 4), aI (r 0 5), aR (b + 1), aR (b + 2), aR (b + 3), aR (b + 4), aR (b + 5), aR (b + 6), aR (b + 7), aR (b + 8), aR (b + 9)]) from rnW_Rn hl 0 (by decide)) rfl ?_
  refine T_iload_n (am_dec tX9_carry_0 28 rfl) rfl ?_
  refine T_iconst 1 (am_dec tX9_carry_0 29 rfl) rfl ⟨by decide, by decide⟩ ?_
  refine T_iadd (s + 1) (am_dec tX9_carry_0 30 rfl) rfl ⟨by omega, by omega⟩ ?_
  refine T_dup2 (am_dec tX9_carry_0 31 rfl) rfl rfl ?_
  refine T_iaload (am_dec tX9_carry_0 32 rfl) (show (rnW w b hb r)[b + 6]? = some (cP 0 41 (r 6)) from rnW_Rn hl 6 (by decide)) (by omega) (by omega) ?_
  refine T_iload (am_dec tX9_carry_0 33 rfl) rfl ?_
  refine T_iaddW (am_w32 (r 6 (s + 1).toNat + yards)) (am_dec tX9_carry_0 34 rfl) (am_w32e _).symm (am_w32r _) ?_
  refine T_iastore (am_dec tX9_carry_0 35 rfl) (show (rnW w b hb r)[b + 6]? = some (cP 0 41 (r 6)) from rnW_Rn hl 6 (by decide)) (by omega) (by omega) ?_
  refine am_wE (w2 := rnW w b hb (am_put r 6 ((s + 1).toNat) (am_w32 (r 6 (s + 1).toNat + yards)))) rnW_p6 ?_
  refine T_aload_n (am_dec tX9_carry_0 36 rfl) rfl ?_
  refine T_getfield 8 6 (am_dec tX9_carry_0 37 rfl) flX9_11_8 (show (rnW w b hb (am_put r 6 ((s + 1).toNat) (am_w32 (r 6 (s + 1).toNat + yards))))[b]? = some (cO 8 [aR hb, aI (r 0 1), aI (r 0 2), aI (r 0 3), aI (r 0 4), aI (r 0 5), aR (b + 1), aR (b + 2), aR (b + 3), aR (b + 4), aR (b + 5), aR (b + 6), aR (b + 7), aR (b + 8), aR (b + 9)]) from rnW_Rn hl 0 (by decide)) rfl ?_
  refine T_iload (am_dec tX9_carry_0 38 rfl) rfl ?_
  refine T_iload_n (am_dec tX9_carry_0 39 rfl) rfl ?_
  refine T_iadd (((s + 1) * 90) + cell) (am_dec tX9_carry_1 0 rfl) rfl ⟨by omega, by omega⟩ ?_
  refine T_dup2 (am_dec tX9_carry_1 1 rfl) rfl rfl ?_
  refine T_iaload (am_dec tX9_carry_1 2 rfl) (show (rnW w b hb (am_put r 6 ((s + 1).toNat) (am_w32 (r 6 (s + 1).toNat + yards))))[b + 1]? = some (cP 0 3690 (r 1)) from rnW_Rn hl 1 (by decide)) (by omega) (by omega) ?_
  refine T_iload (am_dec tX9_carry_1 3 rfl) rfl ?_
  refine T_isub (((r 1) (((s + 1) * 90) + cell).toNat) - yards) (am_dec tX9_carry_1 4 rfl) rfl ⟨by omega, by omega⟩ ?_
  refine T_iastore (am_dec tX9_carry_1 5 rfl) (show (rnW w b hb (am_put r 6 ((s + 1).toNat) (am_w32 (r 6 (s + 1).toNat + yards))))[b + 1]? = some (cP 0 3690 (r 1)) from rnW_Rn hl 1 (by decide)) (by omega) (by omega) ?_
  refine am_wE (w2 := rnW w b hb (am_put (am_put r 6 ((s + 1).toNat) (am_w32 (r 6 (s + 1).toNat + yards))) 1 ((((s + 1) * 90) + cell).toNat) (((r 1) (((s + 1) * 90) + cell).toNat) - yards))) rnW_p1 ?_
  refine T_aload_n (am_dec tX9_carry_1 6 rfl) rfl ?_
  refine T_getfield 8 0 (am_dec tX9_carry_1 7 rfl) flX9_43_8 (show (rnW w b hb (am_put (am_put r 6 ((s + 1).toNat) (am_w32 (r 6 (s + 1).toNat + yards))) 1 ((((s + 1) * 90) + cell).toNat) (((r 1) (((s + 1) * 90) + cell).toNat) - yards)))[b]? = some (cO 8 [aR hb, aI (r 0 1), aI (r 0 2), aI (r 0 3), aI (r 0 4), aI (r 0 5), aR (b + 1), aR (b + 2), aR (b + 3), aR (b + 4), aR (b + 5), aR (b + 6), aR (b + 7), aR (b + 8), aR (b + 9)]) from rnW_Rn hl 0 (by decide)) rfl ?_
  refine T_iload (am_dec tX9_carry_1 8 rfl) rfl ?_
  refine T_iload (am_dec tX9_carry_1 9 rfl) rfl ?_
  refine T_callV (as := [aI (((cell % 10) + (way / 3)) - 1), aI (((cell / 10) + (way % 3)) - 1)]) rfl (am_dec tX9_carry_1 10 rfl) lkX9_140 ((rnW_Hb hx hH) 0 (by decide)) rfl rfl (Nat.le_of_ble_eq_true rfl) (by omega) (m_has (rnW_Hb hx hH) (((cell % 10) + (way / 3)) - 1) (((cell / 10) + (way % 3)) - 1)) (fun _ => ?_)
  obtain ⟨e67, he67⟩ : ∃ x9 : Int, x9 = f_has h (((cell % 10) + (way / 3)) - 1) (((cell / 10) + (way % 3)) - 1) := ⟨_, rfl⟩
  rw [← he67]
  unfold f_has at he67
  refine T_if_ne 87 (am_dec tX9_carry_1 11 rfl) rfl (fun h70 => ?_) (fun h70 => ?_)
  · refine T_iload (am_dec tX9_carry_1 23 rfl) rfl ?_
    refine T_bipush 10 (am_dec tX9_carry_1 24 rfl) rfl ⟨by decide, by decide⟩ ?_
    refine T_iload (am_dec tX9_carry_1 25 rfl) rfl ?_
    refine T_imul (10 * (((cell / 10) + (way % 3)) - 1)) (am_dec tX9_carry_1 26 rfl) rfl ⟨by omega, by omega⟩ ?_
    refine T_iadd ((((cell % 10) + (way / 3)) - 1) + (10 * (((cell / 10) + (way % 3)) - 1))) (am_dec tX9_carry_1 27 rfl) rfl ⟨by omega, by omega⟩ ?_
    refine T_istore (ls' := [some (aR b), some (aI s), some (aI cell), some (aI way), some (aI yards), some (aI ((s + 1) * 90)), some (aI (((cell % 10) + (way / 3)) - 1)), some (aI (((cell / 10) + (way % 3)) - 1)), some (aI ((((cell % 10) + (way / 3)) - 1) + (10 * (((cell / 10) + (way % 3)) - 1)))), none, none]) (am_dec tX9_carry_1 28 rfl) (by decide) rfl ?_
    refine T_aload_n (am_dec tX9_carry_1 29 rfl) rfl ?_
    refine T_getfield 8 6 (am_dec tX9_carry_1 30 rfl) flX9_11_8 (show (rnW w b hb (am_put (am_put r 6 ((s + 1).toNat) (am_w32 (r 6 (s + 1).toNat + yards))) 1 ((((s + 1) * 90) + cell).toNat) (((r 1) (((s + 1) * 90) + cell).toNat) - yards)))[b]? = some (cO 8 [aR hb, aI (r 0 1), aI (r 0 2), aI (r 0 3), aI (r 0 4), aI (r 0 5), aR (b + 1), aR (b + 2), aR (b + 3), aR (b + 4), aR (b + 5), aR (b + 6), aR (b + 7), aR (b + 8), aR (b + 9)]) from rnW_Rn hl 0 (by decide)) rfl ?_
    refine T_iload (am_dec tX9_carry_1 31 rfl) rfl ?_
    refine T_iload (am_dec tX9_carry_1 32 rfl) rfl ?_
    refine T_iadd (((s + 1) * 90) + ((((cell % 10) + (way / 3)) - 1) + (10 * (((cell / 10) + (way % 3)) - 1)))) (am_dec tX9_carry_1 33 rfl) rfl ⟨by omega, by omega⟩ ?_
    refine T_dup2 (am_dec tX9_carry_1 34 rfl) rfl rfl ?_
    have u9 := (am_upB (f := r 1) (i := ((s + 1) * 90 + cell).toNat) (v := r 1 ((s + 1) * 90 + cell).toNat - yards) (lo := -40000) (hi := 40000) (fun j => ⟨by have := (hB j).1; omega, by have := (hB j).2; omega⟩) (by omega)) ((s + 1) * 90 + ((cell % 10 + way / 3 - 1) + 10 * (cell / 10 + way % 3 - 1))).toNat
    refine T_iaload (am_dec tX9_carry_1 35 rfl) (show (rnW w b hb (am_put (am_put r 6 ((s + 1).toNat) (am_w32 (r 6 (s + 1).toNat + yards))) 1 ((((s + 1) * 90) + cell).toNat) (((r 1) (((s + 1) * 90) + cell).toNat) - yards)))[b + 1]? = some (cP 0 3690 (am_up (r 1) ((((s + 1) * 90) + cell).toNat) (((r 1) (((s + 1) * 90) + cell).toNat) - yards))) from rnW_Rn hl 1 (by decide)) (by omega) (by omega) ?_
    refine T_iload (am_dec tX9_carry_1 36 rfl) rfl ?_
    refine T_iadd (((am_up (r 1) ((((s + 1) * 90) + cell).toNat) (((r 1) (((s + 1) * 90) + cell).toNat) - yards)) (((s + 1) * 90) + ((((cell % 10) + (way / 3)) - 1) + (10 * (((cell / 10) + (way % 3)) - 1)))).toNat) + yards) (am_dec tX9_carry_1 37 rfl) rfl ⟨by omega, by omega⟩ ?_
    refine T_iastore (am_dec tX9_carry_1 38 rfl) (show (rnW w b hb (am_put (am_put r 6 ((s + 1).toNat) (am_w32 (r 6 (s + 1).toNat + yards))) 1 ((((s + 1) * 90) + cell).toNat) (((r 1) (((s + 1) * 90) + cell).toNat) - yards)))[b + 1]? = some (cP 0 3690 (am_up (r 1) ((((s + 1) * 90) + cell).toNat) (((r 1) (((s + 1) * 90) + cell).toNat) - yards))) from rnW_Rn hl 1 (by decide)) (by omega) (by omega) ?_
    refine am_wE (w2 := rnW w b hb (am_put (am_put (am_put r 6 ((s + 1).toNat) (am_w32 (r 6 (s + 1).toNat + yards))) 1 ((((s + 1) * 90) + cell).toNat) (((r 1) (((s + 1) * 90) + cell).toNat) - yards)) 1 ((((s + 1) * 90) + ((((cell % 10) + (way / 3)) - 1) + (10 * (((cell / 10) + (way % 3)) - 1)))).toNat) (((am_up (r 1) ((((s + 1) * 90) + cell).toNat) (((r 1) (((s + 1) * 90) + cell).toNat) - yards)) (((s + 1) * 90) + ((((cell % 10) + (way / 3)) - 1) + (10 * (((cell / 10) + (way % 3)) - 1)))).toNat) + yards))) rnW_p1 ?_
    refine T_aload_n (am_dec tX9_carry_1 39 rfl) rfl ?_
    refine T_getfield 8 0 (am_dec tX9_carry_2 0 rfl) flX9_43_8 (show (rnW w b hb (am_put (am_put (am_put r 6 ((s + 1).toNat) (am_w32 (r 6 (s + 1).toNat + yards))) 1 ((((s + 1) * 90) + cell).toNat) (((r 1) (((s + 1) * 90) + cell).toNat) - yards)) 1 ((((s + 1) * 90) + ((((cell % 10) + (way / 3)) - 1) + (10 * (((cell / 10) + (way % 3)) - 1)))).toNat) (((am_up (r 1) ((((s + 1) * 90) + cell).toNat) (((r 1) (((s + 1) * 90) + cell).toNat) - yards)) (((s + 1) * 90) + ((((cell % 10) + (way / 3)) - 1) + (10 * (((cell / 10) + (way % 3)) - 1)))).toNat) + yards)))[b]? = some (cO 8 [aR hb, aI (r 0 1), aI (r 0 2), aI (r 0 3), aI (r 0 4), aI (r 0 5), aR (b + 1), aR (b + 2), aR (b + 3), aR (b + 4), aR (b + 5), aR (b + 6), aR (b + 7), aR (b + 8), aR (b + 9)]) from rnW_Rn hl 0 (by decide)) rfl ?_
    refine T_iload_n (am_dec tX9_carry_2 1 rfl) rfl ?_
    have lb117 := hLt cell
    refine T_callV (as := [aI cell]) rfl (am_dec tX9_carry_2 2 rfl) lkX9_144 ((rnW_Hb hx hH) 0 (by decide)) rfl rfl (Nat.le_of_ble_eq_true rfl) (by omega) (m_lotOn (rnW_Hb hx hH) cell) (fun _ => ?_)
    refine T_istore (ls' := [some (aR b), some (aI s), some (aI cell), some (aI way), some (aI yards), some (aI ((s + 1) * 90)), some (aI (((cell % 10) + (way / 3)) - 1)), some (aI (((cell / 10) + (way % 3)) - 1)), some (aI ((((cell % 10) + (way / 3)) - 1) + (10 * (((cell / 10) + (way % 3)) - 1)))), some (aI (f_lotOn h cell)), none]) (am_dec tX9_carry_2 3 rfl) (by decide) rfl ?_
    refine T_aload_n (am_dec tX9_carry_2 4 rfl) rfl ?_
    refine T_getfield 8 0 (am_dec tX9_carry_2 5 rfl) flX9_43_8 (show (rnW w b hb (am_put (am_put (am_put r 6 ((s + 1).toNat) (am_w32 (r 6 (s + 1).toNat + yards))) 1 ((((s + 1) * 90) + cell).toNat) (((r 1) (((s + 1) * 90) + cell).toNat) - yards)) 1 ((((s + 1) * 90) + ((((cell % 10) + (way / 3)) - 1) + (10 * (((cell / 10) + (way % 3)) - 1)))).toNat) (((am_up (r 1) ((((s + 1) * 90) + cell).toNat) (((r 1) (((s + 1) * 90) + cell).toNat) - yards)) (((s + 1) * 90) + ((((cell % 10) + (way / 3)) - 1) + (10 * (((cell / 10) + (way % 3)) - 1)))).toNat) + yards)))[b]? = some (cO 8 [aR hb, aI (r 0 1), aI (r 0 2), aI (r 0 3), aI (r 0 4), aI (r 0 5), aR (b + 1), aR (b + 2), aR (b + 3), aR (b + 4), aR (b + 5), aR (b + 6), aR (b + 7), aR (b + 8), aR (b + 9)]) from rnW_Rn hl 0 (by decide)) rfl ?_
    refine T_iload (am_dec tX9_carry_2 6 rfl) rfl ?_
    have lb128 := hLt ((((cell % 10) + (way / 3)) - 1) + (10 * (((cell / 10) + (way % 3)) - 1)))
    refine T_callV (as := [aI ((((cell % 10) + (way / 3)) - 1) + (10 * (((cell / 10) + (way % 3)) - 1)))]) rfl (am_dec tX9_carry_2 7 rfl) lkX9_144 ((rnW_Hb hx hH) 0 (by decide)) rfl rfl (Nat.le_of_ble_eq_true rfl) (by omega) (m_lotOn (rnW_Hb hx hH) ((((cell % 10) + (way / 3)) - 1) + (10 * (((cell / 10) + (way % 3)) - 1)))) (fun _ => ?_)
    refine T_istore (ls' := [some (aR b), some (aI s), some (aI cell), some (aI way), some (aI yards), some (aI ((s + 1) * 90)), some (aI (((cell % 10) + (way / 3)) - 1)), some (aI (((cell / 10) + (way % 3)) - 1)), some (aI ((((cell % 10) + (way / 3)) - 1) + (10 * (((cell / 10) + (way % 3)) - 1)))), some (aI (f_lotOn h cell)), some (aI (f_lotOn h ((((cell % 10) + (way / 3)) - 1) + (10 * (((cell / 10) + (way % 3)) - 1)))))]) (am_dec tX9_carry_2 8 rfl) (by decide) rfl ?_
    refine T_iload (am_dec tX9_carry_2 9 rfl) rfl ?_
    refine T_iload (am_dec tX9_carry_2 10 rfl) rfl ?_
    refine T_icmp_eq 170 (am_dec tX9_carry_2 11 rfl) rfl (fun h137 => ?_) (fun h137 => ?_)
    · exact T_return (am_dec tX9_carry_2 30 rfl) rfl ⟨rfl, by unfold f_carry; first | (rw [if_pos (by unfold f_has; omega)]; done) | (rw [if_pos (by unfold f_has; omega)]; rfl) | (rw [if_neg (by unfold f_has; omega), if_pos (by omega)]; done) | (rw [if_neg (by unfold f_has; omega), if_pos (by omega)]; rfl) | (rw [if_neg (by unfold f_has; omega), if_neg (by omega)]; done) | (rw [if_neg (by unfold f_has; omega), if_neg (by omega)]; rfl)⟩
    · refine T_iload (am_dec tX9_carry_2 12 rfl) rfl ?_
      refine T_iconst (-1) (am_dec tX9_carry_2 13 rfl) rfl ⟨by decide, by decide⟩ ?_
      refine T_icmp_eq 170 (am_dec tX9_carry_2 14 rfl) rfl (fun h143 => ?_) (fun h143 => ?_)
      · exact T_return (am_dec tX9_carry_2 30 rfl) rfl ⟨rfl, by unfold f_carry; first | (rw [if_pos (by unfold f_has; omega)]; done) | (rw [if_pos (by unfold f_has; omega)]; rfl) | (rw [if_neg (by unfold f_has; omega), if_pos (by omega)]; done) | (rw [if_neg (by unfold f_has; omega), if_pos (by omega)]; rfl) | (rw [if_neg (by unfold f_has; omega), if_neg (by omega)]; done) | (rw [if_neg (by unfold f_has; omega), if_neg (by omega)]; rfl)⟩
      · refine T_iload (am_dec tX9_carry_2 15 rfl) rfl ?_
        refine T_iconst (-1) (am_dec tX9_carry_2 16 rfl) rfl ⟨by decide, by decide⟩ ?_
        refine T_icmp_eq 170 (am_dec tX9_carry_2 17 rfl) rfl (fun h149 => ?_) (fun h149 => ?_)
        · exact T_return (am_dec tX9_carry_2 30 rfl) rfl ⟨rfl, by unfold f_carry; first | (rw [if_pos (by unfold f_has; omega)]; done) | (rw [if_pos (by unfold f_has; omega)]; rfl) | (rw [if_neg (by unfold f_has; omega), if_pos (by omega)]; done) | (rw [if_neg (by unfold f_has; omega), if_pos (by omega)]; rfl) | (rw [if_neg (by unfold f_has; omega), if_neg (by omega)]; done) | (rw [if_neg (by unfold f_has; omega), if_neg (by omega)]; rfl)⟩
        · refine T_aload_n (am_dec tX9_carry_2 18 rfl) rfl ?_
          refine T_getfield 8 14 (am_dec tX9_carry_2 19 rfl) flX9_36_8 (show (rnW w b hb (am_put (am_put (am_put r 6 ((s + 1).toNat) (am_w32 (r 6 (s + 1).toNat + yards))) 1 ((((s + 1) * 90) + cell).toNat) (((r 1) (((s + 1) * 90) + cell).toNat) - yards)) 1 ((((s + 1) * 90) + ((((cell % 10) + (way / 3)) - 1) + (10 * (((cell / 10) + (way % 3)) - 1)))).toNat) (((am_up (r 1) ((((s + 1) * 90) + cell).toNat) (((r 1) (((s + 1) * 90) + cell).toNat) - yards)) (((s + 1) * 90) + ((((cell % 10) + (way / 3)) - 1) + (10 * (((cell / 10) + (way % 3)) - 1)))).toNat) + yards)))[b]? = some (cO 8 [aR hb, aI (r 0 1), aI (r 0 2), aI (r 0 3), aI (r 0 4), aI (r 0 5), aR (b + 1), aR (b + 2), aR (b + 3), aR (b + 4), aR (b + 5), aR (b + 6), aR (b + 7), aR (b + 8), aR (b + 9)]) from rnW_Rn hl 0 (by decide)) rfl ?_
          refine T_iload (am_dec tX9_carry_2 20 rfl) rfl ?_
          refine T_bipush 6 (am_dec tX9_carry_2 21 rfl) rfl ⟨by decide, by decide⟩ ?_
          refine T_imul ((f_lotOn h cell) * 6) (am_dec tX9_carry_2 22 rfl) rfl ⟨by omega, by omega⟩ ?_
          refine T_iload (am_dec tX9_carry_2 23 rfl) rfl ?_
          refine T_iadd (((f_lotOn h cell) * 6) + (f_lotOn h ((((cell % 10) + (way / 3)) - 1) + (10 * (((cell / 10) + (way % 3)) - 1))))) (am_dec tX9_carry_2 24 rfl) rfl ⟨by omega, by omega⟩ ?_
          refine T_dup2 (am_dec tX9_carry_2 25 rfl) rfl rfl ?_
          refine T_iaload (am_dec tX9_carry_2 26 rfl) (show (rnW w b hb (am_put (am_put (am_put r 6 ((s + 1).toNat) (am_w32 (r 6 (s + 1).toNat + yards))) 1 ((((s + 1) * 90) + cell).toNat) (((r 1) (((s + 1) * 90) + cell).toNat) - yards)) 1 ((((s + 1) * 90) + ((((cell % 10) + (way / 3)) - 1) + (10 * (((cell / 10) + (way % 3)) - 1)))).toNat) (((am_up (r 1) ((((s + 1) * 90) + cell).toNat) (((r 1) (((s + 1) * 90) + cell).toNat) - yards)) (((s + 1) * 90) + ((((cell % 10) + (way / 3)) - 1) + (10 * (((cell / 10) + (way % 3)) - 1)))).toNat) + yards)))[b + 9]? = some (cP 0 36 (r 9)) from rnW_Rn hl 9 (by decide)) (by omega) (by omega) ?_
          refine T_iload (am_dec tX9_carry_2 27 rfl) rfl ?_
          refine T_iaddW (am_w32 (r 9 (f_lotOn h cell * 6 + f_lotOn h ((cell % 10 + way / 3 - 1) + 10 * (cell / 10 + way % 3 - 1))).toNat + yards)) (am_dec tX9_carry_2 28 rfl) (am_w32e _).symm (am_w32r _) ?_
          refine T_iastore (am_dec tX9_carry_2 29 rfl) (show (rnW w b hb (am_put (am_put (am_put r 6 ((s + 1).toNat) (am_w32 (r 6 (s + 1).toNat + yards))) 1 ((((s + 1) * 90) + cell).toNat) (((r 1) (((s + 1) * 90) + cell).toNat) - yards)) 1 ((((s + 1) * 90) + ((((cell % 10) + (way / 3)) - 1) + (10 * (((cell / 10) + (way % 3)) - 1)))).toNat) (((am_up (r 1) ((((s + 1) * 90) + cell).toNat) (((r 1) (((s + 1) * 90) + cell).toNat) - yards)) (((s + 1) * 90) + ((((cell % 10) + (way / 3)) - 1) + (10 * (((cell / 10) + (way % 3)) - 1)))).toNat) + yards)))[b + 9]? = some (cP 0 36 (r 9)) from rnW_Rn hl 9 (by decide)) (by omega) (by omega) ?_
          refine am_wE (w2 := rnW w b hb (am_put (am_put (am_put (am_put r 6 ((s + 1).toNat) (am_w32 (r 6 (s + 1).toNat + yards))) 1 ((((s + 1) * 90) + cell).toNat) (((r 1) (((s + 1) * 90) + cell).toNat) - yards)) 1 ((((s + 1) * 90) + ((((cell % 10) + (way / 3)) - 1) + (10 * (((cell / 10) + (way % 3)) - 1)))).toNat) (((am_up (r 1) ((((s + 1) * 90) + cell).toNat) (((r 1) (((s + 1) * 90) + cell).toNat) - yards)) (((s + 1) * 90) + ((((cell % 10) + (way / 3)) - 1) + (10 * (((cell / 10) + (way % 3)) - 1)))).toNat) + yards)) 9 ((((f_lotOn h cell) * 6) + (f_lotOn h ((((cell % 10) + (way / 3)) - 1) + (10 * (((cell / 10) + (way % 3)) - 1))))).toNat) (am_w32 (r 9 (f_lotOn h cell * 6 + f_lotOn h ((cell % 10 + way / 3 - 1) + 10 * (cell / 10 + way % 3 - 1))).toNat + yards)))) rnW_p9 ?_
          exact T_return (am_dec tX9_carry_2 30 rfl) rfl ⟨rfl, by unfold f_carry; first | (rw [if_pos (by unfold f_has; omega)]; done) | (rw [if_pos (by unfold f_has; omega)]; rfl) | (rw [if_neg (by unfold f_has; omega), if_pos (by omega)]; done) | (rw [if_neg (by unfold f_has; omega), if_pos (by omega)]; rfl) | (rw [if_neg (by unfold f_has; omega), if_neg (by omega)]; done) | (rw [if_neg (by unfold f_has; omega), if_neg (by omega)]; rfl)⟩
  · refine T_aload_n (am_dec tX9_carry_1 12 rfl) rfl ?_
    refine T_getfield 8 8 (am_dec tX9_carry_1 13 rfl) flX9_18_8 (show (rnW w b hb (am_put (am_put r 6 ((s + 1).toNat) (am_w32 (r 6 (s + 1).toNat + yards))) 1 ((((s + 1) * 90) + cell).toNat) (((r 1) (((s + 1) * 90) + cell).toNat) - yards)))[b]? = some (cO 8 [aR hb, aI (r 0 1), aI (r 0 2), aI (r 0 3), aI (r 0 4), aI (r 0 5), aR (b + 1), aR (b + 2), aR (b + 3), aR (b + 4), aR (b + 5), aR (b + 6), aR (b + 7), aR (b + 8), aR (b + 9)]) from rnW_Rn hl 0 (by decide)) rfl ?_
    refine T_iload_n (am_dec tX9_carry_1 14 rfl) rfl ?_
    refine T_iconst 1 (am_dec tX9_carry_1 15 rfl) rfl ⟨by decide, by decide⟩ ?_
    refine T_iadd (s + 1) (am_dec tX9_carry_1 16 rfl) rfl ⟨by omega, by omega⟩ ?_
    refine T_dup2 (am_dec tX9_carry_1 17 rfl) rfl rfl ?_
    refine T_iaload (am_dec tX9_carry_1 18 rfl) (show (rnW w b hb (am_put (am_put r 6 ((s + 1).toNat) (am_w32 (r 6 (s + 1).toNat + yards))) 1 ((((s + 1) * 90) + cell).toNat) (((r 1) (((s + 1) * 90) + cell).toNat) - yards)))[b + 3]? = some (cP 0 41 (r 3)) from rnW_Rn hl 3 (by decide)) (by omega) (by omega) ?_
    refine T_iload (am_dec tX9_carry_1 19 rfl) rfl ?_
    refine T_iaddW (am_w32 (r 3 (s + 1).toNat + yards)) (am_dec tX9_carry_1 20 rfl) (am_w32e _).symm (am_w32r _) ?_
    refine T_iastore (am_dec tX9_carry_1 21 rfl) (show (rnW w b hb (am_put (am_put r 6 ((s + 1).toNat) (am_w32 (r 6 (s + 1).toNat + yards))) 1 ((((s + 1) * 90) + cell).toNat) (((r 1) (((s + 1) * 90) + cell).toNat) - yards)))[b + 3]? = some (cP 0 41 (r 3)) from rnW_Rn hl 3 (by decide)) (by omega) (by omega) ?_
    refine am_wE (w2 := rnW w b hb (am_put (am_put (am_put r 6 ((s + 1).toNat) (am_w32 (r 6 (s + 1).toNat + yards))) 1 ((((s + 1) * 90) + cell).toNat) (((r 1) (((s + 1) * 90) + cell).toNat) - yards)) 3 ((s + 1).toNat) (am_w32 (r 3 (s + 1).toNat + yards)))) rnW_p3 ?_
    exact T_return (am_dec tX9_carry_1 22 rfl) rfl ⟨rfl, by unfold f_carry; first | (rw [if_pos (by unfold f_has; omega)]; done) | (rw [if_pos (by unfold f_has; omega)]; rfl) | (rw [if_neg (by unfold f_has; omega), if_pos (by omega)]; done) | (rw [if_neg (by unfold f_has; omega), if_pos (by omega)]; rfl) | (rw [if_neg (by unfold f_has; omega), if_neg (by omega)]; done) | (rw [if_neg (by unfold f_has; omega), if_neg (by omega)]; rfl)⟩
