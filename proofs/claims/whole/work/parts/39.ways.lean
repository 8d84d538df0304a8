/-! Eyes' reckoning of ways -/
def eyC (e : Nat) (g : am_F) : Nat → AC
  | 0 => cO 2 [aR (e + 1), aR (e + 2)]
  | 1 => cP 0 90 (g 0)
  | _ => cP 0 90 (g 1)
def eyW (w : AH) (e : Nat) (g : am_F) : AH := am_ov w e 3 (eyC e g)
theorem eyW_c {w : AH} {e : Nat} {g : am_F} (hl : e + 3 ≤ w.length) (k : Nat) (hk : k < 3) : (eyW w e g)[e + k]? = some (eyC e g k) := am_ovi hl k hk
theorem eyW_Rn {w : AH} {e b hb : Nat} {g r : am_F} (hd : b + 10 ≤ e ∨ e + 3 ≤ b) (hR : Rn w b hb r) : Rn (eyW w e g) b hb r := fun k hk => by
  unfold eyW
  rw [am_ovo (b + k) (by omega)]
  exact hR k hk
theorem eyW_Hb {w : AH} {e c : Nat} {g h : am_F} (hd : c + 20 ≤ e ∨ e + 3 ≤ c) (hH : Hb w c h) : Hb (eyW w e g) c h := fun k hk => by
  unfold eyW
  rw [am_ovo (c + k) (by omega)]
  exact hH k hk
def f_before (h g : am_F) (x y : Int) : Int := if f_has h x y ≠ 0 ∧ x + 10 * y < 90 then g 1 (x + 10 * y).toNat else 1000000
def EyB (g : am_F) (k : Nat) : Prop := ∀ j, 0 ≤ g k j ∧ g k j ≤ 1000099
theorem f_before_b {h g : am_F} (hg : EyB g 1) (x y : Int) : 0 ≤ f_before h g x y ∧ f_before h g x y ≤ 1000099 := by
  unfold f_before
  split
  · exact hg _
  · omega
theorem eyW_p1 {w : AH} {e : Nat} {g : am_F} {i : Nat} {v : Int} : (eyW w e g).set (e + 1) (cP 0 90 (am_up (g 0) i v)) = eyW w e (am_put g 0 i v) := am_ovset 1 (by decide) (fun j hj => match j, hj with | 0, _ => rfl | 1, _ => rfl | 2, _ => rfl | n + 3, h => absurd h (by omega))
theorem eyW_r1 {w : AH} {e : Nat} {g : am_F} {f : Nat → Int} : (eyW w e g).set (e + 1) (cP 0 90 f) = eyW w e (am_row g 0 f) := am_ovset 1 (by decide) (fun j hj => match j, hj with | 0, _ => rfl | 1, _ => rfl | 2, _ => rfl | n + 3, h => absurd h (by omega))
theorem eyW_p2 {w : AH} {e : Nat} {g : am_F} {i : Nat} {v : Int} : (eyW w e g).set (e + 2) (cP 0 90 (am_up (g 1) i v)) = eyW w e (am_put g 1 i v) := am_ovset 2 (by decide) (fun j hj => match j, hj with | 0, _ => rfl | 1, _ => rfl | 2, _ => rfl | n + 3, h => absurd h (by omega))
theorem eyW_r2 {w : AH} {e : Nat} {g : am_F} {f : Nat → Int} : (eyW w e g).set (e + 2) (cP 0 90 f) = eyW w e (am_row g 1 f) := am_ovset 2 (by decide) (fun j hj => match j, hj with | 0, _ => rfl | 1, _ => rfl | 2, _ => rfl | n + 3, h => absurd h (by omega))
theorem m_before {S : am_S} {d u : Nat} {w : AH} {e b hb : Nat} {g r h : am_F} (hl : e + 3 ≤ w.length) (hx1 : b + 10 ≤ e ∨ e + 3 ≤ b) (hx2 : hb + 20 ≤ e ∨ e + 3 ≤ hb) (hR : Rn w b hb r) (hH : Hb w hb h) (hV : HbV h) (x y : Int) (hxy : -2 ≤ x ∧ x ≤ 20 ∧ -2 ≤ y ∧ y ≤ 20) (hd : 1 ≤ d) : am_Out S zX2_before d u [aR e, aR hb, aI x, aI y] (eyW w e g) (.inl (some (aI (f_before h g x y)))) (eyW w e g) := by
  refine am_body rfl (by decide +kernel) rfl (am_cats_cons rfl ( am_cats_cons rfl ( am_cats_cons rfl ( am_cats_cons rfl (am_cats_nil))))) (Nat.le_of_ble_eq_true rfl) (?_ : am_T _ _ _ _ _ 0 [some (aR e), some (aR hb), some (aI x), some (aI y), none] [] (eyW w e g))
  have hV9 := hV
  obtain ⟨v1, v2, v3, v4, v5, v6, v7, v8, v9, v10, v11, v12, v13, v14, v15, v16, v17, v18, v19, v20, v21, v22⟩ := hV9
  refine T_iload_n (am_dec tX2_before_0 0 rfl) rfl ?_
  refine T_bipush 10 (am_dec tX2_before_0 1 rfl) rfl ⟨by decide, by decide⟩ ?_
  refine T_iload_n (am_dec tX2_before_0 2 rfl) rfl ?_
  refine T_imul (10 * y) (am_dec tX2_before_0 3 rfl) rfl ⟨by omega, by omega⟩ ?_
  refine T_iadd (x + (10 * y)) (am_dec tX2_before_0 4 rfl) rfl ⟨by omega, by omega⟩ ?_
  refine T_istore (ls' := [some (aR e), some (aR hb), some (aI x), some (aI y), some (aI (x + (10 * y)))]) (am_dec tX2_before_0 5 rfl) (by decide) rfl ?_
  refine T_aload_n (am_dec tX2_before_0 6 rfl) rfl ?_
  refine T_iload_n (am_dec tX2_before_0 7 rfl) rfl ?_
  refine T_iload_n (am_dec tX2_before_0 8 rfl) rfl ?_
  refine T_callV (as := [aI x, aI y]) rfl (am_dec tX2_before_0 9 rfl) lkX2_120 ((eyW_Hb hx2 hH) 0 (by decide)) rfl rfl (Nat.le_of_ble_eq_true rfl) (by omega) (m_has (eyW_Hb hx2 hH) x y) (fun _ => ?_)
  obtain ⟨e11, he11⟩ : ∃ x9 : Int, x9 = f_has h x y := ⟨_, rfl⟩
  rw [← he11]
  unfold f_has at he11
  refine T_if_eq 34 (am_dec tX2_before_0 10 rfl) rfl (fun h14 => ?_) (fun h14 => ?_)
  · refine T_ldc 1000000 (am_dec tX2_before_0 19 rfl) (am_m6 3 rfl rfl) ⟨by decide, by decide⟩ ?_
    exact T_ireturn (am_dec tX2_before_0 20 rfl) rfl (am_outI (by unfold f_before; first | (rw [if_pos (by unfold f_has; omega)]; done) | (rw [if_neg (by unfold f_has; omega)]; done)))
  · refine T_iload (am_dec tX2_before_0 11 rfl) rfl ?_
    refine T_bipush 90 (am_dec tX2_before_0 12 rfl) rfl ⟨by decide, by decide⟩ ?_
    refine T_icmp_ge 34 (am_dec tX2_before_0 13 rfl) rfl (fun h21 => ?_) (fun h21 => ?_)
    · refine T_ldc 1000000 (am_dec tX2_before_0 19 rfl) (am_m6 3 rfl rfl) ⟨by decide, by decide⟩ ?_
      exact T_ireturn (am_dec tX2_before_0 20 rfl) rfl (am_outI (by unfold f_before; first | (rw [if_pos (by unfold f_has; omega)]; done) | (rw [if_neg (by unfold f_has; omega)]; done)))
    · refine T_aload_n (am_dec tX2_before_0 14 rfl) rfl ?_
      refine T_getfield 2 1 (am_dec tX2_before_0 15 rfl) flX2_15_2 (show (eyW w e g)[e]? = some (cO 2 [aR (e + 1), aR (e + 2)]) from eyW_c hl 0 (by decide)) rfl ?_
      refine T_iload (am_dec tX2_before_0 16 rfl) rfl ?_
      refine T_iaload (am_dec tX2_before_0 17 rfl) (show (eyW w e g)[e + 2]? = some (cP 0 90 (g 1)) from eyW_c hl 2 (by decide)) (by omega) (by omega) ?_
      refine T_goto 36 (am_dec tX2_before_0 18 rfl) rfl ?_
      exact T_ireturn (am_dec tX2_before_0 20 rfl) rfl (am_outI (by unfold f_before; first | (rw [if_pos (by unfold f_has; omega)]; done) | (rw [if_neg (by unfold f_has; omega)]; done)))
