/-! a LAMP burns; a STEAMER mixes -/
theorem f_near_b {h : am_F} (hV : HbV h) (c i : Int) : f_near h c i = -1 ∨ (0 ≤ f_near h c i ∧ f_near h c i ≤ 88) := by
  obtain ⟨v1, v2, v3, v4, v5⟩ := hV
  unfold f_near
  split
  · right; omega
  · left; rfl
def f_takes (r : am_F) (row burns c : Int) : Int := if r 1 (row * 90 + c).toNat < burns then r 1 (row * 90 + c).toNat else burns
def g_burn (h : am_F) (row lamp cell burns i : Int) (x : Int × am_F) : Int × am_F := if f_near h cell i = -1 then x else
  (x.1 + f_takes x.2 row burns (f_near h cell i), am_put (am_put x.2 1 (row * 90 + f_near h cell i).toNat (x.2 1 (row * 90 + f_near h cell i).toNat - f_takes x.2 row burns (f_near h cell i))) 8 (lamp * 90 + f_near h cell i).toNat (am_w32 (x.2 8 (lamp * 90 + f_near h cell i).toNat + f_takes x.2 row burns (f_near h cell i))))
def f_burnl (h r : am_F) (row lamp cell burns : Int) : Int × am_F := am_fold (g_burn h row lamp cell burns) 0 9 (0, r)
def f_burn (h r : am_F) (row lamp cell burns : Int) : am_F :=
  am_put (am_put (f_burnl h r row lamp cell burns).2 7 (lamp * 41 + row).toNat (am_w32 ((f_burnl h r row lamp cell burns).2 7 (lamp * 41 + row).toNat + (f_burnl h r row lamp cell burns).1))) 4 row.toNat (am_w32 ((f_burnl h r row lamp cell burns).2 4 row.toNat + (f_burnl h r row lamp cell burns).1))
theorem L_burn {S : am_S} {d u : Nat} {Q : AO → AH → Prop} {w : AH} {b hb : Nat} {h : am_F} (hl : b + 10 ≤ w.length) (hx : hb + 20 ≤ b ∨ b + 10 ≤ hb) (hH : Hb w hb h) (hV : HbV h) (row lamp cell burns : Int) (hr : 0 ≤ row ∧ row ≤ 40) (hlm : 0 ≤ lamp ∧ lamp < 7) (hc : 0 ≤ cell ∧ cell ≤ 100000) (hb9 : 0 ≤ burns ∧ burns ≤ 100000) (M : Int) (hM : M ≤ 10000) (hd : 1 ≤ d) : ∀ (n : Nat) (i : Int) (t : Int) (r : am_F), i + n = 9 → 0 ≤ i → 0 ≤ t ∧ t ≤ 10000 * i ∧ FgB r M → (∀ (t' : Int) (r' : am_F), t' = (am_fold (g_burn h row lamp cell burns) i n (t, r)).1 → r' = (am_fold (g_burn h row lamp cell burns) i n (t, r)).2 → 0 ≤ t' ∧ t' ≤ 10000 * 9 ∧ FgB r' M → am_T S zX9_burn d u Q 94 [some (aR b), some (aI row), some (aI lamp), some (aI cell), some (aI burns), some (aI t'), some (aI 9), none, none] [] (rnW w b hb r')) → am_T S zX9_burn d u Q 6 [some (aR b), some (aI row), some (aI lamp), some (aI cell), some (aI burns), some (aI t), some (aI i), none, none] [] (rnW w b hb r) := by
  intro n
  induction n with
  | zero =>
    intro i t r hi9 h0i hinv k9
    obtain ⟨i1, i2, i3⟩ := hinv
    have hinv := And.intro i1 (And.intro i2 i3)
    refine T_iload (am_dec tX9_burn_0 4 rfl) rfl ?_
    refine T_bipush 9 (am_dec tX9_burn_0 5 rfl) rfl ⟨by decide, by decide⟩ ?_
    refine T_icmp_ge 94 (am_dec tX9_burn_0 6 rfl) rfl (fun h10 => ?_) (fun h10 => by exfalso; omega)
    have e9 : i = 9 := by omega
    rw [← e9] at k9
    exact k9 t r rfl rfl (by first | exact hinv | omega)
  | succ n ih =>
    intro i t r hi9 h0i hinv k9
    obtain ⟨i1, i2, i3⟩ := hinv
    have hinv := And.intro i1 (And.intro i2 i3)
    refine T_iload (am_dec tX9_burn_0 4 rfl) rfl ?_
    refine T_bipush 9 (am_dec tX9_burn_0 5 rfl) rfl ⟨by decide, by decide⟩ ?_
    refine T_icmp_ge 94 (am_dec tX9_burn_0 6 rfl) rfl (fun h10 => by exfalso; omega) (fun h10 => ?_)
    refine T_aload_n (am_dec tX9_burn_0 7 rfl) rfl ?_
    refine T_iload_n (am_dec tX9_burn_0 8 rfl) rfl ?_
    refine T_iload (am_dec tX9_burn_0 9 rfl) rfl ?_
    have nb17 := f_near_b hV cell i
    have f9 := i3 (row * 90 + f_near h cell i).toNat
    refine T_callV (as := [aI cell, aI i]) rfl (am_dec tX9_burn_0 10 rfl) lkX9_157 (show (rnW w b hb r)[b]? = some (cO 8 [aR hb, aI (r 0 1), aI (r 0 2), aI (r 0 3), aI (r 0 4), aI (r 0 5), aR (b + 1), aR (b + 2), aR (b + 3), aR (b + 4), aR (b + 5), aR (b + 6), aR (b + 7), aR (b + 8), aR (b + 9)]) from rnW_Rn hl 0 (by decide)) rfl rfl (Nat.le_of_ble_eq_true rfl) (by omega) (m_near (rnW_Rn hl) (rnW_Hb hx hH) hV cell i (by omega) (by omega)) (fun _ => ?_)
    refine T_istore (ls' := [some (aR b), some (aI row), some (aI lamp), some (aI cell), some (aI burns), some (aI t), some (aI i), some (aI (f_near h cell i)), none]) (am_dec tX9_burn_0 11 rfl) (by decide) rfl ?_
    refine T_iload (am_dec tX9_burn_0 12 rfl) rfl ?_
    refine T_iconst (-1) (am_dec tX9_burn_0 13 rfl) rfl ⟨by decide, by decide⟩ ?_
    refine T_icmp_eq 88 (am_dec tX9_burn_0 14 rfl) rfl (fun h25 => ?_) (fun h25 => ?_)
    · refine T_iinc (ls' := [some (aR b), some (aI row), some (aI lamp), some (aI cell), some (aI burns), some (aI t), some (aI (i + 1)), some (aI (f_near h cell i)), none]) (i + 1) (am_dec tX9_burn_1 14 rfl) rfl rfl ⟨by omega, by omega⟩ (by decide) rfl ?_
      refine T_goto 6 (am_dec tX9_burn_1 15 rfl) rfl ?_
      refine T_weak (ls' := [some (aR b), some (aI row), some (aI lamp), some (aI cell), some (aI burns), some (aI t), some (aI (i + 1)), none, none]) (am_sub_s (am_sub_s (am_sub_s (am_sub_s (am_sub_s (am_sub_s (am_sub_s (am_sub_n (am_sub_n am_sub_nil))))))))) ?_
      have e9 : (g_burn h row lamp cell burns) i (t, r) = (t, r) := (by unfold g_burn; first | (rw [if_pos (by omega)]; done) | (rw [if_neg (by omega), hm42] <;> rfl))
      simp only [am_fold_s, e9] at k9
      exact ih (i + 1) t r (by omega) (by omega) ⟨by omega, by omega, i3⟩ k9
    · refine T_iload (am_dec tX9_burn_0 15 rfl) rfl ?_
      refine T_aload_n (am_dec tX9_burn_0 16 rfl) rfl ?_
      refine T_getfield 8 6 (am_dec tX9_burn_0 17 rfl) flX9_11_8 (show (rnW w b hb r)[b]? = some (cO 8 [aR hb, aI (r 0 1), aI (r 0 2), aI (r 0 3), aI (r 0 4), aI (r 0 5), aR (b + 1), aR (b + 2), aR (b + 3), aR (b + 4), aR (b + 5), aR (b + 6), aR (b + 7), aR (b + 8), aR (b + 9)]) from rnW_Rn hl 0 (by decide)) rfl ?_
      refine T_iload_n (am_dec tX9_burn_0 18 rfl) rfl ?_
      refine T_bipush 90 (am_dec tX9_burn_0 19 rfl) rfl ⟨by decide, by decide⟩ ?_
      refine T_imul (row * 90) (am_dec tX9_burn_0 20 rfl) rfl ⟨by omega, by omega⟩ ?_
      refine T_iload (am_dec tX9_burn_0 21 rfl) rfl ?_
      refine T_iadd ((row * 90) + (f_near h cell i)) (am_dec tX9_burn_0 22 rfl) rfl ⟨by omega, by omega⟩ ?_
      refine T_iaload (am_dec tX9_burn_0 23 rfl) (show (rnW w b hb r)[b + 1]? = some (cP 0 3690 (r 1)) from rnW_Rn hl 1 (by decide)) (by omega) (by omega) ?_
      refine T_mmin (am_dec tX9_burn_0 24 rfl) lkX9_166 (Nat.le_of_ble_eq_true rfl) (by omega) ?_
      obtain ⟨m42, hm42⟩ : ∃ x9 : Int, x9 = (if (r 1) ((row * 90) + (f_near h cell i)).toNat < burns then (r 1) ((row * 90) + (f_near h cell i)).toNat else burns) := ⟨_, rfl⟩
      rw [← hm42]
      refine T_istore (ls' := [some (aR b), some (aI row), some (aI lamp), some (aI cell), some (aI burns), some (aI t), some (aI i), some (aI (f_near h cell i)), some (aI m42)]) (am_dec tX9_burn_0 25 rfl) (by decide) rfl ?_
      refine T_aload_n (am_dec tX9_burn_0 26 rfl) rfl ?_
      refine T_getfield 8 6 (am_dec tX9_burn_0 27 rfl) flX9_11_8 (show (rnW w b hb r)[b]? = some (cO 8 [aR hb, aI (r 0 1), aI (r 0 2), aI (r 0 3), aI (r 0 4), aI (r 0 5), aR (b + 1), aR (b + 2), aR (b + 3), aR (b + 4), aR (b + 5), aR (b + 6), aR (b + 7), aR (b + 8), aR (b + 9)]) from rnW_Rn hl 0 (by decide)) rfl ?_
      refine T_iload_n (am_dec tX9_burn_0 28 rfl) rfl ?_
      refine T_bipush 90 (am_dec tX9_burn_0 29 rfl) rfl ⟨by decide, by decide⟩ ?_
      refine T_imul (row * 90) (am_dec tX9_burn_0 30 rfl) rfl ⟨by omega, by omega⟩ ?_
      refine T_iload (am_dec tX9_burn_0 31 rfl) rfl ?_
      refine T_iadd ((row * 90) + (f_near h cell i)) (am_dec tX9_burn_0 32 rfl) rfl ⟨by omega, by omega⟩ ?_
      refine T_dup2 (am_dec tX9_burn_0 33 rfl) rfl rfl ?_
      refine T_iaload (am_dec tX9_burn_0 34 rfl) (show (rnW w b hb r)[b + 1]? = some (cP 0 3690 (r 1)) from rnW_Rn hl 1 (by decide)) (by omega) (by omega) ?_
      refine T_iload (am_dec tX9_burn_0 35 rfl) rfl ?_
      refine T_isub (((r 1) ((row * 90) + (f_near h cell i)).toNat) - m42) (am_dec tX9_burn_0 36 rfl) rfl ⟨by omega, by omega⟩ ?_
      refine T_iastore (am_dec tX9_burn_0 37 rfl) (show (rnW w b hb r)[b + 1]? = some (cP 0 3690 (r 1)) from rnW_Rn hl 1 (by decide)) (by omega) (by omega) ?_
      refine am_wE (w2 := rnW w b hb (am_put r 1 (((row * 90) + (f_near h cell i)).toNat) (((r 1) ((row * 90) + (f_near h cell i)).toNat) - m42))) rnW_p1 ?_
      refine T_aload_n (am_dec tX9_burn_0 38 rfl) rfl ?_
      refine T_getfield 8 13 (am_dec tX9_burn_0 39 rfl) flX9_33_8 (show (rnW w b hb (am_put r 1 (((row * 90) + (f_near h cell i)).toNat) (((r 1) ((row * 90) + (f_near h cell i)).toNat) - m42)))[b]? = some (cO 8 [aR hb, aI (r 0 1), aI (r 0 2), aI (r 0 3), aI (r 0 4), aI (r 0 5), aR (b + 1), aR (b + 2), aR (b + 3), aR (b + 4), aR (b + 5), aR (b + 6), aR (b + 7), aR (b + 8), aR (b + 9)]) from rnW_Rn hl 0 (by decide)) rfl ?_
      refine T_iload_n (am_dec tX9_burn_1 0 rfl) rfl ?_
      refine T_bipush 90 (am_dec tX9_burn_1 1 rfl) rfl ⟨by decide, by decide⟩ ?_
      refine T_imul (lamp * 90) (am_dec tX9_burn_1 2 rfl) rfl ⟨by omega, by omega⟩ ?_
      refine T_iload (am_dec tX9_burn_1 3 rfl) rfl ?_
      refine T_iadd ((lamp * 90) + (f_near h cell i)) (am_dec tX9_burn_1 4 rfl) rfl ⟨by omega, by omega⟩ ?_
      refine T_dup2 (am_dec tX9_burn_1 5 rfl) rfl rfl ?_
      refine T_iaload (am_dec tX9_burn_1 6 rfl) (show (rnW w b hb (am_put r 1 (((row * 90) + (f_near h cell i)).toNat) (((r 1) ((row * 90) + (f_near h cell i)).toNat) - m42)))[b + 8]? = some (cP 0 630 (r 8)) from rnW_Rn hl 8 (by decide)) (by omega) (by omega) ?_
      refine T_iload (am_dec tX9_burn_1 7 rfl) rfl ?_
      refine T_iaddW (am_w32 (r 8 (lamp * 90 + f_near h cell i).toNat + m42)) (am_dec tX9_burn_1 8 rfl) (am_w32e _).symm (am_w32r _) ?_
      refine T_iastore (am_dec tX9_burn_1 9 rfl) (show (rnW w b hb (am_put r 1 (((row * 90) + (f_near h cell i)).toNat) (((r 1) ((row * 90) + (f_near h cell i)).toNat) - m42)))[b + 8]? = some (cP 0 630 (r 8)) from rnW_Rn hl 8 (by decide)) (by omega) (by omega) ?_
      refine am_wE (w2 := rnW w b hb (am_put (am_put r 1 (((row * 90) + (f_near h cell i)).toNat) (((r 1) ((row * 90) + (f_near h cell i)).toNat) - m42)) 8 (((lamp * 90) + (f_near h cell i)).toNat) (am_w32 (r 8 (lamp * 90 + f_near h cell i).toNat + m42)))) rnW_p8 ?_
      refine T_iload (am_dec tX9_burn_1 10 rfl) rfl ?_
      refine T_iload (am_dec tX9_burn_1 11 rfl) rfl ?_
      refine T_iadd (t + m42) (am_dec tX9_burn_1 12 rfl) rfl ⟨by omega, by omega⟩ ?_
      refine T_istore (ls' := [some (aR b), some (aI row), some (aI lamp), some (aI cell), some (aI burns), some (aI (t + m42)), some (aI i), some (aI (f_near h cell i)), some (aI m42)]) (am_dec tX9_burn_1 13 rfl) (by decide) rfl ?_
      refine T_iinc (ls' := [some (aR b), some (aI row), some (aI lamp), some (aI cell), some (aI burns), some (aI (t + m42)), some (aI (i + 1)), some (aI (f_near h cell i)), some (aI m42)]) (i + 1) (am_dec tX9_burn_1 14 rfl) rfl rfl ⟨by omega, by omega⟩ (by decide) rfl ?_
      refine T_goto 6 (am_dec tX9_burn_1 15 rfl) rfl ?_
      refine T_weak (ls' := [some (aR b), some (aI row), some (aI lamp), some (aI cell), some (aI burns), some (aI (t + m42)), some (aI (i + 1)), none, none]) (am_sub_s (am_sub_s (am_sub_s (am_sub_s (am_sub_s (am_sub_s (am_sub_s (am_sub_n (am_sub_n am_sub_nil))))))))) ?_
      have e9 : (g_burn h row lamp cell burns) i (t, r) = (t + m42, (am_put (am_put r 1 (((row * 90) + (f_near h cell i)).toNat) (((r 1) ((row * 90) + (f_near h cell i)).toNat) - m42)) 8 (((lamp * 90) + (f_near h cell i)).toNat) (am_w32 (r 8 (lamp * 90 + f_near h cell i).toNat + m42)))) := (by unfold g_burn; first | (rw [if_pos (by omega)]; done) | (rw [if_neg (by omega), hm42] <;> rfl))
      simp only [am_fold_s, e9] at k9
      exact ih (i + 1) (t + m42) (am_put (am_put r 1 (((row * 90) + (f_near h cell i)).toNat) (((r 1) ((row * 90) + (f_near h cell i)).toNat) - m42)) 8 (((lamp * 90) + (f_near h cell i)).toNat) (am_w32 (r 8 (lamp * 90 + f_near h cell i).toNat + m42))) (by omega) (by omega) ⟨by omega, by omega, am_upB i3 (by omega)⟩ k9
theorem m_burn {S : am_S} {d u : Nat} {w : AH} {b hb : Nat} {r h : am_F} (hl : b + 10 ≤ w.length) (hx : hb + 20 ≤ b ∨ b + 10 ≤ hb) (hH : Hb w hb h) (hV : HbV h) (row lamp cell burns : Int) (hr : 0 ≤ row ∧ row ≤ 40) (hlm : 0 ≤ lamp ∧ lamp < 7) (hc : 0 ≤ cell ∧ cell ≤ 100000) (hb9 : 0 ≤ burns ∧ burns ≤ 100000) (M : Int) (hM : M ≤ 10000) (hB : FgB r M) (hd : 2 ≤ d) : am_Out S zX9_burn d u [aR b, aI row, aI lamp, aI cell, aI burns] (rnW w b hb r) (.inl none) (rnW w b hb (f_burn h r row lamp cell burns)) := by
  refine am_body rfl (by decide +kernel) rfl (am_cats_cons rfl ( am_cats_cons rfl ( am_cats_cons rfl ( am_cats_cons rfl ( am_cats_cons rfl (am_cats_nil)))))) (Nat.le_of_ble_eq_true rfl) (?_ : am_T _ _ _ _ _ 0 [some (aR b), some (aI row), some (aI lamp), some (aI cell), some (aI burns), none, none, none, none] [] (rnW w b hb r))
  refine T_iconst 0 (am_dec tX9_burn_0 0 rfl) rfl ⟨by decide, by decide⟩ ?_
  refine T_istore (ls' := [some (aR b), some (aI row), some (aI lamp), some (aI cell), some (aI burns), some (aI 0), none, none, none]) (am_dec tX9_burn_0 1 rfl) (by decide) rfl ?_
  refine T_iconst 0 (am_dec tX9_burn_0 2 rfl) rfl ⟨by decide, by decide⟩ ?_
  refine T_istore (ls' := [some (aR b), some (aI row), some (aI lamp), some (aI cell), some (aI burns), some (aI 0), some (aI 0), none, none]) (am_dec tX9_burn_0 3 rfl) (by decide) rfl ?_
  refine L_burn hl hx hH hV row lamp cell burns hr hlm hc hb9 M hM (by omega) ((9 : Int) - 0).toNat 0 0 r (by omega) (by omega) ⟨by omega, by omega, hB⟩ (fun t6 r6 ht6 hr6 hv6 => ?_)
  simp only [show ((9 : Int) - 0).toNat = 9 from rfl] at ht6 hr6
  refine T_aload_n (am_dec tX9_burn_1 16 rfl) rfl ?_
  refine T_getfield 8 12 (am_dec tX9_burn_1 17 rfl) flX9_30_8 (show (rnW w b hb r6)[b]? = some (cO 8 [aR hb, aI (r6 0 1), aI (r6 0 2), aI (r6 0 3), aI (r6 0 4), aI (r6 0 5), aR (b + 1), aR (b + 2), aR (b + 3), aR (b + 4), aR (b + 5), aR (b + 6), aR (b + 7), aR (b + 8), aR (b + 9)]) from rnW_Rn hl 0 (by decide)) rfl ?_
  refine T_iload_n (am_dec tX9_burn_1 18 rfl) rfl ?_
  refine T_bipush 41 (am_dec tX9_burn_1 19 rfl) rfl ⟨by decide, by decide⟩ ?_
  refine T_imul (lamp * 41) (am_dec tX9_burn_1 20 rfl) rfl ⟨by omega, by omega⟩ ?_
  refine T_iload_n (am_dec tX9_burn_1 21 rfl) rfl ?_
  refine T_iadd ((lamp * 41) + row) (am_dec tX9_burn_1 22 rfl) rfl ⟨by omega, by omega⟩ ?_
  refine T_dup2 (am_dec tX9_burn_1 23 rfl) rfl rfl ?_
  refine T_iaload (am_dec tX9_burn_1 24 rfl) (show (rnW w b hb r6)[b + 7]? = some (cP 0 287 (r6 7)) from rnW_Rn hl 7 (by decide)) (by omega) (by omega) ?_
  refine T_iload (am_dec tX9_burn_1 25 rfl) rfl ?_
  refine T_iaddW (am_w32 (r6 7 (lamp * 41 + row).toNat + t6)) (am_dec tX9_burn_1 26 rfl) (am_w32e _).symm (am_w32r _) ?_
  refine T_iastore (am_dec tX9_burn_1 27 rfl) (show (rnW w b hb r6)[b + 7]? = some (cP 0 287 (r6 7)) from rnW_Rn hl 7 (by decide)) (by omega) (by omega) ?_
  refine am_wE (w2 := rnW w b hb (am_put r6 7 (((lamp * 41) + row).toNat) (am_w32 (r6 7 (lamp * 41 + row).toNat + t6)))) rnW_p7 ?_
  refine T_aload_n (am_dec tX9_burn_1 28 rfl) rfl ?_
  refine T_getfield 8 9 (am_dec tX9_burn_1 29 rfl) flX9_21_8 (show (rnW w b hb (am_put r6 7 (((lamp * 41) + row).toNat) (am_w32 (r6 7 (lamp * 41 + row).toNat + t6))))[b]? = some (cO 8 [aR hb, aI (r6 0 1), aI (r6 0 2), aI (r6 0 3), aI (r6 0 4), aI (r6 0 5), aR (b + 1), aR (b + 2), aR (b + 3), aR (b + 4), aR (b + 5), aR (b + 6), aR (b + 7), aR (b + 8), aR (b + 9)]) from rnW_Rn hl 0 (by decide)) rfl ?_
  refine T_iload_n (am_dec tX9_burn_1 30 rfl) rfl ?_
  refine T_dup2 (am_dec tX9_burn_1 31 rfl) rfl rfl ?_
  refine T_iaload (am_dec tX9_burn_1 32 rfl) (show (rnW w b hb (am_put r6 7 (((lamp * 41) + row).toNat) (am_w32 (r6 7 (lamp * 41 + row).toNat + t6))))[b + 4]? = some (cP 0 41 (r6 4)) from rnW_Rn hl 4 (by decide)) (by omega) (by omega) ?_
  refine T_iload (am_dec tX9_burn_1 33 rfl) rfl ?_
  refine T_iaddW (am_w32 (r6 4 row.toNat + t6)) (am_dec tX9_burn_1 34 rfl) (am_w32e _).symm (am_w32r _) ?_
  refine T_iastore (am_dec tX9_burn_1 35 rfl) (show (rnW w b hb (am_put r6 7 (((lamp * 41) + row).toNat) (am_w32 (r6 7 (lamp * 41 + row).toNat + t6))))[b + 4]? = some (cP 0 41 (r6 4)) from rnW_Rn hl 4 (by decide)) (by omega) (by omega) ?_
  refine am_wE (w2 := rnW w b hb (am_put (am_put r6 7 (((lamp * 41) + row).toNat) (am_w32 (r6 7 (lamp * 41 + row).toNat + t6))) 4 row.toNat (am_w32 (r6 4 row.toNat + t6)))) rnW_p4 ?_
  exact T_return (am_dec tX9_burn_1 36 rfl) rfl ⟨rfl, by rw [ht6, hr6]; rfl⟩
