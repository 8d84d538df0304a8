/-! two runs stand alike -/
def p_standx (r r2 : am_F) (s y x : Int) : Option Int := if f_fogOn r (x + 10 * y) s = f_fogOn r2 (x + 10 * y) s then none else some 0
def p_stand (r r2 h : am_F) (s y : Int) : Option Int := am_find (p_standx r r2 s y) 0 (h 0 0).toNat
def f_stands (r r2 h : am_F) (s : Int) : Int := (am_find (p_stand r r2 h s) 0 (h 0 1).toNat).getD 1
theorem L_standx {S : am_S} {d u : Nat} {Q : AO → AH → Prop} {w : AH} {b hb : Nat} {r h : am_F} (hR : Rn w b hb r) (hH : Hb w hb h) (hV : HbV h) {o c : Nat} {r2 : am_F} (hR2 : Rn w o c r2) (hF : RnF r) (hF2 : RnF r2) (hd : 2 ≤ d) (s : Int) (y : Int) (hy : 0 ≤ y ∧ y < h 0 1) : ∀ (n : Nat) (x : Int), x + n = h 0 0 → 0 ≤ x → (am_find (p_standx r r2 s y) x n = none → am_T S zX9_standsAs d u Q 63 [some (aR b), some (aR o), some (aI s), some (aI y), some (aI (h 0 0))] [] w) → (∀ r9, am_find (p_standx r r2 s y) x n = some r9 → Q (.inl (some (aI r9))) w) → am_T S zX9_standsAs d u Q 16 [some (aR b), some (aR o), some (aI s), some (aI y), some (aI x)] [] w := by
  have hV9 := hV
  obtain ⟨v1, v2, v3, v4, v5, v6, v7, v8, v9, v10, v11, v12, v13, v14, v15, v16, v17, v18, v19, v20, v21, v22⟩ := hV9
  intro n
  induction n with
  | zero =>
    intro x hi9 h0i k9 kr9
    refine T_iload (am_dec tX9_standsAs_0 9 rfl) rfl ?_
    refine T_aload_n (am_dec tX9_standsAs_0 10 rfl) rfl ?_
    refine T_getfield 8 0 (am_dec tX9_standsAs_0 11 rfl) flX9_43_8 (hR 0 (by decide)) rfl ?_
    refine T_getfield 3 0 (am_dec tX9_standsAs_0 12 rfl) flX9_133_3 (hH 0 (by decide)) rfl ?_
    refine T_icmp_ge 63 (am_dec tX9_standsAs_0 13 rfl) rfl (fun h25 => ?_) (fun h25 => by exfalso; omega)
    have e9 : x = h 0 0 := by omega
    rw [← e9] at k9
    exact k9 rfl
  | succ n ih =>
    intro x hi9 h0i k9 kr9
    refine T_iload (am_dec tX9_standsAs_0 9 rfl) rfl ?_
    refine T_aload_n (am_dec tX9_standsAs_0 10 rfl) rfl ?_
    refine T_getfield 8 0 (am_dec tX9_standsAs_0 11 rfl) flX9_43_8 (hR 0 (by decide)) rfl ?_
    refine T_getfield 3 0 (am_dec tX9_standsAs_0 12 rfl) flX9_133_3 (hH 0 (by decide)) rfl ?_
    refine T_icmp_ge 63 (am_dec tX9_standsAs_0 13 rfl) rfl (fun h25 => by exfalso; omega) (fun h25 => ?_)
    refine T_aload_n (am_dec tX9_standsAs_0 14 rfl) rfl ?_
    refine T_iload (am_dec tX9_standsAs_0 15 rfl) rfl ?_
    refine T_bipush 10 (am_dec tX9_standsAs_0 16 rfl) rfl ⟨by decide, by decide⟩ ?_
    refine T_iload_n (am_dec tX9_standsAs_0 17 rfl) rfl ?_
    refine T_imul (10 * y) (am_dec tX9_standsAs_0 18 rfl) rfl ⟨by omega, by omega⟩ ?_
    refine T_iadd (x + (10 * y)) (am_dec tX9_standsAs_0 19 rfl) rfl ⟨by omega, by omega⟩ ?_
    refine T_iload_n (am_dec tX9_standsAs_0 20 rfl) rfl ?_
    refine T_callV (as := [aI (x + (10 * y)), aI s]) rfl (am_dec tX9_standsAs_0 21 rfl) lkX9_182 (hR 0 (by decide)) rfl rfl (Nat.le_of_ble_eq_true rfl) (by omega) (m_fogOn hR (by omega) (x + (10 * y)) s) (fun _ => ?_)
    refine T_aload_n (am_dec tX9_standsAs_0 22 rfl) rfl ?_
    refine T_iload (am_dec tX9_standsAs_0 23 rfl) rfl ?_
    refine T_bipush 10 (am_dec tX9_standsAs_0 24 rfl) rfl ⟨by decide, by decide⟩ ?_
    refine T_iload_n (am_dec tX9_standsAs_0 25 rfl) rfl ?_
    refine T_imul (10 * y) (am_dec tX9_standsAs_0 26 rfl) rfl ⟨by omega, by omega⟩ ?_
    refine T_iadd (x + (10 * y)) (am_dec tX9_standsAs_0 27 rfl) rfl ⟨by omega, by omega⟩ ?_
    refine T_iload_n (am_dec tX9_standsAs_0 28 rfl) rfl ?_
    refine T_callV (as := [aI (x + (10 * y)), aI s]) rfl (am_dec tX9_standsAs_0 29 rfl) lkX9_182 (hR2 0 (by decide)) rfl rfl (Nat.le_of_ble_eq_true rfl) (by omega) (m_fogOn hR2 (by omega) (x + (10 * y)) s) (fun _ => ?_)
    refine T_icmp_eq 57 (am_dec tX9_standsAs_0 30 rfl) rfl (fun h52 => ?_) (fun h52 => ?_)
    · refine T_iinc (ls' := [some (aR b), some (aR o), some (aI s), some (aI y), some (aI (x + 1))]) (x + 1) (am_dec tX9_standsAs_0 33 rfl) rfl rfl ⟨by omega, by omega⟩ (by decide) rfl ?_
      refine T_goto 16 (am_dec tX9_standsAs_0 34 rfl) rfl ?_
      have e9 : (p_standx r r2 s y) x = none := (by unfold p_standx; first | rw [if_pos (by omega)] | rw [if_neg (by omega)])
      rw [am_find_n e9] at k9 kr9
      exact ih (x + 1) (by omega) (by omega) k9 kr9
    · refine T_iconst 0 (am_dec tX9_standsAs_0 31 rfl) rfl ⟨by decide, by decide⟩ ?_
      exact T_zreturn (am_dec tX9_standsAs_0 32 rfl) rfl (by first | exact Or.inl rfl | exact Or.inr rfl | omega) (kr9 _ (am_find_y (show (p_standx r r2 s y) x = some _ from (by unfold p_standx; first | rw [if_pos (by omega)] | rw [if_neg (by omega)]))))
theorem L_stand {S : am_S} {d u : Nat} {Q : AO → AH → Prop} {w : AH} {b hb : Nat} {r h : am_F} (hR : Rn w b hb r) (hH : Hb w hb h) (hV : HbV h) {o c : Nat} {r2 : am_F} (hR2 : Rn w o c r2) (hF : RnF r) (hF2 : RnF r2) (hd : 2 ≤ d) (s : Int) : ∀ (n : Nat) (y : Int), y + n = h 0 1 → 0 ≤ y → (am_find (p_stand r r2 h s) y n = none → am_T S zX9_standsAs d u Q 69 [some (aR b), some (aR o), some (aI s), some (aI (h 0 1)), none] [] w) → (∀ r9, am_find (p_stand r r2 h s) y n = some r9 → Q (.inl (some (aI r9))) w) → am_T S zX9_standsAs d u Q 2 [some (aR b), some (aR o), some (aI s), some (aI y), none] [] w := by
  have hV9 := hV
  obtain ⟨v1, v2, v3, v4, v5, v6, v7, v8, v9, v10, v11, v12, v13, v14, v15, v16, v17, v18, v19, v20, v21, v22⟩ := hV9
  intro n
  induction n with
  | zero =>
    intro y hi9 h0i k9 kr9
    refine T_iload_n (am_dec tX9_standsAs_0 2 rfl) rfl ?_
    refine T_aload_n (am_dec tX9_standsAs_0 3 rfl) rfl ?_
    refine T_getfield 8 0 (am_dec tX9_standsAs_0 4 rfl) flX9_43_8 (hR 0 (by decide)) rfl ?_
    refine T_getfield 3 1 (am_dec tX9_standsAs_0 5 rfl) flX9_130_3 (hH 0 (by decide)) rfl ?_
    refine T_icmp_ge 69 (am_dec tX9_standsAs_0 6 rfl) rfl (fun h10 => ?_) (fun h10 => by exfalso; omega)
    have e9 : y = h 0 1 := by omega
    rw [← e9] at k9
    exact k9 rfl
  | succ n ih =>
    intro y hi9 h0i k9 kr9
    refine T_iload_n (am_dec tX9_standsAs_0 2 rfl) rfl ?_
    refine T_aload_n (am_dec tX9_standsAs_0 3 rfl) rfl ?_
    refine T_getfield 8 0 (am_dec tX9_standsAs_0 4 rfl) flX9_43_8 (hR 0 (by decide)) rfl ?_
    refine T_getfield 3 1 (am_dec tX9_standsAs_0 5 rfl) flX9_130_3 (hH 0 (by decide)) rfl ?_
    refine T_icmp_ge 69 (am_dec tX9_standsAs_0 6 rfl) rfl (fun h10 => by exfalso; omega) (fun h10 => ?_)
    refine T_iconst 0 (am_dec tX9_standsAs_0 7 rfl) rfl ⟨by decide, by decide⟩ ?_
    refine T_istore (ls' := [some (aR b), some (aR o), some (aI s), some (aI y), some (aI 0)]) (am_dec tX9_standsAs_0 8 rfl) (by decide) rfl ?_
    refine L_standx hR hH hV hR2 hF hF2 hd s y ⟨by omega, by omega⟩ (h 0 0 - 0).toNat 0 (by omega) (by omega) (fun hn16 => ?_) (fun r9 hr9 => (kr9 _ (am_find_y (show p_stand r r2 h s y = some _ from by unfold p_stand; rw [Int.sub_zero] at hr9; exact hr9))))
    refine T_iinc (ls' := [some (aR b), some (aR o), some (aI s), some (aI (y + 1)), some (aI (h 0 0))]) (y + 1) (am_dec tX9_standsAs_0 35 rfl) rfl rfl ⟨by omega, by omega⟩ (by decide) rfl ?_
    refine T_goto 2 (am_dec tX9_standsAs_0 36 rfl) rfl ?_
    refine T_weak (ls' := [some (aR b), some (aR o), some (aI s), some (aI (y + 1)), none]) (am_sub_s (am_sub_s (am_sub_s (am_sub_s (am_sub_n am_sub_nil))))) ?_
    have e9 : (p_stand r r2 h s) y = none := (by unfold p_stand; rw [Int.sub_zero] at hn16; exact hn16)
    rw [am_find_n e9] at k9 kr9
    exact ih (y + 1) (by omega) (by omega) k9 kr9
theorem m_stands {S : am_S} {d u : Nat} {w : AH} {b hb : Nat} {r h : am_F} (hR : Rn w b hb r) (hH : Hb w hb h) (hV : HbV h) {o c : Nat} {r2 : am_F} (hR2 : Rn w o c r2) (hF : RnF r) (hF2 : RnF r2) (hd : 2 ≤ d) (s : Int) : am_Out S zX9_standsAs d u [aR b, aR o, aI s] w (.inl (some (aI (f_stands r r2 h s)))) w := by
  refine am_body rfl (by decide +kernel) rfl (am_cats_cons rfl ( am_cats_cons rfl ( am_cats_cons rfl (am_cats_nil)))) (Nat.le_of_ble_eq_true rfl) (?_ : am_T _ _ _ _ _ 0 [some (aR b), some (aR o), some (aI s), none, none] [] w)
  have hV9 := hV
  obtain ⟨v1, v2, v3, v4, v5, v6, v7, v8, v9, v10, v11, v12, v13, v14, v15, v16, v17, v18, v19, v20, v21, v22⟩ := hV9
  refine T_iconst 0 (am_dec tX9_standsAs_0 0 rfl) rfl ⟨by decide, by decide⟩ ?_
  refine T_istore_n (ls' := [some (aR b), some (aR o), some (aI s), some (aI 0), none]) (am_dec tX9_standsAs_0 1 rfl) (by decide) rfl ?_
  refine L_stand hR hH hV hR2 hF hF2 hd s (h 0 1 - 0).toNat 0 (by omega) (by omega) (fun hn2 => ?_) (fun r9 hr9 => (am_outI (by unfold f_stands; rw [Int.sub_zero] at hr9; rw [hr9]; rfl)))
  refine T_iconst 1 (am_dec tX9_standsAs_0 37 rfl) rfl ⟨by decide, by decide⟩ ?_
  exact T_zreturn (am_dec tX9_standsAs_0 38 rfl) rfl (by first | exact Or.inl rfl | exact Or.inr rfl | omega) (am_outI (by unfold f_stands; rw [Int.sub_zero] at hn2; rw [hn2]; rfl))
