/-! a run's reads over its harbour -/
def RnF (r : am_F) : Prop := ∀ j, 0 ≤ r 1 j ∧ r 1 j ≤ 99
theorem f_fogOn_b {r : am_F} (h : RnF r) (c s : Int) : 0 ≤ f_fogOn r c s ∧ f_fogOn r c s ≤ 99 := by
  unfold f_fogOn
  split
  · exact h _
  · omega
def g_inLotx (r h : am_F) (lot step y : Int) (x acc : Int) : Int := if f_lotOn h (x + 10 * y) = lot then acc + f_fogOn r (x + 10 * y) step else acc
def g_inLot (r h : am_F) (lot step : Int) (y acc : Int) : Int := am_fold (g_inLotx r h lot step y) 0 (h 0 0).toNat acc
def f_inLot (r h : am_F) (lot step : Int) : Int := am_fold (g_inLot r h lot step) 0 (h 0 1).toNat 0
theorem L_inLotx {S : am_S} {d u : Nat} {Q : AO → AH → Prop} {w : AH} {b hb : Nat} {r h : am_F} (hR : Rn w b hb r) (hH : Hb w hb h) (hV : HbV h) (hF : RnF r) (hd : 2 ≤ d) (lot step y M : Int) (hy : 0 ≤ y ∧ y < h 0 1) (hM : 0 ≤ M ∧ M ≤ 100000) : ∀ (n : Nat) (x : Int) (acc : Int), x + n = h 0 0 → 0 ≤ x → 0 ≤ acc ∧ acc ≤ M + 99 * x → (∀ (acc' : Int), acc' = am_fold (g_inLotx r h lot step y) x n acc → 0 ≤ acc' ∧ acc' ≤ M + 99 * (h 0 0) → am_T S zX9_inLot d u Q 73 [some (aR b), some (aI lot), some (aI step), some (aI acc'), some (aI y), some (aI (h 0 0))] [] (w)) → am_T S zX9_inLot d u Q 20 [some (aR b), some (aI lot), some (aI step), some (aI acc), some (aI y), some (aI x)] [] (w) := by
  have hV9 := hV
  obtain ⟨v1, v2, v3, v4, v5, v6, v7, v8, v9, v10, v11, v12, v13, v14, v15, v16, v17, v18, v19, v20, v21, v22⟩ := hV9
  intro n
  induction n with
  | zero =>
    intro x acc hi9 h0i hinv k9
    refine T_iload (am_dec tX9_inLot_0 11 rfl) rfl ?_
    refine T_aload_n (am_dec tX9_inLot_0 12 rfl) rfl ?_
    refine T_getfield 8 0 (am_dec tX9_inLot_0 13 rfl) flX9_43_8 (hR 0 (by decide)) rfl ?_
    refine T_getfield 3 0 (am_dec tX9_inLot_0 14 rfl) flX9_133_3 (hH 0 (by decide)) rfl ?_
    refine T_icmp_ge 73 (am_dec tX9_inLot_0 15 rfl) rfl (fun h29 => ?_) (fun h29 => by exfalso; omega)
    have e9 : x = h 0 0 := by omega
    rw [← e9] at k9
    exact k9 acc rfl (by first | exact hinv | omega)
  | succ n ih =>
    intro x acc hi9 h0i hinv k9
    refine T_iload (am_dec tX9_inLot_0 11 rfl) rfl ?_
    refine T_aload_n (am_dec tX9_inLot_0 12 rfl) rfl ?_
    refine T_getfield 8 0 (am_dec tX9_inLot_0 13 rfl) flX9_43_8 (hR 0 (by decide)) rfl ?_
    refine T_getfield 3 0 (am_dec tX9_inLot_0 14 rfl) flX9_133_3 (hH 0 (by decide)) rfl ?_
    refine T_icmp_ge 73 (am_dec tX9_inLot_0 15 rfl) rfl (fun h29 => by exfalso; omega) (fun h29 => ?_)
    refine T_aload_n (am_dec tX9_inLot_0 16 rfl) rfl ?_
    refine T_getfield 8 0 (am_dec tX9_inLot_0 17 rfl) flX9_43_8 (hR 0 (by decide)) rfl ?_
    refine T_iload (am_dec tX9_inLot_0 18 rfl) rfl ?_
    refine T_bipush 10 (am_dec tX9_inLot_0 19 rfl) rfl ⟨by decide, by decide⟩ ?_
    refine T_iload (am_dec tX9_inLot_0 20 rfl) rfl ?_
    refine T_imul (10 * y) (am_dec tX9_inLot_0 21 rfl) rfl ⟨by omega, by omega⟩ ?_
    refine T_iadd (x + (10 * y)) (am_dec tX9_inLot_0 22 rfl) rfl ⟨by omega, by omega⟩ ?_
    refine T_callV (as := [aI (x + (10 * y))]) rfl (am_dec tX9_inLot_0 23 rfl) lkX9_144 (hH 0 (by decide)) rfl rfl (Nat.le_of_ble_eq_true rfl) (by omega) (m_lotOn hH (x + (10 * y))) (fun _ => ?_)
    refine T_iload_n (am_dec tX9_inLot_0 24 rfl) rfl ?_
    refine T_icmp_ne 67 (am_dec tX9_inLot_0 25 rfl) rfl (fun h48 => ?_) (fun h48 => ?_)
    · refine T_iinc (ls' := [some (aR b), some (aI lot), some (aI step), some (aI acc), some (aI y), some (aI (x + 1))]) (x + 1) (am_dec tX9_inLot_0 37 rfl) rfl rfl ⟨by omega, by omega⟩ (by decide) rfl ?_
      refine T_goto 20 (am_dec tX9_inLot_0 38 rfl) rfl ?_
      have e9 : (g_inLotx r h lot step y) x acc = acc := (by unfold g_inLotx; first | rw [if_pos (by omega)] | rw [if_neg (by omega)])
      simp only [am_fold_s, e9] at k9
      exact ih (x + 1) acc (by omega) (by omega) (by omega) k9
    · refine T_iload_n (am_dec tX9_inLot_0 26 rfl) rfl ?_
      refine T_aload_n (am_dec tX9_inLot_0 27 rfl) rfl ?_
      refine T_iload (am_dec tX9_inLot_0 28 rfl) rfl ?_
      refine T_bipush 10 (am_dec tX9_inLot_0 29 rfl) rfl ⟨by decide, by decide⟩ ?_
      refine T_iload (am_dec tX9_inLot_0 30 rfl) rfl ?_
      refine T_imul (10 * y) (am_dec tX9_inLot_0 31 rfl) rfl ⟨by omega, by omega⟩ ?_
      refine T_iadd (x + (10 * y)) (am_dec tX9_inLot_0 32 rfl) rfl ⟨by omega, by omega⟩ ?_
      refine T_iload_n (am_dec tX9_inLot_0 33 rfl) rfl ?_
      obtain ⟨p62, q62⟩ := f_fogOn_b hF (x + (10 * y)) step
      refine T_callV (as := [aI (x + (10 * y)), aI step]) rfl (am_dec tX9_inLot_0 34 rfl) lkX9_182 (hR 0 (by decide)) rfl rfl (Nat.le_of_ble_eq_true rfl) (by omega) (m_fogOn hR (by omega) (x + (10 * y)) step) (fun _ => ?_)
      refine T_iadd (acc + (f_fogOn r (x + (10 * y)) step)) (am_dec tX9_inLot_0 35 rfl) rfl ⟨by omega, by omega⟩ ?_
      refine T_istore_n (ls' := [some (aR b), some (aI lot), some (aI step), some (aI (acc + (f_fogOn r (x + (10 * y)) step))), some (aI y), some (aI x)]) (am_dec tX9_inLot_0 36 rfl) (by decide) rfl ?_
      refine T_iinc (ls' := [some (aR b), some (aI lot), some (aI step), some (aI (acc + (f_fogOn r (x + (10 * y)) step))), some (aI y), some (aI (x + 1))]) (x + 1) (am_dec tX9_inLot_0 37 rfl) rfl rfl ⟨by omega, by omega⟩ (by decide) rfl ?_
      refine T_goto 20 (am_dec tX9_inLot_0 38 rfl) rfl ?_
      have e9 : (g_inLotx r h lot step y) x acc = acc + (f_fogOn r (x + (10 * y)) step) := (by unfold g_inLotx; first | rw [if_pos (by omega)] | rw [if_neg (by omega)])
      simp only [am_fold_s, e9] at k9
      exact ih (x + 1) (acc + (f_fogOn r (x + (10 * y)) step)) (by omega) (by omega) (by omega) k9
theorem L_inLot {S : am_S} {d u : Nat} {Q : AO → AH → Prop} {w : AH} {b hb : Nat} {r h : am_F} (hR : Rn w b hb r) (hH : Hb w hb h) (hV : HbV h) (hF : RnF r) (hd : 2 ≤ d) (lot step : Int) : ∀ (n : Nat) (y : Int) (acc : Int), y + n = h 0 1 → 0 ≤ y → 0 ≤ acc ∧ acc ≤ 891 * y → (∀ (acc' : Int), acc' = am_fold (g_inLot r h lot step) y n acc → 0 ≤ acc' ∧ acc' ≤ 891 * (h 0 1) → am_T S zX9_inLot d u Q 79 [some (aR b), some (aI lot), some (aI step), some (aI acc'), some (aI (h 0 1)), none] [] (w)) → am_T S zX9_inLot d u Q 5 [some (aR b), some (aI lot), some (aI step), some (aI acc), some (aI y), none] [] (w) := by
  have hV9 := hV
  obtain ⟨v1, v2, v3, v4, v5, v6, v7, v8, v9, v10, v11, v12, v13, v14, v15, v16, v17, v18, v19, v20, v21, v22⟩ := hV9
  intro n
  induction n with
  | zero =>
    intro y acc hi9 h0i hinv k9
    refine T_iload (am_dec tX9_inLot_0 4 rfl) rfl ?_
    refine T_aload_n (am_dec tX9_inLot_0 5 rfl) rfl ?_
    refine T_getfield 8 0 (am_dec tX9_inLot_0 6 rfl) flX9_43_8 (hR 0 (by decide)) rfl ?_
    refine T_getfield 3 1 (am_dec tX9_inLot_0 7 rfl) flX9_130_3 (hH 0 (by decide)) rfl ?_
    refine T_icmp_ge 79 (am_dec tX9_inLot_0 8 rfl) rfl (fun h14 => ?_) (fun h14 => by exfalso; omega)
    have e9 : y = h 0 1 := by omega
    rw [← e9] at k9
    exact k9 acc rfl (by first | exact hinv | omega)
  | succ n ih =>
    intro y acc hi9 h0i hinv k9
    refine T_iload (am_dec tX9_inLot_0 4 rfl) rfl ?_
    refine T_aload_n (am_dec tX9_inLot_0 5 rfl) rfl ?_
    refine T_getfield 8 0 (am_dec tX9_inLot_0 6 rfl) flX9_43_8 (hR 0 (by decide)) rfl ?_
    refine T_getfield 3 1 (am_dec tX9_inLot_0 7 rfl) flX9_130_3 (hH 0 (by decide)) rfl ?_
    refine T_icmp_ge 79 (am_dec tX9_inLot_0 8 rfl) rfl (fun h14 => by exfalso; omega) (fun h14 => ?_)
    refine T_iconst 0 (am_dec tX9_inLot_0 9 rfl) rfl ⟨by decide, by decide⟩ ?_
    refine T_istore (ls' := [some (aR b), some (aI lot), some (aI step), some (aI acc), some (aI y), some (aI 0)]) (am_dec tX9_inLot_0 10 rfl) (by decide) rfl ?_
    refine L_inLotx hR hH hV hF hd lot step y acc ⟨by omega, by omega⟩ ⟨by omega, by omega⟩ (h 0 0 - 0).toNat 0 acc (by omega) (by omega) (by omega) (fun acc20 hacc20 hv20 => ?_)
    refine T_iinc (ls' := [some (aR b), some (aI lot), some (aI step), some (aI acc20), some (aI (y + 1)), some (aI (h 0 0))]) (y + 1) (am_dec tX9_inLot_0 39 rfl) rfl rfl ⟨by omega, by omega⟩ (by decide) rfl ?_
    refine T_goto 5 (am_dec tX9_inLot_1 0 rfl) rfl ?_
    refine T_weak (ls' := [some (aR b), some (aI lot), some (aI step), some (aI acc20), some (aI (y + 1)), none]) (am_sub_s (am_sub_s (am_sub_s (am_sub_s (am_sub_s (am_sub_n am_sub_nil)))))) ?_
    have e9 : (g_inLot r h lot step) y acc = acc20 := (by unfold g_inLot; rw [hacc20, Int.sub_zero])
    simp only [am_fold_s, e9] at k9
    exact ih (y + 1) acc20 (by omega) (by omega) (by omega) k9
theorem m_inLot {S : am_S} {d u : Nat} {w : AH} {b hb : Nat} {r h : am_F} (hR : Rn w b hb r) (hH : Hb w hb h) (hV : HbV h) (hF : RnF r) (hd : 2 ≤ d) (lot step : Int) : am_Out S zX9_inLot d u [aR b, aI lot, aI step] w (.inl (some (aI (f_inLot r h lot step)))) w := by
  refine am_body rfl (by decide +kernel) rfl (am_cats_cons rfl ( am_cats_cons rfl ( am_cats_cons rfl (am_cats_nil)))) (Nat.le_of_ble_eq_true rfl) (?_ : am_T _ _ _ _ _ 0 [some (aR b), some (aI lot), some (aI step), none, none, none] [] w)
  have hV9 := hV
  obtain ⟨v1, v2, v3, v4, v5, v6, v7, v8, v9, v10, v11, v12, v13, v14, v15, v16, v17, v18, v19, v20, v21, v22⟩ := hV9
  refine T_iconst 0 (am_dec tX9_inLot_0 0 rfl) rfl ⟨by decide, by decide⟩ ?_
  refine T_istore_n (ls' := [some (aR b), some (aI lot), some (aI step), some (aI 0), none, none]) (am_dec tX9_inLot_0 1 rfl) (by decide) rfl ?_
  refine T_iconst 0 (am_dec tX9_inLot_0 2 rfl) rfl ⟨by decide, by decide⟩ ?_
  refine T_istore (ls' := [some (aR b), some (aI lot), some (aI step), some (aI 0), some (aI 0), none]) (am_dec tX9_inLot_0 3 rfl) (by decide) rfl ?_
  refine L_inLot hR hH hV hF hd lot step (h 0 1 - 0).toNat 0 0 (by omega) (by omega) (by omega) (fun acc5 hacc5 hv5 => ?_)
  refine T_iload_n (am_dec tX9_inLot_1 1 rfl) rfl ?_
  exact T_ireturn (am_dec tX9_inLot_1 2 rfl) rfl (am_outI (by rw [hacc5]; unfold f_inLot; rw [Int.sub_zero]))
def p_letsIn (r h : am_F) (k s : Int) (y : Int) : Option Int := if f_at (h 0 10) (h 8) k 1 < f_fogOn r (f_at (h 0 10) (h 8) k 0 + 10 * y) s then some 0 else none
def f_letsIn (r h : am_F) (k s : Int) : Int := (am_find (p_letsIn r h k s) 0 (h 0 1).toNat).getD 1
/-- what is told of a table lies within -/
def TbV (many : Int) (f : Nat → Int) (k : Int) : Prop := ∀ i : Int, -100000 ≤ f_at many f i k ∧ f_at many f i k ≤ 100000
theorem L_letsIn {S : am_S} {d u : Nat} {Q : AO → AH → Prop} {w : AH} {b hb : Nat} {r h : am_F} (hR : Rn w b hb r) (hH : Hb w hb h) (hV : HbV h) (hF : RnF r) (hd : 2 ≤ d) (k s : Int) (hT : TbV (h 0 10) (h 8) 0) : ∀ (n : Nat) (y : Int), y + n = h 0 1 → 0 ≤ y → (am_find (p_letsIn r h k s) y n = none → am_T S zX9_letsIn d u Q 58 [some (aR b), some (aI k), some (aI s), some (aI (h 0 1))] [] w) → (∀ r9, am_find (p_letsIn r h k s) y n = some r9 → Q (.inl (some (aI r9))) w) → am_T S zX9_letsIn d u Q 2 [some (aR b), some (aI k), some (aI s), some (aI y)] [] w := by
  have hV9 := hV
  obtain ⟨v1, v2, v3, v4, v5, v6, v7, v8, v9, v10, v11, v12, v13, v14, v15, v16, v17, v18, v19, v20, v21, v22⟩ := hV9
  obtain ⟨t1, t2⟩ := hT k
  intro n
  induction n with
  | zero =>
    intro y hi9 h0i k9 kr9
    refine T_iload_n (am_dec tX9_letsIn_0 2 rfl) rfl ?_
    refine T_aload_n (am_dec tX9_letsIn_0 3 rfl) rfl ?_
    refine T_getfield 8 0 (am_dec tX9_letsIn_0 4 rfl) flX9_43_8 (hR 0 (by decide)) rfl ?_
    refine T_getfield 3 1 (am_dec tX9_letsIn_0 5 rfl) flX9_130_3 (hH 0 (by decide)) rfl ?_
    refine T_icmp_ge 58 (am_dec tX9_letsIn_0 6 rfl) rfl (fun h10 => ?_) (fun h10 => by exfalso; omega)
    have e9 : y = h 0 1 := by omega
    rw [← e9] at k9
    exact k9 rfl
  | succ n ih =>
    intro y hi9 h0i k9 kr9
    refine T_iload_n (am_dec tX9_letsIn_0 2 rfl) rfl ?_
    refine T_aload_n (am_dec tX9_letsIn_0 3 rfl) rfl ?_
    refine T_getfield 8 0 (am_dec tX9_letsIn_0 4 rfl) flX9_43_8 (hR 0 (by decide)) rfl ?_
    refine T_getfield 3 1 (am_dec tX9_letsIn_0 5 rfl) flX9_130_3 (hH 0 (by decide)) rfl ?_
    refine T_icmp_ge 58 (am_dec tX9_letsIn_0 6 rfl) rfl (fun h10 => by exfalso; omega) (fun h10 => ?_)
    refine T_aload_n (am_dec tX9_letsIn_0 7 rfl) rfl ?_
    refine T_aload_n (am_dec tX9_letsIn_0 8 rfl) rfl ?_
    refine T_getfield 8 0 (am_dec tX9_letsIn_0 9 rfl) flX9_43_8 (hR 0 (by decide)) rfl ?_
    refine T_getfield 3 10 (am_dec tX9_letsIn_0 10 rfl) flX9_185_3 (hH 0 (by decide)) rfl ?_
    refine T_iload_n (am_dec tX9_letsIn_0 11 rfl) rfl ?_
    refine T_iconst 0 (am_dec tX9_letsIn_0 12 rfl) rfl ⟨by decide, by decide⟩ ?_
    refine T_callV (as := [aI k, aI 0]) rfl (am_dec tX9_letsIn_0 13 rfl) lkX9_124 (hH 15 (by decide)) rfl rfl (Nat.le_of_ble_eq_true rfl) (by omega) (m_at (hH 15 (by decide)) (hH 16 (by decide)) (by omega) k 0) (fun _ => ?_)
    refine T_bipush 10 (am_dec tX9_letsIn_0 14 rfl) rfl ⟨by decide, by decide⟩ ?_
    refine T_iload_n (am_dec tX9_letsIn_0 15 rfl) rfl ?_
    refine T_imul (10 * y) (am_dec tX9_letsIn_0 16 rfl) rfl ⟨by omega, by omega⟩ ?_
    refine T_iadd ((f_at (h 0 10) (h 8) k 0) + (10 * y)) (am_dec tX9_letsIn_0 17 rfl) rfl ⟨by omega, by omega⟩ ?_
    refine T_iload_n (am_dec tX9_letsIn_0 18 rfl) rfl ?_
    obtain ⟨p32, q32⟩ := f_fogOn_b hF ((f_at (h 0 10) (h 8) k 0) + (10 * y)) s
    refine T_callV (as := [aI ((f_at (h 0 10) (h 8) k 0) + (10 * y)), aI s]) rfl (am_dec tX9_letsIn_0 19 rfl) lkX9_182 (hR 0 (by decide)) rfl rfl (Nat.le_of_ble_eq_true rfl) (by omega) (m_fogOn hR (by omega) ((f_at (h 0 10) (h 8) k 0) + (10 * y)) s) (fun _ => ?_)
    refine T_aload_n (am_dec tX9_letsIn_0 20 rfl) rfl ?_
    refine T_getfield 8 0 (am_dec tX9_letsIn_0 21 rfl) flX9_43_8 (hR 0 (by decide)) rfl ?_
    refine T_getfield 3 10 (am_dec tX9_letsIn_0 22 rfl) flX9_185_3 (hH 0 (by decide)) rfl ?_
    refine T_iload_n (am_dec tX9_letsIn_0 23 rfl) rfl ?_
    refine T_iconst 1 (am_dec tX9_letsIn_0 24 rfl) rfl ⟨by decide, by decide⟩ ?_
    refine T_callV (as := [aI k, aI 1]) rfl (am_dec tX9_letsIn_0 25 rfl) lkX9_124 (hH 15 (by decide)) rfl rfl (Nat.le_of_ble_eq_true rfl) (by omega) (m_at (hH 15 (by decide)) (hH 16 (by decide)) (by omega) k 1) (fun _ => ?_)
    refine T_icmp_le 52 (am_dec tX9_letsIn_0 26 rfl) rfl (fun h47 => ?_) (fun h47 => ?_)
    · refine T_iinc (ls' := [some (aR b), some (aI k), some (aI s), some (aI (y + 1))]) (y + 1) (am_dec tX9_letsIn_0 29 rfl) rfl rfl ⟨by omega, by omega⟩ (by decide) rfl ?_
      refine T_goto 2 (am_dec tX9_letsIn_0 30 rfl) rfl ?_
      have e9 : (p_letsIn r h k s) y = none := (by unfold p_letsIn; first | rw [if_pos (by omega)] | rw [if_neg (by omega)])
      rw [am_find_n e9] at k9 kr9
      exact ih (y + 1) (by omega) (by omega) k9 kr9
    · refine T_iconst 0 (am_dec tX9_letsIn_0 27 rfl) rfl ⟨by decide, by decide⟩ ?_
      exact T_zreturn (am_dec tX9_letsIn_0 28 rfl) rfl (by first | exact Or.inl rfl | exact Or.inr rfl | omega) (kr9 _ (am_find_y (show (p_letsIn r h k s) y = some _ from (by unfold p_letsIn; first | rw [if_pos (by omega)] | rw [if_neg (by omega)]))))
theorem m_letsIn {S : am_S} {d u : Nat} {w : AH} {b hb : Nat} {r h : am_F} (hR : Rn w b hb r) (hH : Hb w hb h) (hV : HbV h) (hF : RnF r) (hd : 2 ≤ d) (k s : Int) (hT : TbV (h 0 10) (h 8) 0) : am_Out S zX9_letsIn d u [aR b, aI k, aI s] w (.inl (some (aI (f_letsIn r h k s)))) w := by
  refine am_body rfl (by decide +kernel) rfl (am_cats_cons rfl ( am_cats_cons rfl ( am_cats_cons rfl (am_cats_nil)))) (Nat.le_of_ble_eq_true rfl) (?_ : am_T _ _ _ _ _ 0 [some (aR b), some (aI k), some (aI s), none] [] w)
  have hV9 := hV
  obtain ⟨v1, v2, v3, v4, v5, v6, v7, v8, v9, v10, v11, v12, v13, v14, v15, v16, v17, v18, v19, v20, v21, v22⟩ := hV9
  refine T_iconst 0 (am_dec tX9_letsIn_0 0 rfl) rfl ⟨by decide, by decide⟩ ?_
  refine T_istore_n (ls' := [some (aR b), some (aI k), some (aI s), some (aI 0)]) (am_dec tX9_letsIn_0 1 rfl) (by decide) rfl ?_
  refine L_letsIn hR hH hV hF hd k s hT (h 0 1 - 0).toNat 0 (by omega) (by omega) (fun hn2 => ?_) (fun r9 hr9 => (am_outI (by unfold f_letsIn; rw [Int.sub_zero] at hr9; rw [hr9]; rfl)))
  refine T_iconst 1 (am_dec tX9_letsIn_0 31 rfl) rfl ⟨by decide, by decide⟩ ?_
  exact T_zreturn (am_dec tX9_letsIn_0 32 rfl) rfl (by first | exact Or.inl rfl | exact Or.inr rfl | omega) (am_outI (by unfold f_letsIn; rw [Int.sub_zero] at hn2; rw [hn2]; rfl))
