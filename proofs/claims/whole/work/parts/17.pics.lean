/-! pictures: a harbour at b, a run at b with its harbour at h -/
abbrev am_F : Type := Nat → Nat → Int
def hbC (b : Nat) (h : am_F) : Nat → AC
  | 0 => cO 3 [aI (h 0 0), aI (h 0 1), aI (h 0 2), aR (b + 1), aR (b + 3), aR (b + 5), aR (b + 7), aR (b + 9), aR (b + 11), aR (b + 13), aR (b + 15), aR (b + 17), aR (b + 18), aR (b + 19)]
  | 1 => cO 9 [aI 12, aR (b + 2), aI (h 0 3)]
  | 2 => cP 0 48 (h 1)
  | 3 => cO 9 [aI 12, aR (b + 4), aI (h 0 4)]
  | 4 => cP 0 48 (h 2)
  | 5 => cO 9 [aI 6, aR (b + 6), aI (h 0 5)]
  | 6 => cP 0 48 (h 3)
  | 7 => cO 9 [aI 6, aR (b + 8), aI (h 0 6)]
  | 8 => cP 0 48 (h 4)
  | 9 => cO 9 [aI 6, aR (b + 10), aI (h 0 7)]
  | 10 => cP 0 48 (h 5)
  | 11 => cO 9 [aI 4, aR (b + 12), aI (h 0 8)]
  | 12 => cP 0 48 (h 6)
  | 13 => cO 9 [aI 4, aR (b + 14), aI (h 0 9)]
  | 14 => cP 0 48 (h 7)
  | 15 => cO 9 [aI 4, aR (b + 16), aI (h 0 10)]
  | 16 => cP 0 48 (h 8)
  | 17 => cP 0 52 (h 9)
  | 18 => cP 0 90 (h 10)
  | _ => cP 0 90 (h 11)
def Hb (w : AH) (b : Nat) (h : am_F) : Prop := ∀ k, k < 20 → w[b + k]? = some (hbC b h k)
def rnC (b hb : Nat) (r : am_F) : Nat → AC
  | 0 => cO 8 [aR hb, aI (r 0 1), aI (r 0 2), aI (r 0 3), aI (r 0 4), aI (r 0 5), aR (b + 1), aR (b + 2), aR (b + 3), aR (b + 4), aR (b + 5), aR (b + 6), aR (b + 7), aR (b + 8), aR (b + 9)]
  | 1 => cP 0 3690 (r 1)
  | 2 => cP 0 41 (r 2)
  | 3 => cP 0 41 (r 3)
  | 4 => cP 0 41 (r 4)
  | 5 => cP 0 41 (r 5)
  | 6 => cP 0 41 (r 6)
  | 7 => cP 0 287 (r 7)
  | 8 => cP 0 630 (r 8)
  | _ => cP 0 36 (r 9)
def Rn (w : AH) (b hb : Nat) (r : am_F) : Prop := ∀ k, k < 10 → w[b + k]? = some (rnC b hb r k)
def HbV (h : am_F) : Prop := 2 ≤ h 0 0 ∧ h 0 0 ≤ 9 ∧ 2 ≤ h 0 1 ∧ h 0 1 ≤ 9 ∧ 1 ≤ h 0 2 ∧ h 0 2 ≤ 99 ∧ 0 ≤ h 0 3 ∧ h 0 3 ≤ 12 ∧ 0 ≤ h 0 4 ∧ h 0 4 ≤ 12 ∧ 0 ≤ h 0 5 ∧ h 0 5 ≤ 6 ∧ 0 ≤ h 0 6 ∧ h 0 6 ≤ 6 ∧ 0 ≤ h 0 7 ∧ h 0 7 ≤ 6 ∧ 0 ≤ h 0 8 ∧ h 0 8 ≤ 4 ∧ 0 ≤ h 0 9 ∧ h 0 9 ≤ 4 ∧ 0 ≤ h 0 10 ∧ h 0 10 ≤ 4

def f_comes (h : am_F) (k : Int) : Int := f_at (h 0 8) (h 6) k 0
def f_moves (h : am_F) (k : Int) : Int := f_at (h 0 8) (h 6) k 1
def f_floor (h : am_F) (k : Int) : Int := f_at (h 0 7) (h 5) k 0
def f_has (h : am_F) (x y : Int) : Int := if 0 ≤ x ∧ x < h 0 0 ∧ 0 ≤ y ∧ y < h 0 1 then 1 else 0
theorem m_has {S : am_S} {d u : Nat} {w : AH} {b : Nat} {h : am_F} (hH : Hb w b h) (x y : Int) : am_Out S zX3_has d u [aR b, aI x, aI y] w (.inl (some (aI (f_has h x y)))) w := by
  refine am_body rfl (by decide +kernel) rfl (am_cats_cons rfl ( am_cats_cons rfl ( am_cats_cons rfl (am_cats_nil)))) (Nat.le_of_ble_eq_true rfl) (?_ : am_T _ _ _ _ _ 0 [some (aR b), some (aI x), some (aI y)] [] w)
  refine T_iload_n (am_dec tX3_has_0 0 rfl) rfl ?_
  refine T_if_lt 28 (am_dec tX3_has_0 1 rfl) rfl (fun h1 => ?_) (fun h1 => ?_)
  · refine T_iconst 0 (am_dec tX3_has_0 14 rfl) rfl ⟨by decide, by decide⟩ ?_
    exact T_zreturn (am_dec tX3_has_0 15 rfl) rfl (by first | exact Or.inl rfl | exact Or.inr rfl | omega) (am_outI (by unfold f_has; first | rw [if_pos (by omega)] | rw [if_neg (by omega)]))
  · refine T_iload_n (am_dec tX3_has_0 2 rfl) rfl ?_
    refine T_aload_n (am_dec tX3_has_0 3 rfl) rfl ?_
    refine T_getfield 3 0 (am_dec tX3_has_0 4 rfl) flX3_54_3 (hH 0 (by decide)) rfl ?_
    refine T_icmp_ge 28 (am_dec tX3_has_0 5 rfl) rfl (fun h9 => ?_) (fun h9 => ?_)
    · refine T_iconst 0 (am_dec tX3_has_0 14 rfl) rfl ⟨by decide, by decide⟩ ?_
      exact T_zreturn (am_dec tX3_has_0 15 rfl) rfl (by first | exact Or.inl rfl | exact Or.inr rfl | omega) (am_outI (by unfold f_has; first | rw [if_pos (by omega)] | rw [if_neg (by omega)]))
    · refine T_iload_n (am_dec tX3_has_0 6 rfl) rfl ?_
      refine T_if_lt 28 (am_dec tX3_has_0 7 rfl) rfl (fun h13 => ?_) (fun h13 => ?_)
      · refine T_iconst 0 (am_dec tX3_has_0 14 rfl) rfl ⟨by decide, by decide⟩ ?_
        exact T_zreturn (am_dec tX3_has_0 15 rfl) rfl (by first | exact Or.inl rfl | exact Or.inr rfl | omega) (am_outI (by unfold f_has; first | rw [if_pos (by omega)] | rw [if_neg (by omega)]))
      · refine T_iload_n (am_dec tX3_has_0 8 rfl) rfl ?_
        refine T_aload_n (am_dec tX3_has_0 9 rfl) rfl ?_
        refine T_getfield 3 1 (am_dec tX3_has_0 10 rfl) flX3_58_3 (hH 0 (by decide)) rfl ?_
        refine T_icmp_ge 28 (am_dec tX3_has_0 11 rfl) rfl (fun h21 => ?_) (fun h21 => ?_)
        · refine T_iconst 0 (am_dec tX3_has_0 14 rfl) rfl ⟨by decide, by decide⟩ ?_
          exact T_zreturn (am_dec tX3_has_0 15 rfl) rfl (by first | exact Or.inl rfl | exact Or.inr rfl | omega) (am_outI (by unfold f_has; first | rw [if_pos (by omega)] | rw [if_neg (by omega)]))
        · refine T_iconst 1 (am_dec tX3_has_0 12 rfl) rfl ⟨by decide, by decide⟩ ?_
          refine T_goto 29 (am_dec tX3_has_0 13 rfl) rfl ?_
          exact T_zreturn (am_dec tX3_has_0 15 rfl) rfl (by first | exact Or.inl rfl | exact Or.inr rfl | omega) (am_outI (by unfold f_has; first | rw [if_pos (by omega)] | rw [if_neg (by omega)]))
def f_lotOn (h : am_F) (c : Int) : Int := if 0 ≤ c ∧ c < 90 then h 10 c.toNat else -1
theorem m_lotOn {S : am_S} {d u : Nat} {w : AH} {b : Nat} {h : am_F} (hH : Hb w b h) (c : Int) : am_Out S zX3_lotOn d u [aR b, aI c] w (.inl (some (aI (f_lotOn h c)))) w := by
  refine am_body rfl (by decide +kernel) rfl (am_cats_cons rfl ( am_cats_cons rfl (am_cats_nil))) (Nat.le_of_ble_eq_true rfl) (?_ : am_T _ _ _ _ _ 0 [some (aR b), some (aI c)] [] w)
  refine T_iload_n (am_dec tX3_lotOn_0 0 rfl) rfl ?_
  refine T_if_lt 19 (am_dec tX3_lotOn_0 1 rfl) rfl (fun h1 => ?_) (fun h1 => ?_)
  · refine T_iconst (-1) (am_dec tX3_lotOn_0 10 rfl) rfl ⟨by decide, by decide⟩ ?_
    exact T_ireturn (am_dec tX3_lotOn_0 11 rfl) rfl (am_outI (by unfold f_lotOn; first | rw [if_pos (by omega)] | rw [if_neg (by omega)]))
  · refine T_iload_n (am_dec tX3_lotOn_0 2 rfl) rfl ?_
    refine T_bipush 90 (am_dec tX3_lotOn_0 3 rfl) rfl ⟨by decide, by decide⟩ ?_
    refine T_icmp_ge 19 (am_dec tX3_lotOn_0 4 rfl) rfl (fun h7 => ?_) (fun h7 => ?_)
    · refine T_iconst (-1) (am_dec tX3_lotOn_0 10 rfl) rfl ⟨by decide, by decide⟩ ?_
      exact T_ireturn (am_dec tX3_lotOn_0 11 rfl) rfl (am_outI (by unfold f_lotOn; first | rw [if_pos (by omega)] | rw [if_neg (by omega)]))
    · refine T_aload_n (am_dec tX3_lotOn_0 5 rfl) rfl ?_
      refine T_getfield 3 12 (am_dec tX3_lotOn_0 6 rfl) flX3_45_3 (hH 0 (by decide)) rfl ?_
      refine T_iload_n (am_dec tX3_lotOn_0 7 rfl) rfl ?_
      refine T_iaload (am_dec tX3_lotOn_0 8 rfl) (hH 18 (by decide)) (by omega) (by omega) ?_
      refine T_goto 20 (am_dec tX3_lotOn_0 9 rfl) rfl ?_
      exact T_ireturn (am_dec tX3_lotOn_0 11 rfl) rfl (am_outI (by unfold f_lotOn; first | rw [if_pos (by omega)] | rw [if_neg (by omega)]))
def f_pathAt (h : am_F) (k m : Int) : Int := if 0 ≤ k ∧ k < 4 ∧ 0 ≤ m ∧ m ≤ 12 then h 9 (k * 13 + m).toNat else -1
theorem m_pathAt {S : am_S} {d u : Nat} {w : AH} {b : Nat} {h : am_F} (hH : Hb w b h) (k m : Int) : am_Out S zX3_pathAt d u [aR b, aI k, aI m] w (.inl (some (aI (f_pathAt h k m)))) w := by
  refine am_body rfl (by decide +kernel) rfl (am_cats_cons rfl ( am_cats_cons rfl ( am_cats_cons rfl (am_cats_nil)))) (Nat.le_of_ble_eq_true rfl) (?_ : am_T _ _ _ _ _ 0 [some (aR b), some (aI k), some (aI m), none] [] w)
  refine T_iload_n (am_dec tX3_pathAt_0 0 rfl) rfl ?_
  refine T_if_lt 23 (am_dec tX3_pathAt_0 1 rfl) rfl (fun h1 => ?_) (fun h1 => ?_)
  · refine T_iconst 0 (am_dec tX3_pathAt_0 12 rfl) rfl ⟨by decide, by decide⟩ ?_
    refine T_istore_n (ls' := [some (aR b), some (aI k), some (aI m), some (aI 0)]) (am_dec tX3_pathAt_0 13 rfl) (by decide) rfl ?_
    refine T_iload_n (am_dec tX3_pathAt_0 14 rfl) rfl ?_
    refine T_if_eq 43 (am_dec tX3_pathAt_0 15 rfl) rfl (fun h26 => ?_) (fun h26 => by exfalso; omega)
    refine T_iconst (-1) (am_dec tX3_pathAt_0 25 rfl) rfl ⟨by decide, by decide⟩ ?_
    exact T_ireturn (am_dec tX3_pathAt_0 26 rfl) rfl (am_outI (by unfold f_pathAt; first | rw [if_pos (by omega)] | rw [if_neg (by omega)]))
  · refine T_iload_n (am_dec tX3_pathAt_0 2 rfl) rfl ?_
    refine T_iconst 4 (am_dec tX3_pathAt_0 3 rfl) rfl ⟨by decide, by decide⟩ ?_
    refine T_icmp_ge 23 (am_dec tX3_pathAt_0 4 rfl) rfl (fun h6 => ?_) (fun h6 => ?_)
    · refine T_iconst 0 (am_dec tX3_pathAt_0 12 rfl) rfl ⟨by decide, by decide⟩ ?_
      refine T_istore_n (ls' := [some (aR b), some (aI k), some (aI m), some (aI 0)]) (am_dec tX3_pathAt_0 13 rfl) (by decide) rfl ?_
      refine T_iload_n (am_dec tX3_pathAt_0 14 rfl) rfl ?_
      refine T_if_eq 43 (am_dec tX3_pathAt_0 15 rfl) rfl (fun h26 => ?_) (fun h26 => by exfalso; omega)
      refine T_iconst (-1) (am_dec tX3_pathAt_0 25 rfl) rfl ⟨by decide, by decide⟩ ?_
      exact T_ireturn (am_dec tX3_pathAt_0 26 rfl) rfl (am_outI (by unfold f_pathAt; first | rw [if_pos (by omega)] | rw [if_neg (by omega)]))
    · refine T_iload_n (am_dec tX3_pathAt_0 5 rfl) rfl ?_
      refine T_if_lt 23 (am_dec tX3_pathAt_0 6 rfl) rfl (fun h10 => ?_) (fun h10 => ?_)
      · refine T_iconst 0 (am_dec tX3_pathAt_0 12 rfl) rfl ⟨by decide, by decide⟩ ?_
        refine T_istore_n (ls' := [some (aR b), some (aI k), some (aI m), some (aI 0)]) (am_dec tX3_pathAt_0 13 rfl) (by decide) rfl ?_
        refine T_iload_n (am_dec tX3_pathAt_0 14 rfl) rfl ?_
        refine T_if_eq 43 (am_dec tX3_pathAt_0 15 rfl) rfl (fun h26 => ?_) (fun h26 => by exfalso; omega)
        refine T_iconst (-1) (am_dec tX3_pathAt_0 25 rfl) rfl ⟨by decide, by decide⟩ ?_
        exact T_ireturn (am_dec tX3_pathAt_0 26 rfl) rfl (am_outI (by unfold f_pathAt; first | rw [if_pos (by omega)] | rw [if_neg (by omega)]))
      · refine T_iload_n (am_dec tX3_pathAt_0 7 rfl) rfl ?_
        refine T_bipush 12 (am_dec tX3_pathAt_0 8 rfl) rfl ⟨by decide, by decide⟩ ?_
        refine T_icmp_gt 23 (am_dec tX3_pathAt_0 9 rfl) rfl (fun h16 => ?_) (fun h16 => ?_)
        · refine T_iconst 0 (am_dec tX3_pathAt_0 12 rfl) rfl ⟨by decide, by decide⟩ ?_
          refine T_istore_n (ls' := [some (aR b), some (aI k), some (aI m), some (aI 0)]) (am_dec tX3_pathAt_0 13 rfl) (by decide) rfl ?_
          refine T_iload_n (am_dec tX3_pathAt_0 14 rfl) rfl ?_
          refine T_if_eq 43 (am_dec tX3_pathAt_0 15 rfl) rfl (fun h26 => ?_) (fun h26 => by exfalso; omega)
          refine T_iconst (-1) (am_dec tX3_pathAt_0 25 rfl) rfl ⟨by decide, by decide⟩ ?_
          exact T_ireturn (am_dec tX3_pathAt_0 26 rfl) rfl (am_outI (by unfold f_pathAt; first | rw [if_pos (by omega)] | rw [if_neg (by omega)]))
        · refine T_iconst 1 (am_dec tX3_pathAt_0 10 rfl) rfl ⟨by decide, by decide⟩ ?_
          refine T_goto 24 (am_dec tX3_pathAt_0 11 rfl) rfl ?_
          refine T_istore_n (ls' := [some (aR b), some (aI k), some (aI m), some (aI 1)]) (am_dec tX3_pathAt_0 13 rfl) (by decide) rfl ?_
          refine T_iload_n (am_dec tX3_pathAt_0 14 rfl) rfl ?_
          refine T_if_eq 43 (am_dec tX3_pathAt_0 15 rfl) rfl (fun h26 => by exfalso; omega) (fun h26 => ?_)
          refine T_aload_n (am_dec tX3_pathAt_0 16 rfl) rfl ?_
          refine T_getfield 3 11 (am_dec tX3_pathAt_0 17 rfl) flX3_41_3 (hH 0 (by decide)) rfl ?_
          refine T_iload_n (am_dec tX3_pathAt_0 18 rfl) rfl ?_
          refine T_bipush 13 (am_dec tX3_pathAt_0 19 rfl) rfl ⟨by decide, by decide⟩ ?_
          refine T_imul (k * 13) (am_dec tX3_pathAt_0 20 rfl) rfl ⟨by omega, by omega⟩ ?_
          refine T_iload_n (am_dec tX3_pathAt_0 21 rfl) rfl ?_
          refine T_iadd ((k * 13) + m) (am_dec tX3_pathAt_0 22 rfl) rfl ⟨by omega, by omega⟩ ?_
          refine T_iaload (am_dec tX3_pathAt_0 23 rfl) (hH 17 (by decide)) (by omega) (by omega) ?_
          refine T_goto 44 (am_dec tX3_pathAt_0 24 rfl) rfl ?_
          exact T_ireturn (am_dec tX3_pathAt_0 26 rfl) rfl (am_outI (by unfold f_pathAt; first | rw [if_pos (by omega)] | rw [if_neg (by omega)]))
theorem m_floorOf {S : am_S} {d u : Nat} {w : AH} {b : Nat} {h : am_F} (hH : Hb w b h) (hm : h 0 7 ≤ 12) (hd : 1 ≤ d) (k : Int) : am_Out S zX3_floorOf d u [aR b, aI k] w (.inl (some (aI (f_floor h k)))) w := by
  refine am_body rfl (by decide +kernel) rfl (am_cats_cons rfl ( am_cats_cons rfl (am_cats_nil))) (Nat.le_of_ble_eq_true rfl) (?_ : am_T _ _ _ _ _ 0 [some (aR b), some (aI k)] [] w)
  refine T_aload_n (am_dec tX3_floorOf_0 0 rfl) rfl ?_
  refine T_getfield 3 7 (am_dec tX3_floorOf_0 1 rfl) flX3_29_3 (hH 0 (by decide)) rfl ?_
  refine T_iload_n (am_dec tX3_floorOf_0 2 rfl) rfl ?_
  refine T_iconst 0 (am_dec tX3_floorOf_0 3 rfl) rfl ⟨by decide, by decide⟩ ?_
  refine T_callV (as := [aI k, aI 0]) rfl (am_dec tX3_floorOf_0 4 rfl) lkX3_73 (hH 9 (by decide)) rfl rfl (Nat.le_of_ble_eq_true rfl) (by omega) (m_at (f := h 5) (hH 9 (by decide)) (hH 10 (by decide)) (by omega) k 0) (fun _ => ?_)
  exact T_ireturn (am_dec tX3_floorOf_0 5 rfl) rfl (am_outI rfl)
theorem m_comes {S : am_S} {d u : Nat} {w : AH} {b : Nat} {h : am_F} (hH : Hb w b h) (hm : h 0 8 ≤ 12) (hd : 1 ≤ d) (k : Int) : am_Out S zX3_comes d u [aR b, aI k] w (.inl (some (aI (f_comes h k)))) w := by
  refine am_body rfl (by decide +kernel) rfl (am_cats_cons rfl ( am_cats_cons rfl (am_cats_nil))) (Nat.le_of_ble_eq_true rfl) (?_ : am_T _ _ _ _ _ 0 [some (aR b), some (aI k)] [] w)
  refine T_aload_n (am_dec tX3_comes_0 0 rfl) rfl ?_
  refine T_getfield 3 8 (am_dec tX3_comes_0 1 rfl) flX3_32_3 (hH 0 (by decide)) rfl ?_
  refine T_iload_n (am_dec tX3_comes_0 2 rfl) rfl ?_
  refine T_iconst 0 (am_dec tX3_comes_0 3 rfl) rfl ⟨by decide, by decide⟩ ?_
  refine T_callV (as := [aI k, aI 0]) rfl (am_dec tX3_comes_0 4 rfl) lkX3_73 (hH 11 (by decide)) rfl rfl (Nat.le_of_ble_eq_true rfl) (by omega) (m_at (f := h 6) (hH 11 (by decide)) (hH 12 (by decide)) (by omega) k 0) (fun _ => ?_)
  exact T_ireturn (am_dec tX3_comes_0 5 rfl) rfl (am_outI rfl)
theorem m_movesOf {S : am_S} {d u : Nat} {w : AH} {b : Nat} {h : am_F} (hH : Hb w b h) (hm : h 0 8 ≤ 12) (hd : 1 ≤ d) (k : Int) : am_Out S zX3_movesOf d u [aR b, aI k] w (.inl (some (aI (f_moves h k)))) w := by
  refine am_body rfl (by decide +kernel) rfl (am_cats_cons rfl ( am_cats_cons rfl (am_cats_nil))) (Nat.le_of_ble_eq_true rfl) (?_ : am_T _ _ _ _ _ 0 [some (aR b), some (aI k)] [] w)
  refine T_aload_n (am_dec tX3_movesOf_0 0 rfl) rfl ?_
  refine T_getfield 3 8 (am_dec tX3_movesOf_0 1 rfl) flX3_32_3 (hH 0 (by decide)) rfl ?_
  refine T_iload_n (am_dec tX3_movesOf_0 2 rfl) rfl ?_
  refine T_iconst 1 (am_dec tX3_movesOf_0 3 rfl) rfl ⟨by decide, by decide⟩ ?_
  refine T_callV (as := [aI k, aI 1]) rfl (am_dec tX3_movesOf_0 4 rfl) lkX3_73 (hH 11 (by decide)) rfl rfl (Nat.le_of_ble_eq_true rfl) (by omega) (m_at (f := h 6) (hH 11 (by decide)) (hH 12 (by decide)) (by omega) k 1) (fun _ => ?_)
  exact T_ireturn (am_dec tX3_movesOf_0 5 rfl) rfl (am_outI rfl)
def f_isStep (s : Int) : Int := if -1 ≤ s ∧ s < 40 then 1 else 0
theorem m_isStep {S : am_S} {d u : Nat} {w : AH} (s : Int) : am_Out S zX9_isStep d u [aI s] w (.inl (some (aI (f_isStep s)))) w := by
  refine am_body rfl (by decide +kernel) rfl (am_cats_cons rfl (am_cats_nil)) (Nat.le_of_ble_eq_true rfl) (?_ : am_T _ _ _ _ _ 0 [some (aI s)] [] w)
  refine T_iload_n (am_dec tX9_isStep_0 0 rfl) rfl ?_
  refine T_iconst (-1) (am_dec tX9_isStep_0 1 rfl) rfl ⟨by decide, by decide⟩ ?_
  refine T_icmp_lt 15 (am_dec tX9_isStep_0 2 rfl) rfl (fun h2 => ?_) (fun h2 => ?_)
  · refine T_iconst 0 (am_dec tX9_isStep_0 8 rfl) rfl ⟨by decide, by decide⟩ ?_
    exact T_zreturn (am_dec tX9_isStep_0 9 rfl) rfl (by first | exact Or.inl rfl | exact Or.inr rfl | omega) (am_outI (by unfold f_isStep; first | rw [if_pos (by omega)] | rw [if_neg (by omega)]))
  · refine T_iload_n (am_dec tX9_isStep_0 3 rfl) rfl ?_
    refine T_bipush 40 (am_dec tX9_isStep_0 4 rfl) rfl ⟨by decide, by decide⟩ ?_
    refine T_icmp_ge 15 (am_dec tX9_isStep_0 5 rfl) rfl (fun h8 => ?_) (fun h8 => ?_)
    · refine T_iconst 0 (am_dec tX9_isStep_0 8 rfl) rfl ⟨by decide, by decide⟩ ?_
      exact T_zreturn (am_dec tX9_isStep_0 9 rfl) rfl (by first | exact Or.inl rfl | exact Or.inr rfl | omega) (am_outI (by unfold f_isStep; first | rw [if_pos (by omega)] | rw [if_neg (by omega)]))
    · refine T_iconst 1 (am_dec tX9_isStep_0 6 rfl) rfl ⟨by decide, by decide⟩ ?_
      refine T_goto 16 (am_dec tX9_isStep_0 7 rfl) rfl ?_
      exact T_zreturn (am_dec tX9_isStep_0 9 rfl) rfl (by first | exact Or.inl rfl | exact Or.inr rfl | omega) (am_outI (by unfold f_isStep; first | rw [if_pos (by omega)] | rw [if_neg (by omega)]))
def f_fogOn (r : am_F) (c s : Int) : Int := if (-1 ≤ s ∧ s < 40) ∧ 0 ≤ c ∧ c < 90 then r 1 ((s + 1) * 90 + c).toNat else 0
theorem m_fogOn {S : am_S} {d u : Nat} {w : AH} {b hb : Nat} {r : am_F} (hR : Rn w b hb r) (hd : 1 ≤ d) (c s : Int) : am_Out S zX9_fogOn d u [aR b, aI c, aI s] w (.inl (some (aI (f_fogOn r c s)))) w := by
  refine am_body rfl (by decide +kernel) rfl (am_cats_cons rfl ( am_cats_cons rfl ( am_cats_cons rfl (am_cats_nil)))) (Nat.le_of_ble_eq_true rfl) (?_ : am_T _ _ _ _ _ 0 [some (aR b), some (aI c), some (aI s)] [] w)
  refine T_iload_n (am_dec tX9_fogOn_0 0 rfl) rfl ?_
  refine T_callS (as := [aI s]) rfl (am_dec tX9_fogOn_0 1 rfl) lkX9_172 rfl (Nat.le_of_ble_eq_true rfl) (by omega) (m_isStep s) (fun _ => ?_)
  obtain ⟨e1, he1⟩ : ∃ x9 : Int, x9 = f_isStep s := ⟨_, rfl⟩
  rw [← he1]
  unfold f_isStep at he1
  refine T_if_eq 33 (am_dec tX9_fogOn_0 2 rfl) rfl (fun h4 => ?_) (fun h4 => ?_)
  · refine T_iconst 0 (am_dec tX9_fogOn_0 19 rfl) rfl ⟨by decide, by decide⟩ ?_
    exact T_ireturn (am_dec tX9_fogOn_0 20 rfl) rfl (am_outI (by unfold f_fogOn; first | rw [if_pos (by omega)] | rw [if_neg (by omega)]))
  · refine T_iload_n (am_dec tX9_fogOn_0 3 rfl) rfl ?_
    refine T_if_lt 33 (am_dec tX9_fogOn_0 4 rfl) rfl (fun h8 => ?_) (fun h8 => ?_)
    · refine T_iconst 0 (am_dec tX9_fogOn_0 19 rfl) rfl ⟨by decide, by decide⟩ ?_
      exact T_ireturn (am_dec tX9_fogOn_0 20 rfl) rfl (am_outI (by unfold f_fogOn; first | rw [if_pos (by omega)] | rw [if_neg (by omega)]))
    · refine T_iload_n (am_dec tX9_fogOn_0 5 rfl) rfl ?_
      refine T_bipush 90 (am_dec tX9_fogOn_0 6 rfl) rfl ⟨by decide, by decide⟩ ?_
      refine T_icmp_ge 33 (am_dec tX9_fogOn_0 7 rfl) rfl (fun h14 => ?_) (fun h14 => ?_)
      · refine T_iconst 0 (am_dec tX9_fogOn_0 19 rfl) rfl ⟨by decide, by decide⟩ ?_
        exact T_ireturn (am_dec tX9_fogOn_0 20 rfl) rfl (am_outI (by unfold f_fogOn; first | rw [if_pos (by omega)] | rw [if_neg (by omega)]))
      · refine T_aload_n (am_dec tX9_fogOn_0 8 rfl) rfl ?_
        refine T_getfield 8 6 (am_dec tX9_fogOn_0 9 rfl) flX9_11_8 (hR 0 (by decide)) rfl ?_
        refine T_iload_n (am_dec tX9_fogOn_0 10 rfl) rfl ?_
        refine T_iconst 1 (am_dec tX9_fogOn_0 11 rfl) rfl ⟨by decide, by decide⟩ ?_
        refine T_iadd (s + 1) (am_dec tX9_fogOn_0 12 rfl) rfl ⟨by omega, by omega⟩ ?_
        refine T_bipush 90 (am_dec tX9_fogOn_0 13 rfl) rfl ⟨by decide, by decide⟩ ?_
        refine T_imul ((s + 1) * 90) (am_dec tX9_fogOn_0 14 rfl) rfl ⟨by omega, by omega⟩ ?_
        refine T_iload_n (am_dec tX9_fogOn_0 15 rfl) rfl ?_
        refine T_iadd (((s + 1) * 90) + c) (am_dec tX9_fogOn_0 16 rfl) rfl ⟨by omega, by omega⟩ ?_
        refine T_iaload (am_dec tX9_fogOn_0 17 rfl) (hR 1 (by decide)) (by omega) (by omega) ?_
        refine T_goto 34 (am_dec tX9_fogOn_0 18 rfl) rfl ?_
        exact T_ireturn (am_dec tX9_fogOn_0 20 rfl) rfl (am_outI (by unfold f_fogOn; first | rw [if_pos (by omega)] | rw [if_neg (by omega)]))
