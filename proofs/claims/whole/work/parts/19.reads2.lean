/-! the JDK's small ones; reads of a harbour and of a run -/
theorem m_compare {S : am_S} {d u : Nat} {w : AH} (a b : Int) : am_Out S zJ6_compare_7cf53 d u [aI a, aI b] w (.inl (some (aI (if a < b then -1 else if a = b then 0 else 1)))) w := by
  refine am_body rfl (by decide +kernel) rfl (am_cats_cons rfl ( am_cats_cons rfl (am_cats_nil))) (Nat.le_of_ble_eq_true rfl) (?_ : am_T _ _ _ _ _ 0 [some (aI a), some (aI b)] [] w)
  refine T_iload_n (am_dec tJ6_compare_7cf53_0 0 rfl) rfl ?_
  refine T_iload_n (am_dec tJ6_compare_7cf53_0 1 rfl) rfl ?_
  refine T_icmp_ge 9 (am_dec tJ6_compare_7cf53_0 2 rfl) rfl (fun h2 => ?_) (fun h2 => ?_)
  · refine T_iload_n (am_dec tJ6_compare_7cf53_0 5 rfl) rfl ?_
    refine T_iload_n (am_dec tJ6_compare_7cf53_0 6 rfl) rfl ?_
    refine T_icmp_ne 18 (am_dec tJ6_compare_7cf53_0 7 rfl) rfl (fun h11 => ?_) (fun h11 => ?_)
    · refine T_iconst 1 (am_dec tJ6_compare_7cf53_0 10 rfl) rfl ⟨by decide, by decide⟩ ?_
      exact T_ireturn (am_dec tJ6_compare_7cf53_0 11 rfl) rfl (am_outI (by split <;> first | omega | (split <;> omega)))
    · refine T_iconst 0 (am_dec tJ6_compare_7cf53_0 8 rfl) rfl ⟨by decide, by decide⟩ ?_
      refine T_goto 19 (am_dec tJ6_compare_7cf53_0 9 rfl) rfl ?_
      exact T_ireturn (am_dec tJ6_compare_7cf53_0 11 rfl) rfl (am_outI (by split <;> first | omega | (split <;> omega)))
  · refine T_iconst (-1) (am_dec tJ6_compare_7cf53_0 3 rfl) rfl ⟨by decide, by decide⟩ ?_
    refine T_goto 19 (am_dec tJ6_compare_7cf53_0 4 rfl) rfl ?_
    exact T_ireturn (am_dec tJ6_compare_7cf53_0 11 rfl) rfl (am_outI (by split <;> first | omega | (split <;> omega)))
/-- what is told of walkers, lots: their numbers lie within -/
def HbW (h : am_F) : Prop := ∀ k : Int, (0 ≤ f_comes h k ∧ f_comes h k < 40) ∧ 0 ≤ f_moves h k ∧ f_moves h k ≤ 12
def f_leaves (h : am_F) (k : Int) : Int := if f_comes h k + f_moves h k < 39 then f_comes h k + f_moves h k else 39
theorem m_leaves {S : am_S} {d u : Nat} {w : AH} {b : Nat} {h : am_F} (hH : Hb w b h) (hV : HbV h) (hW : HbW h) (hd : 2 ≤ d) (k : Int) : am_Out S zX3_leaves d u [aR b, aI k] w (.inl (some (aI (f_leaves h k)))) w := by
  refine am_body rfl (by decide +kernel) rfl (am_cats_cons rfl ( am_cats_cons rfl (am_cats_nil))) (Nat.le_of_ble_eq_true rfl) (?_ : am_T _ _ _ _ _ 0 [some (aR b), some (aI k)] [] w)
  have hV9 := hV
  obtain ⟨v1, v2, v3, v4, v5, v6, v7, v8, v9, v10, v11, v12, v13, v14, v15, v16, v17, v18, v19, v20, v21, v22⟩ := hV9
  obtain ⟨⟨w1, w2⟩, w3, w4⟩ := hW k
  refine T_bipush 39 (am_dec tX3_leaves_0 0 rfl) rfl ⟨by decide, by decide⟩ ?_
  refine T_aload_n (am_dec tX3_leaves_0 1 rfl) rfl ?_
  refine T_iload_n (am_dec tX3_leaves_0 2 rfl) rfl ?_
  refine T_callV (as := [aI k]) rfl (am_dec tX3_leaves_0 3 rfl) lkX3_77 (hH 0 (by decide)) rfl rfl (Nat.le_of_ble_eq_true rfl) (by omega) (m_comes hH (by omega) (by omega) k) (fun _ => ?_)
  refine T_aload_n (am_dec tX3_leaves_0 4 rfl) rfl ?_
  refine T_iload_n (am_dec tX3_leaves_0 5 rfl) rfl ?_
  refine T_callV (as := [aI k]) rfl (am_dec tX3_leaves_0 6 rfl) lkX3_81 (hH 0 (by decide)) rfl rfl (Nat.le_of_ble_eq_true rfl) (by omega) (m_movesOf hH (by omega) (by omega) k) (fun _ => ?_)
  refine T_iadd ((f_comes h k) + (f_moves h k)) (am_dec tX3_leaves_0 7 rfl) rfl ⟨by omega, by omega⟩ ?_
  refine T_mmin (am_dec tX3_leaves_0 8 rfl) lkX3_84 (Nat.le_of_ble_eq_true rfl) (by omega) ?_
  obtain ⟨m13, hm13⟩ : ∃ x9 : Int, x9 = (if (f_comes h k) + (f_moves h k) < 39 then (f_comes h k) + (f_moves h k) else 39) := ⟨_, rfl⟩
  rw [← hm13]
  exact T_ireturn (am_dec tX3_leaves_0 9 rfl) rfl (am_outI (by unfold f_leaves; omega))
def f_cellOf (h : am_F) (k s : Int) : Int := if f_comes h k ≤ s ∧ s ≤ f_leaves h k then f_pathAt h k (s - f_comes h k) else -1
theorem m_cellOf {S : am_S} {d u : Nat} {w : AH} {b : Nat} {h : am_F} (hH : Hb w b h) (hV : HbV h) (hW : HbW h) (hd : 3 ≤ d) (k s : Int) : am_Out S zX3_cellOf d u [aR b, aI k, aI s] w (.inl (some (aI (f_cellOf h k s)))) w := by
  refine am_body rfl (by decide +kernel) rfl (am_cats_cons rfl ( am_cats_cons rfl ( am_cats_cons rfl (am_cats_nil)))) (Nat.le_of_ble_eq_true rfl) (?_ : am_T _ _ _ _ _ 0 [some (aR b), some (aI k), some (aI s), none] [] w)
  have hV9 := hV
  obtain ⟨v1, v2, v3, v4, v5, v6, v7, v8, v9, v10, v11, v12, v13, v14, v15, v16, v17, v18, v19, v20, v21, v22⟩ := hV9
  obtain ⟨⟨w1, w2⟩, w3, w4⟩ := hW k
  have w5 : f_leaves h k ≤ 39 := by unfold f_leaves; omega
  refine T_iload_n (am_dec tX3_cellOf_0 0 rfl) rfl ?_
  refine T_aload_n (am_dec tX3_cellOf_0 1 rfl) rfl ?_
  refine T_iload_n (am_dec tX3_cellOf_0 2 rfl) rfl ?_
  refine T_callV (as := [aI k]) rfl (am_dec tX3_cellOf_0 3 rfl) lkX3_77 (hH 0 (by decide)) rfl rfl (Nat.le_of_ble_eq_true rfl) (by omega) (m_comes hH (by omega) (by omega) k) (fun _ => ?_)
  refine T_icmp_lt 22 (am_dec tX3_cellOf_0 4 rfl) rfl (fun h6 => ?_) (fun h6 => ?_)
  · refine T_iconst 0 (am_dec tX3_cellOf_0 12 rfl) rfl ⟨by decide, by decide⟩ ?_
    refine T_istore_n (ls' := [some (aR b), some (aI k), some (aI s), some (aI 0)]) (am_dec tX3_cellOf_0 13 rfl) (by decide) rfl ?_
    refine T_iload_n (am_dec tX3_cellOf_0 14 rfl) rfl ?_
    refine T_if_eq 43 (am_dec tX3_cellOf_0 15 rfl) rfl (fun h25 => ?_) (fun h25 => by exfalso; omega)
    refine T_iconst (-1) (am_dec tX3_cellOf_0 25 rfl) rfl ⟨by decide, by decide⟩ ?_
    exact T_ireturn (am_dec tX3_cellOf_0 26 rfl) rfl (am_outI (by unfold f_cellOf; first | rw [if_pos (by omega)] | rw [if_neg (by omega)]))
  · refine T_iload_n (am_dec tX3_cellOf_0 5 rfl) rfl ?_
    refine T_aload_n (am_dec tX3_cellOf_0 6 rfl) rfl ?_
    refine T_iload_n (am_dec tX3_cellOf_0 7 rfl) rfl ?_
    refine T_callV (as := [aI k]) rfl (am_dec tX3_cellOf_0 8 rfl) lkX3_89 (hH 0 (by decide)) rfl rfl (Nat.le_of_ble_eq_true rfl) (by omega) (m_leaves hH hV hW (by omega) k) (fun _ => ?_)
    refine T_icmp_gt 22 (am_dec tX3_cellOf_0 9 rfl) rfl (fun h15 => ?_) (fun h15 => ?_)
    · refine T_iconst 0 (am_dec tX3_cellOf_0 12 rfl) rfl ⟨by decide, by decide⟩ ?_
      refine T_istore_n (ls' := [some (aR b), some (aI k), some (aI s), some (aI 0)]) (am_dec tX3_cellOf_0 13 rfl) (by decide) rfl ?_
      refine T_iload_n (am_dec tX3_cellOf_0 14 rfl) rfl ?_
      refine T_if_eq 43 (am_dec tX3_cellOf_0 15 rfl) rfl (fun h25 => ?_) (fun h25 => by exfalso; omega)
      refine T_iconst (-1) (am_dec tX3_cellOf_0 25 rfl) rfl ⟨by decide, by decide⟩ ?_
      exact T_ireturn (am_dec tX3_cellOf_0 26 rfl) rfl (am_outI (by unfold f_cellOf; first | rw [if_pos (by omega)] | rw [if_neg (by omega)]))
    · refine T_iconst 1 (am_dec tX3_cellOf_0 10 rfl) rfl ⟨by decide, by decide⟩ ?_
      refine T_goto 23 (am_dec tX3_cellOf_0 11 rfl) rfl ?_
      refine T_istore_n (ls' := [some (aR b), some (aI k), some (aI s), some (aI 1)]) (am_dec tX3_cellOf_0 13 rfl) (by decide) rfl ?_
      refine T_iload_n (am_dec tX3_cellOf_0 14 rfl) rfl ?_
      refine T_if_eq 43 (am_dec tX3_cellOf_0 15 rfl) rfl (fun h25 => by exfalso; omega) (fun h25 => ?_)
      refine T_aload_n (am_dec tX3_cellOf_0 16 rfl) rfl ?_
      refine T_iload_n (am_dec tX3_cellOf_0 17 rfl) rfl ?_
      refine T_iload_n (am_dec tX3_cellOf_0 18 rfl) rfl ?_
      refine T_aload_n (am_dec tX3_cellOf_0 19 rfl) rfl ?_
      refine T_iload_n (am_dec tX3_cellOf_0 20 rfl) rfl ?_
      refine T_callV (as := [aI k]) rfl (am_dec tX3_cellOf_0 21 rfl) lkX3_77 (hH 0 (by decide)) rfl rfl (Nat.le_of_ble_eq_true rfl) (by omega) (m_comes hH (by omega) (by omega) k) (fun _ => ?_)
      refine T_isub (s - (f_comes h k)) (am_dec tX3_cellOf_0 22 rfl) rfl ⟨by omega, by omega⟩ ?_
      refine T_callV (as := [aI k, aI (s - (f_comes h k))]) rfl (am_dec tX3_cellOf_0 23 rfl) lkX3_92 (hH 0 (by decide)) rfl rfl (Nat.le_of_ble_eq_true rfl) (by omega) (m_pathAt hH k (s - (f_comes h k))) (fun _ => ?_)
      refine T_goto 44 (am_dec tX3_cellOf_0 24 rfl) rfl ?_
      exact T_ireturn (am_dec tX3_cellOf_0 26 rfl) rfl (am_outI (by unfold f_cellOf; first | rw [if_pos (by omega)] | rw [if_neg (by omega)]))
def f_movedIn (r : am_F) (s : Int) : Int := if -1 ≤ s ∧ s < 40 then r 6 (s + 1).toNat else 0
theorem m_movedIn {S : am_S} {d u : Nat} {w : AH} {b hb : Nat} {r : am_F} (hR : Rn w b hb r) (hd : 1 ≤ d) (s : Int) : am_Out S zX9_movedIn d u [aR b, aI s] w (.inl (some (aI (f_movedIn r s)))) w := by
  refine am_body rfl (by decide +kernel) rfl (am_cats_cons rfl ( am_cats_cons rfl (am_cats_nil))) (Nat.le_of_ble_eq_true rfl) (?_ : am_T _ _ _ _ _ 0 [some (aR b), some (aI s)] [] w)
  refine T_iload_n (am_dec tX9_movedIn_0 0 rfl) rfl ?_
  refine T_callS (as := [aI s]) rfl (am_dec tX9_movedIn_0 1 rfl) lkX9_172 rfl (Nat.le_of_ble_eq_true rfl) (by omega) (m_isStep s) (fun _ => ?_)
  obtain ⟨e1, he1⟩ : ∃ x9 : Int, x9 = f_isStep s := ⟨_, rfl⟩
  rw [← he1]
  unfold f_isStep at he1
  refine T_if_eq 18 (am_dec tX9_movedIn_0 2 rfl) rfl (fun h4 => ?_) (fun h4 => ?_)
  · refine T_iconst 0 (am_dec tX9_movedIn_0 10 rfl) rfl ⟨by decide, by decide⟩ ?_
    exact T_ireturn (am_dec tX9_movedIn_0 11 rfl) rfl (am_outI (by unfold f_movedIn; first | rw [if_pos (by omega)] | rw [if_neg (by omega)]))
  · refine T_aload_n (am_dec tX9_movedIn_0 3 rfl) rfl ?_
    refine T_getfield 8 11 (am_dec tX9_movedIn_0 4 rfl) flX9_27_8 (hR 0 (by decide)) rfl ?_
    refine T_iload_n (am_dec tX9_movedIn_0 5 rfl) rfl ?_
    refine T_iconst 1 (am_dec tX9_movedIn_0 6 rfl) rfl ⟨by decide, by decide⟩ ?_
    refine T_iadd (s + 1) (am_dec tX9_movedIn_0 7 rfl) rfl ⟨by omega, by omega⟩ ?_
    refine T_iaload (am_dec tX9_movedIn_0 8 rfl) (hR 6 (by decide)) (by omega) (by omega) ?_
    refine T_goto 19 (am_dec tX9_movedIn_0 9 rfl) rfl ?_
    exact T_ireturn (am_dec tX9_movedIn_0 11 rfl) rfl (am_outI (by unfold f_movedIn; first | rw [if_pos (by omega)] | rw [if_neg (by omega)]))
def f_ledTo (r : am_F) (l s : Int) : Int := if (-1 ≤ s ∧ s < 40) ∧ 0 ≤ l ∧ l < 7 then r 7 (l * 41 + s + 1).toNat else 0
theorem m_ledTo {S : am_S} {d u : Nat} {w : AH} {b hb : Nat} {r : am_F} (hR : Rn w b hb r) (hd : 1 ≤ d) (l s : Int) : am_Out S zX9_ledTo d u [aR b, aI l, aI s] w (.inl (some (aI (f_ledTo r l s)))) w := by
  refine am_body rfl (by decide +kernel) rfl (am_cats_cons rfl ( am_cats_cons rfl ( am_cats_cons rfl (am_cats_nil)))) (Nat.le_of_ble_eq_true rfl) (?_ : am_T _ _ _ _ _ 0 [some (aR b), some (aI l), some (aI s)] [] w)
  refine T_iload_n (am_dec tX9_ledTo_0 0 rfl) rfl ?_
  refine T_callS (as := [aI s]) rfl (am_dec tX9_ledTo_0 1 rfl) lkX9_172 rfl (Nat.le_of_ble_eq_true rfl) (by omega) (m_isStep s) (fun _ => ?_)
  obtain ⟨e1, he1⟩ : ∃ x9 : Int, x9 = f_isStep s := ⟨_, rfl⟩
  rw [← he1]
  unfold f_isStep at he1
  refine T_if_eq 33 (am_dec tX9_ledTo_0 2 rfl) rfl (fun h4 => ?_) (fun h4 => ?_)
  · refine T_iconst 0 (am_dec tX9_ledTo_0 19 rfl) rfl ⟨by decide, by decide⟩ ?_
    exact T_ireturn (am_dec tX9_ledTo_0 20 rfl) rfl (am_outI (by unfold f_ledTo; first | rw [if_pos (by omega)] | rw [if_neg (by omega)]))
  · refine T_iload_n (am_dec tX9_ledTo_0 3 rfl) rfl ?_
    refine T_if_lt 33 (am_dec tX9_ledTo_0 4 rfl) rfl (fun h8 => ?_) (fun h8 => ?_)
    · refine T_iconst 0 (am_dec tX9_ledTo_0 19 rfl) rfl ⟨by decide, by decide⟩ ?_
      exact T_ireturn (am_dec tX9_ledTo_0 20 rfl) rfl (am_outI (by unfold f_ledTo; first | rw [if_pos (by omega)] | rw [if_neg (by omega)]))
    · refine T_iload_n (am_dec tX9_ledTo_0 5 rfl) rfl ?_
      refine T_bipush 7 (am_dec tX9_ledTo_0 6 rfl) rfl ⟨by decide, by decide⟩ ?_
      refine T_icmp_ge 33 (am_dec tX9_ledTo_0 7 rfl) rfl (fun h14 => ?_) (fun h14 => ?_)
      · refine T_iconst 0 (am_dec tX9_ledTo_0 19 rfl) rfl ⟨by decide, by decide⟩ ?_
        exact T_ireturn (am_dec tX9_ledTo_0 20 rfl) rfl (am_outI (by unfold f_ledTo; first | rw [if_pos (by omega)] | rw [if_neg (by omega)]))
      · refine T_aload_n (am_dec tX9_ledTo_0 8 rfl) rfl ?_
        refine T_getfield 8 12 (am_dec tX9_ledTo_0 9 rfl) flX9_30_8 (hR 0 (by decide)) rfl ?_
        refine T_iload_n (am_dec tX9_ledTo_0 10 rfl) rfl ?_
        refine T_bipush 41 (am_dec tX9_ledTo_0 11 rfl) rfl ⟨by decide, by decide⟩ ?_
        refine T_imul (l * 41) (am_dec tX9_ledTo_0 12 rfl) rfl ⟨by omega, by omega⟩ ?_
        refine T_iload_n (am_dec tX9_ledTo_0 13 rfl) rfl ?_
        refine T_iadd ((l * 41) + s) (am_dec tX9_ledTo_0 14 rfl) rfl ⟨by omega, by omega⟩ ?_
        refine T_iconst 1 (am_dec tX9_ledTo_0 15 rfl) rfl ⟨by decide, by decide⟩ ?_
        refine T_iadd (((l * 41) + s) + 1) (am_dec tX9_ledTo_0 16 rfl) rfl ⟨by omega, by omega⟩ ?_
        refine T_iaload (am_dec tX9_ledTo_0 17 rfl) (hR 7 (by decide)) (by omega) (by omega) ?_
        refine T_goto 34 (am_dec tX9_ledTo_0 18 rfl) rfl ?_
        exact T_ireturn (am_dec tX9_ledTo_0 20 rfl) rfl (am_outI (by unfold f_ledTo; first | rw [if_pos (by omega)] | rw [if_neg (by omega)]))
def f_burntOn (r : am_F) (l c : Int) : Int := if 0 ≤ l ∧ l < 7 ∧ 0 ≤ c ∧ c < 90 then r 8 (l * 90 + c).toNat else 0
theorem m_burntOn {S : am_S} {d u : Nat} {w : AH} {b hb : Nat} {r : am_F} (hR : Rn w b hb r) (l c : Int) : am_Out S zX9_burntOn d u [aR b, aI l, aI c] w (.inl (some (aI (f_burntOn r l c)))) w := by
  refine am_body rfl (by decide +kernel) rfl (am_cats_cons rfl ( am_cats_cons rfl ( am_cats_cons rfl (am_cats_nil)))) (Nat.le_of_ble_eq_true rfl) (?_ : am_T _ _ _ _ _ 0 [some (aR b), some (aI l), some (aI c), none] [] w)
  refine T_iload_n (am_dec tX9_burntOn_0 0 rfl) rfl ?_
  refine T_if_lt 24 (am_dec tX9_burntOn_0 1 rfl) rfl (fun h1 => ?_) (fun h1 => ?_)
  · refine T_iconst 0 (am_dec tX9_burntOn_0 12 rfl) rfl ⟨by decide, by decide⟩ ?_
    refine T_istore_n (ls' := [some (aR b), some (aI l), some (aI c), some (aI 0)]) (am_dec tX9_burntOn_0 13 rfl) (by decide) rfl ?_
    refine T_iload_n (am_dec tX9_burntOn_0 14 rfl) rfl ?_
    refine T_if_eq 44 (am_dec tX9_burntOn_0 15 rfl) rfl (fun h27 => ?_) (fun h27 => by exfalso; omega)
    refine T_iconst 0 (am_dec tX9_burntOn_0 25 rfl) rfl ⟨by decide, by decide⟩ ?_
    exact T_ireturn (am_dec tX9_burntOn_0 26 rfl) rfl (am_outI (by unfold f_burntOn; first | rw [if_pos (by omega)] | rw [if_neg (by omega)]))
  · refine T_iload_n (am_dec tX9_burntOn_0 2 rfl) rfl ?_
    refine T_bipush 7 (am_dec tX9_burntOn_0 3 rfl) rfl ⟨by decide, by decide⟩ ?_
    refine T_icmp_ge 24 (am_dec tX9_burntOn_0 4 rfl) rfl (fun h7 => ?_) (fun h7 => ?_)
    · refine T_iconst 0 (am_dec tX9_burntOn_0 12 rfl) rfl ⟨by decide, by decide⟩ ?_
      refine T_istore_n (ls' := [some (aR b), some (aI l), some (aI c), some (aI 0)]) (am_dec tX9_burntOn_0 13 rfl) (by decide) rfl ?_
      refine T_iload_n (am_dec tX9_burntOn_0 14 rfl) rfl ?_
      refine T_if_eq 44 (am_dec tX9_burntOn_0 15 rfl) rfl (fun h27 => ?_) (fun h27 => by exfalso; omega)
      refine T_iconst 0 (am_dec tX9_burntOn_0 25 rfl) rfl ⟨by decide, by decide⟩ ?_
      exact T_ireturn (am_dec tX9_burntOn_0 26 rfl) rfl (am_outI (by unfold f_burntOn; first | rw [if_pos (by omega)] | rw [if_neg (by omega)]))
    · refine T_iload_n (am_dec tX9_burntOn_0 5 rfl) rfl ?_
      refine T_if_lt 24 (am_dec tX9_burntOn_0 6 rfl) rfl (fun h11 => ?_) (fun h11 => ?_)
      · refine T_iconst 0 (am_dec tX9_burntOn_0 12 rfl) rfl ⟨by decide, by decide⟩ ?_
        refine T_istore_n (ls' := [some (aR b), some (aI l), some (aI c), some (aI 0)]) (am_dec tX9_burntOn_0 13 rfl) (by decide) rfl ?_
        refine T_iload_n (am_dec tX9_burntOn_0 14 rfl) rfl ?_
        refine T_if_eq 44 (am_dec tX9_burntOn_0 15 rfl) rfl (fun h27 => ?_) (fun h27 => by exfalso; omega)
        refine T_iconst 0 (am_dec tX9_burntOn_0 25 rfl) rfl ⟨by decide, by decide⟩ ?_
        exact T_ireturn (am_dec tX9_burntOn_0 26 rfl) rfl (am_outI (by unfold f_burntOn; first | rw [if_pos (by omega)] | rw [if_neg (by omega)]))
      · refine T_iload_n (am_dec tX9_burntOn_0 7 rfl) rfl ?_
        refine T_bipush 90 (am_dec tX9_burntOn_0 8 rfl) rfl ⟨by decide, by decide⟩ ?_
        refine T_icmp_ge 24 (am_dec tX9_burntOn_0 9 rfl) rfl (fun h17 => ?_) (fun h17 => ?_)
        · refine T_iconst 0 (am_dec tX9_burntOn_0 12 rfl) rfl ⟨by decide, by decide⟩ ?_
          refine T_istore_n (ls' := [some (aR b), some (aI l), some (aI c), some (aI 0)]) (am_dec tX9_burntOn_0 13 rfl) (by decide) rfl ?_
          refine T_iload_n (am_dec tX9_burntOn_0 14 rfl) rfl ?_
          refine T_if_eq 44 (am_dec tX9_burntOn_0 15 rfl) rfl (fun h27 => ?_) (fun h27 => by exfalso; omega)
          refine T_iconst 0 (am_dec tX9_burntOn_0 25 rfl) rfl ⟨by decide, by decide⟩ ?_
          exact T_ireturn (am_dec tX9_burntOn_0 26 rfl) rfl (am_outI (by unfold f_burntOn; first | rw [if_pos (by omega)] | rw [if_neg (by omega)]))
        · refine T_iconst 1 (am_dec tX9_burntOn_0 10 rfl) rfl ⟨by decide, by decide⟩ ?_
          refine T_goto 25 (am_dec tX9_burntOn_0 11 rfl) rfl ?_
          refine T_istore_n (ls' := [some (aR b), some (aI l), some (aI c), some (aI 1)]) (am_dec tX9_burntOn_0 13 rfl) (by decide) rfl ?_
          refine T_iload_n (am_dec tX9_burntOn_0 14 rfl) rfl ?_
          refine T_if_eq 44 (am_dec tX9_burntOn_0 15 rfl) rfl (fun h27 => by exfalso; omega) (fun h27 => ?_)
          refine T_aload_n (am_dec tX9_burntOn_0 16 rfl) rfl ?_
          refine T_getfield 8 13 (am_dec tX9_burntOn_0 17 rfl) flX9_33_8 (hR 0 (by decide)) rfl ?_
          refine T_iload_n (am_dec tX9_burntOn_0 18 rfl) rfl ?_
          refine T_bipush 90 (am_dec tX9_burntOn_0 19 rfl) rfl ⟨by decide, by decide⟩ ?_
          refine T_imul (l * 90) (am_dec tX9_burntOn_0 20 rfl) rfl ⟨by omega, by omega⟩ ?_
          refine T_iload_n (am_dec tX9_burntOn_0 21 rfl) rfl ?_
          refine T_iadd ((l * 90) + c) (am_dec tX9_burntOn_0 22 rfl) rfl ⟨by omega, by omega⟩ ?_
          refine T_iaload (am_dec tX9_burntOn_0 23 rfl) (hR 8 (by decide)) (by omega) (by omega) ?_
          refine T_goto 45 (am_dec tX9_burntOn_0 24 rfl) rfl ?_
          exact T_ireturn (am_dec tX9_burntOn_0 26 rfl) rfl (am_outI (by unfold f_burntOn; first | rw [if_pos (by omega)] | rw [if_neg (by omega)]))
def f_leaked (r : am_F) (l c : Int) : Int := if 0 ≤ l ∧ l < 6 ∧ 0 ≤ c ∧ c < 6 then r 9 (l * 6 + c).toNat else 0
theorem m_leaked {S : am_S} {d u : Nat} {w : AH} {b hb : Nat} {r : am_F} (hR : Rn w b hb r) (l c : Int) : am_Out S zX9_leaked d u [aR b, aI l, aI c] w (.inl (some (aI (f_leaked r l c)))) w := by
  refine am_body rfl (by decide +kernel) rfl (am_cats_cons rfl ( am_cats_cons rfl ( am_cats_cons rfl (am_cats_nil)))) (Nat.le_of_ble_eq_true rfl) (?_ : am_T _ _ _ _ _ 0 [some (aR b), some (aI l), some (aI c), none] [] w)
  refine T_iload_n (am_dec tX9_leaked_0 0 rfl) rfl ?_
  refine T_if_lt 24 (am_dec tX9_leaked_0 1 rfl) rfl (fun h1 => ?_) (fun h1 => ?_)
  · refine T_iconst 0 (am_dec tX9_leaked_0 12 rfl) rfl ⟨by decide, by decide⟩ ?_
    refine T_istore_n (ls' := [some (aR b), some (aI l), some (aI c), some (aI 0)]) (am_dec tX9_leaked_0 13 rfl) (by decide) rfl ?_
    refine T_iload_n (am_dec tX9_leaked_0 14 rfl) rfl ?_
    refine T_if_eq 44 (am_dec tX9_leaked_0 15 rfl) rfl (fun h27 => ?_) (fun h27 => by exfalso; omega)
    refine T_iconst 0 (am_dec tX9_leaked_0 25 rfl) rfl ⟨by decide, by decide⟩ ?_
    exact T_ireturn (am_dec tX9_leaked_0 26 rfl) rfl (am_outI (by unfold f_leaked; first | rw [if_pos (by omega)] | rw [if_neg (by omega)]))
  · refine T_iload_n (am_dec tX9_leaked_0 2 rfl) rfl ?_
    refine T_bipush 6 (am_dec tX9_leaked_0 3 rfl) rfl ⟨by decide, by decide⟩ ?_
    refine T_icmp_ge 24 (am_dec tX9_leaked_0 4 rfl) rfl (fun h7 => ?_) (fun h7 => ?_)
    · refine T_iconst 0 (am_dec tX9_leaked_0 12 rfl) rfl ⟨by decide, by decide⟩ ?_
      refine T_istore_n (ls' := [some (aR b), some (aI l), some (aI c), some (aI 0)]) (am_dec tX9_leaked_0 13 rfl) (by decide) rfl ?_
      refine T_iload_n (am_dec tX9_leaked_0 14 rfl) rfl ?_
      refine T_if_eq 44 (am_dec tX9_leaked_0 15 rfl) rfl (fun h27 => ?_) (fun h27 => by exfalso; omega)
      refine T_iconst 0 (am_dec tX9_leaked_0 25 rfl) rfl ⟨by decide, by decide⟩ ?_
      exact T_ireturn (am_dec tX9_leaked_0 26 rfl) rfl (am_outI (by unfold f_leaked; first | rw [if_pos (by omega)] | rw [if_neg (by omega)]))
    · refine T_iload_n (am_dec tX9_leaked_0 5 rfl) rfl ?_
      refine T_if_lt 24 (am_dec tX9_leaked_0 6 rfl) rfl (fun h11 => ?_) (fun h11 => ?_)
      · refine T_iconst 0 (am_dec tX9_leaked_0 12 rfl) rfl ⟨by decide, by decide⟩ ?_
        refine T_istore_n (ls' := [some (aR b), some (aI l), some (aI c), some (aI 0)]) (am_dec tX9_leaked_0 13 rfl) (by decide) rfl ?_
        refine T_iload_n (am_dec tX9_leaked_0 14 rfl) rfl ?_
        refine T_if_eq 44 (am_dec tX9_leaked_0 15 rfl) rfl (fun h27 => ?_) (fun h27 => by exfalso; omega)
        refine T_iconst 0 (am_dec tX9_leaked_0 25 rfl) rfl ⟨by decide, by decide⟩ ?_
        exact T_ireturn (am_dec tX9_leaked_0 26 rfl) rfl (am_outI (by unfold f_leaked; first | rw [if_pos (by omega)] | rw [if_neg (by omega)]))
      · refine T_iload_n (am_dec tX9_leaked_0 7 rfl) rfl ?_
        refine T_bipush 6 (am_dec tX9_leaked_0 8 rfl) rfl ⟨by decide, by decide⟩ ?_
        refine T_icmp_ge 24 (am_dec tX9_leaked_0 9 rfl) rfl (fun h17 => ?_) (fun h17 => ?_)
        · refine T_iconst 0 (am_dec tX9_leaked_0 12 rfl) rfl ⟨by decide, by decide⟩ ?_
          refine T_istore_n (ls' := [some (aR b), some (aI l), some (aI c), some (aI 0)]) (am_dec tX9_leaked_0 13 rfl) (by decide) rfl ?_
          refine T_iload_n (am_dec tX9_leaked_0 14 rfl) rfl ?_
          refine T_if_eq 44 (am_dec tX9_leaked_0 15 rfl) rfl (fun h27 => ?_) (fun h27 => by exfalso; omega)
          refine T_iconst 0 (am_dec tX9_leaked_0 25 rfl) rfl ⟨by decide, by decide⟩ ?_
          exact T_ireturn (am_dec tX9_leaked_0 26 rfl) rfl (am_outI (by unfold f_leaked; first | rw [if_pos (by omega)] | rw [if_neg (by omega)]))
        · refine T_iconst 1 (am_dec tX9_leaked_0 10 rfl) rfl ⟨by decide, by decide⟩ ?_
          refine T_goto 25 (am_dec tX9_leaked_0 11 rfl) rfl ?_
          refine T_istore_n (ls' := [some (aR b), some (aI l), some (aI c), some (aI 1)]) (am_dec tX9_leaked_0 13 rfl) (by decide) rfl ?_
          refine T_iload_n (am_dec tX9_leaked_0 14 rfl) rfl ?_
          refine T_if_eq 44 (am_dec tX9_leaked_0 15 rfl) rfl (fun h27 => by exfalso; omega) (fun h27 => ?_)
          refine T_aload_n (am_dec tX9_leaked_0 16 rfl) rfl ?_
          refine T_getfield 8 14 (am_dec tX9_leaked_0 17 rfl) flX9_36_8 (hR 0 (by decide)) rfl ?_
          refine T_iload_n (am_dec tX9_leaked_0 18 rfl) rfl ?_
          refine T_bipush 6 (am_dec tX9_leaked_0 19 rfl) rfl ⟨by decide, by decide⟩ ?_
          refine T_imul (l * 6) (am_dec tX9_leaked_0 20 rfl) rfl ⟨by omega, by omega⟩ ?_
          refine T_iload_n (am_dec tX9_leaked_0 21 rfl) rfl ?_
          refine T_iadd ((l * 6) + c) (am_dec tX9_leaked_0 22 rfl) rfl ⟨by omega, by omega⟩ ?_
          refine T_iaload (am_dec tX9_leaked_0 23 rfl) (hR 9 (by decide)) (by omega) (by omega) ?_
          refine T_goto 45 (am_dec tX9_leaked_0 24 rfl) rfl ?_
          exact T_ireturn (am_dec tX9_leaked_0 26 rfl) rfl (am_outI (by unfold f_leaked; first | rw [if_pos (by omega)] | rw [if_neg (by omega)]))
def f_sumOf (r : am_F) (s k : Int) : Int := if -1 ≤ s ∧ s < 40 then (if k = 0 then r 2 (s + 1).toNat else if k = 1 then r 3 (s + 1).toNat else if k = 2 then r 4 (s + 1).toNat else r 5 (s + 1).toNat) else 0
