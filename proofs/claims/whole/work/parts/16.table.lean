/-! Table -/
def f_at (many : Int) (f : Nat → Int) (row col : Int) : Int := if 0 ≤ row ∧ row < many ∧ 0 ≤ col ∧ col < 4 then f (row * 4 + col).toNat else 0
theorem m_at {S : am_S} {d u : Nat} {w : AH} {t n : Nat} {most many : Int} {f : Nat → Int} (ht : w[t]? = some (cO 9 [aI most, aR n, aI many])) (hn : w[n]? = some (cP 0 48 f)) (hm : many ≤ 12) (row col : Int) : am_Out S zX10_at d u [aR t, aI row, aI col] w (.inl (some (aI (f_at many f row col)))) w := by
  refine am_body rfl (by decide +kernel) rfl (am_cats_cons rfl ( am_cats_cons rfl ( am_cats_cons rfl (am_cats_nil)))) (Nat.le_of_ble_eq_true rfl) (?_ : am_T _ _ _ _ _ 0 [some (aR t), some (aI row), some (aI col), none] [] w)
  refine T_iload_n (am_dec tX10_at_0 0 rfl) rfl ?_
  refine T_if_lt 25 (am_dec tX10_at_0 1 rfl) rfl (fun h1 => ?_) (fun h1 => ?_)
  · refine T_iconst 0 (am_dec tX10_at_0 13 rfl) rfl ⟨by decide, by decide⟩ ?_
    refine T_istore_n (ls' := [some (aR t), some (aI row), some (aI col), some (aI 0)]) (am_dec tX10_at_0 14 rfl) (by decide) rfl ?_
    refine T_iload_n (am_dec tX10_at_0 15 rfl) rfl ?_
    refine T_if_eq 44 (am_dec tX10_at_0 16 rfl) rfl (fun h28 => ?_) (fun h28 => by exfalso; omega)
    refine T_iconst 0 (am_dec tX10_at_0 26 rfl) rfl ⟨by decide, by decide⟩ ?_
    exact T_ireturn (am_dec tX10_at_0 27 rfl) rfl (am_outI (by unfold f_at; first | rw [if_pos (by omega)] | rw [if_neg (by omega)]))
  · refine T_iload_n (am_dec tX10_at_0 2 rfl) rfl ?_
    refine T_aload_n (am_dec tX10_at_0 3 rfl) rfl ?_
    refine T_getfield 9 2 (am_dec tX10_at_0 4 rfl) flX10_25_9 ht rfl ?_
    refine T_icmp_ge 25 (am_dec tX10_at_0 5 rfl) rfl (fun h9 => ?_) (fun h9 => ?_)
    · refine T_iconst 0 (am_dec tX10_at_0 13 rfl) rfl ⟨by decide, by decide⟩ ?_
      refine T_istore_n (ls' := [some (aR t), some (aI row), some (aI col), some (aI 0)]) (am_dec tX10_at_0 14 rfl) (by decide) rfl ?_
      refine T_iload_n (am_dec tX10_at_0 15 rfl) rfl ?_
      refine T_if_eq 44 (am_dec tX10_at_0 16 rfl) rfl (fun h28 => ?_) (fun h28 => by exfalso; omega)
      refine T_iconst 0 (am_dec tX10_at_0 26 rfl) rfl ⟨by decide, by decide⟩ ?_
      exact T_ireturn (am_dec tX10_at_0 27 rfl) rfl (am_outI (by unfold f_at; first | rw [if_pos (by omega)] | rw [if_neg (by omega)]))
    · refine T_iload_n (am_dec tX10_at_0 6 rfl) rfl ?_
      refine T_if_lt 25 (am_dec tX10_at_0 7 rfl) rfl (fun h13 => ?_) (fun h13 => ?_)
      · refine T_iconst 0 (am_dec tX10_at_0 13 rfl) rfl ⟨by decide, by decide⟩ ?_
        refine T_istore_n (ls' := [some (aR t), some (aI row), some (aI col), some (aI 0)]) (am_dec tX10_at_0 14 rfl) (by decide) rfl ?_
        refine T_iload_n (am_dec tX10_at_0 15 rfl) rfl ?_
        refine T_if_eq 44 (am_dec tX10_at_0 16 rfl) rfl (fun h28 => ?_) (fun h28 => by exfalso; omega)
        refine T_iconst 0 (am_dec tX10_at_0 26 rfl) rfl ⟨by decide, by decide⟩ ?_
        exact T_ireturn (am_dec tX10_at_0 27 rfl) rfl (am_outI (by unfold f_at; first | rw [if_pos (by omega)] | rw [if_neg (by omega)]))
      · refine T_iload_n (am_dec tX10_at_0 8 rfl) rfl ?_
        refine T_iconst 4 (am_dec tX10_at_0 9 rfl) rfl ⟨by decide, by decide⟩ ?_
        refine T_icmp_ge 25 (am_dec tX10_at_0 10 rfl) rfl (fun h18 => ?_) (fun h18 => ?_)
        · refine T_iconst 0 (am_dec tX10_at_0 13 rfl) rfl ⟨by decide, by decide⟩ ?_
          refine T_istore_n (ls' := [some (aR t), some (aI row), some (aI col), some (aI 0)]) (am_dec tX10_at_0 14 rfl) (by decide) rfl ?_
          refine T_iload_n (am_dec tX10_at_0 15 rfl) rfl ?_
          refine T_if_eq 44 (am_dec tX10_at_0 16 rfl) rfl (fun h28 => ?_) (fun h28 => by exfalso; omega)
          refine T_iconst 0 (am_dec tX10_at_0 26 rfl) rfl ⟨by decide, by decide⟩ ?_
          exact T_ireturn (am_dec tX10_at_0 27 rfl) rfl (am_outI (by unfold f_at; first | rw [if_pos (by omega)] | rw [if_neg (by omega)]))
        · refine T_iconst 1 (am_dec tX10_at_0 11 rfl) rfl ⟨by decide, by decide⟩ ?_
          refine T_goto 26 (am_dec tX10_at_0 12 rfl) rfl ?_
          refine T_istore_n (ls' := [some (aR t), some (aI row), some (aI col), some (aI 1)]) (am_dec tX10_at_0 14 rfl) (by decide) rfl ?_
          refine T_iload_n (am_dec tX10_at_0 15 rfl) rfl ?_
          refine T_if_eq 44 (am_dec tX10_at_0 16 rfl) rfl (fun h28 => by exfalso; omega) (fun h28 => ?_)
          refine T_aload_n (am_dec tX10_at_0 17 rfl) rfl ?_
          refine T_getfield 9 1 (am_dec tX10_at_0 18 rfl) flX10_11_9 ht rfl ?_
          refine T_iload_n (am_dec tX10_at_0 19 rfl) rfl ?_
          refine T_iconst 4 (am_dec tX10_at_0 20 rfl) rfl ⟨by decide, by decide⟩ ?_
          refine T_imul (row * 4) (am_dec tX10_at_0 21 rfl) rfl ⟨by omega, by omega⟩ ?_
          refine T_iload_n (am_dec tX10_at_0 22 rfl) rfl ?_
          refine T_iadd ((row * 4) + col) (am_dec tX10_at_0 23 rfl) rfl ⟨by omega, by omega⟩ ?_
          refine T_iaload (am_dec tX10_at_0 24 rfl) hn (by omega) (by omega) ?_
          refine T_goto 45 (am_dec tX10_at_0 25 rfl) rfl ?_
          exact T_ireturn (am_dec tX10_at_0 27 rfl) rfl (am_outI (by unfold f_at; first | rw [if_pos (by omega)] | rw [if_neg (by omega)]))
theorem m_full {S : am_S} {d u : Nat} {w : AH} {t n : Nat} {most many : Int} {f : Nat → Int} (ht : w[t]? = some (cO 9 [aI most, aR n, aI many])) (hn : w[n]? = some (cP 0 48 f)) (hm : many ≤ 12) : am_Out S zX10_full d u [aR t] w (.inl (some (aI (if most ≤ many then 1 else 0)))) w := by
  refine am_body rfl (by decide +kernel) rfl (am_cats_cons rfl (am_cats_nil)) (Nat.le_of_ble_eq_true rfl) (?_ : am_T _ _ _ _ _ 0 [some (aR t)] [] w)
  refine T_aload_n (am_dec tX10_full_0 0 rfl) rfl ?_
  refine T_getfield 9 2 (am_dec tX10_full_0 1 rfl) flX10_25_9 ht rfl ?_
  refine T_aload_n (am_dec tX10_full_0 2 rfl) rfl ?_
  refine T_getfield 9 0 (am_dec tX10_full_0 3 rfl) flX10_21_9 ht rfl ?_
  refine T_icmp_lt 15 (am_dec tX10_full_0 4 rfl) rfl (fun h8 => ?_) (fun h8 => ?_)
  · refine T_iconst 0 (am_dec tX10_full_0 7 rfl) rfl ⟨by decide, by decide⟩ ?_
    exact T_zreturn (am_dec tX10_full_0 8 rfl) rfl (by first | exact Or.inl rfl | exact Or.inr rfl | omega) (am_outI (by first | rw [if_pos (by omega)] | rw [if_neg (by omega)]))
  · refine T_iconst 1 (am_dec tX10_full_0 5 rfl) rfl ⟨by decide, by decide⟩ ?_
    refine T_goto 16 (am_dec tX10_full_0 6 rfl) rfl ?_
    exact T_zreturn (am_dec tX10_full_0 8 rfl) rfl (by first | exact Or.inl rfl | exact Or.inr rfl | omega) (am_outI (by first | rw [if_pos (by omega)] | rw [if_neg (by omega)]))
theorem m_thas {S : am_S} {d u : Nat} {w : AH} {t n : Nat} {most many : Int} {f : Nat → Int} (ht : w[t]? = some (cO 9 [aI most, aR n, aI many])) (hn : w[n]? = some (cP 0 48 f)) (hm : many ≤ 12) (row : Int) : am_Out S zX10_has d u [aR t, aI row] w (.inl (some (aI (if 0 ≤ row ∧ row < many then 1 else 0)))) w := by
  refine am_body rfl (by decide +kernel) rfl (am_cats_cons rfl ( am_cats_cons rfl (am_cats_nil))) (Nat.le_of_ble_eq_true rfl) (?_ : am_T _ _ _ _ _ 0 [some (aR t), some (aI row)] [] w)
  refine T_iload_n (am_dec tX10_has_0 0 rfl) rfl ?_
  refine T_if_lt 16 (am_dec tX10_has_0 1 rfl) rfl (fun h1 => ?_) (fun h1 => ?_)
  · refine T_iconst 0 (am_dec tX10_has_0 8 rfl) rfl ⟨by decide, by decide⟩ ?_
    exact T_zreturn (am_dec tX10_has_0 9 rfl) rfl (by first | exact Or.inl rfl | exact Or.inr rfl | omega) (am_outI (by first | rw [if_pos (by omega)] | rw [if_neg (by omega)]))
  · refine T_iload_n (am_dec tX10_has_0 2 rfl) rfl ?_
    refine T_aload_n (am_dec tX10_has_0 3 rfl) rfl ?_
    refine T_getfield 9 2 (am_dec tX10_has_0 4 rfl) flX10_25_9 ht rfl ?_
    refine T_icmp_ge 16 (am_dec tX10_has_0 5 rfl) rfl (fun h9 => ?_) (fun h9 => ?_)
    · refine T_iconst 0 (am_dec tX10_has_0 8 rfl) rfl ⟨by decide, by decide⟩ ?_
      exact T_zreturn (am_dec tX10_has_0 9 rfl) rfl (by first | exact Or.inl rfl | exact Or.inr rfl | omega) (am_outI (by first | rw [if_pos (by omega)] | rw [if_neg (by omega)]))
    · refine T_iconst 1 (am_dec tX10_has_0 6 rfl) rfl ⟨by decide, by decide⟩ ?_
      refine T_goto 17 (am_dec tX10_has_0 7 rfl) rfl ?_
      exact T_zreturn (am_dec tX10_has_0 9 rfl) rfl (by first | exact Or.inl rfl | exact Or.inr rfl | omega) (am_outI (by first | rw [if_pos (by omega)] | rw [if_neg (by omega)]))
