/-! Rule: the last PART of a kind -/
def f_last (q : am_F) (k : Int) : Nat → Int
  | 0 => -1
  | n + 1 => if q 2 n = k then n else f_last q k n
theorem f_last_b (q : am_F) (k : Int) : ∀ n : Nat, -1 ≤ f_last q k n ∧ f_last q k n < n := by
  intro n
  induction n with
  | zero => exact ⟨by show (-1 : Int) ≤ -1; omega, by show (-1 : Int) < ((0 : Nat) : Int); omega⟩
  | succ n ih =>
    unfold f_last
    split <;> omega
def f_lastOf (q : am_F) (k : Int) : Int := f_last q k (if 8 < q 0 0 then 8 else q 0 0).toNat
theorem L_last {S : am_S} {d u : Nat} {Q : AO → AH → Prop} {w : AH} {a : Nat} {q : am_F} (hl : a + 5 ≤ w.length) (k : Int) : ∀ (n : Nat) (i : Int), i + 1 = n → i < 8 → Q (.inl (some (aI (f_last q k n)))) (ruW w a q) → am_T S zX7_lastOf d u Q 12 [some (aR a), some (aI k), some (aI i)] [] (ruW w a q) := by
  intro n
  induction n with
  | zero =>
    intro i hi9 h8 k9
    have ei : i = -1 := by omega
    rw [show f_last q k 0 = -1 from rfl] at k9
    refine T_iload_n (am_dec tX7_lastOf_0 7 rfl) rfl ?_
    refine T_if_lt 34 (am_dec tX7_lastOf_0 8 rfl) rfl (fun h13 => ?_) (fun h13 => by exfalso; omega)
    refine T_iconst (-1) (am_dec tX7_lastOf_0 19 rfl) rfl ⟨by decide, by decide⟩ ?_
    exact T_ireturn (am_dec tX7_lastOf_0 20 rfl) rfl k9
  | succ n ih =>
    intro i hi9 h8 k9
    have eN : q 2 n = q 2 i.toNat := by rw [show i.toNat = n by omega]
    refine T_iload_n (am_dec tX7_lastOf_0 7 rfl) rfl ?_
    refine T_if_lt 34 (am_dec tX7_lastOf_0 8 rfl) rfl (fun h13 => by exfalso; omega) (fun h13 => ?_)
    refine T_aload_n (am_dec tX7_lastOf_0 9 rfl) rfl ?_
    refine T_getfield 6 3 (am_dec tX7_lastOf_0 10 rfl) flX7_15_6 (show (ruW w a q)[a]? = some (cO 6 [aI (q 0 0), aI (q 0 1), aR (a + 1), aR (a + 2), aR (a + 3), aR (a + 4)]) from ruW_c hl 0 (by decide)) rfl ?_
    refine T_iload_n (am_dec tX7_lastOf_0 11 rfl) rfl ?_
    refine T_iaload (am_dec tX7_lastOf_0 12 rfl) (show (ruW w a q)[a + 2]? = some (cP 0 8 (q 2)) from ruW_c hl 2 (by decide)) (by omega) (by omega) ?_
    refine T_iload_n (am_dec tX7_lastOf_0 13 rfl) rfl ?_
    refine T_icmp_ne 28 (am_dec tX7_lastOf_0 14 rfl) rfl (fun h23 => ?_) (fun h23 => ?_)
    · refine T_iinc (ls' := [some (aR a), some (aI k), some (aI (i + (-1)))]) (i + (-1)) (am_dec tX7_lastOf_0 17 rfl) rfl rfl ⟨by omega, by omega⟩ (by decide) rfl ?_
      refine T_goto 12 (am_dec tX7_lastOf_0 18 rfl) rfl ?_
      rw [show f_last q k (n + 1) = f_last q k n from by unfold f_last; rw [eN, if_neg (by omega)]; cases n <;> rfl] at k9
      exact ih (i + -1) (by omega) (by omega) k9
    · refine T_iload_n (am_dec tX7_lastOf_0 15 rfl) rfl ?_
      exact T_ireturn (am_dec tX7_lastOf_0 16 rfl) rfl (by rw [show f_last q k (n + 1) = i from by unfold f_last; rw [eN, if_pos (by omega)]; omega] at k9; exact k9)
theorem m_lastOf {S : am_S} {d u : Nat} {w : AH} {a : Nat} {q : am_F} (hl : a + 5 ≤ w.length) (k : Int) (hP : 0 ≤ q 0 0) (hd : 1 ≤ d) : am_Out S zX7_lastOf d u [aR a, aI k] (ruW w a q) (.inl (some (aI (f_lastOf q k)))) (ruW w a q) := by
  refine am_body rfl (by decide +kernel) rfl (am_cats_cons rfl ( am_cats_cons rfl (am_cats_nil))) (Nat.le_of_ble_eq_true rfl) (?_ : am_T _ _ _ _ _ 0 [some (aR a), some (aI k), none] [] (ruW w a q))
  refine T_aload_n (am_dec tX7_lastOf_0 0 rfl) rfl ?_
  refine T_getfield 6 0 (am_dec tX7_lastOf_0 1 rfl) flX7_24_6 (show (ruW w a q)[a]? = some (cO 6 [aI (q 0 0), aI (q 0 1), aR (a + 1), aR (a + 2), aR (a + 3), aR (a + 4)]) from ruW_c hl 0 (by decide)) rfl ?_
  refine T_bipush 8 (am_dec tX7_lastOf_0 2 rfl) rfl ⟨by decide, by decide⟩ ?_
  refine T_mmin (am_dec tX7_lastOf_0 3 rfl) lkX7_31 (Nat.le_of_ble_eq_true rfl) (by omega) ?_
  obtain ⟨m6, hm6⟩ : ∃ x9 : Int, x9 = (if 8 < q 0 0 then 8 else q 0 0) := ⟨_, rfl⟩
  rw [← hm6]
  refine T_iconst 1 (am_dec tX7_lastOf_0 4 rfl) rfl ⟨by decide, by decide⟩ ?_
  refine T_isub (m6 - 1) (am_dec tX7_lastOf_0 5 rfl) rfl ⟨by omega, by omega⟩ ?_
  refine T_istore_n (ls' := [some (aR a), some (aI k), some (aI (m6 - 1))]) (am_dec tX7_lastOf_0 6 rfl) (by decide) rfl ?_
  exact L_last hl k (if 8 < q 0 0 then 8 else q 0 0).toNat (m6 - 1) (by omega) (by omega) ⟨rfl, rfl⟩
