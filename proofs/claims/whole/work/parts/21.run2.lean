/-! a run's reads, the rest -/
theorem am_td {a b : Int} (h : 0 ≤ a) : a.tdiv b = a / b := Int.tdiv_eq_ediv_of_nonneg h
theorem am_tm {a b : Int} (h : 0 ≤ a) : a.tmod b = a % b := Int.tmod_eq_emod_of_nonneg h
def am_w32 (x : Int) : Int := (Int32.ofInt x).toInt
theorem am_w32e (x : Int32) : Int32.ofInt x.toInt = x := Int32.ofInt_toInt x
theorem am_w32r (x : Int32) : am_i32 x.toInt := ⟨Int32.le_toInt x, Int32.toInt_lt x⟩
theorem m_sumOf {S : am_S} {d u : Nat} {w : AH} {b hb : Nat} {r : am_F} (hR : Rn w b hb r) (hd : 1 ≤ d) (s k : Int) : am_Out S zX9_sumOf d u [aR b, aI s, aI k] w (.inl (some (aI (f_sumOf r s k)))) w := by
  refine am_body rfl (by decide +kernel) rfl (am_cats_cons rfl ( am_cats_cons rfl ( am_cats_cons rfl (am_cats_nil)))) (Nat.le_of_ble_eq_true rfl) (?_ : am_T _ _ _ _ _ 0 [some (aR b), some (aI s), some (aI k)] [] w)
  refine T_iload_n (am_dec tX9_sumOf_0 0 rfl) rfl ?_
  refine T_callS (as := [aI s]) rfl (am_dec tX9_sumOf_0 1 rfl) lkX9_172 rfl (Nat.le_of_ble_eq_true rfl) (by omega) (m_isStep s) (fun _ => ?_)
  obtain ⟨e1, he1⟩ : ∃ x9 : Int, x9 = f_isStep s := ⟨_, rfl⟩
  rw [← he1]
  unfold f_isStep at he1
  refine T_if_ne 9 (am_dec tX9_sumOf_0 2 rfl) rfl (fun h4 => ?_) (fun h4 => ?_)
  · refine T_iload_n (am_dec tX9_sumOf_0 5 rfl) rfl ?_
    by_cases c10 : k < 0 ∨ 2 < k
    · refine T_tableOut 63 (am_dec tX9_sumOf_0 6 rfl) c10 rfl ?_
      refine T_aload_n (am_dec tX9_sumOf_0 28 rfl) rfl ?_
      refine T_getfield 8 10 (am_dec tX9_sumOf_0 29 rfl) flX9_24_8 (hR 0 (by decide)) rfl ?_
      refine T_iload_n (am_dec tX9_sumOf_0 30 rfl) rfl ?_
      refine T_iconst 1 (am_dec tX9_sumOf_0 31 rfl) rfl ⟨by decide, by decide⟩ ?_
      refine T_iadd (s + 1) (am_dec tX9_sumOf_0 32 rfl) rfl ⟨by omega, by omega⟩ ?_
      refine T_iaload (am_dec tX9_sumOf_0 33 rfl) (hR 5 (by decide)) (by omega) (by omega) ?_
      exact T_ireturn (am_dec tX9_sumOf_0 34 rfl) rfl (am_outI (by unfold f_sumOf; first | rw [if_neg (by omega)] | (rw [if_pos (by omega), if_pos (by omega)]) | (rw [if_pos (by omega), if_neg (by omega), if_pos (by omega)]) | (rw [if_pos (by omega), if_neg (by omega), if_neg (by omega), if_pos (by omega)]) | (rw [if_pos (by omega), if_neg (by omega), if_neg (by omega), if_neg (by omega)])))
    · have d10 : k = 0 ∨ k = 1 ∨ k = 2 := by omega
      rcases d10 with e10 | e10 | e10
      · refine T_tableIn (off := 26) 36 (am_dec tX9_sumOf_0 6 rfl) (by omega) (by omega) (by rw [e10]; rfl) rfl ?_
        refine T_aload_n (am_dec tX9_sumOf_0 7 rfl) rfl ?_
        refine T_getfield 8 7 (am_dec tX9_sumOf_0 8 rfl) flX9_15_8 (hR 0 (by decide)) rfl ?_
        refine T_iload_n (am_dec tX9_sumOf_0 9 rfl) rfl ?_
        refine T_iconst 1 (am_dec tX9_sumOf_0 10 rfl) rfl ⟨by decide, by decide⟩ ?_
        refine T_iadd (s + 1) (am_dec tX9_sumOf_0 11 rfl) rfl ⟨by omega, by omega⟩ ?_
        refine T_iaload (am_dec tX9_sumOf_0 12 rfl) (hR 2 (by decide)) (by omega) (by omega) ?_
        exact T_ireturn (am_dec tX9_sumOf_0 13 rfl) rfl (am_outI (by unfold f_sumOf; first | rw [if_neg (by omega)] | (rw [if_pos (by omega), if_pos (by omega)]) | (rw [if_pos (by omega), if_neg (by omega), if_pos (by omega)]) | (rw [if_pos (by omega), if_neg (by omega), if_neg (by omega), if_pos (by omega)]) | (rw [if_pos (by omega), if_neg (by omega), if_neg (by omega), if_neg (by omega)])))
      · refine T_tableIn (off := 35) 45 (am_dec tX9_sumOf_0 6 rfl) (by omega) (by omega) (by rw [e10]; rfl) rfl ?_
        refine T_aload_n (am_dec tX9_sumOf_0 14 rfl) rfl ?_
        refine T_getfield 8 8 (am_dec tX9_sumOf_0 15 rfl) flX9_18_8 (hR 0 (by decide)) rfl ?_
        refine T_iload_n (am_dec tX9_sumOf_0 16 rfl) rfl ?_
        refine T_iconst 1 (am_dec tX9_sumOf_0 17 rfl) rfl ⟨by decide, by decide⟩ ?_
        refine T_iadd (s + 1) (am_dec tX9_sumOf_0 18 rfl) rfl ⟨by omega, by omega⟩ ?_
        refine T_iaload (am_dec tX9_sumOf_0 19 rfl) (hR 3 (by decide)) (by omega) (by omega) ?_
        exact T_ireturn (am_dec tX9_sumOf_0 20 rfl) rfl (am_outI (by unfold f_sumOf; first | rw [if_neg (by omega)] | (rw [if_pos (by omega), if_pos (by omega)]) | (rw [if_pos (by omega), if_neg (by omega), if_pos (by omega)]) | (rw [if_pos (by omega), if_neg (by omega), if_neg (by omega), if_pos (by omega)]) | (rw [if_pos (by omega), if_neg (by omega), if_neg (by omega), if_neg (by omega)])))
      · refine T_tableIn (off := 44) 54 (am_dec tX9_sumOf_0 6 rfl) (by omega) (by omega) (by rw [e10]; rfl) rfl ?_
        refine T_aload_n (am_dec tX9_sumOf_0 21 rfl) rfl ?_
        refine T_getfield 8 9 (am_dec tX9_sumOf_0 22 rfl) flX9_21_8 (hR 0 (by decide)) rfl ?_
        refine T_iload_n (am_dec tX9_sumOf_0 23 rfl) rfl ?_
        refine T_iconst 1 (am_dec tX9_sumOf_0 24 rfl) rfl ⟨by decide, by decide⟩ ?_
        refine T_iadd (s + 1) (am_dec tX9_sumOf_0 25 rfl) rfl ⟨by omega, by omega⟩ ?_
        refine T_iaload (am_dec tX9_sumOf_0 26 rfl) (hR 4 (by decide)) (by omega) (by omega) ?_
        exact T_ireturn (am_dec tX9_sumOf_0 27 rfl) rfl (am_outI (by unfold f_sumOf; first | rw [if_neg (by omega)] | (rw [if_pos (by omega), if_pos (by omega)]) | (rw [if_pos (by omega), if_neg (by omega), if_pos (by omega)]) | (rw [if_pos (by omega), if_neg (by omega), if_neg (by omega), if_pos (by omega)]) | (rw [if_pos (by omega), if_neg (by omega), if_neg (by omega), if_neg (by omega)])))
  · refine T_iconst 0 (am_dec tX9_sumOf_0 3 rfl) rfl ⟨by decide, by decide⟩ ?_
    exact T_ireturn (am_dec tX9_sumOf_0 4 rfl) rfl (am_outI (by unfold f_sumOf; first | rw [if_neg (by omega)] | (rw [if_pos (by omega), if_pos (by omega)]) | (rw [if_pos (by omega), if_neg (by omega), if_pos (by omega)]) | (rw [if_pos (by omega), if_neg (by omega), if_neg (by omega), if_pos (by omega)]) | (rw [if_pos (by omega), if_neg (by omega), if_neg (by omega), if_neg (by omega)])))
def f_near (h : am_F) (c i : Int) : Int := if (0 ≤ c % 10 + i % 3 - 1 ∧ c % 10 + i % 3 - 1 < h 0 0) ∧ 0 ≤ c / 10 + i / 3 - 1 ∧ c / 10 + i / 3 - 1 < h 0 1 then c % 10 + i % 3 - 1 + 10 * (c / 10 + i / 3 - 1) else -1
theorem m_near {S : am_S} {d u : Nat} {w : AH} {b hb : Nat} {r h : am_F} (hR : Rn w b hb r) (hH : Hb w hb h) (hV : HbV h) (c i : Int) (hc : 0 ≤ c ∧ c ≤ 100000) (hi : 0 ≤ i ∧ i ≤ 9) : am_Out S zX9_nearTo d u [aR b, aI c, aI i] w (.inl (some (aI (f_near h c i)))) w := by
  refine am_body rfl (by decide +kernel) rfl (am_cats_cons rfl ( am_cats_cons rfl ( am_cats_cons rfl (am_cats_nil)))) (Nat.le_of_ble_eq_true rfl) (?_ : am_T _ _ _ _ _ 0 [some (aR b), some (aI c), some (aI i), none, none, none] [] w)
  have hV9 := hV
  obtain ⟨v1, v2, v3, v4, v5, v6, v7, v8, v9, v10, v11, v12, v13, v14, v15, v16, v17, v18, v19, v20, v21, v22⟩ := hV9
  refine T_iload_n (am_dec tX9_nearTo_0 0 rfl) rfl ?_
  refine T_bipush 10 (am_dec tX9_nearTo_0 1 rfl) rfl ⟨by decide, by decide⟩ ?_
  refine T_irem (c % 10) (am_dec tX9_nearTo_0 2 rfl) (by omega) (am_tm (by omega)) ⟨by omega, by omega⟩ ?_
  refine T_iload_n (am_dec tX9_nearTo_0 3 rfl) rfl ?_
  refine T_iconst 3 (am_dec tX9_nearTo_0 4 rfl) rfl ⟨by decide, by decide⟩ ?_
  refine T_irem (i % 3) (am_dec tX9_nearTo_0 5 rfl) (by omega) (am_tm (by omega)) ⟨by omega, by omega⟩ ?_
  refine T_iadd ((c % 10) + (i % 3)) (am_dec tX9_nearTo_0 6 rfl) rfl ⟨by omega, by omega⟩ ?_
  refine T_iconst 1 (am_dec tX9_nearTo_0 7 rfl) rfl ⟨by decide, by decide⟩ ?_
  refine T_isub (((c % 10) + (i % 3)) - 1) (am_dec tX9_nearTo_0 8 rfl) rfl ⟨by omega, by omega⟩ ?_
  refine T_istore_n (ls' := [some (aR b), some (aI c), some (aI i), some (aI (((c % 10) + (i % 3)) - 1)), none, none]) (am_dec tX9_nearTo_0 9 rfl) (by decide) rfl ?_
  refine T_iload_n (am_dec tX9_nearTo_0 10 rfl) rfl ?_
  refine T_bipush 10 (am_dec tX9_nearTo_0 11 rfl) rfl ⟨by decide, by decide⟩ ?_
  refine T_idiv (c / 10) (am_dec tX9_nearTo_0 12 rfl) (by omega) (am_td (by omega)) ⟨by omega, by omega⟩ ?_
  refine T_iload_n (am_dec tX9_nearTo_0 13 rfl) rfl ?_
  refine T_iconst 3 (am_dec tX9_nearTo_0 14 rfl) rfl ⟨by decide, by decide⟩ ?_
  refine T_idiv (i / 3) (am_dec tX9_nearTo_0 15 rfl) (by omega) (am_td (by omega)) ⟨by omega, by omega⟩ ?_
  refine T_iadd ((c / 10) + (i / 3)) (am_dec tX9_nearTo_0 16 rfl) rfl ⟨by omega, by omega⟩ ?_
  refine T_iconst 1 (am_dec tX9_nearTo_0 17 rfl) rfl ⟨by decide, by decide⟩ ?_
  refine T_isub (((c / 10) + (i / 3)) - 1) (am_dec tX9_nearTo_0 18 rfl) rfl ⟨by omega, by omega⟩ ?_
  refine T_istore (ls' := [some (aR b), some (aI c), some (aI i), some (aI (((c % 10) + (i % 3)) - 1)), some (aI (((c / 10) + (i / 3)) - 1)), none]) (am_dec tX9_nearTo_0 19 rfl) (by decide) rfl ?_
  refine T_iload_n (am_dec tX9_nearTo_0 20 rfl) rfl ?_
  refine T_if_lt 59 (am_dec tX9_nearTo_0 21 rfl) rfl (fun h24 => ?_) (fun h24 => ?_)
  · refine T_iconst 0 (am_dec tX9_nearTo_0 36 rfl) rfl ⟨by decide, by decide⟩ ?_
    refine T_istore (ls' := [some (aR b), some (aI c), some (aI i), some (aI (((c % 10) + (i % 3)) - 1)), some (aI (((c / 10) + (i / 3)) - 1)), some (aI 0)]) (am_dec tX9_nearTo_0 37 rfl) (by decide) rfl ?_
    refine T_iload (am_dec tX9_nearTo_0 38 rfl) rfl ?_
    refine T_if_eq 77 (am_dec tX9_nearTo_0 39 rfl) rfl (fun h64 => ?_) (fun h64 => by exfalso; omega)
    refine T_iconst (-1) (am_dec tX9_nearTo_1 6 rfl) rfl ⟨by decide, by decide⟩ ?_
    exact T_ireturn (am_dec tX9_nearTo_1 7 rfl) rfl (am_outI (by unfold f_near; first | rw [if_pos (by omega)] | rw [if_neg (by omega)]))
  · refine T_iload_n (am_dec tX9_nearTo_0 22 rfl) rfl ?_
    refine T_aload_n (am_dec tX9_nearTo_0 23 rfl) rfl ?_
    refine T_getfield 8 0 (am_dec tX9_nearTo_0 24 rfl) flX9_43_8 (hR 0 (by decide)) rfl ?_
    refine T_getfield 3 0 (am_dec tX9_nearTo_0 25 rfl) flX9_133_3 (hH 0 (by decide)) rfl ?_
    refine T_icmp_ge 59 (am_dec tX9_nearTo_0 26 rfl) rfl (fun h35 => ?_) (fun h35 => ?_)
    · refine T_iconst 0 (am_dec tX9_nearTo_0 36 rfl) rfl ⟨by decide, by decide⟩ ?_
      refine T_istore (ls' := [some (aR b), some (aI c), some (aI i), some (aI (((c % 10) + (i % 3)) - 1)), some (aI (((c / 10) + (i / 3)) - 1)), some (aI 0)]) (am_dec tX9_nearTo_0 37 rfl) (by decide) rfl ?_
      refine T_iload (am_dec tX9_nearTo_0 38 rfl) rfl ?_
      refine T_if_eq 77 (am_dec tX9_nearTo_0 39 rfl) rfl (fun h64 => ?_) (fun h64 => by exfalso; omega)
      refine T_iconst (-1) (am_dec tX9_nearTo_1 6 rfl) rfl ⟨by decide, by decide⟩ ?_
      exact T_ireturn (am_dec tX9_nearTo_1 7 rfl) rfl (am_outI (by unfold f_near; first | rw [if_pos (by omega)] | rw [if_neg (by omega)]))
    · refine T_iload (am_dec tX9_nearTo_0 27 rfl) rfl ?_
      refine T_if_lt 59 (am_dec tX9_nearTo_0 28 rfl) rfl (fun h40 => ?_) (fun h40 => ?_)
      · refine T_iconst 0 (am_dec tX9_nearTo_0 36 rfl) rfl ⟨by decide, by decide⟩ ?_
        refine T_istore (ls' := [some (aR b), some (aI c), some (aI i), some (aI (((c % 10) + (i % 3)) - 1)), some (aI (((c / 10) + (i / 3)) - 1)), some (aI 0)]) (am_dec tX9_nearTo_0 37 rfl) (by decide) rfl ?_
        refine T_iload (am_dec tX9_nearTo_0 38 rfl) rfl ?_
        refine T_if_eq 77 (am_dec tX9_nearTo_0 39 rfl) rfl (fun h64 => ?_) (fun h64 => by exfalso; omega)
        refine T_iconst (-1) (am_dec tX9_nearTo_1 6 rfl) rfl ⟨by decide, by decide⟩ ?_
        exact T_ireturn (am_dec tX9_nearTo_1 7 rfl) rfl (am_outI (by unfold f_near; first | rw [if_pos (by omega)] | rw [if_neg (by omega)]))
      · refine T_iload (am_dec tX9_nearTo_0 29 rfl) rfl ?_
        refine T_aload_n (am_dec tX9_nearTo_0 30 rfl) rfl ?_
        refine T_getfield 8 0 (am_dec tX9_nearTo_0 31 rfl) flX9_43_8 (hR 0 (by decide)) rfl ?_
        refine T_getfield 3 1 (am_dec tX9_nearTo_0 32 rfl) flX9_130_3 (hH 0 (by decide)) rfl ?_
        refine T_icmp_ge 59 (am_dec tX9_nearTo_0 33 rfl) rfl (fun h52 => ?_) (fun h52 => ?_)
        · refine T_iconst 0 (am_dec tX9_nearTo_0 36 rfl) rfl ⟨by decide, by decide⟩ ?_
          refine T_istore (ls' := [some (aR b), some (aI c), some (aI i), some (aI (((c % 10) + (i % 3)) - 1)), some (aI (((c / 10) + (i / 3)) - 1)), some (aI 0)]) (am_dec tX9_nearTo_0 37 rfl) (by decide) rfl ?_
          refine T_iload (am_dec tX9_nearTo_0 38 rfl) rfl ?_
          refine T_if_eq 77 (am_dec tX9_nearTo_0 39 rfl) rfl (fun h64 => ?_) (fun h64 => by exfalso; omega)
          refine T_iconst (-1) (am_dec tX9_nearTo_1 6 rfl) rfl ⟨by decide, by decide⟩ ?_
          exact T_ireturn (am_dec tX9_nearTo_1 7 rfl) rfl (am_outI (by unfold f_near; first | rw [if_pos (by omega)] | rw [if_neg (by omega)]))
        · refine T_iconst 1 (am_dec tX9_nearTo_0 34 rfl) rfl ⟨by decide, by decide⟩ ?_
          refine T_goto 60 (am_dec tX9_nearTo_0 35 rfl) rfl ?_
          refine T_istore (ls' := [some (aR b), some (aI c), some (aI i), some (aI (((c % 10) + (i % 3)) - 1)), some (aI (((c / 10) + (i / 3)) - 1)), some (aI 1)]) (am_dec tX9_nearTo_0 37 rfl) (by decide) rfl ?_
          refine T_iload (am_dec tX9_nearTo_0 38 rfl) rfl ?_
          refine T_if_eq 77 (am_dec tX9_nearTo_0 39 rfl) rfl (fun h64 => by exfalso; omega) (fun h64 => ?_)
          refine T_iload_n (am_dec tX9_nearTo_1 0 rfl) rfl ?_
          refine T_bipush 10 (am_dec tX9_nearTo_1 1 rfl) rfl ⟨by decide, by decide⟩ ?_
          refine T_iload (am_dec tX9_nearTo_1 2 rfl) rfl ?_
          refine T_imul (10 * (((c / 10) + (i / 3)) - 1)) (am_dec tX9_nearTo_1 3 rfl) rfl ⟨by omega, by omega⟩ ?_
          refine T_iadd ((((c % 10) + (i % 3)) - 1) + (10 * (((c / 10) + (i / 3)) - 1))) (am_dec tX9_nearTo_1 4 rfl) rfl ⟨by omega, by omega⟩ ?_
          refine T_goto 78 (am_dec tX9_nearTo_1 5 rfl) rfl ?_
          exact T_ireturn (am_dec tX9_nearTo_1 7 rfl) rfl (am_outI (by unfold f_near; first | rw [if_pos (by omega)] | rw [if_neg (by omega)]))
def f_damages (r h : am_F) (l c : Int) : Int := f_leaked r l c * f_at (h 0 7) (h 5) c 1
def LkB (r : am_F) : Prop := ∀ j, 0 ≤ r 9 j ∧ r 9 j ≤ 400000
theorem f_leaked_b {r : am_F} (h : LkB r) (a b : Int) : 0 ≤ f_leaked r a b ∧ f_leaked r a b ≤ 400000 := by
  unfold f_leaked
  split
  · exact h _
  · omega
theorem am_mulb {x y : Int} (h : 0 ≤ x ∧ x ≤ 400000) (k : -100 ≤ y ∧ y ≤ 100) : -2147483648 ≤ x * y ∧ x * y < 2147483648 := by
  obtain ⟨n, hn⟩ : ∃ n : Int, n = y + 100 := ⟨_, rfl⟩
  have e : x * y = x * n - x * 100 := by rw [hn, Int.mul_add]; omega
  have a1 : 0 ≤ x * n := Int.mul_nonneg h.1 (by omega)
  have a2 : x * n ≤ 400000 * 200 := Int.mul_le_mul h.2 (by omega) (by omega) (by omega)
  omega
theorem m_damages {S : am_S} {d u : Nat} {w : AH} {b hb : Nat} {r h : am_F} (hR : Rn w b hb r) (hH : Hb w hb h) (hV : HbV h) (hL : LkB r) (l c : Int) (hT : -100 ≤ f_at (h 0 7) (h 5) c 1 ∧ f_at (h 0 7) (h 5) c 1 ≤ 100) (hd : 2 ≤ d) : am_Out S zX9_damages d u [aR b, aI l, aI c] w (.inl (some (aI (f_damages r h l c)))) w := by
  refine am_body rfl (by decide +kernel) rfl (am_cats_cons rfl ( am_cats_cons rfl ( am_cats_cons rfl (am_cats_nil)))) (Nat.le_of_ble_eq_true rfl) (?_ : am_T _ _ _ _ _ 0 [some (aR b), some (aI l), some (aI c)] [] w)
  have hV9 := hV
  obtain ⟨v1, v2, v3, v4, v5, v6, v7, v8, v9, v10, v11, v12, v13, v14, v15, v16, v17, v18, v19, v20, v21, v22⟩ := hV9
  have q9 := am_mulb (f_leaked_b hL l c) hT
  refine T_aload_n (am_dec tX9_damages_0 0 rfl) rfl ?_
  refine T_iload_n (am_dec tX9_damages_0 1 rfl) rfl ?_
  refine T_iload_n (am_dec tX9_damages_0 2 rfl) rfl ?_
  refine T_callV (as := [aI l, aI c]) rfl (am_dec tX9_damages_0 3 rfl) lkX9_176 (hR 0 (by decide)) rfl rfl (Nat.le_of_ble_eq_true rfl) (by omega) (m_leaked hR l c) (fun _ => ?_)
  refine T_aload_n (am_dec tX9_damages_0 4 rfl) rfl ?_
  refine T_getfield 8 0 (am_dec tX9_damages_0 5 rfl) flX9_43_8 (hR 0 (by decide)) rfl ?_
  refine T_getfield 3 7 (am_dec tX9_damages_0 6 rfl) flX9_179_3 (hH 0 (by decide)) rfl ?_
  refine T_iload_n (am_dec tX9_damages_0 7 rfl) rfl ?_
  refine T_iconst 1 (am_dec tX9_damages_0 8 rfl) rfl ⟨by decide, by decide⟩ ?_
  refine T_callV (as := [aI c, aI 1]) rfl (am_dec tX9_damages_0 9 rfl) lkX9_124 (hH 9 (by decide)) rfl rfl (Nat.le_of_ble_eq_true rfl) (by omega) (m_at (hH 9 (by decide)) (hH 10 (by decide)) (by omega) c 1) (fun _ => ?_)
  refine T_imul ((f_leaked r l c) * (f_at (h 0 7) (h 5) c 1)) (am_dec tX9_damages_0 10 rfl) rfl q9 ?_
  exact T_ireturn (am_dec tX9_damages_0 11 rfl) rfl (am_outI rfl)
def f_seed (x : Int) : Int := am_w32 (am_w32 (x * 1103515245) + 12345)
def f_eighth (x : Int) : Int := (((((Int32.ofInt x).toUInt32 >>> ((Int32.ofInt 16).toUInt32 &&& Int32.toUInt32 31)).toInt32) &&& 7 : Int32)).toInt
