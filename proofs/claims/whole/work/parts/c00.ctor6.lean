/-! constructors: a harbour, a run -/
theorem ap_ov {v l : AH} {n : Nat} {C : Nat → AC} (hn : l.length = n) : am_ov (v ++ l) v.length n C = v ++ (List.range n).map C := by
  refine am_ovext fun j => ?_
  by_cases h : j < v.length
  · rw [am_ovo j (Or.inl h), List.getElem?_append_left h, List.getElem?_append_left h]
  · by_cases h2 : j < v.length + n
    · obtain ⟨k, rfl⟩ : ∃ k, j = v.length + k := ⟨j - v.length, by omega⟩
      rw [am_ovi (by rw [List.length_append]; omega) k (by omega), ap_get, List.getElem?_map, List.getElem?_range (by omega)]
      rfl
    · rw [am_ovo j (Or.inr (by omega)), List.getElem?_append_right (by omega), List.getElem?_append_right (by omega), List.getElem?_eq_none (by omega), List.getElem?_eq_none (by rw [List.length_map, List.length_range]; omega)]
def z0F : am_F := fun _ _ => 0
def hbL (b : Nat) (h : am_F) : AH := (List.range 20).map (hbC b h)
def rnL (b c : Nat) (r : am_F) : AH := (List.range 10).map (rnC b c r)
theorem hbL_len {b : Nat} {h : am_F} : (hbL b h).length = 20 := rfl
theorem rnL_len {b c : Nat} {r : am_F} : (rnL b c r).length = 10 := rfl
theorem mi_hreset {S : am_S} {d : Nat} {v L : AH} (hL : L.length = 20) (hC : ∀ k, k < 20 → L[k]? = some (hbC v.length z0F k)) (hd : 1 ≤ d) : am_Out S zX3_reset d 0 [aR (v.length + 0)] (v ++ L) (.inl none) (v ++ hbL v.length (c_reset z0F)) := am_OutE (mc_reset (w := v ++ L) (b := v.length) (h := z0F) (by rw [ap_len hL]; exact Nat.le_refl _) hd) (hbW_self (fun k hk => ap_get.trans (hC k hk))) (ap_ov hL)
theorem mi_rbegin {S : am_S} {d c : Nat} {h : am_F} {v L : AH} (hL : L.length = 10) (hC0 : L[0]? = some (cO 8 [aN, aI 0, aI 0, aI 0, aI 0, aI 0, aR (v.length + 1), aR (v.length + 2), aR (v.length + 3), aR (v.length + 4), aR (v.length + 5), aR (v.length + 6), aR (v.length + 7), aR (v.length + 8), aR (v.length + 9)])) (hC : ∀ k, 1 ≤ k → k < 10 → L[k]? = some (rnC v.length 0 z0F k)) (hH : Hb v c h) (hcl : c + 20 ≤ v.length) (hV : HbV h) (hFs : FsB h) (hd : 2 ≤ d) : am_Out S zX9_begin d 0 [aR (v.length + 0), aR c] (v ++ L) (.inl none) (v ++ rnL v.length c (f_begin h z0F)) := am_OutE (m_begin (w := v ++ L) (b := v.length) (c := c) (v := aN) (r := z0F) (h := h) ⟨(ap_get (i := 0)).trans hC0, fun k a1 a2 => ap_get.trans (hC k a1 a2)⟩ (Or.inl hcl) (fun k hk => (List.getElem?_append_left (by omega)).trans (hH k hk)) hV (fun j => ⟨Int.le_refl 0, (by decide : (0 : Int) ≤ 99)⟩) hFs hd) rfl (ap_ov hL)
theorem mi_harbour {S : am_S} {d : Nat} {v : AH}  (hd : 2 ≤ d) : am_Out S zX3_init d 19 [aR (v.length + 0)] (v ++ [cO 3 [aI 0, aI 0, aI 0, aN, aN, aN, aN, aN, aN, aN, aN, aN, aN, aN]]) (.inl none) (v ++ hbL v.length (c_reset z0F)) := by
  refine am_body rfl (by decide +kernel) rfl (am_cats_cons rfl (am_cats_nil)) (Nat.le_of_ble_eq_true rfl) (?_ : am_T _ _ _ _ _ 0 [some (aR (v.length + 0))] [] (v ++ [cO 3 [aI 0, aI 0, aI 0, aN, aN, aN, aN, aN, aN, aN, aN, aN, aN, aN]]))
  refine T_aload_n (am_dec tX3_init_0 0 rfl) rfl ?_
  refine T_objInit (am_dec tX3_init_0 1 rfl) (am_m1 41 rfl rfl) (am_m1 34 rfl rfl) (am_m1 35 rfl rfl) (by decide) (by omega) ?_
  refine T_aload_n (am_dec tX3_init_0 2 rfl) rfl ?_
  refine C_new (k9 := 1) (fs := [aI 0, aN, aI 0]) 9 (am_dec tX3_init_0 3 rfl) rfl cl9 (am_m1 42 rfl rfl) (am_m1 43 rfl rfl) (am_m1 3 rfl rfl) (by
    intro j hj
    have e : j = 0 ∨ j = 1 ∨ j = 2 := by
      change j < 3 at hj
      omega
    rcases e with e | e | e <;> subst e <;> exact ⟨_, rfl, fun _ _ => by rfl⟩) (by
    intro x hx
    simp only [List.mem_cons, List.not_mem_nil, or_false] at hx
    rcases hx with e | e | e <;> subst e <;> trivial) (by decide) (by omega) rfl ?_
  refine T_dup (am_dec tX3_init_0 4 rfl) rfl ?_
  refine T_bipush 12 (am_dec tX3_init_0 5 rfl) rfl ⟨by decide, by decide⟩ ?_
  refine T_callI (as := [aI 12]) rfl (am_dec tX3_init_0 6 rfl) lkX3_11 rfl (Nat.le_of_ble_eq_true rfl) (by omega) (by omega) (mi_table_at (d := d - 1) (l := [cO 3 [aI 0, aI 0, aI 0, aN, aN, aN, aN, aN, aN, aN, aN, aN, aN, aN]]) 12 ⟨by decide, by decide⟩ (by omega) rfl) (fun _ => ?_)
  refine C_putF (fs' := [aI 0, aI 0, aI 0, aR (v.length + 1), aN, aN, aN, aN, aN, aN, aN, aN, aN, aN]) (l' := [cO 3 [aI 0, aI 0, aI 0, aR (v.length + 1), aN, aN, aN, aN, aN, aN, aN, aN, aN, aN], cO 9 [aI 12, aR (v.length + 2), aI 0], cP 0 48 (fun _ => 0)]) 3 3 (am_dec tX3_init_0 7 rfl) flX3_14_3 rfl rfl rfl rfl rfl trivial rfl (Nat.le_of_ble_eq_true rfl) rfl rfl ?_
  refine T_aload_n (am_dec tX3_init_0 8 rfl) rfl ?_
  refine C_new (k9 := 3) (fs := [aI 0, aN, aI 0]) 9 (am_dec tX3_init_0 9 rfl) rfl cl9 (am_m1 42 rfl rfl) (am_m1 43 rfl rfl) (am_m1 3 rfl rfl) (by
    intro j hj
    have e : j = 0 ∨ j = 1 ∨ j = 2 := by
      change j < 3 at hj
      omega
    rcases e with e | e | e <;> subst e <;> exact ⟨_, rfl, fun _ _ => by rfl⟩) (by
    intro x hx
    simp only [List.mem_cons, List.not_mem_nil, or_false] at hx
    rcases hx with e | e | e <;> subst e <;> trivial) (by decide) (by omega) rfl ?_
  refine T_dup (am_dec tX3_init_0 10 rfl) rfl ?_
  refine T_bipush 12 (am_dec tX3_init_0 11 rfl) rfl ⟨by decide, by decide⟩ ?_
  refine T_callI (as := [aI 12]) rfl (am_dec tX3_init_0 12 rfl) lkX3_11 rfl (Nat.le_of_ble_eq_true rfl) (by omega) (by omega) (mi_table_at (d := d - 1) (l := [cO 3 [aI 0, aI 0, aI 0, aR (v.length + 1), aN, aN, aN, aN, aN, aN, aN, aN, aN, aN], cO 9 [aI 12, aR (v.length + 2), aI 0], cP 0 48 (fun _ => 0)]) 12 ⟨by decide, by decide⟩ (by omega) rfl) (fun _ => ?_)
  refine C_putF (fs' := [aI 0, aI 0, aI 0, aR (v.length + 1), aR (v.length + 3), aN, aN, aN, aN, aN, aN, aN, aN, aN]) (l' := [cO 3 [aI 0, aI 0, aI 0, aR (v.length + 1), aR (v.length + 3), aN, aN, aN, aN, aN, aN, aN, aN, aN], cO 9 [aI 12, aR (v.length + 2), aI 0], cP 0 48 (fun _ => 0), cO 9 [aI 12, aR (v.length + 4), aI 0], cP 0 48 (fun _ => 0)]) 3 4 (am_dec tX3_init_0 13 rfl) flX3_20_3 rfl rfl rfl rfl rfl trivial rfl (Nat.le_of_ble_eq_true rfl) rfl rfl ?_
  refine T_aload_n (am_dec tX3_init_0 14 rfl) rfl ?_
  refine C_new (k9 := 5) (fs := [aI 0, aN, aI 0]) 9 (am_dec tX3_init_0 15 rfl) rfl cl9 (am_m1 42 rfl rfl) (am_m1 43 rfl rfl) (am_m1 3 rfl rfl) (by
    intro j hj
    have e : j = 0 ∨ j = 1 ∨ j = 2 := by
      change j < 3 at hj
      omega
    rcases e with e | e | e <;> subst e <;> exact ⟨_, rfl, fun _ _ => by rfl⟩) (by
    intro x hx
    simp only [List.mem_cons, List.not_mem_nil, or_false] at hx
    rcases hx with e | e | e <;> subst e <;> trivial) (by decide) (by omega) rfl ?_
  refine T_dup (am_dec tX3_init_0 16 rfl) rfl ?_
  refine T_bipush 6 (am_dec tX3_init_0 17 rfl) rfl ⟨by decide, by decide⟩ ?_
  refine T_callI (as := [aI 6]) rfl (am_dec tX3_init_0 18 rfl) lkX3_11 rfl (Nat.le_of_ble_eq_true rfl) (by omega) (by omega) (mi_table_at (d := d - 1) (l := [cO 3 [aI 0, aI 0, aI 0, aR (v.length + 1), aR (v.length + 3), aN, aN, aN, aN, aN, aN, aN, aN, aN], cO 9 [aI 12, aR (v.length + 2), aI 0], cP 0 48 (fun _ => 0), cO 9 [aI 12, aR (v.length + 4), aI 0], cP 0 48 (fun _ => 0)]) 6 ⟨by decide, by decide⟩ (by omega) rfl) (fun _ => ?_)
  refine C_putF (fs' := [aI 0, aI 0, aI 0, aR (v.length + 1), aR (v.length + 3), aR (v.length + 5), aN, aN, aN, aN, aN, aN, aN, aN]) (l' := [cO 3 [aI 0, aI 0, aI 0, aR (v.length + 1), aR (v.length + 3), aR (v.length + 5), aN, aN, aN, aN, aN, aN, aN, aN], cO 9 [aI 12, aR (v.length + 2), aI 0], cP 0 48 (fun _ => 0), cO 9 [aI 12, aR (v.length + 4), aI 0], cP 0 48 (fun _ => 0), cO 9 [aI 6, aR (v.length + 6), aI 0], cP 0 48 (fun _ => 0)]) 3 5 (am_dec tX3_init_0 19 rfl) flX3_23_3 rfl rfl rfl rfl rfl trivial rfl (Nat.le_of_ble_eq_true rfl) rfl rfl ?_
  refine T_aload_n (am_dec tX3_init_0 20 rfl) rfl ?_
  refine C_new (k9 := 7) (fs := [aI 0, aN, aI 0]) 9 (am_dec tX3_init_0 21 rfl) rfl cl9 (am_m1 42 rfl rfl) (am_m1 43 rfl rfl) (am_m1 3 rfl rfl) (by
    intro j hj
    have e : j = 0 ∨ j = 1 ∨ j = 2 := by
      change j < 3 at hj
      omega
    rcases e with e | e | e <;> subst e <;> exact ⟨_, rfl, fun _ _ => by rfl⟩) (by
    intro x hx
    simp only [List.mem_cons, List.not_mem_nil, or_false] at hx
    rcases hx with e | e | e <;> subst e <;> trivial) (by decide) (by omega) rfl ?_
  refine T_dup (am_dec tX3_init_0 22 rfl) rfl ?_
  refine T_bipush 6 (am_dec tX3_init_0 23 rfl) rfl ⟨by decide, by decide⟩ ?_
  refine T_callI (as := [aI 6]) rfl (am_dec tX3_init_0 24 rfl) lkX3_11 rfl (Nat.le_of_ble_eq_true rfl) (by omega) (by omega) (mi_table_at (d := d - 1) (l := [cO 3 [aI 0, aI 0, aI 0, aR (v.length + 1), aR (v.length + 3), aR (v.length + 5), aN, aN, aN, aN, aN, aN, aN, aN], cO 9 [aI 12, aR (v.length + 2), aI 0], cP 0 48 (fun _ => 0), cO 9 [aI 12, aR (v.length + 4), aI 0], cP 0 48 (fun _ => 0), cO 9 [aI 6, aR (v.length + 6), aI 0], cP 0 48 (fun _ => 0)]) 6 ⟨by decide, by decide⟩ (by omega) rfl) (fun _ => ?_)
  refine C_putF (fs' := [aI 0, aI 0, aI 0, aR (v.length + 1), aR (v.length + 3), aR (v.length + 5), aR (v.length + 7), aN, aN, aN, aN, aN, aN, aN]) (l' := [cO 3 [aI 0, aI 0, aI 0, aR (v.length + 1), aR (v.length + 3), aR (v.length + 5), aR (v.length + 7), aN, aN, aN, aN, aN, aN, aN], cO 9 [aI 12, aR (v.length + 2), aI 0], cP 0 48 (fun _ => 0), cO 9 [aI 12, aR (v.length + 4), aI 0], cP 0 48 (fun _ => 0), cO 9 [aI 6, aR (v.length + 6), aI 0], cP 0 48 (fun _ => 0), cO 9 [aI 6, aR (v.length + 8), aI 0], cP 0 48 (fun _ => 0)]) 3 6 (am_dec tX3_init_0 25 rfl) flX3_26_3 rfl rfl rfl rfl rfl trivial rfl (Nat.le_of_ble_eq_true rfl) rfl rfl ?_
  refine T_aload_n (am_dec tX3_init_0 26 rfl) rfl ?_
  refine C_new (k9 := 9) (fs := [aI 0, aN, aI 0]) 9 (am_dec tX3_init_0 27 rfl) rfl cl9 (am_m1 42 rfl rfl) (am_m1 43 rfl rfl) (am_m1 3 rfl rfl) (by
    intro j hj
    have e : j = 0 ∨ j = 1 ∨ j = 2 := by
      change j < 3 at hj
      omega
    rcases e with e | e | e <;> subst e <;> exact ⟨_, rfl, fun _ _ => by rfl⟩) (by
    intro x hx
    simp only [List.mem_cons, List.not_mem_nil, or_false] at hx
    rcases hx with e | e | e <;> subst e <;> trivial) (by decide) (by omega) rfl ?_
  refine T_dup (am_dec tX3_init_0 28 rfl) rfl ?_
  refine T_bipush 6 (am_dec tX3_init_0 29 rfl) rfl ⟨by decide, by decide⟩ ?_
  refine T_callI (as := [aI 6]) rfl (am_dec tX3_init_0 30 rfl) lkX3_11 rfl (Nat.le_of_ble_eq_true rfl) (by omega) (by omega) (mi_table_at (d := d - 1) (l := [cO 3 [aI 0, aI 0, aI 0, aR (v.length + 1), aR (v.length + 3), aR (v.length + 5), aR (v.length + 7), aN, aN, aN, aN, aN, aN, aN], cO 9 [aI 12, aR (v.length + 2), aI 0], cP 0 48 (fun _ => 0), cO 9 [aI 12, aR (v.length + 4), aI 0], cP 0 48 (fun _ => 0), cO 9 [aI 6, aR (v.length + 6), aI 0], cP 0 48 (fun _ => 0), cO 9 [aI 6, aR (v.length + 8), aI 0], cP 0 48 (fun _ => 0)]) 6 ⟨by decide, by decide⟩ (by omega) rfl) (fun _ => ?_)
  refine C_putF (fs' := [aI 0, aI 0, aI 0, aR (v.length + 1), aR (v.length + 3), aR (v.length + 5), aR (v.length + 7), aR (v.length + 9), aN, aN, aN, aN, aN, aN]) (l' := [cO 3 [aI 0, aI 0, aI 0, aR (v.length + 1), aR (v.length + 3), aR (v.length + 5), aR (v.length + 7), aR (v.length + 9), aN, aN, aN, aN, aN, aN], cO 9 [aI 12, aR (v.length + 2), aI 0], cP 0 48 (fun _ => 0), cO 9 [aI 12, aR (v.length + 4), aI 0], cP 0 48 (fun _ => 0), cO 9 [aI 6, aR (v.length + 6), aI 0], cP 0 48 (fun _ => 0), cO 9 [aI 6, aR (v.length + 8), aI 0], cP 0 48 (fun _ => 0), cO 9 [aI 6, aR (v.length + 10), aI 0], cP 0 48 (fun _ => 0)]) 3 7 (am_dec tX3_init_0 31 rfl) flX3_29_3 rfl rfl rfl rfl rfl trivial rfl (Nat.le_of_ble_eq_true rfl) rfl rfl ?_
  refine T_aload_n (am_dec tX3_init_0 32 rfl) rfl ?_
  refine C_new (k9 := 11) (fs := [aI 0, aN, aI 0]) 9 (am_dec tX3_init_0 33 rfl) rfl cl9 (am_m1 42 rfl rfl) (am_m1 43 rfl rfl) (am_m1 3 rfl rfl) (by
    intro j hj
    have e : j = 0 ∨ j = 1 ∨ j = 2 := by
      change j < 3 at hj
      omega
    rcases e with e | e | e <;> subst e <;> exact ⟨_, rfl, fun _ _ => by rfl⟩) (by
    intro x hx
    simp only [List.mem_cons, List.not_mem_nil, or_false] at hx
    rcases hx with e | e | e <;> subst e <;> trivial) (by decide) (by omega) rfl ?_
  refine T_dup (am_dec tX3_init_0 34 rfl) rfl ?_
  refine T_iconst 4 (am_dec tX3_init_0 35 rfl) rfl ⟨by decide, by decide⟩ ?_
  refine T_callI (as := [aI 4]) rfl (am_dec tX3_init_0 36 rfl) lkX3_11 rfl (Nat.le_of_ble_eq_true rfl) (by omega) (by omega) (mi_table_at (d := d - 1) (l := [cO 3 [aI 0, aI 0, aI 0, aR (v.length + 1), aR (v.length + 3), aR (v.length + 5), aR (v.length + 7), aR (v.length + 9), aN, aN, aN, aN, aN, aN], cO 9 [aI 12, aR (v.length + 2), aI 0], cP 0 48 (fun _ => 0), cO 9 [aI 12, aR (v.length + 4), aI 0], cP 0 48 (fun _ => 0), cO 9 [aI 6, aR (v.length + 6), aI 0], cP 0 48 (fun _ => 0), cO 9 [aI 6, aR (v.length + 8), aI 0], cP 0 48 (fun _ => 0), cO 9 [aI 6, aR (v.length + 10), aI 0], cP 0 48 (fun _ => 0)]) 4 ⟨by decide, by decide⟩ (by omega) rfl) (fun _ => ?_)
  refine C_putF (fs' := [aI 0, aI 0, aI 0, aR (v.length + 1), aR (v.length + 3), aR (v.length + 5), aR (v.length + 7), aR (v.length + 9), aR (v.length + 11), aN, aN, aN, aN, aN]) (l' := [cO 3 [aI 0, aI 0, aI 0, aR (v.length + 1), aR (v.length + 3), aR (v.length + 5), aR (v.length + 7), aR (v.length + 9), aR (v.length + 11), aN, aN, aN, aN, aN], cO 9 [aI 12, aR (v.length + 2), aI 0], cP 0 48 (fun _ => 0), cO 9 [aI 12, aR (v.length + 4), aI 0], cP 0 48 (fun _ => 0), cO 9 [aI 6, aR (v.length + 6), aI 0], cP 0 48 (fun _ => 0), cO 9 [aI 6, aR (v.length + 8), aI 0], cP 0 48 (fun _ => 0), cO 9 [aI 6, aR (v.length + 10), aI 0], cP 0 48 (fun _ => 0), cO 9 [aI 4, aR (v.length + 12), aI 0], cP 0 48 (fun _ => 0)]) 3 8 (am_dec tX3_init_0 37 rfl) flX3_32_3 rfl rfl rfl rfl rfl trivial rfl (Nat.le_of_ble_eq_true rfl) rfl rfl ?_
  refine T_aload_n (am_dec tX3_init_0 38 rfl) rfl ?_
  refine C_new (k9 := 13) (fs := [aI 0, aN, aI 0]) 9 (am_dec tX3_init_0 39 rfl) rfl cl9 (am_m1 42 rfl rfl) (am_m1 43 rfl rfl) (am_m1 3 rfl rfl) (by
    intro j hj
    have e : j = 0 ∨ j = 1 ∨ j = 2 := by
      change j < 3 at hj
      omega
    rcases e with e | e | e <;> subst e <;> exact ⟨_, rfl, fun _ _ => by rfl⟩) (by
    intro x hx
    simp only [List.mem_cons, List.not_mem_nil, or_false] at hx
    rcases hx with e | e | e <;> subst e <;> trivial) (by decide) (by omega) rfl ?_
  refine T_dup (am_dec tX3_init_1 0 rfl) rfl ?_
  refine T_iconst 4 (am_dec tX3_init_1 1 rfl) rfl ⟨by decide, by decide⟩ ?_
  refine T_callI (as := [aI 4]) rfl (am_dec tX3_init_1 2 rfl) lkX3_11 rfl (Nat.le_of_ble_eq_true rfl) (by omega) (by omega) (mi_table_at (d := d - 1) (l := [cO 3 [aI 0, aI 0, aI 0, aR (v.length + 1), aR (v.length + 3), aR (v.length + 5), aR (v.length + 7), aR (v.length + 9), aR (v.length + 11), aN, aN, aN, aN, aN], cO 9 [aI 12, aR (v.length + 2), aI 0], cP 0 48 (fun _ => 0), cO 9 [aI 12, aR (v.length + 4), aI 0], cP 0 48 (fun _ => 0), cO 9 [aI 6, aR (v.length + 6), aI 0], cP 0 48 (fun _ => 0), cO 9 [aI 6, aR (v.length + 8), aI 0], cP 0 48 (fun _ => 0), cO 9 [aI 6, aR (v.length + 10), aI 0], cP 0 48 (fun _ => 0), cO 9 [aI 4, aR (v.length + 12), aI 0], cP 0 48 (fun _ => 0)]) 4 ⟨by decide, by decide⟩ (by omega) rfl) (fun _ => ?_)
  refine C_putF (fs' := [aI 0, aI 0, aI 0, aR (v.length + 1), aR (v.length + 3), aR (v.length + 5), aR (v.length + 7), aR (v.length + 9), aR (v.length + 11), aR (v.length + 13), aN, aN, aN, aN]) (l' := [cO 3 [aI 0, aI 0, aI 0, aR (v.length + 1), aR (v.length + 3), aR (v.length + 5), aR (v.length + 7), aR (v.length + 9), aR (v.length + 11), aR (v.length + 13), aN, aN, aN, aN], cO 9 [aI 12, aR (v.length + 2), aI 0], cP 0 48 (fun _ => 0), cO 9 [aI 12, aR (v.length + 4), aI 0], cP 0 48 (fun _ => 0), cO 9 [aI 6, aR (v.length + 6), aI 0], cP 0 48 (fun _ => 0), cO 9 [aI 6, aR (v.length + 8), aI 0], cP 0 48 (fun _ => 0), cO 9 [aI 6, aR (v.length + 10), aI 0], cP 0 48 (fun _ => 0), cO 9 [aI 4, aR (v.length + 12), aI 0], cP 0 48 (fun _ => 0), cO 9 [aI 4, aR (v.length + 14), aI 0], cP 0 48 (fun _ => 0)]) 3 9 (am_dec tX3_init_1 3 rfl) flX3_35_3 rfl rfl rfl rfl rfl trivial rfl (Nat.le_of_ble_eq_true rfl) rfl rfl ?_
  refine T_aload_n (am_dec tX3_init_1 4 rfl) rfl ?_
  refine C_new (k9 := 15) (fs := [aI 0, aN, aI 0]) 9 (am_dec tX3_init_1 5 rfl) rfl cl9 (am_m1 42 rfl rfl) (am_m1 43 rfl rfl) (am_m1 3 rfl rfl) (by
    intro j hj
    have e : j = 0 ∨ j = 1 ∨ j = 2 := by
      change j < 3 at hj
      omega
    rcases e with e | e | e <;> subst e <;> exact ⟨_, rfl, fun _ _ => by rfl⟩) (by
    intro x hx
    simp only [List.mem_cons, List.not_mem_nil, or_false] at hx
    rcases hx with e | e | e <;> subst e <;> trivial) (by decide) (by omega) rfl ?_
  refine T_dup (am_dec tX3_init_1 6 rfl) rfl ?_
  refine T_iconst 4 (am_dec tX3_init_1 7 rfl) rfl ⟨by decide, by decide⟩ ?_
  refine T_callI (as := [aI 4]) rfl (am_dec tX3_init_1 8 rfl) lkX3_11 rfl (Nat.le_of_ble_eq_true rfl) (by omega) (by omega) (mi_table_at (d := d - 1) (l := [cO 3 [aI 0, aI 0, aI 0, aR (v.length + 1), aR (v.length + 3), aR (v.length + 5), aR (v.length + 7), aR (v.length + 9), aR (v.length + 11), aR (v.length + 13), aN, aN, aN, aN], cO 9 [aI 12, aR (v.length + 2), aI 0], cP 0 48 (fun _ => 0), cO 9 [aI 12, aR (v.length + 4), aI 0], cP 0 48 (fun _ => 0), cO 9 [aI 6, aR (v.length + 6), aI 0], cP 0 48 (fun _ => 0), cO 9 [aI 6, aR (v.length + 8), aI 0], cP 0 48 (fun _ => 0), cO 9 [aI 6, aR (v.length + 10), aI 0], cP 0 48 (fun _ => 0), cO 9 [aI 4, aR (v.length + 12), aI 0], cP 0 48 (fun _ => 0), cO 9 [aI 4, aR (v.length + 14), aI 0], cP 0 48 (fun _ => 0)]) 4 ⟨by decide, by decide⟩ (by omega) rfl) (fun _ => ?_)
  refine C_putF (fs' := [aI 0, aI 0, aI 0, aR (v.length + 1), aR (v.length + 3), aR (v.length + 5), aR (v.length + 7), aR (v.length + 9), aR (v.length + 11), aR (v.length + 13), aR (v.length + 15), aN, aN, aN]) (l' := [cO 3 [aI 0, aI 0, aI 0, aR (v.length + 1), aR (v.length + 3), aR (v.length + 5), aR (v.length + 7), aR (v.length + 9), aR (v.length + 11), aR (v.length + 13), aR (v.length + 15), aN, aN, aN], cO 9 [aI 12, aR (v.length + 2), aI 0], cP 0 48 (fun _ => 0), cO 9 [aI 12, aR (v.length + 4), aI 0], cP 0 48 (fun _ => 0), cO 9 [aI 6, aR (v.length + 6), aI 0], cP 0 48 (fun _ => 0), cO 9 [aI 6, aR (v.length + 8), aI 0], cP 0 48 (fun _ => 0), cO 9 [aI 6, aR (v.length + 10), aI 0], cP 0 48 (fun _ => 0), cO 9 [aI 4, aR (v.length + 12), aI 0], cP 0 48 (fun _ => 0), cO 9 [aI 4, aR (v.length + 14), aI 0], cP 0 48 (fun _ => 0), cO 9 [aI 4, aR (v.length + 16), aI 0], cP 0 48 (fun _ => 0)]) 3 10 (am_dec tX3_init_1 9 rfl) flX3_38_3 rfl rfl rfl rfl rfl trivial rfl (Nat.le_of_ble_eq_true rfl) rfl rfl ?_
  refine T_aload_n (am_dec tX3_init_1 10 rfl) rfl ?_
  refine T_bipush 52 (am_dec tX3_init_1 11 rfl) rfl ⟨by decide, by decide⟩ ?_
  refine C_newI (k9 := 17) (am_dec tX3_init_1 12 rfl) (am_m1 68 rfl rfl) (by decide) (by decide) (by omega) rfl ?_
  refine C_putF (fs' := [aI 0, aI 0, aI 0, aR (v.length + 1), aR (v.length + 3), aR (v.length + 5), aR (v.length + 7), aR (v.length + 9), aR (v.length + 11), aR (v.length + 13), aR (v.length + 15), aR (v.length + 17), aN, aN]) (l' := [cO 3 [aI 0, aI 0, aI 0, aR (v.length + 1), aR (v.length + 3), aR (v.length + 5), aR (v.length + 7), aR (v.length + 9), aR (v.length + 11), aR (v.length + 13), aR (v.length + 15), aR (v.length + 17), aN, aN], cO 9 [aI 12, aR (v.length + 2), aI 0], cP 0 48 (fun _ => 0), cO 9 [aI 12, aR (v.length + 4), aI 0], cP 0 48 (fun _ => 0), cO 9 [aI 6, aR (v.length + 6), aI 0], cP 0 48 (fun _ => 0), cO 9 [aI 6, aR (v.length + 8), aI 0], cP 0 48 (fun _ => 0), cO 9 [aI 6, aR (v.length + 10), aI 0], cP 0 48 (fun _ => 0), cO 9 [aI 4, aR (v.length + 12), aI 0], cP 0 48 (fun _ => 0), cO 9 [aI 4, aR (v.length + 14), aI 0], cP 0 48 (fun _ => 0), cO 9 [aI 4, aR (v.length + 16), aI 0], cP 0 48 (fun _ => 0), cP 0 52 (fun _ => 0)]) 3 11 (am_dec tX3_init_1 13 rfl) flX3_41_3 rfl rfl rfl rfl rfl trivial rfl (Nat.le_of_ble_eq_true rfl) rfl rfl ?_
  refine T_aload_n (am_dec tX3_init_1 14 rfl) rfl ?_
  refine T_bipush 90 (am_dec tX3_init_1 15 rfl) rfl ⟨by decide, by decide⟩ ?_
  refine C_newI (k9 := 18) (am_dec tX3_init_1 16 rfl) (am_m1 68 rfl rfl) (by decide) (by decide) (by omega) rfl ?_
  refine C_putF (fs' := [aI 0, aI 0, aI 0, aR (v.length + 1), aR (v.length + 3), aR (v.length + 5), aR (v.length + 7), aR (v.length + 9), aR (v.length + 11), aR (v.length + 13), aR (v.length + 15), aR (v.length + 17), aR (v.length + 18), aN]) (l' := [cO 3 [aI 0, aI 0, aI 0, aR (v.length + 1), aR (v.length + 3), aR (v.length + 5), aR (v.length + 7), aR (v.length + 9), aR (v.length + 11), aR (v.length + 13), aR (v.length + 15), aR (v.length + 17), aR (v.length + 18), aN], cO 9 [aI 12, aR (v.length + 2), aI 0], cP 0 48 (fun _ => 0), cO 9 [aI 12, aR (v.length + 4), aI 0], cP 0 48 (fun _ => 0), cO 9 [aI 6, aR (v.length + 6), aI 0], cP 0 48 (fun _ => 0), cO 9 [aI 6, aR (v.length + 8), aI 0], cP 0 48 (fun _ => 0), cO 9 [aI 6, aR (v.length + 10), aI 0], cP 0 48 (fun _ => 0), cO 9 [aI 4, aR (v.length + 12), aI 0], cP 0 48 (fun _ => 0), cO 9 [aI 4, aR (v.length + 14), aI 0], cP 0 48 (fun _ => 0), cO 9 [aI 4, aR (v.length + 16), aI 0], cP 0 48 (fun _ => 0), cP 0 52 (fun _ => 0), cP 0 90 (fun _ => 0)]) 3 12 (am_dec tX3_init_1 17 rfl) flX3_45_3 rfl rfl rfl rfl rfl trivial rfl (Nat.le_of_ble_eq_true rfl) rfl rfl ?_
  refine T_aload_n (am_dec tX3_init_1 18 rfl) rfl ?_
  refine T_bipush 90 (am_dec tX3_init_1 19 rfl) rfl ⟨by decide, by decide⟩ ?_
  refine C_newI (k9 := 19) (am_dec tX3_init_1 20 rfl) (am_m1 68 rfl rfl) (by decide) (by decide) (by omega) rfl ?_
  refine C_putF (fs' := [aI 0, aI 0, aI 0, aR (v.length + 1), aR (v.length + 3), aR (v.length + 5), aR (v.length + 7), aR (v.length + 9), aR (v.length + 11), aR (v.length + 13), aR (v.length + 15), aR (v.length + 17), aR (v.length + 18), aR (v.length + 19)]) (l' := [cO 3 [aI 0, aI 0, aI 0, aR (v.length + 1), aR (v.length + 3), aR (v.length + 5), aR (v.length + 7), aR (v.length + 9), aR (v.length + 11), aR (v.length + 13), aR (v.length + 15), aR (v.length + 17), aR (v.length + 18), aR (v.length + 19)], cO 9 [aI 12, aR (v.length + 2), aI 0], cP 0 48 (fun _ => 0), cO 9 [aI 12, aR (v.length + 4), aI 0], cP 0 48 (fun _ => 0), cO 9 [aI 6, aR (v.length + 6), aI 0], cP 0 48 (fun _ => 0), cO 9 [aI 6, aR (v.length + 8), aI 0], cP 0 48 (fun _ => 0), cO 9 [aI 6, aR (v.length + 10), aI 0], cP 0 48 (fun _ => 0), cO 9 [aI 4, aR (v.length + 12), aI 0], cP 0 48 (fun _ => 0), cO 9 [aI 4, aR (v.length + 14), aI 0], cP 0 48 (fun _ => 0), cO 9 [aI 4, aR (v.length + 16), aI 0], cP 0 48 (fun _ => 0), cP 0 52 (fun _ => 0), cP 0 90 (fun _ => 0), cP 0 90 (fun _ => 0)]) 3 13 (am_dec tX3_init_1 21 rfl) flX3_48_3 rfl rfl rfl rfl rfl trivial rfl (Nat.le_of_ble_eq_true rfl) rfl rfl ?_
  refine T_aload_n (am_dec tX3_init_1 22 rfl) rfl ?_
  refine T_callV (as := []) rfl (am_dec tX3_init_1 23 rfl) lkX3_51 ((ap_get (i := 0)).trans rfl) rfl rfl (Nat.le_of_ble_eq_true rfl) (by omega) (mi_hreset (d := d - 1) (L := [cO 3 [aI 0, aI 0, aI 0, aR (v.length + 1), aR (v.length + 3), aR (v.length + 5), aR (v.length + 7), aR (v.length + 9), aR (v.length + 11), aR (v.length + 13), aR (v.length + 15), aR (v.length + 17), aR (v.length + 18), aR (v.length + 19)], cO 9 [aI 12, aR (v.length + 2), aI 0], cP 0 48 (fun _ => 0), cO 9 [aI 12, aR (v.length + 4), aI 0], cP 0 48 (fun _ => 0), cO 9 [aI 6, aR (v.length + 6), aI 0], cP 0 48 (fun _ => 0), cO 9 [aI 6, aR (v.length + 8), aI 0], cP 0 48 (fun _ => 0), cO 9 [aI 6, aR (v.length + 10), aI 0], cP 0 48 (fun _ => 0), cO 9 [aI 4, aR (v.length + 12), aI 0], cP 0 48 (fun _ => 0), cO 9 [aI 4, aR (v.length + 14), aI 0], cP 0 48 (fun _ => 0), cO 9 [aI 4, aR (v.length + 16), aI 0], cP 0 48 (fun _ => 0), cP 0 52 (fun _ => 0), cP 0 90 (fun _ => 0), cP 0 90 (fun _ => 0)]) rfl (fun k hk => match k, hk with | 0, _ => rfl | 1, _ => rfl | 2, _ => rfl | 3, _ => rfl | 4, _ => rfl | 5, _ => rfl | 6, _ => rfl | 7, _ => rfl | 8, _ => rfl | 9, _ => rfl | 10, _ => rfl | 11, _ => rfl | 12, _ => rfl | 13, _ => rfl | 14, _ => rfl | 15, _ => rfl | 16, _ => rfl | 17, _ => rfl | 18, _ => rfl | 19, _ => rfl | n + 20, h => absurd h (by omega)) (by omega)) (fun _ => ?_)
  exact T_return (am_dec tX3_init_1 24 rfl) rfl ⟨rfl, rfl⟩
theorem mi_run {S : am_S} {d : Nat} {v : AH} {c : Nat} {h : am_F} (hH : Hb v c h) (hcl : c + 20 ≤ v.length) (hV : HbV h) (hFs : FsB h) (hd : 3 ≤ d) : am_Out S zX9_init d 9 [aR (v.length + 0), aR c] (v ++ [cO 8 [aN, aI 0, aI 0, aI 0, aI 0, aI 0, aN, aN, aN, aN, aN, aN, aN, aN, aN]]) (.inl none) (v ++ rnL v.length c (f_begin h z0F)) := by
  refine am_body rfl (by decide +kernel) rfl (am_cats_cons rfl (am_cats_cons rfl (am_cats_nil))) (Nat.le_of_ble_eq_true rfl) (?_ : am_T _ _ _ _ _ 0 [some (aR (v.length + 0)), some (aR c)] [] (v ++ [cO 8 [aN, aI 0, aI 0, aI 0, aI 0, aI 0, aN, aN, aN, aN, aN, aN, aN, aN, aN]]))
  refine T_aload_n (am_dec tX9_init_0 0 rfl) rfl ?_
  refine T_objInit (am_dec tX9_init_0 1 rfl) (am_m2 19 rfl rfl) (am_m1 34 rfl rfl) (am_m1 35 rfl rfl) (by decide) (by omega) ?_
  refine T_aload_n (am_dec tX9_init_0 2 rfl) rfl ?_
  refine T_sipush 3690 (am_dec tX9_init_0 3 rfl) rfl ⟨by decide, by decide⟩ ?_
  refine C_newI (k9 := 1) (am_dec tX9_init_0 4 rfl) (am_m1 68 rfl rfl) (by decide) (by decide) (by omega) rfl ?_
  refine C_putF (fs' := [aN, aI 0, aI 0, aI 0, aI 0, aI 0, aR (v.length + 1), aN, aN, aN, aN, aN, aN, aN, aN]) (l' := [cO 8 [aN, aI 0, aI 0, aI 0, aI 0, aI 0, aR (v.length + 1), aN, aN, aN, aN, aN, aN, aN, aN], cP 0 3690 (fun _ => 0)]) 8 6 (am_dec tX9_init_0 5 rfl) flX9_11_8 rfl rfl rfl rfl rfl trivial rfl (Nat.le_of_ble_eq_true rfl) rfl rfl ?_
  refine T_aload_n (am_dec tX9_init_0 6 rfl) rfl ?_
  refine T_bipush 41 (am_dec tX9_init_0 7 rfl) rfl ⟨by decide, by decide⟩ ?_
  refine C_newI (k9 := 2) (am_dec tX9_init_0 8 rfl) (am_m1 68 rfl rfl) (by decide) (by decide) (by omega) rfl ?_
  refine C_putF (fs' := [aN, aI 0, aI 0, aI 0, aI 0, aI 0, aR (v.length + 1), aR (v.length + 2), aN, aN, aN, aN, aN, aN, aN]) (l' := [cO 8 [aN, aI 0, aI 0, aI 0, aI 0, aI 0, aR (v.length + 1), aR (v.length + 2), aN, aN, aN, aN, aN, aN, aN], cP 0 3690 (fun _ => 0), cP 0 41 (fun _ => 0)]) 8 7 (am_dec tX9_init_0 9 rfl) flX9_15_8 rfl rfl rfl rfl rfl trivial rfl (Nat.le_of_ble_eq_true rfl) rfl rfl ?_
  refine T_aload_n (am_dec tX9_init_0 10 rfl) rfl ?_
  refine T_bipush 41 (am_dec tX9_init_0 11 rfl) rfl ⟨by decide, by decide⟩ ?_
  refine C_newI (k9 := 3) (am_dec tX9_init_0 12 rfl) (am_m1 68 rfl rfl) (by decide) (by decide) (by omega) rfl ?_
  refine C_putF (fs' := [aN, aI 0, aI 0, aI 0, aI 0, aI 0, aR (v.length + 1), aR (v.length + 2), aR (v.length + 3), aN, aN, aN, aN, aN, aN]) (l' := [cO 8 [aN, aI 0, aI 0, aI 0, aI 0, aI 0, aR (v.length + 1), aR (v.length + 2), aR (v.length + 3), aN, aN, aN, aN, aN, aN], cP 0 3690 (fun _ => 0), cP 0 41 (fun _ => 0), cP 0 41 (fun _ => 0)]) 8 8 (am_dec tX9_init_0 13 rfl) flX9_18_8 rfl rfl rfl rfl rfl trivial rfl (Nat.le_of_ble_eq_true rfl) rfl rfl ?_
  refine T_aload_n (am_dec tX9_init_0 14 rfl) rfl ?_
  refine T_bipush 41 (am_dec tX9_init_0 15 rfl) rfl ⟨by decide, by decide⟩ ?_
  refine C_newI (k9 := 4) (am_dec tX9_init_0 16 rfl) (am_m1 68 rfl rfl) (by decide) (by decide) (by omega) rfl ?_
  refine C_putF (fs' := [aN, aI 0, aI 0, aI 0, aI 0, aI 0, aR (v.length + 1), aR (v.length + 2), aR (v.length + 3), aR (v.length + 4), aN, aN, aN, aN, aN]) (l' := [cO 8 [aN, aI 0, aI 0, aI 0, aI 0, aI 0, aR (v.length + 1), aR (v.length + 2), aR (v.length + 3), aR (v.length + 4), aN, aN, aN, aN, aN], cP 0 3690 (fun _ => 0), cP 0 41 (fun _ => 0), cP 0 41 (fun _ => 0), cP 0 41 (fun _ => 0)]) 8 9 (am_dec tX9_init_0 17 rfl) flX9_21_8 rfl rfl rfl rfl rfl trivial rfl (Nat.le_of_ble_eq_true rfl) rfl rfl ?_
  refine T_aload_n (am_dec tX9_init_0 18 rfl) rfl ?_
  refine T_bipush 41 (am_dec tX9_init_0 19 rfl) rfl ⟨by decide, by decide⟩ ?_
  refine C_newI (k9 := 5) (am_dec tX9_init_0 20 rfl) (am_m1 68 rfl rfl) (by decide) (by decide) (by omega) rfl ?_
  refine C_putF (fs' := [aN, aI 0, aI 0, aI 0, aI 0, aI 0, aR (v.length + 1), aR (v.length + 2), aR (v.length + 3), aR (v.length + 4), aR (v.length + 5), aN, aN, aN, aN]) (l' := [cO 8 [aN, aI 0, aI 0, aI 0, aI 0, aI 0, aR (v.length + 1), aR (v.length + 2), aR (v.length + 3), aR (v.length + 4), aR (v.length + 5), aN, aN, aN, aN], cP 0 3690 (fun _ => 0), cP 0 41 (fun _ => 0), cP 0 41 (fun _ => 0), cP 0 41 (fun _ => 0), cP 0 41 (fun _ => 0)]) 8 10 (am_dec tX9_init_0 21 rfl) flX9_24_8 rfl rfl rfl rfl rfl trivial rfl (Nat.le_of_ble_eq_true rfl) rfl rfl ?_
  refine T_aload_n (am_dec tX9_init_0 22 rfl) rfl ?_
  refine T_bipush 41 (am_dec tX9_init_0 23 rfl) rfl ⟨by decide, by decide⟩ ?_
  refine C_newI (k9 := 6) (am_dec tX9_init_0 24 rfl) (am_m1 68 rfl rfl) (by decide) (by decide) (by omega) rfl ?_
  refine C_putF (fs' := [aN, aI 0, aI 0, aI 0, aI 0, aI 0, aR (v.length + 1), aR (v.length + 2), aR (v.length + 3), aR (v.length + 4), aR (v.length + 5), aR (v.length + 6), aN, aN, aN]) (l' := [cO 8 [aN, aI 0, aI 0, aI 0, aI 0, aI 0, aR (v.length + 1), aR (v.length + 2), aR (v.length + 3), aR (v.length + 4), aR (v.length + 5), aR (v.length + 6), aN, aN, aN], cP 0 3690 (fun _ => 0), cP 0 41 (fun _ => 0), cP 0 41 (fun _ => 0), cP 0 41 (fun _ => 0), cP 0 41 (fun _ => 0), cP 0 41 (fun _ => 0)]) 8 11 (am_dec tX9_init_0 25 rfl) flX9_27_8 rfl rfl rfl rfl rfl trivial rfl (Nat.le_of_ble_eq_true rfl) rfl rfl ?_
  refine T_aload_n (am_dec tX9_init_0 26 rfl) rfl ?_
  refine T_sipush 287 (am_dec tX9_init_0 27 rfl) rfl ⟨by decide, by decide⟩ ?_
  refine C_newI (k9 := 7) (am_dec tX9_init_0 28 rfl) (am_m1 68 rfl rfl) (by decide) (by decide) (by omega) rfl ?_
  refine C_putF (fs' := [aN, aI 0, aI 0, aI 0, aI 0, aI 0, aR (v.length + 1), aR (v.length + 2), aR (v.length + 3), aR (v.length + 4), aR (v.length + 5), aR (v.length + 6), aR (v.length + 7), aN, aN]) (l' := [cO 8 [aN, aI 0, aI 0, aI 0, aI 0, aI 0, aR (v.length + 1), aR (v.length + 2), aR (v.length + 3), aR (v.length + 4), aR (v.length + 5), aR (v.length + 6), aR (v.length + 7), aN, aN], cP 0 3690 (fun _ => 0), cP 0 41 (fun _ => 0), cP 0 41 (fun _ => 0), cP 0 41 (fun _ => 0), cP 0 41 (fun _ => 0), cP 0 41 (fun _ => 0), cP 0 287 (fun _ => 0)]) 8 12 (am_dec tX9_init_0 29 rfl) flX9_30_8 rfl rfl rfl rfl rfl trivial rfl (Nat.le_of_ble_eq_true rfl) rfl rfl ?_
  refine T_aload_n (am_dec tX9_init_0 30 rfl) rfl ?_
  refine T_sipush 630 (am_dec tX9_init_0 31 rfl) rfl ⟨by decide, by decide⟩ ?_
  refine C_newI (k9 := 8) (am_dec tX9_init_0 32 rfl) (am_m1 68 rfl rfl) (by decide) (by decide) (by omega) rfl ?_
  refine C_putF (fs' := [aN, aI 0, aI 0, aI 0, aI 0, aI 0, aR (v.length + 1), aR (v.length + 2), aR (v.length + 3), aR (v.length + 4), aR (v.length + 5), aR (v.length + 6), aR (v.length + 7), aR (v.length + 8), aN]) (l' := [cO 8 [aN, aI 0, aI 0, aI 0, aI 0, aI 0, aR (v.length + 1), aR (v.length + 2), aR (v.length + 3), aR (v.length + 4), aR (v.length + 5), aR (v.length + 6), aR (v.length + 7), aR (v.length + 8), aN], cP 0 3690 (fun _ => 0), cP 0 41 (fun _ => 0), cP 0 41 (fun _ => 0), cP 0 41 (fun _ => 0), cP 0 41 (fun _ => 0), cP 0 41 (fun _ => 0), cP 0 287 (fun _ => 0), cP 0 630 (fun _ => 0)]) 8 13 (am_dec tX9_init_0 33 rfl) flX9_33_8 rfl rfl rfl rfl rfl trivial rfl (Nat.le_of_ble_eq_true rfl) rfl rfl ?_
  refine T_aload_n (am_dec tX9_init_0 34 rfl) rfl ?_
  refine T_bipush 36 (am_dec tX9_init_0 35 rfl) rfl ⟨by decide, by decide⟩ ?_
  refine C_newI (k9 := 9) (am_dec tX9_init_0 36 rfl) (am_m1 68 rfl rfl) (by decide) (by decide) (by omega) rfl ?_
  refine C_putF (fs' := [aN, aI 0, aI 0, aI 0, aI 0, aI 0, aR (v.length + 1), aR (v.length + 2), aR (v.length + 3), aR (v.length + 4), aR (v.length + 5), aR (v.length + 6), aR (v.length + 7), aR (v.length + 8), aR (v.length + 9)]) (l' := [cO 8 [aN, aI 0, aI 0, aI 0, aI 0, aI 0, aR (v.length + 1), aR (v.length + 2), aR (v.length + 3), aR (v.length + 4), aR (v.length + 5), aR (v.length + 6), aR (v.length + 7), aR (v.length + 8), aR (v.length + 9)], cP 0 3690 (fun _ => 0), cP 0 41 (fun _ => 0), cP 0 41 (fun _ => 0), cP 0 41 (fun _ => 0), cP 0 41 (fun _ => 0), cP 0 41 (fun _ => 0), cP 0 287 (fun _ => 0), cP 0 630 (fun _ => 0), cP 0 36 (fun _ => 0)]) 8 14 (am_dec tX9_init_0 37 rfl) flX9_36_8 rfl rfl rfl rfl rfl trivial rfl (Nat.le_of_ble_eq_true rfl) rfl rfl ?_
  refine T_aload_n (am_dec tX9_init_0 38 rfl) rfl ?_
  refine T_aload_n (am_dec tX9_init_0 39 rfl) rfl ?_
  refine T_callV (as := [aR c]) rfl (am_dec tX9_init_1 0 rfl) lkX9_39 ((ap_get (i := 0)).trans rfl) rfl rfl (Nat.le_of_ble_eq_true rfl) (by omega) (mi_rbegin (d := d - 1) (L := [cO 8 [aN, aI 0, aI 0, aI 0, aI 0, aI 0, aR (v.length + 1), aR (v.length + 2), aR (v.length + 3), aR (v.length + 4), aR (v.length + 5), aR (v.length + 6), aR (v.length + 7), aR (v.length + 8), aR (v.length + 9)], cP 0 3690 (fun _ => 0), cP 0 41 (fun _ => 0), cP 0 41 (fun _ => 0), cP 0 41 (fun _ => 0), cP 0 41 (fun _ => 0), cP 0 41 (fun _ => 0), cP 0 287 (fun _ => 0), cP 0 630 (fun _ => 0), cP 0 36 (fun _ => 0)]) rfl rfl (fun k hk hk2 => match k, hk, hk2 with | 0, h, _ => absurd h (by decide) | 1, _, _ => rfl | 2, _, _ => rfl | 3, _, _ => rfl | 4, _, _ => rfl | 5, _, _ => rfl | 6, _, _ => rfl | 7, _, _ => rfl | 8, _, _ => rfl | 9, _, _ => rfl | n + 10, _, h => absurd h (by omega)) hH hcl hV hFs (by omega)) (fun _ => ?_)
  exact T_return (am_dec tX9_init_1 1 rfl) rfl ⟨rfl, rfl⟩
