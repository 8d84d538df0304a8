/-! the model: what the small things mean -/
theorem am_find_spec {β : Type} {p : Int → Option β} {r : β} : ∀ (n : Nat) (i : Int), am_find p i n = some r → ∃ j, i ≤ j ∧ j < i + n ∧ p j = some r := by
  intro n
  induction n with
  | zero => intro i h; cases h
  | succ n ih =>
    intro i h
    cases hp : p i with
    | none =>
      rw [am_find_n hp] at h
      obtain ⟨j, h1, h2, h3⟩ := ih (i + 1) h
      exact ⟨j, by omega, by omega, h3⟩
    | some v =>
      rw [am_find_y hp] at h
      exact ⟨i, by omega, by omega, by rw [hp, h]⟩
theorem k_in_s (v lo hi : Int) : (k_in v lo hi = 1 ∧ lo ≤ v ∧ v ≤ hi) ∨ (k_in v lo hi = 0 ∧ ¬ (lo ≤ v ∧ v ≤ hi)) := by
  unfold k_in
  split
  · right; exact ⟨rfl, by omega⟩
  · split
    · right; exact ⟨rfl, by omega⟩
    · left; exact ⟨rfl, by omega⟩
theorem k_isIn_s (c : am_F) (x y : Int) : (k_isIn c x y = 1 ∧ (0 ≤ x ∧ x < c 4 0) ∧ 0 ≤ y ∧ y < c 4 1) ∨ (k_isIn c x y = 0 ∧ ¬ ((0 ≤ x ∧ x < c 4 0) ∧ 0 ≤ y ∧ y < c 4 1)) := by
  have h1 := k_in_s x 0 (c 4 0 - 1)
  have h2 := k_in_s y 0 (c 4 1 - 1)
  unfold k_isIn
  dsimp only
  split
  · right; exact ⟨rfl, by omega⟩
  · split
    · right; exact ⟨rfl, by omega⟩
    · left; exact ⟨rfl, by omega⟩
theorem mk_cell' {S : am_S} {d u : Nat} {w : AH} (x y : Int) (hc : (-1000 ≤ x ∧ x ≤ 1000) ∧ -1000 ≤ y ∧ y ≤ 1000) : am_Out S zX12_cell d u [aI x, aI y] w (.inl (some (aI (x + 9 * y)))) w := mk_cell x y hc
theorem k_windAt_b {c : am_F} (hV : MdV c) (t : Int) : -1 ≤ k_windAt c t ∧ k_windAt c t < c 4 8 := by
  have h := am_fold_inv (P := fun (i a : Int) => -1 ≤ a ∧ a < i) (g := g_k_windAt_4 c t) (c 4 8).toNat 0 (-1) (by omega) (fun i a x y hp => by
    unfold g_k_windAt_4
    repeat' split
    all_goals omega)
  have := hV.2.2.2.2.2.2.2.2.1
  rw [show (0 : Int) + ((c 4 8).toNat : Int) = c 4 8 by omega] at h
  exact h
theorem k_thinAt_b {c : am_F} (hV : MdV c) (t : Int) : True := trivial
theorem k_lotOf_b {c : am_F} (hV : MdV c) (x y : Int) : -1 ≤ k_lotOf c x y ∧ k_lotOf c x y < c 4 3 := by
  have h0 := hV.2.2.2.1
  unfold k_lotOf
  cases h : am_find (p_k_lotOf_2 c x y) 0 (c 4 3).toNat with
  | none => exact ⟨by show (-1 : Int) ≤ -1; omega, by show (-1 : Int) < _; omega⟩
  | some r =>
    obtain ⟨j, h1, h2, h3⟩ := am_find_spec _ _ h
    have e : j = r := by
      revert h3
      unfold p_k_lotOf_2
      dsimp only
      repeat' split
      all_goals first | (intro q; exact Option.some.inj q) | (intro q; cases q)
    subst e
    show -1 ≤ j ∧ j < _
    omega
theorem k_turned_b (x : Int) (h : 0 ≤ x ∧ x ≤ 22) : 0 ≤ k_turned x ∧ k_turned x ≤ 22 := by
  unfold k_turned
  repeat' split
  all_goals omega
theorem am_tdr {x b : Int} (hb : 0 < b) (h : am_i32 x) : am_i32 (x.tdiv b) := by
  obtain ⟨h1, h2⟩ := h
  rcases Int.le_total 0 x with h | h
  · rw [am_td h]
    have e1 := Int.ediv_le_self b h
    have e2 := Int.ediv_nonneg h (by omega : 0 ≤ b)
    exact ⟨by omega, by omega⟩
  · have e : x.tdiv b = -((-x).tdiv b) := by rw [Int.neg_tdiv, Int.neg_neg]
    rw [e, am_td (by omega)]
    have e1 := Int.ediv_le_self b (by omega : 0 ≤ -x)
    have e2 := Int.ediv_nonneg (by omega : 0 ≤ -x) (by omega : 0 ≤ b)
    exact ⟨by omega, by omega⟩
theorem am_tmr {x b : Int} (hb : 0 < b) (h2 : am_i32 b) : am_i32 (x.tmod b) := by
  obtain ⟨h3, h4⟩ := h2
  rcases Int.le_total 0 x with h | h
  · rw [am_tm h]
    have e1 := Int.emod_nonneg x (by omega : b ≠ 0)
    have e2 := Int.emod_lt_of_pos x hb
    exact ⟨by omega, by omega⟩
  · have e : x.tmod b = -((-x).tmod b) := by rw [Int.neg_tmod, Int.neg_neg]
    rw [e, am_tm (by omega)]
    have e1 := Int.emod_nonneg (-x) (by omega : b ≠ 0)
    have e2 := Int.emod_lt_of_pos (-x) hb
    exact ⟨by omega, by omega⟩
def MdWd (c : am_F) : Prop := ∀ k : Int, 0 ≤ k → k < c 4 8 → (0 ≤ c (21 + k.toNat) 0 ∧ c (21 + k.toNat) 0 ≤ 39) ∧ (0 ≤ c (21 + k.toNat) 1 ∧ c (21 + k.toNat) 1 ≤ 2) ∧ (0 ≤ c (21 + k.toNat) 2 ∧ c (21 + k.toNat) 2 ≤ 2) ∧ 0 ≤ c (21 + k.toNat) 3 ∧ c (21 + k.toNat) 3 ≤ 8
def g_k_blows_138  (y : Int) (q : am_F) : am_F := (am_put q 266 y.toNat (q 265 y.toNat))
theorem L_k_blows_138 {S : am_S} {d u : Nat} {Q : AO → AH → Prop} {w : AH} {b : Nat} (hl : b + 735 ≤ w.length) (c : am_F) (t : Int) (dx : Int) (dy : Int) (wk : Int) (hV : MdV c) (hWd : MdWd c) (ht : 0 ≤ t ∧ t < 40)  (hd : 2 ≤ d) (B9 : Int) (hB : B9 = 81) : ∀ (n : Nat) (y : Int) (q : am_F), y + n = B9 → 0 ≤ y → (∀ (q' : am_F), q' = am_fold (g_k_blows_138) y n q → am_T S zX12_blows d u Q 165 [some (aR b), some (aI t), some (aI wk), none, none, some (aI dx), some (aI dy), none, none, none, none, none] [] (mdW w b c q')) → am_T S zX12_blows d u Q 138 [some (aR b), some (aI t), some (aI wk), none, none, some (aI dx), some (aI dy), some (aI y), none, none, none, none] [] (mdW w b c q) := by
  intro n
  induction n with
  | zero =>
    intro y q hi9 h0i k9
    have e9 : y = B9 := by omega
    subst e9
    skip
    refine T_iload (am_dec tX12_blows_2 2 rfl) rfl ?_
    refine T_bipush 81 (am_dec tX12_blows_2 3 rfl) rfl ⟨by decide, by decide⟩ ?_
    refine T_icmp_ge 165 (am_dec tX12_blows_2 4 rfl) rfl (fun h142 => ?_) (fun h142 => by exfalso; omega)
    refine T_weak (ls' := [some (aR b), some (aI t), some (aI wk), none, none, some (aI dx), some (aI dy), none, none, none, none, none]) (am_sub_s (am_sub_s (am_sub_s (am_sub_n (am_sub_n (am_sub_s (am_sub_s (am_sub_n (am_sub_n (am_sub_n (am_sub_n (am_sub_n am_sub_nil)))))))))))) ?_
    exact k9 q rfl
  | succ n ih =>
    intro y q hi9 h0i k9
    skip
    refine T_iload (am_dec tX12_blows_2 2 rfl) rfl ?_
    refine T_bipush 81 (am_dec tX12_blows_2 3 rfl) rfl ⟨by decide, by decide⟩ ?_
    refine T_icmp_ge 165 (am_dec tX12_blows_2 4 rfl) rfl (fun h142 => by exfalso; omega) (fun h142 => ?_)
    refine T_aload_n (am_dec tX12_blows_2 5 rfl) rfl ?_
    refine T_getfield 11 43 (am_dec tX12_blows_2 6 rfl) flX12_109_11 (md_obj hl) rfl ?_
    refine T_iload (am_dec tX12_blows_2 7 rfl) rfl ?_
    refine T_aload_n (am_dec tX12_blows_2 8 rfl) rfl ?_
    refine T_getfield 11 42 (am_dec tX12_blows_2 9 rfl) flX12_106_11 (md_obj hl) rfl ?_
    refine T_iload (am_dec tX12_blows_2 10 rfl) rfl ?_
    refine T_ialoadE (x := q 265 y.toNat) (am_dec tX12_blows_2 11 rfl) (md_now hl) (by omega) (by omega) rfl ?_
    refine T_iastore (am_dec tX12_blows_2 12 rfl) (md_next hl) (by omega) (by omega) ?_
    refine am_wE (w2 := mdW w b c (am_put q 266 y.toNat (q 265 y.toNat))) (md_pq (Nat.le_of_ble_eq_true rfl) (fun _ _ => rfl)) ?_
    refine T_iinc (ls' := [some (aR b), some (aI t), some (aI wk), none, none, some (aI dx), some (aI dy), some (aI (y + 1)), none, none, none, none]) (y + 1) (am_dec tX12_blows_2 13 rfl) rfl rfl ⟨by omega, by omega⟩ (by decide) rfl ?_
    refine T_goto 138 (am_dec tX12_blows_2 14 rfl) rfl ?_
    have e9 : (g_k_blows_138) y q = (am_put q 266 y.toNat (q 265 y.toNat)) := rfl
    simp only [am_fold_s, e9] at k9
    exact ih (y + 1) (am_put q 266 y.toNat (q 265 y.toNat)) (by omega) (by omega) k9
def g_k_blows_182 (c : am_F) (t : Int) (dx : Int) (dy : Int) (wk : Int) (y : Int) (x : Int) (q : am_F) : am_F := (let m_217 : Int := (am_w32 ((q 265 ((x + (9 * y)).toNat)) * (c (21 + wk.toNat) 3))).tdiv 8; (let z258 : Int := (k_isIn c (x + dx) (y + dy)); (if z258 = 0 then (am_put (am_put (am_put q 266 ((x + (9 * y)).toNat) (am_w32 ((q 266 ((x + (9 * y)).toNat)) - m_217))) 267 t.toNat (am_w32 ((q 267 t.toNat) + m_217))) (201 + (t + 1).toNat) 1 (am_w32 ((q (201 + (t + 1).toNat) 1) + m_217))) else (let q304 : am_F := (am_put (am_put (am_put q 266 ((x + (9 * y)).toNat) (am_w32 ((q 266 ((x + (9 * y)).toNat)) - m_217))) 267 t.toNat (am_w32 ((q 267 t.toNat) + m_217))) 266 (((x + dx) + (9 * (y + dy))).toNat) (am_w32 (((am_put q 266 ((x + (9 * y)).toNat) (am_w32 ((q 266 ((x + (9 * y)).toNat)) - m_217))) 266 (((x + dx) + (9 * (y + dy))).toNat)) + m_217))); (let n310 : Int := (k_lotOf c x y); (let n326 : Int := (k_lotOf c (x + dx) (y + dy)); (if n310 = (-1) then q304 else (if n326 = (-1) then q304 else (if n310 = n326 then q304 else (am_put q304 (259 + n310.toNat) n326.toNat (am_w32 ((q304 (259 + n310.toNat) n326.toNat) + m_217))))))))))))
theorem L_k_blows_182 {S : am_S} {d u : Nat} {Q : AO → AH → Prop} {w : AH} {b : Nat} (hl : b + 735 ≤ w.length) (c : am_F) (t : Int) (dx : Int) (dy : Int) (wk : Int) (y : Int) (hV : MdV c) (hWd : MdWd c) (ht : 0 ≤ t ∧ t < 40) (hdx : -1 ≤ dx ∧ dx ≤ 9) (hdy : -1 ≤ dy ∧ dy ≤ 9) (hwk : 0 ≤ wk ∧ wk < 12) (ho168 : 0 ≤ y ∧ y < c 4 1) (hd : 2 ≤ d) (B9 : Int) (hB : B9 = c 4 0) : ∀ (n : Nat) (x : Int) (q : am_F), x + n = B9 → 0 ≤ x → (∀ (q' : am_F), q' = am_fold (g_k_blows_182 c t dx dy wk y) x n q → am_T S zX12_blows d u Q 371 [some (aR b), some (aI t), some (aI wk), none, none, some (aI dx), some (aI dy), some (aI y), none, none, none, none] [] (mdW w b c q')) → am_T S zX12_blows d u Q 182 [some (aR b), some (aI t), some (aI wk), none, none, some (aI dx), some (aI dy), some (aI y), some (aI x), none, none, none] [] (mdW w b c q) := by
  intro n
  induction n with
  | zero =>
    intro x q hi9 h0i k9
    have e9 : x = B9 := by omega
    subst e9
    obtain ⟨vl0, vu0⟩ := MdV_0 hV
    obtain ⟨vl1, vu1⟩ := MdV_1 hV
    obtain ⟨vl3, vu3⟩ := MdV_3 hV
    refine T_iload (am_dec tX12_blows_2 25 rfl) rfl ?_
    refine T_aload_n (am_dec tX12_blows_2 26 rfl) rfl ?_
    refine T_getfield 11 11 (am_dec tX12_blows_2 27 rfl) flX12_23_11 (md_obj hl) rfl ?_
    refine T_iconst 0 (am_dec tX12_blows_2 28 rfl) rfl ⟨by decide, by decide⟩ ?_
    refine T_ialoadE (x := c 4 0) (am_dec tX12_blows_2 29 rfl) (md_told hl) (by omega) (by omega) rfl ?_
    refine T_icmp_ge 371 (am_dec tX12_blows_2 30 rfl) rfl (fun h190 => ?_) (fun h190 => by exfalso; omega)
    refine T_weak (ls' := [some (aR b), some (aI t), some (aI wk), none, none, some (aI dx), some (aI dy), some (aI y), none, none, none, none]) (am_sub_s (am_sub_s (am_sub_s (am_sub_n (am_sub_n (am_sub_s (am_sub_s (am_sub_s (am_sub_n (am_sub_n (am_sub_n (am_sub_n am_sub_nil)))))))))))) ?_
    exact k9 q rfl
  | succ n ih =>
    intro x q hi9 h0i k9
    obtain ⟨vl0, vu0⟩ := MdV_0 hV
    obtain ⟨vl1, vu1⟩ := MdV_1 hV
    obtain ⟨vl3, vu3⟩ := MdV_3 hV
    refine T_iload (am_dec tX12_blows_2 25 rfl) rfl ?_
    refine T_aload_n (am_dec tX12_blows_2 26 rfl) rfl ?_
    refine T_getfield 11 11 (am_dec tX12_blows_2 27 rfl) flX12_23_11 (md_obj hl) rfl ?_
    refine T_iconst 0 (am_dec tX12_blows_2 28 rfl) rfl ⟨by decide, by decide⟩ ?_
    refine T_ialoadE (x := c 4 0) (am_dec tX12_blows_2 29 rfl) (md_told hl) (by omega) (by omega) rfl ?_
    refine T_icmp_ge 371 (am_dec tX12_blows_2 30 rfl) rfl (fun h190 => by exfalso; omega) (fun h190 => ?_)
    refine T_aload_n (am_dec tX12_blows_2 31 rfl) rfl ?_
    refine T_getfield 11 42 (am_dec tX12_blows_2 32 rfl) flX12_106_11 (md_obj hl) rfl ?_
    refine T_iload (am_dec tX12_blows_2 33 rfl) rfl ?_
    refine T_iload (am_dec tX12_blows_2 34 rfl) rfl ?_
    refine T_callS (as := [aI x, aI y]) rfl (am_dec tX12_blows_2 35 rfl) lkX12_317 rfl (Nat.le_of_ble_eq_true rfl) (by omega) (mk_cell' (d := d - 1) x y (by omega)) (fun _ => ?_)
    refine T_ialoadE (x := q 265 ((x + (9 * y)).toNat)) (am_dec tX12_blows_2 36 rfl) (md_now hl) (by omega) (by omega) rfl ?_
    refine T_aload_n (am_dec tX12_blows_2 37 rfl) rfl ?_
    refine T_getfield 11 15 (am_dec tX12_blows_2 38 rfl) flX12_37_11 (md_obj hl) rfl ?_
    refine T_iload_n (am_dec tX12_blows_2 39 rfl) rfl ?_
    refine T_aaloadR (r := b + (21 + wk.toNat)) (am_dec tX12_blows_3 0 rfl) (by decide) (mh_wind hl) (by omega) (by omega) (if_pos (by omega)) ?_
    refine T_iconst 3 (am_dec tX12_blows_3 1 rfl) rfl ⟨by decide, by decide⟩ ?_
    refine T_ialoadE (x := c (21 + wk.toNat) 3) (am_dec tX12_blows_3 2 rfl) (mr_wind hl (i := wk) (by omega) (by omega)) (by omega) (by omega) rfl ?_
    refine T_imulW (am_w32 ((q 265 ((x + (9 * y)).toNat)) * (c (21 + wk.toNat) 3))) (am_dec tX12_blows_3 3 rfl) (am_w32e _).symm (am_w32r _) ?_
    refine T_bipush 8 (am_dec tX12_blows_3 4 rfl) rfl ⟨by decide, by decide⟩ ?_
    refine T_idiv ((am_w32 ((q 265 ((x + (9 * y)).toNat)) * (c (21 + wk.toNat) 3))).tdiv 8) (am_dec tX12_blows_3 5 rfl) (by omega) rfl (am_tdr (by omega) (am_w32r _)) ?_
    refine T_nm (fun m_217 hm_217 => ?_)
    refine T_istore (ls' := [some (aR b), some (aI t), some (aI wk), none, none, some (aI dx), some (aI dy), some (aI y), some (aI x), some (aI m_217), none, none]) (am_dec tX12_blows_3 6 rfl) (by decide) rfl ?_
    refine T_aload_n (am_dec tX12_blows_3 7 rfl) rfl ?_
    refine T_getfield 11 43 (am_dec tX12_blows_3 8 rfl) flX12_109_11 (md_obj hl) rfl ?_
    refine T_iload (am_dec tX12_blows_3 9 rfl) rfl ?_
    refine T_iload (am_dec tX12_blows_3 10 rfl) rfl ?_
    refine T_callS (as := [aI x, aI y]) rfl (am_dec tX12_blows_3 11 rfl) lkX12_317 rfl (Nat.le_of_ble_eq_true rfl) (by omega) (mk_cell' (d := d - 1) x y (by omega)) (fun _ => ?_)
    refine T_dup2 (am_dec tX12_blows_3 12 rfl) rfl rfl ?_
    refine T_ialoadE (x := q 266 ((x + (9 * y)).toNat)) (am_dec tX12_blows_3 13 rfl) (md_next hl) (by omega) (by omega) rfl ?_
    refine T_iload (am_dec tX12_blows_3 14 rfl) rfl ?_
    refine T_isubW (am_w32 ((q 266 ((x + (9 * y)).toNat)) - m_217)) (am_dec tX12_blows_3 15 rfl) (am_w32e _).symm (am_w32r _) ?_
    refine T_iastore (am_dec tX12_blows_3 16 rfl) (md_next hl) (by omega) (by omega) ?_
    refine am_wE (w2 := mdW w b c (am_put q 266 ((x + (9 * y)).toNat) (am_w32 ((q 266 ((x + (9 * y)).toNat)) - m_217)))) (md_pq (Nat.le_of_ble_eq_true rfl) (fun _ _ => rfl)) ?_
    refine T_aload_n (am_dec tX12_blows_3 17 rfl) rfl ?_
    refine T_getfield 11 44 (am_dec tX12_blows_3 18 rfl) flX12_112_11 (md_obj hl) rfl ?_
    refine T_iload_n (am_dec tX12_blows_3 19 rfl) rfl ?_
    refine T_dup2 (am_dec tX12_blows_3 20 rfl) rfl rfl ?_
    refine T_ialoadE (x := q 267 t.toNat) (am_dec tX12_blows_3 21 rfl) (md_moved hl) (by omega) (by omega) (am_put_k (by decide)) ?_
    refine T_iload (am_dec tX12_blows_3 22 rfl) rfl ?_
    refine T_iaddW (am_w32 ((q 267 t.toNat) + m_217)) (am_dec tX12_blows_3 23 rfl) (am_w32e _).symm (am_w32r _) ?_
    refine T_iastore (am_dec tX12_blows_3 24 rfl) (md_moved hl) (by omega) (by omega) ?_
    refine am_wE (w2 := mdW w b c (am_put (am_put q 266 ((x + (9 * y)).toNat) (am_w32 ((q 266 ((x + (9 * y)).toNat)) - m_217))) 267 t.toNat (am_w32 ((q 267 t.toNat) + m_217)))) (md_pq (Nat.le_of_ble_eq_true rfl) (fun _ _ => rfl)) ?_
    refine T_aload_n (am_dec tX12_blows_3 25 rfl) rfl ?_
    refine T_iload (am_dec tX12_blows_3 26 rfl) rfl ?_
    refine T_iload (am_dec tX12_blows_3 27 rfl) rfl ?_
    refine T_iadd (x + dx) (am_dec tX12_blows_3 28 rfl) rfl ⟨by omega, by omega⟩ ?_
    refine T_iload (am_dec tX12_blows_3 29 rfl) rfl ?_
    refine T_iload (am_dec tX12_blows_3 30 rfl) rfl ?_
    refine T_iadd (y + dy) (am_dec tX12_blows_3 31 rfl) rfl ⟨by omega, by omega⟩ ?_
    refine T_callV (as := [aI (x + dx), aI (y + dy)]) rfl (am_dec tX12_blows_3 32 rfl) lkX12_320 (md_obj hl) rfl rfl (Nat.le_of_ble_eq_true rfl) (by omega) (mk_isIn (d := d - 1) hl (x + dx) (y + dy)  hV (by omega)) (fun _ => ?_)
    refine T_nm (fun z258 hz258 => ?_)
    have hb258 := k_isIn_b c (x + dx) (y + dy)
    rw [← hz258] at hb258
    have hs258 := k_isIn_s c (x + dx) (y + dy)
    rw [← hz258] at hs258
    have K261 : ∀ (q261 : am_F), q261 = (if z258 = 0 then (am_put (am_put (am_put q 266 ((x + (9 * y)).toNat) (am_w32 ((q 266 ((x + (9 * y)).toNat)) - m_217))) 267 t.toNat (am_w32 ((q 267 t.toNat) + m_217))) (201 + (t + 1).toNat) 1 (am_w32 ((q (201 + (t + 1).toNat) 1) + m_217))) else (let q304 : am_F := (am_put (am_put (am_put q 266 ((x + (9 * y)).toNat) (am_w32 ((q 266 ((x + (9 * y)).toNat)) - m_217))) 267 t.toNat (am_w32 ((q 267 t.toNat) + m_217))) 266 (((x + dx) + (9 * (y + dy))).toNat) (am_w32 (((am_put q 266 ((x + (9 * y)).toNat) (am_w32 ((q 266 ((x + (9 * y)).toNat)) - m_217))) 266 (((x + dx) + (9 * (y + dy))).toNat)) + m_217))); (let n310 : Int := (k_lotOf c x y); (let n326 : Int := (k_lotOf c (x + dx) (y + dy)); (if n310 = (-1) then q304 else (if n326 = (-1) then q304 else (if n310 = n326 then q304 else (am_put q304 (259 + n310.toNat) n326.toNat (am_w32 ((q304 (259 + n310.toNat) n326.toNat) + m_217)))))))))) →  am_T S zX12_blows d u Q 365 [some (aR b), some (aI t), some (aI wk), none, none, some (aI dx), some (aI dy), some (aI y), some (aI x), none, none, none] [] (mdW w b c q261) := by
      intro q261 hq261
      refine T_iinc (ls' := [some (aR b), some (aI t), some (aI wk), none, none, some (aI dx), some (aI dy), some (aI y), some (aI (x + 1)), none, none, none]) (x + 1) (am_dec tX12_blows_5 14 rfl) rfl rfl ⟨by omega, by omega⟩ (by decide) rfl ?_
      refine T_goto 182 (am_dec tX12_blows_5 15 rfl) rfl ?_
      have e9 : (g_k_blows_182 c t dx dy wk y) x q = q261 := (by subst hm_217; subst hz258; subst hq261; rfl)
      simp only [am_fold_s, e9] at k9
      exact ih (x + 1) q261 (by omega) (by omega) k9
    refine T_if_ne 282 (am_dec tX12_blows_3 33 rfl) rfl (fun h261 => ?_) (fun h261 => ?_)
    · refine T_aload_n (am_dec tX12_blows_4 7 rfl) rfl ?_
      refine T_getfield 11 43 (am_dec tX12_blows_4 8 rfl) flX12_109_11 (md_obj hl) rfl ?_
      refine T_iload (am_dec tX12_blows_4 9 rfl) rfl ?_
      refine T_iload (am_dec tX12_blows_4 10 rfl) rfl ?_
      refine T_iadd (x + dx) (am_dec tX12_blows_4 11 rfl) rfl ⟨by omega, by omega⟩ ?_
      refine T_iload (am_dec tX12_blows_4 12 rfl) rfl ?_
      refine T_iload (am_dec tX12_blows_4 13 rfl) rfl ?_
      refine T_iadd (y + dy) (am_dec tX12_blows_4 14 rfl) rfl ⟨by omega, by omega⟩ ?_
      refine T_callS (as := [aI (x + dx), aI (y + dy)]) rfl (am_dec tX12_blows_4 15 rfl) lkX12_317 rfl (Nat.le_of_ble_eq_true rfl) (by omega) (mk_cell' (d := d - 1) (x + dx) (y + dy) (by omega)) (fun _ => ?_)
      refine T_dup2 (am_dec tX12_blows_4 16 rfl) rfl rfl ?_
      refine T_ialoadE (x := (am_put q 266 ((x + (9 * y)).toNat) (am_w32 ((q 266 ((x + (9 * y)).toNat)) - m_217))) 266 (((x + dx) + (9 * (y + dy))).toNat)) (am_dec tX12_blows_4 17 rfl) (md_next hl) (by omega) (by omega) (am_put_k (by decide)) ?_
      refine T_iload (am_dec tX12_blows_4 18 rfl) rfl ?_
      refine T_iaddW (am_w32 (((am_put q 266 ((x + (9 * y)).toNat) (am_w32 ((q 266 ((x + (9 * y)).toNat)) - m_217))) 266 (((x + dx) + (9 * (y + dy))).toNat)) + m_217)) (am_dec tX12_blows_4 19 rfl) (am_w32e _).symm (am_w32r _) ?_
      refine T_iastore (am_dec tX12_blows_4 20 rfl) (md_next hl) (by omega) (by omega) ?_
      refine am_wE (w2 := mdW w b c (am_put (am_put (am_put q 266 ((x + (9 * y)).toNat) (am_w32 ((q 266 ((x + (9 * y)).toNat)) - m_217))) 267 t.toNat (am_w32 ((q 267 t.toNat) + m_217))) 266 (((x + dx) + (9 * (y + dy))).toNat) (am_w32 (((am_put q 266 ((x + (9 * y)).toNat) (am_w32 ((q 266 ((x + (9 * y)).toNat)) - m_217))) 266 (((x + dx) + (9 * (y + dy))).toNat)) + m_217)))) (md_pq (Nat.le_of_ble_eq_true rfl) (fun _ _ => rfl)) ?_
      refine T_nmH (W := fun x9 => mdW w b c x9) (v := (am_put (am_put (am_put q 266 ((x + (9 * y)).toNat) (am_w32 ((q 266 ((x + (9 * y)).toNat)) - m_217))) 267 t.toNat (am_w32 ((q 267 t.toNat) + m_217))) 266 (((x + dx) + (9 * (y + dy))).toNat) (am_w32 (((am_put q 266 ((x + (9 * y)).toNat) (am_w32 ((q 266 ((x + (9 * y)).toNat)) - m_217))) 266 (((x + dx) + (9 * (y + dy))).toNat)) + m_217)))) (fun q304 hq304 => ?_)
      refine T_aload_n (am_dec tX12_blows_4 21 rfl) rfl ?_
      refine T_iload (am_dec tX12_blows_4 22 rfl) rfl ?_
      refine T_iload (am_dec tX12_blows_4 23 rfl) rfl ?_
      refine T_callV (as := [aI x, aI y]) rfl (am_dec tX12_blows_4 24 rfl) lkX12_324 (md_obj hl) rfl rfl (Nat.le_of_ble_eq_true rfl) (by omega) (mk_lotOf (d := d - 1) hl x y  hV (by omega)) (fun _ => ?_)
      refine T_nm (fun n310 hn310 => ?_)
      have hs310 := k_lotOf_b hV x y
      rw [← hn310] at hs310
      refine T_istore (ls' := [some (aR b), some (aI t), some (aI wk), none, none, some (aI dx), some (aI dy), some (aI y), some (aI x), some (aI m_217), some (aI n310), none]) (am_dec tX12_blows_4 25 rfl) (by decide) rfl ?_
      refine T_aload_n (am_dec tX12_blows_4 26 rfl) rfl ?_
      refine T_iload (am_dec tX12_blows_4 27 rfl) rfl ?_
      refine T_iload (am_dec tX12_blows_4 28 rfl) rfl ?_
      refine T_iadd (x + dx) (am_dec tX12_blows_4 29 rfl) rfl ⟨by omega, by omega⟩ ?_
      refine T_iload (am_dec tX12_blows_4 30 rfl) rfl ?_
      refine T_iload (am_dec tX12_blows_4 31 rfl) rfl ?_
      refine T_iadd (y + dy) (am_dec tX12_blows_4 32 rfl) rfl ⟨by omega, by omega⟩ ?_
      refine T_callV (as := [aI (x + dx), aI (y + dy)]) rfl (am_dec tX12_blows_4 33 rfl) lkX12_324 (md_obj hl) rfl rfl (Nat.le_of_ble_eq_true rfl) (by omega) (mk_lotOf (d := d - 1) hl (x + dx) (y + dy)  hV (by omega)) (fun _ => ?_)
      refine T_nm (fun n326 hn326 => ?_)
      have hs326 := k_lotOf_b hV (x + dx) (y + dy)
      rw [← hn326] at hs326
      refine T_istore (ls' := [some (aR b), some (aI t), some (aI wk), none, none, some (aI dx), some (aI dy), some (aI y), some (aI x), some (aI m_217), some (aI n310), some (aI n326)]) (am_dec tX12_blows_4 34 rfl) (by decide) rfl ?_
      refine T_iload (am_dec tX12_blows_4 35 rfl) rfl ?_
      refine T_iconst (-1) (am_dec tX12_blows_4 36 rfl) rfl ⟨by decide, by decide⟩ ?_
      have K334 : ∀ (q334 : am_F), q334 = (if n310 = (-1) then q304 else (if n326 = (-1) then q304 else (if n310 = n326 then q304 else (am_put q304 (259 + n310.toNat) n326.toNat (am_w32 ((q304 (259 + n310.toNat) n326.toNat) + m_217)))))) →  am_T S zX12_blows d u Q 365 [some (aR b), some (aI t), some (aI wk), none, none, some (aI dx), some (aI dy), some (aI y), some (aI x), none, none, none] [] (mdW w b c q334) := by
        intro q334 hq334
        exact K261 _ (by subst hq304; subst hn310; subst hn326; subst hq334; exact (if_neg h261).symm)
      refine T_icmp_eq 365 (am_dec tX12_blows_4 37 rfl) rfl (fun h334 => ?_) (fun h334 => ?_)
      · refine T_weak (ls' := [some (aR b), some (aI t), some (aI wk), none, none, some (aI dx), some (aI dy), some (aI y), some (aI x), none, none, none]) (am_sub_s (am_sub_s (am_sub_s (am_sub_n (am_sub_n (am_sub_s (am_sub_s (am_sub_s (am_sub_s (am_sub_n (am_sub_n (am_sub_n am_sub_nil)))))))))))) ?_
        exact K334 _ (if_pos h334).symm
      · refine T_iload (am_dec tX12_blows_4 38 rfl) rfl ?_
        refine T_iconst (-1) (am_dec tX12_blows_4 39 rfl) rfl ⟨by decide, by decide⟩ ?_
        have K340 : ∀ (q340 : am_F), q340 = (if n326 = (-1) then q304 else (if n310 = n326 then q304 else (am_put q304 (259 + n310.toNat) n326.toNat (am_w32 ((q304 (259 + n310.toNat) n326.toNat) + m_217))))) →  am_T S zX12_blows d u Q 365 [some (aR b), some (aI t), some (aI wk), none, none, some (aI dx), some (aI dy), some (aI y), some (aI x), none, none, none] [] (mdW w b c q340) := by
          intro q340 hq340
          exact K334 _ (by subst hq340; exact (if_neg h334).symm)
        refine T_icmp_eq 365 (am_dec tX12_blows_5 0 rfl) rfl (fun h340 => ?_) (fun h340 => ?_)
        · refine T_weak (ls' := [some (aR b), some (aI t), some (aI wk), none, none, some (aI dx), some (aI dy), some (aI y), some (aI x), none, none, none]) (am_sub_s (am_sub_s (am_sub_s (am_sub_n (am_sub_n (am_sub_s (am_sub_s (am_sub_s (am_sub_s (am_sub_n (am_sub_n (am_sub_n am_sub_nil)))))))))))) ?_
          exact K340 _ (if_pos h340).symm
        · refine T_iload (am_dec tX12_blows_5 1 rfl) rfl ?_
          refine T_iload (am_dec tX12_blows_5 2 rfl) rfl ?_
          have K347 : ∀ (q347 : am_F), q347 = (if n310 = n326 then q304 else (am_put q304 (259 + n310.toNat) n326.toNat (am_w32 ((q304 (259 + n310.toNat) n326.toNat) + m_217)))) →  am_T S zX12_blows d u Q 365 [some (aR b), some (aI t), some (aI wk), none, none, some (aI dx), some (aI dy), some (aI y), some (aI x), none, none, none] [] (mdW w b c q347) := by
            intro q347 hq347
            exact K340 _ (by subst hq347; exact (if_neg h340).symm)
          refine T_icmp_eq 365 (am_dec tX12_blows_5 3 rfl) rfl (fun h347 => ?_) (fun h347 => ?_)
          · refine T_weak (ls' := [some (aR b), some (aI t), some (aI wk), none, none, some (aI dx), some (aI dy), some (aI y), some (aI x), none, none, none]) (am_sub_s (am_sub_s (am_sub_s (am_sub_n (am_sub_n (am_sub_s (am_sub_s (am_sub_s (am_sub_s (am_sub_n (am_sub_n (am_sub_n am_sub_nil)))))))))))) ?_
            exact K347 _ (if_pos h347).symm
          · refine T_aload_n (am_dec tX12_blows_5 4 rfl) rfl ?_
            refine T_getfield 11 41 (am_dec tX12_blows_5 5 rfl) flX12_103_11 (md_obj hl) rfl ?_
            refine T_iload (am_dec tX12_blows_5 6 rfl) rfl ?_
            refine T_aaloadR (r := b + (259 + n310.toNat)) (am_dec tX12_blows_5 7 rfl) (by decide) (mh_leak hl) (by omega) (by omega) (if_pos (by omega)) ?_
            refine T_iload (am_dec tX12_blows_5 8 rfl) rfl ?_
            refine T_dup2 (am_dec tX12_blows_5 9 rfl) rfl rfl ?_
            refine T_ialoadE (x := q304 (259 + n310.toNat) n326.toNat) (am_dec tX12_blows_5 10 rfl) (mr_leak hl (i := n310) (by omega) (by omega)) (by omega) (by omega) rfl ?_
            refine T_iload (am_dec tX12_blows_5 11 rfl) rfl ?_
            refine T_iaddW (am_w32 ((q304 (259 + n310.toNat) n326.toNat) + m_217)) (am_dec tX12_blows_5 12 rfl) (am_w32e _).symm (am_w32r _) ?_
            refine T_iastore (am_dec tX12_blows_5 13 rfl) (mr_leak hl (i := n310) (by omega) (by omega)) (by omega) (by omega) ?_
            refine am_wE (w2 := mdW w b c (am_put q304 (259 + n310.toNat) n326.toNat (am_w32 ((q304 (259 + n310.toNat) n326.toNat) + m_217)))) (md_pq (by omega) (fun f g => md_t_leak f g (by omega))) ?_
            refine T_weak (ls' := [some (aR b), some (aI t), some (aI wk), none, none, some (aI dx), some (aI dy), some (aI y), some (aI x), none, none, none]) (am_sub_s (am_sub_s (am_sub_s (am_sub_n (am_sub_n (am_sub_s (am_sub_s (am_sub_s (am_sub_s (am_sub_n (am_sub_n (am_sub_n am_sub_nil)))))))))))) ?_
            exact K347 _ (if_neg h347).symm
    · refine T_aload_n (am_dec tX12_blows_3 34 rfl) rfl ?_
      refine T_getfield 11 38 (am_dec tX12_blows_3 35 rfl) flX12_94_11 (md_obj hl) rfl ?_
      refine T_iload_n (am_dec tX12_blows_3 36 rfl) rfl ?_
      refine T_iconst 1 (am_dec tX12_blows_3 37 rfl) rfl ⟨by decide, by decide⟩ ?_
      refine T_iadd (t + 1) (am_dec tX12_blows_3 38 rfl) rfl ⟨by omega, by omega⟩ ?_
      refine T_aaloadR (r := b + (201 + (t + 1).toNat)) (am_dec tX12_blows_3 39 rfl) (by decide) (mh_sums hl) (by omega) (by omega) (if_pos (by omega)) ?_
      refine T_iconst 1 (am_dec tX12_blows_4 0 rfl) rfl ⟨by decide, by decide⟩ ?_
      refine T_dup2 (am_dec tX12_blows_4 1 rfl) rfl rfl ?_
      refine T_ialoadE (x := q (201 + (t + 1).toNat) 1) (am_dec tX12_blows_4 2 rfl) (mr_sums hl (i := (t + 1)) (by omega) (by omega)) (by omega) (by omega) ((am_put_k (by omega)).trans (am_put_k (by omega))) ?_
      refine T_iload (am_dec tX12_blows_4 3 rfl) rfl ?_
      refine T_iaddW (am_w32 ((q (201 + (t + 1).toNat) 1) + m_217)) (am_dec tX12_blows_4 4 rfl) (am_w32e _).symm (am_w32r _) ?_
      refine T_iastore (am_dec tX12_blows_4 5 rfl) (mr_sums hl (i := (t + 1)) (by omega) (by omega)) (by omega) (by omega) ?_
      refine am_wE (w2 := mdW w b c (am_put (am_put (am_put q 266 ((x + (9 * y)).toNat) (am_w32 ((q 266 ((x + (9 * y)).toNat)) - m_217))) 267 t.toNat (am_w32 ((q 267 t.toNat) + m_217))) (201 + (t + 1).toNat) 1 (am_w32 ((q (201 + (t + 1).toNat) 1) + m_217)))) (md_pq (by omega) (fun f g => md_t_sums f g (by omega))) ?_
      refine T_nmH (W := fun x9 => mdW w b c x9) (v := (am_put (am_put (am_put q 266 ((x + (9 * y)).toNat) (am_w32 ((q 266 ((x + (9 * y)).toNat)) - m_217))) 267 t.toNat (am_w32 ((q 267 t.toNat) + m_217))) (201 + (t + 1).toNat) 1 (am_w32 ((q (201 + (t + 1).toNat) 1) + m_217)))) (fun q278 hq278 => ?_)
      refine T_goto 365 (am_dec tX12_blows_4 6 rfl) rfl ?_
      refine T_weak (ls' := [some (aR b), some (aI t), some (aI wk), none, none, some (aI dx), some (aI dy), some (aI y), some (aI x), none, none, none]) (am_sub_s (am_sub_s (am_sub_s (am_sub_n (am_sub_n (am_sub_s (am_sub_s (am_sub_s (am_sub_s (am_sub_n (am_sub_n (am_sub_n am_sub_nil)))))))))))) ?_
      exact K261 _ (by subst hq278; exact (if_pos h261).symm)
def g_k_blows_168 (c : am_F) (t : Int) (dx : Int) (dy : Int) (wk : Int) (y : Int) (q : am_F) : am_F := am_fold (g_k_blows_182 c t dx dy wk y) 0 (c 4 0).toNat q
theorem L_k_blows_168 {S : am_S} {d u : Nat} {Q : AO → AH → Prop} {w : AH} {b : Nat} (hl : b + 735 ≤ w.length) (c : am_F) (t : Int) (dx : Int) (dy : Int) (wk : Int) (hV : MdV c) (hWd : MdWd c) (ht : 0 ≤ t ∧ t < 40) (hdx : -1 ≤ dx ∧ dx ≤ 9) (hdy : -1 ≤ dy ∧ dy ≤ 9) (hwk : 0 ≤ wk ∧ wk < 12) (hd : 2 ≤ d) (B9 : Int) (hB : B9 = c 4 1) : ∀ (n : Nat) (y : Int) (q : am_F), y + n = B9 → 0 ≤ y → (∀ (q' : am_F), q' = am_fold (g_k_blows_168 c t dx dy wk) y n q → am_T S zX12_blows d u Q 377 [some (aR b), none, none, none, none, none, none, none, none, none, none, none] [] (mdW w b c q')) → am_T S zX12_blows d u Q 168 [some (aR b), some (aI t), some (aI wk), none, none, some (aI dx), some (aI dy), some (aI y), none, none, none, none] [] (mdW w b c q) := by
  intro n
  induction n with
  | zero =>
    intro y q hi9 h0i k9
    have e9 : y = B9 := by omega
    subst e9
    obtain ⟨vl0, vu0⟩ := MdV_0 hV
    obtain ⟨vl1, vu1⟩ := MdV_1 hV
    refine T_iload (am_dec tX12_blows_2 17 rfl) rfl ?_
    refine T_aload_n (am_dec tX12_blows_2 18 rfl) rfl ?_
    refine T_getfield 11 11 (am_dec tX12_blows_2 19 rfl) flX12_23_11 (md_obj hl) rfl ?_
    refine T_iconst 1 (am_dec tX12_blows_2 20 rfl) rfl ⟨by decide, by decide⟩ ?_
    refine T_ialoadE (x := c 4 1) (am_dec tX12_blows_2 21 rfl) (md_told hl) (by omega) (by omega) rfl ?_
    refine T_icmp_ge 377 (am_dec tX12_blows_2 22 rfl) rfl (fun h176 => ?_) (fun h176 => by exfalso; omega)
    refine T_weak (ls' := [some (aR b), none, none, none, none, none, none, none, none, none, none, none]) (am_sub_s (am_sub_n (am_sub_n (am_sub_n (am_sub_n (am_sub_n (am_sub_n (am_sub_n (am_sub_n (am_sub_n (am_sub_n (am_sub_n am_sub_nil)))))))))))) ?_
    exact k9 q rfl
  | succ n ih =>
    intro y q hi9 h0i k9
    obtain ⟨vl0, vu0⟩ := MdV_0 hV
    obtain ⟨vl1, vu1⟩ := MdV_1 hV
    refine T_iload (am_dec tX12_blows_2 17 rfl) rfl ?_
    refine T_aload_n (am_dec tX12_blows_2 18 rfl) rfl ?_
    refine T_getfield 11 11 (am_dec tX12_blows_2 19 rfl) flX12_23_11 (md_obj hl) rfl ?_
    refine T_iconst 1 (am_dec tX12_blows_2 20 rfl) rfl ⟨by decide, by decide⟩ ?_
    refine T_ialoadE (x := c 4 1) (am_dec tX12_blows_2 21 rfl) (md_told hl) (by omega) (by omega) rfl ?_
    refine T_icmp_ge 377 (am_dec tX12_blows_2 22 rfl) rfl (fun h176 => by exfalso; omega) (fun h176 => ?_)
    refine T_iconst 0 (am_dec tX12_blows_2 23 rfl) rfl ⟨by decide, by decide⟩ ?_
    refine T_istore (ls' := [some (aR b), some (aI t), some (aI wk), none, none, some (aI dx), some (aI dy), some (aI y), some (aI 0), none, none, none]) (am_dec tX12_blows_2 24 rfl) (by decide) rfl ?_
    refine L_k_blows_182 hl c t dx dy wk y hV hWd ht (by omega) (by omega) (by omega) (by omega) (by omega) _ rfl (c 4 0).toNat 0 q (by omega) (by omega) (fun q182 hq182 => ?_)
    refine T_iinc (ls' := [some (aR b), some (aI t), some (aI wk), none, none, some (aI dx), some (aI dy), some (aI (y + 1)), none, none, none, none]) (y + 1) (am_dec tX12_blows_5 16 rfl) rfl rfl ⟨by omega, by omega⟩ (by decide) rfl ?_
    refine T_goto 168 (am_dec tX12_blows_5 17 rfl) rfl ?_
    have e9 : (g_k_blows_168 c t dx dy wk) y q = q182 := (by subst hq182; rfl)
    simp only [am_fold_s, e9] at k9
    exact ih (y + 1) q182 (by omega) (by omega) k9
def g_k_blows_380  (y : Int) (q : am_F) : am_F := (am_put q 265 y.toNat (q 266 y.toNat))
theorem L_k_blows_380 {S : am_S} {d u : Nat} {Q : AO → AH → Prop} {w : AH} {b : Nat} (hl : b + 735 ≤ w.length) (c : am_F) (t : Int) (hV : MdV c) (hWd : MdWd c) (ht : 0 ≤ t ∧ t < 40)  (hd : 2 ≤ d) (B9 : Int) (hB : B9 = 81) : ∀ (n : Nat) (y : Int) (q : am_F), y + n = B9 → 0 ≤ y → (∀ (q' : am_F), q' = am_fold (g_k_blows_380) y n q → am_T S zX12_blows d u Q 407 [none, none, none, none, none, none, none, none, none, none, none, none] [] (mdW w b c q')) → am_T S zX12_blows d u Q 380 [some (aR b), none, none, none, none, none, none, some (aI y), none, none, none, none] [] (mdW w b c q) := by
  intro n
  induction n with
  | zero =>
    intro y q hi9 h0i k9
    have e9 : y = B9 := by omega
    subst e9
    skip
    refine T_iload (am_dec tX12_blows_5 20 rfl) rfl ?_
    refine T_bipush 81 (am_dec tX12_blows_5 21 rfl) rfl ⟨by decide, by decide⟩ ?_
    refine T_icmp_ge 407 (am_dec tX12_blows_5 22 rfl) rfl (fun h384 => ?_) (fun h384 => by exfalso; omega)
    refine T_weak (ls' := [none, none, none, none, none, none, none, none, none, none, none, none]) (am_sub_n (am_sub_n (am_sub_n (am_sub_n (am_sub_n (am_sub_n (am_sub_n (am_sub_n (am_sub_n (am_sub_n (am_sub_n (am_sub_n am_sub_nil)))))))))))) ?_
    exact k9 q rfl
  | succ n ih =>
    intro y q hi9 h0i k9
    skip
    refine T_iload (am_dec tX12_blows_5 20 rfl) rfl ?_
    refine T_bipush 81 (am_dec tX12_blows_5 21 rfl) rfl ⟨by decide, by decide⟩ ?_
    refine T_icmp_ge 407 (am_dec tX12_blows_5 22 rfl) rfl (fun h384 => by exfalso; omega) (fun h384 => ?_)
    refine T_aload_n (am_dec tX12_blows_5 23 rfl) rfl ?_
    refine T_getfield 11 42 (am_dec tX12_blows_5 24 rfl) flX12_106_11 (md_obj hl) rfl ?_
    refine T_iload (am_dec tX12_blows_5 25 rfl) rfl ?_
    refine T_aload_n (am_dec tX12_blows_5 26 rfl) rfl ?_
    refine T_getfield 11 43 (am_dec tX12_blows_5 27 rfl) flX12_109_11 (md_obj hl) rfl ?_
    refine T_iload (am_dec tX12_blows_5 28 rfl) rfl ?_
    refine T_ialoadE (x := q 266 y.toNat) (am_dec tX12_blows_5 29 rfl) (md_next hl) (by omega) (by omega) rfl ?_
    refine T_iastore (am_dec tX12_blows_5 30 rfl) (md_now hl) (by omega) (by omega) ?_
    refine am_wE (w2 := mdW w b c (am_put q 265 y.toNat (q 266 y.toNat))) (md_pq (Nat.le_of_ble_eq_true rfl) (fun _ _ => rfl)) ?_
    refine T_iinc (ls' := [some (aR b), none, none, none, none, none, none, some (aI (y + 1)), none, none, none, none]) (y + 1) (am_dec tX12_blows_5 31 rfl) rfl rfl ⟨by omega, by omega⟩ (by decide) rfl ?_
    refine T_goto 380 (am_dec tX12_blows_5 32 rfl) rfl ?_
    have e9 : (g_k_blows_380) y q = (am_put q 265 y.toNat (q 266 y.toNat)) := rfl
    simp only [am_fold_s, e9] at k9
    exact ih (y + 1) (am_put q 265 y.toNat (q 266 y.toNat)) (by omega) (by omega) k9
def k_blows (c : am_F) (q : am_F) (t : Int) : am_F := (let n2 : Int := (k_windAt c t); (let tn_20 : Int := (if c 0 61 = (-1) then 0 else (if c 0 61 ≤ am_iand (am_ishr (am_w32 ((am_w32 ((q 0 60) * 1103515245)) + 12345)) 16) 7 then 0 else 1)); (let q20 : am_F := (if c 0 61 = (-1) then (am_put q 267 t.toNat 0) else (am_put (am_put q 267 t.toNat 0) 0 60 (am_w32 ((am_w32 ((q 0 60) * 1103515245)) + 12345)))); (if n2 = (-1) then q20 else (let wy_88 : Int := (c (21 + n2.toNat) 1) + (10 * (c (21 + n2.toNat) 2)); (let t91 : Int := (if tn_20 = 0 then wy_88 else k_turned wy_88); (if (t91 % 10) - 1 = 0 then (if (t91 / 10) - 1 = 0 then q20 else (let q138 : am_F := am_fold (g_k_blows_138) 0 81 q20; (let q168 : am_F := am_fold (g_k_blows_168 c t ((t91 % 10) - 1) ((t91 / 10) - 1) n2) 0 (c 4 1).toNat q138; am_fold (g_k_blows_380) 0 81 q168))) else (let q138 : am_F := am_fold (g_k_blows_138) 0 81 q20; (let q168 : am_F := am_fold (g_k_blows_168 c t ((t91 % 10) - 1) ((t91 / 10) - 1) n2) 0 (c 4 1).toNat q138; am_fold (g_k_blows_380) 0 81 q168)))))))))
theorem mk_blows {S : am_S} {d u : Nat} {w : AH} {b : Nat} (hl : b + 735 ≤ w.length) {c : am_F} {q : am_F} (t : Int) (hV : MdV c) (hWd : MdWd c) (ht : 0 ≤ t ∧ t < 40) (hd : 2 ≤ d) : am_Out S zX12_blows d u [aR b, aI t] (mdW w b c q) (.inl none) (mdW w b c (k_blows c q t)) := by
  have key : ∀ Q : AO → AH → Prop, Q (.inl none) (mdW w b c (k_blows c q t)) → am_M S zX12_blows d u [aR b, aI t] (mdW w b c q) Q := by
    intro Q hQ
    refine am_body rfl (by decide +kernel) rfl (am_cats_cons rfl ( am_cats_cons rfl (am_cats_nil))) (Nat.le_of_ble_eq_true rfl) (?_ : am_T _ _ _ _ _ 0 [some (aR b), some (aI t), none, none, none, none, none, none, none, none, none, none] [] (mdW w b c q))
    obtain ⟨vl0, vu0⟩ := MdV_0 hV
    obtain ⟨vl1, vu1⟩ := MdV_1 hV
    obtain ⟨vl8, vu8⟩ := MdV_8 hV
    refine T_aload_n (am_dec tX12_blows_0 0 rfl) rfl ?_
    refine T_iload_n (am_dec tX12_blows_0 1 rfl) rfl ?_
    refine T_callV (as := [aI t]) rfl (am_dec tX12_blows_0 2 rfl) lkX12_307 (md_obj hl) rfl rfl (Nat.le_of_ble_eq_true rfl) (by omega) (mk_windAt (d := d - 1) hl t  hV ) (fun _ => ?_)
    refine T_nm (fun n2 hn2 => ?_)
    have hs2 := k_windAt_b hV t
    rw [← hn2] at hs2
    refine T_istore_n (ls' := [some (aR b), some (aI t), some (aI n2), none, none, none, none, none, none, none, none, none]) (am_dec tX12_blows_0 3 rfl) (by decide) rfl ?_
    refine T_iconst 0 (am_dec tX12_blows_0 4 rfl) rfl ⟨by decide, by decide⟩ ?_
    refine T_istore_n (ls' := [some (aR b), some (aI t), some (aI n2), some (aI 0), none, none, none, none, none, none, none, none]) (am_dec tX12_blows_0 5 rfl) (by decide) rfl ?_
    refine T_aload_n (am_dec tX12_blows_0 6 rfl) rfl ?_
    refine T_getfield 11 44 (am_dec tX12_blows_0 7 rfl) flX12_112_11 (md_obj hl) rfl ?_
    refine T_iload_n (am_dec tX12_blows_0 8 rfl) rfl ?_
    refine T_iconst 0 (am_dec tX12_blows_0 9 rfl) rfl ⟨by decide, by decide⟩ ?_
    refine T_iastore (am_dec tX12_blows_0 10 rfl) (md_moved hl) (by omega) (by omega) ?_
    refine am_wE (w2 := mdW w b c (am_put q 267 t.toNat 0)) (md_pq (Nat.le_of_ble_eq_true rfl) (fun _ _ => rfl)) ?_
    refine T_aload_n (am_dec tX12_blows_0 11 rfl) rfl ?_
    refine T_getfield 11 61 (am_dec tX12_blows_0 12 rfl) flX12_133_11 (md_obj hl) rfl ?_
    refine T_iconst (-1) (am_dec tX12_blows_0 13 rfl) rfl ⟨by decide, by decide⟩ ?_
    have K20 : ∀ (tn_20 : Int), ∀ (q20 : am_F), tn_20 = (if c 0 61 = (-1) then 0 else (if c 0 61 ≤ am_iand (am_ishr (am_w32 ((am_w32 ((q 0 60) * 1103515245)) + 12345)) 16) 7 then 0 else 1)) → q20 = (if c 0 61 = (-1) then (am_put q 267 t.toNat 0) else (am_put (am_put q 267 t.toNat 0) 0 60 (am_w32 ((am_w32 ((q 0 60) * 1103515245)) + 12345)))) →  am_T S zX12_blows d u Q 62 [some (aR b), some (aI t), some (aI n2), some (aI tn_20), none, none, none, none, none, none, none, none] [] (mdW w b c q20) := by
      intro tn_20 q20 htn_20 hq20
      have hbtn_20 : tn_20 = 0 ∨ tn_20 = 1 := by
        rw [htn_20]
        try dsimp only
        repeat' split
        all_goals first | exact Or.inl rfl | exact Or.inr rfl | apply k_in_b | apply k_isDigit_b | apply k_isSmall_b | apply k_bad_b | apply k_isIn_b | apply k_isStep_b | apply k_isFirst_b | omega
      refine T_iload_n (am_dec tX12_blows_0 36 rfl) rfl ?_
      refine T_iconst (-1) (am_dec tX12_blows_0 37 rfl) rfl ⟨by decide, by decide⟩ ?_
      refine T_icmp_ne 68 (am_dec tX12_blows_0 38 rfl) rfl (fun h64 => ?_) (fun h64 => ?_)
      · have hw68 := hWd n2 (by omega) (by omega)
        refine T_aload_n (am_dec tX12_blows_1 0 rfl) rfl ?_
        refine T_getfield 11 15 (am_dec tX12_blows_1 1 rfl) flX12_37_11 (md_obj hl) rfl ?_
        refine T_iload_n (am_dec tX12_blows_1 2 rfl) rfl ?_
        refine T_aaloadR (r := b + (21 + n2.toNat)) (am_dec tX12_blows_1 3 rfl) (by decide) (mh_wind hl) (by omega) (by omega) (if_pos (by omega)) ?_
        refine T_iconst 1 (am_dec tX12_blows_1 4 rfl) rfl ⟨by decide, by decide⟩ ?_
        refine T_ialoadE (x := c (21 + n2.toNat) 1) (am_dec tX12_blows_1 5 rfl) (mr_wind hl (i := n2) (by omega) (by omega)) (by omega) (by omega) rfl ?_
        refine T_bipush 10 (am_dec tX12_blows_1 6 rfl) rfl ⟨by decide, by decide⟩ ?_
        refine T_aload_n (am_dec tX12_blows_1 7 rfl) rfl ?_
        refine T_getfield 11 15 (am_dec tX12_blows_1 8 rfl) flX12_37_11 (md_obj hl) rfl ?_
        refine T_iload_n (am_dec tX12_blows_1 9 rfl) rfl ?_
        refine T_aaloadR (r := b + (21 + n2.toNat)) (am_dec tX12_blows_1 10 rfl) (by decide) (mh_wind hl) (by omega) (by omega) (if_pos (by omega)) ?_
        refine T_iconst 2 (am_dec tX12_blows_1 11 rfl) rfl ⟨by decide, by decide⟩ ?_
        refine T_ialoadE (x := c (21 + n2.toNat) 2) (am_dec tX12_blows_1 12 rfl) (mr_wind hl (i := n2) (by omega) (by omega)) (by omega) (by omega) rfl ?_
        refine T_imul (10 * (c (21 + n2.toNat) 2)) (am_dec tX12_blows_1 13 rfl) rfl ⟨by omega, by omega⟩ ?_
        refine T_iadd ((c (21 + n2.toNat) 1) + (10 * (c (21 + n2.toNat) 2))) (am_dec tX12_blows_1 14 rfl) rfl ⟨by omega, by omega⟩ ?_
        refine T_nm (fun wy_88 hwy_88 => ?_)
        refine T_istore (ls' := [some (aR b), some (aI t), some (aI n2), some (aI tn_20), some (aI wy_88), none, none, none, none, none, none, none]) (am_dec tX12_blows_1 15 rfl) (by decide) rfl ?_
        refine T_iload_n (am_dec tX12_blows_1 16 rfl) rfl ?_
        have kt91 := k_turned_b wy_88 (by omega)
        have K91 : ∀ (t91 : Int), t91 = (if tn_20 = 0 then wy_88 else k_turned wy_88) →  am_T S zX12_blows d u Q 104 [some (aR b), some (aI t), some (aI n2), none, none, none, none, none, none, none, none, none] [aI t91] (mdW w b c q20) := by
          intro t91 ht91
          refine T_istore (ls' := [some (aR b), some (aI t), some (aI n2), none, some (aI t91), none, none, none, none, none, none, none]) (am_dec tX12_blows_1 22 rfl) (by decide) rfl ?_
          refine T_iload (am_dec tX12_blows_1 23 rfl) rfl ?_
          refine T_bipush 10 (am_dec tX12_blows_1 24 rfl) rfl ⟨by decide, by decide⟩ ?_
          refine T_irem (t91 % 10) (am_dec tX12_blows_1 25 rfl) (by omega) (am_tm (by omega)) ⟨by omega, by omega⟩ ?_
          refine T_iconst 1 (am_dec tX12_blows_1 26 rfl) rfl ⟨by decide, by decide⟩ ?_
          refine T_isub ((t91 % 10) - 1) (am_dec tX12_blows_1 27 rfl) rfl ⟨by omega, by omega⟩ ?_
          refine T_istore (ls' := [some (aR b), some (aI t), some (aI n2), none, some (aI t91), some (aI ((t91 % 10) - 1)), none, none, none, none, none, none]) (am_dec tX12_blows_1 28 rfl) (by decide) rfl ?_
          refine T_iload (am_dec tX12_blows_1 29 rfl) rfl ?_
          refine T_bipush 10 (am_dec tX12_blows_1 30 rfl) rfl ⟨by decide, by decide⟩ ?_
          refine T_idiv (t91 / 10) (am_dec tX12_blows_1 31 rfl) (by omega) (am_td (by omega)) ⟨by omega, by omega⟩ ?_
          refine T_iconst 1 (am_dec tX12_blows_1 32 rfl) rfl ⟨by decide, by decide⟩ ?_
          refine T_isub ((t91 / 10) - 1) (am_dec tX12_blows_1 33 rfl) rfl ⟨by omega, by omega⟩ ?_
          refine T_istore (ls' := [some (aR b), some (aI t), some (aI n2), none, some (aI t91), some (aI ((t91 % 10) - 1)), some (aI ((t91 / 10) - 1)), none, none, none, none, none]) (am_dec tX12_blows_1 34 rfl) (by decide) rfl ?_
          refine T_iload (am_dec tX12_blows_1 35 rfl) rfl ?_
          refine T_if_ne 135 (am_dec tX12_blows_1 36 rfl) rfl (fun h126 => ?_) (fun h126 => ?_)
          · refine T_iconst 0 (am_dec tX12_blows_2 0 rfl) rfl ⟨by decide, by decide⟩ ?_
            refine T_istore (ls' := [some (aR b), some (aI t), some (aI n2), none, some (aI t91), some (aI ((t91 % 10) - 1)), some (aI ((t91 / 10) - 1)), some (aI 0), none, none, none, none]) (am_dec tX12_blows_2 1 rfl) (by decide) rfl ?_
            refine T_weak (ls' := [some (aR b), some (aI t), some (aI n2), none, none, some (aI ((t91 % 10) - 1)), some (aI ((t91 / 10) - 1)), some (aI 0), none, none, none, none]) (am_sub_s (am_sub_s (am_sub_s (am_sub_n (am_sub_n (am_sub_s (am_sub_s (am_sub_s (am_sub_n (am_sub_n (am_sub_n (am_sub_n am_sub_nil)))))))))))) ?_
            refine L_k_blows_138 hl c t ((t91 % 10) - 1) ((t91 / 10) - 1) n2 hV hWd ht  (by omega) _ rfl 81 0 q20 (by omega) (by omega) (fun q138 hq138 => ?_)
            refine T_iconst 0 (am_dec tX12_blows_2 15 rfl) rfl ⟨by decide, by decide⟩ ?_
            refine T_istore (ls' := [some (aR b), some (aI t), some (aI n2), none, none, some (aI ((t91 % 10) - 1)), some (aI ((t91 / 10) - 1)), some (aI 0), none, none, none, none]) (am_dec tX12_blows_2 16 rfl) (by decide) rfl ?_
            refine L_k_blows_168 hl c t ((t91 % 10) - 1) ((t91 / 10) - 1) n2 hV hWd ht (by omega) (by omega) (by omega) (by omega) _ rfl (c 4 1).toNat 0 q138 (by omega) (by omega) (fun q168 hq168 => ?_)
            refine T_iconst 0 (am_dec tX12_blows_5 18 rfl) rfl ⟨by decide, by decide⟩ ?_
            refine T_istore (ls' := [some (aR b), none, none, none, none, none, none, some (aI 0), none, none, none, none]) (am_dec tX12_blows_5 19 rfl) (by decide) rfl ?_
            refine L_k_blows_380 hl c t hV hWd ht  (by omega) _ rfl 81 0 q168 (by omega) (by omega) (fun q380 hq380 => ?_)
            exact T_return (am_dec tX12_blows_5 33 rfl) rfl (am_tr (fun x9 => Q (.inl none) (mdW w b c x9)) (y := q380) (show (k_blows c q t) = q380 from (by subst hn2; subst htn_20; subst hq20; subst hwy_88; subst ht91; subst hq138; subst hq168; subst hq380; exact ((if_neg h64).trans (if_neg h126)))) hQ)
          · refine T_iload (am_dec tX12_blows_1 37 rfl) rfl ?_
            refine T_if_ne 135 (am_dec tX12_blows_1 38 rfl) rfl (fun h131 => ?_) (fun h131 => ?_)
            · refine T_iconst 0 (am_dec tX12_blows_2 0 rfl) rfl ⟨by decide, by decide⟩ ?_
              refine T_istore (ls' := [some (aR b), some (aI t), some (aI n2), none, some (aI t91), some (aI ((t91 % 10) - 1)), some (aI ((t91 / 10) - 1)), some (aI 0), none, none, none, none]) (am_dec tX12_blows_2 1 rfl) (by decide) rfl ?_
              refine T_weak (ls' := [some (aR b), some (aI t), some (aI n2), none, none, some (aI ((t91 % 10) - 1)), some (aI ((t91 / 10) - 1)), some (aI 0), none, none, none, none]) (am_sub_s (am_sub_s (am_sub_s (am_sub_n (am_sub_n (am_sub_s (am_sub_s (am_sub_s (am_sub_n (am_sub_n (am_sub_n (am_sub_n am_sub_nil)))))))))))) ?_
              refine L_k_blows_138 hl c t ((t91 % 10) - 1) ((t91 / 10) - 1) n2 hV hWd ht  (by omega) _ rfl 81 0 q20 (by omega) (by omega) (fun q138 hq138 => ?_)
              refine T_iconst 0 (am_dec tX12_blows_2 15 rfl) rfl ⟨by decide, by decide⟩ ?_
              refine T_istore (ls' := [some (aR b), some (aI t), some (aI n2), none, none, some (aI ((t91 % 10) - 1)), some (aI ((t91 / 10) - 1)), some (aI 0), none, none, none, none]) (am_dec tX12_blows_2 16 rfl) (by decide) rfl ?_
              refine L_k_blows_168 hl c t ((t91 % 10) - 1) ((t91 / 10) - 1) n2 hV hWd ht (by omega) (by omega) (by omega) (by omega) _ rfl (c 4 1).toNat 0 q138 (by omega) (by omega) (fun q168 hq168 => ?_)
              refine T_iconst 0 (am_dec tX12_blows_5 18 rfl) rfl ⟨by decide, by decide⟩ ?_
              refine T_istore (ls' := [some (aR b), none, none, none, none, none, none, some (aI 0), none, none, none, none]) (am_dec tX12_blows_5 19 rfl) (by decide) rfl ?_
              refine L_k_blows_380 hl c t hV hWd ht  (by omega) _ rfl 81 0 q168 (by omega) (by omega) (fun q380 hq380 => ?_)
              exact T_return (am_dec tX12_blows_5 33 rfl) rfl (am_tr (fun x9 => Q (.inl none) (mdW w b c x9)) (y := q380) (show (k_blows c q t) = q380 from (by subst hn2; subst htn_20; subst hq20; subst hwy_88; subst ht91; subst hq138; subst hq168; subst hq380; exact ((if_neg h64).trans ((if_pos h126).trans (if_neg h131))))) hQ)
            · exact T_return (am_dec tX12_blows_1 39 rfl) rfl (am_tr (fun x9 => Q (.inl none) (mdW w b c x9)) (y := q20) (show (k_blows c q t) = q20 from (by subst hn2; subst htn_20; subst hq20; subst hwy_88; subst ht91; exact ((if_neg h64).trans ((if_pos h126).trans (if_pos h131))))) hQ)
        refine T_if_eq 102 (am_dec tX12_blows_1 17 rfl) rfl (fun h91 => ?_) (fun h91 => ?_)
        · refine T_iload (am_dec tX12_blows_1 21 rfl) rfl ?_
          refine T_weak (ls' := [some (aR b), some (aI t), some (aI n2), none, none, none, none, none, none, none, none, none]) (am_sub_s (am_sub_s (am_sub_s (am_sub_n (am_sub_n (am_sub_n (am_sub_n (am_sub_n (am_sub_n (am_sub_n (am_sub_n (am_sub_n am_sub_nil)))))))))))) ?_
          exact K91 _ (if_pos h91).symm
        · refine T_iload (am_dec tX12_blows_1 18 rfl) rfl ?_
          refine T_callS (as := [aI wy_88]) rfl (am_dec tX12_blows_1 19 rfl) lkX12_314 rfl (Nat.le_of_ble_eq_true rfl) (by omega) (mk_turned (d := d - 1) wy_88) (fun _ => ?_)
          refine T_nm (fun n96 hn96 => ?_)
          have hs96 := k_turned_b wy_88 (by omega)
          rw [← hn96] at hs96
          refine T_goto 104 (am_dec tX12_blows_1 20 rfl) rfl ?_
          refine T_weak (ls' := [some (aR b), some (aI t), some (aI n2), none, none, none, none, none, none, none, none, none]) (am_sub_s (am_sub_s (am_sub_s (am_sub_n (am_sub_n (am_sub_n (am_sub_n (am_sub_n (am_sub_n (am_sub_n (am_sub_n (am_sub_n am_sub_nil)))))))))))) ?_
          exact K91 _ (by subst hn96; exact (if_neg h91).symm)
      · exact T_return (am_dec tX12_blows_0 39 rfl) rfl (am_tr (fun x9 => Q (.inl none) (mdW w b c x9)) (y := q20) (show (k_blows c q t) = q20 from (by subst hn2; subst htn_20; subst hq20; exact (if_pos h64))) hQ)
    refine T_icmp_eq 62 (am_dec tX12_blows_0 14 rfl) rfl (fun h20 => ?_) (fun h20 => ?_)
    · exact K20 _ _ (if_pos h20).symm (if_pos h20).symm
    · refine T_aload_n (am_dec tX12_blows_0 15 rfl) rfl ?_
      refine T_aload_n (am_dec tX12_blows_0 16 rfl) rfl ?_
      refine T_getfield 11 60 (am_dec tX12_blows_0 17 rfl) flX12_310_11 (md_obj hl) rfl ?_
      refine T_ldcw 1103515245 (am_dec tX12_blows_0 18 rfl) (am_m9 182 rfl rfl) ⟨by decide, by decide⟩ ?_
      refine T_imulW (am_w32 ((q 0 60) * 1103515245)) (am_dec tX12_blows_0 19 rfl) (am_w32e _).symm (am_w32r _) ?_
      refine T_sipush 12345 (am_dec tX12_blows_0 20 rfl) rfl ⟨by decide, by decide⟩ ?_
      refine T_iaddW (am_w32 ((am_w32 ((q 0 60) * 1103515245)) + 12345)) (am_dec tX12_blows_0 21 rfl) (am_w32e _).symm (am_w32r _) ?_
      refine T_putfield (fs' := mdO b (c 0) (am_up ((am_put q 267 t.toNat 0) 0) 60 (am_w32 ((am_w32 ((q 0 60) * 1103515245)) + 12345)))) 11 60 (am_dec tX12_blows_0 22 rfl) flX12_310_11 rfl rfl rfl trivial (md_obj hl) (Nat.le_of_ble_eq_true rfl) rfl ?_
      refine am_wE (w2 := mdW w b c (am_put (am_put q 267 t.toNat 0) 0 60 (am_w32 ((am_w32 ((q 0 60) * 1103515245)) + 12345)))) (md_fq) ?_
      refine T_aload_n (am_dec tX12_blows_0 23 rfl) rfl ?_
      refine T_getfield 11 60 (am_dec tX12_blows_0 24 rfl) flX12_310_11 (md_obj hl) rfl ?_
      refine T_bipush 16 (am_dec tX12_blows_0 25 rfl) rfl ⟨by decide, by decide⟩ ?_
      refine T_ishr (am_ishr (am_w32 ((am_w32 ((q 0 60) * 1103515245)) + 12345)) 16) (am_dec tX12_blows_0 26 rfl) (am_w32e _).symm (am_w32r _) ?_
      refine T_bipush 7 (am_dec tX12_blows_0 27 rfl) rfl ⟨by decide, by decide⟩ ?_
      refine T_iand (am_iand (am_ishr (am_w32 ((am_w32 ((q 0 60) * 1103515245)) + 12345)) 16) 7) (am_dec tX12_blows_0 28 rfl) (am_w32e _).symm (am_w32r _) ?_
      refine T_aload_n (am_dec tX12_blows_0 29 rfl) rfl ?_
      refine T_getfield 11 61 (am_dec tX12_blows_0 30 rfl) flX12_133_11 (md_obj hl) rfl ?_
      have K53 : ∀ (t53 : Int), t53 = (if c 0 61 ≤ am_iand (am_ishr (am_w32 ((am_w32 ((q 0 60) * 1103515245)) + 12345)) 16) 7 then 0 else 1) →  am_T S zX12_blows d u Q 61 [some (aR b), some (aI t), some (aI n2), none, none, none, none, none, none, none, none, none] [aI t53] (mdW w b c (am_put (am_put q 267 t.toNat 0) 0 60 (am_w32 ((am_w32 ((q 0 60) * 1103515245)) + 12345)))) := by
        intro t53 ht53
        have hbt53 : t53 = 0 ∨ t53 = 1 := by
          rw [ht53]
          try dsimp only
          repeat' split
          all_goals first | exact Or.inl rfl | exact Or.inr rfl | apply k_in_b | apply k_isDigit_b | apply k_isSmall_b | apply k_bad_b | apply k_isIn_b | apply k_isStep_b | apply k_isFirst_b | omega
        refine T_istore_n (ls' := [some (aR b), some (aI t), some (aI n2), some (aI t53), none, none, none, none, none, none, none, none]) (am_dec tX12_blows_0 35 rfl) (by decide) rfl ?_
        exact K20 _ _ (by subst ht53; exact (if_neg h20).symm) (by subst ht53; exact (if_neg h20).symm)
      refine T_icmp_ge 60 (am_dec tX12_blows_0 31 rfl) rfl (fun h53 => ?_) (fun h53 => ?_)
      · refine T_iconst 0 (am_dec tX12_blows_0 34 rfl) rfl ⟨by decide, by decide⟩ ?_
        refine T_weak (ls' := [some (aR b), some (aI t), some (aI n2), none, none, none, none, none, none, none, none, none]) (am_sub_s (am_sub_s (am_sub_s (am_sub_n (am_sub_n (am_sub_n (am_sub_n (am_sub_n (am_sub_n (am_sub_n (am_sub_n (am_sub_n am_sub_nil)))))))))))) ?_
        exact K53 _ (if_pos h53).symm
      · refine T_iconst 1 (am_dec tX12_blows_0 32 rfl) rfl ⟨by decide, by decide⟩ ?_
        refine T_goto 61 (am_dec tX12_blows_0 33 rfl) rfl ?_
        refine T_weak (ls' := [some (aR b), some (aI t), some (aI n2), none, none, none, none, none, none, none, none, none]) (am_sub_s (am_sub_s (am_sub_s (am_sub_n (am_sub_n (am_sub_n (am_sub_n (am_sub_n (am_sub_n (am_sub_n (am_sub_n (am_sub_n am_sub_nil)))))))))))) ?_
        exact K53 _ (if_neg h53).symm
  exact key _ ⟨rfl, rfl⟩
