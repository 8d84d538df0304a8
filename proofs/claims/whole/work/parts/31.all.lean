/-! all STEAMERS, all LAMPS, a THIN -/
def StB (h : am_F) : Prop := ∀ k : Int, 0 ≤ f_at (h 0 6) (h 4) k 1 ∧ f_at (h 0 6) (h 4) k 1 ≤ 88
def LpB (h : am_F) : Prop := ∀ k : Int, (0 ≤ f_at (h 0 5) (h 3) k 0 ∧ f_at (h 0 5) (h 3) k 0 ≤ 88) ∧ 0 ≤ f_at (h 0 5) (h 3) k 1 ∧ f_at (h 0 5) (h 3) k 1 ≤ 99
def MlB (r : am_F) : Prop := (-1 ≤ r 0 4 ∧ r 0 4 ≤ 88) ∧ (r 0 4 = -1 ∨ (0 ≤ r 0 5 ∧ r 0 5 ≤ 99))
def ThB (h : am_F) : Prop := ∀ k : Int, 0 ≤ f_at (h 0 4) (h 2) k 1 ∧ f_at (h 0 4) (h 2) k 1 ≤ 99
def g_mixAll (h : am_F) (s i : Int) (r : am_F) : am_F := if f_at (h 0 6) (h 4) i 0 = s then f_mix h r ((s + 1) * 90) (f_at (h 0 6) (h 4) i 1) else r
def f_mixAll (h r : am_F) (s : Int) : am_F := am_fold (g_mixAll h s) 0 (h 0 6).toNat r
def g_burnAll (h : am_F) (row i : Int) (r : am_F) : am_F := f_burn h r row i (f_at (h 0 5) (h 3) i 0) (f_at (h 0 5) (h 3) i 1)
def f_burns (h r : am_F) (row : Int) : am_F := am_fold (g_burnAll h row) 0 (h 0 5).toNat r
def f_burnAll (h r : am_F) (row : Int) : am_F := if r 0 4 = -1 then f_burns h r row else f_burn h (f_burns h r row) row (h 0 5) (r 0 4) (r 0 5)
theorem f_burn_0 (h r : am_F) (row lamp cell burns : Int) : f_burn h r row lamp cell burns 0 = r 0 := by
  have q := am_fold_inv (P := fun i (x : Int × am_F) => x.2 0 = r 0) (g := g_burn h row lamp cell burns) 9 0 (0, r) rfl (fun i x a b hp => by
    unfold g_burn
    split
    · exact hp
    · exact hp)
  exact q
theorem L_mixAll {S : am_S} {d u : Nat} {Q : AO → AH → Prop} {w : AH} {b hb : Nat} {h : am_F} (hl : b + 10 ≤ w.length) (hx : hb + 20 ≤ b ∨ b + 10 ≤ hb) (hH : Hb w hb h) (hV : HbV h) (hSt : StB h) (s : Int) (hs : 0 ≤ s ∧ s < 40) (hd : 3 ≤ d) : ∀ (n : Nat) (i : Int) (r : am_F), i + n = h 0 6 → 0 ≤ i → FgB r (10000 + 8 * i) → (∀ (r' : am_F), r' = am_fold (g_mixAll h s) i n r → FgB r' (10000 + 8 * (h 0 6)) → am_T S zX9_mixAll d u Q 60 [some (aR b), some (aI s), some (aI (h 0 6))] [] (rnW w b hb r')) → am_T S zX9_mixAll d u Q 2 [some (aR b), some (aI s), some (aI i)] [] (rnW w b hb r) := by
  have hV9 := hV
  obtain ⟨v1, v2, v3, v4, v5, v6, v7, v8, v9, v10, v11, v12, v13, v14, v15, v16, v17, v18, v19, v20, v21, v22⟩ := hV9
  intro n
  induction n with
  | zero =>
    intro i r hi9 h0i hinv k9
    have i1 := hinv
    refine T_iload_n (am_dec tX9_mixAll_0 2 rfl) rfl ?_
    refine T_aload_n (am_dec tX9_mixAll_0 3 rfl) rfl ?_
    refine T_getfield 8 0 (am_dec tX9_mixAll_0 4 rfl) flX9_43_8 (show (rnW w b hb r)[b]? = some (cO 8 [aR hb, aI (r 0 1), aI (r 0 2), aI (r 0 3), aI (r 0 4), aI (r 0 5), aR (b + 1), aR (b + 2), aR (b + 3), aR (b + 4), aR (b + 5), aR (b + 6), aR (b + 7), aR (b + 8), aR (b + 9)]) from rnW_Rn hl 0 (by decide)) rfl ?_
    refine T_getfield 3 6 (am_dec tX9_mixAll_0 5 rfl) flX9_147_3 ((rnW_Hb hx hH) 0 (by decide)) rfl ?_
    refine T_getfield 9 2 (am_dec tX9_mixAll_0 6 rfl) flX9_150_9 ((rnW_Hb hx hH) 7 (by decide)) rfl ?_
    refine T_icmp_ge 60 (am_dec tX9_mixAll_0 7 rfl) rfl (fun h13 => ?_) (fun h13 => by exfalso; omega)
    have e9 : i = h 0 6 := by omega
    rw [← e9] at k9
    exact k9 r rfl (by first | exact hinv | omega)
  | succ n ih =>
    intro i r hi9 h0i hinv k9
    have i1 := hinv
    refine T_iload_n (am_dec tX9_mixAll_0 2 rfl) rfl ?_
    refine T_aload_n (am_dec tX9_mixAll_0 3 rfl) rfl ?_
    refine T_getfield 8 0 (am_dec tX9_mixAll_0 4 rfl) flX9_43_8 (show (rnW w b hb r)[b]? = some (cO 8 [aR hb, aI (r 0 1), aI (r 0 2), aI (r 0 3), aI (r 0 4), aI (r 0 5), aR (b + 1), aR (b + 2), aR (b + 3), aR (b + 4), aR (b + 5), aR (b + 6), aR (b + 7), aR (b + 8), aR (b + 9)]) from rnW_Rn hl 0 (by decide)) rfl ?_
    refine T_getfield 3 6 (am_dec tX9_mixAll_0 5 rfl) flX9_147_3 ((rnW_Hb hx hH) 0 (by decide)) rfl ?_
    refine T_getfield 9 2 (am_dec tX9_mixAll_0 6 rfl) flX9_150_9 ((rnW_Hb hx hH) 7 (by decide)) rfl ?_
    refine T_icmp_ge 60 (am_dec tX9_mixAll_0 7 rfl) rfl (fun h13 => by exfalso; omega) (fun h13 => ?_)
    refine T_aload_n (am_dec tX9_mixAll_0 8 rfl) rfl ?_
    refine T_getfield 8 0 (am_dec tX9_mixAll_0 9 rfl) flX9_43_8 (show (rnW w b hb r)[b]? = some (cO 8 [aR hb, aI (r 0 1), aI (r 0 2), aI (r 0 3), aI (r 0 4), aI (r 0 5), aR (b + 1), aR (b + 2), aR (b + 3), aR (b + 4), aR (b + 5), aR (b + 6), aR (b + 7), aR (b + 8), aR (b + 9)]) from rnW_Rn hl 0 (by decide)) rfl ?_
    refine T_getfield 3 6 (am_dec tX9_mixAll_0 10 rfl) flX9_147_3 ((rnW_Hb hx hH) 0 (by decide)) rfl ?_
    refine T_iload_n (am_dec tX9_mixAll_0 11 rfl) rfl ?_
    refine T_iconst 0 (am_dec tX9_mixAll_0 12 rfl) rfl ⟨by decide, by decide⟩ ?_
    have sb25 := hSt i
    refine T_callV (as := [aI i, aI 0]) rfl (am_dec tX9_mixAll_0 13 rfl) lkX9_124 ((rnW_Hb hx hH) 7 (by decide)) rfl rfl (Nat.le_of_ble_eq_true rfl) (by omega) (m_at ((rnW_Hb hx hH) 7 (by decide)) ((rnW_Hb hx hH) 8 (by decide)) (by omega) i 0) (fun _ => ?_)
    refine T_iload_n (am_dec tX9_mixAll_0 14 rfl) rfl ?_
    refine T_icmp_ne 54 (am_dec tX9_mixAll_0 15 rfl) rfl (fun h29 => ?_) (fun h29 => ?_)
    · refine T_iinc (ls' := [some (aR b), some (aI s), some (aI (i + 1))]) (i + 1) (am_dec tX9_mixAll_0 29 rfl) rfl rfl ⟨by omega, by omega⟩ (by decide) rfl ?_
      refine T_goto 2 (am_dec tX9_mixAll_0 30 rfl) rfl ?_
      have e9 : (g_mixAll h s) i r = r := (by unfold g_mixAll; first | rw [if_pos (by omega)] | rw [if_neg (by omega)])
      simp only [am_fold_s, e9] at k9
      exact ih (i + 1) r (by omega) (by omega) (i1.le (by omega)) k9
    · refine T_aload_n (am_dec tX9_mixAll_0 16 rfl) rfl ?_
      refine T_iload_n (am_dec tX9_mixAll_0 17 rfl) rfl ?_
      refine T_iconst 1 (am_dec tX9_mixAll_0 18 rfl) rfl ⟨by decide, by decide⟩ ?_
      refine T_iadd (s + 1) (am_dec tX9_mixAll_0 19 rfl) rfl ⟨by omega, by omega⟩ ?_
      refine T_bipush 90 (am_dec tX9_mixAll_0 20 rfl) rfl ⟨by decide, by decide⟩ ?_
      refine T_imul ((s + 1) * 90) (am_dec tX9_mixAll_0 21 rfl) rfl ⟨by omega, by omega⟩ ?_
      refine T_aload_n (am_dec tX9_mixAll_0 22 rfl) rfl ?_
      refine T_getfield 8 0 (am_dec tX9_mixAll_0 23 rfl) flX9_43_8 (show (rnW w b hb r)[b]? = some (cO 8 [aR hb, aI (r 0 1), aI (r 0 2), aI (r 0 3), aI (r 0 4), aI (r 0 5), aR (b + 1), aR (b + 2), aR (b + 3), aR (b + 4), aR (b + 5), aR (b + 6), aR (b + 7), aR (b + 8), aR (b + 9)]) from rnW_Rn hl 0 (by decide)) rfl ?_
      refine T_getfield 3 6 (am_dec tX9_mixAll_0 24 rfl) flX9_147_3 ((rnW_Hb hx hH) 0 (by decide)) rfl ?_
      refine T_iload_n (am_dec tX9_mixAll_0 25 rfl) rfl ?_
      refine T_iconst 1 (am_dec tX9_mixAll_0 26 rfl) rfl ⟨by decide, by decide⟩ ?_
      have sb48 := hSt i
      refine T_callV (as := [aI i, aI 1]) rfl (am_dec tX9_mixAll_0 27 rfl) lkX9_124 ((rnW_Hb hx hH) 7 (by decide)) rfl rfl (Nat.le_of_ble_eq_true rfl) (by omega) (m_at ((rnW_Hb hx hH) 7 (by decide)) ((rnW_Hb hx hH) 8 (by decide)) (by omega) i 1) (fun _ => ?_)
      refine T_callV (as := [aI ((s + 1) * 90), aI (f_at (h 0 6) (h 4) i 1)]) rfl (am_dec tX9_mixAll_0 28 rfl) lkX9_153 (show (rnW w b hb r)[b]? = some (cO 8 [aR hb, aI (r 0 1), aI (r 0 2), aI (r 0 3), aI (r 0 4), aI (r 0 5), aR (b + 1), aR (b + 2), aR (b + 3), aR (b + 4), aR (b + 5), aR (b + 6), aR (b + 7), aR (b + 8), aR (b + 9)]) from rnW_Rn hl 0 (by decide)) rfl rfl (Nat.le_of_ble_eq_true rfl) (by omega) (m_mix hl hx hH hV ((s + 1) * 90) (f_at (h 0 6) (h 4) i 1) (by omega) (by omega) (by omega) (i1.le (by omega))) (fun _ => ?_)
      refine T_iinc (ls' := [some (aR b), some (aI s), some (aI (i + 1))]) (i + 1) (am_dec tX9_mixAll_0 29 rfl) rfl rfl ⟨by omega, by omega⟩ (by decide) rfl ?_
      refine T_goto 2 (am_dec tX9_mixAll_0 30 rfl) rfl ?_
      have e9 : (g_mixAll h s) i r = (f_mix h r ((s + 1) * 90) (f_at (h 0 6) (h 4) i 1)) := (by unfold g_mixAll; first | rw [if_pos (by omega)] | rw [if_neg (by omega)])
      simp only [am_fold_s, e9] at k9
      exact ih (i + 1) (f_mix h r ((s + 1) * 90) (f_at (h 0 6) (h 4) i 1)) (by omega) (by omega) (by have q := (f_mixB (h := h) (s := s) (cell := f_at (h 0 6) (h 4) i 1) hV i1 (by omega) (by omega)).1; exact q.le (by omega)) k9
theorem m_mixAll {S : am_S} {d u : Nat} {w : AH} {b hb : Nat} {r h : am_F} (hl : b + 10 ≤ w.length) (hx : hb + 20 ≤ b ∨ b + 10 ≤ hb) (hH : Hb w hb h) (hV : HbV h) (hSt : StB h) (s : Int) (hs : 0 ≤ s ∧ s < 40) (hB : FgB r 10000) (hd : 3 ≤ d) : am_Out S zX9_mixAll d u [aR b, aI s] (rnW w b hb r) (.inl none) (rnW w b hb (f_mixAll h r s)) := by
  refine am_body rfl (by decide +kernel) rfl (am_cats_cons rfl ( am_cats_cons rfl (am_cats_nil))) (Nat.le_of_ble_eq_true rfl) (?_ : am_T _ _ _ _ _ 0 [some (aR b), some (aI s), none] [] (rnW w b hb r))
  have hV9 := hV
  obtain ⟨v1, v2, v3, v4, v5, v6, v7, v8, v9, v10, v11, v12, v13, v14, v15, v16, v17, v18, v19, v20, v21, v22⟩ := hV9
  refine T_iconst 0 (am_dec tX9_mixAll_0 0 rfl) rfl ⟨by decide, by decide⟩ ?_
  refine T_istore_n (ls' := [some (aR b), some (aI s), some (aI 0)]) (am_dec tX9_mixAll_0 1 rfl) (by decide) rfl ?_
  refine L_mixAll hl hx hH hV hSt s hs hd (h 0 6 - 0).toNat 0 r (by omega) (by omega) (hB.le (by omega)) (fun r2 hr2 hv2 => ?_)
  exact T_return (am_dec tX9_mixAll_0 31 rfl) rfl ⟨rfl, by rw [hr2, Int.sub_zero]; rfl⟩
theorem L_burnAll {S : am_S} {d u : Nat} {Q : AO → AH → Prop} {w : AH} {b hb : Nat} {h : am_F} (hl : b + 10 ≤ w.length) (hx : hb + 20 ≤ b ∨ b + 10 ≤ hb) (hH : Hb w hb h) (hV : HbV h) (hLp : LpB h) (row : Int) (hr : 1 ≤ row ∧ row ≤ 40) (q0 : Nat → Int) (many : Int) (hmany : many = h 0 5) (hd : 3 ≤ d) : ∀ (n : Nat) (i : Int) (r : am_F), i + n = h 0 5 → 0 ≤ i → FgB r 10000 ∧ r 0 = q0 → (∀ (r' : am_F), r' = am_fold (g_burnAll h row) i n r → FgB r' 10000 ∧ r' 0 = q0 → am_T S zX9_burnAll d u Q 54 [some (aR b), some (aI row), some (aI many), some (aI (h 0 5))] [] (rnW w b hb r')) → am_T S zX9_burnAll d u Q 13 [some (aR b), some (aI row), some (aI many), some (aI i)] [] (rnW w b hb r) := by
  have hV9 := hV
  obtain ⟨v1, v2, v3, v4, v5, v6, v7, v8, v9, v10, v11, v12, v13, v14, v15, v16, v17, v18, v19, v20, v21, v22⟩ := hV9
  intro n
  induction n with
  | zero =>
    intro i r hi9 h0i hinv k9
    obtain ⟨i1, i2⟩ := hinv
    have hinv := And.intro i1 i2
    refine T_iload_n (am_dec tX9_burnAll_0 7 rfl) rfl ?_
    refine T_iload_n (am_dec tX9_burnAll_0 8 rfl) rfl ?_
    refine T_icmp_ge 54 (am_dec tX9_burnAll_0 9 rfl) rfl (fun h15 => ?_) (fun h15 => by exfalso; omega)
    have e9 : i = h 0 5 := by omega
    rw [← e9] at k9
    exact k9 r rfl (by first | exact hinv | omega)
  | succ n ih =>
    intro i r hi9 h0i hinv k9
    obtain ⟨i1, i2⟩ := hinv
    have hinv := And.intro i1 i2
    refine T_iload_n (am_dec tX9_burnAll_0 7 rfl) rfl ?_
    refine T_iload_n (am_dec tX9_burnAll_0 8 rfl) rfl ?_
    refine T_icmp_ge 54 (am_dec tX9_burnAll_0 9 rfl) rfl (fun h15 => by exfalso; omega) (fun h15 => ?_)
    refine T_aload_n (am_dec tX9_burnAll_0 10 rfl) rfl ?_
    refine T_iload_n (am_dec tX9_burnAll_0 11 rfl) rfl ?_
    refine T_iload_n (am_dec tX9_burnAll_0 12 rfl) rfl ?_
    refine T_aload_n (am_dec tX9_burnAll_0 13 rfl) rfl ?_
    refine T_getfield 8 0 (am_dec tX9_burnAll_0 14 rfl) flX9_43_8 (show (rnW w b hb r)[b]? = some (cO 8 [aR hb, aI (r 0 1), aI (r 0 2), aI (r 0 3), aI (r 0 4), aI (r 0 5), aR (b + 1), aR (b + 2), aR (b + 3), aR (b + 4), aR (b + 5), aR (b + 6), aR (b + 7), aR (b + 8), aR (b + 9)]) from rnW_Rn hl 0 (by decide)) rfl ?_
    refine T_getfield 3 5 (am_dec tX9_burnAll_0 15 rfl) flX9_160_3 ((rnW_Hb hx hH) 0 (by decide)) rfl ?_
    refine T_iload_n (am_dec tX9_burnAll_0 16 rfl) rfl ?_
    refine T_iconst 0 (am_dec tX9_burnAll_0 17 rfl) rfl ⟨by decide, by decide⟩ ?_
    have sb30 := hLp i
    refine T_callV (as := [aI i, aI 0]) rfl (am_dec tX9_burnAll_0 18 rfl) lkX9_124 ((rnW_Hb hx hH) 5 (by decide)) rfl rfl (Nat.le_of_ble_eq_true rfl) (by omega) (m_at ((rnW_Hb hx hH) 5 (by decide)) ((rnW_Hb hx hH) 6 (by decide)) (by omega) i 0) (fun _ => ?_)
    refine T_aload_n (am_dec tX9_burnAll_0 19 rfl) rfl ?_
    refine T_getfield 8 0 (am_dec tX9_burnAll_0 20 rfl) flX9_43_8 (show (rnW w b hb r)[b]? = some (cO 8 [aR hb, aI (r 0 1), aI (r 0 2), aI (r 0 3), aI (r 0 4), aI (r 0 5), aR (b + 1), aR (b + 2), aR (b + 3), aR (b + 4), aR (b + 5), aR (b + 6), aR (b + 7), aR (b + 8), aR (b + 9)]) from rnW_Rn hl 0 (by decide)) rfl ?_
    refine T_getfield 3 5 (am_dec tX9_burnAll_0 21 rfl) flX9_160_3 ((rnW_Hb hx hH) 0 (by decide)) rfl ?_
    refine T_iload_n (am_dec tX9_burnAll_0 22 rfl) rfl ?_
    refine T_iconst 1 (am_dec tX9_burnAll_0 23 rfl) rfl ⟨by decide, by decide⟩ ?_
    have sb42 := hLp i
    refine T_callV (as := [aI i, aI 1]) rfl (am_dec tX9_burnAll_0 24 rfl) lkX9_124 ((rnW_Hb hx hH) 5 (by decide)) rfl rfl (Nat.le_of_ble_eq_true rfl) (by omega) (m_at ((rnW_Hb hx hH) 5 (by decide)) ((rnW_Hb hx hH) 6 (by decide)) (by omega) i 1) (fun _ => ?_)
    refine T_callV (as := [aI row, aI i, aI (f_at (h 0 5) (h 3) i 0), aI (f_at (h 0 5) (h 3) i 1)]) rfl (am_dec tX9_burnAll_0 25 rfl) lkX9_163 (show (rnW w b hb r)[b]? = some (cO 8 [aR hb, aI (r 0 1), aI (r 0 2), aI (r 0 3), aI (r 0 4), aI (r 0 5), aR (b + 1), aR (b + 2), aR (b + 3), aR (b + 4), aR (b + 5), aR (b + 6), aR (b + 7), aR (b + 8), aR (b + 9)]) from rnW_Rn hl 0 (by decide)) rfl rfl (Nat.le_of_ble_eq_true rfl) (by omega) (m_burn hl hx hH hV row i (f_at (h 0 5) (h 3) i 0) (f_at (h 0 5) (h 3) i 1) (by omega) (by omega) (by omega) (by omega) 10000 (by omega) i1 (by omega)) (fun _ => ?_)
    refine T_iinc (ls' := [some (aR b), some (aI row), some (aI many), some (aI (i + 1))]) (i + 1) (am_dec tX9_burnAll_0 26 rfl) rfl rfl ⟨by omega, by omega⟩ (by decide) rfl ?_
    refine T_goto 13 (am_dec tX9_burnAll_0 27 rfl) rfl ?_
    have e9 : (g_burnAll h row) i r = (f_burn h r row i (f_at (h 0 5) (h 3) i 0) (f_at (h 0 5) (h 3) i 1)) := rfl
    simp only [am_fold_s, e9] at k9
    exact ih (i + 1) (f_burn h r row i (f_at (h 0 5) (h 3) i 0) (f_at (h 0 5) (h 3) i 1)) (by omega) (by omega) ⟨(by have q := (f_burnB (h := h) (s := row - 1) (lamp := i) (cell := f_at (h 0 5) (h 3) i 0) (burns := f_at (h 0 5) (h 3) i 1) hV i1 (by omega) (by have := hLp i; omega)).1; rw [show row - 1 + 1 = row by omega] at q; exact q), (f_burn_0 _ _ _ _ _ _).trans i2⟩ k9
theorem m_burnAll {S : am_S} {d u : Nat} {w : AH} {b hb : Nat} {r h : am_F} (hl : b + 10 ≤ w.length) (hx : hb + 20 ≤ b ∨ b + 10 ≤ hb) (hH : Hb w hb h) (hV : HbV h) (hLp : LpB h) (hMl : MlB r) (row : Int) (hr : 1 ≤ row ∧ row ≤ 40) (hB : FgB r 10000) (hd : 3 ≤ d) : am_Out S zX9_burnAll d u [aR b, aI row] (rnW w b hb r) (.inl none) (rnW w b hb (f_burnAll h r row)) := by
  refine am_body rfl (by decide +kernel) rfl (am_cats_cons rfl ( am_cats_cons rfl (am_cats_nil))) (Nat.le_of_ble_eq_true rfl) (?_ : am_T _ _ _ _ _ 0 [some (aR b), some (aI row), none, none] [] (rnW w b hb r))
  have hV9 := hV
  obtain ⟨v1, v2, v3, v4, v5, v6, v7, v8, v9, v10, v11, v12, v13, v14, v15, v16, v17, v18, v19, v20, v21, v22⟩ := hV9
  refine T_aload_n (am_dec tX9_burnAll_0 0 rfl) rfl ?_
  refine T_getfield 8 0 (am_dec tX9_burnAll_0 1 rfl) flX9_43_8 (show (rnW w b hb r)[b]? = some (cO 8 [aR hb, aI (r 0 1), aI (r 0 2), aI (r 0 3), aI (r 0 4), aI (r 0 5), aR (b + 1), aR (b + 2), aR (b + 3), aR (b + 4), aR (b + 5), aR (b + 6), aR (b + 7), aR (b + 8), aR (b + 9)]) from rnW_Rn hl 0 (by decide)) rfl ?_
  refine T_getfield 3 5 (am_dec tX9_burnAll_0 2 rfl) flX9_160_3 ((rnW_Hb hx hH) 0 (by decide)) rfl ?_
  refine T_getfield 9 2 (am_dec tX9_burnAll_0 3 rfl) flX9_150_9 ((rnW_Hb hx hH) 5 (by decide)) rfl ?_
  refine T_istore_n (ls' := [some (aR b), some (aI row), some (aI (h 0 5)), none]) (am_dec tX9_burnAll_0 4 rfl) (by decide) rfl ?_
  refine T_iconst 0 (am_dec tX9_burnAll_0 5 rfl) rfl ⟨by decide, by decide⟩ ?_
  refine T_istore_n (ls' := [some (aR b), some (aI row), some (aI (h 0 5)), some (aI 0)]) (am_dec tX9_burnAll_0 6 rfl) (by decide) rfl ?_
  refine L_burnAll hl hx hH hV hLp row hr (r 0) (h 0 5) rfl hd (h 0 5 - 0).toNat 0 r (by omega) (by omega) ⟨hB, rfl⟩ (fun r13 hr13 hv13 => ?_)
  obtain ⟨y1, y2⟩ := hv13
  have z4 : r13 0 4 = r 0 4 := congrFun y2 4
  have z5 : r13 0 5 = r 0 5 := congrFun y2 5
  obtain ⟨ma, mb⟩ := hMl
  rw [← z4, ← z5] at mb
  rw [← z4] at ma
  refine T_aload_n (am_dec tX9_burnAll_0 28 rfl) rfl ?_
  refine T_getfield 8 4 (am_dec tX9_burnAll_0 29 rfl) flX9_54_8 (show (rnW w b hb r13)[b]? = some (cO 8 [aR hb, aI (r13 0 1), aI (r13 0 2), aI (r13 0 3), aI (r13 0 4), aI (r13 0 5), aR (b + 1), aR (b + 2), aR (b + 3), aR (b + 4), aR (b + 5), aR (b + 6), aR (b + 7), aR (b + 8), aR (b + 9)]) from rnW_Rn hl 0 (by decide)) rfl ?_
  refine T_iconst (-1) (am_dec tX9_burnAll_0 30 rfl) rfl ⟨by decide, by decide⟩ ?_
  refine T_icmp_eq 82 (am_dec tX9_burnAll_0 31 rfl) rfl (fun h59 => ?_) (fun h59 => ?_)
  · exact T_return (am_dec tX9_burnAll_1 3 rfl) rfl ⟨rfl, by unfold f_burnAll; rw [if_pos (by omega), hr13, Int.sub_zero]; rfl⟩
  · refine T_iload_n (am_dec tX9_burnAll_0 32 rfl) rfl ?_
    refine T_bipush 7 (am_dec tX9_burnAll_0 33 rfl) rfl ⟨by decide, by decide⟩ ?_
    refine T_icmp_ge 82 (am_dec tX9_burnAll_0 34 rfl) rfl (fun h65 => by exfalso; omega) (fun h65 => ?_)
    refine T_aload_n (am_dec tX9_burnAll_0 35 rfl) rfl ?_
    refine T_iload_n (am_dec tX9_burnAll_0 36 rfl) rfl ?_
    refine T_iload_n (am_dec tX9_burnAll_0 37 rfl) rfl ?_
    refine T_aload_n (am_dec tX9_burnAll_0 38 rfl) rfl ?_
    refine T_getfield 8 4 (am_dec tX9_burnAll_0 39 rfl) flX9_54_8 (show (rnW w b hb r13)[b]? = some (cO 8 [aR hb, aI (r13 0 1), aI (r13 0 2), aI (r13 0 3), aI (r13 0 4), aI (r13 0 5), aR (b + 1), aR (b + 2), aR (b + 3), aR (b + 4), aR (b + 5), aR (b + 6), aR (b + 7), aR (b + 8), aR (b + 9)]) from rnW_Rn hl 0 (by decide)) rfl ?_
    refine T_aload_n (am_dec tX9_burnAll_1 0 rfl) rfl ?_
    refine T_getfield 8 5 (am_dec tX9_burnAll_1 1 rfl) flX9_81_8 (show (rnW w b hb r13)[b]? = some (cO 8 [aR hb, aI (r13 0 1), aI (r13 0 2), aI (r13 0 3), aI (r13 0 4), aI (r13 0 5), aR (b + 1), aR (b + 2), aR (b + 3), aR (b + 4), aR (b + 5), aR (b + 6), aR (b + 7), aR (b + 8), aR (b + 9)]) from rnW_Rn hl 0 (by decide)) rfl ?_
    refine T_callV (as := [aI row, aI (h 0 5), aI (r13 0 4), aI (r13 0 5)]) rfl (am_dec tX9_burnAll_1 2 rfl) lkX9_163 (show (rnW w b hb r13)[b]? = some (cO 8 [aR hb, aI (r13 0 1), aI (r13 0 2), aI (r13 0 3), aI (r13 0 4), aI (r13 0 5), aR (b + 1), aR (b + 2), aR (b + 3), aR (b + 4), aR (b + 5), aR (b + 6), aR (b + 7), aR (b + 8), aR (b + 9)]) from rnW_Rn hl 0 (by decide)) rfl rfl (Nat.le_of_ble_eq_true rfl) (by omega) (m_burn hl hx hH hV row (h 0 5) (r13 0 4) (r13 0 5) (by omega) (by omega) (by omega) (by omega) 10000 (by omega) y1 (by omega)) (fun _ => ?_)
    exact T_return (am_dec tX9_burnAll_1 3 rfl) rfl ⟨rfl, by unfold f_burnAll; rw [if_neg (by omega), z4, z5, hr13, Int.sub_zero]; rfl⟩
theorem L_thin {S : am_S} {d u : Nat} {Q : AO → AH → Prop} {w : AH} {b hb : Nat} {h : am_F} (hl : b + 10 ≤ w.length) (hx : hb + 20 ≤ b ∨ b + 10 ≤ hb) (hH : Hb w hb h) (hV : HbV h) (s thin loses : Int) (hs : 0 ≤ s ∧ s < 40) (hlo : 0 ≤ loses ∧ loses ≤ 99) (hd : 1 ≤ d) : ∀ (n : Nat) (i : Int) (r : am_F), i + n = (s + 2) * 90 → 0 ≤ i → (s + 1) * 90 ≤ i ∧ FgB r 10000 → (∀ (r' : am_F), r' = am_fold (g_thin s loses) i n r → (s + 1) * 90 ≤ (s + 2) * 90 ∧ FgB r' 10000 → am_T S zX9_thinOut d u Q 101 [some (aR b), some (aI s), some (aI thin), some (aI loses), some (aI ((s + 2) * 90)), none] [] (rnW w b hb r')) → am_T S zX9_thinOut d u Q 46 [some (aR b), some (aI s), some (aI thin), some (aI loses), some (aI i), none] [] (rnW w b hb r) := by
  intro n
  induction n with
  | zero =>
    intro i r hi9 h0i hinv k9
    obtain ⟨i1, i2⟩ := hinv
    have f9 := i2 i.toNat
    have hinv := And.intro i1 i2
    refine T_iload (am_dec tX9_thinOut_0 26 rfl) rfl ?_
    refine T_iload_n (am_dec tX9_thinOut_0 27 rfl) rfl ?_
    refine T_iconst 2 (am_dec tX9_thinOut_0 28 rfl) rfl ⟨by decide, by decide⟩ ?_
    refine T_iadd (s + 2) (am_dec tX9_thinOut_0 29 rfl) rfl ⟨by omega, by omega⟩ ?_
    refine T_bipush 90 (am_dec tX9_thinOut_0 30 rfl) rfl ⟨by decide, by decide⟩ ?_
    refine T_imul ((s + 2) * 90) (am_dec tX9_thinOut_0 31 rfl) rfl ⟨by omega, by omega⟩ ?_
    refine T_icmp_ge 101 (am_dec tX9_thinOut_0 32 rfl) rfl (fun h54 => ?_) (fun h54 => by exfalso; omega)
    have e9 : i = (s + 2) * 90 := by omega
    rw [← e9] at k9
    exact k9 r rfl (by first | exact hinv | omega)
  | succ n ih =>
    intro i r hi9 h0i hinv k9
    obtain ⟨i1, i2⟩ := hinv
    have f9 := i2 i.toNat
    have hinv := And.intro i1 i2
    refine T_iload (am_dec tX9_thinOut_0 26 rfl) rfl ?_
    refine T_iload_n (am_dec tX9_thinOut_0 27 rfl) rfl ?_
    refine T_iconst 2 (am_dec tX9_thinOut_0 28 rfl) rfl ⟨by decide, by decide⟩ ?_
    refine T_iadd (s + 2) (am_dec tX9_thinOut_0 29 rfl) rfl ⟨by omega, by omega⟩ ?_
    refine T_bipush 90 (am_dec tX9_thinOut_0 30 rfl) rfl ⟨by decide, by decide⟩ ?_
    refine T_imul ((s + 2) * 90) (am_dec tX9_thinOut_0 31 rfl) rfl ⟨by omega, by omega⟩ ?_
    refine T_icmp_ge 101 (am_dec tX9_thinOut_0 32 rfl) rfl (fun h54 => by exfalso; omega) (fun h54 => ?_)
    refine T_iload_n (am_dec tX9_thinOut_0 33 rfl) rfl ?_
    refine T_aload_n (am_dec tX9_thinOut_0 34 rfl) rfl ?_
    refine T_getfield 8 6 (am_dec tX9_thinOut_0 35 rfl) flX9_11_8 (show (rnW w b hb r)[b]? = some (cO 8 [aR hb, aI (r 0 1), aI (r 0 2), aI (r 0 3), aI (r 0 4), aI (r 0 5), aR (b + 1), aR (b + 2), aR (b + 3), aR (b + 4), aR (b + 5), aR (b + 6), aR (b + 7), aR (b + 8), aR (b + 9)]) from rnW_Rn hl 0 (by decide)) rfl ?_
    refine T_iload (am_dec tX9_thinOut_0 36 rfl) rfl ?_
    refine T_iaload (am_dec tX9_thinOut_0 37 rfl) (show (rnW w b hb r)[b + 1]? = some (cP 0 3690 (r 1)) from rnW_Rn hl 1 (by decide)) (by omega) (by omega) ?_
    refine T_mmin (am_dec tX9_thinOut_0 38 rfl) lkX9_166 (Nat.le_of_ble_eq_true rfl) (by omega) ?_
    obtain ⟨m65, hm65⟩ : ∃ x9 : Int, x9 = (if (r 1) i.toNat < loses then (r 1) i.toNat else loses) := ⟨_, rfl⟩
    rw [← hm65]
    refine T_istore (ls' := [some (aR b), some (aI s), some (aI thin), some (aI loses), some (aI i), some (aI m65)]) (am_dec tX9_thinOut_0 39 rfl) (by decide) rfl ?_
    refine T_aload_n (am_dec tX9_thinOut_1 0 rfl) rfl ?_
    refine T_getfield 8 6 (am_dec tX9_thinOut_1 1 rfl) flX9_11_8 (show (rnW w b hb r)[b]? = some (cO 8 [aR hb, aI (r 0 1), aI (r 0 2), aI (r 0 3), aI (r 0 4), aI (r 0 5), aR (b + 1), aR (b + 2), aR (b + 3), aR (b + 4), aR (b + 5), aR (b + 6), aR (b + 7), aR (b + 8), aR (b + 9)]) from rnW_Rn hl 0 (by decide)) rfl ?_
    refine T_iload (am_dec tX9_thinOut_1 2 rfl) rfl ?_
    refine T_dup2 (am_dec tX9_thinOut_1 3 rfl) rfl rfl ?_
    refine T_iaload (am_dec tX9_thinOut_1 4 rfl) (show (rnW w b hb r)[b + 1]? = some (cP 0 3690 (r 1)) from rnW_Rn hl 1 (by decide)) (by omega) (by omega) ?_
    refine T_iload (am_dec tX9_thinOut_1 5 rfl) rfl ?_
    refine T_isub (((r 1) i.toNat) - m65) (am_dec tX9_thinOut_1 6 rfl) rfl ⟨by omega, by omega⟩ ?_
    refine T_iastore (am_dec tX9_thinOut_1 7 rfl) (show (rnW w b hb r)[b + 1]? = some (cP 0 3690 (r 1)) from rnW_Rn hl 1 (by decide)) (by omega) (by omega) ?_
    refine am_wE (w2 := rnW w b hb (am_put r 1 i.toNat (((r 1) i.toNat) - m65))) rnW_p1 ?_
    refine T_aload_n (am_dec tX9_thinOut_1 8 rfl) rfl ?_
    refine T_getfield 8 10 (am_dec tX9_thinOut_1 9 rfl) flX9_24_8 (show (rnW w b hb (am_put r 1 i.toNat (((r 1) i.toNat) - m65)))[b]? = some (cO 8 [aR hb, aI (r 0 1), aI (r 0 2), aI (r 0 3), aI (r 0 4), aI (r 0 5), aR (b + 1), aR (b + 2), aR (b + 3), aR (b + 4), aR (b + 5), aR (b + 6), aR (b + 7), aR (b + 8), aR (b + 9)]) from rnW_Rn hl 0 (by decide)) rfl ?_
    refine T_iload_n (am_dec tX9_thinOut_1 10 rfl) rfl ?_
    refine T_iconst 1 (am_dec tX9_thinOut_1 11 rfl) rfl ⟨by decide, by decide⟩ ?_
    refine T_iadd (s + 1) (am_dec tX9_thinOut_1 12 rfl) rfl ⟨by omega, by omega⟩ ?_
    refine T_dup2 (am_dec tX9_thinOut_1 13 rfl) rfl rfl ?_
    refine T_iaload (am_dec tX9_thinOut_1 14 rfl) (show (rnW w b hb (am_put r 1 i.toNat (((r 1) i.toNat) - m65)))[b + 5]? = some (cP 0 41 (r 5)) from rnW_Rn hl 5 (by decide)) (by omega) (by omega) ?_
    refine T_iload (am_dec tX9_thinOut_1 15 rfl) rfl ?_
    refine T_iaddW (am_w32 (r 5 (s + 1).toNat + m65)) (am_dec tX9_thinOut_1 16 rfl) (am_w32e _).symm (am_w32r _) ?_
    refine T_iastore (am_dec tX9_thinOut_1 17 rfl) (show (rnW w b hb (am_put r 1 i.toNat (((r 1) i.toNat) - m65)))[b + 5]? = some (cP 0 41 (r 5)) from rnW_Rn hl 5 (by decide)) (by omega) (by omega) ?_
    refine am_wE (w2 := rnW w b hb (am_put (am_put r 1 i.toNat (((r 1) i.toNat) - m65)) 5 ((s + 1).toNat) (am_w32 (r 5 (s + 1).toNat + m65)))) rnW_p5 ?_
    refine T_iinc (ls' := [some (aR b), some (aI s), some (aI thin), some (aI loses), some (aI (i + 1)), some (aI m65)]) (i + 1) (am_dec tX9_thinOut_1 18 rfl) rfl rfl ⟨by omega, by omega⟩ (by decide) rfl ?_
    refine T_goto 46 (am_dec tX9_thinOut_1 19 rfl) rfl ?_
    refine T_weak (ls' := [some (aR b), some (aI s), some (aI thin), some (aI loses), some (aI (i + 1)), none]) (am_sub_s (am_sub_s (am_sub_s (am_sub_s (am_sub_s (am_sub_n am_sub_nil)))))) ?_
    have e9 : (g_thin s loses) i r = (am_put (am_put r 1 i.toNat (((r 1) i.toNat) - m65)) 5 ((s + 1).toNat) (am_w32 (r 5 (s + 1).toNat + m65))) := (by unfold g_thin f_lose; rw [hm65] <;> rfl)
    simp only [am_fold_s, e9] at k9
    exact ih (i + 1) (am_put (am_put r 1 i.toNat (((r 1) i.toNat) - m65)) 5 ((s + 1).toNat) (am_w32 (r 5 (s + 1).toNat + m65))) (by omega) (by omega) ⟨by omega, FgB.put (r := r) i2 (by omega)⟩ k9
theorem m_thinOut {S : am_S} {d u : Nat} {w : AH} {b hb : Nat} {r h : am_F} (hl : b + 10 ≤ w.length) (hx : hb + 20 ≤ b ∨ b + 10 ≤ hb) (hH : Hb w hb h) (hV : HbV h) (hTh : ThB h) (s : Int) (hs : 0 ≤ s ∧ s < 40) (hB : FgB r 10000) (hd : 2 ≤ d) : am_Out S zX9_thinOut d u [aR b, aI s] (rnW w b hb r) (.inl none) (rnW w b hb (f_thin h r s)) := by
  refine am_body rfl (by decide +kernel) rfl (am_cats_cons rfl ( am_cats_cons rfl (am_cats_nil))) (Nat.le_of_ble_eq_true rfl) (?_ : am_T _ _ _ _ _ 0 [some (aR b), some (aI s), none, none, none, none] [] (rnW w b hb r))
  have hV9 := hV
  obtain ⟨v1, v2, v3, v4, v5, v6, v7, v8, v9, v10, v11, v12, v13, v14, v15, v16, v17, v18, v19, v20, v21, v22⟩ := hV9
  refine T_aload_n (am_dec tX9_thinOut_0 0 rfl) rfl ?_
  refine T_getfield 8 0 (am_dec tX9_thinOut_0 1 rfl) flX9_43_8 (show (rnW w b hb r)[b]? = some (cO 8 [aR hb, aI (r 0 1), aI (r 0 2), aI (r 0 3), aI (r 0 4), aI (r 0 5), aR (b + 1), aR (b + 2), aR (b + 3), aR (b + 4), aR (b + 5), aR (b + 6), aR (b + 7), aR (b + 8), aR (b + 9)]) from rnW_Rn hl 0 (by decide)) rfl ?_
  refine T_getfield 3 4 (am_dec tX9_thinOut_0 2 rfl) flX9_169_3 ((rnW_Hb hx hH) 0 (by decide)) rfl ?_
  refine T_iload_n (am_dec tX9_thinOut_0 3 rfl) rfl ?_
  refine T_callV (as := [aI s]) rfl (am_dec tX9_thinOut_0 4 rfl) lkX9_118 ((rnW_Hb hx hH) 3 (by decide)) rfl rfl (Nat.le_of_ble_eq_true rfl) (by omega) (m_latest ((rnW_Hb hx hH) 3 (by decide)) ((rnW_Hb hx hH) 4 (by decide)) (by omega) (by omega) s (by omega)) (fun _ => ?_)
  obtain ⟨th8, hth8⟩ : ∃ x9 : Int, x9 = f_latest (h 0 4) (h 2) s := ⟨_, rfl⟩
  rw [← hth8]
  refine T_istore_n (ls' := [some (aR b), some (aI s), some (aI th8), none, none, none]) (am_dec tX9_thinOut_0 5 rfl) (by decide) rfl ?_
  refine T_iload_n (am_dec tX9_thinOut_0 6 rfl) rfl ?_
  refine T_iconst (-1) (am_dec tX9_thinOut_0 7 rfl) rfl ⟨by decide, by decide⟩ ?_
  refine T_icmp_ne 21 (am_dec tX9_thinOut_0 8 rfl) rfl (fun h14 => ?_) (fun h14 => ?_)
  · refine T_aload_n (am_dec tX9_thinOut_0 11 rfl) rfl ?_
    refine T_getfield 8 0 (am_dec tX9_thinOut_0 12 rfl) flX9_43_8 (show (rnW w b hb r)[b]? = some (cO 8 [aR hb, aI (r 0 1), aI (r 0 2), aI (r 0 3), aI (r 0 4), aI (r 0 5), aR (b + 1), aR (b + 2), aR (b + 3), aR (b + 4), aR (b + 5), aR (b + 6), aR (b + 7), aR (b + 8), aR (b + 9)]) from rnW_Rn hl 0 (by decide)) rfl ?_
    refine T_getfield 3 4 (am_dec tX9_thinOut_0 13 rfl) flX9_169_3 ((rnW_Hb hx hH) 0 (by decide)) rfl ?_
    refine T_iload_n (am_dec tX9_thinOut_0 14 rfl) rfl ?_
    refine T_iconst 1 (am_dec tX9_thinOut_0 15 rfl) rfl ⟨by decide, by decide⟩ ?_
    have sb30 := hTh th8
    refine T_callV (as := [aI th8, aI 1]) rfl (am_dec tX9_thinOut_0 16 rfl) lkX9_124 ((rnW_Hb hx hH) 3 (by decide)) rfl rfl (Nat.le_of_ble_eq_true rfl) (by omega) (m_at ((rnW_Hb hx hH) 3 (by decide)) ((rnW_Hb hx hH) 4 (by decide)) (by omega) th8 1) (fun _ => ?_)
    refine T_istore_n (ls' := [some (aR b), some (aI s), some (aI th8), some (aI (f_at (h 0 4) (h 2) th8 1)), none, none]) (am_dec tX9_thinOut_0 17 rfl) (by decide) rfl ?_
    refine T_iload_n (am_dec tX9_thinOut_0 18 rfl) rfl ?_
    refine T_if_le 101 (am_dec tX9_thinOut_0 19 rfl) rfl (fun h35 => ?_) (fun h35 => ?_)
    · exact T_return (am_dec tX9_thinOut_1 20 rfl) rfl ⟨rfl, by rw [show f_thin h r s = r from by unfold f_thin; rw [if_pos (by rw [(show f_loses h s = f_at (h 0 4) (h 2) th8 1 from by unfold f_loses f_thins; rw [← hth8]; split <;> first | rfl | omega)] <;> omega)]]⟩
    · refine T_iload_n (am_dec tX9_thinOut_0 20 rfl) rfl ?_
      refine T_iconst 1 (am_dec tX9_thinOut_0 21 rfl) rfl ⟨by decide, by decide⟩ ?_
      refine T_iadd (s + 1) (am_dec tX9_thinOut_0 22 rfl) rfl ⟨by omega, by omega⟩ ?_
      refine T_bipush 90 (am_dec tX9_thinOut_0 23 rfl) rfl ⟨by decide, by decide⟩ ?_
      refine T_imul ((s + 1) * 90) (am_dec tX9_thinOut_0 24 rfl) rfl ⟨by omega, by omega⟩ ?_
      refine T_istore (ls' := [some (aR b), some (aI s), some (aI th8), some (aI (f_at (h 0 4) (h 2) th8 1)), some (aI ((s + 1) * 90)), none]) (am_dec tX9_thinOut_0 25 rfl) (by decide) rfl ?_
      refine L_thin hl hx hH hV s th8 (f_at (h 0 4) (h 2) th8 1) hs (by omega) (by omega) ((s + 2) * 90 - ((s + 1) * 90)).toNat ((s + 1) * 90) r (by omega) (by omega) ⟨by omega, hB⟩ (fun r46 hr46 hv46 => ?_)
      exact T_return (am_dec tX9_thinOut_1 20 rfl) rfl ⟨rfl, by unfold f_thin; rw [if_neg (by rw [(show f_loses h s = f_at (h 0 4) (h 2) th8 1 from by unfold f_loses f_thins; rw [← hth8]; split <;> first | rfl | omega)] <;> omega), (show f_loses h s = f_at (h 0 4) (h 2) th8 1 from by unfold f_loses f_thins; rw [← hth8]; split <;> first | rfl | omega), hr46, show ((s + 2) * 90 - (s + 1) * 90).toNat = 90 by omega]⟩
  · refine T_iconst 0 (am_dec tX9_thinOut_0 9 rfl) rfl ⟨by decide, by decide⟩ ?_
    refine T_goto 33 (am_dec tX9_thinOut_0 10 rfl) rfl ?_
    refine T_istore_n (ls' := [some (aR b), some (aI s), some (aI th8), some (aI 0), none, none]) (am_dec tX9_thinOut_0 17 rfl) (by decide) rfl ?_
    refine T_iload_n (am_dec tX9_thinOut_0 18 rfl) rfl ?_
    refine T_if_le 101 (am_dec tX9_thinOut_0 19 rfl) rfl (fun h35 => ?_) (fun h35 => by exfalso; omega)
    exact T_return (am_dec tX9_thinOut_1 20 rfl) rfl ⟨rfl, by rw [show f_thin h r s = r from by unfold f_thin; rw [if_pos (by rw [(show f_loses h s = 0 from by unfold f_loses f_thins; rw [← hth8]; split <;> first | rfl | omega)] <;> omega)]]⟩
