/-! the cheapest way -/
theorem f_moveB {r h g : am_F} {s : Int} (hF : RnF r) (hV : HbV h) (hWt : WtB h) (h0 : EyB g 0) (h1 : EyB g 1) : EyB (f_move r h s g) 0 ∧ EyB (f_move r h s g) 1 := by
  have v := hV
  obtain ⟨v1, v2, v3, v4, v5⟩ := v
  have q := am_fold_inv (P := fun (_ : Int) (x : am_F) => EyB x 0 ∧ EyB x 1) (g := g_move r h s) (h 0 1).toNat 0 _ (f_cpyB h0 h1) (fun y x a b hp => by
    have q := am_fold_inv (P := fun (_ : Int) (x : am_F) => EyB x 0 ∧ EyB x 1) (g := g_movex r h s y) (h 0 0).toNat 0 x hp (fun i x c d hp => by
      have b0 := f_before_b (h := h) hp.2 i y
      have b1 := f_before_b (h := h) hp.2 (i - 1) y
      have b2 := f_before_b (h := h) hp.2 (i + 1) y
      have b3 := f_before_b (h := h) hp.2 i (y - 1)
      have b4 := f_before_b (h := h) hp.2 i (y + 1)
      have l : 0 ≤ f_least5 h x i y := by unfold f_least5 am_mn; omega
      have n := f_need_b hF hV hWt (c := i + 10 * y) (by omega) s
      unfold g_movex
      exact ⟨am_upB hp.1 (by split <;> omega), hp.2⟩)
    exact q)
  exact q
theorem am_fillB {q : Nat} {f : Nat → Int} {v lo hi : Int} (hf : ∀ j, lo ≤ f j ∧ f j ≤ hi) (hv : lo ≤ v ∧ v ≤ hi) : ∀ j, lo ≤ am_fill q f v j ∧ am_fill q f v j ≤ hi := by
  have q := am_fold_inv (P := fun (_ : Int) (x : Nat → Int) => ∀ j, lo ≤ x j ∧ x j ≤ hi) (g := fun i f => am_up f i.toNat v) q 0 f hf (fun i x a b hp => am_upB hp hv)
  exact q
def f_cheap0 (r h g : am_F) (fr step : Int) : am_F := am_put (am_row g 0 (am_fill 90 (g 0) 1000000)) 0 fr.toNat (f_need r h fr step)
def g_ways (r h : am_F) (step i : Int) (g : am_F) : am_F := f_move r h (step + i) g
def f_upto (later : Int) : Int := if later < 12 then later else 12
def f_ways (r h g : am_F) (fr step later : Int) : am_F := am_fold (g_ways r h step) 1 (f_upto later).toNat (f_cheap0 r h g fr step)
def f_cheapG (r h g : am_F) (fr to step later : Int) : am_F := if (0 ≤ fr ∧ fr < 90) ∧ 0 ≤ to ∧ to < 90 then f_ways r h g fr step later else g
def f_cheapest (r h g : am_F) (fr to step later : Int) : Int := if (0 ≤ fr ∧ fr < 90) ∧ 0 ≤ to ∧ to < 90 then (if 1000000 ≤ f_ways r h g fr step later 0 to.toNat then -1 else f_ways r h g fr step later 0 to.toNat) else -1
theorem f_cheap0B {r h g : am_F} {fr step : Int} (hF : RnF r) (hV : HbV h) (hWt : WtB h) (hfr : 0 ≤ fr ∧ fr ≤ 99) (h0 : EyB g 0) (h1 : EyB g 1) : EyB (f_cheap0 r h g fr step) 0 ∧ EyB (f_cheap0 r h g fr step) 1 :=
  ⟨am_upB (am_fillB (v := 1000000) h0 (by omega)) (by have := f_need_b hF hV hWt hfr step; omega), h1⟩
theorem f_cheapB {r h g : am_F} {fr to step later : Int} (hF : RnF r) (hV : HbV h) (hWt : WtB h) (h0 : EyB g 0) (h1 : EyB g 1) : EyB (f_cheapG r h g fr to step later) 0 ∧ EyB (f_cheapG r h g fr to step later) 1 := by
  unfold f_cheapG
  split
  · next hh =>
    have q := am_fold_inv (P := fun (_ : Int) (x : am_F) => EyB x 0 ∧ EyB x 1) (g := g_ways r h step) (f_upto later).toNat 1 _ (f_cheap0B (step := step) hF hV hWt (fr := fr) (by omega) h0 h1) (fun i x a b hp => f_moveB hF hV hWt hp.1 hp.2)
    exact q
  · exact ⟨h0, h1⟩
theorem L_ways {S : am_S} {d u : Nat} {Q : AO → AH → Prop} {w : AH} {e b hb : Nat} {r h : am_F} (hl : e + 3 ≤ w.length) (hx1 : b + 10 ≤ e ∨ e + 3 ≤ b) (hx2 : hb + 20 ≤ e ∨ e + 3 ≤ hb) (hR : Rn w b hb r) (hH : Hb w hb h) (hV : HbV h) (hF : RnF r) (hW : HbW h) (hCo : CoB h) (hWt : WtB h) (fr to step later : Int) (hst : -10 ≤ step ∧ step ≤ 1000) (hd : 7 ≤ d) (B : Int) (hB : later < B ∨ 12 < B) (hB2 : 1 < B → B ≤ later + 1 ∧ B ≤ 13) : ∀ (n : Nat) (i : Int) (g : am_F), i + n = B → 0 ≤ i → 1 ≤ i ∧ EyB g 0 ∧ EyB g 1 → (∀ (g' : am_F), g' = am_fold (g_ways r h step) i n g → 1 ≤ B ∧ EyB g' 0 ∧ EyB g' 1 → am_T S zX2_cheapest d u Q 77 [some (aR e), some (aR b), some (aI fr), some (aI to), some (aI step), some (aI later), some (aI B)] [] (eyW w e g')) → am_T S zX2_cheapest d u Q 47 [some (aR e), some (aR b), some (aI fr), some (aI to), some (aI step), some (aI later), some (aI i)] [] (eyW w e g) := by
  intro n
  induction n with
  | zero =>
    intro i g hi9 h0i hinv k9
    obtain ⟨i0, i1, i2⟩ := hinv
    have hinv := And.intro i0 (And.intro i1 i2)
    refine T_iload (am_dec tX2_cheapest_0 26 rfl) rfl ?_
    refine T_iload (am_dec tX2_cheapest_0 27 rfl) rfl ?_
    refine T_icmp_gt 77 (am_dec tX2_cheapest_0 28 rfl) rfl (fun h51 => ?_) (fun h51 => ?_)
    · have e9 : i = B := by omega
      rw [← e9] at k9
      exact k9 g rfl (by first | exact hinv | omega)
    · refine T_iload (am_dec tX2_cheapest_0 29 rfl) rfl ?_
      refine T_bipush 12 (am_dec tX2_cheapest_0 30 rfl) rfl ⟨by decide, by decide⟩ ?_
      refine T_icmp_gt 77 (am_dec tX2_cheapest_0 31 rfl) rfl (fun h58 => ?_) (fun h58 => ?_)
      · have e9 : i = B := by omega
        rw [← e9] at k9
        exact k9 g rfl (by first | exact hinv | omega)
      · exfalso; omega
  | succ n ih =>
    intro i g hi9 h0i hinv k9
    obtain ⟨i0, i1, i2⟩ := hinv
    have hinv := And.intro i0 (And.intro i1 i2)
    refine T_iload (am_dec tX2_cheapest_0 26 rfl) rfl ?_
    refine T_iload (am_dec tX2_cheapest_0 27 rfl) rfl ?_
    refine T_icmp_gt 77 (am_dec tX2_cheapest_0 28 rfl) rfl (fun h51 => ?_) (fun h51 => ?_)
    · exfalso; omega
    · refine T_iload (am_dec tX2_cheapest_0 29 rfl) rfl ?_
      refine T_bipush 12 (am_dec tX2_cheapest_0 30 rfl) rfl ⟨by decide, by decide⟩ ?_
      refine T_icmp_gt 77 (am_dec tX2_cheapest_0 31 rfl) rfl (fun h58 => ?_) (fun h58 => ?_)
      · exfalso; omega
      · refine T_aload_n (am_dec tX2_cheapest_0 32 rfl) rfl ?_
        refine T_aload_n (am_dec tX2_cheapest_0 33 rfl) rfl ?_
        refine T_iload (am_dec tX2_cheapest_0 34 rfl) rfl ?_
        refine T_iload (am_dec tX2_cheapest_0 35 rfl) rfl ?_
        refine T_iadd (step + i) (am_dec tX2_cheapest_0 36 rfl) rfl ⟨by omega, by omega⟩ ?_
        refine T_callV (as := [aR b, aI (step + i)]) rfl (am_dec tX2_cheapest_0 37 rfl) lkX2_97 (show (eyW w e g)[e]? = some (cO 2 [aR (e + 1), aR (e + 2)]) from eyW_c hl 0 (by decide)) rfl rfl (Nat.le_of_ble_eq_true rfl) (by omega) (m_move hl hx1 hx2 hR hH hV hF hW hCo hWt (step + i) i1 i2 (by omega)) (fun _ => ?_)
        refine T_iinc (ls' := [some (aR e), some (aR b), some (aI fr), some (aI to), some (aI step), some (aI later), some (aI (i + 1))]) (i + 1) (am_dec tX2_cheapest_0 38 rfl) rfl rfl ⟨by omega, by omega⟩ (by decide) rfl ?_
        refine T_goto 47 (am_dec tX2_cheapest_0 39 rfl) rfl ?_
        have e9 : (g_ways r h step) i g = (f_move r h (step + i) g) := rfl
        simp only [am_fold_s, e9] at k9
        exact ih (i + 1) (f_move r h (step + i) g) (by omega) (by omega) ⟨by omega, (f_moveB hF hV hWt i1 i2).1, (f_moveB hF hV hWt i1 i2).2⟩ k9
theorem m_cheapest {S : am_S} {d u : Nat} {w : AH} {e b hb : Nat} {g r h : am_F} (hl : e + 3 ≤ w.length) (hx1 : b + 10 ≤ e ∨ e + 3 ≤ b) (hx2 : hb + 20 ≤ e ∨ e + 3 ≤ hb) (hR : Rn w b hb r) (hH : Hb w hb h) (hV : HbV h) (hF : RnF r) (hW : HbW h) (hCo : CoB h) (hWt : WtB h) (fr to step later : Int) (hst : -10 ≤ step ∧ step ≤ 1000) (hd : 7 ≤ d) (hE0 : EyB g 0) (hE1 : EyB g 1) : am_Out S zX2_cheapest d u [aR e, aR b, aI fr, aI to, aI step, aI later] (eyW w e g) (.inl (some (aI (f_cheapest r h g fr to step later)))) (eyW w e (f_cheapG r h g fr to step later)) := by
  refine am_body rfl (by decide +kernel) rfl (am_cats_cons rfl ( am_cats_cons rfl ( am_cats_cons rfl ( am_cats_cons rfl ( am_cats_cons rfl ( am_cats_cons rfl (am_cats_nil))))))) (Nat.le_of_ble_eq_true rfl) (?_ : am_T _ _ _ _ _ 0 [some (aR e), some (aR b), some (aI fr), some (aI to), some (aI step), some (aI later), none] [] (eyW w e g))
  have hV9 := hV
  obtain ⟨v1, v2, v3, v4, v5, v6, v7, v8, v9, v10, v11, v12, v13, v14, v15, v16, v17, v18, v19, v20, v21, v22⟩ := hV9
  refine T_iload_n (am_dec tX2_cheapest_0 0 rfl) rfl ?_
  refine T_if_lt 20 (am_dec tX2_cheapest_0 1 rfl) rfl (fun h1 => ?_) (fun h1 => ?_)
  · refine T_iconst (-1) (am_dec tX2_cheapest_0 10 rfl) rfl ⟨by decide, by decide⟩ ?_
    exact T_ireturn (am_dec tX2_cheapest_0 11 rfl) rfl (am_outIw (by unfold f_cheapest; rw [if_neg (by omega)]) (by unfold f_cheapG; rw [if_neg (by omega)]))
  · refine T_iload_n (am_dec tX2_cheapest_0 2 rfl) rfl ?_
    refine T_bipush 90 (am_dec tX2_cheapest_0 3 rfl) rfl ⟨by decide, by decide⟩ ?_
    refine T_icmp_ge 20 (am_dec tX2_cheapest_0 4 rfl) rfl (fun h7 => ?_) (fun h7 => ?_)
    · refine T_iconst (-1) (am_dec tX2_cheapest_0 10 rfl) rfl ⟨by decide, by decide⟩ ?_
      exact T_ireturn (am_dec tX2_cheapest_0 11 rfl) rfl (am_outIw (by unfold f_cheapest; rw [if_neg (by omega)]) (by unfold f_cheapG; rw [if_neg (by omega)]))
    · refine T_iload_n (am_dec tX2_cheapest_0 5 rfl) rfl ?_
      refine T_if_lt 20 (am_dec tX2_cheapest_0 6 rfl) rfl (fun h11 => ?_) (fun h11 => ?_)
      · refine T_iconst (-1) (am_dec tX2_cheapest_0 10 rfl) rfl ⟨by decide, by decide⟩ ?_
        exact T_ireturn (am_dec tX2_cheapest_0 11 rfl) rfl (am_outIw (by unfold f_cheapest; rw [if_neg (by omega)]) (by unfold f_cheapG; rw [if_neg (by omega)]))
      · refine T_iload_n (am_dec tX2_cheapest_0 7 rfl) rfl ?_
        refine T_bipush 90 (am_dec tX2_cheapest_0 8 rfl) rfl ⟨by decide, by decide⟩ ?_
        refine T_icmp_lt 22 (am_dec tX2_cheapest_0 9 rfl) rfl (fun h17 => ?_) (fun h17 => ?_)
        · refine T_aload_n (am_dec tX2_cheapest_0 12 rfl) rfl ?_
          refine T_getfield 2 0 (am_dec tX2_cheapest_0 13 rfl) flX2_9_2 (show (eyW w e g)[e]? = some (cO 2 [aR (e + 1), aR (e + 2)]) from eyW_c hl 0 (by decide)) rfl ?_
          refine T_ldc 1000000 (am_dec tX2_cheapest_0 14 rfl) (am_m6 3 rfl rfl) ⟨by decide, by decide⟩ ?_
          refine T_callS (as := [aR (e + 1), aI 1000000]) rfl (am_dec tX2_cheapest_0 15 rfl) lkX2_91 rfl (Nat.le_of_ble_eq_true rfl) (by omega) (m_fill (show (eyW w e g)[e + 1]? = some (cP 0 90 (g 0)) from eyW_c hl 1 (by decide)) (by decide) 1000000 (show _ = eyW w e (am_row g 0 (am_fill 90 (g 0) 1000000)) from eyW_r1)) (fun _ => ?_)
          refine T_aload_n (am_dec tX2_cheapest_0 16 rfl) rfl ?_
          refine T_getfield 2 0 (am_dec tX2_cheapest_0 17 rfl) flX2_9_2 (show (eyW w e (am_row g 0 (am_fill 90 (g 0) 1000000)))[e]? = some (cO 2 [aR (e + 1), aR (e + 2)]) from eyW_c hl 0 (by decide)) rfl ?_
          refine T_iload_n (am_dec tX2_cheapest_0 18 rfl) rfl ?_
          refine T_aload_n (am_dec tX2_cheapest_0 19 rfl) rfl ?_
          refine T_iload_n (am_dec tX2_cheapest_0 20 rfl) rfl ?_
          refine T_iload (am_dec tX2_cheapest_0 21 rfl) rfl ?_
          have nd40 := f_need_b hF hV hWt (c := fr) (by omega) step
          refine T_callS (as := [aR b, aI fr, aI step]) rfl (am_dec tX2_cheapest_0 22 rfl) lkX2_87 rfl (Nat.le_of_ble_eq_true rfl) (by omega) (m_need (eyW_Rn hx1 hR) (eyW_Hb hx2 hH) hV hF hW hCo hWt fr step (by omega) (by omega)) (fun _ => ?_)
          refine T_iastore (am_dec tX2_cheapest_0 23 rfl) (show (eyW w e (am_row g 0 (am_fill 90 (g 0) 1000000)))[e + 1]? = some (cP 0 90 (am_fill 90 (g 0) 1000000)) from eyW_c hl 1 (by decide)) (by omega) (by omega) ?_
          refine am_wE (w2 := eyW w e (am_put (am_row g 0 (am_fill 90 (g 0) 1000000)) 0 fr.toNat (f_need r h fr step))) eyW_p1 ?_
          refine T_iconst 1 (am_dec tX2_cheapest_0 24 rfl) rfl ⟨by decide, by decide⟩ ?_
          refine T_istore (ls' := [some (aR e), some (aR b), some (aI fr), some (aI to), some (aI step), some (aI later), some (aI 1)]) (am_dec tX2_cheapest_0 25 rfl) (by decide) rfl ?_
          obtain ⟨B, eB⟩ : ∃ B : Int, B = (if 0 < f_upto later then f_upto later else 0) + 1 := ⟨_, rfl⟩
          have eU : f_upto later = if later < 12 then later else 12 := rfl
          refine L_ways hl hx1 hx2 hR hH hV hF hW hCo hWt fr to step later hst hd B (by omega) (by omega) (B - 1).toNat 1 (f_cheap0 r h g fr step) (by omega) (by omega) ⟨by omega, (f_cheap0B hF hV hWt (by omega) hE0 hE1).1, (f_cheap0B hF hV hWt (by omega) hE0 hE1).2⟩ (fun g9 hg9 hv9 => ?_)
          have e9 : f_ways r h g fr step later = g9 := by unfold f_ways; rw [hg9, show (f_upto later).toNat = (B - 1).toNat by omega]
          have b9 := hv9.2.1 to.toNat
          refine T_aload_n (am_dec tX2_cheapest_1 0 rfl) rfl ?_
          refine T_getfield 2 0 (am_dec tX2_cheapest_1 1 rfl) flX2_9_2 (show (eyW w e g9)[e]? = some (cO 2 [aR (e + 1), aR (e + 2)]) from eyW_c hl 0 (by decide)) rfl ?_
          refine T_iload_n (am_dec tX2_cheapest_1 2 rfl) rfl ?_
          refine T_iaload (am_dec tX2_cheapest_1 3 rfl) (show (eyW w e g9)[e + 1]? = some (cP 0 90 (g9 0)) from eyW_c hl 1 (by decide)) (by omega) (by omega) ?_
          refine T_ldc 1000000 (am_dec tX2_cheapest_1 4 rfl) (am_m6 3 rfl rfl) ⟨by decide, by decide⟩ ?_
          refine T_icmp_lt 92 (am_dec tX2_cheapest_1 5 rfl) rfl (fun h85 => ?_) (fun h85 => ?_)
          · refine T_aload_n (am_dec tX2_cheapest_1 8 rfl) rfl ?_
            refine T_getfield 2 0 (am_dec tX2_cheapest_1 9 rfl) flX2_9_2 (show (eyW w e g9)[e]? = some (cO 2 [aR (e + 1), aR (e + 2)]) from eyW_c hl 0 (by decide)) rfl ?_
            refine T_iload_n (am_dec tX2_cheapest_1 10 rfl) rfl ?_
            refine T_iaload (am_dec tX2_cheapest_1 11 rfl) (show (eyW w e g9)[e + 1]? = some (cP 0 90 (g9 0)) from eyW_c hl 1 (by decide)) (by omega) (by omega) ?_
            exact T_ireturn (am_dec tX2_cheapest_1 12 rfl) rfl (am_outIw (by unfold f_cheapest; rw [if_pos (by omega), e9]; first | (rw [if_pos (by omega)]; done) | (rw [if_neg (by omega)]; done)) (by unfold f_cheapG; rw [if_pos (by omega), e9]))
          · refine T_iconst (-1) (am_dec tX2_cheapest_1 6 rfl) rfl ⟨by decide, by decide⟩ ?_
            refine T_goto 98 (am_dec tX2_cheapest_1 7 rfl) rfl ?_
            exact T_ireturn (am_dec tX2_cheapest_1 12 rfl) rfl (am_outIw (by unfold f_cheapest; rw [if_pos (by omega), e9]; first | (rw [if_pos (by omega)]; done) | (rw [if_neg (by omega)]; done)) (by unfold f_cheapG; rw [if_pos (by omega), e9]))
        · refine T_iconst (-1) (am_dec tX2_cheapest_0 10 rfl) rfl ⟨by decide, by decide⟩ ?_
          exact T_ireturn (am_dec tX2_cheapest_0 11 rfl) rfl (am_outIw (by unfold f_cheapest; rw [if_neg (by omega)]) (by unfold f_cheapG; rw [if_neg (by omega)]))
