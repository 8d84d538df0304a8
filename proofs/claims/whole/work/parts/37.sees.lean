/-! who SEES whom -/
def am_ior (a b : Int) : Int := (Int32.ofInt a ||| Int32.ofInt b).toInt
def am_ishl (a b : Int) : Int := (Int32.ofInt a <<< (Int32.ofInt b &&& 31)).toInt
theorem f_line_b {r : am_F} (hF : RnF r) {fr to : Int} (hfr : 0 ≤ fr ∧ fr ≤ 88) (hto : 0 ≤ to ∧ to ≤ 99) (s : Int) : -1 ≤ f_line r fr to s ∧ f_line r fr to s ≤ 990 := by
  unfold f_line
  split
  · omega
  · have hw : 0 ≤ f_wide fr to ∧ f_wide fr to ≤ 9 := by unfold f_wide; omega
    have hh : 0 ≤ f_high fr to ∧ f_high fr to ≤ 9 := by unfold f_high; omega
    have q := am_fold_inv (P := fun (i a : Int) => 0 ≤ a ∧ a ≤ 99 * i) (g := g_line r fr (f_str fr to) s) ((if f_wide fr to < f_high fr to then f_high fr to else f_wide fr to) + 1).toNat 0 0 (by omega) (fun i a b c hp => by
      have := f_fogOn_b hF (fr + i * f_str fr to) s
      unfold g_line
      omega)
    omega
def CoB (h : am_F) : Prop := ∀ k s : Int, -1 ≤ f_cellOf h k s ∧ f_cellOf h k s ≤ 88
def WtB (h : am_F) : Prop := ∀ k : Int, 0 ≤ f_at (h 0 9) (h 7) k 0 ∧ f_at (h 0 9) (h 7) k 0 ≤ 88
def f_clear (r h : am_F) (fr to s : Int) : Int := if fr = -1 ∨ to = -1 then 0 else if f_line r fr to s ≠ -1 ∧ f_line r fr to s < h 0 2 then 1 else 0
theorem m_clear {S : am_S} {d u : Nat} {w : AH} {b hb : Nat} {r h : am_F} (hR : Rn w b hb r) (hH : Hb w hb h) (hV : HbV h) (hF : RnF r) (fr to s : Int) (hfr : fr = -1 ∨ (0 ≤ fr ∧ fr ≤ 88)) (hto : to = -1 ∨ (0 ≤ to ∧ to ≤ 99)) (hd : 4 ≤ d) : am_Out S zX2_isClear d u [aR b, aI fr, aI to, aI s] w (.inl (some (aI (f_clear r h fr to s)))) w := by
  refine am_body rfl (by decide +kernel) rfl (am_cats_cons rfl ( am_cats_cons rfl ( am_cats_cons rfl ( am_cats_cons rfl (am_cats_nil))))) (Nat.le_of_ble_eq_true rfl) (?_ : am_T _ _ _ _ _ 0 [some (aR b), some (aI fr), some (aI to), some (aI s), none] [] w)
  have hV9 := hV
  obtain ⟨v1, v2, v3, v4, v5, v6, v7, v8, v9, v10, v11, v12, v13, v14, v15, v16, v17, v18, v19, v20, v21, v22⟩ := hV9
  refine T_iload_n (am_dec tX2_isClear_0 0 rfl) rfl ?_
  refine T_iconst (-1) (am_dec tX2_isClear_0 1 rfl) rfl ⟨by decide, by decide⟩ ?_
  refine T_icmp_eq 10 (am_dec tX2_isClear_0 2 rfl) rfl (fun h2 => ?_) (fun h2 => ?_)
  · refine T_iconst 0 (am_dec tX2_isClear_0 6 rfl) rfl ⟨by decide, by decide⟩ ?_
    exact T_zreturn (am_dec tX2_isClear_0 7 rfl) rfl (by first | exact Or.inl rfl | exact Or.inr rfl | omega) (am_outI (by unfold f_clear; first | (rw [if_pos (by omega)]; done) | (rw [if_neg (by omega), if_pos (by omega)]; done) | (rw [if_neg (by omega), if_neg (by omega)]; done)))
  · refine T_iload_n (am_dec tX2_isClear_0 3 rfl) rfl ?_
    refine T_iconst (-1) (am_dec tX2_isClear_0 4 rfl) rfl ⟨by decide, by decide⟩ ?_
    refine T_icmp_ne 12 (am_dec tX2_isClear_0 5 rfl) rfl (fun h7 => ?_) (fun h7 => ?_)
    · refine T_aload_n (am_dec tX2_isClear_0 8 rfl) rfl ?_
      refine T_iload_n (am_dec tX2_isClear_0 9 rfl) rfl ?_
      refine T_iload_n (am_dec tX2_isClear_0 10 rfl) rfl ?_
      refine T_iload_n (am_dec tX2_isClear_0 11 rfl) rfl ?_
      have ln16 := f_line_b hF (fr := fr) (to := to) (by omega) (by omega) s
      refine T_callS (as := [aR b, aI fr, aI to, aI s]) rfl (am_dec tX2_isClear_0 12 rfl) lkX2_38 rfl (Nat.le_of_ble_eq_true rfl) (by omega) (m_line hR hF fr to s (by omega) (by omega) (by omega)) (fun _ => ?_)
      refine T_istore (ls' := [some (aR b), some (aI fr), some (aI to), some (aI s), some (aI (f_line r fr to s))]) (am_dec tX2_isClear_0 13 rfl) (by decide) rfl ?_
      refine T_iload (am_dec tX2_isClear_0 14 rfl) rfl ?_
      refine T_iconst (-1) (am_dec tX2_isClear_0 15 rfl) rfl ⟨by decide, by decide⟩ ?_
      refine T_icmp_eq 43 (am_dec tX2_isClear_0 16 rfl) rfl (fun h24 => ?_) (fun h24 => ?_)
      · refine T_iconst 0 (am_dec tX2_isClear_0 24 rfl) rfl ⟨by decide, by decide⟩ ?_
        exact T_zreturn (am_dec tX2_isClear_0 25 rfl) rfl (by first | exact Or.inl rfl | exact Or.inr rfl | omega) (am_outI (by unfold f_clear; first | (rw [if_pos (by omega)]; done) | (rw [if_neg (by omega), if_pos (by omega)]; done) | (rw [if_neg (by omega), if_neg (by omega)]; done)))
      · refine T_iload (am_dec tX2_isClear_0 17 rfl) rfl ?_
        refine T_aload_n (am_dec tX2_isClear_0 18 rfl) rfl ?_
        refine T_getfield 8 0 (am_dec tX2_isClear_0 19 rfl) flX2_42_8 (hR 0 (by decide)) rfl ?_
        refine T_getfield 3 2 (am_dec tX2_isClear_0 20 rfl) flX2_46_3 (hH 0 (by decide)) rfl ?_
        refine T_icmp_ge 43 (am_dec tX2_isClear_0 21 rfl) rfl (fun h36 => ?_) (fun h36 => ?_)
        · refine T_iconst 0 (am_dec tX2_isClear_0 24 rfl) rfl ⟨by decide, by decide⟩ ?_
          exact T_zreturn (am_dec tX2_isClear_0 25 rfl) rfl (by first | exact Or.inl rfl | exact Or.inr rfl | omega) (am_outI (by unfold f_clear; first | (rw [if_pos (by omega)]; done) | (rw [if_neg (by omega), if_pos (by omega)]; done) | (rw [if_neg (by omega), if_neg (by omega)]; done)))
        · refine T_iconst 1 (am_dec tX2_isClear_0 22 rfl) rfl ⟨by decide, by decide⟩ ?_
          refine T_goto 44 (am_dec tX2_isClear_0 23 rfl) rfl ?_
          exact T_zreturn (am_dec tX2_isClear_0 25 rfl) rfl (by first | exact Or.inl rfl | exact Or.inr rfl | omega) (am_outI (by unfold f_clear; first | (rw [if_pos (by omega)]; done) | (rw [if_neg (by omega), if_pos (by omega)]; done) | (rw [if_neg (by omega), if_neg (by omega)]; done)))
    · refine T_iconst 0 (am_dec tX2_isClear_0 6 rfl) rfl ⟨by decide, by decide⟩ ?_
      exact T_zreturn (am_dec tX2_isClear_0 7 rfl) rfl (by first | exact Or.inl rfl | exact Or.inr rfl | omega) (am_outI (by unfold f_clear; first | (rw [if_pos (by omega)]; done) | (rw [if_neg (by omega), if_pos (by omega)]; done) | (rw [if_neg (by omega), if_neg (by omega)]; done)))
theorem f_clear_b (r h : am_F) (fr to s : Int) : 0 ≤ f_clear r h fr to s ∧ f_clear r h fr to s ≤ 1 := by
  unfold f_clear
  split
  · omega
  · split <;> omega
def f_seeEach (r h : am_F) (k l s : Int) : Int := f_clear r h (f_cellOf h k s) (f_cellOf h l s) s
theorem m_seeEach {S : am_S} {d u : Nat} {w : AH} {b hb : Nat} {r h : am_F} (hR : Rn w b hb r) (hH : Hb w hb h) (hV : HbV h) (hF : RnF r) (hW : HbW h) (hCo : CoB h) (hWt : WtB h) (k l s : Int) (hd : 5 ≤ d) : am_Out S zX2_seeEachOther d u [aR b, aI k, aI l, aI s] w (.inl (some (aI (f_seeEach r h k l s)))) w := by
  refine am_body rfl (by decide +kernel) rfl (am_cats_cons rfl ( am_cats_cons rfl ( am_cats_cons rfl ( am_cats_cons rfl (am_cats_nil))))) (Nat.le_of_ble_eq_true rfl) (?_ : am_T _ _ _ _ _ 0 [some (aR b), some (aI k), some (aI l), some (aI s), none] [] w)
  refine T_aload_n (am_dec tX2_seeEachOther_0 0 rfl) rfl ?_
  refine T_getfield 8 0 (am_dec tX2_seeEachOther_0 1 rfl) flX2_42_8 (hR 0 (by decide)) rfl ?_
  refine T_astore (ls' := [some (aR b), some (aI k), some (aI l), some (aI s), some (aR hb)]) (am_dec tX2_seeEachOther_0 2 rfl) (by decide) rfl ?_
  refine T_aload_n (am_dec tX2_seeEachOther_0 3 rfl) rfl ?_
  refine T_aload (am_dec tX2_seeEachOther_0 4 rfl) rfl ?_
  refine T_iload_n (am_dec tX2_seeEachOther_0 5 rfl) rfl ?_
  refine T_iload_n (am_dec tX2_seeEachOther_0 6 rfl) rfl ?_
  have co11 := hCo k s
  refine T_callV (as := [aI k, aI s]) rfl (am_dec tX2_seeEachOther_0 7 rfl) lkX2_52 (hH 0 (by decide)) rfl rfl (Nat.le_of_ble_eq_true rfl) (by omega) (m_cellOf hH hV hW (by omega) k s) (fun _ => ?_)
  refine T_aload (am_dec tX2_seeEachOther_0 8 rfl) rfl ?_
  refine T_iload_n (am_dec tX2_seeEachOther_0 9 rfl) rfl ?_
  refine T_iload_n (am_dec tX2_seeEachOther_0 10 rfl) rfl ?_
  have co18 := hCo l s
  refine T_callV (as := [aI l, aI s]) rfl (am_dec tX2_seeEachOther_0 11 rfl) lkX2_52 (hH 0 (by decide)) rfl rfl (Nat.le_of_ble_eq_true rfl) (by omega) (m_cellOf hH hV hW (by omega) l s) (fun _ => ?_)
  refine T_iload_n (am_dec tX2_seeEachOther_0 12 rfl) rfl ?_
  have cb22 := f_clear_b r h (f_cellOf h k s) (f_cellOf h l s) s
  refine T_callS (as := [aR b, aI (f_cellOf h k s), aI (f_cellOf h l s), aI s]) rfl (am_dec tX2_seeEachOther_0 13 rfl) lkX2_55 rfl (Nat.le_of_ble_eq_true rfl) (by omega) (m_clear hR hH hV hF (f_cellOf h k s) (f_cellOf h l s) s (by omega) (by omega) (by omega)) (fun _ => ?_)
  exact T_zreturn (am_dec tX2_seeEachOther_0 14 rfl) rfl (by first | exact Or.inl rfl | exact Or.inr rfl | omega) (am_outI rfl)
def g_watches (r h : am_F) (c s i a : Int) : Int := if f_clear r h (f_at (h 0 9) (h 7) i 0) c s = 0 then a else am_ior a (am_ishl 1 i)
def f_watchesOn (r h : am_F) (c s : Int) : Int := am_fold (g_watches r h c s) 0 (h 0 9).toNat 0
theorem L_watches {S : am_S} {d u : Nat} {Q : AO → AH → Prop} {w : AH} {b hb : Nat} {r h : am_F} (hR : Rn w b hb r) (hH : Hb w hb h) (hV : HbV h) (hF : RnF r) (hW : HbW h) (hCo : CoB h) (hWt : WtB h) (c s : Int) (hc : c = -1 ∨ (0 ≤ c ∧ c ≤ 88)) (hd : 5 ≤ d) : ∀ (n : Nat) (i : Int) (a : Int), i + n = h 0 9 → 0 ≤ i → True → (∀ (a' : Int), a' = am_fold (g_watches r h c s) i n a → True → am_T S zX2_watchesOn d u Q 57 [some (aR b), some (aI c), some (aI s), some (aR hb), some (aI a'), some (aI (h 0 9))] [] (w)) → am_T S zX2_watchesOn d u Q 11 [some (aR b), some (aI c), some (aI s), some (aR hb), some (aI a), some (aI i)] [] (w) := by
  have hV9 := hV
  obtain ⟨v1, v2, v3, v4, v5, v6, v7, v8, v9, v10, v11, v12, v13, v14, v15, v16, v17, v18, v19, v20, v21, v22⟩ := hV9
  intro n
  induction n with
  | zero =>
    intro i a hi9 h0i hinv k9
    refine T_iload (am_dec tX2_watchesOn_0 7 rfl) rfl ?_
    refine T_aload_n (am_dec tX2_watchesOn_0 8 rfl) rfl ?_
    refine T_getfield 3 9 (am_dec tX2_watchesOn_0 9 rfl) flX2_59_3 (hH 0 (by decide)) rfl ?_
    refine T_getfield 9 2 (am_dec tX2_watchesOn_0 10 rfl) flX2_63_9 (hH 13 (by decide)) rfl ?_
    refine T_icmp_ge 57 (am_dec tX2_watchesOn_0 11 rfl) rfl (fun h20 => ?_) (fun h20 => by exfalso; omega)
    have e9 : i = h 0 9 := by omega
    rw [← e9] at k9
    exact k9 a rfl (by first | exact hinv | omega)
  | succ n ih =>
    intro i a hi9 h0i hinv k9
    refine T_iload (am_dec tX2_watchesOn_0 7 rfl) rfl ?_
    refine T_aload_n (am_dec tX2_watchesOn_0 8 rfl) rfl ?_
    refine T_getfield 3 9 (am_dec tX2_watchesOn_0 9 rfl) flX2_59_3 (hH 0 (by decide)) rfl ?_
    refine T_getfield 9 2 (am_dec tX2_watchesOn_0 10 rfl) flX2_63_9 (hH 13 (by decide)) rfl ?_
    refine T_icmp_ge 57 (am_dec tX2_watchesOn_0 11 rfl) rfl (fun h20 => by exfalso; omega) (fun h20 => ?_)
    refine T_aload_n (am_dec tX2_watchesOn_0 12 rfl) rfl ?_
    refine T_aload_n (am_dec tX2_watchesOn_0 13 rfl) rfl ?_
    refine T_getfield 3 9 (am_dec tX2_watchesOn_0 14 rfl) flX2_59_3 (hH 0 (by decide)) rfl ?_
    refine T_iload (am_dec tX2_watchesOn_0 15 rfl) rfl ?_
    refine T_iconst 0 (am_dec tX2_watchesOn_0 16 rfl) rfl ⟨by decide, by decide⟩ ?_
    have wt31 := hWt i
    refine T_callV (as := [aI i, aI 0]) rfl (am_dec tX2_watchesOn_0 17 rfl) lkX2_68 (hH 13 (by decide)) rfl rfl (Nat.le_of_ble_eq_true rfl) (by omega) (m_at (hH 13 (by decide)) (hH 14 (by decide)) (by omega) i 0) (fun _ => ?_)
    refine T_iload_n (am_dec tX2_watchesOn_0 18 rfl) rfl ?_
    refine T_iload_n (am_dec tX2_watchesOn_0 19 rfl) rfl ?_
    have cb36 := f_clear_b r h (f_at (h 0 9) (h 7) i 0) c s
    refine T_callS (as := [aR b, aI (f_at (h 0 9) (h 7) i 0), aI c, aI s]) rfl (am_dec tX2_watchesOn_0 20 rfl) lkX2_55 rfl (Nat.le_of_ble_eq_true rfl) (by omega) (m_clear hR hH hV hF (f_at (h 0 9) (h 7) i 0) c s (by omega) (by omega) (by omega)) (fun _ => ?_)
    refine T_if_eq 51 (am_dec tX2_watchesOn_0 21 rfl) rfl (fun h39 => ?_) (fun h39 => ?_)
    · refine T_iinc (ls' := [some (aR b), some (aI c), some (aI s), some (aR hb), some (aI a), some (aI (i + 1))]) (i + 1) (am_dec tX2_watchesOn_0 28 rfl) rfl rfl ⟨by omega, by omega⟩ (by decide) rfl ?_
      refine T_goto 11 (am_dec tX2_watchesOn_0 29 rfl) rfl ?_
      have e9 : (g_watches r h c s) i a = a := (by unfold g_watches; first | (rw [if_pos (by omega)]; done) | (rw [if_neg (by omega)]; done))
      simp only [am_fold_s, e9] at k9
      exact ih (i + 1) a (by omega) (by omega) (by omega) k9
    · refine T_iload (am_dec tX2_watchesOn_0 22 rfl) rfl ?_
      refine T_iconst 1 (am_dec tX2_watchesOn_0 23 rfl) rfl ⟨by decide, by decide⟩ ?_
      refine T_iload (am_dec tX2_watchesOn_0 24 rfl) rfl ?_
      refine T_ishl (am_ishl 1 i) (am_dec tX2_watchesOn_0 25 rfl) (am_w32e _).symm (am_w32r _) ?_
      refine T_ior (am_ior a (am_ishl 1 i)) (am_dec tX2_watchesOn_0 26 rfl) (am_w32e _).symm (am_w32r _) ?_
      refine T_istore (ls' := [some (aR b), some (aI c), some (aI s), some (aR hb), some (aI (am_ior a (am_ishl 1 i))), some (aI i)]) (am_dec tX2_watchesOn_0 27 rfl) (by decide) rfl ?_
      refine T_iinc (ls' := [some (aR b), some (aI c), some (aI s), some (aR hb), some (aI (am_ior a (am_ishl 1 i))), some (aI (i + 1))]) (i + 1) (am_dec tX2_watchesOn_0 28 rfl) rfl rfl ⟨by omega, by omega⟩ (by decide) rfl ?_
      refine T_goto 11 (am_dec tX2_watchesOn_0 29 rfl) rfl ?_
      have e9 : (g_watches r h c s) i a = am_ior a (am_ishl 1 i) := (by unfold g_watches; first | (rw [if_pos (by omega)]; done) | (rw [if_neg (by omega)]; done))
      simp only [am_fold_s, e9] at k9
      exact ih (i + 1) (am_ior a (am_ishl 1 i)) (by omega) (by omega) (by omega) k9
theorem m_watchesOn {S : am_S} {d u : Nat} {w : AH} {b hb : Nat} {r h : am_F} (hR : Rn w b hb r) (hH : Hb w hb h) (hV : HbV h) (hF : RnF r) (hW : HbW h) (hCo : CoB h) (hWt : WtB h) (c s : Int) (hc : c = -1 ∨ (0 ≤ c ∧ c ≤ 88)) (hd : 5 ≤ d) : am_Out S zX2_watchesOn d u [aR b, aI c, aI s] w (.inl (some (aI (f_watchesOn r h c s)))) w := by
  refine am_body rfl (by decide +kernel) rfl (am_cats_cons rfl ( am_cats_cons rfl ( am_cats_cons rfl (am_cats_nil)))) (Nat.le_of_ble_eq_true rfl) (?_ : am_T _ _ _ _ _ 0 [some (aR b), some (aI c), some (aI s), none, none, none] [] w)
  have hV9 := hV
  obtain ⟨v1, v2, v3, v4, v5, v6, v7, v8, v9, v10, v11, v12, v13, v14, v15, v16, v17, v18, v19, v20, v21, v22⟩ := hV9
  refine T_aload_n (am_dec tX2_watchesOn_0 0 rfl) rfl ?_
  refine T_getfield 8 0 (am_dec tX2_watchesOn_0 1 rfl) flX2_42_8 (hR 0 (by decide)) rfl ?_
  refine T_astore_n (ls' := [some (aR b), some (aI c), some (aI s), some (aR hb), none, none]) (am_dec tX2_watchesOn_0 2 rfl) (by decide) rfl ?_
  refine T_iconst 0 (am_dec tX2_watchesOn_0 3 rfl) rfl ⟨by decide, by decide⟩ ?_
  refine T_istore (ls' := [some (aR b), some (aI c), some (aI s), some (aR hb), some (aI 0), none]) (am_dec tX2_watchesOn_0 4 rfl) (by decide) rfl ?_
  refine T_iconst 0 (am_dec tX2_watchesOn_0 5 rfl) rfl ⟨by decide, by decide⟩ ?_
  refine T_istore (ls' := [some (aR b), some (aI c), some (aI s), some (aR hb), some (aI 0), some (aI 0)]) (am_dec tX2_watchesOn_0 6 rfl) (by decide) rfl ?_
  refine L_watches hR hH hV hF hW hCo hWt c s hc hd (h 0 9 - 0).toNat 0 0 (by omega) (by omega) trivial (fun a11 ha11 hv11 => ?_)
  refine T_iload (am_dec tX2_watchesOn_0 30 rfl) rfl ?_
  exact T_ireturn (am_dec tX2_watchesOn_0 31 rfl) rfl (am_outI (by rw [ha11, Int.sub_zero]; rfl))
def g_need (r h : am_F) (c s i a : Int) : Int := if f_line r (f_at (h 0 9) (h 7) i 0) c s = -1 then a else if a < h 0 2 - f_line r (f_at (h 0 9) (h 7) i 0) c s then h 0 2 - f_line r (f_at (h 0 9) (h 7) i 0) c s else a
def f_need (r h : am_F) (c s : Int) : Int := am_fold (g_need r h c s) 0 (h 0 9).toNat 0
theorem L_need {S : am_S} {d u : Nat} {Q : AO → AH → Prop} {w : AH} {b hb : Nat} {r h : am_F} (hR : Rn w b hb r) (hH : Hb w hb h) (hV : HbV h) (hF : RnF r) (hW : HbW h) (hCo : CoB h) (hWt : WtB h) (c s : Int) (hc : 0 ≤ c ∧ c ≤ 99) (hd : 5 ≤ d) : ∀ (n : Nat) (i : Int) (a : Int), i + n = h 0 9 → 0 ≤ i → 0 ≤ a ∧ a ≤ 99 → (∀ (a' : Int), a' = am_fold (g_need r h c s) i n a → 0 ≤ a' ∧ a' ≤ 99 → am_T S zX2_needOn d u Q 67 [some (aR b), some (aI c), some (aI s), some (aR hb), some (aI a'), some (aI (h 0 9)), none] [] (w)) → am_T S zX2_needOn d u Q 11 [some (aR b), some (aI c), some (aI s), some (aR hb), some (aI a), some (aI i), none] [] (w) := by
  have hV9 := hV
  obtain ⟨v1, v2, v3, v4, v5, v6, v7, v8, v9, v10, v11, v12, v13, v14, v15, v16, v17, v18, v19, v20, v21, v22⟩ := hV9
  intro n
  induction n with
  | zero =>
    intro i a hi9 h0i hinv k9
    refine T_iload (am_dec tX2_needOn_0 7 rfl) rfl ?_
    refine T_aload_n (am_dec tX2_needOn_0 8 rfl) rfl ?_
    refine T_getfield 3 9 (am_dec tX2_needOn_0 9 rfl) flX2_59_3 (hH 0 (by decide)) rfl ?_
    refine T_getfield 9 2 (am_dec tX2_needOn_0 10 rfl) flX2_63_9 (hH 13 (by decide)) rfl ?_
    refine T_icmp_ge 67 (am_dec tX2_needOn_0 11 rfl) rfl (fun h20 => ?_) (fun h20 => by exfalso; omega)
    have e9 : i = h 0 9 := by omega
    rw [← e9] at k9
    exact k9 a rfl (by first | exact hinv | omega)
  | succ n ih =>
    intro i a hi9 h0i hinv k9
    refine T_iload (am_dec tX2_needOn_0 7 rfl) rfl ?_
    refine T_aload_n (am_dec tX2_needOn_0 8 rfl) rfl ?_
    refine T_getfield 3 9 (am_dec tX2_needOn_0 9 rfl) flX2_59_3 (hH 0 (by decide)) rfl ?_
    refine T_getfield 9 2 (am_dec tX2_needOn_0 10 rfl) flX2_63_9 (hH 13 (by decide)) rfl ?_
    refine T_icmp_ge 67 (am_dec tX2_needOn_0 11 rfl) rfl (fun h20 => by exfalso; omega) (fun h20 => ?_)
    refine T_aload_n (am_dec tX2_needOn_0 12 rfl) rfl ?_
    refine T_aload_n (am_dec tX2_needOn_0 13 rfl) rfl ?_
    refine T_getfield 3 9 (am_dec tX2_needOn_0 14 rfl) flX2_59_3 (hH 0 (by decide)) rfl ?_
    refine T_iload (am_dec tX2_needOn_0 15 rfl) rfl ?_
    refine T_iconst 0 (am_dec tX2_needOn_0 16 rfl) rfl ⟨by decide, by decide⟩ ?_
    have wt31 := hWt i
    refine T_callV (as := [aI i, aI 0]) rfl (am_dec tX2_needOn_0 17 rfl) lkX2_68 (hH 13 (by decide)) rfl rfl (Nat.le_of_ble_eq_true rfl) (by omega) (m_at (hH 13 (by decide)) (hH 14 (by decide)) (by omega) i 0) (fun _ => ?_)
    refine T_iload_n (am_dec tX2_needOn_0 18 rfl) rfl ?_
    refine T_iload_n (am_dec tX2_needOn_0 19 rfl) rfl ?_
    have ln36 := f_line_b hF (fr := (f_at (h 0 9) (h 7) i 0)) (to := c) (by omega) (by omega) s
    refine T_callS (as := [aR b, aI (f_at (h 0 9) (h 7) i 0), aI c, aI s]) rfl (am_dec tX2_needOn_0 20 rfl) lkX2_38 rfl (Nat.le_of_ble_eq_true rfl) (by omega) (m_line hR hF (f_at (h 0 9) (h 7) i 0) c s (by omega) (by omega) (by omega)) (fun _ => ?_)
    refine T_istore (ls' := [some (aR b), some (aI c), some (aI s), some (aR hb), some (aI a), some (aI i), some (aI (f_line r (f_at (h 0 9) (h 7) i 0) c s))]) (am_dec tX2_needOn_0 21 rfl) (by decide) rfl ?_
    refine T_iload (am_dec tX2_needOn_0 22 rfl) rfl ?_
    refine T_iconst (-1) (am_dec tX2_needOn_0 23 rfl) rfl ⟨by decide, by decide⟩ ?_
    refine T_icmp_eq 61 (am_dec tX2_needOn_0 24 rfl) rfl (fun h44 => ?_) (fun h44 => ?_)
    · refine T_iinc (ls' := [some (aR b), some (aI c), some (aI s), some (aR hb), some (aI a), some (aI (i + 1)), some (aI (f_line r (f_at (h 0 9) (h 7) i 0) c s))]) (i + 1) (am_dec tX2_needOn_0 32 rfl) rfl rfl ⟨by omega, by omega⟩ (by decide) rfl ?_
      refine T_goto 11 (am_dec tX2_needOn_0 33 rfl) rfl ?_
      refine T_weak (ls' := [some (aR b), some (aI c), some (aI s), some (aR hb), some (aI a), some (aI (i + 1)), none]) (am_sub_s (am_sub_s (am_sub_s (am_sub_s (am_sub_s (am_sub_s (am_sub_n am_sub_nil))))))) ?_
      have e9 : (g_need r h c s) i a = a := (by unfold g_need; first | (rw [if_pos (by omega)]; done) | (rw [if_neg (by omega), hm56]; done))
      simp only [am_fold_s, e9] at k9
      exact ih (i + 1) a (by omega) (by omega) (by omega) k9
    · refine T_iload (am_dec tX2_needOn_0 25 rfl) rfl ?_
      refine T_aload_n (am_dec tX2_needOn_0 26 rfl) rfl ?_
      refine T_getfield 3 2 (am_dec tX2_needOn_0 27 rfl) flX2_46_3 (hH 0 (by decide)) rfl ?_
      refine T_iload (am_dec tX2_needOn_0 28 rfl) rfl ?_
      refine T_isub ((h 0 2) - (f_line r (f_at (h 0 9) (h 7) i 0) c s)) (am_dec tX2_needOn_0 29 rfl) rfl ⟨by omega, by omega⟩ ?_
      refine T_mmax (am_dec tX2_needOn_0 30 rfl) lkX2_30 (Nat.le_of_ble_eq_true rfl) (by omega) ?_
      obtain ⟨m56, hm56⟩ : ∃ x9 : Int, x9 = (if a < (h 0 2) - (f_line r (f_at (h 0 9) (h 7) i 0) c s) then (h 0 2) - (f_line r (f_at (h 0 9) (h 7) i 0) c s) else a) := ⟨_, rfl⟩
      rw [← hm56]
      refine T_istore (ls' := [some (aR b), some (aI c), some (aI s), some (aR hb), some (aI m56), some (aI i), some (aI (f_line r (f_at (h 0 9) (h 7) i 0) c s))]) (am_dec tX2_needOn_0 31 rfl) (by decide) rfl ?_
      refine T_iinc (ls' := [some (aR b), some (aI c), some (aI s), some (aR hb), some (aI m56), some (aI (i + 1)), some (aI (f_line r (f_at (h 0 9) (h 7) i 0) c s))]) (i + 1) (am_dec tX2_needOn_0 32 rfl) rfl rfl ⟨by omega, by omega⟩ (by decide) rfl ?_
      refine T_goto 11 (am_dec tX2_needOn_0 33 rfl) rfl ?_
      refine T_weak (ls' := [some (aR b), some (aI c), some (aI s), some (aR hb), some (aI m56), some (aI (i + 1)), none]) (am_sub_s (am_sub_s (am_sub_s (am_sub_s (am_sub_s (am_sub_s (am_sub_n am_sub_nil))))))) ?_
      have e9 : (g_need r h c s) i a = m56 := (by unfold g_need; first | (rw [if_pos (by omega)]; done) | (rw [if_neg (by omega), hm56]; done))
      simp only [am_fold_s, e9] at k9
      exact ih (i + 1) m56 (by omega) (by omega) (by omega) k9
theorem m_need {S : am_S} {d u : Nat} {w : AH} {b hb : Nat} {r h : am_F} (hR : Rn w b hb r) (hH : Hb w hb h) (hV : HbV h) (hF : RnF r) (hW : HbW h) (hCo : CoB h) (hWt : WtB h) (c s : Int) (hc : 0 ≤ c ∧ c ≤ 99) (hd : 5 ≤ d) : am_Out S zX2_needOn d u [aR b, aI c, aI s] w (.inl (some (aI (f_need r h c s)))) w := by
  refine am_body rfl (by decide +kernel) rfl (am_cats_cons rfl ( am_cats_cons rfl ( am_cats_cons rfl (am_cats_nil)))) (Nat.le_of_ble_eq_true rfl) (?_ : am_T _ _ _ _ _ 0 [some (aR b), some (aI c), some (aI s), none, none, none, none] [] w)
  have hV9 := hV
  obtain ⟨v1, v2, v3, v4, v5, v6, v7, v8, v9, v10, v11, v12, v13, v14, v15, v16, v17, v18, v19, v20, v21, v22⟩ := hV9
  refine T_aload_n (am_dec tX2_needOn_0 0 rfl) rfl ?_
  refine T_getfield 8 0 (am_dec tX2_needOn_0 1 rfl) flX2_42_8 (hR 0 (by decide)) rfl ?_
  refine T_astore_n (ls' := [some (aR b), some (aI c), some (aI s), some (aR hb), none, none, none]) (am_dec tX2_needOn_0 2 rfl) (by decide) rfl ?_
  refine T_iconst 0 (am_dec tX2_needOn_0 3 rfl) rfl ⟨by decide, by decide⟩ ?_
  refine T_istore (ls' := [some (aR b), some (aI c), some (aI s), some (aR hb), some (aI 0), none, none]) (am_dec tX2_needOn_0 4 rfl) (by decide) rfl ?_
  refine T_iconst 0 (am_dec tX2_needOn_0 5 rfl) rfl ⟨by decide, by decide⟩ ?_
  refine T_istore (ls' := [some (aR b), some (aI c), some (aI s), some (aR hb), some (aI 0), some (aI 0), none]) (am_dec tX2_needOn_0 6 rfl) (by decide) rfl ?_
  refine L_need hR hH hV hF hW hCo hWt c s hc hd (h 0 9 - 0).toNat 0 0 (by omega) (by omega) (by omega) (fun a11 ha11 hv11 => ?_)
  refine T_iload (am_dec tX2_needOn_0 34 rfl) rfl ?_
  exact T_ireturn (am_dec tX2_needOn_0 35 rfl) rfl (am_outI (by rw [ha11, Int.sub_zero]; rfl))
