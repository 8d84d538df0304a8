/-! who SEES whom, the rest -/
def am_ixor (a b : Int) : Int := (Int32.ofInt a ^^^ Int32.ofInt b).toInt
def g_walkers (r h : am_F) (c s i a : Int) : Int := if f_clear r h (f_cellOf h i s) c s = 0 then a else am_ior a (am_ishl 1 i)
def f_walkersOn (r h : am_F) (c s : Int) : Int := am_fold (g_walkers r h c s) 0 (h 0 8).toNat 0
theorem L_walkers {S : am_S} {d u : Nat} {Q : AO → AH → Prop} {w : AH} {b hb : Nat} {r h : am_F} (hR : Rn w b hb r) (hH : Hb w hb h) (hV : HbV h) (hF : RnF r) (hW : HbW h) (hCo : CoB h) (hWt : WtB h) (c s : Int) (hc : c = -1 ∨ (0 ≤ c ∧ c ≤ 88)) (hd : 5 ≤ d) : ∀ (n : Nat) (i : Int) (a : Int), i + n = h 0 8 → 0 ≤ i → True → (∀ (a' : Int), a' = am_fold (g_walkers r h c s) i n a → True → am_T S zX2_walkersOn d u Q 54 [some (aR b), some (aI c), some (aI s), some (aR hb), some (aI a'), some (aI (h 0 8))] [] (w)) → am_T S zX2_walkersOn d u Q 11 [some (aR b), some (aI c), some (aI s), some (aR hb), some (aI a), some (aI i)] [] (w) := by
  have hV9 := hV
  obtain ⟨v1, v2, v3, v4, v5, v6, v7, v8, v9, v10, v11, v12, v13, v14, v15, v16, v17, v18, v19, v20, v21, v22⟩ := hV9
  intro n
  induction n with
  | zero =>
    intro i a hi9 h0i hinv k9
    refine T_iload (am_dec tX2_walkersOn_0 7 rfl) rfl ?_
    refine T_aload_n (am_dec tX2_walkersOn_0 8 rfl) rfl ?_
    refine T_getfield 3 8 (am_dec tX2_walkersOn_0 9 rfl) flX2_75_3 (hH 0 (by decide)) rfl ?_
    refine T_getfield 9 2 (am_dec tX2_walkersOn_0 10 rfl) flX2_63_9 (hH 11 (by decide)) rfl ?_
    refine T_icmp_ge 54 (am_dec tX2_walkersOn_0 11 rfl) rfl (fun h20 => ?_) (fun h20 => by exfalso; omega)
    have e9 : i = h 0 8 := by omega
    rw [← e9] at k9
    exact k9 a rfl (by first | exact hinv | omega)
  | succ n ih =>
    intro i a hi9 h0i hinv k9
    refine T_iload (am_dec tX2_walkersOn_0 7 rfl) rfl ?_
    refine T_aload_n (am_dec tX2_walkersOn_0 8 rfl) rfl ?_
    refine T_getfield 3 8 (am_dec tX2_walkersOn_0 9 rfl) flX2_75_3 (hH 0 (by decide)) rfl ?_
    refine T_getfield 9 2 (am_dec tX2_walkersOn_0 10 rfl) flX2_63_9 (hH 11 (by decide)) rfl ?_
    refine T_icmp_ge 54 (am_dec tX2_walkersOn_0 11 rfl) rfl (fun h20 => by exfalso; omega) (fun h20 => ?_)
    refine T_aload_n (am_dec tX2_walkersOn_0 12 rfl) rfl ?_
    refine T_aload_n (am_dec tX2_walkersOn_0 13 rfl) rfl ?_
    refine T_iload (am_dec tX2_walkersOn_0 14 rfl) rfl ?_
    refine T_iload_n (am_dec tX2_walkersOn_0 15 rfl) rfl ?_
    have co28 := hCo i s
    refine T_callV (as := [aI i, aI s]) rfl (am_dec tX2_walkersOn_0 16 rfl) lkX2_52 (hH 0 (by decide)) rfl rfl (Nat.le_of_ble_eq_true rfl) (by omega) (m_cellOf hH hV hW (by omega) i s) (fun _ => ?_)
    refine T_iload_n (am_dec tX2_walkersOn_0 17 rfl) rfl ?_
    refine T_iload_n (am_dec tX2_walkersOn_0 18 rfl) rfl ?_
    have cb33 := f_clear_b r h (f_cellOf h i s) c s
    refine T_callS (as := [aR b, aI (f_cellOf h i s), aI c, aI s]) rfl (am_dec tX2_walkersOn_0 19 rfl) lkX2_55 rfl (Nat.le_of_ble_eq_true rfl) (by omega) (m_clear hR hH hV hF (f_cellOf h i s) c s (by omega) (by omega) (by omega)) (fun _ => ?_)
    refine T_if_eq 48 (am_dec tX2_walkersOn_0 20 rfl) rfl (fun h36 => ?_) (fun h36 => ?_)
    · refine T_iinc (ls' := [some (aR b), some (aI c), some (aI s), some (aR hb), some (aI a), some (aI (i + 1))]) (i + 1) (am_dec tX2_walkersOn_0 27 rfl) rfl rfl ⟨by omega, by omega⟩ (by decide) rfl ?_
      refine T_goto 11 (am_dec tX2_walkersOn_0 28 rfl) rfl ?_
      have e9 : (g_walkers r h c s) i a = a := (by unfold g_walkers; first | (rw [if_pos (by omega)]; done) | (rw [if_neg (by omega)]; done))
      simp only [am_fold_s, e9] at k9
      exact ih (i + 1) a (by omega) (by omega) (by omega) k9
    · refine T_iload (am_dec tX2_walkersOn_0 21 rfl) rfl ?_
      refine T_iconst 1 (am_dec tX2_walkersOn_0 22 rfl) rfl ⟨by decide, by decide⟩ ?_
      refine T_iload (am_dec tX2_walkersOn_0 23 rfl) rfl ?_
      refine T_ishl (am_ishl 1 i) (am_dec tX2_walkersOn_0 24 rfl) (am_w32e _).symm (am_w32r _) ?_
      refine T_ior (am_ior a (am_ishl 1 i)) (am_dec tX2_walkersOn_0 25 rfl) (am_w32e _).symm (am_w32r _) ?_
      refine T_istore (ls' := [some (aR b), some (aI c), some (aI s), some (aR hb), some (aI (am_ior a (am_ishl 1 i))), some (aI i)]) (am_dec tX2_walkersOn_0 26 rfl) (by decide) rfl ?_
      refine T_iinc (ls' := [some (aR b), some (aI c), some (aI s), some (aR hb), some (aI (am_ior a (am_ishl 1 i))), some (aI (i + 1))]) (i + 1) (am_dec tX2_walkersOn_0 27 rfl) rfl rfl ⟨by omega, by omega⟩ (by decide) rfl ?_
      refine T_goto 11 (am_dec tX2_walkersOn_0 28 rfl) rfl ?_
      have e9 : (g_walkers r h c s) i a = am_ior a (am_ishl 1 i) := (by unfold g_walkers; first | (rw [if_pos (by omega)]; done) | (rw [if_neg (by omega)]; done))
      simp only [am_fold_s, e9] at k9
      exact ih (i + 1) (am_ior a (am_ishl 1 i)) (by omega) (by omega) (by omega) k9
theorem m_walkersOn {S : am_S} {d u : Nat} {w : AH} {b hb : Nat} {r h : am_F} (hR : Rn w b hb r) (hH : Hb w hb h) (hV : HbV h) (hF : RnF r) (hW : HbW h) (hCo : CoB h) (hWt : WtB h) (c s : Int) (hc : c = -1 ∨ (0 ≤ c ∧ c ≤ 88)) (hd : 5 ≤ d) : am_Out S zX2_walkersOn d u [aR b, aI c, aI s] w (.inl (some (aI (f_walkersOn r h c s)))) w := by
  refine am_body rfl (by decide +kernel) rfl (am_cats_cons rfl ( am_cats_cons rfl ( am_cats_cons rfl (am_cats_nil)))) (Nat.le_of_ble_eq_true rfl) (?_ : am_T _ _ _ _ _ 0 [some (aR b), some (aI c), some (aI s), none, none, none] [] w)
  have hV9 := hV
  obtain ⟨v1, v2, v3, v4, v5, v6, v7, v8, v9, v10, v11, v12, v13, v14, v15, v16, v17, v18, v19, v20, v21, v22⟩ := hV9
  refine T_aload_n (am_dec tX2_walkersOn_0 0 rfl) rfl ?_
  refine T_getfield 8 0 (am_dec tX2_walkersOn_0 1 rfl) flX2_42_8 (hR 0 (by decide)) rfl ?_
  refine T_astore_n (ls' := [some (aR b), some (aI c), some (aI s), some (aR hb), none, none]) (am_dec tX2_walkersOn_0 2 rfl) (by decide) rfl ?_
  refine T_iconst 0 (am_dec tX2_walkersOn_0 3 rfl) rfl ⟨by decide, by decide⟩ ?_
  refine T_istore (ls' := [some (aR b), some (aI c), some (aI s), some (aR hb), some (aI 0), none]) (am_dec tX2_walkersOn_0 4 rfl) (by decide) rfl ?_
  refine T_iconst 0 (am_dec tX2_walkersOn_0 5 rfl) rfl ⟨by decide, by decide⟩ ?_
  refine T_istore (ls' := [some (aR b), some (aI c), some (aI s), some (aR hb), some (aI 0), some (aI 0)]) (am_dec tX2_walkersOn_0 6 rfl) (by decide) rfl ?_
  refine L_walkers hR hH hV hF hW hCo hWt c s hc hd (h 0 8 - 0).toNat 0 0 (by omega) (by omega) trivial (fun a11 ha11 hv11 => ?_)
  refine T_iload (am_dec tX2_walkersOn_0 29 rfl) rfl ?_
  exact T_ireturn (am_dec tX2_walkersOn_0 30 rfl) rfl (am_outI (by rw [ha11, Int.sub_zero]; rfl))
def g_ever (r h : am_F) (k i a : Int) : Int := am_ior a (f_watchesOn r h (f_cellOf h k i) i)
def f_ever (r h : am_F) (k : Int) : Int := am_fold (g_ever r h k) 0 40 0
theorem L_ever {S : am_S} {d u : Nat} {Q : AO → AH → Prop} {w : AH} {b hb : Nat} {r h : am_F} (hR : Rn w b hb r) (hH : Hb w hb h) (hV : HbV h) (hF : RnF r) (hW : HbW h) (hCo : CoB h) (hWt : WtB h) (k : Int) (hd : 6 ≤ d) : ∀ (n : Nat) (i : Int) (a : Int), i + n = 40 → 0 ≤ i → True → (∀ (a' : Int), a' = am_fold (g_ever r h k) i n a → True → am_T S zX2_watchesEver d u Q 33 [some (aR b), some (aI k), some (aI a'), some (aI 40)] [] (w)) → am_T S zX2_watchesEver d u Q 4 [some (aR b), some (aI k), some (aI a), some (aI i)] [] (w) := by
  intro n
  induction n with
  | zero =>
    intro i a hi9 h0i hinv k9
    refine T_iload_n (am_dec tX2_watchesEver_0 4 rfl) rfl ?_
    refine T_bipush 40 (am_dec tX2_watchesEver_0 5 rfl) rfl ⟨by decide, by decide⟩ ?_
    refine T_icmp_ge 33 (am_dec tX2_watchesEver_0 6 rfl) rfl (fun h7 => ?_) (fun h7 => by exfalso; omega)
    have e9 : i = 40 := by omega
    rw [← e9] at k9
    exact k9 a rfl (by first | exact hinv | omega)
  | succ n ih =>
    intro i a hi9 h0i hinv k9
    refine T_iload_n (am_dec tX2_watchesEver_0 4 rfl) rfl ?_
    refine T_bipush 40 (am_dec tX2_watchesEver_0 5 rfl) rfl ⟨by decide, by decide⟩ ?_
    refine T_icmp_ge 33 (am_dec tX2_watchesEver_0 6 rfl) rfl (fun h7 => by exfalso; omega) (fun h7 => ?_)
    refine T_iload_n (am_dec tX2_watchesEver_0 7 rfl) rfl ?_
    refine T_aload_n (am_dec tX2_watchesEver_0 8 rfl) rfl ?_
    refine T_aload_n (am_dec tX2_watchesEver_0 9 rfl) rfl ?_
    refine T_getfield 8 0 (am_dec tX2_watchesEver_0 10 rfl) flX2_42_8 (hR 0 (by decide)) rfl ?_
    refine T_iload_n (am_dec tX2_watchesEver_0 11 rfl) rfl ?_
    refine T_iload_n (am_dec tX2_watchesEver_0 12 rfl) rfl ?_
    have co18 := hCo k i
    refine T_callV (as := [aI k, aI i]) rfl (am_dec tX2_watchesEver_0 13 rfl) lkX2_52 (hH 0 (by decide)) rfl rfl (Nat.le_of_ble_eq_true rfl) (by omega) (m_cellOf hH hV hW (by omega) k i) (fun _ => ?_)
    refine T_iload_n (am_dec tX2_watchesEver_0 14 rfl) rfl ?_
    refine T_callS (as := [aR b, aI (f_cellOf h k i), aI i]) rfl (am_dec tX2_watchesEver_0 15 rfl) lkX2_71 rfl (Nat.le_of_ble_eq_true rfl) (by omega) (m_watchesOn hR hH hV hF hW hCo hWt (f_cellOf h k i) i (by omega) (by omega)) (fun _ => ?_)
    refine T_ior (am_ior a (f_watchesOn r h (f_cellOf h k i) i)) (am_dec tX2_watchesEver_0 16 rfl) (am_w32e _).symm (am_w32r _) ?_
    refine T_istore_n (ls' := [some (aR b), some (aI k), some (aI (am_ior a (f_watchesOn r h (f_cellOf h k i) i))), some (aI i)]) (am_dec tX2_watchesEver_0 17 rfl) (by decide) rfl ?_
    refine T_iinc (ls' := [some (aR b), some (aI k), some (aI (am_ior a (f_watchesOn r h (f_cellOf h k i) i))), some (aI (i + 1))]) (i + 1) (am_dec tX2_watchesEver_0 18 rfl) rfl rfl ⟨by omega, by omega⟩ (by decide) rfl ?_
    refine T_goto 4 (am_dec tX2_watchesEver_0 19 rfl) rfl ?_
    have e9 : (g_ever r h k) i a = am_ior a (f_watchesOn r h (f_cellOf h k i) i) := rfl
    simp only [am_fold_s, e9] at k9
    exact ih (i + 1) (am_ior a (f_watchesOn r h (f_cellOf h k i) i)) (by omega) (by omega) trivial k9
theorem m_ever {S : am_S} {d u : Nat} {w : AH} {b hb : Nat} {r h : am_F} (hR : Rn w b hb r) (hH : Hb w hb h) (hV : HbV h) (hF : RnF r) (hW : HbW h) (hCo : CoB h) (hWt : WtB h) (k : Int) (hd : 6 ≤ d) : am_Out S zX2_watchesEver d u [aR b, aI k] w (.inl (some (aI (f_ever r h k)))) w := by
  refine am_body rfl (by decide +kernel) rfl (am_cats_cons rfl ( am_cats_cons rfl (am_cats_nil))) (Nat.le_of_ble_eq_true rfl) (?_ : am_T _ _ _ _ _ 0 [some (aR b), some (aI k), none, none] [] w)
  refine T_iconst 0 (am_dec tX2_watchesEver_0 0 rfl) rfl ⟨by decide, by decide⟩ ?_
  refine T_istore_n (ls' := [some (aR b), some (aI k), some (aI 0), none]) (am_dec tX2_watchesEver_0 1 rfl) (by decide) rfl ?_
  refine T_iconst 0 (am_dec tX2_watchesEver_0 2 rfl) rfl ⟨by decide, by decide⟩ ?_
  refine T_istore_n (ls' := [some (aR b), some (aI k), some (aI 0), some (aI 0)]) (am_dec tX2_watchesEver_0 3 rfl) (by decide) rfl ?_
  refine L_ever hR hH hV hF hW hCo hWt k hd ((40 : Int) - 0).toNat 0 0 (by omega) (by omega) trivial (fun a4 ha4 hv4 => ?_)
  simp only [show ((40 : Int) - 0).toNat = 40 from rfl] at ha4
  refine T_iload_n (am_dec tX2_watchesEver_0 20 rfl) rfl ?_
  exact T_ireturn (am_dec tX2_watchesEver_0 21 rfl) rfl (am_outI (by rw [ha4]; rfl))
def f_hid (r h : am_F) (k s : Int) : Int := if f_cellOf h k s = -1 ∨ f_watchesOn r h (f_cellOf h k s) s ≠ 0 then 0 else if am_iand (f_walkersOn r h (f_cellOf h k s) s) (am_ixor (am_ishl 1 k) (-1)) = 0 then 1 else 0
theorem m_hid {S : am_S} {d u : Nat} {w : AH} {b hb : Nat} {r h : am_F} (hR : Rn w b hb r) (hH : Hb w hb h) (hV : HbV h) (hF : RnF r) (hW : HbW h) (hCo : CoB h) (hWt : WtB h) (k s : Int) (hd : 6 ≤ d) : am_Out S zX2_isHid d u [aR b, aI k, aI s] w (.inl (some (aI (f_hid r h k s)))) w := by
  refine am_body rfl (by decide +kernel) rfl (am_cats_cons rfl ( am_cats_cons rfl ( am_cats_cons rfl (am_cats_nil)))) (Nat.le_of_ble_eq_true rfl) (?_ : am_T _ _ _ _ _ 0 [some (aR b), some (aI k), some (aI s), none] [] w)
  refine T_aload_n (am_dec tX2_isHid_0 0 rfl) rfl ?_
  refine T_getfield 8 0 (am_dec tX2_isHid_0 1 rfl) flX2_42_8 (hR 0 (by decide)) rfl ?_
  refine T_iload_n (am_dec tX2_isHid_0 2 rfl) rfl ?_
  refine T_iload_n (am_dec tX2_isHid_0 3 rfl) rfl ?_
  have co6 := hCo k s
  refine T_callV (as := [aI k, aI s]) rfl (am_dec tX2_isHid_0 4 rfl) lkX2_52 (hH 0 (by decide)) rfl rfl (Nat.le_of_ble_eq_true rfl) (by omega) (m_cellOf hH hV hW (by omega) k s) (fun _ => ?_)
  refine T_istore_n (ls' := [some (aR b), some (aI k), some (aI s), some (aI (f_cellOf h k s))]) (am_dec tX2_isHid_0 5 rfl) (by decide) rfl ?_
  refine T_iload_n (am_dec tX2_isHid_0 6 rfl) rfl ?_
  refine T_iconst (-1) (am_dec tX2_isHid_0 7 rfl) rfl ⟨by decide, by decide⟩ ?_
  refine T_icmp_eq 24 (am_dec tX2_isHid_0 8 rfl) rfl (fun h12 => ?_) (fun h12 => ?_)
  · refine T_iconst 0 (am_dec tX2_isHid_0 14 rfl) rfl ⟨by decide, by decide⟩ ?_
    exact T_zreturn (am_dec tX2_isHid_0 15 rfl) rfl (by first | exact Or.inl rfl | exact Or.inr rfl | omega) (am_outI (by unfold f_hid; first | (rw [if_pos (by omega)]; done) | (rw [if_neg (by omega), if_pos (by omega)]; done) | (rw [if_neg (by omega), if_neg (by omega)]; done)))
  · refine T_aload_n (am_dec tX2_isHid_0 9 rfl) rfl ?_
    refine T_iload_n (am_dec tX2_isHid_0 10 rfl) rfl ?_
    refine T_iload_n (am_dec tX2_isHid_0 11 rfl) rfl ?_
    refine T_callS (as := [aR b, aI (f_cellOf h k s), aI s]) rfl (am_dec tX2_isHid_0 12 rfl) lkX2_71 rfl (Nat.le_of_ble_eq_true rfl) (by omega) (m_watchesOn hR hH hV hF hW hCo hWt (f_cellOf h k s) s (by omega) (by omega)) (fun _ => ?_)
    refine T_if_eq 26 (am_dec tX2_isHid_0 13 rfl) rfl (fun h21 => ?_) (fun h21 => ?_)
    · refine T_aload_n (am_dec tX2_isHid_0 16 rfl) rfl ?_
      refine T_iload_n (am_dec tX2_isHid_0 17 rfl) rfl ?_
      refine T_iload_n (am_dec tX2_isHid_0 18 rfl) rfl ?_
      refine T_callS (as := [aR b, aI (f_cellOf h k s), aI s]) rfl (am_dec tX2_isHid_0 19 rfl) lkX2_78 rfl (Nat.le_of_ble_eq_true rfl) (by omega) (m_walkersOn hR hH hV hF hW hCo hWt (f_cellOf h k s) s (by omega) (by omega)) (fun _ => ?_)
      refine T_iconst 1 (am_dec tX2_isHid_0 20 rfl) rfl ⟨by decide, by decide⟩ ?_
      refine T_iload_n (am_dec tX2_isHid_0 21 rfl) rfl ?_
      refine T_ishl (am_ishl 1 k) (am_dec tX2_isHid_0 22 rfl) (am_w32e _).symm (am_w32r _) ?_
      refine T_iconst (-1) (am_dec tX2_isHid_0 23 rfl) rfl ⟨by decide, by decide⟩ ?_
      refine T_ixor (am_ixor (am_ishl 1 k) (-1)) (am_dec tX2_isHid_0 24 rfl) (am_w32e _).symm (am_w32r _) ?_
      refine T_iand (am_iand (f_walkersOn r h (f_cellOf h k s) s) (am_ixor (am_ishl 1 k) (-1))) (am_dec tX2_isHid_0 25 rfl) (am_w32e _).symm (am_w32r _) ?_
      refine T_if_ne 45 (am_dec tX2_isHid_0 26 rfl) rfl (fun h38 => ?_) (fun h38 => ?_)
      · refine T_iconst 0 (am_dec tX2_isHid_0 29 rfl) rfl ⟨by decide, by decide⟩ ?_
        exact T_zreturn (am_dec tX2_isHid_0 30 rfl) rfl (by first | exact Or.inl rfl | exact Or.inr rfl | omega) (am_outI (by unfold f_hid; first | (rw [if_pos (by omega)]; done) | (rw [if_neg (by omega), if_pos (by omega)]; done) | (rw [if_neg (by omega), if_neg (by omega)]; done)))
      · refine T_iconst 1 (am_dec tX2_isHid_0 27 rfl) rfl ⟨by decide, by decide⟩ ?_
        refine T_goto 46 (am_dec tX2_isHid_0 28 rfl) rfl ?_
        exact T_zreturn (am_dec tX2_isHid_0 30 rfl) rfl (by first | exact Or.inl rfl | exact Or.inr rfl | omega) (am_outI (by unfold f_hid; first | (rw [if_pos (by omega)]; done) | (rw [if_neg (by omega), if_pos (by omega)]; done) | (rw [if_neg (by omega), if_neg (by omega)]; done)))
    · refine T_iconst 0 (am_dec tX2_isHid_0 14 rfl) rfl ⟨by decide, by decide⟩ ?_
      exact T_zreturn (am_dec tX2_isHid_0 15 rfl) rfl (by first | exact Or.inl rfl | exact Or.inr rfl | omega) (am_outI (by unfold f_hid; first | (rw [if_pos (by omega)]; done) | (rw [if_neg (by omega), if_pos (by omega)]; done) | (rw [if_neg (by omega), if_neg (by omega)]; done)))
theorem f_need_b {r h : am_F} (hF : RnF r) (hV : HbV h) (hWt : WtB h) {c : Int} (hc : 0 ≤ c ∧ c ≤ 99) (s : Int) : 0 ≤ f_need r h c s ∧ f_need r h c s ≤ 99 := by
  have v := hV
  obtain ⟨v1, v2, v3, v4, v5, v6⟩ := v
  have q := am_fold_inv (P := fun (_ a : Int) => 0 ≤ a ∧ a ≤ 99) (g := g_need r h c s) (h 0 9).toNat 0 0 (by omega) (fun i a x y hp => by
    have := f_line_b hF (hWt i) hc s
    unfold g_need
    split
    · exact hp
    · split <;> omega)
  exact q
def g_least (r h : am_F) (k bg i a : Int) : Int := if a < f_need r h (f_pathAt h k i) (bg + i) then f_need r h (f_pathAt h k i) (bg + i) else a
def f_leastTo (h : am_F) (k bg : Int) : Int := if f_moves h k < 39 - bg then f_moves h k + 1 else 40 - bg
def f_least (r h : am_F) (k bg : Int) : Int := am_fold (g_least r h k bg) 0 (f_leastTo h k bg).toNat 0
theorem L_least {S : am_S} {d u : Nat} {Q : AO → AH → Prop} {w : AH} {b hb : Nat} {r h : am_F} (hR : Rn w b hb r) (hH : Hb w hb h) (hV : HbV h) (hF : RnF r) (hW : HbW h) (hCo : CoB h) (hWt : WtB h) (k bg : Int) (hbg : -1 ≤ bg ∧ bg ≤ 40) (hP : ∀ i : Int, 0 ≤ i → i ≤ f_moves h k → 0 ≤ f_pathAt h k i ∧ f_pathAt h k i ≤ 88) (hd : 6 ≤ d) (T : Int) (hT : T = f_leastTo h k bg) : ∀ (n : Nat) (i : Int) (a : Int), i + n = T → 0 ≤ i → 0 ≤ a ∧ a ≤ 99 → (∀ (a' : Int), a' = am_fold (g_least r h k bg) i n a → 0 ≤ a' ∧ a' ≤ 99 → am_T S zX2_leastFor d u Q 58 [some (aR b), some (aI k), some (aI bg), some (aR hb), some (aI a'), some (aI T)] [] (w)) → am_T S zX2_leastFor d u Q 11 [some (aR b), some (aI k), some (aI bg), some (aR hb), some (aI a), some (aI i)] [] (w) := by
  have hV9 := hV
  obtain ⟨v1, v2, v3, v4, v5, v6, v7, v8, v9, v10, v11, v12, v13, v14, v15, v16, v17, v18, v19, v20, v21, v22⟩ := hV9
  have wk := hW k
  have eT : f_leastTo h k bg = if f_moves h k < 39 - bg then f_moves h k + 1 else 40 - bg := rfl
  intro n
  induction n with
  | zero =>
    intro i a hi9 h0i hinv k9
    refine T_iload (am_dec tX2_leastFor_0 7 rfl) rfl ?_
    refine T_aload_n (am_dec tX2_leastFor_0 8 rfl) rfl ?_
    refine T_iload_n (am_dec tX2_leastFor_0 9 rfl) rfl ?_
    refine T_callV (as := [aI k]) rfl (am_dec tX2_leastFor_0 10 rfl) lkX2_81 (hH 0 (by decide)) rfl rfl (Nat.le_of_ble_eq_true rfl) (by omega) (m_movesOf hH (by omega) (by omega) k) (fun _ => ?_)
    refine T_icmp_gt 58 (am_dec tX2_leastFor_0 11 rfl) rfl (fun h18 => ?_) (fun h18 => ?_)
    · have e9 : i = T := by omega
      rw [← e9] at k9
      exact k9 a rfl (by first | exact hinv | omega)
    · refine T_iload_n (am_dec tX2_leastFor_0 12 rfl) rfl ?_
      refine T_iload (am_dec tX2_leastFor_0 13 rfl) rfl ?_
      refine T_iadd (bg + i) (am_dec tX2_leastFor_0 14 rfl) rfl ⟨by omega, by omega⟩ ?_
      refine T_bipush 40 (am_dec tX2_leastFor_0 15 rfl) rfl ⟨by decide, by decide⟩ ?_
      refine T_icmp_ge 58 (am_dec tX2_leastFor_0 16 rfl) rfl (fun h27 => ?_) (fun h27 => ?_)
      · have e9 : i = T := by omega
        rw [← e9] at k9
        exact k9 a rfl (by first | exact hinv | omega)
      · exfalso; omega
  | succ n ih =>
    intro i a hi9 h0i hinv k9
    refine T_iload (am_dec tX2_leastFor_0 7 rfl) rfl ?_
    refine T_aload_n (am_dec tX2_leastFor_0 8 rfl) rfl ?_
    refine T_iload_n (am_dec tX2_leastFor_0 9 rfl) rfl ?_
    refine T_callV (as := [aI k]) rfl (am_dec tX2_leastFor_0 10 rfl) lkX2_81 (hH 0 (by decide)) rfl rfl (Nat.le_of_ble_eq_true rfl) (by omega) (m_movesOf hH (by omega) (by omega) k) (fun _ => ?_)
    refine T_icmp_gt 58 (am_dec tX2_leastFor_0 11 rfl) rfl (fun h18 => ?_) (fun h18 => ?_)
    · exfalso; omega
    · refine T_iload_n (am_dec tX2_leastFor_0 12 rfl) rfl ?_
      refine T_iload (am_dec tX2_leastFor_0 13 rfl) rfl ?_
      refine T_iadd (bg + i) (am_dec tX2_leastFor_0 14 rfl) rfl ⟨by omega, by omega⟩ ?_
      refine T_bipush 40 (am_dec tX2_leastFor_0 15 rfl) rfl ⟨by decide, by decide⟩ ?_
      refine T_icmp_ge 58 (am_dec tX2_leastFor_0 16 rfl) rfl (fun h27 => ?_) (fun h27 => ?_)
      · exfalso; omega
      · refine T_iload (am_dec tX2_leastFor_0 17 rfl) rfl ?_
        refine T_aload_n (am_dec tX2_leastFor_0 18 rfl) rfl ?_
        refine T_aload_n (am_dec tX2_leastFor_0 19 rfl) rfl ?_
        refine T_iload_n (am_dec tX2_leastFor_0 20 rfl) rfl ?_
        refine T_iload (am_dec tX2_leastFor_0 21 rfl) rfl ?_
        have pt37 := hP i (by omega) (by omega)
        refine T_callV (as := [aI k, aI i]) rfl (am_dec tX2_leastFor_0 22 rfl) lkX2_84 (hH 0 (by decide)) rfl rfl (Nat.le_of_ble_eq_true rfl) (by omega) (m_pathAt hH k i) (fun _ => ?_)
        refine T_iload_n (am_dec tX2_leastFor_0 23 rfl) rfl ?_
        refine T_iload (am_dec tX2_leastFor_0 24 rfl) rfl ?_
        refine T_iadd (bg + i) (am_dec tX2_leastFor_0 25 rfl) rfl ⟨by omega, by omega⟩ ?_
        have nd44 := f_need_b hF hV hWt (c := (f_pathAt h k i)) (by omega) (bg + i)
        refine T_callS (as := [aR b, aI (f_pathAt h k i), aI (bg + i)]) rfl (am_dec tX2_leastFor_0 26 rfl) lkX2_87 rfl (Nat.le_of_ble_eq_true rfl) (by omega) (m_need hR hH hV hF hW hCo hWt (f_pathAt h k i) (bg + i) (by omega) (by omega)) (fun _ => ?_)
        refine T_mmax (am_dec tX2_leastFor_0 27 rfl) lkX2_30 (Nat.le_of_ble_eq_true rfl) (by omega) ?_
        obtain ⟨m47, hm47⟩ : ∃ x9 : Int, x9 = (if a < f_need r h (f_pathAt h k i) (bg + i) then f_need r h (f_pathAt h k i) (bg + i) else a) := ⟨_, rfl⟩
        rw [← hm47]
        refine T_istore (ls' := [some (aR b), some (aI k), some (aI bg), some (aR hb), some (aI m47), some (aI i)]) (am_dec tX2_leastFor_0 28 rfl) (by decide) rfl ?_
        refine T_iinc (ls' := [some (aR b), some (aI k), some (aI bg), some (aR hb), some (aI m47), some (aI (i + 1))]) (i + 1) (am_dec tX2_leastFor_0 29 rfl) rfl rfl ⟨by omega, by omega⟩ (by decide) rfl ?_
        refine T_goto 11 (am_dec tX2_leastFor_0 30 rfl) rfl ?_
        have e9 : (g_least r h k bg) i a = m47 := (by unfold g_least; rw [hm47])
        simp only [am_fold_s, e9] at k9
        exact ih (i + 1) m47 (by omega) (by omega) (by omega) k9
theorem m_least {S : am_S} {d u : Nat} {w : AH} {b hb : Nat} {r h : am_F} (hR : Rn w b hb r) (hH : Hb w hb h) (hV : HbV h) (hF : RnF r) (hW : HbW h) (hCo : CoB h) (hWt : WtB h) (k bg : Int) (hbg : -1 ≤ bg ∧ bg ≤ 40) (hP : ∀ i : Int, 0 ≤ i → i ≤ f_moves h k → 0 ≤ f_pathAt h k i ∧ f_pathAt h k i ≤ 88) (hd : 6 ≤ d) : am_Out S zX2_leastFor d u [aR b, aI k, aI bg] w (.inl (some (aI (f_least r h k bg)))) w := by
  refine am_body rfl (by decide +kernel) rfl (am_cats_cons rfl ( am_cats_cons rfl ( am_cats_cons rfl (am_cats_nil)))) (Nat.le_of_ble_eq_true rfl) (?_ : am_T _ _ _ _ _ 0 [some (aR b), some (aI k), some (aI bg), none, none, none] [] w)
  have wk := hW k
  have eT : f_leastTo h k bg = if f_moves h k < 39 - bg then f_moves h k + 1 else 40 - bg := rfl
  refine T_aload_n (am_dec tX2_leastFor_0 0 rfl) rfl ?_
  refine T_getfield 8 0 (am_dec tX2_leastFor_0 1 rfl) flX2_42_8 (hR 0 (by decide)) rfl ?_
  refine T_astore_n (ls' := [some (aR b), some (aI k), some (aI bg), some (aR hb), none, none]) (am_dec tX2_leastFor_0 2 rfl) (by decide) rfl ?_
  refine T_iconst 0 (am_dec tX2_leastFor_0 3 rfl) rfl ⟨by decide, by decide⟩ ?_
  refine T_istore (ls' := [some (aR b), some (aI k), some (aI bg), some (aR hb), some (aI 0), none]) (am_dec tX2_leastFor_0 4 rfl) (by decide) rfl ?_
  refine T_iconst 0 (am_dec tX2_leastFor_0 5 rfl) rfl ⟨by decide, by decide⟩ ?_
  refine T_istore (ls' := [some (aR b), some (aI k), some (aI bg), some (aR hb), some (aI 0), some (aI 0)]) (am_dec tX2_leastFor_0 6 rfl) (by decide) rfl ?_
  refine L_least hR hH hV hF hW hCo hWt k bg hbg hP hd (f_leastTo h k bg) rfl (f_leastTo h k bg - 0).toNat 0 0 (by omega) (by omega) (by omega) (fun a11 ha11 hv11 => ?_)
  refine T_iload (am_dec tX2_leastFor_0 31 rfl) rfl ?_
  exact T_ireturn (am_dec tX2_leastFor_0 32 rfl) rfl (am_outI (by rw [ha11, Int.sub_zero]; rfl))
