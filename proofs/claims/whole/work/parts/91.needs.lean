/-! refusals -/
def n_range (v lo hi : Int) : Int := if v < lo ∨ hi < v then 3 else 0
def n_cell (h : am_F) (x y : Int) : Int := if f_has h x y = 0 then 1 else 0
def n_code (h : am_F) (c : Int) : Int := n_cell h (if 0 ≤ c then (c % 10) else (-1)) (if 0 ≤ c then (c / 10) else (-1))
def n_row (many row : Int) : Int := if 0 ≤ row ∧ row < many then 0 else 2
def n_two (many a b : Int) : Int := if n_row many a = 0 then (if n_row many b = 0 then (if a = b then 3 else 0) else n_row many b) else n_row many a
def n_step (s : Int) : Int := n_range s 0 39
def n_seeds (q many : Int) : Int := if n_range q 0 8 = 0 then n_range many 1 40 else n_range q 0 8
def n_ref (e : am_F) (c : Int) : am_F := am_put e 2 (c - 1).toNat (am_w32 (e 2 (c - 1).toNat + 1))
theorem n_range_0 {v lo hi : Int} (h : n_range v lo hi = 0) : lo ≤ v ∧ v ≤ hi := by
  unfold n_range at h
  split at h
  · cases h
  · omega
theorem n_range_X {v lo hi : Int} (h : ¬ n_range v lo hi = 0) : (v < lo ∨ hi < v) ∧ n_range v lo hi = 3 := by
  unfold n_range at *
  split at h
  · rename_i q; exact ⟨q, if_pos q⟩
  · exact absurd rfl h
theorem n_cell_0 {h : am_F} {x y : Int} (q : n_cell h x y = 0) : (0 ≤ x ∧ x < h 0 0) ∧ 0 ≤ y ∧ y < h 0 1 := by
  by_cases hc : 0 ≤ x ∧ x < h 0 0 ∧ 0 ≤ y ∧ y < h 0 1
  · exact ⟨⟨hc.1, hc.2.1⟩, hc.2.2⟩
  · have e : f_has h x y = 0 := if_neg hc
    unfold n_cell at q
    rw [if_pos e] at q
    cases q
theorem n_cell_X {h : am_F} {x y : Int} (q : ¬ n_cell h x y = 0) : f_has h x y = 0 ∧ n_cell h x y = 1 := by
  unfold n_cell at *
  split at q
  · rename_i q2; exact ⟨q2, if_pos q2⟩
  · exact absurd rfl q
theorem n_row_0 {m r : Int} (q : n_row m r = 0) : 0 ≤ r ∧ r < m := by
  unfold n_row at q
  split at q
  · assumption
  · cases q
theorem n_row_X {m r : Int} (q : ¬ n_row m r = 0) : ¬ (0 ≤ r ∧ r < m) ∧ n_row m r = 2 := by
  unfold n_row at *
  split at q
  · exact absurd rfl q
  · rename_i q2; exact ⟨q2, if_neg q2⟩
theorem n_two_0 {m a b : Int} (q : n_two m a b = 0) : (0 ≤ a ∧ a < m) ∧ (0 ≤ b ∧ b < m) ∧ a ≠ b := by
  unfold n_two at q
  split at q
  · rename_i q1
    split at q
    · rename_i q2
      split at q
      · cases q
      · exact ⟨n_row_0 q1, n_row_0 q2, by assumption⟩
    · exact absurd q (by assumption)
  · exact absurd q (by assumption)
theorem n_step_0 {s : Int} (q : n_step s = 0) : 0 ≤ s ∧ s ≤ 39 := n_range_0 q
theorem n_seeds_0 {q m : Int} (h : n_seeds q m = 0) : (0 ≤ q ∧ q ≤ 8) ∧ 1 ≤ m ∧ m ≤ 40 := by
  unfold n_seeds at h
  split at h
  · rename_i h1; exact ⟨n_range_0 h1, n_range_0 h⟩
  · exact absurd h (by assumption)
theorem n_code_0 {h : am_F} {c : Int} (q : n_code h c = 0) : 0 ≤ c ∧ c % 10 < h 0 0 ∧ c / 10 < h 0 1 := by
  have k := n_cell_0 q
  by_cases hc : 0 ≤ c
  · rw [if_pos hc, if_pos hc] at k; omega
  · rw [if_neg hc] at k; omega
theorem am_onX {c : Int} (h : ¬ c = 0) : am_on c = am_thr c := if_neg h
theorem mx_range0 {S : am_S} {d u : Nat} {w : AH} {hb sp rb rs : Nat} {po ro : AV} (hl : 109 ≤ w.length) (hp : hb = 1 ∧ sp = 21 ∨ hb = 21 ∧ sp = 1) (hr : rb = 41 ∧ rs = 46 ∨ rb = 46 ∧ rs = 41) {ee : am_F} {hh : am_F} {ss : am_F} {uu : am_F} {vv : am_F} {pp : am_F} {kk : am_F} {rr : am_F} {tt : am_F} {gg : am_F} {aa : am_F} {dd : am_F} {bd : am_F} {ga : am_F} {im : am_F} (v : Int) (lo : Int) (hi : Int) (hN : n_range v lo hi = 0)  (hd : 6 ≤ d) : am_Out S zX11_needRange d u [aR 0, aI v, aI lo, aI hi] (hfW w hb sp rb rs hb po ro ee hh ss uu vv pp kk rr tt gg aa dd bd ga im) (.inl none) (hfW w hb sp rb rs hb po ro ee hh ss uu vv pp kk rr tt gg aa dd bd ga im) := by
  have key : ∀ Q : AO → AH → Prop, Q (.inl none) (hfW w hb sp rb rs hb po ro ee hh ss uu vv pp kk rr tt gg aa dd bd ga im) → am_M S zX11_needRange d u [aR 0, aI v, aI lo, aI hi] (hfW w hb sp rb rs hb po ro ee hh ss uu vv pp kk rr tt gg aa dd bd ga im) Q := by
    intro Q hQ
    refine am_body rfl (by decide +kernel) rfl (am_cats_cons rfl ( am_cats_cons rfl ( am_cats_cons rfl ( am_cats_cons rfl (am_cats_nil))))) (Nat.le_of_ble_eq_true rfl) (?_ : am_T _ _ _ _ _ 0 [some (aR 0), some (aI v), some (aI lo), some (aI hi)] [] (hfW w hb sp rb rs hb po ro ee hh ss uu vv pp kk rr tt gg aa dd bd ga im))
    have hk := n_range_0 hN
    refine T_iload_n (am_dec tX11_needRange_0 0 rfl) rfl ?_
    refine T_iload_n (am_dec tX11_needRange_0 1 rfl) rfl ?_
    refine T_icmp_lt 10 (am_dec tX11_needRange_0 2 rfl) rfl (fun h2 => by exfalso; omega) (fun h2 => ?_)
    refine T_iload_n (am_dec tX11_needRange_0 3 rfl) rfl ?_
    refine T_iload_n (am_dec tX11_needRange_0 4 rfl) rfl ?_
    refine T_icmp_le 28 (am_dec tX11_needRange_0 5 rfl) rfl (fun h7 => ?_) (fun h7 => by exfalso; omega)
    exact T_return (am_dec tX11_needRange_0 18 rfl) rfl hQ
  exact key _ ⟨rfl, rfl⟩
theorem mx_rangeT {S : am_S} {d u : Nat} {w : AH} {hb sp rb rs : Nat} {po ro : AV} (hl : 109 ≤ w.length) (hp : hb = 1 ∧ sp = 21 ∨ hb = 21 ∧ sp = 1) (hr : rb = 41 ∧ rs = 46 ∨ rb = 46 ∧ rs = 41) {ee : am_F} {hh : am_F} {ss : am_F} {uu : am_F} {vv : am_F} {pp : am_F} {kk : am_F} {rr : am_F} {tt : am_F} {gg : am_F} {aa : am_F} {dd : am_F} {bd : am_F} {ga : am_F} {im : am_F} (v : Int) (lo : Int) (hi : Int) (hN : v < lo ∨ hi < v) (hu : 1 ≤ u) (hd : 6 ≤ d) : am_Out S zX11_needRange d u [aR 0, aI v, aI lo, aI hi] (hfW w hb sp rb rs hb po ro ee hh ss uu vv pp kk rr tt gg aa dd bd ga im) (.inr 2) (hfW w hb sp rb rs hb po ro (am_put ee 2 2 (am_w32 ((ee 2 2) + 1))) hh ss uu vv pp kk rr tt gg aa dd bd ga im) := by
  have key : ∀ Q : AO → AH → Prop, Q (.inr 2) (hfW w hb sp rb rs hb po ro (am_put ee 2 2 (am_w32 ((ee 2 2) + 1))) hh ss uu vv pp kk rr tt gg aa dd bd ga im) → am_M S zX11_needRange d u [aR 0, aI v, aI lo, aI hi] (hfW w hb sp rb rs hb po ro ee hh ss uu vv pp kk rr tt gg aa dd bd ga im) Q := by
    intro Q hQ
    refine am_body rfl (by decide +kernel) rfl (am_cats_cons rfl ( am_cats_cons rfl ( am_cats_cons rfl ( am_cats_cons rfl (am_cats_nil))))) (Nat.le_of_ble_eq_true rfl) (?_ : am_T _ _ _ _ _ 0 [some (aR 0), some (aI v), some (aI lo), some (aI hi)] [] (hfW w hb sp rb rs hb po ro ee hh ss uu vv pp kk rr tt gg aa dd bd ga im))
    refine T_iload_n (am_dec tX11_needRange_0 0 rfl) rfl ?_
    refine T_iload_n (am_dec tX11_needRange_0 1 rfl) rfl ?_
    refine T_icmp_lt 10 (am_dec tX11_needRange_0 2 rfl) rfl (fun h2 => ?_) (fun h2 => ?_)
    · refine T_aload_n (am_dec tX11_needRange_0 6 rfl) rfl ?_
      refine T_getfield 10 18 (am_dec tX11_needRange_0 7 rfl) flX11_105_10 (show (hfW w hb sp rb rs hb po ro ee hh ss uu vv pp kk rr tt gg aa dd bd ga im)[0]? = some (cO 10 [aR hb, aR sp, aR rb, aR rs, aR 52, aR 53, aR 51, aI (ee 0 7), aI (ee 0 8), aR 54, aR 64, aR 74, aR 77, aR 83, aR 84, aR 86, aR 88, aI (ee 0 17), aR 107, aR 108]) from (hfW_c hl 0 (by decide))) rfl ?_
      refine T_iconst 2 (am_dec tX11_needRange_0 8 rfl) rfl ⟨by decide, by decide⟩ ?_
      refine T_dup2 (am_dec tX11_needRange_0 9 rfl) rfl rfl ?_
      refine T_ialoadE (x := ee 2 2) (am_dec tX11_needRange_0 10 rfl) (show (hfW w hb sp rb rs hb po ro ee hh ss uu vv pp kk rr tt gg aa dd bd ga im)[107]? = some (cP 0 3 (ee 2)) from (hfW_c hl 107 (by decide))) (by omega) (by omega) rfl ?_
      refine T_iconst 1 (am_dec tX11_needRange_0 11 rfl) rfl ⟨by decide, by decide⟩ ?_
      refine T_iaddW (am_w32 ((ee 2 2) + 1)) (am_dec tX11_needRange_0 12 rfl) (am_w32e _).symm (am_w32r _) ?_
      refine T_iastore (am_dec tX11_needRange_0 13 rfl) (show (hfW w hb sp rb rs hb po ro ee hh ss uu vv pp kk rr tt gg aa dd bd ga im)[107]? = some (cP 0 3 (ee 2)) from (hfW_c hl 107 (by decide))) (by omega) (by omega) ?_
      refine am_wE (w2 := hfW w hb sp rb rs hb po ro (am_put ee 2 2 (am_w32 ((ee 2 2) + 1))) hh ss uu vv pp kk rr tt gg aa dd bd ga im) (hf_prf hl) ?_
      exact T_throw2 (ik := 426) (ic := 428) 2 rfl (am_dec tX11_needRange_0 14 rfl) (am_dec tX11_needRange_0 15 rfl) (am_dec tX11_needRange_0 16 rfl) (am_dec tX11_needRange_0 17 rfl) (by decide) thX11_426_428 (Nat.le_of_ble_eq_true rfl) (by omega) (by omega) hQ
    · refine T_iload_n (am_dec tX11_needRange_0 3 rfl) rfl ?_
      refine T_iload_n (am_dec tX11_needRange_0 4 rfl) rfl ?_
      refine T_icmp_le 28 (am_dec tX11_needRange_0 5 rfl) rfl (fun h7 => by exfalso; omega) (fun h7 => ?_)
      refine T_aload_n (am_dec tX11_needRange_0 6 rfl) rfl ?_
      refine T_getfield 10 18 (am_dec tX11_needRange_0 7 rfl) flX11_105_10 (show (hfW w hb sp rb rs hb po ro ee hh ss uu vv pp kk rr tt gg aa dd bd ga im)[0]? = some (cO 10 [aR hb, aR sp, aR rb, aR rs, aR 52, aR 53, aR 51, aI (ee 0 7), aI (ee 0 8), aR 54, aR 64, aR 74, aR 77, aR 83, aR 84, aR 86, aR 88, aI (ee 0 17), aR 107, aR 108]) from (hfW_c hl 0 (by decide))) rfl ?_
      refine T_iconst 2 (am_dec tX11_needRange_0 8 rfl) rfl ⟨by decide, by decide⟩ ?_
      refine T_dup2 (am_dec tX11_needRange_0 9 rfl) rfl rfl ?_
      refine T_ialoadE (x := ee 2 2) (am_dec tX11_needRange_0 10 rfl) (show (hfW w hb sp rb rs hb po ro ee hh ss uu vv pp kk rr tt gg aa dd bd ga im)[107]? = some (cP 0 3 (ee 2)) from (hfW_c hl 107 (by decide))) (by omega) (by omega) rfl ?_
      refine T_iconst 1 (am_dec tX11_needRange_0 11 rfl) rfl ⟨by decide, by decide⟩ ?_
      refine T_iaddW (am_w32 ((ee 2 2) + 1)) (am_dec tX11_needRange_0 12 rfl) (am_w32e _).symm (am_w32r _) ?_
      refine T_iastore (am_dec tX11_needRange_0 13 rfl) (show (hfW w hb sp rb rs hb po ro ee hh ss uu vv pp kk rr tt gg aa dd bd ga im)[107]? = some (cP 0 3 (ee 2)) from (hfW_c hl 107 (by decide))) (by omega) (by omega) ?_
      refine am_wE (w2 := hfW w hb sp rb rs hb po ro (am_put ee 2 2 (am_w32 ((ee 2 2) + 1))) hh ss uu vv pp kk rr tt gg aa dd bd ga im) (hf_prf hl) ?_
      exact T_throw2 (ik := 426) (ic := 428) 2 rfl (am_dec tX11_needRange_0 14 rfl) (am_dec tX11_needRange_0 15 rfl) (am_dec tX11_needRange_0 16 rfl) (am_dec tX11_needRange_0 17 rfl) (by decide) thX11_426_428 (Nat.le_of_ble_eq_true rfl) (by omega) (by omega) hQ
  exact key _ ⟨rfl, rfl⟩
theorem x_rangeX {S : am_S} {d u : Nat} {w : AH} {hb sp rb rs : Nat} {po ro : AV} (hl : 109 ≤ w.length) (hp : hb = 1 ∧ sp = 21 ∨ hb = 21 ∧ sp = 1) (hr : rb = 41 ∧ rs = 46 ∨ rb = 46 ∧ rs = 41) {ee hh ss uu vv pp kk rr tt gg aa dd bd ga im : am_F} (v lo hi : Int) (hN : ¬ n_range v lo hi = 0) (hu : 1 ≤ u) (hd : 6 ≤ d) : am_Out S zX11_needRange d u [aR 0, aI v, aI lo, aI hi] (hfW w hb sp rb rs hb po ro ee hh ss uu vv pp kk rr tt gg aa dd bd ga im) (am_thr (n_range v lo hi)) (hfW w hb sp rb rs hb po ro (n_ref ee (n_range v lo hi)) hh ss uu vv pp kk rr tt gg aa dd bd ga im) := by
  obtain ⟨q, e⟩ := n_range_X hN
  rw [e]
  exact mx_rangeT hl hp hr v lo hi q hu hd
theorem mx_cell0 {S : am_S} {d u : Nat} {w : AH} {hb sp rb rs : Nat} {po ro : AV} (hl : 109 ≤ w.length) (hp : hb = 1 ∧ sp = 21 ∨ hb = 21 ∧ sp = 1) (hr : rb = 41 ∧ rs = 46 ∨ rb = 46 ∧ rs = 41) {ee : am_F} {hh : am_F} {ss : am_F} {uu : am_F} {vv : am_F} {pp : am_F} {kk : am_F} {rr : am_F} {tt : am_F} {gg : am_F} {aa : am_F} {dd : am_F} {bd : am_F} {ga : am_F} {im : am_F} (x : Int) (y : Int) (hN : n_cell hh x y = 0)  (hd : 6 ≤ d) : am_Out S zX11_needCell d u [aR 0, aI x, aI y] (hfW w hb sp rb rs hb po ro ee hh ss uu vv pp kk rr tt gg aa dd bd ga im) (.inl none) (hfW w hb sp rb rs hb po ro ee hh ss uu vv pp kk rr tt gg aa dd bd ga im) := by
  have key : ∀ Q : AO → AH → Prop, Q (.inl none) (hfW w hb sp rb rs hb po ro ee hh ss uu vv pp kk rr tt gg aa dd bd ga im) → am_M S zX11_needCell d u [aR 0, aI x, aI y] (hfW w hb sp rb rs hb po ro ee hh ss uu vv pp kk rr tt gg aa dd bd ga im) Q := by
    intro Q hQ
    refine am_body rfl (by decide +kernel) rfl (am_cats_cons rfl ( am_cats_cons rfl ( am_cats_cons rfl (am_cats_nil)))) (Nat.le_of_ble_eq_true rfl) (?_ : am_T _ _ _ _ _ 0 [some (aR 0), some (aI x), some (aI y)] [] (hfW w hb sp rb rs hb po ro ee hh ss uu vv pp kk rr tt gg aa dd bd ga im))
    have hk := n_cell_0 hN
    refine T_aload_n (am_dec tX11_needCell_0 0 rfl) rfl ?_
    refine T_getfield 10 0 (am_dec tX11_needCell_0 1 rfl) flX11_10_10 (show (hfW w hb sp rb rs hb po ro ee hh ss uu vv pp kk rr tt gg aa dd bd ga im)[0]? = some (cO 10 [aR hb, aR sp, aR rb, aR rs, aR 52, aR 53, aR 51, aI (ee 0 7), aI (ee 0 8), aR 54, aR 64, aR 74, aR 77, aR 83, aR 84, aR 86, aR 88, aI (ee 0 17), aR 107, aR 108]) from (hfW_c hl 0 (by decide))) rfl ?_
    refine T_iload_n (am_dec tX11_needCell_0 2 rfl) rfl ?_
    refine T_iload_n (am_dec tX11_needCell_0 3 rfl) rfl ?_
    refine T_callV (as := [aI x, aI y]) rfl (am_dec tX11_needCell_0 4 rfl) lkX11_418 (show (hfW w hb sp rb rs hb po ro ee hh ss uu vv pp kk rr tt gg aa dd bd ga im)[hb]? = some (cO 3 [aI (hh 0 0), aI (hh 0 1), aI (hh 0 2), aR (hb + 1), aR (hb + 3), aR (hb + 5), aR (hb + 7), aR (hb + 9), aR (hb + 11), aR (hb + 13), aR (hb + 15), aR (hb + 17), aR (hb + 18), aR (hb + 19)]) from ((hf_H hl hp) 0 (by decide))) rfl rfl (Nat.le_of_ble_eq_true rfl) (by omega) (m_has (d := d - 1) (hf_H hl hp) x y) (fun _ => ?_)
    refine T_nm (fun z6 hz6 => ?_)
    have hb6 := f_has_b hh x y
    rw [← hz6] at hb6
    refine T_if_ne 30 (am_dec tX11_needCell_0 5 rfl) rfl (fun h9 => ?_) (fun h9 => by exfalso; exact absurd ((hz6.symm.trans h9)) (by have e9 : f_has hh x y = 1 := if_pos (by omega); rw [e9]; omega))
    exact T_return (am_dec tX11_needCell_0 18 rfl) rfl hQ
  exact key _ ⟨rfl, rfl⟩
theorem mx_cellT {S : am_S} {d u : Nat} {w : AH} {hb sp rb rs : Nat} {po ro : AV} (hl : 109 ≤ w.length) (hp : hb = 1 ∧ sp = 21 ∨ hb = 21 ∧ sp = 1) (hr : rb = 41 ∧ rs = 46 ∨ rb = 46 ∧ rs = 41) {ee : am_F} {hh : am_F} {ss : am_F} {uu : am_F} {vv : am_F} {pp : am_F} {kk : am_F} {rr : am_F} {tt : am_F} {gg : am_F} {aa : am_F} {dd : am_F} {bd : am_F} {ga : am_F} {im : am_F} (x : Int) (y : Int) (hN : f_has hh x y = 0) (hu : 1 ≤ u) (hd : 6 ≤ d) : am_Out S zX11_needCell d u [aR 0, aI x, aI y] (hfW w hb sp rb rs hb po ro ee hh ss uu vv pp kk rr tt gg aa dd bd ga im) (.inr 0) (hfW w hb sp rb rs hb po ro (am_put ee 2 0 (am_w32 ((ee 2 0) + 1))) hh ss uu vv pp kk rr tt gg aa dd bd ga im) := by
  have key : ∀ Q : AO → AH → Prop, Q (.inr 0) (hfW w hb sp rb rs hb po ro (am_put ee 2 0 (am_w32 ((ee 2 0) + 1))) hh ss uu vv pp kk rr tt gg aa dd bd ga im) → am_M S zX11_needCell d u [aR 0, aI x, aI y] (hfW w hb sp rb rs hb po ro ee hh ss uu vv pp kk rr tt gg aa dd bd ga im) Q := by
    intro Q hQ
    refine am_body rfl (by decide +kernel) rfl (am_cats_cons rfl ( am_cats_cons rfl ( am_cats_cons rfl (am_cats_nil)))) (Nat.le_of_ble_eq_true rfl) (?_ : am_T _ _ _ _ _ 0 [some (aR 0), some (aI x), some (aI y)] [] (hfW w hb sp rb rs hb po ro ee hh ss uu vv pp kk rr tt gg aa dd bd ga im))
    refine T_aload_n (am_dec tX11_needCell_0 0 rfl) rfl ?_
    refine T_getfield 10 0 (am_dec tX11_needCell_0 1 rfl) flX11_10_10 (show (hfW w hb sp rb rs hb po ro ee hh ss uu vv pp kk rr tt gg aa dd bd ga im)[0]? = some (cO 10 [aR hb, aR sp, aR rb, aR rs, aR 52, aR 53, aR 51, aI (ee 0 7), aI (ee 0 8), aR 54, aR 64, aR 74, aR 77, aR 83, aR 84, aR 86, aR 88, aI (ee 0 17), aR 107, aR 108]) from (hfW_c hl 0 (by decide))) rfl ?_
    refine T_iload_n (am_dec tX11_needCell_0 2 rfl) rfl ?_
    refine T_iload_n (am_dec tX11_needCell_0 3 rfl) rfl ?_
    refine T_callV (as := [aI x, aI y]) rfl (am_dec tX11_needCell_0 4 rfl) lkX11_418 (show (hfW w hb sp rb rs hb po ro ee hh ss uu vv pp kk rr tt gg aa dd bd ga im)[hb]? = some (cO 3 [aI (hh 0 0), aI (hh 0 1), aI (hh 0 2), aR (hb + 1), aR (hb + 3), aR (hb + 5), aR (hb + 7), aR (hb + 9), aR (hb + 11), aR (hb + 13), aR (hb + 15), aR (hb + 17), aR (hb + 18), aR (hb + 19)]) from ((hf_H hl hp) 0 (by decide))) rfl rfl (Nat.le_of_ble_eq_true rfl) (by omega) (m_has (d := d - 1) (hf_H hl hp) x y) (fun _ => ?_)
    refine T_nm (fun z6 hz6 => ?_)
    have hb6 := f_has_b hh x y
    rw [← hz6] at hb6
    refine T_if_ne 30 (am_dec tX11_needCell_0 5 rfl) rfl (fun h9 => by exfalso; exact h9 (hz6.trans hN)) (fun h9 => ?_)
    refine T_aload_n (am_dec tX11_needCell_0 6 rfl) rfl ?_
    refine T_getfield 10 18 (am_dec tX11_needCell_0 7 rfl) flX11_105_10 (show (hfW w hb sp rb rs hb po ro ee hh ss uu vv pp kk rr tt gg aa dd bd ga im)[0]? = some (cO 10 [aR hb, aR sp, aR rb, aR rs, aR 52, aR 53, aR 51, aI (ee 0 7), aI (ee 0 8), aR 54, aR 64, aR 74, aR 77, aR 83, aR 84, aR 86, aR 88, aI (ee 0 17), aR 107, aR 108]) from (hfW_c hl 0 (by decide))) rfl ?_
    refine T_iconst 0 (am_dec tX11_needCell_0 8 rfl) rfl ⟨by decide, by decide⟩ ?_
    refine T_dup2 (am_dec tX11_needCell_0 9 rfl) rfl rfl ?_
    refine T_ialoadE (x := ee 2 0) (am_dec tX11_needCell_0 10 rfl) (show (hfW w hb sp rb rs hb po ro ee hh ss uu vv pp kk rr tt gg aa dd bd ga im)[107]? = some (cP 0 3 (ee 2)) from (hfW_c hl 107 (by decide))) (by omega) (by omega) rfl ?_
    refine T_iconst 1 (am_dec tX11_needCell_0 11 rfl) rfl ⟨by decide, by decide⟩ ?_
    refine T_iaddW (am_w32 ((ee 2 0) + 1)) (am_dec tX11_needCell_0 12 rfl) (am_w32e _).symm (am_w32r _) ?_
    refine T_iastore (am_dec tX11_needCell_0 13 rfl) (show (hfW w hb sp rb rs hb po ro ee hh ss uu vv pp kk rr tt gg aa dd bd ga im)[107]? = some (cP 0 3 (ee 2)) from (hfW_c hl 107 (by decide))) (by omega) (by omega) ?_
    refine am_wE (w2 := hfW w hb sp rb rs hb po ro (am_put ee 2 0 (am_w32 ((ee 2 0) + 1))) hh ss uu vv pp kk rr tt gg aa dd bd ga im) (hf_prf hl) ?_
    exact T_throw2 (ik := 420) (ic := 422) 0 rfl (am_dec tX11_needCell_0 14 rfl) (am_dec tX11_needCell_0 15 rfl) (am_dec tX11_needCell_0 16 rfl) (am_dec tX11_needCell_0 17 rfl) (by decide) thX11_420_422 (Nat.le_of_ble_eq_true rfl) (by omega) (by omega) hQ
  exact key _ ⟨rfl, rfl⟩
theorem x_cellX {S : am_S} {d u : Nat} {w : AH} {hb sp rb rs : Nat} {po ro : AV} (hl : 109 ≤ w.length) (hp : hb = 1 ∧ sp = 21 ∨ hb = 21 ∧ sp = 1) (hr : rb = 41 ∧ rs = 46 ∨ rb = 46 ∧ rs = 41) {ee hh ss uu vv pp kk rr tt gg aa dd bd ga im : am_F} (x y : Int) (hN : ¬ n_cell hh x y = 0) (hu : 1 ≤ u) (hd : 6 ≤ d) : am_Out S zX11_needCell d u [aR 0, aI x, aI y] (hfW w hb sp rb rs hb po ro ee hh ss uu vv pp kk rr tt gg aa dd bd ga im) (am_thr (n_cell hh x y)) (hfW w hb sp rb rs hb po ro (n_ref ee (n_cell hh x y)) hh ss uu vv pp kk rr tt gg aa dd bd ga im) := by
  obtain ⟨q, e⟩ := n_cell_X hN
  rw [e]
  exact mx_cellT hl hp hr x y q hu hd
theorem mx_row0 {S : am_S} {d u : Nat} {w : AH} {hb sp rb rs : Nat} {po ro : AV} (hl : 109 ≤ w.length) (hp : hb = 1 ∧ sp = 21 ∨ hb = 21 ∧ sp = 1) (hr : rb = 41 ∧ rs = 46 ∨ rb = 46 ∧ rs = 41) {tb tn : Nat} {most many : Int} {tf : Nat → Int} {ee : am_F} {hh : am_F} {ss : am_F} {uu : am_F} {vv : am_F} {pp : am_F} {kk : am_F} {rr : am_F} {tt : am_F} {gg : am_F} {aa : am_F} {dd : am_F} {bd : am_F} {ga : am_F} {im : am_F} (row : Int) (ht : (hfW w hb sp rb rs hb po ro ee hh ss uu vv pp kk rr tt gg aa dd bd ga im)[tb]? = some (cO 9 [aI most, aR tn, aI many])) (hn : (hfW w hb sp rb rs hb po ro ee hh ss uu vv pp kk rr tt gg aa dd bd ga im)[tn]? = some (cP 0 48 tf)) (hm : many ≤ 12) (hN : n_row many row = 0)  (hd : 1 ≤ d) : am_Out S zX11_needRow d u [aR 0, aR tb, aI row] (hfW w hb sp rb rs hb po ro ee hh ss uu vv pp kk rr tt gg aa dd bd ga im) (.inl none) (hfW w hb sp rb rs hb po ro ee hh ss uu vv pp kk rr tt gg aa dd bd ga im) := by
  have key : ∀ Q : AO → AH → Prop, Q (.inl none) (hfW w hb sp rb rs hb po ro ee hh ss uu vv pp kk rr tt gg aa dd bd ga im) → am_M S zX11_needRow d u [aR 0, aR tb, aI row] (hfW w hb sp rb rs hb po ro ee hh ss uu vv pp kk rr tt gg aa dd bd ga im) Q := by
    intro Q hQ
    refine am_body rfl (by decide +kernel) rfl (am_cats_cons rfl ( am_cats_cons rfl ( am_cats_cons rfl (am_cats_nil)))) (Nat.le_of_ble_eq_true rfl) (?_ : am_T _ _ _ _ _ 0 [some (aR 0), some (aR tb), some (aI row)] [] (hfW w hb sp rb rs hb po ro ee hh ss uu vv pp kk rr tt gg aa dd bd ga im))
    have hk := n_row_0 hN
    refine T_aload_n (am_dec tX11_needRow_0 0 rfl) rfl ?_
    refine T_iload_n (am_dec tX11_needRow_0 1 rfl) rfl ?_
    refine T_callV (as := [aI row]) rfl (am_dec tX11_needRow_0 2 rfl) lkX11_318 ht rfl rfl (Nat.le_of_ble_eq_true rfl) (by omega) (m_thas (d := d - 1) ht hn hm row) (fun _ => ?_)
    refine T_nm (fun z2 hz2 => ?_)
    refine T_if_ne 26 (am_dec tX11_needRow_0 3 rfl) rfl (fun h5 => ?_) (fun h5 => by exfalso; rw [if_pos hk] at hz2; omega)
    exact T_return (am_dec tX11_needRow_0 16 rfl) rfl hQ
  exact key _ ⟨rfl, rfl⟩
theorem mx_rowT {S : am_S} {d u : Nat} {w : AH} {hb sp rb rs : Nat} {po ro : AV} (hl : 109 ≤ w.length) (hp : hb = 1 ∧ sp = 21 ∨ hb = 21 ∧ sp = 1) (hr : rb = 41 ∧ rs = 46 ∨ rb = 46 ∧ rs = 41) {tb tn : Nat} {most many : Int} {tf : Nat → Int} {ee : am_F} {hh : am_F} {ss : am_F} {uu : am_F} {vv : am_F} {pp : am_F} {kk : am_F} {rr : am_F} {tt : am_F} {gg : am_F} {aa : am_F} {dd : am_F} {bd : am_F} {ga : am_F} {im : am_F} (row : Int) (ht : (hfW w hb sp rb rs hb po ro ee hh ss uu vv pp kk rr tt gg aa dd bd ga im)[tb]? = some (cO 9 [aI most, aR tn, aI many])) (hn : (hfW w hb sp rb rs hb po ro ee hh ss uu vv pp kk rr tt gg aa dd bd ga im)[tn]? = some (cP 0 48 tf)) (hm : many ≤ 12) (hN : ¬ (0 ≤ row ∧ row < many)) (hu : 1 ≤ u) (hd : 6 ≤ d) : am_Out S zX11_needRow d u [aR 0, aR tb, aI row] (hfW w hb sp rb rs hb po ro ee hh ss uu vv pp kk rr tt gg aa dd bd ga im) (.inr 1) (hfW w hb sp rb rs hb po ro (am_put ee 2 1 (am_w32 ((ee 2 1) + 1))) hh ss uu vv pp kk rr tt gg aa dd bd ga im) := by
  have key : ∀ Q : AO → AH → Prop, Q (.inr 1) (hfW w hb sp rb rs hb po ro (am_put ee 2 1 (am_w32 ((ee 2 1) + 1))) hh ss uu vv pp kk rr tt gg aa dd bd ga im) → am_M S zX11_needRow d u [aR 0, aR tb, aI row] (hfW w hb sp rb rs hb po ro ee hh ss uu vv pp kk rr tt gg aa dd bd ga im) Q := by
    intro Q hQ
    refine am_body rfl (by decide +kernel) rfl (am_cats_cons rfl ( am_cats_cons rfl ( am_cats_cons rfl (am_cats_nil)))) (Nat.le_of_ble_eq_true rfl) (?_ : am_T _ _ _ _ _ 0 [some (aR 0), some (aR tb), some (aI row)] [] (hfW w hb sp rb rs hb po ro ee hh ss uu vv pp kk rr tt gg aa dd bd ga im))
    refine T_aload_n (am_dec tX11_needRow_0 0 rfl) rfl ?_
    refine T_iload_n (am_dec tX11_needRow_0 1 rfl) rfl ?_
    refine T_callV (as := [aI row]) rfl (am_dec tX11_needRow_0 2 rfl) lkX11_318 ht rfl rfl (Nat.le_of_ble_eq_true rfl) (by omega) (m_thas (d := d - 1) ht hn hm row) (fun _ => ?_)
    refine T_nm (fun z2 hz2 => ?_)
    refine T_if_ne 26 (am_dec tX11_needRow_0 3 rfl) rfl (fun h5 => by exfalso; rw [if_neg hN] at hz2; omega) (fun h5 => ?_)
    refine T_aload_n (am_dec tX11_needRow_0 4 rfl) rfl ?_
    refine T_getfield 10 18 (am_dec tX11_needRow_0 5 rfl) flX11_105_10 (show (hfW w hb sp rb rs hb po ro ee hh ss uu vv pp kk rr tt gg aa dd bd ga im)[0]? = some (cO 10 [aR hb, aR sp, aR rb, aR rs, aR 52, aR 53, aR 51, aI (ee 0 7), aI (ee 0 8), aR 54, aR 64, aR 74, aR 77, aR 83, aR 84, aR 86, aR 88, aI (ee 0 17), aR 107, aR 108]) from (hfW_c hl 0 (by decide))) rfl ?_
    refine T_iconst 1 (am_dec tX11_needRow_0 6 rfl) rfl ⟨by decide, by decide⟩ ?_
    refine T_dup2 (am_dec tX11_needRow_0 7 rfl) rfl rfl ?_
    refine T_ialoadE (x := ee 2 1) (am_dec tX11_needRow_0 8 rfl) (show (hfW w hb sp rb rs hb po ro ee hh ss uu vv pp kk rr tt gg aa dd bd ga im)[107]? = some (cP 0 3 (ee 2)) from (hfW_c hl 107 (by decide))) (by omega) (by omega) rfl ?_
    refine T_iconst 1 (am_dec tX11_needRow_0 9 rfl) rfl ⟨by decide, by decide⟩ ?_
    refine T_iaddW (am_w32 ((ee 2 1) + 1)) (am_dec tX11_needRow_0 10 rfl) (am_w32e _).symm (am_w32r _) ?_
    refine T_iastore (am_dec tX11_needRow_0 11 rfl) (show (hfW w hb sp rb rs hb po ro ee hh ss uu vv pp kk rr tt gg aa dd bd ga im)[107]? = some (cP 0 3 (ee 2)) from (hfW_c hl 107 (by decide))) (by omega) (by omega) ?_
    refine am_wE (w2 := hfW w hb sp rb rs hb po ro (am_put ee 2 1 (am_w32 ((ee 2 1) + 1))) hh ss uu vv pp kk rr tt gg aa dd bd ga im) (hf_prf hl) ?_
    exact T_throw2 (ik := 423) (ic := 425) 1 rfl (am_dec tX11_needRow_0 12 rfl) (am_dec tX11_needRow_0 13 rfl) (am_dec tX11_needRow_0 14 rfl) (am_dec tX11_needRow_0 15 rfl) (by decide) thX11_423_425 (Nat.le_of_ble_eq_true rfl) (by omega) (by omega) hQ
  exact key _ ⟨rfl, rfl⟩
theorem x_rowX {S : am_S} {d u : Nat} {w : AH} {hb sp rb rs : Nat} {po ro : AV} (hl : 109 ≤ w.length) (hp : hb = 1 ∧ sp = 21 ∨ hb = 21 ∧ sp = 1) (hr : rb = 41 ∧ rs = 46 ∨ rb = 46 ∧ rs = 41) {tb tn : Nat} {most many : Int} {tf : Nat → Int} {ee hh ss uu vv pp kk rr tt gg aa dd bd ga im : am_F} (row : Int) (ht : (hfW w hb sp rb rs hb po ro ee hh ss uu vv pp kk rr tt gg aa dd bd ga im)[tb]? = some (cO 9 [aI most, aR tn, aI many])) (hn : (hfW w hb sp rb rs hb po ro ee hh ss uu vv pp kk rr tt gg aa dd bd ga im)[tn]? = some (cP 0 48 tf)) (hm : many ≤ 12) (hN : ¬ n_row many row = 0) (hu : 1 ≤ u) (hd : 6 ≤ d) : am_Out S zX11_needRow d u [aR 0, aR tb, aI row] (hfW w hb sp rb rs hb po ro ee hh ss uu vv pp kk rr tt gg aa dd bd ga im) (am_thr (n_row many row)) (hfW w hb sp rb rs hb po ro (n_ref ee (n_row many row)) hh ss uu vv pp kk rr tt gg aa dd bd ga im) := by
  obtain ⟨q, e⟩ := n_row_X hN
  rw [e]
  exact mx_rowT hl hp hr row ht hn hm q hu hd
