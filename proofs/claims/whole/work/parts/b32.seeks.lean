/-! THE TIE: found -/
theorem KF_t {a b c : am_F} (h1 : KF a b) (h2 : KF b c) : KF a c := ⟨fun k hk => (h2.1 k hk).trans (h1.1 k hk), fun j hj => (h2.2 j hj).trans (h1.2 j hj)⟩
theorem FdI_dc {c0 c : am_F} {t w : Int} (h : FdI c0 c) : ti_dc c t w = ti_dc c0 t w := by
  funext k j
  unfold ti_dc
  by_cases hk : k = 0
  · subst hk
    by_cases e1 : j = 59
    · subst e1; rw [am_put_s, am_put_s]
    · rw [am_put_i e1, am_put_i e1]
      by_cases e2 : j = 58
      · subst e2; rw [am_put_s, am_put_s]
      · rw [am_put_i e2, am_put_i e2]
        exact h.2 j e2 e1
  · rw [am_put_k hk, am_put_k hk, am_put_k hk, am_put_k hk]
    exact congrFun (h.1 k hk) j
theorem FdI_ofdc {c : am_F} {s w : Int} : FdI c (ti_dc c s w) := ⟨fun k hk => by unfold ti_dc; rw [am_put_kr hk, am_put_kr hk], fun j a1 a2 => by unfold ti_dc; rw [am_put_i a2, am_put_i a1]⟩
/-- what the class found beside what the model found -/
def FnR (c : am_F) (dd0 q0 : am_F) (x : am_F × am_F) (y : Int × Int × Int × am_F × am_F) : Prop := TrI x.1 ∧ (x.2 0 1 = y.1 ∧ x.2 0 2 = y.2.1 ∧ x.2 0 3 = y.2.2.1) ∧ FdI c y.2.2.2.1 ∧ KF q0 y.2.2.2.2 ∧ ∀ j : Nat, (j = 0 ∨ 4 ≤ j) → x.2 0 j = dd0 0 j
theorem ti_areRight2 (c q : am_F) : (k_areRight c q).2 = k_goes c q := by
  unfold k_areRight
  dsimp only
  rw [ti_elim2]
theorem LwI_eq {r ga dd dd' : am_F} (h : LwI r ga dd) (e : ∀ j : Nat, (j = 0 ∨ 4 ≤ j) → dd' 0 j = dd 0 j) : LwI r ga dd' := by
  unfold LwI
  rw [e 4 (Or.inr (by decide)), e 5 (Or.inr (by decide)), e 6 (Or.inr (by decide))]
  exact h
theorem ti_seek71 {h c r ga dd0 q0 : am_F} {hb : Nat} {s y0 x0 m : Int} (hC : HC h c) (hTb : TLb h c) (hFs : TFs h c) (hz : FzI h) (hd : c 0 58 = -1 ∧ c 0 61 = -1) (hg : GC ga c) (hn : CnR h r m) (hm : c_lastStep ga < m) (hL : LwI r ga dd0) (hF : RnF r) (hs : 0 ≤ s ∧ s < 40) (hx : 0 ≤ x0 ∧ x0 < h 0 0) (hy : 0 ≤ y0 ∧ y0 < h 0 1) (h4 : s ≤ dd0 0 4) {x : am_F × am_F} {y : Int × Int × Int × am_F × am_F} (hR : FnR c dd0 q0 x y) : FnR c dd0 q0 (g_c_seek_71 hb h r ga s y0 x0 x) (g_k_found_64 s y0 x0 y) := by
  obtain ⟨tt, dd⟩ := x
  obtain ⟨mm, stp, on, cc, q⟩ := y
  obtain ⟨r1, ⟨r2, r3, r4⟩, r5, r6, r7⟩ := hR
  dsimp only at r1 r2 r3 r4 r5 r6 r7
  obtain ⟨hC', hTb', hFs'⟩ := ti_dcC (t := s) (w := x0 + 9 * y0) hC hTb hFs
  obtain ⟨f1, f2⟩ := to_fits (hb := hb) (q := q) hC hTb hFs hz hd hg hn hm (LwI_eq hL r7) hF r1 hs hx hy (by rw [r7 4 (Or.inr (by decide))]; exact h4)
  have e1 : am_put (am_put cc 0 58 s) 0 59 (x0 + 9 * y0) = ti_dc c s (x0 + 9 * y0) := FdI_dc r5
  have e2 := ti_areRight2 (ti_dc c s (x0 + 9 * y0)) q
  unfold g_c_seek_71 g_k_found_64
  dsimp only
  rw [e1, e2, f1]
  refine ⟨f2, ?_, FdI_ofdc, KF_t r6 (KF_goes hC'.2.1), ?_⟩
  · by_cases g : (k_areRight (ti_dc c s (x0 + 9 * y0)) q).1 = 0
    · simp only [if_pos g]
      exact ⟨r2, r3, r4⟩
    · simp only [if_neg g]
      unfold c_keep
      try dsimp only
      by_cases g2 : dd 0 1 = 0
      · have g3 : mm = 0 := by omega
        subst g3
        rw [if_pos g2, if_pos rfl, if_pos rfl]
        refine ⟨?_, ?_, ?_⟩
        · rw [am_put_s, am_put_i (by decide), am_put_i (by decide), g2]
        · rw [am_put_i (by decide), am_put_i (by decide), am_put_s]
        · rw [am_put_i (by decide), am_put_s]
      · have g3 : ¬ mm = 0 := by omega
        rw [if_neg g2, if_neg g3, if_neg g3]
        refine ⟨?_, ?_, ?_⟩
        · rw [am_put_s, r2]
        · rw [am_put_i (by decide)]; exact r3
        · rw [am_put_i (by decide)]; exact r4
  · intro j hj
    dsimp only
    split
    · exact r7 j hj
    · unfold c_keep
      try dsimp only
      rw [am_put_i (by omega)]
      split
      · rw [am_put_i (by omega), am_put_i (by omega)]; exact r7 j hj
      · exact r7 j hj
theorem ti_seek40 {h c c0 r ga dd0 q0 : am_F} {hb : Nat} {s m : Int} (hC : HC h c) (hTb : TLb h c) (hFs : TFs h c) (hz : FzI h) (hd : c 0 58 = -1 ∧ c 0 61 = -1) (hg : GC ga c) (hn : CnR h r m) (hm : c_lastStep ga < m) (hL : LwI r ga dd0) (hF : RnF r) (h0 : FdI c c0) (hs : 0 ≤ s ∧ s < 40) (h4 : s ≤ dd0 0 4) {x : am_F × am_F} {y : Int × Int × Int × am_F × am_F} (hR : FnR c dd0 q0 x y) : FnR c dd0 q0 (am_fold (g_c_seek_56 hb h r ga s) 0 (h 0 1).toNat x) (g_k_found_40 c0 s y) := by
  have e40 : c0 4 0 = h 0 0 := (congrFun (h0.1 4 (by decide)) 0).trans hC.2.2.1.1.1.symm
  have e41 : c0 4 1 = h 0 1 := (congrFun (h0.1 4 (by decide)) 1).trans hC.2.2.1.1.2.symm
  have e : g_k_found_40 c0 s y = am_fold (g_k_found_50 c0 s) 0 (h 0 1).toNat y := by rw [← e41]; rfl
  rw [e]
  refine ti_rel0 (R := FnR c dd0 q0) _ 0 x y hR fun y0 x y a1 a2 hR => ?_
  have e5 : g_k_found_50 c0 s y0 y = am_fold (g_k_found_64 s y0) 0 (h 0 0).toNat y := by rw [← e40]; rfl
  have e6 : g_c_seek_56 hb h r ga s y0 x = am_fold (g_c_seek_71 hb h r ga s y0) 0 (h 0 0).toNat x := rfl
  rw [e5, e6]
  exact ti_rel0 (R := FnR c dd0 q0) _ 0 x y hR fun x0 x y b1 b2 hR => ti_seek71 hC hTb hFs hz hd hg hn hm hL hF hs ⟨b1, by omega⟩ ⟨a1, by omega⟩ h4 hR
theorem ti_seekOff {h c c0 r ga dd0 q0 : am_F} {s m : Int} (hC : HC h c) (hTb : TLb h c) (hFs : TFs h c) (hz : FzI h) (hd : c 0 58 = -1 ∧ c 0 61 = -1) (hg : GC ga c) (hn : CnR h r m) (hm : c_lastStep ga < m) (hL : LwI r ga dd0) (h0 : FdI c c0) (hs : 0 ≤ s ∧ s < 40) (h4 : dd0 0 4 < s) {x : am_F × am_F} {y : Int × Int × Int × am_F × am_F} (hR : FnR c dd0 q0 x y) : FnR c dd0 q0 x (g_k_found_40 c0 s y) := by
  have e : g_k_found_40 c0 s y = am_fold (g_k_found_50 c0 s) 0 (c0 4 1).toNat y := rfl
  rw [e]
  refine ti_inv0 (P := FnR c dd0 q0 x) _ 0 y hR fun y0 y a1 a2 hR => ?_
  have e5 : g_k_found_50 c0 s y0 y = am_fold (g_k_found_64 s y0) 0 (c0 4 0).toNat y := rfl
  rw [e5]
  refine ti_inv0 (P := FnR c dd0 q0 x) _ 0 y hR fun x0 y b1 b2 hR => ?_
  obtain ⟨mm, stp, on, cc, q⟩ := y
  obtain ⟨r1, r2, r5, r6, r7⟩ := hR
  dsimp only at r1 r2 r5 r6 r7
  obtain ⟨hC', hTb', hFs'⟩ := ti_dcC (t := s) (w := x0 + 9 * y0) hC hTb hFs
  have e1 : am_put (am_put cc 0 58 s) 0 59 (x0 + 9 * y0) = ti_dc c s (x0 + 9 * y0) := FdI_dc r5
  have e2 := ti_areRight2 (ti_dc c s (x0 + 9 * y0)) q
  have e3 := ti_noFit (q := q) (w := x0 + 9 * y0) hC hTb hFs hz hd hg hn hm hL hs h4
  unfold g_k_found_64
  dsimp only
  rw [e1, e2, if_pos e3, if_pos e3, if_pos e3]
  exact ⟨r1, r2, FdI_ofdc, KF_t r6 (KF_goes hC'.2.1), r7⟩
theorem ti_seek37 {h c c0 r ga dd0 q0 : am_F} {hb : Nat} {m : Int} (hC : HC h c) (hTb : TLb h c) (hFs : TFs h c) (hz : FzI h) (hd : c 0 58 = -1 ∧ c 0 61 = -1) (hg : GC ga c) (hn : CnR h r m) (hm : c_lastStep ga < m) (hL : LwI r ga dd0) (hF : RnF r) (h0 : FdI c c0) : ∀ (n : Nat) (s : Int) (tt dd : am_F) (y : Int × Int × Int × am_F × am_F), 40 - s < n → 0 ≤ s ∧ s ≤ 40 → FnR c dd0 q0 (tt, dd) y → FnR c dd0 q0 ((am_wh (w_c_seek_37 hb h r ga) n (s, tt, dd)).2.1, (am_wh (w_c_seek_37 hb h r ga) n (s, tt, dd)).2.2) (am_fold (g_k_found_40 c0) s (40 - s).toNat y) := by
  intro n
  induction n with
  | zero => intro s tt dd y a1 a2; omega
  | succ n ih =>
    intro s tt dd y a1 a2 hR
    have hw : w_c_seek_37 hb h r ga (s, tt, dd) = if 40 ≤ s then .inr (s, tt, dd) else if dd 0 4 < s then .inr (s, tt, dd) else .inl (s + 1, am_fold (g_c_seek_56 hb h r ga s) 0 (h 0 1).toNat (tt, dd)) := rfl
    by_cases p1 : 40 ≤ s
    · rw [if_pos p1] at hw
      rw [am_wh_r hw, show (40 - s).toNat = 0 by omega]
      exact hR
    rw [if_neg p1] at hw
    have h4 : dd 0 4 = dd0 0 4 := hR.2.2.2.2 4 (Or.inr (by decide))
    by_cases p2 : dd 0 4 < s
    · rw [if_pos p2] at hw
      rw [am_wh_r hw]
      exact ti_inv0 (P := FnR c dd0 q0 (tt, dd)) _ s y hR fun j y b1 b2 hR => ti_seekOff hC hTb hFs hz hd hg hn hm hL h0 ⟨by omega, by omega⟩ (by omega) hR
    · rw [if_neg p2] at hw
      rw [am_wh_l hw, show (40 - s).toNat = (40 - (s + 1)).toNat + 1 by omega, am_fold_s]
      exact ih (s + 1) _ _ _ (by omega) (by omega) (ti_seek40 (hb := hb) hC hTb hFs hz hd hg hn hm hL hF h0 (by omega) (by omega) hR)
/-- the duels kept are those that the model would find -/
def DdI (h ga dd : am_F) : Prop := dd 0 0 = 0 ∨ ∀ c, HC h c → TLb h c → TFs h c → (c 0 58 = -1 ∧ c 0 61 = -1) → GC ga c → ∀ c0 q0, FdI c c0 → dd 0 1 = (am_fold (g_k_found_40 c0) 0 40 (0, (-1), (-1), c0, q0)).1 ∧ dd 0 2 = (am_fold (g_k_found_40 c0) 0 40 (0, (-1), (-1), c0, q0)).2.1 ∧ dd 0 3 = (am_fold (g_k_found_40 c0) 0 40 (0, (-1), (-1), c0, q0)).2.2.1
theorem to_seek {h c r tt dd ga : am_F} {hb : Nat} (hC : HC h c) (hTb : TLb h c) (hFs : TFs h c) (hz : FzI h) (hB : BaseI h c r) (hg : GC ga c) (ht : TrI tt) (hD : DdI h ga dd) : BaseI h c (c_seek hb h r tt dd ga).1 ∧ TrI (c_seek hb h r tt dd ga).2.1 ∧ DdI h ga (c_seek hb h r tt dd ga).2.2 ∧ (c_seek hb h r tt dd ga).2.2 0 0 ≠ 0 := by
  unfold c_seek
  by_cases g : dd 0 0 = 0
  · rw [if_pos g]
    dsimp only
    obtain ⟨l1, l2⟩ := ti_lastStep hg.1
    obtain ⟨u1, u2, u3⟩ := ti_look (h := h) (r := r) (dd := am_put (am_put (am_put (am_put dd 0 0 1) 0 1 0) 0 2 (-1)) 0 3 (-1)) hg.1
    obtain ⟨b1, k, b2, b3⟩ := Base_upTo hC.1.1 hC.2.2.1 hB (st := c_lastStep ga) l1
    rw [← u1] at b1 b3 u2
    generalize c_lookWithout h r (am_put (am_put (am_put (am_put dd 0 0 1) 0 1 0) 0 2 (-1)) 0 3 (-1)) ga = u at b1 b3 u2 u3
    have hn := CnR_of hC hTb hFs hz hB.1 b3
    have w0 : u.2 0 0 = 1 := u3 0 (by decide)
    have w1 : u.2 0 1 = 0 := u3 1 (by decide)
    have w2 : u.2 0 2 = -1 := u3 2 (by decide)
    have w3 : u.2 0 3 = -1 := u3 3 (by decide)
    have key : ∀ c, HC h c → TLb h c → TFs h c → (c 0 58 = -1 ∧ c 0 61 = -1) → GC ga c → ∀ c0 q0, FdI c c0 → FnR c u.2 q0 ((am_wh (w_c_seek_37 hb h u.1 ga) 41 (0, tt, u.2)).2.1, (am_wh (w_c_seek_37 hb h u.1 ga) 41 (0, tt, u.2)).2.2) (am_fold (g_k_found_40 c0) 0 40 (0, (-1), (-1), c0, q0)) := fun c hC hTb hFs hd hg c0 q0 h0 => ti_seek37 hC hTb hFs hz hd hg hn b2 u2 b3.2.2.1 h0 41 0 tt u.2 (0, (-1), (-1), c0, q0) (by omega) (by omega) ⟨ht, ⟨w1, w2, w3⟩, h0, KF_r, fun j hj => rfl⟩
    have h1 := key c hC hTb hFs hB.1 hg c (fun _ _ => 0) FdI_r
    refine ⟨b1, h1.1, Or.inr fun c hC hTb hFs hd hg c0 q0 h0 => (key c hC hTb hFs hd hg c0 q0 h0).2.1, ?_⟩
    have := h1.2.2.2.2 0 (Or.inl rfl)
    dsimp only at this
    rw [this, w0]
    decide
  · rw [if_neg g]
    exact ⟨hB, ht, hD, g⟩
