/-! THE TIE: whether a duel fits -/
theorem ti_areIn {tt ga : am_F} {t : Int} : (c_areRightIn tt ga t = 0 → ∃ i : Int, (0 ≤ i ∧ i < ga 0 2) ∧ f_at (ga 0 2) (ga 1) i 0 = t ∧ c_isRight64 tt ga i = 0) ∧ (c_areRightIn tt ga t ≠ 0 → ∀ i : Int, 0 ≤ i → i < ga 0 2 → f_at (ga 0 2) (ga 1) i 0 = t → c_isRight64 tt ga i ≠ 0) := by
  have hp : ∀ i, p_c_areRightIn_2 tt ga t i = if f_at (ga 0 2) (ga 1) i 0 = t then (if c_isRight64 tt ga i = 0 then some 0 else none) else none := fun i => rfl
  have hn := ti_find_none (p := p_c_areRightIn_2 tt ga t) (ga 0 2).toNat 0
  constructor
  · intro h
    refine Classical.byContradiction fun g => ?_
    have h8 : am_find (p_c_areRightIn_2 tt ga t) 0 (ga 0 2).toNat = none := hn.2 fun i a1 a2 => by
      rw [hp]
      split
      · rename_i g1
        split
        · rename_i g2
          exact absurd ⟨i, ⟨a1, by omega⟩, g1, g2⟩ g
        · rfl
      · rfl
    unfold c_areRightIn at h
    rw [h8] at h
    exact absurd h (by decide)
  · intro h i a1 a2 a3 a4
    cases e : am_find (p_c_areRightIn_2 tt ga t) 0 (ga 0 2).toNat with
    | none =>
      have := hn.1 e i a1 (by omega)
      rw [hp, if_pos a3, if_pos a4] at this
      cases this
    | some v =>
      have q := am_find_P (P := fun v => v = 0) (fun i v hv => by
        rw [hp] at hv
        split at hv
        · split at hv
          · exact (Option.some.inj hv).symm
          · cases hv
        · cases hv) _ _ e
      unfold c_areRightIn at h
      rw [e] at h
      exact h q
theorem ti_fitAt {c dd G D : am_F} {t : Int} (ht : -1 ≤ t) (hW : ∀ i : Int, 0 ≤ i → i < c 0 31 → GVal c G i ≠ c (146 + i.toNat) 2 → c (146 + i.toNat) 1 ≤ dd 0 5) (hE : dd 0 5 = -1 ∨ ∃ i : Int, (0 ≤ i ∧ i < c 0 31) ∧ GVal c G i ≠ c (146 + i.toNat) 2 ∧ c (146 + i.toNat) 1 = dd 0 5) (h1 : ∀ i : Int, 0 ≤ i → i < c 0 31 → c (146 + i.toNat) 1 ≤ t → GVal c D i = c (146 + i.toNat) 2) (h2 : ∀ i : Int, 0 ≤ i → i < c 0 31 → t < c (146 + i.toNat) 1 → GVal c D i = GVal c G i) : (∀ i : Int, 0 ≤ i → i < c 0 31 → GVal c D i = c (146 + i.toNat) 2) ↔ dd 0 5 ≤ t := by
  constructor
  · intro h
    rcases hE with e | ⟨i, a, e1, e2⟩
    · omega
    · refine Classical.byContradiction fun g => ?_
      have e3 := h2 i a.1 a.2 (by omega)
      exact e1 (e3.symm.trans (h i a.1 a.2))
  · intro h i a1 a2
    by_cases g : c (146 + i.toNat) 1 ≤ t
    · exact h1 i a1 a2 g
    · rw [h2 i a1 a2 (by omega)]
      refine Classical.byContradiction fun g2 => ?_
      have := hW i a1 a2 g2
      omega
theorem ti_loop {h c r dd ga q : am_F} {s x0 y0 m : Int} (hC : HC h c) (hTb : TLb h c) (hFs : TFs h c) (hz : FzI h) (hd : c 0 58 = -1 ∧ c 0 61 = -1) (hg : GC ga c) (h6 : dd 0 6 = c_lastStep ga) (hn : CnR h r m) (hm : c_lastStep ga < m) (hs : 0 ≤ s ∧ s < 40)
    (hW : ∀ i : Int, 0 ≤ i → i < c 0 31 → GVal c (k_goes c (fun _ _ => 0)) i ≠ c (146 + i.toNat) 2 → c (146 + i.toNat) 1 ≤ dd 0 5) (hE : dd 0 5 = -1 ∨ ∃ i : Int, (0 ≤ i ∧ i < c 0 31) ∧ GVal c (k_goes c (fun _ _ => 0)) i ≠ c (146 + i.toNat) 2 ∧ c (146 + i.toNat) 1 = dd 0 5) (d0 : Int × am_F) : ∀ (n : Nat) (t : Int) (tt : am_F) (k : Int), 40 - t < n → s ≤ t ∧ t ≤ 40 → (t ≤ k ∧ k ≤ t + 1 ∧ s + 1 ≤ k) → RunAt False h (ti_dc c s (x0 + 9 * y0)) (fun _ => True) (s + 1) k tt → OutZ h k tt → RnZ tt → (∀ i : Int, 0 ≤ i → i < c 0 31 → c (146 + i.toNat) 1 < t → GVal c (k_goes (ti_dc c s (x0 + 9 * y0)) q) i = c (146 + i.toNat) 2) → (am_wr (w_c_fits_50 h r dd ga) d0 n (t, tt)).1 = (k_areRight (ti_dc c s (x0 + 9 * y0)) q).1 ∧ TrI (am_wr (w_c_fits_50 h r dd ga) d0 n (t, tt)).2 := by
  obtain ⟨hC', hTb', hFs'⟩ := ti_dcC (t := s) (w := x0 + 9 * y0) hC hTb hFs
  obtain ⟨v1, v2, v3, v4, -⟩ := id hC.1.1.1
  obtain ⟨l1, l2⟩ := ti_lastStep hg.1
  have g1 := hg.2.1
  have hA : (k_areRight (ti_dc c s (x0 + 9 * y0)) q).1 = 1 ↔ ∀ i : Int, 0 ≤ i → i < c 0 31 → GVal c (k_goes (ti_dc c s (x0 + 9 * y0)) q) i = c (146 + i.toNat) 2 := ti_areRight rfl (fun k hk => by unfold ti_dc; rw [am_put_kr (by omega), am_put_kr (by omega)])
  have hb := k_areRight_b (ti_dc c s (x0 + 9 * y0)) q
  have hst : ∀ i : Int, 0 ≤ i → i < c 0 31 → f_at (ga 0 2) (ga 1) i 0 = c (146 + i.toNat) 1 ∧ (0 ≤ c (146 + i.toNat) 1 ∧ c (146 + i.toNat) 1 ≤ 39) ∧ f_at (ga 0 2) (ga 1) i 2 = c (146 + i.toNat) 2 ∧ c (146 + i.toNat) 1 ≤ c_lastStep ga := fun i a1 a2 => by
    obtain ⟨t1, t2, t3, -⟩ := hg.2.2 i a1 a2
    have := l2 i a1 (by omega)
    exact ⟨t1, t2, t3, by omega⟩
  intro n
  induction n with
  | zero => intro t tt k a1 a2; omega
  | succ n ih =>
    intro t tt k a1 a2 a3 hR hZ hRZ hr
    have hw : w_c_fits_50 h r dd ga (t, tt) = if dd 0 6 < t then .inr (1, tt) else (if 40 ≤ t then .inr (1, tt) else (if c_areRightIn (f_upTo h tt t) ga t = 0 then .inr (0, f_upTo h tt t) else (if f_stands (f_upTo h tt t) r h t = 0 then .inl (t + 1, f_upTo h tt t) else .inr ((if t < dd 0 5 then 0 else 1), f_upTo h tt t)))) := rfl
    by_cases p1 : dd 0 6 < t
    · rw [if_pos p1] at hw
      rw [am_wr_r hw]
      exact ⟨(hA.2 fun i b1 b2 => hr i b1 b2 (by have := (hst i b1 b2).2.2.2; omega)).symm, RunAt_I hR, hRZ⟩
    rw [if_neg p1] at hw
    by_cases p2 : 40 ≤ t
    · rw [if_pos p2] at hw
      rw [am_wr_r hw]
      exact ⟨(hA.2 fun i b1 b2 => hr i b1 b2 (by have := (hst i b1 b2).2.1; omega)).symm, RunAt_I hR, hRZ⟩
    rw [if_neg p2] at hw
    have R69 := RunAt_upTo (st := t) hC'.1.1 hC'.2.2.1 hR (by omega) (by show s < k; omega)
    have Z69 := f_upTo_Z (st := t) hC'.1.1.1 hC'.2.2.1 hR.2.1 (by omega) (by omega) hZ
    have W69 := RnZ_upTo (st := t) hC'.1.1 hRZ
    rw [show (if k ≤ t then t + 1 else k) = t + 1 by split <;> omega] at R69 Z69
    generalize hy : f_upTo h tt t = y at hw R69 Z69 W69
    have hI : TrI y := ⟨RunAt_I R69, W69⟩
    have hv : ∀ i : Int, 0 ≤ i → i < c 0 31 → c (146 + i.toNat) 1 = t → c_isRight64 y ga i = if GVal c (k_goes (ti_dc c s (x0 + 9 * y0)) q) i = c (146 + i.toNat) 2 then 1 else 0 := fun i b1 b2 b3 => by
      have := ti_gaugeOn (q := q) hC' R69 hC.2.1 hg.2 ⟨b1, b2⟩ (by omega)
      unfold c_isRight64
      dsimp only
      rw [this, (hst i b1 b2).2.2.1]
    obtain ⟨i1, i2⟩ := ti_areIn (tt := y) (ga := ga) (t := t)
    by_cases p3 : c_areRightIn y ga t = 0
    · rw [if_pos p3] at hw
      rw [am_wr_r hw]
      obtain ⟨i, b1, b2, b3⟩ := i1 p3
      have b4 : i < c 0 31 := by omega
      rw [hv i b1.1 b4 (by have := (hst i b1.1 b4).1; omega)] at b3
      refine ⟨?_, hI⟩
      rcases hb with e | e
      · exact e.symm
      · rw [if_pos (hA.1 e i b1.1 b4)] at b3
        exact absurd b3 (by decide)
    rw [if_neg p3] at hw
    have hr2 : ∀ i : Int, 0 ≤ i → i < c 0 31 → c (146 + i.toNat) 1 ≤ t → GVal c (k_goes (ti_dc c s (x0 + 9 * y0)) q) i = c (146 + i.toNat) 2 := fun i b1 b2 b3 => by
      by_cases e : c (146 + i.toNat) 1 = t
      · have e1 := i2 p3 i b1 (by omega) (by have := (hst i b1 b2).1; omega)
        rw [hv i b1 b2 e] at e1
        refine Classical.byContradiction fun g => ?_
        rw [if_neg g] at e1
        exact e1 rfl
      · exact hr i b1 b2 (by omega)
    by_cases p4 : f_stands y r h t = 0
    · rw [if_pos p4] at hw
      rw [am_wr_l hw]
      exact ih (t + 1) y (t + 1) (by omega) (by omega) (by omega) R69 Z69 W69 (fun i b1 b2 b3 => hr2 i b1 b2 (by omega))
    · rw [if_neg p4] at hw
      rw [am_wr_r hw]
      refine ⟨?_, hI⟩
      have hrow := ti_stands (h := h) hC.1.1.1 (by omega) p4
      have ek : (((t + 1).toNat : Nat) : Int) = t + 1 := by omega
      have Zc := (ti_canRun hC hTb hFs hz hd.2 (t + 1).toNat (by omega) (Or.inl hd.1)).2
      rw [ek] at Zc
      have e9 : ∀ j : Int, (t + 1) * 90 ≤ j → j < (t + 1) * 90 + 90 → ti_can h (t + 1).toNat 1 j.toNat = y 1 j.toNat := fun j b1 b2 => by
        have ej : j = (t + 1) * 90 + ((j - (t + 1) * 90) % 10 + 10 * ((j - (t + 1) * 90) / 10)) := by omega
        generalize hxx : (j - (t + 1) * 90) % 10 = x at ej
        generalize hyy : (j - (t + 1) * 90) / 10 = y9 at ej
        have c1 : 0 ≤ x ∧ x < 10 := by omega
        have c2 : 0 ≤ y9 ∧ y9 < 9 := by omega
        by_cases g : x < h 0 0 ∧ y9 < h 0 1
        · have e1 := hrow x y9 c1.1 g.1 c2.1 g.2
          rw [← ej] at e1
          rw [e1]
          exact (hn (t + 1).toNat (by omega) j (by omega) (by omega)).symm
        · have e1 := Zc x y9 c1.1 c1.2 c2.1 c2.2 (by omega)
          have e2 := Z69 x y9 c1.1 c1.2 c2.1 c2.2 (by omega)
          rw [← ej] at e1 e2
          rw [e1, e2]
      have hf := ti_fitAt (dd := dd) (t := t) (c := c) (G := k_goes c (fun _ _ => 0)) (D := k_goes (ti_dc c s (x0 + 9 * y0)) q) (by omega) hW hE hr2 (fun i b1 b2 b3 => by
        obtain ⟨t1, t2, t3, x, y9, t4, t5, t6, t7⟩ := hg.2.2 i b1 b2
        have w1 := hC.2.1.1
        have w2 := hC.2.1.2.1
        have h9 := ti_duelAfter (k := (t + 1).toNat) (p := c (146 + i.toNat) 1 + 1) (w := x0 + 9 * y0) hC hTb hFs hz hd hs.1 (by omega) (by rw [ek]; exact R69) (by rw [ek]; exact e9) (by omega)
        have h8 := h9 q x y9 ⟨t4.1, by omega⟩ ⟨t5.1, by omega⟩
        unfold GVal
        rw [t7]
        exact h8)
      rw [hf] at hA
      split
      · rcases hb with e | e
        · exact e.symm
        · have := hA.1 e; omega
      · exact (hA.2 (by omega)).symm
