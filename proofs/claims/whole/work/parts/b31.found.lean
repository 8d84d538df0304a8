/-! THE TIE: the duels that fit -/
theorem ti_gaugeCan {h c r ga q : am_F} {m i : Int} (hC : HC h c) (hTb : TLb h c) (hFs : TFs h c) (hz : FzI h) (hd : c 0 58 = -1 ∧ c 0 61 = -1) (hg : GC ga c) (hn : CnR h r m) (hm : c_lastStep ga < m) (hi : 0 ≤ i ∧ i < c 0 31) : c_isRight54 r ga i = if GVal c (k_goes c q) i = c (146 + i.toNat) 2 then 1 else 0 := by
  obtain ⟨t1, t2, t3, x, y, t4, t5, t6, t7⟩ := hg.2.2 i hi.1 hi.2
  have v1 := hC.2.1.1
  have v2 := hC.2.1.2.1
  have g1 := hg.2.1
  have l2 := (ti_lastStep hg.1).2 i hi.1 (by omega)
  have e : ((c (146 + i.toNat) 1 + 1).toNat : Int) = c (146 + i.toNat) 1 + 1 := by omega
  have R := (ti_canRun hC hTb hFs hz hd.2 (c (146 + i.toNat) 1 + 1).toNat (by omega) (Or.inl hd.1)).1
  have h9 := ti_gaugeOn (q := q) hC R hC.2.1 hg.2 hi (by omega)
  have ef : f_fogOn r (f_at (ga 0 2) (ga 1) i 1) (f_at (ga 0 2) (ga 1) i 0) = f_fogOn (ti_can h (c (146 + i.toNat) 1 + 1).toNat) (f_at (ga 0 2) (ga 1) i 1) (f_at (ga 0 2) (ga 1) i 0) := by
    rw [t6, t1]
    unfold f_fogOn
    rw [if_pos ⟨by omega, by omega, by omega⟩, if_pos ⟨by omega, by omega, by omega⟩]
    exact hn _ (by omega) _ (by omega) (by omega)
  unfold c_isRight54
  dsimp only
  rw [ef, h9, t3]
theorem to_fits {h c r tt dd ga q : am_F} {hb : Nat} {s x0 y0 m : Int} (hC : HC h c) (hTb : TLb h c) (hFs : TFs h c) (hz : FzI h) (hd : c 0 58 = -1 ∧ c 0 61 = -1) (hg : GC ga c) (hn : CnR h r m) (hm : c_lastStep ga < m) (hL : LwI r ga dd) (hF : RnF r) (ht : TrI tt) (hs : 0 ≤ s ∧ s < 40) (hx : 0 ≤ x0 ∧ x0 < h 0 0) (hy : 0 ≤ y0 ∧ y0 < h 0 1) (h4 : s ≤ dd 0 4) : (c_fits hb h r tt dd ga s (x0 + 10 * y0)).1 = (k_areRight (ti_dc c s (x0 + 9 * y0)) q).1 ∧ TrI (c_fits hb h r tt dd ga s (x0 + 10 * y0)).2 := by
  obtain ⟨hC', hTb', hFs'⟩ := ti_dcC (t := s) (w := x0 + 9 * y0) hC hTb hFs
  obtain ⟨v1, v2, v3, v4, -⟩ := id hC.1.1.1
  have g1 := hg.2.1
  obtain ⟨k1, k2, k3, k4⟩ := hL
  have hst : ∀ i : Int, 0 ≤ i → i < c 0 31 → f_at (ga 0 2) (ga 1) i 0 = c (146 + i.toNat) 1 ∧ (0 ≤ c (146 + i.toNat) 1 ∧ c (146 + i.toNat) 1 ≤ 39) ∧ c (146 + i.toNat) 1 ≤ c_lastStep ga := fun i a1 a2 => by
    obtain ⟨t1, t2, t3, -⟩ := hg.2.2 i a1 a2
    have := (ti_lastStep hg.1).2 i a1 (by omega)
    exact ⟨t1, t2, by omega⟩
  have hwr : ∀ i : Int, 0 ≤ i → i < c 0 31 → GVal c (k_goes c (fun _ _ => 0)) i ≠ c (146 + i.toNat) 2 → c_isRight54 r ga i = 0 := fun i a1 a2 a3 => by
    rw [ti_gaugeCan (q := fun _ _ => 0) hC hTb hFs hz hd hg hn hm ⟨a1, a2⟩, if_neg a3]
  have hwr2 : ∀ i : Int, 0 ≤ i → i < c 0 31 → c_isRight54 r ga i = 0 → GVal c (k_goes c (fun _ _ => 0)) i ≠ c (146 + i.toNat) 2 := fun i a1 a2 a3 a4 => by
    rw [ti_gaugeCan (q := fun _ _ => 0) hC hTb hFs hz hd hg hn hm ⟨a1, a2⟩, if_pos a4] at a3
    exact absurd a3 (by decide)
  have hW : ∀ i : Int, 0 ≤ i → i < c 0 31 → GVal c (k_goes c (fun _ _ => 0)) i ≠ c (146 + i.toNat) 2 → c (146 + i.toNat) 1 ≤ dd 0 5 := fun i a1 a2 a3 => by
    have := (k2 i a1 (by omega) (hwr i a1 a2 a3)).2
    have := (hst i a1 a2).1
    omega
  have hE : dd 0 5 = -1 ∨ ∃ i : Int, (0 ≤ i ∧ i < c 0 31) ∧ GVal c (k_goes c (fun _ _ => 0)) i ≠ c (146 + i.toNat) 2 ∧ c (146 + i.toNat) 1 = dd 0 5 := k4.imp id fun ⟨i, a1, a2, a3⟩ => ⟨i, ⟨a1.1, by omega⟩, hwr2 i a1.1 (by omega) a2, by have := (hst i a1.1 (by omega)).1; omega⟩
  have hA : (k_areRight (ti_dc c s (x0 + 9 * y0)) q).1 = 1 ↔ ∀ i : Int, 0 ≤ i → i < c 0 31 → GVal c (k_goes (ti_dc c s (x0 + 9 * y0)) q) i = c (146 + i.toNat) 2 := ti_areRight rfl (fun k hk => by unfold ti_dc; rw [am_put_kr (by omega), am_put_kr (by omega)])
  have hb9 := k_areRight_b (ti_dc c s (x0 + 9 * y0)) q
  have hsame : ∀ i : Int, 0 ≤ i → i < c 0 31 → SameAt c (ti_dc c s (x0 + 9 * y0)) (c (146 + i.toNat) 1 + 1) → GVal c (k_goes (ti_dc c s (x0 + 9 * y0)) q) i = GVal c (k_goes c (fun _ _ => 0)) i := fun i a1 a2 hS => by
    obtain ⟨t1, t2, t3, x, y, t4, t5, t6, t7⟩ := hg.2.2 i a1 a2
    have w1 := hC.2.1.1
    have w2 := hC.2.1.2.1
    have h8 := hS q x y ⟨t4.1, by omega⟩ ⟨t5.1, by omega⟩
    unfold GVal
    rw [t7]
    exact h8
  have hB : ∀ i : Int, 0 ≤ i → i < c 0 31 → c (146 + i.toNat) 1 < s → GVal c (k_goes (ti_dc c s (x0 + 9 * y0)) q) i = c (146 + i.toNat) 2 := fun i a1 a2 a3 => by
    have hi := hst i a1 a2
    rw [hsame i a1 a2 (ti_duelBefore hC hTb hFs hz hd hs (by omega))]
    refine Classical.byContradiction fun g => ?_
    have := (k2 i a1 (by omega) (hwr i a1 a2 g)).1
    omega
  unfold c_fits
  dsimp only
  by_cases p1 : s ≤ dd 0 6
  · rw [if_pos p1]
    have hT := ti_trial (hb := hb) (x0 := x0) (y0 := y0) hC hTb hFs hz hd (fun p hp => hn p (by omega)) hF ht hs hx hy
    by_cases p2 : f_fogOn r (x0 + 10 * y0) s = 0
    · rw [if_pos p2]
      refine ⟨?_, ht⟩
      obtain ⟨d1, d3, d4, dr, ds, dk⟩ := f_duelT_1 (hb := hb) (r := tt) (r2 := r) hs (x0 := x0) (y0 := y0) ⟨hx.1, by omega⟩ ⟨hy.1, by omega⟩
      have ek : (((s + 1).toNat : Nat) : Int) = s + 1 := by omega
      have e9 : ∀ j : Int, (s + 1) * 90 ≤ j → j < (s + 1) * 90 + 90 → ti_can h (s + 1).toNat 1 j.toNat = f_duelT hb tt r s (x0 + 10 * y0) 1 j.toNat := fun j b1 b2 => by
        rw [dr j b1 b2]
        have e1 := hn (s + 1).toNat (by omega) j (by omega) (by omega)
        by_cases g : j = (s + 1) * 90 + (x0 + 10 * y0)
        · rw [if_pos g, ← e1, g]
          unfold f_fogOn at p2
          rwa [if_pos ⟨by omega, by omega, by omega⟩] at p2
        · rw [if_neg g, e1]
      have hf := ti_fitAt (dd := dd) (t := s - 1) (c := c) (G := k_goes c (fun _ _ => 0)) (D := k_goes (ti_dc c s (x0 + 9 * y0)) q) (by omega) hW hE (fun i b1 b2 b3 => hB i b1 b2 (by omega)) (fun i b1 b2 b3 => hsame i b1 b2 (ti_duelAfter (k := (s + 1).toNat) (p := c (146 + i.toNat) 1 + 1) (w := x0 + 9 * y0) hC hTb hFs hz hd hs.1 (by omega) (by rw [ek]; exact hT.1) (by rw [ek]; exact e9) (by have := hst i b1 b2; omega)))
      rw [hf] at hA
      split
      · rcases hb9 with e | e
        · exact e.symm
        · have := hA.1 e; omega
      · exact (hA.2 (by omega)).symm
    · rw [if_neg p2]
      exact ti_loop hC hTb hFs hz hd hg k1 hn hm hs hW hE _ 41 s _ (s + 1) (by omega) (by omega) (by omega) hT.1 hT.2.1 hT.2.2 hB
  · rw [if_neg p1]
    exact ⟨(hA.2 fun i a1 a2 => hB i a1 a2 (by have := hst i a1 a2; omega)).symm, ht⟩
/-- behind the first wrong gauge no duel is right -/
theorem ti_noFit {h c r dd ga q : am_F} {s w m : Int} (hC : HC h c) (hTb : TLb h c) (hFs : TFs h c) (hz : FzI h) (hd : c 0 58 = -1 ∧ c 0 61 = -1) (hg : GC ga c) (hn : CnR h r m) (hm : c_lastStep ga < m) (hL : LwI r ga dd) (hs : 0 ≤ s ∧ s < 40) (h4 : dd 0 4 < s) : (k_areRight (ti_dc c s w) q).1 = 0 := by
  obtain ⟨k1, k2, k3, k4⟩ := hL
  have g1 := hg.2.1
  rcases k_areRight_b (ti_dc c s w) q with e | e
  · exact e
  · exfalso
    have hA : (k_areRight (ti_dc c s w) q).1 = 1 ↔ ∀ i : Int, 0 ≤ i → i < c 0 31 → GVal c (k_goes (ti_dc c s w) q) i = c (146 + i.toNat) 2 := ti_areRight rfl (fun k hk => by unfold ti_dc; rw [am_put_kr (by omega), am_put_kr (by omega)])
    rcases k3 with e3 | ⟨i, a1, a2, a3⟩
    · omega
    · have b2 : i < c 0 31 := by omega
      have e4 := hA.1 e i a1.1 b2
      obtain ⟨t1, t2, t3, x, y, t4, t5, t6, t7⟩ := hg.2.2 i a1.1 b2
      have w1 := hC.2.1.1
      have w2 := hC.2.1.2.1
      have h8 := ti_duelBefore (p := c (146 + i.toNat) 1 + 1) (w := w) hC hTb hFs hz hd hs (by omega) q x y ⟨t4.1, by omega⟩ ⟨t5.1, by omega⟩
      rw [ti_gaugeCan (q := fun _ _ => 0) hC hTb hFs hz hd hg hn hm ⟨a1.1, b2⟩] at a2
      unfold GVal at e4 a2
      rw [t7] at e4 a2
      rw [if_pos (h8.symm.trans e4)] at a2
      exact absurd a2 (by decide)
