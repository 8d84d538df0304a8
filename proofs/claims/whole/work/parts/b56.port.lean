/-! THE TIE: a port that has been read -/
theorem rr_lotP (c : am_F) (x y k : Int) : (p_k_lotOf_2 c x y k = some k ∧ inB c (96 + k.toNat) x y) ∨ (p_k_lotOf_2 c x y k = none ∧ ¬ inB c (96 + k.toNat) x y) := by
  unfold p_k_lotOf_2 k_in inB
  dsimp only
  by_cases g1 : x < c (96 + k.toNat) 0
  · rw [if_pos g1, if_pos rfl]; exact Or.inr ⟨rfl, fun h => by omega⟩
  rw [if_neg g1]
  by_cases g2 : c (96 + k.toNat) 2 < x
  · rw [if_pos g2, if_pos rfl]; exact Or.inr ⟨rfl, fun h => by omega⟩
  rw [if_neg g2, if_neg (by decide)]
  by_cases g3 : y < c (96 + k.toNat) 1
  · rw [if_pos g3, if_pos rfl]; exact Or.inr ⟨rfl, fun h => by omega⟩
  rw [if_neg g3]
  by_cases g4 : c (96 + k.toNat) 3 < y
  · rw [if_pos g4, if_pos rfl]; exact Or.inr ⟨rfl, fun h => by omega⟩
  rw [if_neg g4, if_neg (by decide)]
  exact Or.inl ⟨rfl, by omega⟩
theorem rr_HC {s c : am_F} (hR : HR s c) (hS : SpI s) : HC s (k_stands c) ∧ TLb s (k_stands c) ∧ TFs s (k_stands c) ∧ FzI s ∧ MdWd (k_stands c) := by
  obtain ⟨⟨⟨d0, d1⟩, ⟨d2, d3⟩, d4, d5⟩, ⟨w1, w2, w3⟩, ⟨t1, t2, t3⟩, ⟨l1, l2⟩, ⟨s1, s2⟩, ⟨o1, o2, o3, o4⟩, ⟨k1, k2⟩, ⟨x1, x2⟩, ⟨p1, p2⟩, ⟨f1, f2, f3⟩⟩ := hR
  obtain ⟨⟨m4, m6⟩, ⟨rW, rT, rL, rS, rO, rK, rX, rH⟩, ⟨z45, z30, z31, z32, z46, z48⟩, z0, zk⟩ := rr_stands (c := c) ⟨by omega, by omega, by omega, by omega, by omega, by omega, by omega, by omega⟩
  generalize k_stands c = M at *
  have e0 := m4 0 (by decide)
  have e1 := m4 1 (by decide)
  have e2 := m4 2 (by decide)
  have e3 := m4 3 (by decide)
  have e4 := m4 4 (by decide)
  have e5 := m4 5 (by decide)
  have e6 := m4 6 (by decide)
  have e7 := m4 7 (by decide)
  have e8 := m4 8 (by decide)
  have e9 := m4 9 (by decide)
  have e10 := m4 10 (by decide)
  have nn : ∀ {i b : Int}, 0 ≤ i → i < b → ((i.toNat : Nat) : Int) < b := fun {i b} a1 a2 => by omega
  have hL1 : ∀ x y : Int, 0 ≤ x → x < c 3 0 → 0 ≤ y → y < c 3 1 → f_lotOn s (x + 10 * y) = k_lotOf M x y := fun x y a1 a2 a3 a4 => by
    have hin : ∀ k : Int, 0 ≤ k → k < c 3 3 → (inB M (96 + k.toNat) x y ↔ inB c (89 + k.toNat) x y) := fun k b1 b2 => by
      unfold inB
      rw [rO _ 0 (nn b1 b2) (by decide), rO _ 1 (nn b1 b2) (by decide), rO _ 2 (nn b1 b2) (by decide), rO _ 3 (nn b1 b2) (by decide)]
    unfold k_lotOf
    cases hf : am_find (p_k_lotOf_2 M x y) 0 (M 4 3).toNat with
    | none =>
      rcases o4 x y a1 a2 a3 a4 with g | ⟨g1, g2⟩
      · exact g
      · have h9 := (ti_find_none _ _).1 hf (f_lotOn s (x + 10 * y)) g1.1 (by omega)
        rcases rr_lotP M x y (f_lotOn s (x + 10 * y)) with ⟨b1, -⟩ | ⟨-, b2⟩
        · rw [b1] at h9; cases h9
        · exact absurd ((hin _ g1.1 g1.2).2 g2) b2
    | some r =>
      obtain ⟨j, b1, b2, b3⟩ := am_find_spec _ _ hf
      rcases rr_lotP M x y j with ⟨c1, c2⟩ | ⟨c1, -⟩
      · rw [c1] at b3
        injection b3 with b3
        rw [← b3]
        exact o3 j x y b1 (by omega) ((hin j b1 (by omega)).1 c2)
      · rw [c1] at b3; cases b3
  have hV : MdV M := by
    unfold MdV
    rw [e0, e1, e2, e3, e4, e5, e6, e7, e8, e9, e10, z45, z30, z31]
    omega
  refine ⟨⟨hS.1, hV, ⟨⟨by rw [e0, d0], by rw [e1, d1]⟩, fun x y a1 a2 a3 a4 => ?_, fun t a1 a2 => ?_, ⟨?_, fun i a1 a2 => ?_⟩, fun t a1 a2 => ?_, by rw [e3]; exact o1.1⟩, ⟨by rw [e7, d4], by rw [e2]; exact l1.1, by rw [z45, e2]⟩, ⟨by rw [e4]; exact k1.1, fun w a1 a2 => ?_⟩, ⟨by rw [e5]; exact x1.1, fun i a1 a2 => ?_⟩, ⟨by rw [e6]; exact p1.1, fun i a1 a2 => ?_⟩, fun k a1 a2 => ?_, fun k a1 a2 => ?_, fun k x y a1 a2 a3 a4 a5 a6 => ?_⟩, fun i a1 a2 => ?_, ⟨fun x y a1 a2 a3 a4 => ?_, f2⟩, f3, fun k a1 a2 => ?_⟩
  · rw [e0] at a2
    rw [e1] at a4
    exact hL1 x y a1 a2 a3 a4
  · have hLt : LtR (s 0 3) (M 4 8) (fun i => f_at (s 0 3) (s 1) i 0) (fun k => M (21 + k.toNat) 0) (fun i k => f_at (s 0 3) (s 1) i 1 = 3 * M (21 + k.toNat) 1 + M (21 + k.toNat) 2 ∧ f_at (s 0 3) (s 1) i 2 = M (21 + k.toNat) 3) := by
      rw [e8]
      refine LtR_eq w2 (fun i _ _ => rfl) (fun k b1 b2 => by rw [rW _ 0 (nn b1 b2) (by decide)]) (fun i k b1 b2 b3 b4 hv => ?_)
      unfold PWv at hv
      rw [rW _ 1 (nn b3 b4) (by decide), rW _ 2 (nn b3 b4) (by decide), rW _ 3 (nn b3 b4) (by decide)]
      exact hv
    have h9 := LtR_at (t := t) hLt (by omega) (by omega)
    have ek : am_fold (gw (fun k => M (21 + k.toNat) 0) t) 0 (M 4 8).toNat (-1) = k_windAt M t := rfl
    rw [ek] at h9
    have ew : f_latest (s 0 3) (s 1) t = f_wind s t := rfl
    rw [ew] at h9
    unfold f_way0 f_parts
    rcases h9 with ⟨h1, h2⟩ | ⟨h1, h2, h3, h4⟩
    · exact Or.inl ⟨h2, if_pos h1⟩
    · rw [if_neg (by omega), if_neg (by omega)]
      have hb := w3 (k_windAt M t) h2.1 (by omega)
      rw [← rW _ 1 (nn h2.1 (by omega)) (by decide), ← rW _ 2 (nn h2.1 (by omega)) (by decide), ← rW _ 3 (nn h2.1 (by omega)) (by decide)] at hb
      exact Or.inr ⟨by omega, h3, h4, hb.2⟩
  · rw [e10]; exact s1.1
  · rw [e10] at a2
    rw [e0, e1, rS _ 0 (nn a1 a2) (by decide), rS _ 1 (nn a1 a2) (by decide), rS _ 2 (nn a1 a2) (by decide)]
    exact s2 i a1 a2
  · have hLt : LtR (s 0 4) (M 4 9) (fun i => f_at (s 0 4) (s 2) i 0) (fun k => M (47 + k.toNat) 0) (fun i k => f_at (s 0 4) (s 2) i 1 = M (47 + k.toNat) 1) := by
      rw [e9]
      refine LtR_eq t2 (fun i _ _ => rfl) (fun k b1 b2 => by rw [rT _ 0 (nn b1 b2) (by decide)]) (fun i k b1 b2 b3 b4 hv => ?_)
      unfold PTv at hv
      rw [rT _ 1 (nn b3 b4) (by decide)]
      exact hv
    have h9 := LtR_at (t := t) hLt (by omega) (by omega)
    have ek : k_thinAt M t = if am_fold (gw (fun k => M (47 + k.toNat) 0) t) 0 (M 4 9).toNat (-1) = -1 then 0 else M (47 + (am_fold (gw (fun k => M (47 + k.toNat) 0) t) 0 (M 4 9).toNat (-1)).toNat) 1 := rfl
    rw [ek]
    have ew : f_latest (s 0 4) (s 2) t = f_thins s t := rfl
    rw [ew] at h9
    unfold f_loses
    rcases h9 with ⟨h1, h2⟩ | ⟨h1, h2, h3⟩
    · rw [if_pos h1, if_pos h2]
    · rw [if_neg (by omega), if_neg (by omega)]
      exact h3
  · rw [e4] at a2
    obtain ⟨⟨g1, g2, g3, g4⟩, g5⟩ := k2 w a1 a2
    have r3 := rK _ 3 (nn a1 a2) (by decide)
    have eC : f_comes s w = M (108 + w.toNat) 2 := by rw [rK _ 2 (nn a1 a2) (by decide)]; exact g1
    have eM : f_moves s w = M (108 + w.toNat) 3 := by rw [r3]; exact g2
    refine ⟨⟨eC, eM⟩, fun m hm => ?_⟩
    rw [eM, r3] at hm
    have hfold : am_fold (g_k_placeOf_52 M w) 0 m (M (108 + w.toNat) 0, M (108 + w.toNat) 1) = am_fold (gp (c (103 + w.toNat))) 0 m (c (103 + w.toNat) 0, c (103 + w.toNat) 1) := by
      rw [rK _ 0 (nn a1 a2) (by decide), rK _ 1 (nn a1 a2) (by decide)]
      refine ti_rel0 (R := fun (x y : Int × Int) => x = y) m 0 _ _ rfl fun j x y b1 b2 hxy => ?_
      subst hxy
      unfold g_k_placeOf_52 gp
      dsimp only
      rw [rK _ (4 + j).toNat (nn a1 a2) (by omega)]
    rw [hfold, e0, e1]
    exact g5 m hm
  · rw [e5] at a2
    rw [e0, e1, rX _ 0 (nn a1 a2) (by decide), rX _ 1 (nn a1 a2) (by decide)]
    exact x2 i a1 a2
  · rw [e6] at a2
    rw [e0, rH _ 0 (nn a1 a2) (by decide), rH _ 1 (nn a1 a2) (by decide)]
    exact p2 i a1 a2
  · rw [e3] at a2
    rw [e0, e1, rO _ 0 (nn a1 a2) (by decide), rO _ 1 (nn a1 a2) (by decide), rO _ 2 (nn a1 a2) (by decide), rO _ 3 (nn a1 a2) (by decide), rO _ 4 (nn a1 a2) (by decide), rO _ 5 (nn a1 a2) (by decide)]
    exact (o2 k a1 a2).1
  · rw [e3] at a2
    rw [rO _ 0 (nn a1 a2) (by decide), rO _ 1 (nn a1 a2) (by decide), rO _ 2 (nn a1 a2) (by decide), rO _ 3 (nn a1 a2) (by decide), rO _ 4 (nn a1 a2) (by decide), rO _ 5 (nn a1 a2) (by decide)]
    exact (o2 k a1 a2).2
  · rw [e3] at a2
    rw [rO _ 0 (nn a1 a2) (by decide)] at a3
    rw [rO _ 2 (nn a1 a2) (by decide)] at a4
    rw [rO _ 1 (nn a1 a2) (by decide)] at a5
    rw [rO _ 3 (nn a1 a2) (by decide)] at a6
    have hb := (o2 k a1 a2).1
    rw [← hL1 x y (by omega) (by omega) (by omega) (by omega)]
    exact o3 k x y a1 a2 ⟨⟨a3, a4⟩, a5, a6⟩
  · have a2' : i < c 3 2 := by omega
    rw [rL _ 0 (nn a1 a2') (by decide), rL _ 1 (nn a1 a2') (by decide), rL _ 2 (nn a1 a2') (by decide)]
    obtain ⟨g1, g2, g3, g4, g5⟩ := l2 i a1 a2'
    exact ⟨g1, ⟨by omega, by omega⟩, g2⟩
  · rw [m6 _ (by omega)]
    exact f1 x y a1 a2 a3 a4
  · rw [e8] at a2
    rw [rW _ 0 (nn a1 a2) (by decide), rW _ 1 (nn a1 a2) (by decide), rW _ 2 (nn a1 a2) (by decide), rW _ 3 (nn a1 a2) (by decide)]
    exact w3 k a1 a2
