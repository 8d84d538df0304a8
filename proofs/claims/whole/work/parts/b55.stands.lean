/-! THE TIE: what is told stands -/
theorem rr_cp {src dst wid : Nat} {g : Int → am_F → am_F} (hg : ∀ (k : Int) (c : am_F), g k c = am_fold (fun (i : Int) (c : am_F) => am_put c (dst + k.toNat) i.toNat (c (src + k.toNat) i.toNat)) 0 wid c) (n : Nat) (hd : src + n ≤ dst) (c : am_F) : (∀ k j, k < n → j < wid → am_fold g 0 n c (dst + k) j = c (src + k) j) ∧ ∀ k, ¬ (dst ≤ k ∧ k < dst + n) → am_fold g 0 n c k = c k := by
  have h9 := am_fold_inv (P := fun i (x : am_F) => (∀ k j : Nat, (k : Int) < i → j < wid → x (dst + k) j = c (src + k) j) ∧ ∀ k : Nat, ¬ (dst ≤ k ∧ (k : Int) < dst + i) → x k = c k) (g := g) n 0 c ⟨fun k j a1 a2 => by omega, fun _ _ => rfl⟩ (fun i x a1 a2 hx => by
    obtain ⟨x1, x2⟩ := hx
    rw [hg]
    have h8 := am_fold_inv (P := fun m (y : am_F) => (∀ j : Nat, (j : Int) < m → y (dst + i.toNat) j = c (src + i.toNat) j) ∧ ∀ k : Nat, k ≠ dst + i.toNat → y k = x k) (g := fun (m : Int) (c : am_F) => am_put c (dst + i.toNat) m.toNat (c (src + i.toNat) m.toNat)) wid 0 x ⟨fun j a1 => by omega, fun _ _ => rfl⟩ (fun m y b1 b2 hy => by
      obtain ⟨y1, y2⟩ := hy
      refine ⟨fun j c1 => ?_, fun k hk => (am_put_kr hk).trans (y2 k hk)⟩
      by_cases e : j = m.toNat
      · subst e
        show am_put y (dst + i.toNat) m.toNat _ _ _ = _
        rw [am_put_s, y2 _ (by omega), x2 _ (by omega)]
      · show am_put y (dst + i.toNat) m.toNat _ _ _ = _
        rw [am_put_i e]
        exact y1 j (by omega))
    obtain ⟨y1, y2⟩ := h8
    refine ⟨fun k j b1 b2 => ?_, fun k hk => ?_⟩
    · by_cases e : (k : Int) = i
      · have e2 : k = i.toNat := by omega
        rw [e2]
        exact y1 j (by omega)
      · rw [y2 _ (by omega)]
        exact x1 k j (by omega) b2
    · rw [y2 _ (by omega)]
      exact x2 k (by omega))
  obtain ⟨h1, h2⟩ := h9
  exact ⟨fun k j a1 a2 => h1 k j (by omega) a2, fun k hk => h2 k (by omega)⟩
theorem rr_cp0 {src dst n : Nat} {g : Int → am_F → am_F} (hg : ∀ (i : Int) (c : am_F), g i c = am_put c dst i.toNat (c src i.toNat)) (hd : src ≠ dst) (c : am_F) : (∀ j, j < n → am_fold g 0 n c dst j = c src j) ∧ ∀ k, k ≠ dst → am_fold g 0 n c k = c k := by
  have h9 := am_fold_inv (P := fun i (x : am_F) => (∀ j : Nat, (j : Int) < i → x dst j = c src j) ∧ ∀ k : Nat, k ≠ dst → x k = c k) (g := g) n 0 c ⟨fun j a1 => by omega, fun _ _ => rfl⟩ (fun i x a1 a2 hx => by
    obtain ⟨x1, x2⟩ := hx
    rw [hg]
    refine ⟨fun j b1 => ?_, fun k hk => (am_put_kr hk).trans (x2 k hk)⟩
    by_cases e : j = i.toNat
    · rw [e, am_put_s, x2 _ hd]
    · rw [am_put_i e]
      exact x1 j (by omega))
  exact ⟨fun j hj => h9.1 j (by omega), h9.2⟩
theorem rr_cp_wind (c : am_F) {m : Int} (hm : 0 ≤ m ∧ m ≤ 12) : (∀ k j : Nat, (k : Int) < m → j < 4 → k_cp_wind c m (21 + k) j = c (8 + k) j) ∧ ∀ k, ¬ (21 ≤ k ∧ k < 33) → k_cp_wind c m k = c k := by
  have h9 := rr_cp (src := 8) (dst := 21) (wid := 4) (g := g_k_cp_wind_2) (fun _ _ => rfl) m.toNat (by omega) c
  exact ⟨fun k j a1 a2 => h9.1 k j (by omega) a2, fun k hk => h9.2 k (by omega)⟩
theorem rr_cp_thin (c : am_F) {m : Int} (hm : 0 ≤ m ∧ m ≤ 12) : (∀ k j : Nat, (k : Int) < m → j < 2 → k_cp_thin c m (47 + k) j = c (34 + k) j) ∧ ∀ k, ¬ (47 ≤ k ∧ k < 59) → k_cp_thin c m k = c k := by
  have h9 := rr_cp (src := 34) (dst := 47) (wid := 2) (g := g_k_cp_thin_2) (fun _ _ => rfl) m.toNat (by omega) c
  exact ⟨fun k j a1 a2 => h9.1 k j (by omega) a2, fun k hk => h9.2 k (by omega)⟩
theorem rr_cp_lamp (c : am_F) {m : Int} (hm : 0 ≤ m ∧ m ≤ 6) : (∀ k j : Nat, (k : Int) < m → j < 3 → k_cp_lamp c m (67 + k) j = c (60 + k) j) ∧ ∀ k, ¬ (67 ≤ k ∧ k < 73) → k_cp_lamp c m k = c k := by
  have h9 := rr_cp (src := 60) (dst := 67) (wid := 3) (g := g_k_cp_lamp_2) (fun _ _ => rfl) m.toNat (by omega) c
  exact ⟨fun k j a1 a2 => h9.1 k j (by omega) a2, fun k hk => h9.2 k (by omega)⟩
theorem rr_cp_steamer (c : am_F) {m : Int} (hm : 0 ≤ m ∧ m ≤ 6) : (∀ k j : Nat, (k : Int) < m → j < 3 → k_cp_steamer c m (82 + k) j = c (75 + k) j) ∧ ∀ k, ¬ (82 ≤ k ∧ k < 88) → k_cp_steamer c m k = c k := by
  have h9 := rr_cp (src := 75) (dst := 82) (wid := 3) (g := g_k_cp_steamer_2) (fun _ _ => rfl) m.toNat (by omega) c
  exact ⟨fun k j a1 a2 => h9.1 k j (by omega) a2, fun k hk => h9.2 k (by omega)⟩
theorem rr_cp_lot (c : am_F) {m : Int} (hm : 0 ≤ m ∧ m ≤ 6) : (∀ k j : Nat, (k : Int) < m → j < 6 → k_cp_lot c m (96 + k) j = c (89 + k) j) ∧ ∀ k, ¬ (96 ≤ k ∧ k < 102) → k_cp_lot c m k = c k := by
  have h9 := rr_cp (src := 89) (dst := 96) (wid := 6) (g := g_k_cp_lot_2) (fun _ _ => rfl) m.toNat (by omega) c
  exact ⟨fun k j a1 a2 => h9.1 k j (by omega) a2, fun k hk => h9.2 k (by omega)⟩
theorem rr_cp_walker (c : am_F) {m : Int} (hm : 0 ≤ m ∧ m ≤ 4) : (∀ k j : Nat, (k : Int) < m → j < 16 → k_cp_walker c m (108 + k) j = c (103 + k) j) ∧ ∀ k, ¬ (108 ≤ k ∧ k < 112) → k_cp_walker c m k = c k := by
  have h9 := rr_cp (src := 103) (dst := 108) (wid := 16) (g := g_k_cp_walker_2) (fun _ _ => rfl) m.toNat (by omega) c
  exact ⟨fun k j a1 a2 => h9.1 k j (by omega) a2, fun k hk => h9.2 k (by omega)⟩
theorem rr_cp_watch (c : am_F) {m : Int} (hm : 0 ≤ m ∧ m ≤ 4) : (∀ k j : Nat, (k : Int) < m → j < 2 → k_cp_watch c m (118 + k) j = c (113 + k) j) ∧ ∀ k, ¬ (118 ≤ k ∧ k < 122) → k_cp_watch c m k = c k := by
  have h9 := rr_cp (src := 113) (dst := 118) (wid := 2) (g := g_k_cp_watch_2) (fun _ _ => rfl) m.toNat (by omega) c
  exact ⟨fun k j a1 a2 => h9.1 k j (by omega) a2, fun k hk => h9.2 k (by omega)⟩
theorem rr_cp_ship (c : am_F) {m : Int} (hm : 0 ≤ m ∧ m ≤ 4) : (∀ k j : Nat, (k : Int) < m → j < 2 → k_cp_ship c m (128 + k) j = c (123 + k) j) ∧ ∀ k, ¬ (128 ≤ k ∧ k < 132) → k_cp_ship c m k = c k := by
  have h9 := rr_cp (src := 123) (dst := 128) (wid := 2) (g := g_k_cp_ship_2) (fun _ _ => rfl) m.toNat (by omega) c
  exact ⟨fun k j a1 a2 => h9.1 k j (by omega) a2, fun k hk => h9.2 k (by omega)⟩
theorem rr_stands {c : am_F} (hc : (0 ≤ c 3 8 ∧ c 3 8 ≤ 12) ∧ (0 ≤ c 3 9 ∧ c 3 9 ≤ 12) ∧ (0 ≤ c 3 2 ∧ c 3 2 ≤ 6) ∧ (0 ≤ c 3 10 ∧ c 3 10 ≤ 6) ∧ (0 ≤ c 3 3 ∧ c 3 3 ≤ 6) ∧ (0 ≤ c 3 4 ∧ c 3 4 ≤ 4) ∧ (0 ≤ c 3 5 ∧ c 3 5 ≤ 4) ∧ (0 ≤ c 3 6 ∧ c 3 6 ≤ 4)) : ((∀ j, j < 11 → k_stands c 4 j = c 3 j) ∧ (∀ j, j < 81 → k_stands c 6 j = c 5 j)) ∧ ((∀ k j : Nat, (k : Int) < c 3 8 → j < 4 → k_stands c (21 + k) j = c (8 + k) j) ∧ (∀ k j : Nat, (k : Int) < c 3 9 → j < 2 → k_stands c (47 + k) j = c (34 + k) j) ∧ (∀ k j : Nat, (k : Int) < c 3 2 → j < 3 → k_stands c (67 + k) j = c (60 + k) j) ∧ (∀ k j : Nat, (k : Int) < c 3 10 → j < 3 → k_stands c (82 + k) j = c (75 + k) j) ∧ (∀ k j : Nat, (k : Int) < c 3 3 → j < 6 → k_stands c (96 + k) j = c (89 + k) j) ∧ (∀ k j : Nat, (k : Int) < c 3 4 → j < 16 → k_stands c (108 + k) j = c (103 + k) j) ∧ (∀ k j : Nat, (k : Int) < c 3 5 → j < 2 → k_stands c (118 + k) j = c (113 + k) j) ∧ (∀ k j : Nat, (k : Int) < c 3 6 → j < 2 → k_stands c (128 + k) j = c (123 + k) j)) ∧ ((k_stands c 0 45 = c 3 2 ∧ k_stands c 0 30 = 0 ∧ k_stands c 0 31 = 0 ∧ k_stands c 0 32 = 0 ∧ k_stands c 0 46 = 0 ∧ k_stands c 0 48 = 0) ∧ (∀ j, j ≠ 45 → j ≠ 30 → j ≠ 31 → j ≠ 32 → j ≠ 46 → j ≠ 48 → k_stands c 0 j = c 0 j) ∧ ∀ k, k ≠ 0 → k ≠ 4 → k ≠ 6 → (k < 21 ∨ 132 ≤ k) → k_stands c k = c k) := by
  obtain ⟨m0, m1, m2, m3, m4, m5, m6, m7⟩ := hc
  unfold k_stands
  have a0 := rr_cp0 (src := 3) (dst := 4) (n := 11) (g := g_k_stands_2) (fun _ _ => rfl) (by decide) c
  generalize am_fold g_k_stands_2 0 11 c = c0 at *
  have a1 := rr_cp0 (src := 5) (dst := 6) (n := 81) (g := g_k_stands_28) (fun _ _ => rfl) (by decide) c0
  generalize am_fold g_k_stands_28 0 81 c0 = c1 at *
  have r4 : ∀ j, j < 11 → c1 4 j = c 3 j := fun j hj => (congrFun (a1.2 4 (by decide)) j).trans (a0.1 j hj)
  have r6 : ∀ j, j < 81 → c1 6 j = c 5 j := fun j hj => (a1.1 j hj).trans (congrFun (a0.2 5 (by decide)) j)
  have rk : ∀ k, k ≠ 4 → k ≠ 6 → c1 k = c k := fun k k4 k6 => (a1.2 k k6).trans (a0.2 k k4)
  have e0 : c1 4 8 = c 3 8 := r4 8 (by decide)
  rw [e0]
  have b0 := rr_cp_wind c1 m0
  generalize k_cp_wind c1 (c 3 8) = d0 at *
  have e1 : d0 4 9 = c 3 9 := (congrFun (b0.2 4 (by omega)) 9).trans (r4 9 (by decide))
  rw [e1]
  have b1 := rr_cp_thin d0 m1
  generalize k_cp_thin d0 (c 3 9) = d1 at *
  have e2 : d1 4 2 = c 3 2 := (congrFun ((b1.2 4 (by omega)).trans (b0.2 4 (by omega))) 2).trans (r4 2 (by decide))
  rw [e2]
  have b2 := rr_cp_lamp d1 m2
  generalize k_cp_lamp d1 (c 3 2) = d2 at *
  have e3 : d2 4 10 = c 3 10 := (congrFun ((b2.2 4 (by omega)).trans ((b1.2 4 (by omega)).trans (b0.2 4 (by omega)))) 10).trans (r4 10 (by decide))
  rw [e3]
  have b3 := rr_cp_steamer d2 m3
  generalize k_cp_steamer d2 (c 3 10) = d3 at *
  have e4 : d3 4 3 = c 3 3 := (congrFun ((b3.2 4 (by omega)).trans ((b2.2 4 (by omega)).trans ((b1.2 4 (by omega)).trans (b0.2 4 (by omega))))) 3).trans (r4 3 (by decide))
  rw [e4]
  have b4 := rr_cp_lot d3 m4
  generalize k_cp_lot d3 (c 3 3) = d4 at *
  have e5 : d4 4 4 = c 3 4 := (congrFun ((b4.2 4 (by omega)).trans ((b3.2 4 (by omega)).trans ((b2.2 4 (by omega)).trans ((b1.2 4 (by omega)).trans (b0.2 4 (by omega)))))) 4).trans (r4 4 (by decide))
  rw [e5]
  have b5 := rr_cp_walker d4 m5
  generalize k_cp_walker d4 (c 3 4) = d5 at *
  have e6 : d5 4 5 = c 3 5 := (congrFun ((b5.2 4 (by omega)).trans ((b4.2 4 (by omega)).trans ((b3.2 4 (by omega)).trans ((b2.2 4 (by omega)).trans ((b1.2 4 (by omega)).trans (b0.2 4 (by omega))))))) 5).trans (r4 5 (by decide))
  rw [e6]
  have b6 := rr_cp_watch d5 m6
  generalize k_cp_watch d5 (c 3 5) = d6 at *
  have e7 : d6 4 6 = c 3 6 := (congrFun ((b6.2 4 (by omega)).trans ((b5.2 4 (by omega)).trans ((b4.2 4 (by omega)).trans ((b3.2 4 (by omega)).trans ((b2.2 4 (by omega)).trans ((b1.2 4 (by omega)).trans (b0.2 4 (by omega)))))))) 6).trans (r4 6 (by decide))
  rw [e7]
  have b7 := rr_cp_ship d6 m7
  generalize k_cp_ship d6 (c 3 6) = d7 at *
  have f4 : d7 4 = c1 4 := (b7.2 4 (by omega)).trans ((b6.2 4 (by omega)).trans ((b5.2 4 (by omega)).trans ((b4.2 4 (by omega)).trans ((b3.2 4 (by omega)).trans ((b2.2 4 (by omega)).trans ((b1.2 4 (by omega)).trans (b0.2 4 (by omega))))))))
  have f6 : d7 6 = c1 6 := (b7.2 6 (by omega)).trans ((b6.2 6 (by omega)).trans ((b5.2 6 (by omega)).trans ((b4.2 6 (by omega)).trans ((b3.2 6 (by omega)).trans ((b2.2 6 (by omega)).trans ((b1.2 6 (by omega)).trans (b0.2 6 (by omega))))))))
  have f0 : d7 0 = c 0 := ((b7.2 0 (by omega)).trans ((b6.2 0 (by omega)).trans ((b5.2 0 (by omega)).trans ((b4.2 0 (by omega)).trans ((b3.2 0 (by omega)).trans ((b2.2 0 (by omega)).trans ((b1.2 0 (by omega)).trans (b0.2 0 (by omega))))))))).trans (rk 0 (by decide) (by decide))
  have hk9 : ∀ k, k ≠ 0 → am_put (am_put (am_put (am_put (am_put (am_put d7 0 45 (d7 4 2)) 0 30 0) 0 31 0) 0 32 0) 0 46 0) 0 48 0 k = d7 k := fun k hk => by rw [am_put_kr hk, am_put_kr hk, am_put_kr hk, am_put_kr hk, am_put_kr hk, am_put_kr hk]
  refine ⟨⟨fun j hj => ?_, fun j hj => ?_⟩, ⟨fun k j a1 a2 => ?_, fun k j a1 a2 => ?_, fun k j a1 a2 => ?_, fun k j a1 a2 => ?_, fun k j a1 a2 => ?_, fun k j a1 a2 => ?_, fun k j a1 a2 => ?_, fun k j a1 a2 => ?_⟩, ⟨?_, ?_, ?_, ?_, ?_, ?_⟩, fun j j1 j2 j3 j4 j5 j6 => ?_, fun k k0 k4 k6 hk => ?_⟩
  · rw [hk9 4 (by decide), f4]; exact r4 j hj
  · rw [hk9 6 (by decide), f6]; exact r6 j hj
  · rw [hk9 (21 + k) (by omega)]
    rw [b7.2 (21 + k) (by omega)]
    rw [b6.2 (21 + k) (by omega)]
    rw [b5.2 (21 + k) (by omega)]
    rw [b4.2 (21 + k) (by omega)]
    rw [b3.2 (21 + k) (by omega)]
    rw [b2.2 (21 + k) (by omega)]
    rw [b1.2 (21 + k) (by omega)]
    rw [b0.1 k j a1 a2]
    rw [rk (8 + k) (by omega) (by omega)]
  · rw [hk9 (47 + k) (by omega)]
    rw [b7.2 (47 + k) (by omega)]
    rw [b6.2 (47 + k) (by omega)]
    rw [b5.2 (47 + k) (by omega)]
    rw [b4.2 (47 + k) (by omega)]
    rw [b3.2 (47 + k) (by omega)]
    rw [b2.2 (47 + k) (by omega)]
    rw [b1.1 k j a1 a2]
    rw [b0.2 (34 + k) (by omega)]
    rw [rk (34 + k) (by omega) (by omega)]
  · rw [hk9 (67 + k) (by omega)]
    rw [b7.2 (67 + k) (by omega)]
    rw [b6.2 (67 + k) (by omega)]
    rw [b5.2 (67 + k) (by omega)]
    rw [b4.2 (67 + k) (by omega)]
    rw [b3.2 (67 + k) (by omega)]
    rw [b2.1 k j a1 a2]
    rw [b1.2 (60 + k) (by omega)]
    rw [b0.2 (60 + k) (by omega)]
    rw [rk (60 + k) (by omega) (by omega)]
  · rw [hk9 (82 + k) (by omega)]
    rw [b7.2 (82 + k) (by omega)]
    rw [b6.2 (82 + k) (by omega)]
    rw [b5.2 (82 + k) (by omega)]
    rw [b4.2 (82 + k) (by omega)]
    rw [b3.1 k j a1 a2]
    rw [b2.2 (75 + k) (by omega)]
    rw [b1.2 (75 + k) (by omega)]
    rw [b0.2 (75 + k) (by omega)]
    rw [rk (75 + k) (by omega) (by omega)]
  · rw [hk9 (96 + k) (by omega)]
    rw [b7.2 (96 + k) (by omega)]
    rw [b6.2 (96 + k) (by omega)]
    rw [b5.2 (96 + k) (by omega)]
    rw [b4.1 k j a1 a2]
    rw [b3.2 (89 + k) (by omega)]
    rw [b2.2 (89 + k) (by omega)]
    rw [b1.2 (89 + k) (by omega)]
    rw [b0.2 (89 + k) (by omega)]
    rw [rk (89 + k) (by omega) (by omega)]
  · rw [hk9 (108 + k) (by omega)]
    rw [b7.2 (108 + k) (by omega)]
    rw [b6.2 (108 + k) (by omega)]
    rw [b5.1 k j a1 a2]
    rw [b4.2 (103 + k) (by omega)]
    rw [b3.2 (103 + k) (by omega)]
    rw [b2.2 (103 + k) (by omega)]
    rw [b1.2 (103 + k) (by omega)]
    rw [b0.2 (103 + k) (by omega)]
    rw [rk (103 + k) (by omega) (by omega)]
  · rw [hk9 (118 + k) (by omega)]
    rw [b7.2 (118 + k) (by omega)]
    rw [b6.1 k j a1 a2]
    rw [b5.2 (113 + k) (by omega)]
    rw [b4.2 (113 + k) (by omega)]
    rw [b3.2 (113 + k) (by omega)]
    rw [b2.2 (113 + k) (by omega)]
    rw [b1.2 (113 + k) (by omega)]
    rw [b0.2 (113 + k) (by omega)]
    rw [rk (113 + k) (by omega) (by omega)]
  · rw [hk9 (128 + k) (by omega)]
    rw [b7.1 k j a1 a2]
    rw [b6.2 (123 + k) (by omega)]
    rw [b5.2 (123 + k) (by omega)]
    rw [b4.2 (123 + k) (by omega)]
    rw [b3.2 (123 + k) (by omega)]
    rw [b2.2 (123 + k) (by omega)]
    rw [b1.2 (123 + k) (by omega)]
    rw [b0.2 (123 + k) (by omega)]
    rw [rk (123 + k) (by omega) (by omega)]
  · rw [am_put_i (by decide), am_put_i (by decide), am_put_i (by decide), am_put_i (by decide), am_put_i (by decide), am_put_s, f4]; exact r4 2 (by decide)
  · rw [am_put_i (by decide), am_put_i (by decide), am_put_i (by decide), am_put_i (by decide), am_put_s]
  · rw [am_put_i (by decide), am_put_i (by decide), am_put_i (by decide), am_put_s]
  · rw [am_put_i (by decide), am_put_i (by decide), am_put_s]
  · rw [am_put_i (by decide), am_put_s]
  · rw [am_put_s]
  · rw [am_put_i j6, am_put_i j5, am_put_i j4, am_put_i j3, am_put_i j2, am_put_i j1, f0]
  · rw [hk9 k k0]
    rw [b7.2 k (by omega)]
    rw [b6.2 k (by omega)]
    rw [b5.2 k (by omega)]
    rw [b4.2 k (by omega)]
    rw [b3.2 k (by omega)]
    rw [b2.2 k (by omega)]
    rw [b1.2 k (by omega)]
    rw [b0.2 k (by omega)]
    rw [rk k k4 k6]
