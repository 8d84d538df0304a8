/-! THE TIE: the parts of a rule -/
def RuC (u c : am_F) : Prop := (u 0 0 = c 0 46 ∧ 0 ≤ c 0 46 ∧ c 0 46 ≤ 8) ∧ ∀ p : Int, 0 ≤ p → p < c 0 46 → u 2 p.toNat = c (269 + p.toNat) 0 ∧ f_fr u p = c (269 + p.toNat) 1 ∧ f_tp u p = c (269 + p.toNat) 2 ∧ (∃ (g : Nat) (b : Bool) (n : Nat), n ≤ 64 ∧ XE c g b n (c (269 + p.toNat) 1) (c (269 + p.toNat) 2) ∧ (c (269 + p.toNat) 0 = 0 → b = true)) ∧ ∀ k : Int, c (269 + p.toNat) 1 ≤ k → k < c (269 + p.toNat) 2 → OrR (u 1 k.toNat) (c (287 + k.toNat) 0) (c (287 + k.toNat) 1)
theorem RuC_4 {u u' c : am_F} (h : ∀ k, k ≠ 4 → u' k = u k) (hU : RuC u c) : RuC u' c := by
  unfold RuC f_fr f_tp
  rw [h 0 (by decide), h 1 (by decide), h 2 (by decide), h 3 (by decide)]
  exact hU
theorem ti_partV {c u q : am_F} {f : Nat → Int} {bi t th le p : Int} (hU : RuC u c) (hf : FaR f c bi t th le) (hp : 0 ≤ p ∧ p < c 0 46) : f_value 9 f u p = (k_worth c q p bi t th le).1 ∧ (∀ k, k ≠ 4 → (f_valueX 9 f u p).2 k = u k) ∧ (∀ k, k ≠ 728 → (k_worth c q p bi t th le).2 k = q k) ∧ (c (269 + p.toNat) 0 = 0 → (k_worth c q p bi t th le).1 = 0 ∨ (k_worth c q p bi t th le).1 = 1) := by
  obtain ⟨h1, h2, h3, ⟨g, b, n, hn, hX, hb⟩, hO⟩ := hU.2 p hp.1 hp.2
  have h9 := ti_worth (u := u) hf g hX hO 0 u q (by omega) rfl
  have eX : f_valueX 9 f u p = am_fold (g_value 9 f) (c (269 + p.toNat) 1) (c (269 + p.toNat) 2 - c (269 + p.toNat) 1).toNat (((0 : Nat) : Int), u) := by
    unfold f_valueX
    rw [h2, h3]
    rfl
  have eY : k_worth c q p bi t th le = ((am_fold (g_k_worth_13 c bi t th le) (c (269 + p.toNat) 1) (c (269 + p.toNat) 2 - c (269 + p.toNat) 1).toNat (((0 : Nat) : Int), q)).2 728 0, (am_fold (g_k_worth_13 c bi t th le) (c (269 + p.toNat) 1) (c (269 + p.toNat) 2 - c (269 + p.toNat) 1).toNat (((0 : Nat) : Int), q)).2) := rfl
  unfold f_value
  rw [eX, eY]
  generalize am_fold (g_value 9 f) (c (269 + p.toNat) 1) (c (269 + p.toNat) 2 - c (269 + p.toNat) 1).toNat (((0 : Nat) : Int), u) = A at h9
  generalize am_fold (g_k_worth_13 c bi t th le) (c (269 + p.toNat) 1) (c (269 + p.toNat) 2 - c (269 + p.toNat) 1).toNat (((0 : Nat) : Int), q) = B at h9
  obtain ⟨e1, e2, e3, e4, ⟨e5, e6⟩, e7, e8⟩ := h9
  refine ⟨?_, e5, e7, fun hk => e4 (hb hk)⟩
  dsimp only
  unfold f_top
  rw [if_pos (show 1 ≤ A.1 ∧ A.1 ≤ 64 by omega), show (A.1 - 1).toNat = 0 by omega]
  exact e3
theorem ti_lastOf9 {c u : am_F} {kd : Int} : ∀ n : Nat, (∀ p : Nat, p < n → u 2 p = c (269 + p) 0) → f_last u kd n = am_fold (g_k_lastOf_4 c kd) 0 n (-1) := by
  intro n
  induction n with
  | zero => intro _; rfl
  | succ n ih =>
    intro h
    rw [ti_add, Int.zero_add]
    show (if u 2 n = kd then (n : Int) else f_last u kd n) = g_k_lastOf_4 c kd (n : Int) (am_fold (g_k_lastOf_4 c kd) 0 n (-1))
    rw [ih (fun p hp => h p (by omega)), h n (by omega)]
    rfl
theorem ti_lastOf {c u : am_F} {kd : Int} (hU : RuC u c) : f_lastOf u kd = k_lastOf c kd ∧ -1 ≤ k_lastOf c kd ∧ k_lastOf c kd < c 0 46 ∧ (k_lastOf c kd ≠ -1 → c (269 + (k_lastOf c kd).toNat) 0 = kd) := by
  have e : f_lastOf u kd = k_lastOf c kd := by
    unfold f_lastOf k_lastOf
    rw [hU.1.1, show (if 8 < c 0 46 then 8 else c 0 46) = c 0 46 by have := hU.1.2; split <;> omega]
    exact ti_lastOf9 _ fun p hp => (hU.2 p (by omega) (by omega)).1
  refine ⟨e, ?_⟩
  have h9 := am_fold_inv (P := fun n (l : Int) => -1 ≤ l ∧ (l = -1 ∨ l < n) ∧ (l ≠ -1 → c (269 + l.toNat) 0 = kd)) (g := g_k_lastOf_4 c kd) (c 0 46).toNat 0 (-1) ⟨by decide, Or.inl rfl, fun h => absurd rfl h⟩ (fun i l a1 a2 hP => by
    unfold g_k_lastOf_4
    split
    · rename_i g
      exact ⟨by omega, Or.inr (by omega), fun _ => g⟩
    · exact ⟨hP.1, by have := hP.2.1; omega, hP.2.2⟩)
  have h8 : am_fold (g_k_lastOf_4 c kd) 0 (c 0 46).toNat (-1) = k_lastOf c kd := rfl
  rw [h8] at h9
  have := hU.1.2
  exact ⟨h9.1, by have := h9.2.1; omega, h9.2.2⟩
/-- what a part of a kind tells, or what holds without one -/
theorem ti_tellsV {c u q : am_F} {f : Nat → Int} {bi t th le kd wo : Int} (hU : RuC u c) (hf : FaR f c bi t th le) : (c_tells u kd wo 9 f).1 = (if k_lastOf c kd = -1 then wo else (k_worth c q (k_lastOf c kd) bi t th le).1) ∧ (∀ k, k ≠ 4 → (c_tells u kd wo 9 f).2 k = u k) ∧ ∀ k, k ≠ 728 → (if k_lastOf c kd = -1 then q else (k_worth c q (k_lastOf c kd) bi t th le).2) k = q k := by
  obtain ⟨e, h1, h2, h3⟩ := ti_lastOf (kd := kd) hU
  unfold c_tells
  dsimp only
  rw [e]
  by_cases g : k_lastOf c kd = -1
  · rw [if_pos g, if_pos g, if_pos g, if_pos g]
    exact ⟨rfl, fun _ _ => rfl, fun _ _ => rfl⟩
  · rw [if_neg g, if_neg g, if_neg g, if_neg g]
    obtain ⟨w1, w2, w3, -⟩ := ti_partV (q := q) hU hf (p := k_lastOf c kd) ⟨by omega, h2⟩
    exact ⟨w1, w2, w3⟩
theorem ti_letLoop {c : am_F} {f : Nat → Int} {bi t th : Int} {d1 d2 : Int × am_F} (hf : FaR f c bi t th th) : ∀ (n : Nat) (p : Int) (u q : am_F), 8 - p < n → 0 ≤ p ∧ p ≤ 8 → RuC u c → (am_wr (w_c_lets_13 9 f) d1 n (p, u)).1 = (am_wr (w_k_isLet_14 c bi t th) d2 n (p, q)).1 ∧ (∀ k, k ≠ 4 → (am_wr (w_c_lets_13 9 f) d1 n (p, u)).2 k = u k) ∧ ∀ k, k ≠ 728 → (am_wr (w_k_isLet_14 c bi t th) d2 n (p, q)).2 k = q k := by
  intro n
  induction n with
  | zero =>
    intro p u q h1 h2 hU
    omega
  | succ n ih =>
    intro p u q h1 h2 hU
    have w1 : w_c_lets_13 9 f (p, u) = if u 0 0 ≤ p then .inr (0, u) else if 8 ≤ p then .inr (0, u) else if u 2 p.toNat = 0 then (if f_value 9 f u p = 0 then .inl (p + 1, (f_valueX 9 f u p).2) else .inr (1, (f_valueX 9 f u p).2)) else .inl (p + 1, u) := rfl
    have w2 : w_k_isLet_14 c bi t th (p, q) = if c 0 46 ≤ p then .inr (0, q) else if c (269 + p.toNat) 0 = 0 then (if (k_worth c q p bi t th th).1 = 1 then .inr (1, (k_worth c q p bi t th th).2) else .inl (p + 1, (k_worth c q p bi t th th).2)) else .inl (p + 1, q) := rfl
    have h46 := hU.1
    by_cases g : c 0 46 ≤ p
    · rw [if_pos (by omega)] at w1
      rw [if_pos g] at w2
      rw [am_wr_r w1, am_wr_r w2]
      exact ⟨rfl, fun _ _ => rfl, fun _ _ => rfl⟩
    rw [if_neg (by omega), if_neg (show ¬ 8 ≤ p by omega)] at w1
    rw [if_neg g] at w2
    have e2 := (hU.2 p h2.1 (by omega)).1
    by_cases g2 : c (269 + p.toNat) 0 = 0
    · rw [if_pos (e2.trans g2)] at w1
      rw [if_pos g2] at w2
      obtain ⟨v1, v2, v3, v4⟩ := ti_partV (q := q) hU hf (p := p) ⟨h2.1, by omega⟩
      rcases v4 g2 with v | v
      · rw [if_pos (v1.trans v)] at w1
        rw [if_neg (by omega)] at w2
        rw [am_wr_l w1, am_wr_l w2]
        obtain ⟨i1, i2, i3⟩ := ih (p + 1) (f_valueX 9 f u p).2 (k_worth c q p bi t th th).2 (by omega) (by omega) (RuC_4 v2 hU)
        exact ⟨i1, fun k hk => (i2 k hk).trans (v2 k hk), fun k hk => (i3 k hk).trans (v3 k hk)⟩
      · rw [if_neg (by omega)] at w1
        rw [if_pos v] at w2
        rw [am_wr_r w1, am_wr_r w2]
        exact ⟨rfl, v2, v3⟩
    · rw [if_neg (by omega)] at w1
      rw [if_neg g2] at w2
      rw [am_wr_l w1, am_wr_l w2]
      exact ih (p + 1) u q (by omega) (by omega) hU
theorem ti_isLetV {c u q : am_F} {f : Nat → Int} {bi t th : Int} (hU : RuC u c) (hf : FaR f c bi t th th) : (c_lets u 9 f).1 = (k_isLet c q bi t th).1 ∧ (∀ k, k ≠ 4 → (c_lets u 9 f).2 k = u k) ∧ ∀ k, k ≠ 728 → (k_isLet c q bi t th).2 k = q k := by
  obtain ⟨e, h1, h2, h3⟩ := ti_lastOf (kd := 0) hU
  unfold c_lets k_isLet
  dsimp only
  rw [e]
  by_cases g : k_lastOf c 0 = -1
  · rw [if_pos g, if_pos g]
    exact ⟨rfl, fun _ _ => rfl, fun _ _ => rfl⟩
  · rw [if_neg g, if_neg g]
    exact ti_letLoop hf 9 0 u q (by omega) (by omega) hU
