/-! THE TIE: what is read of a run -/
def FQ (s : Int) (r q : am_F) : Prop := ∀ x y : Int, 0 ≤ x → x < 9 → 0 ≤ y → y < 9 → f_fogOn r (x + 10 * y) s = q (159 + (s + 1).toNat) (x + 9 * y).toNat ∧ 0 ≤ f_fogOn r (x + 10 * y) s ∧ f_fogOn r (x + 10 * y) s ≤ 99
theorem FQ_of {s : Int} {r q : am_F} (hF : RnF r) (hs : -1 ≤ s ∧ s < 40) (h : TRow (s + 1) r q) : FQ s r q := by
  intro x y h1 h2 h3 h4
  have e : f_fogOn r (x + 10 * y) s = r 1 ((s + 1) * 90 + (x + 10 * y)).toNat := by
    unfold f_fogOn
    rw [if_pos ⟨hs, by omega, by omega⟩]
  rw [e]
  exact ⟨h.1.1 x y h1 h2 h3 h4, hF _⟩
theorem RnZ_step {h r : am_F} {s v : Int} (hA : HbAll h) (hs : 0 ≤ s ∧ s < 40) (hZ : RnZ r) : RnZ (am_put (f_goOn h r s) 0 1 v) := by
  have hC := ti_keepC (r := r) hA hs.1
  have ek : ∀ m, m ≠ 0 → am_put (f_goOn h r s) 0 1 v m = f_goOn h r s m := fun m hm => am_put_kr hm
  obtain ⟨z3, z4, z5, z7⟩ := hZ
  refine ⟨?_, ?_, ?_, fun l a1 a2 => ?_⟩
  · rw [ek 3 (by decide), hC 3 0 (Or.inr (Or.inl ⟨by decide, by decide, by omega⟩)), z3]
  · rw [ek 4 (by decide), hC 4 0 (Or.inr (Or.inl ⟨by decide, by decide, by omega⟩)), z4]
  · rw [ek 5 (by decide), hC 5 0 (Or.inr (Or.inl ⟨by decide, by decide, by omega⟩)), z5]
  · rw [ek 7 (by decide), hC 7 _ (Or.inr (Or.inr ⟨rfl, fun l' b1 b2 => by omega⟩)), z7 l a1 a2]
theorem RnZ_upTo {h r : am_F} {st : Int} (hA : HbAll h) (hZ : RnZ r) : RnZ (f_upTo h r st) := by
  unfold f_upTo
  refine ti_inv0 (P := RnZ) _ _ r hZ fun j x a1 a2 hx => ?_
  have e1 : 0 ≤ f_from r := by unfold f_from; split <;> omega
  have e2 : f_to st ≤ 40 := by unfold f_to; split <;> omega
  exact RnZ_step hA ⟨by omega, by omega⟩ hx
theorem RnZ_begin {h r : am_F} (hZ : RnZ r) : RnZ (f_begin h r) := by
  have e3 : ∀ k, 3 ≤ k → k ≤ 7 → f_begin h r k = r k := fun k k1 k2 => by
    unfold f_begin f_addUp f_beg1 f_beg0
    rw [am_put_kr (by omega), ti_row_k (by omega), ti_row_k (by omega), ti_row_k (by omega), am_put_kr (by omega), am_put_kr (by omega), am_put_kr (by omega)]
  unfold RnZ
  rw [e3 3 (by decide) (by decide), e3 4 (by decide) (by decide), e3 5 (by decide) (by decide), e3 7 (by decide) (by decide)]
  exact hZ
/-- the class's run of the port as it is told -/
def BaseI (h c r : am_F) : Prop := (c 0 58 = -1 ∧ c 0 61 = -1) ∧ RnZ r ∧ ∃ k, RunAt True h c (fun _ => True) 0 k r
theorem Base_upTo {h c r : am_F} {st : Int} (hA : HbAll h) (hT : TH h c) (hB : BaseI h c r) (hst : -1 ≤ st ∧ st < 40) : BaseI h c (f_upTo h r st) ∧ ∃ k, st < k ∧ RunAt True h c (fun _ => True) 0 k (f_upTo h r st) := by
  obtain ⟨⟨b1, b2⟩, hZ, k, hR⟩ := hB
  have h9 := RunAt_upTo hA hT hR hst (by have := hR.1; omega)
  exact ⟨⟨⟨b1, b2⟩, RnZ_upTo hA hZ, _, h9⟩, _, by split <;> omega, h9⟩
theorem Base_fog {h c r : am_F} {st s : Int} (hA : HbAll h) (hT : TH h c) (hB : BaseI h c r) (hst : -1 ≤ st ∧ st < 40) (hs : -1 ≤ s ∧ s ≤ st) (q : am_F) : FQ s (f_upTo h r st) (k_goes c q) := by
  obtain ⟨-, k, hk, hR⟩ := Base_upTo hA hT hB hst
  exact FQ_of hR.2.2.1 (by omega) (RunAt_read hA hT hR trivial (p := s + 1) (by omega)).1
theorem Base_row {h c r : am_F} {st s : Int} (hA : HbAll h) (hT : TH h c) (hB : BaseI h c r) (hst : -1 ≤ st ∧ st < 40) (hs : -1 ≤ s ∧ s ≤ st) (q : am_F) : f_upTo h r st 2 (s + 1).toNat = k_goes c q (201 + (s + 1).toNat) 0 ∧ TSum (c 0 45) (s + 1) (f_upTo h r st) (k_goes c q) := by
  obtain ⟨-, k, hk, hR⟩ := Base_upTo hA hT hB hst
  have h9 := RunAt_read (q := q) hA hT hR trivial (p := s + 1) (by omega)
  exact ⟨h9.1.2, h9.2 trivial⟩
theorem Base_sum {h c r : am_F} {st s w : Int} (hA : HbAll h) (hT : TH h c) (hB : BaseI h c r) (hst : -1 ≤ st ∧ st < 40) (hs : -1 ≤ s ∧ s ≤ st) (hw : 0 ≤ w ∧ w ≤ 3) (q : am_F) : f_sumOf (f_upTo h r st) s w = k_goes c q (201 + (s + 1).toNat) w.toNat := by
  obtain ⟨h1, h2⟩ := Base_row hA hT hB hst hs q
  unfold f_sumOf
  rw [if_pos (by omega)]
  have h4 : w = 0 ∨ w = 1 ∨ w = 2 ∨ w = 3 := by omega
  rcases h4 with rfl | rfl | rfl | rfl
  · exact h1
  · exact h2.1.1
  · exact h2.2.1.1
  · exact h2.2.2.1.1
theorem Base_led {h c r : am_F} {st s l : Int} (hA : HbAll h) (hT : TH h c) (hB : BaseI h c r) (hst : -1 ≤ st ∧ st < 40) (hs : -1 ≤ s ∧ s ≤ st) (hl : 0 ≤ l ∧ l < c 0 45) (hL : c 0 45 ≤ 7) (q : am_F) : f_ledTo (f_upTo h r st) l s = k_goes c q (243 + l.toNat) (s + 1).toNat := by
  obtain ⟨h1, h2⟩ := Base_row hA hT hB hst hs q
  unfold f_ledTo
  rw [if_pos (by omega), show l * 41 + s + 1 = l * 41 + (s + 1) by omega]
  exact (h2.2.2.2.2 l hl.1 hl.2).1
theorem Base_moved {h c r : am_F} {st s : Int} (hA : HbAll h) (hT : TH h c) (hB : BaseI h c r) (hst : -1 ≤ st ∧ st < 40) (hs : 0 ≤ s ∧ s ≤ st) (q : am_F) : f_movedIn (f_upTo h r st) s = k_goes c q 267 s.toNat := by
  obtain ⟨h1, h2⟩ := Base_row hA hT hB hst (s := s) (by omega) q
  have h6 := (h2.2.2.2.1 (by omega)).1
  unfold f_movedIn
  rw [if_pos (by omega), h6, show s + 1 - 1 = s by omega]
theorem Base_all {h c r : am_F} (hA : HbAll h) (hT : TH h c) (hB : BaseI h c r) (q : am_F) : T8 (c 0 45) (f_upTo h r 39) (k_goes c q) ∧ T9 (f_upTo h r 39) (k_goes c q) := by
  obtain ⟨-, k, hk, hR⟩ := Base_upTo hA hT hB (st := 39) (by omega)
  have hk9 : k = 40 := by have := hR.1; omega
  subst hk9
  have h9 := ((hR.2.2.2.2.2.2 q trivial).1.2.2 trivial)
  exact ⟨h9.2.2.2.2.1, h9.2.2.2.2.2⟩
theorem Base_burnt {h c r : am_F} {l x y : Int} (hA : HbAll h) (hT : TH h c) (hB : BaseI h c r) (hl : 0 ≤ l ∧ l < c 0 45) (hL : c 0 45 ≤ 7) (hx : 0 ≤ x ∧ x < 9) (hy : 0 ≤ y ∧ y < 9) (q : am_F) : f_burntOn (f_upTo h r 39) l (x + 10 * y) = k_goes c q (251 + l.toNat) (x + 9 * y).toNat := by
  unfold f_burntOn
  rw [if_pos (by omega)]
  exact ((Base_all hA hT hB q).1 l x y hl.1 hl.2 hx.1 hx.2 hy.1 hy.2).1
theorem Base_leak {h c r : am_F} {a e : Int} (hA : HbAll h) (hT : TH h c) (hB : BaseI h c r) (ha : 0 ≤ a ∧ a < 6) (he : 0 ≤ e ∧ e < 6) (q : am_F) : f_leaked (f_upTo h r 39) a e = k_goes c q (259 + a.toNat) e.toNat ∧ am_w32 (k_goes c q (259 + a.toNat) e.toNat) = k_goes c q (259 + a.toNat) e.toNat := by
  unfold f_leaked
  rw [if_pos (by omega)]
  have h9 := (Base_all hA hT hB q).2 a e ha.1 ha.2 he.1 he.2
  exact ⟨h9.1, by rw [← h9.1]; exact h9.2⟩
/-! lines -/
theorem ti_turnTo (i a : Int) : k_turnTo i a = if i < a then 1 else if i = a then 0 else -1 := by
  unfold k_turnTo
  by_cases h1 : i < a
  · rw [if_pos h1, if_neg (by omega)]
  · by_cases h2 : i = a
    · rw [if_neg h1, if_pos h2, if_pos (by omega), if_pos (by omega)]
    · rw [if_neg h1, if_neg h2, if_pos (by omega), if_neg (by omega)]
theorem ti_lineLoop {r q : am_F} {s fr xa ya x y sx sy M : Int} (hsx : sx = -1 ∨ sx = 0 ∨ sx = 1) (hsy : sy = -1 ∨ sy = 0 ∨ sy = 1) (hx : x + M * sx = xa) (hy : y + M * sy = ya) (h0 : M = 0 ∨ sx ≠ 0 ∨ sy ≠ 0) (hM : 0 ≤ M ∧ M ≤ 8) (hfr : fr = x + 10 * y) (hx9 : 0 ≤ x ∧ x < 9) (hy9 : 0 ≤ y ∧ y < 9) (hxa : 0 ≤ xa ∧ xa < 9) (hya : 0 ≤ ya ∧ ya < 9) (hQ : FQ s r q) : ∀ (n : Nat) (k v : Int) (f : Nat), k + n = M → 0 ≤ k → n + 1 ≤ f → 0 ≤ v → v ≤ 99 * (k + 1) → (am_wh (w_k_lineOf_36 q xa ya s) f (v, x + k * sx, y + k * sy)).1 = am_fold (g_line r fr (sx + 10 * sy) s) (k + 1) n v := by
  intro n
  induction n with
  | zero =>
    intro k v f hk hk0 hf hv hv2
    obtain ⟨f', rfl⟩ : ∃ f', f = f' + 1 := ⟨f - 1, by omega⟩
    have e : k = M := by omega
    have ew : w_k_lineOf_36 q xa ya s (v, x + k * sx, y + k * sy) = .inr (v, x + k * sx, y + k * sy) := by
      unfold w_k_lineOf_36
      simp only []
      rw [e, if_pos hx, if_pos hy]
    rw [am_wh_r ew]
    rfl
  | succ n ih =>
    intro k v f hk hk0 hf hv hv2
    obtain ⟨f', rfl⟩ : ∃ f', f = f' + 1 := ⟨f - 1, by omega⟩
    have ex : (x + (k + 1) * sx) = (x + k * sx) + sx := by rw [Int.add_mul, Int.one_mul]; omega
    have ey : (y + (k + 1) * sy) = (y + k * sy) + sy := by rw [Int.add_mul, Int.one_mul]; omega
    have hin : (0 ≤ x + (k + 1) * sx ∧ x + (k + 1) * sx < 9) ∧ 0 ≤ y + (k + 1) * sy ∧ y + (k + 1) * sy < 9 := by
      rcases hsx with rfl | rfl | rfl <;> rcases hsy with rfl | rfl | rfl <;> omega
    have htx : k_turnTo (x + k * sx) xa = sx := by
      rw [ti_turnTo]
      rcases hsx with rfl | rfl | rfl
      · rw [if_neg (by omega), if_neg (by omega)]
      · rw [if_neg (by omega), if_pos (by omega)]
      · rw [if_pos (by omega)]
    have hty : k_turnTo (y + k * sy) ya = sy := by
      rw [ti_turnTo]
      rcases hsy with rfl | rfl | rfl
      · rw [if_neg (by omega), if_neg (by omega)]
      · rw [if_neg (by omega), if_pos (by omega)]
      · rw [if_pos (by omega)]
    obtain ⟨q1, q2, q3⟩ := hQ (x + (k + 1) * sx) (y + (k + 1) * sy) hin.1.1 hin.1.2 hin.2.1 hin.2.2
    have ef : fr + (k + 1) * (sx + 10 * sy) = (x + (k + 1) * sx) + 10 * (y + (k + 1) * sy) := by
      rcases hsx with rfl | rfl | rfl <;> rcases hsy with rfl | rfl | rfl <;> omega
    have ew : w_k_lineOf_36 q xa ya s (v, x + k * sx, y + k * sy) = .inl (v + f_fogOn r (fr + (k + 1) * (sx + 10 * sy)) s, x + (k + 1) * sx, y + (k + 1) * sy) := by
      unfold w_k_lineOf_36
      simp only []
      rw [htx, hty, ← ex, ← ey, ← q1, ti_w ⟨by omega, by omega⟩, ef]
      by_cases g : x + k * sx = xa
      · rw [if_pos g, if_neg (by rcases hsx with rfl | rfl | rfl <;> rcases hsy with rfl | rfl | rfl <;> omega)]
      · rw [if_neg g]
    rw [am_wh_l ew, am_fold_s]
    refine ih (k + 1) _ f' (by omega) (by omega) (by omega) ?_ ?_
    · rw [ef]; omega
    · rw [ef]; omega
theorem ti_line {r q : am_F} {s x y xa ya : Int} (hQ : FQ s r q) (hx : 0 ≤ x ∧ x < 9) (hy : 0 ≤ y ∧ y < 9) (hxa : 0 ≤ xa ∧ xa < 9) (hya : 0 ≤ ya ∧ ya < 9) : f_line r (x + 10 * y) (xa + 10 * ya) s = k_lineOf q x y xa ya s := by
  have ew : f_wide (x + 10 * y) (xa + 10 * ya) = if xa ≤ x then x - xa else xa - x := by
    unfold f_wide
    rw [show (xa + 10 * ya) % 10 = xa by omega, show (x + 10 * y) % 10 = x by omega]
    split <;> split <;> omega
  have eh : f_high (x + 10 * y) (xa + 10 * ya) = if ya ≤ y then y - ya else ya - y := by
    unfold f_high
    rw [show (xa + 10 * ya) / 10 = ya by omega, show (x + 10 * y) / 10 = y by omega]
    split <;> split <;> omega
  have est : f_str (x + 10 * y) (xa + 10 * ya) = f_sgn (xa - x) 0 + 10 * f_sgn (ya - y) 0 := by
    unfold f_str
    rw [show (xa + 10 * ya) / 10 = ya by omega, show (x + 10 * y) / 10 = y by omega, show (xa + 10 * ya) % 10 = xa by omega, show (x + 10 * y) % 10 = x by omega]
  unfold f_line
  rw [ew, eh, est]
  have hW : 0 ≤ (if xa ≤ x then x - xa else xa - x) ∧ (if xa ≤ x then x - xa else xa - x) ≤ 8 := by split <;> omega
  have hH : 0 ≤ (if ya ≤ y then y - ya else ya - y) ∧ (if ya ≤ y then y - ya else ya - y) ≤ 8 := by split <;> omega
  have hx1 : f_sgn (xa - x) 0 = -1 ∧ x - (if xa ≤ x then x - xa else xa - x) = xa ∧ (if xa ≤ x then x - xa else xa - x) ≠ 0 ∨ f_sgn (xa - x) 0 = 0 ∧ (if xa ≤ x then x - xa else xa - x) = 0 ∧ x = xa ∨ f_sgn (xa - x) 0 = 1 ∧ x + (if xa ≤ x then x - xa else xa - x) = xa ∧ (if xa ≤ x then x - xa else xa - x) ≠ 0 := by
    unfold f_sgn
    by_cases a1 : xa - x < 0
    · rw [if_pos a1, if_pos (by omega)]; omega
    · by_cases a2 : xa - x = 0
      · rw [if_neg a1, if_pos a2, if_pos (by omega)]; omega
      · rw [if_neg a1, if_neg a2, if_neg (by omega)]; omega
  have hy1 : f_sgn (ya - y) 0 = -1 ∧ y - (if ya ≤ y then y - ya else ya - y) = ya ∧ (if ya ≤ y then y - ya else ya - y) ≠ 0 ∨ f_sgn (ya - y) 0 = 0 ∧ (if ya ≤ y then y - ya else ya - y) = 0 ∧ y = ya ∨ f_sgn (ya - y) 0 = 1 ∧ y + (if ya ≤ y then y - ya else ya - y) = ya ∧ (if ya ≤ y then y - ya else ya - y) ≠ 0 := by
    unfold f_sgn
    by_cases a1 : ya - y < 0
    · rw [if_pos a1, if_pos (by omega)]; omega
    · by_cases a2 : ya - y = 0
      · rw [if_neg a1, if_pos a2, if_pos (by omega)]; omega
      · rw [if_neg a1, if_neg a2, if_neg (by omega)]; omega
  have eL : k_isLine x y xa ya = if (if xa ≤ x then x - xa else xa - x) ≠ 0 ∧ (if ya ≤ y then y - ya else ya - y) ≠ 0 ∧ (if xa ≤ x then x - xa else xa - x) ≠ (if ya ≤ y then y - ya else ya - y) then 0 else 1 := by
    unfold k_isLine
    simp only []
    generalize (if xa ≤ x then x - xa else xa - x) = W
    generalize (if ya ≤ y then y - ya else ya - y) = H
    by_cases a1 : W = 0
    · rw [if_pos a1, if_neg (by omega)]
    · by_cases a2 : H = 0
      · rw [if_neg a1, if_pos a2, if_neg (by omega)]
      · by_cases a3 : W = H
        · rw [if_neg a1, if_neg a2, if_pos a3, if_neg (by omega)]
        · rw [if_neg a1, if_neg a2, if_neg a3, if_pos ⟨a1, a2, a3⟩]
  unfold k_lineOf
  rw [eL]
  generalize (if xa ≤ x then x - xa else xa - x) = W at *
  generalize (if ya ≤ y then y - ya else ya - y) = H at *
  generalize f_sgn (xa - x) 0 = sx at *
  generalize f_sgn (ya - y) 0 = sy at *
  by_cases g : W ≠ 0 ∧ H ≠ 0 ∧ W ≠ H
  · rw [if_pos g, if_pos g]
    rfl
  · rw [if_neg g, if_neg g]
    simp only []
    rw [if_neg (show ¬ (1 : Int) = 0 by decide)]
    obtain ⟨q1, q2, q3⟩ := hQ x y hx.1 hx.2 hy.1 hy.2
    have hM : 0 ≤ (if W < H then H else W) ∧ (if W < H then H else W) ≤ 8 := by split <;> omega
    have hMx : x + (if W < H then H else W) * sx = xa := by
      rcases hx1 with ⟨rfl, a, b⟩ | ⟨rfl, a, b⟩ | ⟨rfl, a, b⟩ <;> split <;> omega
    have hMy : y + (if W < H then H else W) * sy = ya := by
      rcases hy1 with ⟨rfl, a, b⟩ | ⟨rfl, a, b⟩ | ⟨rfl, a, b⟩ <;> split <;> omega
    have hM0 : (if W < H then H else W) = 0 ∨ sx ≠ 0 ∨ sy ≠ 0 := by
      rcases hx1 with ⟨rfl, a, b⟩ | ⟨rfl, a, b⟩ | ⟨rfl, a, b⟩
      · exact Or.inr (Or.inl (by decide))
      · rcases hy1 with ⟨rfl, a3, b3⟩ | ⟨rfl, a3, b3⟩ | ⟨rfl, a3, b3⟩
        · exact Or.inr (Or.inr (by decide))
        · refine Or.inl ?_; split <;> omega
        · exact Or.inr (Or.inr (by decide))
      · exact Or.inr (Or.inl (by decide))
    generalize (if W < H then H else W) = M at *
    rw [show (M + 1).toNat = M.toNat + 1 by omega, am_fold_s]
    have h9 := ti_lineLoop (fr := x + 10 * y) (sx := sx) (sy := sy) (M := M) (by omega) (by omega) hMx hMy hM0 hM rfl hx hy hxa hya hQ M.toNat 0 (q (159 + (s + 1).toNat) (x + 9 * y).toNat) 17 (by omega) (by omega) (by omega) (by omega) (by omega)
    rw [Int.zero_mul, Int.zero_mul, Int.add_zero, Int.add_zero] at h9
    rw [h9]
    congr 1
    unfold g_line
    rw [Int.zero_mul, Int.add_zero, Int.zero_add]
    exact q1
