/-! THE TIE: what a call tells, on both sides -/
def RE (e q : am_F) : Prop := ∀ j : Nat, j < 3 → e 2 j = q 2 j
/-- the class's end (code, value, header) beside the model's (value, heap) -/
def TO (a code v : Int) (e e' : am_F) (kv : Int) (q' : am_F) : Prop := (code = 0 ∧ q' 0 0 = 0 ∧ v = kv ∧ e' = e ∧ RE e q') ∨ ((code = 1 ∨ code = 2 ∨ code = 3) ∧ q' 0 0 = (if code = a then 1 else 2) ∧ e' = n_ref e code ∧ RE (n_ref e code) q')
theorem TO_ok {a v kv : Int} {e q' : am_F} (h0 : q' 0 0 = 0) (hv : v = kv) (hR : RE e q') : TO a 0 v e e kv q' := Or.inl ⟨rfl, h0, hv, rfl, hR⟩
theorem RE_put {e q : am_F} {v : Int} (h : RE e q) : RE e (am_put q 0 0 v) := fun j hj => by rw [am_put_k (by decide)]; exact h j hj
theorem TO_ref {a code v kv what rs : Int} {e q : am_F} (hc : code = 1 ∨ code = 2 ∨ code = 3) (hw : what = if code = a then 1 else 2) (hr : rs = code - 1) (hR : RE e q) : TO a code v e (n_ref e code) kv (k_refuse (am_put q 0 0 0) 1 what rs) := by
  have e1 : k_refuse (am_put q 0 0 0) 1 what rs = am_put (am_put (am_put q 0 0 0) 0 0 what) 2 rs.toNat (am_w32 (am_put q 0 0 0 2 rs.toNat + 1)) := by
    unfold k_refuse
    rw [if_neg (by decide)]
  rw [e1, hr]
  refine Or.inr ⟨hc, by rw [am_put_k (by decide), am_put_s, hw], rfl, fun j hj => ?_⟩
  unfold n_ref
  by_cases g : j = (code - 1).toNat
  · rw [g, am_put_s, am_put_s, am_put_k (by decide), hR _ (by omega)]
  · rw [am_put_i g, am_put_i g, am_put_k (by decide), am_put_k (by decide)]
    exact hR j hj
theorem k_refuse0 (q : am_F) (what rs : Int) : k_refuse q 0 what rs = q := if_pos rfl
theorem ti_rng (v lo hi : Int) : (n_range v lo hi = 0 ∧ k_in v lo hi = 1 ∧ lo ≤ v ∧ v ≤ hi) ∨ (n_range v lo hi = 3 ∧ k_in v lo hi = 0 ∧ (v < lo ∨ hi < v)) := by
  unfold n_range k_in
  by_cases h1 : v < lo
  · exact Or.inr ⟨if_pos (Or.inl h1), if_pos h1, Or.inl h1⟩
  · by_cases h2 : hi < v
    · exact Or.inr ⟨if_pos (Or.inr h2), by rw [if_neg h1, if_pos h2], Or.inr h2⟩
    · exact Or.inl ⟨if_neg (by omega), by rw [if_neg h1, if_neg h2], by omega, by omega⟩
theorem ti_stp (t : Int) : (n_step t = 0 ∧ k_isStep t = 1 ∧ 0 ≤ t ∧ t ≤ 39) ∨ (n_step t = 3 ∧ k_isStep t = 0 ∧ (t < 0 ∨ 39 < t)) := ti_rng t 0 39
theorem ti_fst (t : Int) : (n_range t (-1) 39 = 0 ∧ k_isFirst t = 1 ∧ -1 ≤ t ∧ t ≤ 39) ∨ (n_range t (-1) 39 = 3 ∧ k_isFirst t = 0 ∧ (t < -1 ∨ 39 < t)) := ti_rng t (-1) 39
theorem ti_cel {h c : am_F} (hH : h 0 0 = c 4 0 ∧ h 0 1 = c 4 1) (x y : Int) : (n_cell h x y = 0 ∧ k_isIn c x y = 1 ∧ (0 ≤ x ∧ x < c 4 0) ∧ 0 ≤ y ∧ y < c 4 1) ∨ (n_cell h x y = 1 ∧ k_isIn c x y = 0) := by
  rw [ti_isIn hH]
  unfold n_cell
  rcases f_has_x h x y with g | g
  · exact Or.inr ⟨by rw [if_pos g], g⟩
  · rw [hH.1, hH.2] at g
    exact Or.inl ⟨by rw [if_neg (by omega)], g.1, ⟨g.2.1, g.2.2.1⟩, g.2.2.2.1, g.2.2.2.2⟩
theorem ti_rw {n m : Int} (h : n = m) (k : Int) : (n_row n k = 0 ∧ k_in k 0 (m - 1) = 1 ∧ 0 ≤ k ∧ k < m) ∨ (n_row n k = 2 ∧ k_in k 0 (m - 1) = 0) := by
  subst h
  unfold n_row k_in
  by_cases h1 : k < 0
  · exact Or.inr ⟨by rw [if_neg (by omega)], if_pos h1⟩
  · by_cases h2 : n - 1 < k
    · exact Or.inr ⟨by rw [if_neg (by omega)], by rw [if_neg h1, if_pos h2]⟩
    · exact Or.inl ⟨if_pos (by omega), by rw [if_neg h1, if_neg h2], by omega, by omega⟩
/-! what both sides know of the port -/
def TWk (h c : am_F) : Prop := h 0 8 = c 4 4 ∧ ∀ w : Int, 0 ≤ w → w < c 4 4 → (f_comes h w = c (108 + w.toNat) 2 ∧ f_moves h w = c (108 + w.toNat) 3) ∧ ∀ m : Nat, (m : Int) ≤ f_moves h w → f_pathAt h w m = (am_fold (g_k_placeOf_52 c w) 0 m (c (108 + w.toNat) 0, c (108 + w.toNat) 1)).1 + 10 * (am_fold (g_k_placeOf_52 c w) 0 m (c (108 + w.toNat) 0, c (108 + w.toNat) 1)).2 ∧ (0 ≤ (am_fold (g_k_placeOf_52 c w) 0 m (c (108 + w.toNat) 0, c (108 + w.toNat) 1)).1 ∧ (am_fold (g_k_placeOf_52 c w) 0 m (c (108 + w.toNat) 0, c (108 + w.toNat) 1)).1 < c 4 0) ∧ 0 ≤ (am_fold (g_k_placeOf_52 c w) 0 m (c (108 + w.toNat) 0, c (108 + w.toNat) 1)).2 ∧ (am_fold (g_k_placeOf_52 c w) 0 m (c (108 + w.toNat) 0, c (108 + w.toNat) 1)).2 < c 4 1
def TWt (h c : am_F) : Prop := h 0 9 = c 4 5 ∧ ∀ i : Int, 0 ≤ i → i < c 4 5 → f_at (h 0 9) (h 7) i 0 = c (118 + i.toNat) 0 + 10 * c (118 + i.toNat) 1 ∧ (0 ≤ c (118 + i.toNat) 0 ∧ c (118 + i.toNat) 0 < c 4 0) ∧ 0 ≤ c (118 + i.toNat) 1 ∧ c (118 + i.toNat) 1 < c 4 1
def TSh (h c : am_F) : Prop := h 0 10 = c 4 6 ∧ ∀ i : Int, 0 ≤ i → i < c 4 6 → f_at (h 0 10) (h 8) i 0 = c (128 + i.toNat) 0 ∧ f_at (h 0 10) (h 8) i 1 = c (128 + i.toNat) 1 ∧ 0 ≤ c (128 + i.toNat) 0 ∧ c (128 + i.toNat) 0 < c 4 0
def TLt (h c : am_F) : Prop := MdL c ∧ (∀ k : Int, 0 ≤ k → k < c 4 3 → f_at (h 0 7) (h 5) k 0 = c (96 + k.toNat) 4 ∧ f_at (h 0 7) (h 5) k 1 = c (96 + k.toNat) 5 ∧ f_at (h 0 7) (h 5) k 2 = (c (96 + k.toNat) 2 - c (96 + k.toNat) 0 + 1) * (c (96 + k.toNat) 3 - c (96 + k.toNat) 1 + 1)) ∧ ∀ k x y : Int, 0 ≤ k → k < c 4 3 → c (96 + k.toNat) 0 ≤ x → x ≤ c (96 + k.toNat) 2 → c (96 + k.toNat) 1 ≤ y → y ≤ c (96 + k.toNat) 3 → k_lotOf c x y = k
def TN (h c : am_F) : Prop := h 0 2 = c 4 7 ∧ h 0 5 = c 4 2 ∧ c 0 45 = c 4 2
def HC (h c : am_F) : Prop := HbI h ∧ MdV c ∧ TH h c ∧ TN h c ∧ TWk h c ∧ TWt h c ∧ TSh h c ∧ TLt h c
theorem ti_go_0 {c q : am_F} (hV : MdV c) : k_goes c q 0 0 = q 0 0 := (KF_goes hV).2 0 (by decide)
theorem RE_go {e c q : am_F} (hV : MdV c) (h : RE e q) : RE e (k_goes c q) := fun j hj => by rw [(KF_goes hV).1 2 (Or.inl rfl)]; exact h j hj
/-- the cells of both sides: nowhere, or the same place -/
def PC (c : am_F) (n m : Int) : Prop := (n = -1 ∧ m = -1) ∨ ∃ x y : Int, (0 ≤ x ∧ x < c 4 0) ∧ (0 ≤ y ∧ y < c 4 1) ∧ n = x + 10 * y ∧ m = x + 9 * y
theorem ti_place {h c : am_F} (hW : TWk h c) {w s : Int} (hw : 0 ≤ w ∧ w < c 4 4) (hs : 0 ≤ s ∧ s < 40) : PC c (f_cellOf h w s) (k_placeOf c w s) := by
  obtain ⟨⟨h1, h2⟩, h3⟩ := hW.2 w hw.1 hw.2
  unfold f_cellOf k_placeOf f_leaves
  simp only []
  rw [← h1, ← h2]
  by_cases a1 : s - f_comes h w < 0
  · rw [if_neg (by omega), if_pos a1]
    exact Or.inl ⟨rfl, rfl⟩
  · rw [if_neg a1]
    by_cases a2 : s - f_comes h w ≤ f_moves h w
    · rw [if_pos a2, if_pos ⟨by omega, by split <;> omega⟩]
      obtain ⟨b1, b2, b3⟩ := h3 (s - f_comes h w).toNat (by omega)
      rw [show (((s - f_comes h w).toNat : Nat) : Int) = s - f_comes h w by omega] at b1
      exact Or.inr ⟨_, _, b2, b3, b1, rfl⟩
    · rw [if_neg a2, if_neg (fun g => a2 (by have := g.2; split at this <;> omega))]
      exact Or.inl ⟨rfl, rfl⟩
theorem PC_10 {c : am_F} {n m : Int} (hV : MdV c) (h : PC c n m) : n = k_told10 m := by
  have h0 := hV.1
  unfold k_told10
  rcases h with ⟨rfl, rfl⟩ | ⟨x, y, h1, h2, rfl, rfl⟩
  · rfl
  · rw [if_neg (by omega)]
    omega
/-! the calls: fog, sums, led, line, where, lot -/
theorem to_fog {e h c r q : am_F} {x y t : Int} (hC : HC h c) (hB : BaseI h c r) (hR : RE e q) : TO 1 (c_fog e h r x y t).1 (c_fog e h r x y t).2.1 e (c_fog e h r x y t).2.2.1 (k_fog c q x y t).1 (k_fog c q x y t).2 ∧ BaseI h c (c_fog e h r x y t).2.2.2 := by
  obtain ⟨hHI, hV, hT, -⟩ := hC
  have hv1 := hV.1
  have hv2 := hV.2.1
  unfold c_fog k_fog
  rcases ti_cel hT.1 x y with ⟨a1, a2, a3, a4⟩ | ⟨a1, a2⟩
  · rcases ti_fst t with ⟨b1, b2, b3⟩ | ⟨b1, b2, b3⟩
    · simp only [a1, a2, b1, b2, reduceIte, Int.reduceEq, k_refuse0]
      refine ⟨TO_ok (by rw [ti_go_0 hV, am_put_s]) ?_ (RE_go hV (RE_put hR)), (Base_upTo hHI.1 hT hB (by omega)).1⟩
      exact (Base_fog hHI.1 hT hB (st := t) (s := t) (by omega) (by omega) (am_put q 0 0 0) x y a3.1 (by omega) a4.1 (by omega)).1
    · simp only [a1, a2, b1, b2, reduceIte, Int.reduceEq, k_refuse0]
      exact ⟨TO_ref (by decide) (by decide) (by decide) hR, hB⟩
  · simp only [a1, a2, reduceIte, Int.reduceEq, k_refuse0]
    exact ⟨TO_ref (by decide) (by decide) (by decide) hR, hB⟩
