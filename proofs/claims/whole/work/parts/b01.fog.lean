/-! THE TIE: the fog of one step, the class's row p beside the model's row k -/
def TF (k : Nat) (p : Int) (r q : am_F) : Prop := (∀ x y : Int, 0 ≤ x → x < 9 → 0 ≤ y → y < 9 → r 1 (p * 90 + (x + 10 * y)).toNat = q k (x + 9 * y).toNat) ∧ ∀ y : Int, 0 ≤ y → y < 9 → r 1 (p * 90 + (9 + 10 * y)).toNat = 0
def T3 (p : Int) (r q : am_F) : Prop := r 3 p.toNat = q (201 + p.toNat) 1 ∧ am_w32 (r 3 p.toNat) = r 3 p.toNat
def T4 (p : Int) (r q : am_F) : Prop := r 4 p.toNat = q (201 + p.toNat) 2 ∧ am_w32 (r 4 p.toNat) = r 4 p.toNat
def T5 (p : Int) (r q : am_F) : Prop := r 5 p.toNat = q (201 + p.toNat) 3 ∧ am_w32 (r 5 p.toNat) = r 5 p.toNat
def T6 (p : Int) (r q : am_F) : Prop := r 6 p.toNat = q 267 (p - 1).toNat ∧ am_w32 (r 6 p.toNat) = r 6 p.toNat
def T7 (L p : Int) (r q : am_F) : Prop := ∀ l : Int, 0 ≤ l → l < L → r 7 (l * 41 + p).toNat = q (243 + l.toNat) p.toNat ∧ am_w32 (r 7 (l * 41 + p).toNat) = r 7 (l * 41 + p).toNat
def T8 (L : Int) (r q : am_F) : Prop := ∀ l x y : Int, 0 ≤ l → l < L → 0 ≤ x → x < 9 → 0 ≤ y → y < 9 → r 8 (l * 90 + (x + 10 * y)).toNat = q (251 + l.toNat) (x + 9 * y).toNat ∧ am_w32 (r 8 (l * 90 + (x + 10 * y)).toNat) = r 8 (l * 90 + (x + 10 * y)).toNat
def T9 (r q : am_F) : Prop := ∀ a e : Int, 0 ≤ a → a < 6 → 0 ≤ e → e < 6 → r 9 (a * 6 + e).toNat = q (259 + a.toNat) e.toNat ∧ am_w32 (r 9 (a * 6 + e).toNat) = r 9 (a * 6 + e).toNat
def TS (L p : Int) (r q : am_F) : Prop := T3 p r q ∧ T4 p r q ∧ T5 p r q ∧ T6 p r q ∧ T7 L p r q ∧ T8 L r q ∧ T9 r q
theorem TF_put {k : Nat} {p : Int} {r q : am_F} {x0 y0 v : Int} (h : TF k p r q) (hp : 0 ≤ p) (hx : 0 ≤ x0 ∧ x0 < 9) (hy : 0 ≤ y0 ∧ y0 < 9) : TF k p (am_put r 1 (p * 90 + (x0 + 10 * y0)).toNat v) (am_put q k (x0 + 9 * y0).toNat v) := by
  refine ⟨fun x y h1 h2 h3 h4 => ?_, fun y h3 h4 => ?_⟩
  · by_cases e : x = x0 ∧ y = y0
    · rw [e.1, e.2, am_put_s, am_put_s]
    · rw [am_put_i (by omega), am_put_i (by omega)]
      exact h.1 x y h1 h2 h3 h4
  · rw [am_put_i (by omega)]
    exact h.2 y h3 h4
theorem TF_k {k : Nat} {p : Int} {r q r' q' : am_F} (h : TF k p r q) (hr : r' 1 = r 1) (hq : q' k = q k) : TF k p r' q' := by
  unfold TF
  rw [hr, hq]
  exact h
theorem am_put_same (r : am_F) (k i : Nat) : am_put r k i (r k i) = r := by
  funext k' j
  by_cases h : k' = k
  · by_cases h2 : j = i
    · rw [h, h2, am_put_s]
    · rw [h, am_put_i h2]
  · rw [am_put_k h]
/-- the rows of the sums as they were -/
theorem TS_k {L p : Int} {r q r' q' : am_F} (h : TS L p r q) (hL : L ≤ 7) (hp : 0 ≤ p ∧ p ≤ 40) (hr : ∀ k, 3 ≤ k → r' k = r k) (hq : ∀ k, 201 ≤ k → k ≤ 264 → q' k = q k) (h7 : q' 267 = q 267) : TS L p r' q' := by
  obtain ⟨h1, h2, h3, h4, h5, h6, h8⟩ := h
  refine ⟨?_, ?_, ?_, ?_, ?_, ?_, ?_⟩
  · unfold T3; rw [hr 3 (by omega), hq _ (by omega) (by omega)]; exact h1
  · unfold T4; rw [hr 4 (by omega), hq _ (by omega) (by omega)]; exact h2
  · unfold T5; rw [hr 5 (by omega), hq _ (by omega) (by omega)]; exact h3
  · unfold T6; rw [hr 6 (by omega), h7]; exact h4
  · intro l a1 a2; rw [hr 7 (by omega), hq _ (by omega) (by omega)]; exact h5 l a1 a2
  · intro l x y a1 a2 a3 a4 a5 a6; rw [hr 8 (by omega), hq _ (by omega) (by omega)]; exact h6 l x y a1 a2 a3 a4 a5 a6
  · intro a e a1 a2 a3 a4; rw [hr 9 (by omega), hq _ (by omega) (by omega)]; exact h8 a e a1 a2 a3 a4
/-- what is in the port -/
theorem ti_isIn {h c : am_F} (hH : h 0 0 = c 4 0 ∧ h 0 1 = c 4 1) (x y : Int) : k_isIn c x y = f_has h x y := by
  unfold k_isIn f_has k_in
  rw [hH.1, hH.2]
  by_cases h1 : 0 ≤ x ∧ x < c 4 0 ∧ 0 ≤ y ∧ y < c 4 1
  · rw [if_pos h1, if_neg (show ¬ x < 0 by omega), if_neg (show ¬ c 4 0 - 1 < x by omega), if_neg (show ¬ y < 0 by omega), if_neg (show ¬ c 4 1 - 1 < y by omega)]
    rfl
  · rw [if_neg h1]
    by_cases a1 : x < 0
    · rw [if_pos a1]; rfl
    · by_cases a2 : c 4 0 - 1 < x
      · rw [if_neg a1, if_pos a2]; rfl
      · by_cases a3 : y < 0
        · rw [if_neg a1, if_neg a2, if_pos a3]; rfl
        · rw [if_neg a1, if_neg a2, if_neg a3, if_pos (show c 4 1 - 1 < y by omega)]; rfl
def TLo (h c : am_F) : Prop := ∀ x y : Int, 0 ≤ x → x < c 4 0 → 0 ≤ y → y < c 4 1 → f_lotOn h (x + 10 * y) = k_lotOf c x y

theorem TF_out {k j : Nat} {p v : Int} {r q : am_F} (h : TF k p r q) (hp : 0 ≤ p) (hj : (p + 1) * 90 ≤ (j : Int)) : TF k p (am_put r 1 j v) q := by
  refine ⟨fun x y h1 h2 h3 h4 => ?_, fun y h3 h4 => ?_⟩
  · rw [am_put_i (by omega)]
    exact h.1 x y h1 h2 h3 h4
  · rw [am_put_i (by omega)]
    exact h.2 y h3 h4
theorem TS_1 {L p : Int} {r q : am_F} (h : TS L p r q) (hL : L ≤ 7) (hp : 0 ≤ p ∧ p ≤ 40) (i : Nat) (v : Int) : TS L p (am_put r 1 i v) q :=
  TS_k h hL hp (fun k hk => am_put_kr (by omega)) (fun _ _ _ => rfl) rfl
theorem TS_q {L p : Int} {r q : am_F} (h : TS L p r q) (hL : L ≤ 7) (hp : 0 ≤ p ∧ p ≤ 40) (k i : Nat) (v : Int) (hk : k < 201 ∨ 265 ≤ k ∧ k ≠ 267) : TS L p r (am_put q k i v) :=
  TS_k h hL hp (fun _ _ => rfl) (fun k' h1 h2 => am_put_kr (by omega)) (am_put_kr (by omega))
theorem TS_6 {L p v : Int} {r q : am_F} (h : TS L p r q) (hL : L ≤ 7) (hp : 0 ≤ p ∧ p ≤ 40) (hv : am_w32 v = v) : TS L p (am_put r 6 p.toNat v) (am_put q 267 (p - 1).toNat v) := by
  obtain ⟨h1, h2, h3, h4, h5, h6, h8⟩ := h
  refine ⟨?_, ?_, ?_, ⟨by rw [am_put_s, am_put_s], by rw [am_put_s]; exact hv⟩, ?_, ?_, ?_⟩
  · unfold T3; simp (disch := omega) only [am_put_k]; exact h1
  · unfold T4; simp (disch := omega) only [am_put_k]; exact h2
  · unfold T5; simp (disch := omega) only [am_put_k]; exact h3
  · intro l a1 a2; simp (disch := omega) only [am_put_k]; exact h5 l a1 a2
  · intro l x y a1 a2 a3 a4 a5 a6; simp (disch := omega) only [am_put_k]; exact h6 l x y a1 a2 a3 a4 a5 a6
  · intro a e a1 a2 a3 a4; simp (disch := omega) only [am_put_k]; exact h8 a e a1 a2 a3 a4
theorem TS_3 {L p v : Int} {r q : am_F} (h : TS L p r q) (hL : L ≤ 7) (hp : 0 ≤ p ∧ p ≤ 40) (hv : am_w32 v = v) : TS L p (am_put r 3 p.toNat v) (am_put q (201 + p.toNat) 1 v) := by
  obtain ⟨h1, h2, h3, h4, h5, h6, h8⟩ := h
  refine ⟨⟨by rw [am_put_s, am_put_s], by rw [am_put_s]; exact hv⟩, ?_, ?_, ?_, ?_, ?_, ?_⟩
  · unfold T4; simp (disch := omega) only [am_put_k, am_put_i]; exact h2
  · unfold T5; simp (disch := omega) only [am_put_k, am_put_i]; exact h3
  · unfold T6; simp (disch := omega) only [am_put_k]; exact h4
  · intro l a1 a2; simp (disch := omega) only [am_put_k]; exact h5 l a1 a2
  · intro l x y a1 a2 a3 a4 a5 a6; simp (disch := omega) only [am_put_k]; exact h6 l x y a1 a2 a3 a4 a5 a6
  · intro a e a1 a2 a3 a4; simp (disch := omega) only [am_put_k]; exact h8 a e a1 a2 a3 a4
theorem TS_9 {L p v a0 e0 : Int} {r q : am_F} (h : TS L p r q) (hL : L ≤ 7) (hp : 0 ≤ p ∧ p ≤ 40) (hv : am_w32 v = v) (ha : 0 ≤ a0 ∧ a0 < 6) (he : 0 ≤ e0 ∧ e0 < 6) : TS L p (am_put r 9 (a0 * 6 + e0).toNat v) (am_put q (259 + a0.toNat) e0.toNat v) := by
  obtain ⟨h1, h2, h3, h4, h5, h6, h8⟩ := h
  refine ⟨?_, ?_, ?_, ?_, ?_, ?_, ?_⟩
  · unfold T3; simp (disch := omega) only [am_put_k]; exact h1
  · unfold T4; simp (disch := omega) only [am_put_k]; exact h2
  · unfold T5; simp (disch := omega) only [am_put_k]; exact h3
  · unfold T6; simp (disch := omega) only [am_put_k]; exact h4
  · intro l a1 a2; simp (disch := omega) only [am_put_k]; exact h5 l a1 a2
  · intro l x y a1 a2 a3 a4 a5 a6; simp (disch := omega) only [am_put_k]; exact h6 l x y a1 a2 a3 a4 a5 a6
  · intro a e a1 a2 a3 a4
    by_cases q1 : a = a0
    · by_cases q2 : e = e0
      · subst q1; subst q2
        rw [am_put_s, am_put_s]
        exact ⟨rfl, hv⟩
      · subst q1
        simp (disch := omega) only [am_put_i]
        exact h8 a e a1 a2 a3 a4
    · simp (disch := omega) only [am_put_i, am_put_k]
      exact h8 a e a1 a2 a3 a4
/-- one cell's wind of the model, m yards -/
def ti_n (t y x m : Int) (q : am_F) : am_F := am_put (am_put q 266 (x + 9 * y).toNat (am_w32 (q 266 (x + 9 * y).toNat - m))) 267 t.toNat (am_w32 (q 267 t.toNat + m))
def ti_o (t dx dy y x m : Int) (q : am_F) : am_F := am_put (ti_n t y x m q) 266 ((x + dx) + 9 * (y + dy)).toNat (am_w32 (am_put q 266 (x + 9 * y).toNat (am_w32 (q 266 (x + 9 * y).toNat - m)) 266 ((x + dx) + 9 * (y + dy)).toNat + m))
def ti_m (c : am_F) (t dx dy y x m : Int) (q : am_F) : am_F :=
  if k_isIn c (x + dx) (y + dy) = 0 then am_put (ti_n t y x m q) (201 + (t + 1).toNat) 1 (am_w32 (q (201 + (t + 1).toNat) 1 + m))
  else if k_lotOf c x y = -1 then ti_o t dx dy y x m q
  else if k_lotOf c (x + dx) (y + dy) = -1 then ti_o t dx dy y x m q
  else if k_lotOf c x y = k_lotOf c (x + dx) (y + dy) then ti_o t dx dy y x m q
  else am_put (ti_o t dx dy y x m q) (259 + (k_lotOf c x y).toNat) (k_lotOf c (x + dx) (y + dy)).toNat (am_w32 (ti_o t dx dy y x m q (259 + (k_lotOf c x y).toNat) (k_lotOf c (x + dx) (y + dy)).toNat + m))
theorem ti_m_eq {c : am_F} {t dx dy wk y x m : Int} {q : am_F} (h : (am_w32 (q 265 (x + 9 * y).toNat * c (21 + wk.toNat) 3)).tdiv 8 = m) : g_k_blows_182 c t dx dy wk y x q = ti_m c t dx dy y x m q := by
  subst h
  rfl
/-- the wind of one cell, on both sides -/
theorem ti_carry {L : Int} {h c r q : am_F} {s x y way dx dy m k : Int} (hH : h 0 0 = c 4 0 ∧ h 0 1 = c 4 1) (hV : HbV h) (hlo : TLo h c) (hLt : LotB h) (hL : L ≤ 7) (hs : 0 ≤ s ∧ s < 40) (hx : 0 ≤ x ∧ x < c 4 0) (hy : 0 ≤ y ∧ y < c 4 1) (hdx : dx = way / 3 - 1) (hdy : dy = way % 3 - 1) (hm : 0 ≤ m ∧ m ≤ 99) (hB : BlI s k r) (hk : 0 ≤ k ∧ k ≤ 1000) (h5 : TF 265 s r q) (h6 : TF 266 (s + 1) r q) :
    (TF 265 s (f_carry h r s (x + 10 * y) way m) (ti_m c s dx dy y x m q) ∧ TF 266 (s + 1) (f_carry h r s (x + 10 * y) way m) (ti_m c s dx dy y x m q)) ∧ (TS L (s + 1) r q → TS L (s + 1) (f_carry h r s (x + 10 * y) way m) (ti_m c s dx dy y x m q)) := by
  obtain ⟨v1, v2, v3, v4, -⟩ := hV
  have e1 : (x + 10 * y) % 10 + way / 3 - 1 = x + dx := by omega
  have e2 : (x + 10 * y) / 10 + way % 3 - 1 = y + dy := by omega
  have hc : r 1 ((s + 1) * 90 + (x + 10 * y)).toNat - m = am_w32 (q 266 (x + 9 * y).toNat - m) := by
    rw [← h6.1 x y hx.1 (by omega) hy.1 (by omega)]
    have := hB.1 ((s + 1) * 90 + (x + 10 * y)).toNat
    exact (ti_w ⟨by omega, by omega⟩).symm
  -- behind the first two puts
  have a5 : TF 265 s (f_carry1 r s (x + 10 * y) m) (ti_n s y x m q) := by
    unfold f_carry1 ti_n
    exact TF_k (TF_out (r := am_put r 6 (s + 1).toNat (am_w32 (r 6 (s + 1).toNat + m))) (TF_k h5 (am_put_kr (by decide)) rfl) hs.1 (by omega)) rfl ((am_put_kr (by decide)).trans (am_put_kr (by decide)))
  have a6 : TF 266 (s + 1) (f_carry1 r s (x + 10 * y) m) (ti_n s y x m q) := by
    unfold f_carry1 ti_n
    rw [hc]
    exact TF_k (TF_put (r := am_put r 6 (s + 1).toNat (am_w32 (r 6 (s + 1).toNat + m))) (v := am_w32 (q 266 (x + 9 * y).toNat - m)) (TF_k h6 (am_put_kr (by decide)) rfl) (by omega) ⟨hx.1, by omega⟩ ⟨hy.1, by omega⟩) rfl (am_put_kr (by decide))
  have aS : TS L (s + 1) r q → TS L (s + 1) (f_carry1 r s (x + 10 * y) m) (ti_n s y x m q) := by
    intro hS
    have hS6 := hS.2.2.2.1
    unfold f_carry1 ti_n
    have e3 : s + 1 - 1 = s := by omega
    have hT := TS_6 (TS_q hS hL (by omega) 266 (x + 9 * y).toNat (am_w32 (q 266 (x + 9 * y).toNat - m)) (by omega)) hL (by omega) (ti_ww (r 6 (s + 1).toNat + m))
    unfold T6 at hS6
    rw [e3] at hT hS6
    rw [← hS6.1]
    exact TS_1 hT hL (by omega) _ _
  unfold f_carry
  rw [e1, e2]
  unfold ti_m
  rw [ti_isIn hH]
  by_cases h1 : f_has h (x + dx) (y + dy) = 0
  · rw [if_pos h1, if_pos h1]
    refine ⟨⟨TF_k a5 (am_put_kr (by decide)) (am_put_kr (by omega)), TF_k a6 (am_put_kr (by decide)) (am_put_kr (by omega))⟩, fun hS => ?_⟩
    have e4 : q (201 + (s + 1).toNat) 1 = r 3 (s + 1).toNat := hS.1.1.symm
    rw [e4]
    exact TS_3 (aS hS) hL (by omega) (ti_ww _)
  · rw [if_neg h1, if_neg h1]
    have hin : (0 ≤ x + dx ∧ x + dx < c 4 0) ∧ 0 ≤ y + dy ∧ y + dy < c 4 1 := by
      rcases f_has_x h (x + dx) (y + dy) with g | g
      · exact absurd g h1
      · rw [hH.1, hH.2] at g
        exact ⟨⟨g.2.1, g.2.2.1⟩, g.2.2.2.1, g.2.2.2.2⟩
    have hb1 : ∀ j, -(99 + 99 * k) - 99 ≤ f_carry1 r s (x + 10 * y) m 1 j ∧ f_carry1 r s (x + 10 * y) m 1 j ≤ 99 + 99 * k := fun j => by
      rw [f_carry1_at]
      have := hB.1 j
      have := hB.1 ((s + 1) * 90 + (x + 10 * y)).toNat
      split <;> omega
    have hc2 : f_carry1 r s (x + 10 * y) m 1 ((s + 1) * 90 + ((x + dx) + 10 * (y + dy))).toNat + m = am_w32 (am_put q 266 (x + 9 * y).toNat (am_w32 (q 266 (x + 9 * y).toNat - m)) 266 ((x + dx) + 9 * (y + dy)).toNat + m) := by
      have e5 := a6.1 (x + dx) (y + dy) hin.1.1 (by omega) hin.2.1 (by omega)
      have e6 : ti_n s y x m q 266 = am_put q 266 (x + 9 * y).toNat (am_w32 (q 266 (x + 9 * y).toNat - m)) 266 := am_put_kr (by decide)
      rw [e6] at e5
      rw [← e5]
      have := hb1 ((s + 1) * 90 + ((x + dx) + 10 * (y + dy))).toNat
      exact (ti_w ⟨by omega, by omega⟩).symm
    have b5 : TF 265 s (f_carry2 r s (x + 10 * y) m ((x + dx) + 10 * (y + dy))) (ti_o s dx dy y x m q) := by
      unfold f_carry2 ti_o
      exact TF_k (TF_out a5 hs.1 (by omega)) rfl (am_put_kr (by decide))
    have b6 : TF 266 (s + 1) (f_carry2 r s (x + 10 * y) m ((x + dx) + 10 * (y + dy))) (ti_o s dx dy y x m q) := by
      unfold f_carry2 ti_o
      rw [hc2]
      exact TF_put a6 (by omega) ⟨hin.1.1, by omega⟩ ⟨hin.2.1, by omega⟩
    have bS : TS L (s + 1) r q → TS L (s + 1) (f_carry2 r s (x + 10 * y) m ((x + dx) + 10 * (y + dy))) (ti_o s dx dy y x m q) := by
      intro hS
      unfold f_carry2 ti_o
      exact TS_1 (TS_q (aS hS) hL (by omega) 266 _ _ (by omega)) hL (by omega) _ _
    rw [hlo x y hx.1 hx.2 hy.1 hy.2, hlo (x + dx) (y + dy) hin.1.1 hin.1.2 hin.2.1 hin.2.2]
    have l1 := hLt (x + 10 * y)
    have l2 := hLt ((x + dx) + 10 * (y + dy))
    rw [hlo x y hx.1 hx.2 hy.1 hy.2] at l1
    rw [hlo (x + dx) (y + dy) hin.1.1 hin.1.2 hin.2.1 hin.2.2] at l2
    by_cases h2 : k_lotOf c x y = -1
    · rw [if_neg (by omega), if_pos h2]
      exact ⟨⟨b5, b6⟩, bS⟩
    · by_cases h3 : k_lotOf c (x + dx) (y + dy) = -1
      · rw [if_neg (by omega), if_neg h2, if_pos h3]
        exact ⟨⟨b5, b6⟩, bS⟩
      · by_cases h4 : k_lotOf c x y = k_lotOf c (x + dx) (y + dy)
        · rw [if_neg (by omega), if_neg h2, if_neg h3, if_pos h4]
          exact ⟨⟨b5, b6⟩, bS⟩
        · rw [if_pos (by omega), if_neg h2, if_neg h3, if_neg h4]
          refine ⟨⟨TF_k b5 (am_put_kr (by decide)) (am_put_kr (by omega)), TF_k b6 (am_put_kr (by decide)) (am_put_kr (by omega))⟩, fun hS => ?_⟩
          have e7 := ((bS hS).2.2.2.2.2.2 (k_lotOf c x y) (k_lotOf c (x + dx) (y + dy)) (by omega) (by omega) (by omega) (by omega)).1
          rw [← e7]
          exact TS_9 (bS hS) hL (by omega) (ti_ww _) (by omega) (by omega)
