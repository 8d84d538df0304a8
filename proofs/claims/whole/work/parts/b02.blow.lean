/-! THE TIE: the wind -/
theorem BlI_mono {s k k' : Int} {r : am_F} (h : BlI s k r) (hk : k ≤ k') : BlI s k' r := ⟨fun j => by have := h.1 j; omega, h.2⟩
theorem ti_carry0_1 (h r : am_F) (s cell way : Int) : f_carry h r s cell way 0 1 = r 1 := by
  have e1 : f_carry1 r s cell 0 1 = r 1 := by
    funext j
    rw [f_carry1_at]
    split
    · rename_i e; rw [e, Int.sub_zero]
    · rfl
  have e2 : ∀ t, f_carry2 r s cell 0 t 1 = r 1 := fun t => by
    funext j
    rw [f_carry2_at, e1]
    split
    · rename_i e; rw [e, Int.add_zero]
    · rfl
  unfold f_carry
  split
  · exact (am_put_kr (by decide)).trans e1
  · split
    · exact (am_put_kr (by decide)).trans (e2 _)
    · exact e2 _
theorem ti_carry0 {h r : am_F} {s cell way : Int} (hLt : LotB h) (h3 : am_w32 (r 3 (s + 1).toNat) = r 3 (s + 1).toNat) (h6 : am_w32 (r 6 (s + 1).toNat) = r 6 (s + 1).toNat) (h9 : ∀ a e : Int, 0 ≤ a → a < 6 → 0 ≤ e → e < 6 → am_w32 (r 9 (a * 6 + e).toNat) = r 9 (a * 6 + e).toNat) : f_carry h r s cell way 0 = r := by
  have e1 : f_carry1 r s cell 0 = r := by unfold f_carry1; rw [Int.add_zero, h6, am_put_same, Int.sub_zero, am_put_same]
  have e2 : ∀ t, f_carry2 r s cell 0 t = r := fun t => by unfold f_carry2; rw [e1, Int.add_zero, am_put_same]
  unfold f_carry
  rw [e1, e2]
  split
  · rw [Int.add_zero, h3, am_put_same]
  · split
    · rename_i g
      have l1 := hLt cell
      have l2 := hLt ((cell % 10 + way / 3 - 1) + 10 * (cell / 10 + way % 3 - 1))
      rw [Int.add_zero, h9 _ _ (by omega) (by omega) (by omega) (by omega), am_put_same]
    · rfl
theorem ti_mul8 {v p : Int} (hv : 0 ≤ v ∧ v ≤ 99) (hp : 0 ≤ p ∧ p ≤ 8) : 0 ≤ v * p ∧ v * p ≤ 792 := by
  have h1 := Int.mul_nonneg hv.1 hp.1
  have h2 : v * p ≤ 99 * 8 := Int.mul_le_mul hv.2 hp.2 hp.1 (by decide)
  exact ⟨h1, by omega⟩
def BR (b : Prop) (L s k : Int) (r q : am_F) : Prop := BlI s k r ∧ (TF 265 s r q ∧ TF 266 (s + 1) r q) ∧ (b → TS L (s + 1) r q)
theorem ti_blowx {b : Prop} {L : Int} {h c r q : am_F} {s x y way parts dx dy wk k : Int} (hH : h 0 0 = c 4 0 ∧ h 0 1 = c 4 1) (hV : HbV h) (hlo : TLo h c) (hLt : LotB h) (hL : L ≤ 7) (hs : 0 ≤ s ∧ s < 40) (hx : 0 ≤ x ∧ x < c 4 0) (hy : 0 ≤ y ∧ y < c 4 1) (hdx : dx = way / 3 - 1) (hdy : dy = way % 3 - 1) (hp : 0 ≤ parts ∧ parts ≤ 8) (hpc : c (21 + wk.toNat) 3 = parts) (hk : 0 ≤ k ∧ k ≤ 1000) (hR : BR b L s k r q) : BR b L s (k + 1) (g_blowx h s way parts y x r) (g_k_blows_182 c s dx dy wk y x q) := by
  obtain ⟨hB, ⟨h5, h6⟩, hS⟩ := hR
  obtain ⟨v1, v2, v3, v4, -⟩ := id hV
  have e0 : r 1 (s * 90 + x + 10 * y).toNat = q 265 (x + 9 * y).toNat := by
    rw [show s * 90 + x + 10 * y = s * 90 + (x + 10 * y) by omega]
    exact h5.1 x y hx.1 (by omega) hy.1 (by omega)
  have hv := hB.2 (s * 90 + x + 10 * y).toNat (by omega)
  have hpb := ti_mul8 hv hp
  have hm2 : (am_w32 (q 265 (x + 9 * y).toNat * c (21 + wk.toNat) 3)).tdiv 8 = r 1 (s * 90 + x + 10 * y).toNat * parts / 8 := by
    rw [← e0, hpc, ti_w ⟨by omega, by omega⟩, am_td hpb.1]
  rw [ti_m_eq hm2]
  unfold g_blowx
  generalize hm : r 1 (s * 90 + x + 10 * y).toNat * parts / 8 = m at *
  have hm9 : 0 ≤ m ∧ m ≤ 99 := by omega
  have hC := ti_carry (way := way) (dx := dx) (dy := dy) (m := m) hH hV hlo hLt hL hs hx hy hdx hdy hm9 hB hk h5 h6
  by_cases h0 : 0 < m
  · rw [if_pos h0]
    exact ⟨f_carryI hB hs (by omega) hm9 hk.1, hC.1, fun hb => hC.2 (hS hb)⟩
  · rw [if_neg h0]
    have e : m = 0 := by omega
    rw [e] at hC ⊢
    have e1 := ti_carry0_1 h r s (x + 10 * y) way
    refine ⟨BlI_mono hB (by omega), ⟨TF_k hC.1.1 e1.symm rfl, TF_k hC.1.2 e1.symm rfl⟩, fun hb => ?_⟩
    have h9 := hC.2 (hS hb)
    obtain ⟨t3, t4, t5, t6, t7, t8, t9⟩ := hS hb
    rw [ti_carry0 hLt t3.2 t6.2 (fun a e h1 h2 h3 h4 => (t9 a e h1 h2 h3 h4).2)] at h9
    exact h9
theorem ti_blow {b : Prop} {L : Int} {h c r q : am_F} {s way parts dx dy wk : Int} (hH : h 0 0 = c 4 0 ∧ h 0 1 = c 4 1) (hV : HbV h) (hlo : TLo h c) (hLt : LotB h) (hL : L ≤ 7) (hs : 0 ≤ s ∧ s < 40) (hdx : dx = way / 3 - 1) (hdy : dy = way % 3 - 1) (hp : 0 ≤ parts ∧ parts ≤ 8) (hpc : c (21 + wk.toNat) 3 = parts) (hR : BR b L s 0 r q) : BR b L s 81 (f_blow h r s way parts) (am_fold (g_k_blows_168 c s dx dy wk) 0 (c 4 1).toNat q) := by
  obtain ⟨v1, v2, v3, v4, -⟩ := id hV
  unfold f_blow
  rw [hH.2]
  have h9 := ti_rel (R := fun y r q => BR b L s (9 * y) r q) (f := g_blow h s way parts) (g := g_k_blows_168 c s dx dy wk) (c 4 1).toNat 0 r q (by rw [Int.mul_zero]; exact hR) (fun y r q hy1 hy2 hR => by
    have h8 := ti_rel (R := fun x r q => BR b L s (9 * y + x) r q) (f := g_blowx h s way parts y) (g := g_k_blows_182 c s dx dy wk y) (c 4 0).toNat 0 r q (by simpa using hR) (fun x r q hx1 hx2 hR => by
      have := ti_blowx (k := 9 * y + x) hH hV hlo hLt hL hs ⟨hx1, by omega⟩ ⟨hy1, by omega⟩ hdx hdy hp hpc (by omega) hR
      rwa [show 9 * y + x + 1 = 9 * y + (x + 1) by omega] at this)
    unfold g_blow g_k_blows_168
    rw [hH.1]
    exact ⟨BlI_mono h8.1 (by omega), h8.2⟩)
  exact ⟨BlI_mono h9.1 (by omega), h9.2⟩
/-- one row of cells laid into another one -/
theorem ti_copy {g : Int → am_F → am_F} {k k' : Nat} (hk : k' ≠ k) (hg : ∀ j q, g j q = am_put q k' j.toNat (q k j.toNat)) (q : am_F) : ∀ (n : Nat), (∀ m, m ≠ k' → am_fold g 0 n q m = q m) ∧ ∀ j : Nat, am_fold g 0 n q k' j = if j < n then q k j else q k' j := by
  intro n
  induction n with
  | zero => exact ⟨fun m _ => rfl, fun j => by simp [am_fold]⟩
  | succ n ih =>
    rw [ti_last, hg]
    refine ⟨fun m hm => (am_put_kr hm).trans (ih.1 m hm), fun j => ?_⟩
    by_cases e : j = ((0 : Int) + n).toNat
    · rw [e, am_put_s, ih.1 k (by omega), if_pos (by omega)]
    · rw [am_put_i e, ih.2 j]
      by_cases e2 : j < n
      · rw [if_pos e2, if_pos (by omega)]
      · rw [if_neg e2, if_neg (by omega)]
theorem TF_copy {k k' : Nat} {p : Int} {r q q' : am_F} (h : TF k p r q) (hq : ∀ j : Nat, j < 81 → q' k' j = q k j) : TF k' p r q' :=
  ⟨fun x y h1 h2 h3 h4 => by rw [hq _ (by omega)]; exact h.1 x y h1 h2 h3 h4, h.2⟩
def ti_c138 := fun q : am_F => ti_copy (g := g_k_blows_138) (k := 265) (k' := 266) (by decide) (fun _ _ => rfl) q 81
def ti_c380 := fun q : am_F => ti_copy (g := g_k_blows_380) (k := 266) (k' := 265) (by decide) (fun _ _ => rfl) q 81
/-- the model's wind behind its draw -/
def ti_bb (c : am_F) (n t91 t : Int) (q : am_F) : am_F :=
  if t91 % 10 - 1 = 0 then (if t91 / 10 - 1 = 0 then q else am_fold g_k_blows_380 0 81 (am_fold (g_k_blows_168 c t (t91 % 10 - 1) (t91 / 10 - 1) n) 0 (c 4 1).toNat (am_fold g_k_blows_138 0 81 q)))
  else am_fold g_k_blows_380 0 81 (am_fold (g_k_blows_168 c t (t91 % 10 - 1) (t91 / 10 - 1) n) 0 (c 4 1).toNat (am_fold g_k_blows_138 0 81 q))
def ti_b (c : am_F) (n tn t : Int) (q : am_F) : am_F :=
  if n = -1 then q else ti_bb c n (if tn = 0 then c (21 + n.toNat) 1 + 10 * c (21 + n.toNat) 2 else k_turned (c (21 + n.toNat) 1 + 10 * c (21 + n.toNat) 2)) t q
def ti_tn (c q : am_F) : Int := if c 0 61 = -1 then 0 else if c 0 61 ≤ am_iand (am_ishr (am_w32 (am_w32 (q 0 60 * 1103515245) + 12345)) 16) 7 then 0 else 1
def ti_q20 (c q : am_F) (t : Int) : am_F := if c 0 61 = -1 then am_put q 267 t.toNat 0 else am_put (am_put q 267 t.toNat 0) 0 60 (am_w32 (am_w32 (q 0 60 * 1103515245) + 12345))
theorem ti_b_eq (c q : am_F) (t : Int) : k_blows c q t = ti_b c (k_windAt c t) (ti_tn c q) t (ti_q20 c q t) := rfl
def TW (h c : am_F) : Prop := ∀ t : Int, 0 ≤ t → t < 40 → (k_windAt c t = -1 ∧ f_way0 h t = 4) ∨ (k_windAt c t ≠ -1 ∧ f_way0 h t = 3 * c (21 + (k_windAt c t).toNat) 1 + c (21 + (k_windAt c t).toNat) 2 ∧ f_parts h t = c (21 + (k_windAt c t).toNat) 3 ∧ (0 ≤ c (21 + (k_windAt c t).toNat) 1 ∧ c (21 + (k_windAt c t).toNat) 1 ≤ 2) ∧ (0 ≤ c (21 + (k_windAt c t).toNat) 2 ∧ c (21 + (k_windAt c t).toNat) 2 ≤ 2) ∧ 0 ≤ c (21 + (k_windAt c t).toNat) 3 ∧ c (21 + (k_windAt c t).toNat) 3 ≤ 8)
theorem ti_turn {i j : Int} (hi : 0 ≤ i ∧ i ≤ 2) (hj : 0 ≤ j ∧ j ≤ 2) : ∃ i' j' : Int, (0 ≤ i' ∧ i' ≤ 2) ∧ (0 ≤ j' ∧ j' ≤ 2) ∧ am_turn (3 * i + j).toNat = 3 * i' + j' ∧ k_turned (i + 10 * j) = i' + 10 * j' := by
  have h1 : i = 0 ∨ i = 1 ∨ i = 2 := by omega
  have h2 : j = 0 ∨ j = 1 ∨ j = 2 := by omega
  rcases h1 with rfl | rfl | rfl <;> rcases h2 with rfl | rfl | rfl
  · exact ⟨1, 0, by decide, by decide, by decide, by decide⟩
  · exact ⟨0, 0, by decide, by decide, by decide, by decide⟩
  · exact ⟨0, 1, by decide, by decide, by decide, by decide⟩
  · exact ⟨2, 0, by decide, by decide, by decide, by decide⟩
  · exact ⟨1, 1, by decide, by decide, by decide, by decide⟩
  · exact ⟨0, 2, by decide, by decide, by decide, by decide⟩
  · exact ⟨2, 1, by decide, by decide, by decide, by decide⟩
  · exact ⟨2, 2, by decide, by decide, by decide, by decide⟩
  · exact ⟨1, 2, by decide, by decide, by decide, by decide⟩
theorem ti_blows {b : Prop} {L : Int} {h c r q : am_F} {s tn : Int} (hH : h 0 0 = c 4 0 ∧ h 0 1 = c 4 1) (hV : HbV h) (hlo : TLo h c) (hLt : LotB h) (hW : TW h c) (hL : L ≤ 7) (hs : 0 ≤ s ∧ s < 40) (hB : BlI s 0 r) (h5 : TF 265 s r q) (h6 : TF 265 (s + 1) r q) (hS : b → TS L (s + 1) r q) : TF 265 (s + 1) (f_blows h r s tn) (ti_b c (k_windAt c s) tn s q) ∧ (b → TS L (s + 1) (f_blows h r s tn) (ti_b c (k_windAt c s) tn s q)) := by
  unfold f_blows
  rcases hW s hs.1 hs.2 with ⟨h1, h2⟩ | ⟨h1, h2, h3, h4, h7, h8⟩
  · have e : f_way h s tn = 4 := by
      unfold f_way
      rw [h2]
      split <;> decide
    rw [if_pos e]
    unfold ti_b
    rw [if_pos h1]
    exact ⟨h6, hS⟩
  · obtain ⟨i', j', w1, w2, w3, w4⟩ : ∃ i' j' : Int, (0 ≤ i' ∧ i' ≤ 2) ∧ (0 ≤ j' ∧ j' ≤ 2) ∧ f_way h s tn = 3 * i' + j' ∧ (if tn = 0 then c (21 + (k_windAt c s).toNat) 1 + 10 * c (21 + (k_windAt c s).toNat) 2 else k_turned (c (21 + (k_windAt c s).toNat) 1 + 10 * c (21 + (k_windAt c s).toNat) 2)) = i' + 10 * j' := by
      unfold f_way
      rw [h2]
      by_cases e : tn = 0
      · rw [if_neg (fun g => g e), if_pos e]
        exact ⟨_, _, h4, h7, rfl, rfl⟩
      · rw [if_pos e, if_neg e]
        exact ti_turn h4 h7
    unfold ti_b
    rw [if_neg h1]
    rw [w3, w4]
    have d1 : (i' + 10 * j') % 10 = i' := by omega
    have d2 : (i' + 10 * j') / 10 = j' := by omega
    have d3 : (3 * i' + j') / 3 = i' := by omega
    have d4 : (3 * i' + j') % 3 = j' := by omega
    unfold ti_bb
    have hgo : ¬ (3 * i' + j' = 4) → TF 265 (s + 1) (f_blow h r s (3 * i' + j') (f_parts h s)) (am_fold g_k_blows_380 0 81 (am_fold (g_k_blows_168 c s ((i' + 10 * j') % 10 - 1) ((i' + 10 * j') / 10 - 1) (k_windAt c s)) 0 (c 4 1).toNat (am_fold g_k_blows_138 0 81 q))) ∧ (b → TS L (s + 1) (f_blow h r s (3 * i' + j') (f_parts h s)) (am_fold g_k_blows_380 0 81 (am_fold (g_k_blows_168 c s ((i' + 10 * j') % 10 - 1) ((i' + 10 * j') / 10 - 1) (k_windAt c s)) 0 (c 4 1).toNat (am_fold g_k_blows_138 0 81 q)))) := by
      intro _
      have c1 := ti_c138 q
      have hR : BR b L s 0 r (am_fold g_k_blows_138 0 81 q) := ⟨hB, ⟨TF_k h5 rfl (c1.1 265 (by decide)), TF_copy h6 (fun j hj => by rw [c1.2 j, if_pos hj])⟩, fun hb => TS_k (hS hb) hL (by omega) (fun _ _ => rfl) (fun k g1 g2 => c1.1 k (by omega)) (c1.1 267 (by decide))⟩
      have h9 := ti_blow (way := 3 * i' + j') (parts := f_parts h s) (dx := (i' + 10 * j') % 10 - 1) (dy := (i' + 10 * j') / 10 - 1) (wk := k_windAt c s) hH hV hlo hLt hL hs (by rw [d1, d3]) (by rw [d2, d4]) (by rw [h3]; exact h8) h3.symm hR
      have c2 := ti_c380 (am_fold (g_k_blows_168 c s ((i' + 10 * j') % 10 - 1) ((i' + 10 * j') / 10 - 1) (k_windAt c s)) 0 (c 4 1).toNat (am_fold g_k_blows_138 0 81 q))
      exact ⟨TF_copy h9.2.1.2 (fun j hj => by rw [c2.2 j, if_pos hj]), fun hb => TS_k (h9.2.2 hb) hL (by omega) (fun _ _ => rfl) (fun k g1 g2 => c2.1 k (by omega)) (c2.1 267 (by decide))⟩
    by_cases e : 3 * i' + j' = 4
    · rw [if_pos e]
      rw [if_pos (show (i' + 10 * j') % 10 - 1 = 0 by omega), if_pos (show (i' + 10 * j') / 10 - 1 = 0 by omega)]
      exact ⟨h6, hS⟩
    · rw [if_neg e]
      by_cases e2 : (i' + 10 * j') % 10 - 1 = 0
      · rw [if_pos e2, if_neg (show ¬ (i' + 10 * j') / 10 - 1 = 0 by omega)]
        exact hgo e
      · rw [if_neg e2]
        exact hgo e
