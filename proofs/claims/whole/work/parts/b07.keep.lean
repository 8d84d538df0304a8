/-! THE TIE: what a step leaves as it was, on both sides -/
def ti_ok (t : Int) (k j : Nat) : Prop := k ≠ 265 ∧ k ≠ 266 ∧ k ≠ 159 + (t + 1).toNat ∧ k ≠ 201 + (t + 1).toNat ∧ ¬ (243 ≤ k ∧ k < 251 ∧ j = (t + 1).toNat) ∧ ¬ (251 ≤ k ∧ k < 265) ∧ ¬ (k = 267 ∧ j = t.toNat) ∧ ¬ (k = 0 ∧ j = 60)
def KP (t : Int) (q q' : am_F) : Prop := ∀ k j, ti_ok t k j → q' k j = q k j
theorem KP_put {t v : Int} {q q' : am_F} {k i : Nat} (h : KP t q q') (hk : ¬ ti_ok t k i) : KP t q (am_put q' k i v) := by
  intro k' j hok
  by_cases e : k' = k
  · by_cases e2 : j = i
    · subst e; subst e2
      exact absurd hok hk
    · rw [e, am_put_i e2, ← e]
      exact h k' j hok
  · rw [am_put_k e]
    exact h k' j hok
theorem nok_265 {t : Int} {i : Nat} : ¬ ti_ok t 265 i := fun h => h.1 rfl
theorem nok_266 {t : Int} {i : Nat} : ¬ ti_ok t 266 i := fun h => h.2.1 rfl
theorem nok_159 {t : Int} {i : Nat} : ¬ ti_ok t (159 + (t + 1).toNat) i := fun h => h.2.2.1 rfl
theorem nok_201 {t : Int} {i : Nat} : ¬ ti_ok t (201 + (t + 1).toNat) i := fun h => h.2.2.2.1 rfl
theorem nok_243 {t : Int} {l : Nat} (h : l < 8) : ¬ ti_ok t (243 + l) (t + 1).toNat := fun g => g.2.2.2.2.1 ⟨by omega, by omega, rfl⟩
theorem nok_251 {t : Int} {l i : Nat} (h : l < 14) : ¬ ti_ok t (251 + l) i := fun g => g.2.2.2.2.2.1 ⟨by omega, by omega⟩
theorem nok_259 {t : Int} {l i : Nat} (h : l < 6) : ¬ ti_ok t (259 + l) i := fun g => g.2.2.2.2.2.1 ⟨by omega, by omega⟩
theorem nok_267 {t : Int} : ¬ ti_ok t 267 t.toNat := fun g => g.2.2.2.2.2.2.1 ⟨rfl, rfl⟩
theorem nok_060 {t : Int} : ¬ ti_ok t 0 60 := fun g => g.2.2.2.2.2.2.2 ⟨rfl, rfl⟩
theorem KP_fold {t : Int} {q x : am_F} {g : Int → am_F → am_F} (n : Nat) (i : Int) (h : KP t q x) (hs : ∀ j x, i ≤ j → j < i + n → KP t q x → KP t q (g j x)) : KP t q (am_fold g i n x) := ti_inv0 (P := KP t q) n i x h hs
theorem KP_m {c q x : am_F} {t dx dy X Y m : Int} (hl : ∀ x y, k_lotOf c x y < 6) (h : KP t q x) : KP t q (ti_m c t dx dy Y X m x) := by
  have h1 : KP t q (ti_n t Y X m x) := KP_put (KP_put h nok_266) nok_267
  have h2 : KP t q (ti_o t dx dy Y X m x) := KP_put h1 nok_266
  unfold ti_m
  split
  · exact KP_put h1 nok_201
  · split
    · exact h2
    · split
      · exact h2
      · split
        · exact h2
        · exact KP_put h2 (nok_259 (by have := hl X Y; omega))
theorem KP_blows {c q x : am_F} {t : Int} (hl : ∀ x y, k_lotOf c x y < 6) (h : KP t q x) : KP t q (k_blows c x t) := by
  rw [ti_b_eq]
  have h1 : KP t q (ti_q20 c x t) := by
    unfold ti_q20
    split
    · exact KP_put h nok_267
    · exact KP_put (KP_put h nok_267) nok_060
  have h2 : ∀ dx dy n, KP t q (am_fold g_k_blows_380 0 81 (am_fold (g_k_blows_168 c t dx dy n) 0 (c 4 1).toNat (am_fold g_k_blows_138 0 81 (ti_q20 c x t)))) := fun dx dy n => by
    refine KP_fold 81 0 ?_ fun j x _ _ hx => KP_put hx nok_265
    refine KP_fold _ 0 ?_ fun j x _ _ hx => ?_
    · exact KP_fold 81 0 h1 fun j x _ _ hx => KP_put hx nok_266
    · unfold g_k_blows_168
      refine KP_fold _ 0 hx fun i x _ _ hx => ?_
      rw [ti_m_eq rfl]
      exact KP_m hl hx
  unfold ti_b
  split
  · exact h1
  · generalize (if ti_tn c x = 0 then c (21 + (k_windAt c t).toNat) 1 + 10 * c (21 + (k_windAt c t).toNat) 2 else k_turned (c (21 + (k_windAt c t).toNat) 1 + 10 * c (21 + (k_windAt c t).toNat) 2)) = t91
    unfold ti_bb
    split
    · split
      · exact h1
      · exact h2 _ _ _
    · exact h2 _ _ _
theorem KP_mixes {c q x : am_F} {t k : Int} (h : KP t q x) : KP t q (k_mixes c x k) := by
  unfold k_mixes
  try simp only []
  refine KP_put (KP_fold _ _ h fun j x _ _ hx => ?_) nok_265
  unfold g_k_mixes_89
  try simp only []
  refine KP_fold _ _ hx fun j x _ _ hx => ?_
  unfold g_k_mixes_106
  try simp only []
  split
  · exact hx
  · exact KP_put hx nok_265
theorem KP_burns {c q x : am_F} {t k : Int} (hk : k < 8) (h : KP t q x) : KP t q (k_burns c x k t) := by
  unfold k_burns
  try simp only []
  refine KP_fold _ _ h fun j x _ _ hx => ?_
  unfold g_k_burns_11
  try simp only []
  refine KP_fold _ _ hx fun j x _ _ hx => ?_
  unfold g_k_burns_37
  try simp only []
  split
  · exact hx
  · exact KP_put (KP_put (KP_put (KP_put hx nok_265) nok_201) (nok_243 (by omega))) (nok_251 (by omega))
theorem ti_stepKeep {c q : am_F} {t : Int} (hL : c 0 45 ≤ 7) (hl : ∀ x y, k_lotOf c x y < 6) : KP t q (k_stepGoes c q t) := by
  have h0 : KP t q q := fun _ _ _ => rfl
  have h1 : KP t q (ti_s2 c q t) := KP_fold _ 0 (KP_fold 3 1 h0 fun j x _ _ hx => KP_put hx nok_201) fun j x a1 a2 hx => KP_put hx (nok_243 (by omega))
  have h2 := KP_blows hl h1
  have h3 : KP t q (am_fold (g_k_stepGoes_72 c t) 0 (c 4 10).toNat (k_blows c (ti_s2 c q t) t)) := KP_fold _ 0 h2 fun j x a1 a2 hx => by
    unfold g_k_stepGoes_72
    split
    · exact KP_mixes hx
    · exact hx
  have h4 : KP t q (am_fold (g_k_stepGoes_113 t) 0 81 (am_fold (g_k_stepGoes_72 c t) 0 (c 4 10).toNat (k_blows c (ti_s2 c q t) t))) := KP_fold _ 0 h3 fun j x a1 a2 hx => KP_put (KP_put hx nok_265) nok_201
  have h5 := KP_fold (g := g_k_stepGoes_176 c t) (c 0 45).toNat 0 h4 fun j x a1 a2 hx => KP_burns (by omega) hx
  have h6 := KP_fold (g := g_k_stepGoes_204 t (k_thinAt c t)) 81 0 h5 fun j x a1 a2 hx => KP_put (KP_put hx nok_265) nok_201
  unfold k_stepGoes
  try simp only []
  refine KP_fold 81 0 (KP_put ?_ nok_201) fun j x a1 a2 hx => KP_put (KP_put hx nok_159) nok_201
  split
  · exact KP_put h6 nok_265
  · exact h6
/-- the header of the model behind a step -/
theorem ti_step0 {c q : am_F} {t : Int} (hL : c 0 45 ≤ 7) (hl : ∀ x y, k_lotOf c x y < 6) (ht : 0 ≤ t) : k_stepGoes c q t 0 60 = if c 0 61 = -1 then q 0 60 else am_w32 (am_w32 (q 0 60 * 1103515245) + 12345) := by
  have e1 : (ti_s2 c q t) 0 = q 0 := by
    unfold ti_s2
    refine ti_inv0 (P := fun x : am_F => x 0 = q 0) _ 0 _ ?_ fun j x _ _ hx => (am_put_kr (by omega)).trans hx
    exact ti_inv0 (P := fun x : am_F => x 0 = q 0) 3 1 q rfl fun j x _ _ hx => (am_put_kr (by omega)).trans hx
  have e2 : ti_q20 c (ti_s2 c q t) t 0 60 = if c 0 61 = -1 then q 0 60 else am_w32 (am_w32 (q 0 60 * 1103515245) + 12345) := by
    unfold ti_q20
    rw [e1]
    split
    · rw [am_put_k (by decide), e1]
    · rw [am_put_s]
  rw [← e2]
  generalize hz : ti_q20 c (ti_s2 c q t) t = z
  -- from here on no row 0 is written
  have f1 : ∀ dx dy n, am_fold g_k_blows_380 0 81 (am_fold (g_k_blows_168 c t dx dy n) 0 (c 4 1).toNat (am_fold g_k_blows_138 0 81 z)) 0 = z 0 := fun dx dy n => by
    refine ti_inv0 (P := fun x : am_F => x 0 = z 0) 81 0 _ ?_ fun j x _ _ hx => (am_put_kr (by decide)).trans hx
    refine ti_inv0 (P := fun x : am_F => x 0 = z 0) _ 0 _ ?_ fun j x _ _ hx => ?_
    · exact ti_inv0 (P := fun x : am_F => x 0 = z 0) 81 0 _ rfl fun j x _ _ hx => (am_put_kr (by decide)).trans hx
    · unfold g_k_blows_168
      refine ti_inv0 (P := fun x : am_F => x 0 = z 0) _ 0 _ hx fun i x _ _ hx => ?_
      rw [ti_m_eq rfl]
      have h1 : ∀ m, ti_n t j i m x 0 = z 0 := fun m => ((am_put_kr (by decide)).trans (am_put_kr (by decide))).trans hx
      have h2 : ∀ m, ti_o t dx dy j i m x 0 = z 0 := fun m => (am_put_kr (by decide)).trans (h1 m)
      unfold ti_m
      split
      · exact (am_put_kr (by omega)).trans (h1 _)
      · split
        · exact h2 _
        · split
          · exact h2 _
          · split
            · exact h2 _
            · exact (am_put_kr (by omega)).trans (h2 _)
  have f2 : k_blows c (ti_s2 c q t) t 0 = z 0 := by
    rw [ti_b_eq, hz]
    unfold ti_b
    split
    · rfl
    · generalize (if ti_tn c (ti_s2 c q t) = 0 then c (21 + (k_windAt c t).toNat) 1 + 10 * c (21 + (k_windAt c t).toNat) 2 else k_turned (c (21 + (k_windAt c t).toNat) 1 + 10 * c (21 + (k_windAt c t).toNat) 2)) = t91
      unfold ti_bb
      split
      · split
        · rfl
        · exact f1 _ _ _
      · exact f1 _ _ _
  unfold k_stepGoes
  have f3 : ∀ x : am_F, x 0 = z 0 → am_fold (g_k_stepGoes_72 c t) 0 (c 4 10).toNat x 0 = z 0 := fun x hx => ti_inv0 (P := fun x : am_F => x 0 = z 0) _ 0 _ hx fun j x _ _ hx => by
    unfold g_k_stepGoes_72
    split
    · unfold k_mixes
      try simp only []
      refine (am_put_kr (by decide)).trans (ti_inv0 (P := fun x : am_F => x 0 = z 0) _ _ _ hx fun j x _ _ hx => ?_)
      unfold g_k_mixes_89
      try simp only []
      refine ti_inv0 (P := fun x : am_F => x 0 = z 0) _ _ _ hx fun j x _ _ hx => ?_
      unfold g_k_mixes_106
      try simp only []
      split
      · exact hx
      · exact (am_put_kr (by decide)).trans hx
    · exact hx
  have f4 : ∀ x : am_F, x 0 = z 0 → am_fold (g_k_stepGoes_113 t) 0 81 x 0 = z 0 := fun x hx => ti_inv0 (P := fun x : am_F => x 0 = z 0) _ 0 _ hx fun j x _ _ hx => ((am_put_kr (by omega)).trans (am_put_kr (by decide))).trans hx
  have f5 : ∀ x : am_F, x 0 = z 0 → am_fold (g_k_stepGoes_176 c t) 0 (c 0 45).toNat x 0 = z 0 := fun x hx => ti_inv0 (P := fun x : am_F => x 0 = z 0) _ 0 _ hx fun j x _ _ hx => by
    unfold g_k_stepGoes_176 k_burns
    try simp only []
    refine ti_inv0 (P := fun x : am_F => x 0 = z 0) _ _ _ hx fun j x _ _ hx => ?_
    unfold g_k_burns_11
    try simp only []
    refine ti_inv0 (P := fun x : am_F => x 0 = z 0) _ _ _ hx fun j x _ _ hx => ?_
    unfold g_k_burns_37
    try simp only []
    split
    · exact hx
    · exact ((am_put_kr (by omega)).trans ((am_put_kr (by omega)).trans ((am_put_kr (by omega)).trans (am_put_kr (by decide))))).trans hx
  have f6 : ∀ x : am_F, x 0 = z 0 → am_fold (g_k_stepGoes_204 t (k_thinAt c t)) 0 81 x 0 = z 0 := fun x hx => ti_inv0 (P := fun x : am_F => x 0 = z 0) _ 0 _ hx fun j x _ _ hx => ((am_put_kr (by omega)).trans (am_put_kr (by decide))).trans hx
  have f7 : ∀ x : am_F, x 0 = z 0 → am_fold (g_k_stepGoes_285 t) 0 81 x 0 = z 0 := fun x hx => ti_inv0 (P := fun x : am_F => x 0 = z 0) _ 0 _ hx fun j x _ _ hx => ((am_put_kr (by omega)).trans (am_put_kr (by omega))).trans hx
  refine congrFun (f7 _ ((am_put_kr (by omega)).trans ?_)) 60
  have f8 := f6 _ (f5 _ (f4 _ (f3 _ f2)))
  split
  · exact (am_put_kr (by decide)).trans f8
  · exact f8
/-! the class's side -/
def ti_oc (s : Int) (k j : Nat) : Prop := (k = 1 ∧ (j : Int) < (s + 1) * 90) ∨ (2 ≤ k ∧ k ≤ 6 ∧ j ≠ (s + 1).toNat) ∨ (k = 7 ∧ ∀ l : Int, 0 ≤ l → l < 7 → j ≠ (l * 41 + s + 1).toNat)
def KC (s : Int) (r r' : am_F) : Prop := ∀ k j, ti_oc s k j → r' k j = r k j
theorem KC_put {s v : Int} {r r' : am_F} {k i : Nat} (h : KC s r r') (hk : ¬ ti_oc s k i) : KC s r (am_put r' k i v) := by
  intro k' j hok
  by_cases e : k' = k
  · by_cases e2 : j = i
    · subst e; subst e2
      exact absurd hok hk
    · rw [e, am_put_i e2, ← e]
      exact h k' j hok
  · rw [am_put_k e]
    exact h k' j hok
theorem noc_1 {s : Int} {i : Nat} (h : (s + 1) * 90 ≤ (i : Int)) : ¬ ti_oc s 1 i := fun g => by
  rcases g with ⟨_, g⟩ | ⟨g, _⟩ | ⟨g, _⟩ <;> omega
theorem noc_n {s : Int} {k : Nat} (h : 2 ≤ k ∧ k ≤ 6) : ¬ ti_oc s k (s + 1).toNat := fun g => by
  rcases g with ⟨g, _⟩ | ⟨_, _, g⟩ | ⟨g, _⟩
  · omega
  · exact g rfl
  · omega
theorem noc_7 {s l : Int} (h : 0 ≤ l ∧ l < 7) : ¬ ti_oc s 7 (l * 41 + s + 1).toNat := fun g => by
  rcases g with ⟨g, _⟩ | ⟨_, g, _⟩ | ⟨_, g⟩
  · omega
  · omega
  · exact g l h.1 h.2 rfl
theorem noc_8 {s : Int} {k i : Nat} (h : k = 0 ∨ 8 ≤ k) : ¬ ti_oc s k i := fun g => by
  rcases g with ⟨g, _⟩ | ⟨g, g2, _⟩ | ⟨g, _⟩ <;> omega
theorem KC_fold {s : Int} {r x : am_F} {g : Int → am_F → am_F} (n : Nat) (i : Int) (h : KC s r x) (hs : ∀ j x, i ≤ j → j < i + n → KC s r x → KC s r (g j x)) : KC s r (am_fold g i n x) := ti_inv0 (P := KC s r) n i x h hs
theorem KC_carry {h r x : am_F} {s cell way m : Int} (hs : 0 ≤ s) (hc : 0 ≤ cell) (hx : KC s r x) : KC s r (f_carry h x s cell way m) := by
  have h1 : KC s r (f_carry1 x s cell m) := KC_put (KC_put hx (noc_n (by decide))) (noc_1 (by omega))
  unfold f_carry
  split
  · exact KC_put h1 (noc_n (by decide))
  · rename_i g
    rcases f_has_x h (cell % 10 + way / 3 - 1) (cell / 10 + way % 3 - 1) with g2 | g2
    · exact absurd g2 g
    · have h2 : KC s r (f_carry2 x s cell m ((cell % 10 + way / 3 - 1) + 10 * (cell / 10 + way % 3 - 1))) := KC_put h1 (noc_1 (by omega))
      split
      · exact KC_put h2 (noc_8 (by omega))
      · exact h2
theorem KC_blows {h r x : am_F} {s tn : Int} (hs : 0 ≤ s) (hx : KC s r x) : KC s r (f_blows h x s tn) := by
  unfold f_blows
  split
  · exact hx
  · unfold f_blow
    refine KC_fold _ 0 hx fun y x a1 a2 hx => ?_
    unfold g_blow
    refine KC_fold _ 0 hx fun z x a3 a4 hx => ?_
    unfold g_blowx
    split
    · exact KC_carry hs (by omega) hx
    · exact hx
theorem KC_mix {h r x : am_F} {s cell : Int} (hV : HbV h) (hs : 0 ≤ s) (hc : 0 ≤ cell) (hx : KC s r x) : KC s r (f_mix h x ((s + 1) * 90) cell) := by
  unfold f_mix
  split
  · exact hx
  · refine KC_put ?_ (noc_1 (by omega))
    unfold f_mixw
    refine KC_fold 9 0 hx fun j x a1 a2 hx => ?_
    unfold g_mixw
    split
    · exact hx
    · rcases f_near_b hV cell j with g | g
      · omega
      · exact KC_put hx (noc_1 (by omega))
theorem KC_burn {h r x : am_F} {s l cell burns : Int} (hV : HbV h) (hs : 0 ≤ s) (hl : 0 ≤ l ∧ l < 7) (hx : KC s r x) : KC s r (f_burn h x (s + 1) l cell burns) := by
  have h1 : KC s r (f_burnl h x (s + 1) l cell burns).2 := by
    unfold f_burnl
    refine ti_inv0 (P := fun (y : Int × am_F) => KC s r y.2) 9 0 (0, x) hx fun j y a1 a2 hy => ?_
    unfold g_burn
    split
    · exact hy
    · rcases f_near_b hV cell j with g | g
      · omega
      · exact KC_put (KC_put hy (noc_1 (by omega))) (noc_8 (by omega))
  unfold f_burn
  have e : l * 41 + (s + 1) = l * 41 + s + 1 := by omega
  rw [e]
  exact KC_put (KC_put h1 (noc_7 hl)) (noc_n (by decide))
theorem ti_keepC {h r : am_F} {s : Int} (hA : HbAll h) (hs : 0 ≤ s) : KC s r (f_goOn h r s) := by
  obtain ⟨hV, hLt, hWd, hSt, hLp, hTh⟩ := hA
  obtain ⟨v1, v2, v3, v4, v5, v6, v7, v8, v9, v10, v11, v12, v13, v14, v15, v16, v17, v18, v19, v20, v21, v22⟩ := id hV
  have h0 : KC s r (am_row r 1 (am_cpy (r 1) (r 1) (s * 90).toNat ((s + 1) * 90).toNat (90 : Int).toNat)) := by
    intro k j hok
    unfold am_row
    by_cases e : k = 1
    · rw [if_pos e]
      unfold am_cpy
      rcases hok with ⟨_, g⟩ | ⟨g, g2, _⟩ | ⟨g, _⟩
      · rw [if_neg (by omega), e]
      · omega
      · omega
    · rw [if_neg e]
  have h1 : KC s r (f_go1 r s) := by
    unfold f_go1 f_go0 f_gob
    refine KC_put (KC_fold 7 0 (KC_put (KC_put (KC_put (KC_put h0 (noc_n (by decide))) (noc_n (by decide))) (noc_n (by decide))) (noc_n (by decide))) fun j x a1 a2 hx => ?_) (noc_8 (by omega))
    exact KC_put hx (noc_7 ⟨a1, by omega⟩)
  have h2 : KC s r (f_go2 h r s) := KC_blows hs h1
  have h3 : KC s r (f_go3 h r s) := by
    unfold f_go3 f_spill
    refine KC_fold 90 _ ?_ fun j x a1 a2 hx => ?_
    · unfold f_mixAll
      refine KC_fold _ 0 h2 fun j x a1 a2 hx => ?_
      unfold g_mixAll
      split
      · exact KC_mix hV hs (hSt j).1 hx
      · exact hx
    · unfold g_spill
      split
      · exact KC_put (KC_put hx (noc_n (by decide))) (noc_1 (by omega))
      · exact hx
  have h4 : KC s r (f_burns h (f_go3 h r s) (s + 1)) := by
    unfold f_burns
    refine KC_fold _ 0 h3 fun j x a1 a2 hx => ?_
    exact KC_burn hV hs ⟨a1, by omega⟩ hx
  have h5 : KC s r (f_burnAll h (f_go3 h r s) (s + 1)) := by
    unfold f_burnAll
    split
    · exact h4
    · exact KC_burn hV hs ⟨by omega, by omega⟩ h4
  have h6 : KC s r (f_go4 h r s) := by
    unfold f_go4 f_thin
    split
    · exact h5
    · refine KC_fold 90 _ h5 fun j x a1 a2 hx => ?_
      exact KC_put (KC_put hx (noc_1 (by omega))) (noc_n (by decide))
  unfold f_goOn
  refine KC_put ?_ (noc_n (by decide))
  split
  · exact h6
  · exact h1
