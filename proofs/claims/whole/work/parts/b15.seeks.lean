/-! THE TIE: guards, nets, what is worthless, ships, calm, starts -/
theorem ti_bits : ∀ n : Fin 5, am_ishl 1 n.val = (2 ^ n.val : Nat) ∧ ∀ s : Fin 16, s.val < 2 ^ n.val → c_bits s.val = k_ones s.val ∧ (s.val ≠ 2 ^ n.val - 1 → k_ones s.val < k_ones (am_ishl 1 n.val - 1)) := by decide +kernel
theorem FQ_put {s : Int} {r q : am_F} {k i : Nat} {v : Int} (h : FQ s r q) (hk : k ≠ 159 + (s + 1).toNat) : FQ s r (am_put q k i v) := fun x y h1 h2 h3 h4 => by
  rw [am_put_k (fun e => hk e.symm)]
  exact h x y h1 h2 h3 h4
theorem FQ_row {s : Int} {r q q' : am_F} (h : FQ s r q) (hk : q' (159 + (s + 1).toNat) = q (159 + (s + 1).toNat)) : FQ s r q' := fun x y h1 h2 h3 h4 => by
  rw [hk]
  exact h x y h1 h2 h3 h4
theorem ti_ever {h c r q : am_F} (hC : HC h c) (hQ : ∀ s : Int, 0 ≤ s → s < 40 → FQ s r q) : (∀ w : Int, 0 ≤ w → w < c 4 4 → am_fold (g_k_guards_11 c) 0 (c 4 4).toNat q 731 w.toNat = f_ever r h w) ∧ ∀ k, k ≠ 731 → am_fold (g_k_guards_11 c) 0 (c 4 4).toNat q k = q k := by
  obtain ⟨hHI, hV, hT, hN, hW, hWt, hSh, hL⟩ := id hC
  have h9 := am_fold_inv (P := fun i x => (∀ w : Int, 0 ≤ w → w < i → x 731 w.toNat = f_ever r h w) ∧ ∀ k, k ≠ 731 → x k = q k) (g := g_k_guards_11 c) (c 4 4).toNat 0 q ⟨fun w b1 b2 => by omega, fun _ _ => rfl⟩ (fun i x a1 a2 hP => by
    unfold g_k_guards_11
    have h8 := ti_rel (R := fun j (a : Int) y => y 731 i.toNat = a ∧ (∀ m, m ≠ i.toNat → y 731 m = x 731 m) ∧ ∀ k, k ≠ 731 → y k = q k) (f := g_ever r h i) (g := g_k_guards_30 c i) 40 0 0 (am_put x 731 i.toNat 0) ⟨am_put_s, fun m hm => am_put_i hm, fun k hk => (am_put_kr hk).trans (hP.2 k hk)⟩ (fun j a y b1 b2 hR => by
      obtain ⟨r1, r2, r3⟩ := hR
      have hQj : FQ j r y := FQ_row (hQ j b1 (by omega)) (r3 _ (by omega))
      have e := ti_seenOn hC hQj (ti_place hW (w := i) ⟨a1, by omega⟩ (s := j) (by omega))
      unfold g_ever g_k_guards_30
      rw [r1, ← e]
      exact ⟨am_put_s, fun m hm => (am_put_i hm).trans (r2 m hm), fun k hk => (am_put_kr hk).trans (r3 k hk)⟩)
    refine ⟨fun w b1 b2 => ?_, h8.2.2⟩
    by_cases g : w = i
    · rw [g, h8.1]
      rfl
    · rw [h8.2.1 _ (by omega)]
      exact hP.1 w b1 (by omega))
  exact ⟨fun w b1 b2 => h9.1 w b1 (by omega), h9.2⟩
theorem ti_guardsAll {h c r q : am_F} {s : Int} (h4 : 0 ≤ c 4 4) (hW : h 0 8 = c 4 4) (hE : ∀ w : Int, 0 ≤ w → w < c 4 4 → q 731 w.toNat = f_ever r h w) : (c_guardsAll h r s = 0 ↔ am_fold (g_k_guards_98 q s) 0 (c 4 4).toNat 1 = 0) := by
  unfold c_guardsAll
  rw [hW]
  have h9 : ∀ n : Nat, (n : Int) ≤ c 4 4 → (am_fold (g_k_guards_98 q s) 0 n 1 = 0 ↔ ∃ w : Int, 0 ≤ w ∧ w < n ∧ f_ever r h w ≠ 0 ∧ am_iand (f_ever r h w) s = 0) := by
    intro n
    induction n with
    | zero => intro _; exact ⟨fun e => absurd e (by show ¬ (1 : Int) = 0; decide), fun ⟨w, b1, b2, _⟩ => by omega⟩
    | succ n ih =>
      intro hn
      have ih9 := ih (by omega)
      rw [ti_last, show (0 : Int) + (n : Int) = n by omega]
      generalize am_fold (g_k_guards_98 q s) 0 n 1 = X at *
      unfold g_k_guards_98
      rw [hE n (by omega) (by omega)]
      by_cases e : X = 0
      · rw [if_pos e]
        obtain ⟨w, b1, b2, b3⟩ := ih9.mp e
        exact ⟨fun _ => ⟨w, b1, by omega, b3⟩, fun _ => rfl⟩
      · rw [if_neg e]
        by_cases e2 : f_ever r h n = 0
        · rw [if_pos e2]
          refine ⟨fun g => absurd g (by decide), fun ⟨w, b1, b2, b3, b4⟩ => ?_⟩
          by_cases e3 : w = n
          · rw [e3] at b3; exact absurd e2 b3
          · exact absurd (ih9.mpr ⟨w, b1, by omega, b3, b4⟩) e
        · rw [if_neg e2]
          by_cases e4 : am_iand (f_ever r h n) s = 0
          · rw [if_pos e4]
            exact ⟨fun _ => ⟨n, by omega, by omega, e2, e4⟩, fun _ => rfl⟩
          · rw [if_neg e4]
            refine ⟨fun g => absurd g (by decide), fun ⟨w, b1, b2, b3, b4⟩ => ?_⟩
            by_cases e3 : w = n
            · rw [e3] at b4; exact absurd b4 e4
            · exact absurd (ih9.mpr ⟨w, b1, by omega, b3, b4⟩) e
  rw [h9 _ (by omega)]
  cases e : am_find (p_c_guardsAll_2 h r s) 0 (c 4 4).toNat with
  | none =>
    refine ⟨fun g => absurd g (by show ¬ (1 : Int) = 0; decide), fun ⟨w, b1, b2, b3, b4⟩ => ?_⟩
    have hn : ∀ (n : Nat) (i : Int), am_find (p_c_guardsAll_2 h r s) i n = none → ∀ j, i ≤ j → j < i + n → p_c_guardsAll_2 h r s j = none := by
      intro n
      induction n with
      | zero => intro i _ j h1 h2; omega
      | succ n ih =>
        intro i h j h1 h2
        cases e5 : p_c_guardsAll_2 _ r s i with
        | some x => rw [am_find_y e5] at h; cases h
        | none =>
          rw [am_find_n e5] at h
          by_cases e6 : j = i
          · rw [e6]; exact e5
          · exact ih (i + 1) h j (by omega) (by omega)
    have := hn _ 0 e w b1 (by omega)
    unfold p_c_guardsAll_2 at this
    simp only [] at this
    rw [if_neg b3, if_pos b4] at this
    cases this
  | some x =>
    obtain ⟨j, h1, h2, h3⟩ := am_find_spec _ _ e
    unfold p_c_guardsAll_2 at h3
    simp only [] at h3
    by_cases g1 : f_ever r h j = 0
    · rw [if_pos g1] at h3; cases h3
    · by_cases g2 : am_iand (f_ever r h j) s = 0
      · rw [if_neg g1, if_pos g2] at h3
        have : (0 : Int) = x := Option.some.inj h3
        rw [← this]
        exact ⟨fun _ => ⟨j, h1, by omega, g1, g2⟩, fun _ => rfl⟩
      · rw [if_neg g1, if_neg g2] at h3; cases h3
theorem ti_guards {h c r q : am_F} (hC : HC h c) (hE : ∀ w : Int, 0 ≤ w → w < c 4 4 → q 731 w.toNat = f_ever r h w) : am_fold (g_c_guards_28 h r) 0 (am_ishl 1 (h 0 9)).toNat (am_ishl 1 (h 0 9) - 1) = am_fold (g_k_guards_81 c q) 0 (am_ishl 1 (c 4 5)).toNat (am_ishl 1 (c 4 5) - 1) := by
  obtain ⟨hHI, hV, hT, hN, hW, hWt, hSh, hL⟩ := id hC
  have v5 := hV.2.2.2.2.2.1
  rw [hWt.1]
  have hb := ti_bits ⟨(c 4 5).toNat, by omega⟩
  have e5 : (((c 4 5).toNat : Nat) : Int) = c 4 5 := by omega
  have hp : (2 ^ (c 4 5).toNat : Nat) ≤ 2 ^ 4 := Nat.pow_le_pow_right (by decide) (by omega)
  have hp0 : 0 < (2 ^ (c 4 5).toNat : Nat) := Nat.pow_pos (by decide)
  simp only [e5] at hb
  obtain ⟨hb1, hb2⟩ := hb
  rw [hb1] at hb2 ⊢
  generalize (2 ^ (c 4 5).toNat : Nat) = N at *
  refine (ti_rel (R := fun i (a b : Int) => a = b ∧ 0 ≤ a ∧ a < N ∧ (a = N - 1 ∨ a < i)) (f := g_c_guards_28 h r) (g := g_k_guards_81 c q) ((N : Nat) : Int).toNat 0 ((N : Nat) - 1 : Int) ((N : Nat) - 1 : Int) ⟨rfl, by omega, by omega, Or.inl rfl⟩ fun j a b a1 a2 hR => ?_).1
  obtain ⟨rfl, r1, r2, r3⟩ := hR
  have q1 := hb2 ⟨j.toNat, by omega⟩ (by show j.toNat < N; omega)
  have q2 := hb2 ⟨a.toNat, by omega⟩ (by show a.toNat < N; omega)
  have ej : ((j.toNat : Nat) : Int) = j := by omega
  have ea : ((a.toNat : Nat) : Int) = a := by omega
  simp only [ej, ea] at q1 q2
  have hg := ti_guardsAll (s := j) hV.2.2.2.2.1.1 hW.1 hE
  unfold g_c_guards_28 g_k_guards_81
  simp only []
  rw [q1.1, q2.1]
  by_cases g1 : c_guardsAll h r j = 0
  · rw [if_pos g1, if_pos (hg.mp g1)]
    have : (if k_ones a ≤ k_ones j then a else a) = a := by split <;> rfl
    rw [this]
    exact ⟨rfl, r1, r2, by omega⟩
  · rw [if_neg g1, if_neg (fun g => g1 (hg.mpr g))]
    by_cases g2 : k_ones j < k_ones a
    · rw [if_neg (by omega), if_pos g2]
      exact ⟨rfl, a1, by omega, by omega⟩
    · rw [if_pos (by omega), if_neg g2]
      by_cases g3 : k_ones j = k_ones a
      · rw [if_pos g3]
        have e : (if a ≤ j then a else j) = a := by
          by_cases g4 : a ≤ j
          · rw [if_pos g4]
          · have h7 := q1.2 (by omega)
            have ea2 : a = (N : Int) - 1 := by omega
            rw [← ea2] at h7
            omega
        rw [e]
        exact ⟨rfl, r1, r2, by omega⟩
      · rw [if_neg g3]
        exact ⟨rfl, r1, r2, by omega⟩
theorem ti_net {h c r q : am_F} {k : Int} (hC : HC h c) (hk : 0 ≤ k ∧ k < c 4 3) (hlk : ∀ a e : Int, 0 ≤ a → a < 6 → 0 ≤ e → e < 6 → f_leaked r a e = q (259 + a.toNat) e.toNat) : am_fold (g_c_net_25 h r k) 0 (h 0 7).toNat 0 = am_fold (g_k_net_37 c q k) 0 (c 4 3).toNat 0 := by
  obtain ⟨hHI, hV, hT, hN, hW, hWt, hSh, hL⟩ := id hC
  have v4 := hV.2.2.2.1
  rw [hT.2.2.2.2.2]
  refine (ti_rel (R := fun i (a b : Int) => a = b ∧ am_w32 a = a) (f := g_c_net_25 h r k) (g := g_k_net_37 c q k) (c 4 3).toNat 0 0 0 ⟨rfl, by decide⟩ fun j a b a1 a2 hR => ?_).1
  obtain ⟨rfl, hw⟩ := hR
  unfold g_c_net_25 g_k_net_37
  by_cases g : j = k
  · rw [if_pos g, g]
    have e : am_w32 (q (259 + k.toNat) k.toNat * c (96 + k.toNat) 5) - am_w32 (q (259 + k.toNat) k.toNat * c (96 + k.toNat) 5) = 0 := by omega
    rw [e, show am_w32 0 = 0 by decide, Int.add_zero, hw]
    exact ⟨rfl, rfl⟩
  · rw [if_neg g]
    simp only []
    unfold c_damages
    simp only []
    rw [hlk j k (by omega) (by omega) (by omega) (by omega), hlk k j (by omega) (by omega) (by omega) (by omega), (hL.2.1 k hk.1 hk.2).2.1, (hL.2.1 j a1 (by omega)).2.1]
    exact ⟨rfl, ti_ww _⟩
theorem ti_worthless {h c r q : am_F} {k much : Int} (hC : HC h c) (hk : 0 ≤ k ∧ k < c 4 3) (hQ : ∀ s : Int, 0 ≤ s → s < 40 → FQ s r q) : ∀ (n : Nat) (F G : Nat), n ≤ 40 → n + 1 ≤ F → n + 1 ≤ G → am_wr (w_c_worthless_33 h r k much) 0 F ((n : Int) - 1) = am_wh (w_k_worthless_61 c q k much) G (n : Int) := by
  intro n
  induction n with
  | zero =>
    intro F G h1 h2 h3
    obtain ⟨F', rfl⟩ : ∃ F', F = F' + 1 := ⟨F - 1, by omega⟩
    obtain ⟨G', rfl⟩ : ∃ G', G = G' + 1 := ⟨G - 1, by omega⟩
    rw [am_wr_r (y := 0) (by unfold w_c_worthless_33; rw [if_pos (by omega)]), am_wh_r (y := ((0 : Nat) : Int)) (by unfold w_k_worthless_61; rw [if_pos (by omega)])]
    rfl
  | succ n ih =>
    intro F G h1 h2 h3
    obtain ⟨F', rfl⟩ : ∃ F', F = F' + 1 := ⟨F - 1, by omega⟩
    obtain ⟨G', rfl⟩ : ∃ G', G = G' + 1 := ⟨G - 1, by omega⟩
    have e := (ti_inLot hC (hQ n (by omega) (by omega)) hk).1
    rw [show ((n + 1 : Nat) : Int) - 1 = (n : Int) by omega]
    by_cases g : k_yardsOf c q k n < much
    · rw [am_wr_l (y := (n : Int) - 1) (by
        unfold w_c_worthless_33
        simp only []
        rw [if_neg (by omega), e, if_pos g]
        rfl), am_wh_l (y := (n : Int)) (by
        unfold w_k_worthless_61
        rw [if_neg (by omega), show ((n + 1 : Nat) : Int) - 1 = (n : Int) by omega, if_neg (by omega)]
        congr 1; omega)]
      exact ih F' G' (by omega) (by omega) (by omega)
    · rw [am_wr_r (y := (n : Int) + 1) (by
        unfold w_c_worthless_33
        simp only []
        rw [if_neg (by omega), e, if_neg g]), am_wh_r (y := ((n + 1 : Nat) : Int)) (by
        unfold w_k_worthless_61
        rw [if_neg (by omega), show ((n + 1 : Nat) : Int) - 1 = (n : Int) by omega, if_pos (by omega)])]
      omega
theorem ti_letsIn {h c r q : am_F} {k s : Int} (hC : HC h c) (hQ : FQ s r q) (hk : 0 ≤ k ∧ k < c 4 6) : (f_letsIn r h k s = 0 ↔ p_k_comesIn_2 c q k s = none) := by
  obtain ⟨hHI, hV, hT, hN, hW, hWt, hSh, hL⟩ := id hC
  have v1 := hV.1
  have v2 := hV.2.1
  obtain ⟨s1, s2, s3⟩ := hSh.2 k hk.1 hk.2
  unfold f_letsIn p_k_comesIn_2
  simp only []
  rw [hT.1.2]
  have h9 : ∀ (n : Nat) (i ok : Int), 0 ≤ i → i + n ≤ c 4 1 → ok ≠ 0 → ((am_find (p_letsIn r h k s) i n).getD 1 = 0 ↔ am_fold (g_k_comesIn_13 c q k s) i n ok = 0) := by
    intro n
    induction n with
    | zero =>
      intro i ok _ _ hok
      exact ⟨fun g => absurd g (by show ¬ (1 : Int) = 0; decide), fun g => absurd g hok⟩
    | succ n ih =>
      intro i ok h0 h1 hok
      obtain ⟨f1, f2, f3⟩ := hQ (c (128 + k.toNat) 0) i s3.1 (by omega) h0 (by omega)
      rw [am_fold_s]
      have eg : g_k_comesIn_13 c q k s i ok = if c (128 + k.toNat) 1 < f_fogOn r (c (128 + k.toNat) 0 + 10 * i) s then 0 else 1 := by
        unfold g_k_comesIn_13
        rw [if_neg hok, f1]
      rw [eg]
      by_cases g : c (128 + k.toNat) 1 < f_fogOn r (c (128 + k.toNat) 0 + 10 * i) s
      · have e1 : p_letsIn r h k s i = some 0 := by unfold p_letsIn; rw [s1, s2, if_pos g]
        rw [am_find_y e1, if_pos g]
        refine ⟨fun _ => ?_, fun _ => rfl⟩
        exact ti_inv0 (P := fun x : Int => x = 0) n (i + 1) 0 rfl fun j x _ _ hx => by unfold g_k_comesIn_13; rw [if_pos hx]
      · have e1 : p_letsIn r h k s i = none := by unfold p_letsIn; rw [s1, s2, if_neg g]
        rw [am_find_n e1, if_neg g]
        exact ih (i + 1) 1 (by omega) (by omega) (by decide)
  rw [h9 _ 0 1 (by omega) (by omega) (by decide)]
  by_cases g : am_fold (g_k_comesIn_13 c q k s) 0 (c 4 1).toNat 1 = 0
  · rw [if_pos g]; exact ⟨fun _ => rfl, fun _ => g⟩
  · rw [if_neg g]; exact ⟨fun g2 => absurd g2 g, fun g2 => by cases g2⟩
theorem ti_comes_some {c q : am_F} {k s x : Int} (h : p_k_comesIn_2 c q k s = some x) : x = s := by
  unfold p_k_comesIn_2 at h
  simp only [] at h
  split at h
  · cases h
  · exact (Option.some.inj h).symm
/-- the first step in which a ship may come in, ahead of one -/
theorem ti_firstClear {I : am_F → Prop} {h c q : am_F} {k ah : Int} (hC : HC h c) (hk : 0 ≤ k ∧ k < c 4 6) (hah : ah ≤ 40) (hI : ∀ r s, I r → 0 ≤ s → s < 40 → I (f_upTo h r s) ∧ FQ s (f_upTo h r s) q) : ∀ (n : Nat) (s : Int) (r : am_F) (F : Nat), s + n = ah → 0 ≤ s → I r → n + 1 ≤ F → I (am_wr (w_c_firstClear54_3 h k ah) (0, fun _ _ => 0) F (s, r)).2 ∧ (am_wr (w_c_firstClear54_3 h k ah) (0, fun _ _ => 0) F (s, r)).1 = (am_find (p_k_comesIn_2 c q k) s n).elim (-1) (fun r9 => r9) := by
  intro n
  induction n with
  | zero =>
    intro s r F h1 h2 h3 h4
    obtain ⟨F', rfl⟩ : ∃ F', F = F' + 1 := ⟨F - 1, by omega⟩
    rw [am_wr_r (y := ((-1 : Int), r)) (by unfold w_c_firstClear54_3; simp only []; rw [if_pos (by omega)])]
    exact ⟨h3, rfl⟩
  | succ n ih =>
    intro s r F h1 h2 h3 h4
    obtain ⟨F', rfl⟩ : ∃ F', F = F' + 1 := ⟨F - 1, by omega⟩
    obtain ⟨i1, i2⟩ := hI r s h3 h2 (by omega)
    have hl := ti_letsIn hC i2 hk
    by_cases g : f_letsIn (f_upTo h r s) h k s = 0
    · rw [am_wr_l (y := (s + 1, f_upTo h r s)) (by unfold w_c_firstClear54_3; simp only []; rw [if_neg (by omega), if_pos g]), am_find_n (hl.mp g)]
      exact ih (s + 1) _ F' (by omega) (by omega) i1 (by omega)
    · rw [am_wr_r (y := (s, f_upTo h r s)) (by unfold w_c_firstClear54_3; simp only []; rw [if_neg (by omega), if_neg g])]
      refine ⟨i1, ?_⟩
      cases e : p_k_comesIn_2 c q k s with
      | none => exact absurd (hl.mpr e) g
      | some x =>
        rw [am_find_y e, ti_comes_some e]
        rfl
theorem ti_calm {h c q : am_F} (hA : HbAll h) (hT : TH h c) : ∀ (n : Nat) (s : Int) (r : am_F) (F : Nat), s + n = 40 → 0 ≤ s → BaseI h c r → n + 1 ≤ F → BaseI h c (am_wr (w_c_calm_7 h) (0, fun _ _ => 0) F (s, r)).2 ∧ (am_wr (w_c_calm_7 h) (0, fun _ _ => 0) F (s, r)).1 = (am_find (p_k_calm_34 (k_goes c q)) s n).elim (-1) (fun r9 => r9) := by
  intro n
  induction n with
  | zero =>
    intro s r F h1 h2 h3 h4
    obtain ⟨F', rfl⟩ : ∃ F', F = F' + 1 := ⟨F - 1, by omega⟩
    rw [am_wr_r (y := ((-1 : Int), r)) (by unfold w_c_calm_7; simp only []; rw [if_pos (by omega)])]
    exact ⟨h3, rfl⟩
  | succ n ih =>
    intro s r F h1 h2 h3 h4
    obtain ⟨F', rfl⟩ : ∃ F', F = F' + 1 := ⟨F - 1, by omega⟩
    have i1 := (Base_upTo hA hT h3 (st := s) (by omega)).1
    have i2 := Base_moved hA hT h3 (st := s) (s := s) (by omega) (by omega) q
    by_cases g : f_movedIn (f_upTo h r s) s = 0
    · rw [am_wr_r (y := (s, f_upTo h r s)) (by unfold w_c_calm_7; simp only []; rw [if_neg (by omega), if_pos g]), am_find_y (r := s) (by unfold p_k_calm_34; rw [← i2, if_pos g])]
      exact ⟨i1, rfl⟩
    · rw [am_wr_l (y := (s + 1, f_upTo h r s)) (by unfold w_c_calm_7; simp only []; rw [if_neg (by omega), if_neg g]), am_find_n (by unfold p_k_calm_34; rw [← i2, if_neg g])]
      exact ih (s + 1) _ F' (by omega) (by omega) i1 (by omega)
theorem ti_startLoop {h c r q : am_F} {k : Int} (hmv : f_moves h k = c (108 + k.toNat) 3) (hl : ∀ s : Int, 0 ≤ s → s < 40 - f_moves h k → f_least r h k s = k_walkedN c q k s) : ∀ (n : Nat) (s bst lst : Int) (F : Nat), s + n = 40 - f_moves h k → 0 ≤ s → bst ≠ -1 → n + 1 ≤ F → (am_wh (w_c_start_36 h r k) F (bst, lst, s)).1 = (am_fold (g_k_start_69 c q k) s n (bst, lst)).1 ∧ (am_wh (w_c_start_36 h r k) F (bst, lst, s)).2.1 = (am_fold (g_k_start_69 c q k) s n (bst, lst)).2 := by
  intro n
  induction n with
  | zero =>
    intro s bst lst F h1 h2 h3 h4
    obtain ⟨F', rfl⟩ : ∃ F', F = F' + 1 := ⟨F - 1, by omega⟩
    rw [am_wh_r (y := (bst, lst, s)) (by unfold w_c_start_36; simp only []; rw [if_pos (by omega)])]
    exact ⟨rfl, rfl⟩
  | succ n ih =>
    intro s bst lst F h1 h2 h3 h4
    obtain ⟨F', rfl⟩ : ∃ F', F = F' + 1 := ⟨F - 1, by omega⟩
    have e := hl s h2 (by omega)
    have eg : g_k_start_69 c q k s (bst, lst) = (if k_walkedN c q k s < lst then s else bst, if k_walkedN c q k s < lst then k_walkedN c q k s else lst) := rfl
    rw [am_fold_s, eg]
    by_cases g : k_walkedN c q k s < lst
    · rw [am_wh_l (y := (s, k_walkedN c q k s, s + 1)) (by
        unfold w_c_start_36; simp only []
        rw [if_neg (by omega), if_neg h3, e, if_neg (by omega), if_neg h3, if_neg (by omega)]), if_pos g, if_pos g]
      exact ih (s + 1) s _ F' (by omega) (by omega) (by omega) (by omega)
    · rw [am_wh_l (y := (bst, lst, s + 1)) (by
        unfold w_c_start_36; simp only []
        rw [if_neg (by omega), if_neg h3, e, if_pos (by omega), if_neg h3, if_pos (by omega)]), if_neg g, if_neg g]
      exact ih (s + 1) bst lst F' (by omega) (by omega) h3 (by omega)
theorem ti_start {h c r q : am_F} {k : Int} (hC : HC h c) (hF : RnF r) (hk : 0 ≤ k ∧ k < c 4 4) (hQ : ∀ s : Int, 0 ≤ s → s < 40 → FQ s r q) : (am_wh (w_c_start_36 h r k) 41 (-1, 0, 0)).1 = (am_fold (g_k_start_69 c q k) 1 (40 - c (108 + k.toNat) 3 - 1).toNat (0, k_walkedN c q k 0)).1 ∧ (am_wh (w_c_start_36 h r k) 41 (-1, 0, 0)).2.1 = (am_fold (g_k_start_69 c q k) 1 (40 - c (108 + k.toNat) 3 - 1).toNat (0, k_walkedN c q k 0)).2 := by
  obtain ⟨hHI, hV, hT, hN, hW, hWt, hSh, hL⟩ := id hC
  have hmv := ((hW.2 k hk.1 hk.2).1).2
  have hm12 := (hHI.2.1 k).2
  have hl : ∀ s : Int, 0 ≤ s → s < 40 - f_moves h k → f_least r h k s = k_walkedN c q k s := fun s a1 a2 =>
    (ti_least hC hF hk (bg := s) (by omega) (fun t b1 b2 b3 => hQ t (by omega) b3)).1
  have e0 := hl 0 (by omega) (by omega)
  rw [am_wh_l (n := 40) (y := (0, k_walkedN c q k 0, 1)) (by
    unfold w_c_start_36; simp only []
    rw [if_neg (by omega), e0, if_pos trivial, if_pos trivial, Int.zero_add])]
  rw [← hmv]
  exact ti_startLoop hmv hl (40 - f_moves h k - 1).toNat 1 0 _ 40 (by omega) (by omega) (by omega) (by omega)
