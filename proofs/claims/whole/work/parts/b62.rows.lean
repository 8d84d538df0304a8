/-! THE TIE: the rows of a rule's text -/
theorem tS5 {c : am_F} {sg : Int} (h0 : c 0 5 = 0) : (k_takesSign c sg).2 0 5 = 0 := by
  rw [k_tS h0]
  split
  · dsimp only
    rw [am_put_i (by decide)]
    exact k_blanks_5.trans h0
  · exact k_blanks_5.trans h0
theorem tW5 {c : am_F} {la lb lc ld le lf lg : Int} (hV : RdV c) (h0 : c 0 5 = 0) : (k_takes c la lb lc ld le lf lg).2 0 5 = 0 := by
  have b5 : k_blanks c 0 5 = 0 := k_blanks_5.trans h0
  rw [rr_takeK h0]
  dsimp only
  split
  · have h9 := (Ea_skipn 601 (Ea_r (k_blanks_x hV).1)).2
    exact h9.trans b5
  · exact b5
theorem OrR_op {o x y : Int} (h : 2 ≤ x ∧ x ≤ 8 ∧ o = 1998 + x) : OrR o x y := Or.inr (Or.inr (Or.inl h))
theorem ll_times {e v0 c0 : am_F} {N : Nat} {dp : Int} {fa : am_F → am_F → am_F × am_F} {fb : am_F → am_F} (t : TpI e) (hL : LV e false N dp fa fb) (hM0 : MI c0) (hd : c0 0 50 = dp) : ∀ (μ F G : Nat) (i : Int) (v k c : am_F), μ < F → μ < G → SG e v0 c0 v k c ∧ MR c0 c 0 0 ∧ (c 0 5 = 0 → c 0 2 - c 0 4 < μ ∧ (0 ≤ i ∧ i + 1 ≤ c 0 4) ∧ XX c false (N + 1) (c0 0 49) (c 0 49)) → SG e v0 c0 (am_wh (w_c_readProduct_7 e fa) F (i, v, k)).2.1 (am_wh (w_c_readProduct_7 e fa) F (i, v, k)).2.2 (am_wh (w_k_times_4 fb) G c) ∧ MR c0 (am_wh (w_k_times_4 fb) G c) 0 0 ∧ (am_wh (w_k_times_4 fb) G c 0 5 = 0 → XX (am_wh (w_k_times_4 fb) G c) false (N + 1) (c0 0 49) (am_wh (w_k_times_4 fb) G c 0 49)) := by
  intro μ
  induction μ with
  | zero =>
    intro F G i v k c hF hG hR
    obtain ⟨s1, m1, r1⟩ := hR
    obtain ⟨F, rfl⟩ : ∃ F', F = F' + 1 := ⟨F - 1, by omega⟩
    obtain ⟨G, rfl⟩ : ∃ G', G = G' + 1 := ⟨G - 1, by omega⟩
    by_cases g5 : c 0 5 = 0
    · have h1 := (r1 g5).1
      have h2 := m1.1.2.1
      omega
    · have w2 : w_k_times_4 fb c = .inr c := if_neg g5
      have hp : c_fine k = 0 := c_fine_0 (by rw [s1.1.1]; exact g5)
      have w1 : w_c_readProduct_7 e fa (i, v, k) = .inr (i, v, k) := by
        unfold w_c_readProduct_7
        dsimp only
        rw [if_pos hp]
        split <;> rfl
      rw [am_wh_r w1, am_wh_r w2]
      exact ⟨s1, m1, fun g => absurd g g5⟩
  | succ μ ih =>
    intro F G i v k c hF hG hR
    obtain ⟨s1, m1, r1⟩ := hR
    obtain ⟨F, rfl⟩ : ∃ F', F = F' + 1 := ⟨F - 1, by omega⟩
    obtain ⟨G, rfl⟩ : ∃ G', G = G' + 1 := ⟨G - 1, by omega⟩
    by_cases g5 : c 0 5 = 0
    case neg =>
      have w2 : w_k_times_4 fb c = .inr c := if_neg g5
      have hp : c_fine k = 0 := c_fine_0 (by rw [s1.1.1]; exact g5)
      have w1 : w_c_readProduct_7 e fa (i, v, k) = .inr (i, v, k) := by
        unfold w_c_readProduct_7
        dsimp only
        rw [if_pos hp]
        split <;> rfl
      rw [am_wh_r w1, am_wh_r w2]
      exact ⟨s1, m1, fun g => absurd g g5⟩
    obtain ⟨r2, r3, r4⟩ := r1 g5
    have hMc : MI c := MR_I hM0 m1 (by decide) (by have := hM0.2.2.2.1; omega)
    have hi : ¬ 200 ≤ i := by
      have := hMc.1.2.1
      have := hMc.2.1
      omega
    have go : ∀ (k' X : am_F) (o tc : Int), RR e k' X → Ea c X 1 → X 0 5 = 0 → (2 ≤ tc ∧ tc ≤ 5 ∧ o = 1998 + tc) → SG e v0 c0 (am_wh (w_c_readProduct_7 e fa) F (i + 1, f_rput (fa v k').1 o, (fa v k').2)).2.1 (am_wh (w_c_readProduct_7 e fa) F (i + 1, f_rput (fa v k').1 o, (fa v k').2)).2.2 (am_wh (w_k_times_4 fb) G (k_says (fb X) tc 0)) ∧ MR c0 (am_wh (w_k_times_4 fb) G (k_says (fb X) tc 0)) 0 0 ∧ (am_wh (w_k_times_4 fb) G (k_says (fb X) tc 0) 0 5 = 0 → XX (am_wh (w_k_times_4 fb) G (k_says (fb X) tc 0)) false (N + 1) (c0 0 49) (am_wh (w_k_times_4 fb) G (k_says (fb X) tc 0) 0 49)) := fun k' X o tc hRX hE hX5 hot => by
      have x49 : X 0 49 = c 0 49 := hE.2.1.2 49 (by decide) (by decide) (by decide)
      have mX : MR c0 X 1 0 := MR_le (MR_E m1 hE) (by decide)
      have hMX : MI X := MR_I hM0 mX (by decide) (by have := hM0.2.2.2.1; omega)
      have sX : SG e v0 c0 v k' X := SG_L s1 hRX hE.2.1 (fun _ => g5)
      have x50 : X 0 50 = dp := by have := mX.2.2.2.1; omega
      obtain ⟨d1, d2, d3, d4⟩ := lv_call hL sX hMX (fun _ => x50)
      generalize fa v k' = U at *
      generalize fb X = Y at *
      have mY : MR c0 Y 1 0 := MR_o (MR_le (MR_t mX d2) (by decide)) (by decide)
      obtain ⟨p1, p2⟩ := SG_put (o := o) (x := tc) (y := 0) d1 (fun g => ⟨MR_room hM0 mY g, OrR_op ⟨hot.1, by omega, hot.2.2⟩⟩)
      have mZ : MR c0 (k_says Y tc 0) 0 0 := MR_le (MR_says hM0 mY (by decide)) (by decide)
      have z2 : k_says Y tc 0 0 2 = c 0 2 := mZ.2.1.1.trans m1.2.1.1.symm
      have z4 : k_says Y tc 0 0 4 = Y 0 4 := (k_says_4 Y tc 0).1
      refine ih F G (i + 1) _ _ _ (by omega) (by omega) ⟨p1, mZ, fun g => ?_⟩
      obtain ⟨q1, q2, q3, q4⟩ := p2 g
      obtain ⟨q5, q6, q7⟩ := d4 q1
      have a1 := (hE.2.2 hX5).2
      have a2 := MR_at d2 q1
      have a3 := s1.2.2 g5
      have a4 := XX_lt q6
      refine ⟨by omega, by omega, ?_⟩
      rw [q2]
      refine XX_2 (XX_c (fun j j0 j1 => ?_) r4) (XX_c (fun j j0 j1 => ?_) (x49 ▸ q6)) (Nat.le_refl _) (Or.inl ⟨rfl, by rw [q3]; exact hot.1, by rw [q3]; exact hot.2.1⟩)
      · have h00 : 0 ≤ j := by have := hM0.2.2.1.1; omega
        rw [q4 j h00 (by omega), q7 j h00 (by omega), hE.2.1.1 _ (by omega)]
      · have h00 : 0 ≤ j := by have := hMc.2.2.1.1; omega
        rw [q4 j h00 (by omega)]
    obtain ⟨a1, a2⟩ := rr_takesSign s1.1 t (sg := 42) (by decide)
    have hE1 := Ea_takesSign (sg := 42) (Ea_r hMc.1) (by decide)
    have f1 := tS5 (sg := 42) g5
    have hb1 := k_takesSign_b c 42
    obtain ⟨b1, b2⟩ := rr_takesSign a1 t (sg := 47) (by decide)
    have hE2 := Ea_takesSign (sg := 47) hE1 (by decide)
    have f2 := tS5 (sg := 47) f1
    have hb2 := k_takesSign_b (k_takesSign c 42).2 47
    have w2 : w_k_times_4 fb c = (if (if (k_takesSign c 42).1 = 0 then (if (k_takesSign (k_takesSign c 42).2 47).1 = 0 then (-1 : Int) else 5) else 4) = -1 then .inr (if (k_takesSign c 42).1 = 0 then (k_takesSign (k_takesSign c 42).2 47).2 else (k_takesSign c 42).2) else .inl (k_says (fb (if (k_takesSign c 42).1 = 0 then (k_takesSign (k_takesSign c 42).2 47).2 else (k_takesSign c 42).2)) (if (k_takesSign c 42).1 = 0 then (if (k_takesSign (k_takesSign c 42).2 47).1 = 0 then (-1 : Int) else 5) else 4) 0)) := if_pos g5
    have w1 : w_c_readProduct_7 e fa (i, v, k) = (if (c_takesSign e k 42).1 = 0 then (if (c_takesSign e (c_takesSign e k 42).2 47).1 = 0 then .inr (i, v, (c_takesSign e (c_takesSign e k 42).2 47).2) else .inl (i + 1, f_rput (fa v (c_takesSign e (c_takesSign e k 42).2 47).2).1 2003, (fa v (c_takesSign e (c_takesSign e k 42).2 47).2).2)) else .inl (i + 1, f_rput (fa v (c_takesSign e k 42).2).1 2002, (fa v (c_takesSign e k 42).2).2)) := by
      unfold w_c_readProduct_7
      dsimp only
      rw [if_neg hi, if_neg (by rw [rr_fine s1.1 g5]; decide)]
    rw [a2, b2] at w1
    rcases hb1 with h1 | h1
    · rw [h1] at hE2
      rcases hb2 with h2 | h2
      · rw [if_pos h1, if_pos h2] at w1
        rw [if_pos h1, if_pos h1, if_pos h2, if_pos rfl] at w2
        rw [am_wh_r w1, am_wh_r w2]
        have hx : Lx c (k_takesSign (k_takesSign c 42).2 47).2 := hE2.2.1
        refine ⟨SG_L s1 b1 hx (fun _ => g5), MR_le (MR_E m1 (Ea_le hE2 (show (0 : Int) ≤ _ by omega))) (by decide), fun _ => ?_⟩
        rw [hx.2 49 (by decide) (by decide) (by decide)]
        exact XX_c (fun j _ _ => by rw [hx.1 _ (by omega)]) r4
      · rw [if_pos h1, if_neg (by omega)] at w1
        have h2n : ¬ (k_takesSign (k_takesSign c 42).2 47).1 = 0 := by omega
        rw [if_pos h1, if_pos h1, if_neg h2n, if_neg (by decide)] at w2
        rw [am_wh_l w1, am_wh_l w2]
        exact go _ _ 2003 5 b1 (Ea_le hE2 (by omega)) f2 ⟨by decide, by decide, by decide⟩
    · rw [if_neg (by omega)] at w1
      have h1n : ¬ (k_takesSign c 42).1 = 0 := by omega
      rw [if_neg h1n, if_neg h1n, if_neg (by decide)] at w2
      rw [am_wh_l w1, am_wh_l w2]
      exact go _ _ 2002 4 a1 (Ea_le hE1 (by omega)) f1 ⟨by decide, by decide, by decide⟩
theorem lv_times {e : am_F} {N : Nat} {dp : Int} {fa : am_F → am_F → am_F × am_F} {fb : am_F → am_F} (t : TpI e) (hL : LV e false N dp fa fb) : LV e false (N + 1) dp (fun v k => c_readProduct e v k fa) (fun c => k_times c fb) := by
  refine ⟨fun v k c hM hS h0 hd => ?_, fun v k h4 hv hI => ?_, c_readProduct_x t hL.2.2.1, k_times_x hL.2.2.2.1, fun c h5 => ?_⟩
  · obtain ⟨d1, d2, d3, d4⟩ := lv_call hL hS hM (fun _ => hd)
    have h9 := ll_times (v0 := v) (c0 := c) t hL hM hd 200 201 602 0 (fa v k).1 (fa v k).2 (fb c) (by decide) (by decide) ⟨d1, d2, fun g => ?_⟩
    · exact ⟨h9.1, h9.2.2⟩
    · obtain ⟨q1, q2, q3⟩ := d4 g
      have a1 := (d2.2.2.2.2 g).2
      have a2 := XX_lt q2
      have a3 := hM.1.1
      have a4 := d3.2.1
      have a5 := hM.2.2.1.1
      have a6 := hM.2.2.2.2 q1
      exact ⟨by omega, by omega, XX_n (by omega) q2⟩
  · obtain ⟨x1, x2, x3⟩ := hL.2.1 v k h4 hv hI
    have hp : (fa v k).2 0 4 ≠ 0 := by rw [x1]; exact h4
    have w1 : w_c_readProduct_7 e fa (0, (fa v k).1, (fa v k).2) = .inr (0, (fa v k).1, (fa v k).2) := by
      unfold w_c_readProduct_7
      dsimp only
      rw [if_neg (by decide), if_pos (c_fine_0 hp)]
    have e1 : (c_readProduct e v k fa).2 = (am_wh (w_c_readProduct_7 e fa) (200 + 1) (0, (fa v k).1, (fa v k).2)).2.2 := rfl
    dsimp only
    rw [e1, am_wh_r w1]
    exact ⟨x1, x2, x3⟩
  · have e1 : k_times c fb = am_wh (w_k_times_4 fb) (601 + 1) (fb c) := rfl
    dsimp only
    rw [e1, hL.2.2.2.2 c h5]
    have w2 : w_k_times_4 fb c = .inr c := if_neg h5
    rw [am_wh_r w2]
theorem ll_sum {e v0 c0 : am_F} {N : Nat} {dp : Int} {fa : am_F → am_F → am_F × am_F} {fb : am_F → am_F} (t : TpI e) (hL : LV e false N dp fa fb) (hM0 : MI c0) (hd : c0 0 50 = dp) : ∀ (μ F G : Nat) (i : Int) (v k c : am_F), μ < F → μ < G → SG e v0 c0 v k c ∧ MR c0 c 0 0 ∧ (c 0 5 = 0 → c 0 2 - c 0 4 < μ ∧ (0 ≤ i ∧ i + 1 ≤ c 0 4) ∧ XX c false (N + 1) (c0 0 49) (c 0 49)) → SG e v0 c0 (am_wh (w_c_readSum_7 e fa) F (i, v, k)).2.1 (am_wh (w_c_readSum_7 e fa) F (i, v, k)).2.2 (am_wh (w_k_sum_4 fb) G c) ∧ MR c0 (am_wh (w_k_sum_4 fb) G c) 0 0 ∧ (am_wh (w_k_sum_4 fb) G c 0 5 = 0 → XX (am_wh (w_k_sum_4 fb) G c) false (N + 1) (c0 0 49) (am_wh (w_k_sum_4 fb) G c 0 49)) := by
  intro μ
  induction μ with
  | zero =>
    intro F G i v k c hF hG hR
    obtain ⟨s1, m1, r1⟩ := hR
    obtain ⟨F, rfl⟩ : ∃ F', F = F' + 1 := ⟨F - 1, by omega⟩
    obtain ⟨G, rfl⟩ : ∃ G', G = G' + 1 := ⟨G - 1, by omega⟩
    by_cases g5 : c 0 5 = 0
    · have h1 := (r1 g5).1
      have h2 := m1.1.2.1
      omega
    · have w2 : w_k_sum_4 fb c = .inr c := if_neg g5
      have hp : c_fine k = 0 := c_fine_0 (by rw [s1.1.1]; exact g5)
      have w1 : w_c_readSum_7 e fa (i, v, k) = .inr (i, v, k) := by
        unfold w_c_readSum_7
        dsimp only
        rw [if_pos hp]
        split <;> rfl
      rw [am_wh_r w1, am_wh_r w2]
      exact ⟨s1, m1, fun g => absurd g g5⟩
  | succ μ ih =>
    intro F G i v k c hF hG hR
    obtain ⟨s1, m1, r1⟩ := hR
    obtain ⟨F, rfl⟩ : ∃ F', F = F' + 1 := ⟨F - 1, by omega⟩
    obtain ⟨G, rfl⟩ : ∃ G', G = G' + 1 := ⟨G - 1, by omega⟩
    by_cases g5 : c 0 5 = 0
    case neg =>
      have w2 : w_k_sum_4 fb c = .inr c := if_neg g5
      have hp : c_fine k = 0 := c_fine_0 (by rw [s1.1.1]; exact g5)
      have w1 : w_c_readSum_7 e fa (i, v, k) = .inr (i, v, k) := by
        unfold w_c_readSum_7
        dsimp only
        rw [if_pos hp]
        split <;> rfl
      rw [am_wh_r w1, am_wh_r w2]
      exact ⟨s1, m1, fun g => absurd g g5⟩
    obtain ⟨r2, r3, r4⟩ := r1 g5
    have hMc : MI c := MR_I hM0 m1 (by decide) (by have := hM0.2.2.2.1; omega)
    have hi : ¬ 200 ≤ i := by
      have := hMc.1.2.1
      have := hMc.2.1
      omega
    have go : ∀ (k' X : am_F) (o tc : Int), RR e k' X → Ea c X 1 → X 0 5 = 0 → (2 ≤ tc ∧ tc ≤ 5 ∧ o = 1998 + tc) → SG e v0 c0 (am_wh (w_c_readSum_7 e fa) F (i + 1, f_rput (fa v k').1 o, (fa v k').2)).2.1 (am_wh (w_c_readSum_7 e fa) F (i + 1, f_rput (fa v k').1 o, (fa v k').2)).2.2 (am_wh (w_k_sum_4 fb) G (k_says (fb X) tc 0)) ∧ MR c0 (am_wh (w_k_sum_4 fb) G (k_says (fb X) tc 0)) 0 0 ∧ (am_wh (w_k_sum_4 fb) G (k_says (fb X) tc 0) 0 5 = 0 → XX (am_wh (w_k_sum_4 fb) G (k_says (fb X) tc 0)) false (N + 1) (c0 0 49) (am_wh (w_k_sum_4 fb) G (k_says (fb X) tc 0) 0 49)) := fun k' X o tc hRX hE hX5 hot => by
      have x49 : X 0 49 = c 0 49 := hE.2.1.2 49 (by decide) (by decide) (by decide)
      have mX : MR c0 X 1 0 := MR_le (MR_E m1 hE) (by decide)
      have hMX : MI X := MR_I hM0 mX (by decide) (by have := hM0.2.2.2.1; omega)
      have sX : SG e v0 c0 v k' X := SG_L s1 hRX hE.2.1 (fun _ => g5)
      have x50 : X 0 50 = dp := by have := mX.2.2.2.1; omega
      obtain ⟨d1, d2, d3, d4⟩ := lv_call hL sX hMX (fun _ => x50)
      generalize fa v k' = U at *
      generalize fb X = Y at *
      have mY : MR c0 Y 1 0 := MR_o (MR_le (MR_t mX d2) (by decide)) (by decide)
      obtain ⟨p1, p2⟩ := SG_put (o := o) (x := tc) (y := 0) d1 (fun g => ⟨MR_room hM0 mY g, OrR_op ⟨hot.1, by omega, hot.2.2⟩⟩)
      have mZ : MR c0 (k_says Y tc 0) 0 0 := MR_le (MR_says hM0 mY (by decide)) (by decide)
      have z2 : k_says Y tc 0 0 2 = c 0 2 := mZ.2.1.1.trans m1.2.1.1.symm
      have z4 : k_says Y tc 0 0 4 = Y 0 4 := (k_says_4 Y tc 0).1
      refine ih F G (i + 1) _ _ _ (by omega) (by omega) ⟨p1, mZ, fun g => ?_⟩
      obtain ⟨q1, q2, q3, q4⟩ := p2 g
      obtain ⟨q5, q6, q7⟩ := d4 q1
      have a1 := (hE.2.2 hX5).2
      have a2 := MR_at d2 q1
      have a3 := s1.2.2 g5
      have a4 := XX_lt q6
      refine ⟨by omega, by omega, ?_⟩
      rw [q2]
      refine XX_2 (XX_c (fun j j0 j1 => ?_) r4) (XX_c (fun j j0 j1 => ?_) (x49 ▸ q6)) (Nat.le_refl _) (Or.inl ⟨rfl, by rw [q3]; exact hot.1, by rw [q3]; exact hot.2.1⟩)
      · have h00 : 0 ≤ j := by have := hM0.2.2.1.1; omega
        rw [q4 j h00 (by omega), q7 j h00 (by omega), hE.2.1.1 _ (by omega)]
      · have h00 : 0 ≤ j := by have := hMc.2.2.1.1; omega
        rw [q4 j h00 (by omega)]
    obtain ⟨a1, a2⟩ := rr_takesSign s1.1 t (sg := 43) (by decide)
    have hE1 := Ea_takesSign (sg := 43) (Ea_r hMc.1) (by decide)
    have f1 := tS5 (sg := 43) g5
    have hb1 := k_takesSign_b c 43
    obtain ⟨b1, b2⟩ := rr_takesSign a1 t (sg := 45) (by decide)
    have hE2 := Ea_takesSign (sg := 45) hE1 (by decide)
    have f2 := tS5 (sg := 45) f1
    have hb2 := k_takesSign_b (k_takesSign c 43).2 45
    have w2 : w_k_sum_4 fb c = (if (if (k_takesSign c 43).1 = 0 then (if (k_takesSign (k_takesSign c 43).2 45).1 = 0 then (-1 : Int) else 3) else 2) = -1 then .inr (if (k_takesSign c 43).1 = 0 then (k_takesSign (k_takesSign c 43).2 45).2 else (k_takesSign c 43).2) else .inl (k_says (fb (if (k_takesSign c 43).1 = 0 then (k_takesSign (k_takesSign c 43).2 45).2 else (k_takesSign c 43).2)) (if (k_takesSign c 43).1 = 0 then (if (k_takesSign (k_takesSign c 43).2 45).1 = 0 then (-1 : Int) else 3) else 2) 0)) := if_pos g5
    have w1 : w_c_readSum_7 e fa (i, v, k) = (if (c_takesSign e k 43).1 = 0 then (if (c_takesSign e (c_takesSign e k 43).2 45).1 = 0 then .inr (i, v, (c_takesSign e (c_takesSign e k 43).2 45).2) else .inl (i + 1, f_rput (fa v (c_takesSign e (c_takesSign e k 43).2 45).2).1 2001, (fa v (c_takesSign e (c_takesSign e k 43).2 45).2).2)) else .inl (i + 1, f_rput (fa v (c_takesSign e k 43).2).1 2000, (fa v (c_takesSign e k 43).2).2)) := by
      unfold w_c_readSum_7
      dsimp only
      rw [if_neg hi, if_neg (by rw [rr_fine s1.1 g5]; decide)]
    rw [a2, b2] at w1
    rcases hb1 with h1 | h1
    · rw [h1] at hE2
      rcases hb2 with h2 | h2
      · rw [if_pos h1, if_pos h2] at w1
        rw [if_pos h1, if_pos h1, if_pos h2, if_pos rfl] at w2
        rw [am_wh_r w1, am_wh_r w2]
        have hx : Lx c (k_takesSign (k_takesSign c 43).2 45).2 := hE2.2.1
        refine ⟨SG_L s1 b1 hx (fun _ => g5), MR_le (MR_E m1 (Ea_le hE2 (show (0 : Int) ≤ _ by omega))) (by decide), fun _ => ?_⟩
        rw [hx.2 49 (by decide) (by decide) (by decide)]
        exact XX_c (fun j _ _ => by rw [hx.1 _ (by omega)]) r4
      · rw [if_pos h1, if_neg (by omega)] at w1
        have h2n : ¬ (k_takesSign (k_takesSign c 43).2 45).1 = 0 := by omega
        rw [if_pos h1, if_pos h1, if_neg h2n, if_neg (by decide)] at w2
        rw [am_wh_l w1, am_wh_l w2]
        exact go _ _ 2001 3 b1 (Ea_le hE2 (by omega)) f2 ⟨by decide, by decide, by decide⟩
    · rw [if_neg (by omega)] at w1
      have h1n : ¬ (k_takesSign c 43).1 = 0 := by omega
      rw [if_neg h1n, if_neg h1n, if_neg (by decide)] at w2
      rw [am_wh_l w1, am_wh_l w2]
      exact go _ _ 2000 2 a1 (Ea_le hE1 (by omega)) f1 ⟨by decide, by decide, by decide⟩
theorem lv_sum {e : am_F} {N : Nat} {dp : Int} {fa : am_F → am_F → am_F × am_F} {fb : am_F → am_F} (t : TpI e) (hL : LV e false N dp fa fb) : LV e false (N + 1) dp (fun v k => c_readSum e v k fa) (fun c => k_sum c fb) := by
  refine ⟨fun v k c hM hS h0 hd => ?_, fun v k h4 hv hI => ?_, c_readSum_x t hL.2.2.1, k_sum_x hL.2.2.2.1, fun c h5 => ?_⟩
  · obtain ⟨d1, d2, d3, d4⟩ := lv_call hL hS hM (fun _ => hd)
    have h9 := ll_sum (v0 := v) (c0 := c) t hL hM hd 200 201 602 0 (fa v k).1 (fa v k).2 (fb c) (by decide) (by decide) ⟨d1, d2, fun g => ?_⟩
    · exact ⟨h9.1, h9.2.2⟩
    · obtain ⟨q1, q2, q3⟩ := d4 g
      have a1 := (d2.2.2.2.2 g).2
      have a2 := XX_lt q2
      have a3 := hM.1.1
      have a4 := d3.2.1
      have a5 := hM.2.2.1.1
      have a6 := hM.2.2.2.2 q1
      exact ⟨by omega, by omega, XX_n (by omega) q2⟩
  · obtain ⟨x1, x2, x3⟩ := hL.2.1 v k h4 hv hI
    have hp : (fa v k).2 0 4 ≠ 0 := by rw [x1]; exact h4
    have w1 : w_c_readSum_7 e fa (0, (fa v k).1, (fa v k).2) = .inr (0, (fa v k).1, (fa v k).2) := by
      unfold w_c_readSum_7
      dsimp only
      rw [if_neg (by decide), if_pos (c_fine_0 hp)]
    have e1 : (c_readSum e v k fa).2 = (am_wh (w_c_readSum_7 e fa) (200 + 1) (0, (fa v k).1, (fa v k).2)).2.2 := rfl
    dsimp only
    rw [e1, am_wh_r w1]
    exact ⟨x1, x2, x3⟩
  · have e1 : k_sum c fb = am_wh (w_k_sum_4 fb) (601 + 1) (fb c) := rfl
    dsimp only
    rw [e1, hL.2.2.2.2 c h5]
    have w2 : w_k_sum_4 fb c = .inr c := if_neg h5
    rw [am_wh_r w2]
theorem ll_and {e v0 c0 : am_F} {N : Nat} {dp : Int} {fa : am_F → am_F → am_F × am_F} {fb : am_F → am_F} (t : TpI e) (hL : LV e true N dp fa fb) (hM0 : MI c0) (hd : c0 0 50 = dp) : ∀ (μ F G : Nat) (i : Int) (v k c : am_F), μ < F → μ < G → SG e v0 c0 v k c ∧ MR c0 c 0 0 ∧ (c 0 5 = 0 → c 0 2 - c 0 4 < μ ∧ (0 ≤ i ∧ i + 1 ≤ c 0 4) ∧ XX c true (N + 1) (c0 0 49) (c 0 49)) → SG e v0 c0 (am_wh (w_c_readBoth_7 e fa) F (i, v, k)).2.1 (am_wh (w_c_readBoth_7 e fa) F (i, v, k)).2.2 (am_wh (w_k_andRow_4 fb) G c) ∧ MR c0 (am_wh (w_k_andRow_4 fb) G c) 0 0 ∧ (am_wh (w_k_andRow_4 fb) G c 0 5 = 0 → XX (am_wh (w_k_andRow_4 fb) G c) true (N + 1) (c0 0 49) (am_wh (w_k_andRow_4 fb) G c 0 49)) := by
  intro μ
  induction μ with
  | zero =>
    intro F G i v k c hF hG hR
    obtain ⟨s1, m1, r1⟩ := hR
    obtain ⟨F, rfl⟩ : ∃ F', F = F' + 1 := ⟨F - 1, by omega⟩
    obtain ⟨G, rfl⟩ : ∃ G', G = G' + 1 := ⟨G - 1, by omega⟩
    by_cases g5 : c 0 5 = 0
    · have h1 := (r1 g5).1
      have h2 := m1.1.2.1
      omega
    · have hp : k 0 4 ≠ 0 := by rw [s1.1.1]; exact g5
      have e1 : k_takes c 1 14 4 0 0 0 0 = (0, c) := by
        unfold k_takes k_isWord
        dsimp only
        rw [if_neg g5, if_neg g5, if_pos rfl]
      have w2 : w_k_andRow_4 fb c = .inr c := by
        unfold w_k_andRow_4
        rw [e1]
        rfl
      have w1 : w_c_readBoth_7 e fa (i, v, k) = .inr (i, v, k) := by
        unfold w_c_readBoth_7
        dsimp only
        rw [takesWord_s hp]
        dsimp only
        rw [if_pos rfl]
        split <;> rfl
      rw [am_wh_r w1, am_wh_r w2]
      exact ⟨s1, m1, fun g => absurd g g5⟩
  | succ μ ih =>
    intro F G i v k c hF hG hR
    obtain ⟨s1, m1, r1⟩ := hR
    obtain ⟨F, rfl⟩ : ∃ F', F = F' + 1 := ⟨F - 1, by omega⟩
    obtain ⟨G, rfl⟩ : ∃ G', G = G' + 1 := ⟨G - 1, by omega⟩
    by_cases g5 : c 0 5 = 0
    case neg =>
      have hp : k 0 4 ≠ 0 := by rw [s1.1.1]; exact g5
      have e1 : k_takes c 1 14 4 0 0 0 0 = (0, c) := by
        unfold k_takes k_isWord
        dsimp only
        rw [if_neg g5, if_neg g5, if_pos rfl]
      have w2 : w_k_andRow_4 fb c = .inr c := by
        unfold w_k_andRow_4
        rw [e1]
        rfl
      have w1 : w_c_readBoth_7 e fa (i, v, k) = .inr (i, v, k) := by
        unfold w_c_readBoth_7
        dsimp only
        rw [takesWord_s hp]
        dsimp only
        rw [if_pos rfl]
        split <;> rfl
      rw [am_wh_r w1, am_wh_r w2]
      exact ⟨s1, m1, fun g => absurd g g5⟩
    obtain ⟨r2, r3, r4⟩ := r1 g5
    have hMc : MI c := MR_I hM0 m1 (by decide) (by have := hM0.2.2.2.1; omega)
    have hi : ¬ 200 ≤ i := by
      have := hMc.1.2.1
      have := hMc.2.1
      omega
    have go : ∀ (k' X : am_F) (o tc : Int), RR e k' X → Ea c X 1 → X 0 5 = 0 → (tc = 10 ∧ o = 2007) → SG e v0 c0 (am_wh (w_c_readBoth_7 e fa) F (i + 1, f_rput (fa v k').1 o, (fa v k').2)).2.1 (am_wh (w_c_readBoth_7 e fa) F (i + 1, f_rput (fa v k').1 o, (fa v k').2)).2.2 (am_wh (w_k_andRow_4 fb) G (k_says (fb X) tc 0)) ∧ MR c0 (am_wh (w_k_andRow_4 fb) G (k_says (fb X) tc 0)) 0 0 ∧ (am_wh (w_k_andRow_4 fb) G (k_says (fb X) tc 0) 0 5 = 0 → XX (am_wh (w_k_andRow_4 fb) G (k_says (fb X) tc 0)) true (N + 1) (c0 0 49) (am_wh (w_k_andRow_4 fb) G (k_says (fb X) tc 0) 0 49)) := fun k' X o tc hRX hE hX5 hot => by
      have x49 : X 0 49 = c 0 49 := hE.2.1.2 49 (by decide) (by decide) (by decide)
      have mX : MR c0 X 1 0 := MR_le (MR_E m1 hE) (by decide)
      have hMX : MI X := MR_I hM0 mX (by decide) (by have := hM0.2.2.2.1; omega)
      have sX : SG e v0 c0 v k' X := SG_L s1 hRX hE.2.1 (fun _ => g5)
      have x50 : X 0 50 = dp := by have := mX.2.2.2.1; omega
      obtain ⟨d1, d2, d3, d4⟩ := lv_call hL sX hMX (fun _ => x50)
      generalize fa v k' = U at *
      generalize fb X = Y at *
      have mY : MR c0 Y 1 0 := MR_o (MR_le (MR_t mX d2) (by decide)) (by decide)
      obtain ⟨p1, p2⟩ := SG_put (o := o) (x := tc) (y := 0) d1 (fun g => ⟨MR_room hM0 mY g, Or.inr (Or.inr (Or.inr (Or.inr (Or.inl ⟨hot.1, hot.2⟩))))⟩)
      have mZ : MR c0 (k_says Y tc 0) 0 0 := MR_le (MR_says hM0 mY (by decide)) (by decide)
      have z2 : k_says Y tc 0 0 2 = c 0 2 := mZ.2.1.1.trans m1.2.1.1.symm
      have z4 : k_says Y tc 0 0 4 = Y 0 4 := (k_says_4 Y tc 0).1
      refine ih F G (i + 1) _ _ _ (by omega) (by omega) ⟨p1, mZ, fun g => ?_⟩
      obtain ⟨q1, q2, q3, q4⟩ := p2 g
      obtain ⟨q5, q6, q7⟩ := d4 q1
      have a1 := (hE.2.2 hX5).2
      have a2 := MR_at d2 q1
      have a3 := s1.2.2 g5
      have a4 := XX_lt q6
      refine ⟨by omega, by omega, ?_⟩
      rw [q2]
      refine XX_4 (XX_c (fun j j0 j1 => ?_) r4) (XX_c (fun j j0 j1 => ?_) (x49 ▸ q6)) (Nat.le_refl _) (Or.inl (by rw [q3]; exact hot.1))
      · have h00 : 0 ≤ j := by have := hM0.2.2.1.1; omega
        rw [q4 j h00 (by omega), q7 j h00 (by omega), hE.2.1.1 _ (by omega)]
      · have h00 : 0 ≤ j := by have := hMc.2.2.1.1; omega
        rw [q4 j h00 (by omega)]
    have hS : k_seven 1 14 4 0 0 0 0 = rS 24 := by rw [rS_24]; decide
    obtain ⟨a1, a2⟩ := rr_takes (j := 24) s1.1 t rW_24 hS
    have hE1 := Ea_takes (la := 1) (lb := 14) (lc := 4) (ld := 0) (le := 0) (lf := 0) (lg := 0) (Ea_r hMc.1) (by decide)
    have f1 := tW5 (la := 1) (lb := 14) (lc := 4) (ld := 0) (le := 0) (lf := 0) (lg := 0) hMc.1 g5
    have hb1 := k_takes_b c 1 14 4 0 0 0 0
    have w2 : w_k_andRow_4 fb c = (if (k_takes c 1 14 4 0 0 0 0).1 = 0 then .inr (k_takes c 1 14 4 0 0 0 0).2 else .inl (k_says (fb (k_takes c 1 14 4 0 0 0 0).2) 10 0)) := rfl
    have w1 : w_c_readBoth_7 e fa (i, v, k) = (if (c_takesWord e k 24).1 = 0 then .inr (i, v, (c_takesWord e k 24).2) else .inl (i + 1, f_rput (fa v (c_takesWord e k 24).2).1 2007, (fa v (c_takesWord e k 24).2).2)) := by
      unfold w_c_readBoth_7
      dsimp only
      rw [if_neg hi]
    rw [a2] at w1
    rcases hb1 with h1 | h1
    · rw [if_pos h1] at w1 w2
      rw [am_wh_r w1, am_wh_r w2]
      have hx : Lx c (k_takes c 1 14 4 0 0 0 0).2 := hE1.2.1
      refine ⟨SG_L s1 a1 hx (fun _ => g5), MR_le (MR_E m1 (Ea_le hE1 (show (0 : Int) ≤ _ by omega))) (by decide), fun _ => ?_⟩
      rw [hx.2 49 (by decide) (by decide) (by decide)]
      exact XX_c (fun j _ _ => by rw [hx.1 _ (by omega)]) r4
    · rw [if_neg (by omega)] at w1 w2
      rw [am_wh_l w1, am_wh_l w2]
      exact go _ _ 2007 10 a1 (Ea_le hE1 (by omega)) f1 ⟨rfl, rfl⟩
theorem lv_and {e : am_F} {N : Nat} {dp : Int} {fa : am_F → am_F → am_F × am_F} {fb : am_F → am_F} (t : TpI e) (hL : LV e true N dp fa fb) : LV e true (N + 1) dp (fun v k => c_readBoth e v k fa) (fun c => k_andRow c fb) := by
  refine ⟨fun v k c hM hS h0 hd => ?_, fun v k h4 hv hI => ?_, c_readBoth_x t hL.2.2.1, k_andRow_x hL.2.2.2.1, fun c h5 => ?_⟩
  · obtain ⟨d1, d2, d3, d4⟩ := lv_call hL hS hM (fun _ => hd)
    have h9 := ll_and (v0 := v) (c0 := c) t hL hM hd 200 201 602 0 (fa v k).1 (fa v k).2 (fb c) (by decide) (by decide) ⟨d1, d2, fun g => ?_⟩
    · exact ⟨h9.1, h9.2.2⟩
    · obtain ⟨q1, q2, q3⟩ := d4 g
      have a1 := (d2.2.2.2.2 g).2
      have a2 := XX_lt q2
      have a3 := hM.1.1
      have a4 := d3.2.1
      have a5 := hM.2.2.1.1
      have a6 := hM.2.2.2.2 q1
      exact ⟨by omega, by omega, XX_n (by omega) q2⟩
  · obtain ⟨x1, x2, x3⟩ := hL.2.1 v k h4 hv hI
    have hp : (fa v k).2 0 4 ≠ 0 := by rw [x1]; exact h4
    have w1 : w_c_readBoth_7 e fa (0, (fa v k).1, (fa v k).2) = .inr (0, (fa v k).1, (fa v k).2) := by
      unfold w_c_readBoth_7
      dsimp only
      rw [if_neg (by decide), takesWord_s hp]
      rfl
    have e1 : (c_readBoth e v k fa).2 = (am_wh (w_c_readBoth_7 e fa) (200 + 1) (0, (fa v k).1, (fa v k).2)).2.2 := rfl
    dsimp only
    rw [e1, am_wh_r w1]
    exact ⟨x1, x2, x3⟩
  · have e1 : k_andRow c fb = am_wh (w_k_andRow_4 fb) (601 + 1) (fb c) := rfl
    dsimp only
    rw [e1, hL.2.2.2.2 c h5]
    have e2 : k_takes c 1 14 4 0 0 0 0 = (0, c) := by
      unfold k_takes k_isWord
      dsimp only
      rw [if_neg h5, if_neg h5, if_pos rfl]
    have w2 : w_k_andRow_4 fb c = .inr c := by
      unfold w_k_andRow_4
      rw [e2]
      rfl
    rw [am_wh_r w2]
theorem ll_or {e v0 c0 : am_F} {N : Nat} {dp : Int} {fa : am_F → am_F → am_F × am_F} {fb : am_F → am_F} (t : TpI e) (hL : LV e true N dp fa fb) (hM0 : MI c0) (hd : c0 0 50 = dp) : ∀ (μ F G : Nat) (i : Int) (v k c : am_F), μ < F → μ < G → SG e v0 c0 v k c ∧ MR c0 c 0 0 ∧ (c 0 5 = 0 → c 0 2 - c 0 4 < μ ∧ (0 ≤ i ∧ i + 1 ≤ c 0 4) ∧ XX c true (N + 1) (c0 0 49) (c 0 49)) → SG e v0 c0 (am_wh (w_c_readChoice_7 e fa) F (i, v, k)).2.1 (am_wh (w_c_readChoice_7 e fa) F (i, v, k)).2.2 (am_wh (w_k_orRow_4 fb) G c) ∧ MR c0 (am_wh (w_k_orRow_4 fb) G c) 0 0 ∧ (am_wh (w_k_orRow_4 fb) G c 0 5 = 0 → XX (am_wh (w_k_orRow_4 fb) G c) true (N + 1) (c0 0 49) (am_wh (w_k_orRow_4 fb) G c 0 49)) := by
  intro μ
  induction μ with
  | zero =>
    intro F G i v k c hF hG hR
    obtain ⟨s1, m1, r1⟩ := hR
    obtain ⟨F, rfl⟩ : ∃ F', F = F' + 1 := ⟨F - 1, by omega⟩
    obtain ⟨G, rfl⟩ : ∃ G', G = G' + 1 := ⟨G - 1, by omega⟩
    by_cases g5 : c 0 5 = 0
    · have h1 := (r1 g5).1
      have h2 := m1.1.2.1
      omega
    · have hp : k 0 4 ≠ 0 := by rw [s1.1.1]; exact g5
      have e1 : k_takes c 15 18 0 0 0 0 0 = (0, c) := by
        unfold k_takes k_isWord
        dsimp only
        rw [if_neg g5, if_neg g5, if_pos rfl]
      have w2 : w_k_orRow_4 fb c = .inr c := by
        unfold w_k_orRow_4
        rw [e1]
        rfl
      have w1 : w_c_readChoice_7 e fa (i, v, k) = .inr (i, v, k) := by
        unfold w_c_readChoice_7
        dsimp only
        rw [takesWord_s hp]
        dsimp only
        rw [if_pos rfl]
        split <;> rfl
      rw [am_wh_r w1, am_wh_r w2]
      exact ⟨s1, m1, fun g => absurd g g5⟩
  | succ μ ih =>
    intro F G i v k c hF hG hR
    obtain ⟨s1, m1, r1⟩ := hR
    obtain ⟨F, rfl⟩ : ∃ F', F = F' + 1 := ⟨F - 1, by omega⟩
    obtain ⟨G, rfl⟩ : ∃ G', G = G' + 1 := ⟨G - 1, by omega⟩
    by_cases g5 : c 0 5 = 0
    case neg =>
      have hp : k 0 4 ≠ 0 := by rw [s1.1.1]; exact g5
      have e1 : k_takes c 15 18 0 0 0 0 0 = (0, c) := by
        unfold k_takes k_isWord
        dsimp only
        rw [if_neg g5, if_neg g5, if_pos rfl]
      have w2 : w_k_orRow_4 fb c = .inr c := by
        unfold w_k_orRow_4
        rw [e1]
        rfl
      have w1 : w_c_readChoice_7 e fa (i, v, k) = .inr (i, v, k) := by
        unfold w_c_readChoice_7
        dsimp only
        rw [takesWord_s hp]
        dsimp only
        rw [if_pos rfl]
        split <;> rfl
      rw [am_wh_r w1, am_wh_r w2]
      exact ⟨s1, m1, fun g => absurd g g5⟩
    obtain ⟨r2, r3, r4⟩ := r1 g5
    have hMc : MI c := MR_I hM0 m1 (by decide) (by have := hM0.2.2.2.1; omega)
    have hi : ¬ 200 ≤ i := by
      have := hMc.1.2.1
      have := hMc.2.1
      omega
    have go : ∀ (k' X : am_F) (o tc : Int), RR e k' X → Ea c X 1 → X 0 5 = 0 → (tc = 11 ∧ o = 2008) → SG e v0 c0 (am_wh (w_c_readChoice_7 e fa) F (i + 1, f_rput (fa v k').1 o, (fa v k').2)).2.1 (am_wh (w_c_readChoice_7 e fa) F (i + 1, f_rput (fa v k').1 o, (fa v k').2)).2.2 (am_wh (w_k_orRow_4 fb) G (k_says (fb X) tc 0)) ∧ MR c0 (am_wh (w_k_orRow_4 fb) G (k_says (fb X) tc 0)) 0 0 ∧ (am_wh (w_k_orRow_4 fb) G (k_says (fb X) tc 0) 0 5 = 0 → XX (am_wh (w_k_orRow_4 fb) G (k_says (fb X) tc 0)) true (N + 1) (c0 0 49) (am_wh (w_k_orRow_4 fb) G (k_says (fb X) tc 0) 0 49)) := fun k' X o tc hRX hE hX5 hot => by
      have x49 : X 0 49 = c 0 49 := hE.2.1.2 49 (by decide) (by decide) (by decide)
      have mX : MR c0 X 1 0 := MR_le (MR_E m1 hE) (by decide)
      have hMX : MI X := MR_I hM0 mX (by decide) (by have := hM0.2.2.2.1; omega)
      have sX : SG e v0 c0 v k' X := SG_L s1 hRX hE.2.1 (fun _ => g5)
      have x50 : X 0 50 = dp := by have := mX.2.2.2.1; omega
      obtain ⟨d1, d2, d3, d4⟩ := lv_call hL sX hMX (fun _ => x50)
      generalize fa v k' = U at *
      generalize fb X = Y at *
      have mY : MR c0 Y 1 0 := MR_o (MR_le (MR_t mX d2) (by decide)) (by decide)
      obtain ⟨p1, p2⟩ := SG_put (o := o) (x := tc) (y := 0) d1 (fun g => ⟨MR_room hM0 mY g, Or.inr (Or.inr (Or.inr (Or.inr (Or.inr ⟨hot.1, hot.2⟩))))⟩)
      have mZ : MR c0 (k_says Y tc 0) 0 0 := MR_le (MR_says hM0 mY (by decide)) (by decide)
      have z2 : k_says Y tc 0 0 2 = c 0 2 := mZ.2.1.1.trans m1.2.1.1.symm
      have z4 : k_says Y tc 0 0 4 = Y 0 4 := (k_says_4 Y tc 0).1
      refine ih F G (i + 1) _ _ _ (by omega) (by omega) ⟨p1, mZ, fun g => ?_⟩
      obtain ⟨q1, q2, q3, q4⟩ := p2 g
      obtain ⟨q5, q6, q7⟩ := d4 q1
      have a1 := (hE.2.2 hX5).2
      have a2 := MR_at d2 q1
      have a3 := s1.2.2 g5
      have a4 := XX_lt q6
      refine ⟨by omega, by omega, ?_⟩
      rw [q2]
      refine XX_4 (XX_c (fun j j0 j1 => ?_) r4) (XX_c (fun j j0 j1 => ?_) (x49 ▸ q6)) (Nat.le_refl _) (Or.inr (by rw [q3]; exact hot.1))
      · have h00 : 0 ≤ j := by have := hM0.2.2.1.1; omega
        rw [q4 j h00 (by omega), q7 j h00 (by omega), hE.2.1.1 _ (by omega)]
      · have h00 : 0 ≤ j := by have := hMc.2.2.1.1; omega
        rw [q4 j h00 (by omega)]
    have hS : k_seven 15 18 0 0 0 0 0 = rS 25 := by rw [rS_25]; decide
    obtain ⟨a1, a2⟩ := rr_takes (j := 25) s1.1 t rW_25 hS
    have hE1 := Ea_takes (la := 15) (lb := 18) (lc := 0) (ld := 0) (le := 0) (lf := 0) (lg := 0) (Ea_r hMc.1) (by decide)
    have f1 := tW5 (la := 15) (lb := 18) (lc := 0) (ld := 0) (le := 0) (lf := 0) (lg := 0) hMc.1 g5
    have hb1 := k_takes_b c 15 18 0 0 0 0 0
    have w2 : w_k_orRow_4 fb c = (if (k_takes c 15 18 0 0 0 0 0).1 = 0 then .inr (k_takes c 15 18 0 0 0 0 0).2 else .inl (k_says (fb (k_takes c 15 18 0 0 0 0 0).2) 11 0)) := rfl
    have w1 : w_c_readChoice_7 e fa (i, v, k) = (if (c_takesWord e k 25).1 = 0 then .inr (i, v, (c_takesWord e k 25).2) else .inl (i + 1, f_rput (fa v (c_takesWord e k 25).2).1 2008, (fa v (c_takesWord e k 25).2).2)) := by
      unfold w_c_readChoice_7
      dsimp only
      rw [if_neg hi]
    rw [a2] at w1
    rcases hb1 with h1 | h1
    · rw [if_pos h1] at w1 w2
      rw [am_wh_r w1, am_wh_r w2]
      have hx : Lx c (k_takes c 15 18 0 0 0 0 0).2 := hE1.2.1
      refine ⟨SG_L s1 a1 hx (fun _ => g5), MR_le (MR_E m1 (Ea_le hE1 (show (0 : Int) ≤ _ by omega))) (by decide), fun _ => ?_⟩
      rw [hx.2 49 (by decide) (by decide) (by decide)]
      exact XX_c (fun j _ _ => by rw [hx.1 _ (by omega)]) r4
    · rw [if_neg (by omega)] at w1 w2
      rw [am_wh_l w1, am_wh_l w2]
      exact go _ _ 2008 11 a1 (Ea_le hE1 (by omega)) f1 ⟨rfl, rfl⟩
theorem lv_or {e : am_F} {N : Nat} {dp : Int} {fa : am_F → am_F → am_F × am_F} {fb : am_F → am_F} (t : TpI e) (hL : LV e true N dp fa fb) : LV e true (N + 1) dp (fun v k => c_readChoice e v k fa) (fun c => k_orRow c fb) := by
  refine ⟨fun v k c hM hS h0 hd => ?_, fun v k h4 hv hI => ?_, c_readChoice_x t hL.2.2.1, k_orRow_x hL.2.2.2.1, fun c h5 => ?_⟩
  · obtain ⟨d1, d2, d3, d4⟩ := lv_call hL hS hM (fun _ => hd)
    have h9 := ll_or (v0 := v) (c0 := c) t hL hM hd 200 201 602 0 (fa v k).1 (fa v k).2 (fb c) (by decide) (by decide) ⟨d1, d2, fun g => ?_⟩
    · exact ⟨h9.1, h9.2.2⟩
    · obtain ⟨q1, q2, q3⟩ := d4 g
      have a1 := (d2.2.2.2.2 g).2
      have a2 := XX_lt q2
      have a3 := hM.1.1
      have a4 := d3.2.1
      have a5 := hM.2.2.1.1
      have a6 := hM.2.2.2.2 q1
      exact ⟨by omega, by omega, XX_n (by omega) q2⟩
  · obtain ⟨x1, x2, x3⟩ := hL.2.1 v k h4 hv hI
    have hp : (fa v k).2 0 4 ≠ 0 := by rw [x1]; exact h4
    have w1 : w_c_readChoice_7 e fa (0, (fa v k).1, (fa v k).2) = .inr (0, (fa v k).1, (fa v k).2) := by
      unfold w_c_readChoice_7
      dsimp only
      rw [if_neg (by decide), takesWord_s hp]
      rfl
    have e1 : (c_readChoice e v k fa).2 = (am_wh (w_c_readChoice_7 e fa) (200 + 1) (0, (fa v k).1, (fa v k).2)).2.2 := rfl
    dsimp only
    rw [e1, am_wh_r w1]
    exact ⟨x1, x2, x3⟩
  · have e1 : k_orRow c fb = am_wh (w_k_orRow_4 fb) (601 + 1) (fb c) := rfl
    dsimp only
    rw [e1, hL.2.2.2.2 c h5]
    have e2 : k_takes c 15 18 0 0 0 0 0 = (0, c) := by
      unfold k_takes k_isWord
      dsimp only
      rw [if_neg h5, if_neg h5, if_pos rfl]
    have w2 : w_k_orRow_4 fb c = .inr c := by
      unfold w_k_orRow_4
      rw [e2]
      rfl
    rw [am_wh_r w2]
