/-! the model: goes leaves the rest as it is -/
def KF (q r : am_F) : Prop := (∀ k, (k = 2 ∨ 268 ≤ k) → r k = q k) ∧ (∀ j, j ≠ 60 → r 0 j = q 0 j)
theorem KF_r {q : am_F} : KF q q := ⟨fun _ _ => rfl, fun _ _ => rfl⟩
theorem KF_p {q r : am_F} {k i : Nat} {v : Int} (hk : k ≠ 0 ∧ k ≠ 2 ∧ k < 268) (h : KF q r) : KF q (am_put r k i v) := ⟨fun k' h' => by
  rw [am_put_kr (by omega)]
  exact h.1 k' h', fun j hj => by
  rw [am_put_k (by omega)]
  exact h.2 j hj⟩
theorem KF_0 {q r : am_F} {v : Int} (h : KF q r) : KF q (am_put r 0 60 v) := ⟨fun k' h' => by
  rw [am_put_kr (by omega)]
  exact h.1 k' h', fun j hj => by
  rw [am_put_i hj]
  exact h.2 j hj⟩
theorem KF_fold {q : am_F} {g : Int → am_F → am_F} {n : Nat} {i : Int} {x : am_F} (h0 : KF q x) (hs : ∀ j y, i ≤ j → j < i + n → KF q y → KF q (g j y)) : KF q (am_fold g i n x) :=
  am_fold_inv (P := fun _ y => KF q y) n i x h0 hs
theorem KF_if {p : Prop} [Decidable p] {q a b : am_F} (h1 : KF q a) (h2 : KF q b) : KF q (if p then a else b) := by
  split
  · exact h1
  · exact h2
theorem KF_blows {c q r : am_F} {t : Int} (hV : MdV c) (ht : 0 ≤ t ∧ t < 40) (h : KF q r) : KF q (k_blows c r t) := by
  have h3 := MdV_3 hV
  unfold k_blows
  dsimp only
  have h20 : KF q (if c 0 61 = (-1) then (am_put r 267 t.toNat 0) else (am_put (am_put r 267 t.toNat 0) 0 60 (am_w32 ((am_w32 ((r 0 60) * 1103515245)) + 12345)))) := by
    split
    · exact KF_p (by omega) h
    · exact KF_0 (KF_p (by omega) h)
  have hin : ∀ (dx dy wk y : Int) (x : Int) (s : am_F), KF q s → KF q (g_k_blows_182 c t dx dy wk y x s) := by
    intro dx dy wk y x s hs
    have hl := k_lotOf_b hV x y
    unfold g_k_blows_182
    dsimp only
    split
    · exact KF_p (by omega) (KF_p (by omega) (KF_p (by omega) hs))
    · split
      · exact KF_p (by omega) (KF_p (by omega) (KF_p (by omega) hs))
      · split
        · exact KF_p (by omega) (KF_p (by omega) (KF_p (by omega) hs))
        · split
          · exact KF_p (by omega) (KF_p (by omega) (KF_p (by omega) hs))
          · exact KF_p (by omega) (KF_p (by omega) (KF_p (by omega) (KF_p (by omega) hs)))
  have hall : ∀ (dx dy wk : Int) (s : am_F), KF q s → KF q (am_fold g_k_blows_380 0 81 (am_fold (g_k_blows_168 c t dx dy wk) 0 (c 4 1).toNat (am_fold g_k_blows_138 0 81 s))) := by
    intro dx dy wk s hs
    refine KF_fold (KF_fold (KF_fold hs (fun j y _ _ hy => KF_p (by omega) hy)) (fun j y _ _ hy => ?_)) (fun j y _ _ hy => KF_p (by omega) hy)
    unfold g_k_blows_168
    exact KF_fold hy (fun j y _ _ hy => hin _ _ _ _ _ _ hy)
  obtain ⟨s, hs⟩ : ∃ s, s = (if c 0 61 = (-1) then (am_put r 267 t.toNat 0) else (am_put (am_put r 267 t.toNat 0) 0 60 (am_w32 ((am_w32 ((r 0 60) * 1103515245)) + 12345)))) := ⟨_, rfl⟩
  rw [← hs] at h20 ⊢
  by_cases e1 : k_windAt c t = -1
  · rw [if_pos e1]; exact h20
  · rw [if_neg e1]
    exact KF_if (KF_if h20 (hall _ _ _ _ h20)) (hall _ _ _ _ h20)
theorem KF_mixes {c q r : am_F} {k : Int} (h : KF q r) : KF q (k_mixes c r k) := by
  unfold k_mixes
  dsimp only
  refine KF_p (by omega) (KF_fold h (fun j y _ _ hy => ?_))
  unfold g_k_mixes_89
  dsimp only
  refine KF_fold hy (fun i z _ _ hz => ?_)
  unfold g_k_mixes_106
  dsimp only
  split
  · exact hz
  · exact KF_p (by omega) hz
theorem KF_burns {c q r : am_F} {k t : Int} (hk : 0 ≤ k ∧ k < 7) (ht : 0 ≤ t ∧ t < 40) (h : KF q r) : KF q (k_burns c r k t) := by
  unfold k_burns
  dsimp only
  refine KF_fold h (fun j y _ _ hy => ?_)
  unfold g_k_burns_11
  dsimp only
  refine KF_fold hy (fun i z _ _ hz => ?_)
  unfold g_k_burns_37
  dsimp only
  split
  · exact hz
  · exact KF_p (by omega) (KF_p (by omega) (KF_p (by omega) (KF_p (by omega) hz)))
theorem KF_step {c q r : am_F} {t : Int} (hV : MdV c) (ht : 0 ≤ t ∧ t < 40) (h : KF q r) : KF q (k_stepGoes c r t) := by
  have h45 := MdV_11 hV
  unfold k_stepGoes
  dsimp only
  have a1 : KF q (am_fold (g_k_stepGoes_2 t) 1 3 r) := KF_fold h (fun j y _ _ hy => KF_p (by omega) hy)
  have a2 := KF_fold (g := g_k_stepGoes_33 t) (i := 0) (n := (c 0 45).toNat) a1 (fun j y h0 h1 hy => KF_p (by omega) hy)
  have a3 := KF_blows hV ht a2
  have a4 := KF_fold (g := g_k_stepGoes_72 c t) (i := 0) (n := (c 4 10).toNat) a3 (fun j y h0 h1 hy => by
    unfold g_k_stepGoes_72
    split
    · exact KF_mixes hy
    · exact hy)
  have a5 := KF_fold (g := g_k_stepGoes_113 t) (i := 0) (n := 81) a4 (fun j y h0 h1 hy => KF_p (by omega) (KF_p (by omega) hy))
  have a6 := KF_fold (g := g_k_stepGoes_176 c t) (i := 0) (n := (c 0 45).toNat) a5 (fun j y h0 h1 hy => KF_burns (by omega) ht hy)
  have a7 := KF_fold (g := g_k_stepGoes_204 t (k_thinAt c t)) (i := 0) (n := 81) a6 (fun j y h0 h1 hy => KF_p (by omega) (KF_p (by omega) hy))
  refine KF_fold (KF_p (by omega) ?_) (fun j y h0 h1 hy => KF_p (by omega) (KF_p (by omega) hy))
  split
  · exact KF_p (by omega) a7
  · exact a7
theorem KF_goes {c q : am_F} (hV : MdV c) : KF q (k_goes c q) := by
  unfold k_goes
  dsimp only
  have a1 : KF q (am_fold g_k_goes_2 0 4 q) := KF_fold KF_r (fun j y _ _ hy => KF_p (by omega) hy)
  have a2 := KF_fold (g := g_k_goes_24) (i := 0) (n := 6) a1 (fun j y h0 h1 hy => by
    unfold g_k_goes_24
    exact KF_fold hy (fun i z _ _ hz => KF_p (by omega) hz))
  have a3 := KF_fold (g := g_k_goes_61) (i := 0) (n := 7) a2 (fun j y h0 h1 hy => by
    unfold g_k_goes_61
    exact KF_fold (KF_p (by omega) hy) (fun i z _ _ hz => KF_p (by omega) hz))
  have a4 := KF_fold (g := g_k_goes_107 c) (i := 0) (n := 81) a3 (fun j y h0 h1 hy => KF_p (by omega) (KF_p (by omega) (KF_p (by omega) hy)))
  exact KF_fold (g := g_k_goes_164 c) (i := 0) (n := 40) a4 (fun j y h0 h1 hy => KF_step hV (by omega) hy)
