/-! THE TIE: what fits -/
theorem ti_find_none {β : Type} {p : Int → Option β} : ∀ (n : Nat) (i : Int), am_find p i n = none ↔ ∀ j, i ≤ j → j < i + n → p j = none := by
  intro n
  induction n with
  | zero => exact fun i => ⟨fun _ j a1 a2 => by omega, fun _ => rfl⟩
  | succ n ih =>
    intro i
    cases e : p i with
    | none =>
      rw [am_find_n e, ih]
      exact ⟨fun h j a1 a2 => if g : j = i then g ▸ e else h j (by omega) (by omega), fun h j a1 a2 => h j (by omega) (by omega)⟩
    | some v =>
      rw [am_find_y e]
      exact ⟨fun h => (by cases h), fun h => absurd (h i (by omega) (by omega)) (by rw [e]; intro h; cases h)⟩
def GVal (c D : am_F) (i : Int) : Int := D (159 + (c (146 + i.toNat) 1 + 1).toNat) (c (146 + i.toNat) 0).toNat
theorem ti_areRight {c c' q : am_F} (h31 : c' 0 31 = c 0 31) (hr : ∀ k, 146 ≤ k → c' k = c k) : ((k_areRight c' q).1 = 1 ↔ ∀ i : Int, 0 ≤ i → i < c 0 31 → GVal c (k_goes c' q) i = c (146 + i.toNat) 2) := by
  unfold k_areRight
  dsimp only
  rw [ti_elim2, h31]
  dsimp only
  have h9 := ti_find_none (p := p_k_areRight_6 c' (k_goes c' q)) (c 0 31).toNat 0
  have hp : ∀ i : Int, p_k_areRight_6 c' (k_goes c' q) i = none ↔ GVal c (k_goes c' q) i = c (146 + i.toNat) 2 := fun i => by
    unfold p_k_areRight_6 GVal
    rw [hr (146 + i.toNat) (by omega)]
    split
    · rename_i g; exact ⟨fun _ => g, fun _ => rfl⟩
    · rename_i g; exact ⟨fun h => (by cases h), fun h => absurd h g⟩
  cases e : am_find (p_k_areRight_6 c' (k_goes c' q)) 0 (c 0 31).toNat with
  | none =>
    refine ⟨fun _ i a1 a2 => (hp i).1 (h9.1 e i a1 (by omega)), fun _ => rfl⟩
  | some v =>
    refine ⟨fun h => ?_, fun h => ?_⟩
    · exfalso
      have q := am_find_P (P := fun v => v = 0) (fun i v hv => by
        unfold p_k_areRight_6 at hv
        split at hv
        · cases hv
        · exact (Option.some.inj hv).symm) _ _ e
      have h8 : v = 1 := h
      omega
    · have h8 := h9.2 (fun i a1 a2 => (hp i).2 (h i a1 (by omega)))
      rw [e] at h8
      cases h8
/-- what was found without a duel -/
def LwI (r ga dd : am_F) : Prop := dd 0 6 = c_lastStep ga ∧ (∀ i : Int, 0 ≤ i → i < ga 0 2 → c_isRight54 r ga i = 0 → dd 0 4 ≤ f_at (ga 0 2) (ga 1) i 0 ∧ f_at (ga 0 2) (ga 1) i 0 ≤ dd 0 5) ∧ (dd 0 4 = 40 ∨ ∃ i : Int, (0 ≤ i ∧ i < ga 0 2) ∧ c_isRight54 r ga i = 0 ∧ f_at (ga 0 2) (ga 1) i 0 = dd 0 4) ∧ (dd 0 5 = -1 ∨ ∃ i : Int, (0 ≤ i ∧ i < ga 0 2) ∧ c_isRight54 r ga i = 0 ∧ f_at (ga 0 2) (ga 1) i 0 = dd 0 5)
theorem ti_look {h r dd ga : am_F} (hg : GaI ga) : (c_lookWithout h r dd ga).1 = f_upTo h r (c_lastStep ga) ∧ LwI (f_upTo h r (c_lastStep ga)) ga (c_lookWithout h r dd ga).2 ∧ ∀ j, j < 4 → (c_lookWithout h r dd ga).2 0 j = dd 0 j := by
  refine ⟨rfl, ?_⟩
  have h9 := am_fold_inv (P := fun n (x : am_F) => (x 0 6 = c_lastStep ga ∧ (∀ i : Int, 0 ≤ i → i < n → c_isRight54 (f_upTo h r (c_lastStep ga)) ga i = 0 → x 0 4 ≤ f_at (ga 0 2) (ga 1) i 0 ∧ f_at (ga 0 2) (ga 1) i 0 ≤ x 0 5) ∧ (x 0 4 = 40 ∨ ∃ i : Int, (0 ≤ i ∧ i < n) ∧ c_isRight54 (f_upTo h r (c_lastStep ga)) ga i = 0 ∧ f_at (ga 0 2) (ga 1) i 0 = x 0 4) ∧ (x 0 5 = -1 ∨ ∃ i : Int, (0 ≤ i ∧ i < n) ∧ c_isRight54 (f_upTo h r (c_lastStep ga)) ga i = 0 ∧ f_at (ga 0 2) (ga 1) i 0 = x 0 5)) ∧ ∀ j, j < 4 → x 0 j = dd 0 j) (g := g_c_lookWithout_29 (f_upTo h r (c_lastStep ga)) ga) (ga 0 2).toNat 0 (am_put (am_put (am_put dd 0 6 (c_lastStep ga)) 0 4 40) 0 5 (-1)) ⟨⟨rfl, fun i a1 a2 => by omega, Or.inl rfl, Or.inl rfl⟩, fun j hj => by
    rw [am_put_i (by omega), am_put_i (by omega), am_put_i (by omega)]⟩ (fun i x a1 a2 hP => by
    obtain ⟨⟨p1, p2, p3, p4⟩, p5⟩ := hP
    have hw : ∀ {v : Int}, (∃ i9 : Int, (0 ≤ i9 ∧ i9 < i) ∧ c_isRight54 (f_upTo h r (c_lastStep ga)) ga i9 = 0 ∧ f_at (ga 0 2) (ga 1) i9 0 = v) → ∃ i9 : Int, (0 ≤ i9 ∧ i9 < i + 1) ∧ c_isRight54 (f_upTo h r (c_lastStep ga)) ga i9 = 0 ∧ f_at (ga 0 2) (ga 1) i9 0 = v := fun ⟨i9, b1, b2⟩ => ⟨i9, ⟨b1.1, by omega⟩, b2⟩
    unfold g_c_lookWithout_29
    dsimp only
    by_cases g : c_isRight54 (f_upTo h r (c_lastStep ga)) ga i = 0
    · rw [if_pos g]
      generalize hx : (if f_at (ga 0 2) (ga 1) i 0 < x 0 4 then f_at (ga 0 2) (ga 1) i 0 else x 0 4) = a
      generalize hy : (if x 0 5 < f_at (ga 0 2) (ga 1) i 0 then f_at (ga 0 2) (ga 1) i 0 else x 0 5) = b
      have e6 : am_put (am_put x 0 4 a) 0 5 b 0 6 = x 0 6 := (am_put_i (by decide)).trans (am_put_i (by decide))
      have e4 : am_put (am_put x 0 4 a) 0 5 b 0 4 = a := (am_put_i (by decide)).trans am_put_s
      have e5 : am_put (am_put x 0 4 a) 0 5 b 0 5 = b := am_put_s
      rw [e6, e4, e5]
      refine ⟨⟨p1, fun i9 b1 b2 b3 => ?_, ?_, ?_⟩, fun j hj => ((am_put_i (by omega)).trans (am_put_i (by omega))).trans (p5 j hj)⟩
      · by_cases e : i9 = i
        · subst e
          rw [← hx, ← hy]
          constructor <;> split <;> omega
        · have := p2 i9 b1 (by omega) b3
          rw [← hx, ← hy]
          constructor <;> split <;> omega
      · rw [← hx]
        split
        · exact Or.inr ⟨i, ⟨a1, by omega⟩, g, rfl⟩
        · exact p3.imp id hw
      · rw [← hy]
        split
        · exact Or.inr ⟨i, ⟨a1, by omega⟩, g, rfl⟩
        · exact p4.imp id hw
    · rw [if_neg g]
      refine ⟨⟨p1, fun i9 b1 b2 b3 => ?_, p3.imp id hw, p4.imp id hw⟩, p5⟩
      by_cases e : i9 = i
      · subst e; exact absurd b3 g
      · exact p2 i9 b1 (by omega) b3)
  rw [Int.zero_add] at h9
  obtain ⟨⟨q1, q2, q3, q4⟩, q5⟩ := h9
  refine ⟨⟨q1, fun i a1 a2 => q2 i a1 (by omega), q3.imp id fun ⟨i, b1, b2⟩ => ⟨i, ⟨b1.1, by omega⟩, b2⟩, q4.imp id fun ⟨i, b1, b2⟩ => ⟨i, ⟨b1.1, by omega⟩, b2⟩⟩, q5⟩
/-- a gauge, read off a run -/
theorem ti_gaugeOn {b : Prop} {h c0 c r ga q : am_F} {k0 k i : Int} (hC : HC h c) (hR : RunAt b h c (fun _ => True) k0 k r) (hV0 : MdV c0) (hg : TGa ga c0) (hi : 0 ≤ i ∧ i < c0 0 31) (hk : k0 ≤ c0 (146 + i.toNat) 1 + 1 ∧ c0 (146 + i.toNat) 1 + 1 ≤ k) : f_fogOn r (f_at (ga 0 2) (ga 1) i 1) (f_at (ga 0 2) (ga 1) i 0) = GVal c0 (k_goes c q) i := by
  obtain ⟨t1, t2, t3, x, y, t4, t5, t6, t7⟩ := hg.2 i hi.1 hi.2
  have v1 := hV0.1
  have v2 := hV0.2.1
  have h9 := (RunAt_read (q := q) hC.1.1 hC.2.2.1 hR trivial (p := c0 (146 + i.toNat) 1 + 1) hk).1
  have := (FQ_of hR.2.2.1 (s := c0 (146 + i.toNat) 1) (by omega) h9 x y t4.1 (by omega) t5.1 (by omega)).1
  rw [t6, t1, this]
  unfold GVal
  rw [t7]
theorem f_upTo_Z {h r : am_F} {k st : Int} (hV : HbV h) {c : am_F} (hT : TH h c) (h1 : r 0 1 = k) (hk : 0 ≤ k ∧ k ≤ 40) (hst : -1 ≤ st ∧ st < 40) (hZ : OutZ h k r) : OutZ h (if k ≤ st then st + 1 else k) (f_upTo h r st) := by
  have e1 : f_from r = k := by unfold f_from; split <;> omega
  have e2 : f_to st = st + 1 := by unfold f_to; split <;> omega
  unfold f_upTo
  rw [e1, e2]
  by_cases hks : k ≤ st
  · rw [if_pos hks]
    have h9 := am_fold_inv (P := fun i r => OutZ h i r) (g := g_upTo h) (st + 1 - k).toNat k r hZ (fun j r a1 a2 hr => OutZ_k (r := f_goOn h r j) (am_put_kr (by decide)) (OutZ_step hV hT.2.2.2.1 hT.1 (by omega) hr))
    rwa [show k + ((st + 1 - k).toNat : Int) = st + 1 by omega] at h9
  · rw [if_neg hks, show (st + 1 - k).toNat = 0 by omega]
    exact hZ
theorem ti_stands {r r2 h : am_F} {s : Int} (hV : HbV h) (hs : -1 ≤ s ∧ s < 40) (e : f_stands r r2 h s ≠ 0) : ∀ x y : Int, 0 ≤ x → x < h 0 0 → 0 ≤ y → y < h 0 1 → r 1 ((s + 1) * 90 + (x + 10 * y)).toNat = r2 1 ((s + 1) * 90 + (x + 10 * y)).toNat := by
  obtain ⟨v1, v2, v3, v4, -⟩ := id hV
  have h0 : am_find (p_stand r r2 h s) 0 (h 0 1).toNat = none := by
    unfold f_stands at e
    cases e9 : am_find (p_stand r r2 h s) 0 (h 0 1).toNat with
    | none => rfl
    | some v =>
      exfalso
      rw [e9] at e
      have q := am_find_P (P := fun v => v = 0) (fun i v hv => by
        unfold p_stand at hv
        exact am_find_P (P := fun v => v = 0) (fun i v hv => by
          unfold p_standx at hv
          split at hv
          · cases hv
          · exact (Option.some.inj hv).symm) _ _ hv) _ _ e9
      exact e q
  intro x y a1 a2 a3 a4
  have h1 := (ti_find_none _ _).1 h0 y a3 (by omega)
  unfold p_stand at h1
  have h2 := (ti_find_none _ _).1 h1 x a1 (by omega)
  have g : f_fogOn r (x + 10 * y) s = f_fogOn r2 (x + 10 * y) s := by
    unfold p_standx at h2
    split at h2
    · assumption
    · cases h2
  have ef : ∀ r9 : am_F, f_fogOn r9 (x + 10 * y) s = r9 1 ((s + 1) * 90 + (x + 10 * y)).toNat := fun r9 => by
    unfold f_fogOn
    rw [if_pos ⟨hs, by omega, by omega⟩]
  rw [ef, ef] at g
  exact g
