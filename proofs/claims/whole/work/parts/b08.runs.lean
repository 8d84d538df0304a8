/-! THE TIE: runs -/
def ti_init (c q : am_F) : am_F := am_fold (g_k_goes_107 c) 0 81 (am_fold g_k_goes_61 0 7 (am_fold g_k_goes_24 0 6 (am_fold g_k_goes_2 0 4 q)))
def ti_G (c : am_F) (n : Nat) (q : am_F) : am_F := am_fold (g_k_goes_164 c) 0 n (ti_init c q)
theorem ti_G40 (c q : am_F) : k_goes c q = ti_G c 40 q := rfl
theorem ti_Gs (c q : am_F) (n : Nat) : ti_G c (n + 1) q = k_stepGoes c (ti_G c n q) n := by
  unfold ti_G
  rw [ti_last, show (0 : Int) + (n : Int) = n by omega]
  rfl
theorem ti_lot6 {c : am_F} (h : c 4 3 ≤ 6) (x y : Int) : k_lotOf c x y < 6 := by
  unfold k_lotOf
  cases e : am_find (p_k_lotOf_2 c x y) 0 (c 4 3).toNat with
  | none => show (-1 : Int) < 6; decide
  | some k =>
    obtain ⟨j, h1, h2, h3⟩ := am_find_spec _ _ e
    show k < 6
    have : k = j := by
      unfold p_k_lotOf_2 at h3
      simp only [] at h3
      split at h3
      · cases h3
      · split at h3
        · cases h3
        · exact (Option.some.inj h3).symm
    omega
def TRow (p : Int) (r q : am_F) : Prop := TF (159 + p.toNat) p r q ∧ r 2 p.toNat = q (201 + p.toNat) 0
def TSum (L p : Int) (r q : am_F) : Prop := T3 p r q ∧ T4 p r q ∧ T5 p r q ∧ (1 ≤ p → T6 p r q) ∧ T7 L p r q
def RunAt (b : Prop) (h c : am_F) (P : am_F → Prop) (k0 k : Int) (r : am_F) : Prop := (0 ≤ k0 ∧ k0 ≤ k ∧ k ≤ 40) ∧ r 0 1 = k ∧ RnF r ∧ MlB r ∧ TLp h c r ∧ r 2 k.toNat = f_fogsum r k ∧ ∀ q, P q → (TF 265 k r (ti_G c k.toNat q) ∧ TD c r (ti_G c k.toNat q) ∧ (b → TSo (c 0 45) k r (ti_G c k.toNat q))) ∧ ∀ p, k0 ≤ p → p ≤ k → TRow p r (ti_G c k.toNat q) ∧ (b → TSum (c 0 45) p r (ti_G c k.toNat q))
theorem TRow_k {p : Int} {r q r' q' : am_F} (h : TRow p r q) (h1 : ∀ j : Nat, (j : Int) < (p + 1) * 90 → r' 1 j = r 1 j) (h2 : r' 2 p.toNat = r 2 p.toNat) (h3 : q' (159 + p.toNat) = q (159 + p.toNat)) (h4 : q' (201 + p.toNat) = q (201 + p.toNat)) (hp : 0 ≤ p) : TRow p r' q' := by
  refine ⟨⟨fun x y a1 a2 a3 a4 => ?_, fun y a3 a4 => ?_⟩, ?_⟩
  · rw [h1 _ (by omega), h3]; exact h.1.1 x y a1 a2 a3 a4
  · rw [h1 _ (by omega)]; exact h.1.2 y a3 a4
  · rw [h2, h4]; exact h.2
theorem TSum_k {L p : Int} {r q r' q' : am_F} (h : TSum L p r q) (h3 : r' 3 p.toNat = r 3 p.toNat) (h4 : r' 4 p.toNat = r 4 p.toNat) (h5 : r' 5 p.toNat = r 5 p.toNat) (h6 : r' 6 p.toNat = r 6 p.toNat) (h7 : ∀ l : Int, 0 ≤ l → l < L → r' 7 (l * 41 + p).toNat = r 7 (l * 41 + p).toNat) (q1 : q' (201 + p.toNat) = q (201 + p.toNat)) (q2 : 1 ≤ p → q' 267 (p - 1).toNat = q 267 (p - 1).toNat) (q3 : ∀ l : Int, 0 ≤ l → l < L → q' (243 + l.toNat) p.toNat = q (243 + l.toNat) p.toNat) : TSum L p r' q' := by
  refine ⟨?_, ?_, ?_, fun hp => ?_, fun l a1 a2 => ?_⟩
  · unfold T3; rw [h3, q1]; exact h.1
  · unfold T4; rw [h4, q1]; exact h.2.1
  · unfold T5; rw [h5, q1]; exact h.2.2.1
  · unfold T6; rw [h6, q2 hp]; exact h.2.2.2.1 hp
  · rw [h7 l a1 a2, q3 l a1 a2]; exact h.2.2.2.2 l a1 a2
theorem RunAt_step {b : Prop} {h c r : am_F} {P : am_F → Prop} {k0 k : Int} (hA : HbAll h) (hT : TH h c) (hR : RunAt b h c P k0 k r) (hk : k < 40) (hdu : k ≠ c 0 58) : RunAt b h c P k0 (k + 1) (am_put (f_goOn h r k) 0 1 (k + 1)) := by
  obtain ⟨⟨n1, n2, n3⟩, g1, gF, gM, gL, gs, gq⟩ := hR
  have hs : 0 ≤ k ∧ k < 40 := ⟨by omega, hk⟩
  have hV := id hA.1
  obtain ⟨v1, v2, v3, v4, v5, v6, v7, v8, v9, v10, v11, v12, v13, v14, v15, v16, v17, v18, v19, v20, v21, v22⟩ := hV
  have hL : c 0 45 ≤ 7 := by rcases gL.2 with ⟨b1, b2⟩ | ⟨b1, b2, -⟩ <;> omega
  have hlot : ∀ x y, k_lotOf c x y < 6 := ti_lot6 (by have := hT.2.2.2.2.2; omega)
  obtain ⟨f1, f2⟩ := f_goOn_k hA hs gF gM
  have e0 := f_goOn_0 h r k
  have e4 : f_goOn h r k 0 4 = r 0 4 := (congrFun e0 4).trans (am_put_i (by decide))
  have e5 : f_goOn h r k 0 5 = r 0 5 := (congrFun e0 5).trans (am_put_i (by decide))
  have e3 : f_goOn h r k 0 3 = r 0 3 := (congrFun e0 3).trans (am_put_i (by decide))
  have e2 : f_goOn h r k 0 2 = f_seed (r 0 2) := (congrFun e0 2).trans am_put_s
  have ek : ∀ m, m ≠ 0 → am_put (f_goOn h r k) 0 1 (k + 1) m = f_goOn h r k m := fun m hm => am_put_kr hm
  have hC := ti_keepC (r := r) hA hs.1
  have ef : f_fogsum (am_put (f_goOn h r k) 0 1 (k + 1)) (k + 1) = f_fogsum (f_goOn h r k) (k + 1) := by unfold f_fogsum; rw [ek 1 (by decide)]
  refine ⟨⟨n1, by omega, by omega⟩, am_put_s, fun j => by rw [ek 1 (by decide)]; exact f1 j, ?_, ?_, ?_, fun q hq => ?_⟩
  · unfold MlB; rw [am_put_i (by decide), am_put_i (by decide)]; exact f2
  · unfold TLp; rw [am_put_i (by decide), am_put_i (by decide), e4, e5]; exact gL
  · rw [ef, ek 2 (by decide)]
    show f_goOn h r k 2 (k + 1).toNat = _
    unfold f_goOn
    exact am_put_s
  · obtain ⟨⟨w1, w2, w3⟩, w4⟩ := gq q hq
    have eG : ti_G c (k + 1).toNat q = k_stepGoes c (ti_G c k.toNat q) k := by
      rw [show (k + 1).toNat = k.toNat + 1 by omega, ti_Gs, show ((k.toNat : Nat) : Int) = k by omega]
    obtain ⟨z1, z2, z3, z4, z5⟩ := ti_step hA gF gM gs hT gL w2 hs hdu w1 w3
    have hK := ti_stepKeep (t := k) (q := ti_G c k.toNat q) hL hlot
    rw [eG]
    refine ⟨⟨TF_k z1 (ek 1 (by decide)) rfl, ?_, fun hb => ?_⟩, fun p p1 p2 => ?_⟩
    · unfold TD
      rw [am_put_i (by decide), am_put_i (by decide), e3, e2, ti_step0 hL hlot hs.1]
      rcases w2 with ⟨d1, d2⟩ | ⟨d1, d2, d3⟩
      · exact Or.inl ⟨d1, d2⟩
      · refine Or.inr ⟨d1, d2, ?_⟩
        rw [if_neg d1, ← d3]
        rfl
    · obtain ⟨t3, t4, t5, t6, t7, t8, t9⟩ := z2 hb
      refine ⟨?_, ?_, ?_, ?_, ?_, ?_⟩
      · unfold T3; rw [ek 3 (by decide)]; exact t3
      · unfold T4; rw [ek 4 (by decide)]; exact t4
      · unfold T5; rw [ek 5 (by decide)]; exact t5
      · intro l a1 a2; rw [ek 7 (by decide)]; exact t7 l a1 a2
      · intro l x y a1 a2 a3 a4 a5 a6; rw [ek 8 (by decide)]; exact t8 l x y a1 a2 a3 a4 a5 a6
      · intro a e a1 a2 a3 a4; rw [ek 9 (by decide)]; exact t9 a e a1 a2 a3 a4
    · by_cases hp : p = k + 1
      · subst hp
        refine ⟨⟨TF_k z3 (ek 1 (by decide)) rfl, by rw [ek 2 (by decide)]; exact z4⟩, fun hb => ?_⟩
        obtain ⟨t3, t4, t5, t6, t7, t8, t9⟩ := z2 hb
        refine ⟨?_, ?_, ?_, fun _ => ?_, fun l a1 a2 => ?_⟩
        · unfold T3; rw [ek 3 (by decide)]; exact t3
        · unfold T4; rw [ek 4 (by decide)]; exact t4
        · unfold T5; rw [ek 5 (by decide)]; exact t5
        · unfold T6; rw [ek 6 (by decide)]; exact t6
        · rw [ek 7 (by decide)]; exact t7 l a1 a2
      · obtain ⟨y1, y2⟩ := w4 p p1 (by omega)
        have hp0 : 0 ≤ p := by omega
        have c2 : ∀ m, 2 ≤ m → m ≤ 6 → am_put (f_goOn h r k) 0 1 (k + 1) m p.toNat = r m p.toNat := fun m m1 m2 => by
          rw [ek m (by omega)]
          exact hC m _ (Or.inr (Or.inl ⟨m1, m2, by omega⟩))
        have k1 : k_stepGoes c (ti_G c k.toNat q) k (159 + p.toNat) = ti_G c k.toNat q (159 + p.toNat) := funext fun j => hK _ j ⟨by omega, by omega, by omega, by omega, by omega, by omega, by omega, by omega⟩
        have k2 : k_stepGoes c (ti_G c k.toNat q) k (201 + p.toNat) = ti_G c k.toNat q (201 + p.toNat) := funext fun j => hK _ j ⟨by omega, by omega, by omega, by omega, by omega, by omega, by omega, by omega⟩
        refine ⟨TRow_k y1 (fun j hj => ?_) (c2 2 (by decide) (by decide)) k1 k2 hp0, fun hb => TSum_k (y2 hb) (c2 3 (by decide) (by decide)) (c2 4 (by decide) (by decide)) (c2 5 (by decide) (by decide)) (c2 6 (by decide) (by decide)) (fun l a1 a2 => ?_) k2 (fun hp => ?_) (fun l a1 a2 => ?_)⟩
        · rw [ek 1 (by decide)]
          exact hC 1 j (Or.inl ⟨rfl, by omega⟩)
        · rw [ek 7 (by decide)]
          exact hC 7 _ (Or.inr (Or.inr ⟨rfl, fun l' b1 b2 => by omega⟩))
        · exact hK _ _ ⟨by omega, by omega, by omega, by omega, by omega, by omega, by omega, by omega⟩
        · exact hK _ _ ⟨by omega, by omega, by omega, by omega, by omega, by omega, by omega, by omega⟩
theorem RunAt_upTo {b : Prop} {h c r : am_F} {P : am_F → Prop} {k0 k st : Int} (hA : HbAll h) (hT : TH h c) (hR : RunAt b h c P k0 k r) (hst : -1 ≤ st ∧ st < 40) (hdu : c 0 58 < k) : RunAt b h c P k0 (if k ≤ st then st + 1 else k) (f_upTo h r st) := by
  have h1 := hR.2.1
  have hk := hR.1
  have e1 : f_from r = k := by unfold f_from; split <;> omega
  have e2 : f_to st = st + 1 := by unfold f_to; split <;> omega
  unfold f_upTo
  rw [e1, e2]
  by_cases hks : k ≤ st
  · rw [if_pos hks]
    have h9 := am_fold_inv (P := fun i r => RunAt b h c P k0 i r) (g := g_upTo h) (st + 1 - k).toNat k r hR (fun j r a1 a2 hr => RunAt_step hA hT hr (by omega) (by omega))
    rwa [show k + ((st + 1 - k).toNat : Int) = st + 1 by omega] at h9
  · rw [if_neg hks, show (st + 1 - k).toNat = 0 by omega]
    exact hR
/-- what later steps of the model leave as it was -/
theorem ti_Gkeep {c q : am_F} (hL : c 0 45 ≤ 7) (hl : ∀ x y, k_lotOf c x y < 6) (n : Nat) : ∀ m : Nat, n + m ≤ 40 → (∀ p, p ≤ n → ti_G c (n + m) q (159 + p) = ti_G c n q (159 + p)) ∧ (∀ p, p ≤ n → ti_G c (n + m) q (201 + p) = ti_G c n q (201 + p)) ∧ (∀ l p, l < 8 → p ≤ n → ti_G c (n + m) q (243 + l) p = ti_G c n q (243 + l) p) ∧ ∀ j, j < n → ti_G c (n + m) q 267 j = ti_G c n q 267 j := by
  intro m
  induction m with
  | zero => exact fun _ => ⟨fun _ _ => rfl, fun _ _ => rfl, fun _ _ _ _ => rfl, fun _ _ => rfl⟩
  | succ m ih =>
    intro hm
    obtain ⟨h1, h2, h3, h4⟩ := ih (by omega)
    have hK := ti_stepKeep (t := ((n + m : Nat) : Int)) (q := ti_G c (n + m) q) hL hl
    rw [← Nat.add_assoc, ti_Gs]
    refine ⟨fun p hp => ?_, fun p hp => ?_, fun l p a1 hp => ?_, fun j hj => ?_⟩
    · rw [← h1 p hp]
      exact funext fun j => hK _ j ⟨by omega, by omega, by omega, by omega, by omega, by omega, by omega, by omega⟩
    · rw [← h2 p hp]
      exact funext fun j => hK _ j ⟨by omega, by omega, by omega, by omega, by omega, by omega, by omega, by omega⟩
    · rw [← h3 l p a1 hp]
      exact hK _ _ ⟨by omega, by omega, by omega, by omega, by omega, by omega, by omega, by omega⟩
    · rw [← h4 j hj]
      exact hK _ _ ⟨by omega, by omega, by omega, by omega, by omega, by omega, by omega, by omega⟩
theorem RunAt_read {b : Prop} {h c r q : am_F} {P : am_F → Prop} {k0 k : Int} (hA : HbAll h) (hT : TH h c) (hR : RunAt b h c P k0 k r) (hq : P q) {p : Int} (hp : k0 ≤ p ∧ p ≤ k) : TRow p r (k_goes c q) ∧ (b → TSum (c 0 45) p r (k_goes c q)) := by
  have hV := id hA.1
  obtain ⟨v1, v2, v3, v4, v5, v6, v7, v8, v9, v10, v11, v12, v13, v14, v15, v16, v17, v18, v19, v20, v21, v22⟩ := hV
  obtain ⟨⟨n1, n2, n3⟩, g1, gF, gM, gL, gs, gq⟩ := hR
  have hL : c 0 45 ≤ 7 := by rcases gL.2 with ⟨b1, b2⟩ | ⟨b1, b2, -⟩ <;> omega
  have hlot : ∀ x y, k_lotOf c x y < 6 := ti_lot6 (by have := hT.2.2.2.2.2; omega)
  obtain ⟨y1, y2⟩ := (gq q hq).2 p hp.1 hp.2
  obtain ⟨z1, z2, z3, z4⟩ := ti_Gkeep (q := q) hL hlot k.toNat (40 - k.toNat) (by omega)
  rw [show k.toNat + (40 - k.toNat) = 40 by omega] at z1 z2 z3 z4
  rw [ti_G40]
  exact ⟨TRow_k y1 (fun _ _ => rfl) rfl (z1 _ (by omega)) (z2 _ (by omega)) (by omega), fun hb => TSum_k (y2 hb) rfl rfl rfl rfl (fun _ _ _ => rfl) (z2 _ (by omega)) (fun h1 => z4 _ (by omega)) (fun l a1 a2 => z3 _ _ (by omega) (by omega))⟩

/-! how a run begins -/
def TFs (h c : am_F) : Prop := (∀ x y : Int, 0 ≤ x → x < 9 → 0 ≤ y → y < 9 → h 11 (x + 10 * y).toNat = c 6 (x + 9 * y).toNat) ∧ ∀ y : Int, 0 ≤ y → y < 9 → h 11 (9 + 10 * y).toNat = 0
def RnZ (r : am_F) : Prop := r 3 0 = 0 ∧ r 4 0 = 0 ∧ r 5 0 = 0 ∧ ∀ l : Int, 0 ≤ l → l < 7 → r 7 (l * 41).toNat = 0
def ti_i4 (q : am_F) : am_F := am_fold g_k_goes_61 0 7 (am_fold g_k_goes_24 0 6 (am_fold g_k_goes_2 0 4 q))
theorem ti_i4_k (q : am_F) : (∀ k, k ≠ 201 → (k < 243 ∨ 265 ≤ k) → ti_i4 q k = q k) ∧ (∀ i : Nat, i < 4 → ti_i4 q 201 i = 0) ∧ (∀ l : Int, 0 ≤ l → l < 7 → ti_i4 q (243 + l.toNat) 0 = 0 ∧ ∀ j : Nat, j < 81 → ti_i4 q (251 + l.toNat) j = 0) ∧ ∀ a e : Int, 0 ≤ a → a < 6 → 0 ≤ e → e < 6 → ti_i4 q (259 + a.toNat) e.toNat = 0 := by
  have h1 := am_fold_inv (P := fun i x => (∀ k, k ≠ 201 → x k = q k) ∧ ∀ j : Nat, (j : Int) < i → x 201 j = 0) (g := g_k_goes_2) 4 0 q ⟨fun _ _ => rfl, fun j hj => by omega⟩ (fun i x a1 a2 hP => ⟨fun k hk => (am_put_kr (c := x) hk).trans (hP.1 k hk), fun j hj => by
    unfold g_k_goes_2
    by_cases e : j = i.toNat
    · rw [e, am_put_s]
    · rw [am_put_i e]
      exact hP.2 j (by omega)⟩)
  generalize hx1 : am_fold g_k_goes_2 0 4 q = x1 at *
  have h2 := am_fold_inv (P := fun i x => (∀ k, (k < 259 ∨ 265 ≤ k) → x k = x1 k) ∧ ∀ a e : Int, 0 ≤ a → a < i → 0 ≤ e → e < 6 → x (259 + a.toNat) e.toNat = 0) (g := g_k_goes_24) 6 0 x1 ⟨fun _ _ => rfl, fun a e b1 b2 => by omega⟩ (fun i x a1 a2 hP => by
    unfold g_k_goes_24
    have h := am_fold_inv (P := fun m y => (∀ k, k ≠ 259 + i.toNat → y k = x k) ∧ ∀ e : Int, 0 ≤ e → e < m → y (259 + i.toNat) e.toNat = 0) (g := g_k_goes_32 i) 6 0 x ⟨fun _ _ => rfl, fun e b1 b2 => by omega⟩ (fun m y c1 c2 hQ => ⟨fun k hk => (am_put_kr (c := y) hk).trans (hQ.1 k hk), fun e d1 d2 => by
      unfold g_k_goes_32
      by_cases g : e = m
      · rw [g, am_put_s]
      · rw [am_put_i (by omega)]
        exact hQ.2 e d1 (by omega)⟩)
    refine ⟨fun k hk => (h.1 k (by omega)).trans (hP.1 k hk), fun a e b1 b2 b3 b4 => ?_⟩
    by_cases g : a = i
    · rw [g]
      exact h.2 e b3 (by omega)
    · rw [h.1 _ (by omega)]
      exact hP.2 a e b1 (by omega) b3 b4)
  generalize hx2 : am_fold g_k_goes_24 0 6 x1 = x2 at *
  have h3 := am_fold_inv (P := fun i x => (∀ k, (k < 243 ∨ 258 ≤ k) → x k = x2 k) ∧ ∀ l : Int, 0 ≤ l → l < i → x (243 + l.toNat) 0 = 0 ∧ ∀ j : Nat, j < 81 → x (251 + l.toNat) j = 0) (g := g_k_goes_61) 7 0 x2 ⟨fun _ _ => rfl, fun l b1 b2 => by omega⟩ (fun i x a1 a2 hP => by
    unfold g_k_goes_61
    have h := am_fold_inv (P := fun m y => (∀ k, k ≠ 251 + i.toNat → y k = am_put x (243 + i.toNat) 0 0 k) ∧ ∀ j : Nat, (j : Int) < m → y (251 + i.toNat) j = 0) (g := g_k_goes_78 i) 81 0 (am_put x (243 + i.toNat) 0 0) ⟨fun _ _ => rfl, fun j b1 => by omega⟩ (fun m y c1 c2 hQ => ⟨fun k hk => (am_put_kr (c := y) hk).trans (hQ.1 k hk), fun j d1 => by
      unfold g_k_goes_78
      by_cases g : j = m.toNat
      · rw [g, am_put_s]
      · rw [am_put_i g]
        exact hQ.2 j (by omega)⟩)
    refine ⟨fun k hk => ((h.1 k (by omega)).trans (am_put_kr (by omega))).trans (hP.1 k hk), fun l b1 b2 => ?_⟩
    by_cases g : l = i
    · rw [g]
      exact ⟨by rw [h.1 _ (by omega), am_put_s], fun j hj => h.2 j (by omega)⟩
    · refine ⟨?_, fun j hj => ?_⟩
      · rw [h.1 _ (by omega), am_put_k (by omega)]
        exact (hP.2 l b1 (by omega)).1
      · rw [h.1 _ (by omega), am_put_k (by omega)]
        exact (hP.2 l b1 (by omega)).2 j hj)
  have e9 : ti_i4 q = am_fold g_k_goes_61 0 7 x2 := by rw [← hx2, ← hx1]; rfl
  rw [e9]
  refine ⟨fun k k1 k2 => ?_, fun i hi => ?_, fun l b1 b2 => h3.2 l b1 (by omega), fun a e b1 b2 b3 b4 => ?_⟩
  · exact (h3.1 k (by omega)).trans ((h2.1 k (by omega)).trans (h1.1 k k1))
  · rw [h3.1 _ (by omega), h2.1 _ (by omega)]
    exact h1.2 i (by omega)
  · rw [h3.1 _ (by omega)]
    exact h2.2 a e b1 (by omega) b3 b4
theorem ti_init_k {h c q : am_F} (hFs : FsB h) (hT : TFs h c) : (∀ k, k ≠ 265 → k ≠ 159 → k ≠ 201 → ti_init c q k = ti_i4 q k) ∧ (∀ m, m ≠ 0 → ti_init c q 201 m = ti_i4 q 201 m) ∧ ti_init c q 201 0 = am_fold (fun i a => a + h 11 i.toNat) 0 90 0 ∧ ∀ y : Nat, y < 81 → ti_init c q 265 y = c 6 y ∧ ti_init c q 159 y = c 6 y := by
  have e : ti_init c q = am_fold (g_k_goes_107 c) 0 81 (ti_i4 q) := rfl
  rw [e]
  have h9 := ti_rows (R := fun i j (a : Int) x => (0 ≤ a ∧ a ≤ 99 * (10 * j + i)) ∧ x 201 0 = a ∧ (∀ k, k ≠ 265 → k ≠ 159 → k ≠ 201 → x k = ti_i4 q k) ∧ (∀ m, m ≠ 0 → x 201 m = ti_i4 q 201 m) ∧ ∀ y : Nat, (y : Int) < i + 9 * j → x 265 y = c 6 y ∧ x 159 y = c 6 y) (f := fun i a => a + h 11 i.toNat) (g := g_k_goes_107 c) 0 0 (ti_i4 q)
    ⟨⟨by decide, by decide⟩, (ti_i4_k q).2.1 0 (by decide), fun _ _ _ _ => rfl, fun _ _ => rfl, fun y hy => by omega⟩
    (fun i j a x b1 b2 b3 b4 hR => by
      obtain ⟨g1, g2, g3, g4, g5⟩ := hR
      have e := hT.1 i j b1 b2 b3 b4
      have hb := hFs (i + 10 * j).toNat
      rw [show (0 : Int) + (i + 10 * j) = i + 10 * j by omega]
      unfold g_k_goes_107
      refine ⟨⟨by show 0 ≤ a + _; omega, by show a + _ ≤ _; omega⟩, ?_, fun k k1 k2 k3 => ?_, fun m hm => ?_, fun y hy => ?_⟩
      · rw [am_put_s, g2, ← e]
        exact ti_w ⟨by omega, by omega⟩
      · rw [am_put_kr k3, am_put_kr k2, am_put_kr k1]
        exact g3 k k1 k2 k3
      · rw [am_put_i hm, am_put_k (by decide), am_put_k (by decide)]
        exact g4 m hm
      · by_cases e9 : y = (i + 9 * j).toNat
        · rw [e9]
          simp (disch := omega) only [am_put_k, am_put_s, and_self]
        · simp (disch := omega) only [am_put_k, am_put_i]
          exact g5 y (by omega))
    (fun j a x b1 b2 hR => by
      obtain ⟨g1, g2, g3, g4, g5⟩ := hR
      have e := hT.2 j b1 b2
      rw [show (0 : Int) + (9 + 10 * j) = 9 + 10 * j by omega]
      simp only [e, Int.add_zero]
      exact ⟨⟨g1.1, by omega⟩, g2, g3, g4, fun y hy => g5 y (by omega)⟩)
  exact ⟨h9.2.2.1, h9.2.2.2.1, h9.2.1, fun y hy => h9.2.2.2.2 y (by omega)⟩
theorem ti_fold0 {α : Type} (g : Int → α → α) (i : Int) (x : α) : am_fold g i 0 x = x := rfl
theorem ti_row_s (r : am_F) (k : Nat) (f : Nat → Int) : am_row r k f k = f := funext fun _ => if_pos rfl
theorem ti_row_k {r : am_F} {k k' : Nat} {f : Nat → Int} (h : k' ≠ k) : am_row r k f k' = r k' := funext fun _ => if_neg h
theorem RunAt_begin {b : Prop} {h c r r' : am_F} {P : am_F → Prop} (hr : ∀ k, k ≠ 0 → r' k = f_begin h r k) (h01 : r' 0 1 = 0) (hM : MlB r') (hL : TLp h c r') (hV : HbV h) (hTD : ∀ q, P q → TD c r' q) (hF : RnF r) (hFs : FsB h) (hT : TFs h c) (hZ : RnZ r) : RunAt b h c P 0 0 r' := by
  obtain ⟨v1, v2, v3, v4, v5, v6, v7, v8, v9, v10, v11, v12, v13, v14, v15, v16, v17, v18, v19, v20, v21, v22⟩ := id hV
  have hL7 : c 0 45 ≤ 7 := by rcases hL.2 with ⟨b1, b2⟩ | ⟨b1, b2, -⟩ <;> omega
  have e1 : r' 1 = am_cpy (h 11) (r 1) 0 0 90 := (hr 1 (by decide)).trans rfl
  have e11 : ∀ j : Nat, j < 90 → r' 1 j = h 11 j := fun j hj => by
    rw [e1]; unfold am_cpy; rw [if_pos (by omega)]; congr 1; omega
  have e3 : ∀ k, 3 ≤ k → k ≤ 7 → r' k = r k := fun k k1 k2 => by
    rw [hr k (by omega)]
    unfold f_begin f_addUp f_beg1 f_beg0
    rw [am_put_kr (by omega)]
    funext j
    unfold am_row
    rw [if_neg (by omega), if_neg (by omega), if_neg (by omega), am_put_k (by omega), am_put_k (by omega), am_put_k (by omega)]
  have e8 : r' 8 = am_fill 630 (r 8) 0 := by
    rw [hr 8 (by decide)]
    unfold f_begin f_addUp f_beg1
    rw [am_put_kr (by decide), ti_row_k (by decide), ti_row_s]
  have e9 : r' 9 = am_fill 36 (r 9) 0 := by
    rw [hr 9 (by decide)]
    unfold f_begin f_addUp f_beg1
    rw [am_put_kr (by decide), ti_row_s]
  have e2 : r' 2 0 = f_fogsum r' 0 := by
    rw [hr 2 (by decide)]
    have : f_fogsum r' 0 = f_fogsum (f_beg1 h r) 0 := by
      unfold f_fogsum
      rw [hr 1 (by decide)]
      rfl
    rw [this]
    unfold f_begin f_addUp
    exact am_put_s
  have es : f_fogsum r' 0 = am_fold (fun i a => a + h 11 i.toNat) 0 90 0 := by
    unfold f_fogsum
    rw [Int.zero_mul]
    exact am_fold_eq 90 0 0 fun j y a1 a2 => by rw [e11 _ (by omega)]
  refine ⟨⟨Int.le_refl _, Int.le_refl _, by decide⟩, h01, fun j => ?_, hM, hL, e2, fun q hq => ?_⟩
  · rw [e1]; unfold am_cpy
    split
    · exact hFs _
    · exact hF _
  · have eG : ti_G c (0 : Int).toNat q = ti_init c q := by
      rw [Int.toNat_zero]
      unfold ti_G
      exact ti_fold0 _ _ _
    rw [eG]
    obtain ⟨i1, i2, i3, i4⟩ := ti_init_k (q := q) hFs hT
    obtain ⟨j1, j2, j3, j4⟩ := ti_i4_k q
    have hTF : ∀ k, (k = 265 ∨ k = 159) → TF k 0 r' (ti_init c q) := fun k hk => ⟨fun x y a1 a2 a3 a4 => by
      rw [show (0 : Int) * 90 + (x + 10 * y) = x + 10 * y by omega, e11 _ (by omega), hT.1 x y a1 a2 a3 a4]
      rcases hk with rfl | rfl
      · exact (i4 _ (by omega)).1.symm
      · exact (i4 _ (by omega)).2.symm, fun y a3 a4 => by
      rw [show (0 : Int) * 90 + (9 + 10 * y) = 9 + 10 * y by omega, e11 _ (by omega)]
      exact hT.2 y a3 a4⟩
    obtain ⟨z3, z4, z5, z7⟩ := hZ
    have g3 : T3 0 r' (ti_init c q) := by
      unfold T3; rw [e3 3 (by decide) (by decide)]
      show r 3 0 = ti_init c q 201 1 ∧ _
      rw [i2 1 (by decide), j2 1 (by decide)]
      show r 3 0 = 0 ∧ am_w32 (r 3 0) = r 3 0
      rw [z3]; exact ⟨rfl, by decide⟩
    have g4 : T4 0 r' (ti_init c q) := by
      unfold T4; rw [e3 4 (by decide) (by decide)]
      show r 4 0 = ti_init c q 201 2 ∧ _
      rw [i2 2 (by decide), j2 2 (by decide)]
      show r 4 0 = 0 ∧ am_w32 (r 4 0) = r 4 0
      rw [z4]; exact ⟨rfl, by decide⟩
    have g5 : T5 0 r' (ti_init c q) := by
      unfold T5; rw [e3 5 (by decide) (by decide)]
      show r 5 0 = ti_init c q 201 3 ∧ _
      rw [i2 3 (by decide), j2 3 (by decide)]
      show r 5 0 = 0 ∧ am_w32 (r 5 0) = r 5 0
      rw [z5]; exact ⟨rfl, by decide⟩
    have g7 : T7 (c 0 45) 0 r' (ti_init c q) := fun l a1 a2 => by
      rw [e3 7 (by decide) (by decide), Int.add_zero, z7 l a1 (by omega), i1 _ (by omega) (by omega) (by omega)]
      exact ⟨((j3 l a1 (by omega)).1).symm, by decide⟩
    refine ⟨⟨hTF 265 (Or.inl rfl), ?_, fun _ => ⟨g3, g4, g5, g7, fun l x y a1 a2 a3 a4 a5 a6 => ?_, fun a e a1 a2 a3 a4 => ?_⟩⟩, fun p p1 p2 => ?_⟩
    · unfold TD
      rw [i1 0 (by decide) (by decide) (by decide), j1 0 (by decide) (by omega)]
      exact hTD q hq
    · rw [e8, am_fill_at 630 _ _ _ (by omega), i1 _ (by omega) (by omega) (by omega)]
      exact ⟨((j3 l a1 (by omega)).2 _ (by omega)).symm, by decide⟩
    · rw [e9, am_fill_at 36 _ _ _ (by omega), i1 _ (by omega) (by omega) (by omega)]
      exact ⟨(j4 a e a1 a2 a3 a4).symm, by decide⟩
    · have hp : p = 0 := by omega
      subst hp
      refine ⟨⟨hTF 159 (Or.inr rfl), ?_⟩, fun _ => ⟨g3, g4, g5, fun h => by omega, g7⟩⟩
      show r' 2 0 = ti_init c q 201 0
      rw [e2, es, i3]
