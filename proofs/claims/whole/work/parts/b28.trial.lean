/-! THE TIE: the run with a duel -/
def ti_dc (c : am_F) (t w : Int) : am_F := am_put (am_put c 0 58 t) 0 59 w
theorem ti_dcC {h c : am_F} {t w : Int} (hC : HC h c) (hTb : TLb h c) (hFs : TFs h c) : HC h (ti_dc c t w) ∧ TLb h (ti_dc c t w) ∧ TFs h (ti_dc c t w) := by
  refine ⟨HC_told (c := c) (fun k hk => (am_put_kr (by omega)).trans (am_put_kr (by omega))) (MdV_put0 (MdV_put0 hC.2.1 (by decide) (by decide) (by decide)) (by decide) (by decide) (by decide)) rfl hC, fun i a1 a2 => ?_, ?_⟩
  · have := hTb i a1 a2
    unfold ti_dc
    rw [am_put_kr (c := am_put c 0 58 t) (by omega : 67 + i.toNat ≠ 0), am_put_kr (by omega : 67 + i.toNat ≠ 0)]
    exact this
  · exact hFs
theorem TF_rows {k : Nat} {p : Int} {r r' q : am_F} (hp : 0 ≤ p) (e : ∀ j : Int, p * 90 ≤ j → j < p * 90 + 90 → r' 1 j.toNat = r 1 j.toNat) (h : TF k p r q) : TF k p r' q :=
  ⟨fun x y h1 h2 h3 h4 => (e _ (by omega) (by omega)).trans (h.1 x y h1 h2 h3 h4), fun y h1 h2 => (e _ (by omega) (by omega)).trans (h.2 y h1 h2)⟩
theorem sum_rows {p : Int} {r r' : am_F} (e : ∀ j : Int, p * 90 ≤ j → j < p * 90 + 90 → r' 1 j.toNat = r 1 j.toNat) : f_fogsum r' p = f_fogsum r p := by
  unfold f_fogsum
  exact am_fold_eq 90 (p * 90) 0 fun j y a1 a2 => by rw [e j a1 (by omega)]
/-- up to row m the class's run is the one from nothing -/
def CnR (h r : am_F) (m : Int) : Prop := ∀ p : Nat, (p : Int) ≤ m → ∀ j : Int, (p : Int) * 90 ≤ j → j < (p : Int) * 90 + 90 → r 1 j.toNat = ti_can h p 1 j.toNat
theorem CnR_of {h c r : am_F} {k : Int} (hC : HC h c) (hTb : TLb h c) (hFs : TFs h c) (hz : FzI h) (hd : c 0 58 = -1 ∧ c 0 61 = -1) (hR : RunAt True h c (fun _ => True) 0 k r) : CnR h r k := fun p hp => by
  have hk := hR.1
  have h1 := (ti_canRun hC hTb hFs hz hd.2 p (by omega) (Or.inl hd.1)).1
  have a1 := (RunAt_read (q := fun _ _ => 0) hC.1.1 hC.2.2.1 hR trivial (p := p) (by omega)).1.1
  have a2 := (RunAt_read (q := fun _ _ => 0) hC.1.1 hC.2.2.1 h1 trivial (p := p) (by omega)).1.1
  exact (ti_fogsum_eq a1 a2 (by omega)).1
theorem f_duelT_1 {hb : Nat} {r r2 : am_F} {s x0 y0 : Int} (hs : 0 ≤ s ∧ s < 40) (hx : 0 ≤ x0 ∧ x0 < 9) (hy : 0 ≤ y0 ∧ y0 < 9) : f_duelT hb r r2 s (x0 + 10 * y0) 0 1 = s + 1 ∧ f_duelT hb r r2 s (x0 + 10 * y0) 0 3 = 0 ∧ f_duelT hb r r2 s (x0 + 10 * y0) 0 4 = -1 ∧ (∀ j : Int, (s + 1) * 90 ≤ j → j < (s + 1) * 90 + 90 → f_duelT hb r r2 s (x0 + 10 * y0) 1 j.toNat = if j = (s + 1) * 90 + (x0 + 10 * y0) then 0 else r2 1 j.toNat) ∧ f_duelT hb r r2 s (x0 + 10 * y0) 2 (s + 1).toNat = f_fogsum (f_duelT hb r r2 s (x0 + 10 * y0)) (s + 1) ∧ ∀ k, 3 ≤ k → f_duelT hb r r2 s (x0 + 10 * y0) k = r k := by
  have e : f_duel r r2 s (x0 + 10 * y0) = f_addUp (f_duel1 r r2 s (x0 + 10 * y0)) (s + 1) := if_pos ⟨hs, by omega, by omega⟩
  have er : f_duelT hb r r2 s (x0 + 10 * y0) 1 = f_duel1 r r2 s (x0 + 10 * y0) 1 := by
    unfold f_duelT
    rw [am_put_kr (by decide), e]
    exact am_put_kr (by decide)
  refine ⟨?_, ?_, ?_, fun j a1 a2 => ?_, ?_, fun k hk => ?_⟩
  · unfold f_duelT; rw [e]; rfl
  · unfold f_duelT; rw [e]; rfl
  · unfold f_duelT; rw [e]; rfl
  · rw [er]
    unfold f_duel1
    rw [am_put_kr (by decide)]
    by_cases g : j = (s + 1) * 90 + (x0 + 10 * y0)
    · rw [if_pos g, g, am_put_s]
    · rw [if_neg g, am_put_i (by omega), ti_row_s]
      unfold am_cpy
      rw [if_pos (by omega)]
      congr 1
      omega
  · have e2 : f_duelT hb r r2 s (x0 + 10 * y0) 2 (s + 1).toNat = f_fogsum (f_duel1 r r2 s (x0 + 10 * y0)) (s + 1) := by
      unfold f_duelT
      rw [am_put_k (by decide), e]
      exact am_put_s
    rw [e2]
    unfold f_fogsum
    rw [er]
  · unfold f_duelT
    rw [am_put_kr (by omega), e]
    unfold f_addUp f_duel1 f_duel0
    rw [am_put_kr (by omega), am_put_kr (by omega), am_put_kr (by omega), ti_row_k (by omega), am_put_kr (by omega), am_put_kr (by omega)]
theorem ti_trial {h c r tt : am_F} {hb : Nat} {s x0 y0 : Int} (hC : HC h c) (hTb : TLb h c) (hFs : TFs h c) (hz : FzI h) (hd : c 0 58 = -1 ∧ c 0 61 = -1) (hn : CnR h r (s + 1)) (hF : RnF r) (ht : TrI tt) (hs : 0 ≤ s ∧ s < 40) (hx : 0 ≤ x0 ∧ x0 < h 0 0) (hy : 0 ≤ y0 ∧ y0 < h 0 1) : RunAt False h (ti_dc c s (x0 + 9 * y0)) (fun _ => True) (s + 1) (s + 1) (f_duelT hb tt r s (x0 + 10 * y0)) ∧ OutZ h (s + 1) (f_duelT hb tt r s (x0 + 10 * y0)) ∧ RnZ (f_duelT hb tt r s (x0 + 10 * y0)) := by
  obtain ⟨hC', hTb', hFs'⟩ := ti_dcC (t := s) (w := x0 + 9 * y0) hC hTb hFs
  obtain ⟨v1, v2, v3, v4, -⟩ := id hC.1.1.1
  have R1 := ti_canRun hC hTb hFs hz hd.2 (s.toNat + 1) (by omega) (Or.inl hd.1)
  have R' := ti_canRun hC' hTb' hFs' hz (by show c 0 61 = -1; exact hd.2) s.toNat (by omega) (Or.inr (by show (s.toNat : Int) ≤ s; omega))
  obtain ⟨d1, d3, d4, dr, ds, dk⟩ := f_duelT_1 (hb := hb) (r := tt) (r2 := r) hs (x0 := x0) (y0 := y0) ⟨hx.1, by omega⟩ ⟨hy.1, by omega⟩
  have es : ((s.toNat : Nat) : Int) = s := by omega
  rw [es] at R'
  have e1 : (s + 1).toNat = s.toNat + 1 := by omega
  have hpre : ∀ q, ∃ X, f_goOn h (ti_can h s.toNat) s = f_addUp X (s + 1) ∧ FgB X 99 ∧ TF 265 (s + 1) X (ti_q7 (ti_dc c s (x0 + 9 * y0)) (ti_G (ti_dc c s (x0 + 9 * y0)) s.toNat q) s) := fun q => by
    obtain ⟨⟨g1, g2, g3⟩, gg⟩ := R'.1.2.2.2.2.2.2 q trivial
    exact ti_pre (b := True) hC'.1.1 R'.1.2.2.1 R'.1.2.2.2.1 R'.1.2.2.2.2.2.1 hC'.2.2.1 R'.1.2.2.2.2.1 g2 hs g1 g3
  have hrow : ∀ X, f_goOn h (ti_can h s.toNat) s = f_addUp X (s + 1) → ∀ j : Int, (s + 1) * 90 ≤ j → j < (s + 1) * 90 + 90 → f_duelT hb tt r s (x0 + 10 * y0) 1 j.toNat = am_put X 1 ((s + 1) * 90 + (x0 + 10 * y0)).toNat 0 1 j.toNat := fun X hX j a1 a2 => by
    rw [dr j a1 a2]
    by_cases g : j = (s + 1) * 90 + (x0 + 10 * y0)
    · rw [if_pos g, g, am_put_s]
    · rw [if_neg g, am_put_i (by omega), hn (s.toNat + 1) (by omega) j (by omega) (by omega)]
      have e9 : ti_can h (s.toNat + 1) 1 = X 1 := by
        show am_put (f_goOn h (ti_can h s.toNat) (s.toNat : Int)) 0 1 _ 1 = _
        rw [am_put_kr (by decide), es, hX]
        exact am_put_kr (by decide)
      rw [e9]
  have hF9 : RnF (f_duelT hb tt r s (x0 + 10 * y0)) := (f_duel_I (hb := hb) ht.1 hF hs).2.1
  have hn9 := hC'.2.2.2.1
  refine ⟨⟨⟨by omega, by omega, by omega⟩, d1, hF9, ⟨by rw [d4]; omega, Or.inl d4⟩, ⟨hTb', Or.inl ⟨d4, by rw [hn9.2.1, hn9.2.2]⟩⟩, ds, fun q _ => ?_⟩, ?_, ?_⟩
  · obtain ⟨X, x1, x2, x3⟩ := hpre q
    obtain ⟨w1, w2, w3⟩ := ti_stepDuel (x0 := x0) (y0 := y0) hs x2 x3 rfl rfl ⟨hx.1, by omega⟩ ⟨hy.1, by omega⟩
    have hr := hrow X x1
    rw [e1, ti_Gs, es]
    refine ⟨⟨TF_rows (by omega) hr w1, Or.inl ⟨hd.2, by rw [d3]; exact Int.le_refl _⟩, fun hb => hb.elim⟩, fun p a1 a2 => ⟨?_, fun hb => hb.elim⟩⟩
    have ep : p = s + 1 := by omega
    subst ep
    refine ⟨TF_rows (by omega) hr w2, ?_⟩
    rw [ds, w3, sum_rows hr]
  · intro x y a1 a2 a3 a4 a5
    rw [dr _ (by omega) (by omega), if_neg (by omega), hn (s.toNat + 1) (by omega) _ (by omega) (by omega)]
    have := R1.2 x y a1 a2 a3 a4 a5
    rwa [show ((s.toNat + 1 : Nat) : Int) * 90 = (s + 1) * 90 by omega] at this
  · unfold RnZ
    rw [dk 3 (by decide), dk 4 (by decide), dk 5 (by decide), dk 7 (by decide)]
    exact ht.2
/-- a run that stands as the one from nothing goes on as that -/
theorem ti_onto {h c r : am_F} {s w k0 : Int} {k : Nat} (hC : HC h c) (hTb : TLb h c) (hFs : TFs h c) (hz : FzI h) (hd : c 0 58 = -1 ∧ c 0 61 = -1) (hs : 0 ≤ s) (hk : s < k) (hR : RunAt False h (ti_dc c s w) (fun _ => True) k0 k r) (e : ∀ j : Int, (k : Int) * 90 ≤ j → j < (k : Int) * 90 + 90 → ti_can h k 1 j.toNat = r 1 j.toNat) : ∀ n : Nat, k + n ≤ 40 → RunAt False h (ti_dc c s w) (fun _ => True) k ((k + n : Nat) : Int) (ti_can h (k + n)) := by
  obtain ⟨hC', hTb', hFs'⟩ := ti_dcC (t := s) (w := w) hC hTb hFs
  have hk9 := hR.1
  have R1 := (ti_canRun hC hTb hFs hz hd.2 k (by omega) (Or.inl hd.1)).1
  intro n
  induction n with
  | zero =>
    intro _
    obtain ⟨n1, g1, gF, gM, gL, gs, gq⟩ := R1
    refine ⟨⟨by omega, by show (k : Int) ≤ k; omega, by show (k : Int) ≤ 40; omega⟩, g1, gF, gM, ⟨hTb', ?_⟩, gs, fun q _ => ⟨⟨TF_rows (by omega) e (hR.2.2.2.2.2.2 q trivial).1.1, ?_, fun hb => hb.elim⟩, fun p a1 a2 => ⟨?_, fun hb => hb.elim⟩⟩⟩
    · rcases gL.2 with b | ⟨b1, b2, -⟩
      · exact Or.inl b
      · exfalso
        have := hC.2.2.2.1
        unfold TN at this
        omega
    · rcases (gq q trivial).1.2.1 with b | b
      · exact Or.inl b
      · exact absurd hd.2 b.1
    · have ep : p = (k : Int) := by have : p ≤ ((k : Nat) : Int) := a2; omega
      subst ep
      obtain ⟨t1, t2⟩ := ((hR.2.2.2.2.2.2 q trivial).2 k (by omega) (by omega)).1
      refine ⟨TF_rows (by omega) e t1, ?_⟩
      show ti_can h k 2 (k : Int).toNat = _
      rw [gs, sum_rows e, ← hR.2.2.2.2.2.1]
      exact t2
  | succ n ih =>
    intro h9
    have := RunAt_step hC'.1.1 hC'.2.2.1 (ih (by omega)) (by omega) (by show ((k + n : Nat) : Int) ≠ s; omega)
    rw [show ((k + n : Nat) : Int) + 1 = ((k + (n + 1) : Nat) : Int) by omega] at this
    rw [show ti_can h (k + (n + 1)) = am_put (f_goOn h (ti_can h (k + n)) ((k + n : Nat) : Int)) 0 1 (((k + n : Nat) : Int) + 1) from rfl, show ((k + n : Nat) : Int) + 1 = ((k + (n + 1) : Nat) : Int) by omega]
    exact this
def SameAt (c c' : am_F) (p : Int) : Prop := ∀ q x y : _, (0 ≤ x ∧ x < 9) → (0 ≤ y ∧ y < 9) → k_goes c' q (159 + p.toNat) (x + 9 * y : Int).toNat = k_goes c (fun _ _ => 0) (159 + p.toNat) (x + 9 * y).toNat
theorem Same_of {b b' : Prop} {h c c' r : am_F} {k0 k k0' k' p : Int} (hC : HC h c) (hC' : HC h c') (hR : RunAt b h c (fun _ => True) k0 k r) (hR' : RunAt b' h c' (fun _ => True) k0' k' r) (hp : k0 ≤ p ∧ p ≤ k) (hp' : k0' ≤ p ∧ p ≤ k') : SameAt c c' p := fun q x y hx hy => by
  have a1 := (RunAt_read (q := fun _ _ => 0) hC.1.1 hC.2.2.1 hR trivial hp).1.1.1 x y hx.1 hx.2 hy.1 hy.2
  have a2 := (RunAt_read (q := q) hC'.1.1 hC'.2.2.1 hR' trivial hp').1.1.1 x y hx.1 hx.2 hy.1 hy.2
  rw [← a1, ← a2]
theorem ti_duelBefore {h c : am_F} {s w p : Int} (hC : HC h c) (hTb : TLb h c) (hFs : TFs h c) (hz : FzI h) (hd : c 0 58 = -1 ∧ c 0 61 = -1) (hs : 0 ≤ s ∧ s < 40) (hp : 0 ≤ p ∧ p ≤ s) : SameAt c (ti_dc c s w) p := by
  obtain ⟨hC', hTb', hFs'⟩ := ti_dcC (t := s) (w := w) hC hTb hFs
  exact Same_of hC hC' (ti_canRun hC hTb hFs hz hd.2 s.toNat (by omega) (Or.inl hd.1)).1 (ti_canRun hC' hTb' hFs' hz (by show c 0 61 = -1; exact hd.2) s.toNat (by omega) (Or.inr (by show (s.toNat : Int) ≤ s; omega))).1 (by omega) (by omega)
theorem ti_duelAfter {h c r : am_F} {s w k0 p : Int} {k : Nat} (hC : HC h c) (hTb : TLb h c) (hFs : TFs h c) (hz : FzI h) (hd : c 0 58 = -1 ∧ c 0 61 = -1) (hs : 0 ≤ s) (hk : s < k) (hR : RunAt False h (ti_dc c s w) (fun _ => True) k0 k r) (e : ∀ j : Int, (k : Int) * 90 ≤ j → j < (k : Int) * 90 + 90 → ti_can h k 1 j.toNat = r 1 j.toNat) (hp : (k : Int) ≤ p ∧ p ≤ 40) : SameAt c (ti_dc c s w) p := by
  obtain ⟨hC', hTb', hFs'⟩ := ti_dcC (t := s) (w := w) hC hTb hFs
  have hk9 := hR.1
  have h9 := ti_onto hC hTb hFs hz hd hs hk hR e (40 - k) (by omega)
  rw [show k + (40 - k) = 40 by omega] at h9
  exact Same_of hC hC' (ti_canRun hC hTb hFs hz hd.2 40 (by omega) (Or.inl hd.1)).1 h9 (by omega) (by omega)
