/-! THE TIE: by rule: who is let, who stands first -/
def ti_Lv (c : am_F) (t th i : Int) : Int := (k_isLet c (fun _ _ => 0) i t th).1
def ti_Fv (c : am_F) (t th i : Int) : Int := (k_firstOf c (fun _ _ => 0) i t th).1
theorem ti_firstV {c u q : am_F} {f : Nat → Int} {bi t th : Int} (hU : RuC u c) (hf : FaR f c bi t th th) : (c_tells u 1 (c (133 + bi.toNat) 2) 9 f).1 = (k_firstOf c q bi t th).1 ∧ (∀ k, k ≠ 4 → (c_tells u 1 (c (133 + bi.toNat) 2) 9 f).2 k = u k) ∧ ∀ k, k ≠ 728 → (k_firstOf c q bi t th).2 k = q k := ti_tellsV hU hf
/-- some facts: what a rule's parts tell does not hang on what lies on the stacks -/
def ti_fk (c : am_F) (bi t th : Int) : Nat → Int := fun j => k_known c (ti_sw j) bi t th th
theorem ti_fkR {c : am_F} {bi t th : Int} : FaR (ti_fk c bi t th) c bi t th th := fun n h0 h1 => by
  have h9 : n = 0 ∨ n = 1 ∨ n = 2 ∨ n = 3 ∨ n = 4 ∨ n = 5 ∨ n = 6 ∨ n = 7 ∨ n = 8 := by omega
  rcases h9 with rfl | rfl | rfl | rfl | rfl | rfl | rfl | rfl | rfl <;> rfl
theorem ti_Lv_q {c u q : am_F} {t th i : Int} (hU : RuC u c) : (k_isLet c q i t th).1 = ti_Lv c t th i ∧ ∀ k, k ≠ 728 → (k_isLet c q i t th).2 k = q k := by
  obtain ⟨a1, a2, a3⟩ := ti_isLetV (q := q) hU (ti_fkR (bi := i) (t := t) (th := th))
  obtain ⟨b1, -, -⟩ := ti_isLetV (q := fun _ _ => 0) hU (ti_fkR (bi := i) (t := t) (th := th))
  exact ⟨a1.symm.trans b1, a3⟩
theorem ti_Fv_q {c u q : am_F} {t th i : Int} (hU : RuC u c) : (k_firstOf c q i t th).1 = ti_Fv c t th i ∧ ∀ k, k ≠ 728 → (k_firstOf c q i t th).2 k = q k := by
  obtain ⟨a1, a2, a3⟩ := ti_firstV (q := q) hU (ti_fkR (bi := i) (t := t) (th := th))
  obtain ⟨b1, -, -⟩ := ti_firstV (q := fun _ _ => 0) hU (ti_fkR (bi := i) (t := t) (th := th))
  exact ⟨a1.symm.trans b1, a3⟩
def K728 (q q' : am_F) : Prop := ∀ k, k ≠ 728 → q' k = q k
/-- whom the model takes next -/
def ti_sel (c : am_F) (k t th dn : Int) (i b : Int) : Int := if ti_bv dn i = false ∧ c (133 + i.toNat) 0 = k ∧ ti_Lv c t th i ≠ 0 then (if b = -1 then i else if ti_Fv c t th i ≤ ti_Fv c t th b then b else i) else b
theorem ti_selQ {c u q0 : am_F} {k t th dn : Int} (hU : RuC u c) (h12 : c 0 30 ≤ 12) : (am_fold (g_k_rules_53 c k t dn th) 0 (c 0 30).toNat (-1, q0)).1 = am_fold (ti_sel c k t th dn) 0 (c 0 30).toNat (-1) ∧ K728 q0 (am_fold (g_k_rules_53 c k t dn th) 0 (c 0 30).toNat (-1, q0)).2 := by
  refine ti_rel0 (R := fun (x : Int × am_F) (y : Int) => x.1 = y ∧ K728 q0 x.2) (f := g_k_rules_53 c k t dn th) (g := ti_sel c k t th dn) _ 0 (-1, q0) (-1) ⟨rfl, fun _ _ => rfl⟩ fun i x y a1 a2 hR => ?_
  obtain ⟨b, q⟩ := x
  obtain ⟨r1, r2⟩ := hR
  dsimp only at r1 r2
  subst r1
  obtain ⟨l1, l2⟩ := ti_Lv_q (q := q) (t := t) (th := th) (i := i) hU
  obtain ⟨f1, f2⟩ := ti_Fv_q (q := (k_isLet c q i t th).2) (t := t) (th := th) (i := i) hU
  obtain ⟨g1, g2⟩ := ti_Fv_q (q := (k_firstOf c (k_isLet c q i t th).2 i t th).2) (t := t) (th := th) (i := b) hU
  have hb := ti_bit (x := dn) (i := i) ⟨a1, by omega⟩
  unfold g_k_rules_53 ti_sel
  dsimp only
  rw [l1, f1, g1]
  by_cases p1 : ti_bv dn i = false
  · rw [if_pos (hb.2 p1), if_pos (hb.2 p1)]
    by_cases p2 : c (133 + i.toNat) 0 = k
    · rw [if_pos p2, if_pos p2]
      by_cases p3 : ti_Lv c t th i = 0
      · rw [if_pos p3, if_pos p3, if_neg (fun h => h.2.2 p3)]
        exact ⟨rfl, fun j hj => (l2 j hj).trans (r2 j hj)⟩
      · rw [if_neg p3, if_neg p3, if_pos (show ti_bv dn i = false ∧ c (133 + i.toNat) 0 = k ∧ ti_Lv c t th i ≠ 0 from ⟨p1, p2, p3⟩)]
        refine ⟨rfl, ?_⟩
        split
        · exact fun j hj => (l2 j hj).trans (r2 j hj)
        · exact fun j hj => ((g2 j hj).trans (f2 j hj)).trans ((l2 j hj).trans (r2 j hj))
    · rw [if_neg p2, if_neg p2, if_neg (fun h => p2 h.2.1)]
      exact ⟨rfl, r2⟩
  · have hb' : ¬ am_iand (am_ishr dn i) 1 = 0 := fun h => p1 (hb.1 h)
    rw [if_neg hb', if_neg hb', if_neg (fun h => p1 h.1)]
    exact ⟨rfl, r2⟩
/-- whom the class takes next -/
theorem ti_selA {c A : am_F} {k t th dn : Int} (h12 : 0 ≤ c 0 30 ∧ c 0 30 ≤ 12) (h5 : ∀ i : Int, 0 ≤ i → i < c 0 30 → (A 5 i.toNat ≠ 0 ↔ ti_bv dn i = false ∧ c (133 + i.toNat) 0 = k ∧ ti_Lv c t th i ≠ 0)) (h2 : ∀ i : Int, 0 ≤ i → i < c 0 30 → A 5 i.toNat ≠ 0 → A 2 i.toNat = ti_Fv c t th i) (h0 : ∀ i : Int, c 0 30 ≤ i → i < 12 → A 5 i.toNat = 0) : f_nextUp A = am_fold (ti_sel c k t th dn) 0 (c 0 30).toNat (-1) ∧ (f_nextUp A = -1 ∨ (0 ≤ f_nextUp A ∧ f_nextUp A < c 0 30) ∧ A 5 (f_nextUp A).toNat ≠ 0) := by
  rw [ti_next h12 h0]
  have h9 := ti_rel0 (R := fun (x y : Int) => x = y ∧ (x = -1 ∨ (0 ≤ x ∧ x < c 0 30) ∧ A 5 x.toNat ≠ 0)) (f := g_nextUp A) (g := ti_sel c k t th dn) (c 0 30).toNat 0 (-1) (-1) ⟨rfl, Or.inl rfl⟩ fun i x y a1 a2 hR => by
    obtain ⟨r1, r2⟩ := hR
    subst r1
    have hi := h5 i a1 (by omega)
    unfold g_nextUp ti_sel
    by_cases p1 : A 5 i.toNat ≠ 0
    · have e2 := h2 i a1 (by omega) p1
      rw [if_pos (hi.1 p1)]
      by_cases p2 : x = -1
      · rw [if_pos ⟨p1, Or.inl p2⟩, if_pos p2]
        exact ⟨rfl, Or.inr ⟨⟨a1, by omega⟩, p1⟩⟩
      · have r3 := r2.resolve_left p2
        have e3 := h2 x r3.1.1 r3.1.2 r3.2
        rw [if_neg p2, e2, e3]
        by_cases p3 : ti_Fv c t th i ≤ ti_Fv c t th x
        · rw [if_pos p3, if_neg (by omega)]
          exact ⟨rfl, r2⟩
        · rw [if_neg p3, if_pos ⟨p1, Or.inr (by omega)⟩]
          exact ⟨rfl, Or.inr ⟨⟨a1, by omega⟩, p1⟩⟩
    · rw [if_neg (fun h => p1 h.1), if_neg (fun h => p1 (hi.2 h))]
      exact ⟨rfl, r2⟩
  exact h9
