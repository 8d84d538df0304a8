/-! THE TIE: the loop by rule -/
theorem RU_q {c u0 q0 q q' : am_F} {k t th left dn : Int} {x : Int × am_F × am_F} (h : RU c u0 q0 k t th x (left, dn, q)) (hq : K728 q q') : RU c u0 q0 k t th x (left, dn, q') := by
  obtain ⟨r1, r2, r3, r6, r7⟩ := h
  refine ⟨r1, r2, r3, fun i a1 a2 => ?_, fun j j1 j2 j3 => ?_⟩
  · dsimp only
    rw [hq 732 (by decide), hq 733 (by decide)]
    exact r6 i a1 a2
  · dsimp only
    rw [hq j j1]
    exact r7 j j1 j2 j3
theorem ti_ruleLoop {c u0 q0 b : am_F} {k t th : Int} (hb : BC b c) (hU : RuC u0 c) (h12 : 0 ≤ c 0 30 ∧ c 0 30 ≤ 12) : ∀ (n : Nat) (i : Int) (uu aa : am_F) (y : Int × Int × am_F) (F : Nat), i + n = 12 → 0 ≤ i → ti_cnt aa 12 ≤ n → n + 1 ≤ F → RU c u0 q0 k t th (i, uu, aa) y → RU c u0 q0 k t th (am_wh (w_c_sellByRule_92 b) (n + 1) (i, uu, aa)) (am_wh (w_k_rules_47 c k t th) F y) := by
  intro n
  induction n with
  | zero =>
    intro i uu aa y F a1 a2 a3 a4 hR
    obtain ⟨left, dn, q⟩ := y
    have w1 : w_c_sellByRule_92 b (i, uu, aa) = .inr (i, uu, aa) := if_pos (by omega)
    rw [am_wh_r w1]
    obtain ⟨s1, s2⟩ := ti_selA (A := aa) (dn := dn) h12 hR.2.2.1.1 hR.2.2.1.2.1 hR.2.2.1.2.2
    have hz : f_nextUp aa = -1 := by
      rcases s2 with e | e
      · exact e
      · exact absurd (ti_cnt_0 12 (by omega) (f_nextUp aa).toNat (by omega)) e.2
    obtain ⟨g1, g2⟩ := ti_selQ (q0 := q) (k := k) (t := t) (th := th) (dn := dn) hU h12.2
    obtain ⟨F, rfl⟩ : ∃ F', F = F' + 1 := ⟨F - 1, by omega⟩
    have w2 : w_k_rules_47 c k t th (left, dn, q) = .inr (left, dn, (am_fold (g_k_rules_53 c k t dn th) 0 (c 0 30).toNat (-1, q)).2) := if_pos (g1.trans (s1.symm.trans hz))
    rw [am_wh_r w2]
    exact RU_q hR g2
  | succ n ih =>
    intro i uu aa y F a1 a2 a3 a4 hR
    obtain ⟨left, dn, q⟩ := y
    obtain ⟨s1, s2⟩ := ti_selA (A := aa) (dn := dn) h12 hR.2.2.1.1 hR.2.2.1.2.1 hR.2.2.1.2.2
    obtain ⟨g1, g2⟩ := ti_selQ (q0 := q) (k := k) (t := t) (th := th) (dn := dn) hU h12.2
    obtain ⟨F, rfl⟩ : ∃ F', F = F' + 1 := ⟨F - 1, by omega⟩
    by_cases hz : f_nextUp aa = -1
    · have w1 : w_c_sellByRule_92 b (i, uu, aa) = .inr (i, uu, aa) := (if_neg (by omega)).trans (if_pos hz)
      rw [am_wh_r w1]
      have w2 : w_k_rules_47 c k t th (left, dn, q) = .inr (left, dn, (am_fold (g_k_rules_53 c k t dn th) 0 (c 0 30).toNat (-1, q)).2) := if_pos (g1.trans (s1.symm.trans hz))
      rw [am_wh_r w2]
      exact RU_q hR g2
    · have hn := s2.resolve_left hz
      have hk := ((hR.2.2.1.1 _ hn.1.1 hn.1.2).1 hn.2).2.1
      have w1 : w_c_sellByRule_92 b (i, uu, aa) = .inl (i + 1, c_serve uu (f_look (am_put aa 5 (f_nextUp aa).toNat 0) (b 0 2) (b 1) (f_nextUp aa)) (f_nextUp aa)) := (if_neg (by omega)).trans (if_neg hz)
      rw [am_wh_l w1]
      have h9 := ti_serve hb hU h12 ⟨hn.1, hk⟩ hR g2 rfl rfl rfl rfl (i + 1)
      rw [← s1] at g1
      have w2 := show w_k_rules_47 c k t th (left, dn, q) = _ from if_neg (show ¬ (am_fold (g_k_rules_53 c k t dn th) 0 (c 0 30).toNat (-1, q)).1 = -1 by rw [g1]; exact hz)
      rw [am_wh_l w2]
      dsimp only
      rw [g1]
      have e9 : ∀ (X V : Int) (Q : am_F), am_put (am_put Q 732 (f_nextUp aa).toNat X) 733 (f_nextUp aa).toNat V 732 (f_nextUp aa).toNat = X := fun X V Q => (am_put_k (by decide)).trans am_put_s
      rw [e9]
      have hc : ti_cnt (c_serve uu (f_look (am_put aa 5 (f_nextUp aa).toNat 0) (b 0 2) (b 1) (f_nextUp aa)) (f_nextUp aa)).2 12 ≤ n := by
        have e5 : ∀ m, (c_serve uu (f_look (am_put aa 5 (f_nextUp aa).toNat 0) (b 0 2) (b 1) (f_nextUp aa)) (f_nextUp aa)).2 5 m = am_put aa 5 (f_nextUp aa).toNat 0 5 m := fun m => by
          unfold c_serve f_look
          dsimp only
          rw [am_put_k (by decide), am_put_k (by decide), am_put_k (by decide), am_put_k (by decide), am_put_k (by decide), am_put_k (by decide)]
        have hd := ti_cnt_dec (Q := aa) (Q' := (c_serve uu (f_look (am_put aa 5 (f_nextUp aa).toNat 0) (b 0 2) (b 1) (f_nextUp aa)) (f_nextUp aa)).2) hn.2 (by rw [e5]; exact am_put_s) (fun m hm => by rw [e5, am_put_i hm]) 12 (by omega)
        omega
      exact ih (i + 1) _ _ _ F (by omega) (by omega) hc (by omega) h9
