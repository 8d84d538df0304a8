/-! THE LAW: port and rule keep what stands -/
section RS3
variable {hb sp rb rs : Nat} {ee hh ss uu vv rr tt gg aa dd bd ga im c q pp kk : am_F}
theorem rs_portX (h : REL hb sp rb rs ee hh ss uu vv rr tt gg dd bd ga im c q) (n : Int) (hN : ¬ n_range n 0 (ee 0 7) = 0) : CMP 3 (n_range n 0 (ee 0 7)) 0 (k_port c q n).1 (k_port c q n).2.2 ∧ REL hb sp rb rs (n_ref ee (n_range n 0 (ee 0 7))) hh ss uu vv rr tt gg dd bd ga im (k_port c q n).2.1 (k_port c q n).2.2 := by
  obtain ⟨t1, t2⟩ := to_portX (q := q) hN h.xtp h.xre
  refine ⟨TO_C t1, ?_⟩
  rw [t2]
  exact h.ask0 (TO_E t1)
theorem rs_portF (h : REL hb sp rb rs ee hh ss uu vv rr tt gg dd bd ga im c q) (n : Int) (hN : n_range n 0 (ee 0 7) = 0) (hF : (c_readInto (am_put ee 0 7 0) ss (c_begin pp n)).2 0 4 ≠ 0) : CMP 3 0 (c_portF ee ss pp n).1 (k_port c q n).1 (k_port c q n).2.2 ∧ REL hb sp rb rs (c_portF ee ss pp n).2.1 hh (c_portF ee ss pp n).2.2.1 uu vv rr tt gg dd bd ga im (k_port c q n).2.1 (k_port c q n).2.2 := by
  obtain ⟨t1, t2, t3, ⟨t4, t5, t6⟩, t7⟩ := to_portF (q := q) hN h.xtp h.xti h.2.2.2.2.2.2.2.2.2.1 hF
  refine ⟨Or.inl ⟨rfl, by rw [t2, am_put_s], t1⟩, ?_⟩
  rw [t2]
  have hV := h.xv
  have hi := h.xi32
  obtain ⟨g1, g2, ⟨g3, g4, g5, g6⟩, ⟨r1, r2, r3, r4, r5, r6⟩, g8, ⟨u1, u2, u3, u4, u5, u6⟩⟩ := h
  have hP := Port_read t3 g3
  generalize (k_port c q n).2.1 = c' at *
  generalize (c_portF ee ss pp n).2.1 = e' at *
  obtain ⟨l1, l2⟩ := t3
  have lk : ∀ m, m ≠ 0 → (m = 4 ∨ (21 ≤ m ∧ m ≤ 32) ∨ 127 ≤ m) → c' m = c m := fun m m0 m1 => l1 m m0 (by unfold rdw; omega)
  have e1 : e' 1 = ee 1 := funext fun j => t6 1 j (by omega)
  have e17 : e' 0 17 = ee 0 17 := t6 0 17 (by omega)
  have e32 : c' 0 32 = c 0 32 := l2 32 (by omega) (by decide) (by decide)
  obtain ⟨k1, k2⟩ := RuC_c (c' := c') (fun m a b => lk m (by omega) (by omega)) (fun m a b => lk m (by omega) (by omega)) (l2 46 (by omega) (by decide) (by decide)) u1 u2
  refine ⟨g1, g2, ⟨hP, MdWd_c hV (lk 4 (by decide) (by decide)) (fun m a b => lk m (by omega) (by omega)) g4, g5, g6⟩, ⟨fun j hj => ?_, t5, ?_, t4, ?_, ?_⟩, RL3_c hV g8 (lk 4 (by decide) (by decide)) (l2 30 (by omega) (by decide) (by decide)) (l2 31 (by omega) (by decide) (by decide)) e32 (by omega) (fun m a b => lk m (by omega) (by omega)), k1, k2, u3, u4, t7, u6⟩
  · rw [t6 2 j (by omega), am_put_k (by decide)]
    exact r1 j hj
  · unfold TpI
    rw [e1]
    exact r3
  · rw [e17]
    exact r5
  · rw [e17, e32]
    exact r6
theorem rs_portOK (h : REL hb sp rb rs ee hh ss uu vv rr tt gg dd bd ga im c q) (n : Int) (hN : n_range n 0 (ee 0 7) = 0) (hF : (c_readInto (am_put ee 0 7 0) ss (c_begin pp n)).2 0 4 = 0) : CMP 3 0 (c_portOK ee hh ss uu pp rr dd bd ga n).1 (k_port c q n).1 (k_port c q n).2.2 ∧ REL sp hb rb rs (c_portOK ee hh ss uu pp rr dd bd ga n).2.1 (c_portOK ee hh ss uu pp rr dd bd ga n).2.2.1 (c_portOK ee hh ss uu pp rr dd bd ga n).2.2.2.1 (c_portOK ee hh ss uu pp rr dd bd ga n).2.2.2.2.1 vv (c_portOK ee hh ss uu pp rr dd bd ga n).2.2.2.2.2.2.1 tt gg (c_portOK ee hh ss uu pp rr dd bd ga n).2.2.2.2.2.2.2.1 (c_portOK ee hh ss uu pp rr dd bd ga n).2.2.2.2.2.2.2.2.1 (c_portOK ee hh ss uu pp rr dd bd ga n).2.2.2.2.2.2.2.2.2 im (k_port c q n).2.1 (k_port c q n).2.2 := by
  obtain ⟨t1, t2, t3, ⟨t4, t4b⟩, t5, ⟨t6, t7, ⟨t8, t9⟩, t10⟩, ⟨t11, t12, t13, t14⟩, t15, t16, t17⟩ := to_portOK (uu := uu) (dd := dd) (q := q) hN h.xtp h.xti h.2.2.2.2.2.2.2.2.2.1 h.xd h.xri.2.1 (BaseI_I h.xb).2 h.xbc.1.1 h.xgc.1.1 hF
  refine ⟨Or.inl ⟨rfl, by rw [t2, am_put_s], t1⟩, ?_⟩
  rw [t2]
  have hSp : SpI hh := ⟨h.xc.1, h.2.2.1.2.2.2⟩
  obtain ⟨g1, g2, ⟨g3, g4, g5, g6⟩, ⟨r1, r2, r3, r4, r5, r6⟩, ⟨g8, g9, g10, g11, g12, g13⟩, ⟨u1, u2, u3, u4, u5, u6⟩⟩ := h
  rw [t4b]
  generalize (c_portOK ee hh ss uu pp rr dd bd ga n).2.2.2.2.1 = u' at *
  generalize (k_port c q n).2.1 = c' at *
  generalize (c_portOK ee hh ss uu pp rr dd bd ga n).2.1 = e' at *
  have e1 : e' 1 = ee 1 := funext fun j => t10 1 j (by omega)
  refine ⟨by omega, g2, ⟨t3, t5, g5, t4.2⟩, ⟨fun j hj => ?_, t7, ?_, t6, ?_, ?_⟩, ⟨t16, t17, Or.inl t15, g11, ?_, ?_⟩, ⟨⟨by rw [t12, t14], by rw [t14]; decide, by rw [t14]; decide⟩, fun p a b => ?_⟩, fun p a b => ?_, ?_, u4, hSp, u6⟩
  · rw [t10 2 j (by omega), am_put_k (by decide)]
    exact r1 j hj
  · unfold TpI
    rw [e1]
    exact r3
  · rw [t8]
    decide
  · rw [t8, t9]
  · rw [t9]
    exact fun i hi => absurd hi (by omega)
  · rw [t9]
    exact fun i hi => absurd hi (by omega)
  · rw [t14] at b
    omega
  · rw [t14] at b
    omega
  · unfold RvI RuI RuE at u3 ⊢
    rw [t11 3 (by decide), t12, t13]
    exact ⟨⟨u3.1.1, by decide⟩, by decide, by decide⟩
theorem rs_ruleX (h : REL hb sp rb rs ee hh ss uu vv rr tt gg dd bd ga im c q) (n : Int) (hN : ¬ n_range n 0 (if 200 < ee 0 7 then 200 else ee 0 7) = 0) : CMP 3 (n_range n 0 (if 200 < ee 0 7 then 200 else ee 0 7)) 0 (k_rule c q n).1 (k_rule c q n).2.2 ∧ REL hb sp rb rs (n_ref ee (n_range n 0 (if 200 < ee 0 7 then 200 else ee 0 7))) hh ss uu vv rr tt gg dd bd ga im (k_rule c q n).2.1 (k_rule c q n).2.2 := by
  obtain ⟨t1, t2⟩ := to_ruleX (q := q) hN h.xtp h.xre
  refine ⟨TO_C t1, ?_⟩
  rw [t2]
  exact h.ask0 (TO_E t1)
/-- a rule's text has been read -/
theorem rule_keep {uu' vv' ee' c' : am_F} (h : REL hb sp rb rs ee hh ss uu vv rr tt gg dd bd ga im c q) (t3 : KRu c c') (t4 : ee' 0 8 = c' 0 3) (t5 : TP ee' c') (t6 : ∀ k j, ¬ (k = 0 ∧ (j = 7 ∨ j = 8)) → ee' k j = ee k j) (k1 : RuC uu' c') (k2 : RB c') (k3 : RvI uu') (k4 : RvI vv') (rb' rs' : Nat) (hr : rb' = 41 ∧ rs' = 46 ∨ rb' = 46 ∧ rs' = 41) : REL hb sp rb' rs' ee' hh ss uu' vv' rr tt gg dd bd ga im c' (am_put q 0 0 0) := by
  have hV := h.xv
  have hi := h.xi32
  obtain ⟨g1, -, ⟨g3, g4, g5, g6⟩, ⟨r1, r2, r3, r4, r5, r6⟩, g8, ⟨u1, u2, u3, u4, u5, u6⟩⟩ := h
  have hP := Port_rule t3 g3
  obtain ⟨l1, l2⟩ := t3
  have e1 : ee' 1 = ee 1 := funext fun j => t6 1 j (by omega)
  have e17 : ee' 0 17 = ee 0 17 := t6 0 17 (by omega)
  have e32 : c' 0 32 = c 0 32 := l2 32 (by omega) (by omega)
  refine ⟨g1, hr, ⟨hP, MdWd_c hV (l1 4 (by decide) (by decide)) (fun m a b => l1 m (by omega) (by omega)) g4, g5, g6⟩, ⟨fun j hj => ?_, t5, ?_, t4, ?_, ?_⟩, RL3_c hV g8 (l1 4 (by decide) (by decide)) (l2 30 (by omega) (by omega)) (l2 31 (by omega) (by omega)) e32 (by omega) (fun m a b => l1 m (by omega) (by omega)), k1, k2, k3, k4, u5, u6⟩
  · rw [t6 2 j (by omega), am_put_k (by decide)]
    exact r1 j hj
  · unfold TpI
    rw [e1]
    exact r3
  · rw [e17]
    exact r5
  · rw [e17, e32]
    exact r6
theorem rs_ruleF (h : REL hb sp rb rs ee hh ss uu vv rr tt gg dd bd ga im c q) (n : Int) (hN : n_range n 0 (if 200 < ee 0 7 then 200 else ee 0 7) = 0) (hF : (c_ruleInto (am_put ee 0 7 0) vv (c_begin kk n)).2 0 4 ≠ 0) : CMP 3 0 (c_ruleF ee vv kk n).1 (k_rule c q n).1 (k_rule c q n).2.2 ∧ REL hb sp rb rs (c_ruleF ee vv kk n).2.1 hh ss uu (c_ruleF ee vv kk n).2.2.1 rr tt gg dd bd ga im (k_rule c q n).2.1 (k_rule c q n).2.2 := by
  obtain ⟨t1, t2, t3, ⟨t4, t5, t6⟩, t7, t8, t9⟩ := to_ruleF (q := q) hN h.xtp h.xti h.2.2.2.2.2.2.2.2.1 hF h.xu h.xrb
  refine ⟨Or.inl ⟨rfl, by rw [t2, am_put_s], t1⟩, ?_⟩
  rw [t2]
  exact rule_keep h t3 t4 t5 t6 t8 t9 h.2.2.2.2.2.2.2.1 t7 rb rs h.xhr
theorem rs_ruleOK (h : REL hb sp rb rs ee hh ss uu vv rr tt gg dd bd ga im c q) (n : Int) (hN : n_range n 0 (if 200 < ee 0 7 then 200 else ee 0 7) = 0) (hF : (c_ruleInto (am_put ee 0 7 0) vv (c_begin kk n)).2 0 4 = 0) : CMP 3 0 (c_ruleOK ee uu vv kk n).1 (k_rule c q n).1 (k_rule c q n).2.2 ∧ REL hb sp rs rb (c_ruleOK ee uu vv kk n).2.1 hh ss (c_ruleOK ee uu vv kk n).2.2.1 (c_ruleOK ee uu vv kk n).2.2.2.1 rr tt gg dd bd ga im (k_rule c q n).2.1 (k_rule c q n).2.2 := by
  obtain ⟨t1, t2, t3, ⟨t4, t5, t6⟩, ⟨t7, t7b⟩, t8, t9⟩ := to_ruleOK (uu := uu) (q := q) hN h.xtp h.xti h.2.2.2.2.2.2.2.2.1 hF
  refine ⟨Or.inl ⟨rfl, by rw [t2, am_put_s], t1⟩, ?_⟩
  rw [t2, t7b]
  exact rule_keep h t3 t4 t5 t6 t8 t9 t7 h.2.2.2.2.2.2.2.1 rs rb (by have := h.xhr; omega)
end RS3
