/-! THE LAW: what tells and reads keeps what stands -/
section RS2
variable {hb sp rb rs : Nat} {ee hh ss uu vv rr tt gg aa dd bd ga im c q : am_F}
theorem way_E {fr to s lt : Int} (hC : HC hh c) (hB : BaseI hh c rr) (h0 : EyB gg 0) (h1 : EyB gg 1) : EyB (c_way ee hh rr gg fr to s lt).2.2.2.2 0 ∧ EyB (c_way ee hh rr gg fr to s lt).2.2.2.2 1 := by
  unfold c_way
  by_cases g1 : n_code hh fr = 0
  · rw [if_pos g1]
    by_cases g2 : n_code hh to = 0
    · rw [if_pos g2]
      by_cases g3 : n_step s = 0
      · rw [if_pos g3]
        dsimp only
        rcases ti_stp s with ⟨-, -, b1, b2⟩ | ⟨a, -, -⟩
        · rcases ti_rng lt 0 (if 39 - s < 12 then 39 - s else 12) with ⟨a2, -, b3, b4⟩ | ⟨a2, -, -⟩
          · rw [if_pos a2]
            have hl : s + lt < 40 := by split at b4 <;> omega
            exact f_cheapB (Base_F hC.1.1 hC.2.2.1 hB (by omega)) hC.1.1.1 hC.1.2.2.2.1 h0 h1
          · rw [a2, if_neg (by decide)]
            exact ⟨h0, h1⟩
        · rw [a] at g3
          exact absurd g3 (by decide)
      · rw [if_neg g3]
        exact ⟨h0, h1⟩
    · rw [if_neg g2]
      exact ⟨h0, h1⟩
  · rw [if_neg g1]
    exact ⟨h0, h1⟩
theorem rs_way (h : REL hb sp rb rs ee hh ss uu vv rr tt gg dd bd ga im c q) (fr to s lt : Int) : CMP 1 (c_way ee hh rr gg fr to s lt).1 (c_way ee hh rr gg fr to s lt).2.1 (k_way c q fr to s lt).1 (k_way c q fr to s lt).2 ∧ REL hb sp rb rs (c_way ee hh rr gg fr to s lt).2.2.1 hh ss uu vv (c_way ee hh rr gg fr to s lt).2.2.2.1 tt (c_way ee hh rr gg fr to s lt).2.2.2.2 dd bd ga im c (k_way c q fr to s lt).2 := by
  obtain ⟨t1, t2⟩ := to_way (fr := fr) (tt := to) (s := s) (lt := lt) (gg := gg) h.xc h.xb h.xre
  obtain ⟨h1, h2, h3, h4, h5, a1, a2, a3, a4, a5, a6, a7⟩ := h.ask (TO_E t1) t2
  exact ⟨TO_C t1, h1, h2, h3, h4, h5, a1, a2, a3, a4, a5, way_E h.xc h.xb a6 a7⟩
theorem rs_light (h : REL hb sp rb rs ee hh ss uu vv rr tt gg dd bd ga im c q) (k bu w : Int) : CMP 2 (c_light hb ee hh tt k bu w).1 (c_light hb ee hh tt k bu w).2.1 (k_light c q k bu w).1 (k_light c q k bu w).2.2 ∧ REL hb sp rb rs (c_light hb ee hh tt k bu w).2.2.1 hh ss uu vv rr (c_light hb ee hh tt k bu w).2.2.2 gg dd bd ga im (k_light c q k bu w).2.1 (k_light c q k bu w).2.2 := by
  obtain ⟨t1, t2, t3⟩ := to_light (hb := hb) (k := k) (bu := bu) (w := w) h.xc h.xtb h.xfs h.xd h.xt h.xre
  refine ⟨TO_C t1, ?_⟩
  have hE := TO_E t1
  have hV := h.xv
  have h45 : c 0 45 = c 4 2 := h.xc.2.2.2.1.2.2
  have h42 := hV.2.2.1
  have hi := h.xi32
  have hd := h.xd
  obtain ⟨g1, g2, ⟨g3, g4, g5, g6⟩, g7, g8, g9⟩ := h
  generalize (k_light c q k bu w).2.1 = c' at *
  obtain ⟨l1, l2⟩ := t3
  have lk : ∀ m, m ≠ 0 → (m < 67 ∨ 74 ≤ m) → c' m = c m := fun m m0 m1 => l1 m m0 (by omega)
  have hT : Told c c' := fun m hm => l1 m (by omega) (by omega)
  exact ⟨g1, g2, ⟨Port_any hT (lk 6 (by decide) (by decide)) (by rw [l2]) (by rw [l2]; exact hV.2.2.2.2.2.2.2.2.2.2.2.2.1) (by rw [l2]; exact hV.2.2.2.2.2.2.2.2.2.2.2.2.2) (by rw [l2]; exact hd) g3, MdWd_c hV (lk 4 (by decide) (by decide)) (fun m a b => lk m (by omega) (by omega)) g4, t2, g6⟩, RL2_q (RL2_c g7 (lk 1 (by decide) (by decide)) (by rw [l2]) (by rw [l2]) (by rw [l2])) hE, RL3_c hV g8 (lk 4 (by decide) (by decide)) (by rw [l2]) (by rw [l2]) (by rw [l2]) (by omega) (fun m a b => lk m (by omega) (by omega)), RL4_c g9 (fun m a b => lk m (by omega) (by omega)) (fun m a b => lk m (by omega) (by omega)) (by rw [l2])⟩
theorem rs_found (h : REL hb sp rb rs ee hh ss uu vv rr tt gg dd bd ga im c q) (w : Int) : CMP 3 (c_found hb ee hh rr tt dd ga w).1 (c_found hb ee hh rr tt dd ga w).2.1 (k_found c q w).1 (k_found c q w).2.2 ∧ REL hb sp rb rs (c_found hb ee hh rr tt dd ga w).2.2.1 hh ss uu vv (c_found hb ee hh rr tt dd ga w).2.2.2.1 (c_found hb ee hh rr tt dd ga w).2.2.2.2.1 gg (c_found hb ee hh rr tt dd ga w).2.2.2.2.2 bd ga im (k_found c q w).2.1 (k_found c q w).2.2 := by
  obtain ⟨t1, t2, t3, t4, t5⟩ := to_found (hb := hb) (what := w) h.xc h.xtb h.xfs h.xz h.xb h.xgc h.xt h.xdd h.xre
  refine ⟨TO_C t1, ?_⟩
  have hE := TO_E t1
  have hV := h.xv
  have hi := h.xi32
  have hz := h.xz
  obtain ⟨f1, f2, f3⟩ := FdI_C t5 h.xc h.xtb h.xfs
  obtain ⟨g1, g2, ⟨g3, g4, g5, g6⟩, g7, g8, g9⟩ := h
  generalize (k_found c q w).2.1 = c' at *
  obtain ⟨l1, l2⟩ := t5
  obtain ⟨k1, k2, k3, k4⟩ := RL3_c hV g8 (l1 4 (by decide)) (l2 30 (by decide) (by decide)) (l2 31 (by decide) (by decide)) (l2 32 (by decide) (by decide)) (by omega) (fun m a b => l1 m (by omega))
  exact ⟨g1, g2, ⟨⟨f1, f2, f3, hz, t2⟩, MdWd_c hV (l1 4 (by decide)) (fun m a b => l1 m (by omega)) g4, t3, g6⟩, RL2_q (RL2_c g7 (l1 1 (by decide)) (l2 1 (by decide) (by decide)) (l2 3 (by decide) (by decide)) (l2 32 (by decide) (by decide))) hE, ⟨k1, k2, t4, k4⟩, RL4_c g9 (fun m a b => l1 m (by omega)) (fun m a b => l1 m (by omega)) (l2 46 (by decide) (by decide))⟩
theorem rs_bid (h : REL hb sp rb rs ee hh ss uu vv rr tt gg dd bd ga im c q) (k yd pr : Int) : CMP 2 (c_bid ee hh bd k yd pr).1 (c_bid ee hh bd k yd pr).2.1 (k_bid c q k yd pr).1 (k_bid c q k yd pr).2.2 ∧ REL hb sp rb rs (c_bid ee hh bd k yd pr).2.2.1 hh ss uu vv rr tt gg dd (c_bid ee hh bd k yd pr).2.2.2 ga im (k_bid c q k yd pr).2.1 (k_bid c q k yd pr).2.2 := by
  obtain ⟨t1, t2, t3, t4⟩ := to_bid (k := k) (yd := yd) (pr := pr) h.xc h.xre h.xbc
  refine ⟨TO_C t1, ?_⟩
  have hE := TO_E t1
  have hV := h.xv
  have hi := h.xi32
  obtain ⟨g1, g2, ⟨g3, g4, g5, g6⟩, g7, ⟨g8, g9, g10, g11, g12, g13⟩, g14⟩ := h
  generalize (k_bid c q k yd pr).2.1 = c' at *
  have hP := Port_bid t3 t4 g3
  obtain ⟨l1, l2⟩ := t3
  have lk : ∀ m, m ≠ 0 → (m < 133 ∨ 145 ≤ m) → c' m = c m := fun m m0 m1 => l1 m m0 (by omega)
  have e32 : c' 0 32 = c 0 32 := l2 32 (by decide)
  refine ⟨g1, g2, ⟨hP, MdWd_c hV (lk 4 (by decide) (by decide)) (fun m a b => lk m (by omega) (by omega)) g4, g5, g6⟩, RL2_q (RL2_c g7 (lk 1 (by decide) (by decide)) (l2 1 (by decide)) (l2 3 (by decide)) e32) hE, ⟨t2, GC_m (l2 31 (by decide)) (fun i j a b => by rw [lk (146 + i) (by omega) (by omega)]) (lk 4 (by decide) (by decide)) hV.2.2.2.2.2.2.2.2.2.2.2.2.2.2 g9, g10, g11, ?_, ?_⟩, RL4_c g14 (fun m a b => lk m (by omega) (by omega)) (fun m a b => lk m (by omega) (by omega)) (l2 46 (by decide))⟩
  · rw [e32]
    exact fun i hi2 => ImR_k (by omega) rfl rfl rfl rfl (lk (155 + i) (by omega) (by omega)) (lk 4 (by decide) (by decide)) (g12 i hi2)
  · rw [e32]
    exact g13
theorem rs_gauge (h : REL hb sp rb rs ee hh ss uu vv rr tt gg dd bd ga im c q) (x y st yd : Int) : CMP 1 (c_gauge ee hh dd ga x y st yd).1 (c_gauge ee hh dd ga x y st yd).2.1 (k_gauge c q x y st yd).1 (k_gauge c q x y st yd).2.2 ∧ REL hb sp rb rs (c_gauge ee hh dd ga x y st yd).2.2.1 hh ss uu vv rr tt gg (c_gauge ee hh dd ga x y st yd).2.2.2.1 bd (c_gauge ee hh dd ga x y st yd).2.2.2.2 im (k_gauge c q x y st yd).2.1 (k_gauge c q x y st yd).2.2 := by
  obtain ⟨t1, t2, t3, t4, t5⟩ := to_gauge (x := x) (y := y) (st := st) (yd := yd) (dd := dd) h.xc h.xre h.xgc
  refine ⟨TO_C t1, ?_⟩
  have hE := TO_E t1
  have hV := h.xv
  have hi := h.xi32
  obtain ⟨g1, g2, ⟨g3, g4, g5, g6⟩, g7, ⟨g8, g9, g10, g11, g12, g13⟩, g14⟩ := h
  have hD : DdI hh (c_gauge ee hh dd ga x y st yd).2.2.2.2 (c_gauge ee hh dd ga x y st yd).2.2.2.1 := by
    rcases t5 with ⟨e1, -, e2⟩ | e1
    · rw [e1, e2]
      exact g10
    · rw [e1]
      exact Or.inl am_put_s
  clear t5
  generalize (k_gauge c q x y st yd).2.1 = c' at *
  have hP := Port_gauge t3 t4 g3
  obtain ⟨l1, l2⟩ := t3
  have lk : ∀ m, m ≠ 0 → (m < 146 ∨ 154 ≤ m) → c' m = c m := fun m m0 m1 => l1 m m0 (by omega)
  have e32 : c' 0 32 = c 0 32 := l2 32 (by decide)
  refine ⟨g1, g2, ⟨hP, MdWd_c hV (lk 4 (by decide) (by decide)) (fun m a b => lk m (by omega) (by omega)) g4, g5, g6⟩, RL2_q (RL2_c g7 (lk 1 (by decide) (by decide)) (l2 1 (by decide)) (l2 3 (by decide)) e32) hE, ⟨BC_m (l2 30 (by decide)) (fun i j a b => by rw [lk (133 + i) (by omega) (by omega)]) (lk 4 (by decide) (by decide)) hV.2.2.2.2.2.2.2.2.2.2.2.2.1.2 g8, t2, hD, g11, ?_, ?_⟩, RL4_c g14 (fun m a b => lk m (by omega) (by omega)) (fun m a b => lk m (by omega) (by omega)) (l2 46 (by decide))⟩
  · rw [e32]
    exact fun i hi2 => ImR_k (by omega) rfl rfl rfl rfl (lk (155 + i) (by omega) (by omega)) (lk 4 (by decide) (by decide)) (g12 i hi2)
  · rw [e32]
    exact g13
theorem rs_clear (h : REL hb sp rb rs ee hh ss uu vv rr tt gg dd bd ga im c q) : (c_clear dd bd ga).1 = (k_clear c q).1 ∧ REL hb sp rb rs ee hh ss uu vv rr tt gg (c_clear dd bd ga).2.1 (c_clear dd bd ga).2.2.1 (c_clear dd bd ga).2.2.2 im (k_clear c q).2.1 (k_clear c q).2.2 := by
  obtain ⟨t1, t2, t3⟩ := to_clear (q := q) (dd := dd) h.xv h.xbc h.xgc
  refine ⟨t1, ?_⟩
  have hV := h.xv
  have hi := h.xi32
  have hd := h.xd
  obtain ⟨g1, g2, ⟨g3, g4, g5, g6⟩, g7, ⟨g8, g9, g10, g11, g12, g13⟩, g14⟩ := h.now0 (v := 0)
  have ec : (k_clear c q).2.1 = am_put (am_put c 0 30 0) 0 31 0 := rfl
  have l1 : ∀ m, m ≠ 0 → (k_clear c q).2.1 m = c m := fun m hm => by rw [ec, am_put_kr hm, am_put_kr hm]
  have l2 : ∀ j, j ≠ 30 → j ≠ 31 → (k_clear c q).2.1 0 j = c 0 j := fun j j1 j2 => by rw [ec, am_put_i j2, am_put_i j1]
  have z30 : (k_clear c q).2.1 0 30 = 0 := by rw [ec, am_put_i (by decide), am_put_s]
  have z31 : (k_clear c q).2.1 0 31 = 0 := by rw [ec, am_put_s]
  have eq' : (k_clear c q).2.2 = am_put q 0 0 0 := rfl
  rw [eq']
  have ed : (c_clear dd bd ga).2.1 = am_put dd 0 0 0 := rfl
  rw [ed]
  clear ec ed
  generalize (k_clear c q).2.1 = c' at *
  have e32 : c' 0 32 = c 0 32 := l2 32 (by decide) (by decide)
  refine ⟨g1, g2, ⟨Port_any (fun m hm => l1 m (by omega)) (l1 6 (by decide)) (l2 45 (by decide) (by decide)) (by rw [z30]; decide) (by rw [z31]; decide) (by rw [l2 58 (by decide) (by decide), l2 61 (by decide) (by decide)]; exact hd) g3, MdWd_c hV (l1 4 (by decide)) (fun m a b => l1 m (by omega)) g4, g5, g6⟩, RL2_c g7 (l1 1 (by decide)) (l2 1 (by decide) (by decide)) (l2 3 (by decide) (by decide)) e32, ⟨t2, t3, Or.inl am_put_s, g11, ?_, ?_⟩, RL4_c g14 (fun m a b => l1 m (by omega)) (fun m a b => l1 m (by omega)) (l2 46 (by decide) (by decide))⟩
  · rw [e32]
    exact fun i hi2 => ImR_k (by omega) rfl rfl rfl rfl (l1 (155 + i) (by omega)) (l1 4 (by decide)) (g12 i hi2)
  · rw [e32]
    exact g13
theorem set_h (x y yd : Int) : (c_set ee hh rr dd x y yd).2.2.2.1 = hh ∨ ∃ (i : Nat) (v : Int), (c_set ee hh rr dd x y yd).2.2.2.1 = am_put hh 11 i v := by
  unfold c_set
  by_cases g1 : n_cell hh x y = 0
  · rw [if_pos g1]
    by_cases g2 : n_range yd 0 99 = 0
    · rw [if_pos g2]
      exact Or.inr ⟨_, _, rfl⟩
    · rw [if_neg g2]
      exact Or.inl rfl
  · rw [if_neg g1]
    exact Or.inl rfl
theorem set_hk (x y yd : Int) {k : Nat} (hk : k ≠ 11) : (c_set ee hh rr dd x y yd).2.2.2.1 k = hh k := by
  rcases set_h (ee := ee) (hh := hh) (rr := rr) (dd := dd) x y yd with e | ⟨i, v, e⟩
  · rw [e]
  · rw [e, am_put_kr hk]
theorem rs_set (h : REL hb sp rb rs ee hh ss uu vv rr tt gg dd bd ga im c q) (x y yd : Int) : CMP 1 (c_set ee hh rr dd x y yd).1 (c_set ee hh rr dd x y yd).2.1 (k_set c q x y yd).1 (k_set c q x y yd).2.2 ∧ REL hb sp rb rs (c_set ee hh rr dd x y yd).2.2.1 (c_set ee hh rr dd x y yd).2.2.2.1 ss uu vv (c_set ee hh rr dd x y yd).2.2.2.2.1 tt gg (c_set ee hh rr dd x y yd).2.2.2.2.2 bd ga im (k_set c q x y yd).2.1 (k_set c q x y yd).2.2 := by
  obtain ⟨t1, t2, t3, t4, t5, t6, t7⟩ := to_set (x := x) (y := y) (yd := yd) (dd := dd) h.xc h.xtb h.xfs h.xb h.xre
  refine ⟨TO_C t1, ?_⟩
  have hE := TO_E t1
  have hV := h.xv
  have hi := h.xi32
  have hz := FzI_set (e := ee) (r := rr) (dd := dd) (x := x) (y := y) (yd := yd) h.xc h.xz
  have h0 := set_hk (ee := ee) (hh := hh) (rr := rr) (dd := dd) x y yd (k := 0) (by decide)
  have h9 := set_hk (ee := ee) (hh := hh) (rr := rr) (dd := dd) x y yd (k := 9) (by decide)
  obtain ⟨g1, g2, ⟨g3, g4, g5, g6⟩, g7, ⟨g8, g9, g10, g11, g12, g13⟩, g14⟩ := h
  have hD : DdI (c_set ee hh rr dd x y yd).2.2.2.1 ga (c_set ee hh rr dd x y yd).2.2.2.2.2 := by
    rcases t7 with ⟨e1, -, e2, -⟩ | e1
    · rw [e1, e2]
      exact g10
    · rw [e1]
      exact Or.inl am_put_s
  clear t7
  generalize (k_set c q x y yd).2.1 = c' at *
  have l1 : ∀ m, m ≠ 6 → c' m = c m := t6
  have l2 : ∀ j, c' 0 j = c 0 j := fun j => by rw [l1 0 (by decide)]
  obtain ⟨k1, k2, k3, k4, k5, k6⟩ := RL3_c (c' := c') hV ⟨g8, g9, g10, g11, g12, g13⟩ (l1 4 (by decide)) (l2 30) (l2 31) (l2 32) (by omega) (fun m a b => l1 m (by omega))
  refine ⟨g1, g2, ⟨⟨t2, t3, t4, hz, t5⟩, MdWd_c hV (l1 4 (by decide)) (fun m a b => l1 m (by omega)) g4, g5, ?_⟩, RL2_q (RL2_c g7 (l1 1 (by decide)) (l2 1) (l2 3) (l2 32)) hE, ⟨k1, k2, hD, k4, k5, ?_⟩, RL4_c g14 (fun m a b => l1 m (by omega)) (fun m a b => l1 m (by omega)) (l2 46)⟩
  · unfold PaB
    rw [h9]
    exact g6
  · unfold ImZ
    rw [h0]
    exact k6
theorem rs_feed (h : REL hb sp rb rs ee hh ss uu vv rr tt gg dd bd ga im c q) (a1 a2 a3 a4 a5 : Int) : (c_feed ee a1 a2 a3 a4 a5).1 = (k_feed c q a1 a2 a3 a4 a5).1 ∧ REL hb sp rb rs (c_feed ee a1 a2 a3 a4 a5).2 hh ss uu vv rr tt gg dd bd ga im (k_feed c q a1 a2 a3 a4 a5).2.1 (k_feed c q a1 a2 a3 a4 a5).2.2 := by
  obtain ⟨t1, t2, t3, t4, t5⟩ := to_feed (q := q) (a1 := a1) (a2 := a2) (a3 := a3) (a4 := a4) (a5 := a5) h.xtp h.xti
  refine ⟨t1, ?_⟩
  rw [t5]
  have hV := h.xv
  have hi := h.xi32
  obtain ⟨g1, g2, ⟨g3, g4, g5, g6⟩, ⟨r1, r2, r3, r4, r5, r6⟩, g8, g9⟩ := h
  have hP := Port_feed t4 g3
  generalize (k_feed c q a1 a2 a3 a4 a5).2.1 = c' at *
  generalize (c_feed ee a1 a2 a3 a4 a5).2 = e' at *
  obtain ⟨s1, s2, l1, l2⟩ := t4
  have e32 : c' 0 32 = c 0 32 := l2 32 (by decide)
  refine ⟨g1, g2, ⟨hP, MdWd_c hV (l1 4 (by decide) (by decide)) (fun m a b => l1 m (by omega) (by omega)) g4, g5, g6⟩, ⟨fun j hj => ?_, t2, t3, ?_, ?_, ?_⟩, RL3_c hV g8 (l1 4 (by decide) (by decide)) (l2 30 (by decide)) (l2 31 (by decide)) e32 (by omega) (fun m a b => l1 m (by omega) (by omega)), RL4_c g9 (fun m a b => l1 m (by omega) (by omega)) (fun m a b => l1 m (by omega) (by omega)) (l2 46 (by decide))⟩
  · rw [s1 2 (by decide) (by decide), am_put_k (by decide)]
    exact r1 j hj
  · rw [s2 8 (by decide), l2 3 (by decide)]
    exact r4
  · rw [s2 17 (by decide)]
    exact r5
  · rw [s2 17 (by decide), e32]
    exact r6
theorem rs_image (h : REL hb sp rb rs ee hh ss uu vv rr tt gg dd bd ga im c q) : (c_image ee hh bd ga im).1 = (k_image c q).1 ∧ REL hb sp rb rs (c_image ee hh bd ga im).2.1 hh ss uu vv rr tt gg dd bd ga (c_image ee hh bd ga im).2.2 (k_image c q).2.1 (k_image c q).2.2 := by
  obtain ⟨t1, t2, t3, ⟨t4, t5, t6⟩, t7, t8⟩ := to_image (q := q) (im := im) h.xc h.xfs h.xbc h.xgc h.xi32 h.2.2.2.2.1.2.2.2.1 h.2.2.2.2.1.2.2.2.2.1
  refine ⟨t1, ?_⟩
  rw [t8]
  have hV := h.xv
  have hi := h.xi32
  have hZ := ImZ_image (e := ee) (b := bd) (g := ga) (im := im) h.xz (by rw [hi.2]; exact h.2.2.2.2.1.2.2.2.2.2)
  obtain ⟨g1, g2, ⟨g3, g4, g5, g6⟩, ⟨r1, r2, r3, r4, r5, r6⟩, ⟨g8, g9, g10, g11, g12, g13⟩, g14⟩ := h
  have hP := Port_image t7 g3
  rw [t4] at hZ
  generalize (k_image c q).2.1 = c' at *
  generalize (c_image ee hh bd ga im).2.1 = e' at *
  have lk : ∀ m, m ≠ 0 → (m < 155 ∨ 158 ≤ m) → c' m = c m := fun m m0 m1 => funext fun j => t7 m j (by omega) (by omega)
  have l2 : ∀ j, j ≠ 32 → j ≠ 33 → c' 0 j = c 0 j := fun j j1 j2 => t7 0 j (by omega) (by omega)
  have e1 : e' 1 = ee 1 := funext fun j => t5 1 j (by omega)
  have e0 : ∀ j, j ≠ 17 → e' 0 j = ee 0 j := fun j hj => t5 0 j (by omega)
  refine ⟨g1, g2, ⟨hP, MdWd_c hV (lk 4 (by decide) (by decide)) (fun m a b => lk m (by omega) (by omega)) g4, g5, g6⟩, ⟨fun j hj => ?_, ?_, ?_, ?_, ?_, t4⟩, ⟨BC_m (l2 30 (by decide) (by decide)) (fun i j a b => by rw [lk (133 + i) (by omega) (by omega)]) (lk 4 (by decide) (by decide)) hV.2.2.2.2.2.2.2.2.2.2.2.2.1.2 g8, GC_m (l2 31 (by decide) (by decide)) (fun i j a b => by rw [lk (146 + i) (by omega) (by omega)]) (lk 4 (by decide) (by decide)) hV.2.2.2.2.2.2.2.2.2.2.2.2.2.2 g9, g10, t3, t2, hZ⟩, RL4_c g14 (fun m a b => lk m (by omega) (by omega)) (fun m a b => lk m (by omega) (by omega)) (l2 46 (by decide) (by decide))⟩
  · rw [t5 2 j (by omega), am_put_k (by decide)]
    exact r1 j hj
  · unfold TP
    rw [e0 7 (by decide), e1, lk 1 (by decide) (by decide), l2 1 (by decide) (by decide)]
    exact r2
  · unfold TpI
    rw [e1]
    exact r3
  · rw [e0 8 (by decide), l2 3 (by decide) (by decide)]
    exact r4
  · rw [t4]
    exact t6
theorem give_9 : (c_restore ee hh rr dd bd ga im).2.2.1 9 = hh 9 := by
  unfold c_restore c_give0 c_give1 c_give2
  dsimp only
  split
  · rfl
  · split
    · split
      · exact ti_row_k (r := hh) (k := 11) (k' := 9) (f := am_cpy (im 1) (hh 11) (Int.toNat 0) (Int.toNat 0) (Int.toNat 90)) (by decide)
      · split
        · exact ti_row_k (r := hh) (k := 11) (k' := 9) (f := am_cpy (im 11) (hh 11) (Int.toNat 0) (Int.toNat 0) (Int.toNat 90)) (by decide)
        · exact ti_row_k (r := hh) (k := 11) (k' := 9) (f := am_cpy (im 21) (hh 11) (Int.toNat 0) (Int.toNat 0) (Int.toNat 90)) (by decide)
    · rfl
theorem rs_restore (h : REL hb sp rb rs ee hh ss uu vv rr tt gg dd bd ga im c q) : (c_restore ee hh rr dd bd ga im).1 = (k_restore c q).1 ∧ REL hb sp rb rs (c_restore ee hh rr dd bd ga im).2.1 (c_restore ee hh rr dd bd ga im).2.2.1 ss uu vv (c_restore ee hh rr dd bd ga im).2.2.2.1 tt gg (c_restore ee hh rr dd bd ga im).2.2.2.2.1 (c_restore ee hh rr dd bd ga im).2.2.2.2.2.1 (c_restore ee hh rr dd bd ga im).2.2.2.2.2.2 im (k_restore c q).2.1 (k_restore c q).2.2 := by
  obtain ⟨t1, t2, t3, t4, t5, t6, t7, t8, t9, t10, t11, t12, t13, t14⟩ := to_restore (q := q) (dd := dd) (im := im) h.xc h.xtb h.xfs h.xb h.xbc h.xgc h.xi32 h.2.2.2.2.1.2.2.2.1 h.2.2.2.2.1.2.2.2.2.1
  refine ⟨t1, ?_⟩
  rw [t2]
  have hV := h.xv
  have hi := h.xi32
  obtain ⟨z1, z2⟩ := FzI_restore (e := ee) (r := rr) (dd := dd) (b := bd) (g := ga) (im := im) h.xz (by rw [hi.2]; exact h.2.2.2.2.1.2.2.2.2.2)
  have h9 := give_9 (ee := ee) (hh := hh) (rr := rr) (dd := dd) (bd := bd) (ga := ga) (im := im)
  obtain ⟨g1, g2, ⟨g3, g4, g5, g6⟩, ⟨r1, r2, r3, r4, r5, r6⟩, ⟨g8, g9, g10, g11, g12, g13⟩, g14⟩ := h
  have hD : DdI (c_restore ee hh rr dd bd ga im).2.2.1 (c_restore ee hh rr dd bd ga im).2.2.2.2.2.2 (c_restore ee hh rr dd bd ga im).2.2.2.2.1 := by
    rcases t14 with ⟨e1, -, e2, e3⟩ | e1
    · rw [e1, e2, e3]
      exact g10
    · rw [e1]
      exact Or.inl am_put_s
  clear t14
  rw [t10] at z2
  generalize (k_restore c q).2.1 = c' at *
  generalize (c_restore ee hh rr dd bd ga im).2.1 = e' at *
  generalize (c_restore ee hh rr dd bd ga im).2.2.1 = h' at *
  have lk : ∀ m, m ≠ 0 → m ≠ 6 → (m < 133 ∨ 154 ≤ m) → c' m = c m := fun m m0 m6 m1 => funext fun j => t13 m j (by omega) (by omega)
  have l2 : ∀ j, ¬ (30 ≤ j ∧ j ≤ 33) → c' 0 j = c 0 j := fun j hj => t13 0 j (by omega) (by omega)
  have e1 : e' 1 = ee 1 := funext fun j => t12 1 j (by omega)
  have e0 : ∀ j, j ≠ 17 → e' 0 j = ee 0 j := fun j hj => t12 0 j (by omega)
  refine ⟨g1, g2, ⟨⟨t3, t4, t5, z1, t6⟩, MdWd_c hV (lk 4 (by decide) (by decide) (by decide)) (fun m a b => lk m (by omega) (by omega) (by omega)) g4, g5, ?_⟩, ⟨fun j hj => ?_, ?_, ?_, ?_, ?_, t10⟩, ⟨t7, t8, hD, g11, t9, z2⟩, RL4_c g14 (fun m a b => lk m (by omega) (by omega) (by omega)) (fun m a b => lk m (by omega) (by omega) (by omega)) (l2 46 (by decide))⟩
  · unfold PaB
    rw [h9]
    exact g6
  · rw [t12 2 j (by omega), am_put_k (by decide)]
    exact r1 j hj
  · unfold TP
    rw [e0 7 (by decide), e1, lk 1 (by decide) (by decide) (by decide), l2 1 (by decide)]
    exact r2
  · unfold TpI
    rw [e1]
    exact r3
  · rw [e0 8 (by decide), l2 3 (by decide)]
    exact r4
  · rw [t10]
    exact t11
end RS2
