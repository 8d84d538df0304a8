/-! THE LAW: what stands between two calls -/
def RL1 (hh rr tt c : am_F) : Prop := PortI hh c rr ∧ MdWd c ∧ TrI tt ∧ PaB hh
def RL2 (ee c q : am_F) : Prop := RE ee q ∧ TP ee c ∧ TpI ee ∧ ee 0 8 = c 0 3 ∧ (0 ≤ ee 0 17 ∧ ee 0 17 ≤ 3) ∧ ee 0 17 = c 0 32
def RL3 (hh dd bd ga im c : am_F) : Prop := BC bd c ∧ GC ga c ∧ DdI hh ga dd ∧ ImI im ∧ ImT im c (c 0 32) ∧ ImZ hh im (c 0 32)
def RL4 (ss uu vv gg c : am_F) : Prop := RuC uu c ∧ RB c ∧ RvI uu ∧ RvI vv ∧ SpI ss ∧ EyB gg 0 ∧ EyB gg 1
def REL (hb sp rb rs : Nat) (ee hh ss uu vv rr tt gg dd bd ga im c q : am_F) : Prop := (hb = 1 ∧ sp = 21 ∨ hb = 21 ∧ sp = 1) ∧ (rb = 41 ∧ rs = 46 ∨ rb = 46 ∧ rs = 41) ∧ RL1 hh rr tt c ∧ RL2 ee c q ∧ RL3 hh dd bd ga im c ∧ RL4 ss uu vv gg c
/-- how a call's ends compare -/
def CMP (a code v kv : Int) (q' : am_F) : Prop := (code = 0 ∧ q' 0 0 = 0 ∧ v = kv) ∨ ((code = 1 ∨ code = 2 ∨ code = 3) ∧ q' 0 0 = if code = a then 1 else 2)
theorem TO_C {a code v kv : Int} {e e' q' : am_F} (h : TO a code v e e' kv q') : CMP a code v kv q' := by
  rcases h with ⟨h1, h2, h3, -, -⟩ | ⟨h1, h2, -, -⟩
  · exact Or.inl ⟨h1, h2, h3⟩
  · exact Or.inr ⟨h1, h2⟩
theorem TO3_C {a code v kv : Int} {e e' q' : am_F} (h : TO3 a code v e e' kv q') : CMP a code v kv q' := by
  rcases h with ⟨h1, h2, h3, -, -⟩ | ⟨h1, h2, -, -⟩
  · exact Or.inl ⟨h1, h2, h3⟩
  · exact Or.inr ⟨h1, h2⟩
theorem n_ref_k {e : am_F} {code : Int} {k : Nat} (hk : k ≠ 2) : n_ref e code k = e k := am_put_kr hk
theorem TO_E {a code v kv : Int} {e e' q' : am_F} (h : TO a code v e e' kv q') : RE e' q' ∧ e' 0 = e 0 ∧ e' 1 = e 1 := by
  rcases h with ⟨-, -, -, h4, h5⟩ | ⟨-, -, h3, h4⟩
  · rw [h4]
    exact ⟨h5, rfl, rfl⟩
  · rw [h3]
    exact ⟨h4, n_ref_k (by decide), n_ref_k (by decide)⟩
theorem TO3_E {a code v kv : Int} {e e' q' : am_F} (h : TO3 a code v e e' kv q') : RE e' q' ∧ e' 0 = e 0 ∧ e' 1 = e 1 := by
  rcases h with ⟨-, -, -, h4, h5⟩ | ⟨-, -, h3, h4⟩
  · exact ⟨h5, h4 0 (by decide), h4 1 (by decide)⟩
  · rw [h3]
    exact ⟨h4, n_ref_k (by decide), n_ref_k (by decide)⟩
theorem RL2_q {ee e' c q q' : am_F} (h : RL2 ee c q) (hE : RE e' q' ∧ e' 0 = ee 0 ∧ e' 1 = ee 1) : RL2 e' c q' := by
  obtain ⟨h1, h2, h3⟩ := hE
  obtain ⟨-, g2, g3, g4, g5, g6⟩ := h
  unfold RL2 TP TpI
  rw [h2, h3]
  exact ⟨h1, g2, g3, g4, g5, g6⟩
theorem RL2_c {ee c c' q : am_F} (h : RL2 ee c q) (h1 : c' 1 = c 1) (h01 : c' 0 1 = c 0 1) (h03 : c' 0 3 = c 0 3) (h32 : c' 0 32 = c 0 32) : RL2 ee c' q := by
  unfold RL2 TP
  rw [h1, h01, h03, h32]
  exact h
theorem RL1_r {hh rr r' tt c : am_F} (h : RL1 hh rr tt c) (hB : BaseI hh c r') : RL1 hh r' tt c := ⟨⟨h.1.1, h.1.2.1, h.1.2.2.1, h.1.2.2.2.1, hB⟩, h.2⟩
theorem RL1_t {hh rr t' tt c : am_F} (h : RL1 hh rr tt c) (ht : TrI t') : RL1 hh rr t' c := ⟨h.1, h.2.1, ht, h.2.2.2⟩
theorem MdWd_c {c c' : am_F} (hV : MdV c) (h4 : c' 4 = c 4) (hr : ∀ k, 21 ≤ k → k ≤ 32 → c' k = c k) (h : MdWd c) : MdWd c' := by
  unfold MdWd
  rw [h4]
  intro k k0 k1
  have := hV.2.2.2.2.2.2.2.2.1
  rw [hr (21 + k.toNat) (by omega) (by omega)]
  exact h k k0 k1
theorem Port_any {h c c' r : am_F} (hT : Told c c') (h6 : c' 6 = c 6) (h45 : c' 0 45 = c 0 45) (h30 : 0 ≤ c' 0 30 ∧ c' 0 30 ≤ 12) (h31 : 0 ≤ c' 0 31 ∧ c' 0 31 ≤ 8) (hd : c' 0 58 = -1 ∧ c' 0 61 = -1) (hP : PortI h c r) : PortI h c' r := by
  obtain ⟨hC, hTb, hFs, hz, hB⟩ := hP
  have hV := hC.2.1
  have e4 : c' 4 = c 4 := hT 4 (Or.inl rfl)
  have hV' : MdV c' := by
    unfold MdV
    rw [e4, h45]
    obtain ⟨a1, a2, a3, a4, a5, a6, a7, a8, a9, a10, a11, a12, -, -⟩ := hV
    exact ⟨a1, a2, a3, a4, a5, a6, a7, a8, a9, a10, a11, a12, h30, h31⟩
  have hC' : HC h c' := HC_told hT hV' h45 hC
  have hTb' : TLb h c' := fun i a1 a2 => by
    have h5 : i < c 4 2 := by
      have h1 := hC.2.2.2.1
      unfold TN at h1
      omega
    rw [hT (67 + i.toNat) (by omega)]
    exact hTb i a1 a2
  have hFs' : TFs h c' := by
    unfold TFs
    rw [h6]
    exact hFs
  exact ⟨hC', hTb', hFs', hz, BaseI_swap hC hTb hFs hC' hTb' hFs' hz hd hB⟩
theorem RL3_c {hh dd bd ga im c c' : am_F} (hV : MdV c) (h : RL3 hh dd bd ga im c) (h4 : c' 4 = c 4) (h30 : c' 0 30 = c 0 30) (h31 : c' 0 31 = c 0 31) (h32 : c' 0 32 = c 0 32) (hn : c 0 32 ≤ 3) (hr : ∀ k, 133 ≤ k → k ≤ 157 → c' k = c k) : RL3 hh dd bd ga im c' := by
  obtain ⟨a1, a2, a3, a4, a5, a6⟩ := h
  unfold RL3
  rw [h32]
  exact ⟨BC_m h30 (fun i j hi hj => by rw [hr (133 + i) (by omega) (by omega)]) h4 hV.2.2.2.2.2.2.2.2.2.2.2.2.1.2 a1, GC_m h31 (fun i j hi hj => by rw [hr (146 + i) (by omega) (by omega)]) h4 hV.2.2.2.2.2.2.2.2.2.2.2.2.2.2 a2, a3, a4, fun i hi => ImR_k (by omega) rfl rfl rfl rfl (hr (155 + i) (by omega) (by omega)) h4 (a5 i hi), a6⟩
theorem RL4_c {ss uu vv gg c c' : am_F} (h : RL4 ss uu vv gg c) (h1 : ∀ k, 269 ≤ k → k < 278 → c' k = c k) (h2 : ∀ k, 287 ≤ k → k < 508 → c' k = c k) (h3 : c' 0 46 = c 0 46) : RL4 ss uu vv gg c' := by
  obtain ⟨a1, a2, a3⟩ := h
  obtain ⟨b1, b2⟩ := RuC_c h1 h2 h3 a1 a2
  exact ⟨b1, b2, a3⟩
section RS
variable {hb sp rb rs : Nat} {ee hh ss uu vv rr tt gg aa dd bd ga im c q : am_F}
theorem REL.xhp (h : REL hb sp rb rs ee hh ss uu vv rr tt gg dd bd ga im c q) : hb = 1 ∧ sp = 21 ∨ hb = 21 ∧ sp = 1 := h.1
theorem REL.xhr (h : REL hb sp rb rs ee hh ss uu vv rr tt gg dd bd ga im c q) : rb = 41 ∧ rs = 46 ∨ rb = 46 ∧ rs = 41 := h.2.1
theorem REL.xc (h : REL hb sp rb rs ee hh ss uu vv rr tt gg dd bd ga im c q) : HC hh c := h.2.2.1.1.1
theorem REL.xtb (h : REL hb sp rb rs ee hh ss uu vv rr tt gg dd bd ga im c q) : TLb hh c := h.2.2.1.1.2.1
theorem REL.xfs (h : REL hb sp rb rs ee hh ss uu vv rr tt gg dd bd ga im c q) : TFs hh c := h.2.2.1.1.2.2.1
theorem REL.xz (h : REL hb sp rb rs ee hh ss uu vv rr tt gg dd bd ga im c q) : FzI hh := h.2.2.1.1.2.2.2.1
theorem REL.xb (h : REL hb sp rb rs ee hh ss uu vv rr tt gg dd bd ga im c q) : BaseI hh c rr := h.2.2.1.1.2.2.2.2
theorem REL.xd (h : REL hb sp rb rs ee hh ss uu vv rr tt gg dd bd ga im c q) : c 0 58 = -1 ∧ c 0 61 = -1 := h.xb.1
theorem REL.xri (h : REL hb sp rb rs ee hh ss uu vv rr tt gg dd bd ga im c q) : RnI rr := (BaseI_I h.xb).1
theorem REL.xt (h : REL hb sp rb rs ee hh ss uu vv rr tt gg dd bd ga im c q) : TrI tt := h.2.2.1.2.2.1
theorem REL.xre (h : REL hb sp rb rs ee hh ss uu vv rr tt gg dd bd ga im c q) : RE ee q := h.2.2.2.1.1
theorem REL.xtp (h : REL hb sp rb rs ee hh ss uu vv rr tt gg dd bd ga im c q) : TP ee c := h.2.2.2.1.2.1
theorem REL.xti (h : REL hb sp rb rs ee hh ss uu vv rr tt gg dd bd ga im c q) : TpI ee := h.2.2.2.1.2.2.1
theorem REL.xi32 (h : REL hb sp rb rs ee hh ss uu vv rr tt gg dd bd ga im c q) : (0 ≤ ee 0 17 ∧ ee 0 17 ≤ 3) ∧ ee 0 17 = c 0 32 := h.2.2.2.1.2.2.2.2
theorem REL.xbc (h : REL hb sp rb rs ee hh ss uu vv rr tt gg dd bd ga im c q) : BC bd c := h.2.2.2.2.1.1
theorem REL.xgc (h : REL hb sp rb rs ee hh ss uu vv rr tt gg dd bd ga im c q) : GC ga c := h.2.2.2.2.1.2.1
theorem REL.xdd (h : REL hb sp rb rs ee hh ss uu vv rr tt gg dd bd ga im c q) : DdI hh ga dd := h.2.2.2.2.1.2.2.1
theorem REL.xv (h : REL hb sp rb rs ee hh ss uu vv rr tt gg dd bd ga im c q) : MdV c := h.xc.2.1
theorem REL.xu (h : REL hb sp rb rs ee hh ss uu vv rr tt gg dd bd ga im c q) : RuC uu c := h.2.2.2.2.2.1
theorem REL.xrb (h : REL hb sp rb rs ee hh ss uu vv rr tt gg dd bd ga im c q) : RB c := h.2.2.2.2.2.2.1
/-- a question: the class's run goes on, the model's rows change -/
theorem REL.ask {e' r' q' : am_F} (h : REL hb sp rb rs ee hh ss uu vv rr tt gg dd bd ga im c q) (hE : RE e' q' ∧ e' 0 = ee 0 ∧ e' 1 = ee 1) (hB : BaseI hh c r') : REL hb sp rb rs e' hh ss uu vv r' tt gg dd bd ga im c q' := ⟨h.1, h.2.1, RL1_r h.2.2.1 hB, RL2_q h.2.2.2.1 hE, h.2.2.2.2⟩
theorem REL.ask0 {e' q' : am_F} (h : REL hb sp rb rs ee hh ss uu vv rr tt gg dd bd ga im c q) (hE : RE e' q' ∧ e' 0 = ee 0 ∧ e' 1 = ee 1) : REL hb sp rb rs e' hh ss uu vv rr tt gg dd bd ga im c q' := h.ask hE h.xb
theorem REL.askT {e' t' q' : am_F} (h : REL hb sp rb rs ee hh ss uu vv rr tt gg dd bd ga im c q) (hE : RE e' q' ∧ e' 0 = ee 0 ∧ e' 1 = ee 1) (ht : TrI t') : REL hb sp rb rs e' hh ss uu vv rr t' gg dd bd ga im c q' := ⟨h.1, h.2.1, RL1_t h.2.2.1 ht, RL2_q h.2.2.2.1 hE, h.2.2.2.2⟩
theorem REL.askU {e' r' u' q' : am_F} (h : REL hb sp rb rs ee hh ss uu vv rr tt gg dd bd ga im c q) (hE : RE e' q' ∧ e' 0 = ee 0 ∧ e' 1 = ee 1) (hB : BaseI hh c r') (hu : ∀ k, k ≠ 4 → u' k = uu k) : REL hb sp rb rs e' hh ss u' vv r' tt gg dd bd ga im c q' := by
  obtain ⟨h1, h2, h3, h4, h5, a1, a2, a3, a4⟩ := h.ask hE hB
  refine ⟨h1, h2, h3, h4, h5, RuC_4 hu a1, a2, ?_, a4⟩
  unfold RvI RuI RuE at a3 ⊢
  rw [hu 0 (by decide), hu 3 (by decide)]
  exact a3
theorem REL.now0 (h : REL hb sp rb rs ee hh ss uu vv rr tt gg dd bd ga im c q) {v : Int} : REL hb sp rb rs ee hh ss uu vv rr tt gg dd bd ga im c (am_put q 0 0 v) := h.ask0 ⟨RE_put h.xre, rfl, rfl⟩
theorem rs_fog (h : REL hb sp rb rs ee hh ss uu vv rr tt gg dd bd ga im c q) (x y t : Int) : CMP 1 (c_fog ee hh rr x y t).1 (c_fog ee hh rr x y t).2.1 (k_fog c q x y t).1 (k_fog c q x y t).2 ∧ REL hb sp rb rs (c_fog ee hh rr x y t).2.2.1 hh ss uu vv (c_fog ee hh rr x y t).2.2.2 tt gg dd bd ga im c (k_fog c q x y t).2 := by
  obtain ⟨t1, t2⟩ := to_fog (x := x) (y := y) (t := t) h.xc h.xb h.xre
  exact ⟨TO_C t1, h.ask (TO_E t1) t2⟩
theorem rs_sums (h : REL hb sp rb rs ee hh ss uu vv rr tt gg dd bd ga im c q) (t w : Int) : CMP 3 (c_sums ee hh rr t w).1 (c_sums ee hh rr t w).2.1 (k_sums c q t w).1 (k_sums c q t w).2 ∧ REL hb sp rb rs (c_sums ee hh rr t w).2.2.1 hh ss uu vv (c_sums ee hh rr t w).2.2.2 tt gg dd bd ga im c (k_sums c q t w).2 := by
  obtain ⟨t1, t2⟩ := to_sums (t := t) (w := w) h.xc h.xb h.xre
  exact ⟨TO_C t1, h.ask (TO_E t1) t2⟩
theorem rs_led (h : REL hb sp rb rs ee hh ss uu vv rr tt gg dd bd ga im c q) (k t : Int) : CMP 2 (c_led ee hh rr k t).1 (c_led ee hh rr k t).2.1 (k_led c q k t).1 (k_led c q k t).2 ∧ REL hb sp rb rs (c_led ee hh rr k t).2.2.1 hh ss uu vv (c_led ee hh rr k t).2.2.2 tt gg dd bd ga im c (k_led c q k t).2 := by
  obtain ⟨t1, t2⟩ := to_led (k := k) (t := t) h.xc h.xb h.xre
  exact ⟨TO_C t1, h.ask (TO_E t1) t2⟩
theorem rs_line (h : REL hb sp rb rs ee hh ss uu vv rr tt gg dd bd ga im c q) (x y xa ya t : Int) : CMP 1 (c_line ee hh rr x y xa ya t).1 (c_line ee hh rr x y xa ya t).2.1 (k_line c q x y xa ya t).1 (k_line c q x y xa ya t).2 ∧ REL hb sp rb rs (c_line ee hh rr x y xa ya t).2.2.1 hh ss uu vv (c_line ee hh rr x y xa ya t).2.2.2 tt gg dd bd ga im c (k_line c q x y xa ya t).2 := by
  obtain ⟨t1, t2⟩ := to_line (x := x) (y := y) (xa := xa) (ya := ya) (t := t) h.xc h.xb h.xre
  exact ⟨TO_C t1, h.ask (TO_E t1) t2⟩
theorem rs_yards (h : REL hb sp rb rs ee hh ss uu vv rr tt gg dd bd ga im c q) (k t : Int) : CMP 2 (c_yards ee hh rr k t).1 (c_yards ee hh rr k t).2.1 (k_yards c q k t).1 (k_yards c q k t).2 ∧ REL hb sp rb rs (c_yards ee hh rr k t).2.2.1 hh ss uu vv (c_yards ee hh rr k t).2.2.2 tt gg dd bd ga im c (k_yards c q k t).2 := by
  obtain ⟨t1, t2⟩ := to_yards (k := k) (t := t) h.xc h.xb h.xre
  exact ⟨TO_C t1, h.ask (TO_E t1) t2⟩
theorem rs_seen (h : REL hb sp rb rs ee hh ss uu vv rr tt gg dd bd ga im c q) (k t : Int) : CMP 2 (c_seen ee hh rr k t).1 (c_seen ee hh rr k t).2.1 (k_seen c q k t).1 (k_seen c q k t).2 ∧ REL hb sp rb rs (c_seen ee hh rr k t).2.2.1 hh ss uu vv (c_seen ee hh rr k t).2.2.2 tt gg dd bd ga im c (k_seen c q k t).2 := by
  obtain ⟨t1, t2⟩ := to_seen (k := k) (t := t) h.xc h.xb h.xre
  exact ⟨TO_C t1, h.ask (TO_E t1) t2⟩
theorem rs_could (h : REL hb sp rb rs ee hh ss uu vv rr tt gg dd bd ga im c q) (x y t : Int) : CMP 1 (c_could ee hh rr x y t).1 (c_could ee hh rr x y t).2.1 (k_could c q x y t).1 (k_could c q x y t).2 ∧ REL hb sp rb rs (c_could ee hh rr x y t).2.2.1 hh ss uu vv (c_could ee hh rr x y t).2.2.2 tt gg dd bd ga im c (k_could c q x y t).2 := by
  obtain ⟨t1, t2⟩ := to_could (x := x) (y := y) (t := t) h.xc h.xb h.xre
  exact ⟨TO_C t1, h.ask (TO_E t1) t2⟩
theorem rs_sees (h : REL hb sp rb rs ee hh ss uu vv rr tt gg dd bd ga im c q) (k l t : Int) : CMP 2 (c_sees ee hh rr k l t).1 (c_sees ee hh rr k l t).2.1 (k_sees c q k l t).1 (k_sees c q k l t).2 ∧ REL hb sp rb rs (c_sees ee hh rr k l t).2.2.1 hh ss uu vv (c_sees ee hh rr k l t).2.2.2 tt gg dd bd ga im c (k_sees c q k l t).2 := by
  obtain ⟨t1, t2⟩ := to_sees (k := k) (l := l) (t := t) h.xc h.xb h.xre
  exact ⟨TO_C t1, h.ask (TO_E t1) t2⟩
theorem rs_often (h : REL hb sp rb rs ee hh ss uu vv rr tt gg dd bd ga im c q) (k l : Int) : CMP 2 (c_often ee hh rr k l).1 (c_often ee hh rr k l).2.1 (k_often c q k l).1 (k_often c q k l).2 ∧ REL hb sp rb rs (c_often ee hh rr k l).2.2.1 hh ss uu vv (c_often ee hh rr k l).2.2.2 tt gg dd bd ga im c (k_often c q k l).2 := by
  obtain ⟨t1, t2⟩ := to_often (k := k) (l := l) h.xc h.xb h.xre
  exact ⟨TO_C t1, h.ask (TO_E t1) t2⟩
theorem rs_leaks (h : REL hb sp rb rs ee hh ss uu vv rr tt gg dd bd ga im c q) (k l w : Int) : CMP 2 (c_leaks ee hh rr k l w).1 (c_leaks ee hh rr k l w).2.1 (k_leaks c q k l w).1 (k_leaks c q k l w).2 ∧ REL hb sp rb rs (c_leaks ee hh rr k l w).2.2.1 hh ss uu vv (c_leaks ee hh rr k l w).2.2.2 tt gg dd bd ga im c (k_leaks c q k l w).2 := by
  obtain ⟨t1, t2⟩ := to_leaks (k := k) (l := l) (w := w) h.xc h.xb h.xre
  exact ⟨TO_C t1, h.ask (TO_E t1) t2⟩
theorem rs_whose (h : REL hb sp rb rs ee hh ss uu vv rr tt gg dd bd ga im c q) (x y : Int) : CMP 1 (c_whose ee hh rr x y).1 (c_whose ee hh rr x y).2.1 (k_whose c q x y).1 (k_whose c q x y).2 ∧ REL hb sp rb rs (c_whose ee hh rr x y).2.2.1 hh ss uu vv (c_whose ee hh rr x y).2.2.2 tt gg dd bd ga im c (k_whose c q x y).2 := by
  obtain ⟨t1, t2⟩ := to_whose (x := x) (y := y) h.xc h.xb h.xre
  exact ⟨TO_C t1, h.ask (TO_E t1) t2⟩
theorem rs_thick (h : REL hb sp rb rs ee hh ss uu vv rr tt gg dd bd ga im c q) (t : Int) : CMP 3 (c_thick ee hh rr t).1 (c_thick ee hh rr t).2.1 (k_thick c q t).1 (k_thick c q t).2 ∧ REL hb sp rb rs (c_thick ee hh rr t).2.2.1 hh ss uu vv (c_thick ee hh rr t).2.2.2 tt gg dd bd ga im c (k_thick c q t).2 := by
  obtain ⟨t1, t2⟩ := to_thick (t := t) h.xc h.xb h.xre
  exact ⟨TO_C t1, h.ask (TO_E t1) t2⟩
theorem rs_hid (h : REL hb sp rb rs ee hh ss uu vv rr tt gg dd bd ga im c q) (k : Int) : CMP 2 (c_hid ee hh rr k).1 (c_hid ee hh rr k).2.1 (k_hid c q k).1 (k_hid c q k).2 ∧ REL hb sp rb rs (c_hid ee hh rr k).2.2.1 hh ss uu vv (c_hid ee hh rr k).2.2.2 tt gg dd bd ga im c (k_hid c q k).2 := by
  obtain ⟨t1, t2⟩ := to_hid (k := k) h.xc h.xb h.xre
  exact ⟨TO_C t1, h.ask (TO_E t1) t2⟩
theorem rs_net (h : REL hb sp rb rs ee hh ss uu vv rr tt gg dd bd ga im c q) (k : Int) : CMP 2 (c_net ee hh rr k).1 (c_net ee hh rr k).2.1 (k_net c q k).1 (k_net c q k).2 ∧ REL hb sp rb rs (c_net ee hh rr k).2.2.1 hh ss uu vv (c_net ee hh rr k).2.2.2 tt gg dd bd ga im c (k_net c q k).2 := by
  obtain ⟨t1, t2⟩ := to_net (k := k) h.xc h.xb h.xre
  exact ⟨TO_C t1, h.ask (TO_E t1) t2⟩
theorem rs_worthless (h : REL hb sp rb rs ee hh ss uu vv rr tt gg dd bd ga im c q) (k m : Int) : CMP 2 (c_worthless ee hh rr k m).1 (c_worthless ee hh rr k m).2.1 (k_worthless c q k m).1 (k_worthless c q k m).2 ∧ REL hb sp rb rs (c_worthless ee hh rr k m).2.2.1 hh ss uu vv (c_worthless ee hh rr k m).2.2.2 tt gg dd bd ga im c (k_worthless c q k m).2 := by
  obtain ⟨t1, t2⟩ := to_worthless (k := k) (m := m) h.xc h.xb h.xre
  exact ⟨TO_C t1, h.ask (TO_E t1) t2⟩
theorem rs_ship (h : REL hb sp rb rs ee hh ss uu vv rr tt gg dd bd ga im c q) (k : Int) : CMP 2 (c_ship ee hh rr k).1 (c_ship ee hh rr k).2.1 (k_ship c q k).1 (k_ship c q k).2 ∧ REL hb sp rb rs (c_ship ee hh rr k).2.2.1 hh ss uu vv (c_ship ee hh rr k).2.2.2 tt gg dd bd ga im c (k_ship c q k).2 := by
  obtain ⟨t1, t2⟩ := to_ship (k := k) h.xc h.xb h.xre
  exact ⟨TO_C t1, h.ask (TO_E t1) t2⟩
theorem rs_calm (h : REL hb sp rb rs ee hh ss uu vv rr tt gg dd bd ga im c q) (t : Int) : CMP 3 (c_calm ee hh rr t).1 (c_calm ee hh rr t).2.1 (k_calm c q t).1 (k_calm c q t).2 ∧ REL hb sp rb rs (c_calm ee hh rr t).2.2.1 hh ss uu vv (c_calm ee hh rr t).2.2.2 tt gg dd bd ga im c (k_calm c q t).2 := by
  obtain ⟨t1, t2⟩ := to_calm (t := t) h.xc h.xb h.xre
  exact ⟨TO_C t1, h.ask (TO_E t1) t2⟩
theorem rs_start (h : REL hb sp rb rs ee hh ss uu vv rr tt gg dd bd ga im c q) (k w : Int) : CMP 2 (c_start ee hh rr k w).1 (c_start ee hh rr k w).2.1 (k_start c q k w).1 (k_start c q k w).2 ∧ REL hb sp rb rs (c_start ee hh rr k w).2.2.1 hh ss uu vv (c_start ee hh rr k w).2.2.2 tt gg dd bd ga im c (k_start c q k w).2 := by
  obtain ⟨t1, t2⟩ := to_start (k := k) (w := w) h.xc h.xb h.xre
  exact ⟨TO_C t1, h.ask (TO_E t1) t2⟩
theorem rs_buy (h : REL hb sp rb rs ee hh ss uu vv rr tt gg dd bd ga im c q) (k w : Int) : CMP 2 (c_buy ee hh rr k w).1 (c_buy ee hh rr k w).2.1 (k_buy c q k w).1 (k_buy c q k w).2 ∧ REL hb sp rb rs (c_buy ee hh rr k w).2.2.1 hh ss uu vv (c_buy ee hh rr k w).2.2.2 tt gg dd bd ga im c (k_buy c q k w).2 := by
  obtain ⟨t1, t2⟩ := to_buy (k := k) (w := w) h.xc h.xb h.xre
  exact ⟨TO_C t1, h.ask (TO_E t1) t2⟩
theorem rs_witnesses (h : REL hb sp rb rs ee hh ss uu vv rr tt gg dd bd ga im c q) (x y fr to al : Int) : CMP 1 (c_witnesses ee hh rr x y fr to al).1 (c_witnesses ee hh rr x y fr to al).2.1 (k_witnesses c q x y fr to al).1 (k_witnesses c q x y fr to al).2 ∧ REL hb sp rb rs (c_witnesses ee hh rr x y fr to al).2.2.1 hh ss uu vv (c_witnesses ee hh rr x y fr to al).2.2.2 tt gg dd bd ga im c (k_witnesses c q x y fr to al).2 := by
  obtain ⟨t1, t2⟩ := to_witnesses (x := x) (y := y) (fr := fr) (to := to) (al := al) h.xc h.xb h.xre
  exact ⟨TO_C t1, h.ask (TO_E t1) t2⟩
theorem rs_where (h : REL hb sp rb rs ee hh ss uu vv rr tt gg dd bd ga im c q) (k t : Int) : CMP 2 (c_where ee hh k t).1 (c_where ee hh k t).2.1 (k_where c q k t).1 (k_where c q k t).2 ∧ REL hb sp rb rs (c_where ee hh k t).2.2 hh ss uu vv rr tt gg dd bd ga im c (k_where c q k t).2 := by
  have t1 := to_where (k := k) (t := t) h.xc h.xb h.xre
  exact ⟨TO_C t1, h.ask0 (TO_E t1)⟩
theorem rs_lot (h : REL hb sp rb rs ee hh ss uu vv rr tt gg dd bd ga im c q) (k w : Int) : CMP 2 (c_lot ee hh k w).1 (c_lot ee hh k w).2.1 (k_lot c q k w).1 (k_lot c q k w).2 ∧ REL hb sp rb rs (c_lot ee hh k w).2.2 hh ss uu vv rr tt gg dd bd ga im c (k_lot c q k w).2 := by
  have t1 := to_lot (k := k) (w := w) h.xc h.xb h.xre
  exact ⟨TO_C t1, h.ask0 (TO_E t1)⟩
theorem rs_meet (h : REL hb sp rb rs ee hh ss uu vv rr tt gg dd bd ga im c q) (k l : Int) : CMP 2 (c_meet ee hh k l).1 (c_meet ee hh k l).2.1 (k_meet c q k l).1 (k_meet c q k l).2 ∧ REL hb sp rb rs (c_meet ee hh k l).2.2 hh ss uu vv rr tt gg dd bd ga im c (k_meet c q k l).2 := by
  have t1 := to_meet (k := k) (l := l) h.xc h.xb h.xre
  exact ⟨TO_C t1, h.ask0 (TO_E t1)⟩
theorem rs_told (h : REL hb sp rb rs ee hh ss uu vv rr tt gg dd bd ga im c q) (w : Int) : CMP 3 (c_told ee hh bd ga w).1 (c_told ee hh bd ga w).2.1 (k_told c q w).1 (k_told c q w).2 ∧ REL hb sp rb rs (c_told ee hh bd ga w).2.2 hh ss uu vv rr tt gg dd bd ga im c (k_told c q w).2 := by
  have t1 := to_told (w := w) h.xc h.xre h.xbc h.xgc
  exact ⟨TO_C t1, h.ask0 (TO_E t1)⟩
theorem rs_sold (h : REL hb sp rb rs ee hh ss uu vv rr tt gg dd bd ga im c q) (k t w : Int) : CMP 2 (c_sold ee hh rr aa bd k t w).1 (c_sold ee hh rr aa bd k t w).2.1 (k_sold c q k t w).1 (k_sold c q k t w).2 ∧ REL hb sp rb rs (c_sold ee hh rr aa bd k t w).2.2.1 hh ss uu vv (c_sold ee hh rr aa bd k t w).2.2.2.1 tt gg dd bd ga im c (k_sold c q k t w).2 := by
  obtain ⟨t1, t2⟩ := to_sold (aa := aa) (k := k) (t := t) (w := w) h.xc h.xb h.xre h.xbc
  exact ⟨TO_C t1, h.ask (TO_E t1) t2⟩
theorem rs_when (h : REL hb sp rb rs ee hh ss uu vv rr tt gg dd bd ga im c q) (k w : Int) : CMP 2 (c_when ee hh rr aa bd k w).1 (c_when ee hh rr aa bd k w).2.1 (k_when c q k w).1 (k_when c q k w).2 ∧ REL hb sp rb rs (c_when ee hh rr aa bd k w).2.2.1 hh ss uu vv (c_when ee hh rr aa bd k w).2.2.2.1 tt gg dd bd ga im c (k_when c q k w).2 := by
  obtain ⟨t1, t2⟩ := to_when (aa := aa) (k := k) (w := w) h.xc h.xb h.xre h.xbc
  exact ⟨TO_C t1, h.ask (TO_E t1) t2⟩
theorem rs_asked (h : REL hb sp rb rs ee hh ss uu vv rr tt gg dd bd ga im c q) (k t w v : Int) : CMP 2 (c_asked ee hh rr aa bd k t w v).1 (c_asked ee hh rr aa bd k t w v).2.1 (k_asked c q k t w v).1 (k_asked c q k t w v).2 ∧ REL hb sp rb rs (c_asked ee hh rr aa bd k t w v).2.2.1 hh ss uu vv (c_asked ee hh rr aa bd k t w v).2.2.2.1 tt gg dd bd ga im c (k_asked c q k t w v).2 := by
  obtain ⟨t1, t2⟩ := to_asked (aa := aa) (k := k) (t := t) (w := w) (v := v) h.xc h.xb h.xre h.xbc
  exact ⟨TO_C t1, h.ask (TO_E t1) t2⟩
theorem rs_gets (h : REL hb sp rb rs ee hh ss uu vv rr tt gg dd bd ga im c q) (i t w : Int) : CMP 3 (c_gets ee hh rr aa bd i t w).1 (c_gets ee hh rr aa bd i t w).2.1 (k_gets c q i t w).1 (k_gets c q i t w).2 ∧ REL hb sp rb rs (c_gets ee hh rr aa bd i t w).2.2.1 hh ss uu vv (c_gets ee hh rr aa bd i t w).2.2.2.1 tt gg dd bd ga im c (k_gets c q i t w).2 := by
  obtain ⟨t1, t2⟩ := to_gets (aa := aa) (i := i) (t := t) (w := w) h.xc h.xb h.xre h.xbc
  exact ⟨TO_C t1, h.ask (TO_E t1) t2⟩
theorem rs_clock (h : REL hb sp rb rs ee hh ss uu vv rr tt gg dd bd ga im c q) (k t w : Int) : CMP 2 (c_clock ee hh rr bd k t w).1 (c_clock ee hh rr bd k t w).2.1 (k_clock c q k t w).1 (k_clock c q k t w).2 ∧ REL hb sp rb rs (c_clock ee hh rr bd k t w).2.2.1 hh ss uu vv (c_clock ee hh rr bd k t w).2.2.2 tt gg dd bd ga im c (k_clock c q k t w).2 := by
  obtain ⟨t1, t2⟩ := to_clock (k := k) (t := t) (w := w) h.xc h.xb h.xre h.xbc
  exact ⟨TO_C t1, h.ask (TO_E t1) t2⟩
theorem rs_doubt (h : REL hb sp rb rs ee hh ss uu vv rr tt gg dd bd ga im c q) (x y s sd dq : Int) : CMP 1 (c_doubt hb ee hh tt x y s sd dq).1 (c_doubt hb ee hh tt x y s sd dq).2.1 (k_doubt c q x y s sd dq).1 (k_doubt c q x y s sd dq).2 ∧ REL hb sp rb rs (c_doubt hb ee hh tt x y s sd dq).2.2.1 hh ss uu vv rr (c_doubt hb ee hh tt x y s sd dq).2.2.2 gg dd bd ga im c (k_doubt c q x y s sd dq).2 := by
  obtain ⟨t1, t2⟩ := to_doubt (hb := hb) (x := x) (y := y) (s := s) (sd := sd) (dq := dq) h.xc h.xtb h.xfs h.xd.1 h.xt h.xre
  exact ⟨TO_C t1, h.askT (TO_E t1) t2⟩
theorem rs_span (h : REL hb sp rb rs ee hh ss uu vv rr tt gg dd bd ga im c q) (w sd dq mn v : Int) : CMP 2 (c_span hb ee hh tt w sd dq mn v).1 (c_span hb ee hh tt w sd dq mn v).2.1 (k_span c q w sd dq mn v).1 (k_span c q w sd dq mn v).2 ∧ REL hb sp rb rs (c_span hb ee hh tt w sd dq mn v).2.2.1 hh ss uu vv rr (c_span hb ee hh tt w sd dq mn v).2.2.2 gg dd bd ga im c (k_span c q w sd dq mn v).2 := by
  obtain ⟨t1, t2⟩ := to_span (hb := hb) (w := w) (sd := sd) (dq := dq) (mn := mn) (v := v) h.xc h.xtb h.xfs h.xd.1 h.xt h.xre
  exact ⟨TO3_C t1, h.askT (TO3_E t1) t2⟩
theorem rs_enough (h : REL hb sp rb rs ee hh ss uu vv rr tt gg dd bd ga im c q) (w yd sd dq mn : Int) : CMP 2 (c_enough hb ee hh tt w yd sd dq mn).1 (c_enough hb ee hh tt w yd sd dq mn).2.1 (k_enough c q w yd sd dq mn).1 (k_enough c q w yd sd dq mn).2 ∧ REL hb sp rb rs (c_enough hb ee hh tt w yd sd dq mn).2.2.1 hh ss uu vv rr (c_enough hb ee hh tt w yd sd dq mn).2.2.2 gg dd bd ga im c (k_enough c q w yd sd dq mn).2 := by
  obtain ⟨t1, t2⟩ := to_enough (hb := hb) (w := w) (yd := yd) (sd := sd) (dq := dq) (mn := mn) h.xc h.xtb h.xfs h.xd.1 h.xt h.xre
  exact ⟨TO3_C t1, h.askT (TO3_E t1) t2⟩
theorem rs_sure (h : REL hb sp rb rs ee hh ss uu vv rr tt gg dd bd ga im c q) (w k sd dq mn : Int) : CMP 2 (c_sure hb ee hh tt w k sd dq mn).1 (c_sure hb ee hh tt w k sd dq mn).2.1 (k_sure c q w k sd dq mn).1 (k_sure c q w k sd dq mn).2 ∧ REL hb sp rb rs (c_sure hb ee hh tt w k sd dq mn).2.2.1 hh ss uu vv rr (c_sure hb ee hh tt w k sd dq mn).2.2.2 gg dd bd ga im c (k_sure c q w k sd dq mn).2 := by
  obtain ⟨t1, t2⟩ := to_sure (hb := hb) (w := w) (k := k) (sd := sd) (dq := dq) (mn := mn) h.xc h.xtb h.xfs h.xd.1 h.xt h.xre
  exact ⟨TO3_C t1, h.askT (TO3_E t1) t2⟩
theorem rs_let (h : REL hb sp rb rs ee hh ss uu vv rr tt gg dd bd ga im c q) (i t w : Int) : CMP 2 (c_let ee hh uu rr aa bd i t w).1 (c_let ee hh uu rr aa bd i t w).2.1 (k_let c q i t w).1 (k_let c q i t w).2 ∧ REL hb sp rb rs (c_let ee hh uu rr aa bd i t w).2.2.1 hh ss (c_let ee hh uu rr aa bd i t w).2.2.2.1 vv (c_let ee hh uu rr aa bd i t w).2.2.2.2.1 tt gg dd bd ga im c (k_let c q i t w).2 := by
  obtain ⟨t1, t2, t3⟩ := to_let (aa := aa) (i := i) (t := t) (w := w) h.xc h.xb h.xre h.xbc h.xu
  exact ⟨TO_C t1, h.askU (TO_E t1) t2 t3⟩
theorem rs_ruled (h : REL hb sp rb rs ee hh ss uu vv rr tt gg dd bd ga im c q) (i t w : Int) : CMP 2 (c_ruled ee hh uu rr aa bd i t w).1 (c_ruled ee hh uu rr aa bd i t w).2.1 (k_ruled c q i t w).1 (k_ruled c q i t w).2 ∧ REL hb sp rb rs (c_ruled ee hh uu rr aa bd i t w).2.2.1 hh ss (c_ruled ee hh uu rr aa bd i t w).2.2.2.1 vv (c_ruled ee hh uu rr aa bd i t w).2.2.2.2.1 tt gg dd bd ga im c (k_ruled c q i t w).2 := by
  obtain ⟨t1, t2, t3⟩ := to_ruled (aa := aa) (i := i) (t := t) (w := w) h.xc h.xb h.xre h.xbc h.xu
  exact ⟨TO_C t1, h.askU (TO_E t1) t2 t3⟩
theorem rs_brings (h : REL hb sp rb rs ee hh ss uu vv rr tt gg dd bd ga im c q) (k t w : Int) : CMP 2 (c_brings ee hh uu rr aa bd k t w).1 (c_brings ee hh uu rr aa bd k t w).2.1 (k_brings c q k t w).1 (k_brings c q k t w).2 ∧ REL hb sp rb rs (c_brings ee hh uu rr aa bd k t w).2.2.1 hh ss (c_brings ee hh uu rr aa bd k t w).2.2.2.1 vv (c_brings ee hh uu rr aa bd k t w).2.2.2.2.1 tt gg dd bd ga im c (k_brings c q k t w).2 := by
  obtain ⟨t1, t2, t3⟩ := to_brings (aa := aa) (k := k) (t := t) (w := w) h.xc h.xb h.xre h.xbc h.xu
  exact ⟨TO_C t1, h.askU (TO_E t1) t2 t3⟩
theorem rs_guards (h : REL hb sp rb rs ee hh ss uu vv rr tt gg dd bd ga im c q) : (c_guards hh rr).1 = (k_guards c q).1 ∧ REL hb sp rb rs ee hh ss uu vv (c_guards hh rr).2 tt gg dd bd ga im c (k_guards c q).2 := by
  obtain ⟨t1, t2⟩ := to_guards (e := ee) h.xc h.xb h.xre
  refine ⟨?_, h.ask (TO_E t1) t2⟩
  rcases t1 with ⟨-, -, t3, -⟩ | ⟨t3, -⟩
  · exact t3
  · omega
theorem rs_right (h : REL hb sp rb rs ee hh ss uu vv rr tt gg dd bd ga im c q) : (c_right hh rr ga).1 = (k_right c q).1 ∧ REL hb sp rb rs ee hh ss uu vv (c_right hh rr ga).2 tt gg dd bd ga im c (k_right c q).2 := by
  obtain ⟨t1, t2, t3⟩ := to_right (q := q) h.xc h.xb h.xgc
  exact ⟨t1, h.ask ⟨by rw [t3]; exact RE_go h.xv (RE_put h.xre), rfl, rfl⟩ t2⟩
theorem rs_fault (h : REL hb sp rb rs ee hh ss uu vv rr tt gg dd bd ga im c q) : c_fault ee = (k_fault c q).1 ∧ REL hb sp rb rs ee hh ss uu vv rr tt gg dd bd ga im c (k_fault c q).2 := by
  exact ⟨h.2.2.2.1.2.2.2.1, h.now0⟩
theorem rs_status (h : REL hb sp rb rs ee hh ss uu vv rr tt gg dd bd ga im c q) (w : Int) : c_status ee w = (k_status q w).1 ∧ REL hb sp rb rs ee hh ss uu vv rr tt gg dd bd ga im c (k_status q w).2 := by
  exact ⟨to_status h.xre, h.now0⟩
theorem rs_count (h : REL hb sp rb rs ee hh ss uu vv rr tt gg dd bd ga im c q) (w : Int) : c_count ee w = (k_count c q w).1 ∧ REL hb sp rb rs ee hh ss uu vv rr tt gg dd bd ga im c (k_count c q w).2 := by
  refine ⟨?_, h.now0⟩
  have h1 := h.xi32.2
  have h2 := h.xtp.2.1
  unfold c_count k_count
  dsimp only
  rw [h1, h2]
end RS
