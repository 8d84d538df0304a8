/-! THE TIE: a part of a rule -/
/-- between two parts -/
def PG (e v k c : am_F) : Prop := RR e k c ∧ RvI v ∧ (c 0 5 = 0 → ((v 0 0 = c 0 47 ∧ 0 ≤ c 0 47 ∧ c 0 47 ≤ 8) ∧ v 0 1 = c 0 49 ∧ c 0 50 = 0 ∧ f_fr v (c 0 47) = c 0 49) ∧ (∀ i : Nat, (i : Int) < c 0 49 → OrR (v 1 i) (c (508 + i) 0) (c (508 + i) 1)) ∧ ∀ p : Int, 0 ≤ p → p < c 0 47 → (v 2 p.toNat = c (278 + p.toNat) 0 ∧ f_fr v p = c (278 + p.toNat) 1 ∧ f_tp v p = c (278 + p.toNat) 2) ∧ c (278 + p.toNat) 2 ≤ c 0 49 ∧ ∃ b : Bool, XX c b 20 (c (278 + p.toNat) 1) (c (278 + p.toNat) 2) ∧ (c (278 + p.toNat) 0 = 0 → b = true))
theorem kp_e {c : am_F} (h0 : c 0 5 = 0) (hbb : k_blanks c = c) : k_partHere c = ph1 c (rP (k_wordHere c).1) := by
  have s11 : k_seven 1 12 12 15 23 0 0 = 776813 := by decide
  have s12 : k_seven 6 9 18 19 20 0 0 = 3379448 := by decide
  have s13 : k_seven 16 1 25 0 0 0 0 = 11716 := by decide
  have s14 : k_seven 13 15 19 20 0 0 0 = 267347 := by decide
  unfold k_partHere ph1 ph2 rP
  simp only [rr_isK h0, s11, s12, s13, s14, hbb, rr_if, ite_self]
/-- what a part leaves -/
def KR (c c' : am_F) : Prop := (∀ k, k ≠ 0 → k < 508 → ¬ (278 ≤ k ∧ k < 286) → c' k = c k) ∧ ∀ j, j ≠ 4 → j ≠ 5 → j ≠ 6 → j ≠ 47 → j ≠ 49 → j ≠ 50 → c' 0 j = c 0 j
theorem KR_t {a b c : am_F} (h : KR a b) (g : KR b c) : KR a c := ⟨fun k k0 k1 k2 => (g.1 k k0 k1 k2).trans (h.1 k k0 k1 k2), fun j j1 j2 j3 j4 j5 j6 => (g.2 j j1 j2 j3 j4 j5 j6).trans (h.2 j j1 j2 j3 j4 j5 j6)⟩
theorem KR_L {c d : am_F} (h : Lx c d) : KR c d := ⟨fun k k0 _ _ => h.1 k k0, fun j j1 j2 j3 _ _ _ => h.2 j j1 j2 j3⟩
theorem KR_w {c : am_F} {y a : Int} : KR c (k_wrong c y a) := by
  unfold k_wrong
  split
  · exact ⟨fun k k0 _ _ => by rw [am_put_kr k0, am_put_kr k0], fun j _ j2 j3 _ _ _ => by rw [am_put_i j3, am_put_i j2]⟩
  · exact ⟨fun _ _ _ _ => rfl, fun _ _ _ _ _ _ _ => rfl⟩
/-- the model where a part's words begin -/
def mPt (c : am_F) (w : Int) : am_F := am_put (am_put (k_skipWord c) (278 + (k_skipWord c 0 47).toNat) 0 w) (278 + (k_skipWord c 0 47).toNat) 1 (k_skipWord c 0 49)
def mPe (Y : am_F) : am_F := am_put (am_put Y (278 + (Y 0 47).toNat) 2 (Y 0 49)) 0 47 (Y 0 47 + 1)
theorem pp_go {e v k u c : am_F} {b : Bool} {F : am_F → am_F → am_F × am_F} {f : am_F → am_F} {w : Int} (t : TpI e) (hL : LV e b 20 0 F f) (hb : w = 0 → b = true) (hM : MI c) (hP : PG e v k c) (h0 : c 0 5 = 0) (hn : c 0 47 < 8) (hu : RR e u (k_skipWord c)) (hs : k_isSmall (k_byteAt c (c 0 4)) ≠ 0) (hk : ∀ k j, ¬ (k = 0 ∧ j = 4) → k_skipWord c k j = c k j) : PG e (if c_fine (c_needSign e (F v u).2 59) = 0 then (F v u).1 else f_endPart (F v u).1 w) (c_needSign e (F v u).2 59) (k_sign (mPe (f (mPt c w))) 59) ∧ (k_sign (mPe (f (mPt c w))) 59 0 5 = 0 → k_sign (mPe (f (mPt c w))) 59 0 47 = c 0 47 + 1) ∧ KR c (k_sign (mPe (f (mPt c w))) 59) := by
  obtain ⟨hR, hv, hG⟩ := hP
  obtain ⟨⟨⟨n1, n2, n3⟩, v1, d0, fr0⟩, hO, hPt⟩ := hG h0
  have s5 : k_skipWord c 0 5 = 0 := (hk 0 5 (by decide)).trans h0
  have e47 : k_skipWord c 0 47 = c 0 47 := hk 0 47 (by decide)
  have e49 : k_skipWord c 0 49 = c 0 49 := hk 0 49 (by decide)
  have mS : MR c (k_skipWord c) 1 0 := MR_le (MR_E (MR_r hM) (Ea_skip (Ea_r hM.1) hs)) (by decide)
  have hMS : MI (k_skipWord c) := MR_I hM mS (by decide) (by have := hM.2.2.2.1; omega)
  have hMP : MI (mPt c w) := MI_row (MI_row hMS (by omega)) (by omega)
  have hPj : ∀ j, mPt c w 0 j = k_skipWord c 0 j := fun j => by
    unfold mPt
    rw [am_put_k (by omega), am_put_k (by omega)]
  have hPk : ∀ m, m ≠ 0 → m ≠ 278 + (c 0 47).toNat → mPt c w m = c m := fun m m0 m1 => by
    unfold mPt
    rw [e47, am_put_kr m1, am_put_kr m1]
    exact funext fun j => hk m j (fun e => m0 e.1)
  have hP0 : mPt c w (278 + (c 0 47).toNat) 0 = w := by
    unfold mPt
    rw [e47, am_put_i (by decide), am_put_s]
  have hP1 : mPt c w (278 + (c 0 47).toNat) 1 = c 0 49 := by
    unfold mPt
    rw [e47, am_put_s, e49]
  have p49 : mPt c w 0 49 = c 0 49 := (hPj 49).trans e49
  have p47 : mPt c w 0 47 = c 0 47 := (hPj 47).trans e47
  have p50 : mPt c w 0 50 = 0 := ((hPj 50).trans (hk 0 50 (by decide))).trans d0
  have p5 : mPt c w 0 5 = 0 := (hPj 5).trans s5
  have pR : RR e u (mPt c w) := rr_c hu (by rw [hPk 1 (by decide) (by omega)]; exact (funext fun j => hk 1 j (fun e => absurd e.1 (by decide))).symm) (fun j _ => hPj j)
  generalize mPt c w = P at *
  have sP : SG e v P v u P := ⟨pR, hv, fun _ => ⟨⟨fun _ _ _ => rfl, fun _ _ => rfl⟩, by rw [p49]; exact v1, ⟨hMP.2.2.1.1, by omega⟩, fun i hi => by
    rw [hPk (508 + i) (by omega) (by omega)]
    exact hO i (by omega), fun _ _ => ⟨rfl, rfl⟩⟩⟩
  obtain ⟨c1, c2, c3, c4⟩ := lv_call hL sP hMP (fun _ => p50)
  generalize F v u = U at *
  generalize f P = Y at *
  have y47 : Y 0 47 = c 0 47 := (MR_47 c2).trans p47
  have y50 : Y 0 50 = 0 := by have := c2.2.2.2.1; omega
  have zj : ∀ j, j ≠ 47 → mPe Y 0 j = Y 0 j := fun j hj => by
    unfold mPe
    rw [am_put_i hj, am_put_k (by omega)]
  have z47 : mPe Y 0 47 = c 0 47 + 1 := by
    unfold mPe
    rw [am_put_s, y47]
  have zk : ∀ m, m ≠ 0 → m ≠ 278 + (c 0 47).toNat → mPe Y m = Y m := fun m m0 m1 => by
    unfold mPe
    rw [am_put_kr m0, y47, am_put_kr m1]
  have z2 : mPe Y (278 + (c 0 47).toNat) 2 = Y 0 49 := by
    unfold mPe
    rw [am_put_k (by omega), y47, am_put_s]
  have zi : ∀ j, j ≠ 2 → mPe Y (278 + (c 0 47).toNat) j = Y (278 + (c 0 47).toNat) j := fun j hj => by
    unfold mPe
    rw [am_put_k (by omega), y47, am_put_i hj]
  have zR : RR e U.2 (mPe Y) := rr_c c1.1 (zk 1 (by decide) (by omega)) (fun j hj => zj j (by omega))
  have zV : RdV (mPe Y) := zR.2.2.2.2.2.2
  generalize mPe Y = Z at *
  have tR := rr_sign zR t (show (0 : Int) ≤ 59 by decide)
  have sx := (k_sign_x (sg := 59) zV (by decide)).2
  have f5 := @rr_sign5 Z 59
  generalize k_sign Z 59 = T at *
  generalize c_needSign e U.2 59 = K at *
  have hKR : KR c T := ⟨fun m m0 m1 m2 => by rw [sx.1 m m0, zk m m0 (by omega), c2.2.1.2.1 m m0 m1, hPk m m0 (by omega)], fun j j1 j2 j3 j4 j5 j6 => by rw [sx.2 j j1 j2 j3, zj j j4, c2.2.1.2.2 j j1 j2 j3 j5 j6, hPj j, hk 0 j (fun e => j1 e.2)]⟩
  have h47 : T 0 47 = c 0 47 + 1 := (sx.2 47 (by decide) (by decide) (by decide)).trans z47
  refine ⟨?_, fun _ => h47, hKR⟩
  by_cases g : T 0 5 = 0
  · rw [if_neg (by rw [c_fine_1 (tR.1.trans g)]; decide)]
    have y5 : Y 0 5 = 0 := (zj 5 (by decide)).symm.trans (f5 g)
    obtain ⟨-, q2, q3⟩ := c4 y5
    obtain ⟨⟨w1, w2⟩, w3, w4, w5, w6⟩ := c1.2.2 y5
    have t49 : T 0 49 = Y 0 49 := (sx.2 49 (by decide) (by decide) (by decide)).trans (zj 49 (by decide))
    have t47 : T 0 47 = c 0 47 + 1 := (sx.2 47 (by decide) (by decide) (by decide)).trans z47
    have t50 : T 0 50 = 0 := ((sx.2 50 (by decide) (by decide) (by decide)).trans (zj 50 (by decide))).trans y50
    have u0 : U.1 0 0 = c 0 47 := (w2 0 (by decide)).trans n1
    have eE : f_endPart U.1 w = am_put (am_put (am_put U.1 2 (c 0 47).toNat w) 3 (c 0 47).toNat (Y 0 49)) 0 0 (c 0 47 + 1) := by
      unfold f_endPart
      rw [if_pos (by omega), u0, w3]
    have hI := f_endPart_I c1.2.1 w
    rw [eE] at hI ⊢
    have tOld : ∀ m, m ≠ 0 → m < 508 → m ≠ 278 + (c 0 47).toNat → T m = c m := fun m m0 m5 m1 => by
      rw [sx.1 m m0, zk m m0 m1, c2.2.1.2.1 m m0 m5, hPk m m0 m1]
    have tCode : ∀ i : Nat, T (508 + i) = Y (508 + i) := fun i => by rw [sx.1 _ (by omega), zk _ (by omega) (by omega)]
    have yCode : ∀ i : Int, 0 ≤ i → i < c 0 49 → Y (508 + i.toNat) = c (508 + i.toNat) := fun i i0 i1 => by
      rw [q3 i i0 (by omega), hPk _ (by omega) (by omega)]
    have l9 := XX_lt q2
    have h49 := w4.2
    refine ⟨tR, hI, fun _ => ⟨⟨⟨?_, by omega, by omega⟩, ?_, t50, ?_⟩, fun i hi => ?_, fun p p0 p1 => ?_⟩⟩
    · rw [am_put_s, t47]
    · rw [am_put_i (by decide), am_put_k (by decide), am_put_k (by decide), w3, t49]
    · unfold f_fr
      rw [t47, if_pos (by omega), am_put_k (by decide), show (c 0 47 + 1 - 1).toNat = (c 0 47).toNat by omega, am_put_s, t49]
    · rw [am_put_k (by decide), am_put_k (by decide), am_put_k (by decide), tCode]
      exact w5 i (by omega)
    · rw [t47] at p1
      by_cases e9 : p = c 0 47
      · subst e9
        rw [show T (278 + (c 0 47).toNat) = Z (278 + (c 0 47).toNat) from sx.1 _ (by omega), zi 0 (by decide), zi 1 (by decide), z2, c2.2.1.2.1 (278 + (c 0 47).toNat) (by omega) (by omega), hP0, hP1, t49]
        refine ⟨⟨?_, ?_, ?_⟩, Int.le_refl _, b, XX_c (fun i i0 i1 => by rw [tCode]) (p49 ▸ q2), hb⟩
        · rw [am_put_k (by decide), am_put_k (by decide), am_put_s]
        · rw [← fr0]
          unfold f_fr
          by_cases g9 : 0 < c 0 47 ∧ c 0 47 ≤ 8
          · rw [if_pos g9, if_pos g9, am_put_k (by decide), am_put_i (by omega), am_put_k (by decide), w1 3 (by decide) (by decide)]
          · rw [if_neg g9, if_neg g9]
        · unfold f_tp
          rw [if_pos (by omega), am_put_k (by decide), am_put_s]
      · obtain ⟨⟨a1, a2, a3⟩, a4, b9, a5, a6⟩ := hPt p p0 (by omega)
        have al := XX_lt a5
        rw [tOld (278 + p.toNat) (by omega) (by omega) (by omega)]
        refine ⟨⟨?_, ?_, ?_⟩, by omega, b9, XX_c (fun i i0 i1 => by rw [tCode, yCode i (by omega) (by omega)]) a5, a6⟩
        · rw [am_put_k (by decide), am_put_k (by decide), am_put_i (by omega), w1 2 (by decide) (by decide)]
          exact a1
        · rw [← a2]
          unfold f_fr
          by_cases g9 : 0 < p ∧ p ≤ 8
          · rw [if_pos g9, if_pos g9, am_put_k (by decide), am_put_i (by omega), am_put_k (by decide), w1 3 (by decide) (by decide)]
          · rw [if_neg g9, if_neg g9]
        · rw [← a3]
          unfold f_tp
          rw [if_pos (by omega), if_pos (by omega), am_put_k (by decide), am_put_i (by omega), am_put_k (by decide), w1 3 (by decide) (by decide)]
  · rw [if_pos (c_fine_0 (by rw [tR.1]; exact g))]
    exact ⟨tR, c1.2.1, fun g' => absurd g' g⟩
/-- a part at fault: the class reads on, nothing changes -/
theorem pp_fault {e v K D : am_F} {b : Bool} {F : am_F → am_F → am_F × am_F} {f : am_F → am_F} {w : Int} (hL : LV e b 20 0 F f) (hv : RvI v) (hR : RR e K D) (h5 : D 0 5 ≠ 0) : PG e (if c_fine (c_needSign e (F v K).2 59) = 0 then (F v K).1 else f_endPart (F v K).1 w) (c_needSign e (F v K).2 59) D := by
  have hK : K 0 4 ≠ 0 := by rw [hR.1]; exact h5
  obtain ⟨x1, x2, x3⟩ := hL.2.1 v K hK hv hR.2.2.2.2.2.1
  obtain ⟨y1, y2⟩ := hL.2.2.1 v K hv hR.2.2.2.2.2.1
  have hU : (F v K).2 0 4 ≠ 0 := by rw [x1]; exact hK
  rw [needSign_s hU, if_pos (c_fine_0 hU)]
  exact ⟨rr_still hR h5 y2 x3 x1 x2, y1, fun g => absurd g h5⟩
theorem c_readPart_e (e v k : am_F) (ps : Int) (F : am_F → am_F → am_F × am_F) (hF : F = if c_partKind e (c_word e k).2 = 0 then rd_ch e else rd_sm e) : c_readPart e v k ps = (if c_fine (c_needSign e (F v (if c_partKind e (c_word e k).2 = -1 then c_wrong (c_word e k).2 1 ((c_word e k).2 0 3) else if ps < 8 then (c_word e k).2 else c_wrong (c_word e k).2 3 ((c_word e k).2 0 3))).2 59) = 0 then (F v (if c_partKind e (c_word e k).2 = -1 then c_wrong (c_word e k).2 1 ((c_word e k).2 0 3) else if ps < 8 then (c_word e k).2 else c_wrong (c_word e k).2 3 ((c_word e k).2 0 3))).1 else f_endPart (F v (if c_partKind e (c_word e k).2 = -1 then c_wrong (c_word e k).2 1 ((c_word e k).2 0 3) else if ps < 8 then (c_word e k).2 else c_wrong (c_word e k).2 3 ((c_word e k).2 0 3))).1 (c_partKind e (c_word e k).2), c_needSign e (F v (if c_partKind e (c_word e k).2 = -1 then c_wrong (c_word e k).2 1 ((c_word e k).2 0 3) else if ps < 8 then (c_word e k).2 else c_wrong (c_word e k).2 3 ((c_word e k).2 0 3))).2 59) := by
  subst hF
  unfold c_readPart
  dsimp only
  by_cases g : c_partKind e (c_word e k).2 = 0
  · rw [if_pos g, if_pos g, if_pos g]
  · rw [if_neg g, if_neg g, if_neg g]
theorem pp_part {e v k c : am_F} (t : TpI e) (hM : MI c) (hP : PG e v k c) (h0 : c 0 5 = 0) (hbb : k_blanks c = c) : PG e (c_readPart e v k (c 0 47)).1 (c_readPart e v k (c 0 47)).2 (k_partHere c) ∧ (k_partHere c 0 5 = 0 → k_partHere c 0 47 = c 0 47 + 1) ∧ KR c (k_partHere c) := by
  have hR := hP.1
  have hv := hP.2.1
  obtain ⟨⟨⟨n1, n2, n3⟩, -⟩, -⟩ := hP.2.2 h0
  obtain ⟨wd, -, x3, x4, x5⟩ := rr_word hR t h0
  rw [hbb] at x3 x4 x5
  rw [kp_e h0 hbb, c_readPart_e e v k _ _ rfl, rr_partC wd]
  have hv0 : k_isSmall (k_byteAt c (c 0 4)) = 0 → (k_wordHere c).1 = 0 := fun g => (x4 g).2.2
  have hW : ∀ y : Int, y ≠ 0 → (y = 1 ∨ k_isSmall (k_byteAt c (c 0 4)) = 1) → RR e (c_wrong (c_word e k).2 y ((c_word e k).2 0 3)) (k_wrong c y (c 0 4)) := fun y hy hq => by
    rcases k_isSmall_s (k_byteAt c (c 0 4)) with ⟨b1, -⟩ | ⟨b1, -⟩
    · obtain ⟨y1, y2, y3, y4, y5⟩ := x5 b1
      rw [x3]
      exact rr_wrong2 y1 hy y3 h0 (y4 0 2 (by decide)).symm (by funext j; exact (y4 1 j (fun e => absurd e.1 (by decide))).symm) hM.1
    · obtain ⟨y1, -, -⟩ := x4 b1
      have e1 : y = 1 := by omega
      rw [e1, wrong_s (by rw [y1.1]; exact k_wrong_5 (by decide))]
      exact y1
  generalize (k_wordHere c).1 = V at *
  have hLs := rd_sm_LV t
  have hLc := rd_ch_LV t
  unfold ph1
  by_cases g1 : rP V = -1
  · rw [g1, if_pos rfl, if_pos rfl, if_neg (show ¬ (-1 : Int) = 0 by decide)]
    have hRR := hW 1 (by decide) (Or.inl rfl)
    have e2 : ph2 (k_wrong c 1 (c 0 4)) (-1) = k_wrong c 1 (c 0 4) := if_neg (k_wrong_5 (by decide))
    rw [e2]
    exact ⟨pp_fault hLs hv hRR (k_wrong_5 (by decide)), fun g => absurd g (k_wrong_5 (by decide)), KR_w⟩
  · rw [if_neg g1, if_neg g1]
    have hsm : k_isSmall (k_byteAt c (c 0 4)) = 1 := by
      rcases k_isSmall_s (k_byteAt c (c 0 4)) with ⟨b1, -⟩ | ⟨b1, -⟩
      · exact b1
      · exact absurd (by rw [hv0 b1]; exact rP_0) g1
    by_cases g8 : c 0 47 = 8
    · rw [if_pos g8, if_neg (show ¬ c 0 47 < 8 by omega)]
      have hRR := hW 3 (by decide) (Or.inr hsm)
      have e2 : ph2 (k_wrong c 3 (c 0 4)) (rP V) = k_wrong c 3 (c 0 4) := if_neg (k_wrong_5 (by decide))
      rw [e2]
      by_cases g0 : rP V = 0
      · rw [if_pos g0]
        exact ⟨pp_fault hLc hv hRR (k_wrong_5 (by decide)), fun g => absurd g (k_wrong_5 (by decide)), KR_w⟩
      · rw [if_neg g0]
        exact ⟨pp_fault hLs hv hRR (k_wrong_5 (by decide)), fun g => absurd g (k_wrong_5 (by decide)), KR_w⟩
    · rw [if_neg g8, if_pos (show c 0 47 < 8 by omega)]
      obtain ⟨y1, y2, y3, y4, y5⟩ := x5 hsm
      by_cases g0 : rP V = 0
      · have e2 : ph2 c (rP V) = k_sign (mPe (mr_or (mPt c (rP V)))) 59 := by
          unfold ph2 mPe mPt
          rw [if_pos h0]
          dsimp only
          rw [if_pos g0]
        rw [e2, if_pos g0]
        exact pp_go t hLc (fun _ => rfl) hM hP h0 (by omega) y1 (by rw [hsm]; decide) y4
      · have e2 : ph2 c (rP V) = k_sign (mPe (mr_sum (mPt c (rP V)))) 59 := by
          unfold ph2 mPe mPt
          rw [if_pos h0]
          dsimp only
          rw [if_neg g0]
        rw [e2, if_neg g0]
        exact pp_go t hLs (fun h => absurd h g0) hM hP h0 (by omega) y1 (by rw [hsm]; decide) y4
