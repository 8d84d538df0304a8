/-! THE TIE: port -/
/-- what a reading leaves of the model: all but its own rows -/
def KPr (c c' : am_F) : Prop := (∀ k, k ≠ 0 → ¬ rdw k → c' k = c k) ∧ ∀ j, ¬ (1 ≤ j ∧ j ≤ 7) → j ≠ 56 → j ≠ 57 → c' 0 j = c 0 j
theorem Port_read {h c c' r : am_F} (hE : KPr c c') (hP : PortI h c r) : PortI h c' r := by
  obtain ⟨hC, hTb, hFs, hz, hB⟩ := hP
  have hV := hC.2.1
  have hd := hB.1
  have e4 : c' 4 = c 4 := hE.1 4 (by decide) (by unfold rdw; decide)
  have e6 : c' 6 = c 6 := hE.1 6 (by decide) (by unfold rdw; decide)
  have e45 : c' 0 45 = c 0 45 := hE.2 45 (by decide) (by decide) (by decide)
  have e30 : c' 0 30 = c 0 30 := hE.2 30 (by decide) (by decide) (by decide)
  have e31 : c' 0 31 = c 0 31 := hE.2 31 (by decide) (by decide) (by decide)
  have e58 : c' 0 58 = c 0 58 := hE.2 58 (by decide) (by decide) (by decide)
  have e61 : c' 0 61 = c 0 61 := hE.2 61 (by decide) (by decide) (by decide)
  have hV' : MdV c' := by
    unfold MdV
    rw [e4, e45, e30, e31]
    exact hV
  have hT : Told c c' := fun k hk => by
    have h2 := hV.2.2.1
    exact hE.1 k (by omega) (by unfold rdw; omega)
  have hC' : HC h c' := HC_told hT hV' e45 hC
  have hTb' : TLb h c' := fun i a1 a2 => by
    have h5 : i < 6 := by
      have h1 := hC.2.2.2.1
      have h2 := hV.2.2.1
      unfold TN at h1
      omega
    rw [hE.1 (67 + i.toNat) (by omega) (by unfold rdw; omega)]
    exact hTb i a1 a2
  have hFs' : TFs h c' := by
    unfold TFs
    rw [e6]
    exact hFs
  exact ⟨hC', hTb', hFs', hz, BaseI_swap hC hTb hFs hC' hTb' hFs' hz (by rw [e58, e61]; exact hd) hB⟩
theorem to_portX {ee c q : am_F} {n : Int} (hN : ¬ n_range n 0 (ee 0 7) = 0) (hT : TP ee c) (hR : RE ee q) : TO 3 (n_range n 0 (ee 0 7)) 0 ee (n_ref ee (n_range n 0 (ee 0 7))) (k_port c q n).1 (k_port c q n).2.2 ∧ (k_port c q n).2.1 = c := by
  rcases ti_rng n 0 (ee 0 7) with ⟨a1, -, -⟩ | ⟨a1, a2, -⟩
  · exact absurd a1 hN
  · have e7 := hT.2.1
    rw [e7] at a2
    unfold k_port
    simp only [a1, a2, reduceIte, Int.reduceEq]
    exact ⟨TO_ref (by decide) (by decide) (by decide) hR, True.intro⟩
/-- the model behind a port's text -/
def mRd (c : am_F) (n : Int) : am_F := am_put (am_wh w_k_port_52 62 (k_tellsNothing (am_put (am_put (k_starts c n) 0 56 0) 0 57 0))) 0 3 (am_wh w_k_port_52 62 (k_tellsNothing (am_put (am_put (k_starts c n) 0 56 0) 0 57 0)) 0 6)
theorem k_port_in {ee c q : am_F} {n : Int} (hN : n_range n 0 (ee 0 7) = 0) (hT : TP ee c) : k_port c q n = if mRd c n 0 5 = 0 then (k_stands (mRd c n) 4 3, k_stands (mRd c n), am_put q 0 0 0) else (am_w32 (mRd c n 0 5 - 10), mRd c n, am_put q 0 0 0) := by
  rcases ti_rng n 0 (ee 0 7) with ⟨-, a2, -⟩ | ⟨a1, -⟩
  · have e7 := hT.2.1
    rw [e7] at a2
    have e5 : mRd c n 0 5 = am_wh w_k_port_52 62 (k_tellsNothing (am_put (am_put (k_starts c n) 0 56 0) 0 57 0)) 0 5 := am_put_i (by decide)
    unfold k_port
    simp only [a2, reduceIte, Int.reduceEq, k_refuse0]
    rw [e5]
    rfl
  · rw [a1] at hN; exact absurd hN (by decide)
theorem rr_mRd {ee pp ss c : am_F} {n : Int} (hT : TP ee c) (t : TpI ee) (hS : SpI ss) (hN : n_range n 0 (ee 0 7) = 0) : ((c_readInto (am_put ee 0 7 0) ss (c_begin pp n)).2 0 4 = mRd c n 0 5 ∧ (c_readInto (am_put ee 0 7 0) ss (c_begin pp n)).2 0 5 = mRd c n 0 3) ∧ (mRd c n 0 5 = 0 → HR (c_readInto (am_put ee 0 7 0) ss (c_begin pp n)).1 (mRd c n)) ∧ SpI (c_readInto (am_put ee 0 7 0) ss (c_begin pp n)).1 ∧ KPr c (mRd c n) ∧ mRd c n 0 1 = 0 := by
  have hn : 0 ≤ n ∧ n ≤ ee 0 7 := by
    rcases ti_rng n 0 (ee 0 7) with ⟨-, -, a3⟩ | ⟨a1, -⟩
    · exact a3
    · rw [a1] at hN; exact absurd hN (by decide)
  obtain ⟨h1, h2, h3, h4⟩ := rr_port (pp := pp) hT t hS hn
  have e5 : mRd c n 0 5 = am_wh w_k_port_52 62 (k_tellsNothing (am_put (am_put (k_starts c n) 0 56 0) 0 57 0)) 0 5 := am_put_i (by decide)
  have e3 : mRd c n 0 3 = am_wh w_k_port_52 62 (k_tellsNothing (am_put (am_put (k_starts c n) 0 56 0) 0 57 0)) 0 6 := am_put_s
  have ek : ∀ k, k ≠ 0 → mRd c n k = am_wh w_k_port_52 62 (k_tellsNothing (am_put (am_put (k_starts c n) 0 56 0) 0 57 0)) k := fun k hk => am_put_kr hk
  have ej : ∀ j, j ≠ 3 → mRd c n 0 j = am_wh w_k_port_52 62 (k_tellsNothing (am_put (am_put (k_starts c n) 0 56 0) 0 57 0)) 0 j := fun j hj => am_put_i hj
  generalize am_wh w_k_port_52 62 (k_tellsNothing (am_put (am_put (k_starts c n) 0 56 0) 0 57 0)) = W at *
  generalize mRd c n = M at *
  refine ⟨⟨h1.1.trans e5.symm, h1.2.1.trans e3.symm⟩, fun g => HR_n (h2 (e5.symm.trans g)) ek (fun j hj => ej j (by omega)), h3, ⟨fun k k0 hk => ?_, fun j j1 j56 j57 => ?_⟩, ?_⟩
  · rw [ek k k0, h4.1 k k0 hk, am_put_kr k0, am_put_kr k0]
  · rw [ej j (by omega), h4.2 j (by omega) (by omega) (by omega) (by omega) j56 j57, am_put_i (by omega), am_put_i (by omega)]
  · rw [ej 1 (by decide), h4.2 1 (by decide) (by decide) (by decide) (by decide) (by decide) (by decide), am_put_i (by decide), am_put_s]
/-- a text at fault -/
theorem to_portF {ee pp ss c q : am_F} {n : Int} (hN : n_range n 0 (ee 0 7) = 0) (hT : TP ee c) (t : TpI ee) (hS : SpI ss) (hF : (c_readInto (am_put ee 0 7 0) ss (c_begin pp n)).2 0 4 ≠ 0) : (c_portF ee ss pp n).1 = (k_port c q n).1 ∧ (k_port c q n).2.2 = am_put q 0 0 0 ∧ KPr c (k_port c q n).2.1 ∧ ((c_portF ee ss pp n).2.1 0 8 = (k_port c q n).2.1 0 3 ∧ TP (c_portF ee ss pp n).2.1 (k_port c q n).2.1 ∧ (∀ k j, ¬ (k = 0 ∧ (j = 7 ∨ j = 8)) → (c_portF ee ss pp n).2.1 k j = ee k j)) ∧ SpI (c_portF ee ss pp n).2.2.1 := by
  obtain ⟨⟨h1, h2⟩, h3, h4, h5, h6⟩ := rr_mRd (pp := pp) hT t hS hN
  rw [k_port_in hN hT, if_neg (by rw [← h1]; exact hF)]
  unfold c_portF
  dsimp only
  rw [h1, h2]
  refine ⟨rfl, rfl, h5, ⟨am_put_s, ⟨?_, ?_, fun j hj => ?_⟩, fun k j hkj => ?_⟩, h4⟩
  · rw [am_put_i (by decide), am_put_s]; decide
  · rw [am_put_i (by decide), am_put_s, h6]
  · rw [am_put_i (by decide), am_put_s] at hj; omega
  · by_cases g : k = 0
    · rw [g, am_put_i (fun e => hkj ⟨g, Or.inr e⟩), am_put_i (fun e => hkj ⟨g, Or.inl e⟩)]
    · rw [am_put_k g, am_put_k g]
theorem f_at_00 (f : Nat → Int) (i k : Int) : f_at 0 f i k = 0 := f_at_0 f i k
/-- a text without fault -/
theorem to_portOK {ee hh pp ss uu rr dd bd ga c q : am_F} {n : Int} (hN : n_range n 0 (ee 0 7) = 0) (hT : TP ee c) (t : TpI ee) (hS : SpI ss) (hd : c 0 58 = -1 ∧ c 0 61 = -1) (hF : RnF rr) (hZ : RnZ rr) (hB0 : bd 0 0 = 12) (hG0 : ga 0 0 = 8) (hOK : (c_readInto (am_put ee 0 7 0) ss (c_begin pp n)).2 0 4 = 0) : (c_portOK ee hh ss uu pp rr dd bd ga n).1 = (k_port c q n).1 ∧ (k_port c q n).2.2 = am_put q 0 0 0 ∧ PortI (c_portOK ee hh ss uu pp rr dd bd ga n).2.2.1 (k_port c q n).2.1 (c_portOK ee hh ss uu pp rr dd bd ga n).2.2.2.2.2.2.1 ∧ (SpI (c_portOK ee hh ss uu pp rr dd bd ga n).2.2.1 ∧ (c_portOK ee hh ss uu pp rr dd bd ga n).2.2.2.1 = hh) ∧ MdWd (k_port c q n).2.1 ∧ ((c_portOK ee hh ss uu pp rr dd bd ga n).2.1 0 8 = (k_port c q n).2.1 0 3 ∧ TP (c_portOK ee hh ss uu pp rr dd bd ga n).2.1 (k_port c q n).2.1 ∧ ((c_portOK ee hh ss uu pp rr dd bd ga n).2.1 0 17 = 0 ∧ (k_port c q n).2.1 0 32 = 0) ∧ ∀ k j, ¬ (k = 0 ∧ (j = 7 ∨ j = 8 ∨ j = 17)) → (c_portOK ee hh ss uu pp rr dd bd ga n).2.1 k j = ee k j) ∧ ((∀ k, k ≠ 0 → (c_portOK ee hh ss uu pp rr dd bd ga n).2.2.2.2.1 k = uu k) ∧ (c_portOK ee hh ss uu pp rr dd bd ga n).2.2.2.2.1 0 0 = 0 ∧ (c_portOK ee hh ss uu pp rr dd bd ga n).2.2.2.2.1 0 1 = 0 ∧ (k_port c q n).2.1 0 46 = 0) ∧ (c_portOK ee hh ss uu pp rr dd bd ga n).2.2.2.2.2.2.2.1 0 0 = 0 ∧ BC (c_portOK ee hh ss uu pp rr dd bd ga n).2.2.2.2.2.2.2.2.1 (k_port c q n).2.1 ∧ GC (c_portOK ee hh ss uu pp rr dd bd ga n).2.2.2.2.2.2.2.2.2 (k_port c q n).2.1 := by
  obtain ⟨⟨h1, h2⟩, h3, h4, h5, h6⟩ := rr_mRd (pp := pp) hT t hS hN
  have h0 : mRd c n 0 5 = 0 := h1.symm.trans hOK
  have hR := h3 h0
  rw [k_port_in hN hT, if_pos h0]
  unfold c_portOK c_portT
  dsimp only
  rw [h2]
  obtain ⟨w1, w2, w3, w4, w5⟩ := rr_HC hR h4
  have hst := rr_stands (c := mRd c n) ⟨by have := hR.2.1.1; omega, by have := hR.2.2.1.1; omega, by have := hR.2.2.2.1.1; omega, by have := hR.2.2.2.2.1.1; omega, by have := hR.2.2.2.2.2.1.1; omega, by have := hR.2.2.2.2.2.2.1.1; omega, by have := hR.2.2.2.2.2.2.2.1.1; omega, by have := hR.2.2.2.2.2.2.2.2.1.1; omega⟩
  obtain ⟨-, -, ⟨z45, z30, z31, z32, z46, z48⟩, z0, zk⟩ := hst
  have k58 : k_stands (mRd c n) 0 58 = -1 := by rw [z0 58 (by decide) (by decide) (by decide) (by decide) (by decide) (by decide), h5.2 58 (by decide) (by decide) (by decide)]; exact hd.1
  have k61 : k_stands (mRd c n) 0 61 = -1 := by rw [z0 61 (by decide) (by decide) (by decide) (by decide) (by decide) (by decide), h5.2 61 (by decide) (by decide) (by decide)]; exact hd.2
  have k1 : k_stands (mRd c n) 0 1 = 0 := by rw [z0 1 (by decide) (by decide) (by decide) (by decide) (by decide) (by decide)]; exact h6
  have k3 : k_stands (mRd c n) 0 3 = mRd c n 0 3 := z0 3 (by decide) (by decide) (by decide) (by decide) (by decide) (by decide)
  generalize k_stands (mRd c n) = C at *
  generalize (c_readInto (am_put ee 0 7 0) ss (c_begin pp n)).1 = H at *
  refine ⟨w1.2.2.1.2.2.2.2.2, rfl, ⟨w1, w2, w3, w4, Base_begin w1 w2 w3 ⟨k58, k61⟩ hF hZ⟩, ⟨h4, rfl⟩, w5, ⟨?_, ⟨?_, ?_, fun j hj => ?_⟩, ⟨am_put_s, z32⟩, fun k j hkj => ?_⟩, ⟨fun k hk => ?_, ?_, am_put_s, z46⟩, am_put_s, ⟨⟨?_, ?_, fun k => ?_⟩, ⟨?_, fun i a1 a2 => ?_⟩, fun i a1 a2 => ?_⟩, ⟨?_, ?_, fun k => ?_⟩, ⟨?_, fun i a1 a2 => ?_⟩⟩
  · rw [am_put_i (by decide), am_put_s, k3]
  · rw [am_put_i (by decide), am_put_i (by decide), am_put_s]; decide
  · rw [am_put_i (by decide), am_put_i (by decide), am_put_s, k1]
  · rw [am_put_i (by decide), am_put_i (by decide), am_put_s] at hj; omega
  · by_cases g : k = 0
    · rw [g, am_put_i (fun e => hkj ⟨g, Or.inr (Or.inr e)⟩), am_put_i (fun e => hkj ⟨g, Or.inr (Or.inl e)⟩), am_put_i (fun e => hkj ⟨g, Or.inl e⟩)]
    · rw [am_put_k g, am_put_k g, am_put_k g]
  · rw [am_put_kr hk, am_put_kr hk]
  · rw [am_put_i (by decide), am_put_s]
  · rw [am_put_i (by decide)]; exact hB0
  · rw [am_put_s]; decide
  · rw [am_put_s, f_at_0]; decide
  · rw [am_put_s, z30]
  · rw [z30] at a2; omega
  · rw [z30] at a2; omega
  · rw [am_put_i (by decide)]; exact hG0
  · rw [am_put_s]; decide
  · rw [am_put_s, f_at_0, f_at_0]; decide
  · rw [am_put_s, z31]
  · rw [z31] at a2; omega
