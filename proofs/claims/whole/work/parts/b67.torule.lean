/-! THE TIE: rule -/
theorem rr_cpD {src dst wid : Nat} {g : Int → am_F → am_F} (hg : ∀ (k : Int) (c : am_F), g k c = am_fold (fun (i : Int) (c : am_F) => am_put c (dst + k.toNat) i.toNat (c (src + k.toNat) i.toNat)) 0 wid c) (n : Nat) (hd : dst + n ≤ src) (c : am_F) : (∀ k j, k < n → j < wid → am_fold g 0 n c (dst + k) j = c (src + k) j) ∧ ∀ k, ¬ (dst ≤ k ∧ k < dst + n) → am_fold g 0 n c k = c k := by
  have h9 := am_fold_inv (P := fun i (x : am_F) => (∀ k j : Nat, (k : Int) < i → j < wid → x (dst + k) j = c (src + k) j) ∧ ∀ k : Nat, ¬ (dst ≤ k ∧ (k : Int) < dst + i) → x k = c k) (g := g) n 0 c ⟨fun k j a1 a2 => by omega, fun _ _ => rfl⟩ (fun i x a1 a2 hx => by
    obtain ⟨x1, x2⟩ := hx
    rw [hg]
    have h8 := am_fold_inv (P := fun m (y : am_F) => (∀ j : Nat, (j : Int) < m → y (dst + i.toNat) j = c (src + i.toNat) j) ∧ ∀ k : Nat, k ≠ dst + i.toNat → y k = x k) (g := fun (m : Int) (c : am_F) => am_put c (dst + i.toNat) m.toNat (c (src + i.toNat) m.toNat)) wid 0 x ⟨fun j a1 => by omega, fun _ _ => rfl⟩ (fun m y b1 b2 hy => by
      obtain ⟨y1, y2⟩ := hy
      refine ⟨fun j c1 => ?_, fun k hk => (am_put_kr hk).trans (y2 k hk)⟩
      by_cases e : j = m.toNat
      · subst e
        show am_put y (dst + i.toNat) m.toNat _ _ _ = _
        rw [am_put_s, y2 _ (by omega), x2 _ (by omega)]
      · show am_put y (dst + i.toNat) m.toNat _ _ _ = _
        rw [am_put_i e]
        exact y1 j (by omega))
    obtain ⟨y1, y2⟩ := h8
    refine ⟨fun k j b1 b2 => ?_, fun k hk => ?_⟩
    · by_cases e : (k : Int) = i
      · have e2 : k = i.toNat := by omega
        rw [e2]
        exact y1 j (by omega)
      · rw [y2 _ (by omega)]
        exact x1 k j (by omega) b2
    · rw [y2 _ (by omega)]
      exact x2 k (by omega))
  obtain ⟨h1, h2⟩ := h9
  exact ⟨fun k j a1 a2 => h1 k j (by omega) a2, fun k hk => h2 k (by omega)⟩
/-- the model where a rule stands -/
def mRs (c : am_F) (n : Int) : am_F := am_put (am_put (am_put (mRu c n) 0 3 (mRu c n 0 6)) 0 46 (mRu c n 0 47)) 0 48 (mRu c n 0 49)
def mRk (c : am_F) (n : Int) : am_F := k_cp_code (k_cp_part (mRs c n) (mRu c n 0 47)) (k_cp_part (mRs c n) (mRu c n 0 47) 0 48)
theorem rg_rule {ee c : am_F} {n : Int} (hN : n_range n 0 (if 200 < ee 0 7 then 200 else ee 0 7) = 0) (hT : TP ee c) : (0 ≤ n ∧ n ≤ ee 0 7) ∧ n ≤ 200 ∧ k_in n 0 (c 0 1) = 1 := by
  have e7 := hT.2.1
  rcases ti_rng n 0 (if 200 < ee 0 7 then 200 else ee 0 7) with ⟨-, -, a3⟩ | ⟨a1, -⟩
  · have h9 : n ≤ 200 ∧ n ≤ ee 0 7 := by split at a3 <;> omega
    rcases ti_rng n 0 (c 0 1) with ⟨-, b2, -⟩ | ⟨-, -, b3⟩
    · exact ⟨⟨a3.1, h9.2⟩, h9.1, b2⟩
    · omega
  · rw [a1] at hN; exact absurd hN (by decide)
theorem k_rule_in {ee c q : am_F} {n : Int} (hN : n_range n 0 (if 200 < ee 0 7 then 200 else ee 0 7) = 0) (hT : TP ee c) : k_rule c q n = if mRu c n 0 5 = 0 then (mRk c n 0 46, mRk c n, am_put q 0 0 0) else (am_w32 (mRu c n 0 5 - 10), am_put (mRu c n) 0 3 (mRu c n 0 6), am_put q 0 0 0) := by
  obtain ⟨-, a1, a2⟩ := rg_rule hN hT
  unfold k_rule
  simp only [a2, if_pos a1, reduceIte, Int.reduceEq, k_refuse0]
  rfl
theorem to_ruleX {ee c q : am_F} {n : Int} (hN : ¬ n_range n 0 (if 200 < ee 0 7 then 200 else ee 0 7) = 0) (hT : TP ee c) (hR : RE ee q) : TO 3 (n_range n 0 (if 200 < ee 0 7 then 200 else ee 0 7)) 0 ee (n_ref ee (n_range n 0 (if 200 < ee 0 7 then 200 else ee 0 7))) (k_rule c q n).1 (k_rule c q n).2.2 ∧ (k_rule c q n).2.1 = c := by
  have e7 := hT.2.1
  have e60 := hT.1
  rcases ti_rng n 0 (if 200 < ee 0 7 then 200 else ee 0 7) with ⟨a1, -⟩ | ⟨a1, -, a3⟩
  · exact absurd a1 hN
  · have h9 : k_in n 0 (c 0 1) = 0 ∨ (k_in n 0 (c 0 1) = 1 ∧ ¬ n ≤ 200) := by
      rcases ti_rng n 0 (c 0 1) with ⟨-, b2, b3⟩ | ⟨-, b2, -⟩
      · refine Or.inr ⟨b2, ?_⟩
        split at a3 <;> omega
      · exact Or.inl b2
    rw [a1]
    unfold k_rule
    rcases h9 with h9 | ⟨h9, h8⟩
    · simp only [h9, reduceIte, Int.reduceEq]
      exact ⟨TO_ref (by decide) (by decide) (by decide) hR, True.intro⟩
    · simp only [h9, if_neg h8, reduceIte, Int.reduceEq]
      exact ⟨TO_ref (by decide) (by decide) (by decide) hR, True.intro⟩
theorem to_ruleF {ee uu vv kk c q : am_F} {n : Int} (hN : n_range n 0 (if 200 < ee 0 7 then 200 else ee 0 7) = 0) (hT : TP ee c) (t : TpI ee) (hV : RvI vv) (hF : (c_ruleInto (am_put ee 0 7 0) vv (c_begin kk n)).2 0 4 ≠ 0) (hU : RuC uu c) (hB : RB c) : (c_ruleF ee vv kk n).1 = (k_rule c q n).1 ∧ (k_rule c q n).2.2 = am_put q 0 0 0 ∧ KRu c (k_rule c q n).2.1 ∧ ((c_ruleF ee vv kk n).2.1 0 8 = (k_rule c q n).2.1 0 3 ∧ TP (c_ruleF ee vv kk n).2.1 (k_rule c q n).2.1 ∧ ∀ k j, ¬ (k = 0 ∧ (j = 7 ∨ j = 8)) → (c_ruleF ee vv kk n).2.1 k j = ee k j) ∧ RvI (c_ruleF ee vv kk n).2.2.1 ∧ RuC uu (k_rule c q n).2.1 ∧ RB (k_rule c q n).2.1 := by
  obtain ⟨hn, h200, -⟩ := rg_rule hN hT
  obtain ⟨⟨h1, h2, -⟩, h3, h4, h5, h6⟩ := pp_rule (kk := kk) hT t hV hn h200
  rw [k_rule_in hN hT, if_neg (by rw [← h1.1]; exact hF)]
  unfold c_ruleF
  dsimp only
  rw [h1.1, h1.2.1]
  have hk : ∀ k, k ≠ 0 → k < 508 → ¬ (278 ≤ k ∧ k < 286) → am_put (mRu c n) 0 3 (mRu c n 0 6) k = c k := fun k k0 k1 k2 => (am_put_kr k0).trans (h4 k k0 k1 k2)
  have hj : ∀ j, j ≠ 1 → j ≠ 2 → j ≠ 3 → j ≠ 4 → j ≠ 5 → j ≠ 6 → j ≠ 7 → j ≠ 47 → j ≠ 49 → j ≠ 50 → am_put (mRu c n) 0 3 (mRu c n 0 6) 0 j = c 0 j := fun j j1 j2 j3 j4 j5 j6 j7 j47 j49 j50 => (am_put_i j3).trans (h5 j j1 j2 j4 j5 j6 j7 j47 j49 j50)
  obtain ⟨r1, r2⟩ := RuC_c (c' := am_put (mRu c n) 0 3 (mRu c n 0 6)) (fun k a1 a2 => hk k (by omega) (by omega) (by omega)) (fun k a1 a2 => hk k (by omega) (by omega) (by omega)) (hj 46 (by decide) (by decide) (by decide) (by decide) (by decide) (by decide) (by decide) (by decide) (by decide) (by decide)) hU hB
  refine ⟨rfl, rfl, ⟨fun k k0 k1 => hk k k0 (by omega) (by omega), fun j j1 j2 => hj j (by omega) (by omega) (by omega) (by omega) (by omega) (by omega) (by omega) (by omega) (by omega) (by omega)⟩, ⟨?_, ⟨?_, ?_, fun j hj => ?_⟩, fun k j hkj => ?_⟩, h2, r1, r2⟩
  · rw [am_put_s, am_put_s]
  · rw [am_put_i (by decide), am_put_s]; decide
  · rw [am_put_i (by decide), am_put_s, am_put_i (by decide), h6]
  · rw [am_put_i (by decide), am_put_s] at hj; omega
  · by_cases g : k = 0
    · rw [g, am_put_i (fun e => hkj ⟨g, Or.inr e⟩), am_put_i (fun e => hkj ⟨g, Or.inl e⟩)]
    · rw [am_put_k g, am_put_k g]
theorem to_ruleOK {ee uu vv kk c q : am_F} {n : Int} (hN : n_range n 0 (if 200 < ee 0 7 then 200 else ee 0 7) = 0) (hT : TP ee c) (t : TpI ee) (hV : RvI vv) (hOK : (c_ruleInto (am_put ee 0 7 0) vv (c_begin kk n)).2 0 4 = 0) : (c_ruleOK ee uu vv kk n).1 = (k_rule c q n).1 ∧ (k_rule c q n).2.2 = am_put q 0 0 0 ∧ KRu c (k_rule c q n).2.1 ∧ ((c_ruleOK ee uu vv kk n).2.1 0 8 = (k_rule c q n).2.1 0 3 ∧ TP (c_ruleOK ee uu vv kk n).2.1 (k_rule c q n).2.1 ∧ ∀ k j, ¬ (k = 0 ∧ (j = 7 ∨ j = 8)) → (c_ruleOK ee uu vv kk n).2.1 k j = ee k j) ∧ (RvI (c_ruleOK ee uu vv kk n).2.2.1 ∧ (c_ruleOK ee uu vv kk n).2.2.2.1 = uu) ∧ RuC (c_ruleOK ee uu vv kk n).2.2.1 (k_rule c q n).2.1 ∧ RB (k_rule c q n).2.1 := by
  obtain ⟨hn, h200, -⟩ := rg_rule hN hT
  obtain ⟨⟨h1, h2, hG⟩, h3, h4, h5, h6⟩ := pp_rule (kk := kk) hT t hV hn h200
  have h0 : mRu c n 0 5 = 0 := h1.1.symm.trans hOK
  rw [k_rule_in hN hT, if_pos h0]
  unfold c_ruleOK
  dsimp only
  rw [h1.2.1]
  obtain ⟨⟨⟨n1, n2, n3⟩, v1, -, -⟩, hO, hP⟩ := hG h0
  have h49 := h3.2.2.1
  have sj : ∀ j, j ≠ 3 → j ≠ 46 → j ≠ 48 → mRs c n 0 j = mRu c n 0 j := fun j j1 j2 j3 => by
    unfold mRs
    rw [am_put_i j3, am_put_i j2, am_put_i j1]
  have s46 : mRs c n 0 46 = mRu c n 0 47 := by
    unfold mRs
    rw [am_put_i (by decide), am_put_s]
  have s48 : mRs c n 0 48 = mRu c n 0 49 := am_put_s
  have s3 : mRs c n 0 3 = mRu c n 0 6 := by
    unfold mRs
    rw [am_put_i (by decide), am_put_i (by decide), am_put_s]
  have sk : ∀ k, k ≠ 0 → mRs c n k = mRu c n k := fun k k0 => by
    unfold mRs
    rw [am_put_kr k0, am_put_kr k0, am_put_kr k0]
  unfold mRk
  generalize mRs c n = S at *
  obtain ⟨p1, p2⟩ := rr_cpD (src := 278) (dst := 269) (wid := 3) (g := g_k_cp_part_2) (fun _ _ => rfl) (mRu c n 0 47).toNat (by omega) S
  have eP : k_cp_part S (mRu c n 0 47) = am_fold g_k_cp_part_2 0 (mRu c n 0 47).toNat S := rfl
  rw [← eP] at p1 p2
  generalize k_cp_part S (mRu c n 0 47) = P at *
  have P48 : P 0 48 = mRu c n 0 49 := (congrFun (p2 0 (by omega)) 48).trans s48
  rw [P48]
  obtain ⟨d1, d2⟩ := rr_cpD (src := 508) (dst := 287) (wid := 2) (g := g_k_cp_code_2) (fun _ _ => rfl) (mRu c n 0 49).toNat (by omega) P
  have eD : k_cp_code P (mRu c n 0 49) = am_fold g_k_cp_code_2 0 (mRu c n 0 49).toNat P := rfl
  rw [← eD] at d1 d2
  generalize k_cp_code P (mRu c n 0 49) = D at *
  have Dj : ∀ j, D 0 j = S 0 j := fun j => by rw [d2 0 (by omega), p2 0 (by omega)]
  have D46 : D 0 46 = mRu c n 0 47 := (Dj 46).trans s46
  have Dpart : ∀ (p : Int) (j : Nat), 0 ≤ p → p < mRu c n 0 47 → j < 3 → D (269 + p.toNat) j = mRu c n (278 + p.toNat) j := fun p j p0 p1' hj => by
    rw [d2 (269 + p.toNat) (by omega), p1 p.toNat j (by omega) hj, sk _ (by omega)]
  have Dcode : ∀ (k : Int) (j : Nat), 0 ≤ k → k < mRu c n 0 49 → j < 2 → D (287 + k.toNat) j = mRu c n (508 + k.toNat) j := fun k j k0 k1 hj => by
    rw [d1 k.toNat j (by omega) hj, p2 _ (by omega), sk _ (by omega)]
  have Dk : ∀ k, k ≠ 0 → k < 269 → D k = c k := fun k k0 k1 => by rw [d2 k (by omega), p2 k (by omega), sk k k0, h4 k k0 (by omega) (by omega)]
  refine ⟨n1.trans D46.symm, rfl, ⟨Dk, fun j j1 j2 => ?_⟩, ⟨?_, ⟨?_, ?_, fun j hj => ?_⟩, fun k j hkj => ?_⟩, ⟨h2, rfl⟩, ⟨⟨n1.trans D46.symm, by omega, by omega⟩, fun p q0 q1 => ?_⟩, fun p q0 q1 => ?_⟩
  · rw [Dj, sj j (by omega) (by omega) (by omega), h5 j (by omega) (by omega) (by omega) (by omega) (by omega) (by omega) (by omega) (by omega) (by omega)]
  · rw [am_put_s, Dj, s3]
  · rw [am_put_i (by decide), am_put_s]; decide
  · rw [am_put_i (by decide), am_put_s, Dj, sj 1 (by decide) (by decide) (by decide), h6]
  · rw [am_put_i (by decide), am_put_s] at hj; omega
  · by_cases g : k = 0
    · rw [g, am_put_i (fun e => hkj ⟨g, Or.inr e⟩), am_put_i (fun e => hkj ⟨g, Or.inl e⟩)]
    · rw [am_put_k g, am_put_k g]
  · rw [D46] at q1
    rw [Dpart p 0 q0 q1 (by decide), Dpart p 1 q0 q1 (by decide), Dpart p 2 q0 q1 (by decide)]
    obtain ⟨⟨b1, b2, b3⟩, b4, b, ⟨g, b5⟩, b6⟩ := hP p q0 q1
    have l9 := XE_lt g b5
    refine ⟨b1, b2, b3, ⟨g, b, 20, by decide, XE_c g (fun k k0 k1 => ?_) b5, b6⟩, fun k k0 k1 => ?_⟩
    · rw [Dcode k 0 (by omega) (by omega) (by decide), sh_c]
    · rw [Dcode k 0 (by omega) (by omega) (by decide), Dcode k 1 (by omega) (by omega) (by decide)]
      have h9 := hO k.toNat (by omega)
      exact h9
  · rw [D46] at q1
    rw [Dpart p 2 q0 q1 (by decide)]
    have := (hP p q0 q1).2.1
    omega
theorem Port_rule {h c c' r : am_F} (hE : KRu c c') (hP : PortI h c r) : PortI h c' r := by
  obtain ⟨hC, hTb, hFs, hz, hB⟩ := hP
  have hV := hC.2.1
  have hd := hB.1
  have e4 : c' 4 = c 4 := hE.1 4 (by decide) (by decide)
  have e6 : c' 6 = c 6 := hE.1 6 (by decide) (by decide)
  have e45 : c' 0 45 = c 0 45 := hE.2 45 (by decide) (by decide)
  have e30 : c' 0 30 = c 0 30 := hE.2 30 (by decide) (by decide)
  have e31 : c' 0 31 = c 0 31 := hE.2 31 (by decide) (by decide)
  have e58 : c' 0 58 = c 0 58 := hE.2 58 (by decide) (by decide)
  have e61 : c' 0 61 = c 0 61 := hE.2 61 (by decide) (by decide)
  have hV' : MdV c' := by
    unfold MdV
    rw [e4, e45, e30, e31]
    exact hV
  have hT : Told c c' := fun k hk => by
    have h2 := hV.2.2.1
    exact hE.1 k (by omega) (by omega)
  have hC' : HC h c' := HC_told hT hV' e45 hC
  have hTb' : TLb h c' := fun i a1 a2 => by
    have h5 : i < 6 := by
      have h1 := hC.2.2.2.1
      have h2 := hV.2.2.1
      unfold TN at h1
      omega
    rw [hE.1 (67 + i.toNat) (by omega) (by omega)]
    exact hTb i a1 a2
  have hFs' : TFs h c' := by
    unfold TFs
    rw [e6]
    exact hFs
  exact ⟨hC', hTb', hFs', hz, BaseI_swap hC hTb hFs hC' hTb' hFs' hz (by rw [e58, e61]; exact hd) hB⟩
