/-! THE TIE: lots that are sold -/
def ti_bv (x i : Int) : Bool := (Int32.ofInt x).toBitVec.getLsbD i.toNat
theorem ti_lsb (w : BitVec 32) (n : Nat) (hn : n < 31) : (w.sshiftRight n) &&& 1#32 = if w.getLsbD n then 1#32 else 0#32 := by
  apply BitVec.eq_of_getLsbD_eq
  intro i hi
  rw [BitVec.getLsbD_and, BitVec.getLsbD_sshiftRight]
  by_cases h : i = 0
  · subst h
    cases hw : w.getLsbD n <;> simp [hw, hn, show n < 32 by omega]
  · have h1 : (1#32).getLsbD i = false := by
      have : ∀ i : Nat, i < 32 → ¬ i = 0 → (1#32).getLsbD i = false := by decide
      exact this i hi h
    rw [h1, Bool.and_false]
    cases hw : w.getLsbD n
    · simp
    · simp only [if_true]; exact h1.symm
theorem ti_bit {x i : Int} (hi : 0 ≤ i ∧ i < 12) : am_iand (am_ishr x i) 1 = 0 ↔ ti_bv x i = false := by
  have key : ∀ n : Nat, n < 31 → am_iand ((Int32.ofBitVec ((Int32.ofInt x).toBitVec.sshiftRight n)).toInt) 1 = if (Int32.ofInt x).toBitVec.getLsbD n then 1 else 0 := fun n hn => by
    unfold am_iand
    rw [Int32.ofInt_toInt]
    have e : (Int32.ofBitVec ((Int32.ofInt x).toBitVec.sshiftRight n) &&& Int32.ofInt 1) = Int32.ofBitVec (((Int32.ofInt x).toBitVec.sshiftRight n) &&& 1#32) := rfl
    rw [e, ti_lsb _ n hn]
    split <;> rfl
  have e : am_ishr x i = (Int32.ofBitVec ((Int32.ofInt x).toBitVec.sshiftRight i.toNat)).toInt := by
    have h12 : i = 0 ∨ i = 1 ∨ i = 2 ∨ i = 3 ∨ i = 4 ∨ i = 5 ∨ i = 6 ∨ i = 7 ∨ i = 8 ∨ i = 9 ∨ i = 10 ∨ i = 11 := by omega
    rcases h12 with rfl | rfl | rfl | rfl | rfl | rfl | rfl | rfl | rfl | rfl | rfl | rfl <;> rfl
  rw [e, key _ (by omega)]
  unfold ti_bv
  cases (Int32.ofInt x).toBitVec.getLsbD i.toNat <;> simp
theorem ti_shl12 : ∀ b i : Fin 12, (Int32.ofInt (am_ishl 1 b.val)).toBitVec.getLsbD i.val = decide (i = b) := by decide +kernel
theorem ti_bv_or {x b i : Int} (hb : 0 ≤ b ∧ b < 12) (hi : 0 ≤ i ∧ i < 12) : ti_bv (am_ior x (am_ishl 1 b)) i = false ↔ ti_bv x i = false ∧ i ≠ b := by
  unfold ti_bv am_ior
  rw [Int32.ofInt_toInt]
  have e : (Int32.ofInt x ||| Int32.ofInt (am_ishl 1 b)).toBitVec = (Int32.ofInt x).toBitVec ||| (Int32.ofInt (am_ishl 1 b)).toBitVec := rfl
  rw [e, BitVec.getLsbD_or]
  have h9 := ti_shl12 ⟨b.toNat, by omega⟩ ⟨i.toNat, by omega⟩
  have eb : ((b.toNat : Nat) : Int) = b := by omega
  simp only [eb] at h9
  rw [h9]
  by_cases g : i = b
  · subst g; simp
  · have : ¬ ((⟨i.toNat, by omega⟩ : Fin 12) = ⟨b.toNat, by omega⟩) := fun e => g (by have := congrArg Fin.val e; simp only [] at this; omega)
    rw [decide_eq_false this]
    simp [g]
theorem ti_bv0 (i : Int) : ti_bv 0 i = false := by
  unfold ti_bv
  have e : (Int32.ofInt 0).toBitVec = 0#32 := rfl
  rw [e]
  simp
/-! bids -/
def TBd (b c : am_F) : Prop := b 0 2 = c 0 30 ∧ ∀ i : Int, 0 ≤ i → i < c 0 30 → f_at (b 0 2) (b 1) i 0 = c (133 + i.toNat) 0 ∧ f_at (b 0 2) (b 1) i 1 = c (133 + i.toNat) 1 ∧ f_at (b 0 2) (b 1) i 2 = c (133 + i.toNat) 2
theorem ti_next {Q : am_F} {n : Int} (hn : 0 ≤ n ∧ n ≤ 12) (h : ∀ i : Int, n ≤ i → i < 12 → Q 5 i.toNat = 0) : f_nextUp Q = am_fold (g_nextUp Q) 0 n.toNat (-1) := by
  unfold f_nextUp
  rw [show (12 : Nat) = n.toNat + (12 - n).toNat by omega, ti_add]
  refine ti_foldid _ _ fun j a1 a2 => ?_
  unfold g_nextUp
  rw [if_neg (fun g => g.1 (h j (by omega) (by omega)))]
/-- how many wait -/
def ti_cnt (Q : am_F) : Nat → Nat
  | 0 => 0
  | n + 1 => ti_cnt Q n + (if Q 5 n = 0 then 0 else 1)
theorem ti_cnt_le (Q : am_F) : ∀ n, ti_cnt Q n ≤ n
  | 0 => Nat.le_refl _
  | n + 1 => by
    have := ti_cnt_le Q n
    unfold ti_cnt
    split <;> omega
theorem ti_cnt_0 {Q : am_F} : ∀ n, ti_cnt Q n = 0 → ∀ i, i < n → Q 5 i = 0
  | 0, _, i, hi => by omega
  | n + 1, h, i, hi => by
    unfold ti_cnt at h
    have h9 := ti_cnt_0 (Q := Q) n (by omega)
    by_cases e : i = n
    · rw [e]
      by_cases g : Q 5 n = 0
      · exact g
      · rw [if_neg g] at h; omega
    · exact h9 i (by omega)
theorem ti_cnt_eq {Q Q' : am_F} : ∀ n, (∀ i, i < n → (Q' 5 i = 0 ↔ Q 5 i = 0)) → ti_cnt Q' n = ti_cnt Q n
  | 0, _ => rfl
  | n + 1, h => by
    unfold ti_cnt
    rw [ti_cnt_eq n fun i hi => h i (by omega)]
    by_cases g : Q 5 n = 0
    · rw [if_pos g, if_pos ((h n (by omega)).mpr g)]
    · rw [if_neg g, if_neg (fun g2 => g ((h n (by omega)).mp g2))]
theorem ti_cnt_dec {Q Q' : am_F} {j : Nat} (hj : Q 5 j ≠ 0) (h0 : Q' 5 j = 0) (ho : ∀ i, i ≠ j → (Q' 5 i = 0 ↔ Q 5 i = 0)) : ∀ n, j < n → ti_cnt Q' n + 1 = ti_cnt Q n
  | 0, h => by omega
  | n + 1, h => by
    unfold ti_cnt
    by_cases e : j = n
    · rw [ti_cnt_eq n fun i hi => ho i (by omega), ← e, if_pos h0, if_neg hj]
    · have h9 := ti_cnt_dec hj h0 ho n (by omega)
      by_cases g : Q 5 n = 0
      · rw [if_pos g, if_pos ((ho n (fun e2 => e e2.symm)).mpr g)]; omega
      · rw [if_neg g, if_neg (fun g2 => g ((ho n (fun e2 => e e2.symm)).mp g2))]; omega
/-- the class's sale beside the model's, between two turns -/
def SR (c q0 : am_F) (k fl : Int) (x : Int × am_F) (y : Int × Int × am_F) : Prop := (x.1 = y.1 ∧ 0 ≤ x.1 ∧ x.1 ≤ 9000) ∧ (∀ i : Int, 0 ≤ i → i < c 0 30 → x.2 3 i.toNat = y.2.2 732 i.toNat ∧ (ti_bv y.2.1 i = false → y.2.2 732 i.toNat = 0) ∧ x.2 2 i.toNat = c (133 + i.toNat) 2) ∧ x.2 0 5 = y.2.2 0 67 ∧ (0 < x.1 → ∀ i : Int, 0 ≤ i → i < c 0 30 → (x.2 5 i.toNat ≠ 0 ↔ ti_bv y.2.1 i = false ∧ c (133 + i.toNat) 0 = k ∧ fl ≤ c (133 + i.toNat) 2)) ∧ (∀ i : Int, c 0 30 ≤ i → i < 12 → x.2 5 i.toNat = 0) ∧ (∀ m, m ≠ 732 → m ≠ 0 → y.2.2 m = q0 m) ∧ ∀ j, j ≠ 67 → y.2.2 0 j = q0 0 j
theorem ti_selM {c : am_F} {k fl dn : Int} : ∀ n : Nat, (n : Int) ≤ c 0 30 → c 0 30 ≤ 12 → (am_fold (g_k_sells_48 c k fl dn) 0 n (-1) = -1 ∧ ∀ i : Int, 0 ≤ i → i < n → ¬ (ti_bv dn i = false ∧ c (133 + i.toNat) 0 = k ∧ fl ≤ c (133 + i.toNat) 2)) ∨ (0 ≤ am_fold (g_k_sells_48 c k fl dn) 0 n (-1) ∧ am_fold (g_k_sells_48 c k fl dn) 0 n (-1) < n ∧ ti_bv dn (am_fold (g_k_sells_48 c k fl dn) 0 n (-1)) = false ∧ c (133 + (am_fold (g_k_sells_48 c k fl dn) 0 n (-1)).toNat) 0 = k ∧ fl ≤ c (133 + (am_fold (g_k_sells_48 c k fl dn) 0 n (-1)).toNat) 2) := by
  intro n
  induction n with
  | zero => intro _ _; exact Or.inl ⟨rfl, fun i h1 h2 => by omega⟩
  | succ n ih =>
    intro hn h12
    have ih9 := ih (by omega) h12
    rw [ti_last, show (0 : Int) + (n : Int) = n by omega]
    generalize am_fold (g_k_sells_48 c k fl dn) 0 n (-1) = b at *
    unfold g_k_sells_48
    have hb := ti_bit (x := dn) (i := n) (by omega)
    by_cases g1 : am_iand (am_ishr dn n) 1 = 0
    · by_cases g2 : c (133 + (n : Int).toNat) 0 = k
      · by_cases g3 : c (133 + (n : Int).toNat) 2 < fl
        · rw [if_pos g1, if_pos g2, if_pos g3]
          rcases ih9 with ⟨p1, p2⟩ | ⟨p1, p2, p3⟩
          · refine Or.inl ⟨p1, fun i h1 h2 h3 => ?_⟩
            by_cases e : i = n
            · rw [e] at h3; omega
            · exact p2 i h1 (by omega) h3
          · exact Or.inr ⟨p1, by omega, p3⟩
        · rw [if_pos g1, if_pos g2, if_neg g3]
          rcases ih9 with ⟨p1, p2⟩ | ⟨p1, p2, p3⟩
          · rw [if_pos p1]
            exact Or.inr ⟨by omega, by omega, hb.mp g1, g2, by omega⟩
          · rw [if_neg (by omega)]
            split
            · exact Or.inr ⟨p1, by omega, p3⟩
            · exact Or.inr ⟨by omega, by omega, hb.mp g1, g2, by omega⟩
      · rw [if_pos g1, if_neg g2]
        rcases ih9 with ⟨p1, p2⟩ | ⟨p1, p2, p3⟩
        · refine Or.inl ⟨p1, fun i h1 h2 h3 => ?_⟩
          by_cases e : i = n
          · rw [e] at h3; exact g2 h3.2.1
          · exact p2 i h1 (by omega) h3
        · exact Or.inr ⟨p1, by omega, p3⟩
    · rw [if_neg g1]
      rcases ih9 with ⟨p1, p2⟩ | ⟨p1, p2, p3⟩
      · refine Or.inl ⟨p1, fun i h1 h2 h3 => ?_⟩
        by_cases e : i = n
        · rw [e] at h3; exact g1 (hb.mpr h3.1)
        · exact p2 i h1 (by omega) h3
      · exact Or.inr ⟨p1, by omega, p3⟩
/-- both choose the same bid -/
theorem ti_selC {c q0 : am_F} {k fl : Int} {x : Int × am_F} {y : Int × Int × am_F} (h12 : 0 ≤ c 0 30 ∧ c 0 30 ≤ 12) (hR : SR c q0 k fl x y) (hl : 0 < x.1) : f_nextUp x.2 = am_fold (g_k_sells_48 c k fl y.2.1) 0 (c 0 30).toNat (-1) := by
  obtain ⟨r1, r2, r3, r4, r5, r6, r7⟩ := hR
  rw [ti_next h12 r5]
  refine (ti_rel (R := fun i (a b : Int) => a = b ∧ (a = -1 ∨ (0 ≤ a ∧ a < c 0 30))) (f := g_nextUp x.2) (g := g_k_sells_48 c k fl y.2.1) (c 0 30).toNat 0 (-1) (-1) ⟨rfl, Or.inl rfl⟩ fun i a b a1 a2 hR => ?_).1
  obtain ⟨rfl, ha⟩ := hR
  have hw := r4 hl i a1 (by omega)
  have hb := ti_bit (x := y.2.1) (i := i) (by omega)
  have hp := (r2 i a1 (by omega)).2.2
  unfold g_nextUp g_k_sells_48
  by_cases g1 : am_iand (am_ishr y.2.1 i) 1 = 0
  · by_cases g2 : c (133 + i.toNat) 0 = k
    · by_cases g3 : c (133 + i.toNat) 2 < fl
      · rw [if_neg (fun g => by have := (hw.mp g.1).2.2; omega), if_pos g1, if_pos g2, if_pos g3]
        exact ⟨rfl, ha⟩
      · have hw1 : x.2 5 i.toNat ≠ 0 := hw.mpr ⟨hb.mp g1, g2, by omega⟩
        rw [if_pos g1, if_pos g2, if_neg g3, hp]
        by_cases g4 : a = -1
        · rw [if_pos ⟨hw1, Or.inl g4⟩, if_pos g4]
          exact ⟨rfl, by omega⟩
        · rw [if_neg g4]
          have hpa := (r2 a (by omega) (by omega)).2.2
          by_cases g5 : c (133 + i.toNat) 2 ≤ c (133 + a.toNat) 2
          · rw [if_neg (fun g => g.2.elim g4 (fun g6 => by rw [hpa] at g6; omega)), if_pos g5]
            exact ⟨rfl, ha⟩
          · rw [if_pos ⟨hw1, Or.inr (by rw [hpa]; omega)⟩, if_neg g5]
            exact ⟨rfl, by omega⟩
    · rw [if_neg (fun g => g2 (hw.mp g.1).2.1), if_pos g1, if_neg g2]
      exact ⟨rfl, ha⟩
  · rw [if_neg (fun g => g1 (hb.mpr (hw.mp g.1).1)), if_neg g1]
    exact ⟨rfl, ha⟩
theorem ti_less (x y : Int) : k_less x y = if y < x then y else x := by unfold k_less; split <;> split <;> omega
/-- one turn of the model where something is left and a bid waits; where nothing is left -/
theorem ti_turnM {c q0 : am_F} {k fl : Int} {x : Int × am_F} {y : Int × Int × am_F} (h12 : 0 ≤ c 0 30 ∧ c 0 30 ≤ 12) (hB : MdB c) (hR : SR c q0 k fl x y) (h0 : x.1 = 0) : ∀ F, SR c q0 k fl x (am_wh (w_k_sells_42 c k fl) F y) := by
  have hx := hR.1
  refine fun F => (am_wh_inv (P := fun y => SR c q0 k fl x y) (fun y y' hP he => ?_) (fun y y' hP he => ?_) F y hR)
  · obtain ⟨r1, r2, r3, r4, r5, r6, r7⟩ := hP
    unfold w_k_sells_42 at he
    simp only [] at he
    have hs := ti_selM (c := c) (k := k) (fl := fl) (dn := y.2.1) (c 0 30).toNat (by omega) h12.2
    generalize am_fold (g_k_sells_48 c k fl y.2.1) 0 (c 0 30).toNat (-1) = b at *
    by_cases g : b = -1
    · rw [if_pos g] at he; cases he
    · rw [if_neg g] at he
      obtain ⟨p1, p2, p3, p4, p5⟩ : 0 ≤ b ∧ b < c 0 30 ∧ ti_bv y.2.1 b = false ∧ c (133 + b.toNat) 0 = k ∧ fl ≤ c (133 + b.toNat) 2 := by
        rcases hs with ⟨s1, s2⟩ | ⟨s1, s2, s3⟩
        · exact absurd s1 g
        · exact ⟨s1, by omega, s3⟩
      have hw := (hB b p1 p2).2.1
      have el : k_less y.1 (c (133 + b.toNat) 1) = 0 := by rw [ti_less, if_neg (by omega)]; omega
      rw [el] at he
      simp only [Int.sub_zero, Int.le_refl, if_true] at he
      have e0 : y.2.2 732 b.toNat = 0 := (r2 b p1 p2).2.1 p3
      have he2 := Sum.inl.inj he
      rw [← he2]
      have ep : am_put (am_put y.2.2 732 b.toNat 0) 0 67 (y.2.2 0 67) = y.2.2 := by
        have : am_put y.2.2 732 b.toNat 0 = y.2.2 := by rw [← e0]; exact am_put_same _ _ _
        rw [this]; exact am_put_same _ _ _
      rw [ep]
      have e1 : am_w32 y.1 = y.1 := ti_w ⟨by omega, by omega⟩
      refine ⟨⟨by show x.1 = am_w32 y.1; rw [e1]; exact r1.1, r1.2⟩, fun i a1 a2 => ⟨(r2 i a1 a2).1, fun g9 => (r2 i a1 a2).2.1 ((ti_bv_or (by omega) (by omega)).mp g9).1, (r2 i a1 a2).2.2⟩, r3, fun g9 => by omega, r5, r6, r7⟩
  · unfold w_k_sells_42 at he
    simp only [] at he
    split at he
    · rw [← Sum.inr.inj he]; exact hP
    · cases he
theorem ti_sellLoop {b c q0 : am_F} {k fl : Int} (h12 : 0 ≤ c 0 30 ∧ c 0 30 ≤ 12) (hB : MdB c) (hT : TBd b c) : ∀ (n : Nat) (j : Int) (F : Nat) (x : Int × am_F) (y : Int × Int × am_F), SR c q0 k fl x y → ti_cnt x.2 12 ≤ n → n + 1 ≤ F → SR c q0 k fl (am_fold (g_sell (b 0 2) (b 1)) j n x) (am_wh (w_k_sells_42 c k fl) F y) := by
  intro n
  induction n with
  | zero =>
    intro j F x y hR hc hF
    obtain ⟨F', rfl⟩ : ∃ F', F = F' + 1 := ⟨F - 1, by omega⟩
    rw [ti_fold0]
    by_cases h0 : x.1 = 0
    · exact ti_turnM h12 hB hR h0 _
    · have hl : 0 < x.1 := by have := hR.1; omega
      have hs := ti_selC h12 hR hl
      have hn : f_nextUp x.2 = -1 := by
        have hz := ti_cnt_0 12 (by omega : ti_cnt x.2 12 = 0)
        unfold f_nextUp
        refine ti_foldid 12 0 fun i a1 a2 => ?_
        unfold g_nextUp
        rw [if_neg (fun g => g.1 (hz _ (by omega)))]
      rw [hn] at hs
      rw [am_wh_r (y := y) (by unfold w_k_sells_42; simp only []; rw [← hs, if_pos rfl])]
      exact hR
  | succ n ih =>
    intro j F x y hR hc hF
    obtain ⟨F', rfl⟩ : ∃ F', F = F' + 1 := ⟨F - 1, by omega⟩
    by_cases h0 : x.1 = 0
    · have e : am_fold (g_sell (b 0 2) (b 1)) j (n + 1) x = x := ti_foldid _ _ fun i a1 a2 => by
        unfold g_sell
        rw [if_pos (Or.inl (by omega))]
      rw [e]
      exact ti_turnM h12 hB hR h0 _
    · have hl : 0 < x.1 := by have := hR.1; omega
      have hs := ti_selC h12 hR hl
      obtain ⟨r1, r2, r3, r4, r5, r6, r7⟩ := id hR
      by_cases g : f_nextUp x.2 = -1
      · have e : am_fold (g_sell (b 0 2) (b 1)) j (n + 1) x = x := ti_foldid _ _ fun i a1 a2 => by
          unfold g_sell
          rw [if_pos (Or.inr g)]
        rw [g] at hs
        rw [e, am_wh_r (y := y) (by unfold w_k_sells_42; simp only []; rw [← hs, if_pos rfl])]
        exact hR
      · have hsel := ti_selM (c := c) (k := k) (fl := fl) (dn := y.2.1) (c 0 30).toNat (by omega) h12.2
        rw [← hs] at hsel
        generalize hbe : f_nextUp x.2 = e at *
        obtain ⟨p1, p2, p3, p4, p5⟩ : 0 ≤ e ∧ e < c 0 30 ∧ ti_bv y.2.1 e = false ∧ c (133 + e.toNat) 0 = k ∧ fl ≤ c (133 + e.toNat) 2 := by
          rcases hsel with ⟨s1, s2⟩ | ⟨s1, s2, s3⟩
          · exact absurd s1 g
          · exact ⟨s1, by omega, s3⟩
        have hw := (hB e p1 p2).2.1
        have hwt := (r4 hl e p1 p2).mpr ⟨p3, p4, p5⟩
        have hg9 : f_gets (b 0 2) (b 1) x = k_less y.1 (c (133 + e.toNat) 1) := by
          unfold f_gets
          rw [hbe, (hT.2 e p1 p2).2.1, ti_less, r1.1]
        have hgot : 1 ≤ k_less y.1 (c (133 + e.toNat) 1) ∧ k_less y.1 (c (133 + e.toNat) 1) ≤ y.1 := by
          rw [ti_less]
          split <;> omega
        have ec : g_sell (b 0 2) (b 1) j x = (x.1 - k_less y.1 (c (133 + e.toNat) 1), am_put (am_put (am_put x.2 5 e.toNat 0) 3 e.toNat (k_less y.1 (c (133 + e.toNat) 1))) 0 5 (c (133 + e.toNat) 2)) := by
          unfold g_sell
          rw [hbe, if_neg (fun g9 => g9.elim (fun g9 => by omega) g), hg9, (r2 e p1 p2).2.2]
        have em : w_k_sells_42 c k fl y = .inl (y.1 - k_less y.1 (c (133 + e.toNat) 1), am_ior y.2.1 (am_ishl 1 e), am_put (am_put y.2.2 732 e.toNat (k_less y.1 (c (133 + e.toNat) 1))) 0 67 (c (133 + e.toNat) 2)) := by
          unfold w_k_sells_42
          simp only []
          rw [← hs, if_neg g, if_neg (by omega), ti_w ⟨by omega, by omega⟩]
        rw [am_fold_s, ec, am_wh_l em]
        refine ih (j + 1) F' _ _ ⟨⟨by show x.1 - _ = y.1 - _; rw [r1.1], by show 0 ≤ x.1 - _; omega, by show x.1 - _ ≤ _; omega⟩, fun i a1 a2 => ⟨?_, fun g9 => ?_, ?_⟩, ?_, fun _ i a1 a2 => ?_, fun i a1 a2 => ?_, fun m m1 m2 => ?_, fun m hm => ?_⟩ ?_ (by omega)
        · dsimp only
          by_cases e9 : i.toNat = e.toNat
          · rw [e9]
            simp (disch := omega) only [am_put_k, am_put_s]
          · simp (disch := omega) only [am_put_k, am_put_i]
            exact (r2 i a1 a2).1
        · have g8 := (ti_bv_or (by omega) (by omega)).mp g9
          dsimp only
          rw [am_put_k (by decide), am_put_i (by omega)]
          exact (r2 i a1 a2).2.1 g8.1
        · dsimp only
          rw [am_put_k (by decide), am_put_k (by decide), am_put_k (by decide)]
          exact (r2 i a1 a2).2.2
        · dsimp only
          rw [am_put_s, am_put_s]
        · dsimp only
          rw [am_put_k (by decide), am_put_k (by decide), ti_bv_or (by omega) (by omega)]
          by_cases e9 : i = e
          · rw [e9, am_put_s]
            exact ⟨fun h => absurd rfl h, fun h => absurd rfl h.1.2⟩
          · rw [am_put_i (by omega), r4 hl i a1 a2]
            exact ⟨fun h => ⟨⟨h.1, e9⟩, h.2⟩, fun h => ⟨h.1.1, h.2⟩⟩
        · dsimp only
          rw [am_put_k (by decide), am_put_k (by decide), am_put_i (by omega)]
          exact r5 i a1 a2
        · dsimp only
          rw [am_put_kr m2, am_put_kr m1]
          exact r6 m m1 m2
        · dsimp only
          rw [am_put_i hm, am_put_k (by decide)]
          exact r7 m hm
        · have := ti_cnt_dec (Q := x.2) (Q' := am_put (am_put (am_put x.2 5 e.toNat 0) 3 e.toNat (k_less y.1 (c (133 + e.toNat) 1))) 0 5 (c (133 + e.toNat) 2)) (j := e.toNat) hwt (by rw [am_put_k (by decide), am_put_k (by decide), am_put_s]) (fun i hi => by rw [am_put_k (by decide), am_put_k (by decide), am_put_i hi]) 12 (by omega)
          dsimp only
          omega
