/-! the model: sales -/
def MdB (c : am_F) : Prop := ∀ i : Int, 0 ≤ i → i < c 0 30 → (0 ≤ c (133 + i.toNat) 0 ∧ c (133 + i.toNat) 0 < c 4 3) ∧ (1 ≤ c (133 + i.toNat) 1 ∧ c (133 + i.toNat) 1 ≤ 999) ∧ 1 ≤ c (133 + i.toNat) 2 ∧ c (133 + i.toNat) 2 ≤ 99
def g_k_sells_19  (bst : Int) (q : am_F) : am_F := (am_put q 732 bst.toNat 0)
theorem L_k_sells_19 {S : am_S} {d u : Nat} {Q : AO → AH → Prop} {w : AH} {b : Nat} (hl : b + 735 ≤ w.length) (c : am_F) (k : Int) (t : Int) (fl : Int) (left : Int) (hV : MdV c) (hL : MdL c) (hk : 0 ≤ k ∧ k < c 4 3) (ht : -1 ≤ t ∧ t < 40)  (hd : 2 ≤ d) (B9 : Int) (hB : B9 = c 0 30) : ∀ (n : Nat) (bst : Int) (q : am_F), bst + n = B9 → 0 ≤ bst → (∀ (q' : am_F), q' = am_fold (g_k_sells_19) bst n q → am_T S zX12_sells d u Q 42 [some (aR b), some (aI k), none, some (aI fl), some (aI left), some (aI 0), none, none] [] (mdW w b c q')) → am_T S zX12_sells d u Q 19 [some (aR b), some (aI k), none, some (aI fl), some (aI left), some (aI 0), some (aI bst), none] [] (mdW w b c q) := by
  intro n
  induction n with
  | zero =>
    intro bst q hi9 h0i k9
    have e9 : bst = B9 := by omega
    subst e9
    obtain ⟨vl0, vu0⟩ := MdV_0 hV
    obtain ⟨vl1, vu1⟩ := MdV_1 hV
    obtain ⟨vl3, vu3⟩ := MdV_3 hV
    obtain ⟨vl12, vu12⟩ := MdV_12 hV
    refine T_iload (am_dec tX12_sells_0 12 rfl) rfl ?_
    refine T_aload_n (am_dec tX12_sells_0 13 rfl) rfl ?_
    refine T_getfield 11 30 (am_dec tX12_sells_0 14 rfl) flX12_292_11 (md_obj hl) rfl ?_
    refine T_icmp_ge 42 (am_dec tX12_sells_0 15 rfl) rfl (fun h25 => ?_) (fun h25 => by exfalso; omega)
    refine T_weak (ls' := [some (aR b), some (aI k), none, some (aI fl), some (aI left), some (aI 0), none, none]) (am_sub_s (am_sub_s (am_sub_n (am_sub_s (am_sub_s (am_sub_s (am_sub_n (am_sub_n am_sub_nil)))))))) ?_
    exact k9 q rfl
  | succ n ih =>
    intro bst q hi9 h0i k9
    obtain ⟨vl0, vu0⟩ := MdV_0 hV
    obtain ⟨vl1, vu1⟩ := MdV_1 hV
    obtain ⟨vl3, vu3⟩ := MdV_3 hV
    obtain ⟨vl12, vu12⟩ := MdV_12 hV
    refine T_iload (am_dec tX12_sells_0 12 rfl) rfl ?_
    refine T_aload_n (am_dec tX12_sells_0 13 rfl) rfl ?_
    refine T_getfield 11 30 (am_dec tX12_sells_0 14 rfl) flX12_292_11 (md_obj hl) rfl ?_
    refine T_icmp_ge 42 (am_dec tX12_sells_0 15 rfl) rfl (fun h25 => by exfalso; omega) (fun h25 => ?_)
    refine T_aload_n (am_dec tX12_sells_0 16 rfl) rfl ?_
    refine T_getfield 11 65 (am_dec tX12_sells_0 17 rfl) flX12_145_11 (md_obj hl) rfl ?_
    refine T_iload (am_dec tX12_sells_0 18 rfl) rfl ?_
    refine T_iconst 0 (am_dec tX12_sells_0 19 rfl) rfl ⟨by decide, by decide⟩ ?_
    refine T_iastore (am_dec tX12_sells_0 20 rfl) (md_got hl) (by omega) (by omega) ?_
    refine am_wE (w2 := mdW w b c (am_put q 732 bst.toNat 0)) (md_pq (Nat.le_of_ble_eq_true rfl) (fun _ _ => rfl)) ?_
    refine T_iinc (ls' := [some (aR b), some (aI k), none, some (aI fl), some (aI left), some (aI 0), some (aI (bst + 1)), none]) (bst + 1) (am_dec tX12_sells_0 21 rfl) rfl rfl ⟨by omega, by omega⟩ (by decide) rfl ?_
    refine T_goto 19 (am_dec tX12_sells_0 22 rfl) rfl ?_
    have e9 : (g_k_sells_19) bst q = (am_put q 732 bst.toNat 0) := rfl
    simp only [am_fold_s, e9] at k9
    exact ih (bst + 1) (am_put q 732 bst.toNat 0) (by omega) (by omega) k9
def g_k_sells_48 (c : am_F) (k : Int) (fl : Int) (dn : Int) (i : Int) (bst : Int) : Int := (if am_iand (am_ishr dn i) 1 = 0 then (if c (133 + i.toNat) 0 = k then (if c (133 + i.toNat) 2 < fl then bst else (if bst = (-1) then i else (if c (133 + i.toNat) 2 ≤ c (133 + bst.toNat) 2 then bst else i))) else bst) else bst)
theorem L_k_sells_48 {S : am_S} {d u : Nat} {Q : AO → AH → Prop} {w : AH} {b : Nat} (hl : b + 735 ≤ w.length) (c : am_F) (q : am_F) (k : Int) (t : Int) (fl : Int) (dn : Int) (left : Int) (hV : MdV c) (hL : MdL c) (hk : 0 ≤ k ∧ k < c 4 3) (ht : -1 ≤ t ∧ t < 40)  (hd : 2 ≤ d) (B9 : Int) (hB : B9 = c 0 30) : ∀ (n : Nat) (i : Int) (bst : Int), i + n = B9 → 0 ≤ i → bst = -1 ∨ (0 ≤ bst ∧ bst < i ∧ am_bit dn bst = 0) → (∀ (bst' : Int), bst' = am_fold (g_k_sells_48 c k fl dn) i n bst → bst' = -1 ∨ (0 ≤ bst' ∧ bst' < B9 ∧ am_bit dn bst' = 0) → am_T S zX12_sells d u Q 130 [some (aR b), some (aI k), none, some (aI fl), some (aI left), some (aI dn), some (aI bst'), none] [] (mdW w b c q)) → am_T S zX12_sells d u Q 48 [some (aR b), some (aI k), none, some (aI fl), some (aI left), some (aI dn), some (aI bst), some (aI i)] [] (mdW w b c q) := by
  intro n
  induction n with
  | zero =>
    intro i bst hi9 h0i hinv k9
    have e9 : i = B9 := by omega
    subst e9
    obtain ⟨vl0, vu0⟩ := MdV_0 hV
    obtain ⟨vl1, vu1⟩ := MdV_1 hV
    obtain ⟨vl3, vu3⟩ := MdV_3 hV
    obtain ⟨vl12, vu12⟩ := MdV_12 hV
    refine T_iload (am_dec tX12_sells_0 27 rfl) rfl ?_
    refine T_aload_n (am_dec tX12_sells_0 28 rfl) rfl ?_
    refine T_getfield 11 30 (am_dec tX12_sells_0 29 rfl) flX12_292_11 (md_obj hl) rfl ?_
    refine T_icmp_ge 130 (am_dec tX12_sells_0 30 rfl) rfl (fun h54 => ?_) (fun h54 => by exfalso; omega)
    refine T_weak (ls' := [some (aR b), some (aI k), none, some (aI fl), some (aI left), some (aI dn), some (aI bst), none]) (am_sub_s (am_sub_s (am_sub_n (am_sub_s (am_sub_s (am_sub_s (am_sub_s (am_sub_n am_sub_nil)))))))) ?_
    exact k9 bst rfl hinv
  | succ n ih =>
    intro i bst hi9 h0i hinv k9
    obtain ⟨vl0, vu0⟩ := MdV_0 hV
    obtain ⟨vl1, vu1⟩ := MdV_1 hV
    obtain ⟨vl3, vu3⟩ := MdV_3 hV
    obtain ⟨vl12, vu12⟩ := MdV_12 hV
    refine T_iload (am_dec tX12_sells_0 27 rfl) rfl ?_
    refine T_aload_n (am_dec tX12_sells_0 28 rfl) rfl ?_
    refine T_getfield 11 30 (am_dec tX12_sells_0 29 rfl) flX12_292_11 (md_obj hl) rfl ?_
    refine T_icmp_ge 130 (am_dec tX12_sells_0 30 rfl) rfl (fun h54 => by exfalso; omega) (fun h54 => ?_)
    refine T_iload (am_dec tX12_sells_0 31 rfl) rfl ?_
    refine T_iload (am_dec tX12_sells_0 32 rfl) rfl ?_
    refine T_ishr (am_ishr dn i) (am_dec tX12_sells_0 33 rfl) (am_w32e _).symm (am_w32r _) ?_
    refine T_iconst 1 (am_dec tX12_sells_0 34 rfl) rfl ⟨by decide, by decide⟩ ?_
    refine T_iand (am_iand (am_ishr dn i) 1) (am_dec tX12_sells_0 35 rfl) (am_w32e _).symm (am_w32r _) ?_
    have K64 : ∀ (bst_64 : Int), bst_64 = (if am_iand (am_ishr dn i) 1 = 0 then (if c (133 + i.toNat) 0 = k then (if c (133 + i.toNat) 2 < fl then bst else (if bst = (-1) then i else (if c (133 + i.toNat) 2 ≤ c (133 + bst.toNat) 2 then bst else i))) else bst) else bst) →  am_T S zX12_sells d u Q 124 [some (aR b), some (aI k), none, some (aI fl), some (aI left), some (aI dn), some (aI bst_64), some (aI i)] [] (mdW w b c q) := by
      intro bst_64 hbst_64
      refine T_iinc (ls' := [some (aR b), some (aI k), none, some (aI fl), some (aI left), some (aI dn), some (aI bst_64), some (aI (i + 1))]) (i + 1) (am_dec tX12_sells_1 31 rfl) rfl rfl ⟨by omega, by omega⟩ (by decide) rfl ?_
      refine T_goto 48 (am_dec tX12_sells_1 32 rfl) rfl ?_
      have e9 : (g_k_sells_48 c k fl dn) i bst = bst_64 := (by have s9 := hbst_64.symm; subst s9; exact rfl)
      simp only [am_fold_s, e9] at k9
      exact ih (i + 1) bst_64 (by omega) (by omega) (by rw [hbst_64]; (repeat' split) <;> first | (right; exact ⟨by omega, by omega, by assumption⟩) | (rcases hinv with h9 | ⟨h7, h8, h6⟩ <;> first | (left; exact h9) | (right; exact ⟨h7, by omega, h6⟩))) k9
    refine T_if_ne 124 (am_dec tX12_sells_0 36 rfl) rfl (fun h64 => ?_) (fun h64 => ?_)
    · exact K64 _ (if_neg h64).symm
    · refine T_aload_n (am_dec tX12_sells_0 37 rfl) rfl ?_
      refine T_getfield 11 34 (am_dec tX12_sells_0 38 rfl) flX12_82_11 (md_obj hl) rfl ?_
      refine T_iload (am_dec tX12_sells_0 39 rfl) rfl ?_
      refine T_aaloadR (r := b + (133 + i.toNat)) (am_dec tX12_sells_1 0 rfl) (by decide) (mh_bid hl) (by omega) (by omega) (if_pos (by omega)) ?_
      refine T_iconst 0 (am_dec tX12_sells_1 1 rfl) rfl ⟨by decide, by decide⟩ ?_
      refine T_ialoadE (x := c (133 + i.toNat) 0) (am_dec tX12_sells_1 2 rfl) (mr_bid hl (i := i) (by omega) (by omega)) (by omega) (by omega) rfl ?_
      refine T_iload_n (am_dec tX12_sells_1 3 rfl) rfl ?_
      have K77 : ∀ (bst_77 : Int), bst_77 = (if c (133 + i.toNat) 0 = k then (if c (133 + i.toNat) 2 < fl then bst else (if bst = (-1) then i else (if c (133 + i.toNat) 2 ≤ c (133 + bst.toNat) 2 then bst else i))) else bst) →  am_T S zX12_sells d u Q 124 [some (aR b), some (aI k), none, some (aI fl), some (aI left), some (aI dn), some (aI bst_77), some (aI i)] [] (mdW w b c q) := by
        intro bst_77 hbst_77
        exact K64 _ (by have s9 := hbst_77.symm; subst s9; exact (if_pos h64).symm)
      refine T_icmp_ne 124 (am_dec tX12_sells_1 4 rfl) rfl (fun h77 => ?_) (fun h77 => ?_)
      · exact K77 _ (if_neg h77).symm
      · refine T_aload_n (am_dec tX12_sells_1 5 rfl) rfl ?_
        refine T_getfield 11 34 (am_dec tX12_sells_1 6 rfl) flX12_82_11 (md_obj hl) rfl ?_
        refine T_iload (am_dec tX12_sells_1 7 rfl) rfl ?_
        refine T_aaloadR (r := b + (133 + i.toNat)) (am_dec tX12_sells_1 8 rfl) (by decide) (mh_bid hl) (by omega) (by omega) (if_pos (by omega)) ?_
        refine T_iconst 2 (am_dec tX12_sells_1 9 rfl) rfl ⟨by decide, by decide⟩ ?_
        refine T_ialoadE (x := c (133 + i.toNat) 2) (am_dec tX12_sells_1 10 rfl) (mr_bid hl (i := i) (by omega) (by omega)) (by omega) (by omega) rfl ?_
        refine T_iload_n (am_dec tX12_sells_1 11 rfl) rfl ?_
        have K90 : ∀ (bst_90 : Int), bst_90 = (if c (133 + i.toNat) 2 < fl then bst else (if bst = (-1) then i else (if c (133 + i.toNat) 2 ≤ c (133 + bst.toNat) 2 then bst else i))) →  am_T S zX12_sells d u Q 124 [some (aR b), some (aI k), none, some (aI fl), some (aI left), some (aI dn), some (aI bst_90), some (aI i)] [] (mdW w b c q) := by
          intro bst_90 hbst_90
          exact K77 _ (by have s9 := hbst_90.symm; subst s9; exact (if_pos h77).symm)
        refine T_icmp_lt 124 (am_dec tX12_sells_1 12 rfl) rfl (fun h90 => ?_) (fun h90 => ?_)
        · exact K90 _ (if_pos h90).symm
        · refine T_iload (am_dec tX12_sells_1 13 rfl) rfl ?_
          refine T_iconst (-1) (am_dec tX12_sells_1 14 rfl) rfl ⟨by decide, by decide⟩ ?_
          have K96 : ∀ (bst_96 : Int), bst_96 = (if bst = (-1) then i else (if c (133 + i.toNat) 2 ≤ c (133 + bst.toNat) 2 then bst else i)) →  am_T S zX12_sells d u Q 124 [some (aR b), some (aI k), none, some (aI fl), some (aI left), some (aI dn), some (aI bst_96), some (aI i)] [] (mdW w b c q) := by
            intro bst_96 hbst_96
            exact K90 _ (by have s9 := hbst_96.symm; subst s9; exact (if_neg h90).symm)
          refine T_icmp_eq 120 (am_dec tX12_sells_1 15 rfl) rfl (fun h96 => ?_) (fun h96 => ?_)
          · refine T_iload (am_dec tX12_sells_1 29 rfl) rfl ?_
            refine T_istore (ls' := [some (aR b), some (aI k), none, some (aI fl), some (aI left), some (aI dn), some (aI i), some (aI i)]) (am_dec tX12_sells_1 30 rfl) (by decide) rfl ?_
            exact K96 _ (if_pos h96).symm
          · refine T_aload_n (am_dec tX12_sells_1 16 rfl) rfl ?_
            refine T_getfield 11 34 (am_dec tX12_sells_1 17 rfl) flX12_82_11 (md_obj hl) rfl ?_
            refine T_iload (am_dec tX12_sells_1 18 rfl) rfl ?_
            refine T_aaloadR (r := b + (133 + i.toNat)) (am_dec tX12_sells_1 19 rfl) (by decide) (mh_bid hl) (by omega) (by omega) (if_pos (by omega)) ?_
            refine T_iconst 2 (am_dec tX12_sells_1 20 rfl) rfl ⟨by decide, by decide⟩ ?_
            refine T_ialoadE (x := c (133 + i.toNat) 2) (am_dec tX12_sells_1 21 rfl) (mr_bid hl (i := i) (by omega) (by omega)) (by omega) (by omega) rfl ?_
            refine T_aload_n (am_dec tX12_sells_1 22 rfl) rfl ?_
            refine T_getfield 11 34 (am_dec tX12_sells_1 23 rfl) flX12_82_11 (md_obj hl) rfl ?_
            refine T_iload (am_dec tX12_sells_1 24 rfl) rfl ?_
            refine T_aaloadR (r := b + (133 + bst.toNat)) (am_dec tX12_sells_1 25 rfl) (by decide) (mh_bid hl) (by omega) (by omega) (if_pos (by omega)) ?_
            refine T_iconst 2 (am_dec tX12_sells_1 26 rfl) rfl ⟨by decide, by decide⟩ ?_
            refine T_ialoadE (x := c (133 + bst.toNat) 2) (am_dec tX12_sells_1 27 rfl) (mr_bid hl (i := bst) (by omega) (by omega)) (by omega) (by omega) rfl ?_
            have K117 : ∀ (bst_117 : Int), bst_117 = (if c (133 + i.toNat) 2 ≤ c (133 + bst.toNat) 2 then bst else i) →  am_T S zX12_sells d u Q 124 [some (aR b), some (aI k), none, some (aI fl), some (aI left), some (aI dn), some (aI bst_117), some (aI i)] [] (mdW w b c q) := by
              intro bst_117 hbst_117
              exact K96 _ (by have s9 := hbst_117.symm; subst s9; exact (if_neg h96).symm)
            refine T_icmp_le 124 (am_dec tX12_sells_1 28 rfl) rfl (fun h117 => ?_) (fun h117 => ?_)
            · exact K117 _ (if_pos h117).symm
            · refine T_iload (am_dec tX12_sells_1 29 rfl) rfl ?_
              refine T_istore (ls' := [some (aR b), some (aI k), none, some (aI fl), some (aI left), some (aI dn), some (aI i), some (aI i)]) (am_dec tX12_sells_1 30 rfl) (by decide) rfl ?_
              exact K117 _ (if_neg h117).symm
def w_k_sells_42 (c : am_F) (k : Int) (fl : Int) (x9 : Int × Int × am_F) : (Int × Int × am_F) ⊕ (Int × Int × am_F) := let left : Int := x9.1; let dn : Int := x9.2.1; let q : am_F := x9.2.2; (let bst_48 : Int := am_fold (g_k_sells_48 c k fl dn) 0 (c 0 30).toNat (-1); (if bst_48 = (-1) then .inr (left, dn, q) else (let dn_144 : Int := am_ior dn (am_ishl 1 bst_48); (let left_177 : Int := am_w32 (left - (k_less left (c (133 + bst_48.toNat) 1))); (let t187 : Int := (if (k_less left (c (133 + bst_48.toNat) 1)) ≤ 0 then (q 0 67) else (c (133 + bst_48.toNat) 2)); .inl (left_177, dn_144, (am_put (am_put q 732 bst_48.toNat (k_less left (c (133 + bst_48.toNat) 1))) 0 67 t187)))))))
theorem L_k_sells_42 {S : am_S} {d u : Nat} {Q : AO → AH → Prop} {w : AH} {b : Nat} (hl : b + 735 ≤ w.length) (c : am_F) (k : Int) (t : Int) (fl : Int) (hV : MdV c) (hL : MdL c) (hk : 0 ≤ k ∧ k < c 4 3) (ht : -1 ≤ t ∧ t < 40)  (hd : 2 ≤ d) : ∀ (n : Nat) (left : Int) (dn : Int) (q : am_F), k_zer 12 dn < n → 0 ≤ dn ∧ dn < 4096 → (∀ (left' : Int) (dn' : Int) (q' : am_F), left' = (am_wh (w_k_sells_42 c k fl) n (left, dn, q)).1 → dn' = (am_wh (w_k_sells_42 c k fl) n (left, dn, q)).2.1 → q' = (am_wh (w_k_sells_42 c k fl) n (left, dn, q)).2.2 → 0 ≤ dn' ∧ dn' < 4096 → am_T S zX12_sells d u Q 136 [none, none, none, none, none, none, none, none] [] (mdW w b c q')) → am_T S zX12_sells d u Q 42 [some (aR b), some (aI k), none, some (aI fl), some (aI left), some (aI dn), none, none] [] (mdW w b c q) := by
  intro n
  induction n with
  | zero =>
    intro left dn q hm9 hinv k9
    obtain ⟨vl0, vu0⟩ := MdV_0 hV
    obtain ⟨vl1, vu1⟩ := MdV_1 hV
    obtain ⟨vl3, vu3⟩ := MdV_3 hV
    obtain ⟨vl12, vu12⟩ := MdV_12 hV
    have zb := k_zer_b 12 dn
    exfalso; omega
  | succ n ih =>
    intro left dn q hm9 hinv k9
    obtain ⟨vl0, vu0⟩ := MdV_0 hV
    obtain ⟨vl1, vu1⟩ := MdV_1 hV
    obtain ⟨vl3, vu3⟩ := MdV_3 hV
    obtain ⟨vl12, vu12⟩ := MdV_12 hV
    have zb := k_zer_b 12 dn
    refine T_iconst (-1) (am_dec tX12_sells_0 23 rfl) rfl ⟨by decide, by decide⟩ ?_
    refine T_istore (ls' := [some (aR b), some (aI k), none, some (aI fl), some (aI left), some (aI dn), some (aI (-1)), none]) (am_dec tX12_sells_0 24 rfl) (by decide) rfl ?_
    refine T_iconst 0 (am_dec tX12_sells_0 25 rfl) rfl ⟨by decide, by decide⟩ ?_
    refine T_istore (ls' := [some (aR b), some (aI k), none, some (aI fl), some (aI left), some (aI dn), some (aI (-1)), some (aI 0)]) (am_dec tX12_sells_0 26 rfl) (by decide) rfl ?_
    refine L_k_sells_48 hl c q k t fl dn left hV hL hk ht  (by omega) _ rfl (c 0 30).toNat 0 (-1) (by omega) (by omega) (Or.inl rfl) (fun bst_48 hbst_48 hv48 => ?_)
    refine T_iload (am_dec tX12_sells_1 33 rfl) rfl ?_
    refine T_iconst (-1) (am_dec tX12_sells_1 34 rfl) rfl ⟨by decide, by decide⟩ ?_
    refine T_icmp_ne 137 (am_dec tX12_sells_1 35 rfl) rfl (fun h133 => ?_) (fun h133 => ?_)
    · refine T_iload (am_dec tX12_sells_1 37 rfl) rfl ?_
      refine T_iconst 1 (am_dec tX12_sells_1 38 rfl) rfl ⟨by decide, by decide⟩ ?_
      refine T_iload (am_dec tX12_sells_1 39 rfl) rfl ?_
      refine T_ishl (am_ishl 1 bst_48) (am_dec tX12_sells_2 0 rfl) (am_w32e _).symm (am_w32r _) ?_
      refine T_ior (am_ior dn (am_ishl 1 bst_48)) (am_dec tX12_sells_2 1 rfl) (am_w32e _).symm (am_w32r _) ?_
      refine T_nm (fun dn_144 hdn_144 => ?_)
      refine T_istore (ls' := [some (aR b), some (aI k), none, some (aI fl), some (aI left), some (aI dn_144), some (aI bst_48), none]) (am_dec tX12_sells_2 2 rfl) (by decide) rfl ?_
      refine T_aload_n (am_dec tX12_sells_2 3 rfl) rfl ?_
      refine T_getfield 11 65 (am_dec tX12_sells_2 4 rfl) flX12_145_11 (md_obj hl) rfl ?_
      refine T_iload (am_dec tX12_sells_2 5 rfl) rfl ?_
      refine T_iload (am_dec tX12_sells_2 6 rfl) rfl ?_
      refine T_aload_n (am_dec tX12_sells_2 7 rfl) rfl ?_
      refine T_getfield 11 34 (am_dec tX12_sells_2 8 rfl) flX12_82_11 (md_obj hl) rfl ?_
      refine T_iload (am_dec tX12_sells_2 9 rfl) rfl ?_
      refine T_aaloadR (r := b + (133 + bst_48.toNat)) (am_dec tX12_sells_2 10 rfl) (by decide) (mh_bid hl) (by omega) (by omega) (if_pos (by omega)) ?_
      refine T_iconst 1 (am_dec tX12_sells_2 11 rfl) rfl ⟨by decide, by decide⟩ ?_
      refine T_ialoadE (x := c (133 + bst_48.toNat) 1) (am_dec tX12_sells_2 12 rfl) (mr_bid hl (i := bst_48) (by omega) (by omega)) (by omega) (by omega) rfl ?_
      refine T_callS (as := [aI left, aI (c (133 + bst_48.toNat) 1)]) rfl (am_dec tX12_sells_2 13 rfl) lkX12_268 rfl (Nat.le_of_ble_eq_true rfl) (by omega) (mk_less (d := d - 1)  left (c (133 + bst_48.toNat) 1)   ) (fun _ => ?_)
      refine T_iastore (am_dec tX12_sells_2 14 rfl) (md_got hl) (by omega) (by omega) ?_
      refine am_wE (w2 := mdW w b c (am_put q 732 bst_48.toNat (k_less left (c (133 + bst_48.toNat) 1)))) (md_pq (Nat.le_of_ble_eq_true rfl) (fun _ _ => rfl)) ?_
      refine T_iload (am_dec tX12_sells_2 15 rfl) rfl ?_
      refine T_aload_n (am_dec tX12_sells_2 16 rfl) rfl ?_
      refine T_getfield 11 65 (am_dec tX12_sells_2 17 rfl) flX12_145_11 (md_obj hl) rfl ?_
      refine T_iload (am_dec tX12_sells_2 18 rfl) rfl ?_
      refine T_ialoadE (x := (k_less left (c (133 + bst_48.toNat) 1))) (am_dec tX12_sells_2 19 rfl) (md_got hl) (by omega) (by omega) (am_put_s) ?_
      refine T_isubW (am_w32 (left - (k_less left (c (133 + bst_48.toNat) 1)))) (am_dec tX12_sells_2 20 rfl) (am_w32e _).symm (am_w32r _) ?_
      refine T_nm (fun left_177 hleft_177 => ?_)
      refine T_istore (ls' := [some (aR b), some (aI k), none, some (aI fl), some (aI left_177), some (aI dn_144), some (aI bst_48), none]) (am_dec tX12_sells_2 21 rfl) (by decide) rfl ?_
      refine T_aload_n (am_dec tX12_sells_2 22 rfl) rfl ?_
      refine T_aload_n (am_dec tX12_sells_2 23 rfl) rfl ?_
      refine T_getfield 11 65 (am_dec tX12_sells_2 24 rfl) flX12_145_11 (md_obj hl) rfl ?_
      refine T_iload (am_dec tX12_sells_2 25 rfl) rfl ?_
      refine T_ialoadE (x := (k_less left (c (133 + bst_48.toNat) 1))) (am_dec tX12_sells_2 26 rfl) (md_got hl) (by omega) (by omega) (am_put_s) ?_
      have K187 : ∀ (t187 : Int), t187 = (if (k_less left (c (133 + bst_48.toNat) 1)) ≤ 0 then (q 0 67) else (c (133 + bst_48.toNat) 2)) →  am_T S zX12_sells d u Q 206 [some (aR b), some (aI k), none, some (aI fl), some (aI left_177), some (aI dn_144), none, none] [aI t187, aR b] (mdW w b c (am_put q 732 bst_48.toNat (k_less left (c (133 + bst_48.toNat) 1)))) := by
        intro t187 ht187
        refine T_putfield (fs' := mdO b (c 0) (am_up ((am_put q 732 bst_48.toNat (k_less left (c (133 + bst_48.toNat) 1))) 0) 67 t187)) 11 67 (am_dec tX12_sells_2 37 rfl) flX12_418_11 rfl rfl rfl trivial (md_obj hl) (Nat.le_of_ble_eq_true rfl) rfl ?_
        refine am_wE (w2 := mdW w b c (am_put (am_put q 732 bst_48.toNat (k_less left (c (133 + bst_48.toNat) 1))) 0 67 t187)) (md_fq) ?_
        refine T_goto 42 (am_dec tX12_sells_2 38 rfl) rfl ?_
        have e9 : (w_k_sells_42 c k fl) (left, dn, q) = .inl (left_177, dn_144, (am_put (am_put q 732 bst_48.toNat (k_less left (c (133 + bst_48.toNat) 1))) 0 67 t187)) := (by have s9 := hbst_48.symm; subst s9; have s9 := hdn_144.symm; subst s9; have s9 := hleft_177.symm; subst s9; have s9 := ht187.symm; subst s9; exact (if_neg h133))
        simp only [am_wh_l e9] at k9
        exact ih left_177 dn_144 (am_put (am_put q 732 bst_48.toNat (k_less left (c (133 + bst_48.toNat) 1))) 0 67 t187) (by rw [hdn_144]; obtain ⟨z1, z2, z3⟩ := hv48.resolve_left h133; have z := (k_zer_set hinv (by omega) z3 12 (by omega)).1 (by omega); omega) (by rw [hdn_144]; obtain ⟨z1, z2, z3⟩ := hv48.resolve_left h133; exact (am_bit_set hinv (by omega)).1) k9
      refine T_if_le 202 (am_dec tX12_sells_2 27 rfl) rfl (fun h187 => ?_) (fun h187 => ?_)
      · refine T_aload_n (am_dec tX12_sells_2 35 rfl) rfl ?_
        refine T_getfield 11 67 (am_dec tX12_sells_2 36 rfl) flX12_418_11 (md_obj hl) rfl ?_
        refine T_weak (ls' := [some (aR b), some (aI k), none, some (aI fl), some (aI left_177), some (aI dn_144), none, none]) (am_sub_s (am_sub_s (am_sub_n (am_sub_s (am_sub_s (am_sub_s (am_sub_n (am_sub_n am_sub_nil)))))))) ?_
        exact K187 _ (if_pos h187).symm
      · refine T_aload_n (am_dec tX12_sells_2 28 rfl) rfl ?_
        refine T_getfield 11 34 (am_dec tX12_sells_2 29 rfl) flX12_82_11 (md_obj hl) rfl ?_
        refine T_iload (am_dec tX12_sells_2 30 rfl) rfl ?_
        refine T_aaloadR (r := b + (133 + bst_48.toNat)) (am_dec tX12_sells_2 31 rfl) (by decide) (mh_bid hl) (by omega) (by omega) (if_pos (by omega)) ?_
        refine T_iconst 2 (am_dec tX12_sells_2 32 rfl) rfl ⟨by decide, by decide⟩ ?_
        refine T_ialoadE (x := c (133 + bst_48.toNat) 2) (am_dec tX12_sells_2 33 rfl) (mr_bid hl (i := bst_48) (by omega) (by omega)) (by omega) (by omega) rfl ?_
        refine T_goto 206 (am_dec tX12_sells_2 34 rfl) rfl ?_
        refine T_weak (ls' := [some (aR b), some (aI k), none, some (aI fl), some (aI left_177), some (aI dn_144), none, none]) (am_sub_s (am_sub_s (am_sub_n (am_sub_s (am_sub_s (am_sub_s (am_sub_n (am_sub_n am_sub_nil)))))))) ?_
        exact K187 _ (if_neg h187).symm
    · refine T_weak (ls' := [none, none, none, none, none, none, none, none]) (am_sub_n (am_sub_n (am_sub_n (am_sub_n (am_sub_n (am_sub_n (am_sub_n (am_sub_n am_sub_nil)))))))) ?_
      have e9 : (w_k_sells_42 c k fl) (left, dn, q) = .inr (left, dn, q) := (by have s9 := hbst_48.symm; subst s9; exact (if_pos h133))
      simp only [am_wh_r e9] at k9
      exact k9 _ _ _ rfl rfl rfl hinv
def k_sells (c : am_F) (q : am_F) (k : Int) (t : Int) (fl : Int) : am_F := (let left_6 : Int := (k_yardsOf c q k t); (let q19 : am_F := am_fold (g_k_sells_19) 0 (c 0 30).toNat (am_put q 0 67 0); (am_wh (w_k_sells_42 c k fl) 13 (left_6, 0, q19)).2.2))
theorem mk_sells {S : am_S} {d u : Nat} {w : AH} {b : Nat} (hl : b + 735 ≤ w.length) {c : am_F} {q : am_F} (k : Int) (t : Int) (fl : Int) (hV : MdV c) (hL : MdL c) (hk : 0 ≤ k ∧ k < c 4 3) (ht : -1 ≤ t ∧ t < 40) (hd : 2 ≤ d) : am_Out S zX12_sells d u [aR b, aI k, aI t, aI fl] (mdW w b c q) (.inl none) (mdW w b c (k_sells c q k t fl)) := by
  have key : ∀ Q : AO → AH → Prop, Q (.inl none) (mdW w b c (k_sells c q k t fl)) → am_M S zX12_sells d u [aR b, aI k, aI t, aI fl] (mdW w b c q) Q := by
    intro Q hQ
    refine am_body rfl (by decide +kernel) rfl (am_cats_cons rfl ( am_cats_cons rfl ( am_cats_cons rfl ( am_cats_cons rfl (am_cats_nil))))) (Nat.le_of_ble_eq_true rfl) (?_ : am_T _ _ _ _ _ 0 [some (aR b), some (aI k), some (aI t), some (aI fl), none, none, none, none] [] (mdW w b c q))
    obtain ⟨vl0, vu0⟩ := MdV_0 hV
    obtain ⟨vl1, vu1⟩ := MdV_1 hV
    obtain ⟨vl3, vu3⟩ := MdV_3 hV
    obtain ⟨vl12, vu12⟩ := MdV_12 hV
    refine T_aload_n (am_dec tX12_sells_0 0 rfl) rfl ?_
    refine T_iload_n (am_dec tX12_sells_0 1 rfl) rfl ?_
    refine T_iload_n (am_dec tX12_sells_0 2 rfl) rfl ?_
    refine T_callV (as := [aI k, aI t]) rfl (am_dec tX12_sells_0 3 rfl) lkX12_415 (md_obj hl) rfl rfl (Nat.le_of_ble_eq_true rfl) (by omega) (mk_yardsOf (d := d - 1) hl k t  hV hL (by omega) (by omega) (by omega)) (fun _ => ?_)
    refine T_nm (fun left_6 hleft_6 => ?_)
    refine T_istore (ls' := [some (aR b), some (aI k), some (aI t), some (aI fl), some (aI left_6), none, none, none]) (am_dec tX12_sells_0 4 rfl) (by decide) rfl ?_
    refine T_iconst 0 (am_dec tX12_sells_0 5 rfl) rfl ⟨by decide, by decide⟩ ?_
    refine T_istore (ls' := [some (aR b), some (aI k), some (aI t), some (aI fl), some (aI left_6), some (aI 0), none, none]) (am_dec tX12_sells_0 6 rfl) (by decide) rfl ?_
    refine T_aload_n (am_dec tX12_sells_0 7 rfl) rfl ?_
    refine T_iconst 0 (am_dec tX12_sells_0 8 rfl) rfl ⟨by decide, by decide⟩ ?_
    refine T_putfield (fs' := mdO b (c 0) (am_up (q 0) 67 0)) 11 67 (am_dec tX12_sells_0 9 rfl) flX12_418_11 rfl rfl rfl trivial (md_obj hl) (Nat.le_of_ble_eq_true rfl) rfl ?_
    refine am_wE (w2 := mdW w b c (am_put q 0 67 0)) (md_fq) ?_
    refine T_iconst 0 (am_dec tX12_sells_0 10 rfl) rfl ⟨by decide, by decide⟩ ?_
    refine T_istore (ls' := [some (aR b), some (aI k), some (aI t), some (aI fl), some (aI left_6), some (aI 0), some (aI 0), none]) (am_dec tX12_sells_0 11 rfl) (by decide) rfl ?_
    refine T_weak (ls' := [some (aR b), some (aI k), none, some (aI fl), some (aI left_6), some (aI 0), some (aI 0), none]) (am_sub_s (am_sub_s (am_sub_n (am_sub_s (am_sub_s (am_sub_s (am_sub_s (am_sub_n am_sub_nil)))))))) ?_
    refine L_k_sells_19 hl c k t fl left_6 hV hL hk ht  (by omega) _ rfl (c 0 30).toNat 0 (am_put q 0 67 0) (by omega) (by omega) (fun q19 hq19 => ?_)
    refine L_k_sells_42 hl c k t fl hV hL (by omega) (by omega)  (by omega) 13 left_6 0 q19 (by have zb := k_zer_b 12 0; omega) (by omega) (fun left_42 dn_42 q42 hleft_42 hdn_42 hq42 hv42 => ?_)
    exact T_return (am_dec tX12_sells_1 36 rfl) rfl (am_tr (fun (x9 : am_F) => Q (.inl none) (mdW w b c x9)) (y := q42) (show (k_sells c q k t fl) = q42 from (by have s9 := hleft_6.symm; subst s9; have s9 := hq19.symm; subst s9; have s9 := hleft_42.symm; subst s9; have s9 := hdn_42.symm; subst s9; have s9 := hq42.symm; subst s9; exact rfl)) hQ)
  exact key _ ⟨rfl, rfl⟩
def k_gets (c : am_F) (q : am_F) (i : Int) (t : Int) (what : Int) : Int × am_F := (let z7 : Int := (k_isStep t); (let t10 : Int := (if z7 = 0 then 1 else (let z16 : Int := (k_in what 0 2); (if z16 = 0 then 1 else 0))); (let q29 : am_F := (k_refuse (am_put q 0 0 0) t10 1 2); (let z29 : Int := (if t10 = 0 then 0 else 1); (if z29 = 0 then (let z45 : Int := (k_in i 0 ((c 0 30) - 1)); (if z45 = 0 then ((-1), q29) else (let q54 : am_F := k_goes c q29; (let q82 : am_F := k_sells c q54 (c (133 + i.toNat) 0) t (c (96 + (c (133 + i.toNat) 0).toNat) 4); (let t86 : Int := (if what = 0 then (q82 732 i.toNat) else (let t106 : Int := (if what = 1 then (c (133 + i.toNat) 2) else (q82 0 67)); (am_w32 ((q82 732 i.toNat) * t106)))); (t86, q82)))))) else (0, q29))))))
theorem mk_gets {S : am_S} {d u : Nat} {w : AH} {b : Nat} (hl : b + 735 ≤ w.length) {c : am_F} {q : am_F} (i : Int) (t : Int) (what : Int) (hV : MdV c) (hWd : MdWd c) (hS9 : MdS c) (hLp : MdLp c) (hDu : MdDu c) (hL : MdL c) (hB9 : MdB c) (hd : 5 ≤ d) : am_Out S zX12_gets d u [aR b, aI i, aI t, aI what] (mdW w b c q) (.inl (some (aI ((k_gets c q i t what).1)))) (mdW w b c ((k_gets c q i t what).2)) := by
  have key : ∀ Q : AO → AH → Prop, Q (.inl (some (aI ((k_gets c q i t what).1)))) (mdW w b c ((k_gets c q i t what).2)) → am_M S zX12_gets d u [aR b, aI i, aI t, aI what] (mdW w b c q) Q := by
    intro Q hQ
    refine am_body rfl (by decide +kernel) rfl (am_cats_cons rfl ( am_cats_cons rfl ( am_cats_cons rfl ( am_cats_cons rfl (am_cats_nil))))) (Nat.le_of_ble_eq_true rfl) (?_ : am_T _ _ _ _ _ 0 [some (aR b), some (aI i), some (aI t), some (aI what)] [] (mdW w b c q))
    obtain ⟨vl0, vu0⟩ := MdV_0 hV
    obtain ⟨vl1, vu1⟩ := MdV_1 hV
    obtain ⟨vl3, vu3⟩ := MdV_3 hV
    obtain ⟨vl12, vu12⟩ := MdV_12 hV
    refine T_aload_n (am_dec tX12_gets_0 0 rfl) rfl ?_
    refine T_iconst 0 (am_dec tX12_gets_0 1 rfl) rfl ⟨by decide, by decide⟩ ?_
    refine T_putfield (fs' := mdO b (c 0) (am_up (q 0) 0 0)) 11 0 (am_dec tX12_gets_0 2 rfl) flX12_160_11 rfl rfl rfl trivial (md_obj hl) (Nat.le_of_ble_eq_true rfl) rfl ?_
    refine am_wE (w2 := mdW w b c (am_put q 0 0 0)) (md_fq) ?_
    refine T_aload_n (am_dec tX12_gets_0 3 rfl) rfl ?_
    refine T_iload_n (am_dec tX12_gets_0 4 rfl) rfl ?_
    refine T_callS (as := [aI t]) rfl (am_dec tX12_gets_0 5 rfl) lkX12_351 rfl (Nat.le_of_ble_eq_true rfl) (by omega) (mk_isStep (d := d - 1)  t   (by omega)) (fun _ => ?_)
    refine T_nm (fun z7 hz7 => ?_)
    have hb7 := k_isStep_b t
    rw [← hz7] at hb7
    have hs7 := k_isStep_s t
    rw [← hz7] at hs7
    have K10 : ∀ (t10 : Int), t10 = (if z7 = 0 then 1 else (let z16 : Int := (k_in what 0 2); (if z16 = 0 then 1 else 0))) →  am_T S zX12_gets d u Q 27 [some (aR b), some (aI i), some (aI t), some (aI what)] [aI t10, aR b] (mdW w b c (am_put q 0 0 0)) := by
      intro t10 ht10
      have hxt10 := ht10
      dsimp only at hxt10
      have hy2 := k_in_s what 0 2
      have hbt10 : t10 = 0 ∨ t10 = 1 := by
        rw [ht10]
        try dsimp only
        repeat' split
        all_goals first | exact Or.inl rfl | exact Or.inr rfl | apply k_in_b | apply k_isDigit_b | apply k_isSmall_b | apply k_bad_b | apply k_isIn_b | apply k_isStep_b | apply k_isFirst_b | apply k_isLine_b | apply k_seesBy_b | apply k_isWalker_b | apply k_seesOne_b | apply k_badTwo_b | apply k_sees_b | apply k_isCode_b | apply k_isLot_b | omega
      refine T_iconst 1 (am_dec tX12_gets_0 15 rfl) rfl ⟨by decide, by decide⟩ ?_
      refine T_iconst 2 (am_dec tX12_gets_0 16 rfl) rfl ⟨by decide, by decide⟩ ?_
      refine T_callV (as := [aI t10, aI 1, aI 2]) rfl (am_dec tX12_gets_0 17 rfl) lkX12_275 (md_obj hl) rfl rfl (Nat.le_of_ble_eq_true rfl) (by omega) (mk_bad0 (d := d - 1) hl t10 1 2 (by omega) am_put_s (by omega)) (fun _ => ?_)
      refine T_nmH (W := fun x9 => mdW w b c x9) (v := (k_refuse (am_put q 0 0 0) t10 1 2)) (fun q29 hq29 => ?_)
      refine T_nm (fun z29 hz29 => ?_)
      have hq029 : t10 = 0 → q29 0 0 = 0 := fun h9 => by rw [hq29]; exact k_refuse_0 am_put_s h9
      refine T_if_eq 37 (am_dec tX12_gets_0 18 rfl) rfl (fun h32 => ?_) (fun h32 => ?_)
      · refine T_iload_n (am_dec tX12_gets_0 21 rfl) rfl ?_
        refine T_iconst 0 (am_dec tX12_gets_0 22 rfl) rfl ⟨by decide, by decide⟩ ?_
        refine T_aload_n (am_dec tX12_gets_0 23 rfl) rfl ?_
        refine T_getfield 11 30 (am_dec tX12_gets_0 24 rfl) flX12_292_11 (md_obj hl) rfl ?_
        refine T_iconst 1 (am_dec tX12_gets_0 25 rfl) rfl ⟨by decide, by decide⟩ ?_
        refine T_isub ((c 0 30) - 1) (am_dec tX12_gets_0 26 rfl) rfl ⟨by omega, by omega⟩ ?_
        refine T_callS (as := [aI i, aI 0, aI ((c 0 30) - 1)]) rfl (am_dec tX12_gets_0 27 rfl) lkX12_194 rfl (Nat.le_of_ble_eq_true rfl) (by omega) (mk_in (d := d - 1)  i 0 ((c 0 30) - 1)   ) (fun _ => ?_)
        refine T_nm (fun z45 hz45 => ?_)
        have hb45 := k_in_b i 0 ((c 0 30) - 1)
        rw [← hz45] at hb45
        have hs45 := k_in_s i 0 ((c 0 30) - 1)
        rw [← hz45] at hs45
        refine T_if_ne 53 (am_dec tX12_gets_0 28 rfl) rfl (fun h48 => ?_) (fun h48 => ?_)
        · have hbi := hB9 i (by omega) (by omega)
          refine T_aload_n (am_dec tX12_gets_0 31 rfl) rfl ?_
          refine T_callV (as := []) rfl (am_dec tX12_gets_0 32 rfl) lkX12_345 (md_obj hl) rfl rfl (Nat.le_of_ble_eq_true rfl) (by omega) (mk_goes (d := d - 1) hl   hV hWd hS9 hLp hDu (by omega)) (fun _ => ?_)
          refine T_nmH (W := fun x9 => mdW w b c x9) (v := k_goes c q29) (fun q54 hq54 => ?_)
          refine T_aload_n (am_dec tX12_gets_0 33 rfl) rfl ?_
          refine T_aload_n (am_dec tX12_gets_0 34 rfl) rfl ?_
          refine T_getfield 11 34 (am_dec tX12_gets_0 35 rfl) flX12_82_11 (md_obj hl) rfl ?_
          refine T_iload_n (am_dec tX12_gets_0 36 rfl) rfl ?_
          refine T_aaloadR (r := b + (133 + i.toNat)) (am_dec tX12_gets_0 37 rfl) (by decide) (mh_bid hl) (by omega) (by omega) (if_pos (by omega)) ?_
          refine T_iconst 0 (am_dec tX12_gets_0 38 rfl) rfl ⟨by decide, by decide⟩ ?_
          refine T_ialoadE (x := c (133 + i.toNat) 0) (am_dec tX12_gets_0 39 rfl) (mr_bid hl (i := i) (by omega) (by omega)) (by omega) (by omega) rfl ?_
          refine T_iload_n (am_dec tX12_gets_1 0 rfl) rfl ?_
          refine T_aload_n (am_dec tX12_gets_1 1 rfl) rfl ?_
          refine T_getfield 11 23 (am_dec tX12_gets_1 2 rfl) flX12_61_11 (md_obj hl) rfl ?_
          refine T_aload_n (am_dec tX12_gets_1 3 rfl) rfl ?_
          refine T_getfield 11 34 (am_dec tX12_gets_1 4 rfl) flX12_82_11 (md_obj hl) rfl ?_
          refine T_iload_n (am_dec tX12_gets_1 5 rfl) rfl ?_
          refine T_aaloadR (r := b + (133 + i.toNat)) (am_dec tX12_gets_1 6 rfl) (by decide) (mh_bid hl) (by omega) (by omega) (if_pos (by omega)) ?_
          refine T_iconst 0 (am_dec tX12_gets_1 7 rfl) rfl ⟨by decide, by decide⟩ ?_
          refine T_ialoadE (x := c (133 + i.toNat) 0) (am_dec tX12_gets_1 8 rfl) (mr_bid hl (i := i) (by omega) (by omega)) (by omega) (by omega) rfl ?_
          refine T_aaloadR (r := b + (96 + (c (133 + i.toNat) 0).toNat)) (am_dec tX12_gets_1 9 rfl) (by decide) (mh_lot hl) (by omega) (by omega) (if_pos (by omega)) ?_
          refine T_iconst 4 (am_dec tX12_gets_1 10 rfl) rfl ⟨by decide, by decide⟩ ?_
          refine T_ialoadE (x := c (96 + (c (133 + i.toNat) 0).toNat) 4) (am_dec tX12_gets_1 11 rfl) (mr_lot hl (i := (c (133 + i.toNat) 0)) (by omega) (by omega)) (by omega) (by omega) rfl ?_
          refine T_callV (as := [aI (c (133 + i.toNat) 0), aI t, aI (c (96 + (c (133 + i.toNat) 0).toNat) 4)]) rfl (am_dec tX12_gets_1 12 rfl) lkX12_421 (md_obj hl) rfl rfl (Nat.le_of_ble_eq_true rfl) (by omega) (mk_sells (d := d - 1) hl (c (133 + i.toNat) 0) t (c (96 + (c (133 + i.toNat) 0).toNat) 4)  hV hL (by omega) (by omega) (by omega)) (fun _ => ?_)
          refine T_nmH (W := fun x9 => mdW w b c x9) (v := k_sells c q54 (c (133 + i.toNat) 0) t (c (96 + (c (133 + i.toNat) 0).toNat) 4)) (fun q82 hq82 => ?_)
          refine T_iload_n (am_dec tX12_gets_1 13 rfl) rfl ?_
          have K86 : ∀ (t86 : Int), t86 = (if what = 0 then (q82 732 i.toNat) else (let t106 : Int := (if what = 1 then (c (133 + i.toNat) 2) else (q82 0 67)); (am_w32 ((q82 732 i.toNat) * t106)))) →  am_T S zX12_gets d u Q 125 [none, none, none, none] [aI t86] (mdW w b c q82) := by
            intro t86 ht86
            have hxt86 := ht86
            dsimp only at hxt86
            exact T_ireturn (am_dec tX12_gets_1 37 rfl) rfl (am_tr (fun (x9 : Int × am_F) => Q (.inl (some (aI (x9.1)))) (mdW w b c x9.2)) (y := (t86, q82)) (show (k_gets c q i t what) = (t86, q82) from (by have s9 := hz7.symm; subst s9; have s9 := ht10.symm; subst s9; have s9 := hq29.symm; subst s9; have s9 := hz29.symm; subst s9; have s9 := hz45.symm; subst s9; have s9 := hq54.symm; subst s9; have s9 := hq82.symm; subst s9; have s9 := ht86.symm; subst s9; exact ((if_pos h32).trans (if_neg h48)))) hQ)
          refine T_if_ne 98 (am_dec tX12_gets_1 14 rfl) rfl (fun h86 => ?_) (fun h86 => ?_)
          · refine T_aload_n (am_dec tX12_gets_1 20 rfl) rfl ?_
            refine T_getfield 11 65 (am_dec tX12_gets_1 21 rfl) flX12_145_11 (md_obj hl) rfl ?_
            refine T_iload_n (am_dec tX12_gets_1 22 rfl) rfl ?_
            refine T_ialoadE (x := q82 732 i.toNat) (am_dec tX12_gets_1 23 rfl) (md_got hl) (by omega) (by omega) rfl ?_
            refine T_iload_n (am_dec tX12_gets_1 24 rfl) rfl ?_
            refine T_iconst 1 (am_dec tX12_gets_1 25 rfl) rfl ⟨by decide, by decide⟩ ?_
            have K106 : ∀ (t106 : Int), t106 = (if what = 1 then (c (133 + i.toNat) 2) else (q82 0 67)) →  am_T S zX12_gets d u Q 124 [none, none, none, none] [aI t106, aI (q82 732 i.toNat)] (mdW w b c q82) := by
              intro t106 ht106
              refine T_imulW (am_w32 ((q82 732 i.toNat) * t106)) (am_dec tX12_gets_1 36 rfl) (am_w32e _).symm (am_w32r _) ?_
              exact K86 _ (by have s9 := ht106.symm; subst s9; exact (if_neg h86).symm)
            refine T_icmp_ne 120 (am_dec tX12_gets_1 26 rfl) rfl (fun h106 => ?_) (fun h106 => ?_)
            · refine T_aload_n (am_dec tX12_gets_1 34 rfl) rfl ?_
              refine T_getfield 11 67 (am_dec tX12_gets_1 35 rfl) flX12_418_11 (md_obj hl) rfl ?_
              refine T_weak (ls' := [none, none, none, none]) (am_sub_n (am_sub_n (am_sub_n (am_sub_n am_sub_nil)))) ?_
              exact K106 _ (if_neg h106).symm
            · refine T_aload_n (am_dec tX12_gets_1 27 rfl) rfl ?_
              refine T_getfield 11 34 (am_dec tX12_gets_1 28 rfl) flX12_82_11 (md_obj hl) rfl ?_
              refine T_iload_n (am_dec tX12_gets_1 29 rfl) rfl ?_
              refine T_aaloadR (r := b + (133 + i.toNat)) (am_dec tX12_gets_1 30 rfl) (by decide) (mh_bid hl) (by omega) (by omega) (if_pos (by omega)) ?_
              refine T_iconst 2 (am_dec tX12_gets_1 31 rfl) rfl ⟨by decide, by decide⟩ ?_
              refine T_ialoadE (x := c (133 + i.toNat) 2) (am_dec tX12_gets_1 32 rfl) (mr_bid hl (i := i) (by omega) (by omega)) (by omega) (by omega) rfl ?_
              refine T_goto 124 (am_dec tX12_gets_1 33 rfl) rfl ?_
              refine T_weak (ls' := [none, none, none, none]) (am_sub_n (am_sub_n (am_sub_n (am_sub_n am_sub_nil)))) ?_
              exact K106 _ (if_pos h106).symm
          · refine T_aload_n (am_dec tX12_gets_1 15 rfl) rfl ?_
            refine T_getfield 11 65 (am_dec tX12_gets_1 16 rfl) flX12_145_11 (md_obj hl) rfl ?_
            refine T_iload_n (am_dec tX12_gets_1 17 rfl) rfl ?_
            refine T_ialoadE (x := q82 732 i.toNat) (am_dec tX12_gets_1 18 rfl) (md_got hl) (by omega) (by omega) rfl ?_
            refine T_goto 125 (am_dec tX12_gets_1 19 rfl) rfl ?_
            refine T_weak (ls' := [none, none, none, none]) (am_sub_n (am_sub_n (am_sub_n (am_sub_n am_sub_nil)))) ?_
            exact K86 _ (if_pos h86).symm
        · refine T_iconst (-1) (am_dec tX12_gets_0 29 rfl) rfl ⟨by decide, by decide⟩ ?_
          exact T_ireturn (am_dec tX12_gets_0 30 rfl) rfl (am_tr (fun (x9 : Int × am_F) => Q (.inl (some (aI (x9.1)))) (mdW w b c x9.2)) (y := ((-1), q29)) (show (k_gets c q i t what) = ((-1), q29) from (by have s9 := hz7.symm; subst s9; have s9 := ht10.symm; subst s9; have s9 := hq29.symm; subst s9; have s9 := hz29.symm; subst s9; have s9 := hz45.symm; subst s9; exact ((if_pos h32).trans (if_pos h48)))) hQ)
      · refine T_iconst 0 (am_dec tX12_gets_0 19 rfl) rfl ⟨by decide, by decide⟩ ?_
        exact T_ireturn (am_dec tX12_gets_0 20 rfl) rfl (am_tr (fun (x9 : Int × am_F) => Q (.inl (some (aI (x9.1)))) (mdW w b c x9.2)) (y := (0, q29)) (show (k_gets c q i t what) = (0, q29) from (by have s9 := hz7.symm; subst s9; have s9 := ht10.symm; subst s9; have s9 := hq29.symm; subst s9; have s9 := hz29.symm; subst s9; exact (if_neg h32))) hQ)
    refine T_if_eq 22 (am_dec tX12_gets_0 6 rfl) rfl (fun h10 => ?_) (fun h10 => ?_)
    · refine T_iconst 1 (am_dec tX12_gets_0 12 rfl) rfl ⟨by decide, by decide⟩ ?_
      refine T_goto 27 (am_dec tX12_gets_0 13 rfl) rfl ?_
      exact K10 _ (if_pos h10).symm
    · refine T_iload_n (am_dec tX12_gets_0 7 rfl) rfl ?_
      refine T_iconst 0 (am_dec tX12_gets_0 8 rfl) rfl ⟨by decide, by decide⟩ ?_
      refine T_iconst 2 (am_dec tX12_gets_0 9 rfl) rfl ⟨by decide, by decide⟩ ?_
      refine T_callS (as := [aI what, aI 0, aI 2]) rfl (am_dec tX12_gets_0 10 rfl) lkX12_194 rfl (Nat.le_of_ble_eq_true rfl) (by omega) (mk_in (d := d - 1)  what 0 2   ) (fun _ => ?_)
      refine T_nm (fun z16 hz16 => ?_)
      have hb16 := k_in_b what 0 2
      rw [← hz16] at hb16
      have hs16 := k_in_s what 0 2
      rw [← hz16] at hs16
      have K19 : ∀ (t19 : Int), t19 = (if z16 = 0 then 1 else 0) →  am_T S zX12_gets d u Q 27 [some (aR b), some (aI i), some (aI t), some (aI what)] [aI t19, aR b] (mdW w b c (am_put q 0 0 0)) := by
        intro t19 ht19
        have hbt19 : t19 = 0 ∨ t19 = 1 := by
          rw [ht19]
          try dsimp only
          repeat' split
          all_goals first | exact Or.inl rfl | exact Or.inr rfl | apply k_in_b | apply k_isDigit_b | apply k_isSmall_b | apply k_bad_b | apply k_isIn_b | apply k_isStep_b | apply k_isFirst_b | apply k_isLine_b | apply k_seesBy_b | apply k_isWalker_b | apply k_seesOne_b | apply k_badTwo_b | apply k_sees_b | apply k_isCode_b | apply k_isLot_b | omega
        exact K10 _ (by have s9 := hz16.symm; subst s9; have s9 := ht19.symm; subst s9; exact (if_neg h10).symm)
      refine T_if_ne 26 (am_dec tX12_gets_0 11 rfl) rfl (fun h19 => ?_) (fun h19 => ?_)
      · refine T_iconst 0 (am_dec tX12_gets_0 14 rfl) rfl ⟨by decide, by decide⟩ ?_
        exact K19 _ (if_neg h19).symm
      · refine T_iconst 1 (am_dec tX12_gets_0 12 rfl) rfl ⟨by decide, by decide⟩ ?_
        refine T_goto 27 (am_dec tX12_gets_0 13 rfl) rfl ?_
        exact K19 _ (if_pos h19).symm
  exact key _ ⟨rfl, rfl⟩
def g_k_soldBy_14 (c : am_F) (q : am_F) (wy : Int) (i : Int) (v : Int) : Int := (let t33 : Int := (if wy = 0 then (c (133 + i.toNat) 2) else (q 0 67)); am_w32 (v + (am_w32 ((q 732 i.toNat) * t33))))
theorem L_k_soldBy_14 {S : am_S} {d u : Nat} {Q : AO → AH → Prop} {w : AH} {b : Nat} (hl : b + 735 ≤ w.length) (c : am_F) (q : am_F) (k : Int) (t : Int) (wy : Int) (hV : MdV c) (hL : MdL c) (hk : 0 ≤ k ∧ k < c 4 3) (ht : -1 ≤ t ∧ t < 40)  (hd : 3 ≤ d) (B9 : Int) (hB : B9 = c 0 30) : ∀ (n : Nat) (i : Int) (v : Int), i + n = B9 → 0 ≤ i → (∀ (v' : Int), v' = am_fold (g_k_soldBy_14 c q wy) i n v → am_T S zX12_soldBy d u Q 62 [none, none, none, none, none, some (aI v'), none] [] (mdW w b c q)) → am_T S zX12_soldBy d u Q 14 [some (aR b), none, none, some (aI wy), none, some (aI v), some (aI i)] [] (mdW w b c q) := by
  intro n
  induction n with
  | zero =>
    intro i v hi9 h0i k9
    have e9 : i = B9 := by omega
    subst e9
    obtain ⟨vl0, vu0⟩ := MdV_0 hV
    obtain ⟨vl1, vu1⟩ := MdV_1 hV
    obtain ⟨vl3, vu3⟩ := MdV_3 hV
    obtain ⟨vl12, vu12⟩ := MdV_12 hV
    refine T_iload (am_dec tX12_soldBy_0 9 rfl) rfl ?_
    refine T_aload_n (am_dec tX12_soldBy_0 10 rfl) rfl ?_
    refine T_getfield 11 30 (am_dec tX12_soldBy_0 11 rfl) flX12_292_11 (md_obj hl) rfl ?_
    refine T_icmp_ge 62 (am_dec tX12_soldBy_0 12 rfl) rfl (fun h20 => ?_) (fun h20 => by exfalso; omega)
    refine T_weak (ls' := [none, none, none, none, none, some (aI v), none]) (am_sub_n (am_sub_n (am_sub_n (am_sub_n (am_sub_n (am_sub_s (am_sub_n am_sub_nil))))))) ?_
    exact k9 v rfl
  | succ n ih =>
    intro i v hi9 h0i k9
    obtain ⟨vl0, vu0⟩ := MdV_0 hV
    obtain ⟨vl1, vu1⟩ := MdV_1 hV
    obtain ⟨vl3, vu3⟩ := MdV_3 hV
    obtain ⟨vl12, vu12⟩ := MdV_12 hV
    refine T_iload (am_dec tX12_soldBy_0 9 rfl) rfl ?_
    refine T_aload_n (am_dec tX12_soldBy_0 10 rfl) rfl ?_
    refine T_getfield 11 30 (am_dec tX12_soldBy_0 11 rfl) flX12_292_11 (md_obj hl) rfl ?_
    refine T_icmp_ge 62 (am_dec tX12_soldBy_0 12 rfl) rfl (fun h20 => by exfalso; omega) (fun h20 => ?_)
    refine T_iload (am_dec tX12_soldBy_0 13 rfl) rfl ?_
    refine T_aload_n (am_dec tX12_soldBy_0 14 rfl) rfl ?_
    refine T_getfield 11 65 (am_dec tX12_soldBy_0 15 rfl) flX12_145_11 (md_obj hl) rfl ?_
    refine T_iload (am_dec tX12_soldBy_0 16 rfl) rfl ?_
    refine T_ialoadE (x := q 732 i.toNat) (am_dec tX12_soldBy_0 17 rfl) (md_got hl) (by omega) (by omega) rfl ?_
    refine T_iload_n (am_dec tX12_soldBy_0 18 rfl) rfl ?_
    have K33 : ∀ (t33 : Int), t33 = (if wy = 0 then (c (133 + i.toNat) 2) else (q 0 67)) →  am_T S zX12_soldBy d u Q 52 [some (aR b), none, none, some (aI wy), none, none, some (aI i)] [aI t33, aI (q 732 i.toNat), aI v] (mdW w b c q) := by
      intro t33 ht33
      refine T_imulW (am_w32 ((q 732 i.toNat) * t33)) (am_dec tX12_soldBy_0 29 rfl) (am_w32e _).symm (am_w32r _) ?_
      refine T_iaddW (am_w32 (v + (am_w32 ((q 732 i.toNat) * t33)))) (am_dec tX12_soldBy_0 30 rfl) (am_w32e _).symm (am_w32r _) ?_
      refine T_nm (fun v_54 hv_54 => ?_)
      refine T_istore (ls' := [some (aR b), none, none, some (aI wy), none, some (aI v_54), some (aI i)]) (am_dec tX12_soldBy_0 31 rfl) (by decide) rfl ?_
      refine T_iinc (ls' := [some (aR b), none, none, some (aI wy), none, some (aI v_54), some (aI (i + 1))]) (i + 1) (am_dec tX12_soldBy_0 32 rfl) rfl rfl ⟨by omega, by omega⟩ (by decide) rfl ?_
      refine T_goto 14 (am_dec tX12_soldBy_0 33 rfl) rfl ?_
      have e9 : (g_k_soldBy_14 c q wy) i v = v_54 := (by have s9 := ht33.symm; subst s9; have s9 := hv_54.symm; subst s9; exact rfl)
      simp only [am_fold_s, e9] at k9
      exact ih (i + 1) v_54 (by omega) (by omega) k9
    refine T_if_ne 48 (am_dec tX12_soldBy_0 19 rfl) rfl (fun h33 => ?_) (fun h33 => ?_)
    · refine T_aload_n (am_dec tX12_soldBy_0 27 rfl) rfl ?_
      refine T_getfield 11 67 (am_dec tX12_soldBy_0 28 rfl) flX12_418_11 (md_obj hl) rfl ?_
      refine T_weak (ls' := [some (aR b), none, none, some (aI wy), none, none, some (aI i)]) (am_sub_s (am_sub_n (am_sub_n (am_sub_s (am_sub_n (am_sub_n (am_sub_s am_sub_nil))))))) ?_
      exact K33 _ (if_neg h33).symm
    · refine T_aload_n (am_dec tX12_soldBy_0 20 rfl) rfl ?_
      refine T_getfield 11 34 (am_dec tX12_soldBy_0 21 rfl) flX12_82_11 (md_obj hl) rfl ?_
      refine T_iload (am_dec tX12_soldBy_0 22 rfl) rfl ?_
      refine T_aaloadR (r := b + (133 + i.toNat)) (am_dec tX12_soldBy_0 23 rfl) (by decide) (mh_bid hl) (by omega) (by omega) (if_pos (by omega)) ?_
      refine T_iconst 2 (am_dec tX12_soldBy_0 24 rfl) rfl ⟨by decide, by decide⟩ ?_
      refine T_ialoadE (x := c (133 + i.toNat) 2) (am_dec tX12_soldBy_0 25 rfl) (mr_bid hl (i := i) (by omega) (by omega)) (by omega) (by omega) rfl ?_
      refine T_goto 52 (am_dec tX12_soldBy_0 26 rfl) rfl ?_
      refine T_weak (ls' := [some (aR b), none, none, some (aI wy), none, none, some (aI i)]) (am_sub_s (am_sub_n (am_sub_n (am_sub_s (am_sub_n (am_sub_n (am_sub_s am_sub_nil))))))) ?_
      exact K33 _ (if_pos h33).symm
def k_soldBy (c : am_F) (q : am_F) (k : Int) (t : Int) (wy : Int) (fl : Int) : Int × am_F := (let q5 : am_F := k_sells c q k t fl; (let v_14 : Int := am_fold (g_k_soldBy_14 c q5 wy) 0 (c 0 30).toNat 0; (v_14, q5)))
theorem mk_soldBy {S : am_S} {d u : Nat} {w : AH} {b : Nat} (hl : b + 735 ≤ w.length) {c : am_F} {q : am_F} (k : Int) (t : Int) (wy : Int) (fl : Int) (hV : MdV c) (hL : MdL c) (hk : 0 ≤ k ∧ k < c 4 3) (ht : -1 ≤ t ∧ t < 40) (hd : 3 ≤ d) : am_Out S zX12_soldBy d u [aR b, aI k, aI t, aI wy, aI fl] (mdW w b c q) (.inl (some (aI ((k_soldBy c q k t wy fl).1)))) (mdW w b c ((k_soldBy c q k t wy fl).2)) := by
  have key : ∀ Q : AO → AH → Prop, Q (.inl (some (aI ((k_soldBy c q k t wy fl).1)))) (mdW w b c ((k_soldBy c q k t wy fl).2)) → am_M S zX12_soldBy d u [aR b, aI k, aI t, aI wy, aI fl] (mdW w b c q) Q := by
    intro Q hQ
    refine am_body rfl (by decide +kernel) rfl (am_cats_cons rfl ( am_cats_cons rfl ( am_cats_cons rfl ( am_cats_cons rfl ( am_cats_cons rfl (am_cats_nil)))))) (Nat.le_of_ble_eq_true rfl) (?_ : am_T _ _ _ _ _ 0 [some (aR b), some (aI k), some (aI t), some (aI wy), some (aI fl), none, none] [] (mdW w b c q))
    obtain ⟨vl0, vu0⟩ := MdV_0 hV
    obtain ⟨vl1, vu1⟩ := MdV_1 hV
    obtain ⟨vl3, vu3⟩ := MdV_3 hV
    obtain ⟨vl12, vu12⟩ := MdV_12 hV
    refine T_aload_n (am_dec tX12_soldBy_0 0 rfl) rfl ?_
    refine T_iload_n (am_dec tX12_soldBy_0 1 rfl) rfl ?_
    refine T_iload_n (am_dec tX12_soldBy_0 2 rfl) rfl ?_
    refine T_iload (am_dec tX12_soldBy_0 3 rfl) rfl ?_
    refine T_callV (as := [aI k, aI t, aI fl]) rfl (am_dec tX12_soldBy_0 4 rfl) lkX12_421 (md_obj hl) rfl rfl (Nat.le_of_ble_eq_true rfl) (by omega) (mk_sells (d := d - 1) hl k t fl  hV hL (by omega) (by omega) (by omega)) (fun _ => ?_)
    refine T_nmH (W := fun x9 => mdW w b c x9) (v := k_sells c q k t fl) (fun q5 hq5 => ?_)
    refine T_iconst 0 (am_dec tX12_soldBy_0 5 rfl) rfl ⟨by decide, by decide⟩ ?_
    refine T_istore (ls' := [some (aR b), some (aI k), some (aI t), some (aI wy), some (aI fl), some (aI 0), none]) (am_dec tX12_soldBy_0 6 rfl) (by decide) rfl ?_
    refine T_iconst 0 (am_dec tX12_soldBy_0 7 rfl) rfl ⟨by decide, by decide⟩ ?_
    refine T_istore (ls' := [some (aR b), some (aI k), some (aI t), some (aI wy), some (aI fl), some (aI 0), some (aI 0)]) (am_dec tX12_soldBy_0 8 rfl) (by decide) rfl ?_
    refine T_weak (ls' := [some (aR b), none, none, some (aI wy), none, some (aI 0), some (aI 0)]) (am_sub_s (am_sub_n (am_sub_n (am_sub_s (am_sub_n (am_sub_s (am_sub_s am_sub_nil))))))) ?_
    refine L_k_soldBy_14 hl c q5 k t wy hV hL hk ht  (by omega) _ rfl (c 0 30).toNat 0 0 (by omega) (by omega) (fun v_14 hv_14 => ?_)
    refine T_iload (am_dec tX12_soldBy_0 34 rfl) rfl ?_
    exact T_ireturn (am_dec tX12_soldBy_0 35 rfl) rfl (am_tr (fun (x9 : Int × am_F) => Q (.inl (some (aI (x9.1)))) (mdW w b c x9.2)) (y := (v_14, q5)) (show (k_soldBy c q k t wy fl) = (v_14, q5) from (by have s9 := hq5.symm; subst s9; have s9 := hv_14.symm; subst s9; exact rfl)) hQ)
  exact key _ ⟨rfl, rfl⟩
def k_sold (c : am_F) (q : am_F) (k : Int) (t : Int) (wy : Int) : Int × am_F := (let z8 : Int := (k_isLot c k); (let t11 : Int := (if z8 = 0 then 1 else 0); (let q21 : am_F := (k_refuse (am_put q 0 0 0) t11 1 1); (let z21 : Int := (if t11 = 0 then 0 else 1); (if z21 = 0 then (let z29 : Int := (k_isStep t); (let t32 : Int := (if z29 = 0 then 1 else (let z38 : Int := (k_in wy 0 1); (if z38 = 0 then 1 else 0))); (let q51 : am_F := (k_refuse q21 t32 2 2); (let z51 : Int := (if t32 = 0 then 0 else 1); (if z51 = 0 then (let q60 : am_F := k_goes c q51; (let u75 : Int × am_F := k_soldBy c q60 k t wy (c (96 + k.toNat) 4); (((u75).1), (u75).2))) else (0, q51)))))) else (0, q21))))))
theorem mk_sold {S : am_S} {d u : Nat} {w : AH} {b : Nat} (hl : b + 735 ≤ w.length) {c : am_F} {q : am_F} (k : Int) (t : Int) (wy : Int) (hV : MdV c) (hWd : MdWd c) (hS9 : MdS c) (hLp : MdLp c) (hDu : MdDu c) (hL : MdL c) (hd : 5 ≤ d) : am_Out S zX12_sold d u [aR b, aI k, aI t, aI wy] (mdW w b c q) (.inl (some (aI ((k_sold c q k t wy).1)))) (mdW w b c ((k_sold c q k t wy).2)) := by
  have key : ∀ Q : AO → AH → Prop, Q (.inl (some (aI ((k_sold c q k t wy).1)))) (mdW w b c ((k_sold c q k t wy).2)) → am_M S zX12_sold d u [aR b, aI k, aI t, aI wy] (mdW w b c q) Q := by
    intro Q hQ
    refine am_body rfl (by decide +kernel) rfl (am_cats_cons rfl ( am_cats_cons rfl ( am_cats_cons rfl ( am_cats_cons rfl (am_cats_nil))))) (Nat.le_of_ble_eq_true rfl) (?_ : am_T _ _ _ _ _ 0 [some (aR b), some (aI k), some (aI t), some (aI wy)] [] (mdW w b c q))
    obtain ⟨vl0, vu0⟩ := MdV_0 hV
    obtain ⟨vl1, vu1⟩ := MdV_1 hV
    obtain ⟨vl3, vu3⟩ := MdV_3 hV
    refine T_aload_n (am_dec tX12_sold_0 0 rfl) rfl ?_
    refine T_iconst 0 (am_dec tX12_sold_0 1 rfl) rfl ⟨by decide, by decide⟩ ?_
    refine T_putfield (fs' := mdO b (c 0) (am_up (q 0) 0 0)) 11 0 (am_dec tX12_sold_0 2 rfl) flX12_160_11 rfl rfl rfl trivial (md_obj hl) (Nat.le_of_ble_eq_true rfl) rfl ?_
    refine am_wE (w2 := mdW w b c (am_put q 0 0 0)) (md_fq) ?_
    refine T_aload_n (am_dec tX12_sold_0 3 rfl) rfl ?_
    refine T_aload_n (am_dec tX12_sold_0 4 rfl) rfl ?_
    refine T_iload_n (am_dec tX12_sold_0 5 rfl) rfl ?_
    refine T_callV (as := [aI k]) rfl (am_dec tX12_sold_0 6 rfl) lkX12_412 (md_obj hl) rfl rfl (Nat.le_of_ble_eq_true rfl) (by omega) (mk_isLot (d := d - 1) hl k  hV (by omega)) (fun _ => ?_)
    refine T_nm (fun z8 hz8 => ?_)
    have hb8 := k_isLot_b c k
    rw [← hz8] at hb8
    have hs8 := k_isLot_s c k
    rw [← hz8] at hs8
    have K11 : ∀ (t11 : Int), t11 = (if z8 = 0 then 1 else 0) →  am_T S zX12_sold d u Q 19 [some (aR b), some (aI k), some (aI t), some (aI wy)] [aI t11, aR b] (mdW w b c (am_put q 0 0 0)) := by
      intro t11 ht11
      have hbt11 : t11 = 0 ∨ t11 = 1 := by
        rw [ht11]
        try dsimp only
        repeat' split
        all_goals first | exact Or.inl rfl | exact Or.inr rfl | apply k_in_b | apply k_isDigit_b | apply k_isSmall_b | apply k_bad_b | apply k_isIn_b | apply k_isStep_b | apply k_isFirst_b | apply k_isLine_b | apply k_seesBy_b | apply k_isWalker_b | apply k_seesOne_b | apply k_badTwo_b | apply k_sees_b | apply k_isCode_b | apply k_isLot_b | omega
      refine T_iconst 1 (am_dec tX12_sold_0 11 rfl) rfl ⟨by decide, by decide⟩ ?_
      refine T_iconst 1 (am_dec tX12_sold_0 12 rfl) rfl ⟨by decide, by decide⟩ ?_
      refine T_callV (as := [aI t11, aI 1, aI 1]) rfl (am_dec tX12_sold_0 13 rfl) lkX12_275 (md_obj hl) rfl rfl (Nat.le_of_ble_eq_true rfl) (by omega) (mk_bad0 (d := d - 1) hl t11 1 1 (by omega) am_put_s (by omega)) (fun _ => ?_)
      refine T_nmH (W := fun x9 => mdW w b c x9) (v := (k_refuse (am_put q 0 0 0) t11 1 1)) (fun q21 hq21 => ?_)
      refine T_nm (fun z21 hz21 => ?_)
      have hq021 : t11 = 0 → q21 0 0 = 0 := fun h9 => by rw [hq21]; exact k_refuse_0 am_put_s h9
      refine T_if_ne 57 (am_dec tX12_sold_0 14 rfl) rfl (fun h24 => ?_) (fun h24 => ?_)
      · refine T_iconst 0 (am_dec tX12_sold_0 31 rfl) rfl ⟨by decide, by decide⟩ ?_
        exact T_ireturn (am_dec tX12_sold_0 32 rfl) rfl (am_tr (fun (x9 : Int × am_F) => Q (.inl (some (aI (x9.1)))) (mdW w b c x9.2)) (y := (0, q21)) (show (k_sold c q k t wy) = (0, q21) from (by have s9 := hz8.symm; subst s9; have s9 := ht11.symm; subst s9; have s9 := hq21.symm; subst s9; have s9 := hz21.symm; subst s9; exact (if_neg h24))) hQ)
      · refine T_aload_n (am_dec tX12_sold_0 15 rfl) rfl ?_
        refine T_iload_n (am_dec tX12_sold_0 16 rfl) rfl ?_
        refine T_callS (as := [aI t]) rfl (am_dec tX12_sold_0 17 rfl) lkX12_351 rfl (Nat.le_of_ble_eq_true rfl) (by omega) (mk_isStep (d := d - 1)  t   (by omega)) (fun _ => ?_)
        refine T_nm (fun z29 hz29 => ?_)
        have hb29 := k_isStep_b t
        rw [← hz29] at hb29
        have hs29 := k_isStep_s t
        rw [← hz29] at hs29
        have K32 : ∀ (t32 : Int), t32 = (if z29 = 0 then 1 else (let z38 : Int := (k_in wy 0 1); (if z38 = 0 then 1 else 0))) →  am_T S zX12_sold d u Q 49 [some (aR b), some (aI k), some (aI t), some (aI wy)] [aI t32, aR b] (mdW w b c q21) := by
          intro t32 ht32
          have hxt32 := ht32
          dsimp only at hxt32
          have hy2 := k_in_s wy 0 1
          have hbt32 : t32 = 0 ∨ t32 = 1 := by
            rw [ht32]
            try dsimp only
            repeat' split
            all_goals first | exact Or.inl rfl | exact Or.inr rfl | apply k_in_b | apply k_isDigit_b | apply k_isSmall_b | apply k_bad_b | apply k_isIn_b | apply k_isStep_b | apply k_isFirst_b | apply k_isLine_b | apply k_seesBy_b | apply k_isWalker_b | apply k_seesOne_b | apply k_badTwo_b | apply k_sees_b | apply k_isCode_b | apply k_isLot_b | omega
          refine T_iconst 2 (am_dec tX12_sold_0 27 rfl) rfl ⟨by decide, by decide⟩ ?_
          refine T_iconst 2 (am_dec tX12_sold_0 28 rfl) rfl ⟨by decide, by decide⟩ ?_
          refine T_callV (as := [aI t32, aI 2, aI 2]) rfl (am_dec tX12_sold_0 29 rfl) lkX12_275 (md_obj hl) rfl rfl (Nat.le_of_ble_eq_true rfl) (by omega) (mk_bad0 (d := d - 1) hl t32 2 2 (by omega) (hq021 (by omega)) (by omega)) (fun _ => ?_)
          refine T_nmH (W := fun x9 => mdW w b c x9) (v := (k_refuse q21 t32 2 2)) (fun q51 hq51 => ?_)
          refine T_nm (fun z51 hz51 => ?_)
          have hq051 : t32 = 0 → q51 0 0 = 0 := fun h9 => by rw [hq51]; exact k_refuse_0 (hq021 (by omega)) h9
          refine T_if_eq 59 (am_dec tX12_sold_0 30 rfl) rfl (fun h54 => ?_) (fun h54 => ?_)
          · refine T_aload_n (am_dec tX12_sold_0 33 rfl) rfl ?_
            refine T_callV (as := []) rfl (am_dec tX12_sold_0 34 rfl) lkX12_345 (md_obj hl) rfl rfl (Nat.le_of_ble_eq_true rfl) (by omega) (mk_goes (d := d - 1) hl   hV hWd hS9 hLp hDu (by omega)) (fun _ => ?_)
            refine T_nmH (W := fun x9 => mdW w b c x9) (v := k_goes c q51) (fun q60 hq60 => ?_)
            refine T_aload_n (am_dec tX12_sold_0 35 rfl) rfl ?_
            refine T_iload_n (am_dec tX12_sold_0 36 rfl) rfl ?_
            refine T_iload_n (am_dec tX12_sold_0 37 rfl) rfl ?_
            refine T_iload_n (am_dec tX12_sold_0 38 rfl) rfl ?_
            refine T_aload_n (am_dec tX12_sold_0 39 rfl) rfl ?_
            refine T_getfield 11 23 (am_dec tX12_sold_1 0 rfl) flX12_61_11 (md_obj hl) rfl ?_
            refine T_iload_n (am_dec tX12_sold_1 1 rfl) rfl ?_
            refine T_aaloadR (r := b + (96 + k.toNat)) (am_dec tX12_sold_1 2 rfl) (by decide) (mh_lot hl) (by omega) (by omega) (if_pos (by omega)) ?_
            refine T_iconst 4 (am_dec tX12_sold_1 3 rfl) rfl ⟨by decide, by decide⟩ ?_
            refine T_ialoadE (x := c (96 + k.toNat) 4) (am_dec tX12_sold_1 4 rfl) (mr_lot hl (i := k) (by omega) (by omega)) (by omega) (by omega) rfl ?_
            refine T_callV (as := [aI k, aI t, aI wy, aI (c (96 + k.toNat) 4)]) rfl (am_dec tX12_sold_1 5 rfl) lkX12_425 (md_obj hl) rfl rfl (Nat.le_of_ble_eq_true rfl) (by omega) (mk_soldBy (d := d - 1) hl k t wy (c (96 + k.toNat) 4)  hV hL (by omega) (by omega) (by omega)) (fun _ => ?_)
            obtain ⟨u75, hu75⟩ : ∃ x9, x9 = k_soldBy c q60 k t wy (c (96 + k.toNat) 4) := ⟨_, rfl⟩
            rw [← hu75]
            exact T_ireturn (am_dec tX12_sold_1 6 rfl) rfl (am_tr (fun (x9 : Int × am_F) => Q (.inl (some (aI (x9.1)))) (mdW w b c x9.2)) (y := (((u75).1), (u75).2)) (show (k_sold c q k t wy) = (((u75).1), (u75).2) from (by have s9 := hz8.symm; subst s9; have s9 := ht11.symm; subst s9; have s9 := hq21.symm; subst s9; have s9 := hz21.symm; subst s9; have s9 := hz29.symm; subst s9; have s9 := ht32.symm; subst s9; have s9 := hq51.symm; subst s9; have s9 := hz51.symm; subst s9; have s9 := hq60.symm; subst s9; have s9 := hu75.symm; subst s9; exact ((if_pos h24).trans (if_pos h54)))) hQ)
          · refine T_iconst 0 (am_dec tX12_sold_0 31 rfl) rfl ⟨by decide, by decide⟩ ?_
            exact T_ireturn (am_dec tX12_sold_0 32 rfl) rfl (am_tr (fun (x9 : Int × am_F) => Q (.inl (some (aI (x9.1)))) (mdW w b c x9.2)) (y := (0, q51)) (show (k_sold c q k t wy) = (0, q51) from (by have s9 := hz8.symm; subst s9; have s9 := ht11.symm; subst s9; have s9 := hq21.symm; subst s9; have s9 := hz21.symm; subst s9; have s9 := hz29.symm; subst s9; have s9 := ht32.symm; subst s9; have s9 := hq51.symm; subst s9; have s9 := hz51.symm; subst s9; exact ((if_pos h24).trans (if_neg h54)))) hQ)
        refine T_if_eq 44 (am_dec tX12_sold_0 18 rfl) rfl (fun h32 => ?_) (fun h32 => ?_)
        · refine T_iconst 1 (am_dec tX12_sold_0 24 rfl) rfl ⟨by decide, by decide⟩ ?_
          refine T_goto 49 (am_dec tX12_sold_0 25 rfl) rfl ?_
          exact K32 _ (if_pos h32).symm
        · refine T_iload_n (am_dec tX12_sold_0 19 rfl) rfl ?_
          refine T_iconst 0 (am_dec tX12_sold_0 20 rfl) rfl ⟨by decide, by decide⟩ ?_
          refine T_iconst 1 (am_dec tX12_sold_0 21 rfl) rfl ⟨by decide, by decide⟩ ?_
          refine T_callS (as := [aI wy, aI 0, aI 1]) rfl (am_dec tX12_sold_0 22 rfl) lkX12_194 rfl (Nat.le_of_ble_eq_true rfl) (by omega) (mk_in (d := d - 1)  wy 0 1   ) (fun _ => ?_)
          refine T_nm (fun z38 hz38 => ?_)
          have hb38 := k_in_b wy 0 1
          rw [← hz38] at hb38
          have hs38 := k_in_s wy 0 1
          rw [← hz38] at hs38
          have K41 : ∀ (t41 : Int), t41 = (if z38 = 0 then 1 else 0) →  am_T S zX12_sold d u Q 49 [some (aR b), some (aI k), some (aI t), some (aI wy)] [aI t41, aR b] (mdW w b c q21) := by
            intro t41 ht41
            have hbt41 : t41 = 0 ∨ t41 = 1 := by
              rw [ht41]
              try dsimp only
              repeat' split
              all_goals first | exact Or.inl rfl | exact Or.inr rfl | apply k_in_b | apply k_isDigit_b | apply k_isSmall_b | apply k_bad_b | apply k_isIn_b | apply k_isStep_b | apply k_isFirst_b | apply k_isLine_b | apply k_seesBy_b | apply k_isWalker_b | apply k_seesOne_b | apply k_badTwo_b | apply k_sees_b | apply k_isCode_b | apply k_isLot_b | omega
            exact K32 _ (by have s9 := hz38.symm; subst s9; have s9 := ht41.symm; subst s9; exact (if_neg h32).symm)
          refine T_if_ne 48 (am_dec tX12_sold_0 23 rfl) rfl (fun h41 => ?_) (fun h41 => ?_)
          · refine T_iconst 0 (am_dec tX12_sold_0 26 rfl) rfl ⟨by decide, by decide⟩ ?_
            exact K41 _ (if_neg h41).symm
          · refine T_iconst 1 (am_dec tX12_sold_0 24 rfl) rfl ⟨by decide, by decide⟩ ?_
            refine T_goto 49 (am_dec tX12_sold_0 25 rfl) rfl ?_
            exact K41 _ (if_pos h41).symm
    refine T_if_ne 18 (am_dec tX12_sold_0 7 rfl) rfl (fun h11 => ?_) (fun h11 => ?_)
    · refine T_iconst 0 (am_dec tX12_sold_0 10 rfl) rfl ⟨by decide, by decide⟩ ?_
      exact K11 _ (if_neg h11).symm
    · refine T_iconst 1 (am_dec tX12_sold_0 8 rfl) rfl ⟨by decide, by decide⟩ ?_
      refine T_goto 19 (am_dec tX12_sold_0 9 rfl) rfl ?_
      exact K11 _ (if_pos h11).symm
  exact key _ ⟨rfl, rfl⟩
def g_k_when_64 (c : am_F) (k : Int) (wy : Int) (s : Int) (x9 : Int × Int × am_F) : Int × Int × am_F := let bst := x9.1; let most := x9.2.1; let q := x9.2.2; (let u84 : Int × am_F := k_soldBy c q k s wy (c (96 + k.toNat) 4); (let bst_93 : Int := (if most < (u84).1 then s else bst); (let most_93 : Int := (if most < (u84).1 then ((u84).1) else most); (bst_93, most_93, (u84).2))))
theorem L_k_when_64 {S : am_S} {d u : Nat} {Q : AO → AH → Prop} {w : AH} {b : Nat} (hl : b + 735 ≤ w.length) (c : am_F) (k : Int) (wy : Int) (hV : MdV c) (hWd : MdWd c) (hS9 : MdS c) (hLp : MdLp c) (hDu : MdDu c) (hL : MdL c) (hk : 0 ≤ k ∧ k < c 4 3) (hd : 5 ≤ d) (B9 : Int) (hB : B9 = 40) : ∀ (n : Nat) (s : Int) (bst : Int) (most : Int) (q : am_F), s + n = B9 → 0 ≤ s → (∀ (bst' : Int) (most' : Int) (q' : am_F), bst' = (am_fold (g_k_when_64 c k wy) s n (bst, most, q)).1 → most' = (am_fold (g_k_when_64 c k wy) s n (bst, most, q)).2.1 → q' = (am_fold (g_k_when_64 c k wy) s n (bst, most, q)).2.2 → am_T S zX12_when d u Q 112 [none, none, none, some (aI bst'), none, none, none] [] (mdW w b c q')) → am_T S zX12_when d u Q 64 [some (aR b), some (aI k), some (aI wy), some (aI bst), some (aI most), some (aI s), none] [] (mdW w b c q) := by
  intro n
  induction n with
  | zero =>
    intro s bst most q hi9 h0i k9
    have e9 : s = B9 := by omega
    subst e9
    obtain ⟨vl0, vu0⟩ := MdV_0 hV
    obtain ⟨vl1, vu1⟩ := MdV_1 hV
    obtain ⟨vl3, vu3⟩ := MdV_3 hV
    refine T_iload (am_dec tX12_when_0 38 rfl) rfl ?_
    refine T_bipush 40 (am_dec tX12_when_0 39 rfl) rfl ⟨by decide, by decide⟩ ?_
    refine T_icmp_ge 112 (am_dec tX12_when_1 0 rfl) rfl (fun h68 => ?_) (fun h68 => by exfalso; omega)
    refine T_weak (ls' := [none, none, none, some (aI bst), none, none, none]) (am_sub_n (am_sub_n (am_sub_n (am_sub_s (am_sub_n (am_sub_n (am_sub_n am_sub_nil))))))) ?_
    exact k9 bst most q rfl rfl rfl
  | succ n ih =>
    intro s bst most q hi9 h0i k9
    obtain ⟨vl0, vu0⟩ := MdV_0 hV
    obtain ⟨vl1, vu1⟩ := MdV_1 hV
    obtain ⟨vl3, vu3⟩ := MdV_3 hV
    refine T_iload (am_dec tX12_when_0 38 rfl) rfl ?_
    refine T_bipush 40 (am_dec tX12_when_0 39 rfl) rfl ⟨by decide, by decide⟩ ?_
    refine T_icmp_ge 112 (am_dec tX12_when_1 0 rfl) rfl (fun h68 => by exfalso; omega) (fun h68 => ?_)
    refine T_aload_n (am_dec tX12_when_1 1 rfl) rfl ?_
    refine T_iload_n (am_dec tX12_when_1 2 rfl) rfl ?_
    refine T_iload (am_dec tX12_when_1 3 rfl) rfl ?_
    refine T_iload_n (am_dec tX12_when_1 4 rfl) rfl ?_
    refine T_aload_n (am_dec tX12_when_1 5 rfl) rfl ?_
    refine T_getfield 11 23 (am_dec tX12_when_1 6 rfl) flX12_61_11 (md_obj hl) rfl ?_
    refine T_iload_n (am_dec tX12_when_1 7 rfl) rfl ?_
    refine T_aaloadR (r := b + (96 + k.toNat)) (am_dec tX12_when_1 8 rfl) (by decide) (mh_lot hl) (by omega) (by omega) (if_pos (by omega)) ?_
    refine T_iconst 4 (am_dec tX12_when_1 9 rfl) rfl ⟨by decide, by decide⟩ ?_
    refine T_ialoadE (x := c (96 + k.toNat) 4) (am_dec tX12_when_1 10 rfl) (mr_lot hl (i := k) (by omega) (by omega)) (by omega) (by omega) rfl ?_
    refine T_callV (as := [aI k, aI s, aI wy, aI (c (96 + k.toNat) 4)]) rfl (am_dec tX12_when_1 11 rfl) lkX12_425 (md_obj hl) rfl rfl (Nat.le_of_ble_eq_true rfl) (by omega) (mk_soldBy (d := d - 1) hl k s wy (c (96 + k.toNat) 4)  hV hL (by omega) (by omega) (by omega)) (fun _ => ?_)
    obtain ⟨u84, hu84⟩ : ∃ x9, x9 = k_soldBy c q k s wy (c (96 + k.toNat) 4) := ⟨_, rfl⟩
    rw [← hu84]
    refine T_istore (ls' := [some (aR b), some (aI k), some (aI wy), some (aI bst), some (aI most), some (aI s), some (aI ((u84).1))]) (am_dec tX12_when_1 12 rfl) (by decide) rfl ?_
    refine T_iload (am_dec tX12_when_1 13 rfl) rfl ?_
    refine T_iload (am_dec tX12_when_1 14 rfl) rfl ?_
    have K93 : ∀ (bst_93 : Int), ∀ (most_93 : Int), bst_93 = (if most < (u84).1 then s else bst) → most_93 = (if most < (u84).1 then ((u84).1) else most) →  am_T S zX12_when d u Q 106 [some (aR b), some (aI k), some (aI wy), some (aI bst_93), some (aI most_93), some (aI s), none] [] (mdW w b c (u84).2) := by
      intro bst_93 most_93 hbst_93 hmost_93
      refine T_iinc (ls' := [some (aR b), some (aI k), some (aI wy), some (aI bst_93), some (aI most_93), some (aI (s + 1)), none]) (s + 1) (am_dec tX12_when_1 21 rfl) rfl rfl ⟨by omega, by omega⟩ (by decide) rfl ?_
      refine T_goto 64 (am_dec tX12_when_1 22 rfl) rfl ?_
      have e9 : (g_k_when_64 c k wy) s (bst, most, q) = (bst_93, most_93, (u84).2) := (by have s9 := hu84.symm; subst s9; have s9 := hbst_93.symm; subst s9; have s9 := hmost_93.symm; subst s9; exact rfl)
      simp only [am_fold_s, e9] at k9
      exact ih (s + 1) bst_93 most_93 ((u84).2) (by omega) (by omega) k9
    refine T_icmp_gt 99 (am_dec tX12_when_1 15 rfl) rfl (fun h93 => ?_) (fun h93 => ?_)
    · refine T_iload (am_dec tX12_when_1 17 rfl) rfl ?_
      refine T_istore_n (ls' := [some (aR b), some (aI k), some (aI wy), some (aI s), some (aI most), some (aI s), some (aI ((u84).1))]) (am_dec tX12_when_1 18 rfl) (by decide) rfl ?_
      refine T_iload (am_dec tX12_when_1 19 rfl) rfl ?_
      refine T_istore (ls' := [some (aR b), some (aI k), some (aI wy), some (aI s), some (aI ((u84).1)), some (aI s), some (aI ((u84).1))]) (am_dec tX12_when_1 20 rfl) (by decide) rfl ?_
      refine T_weak (ls' := [some (aR b), some (aI k), some (aI wy), some (aI s), some (aI ((u84).1)), some (aI s), none]) (am_sub_s (am_sub_s (am_sub_s (am_sub_s (am_sub_s (am_sub_s (am_sub_n am_sub_nil))))))) ?_
      exact K93 _ _ (if_pos h93).symm (if_pos h93).symm
    · refine T_goto 106 (am_dec tX12_when_1 16 rfl) rfl ?_
      refine T_weak (ls' := [some (aR b), some (aI k), some (aI wy), some (aI bst), some (aI most), some (aI s), none]) (am_sub_s (am_sub_s (am_sub_s (am_sub_s (am_sub_s (am_sub_s (am_sub_n am_sub_nil))))))) ?_
      exact K93 _ _ (if_neg h93).symm (if_neg h93).symm
def k_when (c : am_F) (q : am_F) (k : Int) (wy : Int) : Int × am_F := (let z8 : Int := (k_isLot c k); (let t11 : Int := (if z8 = 0 then 1 else 0); (let q21 : am_F := (k_refuse (am_put q 0 0 0) t11 1 1); (let z21 : Int := (if t11 = 0 then 0 else 1); (if z21 = 0 then (let z31 : Int := (k_in wy 0 1); (let t34 : Int := (if z31 = 0 then 1 else 0); (let q44 : am_F := (k_refuse q21 t34 2 2); (let z44 : Int := (if t34 = 0 then 0 else 1); (if z44 = 0 then (let q53 : am_F := k_goes c q44; (let bst_64 : Int := (am_fold (g_k_when_64 c k wy) 0 40 ((-1), 0, q53)).1; (let q64 : am_F := (am_fold (g_k_when_64 c k wy) 0 40 ((-1), 0, q53)).2.2; (bst_64, q64)))) else (0, q44)))))) else (0, q21))))))
theorem mk_when {S : am_S} {d u : Nat} {w : AH} {b : Nat} (hl : b + 735 ≤ w.length) {c : am_F} {q : am_F} (k : Int) (wy : Int) (hV : MdV c) (hWd : MdWd c) (hS9 : MdS c) (hLp : MdLp c) (hDu : MdDu c) (hL : MdL c) (hd : 5 ≤ d) : am_Out S zX12_when d u [aR b, aI k, aI wy] (mdW w b c q) (.inl (some (aI ((k_when c q k wy).1)))) (mdW w b c ((k_when c q k wy).2)) := by
  have key : ∀ Q : AO → AH → Prop, Q (.inl (some (aI ((k_when c q k wy).1)))) (mdW w b c ((k_when c q k wy).2)) → am_M S zX12_when d u [aR b, aI k, aI wy] (mdW w b c q) Q := by
    intro Q hQ
    refine am_body rfl (by decide +kernel) rfl (am_cats_cons rfl ( am_cats_cons rfl ( am_cats_cons rfl (am_cats_nil)))) (Nat.le_of_ble_eq_true rfl) (?_ : am_T _ _ _ _ _ 0 [some (aR b), some (aI k), some (aI wy), none, none, none, none] [] (mdW w b c q))
    obtain ⟨vl0, vu0⟩ := MdV_0 hV
    obtain ⟨vl1, vu1⟩ := MdV_1 hV
    obtain ⟨vl3, vu3⟩ := MdV_3 hV
    refine T_aload_n (am_dec tX12_when_0 0 rfl) rfl ?_
    refine T_iconst 0 (am_dec tX12_when_0 1 rfl) rfl ⟨by decide, by decide⟩ ?_
    refine T_putfield (fs' := mdO b (c 0) (am_up (q 0) 0 0)) 11 0 (am_dec tX12_when_0 2 rfl) flX12_160_11 rfl rfl rfl trivial (md_obj hl) (Nat.le_of_ble_eq_true rfl) rfl ?_
    refine am_wE (w2 := mdW w b c (am_put q 0 0 0)) (md_fq) ?_
    refine T_aload_n (am_dec tX12_when_0 3 rfl) rfl ?_
    refine T_aload_n (am_dec tX12_when_0 4 rfl) rfl ?_
    refine T_iload_n (am_dec tX12_when_0 5 rfl) rfl ?_
    refine T_callV (as := [aI k]) rfl (am_dec tX12_when_0 6 rfl) lkX12_412 (md_obj hl) rfl rfl (Nat.le_of_ble_eq_true rfl) (by omega) (mk_isLot (d := d - 1) hl k  hV (by omega)) (fun _ => ?_)
    refine T_nm (fun z8 hz8 => ?_)
    have hb8 := k_isLot_b c k
    rw [← hz8] at hb8
    have hs8 := k_isLot_s c k
    rw [← hz8] at hs8
    have K11 : ∀ (t11 : Int), t11 = (if z8 = 0 then 1 else 0) →  am_T S zX12_when d u Q 19 [some (aR b), some (aI k), some (aI wy), none, none, none, none] [aI t11, aR b] (mdW w b c (am_put q 0 0 0)) := by
      intro t11 ht11
      have hbt11 : t11 = 0 ∨ t11 = 1 := by
        rw [ht11]
        try dsimp only
        repeat' split
        all_goals first | exact Or.inl rfl | exact Or.inr rfl | apply k_in_b | apply k_isDigit_b | apply k_isSmall_b | apply k_bad_b | apply k_isIn_b | apply k_isStep_b | apply k_isFirst_b | apply k_isLine_b | apply k_seesBy_b | apply k_isWalker_b | apply k_seesOne_b | apply k_badTwo_b | apply k_sees_b | apply k_isCode_b | apply k_isLot_b | omega
      refine T_iconst 1 (am_dec tX12_when_0 11 rfl) rfl ⟨by decide, by decide⟩ ?_
      refine T_iconst 1 (am_dec tX12_when_0 12 rfl) rfl ⟨by decide, by decide⟩ ?_
      refine T_callV (as := [aI t11, aI 1, aI 1]) rfl (am_dec tX12_when_0 13 rfl) lkX12_275 (md_obj hl) rfl rfl (Nat.le_of_ble_eq_true rfl) (by omega) (mk_bad0 (d := d - 1) hl t11 1 1 (by omega) am_put_s (by omega)) (fun _ => ?_)
      refine T_nmH (W := fun x9 => mdW w b c x9) (v := (k_refuse (am_put q 0 0 0) t11 1 1)) (fun q21 hq21 => ?_)
      refine T_nm (fun z21 hz21 => ?_)
      have hq021 : t11 = 0 → q21 0 0 = 0 := fun h9 => by rw [hq21]; exact k_refuse_0 am_put_s h9
      refine T_if_ne 50 (am_dec tX12_when_0 14 rfl) rfl (fun h24 => ?_) (fun h24 => ?_)
      · refine T_iconst 0 (am_dec tX12_when_0 28 rfl) rfl ⟨by decide, by decide⟩ ?_
        exact T_ireturn (am_dec tX12_when_0 29 rfl) rfl (am_tr (fun (x9 : Int × am_F) => Q (.inl (some (aI (x9.1)))) (mdW w b c x9.2)) (y := (0, q21)) (show (k_when c q k wy) = (0, q21) from (by have s9 := hz8.symm; subst s9; have s9 := ht11.symm; subst s9; have s9 := hq21.symm; subst s9; have s9 := hz21.symm; subst s9; exact (if_neg h24))) hQ)
      · refine T_aload_n (am_dec tX12_when_0 15 rfl) rfl ?_
        refine T_iload_n (am_dec tX12_when_0 16 rfl) rfl ?_
        refine T_iconst 0 (am_dec tX12_when_0 17 rfl) rfl ⟨by decide, by decide⟩ ?_
        refine T_iconst 1 (am_dec tX12_when_0 18 rfl) rfl ⟨by decide, by decide⟩ ?_
        refine T_callS (as := [aI wy, aI 0, aI 1]) rfl (am_dec tX12_when_0 19 rfl) lkX12_194 rfl (Nat.le_of_ble_eq_true rfl) (by omega) (mk_in (d := d - 1)  wy 0 1   ) (fun _ => ?_)
        refine T_nm (fun z31 hz31 => ?_)
        have hb31 := k_in_b wy 0 1
        rw [← hz31] at hb31
        have hs31 := k_in_s wy 0 1
        rw [← hz31] at hs31
        have K34 : ∀ (t34 : Int), t34 = (if z31 = 0 then 1 else 0) →  am_T S zX12_when d u Q 42 [some (aR b), some (aI k), some (aI wy), none, none, none, none] [aI t34, aR b] (mdW w b c q21) := by
          intro t34 ht34
          have hbt34 : t34 = 0 ∨ t34 = 1 := by
            rw [ht34]
            try dsimp only
            repeat' split
            all_goals first | exact Or.inl rfl | exact Or.inr rfl | apply k_in_b | apply k_isDigit_b | apply k_isSmall_b | apply k_bad_b | apply k_isIn_b | apply k_isStep_b | apply k_isFirst_b | apply k_isLine_b | apply k_seesBy_b | apply k_isWalker_b | apply k_seesOne_b | apply k_badTwo_b | apply k_sees_b | apply k_isCode_b | apply k_isLot_b | omega
          refine T_iconst 2 (am_dec tX12_when_0 24 rfl) rfl ⟨by decide, by decide⟩ ?_
          refine T_iconst 2 (am_dec tX12_when_0 25 rfl) rfl ⟨by decide, by decide⟩ ?_
          refine T_callV (as := [aI t34, aI 2, aI 2]) rfl (am_dec tX12_when_0 26 rfl) lkX12_275 (md_obj hl) rfl rfl (Nat.le_of_ble_eq_true rfl) (by omega) (mk_bad0 (d := d - 1) hl t34 2 2 (by omega) (hq021 (by omega)) (by omega)) (fun _ => ?_)
          refine T_nmH (W := fun x9 => mdW w b c x9) (v := (k_refuse q21 t34 2 2)) (fun q44 hq44 => ?_)
          refine T_nm (fun z44 hz44 => ?_)
          have hq044 : t34 = 0 → q44 0 0 = 0 := fun h9 => by rw [hq44]; exact k_refuse_0 (hq021 (by omega)) h9
          refine T_if_eq 52 (am_dec tX12_when_0 27 rfl) rfl (fun h47 => ?_) (fun h47 => ?_)
          · refine T_aload_n (am_dec tX12_when_0 30 rfl) rfl ?_
            refine T_callV (as := []) rfl (am_dec tX12_when_0 31 rfl) lkX12_345 (md_obj hl) rfl rfl (Nat.le_of_ble_eq_true rfl) (by omega) (mk_goes (d := d - 1) hl   hV hWd hS9 hLp hDu (by omega)) (fun _ => ?_)
            refine T_nmH (W := fun x9 => mdW w b c x9) (v := k_goes c q44) (fun q53 hq53 => ?_)
            refine T_iconst (-1) (am_dec tX12_when_0 32 rfl) rfl ⟨by decide, by decide⟩ ?_
            refine T_istore_n (ls' := [some (aR b), some (aI k), some (aI wy), some (aI (-1)), none, none, none]) (am_dec tX12_when_0 33 rfl) (by decide) rfl ?_
            refine T_iconst 0 (am_dec tX12_when_0 34 rfl) rfl ⟨by decide, by decide⟩ ?_
            refine T_istore (ls' := [some (aR b), some (aI k), some (aI wy), some (aI (-1)), some (aI 0), none, none]) (am_dec tX12_when_0 35 rfl) (by decide) rfl ?_
            refine T_iconst 0 (am_dec tX12_when_0 36 rfl) rfl ⟨by decide, by decide⟩ ?_
            refine T_istore (ls' := [some (aR b), some (aI k), some (aI wy), some (aI (-1)), some (aI 0), some (aI 0), none]) (am_dec tX12_when_0 37 rfl) (by decide) rfl ?_
            refine L_k_when_64 hl c k wy hV hWd hS9 hLp hDu hL (by omega) (by omega) _ rfl 40 0 (-1) 0 q53 (by omega) (by omega) (fun bst_64 most_64 q64 hbst_64 hmost_64 hq64 => ?_)
            refine T_iload_n (am_dec tX12_when_1 23 rfl) rfl ?_
            exact T_ireturn (am_dec tX12_when_1 24 rfl) rfl (am_tr (fun (x9 : Int × am_F) => Q (.inl (some (aI (x9.1)))) (mdW w b c x9.2)) (y := (bst_64, q64)) (show (k_when c q k wy) = (bst_64, q64) from (by have s9 := hz8.symm; subst s9; have s9 := ht11.symm; subst s9; have s9 := hq21.symm; subst s9; have s9 := hz21.symm; subst s9; have s9 := hz31.symm; subst s9; have s9 := ht34.symm; subst s9; have s9 := hq44.symm; subst s9; have s9 := hz44.symm; subst s9; have s9 := hq53.symm; subst s9; have s9 := hbst_64.symm; subst s9; have s9 := hmost_64.symm; subst s9; have s9 := hq64.symm; subst s9; exact ((if_pos h24).trans (if_pos h47)))) hQ)
          · refine T_iconst 0 (am_dec tX12_when_0 28 rfl) rfl ⟨by decide, by decide⟩ ?_
            exact T_ireturn (am_dec tX12_when_0 29 rfl) rfl (am_tr (fun (x9 : Int × am_F) => Q (.inl (some (aI (x9.1)))) (mdW w b c x9.2)) (y := (0, q44)) (show (k_when c q k wy) = (0, q44) from (by have s9 := hz8.symm; subst s9; have s9 := ht11.symm; subst s9; have s9 := hq21.symm; subst s9; have s9 := hz21.symm; subst s9; have s9 := hz31.symm; subst s9; have s9 := ht34.symm; subst s9; have s9 := hq44.symm; subst s9; have s9 := hz44.symm; subst s9; exact ((if_pos h24).trans (if_neg h47)))) hQ)
        refine T_if_ne 41 (am_dec tX12_when_0 20 rfl) rfl (fun h34 => ?_) (fun h34 => ?_)
        · refine T_iconst 0 (am_dec tX12_when_0 23 rfl) rfl ⟨by decide, by decide⟩ ?_
          exact K34 _ (if_neg h34).symm
        · refine T_iconst 1 (am_dec tX12_when_0 21 rfl) rfl ⟨by decide, by decide⟩ ?_
          refine T_goto 42 (am_dec tX12_when_0 22 rfl) rfl ?_
          exact K34 _ (if_pos h34).symm
    refine T_if_ne 18 (am_dec tX12_when_0 7 rfl) rfl (fun h11 => ?_) (fun h11 => ?_)
    · refine T_iconst 0 (am_dec tX12_when_0 10 rfl) rfl ⟨by decide, by decide⟩ ?_
      exact K11 _ (if_neg h11).symm
    · refine T_iconst 1 (am_dec tX12_when_0 8 rfl) rfl ⟨by decide, by decide⟩ ?_
      refine T_goto 19 (am_dec tX12_when_0 9 rfl) rfl ?_
      exact K11 _ (if_pos h11).symm
  exact key _ ⟨rfl, rfl⟩
def g_k_asked_82 (c : am_F) (k : Int) (t : Int) (wy : Int) (f : Int) (x9 : Int × Int × am_F) : Int × Int × am_F := let bst := x9.1; let most := x9.2.1; let q := x9.2.2; (let u95 : Int × am_F := k_soldBy c q k t wy f; (let bst_104 : Int := (if most < (u95).1 then f else bst); (let most_104 : Int := (if most < (u95).1 then ((u95).1) else most); (bst_104, most_104, (u95).2))))
theorem L_k_asked_82 {S : am_S} {d u : Nat} {Q : AO → AH → Prop} {w : AH} {b : Nat} (hl : b + 735 ≤ w.length) (c : am_F) (k : Int) (t : Int) (wy : Int) (what : Int) (hV : MdV c) (hWd : MdWd c) (hS9 : MdS c) (hLp : MdLp c) (hDu : MdDu c) (hL : MdL c) (hk : 0 ≤ k ∧ k < c 4 3) (ht : 0 ≤ t ∧ t < 40) (hd : 5 ≤ d) (B9 : Int) (hB : B9 = 10) : ∀ (n : Nat) (f : Int) (bst : Int) (most : Int) (q : am_F), f + n = B9 → 0 ≤ f → (∀ (bst' : Int) (most' : Int) (q' : am_F), bst' = (am_fold (g_k_asked_82 c k t wy) f n (bst, most, q)).1 → most' = (am_fold (g_k_asked_82 c k t wy) f n (bst, most, q)).2.1 → q' = (am_fold (g_k_asked_82 c k t wy) f n (bst, most, q)).2.2 → am_T S zX12_asked d u Q 124 [none, none, none, none, some (aI what), some (aI bst'), some (aI most'), none, none] [] (mdW w b c q')) → am_T S zX12_asked d u Q 82 [some (aR b), some (aI k), some (aI t), some (aI wy), some (aI what), some (aI bst), some (aI most), some (aI f), none] [] (mdW w b c q) := by
  intro n
  induction n with
  | zero =>
    intro f bst most q hi9 h0i k9
    have e9 : f = B9 := by omega
    subst e9
    obtain ⟨vl0, vu0⟩ := MdV_0 hV
    obtain ⟨vl1, vu1⟩ := MdV_1 hV
    obtain ⟨vl3, vu3⟩ := MdV_3 hV
    refine T_iload (am_dec tX12_asked_1 6 rfl) rfl ?_
    refine T_bipush 10 (am_dec tX12_asked_1 7 rfl) rfl ⟨by decide, by decide⟩ ?_
    refine T_icmp_ge 124 (am_dec tX12_asked_1 8 rfl) rfl (fun h86 => ?_) (fun h86 => by exfalso; omega)
    refine T_weak (ls' := [none, none, none, none, some (aI what), some (aI bst), some (aI most), none, none]) (am_sub_n (am_sub_n (am_sub_n (am_sub_n (am_sub_s (am_sub_s (am_sub_s (am_sub_n (am_sub_n am_sub_nil))))))))) ?_
    exact k9 bst most q rfl rfl rfl
  | succ n ih =>
    intro f bst most q hi9 h0i k9
    obtain ⟨vl0, vu0⟩ := MdV_0 hV
    obtain ⟨vl1, vu1⟩ := MdV_1 hV
    obtain ⟨vl3, vu3⟩ := MdV_3 hV
    refine T_iload (am_dec tX12_asked_1 6 rfl) rfl ?_
    refine T_bipush 10 (am_dec tX12_asked_1 7 rfl) rfl ⟨by decide, by decide⟩ ?_
    refine T_icmp_ge 124 (am_dec tX12_asked_1 8 rfl) rfl (fun h86 => by exfalso; omega) (fun h86 => ?_)
    refine T_aload_n (am_dec tX12_asked_1 9 rfl) rfl ?_
    refine T_iload_n (am_dec tX12_asked_1 10 rfl) rfl ?_
    refine T_iload_n (am_dec tX12_asked_1 11 rfl) rfl ?_
    refine T_iload_n (am_dec tX12_asked_1 12 rfl) rfl ?_
    refine T_iload (am_dec tX12_asked_1 13 rfl) rfl ?_
    refine T_callV (as := [aI k, aI t, aI wy, aI f]) rfl (am_dec tX12_asked_1 14 rfl) lkX12_425 (md_obj hl) rfl rfl (Nat.le_of_ble_eq_true rfl) (by omega) (mk_soldBy (d := d - 1) hl k t wy f  hV hL (by omega) (by omega) (by omega)) (fun _ => ?_)
    obtain ⟨u95, hu95⟩ : ∃ x9, x9 = k_soldBy c q k t wy f := ⟨_, rfl⟩
    rw [← hu95]
    refine T_istore (ls' := [some (aR b), some (aI k), some (aI t), some (aI wy), some (aI what), some (aI bst), some (aI most), some (aI f), some (aI ((u95).1))]) (am_dec tX12_asked_1 15 rfl) (by decide) rfl ?_
    refine T_iload (am_dec tX12_asked_1 16 rfl) rfl ?_
    refine T_iload (am_dec tX12_asked_1 17 rfl) rfl ?_
    have K104 : ∀ (bst_104 : Int), ∀ (most_104 : Int), bst_104 = (if most < (u95).1 then f else bst) → most_104 = (if most < (u95).1 then ((u95).1) else most) →  am_T S zX12_asked d u Q 118 [some (aR b), some (aI k), some (aI t), some (aI wy), some (aI what), some (aI bst_104), some (aI most_104), some (aI f), none] [] (mdW w b c (u95).2) := by
      intro bst_104 most_104 hbst_104 hmost_104
      refine T_iinc (ls' := [some (aR b), some (aI k), some (aI t), some (aI wy), some (aI what), some (aI bst_104), some (aI most_104), some (aI (f + 1)), none]) (f + 1) (am_dec tX12_asked_1 24 rfl) rfl rfl ⟨by omega, by omega⟩ (by decide) rfl ?_
      refine T_goto 82 (am_dec tX12_asked_1 25 rfl) rfl ?_
      have e9 : (g_k_asked_82 c k t wy) f (bst, most, q) = (bst_104, most_104, (u95).2) := (by have s9 := hu95.symm; subst s9; have s9 := hbst_104.symm; subst s9; have s9 := hmost_104.symm; subst s9; exact rfl)
      simp only [am_fold_s, e9] at k9
      exact ih (f + 1) bst_104 most_104 ((u95).2) (by omega) (by omega) k9
    refine T_icmp_gt 110 (am_dec tX12_asked_1 18 rfl) rfl (fun h104 => ?_) (fun h104 => ?_)
    · refine T_iload (am_dec tX12_asked_1 20 rfl) rfl ?_
      refine T_istore (ls' := [some (aR b), some (aI k), some (aI t), some (aI wy), some (aI what), some (aI f), some (aI most), some (aI f), some (aI ((u95).1))]) (am_dec tX12_asked_1 21 rfl) (by decide) rfl ?_
      refine T_iload (am_dec tX12_asked_1 22 rfl) rfl ?_
      refine T_istore (ls' := [some (aR b), some (aI k), some (aI t), some (aI wy), some (aI what), some (aI f), some (aI ((u95).1)), some (aI f), some (aI ((u95).1))]) (am_dec tX12_asked_1 23 rfl) (by decide) rfl ?_
      refine T_weak (ls' := [some (aR b), some (aI k), some (aI t), some (aI wy), some (aI what), some (aI f), some (aI ((u95).1)), some (aI f), none]) (am_sub_s (am_sub_s (am_sub_s (am_sub_s (am_sub_s (am_sub_s (am_sub_s (am_sub_s (am_sub_n am_sub_nil))))))))) ?_
      exact K104 _ _ (if_pos h104).symm (if_pos h104).symm
    · refine T_goto 118 (am_dec tX12_asked_1 19 rfl) rfl ?_
      refine T_weak (ls' := [some (aR b), some (aI k), some (aI t), some (aI wy), some (aI what), some (aI bst), some (aI most), some (aI f), none]) (am_sub_s (am_sub_s (am_sub_s (am_sub_s (am_sub_s (am_sub_s (am_sub_s (am_sub_s (am_sub_n am_sub_nil))))))))) ?_
      exact K104 _ _ (if_neg h104).symm (if_neg h104).symm
def k_asked (c : am_F) (q : am_F) (k : Int) (t : Int) (wy : Int) (what : Int) : Int × am_F := (let z8 : Int := (k_isLot c k); (let t11 : Int := (if z8 = 0 then 1 else 0); (let q21 : am_F := (k_refuse (am_put q 0 0 0) t11 1 1); (let z21 : Int := (if t11 = 0 then 0 else 1); (if z21 = 0 then (let z29 : Int := (k_isStep t); (let t32 : Int := (if z29 = 0 then 1 else (let z38 : Int := (k_in wy 0 1); (if z38 = 0 then 1 else (let z48 : Int := (k_in what 0 1); (if z48 = 0 then 1 else 0))))); (let q61 : am_F := (k_refuse q21 t32 2 2); (let z61 : Int := (if t32 = 0 then 0 else 1); (if z61 = 0 then (let q70 : am_F := k_goes c q61; (let bst_82 : Int := (am_fold (g_k_asked_82 c k t wy) 0 10 (0, (-1), q70)).1; (let most_82 : Int := (am_fold (g_k_asked_82 c k t wy) 0 10 (0, (-1), q70)).2.1; (let q82 : am_F := (am_fold (g_k_asked_82 c k t wy) 0 10 (0, (-1), q70)).2.2; (let t126 : Int := (if what = 0 then bst_82 else most_82); (t126, q82)))))) else (0, q61)))))) else (0, q21))))))
theorem mk_asked {S : am_S} {d u : Nat} {w : AH} {b : Nat} (hl : b + 735 ≤ w.length) {c : am_F} {q : am_F} (k : Int) (t : Int) (wy : Int) (what : Int) (hV : MdV c) (hWd : MdWd c) (hS9 : MdS c) (hLp : MdLp c) (hDu : MdDu c) (hL : MdL c) (hd : 5 ≤ d) : am_Out S zX12_asked d u [aR b, aI k, aI t, aI wy, aI what] (mdW w b c q) (.inl (some (aI ((k_asked c q k t wy what).1)))) (mdW w b c ((k_asked c q k t wy what).2)) := by
  have key : ∀ Q : AO → AH → Prop, Q (.inl (some (aI ((k_asked c q k t wy what).1)))) (mdW w b c ((k_asked c q k t wy what).2)) → am_M S zX12_asked d u [aR b, aI k, aI t, aI wy, aI what] (mdW w b c q) Q := by
    intro Q hQ
    refine am_body rfl (by decide +kernel) rfl (am_cats_cons rfl ( am_cats_cons rfl ( am_cats_cons rfl ( am_cats_cons rfl ( am_cats_cons rfl (am_cats_nil)))))) (Nat.le_of_ble_eq_true rfl) (?_ : am_T _ _ _ _ _ 0 [some (aR b), some (aI k), some (aI t), some (aI wy), some (aI what), none, none, none, none] [] (mdW w b c q))
    obtain ⟨vl0, vu0⟩ := MdV_0 hV
    obtain ⟨vl1, vu1⟩ := MdV_1 hV
    obtain ⟨vl3, vu3⟩ := MdV_3 hV
    refine T_aload_n (am_dec tX12_asked_0 0 rfl) rfl ?_
    refine T_iconst 0 (am_dec tX12_asked_0 1 rfl) rfl ⟨by decide, by decide⟩ ?_
    refine T_putfield (fs' := mdO b (c 0) (am_up (q 0) 0 0)) 11 0 (am_dec tX12_asked_0 2 rfl) flX12_160_11 rfl rfl rfl trivial (md_obj hl) (Nat.le_of_ble_eq_true rfl) rfl ?_
    refine am_wE (w2 := mdW w b c (am_put q 0 0 0)) (md_fq) ?_
    refine T_aload_n (am_dec tX12_asked_0 3 rfl) rfl ?_
    refine T_aload_n (am_dec tX12_asked_0 4 rfl) rfl ?_
    refine T_iload_n (am_dec tX12_asked_0 5 rfl) rfl ?_
    refine T_callV (as := [aI k]) rfl (am_dec tX12_asked_0 6 rfl) lkX12_412 (md_obj hl) rfl rfl (Nat.le_of_ble_eq_true rfl) (by omega) (mk_isLot (d := d - 1) hl k  hV (by omega)) (fun _ => ?_)
    refine T_nm (fun z8 hz8 => ?_)
    have hb8 := k_isLot_b c k
    rw [← hz8] at hb8
    have hs8 := k_isLot_s c k
    rw [← hz8] at hs8
    have K11 : ∀ (t11 : Int), t11 = (if z8 = 0 then 1 else 0) →  am_T S zX12_asked d u Q 19 [some (aR b), some (aI k), some (aI t), some (aI wy), some (aI what), none, none, none, none] [aI t11, aR b] (mdW w b c (am_put q 0 0 0)) := by
      intro t11 ht11
      have hbt11 : t11 = 0 ∨ t11 = 1 := by
        rw [ht11]
        try dsimp only
        repeat' split
        all_goals first | exact Or.inl rfl | exact Or.inr rfl | apply k_in_b | apply k_isDigit_b | apply k_isSmall_b | apply k_bad_b | apply k_isIn_b | apply k_isStep_b | apply k_isFirst_b | apply k_isLine_b | apply k_seesBy_b | apply k_isWalker_b | apply k_seesOne_b | apply k_badTwo_b | apply k_sees_b | apply k_isCode_b | apply k_isLot_b | omega
      refine T_iconst 1 (am_dec tX12_asked_0 11 rfl) rfl ⟨by decide, by decide⟩ ?_
      refine T_iconst 1 (am_dec tX12_asked_0 12 rfl) rfl ⟨by decide, by decide⟩ ?_
      refine T_callV (as := [aI t11, aI 1, aI 1]) rfl (am_dec tX12_asked_0 13 rfl) lkX12_275 (md_obj hl) rfl rfl (Nat.le_of_ble_eq_true rfl) (by omega) (mk_bad0 (d := d - 1) hl t11 1 1 (by omega) am_put_s (by omega)) (fun _ => ?_)
      refine T_nmH (W := fun x9 => mdW w b c x9) (v := (k_refuse (am_put q 0 0 0) t11 1 1)) (fun q21 hq21 => ?_)
      refine T_nm (fun z21 hz21 => ?_)
      have hq021 : t11 = 0 → q21 0 0 = 0 := fun h9 => by rw [hq21]; exact k_refuse_0 am_put_s h9
      refine T_if_ne 67 (am_dec tX12_asked_0 14 rfl) rfl (fun h24 => ?_) (fun h24 => ?_)
      · refine T_iconst 0 (am_dec tX12_asked_0 36 rfl) rfl ⟨by decide, by decide⟩ ?_
        exact T_ireturn (am_dec tX12_asked_0 37 rfl) rfl (am_tr (fun (x9 : Int × am_F) => Q (.inl (some (aI (x9.1)))) (mdW w b c x9.2)) (y := (0, q21)) (show (k_asked c q k t wy what) = (0, q21) from (by have s9 := hz8.symm; subst s9; have s9 := ht11.symm; subst s9; have s9 := hq21.symm; subst s9; have s9 := hz21.symm; subst s9; exact (if_neg h24))) hQ)
      · refine T_aload_n (am_dec tX12_asked_0 15 rfl) rfl ?_
        refine T_iload_n (am_dec tX12_asked_0 16 rfl) rfl ?_
        refine T_callS (as := [aI t]) rfl (am_dec tX12_asked_0 17 rfl) lkX12_351 rfl (Nat.le_of_ble_eq_true rfl) (by omega) (mk_isStep (d := d - 1)  t   (by omega)) (fun _ => ?_)
        refine T_nm (fun z29 hz29 => ?_)
        have hb29 := k_isStep_b t
        rw [← hz29] at hb29
        have hs29 := k_isStep_s t
        rw [← hz29] at hs29
        have K32 : ∀ (t32 : Int), t32 = (if z29 = 0 then 1 else (let z38 : Int := (k_in wy 0 1); (if z38 = 0 then 1 else (let z48 : Int := (k_in what 0 1); (if z48 = 0 then 1 else 0))))) →  am_T S zX12_asked d u Q 59 [some (aR b), some (aI k), some (aI t), some (aI wy), some (aI what), none, none, none, none] [aI t32, aR b] (mdW w b c q21) := by
          intro t32 ht32
          have hxt32 := ht32
          dsimp only at hxt32
          have hy5 := k_in_s wy 0 1
          have hy6 := k_in_s what 0 1
          have hbt32 : t32 = 0 ∨ t32 = 1 := by
            rw [ht32]
            try dsimp only
            repeat' split
            all_goals first | exact Or.inl rfl | exact Or.inr rfl | apply k_in_b | apply k_isDigit_b | apply k_isSmall_b | apply k_bad_b | apply k_isIn_b | apply k_isStep_b | apply k_isFirst_b | apply k_isLine_b | apply k_seesBy_b | apply k_isWalker_b | apply k_seesOne_b | apply k_badTwo_b | apply k_sees_b | apply k_isCode_b | apply k_isLot_b | omega
          refine T_iconst 2 (am_dec tX12_asked_0 32 rfl) rfl ⟨by decide, by decide⟩ ?_
          refine T_iconst 2 (am_dec tX12_asked_0 33 rfl) rfl ⟨by decide, by decide⟩ ?_
          refine T_callV (as := [aI t32, aI 2, aI 2]) rfl (am_dec tX12_asked_0 34 rfl) lkX12_275 (md_obj hl) rfl rfl (Nat.le_of_ble_eq_true rfl) (by omega) (mk_bad0 (d := d - 1) hl t32 2 2 (by omega) (hq021 (by omega)) (by omega)) (fun _ => ?_)
          refine T_nmH (W := fun x9 => mdW w b c x9) (v := (k_refuse q21 t32 2 2)) (fun q61 hq61 => ?_)
          refine T_nm (fun z61 hz61 => ?_)
          have hq061 : t32 = 0 → q61 0 0 = 0 := fun h9 => by rw [hq61]; exact k_refuse_0 (hq021 (by omega)) h9
          refine T_if_eq 69 (am_dec tX12_asked_0 35 rfl) rfl (fun h64 => ?_) (fun h64 => ?_)
          · refine T_aload_n (am_dec tX12_asked_0 38 rfl) rfl ?_
            refine T_callV (as := []) rfl (am_dec tX12_asked_0 39 rfl) lkX12_345 (md_obj hl) rfl rfl (Nat.le_of_ble_eq_true rfl) (by omega) (mk_goes (d := d - 1) hl   hV hWd hS9 hLp hDu (by omega)) (fun _ => ?_)
            refine T_nmH (W := fun x9 => mdW w b c x9) (v := k_goes c q61) (fun q70 hq70 => ?_)
            refine T_iconst 0 (am_dec tX12_asked_1 0 rfl) rfl ⟨by decide, by decide⟩ ?_
            refine T_istore (ls' := [some (aR b), some (aI k), some (aI t), some (aI wy), some (aI what), some (aI 0), none, none, none]) (am_dec tX12_asked_1 1 rfl) (by decide) rfl ?_
            refine T_iconst (-1) (am_dec tX12_asked_1 2 rfl) rfl ⟨by decide, by decide⟩ ?_
            refine T_istore (ls' := [some (aR b), some (aI k), some (aI t), some (aI wy), some (aI what), some (aI 0), some (aI (-1)), none, none]) (am_dec tX12_asked_1 3 rfl) (by decide) rfl ?_
            refine T_iconst 0 (am_dec tX12_asked_1 4 rfl) rfl ⟨by decide, by decide⟩ ?_
            refine T_istore (ls' := [some (aR b), some (aI k), some (aI t), some (aI wy), some (aI what), some (aI 0), some (aI (-1)), some (aI 0), none]) (am_dec tX12_asked_1 5 rfl) (by decide) rfl ?_
            refine L_k_asked_82 hl c k t wy what hV hWd hS9 hLp hDu hL (by omega) (by omega) (by omega) _ rfl 10 0 0 (-1) q70 (by omega) (by omega) (fun bst_82 most_82 q82 hbst_82 hmost_82 hq82 => ?_)
            refine T_iload (am_dec tX12_asked_1 26 rfl) rfl ?_
            have K126 : ∀ (t126 : Int), t126 = (if what = 0 then bst_82 else most_82) →  am_T S zX12_asked d u Q 136 [none, none, none, none, none, none, none, none, none] [aI t126] (mdW w b c q82) := by
              intro t126 ht126
              exact T_ireturn (am_dec tX12_asked_1 31 rfl) rfl (am_tr (fun (x9 : Int × am_F) => Q (.inl (some (aI (x9.1)))) (mdW w b c x9.2)) (y := (t126, q82)) (show (k_asked c q k t wy what) = (t126, q82) from (by have s9 := hz8.symm; subst s9; have s9 := ht11.symm; subst s9; have s9 := hq21.symm; subst s9; have s9 := hz21.symm; subst s9; have s9 := hz29.symm; subst s9; have s9 := ht32.symm; subst s9; have s9 := hq61.symm; subst s9; have s9 := hz61.symm; subst s9; have s9 := hq70.symm; subst s9; have s9 := hbst_82.symm; subst s9; have s9 := hmost_82.symm; subst s9; have s9 := hq82.symm; subst s9; have s9 := ht126.symm; subst s9; exact ((if_pos h24).trans (if_pos h64)))) hQ)
            refine T_if_ne 134 (am_dec tX12_asked_1 27 rfl) rfl (fun h126 => ?_) (fun h126 => ?_)
            · refine T_iload (am_dec tX12_asked_1 30 rfl) rfl ?_
              refine T_weak (ls' := [none, none, none, none, none, none, none, none, none]) (am_sub_n (am_sub_n (am_sub_n (am_sub_n (am_sub_n (am_sub_n (am_sub_n (am_sub_n (am_sub_n am_sub_nil))))))))) ?_
              exact K126 _ (if_neg h126).symm
            · refine T_iload (am_dec tX12_asked_1 28 rfl) rfl ?_
              refine T_goto 136 (am_dec tX12_asked_1 29 rfl) rfl ?_
              refine T_weak (ls' := [none, none, none, none, none, none, none, none, none]) (am_sub_n (am_sub_n (am_sub_n (am_sub_n (am_sub_n (am_sub_n (am_sub_n (am_sub_n (am_sub_n am_sub_nil))))))))) ?_
              exact K126 _ (if_pos h126).symm
          · refine T_iconst 0 (am_dec tX12_asked_0 36 rfl) rfl ⟨by decide, by decide⟩ ?_
            exact T_ireturn (am_dec tX12_asked_0 37 rfl) rfl (am_tr (fun (x9 : Int × am_F) => Q (.inl (some (aI (x9.1)))) (mdW w b c x9.2)) (y := (0, q61)) (show (k_asked c q k t wy what) = (0, q61) from (by have s9 := hz8.symm; subst s9; have s9 := ht11.symm; subst s9; have s9 := hq21.symm; subst s9; have s9 := hz21.symm; subst s9; have s9 := hz29.symm; subst s9; have s9 := ht32.symm; subst s9; have s9 := hq61.symm; subst s9; have s9 := hz61.symm; subst s9; exact ((if_pos h24).trans (if_neg h64)))) hQ)
        refine T_if_eq 54 (am_dec tX12_asked_0 18 rfl) rfl (fun h32 => ?_) (fun h32 => ?_)
        · refine T_iconst 1 (am_dec tX12_asked_0 29 rfl) rfl ⟨by decide, by decide⟩ ?_
          refine T_goto 59 (am_dec tX12_asked_0 30 rfl) rfl ?_
          exact K32 _ (if_pos h32).symm
        · refine T_iload_n (am_dec tX12_asked_0 19 rfl) rfl ?_
          refine T_iconst 0 (am_dec tX12_asked_0 20 rfl) rfl ⟨by decide, by decide⟩ ?_
          refine T_iconst 1 (am_dec tX12_asked_0 21 rfl) rfl ⟨by decide, by decide⟩ ?_
          refine T_callS (as := [aI wy, aI 0, aI 1]) rfl (am_dec tX12_asked_0 22 rfl) lkX12_194 rfl (Nat.le_of_ble_eq_true rfl) (by omega) (mk_in (d := d - 1)  wy 0 1   ) (fun _ => ?_)
          refine T_nm (fun z38 hz38 => ?_)
          have hb38 := k_in_b wy 0 1
          rw [← hz38] at hb38
          have hs38 := k_in_s wy 0 1
          rw [← hz38] at hs38
          have K41 : ∀ (t41 : Int), t41 = (if z38 = 0 then 1 else (let z48 : Int := (k_in what 0 1); (if z48 = 0 then 1 else 0))) →  am_T S zX12_asked d u Q 59 [some (aR b), some (aI k), some (aI t), some (aI wy), some (aI what), none, none, none, none] [aI t41, aR b] (mdW w b c q21) := by
            intro t41 ht41
            have hxt41 := ht41
            dsimp only at hxt41
            have hy4 := k_in_s what 0 1
            have hbt41 : t41 = 0 ∨ t41 = 1 := by
              rw [ht41]
              try dsimp only
              repeat' split
              all_goals first | exact Or.inl rfl | exact Or.inr rfl | apply k_in_b | apply k_isDigit_b | apply k_isSmall_b | apply k_bad_b | apply k_isIn_b | apply k_isStep_b | apply k_isFirst_b | apply k_isLine_b | apply k_seesBy_b | apply k_isWalker_b | apply k_seesOne_b | apply k_badTwo_b | apply k_sees_b | apply k_isCode_b | apply k_isLot_b | omega
            exact K32 _ (by have s9 := hz38.symm; subst s9; have s9 := ht41.symm; subst s9; exact (if_neg h32).symm)
          refine T_if_eq 54 (am_dec tX12_asked_0 23 rfl) rfl (fun h41 => ?_) (fun h41 => ?_)
          · refine T_iconst 1 (am_dec tX12_asked_0 29 rfl) rfl ⟨by decide, by decide⟩ ?_
            refine T_goto 59 (am_dec tX12_asked_0 30 rfl) rfl ?_
            exact K41 _ (if_pos h41).symm
          · refine T_iload (am_dec tX12_asked_0 24 rfl) rfl ?_
            refine T_iconst 0 (am_dec tX12_asked_0 25 rfl) rfl ⟨by decide, by decide⟩ ?_
            refine T_iconst 1 (am_dec tX12_asked_0 26 rfl) rfl ⟨by decide, by decide⟩ ?_
            refine T_callS (as := [aI what, aI 0, aI 1]) rfl (am_dec tX12_asked_0 27 rfl) lkX12_194 rfl (Nat.le_of_ble_eq_true rfl) (by omega) (mk_in (d := d - 1)  what 0 1   ) (fun _ => ?_)
            refine T_nm (fun z48 hz48 => ?_)
            have hb48 := k_in_b what 0 1
            rw [← hz48] at hb48
            have hs48 := k_in_s what 0 1
            rw [← hz48] at hs48
            have K51 : ∀ (t51 : Int), t51 = (if z48 = 0 then 1 else 0) →  am_T S zX12_asked d u Q 59 [some (aR b), some (aI k), some (aI t), some (aI wy), some (aI what), none, none, none, none] [aI t51, aR b] (mdW w b c q21) := by
              intro t51 ht51
              have hbt51 : t51 = 0 ∨ t51 = 1 := by
                rw [ht51]
                try dsimp only
                repeat' split
                all_goals first | exact Or.inl rfl | exact Or.inr rfl | apply k_in_b | apply k_isDigit_b | apply k_isSmall_b | apply k_bad_b | apply k_isIn_b | apply k_isStep_b | apply k_isFirst_b | apply k_isLine_b | apply k_seesBy_b | apply k_isWalker_b | apply k_seesOne_b | apply k_badTwo_b | apply k_sees_b | apply k_isCode_b | apply k_isLot_b | omega
              exact K41 _ (by have s9 := hz48.symm; subst s9; have s9 := ht51.symm; subst s9; exact (if_neg h41).symm)
            refine T_if_ne 58 (am_dec tX12_asked_0 28 rfl) rfl (fun h51 => ?_) (fun h51 => ?_)
            · refine T_iconst 0 (am_dec tX12_asked_0 31 rfl) rfl ⟨by decide, by decide⟩ ?_
              exact K51 _ (if_neg h51).symm
            · refine T_iconst 1 (am_dec tX12_asked_0 29 rfl) rfl ⟨by decide, by decide⟩ ?_
              refine T_goto 59 (am_dec tX12_asked_0 30 rfl) rfl ?_
              exact K51 _ (if_pos h51).symm
    refine T_if_ne 18 (am_dec tX12_asked_0 7 rfl) rfl (fun h11 => ?_) (fun h11 => ?_)
    · refine T_iconst 0 (am_dec tX12_asked_0 10 rfl) rfl ⟨by decide, by decide⟩ ?_
      exact K11 _ (if_neg h11).symm
    · refine T_iconst 1 (am_dec tX12_asked_0 8 rfl) rfl ⟨by decide, by decide⟩ ?_
      refine T_goto 19 (am_dec tX12_asked_0 9 rfl) rfl ?_
      exact K11 _ (if_pos h11).symm
  exact key _ ⟨rfl, rfl⟩
def MdSh (c : am_F) : Prop := ∀ k : Int, 0 ≤ k → k < c 4 6 → (0 ≤ c (128 + k.toNat) 0 ∧ c (128 + k.toNat) 0 < c 4 0)
def k_isShip (c : am_F) (k : Int) : Int := (k_in k 0 ((c 4 6) - 1))
theorem mk_isShip {S : am_S} {d u : Nat} {w : AH} {b : Nat} (hl : b + 735 ≤ w.length) {c : am_F} {q : am_F} (k : Int) (hV : MdV c) (hd : 1 ≤ d) : am_Out S zX12_isShip d u [aR b, aI k] (mdW w b c q) (.inl (some (aI (k_isShip c k)))) (mdW w b c q) := by
  have key : ∀ Q : AO → AH → Prop, Q (.inl (some (aI (k_isShip c k)))) (mdW w b c q) → am_M S zX12_isShip d u [aR b, aI k] (mdW w b c q) Q := by
    intro Q hQ
    refine am_body rfl (by decide +kernel) rfl (am_cats_cons rfl ( am_cats_cons rfl (am_cats_nil))) (Nat.le_of_ble_eq_true rfl) (?_ : am_T _ _ _ _ _ 0 [some (aR b), some (aI k)] [] (mdW w b c q))
    obtain ⟨vl0, vu0⟩ := MdV_0 hV
    obtain ⟨vl1, vu1⟩ := MdV_1 hV
    obtain ⟨vl3, vu3⟩ := MdV_3 hV
    obtain ⟨vl6, vu6⟩ := MdV_6 hV
    refine T_iload_n (am_dec tX12_isShip_0 0 rfl) rfl ?_
    refine T_iconst 0 (am_dec tX12_isShip_0 1 rfl) rfl ⟨by decide, by decide⟩ ?_
    refine T_aload_n (am_dec tX12_isShip_0 2 rfl) rfl ?_
    refine T_getfield 11 11 (am_dec tX12_isShip_0 3 rfl) flX12_23_11 (md_obj hl) rfl ?_
    refine T_bipush 6 (am_dec tX12_isShip_0 4 rfl) rfl ⟨by decide, by decide⟩ ?_
    refine T_ialoadE (x := c 4 6) (am_dec tX12_isShip_0 5 rfl) (md_told hl) (by omega) (by omega) rfl ?_
    refine T_iconst 1 (am_dec tX12_isShip_0 6 rfl) rfl ⟨by decide, by decide⟩ ?_
    refine T_isub ((c 4 6) - 1) (am_dec tX12_isShip_0 7 rfl) rfl ⟨by omega, by omega⟩ ?_
    refine T_callS (as := [aI k, aI 0, aI ((c 4 6) - 1)]) rfl (am_dec tX12_isShip_0 8 rfl) lkX12_194 rfl (Nat.le_of_ble_eq_true rfl) (by omega) (mk_in (d := d - 1)  k 0 ((c 4 6) - 1)   ) (fun _ => ?_)
    refine T_nm (fun z11 hz11 => ?_)
    have hb11 := k_in_b k 0 ((c 4 6) - 1)
    rw [← hz11] at hb11
    have hs11 := k_in_s k 0 ((c 4 6) - 1)
    rw [← hz11] at hs11
    exact T_zreturn (am_dec tX12_isShip_0 9 rfl) rfl (by first | exact Or.inl rfl | exact Or.inr rfl | omega) (am_tr (fun (x9 : Int) => Q (.inl (some (aI (x9)))) (mdW w b c q)) (y := z11) (show (k_isShip c k) = z11 from (by have s9 := hz11.symm; subst s9; exact rfl)) hQ)
  exact key _ ⟨rfl, rfl⟩
theorem k_isShip_b (c : am_F) (k : Int) : (k_isShip c k) = 0 ∨ (k_isShip c k) = 1 := by
  unfold k_isShip
  try dsimp only
  repeat' split
  all_goals first | exact Or.inl rfl | exact Or.inr rfl | apply k_in_b | apply k_isDigit_b | apply k_isSmall_b | apply k_bad_b | apply k_isIn_b | apply k_isStep_b | apply k_isFirst_b | apply k_isLine_b | apply k_seesBy_b | apply k_isWalker_b | apply k_seesOne_b | apply k_badTwo_b | apply k_sees_b | apply k_isCode_b | apply k_isLot_b
theorem k_isShip_s (c : am_F) (x : Int) : (k_isShip c x = 1 ∧ 0 ≤ x ∧ x < c 4 6) ∨ (k_isShip c x = 0 ∧ ¬ (0 ≤ x ∧ x < c 4 6)) := by
  have h := k_in_s x 0 (c 4 6 - 1)
  unfold k_isShip
  omega
def g_k_comesIn_13 (c : am_F) (q : am_F) (k : Int) (s : Int) (y : Int) (ok : Int) : Int := (if ok = 0 then 0 else (if c (128 + k.toNat) 1 < q (159 + (s + 1).toNat) (((c (128 + k.toNat) 0) + (9 * y)).toNat) then 0 else 1))
theorem L_k_comesIn_13 {S : am_S} {d u : Nat} {Q : AO → AH → Prop} {w : AH} {b : Nat} (hl : b + 735 ≤ w.length) (c : am_F) (q : am_F) (k : Int) (s : Int) (hV : MdV c) (hSh : MdSh c) (hks : 0 ≤ k ∧ k < c 4 6) (ho2 : 0 ≤ s ∧ s < 40) (hd : 1 ≤ d) (B9 : Int) (hB : B9 = c 4 1) : ∀ (n : Nat) (y : Int) (ok : Int), y + n = B9 → 0 ≤ y → (∀ (ok' : Int), ok' = am_fold (g_k_comesIn_13 c q k s) y n ok → am_T S zX12_comesIn d u Q 73 [some (aR b), some (aI k), some (aI s), some (aI ok'), none] [] (mdW w b c q)) → am_T S zX12_comesIn d u Q 13 [some (aR b), some (aI k), some (aI s), some (aI ok), some (aI y)] [] (mdW w b c q) := by
  intro n
  induction n with
  | zero =>
    intro y ok hi9 h0i k9
    have e9 : y = B9 := by omega
    subst e9
    obtain ⟨vl0, vu0⟩ := MdV_0 hV
    obtain ⟨vl1, vu1⟩ := MdV_1 hV
    obtain ⟨vl3, vu3⟩ := MdV_3 hV
    obtain ⟨vl6, vu6⟩ := MdV_6 hV
    have sk := hSh k (by omega) (by omega)
    refine T_iload (am_dec tX12_comesIn_0 9 rfl) rfl ?_
    refine T_aload_n (am_dec tX12_comesIn_0 10 rfl) rfl ?_
    refine T_getfield 11 11 (am_dec tX12_comesIn_0 11 rfl) flX12_23_11 (md_obj hl) rfl ?_
    refine T_iconst 1 (am_dec tX12_comesIn_0 12 rfl) rfl ⟨by decide, by decide⟩ ?_
    refine T_ialoadE (x := c 4 1) (am_dec tX12_comesIn_0 13 rfl) (md_told hl) (by omega) (by omega) rfl ?_
    refine T_icmp_ge 73 (am_dec tX12_comesIn_0 14 rfl) rfl (fun h21 => ?_) (fun h21 => by exfalso; omega)
    refine T_weak (ls' := [some (aR b), some (aI k), some (aI s), some (aI ok), none]) (am_sub_s (am_sub_s (am_sub_s (am_sub_s (am_sub_n am_sub_nil))))) ?_
    exact k9 ok rfl
  | succ n ih =>
    intro y ok hi9 h0i k9
    obtain ⟨vl0, vu0⟩ := MdV_0 hV
    obtain ⟨vl1, vu1⟩ := MdV_1 hV
    obtain ⟨vl3, vu3⟩ := MdV_3 hV
    obtain ⟨vl6, vu6⟩ := MdV_6 hV
    have sk := hSh k (by omega) (by omega)
    refine T_iload (am_dec tX12_comesIn_0 9 rfl) rfl ?_
    refine T_aload_n (am_dec tX12_comesIn_0 10 rfl) rfl ?_
    refine T_getfield 11 11 (am_dec tX12_comesIn_0 11 rfl) flX12_23_11 (md_obj hl) rfl ?_
    refine T_iconst 1 (am_dec tX12_comesIn_0 12 rfl) rfl ⟨by decide, by decide⟩ ?_
    refine T_ialoadE (x := c 4 1) (am_dec tX12_comesIn_0 13 rfl) (md_told hl) (by omega) (by omega) rfl ?_
    refine T_icmp_ge 73 (am_dec tX12_comesIn_0 14 rfl) rfl (fun h21 => by exfalso; omega) (fun h21 => ?_)
    refine T_iload_n (am_dec tX12_comesIn_0 15 rfl) rfl ?_
    have K25 : ∀ (t25 : Int), t25 = (if ok = 0 then 0 else (if c (128 + k.toNat) 1 < q (159 + (s + 1).toNat) (((c (128 + k.toNat) 0) + (9 * y)).toNat) then 0 else 1)) →  am_T S zX12_comesIn d u Q 66 [some (aR b), some (aI k), some (aI s), none, some (aI y)] [aI t25] (mdW w b c q) := by
      intro t25 ht25
      have hbt25 : t25 = 0 ∨ t25 = 1 := by
        rw [ht25]
        try dsimp only
        repeat' split
        all_goals first | exact Or.inl rfl | exact Or.inr rfl | apply k_in_b | apply k_isDigit_b | apply k_isSmall_b | apply k_bad_b | apply k_isIn_b | apply k_isStep_b | apply k_isFirst_b | apply k_isLine_b | apply k_seesBy_b | apply k_isWalker_b | apply k_seesOne_b | apply k_badTwo_b | apply k_sees_b | apply k_isCode_b | apply k_isLot_b | apply k_isShip_b | omega
      refine T_istore_n (ls' := [some (aR b), some (aI k), some (aI s), some (aI t25), some (aI y)]) (am_dec tX12_comesIn_1 2 rfl) (by decide) rfl ?_
      refine T_iinc (ls' := [some (aR b), some (aI k), some (aI s), some (aI t25), some (aI (y + 1))]) (y + 1) (am_dec tX12_comesIn_1 3 rfl) rfl rfl ⟨by omega, by omega⟩ (by decide) rfl ?_
      refine T_goto 13 (am_dec tX12_comesIn_1 4 rfl) rfl ?_
      have e9 : (g_k_comesIn_13 c q k s) y ok = t25 := (by have s9 := ht25.symm; subst s9; exact rfl)
      simp only [am_fold_s, e9] at k9
      exact ih (y + 1) t25 (by omega) (by omega) k9
    refine T_if_eq 65 (am_dec tX12_comesIn_0 16 rfl) rfl (fun h25 => ?_) (fun h25 => ?_)
    · refine T_iconst 0 (am_dec tX12_comesIn_1 1 rfl) rfl ⟨by decide, by decide⟩ ?_
      refine T_weak (ls' := [some (aR b), some (aI k), some (aI s), none, some (aI y)]) (am_sub_s (am_sub_s (am_sub_s (am_sub_n (am_sub_s am_sub_nil))))) ?_
      exact K25 _ (if_pos h25).symm
    · refine T_aload_n (am_dec tX12_comesIn_0 17 rfl) rfl ?_
      refine T_getfield 11 37 (am_dec tX12_comesIn_0 18 rfl) flX12_91_11 (md_obj hl) rfl ?_
      refine T_iload_n (am_dec tX12_comesIn_0 19 rfl) rfl ?_
      refine T_iconst 1 (am_dec tX12_comesIn_0 20 rfl) rfl ⟨by decide, by decide⟩ ?_
      refine T_iadd (s + 1) (am_dec tX12_comesIn_0 21 rfl) rfl ⟨by omega, by omega⟩ ?_
      refine T_aaloadR (r := b + (159 + (s + 1).toNat)) (am_dec tX12_comesIn_0 22 rfl) (by decide) (mh_fog hl) (by omega) (by omega) (if_pos (by omega)) ?_
      refine T_aload_n (am_dec tX12_comesIn_0 23 rfl) rfl ?_
      refine T_getfield 11 29 (am_dec tX12_comesIn_0 24 rfl) flX12_79_11 (md_obj hl) rfl ?_
      refine T_iload_n (am_dec tX12_comesIn_0 25 rfl) rfl ?_
      refine T_aaloadR (r := b + (128 + k.toNat)) (am_dec tX12_comesIn_0 26 rfl) (by decide) (mh_ship hl) (by omega) (by omega) (if_pos (by omega)) ?_
      refine T_iconst 0 (am_dec tX12_comesIn_0 27 rfl) rfl ⟨by decide, by decide⟩ ?_
      refine T_ialoadE (x := c (128 + k.toNat) 0) (am_dec tX12_comesIn_0 28 rfl) (mr_ship hl (i := k) (by omega) (by omega)) (by omega) (by omega) rfl ?_
      refine T_iload (am_dec tX12_comesIn_0 29 rfl) rfl ?_
      refine T_callS (as := [aI (c (128 + k.toNat) 0), aI y]) rfl (am_dec tX12_comesIn_0 30 rfl) lkX12_317 rfl (Nat.le_of_ble_eq_true rfl) (by omega) (mk_cell' (d := d - 1) (c (128 + k.toNat) 0) y (by omega)) (fun _ => ?_)
      refine T_ialoadE (x := q (159 + (s + 1).toNat) (((c (128 + k.toNat) 0) + (9 * y)).toNat)) (am_dec tX12_comesIn_0 31 rfl) (mr_fog hl (i := (s + 1)) (by omega) (by omega)) (by omega) (by omega) rfl ?_
      refine T_aload_n (am_dec tX12_comesIn_0 32 rfl) rfl ?_
      refine T_getfield 11 29 (am_dec tX12_comesIn_0 33 rfl) flX12_79_11 (md_obj hl) rfl ?_
      refine T_iload_n (am_dec tX12_comesIn_0 34 rfl) rfl ?_
      refine T_aaloadR (r := b + (128 + k.toNat)) (am_dec tX12_comesIn_0 35 rfl) (by decide) (mh_ship hl) (by omega) (by omega) (if_pos (by omega)) ?_
      refine T_iconst 1 (am_dec tX12_comesIn_0 36 rfl) rfl ⟨by decide, by decide⟩ ?_
      refine T_ialoadE (x := c (128 + k.toNat) 1) (am_dec tX12_comesIn_0 37 rfl) (mr_ship hl (i := k) (by omega) (by omega)) (by omega) (by omega) rfl ?_
      have K58 : ∀ (t58 : Int), t58 = (if c (128 + k.toNat) 1 < q (159 + (s + 1).toNat) (((c (128 + k.toNat) 0) + (9 * y)).toNat) then 0 else 1) →  am_T S zX12_comesIn d u Q 66 [some (aR b), some (aI k), some (aI s), none, some (aI y)] [aI t58] (mdW w b c q) := by
        intro t58 ht58
        have hbt58 : t58 = 0 ∨ t58 = 1 := by
          rw [ht58]
          try dsimp only
          repeat' split
          all_goals first | exact Or.inl rfl | exact Or.inr rfl | apply k_in_b | apply k_isDigit_b | apply k_isSmall_b | apply k_bad_b | apply k_isIn_b | apply k_isStep_b | apply k_isFirst_b | apply k_isLine_b | apply k_seesBy_b | apply k_isWalker_b | apply k_seesOne_b | apply k_badTwo_b | apply k_sees_b | apply k_isCode_b | apply k_isLot_b | apply k_isShip_b | omega
        exact K25 _ (by have s9 := ht58.symm; subst s9; exact (if_neg h25).symm)
      refine T_icmp_gt 65 (am_dec tX12_comesIn_0 38 rfl) rfl (fun h58 => ?_) (fun h58 => ?_)
      · refine T_iconst 0 (am_dec tX12_comesIn_1 1 rfl) rfl ⟨by decide, by decide⟩ ?_
        refine T_weak (ls' := [some (aR b), some (aI k), some (aI s), none, some (aI y)]) (am_sub_s (am_sub_s (am_sub_s (am_sub_n (am_sub_s am_sub_nil))))) ?_
        exact K58 _ (if_pos h58).symm
      · refine T_iconst 1 (am_dec tX12_comesIn_0 39 rfl) rfl ⟨by decide, by decide⟩ ?_
        refine T_goto 66 (am_dec tX12_comesIn_1 0 rfl) rfl ?_
        refine T_weak (ls' := [some (aR b), some (aI k), some (aI s), none, some (aI y)]) (am_sub_s (am_sub_s (am_sub_s (am_sub_n (am_sub_s am_sub_nil))))) ?_
        exact K58 _ (if_neg h58).symm
def p_k_comesIn_2 (c : am_F) (q : am_F) (k : Int) : Int → Option Int := fun s => (let ok_13 : Int := am_fold (g_k_comesIn_13 c q k s) 0 (c 4 1).toNat 1; (if ok_13 = 0 then none else some s))
theorem L_k_comesIn_2 {S : am_S} {d u : Nat} {Q : AO → AH → Prop} {w : AH} {b : Nat} (hl : b + 735 ≤ w.length) (c : am_F) (q : am_F) (k : Int) (hV : MdV c) (hSh : MdSh c) (hks : 0 ≤ k ∧ k < c 4 6)  (hd : 1 ≤ d) (B9 : Int) (hB : B9 = 40) : ∀ (n : Nat) (s : Int), s + n = B9 → 0 ≤ s → (am_find (p_k_comesIn_2 c q k) s n = none → am_T S zX12_comesIn d u Q 85 [none, none, none, none, none] [] (mdW w b c q)) → (∀ r9, am_find (p_k_comesIn_2 c q k) s n = some r9 → Q (.inl (some (aI r9))) (mdW w b c q)) → am_T S zX12_comesIn d u Q 2 [some (aR b), some (aI k), some (aI s), none, none] [] (mdW w b c q) := by
  intro n
  induction n with
  | zero =>
    intro s hi9 h0i k9 kr9
    have e9 : s = B9 := by omega
    subst e9
    obtain ⟨vl0, vu0⟩ := MdV_0 hV
    obtain ⟨vl1, vu1⟩ := MdV_1 hV
    obtain ⟨vl3, vu3⟩ := MdV_3 hV
    obtain ⟨vl6, vu6⟩ := MdV_6 hV
    have sk := hSh k (by omega) (by omega)
    refine T_iload_n (am_dec tX12_comesIn_0 2 rfl) rfl ?_
    refine T_bipush 40 (am_dec tX12_comesIn_0 3 rfl) rfl ⟨by decide, by decide⟩ ?_
    refine T_icmp_ge 85 (am_dec tX12_comesIn_0 4 rfl) rfl (fun h5 => ?_) (fun h5 => by exfalso; omega)
    refine T_weak (ls' := [none, none, none, none, none]) (am_sub_n (am_sub_n (am_sub_n (am_sub_n (am_sub_n am_sub_nil))))) ?_
    exact k9 rfl
  | succ n ih =>
    intro s hi9 h0i k9 kr9
    obtain ⟨vl0, vu0⟩ := MdV_0 hV
    obtain ⟨vl1, vu1⟩ := MdV_1 hV
    obtain ⟨vl3, vu3⟩ := MdV_3 hV
    obtain ⟨vl6, vu6⟩ := MdV_6 hV
    have sk := hSh k (by omega) (by omega)
    refine T_iload_n (am_dec tX12_comesIn_0 2 rfl) rfl ?_
    refine T_bipush 40 (am_dec tX12_comesIn_0 3 rfl) rfl ⟨by decide, by decide⟩ ?_
    refine T_icmp_ge 85 (am_dec tX12_comesIn_0 4 rfl) rfl (fun h5 => by exfalso; omega) (fun h5 => ?_)
    refine T_iconst 1 (am_dec tX12_comesIn_0 5 rfl) rfl ⟨by decide, by decide⟩ ?_
    refine T_istore_n (ls' := [some (aR b), some (aI k), some (aI s), some (aI 1), none]) (am_dec tX12_comesIn_0 6 rfl) (by decide) rfl ?_
    refine T_iconst 0 (am_dec tX12_comesIn_0 7 rfl) rfl ⟨by decide, by decide⟩ ?_
    refine T_istore (ls' := [some (aR b), some (aI k), some (aI s), some (aI 1), some (aI 0)]) (am_dec tX12_comesIn_0 8 rfl) (by decide) rfl ?_
    refine L_k_comesIn_13 hl c q k s hV hSh hks (by omega) (by omega) _ rfl (c 4 1).toNat 0 1 (by omega) (by omega) (fun ok_13 hok_13 => ?_)
    refine T_iload_n (am_dec tX12_comesIn_1 5 rfl) rfl ?_
    refine T_if_eq 79 (am_dec tX12_comesIn_1 6 rfl) rfl (fun h74 => ?_) (fun h74 => ?_)
    · refine T_iinc (ls' := [some (aR b), some (aI k), some (aI (s + 1)), some (aI ok_13), none]) (s + 1) (am_dec tX12_comesIn_1 9 rfl) rfl rfl ⟨by omega, by omega⟩ (by decide) rfl ?_
      refine T_goto 2 (am_dec tX12_comesIn_1 10 rfl) rfl ?_
      refine T_weak (ls' := [some (aR b), some (aI k), some (aI (s + 1)), none, none]) (am_sub_s (am_sub_s (am_sub_s (am_sub_n (am_sub_n am_sub_nil))))) ?_
      have e9 : (p_k_comesIn_2 c q k) s = none := (by have s9 := hok_13.symm; subst s9; exact (if_pos h74))
      rw [am_find_n e9] at k9 kr9
      exact ih (s + 1) (by omega) (by omega) k9 kr9
    · refine T_iload_n (am_dec tX12_comesIn_1 7 rfl) rfl ?_
      exact T_ireturn (am_dec tX12_comesIn_1 8 rfl) rfl (kr9 _ (am_find_y (show (p_k_comesIn_2 c q k) s = some s from (by have s9 := hok_13.symm; subst s9; exact (if_neg h74)))))
def k_comesIn (c : am_F) (q : am_F) (k : Int) : Int := (Option.elim (am_find (p_k_comesIn_2 c q k) 0 40) (-1) (fun r9 => r9))
theorem mk_comesIn {S : am_S} {d u : Nat} {w : AH} {b : Nat} (hl : b + 735 ≤ w.length) {c : am_F} {q : am_F} (k : Int) (hV : MdV c) (hSh : MdSh c) (hks : 0 ≤ k ∧ k < c 4 6) (hd : 1 ≤ d) : am_Out S zX12_comesIn d u [aR b, aI k] (mdW w b c q) (.inl (some (aI (k_comesIn c q k)))) (mdW w b c q) := by
  have key : ∀ Q : AO → AH → Prop, Q (.inl (some (aI (k_comesIn c q k)))) (mdW w b c q) → am_M S zX12_comesIn d u [aR b, aI k] (mdW w b c q) Q := by
    intro Q hQ
    refine am_body rfl (by decide +kernel) rfl (am_cats_cons rfl ( am_cats_cons rfl (am_cats_nil))) (Nat.le_of_ble_eq_true rfl) (?_ : am_T _ _ _ _ _ 0 [some (aR b), some (aI k), none, none, none] [] (mdW w b c q))
    obtain ⟨vl0, vu0⟩ := MdV_0 hV
    obtain ⟨vl1, vu1⟩ := MdV_1 hV
    obtain ⟨vl3, vu3⟩ := MdV_3 hV
    obtain ⟨vl6, vu6⟩ := MdV_6 hV
    have sk := hSh k (by omega) (by omega)
    refine T_iconst 0 (am_dec tX12_comesIn_0 0 rfl) rfl ⟨by decide, by decide⟩ ?_
    refine T_istore_n (ls' := [some (aR b), some (aI k), some (aI 0), none, none]) (am_dec tX12_comesIn_0 1 rfl) (by decide) rfl ?_
    refine L_k_comesIn_2 hl c q k hV hSh hks  (by omega) _ rfl 40 0  (by omega) (by omega) (fun hn2 => ?_) (fun r2 hr2 => (am_tr (fun (x9 : Int) => Q (.inl (some (aI (x9)))) (mdW w b c q)) (y := r2) (show (k_comesIn c q k) = r2 from (am_el_s hr2)) hQ))
    refine T_iconst (-1) (am_dec tX12_comesIn_1 11 rfl) rfl ⟨by decide, by decide⟩ ?_
    exact T_ireturn (am_dec tX12_comesIn_1 12 rfl) rfl (am_tr (fun (x9 : Int) => Q (.inl (some (aI (x9)))) (mdW w b c q)) (y := (-1)) (show (k_comesIn c q k) = (-1) from (am_el_n hn2)) hQ)
  exact key _ ⟨rfl, rfl⟩
def k_ship (c : am_F) (q : am_F) (k : Int) : Int × am_F := (let z8 : Int := (k_isShip c k); (let t11 : Int := (if z8 = 0 then 1 else 0); (let q21 : am_F := (k_refuse (am_put q 0 0 0) t11 1 1); (let z21 : Int := (if t11 = 0 then 0 else 1); (if z21 = 0 then (let q30 : am_F := k_goes c q21; ((k_comesIn c q30 k), q30)) else (0, q21))))))
theorem mk_ship {S : am_S} {d u : Nat} {w : AH} {b : Nat} (hl : b + 735 ≤ w.length) {c : am_F} {q : am_F} (k : Int) (hV : MdV c) (hWd : MdWd c) (hS9 : MdS c) (hLp : MdLp c) (hDu : MdDu c) (hSh : MdSh c) (hd : 5 ≤ d) : am_Out S zX12_ship d u [aR b, aI k] (mdW w b c q) (.inl (some (aI ((k_ship c q k).1)))) (mdW w b c ((k_ship c q k).2)) := by
  have key : ∀ Q : AO → AH → Prop, Q (.inl (some (aI ((k_ship c q k).1)))) (mdW w b c ((k_ship c q k).2)) → am_M S zX12_ship d u [aR b, aI k] (mdW w b c q) Q := by
    intro Q hQ
    refine am_body rfl (by decide +kernel) rfl (am_cats_cons rfl ( am_cats_cons rfl (am_cats_nil))) (Nat.le_of_ble_eq_true rfl) (?_ : am_T _ _ _ _ _ 0 [some (aR b), some (aI k)] [] (mdW w b c q))
    obtain ⟨vl0, vu0⟩ := MdV_0 hV
    obtain ⟨vl1, vu1⟩ := MdV_1 hV
    obtain ⟨vl3, vu3⟩ := MdV_3 hV
    obtain ⟨vl6, vu6⟩ := MdV_6 hV
    refine T_aload_n (am_dec tX12_ship_0 0 rfl) rfl ?_
    refine T_iconst 0 (am_dec tX12_ship_0 1 rfl) rfl ⟨by decide, by decide⟩ ?_
    refine T_putfield (fs' := mdO b (c 0) (am_up (q 0) 0 0)) 11 0 (am_dec tX12_ship_0 2 rfl) flX12_160_11 rfl rfl rfl trivial (md_obj hl) (Nat.le_of_ble_eq_true rfl) rfl ?_
    refine am_wE (w2 := mdW w b c (am_put q 0 0 0)) (md_fq) ?_
    refine T_aload_n (am_dec tX12_ship_0 3 rfl) rfl ?_
    refine T_aload_n (am_dec tX12_ship_0 4 rfl) rfl ?_
    refine T_iload_n (am_dec tX12_ship_0 5 rfl) rfl ?_
    refine T_callV (as := [aI k]) rfl (am_dec tX12_ship_0 6 rfl) lkX12_429 (md_obj hl) rfl rfl (Nat.le_of_ble_eq_true rfl) (by omega) (mk_isShip (d := d - 1) hl k  hV (by omega)) (fun _ => ?_)
    refine T_nm (fun z8 hz8 => ?_)
    have hb8 := k_isShip_b c k
    rw [← hz8] at hb8
    have hs8 := k_isShip_s c k
    rw [← hz8] at hs8
    have K11 : ∀ (t11 : Int), t11 = (if z8 = 0 then 1 else 0) →  am_T S zX12_ship d u Q 19 [some (aR b), some (aI k)] [aI t11, aR b] (mdW w b c (am_put q 0 0 0)) := by
      intro t11 ht11
      have hbt11 : t11 = 0 ∨ t11 = 1 := by
        rw [ht11]
        try dsimp only
        repeat' split
        all_goals first | exact Or.inl rfl | exact Or.inr rfl | apply k_in_b | apply k_isDigit_b | apply k_isSmall_b | apply k_bad_b | apply k_isIn_b | apply k_isStep_b | apply k_isFirst_b | apply k_isLine_b | apply k_seesBy_b | apply k_isWalker_b | apply k_seesOne_b | apply k_badTwo_b | apply k_sees_b | apply k_isCode_b | apply k_isLot_b | apply k_isShip_b | omega
      refine T_iconst 1 (am_dec tX12_ship_0 11 rfl) rfl ⟨by decide, by decide⟩ ?_
      refine T_iconst 1 (am_dec tX12_ship_0 12 rfl) rfl ⟨by decide, by decide⟩ ?_
      refine T_callV (as := [aI t11, aI 1, aI 1]) rfl (am_dec tX12_ship_0 13 rfl) lkX12_275 (md_obj hl) rfl rfl (Nat.le_of_ble_eq_true rfl) (by omega) (mk_bad0 (d := d - 1) hl t11 1 1 (by omega) am_put_s (by omega)) (fun _ => ?_)
      refine T_nmH (W := fun x9 => mdW w b c x9) (v := (k_refuse (am_put q 0 0 0) t11 1 1)) (fun q21 hq21 => ?_)
      refine T_nm (fun z21 hz21 => ?_)
      have hq021 : t11 = 0 → q21 0 0 = 0 := fun h9 => by rw [hq21]; exact k_refuse_0 am_put_s h9
      refine T_if_eq 29 (am_dec tX12_ship_0 14 rfl) rfl (fun h24 => ?_) (fun h24 => ?_)
      · refine T_aload_n (am_dec tX12_ship_0 17 rfl) rfl ?_
        refine T_callV (as := []) rfl (am_dec tX12_ship_0 18 rfl) lkX12_345 (md_obj hl) rfl rfl (Nat.le_of_ble_eq_true rfl) (by omega) (mk_goes (d := d - 1) hl   hV hWd hS9 hLp hDu (by omega)) (fun _ => ?_)
        refine T_nmH (W := fun x9 => mdW w b c x9) (v := k_goes c q21) (fun q30 hq30 => ?_)
        refine T_aload_n (am_dec tX12_ship_0 19 rfl) rfl ?_
        refine T_iload_n (am_dec tX12_ship_0 20 rfl) rfl ?_
        refine T_callV (as := [aI k]) rfl (am_dec tX12_ship_0 21 rfl) lkX12_432 (md_obj hl) rfl rfl (Nat.le_of_ble_eq_true rfl) (by omega) (mk_comesIn (d := d - 1) hl k  hV hSh (by omega) (by omega)) (fun _ => ?_)
        exact T_ireturn (am_dec tX12_ship_0 22 rfl) rfl (am_tr (fun (x9 : Int × am_F) => Q (.inl (some (aI (x9.1)))) (mdW w b c x9.2)) (y := ((k_comesIn c q30 k), q30)) (show (k_ship c q k) = ((k_comesIn c q30 k), q30) from (by have s9 := hz8.symm; subst s9; have s9 := ht11.symm; subst s9; have s9 := hq21.symm; subst s9; have s9 := hz21.symm; subst s9; have s9 := hq30.symm; subst s9; exact (if_pos h24))) hQ)
      · refine T_iconst 0 (am_dec tX12_ship_0 15 rfl) rfl ⟨by decide, by decide⟩ ?_
        exact T_ireturn (am_dec tX12_ship_0 16 rfl) rfl (am_tr (fun (x9 : Int × am_F) => Q (.inl (some (aI (x9.1)))) (mdW w b c x9.2)) (y := (0, q21)) (show (k_ship c q k) = (0, q21) from (by have s9 := hz8.symm; subst s9; have s9 := ht11.symm; subst s9; have s9 := hq21.symm; subst s9; have s9 := hz21.symm; subst s9; exact (if_neg h24))) hQ)
    refine T_if_ne 18 (am_dec tX12_ship_0 7 rfl) rfl (fun h11 => ?_) (fun h11 => ?_)
    · refine T_iconst 0 (am_dec tX12_ship_0 10 rfl) rfl ⟨by decide, by decide⟩ ?_
      exact K11 _ (if_neg h11).symm
    · refine T_iconst 1 (am_dec tX12_ship_0 8 rfl) rfl ⟨by decide, by decide⟩ ?_
      refine T_goto 19 (am_dec tX12_ship_0 9 rfl) rfl ?_
      exact K11 _ (if_pos h11).symm
  exact key _ ⟨rfl, rfl⟩
def MdG (c : am_F) : Prop := ∀ k : Int, 0 ≤ k → k < c 0 31 → (0 ≤ c (146 + k.toNat) 0 ∧ c (146 + k.toNat) 0 ≤ 80) ∧ (0 ≤ c (146 + k.toNat) 1 ∧ c (146 + k.toNat) 1 ≤ 39)
def k_gauge (c : am_F) (q : am_F) (x : Int) (y : Int) (t : Int) (yds : Int) : Int × am_F × am_F := (let z9 : Int := (k_isIn c x y); (let t12 : Int := (if z9 = 0 then 1 else 0); (let q22 : am_F := (k_refuse (am_put q 0 0 0) t12 1 0); (let z22 : Int := (if t12 = 0 then 0 else 1); (if z22 = 0 then (let z30 : Int := (k_isStep t); (let t33 : Int := (if z30 = 0 then 1 else (let z41 : Int := (k_in yds 0 99); (if z41 = 0 then 1 else 0))); (let q54 : am_F := (k_refuse q22 t33 2 2); (let z54 : Int := (if t33 = 0 then 0 else 1); (if z54 = 0 then (if c 0 31 = 8 then ((-1), c, q54) else (((c 0 31) + 1), (am_put (am_put (am_put (am_put c (146 + (c 0 31).toNat) 0 (x + (9 * y))) (146 + (c 0 31).toNat) 1 t) (146 + (c 0 31).toNat) 2 yds) 0 31 ((c 0 31) + 1)), q54)) else (0, c, q54)))))) else (0, c, q22))))))
theorem mk_gauge {S : am_S} {d u : Nat} {w : AH} {b : Nat} (hl : b + 735 ≤ w.length) {c : am_F} {q : am_F} (x : Int) (y : Int) (t : Int) (yds : Int) (hV : MdV c) (hd : 2 ≤ d) : am_Out S zX12_gauge d u [aR b, aI x, aI y, aI t, aI yds] (mdW w b c q) (.inl (some (aI ((k_gauge c q x y t yds).1)))) (mdW w b ((k_gauge c q x y t yds).2.1) ((k_gauge c q x y t yds).2.2)) := by
  have key : ∀ Q : AO → AH → Prop, Q (.inl (some (aI ((k_gauge c q x y t yds).1)))) (mdW w b ((k_gauge c q x y t yds).2.1) ((k_gauge c q x y t yds).2.2)) → am_M S zX12_gauge d u [aR b, aI x, aI y, aI t, aI yds] (mdW w b c q) Q := by
    intro Q hQ
    refine am_body rfl (by decide +kernel) rfl (am_cats_cons rfl ( am_cats_cons rfl ( am_cats_cons rfl ( am_cats_cons rfl ( am_cats_cons rfl (am_cats_nil)))))) (Nat.le_of_ble_eq_true rfl) (?_ : am_T _ _ _ _ _ 0 [some (aR b), some (aI x), some (aI y), some (aI t), some (aI yds)] [] (mdW w b c q))
    obtain ⟨vl0, vu0⟩ := MdV_0 hV
    obtain ⟨vl1, vu1⟩ := MdV_1 hV
    obtain ⟨vl3, vu3⟩ := MdV_3 hV
    obtain ⟨vl13, vu13⟩ := MdV_13 hV
    refine T_aload_n (am_dec tX12_gauge_0 0 rfl) rfl ?_
    refine T_iconst 0 (am_dec tX12_gauge_0 1 rfl) rfl ⟨by decide, by decide⟩ ?_
    refine T_putfield (fs' := mdO b (c 0) (am_up (q 0) 0 0)) 11 0 (am_dec tX12_gauge_0 2 rfl) flX12_160_11 rfl rfl rfl trivial (md_obj hl) (Nat.le_of_ble_eq_true rfl) rfl ?_
    refine am_wE (w2 := mdW w b c (am_put q 0 0 0)) (md_fq) ?_
    refine T_aload_n (am_dec tX12_gauge_0 3 rfl) rfl ?_
    refine T_aload_n (am_dec tX12_gauge_0 4 rfl) rfl ?_
    refine T_iload_n (am_dec tX12_gauge_0 5 rfl) rfl ?_
    refine T_iload_n (am_dec tX12_gauge_0 6 rfl) rfl ?_
    refine T_callV (as := [aI x, aI y]) rfl (am_dec tX12_gauge_0 7 rfl) lkX12_320 (md_obj hl) rfl rfl (Nat.le_of_ble_eq_true rfl) (by omega) (mk_isIn (d := d - 1) hl x y  hV (by omega)) (fun _ => ?_)
    refine T_nm (fun z9 hz9 => ?_)
    have hb9 := k_isIn_b c x y
    rw [← hz9] at hb9
    have hs9 := k_isIn_s c x y
    rw [← hz9] at hs9
    have K12 : ∀ (t12 : Int), t12 = (if z9 = 0 then 1 else 0) →  am_T S zX12_gauge d u Q 20 [some (aR b), some (aI x), some (aI y), some (aI t), some (aI yds)] [aI t12, aR b] (mdW w b c (am_put q 0 0 0)) := by
      intro t12 ht12
      have hbt12 : t12 = 0 ∨ t12 = 1 := by
        rw [ht12]
        try dsimp only
        repeat' split
        all_goals first | exact Or.inl rfl | exact Or.inr rfl | apply k_in_b | apply k_isDigit_b | apply k_isSmall_b | apply k_bad_b | apply k_isIn_b | apply k_isStep_b | apply k_isFirst_b | apply k_isLine_b | apply k_seesBy_b | apply k_isWalker_b | apply k_seesOne_b | apply k_badTwo_b | apply k_sees_b | apply k_isCode_b | apply k_isLot_b | apply k_isShip_b | omega
      refine T_iconst 1 (am_dec tX12_gauge_0 12 rfl) rfl ⟨by decide, by decide⟩ ?_
      refine T_iconst 0 (am_dec tX12_gauge_0 13 rfl) rfl ⟨by decide, by decide⟩ ?_
      refine T_callV (as := [aI t12, aI 1, aI 0]) rfl (am_dec tX12_gauge_0 14 rfl) lkX12_275 (md_obj hl) rfl rfl (Nat.le_of_ble_eq_true rfl) (by omega) (mk_bad0 (d := d - 1) hl t12 1 0 (by omega) am_put_s (by omega)) (fun _ => ?_)
      refine T_nmH (W := fun x9 => mdW w b c x9) (v := (k_refuse (am_put q 0 0 0) t12 1 0)) (fun q22 hq22 => ?_)
      refine T_nm (fun z22 hz22 => ?_)
      have hq022 : t12 = 0 → q22 0 0 = 0 := fun h9 => by rw [hq22]; exact k_refuse_0 am_put_s h9
      refine T_if_ne 60 (am_dec tX12_gauge_0 15 rfl) rfl (fun h25 => ?_) (fun h25 => ?_)
      · refine T_iconst 0 (am_dec tX12_gauge_0 32 rfl) rfl ⟨by decide, by decide⟩ ?_
        exact T_ireturn (am_dec tX12_gauge_0 33 rfl) rfl (am_tr (fun (x9 : Int × am_F × am_F) => Q (.inl (some (aI (x9.1)))) (mdW w b x9.2.1 x9.2.2)) (y := (0, c, q22)) (show (k_gauge c q x y t yds) = (0, c, q22) from (by have s9 := hz9.symm; subst s9; have s9 := ht12.symm; subst s9; have s9 := hq22.symm; subst s9; have s9 := hz22.symm; subst s9; exact (if_neg h25))) hQ)
      · refine T_aload_n (am_dec tX12_gauge_0 16 rfl) rfl ?_
        refine T_iload_n (am_dec tX12_gauge_0 17 rfl) rfl ?_
        refine T_callS (as := [aI t]) rfl (am_dec tX12_gauge_0 18 rfl) lkX12_351 rfl (Nat.le_of_ble_eq_true rfl) (by omega) (mk_isStep (d := d - 1)  t   (by omega)) (fun _ => ?_)
        refine T_nm (fun z30 hz30 => ?_)
        have hb30 := k_isStep_b t
        rw [← hz30] at hb30
        have hs30 := k_isStep_s t
        rw [← hz30] at hs30
        have K33 : ∀ (t33 : Int), t33 = (if z30 = 0 then 1 else (let z41 : Int := (k_in yds 0 99); (if z41 = 0 then 1 else 0))) →  am_T S zX12_gauge d u Q 52 [some (aR b), some (aI x), some (aI y), some (aI t), some (aI yds)] [aI t33, aR b] (mdW w b c q22) := by
          intro t33 ht33
          have hxt33 := ht33
          dsimp only at hxt33
          have hy2 := k_in_s yds 0 99
          have hbt33 : t33 = 0 ∨ t33 = 1 := by
            rw [ht33]
            try dsimp only
            repeat' split
            all_goals first | exact Or.inl rfl | exact Or.inr rfl | apply k_in_b | apply k_isDigit_b | apply k_isSmall_b | apply k_bad_b | apply k_isIn_b | apply k_isStep_b | apply k_isFirst_b | apply k_isLine_b | apply k_seesBy_b | apply k_isWalker_b | apply k_seesOne_b | apply k_badTwo_b | apply k_sees_b | apply k_isCode_b | apply k_isLot_b | apply k_isShip_b | omega
          refine T_iconst 2 (am_dec tX12_gauge_0 28 rfl) rfl ⟨by decide, by decide⟩ ?_
          refine T_iconst 2 (am_dec tX12_gauge_0 29 rfl) rfl ⟨by decide, by decide⟩ ?_
          refine T_callV (as := [aI t33, aI 2, aI 2]) rfl (am_dec tX12_gauge_0 30 rfl) lkX12_275 (md_obj hl) rfl rfl (Nat.le_of_ble_eq_true rfl) (by omega) (mk_bad0 (d := d - 1) hl t33 2 2 (by omega) (hq022 (by omega)) (by omega)) (fun _ => ?_)
          refine T_nmH (W := fun x9 => mdW w b c x9) (v := (k_refuse q22 t33 2 2)) (fun q54 hq54 => ?_)
          refine T_nm (fun z54 hz54 => ?_)
          have hq054 : t33 = 0 → q54 0 0 = 0 := fun h9 => by rw [hq54]; exact k_refuse_0 (hq022 (by omega)) h9
          refine T_if_eq 62 (am_dec tX12_gauge_0 31 rfl) rfl (fun h57 => ?_) (fun h57 => ?_)
          · refine T_aload_n (am_dec tX12_gauge_0 34 rfl) rfl ?_
            refine T_getfield 11 31 (am_dec tX12_gauge_0 35 rfl) flX12_295_11 (md_obj hl) rfl ?_
            refine T_bipush 8 (am_dec tX12_gauge_0 36 rfl) rfl ⟨by decide, by decide⟩ ?_
            refine T_icmp_ne 73 (am_dec tX12_gauge_0 37 rfl) rfl (fun h68 => ?_) (fun h68 => ?_)
            · refine T_aload_n (am_dec tX12_gauge_1 0 rfl) rfl ?_
              refine T_getfield 11 35 (am_dec tX12_gauge_1 1 rfl) flX12_85_11 (md_obj hl) rfl ?_
              refine T_aload_n (am_dec tX12_gauge_1 2 rfl) rfl ?_
              refine T_getfield 11 31 (am_dec tX12_gauge_1 3 rfl) flX12_295_11 (md_obj hl) rfl ?_
              refine T_aaloadR (r := b + (146 + (c 0 31).toNat)) (am_dec tX12_gauge_1 4 rfl) (by decide) (mh_gauge hl) (by omega) (by omega) (if_pos (by omega)) ?_
              refine T_iconst 0 (am_dec tX12_gauge_1 5 rfl) rfl ⟨by decide, by decide⟩ ?_
              refine T_iload_n (am_dec tX12_gauge_1 6 rfl) rfl ?_
              refine T_iload_n (am_dec tX12_gauge_1 7 rfl) rfl ?_
              refine T_callS (as := [aI x, aI y]) rfl (am_dec tX12_gauge_1 8 rfl) lkX12_317 rfl (Nat.le_of_ble_eq_true rfl) (by omega) (mk_cell' (d := d - 1) x y (by omega)) (fun _ => ?_)
              refine T_iastore (am_dec tX12_gauge_1 9 rfl) (mr_gauge hl (i := (c 0 31)) (by omega) (by omega)) (by omega) (by omega) ?_
              refine am_wE (w2 := mdW w b (am_put c (146 + (c 0 31).toNat) 0 (x + (9 * y))) q54) (md_pc (by omega) (fun f g => md_t_gauge f g (by omega))) ?_
              refine T_aload_n (am_dec tX12_gauge_1 10 rfl) rfl ?_
              refine T_getfield 11 35 (am_dec tX12_gauge_1 11 rfl) flX12_85_11 (md_obj hl) rfl ?_
              refine T_aload_n (am_dec tX12_gauge_1 12 rfl) rfl ?_
              refine T_getfield 11 31 (am_dec tX12_gauge_1 13 rfl) flX12_295_11 (md_obj hl) (md_fe rfl (am_put_k (by omega))) ?_
              refine T_aaloadR (r := b + (146 + (c 0 31).toNat)) (am_dec tX12_gauge_1 14 rfl) (by decide) (mh_gauge hl) (by omega) (by omega) (if_pos (by omega)) ?_
              refine T_iconst 1 (am_dec tX12_gauge_1 15 rfl) rfl ⟨by decide, by decide⟩ ?_
              refine T_iload_n (am_dec tX12_gauge_1 16 rfl) rfl ?_
              refine T_iastore (am_dec tX12_gauge_1 17 rfl) (mr_gauge hl (i := (c 0 31)) (by omega) (by omega)) (by omega) (by omega) ?_
              refine am_wE (w2 := mdW w b (am_put (am_put c (146 + (c 0 31).toNat) 0 (x + (9 * y))) (146 + (c 0 31).toNat) 1 t) q54) (md_pc (by omega) (fun f g => md_t_gauge f g (by omega))) ?_
              refine T_aload_n (am_dec tX12_gauge_1 18 rfl) rfl ?_
              refine T_getfield 11 35 (am_dec tX12_gauge_1 19 rfl) flX12_85_11 (md_obj hl) rfl ?_
              refine T_aload_n (am_dec tX12_gauge_1 20 rfl) rfl ?_
              refine T_getfield 11 31 (am_dec tX12_gauge_1 21 rfl) flX12_295_11 (md_obj hl) (md_fe rfl ((am_put_k (by omega)).trans (am_put_k (by omega)))) ?_
              refine T_aaloadR (r := b + (146 + (c 0 31).toNat)) (am_dec tX12_gauge_1 22 rfl) (by decide) (mh_gauge hl) (by omega) (by omega) (if_pos (by omega)) ?_
              refine T_iconst 2 (am_dec tX12_gauge_1 23 rfl) rfl ⟨by decide, by decide⟩ ?_
              refine T_iload (am_dec tX12_gauge_1 24 rfl) rfl ?_
              refine T_iastore (am_dec tX12_gauge_1 25 rfl) (mr_gauge hl (i := (c 0 31)) (by omega) (by omega)) (by omega) (by omega) ?_
              refine am_wE (w2 := mdW w b (am_put (am_put (am_put c (146 + (c 0 31).toNat) 0 (x + (9 * y))) (146 + (c 0 31).toNat) 1 t) (146 + (c 0 31).toNat) 2 yds) q54) (md_pc (by omega) (fun f g => md_t_gauge f g (by omega))) ?_
              refine T_aload_n (am_dec tX12_gauge_1 26 rfl) rfl ?_
              refine T_dup (am_dec tX12_gauge_1 27 rfl) rfl ?_
              refine T_getfield 11 31 (am_dec tX12_gauge_1 28 rfl) flX12_295_11 (md_obj hl) (md_fe rfl ((am_put_k (by omega)).trans ((am_put_k (by omega)).trans (am_put_k (by omega))))) ?_
              refine T_iconst 1 (am_dec tX12_gauge_1 29 rfl) rfl ⟨by decide, by decide⟩ ?_
              refine T_iadd ((c 0 31) + 1) (am_dec tX12_gauge_1 30 rfl) rfl ⟨by omega, by omega⟩ ?_
              refine T_putfield (fs' := mdO b (am_up ((am_put (am_put (am_put c (146 + (c 0 31).toNat) 0 (x + (9 * y))) (146 + (c 0 31).toNat) 1 t) (146 + (c 0 31).toNat) 2 yds) 0) 31 ((c 0 31) + 1)) (q54 0)) 11 31 (am_dec tX12_gauge_1 31 rfl) flX12_295_11 rfl rfl rfl trivial (md_obj hl) (Nat.le_of_ble_eq_true rfl) rfl ?_
              refine am_wE (w2 := mdW w b (am_put (am_put (am_put (am_put c (146 + (c 0 31).toNat) 0 (x + (9 * y))) (146 + (c 0 31).toNat) 1 t) (146 + (c 0 31).toNat) 2 yds) 0 31 ((c 0 31) + 1)) q54) (md_fc) ?_
              refine T_aload_n (am_dec tX12_gauge_1 32 rfl) rfl ?_
              refine T_getfield 11 31 (am_dec tX12_gauge_1 33 rfl) flX12_295_11 (md_obj hl) (md_fe rfl (am_put_s)) ?_
              exact T_ireturn (am_dec tX12_gauge_1 34 rfl) rfl (am_tr (fun (x9 : Int × am_F × am_F) => Q (.inl (some (aI (x9.1)))) (mdW w b x9.2.1 x9.2.2)) (y := (((c 0 31) + 1), (am_put (am_put (am_put (am_put c (146 + (c 0 31).toNat) 0 (x + (9 * y))) (146 + (c 0 31).toNat) 1 t) (146 + (c 0 31).toNat) 2 yds) 0 31 ((c 0 31) + 1)), q54)) (show (k_gauge c q x y t yds) = (((c 0 31) + 1), (am_put (am_put (am_put (am_put c (146 + (c 0 31).toNat) 0 (x + (9 * y))) (146 + (c 0 31).toNat) 1 t) (146 + (c 0 31).toNat) 2 yds) 0 31 ((c 0 31) + 1)), q54) from (by have s9 := hz9.symm; subst s9; have s9 := ht12.symm; subst s9; have s9 := hq22.symm; subst s9; have s9 := hz22.symm; subst s9; have s9 := hz30.symm; subst s9; have s9 := ht33.symm; subst s9; have s9 := hq54.symm; subst s9; have s9 := hz54.symm; subst s9; exact ((if_pos h25).trans ((if_pos h57).trans (if_neg h68))))) hQ)
            · refine T_iconst (-1) (am_dec tX12_gauge_0 38 rfl) rfl ⟨by decide, by decide⟩ ?_
              exact T_ireturn (am_dec tX12_gauge_0 39 rfl) rfl (am_tr (fun (x9 : Int × am_F × am_F) => Q (.inl (some (aI (x9.1)))) (mdW w b x9.2.1 x9.2.2)) (y := ((-1), c, q54)) (show (k_gauge c q x y t yds) = ((-1), c, q54) from (by have s9 := hz9.symm; subst s9; have s9 := ht12.symm; subst s9; have s9 := hq22.symm; subst s9; have s9 := hz22.symm; subst s9; have s9 := hz30.symm; subst s9; have s9 := ht33.symm; subst s9; have s9 := hq54.symm; subst s9; have s9 := hz54.symm; subst s9; exact ((if_pos h25).trans ((if_pos h57).trans (if_pos h68))))) hQ)
          · refine T_iconst 0 (am_dec tX12_gauge_0 32 rfl) rfl ⟨by decide, by decide⟩ ?_
            exact T_ireturn (am_dec tX12_gauge_0 33 rfl) rfl (am_tr (fun (x9 : Int × am_F × am_F) => Q (.inl (some (aI (x9.1)))) (mdW w b x9.2.1 x9.2.2)) (y := (0, c, q54)) (show (k_gauge c q x y t yds) = (0, c, q54) from (by have s9 := hz9.symm; subst s9; have s9 := ht12.symm; subst s9; have s9 := hq22.symm; subst s9; have s9 := hz22.symm; subst s9; have s9 := hz30.symm; subst s9; have s9 := ht33.symm; subst s9; have s9 := hq54.symm; subst s9; have s9 := hz54.symm; subst s9; exact ((if_pos h25).trans (if_neg h57)))) hQ)
        refine T_if_eq 47 (am_dec tX12_gauge_0 19 rfl) rfl (fun h33 => ?_) (fun h33 => ?_)
        · refine T_iconst 1 (am_dec tX12_gauge_0 25 rfl) rfl ⟨by decide, by decide⟩ ?_
          refine T_goto 52 (am_dec tX12_gauge_0 26 rfl) rfl ?_
          exact K33 _ (if_pos h33).symm
        · refine T_iload (am_dec tX12_gauge_0 20 rfl) rfl ?_
          refine T_iconst 0 (am_dec tX12_gauge_0 21 rfl) rfl ⟨by decide, by decide⟩ ?_
          refine T_bipush 99 (am_dec tX12_gauge_0 22 rfl) rfl ⟨by decide, by decide⟩ ?_
          refine T_callS (as := [aI yds, aI 0, aI 99]) rfl (am_dec tX12_gauge_0 23 rfl) lkX12_194 rfl (Nat.le_of_ble_eq_true rfl) (by omega) (mk_in (d := d - 1)  yds 0 99   ) (fun _ => ?_)
          refine T_nm (fun z41 hz41 => ?_)
          have hb41 := k_in_b yds 0 99
          rw [← hz41] at hb41
          have hs41 := k_in_s yds 0 99
          rw [← hz41] at hs41
          have K44 : ∀ (t44 : Int), t44 = (if z41 = 0 then 1 else 0) →  am_T S zX12_gauge d u Q 52 [some (aR b), some (aI x), some (aI y), some (aI t), some (aI yds)] [aI t44, aR b] (mdW w b c q22) := by
            intro t44 ht44
            have hbt44 : t44 = 0 ∨ t44 = 1 := by
              rw [ht44]
              try dsimp only
              repeat' split
              all_goals first | exact Or.inl rfl | exact Or.inr rfl | apply k_in_b | apply k_isDigit_b | apply k_isSmall_b | apply k_bad_b | apply k_isIn_b | apply k_isStep_b | apply k_isFirst_b | apply k_isLine_b | apply k_seesBy_b | apply k_isWalker_b | apply k_seesOne_b | apply k_badTwo_b | apply k_sees_b | apply k_isCode_b | apply k_isLot_b | apply k_isShip_b | omega
            exact K33 _ (by have s9 := hz41.symm; subst s9; have s9 := ht44.symm; subst s9; exact (if_neg h33).symm)
          refine T_if_ne 51 (am_dec tX12_gauge_0 24 rfl) rfl (fun h44 => ?_) (fun h44 => ?_)
          · refine T_iconst 0 (am_dec tX12_gauge_0 27 rfl) rfl ⟨by decide, by decide⟩ ?_
            exact K44 _ (if_neg h44).symm
          · refine T_iconst 1 (am_dec tX12_gauge_0 25 rfl) rfl ⟨by decide, by decide⟩ ?_
            refine T_goto 52 (am_dec tX12_gauge_0 26 rfl) rfl ?_
            exact K44 _ (if_pos h44).symm
    refine T_if_ne 19 (am_dec tX12_gauge_0 8 rfl) rfl (fun h12 => ?_) (fun h12 => ?_)
    · refine T_iconst 0 (am_dec tX12_gauge_0 11 rfl) rfl ⟨by decide, by decide⟩ ?_
      exact K12 _ (if_neg h12).symm
    · refine T_iconst 1 (am_dec tX12_gauge_0 9 rfl) rfl ⟨by decide, by decide⟩ ?_
      refine T_goto 20 (am_dec tX12_gauge_0 10 rfl) rfl ?_
      exact K12 _ (if_pos h12).symm
  exact key _ ⟨rfl, rfl⟩
def p_k_areRight_6 (c : am_F) (q : am_F) : Int → Option Int := fun k => (if q (159 + ((c (146 + k.toNat) 1) + 1).toNat) ((c (146 + k.toNat) 0).toNat) = c (146 + k.toNat) 2 then none else some 0)
theorem L_k_areRight_6 {S : am_S} {d u : Nat} {Q : AO → AH → Prop} {w : AH} {b : Nat} (hl : b + 735 ≤ w.length) (c : am_F) (q : am_F) (hV : MdV c) (hWd : MdWd c) (hS9 : MdS c) (hLp : MdLp c) (hDu : MdDu c) (hG9 : MdG c)  (hd : 5 ≤ d) (B9 : Int) (hB : B9 = c 0 31) : ∀ (n : Nat) (k : Int), k + n = B9 → 0 ≤ k → (am_find (p_k_areRight_6 c q) k n = none → am_T S zX12_areRight d u Q 57 [none, none] [] (mdW w b c q)) → (∀ r9, am_find (p_k_areRight_6 c q) k n = some r9 → Q (.inl (some (aI r9))) (mdW w b c q)) → am_T S zX12_areRight d u Q 6 [some (aR b), some (aI k)] [] (mdW w b c q) := by
  intro n
  induction n with
  | zero =>
    intro k hi9 h0i k9 kr9
    have e9 : k = B9 := by omega
    subst e9
    obtain ⟨vl13, vu13⟩ := MdV_13 hV
    refine T_iload_n (am_dec tX12_areRight_0 4 rfl) rfl ?_
    refine T_aload_n (am_dec tX12_areRight_0 5 rfl) rfl ?_
    refine T_getfield 11 31 (am_dec tX12_areRight_0 6 rfl) flX12_295_11 (md_obj hl) rfl ?_
    refine T_icmp_ge 57 (am_dec tX12_areRight_0 7 rfl) rfl (fun h11 => ?_) (fun h11 => by exfalso; omega)
    refine T_weak (ls' := [none, none]) (am_sub_n (am_sub_n am_sub_nil)) ?_
    exact k9 rfl
  | succ n ih =>
    intro k hi9 h0i k9 kr9
    obtain ⟨vl13, vu13⟩ := MdV_13 hV
    refine T_iload_n (am_dec tX12_areRight_0 4 rfl) rfl ?_
    refine T_aload_n (am_dec tX12_areRight_0 5 rfl) rfl ?_
    refine T_getfield 11 31 (am_dec tX12_areRight_0 6 rfl) flX12_295_11 (md_obj hl) rfl ?_
    refine T_icmp_ge 57 (am_dec tX12_areRight_0 7 rfl) rfl (fun h11 => by exfalso; omega) (fun h11 => ?_)
    have hg14 := hG9 k (by omega) (by omega)
    refine T_aload_n (am_dec tX12_areRight_0 8 rfl) rfl ?_
    refine T_getfield 11 37 (am_dec tX12_areRight_0 9 rfl) flX12_91_11 (md_obj hl) rfl ?_
    refine T_aload_n (am_dec tX12_areRight_0 10 rfl) rfl ?_
    refine T_getfield 11 35 (am_dec tX12_areRight_0 11 rfl) flX12_85_11 (md_obj hl) rfl ?_
    refine T_iload_n (am_dec tX12_areRight_0 12 rfl) rfl ?_
    refine T_aaloadR (r := b + (146 + k.toNat)) (am_dec tX12_areRight_0 13 rfl) (by decide) (mh_gauge hl) (by omega) (by omega) (if_pos (by omega)) ?_
    refine T_iconst 1 (am_dec tX12_areRight_0 14 rfl) rfl ⟨by decide, by decide⟩ ?_
    refine T_ialoadE (x := c (146 + k.toNat) 1) (am_dec tX12_areRight_0 15 rfl) (mr_gauge hl (i := k) (by omega) (by omega)) (by omega) (by omega) rfl ?_
    refine T_iconst 1 (am_dec tX12_areRight_0 16 rfl) rfl ⟨by decide, by decide⟩ ?_
    refine T_iadd ((c (146 + k.toNat) 1) + 1) (am_dec tX12_areRight_0 17 rfl) rfl ⟨by omega, by omega⟩ ?_
    refine T_aaloadR (r := b + (159 + ((c (146 + k.toNat) 1) + 1).toNat)) (am_dec tX12_areRight_0 18 rfl) (by decide) (mh_fog hl) (by omega) (by omega) (if_pos (by omega)) ?_
    refine T_aload_n (am_dec tX12_areRight_0 19 rfl) rfl ?_
    refine T_getfield 11 35 (am_dec tX12_areRight_0 20 rfl) flX12_85_11 (md_obj hl) rfl ?_
    refine T_iload_n (am_dec tX12_areRight_0 21 rfl) rfl ?_
    refine T_aaloadR (r := b + (146 + k.toNat)) (am_dec tX12_areRight_0 22 rfl) (by decide) (mh_gauge hl) (by omega) (by omega) (if_pos (by omega)) ?_
    refine T_iconst 0 (am_dec tX12_areRight_0 23 rfl) rfl ⟨by decide, by decide⟩ ?_
    refine T_ialoadE (x := c (146 + k.toNat) 0) (am_dec tX12_areRight_0 24 rfl) (mr_gauge hl (i := k) (by omega) (by omega)) (by omega) (by omega) rfl ?_
    refine T_ialoadE (x := q (159 + ((c (146 + k.toNat) 1) + 1).toNat) ((c (146 + k.toNat) 0).toNat)) (am_dec tX12_areRight_0 25 rfl) (mr_fog hl (i := ((c (146 + k.toNat) 1) + 1)) (by omega) (by omega)) (by omega) (by omega) rfl ?_
    refine T_aload_n (am_dec tX12_areRight_0 26 rfl) rfl ?_
    refine T_getfield 11 35 (am_dec tX12_areRight_0 27 rfl) flX12_85_11 (md_obj hl) rfl ?_
    refine T_iload_n (am_dec tX12_areRight_0 28 rfl) rfl ?_
    refine T_aaloadR (r := b + (146 + k.toNat)) (am_dec tX12_areRight_0 29 rfl) (by decide) (mh_gauge hl) (by omega) (by omega) (if_pos (by omega)) ?_
    refine T_iconst 2 (am_dec tX12_areRight_0 30 rfl) rfl ⟨by decide, by decide⟩ ?_
    refine T_ialoadE (x := c (146 + k.toNat) 2) (am_dec tX12_areRight_0 31 rfl) (mr_gauge hl (i := k) (by omega) (by omega)) (by omega) (by omega) rfl ?_
    refine T_icmp_eq 51 (am_dec tX12_areRight_0 32 rfl) rfl (fun h46 => ?_) (fun h46 => ?_)
    · refine T_iinc (ls' := [some (aR b), some (aI (k + 1))]) (k + 1) (am_dec tX12_areRight_0 35 rfl) rfl rfl ⟨by omega, by omega⟩ (by decide) rfl ?_
      refine T_goto 6 (am_dec tX12_areRight_0 36 rfl) rfl ?_
      have e9 : (p_k_areRight_6 c q) k = none := (if_pos h46)
      rw [am_find_n e9] at k9 kr9
      exact ih (k + 1) (by omega) (by omega) k9 kr9
    · refine T_iconst 0 (am_dec tX12_areRight_0 33 rfl) rfl ⟨by decide, by decide⟩ ?_
      exact T_zreturn (am_dec tX12_areRight_0 34 rfl) rfl (by first | exact Or.inl rfl | exact Or.inr rfl | omega) (kr9 _ (am_find_y (show (p_k_areRight_6 c q) k = some 0 from (if_neg h46))))
def k_areRight (c : am_F) (q : am_F) : Int × am_F := (let q1 : am_F := k_goes c q; (Option.elim (am_find (p_k_areRight_6 c q1) 0 (c 0 31).toNat) (1, q1) (fun r9 => (r9, q1))))
theorem mk_areRight {S : am_S} {d u : Nat} {w : AH} {b : Nat} (hl : b + 735 ≤ w.length) {c : am_F} {q : am_F}  (hV : MdV c) (hWd : MdWd c) (hS9 : MdS c) (hLp : MdLp c) (hDu : MdDu c) (hG9 : MdG c) (hd : 5 ≤ d) : am_Out S zX12_areRight d u [aR b] (mdW w b c q) (.inl (some (aI ((k_areRight c q).1)))) (mdW w b c ((k_areRight c q).2)) := by
  have key : ∀ Q : AO → AH → Prop, Q (.inl (some (aI ((k_areRight c q).1)))) (mdW w b c ((k_areRight c q).2)) → am_M S zX12_areRight d u [aR b] (mdW w b c q) Q := by
    intro Q hQ
    refine am_body rfl (by decide +kernel) rfl (am_cats_cons rfl (am_cats_nil)) (Nat.le_of_ble_eq_true rfl) (?_ : am_T _ _ _ _ _ 0 [some (aR b), none] [] (mdW w b c q))
    obtain ⟨vl13, vu13⟩ := MdV_13 hV
    refine T_aload_n (am_dec tX12_areRight_0 0 rfl) rfl ?_
    refine T_callV (as := []) rfl (am_dec tX12_areRight_0 1 rfl) lkX12_345 (md_obj hl) rfl rfl (Nat.le_of_ble_eq_true rfl) (by omega) (mk_goes (d := d - 1) hl   hV hWd hS9 hLp hDu (by omega)) (fun _ => ?_)
    refine T_nmH (W := fun x9 => mdW w b c x9) (v := k_goes c q) (fun q1 hq1 => ?_)
    refine T_iconst 0 (am_dec tX12_areRight_0 2 rfl) rfl ⟨by decide, by decide⟩ ?_
    refine T_istore_n (ls' := [some (aR b), some (aI 0)]) (am_dec tX12_areRight_0 3 rfl) (by decide) rfl ?_
    refine L_k_areRight_6 hl c q1 hV hWd hS9 hLp hDu hG9  (by omega) _ rfl (c 0 31).toNat 0  (by omega) (by omega) (fun hn6 => ?_) (fun r6 hr6 => (am_tr (fun (x9 : Int × am_F) => Q (.inl (some (aI (x9.1)))) (mdW w b c x9.2)) (y := (r6, q1)) (show (k_areRight c q) = (r6, q1) from (by have s9 := hq1.symm; subst s9; exact (am_el_s hr6))) hQ))
    refine T_iconst 1 (am_dec tX12_areRight_0 37 rfl) rfl ⟨by decide, by decide⟩ ?_
    exact T_zreturn (am_dec tX12_areRight_0 38 rfl) rfl (by first | exact Or.inl rfl | exact Or.inr rfl | omega) (am_tr (fun (x9 : Int × am_F) => Q (.inl (some (aI (x9.1)))) (mdW w b c x9.2)) (y := (1, q1)) (show (k_areRight c q) = (1, q1) from (by have s9 := hq1.symm; subst s9; exact (am_el_n hn6))) hQ)
  exact key _ ⟨rfl, rfl⟩
theorem k_areRight_b (c : am_F) (q : am_F) : (k_areRight c q).1 = 0 ∨ (k_areRight c q).1 = 1 := by
  unfold k_areRight
  dsimp only
  rcases h : am_find (p_k_areRight_6 c (k_goes c q)) 0 (c 0 31).toNat with _ | r
  · exact Or.inr rfl
  · obtain ⟨j, h1, h2, h3⟩ := am_find_spec _ _ h
    left
    show r = 0
    revert h3
    unfold p_k_areRight_6
    split
    · intro h3; cases h3
    · intro h3; exact (Option.some.inj h3).symm
def k_right (c : am_F) (q : am_F) : Int × am_F := (let u6 : Int × am_F := k_areRight c (am_put q 0 0 0); (((u6).1), (u6).2))
theorem mk_right {S : am_S} {d u : Nat} {w : AH} {b : Nat} (hl : b + 735 ≤ w.length) {c : am_F} {q : am_F}  (hV : MdV c) (hWd : MdWd c) (hS9 : MdS c) (hLp : MdLp c) (hDu : MdDu c) (hG9 : MdG c) (hd : 6 ≤ d) : am_Out S zX12_right d u [aR b] (mdW w b c q) (.inl (some (aI ((k_right c q).1)))) (mdW w b c ((k_right c q).2)) := by
  have key : ∀ Q : AO → AH → Prop, Q (.inl (some (aI ((k_right c q).1)))) (mdW w b c ((k_right c q).2)) → am_M S zX12_right d u [aR b] (mdW w b c q) Q := by
    intro Q hQ
    refine am_body rfl (by decide +kernel) rfl (am_cats_cons rfl (am_cats_nil)) (Nat.le_of_ble_eq_true rfl) (?_ : am_T _ _ _ _ _ 0 [some (aR b)] [] (mdW w b c q))
    obtain ⟨vl0, vu0⟩ := MdV_0 hV
    obtain ⟨vl1, vu1⟩ := MdV_1 hV
    obtain ⟨vl3, vu3⟩ := MdV_3 hV
    obtain ⟨vl13, vu13⟩ := MdV_13 hV
    refine T_aload_n (am_dec tX12_right_0 0 rfl) rfl ?_
    refine T_iconst 0 (am_dec tX12_right_0 1 rfl) rfl ⟨by decide, by decide⟩ ?_
    refine T_putfield (fs' := mdO b (c 0) (am_up (q 0) 0 0)) 11 0 (am_dec tX12_right_0 2 rfl) flX12_160_11 rfl rfl rfl trivial (md_obj hl) (Nat.le_of_ble_eq_true rfl) rfl ?_
    refine am_wE (w2 := mdW w b c (am_put q 0 0 0)) (md_fq) ?_
    refine T_aload_n (am_dec tX12_right_0 3 rfl) rfl ?_
    refine T_callV (as := []) rfl (am_dec tX12_right_0 4 rfl) lkX12_435 (md_obj hl) rfl rfl (Nat.le_of_ble_eq_true rfl) (by omega) (mk_areRight (d := d - 1) hl   hV hWd hS9 hLp hDu hG9 (by omega)) (fun _ => ?_)
    obtain ⟨u6, hu6⟩ : ∃ x9, x9 = k_areRight c (am_put q 0 0 0) := ⟨_, rfl⟩
    rw [← hu6]
    have hb6 := k_areRight_b c (am_put q 0 0 0)
    rw [← hu6] at hb6
    exact T_zreturn (am_dec tX12_right_0 5 rfl) rfl (by first | exact Or.inl rfl | exact Or.inr rfl | omega) (am_tr (fun (x9 : Int × am_F) => Q (.inl (some (aI (x9.1)))) (mdW w b c x9.2)) (y := (((u6).1), (u6).2)) (show (k_right c q) = (((u6).1), (u6).2) from (by have s9 := hu6.symm; subst s9; exact rfl)) hQ)
  exact key _ ⟨rfl, rfl⟩
theorem k_right_b (c : am_F) (q : am_F) : (k_right c q).1 = 0 ∨ (k_right c q).1 = 1 := by
  unfold k_right
  try dsimp only
  repeat' split
  all_goals first | exact Or.inl rfl | exact Or.inr rfl | apply k_in_b | apply k_isDigit_b | apply k_isSmall_b | apply k_bad_b | apply k_isIn_b | apply k_isStep_b | apply k_isFirst_b | apply k_isLine_b | apply k_seesBy_b | apply k_isWalker_b | apply k_seesOne_b | apply k_badTwo_b | apply k_sees_b | apply k_isCode_b | apply k_isLot_b | apply k_isShip_b | apply k_areRight_b
def k_clear (c : am_F) (q : am_F) : Int × am_F × am_F := (let v1_14 : Int := (c 0 30) + (c 0 31); (v1_14, (am_put (am_put c 0 30 0) 0 31 0), (am_put q 0 0 0)))
theorem mk_clear {S : am_S} {d u : Nat} {w : AH} {b : Nat} (hl : b + 735 ≤ w.length) {c : am_F} {q : am_F}  (hV : MdV c)  : am_Out S zX12_clear d u [aR b] (mdW w b c q) (.inl (some (aI ((k_clear c q).1)))) (mdW w b ((k_clear c q).2.1) ((k_clear c q).2.2)) := by
  have key : ∀ Q : AO → AH → Prop, Q (.inl (some (aI ((k_clear c q).1)))) (mdW w b ((k_clear c q).2.1) ((k_clear c q).2.2)) → am_M S zX12_clear d u [aR b] (mdW w b c q) Q := by
    intro Q hQ
    refine am_body rfl (by decide +kernel) rfl (am_cats_cons rfl (am_cats_nil)) (Nat.le_of_ble_eq_true rfl) (?_ : am_T _ _ _ _ _ 0 [some (aR b), none] [] (mdW w b c q))
    obtain ⟨vl12, vu12⟩ := MdV_12 hV
    obtain ⟨vl13, vu13⟩ := MdV_13 hV
    refine T_aload_n (am_dec tX12_clear_0 0 rfl) rfl ?_
    refine T_iconst 0 (am_dec tX12_clear_0 1 rfl) rfl ⟨by decide, by decide⟩ ?_
    refine T_putfield (fs' := mdO b (c 0) (am_up (q 0) 0 0)) 11 0 (am_dec tX12_clear_0 2 rfl) flX12_160_11 rfl rfl rfl trivial (md_obj hl) (Nat.le_of_ble_eq_true rfl) rfl ?_
    refine am_wE (w2 := mdW w b c (am_put q 0 0 0)) (md_fq) ?_
    refine T_aload_n (am_dec tX12_clear_0 3 rfl) rfl ?_
    refine T_getfield 11 30 (am_dec tX12_clear_0 4 rfl) flX12_292_11 (md_obj hl) rfl ?_
    refine T_aload_n (am_dec tX12_clear_0 5 rfl) rfl ?_
    refine T_getfield 11 31 (am_dec tX12_clear_0 6 rfl) flX12_295_11 (md_obj hl) rfl ?_
    refine T_iadd ((c 0 30) + (c 0 31)) (am_dec tX12_clear_0 7 rfl) rfl ⟨by omega, by omega⟩ ?_
    refine T_nm (fun v1_14 hv1_14 => ?_)
    refine T_istore_n (ls' := [some (aR b), some (aI v1_14)]) (am_dec tX12_clear_0 8 rfl) (by decide) rfl ?_
    refine T_aload_n (am_dec tX12_clear_0 9 rfl) rfl ?_
    refine T_iconst 0 (am_dec tX12_clear_0 10 rfl) rfl ⟨by decide, by decide⟩ ?_
    refine T_putfield (fs' := mdO b (am_up (c 0) 30 0) ((am_put q 0 0 0) 0)) 11 30 (am_dec tX12_clear_0 11 rfl) flX12_292_11 rfl rfl rfl trivial (md_obj hl) (Nat.le_of_ble_eq_true rfl) rfl ?_
    refine am_wE (w2 := mdW w b (am_put c 0 30 0) (am_put q 0 0 0)) (md_fc) ?_
    refine T_aload_n (am_dec tX12_clear_0 12 rfl) rfl ?_
    refine T_iconst 0 (am_dec tX12_clear_0 13 rfl) rfl ⟨by decide, by decide⟩ ?_
    refine T_putfield (fs' := mdO b (am_up ((am_put c 0 30 0) 0) 31 0) ((am_put q 0 0 0) 0)) 11 31 (am_dec tX12_clear_0 14 rfl) flX12_295_11 rfl rfl rfl trivial (md_obj hl) (Nat.le_of_ble_eq_true rfl) rfl ?_
    refine am_wE (w2 := mdW w b (am_put (am_put c 0 30 0) 0 31 0) (am_put q 0 0 0)) (md_fc) ?_
    refine T_iload_n (am_dec tX12_clear_0 15 rfl) rfl ?_
    exact T_ireturn (am_dec tX12_clear_0 16 rfl) rfl (am_tr (fun (x9 : Int × am_F × am_F) => Q (.inl (some (aI (x9.1)))) (mdW w b x9.2.1 x9.2.2)) (y := (v1_14, (am_put (am_put c 0 30 0) 0 31 0), (am_put q 0 0 0))) (show (k_clear c q) = (v1_14, (am_put (am_put c 0 30 0) 0 31 0), (am_put q 0 0 0)) from (by have s9 := hv1_14.symm; subst s9; exact rfl)) hQ)
  exact key _ ⟨rfl, rfl⟩
def k_doubt (c : am_F) (q : am_F) (x : Int) (y : Int) (t : Int) (seed : Int) (dq : Int) : Int × am_F := (let z9 : Int := (k_isIn c x y); (let t12 : Int := (if z9 = 0 then 1 else 0); (let q22 : am_F := (k_refuse (am_put q 0 0 0) t12 1 0); (let z22 : Int := (if t12 = 0 then 0 else 1); (if z22 = 0 then (let z30 : Int := (k_isStep t); (let t33 : Int := (if z30 = 0 then 1 else (let z41 : Int := (k_in dq 0 8); (if z41 = 0 then 1 else 0))); (let q54 : am_F := (k_refuse q22 t33 2 2); (let z54 : Int := (if t33 = 0 then 0 else 1); (if z54 = 0 then (let q67 : am_F := (k_goesD c q54 seed dq); ((q67 (159 + (t + 1).toNat) ((x + (9 * y)).toNat)), q67)) else (0, q54)))))) else (0, q22))))))
theorem mk_doubt {S : am_S} {d u : Nat} {w : AH} {b : Nat} (hl : b + 735 ≤ w.length) {c : am_F} {q : am_F} (x : Int) (y : Int) (t : Int) (seed : Int) (dq : Int) (hV : MdV c) (hWd : MdWd c) (hS9 : MdS c) (hLp : MdLp c) (hDu : MdDu c) (hD1 : c 0 61 = -1) (hd : 6 ≤ d) : am_Out S zX12_doubt d u [aR b, aI x, aI y, aI t, aI seed, aI dq] (mdW w b c q) (.inl (some (aI ((k_doubt c q x y t seed dq).1)))) (mdW w b c ((k_doubt c q x y t seed dq).2)) := by
  have key : ∀ Q : AO → AH → Prop, Q (.inl (some (aI ((k_doubt c q x y t seed dq).1)))) (mdW w b c ((k_doubt c q x y t seed dq).2)) → am_M S zX12_doubt d u [aR b, aI x, aI y, aI t, aI seed, aI dq] (mdW w b c q) Q := by
    intro Q hQ
    refine am_body rfl (by decide +kernel) rfl (am_cats_cons rfl ( am_cats_cons rfl ( am_cats_cons rfl ( am_cats_cons rfl ( am_cats_cons rfl ( am_cats_cons rfl (am_cats_nil))))))) (Nat.le_of_ble_eq_true rfl) (?_ : am_T _ _ _ _ _ 0 [some (aR b), some (aI x), some (aI y), some (aI t), some (aI seed), some (aI dq)] [] (mdW w b c q))
    obtain ⟨vl0, vu0⟩ := MdV_0 hV
    obtain ⟨vl1, vu1⟩ := MdV_1 hV
    obtain ⟨vl3, vu3⟩ := MdV_3 hV
    refine T_aload_n (am_dec tX12_doubt_0 0 rfl) rfl ?_
    refine T_iconst 0 (am_dec tX12_doubt_0 1 rfl) rfl ⟨by decide, by decide⟩ ?_
    refine T_putfield (fs' := mdO b (c 0) (am_up (q 0) 0 0)) 11 0 (am_dec tX12_doubt_0 2 rfl) flX12_160_11 rfl rfl rfl trivial (md_obj hl) (Nat.le_of_ble_eq_true rfl) rfl ?_
    refine am_wE (w2 := mdW w b c (am_put q 0 0 0)) (md_fq) ?_
    refine T_aload_n (am_dec tX12_doubt_0 3 rfl) rfl ?_
    refine T_aload_n (am_dec tX12_doubt_0 4 rfl) rfl ?_
    refine T_iload_n (am_dec tX12_doubt_0 5 rfl) rfl ?_
    refine T_iload_n (am_dec tX12_doubt_0 6 rfl) rfl ?_
    refine T_callV (as := [aI x, aI y]) rfl (am_dec tX12_doubt_0 7 rfl) lkX12_320 (md_obj hl) rfl rfl (Nat.le_of_ble_eq_true rfl) (by omega) (mk_isIn (d := d - 1) hl x y  hV (by omega)) (fun _ => ?_)
    refine T_nm (fun z9 hz9 => ?_)
    have hb9 := k_isIn_b c x y
    rw [← hz9] at hb9
    have hs9 := k_isIn_s c x y
    rw [← hz9] at hs9
    have K12 : ∀ (t12 : Int), t12 = (if z9 = 0 then 1 else 0) →  am_T S zX12_doubt d u Q 20 [some (aR b), some (aI x), some (aI y), some (aI t), some (aI seed), some (aI dq)] [aI t12, aR b] (mdW w b c (am_put q 0 0 0)) := by
      intro t12 ht12
      have hbt12 : t12 = 0 ∨ t12 = 1 := by
        rw [ht12]
        try dsimp only
        repeat' split
        all_goals first | exact Or.inl rfl | exact Or.inr rfl | apply k_in_b | apply k_isDigit_b | apply k_isSmall_b | apply k_bad_b | apply k_isIn_b | apply k_isStep_b | apply k_isFirst_b | apply k_isLine_b | apply k_seesBy_b | apply k_isWalker_b | apply k_seesOne_b | apply k_badTwo_b | apply k_sees_b | apply k_isCode_b | apply k_isLot_b | apply k_isShip_b | apply k_areRight_b | apply k_right_b | omega
      refine T_iconst 1 (am_dec tX12_doubt_0 12 rfl) rfl ⟨by decide, by decide⟩ ?_
      refine T_iconst 0 (am_dec tX12_doubt_0 13 rfl) rfl ⟨by decide, by decide⟩ ?_
      refine T_callV (as := [aI t12, aI 1, aI 0]) rfl (am_dec tX12_doubt_0 14 rfl) lkX12_275 (md_obj hl) rfl rfl (Nat.le_of_ble_eq_true rfl) (by omega) (mk_bad0 (d := d - 1) hl t12 1 0 (by omega) am_put_s (by omega)) (fun _ => ?_)
      refine T_nmH (W := fun x9 => mdW w b c x9) (v := (k_refuse (am_put q 0 0 0) t12 1 0)) (fun q22 hq22 => ?_)
      refine T_nm (fun z22 hz22 => ?_)
      have hq022 : t12 = 0 → q22 0 0 = 0 := fun h9 => by rw [hq22]; exact k_refuse_0 am_put_s h9
      refine T_if_ne 60 (am_dec tX12_doubt_0 15 rfl) rfl (fun h25 => ?_) (fun h25 => ?_)
      · refine T_iconst 0 (am_dec tX12_doubt_0 32 rfl) rfl ⟨by decide, by decide⟩ ?_
        exact T_ireturn (am_dec tX12_doubt_0 33 rfl) rfl (am_tr (fun (x9 : Int × am_F) => Q (.inl (some (aI (x9.1)))) (mdW w b c x9.2)) (y := (0, q22)) (show (k_doubt c q x y t seed dq) = (0, q22) from (by have s9 := hz9.symm; subst s9; have s9 := ht12.symm; subst s9; have s9 := hq22.symm; subst s9; have s9 := hz22.symm; subst s9; exact (if_neg h25))) hQ)
      · refine T_aload_n (am_dec tX12_doubt_0 16 rfl) rfl ?_
        refine T_iload_n (am_dec tX12_doubt_0 17 rfl) rfl ?_
        refine T_callS (as := [aI t]) rfl (am_dec tX12_doubt_0 18 rfl) lkX12_351 rfl (Nat.le_of_ble_eq_true rfl) (by omega) (mk_isStep (d := d - 1)  t   (by omega)) (fun _ => ?_)
        refine T_nm (fun z30 hz30 => ?_)
        have hb30 := k_isStep_b t
        rw [← hz30] at hb30
        have hs30 := k_isStep_s t
        rw [← hz30] at hs30
        have K33 : ∀ (t33 : Int), t33 = (if z30 = 0 then 1 else (let z41 : Int := (k_in dq 0 8); (if z41 = 0 then 1 else 0))) →  am_T S zX12_doubt d u Q 52 [some (aR b), some (aI x), some (aI y), some (aI t), some (aI seed), some (aI dq)] [aI t33, aR b] (mdW w b c q22) := by
          intro t33 ht33
          have hxt33 := ht33
          dsimp only at hxt33
          have hy2 := k_in_s dq 0 8
          have hbt33 : t33 = 0 ∨ t33 = 1 := by
            rw [ht33]
            try dsimp only
            repeat' split
            all_goals first | exact Or.inl rfl | exact Or.inr rfl | apply k_in_b | apply k_isDigit_b | apply k_isSmall_b | apply k_bad_b | apply k_isIn_b | apply k_isStep_b | apply k_isFirst_b | apply k_isLine_b | apply k_seesBy_b | apply k_isWalker_b | apply k_seesOne_b | apply k_badTwo_b | apply k_sees_b | apply k_isCode_b | apply k_isLot_b | apply k_isShip_b | apply k_areRight_b | apply k_right_b | omega
          refine T_iconst 2 (am_dec tX12_doubt_0 28 rfl) rfl ⟨by decide, by decide⟩ ?_
          refine T_iconst 2 (am_dec tX12_doubt_0 29 rfl) rfl ⟨by decide, by decide⟩ ?_
          refine T_callV (as := [aI t33, aI 2, aI 2]) rfl (am_dec tX12_doubt_0 30 rfl) lkX12_275 (md_obj hl) rfl rfl (Nat.le_of_ble_eq_true rfl) (by omega) (mk_bad0 (d := d - 1) hl t33 2 2 (by omega) (hq022 (by omega)) (by omega)) (fun _ => ?_)
          refine T_nmH (W := fun x9 => mdW w b c x9) (v := (k_refuse q22 t33 2 2)) (fun q54 hq54 => ?_)
          refine T_nm (fun z54 hz54 => ?_)
          have hq054 : t33 = 0 → q54 0 0 = 0 := fun h9 => by rw [hq54]; exact k_refuse_0 (hq022 (by omega)) h9
          refine T_if_eq 62 (am_dec tX12_doubt_0 31 rfl) rfl (fun h57 => ?_) (fun h57 => ?_)
          · refine T_aload_n (am_dec tX12_doubt_0 34 rfl) rfl ?_
            refine T_iload (am_dec tX12_doubt_0 35 rfl) rfl ?_
            refine T_iload (am_dec tX12_doubt_0 36 rfl) rfl ?_
            refine T_callV (as := [aI seed, aI dq]) rfl (am_dec tX12_doubt_0 37 rfl) lkX12_439 (md_obj hl) rfl rfl (Nat.le_of_ble_eq_true rfl) (by omega) (mk_goesInDoubt' (d := d - 1) hl seed dq hV hWd hS9 hLp hDu hD1 (by omega)) (fun _ => ?_)
            refine T_nmH (W := fun x9 => mdW w b c x9) (v := (k_goesD c q54 seed dq)) (fun q67 hq67 => ?_)
            refine T_aload_n (am_dec tX12_doubt_0 38 rfl) rfl ?_
            refine T_getfield 11 37 (am_dec tX12_doubt_0 39 rfl) flX12_91_11 (md_obj hl) rfl ?_
            refine T_iload_n (am_dec tX12_doubt_1 0 rfl) rfl ?_
            refine T_iconst 1 (am_dec tX12_doubt_1 1 rfl) rfl ⟨by decide, by decide⟩ ?_
            refine T_iadd (t + 1) (am_dec tX12_doubt_1 2 rfl) rfl ⟨by omega, by omega⟩ ?_
            refine T_aaloadR (r := b + (159 + (t + 1).toNat)) (am_dec tX12_doubt_1 3 rfl) (by decide) (mh_fog hl) (by omega) (by omega) (if_pos (by omega)) ?_
            refine T_iload_n (am_dec tX12_doubt_1 4 rfl) rfl ?_
            refine T_iload_n (am_dec tX12_doubt_1 5 rfl) rfl ?_
            refine T_callS (as := [aI x, aI y]) rfl (am_dec tX12_doubt_1 6 rfl) lkX12_317 rfl (Nat.le_of_ble_eq_true rfl) (by omega) (mk_cell' (d := d - 1) x y (by omega)) (fun _ => ?_)
            refine T_ialoadE (x := q67 (159 + (t + 1).toNat) ((x + (9 * y)).toNat)) (am_dec tX12_doubt_1 7 rfl) (mr_fog hl (i := (t + 1)) (by omega) (by omega)) (by omega) (by omega) rfl ?_
            exact T_ireturn (am_dec tX12_doubt_1 8 rfl) rfl (am_tr (fun (x9 : Int × am_F) => Q (.inl (some (aI (x9.1)))) (mdW w b c x9.2)) (y := ((q67 (159 + (t + 1).toNat) ((x + (9 * y)).toNat)), q67)) (show (k_doubt c q x y t seed dq) = ((q67 (159 + (t + 1).toNat) ((x + (9 * y)).toNat)), q67) from (by have s9 := hz9.symm; subst s9; have s9 := ht12.symm; subst s9; have s9 := hq22.symm; subst s9; have s9 := hz22.symm; subst s9; have s9 := hz30.symm; subst s9; have s9 := ht33.symm; subst s9; have s9 := hq54.symm; subst s9; have s9 := hz54.symm; subst s9; have s9 := hq67.symm; subst s9; exact ((if_pos h25).trans (if_pos h57)))) hQ)
          · refine T_iconst 0 (am_dec tX12_doubt_0 32 rfl) rfl ⟨by decide, by decide⟩ ?_
            exact T_ireturn (am_dec tX12_doubt_0 33 rfl) rfl (am_tr (fun (x9 : Int × am_F) => Q (.inl (some (aI (x9.1)))) (mdW w b c x9.2)) (y := (0, q54)) (show (k_doubt c q x y t seed dq) = (0, q54) from (by have s9 := hz9.symm; subst s9; have s9 := ht12.symm; subst s9; have s9 := hq22.symm; subst s9; have s9 := hz22.symm; subst s9; have s9 := hz30.symm; subst s9; have s9 := ht33.symm; subst s9; have s9 := hq54.symm; subst s9; have s9 := hz54.symm; subst s9; exact ((if_pos h25).trans (if_neg h57)))) hQ)
        refine T_if_eq 47 (am_dec tX12_doubt_0 19 rfl) rfl (fun h33 => ?_) (fun h33 => ?_)
        · refine T_iconst 1 (am_dec tX12_doubt_0 25 rfl) rfl ⟨by decide, by decide⟩ ?_
          refine T_goto 52 (am_dec tX12_doubt_0 26 rfl) rfl ?_
          exact K33 _ (if_pos h33).symm
        · refine T_iload (am_dec tX12_doubt_0 20 rfl) rfl ?_
          refine T_iconst 0 (am_dec tX12_doubt_0 21 rfl) rfl ⟨by decide, by decide⟩ ?_
          refine T_bipush 8 (am_dec tX12_doubt_0 22 rfl) rfl ⟨by decide, by decide⟩ ?_
          refine T_callS (as := [aI dq, aI 0, aI 8]) rfl (am_dec tX12_doubt_0 23 rfl) lkX12_194 rfl (Nat.le_of_ble_eq_true rfl) (by omega) (mk_in (d := d - 1)  dq 0 8   ) (fun _ => ?_)
          refine T_nm (fun z41 hz41 => ?_)
          have hb41 := k_in_b dq 0 8
          rw [← hz41] at hb41
          have hs41 := k_in_s dq 0 8
          rw [← hz41] at hs41
          have K44 : ∀ (t44 : Int), t44 = (if z41 = 0 then 1 else 0) →  am_T S zX12_doubt d u Q 52 [some (aR b), some (aI x), some (aI y), some (aI t), some (aI seed), some (aI dq)] [aI t44, aR b] (mdW w b c q22) := by
            intro t44 ht44
            have hbt44 : t44 = 0 ∨ t44 = 1 := by
              rw [ht44]
              try dsimp only
              repeat' split
              all_goals first | exact Or.inl rfl | exact Or.inr rfl | apply k_in_b | apply k_isDigit_b | apply k_isSmall_b | apply k_bad_b | apply k_isIn_b | apply k_isStep_b | apply k_isFirst_b | apply k_isLine_b | apply k_seesBy_b | apply k_isWalker_b | apply k_seesOne_b | apply k_badTwo_b | apply k_sees_b | apply k_isCode_b | apply k_isLot_b | apply k_isShip_b | apply k_areRight_b | apply k_right_b | omega
            exact K33 _ (by have s9 := hz41.symm; subst s9; have s9 := ht44.symm; subst s9; exact (if_neg h33).symm)
          refine T_if_ne 51 (am_dec tX12_doubt_0 24 rfl) rfl (fun h44 => ?_) (fun h44 => ?_)
          · refine T_iconst 0 (am_dec tX12_doubt_0 27 rfl) rfl ⟨by decide, by decide⟩ ?_
            exact K44 _ (if_neg h44).symm
          · refine T_iconst 1 (am_dec tX12_doubt_0 25 rfl) rfl ⟨by decide, by decide⟩ ?_
            refine T_goto 52 (am_dec tX12_doubt_0 26 rfl) rfl ?_
            exact K44 _ (if_pos h44).symm
    refine T_if_ne 19 (am_dec tX12_doubt_0 8 rfl) rfl (fun h12 => ?_) (fun h12 => ?_)
    · refine T_iconst 0 (am_dec tX12_doubt_0 11 rfl) rfl ⟨by decide, by decide⟩ ?_
      exact K12 _ (if_neg h12).symm
    · refine T_iconst 1 (am_dec tX12_doubt_0 9 rfl) rfl ⟨by decide, by decide⟩ ?_
      refine T_goto 20 (am_dec tX12_doubt_0 10 rfl) rfl ?_
      exact K12 _ (if_pos h12).symm
  exact key _ ⟨rfl, rfl⟩
def p_k_calm_34 (q : am_F) : Int → Option Int := fun k => (if q 267 k.toNat = 0 then some k else none)
theorem L_k_calm_34 {S : am_S} {d u : Nat} {Q : AO → AH → Prop} {w : AH} {b : Nat} (hl : b + 735 ≤ w.length) (c : am_F) (q : am_F) (t : Int) (hV : MdV c) (hWd : MdWd c) (hS9 : MdS c) (hLp : MdLp c) (hDu : MdDu c) (ht : 0 ≤ t ∧ t < 40) (hd : 5 ≤ d) (B9 : Int) (hB : B9 = 40) : ∀ (n : Nat) (k : Int), k + n = B9 → t ≤ k → (am_find (p_k_calm_34 q) k n = none → am_T S zX12_calm d u Q 57 [none, none, none] [] (mdW w b c q)) → (∀ r9, am_find (p_k_calm_34 q) k n = some r9 → Q (.inl (some (aI r9))) (mdW w b c q)) → am_T S zX12_calm d u Q 34 [some (aR b), none, some (aI k)] [] (mdW w b c q) := by
  intro n
  induction n with
  | zero =>
    intro k hi9 h0i k9 kr9
    have e9 : k = B9 := by omega
    subst e9
    obtain ⟨vl0, vu0⟩ := MdV_0 hV
    obtain ⟨vl1, vu1⟩ := MdV_1 hV
    obtain ⟨vl3, vu3⟩ := MdV_3 hV
    refine T_iload_n (am_dec tX12_calm_0 20 rfl) rfl ?_
    refine T_bipush 40 (am_dec tX12_calm_0 21 rfl) rfl ⟨by decide, by decide⟩ ?_
    refine T_icmp_ge 57 (am_dec tX12_calm_0 22 rfl) rfl (fun h37 => ?_) (fun h37 => by exfalso; omega)
    refine T_weak (ls' := [none, none, none]) (am_sub_n (am_sub_n (am_sub_n am_sub_nil))) ?_
    exact k9 rfl
  | succ n ih =>
    intro k hi9 h0i k9 kr9
    obtain ⟨vl0, vu0⟩ := MdV_0 hV
    obtain ⟨vl1, vu1⟩ := MdV_1 hV
    obtain ⟨vl3, vu3⟩ := MdV_3 hV
    refine T_iload_n (am_dec tX12_calm_0 20 rfl) rfl ?_
    refine T_bipush 40 (am_dec tX12_calm_0 21 rfl) rfl ⟨by decide, by decide⟩ ?_
    refine T_icmp_ge 57 (am_dec tX12_calm_0 22 rfl) rfl (fun h37 => by exfalso; omega) (fun h37 => ?_)
    refine T_aload_n (am_dec tX12_calm_0 23 rfl) rfl ?_
    refine T_getfield 11 44 (am_dec tX12_calm_0 24 rfl) flX12_112_11 (md_obj hl) rfl ?_
    refine T_iload_n (am_dec tX12_calm_0 25 rfl) rfl ?_
    refine T_ialoadE (x := q 267 k.toNat) (am_dec tX12_calm_0 26 rfl) (md_moved hl) (by omega) (by omega) rfl ?_
    refine T_if_ne 51 (am_dec tX12_calm_0 27 rfl) rfl (fun h46 => ?_) (fun h46 => ?_)
    · refine T_iinc (ls' := [some (aR b), none, some (aI (k + 1))]) (k + 1) (am_dec tX12_calm_0 30 rfl) rfl rfl ⟨by omega, by omega⟩ (by decide) rfl ?_
      refine T_goto 34 (am_dec tX12_calm_0 31 rfl) rfl ?_
      have e9 : (p_k_calm_34 q) k = none := (if_neg h46)
      rw [am_find_n e9] at k9 kr9
      exact ih (k + 1) (by omega) (by omega) k9 kr9
    · refine T_iload_n (am_dec tX12_calm_0 28 rfl) rfl ?_
      exact T_ireturn (am_dec tX12_calm_0 29 rfl) rfl (kr9 _ (am_find_y (show (p_k_calm_34 q) k = some k from (if_pos h46))))
def k_calm (c : am_F) (q : am_F) (t : Int) : Int × am_F := (let z7 : Int := (k_isStep t); (let t10 : Int := (if z7 = 0 then 1 else 0); (let q20 : am_F := (k_refuse (am_put q 0 0 0) t10 1 2); (let z20 : Int := (if t10 = 0 then 0 else 1); (if z20 = 0 then (let q29 : am_F := k_goes c q20; (Option.elim (am_find (p_k_calm_34 q29) t (40 - t).toNat) ((-1), q29) (fun r9 => (r9, q29)))) else (0, q20))))))
theorem mk_calm {S : am_S} {d u : Nat} {w : AH} {b : Nat} (hl : b + 735 ≤ w.length) {c : am_F} {q : am_F} (t : Int) (hV : MdV c) (hWd : MdWd c) (hS9 : MdS c) (hLp : MdLp c) (hDu : MdDu c) (hd : 5 ≤ d) : am_Out S zX12_calm d u [aR b, aI t] (mdW w b c q) (.inl (some (aI ((k_calm c q t).1)))) (mdW w b c ((k_calm c q t).2)) := by
  have key : ∀ Q : AO → AH → Prop, Q (.inl (some (aI ((k_calm c q t).1)))) (mdW w b c ((k_calm c q t).2)) → am_M S zX12_calm d u [aR b, aI t] (mdW w b c q) Q := by
    intro Q hQ
    refine am_body rfl (by decide +kernel) rfl (am_cats_cons rfl ( am_cats_cons rfl (am_cats_nil))) (Nat.le_of_ble_eq_true rfl) (?_ : am_T _ _ _ _ _ 0 [some (aR b), some (aI t), none] [] (mdW w b c q))
    obtain ⟨vl0, vu0⟩ := MdV_0 hV
    obtain ⟨vl1, vu1⟩ := MdV_1 hV
    obtain ⟨vl3, vu3⟩ := MdV_3 hV
    refine T_aload_n (am_dec tX12_calm_0 0 rfl) rfl ?_
    refine T_iconst 0 (am_dec tX12_calm_0 1 rfl) rfl ⟨by decide, by decide⟩ ?_
    refine T_putfield (fs' := mdO b (c 0) (am_up (q 0) 0 0)) 11 0 (am_dec tX12_calm_0 2 rfl) flX12_160_11 rfl rfl rfl trivial (md_obj hl) (Nat.le_of_ble_eq_true rfl) rfl ?_
    refine am_wE (w2 := mdW w b c (am_put q 0 0 0)) (md_fq) ?_
    refine T_aload_n (am_dec tX12_calm_0 3 rfl) rfl ?_
    refine T_iload_n (am_dec tX12_calm_0 4 rfl) rfl ?_
    refine T_callS (as := [aI t]) rfl (am_dec tX12_calm_0 5 rfl) lkX12_351 rfl (Nat.le_of_ble_eq_true rfl) (by omega) (mk_isStep (d := d - 1)  t   (by omega)) (fun _ => ?_)
    refine T_nm (fun z7 hz7 => ?_)
    have hb7 := k_isStep_b t
    rw [← hz7] at hb7
    have hs7 := k_isStep_s t
    rw [← hz7] at hs7
    have K10 : ∀ (t10 : Int), t10 = (if z7 = 0 then 1 else 0) →  am_T S zX12_calm d u Q 18 [some (aR b), some (aI t), none] [aI t10, aR b] (mdW w b c (am_put q 0 0 0)) := by
      intro t10 ht10
      have hbt10 : t10 = 0 ∨ t10 = 1 := by
        rw [ht10]
        try dsimp only
        repeat' split
        all_goals first | exact Or.inl rfl | exact Or.inr rfl | apply k_in_b | apply k_isDigit_b | apply k_isSmall_b | apply k_bad_b | apply k_isIn_b | apply k_isStep_b | apply k_isFirst_b | apply k_isLine_b | apply k_seesBy_b | apply k_isWalker_b | apply k_seesOne_b | apply k_badTwo_b | apply k_sees_b | apply k_isCode_b | apply k_isLot_b | apply k_isShip_b | apply k_areRight_b | apply k_right_b | omega
      refine T_iconst 1 (am_dec tX12_calm_0 10 rfl) rfl ⟨by decide, by decide⟩ ?_
      refine T_iconst 2 (am_dec tX12_calm_0 11 rfl) rfl ⟨by decide, by decide⟩ ?_
      refine T_callV (as := [aI t10, aI 1, aI 2]) rfl (am_dec tX12_calm_0 12 rfl) lkX12_275 (md_obj hl) rfl rfl (Nat.le_of_ble_eq_true rfl) (by omega) (mk_bad0 (d := d - 1) hl t10 1 2 (by omega) am_put_s (by omega)) (fun _ => ?_)
      refine T_nmH (W := fun x9 => mdW w b c x9) (v := (k_refuse (am_put q 0 0 0) t10 1 2)) (fun q20 hq20 => ?_)
      refine T_nm (fun z20 hz20 => ?_)
      have hq020 : t10 = 0 → q20 0 0 = 0 := fun h9 => by rw [hq20]; exact k_refuse_0 am_put_s h9
      refine T_if_eq 28 (am_dec tX12_calm_0 13 rfl) rfl (fun h23 => ?_) (fun h23 => ?_)
      · refine T_aload_n (am_dec tX12_calm_0 16 rfl) rfl ?_
        refine T_callV (as := []) rfl (am_dec tX12_calm_0 17 rfl) lkX12_345 (md_obj hl) rfl rfl (Nat.le_of_ble_eq_true rfl) (by omega) (mk_goes (d := d - 1) hl   hV hWd hS9 hLp hDu (by omega)) (fun _ => ?_)
        refine T_nmH (W := fun x9 => mdW w b c x9) (v := k_goes c q20) (fun q29 hq29 => ?_)
        refine T_iload_n (am_dec tX12_calm_0 18 rfl) rfl ?_
        refine T_istore_n (ls' := [some (aR b), some (aI t), some (aI t)]) (am_dec tX12_calm_0 19 rfl) (by decide) rfl ?_
        refine T_weak (ls' := [some (aR b), none, some (aI t)]) (am_sub_s (am_sub_n (am_sub_s am_sub_nil))) ?_
        refine L_k_calm_34 hl c q29 t hV hWd hS9 hLp hDu (by omega) (by omega) _ rfl (40 - t).toNat t  (by omega) (by omega) (fun hn34 => ?_) (fun r34 hr34 => (am_tr (fun (x9 : Int × am_F) => Q (.inl (some (aI (x9.1)))) (mdW w b c x9.2)) (y := (r34, q29)) (show (k_calm c q t) = (r34, q29) from (by have s9 := hz7.symm; subst s9; have s9 := ht10.symm; subst s9; have s9 := hq20.symm; subst s9; have s9 := hz20.symm; subst s9; have s9 := hq29.symm; subst s9; exact ((if_pos h23).trans (am_el_s hr34)))) hQ))
        refine T_iconst (-1) (am_dec tX12_calm_0 32 rfl) rfl ⟨by decide, by decide⟩ ?_
        exact T_ireturn (am_dec tX12_calm_0 33 rfl) rfl (am_tr (fun (x9 : Int × am_F) => Q (.inl (some (aI (x9.1)))) (mdW w b c x9.2)) (y := ((-1), q29)) (show (k_calm c q t) = ((-1), q29) from (by have s9 := hz7.symm; subst s9; have s9 := ht10.symm; subst s9; have s9 := hq20.symm; subst s9; have s9 := hz20.symm; subst s9; have s9 := hq29.symm; subst s9; exact ((if_pos h23).trans (am_el_n hn34)))) hQ)
      · refine T_iconst 0 (am_dec tX12_calm_0 14 rfl) rfl ⟨by decide, by decide⟩ ?_
        exact T_ireturn (am_dec tX12_calm_0 15 rfl) rfl (am_tr (fun (x9 : Int × am_F) => Q (.inl (some (aI (x9.1)))) (mdW w b c x9.2)) (y := (0, q20)) (show (k_calm c q t) = (0, q20) from (by have s9 := hz7.symm; subst s9; have s9 := ht10.symm; subst s9; have s9 := hq20.symm; subst s9; have s9 := hz20.symm; subst s9; exact (if_neg h23))) hQ)
    refine T_if_ne 17 (am_dec tX12_calm_0 6 rfl) rfl (fun h10 => ?_) (fun h10 => ?_)
    · refine T_iconst 0 (am_dec tX12_calm_0 9 rfl) rfl ⟨by decide, by decide⟩ ?_
      exact K10 _ (if_neg h10).symm
    · refine T_iconst 1 (am_dec tX12_calm_0 7 rfl) rfl ⟨by decide, by decide⟩ ?_
      refine T_goto 18 (am_dec tX12_calm_0 8 rfl) rfl ?_
      exact K10 _ (if_pos h10).symm
  exact key _ ⟨rfl, rfl⟩
def g_k_thick_49 (q : am_F) (t : Int) (y : Int) (x : Int) (bst : Int) : Int := (if q (159 + (t + 1).toNat) ((x + (9 * y)).toNat) ≤ q (159 + (t + 1).toNat) bst.toNat then bst else (x + (9 * y)))
theorem L_k_thick_49 {S : am_S} {d u : Nat} {Q : AO → AH → Prop} {w : AH} {b : Nat} (hl : b + 735 ≤ w.length) (c : am_F) (q : am_F) (t : Int) (y : Int) (hV : MdV c) (hWd : MdWd c) (hS9 : MdS c) (hLp : MdLp c) (hDu : MdDu c) (ht : -1 ≤ t ∧ t < 40) (ho36 : 0 ≤ y ∧ y < c 4 1) (hd : 5 ≤ d) (B9 : Int) (hB : B9 = c 4 0) : ∀ (n : Nat) (x : Int) (bst : Int), x + n = B9 → 0 ≤ x → 0 ≤ bst ∧ bst ≤ 80 → (∀ (bst' : Int), bst' = am_fold (g_k_thick_49 q t y) x n bst → 0 ≤ bst' ∧ bst' ≤ 80 → am_T S zX12_thick d u Q 101 [some (aR b), some (aI t), some (aI bst'), some (aI y), none] [] (mdW w b c q)) → am_T S zX12_thick d u Q 49 [some (aR b), some (aI t), some (aI bst), some (aI y), some (aI x)] [] (mdW w b c q) := by
  intro n
  induction n with
  | zero =>
    intro x bst hi9 h0i hinv k9
    have e9 : x = B9 := by omega
    subst e9
    obtain ⟨vl0, vu0⟩ := MdV_0 hV
    obtain ⟨vl1, vu1⟩ := MdV_1 hV
    obtain ⟨vl3, vu3⟩ := MdV_3 hV
    refine T_iload (am_dec tX12_thick_0 30 rfl) rfl ?_
    refine T_aload_n (am_dec tX12_thick_0 31 rfl) rfl ?_
    refine T_getfield 11 11 (am_dec tX12_thick_0 32 rfl) flX12_23_11 (md_obj hl) rfl ?_
    refine T_iconst 0 (am_dec tX12_thick_0 33 rfl) rfl ⟨by decide, by decide⟩ ?_
    refine T_ialoadE (x := c 4 0) (am_dec tX12_thick_0 34 rfl) (md_told hl) (by omega) (by omega) rfl ?_
    refine T_icmp_ge 101 (am_dec tX12_thick_0 35 rfl) rfl (fun h57 => ?_) (fun h57 => by exfalso; omega)
    refine T_weak (ls' := [some (aR b), some (aI t), some (aI bst), some (aI y), none]) (am_sub_s (am_sub_s (am_sub_s (am_sub_s (am_sub_n am_sub_nil))))) ?_
    exact k9 bst rfl hinv
  | succ n ih =>
    intro x bst hi9 h0i hinv k9
    obtain ⟨vl0, vu0⟩ := MdV_0 hV
    obtain ⟨vl1, vu1⟩ := MdV_1 hV
    obtain ⟨vl3, vu3⟩ := MdV_3 hV
    refine T_iload (am_dec tX12_thick_0 30 rfl) rfl ?_
    refine T_aload_n (am_dec tX12_thick_0 31 rfl) rfl ?_
    refine T_getfield 11 11 (am_dec tX12_thick_0 32 rfl) flX12_23_11 (md_obj hl) rfl ?_
    refine T_iconst 0 (am_dec tX12_thick_0 33 rfl) rfl ⟨by decide, by decide⟩ ?_
    refine T_ialoadE (x := c 4 0) (am_dec tX12_thick_0 34 rfl) (md_told hl) (by omega) (by omega) rfl ?_
    refine T_icmp_ge 101 (am_dec tX12_thick_0 35 rfl) rfl (fun h57 => by exfalso; omega) (fun h57 => ?_)
    refine T_aload_n (am_dec tX12_thick_0 36 rfl) rfl ?_
    refine T_getfield 11 37 (am_dec tX12_thick_0 37 rfl) flX12_91_11 (md_obj hl) rfl ?_
    refine T_iload_n (am_dec tX12_thick_0 38 rfl) rfl ?_
    refine T_iconst 1 (am_dec tX12_thick_0 39 rfl) rfl ⟨by decide, by decide⟩ ?_
    refine T_iadd (t + 1) (am_dec tX12_thick_1 0 rfl) rfl ⟨by omega, by omega⟩ ?_
    refine T_aaloadR (r := b + (159 + (t + 1).toNat)) (am_dec tX12_thick_1 1 rfl) (by decide) (mh_fog hl) (by omega) (by omega) (if_pos (by omega)) ?_
    refine T_iload (am_dec tX12_thick_1 2 rfl) rfl ?_
    refine T_iload_n (am_dec tX12_thick_1 3 rfl) rfl ?_
    refine T_callS (as := [aI x, aI y]) rfl (am_dec tX12_thick_1 4 rfl) lkX12_317 rfl (Nat.le_of_ble_eq_true rfl) (by omega) (mk_cell' (d := d - 1) x y (by omega)) (fun _ => ?_)
    refine T_ialoadE (x := q (159 + (t + 1).toNat) ((x + (9 * y)).toNat)) (am_dec tX12_thick_1 5 rfl) (mr_fog hl (i := (t + 1)) (by omega) (by omega)) (by omega) (by omega) rfl ?_
    refine T_aload_n (am_dec tX12_thick_1 6 rfl) rfl ?_
    refine T_getfield 11 37 (am_dec tX12_thick_1 7 rfl) flX12_91_11 (md_obj hl) rfl ?_
    refine T_iload_n (am_dec tX12_thick_1 8 rfl) rfl ?_
    refine T_iconst 1 (am_dec tX12_thick_1 9 rfl) rfl ⟨by decide, by decide⟩ ?_
    refine T_iadd (t + 1) (am_dec tX12_thick_1 10 rfl) rfl ⟨by omega, by omega⟩ ?_
    refine T_aaloadR (r := b + (159 + (t + 1).toNat)) (am_dec tX12_thick_1 11 rfl) (by decide) (mh_fog hl) (by omega) (by omega) (if_pos (by omega)) ?_
    refine T_iload_n (am_dec tX12_thick_1 12 rfl) rfl ?_
    refine T_ialoadE (x := q (159 + (t + 1).toNat) bst.toNat) (am_dec tX12_thick_1 13 rfl) (mr_fog hl (i := (t + 1)) (by omega) (by omega)) (by omega) (by omega) rfl ?_
    have K85 : ∀ (bst_85 : Int), bst_85 = (if q (159 + (t + 1).toNat) ((x + (9 * y)).toNat) ≤ q (159 + (t + 1).toNat) bst.toNat then bst else (x + (9 * y))) →  am_T S zX12_thick d u Q 95 [some (aR b), some (aI t), some (aI bst_85), some (aI y), some (aI x)] [] (mdW w b c q) := by
      intro bst_85 hbst_85
      refine T_iinc (ls' := [some (aR b), some (aI t), some (aI bst_85), some (aI y), some (aI (x + 1))]) (x + 1) (am_dec tX12_thick_1 19 rfl) rfl rfl ⟨by omega, by omega⟩ (by decide) rfl ?_
      refine T_goto 49 (am_dec tX12_thick_1 20 rfl) rfl ?_
      have e9 : (g_k_thick_49 q t y) x bst = bst_85 := (by have s9 := hbst_85.symm; subst s9; exact rfl)
      simp only [am_fold_s, e9] at k9
      exact ih (x + 1) bst_85 (by omega) (by omega) (by omega) k9
    refine T_icmp_le 95 (am_dec tX12_thick_1 14 rfl) rfl (fun h85 => ?_) (fun h85 => ?_)
    · exact K85 _ (if_pos h85).symm
    · refine T_iload (am_dec tX12_thick_1 15 rfl) rfl ?_
      refine T_iload_n (am_dec tX12_thick_1 16 rfl) rfl ?_
      refine T_callS (as := [aI x, aI y]) rfl (am_dec tX12_thick_1 17 rfl) lkX12_317 rfl (Nat.le_of_ble_eq_true rfl) (by omega) (mk_cell' (d := d - 1) x y (by omega)) (fun _ => ?_)
      refine T_istore_n (ls' := [some (aR b), some (aI t), some (aI (x + (9 * y))), some (aI y), some (aI x)]) (am_dec tX12_thick_1 18 rfl) (by decide) rfl ?_
      exact K85 _ (if_neg h85).symm
def g_k_thick_36 (c : am_F) (q : am_F) (t : Int) (y : Int) (bst : Int) : Int := am_fold (g_k_thick_49 q t y) 0 (c 4 0).toNat bst
theorem L_k_thick_36 {S : am_S} {d u : Nat} {Q : AO → AH → Prop} {w : AH} {b : Nat} (hl : b + 735 ≤ w.length) (c : am_F) (q : am_F) (t : Int) (hV : MdV c) (hWd : MdWd c) (hS9 : MdS c) (hLp : MdLp c) (hDu : MdDu c) (ht : -1 ≤ t ∧ t < 40) (hd : 5 ≤ d) (B9 : Int) (hB : B9 = c 4 1) : ∀ (n : Nat) (y : Int) (bst : Int), y + n = B9 → 0 ≤ y → 0 ≤ bst ∧ bst ≤ 80 → (∀ (bst' : Int), bst' = am_fold (g_k_thick_36 c q t) y n bst → 0 ≤ bst' ∧ bst' ≤ 80 → am_T S zX12_thick d u Q 107 [none, none, some (aI bst'), none, none] [] (mdW w b c q)) → am_T S zX12_thick d u Q 36 [some (aR b), some (aI t), some (aI bst), some (aI y), none] [] (mdW w b c q) := by
  intro n
  induction n with
  | zero =>
    intro y bst hi9 h0i hinv k9
    have e9 : y = B9 := by omega
    subst e9
    obtain ⟨vl0, vu0⟩ := MdV_0 hV
    obtain ⟨vl1, vu1⟩ := MdV_1 hV
    obtain ⟨vl3, vu3⟩ := MdV_3 hV
    refine T_iload_n (am_dec tX12_thick_0 22 rfl) rfl ?_
    refine T_aload_n (am_dec tX12_thick_0 23 rfl) rfl ?_
    refine T_getfield 11 11 (am_dec tX12_thick_0 24 rfl) flX12_23_11 (md_obj hl) rfl ?_
    refine T_iconst 1 (am_dec tX12_thick_0 25 rfl) rfl ⟨by decide, by decide⟩ ?_
    refine T_ialoadE (x := c 4 1) (am_dec tX12_thick_0 26 rfl) (md_told hl) (by omega) (by omega) rfl ?_
    refine T_icmp_ge 107 (am_dec tX12_thick_0 27 rfl) rfl (fun h43 => ?_) (fun h43 => by exfalso; omega)
    refine T_weak (ls' := [none, none, some (aI bst), none, none]) (am_sub_n (am_sub_n (am_sub_s (am_sub_n (am_sub_n am_sub_nil))))) ?_
    exact k9 bst rfl hinv
  | succ n ih =>
    intro y bst hi9 h0i hinv k9
    obtain ⟨vl0, vu0⟩ := MdV_0 hV
    obtain ⟨vl1, vu1⟩ := MdV_1 hV
    obtain ⟨vl3, vu3⟩ := MdV_3 hV
    refine T_iload_n (am_dec tX12_thick_0 22 rfl) rfl ?_
    refine T_aload_n (am_dec tX12_thick_0 23 rfl) rfl ?_
    refine T_getfield 11 11 (am_dec tX12_thick_0 24 rfl) flX12_23_11 (md_obj hl) rfl ?_
    refine T_iconst 1 (am_dec tX12_thick_0 25 rfl) rfl ⟨by decide, by decide⟩ ?_
    refine T_ialoadE (x := c 4 1) (am_dec tX12_thick_0 26 rfl) (md_told hl) (by omega) (by omega) rfl ?_
    refine T_icmp_ge 107 (am_dec tX12_thick_0 27 rfl) rfl (fun h43 => by exfalso; omega) (fun h43 => ?_)
    refine T_iconst 0 (am_dec tX12_thick_0 28 rfl) rfl ⟨by decide, by decide⟩ ?_
    refine T_istore (ls' := [some (aR b), some (aI t), some (aI bst), some (aI y), some (aI 0)]) (am_dec tX12_thick_0 29 rfl) (by decide) rfl ?_
    refine L_k_thick_49 hl c q t y hV hWd hS9 hLp hDu (by omega) (by omega) (by omega) _ rfl (c 4 0).toNat 0 bst (by omega) (by omega) (by omega) (fun bst_49 hbst_49 hv49 => ?_)
    refine T_iinc (ls' := [some (aR b), some (aI t), some (aI bst_49), some (aI (y + 1)), none]) (y + 1) (am_dec tX12_thick_1 21 rfl) rfl rfl ⟨by omega, by omega⟩ (by decide) rfl ?_
    refine T_goto 36 (am_dec tX12_thick_1 22 rfl) rfl ?_
    have e9 : (g_k_thick_36 c q t) y bst = bst_49 := (by have s9 := hbst_49.symm; subst s9; exact rfl)
    simp only [am_fold_s, e9] at k9
    exact ih (y + 1) bst_49 (by omega) (by omega) (by omega) k9
def k_thick (c : am_F) (q : am_F) (t : Int) : Int × am_F := (let z7 : Int := (k_isFirst t); (let t10 : Int := (if z7 = 0 then 1 else 0); (let q20 : am_F := (k_refuse (am_put q 0 0 0) t10 1 2); (let z20 : Int := (if t10 = 0 then 0 else 1); (if z20 = 0 then (let q29 : am_F := k_goes c q20; (let bst_36 : Int := am_fold (g_k_thick_36 c q29 t) 0 (c 4 1).toNat 0; ((k_told10 bst_36), q29))) else (0, q20))))))
theorem mk_thick {S : am_S} {d u : Nat} {w : AH} {b : Nat} (hl : b + 735 ≤ w.length) {c : am_F} {q : am_F} (t : Int) (hV : MdV c) (hWd : MdWd c) (hS9 : MdS c) (hLp : MdLp c) (hDu : MdDu c) (hd : 5 ≤ d) : am_Out S zX12_thick d u [aR b, aI t] (mdW w b c q) (.inl (some (aI ((k_thick c q t).1)))) (mdW w b c ((k_thick c q t).2)) := by
  have key : ∀ Q : AO → AH → Prop, Q (.inl (some (aI ((k_thick c q t).1)))) (mdW w b c ((k_thick c q t).2)) → am_M S zX12_thick d u [aR b, aI t] (mdW w b c q) Q := by
    intro Q hQ
    refine am_body rfl (by decide +kernel) rfl (am_cats_cons rfl ( am_cats_cons rfl (am_cats_nil))) (Nat.le_of_ble_eq_true rfl) (?_ : am_T _ _ _ _ _ 0 [some (aR b), some (aI t), none, none, none] [] (mdW w b c q))
    obtain ⟨vl0, vu0⟩ := MdV_0 hV
    obtain ⟨vl1, vu1⟩ := MdV_1 hV
    obtain ⟨vl3, vu3⟩ := MdV_3 hV
    refine T_aload_n (am_dec tX12_thick_0 0 rfl) rfl ?_
    refine T_iconst 0 (am_dec tX12_thick_0 1 rfl) rfl ⟨by decide, by decide⟩ ?_
    refine T_putfield (fs' := mdO b (c 0) (am_up (q 0) 0 0)) 11 0 (am_dec tX12_thick_0 2 rfl) flX12_160_11 rfl rfl rfl trivial (md_obj hl) (Nat.le_of_ble_eq_true rfl) rfl ?_
    refine am_wE (w2 := mdW w b c (am_put q 0 0 0)) (md_fq) ?_
    refine T_aload_n (am_dec tX12_thick_0 3 rfl) rfl ?_
    refine T_iload_n (am_dec tX12_thick_0 4 rfl) rfl ?_
    refine T_callS (as := [aI t]) rfl (am_dec tX12_thick_0 5 rfl) lkX12_348 rfl (Nat.le_of_ble_eq_true rfl) (by omega) (mk_isFirst (d := d - 1)  t   (by omega)) (fun _ => ?_)
    refine T_nm (fun z7 hz7 => ?_)
    have hb7 := k_isFirst_b t
    rw [← hz7] at hb7
    have hs7 := k_isFirst_s t
    rw [← hz7] at hs7
    have K10 : ∀ (t10 : Int), t10 = (if z7 = 0 then 1 else 0) →  am_T S zX12_thick d u Q 18 [some (aR b), some (aI t), none, none, none] [aI t10, aR b] (mdW w b c (am_put q 0 0 0)) := by
      intro t10 ht10
      have hbt10 : t10 = 0 ∨ t10 = 1 := by
        rw [ht10]
        try dsimp only
        repeat' split
        all_goals first | exact Or.inl rfl | exact Or.inr rfl | apply k_in_b | apply k_isDigit_b | apply k_isSmall_b | apply k_bad_b | apply k_isIn_b | apply k_isStep_b | apply k_isFirst_b | apply k_isLine_b | apply k_seesBy_b | apply k_isWalker_b | apply k_seesOne_b | apply k_badTwo_b | apply k_sees_b | apply k_isCode_b | apply k_isLot_b | apply k_isShip_b | apply k_areRight_b | apply k_right_b | omega
      refine T_iconst 1 (am_dec tX12_thick_0 10 rfl) rfl ⟨by decide, by decide⟩ ?_
      refine T_iconst 2 (am_dec tX12_thick_0 11 rfl) rfl ⟨by decide, by decide⟩ ?_
      refine T_callV (as := [aI t10, aI 1, aI 2]) rfl (am_dec tX12_thick_0 12 rfl) lkX12_275 (md_obj hl) rfl rfl (Nat.le_of_ble_eq_true rfl) (by omega) (mk_bad0 (d := d - 1) hl t10 1 2 (by omega) am_put_s (by omega)) (fun _ => ?_)
      refine T_nmH (W := fun x9 => mdW w b c x9) (v := (k_refuse (am_put q 0 0 0) t10 1 2)) (fun q20 hq20 => ?_)
      refine T_nm (fun z20 hz20 => ?_)
      have hq020 : t10 = 0 → q20 0 0 = 0 := fun h9 => by rw [hq20]; exact k_refuse_0 am_put_s h9
      refine T_if_eq 28 (am_dec tX12_thick_0 13 rfl) rfl (fun h23 => ?_) (fun h23 => ?_)
      · refine T_aload_n (am_dec tX12_thick_0 16 rfl) rfl ?_
        refine T_callV (as := []) rfl (am_dec tX12_thick_0 17 rfl) lkX12_345 (md_obj hl) rfl rfl (Nat.le_of_ble_eq_true rfl) (by omega) (mk_goes (d := d - 1) hl   hV hWd hS9 hLp hDu (by omega)) (fun _ => ?_)
        refine T_nmH (W := fun x9 => mdW w b c x9) (v := k_goes c q20) (fun q29 hq29 => ?_)
        refine T_iconst 0 (am_dec tX12_thick_0 18 rfl) rfl ⟨by decide, by decide⟩ ?_
        refine T_istore_n (ls' := [some (aR b), some (aI t), some (aI 0), none, none]) (am_dec tX12_thick_0 19 rfl) (by decide) rfl ?_
        refine T_iconst 0 (am_dec tX12_thick_0 20 rfl) rfl ⟨by decide, by decide⟩ ?_
        refine T_istore_n (ls' := [some (aR b), some (aI t), some (aI 0), some (aI 0), none]) (am_dec tX12_thick_0 21 rfl) (by decide) rfl ?_
        refine L_k_thick_36 hl c q29 t hV hWd hS9 hLp hDu (by omega) (by omega) _ rfl (c 4 1).toNat 0 0 (by omega) (by omega) (by omega) (fun bst_36 hbst_36 hv36 => ?_)
        refine T_iload_n (am_dec tX12_thick_1 23 rfl) rfl ?_
        refine T_callS (as := [aI bst_36]) rfl (am_dec tX12_thick_1 24 rfl) lkX12_371 rfl (Nat.le_of_ble_eq_true rfl) (by omega) (mk_told10 (d := d - 1)  bst_36  (by omega) ) (fun _ => ?_)
        exact T_ireturn (am_dec tX12_thick_1 25 rfl) rfl (am_tr (fun (x9 : Int × am_F) => Q (.inl (some (aI (x9.1)))) (mdW w b c x9.2)) (y := ((k_told10 bst_36), q29)) (show (k_thick c q t) = ((k_told10 bst_36), q29) from (by have s9 := hz7.symm; subst s9; have s9 := ht10.symm; subst s9; have s9 := hq20.symm; subst s9; have s9 := hz20.symm; subst s9; have s9 := hq29.symm; subst s9; have s9 := hbst_36.symm; subst s9; exact (if_pos h23))) hQ)
      · refine T_iconst 0 (am_dec tX12_thick_0 14 rfl) rfl ⟨by decide, by decide⟩ ?_
        exact T_ireturn (am_dec tX12_thick_0 15 rfl) rfl (am_tr (fun (x9 : Int × am_F) => Q (.inl (some (aI (x9.1)))) (mdW w b c x9.2)) (y := (0, q20)) (show (k_thick c q t) = (0, q20) from (by have s9 := hz7.symm; subst s9; have s9 := ht10.symm; subst s9; have s9 := hq20.symm; subst s9; have s9 := hz20.symm; subst s9; exact (if_neg h23))) hQ)
    refine T_if_ne 17 (am_dec tX12_thick_0 6 rfl) rfl (fun h10 => ?_) (fun h10 => ?_)
    · refine T_iconst 0 (am_dec tX12_thick_0 9 rfl) rfl ⟨by decide, by decide⟩ ?_
      exact K10 _ (if_neg h10).symm
    · refine T_iconst 1 (am_dec tX12_thick_0 7 rfl) rfl ⟨by decide, by decide⟩ ?_
      refine T_goto 18 (am_dec tX12_thick_0 8 rfl) rfl ?_
      exact K10 _ (if_pos h10).symm
  exact key _ ⟨rfl, rfl⟩
