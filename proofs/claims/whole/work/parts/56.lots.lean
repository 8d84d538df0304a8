/-! the model: meetings, witnesses, guards, hidden walks, lots, leaks -/
def p_k_meet_37 (c : am_F) (wk : Int) (uk : Int) : Int → Option Int := fun s => (let n46 : Int := (k_placeOf c wk s); (if n46 = (-1) then none else (let n56 : Int := (k_placeOf c wk s); (let n62 : Int := (k_placeOf c uk s); (if n56 = n62 then some s else none)))))
theorem L_k_meet_37 {S : am_S} {d u : Nat} {Q : AO → AH → Prop} {w : AH} {b : Nat} (hl : b + 735 ≤ w.length) (c : am_F) (q : am_F) (wk : Int) (uk : Int) (hV : MdV c) (hK9 : MdK c) (hPl : MdPl c) (hwk : 0 ≤ wk ∧ wk < c 4 4) (hu : 0 ≤ uk ∧ uk < c 4 4) (hd : 3 ≤ d) (B9 : Int) (hB : B9 = 40) : ∀ (n : Nat) (s : Int), s + n = B9 → 0 ≤ s → (am_find (p_k_meet_37 c wk uk) s n = none → am_T S zX12_meet d u Q 76 [none, none, none, none] [] (mdW w b c q)) → (∀ r9, am_find (p_k_meet_37 c wk uk) s n = some r9 → Q (.inl (some (aI r9))) (mdW w b c q)) → am_T S zX12_meet d u Q 37 [some (aR b), some (aI wk), some (aI uk), some (aI s)] [] (mdW w b c q) := by
  intro n
  induction n with
  | zero =>
    intro s hi9 h0i k9 kr9
    have e9 : s = B9 := by omega
    subst e9
    obtain ⟨vl0, vu0⟩ := MdV_0 hV
    obtain ⟨vl1, vu1⟩ := MdV_1 hV
    obtain ⟨vl4, vu4⟩ := MdV_4 hV
    refine T_iload_n (am_dec tX12_meet_0 23 rfl) rfl ?_
    refine T_bipush 40 (am_dec tX12_meet_0 24 rfl) rfl ⟨by decide, by decide⟩ ?_
    refine T_icmp_ge 76 (am_dec tX12_meet_0 25 rfl) rfl (fun h40 => ?_) (fun h40 => by exfalso; omega)
    refine T_weak (ls' := [none, none, none, none]) (am_sub_n (am_sub_n (am_sub_n (am_sub_n am_sub_nil)))) ?_
    exact k9 rfl
  | succ n ih =>
    intro s hi9 h0i k9 kr9
    obtain ⟨vl0, vu0⟩ := MdV_0 hV
    obtain ⟨vl1, vu1⟩ := MdV_1 hV
    obtain ⟨vl4, vu4⟩ := MdV_4 hV
    refine T_iload_n (am_dec tX12_meet_0 23 rfl) rfl ?_
    refine T_bipush 40 (am_dec tX12_meet_0 24 rfl) rfl ⟨by decide, by decide⟩ ?_
    refine T_icmp_ge 76 (am_dec tX12_meet_0 25 rfl) rfl (fun h40 => by exfalso; omega) (fun h40 => ?_)
    refine T_aload_n (am_dec tX12_meet_0 26 rfl) rfl ?_
    refine T_iload_n (am_dec tX12_meet_0 27 rfl) rfl ?_
    refine T_iload_n (am_dec tX12_meet_0 28 rfl) rfl ?_
    refine T_callV (as := [aI wk, aI s]) rfl (am_dec tX12_meet_0 29 rfl) lkX12_368 (md_obj hl) rfl rfl (Nat.le_of_ble_eq_true rfl) (by omega) (mk_placeOf (d := d - 1) hl wk s  hV hK9 (by omega) (by omega) (by omega)) (fun _ => ?_)
    refine T_nm (fun n46 hn46 => ?_)
    have hs46 := hPl wk s (by omega) (by omega)
    rw [← hn46] at hs46
    refine T_iconst (-1) (am_dec tX12_meet_0 30 rfl) rfl ⟨by decide, by decide⟩ ?_
    refine T_icmp_eq 70 (am_dec tX12_meet_0 31 rfl) rfl (fun h50 => ?_) (fun h50 => ?_)
    · refine T_iinc (ls' := [some (aR b), some (aI wk), some (aI uk), some (aI (s + 1))]) (s + 1) (am_dec tX12_meet_1 3 rfl) rfl rfl ⟨by omega, by omega⟩ (by decide) rfl ?_
      refine T_goto 37 (am_dec tX12_meet_1 4 rfl) rfl ?_
      have e9 : (p_k_meet_37 c wk uk) s = none := (by have s9 := hn46.symm; subst s9; exact (if_pos h50))
      rw [am_find_n e9] at k9 kr9
      exact ih (s + 1) (by omega) (by omega) k9 kr9
    · refine T_aload_n (am_dec tX12_meet_0 32 rfl) rfl ?_
      refine T_iload_n (am_dec tX12_meet_0 33 rfl) rfl ?_
      refine T_iload_n (am_dec tX12_meet_0 34 rfl) rfl ?_
      refine T_callV (as := [aI wk, aI s]) rfl (am_dec tX12_meet_0 35 rfl) lkX12_368 (md_obj hl) rfl rfl (Nat.le_of_ble_eq_true rfl) (by omega) (mk_placeOf (d := d - 1) hl wk s  hV hK9 (by omega) (by omega) (by omega)) (fun _ => ?_)
      refine T_nm (fun n56 hn56 => ?_)
      have hs56 := hPl wk s (by omega) (by omega)
      rw [← hn56] at hs56
      refine T_aload_n (am_dec tX12_meet_0 36 rfl) rfl ?_
      refine T_iload_n (am_dec tX12_meet_0 37 rfl) rfl ?_
      refine T_iload_n (am_dec tX12_meet_0 38 rfl) rfl ?_
      refine T_callV (as := [aI uk, aI s]) rfl (am_dec tX12_meet_0 39 rfl) lkX12_368 (md_obj hl) rfl rfl (Nat.le_of_ble_eq_true rfl) (by omega) (mk_placeOf (d := d - 1) hl uk s  hV hK9 (by omega) (by omega) (by omega)) (fun _ => ?_)
      refine T_nm (fun n62 hn62 => ?_)
      have hs62 := hPl uk s (by omega) (by omega)
      rw [← hn62] at hs62
      refine T_icmp_ne 70 (am_dec tX12_meet_1 0 rfl) rfl (fun h65 => ?_) (fun h65 => ?_)
      · refine T_iinc (ls' := [some (aR b), some (aI wk), some (aI uk), some (aI (s + 1))]) (s + 1) (am_dec tX12_meet_1 3 rfl) rfl rfl ⟨by omega, by omega⟩ (by decide) rfl ?_
        refine T_goto 37 (am_dec tX12_meet_1 4 rfl) rfl ?_
        have e9 : (p_k_meet_37 c wk uk) s = none := (by have s9 := hn46.symm; subst s9; have s9 := hn56.symm; subst s9; have s9 := hn62.symm; subst s9; exact ((if_neg h50).trans (if_neg h65)))
        rw [am_find_n e9] at k9 kr9
        exact ih (s + 1) (by omega) (by omega) k9 kr9
      · refine T_iload_n (am_dec tX12_meet_1 1 rfl) rfl ?_
        exact T_ireturn (am_dec tX12_meet_1 2 rfl) rfl (kr9 _ (am_find_y (show (p_k_meet_37 c wk uk) s = some s from (by have s9 := hn46.symm; subst s9; have s9 := hn56.symm; subst s9; have s9 := hn62.symm; subst s9; exact ((if_neg h50).trans (if_pos h65))))))
def k_meet (c : am_F) (q : am_F) (wk : Int) (uk : Int) : Int × am_F := (let u8 : Int × am_F := k_badTwo c (am_put q 0 0 0) wk uk; (if (u8).1 = 0 then (let t17 : Int := (if wk = uk then 1 else 0); (let q27 : am_F := (k_refuse (u8).2 t17 2 2); (let z27 : Int := (if t17 = 0 then 0 else 1); (if z27 = 0 then (Option.elim (am_find (p_k_meet_37 c wk uk) 0 40) ((-1), q27) (fun r9 => (r9, q27))) else (0, q27))))) else (0, (u8).2)))
theorem mk_meet {S : am_S} {d u : Nat} {w : AH} {b : Nat} (hl : b + 735 ≤ w.length) {c : am_F} {q : am_F} (wk : Int) (uk : Int) (hV : MdV c) (hK9 : MdK c) (hPl : MdPl c) (hd : 3 ≤ d) : am_Out S zX12_meet d u [aR b, aI wk, aI uk] (mdW w b c q) (.inl (some (aI ((k_meet c q wk uk).1)))) (mdW w b c ((k_meet c q wk uk).2)) := by
  have key : ∀ Q : AO → AH → Prop, Q (.inl (some (aI ((k_meet c q wk uk).1)))) (mdW w b c ((k_meet c q wk uk).2)) → am_M S zX12_meet d u [aR b, aI wk, aI uk] (mdW w b c q) Q := by
    intro Q hQ
    refine am_body rfl (by decide +kernel) rfl (am_cats_cons rfl ( am_cats_cons rfl ( am_cats_cons rfl (am_cats_nil)))) (Nat.le_of_ble_eq_true rfl) (?_ : am_T _ _ _ _ _ 0 [some (aR b), some (aI wk), some (aI uk), none] [] (mdW w b c q))
    obtain ⟨vl0, vu0⟩ := MdV_0 hV
    obtain ⟨vl1, vu1⟩ := MdV_1 hV
    obtain ⟨vl4, vu4⟩ := MdV_4 hV
    refine T_aload_n (am_dec tX12_meet_0 0 rfl) rfl ?_
    refine T_iconst 0 (am_dec tX12_meet_0 1 rfl) rfl ⟨by decide, by decide⟩ ?_
    refine T_putfield (fs' := mdO b (c 0) (am_up (q 0) 0 0)) 11 0 (am_dec tX12_meet_0 2 rfl) flX12_160_11 rfl rfl rfl trivial (md_obj hl) (Nat.le_of_ble_eq_true rfl) rfl ?_
    refine am_wE (w2 := mdW w b c (am_put q 0 0 0)) (md_fq) ?_
    refine T_aload_n (am_dec tX12_meet_0 3 rfl) rfl ?_
    refine T_iload_n (am_dec tX12_meet_0 4 rfl) rfl ?_
    refine T_iload_n (am_dec tX12_meet_0 5 rfl) rfl ?_
    refine T_callV (as := [aI wk, aI uk]) rfl (am_dec tX12_meet_0 6 rfl) lkX12_378 (md_obj hl) rfl rfl (Nat.le_of_ble_eq_true rfl) (by omega) (mk_badTwo (d := d - 1) hl wk uk  hV am_put_s (by omega)) (fun _ => ?_)
    obtain ⟨u8, hu8⟩ : ∃ x9, x9 = k_badTwo c (am_put q 0 0 0) wk uk := ⟨_, rfl⟩
    rw [← hu8]
    have hs8 := k_badTwo_s (c := c) (q := (am_put q 0 0 0)) (x := wk) (y := uk) am_put_s
    rw [← hu8] at hs8
    refine T_if_ne 33 (am_dec tX12_meet_0 7 rfl) rfl (fun h11 => ?_) (fun h11 => ?_)
    · refine T_iconst 0 (am_dec tX12_meet_0 19 rfl) rfl ⟨by decide, by decide⟩ ?_
      exact T_ireturn (am_dec tX12_meet_0 20 rfl) rfl (am_tr (fun x9 => Q (.inl (some (aI (x9.1)))) (mdW w b c x9.2)) (y := (0, (u8).2)) (show (k_meet c q wk uk) = (0, (u8).2) from (by have s9 := hu8.symm; subst s9; exact (if_neg h11))) hQ)
    · refine T_aload_n (am_dec tX12_meet_0 8 rfl) rfl ?_
      refine T_iload_n (am_dec tX12_meet_0 9 rfl) rfl ?_
      refine T_iload_n (am_dec tX12_meet_0 10 rfl) rfl ?_
      have K17 : ∀ (t17 : Int), t17 = (if wk = uk then 1 else 0) →  am_T S zX12_meet d u Q 25 [some (aR b), some (aI wk), some (aI uk), none] [aI t17, aR b] (mdW w b c (u8).2) := by
        intro t17 ht17
        have hbt17 : t17 = 0 ∨ t17 = 1 := by
          rw [ht17]
          try dsimp only
          repeat' split
          all_goals first | exact Or.inl rfl | exact Or.inr rfl | apply k_in_b | apply k_isDigit_b | apply k_isSmall_b | apply k_bad_b | apply k_isIn_b | apply k_isStep_b | apply k_isFirst_b | apply k_isLine_b | apply k_seesBy_b | apply k_isWalker_b | apply k_seesOne_b | apply k_badTwo_b | apply k_sees_b | apply k_isCode_b | omega
        refine T_iconst 2 (am_dec tX12_meet_0 15 rfl) rfl ⟨by decide, by decide⟩ ?_
        refine T_iconst 2 (am_dec tX12_meet_0 16 rfl) rfl ⟨by decide, by decide⟩ ?_
        refine T_callV (as := [aI t17, aI 2, aI 2]) rfl (am_dec tX12_meet_0 17 rfl) lkX12_275 (md_obj hl) rfl rfl (Nat.le_of_ble_eq_true rfl) (by omega) (mk_bad0 (d := d - 1) hl t17 2 2 (by omega) (hs8.elim (fun h9 => h9.2.2.2) (fun h9 => by exfalso; omega)) (by omega)) (fun _ => ?_)
        refine T_nmH (W := fun x9 => mdW w b c x9) (v := (k_refuse (u8).2 t17 2 2)) (fun q27 hq27 => ?_)
        refine T_nm (fun z27 hz27 => ?_)
        have hq027 : t17 = 0 → q27 0 0 = 0 := fun h9 => by rw [hq27]; exact k_refuse_0 (hs8.elim (fun h9 => h9.2.2.2) (fun h9 => by exfalso; omega)) h9
        refine T_if_eq 35 (am_dec tX12_meet_0 18 rfl) rfl (fun h30 => ?_) (fun h30 => ?_)
        · refine T_iconst 0 (am_dec tX12_meet_0 21 rfl) rfl ⟨by decide, by decide⟩ ?_
          refine T_istore_n (ls' := [some (aR b), some (aI wk), some (aI uk), some (aI 0)]) (am_dec tX12_meet_0 22 rfl) (by decide) rfl ?_
          refine L_k_meet_37 hl c q27 wk uk hV hK9 hPl (by omega) (by omega) (by omega) _ rfl 40 0  (by omega) (by omega) (fun hn37 => ?_) (fun r37 hr37 => (am_tr (fun x9 => Q (.inl (some (aI (x9.1)))) (mdW w b c x9.2)) (y := (r37, q27)) (show (k_meet c q wk uk) = (r37, q27) from (by have s9 := hu8.symm; subst s9; have s9 := ht17.symm; subst s9; have s9 := hq27.symm; subst s9; have s9 := hz27.symm; subst s9; exact ((if_pos h11).trans ((if_pos h30).trans (am_el_s hr37))))) hQ))
          refine T_iconst (-1) (am_dec tX12_meet_1 5 rfl) rfl ⟨by decide, by decide⟩ ?_
          exact T_ireturn (am_dec tX12_meet_1 6 rfl) rfl (am_tr (fun x9 => Q (.inl (some (aI (x9.1)))) (mdW w b c x9.2)) (y := ((-1), q27)) (show (k_meet c q wk uk) = ((-1), q27) from (by have s9 := hu8.symm; subst s9; have s9 := ht17.symm; subst s9; have s9 := hq27.symm; subst s9; have s9 := hz27.symm; subst s9; exact ((if_pos h11).trans ((if_pos h30).trans (am_el_n hn37))))) hQ)
        · refine T_iconst 0 (am_dec tX12_meet_0 19 rfl) rfl ⟨by decide, by decide⟩ ?_
          exact T_ireturn (am_dec tX12_meet_0 20 rfl) rfl (am_tr (fun x9 => Q (.inl (some (aI (x9.1)))) (mdW w b c x9.2)) (y := (0, q27)) (show (k_meet c q wk uk) = (0, q27) from (by have s9 := hu8.symm; subst s9; have s9 := ht17.symm; subst s9; have s9 := hq27.symm; subst s9; have s9 := hz27.symm; subst s9; exact ((if_pos h11).trans (if_neg h30)))) hQ)
      refine T_icmp_ne 24 (am_dec tX12_meet_0 11 rfl) rfl (fun h17 => ?_) (fun h17 => ?_)
      · refine T_iconst 0 (am_dec tX12_meet_0 14 rfl) rfl ⟨by decide, by decide⟩ ?_
        exact K17 _ (if_neg h17).symm
      · refine T_iconst 1 (am_dec tX12_meet_0 12 rfl) rfl ⟨by decide, by decide⟩ ?_
        refine T_goto 25 (am_dec tX12_meet_0 13 rfl) rfl ?_
        exact K17 _ (if_pos h17).symm
  exact key _ ⟨rfl, rfl⟩
def g_k_witnesses_87 (c : am_F) (q : am_F) (x : Int) (y : Int) (s : Int) (x9 : Int × Int) : Int × Int := let anyb := x9.1; let eachb := x9.2; (let anyb_105 : Int := am_ior anyb (k_couldSee c q x y s); (let eachb_118 : Int := am_iand eachb (k_couldSee c q x y s); (anyb_105, eachb_118)))
theorem L_k_witnesses_87 {S : am_S} {d u : Nat} {Q : AO → AH → Prop} {w : AH} {b : Nat} (hl : b + 735 ≤ w.length) (c : am_F) (q : am_F) (x : Int) (y : Int) (fr : Int) (tt : Int) (al : Int) (hV : MdV c) (hWd : MdWd c) (hS9 : MdS c) (hLp : MdLp c) (hDu : MdDu c) (hK9 : MdK c) (hPl : MdPl c) (lxy : (0 ≤ x ∧ x < c 4 0) ∧ 0 ≤ y ∧ y < c 4 1) (hft : 0 ≤ fr ∧ fr ≤ tt ∧ tt < 40) (hd : 5 ≤ d) (B9 : Int) (hB : B9 = tt + 1) : ∀ (n : Nat) (s : Int) (anyb : Int) (eachb : Int), s + n = B9 → fr ≤ s → (∀ (anyb' : Int) (eachb' : Int), anyb' = (am_fold (g_k_witnesses_87 c q x y) s n (anyb, eachb)).1 → eachb' = (am_fold (g_k_witnesses_87 c q x y) s n (anyb, eachb)).2 → am_T S zX12_witnesses d u Q 126 [none, none, none, none, none, some (aI al), some (aI anyb'), some (aI eachb'), none] [] (mdW w b c q)) → am_T S zX12_witnesses d u Q 87 [some (aR b), some (aI x), some (aI y), none, some (aI tt), some (aI al), some (aI anyb), some (aI eachb), some (aI s)] [] (mdW w b c q) := by
  intro n
  induction n with
  | zero =>
    intro s anyb eachb hi9 h0i k9
    have e9 : s = B9 := by omega
    subst e9
    obtain ⟨vl0, vu0⟩ := MdV_0 hV
    obtain ⟨vl1, vu1⟩ := MdV_1 hV
    obtain ⟨vl4, vu4⟩ := MdV_4 hV
    refine T_iload (am_dec tX12_witnesses_1 10 rfl) rfl ?_
    refine T_iload (am_dec tX12_witnesses_1 11 rfl) rfl ?_
    refine T_icmp_gt 126 (am_dec tX12_witnesses_1 12 rfl) rfl (fun h91 => ?_) (fun h91 => by exfalso; omega)
    refine T_weak (ls' := [none, none, none, none, none, some (aI al), some (aI anyb), some (aI eachb), none]) (am_sub_n (am_sub_n (am_sub_n (am_sub_n (am_sub_n (am_sub_s (am_sub_s (am_sub_s (am_sub_n am_sub_nil))))))))) ?_
    exact k9 anyb eachb rfl rfl
  | succ n ih =>
    intro s anyb eachb hi9 h0i k9
    obtain ⟨vl0, vu0⟩ := MdV_0 hV
    obtain ⟨vl1, vu1⟩ := MdV_1 hV
    obtain ⟨vl4, vu4⟩ := MdV_4 hV
    refine T_iload (am_dec tX12_witnesses_1 10 rfl) rfl ?_
    refine T_iload (am_dec tX12_witnesses_1 11 rfl) rfl ?_
    refine T_icmp_gt 126 (am_dec tX12_witnesses_1 12 rfl) rfl (fun h91 => by exfalso; omega) (fun h91 => ?_)
    refine T_iload (am_dec tX12_witnesses_1 13 rfl) rfl ?_
    refine T_aload_n (am_dec tX12_witnesses_1 14 rfl) rfl ?_
    refine T_iload_n (am_dec tX12_witnesses_1 15 rfl) rfl ?_
    refine T_iload_n (am_dec tX12_witnesses_1 16 rfl) rfl ?_
    refine T_iload (am_dec tX12_witnesses_1 17 rfl) rfl ?_
    refine T_callV (as := [aI x, aI y, aI s]) rfl (am_dec tX12_witnesses_1 18 rfl) lkX12_387 (md_obj hl) rfl rfl (Nat.le_of_ble_eq_true rfl) (by omega) (mk_couldSee (d := d - 1) hl x y s  hV hK9 hPl (by omega) (by omega) (by omega)) (fun _ => ?_)
    refine T_ior (am_ior anyb (k_couldSee c q x y s)) (am_dec tX12_witnesses_1 19 rfl) (am_w32e _).symm (am_w32r _) ?_
    refine T_nm (fun anyb_105 hanyb_105 => ?_)
    refine T_istore (ls' := [some (aR b), some (aI x), some (aI y), none, some (aI tt), some (aI al), some (aI anyb_105), some (aI eachb), some (aI s)]) (am_dec tX12_witnesses_1 20 rfl) (by decide) rfl ?_
    refine T_iload (am_dec tX12_witnesses_1 21 rfl) rfl ?_
    refine T_aload_n (am_dec tX12_witnesses_1 22 rfl) rfl ?_
    refine T_iload_n (am_dec tX12_witnesses_1 23 rfl) rfl ?_
    refine T_iload_n (am_dec tX12_witnesses_1 24 rfl) rfl ?_
    refine T_iload (am_dec tX12_witnesses_1 25 rfl) rfl ?_
    refine T_callV (as := [aI x, aI y, aI s]) rfl (am_dec tX12_witnesses_1 26 rfl) lkX12_387 (md_obj hl) rfl rfl (Nat.le_of_ble_eq_true rfl) (by omega) (mk_couldSee (d := d - 1) hl x y s  hV hK9 hPl (by omega) (by omega) (by omega)) (fun _ => ?_)
    refine T_iand (am_iand eachb (k_couldSee c q x y s)) (am_dec tX12_witnesses_1 27 rfl) (am_w32e _).symm (am_w32r _) ?_
    refine T_nm (fun eachb_118 heachb_118 => ?_)
    refine T_istore (ls' := [some (aR b), some (aI x), some (aI y), none, some (aI tt), some (aI al), some (aI anyb_105), some (aI eachb_118), some (aI s)]) (am_dec tX12_witnesses_1 28 rfl) (by decide) rfl ?_
    refine T_iinc (ls' := [some (aR b), some (aI x), some (aI y), none, some (aI tt), some (aI al), some (aI anyb_105), some (aI eachb_118), some (aI (s + 1))]) (s + 1) (am_dec tX12_witnesses_1 29 rfl) rfl rfl ⟨by omega, by omega⟩ (by decide) rfl ?_
    refine T_goto 87 (am_dec tX12_witnesses_1 30 rfl) rfl ?_
    have e9 : (g_k_witnesses_87 c q x y) s (anyb, eachb) = (anyb_105, eachb_118) := (by have s9 := hanyb_105.symm; subst s9; have s9 := heachb_118.symm; subst s9; exact rfl)
    simp only [am_fold_s, e9] at k9
    exact ih (s + 1) anyb_105 eachb_118 (by omega) (by omega) k9
def k_witnesses (c : am_F) (q : am_F) (x : Int) (y : Int) (fr : Int) (tt : Int) (al : Int) : Int × am_F := (let z9 : Int := (k_isIn c x y); (let t12 : Int := (if z9 = 0 then 1 else 0); (let q22 : am_F := (k_refuse (am_put q 0 0 0) t12 1 0); (let z22 : Int := (if t12 = 0 then 0 else 1); (if z22 = 0 then (let z30 : Int := (k_isStep fr); (let t33 : Int := (if z30 = 0 then 1 else (let z38 : Int := (k_isStep tt); (if z38 = 0 then 1 else (if fr ≤ tt then 0 else 1)))); (let q57 : am_F := (k_refuse q22 t33 2 2); (let z57 : Int := (if t33 = 0 then 0 else 1); (if z57 = 0 then (let q66 : am_F := k_goes c q57; (let eachb_82 : Int := (am_ishl 1 (c 4 4)) - 1; (let anyb_87 : Int := (am_fold (g_k_witnesses_87 c q66 x y) fr (tt + 1 - fr).toNat (0, eachb_82)).1; (let eachb_87 : Int := (am_fold (g_k_witnesses_87 c q66 x y) fr (tt + 1 - fr).toNat (0, eachb_82)).2; (let t128 : Int := (if al = 0 then anyb_87 else eachb_87); (t128, q66)))))) else (0, q57)))))) else (0, q22))))))
theorem mk_witnesses {S : am_S} {d u : Nat} {w : AH} {b : Nat} (hl : b + 735 ≤ w.length) {c : am_F} {q : am_F} (x : Int) (y : Int) (fr : Int) (tt : Int) (al : Int) (hV : MdV c) (hWd : MdWd c) (hS9 : MdS c) (hLp : MdLp c) (hDu : MdDu c) (hK9 : MdK c) (hPl : MdPl c) (hd : 5 ≤ d) : am_Out S zX12_witnesses d u [aR b, aI x, aI y, aI fr, aI tt, aI al] (mdW w b c q) (.inl (some (aI ((k_witnesses c q x y fr tt al).1)))) (mdW w b c ((k_witnesses c q x y fr tt al).2)) := by
  have key : ∀ Q : AO → AH → Prop, Q (.inl (some (aI ((k_witnesses c q x y fr tt al).1)))) (mdW w b c ((k_witnesses c q x y fr tt al).2)) → am_M S zX12_witnesses d u [aR b, aI x, aI y, aI fr, aI tt, aI al] (mdW w b c q) Q := by
    intro Q hQ
    refine am_body rfl (by decide +kernel) rfl (am_cats_cons rfl ( am_cats_cons rfl ( am_cats_cons rfl ( am_cats_cons rfl ( am_cats_cons rfl ( am_cats_cons rfl (am_cats_nil))))))) (Nat.le_of_ble_eq_true rfl) (?_ : am_T _ _ _ _ _ 0 [some (aR b), some (aI x), some (aI y), some (aI fr), some (aI tt), some (aI al), none, none, none] [] (mdW w b c q))
    obtain ⟨vl0, vu0⟩ := MdV_0 hV
    obtain ⟨vl1, vu1⟩ := MdV_1 hV
    obtain ⟨vl4, vu4⟩ := MdV_4 hV
    refine T_aload_n (am_dec tX12_witnesses_0 0 rfl) rfl ?_
    refine T_iconst 0 (am_dec tX12_witnesses_0 1 rfl) rfl ⟨by decide, by decide⟩ ?_
    refine T_putfield (fs' := mdO b (c 0) (am_up (q 0) 0 0)) 11 0 (am_dec tX12_witnesses_0 2 rfl) flX12_160_11 rfl rfl rfl trivial (md_obj hl) (Nat.le_of_ble_eq_true rfl) rfl ?_
    refine am_wE (w2 := mdW w b c (am_put q 0 0 0)) (md_fq) ?_
    refine T_aload_n (am_dec tX12_witnesses_0 3 rfl) rfl ?_
    refine T_aload_n (am_dec tX12_witnesses_0 4 rfl) rfl ?_
    refine T_iload_n (am_dec tX12_witnesses_0 5 rfl) rfl ?_
    refine T_iload_n (am_dec tX12_witnesses_0 6 rfl) rfl ?_
    refine T_callV (as := [aI x, aI y]) rfl (am_dec tX12_witnesses_0 7 rfl) lkX12_320 (md_obj hl) rfl rfl (Nat.le_of_ble_eq_true rfl) (by omega) (mk_isIn (d := d - 1) hl x y  hV (by omega)) (fun _ => ?_)
    refine T_nm (fun z9 hz9 => ?_)
    have hb9 := k_isIn_b c x y
    rw [← hz9] at hb9
    have hs9 := k_isIn_s c x y
    rw [← hz9] at hs9
    have K12 : ∀ (t12 : Int), t12 = (if z9 = 0 then 1 else 0) →  am_T S zX12_witnesses d u Q 20 [some (aR b), some (aI x), some (aI y), some (aI fr), some (aI tt), some (aI al), none, none, none] [aI t12, aR b] (mdW w b c (am_put q 0 0 0)) := by
      intro t12 ht12
      have hbt12 : t12 = 0 ∨ t12 = 1 := by
        rw [ht12]
        try dsimp only
        repeat' split
        all_goals first | exact Or.inl rfl | exact Or.inr rfl | apply k_in_b | apply k_isDigit_b | apply k_isSmall_b | apply k_bad_b | apply k_isIn_b | apply k_isStep_b | apply k_isFirst_b | apply k_isLine_b | apply k_seesBy_b | apply k_isWalker_b | apply k_seesOne_b | apply k_badTwo_b | apply k_sees_b | apply k_isCode_b | omega
      refine T_iconst 1 (am_dec tX12_witnesses_0 12 rfl) rfl ⟨by decide, by decide⟩ ?_
      refine T_iconst 0 (am_dec tX12_witnesses_0 13 rfl) rfl ⟨by decide, by decide⟩ ?_
      refine T_callV (as := [aI t12, aI 1, aI 0]) rfl (am_dec tX12_witnesses_0 14 rfl) lkX12_275 (md_obj hl) rfl rfl (Nat.le_of_ble_eq_true rfl) (by omega) (mk_bad0 (d := d - 1) hl t12 1 0 (by omega) am_put_s (by omega)) (fun _ => ?_)
      refine T_nmH (W := fun x9 => mdW w b c x9) (v := (k_refuse (am_put q 0 0 0) t12 1 0)) (fun q22 hq22 => ?_)
      refine T_nm (fun z22 hz22 => ?_)
      have hq022 : t12 = 0 → q22 0 0 = 0 := fun h9 => by rw [hq22]; exact k_refuse_0 am_put_s h9
      refine T_if_ne 63 (am_dec tX12_witnesses_0 15 rfl) rfl (fun h25 => ?_) (fun h25 => ?_)
      · refine T_iconst 0 (am_dec tX12_witnesses_0 33 rfl) rfl ⟨by decide, by decide⟩ ?_
        exact T_ireturn (am_dec tX12_witnesses_0 34 rfl) rfl (am_tr (fun x9 => Q (.inl (some (aI (x9.1)))) (mdW w b c x9.2)) (y := (0, q22)) (show (k_witnesses c q x y fr tt al) = (0, q22) from (by have s9 := hz9.symm; subst s9; have s9 := ht12.symm; subst s9; have s9 := hq22.symm; subst s9; have s9 := hz22.symm; subst s9; exact (if_neg h25))) hQ)
      · refine T_aload_n (am_dec tX12_witnesses_0 16 rfl) rfl ?_
        refine T_iload_n (am_dec tX12_witnesses_0 17 rfl) rfl ?_
        refine T_callS (as := [aI fr]) rfl (am_dec tX12_witnesses_0 18 rfl) lkX12_351 rfl (Nat.le_of_ble_eq_true rfl) (by omega) (mk_isStep (d := d - 1)  fr   (by omega)) (fun _ => ?_)
        refine T_nm (fun z30 hz30 => ?_)
        have hb30 := k_isStep_b fr
        rw [← hz30] at hb30
        have hs30 := k_isStep_s fr
        rw [← hz30] at hs30
        have K33 : ∀ (t33 : Int), t33 = (if z30 = 0 then 1 else (let z38 : Int := (k_isStep tt); (if z38 = 0 then 1 else (if fr ≤ tt then 0 else 1)))) →  am_T S zX12_witnesses d u Q 55 [some (aR b), some (aI x), some (aI y), some (aI fr), some (aI tt), some (aI al), none, none, none] [aI t33, aR b] (mdW w b c q22) := by
          intro t33 ht33
          have hxt33 := ht33
          dsimp only at hxt33
          have hy2 := k_isStep_s tt
          have hbt33 : t33 = 0 ∨ t33 = 1 := by
            rw [ht33]
            try dsimp only
            repeat' split
            all_goals first | exact Or.inl rfl | exact Or.inr rfl | apply k_in_b | apply k_isDigit_b | apply k_isSmall_b | apply k_bad_b | apply k_isIn_b | apply k_isStep_b | apply k_isFirst_b | apply k_isLine_b | apply k_seesBy_b | apply k_isWalker_b | apply k_seesOne_b | apply k_badTwo_b | apply k_sees_b | apply k_isCode_b | omega
          refine T_iconst 2 (am_dec tX12_witnesses_0 29 rfl) rfl ⟨by decide, by decide⟩ ?_
          refine T_iconst 2 (am_dec tX12_witnesses_0 30 rfl) rfl ⟨by decide, by decide⟩ ?_
          refine T_callV (as := [aI t33, aI 2, aI 2]) rfl (am_dec tX12_witnesses_0 31 rfl) lkX12_275 (md_obj hl) rfl rfl (Nat.le_of_ble_eq_true rfl) (by omega) (mk_bad0 (d := d - 1) hl t33 2 2 (by omega) (hq022 (by omega)) (by omega)) (fun _ => ?_)
          refine T_nmH (W := fun x9 => mdW w b c x9) (v := (k_refuse q22 t33 2 2)) (fun q57 hq57 => ?_)
          refine T_nm (fun z57 hz57 => ?_)
          have hq057 : t33 = 0 → q57 0 0 = 0 := fun h9 => by rw [hq57]; exact k_refuse_0 (hq022 (by omega)) h9
          refine T_if_eq 65 (am_dec tX12_witnesses_0 32 rfl) rfl (fun h60 => ?_) (fun h60 => ?_)
          · refine T_aload_n (am_dec tX12_witnesses_0 35 rfl) rfl ?_
            refine T_callV (as := []) rfl (am_dec tX12_witnesses_0 36 rfl) lkX12_345 (md_obj hl) rfl rfl (Nat.le_of_ble_eq_true rfl) (by omega) (mk_goes (d := d - 1) hl   hV hWd hS9 hLp hDu (by omega)) (fun _ => ?_)
            refine T_nmH (W := fun x9 => mdW w b c x9) (v := k_goes c q57) (fun q66 hq66 => ?_)
            refine T_iconst 0 (am_dec tX12_witnesses_0 37 rfl) rfl ⟨by decide, by decide⟩ ?_
            refine T_istore (ls' := [some (aR b), some (aI x), some (aI y), some (aI fr), some (aI tt), some (aI al), some (aI 0), none, none]) (am_dec tX12_witnesses_0 38 rfl) (by decide) rfl ?_
            have sh4 := am_shl_b (k := c 4 4) (by omega)
            refine T_iconst 1 (am_dec tX12_witnesses_0 39 rfl) rfl ⟨by decide, by decide⟩ ?_
            refine T_aload_n (am_dec tX12_witnesses_1 0 rfl) rfl ?_
            refine T_getfield 11 11 (am_dec tX12_witnesses_1 1 rfl) flX12_23_11 (md_obj hl) rfl ?_
            refine T_iconst 4 (am_dec tX12_witnesses_1 2 rfl) rfl ⟨by decide, by decide⟩ ?_
            refine T_ialoadE (x := c 4 4) (am_dec tX12_witnesses_1 3 rfl) (md_told hl) (by omega) (by omega) rfl ?_
            refine T_ishl (am_ishl 1 (c 4 4)) (am_dec tX12_witnesses_1 4 rfl) (am_w32e _).symm (am_w32r _) ?_
            refine T_iconst 1 (am_dec tX12_witnesses_1 5 rfl) rfl ⟨by decide, by decide⟩ ?_
            refine T_isub ((am_ishl 1 (c 4 4)) - 1) (am_dec tX12_witnesses_1 6 rfl) rfl ⟨by omega, by omega⟩ ?_
            refine T_nm (fun eachb_82 heachb_82 => ?_)
            refine T_istore (ls' := [some (aR b), some (aI x), some (aI y), some (aI fr), some (aI tt), some (aI al), some (aI 0), some (aI eachb_82), none]) (am_dec tX12_witnesses_1 7 rfl) (by decide) rfl ?_
            refine T_iload_n (am_dec tX12_witnesses_1 8 rfl) rfl ?_
            refine T_istore (ls' := [some (aR b), some (aI x), some (aI y), some (aI fr), some (aI tt), some (aI al), some (aI 0), some (aI eachb_82), some (aI fr)]) (am_dec tX12_witnesses_1 9 rfl) (by decide) rfl ?_
            refine T_weak (ls' := [some (aR b), some (aI x), some (aI y), none, some (aI tt), some (aI al), some (aI 0), some (aI eachb_82), some (aI fr)]) (am_sub_s (am_sub_s (am_sub_s (am_sub_n (am_sub_s (am_sub_s (am_sub_s (am_sub_s (am_sub_s am_sub_nil))))))))) ?_
            refine L_k_witnesses_87 hl c q66 x y fr tt al hV hWd hS9 hLp hDu hK9 hPl (by omega) (by omega) (by omega) _ rfl (tt + 1 - fr).toNat fr 0 eachb_82 (by omega) (by omega) (fun anyb_87 eachb_87 hanyb_87 heachb_87 => ?_)
            refine T_iload (am_dec tX12_witnesses_1 31 rfl) rfl ?_
            have K128 : ∀ (t128 : Int), t128 = (if al = 0 then anyb_87 else eachb_87) →  am_T S zX12_witnesses d u Q 138 [none, none, none, none, none, none, none, none, none] [aI t128] (mdW w b c q66) := by
              intro t128 ht128
              exact T_ireturn (am_dec tX12_witnesses_1 36 rfl) rfl (am_tr (fun x9 => Q (.inl (some (aI (x9.1)))) (mdW w b c x9.2)) (y := (t128, q66)) (show (k_witnesses c q x y fr tt al) = (t128, q66) from (by have s9 := hz9.symm; subst s9; have s9 := ht12.symm; subst s9; have s9 := hq22.symm; subst s9; have s9 := hz22.symm; subst s9; have s9 := hz30.symm; subst s9; have s9 := ht33.symm; subst s9; have s9 := hq57.symm; subst s9; have s9 := hz57.symm; subst s9; have s9 := hq66.symm; subst s9; have s9 := heachb_82.symm; subst s9; have s9 := hanyb_87.symm; subst s9; have s9 := heachb_87.symm; subst s9; have s9 := ht128.symm; subst s9; exact ((if_pos h25).trans (if_pos h60)))) hQ)
            refine T_if_eq 136 (am_dec tX12_witnesses_1 32 rfl) rfl (fun h128 => ?_) (fun h128 => ?_)
            · refine T_iload (am_dec tX12_witnesses_1 35 rfl) rfl ?_
              refine T_weak (ls' := [none, none, none, none, none, none, none, none, none]) (am_sub_n (am_sub_n (am_sub_n (am_sub_n (am_sub_n (am_sub_n (am_sub_n (am_sub_n (am_sub_n am_sub_nil))))))))) ?_
              exact K128 _ (if_pos h128).symm
            · refine T_iload (am_dec tX12_witnesses_1 33 rfl) rfl ?_
              refine T_goto 138 (am_dec tX12_witnesses_1 34 rfl) rfl ?_
              refine T_weak (ls' := [none, none, none, none, none, none, none, none, none]) (am_sub_n (am_sub_n (am_sub_n (am_sub_n (am_sub_n (am_sub_n (am_sub_n (am_sub_n (am_sub_n am_sub_nil))))))))) ?_
              exact K128 _ (if_neg h128).symm
          · refine T_iconst 0 (am_dec tX12_witnesses_0 33 rfl) rfl ⟨by decide, by decide⟩ ?_
            exact T_ireturn (am_dec tX12_witnesses_0 34 rfl) rfl (am_tr (fun x9 => Q (.inl (some (aI (x9.1)))) (mdW w b c x9.2)) (y := (0, q57)) (show (k_witnesses c q x y fr tt al) = (0, q57) from (by have s9 := hz9.symm; subst s9; have s9 := ht12.symm; subst s9; have s9 := hq22.symm; subst s9; have s9 := hz22.symm; subst s9; have s9 := hz30.symm; subst s9; have s9 := ht33.symm; subst s9; have s9 := hq57.symm; subst s9; have s9 := hz57.symm; subst s9; exact ((if_pos h25).trans (if_neg h60)))) hQ)
        refine T_if_eq 50 (am_dec tX12_witnesses_0 19 rfl) rfl (fun h33 => ?_) (fun h33 => ?_)
        · refine T_iconst 1 (am_dec tX12_witnesses_0 26 rfl) rfl ⟨by decide, by decide⟩ ?_
          refine T_goto 55 (am_dec tX12_witnesses_0 27 rfl) rfl ?_
          exact K33 _ (if_pos h33).symm
        · refine T_iload (am_dec tX12_witnesses_0 20 rfl) rfl ?_
          refine T_callS (as := [aI tt]) rfl (am_dec tX12_witnesses_0 21 rfl) lkX12_351 rfl (Nat.le_of_ble_eq_true rfl) (by omega) (mk_isStep (d := d - 1)  tt   (by omega)) (fun _ => ?_)
          refine T_nm (fun z38 hz38 => ?_)
          have hb38 := k_isStep_b tt
          rw [← hz38] at hb38
          have hs38 := k_isStep_s tt
          rw [← hz38] at hs38
          have K41 : ∀ (t41 : Int), t41 = (if z38 = 0 then 1 else (if fr ≤ tt then 0 else 1)) →  am_T S zX12_witnesses d u Q 55 [some (aR b), some (aI x), some (aI y), some (aI fr), some (aI tt), some (aI al), none, none, none] [aI t41, aR b] (mdW w b c q22) := by
            intro t41 ht41
            have hbt41 : t41 = 0 ∨ t41 = 1 := by
              rw [ht41]
              try dsimp only
              repeat' split
              all_goals first | exact Or.inl rfl | exact Or.inr rfl | apply k_in_b | apply k_isDigit_b | apply k_isSmall_b | apply k_bad_b | apply k_isIn_b | apply k_isStep_b | apply k_isFirst_b | apply k_isLine_b | apply k_seesBy_b | apply k_isWalker_b | apply k_seesOne_b | apply k_badTwo_b | apply k_sees_b | apply k_isCode_b | omega
            exact K33 _ (by have s9 := hz38.symm; subst s9; have s9 := ht41.symm; subst s9; exact (if_neg h33).symm)
          refine T_if_eq 50 (am_dec tX12_witnesses_0 22 rfl) rfl (fun h41 => ?_) (fun h41 => ?_)
          · refine T_iconst 1 (am_dec tX12_witnesses_0 26 rfl) rfl ⟨by decide, by decide⟩ ?_
            refine T_goto 55 (am_dec tX12_witnesses_0 27 rfl) rfl ?_
            exact K41 _ (if_pos h41).symm
          · refine T_iload (am_dec tX12_witnesses_0 23 rfl) rfl ?_
            refine T_iload_n (am_dec tX12_witnesses_0 24 rfl) rfl ?_
            have K47 : ∀ (t47 : Int), t47 = (if fr ≤ tt then 0 else 1) →  am_T S zX12_witnesses d u Q 55 [some (aR b), some (aI x), some (aI y), some (aI fr), some (aI tt), some (aI al), none, none, none] [aI t47, aR b] (mdW w b c q22) := by
              intro t47 ht47
              have hbt47 : t47 = 0 ∨ t47 = 1 := by
                rw [ht47]
                try dsimp only
                repeat' split
                all_goals first | exact Or.inl rfl | exact Or.inr rfl | apply k_in_b | apply k_isDigit_b | apply k_isSmall_b | apply k_bad_b | apply k_isIn_b | apply k_isStep_b | apply k_isFirst_b | apply k_isLine_b | apply k_seesBy_b | apply k_isWalker_b | apply k_seesOne_b | apply k_badTwo_b | apply k_sees_b | apply k_isCode_b | omega
              exact K41 _ (by have s9 := ht47.symm; subst s9; exact (if_neg h41).symm)
            refine T_icmp_ge 54 (am_dec tX12_witnesses_0 25 rfl) rfl (fun h47 => ?_) (fun h47 => ?_)
            · refine T_iconst 0 (am_dec tX12_witnesses_0 28 rfl) rfl ⟨by decide, by decide⟩ ?_
              exact K47 _ (if_pos h47).symm
            · refine T_iconst 1 (am_dec tX12_witnesses_0 26 rfl) rfl ⟨by decide, by decide⟩ ?_
              refine T_goto 55 (am_dec tX12_witnesses_0 27 rfl) rfl ?_
              exact K47 _ (if_neg h47).symm
    refine T_if_ne 19 (am_dec tX12_witnesses_0 8 rfl) rfl (fun h12 => ?_) (fun h12 => ?_)
    · refine T_iconst 0 (am_dec tX12_witnesses_0 11 rfl) rfl ⟨by decide, by decide⟩ ?_
      exact K12 _ (if_neg h12).symm
    · refine T_iconst 1 (am_dec tX12_witnesses_0 9 rfl) rfl ⟨by decide, by decide⟩ ?_
      refine T_goto 20 (am_dec tX12_witnesses_0 10 rfl) rfl ?_
      exact K12 _ (if_pos h12).symm
  exact key _ ⟨rfl, rfl⟩
def g_k_ones_4 (bs : Int) (k : Int) (m : Int) : Int := am_w32 (m + (am_iand (am_ishr bs k) 1))
theorem L_k_ones_4 {S : am_S} {d u : Nat} {Q : AO → AH → Prop} {w : AH} (bs : Int)    (B9 : Int) (hB : B9 = 12) : ∀ (n : Nat) (k : Int) (m : Int), k + n = B9 → 0 ≤ k → (∀ (m' : Int), m' = am_fold (g_k_ones_4 bs) k n m → am_T S zX12_ones d u Q 24 [none, some (aI m'), none] [] (w)) → am_T S zX12_ones d u Q 4 [some (aI bs), some (aI m), some (aI k)] [] (w) := by
  intro n
  induction n with
  | zero =>
    intro k m hi9 h0i k9
    have e9 : k = B9 := by omega
    subst e9
    refine T_iload_n (am_dec tX12_ones_0 4 rfl) rfl ?_
    refine T_bipush 12 (am_dec tX12_ones_0 5 rfl) rfl ⟨by decide, by decide⟩ ?_
    refine T_icmp_ge 24 (am_dec tX12_ones_0 6 rfl) rfl (fun h7 => ?_) (fun h7 => by exfalso; omega)
    refine T_weak (ls' := [none, some (aI m), none]) (am_sub_n (am_sub_s (am_sub_n am_sub_nil))) ?_
    exact k9 m rfl
  | succ n ih =>
    intro k m hi9 h0i k9
    refine T_iload_n (am_dec tX12_ones_0 4 rfl) rfl ?_
    refine T_bipush 12 (am_dec tX12_ones_0 5 rfl) rfl ⟨by decide, by decide⟩ ?_
    refine T_icmp_ge 24 (am_dec tX12_ones_0 6 rfl) rfl (fun h7 => by exfalso; omega) (fun h7 => ?_)
    refine T_iload_n (am_dec tX12_ones_0 7 rfl) rfl ?_
    refine T_iload_n (am_dec tX12_ones_0 8 rfl) rfl ?_
    refine T_iload_n (am_dec tX12_ones_0 9 rfl) rfl ?_
    refine T_ishr (am_ishr bs k) (am_dec tX12_ones_0 10 rfl) (am_w32e _).symm (am_w32r _) ?_
    refine T_iconst 1 (am_dec tX12_ones_0 11 rfl) rfl ⟨by decide, by decide⟩ ?_
    refine T_iand (am_iand (am_ishr bs k) 1) (am_dec tX12_ones_0 12 rfl) (am_w32e _).symm (am_w32r _) ?_
    refine T_iaddW (am_w32 (m + (am_iand (am_ishr bs k) 1))) (am_dec tX12_ones_0 13 rfl) (am_w32e _).symm (am_w32r _) ?_
    refine T_nm (fun m_17 hm_17 => ?_)
    refine T_istore_n (ls' := [some (aI bs), some (aI m_17), some (aI k)]) (am_dec tX12_ones_0 14 rfl) (by decide) rfl ?_
    refine T_iinc (ls' := [some (aI bs), some (aI m_17), some (aI (k + 1))]) (k + 1) (am_dec tX12_ones_0 15 rfl) rfl rfl ⟨by omega, by omega⟩ (by decide) rfl ?_
    refine T_goto 4 (am_dec tX12_ones_0 16 rfl) rfl ?_
    have e9 : (g_k_ones_4 bs) k m = m_17 := (by have s9 := hm_17.symm; subst s9; exact rfl)
    simp only [am_fold_s, e9] at k9
    exact ih (k + 1) m_17 (by omega) (by omega) k9
def k_ones (bs : Int) : Int := am_fold (g_k_ones_4 bs) 0 12 0
theorem mk_ones {S : am_S} {d u : Nat} {w : AH}  (bs : Int)   : am_Out S zX12_ones d u [aI bs] (w) (.inl (some (aI (k_ones bs)))) (w) := by
  have key : ∀ Q : AO → AH → Prop, Q (.inl (some (aI (k_ones bs)))) (w) → am_M S zX12_ones d u [aI bs] (w) Q := by
    intro Q hQ
    refine am_body rfl (by decide +kernel) rfl (am_cats_cons rfl (am_cats_nil)) (Nat.le_of_ble_eq_true rfl) (?_ : am_T _ _ _ _ _ 0 [some (aI bs), none, none] [] (w))
    refine T_iconst 0 (am_dec tX12_ones_0 0 rfl) rfl ⟨by decide, by decide⟩ ?_
    refine T_istore_n (ls' := [some (aI bs), some (aI 0), none]) (am_dec tX12_ones_0 1 rfl) (by decide) rfl ?_
    refine T_iconst 0 (am_dec tX12_ones_0 2 rfl) rfl ⟨by decide, by decide⟩ ?_
    refine T_istore_n (ls' := [some (aI bs), some (aI 0), some (aI 0)]) (am_dec tX12_ones_0 3 rfl) (by decide) rfl ?_
    refine L_k_ones_4  bs    _ rfl 12 0 0 (by omega) (by omega) (fun m_4 hm_4 => ?_)
    refine T_iload_n (am_dec tX12_ones_0 17 rfl) rfl ?_
    exact T_ireturn (am_dec tX12_ones_0 18 rfl) rfl (am_tr (fun x9 => Q (.inl (some (aI (x9)))) (w)) (y := m_4) (show (k_ones bs) = m_4 from (by have s9 := hm_4.symm; subst s9; exact rfl)) hQ)
  exact key _ ⟨rfl, rfl⟩
def g_k_guards_30 (c : am_F) (wk : Int) (s : Int) (q : am_F) : am_F := (let n47 : Int := (k_placeOf c wk s); (am_put q 731 wk.toNat (am_ior (q 731 wk.toNat) (k_seenOn c q n47 s))))
theorem L_k_guards_30 {S : am_S} {d u : Nat} {Q : AO → AH → Prop} {w : AH} {b : Nat} (hl : b + 735 ≤ w.length) (c : am_F) (wk : Int) (hV : MdV c) (hWd : MdWd c) (hS9 : MdS c) (hLp : MdLp c) (hDu : MdDu c) (hK9 : MdK c) (hPl : MdPl c) (hWt : MdWt c) (ho11 : 0 ≤ wk ∧ wk < c 4 4) (hd : 5 ≤ d) (B9 : Int) (hB : B9 = 40) : ∀ (n : Nat) (s : Int) (q : am_F), s + n = B9 → 0 ≤ s → (∀ (q' : am_F), q' = am_fold (g_k_guards_30 c wk) s n q → am_T S zX12_guards d u Q 62 [some (aR b), some (aI wk), none, none, none] [] (mdW w b c q')) → am_T S zX12_guards d u Q 30 [some (aR b), some (aI wk), some (aI s), none, none] [] (mdW w b c q) := by
  intro n
  induction n with
  | zero =>
    intro s q hi9 h0i k9
    have e9 : s = B9 := by omega
    subst e9
    obtain ⟨vl0, vu0⟩ := MdV_0 hV
    obtain ⟨vl1, vu1⟩ := MdV_1 hV
    obtain ⟨vl4, vu4⟩ := MdV_4 hV
    obtain ⟨vl5, vu5⟩ := MdV_5 hV
    refine T_iload_n (am_dec tX12_guards_0 20 rfl) rfl ?_
    refine T_bipush 40 (am_dec tX12_guards_0 21 rfl) rfl ⟨by decide, by decide⟩ ?_
    refine T_icmp_ge 62 (am_dec tX12_guards_0 22 rfl) rfl (fun h33 => ?_) (fun h33 => by exfalso; omega)
    refine T_weak (ls' := [some (aR b), some (aI wk), none, none, none]) (am_sub_s (am_sub_s (am_sub_n (am_sub_n (am_sub_n am_sub_nil))))) ?_
    exact k9 q rfl
  | succ n ih =>
    intro s q hi9 h0i k9
    obtain ⟨vl0, vu0⟩ := MdV_0 hV
    obtain ⟨vl1, vu1⟩ := MdV_1 hV
    obtain ⟨vl4, vu4⟩ := MdV_4 hV
    obtain ⟨vl5, vu5⟩ := MdV_5 hV
    refine T_iload_n (am_dec tX12_guards_0 20 rfl) rfl ?_
    refine T_bipush 40 (am_dec tX12_guards_0 21 rfl) rfl ⟨by decide, by decide⟩ ?_
    refine T_icmp_ge 62 (am_dec tX12_guards_0 22 rfl) rfl (fun h33 => by exfalso; omega) (fun h33 => ?_)
    refine T_aload_n (am_dec tX12_guards_0 23 rfl) rfl ?_
    refine T_getfield 11 64 (am_dec tX12_guards_0 24 rfl) flX12_142_11 (md_obj hl) rfl ?_
    refine T_iload_n (am_dec tX12_guards_0 25 rfl) rfl ?_
    refine T_dup2 (am_dec tX12_guards_0 26 rfl) rfl rfl ?_
    refine T_ialoadE (x := q 731 wk.toNat) (am_dec tX12_guards_0 27 rfl) (md_seenBy hl) (by omega) (by omega) rfl ?_
    refine T_aload_n (am_dec tX12_guards_0 28 rfl) rfl ?_
    refine T_aload_n (am_dec tX12_guards_0 29 rfl) rfl ?_
    refine T_iload_n (am_dec tX12_guards_0 30 rfl) rfl ?_
    refine T_iload_n (am_dec tX12_guards_0 31 rfl) rfl ?_
    refine T_callV (as := [aI wk, aI s]) rfl (am_dec tX12_guards_0 32 rfl) lkX12_368 (md_obj hl) rfl rfl (Nat.le_of_ble_eq_true rfl) (by omega) (mk_placeOf (d := d - 1) hl wk s  hV hK9 (by omega) (by omega) (by omega)) (fun _ => ?_)
    refine T_nm (fun n47 hn47 => ?_)
    have hs47 := hPl wk s (by omega) (by omega)
    rw [← hn47] at hs47
    refine T_iload_n (am_dec tX12_guards_0 33 rfl) rfl ?_
    refine T_callV (as := [aI n47, aI s]) rfl (am_dec tX12_guards_0 34 rfl) lkX12_384 (md_obj hl) rfl rfl (Nat.le_of_ble_eq_true rfl) (by omega) (mk_seenOn (d := d - 1) hl n47 s  hV hWt (by omega) (by omega) (by omega)) (fun _ => ?_)
    refine T_ior (am_ior (q 731 wk.toNat) (k_seenOn c q n47 s)) (am_dec tX12_guards_0 35 rfl) (am_w32e _).symm (am_w32r _) ?_
    refine T_iastore (am_dec tX12_guards_0 36 rfl) (md_seenBy hl) (by omega) (by omega) ?_
    refine am_wE (w2 := mdW w b c (am_put q 731 wk.toNat (am_ior (q 731 wk.toNat) (k_seenOn c q n47 s)))) (md_pq (Nat.le_of_ble_eq_true rfl) (fun _ _ => rfl)) ?_
    refine T_iinc (ls' := [some (aR b), some (aI wk), some (aI (s + 1)), none, none]) (s + 1) (am_dec tX12_guards_0 37 rfl) rfl rfl ⟨by omega, by omega⟩ (by decide) rfl ?_
    refine T_goto 30 (am_dec tX12_guards_0 38 rfl) rfl ?_
    have e9 : (g_k_guards_30 c wk) s q = (am_put q 731 wk.toNat (am_ior (q 731 wk.toNat) (k_seenOn c q n47 s))) := (by have s9 := hn47.symm; subst s9; exact rfl)
    simp only [am_fold_s, e9] at k9
    exact ih (s + 1) (am_put q 731 wk.toNat (am_ior (q 731 wk.toNat) (k_seenOn c q n47 s))) (by omega) (by omega) k9
def g_k_guards_11 (c : am_F) (wk : Int) (q : am_F) : am_F := am_fold (g_k_guards_30 c wk) 0 40 (am_put q 731 wk.toNat 0)
theorem L_k_guards_11 {S : am_S} {d u : Nat} {Q : AO → AH → Prop} {w : AH} {b : Nat} (hl : b + 735 ≤ w.length) (c : am_F) (hV : MdV c) (hWd : MdWd c) (hS9 : MdS c) (hLp : MdLp c) (hDu : MdDu c) (hK9 : MdK c) (hPl : MdPl c) (hWt : MdWt c)  (hd : 5 ≤ d) (B9 : Int) (hB : B9 = c 4 4) : ∀ (n : Nat) (wk : Int) (q : am_F), wk + n = B9 → 0 ≤ wk → (∀ (q' : am_F), q' = am_fold (g_k_guards_11 c) wk n q → am_T S zX12_guards d u Q 68 [some (aR b), none, none, none, none] [] (mdW w b c q')) → am_T S zX12_guards d u Q 11 [some (aR b), some (aI wk), none, none, none] [] (mdW w b c q) := by
  intro n
  induction n with
  | zero =>
    intro wk q hi9 h0i k9
    have e9 : wk = B9 := by omega
    subst e9
    obtain ⟨vl0, vu0⟩ := MdV_0 hV
    obtain ⟨vl1, vu1⟩ := MdV_1 hV
    obtain ⟨vl4, vu4⟩ := MdV_4 hV
    obtain ⟨vl5, vu5⟩ := MdV_5 hV
    refine T_iload_n (am_dec tX12_guards_0 7 rfl) rfl ?_
    refine T_aload_n (am_dec tX12_guards_0 8 rfl) rfl ?_
    refine T_getfield 11 11 (am_dec tX12_guards_0 9 rfl) flX12_23_11 (md_obj hl) rfl ?_
    refine T_iconst 4 (am_dec tX12_guards_0 10 rfl) rfl ⟨by decide, by decide⟩ ?_
    refine T_ialoadE (x := c 4 4) (am_dec tX12_guards_0 11 rfl) (md_told hl) (by omega) (by omega) rfl ?_
    refine T_icmp_ge 68 (am_dec tX12_guards_0 12 rfl) rfl (fun h18 => ?_) (fun h18 => by exfalso; omega)
    refine T_weak (ls' := [some (aR b), none, none, none, none]) (am_sub_s (am_sub_n (am_sub_n (am_sub_n (am_sub_n am_sub_nil))))) ?_
    exact k9 q rfl
  | succ n ih =>
    intro wk q hi9 h0i k9
    obtain ⟨vl0, vu0⟩ := MdV_0 hV
    obtain ⟨vl1, vu1⟩ := MdV_1 hV
    obtain ⟨vl4, vu4⟩ := MdV_4 hV
    obtain ⟨vl5, vu5⟩ := MdV_5 hV
    refine T_iload_n (am_dec tX12_guards_0 7 rfl) rfl ?_
    refine T_aload_n (am_dec tX12_guards_0 8 rfl) rfl ?_
    refine T_getfield 11 11 (am_dec tX12_guards_0 9 rfl) flX12_23_11 (md_obj hl) rfl ?_
    refine T_iconst 4 (am_dec tX12_guards_0 10 rfl) rfl ⟨by decide, by decide⟩ ?_
    refine T_ialoadE (x := c 4 4) (am_dec tX12_guards_0 11 rfl) (md_told hl) (by omega) (by omega) rfl ?_
    refine T_icmp_ge 68 (am_dec tX12_guards_0 12 rfl) rfl (fun h18 => by exfalso; omega) (fun h18 => ?_)
    refine T_aload_n (am_dec tX12_guards_0 13 rfl) rfl ?_
    refine T_getfield 11 64 (am_dec tX12_guards_0 14 rfl) flX12_142_11 (md_obj hl) rfl ?_
    refine T_iload_n (am_dec tX12_guards_0 15 rfl) rfl ?_
    refine T_iconst 0 (am_dec tX12_guards_0 16 rfl) rfl ⟨by decide, by decide⟩ ?_
    refine T_iastore (am_dec tX12_guards_0 17 rfl) (md_seenBy hl) (by omega) (by omega) ?_
    refine am_wE (w2 := mdW w b c (am_put q 731 wk.toNat 0)) (md_pq (Nat.le_of_ble_eq_true rfl) (fun _ _ => rfl)) ?_
    refine T_iconst 0 (am_dec tX12_guards_0 18 rfl) rfl ⟨by decide, by decide⟩ ?_
    refine T_istore_n (ls' := [some (aR b), some (aI wk), some (aI 0), none, none]) (am_dec tX12_guards_0 19 rfl) (by decide) rfl ?_
    refine L_k_guards_30 hl c wk hV hWd hS9 hLp hDu hK9 hPl hWt (by omega) (by omega) _ rfl 40 0 (am_put q 731 wk.toNat 0) (by omega) (by omega) (fun q30 hq30 => ?_)
    refine T_iinc (ls' := [some (aR b), some (aI (wk + 1)), none, none, none]) (wk + 1) (am_dec tX12_guards_0 39 rfl) rfl rfl ⟨by omega, by omega⟩ (by decide) rfl ?_
    refine T_goto 11 (am_dec tX12_guards_1 0 rfl) rfl ?_
    have e9 : (g_k_guards_11 c) wk q = q30 := (by have s9 := hq30.symm; subst s9; exact rfl)
    simp only [am_fold_s, e9] at k9
    exact ih (wk + 1) q30 (by omega) (by omega) k9
def g_k_guards_98 (q : am_F) (s : Int) (w2 : Int) (ok : Int) : Int := (if ok = 0 then 0 else (if q 731 w2.toNat = 0 then 1 else (if am_iand (q 731 w2.toNat) s = 0 then 0 else 1)))
theorem L_k_guards_98 {S : am_S} {d u : Nat} {Q : AO → AH → Prop} {w : AH} {b : Nat} (hl : b + 735 ≤ w.length) (c : am_F) (q : am_F) (s : Int) (wk : Int) (hV : MdV c) (hWd : MdWd c) (hS9 : MdS c) (hLp : MdLp c) (hDu : MdDu c) (hK9 : MdK c) (hPl : MdPl c) (hWt : MdWt c) (ho81 : 0 ≤ s ∧ s < am_ishl 1 (c 4 5)) (hd : 5 ≤ d) (B9 : Int) (hB : B9 = c 4 4) : ∀ (n : Nat) (w2 : Int) (ok : Int), w2 + n = B9 → 0 ≤ w2 → (∀ (ok' : Int), ok' = am_fold (g_k_guards_98 q s) w2 n ok → am_T S zX12_guards d u Q 147 [some (aR b), some (aI wk), some (aI s), some (aI ok'), none] [] (mdW w b c q)) → am_T S zX12_guards d u Q 98 [some (aR b), some (aI wk), some (aI s), some (aI ok), some (aI w2)] [] (mdW w b c q) := by
  intro n
  induction n with
  | zero =>
    intro w2 ok hi9 h0i k9
    have e9 : w2 = B9 := by omega
    subst e9
    obtain ⟨vl0, vu0⟩ := MdV_0 hV
    obtain ⟨vl1, vu1⟩ := MdV_1 hV
    obtain ⟨vl4, vu4⟩ := MdV_4 hV
    obtain ⟨vl5, vu5⟩ := MdV_5 hV
    refine T_iload (am_dec tX12_guards_1 24 rfl) rfl ?_
    refine T_aload_n (am_dec tX12_guards_1 25 rfl) rfl ?_
    refine T_getfield 11 11 (am_dec tX12_guards_1 26 rfl) flX12_23_11 (md_obj hl) rfl ?_
    refine T_iconst 4 (am_dec tX12_guards_1 27 rfl) rfl ⟨by decide, by decide⟩ ?_
    refine T_ialoadE (x := c 4 4) (am_dec tX12_guards_1 28 rfl) (md_told hl) (by omega) (by omega) rfl ?_
    refine T_icmp_ge 147 (am_dec tX12_guards_1 29 rfl) rfl (fun h106 => ?_) (fun h106 => by exfalso; omega)
    refine T_weak (ls' := [some (aR b), some (aI wk), some (aI s), some (aI ok), none]) (am_sub_s (am_sub_s (am_sub_s (am_sub_s (am_sub_n am_sub_nil))))) ?_
    exact k9 ok rfl
  | succ n ih =>
    intro w2 ok hi9 h0i k9
    obtain ⟨vl0, vu0⟩ := MdV_0 hV
    obtain ⟨vl1, vu1⟩ := MdV_1 hV
    obtain ⟨vl4, vu4⟩ := MdV_4 hV
    obtain ⟨vl5, vu5⟩ := MdV_5 hV
    refine T_iload (am_dec tX12_guards_1 24 rfl) rfl ?_
    refine T_aload_n (am_dec tX12_guards_1 25 rfl) rfl ?_
    refine T_getfield 11 11 (am_dec tX12_guards_1 26 rfl) flX12_23_11 (md_obj hl) rfl ?_
    refine T_iconst 4 (am_dec tX12_guards_1 27 rfl) rfl ⟨by decide, by decide⟩ ?_
    refine T_ialoadE (x := c 4 4) (am_dec tX12_guards_1 28 rfl) (md_told hl) (by omega) (by omega) rfl ?_
    refine T_icmp_ge 147 (am_dec tX12_guards_1 29 rfl) rfl (fun h106 => by exfalso; omega) (fun h106 => ?_)
    refine T_iload_n (am_dec tX12_guards_1 30 rfl) rfl ?_
    have K110 : ∀ (t110 : Int), t110 = (if ok = 0 then 0 else (if q 731 w2.toNat = 0 then 1 else (if am_iand (q 731 w2.toNat) s = 0 then 0 else 1))) →  am_T S zX12_guards d u Q 140 [some (aR b), some (aI wk), some (aI s), none, some (aI w2)] [aI t110] (mdW w b c q) := by
      intro t110 ht110
      have hbt110 : t110 = 0 ∨ t110 = 1 := by
        rw [ht110]
        try dsimp only
        repeat' split
        all_goals first | exact Or.inl rfl | exact Or.inr rfl | apply k_in_b | apply k_isDigit_b | apply k_isSmall_b | apply k_bad_b | apply k_isIn_b | apply k_isStep_b | apply k_isFirst_b | apply k_isLine_b | apply k_seesBy_b | apply k_isWalker_b | apply k_seesOne_b | apply k_badTwo_b | apply k_sees_b | apply k_isCode_b | omega
      refine T_istore_n (ls' := [some (aR b), some (aI wk), some (aI s), some (aI t110), some (aI w2)]) (am_dec tX12_guards_2 7 rfl) (by decide) rfl ?_
      refine T_iinc (ls' := [some (aR b), some (aI wk), some (aI s), some (aI t110), some (aI (w2 + 1))]) (w2 + 1) (am_dec tX12_guards_2 8 rfl) rfl rfl ⟨by omega, by omega⟩ (by decide) rfl ?_
      refine T_goto 98 (am_dec tX12_guards_2 9 rfl) rfl ?_
      have e9 : (g_k_guards_98 q s) w2 ok = t110 := (by have s9 := ht110.symm; subst s9; exact rfl)
      simp only [am_fold_s, e9] at k9
      exact ih (w2 + 1) t110 (by omega) (by omega) k9
    refine T_if_eq 139 (am_dec tX12_guards_1 31 rfl) rfl (fun h110 => ?_) (fun h110 => ?_)
    · refine T_iconst 0 (am_dec tX12_guards_2 6 rfl) rfl ⟨by decide, by decide⟩ ?_
      refine T_weak (ls' := [some (aR b), some (aI wk), some (aI s), none, some (aI w2)]) (am_sub_s (am_sub_s (am_sub_s (am_sub_n (am_sub_s am_sub_nil))))) ?_
      exact K110 _ (if_pos h110).symm
    · refine T_aload_n (am_dec tX12_guards_1 32 rfl) rfl ?_
      refine T_getfield 11 64 (am_dec tX12_guards_1 33 rfl) flX12_142_11 (md_obj hl) rfl ?_
      refine T_iload (am_dec tX12_guards_1 34 rfl) rfl ?_
      refine T_ialoadE (x := q 731 w2.toNat) (am_dec tX12_guards_1 35 rfl) (md_seenBy hl) (by omega) (by omega) rfl ?_
      have K120 : ∀ (t120 : Int), t120 = (if q 731 w2.toNat = 0 then 1 else (if am_iand (q 731 w2.toNat) s = 0 then 0 else 1)) →  am_T S zX12_guards d u Q 140 [some (aR b), some (aI wk), some (aI s), none, some (aI w2)] [aI t120] (mdW w b c q) := by
        intro t120 ht120
        have hbt120 : t120 = 0 ∨ t120 = 1 := by
          rw [ht120]
          try dsimp only
          repeat' split
          all_goals first | exact Or.inl rfl | exact Or.inr rfl | apply k_in_b | apply k_isDigit_b | apply k_isSmall_b | apply k_bad_b | apply k_isIn_b | apply k_isStep_b | apply k_isFirst_b | apply k_isLine_b | apply k_seesBy_b | apply k_isWalker_b | apply k_seesOne_b | apply k_badTwo_b | apply k_sees_b | apply k_isCode_b | omega
        exact K110 _ (by have s9 := ht120.symm; subst s9; exact (if_neg h110).symm)
      refine T_if_eq 135 (am_dec tX12_guards_1 36 rfl) rfl (fun h120 => ?_) (fun h120 => ?_)
      · refine T_iconst 1 (am_dec tX12_guards_2 4 rfl) rfl ⟨by decide, by decide⟩ ?_
        refine T_goto 140 (am_dec tX12_guards_2 5 rfl) rfl ?_
        refine T_weak (ls' := [some (aR b), some (aI wk), some (aI s), none, some (aI w2)]) (am_sub_s (am_sub_s (am_sub_s (am_sub_n (am_sub_s am_sub_nil))))) ?_
        exact K120 _ (if_pos h120).symm
      · refine T_aload_n (am_dec tX12_guards_1 37 rfl) rfl ?_
        refine T_getfield 11 64 (am_dec tX12_guards_1 38 rfl) flX12_142_11 (md_obj hl) rfl ?_
        refine T_iload (am_dec tX12_guards_1 39 rfl) rfl ?_
        refine T_ialoadE (x := q 731 w2.toNat) (am_dec tX12_guards_2 0 rfl) (md_seenBy hl) (by omega) (by omega) rfl ?_
        refine T_iload_n (am_dec tX12_guards_2 1 rfl) rfl ?_
        refine T_iand (am_iand (q 731 w2.toNat) s) (am_dec tX12_guards_2 2 rfl) (am_w32e _).symm (am_w32r _) ?_
        have K132 : ∀ (t132 : Int), t132 = (if am_iand (q 731 w2.toNat) s = 0 then 0 else 1) →  am_T S zX12_guards d u Q 140 [some (aR b), some (aI wk), some (aI s), none, some (aI w2)] [aI t132] (mdW w b c q) := by
          intro t132 ht132
          have hbt132 : t132 = 0 ∨ t132 = 1 := by
            rw [ht132]
            try dsimp only
            repeat' split
            all_goals first | exact Or.inl rfl | exact Or.inr rfl | apply k_in_b | apply k_isDigit_b | apply k_isSmall_b | apply k_bad_b | apply k_isIn_b | apply k_isStep_b | apply k_isFirst_b | apply k_isLine_b | apply k_seesBy_b | apply k_isWalker_b | apply k_seesOne_b | apply k_badTwo_b | apply k_sees_b | apply k_isCode_b | omega
          exact K120 _ (by have s9 := ht132.symm; subst s9; exact (if_neg h120).symm)
        refine T_if_eq 139 (am_dec tX12_guards_2 3 rfl) rfl (fun h132 => ?_) (fun h132 => ?_)
        · refine T_iconst 0 (am_dec tX12_guards_2 6 rfl) rfl ⟨by decide, by decide⟩ ?_
          refine T_weak (ls' := [some (aR b), some (aI wk), some (aI s), none, some (aI w2)]) (am_sub_s (am_sub_s (am_sub_s (am_sub_n (am_sub_s am_sub_nil))))) ?_
          exact K132 _ (if_pos h132).symm
        · refine T_iconst 1 (am_dec tX12_guards_2 4 rfl) rfl ⟨by decide, by decide⟩ ?_
          refine T_goto 140 (am_dec tX12_guards_2 5 rfl) rfl ?_
          refine T_weak (ls' := [some (aR b), some (aI wk), some (aI s), none, some (aI w2)]) (am_sub_s (am_sub_s (am_sub_s (am_sub_n (am_sub_s am_sub_nil))))) ?_
          exact K132 _ (if_neg h132).symm
def g_k_guards_81 (c : am_F) (q : am_F) (s : Int) (wk : Int) : Int := (let ok_98 : Int := am_fold (g_k_guards_98 q s) 0 (c 4 4).toNat 1; (if ok_98 = 0 then wk else (if (k_ones s) < (k_ones wk) then s else (if (k_ones s) = (k_ones wk) then (if wk ≤ s then wk else s) else wk))))
theorem L_k_guards_81 {S : am_S} {d u : Nat} {Q : AO → AH → Prop} {w : AH} {b : Nat} (hl : b + 735 ≤ w.length) (c : am_F) (q : am_F) (hV : MdV c) (hWd : MdWd c) (hS9 : MdS c) (hLp : MdLp c) (hDu : MdDu c) (hK9 : MdK c) (hPl : MdPl c) (hWt : MdWt c)  (hd : 5 ≤ d) (B9 : Int) (hB : B9 = am_ishl 1 (c 4 5)) : ∀ (n : Nat) (s : Int) (wk : Int), s + n = B9 → 0 ≤ s → (∀ (wk' : Int), wk' = am_fold (g_k_guards_81 c q) s n wk → am_T S zX12_guards d u Q 186 [none, some (aI wk'), none, none, none] [] (mdW w b c q)) → am_T S zX12_guards d u Q 81 [some (aR b), some (aI wk), some (aI s), none, none] [] (mdW w b c q) := by
  intro n
  induction n with
  | zero =>
    intro s wk hi9 h0i k9
    have e9 : s = B9 := by omega
    subst e9
    obtain ⟨vl0, vu0⟩ := MdV_0 hV
    obtain ⟨vl1, vu1⟩ := MdV_1 hV
    obtain ⟨vl4, vu4⟩ := MdV_4 hV
    obtain ⟨vl5, vu5⟩ := MdV_5 hV
    refine T_iload_n (am_dec tX12_guards_1 12 rfl) rfl ?_
    have sh5 := am_shl_b (k := c 4 5) (by omega)
    refine T_iconst 1 (am_dec tX12_guards_1 13 rfl) rfl ⟨by decide, by decide⟩ ?_
    refine T_aload_n (am_dec tX12_guards_1 14 rfl) rfl ?_
    refine T_getfield 11 11 (am_dec tX12_guards_1 15 rfl) flX12_23_11 (md_obj hl) rfl ?_
    refine T_iconst 5 (am_dec tX12_guards_1 16 rfl) rfl ⟨by decide, by decide⟩ ?_
    refine T_ialoadE (x := c 4 5) (am_dec tX12_guards_1 17 rfl) (md_told hl) (by omega) (by omega) rfl ?_
    refine T_ishl (am_ishl 1 (c 4 5)) (am_dec tX12_guards_1 18 rfl) (am_w32e _).symm (am_w32r _) ?_
    refine T_icmp_ge 186 (am_dec tX12_guards_1 19 rfl) rfl (fun h90 => ?_) (fun h90 => by exfalso; omega)
    refine T_weak (ls' := [none, some (aI wk), none, none, none]) (am_sub_n (am_sub_s (am_sub_n (am_sub_n (am_sub_n am_sub_nil))))) ?_
    exact k9 wk rfl
  | succ n ih =>
    intro s wk hi9 h0i k9
    obtain ⟨vl0, vu0⟩ := MdV_0 hV
    obtain ⟨vl1, vu1⟩ := MdV_1 hV
    obtain ⟨vl4, vu4⟩ := MdV_4 hV
    obtain ⟨vl5, vu5⟩ := MdV_5 hV
    refine T_iload_n (am_dec tX12_guards_1 12 rfl) rfl ?_
    have sh5 := am_shl_b (k := c 4 5) (by omega)
    refine T_iconst 1 (am_dec tX12_guards_1 13 rfl) rfl ⟨by decide, by decide⟩ ?_
    refine T_aload_n (am_dec tX12_guards_1 14 rfl) rfl ?_
    refine T_getfield 11 11 (am_dec tX12_guards_1 15 rfl) flX12_23_11 (md_obj hl) rfl ?_
    refine T_iconst 5 (am_dec tX12_guards_1 16 rfl) rfl ⟨by decide, by decide⟩ ?_
    refine T_ialoadE (x := c 4 5) (am_dec tX12_guards_1 17 rfl) (md_told hl) (by omega) (by omega) rfl ?_
    refine T_ishl (am_ishl 1 (c 4 5)) (am_dec tX12_guards_1 18 rfl) (am_w32e _).symm (am_w32r _) ?_
    refine T_icmp_ge 186 (am_dec tX12_guards_1 19 rfl) rfl (fun h90 => by exfalso; omega) (fun h90 => ?_)
    refine T_iconst 1 (am_dec tX12_guards_1 20 rfl) rfl ⟨by decide, by decide⟩ ?_
    refine T_istore_n (ls' := [some (aR b), some (aI wk), some (aI s), some (aI 1), none]) (am_dec tX12_guards_1 21 rfl) (by decide) rfl ?_
    refine T_iconst 0 (am_dec tX12_guards_1 22 rfl) rfl ⟨by decide, by decide⟩ ?_
    refine T_istore (ls' := [some (aR b), some (aI wk), some (aI s), some (aI 1), some (aI 0)]) (am_dec tX12_guards_1 23 rfl) (by decide) rfl ?_
    refine L_k_guards_98 hl c q s wk hV hWd hS9 hLp hDu hK9 hPl hWt (by omega) (by omega) _ rfl (c 4 4).toNat 0 1 (by omega) (by omega) (fun ok_98 hok_98 => ?_)
    refine T_iload_n (am_dec tX12_guards_2 10 rfl) rfl ?_
    have K148 : ∀ (wk_148 : Int), wk_148 = (if ok_98 = 0 then wk else (if (k_ones s) < (k_ones wk) then s else (if (k_ones s) = (k_ones wk) then (if wk ≤ s then wk else s) else wk))) →  am_T S zX12_guards d u Q 180 [some (aR b), some (aI wk_148), some (aI s), none, none] [] (mdW w b c q) := by
      intro wk_148 hwk_148
      refine T_iinc (ls' := [some (aR b), some (aI wk_148), some (aI (s + 1)), none, none]) (s + 1) (am_dec tX12_guards_2 27 rfl) rfl rfl ⟨by omega, by omega⟩ (by decide) rfl ?_
      refine T_goto 81 (am_dec tX12_guards_2 28 rfl) rfl ?_
      have e9 : (g_k_guards_81 c q) s wk = wk_148 := (by have s9 := hok_98.symm; subst s9; have s9 := hwk_148.symm; subst s9; exact rfl)
      simp only [am_fold_s, e9] at k9
      exact ih (s + 1) wk_148 (by omega) (by omega) k9
    refine T_if_eq 180 (am_dec tX12_guards_2 11 rfl) rfl (fun h148 => ?_) (fun h148 => ?_)
    · refine T_weak (ls' := [some (aR b), some (aI wk), some (aI s), none, none]) (am_sub_s (am_sub_s (am_sub_s (am_sub_n (am_sub_n am_sub_nil))))) ?_
      exact K148 _ (if_pos h148).symm
    · refine T_iload_n (am_dec tX12_guards_2 12 rfl) rfl ?_
      refine T_callS (as := [aI s]) rfl (am_dec tX12_guards_2 13 rfl) lkX12_409 rfl (Nat.le_of_ble_eq_true rfl) (by omega) (mk_ones (d := d - 1)  s   ) (fun _ => ?_)
      refine T_iload_n (am_dec tX12_guards_2 14 rfl) rfl ?_
      refine T_callS (as := [aI wk]) rfl (am_dec tX12_guards_2 15 rfl) lkX12_409 rfl (Nat.le_of_ble_eq_true rfl) (by omega) (mk_ones (d := d - 1)  wk   ) (fun _ => ?_)
      have K159 : ∀ (wk_159 : Int), wk_159 = (if (k_ones s) < (k_ones wk) then s else (if (k_ones s) = (k_ones wk) then (if wk ≤ s then wk else s) else wk)) →  am_T S zX12_guards d u Q 180 [some (aR b), some (aI wk_159), some (aI s), none, none] [] (mdW w b c q) := by
        intro wk_159 hwk_159
        exact K148 _ (by have s9 := hwk_159.symm; subst s9; exact (if_neg h148).symm)
      refine T_icmp_lt 178 (am_dec tX12_guards_2 16 rfl) rfl (fun h159 => ?_) (fun h159 => ?_)
      · refine T_iload_n (am_dec tX12_guards_2 25 rfl) rfl ?_
        refine T_istore_n (ls' := [some (aR b), some (aI s), some (aI s), some (aI ok_98), none]) (am_dec tX12_guards_2 26 rfl) (by decide) rfl ?_
        refine T_weak (ls' := [some (aR b), some (aI s), some (aI s), none, none]) (am_sub_s (am_sub_s (am_sub_s (am_sub_n (am_sub_n am_sub_nil))))) ?_
        exact K159 _ (if_pos h159).symm
      · refine T_iload_n (am_dec tX12_guards_2 17 rfl) rfl ?_
        refine T_callS (as := [aI s]) rfl (am_dec tX12_guards_2 18 rfl) lkX12_409 rfl (Nat.le_of_ble_eq_true rfl) (by omega) (mk_ones (d := d - 1)  s   ) (fun _ => ?_)
        refine T_iload_n (am_dec tX12_guards_2 19 rfl) rfl ?_
        refine T_callS (as := [aI wk]) rfl (am_dec tX12_guards_2 20 rfl) lkX12_409 rfl (Nat.le_of_ble_eq_true rfl) (by omega) (mk_ones (d := d - 1)  wk   ) (fun _ => ?_)
        have K170 : ∀ (wk_170 : Int), wk_170 = (if (k_ones s) = (k_ones wk) then (if wk ≤ s then wk else s) else wk) →  am_T S zX12_guards d u Q 180 [some (aR b), some (aI wk_170), some (aI s), none, none] [] (mdW w b c q) := by
          intro wk_170 hwk_170
          exact K159 _ (by have s9 := hwk_170.symm; subst s9; exact (if_neg h159).symm)
        refine T_icmp_ne 180 (am_dec tX12_guards_2 21 rfl) rfl (fun h170 => ?_) (fun h170 => ?_)
        · refine T_weak (ls' := [some (aR b), some (aI wk), some (aI s), none, none]) (am_sub_s (am_sub_s (am_sub_s (am_sub_n (am_sub_n am_sub_nil))))) ?_
          exact K170 _ (if_neg h170).symm
        · refine T_iload_n (am_dec tX12_guards_2 22 rfl) rfl ?_
          refine T_iload_n (am_dec tX12_guards_2 23 rfl) rfl ?_
          have K175 : ∀ (wk_175 : Int), wk_175 = (if wk ≤ s then wk else s) →  am_T S zX12_guards d u Q 180 [some (aR b), some (aI wk_175), some (aI s), none, none] [] (mdW w b c q) := by
            intro wk_175 hwk_175
            exact K170 _ (by have s9 := hwk_175.symm; subst s9; exact (if_pos h170).symm)
          refine T_icmp_ge 180 (am_dec tX12_guards_2 24 rfl) rfl (fun h175 => ?_) (fun h175 => ?_)
          · refine T_weak (ls' := [some (aR b), some (aI wk), some (aI s), none, none]) (am_sub_s (am_sub_s (am_sub_s (am_sub_n (am_sub_n am_sub_nil))))) ?_
            exact K175 _ (if_pos h175).symm
          · refine T_iload_n (am_dec tX12_guards_2 25 rfl) rfl ?_
            refine T_istore_n (ls' := [some (aR b), some (aI s), some (aI s), some (aI ok_98), none]) (am_dec tX12_guards_2 26 rfl) (by decide) rfl ?_
            refine T_weak (ls' := [some (aR b), some (aI s), some (aI s), none, none]) (am_sub_s (am_sub_s (am_sub_s (am_sub_n (am_sub_n am_sub_nil))))) ?_
            exact K175 _ (if_neg h175).symm
def k_guards (c : am_F) (q : am_F) : Int × am_F := (let q6 : am_F := k_goes c (am_put q 0 0 0); (let q11 : am_F := am_fold (g_k_guards_11 c) 0 (c 4 4).toNat q6; (let wk_78 : Int := (am_ishl 1 (c 4 5)) - 1; (let wk_81 : Int := am_fold (g_k_guards_81 c q11) 0 (am_ishl 1 (c 4 5)).toNat wk_78; (wk_81, q11)))))
theorem mk_guards {S : am_S} {d u : Nat} {w : AH} {b : Nat} (hl : b + 735 ≤ w.length) {c : am_F} {q : am_F}  (hV : MdV c) (hWd : MdWd c) (hS9 : MdS c) (hLp : MdLp c) (hDu : MdDu c) (hK9 : MdK c) (hPl : MdPl c) (hWt : MdWt c) (hd : 5 ≤ d) : am_Out S zX12_guards d u [aR b] (mdW w b c q) (.inl (some (aI ((k_guards c q).1)))) (mdW w b c ((k_guards c q).2)) := by
  have key : ∀ Q : AO → AH → Prop, Q (.inl (some (aI ((k_guards c q).1)))) (mdW w b c ((k_guards c q).2)) → am_M S zX12_guards d u [aR b] (mdW w b c q) Q := by
    intro Q hQ
    refine am_body rfl (by decide +kernel) rfl (am_cats_cons rfl (am_cats_nil)) (Nat.le_of_ble_eq_true rfl) (?_ : am_T _ _ _ _ _ 0 [some (aR b), none, none, none, none] [] (mdW w b c q))
    obtain ⟨vl0, vu0⟩ := MdV_0 hV
    obtain ⟨vl1, vu1⟩ := MdV_1 hV
    obtain ⟨vl4, vu4⟩ := MdV_4 hV
    obtain ⟨vl5, vu5⟩ := MdV_5 hV
    refine T_aload_n (am_dec tX12_guards_0 0 rfl) rfl ?_
    refine T_iconst 0 (am_dec tX12_guards_0 1 rfl) rfl ⟨by decide, by decide⟩ ?_
    refine T_putfield (fs' := mdO b (c 0) (am_up (q 0) 0 0)) 11 0 (am_dec tX12_guards_0 2 rfl) flX12_160_11 rfl rfl rfl trivial (md_obj hl) (Nat.le_of_ble_eq_true rfl) rfl ?_
    refine am_wE (w2 := mdW w b c (am_put q 0 0 0)) (md_fq) ?_
    refine T_aload_n (am_dec tX12_guards_0 3 rfl) rfl ?_
    refine T_callV (as := []) rfl (am_dec tX12_guards_0 4 rfl) lkX12_345 (md_obj hl) rfl rfl (Nat.le_of_ble_eq_true rfl) (by omega) (mk_goes (d := d - 1) hl   hV hWd hS9 hLp hDu (by omega)) (fun _ => ?_)
    refine T_nmH (W := fun x9 => mdW w b c x9) (v := k_goes c (am_put q 0 0 0)) (fun q6 hq6 => ?_)
    refine T_iconst 0 (am_dec tX12_guards_0 5 rfl) rfl ⟨by decide, by decide⟩ ?_
    refine T_istore_n (ls' := [some (aR b), some (aI 0), none, none, none]) (am_dec tX12_guards_0 6 rfl) (by decide) rfl ?_
    refine L_k_guards_11 hl c hV hWd hS9 hLp hDu hK9 hPl hWt  (by omega) _ rfl (c 4 4).toNat 0 q6 (by omega) (by omega) (fun q11 hq11 => ?_)
    have sh5 := am_shl_b (k := c 4 5) (by omega)
    refine T_iconst 1 (am_dec tX12_guards_1 1 rfl) rfl ⟨by decide, by decide⟩ ?_
    refine T_aload_n (am_dec tX12_guards_1 2 rfl) rfl ?_
    refine T_getfield 11 11 (am_dec tX12_guards_1 3 rfl) flX12_23_11 (md_obj hl) rfl ?_
    refine T_iconst 5 (am_dec tX12_guards_1 4 rfl) rfl ⟨by decide, by decide⟩ ?_
    refine T_ialoadE (x := c 4 5) (am_dec tX12_guards_1 5 rfl) (md_told hl) (by omega) (by omega) rfl ?_
    refine T_ishl (am_ishl 1 (c 4 5)) (am_dec tX12_guards_1 6 rfl) (am_w32e _).symm (am_w32r _) ?_
    refine T_iconst 1 (am_dec tX12_guards_1 7 rfl) rfl ⟨by decide, by decide⟩ ?_
    refine T_isub ((am_ishl 1 (c 4 5)) - 1) (am_dec tX12_guards_1 8 rfl) rfl ⟨by omega, by omega⟩ ?_
    refine T_nm (fun wk_78 hwk_78 => ?_)
    refine T_istore_n (ls' := [some (aR b), some (aI wk_78), none, none, none]) (am_dec tX12_guards_1 9 rfl) (by decide) rfl ?_
    refine T_iconst 0 (am_dec tX12_guards_1 10 rfl) rfl ⟨by decide, by decide⟩ ?_
    refine T_istore_n (ls' := [some (aR b), some (aI wk_78), some (aI 0), none, none]) (am_dec tX12_guards_1 11 rfl) (by decide) rfl ?_
    refine L_k_guards_81 hl c q11 hV hWd hS9 hLp hDu hK9 hPl hWt  (by omega) _ rfl (am_ishl 1 (c 4 5)).toNat 0 wk_78 (by omega) (by omega) (fun wk_81 hwk_81 => ?_)
    refine T_iload_n (am_dec tX12_guards_2 29 rfl) rfl ?_
    exact T_ireturn (am_dec tX12_guards_2 30 rfl) rfl (am_tr (fun x9 => Q (.inl (some (aI (x9.1)))) (mdW w b c x9.2)) (y := (wk_81, q11)) (show (k_guards c q) = (wk_81, q11) from (by have s9 := hq6.symm; subst s9; have s9 := hq11.symm; subst s9; have s9 := hwk_78.symm; subst s9; have s9 := hwk_81.symm; subst s9; exact rfl)) hQ)
  exact key _ ⟨rfl, rfl⟩
def g_k_hid_80 (c : am_F) (q : am_F) (wk : Int) (s : Int) (uk : Int) (ok : Int) : Int := (if ok = 0 then 0 else (if uk = wk then 1 else (let z107 : Int := (k_seesOne c q uk wk s); (if z107 = 0 then 1 else 0))))
theorem L_k_hid_80 {S : am_S} {d u : Nat} {Q : AO → AH → Prop} {w : AH} {b : Nat} (hl : b + 735 ≤ w.length) (c : am_F) (q : am_F) (wk : Int) (m : Int) (s : Int) (hV : MdV c) (hWd : MdWd c) (hS9 : MdS c) (hLp : MdLp c) (hDu : MdDu c) (hK9 : MdK c) (hPl : MdPl c) (hWt : MdWt c) (hwk : 0 ≤ wk ∧ wk < c 4 4) (ho37 : 0 ≤ s ∧ s < 40) (hd : 5 ≤ d) (B9 : Int) (hB : B9 = c 4 4) : ∀ (n : Nat) (uk : Int) (ok : Int), uk + n = B9 → 0 ≤ uk → (∀ (ok' : Int), ok' = am_fold (g_k_hid_80 c q wk s) uk n ok → am_T S zX12_hid d u Q 126 [some (aR b), some (aI wk), some (aI m), some (aI s), none, some (aI ok'), none] [] (mdW w b c q)) → am_T S zX12_hid d u Q 80 [some (aR b), some (aI wk), some (aI m), some (aI s), none, some (aI ok), some (aI uk)] [] (mdW w b c q) := by
  intro n
  induction n with
  | zero =>
    intro uk ok hi9 h0i k9
    have e9 : uk = B9 := by omega
    subst e9
    obtain ⟨vl0, vu0⟩ := MdV_0 hV
    obtain ⟨vl1, vu1⟩ := MdV_1 hV
    obtain ⟨vl4, vu4⟩ := MdV_4 hV
    refine T_iload (am_dec tX12_hid_1 6 rfl) rfl ?_
    refine T_aload_n (am_dec tX12_hid_1 7 rfl) rfl ?_
    refine T_getfield 11 11 (am_dec tX12_hid_1 8 rfl) flX12_23_11 (md_obj hl) rfl ?_
    refine T_iconst 4 (am_dec tX12_hid_1 9 rfl) rfl ⟨by decide, by decide⟩ ?_
    refine T_ialoadE (x := c 4 4) (am_dec tX12_hid_1 10 rfl) (md_told hl) (by omega) (by omega) rfl ?_
    refine T_icmp_ge 126 (am_dec tX12_hid_1 11 rfl) rfl (fun h88 => ?_) (fun h88 => by exfalso; omega)
    refine T_weak (ls' := [some (aR b), some (aI wk), some (aI m), some (aI s), none, some (aI ok), none]) (am_sub_s (am_sub_s (am_sub_s (am_sub_s (am_sub_n (am_sub_s (am_sub_n am_sub_nil))))))) ?_
    exact k9 ok rfl
  | succ n ih =>
    intro uk ok hi9 h0i k9
    obtain ⟨vl0, vu0⟩ := MdV_0 hV
    obtain ⟨vl1, vu1⟩ := MdV_1 hV
    obtain ⟨vl4, vu4⟩ := MdV_4 hV
    refine T_iload (am_dec tX12_hid_1 6 rfl) rfl ?_
    refine T_aload_n (am_dec tX12_hid_1 7 rfl) rfl ?_
    refine T_getfield 11 11 (am_dec tX12_hid_1 8 rfl) flX12_23_11 (md_obj hl) rfl ?_
    refine T_iconst 4 (am_dec tX12_hid_1 9 rfl) rfl ⟨by decide, by decide⟩ ?_
    refine T_ialoadE (x := c 4 4) (am_dec tX12_hid_1 10 rfl) (md_told hl) (by omega) (by omega) rfl ?_
    refine T_icmp_ge 126 (am_dec tX12_hid_1 11 rfl) rfl (fun h88 => by exfalso; omega) (fun h88 => ?_)
    refine T_iload (am_dec tX12_hid_1 12 rfl) rfl ?_
    have K93 : ∀ (t93 : Int), t93 = (if ok = 0 then 0 else (if uk = wk then 1 else (let z107 : Int := (k_seesOne c q uk wk s); (if z107 = 0 then 1 else 0)))) →  am_T S zX12_hid d u Q 118 [some (aR b), some (aI wk), some (aI m), some (aI s), none, none, some (aI uk)] [aI t93] (mdW w b c q) := by
      intro t93 ht93
      have hxt93 := ht93
      dsimp only at hxt93
      have hbt93 : t93 = 0 ∨ t93 = 1 := by
        rw [ht93]
        try dsimp only
        repeat' split
        all_goals first | exact Or.inl rfl | exact Or.inr rfl | apply k_in_b | apply k_isDigit_b | apply k_isSmall_b | apply k_bad_b | apply k_isIn_b | apply k_isStep_b | apply k_isFirst_b | apply k_isLine_b | apply k_seesBy_b | apply k_isWalker_b | apply k_seesOne_b | apply k_badTwo_b | apply k_sees_b | apply k_isCode_b | omega
      refine T_istore (ls' := [some (aR b), some (aI wk), some (aI m), some (aI s), none, some (aI t93), some (aI uk)]) (am_dec tX12_hid_1 26 rfl) (by decide) rfl ?_
      refine T_iinc (ls' := [some (aR b), some (aI wk), some (aI m), some (aI s), none, some (aI t93), some (aI (uk + 1))]) (uk + 1) (am_dec tX12_hid_1 27 rfl) rfl rfl ⟨by omega, by omega⟩ (by decide) rfl ?_
      refine T_goto 80 (am_dec tX12_hid_1 28 rfl) rfl ?_
      have e9 : (g_k_hid_80 c q wk s) uk ok = t93 := (by have s9 := ht93.symm; subst s9; exact rfl)
      simp only [am_fold_s, e9] at k9
      exact ih (uk + 1) t93 (by omega) (by omega) k9
    refine T_if_eq 117 (am_dec tX12_hid_1 13 rfl) rfl (fun h93 => ?_) (fun h93 => ?_)
    · refine T_iconst 0 (am_dec tX12_hid_1 25 rfl) rfl ⟨by decide, by decide⟩ ?_
      refine T_weak (ls' := [some (aR b), some (aI wk), some (aI m), some (aI s), none, none, some (aI uk)]) (am_sub_s (am_sub_s (am_sub_s (am_sub_s (am_sub_n (am_sub_n (am_sub_s am_sub_nil))))))) ?_
      exact K93 _ (if_pos h93).symm
    · refine T_iload (am_dec tX12_hid_1 14 rfl) rfl ?_
      refine T_iload_n (am_dec tX12_hid_1 15 rfl) rfl ?_
      have K99 : ∀ (t99 : Int), t99 = (if uk = wk then 1 else (let z107 : Int := (k_seesOne c q uk wk s); (if z107 = 0 then 1 else 0))) →  am_T S zX12_hid d u Q 118 [some (aR b), some (aI wk), some (aI m), some (aI s), none, none, some (aI uk)] [aI t99] (mdW w b c q) := by
        intro t99 ht99
        have hxt99 := ht99
        dsimp only at hxt99
        have hbt99 : t99 = 0 ∨ t99 = 1 := by
          rw [ht99]
          try dsimp only
          repeat' split
          all_goals first | exact Or.inl rfl | exact Or.inr rfl | apply k_in_b | apply k_isDigit_b | apply k_isSmall_b | apply k_bad_b | apply k_isIn_b | apply k_isStep_b | apply k_isFirst_b | apply k_isLine_b | apply k_seesBy_b | apply k_isWalker_b | apply k_seesOne_b | apply k_badTwo_b | apply k_sees_b | apply k_isCode_b | omega
        exact K93 _ (by have s9 := ht99.symm; subst s9; exact (if_neg h93).symm)
      refine T_icmp_eq 113 (am_dec tX12_hid_1 16 rfl) rfl (fun h99 => ?_) (fun h99 => ?_)
      · refine T_iconst 1 (am_dec tX12_hid_1 23 rfl) rfl ⟨by decide, by decide⟩ ?_
        refine T_goto 118 (am_dec tX12_hid_1 24 rfl) rfl ?_
        refine T_weak (ls' := [some (aR b), some (aI wk), some (aI m), some (aI s), none, none, some (aI uk)]) (am_sub_s (am_sub_s (am_sub_s (am_sub_s (am_sub_n (am_sub_n (am_sub_s am_sub_nil))))))) ?_
        exact K99 _ (if_pos h99).symm
      · refine T_aload_n (am_dec tX12_hid_1 17 rfl) rfl ?_
        refine T_iload (am_dec tX12_hid_1 18 rfl) rfl ?_
        refine T_iload_n (am_dec tX12_hid_1 19 rfl) rfl ?_
        refine T_iload_n (am_dec tX12_hid_1 20 rfl) rfl ?_
        refine T_callV (as := [aI uk, aI wk, aI s]) rfl (am_dec tX12_hid_1 21 rfl) lkX12_381 (md_obj hl) rfl rfl (Nat.le_of_ble_eq_true rfl) (by omega) (mk_seesOne (d := d - 1) hl uk wk s  hV hK9 hPl (by omega) (by omega) (by omega) (by omega)) (fun _ => ?_)
        refine T_nm (fun z107 hz107 => ?_)
        have hb107 := k_seesOne_b c q uk wk s
        rw [← hz107] at hb107
        have K110 : ∀ (t110 : Int), t110 = (if z107 = 0 then 1 else 0) →  am_T S zX12_hid d u Q 118 [some (aR b), some (aI wk), some (aI m), some (aI s), none, none, some (aI uk)] [aI t110] (mdW w b c q) := by
          intro t110 ht110
          have hbt110 : t110 = 0 ∨ t110 = 1 := by
            rw [ht110]
            try dsimp only
            repeat' split
            all_goals first | exact Or.inl rfl | exact Or.inr rfl | apply k_in_b | apply k_isDigit_b | apply k_isSmall_b | apply k_bad_b | apply k_isIn_b | apply k_isStep_b | apply k_isFirst_b | apply k_isLine_b | apply k_seesBy_b | apply k_isWalker_b | apply k_seesOne_b | apply k_badTwo_b | apply k_sees_b | apply k_isCode_b | omega
          exact K99 _ (by have s9 := hz107.symm; subst s9; have s9 := ht110.symm; subst s9; exact (if_neg h99).symm)
        refine T_if_ne 117 (am_dec tX12_hid_1 22 rfl) rfl (fun h110 => ?_) (fun h110 => ?_)
        · refine T_iconst 0 (am_dec tX12_hid_1 25 rfl) rfl ⟨by decide, by decide⟩ ?_
          refine T_weak (ls' := [some (aR b), some (aI wk), some (aI m), some (aI s), none, none, some (aI uk)]) (am_sub_s (am_sub_s (am_sub_s (am_sub_s (am_sub_n (am_sub_n (am_sub_s am_sub_nil))))))) ?_
          exact K110 _ (if_neg h110).symm
        · refine T_iconst 1 (am_dec tX12_hid_1 23 rfl) rfl ⟨by decide, by decide⟩ ?_
          refine T_goto 118 (am_dec tX12_hid_1 24 rfl) rfl ?_
          refine T_weak (ls' := [some (aR b), some (aI wk), some (aI m), some (aI s), none, none, some (aI uk)]) (am_sub_s (am_sub_s (am_sub_s (am_sub_s (am_sub_n (am_sub_n (am_sub_s am_sub_nil))))))) ?_
          exact K110 _ (if_pos h110).symm
def g_k_hid_37 (c : am_F) (q : am_F) (wk : Int) (s : Int) (m : Int) : Int := (let n46 : Int := (k_placeOf c wk s); (if n46 = (-1) then m else (let t67 : Int := (if (k_seenOn c q n46 s) = 0 then 1 else 0); (let ok_80 : Int := am_fold (g_k_hid_80 c q wk s) 0 (c 4 4).toNat t67; (let t129 : Int := (if ok_80 = 0 then 0 else 1); (m + t129))))))
theorem L_k_hid_37 {S : am_S} {d u : Nat} {Q : AO → AH → Prop} {w : AH} {b : Nat} (hl : b + 735 ≤ w.length) (c : am_F) (q : am_F) (wk : Int) (hV : MdV c) (hWd : MdWd c) (hS9 : MdS c) (hLp : MdLp c) (hDu : MdDu c) (hK9 : MdK c) (hPl : MdPl c) (hWt : MdWt c) (hwk : 0 ≤ wk ∧ wk < c 4 4) (hd : 5 ≤ d) (B9 : Int) (hB : B9 = 40) : ∀ (n : Nat) (s : Int) (m : Int), s + n = B9 → 0 ≤ s → 0 ≤ m ∧ m ≤ s → (∀ (m' : Int), m' = am_fold (g_k_hid_37 c q wk) s n m → 0 ≤ m' ∧ m' ≤ B9 → am_T S zX12_hid d u Q 145 [none, none, some (aI m'), none, none, none, none] [] (mdW w b c q)) → am_T S zX12_hid d u Q 37 [some (aR b), some (aI wk), some (aI m), some (aI s), none, none, none] [] (mdW w b c q) := by
  intro n
  induction n with
  | zero =>
    intro s m hi9 h0i hinv k9
    have e9 : s = B9 := by omega
    subst e9
    obtain ⟨vl0, vu0⟩ := MdV_0 hV
    obtain ⟨vl1, vu1⟩ := MdV_1 hV
    obtain ⟨vl4, vu4⟩ := MdV_4 hV
    refine T_iload_n (am_dec tX12_hid_0 23 rfl) rfl ?_
    refine T_bipush 40 (am_dec tX12_hid_0 24 rfl) rfl ⟨by decide, by decide⟩ ?_
    refine T_icmp_ge 145 (am_dec tX12_hid_0 25 rfl) rfl (fun h40 => ?_) (fun h40 => by exfalso; omega)
    refine T_weak (ls' := [none, none, some (aI m), none, none, none, none]) (am_sub_n (am_sub_n (am_sub_s (am_sub_n (am_sub_n (am_sub_n (am_sub_n am_sub_nil))))))) ?_
    exact k9 m rfl hinv
  | succ n ih =>
    intro s m hi9 h0i hinv k9
    obtain ⟨vl0, vu0⟩ := MdV_0 hV
    obtain ⟨vl1, vu1⟩ := MdV_1 hV
    obtain ⟨vl4, vu4⟩ := MdV_4 hV
    refine T_iload_n (am_dec tX12_hid_0 23 rfl) rfl ?_
    refine T_bipush 40 (am_dec tX12_hid_0 24 rfl) rfl ⟨by decide, by decide⟩ ?_
    refine T_icmp_ge 145 (am_dec tX12_hid_0 25 rfl) rfl (fun h40 => by exfalso; omega) (fun h40 => ?_)
    refine T_aload_n (am_dec tX12_hid_0 26 rfl) rfl ?_
    refine T_iload_n (am_dec tX12_hid_0 27 rfl) rfl ?_
    refine T_iload_n (am_dec tX12_hid_0 28 rfl) rfl ?_
    refine T_callV (as := [aI wk, aI s]) rfl (am_dec tX12_hid_0 29 rfl) lkX12_368 (md_obj hl) rfl rfl (Nat.le_of_ble_eq_true rfl) (by omega) (mk_placeOf (d := d - 1) hl wk s  hV hK9 (by omega) (by omega) (by omega)) (fun _ => ?_)
    refine T_nm (fun n46 hn46 => ?_)
    have hs46 := hPl wk s (by omega) (by omega)
    rw [← hn46] at hs46
    refine T_istore (ls' := [some (aR b), some (aI wk), some (aI m), some (aI s), some (aI n46), none, none]) (am_dec tX12_hid_0 30 rfl) (by decide) rfl ?_
    refine T_iload (am_dec tX12_hid_0 31 rfl) rfl ?_
    refine T_iconst (-1) (am_dec tX12_hid_0 32 rfl) rfl ⟨by decide, by decide⟩ ?_
    have K54 : ∀ (m_54 : Int), m_54 = (if n46 = (-1) then m else (let t67 : Int := (if (k_seenOn c q n46 s) = 0 then 1 else 0); (let ok_80 : Int := am_fold (g_k_hid_80 c q wk s) 0 (c 4 4).toNat t67; (let t129 : Int := (if ok_80 = 0 then 0 else 1); (m + t129))))) →  am_T S zX12_hid d u Q 139 [some (aR b), some (aI wk), some (aI m_54), some (aI s), none, none, none] [] (mdW w b c q) := by
      intro m_54 hm_54
      have hxm_54 := hm_54
      dsimp only at hxm_54
      refine T_iinc (ls' := [some (aR b), some (aI wk), some (aI m_54), some (aI (s + 1)), none, none, none]) (s + 1) (am_dec tX12_hid_1 37 rfl) rfl rfl ⟨by omega, by omega⟩ (by decide) rfl ?_
      refine T_goto 37 (am_dec tX12_hid_1 38 rfl) rfl ?_
      have e9 : (g_k_hid_37 c q wk) s m = m_54 := (by have s9 := hn46.symm; subst s9; have s9 := hm_54.symm; subst s9; exact rfl)
      simp only [am_fold_s, e9] at k9
      exact ih (s + 1) m_54 (by omega) (by omega) (by omega) k9
    refine T_icmp_ne 60 (am_dec tX12_hid_0 33 rfl) rfl (fun h54 => ?_) (fun h54 => ?_)
    · refine T_aload_n (am_dec tX12_hid_0 35 rfl) rfl ?_
      refine T_iload (am_dec tX12_hid_0 36 rfl) rfl ?_
      refine T_iload_n (am_dec tX12_hid_0 37 rfl) rfl ?_
      refine T_callV (as := [aI n46, aI s]) rfl (am_dec tX12_hid_0 38 rfl) lkX12_384 (md_obj hl) rfl rfl (Nat.le_of_ble_eq_true rfl) (by omega) (mk_seenOn (d := d - 1) hl n46 s  hV hWt (by omega) (by omega) (by omega)) (fun _ => ?_)
      have K67 : ∀ (t67 : Int), t67 = (if (k_seenOn c q n46 s) = 0 then 1 else 0) →  am_T S zX12_hid d u Q 75 [some (aR b), some (aI wk), some (aI m), some (aI s), none, none, none] [aI t67] (mdW w b c q) := by
        intro t67 ht67
        have hbt67 : t67 = 0 ∨ t67 = 1 := by
          rw [ht67]
          try dsimp only
          repeat' split
          all_goals first | exact Or.inl rfl | exact Or.inr rfl | apply k_in_b | apply k_isDigit_b | apply k_isSmall_b | apply k_bad_b | apply k_isIn_b | apply k_isStep_b | apply k_isFirst_b | apply k_isLine_b | apply k_seesBy_b | apply k_isWalker_b | apply k_seesOne_b | apply k_badTwo_b | apply k_sees_b | apply k_isCode_b | omega
        refine T_istore (ls' := [some (aR b), some (aI wk), some (aI m), some (aI s), none, some (aI t67), none]) (am_dec tX12_hid_1 3 rfl) (by decide) rfl ?_
        refine T_iconst 0 (am_dec tX12_hid_1 4 rfl) rfl ⟨by decide, by decide⟩ ?_
        refine T_istore (ls' := [some (aR b), some (aI wk), some (aI m), some (aI s), none, some (aI t67), some (aI 0)]) (am_dec tX12_hid_1 5 rfl) (by decide) rfl ?_
        refine L_k_hid_80 hl c q wk m s hV hWd hS9 hLp hDu hK9 hPl hWt (by omega) (by omega) (by omega) _ rfl (c 4 4).toNat 0 t67 (by omega) (by omega) (fun ok_80 hok_80 => ?_)
        refine T_iload_n (am_dec tX12_hid_1 29 rfl) rfl ?_
        refine T_iload (am_dec tX12_hid_1 30 rfl) rfl ?_
        have K129 : ∀ (t129 : Int), t129 = (if ok_80 = 0 then 0 else 1) →  am_T S zX12_hid d u Q 137 [some (aR b), some (aI wk), none, some (aI s), none, none, none] [aI t129, aI m] (mdW w b c q) := by
          intro t129 ht129
          have hbt129 : t129 = 0 ∨ t129 = 1 := by
            rw [ht129]
            try dsimp only
            repeat' split
            all_goals first | exact Or.inl rfl | exact Or.inr rfl | apply k_in_b | apply k_isDigit_b | apply k_isSmall_b | apply k_bad_b | apply k_isIn_b | apply k_isStep_b | apply k_isFirst_b | apply k_isLine_b | apply k_seesBy_b | apply k_isWalker_b | apply k_seesOne_b | apply k_badTwo_b | apply k_sees_b | apply k_isCode_b | omega
          refine T_iadd (m + t129) (am_dec tX12_hid_1 35 rfl) rfl ⟨by omega, by omega⟩ ?_
          refine T_istore_n (ls' := [some (aR b), some (aI wk), some (aI (m + t129)), some (aI s), none, none, none]) (am_dec tX12_hid_1 36 rfl) (by decide) rfl ?_
          exact K54 _ (by have s9 := ht67.symm; subst s9; have s9 := hok_80.symm; subst s9; have s9 := ht129.symm; subst s9; exact (if_neg h54).symm)
        refine T_if_eq 136 (am_dec tX12_hid_1 31 rfl) rfl (fun h129 => ?_) (fun h129 => ?_)
        · refine T_iconst 0 (am_dec tX12_hid_1 34 rfl) rfl ⟨by decide, by decide⟩ ?_
          refine T_weak (ls' := [some (aR b), some (aI wk), none, some (aI s), none, none, none]) (am_sub_s (am_sub_s (am_sub_n (am_sub_s (am_sub_n (am_sub_n (am_sub_n am_sub_nil))))))) ?_
          exact K129 _ (if_pos h129).symm
        · refine T_iconst 1 (am_dec tX12_hid_1 32 rfl) rfl ⟨by decide, by decide⟩ ?_
          refine T_goto 137 (am_dec tX12_hid_1 33 rfl) rfl ?_
          refine T_weak (ls' := [some (aR b), some (aI wk), none, some (aI s), none, none, none]) (am_sub_s (am_sub_s (am_sub_n (am_sub_s (am_sub_n (am_sub_n (am_sub_n am_sub_nil))))))) ?_
          exact K129 _ (if_neg h129).symm
      refine T_if_ne 74 (am_dec tX12_hid_0 39 rfl) rfl (fun h67 => ?_) (fun h67 => ?_)
      · refine T_iconst 0 (am_dec tX12_hid_1 2 rfl) rfl ⟨by decide, by decide⟩ ?_
        refine T_weak (ls' := [some (aR b), some (aI wk), some (aI m), some (aI s), none, none, none]) (am_sub_s (am_sub_s (am_sub_s (am_sub_s (am_sub_n (am_sub_n (am_sub_n am_sub_nil))))))) ?_
        exact K67 _ (if_neg h67).symm
      · refine T_iconst 1 (am_dec tX12_hid_1 0 rfl) rfl ⟨by decide, by decide⟩ ?_
        refine T_goto 75 (am_dec tX12_hid_1 1 rfl) rfl ?_
        refine T_weak (ls' := [some (aR b), some (aI wk), some (aI m), some (aI s), none, none, none]) (am_sub_s (am_sub_s (am_sub_s (am_sub_s (am_sub_n (am_sub_n (am_sub_n am_sub_nil))))))) ?_
        exact K67 _ (if_pos h67).symm
    · refine T_goto 139 (am_dec tX12_hid_0 34 rfl) rfl ?_
      refine T_weak (ls' := [some (aR b), some (aI wk), some (aI m), some (aI s), none, none, none]) (am_sub_s (am_sub_s (am_sub_s (am_sub_s (am_sub_n (am_sub_n (am_sub_n am_sub_nil))))))) ?_
      exact K54 _ (if_pos h54).symm
def k_hid (c : am_F) (q : am_F) (wk : Int) : Int × am_F := (let z8 : Int := (k_isWalker c wk); (let t11 : Int := (if z8 = 0 then 1 else 0); (let q21 : am_F := (k_refuse (am_put q 0 0 0) t11 1 1); (let z21 : Int := (if t11 = 0 then 0 else 1); (if z21 = 0 then (let q30 : am_F := k_goes c q21; (let m_37 : Int := am_fold (g_k_hid_37 c q30 wk) 0 40 0; (m_37, q30))) else (0, q21))))))
theorem mk_hid {S : am_S} {d u : Nat} {w : AH} {b : Nat} (hl : b + 735 ≤ w.length) {c : am_F} {q : am_F} (wk : Int) (hV : MdV c) (hWd : MdWd c) (hS9 : MdS c) (hLp : MdLp c) (hDu : MdDu c) (hK9 : MdK c) (hPl : MdPl c) (hWt : MdWt c) (hd : 5 ≤ d) : am_Out S zX12_hid d u [aR b, aI wk] (mdW w b c q) (.inl (some (aI ((k_hid c q wk).1)))) (mdW w b c ((k_hid c q wk).2)) := by
  have key : ∀ Q : AO → AH → Prop, Q (.inl (some (aI ((k_hid c q wk).1)))) (mdW w b c ((k_hid c q wk).2)) → am_M S zX12_hid d u [aR b, aI wk] (mdW w b c q) Q := by
    intro Q hQ
    refine am_body rfl (by decide +kernel) rfl (am_cats_cons rfl ( am_cats_cons rfl (am_cats_nil))) (Nat.le_of_ble_eq_true rfl) (?_ : am_T _ _ _ _ _ 0 [some (aR b), some (aI wk), none, none, none, none, none] [] (mdW w b c q))
    obtain ⟨vl0, vu0⟩ := MdV_0 hV
    obtain ⟨vl1, vu1⟩ := MdV_1 hV
    obtain ⟨vl4, vu4⟩ := MdV_4 hV
    refine T_aload_n (am_dec tX12_hid_0 0 rfl) rfl ?_
    refine T_iconst 0 (am_dec tX12_hid_0 1 rfl) rfl ⟨by decide, by decide⟩ ?_
    refine T_putfield (fs' := mdO b (c 0) (am_up (q 0) 0 0)) 11 0 (am_dec tX12_hid_0 2 rfl) flX12_160_11 rfl rfl rfl trivial (md_obj hl) (Nat.le_of_ble_eq_true rfl) rfl ?_
    refine am_wE (w2 := mdW w b c (am_put q 0 0 0)) (md_fq) ?_
    refine T_aload_n (am_dec tX12_hid_0 3 rfl) rfl ?_
    refine T_aload_n (am_dec tX12_hid_0 4 rfl) rfl ?_
    refine T_iload_n (am_dec tX12_hid_0 5 rfl) rfl ?_
    refine T_callV (as := [aI wk]) rfl (am_dec tX12_hid_0 6 rfl) lkX12_365 (md_obj hl) rfl rfl (Nat.le_of_ble_eq_true rfl) (by omega) (mk_isWalker (d := d - 1) hl wk  hV (by omega)) (fun _ => ?_)
    refine T_nm (fun z8 hz8 => ?_)
    have hb8 := k_isWalker_b c wk
    rw [← hz8] at hb8
    have hs8 := k_isWalker_s c wk
    rw [← hz8] at hs8
    have K11 : ∀ (t11 : Int), t11 = (if z8 = 0 then 1 else 0) →  am_T S zX12_hid d u Q 19 [some (aR b), some (aI wk), none, none, none, none, none] [aI t11, aR b] (mdW w b c (am_put q 0 0 0)) := by
      intro t11 ht11
      have hbt11 : t11 = 0 ∨ t11 = 1 := by
        rw [ht11]
        try dsimp only
        repeat' split
        all_goals first | exact Or.inl rfl | exact Or.inr rfl | apply k_in_b | apply k_isDigit_b | apply k_isSmall_b | apply k_bad_b | apply k_isIn_b | apply k_isStep_b | apply k_isFirst_b | apply k_isLine_b | apply k_seesBy_b | apply k_isWalker_b | apply k_seesOne_b | apply k_badTwo_b | apply k_sees_b | apply k_isCode_b | omega
      refine T_iconst 1 (am_dec tX12_hid_0 11 rfl) rfl ⟨by decide, by decide⟩ ?_
      refine T_iconst 1 (am_dec tX12_hid_0 12 rfl) rfl ⟨by decide, by decide⟩ ?_
      refine T_callV (as := [aI t11, aI 1, aI 1]) rfl (am_dec tX12_hid_0 13 rfl) lkX12_275 (md_obj hl) rfl rfl (Nat.le_of_ble_eq_true rfl) (by omega) (mk_bad0 (d := d - 1) hl t11 1 1 (by omega) am_put_s (by omega)) (fun _ => ?_)
      refine T_nmH (W := fun x9 => mdW w b c x9) (v := (k_refuse (am_put q 0 0 0) t11 1 1)) (fun q21 hq21 => ?_)
      refine T_nm (fun z21 hz21 => ?_)
      have hq021 : t11 = 0 → q21 0 0 = 0 := fun h9 => by rw [hq21]; exact k_refuse_0 am_put_s h9
      refine T_if_eq 29 (am_dec tX12_hid_0 14 rfl) rfl (fun h24 => ?_) (fun h24 => ?_)
      · refine T_aload_n (am_dec tX12_hid_0 17 rfl) rfl ?_
        refine T_callV (as := []) rfl (am_dec tX12_hid_0 18 rfl) lkX12_345 (md_obj hl) rfl rfl (Nat.le_of_ble_eq_true rfl) (by omega) (mk_goes (d := d - 1) hl   hV hWd hS9 hLp hDu (by omega)) (fun _ => ?_)
        refine T_nmH (W := fun x9 => mdW w b c x9) (v := k_goes c q21) (fun q30 hq30 => ?_)
        refine T_iconst 0 (am_dec tX12_hid_0 19 rfl) rfl ⟨by decide, by decide⟩ ?_
        refine T_istore_n (ls' := [some (aR b), some (aI wk), some (aI 0), none, none, none, none]) (am_dec tX12_hid_0 20 rfl) (by decide) rfl ?_
        refine T_iconst 0 (am_dec tX12_hid_0 21 rfl) rfl ⟨by decide, by decide⟩ ?_
        refine T_istore_n (ls' := [some (aR b), some (aI wk), some (aI 0), some (aI 0), none, none, none]) (am_dec tX12_hid_0 22 rfl) (by decide) rfl ?_
        refine L_k_hid_37 hl c q30 wk hV hWd hS9 hLp hDu hK9 hPl hWt (by omega) (by omega) _ rfl 40 0 0 (by omega) (by omega) (by omega) (fun m_37 hm_37 hv37 => ?_)
        refine T_iload_n (am_dec tX12_hid_1 39 rfl) rfl ?_
        exact T_ireturn (am_dec tX12_hid_2 0 rfl) rfl (am_tr (fun x9 => Q (.inl (some (aI (x9.1)))) (mdW w b c x9.2)) (y := (m_37, q30)) (show (k_hid c q wk) = (m_37, q30) from (by have s9 := hz8.symm; subst s9; have s9 := ht11.symm; subst s9; have s9 := hq21.symm; subst s9; have s9 := hz21.symm; subst s9; have s9 := hq30.symm; subst s9; have s9 := hm_37.symm; subst s9; exact (if_pos h24))) hQ)
      · refine T_iconst 0 (am_dec tX12_hid_0 15 rfl) rfl ⟨by decide, by decide⟩ ?_
        exact T_ireturn (am_dec tX12_hid_0 16 rfl) rfl (am_tr (fun x9 => Q (.inl (some (aI (x9.1)))) (mdW w b c x9.2)) (y := (0, q21)) (show (k_hid c q wk) = (0, q21) from (by have s9 := hz8.symm; subst s9; have s9 := ht11.symm; subst s9; have s9 := hq21.symm; subst s9; have s9 := hz21.symm; subst s9; exact (if_neg h24))) hQ)
    refine T_if_ne 18 (am_dec tX12_hid_0 7 rfl) rfl (fun h11 => ?_) (fun h11 => ?_)
    · refine T_iconst 0 (am_dec tX12_hid_0 10 rfl) rfl ⟨by decide, by decide⟩ ?_
      exact K11 _ (if_neg h11).symm
    · refine T_iconst 1 (am_dec tX12_hid_0 8 rfl) rfl ⟨by decide, by decide⟩ ?_
      refine T_goto 19 (am_dec tX12_hid_0 9 rfl) rfl ?_
      exact K11 _ (if_pos h11).symm
  exact key _ ⟨rfl, rfl⟩
