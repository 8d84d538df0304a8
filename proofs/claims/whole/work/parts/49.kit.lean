/-! the model: small things -/
def k_thrown (q : am_F) : Int := (q 0 0)
theorem mk_thrown {S : am_S} {d u : Nat} {w : AH} {b : Nat} (hl : b + 735 ≤ w.length) {c : am_F} {q : am_F}    : am_Out S zX12_thrown d u [aR b] (mdW w b c q) (.inl (some (aI (k_thrown q)))) (mdW w b c q) := by
  have key : ∀ Q : AO → AH → Prop, Q (.inl (some (aI (k_thrown q)))) (mdW w b c q) → am_M S zX12_thrown d u [aR b] (mdW w b c q) Q := by
    intro Q hQ
    refine am_body rfl (by decide +kernel) rfl (am_cats_cons rfl (am_cats_nil)) (Nat.le_of_ble_eq_true rfl) (?_ : am_T _ _ _ _ _ 0 [some (aR b)] [] (mdW w b c q))
    refine T_aload_n (am_dec tX12_thrown_0 0 rfl) rfl ?_
    refine T_getfield 11 0 (am_dec tX12_thrown_0 1 rfl) flX12_160_11 (md_obj hl) rfl ?_
    exact T_ireturn (am_dec tX12_thrown_0 2 rfl) rfl (am_tr (fun x9 => Q (.inl (some (aI (x9)))) (mdW w b c q)) (y := (q 0 0)) (show (k_thrown q) = (q 0 0) from rfl) hQ)
  exact key _ ⟨rfl, rfl⟩
def k_in (v : Int) (lo : Int) (hi : Int) : Int := (if v < lo then 0 else (if hi < v then 0 else 1))
theorem mk_in {S : am_S} {d u : Nat} {w : AH}  (v : Int) (lo : Int) (hi : Int)   : am_Out S zX12_in d u [aI v, aI lo, aI hi] (w) (.inl (some (aI (k_in v lo hi)))) (w) := by
  have key : ∀ Q : AO → AH → Prop, Q (.inl (some (aI (k_in v lo hi)))) (w) → am_M S zX12_in d u [aI v, aI lo, aI hi] (w) Q := by
    intro Q hQ
    refine am_body rfl (by decide +kernel) rfl (am_cats_cons rfl ( am_cats_cons rfl ( am_cats_cons rfl (am_cats_nil)))) (Nat.le_of_ble_eq_true rfl) (?_ : am_T _ _ _ _ _ 0 [some (aI v), some (aI lo), some (aI hi)] [] (w))
    refine T_iload_n (am_dec tX12_in_0 0 rfl) rfl ?_
    refine T_iload_n (am_dec tX12_in_0 1 rfl) rfl ?_
    have K2 : ∀ (t2 : Int), t2 = (if v < lo then 0 else (if hi < v then 0 else 1)) →  am_T S zX12_in d u Q 15 [none, none, none] [aI t2] (w) := by
      intro t2 ht2
      have hbt2 : t2 = 0 ∨ t2 = 1 := by
        rw [ht2]
        try dsimp only
        repeat' split
        all_goals first | exact Or.inl rfl | exact Or.inr rfl | omega
      exact T_zreturn (am_dec tX12_in_0 9 rfl) rfl (by first | exact Or.inl rfl | exact Or.inr rfl | omega) (am_tr (fun x9 => Q (.inl (some (aI (x9)))) (w)) (y := t2) (show (k_in v lo hi) = t2 from (by subst ht2; rfl)) hQ)
    refine T_icmp_lt 14 (am_dec tX12_in_0 2 rfl) rfl (fun h2 => ?_) (fun h2 => ?_)
    · refine T_iconst 0 (am_dec tX12_in_0 8 rfl) rfl ⟨by decide, by decide⟩ ?_
      refine T_weak (ls' := [none, none, none]) (am_sub_n (am_sub_n (am_sub_n am_sub_nil))) ?_
      exact K2 _ (if_pos h2).symm
    · refine T_iload_n (am_dec tX12_in_0 3 rfl) rfl ?_
      refine T_iload_n (am_dec tX12_in_0 4 rfl) rfl ?_
      have K7 : ∀ (t7 : Int), t7 = (if hi < v then 0 else 1) →  am_T S zX12_in d u Q 15 [none, none, none] [aI t7] (w) := by
        intro t7 ht7
        have hbt7 : t7 = 0 ∨ t7 = 1 := by
          rw [ht7]
          try dsimp only
          repeat' split
          all_goals first | exact Or.inl rfl | exact Or.inr rfl | omega
        exact K2 _ (by subst ht7; exact (if_neg h2).symm)
      refine T_icmp_gt 14 (am_dec tX12_in_0 5 rfl) rfl (fun h7 => ?_) (fun h7 => ?_)
      · refine T_iconst 0 (am_dec tX12_in_0 8 rfl) rfl ⟨by decide, by decide⟩ ?_
        refine T_weak (ls' := [none, none, none]) (am_sub_n (am_sub_n (am_sub_n am_sub_nil))) ?_
        exact K7 _ (if_pos h7).symm
      · refine T_iconst 1 (am_dec tX12_in_0 6 rfl) rfl ⟨by decide, by decide⟩ ?_
        refine T_goto 15 (am_dec tX12_in_0 7 rfl) rfl ?_
        refine T_weak (ls' := [none, none, none]) (am_sub_n (am_sub_n (am_sub_n am_sub_nil))) ?_
        exact K7 _ (if_neg h7).symm
  exact key _ ⟨rfl, rfl⟩
theorem k_in_b (v : Int) (lo : Int) (hi : Int) : (k_in v lo hi) = 0 ∨ (k_in v lo hi) = 1 := by
  unfold k_in
  try dsimp only
  repeat' split
  all_goals first | exact Or.inl rfl | exact Or.inr rfl
def k_less (x : Int) (y : Int) : Int := (if y ≤ x then y else x)
theorem mk_less {S : am_S} {d u : Nat} {w : AH}  (x : Int) (y : Int)   : am_Out S zX12_less d u [aI x, aI y] (w) (.inl (some (aI (k_less x y)))) (w) := by
  have key : ∀ Q : AO → AH → Prop, Q (.inl (some (aI (k_less x y)))) (w) → am_M S zX12_less d u [aI x, aI y] (w) Q := by
    intro Q hQ
    refine am_body rfl (by decide +kernel) rfl (am_cats_cons rfl ( am_cats_cons rfl (am_cats_nil))) (Nat.le_of_ble_eq_true rfl) (?_ : am_T _ _ _ _ _ 0 [some (aI x), some (aI y)] [] (w))
    refine T_iload_n (am_dec tX12_less_0 0 rfl) rfl ?_
    refine T_iload_n (am_dec tX12_less_0 1 rfl) rfl ?_
    have K2 : ∀ (t2 : Int), t2 = (if y ≤ x then y else x) →  am_T S zX12_less d u Q 10 [none, none] [aI t2] (w) := by
      intro t2 ht2
      exact T_ireturn (am_dec tX12_less_0 6 rfl) rfl (am_tr (fun x9 => Q (.inl (some (aI (x9)))) (w)) (y := t2) (show (k_less x y) = t2 from (by subst ht2; rfl)) hQ)
    refine T_icmp_ge 9 (am_dec tX12_less_0 2 rfl) rfl (fun h2 => ?_) (fun h2 => ?_)
    · refine T_iload_n (am_dec tX12_less_0 5 rfl) rfl ?_
      refine T_weak (ls' := [none, none]) (am_sub_n (am_sub_n am_sub_nil)) ?_
      exact K2 _ (if_pos h2).symm
    · refine T_iload_n (am_dec tX12_less_0 3 rfl) rfl ?_
      refine T_goto 10 (am_dec tX12_less_0 4 rfl) rfl ?_
      refine T_weak (ls' := [none, none]) (am_sub_n (am_sub_n am_sub_nil)) ?_
      exact K2 _ (if_neg h2).symm
  exact key _ ⟨rfl, rfl⟩
def k_isDigit (x : Int) : Int := (if x < 48 then 0 else (if 57 < x then 0 else 1))
theorem mk_isDigit {S : am_S} {d u : Nat} {w : AH}  (x : Int)   : am_Out S zX12_isDigit d u [aI x] (w) (.inl (some (aI (k_isDigit x)))) (w) := by
  have key : ∀ Q : AO → AH → Prop, Q (.inl (some (aI (k_isDigit x)))) (w) → am_M S zX12_isDigit d u [aI x] (w) Q := by
    intro Q hQ
    refine am_body rfl (by decide +kernel) rfl (am_cats_cons rfl (am_cats_nil)) (Nat.le_of_ble_eq_true rfl) (?_ : am_T _ _ _ _ _ 0 [some (aI x)] [] (w))
    refine T_iload_n (am_dec tX12_isDigit_0 0 rfl) rfl ?_
    refine T_bipush 48 (am_dec tX12_isDigit_0 1 rfl) rfl ⟨by decide, by decide⟩ ?_
    have K3 : ∀ (t3 : Int), t3 = (if x < 48 then 0 else (if 57 < x then 0 else 1)) →  am_T S zX12_isDigit d u Q 17 [none] [aI t3] (w) := by
      intro t3 ht3
      have hbt3 : t3 = 0 ∨ t3 = 1 := by
        rw [ht3]
        try dsimp only
        repeat' split
        all_goals first | exact Or.inl rfl | exact Or.inr rfl | apply k_in_b | omega
      exact T_zreturn (am_dec tX12_isDigit_0 9 rfl) rfl (by first | exact Or.inl rfl | exact Or.inr rfl | omega) (am_tr (fun x9 => Q (.inl (some (aI (x9)))) (w)) (y := t3) (show (k_isDigit x) = t3 from (by subst ht3; rfl)) hQ)
    refine T_icmp_lt 16 (am_dec tX12_isDigit_0 2 rfl) rfl (fun h3 => ?_) (fun h3 => ?_)
    · refine T_iconst 0 (am_dec tX12_isDigit_0 8 rfl) rfl ⟨by decide, by decide⟩ ?_
      refine T_weak (ls' := [none]) (am_sub_n am_sub_nil) ?_
      exact K3 _ (if_pos h3).symm
    · refine T_iload_n (am_dec tX12_isDigit_0 3 rfl) rfl ?_
      refine T_bipush 57 (am_dec tX12_isDigit_0 4 rfl) rfl ⟨by decide, by decide⟩ ?_
      have K9 : ∀ (t9 : Int), t9 = (if 57 < x then 0 else 1) →  am_T S zX12_isDigit d u Q 17 [none] [aI t9] (w) := by
        intro t9 ht9
        have hbt9 : t9 = 0 ∨ t9 = 1 := by
          rw [ht9]
          try dsimp only
          repeat' split
          all_goals first | exact Or.inl rfl | exact Or.inr rfl | apply k_in_b | omega
        exact K3 _ (by subst ht9; exact (if_neg h3).symm)
      refine T_icmp_gt 16 (am_dec tX12_isDigit_0 5 rfl) rfl (fun h9 => ?_) (fun h9 => ?_)
      · refine T_iconst 0 (am_dec tX12_isDigit_0 8 rfl) rfl ⟨by decide, by decide⟩ ?_
        refine T_weak (ls' := [none]) (am_sub_n am_sub_nil) ?_
        exact K9 _ (if_pos h9).symm
      · refine T_iconst 1 (am_dec tX12_isDigit_0 6 rfl) rfl ⟨by decide, by decide⟩ ?_
        refine T_goto 17 (am_dec tX12_isDigit_0 7 rfl) rfl ?_
        refine T_weak (ls' := [none]) (am_sub_n am_sub_nil) ?_
        exact K9 _ (if_neg h9).symm
  exact key _ ⟨rfl, rfl⟩
theorem k_isDigit_b (x : Int) : (k_isDigit x) = 0 ∨ (k_isDigit x) = 1 := by
  unfold k_isDigit
  try dsimp only
  repeat' split
  all_goals first | exact Or.inl rfl | exact Or.inr rfl | apply k_in_b
def k_isSmall (x : Int) : Int := (if x < 97 then 0 else (if 122 < x then 0 else 1))
theorem mk_isSmall {S : am_S} {d u : Nat} {w : AH}  (x : Int)   : am_Out S zX12_isSmall d u [aI x] (w) (.inl (some (aI (k_isSmall x)))) (w) := by
  have key : ∀ Q : AO → AH → Prop, Q (.inl (some (aI (k_isSmall x)))) (w) → am_M S zX12_isSmall d u [aI x] (w) Q := by
    intro Q hQ
    refine am_body rfl (by decide +kernel) rfl (am_cats_cons rfl (am_cats_nil)) (Nat.le_of_ble_eq_true rfl) (?_ : am_T _ _ _ _ _ 0 [some (aI x)] [] (w))
    refine T_iload_n (am_dec tX12_isSmall_0 0 rfl) rfl ?_
    refine T_bipush 97 (am_dec tX12_isSmall_0 1 rfl) rfl ⟨by decide, by decide⟩ ?_
    have K3 : ∀ (t3 : Int), t3 = (if x < 97 then 0 else (if 122 < x then 0 else 1)) →  am_T S zX12_isSmall d u Q 17 [none] [aI t3] (w) := by
      intro t3 ht3
      have hbt3 : t3 = 0 ∨ t3 = 1 := by
        rw [ht3]
        try dsimp only
        repeat' split
        all_goals first | exact Or.inl rfl | exact Or.inr rfl | apply k_in_b | apply k_isDigit_b | omega
      exact T_zreturn (am_dec tX12_isSmall_0 9 rfl) rfl (by first | exact Or.inl rfl | exact Or.inr rfl | omega) (am_tr (fun x9 => Q (.inl (some (aI (x9)))) (w)) (y := t3) (show (k_isSmall x) = t3 from (by subst ht3; rfl)) hQ)
    refine T_icmp_lt 16 (am_dec tX12_isSmall_0 2 rfl) rfl (fun h3 => ?_) (fun h3 => ?_)
    · refine T_iconst 0 (am_dec tX12_isSmall_0 8 rfl) rfl ⟨by decide, by decide⟩ ?_
      refine T_weak (ls' := [none]) (am_sub_n am_sub_nil) ?_
      exact K3 _ (if_pos h3).symm
    · refine T_iload_n (am_dec tX12_isSmall_0 3 rfl) rfl ?_
      refine T_bipush 122 (am_dec tX12_isSmall_0 4 rfl) rfl ⟨by decide, by decide⟩ ?_
      have K9 : ∀ (t9 : Int), t9 = (if 122 < x then 0 else 1) →  am_T S zX12_isSmall d u Q 17 [none] [aI t9] (w) := by
        intro t9 ht9
        have hbt9 : t9 = 0 ∨ t9 = 1 := by
          rw [ht9]
          try dsimp only
          repeat' split
          all_goals first | exact Or.inl rfl | exact Or.inr rfl | apply k_in_b | apply k_isDigit_b | omega
        exact K3 _ (by subst ht9; exact (if_neg h3).symm)
      refine T_icmp_gt 16 (am_dec tX12_isSmall_0 5 rfl) rfl (fun h9 => ?_) (fun h9 => ?_)
      · refine T_iconst 0 (am_dec tX12_isSmall_0 8 rfl) rfl ⟨by decide, by decide⟩ ?_
        refine T_weak (ls' := [none]) (am_sub_n am_sub_nil) ?_
        exact K9 _ (if_pos h9).symm
      · refine T_iconst 1 (am_dec tX12_isSmall_0 6 rfl) rfl ⟨by decide, by decide⟩ ?_
        refine T_goto 17 (am_dec tX12_isSmall_0 7 rfl) rfl ?_
        refine T_weak (ls' := [none]) (am_sub_n am_sub_nil) ?_
        exact K9 _ (if_neg h9).symm
  exact key _ ⟨rfl, rfl⟩
theorem k_isSmall_b (x : Int) : (k_isSmall x) = 0 ∨ (k_isSmall x) = 1 := by
  unfold k_isSmall
  try dsimp only
  repeat' split
  all_goals first | exact Or.inl rfl | exact Or.inr rfl | apply k_in_b | apply k_isDigit_b
def k_bad (q : am_F) (is : Int) (what : Int) (rs : Int) : Int × am_F := (let q1 : am_F := (if is = 0 then q else (if q 0 0 = 0 then (am_put (am_put q 0 0 what) 2 rs.toNat (am_w32 ((q 2 rs.toNat) + 1))) else q)); (let t30 : Int := (if q1 0 0 = 0 then 0 else 1); (t30, q1)))
theorem mk_bad {S : am_S} {d u : Nat} {w : AH} {b : Nat} (hl : b + 735 ≤ w.length) {c : am_F} {q : am_F} (is : Int) (what : Int) (rs : Int) (hr : 0 ≤ rs ∧ rs < 3)  : am_Out S zX12_bad d u [aR b, aI is, aI what, aI rs] (mdW w b c q) (.inl (some (aI ((k_bad q is what rs).1)))) (mdW w b c ((k_bad q is what rs).2)) := by
  have key : ∀ Q : AO → AH → Prop, Q (.inl (some (aI ((k_bad q is what rs).1)))) (mdW w b c ((k_bad q is what rs).2)) → am_M S zX12_bad d u [aR b, aI is, aI what, aI rs] (mdW w b c q) Q := by
    intro Q hQ
    refine am_body rfl (by decide +kernel) rfl (am_cats_cons rfl ( am_cats_cons rfl ( am_cats_cons rfl ( am_cats_cons rfl (am_cats_nil))))) (Nat.le_of_ble_eq_true rfl) (?_ : am_T _ _ _ _ _ 0 [some (aR b), some (aI is), some (aI what), some (aI rs)] [] (mdW w b c q))
    refine T_iload_n (am_dec tX12_bad_0 0 rfl) rfl ?_
    have K1 : ∀ (q1 : am_F), q1 = (if is = 0 then q else (if q 0 0 = 0 then (am_put (am_put q 0 0 what) 2 rs.toNat (am_w32 ((q 2 rs.toNat) + 1))) else q)) →  am_T S zX12_bad d u Q 26 [some (aR b), none, none, none] [] (mdW w b c q1) := by
      intro q1 hq1
      refine T_aload_n (am_dec tX12_bad_0 16 rfl) rfl ?_
      refine T_getfield 11 0 (am_dec tX12_bad_0 17 rfl) flX12_160_11 (md_obj hl) rfl ?_
      have K30 : ∀ (t30 : Int), t30 = (if q1 0 0 = 0 then 0 else 1) →  am_T S zX12_bad d u Q 38 [none, none, none, none] [aI t30] (mdW w b c q1) := by
        intro t30 ht30
        have hbt30 : t30 = 0 ∨ t30 = 1 := by
          rw [ht30]
          try dsimp only
          repeat' split
          all_goals first | exact Or.inl rfl | exact Or.inr rfl | apply k_in_b | apply k_isDigit_b | apply k_isSmall_b | omega
        exact T_zreturn (am_dec tX12_bad_0 22 rfl) rfl (by first | exact Or.inl rfl | exact Or.inr rfl | omega) (am_tr (fun x9 => Q (.inl (some (aI (x9.1)))) (mdW w b c x9.2)) (y := (t30, q1)) (show (k_bad q is what rs) = (t30, q1) from (by subst hq1; subst ht30; rfl)) hQ)
      refine T_if_eq 37 (am_dec tX12_bad_0 18 rfl) rfl (fun h30 => ?_) (fun h30 => ?_)
      · refine T_iconst 0 (am_dec tX12_bad_0 21 rfl) rfl ⟨by decide, by decide⟩ ?_
        refine T_weak (ls' := [none, none, none, none]) (am_sub_n (am_sub_n (am_sub_n (am_sub_n am_sub_nil)))) ?_
        exact K30 _ (if_pos h30).symm
      · refine T_iconst 1 (am_dec tX12_bad_0 19 rfl) rfl ⟨by decide, by decide⟩ ?_
        refine T_goto 38 (am_dec tX12_bad_0 20 rfl) rfl ?_
        refine T_weak (ls' := [none, none, none, none]) (am_sub_n (am_sub_n (am_sub_n (am_sub_n am_sub_nil)))) ?_
        exact K30 _ (if_neg h30).symm
    refine T_if_eq 26 (am_dec tX12_bad_0 1 rfl) rfl (fun h1 => ?_) (fun h1 => ?_)
    · refine T_weak (ls' := [some (aR b), none, none, none]) (am_sub_s (am_sub_n (am_sub_n (am_sub_n am_sub_nil)))) ?_
      exact K1 _ (if_pos h1).symm
    · refine T_aload_n (am_dec tX12_bad_0 2 rfl) rfl ?_
      refine T_getfield 11 0 (am_dec tX12_bad_0 3 rfl) flX12_160_11 (md_obj hl) rfl ?_
      have K8 : ∀ (q8 : am_F), q8 = (if q 0 0 = 0 then (am_put (am_put q 0 0 what) 2 rs.toNat (am_w32 ((q 2 rs.toNat) + 1))) else q) →  am_T S zX12_bad d u Q 26 [some (aR b), none, none, none] [] (mdW w b c q8) := by
        intro q8 hq8
        exact K1 _ (by subst hq8; exact (if_neg h1).symm)
      refine T_if_ne 26 (am_dec tX12_bad_0 4 rfl) rfl (fun h8 => ?_) (fun h8 => ?_)
      · refine T_weak (ls' := [some (aR b), none, none, none]) (am_sub_s (am_sub_n (am_sub_n (am_sub_n am_sub_nil)))) ?_
        exact K8 _ (if_neg h8).symm
      · refine T_aload_n (am_dec tX12_bad_0 5 rfl) rfl ?_
        refine T_iload_n (am_dec tX12_bad_0 6 rfl) rfl ?_
        refine T_putfield (fs' := mdO b (c 0) (am_up (q 0) 0 what)) 11 0 (am_dec tX12_bad_0 7 rfl) flX12_160_11 rfl rfl rfl trivial (md_obj hl) (Nat.le_of_ble_eq_true rfl) rfl ?_
        refine am_wE (w2 := mdW w b c (am_put q 0 0 what)) (md_fq) ?_
        refine T_aload_n (am_dec tX12_bad_0 8 rfl) rfl ?_
        refine T_getfield 11 9 (am_dec tX12_bad_0 9 rfl) flX12_17_11 (md_obj hl) rfl ?_
        refine T_iload_n (am_dec tX12_bad_0 10 rfl) rfl ?_
        refine T_dup2 (am_dec tX12_bad_0 11 rfl) rfl rfl ?_
        refine T_ialoadE (x := q 2 rs.toNat) (am_dec tX12_bad_0 12 rfl) (md_refused hl) (by omega) (by omega) (am_put_k (by decide)) ?_
        refine T_iconst 1 (am_dec tX12_bad_0 13 rfl) rfl ⟨by decide, by decide⟩ ?_
        refine T_iaddW (am_w32 ((q 2 rs.toNat) + 1)) (am_dec tX12_bad_0 14 rfl) (am_w32e _).symm (am_w32r _) ?_
        refine T_iastore (am_dec tX12_bad_0 15 rfl) (md_refused hl) (by omega) (by omega) ?_
        refine am_wE (w2 := mdW w b c (am_put (am_put q 0 0 what) 2 rs.toNat (am_w32 ((q 2 rs.toNat) + 1)))) (md_pq (Nat.le_of_ble_eq_true rfl) (fun _ _ => rfl)) ?_
        refine T_weak (ls' := [some (aR b), none, none, none]) (am_sub_s (am_sub_n (am_sub_n (am_sub_n am_sub_nil)))) ?_
        exact K8 _ (if_pos h8).symm
  exact key _ ⟨rfl, rfl⟩
theorem k_bad_b (q : am_F) (is : Int) (what : Int) (rs : Int) : (k_bad q is what rs).1 = 0 ∨ (k_bad q is what rs).1 = 1 := by
  unfold k_bad
  try dsimp only
  repeat' split
  all_goals first | exact Or.inl rfl | exact Or.inr rfl | apply k_in_b | apply k_isDigit_b | apply k_isSmall_b
def k_cell (x : Int) (y : Int) : Int := (x + (9 * y))
theorem mk_cell {S : am_S} {d u : Nat} {w : AH}  (x : Int) (y : Int) (hc : (-1000 ≤ x ∧ x ≤ 1000) ∧ -1000 ≤ y ∧ y ≤ 1000)  : am_Out S zX12_cell d u [aI x, aI y] (w) (.inl (some (aI (k_cell x y)))) (w) := by
  have key : ∀ Q : AO → AH → Prop, Q (.inl (some (aI (k_cell x y)))) (w) → am_M S zX12_cell d u [aI x, aI y] (w) Q := by
    intro Q hQ
    refine am_body rfl (by decide +kernel) rfl (am_cats_cons rfl ( am_cats_cons rfl (am_cats_nil))) (Nat.le_of_ble_eq_true rfl) (?_ : am_T _ _ _ _ _ 0 [some (aI x), some (aI y)] [] (w))
    refine T_iload_n (am_dec tX12_cell_0 0 rfl) rfl ?_
    refine T_bipush 9 (am_dec tX12_cell_0 1 rfl) rfl ⟨by decide, by decide⟩ ?_
    refine T_iload_n (am_dec tX12_cell_0 2 rfl) rfl ?_
    refine T_imul (9 * y) (am_dec tX12_cell_0 3 rfl) rfl ⟨by omega, by omega⟩ ?_
    refine T_iadd (x + (9 * y)) (am_dec tX12_cell_0 4 rfl) rfl ⟨by omega, by omega⟩ ?_
    exact T_ireturn (am_dec tX12_cell_0 5 rfl) rfl (am_tr (fun x9 => Q (.inl (some (aI (x9)))) (w)) (y := (x + (9 * y))) (show (k_cell x y) = (x + (9 * y)) from rfl) hQ)
  exact key _ ⟨rfl, rfl⟩
def MdV (c : am_F) : Prop := (2 ≤ c 4 0 ∧ c 4 0 ≤ 9) ∧ (2 ≤ c 4 1 ∧ c 4 1 ≤ 9) ∧ (0 ≤ c 4 2 ∧ c 4 2 ≤ 6) ∧ (0 ≤ c 4 3 ∧ c 4 3 ≤ 6) ∧ (0 ≤ c 4 4 ∧ c 4 4 ≤ 4) ∧ (0 ≤ c 4 5 ∧ c 4 5 ≤ 4) ∧ (0 ≤ c 4 6 ∧ c 4 6 ≤ 4) ∧ (1 ≤ c 4 7 ∧ c 4 7 ≤ 99) ∧ (0 ≤ c 4 8 ∧ c 4 8 ≤ 12) ∧ (0 ≤ c 4 9 ∧ c 4 9 ≤ 12) ∧ (0 ≤ c 4 10 ∧ c 4 10 ≤ 6) ∧ (0 ≤ c 0 45 ∧ c 0 45 ≤ 7) ∧ (0 ≤ c 0 30 ∧ c 0 30 ≤ 12) ∧ (0 ≤ c 0 31 ∧ c 0 31 ≤ 8)
theorem MdV_0 {c : am_F} (h : MdV c) : 2 ≤ c 4 0 ∧ c 4 0 ≤ 9 := h.1
theorem MdV_1 {c : am_F} (h : MdV c) : 2 ≤ c 4 1 ∧ c 4 1 ≤ 9 := h.2.1
theorem MdV_2 {c : am_F} (h : MdV c) : 0 ≤ c 4 2 ∧ c 4 2 ≤ 6 := h.2.2.1
theorem MdV_3 {c : am_F} (h : MdV c) : 0 ≤ c 4 3 ∧ c 4 3 ≤ 6 := h.2.2.2.1
theorem MdV_4 {c : am_F} (h : MdV c) : 0 ≤ c 4 4 ∧ c 4 4 ≤ 4 := h.2.2.2.2.1
theorem MdV_5 {c : am_F} (h : MdV c) : 0 ≤ c 4 5 ∧ c 4 5 ≤ 4 := h.2.2.2.2.2.1
theorem MdV_6 {c : am_F} (h : MdV c) : 0 ≤ c 4 6 ∧ c 4 6 ≤ 4 := h.2.2.2.2.2.2.1
theorem MdV_7 {c : am_F} (h : MdV c) : 1 ≤ c 4 7 ∧ c 4 7 ≤ 99 := h.2.2.2.2.2.2.2.1
theorem MdV_8 {c : am_F} (h : MdV c) : 0 ≤ c 4 8 ∧ c 4 8 ≤ 12 := h.2.2.2.2.2.2.2.2.1
theorem MdV_9 {c : am_F} (h : MdV c) : 0 ≤ c 4 9 ∧ c 4 9 ≤ 12 := h.2.2.2.2.2.2.2.2.2.1
theorem MdV_10 {c : am_F} (h : MdV c) : 0 ≤ c 4 10 ∧ c 4 10 ≤ 6 := h.2.2.2.2.2.2.2.2.2.2.1
theorem MdV_11 {c : am_F} (h : MdV c) : 0 ≤ c 0 45 ∧ c 0 45 ≤ 7 := h.2.2.2.2.2.2.2.2.2.2.2.1
theorem MdV_12 {c : am_F} (h : MdV c) : 0 ≤ c 0 30 ∧ c 0 30 ≤ 12 := h.2.2.2.2.2.2.2.2.2.2.2.2.1
theorem MdV_13 {c : am_F} (h : MdV c) : 0 ≤ c 0 31 ∧ c 0 31 ≤ 8 := h.2.2.2.2.2.2.2.2.2.2.2.2.2
def k_isIn (c : am_F) (x : Int) (y : Int) : Int := (let z10 : Int := (k_in x 0 ((c 4 0) - 1)); (if z10 = 0 then 0 else (let z26 : Int := (k_in y 0 ((c 4 1) - 1)); (if z26 = 0 then 0 else 1))))
theorem mk_isIn {S : am_S} {d u : Nat} {w : AH} {b : Nat} (hl : b + 735 ≤ w.length) {c : am_F} {q : am_F} (x : Int) (y : Int) (hV : MdV c) (hd : 1 ≤ d) : am_Out S zX12_isIn d u [aR b, aI x, aI y] (mdW w b c q) (.inl (some (aI (k_isIn c x y)))) (mdW w b c q) := by
  have key : ∀ Q : AO → AH → Prop, Q (.inl (some (aI (k_isIn c x y)))) (mdW w b c q) → am_M S zX12_isIn d u [aR b, aI x, aI y] (mdW w b c q) Q := by
    intro Q hQ
    refine am_body rfl (by decide +kernel) rfl (am_cats_cons rfl ( am_cats_cons rfl ( am_cats_cons rfl (am_cats_nil)))) (Nat.le_of_ble_eq_true rfl) (?_ : am_T _ _ _ _ _ 0 [some (aR b), some (aI x), some (aI y)] [] (mdW w b c q))
    obtain ⟨vl0, vu0⟩ := MdV_0 hV
    obtain ⟨vl1, vu1⟩ := MdV_1 hV
    refine T_iload_n (am_dec tX12_isIn_0 0 rfl) rfl ?_
    refine T_iconst 0 (am_dec tX12_isIn_0 1 rfl) rfl ⟨by decide, by decide⟩ ?_
    refine T_aload_n (am_dec tX12_isIn_0 2 rfl) rfl ?_
    refine T_getfield 11 11 (am_dec tX12_isIn_0 3 rfl) flX12_23_11 (md_obj hl) rfl ?_
    refine T_iconst 0 (am_dec tX12_isIn_0 4 rfl) rfl ⟨by decide, by decide⟩ ?_
    refine T_ialoadE (x := c 4 0) (am_dec tX12_isIn_0 5 rfl) (md_told hl) (by omega) (by omega) rfl ?_
    refine T_iconst 1 (am_dec tX12_isIn_0 6 rfl) rfl ⟨by decide, by decide⟩ ?_
    refine T_isub ((c 4 0) - 1) (am_dec tX12_isIn_0 7 rfl) rfl ⟨by omega, by omega⟩ ?_
    refine T_callS (as := [aI x, aI 0, aI ((c 4 0) - 1)]) rfl (am_dec tX12_isIn_0 8 rfl) lkX12_194 rfl (Nat.le_of_ble_eq_true rfl) (by omega) (mk_in (d := d - 1)  x 0 ((c 4 0) - 1)   ) (fun _ => ?_)
    refine T_nm (fun z10 hz10 => ?_)
    have hb10 := k_in_b x 0 ((c 4 0) - 1)
    rw [← hz10] at hb10
    have K13 : ∀ (t13 : Int), t13 = (if z10 = 0 then 0 else (let z26 : Int := (k_in y 0 ((c 4 1) - 1)); (if z26 = 0 then 0 else 1))) →  am_T S zX12_isIn d u Q 37 [none, none, none] [aI t13] (mdW w b c q) := by
      intro t13 ht13
      have hbt13 : t13 = 0 ∨ t13 = 1 := by
        rw [ht13]
        try dsimp only
        repeat' split
        all_goals first | exact Or.inl rfl | exact Or.inr rfl | apply k_in_b | apply k_isDigit_b | apply k_isSmall_b | apply k_bad_b | omega
      exact T_zreturn (am_dec tX12_isIn_0 23 rfl) rfl (by first | exact Or.inl rfl | exact Or.inr rfl | omega) (am_tr (fun x9 => Q (.inl (some (aI (x9)))) (mdW w b c q)) (y := t13) (show (k_isIn c x y) = t13 from (by subst hz10; subst ht13; rfl)) hQ)
    refine T_if_eq 36 (am_dec tX12_isIn_0 9 rfl) rfl (fun h13 => ?_) (fun h13 => ?_)
    · refine T_iconst 0 (am_dec tX12_isIn_0 22 rfl) rfl ⟨by decide, by decide⟩ ?_
      refine T_weak (ls' := [none, none, none]) (am_sub_n (am_sub_n (am_sub_n am_sub_nil))) ?_
      exact K13 _ (if_pos h13).symm
    · refine T_iload_n (am_dec tX12_isIn_0 10 rfl) rfl ?_
      refine T_iconst 0 (am_dec tX12_isIn_0 11 rfl) rfl ⟨by decide, by decide⟩ ?_
      refine T_aload_n (am_dec tX12_isIn_0 12 rfl) rfl ?_
      refine T_getfield 11 11 (am_dec tX12_isIn_0 13 rfl) flX12_23_11 (md_obj hl) rfl ?_
      refine T_iconst 1 (am_dec tX12_isIn_0 14 rfl) rfl ⟨by decide, by decide⟩ ?_
      refine T_ialoadE (x := c 4 1) (am_dec tX12_isIn_0 15 rfl) (md_told hl) (by omega) (by omega) rfl ?_
      refine T_iconst 1 (am_dec tX12_isIn_0 16 rfl) rfl ⟨by decide, by decide⟩ ?_
      refine T_isub ((c 4 1) - 1) (am_dec tX12_isIn_0 17 rfl) rfl ⟨by omega, by omega⟩ ?_
      refine T_callS (as := [aI y, aI 0, aI ((c 4 1) - 1)]) rfl (am_dec tX12_isIn_0 18 rfl) lkX12_194 rfl (Nat.le_of_ble_eq_true rfl) (by omega) (mk_in (d := d - 1)  y 0 ((c 4 1) - 1)   ) (fun _ => ?_)
      refine T_nm (fun z26 hz26 => ?_)
      have hb26 := k_in_b y 0 ((c 4 1) - 1)
      rw [← hz26] at hb26
      have K29 : ∀ (t29 : Int), t29 = (if z26 = 0 then 0 else 1) →  am_T S zX12_isIn d u Q 37 [none, none, none] [aI t29] (mdW w b c q) := by
        intro t29 ht29
        have hbt29 : t29 = 0 ∨ t29 = 1 := by
          rw [ht29]
          try dsimp only
          repeat' split
          all_goals first | exact Or.inl rfl | exact Or.inr rfl | apply k_in_b | apply k_isDigit_b | apply k_isSmall_b | apply k_bad_b | omega
        exact K13 _ (by subst hz26; subst ht29; exact (if_neg h13).symm)
      refine T_if_eq 36 (am_dec tX12_isIn_0 19 rfl) rfl (fun h29 => ?_) (fun h29 => ?_)
      · refine T_iconst 0 (am_dec tX12_isIn_0 22 rfl) rfl ⟨by decide, by decide⟩ ?_
        refine T_weak (ls' := [none, none, none]) (am_sub_n (am_sub_n (am_sub_n am_sub_nil))) ?_
        exact K29 _ (if_pos h29).symm
      · refine T_iconst 1 (am_dec tX12_isIn_0 20 rfl) rfl ⟨by decide, by decide⟩ ?_
        refine T_goto 37 (am_dec tX12_isIn_0 21 rfl) rfl ?_
        refine T_weak (ls' := [none, none, none]) (am_sub_n (am_sub_n (am_sub_n am_sub_nil))) ?_
        exact K29 _ (if_neg h29).symm
  exact key _ ⟨rfl, rfl⟩
theorem k_isIn_b (c : am_F) (x : Int) (y : Int) : (k_isIn c x y) = 0 ∨ (k_isIn c x y) = 1 := by
  unfold k_isIn
  try dsimp only
  repeat' split
  all_goals first | exact Or.inl rfl | exact Or.inr rfl | apply k_in_b | apply k_isDigit_b | apply k_isSmall_b | apply k_bad_b
def k_isStep (t : Int) : Int := (k_in t 0 39)
theorem mk_isStep {S : am_S} {d u : Nat} {w : AH}  (t : Int)  (hd : 1 ≤ d) : am_Out S zX12_isStep d u [aI t] (w) (.inl (some (aI (k_isStep t)))) (w) := by
  have key : ∀ Q : AO → AH → Prop, Q (.inl (some (aI (k_isStep t)))) (w) → am_M S zX12_isStep d u [aI t] (w) Q := by
    intro Q hQ
    refine am_body rfl (by decide +kernel) rfl (am_cats_cons rfl (am_cats_nil)) (Nat.le_of_ble_eq_true rfl) (?_ : am_T _ _ _ _ _ 0 [some (aI t)] [] (w))
    refine T_iload_n (am_dec tX12_isStep_0 0 rfl) rfl ?_
    refine T_iconst 0 (am_dec tX12_isStep_0 1 rfl) rfl ⟨by decide, by decide⟩ ?_
    refine T_bipush 39 (am_dec tX12_isStep_0 2 rfl) rfl ⟨by decide, by decide⟩ ?_
    refine T_callS (as := [aI t, aI 0, aI 39]) rfl (am_dec tX12_isStep_0 3 rfl) lkX12_194 rfl (Nat.le_of_ble_eq_true rfl) (by omega) (mk_in (d := d - 1)  t 0 39   ) (fun _ => ?_)
    refine T_nm (fun z4 hz4 => ?_)
    have hb4 := k_in_b t 0 39
    rw [← hz4] at hb4
    exact T_zreturn (am_dec tX12_isStep_0 4 rfl) rfl (by first | exact Or.inl rfl | exact Or.inr rfl | omega) (am_tr (fun x9 => Q (.inl (some (aI (x9)))) (w)) (y := z4) (show (k_isStep t) = z4 from (by subst hz4; rfl)) hQ)
  exact key _ ⟨rfl, rfl⟩
theorem k_isStep_b (t : Int) : (k_isStep t) = 0 ∨ (k_isStep t) = 1 := by
  unfold k_isStep
  try dsimp only
  repeat' split
  all_goals first | exact Or.inl rfl | exact Or.inr rfl | apply k_in_b | apply k_isDigit_b | apply k_isSmall_b | apply k_bad_b | apply k_isIn_b
def k_isFirst (t : Int) : Int := (k_in t (-1) 39)
theorem mk_isFirst {S : am_S} {d u : Nat} {w : AH}  (t : Int)  (hd : 1 ≤ d) : am_Out S zX12_isFirst d u [aI t] (w) (.inl (some (aI (k_isFirst t)))) (w) := by
  have key : ∀ Q : AO → AH → Prop, Q (.inl (some (aI (k_isFirst t)))) (w) → am_M S zX12_isFirst d u [aI t] (w) Q := by
    intro Q hQ
    refine am_body rfl (by decide +kernel) rfl (am_cats_cons rfl (am_cats_nil)) (Nat.le_of_ble_eq_true rfl) (?_ : am_T _ _ _ _ _ 0 [some (aI t)] [] (w))
    refine T_iload_n (am_dec tX12_isFirst_0 0 rfl) rfl ?_
    refine T_iconst (-1) (am_dec tX12_isFirst_0 1 rfl) rfl ⟨by decide, by decide⟩ ?_
    refine T_bipush 39 (am_dec tX12_isFirst_0 2 rfl) rfl ⟨by decide, by decide⟩ ?_
    refine T_callS (as := [aI t, aI (-1), aI 39]) rfl (am_dec tX12_isFirst_0 3 rfl) lkX12_194 rfl (Nat.le_of_ble_eq_true rfl) (by omega) (mk_in (d := d - 1)  t (-1) 39   ) (fun _ => ?_)
    refine T_nm (fun z4 hz4 => ?_)
    have hb4 := k_in_b t (-1) 39
    rw [← hz4] at hb4
    exact T_zreturn (am_dec tX12_isFirst_0 4 rfl) rfl (by first | exact Or.inl rfl | exact Or.inr rfl | omega) (am_tr (fun x9 => Q (.inl (some (aI (x9)))) (w)) (y := z4) (show (k_isFirst t) = z4 from (by subst hz4; rfl)) hQ)
  exact key _ ⟨rfl, rfl⟩
theorem k_isFirst_b (t : Int) : (k_isFirst t) = 0 ∨ (k_isFirst t) = 1 := by
  unfold k_isFirst
  try dsimp only
  repeat' split
  all_goals first | exact Or.inl rfl | exact Or.inr rfl | apply k_in_b | apply k_isDigit_b | apply k_isSmall_b | apply k_bad_b | apply k_isIn_b | apply k_isStep_b
