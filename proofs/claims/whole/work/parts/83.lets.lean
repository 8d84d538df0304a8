/-! Rule: what lets a fog in -/
def w_c_lets_13 (nf : Nat) (f : Nat → Int) (x9 : Int × am_F) : (Int × am_F) ⊕ (Int × am_F) := let part : Int := x9.1; let q : am_F := x9.2; (if q 0 0 ≤ part then .inr (0, q) else (if 8 ≤ part then .inr (0, q) else (if (q 2) part.toNat = 0 then (let q39 : am_F := (f_valueX nf f q part).2; (let v39 : Int := f_value nf f q part; (if v39 = 0 then .inl ((part + 1), q39) else .inr (1, q39)))) else .inl ((part + 1), q))))
theorem L_c_lets_13 {S : am_S} {d u : Nat} {Q : AO → AH → Prop} {w : AH} {a c : Nat} (hl : a + 5 ≤ w.length) (hx : c < a ∨ a + 5 ≤ c) (nf : Nat) (f : Nat → Int) (hf : w[c]? = some (cP 0 nf f)) (hnf : nf < 1000)  (hd : 2 ≤ d) : ∀ (n : Nat) (part : Int) (q : am_F), 8 - part < n → RuE q ∧ 0 ≤ q 0 0 ∧ 0 ≤ part ∧ part ≤ 8 → (∀ (rv' : Int) (q' : am_F), rv' = (am_wr (w_c_lets_13 nf f) (0, (fun _ _ => 0)) n (part, q)).1 → q' = (am_wr (w_c_lets_13 nf f) (0, (fun _ _ => 0)) n (part, q)).2 → Q (.inl (some (aI rv'))) (ruW w a q')) → am_T S zX7_lets d u Q 13 [some (aR a), some (aR c), some (aI part)] [] (ruW w a q) := by
  intro n
  induction n with
  | zero =>
    intro part q hm9 hinv k9
    exfalso; omega
  | succ n ih =>
    intro part q hm9 hinv k9
    refine T_iload_n (am_dec tX7_lets_0 9 rfl) rfl ?_
    refine T_aload_n (am_dec tX7_lets_0 10 rfl) rfl ?_
    refine T_getfield 6 0 (am_dec tX7_lets_0 11 rfl) flX7_24_6 (show (ruW w a q)[a]? = some (cO 6 [aI (q 0 0), aI (q 0 1), aR (a + 1), aR (a + 2), aR (a + 3), aR (a + 4)]) from ruW_c hl 0 (by decide)) rfl ?_
    refine T_icmp_ge 53 (am_dec tX7_lets_0 12 rfl) rfl (fun h18 => ?_) (fun h18 => ?_)
    · refine T_iconst 0 (am_dec tX7_lets_0 30 rfl) rfl ⟨by decide, by decide⟩ ?_
      exact T_zreturn (am_dec tX7_lets_0 31 rfl) rfl (by first | exact Or.inl rfl | exact Or.inr rfl | omega) (by have e9 : (w_c_lets_13 nf f) (part, q) = .inr (0, q) := (if_pos h18); simp only [am_wr_r e9] at k9; exact k9 _ _ rfl rfl)
    · refine T_iload_n (am_dec tX7_lets_0 13 rfl) rfl ?_
      refine T_bipush 8 (am_dec tX7_lets_0 14 rfl) rfl ⟨by decide, by decide⟩ ?_
      refine T_icmp_ge 53 (am_dec tX7_lets_0 15 rfl) rfl (fun h24 => ?_) (fun h24 => ?_)
      · refine T_iconst 0 (am_dec tX7_lets_0 30 rfl) rfl ⟨by decide, by decide⟩ ?_
        exact T_zreturn (am_dec tX7_lets_0 31 rfl) rfl (by first | exact Or.inl rfl | exact Or.inr rfl | omega) (by have e9 : (w_c_lets_13 nf f) (part, q) = .inr (0, q) := ((if_neg h18).trans (if_pos h24)); simp only [am_wr_r e9] at k9; exact k9 _ _ rfl rfl)
      · refine T_aload_n (am_dec tX7_lets_0 16 rfl) rfl ?_
        refine T_getfield 6 3 (am_dec tX7_lets_0 17 rfl) flX7_15_6 (show (ruW w a q)[a]? = some (cO 6 [aI (q 0 0), aI (q 0 1), aR (a + 1), aR (a + 2), aR (a + 3), aR (a + 4)]) from ruW_c hl 0 (by decide)) rfl ?_
        refine T_iload_n (am_dec tX7_lets_0 18 rfl) rfl ?_
        refine T_ialoadE (x := (q 2) part.toNat) (am_dec tX7_lets_0 19 rfl) (show (ruW w a q)[a + 2]? = some (cP 0 8 (q 2)) from ruW_c hl 2 (by decide)) (by omega) (by omega) rfl ?_
        refine T_if_ne 47 (am_dec tX7_lets_0 20 rfl) rfl (fun h33 => ?_) (fun h33 => ?_)
        · refine T_iinc (ls' := [some (aR a), some (aR c), some (aI (part + 1))]) (part + 1) (am_dec tX7_lets_0 28 rfl) rfl rfl ⟨by omega, by omega⟩ (by decide) rfl ?_
          refine T_goto 13 (am_dec tX7_lets_0 29 rfl) rfl ?_
          have e9 : (w_c_lets_13 nf f) (part, q) = .inl (part + 1, q) := ((if_neg h18).trans ((if_neg h24).trans (if_neg h33)))
          simp only [am_wr_l e9] at k9
          exact ih (part + 1) q (by omega) (by first | exact ⟨hinv.1, hinv.2.1, by omega, by omega⟩ | exact ⟨hy39.1, by omega, by omega, by omega⟩) k9
        · refine T_aload_n (am_dec tX7_lets_0 21 rfl) rfl ?_
          refine T_iload_n (am_dec tX7_lets_0 22 rfl) rfl ?_
          refine T_aload_n (am_dec tX7_lets_0 23 rfl) rfl ?_
          refine T_callV (as := [aI part, aR c]) rfl (am_dec tX7_lets_0 24 rfl) lkX7_41 (show (ruW w a q)[a]? = some (cO 6 [aI (q 0 0), aI (q 0 1), aR (a + 1), aR (a + 2), aR (a + 3), aR (a + 4)]) from ruW_c hl 0 (by decide)) rfl rfl (Nat.le_of_ble_eq_true rfl) (by omega) (m_value (d := d - 1) hl hx hf hnf (q := q) part hinv.1 (by omega)) (fun _ => ?_)
          refine T_nmH (W := fun x9 => ruW w a x9) (v := (f_valueX nf f q part).2) (fun q39 hq39 => ?_)
          refine T_nm (fun v39 hv39 => ?_)
          have hz39 : ∀ k, k ≠ 4 → q39 k = q k := by rw [hq39]; exact f_valueX_k nf f q part
          have hy39 : RuE q39 ∧ q39 0 0 = q 0 0 := ⟨fun j => by rw [hz39 3 (by decide)]; exact hinv.1 j, by rw [hz39 0 (by decide)]⟩
          refine T_if_eq 47 (am_dec tX7_lets_0 25 rfl) rfl (fun h42 => ?_) (fun h42 => ?_)
          · refine T_iinc (ls' := [some (aR a), some (aR c), some (aI (part + 1))]) (part + 1) (am_dec tX7_lets_0 28 rfl) rfl rfl ⟨by omega, by omega⟩ (by decide) rfl ?_
            refine T_goto 13 (am_dec tX7_lets_0 29 rfl) rfl ?_
            have e9 : (w_c_lets_13 nf f) (part, q) = .inl (part + 1, q39) := (by have s9 := hq39.symm; subst s9; have s9 := hv39.symm; subst s9; exact ((if_neg h18).trans ((if_neg h24).trans ((if_pos h33).trans (if_pos h42)))))
            simp only [am_wr_l e9] at k9
            exact ih (part + 1) q39 (by omega) (by first | exact ⟨hinv.1, hinv.2.1, by omega, by omega⟩ | exact ⟨hy39.1, by omega, by omega, by omega⟩) k9
          · refine T_iconst 1 (am_dec tX7_lets_0 26 rfl) rfl ⟨by decide, by decide⟩ ?_
            exact T_zreturn (am_dec tX7_lets_0 27 rfl) rfl (by first | exact Or.inl rfl | exact Or.inr rfl | omega) (by have e9 : (w_c_lets_13 nf f) (part, q) = .inr (1, q39) := (by have s9 := hq39.symm; subst s9; have s9 := hv39.symm; subst s9; exact ((if_neg h18).trans ((if_neg h24).trans ((if_pos h33).trans (if_neg h42))))); simp only [am_wr_r e9] at k9; exact k9 _ _ rfl rfl)
def c_lets (q : am_F) (nf : Nat) (f : Nat → Int) : Int × am_F := (let n2 : Int := f_lastOf q 0; (if n2 = (-1) then (1, q) else (let rv_13 : Int := (am_wr (w_c_lets_13 nf f) (0, (fun _ _ => 0)) 9 (0, q)).1; (let q13 : am_F := (am_wr (w_c_lets_13 nf f) (0, (fun _ _ => 0)) 9 (0, q)).2; (rv_13, q13)))))
theorem mc_lets {S : am_S} {d u : Nat} {w : AH} {a c : Nat} (hl : a + 5 ≤ w.length) (hx : c < a ∨ a + 5 ≤ c) {q : am_F} (nf : Nat) (f : Nat → Int) (hf : w[c]? = some (cP 0 nf f)) (hnf : nf < 1000) (hE : RuE q) (hP : 0 ≤ q 0 0) (hd : 2 ≤ d) : am_Out S zX7_lets d u [aR a, aR c] (ruW w a q) (.inl (some (aI ((c_lets q nf f).1)))) (ruW w a ((c_lets q nf f).2)) := by
  have key : ∀ Q : AO → AH → Prop, Q (.inl (some (aI ((c_lets q nf f).1)))) (ruW w a ((c_lets q nf f).2)) → am_M S zX7_lets d u [aR a, aR c] (ruW w a q) Q := by
    intro Q hQ
    refine am_body rfl (by decide +kernel) rfl (am_cats_cons rfl ( am_cats_cons rfl (am_cats_nil))) (Nat.le_of_ble_eq_true rfl) (?_ : am_T _ _ _ _ _ 0 [some (aR a), some (aR c), none] [] (ruW w a q))
    refine T_aload_n (am_dec tX7_lets_0 0 rfl) rfl ?_
    refine T_iconst 0 (am_dec tX7_lets_0 1 rfl) rfl ⟨by decide, by decide⟩ ?_
    refine T_callV (as := [aI 0]) rfl (am_dec tX7_lets_0 2 rfl) lkX7_37 (show (ruW w a q)[a]? = some (cO 6 [aI (q 0 0), aI (q 0 1), aR (a + 1), aR (a + 2), aR (a + 3), aR (a + 4)]) from ruW_c hl 0 (by decide)) rfl rfl (Nat.le_of_ble_eq_true rfl) (by omega) (m_lastOf (d := d - 1) hl (q := q) 0 hP (by omega)) (fun _ => ?_)
    refine T_nm (fun n2 hn2 => ?_)
    refine T_iconst (-1) (am_dec tX7_lets_0 3 rfl) rfl ⟨by decide, by decide⟩ ?_
    refine T_icmp_ne 11 (am_dec tX7_lets_0 4 rfl) rfl (fun h6 => ?_) (fun h6 => ?_)
    · refine T_iconst 0 (am_dec tX7_lets_0 7 rfl) rfl ⟨by decide, by decide⟩ ?_
      refine T_istore_n (ls' := [some (aR a), some (aR c), some (aI 0)]) (am_dec tX7_lets_0 8 rfl) (by decide) rfl ?_
      refine L_c_lets_13 hl hx nf f (by omega) (by omega)  (by omega) 9 0 q (by omega) ⟨hE, hP, by omega, by omega⟩ (fun rv_13 q13 hrv_13 hq13 => ?_)
      exact (am_tr (fun (x9 : Int × am_F) => Q (.inl (some (aI (x9.1)))) (ruW w a x9.2)) (y := (rv_13, q13)) (show (c_lets q nf f) = (rv_13, q13) from (by have s9 := hn2.symm; subst s9; have s9 := hrv_13.symm; subst s9; have s9 := hq13.symm; subst s9; exact (if_neg h6))) hQ)
    · refine T_iconst 1 (am_dec tX7_lets_0 5 rfl) rfl ⟨by decide, by decide⟩ ?_
      exact T_zreturn (am_dec tX7_lets_0 6 rfl) rfl (by first | exact Or.inl rfl | exact Or.inr rfl | omega) (am_tr (fun (x9 : Int × am_F) => Q (.inl (some (aI (x9.1)))) (ruW w a x9.2)) (y := (1, q)) (show (c_lets q nf f) = (1, q) from (by have s9 := hn2.symm; subst s9; exact (if_pos h6))) hQ)
  exact key _ ⟨rfl, rfl⟩
theorem am_wr_inv {α β : Type} {P : α → Prop} {R : β → Prop} {f : α → α ⊕ β} {e : β} (mu : α → Int) (h0 : ∀ x, P x → 0 ≤ mu x) (hs : ∀ x y, P x → f x = .inl y → P y ∧ mu y < mu x) (he : ∀ x y, P x → f x = .inr y → R y) : ∀ (n : Nat) (x : α), P x → mu x < n → R (am_wr f e n x) := by
  intro n
  induction n with
  | zero => intro x h hm; have h9 := h0 x h; exfalso; omega
  | succ n ih =>
    intro x h hm
    cases hf : f x with
    | inl y =>
      rw [am_wr_l hf]
      obtain ⟨h1, h2⟩ := hs x y h hf
      exact ih y h1 (by omega)
    | inr y =>
      rw [am_wr_r hf]
      exact he x y h hf
theorem c_lets_x (q : am_F) (nf : Nat) (f : Nat → Int) : ((c_lets q nf f).1 = 0 ∨ (c_lets q nf f).1 = 1) ∧ ∀ k, k ≠ 4 → (c_lets q nf f).2 k = q k := by
  unfold c_lets
  dsimp only
  split
  · exact ⟨Or.inr rfl, fun _ _ => rfl⟩
  · refine am_wr_inv (P := fun (x : Int × am_F) => (0 ≤ x.1 ∧ x.1 ≤ 8) ∧ ∀ k, k ≠ 4 → x.2 k = q k) (R := fun (x : Int × am_F) => (x.1 = 0 ∨ x.1 = 1) ∧ ∀ k, k ≠ 4 → x.2 k = q k) (fun x => 8 - x.1) (fun x hx => by show 0 ≤ 8 - x.1; omega) ?_ ?_ 9 (0, q) ⟨⟨by omega, by omega⟩, fun _ _ => rfl⟩ (by show (8 : Int) - 0 < _; omega)
    · rintro ⟨p, r⟩ y ⟨hx1, hx2⟩ hf
      unfold w_c_lets_13 at hf
      dsimp only at hf hx1 hx2
      have hz := f_valueX_k nf f r p
      split at hf
      · exact absurd hf (by simp)
      · split at hf
        · exact absurd hf (by simp)
        · split at hf
          · split at hf
            · cases hf
              exact ⟨⟨by dsimp only; omega, fun k hk => (hz k hk).trans (hx2 k hk)⟩, by dsimp only; omega⟩
            · exact absurd hf (by simp)
          · cases hf
            exact ⟨⟨by dsimp only; omega, hx2⟩, by dsimp only; omega⟩
    · rintro ⟨p, r⟩ y ⟨hx1, hx2⟩ hf
      unfold w_c_lets_13 at hf
      dsimp only at hf hx1 hx2
      have hz := f_valueX_k nf f r p
      split at hf
      · cases hf; exact ⟨Or.inl rfl, hx2⟩
      · split at hf
        · cases hf; exact ⟨Or.inl rfl, hx2⟩
        · split at hf
          · split at hf
            · exact absurd hf (by simp)
            · cases hf
              exact ⟨Or.inr rfl, fun k hk => (hz k hk).trans (hx2 k hk)⟩
          · exact absurd hf (by simp)
theorem c_tells_x (q : am_F) (k wo : Int) (nf : Nat) (f : Nat → Int) : ∀ j, j ≠ 4 → (c_tells q k wo nf f).2 j = q j := by
  intro j hj
  unfold c_tells
  dsimp only
  split
  · rfl
  · exact f_valueX_k nf f q _ j hj
