/-! what reads a text: words, signs -/
def Rd2 (p0 p : am_F) : Prop := RdI p ∧ ∀ k j, ¬ (k = 0 ∧ 2 ≤ j ∧ j ≤ 5) → p k j = p0 k j
theorem Rd2.rf {p : am_F} (q : RdI p) : Rd2 p p := ⟨q, fun _ _ _ => rfl⟩
theorem Rd2.tr {a b c : am_F} (h : Rd2 a b) (g : Rd2 b c) : Rd2 a c := ⟨g.1, fun k j hk => (g.2 k j hk).trans (h.2 k j hk)⟩
theorem am_put_o {p : am_F} {i : Nat} {v : Int} {k j : Nat} (h : ¬ (k = 0 ∧ j = i)) : am_put p 0 i v k j = p k j := by
  unfold am_put am_up
  split
  · rename_i e; subst e
    split
    · rename_i e; exact absurd ⟨rfl, e⟩ h
    · rfl
  · rfl
theorem Rd2.put {a b : am_F} {i : Nat} {v : Int} (h : Rd2 a b) (hi : 2 ≤ i ∧ i ≤ 5) (q : RdI (am_put b 0 i v)) : Rd2 a (am_put b 0 i v) := ⟨q, fun k j hk => (am_put_o (fun e => hk ⟨e.1, by omega, by omega⟩)).trans (h.2 k j hk)⟩
theorem Rd2.adv {a b : am_F} (h : Rd2 a b) (g : b 0 2 < b 0 1) : Rd2 a (am_put b 0 2 (b 0 2 + 1)) := h.put (by omega) ⟨⟨by show 0 ≤ b 0 2 + 1; have := h.1.1; omega, by show b 0 2 + 1 ≤ b 0 1; omega⟩, h.1.2⟩
theorem Rd2.tok {a b : am_F} (h : Rd2 a b) : Rd2 a (am_put b 0 3 (b 0 2)) := h.put (by omega) (RdI_3 h.1)
theorem Rd2.wrong {a b : am_F} (h : Rd2 a b) (x y : Int) : Rd2 a (c_wrong b x y) := by
  unfold c_wrong
  split
  · exact (h.put (by omega) (RdI_k h.1 (by decide) (by decide) (by decide))).put (by omega) (RdI_k (RdI_k h.1 (by decide) (by decide) (by decide)) (by decide) (by decide) (by decide))
  · exact h
theorem Rd2.peek {ee a b : am_F} (h : Rd2 a b) (t : TpI ee) : Rd2 a (c_peek ee b).2 := by
  have q := c_peek_x h.1 t
  exact ⟨q.1, fun k j hk => (q.2.2.2 k j (fun e => hk ⟨e.1, by omega, by omega⟩)).trans (h.2 k j hk)⟩
theorem Rd2.number {ee a b : am_F} (h : Rd2 a b) (t : TpI ee) (lo hi : Int) : Rd2 a (c_number ee b lo hi).2 := by
  have hw : ∀ x : am_F, Rd2 a x → Rd2 a (am_wh (w_c_number_43 ee) 601 (0, x)).2 := fun x hx => am_wh_iv (P := fun (x : Int × am_F) => Rd2 a x.2) (fun x y hx hf => by
    unfold w_c_number_43 at hf
    dsimp only at hf
    split at hf
    · cases hf
    · split at hf
      · cases hf
      · cases hf
        exact hx.adv (by omega)) (fun x y hx hf => by
    unfold w_c_number_43 at hf
    dsimp only at hf
    split at hf
    · cases hf; exact hx
    · split at hf
      · cases hf; exact hx
      · cases hf) 601 (0, x) hx
  have h1 := h.peek t
  unfold c_number
  dsimp only
  repeat' split
  · exact h
  · exact h1.tok.wrong _ _
  · exact (hw _ h1.tok).wrong _ _
  · exact hw _ h1.tok
  · exact (hw _ h1.tok).wrong _ _
theorem c_number_b (ee b : am_F) {lo hi : Int} (hl : lo ≤ hi) : lo ≤ (c_number ee b lo hi).1 ∧ (c_number ee b lo hi).1 ≤ hi := by
  unfold c_number
  dsimp only
  repeat' split
  all_goals first | exact ⟨Int.le_refl _, hl⟩ | (dsimp only; omega)
theorem Rd2.word {ee a b : am_F} (h : Rd2 a b) (t : TpI ee) : Rd2 a (c_word ee b).2 := by
  have hw : ∀ x : am_F, Rd2 a x → Rd2 a (am_wh (w_c_word_40 ee) 601 x) := fun x hx => am_wh_iv (P := fun (x : am_F) => Rd2 a x) (fun x y hx hf => by
    unfold w_c_word_40 at hf
    dsimp only at hf
    split at hf
    · cases hf
    · split at hf
      · cases hf
      · cases hf
        exact hx.adv (by omega)) (fun x y hx hf => by
    unfold w_c_word_40 at hf
    dsimp only at hf
    split at hf
    · cases hf; exact hx
    · split at hf
      · cases hf; exact hx
      · cases hf) 601 x hx
  have h1 := h.peek t
  unfold c_word
  dsimp only
  repeat' split
  · exact h
  · exact h1.tok.wrong _ _
  · exact hw _ h1.tok
theorem c_word_b {ee b : am_F} (q : RdI b) (t : TpI ee) : 0 - 600 ≤ (c_word ee b).1 ∧ (c_word ee b).1 ≤ 600 := by
  have h := (Rd2.rf q).word t
  have h1 := h.1
  unfold c_word at h1 ⊢
  dsimp only at h1 ⊢
  repeat' split
  all_goals first | (dsimp only; omega) | skip
  all_goals
    rename_i e1 e2
    rw [if_neg e1] at h1
    simp only [if_neg e2] at h1
    obtain ⟨⟨q1, q2⟩, q3, q4, q5⟩ := h1
    dsimp only
    omega
def p_c_isWord_20 (ee : am_F) (pp : am_F) (j : Nat) : Int → Option Int := fun i => (let b35 : Int := (c_byteAt ee pp ((pp 0 3) + i)); (if b35 = am_chr j i.toNat then none else some 0))
theorem L_c_isWord_20 {S : am_S} {d u : Nat} {Q : AO → AH → Prop} {w : AH} {hb sp rb rs : Nat} {po ro : AV} (hl : 109 ≤ w.length) (hp : hb = 1 ∧ sp = 21 ∨ hb = 21 ∧ sp = 1) (hr : rb = 41 ∧ rs = 46 ∨ rb = 46 ∧ rs = 41) (ee : am_F) (hh : am_F) (ss : am_F) (uu : am_F) (vv : am_F) (pp : am_F) (kk : am_F) (rr : am_F) (tt : am_F) (gg : am_F) (aa : am_F) (dd : am_F) (bd : am_F) (ga : am_F) (im : am_F) (j : Nat) (hj : j < 26) (hP : RdI pp) (hTp : TpI ee)  (hd : 4 ≤ d) (B9 : Int) (hB : B9 = am_ln j) : ∀ (n : Nat) (i : Int), i + n = B9 → 0 ≤ i → (am_find (p_c_isWord_20 ee pp j) i n = none → am_T S zX6_isWord d u Q 54 [none, none, none] [] (hfW w hb sp rb rs hb po ro ee hh ss uu vv pp kk rr tt gg aa dd bd ga im)) → (∀ r9, am_find (p_c_isWord_20 ee pp j) i n = some r9 → Q (.inl (some (aI r9))) (hfW w hb sp rb rs hb po ro ee hh ss uu vv pp kk rr tt gg aa dd bd ga im)) → am_T S zX6_isWord d u Q 20 [some (aR 52), some (aX (j + 2)), some (aI i)] [] (hfW w hb sp rb rs hb po ro ee hh ss uu vv pp kk rr tt gg aa dd bd ga im) := by
  intro n
  induction n with
  | zero =>
    intro i hi9 h0i k9 kr9
    have e9 : i = B9 := by omega
    subst e9
    have hP9 := hP
    obtain ⟨⟨vr1, vr2⟩, vr3, vr4, vr5⟩ := hP9
    have hln := am_ln_b hj
    have hln2 : 0 ≤ am_ln j ∧ am_ln j < 100 := by unfold am_ln; omega
    skip
    refine T_iload_n (am_dec tX6_isWord_0 12 rfl) rfl ?_
    refine T_aloadX_n (am_dec tX6_isWord_0 13 rfl) rfl ?_
    refine T_callX (as := []) rfl hj (am_dec tX6_isWord_0 14 rfl) lkX6_61 rfl rfl (Nat.le_of_ble_eq_true rfl) (by omega) (m_slen (d := d - 1) hj (by omega)) (fun _ => ?_)
    refine T_icmp_ge 54 (am_dec tX6_isWord_0 15 rfl) rfl (fun h25 => ?_) (fun h25 => by exfalso; omega)
    refine T_weak (ls' := [none, none, none]) (am_sub_n (am_sub_n (am_sub_n am_sub_nil))) ?_
    exact k9 rfl
  | succ n ih =>
    intro i hi9 h0i k9 kr9
    have hP9 := hP
    obtain ⟨⟨vr1, vr2⟩, vr3, vr4, vr5⟩ := hP9
    have hln := am_ln_b hj
    have hln2 : 0 ≤ am_ln j ∧ am_ln j < 100 := by unfold am_ln; omega
    skip
    refine T_iload_n (am_dec tX6_isWord_0 12 rfl) rfl ?_
    refine T_aloadX_n (am_dec tX6_isWord_0 13 rfl) rfl ?_
    refine T_callX (as := []) rfl hj (am_dec tX6_isWord_0 14 rfl) lkX6_61 rfl rfl (Nat.le_of_ble_eq_true rfl) (by omega) (m_slen (d := d - 1) hj (by omega)) (fun _ => ?_)
    refine T_icmp_ge 54 (am_dec tX6_isWord_0 15 rfl) rfl (fun h25 => by exfalso; omega) (fun h25 => ?_)
    refine T_aload_n (am_dec tX6_isWord_0 16 rfl) rfl ?_
    refine T_aload_n (am_dec tX6_isWord_0 17 rfl) rfl ?_
    refine T_getfield 5 3 (am_dec tX6_isWord_0 18 rfl) flX6_28_5 (show (hfW w hb sp rb rs hb po ro ee hh ss uu vv pp kk rr tt gg aa dd bd ga im)[52]? = some (cO 5 [aR 51, aI (pp 0 1), aI (pp 0 2), aI (pp 0 3), aI (pp 0 4), aI (pp 0 5), po, aI (pp 0 7), aI (pp 0 8), aI (pp 0 9), aI (pp 0 10)]) from (hfW_c hl 52 (by decide))) rfl ?_
    refine T_iload_n (am_dec tX6_isWord_0 19 rfl) rfl ?_
    refine T_iadd ((pp 0 3) + i) (am_dec tX6_isWord_0 20 rfl) rfl ⟨by omega, by omega⟩ ?_
    refine T_callU (as := [aI ((pp 0 3) + i)]) rfl (am_dec tX6_isWord_0 21 rfl) lkX6_53_X5 (show (hfW w hb sp rb rs hb po ro ee hh ss uu vv pp kk rr tt gg aa dd bd ga im)[52]? = some (cO 5 [aR 51, aI (pp 0 1), aI (pp 0 2), aI (pp 0 3), aI (pp 0 4), aI (pp 0 5), po, aI (pp 0 7), aI (pp 0 8), aI (pp 0 9), aI (pp 0 10)]) from (hfW_c hl 52 (by decide))) rfl rfl (Nat.le_of_ble_eq_true rfl) (by omega) (mc_byteAt (d := d - 1) hl hp hr ((pp 0 3) + i)  (by omega) hTp (by omega)) (fun _ => ?_)
    refine T_nm (fun b35 hb35 => ?_)
    have hq35 := c_byteAt_b (pp := pp) hTp ((pp 0 3) + i)
    rw [← hb35] at hq35
    refine T_aloadX_n (am_dec tX6_isWord_0 22 rfl) rfl ?_
    refine T_iload_n (am_dec tX6_isWord_0 23 rfl) rfl ?_
    refine T_callX (as := [aI i]) rfl hj (am_dec tX6_isWord_0 24 rfl) lkX6_65 rfl rfl (Nat.le_of_ble_eq_true rfl) (by omega) (m_charAt (d := d - 1) hj i (by omega) (by omega)) (fun _ => ?_)
    refine T_icmp_eq 48 (am_dec tX6_isWord_0 25 rfl) rfl (fun h43 => ?_) (fun h43 => ?_)
    · refine T_iinc (ls' := [some (aR 52), some (aX (j + 2)), some (aI (i + 1))]) (i + 1) (am_dec tX6_isWord_0 28 rfl) rfl rfl ⟨by omega, by omega⟩ (by decide) rfl ?_
      refine T_goto 20 (am_dec tX6_isWord_0 29 rfl) rfl ?_
      have e9 : (p_c_isWord_20 ee pp j) i = none := (by have s9 := hb35.symm; subst s9; exact (if_pos h43))
      rw [am_find_n e9] at k9 kr9
      exact ih (i + 1) (by omega) (by omega) k9 kr9
    · refine T_iconst 0 (am_dec tX6_isWord_0 26 rfl) rfl ⟨by decide, by decide⟩ ?_
      exact T_zreturn (am_dec tX6_isWord_0 27 rfl) rfl (by first | exact Or.inl rfl | exact Or.inr rfl | omega) (kr9 _ (am_find_y (show (p_c_isWord_20 ee pp j) i = some 0 from (by have s9 := hb35.symm; subst s9; exact (if_neg h43)))))
def c_isWord (ee : am_F) (pp : am_F) (j : Nat) : Int := (if (pp 0 2) - (pp 0 3) = am_ln j then (Option.elim (am_find (p_c_isWord_20 ee pp j) 0 (am_ln j).toNat) 1 (fun r9 => r9)) else 0)
theorem mc_isWord {S : am_S} {d u : Nat} {w : AH} {hb sp rb rs : Nat} {po ro : AV} (hl : 109 ≤ w.length) (hp : hb = 1 ∧ sp = 21 ∨ hb = 21 ∧ sp = 1) (hr : rb = 41 ∧ rs = 46 ∨ rb = 46 ∧ rs = 41) {ee : am_F} {hh : am_F} {ss : am_F} {uu : am_F} {vv : am_F} {pp : am_F} {kk : am_F} {rr : am_F} {tt : am_F} {gg : am_F} {aa : am_F} {dd : am_F} {bd : am_F} {ga : am_F} {im : am_F} (j : Nat) (hj : j < 26) (hP : RdI pp) (hTp : TpI ee)  (hd : 4 ≤ d) : am_Out S zX6_isWord d u [aR 52, aX (j + 2)] (hfW w hb sp rb rs hb po ro ee hh ss uu vv pp kk rr tt gg aa dd bd ga im) (.inl (some (aI (c_isWord ee pp j)))) (hfW w hb sp rb rs hb po ro ee hh ss uu vv pp kk rr tt gg aa dd bd ga im) := by
  have key : ∀ Q : AO → AH → Prop, Q (.inl (some (aI (c_isWord ee pp j)))) (hfW w hb sp rb rs hb po ro ee hh ss uu vv pp kk rr tt gg aa dd bd ga im) → am_M S zX6_isWord d u [aR 52, aX (j + 2)] (hfW w hb sp rb rs hb po ro ee hh ss uu vv pp kk rr tt gg aa dd bd ga im) Q := by
    intro Q hQ
    refine am_body rfl (by decide +kernel) rfl (am_cats_cons rfl ( am_cats_cons rfl (am_cats_nil))) (Nat.le_of_ble_eq_true rfl) (?_ : am_T _ _ _ _ _ 0 [some (aR 52), some (aX (j + 2)), none] [] (hfW w hb sp rb rs hb po ro ee hh ss uu vv pp kk rr tt gg aa dd bd ga im))
    have hP9 := hP
    obtain ⟨⟨vr1, vr2⟩, vr3, vr4, vr5⟩ := hP9
    have hln := am_ln_b hj
    have hln2 : 0 ≤ am_ln j ∧ am_ln j < 100 := by unfold am_ln; omega
    refine T_aload_n (am_dec tX6_isWord_0 0 rfl) rfl ?_
    refine T_getfield 5 2 (am_dec tX6_isWord_0 1 rfl) flX6_25_5 (show (hfW w hb sp rb rs hb po ro ee hh ss uu vv pp kk rr tt gg aa dd bd ga im)[52]? = some (cO 5 [aR 51, aI (pp 0 1), aI (pp 0 2), aI (pp 0 3), aI (pp 0 4), aI (pp 0 5), po, aI (pp 0 7), aI (pp 0 8), aI (pp 0 9), aI (pp 0 10)]) from (hfW_c hl 52 (by decide))) rfl ?_
    refine T_aload_n (am_dec tX6_isWord_0 2 rfl) rfl ?_
    refine T_getfield 5 3 (am_dec tX6_isWord_0 3 rfl) flX6_28_5 (show (hfW w hb sp rb rs hb po ro ee hh ss uu vv pp kk rr tt gg aa dd bd ga im)[52]? = some (cO 5 [aR 51, aI (pp 0 1), aI (pp 0 2), aI (pp 0 3), aI (pp 0 4), aI (pp 0 5), po, aI (pp 0 7), aI (pp 0 8), aI (pp 0 9), aI (pp 0 10)]) from (hfW_c hl 52 (by decide))) rfl ?_
    refine T_isub ((pp 0 2) - (pp 0 3)) (am_dec tX6_isWord_0 4 rfl) rfl ⟨by omega, by omega⟩ ?_
    refine T_aloadX_n (am_dec tX6_isWord_0 5 rfl) rfl ?_
    refine T_callX (as := []) rfl hj (am_dec tX6_isWord_0 6 rfl) lkX6_61 rfl rfl (Nat.le_of_ble_eq_true rfl) (by omega) (m_slen (d := d - 1) hj (by omega)) (fun _ => ?_)
    refine T_icmp_eq 18 (am_dec tX6_isWord_0 7 rfl) rfl (fun h13 => ?_) (fun h13 => ?_)
    · refine T_iconst 0 (am_dec tX6_isWord_0 10 rfl) rfl ⟨by decide, by decide⟩ ?_
      refine T_istore_n (ls' := [some (aR 52), some (aX (j + 2)), some (aI 0)]) (am_dec tX6_isWord_0 11 rfl) (by decide) rfl ?_
      refine L_c_isWord_20 hl hp hr ee hh ss uu vv pp kk rr tt gg aa dd bd ga im j hj hP hTp  (by omega) _ rfl (am_ln j).toNat 0  (by omega) (by omega) (fun hn20 => ?_) (fun r20 hr20 => (am_tr (fun (x9 : Int) => Q (.inl (some (aI (x9)))) (hfW w hb sp rb rs hb po ro ee hh ss uu vv pp kk rr tt gg aa dd bd ga im)) (y := r20) (show (c_isWord ee pp j) = r20 from ((if_pos h13).trans (am_el_s hr20))) hQ))
      refine T_iconst 1 (am_dec tX6_isWord_0 30 rfl) rfl ⟨by decide, by decide⟩ ?_
      exact T_zreturn (am_dec tX6_isWord_0 31 rfl) rfl (by first | exact Or.inl rfl | exact Or.inr rfl | omega) (am_tr (fun (x9 : Int) => Q (.inl (some (aI (x9)))) (hfW w hb sp rb rs hb po ro ee hh ss uu vv pp kk rr tt gg aa dd bd ga im)) (y := 1) (show (c_isWord ee pp j) = 1 from ((if_pos h13).trans (am_el_n hn20))) hQ)
    · refine T_iconst 0 (am_dec tX6_isWord_0 8 rfl) rfl ⟨by decide, by decide⟩ ?_
      exact T_zreturn (am_dec tX6_isWord_0 9 rfl) rfl (by first | exact Or.inl rfl | exact Or.inr rfl | omega) (am_tr (fun (x9 : Int) => Q (.inl (some (aI (x9)))) (hfW w hb sp rb rs hb po ro ee hh ss uu vv pp kk rr tt gg aa dd bd ga im)) (y := 0) (show (c_isWord ee pp j) = 0 from (if_neg h13)) hQ)
  exact key _ ⟨rfl, rfl⟩
theorem c_isWord_b (ee : am_F) (pp : am_F) (j : Nat) : (c_isWord ee pp j) = 0 ∨ (c_isWord ee pp j) = 1 := by
  unfold c_isWord
  split
  · cases e : am_find (p_c_isWord_20 ee pp j) 0 (am_ln j).toNat with
    | none => exact Or.inr rfl
    | some v =>
      have q := am_find_P (P := fun v => v = 0) (fun i v hv => by
        unfold p_c_isWord_20 at hv
        dsimp only at hv
        repeat' split at hv
        all_goals first | cases hv; done | exact (Option.some.inj hv).symm) _ _ e
      exact Or.inl q
  · exact Or.inl rfl
def c_takesWord (ee : am_F) (pp : am_F) (j : Nat) : Int × am_F := (let z1 : Int := (c_fine pp); (if z1 = 0 then (0, pp) else (let u8 : Int × am_F := c_peek ee pp; (let z11 : Int := (c_isLetter ((u8).1)); (if z11 = 0 then (0, (u8).2) else (let u20 : Int × am_F := c_word ee ((u8).2); (let z26 : Int := (c_isWord ee ((u20).2) j); (if z26 = 0 then (0, (am_put (u20).2 0 2 ((u20).2 0 3))) else (1, (u20).2)))))))))
theorem mc_takesWord {S : am_S} {d u : Nat} {w : AH} {hb sp rb rs : Nat} {po ro : AV} (hl : 109 ≤ w.length) (hp : hb = 1 ∧ sp = 21 ∨ hb = 21 ∧ sp = 1) (hr : rb = 41 ∧ rs = 46 ∨ rb = 46 ∧ rs = 41) {ee : am_F} {hh : am_F} {ss : am_F} {uu : am_F} {vv : am_F} {pp : am_F} {kk : am_F} {rr : am_F} {tt : am_F} {gg : am_F} {aa : am_F} {dd : am_F} {bd : am_F} {ga : am_F} {im : am_F} (j : Nat) (hj : j < 26) (hP : RdI pp) (hTp : TpI ee)  (hd : 5 ≤ d) : am_Out S zX6_takesWord d u [aR 52, aX (j + 2)] (hfW w hb sp rb rs hb po ro ee hh ss uu vv pp kk rr tt gg aa dd bd ga im) (.inl (some (aI ((c_takesWord ee pp j).1)))) (hfW w hb sp rb rs hb po ro ee hh ss uu vv ((c_takesWord ee pp j).2) kk rr tt gg aa dd bd ga im) := by
  have key : ∀ Q : AO → AH → Prop, Q (.inl (some (aI ((c_takesWord ee pp j).1)))) (hfW w hb sp rb rs hb po ro ee hh ss uu vv ((c_takesWord ee pp j).2) kk rr tt gg aa dd bd ga im) → am_M S zX6_takesWord d u [aR 52, aX (j + 2)] (hfW w hb sp rb rs hb po ro ee hh ss uu vv pp kk rr tt gg aa dd bd ga im) Q := by
    intro Q hQ
    refine am_body rfl (by decide +kernel) rfl (am_cats_cons rfl ( am_cats_cons rfl (am_cats_nil))) (Nat.le_of_ble_eq_true rfl) (?_ : am_T _ _ _ _ _ 0 [some (aR 52), some (aX (j + 2))] [] (hfW w hb sp rb rs hb po ro ee hh ss uu vv pp kk rr tt gg aa dd bd ga im))
    have hP9 := hP
    obtain ⟨⟨vr1, vr2⟩, vr3, vr4, vr5⟩ := hP9
    refine T_aload_n (am_dec tX6_takesWord_0 0 rfl) rfl ?_
    refine T_callU (as := []) rfl (am_dec tX6_takesWord_0 1 rfl) lkX6_37_X5 (show (hfW w hb sp rb rs hb po ro ee hh ss uu vv pp kk rr tt gg aa dd bd ga im)[52]? = some (cO 5 [aR 51, aI (pp 0 1), aI (pp 0 2), aI (pp 0 3), aI (pp 0 4), aI (pp 0 5), po, aI (pp 0 7), aI (pp 0 8), aI (pp 0 9), aI (pp 0 10)]) from (hfW_c hl 52 (by decide))) rfl rfl (Nat.le_of_ble_eq_true rfl) (by omega) (mc_fine (d := d - 1) hl hp hr    (by omega)) (fun _ => ?_)
    refine T_nm (fun z1 hz1 => ?_)
    have hb1 := c_fine_b pp
    rw [← hz1] at hb1
    refine T_if_eq 17 (am_dec tX6_takesWord_0 2 rfl) rfl (fun h4 => ?_) (fun h4 => ?_)
    · refine T_iconst 0 (am_dec tX6_takesWord_0 7 rfl) rfl ⟨by decide, by decide⟩ ?_
      exact T_zreturn (am_dec tX6_takesWord_0 8 rfl) rfl (by first | exact Or.inl rfl | exact Or.inr rfl | omega) (am_tr (fun (x9 : Int × am_F) => Q (.inl (some (aI (x9.1)))) (hfW w hb sp rb rs hb po ro ee hh ss uu vv x9.2 kk rr tt gg aa dd bd ga im)) (y := (0, pp)) (show (c_takesWord ee pp j) = (0, pp) from (by have s9 := hz1.symm; subst s9; exact (if_pos h4))) hQ)
    · refine T_aload_n (am_dec tX6_takesWord_0 3 rfl) rfl ?_
      refine T_callU (as := []) rfl (am_dec tX6_takesWord_0 4 rfl) lkX6_41_X5 (show (hfW w hb sp rb rs hb po ro ee hh ss uu vv pp kk rr tt gg aa dd bd ga im)[52]? = some (cO 5 [aR 51, aI (pp 0 1), aI (pp 0 2), aI (pp 0 3), aI (pp 0 4), aI (pp 0 5), po, aI (pp 0 7), aI (pp 0 8), aI (pp 0 9), aI (pp 0 10)]) from (hfW_c hl 52 (by decide))) rfl rfl (Nat.le_of_ble_eq_true rfl) (by omega) (mc_peek (d := d - 1) hl hp hr   (by omega) hTp (by omega)) (fun _ => ?_)
      obtain ⟨u8, hu8⟩ : ∃ x9, x9 = c_peek ee pp := ⟨_, rfl⟩
      rw [← hu8]
      obtain ⟨hIu8, hvu8, hwu8, hfu8⟩ : RdI u8.2 ∧ (-1 ≤ u8.1 ∧ u8.1 ≤ 255) ∧ (u8.1 = -1 ∨ u8.2 0 2 < u8.2 0 1) ∧ ∀ k j, ¬ (k = 0 ∧ j = 2) → u8.2 k j = pp k j := by rw [hu8]; exact c_peek_x hP hTp
      have hgu8 := hIu8
      obtain ⟨⟨yr81, yr82⟩, yr83, yr84, yr85⟩ := hgu8
      refine T_callS (as := [aI ((u8).1)]) rfl (am_dec tX6_takesWord_0 5 rfl) lkX6_58 rfl (Nat.le_of_ble_eq_true rfl) (by omega) (mc_isLetter (d := d - 1) hl hp hr ((u8).1)   (by omega)) (fun _ => ?_)
      refine T_nm (fun z11 hz11 => ?_)
      have hb11 := c_isLetter_x ((u8).1)
      rw [← hz11] at hb11
      refine T_if_ne 19 (am_dec tX6_takesWord_0 6 rfl) rfl (fun h14 => ?_) (fun h14 => ?_)
      · refine T_aload_n (am_dec tX6_takesWord_0 9 rfl) rfl ?_
        refine T_callU (as := []) rfl (am_dec tX6_takesWord_0 10 rfl) lkX6_69_X5 (show (hfW w hb sp rb rs hb po ro ee hh ss uu vv ((u8).2) kk rr tt gg aa dd bd ga im)[52]? = some (cO 5 [aR 51, aI ((u8).2 0 1), aI ((u8).2 0 2), aI ((u8).2 0 3), aI ((u8).2 0 4), aI ((u8).2 0 5), po, aI ((u8).2 0 7), aI ((u8).2 0 8), aI ((u8).2 0 9), aI ((u8).2 0 10)]) from (hfW_c hl 52 (by decide))) rfl rfl (Nat.le_of_ble_eq_true rfl) (by omega) (mc_word (d := d - 1) hl hp hr   hIu8 hTp (by omega)) (fun _ => ?_)
        obtain ⟨u20, hu20⟩ : ∃ x9, x9 = c_word ee ((u8).2) := ⟨_, rfl⟩
        rw [← hu20]
        have hxu20 : Rd2 ((u8).2) u20.2 := by rw [hu20]; exact (Rd2.rf hIu8).word hTp
        have hIu20 := hxu20.1
        have hgu20 := hIu20
        obtain ⟨⟨yr201, yr202⟩, yr203, yr204, yr205⟩ := hgu20
        have heu20_7 : u20.2 0 7 = (u8).2 0 7 := hxu20.2 0 7 (by decide)
        have heu20_8 : u20.2 0 8 = (u8).2 0 8 := hxu20.2 0 8 (by decide)
        have heu20_9 : u20.2 0 9 = (u8).2 0 9 := hxu20.2 0 9 (by decide)
        have heu20_10 : u20.2 0 10 = (u8).2 0 10 := hxu20.2 0 10 (by decide)
        have hbu20 : 0 - 600 ≤ u20.1 ∧ u20.1 ≤ 600 := by rw [hu20]; exact c_word_b hIu8 hTp
        refine T_pop (am_dec tX6_takesWord_0 11 rfl) rfl ?_
        refine T_aload_n (am_dec tX6_takesWord_0 12 rfl) rfl ?_
        refine T_aloadX_n (am_dec tX6_takesWord_0 13 rfl) rfl ?_
        refine T_callU (as := [aX (j + 2)]) rfl (am_dec tX6_takesWord_0 14 rfl) lkX6_72_X5 (show (hfW w hb sp rb rs hb po ro ee hh ss uu vv ((u20).2) kk rr tt gg aa dd bd ga im)[52]? = some (cO 5 [aR 51, aI ((u20).2 0 1), aI ((u20).2 0 2), aI ((u20).2 0 3), aI ((u20).2 0 4), aI ((u20).2 0 5), po, aI ((u20).2 0 7), aI ((u20).2 0 8), aI ((u20).2 0 9), aI ((u20).2 0 10)]) from (hfW_c hl 52 (by decide))) rfl rfl (Nat.le_of_ble_eq_true rfl) (by omega) (mc_isWord (d := d - 1) hl hp hr  j (by omega) hIu20 hTp (by omega)) (fun _ => ?_)
        refine T_nm (fun z26 hz26 => ?_)
        have hb26 := c_isWord_b ee ((u20).2) j
        rw [← hz26] at hb26
        refine T_if_ne 42 (am_dec tX6_takesWord_0 15 rfl) rfl (fun h29 => ?_) (fun h29 => ?_)
        · refine T_iconst 1 (am_dec tX6_takesWord_0 22 rfl) rfl ⟨by decide, by decide⟩ ?_
          exact T_zreturn (am_dec tX6_takesWord_0 23 rfl) rfl (by first | exact Or.inl rfl | exact Or.inr rfl | omega) (am_tr (fun (x9 : Int × am_F) => Q (.inl (some (aI (x9.1)))) (hfW w hb sp rb rs hb po ro ee hh ss uu vv x9.2 kk rr tt gg aa dd bd ga im)) (y := (1, (u20).2)) (show (c_takesWord ee pp j) = (1, (u20).2) from (by have s9 := hz1.symm; subst s9; have s9 := hu8.symm; subst s9; have s9 := hz11.symm; subst s9; have s9 := hu20.symm; subst s9; have s9 := hz26.symm; subst s9; exact ((if_neg h4).trans ((if_neg h14).trans (if_neg h29))))) hQ)
        · refine T_aload_n (am_dec tX6_takesWord_0 16 rfl) rfl ?_
          refine T_aload_n (am_dec tX6_takesWord_0 17 rfl) rfl ?_
          refine T_getfield 5 3 (am_dec tX6_takesWord_0 18 rfl) flX6_28_5 (show (hfW w hb sp rb rs hb po ro ee hh ss uu vv ((u20).2) kk rr tt gg aa dd bd ga im)[52]? = some (cO 5 [aR 51, aI ((u20).2 0 1), aI ((u20).2 0 2), aI ((u20).2 0 3), aI ((u20).2 0 4), aI ((u20).2 0 5), po, aI ((u20).2 0 7), aI ((u20).2 0 8), aI ((u20).2 0 9), aI ((u20).2 0 10)]) from (hfW_c hl 52 (by decide))) rfl ?_
          refine T_putfield (fs' := [aR 51, aI ((u20).2 0 1), aI ((u20).2 0 3), aI ((u20).2 0 3), aI ((u20).2 0 4), aI ((u20).2 0 5), po, aI ((u20).2 0 7), aI ((u20).2 0 8), aI ((u20).2 0 9), aI ((u20).2 0 10)]) 5 2 (am_dec tX6_takesWord_0 19 rfl) flX6_25_5 rfl rfl rfl trivial (show (hfW w hb sp rb rs hb po ro ee hh ss uu vv ((u20).2) kk rr tt gg aa dd bd ga im)[52]? = some (cO 5 [aR 51, aI ((u20).2 0 1), aI ((u20).2 0 2), aI ((u20).2 0 3), aI ((u20).2 0 4), aI ((u20).2 0 5), po, aI ((u20).2 0 7), aI ((u20).2 0 8), aI ((u20).2 0 9), aI ((u20).2 0 10)]) from (hfW_c hl 52 (by decide))) (Nat.le_of_ble_eq_true rfl) rfl ?_
          refine am_wE (w2 := hfW w hb sp rb rs hb po ro ee hh ss uu vv (am_put (u20).2 0 2 ((u20).2 0 3)) kk rr tt gg aa dd bd ga im) (hf_pp2 hl) ?_
          refine T_iconst 0 (am_dec tX6_takesWord_0 20 rfl) rfl ⟨by decide, by decide⟩ ?_
          exact T_zreturn (am_dec tX6_takesWord_0 21 rfl) rfl (by first | exact Or.inl rfl | exact Or.inr rfl | omega) (am_tr (fun (x9 : Int × am_F) => Q (.inl (some (aI (x9.1)))) (hfW w hb sp rb rs hb po ro ee hh ss uu vv x9.2 kk rr tt gg aa dd bd ga im)) (y := (0, (am_put (u20).2 0 2 ((u20).2 0 3)))) (show (c_takesWord ee pp j) = (0, (am_put (u20).2 0 2 ((u20).2 0 3))) from (by have s9 := hz1.symm; subst s9; have s9 := hu8.symm; subst s9; have s9 := hz11.symm; subst s9; have s9 := hu20.symm; subst s9; have s9 := hz26.symm; subst s9; exact ((if_neg h4).trans ((if_neg h14).trans (if_pos h29))))) hQ)
      · refine T_iconst 0 (am_dec tX6_takesWord_0 7 rfl) rfl ⟨by decide, by decide⟩ ?_
        exact T_zreturn (am_dec tX6_takesWord_0 8 rfl) rfl (by first | exact Or.inl rfl | exact Or.inr rfl | omega) (am_tr (fun (x9 : Int × am_F) => Q (.inl (some (aI (x9.1)))) (hfW w hb sp rb rs hb po ro ee hh ss uu vv x9.2 kk rr tt gg aa dd bd ga im)) (y := (0, (u8).2)) (show (c_takesWord ee pp j) = (0, (u8).2) from (by have s9 := hz1.symm; subst s9; have s9 := hu8.symm; subst s9; have s9 := hz11.symm; subst s9; exact ((if_neg h4).trans (if_pos h14)))) hQ)
  exact key _ ⟨rfl, rfl⟩
def c_takesSign (ee : am_F) (pp : am_F) (sg : Int) : Int × am_F := (let z1 : Int := (c_fine pp); (if z1 = 0 then (0, pp) else (let u8 : Int × am_F := c_peek ee pp; (if (u8).1 = sg then (1, (am_put (am_put (u8).2 0 3 ((u8).2 0 2)) 0 2 (((u8).2 0 2) + 1))) else (0, (u8).2)))))
theorem mc_takesSign {S : am_S} {d u : Nat} {w : AH} {hb sp rb rs : Nat} {po ro : AV} (hl : 109 ≤ w.length) (hp : hb = 1 ∧ sp = 21 ∨ hb = 21 ∧ sp = 1) (hr : rb = 41 ∧ rs = 46 ∨ rb = 46 ∧ rs = 41) {ee : am_F} {hh : am_F} {ss : am_F} {uu : am_F} {vv : am_F} {pp : am_F} {kk : am_F} {rr : am_F} {tt : am_F} {gg : am_F} {aa : am_F} {dd : am_F} {bd : am_F} {ga : am_F} {im : am_F} (sg : Int) (hs0 : 0 ≤ sg) (hP : RdI pp) (hTp : TpI ee)  (hd : 2 ≤ d) : am_Out S zX6_takesSign d u [aR 52, aI sg] (hfW w hb sp rb rs hb po ro ee hh ss uu vv pp kk rr tt gg aa dd bd ga im) (.inl (some (aI ((c_takesSign ee pp sg).1)))) (hfW w hb sp rb rs hb po ro ee hh ss uu vv ((c_takesSign ee pp sg).2) kk rr tt gg aa dd bd ga im) := by
  have key : ∀ Q : AO → AH → Prop, Q (.inl (some (aI ((c_takesSign ee pp sg).1)))) (hfW w hb sp rb rs hb po ro ee hh ss uu vv ((c_takesSign ee pp sg).2) kk rr tt gg aa dd bd ga im) → am_M S zX6_takesSign d u [aR 52, aI sg] (hfW w hb sp rb rs hb po ro ee hh ss uu vv pp kk rr tt gg aa dd bd ga im) Q := by
    intro Q hQ
    refine am_body rfl (by decide +kernel) rfl (am_cats_cons rfl ( am_cats_cons rfl (am_cats_nil))) (Nat.le_of_ble_eq_true rfl) (?_ : am_T _ _ _ _ _ 0 [some (aR 52), some (aI sg)] [] (hfW w hb sp rb rs hb po ro ee hh ss uu vv pp kk rr tt gg aa dd bd ga im))
    have hP9 := hP
    obtain ⟨⟨vr1, vr2⟩, vr3, vr4, vr5⟩ := hP9
    refine T_aload_n (am_dec tX6_takesSign_0 0 rfl) rfl ?_
    refine T_callU (as := []) rfl (am_dec tX6_takesSign_0 1 rfl) lkX6_37_X5 (show (hfW w hb sp rb rs hb po ro ee hh ss uu vv pp kk rr tt gg aa dd bd ga im)[52]? = some (cO 5 [aR 51, aI (pp 0 1), aI (pp 0 2), aI (pp 0 3), aI (pp 0 4), aI (pp 0 5), po, aI (pp 0 7), aI (pp 0 8), aI (pp 0 9), aI (pp 0 10)]) from (hfW_c hl 52 (by decide))) rfl rfl (Nat.le_of_ble_eq_true rfl) (by omega) (mc_fine (d := d - 1) hl hp hr    (by omega)) (fun _ => ?_)
    refine T_nm (fun z1 hz1 => ?_)
    have hb1 := c_fine_b pp
    rw [← hz1] at hb1
    refine T_if_eq 15 (am_dec tX6_takesSign_0 2 rfl) rfl (fun h4 => ?_) (fun h4 => ?_)
    · refine T_iconst 0 (am_dec tX6_takesSign_0 7 rfl) rfl ⟨by decide, by decide⟩ ?_
      exact T_zreturn (am_dec tX6_takesSign_0 8 rfl) rfl (by first | exact Or.inl rfl | exact Or.inr rfl | omega) (am_tr (fun (x9 : Int × am_F) => Q (.inl (some (aI (x9.1)))) (hfW w hb sp rb rs hb po ro ee hh ss uu vv x9.2 kk rr tt gg aa dd bd ga im)) (y := (0, pp)) (show (c_takesSign ee pp sg) = (0, pp) from (by have s9 := hz1.symm; subst s9; exact (if_pos h4))) hQ)
    · refine T_aload_n (am_dec tX6_takesSign_0 3 rfl) rfl ?_
      refine T_callU (as := []) rfl (am_dec tX6_takesSign_0 4 rfl) lkX6_41_X5 (show (hfW w hb sp rb rs hb po ro ee hh ss uu vv pp kk rr tt gg aa dd bd ga im)[52]? = some (cO 5 [aR 51, aI (pp 0 1), aI (pp 0 2), aI (pp 0 3), aI (pp 0 4), aI (pp 0 5), po, aI (pp 0 7), aI (pp 0 8), aI (pp 0 9), aI (pp 0 10)]) from (hfW_c hl 52 (by decide))) rfl rfl (Nat.le_of_ble_eq_true rfl) (by omega) (mc_peek (d := d - 1) hl hp hr   (by omega) hTp (by omega)) (fun _ => ?_)
      obtain ⟨u8, hu8⟩ : ∃ x9, x9 = c_peek ee pp := ⟨_, rfl⟩
      rw [← hu8]
      obtain ⟨hIu8, hvu8, hwu8, hfu8⟩ : RdI u8.2 ∧ (-1 ≤ u8.1 ∧ u8.1 ≤ 255) ∧ (u8.1 = -1 ∨ u8.2 0 2 < u8.2 0 1) ∧ ∀ k j, ¬ (k = 0 ∧ j = 2) → u8.2 k j = pp k j := by rw [hu8]; exact c_peek_x hP hTp
      have hgu8 := hIu8
      obtain ⟨⟨yr81, yr82⟩, yr83, yr84, yr85⟩ := hgu8
      refine T_iload_n (am_dec tX6_takesSign_0 5 rfl) rfl ?_
      refine T_icmp_eq 17 (am_dec tX6_takesSign_0 6 rfl) rfl (fun h12 => ?_) (fun h12 => ?_)
      · refine T_aload_n (am_dec tX6_takesSign_0 9 rfl) rfl ?_
        refine T_aload_n (am_dec tX6_takesSign_0 10 rfl) rfl ?_
        refine T_getfield 5 2 (am_dec tX6_takesSign_0 11 rfl) flX6_25_5 (show (hfW w hb sp rb rs hb po ro ee hh ss uu vv ((u8).2) kk rr tt gg aa dd bd ga im)[52]? = some (cO 5 [aR 51, aI ((u8).2 0 1), aI ((u8).2 0 2), aI ((u8).2 0 3), aI ((u8).2 0 4), aI ((u8).2 0 5), po, aI ((u8).2 0 7), aI ((u8).2 0 8), aI ((u8).2 0 9), aI ((u8).2 0 10)]) from (hfW_c hl 52 (by decide))) rfl ?_
        refine T_putfield (fs' := [aR 51, aI ((u8).2 0 1), aI ((u8).2 0 2), aI ((u8).2 0 2), aI ((u8).2 0 4), aI ((u8).2 0 5), po, aI ((u8).2 0 7), aI ((u8).2 0 8), aI ((u8).2 0 9), aI ((u8).2 0 10)]) 5 3 (am_dec tX6_takesSign_0 12 rfl) flX6_28_5 rfl rfl rfl trivial (show (hfW w hb sp rb rs hb po ro ee hh ss uu vv ((u8).2) kk rr tt gg aa dd bd ga im)[52]? = some (cO 5 [aR 51, aI ((u8).2 0 1), aI ((u8).2 0 2), aI ((u8).2 0 3), aI ((u8).2 0 4), aI ((u8).2 0 5), po, aI ((u8).2 0 7), aI ((u8).2 0 8), aI ((u8).2 0 9), aI ((u8).2 0 10)]) from (hfW_c hl 52 (by decide))) (Nat.le_of_ble_eq_true rfl) rfl ?_
        refine am_wE (w2 := hfW w hb sp rb rs hb po ro ee hh ss uu vv (am_put (u8).2 0 3 ((u8).2 0 2)) kk rr tt gg aa dd bd ga im) (hf_pp3 hl) ?_
        refine T_aload_n (am_dec tX6_takesSign_0 13 rfl) rfl ?_
        refine T_dup (am_dec tX6_takesSign_0 14 rfl) rfl ?_
        refine T_getfield 5 2 (am_dec tX6_takesSign_0 15 rfl) flX6_25_5 (show (hfW w hb sp rb rs hb po ro ee hh ss uu vv (am_put (u8).2 0 3 ((u8).2 0 2)) kk rr tt gg aa dd bd ga im)[52]? = some (cO 5 [aR 51, aI ((u8).2 0 1), aI ((u8).2 0 2), aI ((u8).2 0 2), aI ((u8).2 0 4), aI ((u8).2 0 5), po, aI ((u8).2 0 7), aI ((u8).2 0 8), aI ((u8).2 0 9), aI ((u8).2 0 10)]) from (hfW_c hl 52 (by decide))) rfl ?_
        refine T_iconst 1 (am_dec tX6_takesSign_0 16 rfl) rfl ⟨by decide, by decide⟩ ?_
        refine T_iadd (((u8).2 0 2) + 1) (am_dec tX6_takesSign_0 17 rfl) rfl ⟨by omega, by omega⟩ ?_
        refine T_putfield (fs' := [aR 51, aI ((u8).2 0 1), aI (((u8).2 0 2) + 1), aI ((u8).2 0 2), aI ((u8).2 0 4), aI ((u8).2 0 5), po, aI ((u8).2 0 7), aI ((u8).2 0 8), aI ((u8).2 0 9), aI ((u8).2 0 10)]) 5 2 (am_dec tX6_takesSign_0 18 rfl) flX6_25_5 rfl rfl rfl trivial (show (hfW w hb sp rb rs hb po ro ee hh ss uu vv (am_put (u8).2 0 3 ((u8).2 0 2)) kk rr tt gg aa dd bd ga im)[52]? = some (cO 5 [aR 51, aI ((u8).2 0 1), aI ((u8).2 0 2), aI ((u8).2 0 2), aI ((u8).2 0 4), aI ((u8).2 0 5), po, aI ((u8).2 0 7), aI ((u8).2 0 8), aI ((u8).2 0 9), aI ((u8).2 0 10)]) from (hfW_c hl 52 (by decide))) (Nat.le_of_ble_eq_true rfl) rfl ?_
        refine am_wE (w2 := hfW w hb sp rb rs hb po ro ee hh ss uu vv (am_put (am_put (u8).2 0 3 ((u8).2 0 2)) 0 2 (((u8).2 0 2) + 1)) kk rr tt gg aa dd bd ga im) (hf_pp2 hl) ?_
        refine T_iconst 1 (am_dec tX6_takesSign_0 19 rfl) rfl ⟨by decide, by decide⟩ ?_
        exact T_zreturn (am_dec tX6_takesSign_0 20 rfl) rfl (by first | exact Or.inl rfl | exact Or.inr rfl | omega) (am_tr (fun (x9 : Int × am_F) => Q (.inl (some (aI (x9.1)))) (hfW w hb sp rb rs hb po ro ee hh ss uu vv x9.2 kk rr tt gg aa dd bd ga im)) (y := (1, (am_put (am_put (u8).2 0 3 ((u8).2 0 2)) 0 2 (((u8).2 0 2) + 1)))) (show (c_takesSign ee pp sg) = (1, (am_put (am_put (u8).2 0 3 ((u8).2 0 2)) 0 2 (((u8).2 0 2) + 1))) from (by have s9 := hz1.symm; subst s9; have s9 := hu8.symm; subst s9; exact ((if_neg h4).trans (if_pos h12)))) hQ)
      · refine T_iconst 0 (am_dec tX6_takesSign_0 7 rfl) rfl ⟨by decide, by decide⟩ ?_
        exact T_zreturn (am_dec tX6_takesSign_0 8 rfl) rfl (by first | exact Or.inl rfl | exact Or.inr rfl | omega) (am_tr (fun (x9 : Int × am_F) => Q (.inl (some (aI (x9.1)))) (hfW w hb sp rb rs hb po ro ee hh ss uu vv x9.2 kk rr tt gg aa dd bd ga im)) (y := (0, (u8).2)) (show (c_takesSign ee pp sg) = (0, (u8).2) from (by have s9 := hz1.symm; subst s9; have s9 := hu8.symm; subst s9; exact ((if_neg h4).trans (if_neg h12)))) hQ)
  exact key _ ⟨rfl, rfl⟩
theorem Rd2.takesSign {ee a b : am_F} (h : Rd2 a b) (t : TpI ee) {sg : Int} (hs : 0 ≤ sg) : Rd2 a (c_takesSign ee b sg).2 := by
  have q := c_peek_x h.1 t
  have h1 := h.peek t
  unfold c_takesSign
  dsimp only
  repeat' split
  · exact h
  · exact h1.tok.adv (by show (c_peek ee b).2 0 2 < (c_peek ee b).2 0 1; omega)
  · exact h1
theorem c_takesSign_b (ee b : am_F) (sg : Int) : (c_takesSign ee b sg).1 = 0 ∨ (c_takesSign ee b sg).1 = 1 := by
  unfold c_takesSign
  dsimp only
  repeat' split
  all_goals first | exact Or.inl rfl | exact Or.inr rfl
theorem Rd2.takesWord {ee a b : am_F} (h : Rd2 a b) (t : TpI ee) {j : Nat} : Rd2 a (c_takesWord ee b j).2 := by
  have h1 := h.peek t
  have h2 := h1.word t
  unfold c_takesWord
  dsimp only
  repeat' split
  · exact h
  · exact h1
  · exact h2.put (by omega) ⟨⟨h2.1.2.2.1, h2.1.2.2.2⟩, h2.1.2⟩
  · exact h2
theorem c_takesWord_b (ee b : am_F) (j : Nat) : (c_takesWord ee b j).1 = 0 ∨ (c_takesWord ee b j).1 = 1 := by
  unfold c_takesWord
  dsimp only
  repeat' split
  all_goals first | exact Or.inl rfl | exact Or.inr rfl
def c_needSign (ee : am_F) (pp : am_F) (sg : Int) : am_F := (let z1 : Int := (c_fine pp); (if z1 = 0 then pp else (let u9 : Int × am_F := c_takesSign ee pp sg; (if (u9).1 = 0 then c_wrong ((u9).2) 1 ((u9).2 0 2) else ((u9).2)))))
theorem mc_needSign {S : am_S} {d u : Nat} {w : AH} {hb sp rb rs : Nat} {po ro : AV} (hl : 109 ≤ w.length) (hp : hb = 1 ∧ sp = 21 ∨ hb = 21 ∧ sp = 1) (hr : rb = 41 ∧ rs = 46 ∨ rb = 46 ∧ rs = 41) {ee : am_F} {hh : am_F} {ss : am_F} {uu : am_F} {vv : am_F} {pp : am_F} {kk : am_F} {rr : am_F} {tt : am_F} {gg : am_F} {aa : am_F} {dd : am_F} {bd : am_F} {ga : am_F} {im : am_F} (sg : Int) (hs0 : 0 ≤ sg) (hP : RdI pp) (hTp : TpI ee)  (hd : 3 ≤ d) : am_Out S zX6_needSign d u [aR 52, aI sg] (hfW w hb sp rb rs hb po ro ee hh ss uu vv pp kk rr tt gg aa dd bd ga im) (.inl none) (hfW w hb sp rb rs hb po ro ee hh ss uu vv (c_needSign ee pp sg) kk rr tt gg aa dd bd ga im) := by
  have key : ∀ Q : AO → AH → Prop, Q (.inl none) (hfW w hb sp rb rs hb po ro ee hh ss uu vv (c_needSign ee pp sg) kk rr tt gg aa dd bd ga im) → am_M S zX6_needSign d u [aR 52, aI sg] (hfW w hb sp rb rs hb po ro ee hh ss uu vv pp kk rr tt gg aa dd bd ga im) Q := by
    intro Q hQ
    refine am_body rfl (by decide +kernel) rfl (am_cats_cons rfl ( am_cats_cons rfl (am_cats_nil))) (Nat.le_of_ble_eq_true rfl) (?_ : am_T _ _ _ _ _ 0 [some (aR 52), some (aI sg)] [] (hfW w hb sp rb rs hb po ro ee hh ss uu vv pp kk rr tt gg aa dd bd ga im))
    have hP9 := hP
    obtain ⟨⟨vr1, vr2⟩, vr3, vr4, vr5⟩ := hP9
    refine T_aload_n (am_dec tX6_needSign_0 0 rfl) rfl ?_
    refine T_callU (as := []) rfl (am_dec tX6_needSign_0 1 rfl) lkX6_37_X5 (show (hfW w hb sp rb rs hb po ro ee hh ss uu vv pp kk rr tt gg aa dd bd ga im)[52]? = some (cO 5 [aR 51, aI (pp 0 1), aI (pp 0 2), aI (pp 0 3), aI (pp 0 4), aI (pp 0 5), po, aI (pp 0 7), aI (pp 0 8), aI (pp 0 9), aI (pp 0 10)]) from (hfW_c hl 52 (by decide))) rfl rfl (Nat.le_of_ble_eq_true rfl) (by omega) (mc_fine (d := d - 1) hl hp hr    (by omega)) (fun _ => ?_)
    refine T_nm (fun z1 hz1 => ?_)
    have hb1 := c_fine_b pp
    rw [← hz1] at hb1
    have K4 : ∀ (pp4 : am_F), pp4 = (if z1 = 0 then pp else (let u9 : Int × am_F := c_takesSign ee pp sg; (if (u9).1 = 0 then c_wrong ((u9).2) 1 ((u9).2 0 2) else ((u9).2)))) →  am_T S zX6_needSign d u Q 24 [none, none] [] (hfW w hb sp rb rs hb po ro ee hh ss uu vv pp4 kk rr tt gg aa dd bd ga im) := by
      intro pp4 hpp4 
      exact T_return (am_dec tX6_needSign_0 12 rfl) rfl (am_tr (fun (x9 : am_F) => Q (.inl none) (hfW w hb sp rb rs hb po ro ee hh ss uu vv x9 kk rr tt gg aa dd bd ga im)) (y := pp4) (show (c_needSign ee pp sg) = pp4 from (by have s9 := hz1.symm; subst s9; have s9 := hpp4.symm; subst s9; exact rfl)) hQ)
    refine T_if_eq 24 (am_dec tX6_needSign_0 2 rfl) rfl (fun h4 => ?_) (fun h4 => ?_)
    · refine T_weak (ls' := [none, none]) (am_sub_n (am_sub_n am_sub_nil)) ?_
      exact K4 _ (if_pos h4).symm 
    · refine T_aload_n (am_dec tX6_needSign_0 3 rfl) rfl ?_
      refine T_iload_n (am_dec tX6_needSign_0 4 rfl) rfl ?_
      refine T_callU (as := [aI sg]) rfl (am_dec tX6_needSign_0 5 rfl) lkX6_76_X5 (show (hfW w hb sp rb rs hb po ro ee hh ss uu vv pp kk rr tt gg aa dd bd ga im)[52]? = some (cO 5 [aR 51, aI (pp 0 1), aI (pp 0 2), aI (pp 0 3), aI (pp 0 4), aI (pp 0 5), po, aI (pp 0 7), aI (pp 0 8), aI (pp 0 9), aI (pp 0 10)]) from (hfW_c hl 52 (by decide))) rfl rfl (Nat.le_of_ble_eq_true rfl) (by omega) (mc_takesSign (d := d - 1) hl hp hr sg  (by omega) (by omega) hTp (by omega)) (fun _ => ?_)
      obtain ⟨u9, hu9⟩ : ∃ x9, x9 = c_takesSign ee pp sg := ⟨_, rfl⟩
      rw [← hu9]
      have hxu9 : Rd2 pp u9.2 := by rw [hu9]; exact (Rd2.rf hP).takesSign hTp (by omega)
      have hIu9 := hxu9.1
      have hgu9 := hIu9
      obtain ⟨⟨yr91, yr92⟩, yr93, yr94, yr95⟩ := hgu9
      have heu9_7 : u9.2 0 7 = pp 0 7 := hxu9.2 0 7 (by decide)
      have heu9_8 : u9.2 0 8 = pp 0 8 := hxu9.2 0 8 (by decide)
      have heu9_9 : u9.2 0 9 = pp 0 9 := hxu9.2 0 9 (by decide)
      have heu9_10 : u9.2 0 10 = pp 0 10 := hxu9.2 0 10 (by decide)
      have hb9 : u9.1 = 0 ∨ u9.1 = 1 := by rw [hu9]; exact c_takesSign_b _ _ _
      have K12 : ∀ (pp12 : am_F), pp12 = (if (u9).1 = 0 then c_wrong ((u9).2) 1 ((u9).2 0 2) else ((u9).2)) →  am_T S zX6_needSign d u Q 24 [none, none] [] (hfW w hb sp rb rs hb po ro ee hh ss uu vv pp12 kk rr tt gg aa dd bd ga im) := by
        intro pp12 hpp12 
        exact K4 _ (by have s9 := hu9.symm; subst s9; have s9 := hpp12.symm; subst s9; exact (if_neg h4).symm) 
      refine T_if_ne 24 (am_dec tX6_needSign_0 6 rfl) rfl (fun h12 => ?_) (fun h12 => ?_)
      · refine T_weak (ls' := [none, none]) (am_sub_n (am_sub_n am_sub_nil)) ?_
        exact K12 _ (if_neg h12).symm 
      · refine T_aload_n (am_dec tX6_needSign_0 7 rfl) rfl ?_
        refine T_iconst 1 (am_dec tX6_needSign_0 8 rfl) rfl ⟨by decide, by decide⟩ ?_
        refine T_aload_n (am_dec tX6_needSign_0 9 rfl) rfl ?_
        refine T_getfield 5 2 (am_dec tX6_needSign_0 10 rfl) flX6_25_5 (show (hfW w hb sp rb rs hb po ro ee hh ss uu vv ((u9).2) kk rr tt gg aa dd bd ga im)[52]? = some (cO 5 [aR 51, aI ((u9).2 0 1), aI ((u9).2 0 2), aI ((u9).2 0 3), aI ((u9).2 0 4), aI ((u9).2 0 5), po, aI ((u9).2 0 7), aI ((u9).2 0 8), aI ((u9).2 0 9), aI ((u9).2 0 10)]) from (hfW_c hl 52 (by decide))) rfl ?_
        refine T_callU (as := [aI 1, aI ((u9).2 0 2)]) rfl (am_dec tX6_needSign_0 11 rfl) lkX6_49_X5 (show (hfW w hb sp rb rs hb po ro ee hh ss uu vv ((u9).2) kk rr tt gg aa dd bd ga im)[52]? = some (cO 5 [aR 51, aI ((u9).2 0 1), aI ((u9).2 0 2), aI ((u9).2 0 3), aI ((u9).2 0 4), aI ((u9).2 0 5), po, aI ((u9).2 0 7), aI ((u9).2 0 8), aI ((u9).2 0 9), aI ((u9).2 0 10)]) from (hfW_c hl 52 (by decide))) rfl rfl (Nat.le_of_ble_eq_true rfl) (by omega) (mc_wrong (d := d - 1) hl hp hr 1 ((u9).2 0 2)   (by omega)) (fun _ => ?_)
        refine T_nmH (W := fun x9 => hfW w hb sp rb rs hb po ro ee hh ss uu vv x9 kk rr tt gg aa dd bd ga im) (v := c_wrong ((u9).2) 1 ((u9).2 0 2)) (fun pp21 hpp21 => ?_)
        have hIpp21 : RdI pp21 := by rw [hpp21]; exact c_wrong_I hIu9 _ _
        refine T_weak (ls' := [none, none]) (am_sub_n (am_sub_n am_sub_nil)) ?_
        exact K12 _ (by have s9 := hpp21.symm; subst s9; exact (if_pos h12).symm) 
  exact key _ ⟨rfl, rfl⟩
def c_begin (pp : am_F) (n9 : Int) : am_F := (let m7 : Int := (if 600 < n9 then 600 else n9); (am_put (am_put (am_put (am_put (am_put pp 0 1 m7) 0 2 0) 0 3 0) 0 4 0) 0 5 (-1)))
theorem mc_begin {S : am_S} {d u : Nat} {w : AH} {hb sp rb rs : Nat} {po ro : AV} (hl : 109 ≤ w.length) (hp : hb = 1 ∧ sp = 21 ∨ hb = 21 ∧ sp = 1) (hr : rb = 41 ∧ rs = 46 ∨ rb = 46 ∧ rs = 41) {ee : am_F} {hh : am_F} {ss : am_F} {uu : am_F} {vv : am_F} {pp : am_F} {kk : am_F} {rr : am_F} {tt : am_F} {gg : am_F} {aa : am_F} {dd : am_F} {bd : am_F} {ga : am_F} {im : am_F} (n9 : Int) (hn : 0 ≤ n9 ∧ n9 ≤ 600)  (hd : 1 ≤ d) : am_Out S zX6_begin d u [aR 52, aI n9] (hfW w hb sp rb rs hb po ro ee hh ss uu vv pp kk rr tt gg aa dd bd ga im) (.inl none) (hfW w hb sp rb rs hb po ro ee hh ss uu vv (c_begin pp n9) kk rr tt gg aa dd bd ga im) := by
  have key : ∀ Q : AO → AH → Prop, Q (.inl none) (hfW w hb sp rb rs hb po ro ee hh ss uu vv (c_begin pp n9) kk rr tt gg aa dd bd ga im) → am_M S zX6_begin d u [aR 52, aI n9] (hfW w hb sp rb rs hb po ro ee hh ss uu vv pp kk rr tt gg aa dd bd ga im) Q := by
    intro Q hQ
    refine am_body rfl (by decide +kernel) rfl (am_cats_cons rfl ( am_cats_cons rfl (am_cats_nil))) (Nat.le_of_ble_eq_true rfl) (?_ : am_T _ _ _ _ _ 0 [some (aR 52), some (aI n9)] [] (hfW w hb sp rb rs hb po ro ee hh ss uu vv pp kk rr tt gg aa dd bd ga im))
    refine T_aload_n (am_dec tX6_begin_0 0 rfl) rfl ?_
    refine T_iload_n (am_dec tX6_begin_0 1 rfl) rfl ?_
    refine T_aload_n (am_dec tX6_begin_0 2 rfl) rfl ?_
    refine T_getfield 5 0 (am_dec tX6_begin_0 3 rfl) flX6_9_5 (show (hfW w hb sp rb rs hb po ro ee hh ss uu vv pp kk rr tt gg aa dd bd ga im)[52]? = some (cO 5 [aR 51, aI (pp 0 1), aI (pp 0 2), aI (pp 0 3), aI (pp 0 4), aI (pp 0 5), po, aI (pp 0 7), aI (pp 0 8), aI (pp 0 9), aI (pp 0 10)]) from (hfW_c hl 52 (by decide))) rfl ?_
    refine T_alenP (am_dec tX6_begin_0 4 rfl) (by decide) (show (hfW w hb sp rb rs hb po ro ee hh ss uu vv pp kk rr tt gg aa dd bd ga im)[51]? = some (cP 0 600 (ee 1)) from (hfW_c hl 51 (by decide))) (by omega) ?_
    rw [show ((600 : Nat) : Int) = 600 from rfl]
    refine T_mmin (am_dec tX6_begin_0 5 rfl) lkX6_15 (Nat.le_of_ble_eq_true rfl) (by omega) ?_
    obtain ⟨m7, hm7⟩ : ∃ x9 : Int, x9 = (if 600 < n9 then 600 else n9) := ⟨_, rfl⟩
    rw [← hm7]
    refine T_putfield (fs' := [aR 51, aI m7, aI (pp 0 2), aI (pp 0 3), aI (pp 0 4), aI (pp 0 5), po, aI (pp 0 7), aI (pp 0 8), aI (pp 0 9), aI (pp 0 10)]) 5 1 (am_dec tX6_begin_0 6 rfl) flX6_21_5 rfl rfl rfl trivial (show (hfW w hb sp rb rs hb po ro ee hh ss uu vv pp kk rr tt gg aa dd bd ga im)[52]? = some (cO 5 [aR 51, aI (pp 0 1), aI (pp 0 2), aI (pp 0 3), aI (pp 0 4), aI (pp 0 5), po, aI (pp 0 7), aI (pp 0 8), aI (pp 0 9), aI (pp 0 10)]) from (hfW_c hl 52 (by decide))) (Nat.le_of_ble_eq_true rfl) rfl ?_
    refine am_wE (w2 := hfW w hb sp rb rs hb po ro ee hh ss uu vv (am_put pp 0 1 m7) kk rr tt gg aa dd bd ga im) (hf_pp1 hl) ?_
    refine T_aload_n (am_dec tX6_begin_0 7 rfl) rfl ?_
    refine T_iconst 0 (am_dec tX6_begin_0 8 rfl) rfl ⟨by decide, by decide⟩ ?_
    refine T_putfield (fs' := [aR 51, aI m7, aI 0, aI (pp 0 3), aI (pp 0 4), aI (pp 0 5), po, aI (pp 0 7), aI (pp 0 8), aI (pp 0 9), aI (pp 0 10)]) 5 2 (am_dec tX6_begin_0 9 rfl) flX6_25_5 rfl rfl rfl trivial (show (hfW w hb sp rb rs hb po ro ee hh ss uu vv (am_put pp 0 1 m7) kk rr tt gg aa dd bd ga im)[52]? = some (cO 5 [aR 51, aI m7, aI (pp 0 2), aI (pp 0 3), aI (pp 0 4), aI (pp 0 5), po, aI (pp 0 7), aI (pp 0 8), aI (pp 0 9), aI (pp 0 10)]) from (hfW_c hl 52 (by decide))) (Nat.le_of_ble_eq_true rfl) rfl ?_
    refine am_wE (w2 := hfW w hb sp rb rs hb po ro ee hh ss uu vv (am_put (am_put pp 0 1 m7) 0 2 0) kk rr tt gg aa dd bd ga im) (hf_pp2 hl) ?_
    refine T_aload_n (am_dec tX6_begin_0 10 rfl) rfl ?_
    refine T_iconst 0 (am_dec tX6_begin_0 11 rfl) rfl ⟨by decide, by decide⟩ ?_
    refine T_putfield (fs' := [aR 51, aI m7, aI 0, aI 0, aI (pp 0 4), aI (pp 0 5), po, aI (pp 0 7), aI (pp 0 8), aI (pp 0 9), aI (pp 0 10)]) 5 3 (am_dec tX6_begin_0 12 rfl) flX6_28_5 rfl rfl rfl trivial (show (hfW w hb sp rb rs hb po ro ee hh ss uu vv (am_put (am_put pp 0 1 m7) 0 2 0) kk rr tt gg aa dd bd ga im)[52]? = some (cO 5 [aR 51, aI m7, aI 0, aI (pp 0 3), aI (pp 0 4), aI (pp 0 5), po, aI (pp 0 7), aI (pp 0 8), aI (pp 0 9), aI (pp 0 10)]) from (hfW_c hl 52 (by decide))) (Nat.le_of_ble_eq_true rfl) rfl ?_
    refine am_wE (w2 := hfW w hb sp rb rs hb po ro ee hh ss uu vv (am_put (am_put (am_put pp 0 1 m7) 0 2 0) 0 3 0) kk rr tt gg aa dd bd ga im) (hf_pp3 hl) ?_
    refine T_aload_n (am_dec tX6_begin_0 13 rfl) rfl ?_
    refine T_iconst 0 (am_dec tX6_begin_0 14 rfl) rfl ⟨by decide, by decide⟩ ?_
    refine T_putfield (fs' := [aR 51, aI m7, aI 0, aI 0, aI 0, aI (pp 0 5), po, aI (pp 0 7), aI (pp 0 8), aI (pp 0 9), aI (pp 0 10)]) 5 4 (am_dec tX6_begin_0 15 rfl) flX6_31_5 rfl rfl rfl trivial (show (hfW w hb sp rb rs hb po ro ee hh ss uu vv (am_put (am_put (am_put pp 0 1 m7) 0 2 0) 0 3 0) kk rr tt gg aa dd bd ga im)[52]? = some (cO 5 [aR 51, aI m7, aI 0, aI 0, aI (pp 0 4), aI (pp 0 5), po, aI (pp 0 7), aI (pp 0 8), aI (pp 0 9), aI (pp 0 10)]) from (hfW_c hl 52 (by decide))) (Nat.le_of_ble_eq_true rfl) rfl ?_
    refine am_wE (w2 := hfW w hb sp rb rs hb po ro ee hh ss uu vv (am_put (am_put (am_put (am_put pp 0 1 m7) 0 2 0) 0 3 0) 0 4 0) kk rr tt gg aa dd bd ga im) (hf_pp4 hl) ?_
    refine T_aload_n (am_dec tX6_begin_0 16 rfl) rfl ?_
    refine T_iconst (-1) (am_dec tX6_begin_0 17 rfl) rfl ⟨by decide, by decide⟩ ?_
    refine T_putfield (fs' := [aR 51, aI m7, aI 0, aI 0, aI 0, aI (-1), po, aI (pp 0 7), aI (pp 0 8), aI (pp 0 9), aI (pp 0 10)]) 5 5 (am_dec tX6_begin_0 18 rfl) flX6_34_5 rfl rfl rfl trivial (show (hfW w hb sp rb rs hb po ro ee hh ss uu vv (am_put (am_put (am_put (am_put pp 0 1 m7) 0 2 0) 0 3 0) 0 4 0) kk rr tt gg aa dd bd ga im)[52]? = some (cO 5 [aR 51, aI m7, aI 0, aI 0, aI 0, aI (pp 0 5), po, aI (pp 0 7), aI (pp 0 8), aI (pp 0 9), aI (pp 0 10)]) from (hfW_c hl 52 (by decide))) (Nat.le_of_ble_eq_true rfl) rfl ?_
    refine am_wE (w2 := hfW w hb sp rb rs hb po ro ee hh ss uu vv (am_put (am_put (am_put (am_put (am_put pp 0 1 m7) 0 2 0) 0 3 0) 0 4 0) 0 5 (-1)) kk rr tt gg aa dd bd ga im) (hf_pp5 hl) ?_
    exact T_return (am_dec tX6_begin_0 19 rfl) rfl (am_tr (fun (x9 : am_F) => Q (.inl none) (hfW w hb sp rb rs hb po ro ee hh ss uu vv x9 kk rr tt gg aa dd bd ga im)) (y := (am_put (am_put (am_put (am_put (am_put pp 0 1 m7) 0 2 0) 0 3 0) 0 4 0) 0 5 (-1))) (show (c_begin pp n9) = (am_put (am_put (am_put (am_put (am_put pp 0 1 m7) 0 2 0) 0 3 0) 0 4 0) 0 5 (-1)) from (by have s9 := hm7.symm; subst s9; exact rfl)) hQ)
  exact key _ ⟨rfl, rfl⟩
