/-! a run's beginnings -/
theorem am_set2 {w : AH} {a : Nat} {c c' : AC} : (w.set a c).set a c' = w.set a c' := List.set_set ..
theorem am_setself {w : AH} {a : Nat} {c : AC} (h : w[a]? = some c) : w = w.set a c := by
  refine am_ovext (fun j => ?_)
  by_cases e : a = j
  · rw [← e, am_gs h, h]
  · rw [List.getElem?_set_ne e]
def am_fill (q : Nat) (f : Nat → Int) (v : Int) : Nat → Int := am_fold (fun i f => am_up f i.toNat v) 0 q f
theorem L_fill {S : am_S} {d u : Nat} {Q : AO → AH → Prop} {w : AH} {a q : Nat} {c0 : AC} (ha : w[a]? = some c0) (hq : q < 1000000) (v len : Int) (hlen : len = q) : ∀ (n : Nat) (i : Int) (f : (Nat → Int)), i + n = (q : Int) → 0 ≤ i → True → (∀ (f' : (Nat → Int)), f' = am_fold (fun i f => am_up f i.toNat v) i n f → True → am_T S zJ7_fill_53178 d u Q 20 [some (aR a), some (aI v), some (aI (q : Int)), some (aI len)] [] (w.set a (cP 0 q f'))) → am_T S zJ7_fill_53178 d u Q 5 [some (aR a), some (aI v), some (aI i), some (aI len)] [] (w.set a (cP 0 q f)) := by
  intro n
  induction n with
  | zero =>
    intro i f hi9 h0i hinv k9
    refine T_iload_n (am_dec tJ7_fill_53178_0 5 rfl) rfl ?_
    refine T_iload_n (am_dec tJ7_fill_53178_0 6 rfl) rfl ?_
    refine T_icmp_ge 20 (am_dec tJ7_fill_53178_0 7 rfl) rfl (fun h7 => ?_) (fun h7 => by exfalso; omega)
    have e9 : i = (q : Int) := by omega
    rw [← e9] at k9
    exact k9 f rfl (by first | exact hinv | omega)
  | succ n ih =>
    intro i f hi9 h0i hinv k9
    refine T_iload_n (am_dec tJ7_fill_53178_0 5 rfl) rfl ?_
    refine T_iload_n (am_dec tJ7_fill_53178_0 6 rfl) rfl ?_
    refine T_icmp_ge 20 (am_dec tJ7_fill_53178_0 7 rfl) rfl (fun h7 => by exfalso; omega) (fun h7 => ?_)
    refine T_aload_n (am_dec tJ7_fill_53178_0 8 rfl) rfl ?_
    refine T_iload_n (am_dec tJ7_fill_53178_0 9 rfl) rfl ?_
    refine T_iload_n (am_dec tJ7_fill_53178_0 10 rfl) rfl ?_
    refine T_iastore (am_dec tJ7_fill_53178_0 11 rfl) (am_gs ha) (by omega) (by omega) ?_
    refine am_wE (w2 := w.set a (cP 0 q (am_up f i.toNat v))) am_set2 ?_
    refine T_iinc (ls' := [some (aR a), some (aI v), some (aI (i + 1)), some (aI len)]) (i + 1) (am_dec tJ7_fill_53178_0 12 rfl) rfl rfl ⟨by omega, by omega⟩ (by decide) rfl ?_
    refine T_goto 5 (am_dec tJ7_fill_53178_0 13 rfl) rfl ?_
    have e9 : (fun i f => am_up f i.toNat v) i f = (am_up f i.toNat v) := rfl
    simp only [am_fold_s, e9] at k9
    exact ih (i + 1) (am_up f i.toNat v) (by omega) (by omega) trivial k9
theorem m_fill {S : am_S} {d u : Nat} {w w1 : AH} {a q : Nat} {f : Nat → Int} (ha : w[a]? = some (cP 0 q f)) (hq : q < 1000000) (v : Int) (e : w.set a (cP 0 q (am_fill q f v)) = w1) : am_Out S zJ7_fill_53178 d u [aR a, aI v] w (.inl none) w1 := by
  refine am_body rfl (by decide +kernel) rfl (am_cats_cons rfl ( am_cats_cons rfl (am_cats_nil))) (Nat.le_of_ble_eq_true rfl) (?_ : am_T _ _ _ _ _ 0 [some (aR a), some (aI v), none, none] [] w)
  refine T_iconst 0 (am_dec tJ7_fill_53178_0 0 rfl) rfl ⟨by decide, by decide⟩ ?_
  refine T_istore_n (ls' := [some (aR a), some (aI v), some (aI 0), none]) (am_dec tJ7_fill_53178_0 1 rfl) (by decide) rfl ?_
  refine T_aload_n (am_dec tJ7_fill_53178_0 2 rfl) rfl ?_
  refine T_alenP (am_dec tJ7_fill_53178_0 3 rfl) (by decide) ha (by omega) ?_
  refine T_istore_n (ls' := [some (aR a), some (aI v), some (aI 0), some (aI ((q : Nat) : Int))]) (am_dec tJ7_fill_53178_0 4 rfl) (by decide) rfl ?_
  refine am_wE (am_setself ha) ?_
  refine L_fill ha hq v ((q : Nat) : Int) rfl q 0 f (by omega) (by omega) trivial (fun f5 hf5 hv5 => ?_)
  exact T_return (am_dec tJ7_fill_53178_0 14 rfl) rfl ⟨rfl, by rw [hf5]; exact e⟩
theorem m_inDoubt {S : am_S} {d u : Nat} {w : AH} {b hb : Nat} {r : am_F} (hl : b + 10 ≤ w.length) (x q : Int) : am_Out S zX9_inDoubt d u [aR b, aI x, aI q] (rnW w b hb r) (.inl none) (rnW w b hb (am_put (am_put r 0 2 x) 0 3 q)) := by
  refine am_body rfl (by decide +kernel) rfl (am_cats_cons rfl ( am_cats_cons rfl ( am_cats_cons rfl (am_cats_nil)))) (Nat.le_of_ble_eq_true rfl) (?_ : am_T _ _ _ _ _ 0 [some (aR b), some (aI x), some (aI q)] [] (rnW w b hb r))
  refine T_aload_n (am_dec tX9_inDoubt_0 0 rfl) rfl ?_
  refine T_iload_n (am_dec tX9_inDoubt_0 1 rfl) rfl ?_
  refine T_putfield (fs' := [aR hb, aI (r 0 1), aI x, aI (r 0 3), aI (r 0 4), aI (r 0 5), aR (b + 1), aR (b + 2), aR (b + 3), aR (b + 4), aR (b + 5), aR (b + 6), aR (b + 7), aR (b + 8), aR (b + 9)]) 8 2 (am_dec tX9_inDoubt_0 2 rfl) flX9_78_8 rfl rfl rfl trivial (show (rnW w b hb r)[b]? = some (cO 8 [aR hb, aI (r 0 1), aI (r 0 2), aI (r 0 3), aI (r 0 4), aI (r 0 5), aR (b + 1), aR (b + 2), aR (b + 3), aR (b + 4), aR (b + 5), aR (b + 6), aR (b + 7), aR (b + 8), aR (b + 9)]) from rnW_Rn hl 0 (by decide)) (Nat.le_of_ble_eq_true rfl) rfl ?_
  refine am_wE (w2 := rnW w b hb (am_put r 0 2 x)) rnW_f2 ?_
  refine T_aload_n (am_dec tX9_inDoubt_0 3 rfl) rfl ?_
  refine T_iload_n (am_dec tX9_inDoubt_0 4 rfl) rfl ?_
  refine T_putfield (fs' := [aR hb, aI (r 0 1), aI x, aI q, aI (r 0 4), aI (r 0 5), aR (b + 1), aR (b + 2), aR (b + 3), aR (b + 4), aR (b + 5), aR (b + 6), aR (b + 7), aR (b + 8), aR (b + 9)]) 8 3 (am_dec tX9_inDoubt_0 5 rfl) flX9_51_8 rfl rfl rfl trivial (show (rnW w b hb (am_put r 0 2 x))[b]? = some (cO 8 [aR hb, aI (r 0 1), aI x, aI (r 0 3), aI (r 0 4), aI (r 0 5), aR (b + 1), aR (b + 2), aR (b + 3), aR (b + 4), aR (b + 5), aR (b + 6), aR (b + 7), aR (b + 8), aR (b + 9)]) from rnW_Rn hl 0 (by decide)) (Nat.le_of_ble_eq_true rfl) rfl ?_
  refine am_wE (w2 := rnW w b hb (am_put (am_put r 0 2 x) 0 3 q)) rnW_f3 ?_
  exact T_return (am_dec tX9_inDoubt_0 6 rfl) rfl ⟨rfl, rfl⟩
theorem m_withLamp {S : am_S} {d u : Nat} {w : AH} {b hb : Nat} {r : am_F} (hl : b + 10 ≤ w.length) (x q : Int) : am_Out S zX9_withLamp d u [aR b, aI x, aI q] (rnW w b hb r) (.inl none) (rnW w b hb (am_put (am_put r 0 4 x) 0 5 q)) := by
  refine am_body rfl (by decide +kernel) rfl (am_cats_cons rfl ( am_cats_cons rfl ( am_cats_cons rfl (am_cats_nil)))) (Nat.le_of_ble_eq_true rfl) (?_ : am_T _ _ _ _ _ 0 [some (aR b), some (aI x), some (aI q)] [] (rnW w b hb r))
  refine T_aload_n (am_dec tX9_withLamp_0 0 rfl) rfl ?_
  refine T_iload_n (am_dec tX9_withLamp_0 1 rfl) rfl ?_
  refine T_putfield (fs' := [aR hb, aI (r 0 1), aI (r 0 2), aI (r 0 3), aI x, aI (r 0 5), aR (b + 1), aR (b + 2), aR (b + 3), aR (b + 4), aR (b + 5), aR (b + 6), aR (b + 7), aR (b + 8), aR (b + 9)]) 8 4 (am_dec tX9_withLamp_0 2 rfl) flX9_54_8 rfl rfl rfl trivial (show (rnW w b hb r)[b]? = some (cO 8 [aR hb, aI (r 0 1), aI (r 0 2), aI (r 0 3), aI (r 0 4), aI (r 0 5), aR (b + 1), aR (b + 2), aR (b + 3), aR (b + 4), aR (b + 5), aR (b + 6), aR (b + 7), aR (b + 8), aR (b + 9)]) from rnW_Rn hl 0 (by decide)) (Nat.le_of_ble_eq_true rfl) rfl ?_
  refine am_wE (w2 := rnW w b hb (am_put r 0 4 x)) rnW_f4 ?_
  refine T_aload_n (am_dec tX9_withLamp_0 3 rfl) rfl ?_
  refine T_iload_n (am_dec tX9_withLamp_0 4 rfl) rfl ?_
  refine T_putfield (fs' := [aR hb, aI (r 0 1), aI (r 0 2), aI (r 0 3), aI x, aI q, aR (b + 1), aR (b + 2), aR (b + 3), aR (b + 4), aR (b + 5), aR (b + 6), aR (b + 7), aR (b + 8), aR (b + 9)]) 8 5 (am_dec tX9_withLamp_0 5 rfl) flX9_81_8 rfl rfl rfl trivial (show (rnW w b hb (am_put r 0 4 x))[b]? = some (cO 8 [aR hb, aI (r 0 1), aI (r 0 2), aI (r 0 3), aI x, aI (r 0 5), aR (b + 1), aR (b + 2), aR (b + 3), aR (b + 4), aR (b + 5), aR (b + 6), aR (b + 7), aR (b + 8), aR (b + 9)]) from rnW_Rn hl 0 (by decide)) (Nat.le_of_ble_eq_true rfl) rfl ?_
  refine am_wE (w2 := rnW w b hb (am_put (am_put r 0 4 x) 0 5 q)) rnW_f5 ?_
  exact T_return (am_dec tX9_withLamp_0 6 rfl) rfl ⟨rfl, rfl⟩
def f_duel0 (r : am_F) : am_F := am_put (am_put r 0 3 0) 0 4 (-1)
def f_duel1 (r r2 : am_F) (step cell : Int) : am_F := am_put (am_put (am_row (f_duel0 r) 1 (am_cpy (r2 1) (r 1) ((step + 1) * 90).toNat ((step + 1) * 90).toNat (90 : Int).toNat)) 1 ((step + 1) * 90 + cell).toNat 0) 0 1 (step + 1)
def f_duel (r r2 : am_F) (step cell : Int) : am_F := if (0 ≤ step ∧ step < 40) ∧ 0 ≤ cell ∧ cell < 90 then f_addUp (f_duel1 r r2 step cell) (step + 1) else f_duel0 r
theorem f_duel1_f {r r2 : am_F} {step cell : Int} (hF : RnF r) (hF2 : RnF r2) : RnF (f_duel1 r r2 step cell) := by
  refine FgB.put (r := am_row (f_duel0 r) 1 _) (fun j => ?_) (by omega)
  show 0 ≤ am_cpy (r2 1) (r 1) _ _ _ j ∧ am_cpy (r2 1) (r 1) _ _ _ j ≤ 99
  unfold am_cpy
  split
  · exact hF2 _
  · exact hF _
theorem m_duel {S : am_S} {d u : Nat} {w : AH} {b hb o c : Nat} {r r2 h : am_F} (hl : b + 10 ≤ w.length) (hx2 : o + 10 ≤ b ∨ b + 10 ≤ o) (hR2 : Rn w o c r2) (hx : c + 20 ≤ b ∨ b + 10 ≤ c) (hH : Hb w c h) (hV : HbV h) (hF : RnF r) (hF2 : RnF r2) (step cell : Int) (hd : 2 ≤ d) : am_Out S zX9_duel d u [aR b, aR o, aI step, aI cell] (rnW w b hb r) (.inl none) (rnW w b c (f_duel r r2 step cell)) := by
  refine am_body rfl (by decide +kernel) rfl (am_cats_cons rfl ( am_cats_cons rfl ( am_cats_cons rfl ( am_cats_cons rfl (am_cats_nil))))) (Nat.le_of_ble_eq_true rfl) (?_ : am_T _ _ _ _ _ 0 [some (aR b), some (aR o), some (aI step), some (aI cell), none] [] (rnW w b hb r))
  refine T_aload_n (am_dec tX9_duel_0 0 rfl) rfl ?_
  refine T_aload_n (am_dec tX9_duel_0 1 rfl) rfl ?_
  refine T_getfield 8 0 (am_dec tX9_duel_0 2 rfl) flX9_43_8 ((rnW_R2 hx2 hR2) 0 (by decide)) rfl ?_
  refine T_putfield (fs' := [aR c, aI (r 0 1), aI (r 0 2), aI (r 0 3), aI (r 0 4), aI (r 0 5), aR (b + 1), aR (b + 2), aR (b + 3), aR (b + 4), aR (b + 5), aR (b + 6), aR (b + 7), aR (b + 8), aR (b + 9)]) 8 0 (am_dec tX9_duel_0 3 rfl) flX9_43_8 rfl rfl rfl trivial (show (rnW w b hb r)[b]? = some (cO 8 [aR hb, aI (r 0 1), aI (r 0 2), aI (r 0 3), aI (r 0 4), aI (r 0 5), aR (b + 1), aR (b + 2), aR (b + 3), aR (b + 4), aR (b + 5), aR (b + 6), aR (b + 7), aR (b + 8), aR (b + 9)]) from rnW_Rn hl 0 (by decide)) (Nat.le_of_ble_eq_true rfl) rfl ?_
  refine am_wE (w2 := rnW w b c r) rnW_h ?_
  refine T_aload_n (am_dec tX9_duel_0 4 rfl) rfl ?_
  refine T_iconst 0 (am_dec tX9_duel_0 5 rfl) rfl ⟨by decide, by decide⟩ ?_
  refine T_putfield (fs' := [aR c, aI (r 0 1), aI (r 0 2), aI 0, aI (r 0 4), aI (r 0 5), aR (b + 1), aR (b + 2), aR (b + 3), aR (b + 4), aR (b + 5), aR (b + 6), aR (b + 7), aR (b + 8), aR (b + 9)]) 8 3 (am_dec tX9_duel_0 6 rfl) flX9_51_8 rfl rfl rfl trivial (show (rnW w b c r)[b]? = some (cO 8 [aR c, aI (r 0 1), aI (r 0 2), aI (r 0 3), aI (r 0 4), aI (r 0 5), aR (b + 1), aR (b + 2), aR (b + 3), aR (b + 4), aR (b + 5), aR (b + 6), aR (b + 7), aR (b + 8), aR (b + 9)]) from rnW_Rn hl 0 (by decide)) (Nat.le_of_ble_eq_true rfl) rfl ?_
  refine am_wE (w2 := rnW w b c (am_put r 0 3 0)) rnW_f3 ?_
  refine T_aload_n (am_dec tX9_duel_0 7 rfl) rfl ?_
  refine T_iconst (-1) (am_dec tX9_duel_0 8 rfl) rfl ⟨by decide, by decide⟩ ?_
  refine T_putfield (fs' := [aR c, aI (r 0 1), aI (r 0 2), aI 0, aI (-1), aI (r 0 5), aR (b + 1), aR (b + 2), aR (b + 3), aR (b + 4), aR (b + 5), aR (b + 6), aR (b + 7), aR (b + 8), aR (b + 9)]) 8 4 (am_dec tX9_duel_0 9 rfl) flX9_54_8 rfl rfl rfl trivial (show (rnW w b c (am_put r 0 3 0))[b]? = some (cO 8 [aR c, aI (r 0 1), aI (r 0 2), aI 0, aI (r 0 4), aI (r 0 5), aR (b + 1), aR (b + 2), aR (b + 3), aR (b + 4), aR (b + 5), aR (b + 6), aR (b + 7), aR (b + 8), aR (b + 9)]) from rnW_Rn hl 0 (by decide)) (Nat.le_of_ble_eq_true rfl) rfl ?_
  refine am_wE (w2 := rnW w b c (am_put (am_put r 0 3 0) 0 4 (-1))) rnW_f4 ?_
  refine T_iload_n (am_dec tX9_duel_0 10 rfl) rfl ?_
  refine T_if_lt 87 (am_dec tX9_duel_0 11 rfl) rfl (fun h19 => ?_) (fun h19 => ?_)
  · exact T_return (am_dec tX9_duel_1 11 rfl) rfl ⟨rfl, by unfold f_duel; rw [if_neg (by omega)]; rfl⟩
  · refine T_iload_n (am_dec tX9_duel_0 12 rfl) rfl ?_
    refine T_bipush 40 (am_dec tX9_duel_0 13 rfl) rfl ⟨by decide, by decide⟩ ?_
    refine T_icmp_ge 87 (am_dec tX9_duel_0 14 rfl) rfl (fun h25 => ?_) (fun h25 => ?_)
    · exact T_return (am_dec tX9_duel_1 11 rfl) rfl ⟨rfl, by unfold f_duel; rw [if_neg (by omega)]; rfl⟩
    · refine T_iload_n (am_dec tX9_duel_0 15 rfl) rfl ?_
      refine T_if_lt 87 (am_dec tX9_duel_0 16 rfl) rfl (fun h29 => ?_) (fun h29 => ?_)
      · exact T_return (am_dec tX9_duel_1 11 rfl) rfl ⟨rfl, by unfold f_duel; rw [if_neg (by omega)]; rfl⟩
      · refine T_iload_n (am_dec tX9_duel_0 17 rfl) rfl ?_
        refine T_bipush 90 (am_dec tX9_duel_0 18 rfl) rfl ⟨by decide, by decide⟩ ?_
        refine T_icmp_ge 87 (am_dec tX9_duel_0 19 rfl) rfl (fun h35 => ?_) (fun h35 => ?_)
        · exact T_return (am_dec tX9_duel_1 11 rfl) rfl ⟨rfl, by unfold f_duel; rw [if_neg (by omega)]; rfl⟩
        · refine T_iload_n (am_dec tX9_duel_0 20 rfl) rfl ?_
          refine T_iconst 1 (am_dec tX9_duel_0 21 rfl) rfl ⟨by decide, by decide⟩ ?_
          refine T_iadd (step + 1) (am_dec tX9_duel_0 22 rfl) rfl ⟨by omega, by omega⟩ ?_
          refine T_bipush 90 (am_dec tX9_duel_0 23 rfl) rfl ⟨by decide, by decide⟩ ?_
          refine T_imul ((step + 1) * 90) (am_dec tX9_duel_0 24 rfl) rfl ⟨by omega, by omega⟩ ?_
          refine T_istore (ls' := [some (aR b), some (aR o), some (aI step), some (aI cell), some (aI ((step + 1) * 90))]) (am_dec tX9_duel_0 25 rfl) (by decide) rfl ?_
          refine T_aload_n (am_dec tX9_duel_0 26 rfl) rfl ?_
          refine T_getfield 8 6 (am_dec tX9_duel_0 27 rfl) flX9_11_8 ((rnW_R2 hx2 hR2) 0 (by decide)) rfl ?_
          refine T_iload (am_dec tX9_duel_0 28 rfl) rfl ?_
          refine T_aload_n (am_dec tX9_duel_0 29 rfl) rfl ?_
          refine T_getfield 8 6 (am_dec tX9_duel_0 30 rfl) flX9_11_8 (show (rnW w b c (am_put (am_put r 0 3 0) 0 4 (-1)))[b]? = some (cO 8 [aR c, aI (r 0 1), aI (r 0 2), aI 0, aI (-1), aI (r 0 5), aR (b + 1), aR (b + 2), aR (b + 3), aR (b + 4), aR (b + 5), aR (b + 6), aR (b + 7), aR (b + 8), aR (b + 9)]) from rnW_Rn hl 0 (by decide)) rfl ?_
          refine T_iload (am_dec tX9_duel_0 31 rfl) rfl ?_
          refine T_bipush 90 (am_dec tX9_duel_0 32 rfl) rfl ⟨by decide, by decide⟩ ?_
          refine T_arraycopy (am_dec tX9_duel_0 33 rfl) (⟨am_m2 24 rfl rfl, am_m2 26 rfl rfl, am_m2 25 rfl rfl, am_m1 11 rfl rfl⟩) ((rnW_R2 hx2 hR2) 1 (by decide)) (show (rnW w b c (am_put (am_put r 0 3 0) 0 4 (-1)))[b + 1]? = some (cP 0 3690 (r 1)) from rnW_Rn hl 1 (by decide)) (by omega) (by omega) (by omega) (by omega) (by omega) (Nat.le_of_ble_eq_true rfl) (by omega) ?_
          refine am_wE (w2 := rnW w b c (am_row (am_put (am_put r 0 3 0) 0 4 (-1)) 1 (am_cpy (r2 1) (r 1) ((step + 1) * 90).toNat ((step + 1) * 90).toNat (90 : Int).toNat))) rnW_r1 ?_
          refine T_aload_n (am_dec tX9_duel_0 34 rfl) rfl ?_
          refine T_getfield 8 6 (am_dec tX9_duel_0 35 rfl) flX9_11_8 (show (rnW w b c (am_row (am_put (am_put r 0 3 0) 0 4 (-1)) 1 (am_cpy (r2 1) (r 1) ((step + 1) * 90).toNat ((step + 1) * 90).toNat (90 : Int).toNat)))[b]? = some (cO 8 [aR c, aI (r 0 1), aI (r 0 2), aI 0, aI (-1), aI (r 0 5), aR (b + 1), aR (b + 2), aR (b + 3), aR (b + 4), aR (b + 5), aR (b + 6), aR (b + 7), aR (b + 8), aR (b + 9)]) from rnW_Rn hl 0 (by decide)) rfl ?_
          refine T_iload (am_dec tX9_duel_0 36 rfl) rfl ?_
          refine T_iload_n (am_dec tX9_duel_0 37 rfl) rfl ?_
          refine T_iadd (((step + 1) * 90) + cell) (am_dec tX9_duel_0 38 rfl) rfl ⟨by omega, by omega⟩ ?_
          refine T_iconst 0 (am_dec tX9_duel_0 39 rfl) rfl ⟨by decide, by decide⟩ ?_
          refine T_iastore (am_dec tX9_duel_1 0 rfl) (show (rnW w b c (am_row (am_put (am_put r 0 3 0) 0 4 (-1)) 1 (am_cpy (r2 1) (r 1) ((step + 1) * 90).toNat ((step + 1) * 90).toNat (90 : Int).toNat)))[b + 1]? = some (cP 0 3690 (am_cpy (r2 1) (r 1) ((step + 1) * 90).toNat ((step + 1) * 90).toNat (90 : Int).toNat)) from rnW_Rn hl 1 (by decide)) (by omega) (by omega) ?_
          refine am_wE (w2 := rnW w b c (am_put (am_row (am_put (am_put r 0 3 0) 0 4 (-1)) 1 (am_cpy (r2 1) (r 1) ((step + 1) * 90).toNat ((step + 1) * 90).toNat (90 : Int).toNat)) 1 ((((step + 1) * 90) + cell).toNat) 0)) rnW_p1 ?_
          refine T_aload_n (am_dec tX9_duel_1 1 rfl) rfl ?_
          refine T_iload_n (am_dec tX9_duel_1 2 rfl) rfl ?_
          refine T_iconst 1 (am_dec tX9_duel_1 3 rfl) rfl ⟨by decide, by decide⟩ ?_
          refine T_iadd (step + 1) (am_dec tX9_duel_1 4 rfl) rfl ⟨by omega, by omega⟩ ?_
          refine T_putfield (fs' := [aR c, aI (step + 1), aI (r 0 2), aI 0, aI (-1), aI (r 0 5), aR (b + 1), aR (b + 2), aR (b + 3), aR (b + 4), aR (b + 5), aR (b + 6), aR (b + 7), aR (b + 8), aR (b + 9)]) 8 1 (am_dec tX9_duel_1 5 rfl) flX9_47_8 rfl rfl rfl trivial (show (rnW w b c (am_put (am_row (am_put (am_put r 0 3 0) 0 4 (-1)) 1 (am_cpy (r2 1) (r 1) ((step + 1) * 90).toNat ((step + 1) * 90).toNat (90 : Int).toNat)) 1 ((((step + 1) * 90) + cell).toNat) 0))[b]? = some (cO 8 [aR c, aI (r 0 1), aI (r 0 2), aI 0, aI (-1), aI (r 0 5), aR (b + 1), aR (b + 2), aR (b + 3), aR (b + 4), aR (b + 5), aR (b + 6), aR (b + 7), aR (b + 8), aR (b + 9)]) from rnW_Rn hl 0 (by decide)) (Nat.le_of_ble_eq_true rfl) rfl ?_
          refine am_wE (w2 := rnW w b c (am_put (am_put (am_row (am_put (am_put r 0 3 0) 0 4 (-1)) 1 (am_cpy (r2 1) (r 1) ((step + 1) * 90).toNat ((step + 1) * 90).toNat (90 : Int).toNat)) 1 ((((step + 1) * 90) + cell).toNat) 0) 0 1 (step + 1))) rnW_f1 ?_
          refine T_aload_n (am_dec tX9_duel_1 6 rfl) rfl ?_
          refine T_iload_n (am_dec tX9_duel_1 7 rfl) rfl ?_
          refine T_iconst 1 (am_dec tX9_duel_1 8 rfl) rfl ⟨by decide, by decide⟩ ?_
          refine T_iadd (step + 1) (am_dec tX9_duel_1 9 rfl) rfl ⟨by omega, by omega⟩ ?_
          refine T_callV (as := [aI (step + 1)]) rfl (am_dec tX9_duel_1 10 rfl) lkX9_74 (show (rnW w b c (am_put (am_put (am_row (am_put (am_put r 0 3 0) 0 4 (-1)) 1 (am_cpy (r2 1) (r 1) ((step + 1) * 90).toNat ((step + 1) * 90).toNat (90 : Int).toNat)) 1 ((((step + 1) * 90) + cell).toNat) 0) 0 1 (step + 1)))[b]? = some (cO 8 [aR c, aI (step + 1), aI (r 0 2), aI 0, aI (-1), aI (r 0 5), aR (b + 1), aR (b + 2), aR (b + 3), aR (b + 4), aR (b + 5), aR (b + 6), aR (b + 7), aR (b + 8), aR (b + 9)]) from rnW_Rn hl 0 (by decide)) rfl rfl (Nat.le_of_ble_eq_true rfl) (by omega) (m_addUp hl hx hH hV (f_duel1_f (step := step) (cell := cell) hF hF2) (step + 1) (by omega)) (fun _ => ?_)
          exact T_return (am_dec tX9_duel_1 11 rfl) rfl ⟨rfl, by unfold f_duel; rw [if_pos (by omega)]⟩
def f_beg0 (r : am_F) : am_F := am_put (am_put (am_put r 0 1 0) 0 3 0) 0 4 (-1)
def f_beg1 (h r : am_F) : am_F := am_row (am_row (am_row (f_beg0 r) 1 (am_cpy (h 11) (r 1) (0 : Int).toNat (0 : Int).toNat (90 : Int).toNat)) 8 (am_fill 630 (r 8) 0)) 9 (am_fill 36 (r 9) 0)
def f_begin (h r : am_F) : am_F := f_addUp (f_beg1 h r) 0
def FsB (h : am_F) : Prop := ∀ j, 0 ≤ h 11 j ∧ h 11 j ≤ 99
theorem f_beg1_f {h r : am_F} (hF : RnF r) (hFs : FsB h) : RnF (f_beg1 h r) := fun j => by
  show 0 ≤ am_cpy (h 11) (r 1) _ _ _ j ∧ am_cpy (h 11) (r 1) _ _ _ j ≤ 99
  unfold am_cpy
  split
  · exact hFs _
  · exact hF _
theorem am_ovpre {w : AH} {b n : Nat} {c : Nat → AC} {x : AC} (hn : 0 < n) : am_ov (w.set b x) b n c = am_ov w b n c := by
  refine am_ovext (fun j => ?_)
  by_cases hj : b ≤ j ∧ j < b + n
  · unfold am_ov
    rw [List.getElem?_mapIdx, List.getElem?_mapIdx, List.getElem?_set]
    by_cases e : b = j
    · rw [if_pos e]
      cases h2 : w[j]? with
      | none =>
        have := List.getElem?_eq_none_iff.mp h2
        rw [if_neg (by omega)]
      | some v =>
        have := (List.getElem?_eq_some_iff.mp h2).1
        rw [if_pos (by omega)]
        simp only [Option.map_some]
        rw [if_pos hj, if_pos hj]
    · rw [if_neg e]
  · rw [am_ovo j (by omega), am_ovo j (by omega), List.getElem?_set_ne (by omega)]
/-- a run's cells but for its harbour -/
def Rn0 (w : AH) (b : Nat) (v : AV) (r : am_F) : Prop := w[b]? = some (cO 8 [v, aI (r 0 1), aI (r 0 2), aI (r 0 3), aI (r 0 4), aI (r 0 5), aR (b + 1), aR (b + 2), aR (b + 3), aR (b + 4), aR (b + 5), aR (b + 6), aR (b + 7), aR (b + 8), aR (b + 9)]) ∧ ∀ k, 1 ≤ k → k < 10 → w[b + k]? = some (rnC b 0 r k)
theorem Rn0_set {w : AH} {b c : Nat} {v : AV} {r : am_F} (h : Rn0 w b v r) : Rn (w.set b (rnC b c r 0)) b c r := fun k hk => by
  by_cases e : k = 0
  · rw [e]
    exact am_gs h.1
  · rw [show rnC b c r k = rnC b 0 r k from by
      match k, e with
      | 1, _ => rfl
      | 2, _ => rfl
      | 3, _ => rfl
      | 4, _ => rfl
      | 5, _ => rfl
      | 6, _ => rfl
      | 7, _ => rfl
      | 8, _ => rfl
      | n + 9, _ => rfl]
    exact am_gn (by omega) (h.2 k (by omega) hk)
theorem m_begin {S : am_S} {d u : Nat} {w : AH} {b c : Nat} {v : AV} {r h : am_F} (h0 : Rn0 w b v r) (hx : c + 20 ≤ b ∨ b + 10 ≤ c) (hH0 : Hb w c h) (hV : HbV h) (hF : RnF r) (hFs : FsB h) (hd : 2 ≤ d) : am_Out S zX9_begin d u [aR b, aR c] w (.inl none) (rnW w b c (f_begin h r)) := by
  refine am_body rfl (by decide +kernel) rfl (am_cats_cons rfl ( am_cats_cons rfl (am_cats_nil))) (Nat.le_of_ble_eq_true rfl) (?_ : am_T _ _ _ _ _ 0 [some (aR b), some (aR c)] [] w)
  refine T_aload_n (am_dec tX9_begin_0 0 rfl) rfl ?_
  refine T_aload_n (am_dec tX9_begin_0 1 rfl) rfl ?_
  refine T_putfield (fs' := [aR c, aI (r 0 1), aI (r 0 2), aI (r 0 3), aI (r 0 4), aI (r 0 5), aR (b + 1), aR (b + 2), aR (b + 3), aR (b + 4), aR (b + 5), aR (b + 6), aR (b + 7), aR (b + 8), aR (b + 9)]) 8 0 (am_dec tX9_begin_0 2 rfl) flX9_43_8 rfl rfl rfl trivial h0.1 (Nat.le_of_ble_eq_true rfl) rfl ?_
  obtain ⟨w9, hw9⟩ : ∃ x : AH, x = w.set b (rnC b c r 0) := ⟨_, rfl⟩
  have hR9 : Rn w9 b c r := hw9 ▸ Rn0_set h0
  have hl : b + 10 ≤ w9.length := Rn_len hR9
  have hH : Hb w9 c h := fun k hk => by rw [hw9]; exact am_gn (by omega) (hH0 k hk)
  refine am_wE (w2 := rnW w9 b c r) (hw9.symm.trans (rnW_self hR9).symm) ?_
  refine T_aload_n (am_dec tX9_begin_0 3 rfl) rfl ?_
  refine T_iconst 0 (am_dec tX9_begin_0 4 rfl) rfl ⟨by decide, by decide⟩ ?_
  refine T_putfield (fs' := [aR c, aI 0, aI (r 0 2), aI (r 0 3), aI (r 0 4), aI (r 0 5), aR (b + 1), aR (b + 2), aR (b + 3), aR (b + 4), aR (b + 5), aR (b + 6), aR (b + 7), aR (b + 8), aR (b + 9)]) 8 1 (am_dec tX9_begin_0 5 rfl) flX9_47_8 rfl rfl rfl trivial (show (rnW w9 b c r)[b]? = some (cO 8 [aR c, aI (r 0 1), aI (r 0 2), aI (r 0 3), aI (r 0 4), aI (r 0 5), aR (b + 1), aR (b + 2), aR (b + 3), aR (b + 4), aR (b + 5), aR (b + 6), aR (b + 7), aR (b + 8), aR (b + 9)]) from rnW_Rn hl 0 (by decide)) (Nat.le_of_ble_eq_true rfl) rfl ?_
  refine am_wE (w2 := rnW w9 b c (am_put r 0 1 0)) rnW_f1 ?_
  refine T_aload_n (am_dec tX9_begin_0 6 rfl) rfl ?_
  refine T_iconst 0 (am_dec tX9_begin_0 7 rfl) rfl ⟨by decide, by decide⟩ ?_
  refine T_putfield (fs' := [aR c, aI 0, aI (r 0 2), aI 0, aI (r 0 4), aI (r 0 5), aR (b + 1), aR (b + 2), aR (b + 3), aR (b + 4), aR (b + 5), aR (b + 6), aR (b + 7), aR (b + 8), aR (b + 9)]) 8 3 (am_dec tX9_begin_0 8 rfl) flX9_51_8 rfl rfl rfl trivial (show (rnW w9 b c (am_put r 0 1 0))[b]? = some (cO 8 [aR c, aI 0, aI (r 0 2), aI (r 0 3), aI (r 0 4), aI (r 0 5), aR (b + 1), aR (b + 2), aR (b + 3), aR (b + 4), aR (b + 5), aR (b + 6), aR (b + 7), aR (b + 8), aR (b + 9)]) from rnW_Rn hl 0 (by decide)) (Nat.le_of_ble_eq_true rfl) rfl ?_
  refine am_wE (w2 := rnW w9 b c (am_put (am_put r 0 1 0) 0 3 0)) rnW_f3 ?_
  refine T_aload_n (am_dec tX9_begin_0 9 rfl) rfl ?_
  refine T_iconst (-1) (am_dec tX9_begin_0 10 rfl) rfl ⟨by decide, by decide⟩ ?_
  refine T_putfield (fs' := [aR c, aI 0, aI (r 0 2), aI 0, aI (-1), aI (r 0 5), aR (b + 1), aR (b + 2), aR (b + 3), aR (b + 4), aR (b + 5), aR (b + 6), aR (b + 7), aR (b + 8), aR (b + 9)]) 8 4 (am_dec tX9_begin_0 11 rfl) flX9_54_8 rfl rfl rfl trivial (show (rnW w9 b c (am_put (am_put r 0 1 0) 0 3 0))[b]? = some (cO 8 [aR c, aI 0, aI (r 0 2), aI 0, aI (r 0 4), aI (r 0 5), aR (b + 1), aR (b + 2), aR (b + 3), aR (b + 4), aR (b + 5), aR (b + 6), aR (b + 7), aR (b + 8), aR (b + 9)]) from rnW_Rn hl 0 (by decide)) (Nat.le_of_ble_eq_true rfl) rfl ?_
  refine am_wE (w2 := rnW w9 b c (am_put (am_put (am_put r 0 1 0) 0 3 0) 0 4 (-1))) rnW_f4 ?_
  refine T_aload_n (am_dec tX9_begin_0 12 rfl) rfl ?_
  refine T_getfield 3 13 (am_dec tX9_begin_0 13 rfl) flX9_57_3 ((rnW_Hb hx hH) 0 (by decide)) rfl ?_
  refine T_iconst 0 (am_dec tX9_begin_0 14 rfl) rfl ⟨by decide, by decide⟩ ?_
  refine T_aload_n (am_dec tX9_begin_0 15 rfl) rfl ?_
  refine T_getfield 8 6 (am_dec tX9_begin_0 16 rfl) flX9_11_8 (show (rnW w9 b c (am_put (am_put (am_put r 0 1 0) 0 3 0) 0 4 (-1)))[b]? = some (cO 8 [aR c, aI 0, aI (r 0 2), aI 0, aI (-1), aI (r 0 5), aR (b + 1), aR (b + 2), aR (b + 3), aR (b + 4), aR (b + 5), aR (b + 6), aR (b + 7), aR (b + 8), aR (b + 9)]) from rnW_Rn hl 0 (by decide)) rfl ?_
  refine T_iconst 0 (am_dec tX9_begin_0 17 rfl) rfl ⟨by decide, by decide⟩ ?_
  refine T_bipush 90 (am_dec tX9_begin_0 18 rfl) rfl ⟨by decide, by decide⟩ ?_
  refine T_arraycopy (am_dec tX9_begin_0 19 rfl) (⟨am_m2 24 rfl rfl, am_m2 26 rfl rfl, am_m2 25 rfl rfl, am_m1 11 rfl rfl⟩) ((rnW_Hb hx hH) 19 (by decide)) (show (rnW w9 b c (am_put (am_put (am_put r 0 1 0) 0 3 0) 0 4 (-1)))[b + 1]? = some (cP 0 3690 (r 1)) from rnW_Rn hl 1 (by decide)) (by omega) (by omega) (by omega) (by omega) (by omega) (Nat.le_of_ble_eq_true rfl) (by omega) ?_
  refine am_wE (w2 := rnW w9 b c (am_row (am_put (am_put (am_put r 0 1 0) 0 3 0) 0 4 (-1)) 1 (am_cpy (h 11) (r 1) (0 : Int).toNat (0 : Int).toNat (90 : Int).toNat))) rnW_r1 ?_
  refine T_aload_n (am_dec tX9_begin_0 20 rfl) rfl ?_
  refine T_getfield 8 13 (am_dec tX9_begin_0 21 rfl) flX9_33_8 (show (rnW w9 b c (am_row (am_put (am_put (am_put r 0 1 0) 0 3 0) 0 4 (-1)) 1 (am_cpy (h 11) (r 1) (0 : Int).toNat (0 : Int).toNat (90 : Int).toNat)))[b]? = some (cO 8 [aR c, aI 0, aI (r 0 2), aI 0, aI (-1), aI (r 0 5), aR (b + 1), aR (b + 2), aR (b + 3), aR (b + 4), aR (b + 5), aR (b + 6), aR (b + 7), aR (b + 8), aR (b + 9)]) from rnW_Rn hl 0 (by decide)) rfl ?_
  refine T_iconst 0 (am_dec tX9_begin_0 22 rfl) rfl ⟨by decide, by decide⟩ ?_
  refine T_callS (as := [aR (b + 8), aI 0]) rfl (am_dec tX9_begin_0 23 rfl) lkX9_68 rfl (Nat.le_of_ble_eq_true rfl) (by omega) (m_fill (show (rnW w9 b c (am_row (am_put (am_put (am_put r 0 1 0) 0 3 0) 0 4 (-1)) 1 (am_cpy (h 11) (r 1) (0 : Int).toNat (0 : Int).toNat (90 : Int).toNat)))[b + 8]? = some (cP 0 630 (r 8)) from rnW_Rn hl 8 (by decide)) (by decide) 0 (show _ = rnW w9 b c (am_row (am_row (am_put (am_put (am_put r 0 1 0) 0 3 0) 0 4 (-1)) 1 (am_cpy (h 11) (r 1) (0 : Int).toNat (0 : Int).toNat (90 : Int).toNat)) 8 (am_fill 630 (r 8) 0)) from rnW_r8)) (fun _ => ?_)
  refine T_aload_n (am_dec tX9_begin_0 24 rfl) rfl ?_
  refine T_getfield 8 14 (am_dec tX9_begin_0 25 rfl) flX9_36_8 (show (rnW w9 b c (am_row (am_row (am_put (am_put (am_put r 0 1 0) 0 3 0) 0 4 (-1)) 1 (am_cpy (h 11) (r 1) (0 : Int).toNat (0 : Int).toNat (90 : Int).toNat)) 8 (am_fill 630 (r 8) 0)))[b]? = some (cO 8 [aR c, aI 0, aI (r 0 2), aI 0, aI (-1), aI (r 0 5), aR (b + 1), aR (b + 2), aR (b + 3), aR (b + 4), aR (b + 5), aR (b + 6), aR (b + 7), aR (b + 8), aR (b + 9)]) from rnW_Rn hl 0 (by decide)) rfl ?_
  refine T_iconst 0 (am_dec tX9_begin_0 26 rfl) rfl ⟨by decide, by decide⟩ ?_
  refine T_callS (as := [aR (b + 9), aI 0]) rfl (am_dec tX9_begin_0 27 rfl) lkX9_68 rfl (Nat.le_of_ble_eq_true rfl) (by omega) (m_fill (show (rnW w9 b c (am_row (am_row (am_put (am_put (am_put r 0 1 0) 0 3 0) 0 4 (-1)) 1 (am_cpy (h 11) (r 1) (0 : Int).toNat (0 : Int).toNat (90 : Int).toNat)) 8 (am_fill 630 (r 8) 0)))[b + 9]? = some (cP 0 36 (r 9)) from rnW_Rn hl 9 (by decide)) (by decide) 0 (show _ = rnW w9 b c (am_row (am_row (am_row (am_put (am_put (am_put r 0 1 0) 0 3 0) 0 4 (-1)) 1 (am_cpy (h 11) (r 1) (0 : Int).toNat (0 : Int).toNat (90 : Int).toNat)) 8 (am_fill 630 (r 8) 0)) 9 (am_fill 36 (r 9) 0)) from rnW_r9)) (fun _ => ?_)
  refine T_aload_n (am_dec tX9_begin_0 28 rfl) rfl ?_
  refine T_iconst 0 (am_dec tX9_begin_0 29 rfl) rfl ⟨by decide, by decide⟩ ?_
  refine T_callV (as := [aI 0]) rfl (am_dec tX9_begin_0 30 rfl) lkX9_74 (show (rnW w9 b c (am_row (am_row (am_row (am_put (am_put (am_put r 0 1 0) 0 3 0) 0 4 (-1)) 1 (am_cpy (h 11) (r 1) (0 : Int).toNat (0 : Int).toNat (90 : Int).toNat)) 8 (am_fill 630 (r 8) 0)) 9 (am_fill 36 (r 9) 0)))[b]? = some (cO 8 [aR c, aI 0, aI (r 0 2), aI 0, aI (-1), aI (r 0 5), aR (b + 1), aR (b + 2), aR (b + 3), aR (b + 4), aR (b + 5), aR (b + 6), aR (b + 7), aR (b + 8), aR (b + 9)]) from rnW_Rn hl 0 (by decide)) rfl rfl (Nat.le_of_ble_eq_true rfl) (by omega) (m_addUp hl hx hH hV (f_beg1_f hF hFs) 0 (by omega)) (fun _ => ?_)
  exact T_return (am_dec tX9_begin_0 31 rfl) rfl ⟨rfl, by rw [hw9]; exact am_ovpre (by decide)⟩
