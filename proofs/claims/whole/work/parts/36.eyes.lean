/-! Eyes: a LINE's FOG, who SEES whom -/
theorem am_mul11 {x y : Int} (hx : 0 ≤ x ∧ x ≤ 9) (hy : -11 ≤ y ∧ y ≤ 11) : -99 ≤ x * y ∧ x * y ≤ 99 := by
  have h : x = 0 ∨ x = 1 ∨ x = 2 ∨ x = 3 ∨ x = 4 ∨ x = 5 ∨ x = 6 ∨ x = 7 ∨ x = 8 ∨ x = 9 := by omega
  rcases h with h | h | h | h | h | h | h | h | h | h <;> (rw [h]; omega)
def f_sgn (a b : Int) : Int := if a < b then -1 else if a = b then 0 else 1
theorem m_sgn {S : am_S} {d u : Nat} {w : AH} (a b : Int) : am_Out S zJ6_compare_7cf53 d u [aI a, aI b] w (.inl (some (aI (f_sgn a b)))) w := m_compare a b
def f_wide (fr to : Int) : Int := if 0 ≤ to % 10 - fr % 10 then to % 10 - fr % 10 else 0 - (to % 10 - fr % 10)
def f_high (fr to : Int) : Int := if 0 ≤ to / 10 - fr / 10 then to / 10 - fr / 10 else 0 - (to / 10 - fr / 10)
def f_str (fr to : Int) : Int := f_sgn (to % 10 - fr % 10) 0 + 10 * f_sgn (to / 10 - fr / 10) 0
def g_line (r : am_F) (fr st s i a : Int) : Int := a + f_fogOn r (fr + i * st) s
def f_line (r : am_F) (fr to s : Int) : Int := if f_wide fr to ≠ 0 ∧ f_high fr to ≠ 0 ∧ f_wide fr to ≠ f_high fr to then -1 else am_fold (g_line r fr (f_str fr to) s) 0 ((if f_wide fr to < f_high fr to then f_high fr to else f_wide fr to) + 1).toNat 0
theorem L_line {S : am_S} {d u : Nat} {Q : AO → AH → Prop} {w : AH} {b hb : Nat} {r : am_F} (hR : Rn w b hb r) (hF : RnF r) (fr to s wide high st B : Int) (hfr : 0 ≤ fr ∧ fr ≤ 100) (hwd : 0 ≤ wide ∧ wide ≤ 9) (hhg : 0 ≤ high ∧ high ≤ 9) (hst : -11 ≤ st ∧ st ≤ 11) (hBB : B = (if wide < high then high else wide) + 1) (hd : 2 ≤ d) : ∀ (n : Nat) (i : Int) (acc : Int), i + n = B → 0 ≤ i → 0 ≤ acc ∧ acc ≤ 99 * i → (∀ (acc' : Int), acc' = am_fold (g_line r fr st s) i n acc → 0 ≤ acc' ∧ acc' ≤ 99 * B → am_T S zX2_fogBetween d u Q 114 [some (aR b), some (aI fr), some (aI to), some (aI s), none, none, some (aI wide), some (aI high), some (aI st), some (aI acc'), some (aI B)] [] (w)) → am_T S zX2_fogBetween d u Q 79 [some (aR b), some (aI fr), some (aI to), some (aI s), none, none, some (aI wide), some (aI high), some (aI st), some (aI acc), some (aI i)] [] (w) := by
  intro n
  induction n with
  | zero =>
    intro i acc hi9 h0i hinv k9
    refine T_iload (am_dec tX2_fogBetween_1 5 rfl) rfl ?_
    refine T_iload (am_dec tX2_fogBetween_1 6 rfl) rfl ?_
    refine T_iload (am_dec tX2_fogBetween_1 7 rfl) rfl ?_
    refine T_mmax (am_dec tX2_fogBetween_1 8 rfl) lkX2_30 (Nat.le_of_ble_eq_true rfl) (by omega) ?_
    obtain ⟨m85, hm85⟩ : ∃ x9 : Int, x9 = (if wide < high then high else wide) := ⟨_, rfl⟩
    rw [← hm85]
    refine T_icmp_gt 114 (am_dec tX2_fogBetween_1 9 rfl) rfl (fun h88 => ?_) (fun h88 => by exfalso; omega)
    have e9 : i = B := by omega
    rw [← e9] at k9
    exact k9 acc rfl (by first | exact hinv | omega)
  | succ n ih =>
    intro i acc hi9 h0i hinv k9
    refine T_iload (am_dec tX2_fogBetween_1 5 rfl) rfl ?_
    refine T_iload (am_dec tX2_fogBetween_1 6 rfl) rfl ?_
    refine T_iload (am_dec tX2_fogBetween_1 7 rfl) rfl ?_
    refine T_mmax (am_dec tX2_fogBetween_1 8 rfl) lkX2_30 (Nat.le_of_ble_eq_true rfl) (by omega) ?_
    obtain ⟨m85, hm85⟩ : ∃ x9 : Int, x9 = (if wide < high then high else wide) := ⟨_, rfl⟩
    rw [← hm85]
    refine T_icmp_gt 114 (am_dec tX2_fogBetween_1 9 rfl) rfl (fun h88 => by exfalso; omega) (fun h88 => ?_)
    refine T_iload (am_dec tX2_fogBetween_1 10 rfl) rfl ?_
    refine T_aload_n (am_dec tX2_fogBetween_1 11 rfl) rfl ?_
    refine T_iload_n (am_dec tX2_fogBetween_1 12 rfl) rfl ?_
    refine T_iload (am_dec tX2_fogBetween_1 13 rfl) rfl ?_
    refine T_iload (am_dec tX2_fogBetween_1 14 rfl) rfl ?_
    have q9 := am_mul11 (x := i) (y := st) (by omega) hst
    refine T_imul (i * st) (am_dec tX2_fogBetween_1 15 rfl) rfl ⟨by omega, by omega⟩ ?_
    refine T_iadd (fr + (i * st)) (am_dec tX2_fogBetween_1 16 rfl) rfl ⟨by omega, by omega⟩ ?_
    refine T_iload_n (am_dec tX2_fogBetween_1 17 rfl) rfl ?_
    obtain ⟨p102, q102⟩ := f_fogOn_b hF (fr + (i * st)) s
    refine T_callV (as := [aI (fr + (i * st)), aI s]) rfl (am_dec tX2_fogBetween_1 18 rfl) lkX2_33 (hR 0 (by decide)) rfl rfl (Nat.le_of_ble_eq_true rfl) (by omega) (m_fogOn hR (by omega) (fr + (i * st)) s) (fun _ => ?_)
    refine T_iadd (acc + (f_fogOn r (fr + (i * st)) s)) (am_dec tX2_fogBetween_1 19 rfl) rfl ⟨by omega, by omega⟩ ?_
    refine T_istore (ls' := [some (aR b), some (aI fr), some (aI to), some (aI s), none, none, some (aI wide), some (aI high), some (aI st), some (aI (acc + (f_fogOn r (fr + (i * st)) s))), some (aI i)]) (am_dec tX2_fogBetween_1 20 rfl) (by decide) rfl ?_
    refine T_iinc (ls' := [some (aR b), some (aI fr), some (aI to), some (aI s), none, none, some (aI wide), some (aI high), some (aI st), some (aI (acc + (f_fogOn r (fr + (i * st)) s))), some (aI (i + 1))]) (i + 1) (am_dec tX2_fogBetween_1 21 rfl) rfl rfl ⟨by omega, by omega⟩ (by decide) rfl ?_
    refine T_goto 79 (am_dec tX2_fogBetween_1 22 rfl) rfl ?_
    have e9 : (g_line r fr st s) i acc = acc + (f_fogOn r (fr + (i * st)) s) := rfl
    simp only [am_fold_s, e9] at k9
    exact ih (i + 1) (acc + (f_fogOn r (fr + (i * st)) s)) (by omega) (by omega) (by omega) k9
theorem m_line {S : am_S} {d u : Nat} {w : AH} {b hb : Nat} {r : am_F} (hR : Rn w b hb r) (hF : RnF r) (fr to s : Int) (hfr : 0 ≤ fr ∧ fr ≤ 88) (hto : 0 ≤ to ∧ to ≤ 99) (hd : 3 ≤ d) : am_Out S zX2_fogBetween d u [aR b, aI fr, aI to, aI s] w (.inl (some (aI (f_line r fr to s)))) w := by
  refine am_body rfl (by decide +kernel) rfl (am_cats_cons rfl ( am_cats_cons rfl ( am_cats_cons rfl ( am_cats_cons rfl (am_cats_nil))))) (Nat.le_of_ble_eq_true rfl) (?_ : am_T _ _ _ _ _ 0 [some (aR b), some (aI fr), some (aI to), some (aI s), none, none, none, none, none, none, none] [] w)
  refine T_iload_n (am_dec tX2_fogBetween_0 0 rfl) rfl ?_
  refine T_bipush 10 (am_dec tX2_fogBetween_0 1 rfl) rfl ⟨by decide, by decide⟩ ?_
  refine T_irem (to % 10) (am_dec tX2_fogBetween_0 2 rfl) (by omega) (am_tm (by omega)) ⟨by omega, by omega⟩ ?_
  refine T_iload_n (am_dec tX2_fogBetween_0 3 rfl) rfl ?_
  refine T_bipush 10 (am_dec tX2_fogBetween_0 4 rfl) rfl ⟨by decide, by decide⟩ ?_
  refine T_irem (fr % 10) (am_dec tX2_fogBetween_0 5 rfl) (by omega) (am_tm (by omega)) ⟨by omega, by omega⟩ ?_
  refine T_isub ((to % 10) - (fr % 10)) (am_dec tX2_fogBetween_0 6 rfl) rfl ⟨by omega, by omega⟩ ?_
  refine T_istore (ls' := [some (aR b), some (aI fr), some (aI to), some (aI s), some (aI ((to % 10) - (fr % 10))), none, none, none, none, none, none]) (am_dec tX2_fogBetween_0 7 rfl) (by decide) rfl ?_
  refine T_iload_n (am_dec tX2_fogBetween_0 8 rfl) rfl ?_
  refine T_bipush 10 (am_dec tX2_fogBetween_0 9 rfl) rfl ⟨by decide, by decide⟩ ?_
  refine T_idiv (to / 10) (am_dec tX2_fogBetween_0 10 rfl) (by omega) (am_td (by omega)) ⟨by omega, by omega⟩ ?_
  refine T_iload_n (am_dec tX2_fogBetween_0 11 rfl) rfl ?_
  refine T_bipush 10 (am_dec tX2_fogBetween_0 12 rfl) rfl ⟨by decide, by decide⟩ ?_
  refine T_idiv (fr / 10) (am_dec tX2_fogBetween_0 13 rfl) (by omega) (am_td (by omega)) ⟨by omega, by omega⟩ ?_
  refine T_isub ((to / 10) - (fr / 10)) (am_dec tX2_fogBetween_0 14 rfl) rfl ⟨by omega, by omega⟩ ?_
  refine T_istore (ls' := [some (aR b), some (aI fr), some (aI to), some (aI s), some (aI ((to % 10) - (fr % 10))), some (aI ((to / 10) - (fr / 10))), none, none, none, none, none]) (am_dec tX2_fogBetween_0 15 rfl) (by decide) rfl ?_
  refine T_iload (am_dec tX2_fogBetween_0 16 rfl) rfl ?_
  refine T_mabs (am_dec tX2_fogBetween_0 17 rfl) lkX2_18 (by omega) (Nat.le_of_ble_eq_true rfl) (by omega) ?_
  obtain ⟨m24, hm24⟩ : ∃ x9 : Int, x9 = (if 0 ≤ (to % 10) - (fr % 10) then (to % 10) - (fr % 10) else 0 - ((to % 10) - (fr % 10))) := ⟨_, rfl⟩
  rw [← hm24]
  refine T_istore (ls' := [some (aR b), some (aI fr), some (aI to), some (aI s), some (aI ((to % 10) - (fr % 10))), some (aI ((to / 10) - (fr / 10))), some (aI m24), none, none, none, none]) (am_dec tX2_fogBetween_0 18 rfl) (by decide) rfl ?_
  refine T_iload (am_dec tX2_fogBetween_0 19 rfl) rfl ?_
  refine T_mabs (am_dec tX2_fogBetween_0 20 rfl) lkX2_18 (by omega) (Nat.le_of_ble_eq_true rfl) (by omega) ?_
  obtain ⟨m31, hm31⟩ : ∃ x9 : Int, x9 = (if 0 ≤ (to / 10) - (fr / 10) then (to / 10) - (fr / 10) else 0 - ((to / 10) - (fr / 10))) := ⟨_, rfl⟩
  rw [← hm31]
  refine T_istore (ls' := [some (aR b), some (aI fr), some (aI to), some (aI s), some (aI ((to % 10) - (fr % 10))), some (aI ((to / 10) - (fr / 10))), some (aI m24), some (aI m31), none, none, none]) (am_dec tX2_fogBetween_0 21 rfl) (by decide) rfl ?_
  have ew : f_wide fr to = m24 := hm24.symm
  have eh : f_high fr to = m31 := hm31.symm
  refine T_iload (am_dec tX2_fogBetween_0 22 rfl) rfl ?_
  refine T_if_eq 55 (am_dec tX2_fogBetween_0 23 rfl) rfl (fun h38 => ?_) (fun h38 => ?_)
  · refine T_iload (am_dec tX2_fogBetween_0 31 rfl) rfl ?_
    refine T_iconst 0 (am_dec tX2_fogBetween_0 32 rfl) rfl ⟨by decide, by decide⟩ ?_
    refine T_callS (as := [aI ((to % 10) - (fr % 10)), aI 0]) rfl (am_dec tX2_fogBetween_0 33 rfl) lkX2_24 rfl (Nat.le_of_ble_eq_true rfl) (by omega) (m_sgn ((to % 10) - (fr % 10)) 0) (fun _ => ?_)
    obtain ⟨cp58, hcp58⟩ : ∃ x9 : Int, x9 = f_sgn ((to % 10) - (fr % 10)) 0 := ⟨_, rfl⟩
    rw [← hcp58]
    unfold f_sgn at hcp58
    refine T_bipush 10 (am_dec tX2_fogBetween_0 34 rfl) rfl ⟨by decide, by decide⟩ ?_
    refine T_iload (am_dec tX2_fogBetween_0 35 rfl) rfl ?_
    refine T_iconst 0 (am_dec tX2_fogBetween_0 36 rfl) rfl ⟨by decide, by decide⟩ ?_
    refine T_callS (as := [aI ((to / 10) - (fr / 10)), aI 0]) rfl (am_dec tX2_fogBetween_0 37 rfl) lkX2_24 rfl (Nat.le_of_ble_eq_true rfl) (by omega) (m_sgn ((to / 10) - (fr / 10)) 0) (fun _ => ?_)
    obtain ⟨cp66, hcp66⟩ : ∃ x9 : Int, x9 = f_sgn ((to / 10) - (fr / 10)) 0 := ⟨_, rfl⟩
    rw [← hcp66]
    unfold f_sgn at hcp66
    refine T_imul (10 * cp66) (am_dec tX2_fogBetween_0 38 rfl) rfl ⟨by omega, by omega⟩ ?_
    refine T_iadd (cp58 + (10 * cp66)) (am_dec tX2_fogBetween_0 39 rfl) rfl ⟨by omega, by omega⟩ ?_
    refine T_istore (ls' := [some (aR b), some (aI fr), some (aI to), some (aI s), some (aI ((to % 10) - (fr % 10))), some (aI ((to / 10) - (fr / 10))), some (aI m24), some (aI m31), some (aI (cp58 + (10 * cp66))), none, none]) (am_dec tX2_fogBetween_1 0 rfl) (by decide) rfl ?_
    have es : f_str fr to = cp58 + 10 * cp66 := by unfold f_str f_sgn; rw [hcp58, hcp66]
    refine T_iconst 0 (am_dec tX2_fogBetween_1 1 rfl) rfl ⟨by decide, by decide⟩ ?_
    refine T_istore (ls' := [some (aR b), some (aI fr), some (aI to), some (aI s), some (aI ((to % 10) - (fr % 10))), some (aI ((to / 10) - (fr / 10))), some (aI m24), some (aI m31), some (aI (cp58 + (10 * cp66))), some (aI 0), none]) (am_dec tX2_fogBetween_1 2 rfl) (by decide) rfl ?_
    refine T_iconst 0 (am_dec tX2_fogBetween_1 3 rfl) rfl ⟨by decide, by decide⟩ ?_
    refine T_istore (ls' := [some (aR b), some (aI fr), some (aI to), some (aI s), some (aI ((to % 10) - (fr % 10))), some (aI ((to / 10) - (fr / 10))), some (aI m24), some (aI m31), some (aI (cp58 + (10 * cp66))), some (aI 0), some (aI 0)]) (am_dec tX2_fogBetween_1 4 rfl) (by decide) rfl ?_
    refine T_weak (ls' := [some (aR b), some (aI fr), some (aI to), some (aI s), none, none, some (aI m24), some (aI m31), some (aI (cp58 + (10 * cp66))), some (aI 0), some (aI 0)]) (am_sub_s (am_sub_s (am_sub_s (am_sub_s (am_sub_n (am_sub_n (am_sub_s (am_sub_s (am_sub_s (am_sub_s (am_sub_s am_sub_nil))))))))))) ?_
    refine L_line hR hF fr to s m24 m31 (cp58 + 10 * cp66) ((if m24 < m31 then m31 else m24) + 1) (by omega) (by omega) (by omega) (by omega) rfl (by omega) (((if m24 < m31 then m31 else m24) + 1) - 0).toNat 0 0 (by omega) (by omega) (by omega) (fun acc79 hacc79 hv79 => ?_)
    refine T_iload (am_dec tX2_fogBetween_1 23 rfl) rfl ?_
    exact T_ireturn (am_dec tX2_fogBetween_1 24 rfl) rfl (am_outI (by unfold f_line; rw [ew, eh, es, if_neg (by omega), hacc79, Int.sub_zero]))
  · refine T_iload (am_dec tX2_fogBetween_0 24 rfl) rfl ?_
    refine T_if_eq 55 (am_dec tX2_fogBetween_0 25 rfl) rfl (fun h43 => ?_) (fun h43 => ?_)
    · refine T_iload (am_dec tX2_fogBetween_0 31 rfl) rfl ?_
      refine T_iconst 0 (am_dec tX2_fogBetween_0 32 rfl) rfl ⟨by decide, by decide⟩ ?_
      refine T_callS (as := [aI ((to % 10) - (fr % 10)), aI 0]) rfl (am_dec tX2_fogBetween_0 33 rfl) lkX2_24 rfl (Nat.le_of_ble_eq_true rfl) (by omega) (m_sgn ((to % 10) - (fr % 10)) 0) (fun _ => ?_)
      obtain ⟨cp58, hcp58⟩ : ∃ x9 : Int, x9 = f_sgn ((to % 10) - (fr % 10)) 0 := ⟨_, rfl⟩
      rw [← hcp58]
      unfold f_sgn at hcp58
      refine T_bipush 10 (am_dec tX2_fogBetween_0 34 rfl) rfl ⟨by decide, by decide⟩ ?_
      refine T_iload (am_dec tX2_fogBetween_0 35 rfl) rfl ?_
      refine T_iconst 0 (am_dec tX2_fogBetween_0 36 rfl) rfl ⟨by decide, by decide⟩ ?_
      refine T_callS (as := [aI ((to / 10) - (fr / 10)), aI 0]) rfl (am_dec tX2_fogBetween_0 37 rfl) lkX2_24 rfl (Nat.le_of_ble_eq_true rfl) (by omega) (m_sgn ((to / 10) - (fr / 10)) 0) (fun _ => ?_)
      obtain ⟨cp66, hcp66⟩ : ∃ x9 : Int, x9 = f_sgn ((to / 10) - (fr / 10)) 0 := ⟨_, rfl⟩
      rw [← hcp66]
      unfold f_sgn at hcp66
      refine T_imul (10 * cp66) (am_dec tX2_fogBetween_0 38 rfl) rfl ⟨by omega, by omega⟩ ?_
      refine T_iadd (cp58 + (10 * cp66)) (am_dec tX2_fogBetween_0 39 rfl) rfl ⟨by omega, by omega⟩ ?_
      refine T_istore (ls' := [some (aR b), some (aI fr), some (aI to), some (aI s), some (aI ((to % 10) - (fr % 10))), some (aI ((to / 10) - (fr / 10))), some (aI m24), some (aI m31), some (aI (cp58 + (10 * cp66))), none, none]) (am_dec tX2_fogBetween_1 0 rfl) (by decide) rfl ?_
      have es : f_str fr to = cp58 + 10 * cp66 := by unfold f_str f_sgn; rw [hcp58, hcp66]
      refine T_iconst 0 (am_dec tX2_fogBetween_1 1 rfl) rfl ⟨by decide, by decide⟩ ?_
      refine T_istore (ls' := [some (aR b), some (aI fr), some (aI to), some (aI s), some (aI ((to % 10) - (fr % 10))), some (aI ((to / 10) - (fr / 10))), some (aI m24), some (aI m31), some (aI (cp58 + (10 * cp66))), some (aI 0), none]) (am_dec tX2_fogBetween_1 2 rfl) (by decide) rfl ?_
      refine T_iconst 0 (am_dec tX2_fogBetween_1 3 rfl) rfl ⟨by decide, by decide⟩ ?_
      refine T_istore (ls' := [some (aR b), some (aI fr), some (aI to), some (aI s), some (aI ((to % 10) - (fr % 10))), some (aI ((to / 10) - (fr / 10))), some (aI m24), some (aI m31), some (aI (cp58 + (10 * cp66))), some (aI 0), some (aI 0)]) (am_dec tX2_fogBetween_1 4 rfl) (by decide) rfl ?_
      refine T_weak (ls' := [some (aR b), some (aI fr), some (aI to), some (aI s), none, none, some (aI m24), some (aI m31), some (aI (cp58 + (10 * cp66))), some (aI 0), some (aI 0)]) (am_sub_s (am_sub_s (am_sub_s (am_sub_s (am_sub_n (am_sub_n (am_sub_s (am_sub_s (am_sub_s (am_sub_s (am_sub_s am_sub_nil))))))))))) ?_
      refine L_line hR hF fr to s m24 m31 (cp58 + 10 * cp66) ((if m24 < m31 then m31 else m24) + 1) (by omega) (by omega) (by omega) (by omega) rfl (by omega) (((if m24 < m31 then m31 else m24) + 1) - 0).toNat 0 0 (by omega) (by omega) (by omega) (fun acc79 hacc79 hv79 => ?_)
      refine T_iload (am_dec tX2_fogBetween_1 23 rfl) rfl ?_
      exact T_ireturn (am_dec tX2_fogBetween_1 24 rfl) rfl (am_outI (by unfold f_line; rw [ew, eh, es, if_neg (by omega), hacc79, Int.sub_zero]))
    · refine T_iload (am_dec tX2_fogBetween_0 26 rfl) rfl ?_
      refine T_iload (am_dec tX2_fogBetween_0 27 rfl) rfl ?_
      refine T_icmp_eq 55 (am_dec tX2_fogBetween_0 28 rfl) rfl (fun h50 => ?_) (fun h50 => ?_)
      · refine T_iload (am_dec tX2_fogBetween_0 31 rfl) rfl ?_
        refine T_iconst 0 (am_dec tX2_fogBetween_0 32 rfl) rfl ⟨by decide, by decide⟩ ?_
        refine T_callS (as := [aI ((to % 10) - (fr % 10)), aI 0]) rfl (am_dec tX2_fogBetween_0 33 rfl) lkX2_24 rfl (Nat.le_of_ble_eq_true rfl) (by omega) (m_sgn ((to % 10) - (fr % 10)) 0) (fun _ => ?_)
        obtain ⟨cp58, hcp58⟩ : ∃ x9 : Int, x9 = f_sgn ((to % 10) - (fr % 10)) 0 := ⟨_, rfl⟩
        rw [← hcp58]
        unfold f_sgn at hcp58
        refine T_bipush 10 (am_dec tX2_fogBetween_0 34 rfl) rfl ⟨by decide, by decide⟩ ?_
        refine T_iload (am_dec tX2_fogBetween_0 35 rfl) rfl ?_
        refine T_iconst 0 (am_dec tX2_fogBetween_0 36 rfl) rfl ⟨by decide, by decide⟩ ?_
        refine T_callS (as := [aI ((to / 10) - (fr / 10)), aI 0]) rfl (am_dec tX2_fogBetween_0 37 rfl) lkX2_24 rfl (Nat.le_of_ble_eq_true rfl) (by omega) (m_sgn ((to / 10) - (fr / 10)) 0) (fun _ => ?_)
        obtain ⟨cp66, hcp66⟩ : ∃ x9 : Int, x9 = f_sgn ((to / 10) - (fr / 10)) 0 := ⟨_, rfl⟩
        rw [← hcp66]
        unfold f_sgn at hcp66
        refine T_imul (10 * cp66) (am_dec tX2_fogBetween_0 38 rfl) rfl ⟨by omega, by omega⟩ ?_
        refine T_iadd (cp58 + (10 * cp66)) (am_dec tX2_fogBetween_0 39 rfl) rfl ⟨by omega, by omega⟩ ?_
        refine T_istore (ls' := [some (aR b), some (aI fr), some (aI to), some (aI s), some (aI ((to % 10) - (fr % 10))), some (aI ((to / 10) - (fr / 10))), some (aI m24), some (aI m31), some (aI (cp58 + (10 * cp66))), none, none]) (am_dec tX2_fogBetween_1 0 rfl) (by decide) rfl ?_
        have es : f_str fr to = cp58 + 10 * cp66 := by unfold f_str f_sgn; rw [hcp58, hcp66]
        refine T_iconst 0 (am_dec tX2_fogBetween_1 1 rfl) rfl ⟨by decide, by decide⟩ ?_
        refine T_istore (ls' := [some (aR b), some (aI fr), some (aI to), some (aI s), some (aI ((to % 10) - (fr % 10))), some (aI ((to / 10) - (fr / 10))), some (aI m24), some (aI m31), some (aI (cp58 + (10 * cp66))), some (aI 0), none]) (am_dec tX2_fogBetween_1 2 rfl) (by decide) rfl ?_
        refine T_iconst 0 (am_dec tX2_fogBetween_1 3 rfl) rfl ⟨by decide, by decide⟩ ?_
        refine T_istore (ls' := [some (aR b), some (aI fr), some (aI to), some (aI s), some (aI ((to % 10) - (fr % 10))), some (aI ((to / 10) - (fr / 10))), some (aI m24), some (aI m31), some (aI (cp58 + (10 * cp66))), some (aI 0), some (aI 0)]) (am_dec tX2_fogBetween_1 4 rfl) (by decide) rfl ?_
        refine T_weak (ls' := [some (aR b), some (aI fr), some (aI to), some (aI s), none, none, some (aI m24), some (aI m31), some (aI (cp58 + (10 * cp66))), some (aI 0), some (aI 0)]) (am_sub_s (am_sub_s (am_sub_s (am_sub_s (am_sub_n (am_sub_n (am_sub_s (am_sub_s (am_sub_s (am_sub_s (am_sub_s am_sub_nil))))))))))) ?_
        refine L_line hR hF fr to s m24 m31 (cp58 + 10 * cp66) ((if m24 < m31 then m31 else m24) + 1) (by omega) (by omega) (by omega) (by omega) rfl (by omega) (((if m24 < m31 then m31 else m24) + 1) - 0).toNat 0 0 (by omega) (by omega) (by omega) (fun acc79 hacc79 hv79 => ?_)
        refine T_iload (am_dec tX2_fogBetween_1 23 rfl) rfl ?_
        exact T_ireturn (am_dec tX2_fogBetween_1 24 rfl) rfl (am_outI (by unfold f_line; rw [ew, eh, es, if_neg (by omega), hacc79, Int.sub_zero]))
      · refine T_iconst (-1) (am_dec tX2_fogBetween_0 29 rfl) rfl ⟨by decide, by decide⟩ ?_
        exact T_ireturn (am_dec tX2_fogBetween_0 30 rfl) rfl (am_outI (by unfold f_line; rw [ew, eh, if_pos (by omega)]))
