/-! Rule: a PART's value: its orders, one by one -/
def g_value (nf : Nat) (f : Nat → Int) (i : Int) (x : Int × am_F) : Int × am_F :=
  if x.2 1 i.toNat = 2009 then (x.1, f_push x.2 (x.1 - 1) (if f_top x.2 x.1 = 0 then 1 else 0))
  else if 2000 ≤ x.2 1 i.toNat then (x.1 + (-1), f_push x.2 (x.1 - 2) (f_done (x.2 1 i.toNat) (f_top x.2 (x.1 - 1)) (f_top x.2 x.1)))
  else (x.1 + 1, f_push x.2 x.1 (if x.2 1 i.toNat < 1000 then x.2 1 i.toNat else f_factOf nf f (x.2 1 i.toNat - 1000)))
theorem L_value {S : am_S} {d u : Nat} {Q : AO → AH → Prop} {w : AH} {a c nf : Nat} {f : Nat → Int} (hl : a + 5 ≤ w.length) (hx : c < a ∨ a + 5 ≤ c) (hf : w[c]? = some (cP 0 nf f)) (hnf : nf < 1000) (part fr to s0 T : Int) (hs0 : 0 ≤ s0) (hT : to ≤ T ∨ 200 ≤ T) (hT2 : s0 < T → T ≤ to ∧ T ≤ 200) (hd : 1 ≤ d) : ∀ (n : Nat) (i : Int) (high : Int) (q : am_F), i + n = T → 0 ≤ i → s0 ≤ i ∧ s0 - i ≤ high ∧ high ≤ i → (∀ (high' : Int) (q' : am_F), high' = (am_fold (g_value nf f) i n (high, q)).1 → q' = (am_fold (g_value nf f) i n (high, q)).2 → s0 ≤ T ∧ s0 - T ≤ high' ∧ high' ≤ T → am_T S zX7_value d u Q 182 [some (aR a), some (aI part), some (aR c), some (aI high'), some (aI fr), some (aI to), some (aI T), none] [] (ruW w a q')) → am_T S zX7_value d u Q 52 [some (aR a), some (aI part), some (aR c), some (aI high), some (aI fr), some (aI to), some (aI i), none] [] (ruW w a q) := by
  intro n
  induction n with
  | zero =>
    intro i high q hi9 h0i hinv k9
    refine T_iload (am_dec tX7_value_0 30 rfl) rfl ?_
    refine T_iload (am_dec tX7_value_0 31 rfl) rfl ?_
    refine T_icmp_ge 182 (am_dec tX7_value_0 32 rfl) rfl (fun h56 => ?_) (fun h56 => ?_)
    · have e9 : i = T := by omega
      rw [← e9] at k9
      exact k9 high q rfl rfl (by first | exact hinv | omega)
    · refine T_iload (am_dec tX7_value_0 33 rfl) rfl ?_
      refine T_sipush 200 (am_dec tX7_value_0 34 rfl) rfl ⟨by decide, by decide⟩ ?_
      refine T_icmp_ge 182 (am_dec tX7_value_0 35 rfl) rfl (fun h64 => ?_) (fun h64 => ?_)
      · have e9 : i = T := by omega
        rw [← e9] at k9
        exact k9 high q rfl rfl (by first | exact hinv | omega)
      · exfalso; omega
  | succ n ih =>
    intro i high q hi9 h0i hinv k9
    refine T_iload (am_dec tX7_value_0 30 rfl) rfl ?_
    refine T_iload (am_dec tX7_value_0 31 rfl) rfl ?_
    refine T_icmp_ge 182 (am_dec tX7_value_0 32 rfl) rfl (fun h56 => ?_) (fun h56 => ?_)
    · exfalso; omega
    · refine T_iload (am_dec tX7_value_0 33 rfl) rfl ?_
      refine T_sipush 200 (am_dec tX7_value_0 34 rfl) rfl ⟨by decide, by decide⟩ ?_
      refine T_icmp_ge 182 (am_dec tX7_value_0 35 rfl) rfl (fun h64 => ?_) (fun h64 => ?_)
      · exfalso; omega
      · refine T_aload_n (am_dec tX7_value_0 36 rfl) rfl ?_
        refine T_getfield 6 2 (am_dec tX7_value_0 37 rfl) flX7_11_6 (show (ruW w a q)[a]? = some (cO 6 [aI (q 0 0), aI (q 0 1), aR (a + 1), aR (a + 2), aR (a + 3), aR (a + 4)]) from ruW_c hl 0 (by decide)) rfl ?_
        refine T_iload (am_dec tX7_value_0 38 rfl) rfl ?_
        refine T_iaload (am_dec tX7_value_0 39 rfl) (show (ruW w a q)[a + 1]? = some (cP 0 200 (q 1)) from ruW_c hl 1 (by decide)) (by omega) (by omega) ?_
        refine T_istore (ls' := [some (aR a), some (aI part), some (aR c), some (aI high), some (aI fr), some (aI to), some (aI i), some (aI ((q 1) i.toNat))]) (am_dec tX7_value_1 0 rfl) (by decide) rfl ?_
        refine T_iload (am_dec tX7_value_1 1 rfl) rfl ?_
        refine T_sipush 2009 (am_dec tX7_value_1 2 rfl) rfl ⟨by decide, by decide⟩ ?_
        refine T_icmp_ne 107 (am_dec tX7_value_1 3 rfl) rfl (fun h81 => ?_) (fun h81 => ?_)
        · refine T_iload (am_dec tX7_value_1 17 rfl) rfl ?_
          refine T_sipush 2000 (am_dec tX7_value_1 18 rfl) rfl ⟨by decide, by decide⟩ ?_
          refine T_icmp_lt 145 (am_dec tX7_value_1 19 rfl) rfl (fun h112 => ?_) (fun h112 => ?_)
          · refine T_aload_n (am_dec tX7_value_1 37 rfl) rfl ?_
            refine T_iload_n (am_dec tX7_value_1 38 rfl) rfl ?_
            refine T_iload (am_dec tX7_value_1 39 rfl) rfl ?_
            refine T_sipush 1000 (am_dec tX7_value_2 0 rfl) rfl ⟨by decide, by decide⟩ ?_
            refine T_icmp_ge 160 (am_dec tX7_value_2 1 rfl) rfl (fun h152 => ?_) (fun h152 => ?_)
            · refine T_aload_n (am_dec tX7_value_2 4 rfl) rfl ?_
              refine T_iload (am_dec tX7_value_2 5 rfl) rfl ?_
              refine T_sipush 1000 (am_dec tX7_value_2 6 rfl) rfl ⟨by decide, by decide⟩ ?_
              refine T_isub (((q 1) i.toNat) - 1000) (am_dec tX7_value_2 7 rfl) rfl ⟨by omega, by omega⟩ ?_
              refine T_callS (as := [aR c, aI (((q 1) i.toNat) - 1000)]) rfl (am_dec tX7_value_2 8 rfl) lkX7_56 rfl (Nat.le_of_ble_eq_true rfl) (by omega) (m_factOf ((ruW_o (by omega)).trans hf) hnf (((q 1) i.toNat) - 1000)) (fun _ => ?_)
              refine T_callV (as := [aI high, aI (f_factOf nf f (((q 1) i.toNat) - 1000))]) rfl (am_dec tX7_value_2 9 rfl) lkX7_48 (show (ruW w a q)[a]? = some (cO 6 [aI (q 0 0), aI (q 0 1), aR (a + 1), aR (a + 2), aR (a + 3), aR (a + 4)]) from ruW_c hl 0 (by decide)) rfl rfl (Nat.le_of_ble_eq_true rfl) (by omega) (m_push hl high (f_factOf nf f (((q 1) i.toNat) - 1000))) (fun _ => ?_)
              refine T_iinc (ls' := [some (aR a), some (aI part), some (aR c), some (aI (high + 1)), some (aI fr), some (aI to), some (aI i), some (aI ((q 1) i.toNat))]) (high + 1) (am_dec tX7_value_2 10 rfl) rfl rfl ⟨by omega, by omega⟩ (by decide) rfl ?_
              refine T_iinc (ls' := [some (aR a), some (aI part), some (aR c), some (aI (high + 1)), some (aI fr), some (aI to), some (aI (i + 1)), some (aI ((q 1) i.toNat))]) (i + 1) (am_dec tX7_value_2 11 rfl) rfl rfl ⟨by omega, by omega⟩ (by decide) rfl ?_
              refine T_goto 52 (am_dec tX7_value_2 12 rfl) rfl ?_
              refine T_weak (ls' := [some (aR a), some (aI part), some (aR c), some (aI (high + 1)), some (aI fr), some (aI to), some (aI (i + 1)), none]) (am_sub_s (am_sub_s (am_sub_s (am_sub_s (am_sub_s (am_sub_s (am_sub_s (am_sub_n am_sub_nil)))))))) ?_
              have e9 : (g_value nf f) i (high, q) = (high + 1, (f_push q high (f_factOf nf f (((q 1) i.toNat) - 1000)))) := (by unfold g_value; dsimp only; first | (rw [if_pos (by omega), if_pos (by omega)]; done) | (rw [if_pos (by omega), if_neg (by omega)]; done) | (rw [if_neg (by omega), if_pos (by omega)]; done) | (rw [if_neg (by omega), if_neg (by omega), if_pos (by omega)]; done) | (rw [if_neg (by omega), if_neg (by omega), if_neg (by omega)]; done))
              simp only [am_fold_s, e9] at k9
              exact ih (i + 1) (high + 1) (f_push q high (f_factOf nf f (((q 1) i.toNat) - 1000))) (by omega) (by omega) (by omega) k9
            · refine T_iload (am_dec tX7_value_2 2 rfl) rfl ?_
              refine T_goto 170 (am_dec tX7_value_2 3 rfl) rfl ?_
              refine T_callV (as := [aI high, aI ((q 1) i.toNat)]) rfl (am_dec tX7_value_2 9 rfl) lkX7_48 (show (ruW w a q)[a]? = some (cO 6 [aI (q 0 0), aI (q 0 1), aR (a + 1), aR (a + 2), aR (a + 3), aR (a + 4)]) from ruW_c hl 0 (by decide)) rfl rfl (Nat.le_of_ble_eq_true rfl) (by omega) (m_push hl high ((q 1) i.toNat)) (fun _ => ?_)
              refine T_iinc (ls' := [some (aR a), some (aI part), some (aR c), some (aI (high + 1)), some (aI fr), some (aI to), some (aI i), some (aI ((q 1) i.toNat))]) (high + 1) (am_dec tX7_value_2 10 rfl) rfl rfl ⟨by omega, by omega⟩ (by decide) rfl ?_
              refine T_iinc (ls' := [some (aR a), some (aI part), some (aR c), some (aI (high + 1)), some (aI fr), some (aI to), some (aI (i + 1)), some (aI ((q 1) i.toNat))]) (i + 1) (am_dec tX7_value_2 11 rfl) rfl rfl ⟨by omega, by omega⟩ (by decide) rfl ?_
              refine T_goto 52 (am_dec tX7_value_2 12 rfl) rfl ?_
              refine T_weak (ls' := [some (aR a), some (aI part), some (aR c), some (aI (high + 1)), some (aI fr), some (aI to), some (aI (i + 1)), none]) (am_sub_s (am_sub_s (am_sub_s (am_sub_s (am_sub_s (am_sub_s (am_sub_s (am_sub_n am_sub_nil)))))))) ?_
              have e9 : (g_value nf f) i (high, q) = (high + 1, (f_push q high ((q 1) i.toNat))) := (by unfold g_value; dsimp only; first | (rw [if_pos (by omega), if_pos (by omega)]; done) | (rw [if_pos (by omega), if_neg (by omega)]; done) | (rw [if_neg (by omega), if_pos (by omega)]; done) | (rw [if_neg (by omega), if_neg (by omega), if_pos (by omega)]; done) | (rw [if_neg (by omega), if_neg (by omega), if_neg (by omega)]; done))
              simp only [am_fold_s, e9] at k9
              exact ih (i + 1) (high + 1) (f_push q high ((q 1) i.toNat)) (by omega) (by omega) (by omega) k9
          · refine T_aload_n (am_dec tX7_value_1 20 rfl) rfl ?_
            refine T_iload_n (am_dec tX7_value_1 21 rfl) rfl ?_
            refine T_iconst 2 (am_dec tX7_value_1 22 rfl) rfl ⟨by decide, by decide⟩ ?_
            refine T_isub (high - 2) (am_dec tX7_value_1 23 rfl) rfl ⟨by omega, by omega⟩ ?_
            refine T_iload (am_dec tX7_value_1 24 rfl) rfl ?_
            refine T_aload_n (am_dec tX7_value_1 25 rfl) rfl ?_
            refine T_iload_n (am_dec tX7_value_1 26 rfl) rfl ?_
            refine T_iconst 1 (am_dec tX7_value_1 27 rfl) rfl ⟨by decide, by decide⟩ ?_
            refine T_isub (high - 1) (am_dec tX7_value_1 28 rfl) rfl ⟨by omega, by omega⟩ ?_
            refine T_callV (as := [aI (high - 1)]) rfl (am_dec tX7_value_1 29 rfl) lkX7_45 (show (ruW w a q)[a]? = some (cO 6 [aI (q 0 0), aI (q 0 1), aR (a + 1), aR (a + 2), aR (a + 3), aR (a + 4)]) from ruW_c hl 0 (by decide)) rfl rfl (Nat.le_of_ble_eq_true rfl) (by omega) (m_top hl (high - 1)) (fun _ => ?_)
            refine T_aload_n (am_dec tX7_value_1 30 rfl) rfl ?_
            refine T_iload_n (am_dec tX7_value_1 31 rfl) rfl ?_
            refine T_callV (as := [aI high]) rfl (am_dec tX7_value_1 32 rfl) lkX7_45 (show (ruW w a q)[a]? = some (cO 6 [aI (q 0 0), aI (q 0 1), aR (a + 1), aR (a + 2), aR (a + 3), aR (a + 4)]) from ruW_c hl 0 (by decide)) rfl rfl (Nat.le_of_ble_eq_true rfl) (by omega) (m_top hl high) (fun _ => ?_)
            refine T_callS (as := [aI ((q 1) i.toNat), aI (f_top q (high - 1)), aI (f_top q high)]) rfl (am_dec tX7_value_1 33 rfl) lkX7_52 rfl (Nat.le_of_ble_eq_true rfl) (by omega) (m_done ((q 1) i.toNat) (f_top q (high - 1)) (f_top q high)) (fun _ => ?_)
            refine T_callV (as := [aI (high - 2), aI (f_done ((q 1) i.toNat) (f_top q (high - 1)) (f_top q high))]) rfl (am_dec tX7_value_1 34 rfl) lkX7_48 (show (ruW w a q)[a]? = some (cO 6 [aI (q 0 0), aI (q 0 1), aR (a + 1), aR (a + 2), aR (a + 3), aR (a + 4)]) from ruW_c hl 0 (by decide)) rfl rfl (Nat.le_of_ble_eq_true rfl) (by omega) (m_push hl (high - 2) (f_done ((q 1) i.toNat) (f_top q (high - 1)) (f_top q high))) (fun _ => ?_)
            refine T_iinc (ls' := [some (aR a), some (aI part), some (aR c), some (aI (high + (-1))), some (aI fr), some (aI to), some (aI i), some (aI ((q 1) i.toNat))]) (high + (-1)) (am_dec tX7_value_1 35 rfl) rfl rfl ⟨by omega, by omega⟩ (by decide) rfl ?_
            refine T_goto 176 (am_dec tX7_value_1 36 rfl) rfl ?_
            refine T_iinc (ls' := [some (aR a), some (aI part), some (aR c), some (aI (high + (-1))), some (aI fr), some (aI to), some (aI (i + 1)), some (aI ((q 1) i.toNat))]) (i + 1) (am_dec tX7_value_2 11 rfl) rfl rfl ⟨by omega, by omega⟩ (by decide) rfl ?_
            refine T_goto 52 (am_dec tX7_value_2 12 rfl) rfl ?_
            refine T_weak (ls' := [some (aR a), some (aI part), some (aR c), some (aI (high + (-1))), some (aI fr), some (aI to), some (aI (i + 1)), none]) (am_sub_s (am_sub_s (am_sub_s (am_sub_s (am_sub_s (am_sub_s (am_sub_s (am_sub_n am_sub_nil)))))))) ?_
            have e9 : (g_value nf f) i (high, q) = (high + (-1), (f_push q (high - 2) (f_done ((q 1) i.toNat) (f_top q (high - 1)) (f_top q high)))) := (by unfold g_value; dsimp only; first | (rw [if_pos (by omega), if_pos (by omega)]; done) | (rw [if_pos (by omega), if_neg (by omega)]; done) | (rw [if_neg (by omega), if_pos (by omega)]; done) | (rw [if_neg (by omega), if_neg (by omega), if_pos (by omega)]; done) | (rw [if_neg (by omega), if_neg (by omega), if_neg (by omega)]; done))
            simp only [am_fold_s, e9] at k9
            exact ih (i + 1) (high + (-1)) (f_push q (high - 2) (f_done ((q 1) i.toNat) (f_top q (high - 1)) (f_top q high))) (by omega) (by omega) (by omega) k9
        · refine T_aload_n (am_dec tX7_value_1 4 rfl) rfl ?_
          refine T_iload_n (am_dec tX7_value_1 5 rfl) rfl ?_
          refine T_iconst 1 (am_dec tX7_value_1 6 rfl) rfl ⟨by decide, by decide⟩ ?_
          refine T_isub (high - 1) (am_dec tX7_value_1 7 rfl) rfl ⟨by omega, by omega⟩ ?_
          refine T_aload_n (am_dec tX7_value_1 8 rfl) rfl ?_
          refine T_iload_n (am_dec tX7_value_1 9 rfl) rfl ?_
          refine T_callV (as := [aI high]) rfl (am_dec tX7_value_1 10 rfl) lkX7_45 (show (ruW w a q)[a]? = some (cO 6 [aI (q 0 0), aI (q 0 1), aR (a + 1), aR (a + 2), aR (a + 3), aR (a + 4)]) from ruW_c hl 0 (by decide)) rfl rfl (Nat.le_of_ble_eq_true rfl) (by omega) (m_top hl high) (fun _ => ?_)
          refine T_if_ne 100 (am_dec tX7_value_1 11 rfl) rfl (fun h93 => ?_) (fun h93 => ?_)
          · refine T_iconst 0 (am_dec tX7_value_1 14 rfl) rfl ⟨by decide, by decide⟩ ?_
            refine T_callV (as := [aI (high - 1), aI 0]) rfl (am_dec tX7_value_1 15 rfl) lkX7_48 (show (ruW w a q)[a]? = some (cO 6 [aI (q 0 0), aI (q 0 1), aR (a + 1), aR (a + 2), aR (a + 3), aR (a + 4)]) from ruW_c hl 0 (by decide)) rfl rfl (Nat.le_of_ble_eq_true rfl) (by omega) (m_push hl (high - 1) 0) (fun _ => ?_)
            refine T_goto 176 (am_dec tX7_value_1 16 rfl) rfl ?_
            refine T_iinc (ls' := [some (aR a), some (aI part), some (aR c), some (aI high), some (aI fr), some (aI to), some (aI (i + 1)), some (aI ((q 1) i.toNat))]) (i + 1) (am_dec tX7_value_2 11 rfl) rfl rfl ⟨by omega, by omega⟩ (by decide) rfl ?_
            refine T_goto 52 (am_dec tX7_value_2 12 rfl) rfl ?_
            refine T_weak (ls' := [some (aR a), some (aI part), some (aR c), some (aI high), some (aI fr), some (aI to), some (aI (i + 1)), none]) (am_sub_s (am_sub_s (am_sub_s (am_sub_s (am_sub_s (am_sub_s (am_sub_s (am_sub_n am_sub_nil)))))))) ?_
            have e9 : (g_value nf f) i (high, q) = (high, (f_push q (high - 1) 0)) := (by unfold g_value; dsimp only; first | (rw [if_pos (by omega), if_pos (by omega)]; done) | (rw [if_pos (by omega), if_neg (by omega)]; done) | (rw [if_neg (by omega), if_pos (by omega)]; done) | (rw [if_neg (by omega), if_neg (by omega), if_pos (by omega)]; done) | (rw [if_neg (by omega), if_neg (by omega), if_neg (by omega)]; done))
            simp only [am_fold_s, e9] at k9
            exact ih (i + 1) high (f_push q (high - 1) 0) (by omega) (by omega) (by omega) k9
          · refine T_iconst 1 (am_dec tX7_value_1 12 rfl) rfl ⟨by decide, by decide⟩ ?_
            refine T_goto 101 (am_dec tX7_value_1 13 rfl) rfl ?_
            refine T_callV (as := [aI (high - 1), aI 1]) rfl (am_dec tX7_value_1 15 rfl) lkX7_48 (show (ruW w a q)[a]? = some (cO 6 [aI (q 0 0), aI (q 0 1), aR (a + 1), aR (a + 2), aR (a + 3), aR (a + 4)]) from ruW_c hl 0 (by decide)) rfl rfl (Nat.le_of_ble_eq_true rfl) (by omega) (m_push hl (high - 1) 1) (fun _ => ?_)
            refine T_goto 176 (am_dec tX7_value_1 16 rfl) rfl ?_
            refine T_iinc (ls' := [some (aR a), some (aI part), some (aR c), some (aI high), some (aI fr), some (aI to), some (aI (i + 1)), some (aI ((q 1) i.toNat))]) (i + 1) (am_dec tX7_value_2 11 rfl) rfl rfl ⟨by omega, by omega⟩ (by decide) rfl ?_
            refine T_goto 52 (am_dec tX7_value_2 12 rfl) rfl ?_
            refine T_weak (ls' := [some (aR a), some (aI part), some (aR c), some (aI high), some (aI fr), some (aI to), some (aI (i + 1)), none]) (am_sub_s (am_sub_s (am_sub_s (am_sub_s (am_sub_s (am_sub_s (am_sub_s (am_sub_n am_sub_nil)))))))) ?_
            have e9 : (g_value nf f) i (high, q) = (high, (f_push q (high - 1) 1)) := (by unfold g_value; dsimp only; first | (rw [if_pos (by omega), if_pos (by omega)]; done) | (rw [if_pos (by omega), if_neg (by omega)]; done) | (rw [if_neg (by omega), if_pos (by omega)]; done) | (rw [if_neg (by omega), if_neg (by omega), if_pos (by omega)]; done) | (rw [if_neg (by omega), if_neg (by omega), if_neg (by omega)]; done))
            simp only [am_fold_s, e9] at k9
            exact ih (i + 1) high (f_push q (high - 1) 1) (by omega) (by omega) (by omega) k9
def f_fr (q : am_F) (part : Int) : Int := if 0 < part ∧ part ≤ 8 then q 3 (part - 1).toNat else 0
def f_tp (q : am_F) (part : Int) : Int := if 0 ≤ part ∧ part < 8 then q 3 part.toNat else 0
def f_valueX (nf : Nat) (f : Nat → Int) (q : am_F) (part : Int) : Int × am_F := am_fold (g_value nf f) (f_fr q part) (f_tp q part - f_fr q part).toNat (0, q)
def f_value (nf : Nat) (f : Nat → Int) (q : am_F) (part : Int) : Int := f_top (f_valueX nf f q part).2 (f_valueX nf f q part).1
def RuE (q : am_F) : Prop := ∀ j, 0 ≤ q 3 j ∧ q 3 j ≤ 200
theorem m_value {S : am_S} {d u : Nat} {w : AH} {a c nf : Nat} {q : am_F} {f : Nat → Int} (hl : a + 5 ≤ w.length) (hx : c < a ∨ a + 5 ≤ c) (hf : w[c]? = some (cP 0 nf f)) (hnf : nf < 1000) (part : Int) (hE : RuE q) (hd : 1 ≤ d) : am_Out S zX7_value d u [aR a, aI part, aR c] (ruW w a q) (.inl (some (aI (f_value nf f q part)))) (ruW w a (f_valueX nf f q part).2) := by
  refine am_body rfl (by decide +kernel) rfl (am_cats_cons rfl ( am_cats_cons rfl ( am_cats_cons rfl (am_cats_nil)))) (Nat.le_of_ble_eq_true rfl) (?_ : am_T _ _ _ _ _ 0 [some (aR a), some (aI part), some (aR c), none, none, none, none, none] [] (ruW w a q))
  have z1 := hE (part - 1).toNat
  have z2 := hE part.toNat
  refine T_iconst 0 (am_dec tX7_value_0 0 rfl) rfl ⟨by decide, by decide⟩ ?_
  refine T_istore_n (ls' := [some (aR a), some (aI part), some (aR c), some (aI 0), none, none, none, none]) (am_dec tX7_value_0 1 rfl) (by decide) rfl ?_
  refine T_iload_n (am_dec tX7_value_0 2 rfl) rfl ?_
  refine T_if_le 23 (am_dec tX7_value_0 3 rfl) rfl (fun h3 => ?_) (fun h3 => ?_)
  · refine T_iconst 0 (am_dec tX7_value_0 14 rfl) rfl ⟨by decide, by decide⟩ ?_
    refine T_istore (ls' := [some (aR a), some (aI part), some (aR c), some (aI 0), some (aI 0), none, none, none]) (am_dec tX7_value_0 15 rfl) (by decide) rfl ?_
    refine T_iload_n (am_dec tX7_value_0 16 rfl) rfl ?_
    refine T_if_lt 45 (am_dec tX7_value_0 17 rfl) rfl (fun h27 => ?_) (fun h27 => ?_)
    · refine T_iconst 0 (am_dec tX7_value_0 26 rfl) rfl ⟨by decide, by decide⟩ ?_
      refine T_istore (ls' := [some (aR a), some (aI part), some (aR c), some (aI 0), some (aI 0), some (aI 0), none, none]) (am_dec tX7_value_0 27 rfl) (by decide) rfl ?_
      refine T_iload (am_dec tX7_value_0 28 rfl) rfl ?_
      refine T_istore (ls' := [some (aR a), some (aI part), some (aR c), some (aI 0), some (aI 0), some (aI 0), some (aI 0), none]) (am_dec tX7_value_0 29 rfl) (by decide) rfl ?_
      have eF : f_fr q part = (0 : Int) := by unfold f_fr; first | (rw [if_pos (by omega)]; done) | (rw [if_neg (by omega)]; done) | (exfalso; omega)
      have eT : f_tp q part = (0 : Int) := by unfold f_tp; first | (rw [if_pos (by omega)]; done) | (rw [if_neg (by omega)]; done) | (exfalso; omega)
      refine L_value hl hx hf hnf part (0 : Int) (0 : Int) (0 : Int) (if (0 : Int) < (0 : Int) then (0 : Int) else (0 : Int)) (by omega) (by omega) (by omega) hd ((0 : Int) - (0 : Int)).toNat (0 : Int) 0 q (by omega) (by omega) (by omega) (fun hi52 r52 hh52 hr52 hv52 => ?_)
      refine T_aload_n (am_dec tX7_value_2 13 rfl) rfl ?_
      refine T_iload_n (am_dec tX7_value_2 14 rfl) rfl ?_
      refine T_callV (as := [aI hi52]) rfl (am_dec tX7_value_2 15 rfl) lkX7_45 (show (ruW w a r52)[a]? = some (cO 6 [aI (r52 0 0), aI (r52 0 1), aR (a + 1), aR (a + 2), aR (a + 3), aR (a + 4)]) from ruW_c hl 0 (by decide)) rfl rfl (Nat.le_of_ble_eq_true rfl) (by omega) (m_top hl hi52) (fun _ => ?_)
      exact T_ireturn (am_dec tX7_value_2 16 rfl) rfl (am_outIw (by unfold f_value f_valueX; rw [eF, eT, hh52, hr52]) (by unfold f_valueX; rw [eF, eT, hr52]))
    · refine T_iload_n (am_dec tX7_value_0 18 rfl) rfl ?_
      refine T_bipush 8 (am_dec tX7_value_0 19 rfl) rfl ⟨by decide, by decide⟩ ?_
      refine T_icmp_ge 45 (am_dec tX7_value_0 20 rfl) rfl (fun h33 => ?_) (fun h33 => ?_)
      · refine T_iconst 0 (am_dec tX7_value_0 26 rfl) rfl ⟨by decide, by decide⟩ ?_
        refine T_istore (ls' := [some (aR a), some (aI part), some (aR c), some (aI 0), some (aI 0), some (aI 0), none, none]) (am_dec tX7_value_0 27 rfl) (by decide) rfl ?_
        refine T_iload (am_dec tX7_value_0 28 rfl) rfl ?_
        refine T_istore (ls' := [some (aR a), some (aI part), some (aR c), some (aI 0), some (aI 0), some (aI 0), some (aI 0), none]) (am_dec tX7_value_0 29 rfl) (by decide) rfl ?_
        have eF : f_fr q part = (0 : Int) := by unfold f_fr; first | (rw [if_pos (by omega)]; done) | (rw [if_neg (by omega)]; done) | (exfalso; omega)
        have eT : f_tp q part = (0 : Int) := by unfold f_tp; first | (rw [if_pos (by omega)]; done) | (rw [if_neg (by omega)]; done) | (exfalso; omega)
        refine L_value hl hx hf hnf part (0 : Int) (0 : Int) (0 : Int) (if (0 : Int) < (0 : Int) then (0 : Int) else (0 : Int)) (by omega) (by omega) (by omega) hd ((0 : Int) - (0 : Int)).toNat (0 : Int) 0 q (by omega) (by omega) (by omega) (fun hi52 r52 hh52 hr52 hv52 => ?_)
        refine T_aload_n (am_dec tX7_value_2 13 rfl) rfl ?_
        refine T_iload_n (am_dec tX7_value_2 14 rfl) rfl ?_
        refine T_callV (as := [aI hi52]) rfl (am_dec tX7_value_2 15 rfl) lkX7_45 (show (ruW w a r52)[a]? = some (cO 6 [aI (r52 0 0), aI (r52 0 1), aR (a + 1), aR (a + 2), aR (a + 3), aR (a + 4)]) from ruW_c hl 0 (by decide)) rfl rfl (Nat.le_of_ble_eq_true rfl) (by omega) (m_top hl hi52) (fun _ => ?_)
        exact T_ireturn (am_dec tX7_value_2 16 rfl) rfl (am_outIw (by unfold f_value f_valueX; rw [eF, eT, hh52, hr52]) (by unfold f_valueX; rw [eF, eT, hr52]))
      · refine T_aload_n (am_dec tX7_value_0 21 rfl) rfl ?_
        refine T_getfield 6 4 (am_dec tX7_value_0 22 rfl) flX7_18_6 (show (ruW w a q)[a]? = some (cO 6 [aI (q 0 0), aI (q 0 1), aR (a + 1), aR (a + 2), aR (a + 3), aR (a + 4)]) from ruW_c hl 0 (by decide)) rfl ?_
        refine T_iload_n (am_dec tX7_value_0 23 rfl) rfl ?_
        refine T_iaload (am_dec tX7_value_0 24 rfl) (show (ruW w a q)[a + 3]? = some (cP 0 8 (q 3)) from ruW_c hl 3 (by decide)) (by omega) (by omega) ?_
        refine T_goto 46 (am_dec tX7_value_0 25 rfl) rfl ?_
        refine T_istore (ls' := [some (aR a), some (aI part), some (aR c), some (aI 0), some (aI 0), some (aI ((q 3) part.toNat)), none, none]) (am_dec tX7_value_0 27 rfl) (by decide) rfl ?_
        refine T_iload (am_dec tX7_value_0 28 rfl) rfl ?_
        refine T_istore (ls' := [some (aR a), some (aI part), some (aR c), some (aI 0), some (aI 0), some (aI ((q 3) part.toNat)), some (aI 0), none]) (am_dec tX7_value_0 29 rfl) (by decide) rfl ?_
        have eF : f_fr q part = (0 : Int) := by unfold f_fr; first | (rw [if_pos (by omega)]; done) | (rw [if_neg (by omega)]; done) | (exfalso; omega)
        have eT : f_tp q part = ((q 3) part.toNat) := by unfold f_tp; first | (rw [if_pos (by omega)]; done) | (rw [if_neg (by omega)]; done) | (exfalso; omega)
        refine L_value hl hx hf hnf part (0 : Int) ((q 3) part.toNat) (0 : Int) (if (0 : Int) < ((q 3) part.toNat) then ((q 3) part.toNat) else (0 : Int)) (by omega) (by omega) (by omega) hd (((q 3) part.toNat) - (0 : Int)).toNat (0 : Int) 0 q (by omega) (by omega) (by omega) (fun hi52 r52 hh52 hr52 hv52 => ?_)
        refine T_aload_n (am_dec tX7_value_2 13 rfl) rfl ?_
        refine T_iload_n (am_dec tX7_value_2 14 rfl) rfl ?_
        refine T_callV (as := [aI hi52]) rfl (am_dec tX7_value_2 15 rfl) lkX7_45 (show (ruW w a r52)[a]? = some (cO 6 [aI (r52 0 0), aI (r52 0 1), aR (a + 1), aR (a + 2), aR (a + 3), aR (a + 4)]) from ruW_c hl 0 (by decide)) rfl rfl (Nat.le_of_ble_eq_true rfl) (by omega) (m_top hl hi52) (fun _ => ?_)
        exact T_ireturn (am_dec tX7_value_2 16 rfl) rfl (am_outIw (by unfold f_value f_valueX; rw [eF, eT, hh52, hr52]) (by unfold f_valueX; rw [eF, eT, hr52]))
  · refine T_iload_n (am_dec tX7_value_0 4 rfl) rfl ?_
    refine T_bipush 8 (am_dec tX7_value_0 5 rfl) rfl ⟨by decide, by decide⟩ ?_
    refine T_icmp_gt 23 (am_dec tX7_value_0 6 rfl) rfl (fun h9 => ?_) (fun h9 => ?_)
    · refine T_iconst 0 (am_dec tX7_value_0 14 rfl) rfl ⟨by decide, by decide⟩ ?_
      refine T_istore (ls' := [some (aR a), some (aI part), some (aR c), some (aI 0), some (aI 0), none, none, none]) (am_dec tX7_value_0 15 rfl) (by decide) rfl ?_
      refine T_iload_n (am_dec tX7_value_0 16 rfl) rfl ?_
      refine T_if_lt 45 (am_dec tX7_value_0 17 rfl) rfl (fun h27 => ?_) (fun h27 => ?_)
      · refine T_iconst 0 (am_dec tX7_value_0 26 rfl) rfl ⟨by decide, by decide⟩ ?_
        refine T_istore (ls' := [some (aR a), some (aI part), some (aR c), some (aI 0), some (aI 0), some (aI 0), none, none]) (am_dec tX7_value_0 27 rfl) (by decide) rfl ?_
        refine T_iload (am_dec tX7_value_0 28 rfl) rfl ?_
        refine T_istore (ls' := [some (aR a), some (aI part), some (aR c), some (aI 0), some (aI 0), some (aI 0), some (aI 0), none]) (am_dec tX7_value_0 29 rfl) (by decide) rfl ?_
        have eF : f_fr q part = (0 : Int) := by unfold f_fr; first | (rw [if_pos (by omega)]; done) | (rw [if_neg (by omega)]; done) | (exfalso; omega)
        have eT : f_tp q part = (0 : Int) := by unfold f_tp; first | (rw [if_pos (by omega)]; done) | (rw [if_neg (by omega)]; done) | (exfalso; omega)
        refine L_value hl hx hf hnf part (0 : Int) (0 : Int) (0 : Int) (if (0 : Int) < (0 : Int) then (0 : Int) else (0 : Int)) (by omega) (by omega) (by omega) hd ((0 : Int) - (0 : Int)).toNat (0 : Int) 0 q (by omega) (by omega) (by omega) (fun hi52 r52 hh52 hr52 hv52 => ?_)
        refine T_aload_n (am_dec tX7_value_2 13 rfl) rfl ?_
        refine T_iload_n (am_dec tX7_value_2 14 rfl) rfl ?_
        refine T_callV (as := [aI hi52]) rfl (am_dec tX7_value_2 15 rfl) lkX7_45 (show (ruW w a r52)[a]? = some (cO 6 [aI (r52 0 0), aI (r52 0 1), aR (a + 1), aR (a + 2), aR (a + 3), aR (a + 4)]) from ruW_c hl 0 (by decide)) rfl rfl (Nat.le_of_ble_eq_true rfl) (by omega) (m_top hl hi52) (fun _ => ?_)
        exact T_ireturn (am_dec tX7_value_2 16 rfl) rfl (am_outIw (by unfold f_value f_valueX; rw [eF, eT, hh52, hr52]) (by unfold f_valueX; rw [eF, eT, hr52]))
      · refine T_iload_n (am_dec tX7_value_0 18 rfl) rfl ?_
        refine T_bipush 8 (am_dec tX7_value_0 19 rfl) rfl ⟨by decide, by decide⟩ ?_
        refine T_icmp_ge 45 (am_dec tX7_value_0 20 rfl) rfl (fun h33 => ?_) (fun h33 => ?_)
        · refine T_iconst 0 (am_dec tX7_value_0 26 rfl) rfl ⟨by decide, by decide⟩ ?_
          refine T_istore (ls' := [some (aR a), some (aI part), some (aR c), some (aI 0), some (aI 0), some (aI 0), none, none]) (am_dec tX7_value_0 27 rfl) (by decide) rfl ?_
          refine T_iload (am_dec tX7_value_0 28 rfl) rfl ?_
          refine T_istore (ls' := [some (aR a), some (aI part), some (aR c), some (aI 0), some (aI 0), some (aI 0), some (aI 0), none]) (am_dec tX7_value_0 29 rfl) (by decide) rfl ?_
          have eF : f_fr q part = (0 : Int) := by unfold f_fr; first | (rw [if_pos (by omega)]; done) | (rw [if_neg (by omega)]; done) | (exfalso; omega)
          have eT : f_tp q part = (0 : Int) := by unfold f_tp; first | (rw [if_pos (by omega)]; done) | (rw [if_neg (by omega)]; done) | (exfalso; omega)
          refine L_value hl hx hf hnf part (0 : Int) (0 : Int) (0 : Int) (if (0 : Int) < (0 : Int) then (0 : Int) else (0 : Int)) (by omega) (by omega) (by omega) hd ((0 : Int) - (0 : Int)).toNat (0 : Int) 0 q (by omega) (by omega) (by omega) (fun hi52 r52 hh52 hr52 hv52 => ?_)
          refine T_aload_n (am_dec tX7_value_2 13 rfl) rfl ?_
          refine T_iload_n (am_dec tX7_value_2 14 rfl) rfl ?_
          refine T_callV (as := [aI hi52]) rfl (am_dec tX7_value_2 15 rfl) lkX7_45 (show (ruW w a r52)[a]? = some (cO 6 [aI (r52 0 0), aI (r52 0 1), aR (a + 1), aR (a + 2), aR (a + 3), aR (a + 4)]) from ruW_c hl 0 (by decide)) rfl rfl (Nat.le_of_ble_eq_true rfl) (by omega) (m_top hl hi52) (fun _ => ?_)
          exact T_ireturn (am_dec tX7_value_2 16 rfl) rfl (am_outIw (by unfold f_value f_valueX; rw [eF, eT, hh52, hr52]) (by unfold f_valueX; rw [eF, eT, hr52]))
        · refine T_aload_n (am_dec tX7_value_0 21 rfl) rfl ?_
          refine T_getfield 6 4 (am_dec tX7_value_0 22 rfl) flX7_18_6 (show (ruW w a q)[a]? = some (cO 6 [aI (q 0 0), aI (q 0 1), aR (a + 1), aR (a + 2), aR (a + 3), aR (a + 4)]) from ruW_c hl 0 (by decide)) rfl ?_
          refine T_iload_n (am_dec tX7_value_0 23 rfl) rfl ?_
          refine T_iaload (am_dec tX7_value_0 24 rfl) (show (ruW w a q)[a + 3]? = some (cP 0 8 (q 3)) from ruW_c hl 3 (by decide)) (by omega) (by omega) ?_
          refine T_goto 46 (am_dec tX7_value_0 25 rfl) rfl ?_
          refine T_istore (ls' := [some (aR a), some (aI part), some (aR c), some (aI 0), some (aI 0), some (aI ((q 3) part.toNat)), none, none]) (am_dec tX7_value_0 27 rfl) (by decide) rfl ?_
          refine T_iload (am_dec tX7_value_0 28 rfl) rfl ?_
          refine T_istore (ls' := [some (aR a), some (aI part), some (aR c), some (aI 0), some (aI 0), some (aI ((q 3) part.toNat)), some (aI 0), none]) (am_dec tX7_value_0 29 rfl) (by decide) rfl ?_
          have eF : f_fr q part = (0 : Int) := by unfold f_fr; first | (rw [if_pos (by omega)]; done) | (rw [if_neg (by omega)]; done) | (exfalso; omega)
          have eT : f_tp q part = ((q 3) part.toNat) := by unfold f_tp; first | (rw [if_pos (by omega)]; done) | (rw [if_neg (by omega)]; done) | (exfalso; omega)
          refine L_value hl hx hf hnf part (0 : Int) ((q 3) part.toNat) (0 : Int) (if (0 : Int) < ((q 3) part.toNat) then ((q 3) part.toNat) else (0 : Int)) (by omega) (by omega) (by omega) hd (((q 3) part.toNat) - (0 : Int)).toNat (0 : Int) 0 q (by omega) (by omega) (by omega) (fun hi52 r52 hh52 hr52 hv52 => ?_)
          refine T_aload_n (am_dec tX7_value_2 13 rfl) rfl ?_
          refine T_iload_n (am_dec tX7_value_2 14 rfl) rfl ?_
          refine T_callV (as := [aI hi52]) rfl (am_dec tX7_value_2 15 rfl) lkX7_45 (show (ruW w a r52)[a]? = some (cO 6 [aI (r52 0 0), aI (r52 0 1), aR (a + 1), aR (a + 2), aR (a + 3), aR (a + 4)]) from ruW_c hl 0 (by decide)) rfl rfl (Nat.le_of_ble_eq_true rfl) (by omega) (m_top hl hi52) (fun _ => ?_)
          exact T_ireturn (am_dec tX7_value_2 16 rfl) rfl (am_outIw (by unfold f_value f_valueX; rw [eF, eT, hh52, hr52]) (by unfold f_valueX; rw [eF, eT, hr52]))
    · refine T_aload_n (am_dec tX7_value_0 7 rfl) rfl ?_
      refine T_getfield 6 4 (am_dec tX7_value_0 8 rfl) flX7_18_6 (show (ruW w a q)[a]? = some (cO 6 [aI (q 0 0), aI (q 0 1), aR (a + 1), aR (a + 2), aR (a + 3), aR (a + 4)]) from ruW_c hl 0 (by decide)) rfl ?_
      refine T_iload_n (am_dec tX7_value_0 9 rfl) rfl ?_
      refine T_iconst 1 (am_dec tX7_value_0 10 rfl) rfl ⟨by decide, by decide⟩ ?_
      refine T_isub (part - 1) (am_dec tX7_value_0 11 rfl) rfl ⟨by omega, by omega⟩ ?_
      refine T_iaload (am_dec tX7_value_0 12 rfl) (show (ruW w a q)[a + 3]? = some (cP 0 8 (q 3)) from ruW_c hl 3 (by decide)) (by omega) (by omega) ?_
      refine T_goto 24 (am_dec tX7_value_0 13 rfl) rfl ?_
      refine T_istore (ls' := [some (aR a), some (aI part), some (aR c), some (aI 0), some (aI ((q 3) (part - 1).toNat)), none, none, none]) (am_dec tX7_value_0 15 rfl) (by decide) rfl ?_
      refine T_iload_n (am_dec tX7_value_0 16 rfl) rfl ?_
      refine T_if_lt 45 (am_dec tX7_value_0 17 rfl) rfl (fun h27 => ?_) (fun h27 => ?_)
      · refine T_iconst 0 (am_dec tX7_value_0 26 rfl) rfl ⟨by decide, by decide⟩ ?_
        refine T_istore (ls' := [some (aR a), some (aI part), some (aR c), some (aI 0), some (aI ((q 3) (part - 1).toNat)), some (aI 0), none, none]) (am_dec tX7_value_0 27 rfl) (by decide) rfl ?_
        refine T_iload (am_dec tX7_value_0 28 rfl) rfl ?_
        refine T_istore (ls' := [some (aR a), some (aI part), some (aR c), some (aI 0), some (aI ((q 3) (part - 1).toNat)), some (aI 0), some (aI ((q 3) (part - 1).toNat)), none]) (am_dec tX7_value_0 29 rfl) (by decide) rfl ?_
        have eF : f_fr q part = ((q 3) (part - 1).toNat) := by unfold f_fr; first | (rw [if_pos (by omega)]; done) | (rw [if_neg (by omega)]; done) | (exfalso; omega)
        have eT : f_tp q part = (0 : Int) := by unfold f_tp; first | (rw [if_pos (by omega)]; done) | (rw [if_neg (by omega)]; done) | (exfalso; omega)
        refine L_value hl hx hf hnf part ((q 3) (part - 1).toNat) (0 : Int) ((q 3) (part - 1).toNat) (if ((q 3) (part - 1).toNat) < (0 : Int) then (0 : Int) else ((q 3) (part - 1).toNat)) (by omega) (by omega) (by omega) hd ((0 : Int) - ((q 3) (part - 1).toNat)).toNat ((q 3) (part - 1).toNat) 0 q (by omega) (by omega) (by omega) (fun hi52 r52 hh52 hr52 hv52 => ?_)
        refine T_aload_n (am_dec tX7_value_2 13 rfl) rfl ?_
        refine T_iload_n (am_dec tX7_value_2 14 rfl) rfl ?_
        refine T_callV (as := [aI hi52]) rfl (am_dec tX7_value_2 15 rfl) lkX7_45 (show (ruW w a r52)[a]? = some (cO 6 [aI (r52 0 0), aI (r52 0 1), aR (a + 1), aR (a + 2), aR (a + 3), aR (a + 4)]) from ruW_c hl 0 (by decide)) rfl rfl (Nat.le_of_ble_eq_true rfl) (by omega) (m_top hl hi52) (fun _ => ?_)
        exact T_ireturn (am_dec tX7_value_2 16 rfl) rfl (am_outIw (by unfold f_value f_valueX; rw [eF, eT, hh52, hr52]) (by unfold f_valueX; rw [eF, eT, hr52]))
      · refine T_iload_n (am_dec tX7_value_0 18 rfl) rfl ?_
        refine T_bipush 8 (am_dec tX7_value_0 19 rfl) rfl ⟨by decide, by decide⟩ ?_
        refine T_icmp_ge 45 (am_dec tX7_value_0 20 rfl) rfl (fun h33 => ?_) (fun h33 => ?_)
        · refine T_iconst 0 (am_dec tX7_value_0 26 rfl) rfl ⟨by decide, by decide⟩ ?_
          refine T_istore (ls' := [some (aR a), some (aI part), some (aR c), some (aI 0), some (aI ((q 3) (part - 1).toNat)), some (aI 0), none, none]) (am_dec tX7_value_0 27 rfl) (by decide) rfl ?_
          refine T_iload (am_dec tX7_value_0 28 rfl) rfl ?_
          refine T_istore (ls' := [some (aR a), some (aI part), some (aR c), some (aI 0), some (aI ((q 3) (part - 1).toNat)), some (aI 0), some (aI ((q 3) (part - 1).toNat)), none]) (am_dec tX7_value_0 29 rfl) (by decide) rfl ?_
          have eF : f_fr q part = ((q 3) (part - 1).toNat) := by unfold f_fr; first | (rw [if_pos (by omega)]; done) | (rw [if_neg (by omega)]; done) | (exfalso; omega)
          have eT : f_tp q part = (0 : Int) := by unfold f_tp; first | (rw [if_pos (by omega)]; done) | (rw [if_neg (by omega)]; done) | (exfalso; omega)
          refine L_value hl hx hf hnf part ((q 3) (part - 1).toNat) (0 : Int) ((q 3) (part - 1).toNat) (if ((q 3) (part - 1).toNat) < (0 : Int) then (0 : Int) else ((q 3) (part - 1).toNat)) (by omega) (by omega) (by omega) hd ((0 : Int) - ((q 3) (part - 1).toNat)).toNat ((q 3) (part - 1).toNat) 0 q (by omega) (by omega) (by omega) (fun hi52 r52 hh52 hr52 hv52 => ?_)
          refine T_aload_n (am_dec tX7_value_2 13 rfl) rfl ?_
          refine T_iload_n (am_dec tX7_value_2 14 rfl) rfl ?_
          refine T_callV (as := [aI hi52]) rfl (am_dec tX7_value_2 15 rfl) lkX7_45 (show (ruW w a r52)[a]? = some (cO 6 [aI (r52 0 0), aI (r52 0 1), aR (a + 1), aR (a + 2), aR (a + 3), aR (a + 4)]) from ruW_c hl 0 (by decide)) rfl rfl (Nat.le_of_ble_eq_true rfl) (by omega) (m_top hl hi52) (fun _ => ?_)
          exact T_ireturn (am_dec tX7_value_2 16 rfl) rfl (am_outIw (by unfold f_value f_valueX; rw [eF, eT, hh52, hr52]) (by unfold f_valueX; rw [eF, eT, hr52]))
        · refine T_aload_n (am_dec tX7_value_0 21 rfl) rfl ?_
          refine T_getfield 6 4 (am_dec tX7_value_0 22 rfl) flX7_18_6 (show (ruW w a q)[a]? = some (cO 6 [aI (q 0 0), aI (q 0 1), aR (a + 1), aR (a + 2), aR (a + 3), aR (a + 4)]) from ruW_c hl 0 (by decide)) rfl ?_
          refine T_iload_n (am_dec tX7_value_0 23 rfl) rfl ?_
          refine T_iaload (am_dec tX7_value_0 24 rfl) (show (ruW w a q)[a + 3]? = some (cP 0 8 (q 3)) from ruW_c hl 3 (by decide)) (by omega) (by omega) ?_
          refine T_goto 46 (am_dec tX7_value_0 25 rfl) rfl ?_
          refine T_istore (ls' := [some (aR a), some (aI part), some (aR c), some (aI 0), some (aI ((q 3) (part - 1).toNat)), some (aI ((q 3) part.toNat)), none, none]) (am_dec tX7_value_0 27 rfl) (by decide) rfl ?_
          refine T_iload (am_dec tX7_value_0 28 rfl) rfl ?_
          refine T_istore (ls' := [some (aR a), some (aI part), some (aR c), some (aI 0), some (aI ((q 3) (part - 1).toNat)), some (aI ((q 3) part.toNat)), some (aI ((q 3) (part - 1).toNat)), none]) (am_dec tX7_value_0 29 rfl) (by decide) rfl ?_
          have eF : f_fr q part = ((q 3) (part - 1).toNat) := by unfold f_fr; first | (rw [if_pos (by omega)]; done) | (rw [if_neg (by omega)]; done) | (exfalso; omega)
          have eT : f_tp q part = ((q 3) part.toNat) := by unfold f_tp; first | (rw [if_pos (by omega)]; done) | (rw [if_neg (by omega)]; done) | (exfalso; omega)
          refine L_value hl hx hf hnf part ((q 3) (part - 1).toNat) ((q 3) part.toNat) ((q 3) (part - 1).toNat) (if ((q 3) (part - 1).toNat) < ((q 3) part.toNat) then ((q 3) part.toNat) else ((q 3) (part - 1).toNat)) (by omega) (by omega) (by omega) hd (((q 3) part.toNat) - ((q 3) (part - 1).toNat)).toNat ((q 3) (part - 1).toNat) 0 q (by omega) (by omega) (by omega) (fun hi52 r52 hh52 hr52 hv52 => ?_)
          refine T_aload_n (am_dec tX7_value_2 13 rfl) rfl ?_
          refine T_iload_n (am_dec tX7_value_2 14 rfl) rfl ?_
          refine T_callV (as := [aI hi52]) rfl (am_dec tX7_value_2 15 rfl) lkX7_45 (show (ruW w a r52)[a]? = some (cO 6 [aI (r52 0 0), aI (r52 0 1), aR (a + 1), aR (a + 2), aR (a + 3), aR (a + 4)]) from ruW_c hl 0 (by decide)) rfl rfl (Nat.le_of_ble_eq_true rfl) (by omega) (m_top hl hi52) (fun _ => ?_)
          exact T_ireturn (am_dec tX7_value_2 16 rfl) rfl (am_outIw (by unfold f_value f_valueX; rw [eF, eT, hh52, hr52]) (by unfold f_valueX; rw [eF, eT, hr52]))
