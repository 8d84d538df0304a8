/-! loops that read -/
def g_latest (many : Int) (f : Nat → Int) (step : Int) (i best : Int) : Int := if f_at many f i 0 ≤ step ∧ (best = -1 ∨ f_at many f best 0 ≤ f_at many f i 0) then i else best
theorem L_latest {S : am_S} {d u : Nat} {Q : AO → AH → Prop} {w : AH} {t : Nat} {most many : Int} {f : Nat → Int} (ht : w[t]? = some (cO 9 [aI most, aR (t + 1), aI many])) (hn : w[t + 1]? = some (cP 0 48 f)) (hm : many ≤ 12) (hm0 : 0 ≤ many) (step : Int) (hd : 1 ≤ d) : ∀ (n : Nat) (i : Int) (best : Int), i + n = many → 0 ≤ i → -1 ≤ best ∧ best < 12 → (∀ (best' : Int), best' = am_fold (g_latest many f step) i n best → -1 ≤ best' ∧ best' < 12 → am_T S zX10_latest d u Q 50 [some (aR t), some (aI step), some (aI best'), some (aI many), none] [] (w)) → am_T S zX10_latest d u Q 4 [some (aR t), some (aI step), some (aI best), some (aI i), none] [] (w) := by
  intro n
  induction n with
  | zero =>
    intro i best hi9 h0i hinv k9
    refine T_iload_n (am_dec tX10_latest_0 4 rfl) rfl ?_
    refine T_aload_n (am_dec tX10_latest_0 5 rfl) rfl ?_
    refine T_getfield 9 2 (am_dec tX10_latest_0 6 rfl) flX10_25_9 ht rfl ?_
    refine T_icmp_ge 50 (am_dec tX10_latest_0 7 rfl) rfl (fun h9 => ?_) (fun h9 => by exfalso; omega)
    have e9 : i = many := by omega
    rw [← e9] at k9
    exact k9 best rfl (by first | exact hinv | omega)
  | succ n ih =>
    intro i best hi9 h0i hinv k9
    refine T_iload_n (am_dec tX10_latest_0 4 rfl) rfl ?_
    refine T_aload_n (am_dec tX10_latest_0 5 rfl) rfl ?_
    refine T_getfield 9 2 (am_dec tX10_latest_0 6 rfl) flX10_25_9 ht rfl ?_
    refine T_icmp_ge 50 (am_dec tX10_latest_0 7 rfl) rfl (fun h9 => by exfalso; omega) (fun h9 => ?_)
    refine T_aload_n (am_dec tX10_latest_0 8 rfl) rfl ?_
    refine T_iload_n (am_dec tX10_latest_0 9 rfl) rfl ?_
    refine T_iconst 0 (am_dec tX10_latest_0 10 rfl) rfl ⟨by decide, by decide⟩ ?_
    refine T_callV (as := [aI i, aI 0]) rfl (am_dec tX10_latest_0 11 rfl) lkX10_32 ht rfl rfl (Nat.le_of_ble_eq_true rfl) (by omega) (m_at ht hn (by omega) i 0) (fun _ => ?_)
    refine T_istore (ls' := [some (aR t), some (aI step), some (aI best), some (aI i), some (aI (f_at many f i 0))]) (am_dec tX10_latest_0 12 rfl) (by decide) rfl ?_
    refine T_iload (am_dec tX10_latest_0 13 rfl) rfl ?_
    refine T_iload_n (am_dec tX10_latest_0 14 rfl) rfl ?_
    refine T_icmp_gt 44 (am_dec tX10_latest_0 15 rfl) rfl (fun h23 => ?_) (fun h23 => ?_)
    · refine T_iinc (ls' := [some (aR t), some (aI step), some (aI best), some (aI (i + 1)), some (aI (f_at many f i 0))]) (i + 1) (am_dec tX10_latest_0 27 rfl) rfl rfl ⟨by omega, by omega⟩ (by decide) rfl ?_
      refine T_goto 4 (am_dec tX10_latest_0 28 rfl) rfl ?_
      refine T_weak (ls' := [some (aR t), some (aI step), some (aI best), some (aI (i + 1)), none]) (am_sub_s (am_sub_s (am_sub_s (am_sub_s (am_sub_n am_sub_nil))))) ?_
      have e9 : (g_latest many f step) i best = best := (by unfold g_latest; first | rw [if_pos (by omega)] | rw [if_neg (by omega)])
      simp only [am_fold_s, e9] at k9
      exact ih (i + 1) best (by omega) (by omega) (by omega) k9
    · refine T_iload_n (am_dec tX10_latest_0 16 rfl) rfl ?_
      refine T_iconst (-1) (am_dec tX10_latest_0 17 rfl) rfl ⟨by decide, by decide⟩ ?_
      refine T_icmp_eq 42 (am_dec tX10_latest_0 18 rfl) rfl (fun h28 => ?_) (fun h28 => ?_)
      · refine T_iload_n (am_dec tX10_latest_0 25 rfl) rfl ?_
        refine T_istore_n (ls' := [some (aR t), some (aI step), some (aI i), some (aI i), some (aI (f_at many f i 0))]) (am_dec tX10_latest_0 26 rfl) (by decide) rfl ?_
        refine T_iinc (ls' := [some (aR t), some (aI step), some (aI i), some (aI (i + 1)), some (aI (f_at many f i 0))]) (i + 1) (am_dec tX10_latest_0 27 rfl) rfl rfl ⟨by omega, by omega⟩ (by decide) rfl ?_
        refine T_goto 4 (am_dec tX10_latest_0 28 rfl) rfl ?_
        refine T_weak (ls' := [some (aR t), some (aI step), some (aI i), some (aI (i + 1)), none]) (am_sub_s (am_sub_s (am_sub_s (am_sub_s (am_sub_n am_sub_nil))))) ?_
        have e9 : (g_latest many f step) i best = i := (by unfold g_latest; first | rw [if_pos (by omega)] | rw [if_neg (by omega)])
        simp only [am_fold_s, e9] at k9
        exact ih (i + 1) i (by omega) (by omega) (by omega) k9
      · refine T_iload (am_dec tX10_latest_0 19 rfl) rfl ?_
        refine T_aload_n (am_dec tX10_latest_0 20 rfl) rfl ?_
        refine T_iload_n (am_dec tX10_latest_0 21 rfl) rfl ?_
        refine T_iconst 0 (am_dec tX10_latest_0 22 rfl) rfl ⟨by decide, by decide⟩ ?_
        refine T_callV (as := [aI best, aI 0]) rfl (am_dec tX10_latest_0 23 rfl) lkX10_32 ht rfl rfl (Nat.le_of_ble_eq_true rfl) (by omega) (m_at ht hn (by omega) best 0) (fun _ => ?_)
        refine T_icmp_lt 44 (am_dec tX10_latest_0 24 rfl) rfl (fun h39 => ?_) (fun h39 => ?_)
        · refine T_iinc (ls' := [some (aR t), some (aI step), some (aI best), some (aI (i + 1)), some (aI (f_at many f i 0))]) (i + 1) (am_dec tX10_latest_0 27 rfl) rfl rfl ⟨by omega, by omega⟩ (by decide) rfl ?_
          refine T_goto 4 (am_dec tX10_latest_0 28 rfl) rfl ?_
          refine T_weak (ls' := [some (aR t), some (aI step), some (aI best), some (aI (i + 1)), none]) (am_sub_s (am_sub_s (am_sub_s (am_sub_s (am_sub_n am_sub_nil))))) ?_
          have e9 : (g_latest many f step) i best = best := (by unfold g_latest; first | rw [if_pos (by omega)] | rw [if_neg (by omega)])
          simp only [am_fold_s, e9] at k9
          exact ih (i + 1) best (by omega) (by omega) (by omega) k9
        · refine T_iload_n (am_dec tX10_latest_0 25 rfl) rfl ?_
          refine T_istore_n (ls' := [some (aR t), some (aI step), some (aI i), some (aI i), some (aI (f_at many f i 0))]) (am_dec tX10_latest_0 26 rfl) (by decide) rfl ?_
          refine T_iinc (ls' := [some (aR t), some (aI step), some (aI i), some (aI (i + 1)), some (aI (f_at many f i 0))]) (i + 1) (am_dec tX10_latest_0 27 rfl) rfl rfl ⟨by omega, by omega⟩ (by decide) rfl ?_
          refine T_goto 4 (am_dec tX10_latest_0 28 rfl) rfl ?_
          refine T_weak (ls' := [some (aR t), some (aI step), some (aI i), some (aI (i + 1)), none]) (am_sub_s (am_sub_s (am_sub_s (am_sub_s (am_sub_n am_sub_nil))))) ?_
          have e9 : (g_latest many f step) i best = i := (by unfold g_latest; first | rw [if_pos (by omega)] | rw [if_neg (by omega)])
          simp only [am_fold_s, e9] at k9
          exact ih (i + 1) i (by omega) (by omega) (by omega) k9
def f_latest (many : Int) (f : Nat → Int) (step : Int) : Int := am_fold (g_latest many f step) 0 many.toNat (-1)
theorem m_latest {S : am_S} {d u : Nat} {w : AH} {t : Nat} {most many : Int} {f : Nat → Int} (ht : w[t]? = some (cO 9 [aI most, aR (t + 1), aI many])) (hn : w[t + 1]? = some (cP 0 48 f)) (hm : many ≤ 12) (hm0 : 0 ≤ many) (step : Int) (hd : 1 ≤ d) : am_Out S zX10_latest d u [aR t, aI step] w (.inl (some (aI (f_latest many f step)))) w := by
  refine am_body rfl (by decide +kernel) rfl (am_cats_cons rfl ( am_cats_cons rfl (am_cats_nil))) (Nat.le_of_ble_eq_true rfl) (?_ : am_T _ _ _ _ _ 0 [some (aR t), some (aI step), none, none, none] [] w)
  refine T_iconst (-1) (am_dec tX10_latest_0 0 rfl) rfl ⟨by decide, by decide⟩ ?_
  refine T_istore_n (ls' := [some (aR t), some (aI step), some (aI (-1)), none, none]) (am_dec tX10_latest_0 1 rfl) (by decide) rfl ?_
  refine T_iconst 0 (am_dec tX10_latest_0 2 rfl) rfl ⟨by decide, by decide⟩ ?_
  refine T_istore_n (ls' := [some (aR t), some (aI step), some (aI (-1)), some (aI 0), none]) (am_dec tX10_latest_0 3 rfl) (by decide) rfl ?_
  refine L_latest ht hn hm hm0 step hd (many - 0).toNat 0 (-1) (by omega) (by omega) (by omega) (fun best4 hbest4 hv4 => ?_)
  refine T_iload_n (am_dec tX10_latest_0 29 rfl) rfl ?_
  exact T_ireturn (am_dec tX10_latest_0 30 rfl) rfl (am_outI (by rw [hbest4]; unfold f_latest; rw [Int.sub_zero]))
