/-! THE LAW: its wrappers -/
def am_OutW (S : am_S) (y : am_Z) (d u : Nat) (as : List AV) (w : AH) (o : AO) (w1 : AH) : Prop := am_MW S y d u as w (fun o' w' => o' = o ∧ w' = w1)
theorem T_wrap {S : am_S} {z y : am_Z} {d d' u : Nat} {Q : AO → AH → Prop} {pc idx : Nat} {ls : List (Option AV)} {st rest as : List AV} {w w1 : AH} {fs : List AV} {code v : Int} (hrt : z.2.2.2.2.1 = some .int) (hd : decode (am_cc z) pc = .ok (.invokevirtual idx, 3)) (hlk : am_lkV (am_own z) idx y as.length) (hw : w[0]? = some (cO 10 fs)) (hci : (vwCl[10]?).map (fun q => q.1) = some y.2.1.cls) (hst : st = as.reverse ++ aR 0 :: rest) (hcat : (rest.map am_cat).sum ≤ 8) (hd1 : d' + 1 ≤ d) (hu : 1 ≤ u) (hM : am_Out S y d' 1 (aR 0 :: as) w (am_oc code v) w1) (hx : ∀ k : Nat, code = k + 1 → ∃ j : Int, am_i32 j ∧ am_hand z pc k j ∧ Q (.inl (some (aI j))) w1) (hc : 0 ≤ code) (kk : code = 0 → am_T S z d (u - 1) Q (pc + 3) ls (aI v :: rest) w1) : am_T S z d u Q pc ls st w :=
  T_invokeC (ci := 10) hrt hd hlk hw hci hst hcat hd1 hu hM (fun v' w' hq hl => by
    obtain ⟨h1, h2⟩ := hq
    subst h2
    unfold am_oc am_thr at h1
    by_cases g : code = 0
    · rw [if_pos g] at h1
      cases h1
      exact kk g
    · rw [if_neg g] at h1
      cases h1) (fun k w' hk hq hl => by
    obtain ⟨h1, h2⟩ := hq
    subst h2
    unfold am_oc am_thr at h1
    by_cases g : code = 0
    · rw [if_pos g] at h1
      cases h1
    · rw [if_neg g] at h1
      have e := Sum.inr.inj h1
      exact hx k (by omega))
theorem T_callW {S : am_S} {z y : am_Z} {d u : Nat} {Q : AO → AH → Prop} {pc idx d' u' : Nat} {ls : List (Option AV)} {st rest as : List AV} {w w1 : AH} {v : Option AV} (h0t : z.2.2.2.2.2 = []) (hd : decode (am_cc z) pc = .ok (.invokestatic idx, 3)) (hlk : am_lkW (am_own z) idx y as.length) (hst : st = as.reverse ++ rest) (hcat : (rest.map am_cat).sum ≤ 8) (hd1 : d' + 1 ≤ d) (hu : u' ≤ u)
    (hM : am_OutW S y d' u' as w (.inl v) w1) (kk : am_T S z d (u - u') Q (pc + 3) ls (v.toList ++ rest) w1) : am_T S z d u Q pc ls st w :=
  T_invokeW h0t hd hlk hst hcat hd1 hu hM (fun v' w' hq hl => by
    obtain ⟨h1, h2⟩ := hq
    cases h1
    subst h2
    exact kk) (fun k w' hq hl => by cases hq.1)
theorem wr_port {S : am_S} {d : Nat} {W W1 : AH} {fs : List AV} {f : Nat → Int} {code v : Int} (p0 : Int) (hW : W[0]? = some (cO 10 fs)) (hf : W1[844]? = some (cP 2 1 f)) (hM : am_Out S zX11_port d 1 [aR 0, aI p0] W (am_oc code v) W1) (hc : code = 0 ∨ code = 3) : am_OutW S zL_port (d + 1) 1 [aR 0, aI p0, aR 844] W (.inl (some (aI (if code = 0 then 0 else if code = 3 then 1 else 2)))) (if code = 0 then W1.set 844 (cP 2 1 (am_up f 0 v)) else W1) := by
  refine am_bodyW (by decide +kernel) rfl (am_cats_cons rfl (am_cats_cons rfl (am_cats_cons rfl (am_cats_nil)))) (Nat.le_of_ble_eq_true rfl) (?_ : am_T _ _ _ _ _ 0 [some (aR 0), some (aI p0), some (aR 844), none] [] W)
  refine T_aload_n (am_dec tL_port_0 0 rfl) rfl ?_
  refine T_iconst 0 (am_dec tL_port_0 1 rfl) rfl ⟨by decide, by decide⟩ ?_
  refine T_aload_n (am_dec tL_port_0 2 rfl) rfl ?_
  refine T_iload_n (am_dec tL_port_0 3 rfl) rfl ?_
  refine T_wrap (d' := d) (as := [aI p0]) rfl (am_dec tL_port_0 4 rfl) lkL_7 hW rfl rfl (Nat.le_of_ble_eq_true rfl) (Nat.le_refl _) (Nat.le_refl _) hM (fun k hk => ?_) (by omega) (fun h0 => ?_)
  · have ek : k = 2 := by omega
    subst ek
    exact ⟨1, ⟨by decide, by decide⟩, ⟨[], (0, 9, 12, 13), [], 3, rfl, (fun r hr => by cases hr), by decide, by decide, am_m3 199 rfl rfl, by decide, Or.inr ⟨3, rfl, (am_dec tL_port_0 8 rfl), (am_dec tL_port_0 9 rfl), (am_dec tL_port_0 10 rfl)⟩⟩, by rw [if_neg (show ¬ code = 0 by omega), if_neg (show ¬ code = 0 by omega), if_pos (show code = 3 by omega)]; exact ⟨rfl, rfl⟩⟩
  · refine T_i2l (am_dec tL_port_0 5 rfl) ?_
    refine T_lastore (n := 1) (f := f) (am_dec tL_port_0 6 rfl) hf (by decide) (by decide) ?_
    refine T_goto 15 (am_dec tL_port_0 7 rfl) rfl ?_
    refine T_iconst 0 (am_dec tL_port_0 11 rfl) rfl ⟨by decide, by decide⟩ ?_
    exact T_ireturn (am_dec tL_port_0 12 rfl) rfl (by rw [if_pos h0, if_pos h0]; exact ⟨rfl, rfl⟩)
theorem wr_told {S : am_S} {d : Nat} {W W1 : AH} {fs : List AV} {f : Nat → Int} {code v : Int} (p0 : Int) (hW : W[0]? = some (cO 10 fs)) (hf : W1[844]? = some (cP 2 1 f)) (hM : am_Out S zX11_told d 1 [aR 0, aI p0] W (am_oc code v) W1) (hc : code = 0 ∨ code = 3) : am_OutW S zL_told (d + 1) 1 [aR 0, aI p0, aR 844] W (.inl (some (aI (if code = 0 then 0 else if code = 3 then 1 else 2)))) (if code = 0 then W1.set 844 (cP 2 1 (am_up f 0 v)) else W1) := by
  refine am_bodyW (by decide +kernel) rfl (am_cats_cons rfl (am_cats_cons rfl (am_cats_cons rfl (am_cats_nil)))) (Nat.le_of_ble_eq_true rfl) (?_ : am_T _ _ _ _ _ 0 [some (aR 0), some (aI p0), some (aR 844), none] [] W)
  refine T_aload_n (am_dec tL_told_0 0 rfl) rfl ?_
  refine T_iconst 0 (am_dec tL_told_0 1 rfl) rfl ⟨by decide, by decide⟩ ?_
  refine T_aload_n (am_dec tL_told_0 2 rfl) rfl ?_
  refine T_iload_n (am_dec tL_told_0 3 rfl) rfl ?_
  refine T_wrap (d' := d) (as := [aI p0]) rfl (am_dec tL_told_0 4 rfl) lkL_15 hW rfl rfl (Nat.le_of_ble_eq_true rfl) (Nat.le_refl _) (Nat.le_refl _) hM (fun k hk => ?_) (by omega) (fun h0 => ?_)
  · have ek : k = 2 := by omega
    subst ek
    exact ⟨1, ⟨by decide, by decide⟩, ⟨[], (0, 9, 12, 13), [], 3, rfl, (fun r hr => by cases hr), by decide, by decide, am_m3 199 rfl rfl, by decide, Or.inr ⟨3, rfl, (am_dec tL_told_0 8 rfl), (am_dec tL_told_0 9 rfl), (am_dec tL_told_0 10 rfl)⟩⟩, by rw [if_neg (show ¬ code = 0 by omega), if_neg (show ¬ code = 0 by omega), if_pos (show code = 3 by omega)]; exact ⟨rfl, rfl⟩⟩
  · refine T_i2l (am_dec tL_told_0 5 rfl) ?_
    refine T_lastore (n := 1) (f := f) (am_dec tL_told_0 6 rfl) hf (by decide) (by decide) ?_
    refine T_goto 15 (am_dec tL_told_0 7 rfl) rfl ?_
    refine T_iconst 0 (am_dec tL_told_0 11 rfl) rfl ⟨by decide, by decide⟩ ?_
    exact T_ireturn (am_dec tL_told_0 12 rfl) rfl (by rw [if_pos h0, if_pos h0]; exact ⟨rfl, rfl⟩)
theorem wr_fog {S : am_S} {d : Nat} {W W1 : AH} {fs : List AV} {f : Nat → Int} {code v : Int} (p0 : Int) (p1 : Int) (p2 : Int) (hW : W[0]? = some (cO 10 fs)) (hf : W1[844]? = some (cP 2 1 f)) (hM : am_Out S zX11_fog d 1 [aR 0, aI p0, aI p1, aI p2] W (am_oc code v) W1) (hc : code = 0 ∨ code = 1 ∨ code = 3) : am_OutW S zL_fog (d + 1) 1 [aR 0, aI p0, aI p1, aI p2, aR 844] W (.inl (some (aI (if code = 0 then 0 else if code = 1 then 1 else 2)))) (if code = 0 then W1.set 844 (cP 2 1 (am_up f 0 v)) else W1) := by
  refine am_bodyW (by decide +kernel) rfl (am_cats_cons rfl (am_cats_cons rfl (am_cats_cons rfl (am_cats_cons rfl (am_cats_cons rfl (am_cats_nil)))))) (Nat.le_of_ble_eq_true rfl) (?_ : am_T _ _ _ _ _ 0 [some (aR 0), some (aI p0), some (aI p1), some (aI p2), some (aR 844), none] [] W)
  refine T_aload (am_dec tL_fog_0 0 rfl) rfl ?_
  refine T_iconst 0 (am_dec tL_fog_0 1 rfl) rfl ⟨by decide, by decide⟩ ?_
  refine T_aload_n (am_dec tL_fog_0 2 rfl) rfl ?_
  refine T_iload_n (am_dec tL_fog_0 3 rfl) rfl ?_
  refine T_iload_n (am_dec tL_fog_0 4 rfl) rfl ?_
  refine T_iload_n (am_dec tL_fog_0 5 rfl) rfl ?_
  refine T_wrap (d' := d) (as := [aI p0, aI p1, aI p2]) rfl (am_dec tL_fog_0 6 rfl) lkL_18 hW rfl rfl (Nat.le_of_ble_eq_true rfl) (Nat.le_refl _) (Nat.le_refl _) hM (fun k hk => ?_) (by omega) (fun h0 => ?_)
  · by_cases e : code = 1
    · have ek : k = 0 := by omega
      subst ek
      exact ⟨1, ⟨by decide, by decide⟩, ⟨[], (0, 12, 15, 22), [(0, 12, 19, 13)], 5, rfl, (fun r hr => by cases hr), by decide, by decide, am_m5 53 rfl rfl, by decide, Or.inl ⟨(am_dec tL_fog_0 10 rfl), (am_dec tL_fog_0 11 rfl), (am_dec tL_fog_0 12 rfl)⟩⟩, by rw [if_neg (show ¬ code = 0 by omega), if_neg (show ¬ code = 0 by omega), if_pos e]; exact ⟨rfl, rfl⟩⟩
    · have ek : k = 2 := by omega
      subst ek
      exact ⟨2, ⟨by decide, by decide⟩, ⟨[(0, 12, 15, 22)], (0, 12, 19, 13), [], 5, rfl, (fun r hr => by
      rw [List.mem_singleton.mp hr]
      exact ⟨by decide, 0, by decide, by decide, am_m5 53 rfl rfl⟩), by decide, by decide, am_m3 199 rfl rfl, by decide, Or.inl ⟨(am_dec tL_fog_0 13 rfl), (am_dec tL_fog_0 14 rfl), (am_dec tL_fog_0 15 rfl)⟩⟩, by rw [if_neg (show ¬ code = 0 by omega), if_neg (show ¬ code = 0 by omega), if_neg e]; exact ⟨rfl, rfl⟩⟩
  · refine T_i2l (am_dec tL_fog_0 7 rfl) ?_
    refine T_lastore (n := 1) (f := f) (am_dec tL_fog_0 8 rfl) hf (by decide) (by decide) ?_
    refine T_goto 23 (am_dec tL_fog_0 9 rfl) rfl ?_
    refine T_iconst 0 (am_dec tL_fog_0 16 rfl) rfl ⟨by decide, by decide⟩ ?_
    exact T_ireturn (am_dec tL_fog_0 17 rfl) rfl (by rw [if_pos h0, if_pos h0]; exact ⟨rfl, rfl⟩)
theorem wr_sums {S : am_S} {d : Nat} {W W1 : AH} {fs : List AV} {f : Nat → Int} {code v : Int} (p0 : Int) (p1 : Int) (hW : W[0]? = some (cO 10 fs)) (hf : W1[844]? = some (cP 2 1 f)) (hM : am_Out S zX11_sums d 1 [aR 0, aI p0, aI p1] W (am_oc code v) W1) (hc : code = 0 ∨ code = 3) : am_OutW S zL_sums (d + 1) 1 [aR 0, aI p0, aI p1, aR 844] W (.inl (some (aI (if code = 0 then 0 else if code = 3 then 1 else 2)))) (if code = 0 then W1.set 844 (cP 2 1 (am_up f 0 v)) else W1) := by
  refine am_bodyW (by decide +kernel) rfl (am_cats_cons rfl (am_cats_cons rfl (am_cats_cons rfl (am_cats_cons rfl (am_cats_nil))))) (Nat.le_of_ble_eq_true rfl) (?_ : am_T _ _ _ _ _ 0 [some (aR 0), some (aI p0), some (aI p1), some (aR 844), none] [] W)
  refine T_aload_n (am_dec tL_sums_0 0 rfl) rfl ?_
  refine T_iconst 0 (am_dec tL_sums_0 1 rfl) rfl ⟨by decide, by decide⟩ ?_
  refine T_aload_n (am_dec tL_sums_0 2 rfl) rfl ?_
  refine T_iload_n (am_dec tL_sums_0 3 rfl) rfl ?_
  refine T_iload_n (am_dec tL_sums_0 4 rfl) rfl ?_
  refine T_wrap (d' := d) (as := [aI p0, aI p1]) rfl (am_dec tL_sums_0 5 rfl) lkL_24 hW rfl rfl (Nat.le_of_ble_eq_true rfl) (Nat.le_refl _) (Nat.le_refl _) hM (fun k hk => ?_) (by omega) (fun h0 => ?_)
  · have ek : k = 2 := by omega
    subst ek
    exact ⟨1, ⟨by decide, by decide⟩, ⟨[], (0, 10, 13, 13), [], 4, rfl, (fun r hr => by cases hr), by decide, by decide, am_m3 199 rfl rfl, by decide, Or.inl ⟨(am_dec tL_sums_0 9 rfl), (am_dec tL_sums_0 10 rfl), (am_dec tL_sums_0 11 rfl)⟩⟩, by rw [if_neg (show ¬ code = 0 by omega), if_neg (show ¬ code = 0 by omega), if_pos (show code = 3 by omega)]; exact ⟨rfl, rfl⟩⟩
  · refine T_i2l (am_dec tL_sums_0 6 rfl) ?_
    refine T_lastore (n := 1) (f := f) (am_dec tL_sums_0 7 rfl) hf (by decide) (by decide) ?_
    refine T_goto 17 (am_dec tL_sums_0 8 rfl) rfl ?_
    refine T_iconst 0 (am_dec tL_sums_0 12 rfl) rfl ⟨by decide, by decide⟩ ?_
    exact T_ireturn (am_dec tL_sums_0 13 rfl) rfl (by rw [if_pos h0, if_pos h0]; exact ⟨rfl, rfl⟩)
theorem wr_set {S : am_S} {d : Nat} {W W1 : AH} {fs : List AV} {f : Nat → Int} {code v : Int} (p0 : Int) (p1 : Int) (p2 : Int) (hW : W[0]? = some (cO 10 fs)) (hf : W1[844]? = some (cP 2 1 f)) (hM : am_Out S zX11_set d 1 [aR 0, aI p0, aI p1, aI p2] W (am_oc code v) W1) (hc : code = 0 ∨ code = 1 ∨ code = 3) : am_OutW S zL_set (d + 1) 1 [aR 0, aI p0, aI p1, aI p2, aR 844] W (.inl (some (aI (if code = 0 then 0 else if code = 1 then 1 else 2)))) (if code = 0 then W1.set 844 (cP 2 1 (am_up f 0 v)) else W1) := by
  refine am_bodyW (by decide +kernel) rfl (am_cats_cons rfl (am_cats_cons rfl (am_cats_cons rfl (am_cats_cons rfl (am_cats_cons rfl (am_cats_nil)))))) (Nat.le_of_ble_eq_true rfl) (?_ : am_T _ _ _ _ _ 0 [some (aR 0), some (aI p0), some (aI p1), some (aI p2), some (aR 844), none] [] W)
  refine T_aload (am_dec tL_set_0 0 rfl) rfl ?_
  refine T_iconst 0 (am_dec tL_set_0 1 rfl) rfl ⟨by decide, by decide⟩ ?_
  refine T_aload_n (am_dec tL_set_0 2 rfl) rfl ?_
  refine T_iload_n (am_dec tL_set_0 3 rfl) rfl ?_
  refine T_iload_n (am_dec tL_set_0 4 rfl) rfl ?_
  refine T_iload_n (am_dec tL_set_0 5 rfl) rfl ?_
  refine T_wrap (d' := d) (as := [aI p0, aI p1, aI p2]) rfl (am_dec tL_set_0 6 rfl) lkL_28 hW rfl rfl (Nat.le_of_ble_eq_true rfl) (Nat.le_refl _) (Nat.le_refl _) hM (fun k hk => ?_) (by omega) (fun h0 => ?_)
  · by_cases e : code = 1
    · have ek : k = 0 := by omega
      subst ek
      exact ⟨1, ⟨by decide, by decide⟩, ⟨[], (0, 12, 15, 22), [(0, 12, 19, 13)], 5, rfl, (fun r hr => by cases hr), by decide, by decide, am_m5 53 rfl rfl, by decide, Or.inl ⟨(am_dec tL_set_0 10 rfl), (am_dec tL_set_0 11 rfl), (am_dec tL_set_0 12 rfl)⟩⟩, by rw [if_neg (show ¬ code = 0 by omega), if_neg (show ¬ code = 0 by omega), if_pos e]; exact ⟨rfl, rfl⟩⟩
    · have ek : k = 2 := by omega
      subst ek
      exact ⟨2, ⟨by decide, by decide⟩, ⟨[(0, 12, 15, 22)], (0, 12, 19, 13), [], 5, rfl, (fun r hr => by
      rw [List.mem_singleton.mp hr]
      exact ⟨by decide, 0, by decide, by decide, am_m5 53 rfl rfl⟩), by decide, by decide, am_m3 199 rfl rfl, by decide, Or.inl ⟨(am_dec tL_set_0 13 rfl), (am_dec tL_set_0 14 rfl), (am_dec tL_set_0 15 rfl)⟩⟩, by rw [if_neg (show ¬ code = 0 by omega), if_neg (show ¬ code = 0 by omega), if_neg e]; exact ⟨rfl, rfl⟩⟩
  · refine T_i2l (am_dec tL_set_0 7 rfl) ?_
    refine T_lastore (n := 1) (f := f) (am_dec tL_set_0 8 rfl) hf (by decide) (by decide) ?_
    refine T_goto 23 (am_dec tL_set_0 9 rfl) rfl ?_
    refine T_iconst 0 (am_dec tL_set_0 16 rfl) rfl ⟨by decide, by decide⟩ ?_
    exact T_ireturn (am_dec tL_set_0 17 rfl) rfl (by rw [if_pos h0, if_pos h0]; exact ⟨rfl, rfl⟩)
theorem wr_led {S : am_S} {d : Nat} {W W1 : AH} {fs : List AV} {f : Nat → Int} {code v : Int} (p0 : Int) (p1 : Int) (hW : W[0]? = some (cO 10 fs)) (hf : W1[844]? = some (cP 2 1 f)) (hM : am_Out S zX11_led d 1 [aR 0, aI p0, aI p1] W (am_oc code v) W1) (hc : code = 0 ∨ code = 2 ∨ code = 3) : am_OutW S zL_led (d + 1) 1 [aR 0, aI p0, aI p1, aR 844] W (.inl (some (aI (if code = 0 then 0 else if code = 2 then 1 else 2)))) (if code = 0 then W1.set 844 (cP 2 1 (am_up f 0 v)) else W1) := by
  refine am_bodyW (by decide +kernel) rfl (am_cats_cons rfl (am_cats_cons rfl (am_cats_cons rfl (am_cats_cons rfl (am_cats_nil))))) (Nat.le_of_ble_eq_true rfl) (?_ : am_T _ _ _ _ _ 0 [some (aR 0), some (aI p0), some (aI p1), some (aR 844), none] [] W)
  refine T_aload_n (am_dec tL_led_0 0 rfl) rfl ?_
  refine T_iconst 0 (am_dec tL_led_0 1 rfl) rfl ⟨by decide, by decide⟩ ?_
  refine T_aload_n (am_dec tL_led_0 2 rfl) rfl ?_
  refine T_iload_n (am_dec tL_led_0 3 rfl) rfl ?_
  refine T_iload_n (am_dec tL_led_0 4 rfl) rfl ?_
  refine T_wrap (d' := d) (as := [aI p0, aI p1]) rfl (am_dec tL_led_0 5 rfl) lkL_31 hW rfl rfl (Nat.le_of_ble_eq_true rfl) (Nat.le_refl _) (Nat.le_refl _) hM (fun k hk => ?_) (by omega) (fun h0 => ?_)
  · by_cases e : code = 2
    · have ek : k = 1 := by omega
      subst ek
      exact ⟨1, ⟨by decide, by decide⟩, ⟨[], (0, 10, 13, 34), [(0, 10, 17, 13)], 4, rfl, (fun r hr => by cases hr), by decide, by decide, am_m5 100 rfl rfl, by decide, Or.inl ⟨(am_dec tL_led_0 9 rfl), (am_dec tL_led_0 10 rfl), (am_dec tL_led_0 11 rfl)⟩⟩, by rw [if_neg (show ¬ code = 0 by omega), if_neg (show ¬ code = 0 by omega), if_pos e]; exact ⟨rfl, rfl⟩⟩
    · have ek : k = 2 := by omega
      subst ek
      exact ⟨2, ⟨by decide, by decide⟩, ⟨[(0, 10, 13, 34)], (0, 10, 17, 13), [], 4, rfl, (fun r hr => by
      rw [List.mem_singleton.mp hr]
      exact ⟨by decide, 1, by decide, by decide, am_m5 100 rfl rfl⟩), by decide, by decide, am_m3 199 rfl rfl, by decide, Or.inl ⟨(am_dec tL_led_0 12 rfl), (am_dec tL_led_0 13 rfl), (am_dec tL_led_0 14 rfl)⟩⟩, by rw [if_neg (show ¬ code = 0 by omega), if_neg (show ¬ code = 0 by omega), if_neg e]; exact ⟨rfl, rfl⟩⟩
  · refine T_i2l (am_dec tL_led_0 6 rfl) ?_
    refine T_lastore (n := 1) (f := f) (am_dec tL_led_0 7 rfl) hf (by decide) (by decide) ?_
    refine T_goto 21 (am_dec tL_led_0 8 rfl) rfl ?_
    refine T_iconst 0 (am_dec tL_led_0 15 rfl) rfl ⟨by decide, by decide⟩ ?_
    exact T_ireturn (am_dec tL_led_0 16 rfl) rfl (by rw [if_pos h0, if_pos h0]; exact ⟨rfl, rfl⟩)
theorem wr_whose {S : am_S} {d : Nat} {W W1 : AH} {fs : List AV} {f : Nat → Int} {code v : Int} (p0 : Int) (p1 : Int) (hW : W[0]? = some (cO 10 fs)) (hf : W1[844]? = some (cP 2 1 f)) (hM : am_Out S zX11_whose d 1 [aR 0, aI p0, aI p1] W (am_oc code v) W1) (hc : code = 0 ∨ code = 1) : am_OutW S zL_whose (d + 1) 1 [aR 0, aI p0, aI p1, aR 844] W (.inl (some (aI (if code = 0 then 0 else if code = 1 then 1 else 2)))) (if code = 0 then W1.set 844 (cP 2 1 (am_up f 0 v)) else W1) := by
  refine am_bodyW (by decide +kernel) rfl (am_cats_cons rfl (am_cats_cons rfl (am_cats_cons rfl (am_cats_cons rfl (am_cats_nil))))) (Nat.le_of_ble_eq_true rfl) (?_ : am_T _ _ _ _ _ 0 [some (aR 0), some (aI p0), some (aI p1), some (aR 844), none] [] W)
  refine T_aload_n (am_dec tL_whose_0 0 rfl) rfl ?_
  refine T_iconst 0 (am_dec tL_whose_0 1 rfl) rfl ⟨by decide, by decide⟩ ?_
  refine T_aload_n (am_dec tL_whose_0 2 rfl) rfl ?_
  refine T_iload_n (am_dec tL_whose_0 3 rfl) rfl ?_
  refine T_iload_n (am_dec tL_whose_0 4 rfl) rfl ?_
  refine T_wrap (d' := d) (as := [aI p0, aI p1]) rfl (am_dec tL_whose_0 5 rfl) lkL_36 hW rfl rfl (Nat.le_of_ble_eq_true rfl) (Nat.le_refl _) (Nat.le_refl _) hM (fun k hk => ?_) (by omega) (fun h0 => ?_)
  · have ek : k = 0 := by omega
    subst ek
    exact ⟨1, ⟨by decide, by decide⟩, ⟨[], (0, 10, 13, 22), [], 4, rfl, (fun r hr => by cases hr), by decide, by decide, am_m5 53 rfl rfl, by decide, Or.inl ⟨(am_dec tL_whose_0 9 rfl), (am_dec tL_whose_0 10 rfl), (am_dec tL_whose_0 11 rfl)⟩⟩, by rw [if_neg (show ¬ code = 0 by omega), if_neg (show ¬ code = 0 by omega), if_pos (show code = 1 by omega)]; exact ⟨rfl, rfl⟩⟩
  · refine T_i2l (am_dec tL_whose_0 6 rfl) ?_
    refine T_lastore (n := 1) (f := f) (am_dec tL_whose_0 7 rfl) hf (by decide) (by decide) ?_
    refine T_goto 17 (am_dec tL_whose_0 8 rfl) rfl ?_
    refine T_iconst 0 (am_dec tL_whose_0 12 rfl) rfl ⟨by decide, by decide⟩ ?_
    exact T_ireturn (am_dec tL_whose_0 13 rfl) rfl (by rw [if_pos h0, if_pos h0]; exact ⟨rfl, rfl⟩)
theorem wr_line {S : am_S} {d : Nat} {W W1 : AH} {fs : List AV} {f : Nat → Int} {code v : Int} (p0 : Int) (p1 : Int) (p2 : Int) (p3 : Int) (p4 : Int) (hW : W[0]? = some (cO 10 fs)) (hf : W1[844]? = some (cP 2 1 f)) (hM : am_Out S zX11_line d 1 [aR 0, aI p0, aI p1, aI p2, aI p3, aI p4] W (am_oc code v) W1) (hc : code = 0 ∨ code = 1 ∨ code = 3) : am_OutW S zL_line (d + 1) 1 [aR 0, aI p0, aI p1, aI p2, aI p3, aI p4, aR 844] W (.inl (some (aI (if code = 0 then 0 else if code = 1 then 1 else 2)))) (if code = 0 then W1.set 844 (cP 2 1 (am_up f 0 v)) else W1) := by
  refine am_bodyW (by decide +kernel) rfl (am_cats_cons rfl (am_cats_cons rfl (am_cats_cons rfl (am_cats_cons rfl (am_cats_cons rfl (am_cats_cons rfl (am_cats_cons rfl (am_cats_nil)))))))) (Nat.le_of_ble_eq_true rfl) (?_ : am_T _ _ _ _ _ 0 [some (aR 0), some (aI p0), some (aI p1), some (aI p2), some (aI p3), some (aI p4), some (aR 844), none] [] W)
  refine T_aload (am_dec tL_line_0 0 rfl) rfl ?_
  refine T_iconst 0 (am_dec tL_line_0 1 rfl) rfl ⟨by decide, by decide⟩ ?_
  refine T_aload_n (am_dec tL_line_0 2 rfl) rfl ?_
  refine T_iload_n (am_dec tL_line_0 3 rfl) rfl ?_
  refine T_iload_n (am_dec tL_line_0 4 rfl) rfl ?_
  refine T_iload_n (am_dec tL_line_0 5 rfl) rfl ?_
  refine T_iload (am_dec tL_line_0 6 rfl) rfl ?_
  refine T_iload (am_dec tL_line_0 7 rfl) rfl ?_
  refine T_wrap (d' := d) (as := [aI p0, aI p1, aI p2, aI p3, aI p4]) rfl (am_dec tL_line_0 8 rfl) lkL_39 hW rfl rfl (Nat.le_of_ble_eq_true rfl) (Nat.le_refl _) (Nat.le_refl _) hM (fun k hk => ?_) (by omega) (fun h0 => ?_)
  · by_cases e : code = 1
    · have ek : k = 0 := by omega
      subst ek
      exact ⟨1, ⟨by decide, by decide⟩, ⟨[], (0, 16, 19, 22), [(0, 16, 23, 13)], 7, rfl, (fun r hr => by cases hr), by decide, by decide, am_m5 53 rfl rfl, by decide, Or.inl ⟨(am_dec tL_line_0 12 rfl), (am_dec tL_line_0 13 rfl), (am_dec tL_line_0 14 rfl)⟩⟩, by rw [if_neg (show ¬ code = 0 by omega), if_neg (show ¬ code = 0 by omega), if_pos e]; exact ⟨rfl, rfl⟩⟩
    · have ek : k = 2 := by omega
      subst ek
      exact ⟨2, ⟨by decide, by decide⟩, ⟨[(0, 16, 19, 22)], (0, 16, 23, 13), [], 7, rfl, (fun r hr => by
      rw [List.mem_singleton.mp hr]
      exact ⟨by decide, 0, by decide, by decide, am_m5 53 rfl rfl⟩), by decide, by decide, am_m3 199 rfl rfl, by decide, Or.inl ⟨(am_dec tL_line_0 15 rfl), (am_dec tL_line_0 16 rfl), (am_dec tL_line_0 17 rfl)⟩⟩, by rw [if_neg (show ¬ code = 0 by omega), if_neg (show ¬ code = 0 by omega), if_neg e]; exact ⟨rfl, rfl⟩⟩
  · refine T_i2l (am_dec tL_line_0 9 rfl) ?_
    refine T_lastore (n := 1) (f := f) (am_dec tL_line_0 10 rfl) hf (by decide) (by decide) ?_
    refine T_goto 27 (am_dec tL_line_0 11 rfl) rfl ?_
    refine T_iconst 0 (am_dec tL_line_0 18 rfl) rfl ⟨by decide, by decide⟩ ?_
    exact T_ireturn (am_dec tL_line_0 19 rfl) rfl (by rw [if_pos h0, if_pos h0]; exact ⟨rfl, rfl⟩)
theorem wr_where {S : am_S} {d : Nat} {W W1 : AH} {fs : List AV} {f : Nat → Int} {code v : Int} (p0 : Int) (p1 : Int) (hW : W[0]? = some (cO 10 fs)) (hf : W1[844]? = some (cP 2 1 f)) (hM : am_Out S zX11_where d 1 [aR 0, aI p0, aI p1] W (am_oc code v) W1) (hc : code = 0 ∨ code = 2 ∨ code = 3) : am_OutW S zL_where (d + 1) 1 [aR 0, aI p0, aI p1, aR 844] W (.inl (some (aI (if code = 0 then 0 else if code = 2 then 1 else 2)))) (if code = 0 then W1.set 844 (cP 2 1 (am_up f 0 v)) else W1) := by
  refine am_bodyW (by decide +kernel) rfl (am_cats_cons rfl (am_cats_cons rfl (am_cats_cons rfl (am_cats_cons rfl (am_cats_nil))))) (Nat.le_of_ble_eq_true rfl) (?_ : am_T _ _ _ _ _ 0 [some (aR 0), some (aI p0), some (aI p1), some (aR 844), none] [] W)
  refine T_aload_n (am_dec tL_where_0 0 rfl) rfl ?_
  refine T_iconst 0 (am_dec tL_where_0 1 rfl) rfl ⟨by decide, by decide⟩ ?_
  refine T_aload_n (am_dec tL_where_0 2 rfl) rfl ?_
  refine T_iload_n (am_dec tL_where_0 3 rfl) rfl ?_
  refine T_iload_n (am_dec tL_where_0 4 rfl) rfl ?_
  refine T_wrap (d' := d) (as := [aI p0, aI p1]) rfl (am_dec tL_where_0 5 rfl) lkL_43 hW rfl rfl (Nat.le_of_ble_eq_true rfl) (Nat.le_refl _) (Nat.le_refl _) hM (fun k hk => ?_) (by omega) (fun h0 => ?_)
  · by_cases e : code = 2
    · have ek : k = 1 := by omega
      subst ek
      exact ⟨1, ⟨by decide, by decide⟩, ⟨[], (0, 10, 13, 34), [(0, 10, 17, 13)], 4, rfl, (fun r hr => by cases hr), by decide, by decide, am_m5 100 rfl rfl, by decide, Or.inl ⟨(am_dec tL_where_0 9 rfl), (am_dec tL_where_0 10 rfl), (am_dec tL_where_0 11 rfl)⟩⟩, by rw [if_neg (show ¬ code = 0 by omega), if_neg (show ¬ code = 0 by omega), if_pos e]; exact ⟨rfl, rfl⟩⟩
    · have ek : k = 2 := by omega
      subst ek
      exact ⟨2, ⟨by decide, by decide⟩, ⟨[(0, 10, 13, 34)], (0, 10, 17, 13), [], 4, rfl, (fun r hr => by
      rw [List.mem_singleton.mp hr]
      exact ⟨by decide, 1, by decide, by decide, am_m5 100 rfl rfl⟩), by decide, by decide, am_m3 199 rfl rfl, by decide, Or.inl ⟨(am_dec tL_where_0 12 rfl), (am_dec tL_where_0 13 rfl), (am_dec tL_where_0 14 rfl)⟩⟩, by rw [if_neg (show ¬ code = 0 by omega), if_neg (show ¬ code = 0 by omega), if_neg e]; exact ⟨rfl, rfl⟩⟩
  · refine T_i2l (am_dec tL_where_0 6 rfl) ?_
    refine T_lastore (n := 1) (f := f) (am_dec tL_where_0 7 rfl) hf (by decide) (by decide) ?_
    refine T_goto 21 (am_dec tL_where_0 8 rfl) rfl ?_
    refine T_iconst 0 (am_dec tL_where_0 15 rfl) rfl ⟨by decide, by decide⟩ ?_
    exact T_ireturn (am_dec tL_where_0 16 rfl) rfl (by rw [if_pos h0, if_pos h0]; exact ⟨rfl, rfl⟩)
theorem wr_sees {S : am_S} {d : Nat} {W W1 : AH} {fs : List AV} {f : Nat → Int} {code v : Int} (p0 : Int) (p1 : Int) (p2 : Int) (hW : W[0]? = some (cO 10 fs)) (hf : W1[844]? = some (cP 2 1 f)) (hM : am_Out S zX11_sees d 1 [aR 0, aI p0, aI p1, aI p2] W (am_oc code v) W1) (hc : code = 0 ∨ code = 2 ∨ code = 3) (hb : code = 0 → v = 0 ∨ v = 1) : am_OutW S zL_sees (d + 1) 1 [aR 0, aI p0, aI p1, aI p2, aR 844] W (.inl (some (aI (if code = 0 then 0 else if code = 2 then 1 else 2)))) (if code = 0 then W1.set 844 (cP 2 1 (am_up f 0 v)) else W1) := by
  refine am_bodyW (by decide +kernel) rfl (am_cats_cons rfl (am_cats_cons rfl (am_cats_cons rfl (am_cats_cons rfl (am_cats_cons rfl (am_cats_nil)))))) (Nat.le_of_ble_eq_true rfl) (?_ : am_T _ _ _ _ _ 0 [some (aR 0), some (aI p0), some (aI p1), some (aI p2), some (aR 844), none] [] W)
  refine T_aload (am_dec tL_sees_0 0 rfl) rfl ?_
  refine T_iconst 0 (am_dec tL_sees_0 1 rfl) rfl ⟨by decide, by decide⟩ ?_
  refine T_aload_n (am_dec tL_sees_0 2 rfl) rfl ?_
  refine T_iload_n (am_dec tL_sees_0 3 rfl) rfl ?_
  refine T_iload_n (am_dec tL_sees_0 4 rfl) rfl ?_
  refine T_iload_n (am_dec tL_sees_0 5 rfl) rfl ?_
  refine T_wrap (d' := d) (as := [aI p0, aI p1, aI p2]) rfl (am_dec tL_sees_0 6 rfl) lkL_46 hW rfl rfl (Nat.le_of_ble_eq_true rfl) (Nat.le_refl _) (Nat.le_refl _) hM (fun k hk => ?_) (by omega) (fun h0 => ?_)
  · by_cases e : code = 2
    · have ek : k = 1 := by omega
      subst ek
      exact ⟨1, ⟨by decide, by decide⟩, ⟨[], (0, 19, 22, 34), [(0, 19, 26, 13)], 5, rfl, (fun r hr => by cases hr), by decide, by decide, am_m5 100 rfl rfl, by decide, Or.inl ⟨(am_dec tL_sees_0 13 rfl), (am_dec tL_sees_0 14 rfl), (am_dec tL_sees_0 15 rfl)⟩⟩, by rw [if_neg (show ¬ code = 0 by omega), if_neg (show ¬ code = 0 by omega), if_pos e]; exact ⟨rfl, rfl⟩⟩
    · have ek : k = 2 := by omega
      subst ek
      exact ⟨2, ⟨by decide, by decide⟩, ⟨[(0, 19, 22, 34)], (0, 19, 26, 13), [], 5, rfl, (fun r hr => by
      rw [List.mem_singleton.mp hr]
      exact ⟨by decide, 1, by decide, by decide, am_m5 100 rfl rfl⟩), by decide, by decide, am_m3 199 rfl rfl, by decide, Or.inl ⟨(am_dec tL_sees_0 16 rfl), (am_dec tL_sees_0 17 rfl), (am_dec tL_sees_0 18 rfl)⟩⟩, by rw [if_neg (show ¬ code = 0 by omega), if_neg (show ¬ code = 0 by omega), if_neg e]; exact ⟨rfl, rfl⟩⟩
  · refine T_if_eq 17 (am_dec tL_sees_0 7 rfl) rfl (fun g => ?_) (fun g => ?_)
    · refine T_lconst 0 (am_dec tL_sees_0 10 rfl) rfl ⟨by decide, by decide⟩ ?_
      refine T_lastore (n := 1) (f := f) (am_dec tL_sees_0 11 rfl) hf (by decide) (by decide) ?_
      refine T_goto 30 (am_dec tL_sees_0 12 rfl) rfl ?_
      refine T_iconst 0 (am_dec tL_sees_0 19 rfl) rfl ⟨by decide, by decide⟩ ?_
      exact T_ireturn (am_dec tL_sees_0 20 rfl) rfl (by rw [if_pos h0, if_pos h0]; rw [g]; exact ⟨rfl, rfl⟩)
    · refine T_lconst 1 (am_dec tL_sees_0 8 rfl) rfl ⟨by decide, by decide⟩ ?_
      refine T_goto 18 (am_dec tL_sees_0 9 rfl) rfl ?_
      refine T_lastore (n := 1) (f := f) (am_dec tL_sees_0 11 rfl) hf (by decide) (by decide) ?_
      refine T_goto 30 (am_dec tL_sees_0 12 rfl) rfl ?_
      refine T_iconst 0 (am_dec tL_sees_0 19 rfl) rfl ⟨by decide, by decide⟩ ?_
      exact T_ireturn (am_dec tL_sees_0 20 rfl) rfl (by rw [if_pos h0, if_pos h0]; rw [(hb h0).resolve_left g]; exact ⟨rfl, rfl⟩)
theorem wr_often {S : am_S} {d : Nat} {W W1 : AH} {fs : List AV} {f : Nat → Int} {code v : Int} (p0 : Int) (p1 : Int) (hW : W[0]? = some (cO 10 fs)) (hf : W1[844]? = some (cP 2 1 f)) (hM : am_Out S zX11_often d 1 [aR 0, aI p0, aI p1] W (am_oc code v) W1) (hc : code = 0 ∨ code = 2 ∨ code = 3) : am_OutW S zL_often (d + 1) 1 [aR 0, aI p0, aI p1, aR 844] W (.inl (some (aI (if code = 0 then 0 else if code = 2 then 1 else 2)))) (if code = 0 then W1.set 844 (cP 2 1 (am_up f 0 v)) else W1) := by
  refine am_bodyW (by decide +kernel) rfl (am_cats_cons rfl (am_cats_cons rfl (am_cats_cons rfl (am_cats_cons rfl (am_cats_nil))))) (Nat.le_of_ble_eq_true rfl) (?_ : am_T _ _ _ _ _ 0 [some (aR 0), some (aI p0), some (aI p1), some (aR 844), none] [] W)
  refine T_aload_n (am_dec tL_often_0 0 rfl) rfl ?_
  refine T_iconst 0 (am_dec tL_often_0 1 rfl) rfl ⟨by decide, by decide⟩ ?_
  refine T_aload_n (am_dec tL_often_0 2 rfl) rfl ?_
  refine T_iload_n (am_dec tL_often_0 3 rfl) rfl ?_
  refine T_iload_n (am_dec tL_often_0 4 rfl) rfl ?_
  refine T_wrap (d' := d) (as := [aI p0, aI p1]) rfl (am_dec tL_often_0 5 rfl) lkL_50 hW rfl rfl (Nat.le_of_ble_eq_true rfl) (Nat.le_refl _) (Nat.le_refl _) hM (fun k hk => ?_) (by omega) (fun h0 => ?_)
  · by_cases e : code = 2
    · have ek : k = 1 := by omega
      subst ek
      exact ⟨1, ⟨by decide, by decide⟩, ⟨[], (0, 10, 13, 34), [(0, 10, 17, 13)], 4, rfl, (fun r hr => by cases hr), by decide, by decide, am_m5 100 rfl rfl, by decide, Or.inl ⟨(am_dec tL_often_0 9 rfl), (am_dec tL_often_0 10 rfl), (am_dec tL_often_0 11 rfl)⟩⟩, by rw [if_neg (show ¬ code = 0 by omega), if_neg (show ¬ code = 0 by omega), if_pos e]; exact ⟨rfl, rfl⟩⟩
    · have ek : k = 2 := by omega
      subst ek
      exact ⟨2, ⟨by decide, by decide⟩, ⟨[(0, 10, 13, 34)], (0, 10, 17, 13), [], 4, rfl, (fun r hr => by
      rw [List.mem_singleton.mp hr]
      exact ⟨by decide, 1, by decide, by decide, am_m5 100 rfl rfl⟩), by decide, by decide, am_m3 199 rfl rfl, by decide, Or.inl ⟨(am_dec tL_often_0 12 rfl), (am_dec tL_often_0 13 rfl), (am_dec tL_often_0 14 rfl)⟩⟩, by rw [if_neg (show ¬ code = 0 by omega), if_neg (show ¬ code = 0 by omega), if_neg e]; exact ⟨rfl, rfl⟩⟩
  · refine T_i2l (am_dec tL_often_0 6 rfl) ?_
    refine T_lastore (n := 1) (f := f) (am_dec tL_often_0 7 rfl) hf (by decide) (by decide) ?_
    refine T_goto 21 (am_dec tL_often_0 8 rfl) rfl ?_
    refine T_iconst 0 (am_dec tL_often_0 15 rfl) rfl ⟨by decide, by decide⟩ ?_
    exact T_ireturn (am_dec tL_often_0 16 rfl) rfl (by rw [if_pos h0, if_pos h0]; exact ⟨rfl, rfl⟩)
theorem wr_seen {S : am_S} {d : Nat} {W W1 : AH} {fs : List AV} {f : Nat → Int} {code v : Int} (p0 : Int) (p1 : Int) (hW : W[0]? = some (cO 10 fs)) (hf : W1[844]? = some (cP 2 1 f)) (hM : am_Out S zX11_seen d 1 [aR 0, aI p0, aI p1] W (am_oc code v) W1) (hc : code = 0 ∨ code = 2 ∨ code = 3) : am_OutW S zL_seen (d + 1) 1 [aR 0, aI p0, aI p1, aR 844] W (.inl (some (aI (if code = 0 then 0 else if code = 2 then 1 else 2)))) (if code = 0 then W1.set 844 (cP 2 1 (am_up f 0 v)) else W1) := by
  refine am_bodyW (by decide +kernel) rfl (am_cats_cons rfl (am_cats_cons rfl (am_cats_cons rfl (am_cats_cons rfl (am_cats_nil))))) (Nat.le_of_ble_eq_true rfl) (?_ : am_T _ _ _ _ _ 0 [some (aR 0), some (aI p0), some (aI p1), some (aR 844), none] [] W)
  refine T_aload_n (am_dec tL_seen_0 0 rfl) rfl ?_
  refine T_iconst 0 (am_dec tL_seen_0 1 rfl) rfl ⟨by decide, by decide⟩ ?_
  refine T_aload_n (am_dec tL_seen_0 2 rfl) rfl ?_
  refine T_iload_n (am_dec tL_seen_0 3 rfl) rfl ?_
  refine T_iload_n (am_dec tL_seen_0 4 rfl) rfl ?_
  refine T_wrap (d' := d) (as := [aI p0, aI p1]) rfl (am_dec tL_seen_0 5 rfl) lkL_53 hW rfl rfl (Nat.le_of_ble_eq_true rfl) (Nat.le_refl _) (Nat.le_refl _) hM (fun k hk => ?_) (by omega) (fun h0 => ?_)
  · by_cases e : code = 2
    · have ek : k = 1 := by omega
      subst ek
      exact ⟨1, ⟨by decide, by decide⟩, ⟨[], (0, 10, 13, 34), [(0, 10, 17, 13)], 4, rfl, (fun r hr => by cases hr), by decide, by decide, am_m5 100 rfl rfl, by decide, Or.inl ⟨(am_dec tL_seen_0 9 rfl), (am_dec tL_seen_0 10 rfl), (am_dec tL_seen_0 11 rfl)⟩⟩, by rw [if_neg (show ¬ code = 0 by omega), if_neg (show ¬ code = 0 by omega), if_pos e]; exact ⟨rfl, rfl⟩⟩
    · have ek : k = 2 := by omega
      subst ek
      exact ⟨2, ⟨by decide, by decide⟩, ⟨[(0, 10, 13, 34)], (0, 10, 17, 13), [], 4, rfl, (fun r hr => by
      rw [List.mem_singleton.mp hr]
      exact ⟨by decide, 1, by decide, by decide, am_m5 100 rfl rfl⟩), by decide, by decide, am_m3 199 rfl rfl, by decide, Or.inl ⟨(am_dec tL_seen_0 12 rfl), (am_dec tL_seen_0 13 rfl), (am_dec tL_seen_0 14 rfl)⟩⟩, by rw [if_neg (show ¬ code = 0 by omega), if_neg (show ¬ code = 0 by omega), if_neg e]; exact ⟨rfl, rfl⟩⟩
  · refine T_i2l (am_dec tL_seen_0 6 rfl) ?_
    refine T_lastore (n := 1) (f := f) (am_dec tL_seen_0 7 rfl) hf (by decide) (by decide) ?_
    refine T_goto 21 (am_dec tL_seen_0 8 rfl) rfl ?_
    refine T_iconst 0 (am_dec tL_seen_0 15 rfl) rfl ⟨by decide, by decide⟩ ?_
    exact T_ireturn (am_dec tL_seen_0 16 rfl) rfl (by rw [if_pos h0, if_pos h0]; exact ⟨rfl, rfl⟩)
theorem wr_could {S : am_S} {d : Nat} {W W1 : AH} {fs : List AV} {f : Nat → Int} {code v : Int} (p0 : Int) (p1 : Int) (p2 : Int) (hW : W[0]? = some (cO 10 fs)) (hf : W1[844]? = some (cP 2 1 f)) (hM : am_Out S zX11_could d 1 [aR 0, aI p0, aI p1, aI p2] W (am_oc code v) W1) (hc : code = 0 ∨ code = 1 ∨ code = 3) : am_OutW S zL_could (d + 1) 1 [aR 0, aI p0, aI p1, aI p2, aR 844] W (.inl (some (aI (if code = 0 then 0 else if code = 1 then 1 else 2)))) (if code = 0 then W1.set 844 (cP 2 1 (am_up f 0 v)) else W1) := by
  refine am_bodyW (by decide +kernel) rfl (am_cats_cons rfl (am_cats_cons rfl (am_cats_cons rfl (am_cats_cons rfl (am_cats_cons rfl (am_cats_nil)))))) (Nat.le_of_ble_eq_true rfl) (?_ : am_T _ _ _ _ _ 0 [some (aR 0), some (aI p0), some (aI p1), some (aI p2), some (aR 844), none] [] W)
  refine T_aload (am_dec tL_could_0 0 rfl) rfl ?_
  refine T_iconst 0 (am_dec tL_could_0 1 rfl) rfl ⟨by decide, by decide⟩ ?_
  refine T_aload_n (am_dec tL_could_0 2 rfl) rfl ?_
  refine T_iload_n (am_dec tL_could_0 3 rfl) rfl ?_
  refine T_iload_n (am_dec tL_could_0 4 rfl) rfl ?_
  refine T_iload_n (am_dec tL_could_0 5 rfl) rfl ?_
  refine T_wrap (d' := d) (as := [aI p0, aI p1, aI p2]) rfl (am_dec tL_could_0 6 rfl) lkL_56 hW rfl rfl (Nat.le_of_ble_eq_true rfl) (Nat.le_refl _) (Nat.le_refl _) hM (fun k hk => ?_) (by omega) (fun h0 => ?_)
  · by_cases e : code = 1
    · have ek : k = 0 := by omega
      subst ek
      exact ⟨1, ⟨by decide, by decide⟩, ⟨[], (0, 12, 15, 22), [(0, 12, 19, 13)], 5, rfl, (fun r hr => by cases hr), by decide, by decide, am_m5 53 rfl rfl, by decide, Or.inl ⟨(am_dec tL_could_0 10 rfl), (am_dec tL_could_0 11 rfl), (am_dec tL_could_0 12 rfl)⟩⟩, by rw [if_neg (show ¬ code = 0 by omega), if_neg (show ¬ code = 0 by omega), if_pos e]; exact ⟨rfl, rfl⟩⟩
    · have ek : k = 2 := by omega
      subst ek
      exact ⟨2, ⟨by decide, by decide⟩, ⟨[(0, 12, 15, 22)], (0, 12, 19, 13), [], 5, rfl, (fun r hr => by
      rw [List.mem_singleton.mp hr]
      exact ⟨by decide, 0, by decide, by decide, am_m5 53 rfl rfl⟩), by decide, by decide, am_m3 199 rfl rfl, by decide, Or.inl ⟨(am_dec tL_could_0 13 rfl), (am_dec tL_could_0 14 rfl), (am_dec tL_could_0 15 rfl)⟩⟩, by rw [if_neg (show ¬ code = 0 by omega), if_neg (show ¬ code = 0 by omega), if_neg e]; exact ⟨rfl, rfl⟩⟩
  · refine T_i2l (am_dec tL_could_0 7 rfl) ?_
    refine T_lastore (n := 1) (f := f) (am_dec tL_could_0 8 rfl) hf (by decide) (by decide) ?_
    refine T_goto 23 (am_dec tL_could_0 9 rfl) rfl ?_
    refine T_iconst 0 (am_dec tL_could_0 16 rfl) rfl ⟨by decide, by decide⟩ ?_
    exact T_ireturn (am_dec tL_could_0 17 rfl) rfl (by rw [if_pos h0, if_pos h0]; exact ⟨rfl, rfl⟩)
theorem wr_buy {S : am_S} {d : Nat} {W W1 : AH} {fs : List AV} {f : Nat → Int} {code v : Int} (p0 : Int) (p1 : Int) (hW : W[0]? = some (cO 10 fs)) (hf : W1[844]? = some (cP 2 1 f)) (hM : am_Out S zX11_buy d 1 [aR 0, aI p0, aI p1] W (am_oc code v) W1) (hc : code = 0 ∨ code = 2 ∨ code = 3) : am_OutW S zL_buy (d + 1) 1 [aR 0, aI p0, aI p1, aR 844] W (.inl (some (aI (if code = 0 then 0 else if code = 2 then 1 else 2)))) (if code = 0 then W1.set 844 (cP 2 1 (am_up f 0 v)) else W1) := by
  refine am_bodyW (by decide +kernel) rfl (am_cats_cons rfl (am_cats_cons rfl (am_cats_cons rfl (am_cats_cons rfl (am_cats_nil))))) (Nat.le_of_ble_eq_true rfl) (?_ : am_T _ _ _ _ _ 0 [some (aR 0), some (aI p0), some (aI p1), some (aR 844), none] [] W)
  refine T_aload_n (am_dec tL_buy_0 0 rfl) rfl ?_
  refine T_iconst 0 (am_dec tL_buy_0 1 rfl) rfl ⟨by decide, by decide⟩ ?_
  refine T_aload_n (am_dec tL_buy_0 2 rfl) rfl ?_
  refine T_iload_n (am_dec tL_buy_0 3 rfl) rfl ?_
  refine T_iload_n (am_dec tL_buy_0 4 rfl) rfl ?_
  refine T_wrap (d' := d) (as := [aI p0, aI p1]) rfl (am_dec tL_buy_0 5 rfl) lkL_59 hW rfl rfl (Nat.le_of_ble_eq_true rfl) (Nat.le_refl _) (Nat.le_refl _) hM (fun k hk => ?_) (by omega) (fun h0 => ?_)
  · by_cases e : code = 2
    · have ek : k = 1 := by omega
      subst ek
      exact ⟨1, ⟨by decide, by decide⟩, ⟨[], (0, 10, 13, 34), [(0, 10, 17, 13)], 4, rfl, (fun r hr => by cases hr), by decide, by decide, am_m5 100 rfl rfl, by decide, Or.inl ⟨(am_dec tL_buy_0 9 rfl), (am_dec tL_buy_0 10 rfl), (am_dec tL_buy_0 11 rfl)⟩⟩, by rw [if_neg (show ¬ code = 0 by omega), if_neg (show ¬ code = 0 by omega), if_pos e]; exact ⟨rfl, rfl⟩⟩
    · have ek : k = 2 := by omega
      subst ek
      exact ⟨2, ⟨by decide, by decide⟩, ⟨[(0, 10, 13, 34)], (0, 10, 17, 13), [], 4, rfl, (fun r hr => by
      rw [List.mem_singleton.mp hr]
      exact ⟨by decide, 1, by decide, by decide, am_m5 100 rfl rfl⟩), by decide, by decide, am_m3 199 rfl rfl, by decide, Or.inl ⟨(am_dec tL_buy_0 12 rfl), (am_dec tL_buy_0 13 rfl), (am_dec tL_buy_0 14 rfl)⟩⟩, by rw [if_neg (show ¬ code = 0 by omega), if_neg (show ¬ code = 0 by omega), if_neg e]; exact ⟨rfl, rfl⟩⟩
  · refine T_i2l (am_dec tL_buy_0 6 rfl) ?_
    refine T_lastore (n := 1) (f := f) (am_dec tL_buy_0 7 rfl) hf (by decide) (by decide) ?_
    refine T_goto 21 (am_dec tL_buy_0 8 rfl) rfl ?_
    refine T_iconst 0 (am_dec tL_buy_0 15 rfl) rfl ⟨by decide, by decide⟩ ?_
    exact T_ireturn (am_dec tL_buy_0 16 rfl) rfl (by rw [if_pos h0, if_pos h0]; exact ⟨rfl, rfl⟩)
theorem wr_way {S : am_S} {d : Nat} {W W1 : AH} {fs : List AV} {f : Nat → Int} {code v : Int} (p0 : Int) (p1 : Int) (p2 : Int) (p3 : Int) (hW : W[0]? = some (cO 10 fs)) (hf : W1[844]? = some (cP 2 1 f)) (hM : am_Out S zX11_way d 1 [aR 0, aI p0, aI p1, aI p2, aI p3] W (am_oc code v) W1) (hc : code = 0 ∨ code = 1 ∨ code = 3) : am_OutW S zL_way (d + 1) 1 [aR 0, aI p0, aI p1, aI p2, aI p3, aR 844] W (.inl (some (aI (if code = 0 then 0 else if code = 1 then 1 else 2)))) (if code = 0 then W1.set 844 (cP 2 1 (am_up f 0 v)) else W1) := by
  refine am_bodyW (by decide +kernel) rfl (am_cats_cons rfl (am_cats_cons rfl (am_cats_cons rfl (am_cats_cons rfl (am_cats_cons rfl (am_cats_cons rfl (am_cats_nil))))))) (Nat.le_of_ble_eq_true rfl) (?_ : am_T _ _ _ _ _ 0 [some (aR 0), some (aI p0), some (aI p1), some (aI p2), some (aI p3), some (aR 844), none] [] W)
  refine T_aload (am_dec tL_way_0 0 rfl) rfl ?_
  refine T_iconst 0 (am_dec tL_way_0 1 rfl) rfl ⟨by decide, by decide⟩ ?_
  refine T_aload_n (am_dec tL_way_0 2 rfl) rfl ?_
  refine T_iload_n (am_dec tL_way_0 3 rfl) rfl ?_
  refine T_iload_n (am_dec tL_way_0 4 rfl) rfl ?_
  refine T_iload_n (am_dec tL_way_0 5 rfl) rfl ?_
  refine T_iload (am_dec tL_way_0 6 rfl) rfl ?_
  refine T_wrap (d' := d) (as := [aI p0, aI p1, aI p2, aI p3]) rfl (am_dec tL_way_0 7 rfl) lkL_62 hW rfl rfl (Nat.le_of_ble_eq_true rfl) (Nat.le_refl _) (Nat.le_refl _) hM (fun k hk => ?_) (by omega) (fun h0 => ?_)
  · by_cases e : code = 1
    · have ek : k = 0 := by omega
      subst ek
      exact ⟨1, ⟨by decide, by decide⟩, ⟨[], (0, 14, 17, 22), [(0, 14, 21, 13)], 6, rfl, (fun r hr => by cases hr), by decide, by decide, am_m5 53 rfl rfl, by decide, Or.inl ⟨(am_dec tL_way_0 11 rfl), (am_dec tL_way_0 12 rfl), (am_dec tL_way_0 13 rfl)⟩⟩, by rw [if_neg (show ¬ code = 0 by omega), if_neg (show ¬ code = 0 by omega), if_pos e]; exact ⟨rfl, rfl⟩⟩
    · have ek : k = 2 := by omega
      subst ek
      exact ⟨2, ⟨by decide, by decide⟩, ⟨[(0, 14, 17, 22)], (0, 14, 21, 13), [], 6, rfl, (fun r hr => by
      rw [List.mem_singleton.mp hr]
      exact ⟨by decide, 0, by decide, by decide, am_m5 53 rfl rfl⟩), by decide, by decide, am_m3 199 rfl rfl, by decide, Or.inl ⟨(am_dec tL_way_0 14 rfl), (am_dec tL_way_0 15 rfl), (am_dec tL_way_0 16 rfl)⟩⟩, by rw [if_neg (show ¬ code = 0 by omega), if_neg (show ¬ code = 0 by omega), if_neg e]; exact ⟨rfl, rfl⟩⟩
  · refine T_i2l (am_dec tL_way_0 8 rfl) ?_
    refine T_lastore (n := 1) (f := f) (am_dec tL_way_0 9 rfl) hf (by decide) (by decide) ?_
    refine T_goto 25 (am_dec tL_way_0 10 rfl) rfl ?_
    refine T_iconst 0 (am_dec tL_way_0 17 rfl) rfl ⟨by decide, by decide⟩ ?_
    exact T_ireturn (am_dec tL_way_0 18 rfl) rfl (by rw [if_pos h0, if_pos h0]; exact ⟨rfl, rfl⟩)
theorem wr_lot {S : am_S} {d : Nat} {W W1 : AH} {fs : List AV} {f : Nat → Int} {code v : Int} (p0 : Int) (p1 : Int) (hW : W[0]? = some (cO 10 fs)) (hf : W1[844]? = some (cP 2 1 f)) (hM : am_Out S zX11_lot d 1 [aR 0, aI p0, aI p1] W (am_oc code v) W1) (hc : code = 0 ∨ code = 2 ∨ code = 3) : am_OutW S zL_lot (d + 1) 1 [aR 0, aI p0, aI p1, aR 844] W (.inl (some (aI (if code = 0 then 0 else if code = 2 then 1 else 2)))) (if code = 0 then W1.set 844 (cP 2 1 (am_up f 0 v)) else W1) := by
  refine am_bodyW (by decide +kernel) rfl (am_cats_cons rfl (am_cats_cons rfl (am_cats_cons rfl (am_cats_cons rfl (am_cats_nil))))) (Nat.le_of_ble_eq_true rfl) (?_ : am_T _ _ _ _ _ 0 [some (aR 0), some (aI p0), some (aI p1), some (aR 844), none] [] W)
  refine T_aload_n (am_dec tL_lot_0 0 rfl) rfl ?_
  refine T_iconst 0 (am_dec tL_lot_0 1 rfl) rfl ⟨by decide, by decide⟩ ?_
  refine T_aload_n (am_dec tL_lot_0 2 rfl) rfl ?_
  refine T_iload_n (am_dec tL_lot_0 3 rfl) rfl ?_
  refine T_iload_n (am_dec tL_lot_0 4 rfl) rfl ?_
  refine T_wrap (d' := d) (as := [aI p0, aI p1]) rfl (am_dec tL_lot_0 5 rfl) lkL_66 hW rfl rfl (Nat.le_of_ble_eq_true rfl) (Nat.le_refl _) (Nat.le_refl _) hM (fun k hk => ?_) (by omega) (fun h0 => ?_)
  · by_cases e : code = 2
    · have ek : k = 1 := by omega
      subst ek
      exact ⟨1, ⟨by decide, by decide⟩, ⟨[], (0, 10, 13, 34), [(0, 10, 17, 13)], 4, rfl, (fun r hr => by cases hr), by decide, by decide, am_m5 100 rfl rfl, by decide, Or.inl ⟨(am_dec tL_lot_0 9 rfl), (am_dec tL_lot_0 10 rfl), (am_dec tL_lot_0 11 rfl)⟩⟩, by rw [if_neg (show ¬ code = 0 by omega), if_neg (show ¬ code = 0 by omega), if_pos e]; exact ⟨rfl, rfl⟩⟩
    · have ek : k = 2 := by omega
      subst ek
      exact ⟨2, ⟨by decide, by decide⟩, ⟨[(0, 10, 13, 34)], (0, 10, 17, 13), [], 4, rfl, (fun r hr => by
      rw [List.mem_singleton.mp hr]
      exact ⟨by decide, 1, by decide, by decide, am_m5 100 rfl rfl⟩), by decide, by decide, am_m3 199 rfl rfl, by decide, Or.inl ⟨(am_dec tL_lot_0 12 rfl), (am_dec tL_lot_0 13 rfl), (am_dec tL_lot_0 14 rfl)⟩⟩, by rw [if_neg (show ¬ code = 0 by omega), if_neg (show ¬ code = 0 by omega), if_neg e]; exact ⟨rfl, rfl⟩⟩
  · refine T_i2l (am_dec tL_lot_0 6 rfl) ?_
    refine T_lastore (n := 1) (f := f) (am_dec tL_lot_0 7 rfl) hf (by decide) (by decide) ?_
    refine T_goto 21 (am_dec tL_lot_0 8 rfl) rfl ?_
    refine T_iconst 0 (am_dec tL_lot_0 15 rfl) rfl ⟨by decide, by decide⟩ ?_
    exact T_ireturn (am_dec tL_lot_0 16 rfl) rfl (by rw [if_pos h0, if_pos h0]; exact ⟨rfl, rfl⟩)
theorem wr_yards {S : am_S} {d : Nat} {W W1 : AH} {fs : List AV} {f : Nat → Int} {code v : Int} (p0 : Int) (p1 : Int) (hW : W[0]? = some (cO 10 fs)) (hf : W1[844]? = some (cP 2 1 f)) (hM : am_Out S zX11_yards d 1 [aR 0, aI p0, aI p1] W (am_oc code v) W1) (hc : code = 0 ∨ code = 2 ∨ code = 3) : am_OutW S zL_yards (d + 1) 1 [aR 0, aI p0, aI p1, aR 844] W (.inl (some (aI (if code = 0 then 0 else if code = 2 then 1 else 2)))) (if code = 0 then W1.set 844 (cP 2 1 (am_up f 0 v)) else W1) := by
  refine am_bodyW (by decide +kernel) rfl (am_cats_cons rfl (am_cats_cons rfl (am_cats_cons rfl (am_cats_cons rfl (am_cats_nil))))) (Nat.le_of_ble_eq_true rfl) (?_ : am_T _ _ _ _ _ 0 [some (aR 0), some (aI p0), some (aI p1), some (aR 844), none] [] W)
  refine T_aload_n (am_dec tL_yards_0 0 rfl) rfl ?_
  refine T_iconst 0 (am_dec tL_yards_0 1 rfl) rfl ⟨by decide, by decide⟩ ?_
  refine T_aload_n (am_dec tL_yards_0 2 rfl) rfl ?_
  refine T_iload_n (am_dec tL_yards_0 3 rfl) rfl ?_
  refine T_iload_n (am_dec tL_yards_0 4 rfl) rfl ?_
  refine T_wrap (d' := d) (as := [aI p0, aI p1]) rfl (am_dec tL_yards_0 5 rfl) lkL_69 hW rfl rfl (Nat.le_of_ble_eq_true rfl) (Nat.le_refl _) (Nat.le_refl _) hM (fun k hk => ?_) (by omega) (fun h0 => ?_)
  · by_cases e : code = 2
    · have ek : k = 1 := by omega
      subst ek
      exact ⟨1, ⟨by decide, by decide⟩, ⟨[], (0, 10, 13, 34), [(0, 10, 17, 13)], 4, rfl, (fun r hr => by cases hr), by decide, by decide, am_m5 100 rfl rfl, by decide, Or.inl ⟨(am_dec tL_yards_0 9 rfl), (am_dec tL_yards_0 10 rfl), (am_dec tL_yards_0 11 rfl)⟩⟩, by rw [if_neg (show ¬ code = 0 by omega), if_neg (show ¬ code = 0 by omega), if_pos e]; exact ⟨rfl, rfl⟩⟩
    · have ek : k = 2 := by omega
      subst ek
      exact ⟨2, ⟨by decide, by decide⟩, ⟨[(0, 10, 13, 34)], (0, 10, 17, 13), [], 4, rfl, (fun r hr => by
      rw [List.mem_singleton.mp hr]
      exact ⟨by decide, 1, by decide, by decide, am_m5 100 rfl rfl⟩), by decide, by decide, am_m3 199 rfl rfl, by decide, Or.inl ⟨(am_dec tL_yards_0 12 rfl), (am_dec tL_yards_0 13 rfl), (am_dec tL_yards_0 14 rfl)⟩⟩, by rw [if_neg (show ¬ code = 0 by omega), if_neg (show ¬ code = 0 by omega), if_neg e]; exact ⟨rfl, rfl⟩⟩
  · refine T_i2l (am_dec tL_yards_0 6 rfl) ?_
    refine T_lastore (n := 1) (f := f) (am_dec tL_yards_0 7 rfl) hf (by decide) (by decide) ?_
    refine T_goto 21 (am_dec tL_yards_0 8 rfl) rfl ?_
    refine T_iconst 0 (am_dec tL_yards_0 15 rfl) rfl ⟨by decide, by decide⟩ ?_
    exact T_ireturn (am_dec tL_yards_0 16 rfl) rfl (by rw [if_pos h0, if_pos h0]; exact ⟨rfl, rfl⟩)
theorem wr_leaks {S : am_S} {d : Nat} {W W1 : AH} {fs : List AV} {f : Nat → Int} {code v : Int} (p0 : Int) (p1 : Int) (p2 : Int) (hW : W[0]? = some (cO 10 fs)) (hf : W1[844]? = some (cP 2 1 f)) (hM : am_Out S zX11_leaks d 1 [aR 0, aI p0, aI p1, aI p2] W (am_oc code v) W1) (hc : code = 0 ∨ code = 2 ∨ code = 3) : am_OutW S zL_leaks (d + 1) 1 [aR 0, aI p0, aI p1, aI p2, aR 844] W (.inl (some (aI (if code = 0 then 0 else if code = 2 then 1 else 2)))) (if code = 0 then W1.set 844 (cP 2 1 (am_up f 0 v)) else W1) := by
  refine am_bodyW (by decide +kernel) rfl (am_cats_cons rfl (am_cats_cons rfl (am_cats_cons rfl (am_cats_cons rfl (am_cats_cons rfl (am_cats_nil)))))) (Nat.le_of_ble_eq_true rfl) (?_ : am_T _ _ _ _ _ 0 [some (aR 0), some (aI p0), some (aI p1), some (aI p2), some (aR 844), none] [] W)
  refine T_aload (am_dec tL_leaks_0 0 rfl) rfl ?_
  refine T_iconst 0 (am_dec tL_leaks_0 1 rfl) rfl ⟨by decide, by decide⟩ ?_
  refine T_aload_n (am_dec tL_leaks_0 2 rfl) rfl ?_
  refine T_iload_n (am_dec tL_leaks_0 3 rfl) rfl ?_
  refine T_iload_n (am_dec tL_leaks_0 4 rfl) rfl ?_
  refine T_iload_n (am_dec tL_leaks_0 5 rfl) rfl ?_
  refine T_wrap (d' := d) (as := [aI p0, aI p1, aI p2]) rfl (am_dec tL_leaks_0 6 rfl) lkL_72 hW rfl rfl (Nat.le_of_ble_eq_true rfl) (Nat.le_refl _) (Nat.le_refl _) hM (fun k hk => ?_) (by omega) (fun h0 => ?_)
  · by_cases e : code = 2
    · have ek : k = 1 := by omega
      subst ek
      exact ⟨1, ⟨by decide, by decide⟩, ⟨[], (0, 12, 15, 34), [(0, 12, 19, 13)], 5, rfl, (fun r hr => by cases hr), by decide, by decide, am_m5 100 rfl rfl, by decide, Or.inl ⟨(am_dec tL_leaks_0 10 rfl), (am_dec tL_leaks_0 11 rfl), (am_dec tL_leaks_0 12 rfl)⟩⟩, by rw [if_neg (show ¬ code = 0 by omega), if_neg (show ¬ code = 0 by omega), if_pos e]; exact ⟨rfl, rfl⟩⟩
    · have ek : k = 2 := by omega
      subst ek
      exact ⟨2, ⟨by decide, by decide⟩, ⟨[(0, 12, 15, 34)], (0, 12, 19, 13), [], 5, rfl, (fun r hr => by
      rw [List.mem_singleton.mp hr]
      exact ⟨by decide, 1, by decide, by decide, am_m5 100 rfl rfl⟩), by decide, by decide, am_m3 199 rfl rfl, by decide, Or.inl ⟨(am_dec tL_leaks_0 13 rfl), (am_dec tL_leaks_0 14 rfl), (am_dec tL_leaks_0 15 rfl)⟩⟩, by rw [if_neg (show ¬ code = 0 by omega), if_neg (show ¬ code = 0 by omega), if_neg e]; exact ⟨rfl, rfl⟩⟩
  · refine T_i2l (am_dec tL_leaks_0 7 rfl) ?_
    refine T_lastore (n := 1) (f := f) (am_dec tL_leaks_0 8 rfl) hf (by decide) (by decide) ?_
    refine T_goto 23 (am_dec tL_leaks_0 9 rfl) rfl ?_
    refine T_iconst 0 (am_dec tL_leaks_0 16 rfl) rfl ⟨by decide, by decide⟩ ?_
    exact T_ireturn (am_dec tL_leaks_0 17 rfl) rfl (by rw [if_pos h0, if_pos h0]; exact ⟨rfl, rfl⟩)
theorem wr_net {S : am_S} {d : Nat} {W W1 : AH} {fs : List AV} {f : Nat → Int} {code v : Int} (p0 : Int) (hW : W[0]? = some (cO 10 fs)) (hf : W1[844]? = some (cP 2 1 f)) (hM : am_Out S zX11_net d 1 [aR 0, aI p0] W (am_oc code v) W1) (hc : code = 0 ∨ code = 2) : am_OutW S zL_net (d + 1) 1 [aR 0, aI p0, aR 844] W (.inl (some (aI (if code = 0 then 0 else if code = 2 then 1 else 2)))) (if code = 0 then W1.set 844 (cP 2 1 (am_up f 0 v)) else W1) := by
  refine am_bodyW (by decide +kernel) rfl (am_cats_cons rfl (am_cats_cons rfl (am_cats_cons rfl (am_cats_nil)))) (Nat.le_of_ble_eq_true rfl) (?_ : am_T _ _ _ _ _ 0 [some (aR 0), some (aI p0), some (aR 844), none] [] W)
  refine T_aload_n (am_dec tL_net_0 0 rfl) rfl ?_
  refine T_iconst 0 (am_dec tL_net_0 1 rfl) rfl ⟨by decide, by decide⟩ ?_
  refine T_aload_n (am_dec tL_net_0 2 rfl) rfl ?_
  refine T_iload_n (am_dec tL_net_0 3 rfl) rfl ?_
  refine T_wrap (d' := d) (as := [aI p0]) rfl (am_dec tL_net_0 4 rfl) lkL_75 hW rfl rfl (Nat.le_of_ble_eq_true rfl) (Nat.le_refl _) (Nat.le_refl _) hM (fun k hk => ?_) (by omega) (fun h0 => ?_)
  · have ek : k = 1 := by omega
    subst ek
    exact ⟨1, ⟨by decide, by decide⟩, ⟨[], (0, 9, 12, 34), [], 3, rfl, (fun r hr => by cases hr), by decide, by decide, am_m5 100 rfl rfl, by decide, Or.inr ⟨3, rfl, (am_dec tL_net_0 8 rfl), (am_dec tL_net_0 9 rfl), (am_dec tL_net_0 10 rfl)⟩⟩, by rw [if_neg (show ¬ code = 0 by omega), if_neg (show ¬ code = 0 by omega), if_pos (show code = 2 by omega)]; exact ⟨rfl, rfl⟩⟩
  · refine T_i2l (am_dec tL_net_0 5 rfl) ?_
    refine T_lastore (n := 1) (f := f) (am_dec tL_net_0 6 rfl) hf (by decide) (by decide) ?_
    refine T_goto 15 (am_dec tL_net_0 7 rfl) rfl ?_
    refine T_iconst 0 (am_dec tL_net_0 11 rfl) rfl ⟨by decide, by decide⟩ ?_
    exact T_ireturn (am_dec tL_net_0 12 rfl) rfl (by rw [if_pos h0, if_pos h0]; exact ⟨rfl, rfl⟩)
theorem wr_bid {S : am_S} {d : Nat} {W W1 : AH} {fs : List AV} {f : Nat → Int} {code v : Int} (p0 : Int) (p1 : Int) (p2 : Int) (hW : W[0]? = some (cO 10 fs)) (hf : W1[844]? = some (cP 2 1 f)) (hM : am_Out S zX11_bid d 1 [aR 0, aI p0, aI p1, aI p2] W (am_oc code v) W1) (hc : code = 0 ∨ code = 2 ∨ code = 3) : am_OutW S zL_bid (d + 1) 1 [aR 0, aI p0, aI p1, aI p2, aR 844] W (.inl (some (aI (if code = 0 then 0 else if code = 2 then 1 else 2)))) (if code = 0 then W1.set 844 (cP 2 1 (am_up f 0 v)) else W1) := by
  refine am_bodyW (by decide +kernel) rfl (am_cats_cons rfl (am_cats_cons rfl (am_cats_cons rfl (am_cats_cons rfl (am_cats_cons rfl (am_cats_nil)))))) (Nat.le_of_ble_eq_true rfl) (?_ : am_T _ _ _ _ _ 0 [some (aR 0), some (aI p0), some (aI p1), some (aI p2), some (aR 844), none] [] W)
  refine T_aload (am_dec tL_bid_0 0 rfl) rfl ?_
  refine T_iconst 0 (am_dec tL_bid_0 1 rfl) rfl ⟨by decide, by decide⟩ ?_
  refine T_aload_n (am_dec tL_bid_0 2 rfl) rfl ?_
  refine T_iload_n (am_dec tL_bid_0 3 rfl) rfl ?_
  refine T_iload_n (am_dec tL_bid_0 4 rfl) rfl ?_
  refine T_iload_n (am_dec tL_bid_0 5 rfl) rfl ?_
  refine T_wrap (d' := d) (as := [aI p0, aI p1, aI p2]) rfl (am_dec tL_bid_0 6 rfl) lkL_78 hW rfl rfl (Nat.le_of_ble_eq_true rfl) (Nat.le_refl _) (Nat.le_refl _) hM (fun k hk => ?_) (by omega) (fun h0 => ?_)
  · by_cases e : code = 2
    · have ek : k = 1 := by omega
      subst ek
      exact ⟨1, ⟨by decide, by decide⟩, ⟨[], (0, 12, 15, 34), [(0, 12, 19, 13)], 5, rfl, (fun r hr => by cases hr), by decide, by decide, am_m5 100 rfl rfl, by decide, Or.inl ⟨(am_dec tL_bid_0 10 rfl), (am_dec tL_bid_0 11 rfl), (am_dec tL_bid_0 12 rfl)⟩⟩, by rw [if_neg (show ¬ code = 0 by omega), if_neg (show ¬ code = 0 by omega), if_pos e]; exact ⟨rfl, rfl⟩⟩
    · have ek : k = 2 := by omega
      subst ek
      exact ⟨2, ⟨by decide, by decide⟩, ⟨[(0, 12, 15, 34)], (0, 12, 19, 13), [], 5, rfl, (fun r hr => by
      rw [List.mem_singleton.mp hr]
      exact ⟨by decide, 1, by decide, by decide, am_m5 100 rfl rfl⟩), by decide, by decide, am_m3 199 rfl rfl, by decide, Or.inl ⟨(am_dec tL_bid_0 13 rfl), (am_dec tL_bid_0 14 rfl), (am_dec tL_bid_0 15 rfl)⟩⟩, by rw [if_neg (show ¬ code = 0 by omega), if_neg (show ¬ code = 0 by omega), if_neg e]; exact ⟨rfl, rfl⟩⟩
  · refine T_i2l (am_dec tL_bid_0 7 rfl) ?_
    refine T_lastore (n := 1) (f := f) (am_dec tL_bid_0 8 rfl) hf (by decide) (by decide) ?_
    refine T_goto 23 (am_dec tL_bid_0 9 rfl) rfl ?_
    refine T_iconst 0 (am_dec tL_bid_0 16 rfl) rfl ⟨by decide, by decide⟩ ?_
    exact T_ireturn (am_dec tL_bid_0 17 rfl) rfl (by rw [if_pos h0, if_pos h0]; exact ⟨rfl, rfl⟩)
theorem wr_gets {S : am_S} {d : Nat} {W W1 : AH} {fs : List AV} {f : Nat → Int} {code v : Int} (p0 : Int) (p1 : Int) (p2 : Int) (hW : W[0]? = some (cO 10 fs)) (hf : W1[844]? = some (cP 2 1 f)) (hM : am_Out S zX11_gets d 1 [aR 0, aI p0, aI p1, aI p2] W (am_oc code v) W1) (hc : code = 0 ∨ code = 3) : am_OutW S zL_gets (d + 1) 1 [aR 0, aI p0, aI p1, aI p2, aR 844] W (.inl (some (aI (if code = 0 then 0 else if code = 3 then 1 else 2)))) (if code = 0 then W1.set 844 (cP 2 1 (am_up f 0 v)) else W1) := by
  refine am_bodyW (by decide +kernel) rfl (am_cats_cons rfl (am_cats_cons rfl (am_cats_cons rfl (am_cats_cons rfl (am_cats_cons rfl (am_cats_nil)))))) (Nat.le_of_ble_eq_true rfl) (?_ : am_T _ _ _ _ _ 0 [some (aR 0), some (aI p0), some (aI p1), some (aI p2), some (aR 844), none] [] W)
  refine T_aload (am_dec tL_gets_0 0 rfl) rfl ?_
  refine T_iconst 0 (am_dec tL_gets_0 1 rfl) rfl ⟨by decide, by decide⟩ ?_
  refine T_aload_n (am_dec tL_gets_0 2 rfl) rfl ?_
  refine T_iload_n (am_dec tL_gets_0 3 rfl) rfl ?_
  refine T_iload_n (am_dec tL_gets_0 4 rfl) rfl ?_
  refine T_iload_n (am_dec tL_gets_0 5 rfl) rfl ?_
  refine T_wrap (d' := d) (as := [aI p0, aI p1, aI p2]) rfl (am_dec tL_gets_0 6 rfl) lkL_81 hW rfl rfl (Nat.le_of_ble_eq_true rfl) (Nat.le_refl _) (Nat.le_refl _) hM (fun k hk => ?_) (by omega) (fun h0 => ?_)
  · have ek : k = 2 := by omega
    subst ek
    exact ⟨1, ⟨by decide, by decide⟩, ⟨[], (0, 12, 15, 13), [], 5, rfl, (fun r hr => by cases hr), by decide, by decide, am_m3 199 rfl rfl, by decide, Or.inl ⟨(am_dec tL_gets_0 10 rfl), (am_dec tL_gets_0 11 rfl), (am_dec tL_gets_0 12 rfl)⟩⟩, by rw [if_neg (show ¬ code = 0 by omega), if_neg (show ¬ code = 0 by omega), if_pos (show code = 3 by omega)]; exact ⟨rfl, rfl⟩⟩
  · refine T_i2l (am_dec tL_gets_0 7 rfl) ?_
    refine T_lastore (n := 1) (f := f) (am_dec tL_gets_0 8 rfl) hf (by decide) (by decide) ?_
    refine T_goto 19 (am_dec tL_gets_0 9 rfl) rfl ?_
    refine T_iconst 0 (am_dec tL_gets_0 13 rfl) rfl ⟨by decide, by decide⟩ ?_
    exact T_ireturn (am_dec tL_gets_0 14 rfl) rfl (by rw [if_pos h0, if_pos h0]; exact ⟨rfl, rfl⟩)
theorem wr_sold {S : am_S} {d : Nat} {W W1 : AH} {fs : List AV} {f : Nat → Int} {code v : Int} (p0 : Int) (p1 : Int) (p2 : Int) (hW : W[0]? = some (cO 10 fs)) (hf : W1[844]? = some (cP 2 1 f)) (hM : am_Out S zX11_sold d 1 [aR 0, aI p0, aI p1, aI p2] W (am_oc code v) W1) (hc : code = 0 ∨ code = 2 ∨ code = 3) : am_OutW S zL_sold (d + 1) 1 [aR 0, aI p0, aI p1, aI p2, aR 844] W (.inl (some (aI (if code = 0 then 0 else if code = 2 then 1 else 2)))) (if code = 0 then W1.set 844 (cP 2 1 (am_up f 0 v)) else W1) := by
  refine am_bodyW (by decide +kernel) rfl (am_cats_cons rfl (am_cats_cons rfl (am_cats_cons rfl (am_cats_cons rfl (am_cats_cons rfl (am_cats_nil)))))) (Nat.le_of_ble_eq_true rfl) (?_ : am_T _ _ _ _ _ 0 [some (aR 0), some (aI p0), some (aI p1), some (aI p2), some (aR 844), none] [] W)
  refine T_aload (am_dec tL_sold_0 0 rfl) rfl ?_
  refine T_iconst 0 (am_dec tL_sold_0 1 rfl) rfl ⟨by decide, by decide⟩ ?_
  refine T_aload_n (am_dec tL_sold_0 2 rfl) rfl ?_
  refine T_iload_n (am_dec tL_sold_0 3 rfl) rfl ?_
  refine T_iload_n (am_dec tL_sold_0 4 rfl) rfl ?_
  refine T_iload_n (am_dec tL_sold_0 5 rfl) rfl ?_
  refine T_wrap (d' := d) (as := [aI p0, aI p1, aI p2]) rfl (am_dec tL_sold_0 6 rfl) lkL_84 hW rfl rfl (Nat.le_of_ble_eq_true rfl) (Nat.le_refl _) (Nat.le_refl _) hM (fun k hk => ?_) (by omega) (fun h0 => ?_)
  · by_cases e : code = 2
    · have ek : k = 1 := by omega
      subst ek
      exact ⟨1, ⟨by decide, by decide⟩, ⟨[], (0, 12, 15, 34), [(0, 12, 19, 13)], 5, rfl, (fun r hr => by cases hr), by decide, by decide, am_m5 100 rfl rfl, by decide, Or.inl ⟨(am_dec tL_sold_0 10 rfl), (am_dec tL_sold_0 11 rfl), (am_dec tL_sold_0 12 rfl)⟩⟩, by rw [if_neg (show ¬ code = 0 by omega), if_neg (show ¬ code = 0 by omega), if_pos e]; exact ⟨rfl, rfl⟩⟩
    · have ek : k = 2 := by omega
      subst ek
      exact ⟨2, ⟨by decide, by decide⟩, ⟨[(0, 12, 15, 34)], (0, 12, 19, 13), [], 5, rfl, (fun r hr => by
      rw [List.mem_singleton.mp hr]
      exact ⟨by decide, 1, by decide, by decide, am_m5 100 rfl rfl⟩), by decide, by decide, am_m3 199 rfl rfl, by decide, Or.inl ⟨(am_dec tL_sold_0 13 rfl), (am_dec tL_sold_0 14 rfl), (am_dec tL_sold_0 15 rfl)⟩⟩, by rw [if_neg (show ¬ code = 0 by omega), if_neg (show ¬ code = 0 by omega), if_neg e]; exact ⟨rfl, rfl⟩⟩
  · refine T_i2l (am_dec tL_sold_0 7 rfl) ?_
    refine T_lastore (n := 1) (f := f) (am_dec tL_sold_0 8 rfl) hf (by decide) (by decide) ?_
    refine T_goto 23 (am_dec tL_sold_0 9 rfl) rfl ?_
    refine T_iconst 0 (am_dec tL_sold_0 16 rfl) rfl ⟨by decide, by decide⟩ ?_
    exact T_ireturn (am_dec tL_sold_0 17 rfl) rfl (by rw [if_pos h0, if_pos h0]; exact ⟨rfl, rfl⟩)
theorem wr_when {S : am_S} {d : Nat} {W W1 : AH} {fs : List AV} {f : Nat → Int} {code v : Int} (p0 : Int) (p1 : Int) (hW : W[0]? = some (cO 10 fs)) (hf : W1[844]? = some (cP 2 1 f)) (hM : am_Out S zX11_when d 1 [aR 0, aI p0, aI p1] W (am_oc code v) W1) (hc : code = 0 ∨ code = 2 ∨ code = 3) : am_OutW S zL_when (d + 1) 1 [aR 0, aI p0, aI p1, aR 844] W (.inl (some (aI (if code = 0 then 0 else if code = 2 then 1 else 2)))) (if code = 0 then W1.set 844 (cP 2 1 (am_up f 0 v)) else W1) := by
  refine am_bodyW (by decide +kernel) rfl (am_cats_cons rfl (am_cats_cons rfl (am_cats_cons rfl (am_cats_cons rfl (am_cats_nil))))) (Nat.le_of_ble_eq_true rfl) (?_ : am_T _ _ _ _ _ 0 [some (aR 0), some (aI p0), some (aI p1), some (aR 844), none] [] W)
  refine T_aload_n (am_dec tL_when_0 0 rfl) rfl ?_
  refine T_iconst 0 (am_dec tL_when_0 1 rfl) rfl ⟨by decide, by decide⟩ ?_
  refine T_aload_n (am_dec tL_when_0 2 rfl) rfl ?_
  refine T_iload_n (am_dec tL_when_0 3 rfl) rfl ?_
  refine T_iload_n (am_dec tL_when_0 4 rfl) rfl ?_
  refine T_wrap (d' := d) (as := [aI p0, aI p1]) rfl (am_dec tL_when_0 5 rfl) lkL_87 hW rfl rfl (Nat.le_of_ble_eq_true rfl) (Nat.le_refl _) (Nat.le_refl _) hM (fun k hk => ?_) (by omega) (fun h0 => ?_)
  · by_cases e : code = 2
    · have ek : k = 1 := by omega
      subst ek
      exact ⟨1, ⟨by decide, by decide⟩, ⟨[], (0, 10, 13, 34), [(0, 10, 17, 13)], 4, rfl, (fun r hr => by cases hr), by decide, by decide, am_m5 100 rfl rfl, by decide, Or.inl ⟨(am_dec tL_when_0 9 rfl), (am_dec tL_when_0 10 rfl), (am_dec tL_when_0 11 rfl)⟩⟩, by rw [if_neg (show ¬ code = 0 by omega), if_neg (show ¬ code = 0 by omega), if_pos e]; exact ⟨rfl, rfl⟩⟩
    · have ek : k = 2 := by omega
      subst ek
      exact ⟨2, ⟨by decide, by decide⟩, ⟨[(0, 10, 13, 34)], (0, 10, 17, 13), [], 4, rfl, (fun r hr => by
      rw [List.mem_singleton.mp hr]
      exact ⟨by decide, 1, by decide, by decide, am_m5 100 rfl rfl⟩), by decide, by decide, am_m3 199 rfl rfl, by decide, Or.inl ⟨(am_dec tL_when_0 12 rfl), (am_dec tL_when_0 13 rfl), (am_dec tL_when_0 14 rfl)⟩⟩, by rw [if_neg (show ¬ code = 0 by omega), if_neg (show ¬ code = 0 by omega), if_neg e]; exact ⟨rfl, rfl⟩⟩
  · refine T_i2l (am_dec tL_when_0 6 rfl) ?_
    refine T_lastore (n := 1) (f := f) (am_dec tL_when_0 7 rfl) hf (by decide) (by decide) ?_
    refine T_goto 21 (am_dec tL_when_0 8 rfl) rfl ?_
    refine T_iconst 0 (am_dec tL_when_0 15 rfl) rfl ⟨by decide, by decide⟩ ?_
    exact T_ireturn (am_dec tL_when_0 16 rfl) rfl (by rw [if_pos h0, if_pos h0]; exact ⟨rfl, rfl⟩)
theorem wr_ship {S : am_S} {d : Nat} {W W1 : AH} {fs : List AV} {f : Nat → Int} {code v : Int} (p0 : Int) (hW : W[0]? = some (cO 10 fs)) (hf : W1[844]? = some (cP 2 1 f)) (hM : am_Out S zX11_ship d 1 [aR 0, aI p0] W (am_oc code v) W1) (hc : code = 0 ∨ code = 2) : am_OutW S zL_ship (d + 1) 1 [aR 0, aI p0, aR 844] W (.inl (some (aI (if code = 0 then 0 else if code = 2 then 1 else 2)))) (if code = 0 then W1.set 844 (cP 2 1 (am_up f 0 v)) else W1) := by
  refine am_bodyW (by decide +kernel) rfl (am_cats_cons rfl (am_cats_cons rfl (am_cats_cons rfl (am_cats_nil)))) (Nat.le_of_ble_eq_true rfl) (?_ : am_T _ _ _ _ _ 0 [some (aR 0), some (aI p0), some (aR 844), none] [] W)
  refine T_aload_n (am_dec tL_ship_0 0 rfl) rfl ?_
  refine T_iconst 0 (am_dec tL_ship_0 1 rfl) rfl ⟨by decide, by decide⟩ ?_
  refine T_aload_n (am_dec tL_ship_0 2 rfl) rfl ?_
  refine T_iload_n (am_dec tL_ship_0 3 rfl) rfl ?_
  refine T_wrap (d' := d) (as := [aI p0]) rfl (am_dec tL_ship_0 4 rfl) lkL_90 hW rfl rfl (Nat.le_of_ble_eq_true rfl) (Nat.le_refl _) (Nat.le_refl _) hM (fun k hk => ?_) (by omega) (fun h0 => ?_)
  · have ek : k = 1 := by omega
    subst ek
    exact ⟨1, ⟨by decide, by decide⟩, ⟨[], (0, 9, 12, 34), [], 3, rfl, (fun r hr => by cases hr), by decide, by decide, am_m5 100 rfl rfl, by decide, Or.inr ⟨3, rfl, (am_dec tL_ship_0 8 rfl), (am_dec tL_ship_0 9 rfl), (am_dec tL_ship_0 10 rfl)⟩⟩, by rw [if_neg (show ¬ code = 0 by omega), if_neg (show ¬ code = 0 by omega), if_pos (show code = 2 by omega)]; exact ⟨rfl, rfl⟩⟩
  · refine T_i2l (am_dec tL_ship_0 5 rfl) ?_
    refine T_lastore (n := 1) (f := f) (am_dec tL_ship_0 6 rfl) hf (by decide) (by decide) ?_
    refine T_goto 15 (am_dec tL_ship_0 7 rfl) rfl ?_
    refine T_iconst 0 (am_dec tL_ship_0 11 rfl) rfl ⟨by decide, by decide⟩ ?_
    exact T_ireturn (am_dec tL_ship_0 12 rfl) rfl (by rw [if_pos h0, if_pos h0]; exact ⟨rfl, rfl⟩)
theorem wr_worthless {S : am_S} {d : Nat} {W W1 : AH} {fs : List AV} {f : Nat → Int} {code v : Int} (p0 : Int) (p1 : Int) (hW : W[0]? = some (cO 10 fs)) (hf : W1[844]? = some (cP 2 1 f)) (hM : am_Out S zX11_worthless d 1 [aR 0, aI p0, aI p1] W (am_oc code v) W1) (hc : code = 0 ∨ code = 2 ∨ code = 3) : am_OutW S zL_worthless (d + 1) 1 [aR 0, aI p0, aI p1, aR 844] W (.inl (some (aI (if code = 0 then 0 else if code = 2 then 1 else 2)))) (if code = 0 then W1.set 844 (cP 2 1 (am_up f 0 v)) else W1) := by
  refine am_bodyW (by decide +kernel) rfl (am_cats_cons rfl (am_cats_cons rfl (am_cats_cons rfl (am_cats_cons rfl (am_cats_nil))))) (Nat.le_of_ble_eq_true rfl) (?_ : am_T _ _ _ _ _ 0 [some (aR 0), some (aI p0), some (aI p1), some (aR 844), none] [] W)
  refine T_aload_n (am_dec tL_worthless_0 0 rfl) rfl ?_
  refine T_iconst 0 (am_dec tL_worthless_0 1 rfl) rfl ⟨by decide, by decide⟩ ?_
  refine T_aload_n (am_dec tL_worthless_0 2 rfl) rfl ?_
  refine T_iload_n (am_dec tL_worthless_0 3 rfl) rfl ?_
  refine T_iload_n (am_dec tL_worthless_0 4 rfl) rfl ?_
  refine T_wrap (d' := d) (as := [aI p0, aI p1]) rfl (am_dec tL_worthless_0 5 rfl) lkL_93 hW rfl rfl (Nat.le_of_ble_eq_true rfl) (Nat.le_refl _) (Nat.le_refl _) hM (fun k hk => ?_) (by omega) (fun h0 => ?_)
  · by_cases e : code = 2
    · have ek : k = 1 := by omega
      subst ek
      exact ⟨1, ⟨by decide, by decide⟩, ⟨[], (0, 10, 13, 34), [(0, 10, 17, 13)], 4, rfl, (fun r hr => by cases hr), by decide, by decide, am_m5 100 rfl rfl, by decide, Or.inl ⟨(am_dec tL_worthless_0 9 rfl), (am_dec tL_worthless_0 10 rfl), (am_dec tL_worthless_0 11 rfl)⟩⟩, by rw [if_neg (show ¬ code = 0 by omega), if_neg (show ¬ code = 0 by omega), if_pos e]; exact ⟨rfl, rfl⟩⟩
    · have ek : k = 2 := by omega
      subst ek
      exact ⟨2, ⟨by decide, by decide⟩, ⟨[(0, 10, 13, 34)], (0, 10, 17, 13), [], 4, rfl, (fun r hr => by
      rw [List.mem_singleton.mp hr]
      exact ⟨by decide, 1, by decide, by decide, am_m5 100 rfl rfl⟩), by decide, by decide, am_m3 199 rfl rfl, by decide, Or.inl ⟨(am_dec tL_worthless_0 12 rfl), (am_dec tL_worthless_0 13 rfl), (am_dec tL_worthless_0 14 rfl)⟩⟩, by rw [if_neg (show ¬ code = 0 by omega), if_neg (show ¬ code = 0 by omega), if_neg e]; exact ⟨rfl, rfl⟩⟩
  · refine T_i2l (am_dec tL_worthless_0 6 rfl) ?_
    refine T_lastore (n := 1) (f := f) (am_dec tL_worthless_0 7 rfl) hf (by decide) (by decide) ?_
    refine T_goto 21 (am_dec tL_worthless_0 8 rfl) rfl ?_
    refine T_iconst 0 (am_dec tL_worthless_0 15 rfl) rfl ⟨by decide, by decide⟩ ?_
    exact T_ireturn (am_dec tL_worthless_0 16 rfl) rfl (by rw [if_pos h0, if_pos h0]; exact ⟨rfl, rfl⟩)
theorem wr_gauge {S : am_S} {d : Nat} {W W1 : AH} {fs : List AV} {f : Nat → Int} {code v : Int} (p0 : Int) (p1 : Int) (p2 : Int) (p3 : Int) (hW : W[0]? = some (cO 10 fs)) (hf : W1[844]? = some (cP 2 1 f)) (hM : am_Out S zX11_gauge d 1 [aR 0, aI p0, aI p1, aI p2, aI p3] W (am_oc code v) W1) (hc : code = 0 ∨ code = 1 ∨ code = 3) : am_OutW S zL_gauge (d + 1) 1 [aR 0, aI p0, aI p1, aI p2, aI p3, aR 844] W (.inl (some (aI (if code = 0 then 0 else if code = 1 then 1 else 2)))) (if code = 0 then W1.set 844 (cP 2 1 (am_up f 0 v)) else W1) := by
  refine am_bodyW (by decide +kernel) rfl (am_cats_cons rfl (am_cats_cons rfl (am_cats_cons rfl (am_cats_cons rfl (am_cats_cons rfl (am_cats_cons rfl (am_cats_nil))))))) (Nat.le_of_ble_eq_true rfl) (?_ : am_T _ _ _ _ _ 0 [some (aR 0), some (aI p0), some (aI p1), some (aI p2), some (aI p3), some (aR 844), none] [] W)
  refine T_aload (am_dec tL_gauge_0 0 rfl) rfl ?_
  refine T_iconst 0 (am_dec tL_gauge_0 1 rfl) rfl ⟨by decide, by decide⟩ ?_
  refine T_aload_n (am_dec tL_gauge_0 2 rfl) rfl ?_
  refine T_iload_n (am_dec tL_gauge_0 3 rfl) rfl ?_
  refine T_iload_n (am_dec tL_gauge_0 4 rfl) rfl ?_
  refine T_iload_n (am_dec tL_gauge_0 5 rfl) rfl ?_
  refine T_iload (am_dec tL_gauge_0 6 rfl) rfl ?_
  refine T_wrap (d' := d) (as := [aI p0, aI p1, aI p2, aI p3]) rfl (am_dec tL_gauge_0 7 rfl) lkL_96 hW rfl rfl (Nat.le_of_ble_eq_true rfl) (Nat.le_refl _) (Nat.le_refl _) hM (fun k hk => ?_) (by omega) (fun h0 => ?_)
  · by_cases e : code = 1
    · have ek : k = 0 := by omega
      subst ek
      exact ⟨1, ⟨by decide, by decide⟩, ⟨[], (0, 14, 17, 22), [(0, 14, 21, 13)], 6, rfl, (fun r hr => by cases hr), by decide, by decide, am_m5 53 rfl rfl, by decide, Or.inl ⟨(am_dec tL_gauge_0 11 rfl), (am_dec tL_gauge_0 12 rfl), (am_dec tL_gauge_0 13 rfl)⟩⟩, by rw [if_neg (show ¬ code = 0 by omega), if_neg (show ¬ code = 0 by omega), if_pos e]; exact ⟨rfl, rfl⟩⟩
    · have ek : k = 2 := by omega
      subst ek
      exact ⟨2, ⟨by decide, by decide⟩, ⟨[(0, 14, 17, 22)], (0, 14, 21, 13), [], 6, rfl, (fun r hr => by
      rw [List.mem_singleton.mp hr]
      exact ⟨by decide, 0, by decide, by decide, am_m5 53 rfl rfl⟩), by decide, by decide, am_m3 199 rfl rfl, by decide, Or.inl ⟨(am_dec tL_gauge_0 14 rfl), (am_dec tL_gauge_0 15 rfl), (am_dec tL_gauge_0 16 rfl)⟩⟩, by rw [if_neg (show ¬ code = 0 by omega), if_neg (show ¬ code = 0 by omega), if_neg e]; exact ⟨rfl, rfl⟩⟩
  · refine T_i2l (am_dec tL_gauge_0 8 rfl) ?_
    refine T_lastore (n := 1) (f := f) (am_dec tL_gauge_0 9 rfl) hf (by decide) (by decide) ?_
    refine T_goto 25 (am_dec tL_gauge_0 10 rfl) rfl ?_
    refine T_iconst 0 (am_dec tL_gauge_0 17 rfl) rfl ⟨by decide, by decide⟩ ?_
    exact T_ireturn (am_dec tL_gauge_0 18 rfl) rfl (by rw [if_pos h0, if_pos h0]; exact ⟨rfl, rfl⟩)
theorem wr_found {S : am_S} {d : Nat} {W W1 : AH} {fs : List AV} {f : Nat → Int} {code v : Int} (p0 : Int) (hW : W[0]? = some (cO 10 fs)) (hf : W1[844]? = some (cP 2 1 f)) (hM : am_Out S zX11_found d 1 [aR 0, aI p0] W (am_oc code v) W1) (hc : code = 0 ∨ code = 3) : am_OutW S zL_found (d + 1) 1 [aR 0, aI p0, aR 844] W (.inl (some (aI (if code = 0 then 0 else if code = 3 then 1 else 2)))) (if code = 0 then W1.set 844 (cP 2 1 (am_up f 0 v)) else W1) := by
  refine am_bodyW (by decide +kernel) rfl (am_cats_cons rfl (am_cats_cons rfl (am_cats_cons rfl (am_cats_nil)))) (Nat.le_of_ble_eq_true rfl) (?_ : am_T _ _ _ _ _ 0 [some (aR 0), some (aI p0), some (aR 844), none] [] W)
  refine T_aload_n (am_dec tL_found_0 0 rfl) rfl ?_
  refine T_iconst 0 (am_dec tL_found_0 1 rfl) rfl ⟨by decide, by decide⟩ ?_
  refine T_aload_n (am_dec tL_found_0 2 rfl) rfl ?_
  refine T_iload_n (am_dec tL_found_0 3 rfl) rfl ?_
  refine T_wrap (d' := d) (as := [aI p0]) rfl (am_dec tL_found_0 4 rfl) lkL_99 hW rfl rfl (Nat.le_of_ble_eq_true rfl) (Nat.le_refl _) (Nat.le_refl _) hM (fun k hk => ?_) (by omega) (fun h0 => ?_)
  · have ek : k = 2 := by omega
    subst ek
    exact ⟨1, ⟨by decide, by decide⟩, ⟨[], (0, 9, 12, 13), [], 3, rfl, (fun r hr => by cases hr), by decide, by decide, am_m3 199 rfl rfl, by decide, Or.inr ⟨3, rfl, (am_dec tL_found_0 8 rfl), (am_dec tL_found_0 9 rfl), (am_dec tL_found_0 10 rfl)⟩⟩, by rw [if_neg (show ¬ code = 0 by omega), if_neg (show ¬ code = 0 by omega), if_pos (show code = 3 by omega)]; exact ⟨rfl, rfl⟩⟩
  · refine T_i2l (am_dec tL_found_0 5 rfl) ?_
    refine T_lastore (n := 1) (f := f) (am_dec tL_found_0 6 rfl) hf (by decide) (by decide) ?_
    refine T_goto 15 (am_dec tL_found_0 7 rfl) rfl ?_
    refine T_iconst 0 (am_dec tL_found_0 11 rfl) rfl ⟨by decide, by decide⟩ ?_
    exact T_ireturn (am_dec tL_found_0 12 rfl) rfl (by rw [if_pos h0, if_pos h0]; exact ⟨rfl, rfl⟩)
theorem wr_doubt {S : am_S} {d : Nat} {W W1 : AH} {fs : List AV} {f : Nat → Int} {code v : Int} (p0 : Int) (p1 : Int) (p2 : Int) (p3 : Int) (p4 : Int) (hW : W[0]? = some (cO 10 fs)) (hf : W1[844]? = some (cP 2 1 f)) (hM : am_Out S zX11_doubt d 1 [aR 0, aI p0, aI p1, aI p2, aI p3, aI p4] W (am_oc code v) W1) (hc : code = 0 ∨ code = 1 ∨ code = 3) : am_OutW S zL_doubt (d + 1) 1 [aR 0, aI p0, aI p1, aI p2, aI p3, aI p4, aR 844] W (.inl (some (aI (if code = 0 then 0 else if code = 1 then 1 else 2)))) (if code = 0 then W1.set 844 (cP 2 1 (am_up f 0 v)) else W1) := by
  refine am_bodyW (by decide +kernel) rfl (am_cats_cons rfl (am_cats_cons rfl (am_cats_cons rfl (am_cats_cons rfl (am_cats_cons rfl (am_cats_cons rfl (am_cats_cons rfl (am_cats_nil)))))))) (Nat.le_of_ble_eq_true rfl) (?_ : am_T _ _ _ _ _ 0 [some (aR 0), some (aI p0), some (aI p1), some (aI p2), some (aI p3), some (aI p4), some (aR 844), none] [] W)
  refine T_aload (am_dec tL_doubt_0 0 rfl) rfl ?_
  refine T_iconst 0 (am_dec tL_doubt_0 1 rfl) rfl ⟨by decide, by decide⟩ ?_
  refine T_aload_n (am_dec tL_doubt_0 2 rfl) rfl ?_
  refine T_iload_n (am_dec tL_doubt_0 3 rfl) rfl ?_
  refine T_iload_n (am_dec tL_doubt_0 4 rfl) rfl ?_
  refine T_iload_n (am_dec tL_doubt_0 5 rfl) rfl ?_
  refine T_iload (am_dec tL_doubt_0 6 rfl) rfl ?_
  refine T_iload (am_dec tL_doubt_0 7 rfl) rfl ?_
  refine T_wrap (d' := d) (as := [aI p0, aI p1, aI p2, aI p3, aI p4]) rfl (am_dec tL_doubt_0 8 rfl) lkL_102 hW rfl rfl (Nat.le_of_ble_eq_true rfl) (Nat.le_refl _) (Nat.le_refl _) hM (fun k hk => ?_) (by omega) (fun h0 => ?_)
  · by_cases e : code = 1
    · have ek : k = 0 := by omega
      subst ek
      exact ⟨1, ⟨by decide, by decide⟩, ⟨[], (0, 16, 19, 22), [(0, 16, 23, 13)], 7, rfl, (fun r hr => by cases hr), by decide, by decide, am_m5 53 rfl rfl, by decide, Or.inl ⟨(am_dec tL_doubt_0 12 rfl), (am_dec tL_doubt_0 13 rfl), (am_dec tL_doubt_0 14 rfl)⟩⟩, by rw [if_neg (show ¬ code = 0 by omega), if_neg (show ¬ code = 0 by omega), if_pos e]; exact ⟨rfl, rfl⟩⟩
    · have ek : k = 2 := by omega
      subst ek
      exact ⟨2, ⟨by decide, by decide⟩, ⟨[(0, 16, 19, 22)], (0, 16, 23, 13), [], 7, rfl, (fun r hr => by
      rw [List.mem_singleton.mp hr]
      exact ⟨by decide, 0, by decide, by decide, am_m5 53 rfl rfl⟩), by decide, by decide, am_m3 199 rfl rfl, by decide, Or.inl ⟨(am_dec tL_doubt_0 15 rfl), (am_dec tL_doubt_0 16 rfl), (am_dec tL_doubt_0 17 rfl)⟩⟩, by rw [if_neg (show ¬ code = 0 by omega), if_neg (show ¬ code = 0 by omega), if_neg e]; exact ⟨rfl, rfl⟩⟩
  · refine T_i2l (am_dec tL_doubt_0 9 rfl) ?_
    refine T_lastore (n := 1) (f := f) (am_dec tL_doubt_0 10 rfl) hf (by decide) (by decide) ?_
    refine T_goto 27 (am_dec tL_doubt_0 11 rfl) rfl ?_
    refine T_iconst 0 (am_dec tL_doubt_0 18 rfl) rfl ⟨by decide, by decide⟩ ?_
    exact T_ireturn (am_dec tL_doubt_0 19 rfl) rfl (by rw [if_pos h0, if_pos h0]; exact ⟨rfl, rfl⟩)
theorem wr_span {S : am_S} {d : Nat} {W W1 : AH} {fs : List AV} {f : Nat → Int} {code v : Int} (p0 : Int) (p1 : Int) (p2 : Int) (p3 : Int) (p4 : Int) (hW : W[0]? = some (cO 10 fs)) (hf : W1[844]? = some (cP 2 1 f)) (hM : am_Out S zX11_span d 1 [aR 0, aI p0, aI p1, aI p2, aI p3, aI p4] W (am_oc code v) W1) (hc : code = 0 ∨ code = 2 ∨ code = 3) : am_OutW S zL_span (d + 1) 1 [aR 0, aI p0, aI p1, aI p2, aI p3, aI p4, aR 844] W (.inl (some (aI (if code = 0 then 0 else if code = 2 then 1 else 2)))) (if code = 0 then W1.set 844 (cP 2 1 (am_up f 0 v)) else W1) := by
  refine am_bodyW (by decide +kernel) rfl (am_cats_cons rfl (am_cats_cons rfl (am_cats_cons rfl (am_cats_cons rfl (am_cats_cons rfl (am_cats_cons rfl (am_cats_cons rfl (am_cats_nil)))))))) (Nat.le_of_ble_eq_true rfl) (?_ : am_T _ _ _ _ _ 0 [some (aR 0), some (aI p0), some (aI p1), some (aI p2), some (aI p3), some (aI p4), some (aR 844), none] [] W)
  refine T_aload (am_dec tL_span_0 0 rfl) rfl ?_
  refine T_iconst 0 (am_dec tL_span_0 1 rfl) rfl ⟨by decide, by decide⟩ ?_
  refine T_aload_n (am_dec tL_span_0 2 rfl) rfl ?_
  refine T_iload_n (am_dec tL_span_0 3 rfl) rfl ?_
  refine T_iload_n (am_dec tL_span_0 4 rfl) rfl ?_
  refine T_iload_n (am_dec tL_span_0 5 rfl) rfl ?_
  refine T_iload (am_dec tL_span_0 6 rfl) rfl ?_
  refine T_iload (am_dec tL_span_0 7 rfl) rfl ?_
  refine T_wrap (d' := d) (as := [aI p0, aI p1, aI p2, aI p3, aI p4]) rfl (am_dec tL_span_0 8 rfl) lkL_105 hW rfl rfl (Nat.le_of_ble_eq_true rfl) (Nat.le_refl _) (Nat.le_refl _) hM (fun k hk => ?_) (by omega) (fun h0 => ?_)
  · by_cases e : code = 2
    · have ek : k = 1 := by omega
      subst ek
      exact ⟨1, ⟨by decide, by decide⟩, ⟨[], (0, 16, 19, 34), [(0, 16, 23, 13)], 7, rfl, (fun r hr => by cases hr), by decide, by decide, am_m5 100 rfl rfl, by decide, Or.inl ⟨(am_dec tL_span_0 12 rfl), (am_dec tL_span_0 13 rfl), (am_dec tL_span_0 14 rfl)⟩⟩, by rw [if_neg (show ¬ code = 0 by omega), if_neg (show ¬ code = 0 by omega), if_pos e]; exact ⟨rfl, rfl⟩⟩
    · have ek : k = 2 := by omega
      subst ek
      exact ⟨2, ⟨by decide, by decide⟩, ⟨[(0, 16, 19, 34)], (0, 16, 23, 13), [], 7, rfl, (fun r hr => by
      rw [List.mem_singleton.mp hr]
      exact ⟨by decide, 1, by decide, by decide, am_m5 100 rfl rfl⟩), by decide, by decide, am_m3 199 rfl rfl, by decide, Or.inl ⟨(am_dec tL_span_0 15 rfl), (am_dec tL_span_0 16 rfl), (am_dec tL_span_0 17 rfl)⟩⟩, by rw [if_neg (show ¬ code = 0 by omega), if_neg (show ¬ code = 0 by omega), if_neg e]; exact ⟨rfl, rfl⟩⟩
  · refine T_i2l (am_dec tL_span_0 9 rfl) ?_
    refine T_lastore (n := 1) (f := f) (am_dec tL_span_0 10 rfl) hf (by decide) (by decide) ?_
    refine T_goto 27 (am_dec tL_span_0 11 rfl) rfl ?_
    refine T_iconst 0 (am_dec tL_span_0 18 rfl) rfl ⟨by decide, by decide⟩ ?_
    exact T_ireturn (am_dec tL_span_0 19 rfl) rfl (by rw [if_pos h0, if_pos h0]; exact ⟨rfl, rfl⟩)
theorem wr_rule {S : am_S} {d : Nat} {W W1 : AH} {fs : List AV} {f : Nat → Int} {code v : Int} (p0 : Int) (hW : W[0]? = some (cO 10 fs)) (hf : W1[844]? = some (cP 2 1 f)) (hM : am_Out S zX11_rule d 1 [aR 0, aI p0] W (am_oc code v) W1) (hc : code = 0 ∨ code = 3) : am_OutW S zL_rule (d + 1) 1 [aR 0, aI p0, aR 844] W (.inl (some (aI (if code = 0 then 0 else if code = 3 then 1 else 2)))) (if code = 0 then W1.set 844 (cP 2 1 (am_up f 0 v)) else W1) := by
  refine am_bodyW (by decide +kernel) rfl (am_cats_cons rfl (am_cats_cons rfl (am_cats_cons rfl (am_cats_nil)))) (Nat.le_of_ble_eq_true rfl) (?_ : am_T _ _ _ _ _ 0 [some (aR 0), some (aI p0), some (aR 844), none] [] W)
  refine T_aload_n (am_dec tL_rule_0 0 rfl) rfl ?_
  refine T_iconst 0 (am_dec tL_rule_0 1 rfl) rfl ⟨by decide, by decide⟩ ?_
  refine T_aload_n (am_dec tL_rule_0 2 rfl) rfl ?_
  refine T_iload_n (am_dec tL_rule_0 3 rfl) rfl ?_
  refine T_wrap (d' := d) (as := [aI p0]) rfl (am_dec tL_rule_0 4 rfl) lkL_108 hW rfl rfl (Nat.le_of_ble_eq_true rfl) (Nat.le_refl _) (Nat.le_refl _) hM (fun k hk => ?_) (by omega) (fun h0 => ?_)
  · have ek : k = 2 := by omega
    subst ek
    exact ⟨1, ⟨by decide, by decide⟩, ⟨[], (0, 9, 12, 13), [], 3, rfl, (fun r hr => by cases hr), by decide, by decide, am_m3 199 rfl rfl, by decide, Or.inr ⟨3, rfl, (am_dec tL_rule_0 8 rfl), (am_dec tL_rule_0 9 rfl), (am_dec tL_rule_0 10 rfl)⟩⟩, by rw [if_neg (show ¬ code = 0 by omega), if_neg (show ¬ code = 0 by omega), if_pos (show code = 3 by omega)]; exact ⟨rfl, rfl⟩⟩
  · refine T_i2l (am_dec tL_rule_0 5 rfl) ?_
    refine T_lastore (n := 1) (f := f) (am_dec tL_rule_0 6 rfl) hf (by decide) (by decide) ?_
    refine T_goto 15 (am_dec tL_rule_0 7 rfl) rfl ?_
    refine T_iconst 0 (am_dec tL_rule_0 11 rfl) rfl ⟨by decide, by decide⟩ ?_
    exact T_ireturn (am_dec tL_rule_0 12 rfl) rfl (by rw [if_pos h0, if_pos h0]; exact ⟨rfl, rfl⟩)
theorem wr_let {S : am_S} {d : Nat} {W W1 : AH} {fs : List AV} {f : Nat → Int} {code v : Int} (p0 : Int) (p1 : Int) (p2 : Int) (hW : W[0]? = some (cO 10 fs)) (hf : W1[844]? = some (cP 2 1 f)) (hM : am_Out S zX11_let d 1 [aR 0, aI p0, aI p1, aI p2] W (am_oc code v) W1) (hc : code = 0 ∨ code = 2 ∨ code = 3) : am_OutW S zL_let (d + 1) 1 [aR 0, aI p0, aI p1, aI p2, aR 844] W (.inl (some (aI (if code = 0 then 0 else if code = 2 then 1 else 2)))) (if code = 0 then W1.set 844 (cP 2 1 (am_up f 0 v)) else W1) := by
  refine am_bodyW (by decide +kernel) rfl (am_cats_cons rfl (am_cats_cons rfl (am_cats_cons rfl (am_cats_cons rfl (am_cats_cons rfl (am_cats_nil)))))) (Nat.le_of_ble_eq_true rfl) (?_ : am_T _ _ _ _ _ 0 [some (aR 0), some (aI p0), some (aI p1), some (aI p2), some (aR 844), none] [] W)
  refine T_aload (am_dec tL_let_0 0 rfl) rfl ?_
  refine T_iconst 0 (am_dec tL_let_0 1 rfl) rfl ⟨by decide, by decide⟩ ?_
  refine T_aload_n (am_dec tL_let_0 2 rfl) rfl ?_
  refine T_iload_n (am_dec tL_let_0 3 rfl) rfl ?_
  refine T_iload_n (am_dec tL_let_0 4 rfl) rfl ?_
  refine T_iload_n (am_dec tL_let_0 5 rfl) rfl ?_
  refine T_wrap (d' := d) (as := [aI p0, aI p1, aI p2]) rfl (am_dec tL_let_0 6 rfl) lkL_111 hW rfl rfl (Nat.le_of_ble_eq_true rfl) (Nat.le_refl _) (Nat.le_refl _) hM (fun k hk => ?_) (by omega) (fun h0 => ?_)
  · by_cases e : code = 2
    · have ek : k = 1 := by omega
      subst ek
      exact ⟨1, ⟨by decide, by decide⟩, ⟨[], (0, 12, 15, 34), [(0, 12, 19, 13)], 5, rfl, (fun r hr => by cases hr), by decide, by decide, am_m5 100 rfl rfl, by decide, Or.inl ⟨(am_dec tL_let_0 10 rfl), (am_dec tL_let_0 11 rfl), (am_dec tL_let_0 12 rfl)⟩⟩, by rw [if_neg (show ¬ code = 0 by omega), if_neg (show ¬ code = 0 by omega), if_pos e]; exact ⟨rfl, rfl⟩⟩
    · have ek : k = 2 := by omega
      subst ek
      exact ⟨2, ⟨by decide, by decide⟩, ⟨[(0, 12, 15, 34)], (0, 12, 19, 13), [], 5, rfl, (fun r hr => by
      rw [List.mem_singleton.mp hr]
      exact ⟨by decide, 1, by decide, by decide, am_m5 100 rfl rfl⟩), by decide, by decide, am_m3 199 rfl rfl, by decide, Or.inl ⟨(am_dec tL_let_0 13 rfl), (am_dec tL_let_0 14 rfl), (am_dec tL_let_0 15 rfl)⟩⟩, by rw [if_neg (show ¬ code = 0 by omega), if_neg (show ¬ code = 0 by omega), if_neg e]; exact ⟨rfl, rfl⟩⟩
  · refine T_i2l (am_dec tL_let_0 7 rfl) ?_
    refine T_lastore (n := 1) (f := f) (am_dec tL_let_0 8 rfl) hf (by decide) (by decide) ?_
    refine T_goto 23 (am_dec tL_let_0 9 rfl) rfl ?_
    refine T_iconst 0 (am_dec tL_let_0 16 rfl) rfl ⟨by decide, by decide⟩ ?_
    exact T_ireturn (am_dec tL_let_0 17 rfl) rfl (by rw [if_pos h0, if_pos h0]; exact ⟨rfl, rfl⟩)
theorem wr_ruled {S : am_S} {d : Nat} {W W1 : AH} {fs : List AV} {f : Nat → Int} {code v : Int} (p0 : Int) (p1 : Int) (p2 : Int) (hW : W[0]? = some (cO 10 fs)) (hf : W1[844]? = some (cP 2 1 f)) (hM : am_Out S zX11_ruled d 1 [aR 0, aI p0, aI p1, aI p2] W (am_oc code v) W1) (hc : code = 0 ∨ code = 2 ∨ code = 3) : am_OutW S zL_ruled (d + 1) 1 [aR 0, aI p0, aI p1, aI p2, aR 844] W (.inl (some (aI (if code = 0 then 0 else if code = 2 then 1 else 2)))) (if code = 0 then W1.set 844 (cP 2 1 (am_up f 0 v)) else W1) := by
  refine am_bodyW (by decide +kernel) rfl (am_cats_cons rfl (am_cats_cons rfl (am_cats_cons rfl (am_cats_cons rfl (am_cats_cons rfl (am_cats_nil)))))) (Nat.le_of_ble_eq_true rfl) (?_ : am_T _ _ _ _ _ 0 [some (aR 0), some (aI p0), some (aI p1), some (aI p2), some (aR 844), none] [] W)
  refine T_aload (am_dec tL_ruled_0 0 rfl) rfl ?_
  refine T_iconst 0 (am_dec tL_ruled_0 1 rfl) rfl ⟨by decide, by decide⟩ ?_
  refine T_aload_n (am_dec tL_ruled_0 2 rfl) rfl ?_
  refine T_iload_n (am_dec tL_ruled_0 3 rfl) rfl ?_
  refine T_iload_n (am_dec tL_ruled_0 4 rfl) rfl ?_
  refine T_iload_n (am_dec tL_ruled_0 5 rfl) rfl ?_
  refine T_wrap (d' := d) (as := [aI p0, aI p1, aI p2]) rfl (am_dec tL_ruled_0 6 rfl) lkL_114 hW rfl rfl (Nat.le_of_ble_eq_true rfl) (Nat.le_refl _) (Nat.le_refl _) hM (fun k hk => ?_) (by omega) (fun h0 => ?_)
  · by_cases e : code = 2
    · have ek : k = 1 := by omega
      subst ek
      exact ⟨1, ⟨by decide, by decide⟩, ⟨[], (0, 12, 15, 34), [(0, 12, 19, 13)], 5, rfl, (fun r hr => by cases hr), by decide, by decide, am_m5 100 rfl rfl, by decide, Or.inl ⟨(am_dec tL_ruled_0 10 rfl), (am_dec tL_ruled_0 11 rfl), (am_dec tL_ruled_0 12 rfl)⟩⟩, by rw [if_neg (show ¬ code = 0 by omega), if_neg (show ¬ code = 0 by omega), if_pos e]; exact ⟨rfl, rfl⟩⟩
    · have ek : k = 2 := by omega
      subst ek
      exact ⟨2, ⟨by decide, by decide⟩, ⟨[(0, 12, 15, 34)], (0, 12, 19, 13), [], 5, rfl, (fun r hr => by
      rw [List.mem_singleton.mp hr]
      exact ⟨by decide, 1, by decide, by decide, am_m5 100 rfl rfl⟩), by decide, by decide, am_m3 199 rfl rfl, by decide, Or.inl ⟨(am_dec tL_ruled_0 13 rfl), (am_dec tL_ruled_0 14 rfl), (am_dec tL_ruled_0 15 rfl)⟩⟩, by rw [if_neg (show ¬ code = 0 by omega), if_neg (show ¬ code = 0 by omega), if_neg e]; exact ⟨rfl, rfl⟩⟩
  · refine T_i2l (am_dec tL_ruled_0 7 rfl) ?_
    refine T_lastore (n := 1) (f := f) (am_dec tL_ruled_0 8 rfl) hf (by decide) (by decide) ?_
    refine T_goto 23 (am_dec tL_ruled_0 9 rfl) rfl ?_
    refine T_iconst 0 (am_dec tL_ruled_0 16 rfl) rfl ⟨by decide, by decide⟩ ?_
    exact T_ireturn (am_dec tL_ruled_0 17 rfl) rfl (by rw [if_pos h0, if_pos h0]; exact ⟨rfl, rfl⟩)
theorem wr_brings {S : am_S} {d : Nat} {W W1 : AH} {fs : List AV} {f : Nat → Int} {code v : Int} (p0 : Int) (p1 : Int) (p2 : Int) (hW : W[0]? = some (cO 10 fs)) (hf : W1[844]? = some (cP 2 1 f)) (hM : am_Out S zX11_brings d 1 [aR 0, aI p0, aI p1, aI p2] W (am_oc code v) W1) (hc : code = 0 ∨ code = 2 ∨ code = 3) : am_OutW S zL_brings (d + 1) 1 [aR 0, aI p0, aI p1, aI p2, aR 844] W (.inl (some (aI (if code = 0 then 0 else if code = 2 then 1 else 2)))) (if code = 0 then W1.set 844 (cP 2 1 (am_up f 0 v)) else W1) := by
  refine am_bodyW (by decide +kernel) rfl (am_cats_cons rfl (am_cats_cons rfl (am_cats_cons rfl (am_cats_cons rfl (am_cats_cons rfl (am_cats_nil)))))) (Nat.le_of_ble_eq_true rfl) (?_ : am_T _ _ _ _ _ 0 [some (aR 0), some (aI p0), some (aI p1), some (aI p2), some (aR 844), none] [] W)
  refine T_aload (am_dec tL_brings_0 0 rfl) rfl ?_
  refine T_iconst 0 (am_dec tL_brings_0 1 rfl) rfl ⟨by decide, by decide⟩ ?_
  refine T_aload_n (am_dec tL_brings_0 2 rfl) rfl ?_
  refine T_iload_n (am_dec tL_brings_0 3 rfl) rfl ?_
  refine T_iload_n (am_dec tL_brings_0 4 rfl) rfl ?_
  refine T_iload_n (am_dec tL_brings_0 5 rfl) rfl ?_
  refine T_wrap (d' := d) (as := [aI p0, aI p1, aI p2]) rfl (am_dec tL_brings_0 6 rfl) lkL_117 hW rfl rfl (Nat.le_of_ble_eq_true rfl) (Nat.le_refl _) (Nat.le_refl _) hM (fun k hk => ?_) (by omega) (fun h0 => ?_)
  · by_cases e : code = 2
    · have ek : k = 1 := by omega
      subst ek
      exact ⟨1, ⟨by decide, by decide⟩, ⟨[], (0, 12, 15, 34), [(0, 12, 19, 13)], 5, rfl, (fun r hr => by cases hr), by decide, by decide, am_m5 100 rfl rfl, by decide, Or.inl ⟨(am_dec tL_brings_0 10 rfl), (am_dec tL_brings_0 11 rfl), (am_dec tL_brings_0 12 rfl)⟩⟩, by rw [if_neg (show ¬ code = 0 by omega), if_neg (show ¬ code = 0 by omega), if_pos e]; exact ⟨rfl, rfl⟩⟩
    · have ek : k = 2 := by omega
      subst ek
      exact ⟨2, ⟨by decide, by decide⟩, ⟨[(0, 12, 15, 34)], (0, 12, 19, 13), [], 5, rfl, (fun r hr => by
      rw [List.mem_singleton.mp hr]
      exact ⟨by decide, 1, by decide, by decide, am_m5 100 rfl rfl⟩), by decide, by decide, am_m3 199 rfl rfl, by decide, Or.inl ⟨(am_dec tL_brings_0 13 rfl), (am_dec tL_brings_0 14 rfl), (am_dec tL_brings_0 15 rfl)⟩⟩, by rw [if_neg (show ¬ code = 0 by omega), if_neg (show ¬ code = 0 by omega), if_neg e]; exact ⟨rfl, rfl⟩⟩
  · refine T_i2l (am_dec tL_brings_0 7 rfl) ?_
    refine T_lastore (n := 1) (f := f) (am_dec tL_brings_0 8 rfl) hf (by decide) (by decide) ?_
    refine T_goto 23 (am_dec tL_brings_0 9 rfl) rfl ?_
    refine T_iconst 0 (am_dec tL_brings_0 16 rfl) rfl ⟨by decide, by decide⟩ ?_
    exact T_ireturn (am_dec tL_brings_0 17 rfl) rfl (by rw [if_pos h0, if_pos h0]; exact ⟨rfl, rfl⟩)
theorem wr_clock {S : am_S} {d : Nat} {W W1 : AH} {fs : List AV} {f : Nat → Int} {code v : Int} (p0 : Int) (p1 : Int) (p2 : Int) (hW : W[0]? = some (cO 10 fs)) (hf : W1[844]? = some (cP 2 1 f)) (hM : am_Out S zX11_clock d 1 [aR 0, aI p0, aI p1, aI p2] W (am_oc code v) W1) (hc : code = 0 ∨ code = 2 ∨ code = 3) : am_OutW S zL_clock (d + 1) 1 [aR 0, aI p0, aI p1, aI p2, aR 844] W (.inl (some (aI (if code = 0 then 0 else if code = 2 then 1 else 2)))) (if code = 0 then W1.set 844 (cP 2 1 (am_up f 0 v)) else W1) := by
  refine am_bodyW (by decide +kernel) rfl (am_cats_cons rfl (am_cats_cons rfl (am_cats_cons rfl (am_cats_cons rfl (am_cats_cons rfl (am_cats_nil)))))) (Nat.le_of_ble_eq_true rfl) (?_ : am_T _ _ _ _ _ 0 [some (aR 0), some (aI p0), some (aI p1), some (aI p2), some (aR 844), none] [] W)
  refine T_aload (am_dec tL_clock_0 0 rfl) rfl ?_
  refine T_iconst 0 (am_dec tL_clock_0 1 rfl) rfl ⟨by decide, by decide⟩ ?_
  refine T_aload_n (am_dec tL_clock_0 2 rfl) rfl ?_
  refine T_iload_n (am_dec tL_clock_0 3 rfl) rfl ?_
  refine T_iload_n (am_dec tL_clock_0 4 rfl) rfl ?_
  refine T_iload_n (am_dec tL_clock_0 5 rfl) rfl ?_
  refine T_wrap (d' := d) (as := [aI p0, aI p1, aI p2]) rfl (am_dec tL_clock_0 6 rfl) lkL_120 hW rfl rfl (Nat.le_of_ble_eq_true rfl) (Nat.le_refl _) (Nat.le_refl _) hM (fun k hk => ?_) (by omega) (fun h0 => ?_)
  · by_cases e : code = 2
    · have ek : k = 1 := by omega
      subst ek
      exact ⟨1, ⟨by decide, by decide⟩, ⟨[], (0, 12, 15, 34), [(0, 12, 19, 13)], 5, rfl, (fun r hr => by cases hr), by decide, by decide, am_m5 100 rfl rfl, by decide, Or.inl ⟨(am_dec tL_clock_0 10 rfl), (am_dec tL_clock_0 11 rfl), (am_dec tL_clock_0 12 rfl)⟩⟩, by rw [if_neg (show ¬ code = 0 by omega), if_neg (show ¬ code = 0 by omega), if_pos e]; exact ⟨rfl, rfl⟩⟩
    · have ek : k = 2 := by omega
      subst ek
      exact ⟨2, ⟨by decide, by decide⟩, ⟨[(0, 12, 15, 34)], (0, 12, 19, 13), [], 5, rfl, (fun r hr => by
      rw [List.mem_singleton.mp hr]
      exact ⟨by decide, 1, by decide, by decide, am_m5 100 rfl rfl⟩), by decide, by decide, am_m3 199 rfl rfl, by decide, Or.inl ⟨(am_dec tL_clock_0 13 rfl), (am_dec tL_clock_0 14 rfl), (am_dec tL_clock_0 15 rfl)⟩⟩, by rw [if_neg (show ¬ code = 0 by omega), if_neg (show ¬ code = 0 by omega), if_neg e]; exact ⟨rfl, rfl⟩⟩
  · refine T_i2l (am_dec tL_clock_0 7 rfl) ?_
    refine T_lastore (n := 1) (f := f) (am_dec tL_clock_0 8 rfl) hf (by decide) (by decide) ?_
    refine T_goto 23 (am_dec tL_clock_0 9 rfl) rfl ?_
    refine T_iconst 0 (am_dec tL_clock_0 16 rfl) rfl ⟨by decide, by decide⟩ ?_
    exact T_ireturn (am_dec tL_clock_0 17 rfl) rfl (by rw [if_pos h0, if_pos h0]; exact ⟨rfl, rfl⟩)
theorem wr_enough {S : am_S} {d : Nat} {W W1 : AH} {fs : List AV} {f : Nat → Int} {code v : Int} (p0 : Int) (p1 : Int) (p2 : Int) (p3 : Int) (p4 : Int) (hW : W[0]? = some (cO 10 fs)) (hf : W1[844]? = some (cP 2 1 f)) (hM : am_Out S zX11_enough d 1 [aR 0, aI p0, aI p1, aI p2, aI p3, aI p4] W (am_oc code v) W1) (hc : code = 0 ∨ code = 2 ∨ code = 3) : am_OutW S zL_enough (d + 1) 1 [aR 0, aI p0, aI p1, aI p2, aI p3, aI p4, aR 844] W (.inl (some (aI (if code = 0 then 0 else if code = 2 then 1 else 2)))) (if code = 0 then W1.set 844 (cP 2 1 (am_up f 0 v)) else W1) := by
  refine am_bodyW (by decide +kernel) rfl (am_cats_cons rfl (am_cats_cons rfl (am_cats_cons rfl (am_cats_cons rfl (am_cats_cons rfl (am_cats_cons rfl (am_cats_cons rfl (am_cats_nil)))))))) (Nat.le_of_ble_eq_true rfl) (?_ : am_T _ _ _ _ _ 0 [some (aR 0), some (aI p0), some (aI p1), some (aI p2), some (aI p3), some (aI p4), some (aR 844), none] [] W)
  refine T_aload (am_dec tL_enough_0 0 rfl) rfl ?_
  refine T_iconst 0 (am_dec tL_enough_0 1 rfl) rfl ⟨by decide, by decide⟩ ?_
  refine T_aload_n (am_dec tL_enough_0 2 rfl) rfl ?_
  refine T_iload_n (am_dec tL_enough_0 3 rfl) rfl ?_
  refine T_iload_n (am_dec tL_enough_0 4 rfl) rfl ?_
  refine T_iload_n (am_dec tL_enough_0 5 rfl) rfl ?_
  refine T_iload (am_dec tL_enough_0 6 rfl) rfl ?_
  refine T_iload (am_dec tL_enough_0 7 rfl) rfl ?_
  refine T_wrap (d' := d) (as := [aI p0, aI p1, aI p2, aI p3, aI p4]) rfl (am_dec tL_enough_0 8 rfl) lkL_123 hW rfl rfl (Nat.le_of_ble_eq_true rfl) (Nat.le_refl _) (Nat.le_refl _) hM (fun k hk => ?_) (by omega) (fun h0 => ?_)
  · by_cases e : code = 2
    · have ek : k = 1 := by omega
      subst ek
      exact ⟨1, ⟨by decide, by decide⟩, ⟨[], (0, 16, 19, 34), [(0, 16, 23, 13)], 7, rfl, (fun r hr => by cases hr), by decide, by decide, am_m5 100 rfl rfl, by decide, Or.inl ⟨(am_dec tL_enough_0 12 rfl), (am_dec tL_enough_0 13 rfl), (am_dec tL_enough_0 14 rfl)⟩⟩, by rw [if_neg (show ¬ code = 0 by omega), if_neg (show ¬ code = 0 by omega), if_pos e]; exact ⟨rfl, rfl⟩⟩
    · have ek : k = 2 := by omega
      subst ek
      exact ⟨2, ⟨by decide, by decide⟩, ⟨[(0, 16, 19, 34)], (0, 16, 23, 13), [], 7, rfl, (fun r hr => by
      rw [List.mem_singleton.mp hr]
      exact ⟨by decide, 1, by decide, by decide, am_m5 100 rfl rfl⟩), by decide, by decide, am_m3 199 rfl rfl, by decide, Or.inl ⟨(am_dec tL_enough_0 15 rfl), (am_dec tL_enough_0 16 rfl), (am_dec tL_enough_0 17 rfl)⟩⟩, by rw [if_neg (show ¬ code = 0 by omega), if_neg (show ¬ code = 0 by omega), if_neg e]; exact ⟨rfl, rfl⟩⟩
  · refine T_i2l (am_dec tL_enough_0 9 rfl) ?_
    refine T_lastore (n := 1) (f := f) (am_dec tL_enough_0 10 rfl) hf (by decide) (by decide) ?_
    refine T_goto 27 (am_dec tL_enough_0 11 rfl) rfl ?_
    refine T_iconst 0 (am_dec tL_enough_0 18 rfl) rfl ⟨by decide, by decide⟩ ?_
    exact T_ireturn (am_dec tL_enough_0 19 rfl) rfl (by rw [if_pos h0, if_pos h0]; exact ⟨rfl, rfl⟩)
theorem wr_sure {S : am_S} {d : Nat} {W W1 : AH} {fs : List AV} {f : Nat → Int} {code v : Int} (p0 : Int) (p1 : Int) (p2 : Int) (p3 : Int) (p4 : Int) (hW : W[0]? = some (cO 10 fs)) (hf : W1[844]? = some (cP 2 1 f)) (hM : am_Out S zX11_sure d 1 [aR 0, aI p0, aI p1, aI p2, aI p3, aI p4] W (am_oc code v) W1) (hc : code = 0 ∨ code = 2 ∨ code = 3) : am_OutW S zL_sure (d + 1) 1 [aR 0, aI p0, aI p1, aI p2, aI p3, aI p4, aR 844] W (.inl (some (aI (if code = 0 then 0 else if code = 2 then 1 else 2)))) (if code = 0 then W1.set 844 (cP 2 1 (am_up f 0 v)) else W1) := by
  refine am_bodyW (by decide +kernel) rfl (am_cats_cons rfl (am_cats_cons rfl (am_cats_cons rfl (am_cats_cons rfl (am_cats_cons rfl (am_cats_cons rfl (am_cats_cons rfl (am_cats_nil)))))))) (Nat.le_of_ble_eq_true rfl) (?_ : am_T _ _ _ _ _ 0 [some (aR 0), some (aI p0), some (aI p1), some (aI p2), some (aI p3), some (aI p4), some (aR 844), none] [] W)
  refine T_aload (am_dec tL_sure_0 0 rfl) rfl ?_
  refine T_iconst 0 (am_dec tL_sure_0 1 rfl) rfl ⟨by decide, by decide⟩ ?_
  refine T_aload_n (am_dec tL_sure_0 2 rfl) rfl ?_
  refine T_iload_n (am_dec tL_sure_0 3 rfl) rfl ?_
  refine T_iload_n (am_dec tL_sure_0 4 rfl) rfl ?_
  refine T_iload_n (am_dec tL_sure_0 5 rfl) rfl ?_
  refine T_iload (am_dec tL_sure_0 6 rfl) rfl ?_
  refine T_iload (am_dec tL_sure_0 7 rfl) rfl ?_
  refine T_wrap (d' := d) (as := [aI p0, aI p1, aI p2, aI p3, aI p4]) rfl (am_dec tL_sure_0 8 rfl) lkL_126 hW rfl rfl (Nat.le_of_ble_eq_true rfl) (Nat.le_refl _) (Nat.le_refl _) hM (fun k hk => ?_) (by omega) (fun h0 => ?_)
  · by_cases e : code = 2
    · have ek : k = 1 := by omega
      subst ek
      exact ⟨1, ⟨by decide, by decide⟩, ⟨[], (0, 16, 19, 34), [(0, 16, 23, 13)], 7, rfl, (fun r hr => by cases hr), by decide, by decide, am_m5 100 rfl rfl, by decide, Or.inl ⟨(am_dec tL_sure_0 12 rfl), (am_dec tL_sure_0 13 rfl), (am_dec tL_sure_0 14 rfl)⟩⟩, by rw [if_neg (show ¬ code = 0 by omega), if_neg (show ¬ code = 0 by omega), if_pos e]; exact ⟨rfl, rfl⟩⟩
    · have ek : k = 2 := by omega
      subst ek
      exact ⟨2, ⟨by decide, by decide⟩, ⟨[(0, 16, 19, 34)], (0, 16, 23, 13), [], 7, rfl, (fun r hr => by
      rw [List.mem_singleton.mp hr]
      exact ⟨by decide, 1, by decide, by decide, am_m5 100 rfl rfl⟩), by decide, by decide, am_m3 199 rfl rfl, by decide, Or.inl ⟨(am_dec tL_sure_0 15 rfl), (am_dec tL_sure_0 16 rfl), (am_dec tL_sure_0 17 rfl)⟩⟩, by rw [if_neg (show ¬ code = 0 by omega), if_neg (show ¬ code = 0 by omega), if_neg e]; exact ⟨rfl, rfl⟩⟩
  · refine T_i2l (am_dec tL_sure_0 9 rfl) ?_
    refine T_lastore (n := 1) (f := f) (am_dec tL_sure_0 10 rfl) hf (by decide) (by decide) ?_
    refine T_goto 27 (am_dec tL_sure_0 11 rfl) rfl ?_
    refine T_iconst 0 (am_dec tL_sure_0 18 rfl) rfl ⟨by decide, by decide⟩ ?_
    exact T_ireturn (am_dec tL_sure_0 19 rfl) rfl (by rw [if_pos h0, if_pos h0]; exact ⟨rfl, rfl⟩)
theorem wr_start {S : am_S} {d : Nat} {W W1 : AH} {fs : List AV} {f : Nat → Int} {code v : Int} (p0 : Int) (p1 : Int) (hW : W[0]? = some (cO 10 fs)) (hf : W1[844]? = some (cP 2 1 f)) (hM : am_Out S zX11_start d 1 [aR 0, aI p0, aI p1] W (am_oc code v) W1) (hc : code = 0 ∨ code = 2 ∨ code = 3) : am_OutW S zL_start (d + 1) 1 [aR 0, aI p0, aI p1, aR 844] W (.inl (some (aI (if code = 0 then 0 else if code = 2 then 1 else 2)))) (if code = 0 then W1.set 844 (cP 2 1 (am_up f 0 v)) else W1) := by
  refine am_bodyW (by decide +kernel) rfl (am_cats_cons rfl (am_cats_cons rfl (am_cats_cons rfl (am_cats_cons rfl (am_cats_nil))))) (Nat.le_of_ble_eq_true rfl) (?_ : am_T _ _ _ _ _ 0 [some (aR 0), some (aI p0), some (aI p1), some (aR 844), none] [] W)
  refine T_aload_n (am_dec tL_start_0 0 rfl) rfl ?_
  refine T_iconst 0 (am_dec tL_start_0 1 rfl) rfl ⟨by decide, by decide⟩ ?_
  refine T_aload_n (am_dec tL_start_0 2 rfl) rfl ?_
  refine T_iload_n (am_dec tL_start_0 3 rfl) rfl ?_
  refine T_iload_n (am_dec tL_start_0 4 rfl) rfl ?_
  refine T_wrap (d' := d) (as := [aI p0, aI p1]) rfl (am_dec tL_start_0 5 rfl) lkL_129 hW rfl rfl (Nat.le_of_ble_eq_true rfl) (Nat.le_refl _) (Nat.le_refl _) hM (fun k hk => ?_) (by omega) (fun h0 => ?_)
  · by_cases e : code = 2
    · have ek : k = 1 := by omega
      subst ek
      exact ⟨1, ⟨by decide, by decide⟩, ⟨[], (0, 10, 13, 34), [(0, 10, 17, 13)], 4, rfl, (fun r hr => by cases hr), by decide, by decide, am_m5 100 rfl rfl, by decide, Or.inl ⟨(am_dec tL_start_0 9 rfl), (am_dec tL_start_0 10 rfl), (am_dec tL_start_0 11 rfl)⟩⟩, by rw [if_neg (show ¬ code = 0 by omega), if_neg (show ¬ code = 0 by omega), if_pos e]; exact ⟨rfl, rfl⟩⟩
    · have ek : k = 2 := by omega
      subst ek
      exact ⟨2, ⟨by decide, by decide⟩, ⟨[(0, 10, 13, 34)], (0, 10, 17, 13), [], 4, rfl, (fun r hr => by
      rw [List.mem_singleton.mp hr]
      exact ⟨by decide, 1, by decide, by decide, am_m5 100 rfl rfl⟩), by decide, by decide, am_m3 199 rfl rfl, by decide, Or.inl ⟨(am_dec tL_start_0 12 rfl), (am_dec tL_start_0 13 rfl), (am_dec tL_start_0 14 rfl)⟩⟩, by rw [if_neg (show ¬ code = 0 by omega), if_neg (show ¬ code = 0 by omega), if_neg e]; exact ⟨rfl, rfl⟩⟩
  · refine T_i2l (am_dec tL_start_0 6 rfl) ?_
    refine T_lastore (n := 1) (f := f) (am_dec tL_start_0 7 rfl) hf (by decide) (by decide) ?_
    refine T_goto 21 (am_dec tL_start_0 8 rfl) rfl ?_
    refine T_iconst 0 (am_dec tL_start_0 15 rfl) rfl ⟨by decide, by decide⟩ ?_
    exact T_ireturn (am_dec tL_start_0 16 rfl) rfl (by rw [if_pos h0, if_pos h0]; exact ⟨rfl, rfl⟩)
theorem wr_meet {S : am_S} {d : Nat} {W W1 : AH} {fs : List AV} {f : Nat → Int} {code v : Int} (p0 : Int) (p1 : Int) (hW : W[0]? = some (cO 10 fs)) (hf : W1[844]? = some (cP 2 1 f)) (hM : am_Out S zX11_meet d 1 [aR 0, aI p0, aI p1] W (am_oc code v) W1) (hc : code = 0 ∨ code = 2 ∨ code = 3) : am_OutW S zL_meet (d + 1) 1 [aR 0, aI p0, aI p1, aR 844] W (.inl (some (aI (if code = 0 then 0 else if code = 2 then 1 else 2)))) (if code = 0 then W1.set 844 (cP 2 1 (am_up f 0 v)) else W1) := by
  refine am_bodyW (by decide +kernel) rfl (am_cats_cons rfl (am_cats_cons rfl (am_cats_cons rfl (am_cats_cons rfl (am_cats_nil))))) (Nat.le_of_ble_eq_true rfl) (?_ : am_T _ _ _ _ _ 0 [some (aR 0), some (aI p0), some (aI p1), some (aR 844), none] [] W)
  refine T_aload_n (am_dec tL_meet_0 0 rfl) rfl ?_
  refine T_iconst 0 (am_dec tL_meet_0 1 rfl) rfl ⟨by decide, by decide⟩ ?_
  refine T_aload_n (am_dec tL_meet_0 2 rfl) rfl ?_
  refine T_iload_n (am_dec tL_meet_0 3 rfl) rfl ?_
  refine T_iload_n (am_dec tL_meet_0 4 rfl) rfl ?_
  refine T_wrap (d' := d) (as := [aI p0, aI p1]) rfl (am_dec tL_meet_0 5 rfl) lkL_132 hW rfl rfl (Nat.le_of_ble_eq_true rfl) (Nat.le_refl _) (Nat.le_refl _) hM (fun k hk => ?_) (by omega) (fun h0 => ?_)
  · by_cases e : code = 2
    · have ek : k = 1 := by omega
      subst ek
      exact ⟨1, ⟨by decide, by decide⟩, ⟨[], (0, 10, 13, 34), [(0, 10, 17, 13)], 4, rfl, (fun r hr => by cases hr), by decide, by decide, am_m5 100 rfl rfl, by decide, Or.inl ⟨(am_dec tL_meet_0 9 rfl), (am_dec tL_meet_0 10 rfl), (am_dec tL_meet_0 11 rfl)⟩⟩, by rw [if_neg (show ¬ code = 0 by omega), if_neg (show ¬ code = 0 by omega), if_pos e]; exact ⟨rfl, rfl⟩⟩
    · have ek : k = 2 := by omega
      subst ek
      exact ⟨2, ⟨by decide, by decide⟩, ⟨[(0, 10, 13, 34)], (0, 10, 17, 13), [], 4, rfl, (fun r hr => by
      rw [List.mem_singleton.mp hr]
      exact ⟨by decide, 1, by decide, by decide, am_m5 100 rfl rfl⟩), by decide, by decide, am_m3 199 rfl rfl, by decide, Or.inl ⟨(am_dec tL_meet_0 12 rfl), (am_dec tL_meet_0 13 rfl), (am_dec tL_meet_0 14 rfl)⟩⟩, by rw [if_neg (show ¬ code = 0 by omega), if_neg (show ¬ code = 0 by omega), if_neg e]; exact ⟨rfl, rfl⟩⟩
  · refine T_i2l (am_dec tL_meet_0 6 rfl) ?_
    refine T_lastore (n := 1) (f := f) (am_dec tL_meet_0 7 rfl) hf (by decide) (by decide) ?_
    refine T_goto 21 (am_dec tL_meet_0 8 rfl) rfl ?_
    refine T_iconst 0 (am_dec tL_meet_0 15 rfl) rfl ⟨by decide, by decide⟩ ?_
    exact T_ireturn (am_dec tL_meet_0 16 rfl) rfl (by rw [if_pos h0, if_pos h0]; exact ⟨rfl, rfl⟩)
theorem wr_witnesses {S : am_S} {d : Nat} {W W1 : AH} {fs : List AV} {f : Nat → Int} {code v : Int} (p0 : Int) (p1 : Int) (p2 : Int) (p3 : Int) (p4 : Int) (hW : W[0]? = some (cO 10 fs)) (hf : W1[844]? = some (cP 2 1 f)) (hM : am_Out S zX11_witnesses d 1 [aR 0, aI p0, aI p1, aI p2, aI p3, aI p4] W (am_oc code v) W1) (hc : code = 0 ∨ code = 1 ∨ code = 3) : am_OutW S zL_witnesses (d + 1) 1 [aR 0, aI p0, aI p1, aI p2, aI p3, aI p4, aR 844] W (.inl (some (aI (if code = 0 then 0 else if code = 1 then 1 else 2)))) (if code = 0 then W1.set 844 (cP 2 1 (am_up f 0 v)) else W1) := by
  refine am_bodyW (by decide +kernel) rfl (am_cats_cons rfl (am_cats_cons rfl (am_cats_cons rfl (am_cats_cons rfl (am_cats_cons rfl (am_cats_cons rfl (am_cats_cons rfl (am_cats_nil)))))))) (Nat.le_of_ble_eq_true rfl) (?_ : am_T _ _ _ _ _ 0 [some (aR 0), some (aI p0), some (aI p1), some (aI p2), some (aI p3), some (aI p4), some (aR 844), none] [] W)
  refine T_aload (am_dec tL_witnesses_0 0 rfl) rfl ?_
  refine T_iconst 0 (am_dec tL_witnesses_0 1 rfl) rfl ⟨by decide, by decide⟩ ?_
  refine T_aload_n (am_dec tL_witnesses_0 2 rfl) rfl ?_
  refine T_iload_n (am_dec tL_witnesses_0 3 rfl) rfl ?_
  refine T_iload_n (am_dec tL_witnesses_0 4 rfl) rfl ?_
  refine T_iload_n (am_dec tL_witnesses_0 5 rfl) rfl ?_
  refine T_iload (am_dec tL_witnesses_0 6 rfl) rfl ?_
  refine T_iload (am_dec tL_witnesses_0 7 rfl) rfl ?_
  refine T_wrap (d' := d) (as := [aI p0, aI p1, aI p2, aI p3, aI p4]) rfl (am_dec tL_witnesses_0 8 rfl) lkL_135 hW rfl rfl (Nat.le_of_ble_eq_true rfl) (Nat.le_refl _) (Nat.le_refl _) hM (fun k hk => ?_) (by omega) (fun h0 => ?_)
  · by_cases e : code = 1
    · have ek : k = 0 := by omega
      subst ek
      exact ⟨1, ⟨by decide, by decide⟩, ⟨[], (0, 16, 19, 22), [(0, 16, 23, 13)], 7, rfl, (fun r hr => by cases hr), by decide, by decide, am_m5 53 rfl rfl, by decide, Or.inl ⟨(am_dec tL_witnesses_0 12 rfl), (am_dec tL_witnesses_0 13 rfl), (am_dec tL_witnesses_0 14 rfl)⟩⟩, by rw [if_neg (show ¬ code = 0 by omega), if_neg (show ¬ code = 0 by omega), if_pos e]; exact ⟨rfl, rfl⟩⟩
    · have ek : k = 2 := by omega
      subst ek
      exact ⟨2, ⟨by decide, by decide⟩, ⟨[(0, 16, 19, 22)], (0, 16, 23, 13), [], 7, rfl, (fun r hr => by
      rw [List.mem_singleton.mp hr]
      exact ⟨by decide, 0, by decide, by decide, am_m5 53 rfl rfl⟩), by decide, by decide, am_m3 199 rfl rfl, by decide, Or.inl ⟨(am_dec tL_witnesses_0 15 rfl), (am_dec tL_witnesses_0 16 rfl), (am_dec tL_witnesses_0 17 rfl)⟩⟩, by rw [if_neg (show ¬ code = 0 by omega), if_neg (show ¬ code = 0 by omega), if_neg e]; exact ⟨rfl, rfl⟩⟩
  · refine T_i2l (am_dec tL_witnesses_0 9 rfl) ?_
    refine T_lastore (n := 1) (f := f) (am_dec tL_witnesses_0 10 rfl) hf (by decide) (by decide) ?_
    refine T_goto 27 (am_dec tL_witnesses_0 11 rfl) rfl ?_
    refine T_iconst 0 (am_dec tL_witnesses_0 18 rfl) rfl ⟨by decide, by decide⟩ ?_
    exact T_ireturn (am_dec tL_witnesses_0 19 rfl) rfl (by rw [if_pos h0, if_pos h0]; exact ⟨rfl, rfl⟩)
theorem wr_light {S : am_S} {d : Nat} {W W1 : AH} {fs : List AV} {f : Nat → Int} {code v : Int} (p0 : Int) (p1 : Int) (p2 : Int) (hW : W[0]? = some (cO 10 fs)) (hf : W1[844]? = some (cP 2 1 f)) (hM : am_Out S zX11_light d 1 [aR 0, aI p0, aI p1, aI p2] W (am_oc code v) W1) (hc : code = 0 ∨ code = 2 ∨ code = 3) : am_OutW S zL_light (d + 1) 1 [aR 0, aI p0, aI p1, aI p2, aR 844] W (.inl (some (aI (if code = 0 then 0 else if code = 2 then 1 else 2)))) (if code = 0 then W1.set 844 (cP 2 1 (am_up f 0 v)) else W1) := by
  refine am_bodyW (by decide +kernel) rfl (am_cats_cons rfl (am_cats_cons rfl (am_cats_cons rfl (am_cats_cons rfl (am_cats_cons rfl (am_cats_nil)))))) (Nat.le_of_ble_eq_true rfl) (?_ : am_T _ _ _ _ _ 0 [some (aR 0), some (aI p0), some (aI p1), some (aI p2), some (aR 844), none] [] W)
  refine T_aload (am_dec tL_light_0 0 rfl) rfl ?_
  refine T_iconst 0 (am_dec tL_light_0 1 rfl) rfl ⟨by decide, by decide⟩ ?_
  refine T_aload_n (am_dec tL_light_0 2 rfl) rfl ?_
  refine T_iload_n (am_dec tL_light_0 3 rfl) rfl ?_
  refine T_iload_n (am_dec tL_light_0 4 rfl) rfl ?_
  refine T_iload_n (am_dec tL_light_0 5 rfl) rfl ?_
  refine T_wrap (d' := d) (as := [aI p0, aI p1, aI p2]) rfl (am_dec tL_light_0 6 rfl) lkL_139 hW rfl rfl (Nat.le_of_ble_eq_true rfl) (Nat.le_refl _) (Nat.le_refl _) hM (fun k hk => ?_) (by omega) (fun h0 => ?_)
  · by_cases e : code = 2
    · have ek : k = 1 := by omega
      subst ek
      exact ⟨1, ⟨by decide, by decide⟩, ⟨[], (0, 12, 15, 34), [(0, 12, 19, 13)], 5, rfl, (fun r hr => by cases hr), by decide, by decide, am_m5 100 rfl rfl, by decide, Or.inl ⟨(am_dec tL_light_0 10 rfl), (am_dec tL_light_0 11 rfl), (am_dec tL_light_0 12 rfl)⟩⟩, by rw [if_neg (show ¬ code = 0 by omega), if_neg (show ¬ code = 0 by omega), if_pos e]; exact ⟨rfl, rfl⟩⟩
    · have ek : k = 2 := by omega
      subst ek
      exact ⟨2, ⟨by decide, by decide⟩, ⟨[(0, 12, 15, 34)], (0, 12, 19, 13), [], 5, rfl, (fun r hr => by
      rw [List.mem_singleton.mp hr]
      exact ⟨by decide, 1, by decide, by decide, am_m5 100 rfl rfl⟩), by decide, by decide, am_m3 199 rfl rfl, by decide, Or.inl ⟨(am_dec tL_light_0 13 rfl), (am_dec tL_light_0 14 rfl), (am_dec tL_light_0 15 rfl)⟩⟩, by rw [if_neg (show ¬ code = 0 by omega), if_neg (show ¬ code = 0 by omega), if_neg e]; exact ⟨rfl, rfl⟩⟩
  · refine T_i2l (am_dec tL_light_0 7 rfl) ?_
    refine T_lastore (n := 1) (f := f) (am_dec tL_light_0 8 rfl) hf (by decide) (by decide) ?_
    refine T_goto 23 (am_dec tL_light_0 9 rfl) rfl ?_
    refine T_iconst 0 (am_dec tL_light_0 16 rfl) rfl ⟨by decide, by decide⟩ ?_
    exact T_ireturn (am_dec tL_light_0 17 rfl) rfl (by rw [if_pos h0, if_pos h0]; exact ⟨rfl, rfl⟩)
theorem wr_asked {S : am_S} {d : Nat} {W W1 : AH} {fs : List AV} {f : Nat → Int} {code v : Int} (p0 : Int) (p1 : Int) (p2 : Int) (p3 : Int) (hW : W[0]? = some (cO 10 fs)) (hf : W1[844]? = some (cP 2 1 f)) (hM : am_Out S zX11_asked d 1 [aR 0, aI p0, aI p1, aI p2, aI p3] W (am_oc code v) W1) (hc : code = 0 ∨ code = 2 ∨ code = 3) : am_OutW S zL_asked (d + 1) 1 [aR 0, aI p0, aI p1, aI p2, aI p3, aR 844] W (.inl (some (aI (if code = 0 then 0 else if code = 2 then 1 else 2)))) (if code = 0 then W1.set 844 (cP 2 1 (am_up f 0 v)) else W1) := by
  refine am_bodyW (by decide +kernel) rfl (am_cats_cons rfl (am_cats_cons rfl (am_cats_cons rfl (am_cats_cons rfl (am_cats_cons rfl (am_cats_cons rfl (am_cats_nil))))))) (Nat.le_of_ble_eq_true rfl) (?_ : am_T _ _ _ _ _ 0 [some (aR 0), some (aI p0), some (aI p1), some (aI p2), some (aI p3), some (aR 844), none] [] W)
  refine T_aload (am_dec tL_asked_0 0 rfl) rfl ?_
  refine T_iconst 0 (am_dec tL_asked_0 1 rfl) rfl ⟨by decide, by decide⟩ ?_
  refine T_aload_n (am_dec tL_asked_0 2 rfl) rfl ?_
  refine T_iload_n (am_dec tL_asked_0 3 rfl) rfl ?_
  refine T_iload_n (am_dec tL_asked_0 4 rfl) rfl ?_
  refine T_iload_n (am_dec tL_asked_0 5 rfl) rfl ?_
  refine T_iload (am_dec tL_asked_0 6 rfl) rfl ?_
  refine T_wrap (d' := d) (as := [aI p0, aI p1, aI p2, aI p3]) rfl (am_dec tL_asked_0 7 rfl) lkL_142 hW rfl rfl (Nat.le_of_ble_eq_true rfl) (Nat.le_refl _) (Nat.le_refl _) hM (fun k hk => ?_) (by omega) (fun h0 => ?_)
  · by_cases e : code = 2
    · have ek : k = 1 := by omega
      subst ek
      exact ⟨1, ⟨by decide, by decide⟩, ⟨[], (0, 14, 17, 34), [(0, 14, 21, 13)], 6, rfl, (fun r hr => by cases hr), by decide, by decide, am_m5 100 rfl rfl, by decide, Or.inl ⟨(am_dec tL_asked_0 11 rfl), (am_dec tL_asked_0 12 rfl), (am_dec tL_asked_0 13 rfl)⟩⟩, by rw [if_neg (show ¬ code = 0 by omega), if_neg (show ¬ code = 0 by omega), if_pos e]; exact ⟨rfl, rfl⟩⟩
    · have ek : k = 2 := by omega
      subst ek
      exact ⟨2, ⟨by decide, by decide⟩, ⟨[(0, 14, 17, 34)], (0, 14, 21, 13), [], 6, rfl, (fun r hr => by
      rw [List.mem_singleton.mp hr]
      exact ⟨by decide, 1, by decide, by decide, am_m5 100 rfl rfl⟩), by decide, by decide, am_m3 199 rfl rfl, by decide, Or.inl ⟨(am_dec tL_asked_0 14 rfl), (am_dec tL_asked_0 15 rfl), (am_dec tL_asked_0 16 rfl)⟩⟩, by rw [if_neg (show ¬ code = 0 by omega), if_neg (show ¬ code = 0 by omega), if_neg e]; exact ⟨rfl, rfl⟩⟩
  · refine T_i2l (am_dec tL_asked_0 8 rfl) ?_
    refine T_lastore (n := 1) (f := f) (am_dec tL_asked_0 9 rfl) hf (by decide) (by decide) ?_
    refine T_goto 25 (am_dec tL_asked_0 10 rfl) rfl ?_
    refine T_iconst 0 (am_dec tL_asked_0 17 rfl) rfl ⟨by decide, by decide⟩ ?_
    exact T_ireturn (am_dec tL_asked_0 18 rfl) rfl (by rw [if_pos h0, if_pos h0]; exact ⟨rfl, rfl⟩)
theorem wr_calm {S : am_S} {d : Nat} {W W1 : AH} {fs : List AV} {f : Nat → Int} {code v : Int} (p0 : Int) (hW : W[0]? = some (cO 10 fs)) (hf : W1[844]? = some (cP 2 1 f)) (hM : am_Out S zX11_calm d 1 [aR 0, aI p0] W (am_oc code v) W1) (hc : code = 0 ∨ code = 3) : am_OutW S zL_calm (d + 1) 1 [aR 0, aI p0, aR 844] W (.inl (some (aI (if code = 0 then 0 else if code = 3 then 1 else 2)))) (if code = 0 then W1.set 844 (cP 2 1 (am_up f 0 v)) else W1) := by
  refine am_bodyW (by decide +kernel) rfl (am_cats_cons rfl (am_cats_cons rfl (am_cats_cons rfl (am_cats_nil)))) (Nat.le_of_ble_eq_true rfl) (?_ : am_T _ _ _ _ _ 0 [some (aR 0), some (aI p0), some (aR 844), none] [] W)
  refine T_aload_n (am_dec tL_calm_0 0 rfl) rfl ?_
  refine T_iconst 0 (am_dec tL_calm_0 1 rfl) rfl ⟨by decide, by decide⟩ ?_
  refine T_aload_n (am_dec tL_calm_0 2 rfl) rfl ?_
  refine T_iload_n (am_dec tL_calm_0 3 rfl) rfl ?_
  refine T_wrap (d' := d) (as := [aI p0]) rfl (am_dec tL_calm_0 4 rfl) lkL_145 hW rfl rfl (Nat.le_of_ble_eq_true rfl) (Nat.le_refl _) (Nat.le_refl _) hM (fun k hk => ?_) (by omega) (fun h0 => ?_)
  · have ek : k = 2 := by omega
    subst ek
    exact ⟨1, ⟨by decide, by decide⟩, ⟨[], (0, 9, 12, 13), [], 3, rfl, (fun r hr => by cases hr), by decide, by decide, am_m3 199 rfl rfl, by decide, Or.inr ⟨3, rfl, (am_dec tL_calm_0 8 rfl), (am_dec tL_calm_0 9 rfl), (am_dec tL_calm_0 10 rfl)⟩⟩, by rw [if_neg (show ¬ code = 0 by omega), if_neg (show ¬ code = 0 by omega), if_pos (show code = 3 by omega)]; exact ⟨rfl, rfl⟩⟩
  · refine T_i2l (am_dec tL_calm_0 5 rfl) ?_
    refine T_lastore (n := 1) (f := f) (am_dec tL_calm_0 6 rfl) hf (by decide) (by decide) ?_
    refine T_goto 15 (am_dec tL_calm_0 7 rfl) rfl ?_
    refine T_iconst 0 (am_dec tL_calm_0 11 rfl) rfl ⟨by decide, by decide⟩ ?_
    exact T_ireturn (am_dec tL_calm_0 12 rfl) rfl (by rw [if_pos h0, if_pos h0]; exact ⟨rfl, rfl⟩)
theorem wr_thick {S : am_S} {d : Nat} {W W1 : AH} {fs : List AV} {f : Nat → Int} {code v : Int} (p0 : Int) (hW : W[0]? = some (cO 10 fs)) (hf : W1[844]? = some (cP 2 1 f)) (hM : am_Out S zX11_thick d 1 [aR 0, aI p0] W (am_oc code v) W1) (hc : code = 0 ∨ code = 3) : am_OutW S zL_thick (d + 1) 1 [aR 0, aI p0, aR 844] W (.inl (some (aI (if code = 0 then 0 else if code = 3 then 1 else 2)))) (if code = 0 then W1.set 844 (cP 2 1 (am_up f 0 v)) else W1) := by
  refine am_bodyW (by decide +kernel) rfl (am_cats_cons rfl (am_cats_cons rfl (am_cats_cons rfl (am_cats_nil)))) (Nat.le_of_ble_eq_true rfl) (?_ : am_T _ _ _ _ _ 0 [some (aR 0), some (aI p0), some (aR 844), none] [] W)
  refine T_aload_n (am_dec tL_thick_0 0 rfl) rfl ?_
  refine T_iconst 0 (am_dec tL_thick_0 1 rfl) rfl ⟨by decide, by decide⟩ ?_
  refine T_aload_n (am_dec tL_thick_0 2 rfl) rfl ?_
  refine T_iload_n (am_dec tL_thick_0 3 rfl) rfl ?_
  refine T_wrap (d' := d) (as := [aI p0]) rfl (am_dec tL_thick_0 4 rfl) lkL_148 hW rfl rfl (Nat.le_of_ble_eq_true rfl) (Nat.le_refl _) (Nat.le_refl _) hM (fun k hk => ?_) (by omega) (fun h0 => ?_)
  · have ek : k = 2 := by omega
    subst ek
    exact ⟨1, ⟨by decide, by decide⟩, ⟨[], (0, 9, 12, 13), [], 3, rfl, (fun r hr => by cases hr), by decide, by decide, am_m3 199 rfl rfl, by decide, Or.inr ⟨3, rfl, (am_dec tL_thick_0 8 rfl), (am_dec tL_thick_0 9 rfl), (am_dec tL_thick_0 10 rfl)⟩⟩, by rw [if_neg (show ¬ code = 0 by omega), if_neg (show ¬ code = 0 by omega), if_pos (show code = 3 by omega)]; exact ⟨rfl, rfl⟩⟩
  · refine T_i2l (am_dec tL_thick_0 5 rfl) ?_
    refine T_lastore (n := 1) (f := f) (am_dec tL_thick_0 6 rfl) hf (by decide) (by decide) ?_
    refine T_goto 15 (am_dec tL_thick_0 7 rfl) rfl ?_
    refine T_iconst 0 (am_dec tL_thick_0 11 rfl) rfl ⟨by decide, by decide⟩ ?_
    exact T_ireturn (am_dec tL_thick_0 12 rfl) rfl (by rw [if_pos h0, if_pos h0]; exact ⟨rfl, rfl⟩)
theorem wr_hid {S : am_S} {d : Nat} {W W1 : AH} {fs : List AV} {f : Nat → Int} {code v : Int} (p0 : Int) (hW : W[0]? = some (cO 10 fs)) (hf : W1[844]? = some (cP 2 1 f)) (hM : am_Out S zX11_hid d 1 [aR 0, aI p0] W (am_oc code v) W1) (hc : code = 0 ∨ code = 2) : am_OutW S zL_hid (d + 1) 1 [aR 0, aI p0, aR 844] W (.inl (some (aI (if code = 0 then 0 else if code = 2 then 1 else 2)))) (if code = 0 then W1.set 844 (cP 2 1 (am_up f 0 v)) else W1) := by
  refine am_bodyW (by decide +kernel) rfl (am_cats_cons rfl (am_cats_cons rfl (am_cats_cons rfl (am_cats_nil)))) (Nat.le_of_ble_eq_true rfl) (?_ : am_T _ _ _ _ _ 0 [some (aR 0), some (aI p0), some (aR 844), none] [] W)
  refine T_aload_n (am_dec tL_hid_0 0 rfl) rfl ?_
  refine T_iconst 0 (am_dec tL_hid_0 1 rfl) rfl ⟨by decide, by decide⟩ ?_
  refine T_aload_n (am_dec tL_hid_0 2 rfl) rfl ?_
  refine T_iload_n (am_dec tL_hid_0 3 rfl) rfl ?_
  refine T_wrap (d' := d) (as := [aI p0]) rfl (am_dec tL_hid_0 4 rfl) lkL_151 hW rfl rfl (Nat.le_of_ble_eq_true rfl) (Nat.le_refl _) (Nat.le_refl _) hM (fun k hk => ?_) (by omega) (fun h0 => ?_)
  · have ek : k = 1 := by omega
    subst ek
    exact ⟨1, ⟨by decide, by decide⟩, ⟨[], (0, 9, 12, 34), [], 3, rfl, (fun r hr => by cases hr), by decide, by decide, am_m5 100 rfl rfl, by decide, Or.inr ⟨3, rfl, (am_dec tL_hid_0 8 rfl), (am_dec tL_hid_0 9 rfl), (am_dec tL_hid_0 10 rfl)⟩⟩, by rw [if_neg (show ¬ code = 0 by omega), if_neg (show ¬ code = 0 by omega), if_pos (show code = 2 by omega)]; exact ⟨rfl, rfl⟩⟩
  · refine T_i2l (am_dec tL_hid_0 5 rfl) ?_
    refine T_lastore (n := 1) (f := f) (am_dec tL_hid_0 6 rfl) hf (by decide) (by decide) ?_
    refine T_goto 15 (am_dec tL_hid_0 7 rfl) rfl ?_
    refine T_iconst 0 (am_dec tL_hid_0 11 rfl) rfl ⟨by decide, by decide⟩ ?_
    exact T_ireturn (am_dec tL_hid_0 12 rfl) rfl (by rw [if_pos h0, if_pos h0]; exact ⟨rfl, rfl⟩)
