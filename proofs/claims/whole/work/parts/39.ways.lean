/-! Eyes' reckoning of ways -/
def eyC (e : Nat) (g : am_F) : Nat → AC
  | 0 => cO 2 [aR (e + 1), aR (e + 2)]
  | 1 => cP 0 90 (g 0)
  | _ => cP 0 90 (g 1)
def eyW (w : AH) (e : Nat) (g : am_F) : AH := am_ov w e 3 (eyC e g)
theorem eyW_c {w : AH} {e : Nat} {g : am_F} (hl : e + 3 ≤ w.length) (k : Nat) (hk : k < 3) : (eyW w e g)[e + k]? = some (eyC e g k) := am_ovi hl k hk
theorem eyW_Rn {w : AH} {e b hb : Nat} {g r : am_F} (hd : b + 10 ≤ e ∨ e + 3 ≤ b) (hR : Rn w b hb r) : Rn (eyW w e g) b hb r := fun k hk => by
  unfold eyW
  rw [am_ovo (b + k) (by omega)]
  exact hR k hk
theorem eyW_Hb {w : AH} {e c : Nat} {g h : am_F} (hd : c + 20 ≤ e ∨ e + 3 ≤ c) (hH : Hb w c h) : Hb (eyW w e g) c h := fun k hk => by
  unfold eyW
  rw [am_ovo (c + k) (by omega)]
  exact hH k hk
def f_before (h g : am_F) (x y : Int) : Int := if f_has h x y ≠ 0 ∧ x + 10 * y < 90 then g 1 (x + 10 * y).toNat else 1000000
def EyB (g : am_F) (k : Nat) : Prop := ∀ j, 0 ≤ g k j ∧ g k j ≤ 1000099
theorem f_before_b {h g : am_F} (hg : EyB g 1) (x y : Int) : 0 ≤ f_before h g x y ∧ f_before h g x y ≤ 1000099 := by
  unfold f_before
  split
  · exact hg _
  · omega
theorem eyW_p1 {w : AH} {e : Nat} {g : am_F} {i : Nat} {v : Int} : (eyW w e g).set (e + 1) (cP 0 90 (am_up (g 0) i v)) = eyW w e (am_put g 0 i v) := am_ovset 1 (by decide) (fun j hj => match j, hj with | 0, _ => rfl | 1, _ => rfl | 2, _ => rfl | n + 3, h => absurd h (by omega))
theorem eyW_r1 {w : AH} {e : Nat} {g : am_F} {f : Nat → Int} : (eyW w e g).set (e + 1) (cP 0 90 f) = eyW w e (am_row g 0 f) := am_ovset 1 (by decide) (fun j hj => match j, hj with | 0, _ => rfl | 1, _ => rfl | 2, _ => rfl | n + 3, h => absurd h (by omega))
theorem eyW_p2 {w : AH} {e : Nat} {g : am_F} {i : Nat} {v : Int} : (eyW w e g).set (e + 2) (cP 0 90 (am_up (g 1) i v)) = eyW w e (am_put g 1 i v) := am_ovset 2 (by decide) (fun j hj => match j, hj with | 0, _ => rfl | 1, _ => rfl | 2, _ => rfl | n + 3, h => absurd h (by omega))
theorem eyW_r2 {w : AH} {e : Nat} {g : am_F} {f : Nat → Int} : (eyW w e g).set (e + 2) (cP 0 90 f) = eyW w e (am_row g 1 f) := am_ovset 2 (by decide) (fun j hj => match j, hj with | 0, _ => rfl | 1, _ => rfl | 2, _ => rfl | n + 3, h => absurd h (by omega))
theorem m_before {S : am_S} {d u : Nat} {w : AH} {e b hb : Nat} {g r h : am_F} (hl : e + 3 ≤ w.length) (hx1 : b + 10 ≤ e ∨ e + 3 ≤ b) (hx2 : hb + 20 ≤ e ∨ e + 3 ≤ hb) (hR : Rn w b hb r) (hH : Hb w hb h) (hV : HbV h) (x y : Int) (hxy : -2 ≤ x ∧ x ≤ 20 ∧ -2 ≤ y ∧ y ≤ 20) (hd : 1 ≤ d) : am_Out S zX2_before d u [aR e, aR hb, aI x, aI y] (eyW w e g) (.inl (some (aI (f_before h g x y)))) (eyW w e g) := by
  refine am_body rfl (by decide +kernel) rfl (am_cats_cons rfl ( am_cats_cons rfl ( am_cats_cons rfl ( am_cats_cons rfl (am_cats_nil))))) (Nat.le_of_ble_eq_true rfl) (?_ : am_T _ _ _ _ _ 0 [some (aR e), some (aR hb), some (aI x), some (aI y), none] [] (eyW w e g))
  have hV9 := hV
  obtain ⟨v1, v2, v3, v4, v5, v6, v7, v8, v9, v10, v11, v12, v13, v14, v15, v16, v17, v18, v19, v20, v21, v22⟩ := hV9
  refine T_iload_n (am_dec tX2_before_0 0 rfl) rfl ?_
  refine T_bipush 10 (am_dec tX2_before_0 1 rfl) rfl ⟨by decide, by decide⟩ ?_
  refine T_iload_n (am_dec tX2_before_0 2 rfl) rfl ?_
  refine T_imul (10 * y) (am_dec tX2_before_0 3 rfl) rfl ⟨by omega, by omega⟩ ?_
  refine T_iadd (x + (10 * y)) (am_dec tX2_before_0 4 rfl) rfl ⟨by omega, by omega⟩ ?_
  refine T_istore (ls' := [some (aR e), some (aR hb), some (aI x), some (aI y), some (aI (x + (10 * y)))]) (am_dec tX2_before_0 5 rfl) (by decide) rfl ?_
  refine T_aload_n (am_dec tX2_before_0 6 rfl) rfl ?_
  refine T_iload_n (am_dec tX2_before_0 7 rfl) rfl ?_
  refine T_iload_n (am_dec tX2_before_0 8 rfl) rfl ?_
  refine T_callV (as := [aI x, aI y]) rfl (am_dec tX2_before_0 9 rfl) lkX2_120 ((eyW_Hb hx2 hH) 0 (by decide)) rfl rfl (Nat.le_of_ble_eq_true rfl) (by omega) (m_has (eyW_Hb hx2 hH) x y) (fun _ => ?_)
  obtain ⟨e11, he11⟩ : ∃ x9 : Int, x9 = f_has h x y := ⟨_, rfl⟩
  rw [← he11]
  unfold f_has at he11
  refine T_if_eq 34 (am_dec tX2_before_0 10 rfl) rfl (fun h14 => ?_) (fun h14 => ?_)
  · refine T_ldc 1000000 (am_dec tX2_before_0 19 rfl) (am_m6 3 rfl rfl) ⟨by decide, by decide⟩ ?_
    exact T_ireturn (am_dec tX2_before_0 20 rfl) rfl (am_outI (by unfold f_before; first | (rw [if_pos (by unfold f_has; omega)]; done) | (rw [if_neg (by unfold f_has; omega)]; done)))
  · refine T_iload (am_dec tX2_before_0 11 rfl) rfl ?_
    refine T_bipush 90 (am_dec tX2_before_0 12 rfl) rfl ⟨by decide, by decide⟩ ?_
    refine T_icmp_ge 34 (am_dec tX2_before_0 13 rfl) rfl (fun h21 => ?_) (fun h21 => ?_)
    · refine T_ldc 1000000 (am_dec tX2_before_0 19 rfl) (am_m6 3 rfl rfl) ⟨by decide, by decide⟩ ?_
      exact T_ireturn (am_dec tX2_before_0 20 rfl) rfl (am_outI (by unfold f_before; first | (rw [if_pos (by unfold f_has; omega)]; done) | (rw [if_neg (by unfold f_has; omega)]; done)))
    · refine T_aload_n (am_dec tX2_before_0 14 rfl) rfl ?_
      refine T_getfield 2 1 (am_dec tX2_before_0 15 rfl) flX2_15_2 (show (eyW w e g)[e]? = some (cO 2 [aR (e + 1), aR (e + 2)]) from eyW_c hl 0 (by decide)) rfl ?_
      refine T_iload (am_dec tX2_before_0 16 rfl) rfl ?_
      refine T_iaload (am_dec tX2_before_0 17 rfl) (show (eyW w e g)[e + 2]? = some (cP 0 90 (g 1)) from eyW_c hl 2 (by decide)) (by omega) (by omega) ?_
      refine T_goto 36 (am_dec tX2_before_0 18 rfl) rfl ?_
      exact T_ireturn (am_dec tX2_before_0 20 rfl) rfl (am_outI (by unfold f_before; first | (rw [if_pos (by unfold f_has; omega)]; done) | (rw [if_neg (by unfold f_has; omega)]; done)))
def am_mn (a b : Int) : Int := if b < a then b else a
def f_least5 (h g : am_F) (x y : Int) : Int := am_mn (am_mn (am_mn (am_mn (f_before h g x y) (f_before h g (x - 1) y)) (f_before h g (x + 1) y)) (f_before h g x (y - 1))) (f_before h g x (y + 1))
def g_movex (r h : am_F) (s y x : Int) (g : am_F) : am_F := am_put g 0 (x + 10 * y).toNat (if f_least5 h g x y < 1000000 then f_least5 h g x y + f_need r h (x + 10 * y) s else 1000000)
def g_move (r h : am_F) (s y : Int) (g : am_F) : am_F := am_fold (g_movex r h s y) 0 (h 0 0).toNat g
def f_move (r h : am_F) (s : Int) (g : am_F) : am_F := am_fold (g_move r h s) 0 (h 0 1).toNat (am_row g 1 (am_cpy (g 0) (g 1) (0 : Int).toNat (0 : Int).toNat (90 : Int).toNat))
theorem L_movex {S : am_S} {d u : Nat} {Q : AO → AH → Prop} {w : AH} {e b hb : Nat} {r h : am_F} (hl : e + 3 ≤ w.length) (hx1 : b + 10 ≤ e ∨ e + 3 ≤ b) (hx2 : hb + 20 ≤ e ∨ e + 3 ≤ hb) (hR : Rn w b hb r) (hH : Hb w hb h) (hV : HbV h) (hF : RnF r) (hW : HbW h) (hCo : CoB h) (hWt : WtB h) (s y : Int) (hy : 0 ≤ y ∧ y < h 0 1) (hd : 6 ≤ d) : ∀ (n : Nat) (x : Int) (g : am_F), x + n = h 0 0 → 0 ≤ x → EyB g 0 ∧ EyB g 1 → (∀ (g' : am_F), g' = am_fold (g_movex r h s y) x n g → EyB g' 0 ∧ EyB g' 1 → am_T S zX2_moveOn d u Q 179 [some (aR e), some (aR b), some (aI s), some (aR hb), some (aI y), some (aI (h 0 0)), none, none] [] (eyW w e g')) → am_T S zX2_moveOn d u Q 35 [some (aR e), some (aR b), some (aI s), some (aR hb), some (aI y), some (aI x), none, none] [] (eyW w e g) := by
  have hV9 := hV
  obtain ⟨v1, v2, v3, v4, v5, v6, v7, v8, v9, v10, v11, v12, v13, v14, v15, v16, v17, v18, v19, v20, v21, v22⟩ := hV9
  intro n
  induction n with
  | zero =>
    intro x g hi9 h0i hinv k9
    obtain ⟨i1, i2⟩ := hinv
    have hinv := And.intro i1 i2
    refine T_iload (am_dec tX2_moveOn_0 19 rfl) rfl ?_
    refine T_aload_n (am_dec tX2_moveOn_0 20 rfl) rfl ?_
    refine T_getfield 3 0 (am_dec tX2_moveOn_0 21 rfl) flX2_110_3 ((eyW_Hb hx2 hH) 0 (by decide)) rfl ?_
    refine T_icmp_ge 179 (am_dec tX2_moveOn_0 22 rfl) rfl (fun h41 => ?_) (fun h41 => by exfalso; omega)
    have e9 : x = h 0 0 := by omega
    rw [← e9] at k9
    exact k9 g rfl (by first | exact hinv | omega)
  | succ n ih =>
    intro x g hi9 h0i hinv k9
    obtain ⟨i1, i2⟩ := hinv
    have hinv := And.intro i1 i2
    refine T_iload (am_dec tX2_moveOn_0 19 rfl) rfl ?_
    refine T_aload_n (am_dec tX2_moveOn_0 20 rfl) rfl ?_
    refine T_getfield 3 0 (am_dec tX2_moveOn_0 21 rfl) flX2_110_3 ((eyW_Hb hx2 hH) 0 (by decide)) rfl ?_
    refine T_icmp_ge 179 (am_dec tX2_moveOn_0 22 rfl) rfl (fun h41 => by exfalso; omega) (fun h41 => ?_)
    refine T_aload_n (am_dec tX2_moveOn_0 23 rfl) rfl ?_
    refine T_aload_n (am_dec tX2_moveOn_0 24 rfl) rfl ?_
    refine T_iload (am_dec tX2_moveOn_0 25 rfl) rfl ?_
    refine T_iload (am_dec tX2_moveOn_0 26 rfl) rfl ?_
    have bf50 := f_before_b (h := h) (g := g) i2 x y
    refine T_callV (as := [aR hb, aI x, aI y]) rfl (am_dec tX2_moveOn_0 27 rfl) lkX2_113 (show (eyW w e g)[e]? = some (cO 2 [aR (e + 1), aR (e + 2)]) from eyW_c hl 0 (by decide)) rfl rfl (Nat.le_of_ble_eq_true rfl) (by omega) (m_before hl hx1 hx2 hR hH hV x y (by omega) (by omega)) (fun _ => ?_)
    refine T_istore (ls' := [some (aR e), some (aR b), some (aI s), some (aR hb), some (aI y), some (aI x), some (aI (f_before h g x y)), none]) (am_dec tX2_moveOn_0 28 rfl) (by decide) rfl ?_
    refine T_iload (am_dec tX2_moveOn_0 29 rfl) rfl ?_
    refine T_aload_n (am_dec tX2_moveOn_0 30 rfl) rfl ?_
    refine T_aload_n (am_dec tX2_moveOn_0 31 rfl) rfl ?_
    refine T_iload (am_dec tX2_moveOn_0 32 rfl) rfl ?_
    refine T_iconst 1 (am_dec tX2_moveOn_0 33 rfl) rfl ⟨by decide, by decide⟩ ?_
    refine T_isub (x - 1) (am_dec tX2_moveOn_0 34 rfl) rfl ⟨by omega, by omega⟩ ?_
    refine T_iload (am_dec tX2_moveOn_0 35 rfl) rfl ?_
    have bf65 := f_before_b (h := h) (g := g) i2 (x - 1) y
    refine T_callV (as := [aR hb, aI (x - 1), aI y]) rfl (am_dec tX2_moveOn_0 36 rfl) lkX2_113 (show (eyW w e g)[e]? = some (cO 2 [aR (e + 1), aR (e + 2)]) from eyW_c hl 0 (by decide)) rfl rfl (Nat.le_of_ble_eq_true rfl) (by omega) (m_before hl hx1 hx2 hR hH hV (x - 1) y (by omega) (by omega)) (fun _ => ?_)
    refine T_mmin (am_dec tX2_moveOn_0 37 rfl) lkX2_117 (Nat.le_of_ble_eq_true rfl) (by omega) ?_
    obtain ⟨m68, hm68⟩ : ∃ x9 : Int, x9 = (if f_before h g (x - 1) y < f_before h g x y then f_before h g (x - 1) y else f_before h g x y) := ⟨_, rfl⟩
    rw [← hm68]
    refine T_istore (ls' := [some (aR e), some (aR b), some (aI s), some (aR hb), some (aI y), some (aI x), some (aI m68), none]) (am_dec tX2_moveOn_0 38 rfl) (by decide) rfl ?_
    refine T_iload (am_dec tX2_moveOn_0 39 rfl) rfl ?_
    refine T_aload_n (am_dec tX2_moveOn_1 0 rfl) rfl ?_
    refine T_aload_n (am_dec tX2_moveOn_1 1 rfl) rfl ?_
    refine T_iload (am_dec tX2_moveOn_1 2 rfl) rfl ?_
    refine T_iconst 1 (am_dec tX2_moveOn_1 3 rfl) rfl ⟨by decide, by decide⟩ ?_
    refine T_iadd (x + 1) (am_dec tX2_moveOn_1 4 rfl) rfl ⟨by omega, by omega⟩ ?_
    refine T_iload (am_dec tX2_moveOn_1 5 rfl) rfl ?_
    have bf83 := f_before_b (h := h) (g := g) i2 (x + 1) y
    refine T_callV (as := [aR hb, aI (x + 1), aI y]) rfl (am_dec tX2_moveOn_1 6 rfl) lkX2_113 (show (eyW w e g)[e]? = some (cO 2 [aR (e + 1), aR (e + 2)]) from eyW_c hl 0 (by decide)) rfl rfl (Nat.le_of_ble_eq_true rfl) (by omega) (m_before hl hx1 hx2 hR hH hV (x + 1) y (by omega) (by omega)) (fun _ => ?_)
    refine T_mmin (am_dec tX2_moveOn_1 7 rfl) lkX2_117 (Nat.le_of_ble_eq_true rfl) (by omega) ?_
    obtain ⟨m86, hm86⟩ : ∃ x9 : Int, x9 = (if f_before h g (x + 1) y < m68 then f_before h g (x + 1) y else m68) := ⟨_, rfl⟩
    rw [← hm86]
    refine T_istore (ls' := [some (aR e), some (aR b), some (aI s), some (aR hb), some (aI y), some (aI x), some (aI m86), none]) (am_dec tX2_moveOn_1 8 rfl) (by decide) rfl ?_
    refine T_iload (am_dec tX2_moveOn_1 9 rfl) rfl ?_
    refine T_aload_n (am_dec tX2_moveOn_1 10 rfl) rfl ?_
    refine T_aload_n (am_dec tX2_moveOn_1 11 rfl) rfl ?_
    refine T_iload (am_dec tX2_moveOn_1 12 rfl) rfl ?_
    refine T_iload (am_dec tX2_moveOn_1 13 rfl) rfl ?_
    refine T_iconst 1 (am_dec tX2_moveOn_1 14 rfl) rfl ⟨by decide, by decide⟩ ?_
    refine T_isub (y - 1) (am_dec tX2_moveOn_1 15 rfl) rfl ⟨by omega, by omega⟩ ?_
    have bf101 := f_before_b (h := h) (g := g) i2 x (y - 1)
    refine T_callV (as := [aR hb, aI x, aI (y - 1)]) rfl (am_dec tX2_moveOn_1 16 rfl) lkX2_113 (show (eyW w e g)[e]? = some (cO 2 [aR (e + 1), aR (e + 2)]) from eyW_c hl 0 (by decide)) rfl rfl (Nat.le_of_ble_eq_true rfl) (by omega) (m_before hl hx1 hx2 hR hH hV x (y - 1) (by omega) (by omega)) (fun _ => ?_)
    refine T_mmin (am_dec tX2_moveOn_1 17 rfl) lkX2_117 (Nat.le_of_ble_eq_true rfl) (by omega) ?_
    obtain ⟨m104, hm104⟩ : ∃ x9 : Int, x9 = (if f_before h g x (y - 1) < m86 then f_before h g x (y - 1) else m86) := ⟨_, rfl⟩
    rw [← hm104]
    refine T_istore (ls' := [some (aR e), some (aR b), some (aI s), some (aR hb), some (aI y), some (aI x), some (aI m104), none]) (am_dec tX2_moveOn_1 18 rfl) (by decide) rfl ?_
    refine T_iload (am_dec tX2_moveOn_1 19 rfl) rfl ?_
    refine T_aload_n (am_dec tX2_moveOn_1 20 rfl) rfl ?_
    refine T_aload_n (am_dec tX2_moveOn_1 21 rfl) rfl ?_
    refine T_iload (am_dec tX2_moveOn_1 22 rfl) rfl ?_
    refine T_iload (am_dec tX2_moveOn_1 23 rfl) rfl ?_
    refine T_iconst 1 (am_dec tX2_moveOn_1 24 rfl) rfl ⟨by decide, by decide⟩ ?_
    refine T_iadd (y + 1) (am_dec tX2_moveOn_1 25 rfl) rfl ⟨by omega, by omega⟩ ?_
    have bf119 := f_before_b (h := h) (g := g) i2 x (y + 1)
    refine T_callV (as := [aR hb, aI x, aI (y + 1)]) rfl (am_dec tX2_moveOn_1 26 rfl) lkX2_113 (show (eyW w e g)[e]? = some (cO 2 [aR (e + 1), aR (e + 2)]) from eyW_c hl 0 (by decide)) rfl rfl (Nat.le_of_ble_eq_true rfl) (by omega) (m_before hl hx1 hx2 hR hH hV x (y + 1) (by omega) (by omega)) (fun _ => ?_)
    refine T_mmin (am_dec tX2_moveOn_1 27 rfl) lkX2_117 (Nat.le_of_ble_eq_true rfl) (by omega) ?_
    obtain ⟨m122, hm122⟩ : ∃ x9 : Int, x9 = (if f_before h g x (y + 1) < m104 then f_before h g x (y + 1) else m104) := ⟨_, rfl⟩
    rw [← hm122]
    refine T_istore (ls' := [some (aR e), some (aR b), some (aI s), some (aR hb), some (aI y), some (aI x), some (aI m122), none]) (am_dec tX2_moveOn_1 28 rfl) (by decide) rfl ?_
    have e5 : f_least5 h g x y = m122 := by unfold f_least5 am_mn; rw [← hm68, ← hm86, ← hm104, ← hm122]
    refine T_iload (am_dec tX2_moveOn_1 29 rfl) rfl ?_
    refine T_bipush 10 (am_dec tX2_moveOn_1 30 rfl) rfl ⟨by decide, by decide⟩ ?_
    refine T_iload (am_dec tX2_moveOn_1 31 rfl) rfl ?_
    refine T_imul (10 * y) (am_dec tX2_moveOn_1 32 rfl) rfl ⟨by omega, by omega⟩ ?_
    refine T_iadd (x + (10 * y)) (am_dec tX2_moveOn_1 33 rfl) rfl ⟨by omega, by omega⟩ ?_
    refine T_istore (ls' := [some (aR e), some (aR b), some (aI s), some (aR hb), some (aI y), some (aI x), some (aI m122), some (aI (x + (10 * y)))]) (am_dec tX2_moveOn_1 34 rfl) (by decide) rfl ?_
    refine T_iload (am_dec tX2_moveOn_1 35 rfl) rfl ?_
    refine T_bipush 90 (am_dec tX2_moveOn_1 36 rfl) rfl ⟨by decide, by decide⟩ ?_
    refine T_icmp_ge 173 (am_dec tX2_moveOn_1 37 rfl) rfl (fun h141 => by exfalso; omega) (fun h141 => ?_)
    refine T_aload_n (am_dec tX2_moveOn_1 38 rfl) rfl ?_
    refine T_getfield 2 0 (am_dec tX2_moveOn_1 39 rfl) flX2_9_2 (show (eyW w e g)[e]? = some (cO 2 [aR (e + 1), aR (e + 2)]) from eyW_c hl 0 (by decide)) rfl ?_
    refine T_iload (am_dec tX2_moveOn_2 0 rfl) rfl ?_
    refine T_iload (am_dec tX2_moveOn_2 1 rfl) rfl ?_
    refine T_ldc 1000000 (am_dec tX2_moveOn_2 2 rfl) (am_m6 3 rfl rfl) ⟨by decide, by decide⟩ ?_
    refine T_icmp_lt 162 (am_dec tX2_moveOn_2 3 rfl) rfl (fun h154 => ?_) (fun h154 => ?_)
    · refine T_iload (am_dec tX2_moveOn_2 6 rfl) rfl ?_
      refine T_aload_n (am_dec tX2_moveOn_2 7 rfl) rfl ?_
      refine T_iload (am_dec tX2_moveOn_2 8 rfl) rfl ?_
      refine T_iload_n (am_dec tX2_moveOn_2 9 rfl) rfl ?_
      have nd168 := f_need_b hF hV hWt (c := (x + (10 * y))) (by omega) s
      refine T_callS (as := [aR b, aI (x + (10 * y)), aI s]) rfl (am_dec tX2_moveOn_2 10 rfl) lkX2_87 rfl (Nat.le_of_ble_eq_true rfl) (by omega) (m_need (eyW_Rn hx1 hR) (eyW_Hb hx2 hH) hV hF hW hCo hWt (x + (10 * y)) s (by omega) (by omega)) (fun _ => ?_)
      refine T_iadd (m122 + (f_need r h (x + (10 * y)) s)) (am_dec tX2_moveOn_2 11 rfl) rfl ⟨by omega, by omega⟩ ?_
      refine T_iastore (am_dec tX2_moveOn_2 12 rfl) (show (eyW w e g)[e + 1]? = some (cP 0 90 (g 0)) from eyW_c hl 1 (by decide)) (by omega) (by omega) ?_
      refine am_wE (w2 := eyW w e (am_put g 0 ((x + (10 * y)).toNat) (m122 + (f_need r h (x + (10 * y)) s)))) eyW_p1 ?_
      refine T_iinc (ls' := [some (aR e), some (aR b), some (aI s), some (aR hb), some (aI y), some (aI (x + 1)), some (aI m122), some (aI (x + (10 * y)))]) (x + 1) (am_dec tX2_moveOn_2 13 rfl) rfl rfl ⟨by omega, by omega⟩ (by decide) rfl ?_
      refine T_goto 35 (am_dec tX2_moveOn_2 14 rfl) rfl ?_
      refine T_weak (ls' := [some (aR e), some (aR b), some (aI s), some (aR hb), some (aI y), some (aI (x + 1)), none, none]) (am_sub_s (am_sub_s (am_sub_s (am_sub_s (am_sub_s (am_sub_s (am_sub_n (am_sub_n am_sub_nil)))))))) ?_
      have e9 : (g_movex r h s y) x g = (am_put g 0 ((x + (10 * y)).toNat) (m122 + (f_need r h (x + (10 * y)) s))) := (by unfold g_movex; rw [e5]; first | (rw [if_pos (by omega)]; done) | (rw [if_neg (by omega)]; done))
      simp only [am_fold_s, e9] at k9
      exact ih (x + 1) (am_put g 0 ((x + (10 * y)).toNat) (m122 + (f_need r h (x + (10 * y)) s))) (by omega) (by omega) ⟨am_upB i1 (by omega), i2⟩ k9
    · refine T_ldc 1000000 (am_dec tX2_moveOn_2 4 rfl) (am_m6 3 rfl rfl) ⟨by decide, by decide⟩ ?_
      refine T_goto 172 (am_dec tX2_moveOn_2 5 rfl) rfl ?_
      refine T_iastore (am_dec tX2_moveOn_2 12 rfl) (show (eyW w e g)[e + 1]? = some (cP 0 90 (g 0)) from eyW_c hl 1 (by decide)) (by omega) (by omega) ?_
      refine am_wE (w2 := eyW w e (am_put g 0 ((x + (10 * y)).toNat) 1000000)) eyW_p1 ?_
      refine T_iinc (ls' := [some (aR e), some (aR b), some (aI s), some (aR hb), some (aI y), some (aI (x + 1)), some (aI m122), some (aI (x + (10 * y)))]) (x + 1) (am_dec tX2_moveOn_2 13 rfl) rfl rfl ⟨by omega, by omega⟩ (by decide) rfl ?_
      refine T_goto 35 (am_dec tX2_moveOn_2 14 rfl) rfl ?_
      refine T_weak (ls' := [some (aR e), some (aR b), some (aI s), some (aR hb), some (aI y), some (aI (x + 1)), none, none]) (am_sub_s (am_sub_s (am_sub_s (am_sub_s (am_sub_s (am_sub_s (am_sub_n (am_sub_n am_sub_nil)))))))) ?_
      have e9 : (g_movex r h s y) x g = (am_put g 0 ((x + (10 * y)).toNat) 1000000) := (by unfold g_movex; rw [e5]; first | (rw [if_pos (by omega)]; done) | (rw [if_neg (by omega)]; done))
      simp only [am_fold_s, e9] at k9
      exact ih (x + 1) (am_put g 0 ((x + (10 * y)).toNat) 1000000) (by omega) (by omega) ⟨am_upB i1 (by omega), i2⟩ k9
theorem L_move {S : am_S} {d u : Nat} {Q : AO → AH → Prop} {w : AH} {e b hb : Nat} {r h : am_F} (hl : e + 3 ≤ w.length) (hx1 : b + 10 ≤ e ∨ e + 3 ≤ b) (hx2 : hb + 20 ≤ e ∨ e + 3 ≤ hb) (hR : Rn w b hb r) (hH : Hb w hb h) (hV : HbV h) (hF : RnF r) (hW : HbW h) (hCo : CoB h) (hWt : WtB h) (s : Int) (hd : 6 ≤ d) : ∀ (n : Nat) (y : Int) (g : am_F), y + n = h 0 1 → 0 ≤ y → EyB g 0 ∧ EyB g 1 → (∀ (g' : am_F), g' = am_fold (g_move r h s) y n g → EyB g' 0 ∧ EyB g' 1 → am_T S zX2_moveOn d u Q 185 [some (aR e), some (aR b), some (aI s), some (aR hb), some (aI (h 0 1)), none, none, none] [] (eyW w e g')) → am_T S zX2_moveOn d u Q 23 [some (aR e), some (aR b), some (aI s), some (aR hb), some (aI y), none, none, none] [] (eyW w e g) := by
  have hV9 := hV
  obtain ⟨v1, v2, v3, v4, v5, v6, v7, v8, v9, v10, v11, v12, v13, v14, v15, v16, v17, v18, v19, v20, v21, v22⟩ := hV9
  intro n
  induction n with
  | zero =>
    intro y g hi9 h0i hinv k9
    obtain ⟨i1, i2⟩ := hinv
    have hinv := And.intro i1 i2
    refine T_iload (am_dec tX2_moveOn_0 13 rfl) rfl ?_
    refine T_aload_n (am_dec tX2_moveOn_0 14 rfl) rfl ?_
    refine T_getfield 3 1 (am_dec tX2_moveOn_0 15 rfl) flX2_107_3 ((eyW_Hb hx2 hH) 0 (by decide)) rfl ?_
    refine T_icmp_ge 185 (am_dec tX2_moveOn_0 16 rfl) rfl (fun h29 => ?_) (fun h29 => by exfalso; omega)
    have e9 : y = h 0 1 := by omega
    rw [← e9] at k9
    exact k9 g rfl (by first | exact hinv | omega)
  | succ n ih =>
    intro y g hi9 h0i hinv k9
    obtain ⟨i1, i2⟩ := hinv
    have hinv := And.intro i1 i2
    refine T_iload (am_dec tX2_moveOn_0 13 rfl) rfl ?_
    refine T_aload_n (am_dec tX2_moveOn_0 14 rfl) rfl ?_
    refine T_getfield 3 1 (am_dec tX2_moveOn_0 15 rfl) flX2_107_3 ((eyW_Hb hx2 hH) 0 (by decide)) rfl ?_
    refine T_icmp_ge 185 (am_dec tX2_moveOn_0 16 rfl) rfl (fun h29 => by exfalso; omega) (fun h29 => ?_)
    refine T_iconst 0 (am_dec tX2_moveOn_0 17 rfl) rfl ⟨by decide, by decide⟩ ?_
    refine T_istore (ls' := [some (aR e), some (aR b), some (aI s), some (aR hb), some (aI y), some (aI 0), none, none]) (am_dec tX2_moveOn_0 18 rfl) (by decide) rfl ?_
    refine L_movex hl hx1 hx2 hR hH hV hF hW hCo hWt s y ⟨by omega, by omega⟩ hd (h 0 0 - 0).toNat 0 g (by omega) (by omega) hinv (fun r35 hr35 hv35 => ?_)
    refine T_iinc (ls' := [some (aR e), some (aR b), some (aI s), some (aR hb), some (aI (y + 1)), some (aI (h 0 0)), none, none]) (y + 1) (am_dec tX2_moveOn_2 15 rfl) rfl rfl ⟨by omega, by omega⟩ (by decide) rfl ?_
    refine T_goto 23 (am_dec tX2_moveOn_2 16 rfl) rfl ?_
    refine T_weak (ls' := [some (aR e), some (aR b), some (aI s), some (aR hb), some (aI (y + 1)), none, none, none]) (am_sub_s (am_sub_s (am_sub_s (am_sub_s (am_sub_s (am_sub_n (am_sub_n (am_sub_n am_sub_nil)))))))) ?_
    have e9 : (g_move r h s) y g = r35 := (by unfold g_move; rw [hr35, Int.sub_zero])
    simp only [am_fold_s, e9] at k9
    exact ih (y + 1) r35 (by omega) (by omega) hv35 k9
theorem f_cpyB {g : am_F} (h0 : EyB g 0) (h1 : EyB g 1) : EyB (am_row g 1 (am_cpy (g 0) (g 1) (0 : Int).toNat (0 : Int).toNat (90 : Int).toNat)) 0 ∧ EyB (am_row g 1 (am_cpy (g 0) (g 1) (0 : Int).toNat (0 : Int).toNat (90 : Int).toNat)) 1 := ⟨h0, fun j => by
  show 0 ≤ am_cpy (g 0) (g 1) _ _ _ j ∧ am_cpy (g 0) (g 1) _ _ _ j ≤ 1000099
  unfold am_cpy
  split
  · exact h0 _
  · exact h1 _⟩
theorem m_move {S : am_S} {d u : Nat} {w : AH} {e b hb : Nat} {g r h : am_F} (hl : e + 3 ≤ w.length) (hx1 : b + 10 ≤ e ∨ e + 3 ≤ b) (hx2 : hb + 20 ≤ e ∨ e + 3 ≤ hb) (hR : Rn w b hb r) (hH : Hb w hb h) (hV : HbV h) (hF : RnF r) (hW : HbW h) (hCo : CoB h) (hWt : WtB h) (s : Int) (h0 : EyB g 0) (h1 : EyB g 1) (hd : 6 ≤ d) : am_Out S zX2_moveOn d u [aR e, aR b, aI s] (eyW w e g) (.inl none) (eyW w e (f_move r h s g)) := by
  refine am_body rfl (by decide +kernel) rfl (am_cats_cons rfl ( am_cats_cons rfl ( am_cats_cons rfl (am_cats_nil)))) (Nat.le_of_ble_eq_true rfl) (?_ : am_T _ _ _ _ _ 0 [some (aR e), some (aR b), some (aI s), none, none, none, none, none] [] (eyW w e g))
  have hV9 := hV
  obtain ⟨v1, v2, v3, v4, v5, v6, v7, v8, v9, v10, v11, v12, v13, v14, v15, v16, v17, v18, v19, v20, v21, v22⟩ := hV9
  refine T_aload_n (am_dec tX2_moveOn_0 0 rfl) rfl ?_
  refine T_getfield 8 0 (am_dec tX2_moveOn_0 1 rfl) flX2_42_8 ((eyW_Rn hx1 hR) 0 (by decide)) rfl ?_
  refine T_astore_n (ls' := [some (aR e), some (aR b), some (aI s), some (aR hb), none, none, none, none]) (am_dec tX2_moveOn_0 2 rfl) (by decide) rfl ?_
  refine T_aload_n (am_dec tX2_moveOn_0 3 rfl) rfl ?_
  refine T_getfield 2 0 (am_dec tX2_moveOn_0 4 rfl) flX2_9_2 (show (eyW w e g)[e]? = some (cO 2 [aR (e + 1), aR (e + 2)]) from eyW_c hl 0 (by decide)) rfl ?_
  refine T_iconst 0 (am_dec tX2_moveOn_0 5 rfl) rfl ⟨by decide, by decide⟩ ?_
  refine T_aload_n (am_dec tX2_moveOn_0 6 rfl) rfl ?_
  refine T_getfield 2 1 (am_dec tX2_moveOn_0 7 rfl) flX2_15_2 (show (eyW w e g)[e]? = some (cO 2 [aR (e + 1), aR (e + 2)]) from eyW_c hl 0 (by decide)) rfl ?_
  refine T_iconst 0 (am_dec tX2_moveOn_0 8 rfl) rfl ⟨by decide, by decide⟩ ?_
  refine T_bipush 90 (am_dec tX2_moveOn_0 9 rfl) rfl ⟨by decide, by decide⟩ ?_
  refine T_arraycopy (am_dec tX2_moveOn_0 10 rfl) (⟨am_m6 9 rfl rfl, am_m2 26 rfl rfl, am_m2 25 rfl rfl, am_m1 11 rfl rfl⟩) (show (eyW w e g)[e + 1]? = some (cP 0 90 (g 0)) from eyW_c hl 1 (by decide)) (show (eyW w e g)[e + 2]? = some (cP 0 90 (g 1)) from eyW_c hl 2 (by decide)) (by omega) (by omega) (by omega) (by omega) (by omega) (Nat.le_of_ble_eq_true rfl) (by omega) ?_
  refine am_wE (w2 := eyW w e (am_row g 1 (am_cpy (g 0) (g 1) (0 : Int).toNat (0 : Int).toNat (90 : Int).toNat))) eyW_r2 ?_
  refine T_iconst 0 (am_dec tX2_moveOn_0 11 rfl) rfl ⟨by decide, by decide⟩ ?_
  refine T_istore (ls' := [some (aR e), some (aR b), some (aI s), some (aR hb), some (aI 0), none, none, none]) (am_dec tX2_moveOn_0 12 rfl) (by decide) rfl ?_
  refine L_move hl hx1 hx2 hR hH hV hF hW hCo hWt s hd (h 0 1 - 0).toNat 0 (am_row g 1 (am_cpy (g 0) (g 1) (0 : Int).toNat (0 : Int).toNat (90 : Int).toNat)) (by omega) (by omega) (f_cpyB h0 h1) (fun r23 hr23 hv23 => ?_)
  exact T_return (am_dec tX2_moveOn_2 17 rfl) rfl ⟨rfl, by rw [hr23, Int.sub_zero]; rfl⟩
