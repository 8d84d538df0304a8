/-! THE TIE: all levels of a rule -/
theorem StF_unit {e : am_F} {dp : Int} {fs : am_F → am_F → am_F × am_F} (t : TpI e) : StF (fun v k => c_readUnit e v k dp fs) := fun v k h4 _ hI => by
  have e1 : c_takesSign e k 40 = (0, k) := takesSign_s h4 40
  obtain ⟨-, -, -, hk⟩ := c_peek_x hI t
  have q4 : (c_peek e k).2 0 4 = k 0 4 := hk 0 4 (by decide)
  have q4n : (c_peek e k).2 0 4 ≠ 0 := by rw [q4]; exact h4
  have q5 : (c_peek e k).2 0 5 = k 0 5 := hk 0 5 (by decide)
  have q1 : (c_peek e k).2 0 1 = k 0 1 := hk 0 1 (by decide)
  have eU : (c_readUnit e v k dp fs).2 = (c_peek e k).2 := by
    unfold c_readUnit
    dsimp only
    rw [e1]
    dsimp only
    rw [if_pos rfl]
    by_cases g : c_isDigit (c_peek e k).1 = 0
    · rw [if_pos g, word_s q4n]
      dsimp only
      split
      · exact wrong_s q4n _ _
      · rfl
    · rw [if_neg g, number_s q4n]
  dsimp only
  rw [eU]
  exact ⟨q4, q5, q1⟩
theorem StF_test {e : am_F} {dp : Int} {fn fc fs : am_F → am_F → am_F × am_F} (hs : StF fs) (hi : LvI fs) : StF (fun v k => c_readTest e v k dp fn fc fs) := fun v k h4 hv hI => by
  have e1 : c_takesWord e k 15 = (0, k) := takesWord_s h4 15
  have e2 : c_takesSign e k 91 = (0, k) := takesSign_s h4 91
  obtain ⟨x1, x2, x3⟩ := hs v k h4 hv hI
  obtain ⟨y1, y2⟩ := hi v k hv hI
  have hp : (fs v k).2 0 4 ≠ 0 := by rw [x1]; exact h4
  have e3 : c_readRelation e (fs v k).2 = (2006, (fs v k).2) := by
    unfold c_readRelation
    dsimp only
    rw [takesSign_s hp]
    dsimp only
    rw [if_pos rfl, takesSign_s hp]
    dsimp only
    rw [if_pos rfl, needSign_s hp]
  obtain ⟨z1, z2, z3⟩ := hs (fs v k).1 (fs v k).2 hp y1 y2
  dsimp only
  rw [c_readTest_e, e1]
  dsimp only
  rw [if_pos rfl, e2]
  dsimp only
  rw [if_pos rfl, e3]
  exact ⟨z1.trans x1, z2.trans x2, z3.trans x3⟩
theorem lv_unit {e : am_F} {dp : Int} {N : Nat} {fs' : am_F → am_F → am_F × am_F} {fs : am_F → am_F} (t : TpI e) (hdp : 0 ≤ dp ∧ dp ≤ 6) (hL : dp < 6 → LV e false N (dp + 1) fs' fs) (hi : LvI fs') (hm : LmI fs) (hN : 1 ≤ N) : LV e false N dp (fun v k => c_readUnit e v k dp fs') (fun c => k_oneHere c fs) :=
  ⟨ls_unit t hdp hL hN, StF_unit t, c_readUnit_x t dp hi, k_oneHere_x hm, fun c h5 => if_neg h5⟩
theorem lv_test {e : am_F} {dp : Int} {N M : Nat} {fn fc fs : am_F → am_F → am_F × am_F} {mn mc ms : am_F → am_F} (t : TpI e) (hdp : 0 ≤ dp ∧ dp ≤ 6) (hn : dp < 6 → LV e true N (dp + 1) fn mn) (hc : dp < 6 → LV e true N (dp + 1) fc mc) (hs : LV e false M dp fs ms) (hMN : M + 1 ≤ N) (in1 : LvI fn) (in2 : LmI mn) (ic1 : LvI fc) (ic2 : LmI mc) : LV e true N dp (fun v k => c_readTest e v k dp fn fc fs) (fun c => k_oneIs c mn mc ms) :=
  ⟨ls_test t hdp hn hc hs hMN, StF_test hs.2.1 hs.2.2.1, c_readTest_x t dp in1 ic1 hs.2.2.1, k_oneIs_x in2 ic2 hs.2.2.2.1, fun c h5 => if_neg h5⟩
theorem LV_n {e : am_F} {b : Bool} {N N' : Nat} {dp : Int} {F : am_F → am_F → am_F × am_F} {f : am_F → am_F} (hN : N ≤ N') (h : LV e b N dp F f) : LV e b N' dp F f :=
  ⟨fun v k c hM hS h0 hd => ⟨(h.1 v k c hM hS h0 hd).1, fun g => XX_n hN ((h.1 v k c hM hS h0 hd).2 g)⟩, h.2⟩
theorem lvS_LV {e : am_F} (t : TpI e) : ∀ n : Nat, n ≤ 6 → LV e false (2 * n + 3) (6 - (n : Int)) (lvS e (n + 1)) (mS (n + 1)) := by
  intro n
  induction n with
  | zero => exact fun hn => lv_sum (N := 2) t (lv_times (N := 1) t (lv_unit t (by omega) (fun h => absurd h (by omega)) (lvS_I t 0) (mS_I 0) (by omega)))
  | succ n ih =>
    intro hn
    have h := ih (by omega)
    refine lv_sum (N := 2 * n + 4) t (lv_times (N := 2 * n + 3) t (lv_unit t (by omega) (fun _ => ?_) (lvS_I t (n + 1)) (mS_I (n + 1)) (by omega)))
    rw [show (6 - ((n + 1 : Nat) : Int) + 1) = 6 - (n : Int) by omega]
    exact h
theorem lvCh_LV {e : am_F} {N : Nat} {dp : Int} {ft : am_F → am_F → am_F × am_F} {f : am_F → am_F} (t : TpI e) (h : LV e true N dp ft f) : LV e true (N + 2) dp (lvCh e ft) (mOr f) := lv_or t (lv_and t h)
theorem lvT_LV {e : am_F} (t : TpI e) : ∀ n : Nat, n ≤ 6 → LV e true (2 * n + 4) (6 - (n : Int)) (lvT e (n + 1)) (mT (n + 1)) := by
  intro n
  induction n with
  | zero => exact fun hn => lv_test (M := 3) t (by omega) (fun h => absurd h (by omega)) (fun h => absurd h (by omega)) (lvS_LV t 0 hn) (by omega) (lvT_I t 0) (mT_I 0) (lvCh_I t (lvT_I t 0)) (mOr_I (mT_I 0))
  | succ n ih =>
    intro hn
    have h := ih (by omega)
    have e6 : (6 - ((n + 1 : Nat) : Int) + 1) = 6 - (n : Int) := by omega
    refine lv_test (N := 2 * (n + 1) + 4) (M := 2 * (n + 1) + 3) t (by omega) (fun _ => ?_) (fun _ => ?_) (lvS_LV t (n + 1) hn) (by omega) (lvT_I t (n + 1)) (mT_I (n + 1)) (lvCh_I t (lvT_I t (n + 1))) (mOr_I (mT_I (n + 1)))
    · rw [e6]
      exact LV_n (by omega) h
    · rw [e6]
      exact LV_n (by omega) (lvCh_LV t h)
theorem rd_sm_LV {e : am_F} (t : TpI e) : LV e false 20 0 (rd_sm e) mr_sum := LV_n (N := 15) (by decide) (lvS_LV t 6 (by decide))
theorem rd_ch_LV {e : am_F} (t : TpI e) : LV e true 20 0 (rd_ch e) mr_or := LV_n (N := 18) (by decide) (lvCh_LV t (lvT_LV t 6 (by decide)))
