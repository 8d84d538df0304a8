/-! what is thrown; what a harbour and a run keep -/
theorem am_find_P {β : Type} {P : β → Prop} {p : Int → Option β} (h : ∀ i v, p i = some v → P v) : ∀ (n : Nat) (i : Int) {v : β}, am_find p i n = some v → P v := by
  intro n
  induction n with
  | zero => intro i v hv; cases hv
  | succ n ih =>
    intro i v hv
    cases e : p i with
    | none => rw [am_find_n e] at hv; exact ih _ hv
    | some x9 => rw [am_find_y e] at hv; cases hv; exact h i _ e
theorem am_decl {args : Array Value} {s : State} {y : MethodName} (h : va_Decl s y) : (Cond.declares y).before args s = true := by
  obtain ⟨r0, r, h1, h2, h3, h4⟩ := h
  unfold Cond.before Cond.holds
  simp only [Cond.value, h1, Option.bind_some, h2, Option.map_some, h3, h4]
  simp
/-- what the tables say of 'throw new E()', the supers' constructors declared -/
def am_th2 (own : String) (ik ic k : Nat) : Prop :=
  Cond.classLink own ik (am_ex k) ∈ am_G ∧ Cond.initialized (am_ex k) ∈ am_G ∧ (∀ x ∈ (vx_at0 own ic (am_ex k) am_sup).filter goodWord, x ∈ am_G) ∧ (∀ x ∈ (vx_at0 own ic (am_ex k) am_sup).filter (fun x => !goodWord x), x ∈ [Cond.castable (am_ex k) (am_ex k), Cond.declares (Bundle.init0 "java/lang/RuntimeException"), Cond.declares (Bundle.init0 "java/lang/Exception"), Cond.declares (Bundle.init0 "java/lang/Throwable")]) ∧
  ((Cond.classLink own ik (am_ex k) :: Cond.initialized (am_ex k) :: vx_at0 own ic (am_ex k) am_sup).all vx_ot = true) ∧ Bundle.fit (am_ex k) = true
section AM90
variable {S : am_S} {z : am_Z} {d u : Nat} {Q : AO → AH → Prop} {pc : Nat} {ls : List (Option AV)} {st : List AV} {w : AH}
theorem T_throw2 {ik ic : Nat} (k : Nat) (h0t : z.2.2.2.2.2 = []) (d0 : decode (am_cc z) pc = .ok (.new ik, 3)) (d3 : decode (am_cc z) (pc + 3) = .ok (.dup, 1)) (d4 : decode (am_cc z) (pc + 4) = .ok (.invokespecial ic, 3)) (d7 : decode (am_cc z) (pc + 7) = .ok (.athrow, 1)) (hk : k < 3) (hth : am_th2 (am_own z) ik ic k) (hcat : (st.map am_cat).sum ≤ 8) (hd1 : 6 ≤ d) (hu : 1 ≤ u) (hq : Q (.inr k) w) : am_T S z d u Q pc ls st w := by
  intro p l e R s m args below meth c lo dC dI dA ax n0 ad0 ad H locs cells slots lsc B b1 b2 b3 b4 h5 h6 hR hL hst hS
  obtain ⟨t1, t2, t3, t4, t5, t6⟩ := hth
  have hU : am_U * 1 ≤ am_U * u := Nat.mul_le_mul_left _ hu
  have h6U : 6 ≤ am_U * 1 := by decide
  have hcat2 := am_restW (ad := ad) (ax := ax) hcat
  refine vx_throw0 (names := am_sup) (A := fun q => lo ≤ q) B.1 B.2.1 B.2.2.2.2.2.2.2.2.2.2.2.1 B.2.2.2.1 t6 am_sup_fit (B.ts _ t1) (B.ts _ t2) (vx_hat (fun x hx => B.ts _ (t3 x hx)) t4 (vx_c (va_Nw.use rfl (B.E.2.2.1 k hk)) (vx_c (am_decl (va_Decl.of (B.ts _ (am_m4 13 rfl rfl)) (B.ts _ (am_m4 14 rfl rfl)))) (vx_c (am_decl (va_Decl.of (B.ts _ (am_m4 16 rfl rfl)) (B.ts _ (am_m4 17 rfl rfl)))) (vx_c (am_decl (va_Decl.of (B.ts _ (am_m3 231 rfl rfl)) (B.ts _ (am_m3 232 rfl rfl)))) vx_n))))) (fun x hx => List.all_eq_true.mp t5 x hx) B.E.1 B.E.2.1 hS (hL.1.trans B.2.2.1.symm) d0 d3 d4 d7
    (fun x hx => by rw [B.2.2.2.2.2.2.2.1, h0t] at hx; cases hx) (by show 2 + 3 < R.frames; omega) (by show _ + (13 * (2 + 1) + 42) ≤ R.locals; omega) (by omega) (by omega) B.2.2.2.2.2.2.1 (fun t hvm hz hkeep => ?_) hS.2.2 (by omega) (by omega)
  have hlt : ∀ (j : Nat) (x : Nat × va_E), (am_W dA ad ax w)[j]? = some x → t.heap[x.1]? = H[x.1]? := fun j x hx => hkeep x.1 ((hR.1 j x hx).lt)
  refine ⟨⟨k, w, ad, hk, rfl, h5, h6, ⟨hR.1.kept hlt, hR.2.1, hR.2.2⟩, hq⟩, Nat.le_trans hS.1 hz, fun q g1 g2 => ?_⟩
  rw [hkeep q (Nat.lt_of_lt_of_le g1 hS.1)]
  exact hS.2.1 q g1 g2
end AM90
theorem thX11_420_422 : am_th2 RX11 420 422 0 := ⟨am_m5 63 rfl rfl, am_m1 25 rfl rfl, fun x hx => List.mem_filter.mpr ⟨(by decide +kernel : ∀ x ∈ (vx_at0 RX11 422 (am_ex 0) am_sup).filter goodWord, x ∈ lw_tbl) x hx, (List.mem_filter.mp hx).2⟩, by decide +kernel, by decide +kernel, by decide +kernel⟩
theorem thX11_423_425 : am_th2 RX11 423 425 1 := ⟨am_m5 113 rfl rfl, am_m1 26 rfl rfl, fun x hx => List.mem_filter.mpr ⟨(by decide +kernel : ∀ x ∈ (vx_at0 RX11 425 (am_ex 1) am_sup).filter goodWord, x ∈ lw_tbl) x hx, (List.mem_filter.mp hx).2⟩, by decide +kernel, by decide +kernel, by decide +kernel⟩
theorem thX11_426_428 : am_th2 RX11 426 428 2 := ⟨am_m3 208 rfl rfl, am_m1 20 rfl rfl, fun x hx => List.mem_filter.mpr ⟨(by decide +kernel : ∀ x ∈ (vx_at0 RX11 428 (am_ex 2) am_sup).filter goodWord, x ∈ lw_tbl) x hx, (List.mem_filter.mp hx).2⟩, by decide +kernel, by decide +kernel, by decide +kernel⟩
def HbI (h : am_F) : Prop := HbAll h ∧ HbW h ∧ CoB h ∧ WtB h ∧ FsB h ∧ TbV (h 0 10) (h 8) 0 ∧ (∀ k i : Int, 0 ≤ k → k < h 0 8 → 0 ≤ i → i ≤ f_moves h k → 0 ≤ f_pathAt h k i ∧ f_pathAt h k i ≤ 88) ∧ ∀ k : Int, (0 ≤ f_at (h 0 7) (h 5) k 0 ∧ f_at (h 0 7) (h 5) k 0 ≤ 9) ∧ 0 ≤ f_at (h 0 7) (h 5) k 1 ∧ f_at (h 0 7) (h 5) k 1 ≤ 9
theorem HbI_A {h : am_F} (q : HbI h) : HbAll h := q.1
theorem HbI_W {h : am_F} (q : HbI h) : HbW h := q.2.1
theorem HbI_Co {h : am_F} (q : HbI h) : CoB h := q.2.2.1
theorem HbI_Wt {h : am_F} (q : HbI h) : WtB h := q.2.2.2.1
theorem HbI_Fs {h : am_F} (q : HbI h) : FsB h := q.2.2.2.2.1
theorem HbI_Sh {h : am_F} (q : HbI h) : TbV (h 0 10) (h 8) 0 := q.2.2.2.2.2.1
theorem HbI_P {h : am_F} (q : HbI h) (k i : Int) (h1 : 0 ≤ k) (h2 : k < h 0 8) (h3 : 0 ≤ i) (h4 : i ≤ f_moves h k) : 0 ≤ f_pathAt h k i ∧ f_pathAt h k i ≤ 88 := q.2.2.2.2.2.2.1 k i h1 h2 h3 h4
theorem HbI_fl {h : am_F} (q : HbI h) (k : Int) : 0 ≤ f_floor h k ∧ f_floor h k ≤ 9 := (q.2.2.2.2.2.2.2 k).1
theorem HbI_dm {h : am_F} (q : HbI h) (k : Int) : 0 ≤ f_at (h 0 7) (h 5) k 1 ∧ f_at (h 0 7) (h 5) k 1 ≤ 9 := (q.2.2.2.2.2.2.2 k).2
theorem HbI_put {h : am_F} (q : HbI h) (i : Nat) (v : Int) (hv : 0 ≤ v ∧ v ≤ 99) : HbI (am_put h 11 i v) := ⟨q.1, q.2.1, q.2.2.1, q.2.2.2.1, fun j => by
  show 0 ≤ am_up (h 11) i v j ∧ am_up (h 11) i v j ≤ 99
  unfold am_up
  split
  · exact hv
  · exact q.2.2.2.2.1 j, q.2.2.2.2.2⟩
def RnI (r : am_F) : Prop := (0 ≤ r 0 1 ∧ r 0 1 ≤ 40) ∧ RnF r ∧ MlB r
theorem f_addUp_0 (r : am_F) (row : Int) : f_addUp r row 0 = r 0 := rfl
theorem f_goOn_0 (h r : am_F) (s : Int) : f_goOn h r s 0 = am_put r 0 2 (f_seed (r 0 2)) 0 := by
  have e1 : f_go1 r s 0 = am_put r 0 2 (f_seed (r 0 2)) 0 := by
    have q := (f_go0_k r s).2
    funext j
    show am_put (f_go0 r s) 0 2 (f_seed (f_go0 r s 0 2)) 0 j = _
    unfold am_put am_up
    rw [if_pos rfl, if_pos rfl, q]
  unfold f_goOn
  rw [f_addUp_0]
  split
  · unfold f_go4
    rw [f_thin_0]
    have e2 : f_go3 h r s 0 = f_go1 r s 0 := by
      unfold f_go3
      rw [f_spill_0]
      have e3 : ∀ x : am_F, f_mixAll h x s 0 = x 0 := fun x => by
        unfold f_mixAll
        exact am_fold_inv (P := fun (_ : Int) (y : am_F) => y 0 = x 0) _ _ x rfl (fun i y _ _ hy => by
          unfold g_mixAll
          split
          · rw [f_mix_0]; exact hy
          · exact hy)
      rw [e3]
      unfold f_go2
      rw [f_blows_0]
    have e4 : ∀ x : am_F, f_burns h x (s + 1) 0 = x 0 := fun x => by
      unfold f_burns
      exact am_fold_inv (P := fun (_ : Int) (y : am_F) => y 0 = x 0) _ _ x rfl (fun i y _ _ hy => by
        unfold g_burnAll
        rw [f_burn_0]; exact hy)
    have e5 : ∀ x : am_F, f_burnAll h x (s + 1) 0 = x 0 := fun x => by
      unfold f_burnAll
      split
      · exact e4 x
      · rw [f_burn_0]; exact e4 x
    rw [e5, e2, e1]
  · exact e1
theorem f_upTo_h {h r : am_F} {step : Int} (hS : 0 ≤ r 0 1 ∧ r 0 1 ≤ 40) : (0 ≤ f_upTo h r step 0 1 ∧ f_upTo h r step 0 1 ≤ 40) ∧ f_upTo h r step 0 0 = r 0 0 := by
  unfold f_upTo
  exact am_fold_inv (P := fun (_ : Int) (y : am_F) => (0 ≤ y 0 1 ∧ y 0 1 ≤ 40) ∧ y 0 0 = r 0 0) _ _ r ⟨hS, rfl⟩ (fun i y h1 h2 hy => by
    have q := f_goOn_0 h y i
    unfold f_from f_to at *
    refine ⟨?_, ?_⟩
    · show 0 ≤ i + 1 ∧ i + 1 ≤ 40
      constructor
      · split at h1 <;> omega
      · split at h2 <;> split at h2 <;> omega
    · show f_goOn h y i 0 0 = r 0 0
      rw [q]
      exact hy.2)
theorem f_upTo_I {h r : am_F} {step : Int} (hA : HbAll h) (q : RnI r) : RnI (f_upTo h r step) := ⟨(f_upTo_h q.1).1, f_upTo_k hA q.2.1 q.2.2⟩
theorem f_upTo_tb {h r : am_F} {hb : Nat} (hS : 0 ≤ r 0 1 ∧ r 0 1 ≤ 40) (q : (r 0 0).toNat = hb) (step : Int) : (f_upTo h r step 0 0).toNat = hb := by rw [(f_upTo_h hS).2]; exact q
theorem f_begin_I {h r : am_F} (hFs : FsB h) (q : RnF r) : RnI (f_begin h r) := ⟨⟨by show (0 : Int) ≤ 0; omega, by show (0 : Int) ≤ 40; omega⟩, f_beg1_f q hFs, ⟨by show (-1 : Int) ≤ -1; omega, by show (-1 : Int) ≤ 88; omega⟩, Or.inl rfl⟩
theorem RnI_put0 {r : am_F} {v : Int} (q : RnI r) : RnI (am_put r 0 0 v) := q
theorem RnI_doubt {r : am_F} {a b : Int} (q : RnI r) : RnI (am_put (am_put r 0 2 a) 0 3 b) := q
theorem RnI_lamp {r : am_F} {a b : Int} (q : RnI r) (ha : 0 ≤ a ∧ a ≤ 88) (hb : 0 ≤ b ∧ b ≤ 99) : RnI (am_put (am_put r 0 4 a) 0 5 b) := ⟨q.1, q.2.1, ⟨by show -1 ≤ a; omega, by show a ≤ 88; omega⟩, Or.inr hb⟩
theorem hf_TH {w : AH} {hb sp rb rs bb : Nat} {po ro : AV} {ee hh ss uu vv pp kk rr tt gg aa dd bd ga im : am_F} (hl : 109 ≤ w.length) (h : (tt 0 0).toNat = hb) : Rn (hfW w hb sp rb rs bb po ro ee hh ss uu vv pp kk rr tt gg aa dd bd ga im) 64 hb tt := h ▸ hf_T hl
theorem f_inLot_b {r h : am_F} (hV : HbV h) (hF : RnF r) (lot st : Int) : 0 ≤ f_inLot r h lot st ∧ f_inLot r h lot st ≤ 8019 := by
  have hx : ∀ (y a : Int), 0 ≤ a → 0 ≤ g_inLot r h lot st y a ∧ g_inLot r h lot st y a ≤ a + 891 := fun y a ha => by
    unfold g_inLot
    have q := am_fold_inv (P := fun (i : Int) (x : Int) => 0 ≤ x ∧ x ≤ a + 99 * i) (g := g_inLotx r h lot st y) (h 0 0).toNat 0 a ⟨ha, by omega⟩ (fun i x h1 h2 hx => by
      unfold g_inLotx
      have q := f_fogOn_b hF (i + 10 * y) st
      split <;> omega)
    have v := hV.1
    have v2 := hV.2.1
    omega
  unfold f_inLot
  have q := am_fold_inv (P := fun (i : Int) (x : Int) => 0 ≤ x ∧ x ≤ 891 * i) (g := g_inLot r h lot st) (h 0 1).toNat 0 0 ⟨by omega, by omega⟩ (fun i x h1 h2 hx9 => by
    have q := hx i x hx9.1
    omega)
  have v := hV.2.2.1
  have v2 := hV.2.2.2.1
  omega
theorem f_has_b (h : am_F) (x y : Int) : f_has h x y = 0 ∨ f_has h x y = 1 := by
  unfold f_has
  split
  · exact Or.inr rfl
  · exact Or.inl rfl
theorem f_letsIn_b (r h : am_F) (k s : Int) : f_letsIn r h k s = 0 ∨ f_letsIn r h k s = 1 := by
  unfold f_letsIn
  cases e : am_find (p_letsIn r h k s) 0 (h 0 1).toNat with
  | none => exact Or.inr rfl
  | some v =>
    have q := am_find_P (P := fun v => v = 0) (fun i v hv => by
      unfold p_letsIn at hv
      split at hv
      · exact (Option.some.inj hv).symm
      · cases hv) _ _ e
    exact Or.inl q
theorem f_clear_01 (r h : am_F) (a b s : Int) : f_clear r h a b s = 0 ∨ f_clear r h a b s = 1 := by
  unfold f_clear
  repeat' split
  all_goals first | exact Or.inl rfl | exact Or.inr rfl
theorem f_seeEach_b (r h : am_F) (k l s : Int) : f_seeEach r h k l s = 0 ∨ f_seeEach r h k l s = 1 := f_clear_01 r h _ _ s
theorem f_hid_b (r h : am_F) (k s : Int) : f_hid r h k s = 0 ∨ f_hid r h k s = 1 := by
  unfold f_hid
  repeat' split
  all_goals first | exact Or.inl rfl | exact Or.inr rfl
