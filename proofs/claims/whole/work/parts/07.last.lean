/-! copies of arrays, throws, catches, new cells -/
section AM7
variable {S : am_S} {z y : am_Z} {d u : Nat} {Q Qm : AO → AH → Prop} {pc pc' : Nat} {ls : List (Option AV)} {st st' rest as : List AV} {w : AH}
def am_cpy (f g : Nat → Int) (sp dp n : Nat) : Nat → Int := fun k => if dp ≤ k ∧ k < dp + n then f (sp + (k - dp)) else g k
theorem am_cpy_eq (f g : Nat → Int) (sp dp n : Nat) : va_cpy (fun j => Int32.ofInt (f j)) (fun j => Int32.ofInt (g j)) sp dp n = fun j => Int32.ofInt (am_cpy f g sp dp n j) := by
  funext k
  unfold va_cpy am_cpy
  split <;> rfl
def am_lkC (own : String) (idx : Nat) : Prop := Cond.methodLink own idx arraycopyName ∈ am_G ∧ Cond.native arraycopyName ∈ am_G ∧ Cond.static arraycopyName ∈ am_G ∧ Cond.initialized "java/lang/System" ∈ am_G
theorem T_arraycopy {idx a b n0 n1 : Nat} {f g : Nat → Int} {sp dp n : Int} (hd : decode (am_cc z) pc = .ok (.invokestatic idx, 3)) (hlk : am_lkC (am_own z) idx) (ha : w[a]? = some (cP 0 n0 f)) (hb : w[b]? = some (cP 0 n1 g)) (h1 : 0 ≤ sp) (h2 : 0 ≤ dp) (h3 : 0 ≤ n) (h4 : sp + n ≤ n0) (h5 : dp + n ≤ n1) (hcat : (st.map am_cat).sum ≤ 8) (hd1 : 1 ≤ d)
    (kk : am_T S z d u Q (pc + 3) ls st (w.set b (cP 0 n1 (am_cpy f g sp.toNat dp.toNat n.toNat)))) : am_T S z d u Q pc ls (aI n :: aI dp :: aR b :: aI sp :: aR a :: st) w := by
  intro p l e R s m args below meth c lo dC dI dA ax m0 ad0 ad H locs cells slots lsc B b1 b2 b3 b4 h5' h6 hR hL hst hS
  have on : am_i32 n := am_ok_hd hst
  have od : am_i32 dp := am_ok_hd (am_ok_tl hst)
  have os : am_i32 sp := am_ok_hd (am_ok_tl (am_ok_tl (am_ok_tl hst)))
  have e1 := am_cn h1 os.2
  have e2 := am_cn h2 od.2
  have e3 := am_cn h3 on.2
  have hcat2 := am_restW (ad := ad) (ax := ax) hcat
  have neg : ∀ t : Int, 0 ≤ t → am_i32 t → ¬ Int32.ofInt t < 0 := fun t ht ho q => by
    have := (am_lt ho am_z0).mp q
    omega
  refine va_copyi (f := fun j => Int32.ofInt (f j)) (g := fun j => Int32.ofInt (g j)) B.1 B.2.1 (B.2.2.1.trans hL.1.symm) B.2.2.2.1 (B.ts _ hlk.1) (B.ts _ hlk.2.1) (B.ts _ hlk.2.2.1) (B.ts _ hlk.2.2.2) B.K hR.1 hR.2.1 hS a b 0 0 (am_at ha) (am_at hb) rfl rfl rfl (neg sp h1 os) (neg dp h2 od) (neg n h3 on) (by rw [e1, e3]; omega) (by rw [e2, e3]; omega) (fun i hi => rfl) (by omega) (by
      have e9 : nativeFrameWords "java/lang/System" "arraycopy" 5 + 11 = 18 := by decide +kernel
      rw [e9]
      omega) hd (fun H1 locs1 hP hD hS1 => ?_)
  rw [e1, e2, e3, am_cpy_eq] at hP hD
  have hset := am_W_set dA ad ax w b (cP 0 n1 (am_cpy f g sp.toNat dp.toNat n.toNat))
  have hlen : (w.set b (cP 0 n1 (am_cpy f g sp.toNat dp.toNat n.toNat))).length = w.length := List.length_set
  refine kk p l e R s m args below meth c lo dC dI dA ax m0 ad0 ad H1 locs1 cells slots lsc B b1 b2 b3 b4 h5' (by rw [hlen]; exact h6) ⟨by rw [← hset]; exact hP, by rw [← hset]; exact hD, am_okl hR.2.2 (fun j => ?_)⟩ (by rw [hlen]; exact hL) (by rw [hlen]; exact am_ok_tl (am_ok_tl (am_ok_tl (am_ok_tl (am_ok_tl hst))))) hS1
  have hf : am_i32 (f (sp.toNat + (j - dp.toNat))) := hR.2.2 _ (List.mem_of_getElem? ha) _
  have hg : am_i32 (g j) := hR.2.2 _ (List.mem_of_getElem? hb) j
  show am_i32 (am_cpy f g sp.toNat dp.toNat n.toNat j)
  unfold am_cpy
  split
  · exact hf
  · exact hg
def am_sup : List String := ["java/lang/RuntimeException", "java/lang/Exception"]
/-- what the tables say of 'throw new E()' at entries ik, ic -/
def am_th (own : String) (ik ic k : Nat) : Prop :=
  Cond.classLink own ik (am_ex k) ∈ am_G ∧ Cond.initialized (am_ex k) ∈ am_G ∧ (∀ x ∈ (vx_at0 own ic (am_ex k) am_sup).filter goodWord, x ∈ am_G) ∧ (∀ x ∈ (vx_at0 own ic (am_ex k) am_sup).filter (fun x => !goodWord x), x ∈ [Cond.castable (am_ex k) (am_ex k)]) ∧
  ((Cond.classLink own ik (am_ex k) :: Cond.initialized (am_ex k) :: vx_at0 own ic (am_ex k) am_sup).all vx_ot = true) ∧ Bundle.fit (am_ex k) = true
theorem am_sup_fit : ∀ n ∈ am_sup, Bundle.fit n = true := by decide +kernel
theorem T_throw {ik ic : Nat} (k : Nat) (h0t : z.2.2.2.2.2 = []) (d0 : decode (am_cc z) pc = .ok (.new ik, 3)) (d3 : decode (am_cc z) (pc + 3) = .ok (.dup, 1)) (d4 : decode (am_cc z) (pc + 4) = .ok (.invokespecial ic, 3)) (d7 : decode (am_cc z) (pc + 7) = .ok (.athrow, 1)) (hk : k < 3) (hth : am_th (am_own z) ik ic k) (hcat : (st.map am_cat).sum ≤ 8) (hd1 : 6 ≤ d) (hu : 1 ≤ u) (hq : Q (.inr k) w) : am_T S z d u Q pc ls st w := by
  intro p l e R s m args below meth c lo dC dI dA ax n0 ad0 ad H locs cells slots lsc B b1 b2 b3 b4 h5 h6 hR hL hst hS
  obtain ⟨t1, t2, t3, t4, t5, t6⟩ := hth
  have hU : am_U * 1 ≤ am_U * u := Nat.mul_le_mul_left _ hu
  have h6U : 6 ≤ am_U * 1 := by decide
  have hcat2 := am_restW (ad := ad) (ax := ax) hcat
  refine vx_throw0 (names := am_sup) (A := fun q => lo ≤ q) B.1 B.2.1 B.2.2.2.2.2.2.2.2.2.2.2.1 B.2.2.2.1 t6 am_sup_fit (B.ts _ t1) (B.ts _ t2) (vx_hat (fun x hx => B.ts _ (t3 x hx)) t4 (vx_c (va_Nw.use rfl (B.E.2.2.1 k hk)) vx_n)) (fun x hx => List.all_eq_true.mp t5 x hx) B.E.1 B.E.2.1 hS (hL.1.trans B.2.2.1.symm) d0 d3 d4 d7
    (fun x hx => by rw [B.2.2.2.2.2.2.2.1, h0t] at hx; cases hx) (by show 2 + 3 < R.frames; omega) (by show _ + (13 * (2 + 1) + 42) ≤ R.locals; omega) (by omega) (by omega) B.2.2.2.2.2.2.1 (fun t hvm hz hkeep => ?_) hS.2.2 (by omega) (by omega)
  have hlt : ∀ (j : Nat) (x : Nat × va_E), (am_W dA ad ax w)[j]? = some x → t.heap[x.1]? = H[x.1]? := fun j x hx => hkeep x.1 ((hR.1 j x hx).lt)
  refine ⟨⟨k, w, ad, hk, rfl, h5, h6, ⟨hR.1.kept hlt, hR.2.1, hR.2.2⟩, hq⟩, Nat.le_trans hS.1 hz, fun q g1 g2 => ?_⟩
  rw [hkeep q (Nat.lt_of_lt_of_le g1 hS.1)]
  exact hS.2.1 q g1 g2
-- methods with a table of handlers
def am_wsW (z : am_Z) : List Cond := Cond.codeWith z.2.1 z.2.2.1 z.2.2.2.1 z.2.2.2.2.1 z.2.2.2.2.2 :: am_G
def am_MW (S : am_S) (z : am_Z) (d u : Nat) (as : List AV) (w : AH) (Q : AO → AH → Prop) : Prop :=
  ∀ (l : Launch) (lo : Nat) (dC : Nat → ClassId) (dI : Nat → Nat → Nat) (dA : Nat → ClassId) (ax ad : Nat → Nat), l.stackTraces = false → (∀ v ∈ as, am_ok w.length v) →
    vx_Met l z.2.1 (am_wsW z) (am_room d u) (am_Pc S lo dC dI dA ax w ad as) (am_Qc S dC dI dA ax lo w.length ad Q) (am_XC S dC dI dA ax lo w.length ad Q) u (am_U * u) (fun q => lo ≤ q)
theorem am_bodyW (hy : plainName z.2.1.cls = true) (hown : z.1 = z.2.1.cls) (hc : ∀ v ∈ as, am_cat v = 1) (hlen : as.length ≤ z.2.2.2.1) (k : am_T S z d u Q 0 (am_entry z.2.2.2.1 as) [] w) : am_MW S z d u as w Q := by
  intro l lo dC dI dA ax ad hl hok
  refine vx_ofWH (cc := z.2.2.1) (maxL := z.2.2.2.1) (ret := z.2.2.2.2.1) (hh := z.2.2.2.2.2) (ws' := am_G) hy rfl ?_
  intro p e s m args below meth c s₁ B hml hv
  obtain ⟨rfl, hR, hK, hE, hlo⟩ := hv
  have hts : ∀ x ∈ am_G, x.before ((as.map (am_v ad ax)).toArray) s = true := fun x hx => atoms_spec (ws := am_wsW z) B.pre x (List.mem_cons_of_mem _ hx)
  have hown2 : s.vm.findClass z.1 = some m.cls := by rw [hown]; exact findClass_of_methodNamed B.named
  have hname : meth.name = z.2.1.name := (name_of_methodNamed B.named B.method).1
  have htab := vx_table (x := z.2.1) B (atoms_spec (ws := am_wsW z) B.pre _ List.mem_cons_self)
  rw [lg_entry_eq]
  exact k p l e _ s m _ below meth c lo dC dI dA ax w.length ad ad s.heap [] 0 0 _ ⟨B.exec, B.bytes, hml, hown2, hts, B.returns, B.notSynchronized, htab, hK, hE, hlo, hl, hname⟩ (Nat.le_refl _) (Nat.le_refl _) (by show 0 + u ≤ u; omega) (by show 0 + am_U * u ≤ am_U * u; omega) (fun _ _ => rfl) (Nat.le_refl _) hR (am_L_entry hc hlen hok) (fun v hv => by cases hv) va_S.rf
/-- the handler of k at pc stores it and answers j -/
def am_hand (z : am_Z) (pc k : Nat) (j : Int) : Prop := ∃ (pre : List (Nat × Nat × Nat × Nat)) (q : Nat × Nat × Nat × Nat) (suf : List (Nat × Nat × Nat × Nat)) (i : Nat),
  z.2.2.2.2.2 = pre ++ q :: suf ∧ (∀ r ∈ pre, r.2.2.2 ≠ 0 ∧ ∃ k', k' < 3 ∧ k' ≠ k ∧ Cond.classLink (am_own z) r.2.2.2 (am_ex k') ∈ am_G) ∧ covers ⟨q.1, q.2.1, q.2.2.1, q.2.2.2⟩ pc = true ∧ q.2.2.2 ≠ 0 ∧ Cond.classLink (am_own z) q.2.2.2 (am_ex k) ∈ am_G ∧
  i < z.2.2.2.1 ∧ ((decode (am_cc z) q.2.2.1 = .ok (.astore i, 2) ∧ decode (am_cc z) (q.2.2.1 + 2) = .ok (.iconst j, 1) ∧ decode (am_cc z) (q.2.2.1 + 3) = .ok (.ireturn, 1)) ∨ (∃ i4 : Fin 4, i4.val = i ∧ decode (am_cc z) q.2.2.1 = .ok (.astore_n i4, 1) ∧ decode (am_cc z) (q.2.2.1 + 1) = .ok (.iconst j, 1) ∧ decode (am_cc z) (q.2.2.1 + 2) = .ok (.ireturn, 1)))
theorem T_invokeC {idx a d' u' ci : Nat} {fs : List AV} (hrt : z.2.2.2.2.1 = some .int) (hd : decode (am_cc z) pc = .ok (.invokevirtual idx, 3)) (hlk : am_lkV (am_own z) idx y as.length) (hw : w[a]? = some (cO ci fs)) (hci : (vwCl[ci]?).map (fun q => q.1) = some y.2.1.cls) (hst : st = as.reverse ++ aR a :: rest) (hcat : (rest.map am_cat).sum ≤ 8) (hd1 : d' + 1 ≤ d) (hu : u' ≤ u)
    (hM : am_M S y d' u' (aR a :: as) w Qm) (kk : ∀ v w', Qm (.inl v) w' → w.length ≤ w'.length → am_T S z d (u - u') Q (pc + 3) ls (v.toList ++ rest) w') (kx : ∀ k w', k < 3 → Qm (.inr k) w' → w.length ≤ w'.length → ∃ j : Int, am_i32 j ∧ am_hand z pc k j ∧ Q (.inl (some (aI j))) w') : am_T S z d u Q pc ls st w := by
  subst hst
  intro p l e R s m args below meth c lo dC dI dA ax n0 ad0 ad H locs cells slots lsc B h1 h2 h3 h4 h5 h6 hR hL hst hS
  have hsl : am_U * u' ≤ am_U * u := Nat.mul_le_mul_left _ hu
  obtain ⟨q, hq, hqn⟩ : ∃ q : vw_C, vwCl[ci]? = some q ∧ q.1 = y.2.1.cls := by
    cases h : vwCl[ci]? with
    | none => rw [h] at hci; cases hci
    | some q => rw [h] at hci; exact ⟨q, rfl, Option.some.inj hci⟩
  have hrc : ∃ cellB : Cell, H[ad a]? = some cellB ∧ cellB.vm.isStatics = false ∧ s.vm.findClass y.2.1.cls = some cellB.cls := by
    obtain ⟨r, g1, cell, q1, q2, q3, q4⟩ := hR.1 a _ (am_at hw)
    have hr : r = q := Option.some.inj (g1.symm.trans hq)
    subst hr
    refine ⟨cell, q1, by rw [q3]; rfl, ?_⟩
    rw [q2, ← hqn]
    exact (B.K.1 ci _ hq).2.1
  have hrest : ∀ v ∈ rest, am_ok w.length v := fun v hv => hst v (List.mem_append_right _ (List.mem_cons_of_mem _ hv))
  have hr := vx_runV (H := H) (locs := locs) (cells := cells) (slots := slots) (R := R) (below := below) (meth := meth) (e := e) (g := F0 m pc lsc ((as.reverse ++ aR a :: rest).map (am_v ad ax))) (rest := rest.map (am_v ad ax)) (As := as.map (am_v ad ax)) (b := ad a) (C := y.2.1.cls) (Ts := am_G) (nL := z.2.2.2.1) (cc := z.2.2.1) (n := as.length) (index := idx) ⟨B.1, B.2.1, B.2.2.1, B.2.2.2.1, B.2.2.2.2.1⟩ (hM l lo dC dI dA ax ad B.2.2.2.2.2.2.2.2.2.2.2.1 (fun v hv => hst v (by
      rcases List.mem_cons.mp hv with h | h
      · rw [h]; exact List.mem_append_right _ List.mem_cons_self
      · exact List.mem_append_left _ (List.mem_reverse.mpr h))))
      ⟨am_callB B.2.2.2.2.1 hlk.1 (by omega) (by omega), B.2.2.2.2.1 _ hlk.2.1, B.2.2.2.2.1 _ hlk.2.2⟩ ⟨am_blind, hrc, am_pre (as := aR a :: as) B hR hS⟩ rfl (by simp) hL.1 (by simp [am_v]) (am_restW hcat) hd ⟨by omega, by omega⟩
  intro T hT X
  have hsl2 : am_U * u' + am_U * (u - u') = am_U * u := by rw [← Nat.mul_add]; congr 1; omega
  rcases hr T hT X with ⟨v, st₀, t, T', L, h0, X', hLq, e1, e2, ⟨⟨v', w', ad', g1, g2, g3, g4, g5, g6⟩, hF⟩, sg⟩ | ⟨q9, st₀, t, T', L, E, ce, h0, X', hLq, e1, e2, ⟨⟨k, w', ad', gk, g1, g2, g3, g4, g6⟩, hF⟩, hce, hcv, hcl, sg⟩
  · cases g1
    obtain ⟨k1, k2, k3⟩ := vx_keep h0 e1 hS (fun q _ h => h) (fun q h => h) hLq hF
    obtain ⟨t2, a1, b1⟩ := kk v' w' g6 g3 p l e R s m args below meth c lo dC dI dA ax n0 ad0 ad' T'.heap (locs ++ L) (cells + u') (slots + am_U * u') lsc B h1 h2 (by omega) (by omega) (fun i hi => (g2 i (by omega)).trans (h5 i hi)) (by omega) (by rw [e1]; exact g4) (am_L_ext hL g2 g3) (fun x hx => by
      rcases List.mem_append.mp hx with hx | hx
      · cases v' with
        | none => cases hx
        | some y => cases List.mem_singleton.mp hx; exact g5 _ rfl
      · exact am_ok_mono g3 (hrest x hx)) k3 T' rfl X'
    refine ⟨t2, sg t2 ?_, b1⟩
    rw [List.map_append, am_ad g2 hrest] at a1
    cases v' with
    | none => exact a1
    | some y => exact a1
  · obtain ⟨k1, k2, k3⟩ := vx_keep h0 e1 hS (fun q _ h => h) (fun q h => h) hLq hF
    obtain ⟨j, hj, ⟨pre, x, suf, i, f1, f2, f3, f4, f5, f6, f7⟩, hQ⟩ := kx k w' gk g6 g3
    have fin : ∀ (pz : Nat) (ls9 : Array Slot), decode z.2.2.1 pz = .ok (.ireturn, 1) → W p l e R s m args below meth c T'.heap (locs ++ L) (cells + u') (slots + am_U * u') (vx_MQ below (am_Qc S dC dI dA ax lo n0 ad0 Q) (am_XC S dC dI dA ax lo n0 ad0 Q) args s R.cells R.slots (fun q => lo ≤ q)) (F0 m pz ls9 [.int (Int32.ofInt j)]) := by
      intro pz ls9 hdz
      refine vx_ret (W.widen (k := R.cells) (n := R.slots) (by omega) (by omega) (W.iret B.1 B.2.1 (B.2.2.2.2.2.1.trans hrt) (fun t9 ht9 hW => ?_) k3.2.2 hdz B.2.2.2.2.2.2.1))
      exact ⟨⟨some (aI j), w', ad', rfl, fun i hi => (g2 i (by omega)).trans (h5 i hi), by omega, by rw [ht9, e1]; exact g4, fun x hx => by cases hx; exact hj, hQ⟩, am_FE (Hs := H) k3 ht9⟩
    have hw9 := vx_catch (p := p) (l := l) (e := e) (R := R) (s := s) (m := m) (args := args) (below := below) (meth := meth) (c := c) (H := T'.heap) (locs := locs ++ L) (cells := cells + u') (slots := slots + am_U * u') (ls := lsc) (rest := rest.map (am_v ad ax)) (pc := pc) (E := E) (q := q9) (ce := ce)
      (Q := vx_MQ below (am_Qc S dC dI dA ax lo n0 ad0 Q) (am_XC S dC dI dA ax lo n0 ad0 Q) args s R.cells R.slots (fun q => lo ≤ q)) (own := z.1) (name := am_ex k) B.2.2.2.1
      (pre.map fun q => ⟨q.1, q.2.1, q.2.2.1, q.2.2.2⟩) ⟨x.1, x.2.1, x.2.2.1, x.2.2.2⟩ (suf.map fun q => ⟨q.1, q.2.1, q.2.2.1, q.2.2.2⟩) (by rw [B.2.2.2.2.2.2.2.1, f1]; simp [tableOf])
      (fun r hr => by
        obtain ⟨r0, hr0, rfl⟩ := List.mem_map.mp hr
        obtain ⟨g7, k', g8, g9, g10⟩ := f2 r0 hr0
        refine Or.inr ⟨g7, am_ex k', B.ts _ g10, ?_⟩
        rw [g1]
        exact B.E.2.2.2.1 k k' gk g8 (fun q => g9 q.symm)) f3 f4 (B.ts _ f5) (by rw [g1]; exact va_Nw.use rfl (B.E.2.2.1 k gk)) (by rw [e1]; exact hce) hcv hcl (by
        rcases f7 with ⟨dd1, dd2, dd3⟩ | ⟨i4, e4, dd1, dd2, dd3⟩
        · exact lv_astore B.1 B.2.1 dd1 (am_L_has hL) f6 rfl (fun ls9 hl9 => lv_iconst B.1 B.2.1 dd2 rfl (fin _ _ dd3))
        · exact lv_astore_n B.1 B.2.1 dd1 e4 (am_L_has hL) f6 rfl (fun ls9 hl9 => lv_iconst B.1 B.2.1 dd2 rfl (fin _ _ dd3)))
    obtain ⟨t2, a1, b1⟩ := hw9 T' rfl X'
    exact ⟨t2, sg.trans a1, b1⟩
/-- a static method with a table of handlers -/
def am_lkW (own : String) (idx : Nat) (y : am_Z) (n : Nat) : Prop :=
  Cond.methodLink own idx y.2.1 ∈ am_G ∧ Cond.codeWith y.2.1 y.2.2.1 y.2.2.2.1 y.2.2.2.2.1 y.2.2.2.2.2 ∈ am_G ∧ Cond.initialized y.2.1.cls ∈ am_G ∧ (y.2.1.cls ≠ "java/lang/invoke/MethodHandle" ∧ y.2.1.cls ≠ "java/lang/invoke/VarHandle") ∧ (parseMethodDescriptor y.2.1.desc).map (fun q => q.parameters.length) = some n ∧ y.2.2.2.1 ≤ 45 ∧ Cond.static y.2.1 ∈ am_G
theorem T_invokeW {idx d' u' : Nat} (h0t : z.2.2.2.2.2 = []) (hd : decode (am_cc z) pc = .ok (.invokestatic idx, 3)) (hlk : am_lkW (am_own z) idx y as.length) (hst : st = as.reverse ++ rest) (hcat : (rest.map am_cat).sum ≤ 8) (hd1 : d' + 1 ≤ d) (hu : u' ≤ u)
    (hM : am_MW S y d' u' as w Qm) (kk : ∀ v w', Qm (.inl v) w' → w.length ≤ w'.length → am_T S z d (u - u') Q (pc + 3) ls (v.toList ++ rest) w') (kx : ∀ k w', Qm (.inr k) w' → w.length ≤ w'.length → Q (.inr k) w') : am_T S z d u Q pc ls st w := by
  subst hst
  intro p l e R s m args below meth c lo dC dI dA ax n0 ad0 ad H locs cells slots lsc B h1 h2 h3 h4 h5 h6 hR hL hst hS
  have hsl : am_U * u' ≤ am_U * u := Nat.mul_le_mul_left _ hu
  obtain ⟨l1, l2, l3, l4, l5, l6, l7⟩ := hlk
  refine am_goon h0t (B := B) (Qm := Qm) (u' := u') (rest := rest) h1 h2 h3 h4 h5 h6 hL (fun v hv => hst v (List.mem_append_right _ hv)) hS hu
    (vx_runSX (hh := y.2.2.2.2.2) (bytes := y.2.2.1) (maxL := y.2.2.2.1) (ret := y.2.2.2.2.1) (As := as.map (am_v ad ax)) (Ts := am_G) (nL := z.2.2.2.1) (cc := z.2.2.1) ⟨B.1, B.2.1, B.2.2.1, B.2.2.2.1, B.2.2.2.2.1⟩ (hM l lo dC dI dA ax ad B.2.2.2.2.2.2.2.2.2.2.2.1 (fun v hv => hst v (List.mem_append_left _ (List.mem_reverse.mpr hv))))
      ⟨⟨rfl, rfl, by show d' + 1 ≤ _; omega, by show 8 + (y.2.2.2.1 + 11) + 64 * d' ≤ R.locals; omega, pay_in (big := am_G) B.ts (fun x hx => by
        rcases List.mem_cons.mp hx with e | e
        · rw [e]; exact ⟨l2, good_of_word (am_goodG l2)⟩
        · exact ⟨e, good_of_word (am_goodG e)⟩), List.mem_cons_self⟩, B.ts _ l2, B.ts _ l3, l4, fun sig hs => by
        rw [hs] at l5
        exact (Option.some.inj l5).symm, B.ts _ l1, B.ts _ l7⟩ ⟨am_blind, am_pre (as := as) B hR hS⟩ rfl (by simp) hL.1 (by simp) (am_restW hcat) hd ⟨by omega, by omega⟩) kk kx
-- new cells
theorem am_W_app (dA : Nat → ClassId) (ad ax : Nat → Nat) (w : AH) (cs : List AC) : am_W dA ad ax (w ++ cs) = am_W dA ad ax w ++ (cs.zipIdx w.length).map (fun q => (ad q.2, am_c dA ad ax q.1)) := by
  unfold am_W
  rw [List.zipIdx_append, List.map_append]
  simp
/-- a new cell at the end of the heap -/
theorem am_new {c1 : AC} {w : AH} {p : Program} {l : Launch} {e : Env} {R : Room} {s : State} {m : MethodId} {args : Array Value} {below : List Frame} {meth : Method} {c : Code} {lo : Nat} {dC : Nat → ClassId} {dI : Nat → Nat → Nat} {dA : Nat → ClassId} {ax : Nat → Nat} {n0 : Nat} {ad0 ad : Nat → Nat} {H1 : Heap} {locs : List Loc} {cells slots : Nat} {lsc : Array Slot} {q nw : Nat} (k : am_T S z d (u - 1) Q pc' ls (aR w.length :: st) (w ++ [c1])) (hu : 1 ≤ u)
    (B : am_B p l e s m args meth c S z lo dC dI dA ax) (h1 : d ≤ R.frames) (h2 : 64 * d ≤ R.locals) (h3 : cells + u ≤ R.cells) (h4 : slots + am_U * u ≤ R.slots) (h5 : ∀ i, i < n0 → ad i = ad0 i) (h6 : n0 ≤ w.length) (hok : ∀ c ∈ w, am_okc w.length c) (hL : am_L ad ax w.length z.2.2.2.1 lsc ls) (hst : ∀ v ∈ st, am_ok w.length v)
    (hP : va_P (dC, dI) vwCl (am_W dA ad ax w ++ [(q, am_c dA ad ax c1)]) H1) (hD : va_D (fun q => lo ≤ q) (am_W dA ad ax w ++ [(q, am_c dA ad ax c1)])) (hc1 : am_okc w.length c1) (hS : va_S (fun q => lo ≤ q) s.heap H1 locs) (hnw : nw ≤ am_U) :
    W p l e R s m args below meth c H1 locs (cells + 1) (slots + nw) (vx_MQ below (am_Qc S dC dI dA ax lo n0 ad0 Q) (am_XC S dC dI dA ax lo n0 ad0 Q) args s R.cells R.slots (fun q => lo ≤ q)) (F0 m pc' lsc (.ref q :: st.map (am_v ad ax))) := by
  obtain ⟨ad', had⟩ : ∃ ad' : Nat → Nat, ad' = fun i => if i = w.length then q else ad i := ⟨_, rfl⟩
  have e0 : ad' w.length = q := by rw [had]; simp
  have e1 : ∀ i, i < w.length → ad' i = ad i := fun i hi => by rw [had]; simp; omega
  have hlen : (w ++ [c1]).length = w.length + 1 := by simp
  have hU : am_U * (u - 1) + am_U = am_U * u := by
    rw [show u = (u - 1) + 1 by omega, Nat.mul_succ]; simp
  have hW : am_W dA ad' ax (w ++ [c1]) = am_W dA ad ax w ++ [(q, am_c dA ad ax c1)] := by
    rw [am_W_app, am_W_ext e1 hok]
    simp only [List.zipIdx_cons, List.zipIdx_nil, List.map_cons, List.map_nil]
    rw [e0, am_c_ext e1 hc1]
  have := k p l e R s m args below meth c lo dC dI dA ax n0 ad0 ad' H1 locs (cells + 1) (slots + nw) lsc B h1 h2 (by omega) (by omega) (fun i hi => (e1 i (by omega)).trans (h5 i hi)) (by omega) ⟨by rw [hW]; exact hP, by rw [hW]; exact hD, fun x hx => by
      rw [hlen]
      rcases List.mem_append.mp hx with h | h
      · exact am_okc_mono (by omega) (hok x h)
      · rw [List.mem_singleton.mp h]; exact am_okc_mono (by omega) hc1⟩ (am_L_ext hL e1 (by omega)) (am_ok_cons (show w.length < (w ++ [c1]).length by omega) (fun v hv => am_ok_mono (by omega) (hst v hv))) hS
  rw [List.map_cons, am_ad e1 hst] at this
  rw [show am_v ad' ax (aR w.length) = Value.ref q by show Value.ref _ = _; rw [e0]] at this
  exact this
theorem T_new {idx : Nat} (ci : Nat) {fs : List AV} {q : vw_C} (hd : decode (am_cc z) pc = .ok (.new idx, 3)) (hq : vwCl[ci]? = some q) (hcl : am_cls ci) (hl : Cond.classLink (am_own z) idx q.1 ∈ am_G) (hin : Cond.instantiable q.1 q.2.2 ∈ am_G) (hini : Cond.initialized q.1 ∈ am_G) (hfs : ∀ j, j < q.2.2 → ∃ v, fs[j]? = some v ∧ ∀ ad ax, am_v ad ax v = defaultValue ((parseFieldDescriptor (q.2.1 j).2.2.1).getD .int)) (hok : ∀ v ∈ fs, am_ok 0 v) (hn : q.2.2 ≤ am_U) (hu : 1 ≤ u) (k : am_T S z d (u - 1) Q (pc + 3) ls (aR w.length :: st) (w ++ [cO ci fs])) : am_T S z d u Q pc ls st w := by
  intro p l e R s m args below meth c lo dC dI dA ax n0 ad0 ad H locs cells slots lsc B h1 h2 h3 h4 h5 h6 hR hL hst hS
  obtain ⟨c1, c2, c3⟩ := hcl q hq
  have hU : am_U * 1 ≤ am_U * u := Nat.mul_le_mul_left _ hu
  refine va_new (ci := ci) (fs := fs.map (am_v ad ax)) (C := q.1) (T := q.2.1) (N := q.2.2) B.1 B.2.1 B.ts c1 (fun j => ((parseFieldDescriptor (q.2.1 j).2.2.1).getD .int)) (fun j hj => ?_) B.2.2.2.1 (B.ts _ hl) (B.ts _ hin) (B.ts _ hini) B.K hR.1 hR.2.1 hS (fun x hx => Nat.le_trans B.lo hx) hq (fun j hj => ?_) (by omega) (by omega) hd (fun q9 H1 hP hD hS1 => ?_)
  · obtain ⟨y, hy⟩ := Option.isSome_iff_exists.mp (c2 j hj)
    rw [hy]
    rfl
  · obtain ⟨v, hv, hv2⟩ := hfs j hj
    rw [← hv2 ad ax]
    simp [vp_V, hv]
  · exact am_new (c1 := cO ci fs) k hu B h1 h2 h3 h4 h5 h6 hR.2.2 hL hst hP hD (fun v hv => am_ok_mono (Nat.zero_le _) (hok v hv)) hS1 hn
theorem am_cA {s : State} {cA cB : ClassId} {ty : FieldType} (h1 : va_RA s cA ty) (h2 : va_RA s cB ty) : cA = cB := by
  cases ty with
  | object C =>
    obtain ⟨_, _, _, _, _, g1⟩ := h1
    obtain ⟨_, _, _, _, _, g2⟩ := h2
    exact Option.some.inj (g1.symm.trans g2)
  | _ => exact Option.some.inj ((show s.vm.findClass _ = some cA from h1).symm.trans (show s.vm.findClass _ = some cB from h2))
theorem T_newI {n : Int} (hd : decode (am_cc z) pc = .ok (.newarray .int, 2)) (hcl : Cond.arrayClass .int ∈ am_G) (h0 : 0 ≤ n) (hn : n ≤ 3700) (hu : 1 ≤ u) (k : am_T S z d (u - 1) Q (pc + 2) ls (aR w.length :: st) (w ++ [cP 0 n.toNat (fun _ => 0)])) : am_T S z d u Q pc ls (aI n :: st) w := by
  intro p l e R s m args below meth c lo dC dI dA ax n0 ad0 ad H locs cells slots lsc B h1 h2 h3 h4 h5 h6 hR hL hst hS
  have hU : am_U * 1 ≤ am_U * u := Nat.mul_le_mul_left _ hu
  have hU2 : am_U = 3700 := rfl
  refine va_newa (atype := .int) (ty := .int) (N' := n.toNat) (a0 := (n.toNat, .inl (fun _ => Int32.ofInt 0))) B.1 B.2.1 (B.ts _ hcl) rfl B.K hR.1 hR.2.1 hS (fun x hx => Nat.le_trans B.lo hx) (fun cA => rfl) (fun q => by have := (am_lt (am_ok_hd hst) am_z0).mp q; omega) (am_cn h0 (by omega)) (by show n.toNat * 4 ≤ _; omega) (by omega) (by omega) hd (fun q cA H1 hK hP hD hS1 => ?_)
  have hA : cA = dA 0 := am_cA (hK.2 5 _ rfl).2 (hK.2 0 _ rfl).2
  subst hA
  exact am_new (c1 := cP 0 n.toNat (fun _ => 0)) k hu B h1 h2 h3 h4 h5 h6 hR.2.2 hL (am_ok_tl hst) hP hD (fun j => (show am_i32 0 from am_z0)) hS1 (by omega)
theorem T_newZ {n : Int} (hd : decode (am_cc z) pc = .ok (.newarray .boolean, 2)) (hcl : Cond.arrayClass .boolean ∈ am_G) (h0 : 0 ≤ n) (hn : n ≤ 3700) (hu : 1 ≤ u) (k : am_T S z d (u - 1) Q (pc + 2) ls (aR w.length :: st) (w ++ [cP 1 n.toNat (fun _ => 0)])) : am_T S z d u Q pc ls (aI n :: st) w := by
  intro p l e R s m args below meth c lo dC dI dA ax n0 ad0 ad H locs cells slots lsc B h1 h2 h3 h4 h5 h6 hR hL hst hS
  have hU : am_U * 1 ≤ am_U * u := Nat.mul_le_mul_left _ hu
  have hU2 : am_U = 3700 := rfl
  refine va_newa (atype := .boolean) (ty := .boolean) (N' := n.toNat) (a0 := (n.toNat, .inl (fun _ => Int32.ofInt 0))) B.1 B.2.1 (B.ts _ hcl) rfl B.K hR.1 hR.2.1 hS (fun x hx => Nat.le_trans B.lo hx) (fun cA => rfl) (fun q => by have := (am_lt (am_ok_hd hst) am_z0).mp q; omega) (am_cn h0 (by omega)) (by show n.toNat * 1 ≤ _; omega) (by omega) (by omega) hd (fun q cA H1 hK hP hD hS1 => ?_)
  have hA : cA = dA 1 := am_cA (hK.2 5 _ rfl).2 (hK.2 1 _ rfl).2
  subst hA
  exact am_new (c1 := cP 1 n.toNat (fun _ => 0)) k hu B h1 h2 h3 h4 h5 h6 hR.2.2 hL (am_ok_tl hst) hP hD (fun j => (show am_i32 0 from am_z0)) hS1 (by omega)
theorem T_newJ {n : Int} (hd : decode (am_cc z) pc = .ok (.newarray .long, 2)) (hcl : Cond.arrayClass .long ∈ am_G) (h0 : 0 ≤ n) (hn : n ≤ 3700) (hu : 1 ≤ u) (k : am_T S z d (u - 1) Q (pc + 2) ls (aR w.length :: st) (w ++ [cP 2 n.toNat (fun _ => 0)])) : am_T S z d u Q pc ls (aI n :: st) w := by
  intro p l e R s m args below meth c lo dC dI dA ax n0 ad0 ad H locs cells slots lsc B h1 h2 h3 h4 h5 h6 hR hL hst hS
  have hU : am_U * 1 ≤ am_U * u := Nat.mul_le_mul_left _ hu
  have hU2 : am_U = 3700 := rfl
  refine va_newa (atype := .long) (ty := .long) (N' := n.toNat) (a0 := (n.toNat, .inr (.inl (fun _ => Int64.ofInt 0)))) B.1 B.2.1 (B.ts _ hcl) rfl B.K hR.1 hR.2.1 hS (fun x hx => Nat.le_trans B.lo hx) (fun cA => rfl) (fun q => by have := (am_lt (am_ok_hd hst) am_z0).mp q; omega) (am_cn h0 (by omega)) (by show n.toNat * 8 ≤ _; omega) (by omega) (by omega) hd (fun q cA H1 hK hP hD hS1 => ?_)
  have hA : cA = dA 2 := am_cA (hK.2 5 _ rfl).2 (hK.2 2 _ rfl).2
  subst hA
  exact am_new (c1 := cP 2 n.toNat (fun _ => 0)) k hu B h1 h2 h3 h4 h5 h6 hR.2.2 hL (am_ok_tl hst) hP hD (fun j => (show am_i64 0 from ⟨by decide, by decide⟩)) hS1 (by omega)
end AM7
