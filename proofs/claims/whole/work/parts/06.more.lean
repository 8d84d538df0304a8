/-! what lies outside, constructors, inherited methods, throws, catches, copies, new cells -/
section AM6
variable {S : am_S} {z y : am_Z} {d u : Nat} {Q Qm : AO → AH → Prop} {pc pc' : Nat} {ls : List (Option AV)} {st st' rest as : List AV} {w : AH}
theorem am_B.E {p : Program} {l : Launch} {e : Env} {s : State} {m : MethodId} {args : Array Value} {meth : Method} {c : Code} {lo : Nat} {dC : Nat → ClassId} {dI : Nat → Nat → Nat} {dA : Nat → ClassId} {ax : Nat → Nat} (B : am_B p l e s m args meth c S z lo dC dI dA ax) : am_E S ax (fun q => lo ≤ q) s s.heap := B.2.2.2.2.2.2.2.2.2.1
theorem am_B.K {p : Program} {l : Launch} {e : Env} {s : State} {m : MethodId} {args : Array Value} {meth : Method} {c : Code} {lo : Nat} {dC : Nat → ClassId} {dI : Nat → Nat → Nat} {dA : Nat → ClassId} {ax : Nat → Nat} (B : am_B p l e s m args meth c S z lo dC dI dA ax) : va_K (dC, dI) vwCl (am_tys dA) s := B.2.2.2.2.2.2.2.2.1
theorem am_B.ts {p : Program} {l : Launch} {e : Env} {s : State} {m : MethodId} {args : Array Value} {meth : Method} {c : Code} {lo : Nat} {dC : Nat → ClassId} {dI : Nat → Nat → Nat} {dA : Nat → ClassId} {ax : Nat → Nat} (B : am_B p l e s m args meth c S z lo dC dI dA ax) : ∀ x ∈ am_G, x.before args s = true := B.2.2.2.2.1
theorem am_B.lo {p : Program} {l : Launch} {e : Env} {s : State} {m : MethodId} {args : Array Value} {meth : Method} {c : Code} {lo : Nat} {dC : Nat → ClassId} {dI : Nat → Nat → Nat} {dA : Nat → ClassId} {ax : Nat → Nat} (B : am_B p l e s m args meth c S z lo dC dI dA ax) : lo ≤ s.heap.size := B.2.2.2.2.2.2.2.2.2.2.1
theorem am_okX {n k : Nat} : am_ok n (aX k) := trivial
theorem am_okN {n : Nat} : am_ok n aN := trivial
theorem am_run {p : Program} {l : Launch} {e : Env} {R : Room} {s : State} {m : MethodId} {args : Array Value} {below : List Frame} {meth : Method} {c : Code} {H : Heap} {locs : List Loc} {cells slots mc ms : Nat} {g : JFrame} {r9 : List Value} {Qa : State → Outcome → State → Prop} {XC : String → State → State → Prop} {free : Addr → Prop} (h : va_Run p l e R s m args below meth c H locs cells slots mc ms g r9 Qa free) : vx_Run p l e R s m args below meth c H locs cells slots mc ms g r9 Qa XC free := fun T hT X => Or.inl (h T hT X)
-- what lies outside
theorem T_getturn {idx : Nat} {ref : String} (hd : decode (am_cc z) pc = .ok (.getstatic idx, 3)) (hf : Cond.fieldLink (am_own z) idx RX9 "EIGHTH_TURN" "[I" ∈ am_G) (k : am_T S z d u Q (pc + 3) ls (aX 0 :: st) w) : am_T S z d u Q pc ls st w :=
  am_read (fun p l e R s m args below meth c lo dC dI dA ax H locs cells slots Z lsc ad B hR hst hS kk => va_gets (ref := RX9) B.1 B.2.1 B.E.2.2.2.2.1 hS B.2.2.2.1 (B.ts _ hf) (fun _ h => h) hd kk) (fun hs _ => am_ok_cons am_okX hs) k
theorem T_ialoadT {i : Int} (hd : decode (am_cc z) pc = .ok (.iaload, 1)) (h0 : 0 ≤ i) (hi : i < 9) (kk : am_T S z d u Q (pc + 1) ls (aI (am_turn i.toNat) :: st) w) : am_T S z d u Q pc ls (aI i :: aX 0 :: st) w :=
  am_read (fun p l e R s m args below meth c lo dC dI dA ax H locs cells slots Z lsc ad B hR hst hS kk => va_ti B.1 B.2.1 B.E.2.2.2.2.2.1 hS (am_in h0 (by omega) (by omega)) (v := .int (Int32.ofInt (am_turn i.toNat))) (by rw [am_cn h0 (by omega)]) hd kk)
    (fun hs _ => am_ok_cons (am_okI (by
      have h : i.toNat < 9 := by omega
      generalize i.toNat = n at h
      match n, h with
      | 0, _ | 1, _ | 2, _ | 3, _ | 4, _ | 5, _ | 6, _ | 7, _ | 8, _ => exact ⟨by decide, by decide⟩)) (am_ok_tl (am_ok_tl hs))) kk
theorem T_ialoadS {i : Int} (hd : decode (am_cc z) pc = .ok (.iaload, 1)) (h0 : 0 ≤ i) (hi : i < S.1) (hs : am_i32 (S.2 i.toNat)) (kk : am_T S z d u Q (pc + 1) ls (aI (S.2 i.toNat) :: st) w) : am_T S z d u Q pc ls (aI i :: aX 1 :: st) w :=
  am_read (fun p l e R s m args below meth c lo dC dI dA ax H locs cells slots Z lsc ad B hR hst hS kk => va_sld B.1 B.2.1 B.E.2.2.2.2.2.2.1 B.E.2.2.2.2.2.2.2.1 B.E.2.2.2.2.2.2.2.2.1 hS (am_in h0 (am_ok_hd hst : am_i32 i).2 hi) hd (by rw [am_cn h0 (am_ok_hd hst : am_i32 i).2]; exact kk)) (fun h _ => am_ok_cons (am_okI hs) (am_ok_tl (am_ok_tl h))) kk
theorem T_alenS (hd : decode (am_cc z) pc = .ok (.arraylength, 1)) (hn : S.1 < 2147483648) (kk : am_T S z d u Q (pc + 1) ls (aI S.1 :: st) w) : am_T S z d u Q pc ls (aX 1 :: st) w :=
  am_read (fun p l e R s m args below meth c lo dC dI dA ax H locs cells slots Z lsc ad B hR hst hS kk => va_slen B.1 B.2.1 B.E.2.2.2.2.2.2.1 B.E.2.2.2.2.2.2.2.1 B.E.2.2.2.2.2.2.2.2.1 hS hd kk) (fun h _ => am_ok_cons (am_okI ⟨by omega, by omega⟩) (am_ok_tl h)) kk
theorem T_ldcS {idx j : Nat} {tx : String} (k9 : Nat) (hd : decode (am_cc z) pc = .ok (.ldc idx, 2)) (hl : am_lnk[k9]? = some (am_own z, idx, j, tx)) (k : am_T S z d u Q (pc + 2) ls (aX (j + 2) :: st) w) : am_T S z d u Q pc ls st w :=
  am_read (fun p l e R s m args below meth c lo dC dI dA ax H locs cells slots Z lsc ad B hR hst hS kk => va_ldcS B.1 B.2.1 B.2.2.2.1 (B.E.2.2.2.2.2.2.2.2.2.2 _ _ hl) hd kk) (fun hs _ => am_ok_cons am_okX hs) k
theorem T_strval {idx j : Nat} (hd : decode (am_cc z) pc = .ok (.getfield idx, 3)) (hj : j < 26) (hf : Cond.fieldLink (am_own z) idx "java/lang/String" "value" "[B" ∈ am_G) (k : am_T S z d u Q (pc + 3) ls (aX (j + 100) :: st) w) : am_T S z d u Q pc ls (aX (j + 2) :: st) w :=
  am_read (fun p l e R s m args below meth c lo dC dI dA ax H locs cells slots Z lsc ad B hR hst hS kk => vk_getf B.1 B.2.1 (B.E.2.2.2.2.2.2.2.2.2.1.1.1 j hj).2.2.1 hS B.2.2.2.1 (B.ts _ hf) (fun _ h => h) hd kk) (fun hs _ => am_ok_cons am_okX (am_ok_tl hs)) k
theorem T_strcod {idx j : Nat} (hd : decode (am_cc z) pc = .ok (.getfield idx, 3)) (hj : j < 26) (hf : Cond.fieldLink (am_own z) idx "java/lang/String" "coder" "B" ∈ am_G) (k : am_T S z d u Q (pc + 3) ls (aI 0 :: st) w) : am_T S z d u Q pc ls (aX (j + 2) :: st) w :=
  am_read (fun p l e R s m args below meth c lo dC dI dA ax H locs cells slots Z lsc ad B hR hst hS kk => vk_getf B.1 B.2.1 (B.E.2.2.2.2.2.2.2.2.2.1.1.1 j hj).2.1 hS B.2.2.2.1 (B.ts _ hf) (fun _ h => h) hd kk) (fun hs _ => am_ok_cons (am_okI am_z0) (am_ok_tl hs)) k
theorem T_stralen {j : Nat} (hd : decode (am_cc z) pc = .ok (.arraylength, 1)) (hj : j < 26) (hn : am_slen.getD j 0 < 100) (k : am_T S z d u Q (pc + 1) ls (aI ((am_slen.getD j 0 : Nat) : Int) :: st) w) : am_T S z d u Q pc ls (aX (j + 100) :: st) w :=
  am_read (fun p l e R s m args below meth c lo dC dI dA ax H locs cells slots Z lsc ad B hR hst hS kk => va_tlen B.1 B.2.1 (B.E.2.2.2.2.2.2.2.2.2.1.1.1 j hj).2.2.2 hS (v := Int32.ofInt ((am_slen.getD j 0 : Nat) : Int)) rfl hd kk) (fun hs _ => am_ok_cons (am_okI ⟨by omega, by omega⟩) (am_ok_tl hs)) k
theorem T_strbyte {j : Nat} {i : Int} (v : Int) (hd : decode (am_cc z) pc = .ok (.baload, 1)) (hj : j < 26) (h0 : 0 ≤ i) (hi : i < ((am_slen.getD j 0 : Nat) : Int)) (hn : am_slen.getD j 0 < 100) (hv : (am_sbyt.getD j []).getD i.toNat 0 = Int32.ofInt v) (hr : am_i32 v) (k : am_T S z d u Q (pc + 1) ls (aI v :: st) w) : am_T S z d u Q pc ls (aI i :: aX (j + 100) :: st) w :=
  am_read (fun p l e R s m args below meth c lo dC dI dA ax H locs cells slots Z lsc ad B hR hst hS kk => va_tb B.1 B.2.1 (B.E.2.2.2.2.2.2.2.2.2.1.1.1 j hj).2.2.2 hS (am_in h0 (by omega) hi) (v := .int (Int32.ofInt v)) (by rw [am_cn h0 (by omega)]; show Value.int _ = _; rw [hv]) hd kk) (fun hs _ => am_ok_cons (am_okI hr) (am_ok_tl (am_ok_tl hs))) k
theorem T_getcompact {idx : Nat} (hd : decode (am_cc z) pc = .ok (.getstatic idx, 3)) (hf : Cond.fieldLink (am_own z) idx "java/lang/String" "COMPACT_STRINGS" "Z" ∈ am_G) (k : am_T S z d u Q (pc + 3) ls (aI 1 :: st) w) : am_T S z d u Q pc ls st w :=
  am_read (fun p l e R s m args below meth c lo dC dI dA ax H locs cells slots Z lsc ad B hR hst hS kk => va_gets (ref := "java/lang/String") B.1 B.2.1 B.E.2.2.2.2.2.2.2.2.2.1.2.1 hS B.2.2.2.1 (B.ts _ hf) (fun _ h => h) hd kk) (fun hs _ => am_ok_cons (am_okI ⟨by decide, by decide⟩) hs) k
theorem T_getsioobe {idx : Nat} (hd : decode (am_cc z) pc = .ok (.getstatic idx, 3)) (hf : Cond.fieldLink (am_own z) idx "jdk/internal/util/Preconditions" "SIOOBE_FORMATTER" "Ljava/util/function/BiFunction;" ∈ am_G) (k : ∀ v : AV, (v = aN ∨ v = aX 200) → am_T S z d u Q (pc + 3) ls (v :: st) w) : am_T S z d u Q pc ls st w := by
  intro p l e R s m args below meth c lo dC dI dA ax n0 ad0 ad H locs cells slots lsc B h1 h2 h3 h4 h5 h6 hR hL hst hS
  have hZ := B.E.2.2.2.2.2.2.2.2.2.1.2.2.1
  by_cases hc : ax 201 = 0
  · rw [if_pos hc] at hZ
    exact va_gets (ref := "jdk/internal/util/Preconditions") B.1 B.2.1 hZ hS B.2.2.2.1 (B.ts _ hf) (fun _ h => h) hd (k aN (Or.inl rfl) p l e R s m args below meth c lo dC dI dA ax n0 ad0 ad H locs cells slots lsc B h1 h2 h3 h4 h5 h6 hR hL (am_ok_cons am_okN hst) hS)
  · rw [if_neg hc] at hZ
    exact va_gets (ref := "jdk/internal/util/Preconditions") B.1 B.2.1 hZ hS B.2.2.2.1 (B.ts _ hf) (fun _ h => h) hd (k (aX 200) (Or.inr rfl) p l e R s m args below meth c lo dC dI dA ax n0 ad0 ad H locs cells slots lsc B h1 h2 h3 h4 h5 h6 hR hL (am_ok_cons am_okX hst) hS)
theorem T_i2c {a : Int} (hd : decode (am_cc z) pc = .ok (.i2c, 1)) (h0 : 0 ≤ a) (h1 : a < 65536) (k : am_T S z d u Q (pc + 1) ls (aI a :: st) w) : am_T S z d u Q pc ls (aI a :: st) w :=
  am_simple (fun p l e R s m args below meth c H locs cells slots Z lsc ad ax hx hb ho ht hL hst kk => lv_i2c hx hb hd (lg_i2c_word (by rw [am_i32_i (am_ok_hd hst)]; exact h0) (by rw [am_i32_i (am_ok_hd hst)]; exact h1)) kk) (fun hs _ => hs) k
theorem T_creturn {v : Int} (hd : decode (am_cc z) pc = .ok (.ireturn, 1)) (hr : z.2.2.2.2.1 = some .char) (h0 : 0 ≤ v) (h1 : v < 65536) (hq : Q (.inl (some (aI v))) w) : am_T S z d u Q pc ls [aI v] w := by
  intro p l e R s m args below meth c lo dC dI dA ax n0 ad0 ad H locs cells slots lsc B b1 h2 h3 h4 h5 h6 hR hL hst hS
  refine vx_ret (W.widen (k := R.cells) (n := R.slots) (by omega) (by omega) (W.zret B.1 B.2.1 (B.2.2.2.2.2.1.trans hr) (by
    show Value.int _ = _
    rw [← lg_i2c_nf, lg_i2c_word (by rw [am_i32_i (am_ok_hd hst)]; exact h0) (by rw [am_i32_i (am_ok_hd hst)]; exact h1)]) (fun t ht hW => ?_) hS.2.2 hd B.2.2.2.2.2.2.1))
  exact ⟨⟨some (aI v), w, ad, rfl, h5, h6, by rw [ht]; exact hR, fun x hx => by cases hx; exact am_ok_hd hst, hq⟩, am_FE (Hs := H) hS ht⟩
theorem T_breturn0 (hd : decode (am_cc z) pc = .ok (.ireturn, 1)) (hr : z.2.2.2.2.1 = some .byte) (hq : Q (.inl (some (aI 0))) w) : am_T S z d u Q pc ls [aI 0] w := by
  intro p l e R s m args below meth c lo dC dI dA ax n0 ad0 ad H locs cells slots lsc B b1 h2 h3 h4 h5 h6 hR hL hst hS
  refine vx_ret (W.widen (k := R.cells) (n := R.slots) (by omega) (by omega) (W.zret B.1 B.2.1 (B.2.2.2.2.2.1.trans hr) rfl (fun t ht hW => ?_) hS.2.2 hd B.2.2.2.2.2.2.1))
  exact ⟨⟨some (aI 0), w, ad, rfl, h5, h6, by rw [ht]; exact hR, fun x hx => by cases hx; exact am_ok_hd hst, hq⟩, am_FE (Hs := H) hS ht⟩
-- constructors
theorem am_met {d' u' : Nat} (hM : am_M S y d' u' as w Qm) (hn : ∀ k w', ¬ Qm (.inr k) w') (l : Launch) (lo : Nat) (dC : Nat → ClassId) (dI : Nat → Nat → Nat) (dA : Nat → ClassId) (ax ad : Nat → Nat) (hl : l.stackTraces = false) (hok : ∀ v ∈ as, am_ok w.length v) :
    Met l y.2.1 (am_ws y) (am_room d' u') (am_Pc S lo dC dI dA ax w ad as) (am_Qc S dC dI dA ax lo w.length ad Qm) u' (am_U * u') (fun q => lo ≤ q) := by
  intro p e ha hf hc s m args below hfr happ hP hK
  obtain ⟨n, o, h1, h2, h3, h4⟩ := hM l lo dC dI dA ax ad hl hok p e ha hf hc s m args below hfr happ hP hK
  refine ⟨n, o, h1, h2, h3, ?_⟩
  rcases h4 with h | ⟨q, -, E, ce, L, ⟨⟨k, w', ad', -, -, -, -, -, hq⟩, -⟩, -⟩
  · exact h
  · exact absurd hq (hn k w')
theorem T_objInit {idx a : Nat} (hd : decode (am_cc z) pc = .ok (.invokespecial idx, 3)) (h1 : Cond.methodLink (am_own z) idx Lib.objectInit ∈ am_G) (h2 : Cond.instanceMethod Lib.objectInit ∈ am_G) (h3 : Cond.code Lib.objectInit ⟨#[0xb1]⟩ 1 none ∈ am_G) (hcat : (st.map am_cat).sum ≤ 8) (hd1 : 1 ≤ d) (k : am_T S z d u Q (pc + 3) ls st w) : am_T S z d u Q pc ls (aR a :: st) w := by
  intro p l e R s m args below meth c lo dC dI dA ax n0 ad0 ad H locs cells slots lsc B b1 b2 b3 b4 h5 h6 hR hL hst hS
  refine W.objInit B.1 B.2.1 B.2.2.2.1 (B.ts _ h1) (B.ts _ h2) (B.ts _ h3) rfl (hL.1.trans B.2.2.1.symm) rfl hd (by omega) (by have := am_restW (ad := ad) (ax := ax) hcat; show 2 * 0 + _ + 12 ≤ _; omega) ?_
  exact k p l e R s m args below meth c lo dC dI dA ax n0 ad0 ad H locs cells slots lsc B b1 b2 b3 b4 h5 h6 hR hL (am_ok_tl hst) hS
theorem T_invokeI {idx a d' u' : Nat} (h0t : z.2.2.2.2.2 = []) (hd : decode (am_cc z) pc = .ok (.invokespecial idx, 3)) (hlk : am_lkI (am_own z) idx y as.length) (hst : st = as.reverse ++ aR a :: rest) (hcat : (rest.map am_cat).sum ≤ 8) (hd1 : d' + 1 ≤ d) (hu : u' ≤ u)
    (hM : am_M S y d' u' (aR a :: as) w Qm) (hnt : ∀ k w', ¬ Qm (.inr k) w') (kk : ∀ v w', Qm (.inl v) w' → w.length ≤ w'.length → am_T S z d (u - u') Q (pc + 3) ls (v.toList ++ rest) w') : am_T S z d u Q pc ls st w := by
  subst hst
  intro p l e R s m args below meth c lo dC dI dA ax n0 ad0 ad H locs cells slots lsc B h1 h2 h3 h4 h5 h6 hR hL hst hS
  have hsl : am_U * u' ≤ am_U * u := Nat.mul_le_mul_left _ hu
  have cb := am_callB (R := R) (d' := d') (u' := u') B.ts hlk.1 (by omega) (by omega)
  rw [hlk.2.2.2] at cb
  refine am_goon h0t (B := B) (Qm := Qm) (u' := u') (rest := rest) h1 h2 h3 h4 h5 h6 hL (fun v hv => hst v (List.mem_append_right _ (List.mem_cons_of_mem _ hv))) hS hu
    (am_run (va_runI (As := as.map (am_v ad ax)) (b := ad a) (Ts := am_G) (nL := z.2.2.2.1) (cc := z.2.2.1) ⟨B.1, B.2.1, B.2.2.1, B.2.2.2.1, B.2.2.2.2.1⟩ (am_met hM hnt l lo dC dI dA ax ad B.2.2.2.2.2.2.2.2.2.2.2.1 (fun v hv => hst v (by
      rcases List.mem_cons.mp hv with h | h
      · rw [h]; exact List.mem_append_right _ List.mem_cons_self
      · exact List.mem_append_left _ (List.mem_reverse.mpr h))))
      ⟨cb, hlk.2.1, B.ts _ hlk.2.2.1⟩ ⟨am_blind, am_pre (as := aR a :: as) B hR hS⟩ rfl (by simp) hL.1 (by simp [am_v]) (am_restW hcat) hd ⟨by omega, by omega⟩)) kk (fun k w' h _ => absurd h (hnt k w'))
/-- inherited: the entry names x, the method is y, of a class above -/
def am_lkU (own : String) (idx : Nat) (C X : String) (y : am_Z) (n : Nat) : Prop :=
  (Cond.code y.2.1 y.2.2.1 y.2.2.2.1 y.2.2.2.2.1 ∈ am_G ∧ Cond.initialized y.2.1.cls ∈ am_G ∧ (y.2.1.cls ≠ "java/lang/invoke/MethodHandle" ∧ y.2.1.cls ≠ "java/lang/invoke/VarHandle") ∧ (parseMethodDescriptor y.2.1.desc).map (fun q => q.parameters.length) = some n ∧ y.2.2.2.1 ≤ 45) ∧
  Cond.methodLink own idx ⟨X, y.2.1.name, y.2.1.desc⟩ ∈ am_G ∧ Cond.sameMethod X y.2.1.cls y.2.1.name y.2.1.desc ∈ am_G ∧ Cond.selects C ⟨X, y.2.1.name, y.2.1.desc⟩ y.2.1 ∈ am_G ∧ Cond.instanceMethod y.2.1 ∈ am_G
theorem T_invokeU {idx a d' u' ci : Nat} {fs : List AV} {C X : String} (h0t : z.2.2.2.2.2 = []) (hd : decode (am_cc z) pc = .ok (.invokevirtual idx, 3)) (hlk : am_lkU (am_own z) idx C X y as.length) (hw : w[a]? = some (cO ci fs)) (hci : (vwCl[ci]?).map (fun q => q.1) = some C) (hst : st = as.reverse ++ aR a :: rest) (hcat : (rest.map am_cat).sum ≤ 8) (hd1 : d' + 1 ≤ d) (hu : u' ≤ u)
    (hM : am_M S y d' u' (aR a :: as) w Qm) (hnt : ∀ k w', ¬ Qm (.inr k) w') (kk : ∀ v w', Qm (.inl v) w' → w.length ≤ w'.length → am_T S z d (u - u') Q (pc + 3) ls (v.toList ++ rest) w') : am_T S z d u Q pc ls st w := by
  subst hst
  intro p l e R s m args below meth c lo dC dI dA ax n0 ad0 ad H locs cells slots lsc B h1 h2 h3 h4 h5 h6 hR hL hst hS
  have hsl : am_U * u' ≤ am_U * u := Nat.mul_le_mul_left _ hu
  obtain ⟨q, hq, hqn⟩ : ∃ q : vw_C, vwCl[ci]? = some q ∧ q.1 = C := by
    cases h : vwCl[ci]? with
    | none => rw [h] at hci; cases hci
    | some q => rw [h] at hci; exact ⟨q, rfl, Option.some.inj hci⟩
  have hrc : ∃ cellB : Cell, H[ad a]? = some cellB ∧ cellB.vm.isStatics = false ∧ s.vm.findClass C = some cellB.cls := by
    obtain ⟨r, g1, cell, q1, q2, q3, q4⟩ := hR.1 a _ (am_at hw)
    have hr : r = q := Option.some.inj (g1.symm.trans hq)
    subst hr
    refine ⟨cell, q1, by rw [q3]; rfl, ?_⟩
    rw [q2, ← hqn]
    exact (B.K.1 ci _ hq).2.1
  obtain ⟨⟨l1, l2, l3, l4, l5⟩, l6, l7, l8, l9⟩ := hlk
  refine am_goon h0t (B := B) (Qm := Qm) (u' := u') (rest := rest) h1 h2 h3 h4 h5 h6 hL (fun v hv => hst v (List.mem_append_right _ (List.mem_cons_of_mem _ hv))) hS hu
    (am_run (va_runU (x := ⟨X, y.2.1.name, y.2.1.desc⟩) (owner := y.2.1.cls) (bytes := y.2.2.1) (maxL := y.2.2.2.1) (ret := y.2.2.2.2.1) (As := as.map (am_v ad ax)) (b := ad a) (C := C) (Ts := am_G) (nL := z.2.2.2.1) (cc := z.2.2.1) ⟨B.1, B.2.1, B.2.2.1, B.2.2.2.1, B.2.2.2.2.1⟩ (am_met hM hnt l lo dC dI dA ax ad B.2.2.2.2.2.2.2.2.2.2.2.1 (fun v hv => hst v (by
      rcases List.mem_cons.mp hv with h | h
      · rw [h]; exact List.mem_append_right _ List.mem_cons_self
      · exact List.mem_append_left _ (List.mem_reverse.mpr h))))
      ⟨⟨rfl, rfl, by show d' + 1 ≤ _; omega, by show 8 + (y.2.2.2.1 + 11) + 64 * d' ≤ R.locals; omega, pay_in (big := am_G) B.ts (fun x hx => by
        rcases List.mem_cons.mp hx with e | e
        · rw [e]; exact ⟨l1, good_of_word (am_goodG l1)⟩
        · exact ⟨e, good_of_word (am_goodG e)⟩), List.mem_cons_self⟩, B.ts _ l1, B.ts _ l2, l3, fun sig hs => by
        simp only at hs
        rw [hs] at l4
        exact (Option.some.inj l4).symm, B.ts _ l6, B.ts _ l7, va_Decl.of (B.ts _ l9) (B.ts _ l1), B.ts _ l8, B.ts _ l9⟩ ⟨am_blind, hrc, am_pre (as := aR a :: as) B hR hS⟩ rfl (by simp) hL.1 (by simp [am_v]) (am_restW hcat) hd ⟨by omega, by omega⟩)) kk (fun k w' h _ => absurd h (hnt k w'))
/-- a method of a text -/
theorem T_invokeX {idx j d' u' : Nat} (h0t : z.2.2.2.2.2 = []) (hj : j < 26) (hd : decode (am_cc z) pc = .ok (.invokevirtual idx, 3)) (hlk : am_lkV (am_own z) idx y as.length) (hci : y.2.1.cls = "java/lang/String") (hst : st = as.reverse ++ aX (j + 2) :: rest) (hcat : (rest.map am_cat).sum ≤ 8) (hd1 : d' + 1 ≤ d) (hu : u' ≤ u)
    (hM : am_M S y d' u' (aX (j + 2) :: as) w Qm) (kk : ∀ v w', Qm (.inl v) w' → w.length ≤ w'.length → am_T S z d (u - u') Q (pc + 3) ls (v.toList ++ rest) w') (kx : ∀ k w', Qm (.inr k) w' → w.length ≤ w'.length → Q (.inr k) w') : am_T S z d u Q pc ls st w := by
  subst hst
  intro p l e R s m args below meth c lo dC dI dA ax n0 ad0 ad H locs cells slots lsc B h1 h2 h3 h4 h5 h6 hR hL hst hS
  have hsl : am_U * u' ≤ am_U * u := Nat.mul_le_mul_left _ hu
  have hrc : ∃ cellB : Cell, H[ax (j + 2)]? = some cellB ∧ cellB.vm.isStatics = false ∧ s.vm.findClass y.2.1.cls = some cellB.cls := by
    rw [hci]
    exact vk_recv (adK := fun i => ax (i + 2)) (i := j) B.E.2.2.2.2.2.2.2.2.2.1.1 hj hS
  refine am_goon h0t (B := B) (Qm := Qm) (u' := u') (rest := rest) h1 h2 h3 h4 h5 h6 hL (fun v hv => hst v (List.mem_append_right _ (List.mem_cons_of_mem _ hv))) hS hu
    (vx_runV (As := as.map (am_v ad ax)) (b := ax (j + 2)) (C := y.2.1.cls) (Ts := am_G) (nL := z.2.2.2.1) (cc := z.2.2.1) ⟨B.1, B.2.1, B.2.2.1, B.2.2.2.1, B.2.2.2.2.1⟩ (hM l lo dC dI dA ax ad B.2.2.2.2.2.2.2.2.2.2.2.1 (fun v hv => hst v (by
      rcases List.mem_cons.mp hv with h | h
      · rw [h]; exact List.mem_append_right _ List.mem_cons_self
      · exact List.mem_append_left _ (List.mem_reverse.mpr h))))
      ⟨am_callB B.2.2.2.2.1 hlk.1 (by omega) (by omega), B.2.2.2.2.1 _ hlk.2.1, B.2.2.2.2.1 _ hlk.2.2⟩ ⟨am_blind, hrc, am_pre (as := aX (j + 2) :: as) B hR hS⟩ rfl (by simp) hL.1 (by simp [am_v]) (am_restW hcat) hd ⟨by omega, by omega⟩) kk kx
end AM6
