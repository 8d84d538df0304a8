/-! contracts and calls -/
def am_Pc (S : am_S) (lo : Nat) (dC : Nat → ClassId) (dI : Nat → Nat → Nat) (dA : Nat → ClassId) (ax : Nat → Nat) (w : AH) (ad : Nat → Nat) (as : List AV) : Array Value → State → Prop := fun v U =>
  v = (as.map (am_v ad ax)).toArray ∧ am_R dC dI dA ax lo w ad U.heap ∧ va_K (dC, dI) vwCl (am_tys dA) U ∧ am_E S ax (fun q => lo ≤ q) U U.heap ∧ lo ≤ U.heap.size
theorem am_blind {S : am_S} {lo : Nat} {dC : Nat → ClassId} {dI : Nat → Nat → Nat} {dA : Nat → ClassId} {ax : Nat → Nat} {w : AH} {ad : Nat → Nat} {as : List AV} : FrameBlind (am_Pc S lo dC dI dA ax w ad as) := by
  intro a U g mk h
  obtain ⟨h1, h2, h3, h4, h5⟩ := h
  exact ⟨h1, h2, va_K.moved (u := U) (U := U.calling g mk a) (Vm.Alike.refl U.vm) h3, am_E.same (s := U) rfl h4, h5⟩
def am_ws (z : am_Z) : List Cond := Cond.code z.2.1 z.2.2.1 z.2.2.2.1 z.2.2.2.2.1 :: am_G
def am_room (d u : Nat) : Room := { frames := d, cells := u, slots := am_U * u, locals := 64 * d }
/-- the contract: from a heap w and arguments as the method ends with Q -/
def am_M (S : am_S) (z : am_Z) (d u : Nat) (as : List AV) (w : AH) (Q : AO → AH → Prop) : Prop :=
  ∀ (l : Launch) (lo : Nat) (dC : Nat → ClassId) (dI : Nat → Nat → Nat) (dA : Nat → ClassId) (ax ad : Nat → Nat), l.stackTraces = false → (∀ v ∈ as, am_ok w.length v) →
    vx_Met l z.2.1 (am_ws z) (am_room d u) (am_Pc S lo dC dI dA ax w ad as) (am_Qc S dC dI dA ax lo w.length ad Q) (am_XC S dC dI dA ax lo w.length ad Q) u (am_U * u) (fun q => lo ≤ q)
def am_entry (nL : Nat) (as : List AV) : List (Option AV) := as.map some ++ List.replicate (nL - as.length) none
theorem am_sl {ad ax : Nat → Nat} : ∀ (as : List AV), (∀ v ∈ as, am_cat v = 1) → lg_sl (as.map (am_v ad ax)) = as.map (fun v => Slot.val (am_v ad ax v)) := by
  intro as
  induction as with
  | nil => intro _; rfl
  | cons v t ih =>
    intro h
    have hv : (am_v ad ax v).category = 1 := by rw [am_vcat]; exact h v List.mem_cons_self
    have ht := ih (fun x hx => h x (List.mem_cons_of_mem _ hx))
    unfold lg_sl at ht ⊢
    rw [List.map_cons, List.flatMap_cons, ht, if_neg (by rw [hv]; decide)]
    rfl
theorem am_argsL {ad ax : Nat → Nat} : ∀ (as : List AV) (i : Nat), (∀ v ∈ as, am_cat v = 1) → ∀ (j : Nat) (v : AV), as[j]? = some v → (i + j, am_v ad ax v) ∈ lv_args i (as.map (am_v ad ax)) := by
  intro as
  induction as with
  | nil => intro i _ j v h; simp at h
  | cons x t ih =>
    intro i h j v hj
    have hx : (am_v ad ax x).category = 1 := by rw [am_vcat]; exact h x List.mem_cons_self
    rw [List.map_cons, lv_args, if_neg (by rw [hx]; decide)]
    cases j with
    | zero =>
      simp only [List.getElem?_cons_zero, Option.some.injEq] at hj
      subst hj
      exact List.mem_cons_self
    | succ j =>
      rw [List.getElem?_cons_succ] at hj
      have := ih (i + 1) (fun y hy => h y (List.mem_cons_of_mem _ hy)) j v hj
      rw [show i + (j + 1) = i + 1 + j by omega]
      exact List.mem_cons_of_mem _ this
theorem am_L_entry {ad ax : Nat → Nat} {n nL : Nat} {as : List AV} (hc : ∀ v ∈ as, am_cat v = 1) (hlen : as.length ≤ nL) (hok : ∀ v ∈ as, am_ok n v) : am_L ad ax n nL ((lg_sl (as.map (am_v ad ax)) ++ List.replicate (nL - (lg_sl (as.map (am_v ad ax))).length) Slot.unset).toArray) (am_entry nL as) := by
  have hl : (lg_sl (as.map (am_v ad ax))).length = as.length := by rw [am_sl as hc, List.length_map]
  have h := lv_entry (as.map (am_v ad ax)) (n := nL) (by rw [hl]; exact hlen)
  refine ⟨h.1, by simp [am_entry]; omega, h.2.1, fun i v hi => ?_⟩
  unfold am_entry at hi
  by_cases hlt : i < as.length
  · rw [List.getElem?_append_left (by simpa using hlt), List.getElem?_map] at hi
    cases hj : as[i]? with
    | none => rw [hj] at hi; cases hi
    | some x =>
      rw [hj] at hi
      cases hi
      refine ⟨h.2.2 (i, am_v ad ax v) ?_, hok _ (List.mem_of_getElem? hj)⟩
      have := am_argsL (ad := ad) (ax := ax) as 0 hc i v hj
      rw [Nat.zero_add] at this
      exact this
  · rw [List.getElem?_append_right (by simpa using hlt), List.getElem?_replicate] at hi
    split at hi <;> cases hi
theorem vx_ofWF {l : Launch} {y : MethodName} {ws ws' : List Cond} {rm : Room} {Pc : Array Value → State → Prop} {Qc : Array Value → State → Outcome → State → Prop} {XC : String → State → State → Prop} {mc ms : Nat} {free : Addr → Prop} {cc : ByteArray} {maxL : Nat} {ret : Option FieldType}
    (hy : plainFor y = true) (hw : ws = Cond.code y cc maxL ret :: ws')
    (body : ∀ p e s m args below meth c s₁, BodyLoose p l y (headSpec ws rm) cc maxL ret e s m args below meth c s₁ → c.maxLocals = maxL → (∀ x ∈ c.exceptionTable.toList, False) → Pc args s →
      W p l e (headSpec ws rm).room s m args below meth c s.heap [] 0 0 (vx_MQ below Qc XC args s mc ms free) (entryFrame m args maxL)) : vx_Met l y ws rm Pc Qc XC mc ms free := by
  refine MetFree.of_bodySF (code := cc) (maxLocals := maxL) (ret := ret) hy ?_ ?_
  · intro args s m h hn
    obtain ⟨meth, c, h1, h2, h3, h4, h5, h6, -, -⟩ := Cond.code_spec hn (atoms_spec (ws := ws) h _ (by rw [hw]; exact List.mem_cons_self))
    exact ⟨meth, c, h1, h2, h3, h4, h5, h6⟩
  · intro p e s m args below meth c s₁ B hml hP _
    have hh0 : s₁.heap = s.heap := by rw [B.state]; rfl
    have ht : ∀ x ∈ c.exceptionTable.toList, False := by
      obtain ⟨meth9, c9, h1, h2, -, -, -, -, h7, -⟩ := Cond.code_spec B.named (atoms_spec (ws := ws) B.pre _ (by rw [hw]; exact List.mem_cons_self))
      cases Option.some.inj (h1.symm.trans B.method)
      cases Option.some.inj (h2.symm.trans (Stand.of_body B).code)
      intro x hx
      rw [Array.isEmpty_iff.mp h7] at hx
      cases hx
    obtain ⟨t, a1, o, b1, b2, b3⟩ := body p e s m args below meth c s₁ B hml ht hP s₁ hh0 (Stand.of_body B)
    exact ⟨t, o, a1, b1, b2, b3⟩
/-- a body from its entry gives the contract -/
theorem am_body {S : am_S} {z : am_Z} {d u : Nat} {as : List AV} {w : AH} {Q : AO → AH → Prop} (h0t : z.2.2.2.2.2 = []) (hy : plainFor z.2.1 = true) (hown : z.1 = z.2.1.cls) (hc : ∀ v ∈ as, am_cat v = 1) (hlen : as.length ≤ z.2.2.2.1) (k : am_T S z d u Q 0 (am_entry z.2.2.2.1 as) [] w) : am_M S z d u as w Q := by
  intro l lo dC dI dA ax ad hl hok
  refine vx_ofWF (cc := z.2.2.1) (maxL := z.2.2.2.1) (ret := z.2.2.2.2.1) (ws' := am_G) hy rfl ?_
  intro p e s m args below meth c s₁ B hml htab hv
  obtain ⟨rfl, hR, hK, hE, hlo⟩ := hv
  have hts : ∀ x ∈ am_G, x.before ((as.map (am_v ad ax)).toArray) s = true := fun x hx => atoms_spec (ws := am_ws z) B.pre x (List.mem_cons_of_mem _ hx)
  have hown2 : s.vm.findClass z.1 = some m.cls := by rw [hown]; exact findClass_of_methodNamed B.named
  have hname : meth.name = z.2.1.name := (name_of_methodNamed B.named B.method).1
  rw [lg_entry_eq]
  exact k p l e _ s m _ below meth c lo dC dI dA ax w.length ad ad s.heap [] 0 0 _ ⟨B.exec, B.bytes, hml, hown2, hts, B.returns, B.notSynchronized, by rw [h0t]; exact List.eq_nil_iff_forall_not_mem.mpr (fun q hq => htab q hq), hK, hE, hlo, hl, hname⟩ (Nat.le_refl _) (Nat.le_refl _) (by show 0 + u ≤ u; omega) (by show 0 + am_U * u ≤ am_U * u; omega) (fun _ _ => rfl) (Nat.le_refl _) hR (am_L_entry hc hlen hok) (fun v hv => by cases hv) va_S.rf
theorem am_mem {x : Cond} (i : Nat) (h : lw_tbl[i]? = some x) (hg : goodWord x = true) : x ∈ am_G := List.mem_filter.mpr ⟨List.mem_of_getElem? h, hg⟩
theorem am_goodG {x : Cond} (h : x ∈ am_G) : goodWord x = true := (List.mem_filter.mp h).2
/-- what the tables say of a method and of an entry that names it -/
def am_lk (own : String) (idx : Nat) (y : am_Z) (n : Nat) : Prop :=
  Cond.methodLink own idx y.2.1 ∈ am_G ∧ Cond.code y.2.1 y.2.2.1 y.2.2.2.1 y.2.2.2.2.1 ∈ am_G ∧ Cond.initialized y.2.1.cls ∈ am_G ∧ (y.2.1.cls ≠ "java/lang/invoke/MethodHandle" ∧ y.2.1.cls ≠ "java/lang/invoke/VarHandle") ∧ (parseMethodDescriptor y.2.1.desc).map (fun q => q.parameters.length) = some n ∧ y.2.2.2.1 ≤ 45
def am_lkV (own : String) (idx : Nat) (y : am_Z) (n : Nat) : Prop := am_lk own idx y n ∧ Cond.instanceMethod y.2.1 ∈ am_G ∧ Cond.selects y.2.1.cls y.2.1 y.2.1 ∈ am_G
def am_lkS (own : String) (idx : Nat) (y : am_Z) (n : Nat) : Prop := am_lk own idx y n ∧ Cond.static y.2.1 ∈ am_G
def am_lkI (own : String) (idx : Nat) (y : am_Z) (n : Nat) : Prop := am_lk own idx y n ∧ y.2.1.name = "<init>" ∧ Cond.instanceMethod y.2.1 ∈ am_G ∧ y.2.2.2.2.1 = none
section AM5
variable {S : am_S} {z y : am_Z} {d u : Nat} {Q Qm : AO → AH → Prop} {pc : Nat} {ls : List (Option AV)} {st rest as : List AV} {w : AH}
theorem am_callB {R : Room} {s : State} {args : Array Value} {own : String} {idx n d' u' : Nat} (hts : ∀ x ∈ am_G, x.before args s = true) (h : am_lk own idx y n) (hd : d' + 1 ≤ R.frames) (hl : 64 * (d' + 1) ≤ R.locals) : CallB R s args own idx y.2.1 y.2.2.1 y.2.2.2.1 y.2.2.2.2.1 (am_ws y) (am_room d' u') u' (am_U * u') n := by
  obtain ⟨h1, h2, h3, h4, h5, h6⟩ := h
  refine ⟨rfl, rfl, hd, by show 8 + (y.2.2.2.1 + 11) + 64 * d' ≤ R.locals; omega, pay_in (big := am_G) hts (fun x hx => ?_), List.mem_cons_self, hts _ h2, hts _ h3, h4, fun sig hs => ?_, hts _ h1⟩
  · rcases List.mem_cons.mp hx with e | e
    · rw [e]; exact ⟨h2, good_of_word (am_goodG h2)⟩
    · exact ⟨e, good_of_word (am_goodG e)⟩
  · rw [hs] at h5
    exact (Option.some.inj h5).symm
theorem am_ad {n : Nat} {ad ad' ax : Nat → Nat} (h : ∀ i, i < n → ad' i = ad i) {st : List AV} (hs : ∀ v ∈ st, am_ok n v) : st.map (am_v ad' ax) = st.map (am_v ad ax) := List.map_congr_left fun v hv => am_v_ext h (hs v hv)
theorem am_L_ext {ad ad' ax : Nat → Nat} {n n' nL : Nat} {lsc : Array Slot} {ls : List (Option AV)} (h : am_L ad ax n nL lsc ls) (ha : ∀ i, i < n → ad' i = ad i) (hn : n ≤ n') : am_L ad' ax n' nL lsc ls :=
  ⟨h.1, h.2.1, h.2.2.1, fun i v hi => ⟨by rw [am_v_ext ha (h.2.2.2 i v hi).2]; exact (h.2.2.2 i v hi).1, am_ok_mono hn (h.2.2.2 i v hi).2⟩⟩
/-- what a run of a callee gives its caller -/
theorem am_goon {p : Program} {l : Launch} {e : Env} {R : Room} {s : State} {m : MethodId} {args : Array Value} {below : List Frame} {meth : Method} {c : Code} {lo : Nat} {dC : Nat → ClassId} {dI : Nat → Nat → Nat} {dA : Nat → ClassId} {ax : Nat → Nat} {n0 : Nat} {ad0 ad : Nat → Nat} {H : Heap} {locs : List Loc} {cells slots : Nat} {lsc : Array Slot} {u' : Nat} {aa : Array Value} {st0 : List Value}
    (h0t : z.2.2.2.2.2 = []) (B : am_B p l e s m args meth c S z lo dC dI dA ax) (h1 : d ≤ R.frames) (h2 : 64 * d ≤ R.locals) (h3 : cells + u ≤ R.cells) (h4 : slots + am_U * u ≤ R.slots) (h5 : ∀ i, i < n0 → ad i = ad0 i) (h6 : n0 ≤ w.length) (hL : am_L ad ax w.length z.2.2.2.1 lsc ls) (hrest : ∀ v ∈ rest, am_ok w.length v) (hS : va_S (fun q => lo ≤ q) s.heap H locs) (hu : u' ≤ u)
    (hr : vx_Run p l e R s m args below meth c H locs cells slots u' (am_U * u') (F0 m pc lsc st0) (rest.map (am_v ad ax)) (am_Qc S dC dI dA ax lo w.length ad Qm aa) (am_XC S dC dI dA ax lo w.length ad Qm) (fun q => lo ≤ q))
    (kk : ∀ v w', Qm (.inl v) w' → w.length ≤ w'.length → am_T S z d (u - u') Q (pc + 3) ls (v.toList ++ rest) w') (kx : ∀ k w', Qm (.inr k) w' → w.length ≤ w'.length → Q (.inr k) w') :
    W p l e R s m args below meth c H locs cells slots (vx_MQ below (am_Qc S dC dI dA ax lo n0 ad0 Q) (am_XC S dC dI dA ax lo n0 ad0 Q) args s R.cells R.slots (fun q => lo ≤ q)) (F0 m pc lsc st0) := by
  intro T hT X
  have hsl : am_U * u' + am_U * (u - u') = am_U * u := by rw [← Nat.mul_add]; congr 1; omega
  rcases hr T hT X with ⟨v, st₀, t, T', L, h0, X', hLq, e1, e2, ⟨⟨v', w', ad', g1, g2, g3, g4, g5, g6⟩, hF⟩, sg⟩ | ⟨q, st₀, t, T', L, E, ce, h0, X', hLq, e1, e2, ⟨⟨k, w', ad', gk, g1, g2, g3, g4, g6⟩, hF⟩, hce, hcv, hcl, sg⟩
  · cases g1
    obtain ⟨k1, k2, k3⟩ := vx_keep h0 e1 hS (fun q _ h => h) (fun q h => h) hLq hF
    obtain ⟨t2, a1, b1⟩ := kk v' w' g6 g3 p l e R s m args below meth c lo dC dI dA ax n0 ad0 ad' T'.heap (locs ++ L) (cells + u') (slots + am_U * u') lsc B h1 h2 (by omega) (by omega) (fun i hi => (g2 i (by omega)).trans (h5 i hi)) (by omega) (by rw [e1]; exact g4) (am_L_ext hL g2 g3) (fun x hx => by
      rcases List.mem_append.mp hx with hx | hx
      · cases v' with
        | none => cases hx
        | some y => cases List.mem_singleton.mp hx; exact g5 _ rfl
      · exact am_ok_mono g3 (hrest x hx)) k3 T' rfl X'
    refine ⟨t2, sg t2 ?_, b1⟩
    rw [List.map_append, am_ad g2 hrest] at a1
    cases v' with
    | none => exact a1
    | some y => exact a1
  · obtain ⟨k1, k2, k3⟩ := vx_keep h0 e1 hS (fun q _ h => h) (fun q h => h) hLq hF
    have hw := vx_out (p := p) (l := l) (e := e) (R := R) (s := s) (m := m) (args := args) (below := below) (meth := meth) (c := c) (H := T'.heap) (locs := locs ++ L) (cells := cells + u') (slots := slots + am_U * u') (mc := R.cells) (ms := R.slots) (free := fun q => lo ≤ q) (ls := lsc) (rest := rest.map (am_v ad ax)) (Qc := am_Qc S dC dI dA ax lo n0 ad0 Q) (XC := am_XC S dC dI dA ax lo n0 ad0 Q) (pc := pc) (E := E) (q := q)
      (fun x hx => (by rw [B.2.2.2.2.2.2.2.1, h0t] at hx; cases hx)) B.2.2.2.2.2.2.1 (by rw [e1]; exact hce) hcv hcl
      (fun t2 ht2 _ => ⟨⟨k, w', ad', gk, g1, fun i hi => (g2 i (by omega)).trans (h5 i hi), by omega, by rw [ht2, e1]; exact g4, kx k w' g6 g3⟩, am_FE (Hs := H) k3 ht2⟩) k3.2.2 (by omega) (by omega)
    obtain ⟨t2, a1, b1⟩ := hw T' rfl X'
    exact ⟨t2, sg.trans a1, b1⟩
theorem am_restW {ad ax : Nat → Nat} {st : List AV} (h : (st.map am_cat).sum ≤ 8) : 2 * (0 : Nat) + ((st.map (am_v ad ax)).map fun v => v.category).sum ≤ 8 := by
  have : (st.map (am_v ad ax)).map (fun v => v.category) = st.map am_cat := by
    rw [List.map_map]
    exact List.map_congr_left fun v _ => am_vcat ad ax v
  rw [this]
  omega
theorem am_pre {p : Program} {l : Launch} {e : Env} {s : State} {m : MethodId} {args : Array Value} {meth : Method} {c : Code} {lo : Nat} {dC : Nat → ClassId} {dI : Nat → Nat → Nat} {dA : Nat → ClassId} {ax ad : Nat → Nat} {H : Heap} {locs : List Loc} (B : am_B p l e s m args meth c S z lo dC dI dA ax) (hR : am_R dC dI dA ax lo w ad H) (hS : va_S (fun q => lo ≤ q) s.heap H locs) :
    ∀ U : State, U.heap = H → s.WarmedH U.vm → am_Pc S lo dC dI dA ax w ad as ((as.map (am_v ad ax)).toArray) U := by
  intro U hU hW
  have hk : ∀ q : Nat, q < s.heap.size → ¬ lo ≤ q → H[q]? = s.heap[q]? := hS.2.1
  refine ⟨rfl, by rw [hU]; exact hR, va_K.moved hW.alike B.2.2.2.2.2.2.2.2.1, ?_, ?_⟩
  · rw [hU]
    exact am_E.kept hS.1 hk (am_E.warm hW B.2.2.2.2.2.2.2.2.2.1)
  · rw [hU]
    exact Nat.le_trans B.2.2.2.2.2.2.2.2.2.2.1 hS.1
/-- a method of the object's own class -/
theorem T_invokeV {idx a d' u' ci : Nat} {fs : List AV} (h0t : z.2.2.2.2.2 = []) (hd : decode (am_cc z) pc = .ok (.invokevirtual idx, 3)) (hlk : am_lkV (am_own z) idx y as.length) (hw : w[a]? = some (cO ci fs)) (hci : (vwCl[ci]?).map (fun q => q.1) = some y.2.1.cls) (hst : st = as.reverse ++ aR a :: rest) (hcat : (rest.map am_cat).sum ≤ 8) (hd1 : d' + 1 ≤ d) (hu : u' ≤ u)
    (hM : am_M S y d' u' (aR a :: as) w Qm) (kk : ∀ v w', Qm (.inl v) w' → w.length ≤ w'.length → am_T S z d (u - u') Q (pc + 3) ls (v.toList ++ rest) w') (kx : ∀ k w', Qm (.inr k) w' → w.length ≤ w'.length → Q (.inr k) w') : am_T S z d u Q pc ls st w := by
  subst hst
  intro p l e R s m args below meth c lo dC dI dA ax n0 ad0 ad H locs cells slots lsc B h1 h2 h3 h4 h5 h6 hR hL hst hS
  have hsl : am_U * u' ≤ am_U * u := Nat.mul_le_mul_left _ hu
  obtain ⟨q, hq, hqn⟩ : ∃ q : vw_C, vwCl[ci]? = some q ∧ q.1 = y.2.1.cls := by
    cases h : vwCl[ci]? with
    | none => rw [h] at hci; cases hci
    | some q => rw [h] at hci; exact ⟨q, rfl, Option.some.inj hci⟩
  have hrc : ∃ cellB : Cell, H[ad a]? = some cellB ∧ cellB.vm.isStatics = false ∧ s.vm.findClass y.2.1.cls = some cellB.cls := by
    obtain ⟨r, g1, cell, q1, q2, q3, q4⟩ := hR.1 a _ (am_at hw)
    have hr : r = q := Option.some.inj (g1.symm.trans hq)
    subst hr
    refine ⟨cell, q1, by rw [q3]; rfl, ?_⟩
    rw [q2, ← hqn]
    exact (B.2.2.2.2.2.2.2.2.1.1 ci _ hq).2.1
  refine am_goon h0t (B := B) (Qm := Qm) (u' := u') (rest := rest) h1 h2 h3 h4 h5 h6 hL (fun v hv => hst v (List.mem_append_right _ (List.mem_cons_of_mem _ hv))) hS hu
    (vx_runV (As := as.map (am_v ad ax)) (b := ad a) (C := y.2.1.cls) (Ts := am_G) (nL := z.2.2.2.1) (cc := z.2.2.1) ⟨B.1, B.2.1, B.2.2.1, B.2.2.2.1, B.2.2.2.2.1⟩ (hM l lo dC dI dA ax ad B.2.2.2.2.2.2.2.2.2.2.2.1 (fun v hv => hst v (by
      rcases List.mem_cons.mp hv with h | h
      · rw [h]; exact List.mem_append_right _ List.mem_cons_self
      · exact List.mem_append_left _ (List.mem_reverse.mpr h))))
      ⟨am_callB B.2.2.2.2.1 hlk.1 (by omega) (by omega), B.2.2.2.2.1 _ hlk.2.1, B.2.2.2.2.1 _ hlk.2.2⟩ ⟨am_blind, hrc, am_pre (as := aR a :: as) B hR hS⟩ rfl (by simp) hL.1 (by simp [am_v]) (am_restW hcat) hd ⟨by omega, by omega⟩) kk kx
/-- a static method -/
theorem T_invokeS {idx d' u' : Nat} (h0t : z.2.2.2.2.2 = []) (hd : decode (am_cc z) pc = .ok (.invokestatic idx, 3)) (hlk : am_lkS (am_own z) idx y as.length) (hst : st = as.reverse ++ rest) (hcat : (rest.map am_cat).sum ≤ 8) (hd1 : d' + 1 ≤ d) (hu : u' ≤ u)
    (hM : am_M S y d' u' as w Qm) (kk : ∀ v w', Qm (.inl v) w' → w.length ≤ w'.length → am_T S z d (u - u') Q (pc + 3) ls (v.toList ++ rest) w') (kx : ∀ k w', Qm (.inr k) w' → w.length ≤ w'.length → Q (.inr k) w') : am_T S z d u Q pc ls st w := by
  subst hst
  intro p l e R s m args below meth c lo dC dI dA ax n0 ad0 ad H locs cells slots lsc B h1 h2 h3 h4 h5 h6 hR hL hst hS
  have hsl : am_U * u' ≤ am_U * u := Nat.mul_le_mul_left _ hu
  refine am_goon h0t (B := B) (Qm := Qm) (u' := u') (rest := rest) h1 h2 h3 h4 h5 h6 hL (fun v hv => hst v (List.mem_append_right _ hv)) hS hu
    (vx_runS (As := as.map (am_v ad ax)) (Ts := am_G) (nL := z.2.2.2.1) (cc := z.2.2.1) ⟨B.1, B.2.1, B.2.2.1, B.2.2.2.1, B.2.2.2.2.1⟩ (hM l lo dC dI dA ax ad B.2.2.2.2.2.2.2.2.2.2.2.1 (fun v hv => hst v (List.mem_append_left _ (List.mem_reverse.mpr hv))))
      ⟨am_callB B.2.2.2.2.1 hlk.1 (by omega) (by omega), B.2.2.2.2.1 _ hlk.2⟩ ⟨am_blind, am_pre (as := as) B hR hS⟩ rfl (by simp) hL.1 (by simp) (am_restW hcat) hd ⟨by omega, by omega⟩) kk kx
end AM5
