/-! a static method named through a class below; what a rule is made of -/

theorem su_callS {p : Program} {l : Launch} {e : Env} {R : Room} {s : State} {m : MethodId} {args : Array Value} {below : List Frame} {meth : Method} {c : Code} {T : State} {locs : List Loc} {cells slots : Nat}
    (X : Stand p l e R s m args below meth c T locs cells slots) (hexec : p.tables.exec = Jvm.exec) {own K : String} {index : Nat} {y : MethodName} {bytes : ByteArray} {maxL : Nat} {ret : Option FieldType}
    (hown : s.vm.findClass own = some m.cls) (hlink : (Cond.methodLink own index ⟨K, y.name, y.desc⟩).before args s = true) (hsame : (Cond.sameMethod K y.cls y.name y.desc).before args s = true) (hstat : (Cond.static y).before args s = true) (hinit : (Cond.initialized y.cls).before args s = true)
    (hcode : (Cond.code y bytes maxL ret).before args s = true) (hy : y.cls ≠ "java/lang/invoke/MethodHandle" ∧ y.cls ≠ "java/lang/invoke/VarHandle")
    {W9 : Nat} {Pre : Pt → Array Value → Prop} {Post : Pt → Array Value → Option Value → Pt → Prop} {PostX : Pt → Array Value → Addr → Pt → Prop} (hK : vx_Back l R p e below s args y 3 W9 Pre Post PostX)
    {g : JFrame} (hg : g.method = m) (hsize : g.locals.size = c.maxLocals) {argsL rest : List Value} (hlen : ∀ sig, parseMethodDescriptor y.desc = some sig → argsL.length = sig.parameters.length)
    (hstack : g.stack = argsL.reverse ++ rest) (hW : 2 * g.monitorRoom + (rest.map fun v => v.category).sum ≤ W9) (hdg : decode c.code g.pc = .ok (.invokestatic index, 3))
    (hpre : ∀ vm₁, s.WarmedH vm₁ → Pre ⟨T.setVm vm₁, locs, cells, slots⟩ argsL.toArray) :
    (∃ (v : Option Value) (vm₁ : Vm) (B : Pt), s.WarmedH vm₁ ∧ Stand p l e R s m args below meth c B.U B.locs B.cells B.slots ∧ Post ⟨T.setVm vm₁, locs, cells, slots⟩ argsL.toArray v B ∧
      ∀ target, Steps p.tables e below (B.U.setTop { g with pc := g.pc + 3, stack := v.toList ++ rest }) target → Steps p.tables e below (T.setTop g) target) ∨
    (∃ (q : Addr) (vm₁ : Vm) (B : Pt), s.WarmedH vm₁ ∧ Stand p l e R s m args below meth c B.U B.locs B.cells B.slots ∧ PostX ⟨T.setVm vm₁, locs, cells, slots⟩ argsL.toArray q B ∧
      Steps p.tables e below (T.setTop g) ((B.U.setTop { g with stack := rest }).pushFrame (.throwing q))) := by
  obtain ⟨mk, hnamed⟩ := Cond.code_named hcode
  obtain ⟨methM, cM, hmethM, -, -, -, -, -, -, hsigM⟩ := Cond.code_spec hnamed hcode
  have hstatic : methM.isStatic = true := Cond.static_spec hnamed hmethM hstat
  obtain ⟨kP, hkP, -⟩ := className_of_methodNamed hnamed
  have hinitP : kP.init = .initialized := Cond.initialized_spec (findClass_of_methodNamed hnamed) hkP hinit
  obtain ⟨vm₁, X₁, hstep₁⟩ := X.invokestaticUp hexec hown hlink hsame hy hnamed hmethM hstatic hkP hinitP (g := g) hg (argsL := argsL) (rest := rest) (hlen _ hsigM) hstack hdg
  rcases hK m meth c ⟨T.setVm vm₁, locs, cells, slots⟩ { g with stack := rest } (.invokestatic index) mk argsL.toArray X₁ hg hsize hdg hW (X₁.named hnamed) (hpre vm₁ X₁.warmed) with ⟨v, B, X', hpost, hsteps⟩ | ⟨q, B, X', hpost, hsteps⟩
  · exact Or.inl ⟨v, vm₁, B, X₁.warmed, X', hpost, fun target h => hstep₁ _ fun acts => by rw [doInvoke_state]; exact hsteps.trans h⟩
  · exact Or.inr ⟨q, vm₁, B, X₁.warmed, X', hpost, hstep₁ _ fun acts => by rw [doInvoke_state]; exact hsteps⟩
def su_lk (own : String) (idx : Nat) (K : String) (y : am_Z) (n : Nat) : Prop :=
  (Cond.code y.2.1 y.2.2.1 y.2.2.2.1 y.2.2.2.2.1 ∈ am_G ∧ Cond.initialized y.2.1.cls ∈ am_G ∧ (y.2.1.cls ≠ "java/lang/invoke/MethodHandle" ∧ y.2.1.cls ≠ "java/lang/invoke/VarHandle") ∧ (parseMethodDescriptor y.2.1.desc).map (fun q => q.parameters.length) = some n ∧ y.2.2.2.1 ≤ 45) ∧ Cond.static y.2.1 ∈ am_G ∧ Cond.methodLink own idx ⟨K, y.2.1.name, y.2.1.desc⟩ ∈ am_G ∧ Cond.sameMethod K y.2.1.cls y.2.1.name y.2.1.desc ∈ am_G
theorem T_invokeSU {S : am_S} {z y : am_Z} {d u : Nat} {Q Qm : AO → AH → Prop} {pc : Nat} {ls : List (Option AV)} {st rest as : List AV} {w : AH} {K : String} {idx d' u' : Nat} (h0t : z.2.2.2.2.2 = []) (hd : decode (am_cc z) pc = .ok (.invokestatic idx, 3)) (hlk : su_lk (am_own z) idx K y as.length) (hst : st = as.reverse ++ rest) (hcat : (rest.map am_cat).sum ≤ 8) (hd1 : d' + 1 ≤ d) (hu : u' ≤ u)
    (hM : am_M S y d' u' as w Qm) (kk : ∀ v w', Qm (.inl v) w' → w.length ≤ w'.length → am_T S z d (u - u') Q (pc + 3) ls (v.toList ++ rest) w') (kx : ∀ k w', Qm (.inr k) w' → w.length ≤ w'.length → Q (.inr k) w') : am_T S z d u Q pc ls st w := by
  subst hst
  intro p l e R s m args below meth c lo dC dI dA ax n0 ad0 ad H locs cells slots lsc B h1 h2 h3 h4 h5 h6 hR hL hst hS
  have hsl : am_U * u' ≤ am_U * u := Nat.mul_le_mul_left _ hu
  obtain ⟨⟨l1, l2, l3, l4, l5⟩, l6, l7, l8⟩ := hlk
  have hMm := hM l lo dC dI dA ax ad B.2.2.2.2.2.2.2.2.2.2.2.1 (fun v hv => hst v (List.mem_append_left _ (List.mem_reverse.mpr hv)))
  have hts := B.2.2.2.2.1
  have hK : vx_Back l R p e below s args y.2.1 3 8 (PreOf R u' (am_U * u') (am_Pc S lo dC dI dA ax w ad as)) (PostOf (am_Qc S dC dI dA ax lo w.length ad Qm) u' (am_U * u') (fun q => lo ≤ q)) (vx_Post (am_XC S dC dI dA ax lo w.length ad Qm) u' (am_U * u') (fun q => lo ≤ q)) :=
    vx_back (bytes := y.2.2.1) (maxL := y.2.2.2.1) (ret := y.2.2.2.2.1) hMm am_blind rfl rfl (by show d' + 1 ≤ R.frames; omega) (by show 8 + (y.2.2.2.1 + 11) + 64 * d' ≤ R.locals; omega) (pay_in (big := am_G) hts (fun x hx => by
        rcases List.mem_cons.mp hx with e | e
        · rw [e]; exact ⟨l1, good_of_word (am_goodG l1)⟩
        · exact ⟨e, good_of_word (am_goodG e)⟩)) List.mem_cons_self (fun a' U hW => word_at hW (Or.inl (by first | rfl | simp [Cond.onTables, Cond.keeps, Cond.steady])) (hts _ l2))
  refine am_goon h0t (B := B) (Qm := Qm) (u' := u') (rest := rest) (aa := (as.map (am_v ad ax)).toArray) h1 h2 h3 h4 h5 h6 hL (fun v hv => hst v (List.mem_append_right _ hv)) hS hu ?_ kk kx
  intro T hT X
  rcases su_callS X B.1 (K := K) (bytes := y.2.2.1) (maxL := y.2.2.2.1) (ret := y.2.2.2.2.1) B.2.2.2.1 (hts _ l7) (hts _ l8) (hts _ l6) (hts _ l2) (hts _ l1) l3 hK (g := F0 m pc lsc ((as.reverse ++ rest).map (am_v ad ax))) rfl (hL.1.trans B.2.2.1.symm) (argsL := as.map (am_v ad ax)) (rest := rest.map (am_v ad ax)) (fun sig hs => by
      rw [hs] at l4
      simp only [List.length_map]
      exact (Option.some.inj l4).symm) (by simp) (am_restW hcat) (by rw [B.2.1]; exact hd)
    (fun vm₁ hW₁ => ⟨by show cells + u' ≤ R.cells; omega, by show slots + am_U * u' ≤ R.slots; omega, am_pre (as := as) B hR hS (T.setVm vm₁) hT hW₁⟩) with ⟨v, vm₁, ⟨U', l2, c2, s2⟩, hW₁, X', ⟨g', mk, t, L, e1, e2, hq, h1, hL, h2, h3⟩, st⟩ | ⟨q, vm₁, ⟨U', l2, c2, s2⟩, hW₁, X', ⟨g', mk, t, L, E, ce, e1, e2, hq, hce, hcv, hcl, h1, hL, h2, h3⟩, st⟩
  · dsimp only [Pt.U, Pt.locs, Pt.cells, Pt.slots] at X' e1 e2 h1 h2 h3 st
    subst h1; subst h2; subst h3
    exact Or.inl ⟨v, (T.setVm vm₁).calling g' mk (as.map (am_v ad ax)).toArray, t, U', L, hT, X', hL, e1, e2, hq, st⟩
  · dsimp only [Pt.U, Pt.locs, Pt.cells, Pt.slots] at X' e1 e2 h1 h2 h3 st hcl
    subst h1; subst h2; subst h3
    exact Or.inr ⟨q, (T.setVm vm₁).calling g' mk (as.map (am_v ad ax)).toArray, t, U', L, E, ce, hT, X', hL, e1, e2, hq, hce, hcv, vx_cls hW₁ hcl, st⟩
theorem T_callSU {S : am_S} {z y : am_Z} {d u : Nat} {Q : AO → AH → Prop} {pc : Nat} {ls : List (Option AV)} {st rest as : List AV} {w w1 : AH} {v : Option AV} {K : String} {idx d' : Nat} (h0t : z.2.2.2.2.2 = []) (hd : decode (am_cc z) pc = .ok (.invokestatic idx, 3)) (hlk : su_lk (am_own z) idx K y as.length) (hst : st = as.reverse ++ rest) (hcat : (rest.map am_cat).sum ≤ 8) (hd1 : d' + 1 ≤ d)
    (hM : am_Out S y d' 0 as w (.inl v) w1) (kk : w.length ≤ w1.length → am_T S z d u Q (pc + 3) ls (v.toList ++ rest) w1) : am_T S z d u Q pc ls st w :=
  T_invokeSU h0t hd hlk hst hcat hd1 (Nat.zero_le _) hM (fun v' w' hq hl => by
    obtain ⟨h1, h2⟩ := hq
    cases h1
    subst h2
    exact kk hl) (fun k w' hq _ => by cases hq.1)
theorem lkX8_105 : su_lk RX8 105 RX8 zX6_isDigit 1 := ⟨⟨am_m4 167 rfl rfl, am_m1 7 rfl rfl, ⟨by decide, by decide⟩, by decide +kernel, by decide⟩, am_m4 166 rfl rfl, am_m7 68 rfl rfl, am_m7 69 rfl rfl⟩
