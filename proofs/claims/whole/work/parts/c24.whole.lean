/-! THE CLAIM OUT OF ONE WALK OF THE LAW'S BODY. Your part is whole_start (and what it stands on); all else here is the same for every law, but numbers. -/
def R_law : String := "HarbourFogLaw"
def lw_P (b : Addr) (xs : List Int32) (args : Array Value) (s : State) : Prop := args = #[.ref b] ∧ s.IntsAt b xs ∧ xs.length ≤ 3072 ∧ (Jvm.Cond.and given_1 narrow_1).before args s = true
def lw_Q (_ : Array Value) (s : State) (o : Outcome) (t : State) : Prop := o = .returned (some (.int 1)) ∧ Framed s o t [] 601024 7293034
def lw_Z (below : List Frame) (a : Array Value) (s : State) : State → Prop := fun t => ∃ o, t.status = .running ∧ Ended t below o ∧ lw_Q a s o t
/-- the law's own end, with 1 on the stack, nothing written that was there before, its room as the claim has it -/
theorem lw_ret {p : Program} {l : Launch} {e : Env} {s : State} {m : MethodId} {below : List Frame} {meth : Method} {c : Code} {b : Nat} (hx : p.tables.exec = Jvm.exec) (hb : c.code = code) (hr : meth.sig.returnType = ret) (hlocks : meth.locks = false) {pc : Nat} {H : Heap} {ls : Array Slot} (hdg : decode code pc = .ok (.ireturn, 1)) : W p l e room_1 s m #[Value.ref b] below meth c H [] 601024 7293034 (lw_Z below #[Value.ref b] s) (F0 m pc ls [.int 1]) := by
  intro T hT X
  obtain ⟨fs, hret, hrun, hended, hW, hframe⟩ := X.leave (v := some (.int 1)) (hlocks := hlocks) (fun h => by rw [hr] at h; cases h)
  have hmeth' : T.vm.method? m = some meth := X.method'
  refine ⟨T.setFrames fs, ?_, .returned (some (.int 1)), hrun, hended, rfl, ⟨_, rfl⟩, hW, hframe⟩
  jvm_step X.here [X.here.top, hx, hb, hdg, hmeth', hr, ret, narrow_b1]
  (try refine ⟨rfl, ?_⟩); (try refine ⟨rfl, ?_⟩)
  first | (intro acts; rw [hret _ acts rfl rfl rfl]) | rw [hret _ _ rfl rfl rfl]
  exact Steps.refl _
/-- what holds at the law's entry: the machine, the code, the tables' words (any of lw_tbl by 'hts w (by decide +kernel)'), the script of L ints xs at the cell b, what the Statement gives of the start (any of its parts by flat_of_before) -/
def lw_At (p : Program) (s : State) (m : MethodId) (meth : Method) (c : Code) (b L : Nat) (xs : Nat → Int32) : Prop :=
  p.tables.exec = Jvm.exec ∧ c.code = code ∧ meth.sig.returnType = ret ∧ c.maxLocals = 7 ∧ s.vm.findClass R_law = some m.cls ∧ (∀ w ∈ lw_tbl, w.before #[Value.ref b] s = true) ∧ va_X b L xs s s.heap ∧ b < s.heap.size ∧ meth.locks = false ∧ (Jvm.Cond.and given_1 narrow_1).before #[Value.ref b] s = true ∧ c.exceptionTable.toList = [] ∧ meth.name = "law"
/-- the classes and the arrays, at the start -/
theorem st_K {args : Array Value} {s : State} (hts : ∀ w ∈ lw_tbl, w.before args s = true) : ∃ (dC : Nat → ClassId) (dI : Nat → Nat → Nat) (dA : Nat → ClassId), va_K (dC, dI) vwCl (am_tys dA) s := by
  have hG : ∀ w ∈ am_G, w.before args s = true := fun w hw => hts w (List.mem_filter.mp hw).1
  obtain ⟨c0, i0, k0⟩ := u_known (C := RX0) (T := TX0) (N := 6) (n := 6) hG clw0 (hts _ (tb_m2 94 rfl))
  obtain ⟨c1, i1, k1⟩ := u_known (C := RX1) (T := TX1) (N := 7) (n := 7) hG clw1 (hts _ (tb_m2 120 rfl))
  obtain ⟨c2, i2, k2⟩ := u_known (C := RX2) (T := TX2) (N := 2) (n := 2) hG clw2 (hts _ (tb_m2 81 rfl))
  obtain ⟨c3, i3, k3⟩ := u_known (C := RX3) (T := TX3) (N := 14) (n := 14) hG clw3 (hts _ (tb_m1 37 rfl))
  obtain ⟨c4, i4, k4⟩ := u_known (C := RX4) (T := TX4) (N := 3) (n := 3) hG clw4 (hts _ (tb_m2 155 rfl))
  obtain ⟨c5, i5, k5⟩ := u_known (C := RX5) (T := TX5) (N := 11) (n := 11) hG clw5 (hts _ (tb_m1 184 rfl))
  obtain ⟨c6, i6, k6⟩ := u_known (C := RX7) (T := TX7) (N := 6) (n := 6) hG clw6 (hts _ (tb_m1 158 rfl))
  obtain ⟨c7, i7, k7⟩ := u_known (C := RX8) (T := TX8) (N := 7) (n := 7) hG clw7 (hts _ (tb_m1 239 rfl))
  obtain ⟨c8, i8, k8⟩ := u_known (C := RX9) (T := TX9) (N := 15) (n := 15) hG clw8 (hts _ (tb_m2 15 rfl))
  obtain ⟨c9, i9, k9⟩ := u_known (C := RX10) (T := TX10) (N := 3) (n := 3) hG clw9 (hts _ (tb_m1 43 rfl))
  obtain ⟨c10, i10, k10⟩ := u_known (C := RX11) (T := TX11) (N := 20) (n := 20) hG clw10 (hts _ (tb_m1 29 rfl))
  obtain ⟨c11, i11, k11⟩ := u_known (C := RX12) (T := TX12) (N := 69) (n := 69) hG clw11 (hts _ (tb_m8 47 rfl))
  obtain ⟨a0, kA0, comp0, f0, g0, e0⟩ := Cond.arrayClass_spec (hts _ (tb_m1 68 rfl))
  obtain ⟨a1, kA1, comp1, f1, g1, e1⟩ := Cond.arrayClass_spec (hts _ (tb_m2 118 rfl))
  obtain ⟨a2, kA2, comp2, f2, g2, e2⟩ := Cond.arrayClass_spec (hts _ (tb_m11 118 rfl))
  have hAOA : va_AOA .int s := hts _ (tb_m8 53 rfl)
  obtain ⟨comp3, a3, kA3, x3, -, g3, e3, f3⟩ := hAOA.spec
  have hAO : va_AO RX4 s := hts _ (tb_m2 154 rfl)
  obtain ⟨comp4, a4, kA4, x4, -, g4, e4, f4⟩ := Cond.arrayOver_spec (args := args) (first := s) (o := none) (s := s) (idx := []) (n := RX4) hAO
  refine ⟨fun k => match k with
    | 0 => c0
    | 1 => c1
    | 2 => c2
    | 3 => c3
    | 4 => c4
    | 5 => c5
    | 6 => c6
    | 7 => c7
    | 8 => c8
    | 9 => c9
    | 10 => c10
    | _ => c11, fun k => match k with
    | 0 => i0
    | 1 => i1
    | 2 => i2
    | 3 => i3
    | 4 => i4
    | 5 => i5
    | 6 => i6
    | 7 => i7
    | 8 => i8
    | 9 => i9
    | 10 => i10
    | _ => i11, fun k => match k with
    | 0 => a0
    | 1 => a1
    | 2 => a2
    | 3 => a3
    | _ => a4, fun k q hq => ?_, fun k q hq => ?_⟩
  · match k, hq with
    | 0, hq => cases hq; exact k0
    | 1, hq => cases hq; exact k1
    | 2, hq => cases hq; exact k2
    | 3, hq => cases hq; exact k3
    | 4, hq => cases hq; exact k4
    | 5, hq => cases hq; exact k5
    | 6, hq => cases hq; exact k6
    | 7, hq => cases hq; exact k7
    | 8, hq => cases hq; exact k8
    | 9, hq => cases hq; exact k9
    | 10, hq => cases hq; exact k10
    | 11, hq => cases hq; exact k11
    | n + 12, hq => cases hq
  · match k, hq with
    | 0, hq => cases hq; exact ⟨fun n z => ⟨fun k h => (by cases h), kA0, g0, comp0, e0⟩, f0⟩
    | 1, hq => cases hq; exact ⟨fun n z => ⟨fun k h => (by cases h), kA1, g1, comp1, e1⟩, f1⟩
    | 2, hq => cases hq; exact ⟨fun n z => ⟨fun k h => (by cases h), kA2, g2, comp2, e2⟩, f2⟩
    | 3, hq => cases hq; exact ⟨fun n z => ⟨fun k h => (by cases h), kA3, g3, comp3, e3⟩, f3⟩
    | 4, hq => cases hq; exact ⟨fun n z => ⟨fun k h => (by cases h), kA4, g4, comp4, e4⟩, kA4, comp4, g4, e4, x4, f4⟩
    | n + 5, hq => cases hq
theorem st_eqR {args : Array Value} {s : State} {t u : Term} {a : Nat} (h : (Cond.eq t u).before args s = true) (ht : t.eval args s none [] s = some (.ref a)) : u.eval args s none [] s = some (.ref a) := by
  cases hu : u.eval args s none [] s with
  | none => simp [Cond.before, Cond.holds, Cond.value, ht, hu] at h
  | some v =>
    cases v <;> simp_all [Cond.before, Cond.holds, Cond.value]
/-- the addresses of what lies outside -/
def ax9 (t b : Nat) (adK adV : Nat → Nat) (t2 e2 : Nat) : Nat → Nat := fun n => if n = 0 then t else if n = 1 then b else if n < 100 then adK (n - 2) else if n < 200 then adV (n - 100) else if n = 200 then t2 else e2
theorem st_E {args : Array Value} {s : State} {b L : Nat} {xs : Nat → Int32} (hts : ∀ w ∈ lw_tbl, w.before args s = true) (hgv : (Jvm.Cond.and given_1 narrow_1).before args s = true) (hX : va_X b L xs s s.heap) (hbl : b < s.heap.size) : ∃ ax : Nat → Nat, ax 1 = b ∧ am_E (L, fun j => (xs j).toInt) ax (fun q => s.heap.size ≤ q) s s.heap := by
  have h : narrow_1.before args s = true := gv_2 hgv
  have hA : ∀ a : Nat, a < s.heap.size → ¬ (fun q : Nat => s.heap.size ≤ q) a := fun a ha => Nat.not_le.mpr ha
  obtain ⟨t, ht, hT⟩ := en_turn (A := fun q : Nat => s.heap.size ≤ q) h hA
  obtain ⟨adK, adV, hS, hev⟩ := en_S (A := fun q : Nat => s.heap.size ≤ q) h hA
  have hZ : ∃ t2 e2 : Nat, va_Z "jdk/internal/util/Preconditions" "SIOOBE_FORMATTER" "Ljava/util/function/BiFunction;" (if e2 = 0 then .null else .ref t2) (fun q => s.heap.size ≤ q) s s.heap := by
    rcases va_Zqof (A := fun q : Nat => s.heap.size ≤ q) (hts _ (tb_m4 118 rfl)) (hts _ (tb_m1 23 rfl)) (gl_17 h) hA with h1 | ⟨t2, h1⟩
    · exact ⟨0, 0, by rw [if_pos rfl]; exact h1⟩
    · exact ⟨t2, 1, by rw [if_neg (by decide)]; exact h1⟩
  obtain ⟨t2, e2, hZ⟩ := hZ
  refine ⟨ax9 t b adK adV t2 e2, rfl, vx_Zqof (hts _ (tb_m3 235 rfl)) (hts _ (tb_m1 17 rfl)) (gl_14 h) hA, vx_Zqof (hts _ (tb_m3 237 rfl)) (hts _ (tb_m1 17 rfl)) (gl_15 h) hA, fun k hk => ?_, fun i j hi hj hn => ?_, va_Zof (hts _ (tb_m3 39 rfl)) (hts _ (tb_m1 10 rfl)) ht hA, hT, ?_, hbl, Nat.not_le.mpr hbl, ⟨vk_Scongr (fun i hi => ?_) (fun i hi => ?_) hS, va_Zof (hts _ (tb_m4 102 rfl)) (hts _ (tb_m1 21 rfl)) (va_eqi (gl_16 h)) hA, hZ, va_AO.of (hts _ (tb_m2 154 rfl)), hts _ (tb_m8 53 rfl)⟩, fun i q hq => ?_⟩
  · match k, hk with
    | 0, _ => exact va_Nw.of rfl (hts _ (tb_m5 65 rfl))
    | 1, _ => exact va_Nw.of rfl (hts _ (tb_m5 115 rfl))
    | 2, _ => exact va_Nw.of rfl (hts _ (tb_m3 210 rfl))
    | n + 3, hk => exact absurd hk (by omega)
  · match i, j, hi, hj, hn with
    | 0, 0, _, _, hn => exact absurd rfl hn
    | 0, 1, _, _, _ => exact va_Nc.of (gl_62 h)
    | 0, 2, _, _, _ => exact va_Nc.of (gl_33 h)
    | 1, 0, _, _, _ => exact va_Nc.of (gl_48 h)
    | 1, 1, _, _, hn => exact absurd rfl hn
    | 1, 2, _, _, _ => exact va_Nc.of (gl_34 h)
    | 2, 0, _, _, _ => exact va_Nc.of (gl_47 h)
    | 2, 1, _, _, _ => exact va_Nc.of (gl_61 h)
    | 2, 2, _, _, hn => exact absurd rfl hn
    | n + 3, _, hi, _, _ => exact absurd hi (by omega)
    | _, n + 3, _, hj, _ => exact absurd hj (by omega)
  · have e : (fun j => Int32.ofInt ((fun j => (xs j).toInt) j)) = xs := funext fun j => Int32.ofInt_toInt (xs j)
    show va_X b L (fun j => Int32.ofInt ((fun j => (xs j).toInt) j)) s s.heap
    rw [e]
    exact hX
  · show adK i = ax9 t b adK adV t2 e2 (i + 2)
    unfold ax9
    rw [if_neg (by omega), if_neg (by omega), if_pos (by omega), Nat.add_sub_cancel]
  · show adV i = ax9 t b adK adV t2 e2 (i + 100)
    unfold ax9
    rw [if_neg (by omega), if_neg (by omega), if_neg (by omega), if_pos (by omega), Nat.add_sub_cancel]
  · match i, hq with
    | 0, hq => cases hq; exact vk_R.of (hts _ (tb_m4 86 rfl)) (by rw [show ax9 t b adK adV t2 e2 (0 + 2) = adK 0 from rfl]; exact hev 0 (by decide))
    | 1, hq => cases hq; exact vk_R.of (hts _ (tb_m4 141 rfl)) (by rw [show ax9 t b adK adV t2 e2 (1 + 2) = adK 1 from rfl]; exact hev 1 (by decide))
    | 2, hq => cases hq; exact vk_R.of (hts _ (tb_m4 142 rfl)) (by rw [show ax9 t b adK adV t2 e2 (2 + 2) = adK 2 from rfl]; exact hev 2 (by decide))
    | 3, hq => cases hq; exact vk_R.of (hts _ (tb_m4 143 rfl)) (by rw [show ax9 t b adK adV t2 e2 (3 + 2) = adK 3 from rfl]; exact hev 3 (by decide))
    | 4, hq => cases hq; exact vk_R.of (hts _ (tb_m4 144 rfl)) (by rw [show ax9 t b adK adV t2 e2 (4 + 2) = adK 4 from rfl]; exact hev 4 (by decide))
    | 5, hq => cases hq; exact vk_R.of (hts _ (tb_m4 145 rfl)) (by rw [show ax9 t b adK adV t2 e2 (5 + 2) = adK 5 from rfl]; exact hev 5 (by decide))
    | 6, hq => cases hq; exact vk_R.of (hts _ (tb_m4 146 rfl)) (by rw [show ax9 t b adK adV t2 e2 (6 + 2) = adK 6 from rfl]; exact hev 6 (by decide))
    | 7, hq => cases hq; exact vk_R.of (hts _ (tb_m4 147 rfl)) (by rw [show ax9 t b adK adV t2 e2 (7 + 2) = adK 7 from rfl]; exact hev 7 (by decide))
    | 8, hq => cases hq; exact vk_R.of (hts _ (tb_m4 148 rfl)) (by rw [show ax9 t b adK adV t2 e2 (8 + 2) = adK 8 from rfl]; exact hev 8 (by decide))
    | 9, hq => cases hq; exact vk_R.of (hts _ (tb_m4 149 rfl)) (by rw [show ax9 t b adK adV t2 e2 (9 + 2) = adK 9 from rfl]; exact hev 9 (by decide))
    | 10, hq => cases hq; exact vk_R.of (hts _ (tb_m4 150 rfl)) (by rw [show ax9 t b adK adV t2 e2 (10 + 2) = adK 10 from rfl]; exact hev 10 (by decide))
    | 11, hq => cases hq; exact vk_R.of (hts _ (tb_m7 10 rfl)) (by rw [show ax9 t b adK adV t2 e2 (11 + 2) = adK 11 from rfl]; exact hev 11 (by decide))
    | 12, hq => cases hq; exact vk_R.of (hts _ (tb_m7 14 rfl)) (by rw [show ax9 t b adK adV t2 e2 (12 + 2) = adK 12 from rfl]; exact hev 12 (by decide))
    | 13, hq => cases hq; exact vk_R.of (hts _ (tb_m7 15 rfl)) (by rw [show ax9 t b adK adV t2 e2 (13 + 2) = adK 13 from rfl]; exact hev 13 (by decide))
    | 14, hq => cases hq; exact vk_R.of (hts _ (tb_m7 16 rfl)) (by rw [show ax9 t b adK adV t2 e2 (14 + 2) = adK 14 from rfl]; exact hev 14 (by decide))
    | 15, hq => cases hq; exact vk_R.of (hts _ (tb_m7 32 rfl)) (by rw [show ax9 t b adK adV t2 e2 (15 + 2) = adK 15 from rfl]; exact hev 15 (by decide))
    | 16, hq => cases hq; exact vk_R.of (hts _ (tb_m7 77 rfl)) (by rw [show ax9 t b adK adV t2 e2 (16 + 2) = adK 16 from rfl]; exact hev 16 (by decide))
    | 17, hq => cases hq; exact vk_R.of (hts _ (tb_m7 78 rfl)) (by rw [show ax9 t b adK adV t2 e2 (17 + 2) = adK 17 from rfl]; exact hev 17 (by decide))
    | 18, hq => cases hq; exact vk_R.of (hts _ (tb_m7 79 rfl)) (by rw [show ax9 t b adK adV t2 e2 (6 + 2) = adK 6 from rfl]; exact st_eqR (gl_219 h) (hev 6 (by decide)))
    | 19, hq => cases hq; exact vk_R.of (hts _ (tb_m7 80 rfl)) (by rw [show ax9 t b adK adV t2 e2 (18 + 2) = adK 18 from rfl]; exact hev 18 (by decide))
    | 20, hq => cases hq; exact vk_R.of (hts _ (tb_m7 81 rfl)) (by rw [show ax9 t b adK adV t2 e2 (19 + 2) = adK 19 from rfl]; exact hev 19 (by decide))
    | 21, hq => cases hq; exact vk_R.of (hts _ (tb_m7 82 rfl)) (by rw [show ax9 t b adK adV t2 e2 (20 + 2) = adK 20 from rfl]; exact hev 20 (by decide))
    | 22, hq => cases hq; exact vk_R.of (hts _ (tb_m7 83 rfl)) (by rw [show ax9 t b adK adV t2 e2 (21 + 2) = adK 21 from rfl]; exact hev 21 (by decide))
    | 23, hq => cases hq; exact vk_R.of (hts _ (tb_m7 84 rfl)) (by rw [show ax9 t b adK adV t2 e2 (22 + 2) = adK 22 from rfl]; exact hev 22 (by decide))
    | 24, hq => cases hq; exact vk_R.of (hts _ (tb_m7 85 rfl)) (by rw [show ax9 t b adK adV t2 e2 (23 + 2) = adK 23 from rfl]; exact hev 23 (by decide))
    | 25, hq => cases hq; exact vk_R.of (hts _ (tb_m7 90 rfl)) (by rw [show ax9 t b adK adV t2 e2 (24 + 2) = adK 24 from rfl]; exact hev 24 (by decide))
    | 26, hq => cases hq; exact vk_R.of (hts _ (tb_m7 91 rfl)) (by rw [show ax9 t b adK adV t2 e2 (25 + 2) = adK 25 from rfl]; exact hev 25 (by decide))
    | n + 27, hq => cases hq
/-- THE LAW, from its entry, for every script -/
theorem whole_start {p : Program} {e : Env} {s : State} {m : MethodId} {below : List Frame} {meth : Method} {c : Code} (l : Launch) (hflags : l.flags = flags0) {b L : Nat} {xs : Nat → Int32} (hL : L ≤ 3072) (C0 : lw_At p s m meth c b L xs) : W p l e room_1 s m #[Value.ref b] below meth c s.heap [] 0 0 (lw_Z below #[Value.ref b] s) (entryFrame m ([Value.ref b] : List Value).toArray 7) := by
  obtain ⟨hx, hb, hr, hml, hown, hts, hX, hbl, hlocks, hgv, htab, hname⟩ := C0
  obtain ⟨ax, rfl, hE⟩ := st_E hts hgv hX hbl
  obtain ⟨dC, dI, dA, hK⟩ := st_K hts
  have hG : ∀ w ∈ am_G, w.before #[Value.ref (ax 1)] s = true := fun w hw => hts w (List.mem_filter.mp hw).1
  have hS : LawS (L, fun j => (xs j).toInt) := ⟨hL, fun j => ⟨Int32.le_toInt (xs j), Int32.toInt_lt (xs j)⟩⟩
  have hst : l.stackTraces = false := by
    unfold Launch.stackTraces
    rw [hflags]
    decide
  have hB : am_B p l e s m #[Value.ref (ax 1)] meth c (L, fun j => (xs j).toInt) zL_law s.heap.size dC dI dA ax := ⟨hx, hb, hml, hown, hG, hr, hlocks, htab, hK, hE, Nat.le_refl _, hst, hname⟩
  have hT : am_T (L, fun j => (xs j).toInt) zL_law 60 1400 (fun o _ => o = .inl (some (aI 1))) 0 [some (aX 1), none, none, none, none, none, none] [] [] := law_entry hS (by decide) (Nat.le_refl _) (fun _ _ => rfl)
  have hLoc : am_L (fun _ => 0) ax ([] : AH).length 7 ((lg_sl ([aX 1].map (am_v (fun _ => 0) ax)) ++ List.replicate (7 - (lg_sl ([aX 1].map (am_v (fun _ => 0) ax))).length) Slot.unset).toArray) (am_entry 7 [aX 1]) := am_L_entry (am_cats_cons rfl am_cats_nil) (by decide) (fun v hv => by
    rw [List.mem_singleton] at hv
    subst hv
    trivial)
  have hRr : am_R dC dI dA ax s.heap.size [] (fun _ => 0) s.heap := ⟨fun k q h => (by cases h), ⟨fun i j p q h => (by cases h), fun k q h => (by cases h)⟩, fun c hc => (by cases hc)⟩
  have k := hT p l e room_1 s m #[Value.ref (ax 1)] below meth c s.heap.size dC dI dA ax 0 (fun _ => 0) (fun _ => 0) s.heap [] 0 0 _ hB (by decide) (by decide) (by decide) (Nat.le_of_ble_eq_true rfl) (fun _ h => absurd h (Nat.not_lt_zero _)) (Nat.le_refl _) hRr hLoc (fun v hv => by cases hv) va_S.rf
  rw [lg_entry_eq]
  intro T hT9 X
  obtain ⟨t, a1, o, b1, b2, b3⟩ := k T hT9 X
  refine ⟨t, a1, o, b1, b2, ?_⟩
  rcases b3 with ⟨⟨⟨v, w, ad, ho, -, -, -, -, hq⟩, -⟩, Ls, ⟨hv, hW, hF⟩, hfree⟩ | ⟨q, -, hq⟩
  · injection hq with hq
    subst hq
    exact ⟨ho, hv, hW, hF.weaken (fun y hy hlt => absurd hlt (Nat.not_lt.mpr (hfree y hy))) (Nat.le_refl _) (Nat.le_refl _)⟩
  · obtain ⟨E9, ce, Ls, ⟨⟨k9, w, ad, -, -, -, -, -, hq⟩, -⟩, -⟩ := hq
    cases hq
