/-! THE ABSTRACT MACHINE'S WORDS: values with ints as Int, a heap as a list of cells, ids for addresses; a triple am_T over W -/
abbrev AV : Type := Int ⊕ (Int ⊕ (Option Nat ⊕ Nat))
abbrev aI (z : Int) : AV := .inl z
abbrev aL (z : Int) : AV := .inr (.inl z)
abbrev aN : AV := .inr (.inr (.inl none))
abbrev aR (i : Nat) : AV := .inr (.inr (.inl (some i)))
abbrev aQ (r : Option Nat) : AV := .inr (.inr (.inl r))
abbrev aX (k : Nat) : AV := .inr (.inr (.inr k))
abbrev AC : Type := (Nat × Nat × (Nat → Int)) ⊕ ((Nat × Nat × (Nat → Option Nat)) ⊕ (Nat × List AV))
abbrev cP (t n : Nat) (f : Nat → Int) : AC := .inl (t, n, f)
abbrev cQ (t n : Nat) (f : Nat → Option Nat) : AC := .inr (.inl (t, n, f))
abbrev cO (c : Nat) (fs : List AV) : AC := .inr (.inr (c, fs))
abbrev AH : Type := List AC
abbrev AO : Type := Option AV ⊕ Nat
def am_U : Nat := 3700
def am_v (ad ax : Nat → Nat) : AV → Value
  | .inl z => .int (Int32.ofInt z)
  | .inr (.inl z) => .long (Int64.ofInt z)
  | .inr (.inr (.inl none)) => .null
  | .inr (.inr (.inl (some i))) => .ref (ad i)
  | .inr (.inr (.inr k)) => .ref (ax k)
def am_cat : AV → Nat
  | .inr (.inl _) => 2
  | _ => 1
def am_i32 (z : Int) : Prop := -2147483648 ≤ z ∧ z < 2147483648
def am_i64 (z : Int) : Prop := -9223372036854775808 ≤ z ∧ z < 9223372036854775808
def am_ok (n : Nat) : AV → Prop
  | .inl z => am_i32 z
  | .inr (.inl z) => am_i64 z
  | .inr (.inr (.inl none)) => True
  | .inr (.inr (.inl (some i))) => i < n
  | .inr (.inr (.inr _)) => True
def am_c (dA : Nat → ClassId) (ad ax : Nat → Nat) : AC → va_E
  | .inl (t, n, f) => .inl (dA t, (n, if t = 2 then .inr (.inl (fun j => Int64.ofInt (f j))) else .inl (fun j => Int32.ofInt (f j))))
  | .inr (.inl (t, n, f)) => .inl (dA t, (n, .inr (.inr (.inr (.inr (fun j => (f j).map ad))))))
  | .inr (.inr (c, fs)) => .inr (c, fs.map (am_v ad ax))
def am_okc (n : Nat) : AC → Prop
  | .inl (t, _, f) => ∀ j, if t = 2 then am_i64 (f j) else am_i32 (f j)
  | .inr (.inl (_, _, f)) => ∀ j i, f j = some i → i < n
  | .inr (.inr (_, fs)) => ∀ v ∈ fs, am_ok n v
def am_W (dA : Nat → ClassId) (ad ax : Nat → Nat) (w : AH) : va_W := w.zipIdx.map fun q => (ad q.2, am_c dA ad ax q.1)
theorem am_W_get (dA : Nat → ClassId) (ad ax : Nat → Nat) (w : AH) (k : Nat) : (am_W dA ad ax w)[k]? = (w[k]?).map fun c => (ad k, am_c dA ad ax c) := by
  unfold am_W
  rw [List.getElem?_map, List.getElem?_zipIdx]
  cases w[k]? <;> simp
theorem am_W_set (dA : Nat → ClassId) (ad ax : Nat → Nat) (w : AH) (k : Nat) (c : AC) : (am_W dA ad ax w).set k (ad k, am_c dA ad ax c) = am_W dA ad ax (w.set k c) := by
  refine List.ext_getElem? fun j => ?_
  rw [List.getElem?_set, am_W_get, am_W_get, List.getElem?_set]
  have hl : (am_W dA ad ax w).length = w.length := by simp [am_W]
  rw [hl]
  by_cases h : k = j
  · subst h
    by_cases h2 : k < w.length
    · simp [h2]
    · simp [h2]
  · simp [h]
theorem am_v_ext {n : Nat} {ad ad' ax : Nat → Nat} (h : ∀ i, i < n → ad' i = ad i) {v : AV} (hv : am_ok n v) : am_v ad' ax v = am_v ad ax v := by
  rcases v with z | z | (_ | i) | k
  · rfl
  · rfl
  · rfl
  · show Value.ref _ = Value.ref _
    rw [h i hv]
  · rfl
theorem am_c_ext {dA : Nat → ClassId} {n : Nat} {ad ad' ax : Nat → Nat} (h : ∀ i, i < n → ad' i = ad i) {c : AC} (hc : am_okc n c) : am_c dA ad' ax c = am_c dA ad ax c := by
  rcases c with ⟨t, m, f⟩ | ⟨t, m, f⟩ | ⟨k, fs⟩
  · rfl
  · unfold am_c
    have : (fun j => (f j).map ad') = (fun j => (f j).map ad) := by
      funext j
      cases hj : f j with
      | none => rfl
      | some i => simp [h i (hc j i hj)]
    simp only [this]
  · unfold am_c
    have : fs.map (am_v ad' ax) = fs.map (am_v ad ax) := List.map_congr_left fun v hv => am_v_ext h (hc v hv)
    simp only [this]
theorem am_W_ext {dA : Nat → ClassId} {ad ad' ax : Nat → Nat} {w : AH} (h : ∀ i, i < w.length → ad' i = ad i) (hok : ∀ c ∈ w, am_okc w.length c) : am_W dA ad' ax w = am_W dA ad ax w := by
  refine List.ext_getElem? fun j => ?_
  rw [am_W_get, am_W_get]
  cases hj : w[j]? with
  | none => rfl
  | some c =>
    have hl := (List.getElem?_eq_some_iff.mp hj).1
    simp only [Option.map_some]
    rw [h j hl, am_c_ext h (hok c (List.mem_of_getElem? hj))]
theorem am_ok_mono {n n' : Nat} (h : n ≤ n') {v : AV} (hv : am_ok n v) : am_ok n' v := by
  rcases v with z | z | (_ | i) | k
  · exact hv
  · exact hv
  · trivial
  · exact Nat.lt_of_lt_of_le hv h
  · trivial
theorem am_okc_mono {n n' : Nat} (h : n ≤ n') {c : AC} (hc : am_okc n c) : am_okc n' c := by
  rcases c with ⟨t, m, f⟩ | ⟨t, m, f⟩ | ⟨k, fs⟩
  · exact hc
  · exact fun j i hj => Nat.lt_of_lt_of_le (hc j i hj) h
  · exact fun v hv => am_ok_mono h (hc v hv)
/-- the heap H holds w, its cells at ad, all from lo on -/
def am_R (dC : Nat → ClassId) (dI : Nat → Nat → Nat) (dA : Nat → ClassId) (ax : Nat → Nat) (lo : Nat) (w : AH) (ad : Nat → Nat) (H : Heap) : Prop :=
  va_P (dC, dI) vwCl (am_W dA ad ax w) H ∧ va_D (fun q => lo ≤ q) (am_W dA ad ax w) ∧ ∀ c ∈ w, am_okc w.length c
/-- the locals hold ls (none: not told) -/
def am_L (ad ax : Nat → Nat) (n nL : Nat) (lsc : Array Slot) (ls : List (Option AV)) : Prop :=
  lsc.size = nL ∧ ls.length = nL ∧ lv_wf lsc ∧ ∀ (i : Nat) (v : AV), ls[i]? = some (some v) → lsc[i]? = some (.val (am_v ad ax v)) ∧ am_ok n v
/-- array classes by tag: int, boolean, long, rows of ints, images -/
def am_tys (dA : Nat → ClassId) : List (ClassId × FieldType) := [(dA 0, .int), (dA 1, .boolean), (dA 2, .long), (dA 3, .array .int), (dA 4, .object RX4)]
def am_ex : Nat → String
  | 0 => "java/lang/IndexOutOfBoundsException"
  | 1 => "java/util/NoSuchElementException"
  | _ => "java/lang/IllegalArgumentException"
/-- a method: the class, its name, its code, how many locals, what it returns -/
abbrev am_Z : Type := String × MethodName × ByteArray × Nat × Option FieldType × List (Nat × Nat × Nat × Nat)
abbrev am_own (z : am_Z) : String := z.1
abbrev am_cc (z : am_Z) : ByteArray := z.2.2.1
/-- the texts of the class, once each -/
def am_txt : List String := ["port", "fog", "wind", "thin", "lamp", "steamer", "lot", "walk", "watch", "sight", "ship", "allow", "first", "pay", "most", "not", "price", "wants", "step", "there", "left", "floor", "number", "bids", "and", "or"]
def am_slen : List Nat := [4, 3, 4, 4, 4, 7, 3, 4, 5, 5, 4, 5, 5, 3, 4, 3, 5, 5, 4, 5, 4, 5, 6, 4, 3, 2]
def am_sbyt : List (List Int32) := [[112, 111, 114, 116], [102, 111, 103], [119, 105, 110, 100], [116, 104, 105, 110], [108, 97, 109, 112], [115, 116, 101, 97, 109, 101, 114], [108, 111, 116], [119, 97, 108, 107], [119, 97, 116, 99, 104], [115, 105, 103, 104, 116], [115, 104, 105, 112], [97, 108, 108, 111, 119], [102, 105, 114, 115, 116], [112, 97, 121], [109, 111, 115, 116], [110, 111, 116], [112, 114, 105, 99, 101], [119, 97, 110, 116, 115], [115, 116, 101, 112], [116, 104, 101, 114, 101], [108, 101, 102, 116], [102, 108, 111, 111, 114], [110, 117, 109, 98, 101, 114], [98, 105, 100, 115], [97, 110, 100], [111, 114]]
/-- where a text stands in a class file: class, entry, which text -/
def am_lnk : List (String × Nat × Nat × String) := [("HarbourFog$PortReader", 83, 0, "port"), ("HarbourFog$PortReader", 89, 1, "fog"), ("HarbourFog$PortReader", 91, 2, "wind"), ("HarbourFog$PortReader", 93, 3, "thin"), ("HarbourFog$PortReader", 95, 4, "lamp"), ("HarbourFog$PortReader", 97, 5, "steamer"), ("HarbourFog$PortReader", 99, 6, "lot"), ("HarbourFog$PortReader", 101, 7, "walk"), ("HarbourFog$PortReader", 103, 8, "watch"), ("HarbourFog$PortReader", 105, 9, "sight"), ("HarbourFog$PortReader", 107, 10, "ship"), ("HarbourFog$RuleReader", 59, 11, "allow"), ("HarbourFog$RuleReader", 65, 12, "first"), ("HarbourFog$RuleReader", 67, 13, "pay"), ("HarbourFog$RuleReader", 69, 14, "most"), ("HarbourFog$RuleReader", 87, 15, "not"), ("HarbourFog$RuleReader", 115, 16, "price"), ("HarbourFog$RuleReader", 119, 17, "wants"), ("HarbourFog$RuleReader", 121, 6, "lot"), ("HarbourFog$RuleReader", 123, 18, "step"), ("HarbourFog$RuleReader", 125, 19, "there"), ("HarbourFog$RuleReader", 127, 20, "left"), ("HarbourFog$RuleReader", 129, 21, "floor"), ("HarbourFog$RuleReader", 131, 22, "number"), ("HarbourFog$RuleReader", 132, 23, "bids"), ("HarbourFog$RuleReader", 85, 24, "and"), ("HarbourFog$RuleReader", 74, 25, "or")]
def am_turn : Nat → Int
  | 0 => 3
  | 1 => 0
  | 2 => 1
  | 3 => 6
  | 4 => 4
  | 5 => 2
  | 6 => 7
  | 7 => 8
  | _ => 5
abbrev am_S : Type := Nat × (Nat → Int)
theorem va_AOA.spec {t : FieldType} {s : State} (h : va_AOA t s) :
    ∃ comp c k, s.vm.findClass (FieldType.array t).toString = some comp ∧ (s.vm.classes.findIdx? fun (x : Class) => match x.kind with | .array component _ => component == comp | _ => false) = some c ∧ s.vm.classes[c]? = some k ∧ k.kind = .array comp (.array t) ∧ s.vm.findClass ("[" ++ (FieldType.array t).toString) = some c := by
  unfold va_AOA Cond.before at h
  simp only [Cond.holds, Cond.value, beq_iff_eq] at h
  cases hc : s.vm.findClass (FieldType.array t).toString with
  | none => simp [hc] at h
  | some comp =>
    simp only [hc, Option.bind_some, Option.bind_eq_some_iff, Option.map_eq_some_iff] at h
    obtain ⟨c, hi, k, hk, hb⟩ := h
    obtain ⟨hlt, hp, -⟩ := Array.findIdx?_eq_some_iff_getElem.mp hi
    have hkk : s.vm.classes[c] = k := (Array.getElem?_eq_some_iff.mp hk).2
    rw [hkk] at hp
    cases hkind : k.kind with
    | array component ty =>
      rw [hkind] at hb hp
      simp at hb hp
      exact ⟨comp, c, k, rfl, hi, hk, by rw [hkind, hp, hb.1], hb.2⟩
    | _ => rw [hkind] at hb; simp at hb
theorem va_AOA.moved {C : FieldType} {u U : State} (hvm : u.vm.Alike U.vm) (h : va_AOA C u) : va_AOA C U := by
  obtain ⟨comp, c, k, h1, h2, h3, h4, h5⟩ := h.spec
  obtain ⟨k', hk', he⟩ := hvm.2.2 _ _ h3
  have hi : (U.vm.classes.findIdx? fun (x : Class) => match x.kind with | .array component _ => component == comp | _ => false) = some c := by
    refine (va_idx_bare U.vm comp).symm.trans ?_
    first | rw [hvm.bare_eq] | rw [← hvm.bare_eq]
    exact (va_idx_bare u.vm comp).trans h2
  have hkind : k'.kind = .array comp (.array C) := by rw [he]; exact h4
  have f1 : U.vm.findClass (FieldType.array C).toString = some comp := by rw [hvm.findClass]; exact h1
  have f2 : U.vm.findClass ("[" ++ (FieldType.array C).toString) = some c := by rw [hvm.findClass]; exact h5
  unfold va_AOA Cond.before Cond.holds
  simp only [Cond.value]
  rw [f1, Option.bind_some]
  refine (congrArg (fun o : Option Nat => (o.bind (fun c => (U.vm.classes[c]?).map fun (k : Class) => match k.kind with | .array _ ty => decide (ty = FieldType.array C) && decide (U.vm.findClass ("[" ++ (FieldType.array C).toString) = some c) | _ => false) == some true)) hi).trans ?_
  simp [hk', hkind, f2]
/-- what lies outside the worlds and never changes: statics, texts, the script -/
def am_E (S : am_S) (ax : Nat → Nat) (A : Nat → Prop) (U : State) (H : Heap) : Prop :=
  vx_Zq Bundle.tN "UNASSIGNED_STACK" Bundle.steD A U H ∧ vx_Zq Bundle.tN "SUPPRESSED_SENTINEL" Bundle.listD A U H ∧
  (∀ k, k < 3 → va_Nw (.castable (am_ex k) (am_ex k)) U) ∧ (∀ i j, i < 3 → j < 3 → i ≠ j → va_Nc (am_ex i) (am_ex j) U) ∧
  va_Z RX9 "EIGHTH_TURN" "[I" (.ref (ax 0)) A U H ∧ va_T .int (ax 0) 9 (fun j => .int (Int32.ofInt (am_turn j))) A U H ∧
  va_X (ax 1) S.1 (fun j => Int32.ofInt (S.2 j)) U H ∧ ax 1 < H.size ∧ ¬ A (ax 1) ∧
  (vk_S 26 am_slen am_sbyt (fun i => ax (i + 2)) (fun i => ax (i + 100)) A U H ∧ va_Z "java/lang/String" "COMPACT_STRINGS" "Z" (.int 1) A U H ∧ va_Z "jdk/internal/util/Preconditions" "SIOOBE_FORMATTER" "Ljava/util/function/BiFunction;" (if ax 201 = 0 then .null else .ref (ax 200)) A U H ∧ va_AO RX4 U ∧ va_AOA .int U) ∧
  (∀ (i : Nat) (q : String × Nat × Nat × String), am_lnk[i]? = some q → vk_R q.1 q.2.1 q.2.2.2 (ax (q.2.2.1 + 2)) U)
theorem am_E.warm {S : am_S} {ax : Nat → Nat} {A : Nat → Prop} {s U : State} {H : Heap} (hW : s.WarmedH U.vm) (h : am_E S ax A s H) : am_E S ax A U H := by
  obtain ⟨h1, h2, h3, hnc, h4, h5, h6, h7, h8, ⟨h9, h9b, h9c, h9d, h9e⟩, h10⟩ := h
  have ha := hW.alike
  exact ⟨h1.moved ha, h2.moved ha, fun k hk => va_Nw.warmC hW (h3 k hk), fun i j hi hj hn => va_Nc.moved ha (hnc i j hi hj hn), h4.moved ha, h5.moved ha, h6.moved ha, h7, h8, ⟨h9.moved ha, h9b.moved ha, h9c.moved ha, h9d.moved ha, h9e.moved ha⟩, fun i q hq => vk_R.warm hW (h10 i q hq)⟩
theorem am_E.same {S : am_S} {ax : Nat → Nat} {A : Nat → Prop} {s U : State} {H : Heap} (hv : U.vm = s.vm) (h : am_E S ax A s H) : am_E S ax A U H := by
  obtain ⟨h1, h2, h3, hnc, h4, h5, h6, h7, h8, ⟨h9, h9b, h9c, h9d, h9e⟩, h10⟩ := h
  have ha : s.vm.Alike U.vm := by rw [hv]; exact Vm.Alike.refl s.vm
  exact ⟨h1.moved ha, h2.moved ha, fun k hk => va_Nw.same rfl hv.symm (h3 k hk), fun i j hi hj hn => va_Nc.moved ha (hnc i j hi hj hn), h4.moved ha, h5.moved ha, h6.moved ha, h7, h8, ⟨h9.moved ha, h9b.moved ha, h9c.moved ha, h9d.moved ha, h9e.moved ha⟩, fun i q hq => vk_R.same hv (h10 i q hq)⟩
theorem am_E.kept {S : am_S} {ax : Nat → Nat} {A : Nat → Prop} {U : State} {H H1 : Heap} (hz : H.size ≤ H1.size) (hq : ∀ a : Nat, a < H.size → ¬ A a → H1[a]? = H[a]?) (h : am_E S ax A U H) : am_E S ax A U H1 := by
  obtain ⟨h1, h2, h3, hnc, h4, h5, h6, h7, h8, ⟨h9, h9b, h9c, h9d, h9e⟩, h10⟩ := h
  exact ⟨h1.kept hq, h2.kept hq, h3, hnc, h4.kept hq, h5.kept hq, h6.kept (hq _ h7 h8), Nat.lt_of_lt_of_le h7 hz, h8, ⟨h9.kept hq, h9b.kept hq, h9c.kept hq, h9d, h9e⟩, h10⟩
def am_G : List Cond := lw_tbl.filter goodWord
/-- what a method's body stands on -/
def am_B (p : Program) (l : Launch) (e : Env) (s : State) (m : MethodId) (args : Array Value) (meth : Method) (c : Code) (S : am_S) (z : am_Z) (lo : Nat) (dC : Nat → ClassId) (dI : Nat → Nat → Nat) (dA : Nat → ClassId) (ax : Nat → Nat) : Prop :=
  p.tables.exec = Jvm.exec ∧ c.code = z.2.2.1 ∧ c.maxLocals = z.2.2.2.1 ∧ s.vm.findClass z.1 = some m.cls ∧ (∀ w ∈ am_G, w.before args s = true) ∧ meth.sig.returnType = z.2.2.2.2.1 ∧ meth.locks = false ∧ c.exceptionTable.toList = tableOf z.2.2.2.2.2 ∧
  va_K (dC, dI) vwCl (am_tys dA) s ∧ am_E S ax (fun q => lo ≤ q) s s.heap ∧ lo ≤ s.heap.size ∧ l.stackTraces = false ∧ meth.name = z.2.1.name
def am_Qc (S : am_S) (dC : Nat → ClassId) (dI : Nat → Nat → Nat) (dA : Nat → ClassId) (ax : Nat → Nat) (lo n0 : Nat) (ad0 : Nat → Nat) (Q : AO → AH → Prop) : Array Value → State → Outcome → State → Prop := fun _ st oc t =>
  (∃ (v : Option AV) (w : AH) (ad : Nat → Nat), oc = .returned (v.map (am_v ad ax)) ∧ (∀ i, i < n0 → ad i = ad0 i) ∧ n0 ≤ w.length ∧ am_R dC dI dA ax lo w ad t.heap ∧ (∀ x, v = some x → am_ok w.length x) ∧ Q (.inl v) w) ∧ va_F (fun q => lo ≤ q) st t
def am_XC (S : am_S) (dC : Nat → ClassId) (dI : Nat → Nat → Nat) (dA : Nat → ClassId) (ax : Nat → Nat) (lo n0 : Nat) (ad0 : Nat → Nat) (Q : AO → AH → Prop) : String → State → State → Prop := fun E st t =>
  (∃ (k : Nat) (w : AH) (ad : Nat → Nat), k < 3 ∧ E = am_ex k ∧ (∀ i, i < n0 → ad i = ad0 i) ∧ n0 ≤ w.length ∧ am_R dC dI dA ax lo w ad t.heap ∧ Q (.inr k) w) ∧ va_F (fun q => lo ≤ q) st t
/-- from pc on, with these locals, this stack, this heap: the method ends with Q -/
def am_T (S : am_S) (z : am_Z) (d u : Nat) (Q : AO → AH → Prop) (pc : Nat) (ls : List (Option AV)) (st : List AV) (w : AH) : Prop :=
  ∀ (p : Program) (l : Launch) (e : Env) (R : Room) (s : State) (m : MethodId) (args : Array Value) (below : List Frame) (meth : Method) (c : Code) (lo : Nat) (dC : Nat → ClassId) (dI : Nat → Nat → Nat) (dA : Nat → ClassId) (ax : Nat → Nat) (n0 : Nat) (ad0 ad : Nat → Nat) (H : Heap) (locs : List Loc) (cells slots : Nat) (lsc : Array Slot),
    am_B p l e s m args meth c S z lo dC dI dA ax → d ≤ R.frames → 64 * d ≤ R.locals → cells + u ≤ R.cells → slots + am_U * u ≤ R.slots → (∀ i, i < n0 → ad i = ad0 i) → n0 ≤ w.length →
    am_R dC dI dA ax lo w ad H → am_L ad ax w.length z.2.2.2.1 lsc ls → (∀ v ∈ st, am_ok w.length v) → va_S (fun q => lo ≤ q) s.heap H locs →
    W p l e R s m args below meth c H locs cells slots (vx_MQ below (am_Qc S dC dI dA ax lo n0 ad0 Q) (am_XC S dC dI dA ax lo n0 ad0 Q) args s R.cells R.slots (fun q => lo ≤ q)) (F0 m pc lsc (st.map (am_v ad ax)))
section AM1
variable {S : am_S} {z : am_Z} {d u : Nat} {Q : AO → AH → Prop} {pc pc' : Nat} {ls ls' : List (Option AV)} {st st' : List AV} {w : AH}
/-- a step of the stack alone -/
theorem am_simple (h : ∀ (p : Program) (l : Launch) (e : Env) (R : Room) (s : State) (m : MethodId) (args : Array Value) (below : List Frame) (meth : Method) (c : Code) (H : Heap) (locs : List Loc) (cells slots : Nat) (Z : State → Prop) (lsc : Array Slot) (ad ax : Nat → Nat), p.tables.exec = Jvm.exec → c.code = z.2.2.1 → s.vm.findClass z.1 = some m.cls → (∀ w ∈ am_G, w.before args s = true) → am_L ad ax w.length z.2.2.2.1 lsc ls → (∀ v ∈ st, am_ok w.length v) →
      W p l e R s m args below meth c H locs cells slots Z (F0 m pc' lsc (st'.map (am_v ad ax))) → W p l e R s m args below meth c H locs cells slots Z (F0 m pc lsc (st.map (am_v ad ax))))
    (hok : (∀ v ∈ st, am_ok w.length v) → (∀ (i : Nat) (v : AV), ls[i]? = some (some v) → am_ok w.length v) → ∀ v ∈ st', am_ok w.length v) (k : am_T S z d u Q pc' ls st' w) : am_T S z d u Q pc ls st w := by
  intro p l e R s m args below meth c lo dC dI dA ax n0 ad0 ad H locs cells slots lsc B h1 h2 h3 h4 h5 h6 hR hL hst hS
  exact h p l e R s m args below meth c H locs cells slots _ lsc ad ax B.1 B.2.1 B.2.2.2.1 B.2.2.2.2.1 hL hst (k p l e R s m args below meth c lo dC dI dA ax n0 ad0 ad H locs cells slots lsc B h1 h2 h3 h4 h5 h6 hR hL (hok hst (fun i v hv => (hL.2.2.2 i v hv).2)) hS)
theorem am_i32_i {z : Int} (h : am_i32 z) : (Int32.ofInt z).toInt = z := Int32.toInt_ofInt_of_le (by have := h.1; omega) (by have := h.2; omega)
theorem am_i64_i {z : Int} (h : am_i64 z) : (Int64.ofInt z).toInt = z := Int64.toInt_ofInt_of_le (by have := h.1; omega) (by have := h.2; omega)
theorem am_lt {a b : Int} (ha : am_i32 a) (hb : am_i32 b) : Int32.ofInt a < Int32.ofInt b ↔ a < b := by rw [Int32.lt_iff_toInt_lt, am_i32_i ha, am_i32_i hb]
theorem am_le {a b : Int} (ha : am_i32 a) (hb : am_i32 b) : Int32.ofInt a ≤ Int32.ofInt b ↔ a ≤ b := by rw [Int32.le_iff_toInt_le, am_i32_i ha, am_i32_i hb]
theorem am_eq {a b : Int} (ha : am_i32 a) (hb : am_i32 b) : Int32.ofInt a = Int32.ofInt b ↔ a = b := by rw [← Int32.toInt_inj, am_i32_i ha, am_i32_i hb]
theorem am_cn {i : Int} (h0 : 0 ≤ i) (h : i < 2147483648) : (Int32.ofInt i).toNatClampNeg = i.toNat := Int32.toNatClampNeg_ofInt_of_le (by omega) (by omega)
theorem am_in {i : Int} {n : Nat} (h0 : 0 ≤ i) (h : i < 2147483648) (hn : i < n) : vp_in (Int32.ofInt i) n := by
  rw [vp_in_iff, am_i32_i ⟨by omega, h⟩]
  exact ⟨h0, hn⟩
theorem am_ofI_inj (z : Int) : Int32.ofInt (Int32.ofInt z).toInt = Int32.ofInt z := Int32.ofInt_toInt _
theorem am_ok_tl {n : Nat} {v : AV} {st : List AV} (h : ∀ x ∈ v :: st, am_ok n x) : ∀ x ∈ st, am_ok n x := fun x hx => h x (List.mem_cons_of_mem _ hx)
theorem am_ok_hd {n : Nat} {v : AV} {st : List AV} (h : ∀ x ∈ v :: st, am_ok n x) : am_ok n v := h v List.mem_cons_self
theorem am_ok_cons {n : Nat} {v : AV} {st : List AV} (h : am_ok n v) (hs : ∀ x ∈ st, am_ok n x) : ∀ x ∈ v :: st, am_ok n x := fun x hx => (List.mem_cons.mp hx).elim (fun e => by rw [e]; exact h) (hs x)
theorem am_okI {n : Nat} {v : Int} (h : am_i32 v) : am_ok n (aI v) := h
theorem am_okL {n : Nat} {v : Int} (h : am_i64 v) : am_ok n (aL v) := h
-- constants
theorem T_iconst {n : Int} (v : Int) (hd : decode (am_cc z) pc = .ok (.iconst n, 1)) (hv : n = v) (hr : am_i32 v) (k : am_T S z d u Q (pc + 1) ls (aI v :: st) w) : am_T S z d u Q pc ls st w :=
  am_simple (fun p l e R s m args below meth c H locs cells slots Z lsc ad ax hx hb ho ht hL hst kk => lv_iconst hx hb hd (by rw [hv]) kk) (fun hs _ => am_ok_cons (am_okI hr) hs) k
theorem T_bipush {n : Int} (v : Int) (hd : decode (am_cc z) pc = .ok (.bipush n, 2)) (hv : (Int8.ofInt n).toInt32 = Int32.ofInt v) (hr : am_i32 v) (k : am_T S z d u Q (pc + 2) ls (aI v :: st) w) : am_T S z d u Q pc ls st w :=
  am_simple (fun p l e R s m args below meth c H locs cells slots Z lsc ad ax hx hb ho ht hL hst kk => lv_bipush hx hb hd hv kk) (fun hs _ => am_ok_cons (am_okI hr) hs) k
theorem T_sipush {n : Int} (v : Int) (hd : decode (am_cc z) pc = .ok (.sipush n, 3)) (hv : (Int16.ofInt n).toInt32 = Int32.ofInt v) (hr : am_i32 v) (k : am_T S z d u Q (pc + 3) ls (aI v :: st) w) : am_T S z d u Q pc ls st w :=
  am_simple (fun p l e R s m args below meth c H locs cells slots Z lsc ad ax hx hb ho ht hL hst kk => lv_sipush hx hb hd hv kk) (fun hs _ => am_ok_cons (am_okI hr) hs) k
theorem T_lconst {n : Fin 2} (v : Int) (hd : decode (am_cc z) pc = .ok (.lconst n, 1)) (hv : Int64.ofNat (n : Nat) = Int64.ofInt v) (hr : am_i64 v) (k : am_T S z d u Q (pc + 1) ls (aL v :: st) w) : am_T S z d u Q pc ls st w :=
  am_simple (fun p l e R s m args below meth c H locs cells slots Z lsc ad ax hx hb ho ht hL hst kk => lv_lconst hx hb hd hv kk) (fun hs _ => am_ok_cons (am_okL hr) hs) k
theorem T_ldc {idx : Nat} (v : Int) (hd : decode (am_cc z) pc = .ok (.ldc idx, 2)) (hc : Cond.constant (am_own z) idx (Int32.ofInt v) ∈ am_G) (hr : am_i32 v) (k : am_T S z d u Q (pc + 2) ls (aI v :: st) w) : am_T S z d u Q pc ls st w :=
  am_simple (fun p l e R s m args below meth c H locs cells slots Z lsc ad ax hx hb ho ht hL hst kk => lv_ldc hx hb ho (ht _ hc) hd kk) (fun hs _ => am_ok_cons (am_okI hr) hs) k
theorem T_ldcw {idx : Nat} (v : Int) (hd : decode (am_cc z) pc = .ok (.ldc_w idx, 3)) (hc : Cond.constant (am_own z) idx (Int32.ofInt v) ∈ am_G) (hr : am_i32 v) (k : am_T S z d u Q (pc + 3) ls (aI v :: st) w) : am_T S z d u Q pc ls st w :=
  am_simple (fun p l e R s m args below meth c H locs cells slots Z lsc ad ax hx hb ho ht hL hst kk => lv_ldcw hx hb ho (ht _ hc) hd kk) (fun hs _ => am_ok_cons (am_okI hr) hs) k
theorem T_ldc2 {idx : Nat} (v : Int) (hd : decode (am_cc z) pc = .ok (.ldc2_w idx, 3)) (hc : Cond.constantLong (am_own z) idx (Int64.ofInt v) ∈ am_G) (hr : am_i64 v) (k : am_T S z d u Q (pc + 3) ls (aL v :: st) w) : am_T S z d u Q pc ls st w :=
  am_simple (fun p l e R s m args below meth c H locs cells slots Z lsc ad ax hx hb ho ht hL hst kk => lv_ldc2 hx hb ho (ht _ hc) hd kk) (fun hs _ => am_ok_cons (am_okL hr) hs) k
-- loads
theorem T_iload_n {i : Fin 4} {v : Int} (hd : decode (am_cc z) pc = .ok (.iload_n i, 1)) (hl : ls[i.val]? = some (some (aI v))) (k : am_T S z d u Q (pc + 1) ls (aI v :: st) w) : am_T S z d u Q pc ls st w :=
  am_simple (fun p l e R s m args below meth c H locs cells slots Z lsc ad ax hx hb ho ht hL hst kk => lv_iload_n hx hb hd rfl (hL.2.2.2 _ _ hl).1 kk) (fun hs hv => am_ok_cons (hv _ _ hl) hs) k
theorem T_iload {i : Nat} {v : Int} (hd : decode (am_cc z) pc = .ok (.iload i, 2)) (hl : ls[i]? = some (some (aI v))) (k : am_T S z d u Q (pc + 2) ls (aI v :: st) w) : am_T S z d u Q pc ls st w :=
  am_simple (fun p l e R s m args below meth c H locs cells slots Z lsc ad ax hx hb ho ht hL hst kk => lv_iload hx hb hd (hL.2.2.2 _ _ hl).1 kk) (fun hs hv => am_ok_cons (hv _ _ hl) hs) k
theorem T_lload_n {i : Fin 4} {v : Int} (hd : decode (am_cc z) pc = .ok (.lload_n i, 1)) (hl : ls[i.val]? = some (some (aL v))) (k : am_T S z d u Q (pc + 1) ls (aL v :: st) w) : am_T S z d u Q pc ls st w :=
  am_simple (fun p l e R s m args below meth c H locs cells slots Z lsc ad ax hx hb ho ht hL hst kk => lv_lload_n hx hb hd rfl (hL.2.2.2 _ _ hl).1 kk) (fun hs hv => am_ok_cons (hv _ _ hl) hs) k
theorem T_lload {i : Nat} {v : Int} (hd : decode (am_cc z) pc = .ok (.lload i, 2)) (hl : ls[i]? = some (some (aL v))) (k : am_T S z d u Q (pc + 2) ls (aL v :: st) w) : am_T S z d u Q pc ls st w :=
  am_simple (fun p l e R s m args below meth c H locs cells slots Z lsc ad ax hx hb ho ht hL hst kk => lv_lload hx hb hd (hL.2.2.2 _ _ hl).1 kk) (fun hs hv => am_ok_cons (hv _ _ hl) hs) k
theorem T_aload_n {i : Fin 4} {a : Nat} (hd : decode (am_cc z) pc = .ok (.aload_n i, 1)) (hl : ls[i.val]? = some (some (aR a))) (k : am_T S z d u Q (pc + 1) ls (aR a :: st) w) : am_T S z d u Q pc ls st w :=
  am_simple (fun p l e R s m args below meth c H locs cells slots Z lsc ad ax hx hb ho ht hL hst kk => lv_aload_n hx hb hd rfl (hL.2.2.2 _ _ hl).1 kk) (fun hs hv => am_ok_cons (hv _ _ hl) hs) k
theorem T_aload {i : Nat} {a : Nat} (hd : decode (am_cc z) pc = .ok (.aload i, 2)) (hl : ls[i]? = some (some (aR a))) (k : am_T S z d u Q (pc + 2) ls (aR a :: st) w) : am_T S z d u Q pc ls st w :=
  am_simple (fun p l e R s m args below meth c H locs cells slots Z lsc ad ax hx hb ho ht hL hst kk => lv_aload hx hb hd (hL.2.2.2 _ _ hl).1 kk) (fun hs hv => am_ok_cons (hv _ _ hl) hs) k
theorem T_aloadX_n {i : Fin 4} {a : Nat} (hd : decode (am_cc z) pc = .ok (.aload_n i, 1)) (hl : ls[i.val]? = some (some (aX a))) (k : am_T S z d u Q (pc + 1) ls (aX a :: st) w) : am_T S z d u Q pc ls st w :=
  am_simple (fun p l e R s m args below meth c H locs cells slots Z lsc ad ax hx hb ho ht hL hst kk => lv_aload_n hx hb hd rfl (hL.2.2.2 _ _ hl).1 kk) (fun hs hv => am_ok_cons (hv _ _ hl) hs) k
-- arithmetic
theorem T_iadd {a b : Int} (v : Int) (hd : decode (am_cc z) pc = .ok (.iadd, 1)) (hv : a + b = v) (hr : am_i32 v) (k : am_T S z d u Q (pc + 1) ls (aI v :: st) w) : am_T S z d u Q pc ls (aI b :: aI a :: st) w :=
  am_simple (fun p l e R s m args below meth c H locs cells slots Z lsc ad ax hx hb ho ht hL hst kk => lv_iadd hx hb hd (by rw [← Int32.ofInt_add, hv]; exact kk)) (fun hs _ => am_ok_cons (am_okI hr) (am_ok_tl (am_ok_tl hs))) k
theorem T_isub {a b : Int} (v : Int) (hd : decode (am_cc z) pc = .ok (.isub, 1)) (hv : a - b = v) (hr : am_i32 v) (k : am_T S z d u Q (pc + 1) ls (aI v :: st) w) : am_T S z d u Q pc ls (aI b :: aI a :: st) w :=
  am_simple (fun p l e R s m args below meth c H locs cells slots Z lsc ad ax hx hb ho ht hL hst kk => lv_isub hx hb hd (by rw [← Int32.ofInt_sub, hv]; exact kk)) (fun hs _ => am_ok_cons (am_okI hr) (am_ok_tl (am_ok_tl hs))) k
theorem T_imul {a b : Int} (v : Int) (hd : decode (am_cc z) pc = .ok (.imul, 1)) (hv : a * b = v) (hr : am_i32 v) (k : am_T S z d u Q (pc + 1) ls (aI v :: st) w) : am_T S z d u Q pc ls (aI b :: aI a :: st) w :=
  am_simple (fun p l e R s m args below meth c H locs cells slots Z lsc ad ax hx hb ho ht hL hst kk => lv_imul hx hb hd (by rw [← Int32.ofInt_mul, hv]; exact kk)) (fun hs _ => am_ok_cons (am_okI hr) (am_ok_tl (am_ok_tl hs))) k
end AM1
