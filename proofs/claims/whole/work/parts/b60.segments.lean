/-! THE TIE: a rule's orders beside its codes, while they are read -/
/-- the codes as they are read, where they will stand -/
def sh (c : am_F) : am_F := fun k j => c (k + 221) j
theorem XE_n {c : am_F} : ∀ (g : Nat) {b : Bool} {n n' : Nat} {i j : Int}, n ≤ n' → XE c g b n i j → XE c g b n' i j := by
  intro g
  induction g with
  | zero => intro b n n' i j _ h; exact h.elim
  | succ g ih =>
    intro b n n' i j hn h
    obtain ⟨h0, h⟩ := h
    refine ⟨h0, ?_⟩
    rcases h with ⟨h1, h2, h3, h4⟩ | ⟨a, k, m, x1, x2, x3, x4⟩ | ⟨hb, k, x1, x2⟩ | ⟨hb, a, k, m, x1, x2, x3, x4⟩
    · exact Or.inl ⟨h1, h2, by omega, h4⟩
    · exact Or.inr (Or.inl ⟨a, k, m, ih hn x1, x2, by omega, x4⟩)
    · exact Or.inr (Or.inr (Or.inl ⟨hb, k, ih hn x1, x2⟩))
    · exact Or.inr (Or.inr (Or.inr ⟨hb, a, k, m, ih hn x1, x2, by omega, x4⟩))
theorem XE_c {c c' : am_F} : ∀ (g : Nat) {b : Bool} {n : Nat} {i j : Int}, (∀ k : Int, i ≤ k → k < j → c' (287 + k.toNat) 0 = c (287 + k.toNat) 0) → XE c g b n i j → XE c' g b n i j := by
  intro g
  induction g with
  | zero => intro b n i j _ h; exact h.elim
  | succ g ih =>
    intro b n i j hc h
    obtain ⟨h0, h⟩ := h
    refine ⟨h0, ?_⟩
    rcases h with ⟨h1, h2, h3, h4⟩ | ⟨a, k, m, x1, x2, x3, x4, x5⟩ | ⟨hb, k, x1, x2, x3⟩ | ⟨hb, a, k, m, x1, x2, x3, x4, x5⟩
    · exact Or.inl ⟨h1, by rw [hc i (Int.le_refl _) (by omega)]; exact h2, h3, h4⟩
    · have l1 := XE_lt g x1
      have l2 := XE_lt g x2
      exact Or.inr (Or.inl ⟨a, k, m, ih (fun q a1 a2 => hc q a1 (by omega)) x1, ih (fun q a1 a2 => hc q (by omega) (by omega)) x2, x3, x4, by rw [hc k (by omega) (by omega)]; exact x5⟩)
    · have l1 := XE_lt g x1
      exact Or.inr (Or.inr (Or.inl ⟨hb, k, ih (fun q a1 a2 => hc q a1 (by omega)) x1, by rw [hc k (by omega) (by omega)]; exact x2, x3⟩))
    · have l1 := XE_lt g x1
      have l2 := XE_lt g x2
      exact Or.inr (Or.inr (Or.inr ⟨hb, a, k, m, ih (fun q a1 a2 => hc q a1 (by omega)) x1, ih (fun q a1 a2 => hc q (by omega) (by omega)) x2, x3, x4, by rw [hc k (by omega) (by omega)]; exact x5⟩))
theorem XE_ge {c : am_F} {g g' : Nat} {b : Bool} {n : Nat} {i j : Int} (h : g ≤ g') (hx : XE c g b n i j) : XE c g' b n i j := by
  obtain ⟨d, rfl⟩ : ∃ d, g' = g + d := ⟨g' - g, by omega⟩
  induction d with
  | zero => exact hx
  | succ d ih => exact XE_up _ (ih (by omega))
/-- some fuel will do -/
def XX (c : am_F) (b : Bool) (n : Nat) (i j : Int) : Prop := ∃ g, XE (sh c) g b n i j
theorem XX_n {c : am_F} {b : Bool} {n n' : Nat} {i j : Int} (hn : n ≤ n') (h : XX c b n i j) : XX c b n' i j := by
  obtain ⟨g, h⟩ := h
  exact ⟨g, XE_n g hn h⟩
theorem sh_c (c : am_F) (i : Int) (j : Nat) : sh c (287 + i.toNat) j = c (508 + i.toNat) j := by
  unfold sh
  rw [show 287 + i.toNat + 221 = 508 + i.toNat by omega]
theorem XX_c {c c' : am_F} {b : Bool} {n : Nat} {i j : Int} (hc : ∀ k : Int, i ≤ k → k < j → c' (508 + k.toNat) 0 = c (508 + k.toNat) 0) (h : XX c b n i j) : XX c' b n i j := by
  obtain ⟨g, h⟩ := h
  exact ⟨g, XE_c g (fun k a1 a2 => by rw [sh_c, sh_c]; exact hc k a1 a2) h⟩
theorem XX_lt {c : am_F} {b : Bool} {n : Nat} {i j : Int} (h : XX c b n i j) : 0 ≤ i ∧ i < j ∧ 1 ≤ n := by
  obtain ⟨g, h⟩ := h
  exact XE_lt g h
theorem XX_1 {c : am_F} {i : Int} (h0 : 0 ≤ i) (h : c (508 + i.toNat) 0 < 2) {n : Nat} (hn : 1 ≤ n) : XX c false n i (i + 1) := ⟨1, h0, Or.inl ⟨rfl, by rw [sh_c]; exact h, hn, rfl⟩⟩
theorem XX_2 {c : am_F} {b : Bool} {n m : Nat} {i a k : Int} (h1 : XX c false n i a) (h2 : XX c false m a k) (hm : m + 1 ≤ n) (hb : (b = false ∧ 2 ≤ c (508 + k.toNat) 0 ∧ c (508 + k.toNat) 0 ≤ 5) ∨ (b = true ∧ 6 ≤ c (508 + k.toNat) 0 ∧ c (508 + k.toNat) 0 ≤ 8)) : XX c b n i (k + 1) := by
  obtain ⟨g, h1⟩ := h1
  obtain ⟨g', h2⟩ := h2
  have l1 := XE_lt g h1
  refine ⟨g + g' + 1, l1.1, Or.inr (Or.inl ⟨a, k, m, XE_ge (by omega) h1, XE_ge (by omega) h2, hm, rfl, ?_⟩)⟩
  rw [sh_c]
  exact hb
theorem XX_3 {c : am_F} {n : Nat} {i k : Int} (h1 : XX c true n i k) (hk : c (508 + k.toNat) 0 = 9) : XX c true n i (k + 1) := by
  obtain ⟨g, h1⟩ := h1
  have l1 := XE_lt g h1
  exact ⟨g + 1, l1.1, Or.inr (Or.inr (Or.inl ⟨rfl, k, h1, by rw [sh_c]; exact hk, rfl⟩))⟩
theorem XX_4 {c : am_F} {n m : Nat} {i a k : Int} (h1 : XX c true n i a) (h2 : XX c true m a k) (hm : m + 1 ≤ n) (hk : c (508 + k.toNat) 0 = 10 ∨ c (508 + k.toNat) 0 = 11) : XX c true n i (k + 1) := by
  obtain ⟨g, h1⟩ := h1
  obtain ⟨g', h2⟩ := h2
  have l1 := XE_lt g h1
  exact ⟨g + g' + 1, l1.1, Or.inr (Or.inr (Or.inr ⟨rfl, a, k, m, XE_ge (by omega) h1, XE_ge (by omega) h2, hm, rfl, by rw [sh_c]; exact hk⟩))⟩
/-- both sides behind a base (v0, c0) -/
def SG (e v0 c0 v k c : am_F) : Prop := RR e k c ∧ RvI v ∧ (c 0 5 = 0 → ((∀ r, r ≠ 0 → r ≠ 1 → v r = v0 r) ∧ ∀ j, j ≠ 1 → v 0 j = v0 0 j) ∧ v 0 1 = c 0 49 ∧ (0 ≤ c0 0 49 ∧ c0 0 49 ≤ c 0 49) ∧ (∀ i : Nat, (i : Int) < c 0 49 → OrR (v 1 i) (c (508 + i) 0) (c (508 + i) 1)) ∧ ∀ i : Nat, (i : Int) < c0 0 49 → v 1 i = v0 1 i ∧ c (508 + i) = c0 (508 + i))
/-- only the reader has gone on -/
theorem SG_E {e v0 c0 v k c k' c' : am_F} (h : SG e v0 c0 v k c) (hR : RR e k' c') (hk : ∀ m, m ≠ 0 → c' m = c m) (h49 : c' 0 49 = c 0 49) (h5 : c' 0 5 = 0 → c 0 5 = 0) : SG e v0 c0 v k' c' := by
  obtain ⟨h1, h2, h3⟩ := h
  refine ⟨hR, h2, fun g => ?_⟩
  obtain ⟨a1, a2, a3, a4, a5⟩ := h3 (h5 g)
  rw [h49]
  exact ⟨a1, a2, a3, fun i hi => by rw [hk (508 + i) (by omega)]; exact a4 i hi, fun i hi => by rw [hk (508 + i) (by omega)]; exact a5 i hi⟩
theorem SG_L {e v0 c0 v k c k' c' : am_F} (h : SG e v0 c0 v k c) (hR : RR e k' c') (hl : Lx c c') (h5 : c' 0 5 = 0 → c 0 5 = 0) : SG e v0 c0 v k' c' := SG_E h hR hl.1 (hl.2 49 (by decide) (by decide) (by decide)) h5
theorem SG_t {e v0 c0 v k c v' k' c' : am_F} (h : SG e v0 c0 v k c) (g : SG e v c v' k' c') (h5 : c' 0 5 = 0 → c 0 5 = 0) : SG e v0 c0 v' k' c' := by
  obtain ⟨-, -, h3⟩ := h
  obtain ⟨g1, g2, g3⟩ := g
  refine ⟨g1, g2, fun g0 => ?_⟩
  obtain ⟨a1, a2, a3, a4, a5⟩ := h3 (h5 g0)
  obtain ⟨b1, b2, b3, b4, b5⟩ := g3 g0
  exact ⟨⟨fun r r0 r1 => (b1.1 r r0 r1).trans (a1.1 r r0 r1), fun j hj => (b1.2 j hj).trans (a1.2 j hj)⟩, b2, ⟨a3.1, by omega⟩, b4, fun i hi => ⟨(b5 i (by omega)).1.trans (a5 i hi).1, (b5 i (by omega)).2.trans (a5 i hi).2⟩⟩
theorem SG_base {e v0 c0 v k c : am_F} (h : SG e v0 c0 v k c) : SG e v c v k c := by
  obtain ⟨h1, h2, h3⟩ := h
  refine ⟨h1, h2, fun g => ?_⟩
  obtain ⟨a1, a2, a3, a4, a5⟩ := h3 g
  exact ⟨⟨fun _ _ _ => rfl, fun _ _ => rfl⟩, a2, ⟨by omega, by omega⟩, a4, fun _ _ => ⟨rfl, rfl⟩⟩
theorem rr_says {e k c : am_F} {x y : Int} (h : RR e k c) : RR e k (k_says c x y) := by
  obtain ⟨s4, s5⟩ := k_says_4 c x y
  refine rr_c h ?_ (fun j hj => ?_)
  · unfold k_says
    split
    · rw [am_put_kr (by decide), am_put_kr (by omega), am_put_kr (by omega)]
    · rfl
  · unfold k_says
    split
    · rw [am_put_i (by omega), am_put_k (by omega), am_put_k (by omega)]
    · rfl
/-- an order and a code put behind -/
theorem SG_put {e v0 c0 v k c : am_F} {o x y : Int} (h : SG e v0 c0 v k c) (ho : c 0 5 = 0 → c 0 49 < 200 ∧ OrR o x y) : SG e v0 c0 (f_rput v o) k (k_says c x y) ∧ (k_says c x y 0 5 = 0 → c 0 5 = 0 ∧ k_says c x y 0 49 = c 0 49 + 1 ∧ k_says c x y (508 + (c 0 49).toNat) 0 = x ∧ ∀ i : Int, 0 ≤ i → i < c 0 49 → k_says c x y (508 + i.toNat) = c (508 + i.toNat)) := by
  obtain ⟨h1, h2, h3⟩ := h
  obtain ⟨s4, s5⟩ := k_says_4 c x y
  by_cases g : c 0 5 = 0
  · obtain ⟨a1, a2, a3, a4, a5⟩ := h3 g
    obtain ⟨o1, o2⟩ := ho g
    have eK : k_says c x y = am_put (am_put (am_put c (508 + (c 0 49).toNat) 0 x) (508 + (c 0 49).toNat) 1 y) 0 49 (c 0 49 + 1) := if_pos g
    have eV : f_rput v o = am_put (am_put v 1 (v 0 1).toNat o) 0 1 (v 0 1 + 1) := if_pos (by omega)
    have hR := rr_says (x := x) (y := y) h1
    have hI := f_rput_I h2 o
    rw [eK] at hR s5
    rw [eV] at hI
    rw [eK, eV]
    have k49 : am_put (am_put (am_put c (508 + (c 0 49).toNat) 0 x) (508 + (c 0 49).toNat) 1 y) 0 49 (c 0 49 + 1) 0 49 = c 0 49 + 1 := am_put_s
    have kn : am_put (am_put (am_put c (508 + (c 0 49).toNat) 0 x) (508 + (c 0 49).toNat) 1 y) 0 49 (c 0 49 + 1) (508 + (c 0 49).toNat) 0 = x := by rw [am_put_k (by omega), am_put_i (by decide), am_put_s]
    have kn1 : am_put (am_put (am_put c (508 + (c 0 49).toNat) 0 x) (508 + (c 0 49).toNat) 1 y) 0 49 (c 0 49 + 1) (508 + (c 0 49).toNat) 1 = y := by rw [am_put_k (by omega), am_put_s]
    have ki : ∀ i : Int, 0 ≤ i → i < c 0 49 → am_put (am_put (am_put c (508 + (c 0 49).toNat) 0 x) (508 + (c 0 49).toNat) 1 y) 0 49 (c 0 49 + 1) (508 + i.toNat) = c (508 + i.toNat) := fun i i0 i1 => by rw [am_put_kr (by omega), am_put_kr (by omega), am_put_kr (by omega)]
    have vn : am_put (am_put v 1 (v 0 1).toNat o) 0 1 (v 0 1 + 1) 1 (c 0 49).toNat = o := by rw [am_put_k (by decide), a2, am_put_s]
    have vi : ∀ i : Nat, (i : Int) < c 0 49 → am_put (am_put v 1 (v 0 1).toNat o) 0 1 (v 0 1 + 1) 1 i = v 1 i := fun i hi => by rw [am_put_k (by decide), am_put_i (by omega)]
    refine ⟨⟨hR, hI, fun _ => ⟨⟨fun r r0 r1 => ?_, fun j hj => ?_⟩, ?_, ?_, fun i hi => ?_, fun i hi => ⟨?_, ?_⟩⟩⟩, fun _ => ⟨g, k49, kn, ki⟩⟩
    · rw [am_put_kr r0, am_put_kr r1]; exact a1.1 r r0 r1
    · rw [am_put_i hj, am_put_k (by decide)]; exact a1.2 j hj
    · rw [am_put_s, k49, a2]
    · rw [k49]; omega
    · rw [k49] at hi
      by_cases e2 : (i : Int) = c 0 49
      · have e3 : i = (c 0 49).toNat := by omega
        rw [e3, vn, kn, kn1]
        exact o2
      · have e4 := ki i (by omega) (by omega)
        rw [Int.toNat_natCast] at e4
        rw [vi i (by omega), e4]
        exact a4 i (by omega)
    · rw [vi i (by omega)]; exact (a5 i hi).1
    · have e4 := ki i (by omega) (by omega)
      rw [Int.toNat_natCast] at e4
      rw [e4]; exact (a5 i hi).2
  · have eK : k_says c x y = c := if_neg g
    rw [eK]
    exact ⟨⟨h1, f_rput_I h2 o, fun g' => absurd g' g⟩, fun g' => absurd g' g⟩
/-- a level of the rule's text, on both sides -/
def StF (F : am_F → am_F → am_F × am_F) : Prop := ∀ v k, k 0 4 ≠ 0 → RvI v → RdI k → (F v k).2 0 4 = k 0 4 ∧ (F v k).2 0 5 = k 0 5 ∧ (F v k).2 0 1 = k 0 1
def StM (f : am_F → am_F) : Prop := ∀ c, c 0 5 ≠ 0 → f c = c
def LvS (e : am_F) (b : Bool) (N : Nat) (dp : Int) (F : am_F → am_F → am_F × am_F) (f : am_F → am_F) : Prop := ∀ v k c, MI c → SG e v c v k c → c 0 5 = 0 → c 0 50 = dp → SG e v c (F v k).1 (F v k).2 (f c) ∧ (f c 0 5 = 0 → XX (f c) b N (c 0 49) (f c 0 49))
def LV (e : am_F) (b : Bool) (N : Nat) (dp : Int) (F : am_F → am_F → am_F × am_F) (f : am_F → am_F) : Prop := LvS e b N dp F f ∧ StF F ∧ LvI F ∧ LmI f ∧ StM f
theorem lv_call {e v0 c0 v k c : am_F} {b : Bool} {N : Nat} {dp : Int} {F : am_F → am_F → am_F × am_F} {f : am_F → am_F} (hL : LV e b N dp F f) (h : SG e v0 c0 v k c) (hM : MI c) (hd : c 0 5 = 0 → c 0 50 = dp) : SG e v0 c0 (F v k).1 (F v k).2 (f c) ∧ MR c (f c) 0 0 ∧ MI (f c) ∧ (f c 0 5 = 0 → c 0 5 = 0 ∧ XX (f c) b N (c 0 49) (f c 0 49) ∧ ∀ i : Int, 0 ≤ i → i < c 0 49 → f c (508 + i.toNat) = c (508 + i.toNat)) := by
  obtain ⟨l1, l2, l3, l4, l5⟩ := hL
  have hm := l4 c hM
  have hM' := MR_I hM hm (by decide) (by have := hM.2.2.2.1; omega)
  by_cases g : c 0 5 = 0
  · obtain ⟨s1, s2⟩ := l1 v k c hM (SG_base h) g (hd g)
    refine ⟨SG_t h s1 (fun _ => g), hm, hM', fun g' => ⟨g, s2 g', fun i i0 i1 => ?_⟩⟩
    have h9 := (s1.2.2 g').2.2.2.2 i.toNat (by omega)
    exact h9.2
  · have e1 := l5 c g
    obtain ⟨x1, x2, x3⟩ := l2 v k (by rw [h.1.1]; exact g) h.2.1 h.1.2.2.2.2.2.1
    obtain ⟨y1, y2⟩ := l3 v k h.2.1 h.1.2.2.2.2.2.1
    rw [e1]
    rw [e1] at hm hM'
    exact ⟨⟨rr_still h.1 g y2 x3 x1 x2, y1, fun g' => absurd g' g⟩, hm, hM, fun g' => absurd g' g⟩
