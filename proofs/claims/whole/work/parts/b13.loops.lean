/-! THE TIE: loops that seek -/
theorem ti_find_eq {β : Type} {p q : Int → Option β} : ∀ (n : Nat) (i : Int), (∀ j, i ≤ j → j < i + n → p j = q j) → am_find p i n = am_find q i n := by
  intro n
  induction n with
  | zero => intro i _; rfl
  | succ n ih =>
    intro i h
    cases e : p i with
    | none => rw [am_find_n e, am_find_n (by rw [← h i (by omega) (by omega)]; exact e)]; exact ih (i + 1) fun j a1 a2 => h j (by omega) (by omega)
    | some r => rw [am_find_y e, am_find_y (by rw [← h i (by omega) (by omega)]; exact e)]
theorem PC_eq {c : am_F} {n m n' m' : Int} (hV : MdV c) (h1 : PC c n m) (h2 : PC c n' m') : (n = n' ↔ m = m') ∧ (n = -1 ↔ m = -1) := by
  have v1 := hV.1
  have v2 := hV.2.1
  rcases h1 with ⟨rfl, rfl⟩ | ⟨x, y, a1, a2, rfl, rfl⟩ <;> rcases h2 with ⟨rfl, rfl⟩ | ⟨x', y', b1, b2, rfl, rfl⟩ <;> omega
theorem PC_lt {c : am_F} {n m : Int} (hV : MdV c) (h : PC c n m) (hn : m ≠ -1) : 0 ≤ n ∧ n ≤ 88 ∧ 0 ≤ m ∧ m ≤ 80 := by
  have v1 := hV.1
  have v2 := hV.2.1
  rcases h with ⟨rfl, rfl⟩ | ⟨x, y, a1, a2, rfl, rfl⟩ <;> omega
theorem ti_whose {h c r q : am_F} {x y : Int} (hl : h 0 5 = c 4 2) (hb : ∀ l : Int, 0 ≤ l → l < c 4 2 → f_burntOn r l (x + 10 * y) = q (251 + l.toNat) (x + 9 * y).toNat) : (am_fold (g_c_whose_23 r x y) 0 (h 0 5).toNat (0, -1)).2 = (am_fold (g_k_whose_42 q x y) 0 (c 4 2).toNat (-1, 0)).1 := by
  rw [hl]
  refine (ti_rel (R := fun i (a b : Int × Int) => a.1 = b.2 ∧ a.2 = b.1) (f := g_c_whose_23 r x y) (g := g_k_whose_42 q x y) (c 4 2).toNat 0 (0, -1) (-1, 0) ⟨rfl, rfl⟩ fun j a b a1 a2 hR => ?_).2
  obtain ⟨r1, r2⟩ := hR
  unfold g_c_whose_23 g_k_whose_42
  simp only []
  rw [hb j a1 (by omega), r1, r2]
  by_cases g : b.2 < q (251 + j.toNat) (x + 9 * y).toNat
  · rw [if_pos g, if_pos g, if_neg (by omega), if_neg (by omega)]
    exact ⟨rfl, rfl⟩
  · rw [if_neg g, if_neg g, if_pos (by omega), if_pos (by omega)]
    exact ⟨rfl, rfl⟩
theorem ti_thick {h c r q : am_F} {t : Int} (hV : MdV c) (hH : h 0 0 = c 4 0 ∧ h 0 1 = c 4 1) (hQ : FQ t r q) : (am_fold (g_c_thick_23 h r t) 0 (h 0 1).toNat (-1, 0)).2 = k_told10 (am_fold (g_k_thick_36 c q t) 0 (c 4 1).toNat 0) := by
  have v1 := hV.1
  have v2 := hV.2.1
  rw [hH.2]
  have h9 := ti_rel (R := fun y (a : Int × Int) (b : Int) => (y = 0 → a = (-1, 0) ∧ b = 0) ∧ (0 < y → a.1 = q (159 + (t + 1).toNat) b.toNat ∧ PC c a.2 b ∧ b ≠ -1)) (f := g_c_thick_23 h r t) (g := g_k_thick_36 c q t) (c 4 1).toNat 0 (-1, 0) 0 ⟨fun _ => ⟨rfl, rfl⟩, fun h => by omega⟩ (fun y a b a1 a2 hR => by
    have h8 := ti_rel (R := fun x (a : Int × Int) (b : Int) => (y = 0 ∧ x = 0 → a = (-1, 0) ∧ b = 0) ∧ (0 < y ∨ 0 < x → a.1 = q (159 + (t + 1).toNat) b.toNat ∧ PC c a.2 b ∧ b ≠ -1)) (f := g_c_thick_38 r t y) (g := g_k_thick_49 q t y) (c 4 0).toNat 0 a b ⟨fun e => hR.1 e.1, fun e => hR.2 (by omega)⟩ (fun x a b b1 b2 hR => by
      obtain ⟨f1, f2, f3⟩ := hQ x y b1 (by omega) a1 (by omega)
      unfold g_c_thick_38 g_k_thick_49
      simp only []
      refine ⟨fun e => by omega, fun _ => ?_⟩
      have hp : PC c (x + 10 * y) (x + 9 * y) := Or.inr ⟨x, y, ⟨b1, by omega⟩, ⟨a1, by omega⟩, rfl, rfl⟩
      by_cases e0 : y = 0 ∧ x = 0
      · obtain ⟨e1, e2⟩ := hR.1 e0
        rw [e1, e2]
        dsimp only
        have ez : (x + 9 * y).toNat = (0 : Int).toNat := by omega
        rw [ez] at f1
        rw [ez, if_neg (show ¬ f_fogOn r (x + 10 * y) t ≤ -1 by omega), if_neg (show ¬ f_fogOn r (x + 10 * y) t ≤ -1 by omega), if_pos (Int.le_refl _)]
        refine ⟨f1, ?_, by decide⟩
        rw [show x + 10 * y = 0 by omega] at hp ⊢
        rw [show x + 9 * y = 0 by omega] at hp
        exact hp
      · obtain ⟨e1, e2, e3⟩ := hR.2 (by omega)
        rw [f1, e1]
        by_cases g : q (159 + (t + 1).toNat) (x + 9 * y).toNat ≤ q (159 + (t + 1).toNat) b.toNat
        · rw [if_pos g, if_pos g, if_pos g]
          exact ⟨rfl, e2, e3⟩
        · rw [if_neg g, if_neg g, if_neg g]
          exact ⟨rfl, hp, by omega⟩)
    have e4 : g_c_thick_23 h r t y a = am_fold (g_c_thick_38 r t y) 0 (h 0 0).toNat a := rfl
    rw [e4, hH.1]
    refine ⟨fun e => by omega, fun _ => ?_⟩
    exact h8.2 (by omega))
  exact PC_10 hV (h9.2 (by omega)).2.1
theorem ti_meet {h c : am_F} {k l : Int} (hC : HC h c) (hk : 0 ≤ k ∧ k < c 4 4) (hl : 0 ≤ l ∧ l < c 4 4) : am_find (p_c_meet_15 h k l) 0 40 = am_find (p_k_meet_37 c k l) 0 40 := by
  obtain ⟨hHI, hV, hT, hN, hW, hWt, hSh, hL⟩ := hC
  refine ti_find_eq 40 0 fun j a1 a2 => ?_
  obtain ⟨e1, e2⟩ := PC_eq hV (ti_place hW hk (s := j) (by omega)) (ti_place hW hl (s := j) (by omega))
  unfold p_c_meet_15 p_k_meet_37
  simp only []
  by_cases g : f_cellOf h k j = -1
  · rw [if_pos g, if_pos (e2.mp g)]
  · rw [if_neg g, if_neg (fun g2 => g (e2.mpr g2))]
    by_cases g3 : f_cellOf h k j = f_cellOf h l j
    · rw [if_pos g3, if_pos (e1.mp g3)]
    · rw [if_neg g3, if_neg (fun g4 => g3 (e1.mpr g4))]
/-! bits of four -/
def ti_pk (b0 b1 b2 b3 : Bool) (i : Int) : Bool := if i = 0 then b0 else if i = 1 then b1 else if i = 2 then b2 else b3
def ti_bf (b0 b1 b2 b3 : Bool) (n : Nat) : Int := am_fold (fun i a => if ti_pk b0 b1 b2 b3 i = true then am_ior a (am_ishl 1 i) else a) 0 n 0
theorem ti_bf_all : ∀ n : Fin 5, ∀ b0 b1 b2 b3 : Bool, am_iand (-1) (ti_bf b0 b1 b2 b3 n.val) = ti_bf b0 b1 b2 b3 n.val ∧ am_iand (am_ishl 1 n.val - 1) (ti_bf b0 b1 b2 b3 n.val) = ti_bf b0 b1 b2 b3 n.val ∧ am_w32 (ti_bf b0 b1 b2 b3 n.val) = ti_bf b0 b1 b2 b3 n.val := by decide +kernel
theorem ti_bf_one : ∀ n : Fin 5, ∀ k : Fin 5, k.val < n.val → ∀ b0 b1 b2 b3 : Bool, (am_iand (ti_bf b0 b1 b2 b3 n.val) (am_ixor (am_ishl 1 k.val) (-1)) = 0 ↔ ∀ j : Fin 5, j.val < n.val → j.val ≠ k.val → ti_pk b0 b1 b2 b3 j.val = false) := by decide +kernel
theorem ti_bf_of {n : Nat} (hn : n ≤ 4) (F : Int → Int) (hF : ∀ i, F i = 0 ∨ F i = 1) : ∃ b0 b1 b2 b3 : Bool, am_fold (fun i a => if F i = 0 then a else am_ior a (am_ishl 1 i)) 0 n 0 = ti_bf b0 b1 b2 b3 n ∧ ∀ i : Int, 0 ≤ i → i < n → (ti_pk b0 b1 b2 b3 i = false ↔ F i = 0) := by
  refine ⟨decide (F 0 = 1), decide (F 1 = 1), decide (F 2 = 1), decide (F 3 = 1), ?_, ?_⟩
  · refine am_fold_eq n 0 0 fun j a a1 a2 => ?_
    have h4 : j = 0 ∨ j = 1 ∨ j = 2 ∨ j = 3 := by omega
    rcases h4 with rfl | rfl | rfl | rfl
    · rcases hF 0 with g | g <;> simp [ti_pk, g]
    · rcases hF 1 with g | g <;> simp [ti_pk, g]
    · rcases hF 2 with g | g <;> simp [ti_pk, g]
    · rcases hF 3 with g | g <;> simp [ti_pk, g]
  · intro j a1 a2
    have h4 : j = 0 ∨ j = 1 ∨ j = 2 ∨ j = 3 := by omega
    rcases h4 with rfl | rfl | rfl | rfl
    · rcases hF 0 with g | g <;> simp [ti_pk, g]
    · rcases hF 1 with g | g <;> simp [ti_pk, g]
    · rcases hF 2 with g | g <;> simp [ti_pk, g]
    · rcases hF 3 with g | g <;> simp [ti_pk, g]
/-- the walkers' bits -/
theorem ti_walk4 {r h : am_F} (n s : Int) (hn : 0 ≤ h 0 8 ∧ h 0 8 ≤ 4) : ∃ b0 b1 b2 b3 : Bool, f_walkersOn r h n s = ti_bf b0 b1 b2 b3 (h 0 8).toNat ∧ ∀ i : Int, 0 ≤ i → i < h 0 8 → (ti_pk b0 b1 b2 b3 i = false ↔ f_clear r h (f_cellOf h i s) n s = 0) := by
  obtain ⟨b0, b1, b2, b3, h1, h2⟩ := ti_bf_of (n := (h 0 8).toNat) (by omega) (fun i => f_clear r h (f_cellOf h i s) n s) (fun i => f_clear_01 r h _ _ s)
  exact ⟨b0, b1, b2, b3, h1, fun i a1 a2 => h2 i a1 (by omega)⟩
theorem ti_walkI {r h : am_F} (n s : Int) (hn : 0 ≤ h 0 8 ∧ h 0 8 ≤ 4) : am_iand (-1) (f_walkersOn r h n s) = f_walkersOn r h n s ∧ am_iand (am_ishl 1 (h 0 8) - 1) (f_walkersOn r h n s) = f_walkersOn r h n s := by
  obtain ⟨b0, b1, b2, b3, h1, h2⟩ := ti_walk4 (r := r) n s hn
  have h9 := ti_bf_all ⟨(h 0 8).toNat, by omega⟩ b0 b1 b2 b3
  rw [h1]
  have e : (((h 0 8).toNat : Nat) : Int) = h 0 8 := by omega
  simp only [e] at h9
  exact ⟨h9.1, h9.2.1⟩
theorem ti_hid {h c r q : am_F} {k s : Int} (hC : HC h c) (hQ : FQ s r q) (hs : 0 ≤ s ∧ s < 40) (hk : 0 ≤ k ∧ k < c 4 4) (m : Int) : (if f_hid r h k s = 0 then m else m + 1) = g_k_hid_37 c q k s m := by
  obtain ⟨hHI, hV, hT, hN, hW, hWt, hSh, hL⟩ := id hC
  have hp := ti_place hW hk hs
  have e2 := (PC_eq hV hp hp).2
  have hv4 := hV.2.2.2.2.1
  have h8 := hW.1
  unfold f_hid g_k_hid_37
  simp only []
  by_cases g : f_cellOf h k s = -1
  · rw [if_pos (Or.inl g), if_pos rfl, if_pos (e2.mp g)]
  · rw [if_neg (fun g2 => g (e2.mpr g2)), ti_seenOn hC hQ hp]
    -- the other walkers
    have hok : ∀ n : Nat, (n : Int) ≤ c 4 4 → ∀ ok : Int, am_fold (g_k_hid_80 c q k s) 0 n ok = 0 ↔ ¬ (ok ≠ 0 ∧ ∀ j : Int, 0 ≤ j → j < n → j ≠ k → k_seesOne c q j k s = 0) := by
      intro n
      induction n with
      | zero =>
        intro _ ok
        show ok = 0 ↔ _
        exact ⟨fun e g => g.1 e, fun g => Classical.byContradiction fun e => g ⟨e, fun j b1 b2 => by omega⟩⟩
      | succ n ih =>
        intro hn ok
        have ih9 := ih (by omega) ok
        rw [ti_last, show (0 : Int) + (n : Int) = n by omega]
        generalize am_fold (g_k_hid_80 c q k s) 0 n ok = X at *
        unfold g_k_hid_80
        by_cases e : X = 0
        · rw [if_pos e]
          exact ⟨fun _ g => (ih9.mp e) ⟨g.1, fun j b1 b2 b3 => g.2 j b1 (by omega) b3⟩, fun _ => rfl⟩
        · rw [if_neg e]
          have e3 : ok ≠ 0 ∧ ∀ j : Int, 0 ≤ j → j < n → j ≠ k → k_seesOne c q j k s = 0 := Classical.byContradiction fun g => e (ih9.mpr g)
          by_cases e6 : (n : Int) = k
          · rw [if_pos e6]
            exact ⟨fun g => absurd g (by decide), fun g => absurd ⟨e3.1, fun j b1 b2 b3 => e3.2 j b1 (by omega) b3⟩ g⟩
          · rw [if_neg e6]
            simp only []
            by_cases e7 : k_seesOne c q n k s = 0
            · rw [if_pos e7]
              exact ⟨fun g => absurd g (by decide), fun g => absurd ⟨e3.1, fun j b1 b2 b3 => by
                by_cases e8 : j = n
                · rw [e8]; exact e7
                · exact e3.2 j b1 (by omega) b3⟩ g⟩
            · rw [if_neg e7]
              exact ⟨fun _ g => e7 (g.2 n (by omega) (by omega) e6), fun _ => rfl⟩
    have hok9 := hok (c 4 4).toNat (by omega)
    obtain ⟨b0, b1, b2, b3, w1, w2⟩ := ti_walk4 (r := r) (h := h) (f_cellOf h k s) s (by omega)
    have w3 := ti_bf_one ⟨(h 0 8).toNat, by omega⟩ ⟨k.toNat, by omega⟩ (by show k.toNat < (h 0 8).toNat; omega) b0 b1 b2 b3
    rw [w1]
    have ek : ((k.toNat : Nat) : Int) = k := by omega
    simp only [ek] at w3
    have e9 : (am_iand (ti_bf b0 b1 b2 b3 (h 0 8).toNat) (am_ixor (am_ishl 1 k) (-1)) = 0) ↔ (∀ j : Int, 0 ≤ j → j < (c 4 4).toNat → j ≠ k → k_seesOne c q j k s = 0) := by
      rw [w3]
      refine ⟨fun g j c1 c2 c3 => ?_, fun g j c1 c2 => ?_⟩
      · have := g ⟨j.toNat, by omega⟩ (by show j.toNat < _; omega) (by show j.toNat ≠ k.toNat; omega)
        rw [← ti_seeEach hC hQ hs (by omega) hk]
        refine (w2 j c1 (by omega)).mp ?_
        rw [show ((⟨j.toNat, by omega⟩ : Fin 5).val : Int) = j by show ((j.toNat : Nat) : Int) = j; omega] at this
        exact this
      · have c3 : j.val < (h 0 8).toNat := c1
        have c4 : j.val ≠ k.toNat := c2
        have := g j.val (by omega) (by omega) (by omega)
        rw [← ti_seeEach hC hQ hs (by omega) hk] at this
        exact (w2 j.val (by omega) (by omega)).mpr this
    by_cases g1 : k_seenOn c q (k_placeOf c k s) s = 0
    · rw [if_pos g1, g1]
      have hok1 := hok9 1
      generalize am_fold (g_k_hid_80 c q k s) 0 (c 4 4).toNat 1 = X at *
      rw [if_neg (show ¬ (f_cellOf h k s = -1 ∨ (0 : Int) ≠ 0) from fun g2 => g2.elim g (fun g3 => g3 rfl))]
      by_cases g4 : am_iand (ti_bf b0 b1 b2 b3 (h 0 8).toNat) (am_ixor (am_ishl 1 k) (-1)) = 0
      · rw [if_pos g4, if_neg (by decide), if_neg (fun e => hok1.mp e ⟨by decide, e9.mp g4⟩)]
      · rw [if_neg g4, if_pos rfl, if_pos (hok1.mpr fun e => g4 (e9.mpr e.2)), Int.add_zero]
    · have hok0 := hok9 0
      rw [if_neg g1, if_pos (Or.inr g1), if_pos rfl, if_pos (hok0.mpr fun e => e.1 rfl), Int.add_zero]
