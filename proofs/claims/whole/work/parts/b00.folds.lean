/-! THE TIE: folds of both sides -/
theorem ti_rel {α β : Type} {R : Int → α → β → Prop} {f : Int → α → α} {g : Int → β → β} : ∀ (n : Nat) (i : Int) (x : α) (y : β), R i x y → (∀ j x y, i ≤ j → j < i + n → R j x y → R (j + 1) (f j x) (g j y)) → R (i + n) (am_fold f i n x) (am_fold g i n y) := by
  intro n
  induction n with
  | zero =>
    intro i x y h _
    rw [show i + ((0 : Nat) : Int) = i by omega]
    exact h
  | succ n ih =>
    intro i x y h hs
    have h1 := ih (i + 1) (f i x) (g i y) (hs i x y (by omega) (by omega) h) (fun j x y h1 h2 => hs j x y (by omega) (by omega))
    have e : i + 1 + (n : Int) = i + ((n + 1 : Nat) : Int) := by omega
    rw [e] at h1
    exact h1
/-- the relation that stays -/
theorem ti_rel0 {α β : Type} {R : α → β → Prop} {f : Int → α → α} {g : Int → β → β} (n : Nat) (i : Int) (x : α) (y : β) (h : R x y) (hs : ∀ j x y, i ≤ j → j < i + n → R x y → R (f j x) (g j y)) : R (am_fold f i n x) (am_fold g i n y) :=
  ti_rel (R := fun _ x y => R x y) n i x y h hs
theorem ti_inv0 {α : Type} {P : α → Prop} {f : Int → α → α} (n : Nat) (i : Int) (x : α) (h : P x) (hs : ∀ j x, i ≤ j → j < i + n → P x → P (f j x)) : P (am_fold f i n x) :=
  am_fold_inv (P := fun _ x => P x) n i x h hs
theorem ti_add {α : Type} (g : Int → α → α) : ∀ (m n : Nat) (i : Int) (x : α), am_fold g i (m + n) x = am_fold g (i + m) n (am_fold g i m x) := by
  intro m
  induction m with
  | zero => intro n i x; simp [am_fold]
  | succ m ih =>
    intro n i x
    rw [show m + 1 + n = (m + n) + 1 by omega, am_fold_s, am_fold_s, ih]
    rw [show i + 1 + (m : Int) = i + ((m + 1 : Nat) : Int) by omega]
theorem ti_shift {α : Type} (g : Int → α → α) (a : Int) : ∀ (n : Nat) (i : Int) (x : α), am_fold g (a + i) n x = am_fold (fun j => g (a + j)) i n x := by
  intro n
  induction n with
  | zero => intro i x; rfl
  | succ n ih =>
    intro i x
    rw [am_fold_s, am_fold_s, show a + i + 1 = a + (i + 1) by omega, ih]
theorem ti_from {α : Type} (g : Int → α → α) (a : Int) (n : Nat) (x : α) : am_fold g a n x = am_fold (fun j => g (a + j)) 0 n x := by
  have := ti_shift g a n 0 x
  rwa [show a + 0 = a by omega] at this
/-- a row of m * n as n rows of m -/
theorem ti_nest {α : Type} (g : Int → α → α) (m : Nat) : ∀ (n : Nat) (i : Int) (x : α), am_fold g (i * m) (n * m) x = am_fold (fun y => am_fold (fun x => g (x + m * y)) 0 m) i n x := by
  intro n
  induction n with
  | zero => intro i x; simp [am_fold]
  | succ n ih =>
    intro i x
    rw [show (n + 1) * m = m + n * m by rw [Nat.add_mul, Nat.one_mul, Nat.add_comm], ti_add, am_fold_s, ← ih (i + 1)]
    have e1 : i * (m : Int) + (m : Int) = (i + 1) * m := by rw [Int.add_mul, Int.one_mul]
    rw [e1]
    congr 1
    rw [ti_from g (i * m)]
    refine am_fold_eq m 0 x fun j y _ _ => ?_
    show g (i * m + j) y = g (j + m * i) y
    rw [Int.mul_comm i, Int.add_comm]
theorem ti_nest0 {α : Type} (g : Int → α → α) (m n : Nat) (x : α) : am_fold g 0 (n * m) x = am_fold (fun y => am_fold (fun x => g (x + m * y)) 0 m) 0 n x := by
  have := ti_nest g m n 0 x
  rwa [Int.zero_mul] at this
theorem ti_last {α : Type} (g : Int → α → α) (n : Nat) (i : Int) (x : α) : am_fold g i (n + 1) x = g (i + n) (am_fold g i n x) := by
  rw [ti_add g n 1 i x]
  rfl
/-- a row of the class (ten to a row) beside one of the model (nine to a row) -/
theorem ti_rows {α β : Type} {R : Int → Int → α → β → Prop} {f : Int → α → α} {g : Int → β → β} (b : Int) (x : α) (y : β) (h0 : R 0 0 x y)
    (hs : ∀ i j x y, 0 ≤ i → i < 9 → 0 ≤ j → j < 9 → R i j x y → R (i + 1) j (f (b + (i + 10 * j)) x) (g (i + 9 * j) y))
    (he : ∀ j x y, 0 ≤ j → j < 9 → R 9 j x y → R 0 (j + 1) (f (b + (9 + 10 * j)) x) y) :
    R 0 9 (am_fold f b 90 x) (am_fold g 0 81 y) := by
  rw [ti_from f b, show (90 : Nat) = 9 * 10 from rfl, show (81 : Nat) = 9 * 9 from rfl, ti_nest0, ti_nest0]
  refine ti_rel (R := fun j x y => R 0 j x y) 9 0 x y h0 fun j x y h1 h2 hR => ?_
  show R 0 (j + 1) (am_fold (fun i => f (b + (i + ((10 : Nat) : Int) * j))) 0 (9 + 1) x) (am_fold (fun i => g (i + ((9 : Nat) : Int) * j)) 0 9 y)
  rw [ti_last]
  have h := ti_rel (R := fun i x y => R i j x y) (f := fun i => f (b + (i + ((10 : Nat) : Int) * j))) (g := fun i => g (i + ((9 : Nat) : Int) * j)) 9 0 x y hR (fun i x y h3 h4 hR => hs i j x y h3 (by omega) h1 (by omega) hR)
  exact he j _ _ h1 (by omega) h
/-- a find beside a find -/
theorem ti_find {β γ : Type} {p : Int → Option β} {q : Int → Option γ} {R : Option β → Option γ → Prop} (h0 : R none none) : ∀ (n : Nat) (i : Int), (∀ j, i ≤ j → j < i + n → (p j = none ∧ q j = none) ∨ (p j ≠ none ∧ q j ≠ none ∧ R (p j) (q j))) → R (am_find p i n) (am_find q i n) := by
  intro n
  induction n with
  | zero => intro i _; exact h0
  | succ n ih =>
    intro i h
    rcases h i (by omega) (by omega) with ⟨h1, h2⟩ | ⟨h1, h2, h3⟩
    · rw [am_find_n h1, am_find_n h2]
      exact ih (i + 1) (fun j h4 h5 => h j (by omega) (by omega))
    · cases hp : p i with
      | none => exact absurd hp h1
      | some a =>
        cases hq : q i with
        | none => exact absurd hq h2
        | some b =>
          rw [am_find_y hp, am_find_y hq, ← hp, ← hq]
          exact h3
/-! sums that wrap -/
theorem ti_w {x : Int} (h : am_i32 x) : am_w32 x = x := am_i32_i h
theorem ti_ww (x : Int) : am_w32 (am_w32 x) = am_w32 x := by unfold am_w32; rw [Int32.ofInt_toInt]
theorem ti_wadd (x y : Int) : am_w32 (am_w32 x + y) = am_w32 (x + y) := by
  unfold am_w32
  rw [Int32.ofInt_add, Int32.ofInt_toInt, ← Int32.ofInt_add]
theorem ti_wi (x : Int) : am_i32 (am_w32 x) := am_w32r _
