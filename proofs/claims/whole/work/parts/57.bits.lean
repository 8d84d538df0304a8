/-! bits of small numbers -/
theorem am_bv {n : Nat} : (Int32.ofInt (n : Int)).toBitVec = BitVec.ofNat 32 n := by
  show BitVec.ofInt 32 (n : Int) = BitVec.ofNat 32 n
  exact BitVec.ofInt_natCast 32 n
theorem am_bvi {x : Int32} (h : x.toBitVec.toNat < 2147483648) : x.toInt = (x.toBitVec.toNat : Int) := by
  show x.toBitVec.toInt = _
  exact BitVec.toInt_eq_toNat_of_lt (by omega)
theorem am_ior_n {n m : Nat} (hn : n < 4096) (hm : m < 4096) : am_ior (n : Int) (m : Int) = ((n ||| m : Nat) : Int) := by
  have hor : n ||| m < 4096 := Nat.or_lt_two_pow (n := 12) hn hm
  have e : (Int32.ofInt (n : Int) ||| Int32.ofInt (m : Int)).toBitVec.toNat = n ||| m := by
    rw [Int32.toBitVec_or, am_bv, am_bv, BitVec.toNat_or, BitVec.toNat_ofNat, BitVec.toNat_ofNat, Nat.mod_eq_of_lt (by omega), Nat.mod_eq_of_lt (by omega)]
  unfold am_ior
  rw [am_bvi (by omega), e]
theorem am_shl_n {k : Nat} (h : k < 12) : am_ishl 1 (k : Int) = ((2 ^ k : Nat) : Int) := by
  have h2 : k = 0 ∨ k = 1 ∨ k = 2 ∨ k = 3 ∨ k = 4 ∨ k = 5 ∨ k = 6 ∨ k = 7 ∨ k = 8 ∨ k = 9 ∨ k = 10 ∨ k = 11 := by omega
  rcases h2 with h | h | h | h | h | h | h | h | h | h | h | h <;> (subst h; decide)
/-- a bit of a small number -/
abbrev am_bit (d k : Int) : Int := am_iand (am_ishr d k) 1
theorem am_bit_n {n k : Nat} (hn : n < 4096) (h : k < 12) : am_bit (n : Int) (k : Int) = if n.testBit k then 1 else 0 := by
  show am_iand (am_ishr (n : Int) (k : Int)) 1 = _
  have e1 : ((Int32.ofInt (n : Int)) >>> (Int32.ofInt (k : Int) &&& 31)).toBitVec = BitVec.ofNat 32 (n >>> k) := by
    have hk : Int32.ofInt (k : Int) &&& 31 = Int32.ofInt (k : Int) := by
      have h2 : k = 0 ∨ k = 1 ∨ k = 2 ∨ k = 3 ∨ k = 4 ∨ k = 5 ∨ k = 6 ∨ k = 7 ∨ k = 8 ∨ k = 9 ∨ k = 10 ∨ k = 11 := by omega
      rcases h2 with h | h | h | h | h | h | h | h | h | h | h | h <;> (subst h; decide)
    have hk2 : ((Int32.ofInt (k : Int)).toBitVec.smod 32) = BitVec.ofNat 32 k := by
      have h2 : k = 0 ∨ k = 1 ∨ k = 2 ∨ k = 3 ∨ k = 4 ∨ k = 5 ∨ k = 6 ∨ k = 7 ∨ k = 8 ∨ k = 9 ∨ k = 10 ∨ k = 11 := by omega
      rcases h2 with h | h | h | h | h | h | h | h | h | h | h | h <;> (subst h; decide)
    rw [hk, Int32.toBitVec_shiftRight, hk2, am_bv]
    apply BitVec.eq_of_toNat_eq
    rw [BitVec.sshiftRight_eq', BitVec.sshiftRight_eq_of_msb_false (by rw [BitVec.msb_eq_decide, BitVec.toNat_ofNat]; simp only [decide_eq_false_iff_not]; omega), BitVec.toNat_ushiftRight, BitVec.toNat_ofNat, BitVec.toNat_ofNat, BitVec.toNat_ofNat]
    rw [Nat.mod_eq_of_lt (by omega : n < 2 ^ 32), Nat.mod_eq_of_lt (by omega : k < 2 ^ 32)]
    rw [Nat.mod_eq_of_lt (Nat.lt_of_le_of_lt (Nat.shiftRight_le n k) (by omega))]
  have hs : n >>> k < 4096 := Nat.lt_of_le_of_lt (Nat.shiftRight_le n k) hn
  have e2 : am_ishr (n : Int) (k : Int) = ((n >>> k : Nat) : Int) := by
    unfold am_ishr
    rw [am_bvi (by rw [e1, BitVec.toNat_ofNat, Nat.mod_eq_of_lt (by omega)]; omega), e1, BitVec.toNat_ofNat, Nat.mod_eq_of_lt (by omega)]
  rw [e2]
  have e3 : (Int32.ofInt ((n >>> k : Nat) : Int) &&& Int32.ofInt ((1 : Nat) : Int)).toBitVec.toNat = (n >>> k) % 2 := by
    rw [Int32.toBitVec_and, am_bv, am_bv, BitVec.toNat_and, BitVec.toNat_ofNat, BitVec.toNat_ofNat, Nat.mod_eq_of_lt (by omega), Nat.mod_eq_of_lt (by omega), Nat.and_one_is_mod]
  have e4 : am_iand ((n >>> k : Nat) : Int) 1 = (((n >>> k) % 2 : Nat) : Int) := by
    show (Int32.ofInt ((n >>> k : Nat) : Int) &&& Int32.ofInt ((1 : Nat) : Int)).toInt = _
    rw [am_bvi (by omega), e3]
  rw [e4]
  have e5 : n.testBit k = decide ((n >>> k) % 2 = 1) := by
    rw [Nat.testBit_eq_decide_div_mod_eq, Nat.shiftRight_eq_div_pow]
  by_cases h1 : (n >>> k) % 2 = 1
  · rw [if_pos (by rw [e5]; exact decide_eq_true h1), h1]; rfl
  · rw [if_neg (by rw [e5]; exact fun h => h1 (of_decide_eq_true h))]; omega
theorem am_bit_set {d k : Int} (hd : 0 ≤ d ∧ d < 4096) (hk : 0 ≤ k ∧ k < 12) : (0 ≤ am_ior d (am_ishl 1 k) ∧ am_ior d (am_ishl 1 k) < 4096) ∧ am_bit (am_ior d (am_ishl 1 k)) k = 1 ∧ ∀ j : Int, 0 ≤ j → j < 12 → j ≠ k → am_bit (am_ior d (am_ishl 1 k)) j = am_bit d j := by
  obtain ⟨n, rfl⟩ := Int.eq_ofNat_of_zero_le hd.1
  obtain ⟨m, rfl⟩ := Int.eq_ofNat_of_zero_le hk.1
  have hn : n < 4096 := by omega
  have hm : m < 12 := by omega
  have hp : 2 ^ m < 4096 := by
    have := Nat.pow_lt_pow_right (a := 2) (by omega) hm
    simpa using this
  have hor : n ||| 2 ^ m < 4096 := Nat.or_lt_two_pow (n := 12) hn hp
  rw [am_shl_n hm, am_ior_n hn hp]
  refine ⟨⟨by omega, by omega⟩, ?_, ?_⟩
  · rw [am_bit_n hor hm, if_pos]
    simp [Nat.testBit_or, Nat.testBit_two_pow_self]
  · intro j h0 h1 h2
    obtain ⟨i, rfl⟩ := Int.eq_ofNat_of_zero_le h0
    have hi : i < 12 := by omega
    rw [am_bit_n hor hi, am_bit_n hn hi]
    have : (n ||| 2 ^ m).testBit i = n.testBit i := by
      rw [Nat.testBit_or, Nat.testBit_two_pow_of_ne (by omega)]
      simp
    rw [this]
theorem am_bit_01 {d k : Int} (hd : 0 ≤ d ∧ d < 4096) (hk : 0 ≤ k ∧ k < 12) : am_bit d k = 0 ∨ am_bit d k = 1 := by
  obtain ⟨n, rfl⟩ := Int.eq_ofNat_of_zero_le hd.1
  obtain ⟨m, rfl⟩ := Int.eq_ofNat_of_zero_le hk.1
  rw [am_bit_n (by omega) (by omega)]
  split
  · right; rfl
  · left; rfl
theorem am_bit_0 {k : Int} (hk : 0 ≤ k ∧ k < 12) : am_bit 0 k = 0 := by
  obtain ⟨m, rfl⟩ := Int.eq_ofNat_of_zero_le hk.1
  have := am_bit_n (n := 0) (k := m) (by omega) (by omega)
  simpa using this
/-- how many bits are not set yet -/
def k_zer : Nat → Int → Int
  | 0, _ => 0
  | n + 1, d => k_zer n d + (if am_bit d n = 0 then 1 else 0)
theorem k_zer_b : ∀ (n : Nat) (d : Int), 0 ≤ k_zer n d ∧ k_zer n d ≤ n := by
  intro n
  induction n with
  | zero => intro d; exact ⟨by show (0 : Int) ≤ 0; omega, by show (0 : Int) ≤ 0; omega⟩
  | succ n ih =>
    intro d
    have := ih d
    unfold k_zer
    split <;> omega
theorem k_zer_set {d k : Int} (hd : 0 ≤ d ∧ d < 4096) (hk : 0 ≤ k ∧ k < 12) (h0 : am_bit d k = 0) : ∀ n : Nat, n ≤ 12 → (k < n → k_zer n (am_ior d (am_ishl 1 k)) = k_zer n d - 1) ∧ (¬ k < n → k_zer n (am_ior d (am_ishl 1 k)) = k_zer n d) := by
  obtain ⟨-, h1, h2⟩ := am_bit_set hd hk
  intro n
  induction n with
  | zero => intro _; exact ⟨fun h => by omega, fun _ => rfl⟩
  | succ n ih =>
    intro hn
    obtain ⟨i1, i2⟩ := ih (by omega)
    unfold k_zer
    by_cases e : k = (n : Int)
    · constructor
      · intro _
        rw [i2 (by omega)]
        rw [← e, h1, h0]
        simp
      · intro h
        exfalso; omega
    · rw [h2 n (by omega) (by omega) (by omega)]
      constructor
      · intro h
        rw [i1 (by omega)]
        omega
      · intro h
        rw [i2 (by omega)]
