/-! Auction -/
def auC (b : Nat) (q : am_F) : Nat → AC
  | 0 => cO 0 [aR (b + 1), aR (b + 2), aR (b + 3), aR (b + 4), aR (b + 5), aI (q 0 5)]
  | 1 => cP 0 9 (q 1)
  | 2 => cP 0 12 (q 2)
  | 3 => cP 0 12 (q 3)
  | 4 => cP 0 12 (q 4)
  | _ => cP 1 12 (q 5)
def auW (w : AH) (b : Nat) (q : am_F) : AH := am_ov w b 6 (auC b q)
theorem auW_c {w : AH} {b : Nat} {q : am_F} (hl : b + 6 ≤ w.length) (k : Nat) (hk : k < 6) : (auW w b q)[b + k]? = some (auC b q k) := am_ovi hl k hk
theorem auW_o {w : AH} {b : Nat} {q : am_F} {j : Nat} (hj : j < b ∨ b + 6 ≤ j) : (auW w b q)[j]? = w[j]? := am_ovo j hj
theorem auW_self {w : AH} {b : Nat} {q : am_F} (h : ∀ k, k < 6 → w[b + k]? = some (auC b q k)) : auW w b q = w := am_ovself h
theorem auW_W {w : AH} {b : Nat} {q q2 : am_F} : auW (auW w b q) b q2 = auW w b q2 := am_ovov
theorem auW_p1 {w : AH} {b : Nat} {q : am_F} {i : Nat} {v : Int} : (auW w b q).set (b + 1) (cP 0 9 (am_up (q 1) i v)) = auW w b (am_put q 1 i v) := am_ovset 1 (by decide) (fun j hj => match j, hj with | 0, _ => rfl | 1, _ => rfl | 2, _ => rfl | 3, _ => rfl | 4, _ => rfl | 5, _ => rfl | n + 6, h => absurd h (by omega))
theorem auW_r1 {w : AH} {b : Nat} {q : am_F} {f : Nat → Int} : (auW w b q).set (b + 1) (cP 0 9 f) = auW w b (am_row q 1 f) := am_ovset 1 (by decide) (fun j hj => match j, hj with | 0, _ => rfl | 1, _ => rfl | 2, _ => rfl | 3, _ => rfl | 4, _ => rfl | 5, _ => rfl | n + 6, h => absurd h (by omega))
theorem auW_p2 {w : AH} {b : Nat} {q : am_F} {i : Nat} {v : Int} : (auW w b q).set (b + 2) (cP 0 12 (am_up (q 2) i v)) = auW w b (am_put q 2 i v) := am_ovset 2 (by decide) (fun j hj => match j, hj with | 0, _ => rfl | 1, _ => rfl | 2, _ => rfl | 3, _ => rfl | 4, _ => rfl | 5, _ => rfl | n + 6, h => absurd h (by omega))
theorem auW_r2 {w : AH} {b : Nat} {q : am_F} {f : Nat → Int} : (auW w b q).set (b + 2) (cP 0 12 f) = auW w b (am_row q 2 f) := am_ovset 2 (by decide) (fun j hj => match j, hj with | 0, _ => rfl | 1, _ => rfl | 2, _ => rfl | 3, _ => rfl | 4, _ => rfl | 5, _ => rfl | n + 6, h => absurd h (by omega))
theorem auW_p3 {w : AH} {b : Nat} {q : am_F} {i : Nat} {v : Int} : (auW w b q).set (b + 3) (cP 0 12 (am_up (q 3) i v)) = auW w b (am_put q 3 i v) := am_ovset 3 (by decide) (fun j hj => match j, hj with | 0, _ => rfl | 1, _ => rfl | 2, _ => rfl | 3, _ => rfl | 4, _ => rfl | 5, _ => rfl | n + 6, h => absurd h (by omega))
theorem auW_r3 {w : AH} {b : Nat} {q : am_F} {f : Nat → Int} : (auW w b q).set (b + 3) (cP 0 12 f) = auW w b (am_row q 3 f) := am_ovset 3 (by decide) (fun j hj => match j, hj with | 0, _ => rfl | 1, _ => rfl | 2, _ => rfl | 3, _ => rfl | 4, _ => rfl | 5, _ => rfl | n + 6, h => absurd h (by omega))
theorem auW_p4 {w : AH} {b : Nat} {q : am_F} {i : Nat} {v : Int} : (auW w b q).set (b + 4) (cP 0 12 (am_up (q 4) i v)) = auW w b (am_put q 4 i v) := am_ovset 4 (by decide) (fun j hj => match j, hj with | 0, _ => rfl | 1, _ => rfl | 2, _ => rfl | 3, _ => rfl | 4, _ => rfl | 5, _ => rfl | n + 6, h => absurd h (by omega))
theorem auW_r4 {w : AH} {b : Nat} {q : am_F} {f : Nat → Int} : (auW w b q).set (b + 4) (cP 0 12 f) = auW w b (am_row q 4 f) := am_ovset 4 (by decide) (fun j hj => match j, hj with | 0, _ => rfl | 1, _ => rfl | 2, _ => rfl | 3, _ => rfl | 4, _ => rfl | 5, _ => rfl | n + 6, h => absurd h (by omega))
theorem auW_p5 {w : AH} {b : Nat} {q : am_F} {i : Nat} {v : Int} : (auW w b q).set (b + 5) (cP 1 12 (am_up (q 5) i v)) = auW w b (am_put q 5 i v) := am_ovset 5 (by decide) (fun j hj => match j, hj with | 0, _ => rfl | 1, _ => rfl | 2, _ => rfl | 3, _ => rfl | 4, _ => rfl | 5, _ => rfl | n + 6, h => absurd h (by omega))
theorem auW_r5 {w : AH} {b : Nat} {q : am_F} {f : Nat → Int} : (auW w b q).set (b + 5) (cP 1 12 f) = auW w b (am_row q 5 f) := am_ovset 5 (by decide) (fun j hj => match j, hj with | 0, _ => rfl | 1, _ => rfl | 2, _ => rfl | 3, _ => rfl | 4, _ => rfl | 5, _ => rfl | n + 6, h => absurd h (by omega))
theorem auW_f5 {w : AH} {b : Nat} {q : am_F} {v : Int} : (auW w b q).set b (cO 0 [aR (b + 1), aR (b + 2), aR (b + 3), aR (b + 4), aR (b + 5), aI v]) = auW w b (am_put q 0 5 v) := am_ovset (b := b) 0 (by decide) (fun j hj => match j, hj with | 0, _ => rfl | 1, _ => rfl | 2, _ => rfl | 3, _ => rfl | 4, _ => rfl | 5, _ => rfl | n + 6, h => absurd h (by omega))
