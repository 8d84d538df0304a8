/-! THE TIE: bids by rule -/
def RU (c u0 q0 : am_F) (k t th : Int) (x : Int × am_F × am_F) (y : Int × Int × am_F) : Prop := (∀ j, j ≠ 4 → x.2.1 j = u0 j) ∧ AuR x.2.2 c k t th y.1 ∧ ((∀ i : Int, 0 ≤ i → i < c 0 30 → (x.2.2 5 i.toNat ≠ 0 ↔ ti_bv y.2.1 i = false ∧ c (133 + i.toNat) 0 = k ∧ ti_Lv c t th i ≠ 0)) ∧ (∀ i : Int, 0 ≤ i → i < c 0 30 → x.2.2 5 i.toNat ≠ 0 → x.2.2 2 i.toNat = ti_Fv c t th i) ∧ ∀ i : Int, c 0 30 ≤ i → i < 12 → x.2.2 5 i.toNat = 0) ∧ (∀ i : Int, 0 ≤ i → i < c 0 30 → x.2.2 3 i.toNat = y.2.2 732 i.toNat ∧ x.2.2 4 i.toNat = y.2.2 733 i.toNat) ∧ ∀ j, j ≠ 728 → j ≠ 732 → j ≠ 733 → y.2.2 j = q0 j
theorem ti_serve {c u0 q0 b uu aa q : am_F} {k t th left dn i0 n : Int} (hb : BC b c) (hU : RuC u0 c) (h12 : 0 ≤ c 0 30 ∧ c 0 30 ≤ 12) (hn : (0 ≤ n ∧ n < c 0 30) ∧ c (133 + n.toNat) 0 = k) (hR : RU c u0 q0 k t th (i0, uu, aa) (left, dn, q)) {q53 : am_F} (h53 : K728 q q53) {q153 q191 : am_F} {v3 v2 : Int} (e3 : v3 = if k_lastOf c 3 = -1 then c (133 + n.toNat) 1 else (k_worth c q53 (k_lastOf c 3) n t th left).1) (f3 : q153 = if k_lastOf c 3 = -1 then q53 else (k_worth c q53 (k_lastOf c 3) n t th left).2) (e2 : v2 = if k_lastOf c 2 = -1 then c (133 + n.toNat) 2 else (k_worth c q153 (k_lastOf c 2) n t th left).1) (f2 : q191 = if k_lastOf c 2 = -1 then q153 else (k_worth c q153 (k_lastOf c 2) n t th left).2) (i1 : Int) : RU c u0 q0 k t th (i1, c_serve uu (f_look (am_put aa 5 n.toNat 0) (b 0 2) (b 1) n) n) (am_w32 (left - k_less left (k_less (c (133 + n.toNat) 1) (if 0 ≤ v3 then v3 else 0))), am_ior dn (am_ishl 1 n), am_put (am_put q191 732 n.toNat (k_less left (k_less (c (133 + n.toNat) 1) (if 0 ≤ v3 then v3 else 0)))) 733 n.toNat (am_w32 (k_less left (k_less (c (133 + n.toNat) 1) (if 0 ≤ v3 then v3 else 0)) * (if 0 ≤ v2 then v2 else 0)))) := by
  obtain ⟨r1, r2, ⟨r3, r4, r5⟩, r6, r7⟩ := hR
  dsimp only at r1 r2 r3 r4 r5 r6 r7
  have hUu : RuC uu c := RuC_4 r1 hU
  obtain ⟨m1, m2, m3⟩ := hb.2.1.2 n hn.1.1 hn.1.2
  have hA' : AuR (am_put aa 5 n.toNat 0) c k t th left := by
    unfold AuR
    rw [am_put_kr (by decide)]
    exact r2
  have hf := ti_facts hb hA' hn.1 hn.2
  have L1 : f_look (am_put aa 5 n.toNat 0) (b 0 2) (b 1) n 1 1 = c (133 + n.toNat) 1 := by rw [← m2]; exact (am_put_i (by decide)).trans am_put_s
  have L2 : f_look (am_put aa 5 n.toNat 0) (b 0 2) (b 1) n 1 2 = c (133 + n.toNat) 2 := by rw [← m3]; exact am_put_s
  have L5 : f_look (am_put aa 5 n.toNat 0) (b 0 2) (b 1) n 1 5 = left := by
    rw [← r2.1.2.2.2.1]
    unfold f_look
    rw [am_put_i (by decide), am_put_i (by decide), am_put_i (by decide), am_put_k (by decide)]
  have Lk : ∀ m, m ≠ 1 → f_look (am_put aa 5 n.toNat 0) (b 0 2) (b 1) n m = am_put aa 5 n.toNat 0 m := fun m hm => by
    unfold f_look
    rw [am_put_kr hm, am_put_kr hm, am_put_kr hm]
  have L1j : ∀ j, j ≠ 1 → j ≠ 2 → j ≠ 7 → f_look (am_put aa 5 n.toNat 0) (b 0 2) (b 1) n 1 j = aa 1 j := fun j j1 j2 j7 => by
    unfold f_look
    rw [am_put_i j2, am_put_i j1, am_put_i j7, am_put_k (by decide)]
  generalize f_look (am_put aa 5 n.toNat 0) (b 0 2) (b 1) n = A at hf L1 L2 L5 Lk L1j
  obtain ⟨s1, s2, s3⟩ := ti_tellsV (q := q53) (kd := 3) (wo := c (133 + n.toNat) 1) hUu hf
  rw [← e3] at s1
  rw [← f3] at s3
  have hUv := RuC_4 s2 hUu
  obtain ⟨w1, w2, w3⟩ := ti_tellsV (q := q153) (kd := 2) (wo := c (133 + n.toNat) 2) hUv hf
  rw [← e2] at w1
  rw [← f2] at w3
  have eS : c_serve uu A n = ((c_tells (c_tells uu 3 (c (133 + n.toNat) 1) 9 (A 1)).2 2 (c (133 + n.toNat) 2) 9 (A 1)).2, am_put (am_put (am_put A 3 n.toNat (k_less left (k_less (c (133 + n.toNat) 1) (if 0 ≤ v3 then v3 else 0)))) 4 n.toNat (am_w32 (k_less left (k_less (c (133 + n.toNat) 1) (if 0 ≤ v3 then v3 else 0)) * (if 0 ≤ v2 then v2 else 0)))) 1 5 (am_w32 (left - k_less left (k_less (c (133 + n.toNat) 1) (if 0 ≤ v3 then v3 else 0))))) := by
    unfold c_serve
    dsimp only
    rw [L1, L2, L5, s1, w1]
    have g1 : (if (if c (133 + n.toNat) 1 < (if 0 < v3 then v3 else 0) then c (133 + n.toNat) 1 else (if 0 < v3 then v3 else 0)) < left then (if c (133 + n.toNat) 1 < (if 0 < v3 then v3 else 0) then c (133 + n.toNat) 1 else (if 0 < v3 then v3 else 0)) else left) = k_less left (k_less (c (133 + n.toNat) 1) (if 0 ≤ v3 then v3 else 0)) := by
      rw [ti_less, ti_less]
      (repeat' split) <;> omega
    have g2 : (if 0 < v2 then v2 else 0) = (if 0 ≤ v2 then v2 else 0) := by split <;> split <;> omega
    rw [g1, g2]
    generalize k_less left (k_less (c (133 + n.toNat) 1) (if 0 ≤ v3 then v3 else 0)) = W
    have g3 : am_put A 3 n.toNat W 3 n.toNat = W := am_put_s
    have g4 : am_put (am_put A 3 n.toNat W) 4 n.toNat (am_w32 (W * (if 0 ≤ v2 then v2 else 0))) 3 n.toNat = W := (am_put_k (by decide)).trans am_put_s
    rw [g3, g4]
  rw [eS]
  generalize k_less left (k_less (c (133 + n.toNat) 1) (if 0 ≤ v3 then v3 else 0)) = W
  generalize am_w32 (W * (if 0 ≤ v2 then v2 else 0)) = V
  have B1 : ∀ m, m ≠ 1 → m ≠ 3 → m ≠ 4 → am_put (am_put (am_put A 3 n.toNat W) 4 n.toNat V) 1 5 (am_w32 (left - W)) m = am_put aa 5 n.toNat 0 m := fun m h1 h3 h4 => by
    rw [am_put_kr h1, am_put_kr h4, am_put_kr h3]
    exact Lk m h1
  refine ⟨fun j hj => ((w2 j hj).trans (s2 j hj)).trans (r1 j hj), ⟨⟨?_, ?_, ?_, ?_, ?_⟩, fun i a1 a2 a3 => ?_⟩, ⟨fun i a1 a2 => ?_, fun i a1 a2 a3 => ?_, fun i a1 a2 => ?_⟩, fun i a1 a2 => ⟨?_, ?_⟩, fun j j1 j2 j3 => ?_⟩
  · dsimp only
    rw [am_put_i (by decide), am_put_k (by decide), am_put_k (by decide), L1j 0 (by decide) (by decide) (by decide)]; exact r2.1.1
  · dsimp only
    rw [am_put_i (by decide), am_put_k (by decide), am_put_k (by decide), L1j 3 (by decide) (by decide) (by decide)]; exact r2.1.2.1
  · dsimp only
    rw [am_put_i (by decide), am_put_k (by decide), am_put_k (by decide), L1j 4 (by decide) (by decide) (by decide)]; exact r2.1.2.2.1
  · dsimp only
    exact am_put_s
  · dsimp only
    rw [am_put_i (by decide), am_put_k (by decide), am_put_k (by decide), L1j 6 (by decide) (by decide) (by decide)]; exact r2.1.2.2.2.2
  · dsimp only
    rw [am_put_i (by decide), am_put_k (by decide), am_put_k (by decide), L1j 8 (by decide) (by decide) (by decide)]; exact r2.2 i a1 a2 a3
  · dsimp only
    rw [B1 5 (by decide) (by decide) (by decide), ti_bv_or ⟨hn.1.1, by omega⟩ ⟨a1, by omega⟩]
    by_cases e : i = n
    · subst e
      rw [am_put_s]
      exact ⟨fun h => absurd rfl h, fun h => absurd rfl h.1.2⟩
    · rw [am_put_i (by omega), r3 i a1 a2]
      exact ⟨fun h => ⟨⟨h.1, e⟩, h.2⟩, fun h => ⟨h.1.1, h.2⟩⟩
  · dsimp only at a3 ⊢
    rw [B1 5 (by decide) (by decide) (by decide)] at a3
    rw [B1 2 (by decide) (by decide) (by decide), am_put_k (by decide)]
    by_cases e : i = n
    · subst e
      rw [am_put_s] at a3
      exact absurd rfl a3
    · rw [am_put_i (by omega)] at a3
      exact r4 i a1 a2 a3
  · dsimp only
    rw [B1 5 (by decide) (by decide) (by decide), am_put_i (by omega)]
    exact r5 i a1 a2
  · dsimp only
    have c1 : am_put (am_put (am_put A 3 n.toNat W) 4 n.toNat V) 1 5 (am_w32 (left - W)) 3 i.toNat = am_put A 3 n.toNat W 3 i.toNat := (am_put_k (by decide)).trans (am_put_k (by decide))
    have c2 : am_put (am_put q191 732 n.toNat W) 733 n.toNat V 732 i.toNat = am_put q191 732 n.toNat W 732 i.toNat := am_put_k (by decide)
    rw [c1, c2]
    by_cases e : i = n
    · subst e; rw [am_put_s, am_put_s]
    · rw [am_put_i (by omega), am_put_i (by omega), Lk 3 (by decide), am_put_k (by decide), w3 732 (by decide), s3 732 (by decide), h53 732 (by decide)]
      exact (r6 i a1 a2).1
  · dsimp only
    rw [am_put_k (by decide)]
    by_cases e : i = n
    · subst e; rw [am_put_s, am_put_s]
    · rw [am_put_i (by omega), am_put_i (by omega), am_put_k (by decide), am_put_k (by decide), Lk 4 (by decide), am_put_k (by decide), w3 733 (by decide), s3 733 (by decide), h53 733 (by decide)]
      exact (r6 i a1 a2).2
  · dsimp only
    rw [am_put_kr j3, am_put_kr j2, w3 j j1, s3 j j1, h53 j j1]
    exact r7 j j1 j2 j3
