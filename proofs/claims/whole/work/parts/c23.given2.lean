/-! THE LAW: what lies outside at its start -/
theorem tb_m1 {x : Cond} (i : Nat) (h : tables_1_1[i]? = some x) : x ∈ lw_tbl := by
  have h := List.mem_of_getElem? h
  exact List.mem_append_right _ (List.mem_append_left _ (h))
theorem tb_m2 {x : Cond} (i : Nat) (h : tables_1_2[i]? = some x) : x ∈ lw_tbl := by
  have h := List.mem_of_getElem? h
  exact List.mem_append_right _ (List.mem_append_right _ (List.mem_append_left _ (h)))
theorem tb_m3 {x : Cond} (i : Nat) (h : tables_1_3[i]? = some x) : x ∈ lw_tbl := by
  have h := List.mem_of_getElem? h
  exact List.mem_append_right _ (List.mem_append_right _ (List.mem_append_right _ (List.mem_append_left _ (h))))
theorem tb_m4 {x : Cond} (i : Nat) (h : tables_1_4[i]? = some x) : x ∈ lw_tbl := by
  have h := List.mem_of_getElem? h
  exact List.mem_append_right _ (List.mem_append_right _ (List.mem_append_right _ (List.mem_append_right _ (List.mem_append_left _ (h)))))
theorem tb_m5 {x : Cond} (i : Nat) (h : tables_1_5[i]? = some x) : x ∈ lw_tbl := by
  have h := List.mem_of_getElem? h
  exact List.mem_append_right _ (List.mem_append_right _ (List.mem_append_right _ (List.mem_append_right _ (List.mem_append_right _ (List.mem_append_left _ (h))))))
theorem tb_m6 {x : Cond} (i : Nat) (h : tables_1_6[i]? = some x) : x ∈ lw_tbl := by
  have h := List.mem_of_getElem? h
  exact List.mem_append_right _ (List.mem_append_right _ (List.mem_append_right _ (List.mem_append_right _ (List.mem_append_right _ (List.mem_append_right _ (List.mem_append_left _ (h)))))))
theorem tb_m7 {x : Cond} (i : Nat) (h : tables_1_7[i]? = some x) : x ∈ lw_tbl := by
  have h := List.mem_of_getElem? h
  exact List.mem_append_right _ (List.mem_append_right _ (List.mem_append_right _ (List.mem_append_right _ (List.mem_append_right _ (List.mem_append_right _ (List.mem_append_right _ (List.mem_append_left _ (h))))))))
theorem tb_m8 {x : Cond} (i : Nat) (h : tables_1_8[i]? = some x) : x ∈ lw_tbl := by
  have h := List.mem_of_getElem? h
  exact List.mem_append_right _ (List.mem_append_right _ (List.mem_append_right _ (List.mem_append_right _ (List.mem_append_right _ (List.mem_append_right _ (List.mem_append_right _ (List.mem_append_right _ (List.mem_append_left _ (h)))))))))
theorem tb_m9 {x : Cond} (i : Nat) (h : tables_1_9[i]? = some x) : x ∈ lw_tbl := by
  have h := List.mem_of_getElem? h
  exact List.mem_append_right _ (List.mem_append_right _ (List.mem_append_right _ (List.mem_append_right _ (List.mem_append_right _ (List.mem_append_right _ (List.mem_append_right _ (List.mem_append_right _ (List.mem_append_right _ (List.mem_append_left _ (h))))))))))
theorem tb_m10 {x : Cond} (i : Nat) (h : tables_1_10[i]? = some x) : x ∈ lw_tbl := by
  have h := List.mem_of_getElem? h
  exact List.mem_append_right _ (List.mem_append_right _ (List.mem_append_right _ (List.mem_append_right _ (List.mem_append_right _ (List.mem_append_right _ (List.mem_append_right _ (List.mem_append_right _ (List.mem_append_right _ (List.mem_append_right _ (List.mem_append_left _ (h)))))))))))
theorem tb_m11 {x : Cond} (i : Nat) (h : tables_1_11[i]? = some x) : x ∈ lw_tbl := by
  have h := List.mem_of_getElem? h
  exact List.mem_append_right _ (List.mem_append_right _ (List.mem_append_right _ (List.mem_append_right _ (List.mem_append_right _ (List.mem_append_right _ (List.mem_append_right _ (List.mem_append_right _ (List.mem_append_right _ (List.mem_append_right _ (List.mem_append_right _ (h)))))))))))
def TXT (A : Nat → Prop) (s : State) (q : Nat × Nat) (n : Nat) (bs : List Int32) : Prop := va_O "java/lang/String" q.1 A s s.heap ∧ va_OF "java/lang/String" "coder" "B" (.int 0) q.1 A s s.heap ∧ va_OF "java/lang/String" "value" "[B" (.ref q.2) q.1 A s s.heap ∧ va_T .byte q.2 n (fun j => .int (bs.getD j 0)) A s s.heap
theorem TXT_same {A : Nat → Prop} {s : State} {a v1 v2 n1 n2 : Nat} {b1 b2 : List Int32} (h1 : TXT A s (a, v1) n1 b1) (h2 : TXT A s (a, v2) n2 b2) : Int32.ofNat n1 = Int32.ofNat n2 ∧ ∀ j, j < n1 → j < n2 → b1.getD j 0 = b2.getD j 0 := by
  obtain ⟨-, -, ⟨cf, k, i, f, cell, e1, e2, e3, e4, e5, e6⟩, ⟨ca, a1, a2, a3, a4, a5, a6, a7⟩⟩ := h1
  obtain ⟨-, -, ⟨cf', k', i', f', cell', e1', e2', e3', e4', e5', e6'⟩, ⟨ca', a1', a2', a3', a4', a5', a6', a7'⟩⟩ := h2
  rw [e1] at e1'
  injection e1' with e1'
  injection e1' with x1 e1'
  injection e1' with x2 e1'
  injection e1' with x3 x4
  subst x4
  rw [e3] at e3'
  injection e3' with e3'
  subst e3'
  rw [e5] at e5'
  injection e5' with e5'
  injection e5' with e5'
  change v1 = v2 at e5'
  subst e5'
  rw [a1] at a1'
  injection a1' with a1'
  subst a1'
  refine ⟨a5.symm.trans a5', fun j j1 j2 => ?_⟩
  have h3 := (a6 j j1).symm.trans (a6' j j2)
  injection h3 with h3
  injection h3
section EN
variable {args : Array Value} {s : State} {A : Nat → Prop}
theorem tx_0 (h : narrow_1.before args s = true) (hA : ∀ a : Nat, a < s.heap.size → ¬ A a) : ∃ q : Nat × Nat, (Jvm.Term.string "HarbourFog$PortReader" 83).eval args s none [] s = some (.ref q.1) ∧ TXT A s q 4 [112, 111, 114, 116] := by
  obtain ⟨adK, adV, h1, h2⟩ := vk_Sof (args := args) (s := s) (N := 1) (tm := fun _ => Jvm.Term.string "HarbourFog$PortReader" 83) (len := [4]) (byt := [[112, 111, 114, 116]]) (A := A) (by intro i hi; obtain rfl : i = 0 := (by omega); decide) (fun i hi => gl_63 h) (fun i hi => gl_64 h) (fun i hi => gl_65 h) (by intro i hi; obtain rfl : i = 0 := (by omega); exact gl_66 h) (fun i hi j hj => by
      obtain rfl : i = 0 := by omega
      match j, hj with
      | 0, _ => exact gl_67 h
      | 1, _ => exact gl_68 h
      | 2, _ => exact gl_69 h
      | 3, _ => exact gl_70 h
      | n + 4, hj => exact absurd (show n + 4 < 4 from hj) (by omega)) (fun i j hi hj hn => absurd (show i = j by omega) hn) hA
  exact ⟨(adK 0, adV 0), h2 0 (by decide), h1.1 0 (by decide)⟩
theorem tx_1 (h : narrow_1.before args s = true) (hA : ∀ a : Nat, a < s.heap.size → ¬ A a) : ∃ q : Nat × Nat, (Jvm.Term.string "HarbourFog$PortReader" 89).eval args s none [] s = some (.ref q.1) ∧ TXT A s q 3 [102, 111, 103] := by
  obtain ⟨adK, adV, h1, h2⟩ := vk_Sof (args := args) (s := s) (N := 1) (tm := fun _ => Jvm.Term.string "HarbourFog$PortReader" 89) (len := [3]) (byt := [[102, 111, 103]]) (A := A) (by intro i hi; obtain rfl : i = 0 := (by omega); decide) (fun i hi => gl_71 h) (fun i hi => gl_72 h) (fun i hi => gl_73 h) (by intro i hi; obtain rfl : i = 0 := (by omega); exact gl_74 h) (fun i hi j hj => by
      obtain rfl : i = 0 := by omega
      match j, hj with
      | 0, _ => exact gl_75 h
      | 1, _ => exact gl_76 h
      | 2, _ => exact gl_77 h
      | n + 3, hj => exact absurd (show n + 3 < 3 from hj) (by omega)) (fun i j hi hj hn => absurd (show i = j by omega) hn) hA
  exact ⟨(adK 0, adV 0), h2 0 (by decide), h1.1 0 (by decide)⟩
theorem tx_2 (h : narrow_1.before args s = true) (hA : ∀ a : Nat, a < s.heap.size → ¬ A a) : ∃ q : Nat × Nat, (Jvm.Term.string "HarbourFog$PortReader" 91).eval args s none [] s = some (.ref q.1) ∧ TXT A s q 4 [119, 105, 110, 100] := by
  obtain ⟨adK, adV, h1, h2⟩ := vk_Sof (args := args) (s := s) (N := 1) (tm := fun _ => Jvm.Term.string "HarbourFog$PortReader" 91) (len := [4]) (byt := [[119, 105, 110, 100]]) (A := A) (by intro i hi; obtain rfl : i = 0 := (by omega); decide) (fun i hi => gl_78 h) (fun i hi => gl_79 h) (fun i hi => gl_80 h) (by intro i hi; obtain rfl : i = 0 := (by omega); exact gl_81 h) (fun i hi j hj => by
      obtain rfl : i = 0 := by omega
      match j, hj with
      | 0, _ => exact gl_82 h
      | 1, _ => exact gl_83 h
      | 2, _ => exact gl_84 h
      | 3, _ => exact gl_85 h
      | n + 4, hj => exact absurd (show n + 4 < 4 from hj) (by omega)) (fun i j hi hj hn => absurd (show i = j by omega) hn) hA
  exact ⟨(adK 0, adV 0), h2 0 (by decide), h1.1 0 (by decide)⟩
theorem tx_3 (h : narrow_1.before args s = true) (hA : ∀ a : Nat, a < s.heap.size → ¬ A a) : ∃ q : Nat × Nat, (Jvm.Term.string "HarbourFog$PortReader" 93).eval args s none [] s = some (.ref q.1) ∧ TXT A s q 4 [116, 104, 105, 110] := by
  obtain ⟨adK, adV, h1, h2⟩ := vk_Sof (args := args) (s := s) (N := 1) (tm := fun _ => Jvm.Term.string "HarbourFog$PortReader" 93) (len := [4]) (byt := [[116, 104, 105, 110]]) (A := A) (by intro i hi; obtain rfl : i = 0 := (by omega); decide) (fun i hi => gl_86 h) (fun i hi => gl_87 h) (fun i hi => gl_88 h) (by intro i hi; obtain rfl : i = 0 := (by omega); exact gl_89 h) (fun i hi j hj => by
      obtain rfl : i = 0 := by omega
      match j, hj with
      | 0, _ => exact gl_90 h
      | 1, _ => exact gl_91 h
      | 2, _ => exact gl_92 h
      | 3, _ => exact gl_93 h
      | n + 4, hj => exact absurd (show n + 4 < 4 from hj) (by omega)) (fun i j hi hj hn => absurd (show i = j by omega) hn) hA
  exact ⟨(adK 0, adV 0), h2 0 (by decide), h1.1 0 (by decide)⟩
theorem tx_4 (h : narrow_1.before args s = true) (hA : ∀ a : Nat, a < s.heap.size → ¬ A a) : ∃ q : Nat × Nat, (Jvm.Term.string "HarbourFog$PortReader" 95).eval args s none [] s = some (.ref q.1) ∧ TXT A s q 4 [108, 97, 109, 112] := by
  obtain ⟨adK, adV, h1, h2⟩ := vk_Sof (args := args) (s := s) (N := 1) (tm := fun _ => Jvm.Term.string "HarbourFog$PortReader" 95) (len := [4]) (byt := [[108, 97, 109, 112]]) (A := A) (by intro i hi; obtain rfl : i = 0 := (by omega); decide) (fun i hi => gl_94 h) (fun i hi => gl_95 h) (fun i hi => gl_96 h) (by intro i hi; obtain rfl : i = 0 := (by omega); exact gl_97 h) (fun i hi j hj => by
      obtain rfl : i = 0 := by omega
      match j, hj with
      | 0, _ => exact gl_98 h
      | 1, _ => exact gl_99 h
      | 2, _ => exact gl_100 h
      | 3, _ => exact gl_101 h
      | n + 4, hj => exact absurd (show n + 4 < 4 from hj) (by omega)) (fun i j hi hj hn => absurd (show i = j by omega) hn) hA
  exact ⟨(adK 0, adV 0), h2 0 (by decide), h1.1 0 (by decide)⟩
theorem tx_5 (h : narrow_1.before args s = true) (hA : ∀ a : Nat, a < s.heap.size → ¬ A a) : ∃ q : Nat × Nat, (Jvm.Term.string "HarbourFog$PortReader" 97).eval args s none [] s = some (.ref q.1) ∧ TXT A s q 7 [115, 116, 101, 97, 109, 101, 114] := by
  obtain ⟨adK, adV, h1, h2⟩ := vk_Sof (args := args) (s := s) (N := 1) (tm := fun _ => Jvm.Term.string "HarbourFog$PortReader" 97) (len := [7]) (byt := [[115, 116, 101, 97, 109, 101, 114]]) (A := A) (by intro i hi; obtain rfl : i = 0 := (by omega); decide) (fun i hi => gl_102 h) (fun i hi => gl_103 h) (fun i hi => gl_104 h) (by intro i hi; obtain rfl : i = 0 := (by omega); exact gl_105 h) (fun i hi j hj => by
      obtain rfl : i = 0 := by omega
      match j, hj with
      | 0, _ => exact gl_106 h
      | 1, _ => exact gl_107 h
      | 2, _ => exact gl_108 h
      | 3, _ => exact gl_109 h
      | 4, _ => exact gl_110 h
      | 5, _ => exact gl_111 h
      | 6, _ => exact gl_112 h
      | n + 7, hj => exact absurd (show n + 7 < 7 from hj) (by omega)) (fun i j hi hj hn => absurd (show i = j by omega) hn) hA
  exact ⟨(adK 0, adV 0), h2 0 (by decide), h1.1 0 (by decide)⟩
theorem tx_6 (h : narrow_1.before args s = true) (hA : ∀ a : Nat, a < s.heap.size → ¬ A a) : ∃ q : Nat × Nat, (Jvm.Term.string "HarbourFog$PortReader" 99).eval args s none [] s = some (.ref q.1) ∧ TXT A s q 3 [108, 111, 116] := by
  obtain ⟨adK, adV, h1, h2⟩ := vk_Sof (args := args) (s := s) (N := 1) (tm := fun _ => Jvm.Term.string "HarbourFog$PortReader" 99) (len := [3]) (byt := [[108, 111, 116]]) (A := A) (by intro i hi; obtain rfl : i = 0 := (by omega); decide) (fun i hi => gl_113 h) (fun i hi => gl_114 h) (fun i hi => gl_115 h) (by intro i hi; obtain rfl : i = 0 := (by omega); exact gl_116 h) (fun i hi j hj => by
      obtain rfl : i = 0 := by omega
      match j, hj with
      | 0, _ => exact gl_117 h
      | 1, _ => exact gl_118 h
      | 2, _ => exact gl_119 h
      | n + 3, hj => exact absurd (show n + 3 < 3 from hj) (by omega)) (fun i j hi hj hn => absurd (show i = j by omega) hn) hA
  exact ⟨(adK 0, adV 0), h2 0 (by decide), h1.1 0 (by decide)⟩
theorem tx_7 (h : narrow_1.before args s = true) (hA : ∀ a : Nat, a < s.heap.size → ¬ A a) : ∃ q : Nat × Nat, (Jvm.Term.string "HarbourFog$PortReader" 101).eval args s none [] s = some (.ref q.1) ∧ TXT A s q 4 [119, 97, 108, 107] := by
  obtain ⟨adK, adV, h1, h2⟩ := vk_Sof (args := args) (s := s) (N := 1) (tm := fun _ => Jvm.Term.string "HarbourFog$PortReader" 101) (len := [4]) (byt := [[119, 97, 108, 107]]) (A := A) (by intro i hi; obtain rfl : i = 0 := (by omega); decide) (fun i hi => gl_120 h) (fun i hi => gl_121 h) (fun i hi => gl_122 h) (by intro i hi; obtain rfl : i = 0 := (by omega); exact gl_123 h) (fun i hi j hj => by
      obtain rfl : i = 0 := by omega
      match j, hj with
      | 0, _ => exact gl_124 h
      | 1, _ => exact gl_125 h
      | 2, _ => exact gl_126 h
      | 3, _ => exact gl_127 h
      | n + 4, hj => exact absurd (show n + 4 < 4 from hj) (by omega)) (fun i j hi hj hn => absurd (show i = j by omega) hn) hA
  exact ⟨(adK 0, adV 0), h2 0 (by decide), h1.1 0 (by decide)⟩
theorem tx_8 (h : narrow_1.before args s = true) (hA : ∀ a : Nat, a < s.heap.size → ¬ A a) : ∃ q : Nat × Nat, (Jvm.Term.string "HarbourFog$PortReader" 103).eval args s none [] s = some (.ref q.1) ∧ TXT A s q 5 [119, 97, 116, 99, 104] := by
  obtain ⟨adK, adV, h1, h2⟩ := vk_Sof (args := args) (s := s) (N := 1) (tm := fun _ => Jvm.Term.string "HarbourFog$PortReader" 103) (len := [5]) (byt := [[119, 97, 116, 99, 104]]) (A := A) (by intro i hi; obtain rfl : i = 0 := (by omega); decide) (fun i hi => gl_128 h) (fun i hi => gl_129 h) (fun i hi => gl_130 h) (by intro i hi; obtain rfl : i = 0 := (by omega); exact gl_131 h) (fun i hi j hj => by
      obtain rfl : i = 0 := by omega
      match j, hj with
      | 0, _ => exact gl_132 h
      | 1, _ => exact gl_133 h
      | 2, _ => exact gl_134 h
      | 3, _ => exact gl_135 h
      | 4, _ => exact gl_136 h
      | n + 5, hj => exact absurd (show n + 5 < 5 from hj) (by omega)) (fun i j hi hj hn => absurd (show i = j by omega) hn) hA
  exact ⟨(adK 0, adV 0), h2 0 (by decide), h1.1 0 (by decide)⟩
theorem tx_9 (h : narrow_1.before args s = true) (hA : ∀ a : Nat, a < s.heap.size → ¬ A a) : ∃ q : Nat × Nat, (Jvm.Term.string "HarbourFog$PortReader" 105).eval args s none [] s = some (.ref q.1) ∧ TXT A s q 5 [115, 105, 103, 104, 116] := by
  obtain ⟨adK, adV, h1, h2⟩ := vk_Sof (args := args) (s := s) (N := 1) (tm := fun _ => Jvm.Term.string "HarbourFog$PortReader" 105) (len := [5]) (byt := [[115, 105, 103, 104, 116]]) (A := A) (by intro i hi; obtain rfl : i = 0 := (by omega); decide) (fun i hi => gl_137 h) (fun i hi => gl_138 h) (fun i hi => gl_139 h) (by intro i hi; obtain rfl : i = 0 := (by omega); exact gl_140 h) (fun i hi j hj => by
      obtain rfl : i = 0 := by omega
      match j, hj with
      | 0, _ => exact gl_141 h
      | 1, _ => exact gl_142 h
      | 2, _ => exact gl_143 h
      | 3, _ => exact gl_144 h
      | 4, _ => exact gl_145 h
      | n + 5, hj => exact absurd (show n + 5 < 5 from hj) (by omega)) (fun i j hi hj hn => absurd (show i = j by omega) hn) hA
  exact ⟨(adK 0, adV 0), h2 0 (by decide), h1.1 0 (by decide)⟩
theorem tx_10 (h : narrow_1.before args s = true) (hA : ∀ a : Nat, a < s.heap.size → ¬ A a) : ∃ q : Nat × Nat, (Jvm.Term.string "HarbourFog$PortReader" 107).eval args s none [] s = some (.ref q.1) ∧ TXT A s q 4 [115, 104, 105, 112] := by
  obtain ⟨adK, adV, h1, h2⟩ := vk_Sof (args := args) (s := s) (N := 1) (tm := fun _ => Jvm.Term.string "HarbourFog$PortReader" 107) (len := [4]) (byt := [[115, 104, 105, 112]]) (A := A) (by intro i hi; obtain rfl : i = 0 := (by omega); decide) (fun i hi => gl_146 h) (fun i hi => gl_147 h) (fun i hi => gl_148 h) (by intro i hi; obtain rfl : i = 0 := (by omega); exact gl_149 h) (fun i hi j hj => by
      obtain rfl : i = 0 := by omega
      match j, hj with
      | 0, _ => exact gl_150 h
      | 1, _ => exact gl_151 h
      | 2, _ => exact gl_152 h
      | 3, _ => exact gl_153 h
      | n + 4, hj => exact absurd (show n + 4 < 4 from hj) (by omega)) (fun i j hi hj hn => absurd (show i = j by omega) hn) hA
  exact ⟨(adK 0, adV 0), h2 0 (by decide), h1.1 0 (by decide)⟩
theorem tx_11 (h : narrow_1.before args s = true) (hA : ∀ a : Nat, a < s.heap.size → ¬ A a) : ∃ q : Nat × Nat, (Jvm.Term.string "HarbourFog$RuleReader" 59).eval args s none [] s = some (.ref q.1) ∧ TXT A s q 5 [97, 108, 108, 111, 119] := by
  obtain ⟨adK, adV, h1, h2⟩ := vk_Sof (args := args) (s := s) (N := 1) (tm := fun _ => Jvm.Term.string "HarbourFog$RuleReader" 59) (len := [5]) (byt := [[97, 108, 108, 111, 119]]) (A := A) (by intro i hi; obtain rfl : i = 0 := (by omega); decide) (fun i hi => gl_154 h) (fun i hi => gl_155 h) (fun i hi => gl_156 h) (by intro i hi; obtain rfl : i = 0 := (by omega); exact gl_157 h) (fun i hi j hj => by
      obtain rfl : i = 0 := by omega
      match j, hj with
      | 0, _ => exact gl_158 h
      | 1, _ => exact gl_159 h
      | 2, _ => exact gl_160 h
      | 3, _ => exact gl_161 h
      | 4, _ => exact gl_162 h
      | n + 5, hj => exact absurd (show n + 5 < 5 from hj) (by omega)) (fun i j hi hj hn => absurd (show i = j by omega) hn) hA
  exact ⟨(adK 0, adV 0), h2 0 (by decide), h1.1 0 (by decide)⟩
theorem tx_12 (h : narrow_1.before args s = true) (hA : ∀ a : Nat, a < s.heap.size → ¬ A a) : ∃ q : Nat × Nat, (Jvm.Term.string "HarbourFog$RuleReader" 65).eval args s none [] s = some (.ref q.1) ∧ TXT A s q 5 [102, 105, 114, 115, 116] := by
  obtain ⟨adK, adV, h1, h2⟩ := vk_Sof (args := args) (s := s) (N := 1) (tm := fun _ => Jvm.Term.string "HarbourFog$RuleReader" 65) (len := [5]) (byt := [[102, 105, 114, 115, 116]]) (A := A) (by intro i hi; obtain rfl : i = 0 := (by omega); decide) (fun i hi => gl_163 h) (fun i hi => gl_164 h) (fun i hi => gl_165 h) (by intro i hi; obtain rfl : i = 0 := (by omega); exact gl_166 h) (fun i hi j hj => by
      obtain rfl : i = 0 := by omega
      match j, hj with
      | 0, _ => exact gl_167 h
      | 1, _ => exact gl_168 h
      | 2, _ => exact gl_169 h
      | 3, _ => exact gl_170 h
      | 4, _ => exact gl_171 h
      | n + 5, hj => exact absurd (show n + 5 < 5 from hj) (by omega)) (fun i j hi hj hn => absurd (show i = j by omega) hn) hA
  exact ⟨(adK 0, adV 0), h2 0 (by decide), h1.1 0 (by decide)⟩
theorem tx_13 (h : narrow_1.before args s = true) (hA : ∀ a : Nat, a < s.heap.size → ¬ A a) : ∃ q : Nat × Nat, (Jvm.Term.string "HarbourFog$RuleReader" 67).eval args s none [] s = some (.ref q.1) ∧ TXT A s q 3 [112, 97, 121] := by
  obtain ⟨adK, adV, h1, h2⟩ := vk_Sof (args := args) (s := s) (N := 1) (tm := fun _ => Jvm.Term.string "HarbourFog$RuleReader" 67) (len := [3]) (byt := [[112, 97, 121]]) (A := A) (by intro i hi; obtain rfl : i = 0 := (by omega); decide) (fun i hi => gl_172 h) (fun i hi => gl_173 h) (fun i hi => gl_174 h) (by intro i hi; obtain rfl : i = 0 := (by omega); exact gl_175 h) (fun i hi j hj => by
      obtain rfl : i = 0 := by omega
      match j, hj with
      | 0, _ => exact gl_176 h
      | 1, _ => exact gl_177 h
      | 2, _ => exact gl_178 h
      | n + 3, hj => exact absurd (show n + 3 < 3 from hj) (by omega)) (fun i j hi hj hn => absurd (show i = j by omega) hn) hA
  exact ⟨(adK 0, adV 0), h2 0 (by decide), h1.1 0 (by decide)⟩
theorem tx_14 (h : narrow_1.before args s = true) (hA : ∀ a : Nat, a < s.heap.size → ¬ A a) : ∃ q : Nat × Nat, (Jvm.Term.string "HarbourFog$RuleReader" 69).eval args s none [] s = some (.ref q.1) ∧ TXT A s q 4 [109, 111, 115, 116] := by
  obtain ⟨adK, adV, h1, h2⟩ := vk_Sof (args := args) (s := s) (N := 1) (tm := fun _ => Jvm.Term.string "HarbourFog$RuleReader" 69) (len := [4]) (byt := [[109, 111, 115, 116]]) (A := A) (by intro i hi; obtain rfl : i = 0 := (by omega); decide) (fun i hi => gl_179 h) (fun i hi => gl_180 h) (fun i hi => gl_181 h) (by intro i hi; obtain rfl : i = 0 := (by omega); exact gl_182 h) (fun i hi j hj => by
      obtain rfl : i = 0 := by omega
      match j, hj with
      | 0, _ => exact gl_183 h
      | 1, _ => exact gl_184 h
      | 2, _ => exact gl_185 h
      | 3, _ => exact gl_186 h
      | n + 4, hj => exact absurd (show n + 4 < 4 from hj) (by omega)) (fun i j hi hj hn => absurd (show i = j by omega) hn) hA
  exact ⟨(adK 0, adV 0), h2 0 (by decide), h1.1 0 (by decide)⟩
theorem tx_15 (h : narrow_1.before args s = true) (hA : ∀ a : Nat, a < s.heap.size → ¬ A a) : ∃ q : Nat × Nat, (Jvm.Term.string "HarbourFog$RuleReader" 87).eval args s none [] s = some (.ref q.1) ∧ TXT A s q 3 [110, 111, 116] := by
  obtain ⟨adK, adV, h1, h2⟩ := vk_Sof (args := args) (s := s) (N := 1) (tm := fun _ => Jvm.Term.string "HarbourFog$RuleReader" 87) (len := [3]) (byt := [[110, 111, 116]]) (A := A) (by intro i hi; obtain rfl : i = 0 := (by omega); decide) (fun i hi => gl_187 h) (fun i hi => gl_188 h) (fun i hi => gl_189 h) (by intro i hi; obtain rfl : i = 0 := (by omega); exact gl_190 h) (fun i hi j hj => by
      obtain rfl : i = 0 := by omega
      match j, hj with
      | 0, _ => exact gl_191 h
      | 1, _ => exact gl_192 h
      | 2, _ => exact gl_193 h
      | n + 3, hj => exact absurd (show n + 3 < 3 from hj) (by omega)) (fun i j hi hj hn => absurd (show i = j by omega) hn) hA
  exact ⟨(adK 0, adV 0), h2 0 (by decide), h1.1 0 (by decide)⟩
theorem tx_16 (h : narrow_1.before args s = true) (hA : ∀ a : Nat, a < s.heap.size → ¬ A a) : ∃ q : Nat × Nat, (Jvm.Term.string "HarbourFog$RuleReader" 115).eval args s none [] s = some (.ref q.1) ∧ TXT A s q 5 [112, 114, 105, 99, 101] := by
  obtain ⟨adK, adV, h1, h2⟩ := vk_Sof (args := args) (s := s) (N := 1) (tm := fun _ => Jvm.Term.string "HarbourFog$RuleReader" 115) (len := [5]) (byt := [[112, 114, 105, 99, 101]]) (A := A) (by intro i hi; obtain rfl : i = 0 := (by omega); decide) (fun i hi => gl_194 h) (fun i hi => gl_195 h) (fun i hi => gl_196 h) (by intro i hi; obtain rfl : i = 0 := (by omega); exact gl_197 h) (fun i hi j hj => by
      obtain rfl : i = 0 := by omega
      match j, hj with
      | 0, _ => exact gl_198 h
      | 1, _ => exact gl_199 h
      | 2, _ => exact gl_200 h
      | 3, _ => exact gl_201 h
      | 4, _ => exact gl_202 h
      | n + 5, hj => exact absurd (show n + 5 < 5 from hj) (by omega)) (fun i j hi hj hn => absurd (show i = j by omega) hn) hA
  exact ⟨(adK 0, adV 0), h2 0 (by decide), h1.1 0 (by decide)⟩
theorem tx_17 (h : narrow_1.before args s = true) (hA : ∀ a : Nat, a < s.heap.size → ¬ A a) : ∃ q : Nat × Nat, (Jvm.Term.string "HarbourFog$RuleReader" 119).eval args s none [] s = some (.ref q.1) ∧ TXT A s q 5 [119, 97, 110, 116, 115] := by
  obtain ⟨adK, adV, h1, h2⟩ := vk_Sof (args := args) (s := s) (N := 1) (tm := fun _ => Jvm.Term.string "HarbourFog$RuleReader" 119) (len := [5]) (byt := [[119, 97, 110, 116, 115]]) (A := A) (by intro i hi; obtain rfl : i = 0 := (by omega); decide) (fun i hi => gl_203 h) (fun i hi => gl_204 h) (fun i hi => gl_205 h) (by intro i hi; obtain rfl : i = 0 := (by omega); exact gl_206 h) (fun i hi j hj => by
      obtain rfl : i = 0 := by omega
      match j, hj with
      | 0, _ => exact gl_207 h
      | 1, _ => exact gl_208 h
      | 2, _ => exact gl_209 h
      | 3, _ => exact gl_210 h
      | 4, _ => exact gl_211 h
      | n + 5, hj => exact absurd (show n + 5 < 5 from hj) (by omega)) (fun i j hi hj hn => absurd (show i = j by omega) hn) hA
  exact ⟨(adK 0, adV 0), h2 0 (by decide), h1.1 0 (by decide)⟩
theorem tx_18 (h : narrow_1.before args s = true) (hA : ∀ a : Nat, a < s.heap.size → ¬ A a) : ∃ q : Nat × Nat, (Jvm.Term.string "HarbourFog$RuleReader" 123).eval args s none [] s = some (.ref q.1) ∧ TXT A s q 4 [115, 116, 101, 112] := by
  obtain ⟨adK, adV, h1, h2⟩ := vk_Sof (args := args) (s := s) (N := 1) (tm := fun _ => Jvm.Term.string "HarbourFog$RuleReader" 123) (len := [4]) (byt := [[115, 116, 101, 112]]) (A := A) (by intro i hi; obtain rfl : i = 0 := (by omega); decide) (fun i hi => gl_220 h) (fun i hi => gl_221 h) (fun i hi => gl_222 h) (by intro i hi; obtain rfl : i = 0 := (by omega); exact gl_223 h) (fun i hi j hj => by
      obtain rfl : i = 0 := by omega
      match j, hj with
      | 0, _ => exact gl_224 h
      | 1, _ => exact gl_225 h
      | 2, _ => exact gl_226 h
      | 3, _ => exact gl_227 h
      | n + 4, hj => exact absurd (show n + 4 < 4 from hj) (by omega)) (fun i j hi hj hn => absurd (show i = j by omega) hn) hA
  exact ⟨(adK 0, adV 0), h2 0 (by decide), h1.1 0 (by decide)⟩
theorem tx_19 (h : narrow_1.before args s = true) (hA : ∀ a : Nat, a < s.heap.size → ¬ A a) : ∃ q : Nat × Nat, (Jvm.Term.string "HarbourFog$RuleReader" 125).eval args s none [] s = some (.ref q.1) ∧ TXT A s q 5 [116, 104, 101, 114, 101] := by
  obtain ⟨adK, adV, h1, h2⟩ := vk_Sof (args := args) (s := s) (N := 1) (tm := fun _ => Jvm.Term.string "HarbourFog$RuleReader" 125) (len := [5]) (byt := [[116, 104, 101, 114, 101]]) (A := A) (by intro i hi; obtain rfl : i = 0 := (by omega); decide) (fun i hi => gl_228 h) (fun i hi => gl_229 h) (fun i hi => gl_230 h) (by intro i hi; obtain rfl : i = 0 := (by omega); exact gl_231 h) (fun i hi j hj => by
      obtain rfl : i = 0 := by omega
      match j, hj with
      | 0, _ => exact gl_232 h
      | 1, _ => exact gl_233 h
      | 2, _ => exact gl_234 h
      | 3, _ => exact gl_235 h
      | 4, _ => exact gl_236 h
      | n + 5, hj => exact absurd (show n + 5 < 5 from hj) (by omega)) (fun i j hi hj hn => absurd (show i = j by omega) hn) hA
  exact ⟨(adK 0, adV 0), h2 0 (by decide), h1.1 0 (by decide)⟩
theorem tx_20 (h : narrow_1.before args s = true) (hA : ∀ a : Nat, a < s.heap.size → ¬ A a) : ∃ q : Nat × Nat, (Jvm.Term.string "HarbourFog$RuleReader" 127).eval args s none [] s = some (.ref q.1) ∧ TXT A s q 4 [108, 101, 102, 116] := by
  obtain ⟨adK, adV, h1, h2⟩ := vk_Sof (args := args) (s := s) (N := 1) (tm := fun _ => Jvm.Term.string "HarbourFog$RuleReader" 127) (len := [4]) (byt := [[108, 101, 102, 116]]) (A := A) (by intro i hi; obtain rfl : i = 0 := (by omega); decide) (fun i hi => gl_237 h) (fun i hi => gl_238 h) (fun i hi => gl_239 h) (by intro i hi; obtain rfl : i = 0 := (by omega); exact gl_240 h) (fun i hi j hj => by
      obtain rfl : i = 0 := by omega
      match j, hj with
      | 0, _ => exact gl_241 h
      | 1, _ => exact gl_242 h
      | 2, _ => exact gl_243 h
      | 3, _ => exact gl_244 h
      | n + 4, hj => exact absurd (show n + 4 < 4 from hj) (by omega)) (fun i j hi hj hn => absurd (show i = j by omega) hn) hA
  exact ⟨(adK 0, adV 0), h2 0 (by decide), h1.1 0 (by decide)⟩
theorem tx_21 (h : narrow_1.before args s = true) (hA : ∀ a : Nat, a < s.heap.size → ¬ A a) : ∃ q : Nat × Nat, (Jvm.Term.string "HarbourFog$RuleReader" 129).eval args s none [] s = some (.ref q.1) ∧ TXT A s q 5 [102, 108, 111, 111, 114] := by
  obtain ⟨adK, adV, h1, h2⟩ := vk_Sof (args := args) (s := s) (N := 1) (tm := fun _ => Jvm.Term.string "HarbourFog$RuleReader" 129) (len := [5]) (byt := [[102, 108, 111, 111, 114]]) (A := A) (by intro i hi; obtain rfl : i = 0 := (by omega); decide) (fun i hi => gl_245 h) (fun i hi => gl_246 h) (fun i hi => gl_247 h) (by intro i hi; obtain rfl : i = 0 := (by omega); exact gl_248 h) (fun i hi j hj => by
      obtain rfl : i = 0 := by omega
      match j, hj with
      | 0, _ => exact gl_249 h
      | 1, _ => exact gl_250 h
      | 2, _ => exact gl_251 h
      | 3, _ => exact gl_252 h
      | 4, _ => exact gl_253 h
      | n + 5, hj => exact absurd (show n + 5 < 5 from hj) (by omega)) (fun i j hi hj hn => absurd (show i = j by omega) hn) hA
  exact ⟨(adK 0, adV 0), h2 0 (by decide), h1.1 0 (by decide)⟩
theorem tx_22 (h : narrow_1.before args s = true) (hA : ∀ a : Nat, a < s.heap.size → ¬ A a) : ∃ q : Nat × Nat, (Jvm.Term.string "HarbourFog$RuleReader" 131).eval args s none [] s = some (.ref q.1) ∧ TXT A s q 6 [110, 117, 109, 98, 101, 114] := by
  obtain ⟨adK, adV, h1, h2⟩ := vk_Sof (args := args) (s := s) (N := 1) (tm := fun _ => Jvm.Term.string "HarbourFog$RuleReader" 131) (len := [6]) (byt := [[110, 117, 109, 98, 101, 114]]) (A := A) (by intro i hi; obtain rfl : i = 0 := (by omega); decide) (fun i hi => gl_254 h) (fun i hi => gl_255 h) (fun i hi => gl_256 h) (by intro i hi; obtain rfl : i = 0 := (by omega); exact gl_257 h) (fun i hi j hj => by
      obtain rfl : i = 0 := by omega
      match j, hj with
      | 0, _ => exact gl_258 h
      | 1, _ => exact gl_259 h
      | 2, _ => exact gl_260 h
      | 3, _ => exact gl_261 h
      | 4, _ => exact gl_262 h
      | 5, _ => exact gl_263 h
      | n + 6, hj => exact absurd (show n + 6 < 6 from hj) (by omega)) (fun i j hi hj hn => absurd (show i = j by omega) hn) hA
  exact ⟨(adK 0, adV 0), h2 0 (by decide), h1.1 0 (by decide)⟩
theorem tx_23 (h : narrow_1.before args s = true) (hA : ∀ a : Nat, a < s.heap.size → ¬ A a) : ∃ q : Nat × Nat, (Jvm.Term.string "HarbourFog$RuleReader" 132).eval args s none [] s = some (.ref q.1) ∧ TXT A s q 4 [98, 105, 100, 115] := by
  obtain ⟨adK, adV, h1, h2⟩ := vk_Sof (args := args) (s := s) (N := 1) (tm := fun _ => Jvm.Term.string "HarbourFog$RuleReader" 132) (len := [4]) (byt := [[98, 105, 100, 115]]) (A := A) (by intro i hi; obtain rfl : i = 0 := (by omega); decide) (fun i hi => gl_264 h) (fun i hi => gl_265 h) (fun i hi => gl_266 h) (by intro i hi; obtain rfl : i = 0 := (by omega); exact gl_267 h) (fun i hi j hj => by
      obtain rfl : i = 0 := by omega
      match j, hj with
      | 0, _ => exact gl_268 h
      | 1, _ => exact gl_269 h
      | 2, _ => exact gl_270 h
      | 3, _ => exact gl_271 h
      | n + 4, hj => exact absurd (show n + 4 < 4 from hj) (by omega)) (fun i j hi hj hn => absurd (show i = j by omega) hn) hA
  exact ⟨(adK 0, adV 0), h2 0 (by decide), h1.1 0 (by decide)⟩
theorem tx_24 (h : narrow_1.before args s = true) (hA : ∀ a : Nat, a < s.heap.size → ¬ A a) : ∃ q : Nat × Nat, (Jvm.Term.string "HarbourFog$RuleReader" 85).eval args s none [] s = some (.ref q.1) ∧ TXT A s q 3 [97, 110, 100] := by
  obtain ⟨adK, adV, h1, h2⟩ := vk_Sof (args := args) (s := s) (N := 1) (tm := fun _ => Jvm.Term.string "HarbourFog$RuleReader" 85) (len := [3]) (byt := [[97, 110, 100]]) (A := A) (by intro i hi; obtain rfl : i = 0 := (by omega); decide) (fun i hi => gl_272 h) (fun i hi => gl_273 h) (fun i hi => gl_274 h) (by intro i hi; obtain rfl : i = 0 := (by omega); exact gl_275 h) (fun i hi j hj => by
      obtain rfl : i = 0 := by omega
      match j, hj with
      | 0, _ => exact gl_276 h
      | 1, _ => exact gl_277 h
      | 2, _ => exact gl_278 h
      | n + 3, hj => exact absurd (show n + 3 < 3 from hj) (by omega)) (fun i j hi hj hn => absurd (show i = j by omega) hn) hA
  exact ⟨(adK 0, adV 0), h2 0 (by decide), h1.1 0 (by decide)⟩
theorem tx_25 (h : narrow_1.before args s = true) (hA : ∀ a : Nat, a < s.heap.size → ¬ A a) : ∃ q : Nat × Nat, (Jvm.Term.string "HarbourFog$RuleReader" 74).eval args s none [] s = some (.ref q.1) ∧ TXT A s q 2 [111, 114] := by
  obtain ⟨adK, adV, h1, h2⟩ := vk_Sof (args := args) (s := s) (N := 1) (tm := fun _ => Jvm.Term.string "HarbourFog$RuleReader" 74) (len := [2]) (byt := [[111, 114]]) (A := A) (by intro i hi; obtain rfl : i = 0 := (by omega); decide) (fun i hi => gl_279 h) (fun i hi => gl_280 h) (fun i hi => gl_281 h) (by intro i hi; obtain rfl : i = 0 := (by omega); exact gl_282 h) (fun i hi j hj => by
      obtain rfl : i = 0 := by omega
      match j, hj with
      | 0, _ => exact gl_283 h
      | 1, _ => exact gl_284 h
      | n + 2, hj => exact absurd (show n + 2 < 2 from hj) (by omega)) (fun i j hi hj hn => absurd (show i = j by omega) hn) hA
  exact ⟨(adK 0, adV 0), h2 0 (by decide), h1.1 0 (by decide)⟩
def tx_tm : Nat → Jvm.Term
  | 0 => Jvm.Term.string "HarbourFog$PortReader" 83
  | 1 => Jvm.Term.string "HarbourFog$PortReader" 89
  | 2 => Jvm.Term.string "HarbourFog$PortReader" 91
  | 3 => Jvm.Term.string "HarbourFog$PortReader" 93
  | 4 => Jvm.Term.string "HarbourFog$PortReader" 95
  | 5 => Jvm.Term.string "HarbourFog$PortReader" 97
  | 6 => Jvm.Term.string "HarbourFog$PortReader" 99
  | 7 => Jvm.Term.string "HarbourFog$PortReader" 101
  | 8 => Jvm.Term.string "HarbourFog$PortReader" 103
  | 9 => Jvm.Term.string "HarbourFog$PortReader" 105
  | 10 => Jvm.Term.string "HarbourFog$PortReader" 107
  | 11 => Jvm.Term.string "HarbourFog$RuleReader" 59
  | 12 => Jvm.Term.string "HarbourFog$RuleReader" 65
  | 13 => Jvm.Term.string "HarbourFog$RuleReader" 67
  | 14 => Jvm.Term.string "HarbourFog$RuleReader" 69
  | 15 => Jvm.Term.string "HarbourFog$RuleReader" 87
  | 16 => Jvm.Term.string "HarbourFog$RuleReader" 115
  | 17 => Jvm.Term.string "HarbourFog$RuleReader" 119
  | 18 => Jvm.Term.string "HarbourFog$RuleReader" 123
  | 19 => Jvm.Term.string "HarbourFog$RuleReader" 125
  | 20 => Jvm.Term.string "HarbourFog$RuleReader" 127
  | 21 => Jvm.Term.string "HarbourFog$RuleReader" 129
  | 22 => Jvm.Term.string "HarbourFog$RuleReader" 131
  | 23 => Jvm.Term.string "HarbourFog$RuleReader" 132
  | 24 => Jvm.Term.string "HarbourFog$RuleReader" 85
  | _ => Jvm.Term.string "HarbourFog$RuleReader" 74
theorem tx_all (h : narrow_1.before args s = true) (hA : ∀ a : Nat, a < s.heap.size → ¬ A a) (i : Nat) : ∃ q : Nat × Nat, i < 26 → (tx_tm i).eval args s none [] s = some (.ref q.1) ∧ TXT A s q (am_slen.getD i 0) (am_sbyt.getD i []) := by
  match i with
  | 0 => exact (tx_0 h hA).elim fun q hq => ⟨q, fun _ => hq⟩
  | 1 => exact (tx_1 h hA).elim fun q hq => ⟨q, fun _ => hq⟩
  | 2 => exact (tx_2 h hA).elim fun q hq => ⟨q, fun _ => hq⟩
  | 3 => exact (tx_3 h hA).elim fun q hq => ⟨q, fun _ => hq⟩
  | 4 => exact (tx_4 h hA).elim fun q hq => ⟨q, fun _ => hq⟩
  | 5 => exact (tx_5 h hA).elim fun q hq => ⟨q, fun _ => hq⟩
  | 6 => exact (tx_6 h hA).elim fun q hq => ⟨q, fun _ => hq⟩
  | 7 => exact (tx_7 h hA).elim fun q hq => ⟨q, fun _ => hq⟩
  | 8 => exact (tx_8 h hA).elim fun q hq => ⟨q, fun _ => hq⟩
  | 9 => exact (tx_9 h hA).elim fun q hq => ⟨q, fun _ => hq⟩
  | 10 => exact (tx_10 h hA).elim fun q hq => ⟨q, fun _ => hq⟩
  | 11 => exact (tx_11 h hA).elim fun q hq => ⟨q, fun _ => hq⟩
  | 12 => exact (tx_12 h hA).elim fun q hq => ⟨q, fun _ => hq⟩
  | 13 => exact (tx_13 h hA).elim fun q hq => ⟨q, fun _ => hq⟩
  | 14 => exact (tx_14 h hA).elim fun q hq => ⟨q, fun _ => hq⟩
  | 15 => exact (tx_15 h hA).elim fun q hq => ⟨q, fun _ => hq⟩
  | 16 => exact (tx_16 h hA).elim fun q hq => ⟨q, fun _ => hq⟩
  | 17 => exact (tx_17 h hA).elim fun q hq => ⟨q, fun _ => hq⟩
  | 18 => exact (tx_18 h hA).elim fun q hq => ⟨q, fun _ => hq⟩
  | 19 => exact (tx_19 h hA).elim fun q hq => ⟨q, fun _ => hq⟩
  | 20 => exact (tx_20 h hA).elim fun q hq => ⟨q, fun _ => hq⟩
  | 21 => exact (tx_21 h hA).elim fun q hq => ⟨q, fun _ => hq⟩
  | 22 => exact (tx_22 h hA).elim fun q hq => ⟨q, fun _ => hq⟩
  | 23 => exact (tx_23 h hA).elim fun q hq => ⟨q, fun _ => hq⟩
  | 24 => exact (tx_24 h hA).elim fun q hq => ⟨q, fun _ => hq⟩
  | 25 => exact (tx_25 h hA).elim fun q hq => ⟨q, fun _ => hq⟩
  | n + 26 => exact ⟨(0, 0), fun h => absurd h (by omega)⟩
def tx_nb (i j : Nat) : Bool := decide (Int32.ofNat (am_slen.getD i 0) = Int32.ofNat (am_slen.getD j 0)) && (List.range 7).all (fun k => !(decide (k < am_slen.getD i 0)) || !(decide (k < am_slen.getD j 0)) || decide ((am_sbyt.getD i []).getD k 0 = (am_sbyt.getD j []).getD k 0))
theorem tx_nb_ne : ∀ i, i < 26 → ∀ j, j < 26 → tx_nb i j = true → i = j := by decide +kernel
theorem tx_ne {i j : Nat} (hi : i < 26) (hj : j < 26) (h1 : Int32.ofNat (am_slen.getD i 0) = Int32.ofNat (am_slen.getD j 0)) (h2 : ∀ k, k < am_slen.getD i 0 → k < am_slen.getD j 0 → (am_sbyt.getD i []).getD k 0 = (am_sbyt.getD j []).getD k 0) : i = j := by
  refine tx_nb_ne i hi j hj ?_
  unfold tx_nb
  rw [Bool.and_eq_true, decide_eq_true_eq, List.all_eq_true]
  refine ⟨h1, fun k _ => ?_⟩
  by_cases a : k < am_slen.getD i 0
  · by_cases b : k < am_slen.getD j 0
    · rw [decide_eq_true (h2 k a b), Bool.or_true]
    · rw [decide_eq_false b]
      simp
  · rw [decide_eq_false a]
    simp
theorem en_S (h : narrow_1.before args s = true) (hA : ∀ a : Nat, a < s.heap.size → ¬ A a) : ∃ adK adV : Nat → Nat, vk_S 26 am_slen am_sbyt adK adV A s s.heap ∧ ∀ i, i < 26 → (tx_tm i).eval args s none [] s = some (.ref (adK i)) := by
  obtain ⟨ad, had⟩ := Classical.axiomOfChoice (tx_all (A := A) h hA)
  refine ⟨fun i => (ad i).1, fun i => (ad i).2, ⟨fun i hi => (had i hi).2, fun i j hi hj e => ?_⟩, fun i hi => (had i hi).1⟩
  have h1 := (had i hi).2
  have h2 := (had j hj).2
  have e1 : ad i = ((ad i).1, (ad i).2) := rfl
  have e2 : ad j = ((ad i).1, (ad j).2) := by
    have e' : (ad i).1 = (ad j).1 := e
    rw [e']
  rw [e1] at h1
  rw [e2] at h2
  obtain ⟨g1, g2⟩ := TXT_same h1 h2
  exact tx_ne hi hj g1 (fun k k1 k2 => g2 k k1 k2)
theorem vk_Scongr {N : Nat} {len : List Nat} {byt : List (List Int32)} {k1 v1 k2 v2 : Nat → Nat} {U : State} {H : Heap} (hk : ∀ i, i < N → k1 i = k2 i) (hv : ∀ i, i < N → v1 i = v2 i) (h : vk_S N len byt k1 v1 A U H) : vk_S N len byt k2 v2 A U H := by
  refine ⟨fun i hi => ?_, fun i j hi hj e => h.2 i j hi hj (by rw [hk i hi, hk j hj]; exact e)⟩
  have h1 := h.1 i hi
  rw [hk i hi, hv i hi] at h1
  exact h1
theorem en_turn (h : narrow_1.before args s = true) (hA : ∀ a : Nat, a < s.heap.size → ¬ A a) : ∃ t : Nat, (Jvm.Term.static "HarbourFog$Run" "EIGHTH_TURN" "[I").eval args s none [] s = some (.ref t) ∧ va_T .int t 9 (fun j => .int (Int32.ofInt (am_turn j))) A s s.heap :=
  va_Tof (by decide) (gl_3 h) (va_eqt (gl_4 h)) (fun j hj => by
    match j, hj with
    | 0, _ => exact va_eqt (gl_5 h)
    | 1, _ => exact va_eqt (gl_6 h)
    | 2, _ => exact va_eqt (gl_7 h)
    | 3, _ => exact va_eqt (gl_8 h)
    | 4, _ => exact va_eqt (gl_9 h)
    | 5, _ => exact va_eqt (gl_10 h)
    | 6, _ => exact va_eqt (gl_11 h)
    | 7, _ => exact va_eqt (gl_12 h)
    | 8, _ => exact va_eqt (gl_13 h)
    | n + 9, hj => exact absurd hj (by omega)) hA
end EN
