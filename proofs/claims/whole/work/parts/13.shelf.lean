/-! PART 13: Town.become; WindowsLookedOut$Shelf -/
/-- the town at c is that at c2 of the store σ0: the first i panes' and m walkers' numbers as yet -/
def BecI (c c2 i m : Nat) (σ0 σ : Sg) : Prop := Fr (TS c) σ0 σ ∧ σ.2 c 0 = σ0.2 c2 0 ∧ (∀ k, k < 6 → σ.1 c (k + 1) = σ0.1 c2 (k + 1)) ∧ (∀ j p, j < 4 → p < i → σ.1 (c + 1 + j) p = σ0.1 (c2 + 1 + j) p) ∧ (∀ j p, j < 3 → p < m → σ.1 (c + 5 + j) p = σ0.1 (c2 + 5 + j) p)
theorem BecI.stepP {c c2 i m : Nat} {σ0 σ : Sg} (h : BecI c c2 i m σ0 σ) : BecI c c2 (i + 1) m σ0 (uI (uI (uI (uI σ (c + 1) i (σ0.1 (c2 + 1) i)) (c + 2) i (σ0.1 (c2 + 2) i)) (c + 3) i (σ0.1 (c2 + 3) i)) (c + 4) i (σ0.1 (c2 + 4) i)) := by
  obtain ⟨h1, h2, h3, h4, h5⟩ := h
  refine ⟨(((h1.uI (TSm 1 (by decide))).uI (TSm 2 (by decide))).uI (TSm 3 (by decide))).uI (TSm 4 (by decide)), h2, fun k hk => ?_, fun j p hj hp => ?_, fun j p hj hp => ?_⟩
  · rw [uI_at, if_neg (by omega), uI_at, if_neg (by omega), uI_at, if_neg (by omega), uI_at, if_neg (by omega)]; exact h3 k hk
  · by_cases e : p = i
    · subst e
      have hh : j = 0 ∨ j = 1 ∨ j = 2 ∨ j = 3 := by omega
      rcases hh with rfl | rfl | rfl | rfl <;> simp [uI_at]
    · rw [uI_at, if_neg (by omega), uI_at, if_neg (by omega), uI_at, if_neg (by omega), uI_at, if_neg (by omega)]; exact h4 j p hj (by omega)
  · rw [uI_at, if_neg (by omega), uI_at, if_neg (by omega), uI_at, if_neg (by omega), uI_at, if_neg (by omega)]; exact h5 j p hj hp
theorem BecI.stepW {c c2 i m : Nat} {σ0 σ : Sg} (h : BecI c c2 i m σ0 σ) : BecI c c2 i (m + 1) σ0 (uI (uI (uI σ (c + 5) m (σ0.1 (c2 + 5) m)) (c + 6) m (σ0.1 (c2 + 6) m)) (c + 7) m (σ0.1 (c2 + 7) m)) := by
  obtain ⟨h1, h2, h3, h4, h5⟩ := h
  refine ⟨((h1.uI (TSm 5 (by decide))).uI (TSm 6 (by decide))).uI (TSm 7 (by decide)), h2, fun k hk => ?_, fun j p hj hp => ?_, fun j p hj hp => ?_⟩
  · rw [uI_at, if_neg (by omega), uI_at, if_neg (by omega), uI_at, if_neg (by omega)]; exact h3 k hk
  · rw [uI_at, if_neg (by omega), uI_at, if_neg (by omega), uI_at, if_neg (by omega)]; exact h4 j p hj hp
  · by_cases e : p = m
    · subst e
      have hh : j = 0 ∨ j = 1 ∨ j = 2 := by omega
      rcases hh with rfl | rfl | rfl <;> simp [uI_at]
    · rw [uI_at, if_neg (by omega), uI_at, if_neg (by omega), uI_at, if_neg (by omega)]; exact h5 j p hj (by omega)
theorem BecI.RX {c c2 : Nat} {σ0 σ : Sg} {τ : Tw} (h : BecI c c2 9 5 σ0 σ) (hR : RX c2 τ σ0) (hO : OkT τ) : RX c τ σ := by
  obtain ⟨-, h2, h3, h4, h5⟩ := h
  obtain ⟨r1, r2, r3, r4⟩ := hR
  obtain ⟨-, o2, o3, o4, o5, -⟩ := hO
  exact ⟨h2.trans r1, fun k hk => (h3 k hk).trans (r2 k hk), fun j p hj hp => (h4 j p hj (by omega)).trans (r3 j p hj hp), fun j p hj hp => (h5 j p hj (by omega)).trans (r4 j p hj hp)⟩
theorem BecI.oth {c c2 i m : Nat} {σ0 σ : Sg} (h : BecI c c2 i m σ0 σ) (hT : TC c) (hT2 : TC c2) (hne : c ≠ c2) (j p : Nat) (hj : j < 8) : σ.1 (c2 + j) p = σ0.1 (c2 + j) p := by
  have t1 : c = 14 ∨ c = 22 ∨ c = 30 := hT
  have t2 : c2 = 14 ∨ c2 = 22 ∨ c2 = 30 := hT2
  have e := (h.1 (c2 + j) (by unfold TS; omega)).1
  rw [e]
theorem dX5_become_0 : decode cX5_become 0 = .ok (.aload_n 0, 1) := by decide +kernel
theorem dX5_become_1 : decode cX5_become 1 = .ok (.aload_n 1, 1) := by decide +kernel
theorem dX5_become_2 : decode cX5_become 2 = .ok (.getfield 9, 3) := by decide +kernel
theorem dX5_become_5 : decode cX5_become 5 = .ok (.putfield 9, 3) := by decide +kernel
theorem dX5_become_8 : decode cX5_become 8 = .ok (.aload_n 0, 1) := by decide +kernel
theorem dX5_become_9 : decode cX5_become 9 = .ok (.aload_n 1, 1) := by decide +kernel
theorem dX5_become_10 : decode cX5_become 10 = .ok (.getfield 15, 3) := by decide +kernel
theorem dX5_become_13 : decode cX5_become 13 = .ok (.putfield 15, 3) := by decide +kernel
theorem dX5_become_16 : decode cX5_become 16 = .ok (.aload_n 0, 1) := by decide +kernel
theorem dX5_become_17 : decode cX5_become 17 = .ok (.aload_n 1, 1) := by decide +kernel
theorem dX5_become_18 : decode cX5_become 18 = .ok (.getfield 19, 3) := by decide +kernel
theorem dX5_become_21 : decode cX5_become 21 = .ok (.putfield 19, 3) := by decide +kernel
theorem dX5_become_24 : decode cX5_become 24 = .ok (.aload_n 0, 1) := by decide +kernel
theorem dX5_become_25 : decode cX5_become 25 = .ok (.aload_n 1, 1) := by decide +kernel
theorem dX5_become_26 : decode cX5_become 26 = .ok (.getfield 22, 3) := by decide +kernel
theorem dX5_become_29 : decode cX5_become 29 = .ok (.putfield 22, 3) := by decide +kernel
theorem dX5_become_32 : decode cX5_become 32 = .ok (.aload_n 0, 1) := by decide +kernel
theorem dX5_become_33 : decode cX5_become 33 = .ok (.aload_n 1, 1) := by decide +kernel
theorem dX5_become_34 : decode cX5_become 34 = .ok (.getfield 25, 3) := by decide +kernel
theorem dX5_become_37 : decode cX5_become 37 = .ok (.putfield 25, 3) := by decide +kernel
theorem dX5_become_40 : decode cX5_become 40 = .ok (.aload_n 0, 1) := by decide +kernel
theorem dX5_become_41 : decode cX5_become 41 = .ok (.aload_n 1, 1) := by decide +kernel
theorem dX5_become_42 : decode cX5_become 42 = .ok (.getfield 28, 3) := by decide +kernel
theorem dX5_become_45 : decode cX5_become 45 = .ok (.putfield 28, 3) := by decide +kernel
theorem dX5_become_48 : decode cX5_become 48 = .ok (.aload_n 0, 1) := by decide +kernel
theorem dX5_become_49 : decode cX5_become 49 = .ok (.aload_n 1, 1) := by decide +kernel
theorem dX5_become_50 : decode cX5_become 50 = .ok (.getfield 31, 3) := by decide +kernel
theorem dX5_become_53 : decode cX5_become 53 = .ok (.putfield 31, 3) := by decide +kernel
theorem dX5_become_56 : decode cX5_become 56 = .ok (.iconst 0, 1) := by decide +kernel
theorem dX5_become_57 : decode cX5_become 57 = .ok (.istore_n 2, 1) := by decide +kernel
theorem dX5_become_58 : decode cX5_become 58 = .ok (.iload_n 2, 1) := by decide +kernel
theorem dX5_become_59 : decode cX5_become 59 = .ok (.bipush 9, 2) := by decide +kernel
theorem dX5_become_61 : decode cX5_become 61 = .ok (.if_icmp .ge 57, 3) := by decide +kernel
theorem dX5_become_64 : decode cX5_become 64 = .ok (.aload_n 0, 1) := by decide +kernel
theorem dX5_become_65 : decode cX5_become 65 = .ok (.getfield 34, 3) := by decide +kernel
theorem dX5_become_68 : decode cX5_become 68 = .ok (.iload_n 2, 1) := by decide +kernel
theorem dX5_become_69 : decode cX5_become 69 = .ok (.aload_n 1, 1) := by decide +kernel
theorem dX5_become_70 : decode cX5_become 70 = .ok (.getfield 34, 3) := by decide +kernel
theorem dX5_become_73 : decode cX5_become 73 = .ok (.iload_n 2, 1) := by decide +kernel
theorem dX5_become_74 : decode cX5_become 74 = .ok (.iaload, 1) := by decide +kernel
theorem dX5_become_75 : decode cX5_become 75 = .ok (.iastore, 1) := by decide +kernel
theorem dX5_become_76 : decode cX5_become 76 = .ok (.aload_n 0, 1) := by decide +kernel
theorem dX5_become_77 : decode cX5_become 77 = .ok (.getfield 38, 3) := by decide +kernel
theorem dX5_become_80 : decode cX5_become 80 = .ok (.iload_n 2, 1) := by decide +kernel
theorem dX5_become_81 : decode cX5_become 81 = .ok (.aload_n 1, 1) := by decide +kernel
theorem dX5_become_82 : decode cX5_become 82 = .ok (.getfield 38, 3) := by decide +kernel
theorem dX5_become_85 : decode cX5_become 85 = .ok (.iload_n 2, 1) := by decide +kernel
theorem dX5_become_86 : decode cX5_become 86 = .ok (.iaload, 1) := by decide +kernel
theorem dX5_become_87 : decode cX5_become 87 = .ok (.iastore, 1) := by decide +kernel
theorem dX5_become_88 : decode cX5_become 88 = .ok (.aload_n 0, 1) := by decide +kernel
theorem dX5_become_89 : decode cX5_become 89 = .ok (.getfield 41, 3) := by decide +kernel
theorem dX5_become_92 : decode cX5_become 92 = .ok (.iload_n 2, 1) := by decide +kernel
theorem dX5_become_93 : decode cX5_become 93 = .ok (.aload_n 1, 1) := by decide +kernel
theorem dX5_become_94 : decode cX5_become 94 = .ok (.getfield 41, 3) := by decide +kernel
theorem dX5_become_97 : decode cX5_become 97 = .ok (.iload_n 2, 1) := by decide +kernel
theorem dX5_become_98 : decode cX5_become 98 = .ok (.iaload, 1) := by decide +kernel
theorem dX5_become_99 : decode cX5_become 99 = .ok (.iastore, 1) := by decide +kernel
theorem dX5_become_100 : decode cX5_become 100 = .ok (.aload_n 0, 1) := by decide +kernel
theorem dX5_become_101 : decode cX5_become 101 = .ok (.getfield 44, 3) := by decide +kernel
theorem dX5_become_104 : decode cX5_become 104 = .ok (.iload_n 2, 1) := by decide +kernel
theorem dX5_become_105 : decode cX5_become 105 = .ok (.aload_n 1, 1) := by decide +kernel
theorem dX5_become_106 : decode cX5_become 106 = .ok (.getfield 44, 3) := by decide +kernel
theorem dX5_become_109 : decode cX5_become 109 = .ok (.iload_n 2, 1) := by decide +kernel
theorem dX5_become_110 : decode cX5_become 110 = .ok (.iaload, 1) := by decide +kernel
theorem dX5_become_111 : decode cX5_become 111 = .ok (.iastore, 1) := by decide +kernel
theorem dX5_become_112 : decode cX5_become 112 = .ok (.iinc 2 1, 3) := by decide +kernel
theorem dX5_become_115 : decode cX5_become 115 = .ok (.goto (-57), 3) := by decide +kernel
theorem dX5_become_118 : decode cX5_become 118 = .ok (.iconst 0, 1) := by decide +kernel
theorem dX5_become_119 : decode cX5_become 119 = .ok (.istore_n 2, 1) := by decide +kernel
theorem dX5_become_120 : decode cX5_become 120 = .ok (.iload_n 2, 1) := by decide +kernel
theorem dX5_become_121 : decode cX5_become 121 = .ok (.iconst 5, 1) := by decide +kernel
theorem dX5_become_122 : decode cX5_become 122 = .ok (.if_icmp .ge 45, 3) := by decide +kernel
theorem dX5_become_125 : decode cX5_become 125 = .ok (.aload_n 0, 1) := by decide +kernel
theorem dX5_become_126 : decode cX5_become 126 = .ok (.getfield 47, 3) := by decide +kernel
theorem dX5_become_129 : decode cX5_become 129 = .ok (.iload_n 2, 1) := by decide +kernel
theorem dX5_become_130 : decode cX5_become 130 = .ok (.aload_n 1, 1) := by decide +kernel
theorem dX5_become_131 : decode cX5_become 131 = .ok (.getfield 47, 3) := by decide +kernel
theorem dX5_become_134 : decode cX5_become 134 = .ok (.iload_n 2, 1) := by decide +kernel
theorem dX5_become_135 : decode cX5_become 135 = .ok (.iaload, 1) := by decide +kernel
theorem dX5_become_136 : decode cX5_become 136 = .ok (.iastore, 1) := by decide +kernel
theorem dX5_become_137 : decode cX5_become 137 = .ok (.aload_n 0, 1) := by decide +kernel
theorem dX5_become_138 : decode cX5_become 138 = .ok (.getfield 50, 3) := by decide +kernel
theorem dX5_become_141 : decode cX5_become 141 = .ok (.iload_n 2, 1) := by decide +kernel
theorem dX5_become_142 : decode cX5_become 142 = .ok (.aload_n 1, 1) := by decide +kernel
theorem dX5_become_143 : decode cX5_become 143 = .ok (.getfield 50, 3) := by decide +kernel
theorem dX5_become_146 : decode cX5_become 146 = .ok (.iload_n 2, 1) := by decide +kernel
theorem dX5_become_147 : decode cX5_become 147 = .ok (.iaload, 1) := by decide +kernel
theorem dX5_become_148 : decode cX5_become 148 = .ok (.iastore, 1) := by decide +kernel
theorem dX5_become_149 : decode cX5_become 149 = .ok (.aload_n 0, 1) := by decide +kernel
theorem dX5_become_150 : decode cX5_become 150 = .ok (.getfield 53, 3) := by decide +kernel
theorem dX5_become_153 : decode cX5_become 153 = .ok (.iload_n 2, 1) := by decide +kernel
theorem dX5_become_154 : decode cX5_become 154 = .ok (.aload_n 1, 1) := by decide +kernel
theorem dX5_become_155 : decode cX5_become 155 = .ok (.getfield 53, 3) := by decide +kernel
theorem dX5_become_158 : decode cX5_become 158 = .ok (.iload_n 2, 1) := by decide +kernel
theorem dX5_become_159 : decode cX5_become 159 = .ok (.iaload, 1) := by decide +kernel
theorem dX5_become_160 : decode cX5_become 160 = .ok (.iastore, 1) := by decide +kernel
theorem dX5_become_161 : decode cX5_become 161 = .ok (.iinc 2 1, 3) := by decide +kernel
theorem dX5_become_164 : decode cX5_become 164 = .ok (.goto (-44), 3) := by decide +kernel
theorem dX5_become_167 : decode cX5_become 167 = .ok (.return_, 1) := by decide +kernel
set_option maxRecDepth 20000 in
theorem l2_X5_become {G : Gl} {d : Nat} {σ0 : Sg} {K : Option Value → Sg → Prop} {c c2 : Nat} (hT : TC c) (hT2 : TC c2) (hne : c ≠ c2) : ∀ (n i : Nat) (σ : Sg), i + n = 5 → BecI c c2 9 i σ0 σ → (∀ υ, BecI c c2 9 5 σ0 υ → K none υ) → AW G d RX5 cX5_become 3 none 120 [(0, .ref (gA G c)), (1, .ref (gA G c2)), (2, .int (iI (i : Int)))] [] σ K := by
  intro n
  induction n using Nat.strongRecOn
  rename_i n ih
  intro i σ hn hI hK
  have t1 : c = 14 ∨ c = 22 ∨ c = 30 := hT
  have t2 : c2 = 14 ∨ c2 = 22 ∨ c2 = 30 := hT2
  refine A_iload_n (pc := 120) dX5_become_120 rfl rfl ?_
  refine A_iconst (pc := 121) dX5_become_121 ?_
  refine A_icmp_ge (pc := 122) 167 dX5_become_122 (by decide) (by omega) (by omega) (by omega) (by omega) (fun h122 => ?_) (fun h122 => ?_)
  · skip
    refine A_vret (pc := 167) rfl dX5_become_167 ?_
    have hn0 : i = 5 := by omega
    subst hn0
    exact hK σ hI
  · skip
    refine A_aload_n (pc := 125) dX5_become_125 rfl rfl ?_
    refine A_getR (pc := 126) fX5_47 (shp_T hT) rfl dX5_become_126 ?_
    refine A_iload_n (pc := 129) dX5_become_129 rfl rfl ?_
    refine A_aload_n (pc := 130) dX5_become_130 rfl rfl ?_
    refine A_getR (pc := 131) fX5_47 (shp_T hT2) rfl dX5_become_131 ?_
    refine A_iload_n (pc := 134) dX5_become_134 rfl rfl ?_
    refine A_ialdv (pc := 135) _ (shp_T_walkerAt hT2) rfl (by omega) (Nat.le_of_ble_eq_true rfl) (show _ = σ0.1 (c2 + 5) i from by exact hI.oth hT hT2 hne 5 i (by decide)) dX5_become_135 ?_
    refine A_iast (pc := 136) _ (shp_T_walkerAt hT) rfl (by omega) (Nat.le_of_ble_eq_true rfl) dX5_become_136 ?_
    refine A_aload_n (pc := 137) dX5_become_137 rfl rfl ?_
    refine A_getR (pc := 138) fX5_50 (shp_T hT) rfl dX5_become_138 ?_
    refine A_iload_n (pc := 141) dX5_become_141 rfl rfl ?_
    refine A_aload_n (pc := 142) dX5_become_142 rfl rfl ?_
    refine A_getR (pc := 143) fX5_50 (shp_T hT2) rfl dX5_become_143 ?_
    refine A_iload_n (pc := 146) dX5_become_146 rfl rfl ?_
    refine A_ialdv (pc := 147) _ (shp_T_walkerFaces hT2) rfl (by omega) (Nat.le_of_ble_eq_true rfl) (show _ = σ0.1 (c2 + 6) i from by rw [uI_at, if_neg (by omega)]; exact hI.oth hT hT2 hne 6 i (by decide)) dX5_become_147 ?_
    refine A_iast (pc := 148) _ (shp_T_walkerFaces hT) rfl (by omega) (Nat.le_of_ble_eq_true rfl) dX5_become_148 ?_
    refine A_aload_n (pc := 149) dX5_become_149 rfl rfl ?_
    refine A_getR (pc := 150) fX5_53 (shp_T hT) rfl dX5_become_150 ?_
    refine A_iload_n (pc := 153) dX5_become_153 rfl rfl ?_
    refine A_aload_n (pc := 154) dX5_become_154 rfl rfl ?_
    refine A_getR (pc := 155) fX5_53 (shp_T hT2) rfl dX5_become_155 ?_
    refine A_iload_n (pc := 158) dX5_become_158 rfl rfl ?_
    refine A_ialdv (pc := 159) _ (shp_T_walkerTried hT2) rfl (by omega) (Nat.le_of_ble_eq_true rfl) (show _ = σ0.1 (c2 + 7) i from by rw [uI_at, if_neg (by omega)]; rw [uI_at, if_neg (by omega)]; exact hI.oth hT hT2 hne 7 i (by decide)) dX5_become_159 ?_
    refine A_iast (pc := 160) _ (shp_T_walkerTried hT) rfl (by omega) (Nat.le_of_ble_eq_true rfl) dX5_become_160 ?_
    refine A_iinc (pc := 161) dX5_become_161 rfl (Nat.le_of_ble_eq_true rfl) ?_
    refine A_goto (pc := 164) 120 dX5_become_164 (by decide) ?_
    obtain ⟨m, rfl⟩ : ∃ m, n = m + 1 := ⟨n - 1, by omega⟩
    refine A_loc (l2 := [(0, _), (1, _), (2, _)]) ⟨rfl, rfl, rfl, trivial⟩ ?_
    exact ih m (by omega) (i + 1) _ (by omega) hI.stepW hK
set_option maxRecDepth 20000 in
theorem l1_X5_become {G : Gl} {d : Nat} {σ0 : Sg} {K : Option Value → Sg → Prop} {c c2 : Nat} (hT : TC c) (hT2 : TC c2) (hne : c ≠ c2) : ∀ (n i : Nat) (σ : Sg), i + n = 9 → BecI c c2 i 0 σ0 σ → (∀ υ, BecI c c2 9 0 σ0 υ → AW G d RX5 cX5_become 3 none 118 [(0, .ref (gA G c)), (1, .ref (gA G c2))] [] υ K) → AW G d RX5 cX5_become 3 none 58 [(0, .ref (gA G c)), (1, .ref (gA G c2)), (2, .int (iI (i : Int)))] [] σ K := by
  intro n
  induction n using Nat.strongRecOn
  rename_i n ih
  intro i σ hn hI hK
  have t1 : c = 14 ∨ c = 22 ∨ c = 30 := hT
  have t2 : c2 = 14 ∨ c2 = 22 ∨ c2 = 30 := hT2
  refine A_iload_n (pc := 58) dX5_become_58 rfl rfl ?_
  refine A_bipush (pc := 59) dX5_become_59 (by decide) ?_
  refine A_icmp_ge (pc := 61) 118 dX5_become_61 (by decide) (by omega) (by omega) (by omega) (by omega) (fun h61 => ?_) (fun h61 => ?_)
  · skip
    have hn0 : i = 9 := by omega
    subst hn0
    refine A_loc (l2 := [(0, _), (1, _)]) ⟨rfl, rfl, trivial⟩ ?_
    exact hK σ hI
  · skip
    refine A_aload_n (pc := 64) dX5_become_64 rfl rfl ?_
    refine A_getR (pc := 65) fX5_34 (shp_T hT) rfl dX5_become_65 ?_
    refine A_iload_n (pc := 68) dX5_become_68 rfl rfl ?_
    refine A_aload_n (pc := 69) dX5_become_69 rfl rfl ?_
    refine A_getR (pc := 70) fX5_34 (shp_T hT2) rfl dX5_become_70 ?_
    refine A_iload_n (pc := 73) dX5_become_73 rfl rfl ?_
    refine A_ialdv (pc := 74) _ (shp_T_paneKind hT2) rfl (by omega) (Nat.le_of_ble_eq_true rfl) (show _ = σ0.1 (c2 + 1) i from by exact hI.oth hT hT2 hne 1 i (by decide)) dX5_become_74 ?_
    refine A_iast (pc := 75) _ (shp_T_paneKind hT) rfl (by omega) (Nat.le_of_ble_eq_true rfl) dX5_become_75 ?_
    refine A_aload_n (pc := 76) dX5_become_76 rfl rfl ?_
    refine A_getR (pc := 77) fX5_38 (shp_T hT) rfl dX5_become_77 ?_
    refine A_iload_n (pc := 80) dX5_become_80 rfl rfl ?_
    refine A_aload_n (pc := 81) dX5_become_81 rfl rfl ?_
    refine A_getR (pc := 82) fX5_38 (shp_T hT2) rfl dX5_become_82 ?_
    refine A_iload_n (pc := 85) dX5_become_85 rfl rfl ?_
    refine A_ialdv (pc := 86) _ (shp_T_paneA hT2) rfl (by omega) (Nat.le_of_ble_eq_true rfl) (show _ = σ0.1 (c2 + 2) i from by rw [uI_at, if_neg (by omega)]; exact hI.oth hT hT2 hne 2 i (by decide)) dX5_become_86 ?_
    refine A_iast (pc := 87) _ (shp_T_paneA hT) rfl (by omega) (Nat.le_of_ble_eq_true rfl) dX5_become_87 ?_
    refine A_aload_n (pc := 88) dX5_become_88 rfl rfl ?_
    refine A_getR (pc := 89) fX5_41 (shp_T hT) rfl dX5_become_89 ?_
    refine A_iload_n (pc := 92) dX5_become_92 rfl rfl ?_
    refine A_aload_n (pc := 93) dX5_become_93 rfl rfl ?_
    refine A_getR (pc := 94) fX5_41 (shp_T hT2) rfl dX5_become_94 ?_
    refine A_iload_n (pc := 97) dX5_become_97 rfl rfl ?_
    refine A_ialdv (pc := 98) _ (shp_T_paneAt hT2) rfl (by omega) (Nat.le_of_ble_eq_true rfl) (show _ = σ0.1 (c2 + 3) i from by rw [uI_at, if_neg (by omega)]; rw [uI_at, if_neg (by omega)]; exact hI.oth hT hT2 hne 3 i (by decide)) dX5_become_98 ?_
    refine A_iast (pc := 99) _ (shp_T_paneAt hT) rfl (by omega) (Nat.le_of_ble_eq_true rfl) dX5_become_99 ?_
    refine A_aload_n (pc := 100) dX5_become_100 rfl rfl ?_
    refine A_getR (pc := 101) fX5_44 (shp_T hT) rfl dX5_become_101 ?_
    refine A_iload_n (pc := 104) dX5_become_104 rfl rfl ?_
    refine A_aload_n (pc := 105) dX5_become_105 rfl rfl ?_
    refine A_getR (pc := 106) fX5_44 (shp_T hT2) rfl dX5_become_106 ?_
    refine A_iload_n (pc := 109) dX5_become_109 rfl rfl ?_
    refine A_ialdv (pc := 110) _ (shp_T_paneOut hT2) rfl (by omega) (Nat.le_of_ble_eq_true rfl) (show _ = σ0.1 (c2 + 4) i from by rw [uI_at, if_neg (by omega)]; rw [uI_at, if_neg (by omega)]; rw [uI_at, if_neg (by omega)]; exact hI.oth hT hT2 hne 4 i (by decide)) dX5_become_110 ?_
    refine A_iast (pc := 111) _ (shp_T_paneOut hT) rfl (by omega) (Nat.le_of_ble_eq_true rfl) dX5_become_111 ?_
    refine A_iinc (pc := 112) dX5_become_112 rfl (Nat.le_of_ble_eq_true rfl) ?_
    refine A_goto (pc := 115) 58 dX5_become_115 (by decide) ?_
    obtain ⟨m, rfl⟩ : ∃ m, n = m + 1 := ⟨n - 1, by omega⟩
    refine A_loc (l2 := [(0, _), (1, _), (2, _)]) ⟨rfl, rfl, rfl, trivial⟩ ?_
    exact ih m (by omega) (i + 1) _ (by omega) hI.stepP hK
set_option maxRecDepth 20000 in
theorem c_X5_become {G : Gl} {d : Nat} {σ : Sg} {c c2 : Nat} (hT : TC c) (hT2 : TC c2) (hne : c ≠ c2) {τ : Tw} (hR : RX c2 τ σ) (hO : OkT τ) : CT G d yX5_become cX5_become 3 none [.ref (gA G c), .ref (gA G c2)] σ (RE none (fun υ => RX c τ υ ∧ Fr (TS c) σ υ)) := by
  refine CT.of (by decide +kernel) (Nat.le_of_ble_eq_true rfl) ?_
  change AW G _ RX5 _ _ _ 0 [(0, .ref (gA G c)), (1, .ref (gA G c2))] [] _ _
  have t1 : c = 14 ∨ c = 22 ∨ c = 30 := hT
  have t2 : c2 = 14 ∨ c2 = 22 ∨ c2 = 30 := hT2
  refine A_aload_n (pc := 0) dX5_become_0 rfl rfl ?_
  refine A_aload_n (pc := 1) dX5_become_1 rfl rfl ?_
  refine A_getL (pc := 2) fX5_9 (shp_T hT2) rfl dX5_become_2 ?_
  refine A_putL (pc := 5) fX5_9 wr_4_0 (shp_T hT) rfl dX5_become_5 ?_
  refine A_aload_n (pc := 8) dX5_become_8 rfl rfl ?_
  refine A_aload_n (pc := 9) dX5_become_9 rfl rfl ?_
  refine A_getIv (pc := 10) fX5_15 (shp_T hT2) rfl (show _ = σ.1 c2 1 from rfl) dX5_become_10 ?_
  refine A_putI (pc := 13) fX5_15 wr_4_1 (shp_T hT) rfl dX5_become_13 ?_
  refine A_aload_n (pc := 16) dX5_become_16 rfl rfl ?_
  refine A_aload_n (pc := 17) dX5_become_17 rfl rfl ?_
  refine A_getIv (pc := 18) fX5_19 (shp_T hT2) rfl (show _ = σ.1 c2 2 from by rw [uI_at, if_neg (by omega)]; rfl) dX5_become_18 ?_
  refine A_putI (pc := 21) fX5_19 wr_4_2 (shp_T hT) rfl dX5_become_21 ?_
  refine A_aload_n (pc := 24) dX5_become_24 rfl rfl ?_
  refine A_aload_n (pc := 25) dX5_become_25 rfl rfl ?_
  refine A_getIv (pc := 26) fX5_22 (shp_T hT2) rfl (show _ = σ.1 c2 3 from by rw [uI_at, if_neg (by omega), uI_at, if_neg (by omega)]; rfl) dX5_become_26 ?_
  refine A_putI (pc := 29) fX5_22 wr_4_3 (shp_T hT) rfl dX5_become_29 ?_
  refine A_aload_n (pc := 32) dX5_become_32 rfl rfl ?_
  refine A_aload_n (pc := 33) dX5_become_33 rfl rfl ?_
  refine A_getIv (pc := 34) fX5_25 (shp_T hT2) rfl (show _ = σ.1 c2 4 from by rw [uI_at, if_neg (by omega), uI_at, if_neg (by omega), uI_at, if_neg (by omega)]; rfl) dX5_become_34 ?_
  refine A_putI (pc := 37) fX5_25 wr_4_4 (shp_T hT) rfl dX5_become_37 ?_
  refine A_aload_n (pc := 40) dX5_become_40 rfl rfl ?_
  refine A_aload_n (pc := 41) dX5_become_41 rfl rfl ?_
  refine A_getIv (pc := 42) fX5_28 (shp_T hT2) rfl (show _ = σ.1 c2 5 from by rw [uI_at, if_neg (by omega), uI_at, if_neg (by omega), uI_at, if_neg (by omega), uI_at, if_neg (by omega)]; rfl) dX5_become_42 ?_
  refine A_putI (pc := 45) fX5_28 wr_4_5 (shp_T hT) rfl dX5_become_45 ?_
  refine A_aload_n (pc := 48) dX5_become_48 rfl rfl ?_
  refine A_aload_n (pc := 49) dX5_become_49 rfl rfl ?_
  refine A_getIv (pc := 50) fX5_31 (shp_T hT2) rfl (show _ = σ.1 c2 6 from by rw [uI_at, if_neg (by omega), uI_at, if_neg (by omega), uI_at, if_neg (by omega), uI_at, if_neg (by omega), uI_at, if_neg (by omega)]; rfl) dX5_become_50 ?_
  refine A_putI (pc := 53) fX5_31 wr_4_6 (shp_T hT) rfl dX5_become_53 ?_
  refine A_iconst (pc := 56) dX5_become_56 ?_
  refine A_istore_n (pc := 57) dX5_become_57 rfl (Nat.le_of_ble_eq_true rfl) ?_
  refine A_loc (l2 := [(0, _), (1, _), (2, _)]) ⟨rfl, rfl, rfl, trivial⟩ ?_
  refine l1_X5_become (σ0 := σ) hT hT2 hne 9 0 _ (by omega) ⟨((((((Fr.rf.uL (TSm 0 (by decide))).uI (TSm 0 (by decide))).uI (TSm 0 (by decide))).uI (TSm 0 (by decide))).uI (TSm 0 (by decide))).uI (TSm 0 (by decide))).uI (TSm 0 (by decide)), by simp [uI_2, uL_at], fun k hk => by
    have hh : k = 0 ∨ k = 1 ∨ k = 2 ∨ k = 3 ∨ k = 4 ∨ k = 5 := by omega
    rcases hh with rfl | rfl | rfl | rfl | rfl | rfl <;> simp [uI_at], fun j p hj hp => absurd hp (by omega), fun j p hj hp => absurd hp (by omega)⟩ ?_
  intro υ hυ
  refine A_iconst (pc := 118) dX5_become_118 ?_
  refine A_istore_n (pc := 119) dX5_become_119 rfl (Nat.le_of_ble_eq_true rfl) ?_
  refine A_loc (l2 := [(0, _), (1, _), (2, _)]) ⟨rfl, rfl, rfl, trivial⟩ ?_
  refine l2_X5_become (σ0 := σ) hT hT2 hne 5 0 υ (by omega) hυ ?_
  intro χ hχ
  exact ⟨rfl, hχ.RX hR hO, hχ.1⟩
/-- a shelf of the class at the cell c: what it holds, its size, its elements -/
def RS (c : Nat) (hd n : Int) (el : Nat → Int64) (σ : Sg) : Prop := σ.1 c 0 = hd ∧ σ.1 c 1 = n ∧ ∀ i, i < 160 → σ.2 (c + 1) i = el i
def OkH (hd n : Int) : Prop := -1 ≤ hd ∧ hd ≤ 103 ∧ 0 ≤ n ∧ n ≤ 160
/-- what an element of a row is, read as an int -/
def elI (n : Int) (el : Nat → Int64) (i : Int) : Int64 := if 0 ≤ i ∧ i < n then el i.toNat else 0
/-- the lowest bits of a sort of rows -/
def lowB (sort : Int) (v : Int64) : Int64 := if sort = 0 then (iI (iI v.toInt32.toInt).toInt8.toInt32.toInt).toInt64 else if sort = 1 then (iI (iI v.toInt32.toInt).toInt16.toInt32.toInt).toInt64 else if sort = 2 then (iI v.toInt32.toInt).toInt64 else v
def SS (c : Nat) : Nat → Prop := fun a => a = c ∨ a = c + 1
theorem dX3_isRow_0 : decode cX3_isRow 0 = .ok (.aload_n 0, 1) := by decide +kernel
theorem dX3_isRow_1 : decode cX3_isRow 1 = .ok (.getfield 9, 3) := by decide +kernel
theorem dX3_isRow_4 : decode cX3_isRow 4 = .ok (.bipush 100, 2) := by decide +kernel
theorem dX3_isRow_6 : decode cX3_isRow 6 = .ok (.if_icmp .lt 7, 3) := by decide +kernel
theorem dX3_isRow_9 : decode cX3_isRow 9 = .ok (.iconst 1, 1) := by decide +kernel
theorem dX3_isRow_10 : decode cX3_isRow 10 = .ok (.goto 4, 3) := by decide +kernel
theorem dX3_isRow_13 : decode cX3_isRow 13 = .ok (.iconst 0, 1) := by decide +kernel
theorem dX3_isRow_14 : decode cX3_isRow 14 = .ok (.ireturn, 1) := by decide +kernel
set_option maxRecDepth 20000 in
theorem c_X3_isRow {G : Gl} {d : Nat} {σ : Sg} {c : Nat} (hS : SC c) {hd n : Int} {el : Nat → Int64} (hR : RS c hd n el σ) (hO : OkH hd n)  : CT G d yX3_isRow cX3_isRow 1 (some .boolean) [.ref (gA G c)] σ (R1 (.int (iI (bI (100 ≤ hd)))) σ) := by
  refine CT.of (by decide +kernel) (Nat.le_of_ble_eq_true rfl) ?_
  change AW G _ RX3 _ _ _ 0 [(0, .ref (gA G c))] [] _ _
  have hR2 := hR
  have hO2 := hO
  obtain ⟨r0, r1, r2⟩ := hR2
  obtain ⟨o1, o2, o3, o4⟩ := hO2
  refine A_aload_n (pc := 0) dX3_isRow_0 rfl rfl ?_
  refine A_getIv (pc := 1) fX3_9 (shp_S hS) rfl r0 dX3_isRow_1 ?_
  refine A_bipush (pc := 4) dX3_isRow_4 (by decide) ?_
  refine A_icmp_lt (pc := 6) 13 dX3_isRow_6 (by decide) (by omega) (by omega) (by omega) (by omega) (fun h6 => ?_) (fun h6 => ?_)
  · skip
    refine A_iconst (pc := 13) dX3_isRow_13 ?_
    refine A_zret (pc := 14) rfl rfl dX3_isRow_14 ?_
    exact R1_f (by omega)
  · skip
    refine A_iconst (pc := 9) dX3_isRow_9 ?_
    refine A_goto (pc := 10) 14 dX3_isRow_10 (by decide) ?_
    refine A_zret (pc := 14) rfl rfl dX3_isRow_14 ?_
    exact R1_t (by omega)
theorem dX3_isPane_0 : decode cX3_isPane 0 = .ok (.aload_n 0, 1) := by decide +kernel
theorem dX3_isPane_1 : decode cX3_isPane 1 = .ok (.getfield 9, 3) := by decide +kernel
theorem dX3_isPane_4 : decode cX3_isPane 4 = .ok (.iconst (-1), 1) := by decide +kernel
theorem dX3_isPane_5 : decode cX3_isPane 5 = .ok (.if_icmp .eq 16, 3) := by decide +kernel
theorem dX3_isPane_8 : decode cX3_isPane 8 = .ok (.aload_n 0, 1) := by decide +kernel
theorem dX3_isPane_9 : decode cX3_isPane 9 = .ok (.getfield 9, 3) := by decide +kernel
theorem dX3_isPane_12 : decode cX3_isPane 12 = .ok (.bipush 100, 2) := by decide +kernel
theorem dX3_isPane_14 : decode cX3_isPane 14 = .ok (.if_icmp .ge 7, 3) := by decide +kernel
theorem dX3_isPane_17 : decode cX3_isPane 17 = .ok (.iconst 1, 1) := by decide +kernel
theorem dX3_isPane_18 : decode cX3_isPane 18 = .ok (.goto 4, 3) := by decide +kernel
theorem dX3_isPane_21 : decode cX3_isPane 21 = .ok (.iconst 0, 1) := by decide +kernel
theorem dX3_isPane_22 : decode cX3_isPane 22 = .ok (.ireturn, 1) := by decide +kernel
set_option maxRecDepth 20000 in
theorem c_X3_isPane {G : Gl} {d : Nat} {σ : Sg} {c : Nat} (hS : SC c) {hd n : Int} {el : Nat → Int64} (hR : RS c hd n el σ) (hO : OkH hd n)  : CT G d yX3_isPane cX3_isPane 1 (some .boolean) [.ref (gA G c)] σ (R1 (.int (iI (bI (0 ≤ hd ∧ hd < 100)))) σ) := by
  refine CT.of (by decide +kernel) (Nat.le_of_ble_eq_true rfl) ?_
  change AW G _ RX3 _ _ _ 0 [(0, .ref (gA G c))] [] _ _
  have hR2 := hR
  have hO2 := hO
  obtain ⟨r0, r1, r2⟩ := hR2
  obtain ⟨o1, o2, o3, o4⟩ := hO2
  refine A_aload_n (pc := 0) dX3_isPane_0 rfl rfl ?_
  refine A_getIv (pc := 1) fX3_9 (shp_S hS) rfl r0 dX3_isPane_1 ?_
  refine A_iconst (pc := 4) dX3_isPane_4 ?_
  refine A_icmp_eq (pc := 5) 21 dX3_isPane_5 (by decide) (by omega) (by omega) (by omega) (by omega) (fun h5 => ?_) (fun h5 => ?_)
  · skip
    refine A_iconst (pc := 21) dX3_isPane_21 ?_
    refine A_zret (pc := 22) rfl rfl dX3_isPane_22 ?_
    exact R1_f (by omega)
  · skip
    refine A_aload_n (pc := 8) dX3_isPane_8 rfl rfl ?_
    refine A_getIv (pc := 9) fX3_9 (shp_S hS) rfl r0 dX3_isPane_9 ?_
    refine A_bipush (pc := 12) dX3_isPane_12 (by decide) ?_
    refine A_icmp_ge (pc := 14) 21 dX3_isPane_14 (by decide) (by omega) (by omega) (by omega) (by omega) (fun h14 => ?_) (fun h14 => ?_)
    · skip
      refine A_iconst (pc := 21) dX3_isPane_21 ?_
      refine A_zret (pc := 22) rfl rfl dX3_isPane_22 ?_
      exact R1_f (by omega)
    · skip
      refine A_iconst (pc := 17) dX3_isPane_17 ?_
      refine A_goto (pc := 18) 22 dX3_isPane_18 (by decide) ?_
      refine A_zret (pc := 22) rfl rfl dX3_isPane_22 ?_
      exact R1_t (by omega)
theorem dX3_holdPane_0 : decode cX3_holdPane 0 = .ok (.aload_n 0, 1) := by decide +kernel
theorem dX3_holdPane_1 : decode cX3_holdPane 1 = .ok (.iload_n 1, 1) := by decide +kernel
theorem dX3_holdPane_2 : decode cX3_holdPane 2 = .ok (.putfield 9, 3) := by decide +kernel
theorem dX3_holdPane_5 : decode cX3_holdPane 5 = .ok (.aload_n 0, 1) := by decide +kernel
theorem dX3_holdPane_6 : decode cX3_holdPane 6 = .ok (.iconst 0, 1) := by decide +kernel
theorem dX3_holdPane_7 : decode cX3_holdPane 7 = .ok (.putfield 15, 3) := by decide +kernel
theorem dX3_holdPane_10 : decode cX3_holdPane 10 = .ok (.return_, 1) := by decide +kernel
set_option maxRecDepth 20000 in
theorem c_X3_holdPane {G : Gl} {d : Nat} {σ : Sg} {c : Nat} (hS : SC c) {p : Int} : CT G d yX3_holdPane cX3_holdPane 2 none [.ref (gA G c), .int (iI p)] σ (R0 (uI (uI σ c 0 p) c 1 0)) := by
  refine CT.of (by decide +kernel) (Nat.le_of_ble_eq_true rfl) ?_
  change AW G _ RX3 _ _ _ 0 [(0, .ref (gA G c)), (1, .int (iI p))] [] _ _
  refine A_aload_n (pc := 0) dX3_holdPane_0 rfl rfl ?_
  refine A_iload_n (pc := 1) dX3_holdPane_1 rfl rfl ?_
  refine A_putI (pc := 2) fX3_9 wr_2_0 (shp_S hS) rfl dX3_holdPane_2 ?_
  refine A_aload_n (pc := 5) dX3_holdPane_5 rfl rfl ?_
  refine A_iconst (pc := 6) dX3_holdPane_6 ?_
  refine A_putI (pc := 7) fX3_15 wr_2_1 (shp_S hS) rfl dX3_holdPane_7 ?_
  refine A_vret (pc := 10) rfl dX3_holdPane_10 ?_
  exact ⟨rfl, rfl⟩
theorem dX3_hasElement_0 : decode cX3_hasElement 0 = .ok (.iload_n 1, 1) := by decide +kernel
theorem dX3_hasElement_1 : decode cX3_hasElement 1 = .ok (.ifCond .lt 22, 3) := by decide +kernel
theorem dX3_hasElement_4 : decode cX3_hasElement 4 = .ok (.iload_n 1, 1) := by decide +kernel
theorem dX3_hasElement_5 : decode cX3_hasElement 5 = .ok (.aload_n 0, 1) := by decide +kernel
theorem dX3_hasElement_6 : decode cX3_hasElement 6 = .ok (.getfield 15, 3) := by decide +kernel
theorem dX3_hasElement_9 : decode cX3_hasElement 9 = .ok (.if_icmp .ge 14, 3) := by decide +kernel
theorem dX3_hasElement_12 : decode cX3_hasElement 12 = .ok (.iload_n 1, 1) := by decide +kernel
theorem dX3_hasElement_13 : decode cX3_hasElement 13 = .ok (.sipush 160, 3) := by decide +kernel
theorem dX3_hasElement_16 : decode cX3_hasElement 16 = .ok (.if_icmp .ge 7, 3) := by decide +kernel
theorem dX3_hasElement_19 : decode cX3_hasElement 19 = .ok (.iconst 1, 1) := by decide +kernel
theorem dX3_hasElement_20 : decode cX3_hasElement 20 = .ok (.goto 4, 3) := by decide +kernel
theorem dX3_hasElement_23 : decode cX3_hasElement 23 = .ok (.iconst 0, 1) := by decide +kernel
theorem dX3_hasElement_24 : decode cX3_hasElement 24 = .ok (.ireturn, 1) := by decide +kernel
set_option maxRecDepth 20000 in
theorem c_X3_hasElement {G : Gl} {d : Nat} {σ : Sg} {c : Nat} (hS : SC c) {hd n : Int} {el : Nat → Int64} (hR : RS c hd n el σ) (hO : OkH hd n) {i : Int} (hi1 : -2147483648 ≤ i) (hi2 : i < 2147483648) : CT G d yX3_hasElement cX3_hasElement 2 (some .boolean) [.ref (gA G c), .int (iI i)] σ (R1 (.int (iI (bI (0 ≤ i ∧ i < n)))) σ) := by
  refine CT.of (by decide +kernel) (Nat.le_of_ble_eq_true rfl) ?_
  change AW G _ RX3 _ _ _ 0 [(0, .ref (gA G c)), (1, .int (iI i))] [] _ _
  have hR2 := hR
  have hO2 := hO
  obtain ⟨r0, r1, r2⟩ := hR2
  obtain ⟨o1, o2, o3, o4⟩ := hO2
  refine A_iload_n (pc := 0) dX3_hasElement_0 rfl rfl ?_
  refine A_if_lt (pc := 1) 23 dX3_hasElement_1 (by decide) (by omega) (by omega) (fun h1 => ?_) (fun h1 => ?_)
  · skip
    refine A_iconst (pc := 23) dX3_hasElement_23 ?_
    refine A_zret (pc := 24) rfl rfl dX3_hasElement_24 ?_
    exact R1_f (by omega)
  · skip
    refine A_iload_n (pc := 4) dX3_hasElement_4 rfl rfl ?_
    refine A_aload_n (pc := 5) dX3_hasElement_5 rfl rfl ?_
    refine A_getIv (pc := 6) fX3_15 (shp_S hS) rfl r1 dX3_hasElement_6 ?_
    refine A_icmp_ge (pc := 9) 23 dX3_hasElement_9 (by decide) (by omega) (by omega) (by omega) (by omega) (fun h9 => ?_) (fun h9 => ?_)
    · skip
      refine A_iconst (pc := 23) dX3_hasElement_23 ?_
      refine A_zret (pc := 24) rfl rfl dX3_hasElement_24 ?_
      exact R1_f (by omega)
    · skip
      refine A_iload_n (pc := 12) dX3_hasElement_12 rfl rfl ?_
      refine A_sipush (pc := 13) dX3_hasElement_13 (by decide) ?_
      refine A_icmp_ge (pc := 16) 23 dX3_hasElement_16 (by decide) (by omega) (by omega) (by omega) (by omega) (fun h16 => ?_) (fun h16 => ?_)
      · skip
        refine A_iconst (pc := 23) dX3_hasElement_23 ?_
        refine A_zret (pc := 24) rfl rfl dX3_hasElement_24 ?_
        exact R1_f (by omega)
      · skip
        refine A_iconst (pc := 19) dX3_hasElement_19 ?_
        refine A_goto (pc := 20) 24 dX3_hasElement_20 (by decide) ?_
        refine A_zret (pc := 24) rfl rfl dX3_hasElement_24 ?_
        exact R1_t (by omega)
theorem dX3_hasElements_0 : decode cX3_hasElements 0 = .ok (.iload_n 1, 1) := by decide +kernel
theorem dX3_hasElements_1 : decode cX3_hasElements 1 = .ok (.ifCond .lt 29, 3) := by decide +kernel
theorem dX3_hasElements_4 : decode cX3_hasElements 4 = .ok (.iload_n 1, 1) := by decide +kernel
theorem dX3_hasElements_5 : decode cX3_hasElements 5 = .ok (.aload_n 0, 1) := by decide +kernel
theorem dX3_hasElements_6 : decode cX3_hasElements 6 = .ok (.getfield 15, 3) := by decide +kernel
theorem dX3_hasElements_9 : decode cX3_hasElements 9 = .ok (.if_icmp .gt 21, 3) := by decide +kernel
theorem dX3_hasElements_12 : decode cX3_hasElements 12 = .ok (.iload_n 2, 1) := by decide +kernel
theorem dX3_hasElements_13 : decode cX3_hasElements 13 = .ok (.ifCond .lt 17, 3) := by decide +kernel
theorem dX3_hasElements_16 : decode cX3_hasElements 16 = .ok (.iload_n 2, 1) := by decide +kernel
theorem dX3_hasElements_17 : decode cX3_hasElements 17 = .ok (.aload_n 0, 1) := by decide +kernel
theorem dX3_hasElements_18 : decode cX3_hasElements 18 = .ok (.getfield 15, 3) := by decide +kernel
theorem dX3_hasElements_21 : decode cX3_hasElements 21 = .ok (.iload_n 1, 1) := by decide +kernel
theorem dX3_hasElements_22 : decode cX3_hasElements 22 = .ok (.isub, 1) := by decide +kernel
theorem dX3_hasElements_23 : decode cX3_hasElements 23 = .ok (.if_icmp .gt 7, 3) := by decide +kernel
theorem dX3_hasElements_26 : decode cX3_hasElements 26 = .ok (.iconst 1, 1) := by decide +kernel
theorem dX3_hasElements_27 : decode cX3_hasElements 27 = .ok (.goto 4, 3) := by decide +kernel
theorem dX3_hasElements_30 : decode cX3_hasElements 30 = .ok (.iconst 0, 1) := by decide +kernel
theorem dX3_hasElements_31 : decode cX3_hasElements 31 = .ok (.ireturn, 1) := by decide +kernel
set_option maxRecDepth 20000 in
theorem c_X3_hasElements {G : Gl} {d : Nat} {σ : Sg} {c : Nat} (hS : SC c) {hd n : Int} {el : Nat → Int64} (hR : RS c hd n el σ) (hO : OkH hd n) {i : Int} (hi1 : -2147483648 ≤ i) (hi2 : i < 2147483648) {k : Int} (hk1 : -2147483648 ≤ k) (hk2 : k < 2147483648) : CT G d yX3_hasElements cX3_hasElements 3 (some .boolean) [.ref (gA G c), .int (iI i), .int (iI k)] σ (R1 (.int (iI (bI (0 ≤ i ∧ 0 ≤ k ∧ i + k ≤ n)))) σ) := by
  refine CT.of (by decide +kernel) (Nat.le_of_ble_eq_true rfl) ?_
  change AW G _ RX3 _ _ _ 0 [(0, .ref (gA G c)), (1, .int (iI i)), (2, .int (iI k))] [] _ _
  have hR2 := hR
  have hO2 := hO
  obtain ⟨r0, r1, r2⟩ := hR2
  obtain ⟨o1, o2, o3, o4⟩ := hO2
  refine A_iload_n (pc := 0) dX3_hasElements_0 rfl rfl ?_
  refine A_if_lt (pc := 1) 30 dX3_hasElements_1 (by decide) (by omega) (by omega) (fun h1 => ?_) (fun h1 => ?_)
  · skip
    refine A_iconst (pc := 30) dX3_hasElements_30 ?_
    refine A_zret (pc := 31) rfl rfl dX3_hasElements_31 ?_
    exact R1_f (by omega)
  · skip
    refine A_iload_n (pc := 4) dX3_hasElements_4 rfl rfl ?_
    refine A_aload_n (pc := 5) dX3_hasElements_5 rfl rfl ?_
    refine A_getIv (pc := 6) fX3_15 (shp_S hS) rfl r1 dX3_hasElements_6 ?_
    refine A_icmp_gt (pc := 9) 30 dX3_hasElements_9 (by decide) (by omega) (by omega) (by omega) (by omega) (fun h9 => ?_) (fun h9 => ?_)
    · skip
      refine A_iconst (pc := 30) dX3_hasElements_30 ?_
      refine A_zret (pc := 31) rfl rfl dX3_hasElements_31 ?_
      exact R1_f (by omega)
    · skip
      refine A_iload_n (pc := 12) dX3_hasElements_12 rfl rfl ?_
      refine A_if_lt (pc := 13) 30 dX3_hasElements_13 (by decide) (by omega) (by omega) (fun h13 => ?_) (fun h13 => ?_)
      · skip
        refine A_iconst (pc := 30) dX3_hasElements_30 ?_
        refine A_zret (pc := 31) rfl rfl dX3_hasElements_31 ?_
        exact R1_f (by omega)
      · skip
        refine A_iload_n (pc := 16) dX3_hasElements_16 rfl rfl ?_
        refine A_aload_n (pc := 17) dX3_hasElements_17 rfl rfl ?_
        refine A_getIv (pc := 18) fX3_15 (shp_S hS) rfl r1 dX3_hasElements_18 ?_
        refine A_iload_n (pc := 21) dX3_hasElements_21 rfl rfl ?_
        refine A_isub (pc := 22) dX3_hasElements_22 ?_
        refine A_icmp_gt (pc := 23) 30 dX3_hasElements_23 (by decide) (by omega) (by omega) (by omega) (by omega) (fun h23 => ?_) (fun h23 => ?_)
        · skip
          refine A_iconst (pc := 30) dX3_hasElements_30 ?_
          refine A_zret (pc := 31) rfl rfl dX3_hasElements_31 ?_
          exact R1_f (by omega)
        · skip
          refine A_iconst (pc := 26) dX3_hasElements_26 ?_
          refine A_goto (pc := 27) 31 dX3_hasElements_27 (by decide) ?_
          refine A_zret (pc := 31) rfl rfl dX3_hasElements_31 ?_
          exact R1_t (by omega)
theorem dX3_longAt_0 : decode cX3_longAt 0 = .ok (.aload_n 0, 1) := by decide +kernel
theorem dX3_longAt_1 : decode cX3_longAt 1 = .ok (.iload_n 1, 1) := by decide +kernel
theorem dX3_longAt_2 : decode cX3_longAt 2 = .ok (.invokevirtual 22, 3) := by decide +kernel
theorem dX3_longAt_5 : decode cX3_longAt 5 = .ok (.ifCond .eq 12, 3) := by decide +kernel
theorem dX3_longAt_8 : decode cX3_longAt 8 = .ok (.aload_n 0, 1) := by decide +kernel
theorem dX3_longAt_9 : decode cX3_longAt 9 = .ok (.getfield 18, 3) := by decide +kernel
theorem dX3_longAt_12 : decode cX3_longAt 12 = .ok (.iload_n 1, 1) := by decide +kernel
theorem dX3_longAt_13 : decode cX3_longAt 13 = .ok (.laload, 1) := by decide +kernel
theorem dX3_longAt_14 : decode cX3_longAt 14 = .ok (.goto 4, 3) := by decide +kernel
theorem dX3_longAt_17 : decode cX3_longAt 17 = .ok (.lconst 0, 1) := by decide +kernel
theorem dX3_longAt_18 : decode cX3_longAt 18 = .ok (.lreturn, 1) := by decide +kernel
set_option maxRecDepth 20000 in
theorem c_X3_longAt {G : Gl} {d : Nat} {σ : Sg} {c : Nat} (hS : SC c) {hd n : Int} {el : Nat → Int64} (hR : RS c hd n el σ) (hO : OkH hd n) {i : Int} (hi1 : -2147483648 ≤ i) (hi2 : i < 2147483648) : CT G (d + 1) yX3_longAt cX3_longAt 2 (some .long) [.ref (gA G c), .int (iI i)] σ (R1 (.long (elI n el i)) σ) := by
  refine CT.of (by decide +kernel) (Nat.le_of_ble_eq_true rfl) ?_
  change AW G _ RX3 _ _ _ 0 [(0, .ref (gA G c)), (1, .int (iI i))] [] _ _
  have hR2 := hR
  have hO2 := hO
  obtain ⟨r0, r1, r2⟩ := hR2
  obtain ⟨o1, o2, o3, o4⟩ := hO2
  refine A_aload_n (pc := 0) dX3_longAt_0 rfl rfl ?_
  refine A_iload_n (pc := 1) dX3_longAt_1 rfl rfl ?_
  refine A_callV1 (pc := 2) kX3_22 (shp_S hS) rfl (c_X3_hasElement hS hR hO hi1 hi2) dX3_longAt_2 rfl rfl (Nat.le_of_ble_eq_true rfl) (Nat.le_of_ble_eq_true rfl) ?_
  refine A_ifb_eq (pc := 5) 17 dX3_longAt_5 (by decide) (fun h5 => ?_) (fun h5 => ?_)
  · skip
    refine A_lconst (pc := 17) 0 dX3_longAt_17 rfl ?_
    refine A_lret (pc := 18) rfl dX3_longAt_18 ?_
    exact ⟨by rw [elI, if_neg h5], rfl⟩
  · skip
    obtain ⟨k, rfl⟩ := Int.eq_ofNat_of_zero_le h5.1
    refine A_aload_n (pc := 8) dX3_longAt_8 rfl rfl ?_
    refine A_getR (pc := 9) fX3_18 (shp_S hS) rfl dX3_longAt_9 ?_
    refine A_iload_n (pc := 12) dX3_longAt_12 rfl rfl ?_
    refine A_laldv (pc := 13) _ (shp_S_elements hS) rfl (by omega) (Nat.le_of_ble_eq_true rfl) (r2 _ (by omega)) dX3_longAt_13 ?_
    refine A_goto (pc := 14) 18 dX3_longAt_14 (by decide) ?_
    refine A_lret (pc := 18) rfl dX3_longAt_18 ?_
    exact ⟨by rw [elI, if_pos h5]; rfl, rfl⟩
theorem dX3_intAt_0 : decode cX3_intAt 0 = .ok (.aload_n 0, 1) := by decide +kernel
theorem dX3_intAt_1 : decode cX3_intAt 1 = .ok (.iload_n 1, 1) := by decide +kernel
theorem dX3_intAt_2 : decode cX3_intAt 2 = .ok (.invokevirtual 26, 3) := by decide +kernel
theorem dX3_intAt_5 : decode cX3_intAt 5 = .ok (.l2i, 1) := by decide +kernel
theorem dX3_intAt_6 : decode cX3_intAt 6 = .ok (.ireturn, 1) := by decide +kernel
set_option maxRecDepth 20000 in
theorem c_X3_intAt {G : Gl} {d : Nat} {σ : Sg} {c : Nat} (hS : SC c) {hd n : Int} {el : Nat → Int64} (hR : RS c hd n el σ) (hO : OkH hd n) {i : Int} (hi1 : -2147483648 ≤ i) (hi2 : i < 2147483648) : CT G (d + 2) yX3_intAt cX3_intAt 2 (some .int) [.ref (gA G c), .int (iI i)] σ (R1 (.int (iI (elI n el i).toInt32.toInt)) σ) := by
  refine CT.of (by decide +kernel) (Nat.le_of_ble_eq_true rfl) ?_
  change AW G _ RX3 _ _ _ 0 [(0, .ref (gA G c)), (1, .int (iI i))] [] _ _
  have hR2 := hR
  have hO2 := hO
  obtain ⟨r0, r1, r2⟩ := hR2
  obtain ⟨o1, o2, o3, o4⟩ := hO2
  refine A_aload_n (pc := 0) dX3_intAt_0 rfl rfl ?_
  refine A_iload_n (pc := 1) dX3_intAt_1 rfl rfl ?_
  refine A_callV1 (pc := 2) kX3_26 (shp_S hS) rfl (c_X3_longAt hS hR hO hi1 hi2) dX3_intAt_2 rfl rfl (Nat.le_of_ble_eq_true rfl) (Nat.le_of_ble_eq_true rfl) ?_
  refine A_l2i (pc := 5) dX3_intAt_5 ?_
  refine A_iret (pc := 6) rfl dX3_intAt_6 ?_
  exact ⟨rfl, rfl⟩
theorem dX3_lowestBits_0 : decode cX3_lowestBits 0 = .ok (.aload_n 0, 1) := by decide +kernel
theorem dX3_lowestBits_1 : decode cX3_lowestBits 1 = .ok (.getfield 9, 3) := by decide +kernel
theorem dX3_lowestBits_4 : decode cX3_lowestBits 4 = .ok (.bipush 100, 2) := by decide +kernel
theorem dX3_lowestBits_6 : decode cX3_lowestBits 6 = .ok (.isub, 1) := by decide +kernel
theorem dX3_lowestBits_7 : decode cX3_lowestBits 7 = .ok (.tableswitch 39 0 2 #[25, 30, 35], 25) := by decide +kernel
theorem dX3_lowestBits_32 : decode cX3_lowestBits 32 = .ok (.lload_n 1, 1) := by decide +kernel
theorem dX3_lowestBits_33 : decode cX3_lowestBits 33 = .ok (.l2i, 1) := by decide +kernel
theorem dX3_lowestBits_34 : decode cX3_lowestBits 34 = .ok (.i2b, 1) := by decide +kernel
theorem dX3_lowestBits_35 : decode cX3_lowestBits 35 = .ok (.i2l, 1) := by decide +kernel
theorem dX3_lowestBits_36 : decode cX3_lowestBits 36 = .ok (.lreturn, 1) := by decide +kernel
theorem dX3_lowestBits_37 : decode cX3_lowestBits 37 = .ok (.lload_n 1, 1) := by decide +kernel
theorem dX3_lowestBits_38 : decode cX3_lowestBits 38 = .ok (.l2i, 1) := by decide +kernel
theorem dX3_lowestBits_39 : decode cX3_lowestBits 39 = .ok (.i2s, 1) := by decide +kernel
theorem dX3_lowestBits_40 : decode cX3_lowestBits 40 = .ok (.i2l, 1) := by decide +kernel
theorem dX3_lowestBits_41 : decode cX3_lowestBits 41 = .ok (.lreturn, 1) := by decide +kernel
theorem dX3_lowestBits_42 : decode cX3_lowestBits 42 = .ok (.lload_n 1, 1) := by decide +kernel
theorem dX3_lowestBits_43 : decode cX3_lowestBits 43 = .ok (.l2i, 1) := by decide +kernel
theorem dX3_lowestBits_44 : decode cX3_lowestBits 44 = .ok (.i2l, 1) := by decide +kernel
theorem dX3_lowestBits_45 : decode cX3_lowestBits 45 = .ok (.lreturn, 1) := by decide +kernel
theorem dX3_lowestBits_46 : decode cX3_lowestBits 46 = .ok (.lload_n 1, 1) := by decide +kernel
theorem dX3_lowestBits_47 : decode cX3_lowestBits 47 = .ok (.lreturn, 1) := by decide +kernel
set_option maxRecDepth 20000 in
theorem c_X3_lowestBits {G : Gl} {d : Nat} {σ : Sg} {c : Nat} (hS : SC c) {hd n : Int} {el : Nat → Int64} (hR : RS c hd n el σ) (hO : OkH hd n) {v : Int64} (hrow : 100 ≤ hd) : CT G d yX3_lowestBits cX3_lowestBits 3 (some .long) [.ref (gA G c), .long (v)] σ (R1 (.long (lowB (hd - 100) v)) σ) := by
  refine CT.of (by decide +kernel) (Nat.le_of_ble_eq_true rfl) ?_
  change AW G _ RX3 _ _ _ 0 [(0, .ref (gA G c)), (1, .long (v))] [] _ _
  have hR2 := hR
  have hO2 := hO
  obtain ⟨r0, r1, r2⟩ := hR2
  obtain ⟨o1, o2, o3, o4⟩ := hO2
  refine A_aload_n (pc := 0) dX3_lowestBits_0 rfl rfl ?_
  refine A_getIv (pc := 1) fX3_9 (shp_S hS) rfl r0 dX3_lowestBits_1 ?_
  refine A_bipush (pc := 4) dX3_lowestBits_4 (by decide) ?_
  refine A_isub (pc := 6) dX3_lowestBits_6 ?_
  refine A_tsw (pc := 7) [(0, 32), (1, 37), (2, 42)] 46 dX3_lowestBits_7 (by decide) (by decide) (by decide) (by omega) (by omega) ?_
  refine ⟨fun h7 => ?_, fun h7n0 => ?_⟩
  · skip
    refine A_lload_n (pc := 32) dX3_lowestBits_32 rfl rfl ?_
    refine A_l2i (pc := 33) dX3_lowestBits_33 ?_
    refine A_i2b (pc := 34) dX3_lowestBits_34 ?_
    refine A_i2l (pc := 35) dX3_lowestBits_35 ?_
    refine A_lret (pc := 36) rfl dX3_lowestBits_36 ?_
    exact ⟨by rw [lowB, if_pos h7], rfl⟩
  refine ⟨fun h7 => ?_, fun h7n1 => ?_⟩
  · skip
    refine A_lload_n (pc := 37) dX3_lowestBits_37 rfl rfl ?_
    refine A_l2i (pc := 38) dX3_lowestBits_38 ?_
    refine A_i2s (pc := 39) dX3_lowestBits_39 ?_
    refine A_i2l (pc := 40) dX3_lowestBits_40 ?_
    refine A_lret (pc := 41) rfl dX3_lowestBits_41 ?_
    exact ⟨by rw [lowB, if_neg (by omega), if_pos h7], rfl⟩
  refine ⟨fun h7 => ?_, fun h7n2 => ?_⟩
  · skip
    refine A_lload_n (pc := 42) dX3_lowestBits_42 rfl rfl ?_
    refine A_l2i (pc := 43) dX3_lowestBits_43 ?_
    refine A_i2l (pc := 44) dX3_lowestBits_44 ?_
    refine A_lret (pc := 45) rfl dX3_lowestBits_45 ?_
    exact ⟨by rw [lowB, if_neg (by omega), if_neg (by omega), if_pos h7], rfl⟩
  change AW G _ _ _ _ _ 46 _ _ _ _
  refine A_lload_n (pc := 46) dX3_lowestBits_46 rfl rfl ?_
  refine A_lret (pc := 47) rfl dX3_lowestBits_47 ?_
  exact ⟨by rw [lowB, if_neg (by omega), if_neg (by omega), if_neg (by omega)], rfl⟩
theorem dX3_keep_0 : decode cX3_keep 0 = .ok (.aload_n 0, 1) := by decide +kernel
theorem dX3_keep_1 : decode cX3_keep 1 = .ok (.iload_n 1, 1) := by decide +kernel
theorem dX3_keep_2 : decode cX3_keep 2 = .ok (.invokevirtual 22, 3) := by decide +kernel
theorem dX3_keep_5 : decode cX3_keep 5 = .ok (.ifCond .eq 14, 3) := by decide +kernel
theorem dX3_keep_8 : decode cX3_keep 8 = .ok (.aload_n 0, 1) := by decide +kernel
theorem dX3_keep_9 : decode cX3_keep 9 = .ok (.getfield 18, 3) := by decide +kernel
theorem dX3_keep_12 : decode cX3_keep 12 = .ok (.iload_n 1, 1) := by decide +kernel
theorem dX3_keep_13 : decode cX3_keep 13 = .ok (.aload_n 0, 1) := by decide +kernel
theorem dX3_keep_14 : decode cX3_keep 14 = .ok (.lload_n 2, 1) := by decide +kernel
theorem dX3_keep_15 : decode cX3_keep 15 = .ok (.invokevirtual 30, 3) := by decide +kernel
theorem dX3_keep_18 : decode cX3_keep 18 = .ok (.lastore, 1) := by decide +kernel
theorem dX3_keep_19 : decode cX3_keep 19 = .ok (.return_, 1) := by decide +kernel
set_option maxRecDepth 20000 in
theorem c_X3_keep {G : Gl} {d : Nat} {σ : Sg} {c : Nat} (hS : SC c) {hd n : Int} {el : Nat → Int64} (hR : RS c hd n el σ) (hO : OkH hd n) {k : Nat} (hk : (k : Int) < n) {v : Int64} (hrow : 100 ≤ hd) : CT G (d + 1) yX3_keep cX3_keep 4 none [.ref (gA G c), .int (iI (k : Int)), .long (v)] σ (R0 (uL σ (c + 1) k (lowB (hd - 100) v))) := by
  refine CT.of (by decide +kernel) (Nat.le_of_ble_eq_true rfl) ?_
  change AW G _ RX3 _ _ _ 0 [(0, .ref (gA G c)), (1, .int (iI (k : Int))), (2, .long (v))] [] _ _
  have hR2 := hR
  have hO2 := hO
  obtain ⟨r0, r1, r2⟩ := hR2
  obtain ⟨o1, o2, o3, o4⟩ := hO2
  refine A_aload_n (pc := 0) dX3_keep_0 rfl rfl ?_
  refine A_iload_n (pc := 1) dX3_keep_1 rfl rfl ?_
  refine A_callV1 (pc := 2) kX3_22 (shp_S hS) rfl (c_X3_hasElement hS hR hO (by omega) (by omega)) dX3_keep_2 rfl rfl (Nat.le_of_ble_eq_true rfl) (Nat.le_of_ble_eq_true rfl) ?_
  refine A_ifb_eq (pc := 5) 19 dX3_keep_5 (by decide) (fun h5 => ?_) (fun h5 => ?_)
  · skip
    refine A_vret (pc := 19) rfl dX3_keep_19 ?_
    exfalso; omega
  · skip
    refine A_aload_n (pc := 8) dX3_keep_8 rfl rfl ?_
    refine A_getR (pc := 9) fX3_18 (shp_S hS) rfl dX3_keep_9 ?_
    refine A_iload_n (pc := 12) dX3_keep_12 rfl rfl ?_
    refine A_aload_n (pc := 13) dX3_keep_13 rfl rfl ?_
    refine A_lload_n (pc := 14) dX3_keep_14 rfl rfl ?_
    refine A_callV1 (pc := 15) kX3_30 (shp_S hS) rfl (c_X3_lowestBits hS hR hO hrow) dX3_keep_15 rfl rfl (Nat.le_of_ble_eq_true rfl) (Nat.le_of_ble_eq_true rfl) ?_
    refine A_last (pc := 18) _ (shp_S_elements hS) rfl (by omega) (Nat.le_of_ble_eq_true rfl) dX3_keep_18 ?_
    refine A_vret (pc := 19) rfl dX3_keep_19 ?_
    exact ⟨rfl, rfl⟩
theorem dX3_holdRow_0 : decode cX3_holdRow 0 = .ok (.aload_n 0, 1) := by decide +kernel
theorem dX3_holdRow_1 : decode cX3_holdRow 1 = .ok (.bipush 100, 2) := by decide +kernel
theorem dX3_holdRow_3 : decode cX3_holdRow 3 = .ok (.iload_n 1, 1) := by decide +kernel
theorem dX3_holdRow_4 : decode cX3_holdRow 4 = .ok (.iadd, 1) := by decide +kernel
theorem dX3_holdRow_5 : decode cX3_holdRow 5 = .ok (.putfield 9, 3) := by decide +kernel
theorem dX3_holdRow_8 : decode cX3_holdRow 8 = .ok (.aload_n 0, 1) := by decide +kernel
theorem dX3_holdRow_9 : decode cX3_holdRow 9 = .ok (.iload_n 2, 1) := by decide +kernel
theorem dX3_holdRow_10 : decode cX3_holdRow 10 = .ok (.putfield 15, 3) := by decide +kernel
theorem dX3_holdRow_13 : decode cX3_holdRow 13 = .ok (.iconst 0, 1) := by decide +kernel
theorem dX3_holdRow_14 : decode cX3_holdRow 14 = .ok (.istore_n 3, 1) := by decide +kernel
theorem dX3_holdRow_15 : decode cX3_holdRow 15 = .ok (.iload_n 3, 1) := by decide +kernel
theorem dX3_holdRow_16 : decode cX3_holdRow 16 = .ok (.sipush 160, 3) := by decide +kernel
theorem dX3_holdRow_19 : decode cX3_holdRow 19 = .ok (.if_icmp .ge 16, 3) := by decide +kernel
theorem dX3_holdRow_22 : decode cX3_holdRow 22 = .ok (.aload_n 0, 1) := by decide +kernel
theorem dX3_holdRow_23 : decode cX3_holdRow 23 = .ok (.getfield 18, 3) := by decide +kernel
theorem dX3_holdRow_26 : decode cX3_holdRow 26 = .ok (.iload_n 3, 1) := by decide +kernel
theorem dX3_holdRow_27 : decode cX3_holdRow 27 = .ok (.lconst 0, 1) := by decide +kernel
theorem dX3_holdRow_28 : decode cX3_holdRow 28 = .ok (.lastore, 1) := by decide +kernel
theorem dX3_holdRow_29 : decode cX3_holdRow 29 = .ok (.iinc 3 1, 3) := by decide +kernel
theorem dX3_holdRow_32 : decode cX3_holdRow 32 = .ok (.goto (-17), 3) := by decide +kernel
theorem dX3_holdRow_35 : decode cX3_holdRow 35 = .ok (.return_, 1) := by decide +kernel
set_option maxRecDepth 20000 in
theorem l_X3_holdRow {G : Gl} {d : Nat} {σ0 : Sg} {K : Option Value → Sg → Prop} {c : Nat} (hS : SC c) : ∀ (n i : Nat) (σ : Sg), i + n = 160 → Fr (SS c) σ0 σ → σ.1 = σ0.1 → (∀ j, j < i → σ.2 (c + 1) j = 0) → (∀ υ, Fr (SS c) σ0 υ → υ.1 = σ0.1 → (∀ j, j < 160 → υ.2 (c + 1) j = 0) → K none υ) → AW G d RX3 cX3_holdRow 4 none 15 [(0, .ref (gA G c)), (3, .int (iI (i : Int)))] [] σ K := by
  intro n
  induction n using Nat.strongRecOn
  rename_i n ih
  intro i σ hn hF he hz hK
  refine A_iload_n (pc := 15) dX3_holdRow_15 rfl rfl ?_
  refine A_sipush (pc := 16) dX3_holdRow_16 (by decide) ?_
  refine A_icmp_ge (pc := 19) 35 dX3_holdRow_19 (by decide) (by omega) (by omega) (by omega) (by omega) (fun h19 => ?_) (fun h19 => ?_)
  · skip
    refine A_vret (pc := 35) rfl dX3_holdRow_35 ?_
    exact hK σ hF he (fun j hj => hz j (by omega))
  · skip
    refine A_aload_n (pc := 22) dX3_holdRow_22 rfl rfl ?_
    refine A_getR (pc := 23) fX3_18 (shp_S hS) rfl dX3_holdRow_23 ?_
    refine A_iload_n (pc := 26) dX3_holdRow_26 rfl rfl ?_
    refine A_lconst (pc := 27) 0 dX3_holdRow_27 rfl ?_
    refine A_last (pc := 28) _ (shp_S_elements hS) rfl (by omega) (Nat.le_of_ble_eq_true rfl) dX3_holdRow_28 ?_
    refine A_iinc (pc := 29) dX3_holdRow_29 rfl (Nat.le_of_ble_eq_true rfl) ?_
    refine A_goto (pc := 32) 15 dX3_holdRow_32 (by decide) ?_
    obtain ⟨m, rfl⟩ : ∃ m, n = m + 1 := ⟨n - 1, by omega⟩
    refine A_loc (l2 := [(0, _), (3, _)]) ⟨rfl, rfl, trivial⟩ ?_
    refine ih m (by omega) (i + 1) _ (by omega) (hF.uL (Or.inr rfl)) he (fun j hj => ?_) hK
    rw [uL_at]
    by_cases e : j = i
    · rw [if_pos ⟨rfl, e⟩]
    · rw [if_neg (fun q => e q.2)]; exact hz j (by omega)
set_option maxRecDepth 20000 in
theorem c_X3_holdRow {G : Gl} {d : Nat} {σ : Sg} {c : Nat} (hS : SC c) {sort n : Int} : CT G d yX3_holdRow cX3_holdRow 4 none [.ref (gA G c), .int (iI sort), .int (iI n)] σ (RE none (fun υ => RS c (100 + sort) n (fun _ => 0) υ ∧ Fr (SS c) σ υ)) := by
  refine CT.of (by decide +kernel) (Nat.le_of_ble_eq_true rfl) ?_
  change AW G _ RX3 _ _ _ 0 [(0, .ref (gA G c)), (1, .int (iI sort)), (2, .int (iI n))] [] _ _
  refine A_aload_n (pc := 0) dX3_holdRow_0 rfl rfl ?_
  refine A_bipush (pc := 1) dX3_holdRow_1 (by decide) ?_
  refine A_iload_n (pc := 3) dX3_holdRow_3 rfl rfl ?_
  refine A_iadd (pc := 4) dX3_holdRow_4 ?_
  refine A_putI (pc := 5) fX3_9 wr_2_0 (shp_S hS) rfl dX3_holdRow_5 ?_
  refine A_aload_n (pc := 8) dX3_holdRow_8 rfl rfl ?_
  refine A_iload_n (pc := 9) dX3_holdRow_9 rfl rfl ?_
  refine A_putI (pc := 10) fX3_15 wr_2_1 (shp_S hS) rfl dX3_holdRow_10 ?_
  refine A_iconst (pc := 13) dX3_holdRow_13 ?_
  refine A_istore_n (pc := 14) dX3_holdRow_14 rfl (Nat.le_of_ble_eq_true rfl) ?_
  refine A_loc (l2 := [(0, _), (3, _)]) ⟨rfl, rfl, trivial⟩ ?_
  refine l_X3_holdRow (σ0 := uI (uI σ c 0 (100 + sort)) c 1 n) hS 160 0 _ (by omega) Fr.rf rfl (fun j hj => absurd hj (by omega)) ?_
  intro υ h1 h2 h3
  refine ⟨rfl, ⟨?_, ?_, h3⟩, ((Fr.rf.uI (Or.inl rfl)).uI (Or.inl rfl)).tr h1⟩
  · rw [h2]; simp [uI_at]
  · rw [h2]; simp [uI_at]
/-- the elements of a row as a set of squares -/
def elS (n : Int) (el : Nat → Int64) : Nat → Nat → Nat
  | 0, _ => 0
  | m + 1, i => sqB (elI n el (i : Int)).toInt32.toInt ||| elS n el m (i + 1)
theorem elS_lt (n : Int) (el : Nat → Int64) : ∀ m i, elS n el m i < 2 ^ 49
  | 0, _ => by unfold elS; decide
  | m + 1, i => by unfold elS; exact or49 (sqB_lt _) (elS_lt n el m (i + 1))
theorem i32_lo (x : Int32) : -2147483648 ≤ x.toInt := by have := Int32.le_toInt x; omega
theorem i32_hi (x : Int32) : x.toInt < 2147483648 := by have := Int32.toInt_lt x; omega
theorem dX3_squares_0 : decode cX3_squares 0 = .ok (.lconst 0, 1) := by decide +kernel
theorem dX3_squares_1 : decode cX3_squares 1 = .ok (.lstore_n 1, 1) := by decide +kernel
theorem dX3_squares_2 : decode cX3_squares 2 = .ok (.iconst 0, 1) := by decide +kernel
theorem dX3_squares_3 : decode cX3_squares 3 = .ok (.istore_n 3, 1) := by decide +kernel
theorem dX3_squares_4 : decode cX3_squares 4 = .ok (.iload_n 3, 1) := by decide +kernel
theorem dX3_squares_5 : decode cX3_squares 5 = .ok (.aload_n 0, 1) := by decide +kernel
theorem dX3_squares_6 : decode cX3_squares 6 = .ok (.getfield 15, 3) := by decide +kernel
theorem dX3_squares_9 : decode cX3_squares 9 = .ok (.if_icmp .ge 19, 3) := by decide +kernel
theorem dX3_squares_12 : decode cX3_squares 12 = .ok (.lload_n 1, 1) := by decide +kernel
theorem dX3_squares_13 : decode cX3_squares 13 = .ok (.aload_n 0, 1) := by decide +kernel
theorem dX3_squares_14 : decode cX3_squares 14 = .ok (.iload_n 3, 1) := by decide +kernel
theorem dX3_squares_15 : decode cX3_squares 15 = .ok (.invokevirtual 44, 3) := by decide +kernel
theorem dX3_squares_18 : decode cX3_squares 18 = .ok (.invokestatic 48, 3) := by decide +kernel
theorem dX3_squares_21 : decode cX3_squares 21 = .ok (.lstore_n 1, 1) := by decide +kernel
theorem dX3_squares_22 : decode cX3_squares 22 = .ok (.iinc 3 1, 3) := by decide +kernel
theorem dX3_squares_25 : decode cX3_squares 25 = .ok (.goto (-21), 3) := by decide +kernel
theorem dX3_squares_28 : decode cX3_squares 28 = .ok (.lload_n 1, 1) := by decide +kernel
theorem dX3_squares_29 : decode cX3_squares 29 = .ok (.lreturn, 1) := by decide +kernel
set_option maxRecDepth 20000 in
theorem l_X3_squares {G : Gl} {d : Nat} {σ : Sg} {K : Option Value → Sg → Prop} {c : Nat} (hS : SC c) {hd n : Int} {el : Nat → Int64} (hR : RS c hd n el σ) (hO : OkH hd n) : ∀ (m i acc : Nat), (i : Int) + m = n → acc < 2 ^ 49 → K (some (.long (lN (acc ||| elS n el m i)))) σ → AW G (d + 3) RX3 cX3_squares 4 (some .long) 4 [(0, .ref (gA G c)), (1, .long (lN acc)), (3, .int (iI (i : Int)))] [] σ K := by
  intro n9
  induction n9 using Nat.strongRecOn
  rename_i n9 ih
  intro i acc hn ha hK
  have hR2 := hR
  have hO2 := hO
  obtain ⟨r0, r1, r2⟩ := hR2
  obtain ⟨o1, o2, o3, o4⟩ := hO2
  refine A_iload_n (pc := 4) dX3_squares_4 rfl rfl ?_
  refine A_aload_n (pc := 5) dX3_squares_5 rfl rfl ?_
  refine A_getIv (pc := 6) fX3_15 (shp_S hS) rfl r1 dX3_squares_6 ?_
  refine A_icmp_ge (pc := 9) 28 dX3_squares_9 (by decide) (by omega) (by omega) (by omega) (by omega) (fun h9 => ?_) (fun h9 => ?_)
  · skip
    refine A_lload_n (pc := 28) dX3_squares_28 rfl rfl ?_
    refine A_lret (pc := 29) rfl dX3_squares_29 ?_
    have hn0 : n9 = 0 := by omega
    subst hn0
    rw [elS, Nat.or_zero] at hK
    exact hK
  · skip
    refine A_lload_n (pc := 12) dX3_squares_12 rfl rfl ?_
    refine A_aload_n (pc := 13) dX3_squares_13 rfl rfl ?_
    refine A_iload_n (pc := 14) dX3_squares_14 rfl rfl ?_
    refine A_callV1 (pc := 15) kX3_44 (shp_S hS) rfl (c_X3_intAt hS hR hO (by omega) (by omega)) dX3_squares_15 rfl rfl (Nat.le_of_ble_eq_true rfl) (Nat.le_of_ble_eq_true rfl) ?_
    refine A_callS1 (pc := 18) kX3_48 (c_X0_with ha (i32_lo _) (i32_hi _)) dX3_squares_18 rfl rfl (Nat.le_of_ble_eq_true rfl) (Nat.le_of_ble_eq_true rfl) ?_
    refine A_lstore_n (pc := 21) dX3_squares_21 rfl (Nat.le_of_ble_eq_true rfl) ?_
    refine A_iinc (pc := 22) dX3_squares_22 rfl (Nat.le_of_ble_eq_true rfl) ?_
    refine A_goto (pc := 25) 4 dX3_squares_25 (by decide) ?_
    obtain ⟨m, rfl⟩ : ∃ m, n9 = m + 1 := ⟨n9 - 1, by omega⟩
    refine A_loc (l2 := [(0, _), (1, _), (3, _)]) ⟨rfl, rfl, rfl, trivial⟩ ?_
    refine ih m (by omega) (i + 1) _ (by omega) (or49 ha (sqB_lt _)) ?_
    rw [elS, ← Nat.or_assoc] at hK
    exact hK
set_option maxRecDepth 20000 in
theorem c_X3_squares {G : Gl} {d : Nat} {σ : Sg} {c : Nat} (hS : SC c) {hd n : Int} {el : Nat → Int64} (hR : RS c hd n el σ) (hO : OkH hd n)  : CT G (d + 3) yX3_squares cX3_squares 4 (some .long) [.ref (gA G c)] σ (R1 (.long (lN (elS n el n.toNat 0))) σ) := by
  refine CT.of (by decide +kernel) (Nat.le_of_ble_eq_true rfl) ?_
  change AW G _ RX3 _ _ _ 0 [(0, .ref (gA G c))] [] _ _
  have hR2 := hR
  have hO2 := hO
  obtain ⟨r0, r1, r2⟩ := hR2
  obtain ⟨o1, o2, o3, o4⟩ := hO2
  refine A_lconst (pc := 0) 0 dX3_squares_0 rfl ?_
  refine A_lstore_n (pc := 1) dX3_squares_1 rfl (Nat.le_of_ble_eq_true rfl) ?_
  refine A_iconst (pc := 2) dX3_squares_2 ?_
  refine A_istore_n (pc := 3) dX3_squares_3 rfl (Nat.le_of_ble_eq_true rfl) ?_
  refine A_loc (l2 := [(0, _), (1, _), (3, _)]) ⟨rfl, rfl, rfl, trivial⟩ ?_
  exact l_X3_squares hS hR hO n.toNat 0 0 (by omega) (by decide) ⟨by rw [Nat.zero_or], rfl⟩
