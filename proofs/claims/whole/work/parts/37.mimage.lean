/-! PART 37: the image kept by the reference -/
def keF (σ0 : Sg) (x : Nat) : Int := if x < 36 then σ0.1 (55 + x / 9) (x % 9) else if x < 51 then σ0.1 (59 + (x - 36) / 5) ((x - 36) % 5) else if x < 100 then σ0.1 62 (x - 51) else if x < 103 then σ0.1 63 (x - 100) else if x = 103 then σ0.1 54 0 else σ0.1 54 5
/-- the places that are kept so far -/
def KeI (c : Nat) (D : Nat → Prop) (σ0 σ : Sg) : Prop := Fr (fun a => a = c) σ0 σ ∧ ∀ x, D x → σ.1 c x = keF σ0 x
/-- the two cells that keep a town -/
abbrev OC (c : Nat) : Prop := c = 68 ∨ c = 71
theorem shp_old {c : Nat} (h : OC c) : shp c = .inr (0, 105) := by
  rcases h with rfl | rfl <;> rfl
theorem KeI.u {c : Nat} {D E : Nat → Prop} {σ0 σ : Sg} (h : KeI c D σ0 σ) {x : Nat} {v : Int} (hv : v = keF σ0 x) (hE : ∀ y, E y → y = x ∨ D y) : KeI c E σ0 (uI σ c x v) := ⟨h.1.uI rfl, fun y hy => by
  rw [uI_at]
  by_cases e : y = x
  · rw [if_pos ⟨rfl, e⟩, e]; exact hv
  · rw [if_neg (fun z => e z.2)]; exact h.2 y ((hE y hy).resolve_left e)⟩
theorem KeI.at {c : Nat} {D : Nat → Prop} {σ0 σ : Sg} (h : KeI c D σ0 σ) {a k : Nat} (ha : a ≠ c) : σ.1 a k = σ0.1 a k := by rw [(h.1 a ha).1]
theorem dX9_keep_0 : decode cX9_keep 0 = .ok (.iconst 0, 1) := by decide +kernel
theorem dX9_keep_1 : decode cX9_keep 1 = .ok (.istore_n 2, 1) := by decide +kernel
theorem dX9_keep_2 : decode cX9_keep 2 = .ok (.iload_n 2, 1) := by decide +kernel
theorem dX9_keep_3 : decode cX9_keep 3 = .ok (.bipush 9, 2) := by decide +kernel
theorem dX9_keep_5 : decode cX9_keep 5 = .ok (.if_icmp .ge 54, 3) := by decide +kernel
theorem dX9_keep_8 : decode cX9_keep 8 = .ok (.aload_n 1, 1) := by decide +kernel
theorem dX9_keep_9 : decode cX9_keep 9 = .ok (.iload_n 2, 1) := by decide +kernel
theorem dX9_keep_10 : decode cX9_keep 10 = .ok (.aload_n 0, 1) := by decide +kernel
theorem dX9_keep_11 : decode cX9_keep 11 = .ok (.getfield 7, 3) := by decide +kernel
theorem dX9_keep_14 : decode cX9_keep 14 = .ok (.iload_n 2, 1) := by decide +kernel
theorem dX9_keep_15 : decode cX9_keep 15 = .ok (.iaload, 1) := by decide +kernel
theorem dX9_keep_16 : decode cX9_keep 16 = .ok (.iastore, 1) := by decide +kernel
theorem dX9_keep_17 : decode cX9_keep 17 = .ok (.aload_n 1, 1) := by decide +kernel
theorem dX9_keep_18 : decode cX9_keep 18 = .ok (.bipush 9, 2) := by decide +kernel
theorem dX9_keep_20 : decode cX9_keep 20 = .ok (.iload_n 2, 1) := by decide +kernel
theorem dX9_keep_21 : decode cX9_keep 21 = .ok (.iadd, 1) := by decide +kernel
theorem dX9_keep_22 : decode cX9_keep 22 = .ok (.aload_n 0, 1) := by decide +kernel
theorem dX9_keep_23 : decode cX9_keep 23 = .ok (.getfield 13, 3) := by decide +kernel
theorem dX9_keep_26 : decode cX9_keep 26 = .ok (.iload_n 2, 1) := by decide +kernel
theorem dX9_keep_27 : decode cX9_keep 27 = .ok (.iaload, 1) := by decide +kernel
theorem dX9_keep_28 : decode cX9_keep 28 = .ok (.iastore, 1) := by decide +kernel
theorem dX9_keep_29 : decode cX9_keep 29 = .ok (.aload_n 1, 1) := by decide +kernel
theorem dX9_keep_30 : decode cX9_keep 30 = .ok (.bipush 18, 2) := by decide +kernel
theorem dX9_keep_32 : decode cX9_keep 32 = .ok (.iload_n 2, 1) := by decide +kernel
theorem dX9_keep_33 : decode cX9_keep 33 = .ok (.iadd, 1) := by decide +kernel
theorem dX9_keep_34 : decode cX9_keep 34 = .ok (.aload_n 0, 1) := by decide +kernel
theorem dX9_keep_35 : decode cX9_keep 35 = .ok (.getfield 16, 3) := by decide +kernel
theorem dX9_keep_38 : decode cX9_keep 38 = .ok (.iload_n 2, 1) := by decide +kernel
theorem dX9_keep_39 : decode cX9_keep 39 = .ok (.iaload, 1) := by decide +kernel
theorem dX9_keep_40 : decode cX9_keep 40 = .ok (.iastore, 1) := by decide +kernel
theorem dX9_keep_41 : decode cX9_keep 41 = .ok (.aload_n 1, 1) := by decide +kernel
theorem dX9_keep_42 : decode cX9_keep 42 = .ok (.bipush 27, 2) := by decide +kernel
theorem dX9_keep_44 : decode cX9_keep 44 = .ok (.iload_n 2, 1) := by decide +kernel
theorem dX9_keep_45 : decode cX9_keep 45 = .ok (.iadd, 1) := by decide +kernel
theorem dX9_keep_46 : decode cX9_keep 46 = .ok (.aload_n 0, 1) := by decide +kernel
theorem dX9_keep_47 : decode cX9_keep 47 = .ok (.getfield 19, 3) := by decide +kernel
theorem dX9_keep_50 : decode cX9_keep 50 = .ok (.iload_n 2, 1) := by decide +kernel
theorem dX9_keep_51 : decode cX9_keep 51 = .ok (.iaload, 1) := by decide +kernel
theorem dX9_keep_52 : decode cX9_keep 52 = .ok (.iastore, 1) := by decide +kernel
theorem dX9_keep_53 : decode cX9_keep 53 = .ok (.iinc 2 1, 3) := by decide +kernel
theorem dX9_keep_56 : decode cX9_keep 56 = .ok (.goto (-54), 3) := by decide +kernel
theorem dX9_keep_59 : decode cX9_keep 59 = .ok (.iconst 0, 1) := by decide +kernel
theorem dX9_keep_60 : decode cX9_keep 60 = .ok (.istore_n 2, 1) := by decide +kernel
theorem dX9_keep_61 : decode cX9_keep 61 = .ok (.iload_n 2, 1) := by decide +kernel
theorem dX9_keep_62 : decode cX9_keep 62 = .ok (.iconst 5, 1) := by decide +kernel
theorem dX9_keep_63 : decode cX9_keep 63 = .ok (.if_icmp .ge 45, 3) := by decide +kernel
theorem dX9_keep_66 : decode cX9_keep 66 = .ok (.aload_n 1, 1) := by decide +kernel
theorem dX9_keep_67 : decode cX9_keep 67 = .ok (.bipush 36, 2) := by decide +kernel
theorem dX9_keep_69 : decode cX9_keep 69 = .ok (.iload_n 2, 1) := by decide +kernel
theorem dX9_keep_70 : decode cX9_keep 70 = .ok (.iadd, 1) := by decide +kernel
theorem dX9_keep_71 : decode cX9_keep 71 = .ok (.aload_n 0, 1) := by decide +kernel
theorem dX9_keep_72 : decode cX9_keep 72 = .ok (.getfield 22, 3) := by decide +kernel
theorem dX9_keep_75 : decode cX9_keep 75 = .ok (.iload_n 2, 1) := by decide +kernel
theorem dX9_keep_76 : decode cX9_keep 76 = .ok (.iaload, 1) := by decide +kernel
theorem dX9_keep_77 : decode cX9_keep 77 = .ok (.iastore, 1) := by decide +kernel
theorem dX9_keep_78 : decode cX9_keep 78 = .ok (.aload_n 1, 1) := by decide +kernel
theorem dX9_keep_79 : decode cX9_keep 79 = .ok (.bipush 41, 2) := by decide +kernel
theorem dX9_keep_81 : decode cX9_keep 81 = .ok (.iload_n 2, 1) := by decide +kernel
theorem dX9_keep_82 : decode cX9_keep 82 = .ok (.iadd, 1) := by decide +kernel
theorem dX9_keep_83 : decode cX9_keep 83 = .ok (.aload_n 0, 1) := by decide +kernel
theorem dX9_keep_84 : decode cX9_keep 84 = .ok (.getfield 25, 3) := by decide +kernel
theorem dX9_keep_87 : decode cX9_keep 87 = .ok (.iload_n 2, 1) := by decide +kernel
theorem dX9_keep_88 : decode cX9_keep 88 = .ok (.iaload, 1) := by decide +kernel
theorem dX9_keep_89 : decode cX9_keep 89 = .ok (.iastore, 1) := by decide +kernel
theorem dX9_keep_90 : decode cX9_keep 90 = .ok (.aload_n 1, 1) := by decide +kernel
theorem dX9_keep_91 : decode cX9_keep 91 = .ok (.bipush 46, 2) := by decide +kernel
theorem dX9_keep_93 : decode cX9_keep 93 = .ok (.iload_n 2, 1) := by decide +kernel
theorem dX9_keep_94 : decode cX9_keep 94 = .ok (.iadd, 1) := by decide +kernel
theorem dX9_keep_95 : decode cX9_keep 95 = .ok (.aload_n 0, 1) := by decide +kernel
theorem dX9_keep_96 : decode cX9_keep 96 = .ok (.getfield 28, 3) := by decide +kernel
theorem dX9_keep_99 : decode cX9_keep 99 = .ok (.iload_n 2, 1) := by decide +kernel
theorem dX9_keep_100 : decode cX9_keep 100 = .ok (.iaload, 1) := by decide +kernel
theorem dX9_keep_101 : decode cX9_keep 101 = .ok (.iastore, 1) := by decide +kernel
theorem dX9_keep_102 : decode cX9_keep 102 = .ok (.iinc 2 1, 3) := by decide +kernel
theorem dX9_keep_105 : decode cX9_keep 105 = .ok (.goto (-44), 3) := by decide +kernel
theorem dX9_keep_108 : decode cX9_keep 108 = .ok (.iconst 0, 1) := by decide +kernel
theorem dX9_keep_109 : decode cX9_keep 109 = .ok (.istore_n 2, 1) := by decide +kernel
theorem dX9_keep_110 : decode cX9_keep 110 = .ok (.iload_n 2, 1) := by decide +kernel
theorem dX9_keep_111 : decode cX9_keep 111 = .ok (.bipush 49, 2) := by decide +kernel
theorem dX9_keep_113 : decode cX9_keep 113 = .ok (.if_icmp .ge 29, 3) := by decide +kernel
theorem dX9_keep_116 : decode cX9_keep 116 = .ok (.aload_n 1, 1) := by decide +kernel
theorem dX9_keep_117 : decode cX9_keep 117 = .ok (.bipush 51, 2) := by decide +kernel
theorem dX9_keep_119 : decode cX9_keep 119 = .ok (.iload_n 2, 1) := by decide +kernel
theorem dX9_keep_120 : decode cX9_keep 120 = .ok (.iadd, 1) := by decide +kernel
theorem dX9_keep_121 : decode cX9_keep 121 = .ok (.aload_n 0, 1) := by decide +kernel
theorem dX9_keep_122 : decode cX9_keep 122 = .ok (.getfield 31, 3) := by decide +kernel
theorem dX9_keep_125 : decode cX9_keep 125 = .ok (.iload_n 2, 1) := by decide +kernel
theorem dX9_keep_126 : decode cX9_keep 126 = .ok (.baload, 1) := by decide +kernel
theorem dX9_keep_127 : decode cX9_keep 127 = .ok (.ifCond .eq 7, 3) := by decide +kernel
theorem dX9_keep_130 : decode cX9_keep 130 = .ok (.iconst 1, 1) := by decide +kernel
theorem dX9_keep_131 : decode cX9_keep 131 = .ok (.goto 4, 3) := by decide +kernel
theorem dX9_keep_134 : decode cX9_keep 134 = .ok (.iconst 0, 1) := by decide +kernel
theorem dX9_keep_135 : decode cX9_keep 135 = .ok (.iastore, 1) := by decide +kernel
theorem dX9_keep_136 : decode cX9_keep 136 = .ok (.iinc 2 1, 3) := by decide +kernel
theorem dX9_keep_139 : decode cX9_keep 139 = .ok (.goto (-29), 3) := by decide +kernel
theorem dX9_keep_142 : decode cX9_keep 142 = .ok (.iconst 0, 1) := by decide +kernel
theorem dX9_keep_143 : decode cX9_keep 143 = .ok (.istore_n 2, 1) := by decide +kernel
theorem dX9_keep_144 : decode cX9_keep 144 = .ok (.iload_n 2, 1) := by decide +kernel
theorem dX9_keep_145 : decode cX9_keep 145 = .ok (.iconst 3, 1) := by decide +kernel
theorem dX9_keep_146 : decode cX9_keep 146 = .ok (.if_icmp .ge 21, 3) := by decide +kernel
theorem dX9_keep_149 : decode cX9_keep 149 = .ok (.aload_n 1, 1) := by decide +kernel
theorem dX9_keep_150 : decode cX9_keep 150 = .ok (.bipush 100, 2) := by decide +kernel
theorem dX9_keep_152 : decode cX9_keep 152 = .ok (.iload_n 2, 1) := by decide +kernel
theorem dX9_keep_153 : decode cX9_keep 153 = .ok (.iadd, 1) := by decide +kernel
theorem dX9_keep_154 : decode cX9_keep 154 = .ok (.aload_n 0, 1) := by decide +kernel
theorem dX9_keep_155 : decode cX9_keep 155 = .ok (.getfield 35, 3) := by decide +kernel
theorem dX9_keep_158 : decode cX9_keep 158 = .ok (.iload_n 2, 1) := by decide +kernel
theorem dX9_keep_159 : decode cX9_keep 159 = .ok (.iaload, 1) := by decide +kernel
theorem dX9_keep_160 : decode cX9_keep 160 = .ok (.iastore, 1) := by decide +kernel
theorem dX9_keep_161 : decode cX9_keep 161 = .ok (.iinc 2 1, 3) := by decide +kernel
theorem dX9_keep_164 : decode cX9_keep 164 = .ok (.goto (-20), 3) := by decide +kernel
theorem dX9_keep_167 : decode cX9_keep 167 = .ok (.aload_n 1, 1) := by decide +kernel
theorem dX9_keep_168 : decode cX9_keep 168 = .ok (.bipush 103, 2) := by decide +kernel
theorem dX9_keep_170 : decode cX9_keep 170 = .ok (.aload_n 0, 1) := by decide +kernel
theorem dX9_keep_171 : decode cX9_keep 171 = .ok (.getfield 83, 3) := by decide +kernel
theorem dX9_keep_174 : decode cX9_keep 174 = .ok (.iastore, 1) := by decide +kernel
theorem dX9_keep_175 : decode cX9_keep 175 = .ok (.aload_n 1, 1) := by decide +kernel
theorem dX9_keep_176 : decode cX9_keep 176 = .ok (.bipush 104, 2) := by decide +kernel
theorem dX9_keep_178 : decode cX9_keep 178 = .ok (.aload_n 0, 1) := by decide +kernel
theorem dX9_keep_179 : decode cX9_keep 179 = .ok (.getfield 90, 3) := by decide +kernel
theorem dX9_keep_182 : decode cX9_keep 182 = .ok (.iastore, 1) := by decide +kernel
theorem dX9_keep_183 : decode cX9_keep 183 = .ok (.return_, 1) := by decide +kernel
set_option maxRecDepth 20000 in
theorem l4_X9_keep {G : Gl} {d : Nat} {σ0 : Sg} {K : Option Value → Sg → Prop} {c : Nat} (hc : OC c) : ∀ (n i : Nat) (σ : Sg), i + n = 3 → KeI c (fun y => y < 100 + i) σ0 σ → (∀ υ, KeI c (fun y => y < 105) σ0 υ → K none υ) → AW G d RX9 cX9_keep 3 none 144 [(0, .ref (gA G 54)), (1, .ref (gA G c)), (2, .int (iI (i : Int)))] [] σ K := by
  intro n
  induction n using Nat.strongRecOn
  rename_i n ih
  intro i σ hn hI hK
  refine A_iload_n (pc := 144) dX9_keep_144 rfl rfl ?_
  refine A_iconst (pc := 145) dX9_keep_145 ?_
  refine A_icmp_ge (pc := 146) 167 dX9_keep_146 (by decide) (by omega) (by omega) (by omega) (by omega) (fun h146 => ?_) (fun h146 => ?_)
  · skip
    refine A_aload_n (pc := 167) dX9_keep_167 rfl rfl ?_
    refine A_bipush (pc := 168) dX9_keep_168 (by decide) ?_
    refine A_aload_n (pc := 170) dX9_keep_170 rfl rfl ?_
    refine A_getI (pc := 171) fX9_83 rfl rfl dX9_keep_171 ?_
    refine A_iast (pc := 174) 103 (shp_old hc) rfl (by decide) (Nat.le_of_ble_eq_true rfl) dX9_keep_174 ?_
    refine A_aload_n (pc := 175) dX9_keep_175 rfl rfl ?_
    refine A_bipush (pc := 176) dX9_keep_176 (by decide) ?_
    refine A_aload_n (pc := 178) dX9_keep_178 rfl rfl ?_
    refine A_getI (pc := 179) fX9_90 rfl rfl dX9_keep_179 ?_
    refine A_iast (pc := 182) 104 (shp_old hc) rfl (by decide) (Nat.le_of_ble_eq_true rfl) dX9_keep_182 ?_
    refine A_vret (pc := 183) rfl dX9_keep_183 ?_
    have hn0 : n = 0 := by omega
    subst hn0
    refine hK _ (KeI.u (x := 104) (KeI.u (x := 103) (E := fun y => y < 104) hI ?_ (fun y q => by omega)) ?_ (fun y q => by omega))
    · rw [hI.at (by omega)]; try rfl
    · rw [uI_at, if_neg (by omega), hI.at (by omega)]; try rfl
  · skip
    refine A_aload_n (pc := 149) dX9_keep_149 rfl rfl ?_
    refine A_bipush (pc := 150) dX9_keep_150 (by decide) ?_
    refine A_iload_n (pc := 152) dX9_keep_152 rfl rfl ?_
    refine A_iadd (pc := 153) dX9_keep_153 ?_
    refine A_aload_n (pc := 154) dX9_keep_154 rfl rfl ?_
    refine A_getR (pc := 155) fX9_35 rfl rfl dX9_keep_155 ?_
    refine A_iload_n (pc := 158) dX9_keep_158 rfl rfl ?_
    refine A_iald (pc := 159) i rfl rfl (by omega) (Nat.le_of_ble_eq_true rfl) dX9_keep_159 ?_
    refine A_iast (pc := 160) (100 + i) (shp_old hc) (by omega) (by omega) (Nat.le_of_ble_eq_true rfl) dX9_keep_160 ?_
    refine A_iinc (pc := 161) dX9_keep_161 rfl (Nat.le_of_ble_eq_true rfl) ?_
    refine A_goto (pc := 164) 144 dX9_keep_164 (by decide) ?_
    obtain ⟨u, rfl⟩ : ∃ u, n = u + 1 := ⟨n - 1, by omega⟩
    refine A_loc (l2 := [(0, _), (1, _), (2, _)]) ⟨rfl, rfl, rfl, trivial⟩ ?_
    refine ih u (by omega) (i + 1) _ (by omega) (KeI.u (x := 100 + i) hI ?_ (fun y q => by omega)) hK
    · (repeat rw [uI_at, if_neg (by omega)])
      rw [hI.at (by omega)]
      unfold keF
      rw [if_neg (by omega), if_neg (by omega), if_neg (by omega), if_pos (by omega), show 100 + i - 100 = i by omega]
      try rfl
set_option maxRecDepth 20000 in
theorem l3_X9_keep {G : Gl} {d : Nat} {σ0 : Sg} {K : Option Value → Sg → Prop} {c : Nat} (hc : OC c) {τ : Tw} (hM : RMt τ σ0) : ∀ (n i : Nat) (σ : Sg), i + n = 49 → KeI c (fun y => y < 51 + i) σ0 σ → (∀ υ, KeI c (fun y => y < 100 + 0) σ0 υ → AW G d RX9 cX9_keep 3 none 144 [(0, .ref (gA G 54)), (1, .ref (gA G c)), (2, .int (iI ((0 : Nat) : Int)))] [] υ K) → AW G d RX9 cX9_keep 3 none 110 [(0, .ref (gA G 54)), (1, .ref (gA G c)), (2, .int (iI (i : Int)))] [] σ K := by
  intro n
  induction n using Nat.strongRecOn
  rename_i n ih
  intro i σ hn hI hK
  refine A_iload_n (pc := 110) dX9_keep_110 rfl rfl ?_
  refine A_bipush (pc := 111) dX9_keep_111 (by decide) ?_
  refine A_icmp_ge (pc := 113) 142 dX9_keep_113 (by decide) (by omega) (by omega) (by omega) (by omega) (fun h113 => ?_) (fun h113 => ?_)
  · skip
    refine A_iconst (pc := 142) dX9_keep_142 ?_
    refine A_istore_n (pc := 143) dX9_keep_143 rfl (Nat.le_of_ble_eq_true rfl) ?_
    have hn0 : n = 0 := by omega
    subst hn0
    refine A_loc (l2 := [(0, _), (1, _), (2, _)]) ⟨rfl, rfl, rfl, trivial⟩ ?_
    exact hK σ ⟨hI.1, fun x hx => hI.2 x (by omega)⟩
  · skip
    refine A_aload_n (pc := 116) dX9_keep_116 rfl rfl ?_
    refine A_bipush (pc := 117) dX9_keep_117 (by decide) ?_
    refine A_iload_n (pc := 119) dX9_keep_119 rfl rfl ?_
    refine A_iadd (pc := 120) dX9_keep_120 ?_
    refine A_aload_n (pc := 121) dX9_keep_121 rfl rfl ?_
    refine A_getR (pc := 122) fX9_31 rfl rfl dX9_keep_122 ?_
    refine A_iload_n (pc := 125) dX9_keep_125 rfl rfl ?_
    refine A_zaldv (pc := 126) i rfl rfl (by omega) (Nat.le_of_ble_eq_true rfl) ((hI.at (by omega)).trans (hM.1 i (by omega))) dX9_keep_126 ?_
    refine A_ifb_eq (pc := 127) 134 dX9_keep_127 (by decide) (fun h127 => ?_) (fun h127 => ?_)
    · skip
      refine A_iconst (pc := 134) dX9_keep_134 ?_
      refine A_iast (pc := 135) (51 + i) (shp_old hc) (by omega) (by omega) (Nat.le_of_ble_eq_true rfl) dX9_keep_135 ?_
      refine A_iinc (pc := 136) dX9_keep_136 rfl (Nat.le_of_ble_eq_true rfl) ?_
      refine A_goto (pc := 139) 110 dX9_keep_139 (by decide) ?_
      obtain ⟨u, rfl⟩ : ∃ u, n = u + 1 := ⟨n - 1, by omega⟩
      refine A_loc (l2 := [(0, _), (1, _), (2, _)]) ⟨rfl, rfl, rfl, trivial⟩ ?_
      refine ih u (by omega) (i + 1) _ (by omega) (KeI.u (x := 51 + i) hI ?_ (fun y q => by omega)) hK
      unfold keF
      rw [if_neg (by omega), if_neg (by omega), if_pos (by omega), show 51 + i - 51 = i by omega, hM.1 i (by omega), bI_f h127]
    · skip
      refine A_iconst (pc := 130) dX9_keep_130 ?_
      refine A_goto (pc := 131) 135 dX9_keep_131 (by decide) ?_
      refine A_iast (pc := 135) (51 + i) (shp_old hc) (by omega) (by omega) (Nat.le_of_ble_eq_true rfl) dX9_keep_135 ?_
      refine A_iinc (pc := 136) dX9_keep_136 rfl (Nat.le_of_ble_eq_true rfl) ?_
      refine A_goto (pc := 139) 110 dX9_keep_139 (by decide) ?_
      obtain ⟨u, rfl⟩ : ∃ u, n = u + 1 := ⟨n - 1, by omega⟩
      refine A_loc (l2 := [(0, _), (1, _), (2, _)]) ⟨rfl, rfl, rfl, trivial⟩ ?_
      refine ih u (by omega) (i + 1) _ (by omega) (KeI.u (x := 51 + i) hI ?_ (fun y q => by omega)) hK
      unfold keF
      rw [if_neg (by omega), if_neg (by omega), if_pos (by omega), show 51 + i - 51 = i by omega, hM.1 i (by omega), bI_t h127]
set_option maxRecDepth 20000 in
theorem l2_X9_keep {G : Gl} {d : Nat} {σ0 : Sg} {K : Option Value → Sg → Prop} {c : Nat} (hc : OC c) : ∀ (n i : Nat) (σ : Sg), i + n = 5 → KeI c (fun y => y < 36 ∨ (y < 51 ∧ (y - 36) % 5 < i)) σ0 σ → (∀ υ, KeI c (fun y => y < 51 + 0) σ0 υ → AW G d RX9 cX9_keep 3 none 110 [(0, .ref (gA G 54)), (1, .ref (gA G c)), (2, .int (iI ((0 : Nat) : Int)))] [] υ K) → AW G d RX9 cX9_keep 3 none 61 [(0, .ref (gA G 54)), (1, .ref (gA G c)), (2, .int (iI (i : Int)))] [] σ K := by
  intro n
  induction n using Nat.strongRecOn
  rename_i n ih
  intro i σ hn hI hK
  refine A_iload_n (pc := 61) dX9_keep_61 rfl rfl ?_
  refine A_iconst (pc := 62) dX9_keep_62 ?_
  refine A_icmp_ge (pc := 63) 108 dX9_keep_63 (by decide) (by omega) (by omega) (by omega) (by omega) (fun h63 => ?_) (fun h63 => ?_)
  · skip
    refine A_iconst (pc := 108) dX9_keep_108 ?_
    refine A_istore_n (pc := 109) dX9_keep_109 rfl (Nat.le_of_ble_eq_true rfl) ?_
    have hn0 : i = 5 := by omega
    subst hn0
    refine A_loc (l2 := [(0, _), (1, _), (2, _)]) ⟨rfl, rfl, rfl, trivial⟩ ?_
    exact hK σ ⟨hI.1, fun x hx => hI.2 x (by omega)⟩
  · skip
    refine A_aload_n (pc := 66) dX9_keep_66 rfl rfl ?_
    refine A_bipush (pc := 67) dX9_keep_67 (by decide) ?_
    refine A_iload_n (pc := 69) dX9_keep_69 rfl rfl ?_
    refine A_iadd (pc := 70) dX9_keep_70 ?_
    refine A_aload_n (pc := 71) dX9_keep_71 rfl rfl ?_
    refine A_getR (pc := 72) fX9_22 rfl rfl dX9_keep_72 ?_
    refine A_iload_n (pc := 75) dX9_keep_75 rfl rfl ?_
    refine A_iald (pc := 76) i rfl rfl (by omega) (Nat.le_of_ble_eq_true rfl) dX9_keep_76 ?_
    refine A_iast (pc := 77) (36 + i) (shp_old hc) (by omega) (by omega) (Nat.le_of_ble_eq_true rfl) dX9_keep_77 ?_
    refine A_aload_n (pc := 78) dX9_keep_78 rfl rfl ?_
    refine A_bipush (pc := 79) dX9_keep_79 (by decide) ?_
    refine A_iload_n (pc := 81) dX9_keep_81 rfl rfl ?_
    refine A_iadd (pc := 82) dX9_keep_82 ?_
    refine A_aload_n (pc := 83) dX9_keep_83 rfl rfl ?_
    refine A_getR (pc := 84) fX9_25 rfl rfl dX9_keep_84 ?_
    refine A_iload_n (pc := 87) dX9_keep_87 rfl rfl ?_
    refine A_iald (pc := 88) i rfl rfl (by omega) (Nat.le_of_ble_eq_true rfl) dX9_keep_88 ?_
    refine A_iast (pc := 89) (41 + i) (shp_old hc) (by omega) (by omega) (Nat.le_of_ble_eq_true rfl) dX9_keep_89 ?_
    refine A_aload_n (pc := 90) dX9_keep_90 rfl rfl ?_
    refine A_bipush (pc := 91) dX9_keep_91 (by decide) ?_
    refine A_iload_n (pc := 93) dX9_keep_93 rfl rfl ?_
    refine A_iadd (pc := 94) dX9_keep_94 ?_
    refine A_aload_n (pc := 95) dX9_keep_95 rfl rfl ?_
    refine A_getR (pc := 96) fX9_28 rfl rfl dX9_keep_96 ?_
    refine A_iload_n (pc := 99) dX9_keep_99 rfl rfl ?_
    refine A_iald (pc := 100) i rfl rfl (by omega) (Nat.le_of_ble_eq_true rfl) dX9_keep_100 ?_
    refine A_iast (pc := 101) (46 + i) (shp_old hc) (by omega) (by omega) (Nat.le_of_ble_eq_true rfl) dX9_keep_101 ?_
    refine A_iinc (pc := 102) dX9_keep_102 rfl (Nat.le_of_ble_eq_true rfl) ?_
    refine A_goto (pc := 105) 61 dX9_keep_105 (by decide) ?_
    obtain ⟨u, rfl⟩ : ∃ u, n = u + 1 := ⟨n - 1, by omega⟩
    refine A_loc (l2 := [(0, _), (1, _), (2, _)]) ⟨rfl, rfl, rfl, trivial⟩ ?_
    refine ih u (by omega) (i + 1) _ (by omega) (KeI.u (x := 46 + i) (KeI.u (x := 41 + i) (E := fun y => y = 41 + i ∨ y = 36 + i ∨ (y < 36 ∨ (y < 51 ∧ (y - 36) % 5 < i))) (KeI.u (x := 36 + i) (E := fun y => y = 36 + i ∨ (y < 36 ∨ (y < 51 ∧ (y - 36) % 5 < i))) hI ?_ (fun y q => q)) ?_ (fun y q => q)) ?_ (fun y q => by omega)) hK
    · (repeat rw [uI_at, if_neg (by omega)])
      rw [hI.at (by omega)]
      unfold keF
      rw [if_neg (by omega), if_pos (by omega), show (36 + i - 36) / 5 = 0 by omega, show (36 + i - 36) % 5 = i by omega]
      try rfl
    · (repeat rw [uI_at, if_neg (by omega)])
      rw [hI.at (by omega)]
      unfold keF
      rw [if_neg (by omega), if_pos (by omega), show (41 + i - 36) / 5 = 1 by omega, show (41 + i - 36) % 5 = i by omega]
      try rfl
    · (repeat rw [uI_at, if_neg (by omega)])
      rw [hI.at (by omega)]
      unfold keF
      rw [if_neg (by omega), if_pos (by omega), show (46 + i - 36) / 5 = 2 by omega, show (46 + i - 36) % 5 = i by omega]
      try rfl
set_option maxRecDepth 20000 in
theorem l1_X9_keep {G : Gl} {d : Nat} {σ0 : Sg} {K : Option Value → Sg → Prop} {c : Nat} (hc : OC c) : ∀ (n i : Nat) (σ : Sg), i + n = 9 → KeI c (fun y => y < 36 ∧ y % 9 < i) σ0 σ → (∀ υ, KeI c (fun y => y < 36 ∨ (y < 51 ∧ (y - 36) % 5 < 0)) σ0 υ → AW G d RX9 cX9_keep 3 none 61 [(0, .ref (gA G 54)), (1, .ref (gA G c)), (2, .int (iI ((0 : Nat) : Int)))] [] υ K) → AW G d RX9 cX9_keep 3 none 2 [(0, .ref (gA G 54)), (1, .ref (gA G c)), (2, .int (iI (i : Int)))] [] σ K := by
  intro n
  induction n using Nat.strongRecOn
  rename_i n ih
  intro i σ hn hI hK
  refine A_iload_n (pc := 2) dX9_keep_2 rfl rfl ?_
  refine A_bipush (pc := 3) dX9_keep_3 (by decide) ?_
  refine A_icmp_ge (pc := 5) 59 dX9_keep_5 (by decide) (by omega) (by omega) (by omega) (by omega) (fun h5 => ?_) (fun h5 => ?_)
  · skip
    refine A_iconst (pc := 59) dX9_keep_59 ?_
    refine A_istore_n (pc := 60) dX9_keep_60 rfl (Nat.le_of_ble_eq_true rfl) ?_
    have hn0 : i = 9 := by omega
    subst hn0
    refine A_loc (l2 := [(0, _), (1, _), (2, _)]) ⟨rfl, rfl, rfl, trivial⟩ ?_
    exact hK σ ⟨hI.1, fun x hx => hI.2 x (by omega)⟩
  · skip
    refine A_aload_n (pc := 8) dX9_keep_8 rfl rfl ?_
    refine A_iload_n (pc := 9) dX9_keep_9 rfl rfl ?_
    refine A_aload_n (pc := 10) dX9_keep_10 rfl rfl ?_
    refine A_getR (pc := 11) fX9_7 rfl rfl dX9_keep_11 ?_
    refine A_iload_n (pc := 14) dX9_keep_14 rfl rfl ?_
    refine A_iald (pc := 15) i rfl rfl (by omega) (Nat.le_of_ble_eq_true rfl) dX9_keep_15 ?_
    refine A_iast (pc := 16) i (shp_old hc) rfl (by omega) (Nat.le_of_ble_eq_true rfl) dX9_keep_16 ?_
    refine A_aload_n (pc := 17) dX9_keep_17 rfl rfl ?_
    refine A_bipush (pc := 18) dX9_keep_18 (by decide) ?_
    refine A_iload_n (pc := 20) dX9_keep_20 rfl rfl ?_
    refine A_iadd (pc := 21) dX9_keep_21 ?_
    refine A_aload_n (pc := 22) dX9_keep_22 rfl rfl ?_
    refine A_getR (pc := 23) fX9_13 rfl rfl dX9_keep_23 ?_
    refine A_iload_n (pc := 26) dX9_keep_26 rfl rfl ?_
    refine A_iald (pc := 27) i rfl rfl (by omega) (Nat.le_of_ble_eq_true rfl) dX9_keep_27 ?_
    refine A_iast (pc := 28) (9 + i) (shp_old hc) (by omega) (by omega) (Nat.le_of_ble_eq_true rfl) dX9_keep_28 ?_
    refine A_aload_n (pc := 29) dX9_keep_29 rfl rfl ?_
    refine A_bipush (pc := 30) dX9_keep_30 (by decide) ?_
    refine A_iload_n (pc := 32) dX9_keep_32 rfl rfl ?_
    refine A_iadd (pc := 33) dX9_keep_33 ?_
    refine A_aload_n (pc := 34) dX9_keep_34 rfl rfl ?_
    refine A_getR (pc := 35) fX9_16 rfl rfl dX9_keep_35 ?_
    refine A_iload_n (pc := 38) dX9_keep_38 rfl rfl ?_
    refine A_iald (pc := 39) i rfl rfl (by omega) (Nat.le_of_ble_eq_true rfl) dX9_keep_39 ?_
    refine A_iast (pc := 40) (18 + i) (shp_old hc) (by omega) (by omega) (Nat.le_of_ble_eq_true rfl) dX9_keep_40 ?_
    refine A_aload_n (pc := 41) dX9_keep_41 rfl rfl ?_
    refine A_bipush (pc := 42) dX9_keep_42 (by decide) ?_
    refine A_iload_n (pc := 44) dX9_keep_44 rfl rfl ?_
    refine A_iadd (pc := 45) dX9_keep_45 ?_
    refine A_aload_n (pc := 46) dX9_keep_46 rfl rfl ?_
    refine A_getR (pc := 47) fX9_19 rfl rfl dX9_keep_47 ?_
    refine A_iload_n (pc := 50) dX9_keep_50 rfl rfl ?_
    refine A_iald (pc := 51) i rfl rfl (by omega) (Nat.le_of_ble_eq_true rfl) dX9_keep_51 ?_
    refine A_iast (pc := 52) (27 + i) (shp_old hc) (by omega) (by omega) (Nat.le_of_ble_eq_true rfl) dX9_keep_52 ?_
    refine A_iinc (pc := 53) dX9_keep_53 rfl (Nat.le_of_ble_eq_true rfl) ?_
    refine A_goto (pc := 56) 2 dX9_keep_56 (by decide) ?_
    obtain ⟨u, rfl⟩ : ∃ u, n = u + 1 := ⟨n - 1, by omega⟩
    refine A_loc (l2 := [(0, _), (1, _), (2, _)]) ⟨rfl, rfl, rfl, trivial⟩ ?_
    refine ih u (by omega) (i + 1) _ (by omega) (KeI.u (x := 27 + i) (KeI.u (x := 18 + i) (E := fun y => y = 18 + i ∨ y = 9 + i ∨ y = i ∨ (y < 36 ∧ y % 9 < i)) (KeI.u (x := 9 + i) (E := fun y => y = 9 + i ∨ y = i ∨ (y < 36 ∧ y % 9 < i)) (KeI.u (x := i) (E := fun y => y = i ∨ (y < 36 ∧ y % 9 < i)) hI ?_ (fun y q => q)) ?_ (fun y q => q)) ?_ (fun y q => q)) ?_ (fun y q => by omega)) hK
    · rw [hI.at (by omega)]
      unfold keF
      rw [if_pos (by omega), show i / 9 = 0 by omega, Nat.mod_eq_of_lt (show i < 9 by omega)]
      try rfl
    · (repeat rw [uI_at, if_neg (by omega)])
      rw [hI.at (by omega)]
      unfold keF
      rw [if_pos (by omega), show (9 + i) / 9 = 1 by omega, show (9 + i) % 9 = i by omega]
      try rfl
    · (repeat rw [uI_at, if_neg (by omega)])
      rw [hI.at (by omega)]
      unfold keF
      rw [if_pos (by omega), show (18 + i) / 9 = 2 by omega, show (18 + i) % 9 = i by omega]
      try rfl
    · (repeat rw [uI_at, if_neg (by omega)])
      rw [hI.at (by omega)]
      unfold keF
      rw [if_pos (by omega), show (27 + i) / 9 = 3 by omega, show (27 + i) % 9 = i by omega]
      try rfl
set_option maxRecDepth 20000 in
theorem c_X9_keep {G : Gl} {d : Nat} {σ : Sg} {c : Nat} (hc : OC c) {τ : Tw} (hM : RMt τ σ) : CT G d yX9_keep cX9_keep 3 none [.ref (gA G 54), .ref (gA G c)] σ (RE none (fun υ => KeI c (fun y => y < 105) σ υ)) := by
  refine CT.of (by decide +kernel) (Nat.le_of_ble_eq_true rfl) ?_
  change AW G _ RX9 _ _ _ 0 [(0, .ref (gA G 54)), (1, .ref (gA G c))] [] _ _
  refine A_iconst (pc := 0) dX9_keep_0 ?_
  refine A_istore_n (pc := 1) dX9_keep_1 rfl (Nat.le_of_ble_eq_true rfl) ?_
  refine A_loc (l2 := [(0, _), (1, _), (2, _)]) ⟨rfl, rfl, rfl, trivial⟩ ?_
  exact l1_X9_keep (σ0 := σ) hc 9 0 σ rfl ⟨Fr.rf, fun x hx => absurd hx.2 (Nat.not_lt_zero _)⟩ (fun υ1 h1 => l2_X9_keep hc 5 0 υ1 rfl h1 (fun υ2 h2 => l3_X9_keep hc hM 49 0 υ2 rfl h2 (fun υ3 h3 => l4_X9_keep hc 3 0 υ3 rfl h3 (fun υ h => ⟨rfl, h⟩))))
