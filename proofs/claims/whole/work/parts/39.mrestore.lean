/-! PART 39: the image taken again by the reference -/
theorem bI_lo (P : Prop) [Decidable P] : -2147483648 ≤ bI P := by have := bI_rng P; omega
theorem bI_hi (P : Prop) [Decidable P] : bI P < 2147483648 := by have := bI_rng P; omega
theorem bI_0 {P : Prop} [Decidable P] (h : bI P ≠ 1) : bI P = 0 := by have := bI_rng P; omega
def agF (c : Nat) (σ0 : Sg) (a x : Nat) : Int := if a = 54 then σ0.1 c (if x = 0 then 103 else 104) else if a < 59 then σ0.1 c (9 * (a - 55) + x) else if a < 62 then σ0.1 c (36 + 5 * (a - 59) + x) else if a = 62 then σ0.1 c (51 + x) else σ0.1 c (100 + x)
/-- the places that are taken so far -/
def AgI (c : Nat) (D : Nat → Nat → Prop) (σ0 σ : Sg) : Prop := Fr (fun a => 54 ≤ a ∧ a < 64) σ0 σ ∧ (∀ k, k ≠ 0 → k ≠ 5 → σ.1 54 k = σ0.1 54 k) ∧ ∀ a x, D a x → σ.1 a x = agF c σ0 a x
theorem AgI.u {c : Nat} {D E : Nat → Nat → Prop} {σ0 σ : Sg} (h : AgI c D σ0 σ) {a x : Nat} {v : Int} (ha : 54 ≤ a ∧ a < 64) (h54 : a = 54 → x = 0 ∨ x = 5) (hv : v = agF c σ0 a x) (hE : ∀ b y, E b y → (b = a ∧ y = x) ∨ D b y) : AgI c E σ0 (uI σ a x v) := ⟨h.1.uI ha, fun k k0 k5 => by
  rw [uI_at, if_neg (fun z => by have := h54 z.1.symm; omega)]
  exact h.2.1 k k0 k5, fun b y hy => by
  rw [uI_at]
  by_cases e : b = a ∧ y = x
  · rw [if_pos e, e.1, e.2]; exact hv
  · rw [if_neg e]; exact h.2.2 b y ((hE b y hy).resolve_left e)⟩
theorem AgI.at {c : Nat} (hc : OC c) {D : Nat → Nat → Prop} {σ0 σ : Sg} (h : AgI c D σ0 σ) {k : Nat} : σ.1 c k = σ0.1 c k := by rw [(h.1 c (by omega)).1]
theorem AgI.wk {c : Nat} {D E : Nat → Nat → Prop} {σ0 σ : Sg} (h : AgI c D σ0 σ) (hE : ∀ b y, E b y → D b y) : AgI c E σ0 σ := ⟨h.1, h.2.1, fun b y q => h.2.2 b y (hE b y q)⟩
def AD1 (i : Nat) (a x : Nat) : Prop := 55 ≤ a ∧ a < 59 ∧ x < i
def AD2 (i : Nat) (a x : Nat) : Prop := (55 ≤ a ∧ a < 59 ∧ x < 9) ∨ (59 ≤ a ∧ a < 62 ∧ x < i)
def AD3 (i : Nat) (a x : Nat) : Prop := (55 ≤ a ∧ a < 59 ∧ x < 9) ∨ (59 ≤ a ∧ a < 62 ∧ x < 5) ∨ (a = 62 ∧ x < i)
def AD4 (i : Nat) (a x : Nat) : Prop := (55 ≤ a ∧ a < 59 ∧ x < 9) ∨ (59 ≤ a ∧ a < 62 ∧ x < 5) ∨ (a = 62 ∧ x < 49) ∨ (a = 63 ∧ x < i)
def AD5 (a x : Nat) : Prop := (55 ≤ a ∧ a < 59 ∧ x < 9) ∨ (59 ≤ a ∧ a < 62 ∧ x < 5) ∨ (a = 62 ∧ x < 49) ∨ (a = 63 ∧ x < 3) ∨ (a = 54 ∧ (x = 0 ∨ x = 5))
theorem AgI.rmt {c : Nat} {τ : Tw} {σ0 υ : Sg} (h : AgI c AD5 σ0 υ) (hR : RMk c τ σ0) (hO : OkT τ) {v : Int} (hv : v = τ.2.1 5) : RMt τ (uI υ 54 11 v) := by
  obtain ⟨r1, r2, r3, r4, r5, r6⟩ := hR
  obtain ⟨-, o2, o3, o4, o5, -⟩ := hO
  have g := h.2.2
  refine ⟨fun i hi => ?_, ?_, ?_, fun k hk => ?_, ?_, fun j p hj hp => ?_, fun j w hj hw => ?_⟩
  · rw [uI_at, if_neg (by omega), g 62 i (by unfold AD5; omega), ← r3 i hi]; rfl
  · rw [uI_at, if_neg (by omega), g 54 0 (by unfold AD5; omega), ← r5]; rfl
  · rw [uI_at, if_neg (by omega), g 54 5 (by unfold AD5; omega), ← r6]; rfl
  · rw [uI_at, if_neg (by omega), g 63 k (by unfold AD5; omega), ← r4 k hk]; rfl
  · rw [uI_at, if_pos ⟨rfl, rfl⟩]; exact hv
  · rw [uI_at, if_neg (by omega), g (55 + j) p (by unfold AD5; omega), ← r1 j p hj hp]
    unfold agF
    rw [if_neg (by omega), if_pos (by omega), show 55 + j - 55 = j by omega]
  · rw [uI_at, if_neg (by omega), g (59 + j) w (by unfold AD5; omega), ← r2 j w hj hw]
    unfold agF
    rw [if_neg (by omega), if_neg (by omega), if_pos (by omega), show 59 + j - 59 = j by omega]
theorem dX9_again_0 : decode cX9_again 0 = .ok (.iconst 0, 1) := by decide +kernel
theorem dX9_again_1 : decode cX9_again 1 = .ok (.istore_n 2, 1) := by decide +kernel
theorem dX9_again_2 : decode cX9_again 2 = .ok (.iload_n 2, 1) := by decide +kernel
theorem dX9_again_3 : decode cX9_again 3 = .ok (.bipush 9, 2) := by decide +kernel
theorem dX9_again_5 : decode cX9_again 5 = .ok (.if_icmp .ge 54, 3) := by decide +kernel
theorem dX9_again_8 : decode cX9_again 8 = .ok (.aload_n 0, 1) := by decide +kernel
theorem dX9_again_9 : decode cX9_again 9 = .ok (.getfield 7, 3) := by decide +kernel
theorem dX9_again_12 : decode cX9_again 12 = .ok (.iload_n 2, 1) := by decide +kernel
theorem dX9_again_13 : decode cX9_again 13 = .ok (.aload_n 1, 1) := by decide +kernel
theorem dX9_again_14 : decode cX9_again 14 = .ok (.iload_n 2, 1) := by decide +kernel
theorem dX9_again_15 : decode cX9_again 15 = .ok (.iaload, 1) := by decide +kernel
theorem dX9_again_16 : decode cX9_again 16 = .ok (.iastore, 1) := by decide +kernel
theorem dX9_again_17 : decode cX9_again 17 = .ok (.aload_n 0, 1) := by decide +kernel
theorem dX9_again_18 : decode cX9_again 18 = .ok (.getfield 13, 3) := by decide +kernel
theorem dX9_again_21 : decode cX9_again 21 = .ok (.iload_n 2, 1) := by decide +kernel
theorem dX9_again_22 : decode cX9_again 22 = .ok (.aload_n 1, 1) := by decide +kernel
theorem dX9_again_23 : decode cX9_again 23 = .ok (.bipush 9, 2) := by decide +kernel
theorem dX9_again_25 : decode cX9_again 25 = .ok (.iload_n 2, 1) := by decide +kernel
theorem dX9_again_26 : decode cX9_again 26 = .ok (.iadd, 1) := by decide +kernel
theorem dX9_again_27 : decode cX9_again 27 = .ok (.iaload, 1) := by decide +kernel
theorem dX9_again_28 : decode cX9_again 28 = .ok (.iastore, 1) := by decide +kernel
theorem dX9_again_29 : decode cX9_again 29 = .ok (.aload_n 0, 1) := by decide +kernel
theorem dX9_again_30 : decode cX9_again 30 = .ok (.getfield 16, 3) := by decide +kernel
theorem dX9_again_33 : decode cX9_again 33 = .ok (.iload_n 2, 1) := by decide +kernel
theorem dX9_again_34 : decode cX9_again 34 = .ok (.aload_n 1, 1) := by decide +kernel
theorem dX9_again_35 : decode cX9_again 35 = .ok (.bipush 18, 2) := by decide +kernel
theorem dX9_again_37 : decode cX9_again 37 = .ok (.iload_n 2, 1) := by decide +kernel
theorem dX9_again_38 : decode cX9_again 38 = .ok (.iadd, 1) := by decide +kernel
theorem dX9_again_39 : decode cX9_again 39 = .ok (.iaload, 1) := by decide +kernel
theorem dX9_again_40 : decode cX9_again 40 = .ok (.iastore, 1) := by decide +kernel
theorem dX9_again_41 : decode cX9_again 41 = .ok (.aload_n 0, 1) := by decide +kernel
theorem dX9_again_42 : decode cX9_again 42 = .ok (.getfield 19, 3) := by decide +kernel
theorem dX9_again_45 : decode cX9_again 45 = .ok (.iload_n 2, 1) := by decide +kernel
theorem dX9_again_46 : decode cX9_again 46 = .ok (.aload_n 1, 1) := by decide +kernel
theorem dX9_again_47 : decode cX9_again 47 = .ok (.bipush 27, 2) := by decide +kernel
theorem dX9_again_49 : decode cX9_again 49 = .ok (.iload_n 2, 1) := by decide +kernel
theorem dX9_again_50 : decode cX9_again 50 = .ok (.iadd, 1) := by decide +kernel
theorem dX9_again_51 : decode cX9_again 51 = .ok (.iaload, 1) := by decide +kernel
theorem dX9_again_52 : decode cX9_again 52 = .ok (.iastore, 1) := by decide +kernel
theorem dX9_again_53 : decode cX9_again 53 = .ok (.iinc 2 1, 3) := by decide +kernel
theorem dX9_again_56 : decode cX9_again 56 = .ok (.goto (-54), 3) := by decide +kernel
theorem dX9_again_59 : decode cX9_again 59 = .ok (.iconst 0, 1) := by decide +kernel
theorem dX9_again_60 : decode cX9_again 60 = .ok (.istore_n 2, 1) := by decide +kernel
theorem dX9_again_61 : decode cX9_again 61 = .ok (.iload_n 2, 1) := by decide +kernel
theorem dX9_again_62 : decode cX9_again 62 = .ok (.iconst 5, 1) := by decide +kernel
theorem dX9_again_63 : decode cX9_again 63 = .ok (.if_icmp .ge 45, 3) := by decide +kernel
theorem dX9_again_66 : decode cX9_again 66 = .ok (.aload_n 0, 1) := by decide +kernel
theorem dX9_again_67 : decode cX9_again 67 = .ok (.getfield 22, 3) := by decide +kernel
theorem dX9_again_70 : decode cX9_again 70 = .ok (.iload_n 2, 1) := by decide +kernel
theorem dX9_again_71 : decode cX9_again 71 = .ok (.aload_n 1, 1) := by decide +kernel
theorem dX9_again_72 : decode cX9_again 72 = .ok (.bipush 36, 2) := by decide +kernel
theorem dX9_again_74 : decode cX9_again 74 = .ok (.iload_n 2, 1) := by decide +kernel
theorem dX9_again_75 : decode cX9_again 75 = .ok (.iadd, 1) := by decide +kernel
theorem dX9_again_76 : decode cX9_again 76 = .ok (.iaload, 1) := by decide +kernel
theorem dX9_again_77 : decode cX9_again 77 = .ok (.iastore, 1) := by decide +kernel
theorem dX9_again_78 : decode cX9_again 78 = .ok (.aload_n 0, 1) := by decide +kernel
theorem dX9_again_79 : decode cX9_again 79 = .ok (.getfield 25, 3) := by decide +kernel
theorem dX9_again_82 : decode cX9_again 82 = .ok (.iload_n 2, 1) := by decide +kernel
theorem dX9_again_83 : decode cX9_again 83 = .ok (.aload_n 1, 1) := by decide +kernel
theorem dX9_again_84 : decode cX9_again 84 = .ok (.bipush 41, 2) := by decide +kernel
theorem dX9_again_86 : decode cX9_again 86 = .ok (.iload_n 2, 1) := by decide +kernel
theorem dX9_again_87 : decode cX9_again 87 = .ok (.iadd, 1) := by decide +kernel
theorem dX9_again_88 : decode cX9_again 88 = .ok (.iaload, 1) := by decide +kernel
theorem dX9_again_89 : decode cX9_again 89 = .ok (.iastore, 1) := by decide +kernel
theorem dX9_again_90 : decode cX9_again 90 = .ok (.aload_n 0, 1) := by decide +kernel
theorem dX9_again_91 : decode cX9_again 91 = .ok (.getfield 28, 3) := by decide +kernel
theorem dX9_again_94 : decode cX9_again 94 = .ok (.iload_n 2, 1) := by decide +kernel
theorem dX9_again_95 : decode cX9_again 95 = .ok (.aload_n 1, 1) := by decide +kernel
theorem dX9_again_96 : decode cX9_again 96 = .ok (.bipush 46, 2) := by decide +kernel
theorem dX9_again_98 : decode cX9_again 98 = .ok (.iload_n 2, 1) := by decide +kernel
theorem dX9_again_99 : decode cX9_again 99 = .ok (.iadd, 1) := by decide +kernel
theorem dX9_again_100 : decode cX9_again 100 = .ok (.iaload, 1) := by decide +kernel
theorem dX9_again_101 : decode cX9_again 101 = .ok (.iastore, 1) := by decide +kernel
theorem dX9_again_102 : decode cX9_again 102 = .ok (.iinc 2 1, 3) := by decide +kernel
theorem dX9_again_105 : decode cX9_again 105 = .ok (.goto (-44), 3) := by decide +kernel
theorem dX9_again_108 : decode cX9_again 108 = .ok (.iconst 0, 1) := by decide +kernel
theorem dX9_again_109 : decode cX9_again 109 = .ok (.istore_n 2, 1) := by decide +kernel
theorem dX9_again_110 : decode cX9_again 110 = .ok (.iload_n 2, 1) := by decide +kernel
theorem dX9_again_111 : decode cX9_again 111 = .ok (.bipush 49, 2) := by decide +kernel
theorem dX9_again_113 : decode cX9_again 113 = .ok (.if_icmp .ge 30, 3) := by decide +kernel
theorem dX9_again_116 : decode cX9_again 116 = .ok (.aload_n 0, 1) := by decide +kernel
theorem dX9_again_117 : decode cX9_again 117 = .ok (.getfield 31, 3) := by decide +kernel
theorem dX9_again_120 : decode cX9_again 120 = .ok (.iload_n 2, 1) := by decide +kernel
theorem dX9_again_121 : decode cX9_again 121 = .ok (.aload_n 1, 1) := by decide +kernel
theorem dX9_again_122 : decode cX9_again 122 = .ok (.bipush 51, 2) := by decide +kernel
theorem dX9_again_124 : decode cX9_again 124 = .ok (.iload_n 2, 1) := by decide +kernel
theorem dX9_again_125 : decode cX9_again 125 = .ok (.iadd, 1) := by decide +kernel
theorem dX9_again_126 : decode cX9_again 126 = .ok (.iaload, 1) := by decide +kernel
theorem dX9_again_127 : decode cX9_again 127 = .ok (.iconst 1, 1) := by decide +kernel
theorem dX9_again_128 : decode cX9_again 128 = .ok (.if_icmp .ne 7, 3) := by decide +kernel
theorem dX9_again_131 : decode cX9_again 131 = .ok (.iconst 1, 1) := by decide +kernel
theorem dX9_again_132 : decode cX9_again 132 = .ok (.goto 4, 3) := by decide +kernel
theorem dX9_again_135 : decode cX9_again 135 = .ok (.iconst 0, 1) := by decide +kernel
theorem dX9_again_136 : decode cX9_again 136 = .ok (.bastore, 1) := by decide +kernel
theorem dX9_again_137 : decode cX9_again 137 = .ok (.iinc 2 1, 3) := by decide +kernel
theorem dX9_again_140 : decode cX9_again 140 = .ok (.goto (-30), 3) := by decide +kernel
theorem dX9_again_143 : decode cX9_again 143 = .ok (.iconst 0, 1) := by decide +kernel
theorem dX9_again_144 : decode cX9_again 144 = .ok (.istore_n 2, 1) := by decide +kernel
theorem dX9_again_145 : decode cX9_again 145 = .ok (.iload_n 2, 1) := by decide +kernel
theorem dX9_again_146 : decode cX9_again 146 = .ok (.iconst 3, 1) := by decide +kernel
theorem dX9_again_147 : decode cX9_again 147 = .ok (.if_icmp .ge 21, 3) := by decide +kernel
theorem dX9_again_150 : decode cX9_again 150 = .ok (.aload_n 0, 1) := by decide +kernel
theorem dX9_again_151 : decode cX9_again 151 = .ok (.getfield 35, 3) := by decide +kernel
theorem dX9_again_154 : decode cX9_again 154 = .ok (.iload_n 2, 1) := by decide +kernel
theorem dX9_again_155 : decode cX9_again 155 = .ok (.aload_n 1, 1) := by decide +kernel
theorem dX9_again_156 : decode cX9_again 156 = .ok (.bipush 100, 2) := by decide +kernel
theorem dX9_again_158 : decode cX9_again 158 = .ok (.iload_n 2, 1) := by decide +kernel
theorem dX9_again_159 : decode cX9_again 159 = .ok (.iadd, 1) := by decide +kernel
theorem dX9_again_160 : decode cX9_again 160 = .ok (.iaload, 1) := by decide +kernel
theorem dX9_again_161 : decode cX9_again 161 = .ok (.iastore, 1) := by decide +kernel
theorem dX9_again_162 : decode cX9_again 162 = .ok (.iinc 2 1, 3) := by decide +kernel
theorem dX9_again_165 : decode cX9_again 165 = .ok (.goto (-20), 3) := by decide +kernel
theorem dX9_again_168 : decode cX9_again 168 = .ok (.aload_n 0, 1) := by decide +kernel
theorem dX9_again_169 : decode cX9_again 169 = .ok (.aload_n 1, 1) := by decide +kernel
theorem dX9_again_170 : decode cX9_again 170 = .ok (.bipush 103, 2) := by decide +kernel
theorem dX9_again_172 : decode cX9_again 172 = .ok (.iaload, 1) := by decide +kernel
theorem dX9_again_173 : decode cX9_again 173 = .ok (.putfield 83, 3) := by decide +kernel
theorem dX9_again_176 : decode cX9_again 176 = .ok (.aload_n 0, 1) := by decide +kernel
theorem dX9_again_177 : decode cX9_again 177 = .ok (.aload_n 1, 1) := by decide +kernel
theorem dX9_again_178 : decode cX9_again 178 = .ok (.bipush 104, 2) := by decide +kernel
theorem dX9_again_180 : decode cX9_again 180 = .ok (.iaload, 1) := by decide +kernel
theorem dX9_again_181 : decode cX9_again 181 = .ok (.putfield 90, 3) := by decide +kernel
theorem dX9_again_184 : decode cX9_again 184 = .ok (.return_, 1) := by decide +kernel
set_option maxRecDepth 20000 in
theorem l4_X9_again {G : Gl} {d : Nat} {σ0 : Sg} {K : Option Value → Sg → Prop} {c : Nat} (hc : OC c) : ∀ (n i : Nat) (σ : Sg), i + n = 3 → AgI c (AD4 i) σ0 σ → (∀ υ, AgI c AD5 σ0 υ → K none υ) → AW G d RX9 cX9_again 3 none 145 [(0, .ref (gA G 54)), (1, .ref (gA G c)), (2, .int (iI (i : Int)))] [] σ K := by
  intro n
  induction n using Nat.strongRecOn
  rename_i n ih
  intro i σ hn hI hK
  have eA : ∀ k, σ.1 c k = σ0.1 c k := fun k => hI.at hc
  refine A_iload_n (pc := 145) dX9_again_145 rfl rfl ?_
  refine A_iconst (pc := 146) dX9_again_146 ?_
  refine A_icmp_ge (pc := 147) 168 dX9_again_147 (by decide) (by omega) (by omega) (by omega) (by omega) (fun h147 => ?_) (fun h147 => ?_)
  · skip
    refine A_aload_n (pc := 168) dX9_again_168 rfl rfl ?_
    refine A_aload_n (pc := 169) dX9_again_169 rfl rfl ?_
    refine A_bipush (pc := 170) dX9_again_170 (by decide) ?_
    refine A_ialdv (pc := 172) 103 (shp_old hc) rfl (by decide) (Nat.le_of_ble_eq_true rfl) (show _ = σ0.1 c (103) from by (repeat rw [uI_at, if_neg (by omega)]); exact eA _) dX9_again_172 ?_
    refine A_putI (pc := 173) fX9_83 wr_8_0 rfl rfl dX9_again_173 ?_
    refine A_aload_n (pc := 176) dX9_again_176 rfl rfl ?_
    refine A_aload_n (pc := 177) dX9_again_177 rfl rfl ?_
    refine A_bipush (pc := 178) dX9_again_178 (by decide) ?_
    refine A_ialdv (pc := 180) 104 (shp_old hc) rfl (by decide) (Nat.le_of_ble_eq_true rfl) (show _ = σ0.1 c (104) from by (repeat rw [uI_at, if_neg (by omega)]); exact eA _) dX9_again_180 ?_
    refine A_putI (pc := 181) fX9_90 wr_8_5 rfl rfl dX9_again_181 ?_
    refine A_vret (pc := 184) rfl dX9_again_184 ?_
    have hn0 : n = 0 := by omega
    subst hn0
    refine hK _ (AgI.u (a := 54) (x := 5) (AgI.u (a := 54) (x := 0) (E := fun b y => (b = 54 ∧ y = 0) ∨ AD4 i b y) hI (by omega) (by omega) rfl (fun b y q => q)) (by omega) (by omega) rfl (fun b y q => by unfold AD5 at q; unfold AD4; omega))
  · skip
    refine A_aload_n (pc := 150) dX9_again_150 rfl rfl ?_
    refine A_getR (pc := 151) fX9_35 rfl rfl dX9_again_151 ?_
    refine A_iload_n (pc := 154) dX9_again_154 rfl rfl ?_
    refine A_aload_n (pc := 155) dX9_again_155 rfl rfl ?_
    refine A_bipush (pc := 156) dX9_again_156 (by decide) ?_
    refine A_iload_n (pc := 158) dX9_again_158 rfl rfl ?_
    refine A_iadd (pc := 159) dX9_again_159 ?_
    refine A_ialdv (pc := 160) (100 + i) (shp_old hc) (by omega) (by omega) (Nat.le_of_ble_eq_true rfl) (show _ = σ0.1 c (100 + i) from by (repeat rw [uI_at, if_neg (by omega)]); exact eA _) dX9_again_160 ?_
    refine A_iast (pc := 161) i rfl rfl (by omega) (Nat.le_of_ble_eq_true rfl) dX9_again_161 ?_
    refine A_iinc (pc := 162) dX9_again_162 rfl (Nat.le_of_ble_eq_true rfl) ?_
    refine A_goto (pc := 165) 145 dX9_again_165 (by decide) ?_
    obtain ⟨u, rfl⟩ : ∃ u, n = u + 1 := ⟨n - 1, by omega⟩
    refine A_loc (l2 := [(0, _), (1, _), (2, _)]) ⟨rfl, rfl, rfl, trivial⟩ ?_
    refine ih u (by omega) (i + 1) _ (by omega) (AgI.u (a := 63) (x := i) (E := AD4 (i + 1)) hI (by omega) (by omega) rfl (fun b y q => by unfold AD4 at q ⊢; omega)) hK
set_option maxRecDepth 20000 in
theorem l3_X9_again {G : Gl} {d : Nat} {σ0 : Sg} {K : Option Value → Sg → Prop} {c : Nat} (hc : OC c) {τ : Tw} (hM : RMk c τ σ0) : ∀ (n i : Nat) (σ : Sg), i + n = 49 → AgI c (AD3 i) σ0 σ → (∀ υ, AgI c (AD4 0) σ0 υ → AW G d RX9 cX9_again 3 none 145 [(0, .ref (gA G 54)), (1, .ref (gA G c)), (2, .int (iI ((0 : Nat) : Int)))] [] υ K) → AW G d RX9 cX9_again 3 none 110 [(0, .ref (gA G 54)), (1, .ref (gA G c)), (2, .int (iI (i : Int)))] [] σ K := by
  intro n
  induction n using Nat.strongRecOn
  rename_i n ih
  intro i σ hn hI hK
  have eA : ∀ k, σ.1 c k = σ0.1 c k := fun k => hI.at hc
  refine A_iload_n (pc := 110) dX9_again_110 rfl rfl ?_
  refine A_bipush (pc := 111) dX9_again_111 (by decide) ?_
  refine A_icmp_ge (pc := 113) 143 dX9_again_113 (by decide) (by omega) (by omega) (by omega) (by omega) (fun h113 => ?_) (fun h113 => ?_)
  · skip
    refine A_iconst (pc := 143) dX9_again_143 ?_
    refine A_istore_n (pc := 144) dX9_again_144 rfl (Nat.le_of_ble_eq_true rfl) ?_
    have hn0 : n = 0 := by omega
    subst hn0
    refine A_loc (l2 := [(0, _), (1, _), (2, _)]) ⟨rfl, rfl, rfl, trivial⟩ ?_
    exact hK σ (hI.wk (fun b y q => by unfold AD4 at q; unfold AD3; omega))
  · skip
    refine A_aload_n (pc := 116) dX9_again_116 rfl rfl ?_
    refine A_getR (pc := 117) fX9_31 rfl rfl dX9_again_117 ?_
    refine A_iload_n (pc := 120) dX9_again_120 rfl rfl ?_
    refine A_aload_n (pc := 121) dX9_again_121 rfl rfl ?_
    refine A_bipush (pc := 122) dX9_again_122 (by decide) ?_
    refine A_iload_n (pc := 124) dX9_again_124 rfl rfl ?_
    refine A_iadd (pc := 125) dX9_again_125 ?_
    refine A_ialdv (pc := 126) (51 + i) (shp_old hc) (by omega) (by omega) (Nat.le_of_ble_eq_true rfl) ((eA _).trans (hM.2.2.1 i (by omega))) dX9_again_126 ?_
    refine A_iconst (pc := 127) dX9_again_127 ?_
    refine A_icmp_ne (pc := 128) 135 dX9_again_128 (by decide) (bI_lo _) (bI_hi _) (by omega) (by omega) (fun h128 => ?_) (fun h128 => ?_)
    · skip
      refine A_iconst (pc := 135) dX9_again_135 ?_
      refine A_zast (pc := 136) i rfl rfl (by omega) (Nat.le_of_ble_eq_true rfl) rfl dX9_again_136 ?_
      refine A_iinc (pc := 137) dX9_again_137 rfl (Nat.le_of_ble_eq_true rfl) ?_
      refine A_goto (pc := 140) 110 dX9_again_140 (by decide) ?_
      obtain ⟨u, rfl⟩ : ∃ u, n = u + 1 := ⟨n - 1, by omega⟩
      refine A_loc (l2 := [(0, _), (1, _), (2, _)]) ⟨rfl, rfl, rfl, trivial⟩ ?_
      refine ih u (by omega) (i + 1) _ (by omega) (AgI.u (a := 62) (x := i) hI (by omega) (by omega) ?_ (fun b y q => by unfold AD3 at q ⊢; omega)) hK
      show _ = σ0.1 c (51 + i)
      rw [hM.2.2.1 i (by omega)]
      exact (bI_0 h128).symm
    · skip
      refine A_iconst (pc := 131) dX9_again_131 ?_
      refine A_goto (pc := 132) 136 dX9_again_132 (by decide) ?_
      refine A_zast (pc := 136) i rfl rfl (by omega) (Nat.le_of_ble_eq_true rfl) rfl dX9_again_136 ?_
      refine A_iinc (pc := 137) dX9_again_137 rfl (Nat.le_of_ble_eq_true rfl) ?_
      refine A_goto (pc := 140) 110 dX9_again_140 (by decide) ?_
      obtain ⟨u, rfl⟩ : ∃ u, n = u + 1 := ⟨n - 1, by omega⟩
      refine A_loc (l2 := [(0, _), (1, _), (2, _)]) ⟨rfl, rfl, rfl, trivial⟩ ?_
      refine ih u (by omega) (i + 1) _ (by omega) (AgI.u (a := 62) (x := i) hI (by omega) (by omega) ?_ (fun b y q => by unfold AD3 at q ⊢; omega)) hK
      show _ = σ0.1 c (51 + i)
      rw [hM.2.2.1 i (by omega)]
      exact h128.symm
set_option maxRecDepth 20000 in
theorem l2_X9_again {G : Gl} {d : Nat} {σ0 : Sg} {K : Option Value → Sg → Prop} {c : Nat} (hc : OC c) : ∀ (n i : Nat) (σ : Sg), i + n = 5 → AgI c (AD2 i) σ0 σ → (∀ υ, AgI c (AD3 0) σ0 υ → AW G d RX9 cX9_again 3 none 110 [(0, .ref (gA G 54)), (1, .ref (gA G c)), (2, .int (iI ((0 : Nat) : Int)))] [] υ K) → AW G d RX9 cX9_again 3 none 61 [(0, .ref (gA G 54)), (1, .ref (gA G c)), (2, .int (iI (i : Int)))] [] σ K := by
  intro n
  induction n using Nat.strongRecOn
  rename_i n ih
  intro i σ hn hI hK
  have eA : ∀ k, σ.1 c k = σ0.1 c k := fun k => hI.at hc
  refine A_iload_n (pc := 61) dX9_again_61 rfl rfl ?_
  refine A_iconst (pc := 62) dX9_again_62 ?_
  refine A_icmp_ge (pc := 63) 108 dX9_again_63 (by decide) (by omega) (by omega) (by omega) (by omega) (fun h63 => ?_) (fun h63 => ?_)
  · skip
    refine A_iconst (pc := 108) dX9_again_108 ?_
    refine A_istore_n (pc := 109) dX9_again_109 rfl (Nat.le_of_ble_eq_true rfl) ?_
    have hn0 : n = 0 := by omega
    subst hn0
    refine A_loc (l2 := [(0, _), (1, _), (2, _)]) ⟨rfl, rfl, rfl, trivial⟩ ?_
    exact hK σ (hI.wk (fun b y q => by unfold AD3 at q; unfold AD2; omega))
  · skip
    refine A_aload_n (pc := 66) dX9_again_66 rfl rfl ?_
    refine A_getR (pc := 67) fX9_22 rfl rfl dX9_again_67 ?_
    refine A_iload_n (pc := 70) dX9_again_70 rfl rfl ?_
    refine A_aload_n (pc := 71) dX9_again_71 rfl rfl ?_
    refine A_bipush (pc := 72) dX9_again_72 (by decide) ?_
    refine A_iload_n (pc := 74) dX9_again_74 rfl rfl ?_
    refine A_iadd (pc := 75) dX9_again_75 ?_
    refine A_ialdv (pc := 76) (36 + i) (shp_old hc) (by omega) (by omega) (Nat.le_of_ble_eq_true rfl) (show _ = σ0.1 c (36 + i) from by (repeat rw [uI_at, if_neg (by omega)]); exact eA _) dX9_again_76 ?_
    refine A_iast (pc := 77) i rfl rfl (by omega) (Nat.le_of_ble_eq_true rfl) dX9_again_77 ?_
    refine A_aload_n (pc := 78) dX9_again_78 rfl rfl ?_
    refine A_getR (pc := 79) fX9_25 rfl rfl dX9_again_79 ?_
    refine A_iload_n (pc := 82) dX9_again_82 rfl rfl ?_
    refine A_aload_n (pc := 83) dX9_again_83 rfl rfl ?_
    refine A_bipush (pc := 84) dX9_again_84 (by decide) ?_
    refine A_iload_n (pc := 86) dX9_again_86 rfl rfl ?_
    refine A_iadd (pc := 87) dX9_again_87 ?_
    refine A_ialdv (pc := 88) (41 + i) (shp_old hc) (by omega) (by omega) (Nat.le_of_ble_eq_true rfl) (show _ = σ0.1 c (41 + i) from by (repeat rw [uI_at, if_neg (by omega)]); exact eA _) dX9_again_88 ?_
    refine A_iast (pc := 89) i rfl rfl (by omega) (Nat.le_of_ble_eq_true rfl) dX9_again_89 ?_
    refine A_aload_n (pc := 90) dX9_again_90 rfl rfl ?_
    refine A_getR (pc := 91) fX9_28 rfl rfl dX9_again_91 ?_
    refine A_iload_n (pc := 94) dX9_again_94 rfl rfl ?_
    refine A_aload_n (pc := 95) dX9_again_95 rfl rfl ?_
    refine A_bipush (pc := 96) dX9_again_96 (by decide) ?_
    refine A_iload_n (pc := 98) dX9_again_98 rfl rfl ?_
    refine A_iadd (pc := 99) dX9_again_99 ?_
    refine A_ialdv (pc := 100) (46 + i) (shp_old hc) (by omega) (by omega) (Nat.le_of_ble_eq_true rfl) (show _ = σ0.1 c (46 + i) from by (repeat rw [uI_at, if_neg (by omega)]); exact eA _) dX9_again_100 ?_
    refine A_iast (pc := 101) i rfl rfl (by omega) (Nat.le_of_ble_eq_true rfl) dX9_again_101 ?_
    refine A_iinc (pc := 102) dX9_again_102 rfl (Nat.le_of_ble_eq_true rfl) ?_
    refine A_goto (pc := 105) 61 dX9_again_105 (by decide) ?_
    obtain ⟨u, rfl⟩ : ∃ u, n = u + 1 := ⟨n - 1, by omega⟩
    refine A_loc (l2 := [(0, _), (1, _), (2, _)]) ⟨rfl, rfl, rfl, trivial⟩ ?_
    refine ih u (by omega) (i + 1) _ (by omega) (AgI.u (a := 61) (x := i) (E := AD2 (i + 1)) (AgI.u (a := 60) (x := i) (E := fun b y => (b = 60 ∧ y = i) ∨ (b = 59 ∧ y = i) ∨ AD2 i b y) (AgI.u (a := 59) (x := i) (E := fun b y => (b = 59 ∧ y = i) ∨ AD2 i b y) hI (by omega) (by omega) rfl (fun b y q => q)) (by omega) (by omega) rfl (fun b y q => q)) (by omega) (by omega) rfl (fun b y q => by unfold AD2 at q ⊢; omega)) hK
set_option maxRecDepth 20000 in
theorem l1_X9_again {G : Gl} {d : Nat} {σ0 : Sg} {K : Option Value → Sg → Prop} {c : Nat} (hc : OC c) : ∀ (n i : Nat) (σ : Sg), i + n = 9 → AgI c (AD1 i) σ0 σ → (∀ υ, AgI c (AD2 0) σ0 υ → AW G d RX9 cX9_again 3 none 61 [(0, .ref (gA G 54)), (1, .ref (gA G c)), (2, .int (iI ((0 : Nat) : Int)))] [] υ K) → AW G d RX9 cX9_again 3 none 2 [(0, .ref (gA G 54)), (1, .ref (gA G c)), (2, .int (iI (i : Int)))] [] σ K := by
  intro n
  induction n using Nat.strongRecOn
  rename_i n ih
  intro i σ hn hI hK
  have eA : ∀ k, σ.1 c k = σ0.1 c k := fun k => hI.at hc
  refine A_iload_n (pc := 2) dX9_again_2 rfl rfl ?_
  refine A_bipush (pc := 3) dX9_again_3 (by decide) ?_
  refine A_icmp_ge (pc := 5) 59 dX9_again_5 (by decide) (by omega) (by omega) (by omega) (by omega) (fun h5 => ?_) (fun h5 => ?_)
  · skip
    refine A_iconst (pc := 59) dX9_again_59 ?_
    refine A_istore_n (pc := 60) dX9_again_60 rfl (Nat.le_of_ble_eq_true rfl) ?_
    have hn0 : n = 0 := by omega
    subst hn0
    refine A_loc (l2 := [(0, _), (1, _), (2, _)]) ⟨rfl, rfl, rfl, trivial⟩ ?_
    exact hK σ (hI.wk (fun b y q => by unfold AD2 at q; unfold AD1; omega))
  · skip
    refine A_aload_n (pc := 8) dX9_again_8 rfl rfl ?_
    refine A_getR (pc := 9) fX9_7 rfl rfl dX9_again_9 ?_
    refine A_iload_n (pc := 12) dX9_again_12 rfl rfl ?_
    refine A_aload_n (pc := 13) dX9_again_13 rfl rfl ?_
    refine A_iload_n (pc := 14) dX9_again_14 rfl rfl ?_
    refine A_ialdv (pc := 15) i (shp_old hc) rfl (by omega) (Nat.le_of_ble_eq_true rfl) (show _ = σ0.1 c (9 * (55 - 55) + i) from by rw [show 9 * (55 - 55) + i = i by omega]; exact eA _) dX9_again_15 ?_
    refine A_iast (pc := 16) i rfl rfl (by omega) (Nat.le_of_ble_eq_true rfl) dX9_again_16 ?_
    refine A_aload_n (pc := 17) dX9_again_17 rfl rfl ?_
    refine A_getR (pc := 18) fX9_13 rfl rfl dX9_again_18 ?_
    refine A_iload_n (pc := 21) dX9_again_21 rfl rfl ?_
    refine A_aload_n (pc := 22) dX9_again_22 rfl rfl ?_
    refine A_bipush (pc := 23) dX9_again_23 (by decide) ?_
    refine A_iload_n (pc := 25) dX9_again_25 rfl rfl ?_
    refine A_iadd (pc := 26) dX9_again_26 ?_
    refine A_ialdv (pc := 27) (9 + i) (shp_old hc) (by omega) (by omega) (Nat.le_of_ble_eq_true rfl) (show _ = σ0.1 c (9 + i) from by (repeat rw [uI_at, if_neg (by omega)]); exact eA _) dX9_again_27 ?_
    refine A_iast (pc := 28) i rfl rfl (by omega) (Nat.le_of_ble_eq_true rfl) dX9_again_28 ?_
    refine A_aload_n (pc := 29) dX9_again_29 rfl rfl ?_
    refine A_getR (pc := 30) fX9_16 rfl rfl dX9_again_30 ?_
    refine A_iload_n (pc := 33) dX9_again_33 rfl rfl ?_
    refine A_aload_n (pc := 34) dX9_again_34 rfl rfl ?_
    refine A_bipush (pc := 35) dX9_again_35 (by decide) ?_
    refine A_iload_n (pc := 37) dX9_again_37 rfl rfl ?_
    refine A_iadd (pc := 38) dX9_again_38 ?_
    refine A_ialdv (pc := 39) (18 + i) (shp_old hc) (by omega) (by omega) (Nat.le_of_ble_eq_true rfl) (show _ = σ0.1 c (18 + i) from by (repeat rw [uI_at, if_neg (by omega)]); exact eA _) dX9_again_39 ?_
    refine A_iast (pc := 40) i rfl rfl (by omega) (Nat.le_of_ble_eq_true rfl) dX9_again_40 ?_
    refine A_aload_n (pc := 41) dX9_again_41 rfl rfl ?_
    refine A_getR (pc := 42) fX9_19 rfl rfl dX9_again_42 ?_
    refine A_iload_n (pc := 45) dX9_again_45 rfl rfl ?_
    refine A_aload_n (pc := 46) dX9_again_46 rfl rfl ?_
    refine A_bipush (pc := 47) dX9_again_47 (by decide) ?_
    refine A_iload_n (pc := 49) dX9_again_49 rfl rfl ?_
    refine A_iadd (pc := 50) dX9_again_50 ?_
    refine A_ialdv (pc := 51) (27 + i) (shp_old hc) (by omega) (by omega) (Nat.le_of_ble_eq_true rfl) (show _ = σ0.1 c (27 + i) from by (repeat rw [uI_at, if_neg (by omega)]); exact eA _) dX9_again_51 ?_
    refine A_iast (pc := 52) i rfl rfl (by omega) (Nat.le_of_ble_eq_true rfl) dX9_again_52 ?_
    refine A_iinc (pc := 53) dX9_again_53 rfl (Nat.le_of_ble_eq_true rfl) ?_
    refine A_goto (pc := 56) 2 dX9_again_56 (by decide) ?_
    obtain ⟨u, rfl⟩ : ∃ u, n = u + 1 := ⟨n - 1, by omega⟩
    refine A_loc (l2 := [(0, _), (1, _), (2, _)]) ⟨rfl, rfl, rfl, trivial⟩ ?_
    refine ih u (by omega) (i + 1) _ (by omega) (AgI.u (a := 58) (x := i) (E := AD1 (i + 1)) (AgI.u (a := 57) (x := i) (E := fun b y => (b = 57 ∧ y = i) ∨ (b = 56 ∧ y = i) ∨ (b = 55 ∧ y = i) ∨ AD1 i b y) (AgI.u (a := 56) (x := i) (E := fun b y => (b = 56 ∧ y = i) ∨ (b = 55 ∧ y = i) ∨ AD1 i b y) (AgI.u (a := 55) (x := i) (E := fun b y => (b = 55 ∧ y = i) ∨ AD1 i b y) hI (by omega) (by omega) rfl (fun b y q => q)) (by omega) (by omega) rfl (fun b y q => q)) (by omega) (by omega) rfl (fun b y q => q)) (by omega) (by omega) rfl (fun b y q => by unfold AD1 at q ⊢; omega)) hK
set_option maxRecDepth 20000 in
theorem c_X9_again {G : Gl} {d : Nat} {σ : Sg} {c : Nat} (hc : OC c) {τ : Tw} (hM : RMk c τ σ) : CT G d yX9_again cX9_again 3 none [.ref (gA G 54), .ref (gA G c)] σ (RE none (fun υ => AgI c AD5 σ υ)) := by
  refine CT.of (by decide +kernel) (Nat.le_of_ble_eq_true rfl) ?_
  change AW G _ RX9 _ _ _ 0 [(0, .ref (gA G 54)), (1, .ref (gA G c))] [] _ _
  refine A_iconst (pc := 0) dX9_again_0 ?_
  refine A_istore_n (pc := 1) dX9_again_1 rfl (Nat.le_of_ble_eq_true rfl) ?_
  refine A_loc (l2 := [(0, _), (1, _), (2, _)]) ⟨rfl, rfl, rfl, trivial⟩ ?_
  exact l1_X9_again (σ0 := σ) hc 9 0 σ rfl ⟨Fr.rf, fun _ _ _ => rfl, fun a x hx => absurd hx.2.2 (Nat.not_lt_zero _)⟩ (fun υ1 h1 => l2_X9_again hc 5 0 υ1 rfl h1 (fun υ2 h2 => l3_X9_again hc hM 49 0 υ2 rfl h2 (fun υ3 h3 => l4_X9_again hc 3 0 υ3 rfl h3 (fun υ h => ⟨rfl, h⟩))))
theorem c_X9_isRow2 {G : Gl} {d : Nat} {σ : Sg} {Z : Zt} (hZ : RelM Z σ) (hS : OkS Z) {k : Nat} (k8 : k < 8) : CT G d yX9_isRow cX9_isRow 2 (some .boolean) [.ref (gA G 54), .int (iI (k : Int))] σ (R1 (.int (iI (bI (100 ≤ Z.2.1.1 k)))) σ) := by
  have ks := hZ.2.1 k k8
  obtain ⟨kb1, kb2, kb3, kb4⟩ := hS k k8
  refine CT.of (by decide +kernel) (Nat.le_of_ble_eq_true rfl) ?_
  change AW G _ RX9 _ _ _ 0 [(0, .ref (gA G 54)), (1, .int (iI (k : Int)))] [] _ _
  refine A_aload_n (pc := 0) dX9_isRow_0 rfl rfl ?_
  refine A_getR (pc := 1) fX9_38 rfl rfl dX9_isRow_1 ?_
  refine A_iload_n (pc := 4) dX9_isRow_4 rfl rfl ?_
  refine A_ialdv (pc := 5) _ rfl rfl (by omega) (Nat.le_of_ble_eq_true rfl) ks.1 dX9_isRow_5 ?_
  refine A_bipush (pc := 6) dX9_isRow_6 (by decide) ?_
  refine A_icmp_lt (pc := 8) 15 dX9_isRow_8 (by decide) (by omega) (by omega) (by omega) (by omega) (fun h8 => ?_) (fun h8 => ?_)
  · skip
    refine A_iconst (pc := 15) dX9_isRow_15 ?_
    refine A_zret (pc := 16) rfl rfl dX9_isRow_16 ?_
    exact R1_f (by omega)
  · skip
    refine A_iconst (pc := 11) dX9_isRow_11 ?_
    refine A_goto (pc := 12) 16 dX9_isRow_12 (by decide) ?_
    refine A_zret (pc := 16) rfl rfl dX9_isRow_16 ?_
    exact R1_t (by omega)
theorem dX9_restore_0 : decode cX9_restore 0 = .ok (.aload_n 0, 1) := by decide +kernel
theorem dX9_restore_1 : decode cX9_restore 1 = .ok (.getfield 307, 3) := by decide +kernel
theorem dX9_restore_4 : decode cX9_restore 4 = .ok (.ifCond .ne 10, 3) := by decide +kernel
theorem dX9_restore_7 : decode cX9_restore 7 = .ok (.aload_n 0, 1) := by decide +kernel
theorem dX9_restore_8 : decode cX9_restore 8 = .ok (.bipush (-6), 2) := by decide +kernel
theorem dX9_restore_10 : decode cX9_restore 10 = .ok (.invokevirtual 79, 3) := by decide +kernel
theorem dX9_restore_13 : decode cX9_restore 13 = .ok (.ireturn, 1) := by decide +kernel
theorem dX9_restore_14 : decode cX9_restore 14 = .ok (.aload_n 0, 1) := by decide +kernel
theorem dX9_restore_15 : decode cX9_restore 15 = .ok (.aload_n 0, 1) := by decide +kernel
theorem dX9_restore_16 : decode cX9_restore 16 = .ok (.getfield 60, 3) := by decide +kernel
theorem dX9_restore_19 : decode cX9_restore 19 = .ok (.invokevirtual 220, 3) := by decide +kernel
theorem dX9_restore_22 : decode cX9_restore 22 = .ok (.aload_n 0, 1) := by decide +kernel
theorem dX9_restore_23 : decode cX9_restore 23 = .ok (.aload_n 0, 1) := by decide +kernel
theorem dX9_restore_24 : decode cX9_restore 24 = .ok (.getfield 311, 3) := by decide +kernel
theorem dX9_restore_27 : decode cX9_restore 27 = .ok (.putfield 72, 3) := by decide +kernel
theorem dX9_restore_30 : decode cX9_restore 30 = .ok (.iconst 0, 1) := by decide +kernel
theorem dX9_restore_31 : decode cX9_restore 31 = .ok (.istore_n 1, 1) := by decide +kernel
theorem dX9_restore_32 : decode cX9_restore 32 = .ok (.iload_n 1, 1) := by decide +kernel
theorem dX9_restore_33 : decode cX9_restore 33 = .ok (.bipush 8, 2) := by decide +kernel
theorem dX9_restore_35 : decode cX9_restore 35 = .ok (.if_icmp .ge 37, 3) := by decide +kernel
theorem dX9_restore_38 : decode cX9_restore 38 = .ok (.aload_n 0, 1) := by decide +kernel
theorem dX9_restore_39 : decode cX9_restore 39 = .ok (.iload_n 1, 1) := by decide +kernel
theorem dX9_restore_40 : decode cX9_restore 40 = .ok (.invokevirtual 97, 3) := by decide +kernel
theorem dX9_restore_43 : decode cX9_restore 43 = .ok (.ifCond .ne 23, 3) := by decide +kernel
theorem dX9_restore_46 : decode cX9_restore 46 = .ok (.aload_n 0, 1) := by decide +kernel
theorem dX9_restore_47 : decode cX9_restore 47 = .ok (.getfield 38, 3) := by decide +kernel
theorem dX9_restore_50 : decode cX9_restore 50 = .ok (.iload_n 1, 1) := by decide +kernel
theorem dX9_restore_51 : decode cX9_restore 51 = .ok (.iaload, 1) := by decide +kernel
theorem dX9_restore_52 : decode cX9_restore 52 = .ok (.aload_n 0, 1) := by decide +kernel
theorem dX9_restore_53 : decode cX9_restore 53 = .ok (.getfield 83, 3) := by decide +kernel
theorem dX9_restore_56 : decode cX9_restore 56 = .ok (.if_icmp .lt 10, 3) := by decide +kernel
theorem dX9_restore_59 : decode cX9_restore 59 = .ok (.aload_n 0, 1) := by decide +kernel
theorem dX9_restore_60 : decode cX9_restore 60 = .ok (.getfield 38, 3) := by decide +kernel
theorem dX9_restore_63 : decode cX9_restore 63 = .ok (.iload_n 1, 1) := by decide +kernel
theorem dX9_restore_64 : decode cX9_restore 64 = .ok (.iconst (-1), 1) := by decide +kernel
theorem dX9_restore_65 : decode cX9_restore 65 = .ok (.iastore, 1) := by decide +kernel
theorem dX9_restore_66 : decode cX9_restore 66 = .ok (.iinc 1 1, 3) := by decide +kernel
theorem dX9_restore_69 : decode cX9_restore 69 = .ok (.goto (-37), 3) := by decide +kernel
theorem dX9_restore_72 : decode cX9_restore 72 = .ok (.aload_n 0, 1) := by decide +kernel
theorem dX9_restore_73 : decode cX9_restore 73 = .ok (.getfield 83, 3) := by decide +kernel
theorem dX9_restore_76 : decode cX9_restore 76 = .ok (.ireturn, 1) := by decide +kernel
set_option maxRecDepth 20000 in
theorem l_X9_restore {G : Gl} {d : Nat} {σ0 : Sg} {K : Option Value → Sg → Prop} {τ : Tw} (hT : OkT τ) : ∀ (n i : Nat) (Z : Zt) (σ : Sg), i + n = 8 → Z.1 = τ → RelM Z σ → OkS Z → Fr MC σ0 σ → (∀ υ, RelM (rstG τ n i Z) υ → Fr MC σ0 υ → K (some (.int (iI (τ.2.1 0)))) υ) → AW G (d + 1) RX9 cX9_restore 2 (some .int) 32 [(0, .ref (gA G 54)), (1, .int (iI (i : Int)))] [] σ K := by
  intro n
  induction n using Nat.strongRecOn
  rename_i n ih
  intro i Z σ hn hZt hZ hS hF hK
  have o2 := hT.2.1
  have o3 := hT.2.2.1
  have pn : σ.1 54 0 = τ.2.1 0 := by rw [← hZt]; exact hZ.1.2.1
  refine A_iload_n (pc := 32) dX9_restore_32 rfl rfl ?_
  refine A_bipush (pc := 33) dX9_restore_33 (by decide) ?_
  refine A_icmp_ge (pc := 35) 72 dX9_restore_35 (by decide) (by omega) (by omega) (by omega) (by omega) (fun h35 => ?_) (fun h35 => ?_)
  · skip
    refine A_aload_n (pc := 72) dX9_restore_72 rfl rfl ?_
    refine A_getIv (pc := 73) fX9_83 rfl rfl pn dX9_restore_73 ?_
    refine A_iret (pc := 76) rfl dX9_restore_76 ?_
    have hn0 : n = 0 := by omega
    subst hn0
    exact hK σ hZ hF
  · skip
    have i8 : i < 8 := by omega
    have ks := hZ.2.1 i i8
    have ko := hS i i8
    obtain ⟨b1, b2, b3, b4⟩ := id ko
    refine A_aload_n (pc := 38) dX9_restore_38 rfl rfl ?_
    refine A_iload_n (pc := 39) dX9_restore_39 rfl rfl ?_
    refine A_callV1 (pc := 40) kX9_97 rfl rfl (c_X9_isRow2 hZ hS i8) dX9_restore_40 rfl rfl (Nat.le_of_ble_eq_true rfl) (Nat.le_of_ble_eq_true rfl) ?_
    refine A_ifb_ne (pc := 43) 66 dX9_restore_43 (by decide) (fun h43 => ?_) (fun h43 => ?_)
    · skip
      refine A_iinc (pc := 66) dX9_restore_66 rfl (Nat.le_of_ble_eq_true rfl) ?_
      refine A_goto (pc := 69) 32 dX9_restore_69 (by decide) ?_
      obtain ⟨u, rfl⟩ : ∃ u, n = u + 1 := ⟨n - 1, by omega⟩
      refine A_loc (l2 := [(0, _), (1, _)]) ⟨rfl, rfl, trivial⟩ ?_
      refine ih u (by omega) (i + 1) Z σ (by omega) hZt hZ hS hF (fun υ g1 g2 => hK υ (by rw [rstG_n (by omega)]; exact g1) g2)
    · skip
      refine A_aload_n (pc := 46) dX9_restore_46 rfl rfl ?_
      refine A_getR (pc := 47) fX9_38 rfl rfl dX9_restore_47 ?_
      refine A_iload_n (pc := 50) dX9_restore_50 rfl rfl ?_
      refine A_ialdv (pc := 51) _ rfl rfl (by omega) (Nat.le_of_ble_eq_true rfl) ks.1 dX9_restore_51 ?_
      refine A_aload_n (pc := 52) dX9_restore_52 rfl rfl ?_
      refine A_getIv (pc := 53) fX9_83 rfl rfl pn dX9_restore_53 ?_
      refine A_icmp_lt (pc := 56) 66 dX9_restore_56 (by decide) (by omega) (by omega) (by omega) (by omega) (fun h56 => ?_) (fun h56 => ?_)
      · skip
        refine A_iinc (pc := 66) dX9_restore_66 rfl (Nat.le_of_ble_eq_true rfl) ?_
        refine A_goto (pc := 69) 32 dX9_restore_69 (by decide) ?_
        obtain ⟨u, rfl⟩ : ∃ u, n = u + 1 := ⟨n - 1, by omega⟩
        refine A_loc (l2 := [(0, _), (1, _)]) ⟨rfl, rfl, trivial⟩ ?_
        refine ih u (by omega) (i + 1) Z σ (by omega) hZt hZ hS hF (fun υ g1 g2 => hK υ (by rw [rstG_n (by omega)]; exact g1) g2)
      · skip
        refine A_aload_n (pc := 59) dX9_restore_59 rfl rfl ?_
        refine A_getR (pc := 60) fX9_38 rfl rfl dX9_restore_60 ?_
        refine A_iload_n (pc := 63) dX9_restore_63 rfl rfl ?_
        refine A_iconst (pc := 64) dX9_restore_64 ?_
        refine A_iast (pc := 65) _ rfl rfl (by omega) (Nat.le_of_ble_eq_true rfl) dX9_restore_65 ?_
        refine A_iinc (pc := 66) dX9_restore_66 rfl (Nat.le_of_ble_eq_true rfl) ?_
        refine A_goto (pc := 69) 32 dX9_restore_69 (by decide) ?_
        obtain ⟨u, rfl⟩ : ∃ u, n = u + 1 := ⟨n - 1, by omega⟩
        refine A_loc (l2 := [(0, _), (1, _)]) ⟨rfl, rfl, trivial⟩ ?_
        have hFs : Fr (fun a => a = 64 ∨ a = 65 ∨ a = 66) σ (uI σ 64 i (-1)) := Fr.rf.uI (Or.inl rfl)
        have hR2 : RelM (zShelf Z i (-1) 0 (Z.2.1.2.2 i)) (uI σ 64 i (-1)) := by
          refine hZ.shelf hFs (fun b hb => ?_) (fun b hb => ⟨fun e q => by omega, fun e => by rw [uI_at, if_neg (by omega)]⟩) (fun b hb x hx => ?_)
          · rw [uI_at]; by_cases e : b = i
            · rw [if_pos ⟨rfl, e⟩, if_pos e]
            · rw [if_neg (fun z => e z.2), if_neg e]
          · by_cases e : b = i
            · rw [if_pos e, e]; exact ks.2.2 x hx
            · rw [if_neg e]; rfl
        refine ih u (by omega) (i + 1) (zShelf Z i (-1) 0 (Z.2.1.2.2 i)) _ (by omega) hZt hR2 (hS.no i) (hF.tr (hFs.mono MC66)) (fun ω g1 g2 => hK ω (by rw [rstG_y (by omega)]; exact g1) g2)
set_option maxRecDepth 20000 in
theorem c_X9_restore {G : Gl} {d : Nat} {σ : Sg} {Z : Zt} (hZ : RelM Z σ) (hO : OkZ Z) : CT G (d + 2) yX9_restore cX9_restore 2 (some .int) [.ref (gA G 54)] σ (RE (some (.int (iI (qRestore Z).1))) (fun υ => RelM (qRestore Z).2 υ ∧ Fr MC σ υ)) := by
  refine CT.of (by decide +kernel) (Nat.le_of_ble_eq_true rfl) ?_
  change AW G _ RX9 _ _ _ 0 [(0, .ref (gA G 54))] [] _ _
  refine A_aload_n (pc := 0) dX9_restore_0 rfl rfl ?_
  refine A_getIv (pc := 1) fX9_307 rfl rfl hZ.2.2.1.1 dX9_restore_1 ?_
  refine A_ifb_ne (pc := 4) 14 dX9_restore_4 (by decide) (fun h4 => ?_) (fun h4 => ?_)
  · skip
    refine A_aload_n (pc := 14) dX9_restore_14 rfl rfl ?_
    refine A_aload_n (pc := 15) dX9_restore_15 rfl rfl ?_
    refine A_getR (pc := 16) fX9_60 rfl rfl dX9_restore_16 ?_
    refine A_callVe0 (pc := 19) kX9_220 rfl rfl (c_X9_again (Or.inr rfl) (hZ.2.2.1.2 h4).rmk) dX9_restore_19 rfl rfl (Nat.le_of_ble_eq_true rfl) (Nat.le_of_ble_eq_true rfl) (fun υ hυ => ?_)
    refine A_aload_n (pc := 22) dX9_restore_22 rfl rfl ?_
    refine A_aload_n (pc := 23) dX9_restore_23 rfl rfl ?_
    refine A_getIv (pc := 24) fX9_311 rfl rfl ((hυ.2.1 25 (by decide) (by decide)).trans (hZ.2.2.1.2 h4).2.2.2.2.2.2) dX9_restore_24 ?_
    refine A_putI (pc := 27) fX9_72 wr_8_11 rfl rfl dX9_restore_27 ?_
    refine A_iconst (pc := 30) dX9_restore_30 ?_
    refine A_istore_n (pc := 31) dX9_restore_31 rfl (Nat.le_of_ble_eq_true rfl) ?_
    refine A_loc (l2 := [(0, _), (1, _)]) ⟨rfl, rfl, trivial⟩ ?_
    have hOk := hO.2.2.1 h4
    have hT := AgI.rmt hυ (hZ.2.2.1.2 h4).rmk hOk (v := Z.2.2.1.2.2.1 5) rfl
    have hF : Fr (fun a => 54 ≤ a ∧ a < 64) σ (uI υ 54 11 (Z.2.2.1.2.2.1 5)) := hυ.1.uI (show 54 ≤ 54 ∧ 54 < 64 by omega)
    refine l_X9_restore hOk 8 0 (zTw Z Z.2.2.1.2) _ rfl rfl (hZ.town hT hF (fun k hk => by rw [uI_at, if_neg (by omega)]; exact hυ.2.1 k (by omega) (by omega))) (fun k hk => (hO.2.1 k hk).1) (hF.mono (fun a q => q.1)) (fun ω g1 g2 => ?_)
    exact RQM (by unfold qRestore; rw [if_pos h4]) g1 g2
  · skip
    refine A_aload_n (pc := 7) dX9_restore_7 rfl rfl ?_
    refine A_bipush (pc := 8) dX9_restore_8 (by decide) ?_
    refine A_callVe (pc := 10) kX9_79 rfl rfl (c_X9_no hZ hO (t := -6) (by omega) (by omega)) dX9_restore_10 rfl rfl (Nat.le_of_ble_eq_true rfl) (Nat.le_of_ble_eq_true rfl) (fun υ hυ => ?_)
    refine A_iret (pc := 13) rfl dX9_restore_13 ?_
    exact RQM (by unfold qRestore; rw [if_neg h4]; rfl) hυ.1 (hυ.2.mono MC70)
