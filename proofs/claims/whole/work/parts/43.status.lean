/-! PART 43: status of both -/
def qStatus (Z : Zt) (w : Int) : Int := if w = 0 then Z.1.2.1 0 else if w = 1 then Z.1.2.1 1 else if w = 2 then cntR (fun j => Z.1.1.testBit j) 49 0 else if w = 3 then Z.1.2.1 2 else if w = 4 then Z.1.2.1 3 else if w = 5 then Z.1.2.1 4 else if w = 6 then sumR (fun j => Z.1.2.2 6 j) (Z.1.2.1 1).toNat 0 else if w = 7 then Z.1.2.1 5 else if w = 8 then Z.2.2.2.2.2.1 else if 11 ≤ w ∧ w ≤ 17 then Z.2.2.2.1 (w - 10).toNat else -1
theorem iI_wr (x : Int) : iI (x + 4294967296) = iI x := by
  apply Int32.toInt_inj.mp
  show (Int32.ofInt _).toInt = (Int32.ofInt _).toInt
  rw [Int32.toInt_ofInt, Int32.toInt_ofInt]
  exact Int.add_mul_bmod_self_right (b := 1) x _
def w10 (w : Int) : Int := if w - 10 < -2147483648 then w - 10 + 4294967296 else w - 10
theorem w10_iI (w : Int) : iI (w - 10) = iI (w10 w) := by
  unfold w10
  split
  · rw [iI_wr]
  · rfl
theorem w10_rng {w : Int} (h1 : -2147483648 ≤ w) (h2 : w < 2147483648) : (-2147483648 ≤ w10 w ∧ w10 w < 2147483648) ∧ (¬ (11 ≤ w ∧ w ≤ 17) → ¬ (1 ≤ w10 w ∧ w10 w < 8)) ∧ (11 ≤ w ∧ w ≤ 17 → w10 w = w - 10) := by
  unfold w10
  split <;> omega
theorem dX8_status_0 : decode cX8_status 0 = .ok (.iload_n 1, 1) := by decide +kernel
theorem dX8_status_1 : decode cX8_status 1 = .ok (.tableswitch 126 0 8 #[51, 59, 67, 78, 86, 94, 102, 110, 118], 51) := by decide +kernel
theorem dX8_status_52 : decode cX8_status 52 = .ok (.aload_n 0, 1) := by decide +kernel
theorem dX8_status_53 : decode cX8_status 53 = .ok (.getfield 10, 3) := by decide +kernel
theorem dX8_status_56 : decode cX8_status 56 = .ok (.getfield 360, 3) := by decide +kernel
theorem dX8_status_59 : decode cX8_status 59 = .ok (.ireturn, 1) := by decide +kernel
theorem dX8_status_60 : decode cX8_status 60 = .ok (.aload_n 0, 1) := by decide +kernel
theorem dX8_status_61 : decode cX8_status 61 = .ok (.getfield 10, 3) := by decide +kernel
theorem dX8_status_64 : decode cX8_status 64 = .ok (.getfield 339, 3) := by decide +kernel
theorem dX8_status_67 : decode cX8_status 67 = .ok (.ireturn, 1) := by decide +kernel
theorem dX8_status_68 : decode cX8_status 68 = .ok (.aload_n 0, 1) := by decide +kernel
theorem dX8_status_69 : decode cX8_status 69 = .ok (.getfield 10, 3) := by decide +kernel
theorem dX8_status_72 : decode cX8_status 72 = .ok (.getfield 245, 3) := by decide +kernel
theorem dX8_status_75 : decode cX8_status 75 = .ok (.invokestatic 143, 3) := by decide +kernel
theorem dX8_status_78 : decode cX8_status 78 = .ok (.ireturn, 1) := by decide +kernel
theorem dX8_status_79 : decode cX8_status 79 = .ok (.aload_n 0, 1) := by decide +kernel
theorem dX8_status_80 : decode cX8_status 80 = .ok (.getfield 10, 3) := by decide +kernel
theorem dX8_status_83 : decode cX8_status 83 = .ok (.getfield 203, 3) := by decide +kernel
theorem dX8_status_86 : decode cX8_status 86 = .ok (.ireturn, 1) := by decide +kernel
theorem dX8_status_87 : decode cX8_status 87 = .ok (.aload_n 0, 1) := by decide +kernel
theorem dX8_status_88 : decode cX8_status 88 = .ok (.getfield 10, 3) := by decide +kernel
theorem dX8_status_91 : decode cX8_status 91 = .ok (.getfield 365, 3) := by decide +kernel
theorem dX8_status_94 : decode cX8_status 94 = .ok (.ireturn, 1) := by decide +kernel
theorem dX8_status_95 : decode cX8_status 95 = .ok (.aload_n 0, 1) := by decide +kernel
theorem dX8_status_96 : decode cX8_status 96 = .ok (.getfield 10, 3) := by decide +kernel
theorem dX8_status_99 : decode cX8_status 99 = .ok (.getfield 338, 3) := by decide +kernel
theorem dX8_status_102 : decode cX8_status 102 = .ok (.ireturn, 1) := by decide +kernel
theorem dX8_status_103 : decode cX8_status 103 = .ok (.aload_n 0, 1) := by decide +kernel
theorem dX8_status_104 : decode cX8_status 104 = .ok (.getfield 10, 3) := by decide +kernel
theorem dX8_status_107 : decode cX8_status 107 = .ok (.invokevirtual 368, 3) := by decide +kernel
theorem dX8_status_110 : decode cX8_status 110 = .ok (.ireturn, 1) := by decide +kernel
theorem dX8_status_111 : decode cX8_status 111 = .ok (.aload_n 0, 1) := by decide +kernel
theorem dX8_status_112 : decode cX8_status 112 = .ok (.getfield 10, 3) := by decide +kernel
theorem dX8_status_115 : decode cX8_status 115 = .ok (.getfield 345, 3) := by decide +kernel
theorem dX8_status_118 : decode cX8_status 118 = .ok (.ireturn, 1) := by decide +kernel
theorem dX8_status_119 : decode cX8_status 119 = .ok (.aload_n 0, 1) := by decide +kernel
theorem dX8_status_120 : decode cX8_status 120 = .ok (.getfield 67, 3) := by decide +kernel
theorem dX8_status_123 : decode cX8_status 123 = .ok (.getfield 371, 3) := by decide +kernel
theorem dX8_status_126 : decode cX8_status 126 = .ok (.ireturn, 1) := by decide +kernel
theorem dX8_status_127 : decode cX8_status 127 = .ok (.aload_n 0, 1) := by decide +kernel
theorem dX8_status_128 : decode cX8_status 128 = .ok (.iload_n 1, 1) := by decide +kernel
theorem dX8_status_129 : decode cX8_status 129 = .ok (.bipush 10, 2) := by decide +kernel
theorem dX8_status_131 : decode cX8_status 131 = .ok (.isub, 1) := by decide +kernel
theorem dX8_status_132 : decode cX8_status 132 = .ok (.invokevirtual 374, 3) := by decide +kernel
theorem dX8_status_135 : decode cX8_status 135 = .ok (.ireturn, 1) := by decide +kernel
set_option maxRecDepth 20000 in
theorem c_X8_status {G : Gl} {d : Nat} {σ : Sg} {Z : Zt} (hZ : RelX Z σ) (hO : OkZ Z) {w : Int} (hw1 : -2147483648 ≤ w) (hw2 : w < 2147483648) : CT G (d + 1) yX8_status cX8_status 2 (some .int) [.ref (gA G 0), .int (iI w)] σ (R1 (.int (iI (qStatus Z w))) σ) := by
  refine CT.of (by decide +kernel) (Nat.le_of_ble_eq_true rfl) ?_
  change AW G _ RX8 _ _ _ 0 [(0, .ref (gA G 0)), (1, .int (iI w))] [] _ _
  have hT := hZ.1
  have hv : ∀ k : Nat, k < 6 → σ.1 14 (k + 1) = Z.1.2.1 k := hT.2.1
  refine A_iload_n (pc := 0) dX8_status_0 rfl rfl ?_
  refine A_tsw (pc := 1) [(0, 52), (1, 60), (2, 68), (3, 79), (4, 87), (5, 95), (6, 103), (7, 111), (8, 119)] 127 dX8_status_1 (by decide) (by decide) (by decide) (by omega) (by omega) ?_
  refine ⟨fun h1 => ?_, fun h1n0 => ?_⟩
  · skip
    refine A_aload_n (pc := 52) dX8_status_52 rfl rfl ?_
    refine A_getR (pc := 53) fX8_10 rfl rfl dX8_status_53 ?_
    refine A_getIv (pc := 56) fX8_360 rfl rfl (hv 0 (by decide)) dX8_status_56 ?_
    refine A_iret (pc := 59) rfl dX8_status_59 ?_
    exact R1_e (by unfold qStatus; rw [if_pos (by omega)])
  refine ⟨fun h1 => ?_, fun h1n1 => ?_⟩
  · skip
    refine A_aload_n (pc := 60) dX8_status_60 rfl rfl ?_
    refine A_getR (pc := 61) fX8_10 rfl rfl dX8_status_61 ?_
    refine A_getIv (pc := 64) fX8_339 rfl rfl (hv 1 (by decide)) dX8_status_64 ?_
    refine A_iret (pc := 67) rfl dX8_status_67 ?_
    exact R1_e (by unfold qStatus; rw [if_neg (by omega), if_pos (by omega)])
  refine ⟨fun h1 => ?_, fun h1n2 => ?_⟩
  · skip
    refine A_aload_n (pc := 68) dX8_status_68 rfl rfl ?_
    refine A_getR (pc := 69) fX8_10 rfl rfl dX8_status_69 ?_
    refine A_getLv (pc := 72) fX8_245 rfl rfl (show _ = lN Z.1.1 from hT.1) dX8_status_72 ?_
    refine A_callS1 (pc := 75) kX8_143 (c_J13_bitCount_95d88) dX8_status_75 rfl rfl (Nat.le_of_ble_eq_true rfl) (Nat.le_of_ble_eq_true rfl) ?_
    refine A_iret (pc := 78) rfl dX8_status_78 ?_
    exact R1_e (by unfold qStatus; rw [if_neg (by omega), if_neg (by omega), if_pos (by omega)]; exact bc64_cnt hO.1.1)
  refine ⟨fun h1 => ?_, fun h1n3 => ?_⟩
  · skip
    refine A_aload_n (pc := 79) dX8_status_79 rfl rfl ?_
    refine A_getR (pc := 80) fX8_10 rfl rfl dX8_status_80 ?_
    refine A_getIv (pc := 83) fX8_203 rfl rfl (hv 2 (by decide)) dX8_status_83 ?_
    refine A_iret (pc := 86) rfl dX8_status_86 ?_
    exact R1_e (by unfold qStatus; rw [if_neg (by omega), if_neg (by omega), if_neg (by omega), if_pos (by omega)])
  refine ⟨fun h1 => ?_, fun h1n4 => ?_⟩
  · skip
    refine A_aload_n (pc := 87) dX8_status_87 rfl rfl ?_
    refine A_getR (pc := 88) fX8_10 rfl rfl dX8_status_88 ?_
    refine A_getIv (pc := 91) fX8_365 rfl rfl (hv 3 (by decide)) dX8_status_91 ?_
    refine A_iret (pc := 94) rfl dX8_status_94 ?_
    exact R1_e (by unfold qStatus; rw [if_neg (by omega), if_neg (by omega), if_neg (by omega), if_neg (by omega), if_pos (by omega)])
  refine ⟨fun h1 => ?_, fun h1n5 => ?_⟩
  · skip
    refine A_aload_n (pc := 95) dX8_status_95 rfl rfl ?_
    refine A_getR (pc := 96) fX8_10 rfl rfl dX8_status_96 ?_
    refine A_getIv (pc := 99) fX8_338 rfl rfl (hv 4 (by decide)) dX8_status_99 ?_
    refine A_iret (pc := 102) rfl dX8_status_102 ?_
    exact R1_e (by unfold qStatus; rw [if_neg (by omega), if_neg (by omega), if_neg (by omega), if_neg (by omega), if_neg (by omega), if_pos (by omega)])
  refine ⟨fun h1 => ?_, fun h1n6 => ?_⟩
  · skip
    refine A_aload_n (pc := 103) dX8_status_103 rfl rfl ?_
    refine A_getR (pc := 104) fX8_10 rfl rfl dX8_status_104 ?_
    refine A_callV1 (pc := 107) kX8_368 rfl rfl (c_X5_triedTogether TC14 hT hO.1) dX8_status_107 rfl rfl (Nat.le_of_ble_eq_true rfl) (Nat.le_of_ble_eq_true rfl) ?_
    refine A_iret (pc := 110) rfl dX8_status_110 ?_
    exact R1_e (by unfold qStatus; rw [if_neg (by omega), if_neg (by omega), if_neg (by omega), if_neg (by omega), if_neg (by omega), if_neg (by omega), if_pos (by omega)])
  refine ⟨fun h1 => ?_, fun h1n7 => ?_⟩
  · skip
    refine A_aload_n (pc := 111) dX8_status_111 rfl rfl ?_
    refine A_getR (pc := 112) fX8_10 rfl rfl dX8_status_112 ?_
    refine A_getIv (pc := 115) fX8_345 rfl rfl (hv 5 (by decide)) dX8_status_115 ?_
    refine A_iret (pc := 118) rfl dX8_status_118 ?_
    exact R1_e (by unfold qStatus; rw [if_neg (by omega), if_neg (by omega), if_neg (by omega), if_neg (by omega), if_neg (by omega), if_neg (by omega), if_neg (by omega), if_pos (by omega)])
  refine ⟨fun h1 => ?_, fun h1n8 => ?_⟩
  · skip
    refine A_aload_n (pc := 119) dX8_status_119 rfl rfl ?_
    refine A_getR (pc := 120) fX8_67 rfl rfl dX8_status_120 ?_
    refine A_getIv (pc := 123) fX8_371 rfl rfl hZ.2.2.2.2.2.1 dX8_status_123 ?_
    refine A_iret (pc := 126) rfl dX8_status_126 ?_
    exact R1_e (by unfold qStatus; rw [if_neg (by omega), if_neg (by omega), if_neg (by omega), if_neg (by omega), if_neg (by omega), if_neg (by omega), if_neg (by omega), if_neg (by omega), if_pos (by omega)])
  change AW G _ _ _ _ _ 127 _ _ _ _
  refine A_aload_n (pc := 127) dX8_status_127 rfl rfl ?_
  refine A_iload_n (pc := 128) dX8_status_128 rfl rfl ?_
  refine A_bipush (pc := 129) dX8_status_129 (by decide) ?_
  refine A_isub (pc := 131) dX8_status_131 ?_
  rw [w10_iI]
  have hr := w10_rng hw1 hw2
  refine A_callV1 (pc := 132) kX8_374 rfl rfl (c_X8_refusalsOf hZ hO (w10_rng hw1 hw2).1.1 (w10_rng hw1 hw2).1.2) dX8_status_132 rfl rfl (Nat.le_of_ble_eq_true rfl) (Nat.le_of_ble_eq_true rfl) ?_
  refine A_iret (pc := 135) rfl dX8_status_135 ?_
  have eq : qStatus Z w = (if 1 ≤ w10 w ∧ w10 w < 8 then Z.2.2.2.1 (w10 w).toNat else -1) := by
    unfold qStatus
    rw [if_neg (by omega), if_neg (by omega), if_neg (by omega), if_neg (by omega), if_neg (by omega), if_neg (by omega), if_neg (by omega), if_neg (by omega), if_neg (by omega)]
    by_cases e : 11 ≤ w ∧ w ≤ 17
    · rw [if_pos e, hr.2.2 e, if_pos (by omega)]
    · rw [if_neg e, if_neg (hr.2.1 e)]
  exact R1_e eq.symm
theorem dX9_status_0 : decode cX9_status 0 = .ok (.iconst 0, 1) := by decide +kernel
theorem dX9_status_1 : decode cX9_status 1 = .ok (.istore_n 2, 1) := by decide +kernel
theorem dX9_status_2 : decode cX9_status 2 = .ok (.iload_n 1, 1) := by decide +kernel
theorem dX9_status_3 : decode cX9_status 3 = .ok (.tableswitch 133 0 8 #[49, 54, 59, 87, 87, 87, 96, 123, 128], 49) := by decide +kernel
theorem dX9_status_52 : decode cX9_status 52 = .ok (.aload_n 0, 1) := by decide +kernel
theorem dX9_status_53 : decode cX9_status 53 = .ok (.getfield 83, 3) := by decide +kernel
theorem dX9_status_56 : decode cX9_status 56 = .ok (.ireturn, 1) := by decide +kernel
theorem dX9_status_57 : decode cX9_status 57 = .ok (.aload_n 0, 1) := by decide +kernel
theorem dX9_status_58 : decode cX9_status 58 = .ok (.getfield 90, 3) := by decide +kernel
theorem dX9_status_61 : decode cX9_status 61 = .ok (.ireturn, 1) := by decide +kernel
theorem dX9_status_62 : decode cX9_status 62 = .ok (.iconst 0, 1) := by decide +kernel
theorem dX9_status_63 : decode cX9_status 63 = .ok (.istore_n 3, 1) := by decide +kernel
theorem dX9_status_64 : decode cX9_status 64 = .ok (.iload_n 3, 1) := by decide +kernel
theorem dX9_status_65 : decode cX9_status 65 = .ok (.bipush 49, 2) := by decide +kernel
theorem dX9_status_67 : decode cX9_status 67 = .ok (.if_icmp .ge 21, 3) := by decide +kernel
theorem dX9_status_70 : decode cX9_status 70 = .ok (.aload_n 0, 1) := by decide +kernel
theorem dX9_status_71 : decode cX9_status 71 = .ok (.getfield 31, 3) := by decide +kernel
theorem dX9_status_74 : decode cX9_status 74 = .ok (.iload_n 3, 1) := by decide +kernel
theorem dX9_status_75 : decode cX9_status 75 = .ok (.baload, 1) := by decide +kernel
theorem dX9_status_76 : decode cX9_status 76 = .ok (.ifCond .eq 6, 3) := by decide +kernel
theorem dX9_status_79 : decode cX9_status 79 = .ok (.iinc 2 1, 3) := by decide +kernel
theorem dX9_status_82 : decode cX9_status 82 = .ok (.iinc 3 1, 3) := by decide +kernel
theorem dX9_status_85 : decode cX9_status 85 = .ok (.goto (-21), 3) := by decide +kernel
theorem dX9_status_88 : decode cX9_status 88 = .ok (.iload_n 2, 1) := by decide +kernel
theorem dX9_status_89 : decode cX9_status 89 = .ok (.ireturn, 1) := by decide +kernel
theorem dX9_status_90 : decode cX9_status 90 = .ok (.aload_n 0, 1) := by decide +kernel
theorem dX9_status_91 : decode cX9_status 91 = .ok (.getfield 35, 3) := by decide +kernel
theorem dX9_status_94 : decode cX9_status 94 = .ok (.iload_n 1, 1) := by decide +kernel
theorem dX9_status_95 : decode cX9_status 95 = .ok (.iconst 3, 1) := by decide +kernel
theorem dX9_status_96 : decode cX9_status 96 = .ok (.isub, 1) := by decide +kernel
theorem dX9_status_97 : decode cX9_status 97 = .ok (.iaload, 1) := by decide +kernel
theorem dX9_status_98 : decode cX9_status 98 = .ok (.ireturn, 1) := by decide +kernel
theorem dX9_status_99 : decode cX9_status 99 = .ok (.iconst 0, 1) := by decide +kernel
theorem dX9_status_100 : decode cX9_status 100 = .ok (.istore_n 3, 1) := by decide +kernel
theorem dX9_status_101 : decode cX9_status 101 = .ok (.iload_n 3, 1) := by decide +kernel
theorem dX9_status_102 : decode cX9_status 102 = .ok (.aload_n 0, 1) := by decide +kernel
theorem dX9_status_103 : decode cX9_status 103 = .ok (.getfield 90, 3) := by decide +kernel
theorem dX9_status_106 : decode cX9_status 106 = .ok (.if_icmp .ge 18, 3) := by decide +kernel
theorem dX9_status_109 : decode cX9_status 109 = .ok (.iload_n 2, 1) := by decide +kernel
theorem dX9_status_110 : decode cX9_status 110 = .ok (.aload_n 0, 1) := by decide +kernel
theorem dX9_status_111 : decode cX9_status 111 = .ok (.getfield 28, 3) := by decide +kernel
theorem dX9_status_114 : decode cX9_status 114 = .ok (.iload_n 3, 1) := by decide +kernel
theorem dX9_status_115 : decode cX9_status 115 = .ok (.iaload, 1) := by decide +kernel
theorem dX9_status_116 : decode cX9_status 116 = .ok (.iadd, 1) := by decide +kernel
theorem dX9_status_117 : decode cX9_status 117 = .ok (.istore_n 2, 1) := by decide +kernel
theorem dX9_status_118 : decode cX9_status 118 = .ok (.iinc 3 1, 3) := by decide +kernel
theorem dX9_status_121 : decode cX9_status 121 = .ok (.goto (-20), 3) := by decide +kernel
theorem dX9_status_124 : decode cX9_status 124 = .ok (.iload_n 2, 1) := by decide +kernel
theorem dX9_status_125 : decode cX9_status 125 = .ok (.ireturn, 1) := by decide +kernel
theorem dX9_status_126 : decode cX9_status 126 = .ok (.aload_n 0, 1) := by decide +kernel
theorem dX9_status_127 : decode cX9_status 127 = .ok (.getfield 72, 3) := by decide +kernel
theorem dX9_status_130 : decode cX9_status 130 = .ok (.ireturn, 1) := by decide +kernel
theorem dX9_status_131 : decode cX9_status 131 = .ok (.aload_n 0, 1) := by decide +kernel
theorem dX9_status_132 : decode cX9_status 132 = .ok (.getfield 292, 3) := by decide +kernel
theorem dX9_status_135 : decode cX9_status 135 = .ok (.ireturn, 1) := by decide +kernel
theorem dX9_status_136 : decode cX9_status 136 = .ok (.iload_n 1, 1) := by decide +kernel
theorem dX9_status_137 : decode cX9_status 137 = .ok (.bipush 11, 2) := by decide +kernel
theorem dX9_status_139 : decode cX9_status 139 = .ok (.bipush 17, 2) := by decide +kernel
theorem dX9_status_141 : decode cX9_status 141 = .ok (.invokestatic 86, 3) := by decide +kernel
theorem dX9_status_144 : decode cX9_status 144 = .ok (.ifCond .eq 15, 3) := by decide +kernel
theorem dX9_status_147 : decode cX9_status 147 = .ok (.aload_n 0, 1) := by decide +kernel
theorem dX9_status_148 : decode cX9_status 148 = .ok (.getfield 57, 3) := by decide +kernel
theorem dX9_status_151 : decode cX9_status 151 = .ok (.iload_n 1, 1) := by decide +kernel
theorem dX9_status_152 : decode cX9_status 152 = .ok (.bipush 10, 2) := by decide +kernel
theorem dX9_status_154 : decode cX9_status 154 = .ok (.isub, 1) := by decide +kernel
theorem dX9_status_155 : decode cX9_status 155 = .ok (.iaload, 1) := by decide +kernel
theorem dX9_status_156 : decode cX9_status 156 = .ok (.goto 4, 3) := by decide +kernel
theorem dX9_status_159 : decode cX9_status 159 = .ok (.iconst (-1), 1) := by decide +kernel
theorem dX9_status_160 : decode cX9_status 160 = .ok (.ireturn, 1) := by decide +kernel
set_option maxRecDepth 20000 in
theorem l_X9_status {G : Gl} {d : Nat} {σ : Sg} {K : Option Value → Sg → Prop} {τ : Tw} (hM : RMt τ σ) {w : Int} : ∀ (n i : Nat) (c : Int), i + n = 49 → K (some (.int (iI (c + cntR (fun j => τ.1.testBit j) n i)))) σ → AW G d RX9 cX9_status 4 (some .int) 64 [(0, .ref (gA G 54)), (1, .int (iI w)), (2, .int (iI c)), (3, .int (iI (i : Int)))] [] σ K := by
  intro n
  induction n using Nat.strongRecOn
  rename_i n ih
  intro i c hn hK
  refine A_iload_n (pc := 64) dX9_status_64 rfl rfl ?_
  refine A_bipush (pc := 65) dX9_status_65 (by decide) ?_
  refine A_icmp_ge (pc := 67) 88 dX9_status_67 (by decide) (by omega) (by omega) (by omega) (by omega) (fun h67 => ?_) (fun h67 => ?_)
  · skip
    refine A_iload_n (pc := 88) dX9_status_88 rfl rfl ?_
    refine A_iret (pc := 89) rfl dX9_status_89 ?_
    have hn0 : n = 0 := by omega
    subst hn0
    rw [cntR, Int.add_zero] at hK
    exact hK
  · skip
    refine A_aload_n (pc := 70) dX9_status_70 rfl rfl ?_
    refine A_getR (pc := 71) fX9_31 rfl rfl dX9_status_71 ?_
    refine A_iload_n (pc := 74) dX9_status_74 rfl rfl ?_
    refine A_zaldv (pc := 75) i rfl rfl (by omega) (Nat.le_of_ble_eq_true rfl) (hM.1 i (by omega)) dX9_status_75 ?_
    refine A_ifb_eq (pc := 76) 82 dX9_status_76 (by decide) (fun h76 => ?_) (fun h76 => ?_)
    · skip
      refine A_iinc (pc := 82) dX9_status_82 rfl (Nat.le_of_ble_eq_true rfl) ?_
      refine A_goto (pc := 85) 64 dX9_status_85 (by decide) ?_
      obtain ⟨u, rfl⟩ : ∃ u, n = u + 1 := ⟨n - 1, by omega⟩
      refine A_loc (l2 := [(0, _), (1, _), (2, _), (3, _)]) ⟨rfl, rfl, rfl, rfl, trivial⟩ ?_
      refine ih u (by omega) (i + 1) c (by omega) ?_
      rw [cntR, if_neg h76, Int.zero_add] at hK
      exact hK
    · skip
      refine A_iinc (pc := 79) dX9_status_79 rfl (Nat.le_of_ble_eq_true rfl) ?_
      refine A_iinc (pc := 82) dX9_status_82 rfl (Nat.le_of_ble_eq_true rfl) ?_
      refine A_goto (pc := 85) 64 dX9_status_85 (by decide) ?_
      obtain ⟨u, rfl⟩ : ∃ u, n = u + 1 := ⟨n - 1, by omega⟩
      refine A_loc (l2 := [(0, _), (1, _), (2, _), (3, _)]) ⟨rfl, rfl, rfl, rfl, trivial⟩ ?_
      refine ih u (by omega) (i + 1) (c + 1) (by omega) ?_
      rw [cntR, if_pos h76, ← Int.add_assoc] at hK
      exact hK
set_option maxRecDepth 20000 in
theorem l2_X9_status {G : Gl} {d : Nat} {σ : Sg} {K : Option Value → Sg → Prop} {τ : Tw} (hM : RMt τ σ) (hO : OkT τ) {w : Int} : ∀ (n i : Nat) (c : Int), (i : Int) + n = τ.2.1 1 → K (some (.int (iI (c + sumR (fun j => τ.2.2 6 j) n i)))) σ → AW G d RX9 cX9_status 4 (some .int) 101 [(0, .ref (gA G 54)), (1, .int (iI w)), (2, .int (iI c)), (3, .int (iI (i : Int)))] [] σ K := by
  intro n
  induction n using Nat.strongRecOn
  rename_i n ih
  intro i c hn hK
  have p1 := hM.2.2.1
  have o4 := hO.2.2.2.1
  have o5 := hO.2.2.2.2.1
  refine A_iload_n (pc := 101) dX9_status_101 rfl rfl ?_
  refine A_aload_n (pc := 102) dX9_status_102 rfl rfl ?_
  refine A_getIv (pc := 103) fX9_90 rfl rfl p1 dX9_status_103 ?_
  refine A_icmp_ge (pc := 106) 124 dX9_status_106 (by decide) (by omega) (by omega) (by omega) (by omega) (fun h106 => ?_) (fun h106 => ?_)
  · skip
    refine A_iload_n (pc := 124) dX9_status_124 rfl rfl ?_
    refine A_iret (pc := 125) rfl dX9_status_125 ?_
    have hn0 : n = 0 := by omega
    subst hn0
    rw [sumR, Int.add_zero] at hK
    exact hK
  · skip
    refine A_iload_n (pc := 109) dX9_status_109 rfl rfl ?_
    refine A_aload_n (pc := 110) dX9_status_110 rfl rfl ?_
    refine A_getR (pc := 111) fX9_28 rfl rfl dX9_status_111 ?_
    refine A_iload_n (pc := 114) dX9_status_114 rfl rfl ?_
    refine A_ialdv (pc := 115) i rfl rfl (by omega) (Nat.le_of_ble_eq_true rfl) (hM.wt (p := i) (by omega)) dX9_status_115 ?_
    refine A_iadd (pc := 116) dX9_status_116 ?_
    refine A_istore_n (pc := 117) dX9_status_117 rfl (Nat.le_of_ble_eq_true rfl) ?_
    refine A_iinc (pc := 118) dX9_status_118 rfl (Nat.le_of_ble_eq_true rfl) ?_
    refine A_goto (pc := 121) 101 dX9_status_121 (by decide) ?_
    obtain ⟨u, rfl⟩ : ∃ u, n = u + 1 := ⟨n - 1, by omega⟩
    refine A_loc (l2 := [(0, _), (1, _), (2, _), (3, _)]) ⟨rfl, rfl, rfl, rfl, trivial⟩ ?_
    refine ih u (by omega) (i + 1) _ (by omega) ?_
    rw [sumR, ← Int.add_assoc] at hK
    exact hK
set_option maxRecDepth 20000 in
theorem c_X9_status {G : Gl} {d : Nat} {σ : Sg} {Z : Zt} (hZ : RelM Z σ) (hO : OkZ Z) {w : Int} (hw1 : -2147483648 ≤ w) (hw2 : w < 2147483648) : CT G (d + 1) yX9_status cX9_status 4 (some .int) [.ref (gA G 54), .int (iI w)] σ (R1 (.int (iI (qStatus Z w))) σ) := by
  refine CT.of (by decide +kernel) (Nat.le_of_ble_eq_true rfl) ?_
  change AW G _ RX9 _ _ _ 0 [(0, .ref (gA G 54)), (1, .int (iI w))] [] _ _
  have hM := hZ.1
  have p0 := hM.2.1
  have p1 := hM.2.2.1
  have hv : ∀ k : Nat, k < 3 → σ.1 63 k = Z.1.2.1 (2 + k) := hM.2.2.2.1
  have o4 := hO.1.2.2.2.1
  have o5 := hO.1.2.2.2.2.1
  refine A_iconst (pc := 0) dX9_status_0 ?_
  refine A_istore_n (pc := 1) dX9_status_1 rfl (Nat.le_of_ble_eq_true rfl) ?_
  refine A_iload_n (pc := 2) dX9_status_2 rfl rfl ?_
  refine A_tsw (pc := 3) [(0, 52), (1, 57), (2, 62), (3, 90), (4, 90), (5, 90), (6, 99), (7, 126), (8, 131)] 136 dX9_status_3 (by decide) (by decide) (by decide) (by omega) (by omega) ?_
  refine ⟨fun h3 => ?_, fun h3n0 => ?_⟩
  · skip
    refine A_aload_n (pc := 52) dX9_status_52 rfl rfl ?_
    refine A_getIv (pc := 53) fX9_83 rfl rfl p0 dX9_status_53 ?_
    refine A_iret (pc := 56) rfl dX9_status_56 ?_
    exact R1_e (by unfold qStatus; rw [if_pos (by omega)])
  refine ⟨fun h3 => ?_, fun h3n1 => ?_⟩
  · skip
    refine A_aload_n (pc := 57) dX9_status_57 rfl rfl ?_
    refine A_getIv (pc := 58) fX9_90 rfl rfl p1 dX9_status_58 ?_
    refine A_iret (pc := 61) rfl dX9_status_61 ?_
    exact R1_e (by unfold qStatus; rw [if_neg (by omega), if_pos (by omega)])
  refine ⟨fun h3 => ?_, fun h3n2 => ?_⟩
  · skip
    refine A_iconst (pc := 62) dX9_status_62 ?_
    refine A_istore_n (pc := 63) dX9_status_63 rfl (Nat.le_of_ble_eq_true rfl) ?_
    refine A_loc (l2 := [(0, _), (1, _), (2, _), (3, _)]) ⟨rfl, rfl, rfl, rfl, trivial⟩ ?_
    refine l_X9_status hM 49 0 0 rfl ?_
    exact R1_e (by unfold qStatus; rw [if_neg (by omega), if_neg (by omega), if_pos (by omega)]; exact Int.zero_add _)
  refine ⟨fun h3 => ?_, fun h3n3 => ?_⟩
  · skip
    refine A_aload_n (pc := 90) dX9_status_90 rfl rfl ?_
    refine A_getR (pc := 91) fX9_35 rfl rfl dX9_status_91 ?_
    refine A_iload_n (pc := 94) dX9_status_94 rfl rfl ?_
    refine A_iconst (pc := 95) dX9_status_95 ?_
    refine A_isub (pc := 96) dX9_status_96 ?_
    refine A_ialdv (pc := 97) (w - 3).toNat rfl (by omega) (by omega) (Nat.le_of_ble_eq_true rfl) (hv (w - 3).toNat (by omega)) dX9_status_97 ?_
    refine A_iret (pc := 98) rfl dX9_status_98 ?_
    have hw : w = 3 := by omega
    subst hw
    exact R1_e (by rfl)
  refine ⟨fun h3 => ?_, fun h3n4 => ?_⟩
  · skip
    refine A_aload_n (pc := 90) dX9_status_90 rfl rfl ?_
    refine A_getR (pc := 91) fX9_35 rfl rfl dX9_status_91 ?_
    refine A_iload_n (pc := 94) dX9_status_94 rfl rfl ?_
    refine A_iconst (pc := 95) dX9_status_95 ?_
    refine A_isub (pc := 96) dX9_status_96 ?_
    refine A_ialdv (pc := 97) (w - 3).toNat rfl (by omega) (by omega) (Nat.le_of_ble_eq_true rfl) (hv (w - 3).toNat (by omega)) dX9_status_97 ?_
    refine A_iret (pc := 98) rfl dX9_status_98 ?_
    have hw : w = 4 := by omega
    subst hw
    exact R1_e (by rfl)
  refine ⟨fun h3 => ?_, fun h3n5 => ?_⟩
  · skip
    refine A_aload_n (pc := 90) dX9_status_90 rfl rfl ?_
    refine A_getR (pc := 91) fX9_35 rfl rfl dX9_status_91 ?_
    refine A_iload_n (pc := 94) dX9_status_94 rfl rfl ?_
    refine A_iconst (pc := 95) dX9_status_95 ?_
    refine A_isub (pc := 96) dX9_status_96 ?_
    refine A_ialdv (pc := 97) (w - 3).toNat rfl (by omega) (by omega) (Nat.le_of_ble_eq_true rfl) (hv (w - 3).toNat (by omega)) dX9_status_97 ?_
    refine A_iret (pc := 98) rfl dX9_status_98 ?_
    have hw : w = 5 := by omega
    subst hw
    exact R1_e (by rfl)
  refine ⟨fun h3 => ?_, fun h3n6 => ?_⟩
  · skip
    refine A_iconst (pc := 99) dX9_status_99 ?_
    refine A_istore_n (pc := 100) dX9_status_100 rfl (Nat.le_of_ble_eq_true rfl) ?_
    refine A_loc (l2 := [(0, _), (1, _), (2, _), (3, _)]) ⟨rfl, rfl, rfl, rfl, trivial⟩ ?_
    refine l2_X9_status hM hO.1 (Z.1.2.1 1).toNat 0 0 (by omega) ?_
    exact R1_e (by unfold qStatus; rw [if_neg (by omega), if_neg (by omega), if_neg (by omega), if_neg (by omega), if_neg (by omega), if_neg (by omega), if_pos (by omega)]; exact Int.zero_add _)
  refine ⟨fun h3 => ?_, fun h3n7 => ?_⟩
  · skip
    refine A_aload_n (pc := 126) dX9_status_126 rfl rfl ?_
    refine A_getIv (pc := 127) fX9_72 rfl rfl hM.2.2.2.2.1 dX9_status_127 ?_
    refine A_iret (pc := 130) rfl dX9_status_130 ?_
    exact R1_e (by unfold qStatus; rw [if_neg (by omega), if_neg (by omega), if_neg (by omega), if_neg (by omega), if_neg (by omega), if_neg (by omega), if_neg (by omega), if_pos (by omega)])
  refine ⟨fun h3 => ?_, fun h3n8 => ?_⟩
  · skip
    refine A_aload_n (pc := 131) dX9_status_131 rfl rfl ?_
    refine A_getIv (pc := 132) fX9_292 rfl rfl hZ.2.2.2.2.2.1 dX9_status_132 ?_
    refine A_iret (pc := 135) rfl dX9_status_135 ?_
    exact R1_e (by unfold qStatus; rw [if_neg (by omega), if_neg (by omega), if_neg (by omega), if_neg (by omega), if_neg (by omega), if_neg (by omega), if_neg (by omega), if_neg (by omega), if_pos (by omega)])
  change AW G _ _ _ _ _ 136 _ _ _ _
  refine A_iload_n (pc := 136) dX9_status_136 rfl rfl ?_
  refine A_bipush (pc := 137) dX9_status_137 (by decide) ?_
  refine A_bipush (pc := 139) dX9_status_139 (by decide) ?_
  refine A_callS1 (pc := 141) kX9_86 (c_X9_within (v := w) (a := 11) (b := 17) (by omega) (by omega) (by omega) (by omega) (by omega) (by omega)) dX9_status_141 rfl rfl (Nat.le_of_ble_eq_true rfl) (Nat.le_of_ble_eq_true rfl) ?_
  refine A_ifb_eq (pc := 144) 159 dX9_status_144 (by decide) (fun h144 => ?_) (fun h144 => ?_)
  · skip
    refine A_iconst (pc := 159) dX9_status_159 ?_
    refine A_iret (pc := 160) rfl dX9_status_160 ?_
    exact R1_e (by unfold qStatus; rw [if_neg (by omega), if_neg (by omega), if_neg (by omega), if_neg (by omega), if_neg (by omega), if_neg (by omega), if_neg (by omega), if_neg (by omega), if_neg (by omega), if_neg (by omega)])
  · skip
    refine A_aload_n (pc := 147) dX9_status_147 rfl rfl ?_
    refine A_getR (pc := 148) fX9_57 rfl rfl dX9_status_148 ?_
    refine A_iload_n (pc := 151) dX9_status_151 rfl rfl ?_
    refine A_bipush (pc := 152) dX9_status_152 (by decide) ?_
    refine A_isub (pc := 154) dX9_status_154 ?_
    refine A_ialdv (pc := 155) (w - 10).toNat rfl (by omega) (by omega) (Nat.le_of_ble_eq_true rfl) (hZ.2.2.2.1 (w - 10).toNat (by omega) (by omega)) dX9_status_155 ?_
    refine A_goto (pc := 156) 160 dX9_status_156 (by decide) ?_
    refine A_iret (pc := 160) rfl dX9_status_160 ?_
    exact R1_e (by unfold qStatus; rw [if_neg (by omega), if_neg (by omega), if_neg (by omega), if_neg (by omega), if_neg (by omega), if_neg (by omega), if_neg (by omega), if_neg (by omega), if_neg (by omega), if_pos (by omega)])
