/-! PART 17: the reference: what is seen, who looks in -/
/-- all bits of the next n -/
def orN (f : Nat → Nat) : Nat → Nat → Nat
  | 0, _ => 0
  | n + 1, i => f i ||| orN f n (i + 1)
theorem orN_lt {f : Nat → Nat} {m : Nat} (hf : ∀ k, f k < 2 ^ m) : ∀ n i, orN f n i < 2 ^ m
  | 0, _ => Nat.two_pow_pos _
  | n + 1, i => Nat.or_lt_two_pow (hf i) (orN_lt hf n (i + 1))
/-- the panes that see a square, all that is seen, if the houses are b -/
def seen (τ : Tw) (b : Nat) (s : Int) : Nat := orR (fun p => decide (sT (seeB τ b p) s)) (τ.2.1 0).toNat 0
def allB (τ : Tw) (b : Nat) : Nat := orN (seeB τ b) (τ.2.1 0).toNat 0
theorem allB_lt (τ : Tw) (b : Nat) : allB τ b < 2 ^ 49 := orN_lt (seeB_lt τ b) _ _
theorem seen_lt {τ : Tw} (h : OkT τ) (b : Nat) (s : Int) : seen τ b s < 512 := orR_lt (m := 9) (by obtain ⟨-, h2, h3, -⟩ := h; omega)
theorem dX9_sees_0 : decode cX9_sees 0 = .ok (.aload_n 0, 1) := by decide +kernel
theorem dX9_sees_1 : decode cX9_sees 1 = .ok (.getfield 7, 3) := by decide +kernel
theorem dX9_sees_4 : decode cX9_sees 4 = .ok (.iload_n 1, 1) := by decide +kernel
theorem dX9_sees_5 : decode cX9_sees 5 = .ok (.iaload, 1) := by decide +kernel
theorem dX9_sees_6 : decode cX9_sees 6 = .ok (.tableswitch 91 2 6 #[34, 91, 36, 60, 34], 34) := by decide +kernel
theorem dX9_sees_40 : decode cX9_sees 40 = .ok (.lconst 0, 1) := by decide +kernel
theorem dX9_sees_41 : decode cX9_sees 41 = .ok (.lreturn, 1) := by decide +kernel
theorem dX9_sees_42 : decode cX9_sees 42 = .ok (.aload_n 0, 1) := by decide +kernel
theorem dX9_sees_43 : decode cX9_sees 43 = .ok (.aload_n 0, 1) := by decide +kernel
theorem dX9_sees_44 : decode cX9_sees 44 = .ok (.getfield 16, 3) := by decide +kernel
theorem dX9_sees_47 : decode cX9_sees 47 = .ok (.iload_n 1, 1) := by decide +kernel
theorem dX9_sees_48 : decode cX9_sees 48 = .ok (.iaload, 1) := by decide +kernel
theorem dX9_sees_49 : decode cX9_sees 49 = .ok (.aload_n 0, 1) := by decide +kernel
theorem dX9_sees_50 : decode cX9_sees 50 = .ok (.getfield 19, 3) := by decide +kernel
theorem dX9_sees_53 : decode cX9_sees 53 = .ok (.iload_n 1, 1) := by decide +kernel
theorem dX9_sees_54 : decode cX9_sees 54 = .ok (.iaload, 1) := by decide +kernel
theorem dX9_sees_55 : decode cX9_sees 55 = .ok (.aload_n 0, 1) := by decide +kernel
theorem dX9_sees_56 : decode cX9_sees 56 = .ok (.getfield 35, 3) := by decide +kernel
theorem dX9_sees_59 : decode cX9_sees 59 = .ok (.iconst 0, 1) := by decide +kernel
theorem dX9_sees_60 : decode cX9_sees 60 = .ok (.iaload, 1) := by decide +kernel
theorem dX9_sees_61 : decode cX9_sees 61 = .ok (.iconst 1, 1) := by decide +kernel
theorem dX9_sees_62 : decode cX9_sees 62 = .ok (.invokevirtual 229, 3) := by decide +kernel
theorem dX9_sees_65 : decode cX9_sees 65 = .ok (.lreturn, 1) := by decide +kernel
theorem dX9_sees_66 : decode cX9_sees 66 = .ok (.aload_n 0, 1) := by decide +kernel
theorem dX9_sees_67 : decode cX9_sees 67 = .ok (.aload_n 0, 1) := by decide +kernel
theorem dX9_sees_68 : decode cX9_sees 68 = .ok (.getfield 16, 3) := by decide +kernel
theorem dX9_sees_71 : decode cX9_sees 71 = .ok (.iload_n 1, 1) := by decide +kernel
theorem dX9_sees_72 : decode cX9_sees 72 = .ok (.iaload, 1) := by decide +kernel
theorem dX9_sees_73 : decode cX9_sees 73 = .ok (.aload_n 0, 1) := by decide +kernel
theorem dX9_sees_74 : decode cX9_sees 74 = .ok (.getfield 19, 3) := by decide +kernel
theorem dX9_sees_77 : decode cX9_sees 77 = .ok (.iload_n 1, 1) := by decide +kernel
theorem dX9_sees_78 : decode cX9_sees 78 = .ok (.iaload, 1) := by decide +kernel
theorem dX9_sees_79 : decode cX9_sees 79 = .ok (.aload_n 0, 1) := by decide +kernel
theorem dX9_sees_80 : decode cX9_sees 80 = .ok (.getfield 35, 3) := by decide +kernel
theorem dX9_sees_83 : decode cX9_sees 83 = .ok (.iconst 0, 1) := by decide +kernel
theorem dX9_sees_84 : decode cX9_sees 84 = .ok (.iaload, 1) := by decide +kernel
theorem dX9_sees_85 : decode cX9_sees 85 = .ok (.aload_n 0, 1) := by decide +kernel
theorem dX9_sees_86 : decode cX9_sees 86 = .ok (.getfield 13, 3) := by decide +kernel
theorem dX9_sees_89 : decode cX9_sees 89 = .ok (.iload_n 1, 1) := by decide +kernel
theorem dX9_sees_90 : decode cX9_sees 90 = .ok (.iaload, 1) := by decide +kernel
theorem dX9_sees_91 : decode cX9_sees 91 = .ok (.iadd, 1) := by decide +kernel
theorem dX9_sees_92 : decode cX9_sees 92 = .ok (.iconst 1, 1) := by decide +kernel
theorem dX9_sees_93 : decode cX9_sees 93 = .ok (.invokevirtual 229, 3) := by decide +kernel
theorem dX9_sees_96 : decode cX9_sees 96 = .ok (.lreturn, 1) := by decide +kernel
theorem dX9_sees_97 : decode cX9_sees 97 = .ok (.aload_n 0, 1) := by decide +kernel
theorem dX9_sees_98 : decode cX9_sees 98 = .ok (.aload_n 0, 1) := by decide +kernel
theorem dX9_sees_99 : decode cX9_sees 99 = .ok (.getfield 16, 3) := by decide +kernel
theorem dX9_sees_102 : decode cX9_sees 102 = .ok (.iload_n 1, 1) := by decide +kernel
theorem dX9_sees_103 : decode cX9_sees 103 = .ok (.iaload, 1) := by decide +kernel
theorem dX9_sees_104 : decode cX9_sees 104 = .ok (.aload_n 0, 1) := by decide +kernel
theorem dX9_sees_105 : decode cX9_sees 105 = .ok (.getfield 19, 3) := by decide +kernel
theorem dX9_sees_108 : decode cX9_sees 108 = .ok (.iload_n 1, 1) := by decide +kernel
theorem dX9_sees_109 : decode cX9_sees 109 = .ok (.iaload, 1) := by decide +kernel
theorem dX9_sees_110 : decode cX9_sees 110 = .ok (.aload_n 0, 1) := by decide +kernel
theorem dX9_sees_111 : decode cX9_sees 111 = .ok (.getfield 35, 3) := by decide +kernel
theorem dX9_sees_114 : decode cX9_sees 114 = .ok (.iconst 0, 1) := by decide +kernel
theorem dX9_sees_115 : decode cX9_sees 115 = .ok (.iaload, 1) := by decide +kernel
theorem dX9_sees_116 : decode cX9_sees 116 = .ok (.iconst 0, 1) := by decide +kernel
theorem dX9_sees_117 : decode cX9_sees 117 = .ok (.invokevirtual 229, 3) := by decide +kernel
theorem dX9_sees_120 : decode cX9_sees 120 = .ok (.lreturn, 1) := by decide +kernel
set_option maxRecDepth 20000 in
theorem c_X9_sees {G : Gl} {d : Nat} {σ : Sg} {τ : Tw} (hM : RMt τ σ) (hO : OkT τ) {p : Nat} (hp : (p : Int) < τ.2.1 0) : CT G (d + 5) yX9_sees cX9_sees 2 (some .long) [.ref (gA G 54), .int (iI (p : Int))] σ (R1 (.long (lN (seeB τ τ.1 p))) σ) := by
  refine CT.of (by decide +kernel) (Nat.le_of_ble_eq_true rfl) ?_
  change AW G _ RX9 _ _ _ 0 [(0, .ref (gA G 54)), (1, .int (iI (p : Int)))] [] _ _
  have hO2 := hO
  obtain ⟨o1, o2, o3, o4, o5, o6, o7, o8, o9⟩ := hO2
  have p0 := hM.2.1
  have p1 := hM.2.2.1
  have p2 : σ.1 63 0 = τ.2.1 2 := hM.2.2.2.1 0 (by decide)
  have q8 := o8 p hp
  refine A_aload_n (pc := 0) dX9_sees_0 rfl rfl ?_
  refine A_getR (pc := 1) fX9_7 rfl rfl dX9_sees_1 ?_
  refine A_iload_n (pc := 4) dX9_sees_4 rfl rfl ?_
  refine A_ialdv (pc := 5) _ rfl rfl (by omega) (Nat.le_of_ble_eq_true rfl) (hM.kind (by omega)) dX9_sees_5 ?_
  refine A_tsw (pc := 6) [(2, 40), (3, 97), (4, 42), (5, 66), (6, 40)] 97 dX9_sees_6 (by decide) (by decide) (by decide) (by omega) (by omega) ?_
  refine ⟨fun h6 => ?_, fun h6n2 => ?_⟩
  · skip
    refine A_lconst (pc := 40) 0 dX9_sees_40 rfl ?_
    refine A_lret (pc := 41) rfl dX9_sees_41 ?_
    exact ⟨by rw [seeB, if_neg (by omega), if_neg (by omega), if_neg (by omega)]; rfl, rfl⟩
  refine ⟨fun h6 => ?_, fun h6n3 => ?_⟩
  · skip
    refine A_aload_n (pc := 97) dX9_sees_97 rfl rfl ?_
    refine A_aload_n (pc := 98) dX9_sees_98 rfl rfl ?_
    refine A_getR (pc := 99) fX9_16 rfl rfl dX9_sees_99 ?_
    refine A_iload_n (pc := 102) dX9_sees_102 rfl rfl ?_
    refine A_ialdv (pc := 103) _ rfl rfl (by omega) (Nat.le_of_ble_eq_true rfl) (hM.at (by omega)) dX9_sees_103 ?_
    refine A_aload_n (pc := 104) dX9_sees_104 rfl rfl ?_
    refine A_getR (pc := 105) fX9_19 rfl rfl dX9_sees_105 ?_
    refine A_iload_n (pc := 108) dX9_sees_108 rfl rfl ?_
    refine A_ialdv (pc := 109) _ rfl rfl (by omega) (Nat.le_of_ble_eq_true rfl) (hM.out (by omega)) dX9_sees_109 ?_
    refine A_aload_n (pc := 110) dX9_sees_110 rfl rfl ?_
    refine A_getR (pc := 111) fX9_35 rfl rfl dX9_sees_111 ?_
    refine A_iconst (pc := 114) dX9_sees_114 ?_
    refine A_ialdv (pc := 115) 0 rfl rfl (by decide) (Nat.le_of_ble_eq_true rfl) p2 dX9_sees_115 ?_
    refine A_iconst (pc := 116) dX9_sees_116 ?_
    refine A_callV1 (pc := 117) kX9_229 rfl rfl (c_X9_line hM hO (b := false) (by omega) (by omega) (by omega) (by omega) (by omega) (by omega)) dX9_sees_117 rfl rfl (Nat.le_of_ble_eq_true rfl) (Nat.le_of_ble_eq_true rfl) ?_
    rw [if_neg Bool.false_ne_true]
    refine A_lret (pc := 120) rfl dX9_sees_120 ?_
    exact ⟨by rw [seeB, if_pos (by omega)], rfl⟩
  refine ⟨fun h6 => ?_, fun h6n4 => ?_⟩
  · skip
    refine A_aload_n (pc := 42) dX9_sees_42 rfl rfl ?_
    refine A_aload_n (pc := 43) dX9_sees_43 rfl rfl ?_
    refine A_getR (pc := 44) fX9_16 rfl rfl dX9_sees_44 ?_
    refine A_iload_n (pc := 47) dX9_sees_47 rfl rfl ?_
    refine A_ialdv (pc := 48) _ rfl rfl (by omega) (Nat.le_of_ble_eq_true rfl) (hM.at (by omega)) dX9_sees_48 ?_
    refine A_aload_n (pc := 49) dX9_sees_49 rfl rfl ?_
    refine A_getR (pc := 50) fX9_19 rfl rfl dX9_sees_50 ?_
    refine A_iload_n (pc := 53) dX9_sees_53 rfl rfl ?_
    refine A_ialdv (pc := 54) _ rfl rfl (by omega) (Nat.le_of_ble_eq_true rfl) (hM.out (by omega)) dX9_sees_54 ?_
    refine A_aload_n (pc := 55) dX9_sees_55 rfl rfl ?_
    refine A_getR (pc := 56) fX9_35 rfl rfl dX9_sees_56 ?_
    refine A_iconst (pc := 59) dX9_sees_59 ?_
    refine A_ialdv (pc := 60) 0 rfl rfl (by decide) (Nat.le_of_ble_eq_true rfl) p2 dX9_sees_60 ?_
    refine A_iconst (pc := 61) dX9_sees_61 ?_
    refine A_callV1 (pc := 62) kX9_229 rfl rfl (c_X9_line hM hO (b := true) (by omega) (by omega) (by omega) (by omega) (by omega) (by omega)) dX9_sees_62 rfl rfl (Nat.le_of_ble_eq_true rfl) (Nat.le_of_ble_eq_true rfl) ?_
    rw [if_pos rfl]
    refine A_lret (pc := 65) rfl dX9_sees_65 ?_
    exact ⟨by rw [seeB, if_neg (by omega), if_pos (by omega)], rfl⟩
  refine ⟨fun h6 => ?_, fun h6n5 => ?_⟩
  · skip
    refine A_aload_n (pc := 66) dX9_sees_66 rfl rfl ?_
    refine A_aload_n (pc := 67) dX9_sees_67 rfl rfl ?_
    refine A_getR (pc := 68) fX9_16 rfl rfl dX9_sees_68 ?_
    refine A_iload_n (pc := 71) dX9_sees_71 rfl rfl ?_
    refine A_ialdv (pc := 72) _ rfl rfl (by omega) (Nat.le_of_ble_eq_true rfl) (hM.at (by omega)) dX9_sees_72 ?_
    refine A_aload_n (pc := 73) dX9_sees_73 rfl rfl ?_
    refine A_getR (pc := 74) fX9_19 rfl rfl dX9_sees_74 ?_
    refine A_iload_n (pc := 77) dX9_sees_77 rfl rfl ?_
    refine A_ialdv (pc := 78) _ rfl rfl (by omega) (Nat.le_of_ble_eq_true rfl) (hM.out (by omega)) dX9_sees_78 ?_
    refine A_aload_n (pc := 79) dX9_sees_79 rfl rfl ?_
    refine A_getR (pc := 80) fX9_35 rfl rfl dX9_sees_80 ?_
    refine A_iconst (pc := 83) dX9_sees_83 ?_
    refine A_ialdv (pc := 84) 0 rfl rfl (by decide) (Nat.le_of_ble_eq_true rfl) p2 dX9_sees_84 ?_
    refine A_aload_n (pc := 85) dX9_sees_85 rfl rfl ?_
    refine A_getR (pc := 86) fX9_13 rfl rfl dX9_sees_86 ?_
    refine A_iload_n (pc := 89) dX9_sees_89 rfl rfl ?_
    refine A_ialdv (pc := 90) _ rfl rfl (by omega) (Nat.le_of_ble_eq_true rfl) (hM.a (by omega)) dX9_sees_90 ?_
    refine A_iadd (pc := 91) dX9_sees_91 ?_
    refine A_iconst (pc := 92) dX9_sees_92 ?_
    refine A_callV1 (pc := 93) kX9_229 rfl rfl (c_X9_line hM hO (b := true) (by omega) (by omega) (by omega) (by omega) (by omega) (by omega)) dX9_sees_93 rfl rfl (Nat.le_of_ble_eq_true rfl) (Nat.le_of_ble_eq_true rfl) ?_
    rw [if_pos rfl]
    refine A_lret (pc := 96) rfl dX9_sees_96 ?_
    exact ⟨by rw [seeB, if_neg (by omega), if_neg (by omega), if_pos (by omega)], rfl⟩
  refine ⟨fun h6 => ?_, fun h6n6 => ?_⟩
  · skip
    refine A_lconst (pc := 40) 0 dX9_sees_40 rfl ?_
    refine A_lret (pc := 41) rfl dX9_sees_41 ?_
    exact ⟨by rw [seeB, if_neg (by omega), if_neg (by omega), if_neg (by omega)]; rfl, rfl⟩
  change AW G _ _ _ _ _ 97 _ _ _ _
  refine A_aload_n (pc := 97) dX9_sees_97 rfl rfl ?_
  refine A_aload_n (pc := 98) dX9_sees_98 rfl rfl ?_
  refine A_getR (pc := 99) fX9_16 rfl rfl dX9_sees_99 ?_
  refine A_iload_n (pc := 102) dX9_sees_102 rfl rfl ?_
  refine A_ialdv (pc := 103) _ rfl rfl (by omega) (Nat.le_of_ble_eq_true rfl) (hM.at (by omega)) dX9_sees_103 ?_
  refine A_aload_n (pc := 104) dX9_sees_104 rfl rfl ?_
  refine A_getR (pc := 105) fX9_19 rfl rfl dX9_sees_105 ?_
  refine A_iload_n (pc := 108) dX9_sees_108 rfl rfl ?_
  refine A_ialdv (pc := 109) _ rfl rfl (by omega) (Nat.le_of_ble_eq_true rfl) (hM.out (by omega)) dX9_sees_109 ?_
  refine A_aload_n (pc := 110) dX9_sees_110 rfl rfl ?_
  refine A_getR (pc := 111) fX9_35 rfl rfl dX9_sees_111 ?_
  refine A_iconst (pc := 114) dX9_sees_114 ?_
  refine A_ialdv (pc := 115) 0 rfl rfl (by decide) (Nat.le_of_ble_eq_true rfl) p2 dX9_sees_115 ?_
  refine A_iconst (pc := 116) dX9_sees_116 ?_
  refine A_callV1 (pc := 117) kX9_229 rfl rfl (c_X9_line hM hO (b := false) (by omega) (by omega) (by omega) (by omega) (by omega) (by omega)) dX9_sees_117 rfl rfl (Nat.le_of_ble_eq_true rfl) (Nat.le_of_ble_eq_true rfl) ?_
  rw [if_neg Bool.false_ne_true]
  refine A_lret (pc := 120) rfl dX9_sees_120 ?_
  exact ⟨by rw [seeB, if_pos (by omega)], rfl⟩
theorem dX9_inSight_0 : decode cX9_inSight 0 = .ok (.iconst 0, 1) := by decide +kernel
theorem dX9_inSight_1 : decode cX9_inSight 1 = .ok (.istore_n 3, 1) := by decide +kernel
theorem dX9_inSight_2 : decode cX9_inSight 2 = .ok (.iconst 0, 1) := by decide +kernel
theorem dX9_inSight_3 : decode cX9_inSight 3 = .ok (.istore 4, 2) := by decide +kernel
theorem dX9_inSight_5 : decode cX9_inSight 5 = .ok (.iload 4, 2) := by decide +kernel
theorem dX9_inSight_7 : decode cX9_inSight 7 = .ok (.aload_n 0, 1) := by decide +kernel
theorem dX9_inSight_8 : decode cX9_inSight 8 = .ok (.getfield 90, 3) := by decide +kernel
theorem dX9_inSight_11 : decode cX9_inSight 11 = .ok (.if_icmp .ge 32, 3) := by decide +kernel
theorem dX9_inSight_14 : decode cX9_inSight 14 = .ok (.lload_n 1, 1) := by decide +kernel
theorem dX9_inSight_15 : decode cX9_inSight 15 = .ok (.aload_n 0, 1) := by decide +kernel
theorem dX9_inSight_16 : decode cX9_inSight 16 = .ok (.getfield 22, 3) := by decide +kernel
theorem dX9_inSight_19 : decode cX9_inSight 19 = .ok (.iload 4, 2) := by decide +kernel
theorem dX9_inSight_21 : decode cX9_inSight 21 = .ok (.iaload, 1) := by decide +kernel
theorem dX9_inSight_22 : decode cX9_inSight 22 = .ok (.lshr, 1) := by decide +kernel
theorem dX9_inSight_23 : decode cX9_inSight 23 = .ok (.lconst 1, 1) := by decide +kernel
theorem dX9_inSight_24 : decode cX9_inSight 24 = .ok (.land, 1) := by decide +kernel
theorem dX9_inSight_25 : decode cX9_inSight 25 = .ok (.lconst 1, 1) := by decide +kernel
theorem dX9_inSight_26 : decode cX9_inSight 26 = .ok (.lcmp, 1) := by decide +kernel
theorem dX9_inSight_27 : decode cX9_inSight 27 = .ok (.ifCond .ne 10, 3) := by decide +kernel
theorem dX9_inSight_30 : decode cX9_inSight 30 = .ok (.iload_n 3, 1) := by decide +kernel
theorem dX9_inSight_31 : decode cX9_inSight 31 = .ok (.iconst 1, 1) := by decide +kernel
theorem dX9_inSight_32 : decode cX9_inSight 32 = .ok (.iload 4, 2) := by decide +kernel
theorem dX9_inSight_34 : decode cX9_inSight 34 = .ok (.ishl, 1) := by decide +kernel
theorem dX9_inSight_35 : decode cX9_inSight 35 = .ok (.ior, 1) := by decide +kernel
theorem dX9_inSight_36 : decode cX9_inSight 36 = .ok (.istore_n 3, 1) := by decide +kernel
theorem dX9_inSight_37 : decode cX9_inSight 37 = .ok (.iinc 4 1, 3) := by decide +kernel
theorem dX9_inSight_40 : decode cX9_inSight 40 = .ok (.goto (-35), 3) := by decide +kernel
theorem dX9_inSight_43 : decode cX9_inSight 43 = .ok (.iload_n 3, 1) := by decide +kernel
theorem dX9_inSight_44 : decode cX9_inSight 44 = .ok (.ireturn, 1) := by decide +kernel
set_option maxRecDepth 20000 in
theorem l_X9_inSight {G : Gl} {d : Nat} {σ : Sg} {K : Option Value → Sg → Prop} {τ : Tw} (hM : RMt τ σ) (hO : OkT τ) {b : Nat} (hb : b < 2 ^ 49) : ∀ (n i acc : Nat), (i : Int) + n = τ.2.1 1 → K (some (.int (iI ((acc ||| orR (fun w => decide (sT b (τ.2.2 4 w))) n i : Nat) : Int)))) σ → AW G d RX9 cX9_inSight 5 (some .int) 5 [(0, .ref (gA G 54)), (1, .long (lN b)), (3, .int (iI (acc : Int))), (4, .int (iI (i : Int)))] [] σ K := by
  intro n
  induction n using Nat.strongRecOn
  rename_i n ih
  intro i acc hn hK
  have hO2 := hO
  obtain ⟨o1, o2, o3, o4, o5, o6, o7, o8, o9⟩ := hO2
  have p0 := hM.2.1
  have p1 := hM.2.2.1
  have p2 : σ.1 63 0 = τ.2.1 2 := hM.2.2.2.1 0 (by decide)
  refine A_iload (pc := 5) dX9_inSight_5 rfl ?_
  refine A_aload_n (pc := 7) dX9_inSight_7 rfl rfl ?_
  refine A_getIv (pc := 8) fX9_90 rfl rfl p1 dX9_inSight_8 ?_
  refine A_icmp_ge (pc := 11) 43 dX9_inSight_11 (by decide) (by omega) (by omega) (by omega) (by omega) (fun h11 => ?_) (fun h11 => ?_)
  · skip
    refine A_iload_n (pc := 43) dX9_inSight_43 rfl rfl ?_
    refine A_iret (pc := 44) rfl dX9_inSight_44 ?_
    have hn0 : n = 0 := by omega
    subst hn0
    rw [orR, Nat.or_zero] at hK
    exact hK
  · skip
    have q9 := o9 i (by omega)
    obtain ⟨k, hk⟩ := Int.eq_ofNat_of_zero_le q9.1
    have hkb : k < 49 := by omega
    have es : sT b (τ.2.2 4 i) ↔ b.testBit k = true := by rw [hk]; exact sT_k hkb
    refine A_lload_n (pc := 14) dX9_inSight_14 rfl rfl ?_
    refine A_aload_n (pc := 15) dX9_inSight_15 rfl rfl ?_
    refine A_getR (pc := 16) fX9_22 rfl rfl dX9_inSight_16 ?_
    refine A_iload (pc := 19) dX9_inSight_19 rfl ?_
    refine A_ialdv (pc := 21) _ rfl rfl (by omega) (Nat.le_of_ble_eq_true rfl) (hM.wat (by omega)) dX9_inSight_21 ?_
    rw [hk]
    refine A_lshr (pc := 22) (lN (b / 2 ^ k)) dX9_inSight_22 (shrS_L hb (by omega)) ?_
    refine A_lconst (pc := 23) 1 dX9_inSight_23 rfl ?_
    refine A_land (pc := 24) dX9_inSight_24 ?_
    refine A_lconst (pc := 25) 1 dX9_inSight_25 rfl ?_
    refine A_lcmp (pc := 26) dX9_inSight_26 ?_
    rw [lcm_bit1 hb]
    have hbr := bI_rng (b.testBit k = true)
    refine A_if_ne (pc := 27) 37 dX9_inSight_27 (by decide) (by omega) (by omega) (fun h27 => ?_) (fun h27 => ?_)
    · skip
      refine A_iinc (pc := 37) dX9_inSight_37 rfl (Nat.le_of_ble_eq_true rfl) ?_
      refine A_goto (pc := 40) 5 dX9_inSight_40 (by decide) ?_
      obtain ⟨m, rfl⟩ : ∃ m, n = m + 1 := ⟨n - 1, by omega⟩
      refine A_loc (l2 := [(0, _), (1, _), (3, _), (4, _)]) ⟨rfl, rfl, rfl, rfl, trivial⟩ ?_
      refine ih m (by omega) (i + 1) acc (by omega) ?_
      rw [orR, if_neg (by intro q; simp only [decide_eq_true_eq] at q; exact bI_m1n h27 (es.mp q)), Nat.zero_or] at hK
      exact hK
    · skip
      refine A_iload_n (pc := 30) dX9_inSight_30 rfl rfl ?_
      refine A_iconst (pc := 31) dX9_inSight_31 ?_
      refine A_iload (pc := 32) dX9_inSight_32 rfl ?_
      refine A_ishl (pc := 34) ((2 ^ i : Nat) : Int) dX9_inSight_34 (shl_I (by omega)) ?_
      refine A_ior (pc := 35) ((acc ||| 2 ^ i : Nat) : Int) dX9_inSight_35 (or_I acc (2 ^ i)) ?_
      refine A_istore_n (pc := 36) dX9_inSight_36 rfl (Nat.le_of_ble_eq_true rfl) ?_
      refine A_iinc (pc := 37) dX9_inSight_37 rfl (Nat.le_of_ble_eq_true rfl) ?_
      refine A_goto (pc := 40) 5 dX9_inSight_40 (by decide) ?_
      obtain ⟨m, rfl⟩ : ∃ m, n = m + 1 := ⟨n - 1, by omega⟩
      refine A_loc (l2 := [(0, _), (1, _), (3, _), (4, _)]) ⟨rfl, rfl, rfl, rfl, trivial⟩ ?_
      refine ih m (by omega) (i + 1) (acc ||| 2 ^ i) (by omega) ?_
      rw [orR, if_pos (by simp only [decide_eq_true_eq]; exact es.mpr (bI_m1 h27)), ← Nat.or_assoc] at hK
      exact hK
set_option maxRecDepth 20000 in
theorem c_X9_inSight {G : Gl} {d : Nat} {σ : Sg} {τ : Tw} (hM : RMt τ σ) (hO : OkT τ) {b : Nat} (hb : b < 2 ^ 49) : CT G d yX9_inSight cX9_inSight 5 (some .int) [.ref (gA G 54), .long (lN b)] σ (R1 (.int (iI ((wIn τ b : Nat) : Int))) σ) := by
  refine CT.of (by decide +kernel) (Nat.le_of_ble_eq_true rfl) ?_
  change AW G _ RX9 _ _ _ 0 [(0, .ref (gA G 54)), (1, .long (lN b))] [] _ _
  have hO2 := hO
  obtain ⟨o1, o2, o3, o4, o5, o6, o7, o8, o9⟩ := hO2
  have p0 := hM.2.1
  have p1 := hM.2.2.1
  have p2 : σ.1 63 0 = τ.2.1 2 := hM.2.2.2.1 0 (by decide)
  refine A_iconst (pc := 0) dX9_inSight_0 ?_
  refine A_istore_n (pc := 1) dX9_inSight_1 rfl (Nat.le_of_ble_eq_true rfl) ?_
  refine A_iconst (pc := 2) dX9_inSight_2 ?_
  refine A_istore (pc := 3) dX9_inSight_3 (Nat.le_of_ble_eq_true rfl) ?_
  refine A_loc (l2 := [(0, _), (1, _), (3, _), (4, _)]) ⟨rfl, rfl, rfl, rfl, trivial⟩ ?_
  exact l_X9_inSight hM hO hb (τ.2.1 1).toNat 0 0 (by omega) ⟨by rw [Nat.zero_or]; rfl, rfl⟩
theorem dX9_seenBy_0 : decode cX9_seenBy 0 = .ok (.iconst 0, 1) := by decide +kernel
theorem dX9_seenBy_1 : decode cX9_seenBy 1 = .ok (.istore_n 2, 1) := by decide +kernel
theorem dX9_seenBy_2 : decode cX9_seenBy 2 = .ok (.iconst 0, 1) := by decide +kernel
theorem dX9_seenBy_3 : decode cX9_seenBy 3 = .ok (.istore_n 3, 1) := by decide +kernel
theorem dX9_seenBy_4 : decode cX9_seenBy 4 = .ok (.iload_n 3, 1) := by decide +kernel
theorem dX9_seenBy_5 : decode cX9_seenBy 5 = .ok (.aload_n 0, 1) := by decide +kernel
theorem dX9_seenBy_6 : decode cX9_seenBy 6 = .ok (.getfield 83, 3) := by decide +kernel
theorem dX9_seenBy_9 : decode cX9_seenBy 9 = .ok (.if_icmp .ge 29, 3) := by decide +kernel
theorem dX9_seenBy_12 : decode cX9_seenBy 12 = .ok (.aload_n 0, 1) := by decide +kernel
theorem dX9_seenBy_13 : decode cX9_seenBy 13 = .ok (.iload_n 3, 1) := by decide +kernel
theorem dX9_seenBy_14 : decode cX9_seenBy 14 = .ok (.invokevirtual 113, 3) := by decide +kernel
theorem dX9_seenBy_17 : decode cX9_seenBy 17 = .ok (.iload_n 1, 1) := by decide +kernel
theorem dX9_seenBy_18 : decode cX9_seenBy 18 = .ok (.lshr, 1) := by decide +kernel
theorem dX9_seenBy_19 : decode cX9_seenBy 19 = .ok (.lconst 1, 1) := by decide +kernel
theorem dX9_seenBy_20 : decode cX9_seenBy 20 = .ok (.land, 1) := by decide +kernel
theorem dX9_seenBy_21 : decode cX9_seenBy 21 = .ok (.lconst 1, 1) := by decide +kernel
theorem dX9_seenBy_22 : decode cX9_seenBy 22 = .ok (.lcmp, 1) := by decide +kernel
theorem dX9_seenBy_23 : decode cX9_seenBy 23 = .ok (.ifCond .ne 9, 3) := by decide +kernel
theorem dX9_seenBy_26 : decode cX9_seenBy 26 = .ok (.iload_n 2, 1) := by decide +kernel
theorem dX9_seenBy_27 : decode cX9_seenBy 27 = .ok (.iconst 1, 1) := by decide +kernel
theorem dX9_seenBy_28 : decode cX9_seenBy 28 = .ok (.iload_n 3, 1) := by decide +kernel
theorem dX9_seenBy_29 : decode cX9_seenBy 29 = .ok (.ishl, 1) := by decide +kernel
theorem dX9_seenBy_30 : decode cX9_seenBy 30 = .ok (.ior, 1) := by decide +kernel
theorem dX9_seenBy_31 : decode cX9_seenBy 31 = .ok (.istore_n 2, 1) := by decide +kernel
theorem dX9_seenBy_32 : decode cX9_seenBy 32 = .ok (.iinc 3 1, 3) := by decide +kernel
theorem dX9_seenBy_35 : decode cX9_seenBy 35 = .ok (.goto (-31), 3) := by decide +kernel
theorem dX9_seenBy_38 : decode cX9_seenBy 38 = .ok (.iload_n 2, 1) := by decide +kernel
theorem dX9_seenBy_39 : decode cX9_seenBy 39 = .ok (.ireturn, 1) := by decide +kernel
set_option maxRecDepth 20000 in
theorem l_X9_seenBy {G : Gl} {d : Nat} {σ : Sg} {K : Option Value → Sg → Prop} {τ : Tw} (hM : RMt τ σ) (hO : OkT τ) {k : Nat} (hk : k < 49) : ∀ (n i acc : Nat), (i : Int) + n = τ.2.1 0 → K (some (.int (iI ((acc ||| orR (fun p => decide (sT (seeB τ τ.1 p) (k : Int))) n i : Nat) : Int)))) σ → AW G (d + 6) RX9 cX9_seenBy 4 (some .int) 4 [(0, .ref (gA G 54)), (1, .int (iI (k : Int))), (2, .int (iI (acc : Int))), (3, .int (iI (i : Int)))] [] σ K := by
  intro n
  induction n using Nat.strongRecOn
  rename_i n ih
  intro i acc hn hK
  have hO2 := hO
  obtain ⟨o1, o2, o3, o4, o5, o6, o7, o8, o9⟩ := hO2
  have p0 := hM.2.1
  have p1 := hM.2.2.1
  have p2 : σ.1 63 0 = τ.2.1 2 := hM.2.2.2.1 0 (by decide)
  refine A_iload_n (pc := 4) dX9_seenBy_4 rfl rfl ?_
  refine A_aload_n (pc := 5) dX9_seenBy_5 rfl rfl ?_
  refine A_getIv (pc := 6) fX9_83 rfl rfl p0 dX9_seenBy_6 ?_
  refine A_icmp_ge (pc := 9) 38 dX9_seenBy_9 (by decide) (by omega) (by omega) (by omega) (by omega) (fun h9 => ?_) (fun h9 => ?_)
  · skip
    refine A_iload_n (pc := 38) dX9_seenBy_38 rfl rfl ?_
    refine A_iret (pc := 39) rfl dX9_seenBy_39 ?_
    have hn0 : n = 0 := by omega
    subst hn0
    rw [orR, Nat.or_zero] at hK
    exact hK
  · skip
    refine A_aload_n (pc := 12) dX9_seenBy_12 rfl rfl ?_
    refine A_iload_n (pc := 13) dX9_seenBy_13 rfl rfl ?_
    refine A_callV1 (pc := 14) kX9_113 rfl rfl (c_X9_sees hM hO (p := i) (by omega)) dX9_seenBy_14 rfl rfl (Nat.le_of_ble_eq_true rfl) (Nat.le_of_ble_eq_true rfl) ?_
    refine A_iload_n (pc := 17) dX9_seenBy_17 rfl rfl ?_
    refine A_lshr (pc := 18) (lN (seeB τ τ.1 i / 2 ^ k)) dX9_seenBy_18 (shrS_L (seeB_lt _ _ _) (by omega)) ?_
    refine A_lconst (pc := 19) 1 dX9_seenBy_19 rfl ?_
    refine A_land (pc := 20) dX9_seenBy_20 ?_
    refine A_lconst (pc := 21) 1 dX9_seenBy_21 rfl ?_
    refine A_lcmp (pc := 22) dX9_seenBy_22 ?_
    rw [lcm_bit1 (seeB_lt _ _ _)]
    have hbr := bI_rng ((seeB τ τ.1 i).testBit k = true)
    refine A_if_ne (pc := 23) 32 dX9_seenBy_23 (by decide) (by omega) (by omega) (fun h23 => ?_) (fun h23 => ?_)
    · skip
      refine A_iinc (pc := 32) dX9_seenBy_32 rfl (Nat.le_of_ble_eq_true rfl) ?_
      refine A_goto (pc := 35) 4 dX9_seenBy_35 (by decide) ?_
      obtain ⟨m, rfl⟩ : ∃ m, n = m + 1 := ⟨n - 1, by omega⟩
      refine A_loc (l2 := [(0, _), (1, _), (2, _), (3, _)]) ⟨rfl, rfl, rfl, rfl, trivial⟩ ?_
      refine ih m (by omega) (i + 1) acc (by omega) ?_
      rw [orR, if_neg (by intro q; simp only [decide_eq_true_eq] at q; exact bI_m1n h23 ((sT_k hk).mp q)), Nat.zero_or] at hK
      exact hK
    · skip
      refine A_iload_n (pc := 26) dX9_seenBy_26 rfl rfl ?_
      refine A_iconst (pc := 27) dX9_seenBy_27 ?_
      refine A_iload_n (pc := 28) dX9_seenBy_28 rfl rfl ?_
      refine A_ishl (pc := 29) ((2 ^ i : Nat) : Int) dX9_seenBy_29 (shl_I (by omega)) ?_
      refine A_ior (pc := 30) ((acc ||| 2 ^ i : Nat) : Int) dX9_seenBy_30 (or_I acc (2 ^ i)) ?_
      refine A_istore_n (pc := 31) dX9_seenBy_31 rfl (Nat.le_of_ble_eq_true rfl) ?_
      refine A_iinc (pc := 32) dX9_seenBy_32 rfl (Nat.le_of_ble_eq_true rfl) ?_
      refine A_goto (pc := 35) 4 dX9_seenBy_35 (by decide) ?_
      obtain ⟨m, rfl⟩ : ∃ m, n = m + 1 := ⟨n - 1, by omega⟩
      refine A_loc (l2 := [(0, _), (1, _), (2, _), (3, _)]) ⟨rfl, rfl, rfl, rfl, trivial⟩ ?_
      refine ih m (by omega) (i + 1) (acc ||| 2 ^ i) (by omega) ?_
      rw [orR, if_pos (by simp only [decide_eq_true_eq]; exact (sT_k hk).mpr (bI_m1 h23)), ← Nat.or_assoc] at hK
      exact hK
set_option maxRecDepth 20000 in
theorem c_X9_seenBy {G : Gl} {d : Nat} {σ : Sg} {τ : Tw} (hM : RMt τ σ) (hO : OkT τ) {k : Nat} (hk : k < 49) : CT G (d + 6) yX9_seenBy cX9_seenBy 4 (some .int) [.ref (gA G 54), .int (iI (k : Int))] σ (R1 (.int (iI ((seen τ τ.1 (k : Int) : Nat) : Int))) σ) := by
  refine CT.of (by decide +kernel) (Nat.le_of_ble_eq_true rfl) ?_
  change AW G _ RX9 _ _ _ 0 [(0, .ref (gA G 54)), (1, .int (iI (k : Int)))] [] _ _
  have hO2 := hO
  obtain ⟨o1, o2, o3, o4, o5, o6, o7, o8, o9⟩ := hO2
  have p0 := hM.2.1
  have p1 := hM.2.2.1
  have p2 : σ.1 63 0 = τ.2.1 2 := hM.2.2.2.1 0 (by decide)
  refine A_iconst (pc := 0) dX9_seenBy_0 ?_
  refine A_istore_n (pc := 1) dX9_seenBy_1 rfl (Nat.le_of_ble_eq_true rfl) ?_
  refine A_iconst (pc := 2) dX9_seenBy_2 ?_
  refine A_istore_n (pc := 3) dX9_seenBy_3 rfl (Nat.le_of_ble_eq_true rfl) ?_
  refine A_loc (l2 := [(0, _), (1, _), (2, _), (3, _)]) ⟨rfl, rfl, rfl, rfl, trivial⟩ ?_
  exact l_X9_seenBy hM hO hk (τ.2.1 0).toNat 0 0 (by omega) ⟨by rw [Nat.zero_or]; rfl, rfl⟩
theorem dX9_allSeen_0 : decode cX9_allSeen 0 = .ok (.lconst 0, 1) := by decide +kernel
theorem dX9_allSeen_1 : decode cX9_allSeen 1 = .ok (.lstore_n 1, 1) := by decide +kernel
theorem dX9_allSeen_2 : decode cX9_allSeen 2 = .ok (.iconst 0, 1) := by decide +kernel
theorem dX9_allSeen_3 : decode cX9_allSeen 3 = .ok (.istore_n 3, 1) := by decide +kernel
theorem dX9_allSeen_4 : decode cX9_allSeen 4 = .ok (.iload_n 3, 1) := by decide +kernel
theorem dX9_allSeen_5 : decode cX9_allSeen 5 = .ok (.aload_n 0, 1) := by decide +kernel
theorem dX9_allSeen_6 : decode cX9_allSeen 6 = .ok (.getfield 83, 3) := by decide +kernel
theorem dX9_allSeen_9 : decode cX9_allSeen 9 = .ok (.if_icmp .ge 17, 3) := by decide +kernel
theorem dX9_allSeen_12 : decode cX9_allSeen 12 = .ok (.lload_n 1, 1) := by decide +kernel
theorem dX9_allSeen_13 : decode cX9_allSeen 13 = .ok (.aload_n 0, 1) := by decide +kernel
theorem dX9_allSeen_14 : decode cX9_allSeen 14 = .ok (.iload_n 3, 1) := by decide +kernel
theorem dX9_allSeen_15 : decode cX9_allSeen 15 = .ok (.invokevirtual 113, 3) := by decide +kernel
theorem dX9_allSeen_18 : decode cX9_allSeen 18 = .ok (.lor, 1) := by decide +kernel
theorem dX9_allSeen_19 : decode cX9_allSeen 19 = .ok (.lstore_n 1, 1) := by decide +kernel
theorem dX9_allSeen_20 : decode cX9_allSeen 20 = .ok (.iinc 3 1, 3) := by decide +kernel
theorem dX9_allSeen_23 : decode cX9_allSeen 23 = .ok (.goto (-19), 3) := by decide +kernel
theorem dX9_allSeen_26 : decode cX9_allSeen 26 = .ok (.lload_n 1, 1) := by decide +kernel
theorem dX9_allSeen_27 : decode cX9_allSeen 27 = .ok (.lreturn, 1) := by decide +kernel
set_option maxRecDepth 20000 in
theorem l_X9_allSeen {G : Gl} {d : Nat} {σ : Sg} {K : Option Value → Sg → Prop} {τ : Tw} (hM : RMt τ σ) (hO : OkT τ) : ∀ (n i acc : Nat), (i : Int) + n = τ.2.1 0 → acc < 2 ^ 49 → K (some (.long (lN (acc ||| orN (seeB τ τ.1) n i)))) σ → AW G (d + 6) RX9 cX9_allSeen 4 (some .long) 4 [(0, .ref (gA G 54)), (1, .long (lN acc)), (3, .int (iI (i : Int)))] [] σ K := by
  intro n
  induction n using Nat.strongRecOn
  rename_i n ih
  intro i acc hn ha hK
  have hO2 := hO
  obtain ⟨o1, o2, o3, o4, o5, o6, o7, o8, o9⟩ := hO2
  have p0 := hM.2.1
  have p1 := hM.2.2.1
  have p2 : σ.1 63 0 = τ.2.1 2 := hM.2.2.2.1 0 (by decide)
  refine A_iload_n (pc := 4) dX9_allSeen_4 rfl rfl ?_
  refine A_aload_n (pc := 5) dX9_allSeen_5 rfl rfl ?_
  refine A_getIv (pc := 6) fX9_83 rfl rfl p0 dX9_allSeen_6 ?_
  refine A_icmp_ge (pc := 9) 26 dX9_allSeen_9 (by decide) (by omega) (by omega) (by omega) (by omega) (fun h9 => ?_) (fun h9 => ?_)
  · skip
    refine A_lload_n (pc := 26) dX9_allSeen_26 rfl rfl ?_
    refine A_lret (pc := 27) rfl dX9_allSeen_27 ?_
    have hn0 : n = 0 := by omega
    subst hn0
    rw [orN, Nat.or_zero] at hK
    exact hK
  · skip
    refine A_lload_n (pc := 12) dX9_allSeen_12 rfl rfl ?_
    refine A_aload_n (pc := 13) dX9_allSeen_13 rfl rfl ?_
    refine A_iload_n (pc := 14) dX9_allSeen_14 rfl rfl ?_
    refine A_callV1 (pc := 15) kX9_113 rfl rfl (c_X9_sees hM hO (p := i) (by omega)) dX9_allSeen_15 rfl rfl (Nat.le_of_ble_eq_true rfl) (Nat.le_of_ble_eq_true rfl) ?_
    refine A_lor (pc := 18) dX9_allSeen_18 ?_
    rw [or_L ha (seeB_lt _ _ _)]
    refine A_lstore_n (pc := 19) dX9_allSeen_19 rfl (Nat.le_of_ble_eq_true rfl) ?_
    refine A_iinc (pc := 20) dX9_allSeen_20 rfl (Nat.le_of_ble_eq_true rfl) ?_
    refine A_goto (pc := 23) 4 dX9_allSeen_23 (by decide) ?_
    obtain ⟨m, rfl⟩ : ∃ m, n = m + 1 := ⟨n - 1, by omega⟩
    refine A_loc (l2 := [(0, _), (1, _), (3, _)]) ⟨rfl, rfl, rfl, trivial⟩ ?_
    refine ih m (by omega) (i + 1) _ (by omega) (or49 ha (seeB_lt _ _ _)) ?_
    rw [orN, ← Nat.or_assoc] at hK
    exact hK
set_option maxRecDepth 20000 in
theorem c_X9_allSeen {G : Gl} {d : Nat} {σ : Sg} {τ : Tw} (hM : RMt τ σ) (hO : OkT τ)  : CT G (d + 6) yX9_allSeen cX9_allSeen 4 (some .long) [.ref (gA G 54)] σ (R1 (.long (lN (allB τ τ.1))) σ) := by
  refine CT.of (by decide +kernel) (Nat.le_of_ble_eq_true rfl) ?_
  change AW G _ RX9 _ _ _ 0 [(0, .ref (gA G 54))] [] _ _
  have hO2 := hO
  obtain ⟨o1, o2, o3, o4, o5, o6, o7, o8, o9⟩ := hO2
  have p0 := hM.2.1
  have p1 := hM.2.2.1
  have p2 : σ.1 63 0 = τ.2.1 2 := hM.2.2.2.1 0 (by decide)
  refine A_lconst (pc := 0) 0 dX9_allSeen_0 rfl ?_
  refine A_lstore_n (pc := 1) dX9_allSeen_1 rfl (Nat.le_of_ble_eq_true rfl) ?_
  refine A_iconst (pc := 2) dX9_allSeen_2 ?_
  refine A_istore_n (pc := 3) dX9_allSeen_3 rfl (Nat.le_of_ble_eq_true rfl) ?_
  refine A_loc (l2 := [(0, _), (1, _), (3, _)]) ⟨rfl, rfl, rfl, trivial⟩ ?_
  exact l_X9_allSeen hM hO (τ.2.1 0).toNat 0 0 (by omega) (by decide) ⟨by rw [Nat.zero_or]; rfl, rfl⟩
/-- what is looked in at, from the square a on, off steps away, n squares in reach still -/
def lookS (τ : Tw) (w : Int) (n : Nat) (a off : Int) : Nat := if n = 0 then 0 else if sT τ.1 a then opens τ a (3 - w) off else lookG τ w (n - 1) a (off + 1)
theorem lookG_neg (τ : Tw) (w : Int) : ∀ (n : Nat) (off : Int), lookG τ w n (-1) off = 0
  | 0, _ => rfl
  | n + 1, off => by
    rw [lookG, bes_out (by decide), if_neg (by intro q; exact absurd q.1 (by decide)), lookG_neg τ w n]
theorem lookS_next (τ : Tw) (w : Int) (n : Nat) (a off : Int) : lookG τ w n a off = lookS τ w n (bes a w) off := by
  unfold lookS
  cases n with
  | zero => rfl
  | succ n =>
    rw [if_neg (Nat.succ_ne_zero n), lookG]
    rfl
theorem lookS_neg (τ : Tw) (w : Int) (n : Nat) (off : Int) : lookS τ w n (-1) off = 0 := by
  unfold lookS
  by_cases h : n = 0
  · rw [if_pos h]
  · rw [if_neg h, if_neg (by intro q; exact absurd q.1 (by decide)), lookG_neg]
theorem lookS_go {τ : Tw} {w : Int} {n : Nat} {a off : Int} (h : ¬ sT τ.1 a) : lookS τ w n a off = lookS τ w (n - 1) (bes a w) (off + 1) := by
  rw [← lookS_next]
  unfold lookS
  by_cases q : n = 0
  · rw [if_pos q, q]; rfl
  · rw [if_neg q, if_neg h]
/-- how far it is to the edge -/
def mu (c w : Int) : Nat := if c < 0 then 0 else (if w = 0 then c / 7 + 1 else if w = 1 then c % 7 + 1 else if w = 2 then 7 - c % 7 else 7 - c / 7).toNat
theorem mu_nx {c w : Int} (h1 : 0 ≤ c) (h2 : c ≤ 48) (w1 : 0 ≤ w) (w2 : w ≤ 3) : mu (nx c w) w < mu c w := by
  have hw : w = 0 ∨ w = 1 ∨ w = 2 ∨ w = 3 := by omega
  unfold mu nx
  rcases hw with rfl | rfl | rfl | rfl <;> (repeat' split) <;> omega
theorem mu_le (c w : Int) (h : c ≤ 48) : mu c w ≤ 7 := by
  unfold mu
  (repeat' split) <;> omega
/-- the reference's panes looked in at, by the square come to -/
def lookM (τ : Tw) (w c off : Int) : Nat → Bool := fun p => decide (0 ≤ c ∧ off ≤ τ.2.1 2 ∧ τ.2.2 2 p = c ∧ τ.2.2 3 p = 3 - w) && lets (τ.2.2 0 p) (τ.2.2 1 p) off
theorem dX9_looksIn_0 : decode cX9_looksIn 0 = .ok (.iload_n 1, 1) := by decide +kernel
theorem dX9_looksIn_1 : decode cX9_looksIn 1 = .ok (.iload_n 2, 1) := by decide +kernel
theorem dX9_looksIn_2 : decode cX9_looksIn 2 = .ok (.invokestatic 223, 3) := by decide +kernel
theorem dX9_looksIn_5 : decode cX9_looksIn 5 = .ok (.istore_n 3, 1) := by decide +kernel
theorem dX9_looksIn_6 : decode cX9_looksIn 6 = .ok (.iconst 1, 1) := by decide +kernel
theorem dX9_looksIn_7 : decode cX9_looksIn 7 = .ok (.istore 4, 2) := by decide +kernel
theorem dX9_looksIn_9 : decode cX9_looksIn 9 = .ok (.iload_n 3, 1) := by decide +kernel
theorem dX9_looksIn_10 : decode cX9_looksIn 10 = .ok (.ifCond .lt 24, 3) := by decide +kernel
theorem dX9_looksIn_13 : decode cX9_looksIn 13 = .ok (.aload_n 0, 1) := by decide +kernel
theorem dX9_looksIn_14 : decode cX9_looksIn 14 = .ok (.getfield 31, 3) := by decide +kernel
theorem dX9_looksIn_17 : decode cX9_looksIn 17 = .ok (.iload_n 3, 1) := by decide +kernel
theorem dX9_looksIn_18 : decode cX9_looksIn 18 = .ok (.baload, 1) := by decide +kernel
theorem dX9_looksIn_19 : decode cX9_looksIn 19 = .ok (.ifCond .ne 15, 3) := by decide +kernel
theorem dX9_looksIn_22 : decode cX9_looksIn 22 = .ok (.iload_n 3, 1) := by decide +kernel
theorem dX9_looksIn_23 : decode cX9_looksIn 23 = .ok (.iload_n 2, 1) := by decide +kernel
theorem dX9_looksIn_24 : decode cX9_looksIn 24 = .ok (.invokestatic 223, 3) := by decide +kernel
theorem dX9_looksIn_27 : decode cX9_looksIn 27 = .ok (.istore_n 3, 1) := by decide +kernel
theorem dX9_looksIn_28 : decode cX9_looksIn 28 = .ok (.iinc 4 1, 3) := by decide +kernel
theorem dX9_looksIn_31 : decode cX9_looksIn 31 = .ok (.goto (-22), 3) := by decide +kernel
theorem dX9_looksIn_34 : decode cX9_looksIn 34 = .ok (.iconst 0, 1) := by decide +kernel
theorem dX9_looksIn_35 : decode cX9_looksIn 35 = .ok (.istore 5, 2) := by decide +kernel
theorem dX9_looksIn_37 : decode cX9_looksIn 37 = .ok (.iconst 0, 1) := by decide +kernel
theorem dX9_looksIn_38 : decode cX9_looksIn 38 = .ok (.istore 6, 2) := by decide +kernel
theorem dX9_looksIn_40 : decode cX9_looksIn 40 = .ok (.iload 6, 2) := by decide +kernel
theorem dX9_looksIn_42 : decode cX9_looksIn 42 = .ok (.aload_n 0, 1) := by decide +kernel
theorem dX9_looksIn_43 : decode cX9_looksIn 43 = .ok (.getfield 83, 3) := by decide +kernel
theorem dX9_looksIn_46 : decode cX9_looksIn 46 = .ok (.if_icmp .ge 116, 3) := by decide +kernel
theorem dX9_looksIn_49 : decode cX9_looksIn 49 = .ok (.iload_n 3, 1) := by decide +kernel
theorem dX9_looksIn_50 : decode cX9_looksIn 50 = .ok (.ifCond .lt 106, 3) := by decide +kernel
theorem dX9_looksIn_53 : decode cX9_looksIn 53 = .ok (.iload 4, 2) := by decide +kernel
theorem dX9_looksIn_55 : decode cX9_looksIn 55 = .ok (.aload_n 0, 1) := by decide +kernel
theorem dX9_looksIn_56 : decode cX9_looksIn 56 = .ok (.getfield 35, 3) := by decide +kernel
theorem dX9_looksIn_59 : decode cX9_looksIn 59 = .ok (.iconst 0, 1) := by decide +kernel
theorem dX9_looksIn_60 : decode cX9_looksIn 60 = .ok (.iaload, 1) := by decide +kernel
theorem dX9_looksIn_61 : decode cX9_looksIn 61 = .ok (.if_icmp .gt 95, 3) := by decide +kernel
theorem dX9_looksIn_64 : decode cX9_looksIn 64 = .ok (.aload_n 0, 1) := by decide +kernel
theorem dX9_looksIn_65 : decode cX9_looksIn 65 = .ok (.getfield 16, 3) := by decide +kernel
theorem dX9_looksIn_68 : decode cX9_looksIn 68 = .ok (.iload 6, 2) := by decide +kernel
theorem dX9_looksIn_70 : decode cX9_looksIn 70 = .ok (.iaload, 1) := by decide +kernel
theorem dX9_looksIn_71 : decode cX9_looksIn 71 = .ok (.iload_n 3, 1) := by decide +kernel
theorem dX9_looksIn_72 : decode cX9_looksIn 72 = .ok (.if_icmp .ne 84, 3) := by decide +kernel
theorem dX9_looksIn_75 : decode cX9_looksIn 75 = .ok (.aload_n 0, 1) := by decide +kernel
theorem dX9_looksIn_76 : decode cX9_looksIn 76 = .ok (.getfield 19, 3) := by decide +kernel
theorem dX9_looksIn_79 : decode cX9_looksIn 79 = .ok (.iload 6, 2) := by decide +kernel
theorem dX9_looksIn_81 : decode cX9_looksIn 81 = .ok (.iaload, 1) := by decide +kernel
theorem dX9_looksIn_82 : decode cX9_looksIn 82 = .ok (.iconst 3, 1) := by decide +kernel
theorem dX9_looksIn_83 : decode cX9_looksIn 83 = .ok (.iload_n 2, 1) := by decide +kernel
theorem dX9_looksIn_84 : decode cX9_looksIn 84 = .ok (.isub, 1) := by decide +kernel
theorem dX9_looksIn_85 : decode cX9_looksIn 85 = .ok (.if_icmp .ne 71, 3) := by decide +kernel
theorem dX9_looksIn_88 : decode cX9_looksIn 88 = .ok (.aload_n 0, 1) := by decide +kernel
theorem dX9_looksIn_89 : decode cX9_looksIn 89 = .ok (.getfield 7, 3) := by decide +kernel
theorem dX9_looksIn_92 : decode cX9_looksIn 92 = .ok (.iload 6, 2) := by decide +kernel
theorem dX9_looksIn_94 : decode cX9_looksIn 94 = .ok (.iaload, 1) := by decide +kernel
theorem dX9_looksIn_95 : decode cX9_looksIn 95 = .ok (.iconst 1, 1) := by decide +kernel
theorem dX9_looksIn_96 : decode cX9_looksIn 96 = .ok (.if_icmp .ne 6, 3) := by decide +kernel
theorem dX9_looksIn_99 : decode cX9_looksIn 99 = .ok (.goto 57, 3) := by decide +kernel
theorem dX9_looksIn_102 : decode cX9_looksIn 102 = .ok (.aload_n 0, 1) := by decide +kernel
theorem dX9_looksIn_103 : decode cX9_looksIn 103 = .ok (.getfield 7, 3) := by decide +kernel
theorem dX9_looksIn_106 : decode cX9_looksIn 106 = .ok (.iload 6, 2) := by decide +kernel
theorem dX9_looksIn_108 : decode cX9_looksIn 108 = .ok (.iaload, 1) := by decide +kernel
theorem dX9_looksIn_109 : decode cX9_looksIn 109 = .ok (.iconst 3, 1) := by decide +kernel
theorem dX9_looksIn_110 : decode cX9_looksIn 110 = .ok (.if_icmp .ne 12, 3) := by decide +kernel
theorem dX9_looksIn_113 : decode cX9_looksIn 113 = .ok (.iload 4, 2) := by decide +kernel
theorem dX9_looksIn_115 : decode cX9_looksIn 115 = .ok (.iconst 1, 1) := by decide +kernel
theorem dX9_looksIn_116 : decode cX9_looksIn 116 = .ok (.if_icmp .ne 40, 3) := by decide +kernel
theorem dX9_looksIn_119 : decode cX9_looksIn 119 = .ok (.goto 28, 3) := by decide +kernel
theorem dX9_looksIn_122 : decode cX9_looksIn 122 = .ok (.aload_n 0, 1) := by decide +kernel
theorem dX9_looksIn_123 : decode cX9_looksIn 123 = .ok (.getfield 7, 3) := by decide +kernel
theorem dX9_looksIn_126 : decode cX9_looksIn 126 = .ok (.iload 6, 2) := by decide +kernel
theorem dX9_looksIn_128 : decode cX9_looksIn 128 = .ok (.iaload, 1) := by decide +kernel
theorem dX9_looksIn_129 : decode cX9_looksIn 129 = .ok (.iconst 2, 1) := by decide +kernel
theorem dX9_looksIn_130 : decode cX9_looksIn 130 = .ok (.if_icmp .ne 17, 3) := by decide +kernel
theorem dX9_looksIn_133 : decode cX9_looksIn 133 = .ok (.iload 4, 2) := by decide +kernel
theorem dX9_looksIn_135 : decode cX9_looksIn 135 = .ok (.aload_n 0, 1) := by decide +kernel
theorem dX9_looksIn_136 : decode cX9_looksIn 136 = .ok (.getfield 13, 3) := by decide +kernel
theorem dX9_looksIn_139 : decode cX9_looksIn 139 = .ok (.iload 6, 2) := by decide +kernel
theorem dX9_looksIn_141 : decode cX9_looksIn 141 = .ok (.iaload, 1) := by decide +kernel
theorem dX9_looksIn_142 : decode cX9_looksIn 142 = .ok (.iconst 1, 1) := by decide +kernel
theorem dX9_looksIn_143 : decode cX9_looksIn 143 = .ok (.iadd, 1) := by decide +kernel
theorem dX9_looksIn_144 : decode cX9_looksIn 144 = .ok (.if_icmp .gt 12, 3) := by decide +kernel
theorem dX9_looksIn_147 : decode cX9_looksIn 147 = .ok (.iload 5, 2) := by decide +kernel
theorem dX9_looksIn_149 : decode cX9_looksIn 149 = .ok (.iconst 1, 1) := by decide +kernel
theorem dX9_looksIn_150 : decode cX9_looksIn 150 = .ok (.iload 6, 2) := by decide +kernel
theorem dX9_looksIn_152 : decode cX9_looksIn 152 = .ok (.ishl, 1) := by decide +kernel
theorem dX9_looksIn_153 : decode cX9_looksIn 153 = .ok (.ior, 1) := by decide +kernel
theorem dX9_looksIn_154 : decode cX9_looksIn 154 = .ok (.istore 5, 2) := by decide +kernel
theorem dX9_looksIn_156 : decode cX9_looksIn 156 = .ok (.iinc 6 1, 3) := by decide +kernel
theorem dX9_looksIn_159 : decode cX9_looksIn 159 = .ok (.goto (-119), 3) := by decide +kernel
theorem dX9_looksIn_162 : decode cX9_looksIn 162 = .ok (.iload 5, 2) := by decide +kernel
theorem dX9_looksIn_164 : decode cX9_looksIn 164 = .ok (.ireturn, 1) := by decide +kernel
set_option maxRecDepth 20000 in
theorem l1_X9_looksIn {G : Gl} {d : Nat} {σ : Sg} {K : Option Value → Sg → Prop} {τ : Tw} (hM : RMt τ σ) (hO : OkT τ) {w : Int} (w1 : 0 ≤ w) (w2 : w ≤ 3) : ∀ (n : Nat) (c off : Int), n = mu c w → -7 ≤ c → c ≤ 48 → 1 ≤ off → off + n ≤ 100 → (∀ c2 off2, -7 ≤ c2 → c2 ≤ 48 → 1 ≤ off2 → off2 ≤ 100 → (c2 < 0 ∨ sT τ.1 c2) → lookS τ w (τ.2.1 2 + 1 - off2).toNat (nm c2) off2 = lookS τ w (τ.2.1 2 + 1 - off).toNat (nm c) off → AW G (d + 1) RX9 cX9_looksIn 7 (some .int) 34 [(0, .ref (gA G 54)), (2, .int (iI w)), (3, .int (iI c2)), (4, .int (iI off2))] [] σ K) → AW G (d + 1) RX9 cX9_looksIn 7 (some .int) 9 [(0, .ref (gA G 54)), (2, .int (iI w)), (3, .int (iI c)), (4, .int (iI off))] [] σ K := by
  intro n
  induction n using Nat.strongRecOn
  rename_i n ih
  intro c off hn c1 c2 f1 f2 hK
  have hO2 := hO
  obtain ⟨o1, o2, o3, o4, o5, o6, o7, o8, o9⟩ := hO2
  have p0 := hM.2.1
  have p1 := hM.2.2.1
  have p2 : σ.1 63 0 = τ.2.1 2 := hM.2.2.2.1 0 (by decide)
  refine A_iload_n (pc := 9) dX9_looksIn_9 rfl rfl ?_
  refine A_if_lt (pc := 10) 34 dX9_looksIn_10 (by decide) (by omega) (by omega) (fun h10 => ?_) (fun h10 => ?_)
  · skip
    refine A_loc (l2 := [(0, _), (2, _), (3, _), (4, _)]) ⟨rfl, rfl, rfl, rfl, trivial⟩ ?_
    exact hK c off c1 c2 f1 (by omega) (Or.inl h10) rfl
  · skip
    obtain ⟨k, rfl⟩ := Int.eq_ofNat_of_zero_le (show 0 ≤ c by omega)
    have hr2 := nx_rng (w := w) (show 0 ≤ (k : Int) by omega) (by omega)
    have hm := mu_nx (show 0 ≤ (k : Int) by omega) (by omega) w1 w2
    refine A_aload_n (pc := 13) dX9_looksIn_13 rfl rfl ?_
    refine A_getR (pc := 14) fX9_31 rfl rfl dX9_looksIn_14 ?_
    refine A_iload_n (pc := 17) dX9_looksIn_17 rfl rfl ?_
    refine A_zaldv (pc := 18) _ rfl rfl (by omega) (Nat.le_of_ble_eq_true rfl) (hM.1 _ (by omega)) dX9_looksIn_18 ?_
    refine A_ifb_ne (pc := 19) 34 dX9_looksIn_19 (by decide) (fun h19 => ?_) (fun h19 => ?_)
    · skip
      refine A_loc (l2 := [(0, _), (2, _), (3, _), (4, _)]) ⟨rfl, rfl, rfl, rfl, trivial⟩ ?_
      exact hK (k : Int) off c1 c2 f1 (by omega) (Or.inr ((sT_k (by omega)).mpr h19)) rfl
    · skip
      refine A_iload_n (pc := 22) dX9_looksIn_22 rfl rfl ?_
      refine A_iload_n (pc := 23) dX9_looksIn_23 rfl rfl ?_
      refine A_callS1 (pc := 24) kX9_223 (c_X9_next (by omega) (by omega) w1 w2) dX9_looksIn_24 rfl rfl (Nat.le_of_ble_eq_true rfl) (Nat.le_of_ble_eq_true rfl) ?_
      refine A_istore_n (pc := 27) dX9_looksIn_27 rfl (Nat.le_of_ble_eq_true rfl) ?_
      refine A_iinc (pc := 28) dX9_looksIn_28 rfl (Nat.le_of_ble_eq_true rfl) ?_
      refine A_goto (pc := 31) 9 dX9_looksIn_31 (by decide) ?_
      refine A_loc (l2 := [(0, _), (2, _), (3, _), (4, _)]) ⟨rfl, rfl, rfl, rfl, trivial⟩ ?_
      refine ih (mu (nx (k : Int) w) w) (by omega) _ _ rfl hr2.1 hr2.2 (by omega) (by omega) (fun c3 off3 g1 g2 g3 g4 g5 g6 => hK c3 off3 g1 g2 g3 g4 g5 ?_)
      rw [g6, nm_nx (by omega) (by omega) w1 w2, nm_pos (show 0 ≤ (k : Int) by omega), lookS_go (a := (k : Int)) (fun q => h19 ((sT_k (by omega)).mp q))]
      congr 1
      omega
set_option maxRecDepth 20000 in
theorem l2_X9_looksIn {G : Gl} {d : Nat} {σ : Sg} {K : Option Value → Sg → Prop} {τ : Tw} (hM : RMt τ σ) (hO : OkT τ) {w c off : Int} (w1 : 0 ≤ w) (w2 : w ≤ 3) (c1 : -7 ≤ c) (c2 : c ≤ 48) (f1 : 1 ≤ off) (f2 : off ≤ 100) : ∀ (n i acc : Nat), (i : Int) + n = τ.2.1 0 → K (some (.int (iI ((acc ||| orR (lookM τ w c off) n i : Nat) : Int)))) σ → AW G (d + 1) RX9 cX9_looksIn 7 (some .int) 40 [(0, .ref (gA G 54)), (2, .int (iI w)), (3, .int (iI c)), (4, .int (iI off)), (5, .int (iI (acc : Int))), (6, .int (iI (i : Int)))] [] σ K := by
  intro n
  induction n using Nat.strongRecOn
  rename_i n ih
  intro i acc hn hK
  have hO2 := hO
  obtain ⟨o1, o2, o3, o4, o5, o6, o7, o8, o9⟩ := hO2
  have p0 := hM.2.1
  have p1 := hM.2.2.1
  have p2 : σ.1 63 0 = τ.2.1 2 := hM.2.2.2.1 0 (by decide)
  refine A_iload (pc := 40) dX9_looksIn_40 rfl ?_
  refine A_aload_n (pc := 42) dX9_looksIn_42 rfl rfl ?_
  refine A_getIv (pc := 43) fX9_83 rfl rfl p0 dX9_looksIn_43 ?_
  refine A_icmp_ge (pc := 46) 162 dX9_looksIn_46 (by decide) (by omega) (by omega) (by omega) (by omega) (fun h46 => ?_) (fun h46 => ?_)
  · skip
    refine A_iload (pc := 162) dX9_looksIn_162 rfl ?_
    refine A_iret (pc := 164) rfl dX9_looksIn_164 ?_
    have hn0 : n = 0 := by omega
    subst hn0
    rw [orR, Nat.or_zero] at hK
    exact hK
  · skip
    have q8 := o8 i (by omega)
    refine A_iload_n (pc := 49) dX9_looksIn_49 rfl rfl ?_
    refine A_if_lt (pc := 50) 156 dX9_looksIn_50 (by decide) (by omega) (by omega) (fun h50 => ?_) (fun h50 => ?_)
    · skip
      refine A_iinc (pc := 156) dX9_looksIn_156 rfl (Nat.le_of_ble_eq_true rfl) ?_
      refine A_goto (pc := 159) 40 dX9_looksIn_159 (by decide) ?_
      obtain ⟨m, rfl⟩ : ∃ m, n = m + 1 := ⟨n - 1, by omega⟩
      refine A_loc (l2 := [(0, _), (2, _), (3, _), (4, _), (5, _), (6, _)]) ⟨rfl, rfl, rfl, rfl, rfl, rfl, trivial⟩ ?_
      refine ih m (by omega) (i + 1) acc (by omega) ?_
      rw [orR, if_neg (by intro q; simp only [lookM, Bool.and_eq_true, decide_eq_true_eq] at q; obtain ⟨⟨z1, z2, z3, z4⟩, z5⟩ := q; omega), Nat.zero_or] at hK
      exact hK
    · skip
      refine A_iload (pc := 53) dX9_looksIn_53 rfl ?_
      refine A_aload_n (pc := 55) dX9_looksIn_55 rfl rfl ?_
      refine A_getR (pc := 56) fX9_35 rfl rfl dX9_looksIn_56 ?_
      refine A_iconst (pc := 59) dX9_looksIn_59 ?_
      refine A_ialdv (pc := 60) 0 rfl rfl (by decide) (Nat.le_of_ble_eq_true rfl) p2 dX9_looksIn_60 ?_
      refine A_icmp_gt (pc := 61) 156 dX9_looksIn_61 (by decide) (by omega) (by omega) (by omega) (by omega) (fun h61 => ?_) (fun h61 => ?_)
      · skip
        refine A_iinc (pc := 156) dX9_looksIn_156 rfl (Nat.le_of_ble_eq_true rfl) ?_
        refine A_goto (pc := 159) 40 dX9_looksIn_159 (by decide) ?_
        obtain ⟨m, rfl⟩ : ∃ m, n = m + 1 := ⟨n - 1, by omega⟩
        refine A_loc (l2 := [(0, _), (2, _), (3, _), (4, _), (5, _), (6, _)]) ⟨rfl, rfl, rfl, rfl, rfl, rfl, trivial⟩ ?_
        refine ih m (by omega) (i + 1) acc (by omega) ?_
        rw [orR, if_neg (by intro q; simp only [lookM, Bool.and_eq_true, decide_eq_true_eq] at q; obtain ⟨⟨z1, z2, z3, z4⟩, z5⟩ := q; omega), Nat.zero_or] at hK
        exact hK
      · skip
        refine A_aload_n (pc := 64) dX9_looksIn_64 rfl rfl ?_
        refine A_getR (pc := 65) fX9_16 rfl rfl dX9_looksIn_65 ?_
        refine A_iload (pc := 68) dX9_looksIn_68 rfl ?_
        refine A_ialdv (pc := 70) _ rfl rfl (by omega) (Nat.le_of_ble_eq_true rfl) (hM.at (by omega)) dX9_looksIn_70 ?_
        refine A_iload_n (pc := 71) dX9_looksIn_71 rfl rfl ?_
        refine A_icmp_ne (pc := 72) 156 dX9_looksIn_72 (by decide) (by omega) (by omega) (by omega) (by omega) (fun h72 => ?_) (fun h72 => ?_)
        · skip
          refine A_iinc (pc := 156) dX9_looksIn_156 rfl (Nat.le_of_ble_eq_true rfl) ?_
          refine A_goto (pc := 159) 40 dX9_looksIn_159 (by decide) ?_
          obtain ⟨m, rfl⟩ : ∃ m, n = m + 1 := ⟨n - 1, by omega⟩
          refine A_loc (l2 := [(0, _), (2, _), (3, _), (4, _), (5, _), (6, _)]) ⟨rfl, rfl, rfl, rfl, rfl, rfl, trivial⟩ ?_
          refine ih m (by omega) (i + 1) acc (by omega) ?_
          rw [orR, if_neg (by intro q; simp only [lookM, Bool.and_eq_true, decide_eq_true_eq] at q; obtain ⟨⟨z1, z2, z3, z4⟩, z5⟩ := q; omega), Nat.zero_or] at hK
          exact hK
        · skip
          refine A_aload_n (pc := 75) dX9_looksIn_75 rfl rfl ?_
          refine A_getR (pc := 76) fX9_19 rfl rfl dX9_looksIn_76 ?_
          refine A_iload (pc := 79) dX9_looksIn_79 rfl ?_
          refine A_ialdv (pc := 81) _ rfl rfl (by omega) (Nat.le_of_ble_eq_true rfl) (hM.out (by omega)) dX9_looksIn_81 ?_
          refine A_iconst (pc := 82) dX9_looksIn_82 ?_
          refine A_iload_n (pc := 83) dX9_looksIn_83 rfl rfl ?_
          refine A_isub (pc := 84) dX9_looksIn_84 ?_
          refine A_icmp_ne (pc := 85) 156 dX9_looksIn_85 (by decide) (by omega) (by omega) (by omega) (by omega) (fun h85 => ?_) (fun h85 => ?_)
          · skip
            refine A_iinc (pc := 156) dX9_looksIn_156 rfl (Nat.le_of_ble_eq_true rfl) ?_
            refine A_goto (pc := 159) 40 dX9_looksIn_159 (by decide) ?_
            obtain ⟨m, rfl⟩ : ∃ m, n = m + 1 := ⟨n - 1, by omega⟩
            refine A_loc (l2 := [(0, _), (2, _), (3, _), (4, _), (5, _), (6, _)]) ⟨rfl, rfl, rfl, rfl, rfl, rfl, trivial⟩ ?_
            refine ih m (by omega) (i + 1) acc (by omega) ?_
            rw [orR, if_neg (by intro q; simp only [lookM, Bool.and_eq_true, decide_eq_true_eq] at q; obtain ⟨⟨z1, z2, z3, z4⟩, z5⟩ := q; omega), Nat.zero_or] at hK
            exact hK
          · skip
            refine A_aload_n (pc := 88) dX9_looksIn_88 rfl rfl ?_
            refine A_getR (pc := 89) fX9_7 rfl rfl dX9_looksIn_89 ?_
            refine A_iload (pc := 92) dX9_looksIn_92 rfl ?_
            refine A_ialdv (pc := 94) _ rfl rfl (by omega) (Nat.le_of_ble_eq_true rfl) (hM.kind (by omega)) dX9_looksIn_94 ?_
            refine A_iconst (pc := 95) dX9_looksIn_95 ?_
            refine A_icmp_ne (pc := 96) 102 dX9_looksIn_96 (by decide) (by omega) (by omega) (by omega) (by omega) (fun h96 => ?_) (fun h96 => ?_)
            · skip
              refine A_aload_n (pc := 102) dX9_looksIn_102 rfl rfl ?_
              refine A_getR (pc := 103) fX9_7 rfl rfl dX9_looksIn_103 ?_
              refine A_iload (pc := 106) dX9_looksIn_106 rfl ?_
              refine A_ialdv (pc := 108) _ rfl rfl (by omega) (Nat.le_of_ble_eq_true rfl) (hM.kind (by omega)) dX9_looksIn_108 ?_
              refine A_iconst (pc := 109) dX9_looksIn_109 ?_
              refine A_icmp_ne (pc := 110) 122 dX9_looksIn_110 (by decide) (by omega) (by omega) (by omega) (by omega) (fun h110 => ?_) (fun h110 => ?_)
              · skip
                refine A_aload_n (pc := 122) dX9_looksIn_122 rfl rfl ?_
                refine A_getR (pc := 123) fX9_7 rfl rfl dX9_looksIn_123 ?_
                refine A_iload (pc := 126) dX9_looksIn_126 rfl ?_
                refine A_ialdv (pc := 128) _ rfl rfl (by omega) (Nat.le_of_ble_eq_true rfl) (hM.kind (by omega)) dX9_looksIn_128 ?_
                refine A_iconst (pc := 129) dX9_looksIn_129 ?_
                refine A_icmp_ne (pc := 130) 147 dX9_looksIn_130 (by decide) (by omega) (by omega) (by omega) (by omega) (fun h130 => ?_) (fun h130 => ?_)
                · skip
                  refine A_iload (pc := 147) dX9_looksIn_147 rfl ?_
                  refine A_iconst (pc := 149) dX9_looksIn_149 ?_
                  refine A_iload (pc := 150) dX9_looksIn_150 rfl ?_
                  refine A_ishl (pc := 152) ((2 ^ i : Nat) : Int) dX9_looksIn_152 (shl_I (by omega)) ?_
                  refine A_ior (pc := 153) ((acc ||| 2 ^ i : Nat) : Int) dX9_looksIn_153 (or_I acc (2 ^ i)) ?_
                  refine A_istore (pc := 154) dX9_looksIn_154 (Nat.le_of_ble_eq_true rfl) ?_
                  refine A_iinc (pc := 156) dX9_looksIn_156 rfl (Nat.le_of_ble_eq_true rfl) ?_
                  refine A_goto (pc := 159) 40 dX9_looksIn_159 (by decide) ?_
                  obtain ⟨m, rfl⟩ : ∃ m, n = m + 1 := ⟨n - 1, by omega⟩
                  refine A_loc (l2 := [(0, _), (2, _), (3, _), (4, _), (5, _), (6, _)]) ⟨rfl, rfl, rfl, rfl, rfl, rfl, trivial⟩ ?_
                  refine ih m (by omega) (i + 1) (acc ||| 2 ^ i) (by omega) ?_
                  rw [orR, if_pos (by simp only [lookM, Bool.and_eq_true, decide_eq_true_eq]; refine ⟨⟨by omega, by omega, by omega, by omega⟩, ?_⟩; unfold lets; (repeat' split) <;> first | omega | (simp; done) | (simp; omega)), ← Nat.or_assoc] at hK
                  exact hK
                · skip
                  refine A_iload (pc := 133) dX9_looksIn_133 rfl ?_
                  refine A_aload_n (pc := 135) dX9_looksIn_135 rfl rfl ?_
                  refine A_getR (pc := 136) fX9_13 rfl rfl dX9_looksIn_136 ?_
                  refine A_iload (pc := 139) dX9_looksIn_139 rfl ?_
                  refine A_ialdv (pc := 141) _ rfl rfl (by omega) (Nat.le_of_ble_eq_true rfl) (hM.a (by omega)) dX9_looksIn_141 ?_
                  refine A_iconst (pc := 142) dX9_looksIn_142 ?_
                  refine A_iadd (pc := 143) dX9_looksIn_143 ?_
                  refine A_icmp_gt (pc := 144) 156 dX9_looksIn_144 (by decide) (by omega) (by omega) (by omega) (by omega) (fun h144 => ?_) (fun h144 => ?_)
                  · skip
                    refine A_iinc (pc := 156) dX9_looksIn_156 rfl (Nat.le_of_ble_eq_true rfl) ?_
                    refine A_goto (pc := 159) 40 dX9_looksIn_159 (by decide) ?_
                    obtain ⟨m, rfl⟩ : ∃ m, n = m + 1 := ⟨n - 1, by omega⟩
                    refine A_loc (l2 := [(0, _), (2, _), (3, _), (4, _), (5, _), (6, _)]) ⟨rfl, rfl, rfl, rfl, rfl, rfl, trivial⟩ ?_
                    refine ih m (by omega) (i + 1) acc (by omega) ?_
                    rw [orR, if_neg (by intro q; simp only [lookM, Bool.and_eq_true, decide_eq_true_eq] at q; obtain ⟨⟨z1, z2, z3, z4⟩, z5⟩ := q; unfold lets at z5; (repeat' split at z5) <;> first | omega | (simp at z5; done) | (simp at z5; omega)), Nat.zero_or] at hK
                    exact hK
                  · skip
                    refine A_iload (pc := 147) dX9_looksIn_147 rfl ?_
                    refine A_iconst (pc := 149) dX9_looksIn_149 ?_
                    refine A_iload (pc := 150) dX9_looksIn_150 rfl ?_
                    refine A_ishl (pc := 152) ((2 ^ i : Nat) : Int) dX9_looksIn_152 (shl_I (by omega)) ?_
                    refine A_ior (pc := 153) ((acc ||| 2 ^ i : Nat) : Int) dX9_looksIn_153 (or_I acc (2 ^ i)) ?_
                    refine A_istore (pc := 154) dX9_looksIn_154 (Nat.le_of_ble_eq_true rfl) ?_
                    refine A_iinc (pc := 156) dX9_looksIn_156 rfl (Nat.le_of_ble_eq_true rfl) ?_
                    refine A_goto (pc := 159) 40 dX9_looksIn_159 (by decide) ?_
                    obtain ⟨m, rfl⟩ : ∃ m, n = m + 1 := ⟨n - 1, by omega⟩
                    refine A_loc (l2 := [(0, _), (2, _), (3, _), (4, _), (5, _), (6, _)]) ⟨rfl, rfl, rfl, rfl, rfl, rfl, trivial⟩ ?_
                    refine ih m (by omega) (i + 1) (acc ||| 2 ^ i) (by omega) ?_
                    rw [orR, if_pos (by simp only [lookM, Bool.and_eq_true, decide_eq_true_eq]; refine ⟨⟨by omega, by omega, by omega, by omega⟩, ?_⟩; unfold lets; (repeat' split) <;> first | omega | (simp; done) | (simp; omega)), ← Nat.or_assoc] at hK
                    exact hK
              · skip
                refine A_iload (pc := 113) dX9_looksIn_113 rfl ?_
                refine A_iconst (pc := 115) dX9_looksIn_115 ?_
                refine A_icmp_ne (pc := 116) 156 dX9_looksIn_116 (by decide) (by omega) (by omega) (by omega) (by omega) (fun h116 => ?_) (fun h116 => ?_)
                · skip
                  refine A_iinc (pc := 156) dX9_looksIn_156 rfl (Nat.le_of_ble_eq_true rfl) ?_
                  refine A_goto (pc := 159) 40 dX9_looksIn_159 (by decide) ?_
                  obtain ⟨m, rfl⟩ : ∃ m, n = m + 1 := ⟨n - 1, by omega⟩
                  refine A_loc (l2 := [(0, _), (2, _), (3, _), (4, _), (5, _), (6, _)]) ⟨rfl, rfl, rfl, rfl, rfl, rfl, trivial⟩ ?_
                  refine ih m (by omega) (i + 1) acc (by omega) ?_
                  rw [orR, if_neg (by intro q; simp only [lookM, Bool.and_eq_true, decide_eq_true_eq] at q; obtain ⟨⟨z1, z2, z3, z4⟩, z5⟩ := q; unfold lets at z5; (repeat' split at z5) <;> first | omega | (simp at z5; done) | (simp at z5; omega)), Nat.zero_or] at hK
                  exact hK
                · skip
                  refine A_goto (pc := 119) 147 dX9_looksIn_119 (by decide) ?_
                  refine A_iload (pc := 147) dX9_looksIn_147 rfl ?_
                  refine A_iconst (pc := 149) dX9_looksIn_149 ?_
                  refine A_iload (pc := 150) dX9_looksIn_150 rfl ?_
                  refine A_ishl (pc := 152) ((2 ^ i : Nat) : Int) dX9_looksIn_152 (shl_I (by omega)) ?_
                  refine A_ior (pc := 153) ((acc ||| 2 ^ i : Nat) : Int) dX9_looksIn_153 (or_I acc (2 ^ i)) ?_
                  refine A_istore (pc := 154) dX9_looksIn_154 (Nat.le_of_ble_eq_true rfl) ?_
                  refine A_iinc (pc := 156) dX9_looksIn_156 rfl (Nat.le_of_ble_eq_true rfl) ?_
                  refine A_goto (pc := 159) 40 dX9_looksIn_159 (by decide) ?_
                  obtain ⟨m, rfl⟩ : ∃ m, n = m + 1 := ⟨n - 1, by omega⟩
                  refine A_loc (l2 := [(0, _), (2, _), (3, _), (4, _), (5, _), (6, _)]) ⟨rfl, rfl, rfl, rfl, rfl, rfl, trivial⟩ ?_
                  refine ih m (by omega) (i + 1) (acc ||| 2 ^ i) (by omega) ?_
                  rw [orR, if_pos (by simp only [lookM, Bool.and_eq_true, decide_eq_true_eq]; refine ⟨⟨by omega, by omega, by omega, by omega⟩, ?_⟩; unfold lets; (repeat' split) <;> first | omega | (simp; done) | (simp; omega)), ← Nat.or_assoc] at hK
                  exact hK
            · skip
              refine A_goto (pc := 99) 156 dX9_looksIn_99 (by decide) ?_
              refine A_iinc (pc := 156) dX9_looksIn_156 rfl (Nat.le_of_ble_eq_true rfl) ?_
              refine A_goto (pc := 159) 40 dX9_looksIn_159 (by decide) ?_
              obtain ⟨m, rfl⟩ : ∃ m, n = m + 1 := ⟨n - 1, by omega⟩
              refine A_loc (l2 := [(0, _), (2, _), (3, _), (4, _), (5, _), (6, _)]) ⟨rfl, rfl, rfl, rfl, rfl, rfl, trivial⟩ ?_
              refine ih m (by omega) (i + 1) acc (by omega) ?_
              rw [orR, if_neg (by intro q; simp only [lookM, Bool.and_eq_true, decide_eq_true_eq] at q; obtain ⟨⟨z1, z2, z3, z4⟩, z5⟩ := q; unfold lets at z5; (repeat' split at z5) <;> first | omega | (simp at z5; done) | (simp at z5; omega)), Nat.zero_or] at hK
              exact hK
set_option maxRecDepth 20000 in
theorem c_X9_looksIn {G : Gl} {d : Nat} {σ : Sg} {τ : Tw} (hM : RMt τ σ) (hO : OkT τ) {s w : Int} (s1 : 0 ≤ s) (s2 : s ≤ 48) (w1 : 0 ≤ w) (w2 : w ≤ 3) : CT G (d + 1) yX9_looksIn cX9_looksIn 7 (some .int) [.ref (gA G 54), .int (iI s), .int (iI w)] σ (R1 (.int (iI ((look τ s w : Nat) : Int))) σ) := by
  refine CT.of (by decide +kernel) (Nat.le_of_ble_eq_true rfl) ?_
  change AW G _ RX9 _ _ _ 0 [(0, .ref (gA G 54)), (1, .int (iI s)), (2, .int (iI w))] [] _ _
  have hO2 := hO
  obtain ⟨o1, o2, o3, o4, o5, o6, o7, o8, o9⟩ := hO2
  have p0 := hM.2.1
  have p1 := hM.2.2.1
  have p2 : σ.1 63 0 = τ.2.1 2 := hM.2.2.2.1 0 (by decide)
  have hr2 := nx_rng (w := w) s1 s2
  refine A_iload_n (pc := 0) dX9_looksIn_0 rfl rfl ?_
  refine A_iload_n (pc := 1) dX9_looksIn_1 rfl rfl ?_
  refine A_callS1 (pc := 2) kX9_223 (c_X9_next s1 s2 w1 w2) dX9_looksIn_2 rfl rfl (Nat.le_of_ble_eq_true rfl) (Nat.le_of_ble_eq_true rfl) ?_
  refine A_istore_n (pc := 5) dX9_looksIn_5 rfl (Nat.le_of_ble_eq_true rfl) ?_
  refine A_iconst (pc := 6) dX9_looksIn_6 ?_
  refine A_istore (pc := 7) dX9_looksIn_7 (Nat.le_of_ble_eq_true rfl) ?_
  refine A_loc (l2 := [(0, _), (2, _), (3, _), (4, _)]) ⟨rfl, rfl, rfl, rfl, trivial⟩ ?_
  refine l1_X9_looksIn hM hO w1 w2 (mu (nx s w) w) (nx s w) 1 rfl hr2.1 hr2.2 (by omega) (by have := mu_le (nx s w) w hr2.2; omega) (fun c off g1 g2 g3 g4 g5 g6 => ?_)
  refine A_iconst (pc := 34) dX9_looksIn_34 ?_
  refine A_istore (pc := 35) dX9_looksIn_35 (Nat.le_of_ble_eq_true rfl) ?_
  refine A_iconst (pc := 37) dX9_looksIn_37 ?_
  refine A_istore (pc := 38) dX9_looksIn_38 (Nat.le_of_ble_eq_true rfl) ?_
  refine A_loc (l2 := [(0, _), (2, _), (3, _), (4, _), (5, _), (6, _)]) ⟨rfl, rfl, rfl, rfl, rfl, rfl, trivial⟩ ?_
  refine l2_X9_looksIn hM hO w1 w2 g1 g2 g3 g4 (τ.2.1 0).toNat 0 0 (by omega) ⟨?_, rfl⟩
  have e : look τ s w = orR (lookM τ w c off) (τ.2.1 0).toNat 0 := by
    rw [nm_nx s1 s2 w1 w2, ← lookS_next] at g6
    have e0 : (τ.2.1 2 + 1 - 1).toNat = (τ.2.1 2).toNat := by omega
    rw [e0] at g6
    rw [look, ← g6]
    have z0 : ∀ m i, (∀ p, lookM τ w c off p = false) → orR (lookM τ w c off) m i = 0 := by
      intro m
      induction m with
      | zero => intro i _; rfl
      | succ m ih => intro i hz; rw [orR, hz i, if_neg (by decide), ih _ hz]; rfl
    by_cases hc : c < 0
    · rw [nm_neg hc, lookS_neg, z0]
      intro p
      simp only [lookM, decide_eq_false (show ¬ (0 ≤ c ∧ off ≤ τ.2.1 2 ∧ τ.2.2 2 p = c ∧ τ.2.2 3 p = 3 - w) from fun q => by omega), Bool.false_and]
    · have hh : sT τ.1 c := g5.resolve_left hc
      rw [nm_pos (by omega)]
      unfold lookS
      by_cases ho : off ≤ τ.2.1 2
      · rw [if_neg (by omega), if_pos hh]
        unfold opens
        refine orR_congr (fun p _ _ => ?_)
        simp only [lookM]
        congr 1
        apply decide_eq_decide.mpr
        constructor
        · intro q; exact ⟨by omega, ho, q.1, q.2⟩
        · intro q; exact ⟨q.2.2.1, q.2.2.2⟩
      · rw [if_pos (by omega), z0]
        intro p
        simp only [lookM, decide_eq_false (show ¬ (0 ≤ c ∧ off ≤ τ.2.1 2 ∧ τ.2.2 2 p = c ∧ τ.2.2 3 p = 3 - w) from fun q => by omega), Bool.false_and]
  rw [Nat.zero_or, e]
theorem dX9_shame_0 : decode cX9_shame 0 = .ok (.aload_n 0, 1) := by decide +kernel
theorem dX9_shame_1 : decode cX9_shame 1 = .ok (.iload_n 1, 1) := by decide +kernel
theorem dX9_shame_2 : decode cX9_shame 2 = .ok (.iload_n 2, 1) := by decide +kernel
theorem dX9_shame_3 : decode cX9_shame 3 = .ok (.invokevirtual 159, 3) := by decide +kernel
theorem dX9_shame_6 : decode cX9_shame 6 = .ok (.invokestatic 233, 3) := by decide +kernel
theorem dX9_shame_9 : decode cX9_shame 9 = .ok (.ireturn, 1) := by decide +kernel
set_option maxRecDepth 20000 in
theorem c_X9_shame {G : Gl} {d : Nat} {σ : Sg} {τ : Tw} (hM : RMt τ σ) (hO : OkT τ) {s w : Int} (s1 : 0 ≤ s) (s2 : s ≤ 48) (w1 : 0 ≤ w) (w2 : w ≤ 3) : CT G (d + 2) yX9_shame cX9_shame 3 (some .int) [.ref (gA G 54), .int (iI s), .int (iI w)] σ (R1 (.int (iI (sham τ s w))) σ) := by
  refine CT.of (by decide +kernel) (Nat.le_of_ble_eq_true rfl) ?_
  change AW G _ RX9 _ _ _ 0 [(0, .ref (gA G 54)), (1, .int (iI s)), (2, .int (iI w))] [] _ _
  have hO2 := hO
  obtain ⟨o1, o2, o3, o4, o5, o6, o7, o8, o9⟩ := hO2
  have p0 := hM.2.1
  have p1 := hM.2.2.1
  have p2 : σ.1 63 0 = τ.2.1 2 := hM.2.2.2.1 0 (by decide)
  refine A_aload_n (pc := 0) dX9_shame_0 rfl rfl ?_
  refine A_iload_n (pc := 1) dX9_shame_1 rfl rfl ?_
  refine A_iload_n (pc := 2) dX9_shame_2 rfl rfl ?_
  refine A_callV1 (pc := 3) kX9_159 rfl rfl (c_X9_looksIn hM hO s1 s2 w1 w2) dX9_shame_3 rfl rfl (Nat.le_of_ble_eq_true rfl) (Nat.le_of_ble_eq_true rfl) ?_
  refine A_callS1 (pc := 6) kX9_233 (c_J6_bitCount_0f7a4) dX9_shame_6 rfl rfl (Nat.le_of_ble_eq_true rfl) (Nat.le_of_ble_eq_true rfl) ?_
  refine A_iret (pc := 9) rfl dX9_shame_9 ?_
  exact ⟨rfl, rfl⟩
