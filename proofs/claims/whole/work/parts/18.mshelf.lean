/-! PART 18: the reference: refusals, shelves; kinds above for both -/
theorem MC70 : ∀ a, a = 70 → MC a := fun a h => by unfold MC; omega
theorem MC66 : ∀ a, (a = 64 ∨ a = 65 ∨ a = 66) → MC a := fun a h => by unfold MC; omega
theorem dX9_no_0 : decode cX9_no 0 = .ok (.aload_n 0, 1) := by decide +kernel
theorem dX9_no_1 : decode cX9_no 1 = .ok (.getfield 57, 3) := by decide +kernel
theorem dX9_no_4 : decode cX9_no 4 = .ok (.iload_n 1, 1) := by decide +kernel
theorem dX9_no_5 : decode cX9_no 5 = .ok (.ineg, 1) := by decide +kernel
theorem dX9_no_6 : decode cX9_no 6 = .ok (.dup2, 1) := by decide +kernel
theorem dX9_no_7 : decode cX9_no 7 = .ok (.iaload, 1) := by decide +kernel
theorem dX9_no_8 : decode cX9_no 8 = .ok (.iconst 1, 1) := by decide +kernel
theorem dX9_no_9 : decode cX9_no 9 = .ok (.iadd, 1) := by decide +kernel
theorem dX9_no_10 : decode cX9_no 10 = .ok (.iastore, 1) := by decide +kernel
theorem dX9_no_11 : decode cX9_no 11 = .ok (.iload_n 1, 1) := by decide +kernel
theorem dX9_no_12 : decode cX9_no 12 = .ok (.ireturn, 1) := by decide +kernel
set_option maxRecDepth 20000 in
theorem c_X9_no {G : Gl} {d : Nat} {σ : Sg} {Z : Zt} (hZ : RelM Z σ) (hO : OkZ Z) {t : Int} (t1 : -7 ≤ t) (t2 : t ≤ -1) : CT G d yX9_no cX9_no 2 (some .int) [.ref (gA G 54), .int (iI t)] σ (RE (some (.int (iI t))) (fun υ => RelM (zRef Z (-t).toNat) υ ∧ Fr (fun a => a = 70) σ υ)) := by
  refine CT.of (by decide +kernel) (Nat.le_of_ble_eq_true rfl) ?_
  change AW G _ RX9 _ _ _ 0 [(0, .ref (gA G 54)), (1, .int (iI t))] [] _ _
  refine A_aload_n (pc := 0) dX9_no_0 rfl rfl ?_
  refine A_getR (pc := 1) fX9_57 rfl rfl dX9_no_1 ?_
  refine A_iload_n (pc := 4) dX9_no_4 rfl rfl ?_
  refine A_ineg (pc := 5) dX9_no_5 ?_
  refine A_dup2 (pc := 6) dX9_no_6 rfl rfl ?_
  refine A_iald (pc := 7) (-t).toNat rfl (by omega) (by omega) (Nat.le_of_ble_eq_true rfl) dX9_no_7 ?_
  refine A_iconst (pc := 8) dX9_no_8 ?_
  refine A_iadd (pc := 9) dX9_no_9 ?_
  refine A_iast (pc := 10) (-t).toNat rfl (by omega) (by omega) (Nat.le_of_ble_eq_true rfl) dX9_no_10 ?_
  refine A_iload_n (pc := 11) dX9_no_11 rfl rfl ?_
  refine A_iret (pc := 12) rfl dX9_no_12 ?_
  exact ⟨rfl, hZ.ref (by omega) (by omega), Fr.rf.uI rfl⟩
theorem dX9_no10_0 : decode cX9_no10 0 = .ok (.aload_n 0, 1) := by decide +kernel
theorem dX9_no10_1 : decode cX9_no10 1 = .ok (.iload_n 1, 1) := by decide +kernel
theorem dX9_no10_2 : decode cX9_no10 2 = .ok (.invokevirtual 79, 3) := by decide +kernel
theorem dX9_no10_5 : decode cX9_no10 5 = .ok (.bipush 10, 2) := by decide +kernel
theorem dX9_no10_7 : decode cX9_no10 7 = .ok (.isub, 1) := by decide +kernel
theorem dX9_no10_8 : decode cX9_no10 8 = .ok (.ireturn, 1) := by decide +kernel
set_option maxRecDepth 20000 in
theorem c_X9_no10 {G : Gl} {d : Nat} {σ : Sg} {Z : Zt} (hZ : RelM Z σ) (hO : OkZ Z) {t : Int} (t1 : -7 ≤ t) (t2 : t ≤ -1) : CT G (d + 1) yX9_no10 cX9_no10 2 (some .int) [.ref (gA G 54), .int (iI t)] σ (RE (some (.int (iI (t - 10)))) (fun υ => RelM (zRef Z (-t).toNat) υ ∧ Fr (fun a => a = 70) σ υ)) := by
  refine CT.of (by decide +kernel) (Nat.le_of_ble_eq_true rfl) ?_
  change AW G _ RX9 _ _ _ 0 [(0, .ref (gA G 54)), (1, .int (iI t))] [] _ _
  refine A_aload_n (pc := 0) dX9_no10_0 rfl rfl ?_
  refine A_iload_n (pc := 1) dX9_no10_1 rfl rfl ?_
  refine A_callVe (pc := 2) kX9_79 rfl rfl (c_X9_no hZ hO t1 t2) dX9_no10_2 rfl rfl (Nat.le_of_ble_eq_true rfl) (Nat.le_of_ble_eq_true rfl) (fun υ hυ => ?_)
  refine A_bipush (pc := 5) dX9_no10_5 (by decide) ?_
  refine A_isub (pc := 7) dX9_no10_7 ?_
  refine A_iret (pc := 8) rfl dX9_no10_8 ?_
  exact ⟨rfl, hυ⟩
theorem dX9_isRow_0 : decode cX9_isRow 0 = .ok (.aload_n 0, 1) := by decide +kernel
theorem dX9_isRow_1 : decode cX9_isRow 1 = .ok (.getfield 38, 3) := by decide +kernel
theorem dX9_isRow_4 : decode cX9_isRow 4 = .ok (.iload_n 1, 1) := by decide +kernel
theorem dX9_isRow_5 : decode cX9_isRow 5 = .ok (.iaload, 1) := by decide +kernel
theorem dX9_isRow_6 : decode cX9_isRow 6 = .ok (.bipush 100, 2) := by decide +kernel
theorem dX9_isRow_8 : decode cX9_isRow 8 = .ok (.if_icmp .lt 7, 3) := by decide +kernel
theorem dX9_isRow_11 : decode cX9_isRow 11 = .ok (.iconst 1, 1) := by decide +kernel
theorem dX9_isRow_12 : decode cX9_isRow 12 = .ok (.goto 4, 3) := by decide +kernel
theorem dX9_isRow_15 : decode cX9_isRow 15 = .ok (.iconst 0, 1) := by decide +kernel
theorem dX9_isRow_16 : decode cX9_isRow 16 = .ok (.ireturn, 1) := by decide +kernel
set_option maxRecDepth 20000 in
theorem c_X9_isRow {G : Gl} {d : Nat} {σ : Sg} {Z : Zt} (hZ : RelM Z σ) (hO : OkZ Z) {k : Nat} (k8 : k < 8) : CT G d yX9_isRow cX9_isRow 2 (some .boolean) [.ref (gA G 54), .int (iI (k : Int))] σ (R1 (.int (iI (bI (100 ≤ Z.2.1.1 k)))) σ) := by
  refine CT.of (by decide +kernel) (Nat.le_of_ble_eq_true rfl) ?_
  change AW G _ RX9 _ _ _ 0 [(0, .ref (gA G 54)), (1, .int (iI (k : Int)))] [] _ _
  have ks := hZ.2.1 k k8
  have ko := hO.2.1 k k8
  obtain ⟨kb1, kb2, kb3, kb4⟩ := ko.1
  refine A_aload_n (pc := 0) dX9_isRow_0 rfl rfl ?_
  refine A_getR (pc := 1) fX9_38 rfl rfl dX9_isRow_1 ?_
  refine A_iload_n (pc := 4) dX9_isRow_4 rfl rfl ?_
  refine A_ialdv (pc := 5) _ rfl rfl (by omega) (Nat.le_of_ble_eq_true rfl) ks.1 dX9_isRow_5 ?_
  refine A_bipush (pc := 6) dX9_isRow_6 (by decide) ?_
  refine A_icmp_lt (pc := 8) 15 dX9_isRow_8 (by decide) (by omega) (by omega) (by omega) (by omega) (fun h8 => ?_) (fun h8 => ?_)
  · skip
    refine A_iconst (pc := 15) dX9_isRow_15 ?_
    refine A_zret (pc := 16) rfl rfl dX9_isRow_16 ?_
    exact R1_f (by omega)
  · skip
    refine A_iconst (pc := 11) dX9_isRow_11 ?_
    refine A_goto (pc := 12) 16 dX9_isRow_12 (by decide) ?_
    refine A_zret (pc := 16) rfl rfl dX9_isRow_16 ?_
    exact R1_t (by omega)
theorem dX9_noRow_0 : decode cX9_noRow 0 = .ok (.iload_n 1, 1) := by decide +kernel
theorem dX9_noRow_1 : decode cX9_noRow 1 = .ok (.iconst 0, 1) := by decide +kernel
theorem dX9_noRow_2 : decode cX9_noRow 2 = .ok (.bipush 7, 2) := by decide +kernel
theorem dX9_noRow_4 : decode cX9_noRow 4 = .ok (.invokestatic 86, 3) := by decide +kernel
theorem dX9_noRow_7 : decode cX9_noRow 7 = .ok (.ifCond .ne 5, 3) := by decide +kernel
theorem dX9_noRow_10 : decode cX9_noRow 10 = .ok (.iconst (-1), 1) := by decide +kernel
theorem dX9_noRow_11 : decode cX9_noRow 11 = .ok (.ireturn, 1) := by decide +kernel
theorem dX9_noRow_12 : decode cX9_noRow 12 = .ok (.aload_n 0, 1) := by decide +kernel
theorem dX9_noRow_13 : decode cX9_noRow 13 = .ok (.getfield 38, 3) := by decide +kernel
theorem dX9_noRow_16 : decode cX9_noRow 16 = .ok (.iload_n 1, 1) := by decide +kernel
theorem dX9_noRow_17 : decode cX9_noRow 17 = .ok (.iaload, 1) := by decide +kernel
theorem dX9_noRow_18 : decode cX9_noRow 18 = .ok (.ifCond .lt 14, 3) := by decide +kernel
theorem dX9_noRow_21 : decode cX9_noRow 21 = .ok (.aload_n 0, 1) := by decide +kernel
theorem dX9_noRow_22 : decode cX9_noRow 22 = .ok (.iload_n 1, 1) := by decide +kernel
theorem dX9_noRow_23 : decode cX9_noRow 23 = .ok (.invokevirtual 97, 3) := by decide +kernel
theorem dX9_noRow_26 : decode cX9_noRow 26 = .ok (.ifCond .ne 6, 3) := by decide +kernel
theorem dX9_noRow_29 : decode cX9_noRow 29 = .ok (.bipush (-2), 2) := by decide +kernel
theorem dX9_noRow_31 : decode cX9_noRow 31 = .ok (.ireturn, 1) := by decide +kernel
theorem dX9_noRow_32 : decode cX9_noRow 32 = .ok (.aload_n 0, 1) := by decide +kernel
theorem dX9_noRow_33 : decode cX9_noRow 33 = .ok (.getfield 38, 3) := by decide +kernel
theorem dX9_noRow_36 : decode cX9_noRow 36 = .ok (.iload_n 1, 1) := by decide +kernel
theorem dX9_noRow_37 : decode cX9_noRow 37 = .ok (.iaload, 1) := by decide +kernel
theorem dX9_noRow_38 : decode cX9_noRow 38 = .ok (.ifCond .ge 8, 3) := by decide +kernel
theorem dX9_noRow_41 : decode cX9_noRow 41 = .ok (.bipush (-3), 2) := by decide +kernel
theorem dX9_noRow_43 : decode cX9_noRow 43 = .ok (.goto 4, 3) := by decide +kernel
theorem dX9_noRow_46 : decode cX9_noRow 46 = .ok (.iconst 0, 1) := by decide +kernel
theorem dX9_noRow_47 : decode cX9_noRow 47 = .ok (.ireturn, 1) := by decide +kernel
set_option maxRecDepth 20000 in
theorem c_X9_noRow {G : Gl} {d : Nat} {σ : Sg} {Z : Zt} (hZ : RelM Z σ) (hO : OkZ Z) {s : Int} (hs1 : -2147483648 ≤ s) (hs2 : s < 2147483648) : CT G (d + 1) yX9_noRow cX9_noRow 2 (some .int) [.ref (gA G 54), .int (iI s)] σ (R1 (.int (iI (rowT Z s))) σ) := by
  refine CT.of (by decide +kernel) (Nat.le_of_ble_eq_true rfl) ?_
  change AW G _ RX9 _ _ _ 0 [(0, .ref (gA G 54)), (1, .int (iI s))] [] _ _
  refine A_iload_n (pc := 0) dX9_noRow_0 rfl rfl ?_
  refine A_iconst (pc := 1) dX9_noRow_1 ?_
  refine A_bipush (pc := 2) dX9_noRow_2 (by decide) ?_
  refine A_callS1 (pc := 4) kX9_86 (c_X9_within (v := s) (a := 0) (b := 7) (by omega) (by omega) (by omega) (by omega) (by omega) (by omega)) dX9_noRow_4 rfl rfl (Nat.le_of_ble_eq_true rfl) (Nat.le_of_ble_eq_true rfl) ?_
  refine A_ifb_ne (pc := 7) 12 dX9_noRow_7 (by decide) (fun h7 => ?_) (fun h7 => ?_)
  · skip
    obtain ⟨k, rfl⟩ := Int.eq_ofNat_of_zero_le (show 0 ≤ s by omega)
    have k8 : k < 8 := by omega
    have ks := hZ.2.1 k k8
    have ko := hO.2.1 k k8
    obtain ⟨kb1, kb2, kb3, kb4⟩ := ko.1
    refine A_aload_n (pc := 12) dX9_noRow_12 rfl rfl ?_
    refine A_getR (pc := 13) fX9_38 rfl rfl dX9_noRow_13 ?_
    refine A_iload_n (pc := 16) dX9_noRow_16 rfl rfl ?_
    refine A_ialdv (pc := 17) _ rfl rfl (by omega) (Nat.le_of_ble_eq_true rfl) ks.1 dX9_noRow_17 ?_
    refine A_if_lt (pc := 18) 32 dX9_noRow_18 (by decide) (by omega) (by omega) (fun h18 => ?_) (fun h18 => ?_)
    · skip
      refine A_aload_n (pc := 32) dX9_noRow_32 rfl rfl ?_
      refine A_getR (pc := 33) fX9_38 rfl rfl dX9_noRow_33 ?_
      refine A_iload_n (pc := 36) dX9_noRow_36 rfl rfl ?_
      refine A_ialdv (pc := 37) _ rfl rfl (by omega) (Nat.le_of_ble_eq_true rfl) ks.1 dX9_noRow_37 ?_
      refine A_if_ge (pc := 38) 46 dX9_noRow_38 (by decide) (by omega) (by omega) (fun h38 => ?_) (fun h38 => ?_)
      · skip
        refine A_iconst (pc := 46) dX9_noRow_46 ?_
        refine A_iret (pc := 47) rfl dX9_noRow_47 ?_
        exact R1_e (by unfold rowT; (try simp only [Int.toNat_natCast]); (repeat' split) <;> omega)
      · skip
        refine A_bipush (pc := 41) dX9_noRow_41 (by decide) ?_
        refine A_goto (pc := 43) 47 dX9_noRow_43 (by decide) ?_
        refine A_iret (pc := 47) rfl dX9_noRow_47 ?_
        exact R1_e (by unfold rowT; (try simp only [Int.toNat_natCast]); (repeat' split) <;> omega)
    · skip
      refine A_aload_n (pc := 21) dX9_noRow_21 rfl rfl ?_
      refine A_iload_n (pc := 22) dX9_noRow_22 rfl rfl ?_
      refine A_callV1 (pc := 23) kX9_97 rfl rfl (c_X9_isRow hZ hO k8) dX9_noRow_23 rfl rfl (Nat.le_of_ble_eq_true rfl) (Nat.le_of_ble_eq_true rfl) ?_
      refine A_ifb_ne (pc := 26) 32 dX9_noRow_26 (by decide) (fun h26 => ?_) (fun h26 => ?_)
      · skip
        refine A_aload_n (pc := 32) dX9_noRow_32 rfl rfl ?_
        refine A_getR (pc := 33) fX9_38 rfl rfl dX9_noRow_33 ?_
        refine A_iload_n (pc := 36) dX9_noRow_36 rfl rfl ?_
        refine A_ialdv (pc := 37) _ rfl rfl (by omega) (Nat.le_of_ble_eq_true rfl) ks.1 dX9_noRow_37 ?_
        refine A_if_ge (pc := 38) 46 dX9_noRow_38 (by decide) (by omega) (by omega) (fun h38 => ?_) (fun h38 => ?_)
        · skip
          refine A_iconst (pc := 46) dX9_noRow_46 ?_
          refine A_iret (pc := 47) rfl dX9_noRow_47 ?_
          exact R1_e (by unfold rowT; (try simp only [Int.toNat_natCast]); (repeat' split) <;> omega)
        · skip
          refine A_bipush (pc := 41) dX9_noRow_41 (by decide) ?_
          refine A_goto (pc := 43) 47 dX9_noRow_43 (by decide) ?_
          refine A_iret (pc := 47) rfl dX9_noRow_47 ?_
          exact R1_e (by unfold rowT; (try simp only [Int.toNat_natCast]); (repeat' split) <;> omega)
      · skip
        refine A_bipush (pc := 29) dX9_noRow_29 (by decide) ?_
        refine A_iret (pc := 31) rfl dX9_noRow_31 ?_
        exact R1_e (by unfold rowT; (try simp only [Int.toNat_natCast]); (repeat' split) <;> omega)
  · skip
    refine A_iconst (pc := 10) dX9_noRow_10 ?_
    refine A_iret (pc := 11) rfl dX9_noRow_11 ?_
    exact R1_e (by unfold rowT; (try simp only [Int.toNat_natCast]); (repeat' split) <;> omega)
theorem dX9_row_0 : decode cX9_row 0 = .ok (.iload_n 1, 1) := by decide +kernel
theorem dX9_row_1 : decode cX9_row 1 = .ok (.iconst 0, 1) := by decide +kernel
theorem dX9_row_2 : decode cX9_row 2 = .ok (.bipush 7, 2) := by decide +kernel
theorem dX9_row_4 : decode cX9_row 4 = .ok (.invokestatic 86, 3) := by decide +kernel
theorem dX9_row_7 : decode cX9_row 7 = .ok (.ifCond .ne 9, 3) := by decide +kernel
theorem dX9_row_10 : decode cX9_row 10 = .ok (.aload_n 0, 1) := by decide +kernel
theorem dX9_row_11 : decode cX9_row 11 = .ok (.iconst (-1), 1) := by decide +kernel
theorem dX9_row_12 : decode cX9_row 12 = .ok (.invokevirtual 79, 3) := by decide +kernel
theorem dX9_row_15 : decode cX9_row 15 = .ok (.ireturn, 1) := by decide +kernel
theorem dX9_row_16 : decode cX9_row 16 = .ok (.iload_n 3, 1) := by decide +kernel
theorem dX9_row_17 : decode cX9_row 17 = .ok (.ifCond .ge 10, 3) := by decide +kernel
theorem dX9_row_20 : decode cX9_row 20 = .ok (.aload_n 0, 1) := by decide +kernel
theorem dX9_row_21 : decode cX9_row 21 = .ok (.bipush (-4), 2) := by decide +kernel
theorem dX9_row_23 : decode cX9_row 23 = .ok (.invokevirtual 79, 3) := by decide +kernel
theorem dX9_row_26 : decode cX9_row 26 = .ok (.ireturn, 1) := by decide +kernel
theorem dX9_row_27 : decode cX9_row 27 = .ok (.iload_n 2, 1) := by decide +kernel
theorem dX9_row_28 : decode cX9_row 28 = .ok (.iconst 0, 1) := by decide +kernel
theorem dX9_row_29 : decode cX9_row 29 = .ok (.iconst 3, 1) := by decide +kernel
theorem dX9_row_30 : decode cX9_row 30 = .ok (.invokestatic 86, 3) := by decide +kernel
theorem dX9_row_33 : decode cX9_row 33 = .ok (.ifCond .ne 10, 3) := by decide +kernel
theorem dX9_row_36 : decode cX9_row 36 = .ok (.aload_n 0, 1) := by decide +kernel
theorem dX9_row_37 : decode cX9_row 37 = .ok (.bipush (-6), 2) := by decide +kernel
theorem dX9_row_39 : decode cX9_row 39 = .ok (.invokevirtual 79, 3) := by decide +kernel
theorem dX9_row_42 : decode cX9_row 42 = .ok (.ireturn, 1) := by decide +kernel
theorem dX9_row_43 : decode cX9_row 43 = .ok (.iload_n 3, 1) := by decide +kernel
theorem dX9_row_44 : decode cX9_row 44 = .ok (.sipush 160, 3) := by decide +kernel
theorem dX9_row_47 : decode cX9_row 47 = .ok (.if_icmp .le 10, 3) := by decide +kernel
theorem dX9_row_50 : decode cX9_row 50 = .ok (.aload_n 0, 1) := by decide +kernel
theorem dX9_row_51 : decode cX9_row 51 = .ok (.bipush (-7), 2) := by decide +kernel
theorem dX9_row_53 : decode cX9_row 53 = .ok (.invokevirtual 79, 3) := by decide +kernel
theorem dX9_row_56 : decode cX9_row 56 = .ok (.ireturn, 1) := by decide +kernel
theorem dX9_row_57 : decode cX9_row 57 = .ok (.aload_n 0, 1) := by decide +kernel
theorem dX9_row_58 : decode cX9_row 58 = .ok (.getfield 38, 3) := by decide +kernel
theorem dX9_row_61 : decode cX9_row 61 = .ok (.iload_n 1, 1) := by decide +kernel
theorem dX9_row_62 : decode cX9_row 62 = .ok (.bipush 100, 2) := by decide +kernel
theorem dX9_row_64 : decode cX9_row 64 = .ok (.iload_n 2, 1) := by decide +kernel
theorem dX9_row_65 : decode cX9_row 65 = .ok (.iadd, 1) := by decide +kernel
theorem dX9_row_66 : decode cX9_row 66 = .ok (.iastore, 1) := by decide +kernel
theorem dX9_row_67 : decode cX9_row 67 = .ok (.aload_n 0, 1) := by decide +kernel
theorem dX9_row_68 : decode cX9_row 68 = .ok (.getfield 41, 3) := by decide +kernel
theorem dX9_row_71 : decode cX9_row 71 = .ok (.iload_n 1, 1) := by decide +kernel
theorem dX9_row_72 : decode cX9_row 72 = .ok (.iload_n 3, 1) := by decide +kernel
theorem dX9_row_73 : decode cX9_row 73 = .ok (.iastore, 1) := by decide +kernel
theorem dX9_row_74 : decode cX9_row 74 = .ok (.iconst 0, 1) := by decide +kernel
theorem dX9_row_75 : decode cX9_row 75 = .ok (.istore 4, 2) := by decide +kernel
theorem dX9_row_77 : decode cX9_row 77 = .ok (.iload 4, 2) := by decide +kernel
theorem dX9_row_79 : decode cX9_row 79 = .ok (.sipush 160, 3) := by decide +kernel
theorem dX9_row_82 : decode cX9_row 82 = .ok (.if_icmp .ge 23, 3) := by decide +kernel
theorem dX9_row_85 : decode cX9_row 85 = .ok (.aload_n 0, 1) := by decide +kernel
theorem dX9_row_86 : decode cX9_row 86 = .ok (.getfield 44, 3) := by decide +kernel
theorem dX9_row_89 : decode cX9_row 89 = .ok (.sipush 160, 3) := by decide +kernel
theorem dX9_row_92 : decode cX9_row 92 = .ok (.iload_n 1, 1) := by decide +kernel
theorem dX9_row_93 : decode cX9_row 93 = .ok (.imul, 1) := by decide +kernel
theorem dX9_row_94 : decode cX9_row 94 = .ok (.iload 4, 2) := by decide +kernel
theorem dX9_row_96 : decode cX9_row 96 = .ok (.iadd, 1) := by decide +kernel
theorem dX9_row_97 : decode cX9_row 97 = .ok (.lconst 0, 1) := by decide +kernel
theorem dX9_row_98 : decode cX9_row 98 = .ok (.lastore, 1) := by decide +kernel
theorem dX9_row_99 : decode cX9_row 99 = .ok (.iinc 4 1, 3) := by decide +kernel
theorem dX9_row_102 : decode cX9_row 102 = .ok (.goto (-25), 3) := by decide +kernel
theorem dX9_row_105 : decode cX9_row 105 = .ok (.iconst 1, 1) := by decide +kernel
theorem dX9_row_106 : decode cX9_row 106 = .ok (.ireturn, 1) := by decide +kernel
set_option maxRecDepth 20000 in
theorem l_X9_row {G : Gl} {d : Nat} {σ0 : Sg} {K : Option Value → Sg → Prop} {k : Nat} (k8 : k < 8) : ∀ (n i : Nat) (σ : Sg), i + n = 160 → Fr (fun a => a = 66) σ0 σ → σ.1 = σ0.1 → (∀ j, j < 8 → ∀ x, x < 160 → σ.2 66 (160 * j + x) = if j = k ∧ x < i then 0 else σ0.2 66 (160 * j + x)) → (∀ υ, Fr (fun a => a = 66) σ0 υ → υ.1 = σ0.1 → (∀ j, j < 8 → ∀ x, x < 160 → υ.2 66 (160 * j + x) = if j = k then 0 else σ0.2 66 (160 * j + x)) → K (some (.int (iI 1))) υ) → AW G d RX9 cX9_row 5 (some .int) 77 [(0, .ref (gA G 54)), (1, .int (iI (k : Int))), (4, .int (iI (i : Int)))] [] σ K := by
  intro n
  induction n using Nat.strongRecOn
  rename_i n ih
  intro i σ hn hF he hz hK
  refine A_iload (pc := 77) dX9_row_77 rfl ?_
  refine A_sipush (pc := 79) dX9_row_79 (by decide) ?_
  refine A_icmp_ge (pc := 82) 105 dX9_row_82 (by decide) (by omega) (by omega) (by omega) (by omega) (fun h82 => ?_) (fun h82 => ?_)
  · skip
    refine A_iconst (pc := 105) dX9_row_105 ?_
    refine A_iret (pc := 106) rfl dX9_row_106 ?_
    refine hK σ hF he (fun j hj x hx => ?_)
    rw [hz j hj x hx]
    by_cases q : j = k
    · rw [if_pos ⟨q, by omega⟩, if_pos q]
    · rw [if_neg (fun z => q z.1), if_neg q]
  · skip
    refine A_aload_n (pc := 85) dX9_row_85 rfl rfl ?_
    refine A_getR (pc := 86) fX9_44 rfl rfl dX9_row_86 ?_
    refine A_sipush (pc := 89) dX9_row_89 (by decide) ?_
    refine A_iload_n (pc := 92) dX9_row_92 rfl rfl ?_
    refine A_imul (pc := 93) dX9_row_93 ?_
    refine A_iload (pc := 94) dX9_row_94 rfl ?_
    refine A_iadd (pc := 96) dX9_row_96 ?_
    refine A_lconst (pc := 97) 0 dX9_row_97 rfl ?_
    refine A_last (pc := 98) (160 * k + i) rfl (by omega) (by omega) (Nat.le_of_ble_eq_true rfl) dX9_row_98 ?_
    refine A_iinc (pc := 99) dX9_row_99 rfl (Nat.le_of_ble_eq_true rfl) ?_
    refine A_goto (pc := 102) 77 dX9_row_102 (by decide) ?_
    obtain ⟨m, rfl⟩ : ∃ m, n = m + 1 := ⟨n - 1, by omega⟩
    refine A_loc (l2 := [(0, _), (1, _), (4, _)]) ⟨rfl, rfl, rfl, trivial⟩ ?_
    refine ih m (by omega) (i + 1) _ (by omega) (hF.uL rfl) he (fun j hj x hx => ?_) hK
    rw [uL_at]
    by_cases e : j = k ∧ x = i
    · rw [if_pos ⟨rfl, by omega⟩, if_pos ⟨e.1, by omega⟩]
    · rw [if_neg (by omega), hz j hj x hx]
      by_cases q : j = k ∧ x < i
      · rw [if_pos q, if_pos ⟨q.1, by omega⟩]
      · rw [if_neg q, if_neg (by omega)]
set_option maxRecDepth 20000 in
theorem c_X9_row {G : Gl} {d : Nat} {σ : Sg} {Z : Zt} (hZ : RelM Z σ) (hO : OkZ Z) {s : Int} (hs1 : -2147483648 ≤ s) (hs2 : s < 2147483648) {sort : Int} (hsort1 : -2147483648 ≤ sort) (hsort2 : sort < 2147483648) {n : Int} (hn1 : -2147483648 ≤ n) (hn2 : n < 2147483648) : CT G (d + 1) yX9_row cX9_row 5 (some .int) [.ref (gA G 54), .int (iI s), .int (iI sort), .int (iI n)] σ (RE (some (.int (iI (qRow Z s sort n).1))) (fun υ => RelM (qRow Z s sort n).2 υ ∧ Fr MC σ υ)) := by
  refine CT.of (by decide +kernel) (Nat.le_of_ble_eq_true rfl) ?_
  change AW G _ RX9 _ _ _ 0 [(0, .ref (gA G 54)), (1, .int (iI s)), (2, .int (iI sort)), (3, .int (iI n))] [] _ _
  refine A_iload_n (pc := 0) dX9_row_0 rfl rfl ?_
  refine A_iconst (pc := 1) dX9_row_1 ?_
  refine A_bipush (pc := 2) dX9_row_2 (by decide) ?_
  refine A_callS1 (pc := 4) kX9_86 (c_X9_within (v := s) (a := 0) (b := 7) (by omega) (by omega) (by omega) (by omega) (by omega) (by omega)) dX9_row_4 rfl rfl (Nat.le_of_ble_eq_true rfl) (Nat.le_of_ble_eq_true rfl) ?_
  refine A_ifb_ne (pc := 7) 16 dX9_row_7 (by decide) (fun h7 => ?_) (fun h7 => ?_)
  · skip
    refine A_iload_n (pc := 16) dX9_row_16 rfl rfl ?_
    refine A_if_ge (pc := 17) 27 dX9_row_17 (by decide) (by omega) (by omega) (fun h17 => ?_) (fun h17 => ?_)
    · skip
      refine A_iload_n (pc := 27) dX9_row_27 rfl rfl ?_
      refine A_iconst (pc := 28) dX9_row_28 ?_
      refine A_iconst (pc := 29) dX9_row_29 ?_
      refine A_callS1 (pc := 30) kX9_86 (c_X9_within (v := sort) (a := 0) (b := 3) (by omega) (by omega) (by omega) (by omega) (by omega) (by omega)) dX9_row_30 rfl rfl (Nat.le_of_ble_eq_true rfl) (Nat.le_of_ble_eq_true rfl) ?_
      refine A_ifb_ne (pc := 33) 43 dX9_row_33 (by decide) (fun h33 => ?_) (fun h33 => ?_)
      · skip
        refine A_iload_n (pc := 43) dX9_row_43 rfl rfl ?_
        refine A_sipush (pc := 44) dX9_row_44 (by decide) ?_
        refine A_icmp_le (pc := 47) 57 dX9_row_47 (by decide) (by omega) (by omega) (by omega) (by omega) (fun h47 => ?_) (fun h47 => ?_)
        · skip
          obtain ⟨k, rfl⟩ := Int.eq_ofNat_of_zero_le (show 0 ≤ s by omega)
          have k8 : k < 8 := by omega
          have ks := hZ.2.1 k k8
          have ko := hO.2.1 k k8
          obtain ⟨kb1, kb2, kb3, kb4⟩ := ko.1
          refine A_aload_n (pc := 57) dX9_row_57 rfl rfl ?_
          refine A_getR (pc := 58) fX9_38 rfl rfl dX9_row_58 ?_
          refine A_iload_n (pc := 61) dX9_row_61 rfl rfl ?_
          refine A_bipush (pc := 62) dX9_row_62 (by decide) ?_
          refine A_iload_n (pc := 64) dX9_row_64 rfl rfl ?_
          refine A_iadd (pc := 65) dX9_row_65 ?_
          refine A_iast (pc := 66) _ rfl rfl (by omega) (Nat.le_of_ble_eq_true rfl) dX9_row_66 ?_
          refine A_aload_n (pc := 67) dX9_row_67 rfl rfl ?_
          refine A_getR (pc := 68) fX9_41 rfl rfl dX9_row_68 ?_
          refine A_iload_n (pc := 71) dX9_row_71 rfl rfl ?_
          refine A_iload_n (pc := 72) dX9_row_72 rfl rfl ?_
          refine A_iast (pc := 73) _ rfl rfl (by omega) (Nat.le_of_ble_eq_true rfl) dX9_row_73 ?_
          refine A_iconst (pc := 74) dX9_row_74 ?_
          refine A_istore (pc := 75) dX9_row_75 (Nat.le_of_ble_eq_true rfl) ?_
          refine A_loc (l2 := [(0, _), (1, _), (4, _)]) ⟨rfl, rfl, rfl, trivial⟩ ?_
          refine l_X9_row (σ0 := uI (uI σ 64 k (100 + sort)) 65 k n) k8 160 0 _ (by omega) Fr.rf rfl (fun j hj x hx => by rw [if_neg (by omega)]) (fun υ g1 g2 g3 => ?_)
          have hFr : Fr (fun a => a = 64 ∨ a = 65 ∨ a = 66) σ υ := ((Fr.rf.uI (Or.inl rfl)).uI (Or.inr (Or.inl rfl))).tr (g1.mono (fun a h => Or.inr (Or.inr h)))
          refine RQM (by unfold qRow; rw [if_neg (by omega), if_neg (by omega), if_neg (by omega), if_neg (by omega)]; rfl) (hZ.shelf (k := k) (hd := 100 + sort) (n := n) (el := fun _ => 0) hFr (fun j hj => ?_) (fun j hj => ⟨fun e _ => ?_, fun e => ?_⟩) (fun j hj x hx => ?_)) (hFr.mono MC66)
          · rw [g2]; by_cases e : j = k
            · rw [uI_at, if_neg (by omega), uI_at, if_pos ⟨rfl, e⟩]; exact (if_pos e).symm
            · rw [uI_at, if_neg (by omega), uI_at, if_neg (by omega)]; exact (if_neg e).symm
          · rw [g2, e, uI_at, if_pos ⟨rfl, rfl⟩]
          · rw [g2, uI_at, if_neg (by omega), uI_at, if_neg (by omega)]
          · rw [g3 j hj x hx]; rfl
        · skip
          refine A_aload_n (pc := 50) dX9_row_50 rfl rfl ?_
          refine A_bipush (pc := 51) dX9_row_51 (by decide) ?_
          refine A_callVe (pc := 53) kX9_79 rfl rfl (c_X9_no hZ hO (t := -7) (by omega) (by omega)) dX9_row_53 rfl rfl (Nat.le_of_ble_eq_true rfl) (Nat.le_of_ble_eq_true rfl) (fun υ hυ => ?_)
          refine A_iret (pc := 56) rfl dX9_row_56 ?_
          exact RQM (by unfold qRow; rw [if_neg (by omega), if_neg (by omega), if_neg (by omega), if_pos (by omega)]; rfl) hυ.1 (hυ.2.mono MC70)
      · skip
        refine A_aload_n (pc := 36) dX9_row_36 rfl rfl ?_
        refine A_bipush (pc := 37) dX9_row_37 (by decide) ?_
        refine A_callVe (pc := 39) kX9_79 rfl rfl (c_X9_no hZ hO (t := -6) (by omega) (by omega)) dX9_row_39 rfl rfl (Nat.le_of_ble_eq_true rfl) (Nat.le_of_ble_eq_true rfl) (fun υ hυ => ?_)
        refine A_iret (pc := 42) rfl dX9_row_42 ?_
        exact RQM (by unfold qRow; rw [if_neg (by omega), if_neg (by omega), if_pos (by omega)]; rfl) hυ.1 (hυ.2.mono MC70)
    · skip
      refine A_aload_n (pc := 20) dX9_row_20 rfl rfl ?_
      refine A_bipush (pc := 21) dX9_row_21 (by decide) ?_
      refine A_callVe (pc := 23) kX9_79 rfl rfl (c_X9_no hZ hO (t := -4) (by omega) (by omega)) dX9_row_23 rfl rfl (Nat.le_of_ble_eq_true rfl) (Nat.le_of_ble_eq_true rfl) (fun υ hυ => ?_)
      refine A_iret (pc := 26) rfl dX9_row_26 ?_
      exact RQM (by unfold qRow; rw [if_neg (by omega), if_pos (by omega)]; rfl) hυ.1 (hυ.2.mono MC70)
  · skip
    refine A_aload_n (pc := 10) dX9_row_10 rfl rfl ?_
    refine A_iconst (pc := 11) dX9_row_11 ?_
    refine A_callVe (pc := 12) kX9_79 rfl rfl (c_X9_no hZ hO (t := -1) (by omega) (by omega)) dX9_row_12 rfl rfl (Nat.le_of_ble_eq_true rfl) (Nat.le_of_ble_eq_true rfl) (fun υ hυ => ?_)
    refine A_iret (pc := 15) rfl dX9_row_15 ?_
    exact RQM (by unfold qRow; rw [if_pos (by omega)]; rfl) hυ.1 (hυ.2.mono MC70)
theorem dX9_set_0 : decode cX9_set 0 = .ok (.aload_n 0, 1) := by decide +kernel
theorem dX9_set_1 : decode cX9_set 1 = .ok (.iload_n 1, 1) := by decide +kernel
theorem dX9_set_2 : decode cX9_set 2 = .ok (.invokevirtual 100, 3) := by decide +kernel
theorem dX9_set_5 : decode cX9_set 5 = .ok (.istore 5, 2) := by decide +kernel
theorem dX9_set_7 : decode cX9_set 7 = .ok (.iload 5, 2) := by decide +kernel
theorem dX9_set_9 : decode cX9_set 9 = .ok (.ifCond .ge 10, 3) := by decide +kernel
theorem dX9_set_12 : decode cX9_set 12 = .ok (.aload_n 0, 1) := by decide +kernel
theorem dX9_set_13 : decode cX9_set 13 = .ok (.iload 5, 2) := by decide +kernel
theorem dX9_set_15 : decode cX9_set 15 = .ok (.invokevirtual 79, 3) := by decide +kernel
theorem dX9_set_18 : decode cX9_set 18 = .ok (.ireturn, 1) := by decide +kernel
theorem dX9_set_19 : decode cX9_set 19 = .ok (.iload_n 2, 1) := by decide +kernel
theorem dX9_set_20 : decode cX9_set 20 = .ok (.iconst 0, 1) := by decide +kernel
theorem dX9_set_21 : decode cX9_set 21 = .ok (.aload_n 0, 1) := by decide +kernel
theorem dX9_set_22 : decode cX9_set 22 = .ok (.getfield 41, 3) := by decide +kernel
theorem dX9_set_25 : decode cX9_set 25 = .ok (.iload_n 1, 1) := by decide +kernel
theorem dX9_set_26 : decode cX9_set 26 = .ok (.iaload, 1) := by decide +kernel
theorem dX9_set_27 : decode cX9_set 27 = .ok (.iconst 1, 1) := by decide +kernel
theorem dX9_set_28 : decode cX9_set 28 = .ok (.isub, 1) := by decide +kernel
theorem dX9_set_29 : decode cX9_set 29 = .ok (.invokestatic 86, 3) := by decide +kernel
theorem dX9_set_32 : decode cX9_set 32 = .ok (.ifCond .ne 10, 3) := by decide +kernel
theorem dX9_set_35 : decode cX9_set 35 = .ok (.aload_n 0, 1) := by decide +kernel
theorem dX9_set_36 : decode cX9_set 36 = .ok (.bipush (-5), 2) := by decide +kernel
theorem dX9_set_38 : decode cX9_set 38 = .ok (.invokevirtual 79, 3) := by decide +kernel
theorem dX9_set_41 : decode cX9_set 41 = .ok (.ireturn, 1) := by decide +kernel
theorem dX9_set_42 : decode cX9_set 42 = .ok (.aload_n 0, 1) := by decide +kernel
theorem dX9_set_43 : decode cX9_set 43 = .ok (.getfield 38, 3) := by decide +kernel
theorem dX9_set_46 : decode cX9_set 46 = .ok (.iload_n 1, 1) := by decide +kernel
theorem dX9_set_47 : decode cX9_set 47 = .ok (.iaload, 1) := by decide +kernel
theorem dX9_set_48 : decode cX9_set 48 = .ok (.bipush 100, 2) := by decide +kernel
theorem dX9_set_50 : decode cX9_set 50 = .ok (.isub, 1) := by decide +kernel
theorem dX9_set_51 : decode cX9_set 51 = .ok (.istore 6, 2) := by decide +kernel
theorem dX9_set_53 : decode cX9_set 53 = .ok (.aload_n 0, 1) := by decide +kernel
theorem dX9_set_54 : decode cX9_set 54 = .ok (.getfield 44, 3) := by decide +kernel
theorem dX9_set_57 : decode cX9_set 57 = .ok (.sipush 160, 3) := by decide +kernel
theorem dX9_set_60 : decode cX9_set 60 = .ok (.iload_n 1, 1) := by decide +kernel
theorem dX9_set_61 : decode cX9_set 61 = .ok (.imul, 1) := by decide +kernel
theorem dX9_set_62 : decode cX9_set 62 = .ok (.iload_n 2, 1) := by decide +kernel
theorem dX9_set_63 : decode cX9_set 63 = .ok (.iadd, 1) := by decide +kernel
theorem dX9_set_64 : decode cX9_set 64 = .ok (.iload 6, 2) := by decide +kernel
theorem dX9_set_66 : decode cX9_set 66 = .ok (.ifCond .ne 10, 3) := by decide +kernel
theorem dX9_set_69 : decode cX9_set 69 = .ok (.lload_n 3, 1) := by decide +kernel
theorem dX9_set_70 : decode cX9_set 70 = .ok (.l2i, 1) := by decide +kernel
theorem dX9_set_71 : decode cX9_set 71 = .ok (.i2b, 1) := by decide +kernel
theorem dX9_set_72 : decode cX9_set 72 = .ok (.i2l, 1) := by decide +kernel
theorem dX9_set_73 : decode cX9_set 73 = .ok (.goto 29, 3) := by decide +kernel
theorem dX9_set_76 : decode cX9_set 76 = .ok (.iload 6, 2) := by decide +kernel
theorem dX9_set_78 : decode cX9_set 78 = .ok (.iconst 1, 1) := by decide +kernel
theorem dX9_set_79 : decode cX9_set 79 = .ok (.if_icmp .ne 10, 3) := by decide +kernel
theorem dX9_set_82 : decode cX9_set 82 = .ok (.lload_n 3, 1) := by decide +kernel
theorem dX9_set_83 : decode cX9_set 83 = .ok (.l2i, 1) := by decide +kernel
theorem dX9_set_84 : decode cX9_set 84 = .ok (.i2s, 1) := by decide +kernel
theorem dX9_set_85 : decode cX9_set 85 = .ok (.i2l, 1) := by decide +kernel
theorem dX9_set_86 : decode cX9_set 86 = .ok (.goto 16, 3) := by decide +kernel
theorem dX9_set_89 : decode cX9_set 89 = .ok (.iload 6, 2) := by decide +kernel
theorem dX9_set_91 : decode cX9_set 91 = .ok (.iconst 2, 1) := by decide +kernel
theorem dX9_set_92 : decode cX9_set 92 = .ok (.if_icmp .ne 9, 3) := by decide +kernel
theorem dX9_set_95 : decode cX9_set 95 = .ok (.lload_n 3, 1) := by decide +kernel
theorem dX9_set_96 : decode cX9_set 96 = .ok (.l2i, 1) := by decide +kernel
theorem dX9_set_97 : decode cX9_set 97 = .ok (.i2l, 1) := by decide +kernel
theorem dX9_set_98 : decode cX9_set 98 = .ok (.goto 4, 3) := by decide +kernel
theorem dX9_set_101 : decode cX9_set 101 = .ok (.lload_n 3, 1) := by decide +kernel
theorem dX9_set_102 : decode cX9_set 102 = .ok (.lastore, 1) := by decide +kernel
theorem dX9_set_103 : decode cX9_set 103 = .ok (.iconst 1, 1) := by decide +kernel
theorem dX9_set_104 : decode cX9_set 104 = .ok (.ireturn, 1) := by decide +kernel
set_option maxRecDepth 20000 in
theorem c_X9_set {G : Gl} {d : Nat} {σ : Sg} {Z : Zt} (hZ : RelM Z σ) (hO : OkZ Z) {s : Int} (hs1 : -2147483648 ≤ s) (hs2 : s < 2147483648) {i : Int} (hi1 : -2147483648 ≤ i) (hi2 : i < 2147483648) {v : Int64} : CT G (d + 2) yX9_set cX9_set 7 (some .int) [.ref (gA G 54), .int (iI s), .int (iI i), .long (v)] σ (RE (some (.int (iI (qSet Z s i v).1))) (fun υ => RelM (qSet Z s i v).2 υ ∧ Fr MC σ υ)) := by
  refine CT.of (by decide +kernel) (Nat.le_of_ble_eq_true rfl) ?_
  change AW G _ RX9 _ _ _ 0 [(0, .ref (gA G 54)), (1, .int (iI s)), (2, .int (iI i)), (3, .long (v))] [] _ _
  have hrt := rowT_rng Z s
  refine A_aload_n (pc := 0) dX9_set_0 rfl rfl ?_
  refine A_iload_n (pc := 1) dX9_set_1 rfl rfl ?_
  refine A_callV1 (pc := 2) kX9_100 rfl rfl (c_X9_noRow hZ hO hs1 hs2) dX9_set_2 rfl rfl (Nat.le_of_ble_eq_true rfl) (Nat.le_of_ble_eq_true rfl) ?_
  refine A_istore (pc := 5) dX9_set_5 (Nat.le_of_ble_eq_true rfl) ?_
  refine A_iload (pc := 7) dX9_set_7 rfl ?_
  refine A_if_ge (pc := 9) 19 dX9_set_9 (by decide) (by omega) (by omega) (fun h9 => ?_) (fun h9 => ?_)
  · skip
    have h90 : rowT Z s = 0 := by omega
    obtain ⟨h8, h100⟩ := rowT_0 h90
    obtain ⟨k, rfl⟩ := Int.eq_ofNat_of_zero_le (show 0 ≤ s by omega)
    have k8 : k < 8 := by omega
    have ks := hZ.2.1 k k8
    have ko := hO.2.1 k k8
    obtain ⟨kb1, kb2, kb3, kb4⟩ := ko.1
    simp only [Int.toNat_natCast] at h100
    refine A_iload_n (pc := 19) dX9_set_19 rfl rfl ?_
    refine A_iconst (pc := 20) dX9_set_20 ?_
    refine A_aload_n (pc := 21) dX9_set_21 rfl rfl ?_
    refine A_getR (pc := 22) fX9_41 rfl rfl dX9_set_22 ?_
    refine A_iload_n (pc := 25) dX9_set_25 rfl rfl ?_
    refine A_ialdv (pc := 26) _ rfl rfl (by omega) (Nat.le_of_ble_eq_true rfl) (ks.2.1 h100) dX9_set_26 ?_
    refine A_iconst (pc := 27) dX9_set_27 ?_
    refine A_isub (pc := 28) dX9_set_28 ?_
    refine A_callS1 (pc := 29) kX9_86 (c_X9_within (v := i) (a := 0) (b := Z.2.1.2.1 k - 1) (by omega) (by omega) (by omega) (by omega) (by omega) (by omega)) dX9_set_29 rfl rfl (Nat.le_of_ble_eq_true rfl) (Nat.le_of_ble_eq_true rfl) ?_
    refine A_ifb_ne (pc := 32) 42 dX9_set_32 (by decide) (fun h32 => ?_) (fun h32 => ?_)
    · skip
      obtain ⟨j, rfl⟩ := Int.eq_ofNat_of_zero_le (show 0 ≤ i by omega)
      refine A_aload_n (pc := 42) dX9_set_42 rfl rfl ?_
      refine A_getR (pc := 43) fX9_38 rfl rfl dX9_set_43 ?_
      refine A_iload_n (pc := 46) dX9_set_46 rfl rfl ?_
      refine A_ialdv (pc := 47) _ rfl rfl (by omega) (Nat.le_of_ble_eq_true rfl) ks.1 dX9_set_47 ?_
      refine A_bipush (pc := 48) dX9_set_48 (by decide) ?_
      refine A_isub (pc := 50) dX9_set_50 ?_
      refine A_istore (pc := 51) dX9_set_51 (Nat.le_of_ble_eq_true rfl) ?_
      refine A_aload_n (pc := 53) dX9_set_53 rfl rfl ?_
      refine A_getR (pc := 54) fX9_44 rfl rfl dX9_set_54 ?_
      refine A_sipush (pc := 57) dX9_set_57 (by decide) ?_
      refine A_iload_n (pc := 60) dX9_set_60 rfl rfl ?_
      refine A_imul (pc := 61) dX9_set_61 ?_
      refine A_iload_n (pc := 62) dX9_set_62 rfl rfl ?_
      refine A_iadd (pc := 63) dX9_set_63 ?_
      refine A_iload (pc := 64) dX9_set_64 rfl ?_
      refine A_if_ne (pc := 66) 76 dX9_set_66 (by decide) (by omega) (by omega) (fun h66 => ?_) (fun h66 => ?_)
      · skip
        refine A_iload (pc := 76) dX9_set_76 rfl ?_
        refine A_iconst (pc := 78) dX9_set_78 ?_
        refine A_icmp_ne (pc := 79) 89 dX9_set_79 (by decide) (by omega) (by omega) (by omega) (by omega) (fun h79 => ?_) (fun h79 => ?_)
        · skip
          refine A_iload (pc := 89) dX9_set_89 rfl ?_
          refine A_iconst (pc := 91) dX9_set_91 ?_
          refine A_icmp_ne (pc := 92) 101 dX9_set_92 (by decide) (by omega) (by omega) (by omega) (by omega) (fun h92 => ?_) (fun h92 => ?_)
          · skip
            refine A_lload_n (pc := 101) dX9_set_101 rfl rfl ?_
            refine A_last (pc := 102) (160 * k + j) rfl (by omega) (by omega) (Nat.le_of_ble_eq_true rfl) dX9_set_102 ?_
            refine A_iconst (pc := 103) dX9_set_103 ?_
            refine A_iret (pc := 104) rfl dX9_set_104 ?_
            refine RQM (by unfold qSet; rw [if_neg (by omega), if_neg (by simp only [Int.toNat_natCast]; omega)]; rfl) (hZ.shelf (k := k) (hd := Z.2.1.1 k) (n := Z.2.1.2.1 k) (el := fun x => if x = j then lowB (Z.2.1.1 k - 100) v else Z.2.1.2.2 k x) (Fr.rf.uL (Or.inr (Or.inr rfl))) (fun b hb => ?_) (fun b hb => ⟨fun e _ => ?_, fun e => rfl⟩) (fun b hb x hx => ?_)) ((Fr.rf.uL (Or.inr (Or.inr rfl)) : Fr (fun a => a = 64 ∨ a = 65 ∨ a = 66) σ _).mono MC66)
            · by_cases e : b = k
              · rw [if_pos e, e]; exact ks.1
              · rw [if_neg e]; rfl
            · rw [e]; exact ks.2.1 h100
            · rw [uL_at]
              by_cases e : b = k
              · rw [if_pos e]
                show _ = if x = j then lowB (Z.2.1.1 k - 100) v else Z.2.1.2.2 k x
                by_cases e2 : x = j
                · rw [if_pos ⟨rfl, by omega⟩, if_pos e2]; rw [lowB, if_neg (by omega), if_neg (by omega), if_neg (by omega)]
                · rw [if_neg (by omega), if_neg e2, e]; exact ks.2.2 x hx
              · rw [if_neg (by omega), if_neg e]
          · skip
            refine A_lload_n (pc := 95) dX9_set_95 rfl rfl ?_
            refine A_l2i (pc := 96) dX9_set_96 ?_
            refine A_i2l (pc := 97) dX9_set_97 ?_
            refine A_goto (pc := 98) 102 dX9_set_98 (by decide) ?_
            refine A_last (pc := 102) (160 * k + j) rfl (by omega) (by omega) (Nat.le_of_ble_eq_true rfl) dX9_set_102 ?_
            refine A_iconst (pc := 103) dX9_set_103 ?_
            refine A_iret (pc := 104) rfl dX9_set_104 ?_
            refine RQM (by unfold qSet; rw [if_neg (by omega), if_neg (by simp only [Int.toNat_natCast]; omega)]; rfl) (hZ.shelf (k := k) (hd := Z.2.1.1 k) (n := Z.2.1.2.1 k) (el := fun x => if x = j then lowB (Z.2.1.1 k - 100) v else Z.2.1.2.2 k x) (Fr.rf.uL (Or.inr (Or.inr rfl))) (fun b hb => ?_) (fun b hb => ⟨fun e _ => ?_, fun e => rfl⟩) (fun b hb x hx => ?_)) ((Fr.rf.uL (Or.inr (Or.inr rfl)) : Fr (fun a => a = 64 ∨ a = 65 ∨ a = 66) σ _).mono MC66)
            · by_cases e : b = k
              · rw [if_pos e, e]; exact ks.1
              · rw [if_neg e]; rfl
            · rw [e]; exact ks.2.1 h100
            · rw [uL_at]
              by_cases e : b = k
              · rw [if_pos e]
                show _ = if x = j then lowB (Z.2.1.1 k - 100) v else Z.2.1.2.2 k x
                by_cases e2 : x = j
                · rw [if_pos ⟨rfl, by omega⟩, if_pos e2]; rw [lowB, if_neg (by omega), if_neg (by omega), if_pos (by omega)]
                · rw [if_neg (by omega), if_neg e2, e]; exact ks.2.2 x hx
              · rw [if_neg (by omega), if_neg e]
        · skip
          refine A_lload_n (pc := 82) dX9_set_82 rfl rfl ?_
          refine A_l2i (pc := 83) dX9_set_83 ?_
          refine A_i2s (pc := 84) dX9_set_84 ?_
          refine A_i2l (pc := 85) dX9_set_85 ?_
          refine A_goto (pc := 86) 102 dX9_set_86 (by decide) ?_
          refine A_last (pc := 102) (160 * k + j) rfl (by omega) (by omega) (Nat.le_of_ble_eq_true rfl) dX9_set_102 ?_
          refine A_iconst (pc := 103) dX9_set_103 ?_
          refine A_iret (pc := 104) rfl dX9_set_104 ?_
          refine RQM (by unfold qSet; rw [if_neg (by omega), if_neg (by simp only [Int.toNat_natCast]; omega)]; rfl) (hZ.shelf (k := k) (hd := Z.2.1.1 k) (n := Z.2.1.2.1 k) (el := fun x => if x = j then lowB (Z.2.1.1 k - 100) v else Z.2.1.2.2 k x) (Fr.rf.uL (Or.inr (Or.inr rfl))) (fun b hb => ?_) (fun b hb => ⟨fun e _ => ?_, fun e => rfl⟩) (fun b hb x hx => ?_)) ((Fr.rf.uL (Or.inr (Or.inr rfl)) : Fr (fun a => a = 64 ∨ a = 65 ∨ a = 66) σ _).mono MC66)
          · by_cases e : b = k
            · rw [if_pos e, e]; exact ks.1
            · rw [if_neg e]; rfl
          · rw [e]; exact ks.2.1 h100
          · rw [uL_at]
            by_cases e : b = k
            · rw [if_pos e]
              show _ = if x = j then lowB (Z.2.1.1 k - 100) v else Z.2.1.2.2 k x
              by_cases e2 : x = j
              · rw [if_pos ⟨rfl, by omega⟩, if_pos e2]; rw [lowB, if_neg (by omega), if_pos (by omega)]
              · rw [if_neg (by omega), if_neg e2, e]; exact ks.2.2 x hx
            · rw [if_neg (by omega), if_neg e]
      · skip
        refine A_lload_n (pc := 69) dX9_set_69 rfl rfl ?_
        refine A_l2i (pc := 70) dX9_set_70 ?_
        refine A_i2b (pc := 71) dX9_set_71 ?_
        refine A_i2l (pc := 72) dX9_set_72 ?_
        refine A_goto (pc := 73) 102 dX9_set_73 (by decide) ?_
        refine A_last (pc := 102) (160 * k + j) rfl (by omega) (by omega) (Nat.le_of_ble_eq_true rfl) dX9_set_102 ?_
        refine A_iconst (pc := 103) dX9_set_103 ?_
        refine A_iret (pc := 104) rfl dX9_set_104 ?_
        refine RQM (by unfold qSet; rw [if_neg (by omega), if_neg (by simp only [Int.toNat_natCast]; omega)]; rfl) (hZ.shelf (k := k) (hd := Z.2.1.1 k) (n := Z.2.1.2.1 k) (el := fun x => if x = j then lowB (Z.2.1.1 k - 100) v else Z.2.1.2.2 k x) (Fr.rf.uL (Or.inr (Or.inr rfl))) (fun b hb => ?_) (fun b hb => ⟨fun e _ => ?_, fun e => rfl⟩) (fun b hb x hx => ?_)) ((Fr.rf.uL (Or.inr (Or.inr rfl)) : Fr (fun a => a = 64 ∨ a = 65 ∨ a = 66) σ _).mono MC66)
        · by_cases e : b = k
          · rw [if_pos e, e]; exact ks.1
          · rw [if_neg e]; rfl
        · rw [e]; exact ks.2.1 h100
        · rw [uL_at]
          by_cases e : b = k
          · rw [if_pos e]
            show _ = if x = j then lowB (Z.2.1.1 k - 100) v else Z.2.1.2.2 k x
            by_cases e2 : x = j
            · rw [if_pos ⟨rfl, by omega⟩, if_pos e2]; rw [lowB, if_pos (by omega)]
            · rw [if_neg (by omega), if_neg e2, e]; exact ks.2.2 x hx
          · rw [if_neg (by omega), if_neg e]
    · skip
      refine A_aload_n (pc := 35) dX9_set_35 rfl rfl ?_
      refine A_bipush (pc := 36) dX9_set_36 (by decide) ?_
      refine A_callVe (pc := 38) kX9_79 rfl rfl (c_X9_no hZ hO (t := -5) (by omega) (by omega)) dX9_set_38 rfl rfl (Nat.le_of_ble_eq_true rfl) (Nat.le_of_ble_eq_true rfl) (fun υ hυ => ?_)
      refine A_iret (pc := 41) rfl dX9_set_41 ?_
      exact RQM (by unfold qSet; rw [if_neg (by omega), if_pos (by simp only [Int.toNat_natCast]; omega)]; rfl) hυ.1 (hυ.2.mono MC70)
  · skip
    refine A_aload_n (pc := 12) dX9_set_12 rfl rfl ?_
    refine A_iload (pc := 13) dX9_set_13 rfl ?_
    refine A_callVe (pc := 15) kX9_79 rfl rfl (c_X9_no hZ hO (t := rowT Z s) (by omega) (by omega)) dX9_set_15 rfl rfl (Nat.le_of_ble_eq_true rfl) (Nat.le_of_ble_eq_true rfl) (fun υ hυ => ?_)
    refine A_iret (pc := 18) rfl dX9_set_18 ?_
    exact RQM (by unfold qSet; rw [if_pos (by omega)]; rfl) hυ.1 (hυ.2.mono MC70)
theorem dX9_element_0 : decode cX9_element 0 = .ok (.iload_n 1, 1) := by decide +kernel
theorem dX9_element_1 : decode cX9_element 1 = .ok (.iconst 0, 1) := by decide +kernel
theorem dX9_element_2 : decode cX9_element 2 = .ok (.bipush 7, 2) := by decide +kernel
theorem dX9_element_4 : decode cX9_element 4 = .ok (.invokestatic 86, 3) := by decide +kernel
theorem dX9_element_7 : decode cX9_element 7 = .ok (.ifCond .eq 42, 3) := by decide +kernel
theorem dX9_element_10 : decode cX9_element 10 = .ok (.aload_n 0, 1) := by decide +kernel
theorem dX9_element_11 : decode cX9_element 11 = .ok (.iload_n 1, 1) := by decide +kernel
theorem dX9_element_12 : decode cX9_element 12 = .ok (.invokevirtual 97, 3) := by decide +kernel
theorem dX9_element_15 : decode cX9_element 15 = .ok (.ifCond .eq 34, 3) := by decide +kernel
theorem dX9_element_18 : decode cX9_element 18 = .ok (.iload_n 2, 1) := by decide +kernel
theorem dX9_element_19 : decode cX9_element 19 = .ok (.iconst 0, 1) := by decide +kernel
theorem dX9_element_20 : decode cX9_element 20 = .ok (.aload_n 0, 1) := by decide +kernel
theorem dX9_element_21 : decode cX9_element 21 = .ok (.getfield 41, 3) := by decide +kernel
theorem dX9_element_24 : decode cX9_element 24 = .ok (.iload_n 1, 1) := by decide +kernel
theorem dX9_element_25 : decode cX9_element 25 = .ok (.iaload, 1) := by decide +kernel
theorem dX9_element_26 : decode cX9_element 26 = .ok (.iconst 1, 1) := by decide +kernel
theorem dX9_element_27 : decode cX9_element 27 = .ok (.isub, 1) := by decide +kernel
theorem dX9_element_28 : decode cX9_element 28 = .ok (.invokestatic 86, 3) := by decide +kernel
theorem dX9_element_31 : decode cX9_element 31 = .ok (.ifCond .eq 18, 3) := by decide +kernel
theorem dX9_element_34 : decode cX9_element 34 = .ok (.aload_n 0, 1) := by decide +kernel
theorem dX9_element_35 : decode cX9_element 35 = .ok (.getfield 44, 3) := by decide +kernel
theorem dX9_element_38 : decode cX9_element 38 = .ok (.sipush 160, 3) := by decide +kernel
theorem dX9_element_41 : decode cX9_element 41 = .ok (.iload_n 1, 1) := by decide +kernel
theorem dX9_element_42 : decode cX9_element 42 = .ok (.imul, 1) := by decide +kernel
theorem dX9_element_43 : decode cX9_element 43 = .ok (.iload_n 2, 1) := by decide +kernel
theorem dX9_element_44 : decode cX9_element 44 = .ok (.iadd, 1) := by decide +kernel
theorem dX9_element_45 : decode cX9_element 45 = .ok (.laload, 1) := by decide +kernel
theorem dX9_element_46 : decode cX9_element 46 = .ok (.goto 4, 3) := by decide +kernel
theorem dX9_element_49 : decode cX9_element 49 = .ok (.lconst 0, 1) := by decide +kernel
theorem dX9_element_50 : decode cX9_element 50 = .ok (.lreturn, 1) := by decide +kernel
set_option maxRecDepth 20000 in
theorem c_X9_element {G : Gl} {d : Nat} {σ : Sg} {Z : Zt} (hZ : RelM Z σ) (hO : OkZ Z) {s : Int} (hs1 : -2147483648 ≤ s) (hs2 : s < 2147483648) {i : Int} (hi1 : -2147483648 ≤ i) (hi2 : i < 2147483648) : CT G (d + 1) yX9_element cX9_element 3 (some .long) [.ref (gA G 54), .int (iI s), .int (iI i)] σ (R1 (.long (qElem Z s i)) σ) := by
  refine CT.of (by decide +kernel) (Nat.le_of_ble_eq_true rfl) ?_
  change AW G _ RX9 _ _ _ 0 [(0, .ref (gA G 54)), (1, .int (iI s)), (2, .int (iI i))] [] _ _
  refine A_iload_n (pc := 0) dX9_element_0 rfl rfl ?_
  refine A_iconst (pc := 1) dX9_element_1 ?_
  refine A_bipush (pc := 2) dX9_element_2 (by decide) ?_
  refine A_callS1 (pc := 4) kX9_86 (c_X9_within (v := s) (a := 0) (b := 7) (by omega) (by omega) (by omega) (by omega) (by omega) (by omega)) dX9_element_4 rfl rfl (Nat.le_of_ble_eq_true rfl) (Nat.le_of_ble_eq_true rfl) ?_
  refine A_ifb_eq (pc := 7) 49 dX9_element_7 (by decide) (fun h7 => ?_) (fun h7 => ?_)
  · skip
    refine A_lconst (pc := 49) 0 dX9_element_49 rfl ?_
    refine A_lret (pc := 50) rfl dX9_element_50 ?_
    exact ⟨by unfold qElem; rw [if_neg (by omega)], rfl⟩
  · skip
    obtain ⟨k, rfl⟩ := Int.eq_ofNat_of_zero_le (show 0 ≤ s by omega)
    have k8 : k < 8 := by omega
    have ks := hZ.2.1 k k8
    have ko := hO.2.1 k k8
    obtain ⟨kb1, kb2, kb3, kb4⟩ := ko.1
    refine A_aload_n (pc := 10) dX9_element_10 rfl rfl ?_
    refine A_iload_n (pc := 11) dX9_element_11 rfl rfl ?_
    refine A_callV1 (pc := 12) kX9_97 rfl rfl (c_X9_isRow hZ hO k8) dX9_element_12 rfl rfl (Nat.le_of_ble_eq_true rfl) (Nat.le_of_ble_eq_true rfl) ?_
    refine A_ifb_eq (pc := 15) 49 dX9_element_15 (by decide) (fun h15 => ?_) (fun h15 => ?_)
    · skip
      refine A_lconst (pc := 49) 0 dX9_element_49 rfl ?_
      refine A_lret (pc := 50) rfl dX9_element_50 ?_
      exact ⟨by unfold qElem; simp only [Int.toNat_natCast]; rw [if_pos (by omega), elI, if_neg (by have := ko.2 (by omega); omega)], rfl⟩
    · skip
      refine A_iload_n (pc := 18) dX9_element_18 rfl rfl ?_
      refine A_iconst (pc := 19) dX9_element_19 ?_
      refine A_aload_n (pc := 20) dX9_element_20 rfl rfl ?_
      refine A_getR (pc := 21) fX9_41 rfl rfl dX9_element_21 ?_
      refine A_iload_n (pc := 24) dX9_element_24 rfl rfl ?_
      refine A_ialdv (pc := 25) _ rfl rfl (by omega) (Nat.le_of_ble_eq_true rfl) (ks.2.1 h15) dX9_element_25 ?_
      refine A_iconst (pc := 26) dX9_element_26 ?_
      refine A_isub (pc := 27) dX9_element_27 ?_
      refine A_callS1 (pc := 28) kX9_86 (c_X9_within (v := i) (a := 0) (b := Z.2.1.2.1 k - 1) (by omega) (by omega) (by omega) (by omega) (by omega) (by omega)) dX9_element_28 rfl rfl (Nat.le_of_ble_eq_true rfl) (Nat.le_of_ble_eq_true rfl) ?_
      refine A_ifb_eq (pc := 31) 49 dX9_element_31 (by decide) (fun h31 => ?_) (fun h31 => ?_)
      · skip
        refine A_lconst (pc := 49) 0 dX9_element_49 rfl ?_
        refine A_lret (pc := 50) rfl dX9_element_50 ?_
        exact ⟨by unfold qElem; simp only [Int.toNat_natCast]; rw [if_pos (by omega), elI, if_neg (by omega)], rfl⟩
      · skip
        obtain ⟨j, rfl⟩ := Int.eq_ofNat_of_zero_le (show 0 ≤ i by omega)
        refine A_aload_n (pc := 34) dX9_element_34 rfl rfl ?_
        refine A_getR (pc := 35) fX9_44 rfl rfl dX9_element_35 ?_
        refine A_sipush (pc := 38) dX9_element_38 (by decide) ?_
        refine A_iload_n (pc := 41) dX9_element_41 rfl rfl ?_
        refine A_imul (pc := 42) dX9_element_42 ?_
        refine A_iload_n (pc := 43) dX9_element_43 rfl rfl ?_
        refine A_iadd (pc := 44) dX9_element_44 ?_
        refine A_laldv (pc := 45) (160 * k + j) rfl (by omega) (by omega) (Nat.le_of_ble_eq_true rfl) (ks.2.2 j (by omega)) dX9_element_45 ?_
        refine A_goto (pc := 46) 50 dX9_element_46 (by decide) ?_
        refine A_lret (pc := 50) rfl dX9_element_50 ?_
        exact ⟨by unfold qElem; simp only [Int.toNat_natCast]; rw [if_pos (by omega), elI, if_pos (by omega)]; rfl, rfl⟩
theorem dX9_show_0 : decode cX9_show 0 = .ok (.iload_n 1, 1) := by decide +kernel
theorem dX9_show_1 : decode cX9_show 1 = .ok (.iconst 0, 1) := by decide +kernel
theorem dX9_show_2 : decode cX9_show 2 = .ok (.bipush 7, 2) := by decide +kernel
theorem dX9_show_4 : decode cX9_show 4 = .ok (.invokestatic 86, 3) := by decide +kernel
theorem dX9_show_7 : decode cX9_show 7 = .ok (.ifCond .eq 16, 3) := by decide +kernel
theorem dX9_show_10 : decode cX9_show 10 = .ok (.iload_n 2, 1) := by decide +kernel
theorem dX9_show_11 : decode cX9_show 11 = .ok (.iconst (-1), 1) := by decide +kernel
theorem dX9_show_12 : decode cX9_show 12 = .ok (.if_icmp .eq 17, 3) := by decide +kernel
theorem dX9_show_15 : decode cX9_show 15 = .ok (.aload_n 0, 1) := by decide +kernel
theorem dX9_show_16 : decode cX9_show 16 = .ok (.iload_n 2, 1) := by decide +kernel
theorem dX9_show_17 : decode cX9_show 17 = .ok (.invokevirtual 103, 3) := by decide +kernel
theorem dX9_show_20 : decode cX9_show 20 = .ok (.ifCond .ne 9, 3) := by decide +kernel
theorem dX9_show_23 : decode cX9_show 23 = .ok (.aload_n 0, 1) := by decide +kernel
theorem dX9_show_24 : decode cX9_show 24 = .ok (.iconst (-1), 1) := by decide +kernel
theorem dX9_show_25 : decode cX9_show 25 = .ok (.invokevirtual 79, 3) := by decide +kernel
theorem dX9_show_28 : decode cX9_show 28 = .ok (.ireturn, 1) := by decide +kernel
theorem dX9_show_29 : decode cX9_show 29 = .ok (.aload_n 0, 1) := by decide +kernel
theorem dX9_show_30 : decode cX9_show 30 = .ok (.getfield 38, 3) := by decide +kernel
theorem dX9_show_33 : decode cX9_show 33 = .ok (.iload_n 1, 1) := by decide +kernel
theorem dX9_show_34 : decode cX9_show 34 = .ok (.iload_n 2, 1) := by decide +kernel
theorem dX9_show_35 : decode cX9_show 35 = .ok (.iastore, 1) := by decide +kernel
theorem dX9_show_36 : decode cX9_show 36 = .ok (.iload_n 2, 1) := by decide +kernel
theorem dX9_show_37 : decode cX9_show 37 = .ok (.iconst (-1), 1) := by decide +kernel
theorem dX9_show_38 : decode cX9_show 38 = .ok (.if_icmp .ne 7, 3) := by decide +kernel
theorem dX9_show_41 : decode cX9_show 41 = .ok (.iconst 0, 1) := by decide +kernel
theorem dX9_show_42 : decode cX9_show 42 = .ok (.goto 4, 3) := by decide +kernel
theorem dX9_show_45 : decode cX9_show 45 = .ok (.iconst 1, 1) := by decide +kernel
theorem dX9_show_46 : decode cX9_show 46 = .ok (.ireturn, 1) := by decide +kernel
set_option maxRecDepth 20000 in
theorem c_X9_show {G : Gl} {d : Nat} {σ : Sg} {Z : Zt} (hZ : RelM Z σ) (hO : OkZ Z) {s : Int} (hs1 : -2147483648 ≤ s) (hs2 : s < 2147483648) {p : Int} (hp1 : -2147483648 ≤ p) (hp2 : p < 2147483648) : CT G (d + 2) yX9_show cX9_show 3 (some .int) [.ref (gA G 54), .int (iI s), .int (iI p)] σ (RE (some (.int (iI (qShow Z s p).1))) (fun υ => RelM (qShow Z s p).2 υ ∧ Fr MC σ υ)) := by
  refine CT.of (by decide +kernel) (Nat.le_of_ble_eq_true rfl) ?_
  change AW G _ RX9 _ _ _ 0 [(0, .ref (gA G 54)), (1, .int (iI s)), (2, .int (iI p))] [] _ _
  refine A_iload_n (pc := 0) dX9_show_0 rfl rfl ?_
  refine A_iconst (pc := 1) dX9_show_1 ?_
  refine A_bipush (pc := 2) dX9_show_2 (by decide) ?_
  refine A_callS1 (pc := 4) kX9_86 (c_X9_within (v := s) (a := 0) (b := 7) (by omega) (by omega) (by omega) (by omega) (by omega) (by omega)) dX9_show_4 rfl rfl (Nat.le_of_ble_eq_true rfl) (Nat.le_of_ble_eq_true rfl) ?_
  refine A_ifb_eq (pc := 7) 23 dX9_show_7 (by decide) (fun h7 => ?_) (fun h7 => ?_)
  · skip
    refine A_aload_n (pc := 23) dX9_show_23 rfl rfl ?_
    refine A_iconst (pc := 24) dX9_show_24 ?_
    refine A_callVe (pc := 25) kX9_79 rfl rfl (c_X9_no hZ hO (t := -1) (by omega) (by omega)) dX9_show_25 rfl rfl (Nat.le_of_ble_eq_true rfl) (Nat.le_of_ble_eq_true rfl) (fun υ hυ => ?_)
    refine A_iret (pc := 28) rfl dX9_show_28 ?_
    exact RQM (by unfold qShow; rw [if_pos (by omega)]; rfl) hυ.1 (hυ.2.mono MC70)
  · skip
    refine A_iload_n (pc := 10) dX9_show_10 rfl rfl ?_
    refine A_iconst (pc := 11) dX9_show_11 ?_
    refine A_icmp_eq (pc := 12) 29 dX9_show_12 (by decide) (by omega) (by omega) (by omega) (by omega) (fun h12 => ?_) (fun h12 => ?_)
    · skip
      obtain ⟨k, rfl⟩ := Int.eq_ofNat_of_zero_le (show 0 ≤ s by omega)
      have k8 : k < 8 := by omega
      have ks := hZ.2.1 k k8
      have ko := hO.2.1 k k8
      obtain ⟨kb1, kb2, kb3, kb4⟩ := ko.1
      refine A_aload_n (pc := 29) dX9_show_29 rfl rfl ?_
      refine A_getR (pc := 30) fX9_38 rfl rfl dX9_show_30 ?_
      refine A_iload_n (pc := 33) dX9_show_33 rfl rfl ?_
      refine A_iload_n (pc := 34) dX9_show_34 rfl rfl ?_
      refine A_iast (pc := 35) _ rfl rfl (by omega) (Nat.le_of_ble_eq_true rfl) dX9_show_35 ?_
      refine A_iload_n (pc := 36) dX9_show_36 rfl rfl ?_
      refine A_iconst (pc := 37) dX9_show_37 ?_
      refine A_icmp_ne (pc := 38) 45 dX9_show_38 (by decide) (by omega) (by omega) (by omega) (by omega) (fun h38 => ?_) (fun h38 => ?_)
      · skip
        refine A_iconst (pc := 45) dX9_show_45 ?_
        refine A_iret (pc := 46) rfl dX9_show_46 ?_
        refine RQM (by unfold qShow; rw [if_neg (by omega), if_neg (by omega)]; rfl) (hZ.shelf (k := k) (hd := p) (n := 0) (el := Z.2.1.2.2 k) (Fr.rf.uI (Or.inl rfl)) (fun b hb => ?_) (fun b hb => ⟨fun e q => ?_, fun e => by rw [uI_at, if_neg (by omega)]⟩) (fun b hb x hx => ?_)) ((Fr.rf.uI (Or.inl rfl) : Fr (fun a => a = 64 ∨ a = 65 ∨ a = 66) σ _).mono MC66)
        · rw [uI_at]; by_cases e : b = k
          · rw [if_pos ⟨rfl, e⟩, if_pos e]
          · rw [if_neg (fun z => e z.2), if_neg e]
        · exfalso; have o3 := hO.1.2.2.1; omega
        · by_cases e : b = k
          · rw [if_pos e, e]; exact ks.2.2 x hx
          · rw [if_neg e]; rfl
      · skip
        refine A_iconst (pc := 41) dX9_show_41 ?_
        refine A_goto (pc := 42) 46 dX9_show_42 (by decide) ?_
        refine A_iret (pc := 46) rfl dX9_show_46 ?_
        refine RQM (by unfold qShow; rw [if_neg (by omega), if_pos (by omega)]; rfl) (hZ.shelf (k := k) (hd := p) (n := 0) (el := Z.2.1.2.2 k) (Fr.rf.uI (Or.inl rfl)) (fun b hb => ?_) (fun b hb => ⟨fun e q => ?_, fun e => by rw [uI_at, if_neg (by omega)]⟩) (fun b hb x hx => ?_)) ((Fr.rf.uI (Or.inl rfl) : Fr (fun a => a = 64 ∨ a = 65 ∨ a = 66) σ _).mono MC66)
        · rw [uI_at]; by_cases e : b = k
          · rw [if_pos ⟨rfl, e⟩, if_pos e]
          · rw [if_neg (fun z => e z.2), if_neg e]
        · exfalso; have o3 := hO.1.2.2.1; omega
        · by_cases e : b = k
          · rw [if_pos e, e]; exact ks.2.2 x hx
          · rw [if_neg e]; rfl
    · skip
      refine A_aload_n (pc := 15) dX9_show_15 rfl rfl ?_
      refine A_iload_n (pc := 16) dX9_show_16 rfl rfl ?_
      refine A_callV1 (pc := 17) kX9_103 rfl rfl (c_X9_isPane hZ.1 hO.1 hp1 hp2) dX9_show_17 rfl rfl (Nat.le_of_ble_eq_true rfl) (Nat.le_of_ble_eq_true rfl) ?_
      refine A_ifb_ne (pc := 20) 29 dX9_show_20 (by decide) (fun h20 => ?_) (fun h20 => ?_)
      · skip
        obtain ⟨k, rfl⟩ := Int.eq_ofNat_of_zero_le (show 0 ≤ s by omega)
        have k8 : k < 8 := by omega
        have ks := hZ.2.1 k k8
        have ko := hO.2.1 k k8
        obtain ⟨kb1, kb2, kb3, kb4⟩ := ko.1
        refine A_aload_n (pc := 29) dX9_show_29 rfl rfl ?_
        refine A_getR (pc := 30) fX9_38 rfl rfl dX9_show_30 ?_
        refine A_iload_n (pc := 33) dX9_show_33 rfl rfl ?_
        refine A_iload_n (pc := 34) dX9_show_34 rfl rfl ?_
        refine A_iast (pc := 35) _ rfl rfl (by omega) (Nat.le_of_ble_eq_true rfl) dX9_show_35 ?_
        refine A_iload_n (pc := 36) dX9_show_36 rfl rfl ?_
        refine A_iconst (pc := 37) dX9_show_37 ?_
        refine A_icmp_ne (pc := 38) 45 dX9_show_38 (by decide) (by omega) (by omega) (by omega) (by omega) (fun h38 => ?_) (fun h38 => ?_)
        · skip
          refine A_iconst (pc := 45) dX9_show_45 ?_
          refine A_iret (pc := 46) rfl dX9_show_46 ?_
          refine RQM (by unfold qShow; rw [if_neg (by omega), if_neg (by omega)]; rfl) (hZ.shelf (k := k) (hd := p) (n := 0) (el := Z.2.1.2.2 k) (Fr.rf.uI (Or.inl rfl)) (fun b hb => ?_) (fun b hb => ⟨fun e q => ?_, fun e => by rw [uI_at, if_neg (by omega)]⟩) (fun b hb x hx => ?_)) ((Fr.rf.uI (Or.inl rfl) : Fr (fun a => a = 64 ∨ a = 65 ∨ a = 66) σ _).mono MC66)
          · rw [uI_at]; by_cases e : b = k
            · rw [if_pos ⟨rfl, e⟩, if_pos e]
            · rw [if_neg (fun z => e z.2), if_neg e]
          · exfalso; have o3 := hO.1.2.2.1; omega
          · by_cases e : b = k
            · rw [if_pos e, e]; exact ks.2.2 x hx
            · rw [if_neg e]; rfl
        · skip
          refine A_iconst (pc := 41) dX9_show_41 ?_
          refine A_goto (pc := 42) 46 dX9_show_42 (by decide) ?_
          refine A_iret (pc := 46) rfl dX9_show_46 ?_
          refine RQM (by unfold qShow; rw [if_neg (by omega), if_pos (by omega)]; rfl) (hZ.shelf (k := k) (hd := p) (n := 0) (el := Z.2.1.2.2 k) (Fr.rf.uI (Or.inl rfl)) (fun b hb => ?_) (fun b hb => ⟨fun e q => ?_, fun e => by rw [uI_at, if_neg (by omega)]⟩) (fun b hb x hx => ?_)) ((Fr.rf.uI (Or.inl rfl) : Fr (fun a => a = 64 ∨ a = 65 ∨ a = 66) σ _).mono MC66)
          · rw [uI_at]; by_cases e : b = k
            · rw [if_pos ⟨rfl, e⟩, if_pos e]
            · rw [if_neg (fun z => e z.2), if_neg e]
          · exfalso; have o3 := hO.1.2.2.1; omega
          · by_cases e : b = k
            · rw [if_pos e, e]; exact ks.2.2 x hx
            · rw [if_neg e]; rfl
      · skip
        refine A_aload_n (pc := 23) dX9_show_23 rfl rfl ?_
        refine A_iconst (pc := 24) dX9_show_24 ?_
        refine A_callVe (pc := 25) kX9_79 rfl rfl (c_X9_no hZ hO (t := -1) (by omega) (by omega)) dX9_show_25 rfl rfl (Nat.le_of_ble_eq_true rfl) (Nat.le_of_ble_eq_true rfl) (fun υ hυ => ?_)
        refine A_iret (pc := 28) rfl dX9_show_28 ?_
        exact RQM (by unfold qShow; rw [if_pos (by omega)]; rfl) hυ.1 (hυ.2.mono MC70)
theorem dX9_holds_0 : decode cX9_holds 0 = .ok (.iload_n 1, 1) := by decide +kernel
theorem dX9_holds_1 : decode cX9_holds 1 = .ok (.iconst 0, 1) := by decide +kernel
theorem dX9_holds_2 : decode cX9_holds 2 = .ok (.bipush 7, 2) := by decide +kernel
theorem dX9_holds_4 : decode cX9_holds 4 = .ok (.invokestatic 86, 3) := by decide +kernel
theorem dX9_holds_7 : decode cX9_holds 7 = .ok (.ifCond .eq 12, 3) := by decide +kernel
theorem dX9_holds_10 : decode cX9_holds 10 = .ok (.aload_n 0, 1) := by decide +kernel
theorem dX9_holds_11 : decode cX9_holds 11 = .ok (.getfield 38, 3) := by decide +kernel
theorem dX9_holds_14 : decode cX9_holds 14 = .ok (.iload_n 1, 1) := by decide +kernel
theorem dX9_holds_15 : decode cX9_holds 15 = .ok (.iaload, 1) := by decide +kernel
theorem dX9_holds_16 : decode cX9_holds 16 = .ok (.goto 4, 3) := by decide +kernel
theorem dX9_holds_19 : decode cX9_holds 19 = .ok (.iconst (-1), 1) := by decide +kernel
theorem dX9_holds_20 : decode cX9_holds 20 = .ok (.ireturn, 1) := by decide +kernel
set_option maxRecDepth 20000 in
theorem c_X9_holds {G : Gl} {d : Nat} {σ : Sg} {Z : Zt} (hZ : RelM Z σ) (hO : OkZ Z) {s : Int} (hs1 : -2147483648 ≤ s) (hs2 : s < 2147483648) : CT G (d + 1) yX9_holds cX9_holds 2 (some .int) [.ref (gA G 54), .int (iI s)] σ (R1 (.int (iI (qHolds Z s))) σ) := by
  refine CT.of (by decide +kernel) (Nat.le_of_ble_eq_true rfl) ?_
  change AW G _ RX9 _ _ _ 0 [(0, .ref (gA G 54)), (1, .int (iI s))] [] _ _
  refine A_iload_n (pc := 0) dX9_holds_0 rfl rfl ?_
  refine A_iconst (pc := 1) dX9_holds_1 ?_
  refine A_bipush (pc := 2) dX9_holds_2 (by decide) ?_
  refine A_callS1 (pc := 4) kX9_86 (c_X9_within (v := s) (a := 0) (b := 7) (by omega) (by omega) (by omega) (by omega) (by omega) (by omega)) dX9_holds_4 rfl rfl (Nat.le_of_ble_eq_true rfl) (Nat.le_of_ble_eq_true rfl) ?_
  refine A_ifb_eq (pc := 7) 19 dX9_holds_7 (by decide) (fun h7 => ?_) (fun h7 => ?_)
  · skip
    refine A_iconst (pc := 19) dX9_holds_19 ?_
    refine A_iret (pc := 20) rfl dX9_holds_20 ?_
    exact R1_e (by unfold qHolds; rw [if_neg (by omega)])
  · skip
    obtain ⟨k, rfl⟩ := Int.eq_ofNat_of_zero_le (show 0 ≤ s by omega)
    have k8 : k < 8 := by omega
    have ks := hZ.2.1 k k8
    have ko := hO.2.1 k k8
    obtain ⟨kb1, kb2, kb3, kb4⟩ := ko.1
    refine A_aload_n (pc := 10) dX9_holds_10 rfl rfl ?_
    refine A_getR (pc := 11) fX9_38 rfl rfl dX9_holds_11 ?_
    refine A_iload_n (pc := 14) dX9_holds_14 rfl rfl ?_
    refine A_ialdv (pc := 15) _ rfl rfl (by omega) (Nat.le_of_ble_eq_true rfl) ks.1 dX9_holds_15 ?_
    refine A_goto (pc := 16) 20 dX9_holds_16 (by decide) ?_
    refine A_iret (pc := 20) rfl dX9_holds_20 ?_
    exact R1_e (by unfold qHolds; simp only [Int.toNat_natCast]; rw [if_pos (by omega)])
def abX (k : Int) : Int := if 0 ≤ k ∧ k < 7 then fAb.getD k.toNat 0 else -1
def unR : Nat → Int → Int → Bool
  | 0, _, _ => false
  | n + 1, k, w => if k = -1 then false else if k = w then true else unR n (abX k) w
abbrev undB (k w : Int) : Prop := k = w ∨ (0 < k ∧ (abv k = w ∨ (0 < abv k ∧ abv (abv k) = w)))
theorem unR_undr {k w : Int} (k1 : 0 ≤ k) (k2 : k < 7) (w1 : 0 ≤ w) (w2 : w < 7) : unR 7 k w = decide (undB k w) := by
  have hk : k = 0 ∨ k = 1 ∨ k = 2 ∨ k = 3 ∨ k = 4 ∨ k = 5 ∨ k = 6 := by omega
  have hw : w = 0 ∨ w = 1 ∨ w = 2 ∨ w = 3 ∨ w = 4 ∨ w = 5 ∨ w = 6 := by omega
  rcases hk with rfl | rfl | rfl | rfl | rfl | rfl | rfl <;> rcases hw with rfl | rfl | rfl | rfl | rfl | rfl | rfl <;> decide
theorem abX_rng (k : Int) : -1 ≤ abX k ∧ abX k < 7 := by
  unfold abX
  by_cases h : 0 ≤ k ∧ k < 7
  · rw [if_pos h]
    have hk : k = 0 ∨ k = 1 ∨ k = 2 ∨ k = 3 ∨ k = 4 ∨ k = 5 ∨ k = 6 := by omega
    rcases hk with rfl | rfl | rfl | rfl | rfl | rfl | rfl <;> decide
  · rw [if_neg h]; omega
theorem dX8_above_0 : decode cX8_above 0 = .ok (.iload_n 0, 1) := by decide +kernel
theorem dX8_above_1 : decode cX8_above 1 = .ok (.invokestatic 120, 3) := by decide +kernel
theorem dX8_above_4 : decode cX8_above 4 = .ok (.ifCond .eq 11, 3) := by decide +kernel
theorem dX8_above_7 : decode cX8_above 7 = .ok (.getstatic 383, 3) := by decide +kernel
theorem dX8_above_10 : decode cX8_above 10 = .ok (.iload_n 0, 1) := by decide +kernel
theorem dX8_above_11 : decode cX8_above 11 = .ok (.iaload, 1) := by decide +kernel
theorem dX8_above_12 : decode cX8_above 12 = .ok (.goto 4, 3) := by decide +kernel
theorem dX8_above_15 : decode cX8_above 15 = .ok (.iconst (-1), 1) := by decide +kernel
theorem dX8_above_16 : decode cX8_above 16 = .ok (.ireturn, 1) := by decide +kernel
set_option maxRecDepth 20000 in
theorem c_X8_above {G : Gl} {d : Nat} {σ : Sg} {k : Int} (hk1 : -2147483648 ≤ k) (hk2 : k < 2147483648) : CT G (d + 1) yX8_above cX8_above 1 (some .int) [.int (iI k)] σ (R1 (.int (iI (abX k))) σ) := by
  refine CT.of (by decide +kernel) (Nat.le_of_ble_eq_true rfl) ?_
  change AW G _ RX8 _ _ _ 0 [(0, .int (iI k))] [] _ _
  refine A_iload_n (pc := 0) dX8_above_0 rfl rfl ?_
  refine A_callS1 (pc := 1) kX8_120 (c_X8_isKind hk1 hk2) dX8_above_1 rfl rfl (Nat.le_of_ble_eq_true rfl) (Nat.le_of_ble_eq_true rfl) ?_
  refine A_ifb_eq (pc := 4) 15 dX8_above_4 (by decide) (fun h4 => ?_) (fun h4 => ?_)
  · skip
    refine A_iconst (pc := 15) dX8_above_15 ?_
    refine A_iret (pc := 16) rfl dX8_above_16 ?_
    exact R1_e (by unfold abX; rw [if_neg (by omega)])
  · skip
    obtain ⟨j, rfl⟩ := Int.eq_ofNat_of_zero_le (show 0 ≤ k by omega)
    refine A_getsA (pc := 7) fsX8_383 dX8_above_7 ?_
    refine A_iload_n (pc := 10) dX8_above_10 rfl rfl ?_
    refine A_taldA (pc := 11) _ rfl (by omega) dX8_above_11 ?_
    refine A_goto (pc := 12) 16 dX8_above_12 (by decide) ?_
    refine A_iret (pc := 16) rfl dX8_above_16 ?_
    exact R1_e (by unfold abX; rw [if_pos (by omega)]; rfl)
theorem dX8_isUnder_0 : decode cX8_isUnder 0 = .ok (.iload_n 0, 1) := by decide +kernel
theorem dX8_isUnder_1 : decode cX8_isUnder 1 = .ok (.istore_n 2, 1) := by decide +kernel
theorem dX8_isUnder_2 : decode cX8_isUnder 2 = .ok (.iconst 0, 1) := by decide +kernel
theorem dX8_isUnder_3 : decode cX8_isUnder 3 = .ok (.istore_n 3, 1) := by decide +kernel
theorem dX8_isUnder_4 : decode cX8_isUnder 4 = .ok (.iload_n 3, 1) := by decide +kernel
theorem dX8_isUnder_5 : decode cX8_isUnder 5 = .ok (.bipush 7, 2) := by decide +kernel
theorem dX8_isUnder_7 : decode cX8_isUnder 7 = .ok (.if_icmp .ge 26, 3) := by decide +kernel
theorem dX8_isUnder_10 : decode cX8_isUnder 10 = .ok (.iload_n 2, 1) := by decide +kernel
theorem dX8_isUnder_11 : decode cX8_isUnder 11 = .ok (.iconst (-1), 1) := by decide +kernel
theorem dX8_isUnder_12 : decode cX8_isUnder 12 = .ok (.if_icmp .eq 21, 3) := by decide +kernel
theorem dX8_isUnder_15 : decode cX8_isUnder 15 = .ok (.iload_n 2, 1) := by decide +kernel
theorem dX8_isUnder_16 : decode cX8_isUnder 16 = .ok (.iload_n 1, 1) := by decide +kernel
theorem dX8_isUnder_17 : decode cX8_isUnder 17 = .ok (.if_icmp .ne 5, 3) := by decide +kernel
theorem dX8_isUnder_20 : decode cX8_isUnder 20 = .ok (.iconst 1, 1) := by decide +kernel
theorem dX8_isUnder_21 : decode cX8_isUnder 21 = .ok (.ireturn, 1) := by decide +kernel
theorem dX8_isUnder_22 : decode cX8_isUnder 22 = .ok (.iload_n 2, 1) := by decide +kernel
theorem dX8_isUnder_23 : decode cX8_isUnder 23 = .ok (.invokestatic 386, 3) := by decide +kernel
theorem dX8_isUnder_26 : decode cX8_isUnder 26 = .ok (.istore_n 2, 1) := by decide +kernel
theorem dX8_isUnder_27 : decode cX8_isUnder 27 = .ok (.iinc 3 1, 3) := by decide +kernel
theorem dX8_isUnder_30 : decode cX8_isUnder 30 = .ok (.goto (-26), 3) := by decide +kernel
theorem dX8_isUnder_33 : decode cX8_isUnder 33 = .ok (.iconst 0, 1) := by decide +kernel
theorem dX8_isUnder_34 : decode cX8_isUnder 34 = .ok (.ireturn, 1) := by decide +kernel
set_option maxRecDepth 20000 in
theorem l_X8_isUnder {G : Gl} {d : Nat} {σ : Sg} {K : Option Value → Sg → Prop} {w : Int} (hw1 : -2147483648 ≤ w) (hw2 : w < 2147483648) : ∀ (n : Nat) (k i : Int), 0 ≤ i → i + n = 7 → -1 ≤ k → k < 7 → K (some (.int (iI (bI (unR n k w = true))))) σ → AW G (d + 2) RX8 cX8_isUnder 4 (some .boolean) 4 [(1, .int (iI w)), (2, .int (iI k)), (3, .int (iI i))] [] σ K := by
  intro n
  induction n using Nat.strongRecOn
  rename_i n ih
  intro k i i1 hn k1 k2 hK
  refine A_iload_n (pc := 4) dX8_isUnder_4 rfl rfl ?_
  refine A_bipush (pc := 5) dX8_isUnder_5 (by decide) ?_
  refine A_icmp_ge (pc := 7) 33 dX8_isUnder_7 (by decide) (by omega) (by omega) (by omega) (by omega) (fun h7 => ?_) (fun h7 => ?_)
  · skip
    refine A_iconst (pc := 33) dX8_isUnder_33 ?_
    refine A_zret (pc := 34) rfl rfl dX8_isUnder_34 ?_
    have hn0 : n = 0 := by omega
    subst hn0
    rw [unR, bI_f (by decide)] at hK
    exact hK
  · skip
    refine A_iload_n (pc := 10) dX8_isUnder_10 rfl rfl ?_
    refine A_iconst (pc := 11) dX8_isUnder_11 ?_
    refine A_icmp_eq (pc := 12) 33 dX8_isUnder_12 (by decide) (by omega) (by omega) (by omega) (by omega) (fun h12 => ?_) (fun h12 => ?_)
    · skip
      refine A_iconst (pc := 33) dX8_isUnder_33 ?_
      refine A_zret (pc := 34) rfl rfl dX8_isUnder_34 ?_
      obtain ⟨m, rfl⟩ : ∃ m, n = m + 1 := ⟨n - 1, by omega⟩
      rw [unR, if_pos (by omega), bI_f (by decide)] at hK
      exact hK
    · skip
      refine A_iload_n (pc := 15) dX8_isUnder_15 rfl rfl ?_
      refine A_iload_n (pc := 16) dX8_isUnder_16 rfl rfl ?_
      refine A_icmp_ne (pc := 17) 22 dX8_isUnder_17 (by decide) (by omega) (by omega) (by omega) (by omega) (fun h17 => ?_) (fun h17 => ?_)
      · skip
        have hr := abX_rng k
        refine A_iload_n (pc := 22) dX8_isUnder_22 rfl rfl ?_
        refine A_callS1 (pc := 23) kX8_386 (c_X8_above (by omega) (by omega)) dX8_isUnder_23 rfl rfl (Nat.le_of_ble_eq_true rfl) (Nat.le_of_ble_eq_true rfl) ?_
        refine A_istore_n (pc := 26) dX8_isUnder_26 rfl (Nat.le_of_ble_eq_true rfl) ?_
        refine A_iinc (pc := 27) dX8_isUnder_27 rfl (Nat.le_of_ble_eq_true rfl) ?_
        refine A_goto (pc := 30) 4 dX8_isUnder_30 (by decide) ?_
        obtain ⟨m, rfl⟩ : ∃ m, n = m + 1 := ⟨n - 1, by omega⟩
        refine A_loc (l2 := [(1, _), (2, _), (3, _)]) ⟨rfl, rfl, rfl, trivial⟩ ?_
        refine ih m (by omega) _ _ (by omega) (by omega) hr.1 hr.2 ?_
        rw [unR, if_neg (by omega), if_neg (by omega)] at hK
        exact hK
      · skip
        refine A_iconst (pc := 20) dX8_isUnder_20 ?_
        refine A_zret (pc := 21) rfl rfl dX8_isUnder_21 ?_
        obtain ⟨m, rfl⟩ : ∃ m, n = m + 1 := ⟨n - 1, by omega⟩
        rw [unR, if_neg (by omega), if_pos (by omega), bI_t rfl] at hK
        exact hK
set_option maxRecDepth 20000 in
theorem c_X8_isUnder {G : Gl} {d : Nat} {σ : Sg} {k w : Int} (k1 : 0 ≤ k) (k2 : k < 7) (w1 : 0 ≤ w) (w2 : w < 7) : CT G (d + 2) yX8_isUnder cX8_isUnder 4 (some .boolean) [.int (iI k), .int (iI w)] σ (R1 (.int (iI (bI (undB k w)))) σ) := by
  refine CT.of (by decide +kernel) (Nat.le_of_ble_eq_true rfl) ?_
  change AW G _ RX8 _ _ _ 0 [(0, .int (iI k)), (1, .int (iI w))] [] _ _
  refine A_iload_n (pc := 0) dX8_isUnder_0 rfl rfl ?_
  refine A_istore_n (pc := 1) dX8_isUnder_1 rfl (Nat.le_of_ble_eq_true rfl) ?_
  refine A_iconst (pc := 2) dX8_isUnder_2 ?_
  refine A_istore_n (pc := 3) dX8_isUnder_3 rfl (Nat.le_of_ble_eq_true rfl) ?_
  refine A_loc (l2 := [(1, _), (2, _), (3, _)]) ⟨rfl, rfl, rfl, trivial⟩ ?_
  refine l_X8_isUnder (by omega) (by omega) 7 k 0 (by omega) (by omega) (by omega) (by omega) ⟨?_, rfl⟩
  rw [unR_undr k1 k2 w1 w2, bI_congr (decide_eq_true_iff)]
theorem dX9_above_0 : decode cX9_above 0 = .ok (.iload_n 0, 1) := by decide +kernel
theorem dX9_above_1 : decode cX9_above 1 = .ok (.iconst 3, 1) := by decide +kernel
theorem dX9_above_2 : decode cX9_above 2 = .ok (.if_icmp .ne 7, 3) := by decide +kernel
theorem dX9_above_5 : decode cX9_above 5 = .ok (.iconst 1, 1) := by decide +kernel
theorem dX9_above_6 : decode cX9_above 6 = .ok (.goto 23, 3) := by decide +kernel
theorem dX9_above_9 : decode cX9_above 9 = .ok (.iload_n 0, 1) := by decide +kernel
theorem dX9_above_10 : decode cX9_above 10 = .ok (.iconst 5, 1) := by decide +kernel
theorem dX9_above_11 : decode cX9_above 11 = .ok (.if_icmp .ne 7, 3) := by decide +kernel
theorem dX9_above_14 : decode cX9_above 14 = .ok (.iconst 4, 1) := by decide +kernel
theorem dX9_above_15 : decode cX9_above 15 = .ok (.goto 14, 3) := by decide +kernel
theorem dX9_above_18 : decode cX9_above 18 = .ok (.iload_n 0, 1) := by decide +kernel
theorem dX9_above_19 : decode cX9_above 19 = .ok (.bipush 6, 2) := by decide +kernel
theorem dX9_above_21 : decode cX9_above 21 = .ok (.if_icmp .ne 7, 3) := by decide +kernel
theorem dX9_above_24 : decode cX9_above 24 = .ok (.iconst 2, 1) := by decide +kernel
theorem dX9_above_25 : decode cX9_above 25 = .ok (.goto 4, 3) := by decide +kernel
theorem dX9_above_28 : decode cX9_above 28 = .ok (.iconst 0, 1) := by decide +kernel
theorem dX9_above_29 : decode cX9_above 29 = .ok (.ireturn, 1) := by decide +kernel
set_option maxRecDepth 20000 in
theorem c_X9_above {G : Gl} {d : Nat} {σ : Sg} {k : Int} (hk1 : -2147483648 ≤ k) (hk2 : k < 2147483648) : CT G d yX9_above cX9_above 1 (some .int) [.int (iI k)] σ (R1 (.int (iI (if k = 3 then 1 else if k = 5 then 4 else if k = 6 then 2 else 0))) σ) := by
  refine CT.of (by decide +kernel) (Nat.le_of_ble_eq_true rfl) ?_
  change AW G _ RX9 _ _ _ 0 [(0, .int (iI k))] [] _ _
  refine A_iload_n (pc := 0) dX9_above_0 rfl rfl ?_
  refine A_iconst (pc := 1) dX9_above_1 ?_
  refine A_icmp_ne (pc := 2) 9 dX9_above_2 (by decide) (by omega) (by omega) (by omega) (by omega) (fun h2 => ?_) (fun h2 => ?_)
  · skip
    refine A_iload_n (pc := 9) dX9_above_9 rfl rfl ?_
    refine A_iconst (pc := 10) dX9_above_10 ?_
    refine A_icmp_ne (pc := 11) 18 dX9_above_11 (by decide) (by omega) (by omega) (by omega) (by omega) (fun h11 => ?_) (fun h11 => ?_)
    · skip
      refine A_iload_n (pc := 18) dX9_above_18 rfl rfl ?_
      refine A_bipush (pc := 19) dX9_above_19 (by decide) ?_
      refine A_icmp_ne (pc := 21) 28 dX9_above_21 (by decide) (by omega) (by omega) (by omega) (by omega) (fun h21 => ?_) (fun h21 => ?_)
      · skip
        refine A_iconst (pc := 28) dX9_above_28 ?_
        refine A_iret (pc := 29) rfl dX9_above_29 ?_
        exact R1_e (by (repeat' split) <;> omega)
      · skip
        refine A_iconst (pc := 24) dX9_above_24 ?_
        refine A_goto (pc := 25) 29 dX9_above_25 (by decide) ?_
        refine A_iret (pc := 29) rfl dX9_above_29 ?_
        exact R1_e (by (repeat' split) <;> omega)
    · skip
      refine A_iconst (pc := 14) dX9_above_14 ?_
      refine A_goto (pc := 15) 29 dX9_above_15 (by decide) ?_
      refine A_iret (pc := 29) rfl dX9_above_29 ?_
      exact R1_e (by (repeat' split) <;> omega)
  · skip
    refine A_iconst (pc := 5) dX9_above_5 ?_
    refine A_goto (pc := 6) 29 dX9_above_6 (by decide) ?_
    refine A_iret (pc := 29) rfl dX9_above_29 ?_
    exact R1_e (by (repeat' split) <;> omega)
theorem dX9_isUnder_0 : decode cX9_isUnder 0 = .ok (.iload_n 0, 1) := by decide +kernel
theorem dX9_isUnder_1 : decode cX9_isUnder 1 = .ok (.istore_n 2, 1) := by decide +kernel
theorem dX9_isUnder_2 : decode cX9_isUnder 2 = .ok (.iload_n 2, 1) := by decide +kernel
theorem dX9_isUnder_3 : decode cX9_isUnder 3 = .ok (.iload_n 1, 1) := by decide +kernel
theorem dX9_isUnder_4 : decode cX9_isUnder 4 = .ok (.if_icmp .eq 15, 3) := by decide +kernel
theorem dX9_isUnder_7 : decode cX9_isUnder 7 = .ok (.iload_n 2, 1) := by decide +kernel
theorem dX9_isUnder_8 : decode cX9_isUnder 8 = .ok (.ifCond .le 11, 3) := by decide +kernel
theorem dX9_isUnder_11 : decode cX9_isUnder 11 = .ok (.iload_n 2, 1) := by decide +kernel
theorem dX9_isUnder_12 : decode cX9_isUnder 12 = .ok (.invokestatic 106, 3) := by decide +kernel
theorem dX9_isUnder_15 : decode cX9_isUnder 15 = .ok (.istore_n 2, 1) := by decide +kernel
theorem dX9_isUnder_16 : decode cX9_isUnder 16 = .ok (.goto (-14), 3) := by decide +kernel
theorem dX9_isUnder_19 : decode cX9_isUnder 19 = .ok (.iload_n 2, 1) := by decide +kernel
theorem dX9_isUnder_20 : decode cX9_isUnder 20 = .ok (.iload_n 1, 1) := by decide +kernel
theorem dX9_isUnder_21 : decode cX9_isUnder 21 = .ok (.if_icmp .ne 7, 3) := by decide +kernel
theorem dX9_isUnder_24 : decode cX9_isUnder 24 = .ok (.iconst 1, 1) := by decide +kernel
theorem dX9_isUnder_25 : decode cX9_isUnder 25 = .ok (.goto 4, 3) := by decide +kernel
theorem dX9_isUnder_28 : decode cX9_isUnder 28 = .ok (.iconst 0, 1) := by decide +kernel
theorem dX9_isUnder_29 : decode cX9_isUnder 29 = .ok (.ireturn, 1) := by decide +kernel
set_option maxRecDepth 20000 in
theorem l_X9_isUnder {G : Gl} {d : Nat} {σ : Sg} {K : Option Value → Sg → Prop} {w : Int} (hw1 : -2147483648 ≤ w) (hw2 : w < 2147483648) : ∀ (n : Nat) (k : Int), 0 ≤ k → k < 7 → (if k = 0 then 0 else if k = 1 ∨ k = 2 ∨ k = 4 then 1 else 2) = n → K (some (.int (iI (bI (undB k w))))) σ → AW G (d + 1) RX9 cX9_isUnder 3 (some .boolean) 2 [(1, .int (iI w)), (2, .int (iI k))] [] σ K := by
  intro n
  induction n using Nat.strongRecOn
  rename_i n ih
  intro k k1 k2 hn hK
  refine A_iload_n (pc := 2) dX9_isUnder_2 rfl rfl ?_
  refine A_iload_n (pc := 3) dX9_isUnder_3 rfl rfl ?_
  refine A_icmp_eq (pc := 4) 19 dX9_isUnder_4 (by decide) (by omega) (by omega) (by omega) (by omega) (fun h4 => ?_) (fun h4 => ?_)
  · skip
    refine A_iload_n (pc := 19) dX9_isUnder_19 rfl rfl ?_
    refine A_iload_n (pc := 20) dX9_isUnder_20 rfl rfl ?_
    refine A_icmp_ne (pc := 21) 28 dX9_isUnder_21 (by decide) (by omega) (by omega) (by omega) (by omega) (fun h21 => ?_) (fun h21 => ?_)
    · skip
      refine A_iconst (pc := 28) dX9_isUnder_28 ?_
      refine A_zret (pc := 29) rfl rfl dX9_isUnder_29 ?_
      exfalso; omega
    · skip
      refine A_iconst (pc := 24) dX9_isUnder_24 ?_
      refine A_goto (pc := 25) 29 dX9_isUnder_25 (by decide) ?_
      refine A_zret (pc := 29) rfl rfl dX9_isUnder_29 ?_
      rw [bI_t (show undB k w from Or.inl h4)] at hK
      exact hK
  · skip
    refine A_iload_n (pc := 7) dX9_isUnder_7 rfl rfl ?_
    refine A_if_le (pc := 8) 19 dX9_isUnder_8 (by decide) (by omega) (by omega) (fun h8 => ?_) (fun h8 => ?_)
    · skip
      refine A_iload_n (pc := 19) dX9_isUnder_19 rfl rfl ?_
      refine A_iload_n (pc := 20) dX9_isUnder_20 rfl rfl ?_
      refine A_icmp_ne (pc := 21) 28 dX9_isUnder_21 (by decide) (by omega) (by omega) (by omega) (by omega) (fun h21 => ?_) (fun h21 => ?_)
      · skip
        refine A_iconst (pc := 28) dX9_isUnder_28 ?_
        refine A_zret (pc := 29) rfl rfl dX9_isUnder_29 ?_
        rw [bI_f (show ¬ undB k w from fun q => by omega)] at hK
        exact hK
      · skip
        refine A_iconst (pc := 24) dX9_isUnder_24 ?_
        refine A_goto (pc := 25) 29 dX9_isUnder_25 (by decide) ?_
        refine A_zret (pc := 29) rfl rfl dX9_isUnder_29 ?_
        exfalso; omega
    · skip
      refine A_iload_n (pc := 11) dX9_isUnder_11 rfl rfl ?_
      refine A_callS1 (pc := 12) kX9_106 (c_X9_above (by omega) (by omega)) dX9_isUnder_12 rfl rfl (Nat.le_of_ble_eq_true rfl) (Nat.le_of_ble_eq_true rfl) ?_
      refine A_istore_n (pc := 15) dX9_isUnder_15 rfl (Nat.le_of_ble_eq_true rfl) ?_
      refine A_goto (pc := 16) 2 dX9_isUnder_16 (by decide) ?_
      refine A_loc (l2 := [(1, _), (2, _)]) ⟨rfl, rfl, trivial⟩ ?_
      have hlt : (if (if k = 3 then (1 : Int) else if k = 5 then 4 else if k = 6 then 2 else 0) = 0 then (0 : Nat) else if (if k = 3 then (1 : Int) else if k = 5 then 4 else if k = 6 then 2 else 0) = 1 ∨ (if k = 3 then (1 : Int) else if k = 5 then 4 else if k = 6 then 2 else 0) = 2 ∨ (if k = 3 then (1 : Int) else if k = 5 then 4 else if k = 6 then 2 else 0) = 4 then 1 else 2) < n := by
        have hk : k = 1 ∨ k = 2 ∨ k = 3 ∨ k = 4 ∨ k = 5 ∨ k = 6 := by omega
        rw [← hn]
        rcases hk with rfl | rfl | rfl | rfl | rfl | rfl <;> decide
      refine ih _ hlt _ (by (repeat' split) <;> omega) (by (repeat' split) <;> omega) rfl ?_
      have e : bI (undB k w) = bI (undB (if k = 3 then 1 else if k = 5 then 4 else if k = 6 then 2 else 0) w) := by
        refine bI_congr ?_
        have hk : k = 1 ∨ k = 2 ∨ k = 3 ∨ k = 4 ∨ k = 5 ∨ k = 6 := by omega
        rcases hk with rfl | rfl | rfl | rfl | rfl | rfl <;> simp [undB, abv] <;> omega
      rw [e] at hK
      exact hK
set_option maxRecDepth 20000 in
theorem c_X9_isUnder {G : Gl} {d : Nat} {σ : Sg} {k w : Int} (k1 : 0 ≤ k) (k2 : k < 7) (hw1 : -2147483648 ≤ w) (hw2 : w < 2147483648) : CT G (d + 1) yX9_isUnder cX9_isUnder 3 (some .boolean) [.int (iI k), .int (iI w)] σ (R1 (.int (iI (bI (undB k w)))) σ) := by
  refine CT.of (by decide +kernel) (Nat.le_of_ble_eq_true rfl) ?_
  change AW G _ RX9 _ _ _ 0 [(0, .int (iI k)), (1, .int (iI w))] [] _ _
  refine A_iload_n (pc := 0) dX9_isUnder_0 rfl rfl ?_
  refine A_istore_n (pc := 1) dX9_isUnder_1 rfl (Nat.le_of_ble_eq_true rfl) ?_
  refine A_loc (l2 := [(1, _), (2, _)]) ⟨rfl, rfl, trivial⟩ ?_
  exact l_X9_isUnder hw1 hw2 _ k k1 k2 rfl ⟨rfl, rfl⟩
