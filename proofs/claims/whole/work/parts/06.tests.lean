/-! PART 06: small tests of numbers -/
theorem dX0_isSquare_0 : decode cX0_isSquare 0 = .ok (.iload_n 0, 1) := by decide +kernel
theorem dX0_isSquare_1 : decode cX0_isSquare 1 = .ok (.ifCond .lt 13, 3) := by decide +kernel
theorem dX0_isSquare_4 : decode cX0_isSquare 4 = .ok (.iload_n 0, 1) := by decide +kernel
theorem dX0_isSquare_5 : decode cX0_isSquare 5 = .ok (.bipush 49, 2) := by decide +kernel
theorem dX0_isSquare_7 : decode cX0_isSquare 7 = .ok (.if_icmp .ge 7, 3) := by decide +kernel
theorem dX0_isSquare_10 : decode cX0_isSquare 10 = .ok (.iconst 1, 1) := by decide +kernel
theorem dX0_isSquare_11 : decode cX0_isSquare 11 = .ok (.goto 4, 3) := by decide +kernel
theorem dX0_isSquare_14 : decode cX0_isSquare 14 = .ok (.iconst 0, 1) := by decide +kernel
theorem dX0_isSquare_15 : decode cX0_isSquare 15 = .ok (.ireturn, 1) := by decide +kernel
set_option maxRecDepth 20000 in
theorem c_X0_isSquare {G : Gl} {d : Nat} {σ : Sg} {s : Int} (hs1 : -2147483648 ≤ s) (hs2 : s < 2147483648) : CT G d yX0_isSquare cX0_isSquare 1 (some .boolean) [.int (iI s)] σ (R1 (.int (iI (bI (0 ≤ s ∧ s < 49)))) σ) := by
  refine CT.of (by decide +kernel) (Nat.le_of_ble_eq_true rfl) ?_
  change AW G _ RX0 _ _ _ 0 [(0, .int (iI s))] [] _ _
  refine A_iload_n (pc := 0) dX0_isSquare_0 rfl rfl ?_
  refine A_if_lt (pc := 1) 14 dX0_isSquare_1 (by decide) (by omega) (by omega) (fun h1 => ?_) (fun h1 => ?_)
  · skip
    refine A_iconst (pc := 14) dX0_isSquare_14 ?_
    refine A_zret (pc := 15) rfl rfl dX0_isSquare_15 ?_
    exact R1_f (by omega)
  · skip
    refine A_iload_n (pc := 4) dX0_isSquare_4 rfl rfl ?_
    refine A_bipush (pc := 5) dX0_isSquare_5 (by decide) ?_
    refine A_icmp_ge (pc := 7) 14 dX0_isSquare_7 (by decide) (by omega) (by omega) (by omega) (by omega) (fun h7 => ?_) (fun h7 => ?_)
    · skip
      refine A_iconst (pc := 14) dX0_isSquare_14 ?_
      refine A_zret (pc := 15) rfl rfl dX0_isSquare_15 ?_
      exact R1_f (by omega)
    · skip
      refine A_iconst (pc := 10) dX0_isSquare_10 ?_
      refine A_goto (pc := 11) 15 dX0_isSquare_11 (by decide) ?_
      refine A_zret (pc := 15) rfl rfl dX0_isSquare_15 ?_
      exact R1_t (by omega)
theorem dX0_isWay_0 : decode cX0_isWay 0 = .ok (.iload_n 0, 1) := by decide +kernel
theorem dX0_isWay_1 : decode cX0_isWay 1 = .ok (.ifCond .lt 12, 3) := by decide +kernel
theorem dX0_isWay_4 : decode cX0_isWay 4 = .ok (.iload_n 0, 1) := by decide +kernel
theorem dX0_isWay_5 : decode cX0_isWay 5 = .ok (.iconst 4, 1) := by decide +kernel
theorem dX0_isWay_6 : decode cX0_isWay 6 = .ok (.if_icmp .ge 7, 3) := by decide +kernel
theorem dX0_isWay_9 : decode cX0_isWay 9 = .ok (.iconst 1, 1) := by decide +kernel
theorem dX0_isWay_10 : decode cX0_isWay 10 = .ok (.goto 4, 3) := by decide +kernel
theorem dX0_isWay_13 : decode cX0_isWay 13 = .ok (.iconst 0, 1) := by decide +kernel
theorem dX0_isWay_14 : decode cX0_isWay 14 = .ok (.ireturn, 1) := by decide +kernel
set_option maxRecDepth 20000 in
theorem c_X0_isWay {G : Gl} {d : Nat} {σ : Sg} {s : Int} (hs1 : -2147483648 ≤ s) (hs2 : s < 2147483648) : CT G d yX0_isWay cX0_isWay 1 (some .boolean) [.int (iI s)] σ (R1 (.int (iI (bI (0 ≤ s ∧ s < 4)))) σ) := by
  refine CT.of (by decide +kernel) (Nat.le_of_ble_eq_true rfl) ?_
  change AW G _ RX0 _ _ _ 0 [(0, .int (iI s))] [] _ _
  refine A_iload_n (pc := 0) dX0_isWay_0 rfl rfl ?_
  refine A_if_lt (pc := 1) 13 dX0_isWay_1 (by decide) (by omega) (by omega) (fun h1 => ?_) (fun h1 => ?_)
  · skip
    refine A_iconst (pc := 13) dX0_isWay_13 ?_
    refine A_zret (pc := 14) rfl rfl dX0_isWay_14 ?_
    exact R1_f (by omega)
  · skip
    refine A_iload_n (pc := 4) dX0_isWay_4 rfl rfl ?_
    refine A_iconst (pc := 5) dX0_isWay_5 ?_
    refine A_icmp_ge (pc := 6) 13 dX0_isWay_6 (by decide) (by omega) (by omega) (by omega) (by omega) (fun h6 => ?_) (fun h6 => ?_)
    · skip
      refine A_iconst (pc := 13) dX0_isWay_13 ?_
      refine A_zret (pc := 14) rfl rfl dX0_isWay_14 ?_
      exact R1_f (by omega)
    · skip
      refine A_iconst (pc := 9) dX0_isWay_9 ?_
      refine A_goto (pc := 10) 14 dX0_isWay_10 (by decide) ?_
      refine A_zret (pc := 14) rfl rfl dX0_isWay_14 ?_
      exact R1_t (by omega)
theorem dX0_opposite_0 : decode cX0_opposite 0 = .ok (.iconst 3, 1) := by decide +kernel
theorem dX0_opposite_1 : decode cX0_opposite 1 = .ok (.iload_n 0, 1) := by decide +kernel
theorem dX0_opposite_2 : decode cX0_opposite 2 = .ok (.isub, 1) := by decide +kernel
theorem dX0_opposite_3 : decode cX0_opposite 3 = .ok (.ireturn, 1) := by decide +kernel
set_option maxRecDepth 20000 in
theorem c_X0_opposite {G : Gl} {d : Nat} {σ : Sg} {w : Int} : CT G d yX0_opposite cX0_opposite 1 (some .int) [.int (iI w)] σ (R1 (.int (iI (3 - w))) σ) := by
  refine CT.of (by decide +kernel) (Nat.le_of_ble_eq_true rfl) ?_
  change AW G _ RX0 _ _ _ 0 [(0, .int (iI w))] [] _ _
  refine A_iconst (pc := 0) dX0_opposite_0 ?_
  refine A_iload_n (pc := 1) dX0_opposite_1 rfl rfl ?_
  refine A_isub (pc := 2) dX0_opposite_2 ?_
  refine A_iret (pc := 3) rfl dX0_opposite_3 ?_
  exact ⟨rfl, rfl⟩
theorem dX8_isShelf_0 : decode cX8_isShelf 0 = .ok (.iload_n 0, 1) := by decide +kernel
theorem dX8_isShelf_1 : decode cX8_isShelf 1 = .ok (.ifCond .lt 13, 3) := by decide +kernel
theorem dX8_isShelf_4 : decode cX8_isShelf 4 = .ok (.iload_n 0, 1) := by decide +kernel
theorem dX8_isShelf_5 : decode cX8_isShelf 5 = .ok (.bipush 8, 2) := by decide +kernel
theorem dX8_isShelf_7 : decode cX8_isShelf 7 = .ok (.if_icmp .ge 7, 3) := by decide +kernel
theorem dX8_isShelf_10 : decode cX8_isShelf 10 = .ok (.iconst 1, 1) := by decide +kernel
theorem dX8_isShelf_11 : decode cX8_isShelf 11 = .ok (.goto 4, 3) := by decide +kernel
theorem dX8_isShelf_14 : decode cX8_isShelf 14 = .ok (.iconst 0, 1) := by decide +kernel
theorem dX8_isShelf_15 : decode cX8_isShelf 15 = .ok (.ireturn, 1) := by decide +kernel
set_option maxRecDepth 20000 in
theorem c_X8_isShelf {G : Gl} {d : Nat} {σ : Sg} {s : Int} (hs1 : -2147483648 ≤ s) (hs2 : s < 2147483648) : CT G d yX8_isShelf cX8_isShelf 1 (some .boolean) [.int (iI s)] σ (R1 (.int (iI (bI (0 ≤ s ∧ s < 8)))) σ) := by
  refine CT.of (by decide +kernel) (Nat.le_of_ble_eq_true rfl) ?_
  change AW G _ RX8 _ _ _ 0 [(0, .int (iI s))] [] _ _
  refine A_iload_n (pc := 0) dX8_isShelf_0 rfl rfl ?_
  refine A_if_lt (pc := 1) 14 dX8_isShelf_1 (by decide) (by omega) (by omega) (fun h1 => ?_) (fun h1 => ?_)
  · skip
    refine A_iconst (pc := 14) dX8_isShelf_14 ?_
    refine A_zret (pc := 15) rfl rfl dX8_isShelf_15 ?_
    exact R1_f (by omega)
  · skip
    refine A_iload_n (pc := 4) dX8_isShelf_4 rfl rfl ?_
    refine A_bipush (pc := 5) dX8_isShelf_5 (by decide) ?_
    refine A_icmp_ge (pc := 7) 14 dX8_isShelf_7 (by decide) (by omega) (by omega) (by omega) (by omega) (fun h7 => ?_) (fun h7 => ?_)
    · skip
      refine A_iconst (pc := 14) dX8_isShelf_14 ?_
      refine A_zret (pc := 15) rfl rfl dX8_isShelf_15 ?_
      exact R1_f (by omega)
    · skip
      refine A_iconst (pc := 10) dX8_isShelf_10 ?_
      refine A_goto (pc := 11) 15 dX8_isShelf_11 (by decide) ?_
      refine A_zret (pc := 15) rfl rfl dX8_isShelf_15 ?_
      exact R1_t (by omega)
theorem dX8_isKind_0 : decode cX8_isKind 0 = .ok (.iload_n 0, 1) := by decide +kernel
theorem dX8_isKind_1 : decode cX8_isKind 1 = .ok (.ifCond .lt 13, 3) := by decide +kernel
theorem dX8_isKind_4 : decode cX8_isKind 4 = .ok (.iload_n 0, 1) := by decide +kernel
theorem dX8_isKind_5 : decode cX8_isKind 5 = .ok (.bipush 7, 2) := by decide +kernel
theorem dX8_isKind_7 : decode cX8_isKind 7 = .ok (.if_icmp .ge 7, 3) := by decide +kernel
theorem dX8_isKind_10 : decode cX8_isKind 10 = .ok (.iconst 1, 1) := by decide +kernel
theorem dX8_isKind_11 : decode cX8_isKind 11 = .ok (.goto 4, 3) := by decide +kernel
theorem dX8_isKind_14 : decode cX8_isKind 14 = .ok (.iconst 0, 1) := by decide +kernel
theorem dX8_isKind_15 : decode cX8_isKind 15 = .ok (.ireturn, 1) := by decide +kernel
set_option maxRecDepth 20000 in
theorem c_X8_isKind {G : Gl} {d : Nat} {σ : Sg} {s : Int} (hs1 : -2147483648 ≤ s) (hs2 : s < 2147483648) : CT G d yX8_isKind cX8_isKind 1 (some .boolean) [.int (iI s)] σ (R1 (.int (iI (bI (0 ≤ s ∧ s < 7)))) σ) := by
  refine CT.of (by decide +kernel) (Nat.le_of_ble_eq_true rfl) ?_
  change AW G _ RX8 _ _ _ 0 [(0, .int (iI s))] [] _ _
  refine A_iload_n (pc := 0) dX8_isKind_0 rfl rfl ?_
  refine A_if_lt (pc := 1) 14 dX8_isKind_1 (by decide) (by omega) (by omega) (fun h1 => ?_) (fun h1 => ?_)
  · skip
    refine A_iconst (pc := 14) dX8_isKind_14 ?_
    refine A_zret (pc := 15) rfl rfl dX8_isKind_15 ?_
    exact R1_f (by omega)
  · skip
    refine A_iload_n (pc := 4) dX8_isKind_4 rfl rfl ?_
    refine A_bipush (pc := 5) dX8_isKind_5 (by decide) ?_
    refine A_icmp_ge (pc := 7) 14 dX8_isKind_7 (by decide) (by omega) (by omega) (by omega) (by omega) (fun h7 => ?_) (fun h7 => ?_)
    · skip
      refine A_iconst (pc := 14) dX8_isKind_14 ?_
      refine A_zret (pc := 15) rfl rfl dX8_isKind_15 ?_
      exact R1_f (by omega)
    · skip
      refine A_iconst (pc := 10) dX8_isKind_10 ?_
      refine A_goto (pc := 11) 15 dX8_isKind_11 (by decide) ?_
      refine A_zret (pc := 15) rfl rfl dX8_isKind_15 ?_
      exact R1_t (by omega)
theorem dX8_isReach_0 : decode cX8_isReach 0 = .ok (.iload_n 0, 1) := by decide +kernel
theorem dX8_isReach_1 : decode cX8_isReach 1 = .ok (.iconst 1, 1) := by decide +kernel
theorem dX8_isReach_2 : decode cX8_isReach 2 = .ok (.if_icmp .lt 13, 3) := by decide +kernel
theorem dX8_isReach_5 : decode cX8_isReach 5 = .ok (.iload_n 0, 1) := by decide +kernel
theorem dX8_isReach_6 : decode cX8_isReach 6 = .ok (.bipush 6, 2) := by decide +kernel
theorem dX8_isReach_8 : decode cX8_isReach 8 = .ok (.if_icmp .gt 7, 3) := by decide +kernel
theorem dX8_isReach_11 : decode cX8_isReach 11 = .ok (.iconst 1, 1) := by decide +kernel
theorem dX8_isReach_12 : decode cX8_isReach 12 = .ok (.goto 4, 3) := by decide +kernel
theorem dX8_isReach_15 : decode cX8_isReach 15 = .ok (.iconst 0, 1) := by decide +kernel
theorem dX8_isReach_16 : decode cX8_isReach 16 = .ok (.ireturn, 1) := by decide +kernel
set_option maxRecDepth 20000 in
theorem c_X8_isReach {G : Gl} {d : Nat} {σ : Sg} {s : Int} (hs1 : -2147483648 ≤ s) (hs2 : s < 2147483648) : CT G d yX8_isReach cX8_isReach 1 (some .boolean) [.int (iI s)] σ (R1 (.int (iI (bI (1 ≤ s ∧ s ≤ 6)))) σ) := by
  refine CT.of (by decide +kernel) (Nat.le_of_ble_eq_true rfl) ?_
  change AW G _ RX8 _ _ _ 0 [(0, .int (iI s))] [] _ _
  refine A_iload_n (pc := 0) dX8_isReach_0 rfl rfl ?_
  refine A_iconst (pc := 1) dX8_isReach_1 ?_
  refine A_icmp_lt (pc := 2) 15 dX8_isReach_2 (by decide) (by omega) (by omega) (by omega) (by omega) (fun h2 => ?_) (fun h2 => ?_)
  · skip
    refine A_iconst (pc := 15) dX8_isReach_15 ?_
    refine A_zret (pc := 16) rfl rfl dX8_isReach_16 ?_
    exact R1_f (by omega)
  · skip
    refine A_iload_n (pc := 5) dX8_isReach_5 rfl rfl ?_
    refine A_bipush (pc := 6) dX8_isReach_6 (by decide) ?_
    refine A_icmp_gt (pc := 8) 15 dX8_isReach_8 (by decide) (by omega) (by omega) (by omega) (by omega) (fun h8 => ?_) (fun h8 => ?_)
    · skip
      refine A_iconst (pc := 15) dX8_isReach_15 ?_
      refine A_zret (pc := 16) rfl rfl dX8_isReach_16 ?_
      exact R1_f (by omega)
    · skip
      refine A_iconst (pc := 11) dX8_isReach_11 ?_
      refine A_goto (pc := 12) 16 dX8_isReach_12 (by decide) ?_
      refine A_zret (pc := 16) rfl rfl dX8_isReach_16 ?_
      exact R1_t (by omega)
theorem dX3_isSort_0 : decode cX3_isSort 0 = .ok (.iload_n 0, 1) := by decide +kernel
theorem dX3_isSort_1 : decode cX3_isSort 1 = .ok (.ifCond .lt 12, 3) := by decide +kernel
theorem dX3_isSort_4 : decode cX3_isSort 4 = .ok (.iload_n 0, 1) := by decide +kernel
theorem dX3_isSort_5 : decode cX3_isSort 5 = .ok (.iconst 3, 1) := by decide +kernel
theorem dX3_isSort_6 : decode cX3_isSort 6 = .ok (.if_icmp .gt 7, 3) := by decide +kernel
theorem dX3_isSort_9 : decode cX3_isSort 9 = .ok (.iconst 1, 1) := by decide +kernel
theorem dX3_isSort_10 : decode cX3_isSort 10 = .ok (.goto 4, 3) := by decide +kernel
theorem dX3_isSort_13 : decode cX3_isSort 13 = .ok (.iconst 0, 1) := by decide +kernel
theorem dX3_isSort_14 : decode cX3_isSort 14 = .ok (.ireturn, 1) := by decide +kernel
set_option maxRecDepth 20000 in
theorem c_X3_isSort {G : Gl} {d : Nat} {σ : Sg} {s : Int} (hs1 : -2147483648 ≤ s) (hs2 : s < 2147483648) : CT G d yX3_isSort cX3_isSort 1 (some .boolean) [.int (iI s)] σ (R1 (.int (iI (bI (0 ≤ s ∧ s ≤ 3)))) σ) := by
  refine CT.of (by decide +kernel) (Nat.le_of_ble_eq_true rfl) ?_
  change AW G _ RX3 _ _ _ 0 [(0, .int (iI s))] [] _ _
  refine A_iload_n (pc := 0) dX3_isSort_0 rfl rfl ?_
  refine A_if_lt (pc := 1) 13 dX3_isSort_1 (by decide) (by omega) (by omega) (fun h1 => ?_) (fun h1 => ?_)
  · skip
    refine A_iconst (pc := 13) dX3_isSort_13 ?_
    refine A_zret (pc := 14) rfl rfl dX3_isSort_14 ?_
    exact R1_f (by omega)
  · skip
    refine A_iload_n (pc := 4) dX3_isSort_4 rfl rfl ?_
    refine A_iconst (pc := 5) dX3_isSort_5 ?_
    refine A_icmp_gt (pc := 6) 13 dX3_isSort_6 (by decide) (by omega) (by omega) (by omega) (by omega) (fun h6 => ?_) (fun h6 => ?_)
    · skip
      refine A_iconst (pc := 13) dX3_isSort_13 ?_
      refine A_zret (pc := 14) rfl rfl dX3_isSort_14 ?_
      exact R1_f (by omega)
    · skip
      refine A_iconst (pc := 9) dX3_isSort_9 ?_
      refine A_goto (pc := 10) 14 dX3_isSort_10 (by decide) ?_
      refine A_zret (pc := 14) rfl rfl dX3_isSort_14 ?_
      exact R1_t (by omega)
theorem dX1_isMove_0 : decode cX1_isMove 0 = .ok (.iload_n 0, 1) := by decide +kernel
theorem dX1_isMove_1 : decode cX1_isMove 1 = .ok (.ifCond .lt 12, 3) := by decide +kernel
theorem dX1_isMove_4 : decode cX1_isMove 4 = .ok (.iload_n 0, 1) := by decide +kernel
theorem dX1_isMove_5 : decode cX1_isMove 5 = .ok (.iconst 3, 1) := by decide +kernel
theorem dX1_isMove_6 : decode cX1_isMove 6 = .ok (.if_icmp .ge 7, 3) := by decide +kernel
theorem dX1_isMove_9 : decode cX1_isMove 9 = .ok (.iconst 1, 1) := by decide +kernel
theorem dX1_isMove_10 : decode cX1_isMove 10 = .ok (.goto 4, 3) := by decide +kernel
theorem dX1_isMove_13 : decode cX1_isMove 13 = .ok (.iconst 0, 1) := by decide +kernel
theorem dX1_isMove_14 : decode cX1_isMove 14 = .ok (.ireturn, 1) := by decide +kernel
set_option maxRecDepth 20000 in
theorem c_X1_isMove {G : Gl} {d : Nat} {σ : Sg} {s : Int} (hs1 : -2147483648 ≤ s) (hs2 : s < 2147483648) : CT G d yX1_isMove cX1_isMove 1 (some .boolean) [.int (iI s)] σ (R1 (.int (iI (bI (0 ≤ s ∧ s < 3)))) σ) := by
  refine CT.of (by decide +kernel) (Nat.le_of_ble_eq_true rfl) ?_
  change AW G _ RX1 _ _ _ 0 [(0, .int (iI s))] [] _ _
  refine A_iload_n (pc := 0) dX1_isMove_0 rfl rfl ?_
  refine A_if_lt (pc := 1) 13 dX1_isMove_1 (by decide) (by omega) (by omega) (fun h1 => ?_) (fun h1 => ?_)
  · skip
    refine A_iconst (pc := 13) dX1_isMove_13 ?_
    refine A_zret (pc := 14) rfl rfl dX1_isMove_14 ?_
    exact R1_f (by omega)
  · skip
    refine A_iload_n (pc := 4) dX1_isMove_4 rfl rfl ?_
    refine A_iconst (pc := 5) dX1_isMove_5 ?_
    refine A_icmp_ge (pc := 6) 13 dX1_isMove_6 (by decide) (by omega) (by omega) (by omega) (by omega) (fun h6 => ?_) (fun h6 => ?_)
    · skip
      refine A_iconst (pc := 13) dX1_isMove_13 ?_
      refine A_zret (pc := 14) rfl rfl dX1_isMove_14 ?_
      exact R1_f (by omega)
    · skip
      refine A_iconst (pc := 9) dX1_isMove_9 ?_
      refine A_goto (pc := 10) 14 dX1_isMove_10 (by decide) ?_
      refine A_zret (pc := 14) rfl rfl dX1_isMove_14 ?_
      exact R1_t (by omega)
theorem dX9_within_0 : decode cX9_within 0 = .ok (.iload_n 0, 1) := by decide +kernel
theorem dX9_within_1 : decode cX9_within 1 = .ok (.iload_n 1, 1) := by decide +kernel
theorem dX9_within_2 : decode cX9_within 2 = .ok (.if_icmp .lt 12, 3) := by decide +kernel
theorem dX9_within_5 : decode cX9_within 5 = .ok (.iload_n 0, 1) := by decide +kernel
theorem dX9_within_6 : decode cX9_within 6 = .ok (.iload_n 2, 1) := by decide +kernel
theorem dX9_within_7 : decode cX9_within 7 = .ok (.if_icmp .gt 7, 3) := by decide +kernel
theorem dX9_within_10 : decode cX9_within 10 = .ok (.iconst 1, 1) := by decide +kernel
theorem dX9_within_11 : decode cX9_within 11 = .ok (.goto 4, 3) := by decide +kernel
theorem dX9_within_14 : decode cX9_within 14 = .ok (.iconst 0, 1) := by decide +kernel
theorem dX9_within_15 : decode cX9_within 15 = .ok (.ireturn, 1) := by decide +kernel
set_option maxRecDepth 20000 in
theorem c_X9_within {G : Gl} {d : Nat} {σ : Sg} {v : Int} (hv1 : -2147483648 ≤ v) (hv2 : v < 2147483648) {a : Int} (ha1 : -2147483648 ≤ a) (ha2 : a < 2147483648) {b : Int} (hb1 : -2147483648 ≤ b) (hb2 : b < 2147483648) : CT G d yX9_within cX9_within 3 (some .boolean) [.int (iI v), .int (iI a), .int (iI b)] σ (R1 (.int (iI (bI (a ≤ v ∧ v ≤ b)))) σ) := by
  refine CT.of (by decide +kernel) (Nat.le_of_ble_eq_true rfl) ?_
  change AW G _ RX9 _ _ _ 0 [(0, .int (iI v)), (1, .int (iI a)), (2, .int (iI b))] [] _ _
  refine A_iload_n (pc := 0) dX9_within_0 rfl rfl ?_
  refine A_iload_n (pc := 1) dX9_within_1 rfl rfl ?_
  refine A_icmp_lt (pc := 2) 14 dX9_within_2 (by decide) (by omega) (by omega) (by omega) (by omega) (fun h2 => ?_) (fun h2 => ?_)
  · skip
    refine A_iconst (pc := 14) dX9_within_14 ?_
    refine A_zret (pc := 15) rfl rfl dX9_within_15 ?_
    exact R1_f (by omega)
  · skip
    refine A_iload_n (pc := 5) dX9_within_5 rfl rfl ?_
    refine A_iload_n (pc := 6) dX9_within_6 rfl rfl ?_
    refine A_icmp_gt (pc := 7) 14 dX9_within_7 (by decide) (by omega) (by omega) (by omega) (by omega) (fun h7 => ?_) (fun h7 => ?_)
    · skip
      refine A_iconst (pc := 14) dX9_within_14 ?_
      refine A_zret (pc := 15) rfl rfl dX9_within_15 ?_
      exact R1_f (by omega)
    · skip
      refine A_iconst (pc := 10) dX9_within_10 ?_
      refine A_goto (pc := 11) 15 dX9_within_11 (by decide) ?_
      refine A_zret (pc := 15) rfl rfl dX9_within_15 ?_
      exact R1_t (by omega)
