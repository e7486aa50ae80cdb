/-! PART 08: WindowsLookedOut$Grid -/
theorem dX0_has_0 : decode cX0_has 0 = .ok (.iload_n 2, 1) := by decide +kernel
theorem dX0_has_1 : decode cX0_has 1 = .ok (.ifCond .lt 23, 3) := by decide +kernel
theorem dX0_has_4 : decode cX0_has 4 = .ok (.iload_n 2, 1) := by decide +kernel
theorem dX0_has_5 : decode cX0_has 5 = .ok (.bipush 49, 2) := by decide +kernel
theorem dX0_has_7 : decode cX0_has 7 = .ok (.if_icmp .ge 17, 3) := by decide +kernel
theorem dX0_has_10 : decode cX0_has 10 = .ok (.lload_n 0, 1) := by decide +kernel
theorem dX0_has_11 : decode cX0_has 11 = .ok (.iload_n 2, 1) := by decide +kernel
theorem dX0_has_12 : decode cX0_has 12 = .ok (.lushr, 1) := by decide +kernel
theorem dX0_has_13 : decode cX0_has 13 = .ok (.lconst 1, 1) := by decide +kernel
theorem dX0_has_14 : decode cX0_has 14 = .ok (.land, 1) := by decide +kernel
theorem dX0_has_15 : decode cX0_has 15 = .ok (.lconst 0, 1) := by decide +kernel
theorem dX0_has_16 : decode cX0_has 16 = .ok (.lcmp, 1) := by decide +kernel
theorem dX0_has_17 : decode cX0_has 17 = .ok (.ifCond .eq 7, 3) := by decide +kernel
theorem dX0_has_20 : decode cX0_has 20 = .ok (.iconst 1, 1) := by decide +kernel
theorem dX0_has_21 : decode cX0_has 21 = .ok (.goto 4, 3) := by decide +kernel
theorem dX0_has_24 : decode cX0_has 24 = .ok (.iconst 0, 1) := by decide +kernel
theorem dX0_has_25 : decode cX0_has 25 = .ok (.ireturn, 1) := by decide +kernel
set_option maxRecDepth 20000 in
theorem c_X0_has {G : Gl} {d : Nat} {σ : Sg} {h : Nat} (hh : h < 2 ^ 49) {s : Int} (hs1 : -2147483648 ≤ s) (hs2 : s < 2147483648) : CT G d yX0_has cX0_has 3 (some .boolean) [.long (lN h), .int (iI s)] σ (R1 (.int (iI (bI (sT h s)))) σ) := by
  refine CT.of (by decide +kernel) (Nat.le_of_ble_eq_true rfl) ?_
  change AW G _ RX0 _ _ _ 0 [(0, .long (lN h)), (2, .int (iI s))] [] _ _
  refine A_iload_n (pc := 0) dX0_has_0 rfl rfl ?_
  refine A_if_lt (pc := 1) 24 dX0_has_1 (by decide) (by omega) (by omega) (fun h1 => ?_) (fun h1 => ?_)
  · skip
    refine A_iconst (pc := 24) dX0_has_24 ?_
    refine A_zret (pc := 25) rfl rfl dX0_has_25 ?_
    exact R1_f (by omega)
  · skip
    refine A_iload_n (pc := 4) dX0_has_4 rfl rfl ?_
    refine A_bipush (pc := 5) dX0_has_5 (by decide) ?_
    refine A_icmp_ge (pc := 7) 24 dX0_has_7 (by decide) (by omega) (by omega) (by omega) (by omega) (fun h7 => ?_) (fun h7 => ?_)
    · skip
      refine A_iconst (pc := 24) dX0_has_24 ?_
      refine A_zret (pc := 25) rfl rfl dX0_has_25 ?_
      exact R1_f (by omega)
    · skip
      refine A_lload_n (pc := 10) dX0_has_10 rfl rfl ?_
      refine A_iload_n (pc := 11) dX0_has_11 rfl rfl ?_
      obtain ⟨k, rfl⟩ := Int.eq_ofNat_of_zero_le (show 0 ≤ s by omega)
      refine A_lushr (pc := 12) (lN (h / 2 ^ k)) dX0_has_12 (shr_L hh (by omega)) ?_
      refine A_lconst (pc := 13) 1 dX0_has_13 rfl ?_
      refine A_land (pc := 14) dX0_has_14 ?_
      refine A_lconst (pc := 15) 0 dX0_has_15 rfl ?_
      refine A_lcmp (pc := 16) dX0_has_16 ?_
      rw [lcm_bit hh]
      refine A_ifb_eq (pc := 17) 24 dX0_has_17 (by decide) (fun h17 => ?_) (fun h17 => ?_)
      · skip
        refine A_iconst (pc := 24) dX0_has_24 ?_
        refine A_zret (pc := 25) rfl rfl dX0_has_25 ?_
        exact R1_f (fun q => h17 q.2.2)
      · skip
        refine A_iconst (pc := 20) dX0_has_20 ?_
        refine A_goto (pc := 21) 25 dX0_has_21 (by decide) ?_
        refine A_zret (pc := 25) rfl rfl dX0_has_25 ?_
        exact R1_t ⟨by omega, by omega, h17⟩
theorem dX0_with_0 : decode cX0_with 0 = .ok (.iload_n 2, 1) := by decide +kernel
theorem dX0_with_1 : decode cX0_with 1 = .ok (.ifCond .lt 17, 3) := by decide +kernel
theorem dX0_with_4 : decode cX0_with 4 = .ok (.iload_n 2, 1) := by decide +kernel
theorem dX0_with_5 : decode cX0_with 5 = .ok (.bipush 49, 2) := by decide +kernel
theorem dX0_with_7 : decode cX0_with 7 = .ok (.if_icmp .ge 11, 3) := by decide +kernel
theorem dX0_with_10 : decode cX0_with 10 = .ok (.lload_n 0, 1) := by decide +kernel
theorem dX0_with_11 : decode cX0_with 11 = .ok (.lconst 1, 1) := by decide +kernel
theorem dX0_with_12 : decode cX0_with 12 = .ok (.iload_n 2, 1) := by decide +kernel
theorem dX0_with_13 : decode cX0_with 13 = .ok (.lshl, 1) := by decide +kernel
theorem dX0_with_14 : decode cX0_with 14 = .ok (.lor, 1) := by decide +kernel
theorem dX0_with_15 : decode cX0_with 15 = .ok (.goto 4, 3) := by decide +kernel
theorem dX0_with_18 : decode cX0_with 18 = .ok (.lload_n 0, 1) := by decide +kernel
theorem dX0_with_19 : decode cX0_with 19 = .ok (.lreturn, 1) := by decide +kernel
set_option maxRecDepth 20000 in
theorem c_X0_with {G : Gl} {d : Nat} {σ : Sg} {h : Nat} (hh : h < 2 ^ 49) {s : Int} (hs1 : -2147483648 ≤ s) (hs2 : s < 2147483648) : CT G d yX0_with cX0_with 3 (some .long) [.long (lN h), .int (iI s)] σ (R1 (.long (lN (h ||| sqB s))) σ) := by
  refine CT.of (by decide +kernel) (Nat.le_of_ble_eq_true rfl) ?_
  change AW G _ RX0 _ _ _ 0 [(0, .long (lN h)), (2, .int (iI s))] [] _ _
  refine A_iload_n (pc := 0) dX0_with_0 rfl rfl ?_
  refine A_if_lt (pc := 1) 18 dX0_with_1 (by decide) (by omega) (by omega) (fun h1 => ?_) (fun h1 => ?_)
  · skip
    refine A_lload_n (pc := 18) dX0_with_18 rfl rfl ?_
    refine A_lret (pc := 19) rfl dX0_with_19 ?_
    exact ⟨by rw [sqB, if_neg (by omega), Nat.or_zero], rfl⟩
  · skip
    refine A_iload_n (pc := 4) dX0_with_4 rfl rfl ?_
    refine A_bipush (pc := 5) dX0_with_5 (by decide) ?_
    refine A_icmp_ge (pc := 7) 18 dX0_with_7 (by decide) (by omega) (by omega) (by omega) (by omega) (fun h7 => ?_) (fun h7 => ?_)
    · skip
      refine A_lload_n (pc := 18) dX0_with_18 rfl rfl ?_
      refine A_lret (pc := 19) rfl dX0_with_19 ?_
      exact ⟨by rw [sqB, if_neg (by omega), Nat.or_zero], rfl⟩
    · skip
      refine A_lload_n (pc := 10) dX0_with_10 rfl rfl ?_
      refine A_lconst (pc := 11) 1 dX0_with_11 rfl ?_
      refine A_iload_n (pc := 12) dX0_with_12 rfl rfl ?_
      obtain ⟨k, rfl⟩ := Int.eq_ofNat_of_zero_le (show 0 ≤ s by omega)
      refine A_lshl (pc := 13) (lN (2 ^ k)) dX0_with_13 (shl_L (by omega)) ?_
      refine A_lor (pc := 14) dX0_with_14 ?_
      refine A_goto (pc := 15) 19 dX0_with_15 (by decide) ?_
      refine A_lret (pc := 19) rfl dX0_with_19 ?_
      exact ⟨by rw [or_L hh (Nat.pow_lt_pow_right (by decide) (by omega)), sqB, if_pos (by omega)]; rfl, rfl⟩
theorem dX0_without_0 : decode cX0_without 0 = .ok (.iload_n 2, 1) := by decide +kernel
theorem dX0_without_1 : decode cX0_without 1 = .ok (.ifCond .lt 21, 3) := by decide +kernel
theorem dX0_without_4 : decode cX0_without 4 = .ok (.iload_n 2, 1) := by decide +kernel
theorem dX0_without_5 : decode cX0_without 5 = .ok (.bipush 49, 2) := by decide +kernel
theorem dX0_without_7 : decode cX0_without 7 = .ok (.if_icmp .ge 15, 3) := by decide +kernel
theorem dX0_without_10 : decode cX0_without 10 = .ok (.lload_n 0, 1) := by decide +kernel
theorem dX0_without_11 : decode cX0_without 11 = .ok (.lconst 1, 1) := by decide +kernel
theorem dX0_without_12 : decode cX0_without 12 = .ok (.iload_n 2, 1) := by decide +kernel
theorem dX0_without_13 : decode cX0_without 13 = .ok (.lshl, 1) := by decide +kernel
theorem dX0_without_14 : decode cX0_without 14 = .ok (.ldc2_w 9, 3) := by decide +kernel
theorem dX0_without_17 : decode cX0_without 17 = .ok (.lxor, 1) := by decide +kernel
theorem dX0_without_18 : decode cX0_without 18 = .ok (.land, 1) := by decide +kernel
theorem dX0_without_19 : decode cX0_without 19 = .ok (.goto 4, 3) := by decide +kernel
theorem dX0_without_22 : decode cX0_without 22 = .ok (.lload_n 0, 1) := by decide +kernel
theorem dX0_without_23 : decode cX0_without 23 = .ok (.lreturn, 1) := by decide +kernel
set_option maxRecDepth 20000 in
theorem c_X0_without {G : Gl} {d : Nat} {σ : Sg} {h : Nat} (hh : h < 2 ^ 49) {s : Int} (hs1 : -2147483648 ≤ s) (hs2 : s < 2147483648) : CT G d yX0_without cX0_without 3 (some .long) [.long (lN h), .int (iI s)] σ (R1 (.long (lN (nB h (sqB s)))) σ) := by
  refine CT.of (by decide +kernel) (Nat.le_of_ble_eq_true rfl) ?_
  change AW G _ RX0 _ _ _ 0 [(0, .long (lN h)), (2, .int (iI s))] [] _ _
  refine A_iload_n (pc := 0) dX0_without_0 rfl rfl ?_
  refine A_if_lt (pc := 1) 22 dX0_without_1 (by decide) (by omega) (by omega) (fun h1 => ?_) (fun h1 => ?_)
  · skip
    refine A_lload_n (pc := 22) dX0_without_22 rfl rfl ?_
    refine A_lret (pc := 23) rfl dX0_without_23 ?_
    exact ⟨by rw [sqB, if_neg (by omega)]; simp [nB], rfl⟩
  · skip
    refine A_iload_n (pc := 4) dX0_without_4 rfl rfl ?_
    refine A_bipush (pc := 5) dX0_without_5 (by decide) ?_
    refine A_icmp_ge (pc := 7) 22 dX0_without_7 (by decide) (by omega) (by omega) (by omega) (by omega) (fun h7 => ?_) (fun h7 => ?_)
    · skip
      refine A_lload_n (pc := 22) dX0_without_22 rfl rfl ?_
      refine A_lret (pc := 23) rfl dX0_without_23 ?_
      exact ⟨by rw [sqB, if_neg (by omega)]; simp [nB], rfl⟩
    · skip
      refine A_lload_n (pc := 10) dX0_without_10 rfl rfl ?_
      refine A_lconst (pc := 11) 1 dX0_without_11 rfl ?_
      refine A_iload_n (pc := 12) dX0_without_12 rfl rfl ?_
      obtain ⟨k, rfl⟩ := Int.eq_ofNat_of_zero_le (show 0 ≤ s by omega)
      refine A_lshl (pc := 13) (lN (2 ^ k)) dX0_without_13 (shl_L (by omega)) ?_
      refine A_ldc2 (pc := 14) nX0_9 dX0_without_14 ?_
      refine A_lxor (pc := 17) dX0_without_17 ?_
      refine A_land (pc := 18) dX0_without_18 ?_
      refine A_goto (pc := 19) 23 dX0_without_19 (by decide) ?_
      refine A_lret (pc := 23) rfl dX0_without_23 ?_
      exact ⟨by rw [andn_L hh (Nat.pow_lt_pow_right (by decide) (by omega)), sqB, if_pos (by omega)]; rfl, rfl⟩
theorem dX0_beside_0 : decode cX0_beside 0 = .ok (.iload_n 0, 1) := by decide +kernel
theorem dX0_beside_1 : decode cX0_beside 1 = .ok (.ifCond .lt 9, 3) := by decide +kernel
theorem dX0_beside_4 : decode cX0_beside 4 = .ok (.iload_n 0, 1) := by decide +kernel
theorem dX0_beside_5 : decode cX0_beside 5 = .ok (.bipush 49, 2) := by decide +kernel
theorem dX0_beside_7 : decode cX0_beside 7 = .ok (.if_icmp .lt 5, 3) := by decide +kernel
theorem dX0_beside_10 : decode cX0_beside 10 = .ok (.iconst (-1), 1) := by decide +kernel
theorem dX0_beside_11 : decode cX0_beside 11 = .ok (.ireturn, 1) := by decide +kernel
theorem dX0_beside_12 : decode cX0_beside 12 = .ok (.iload_n 1, 1) := by decide +kernel
theorem dX0_beside_13 : decode cX0_beside 13 = .ok (.tableswitch 93 0 3 #[31, 46, 61, 78], 31) := by decide +kernel
theorem dX0_beside_44 : decode cX0_beside 44 = .ok (.iload_n 0, 1) := by decide +kernel
theorem dX0_beside_45 : decode cX0_beside 45 = .ok (.bipush 7, 2) := by decide +kernel
theorem dX0_beside_47 : decode cX0_beside 47 = .ok (.if_icmp .lt 10, 3) := by decide +kernel
theorem dX0_beside_50 : decode cX0_beside 50 = .ok (.iload_n 0, 1) := by decide +kernel
theorem dX0_beside_51 : decode cX0_beside 51 = .ok (.bipush 7, 2) := by decide +kernel
theorem dX0_beside_53 : decode cX0_beside 53 = .ok (.isub, 1) := by decide +kernel
theorem dX0_beside_54 : decode cX0_beside 54 = .ok (.goto 4, 3) := by decide +kernel
theorem dX0_beside_57 : decode cX0_beside 57 = .ok (.iconst (-1), 1) := by decide +kernel
theorem dX0_beside_58 : decode cX0_beside 58 = .ok (.ireturn, 1) := by decide +kernel
theorem dX0_beside_59 : decode cX0_beside 59 = .ok (.iload_n 0, 1) := by decide +kernel
theorem dX0_beside_60 : decode cX0_beside 60 = .ok (.bipush 7, 2) := by decide +kernel
theorem dX0_beside_62 : decode cX0_beside 62 = .ok (.irem, 1) := by decide +kernel
theorem dX0_beside_63 : decode cX0_beside 63 = .ok (.ifCond .le 9, 3) := by decide +kernel
theorem dX0_beside_66 : decode cX0_beside 66 = .ok (.iload_n 0, 1) := by decide +kernel
theorem dX0_beside_67 : decode cX0_beside 67 = .ok (.iconst 1, 1) := by decide +kernel
theorem dX0_beside_68 : decode cX0_beside 68 = .ok (.isub, 1) := by decide +kernel
theorem dX0_beside_69 : decode cX0_beside 69 = .ok (.goto 4, 3) := by decide +kernel
theorem dX0_beside_72 : decode cX0_beside 72 = .ok (.iconst (-1), 1) := by decide +kernel
theorem dX0_beside_73 : decode cX0_beside 73 = .ok (.ireturn, 1) := by decide +kernel
theorem dX0_beside_74 : decode cX0_beside 74 = .ok (.iload_n 0, 1) := by decide +kernel
theorem dX0_beside_75 : decode cX0_beside 75 = .ok (.bipush 7, 2) := by decide +kernel
theorem dX0_beside_77 : decode cX0_beside 77 = .ok (.irem, 1) := by decide +kernel
theorem dX0_beside_78 : decode cX0_beside 78 = .ok (.bipush 6, 2) := by decide +kernel
theorem dX0_beside_80 : decode cX0_beside 80 = .ok (.if_icmp .ge 9, 3) := by decide +kernel
theorem dX0_beside_83 : decode cX0_beside 83 = .ok (.iload_n 0, 1) := by decide +kernel
theorem dX0_beside_84 : decode cX0_beside 84 = .ok (.iconst 1, 1) := by decide +kernel
theorem dX0_beside_85 : decode cX0_beside 85 = .ok (.iadd, 1) := by decide +kernel
theorem dX0_beside_86 : decode cX0_beside 86 = .ok (.goto 4, 3) := by decide +kernel
theorem dX0_beside_89 : decode cX0_beside 89 = .ok (.iconst (-1), 1) := by decide +kernel
theorem dX0_beside_90 : decode cX0_beside 90 = .ok (.ireturn, 1) := by decide +kernel
theorem dX0_beside_91 : decode cX0_beside 91 = .ok (.iload_n 0, 1) := by decide +kernel
theorem dX0_beside_92 : decode cX0_beside 92 = .ok (.bipush 42, 2) := by decide +kernel
theorem dX0_beside_94 : decode cX0_beside 94 = .ok (.if_icmp .ge 10, 3) := by decide +kernel
theorem dX0_beside_97 : decode cX0_beside 97 = .ok (.iload_n 0, 1) := by decide +kernel
theorem dX0_beside_98 : decode cX0_beside 98 = .ok (.bipush 7, 2) := by decide +kernel
theorem dX0_beside_100 : decode cX0_beside 100 = .ok (.iadd, 1) := by decide +kernel
theorem dX0_beside_101 : decode cX0_beside 101 = .ok (.goto 4, 3) := by decide +kernel
theorem dX0_beside_104 : decode cX0_beside 104 = .ok (.iconst (-1), 1) := by decide +kernel
theorem dX0_beside_105 : decode cX0_beside 105 = .ok (.ireturn, 1) := by decide +kernel
theorem dX0_beside_106 : decode cX0_beside 106 = .ok (.iconst (-1), 1) := by decide +kernel
theorem dX0_beside_107 : decode cX0_beside 107 = .ok (.ireturn, 1) := by decide +kernel
set_option maxRecDepth 20000 in
theorem c_X0_beside {G : Gl} {d : Nat} {σ : Sg} {c : Int} (hc1 : -2147483648 ≤ c) (hc2 : c < 2147483648) {w : Int} (hw1 : -2147483648 ≤ w) (hw2 : w < 2147483648) : CT G d yX0_beside cX0_beside 2 (some .int) [.int (iI c), .int (iI w)] σ (R1 (.int (iI (bes c w))) σ) := by
  refine CT.of (by decide +kernel) (Nat.le_of_ble_eq_true rfl) ?_
  change AW G _ RX0 _ _ _ 0 [(0, .int (iI c)), (1, .int (iI w))] [] _ _
  refine A_iload_n (pc := 0) dX0_beside_0 rfl rfl ?_
  refine A_if_lt (pc := 1) 10 dX0_beside_1 (by decide) (by omega) (by omega) (fun h1 => ?_) (fun h1 => ?_)
  · skip
    refine A_iconst (pc := 10) dX0_beside_10 ?_
    refine A_iret (pc := 11) rfl dX0_beside_11 ?_
    exact R1_e (by unfold bes; (repeat' split) <;> omega)
  · skip
    refine A_iload_n (pc := 4) dX0_beside_4 rfl rfl ?_
    refine A_bipush (pc := 5) dX0_beside_5 (by decide) ?_
    refine A_icmp_lt (pc := 7) 12 dX0_beside_7 (by decide) (by omega) (by omega) (by omega) (by omega) (fun h7 => ?_) (fun h7 => ?_)
    · skip
      refine A_iload_n (pc := 12) dX0_beside_12 rfl rfl ?_
      refine A_tsw (pc := 13) [(0, 44), (1, 59), (2, 74), (3, 91)] 106 dX0_beside_13 (by decide) (by decide) (by decide) (by omega) (by omega) ?_
      refine ⟨fun h13 => ?_, fun h13n0 => ?_⟩
      · skip
        refine A_iload_n (pc := 44) dX0_beside_44 rfl rfl ?_
        refine A_bipush (pc := 45) dX0_beside_45 (by decide) ?_
        refine A_icmp_lt (pc := 47) 57 dX0_beside_47 (by decide) (by omega) (by omega) (by omega) (by omega) (fun h47 => ?_) (fun h47 => ?_)
        · skip
          refine A_iconst (pc := 57) dX0_beside_57 ?_
          refine A_iret (pc := 58) rfl dX0_beside_58 ?_
          exact R1_e (by unfold bes; (repeat' split) <;> omega)
        · skip
          refine A_iload_n (pc := 50) dX0_beside_50 rfl rfl ?_
          refine A_bipush (pc := 51) dX0_beside_51 (by decide) ?_
          refine A_isub (pc := 53) dX0_beside_53 ?_
          refine A_goto (pc := 54) 58 dX0_beside_54 (by decide) ?_
          refine A_iret (pc := 58) rfl dX0_beside_58 ?_
          exact R1_e (by unfold bes; (repeat' split) <;> omega)
      refine ⟨fun h13 => ?_, fun h13n1 => ?_⟩
      · skip
        refine A_iload_n (pc := 59) dX0_beside_59 rfl rfl ?_
        refine A_bipush (pc := 60) dX0_beside_60 (by decide) ?_
        refine A_irem (pc := 62) dX0_beside_62 (by omega) (by omega) (by omega) (by omega) ?_
        refine A_if_le (pc := 63) 72 dX0_beside_63 (by decide) (by omega) (by omega) (fun h63 => ?_) (fun h63 => ?_)
        · skip
          refine A_iconst (pc := 72) dX0_beside_72 ?_
          refine A_iret (pc := 73) rfl dX0_beside_73 ?_
          exact R1_e (by unfold bes; (repeat' split) <;> omega)
        · skip
          refine A_iload_n (pc := 66) dX0_beside_66 rfl rfl ?_
          refine A_iconst (pc := 67) dX0_beside_67 ?_
          refine A_isub (pc := 68) dX0_beside_68 ?_
          refine A_goto (pc := 69) 73 dX0_beside_69 (by decide) ?_
          refine A_iret (pc := 73) rfl dX0_beside_73 ?_
          exact R1_e (by unfold bes; (repeat' split) <;> omega)
      refine ⟨fun h13 => ?_, fun h13n2 => ?_⟩
      · skip
        refine A_iload_n (pc := 74) dX0_beside_74 rfl rfl ?_
        refine A_bipush (pc := 75) dX0_beside_75 (by decide) ?_
        refine A_irem (pc := 77) dX0_beside_77 (by omega) (by omega) (by omega) (by omega) ?_
        refine A_bipush (pc := 78) dX0_beside_78 (by decide) ?_
        refine A_icmp_ge (pc := 80) 89 dX0_beside_80 (by decide) (by omega) (by omega) (by omega) (by omega) (fun h80 => ?_) (fun h80 => ?_)
        · skip
          refine A_iconst (pc := 89) dX0_beside_89 ?_
          refine A_iret (pc := 90) rfl dX0_beside_90 ?_
          exact R1_e (by unfold bes; (repeat' split) <;> omega)
        · skip
          refine A_iload_n (pc := 83) dX0_beside_83 rfl rfl ?_
          refine A_iconst (pc := 84) dX0_beside_84 ?_
          refine A_iadd (pc := 85) dX0_beside_85 ?_
          refine A_goto (pc := 86) 90 dX0_beside_86 (by decide) ?_
          refine A_iret (pc := 90) rfl dX0_beside_90 ?_
          exact R1_e (by unfold bes; (repeat' split) <;> omega)
      refine ⟨fun h13 => ?_, fun h13n3 => ?_⟩
      · skip
        refine A_iload_n (pc := 91) dX0_beside_91 rfl rfl ?_
        refine A_bipush (pc := 92) dX0_beside_92 (by decide) ?_
        refine A_icmp_ge (pc := 94) 104 dX0_beside_94 (by decide) (by omega) (by omega) (by omega) (by omega) (fun h94 => ?_) (fun h94 => ?_)
        · skip
          refine A_iconst (pc := 104) dX0_beside_104 ?_
          refine A_iret (pc := 105) rfl dX0_beside_105 ?_
          exact R1_e (by unfold bes; (repeat' split) <;> omega)
        · skip
          refine A_iload_n (pc := 97) dX0_beside_97 rfl rfl ?_
          refine A_bipush (pc := 98) dX0_beside_98 (by decide) ?_
          refine A_iadd (pc := 100) dX0_beside_100 ?_
          refine A_goto (pc := 101) 105 dX0_beside_101 (by decide) ?_
          refine A_iret (pc := 105) rfl dX0_beside_105 ?_
          exact R1_e (by unfold bes; (repeat' split) <;> omega)
      change AW G _ _ _ _ _ 106 _ _ _ _
      refine A_iconst (pc := 106) dX0_beside_106 ?_
      refine A_iret (pc := 107) rfl dX0_beside_107 ?_
      exact R1_e (by unfold bes; (repeat' split) <;> omega)
    · skip
      refine A_iconst (pc := 10) dX0_beside_10 ?_
      refine A_iret (pc := 11) rfl dX0_beside_11 ?_
      exact R1_e (by unfold bes; (repeat' split) <;> omega)
theorem dX0_line_0 : decode cX0_line 0 = .ok (.lconst 0, 1) := by decide +kernel
theorem dX0_line_1 : decode cX0_line 1 = .ok (.lstore 5, 2) := by decide +kernel
theorem dX0_line_3 : decode cX0_line 3 = .ok (.iload_n 2, 1) := by decide +kernel
theorem dX0_line_4 : decode cX0_line 4 = .ok (.iload_n 3, 1) := by decide +kernel
theorem dX0_line_5 : decode cX0_line 5 = .ok (.invokestatic 11, 3) := by decide +kernel
theorem dX0_line_8 : decode cX0_line 8 = .ok (.istore 7, 2) := by decide +kernel
theorem dX0_line_10 : decode cX0_line 10 = .ok (.iconst 0, 1) := by decide +kernel
theorem dX0_line_11 : decode cX0_line 11 = .ok (.istore 8, 2) := by decide +kernel
theorem dX0_line_13 : decode cX0_line 13 = .ok (.iload 8, 2) := by decide +kernel
theorem dX0_line_15 : decode cX0_line 15 = .ok (.iload 4, 2) := by decide +kernel
theorem dX0_line_17 : decode cX0_line 17 = .ok (.if_icmp .ge 41, 3) := by decide +kernel
theorem dX0_line_20 : decode cX0_line 20 = .ok (.iload 7, 2) := by decide +kernel
theorem dX0_line_22 : decode cX0_line 22 = .ok (.iconst (-1), 1) := by decide +kernel
theorem dX0_line_23 : decode cX0_line 23 = .ok (.if_icmp .eq 35, 3) := by decide +kernel
theorem dX0_line_26 : decode cX0_line 26 = .ok (.lload_n 0, 1) := by decide +kernel
theorem dX0_line_27 : decode cX0_line 27 = .ok (.iload 7, 2) := by decide +kernel
theorem dX0_line_29 : decode cX0_line 29 = .ok (.invokestatic 17, 3) := by decide +kernel
theorem dX0_line_32 : decode cX0_line 32 = .ok (.ifCond .ne 26, 3) := by decide +kernel
theorem dX0_line_35 : decode cX0_line 35 = .ok (.lload 5, 2) := by decide +kernel
theorem dX0_line_37 : decode cX0_line 37 = .ok (.iload 7, 2) := by decide +kernel
theorem dX0_line_39 : decode cX0_line 39 = .ok (.invokestatic 21, 3) := by decide +kernel
theorem dX0_line_42 : decode cX0_line 42 = .ok (.lstore 5, 2) := by decide +kernel
theorem dX0_line_44 : decode cX0_line 44 = .ok (.iload 7, 2) := by decide +kernel
theorem dX0_line_46 : decode cX0_line 46 = .ok (.iload_n 3, 1) := by decide +kernel
theorem dX0_line_47 : decode cX0_line 47 = .ok (.invokestatic 11, 3) := by decide +kernel
theorem dX0_line_50 : decode cX0_line 50 = .ok (.istore 7, 2) := by decide +kernel
theorem dX0_line_52 : decode cX0_line 52 = .ok (.iinc 8 1, 3) := by decide +kernel
theorem dX0_line_55 : decode cX0_line 55 = .ok (.goto (-42), 3) := by decide +kernel
theorem dX0_line_58 : decode cX0_line 58 = .ok (.lload 5, 2) := by decide +kernel
theorem dX0_line_60 : decode cX0_line 60 = .ok (.lreturn, 1) := by decide +kernel
set_option maxRecDepth 20000 in
theorem l_X0_line {G : Gl} {d : Nat} {σ : Sg} {K : Option Value → Sg → Prop} {h : Nat} (hh : h < 2 ^ 49) {w : Int} (hw1 : -2147483648 ≤ w) (hw2 : w < 2147483648) {r : Int} (hr1 : -2147483648 ≤ r) (hr2 : r < 2147483648) : ∀ (n : Nat) (i a : Int) (acc : Nat), 0 ≤ i → i ≤ 2147483647 → n = (r - i).toNat → -1 ≤ a → a ≤ 48 → acc < 2 ^ 49 → K (some (.long (lN (acc ||| lineG h w n a)))) σ → AW G (d + 1) RX0 cX0_line 9 (some .long) 13 [(0, .long (lN h)), (3, .int (iI w)), (4, .int (iI r)), (5, .long (lN acc)), (7, .int (iI a)), (8, .int (iI i))] [] σ K := by
  intro n
  induction n with
  | zero =>
    intro i a acc i1 i2 hn a1 a2 ha hK
    refine A_iload (pc := 13) dX0_line_13 rfl ?_
    refine A_iload (pc := 15) dX0_line_15 rfl ?_
    refine A_icmp_ge (pc := 17) 58 dX0_line_17 (by decide) (by omega) (by omega) (by omega) (by omega) (fun h17 => ?_) (fun h17 => absurd h17 (by omega))
    refine A_lload (pc := 58) dX0_line_58 rfl ?_
    refine A_lret (pc := 60) rfl dX0_line_60 ?_
    have e : acc ||| lineG h w 0 a = acc := by rw [lineG, Nat.or_zero]
    rw [e] at hK
    exact hK
  | succ n ih =>
  intro i a acc i1 i2 hn a1 a2 ha hK
  refine A_iload (pc := 13) dX0_line_13 rfl ?_
  refine A_iload (pc := 15) dX0_line_15 rfl ?_
  refine A_icmp_ge (pc := 17) 58 dX0_line_17 (by decide) (by omega) (by omega) (by omega) (by omega) (fun h17 => ?_) (fun h17 => ?_)
  · skip
    refine A_lload (pc := 58) dX0_line_58 rfl ?_
    refine A_lret (pc := 60) rfl dX0_line_60 ?_
    exfalso; omega
  · skip
    refine A_iload (pc := 20) dX0_line_20 rfl ?_
    refine A_iconst (pc := 22) dX0_line_22 ?_
    refine A_icmp_eq (pc := 23) 58 dX0_line_23 (by decide) (by omega) (by omega) (by omega) (by omega) (fun h23 => ?_) (fun h23 => ?_)
    · skip
      refine A_lload (pc := 58) dX0_line_58 rfl ?_
      refine A_lret (pc := 60) rfl dX0_line_60 ?_
      have e : acc ||| lineG h w (n + 1) a = acc := by rw [lineG, if_pos (by omega), Nat.or_zero]
      rw [e] at hK
      exact hK
    · skip
      refine A_lload_n (pc := 26) dX0_line_26 rfl rfl ?_
      refine A_iload (pc := 27) dX0_line_27 rfl ?_
      refine A_callS1 (pc := 29) kX0_17 (c_X0_has hh (by omega) (by omega)) dX0_line_29 rfl rfl (Nat.le_of_ble_eq_true rfl) (Nat.le_of_ble_eq_true rfl) ?_
      refine A_ifb_ne (pc := 32) 58 dX0_line_32 (by decide) (fun h32 => ?_) (fun h32 => ?_)
      · skip
        refine A_lload (pc := 58) dX0_line_58 rfl ?_
        refine A_lret (pc := 60) rfl dX0_line_60 ?_
        have e : acc ||| lineG h w (n + 1) a = acc := by rw [lineG, if_pos (Or.inr h32), Nat.or_zero]
        rw [e] at hK
        exact hK
      · skip
        refine A_lload (pc := 35) dX0_line_35 rfl ?_
        refine A_iload (pc := 37) dX0_line_37 rfl ?_
        refine A_callS1 (pc := 39) kX0_21 (c_X0_with ha (by omega) (by omega)) dX0_line_39 rfl rfl (Nat.le_of_ble_eq_true rfl) (Nat.le_of_ble_eq_true rfl) ?_
        refine A_lstore (pc := 42) dX0_line_42 (Nat.le_of_ble_eq_true rfl) ?_
        refine A_iload (pc := 44) dX0_line_44 rfl ?_
        refine A_iload_n (pc := 46) dX0_line_46 rfl rfl ?_
        refine A_callS1 (pc := 47) kX0_11 (c_X0_beside (by omega) (by omega) hw1 hw2) dX0_line_47 rfl rfl (Nat.le_of_ble_eq_true rfl) (Nat.le_of_ble_eq_true rfl) ?_
        refine A_istore (pc := 50) dX0_line_50 (Nat.le_of_ble_eq_true rfl) ?_
        refine A_iinc (pc := 52) dX0_line_52 rfl (Nat.le_of_ble_eq_true rfl) ?_
        refine A_goto (pc := 55) 13 dX0_line_55 (by decide) ?_
        refine A_loc (l2 := [(0, _), (3, _), (4, _), (5, _), (7, _), (8, _)]) ⟨rfl, rfl, rfl, rfl, rfl, rfl, trivial⟩ ?_
        have hb := bes_rng a w
        refine ih _ _ _ (by omega) (by omega) (by omega) hb.1 hb.2 (or49 ha (sqB_lt a)) ?_
        have e : acc ||| lineG h w (n + 1) a = (acc ||| sqB a) ||| lineG h w n (bes a w) := by
          rw [lineG, if_neg (fun q => q.elim (fun z => absurd z (by omega)) h32), sqB, if_pos (by omega), Nat.or_assoc]
        rw [e] at hK
        exact hK
set_option maxRecDepth 20000 in
theorem c_X0_line {G : Gl} {d : Nat} {σ : Sg} {h : Nat} (hh : h < 2 ^ 49) {f : Int} (hf1 : -2147483648 ≤ f) (hf2 : f < 2147483648) {w : Int} (hw1 : -2147483648 ≤ w) (hw2 : w < 2147483648) {r : Int} (hr1 : -2147483648 ≤ r) (hr2 : r < 2147483648) : CT G (d + 1) yX0_line cX0_line 9 (some .long) [.long (lN h), .int (iI f), .int (iI w), .int (iI r)] σ (R1 (.long (lN (lineX h f w r))) σ) := by
  refine CT.of (by decide +kernel) (Nat.le_of_ble_eq_true rfl) ?_
  change AW G _ RX0 _ _ _ 0 [(0, .long (lN h)), (2, .int (iI f)), (3, .int (iI w)), (4, .int (iI r))] [] _ _
  refine A_lconst (pc := 0) 0 dX0_line_0 rfl ?_
  refine A_lstore (pc := 1) dX0_line_1 (Nat.le_of_ble_eq_true rfl) ?_
  refine A_iload_n (pc := 3) dX0_line_3 rfl rfl ?_
  refine A_iload_n (pc := 4) dX0_line_4 rfl rfl ?_
  refine A_callS1 (pc := 5) kX0_11 (c_X0_beside hf1 hf2 hw1 hw2) dX0_line_5 rfl rfl (Nat.le_of_ble_eq_true rfl) (Nat.le_of_ble_eq_true rfl) ?_
  refine A_istore (pc := 8) dX0_line_8 (Nat.le_of_ble_eq_true rfl) ?_
  refine A_iconst (pc := 10) dX0_line_10 ?_
  refine A_istore (pc := 11) dX0_line_11 (Nat.le_of_ble_eq_true rfl) ?_
  refine A_loc (l2 := [(0, _), (3, _), (4, _), (5, _), (7, _), (8, _)]) ⟨rfl, rfl, rfl, rfl, rfl, rfl, trivial⟩ ?_
  have hb := bes_rng f w
  exact l_X0_line hh hw1 hw2 hr1 hr2 r.toNat 0 (bes f w) 0 (by omega) (by omega) (by omega) hb.1 hb.2 (by decide) ⟨by rw [Nat.zero_or]; rfl, rfl⟩
theorem dX0_across_0 : decode cX0_across 0 = .ok (.lconst 0, 1) := by decide +kernel
theorem dX0_across_1 : decode cX0_across 1 = .ok (.lstore 4, 2) := by decide +kernel
theorem dX0_across_3 : decode cX0_across 3 = .ok (.iconst 0, 1) := by decide +kernel
theorem dX0_across_4 : decode cX0_across 4 = .ok (.istore 6, 2) := by decide +kernel
theorem dX0_across_6 : decode cX0_across 6 = .ok (.iload 6, 2) := by decide +kernel
theorem dX0_across_8 : decode cX0_across 8 = .ok (.iconst 4, 1) := by decide +kernel
theorem dX0_across_9 : decode cX0_across 9 = .ok (.if_icmp .ge 50, 3) := by decide +kernel
theorem dX0_across_12 : decode cX0_across 12 = .ok (.iload_n 2, 1) := by decide +kernel
theorem dX0_across_13 : decode cX0_across 13 = .ok (.iload 6, 2) := by decide +kernel
theorem dX0_across_15 : decode cX0_across 15 = .ok (.invokestatic 11, 3) := by decide +kernel
theorem dX0_across_18 : decode cX0_across 18 = .ok (.istore 7, 2) := by decide +kernel
theorem dX0_across_20 : decode cX0_across 20 = .ok (.iload 6, 2) := by decide +kernel
theorem dX0_across_22 : decode cX0_across 22 = .ok (.iload_n 3, 1) := by decide +kernel
theorem dX0_across_23 : decode cX0_across 23 = .ok (.if_icmp .eq 30, 3) := by decide +kernel
theorem dX0_across_26 : decode cX0_across 26 = .ok (.iload 6, 2) := by decide +kernel
theorem dX0_across_28 : decode cX0_across 28 = .ok (.iload_n 3, 1) := by decide +kernel
theorem dX0_across_29 : decode cX0_across 29 = .ok (.invokestatic 33, 3) := by decide +kernel
theorem dX0_across_32 : decode cX0_across 32 = .ok (.if_icmp .eq 21, 3) := by decide +kernel
theorem dX0_across_35 : decode cX0_across 35 = .ok (.lload_n 0, 1) := by decide +kernel
theorem dX0_across_36 : decode cX0_across 36 = .ok (.iload 7, 2) := by decide +kernel
theorem dX0_across_38 : decode cX0_across 38 = .ok (.invokestatic 17, 3) := by decide +kernel
theorem dX0_across_41 : decode cX0_across 41 = .ok (.ifCond .ne 12, 3) := by decide +kernel
theorem dX0_across_44 : decode cX0_across 44 = .ok (.lload 4, 2) := by decide +kernel
theorem dX0_across_46 : decode cX0_across 46 = .ok (.iload 7, 2) := by decide +kernel
theorem dX0_across_48 : decode cX0_across 48 = .ok (.invokestatic 21, 3) := by decide +kernel
theorem dX0_across_51 : decode cX0_across 51 = .ok (.lstore 4, 2) := by decide +kernel
theorem dX0_across_53 : decode cX0_across 53 = .ok (.iinc 6 1, 3) := by decide +kernel
theorem dX0_across_56 : decode cX0_across 56 = .ok (.goto (-50), 3) := by decide +kernel
theorem dX0_across_59 : decode cX0_across 59 = .ok (.lload 4, 2) := by decide +kernel
theorem dX0_across_61 : decode cX0_across 61 = .ok (.lreturn, 1) := by decide +kernel
set_option maxRecDepth 20000 in
theorem l_X0_across {G : Gl} {d : Nat} {σ : Sg} {K : Option Value → Sg → Prop} {h : Nat} (hh : h < 2 ^ 49) {c w : Int} (hc1 : -2147483648 ≤ c) (hc2 : c < 2147483648) (hw1 : 0 ≤ w) (hw2 : w < 4) : ∀ (n : Nat) (s : Int) (acc : Nat), 0 ≤ s → s + n = 4 → acc < 2 ^ 49 → K (some (.long (lN (acc ||| acrG h c w n s)))) σ → AW G (d + 1) RX0 cX0_across 8 (some .long) 6 [(0, .long (lN h)), (2, .int (iI c)), (3, .int (iI w)), (4, .long (lN acc)), (6, .int (iI s))] [] σ K := by
  intro n
  induction n with
  | zero =>
    intro s acc i1 i2 ha hK
    refine A_iload (pc := 6) dX0_across_6 rfl ?_
    refine A_iconst (pc := 8) dX0_across_8 ?_
    refine A_icmp_ge (pc := 9) 59 dX0_across_9 (by decide) (by omega) (by omega) (by omega) (by omega) (fun h17 => ?_) (fun h17 => absurd h17 (by omega))
    refine A_lload (pc := 59) dX0_across_59 rfl ?_
    refine A_lret (pc := 61) rfl dX0_across_61 ?_
    have e : acc ||| acrG h c w 0 s = acc := by rw [acrG, Nat.or_zero]
    rw [e] at hK
    exact hK
  | succ n ih =>
  intro s acc i1 i2 ha hK
  have hb := bes_rng c s
  refine A_iload (pc := 6) dX0_across_6 rfl ?_
  refine A_iconst (pc := 8) dX0_across_8 ?_
  refine A_icmp_ge (pc := 9) 59 dX0_across_9 (by decide) (by omega) (by omega) (by omega) (by omega) (fun h9 => ?_) (fun h9 => ?_)
  · skip
    refine A_lload (pc := 59) dX0_across_59 rfl ?_
    refine A_lret (pc := 61) rfl dX0_across_61 ?_
    exfalso; omega
  · skip
    refine A_iload_n (pc := 12) dX0_across_12 rfl rfl ?_
    refine A_iload (pc := 13) dX0_across_13 rfl ?_
    refine A_callS1 (pc := 15) kX0_11 (c_X0_beside hc1 hc2 (by omega) (by omega)) dX0_across_15 rfl rfl (Nat.le_of_ble_eq_true rfl) (Nat.le_of_ble_eq_true rfl) ?_
    refine A_istore (pc := 18) dX0_across_18 (Nat.le_of_ble_eq_true rfl) ?_
    refine A_iload (pc := 20) dX0_across_20 rfl ?_
    refine A_iload_n (pc := 22) dX0_across_22 rfl rfl ?_
    refine A_icmp_eq (pc := 23) 53 dX0_across_23 (by decide) (by omega) (by omega) (by omega) (by omega) (fun h23 => ?_) (fun h23 => ?_)
    · skip
      refine A_iinc (pc := 53) dX0_across_53 rfl (Nat.le_of_ble_eq_true rfl) ?_
      refine A_goto (pc := 56) 6 dX0_across_56 (by decide) ?_
      refine A_loc (l2 := [(0, _), (2, _), (3, _), (4, _), (6, _)]) ⟨rfl, rfl, rfl, rfl, rfl, trivial⟩ ?_
      refine ih _ _ (by omega) (by omega) ha ?_
      have e : acc ||| acrG h c w (n + 1) s = acc ||| acrG h c w n (s + 1) := by
        rw [acrG, if_neg (by omega), Nat.zero_or]
      rw [e] at hK
      exact hK
    · skip
      refine A_iload (pc := 26) dX0_across_26 rfl ?_
      refine A_iload_n (pc := 28) dX0_across_28 rfl rfl ?_
      refine A_callS1 (pc := 29) kX0_33 (c_X0_opposite) dX0_across_29 rfl rfl (Nat.le_of_ble_eq_true rfl) (Nat.le_of_ble_eq_true rfl) ?_
      refine A_icmp_eq (pc := 32) 53 dX0_across_32 (by decide) (by omega) (by omega) (by omega) (by omega) (fun h32 => ?_) (fun h32 => ?_)
      · skip
        refine A_iinc (pc := 53) dX0_across_53 rfl (Nat.le_of_ble_eq_true rfl) ?_
        refine A_goto (pc := 56) 6 dX0_across_56 (by decide) ?_
        refine A_loc (l2 := [(0, _), (2, _), (3, _), (4, _), (6, _)]) ⟨rfl, rfl, rfl, rfl, rfl, trivial⟩ ?_
        refine ih _ _ (by omega) (by omega) ha ?_
        have e : acc ||| acrG h c w (n + 1) s = acc ||| acrG h c w n (s + 1) := by
          rw [acrG, if_neg (by omega), Nat.zero_or]
        rw [e] at hK
        exact hK
      · skip
        refine A_lload_n (pc := 35) dX0_across_35 rfl rfl ?_
        refine A_iload (pc := 36) dX0_across_36 rfl ?_
        refine A_callS1 (pc := 38) kX0_17 (c_X0_has hh (by omega) (by omega)) dX0_across_38 rfl rfl (Nat.le_of_ble_eq_true rfl) (Nat.le_of_ble_eq_true rfl) ?_
        refine A_ifb_ne (pc := 41) 53 dX0_across_41 (by decide) (fun h41 => ?_) (fun h41 => ?_)
        · skip
          refine A_iinc (pc := 53) dX0_across_53 rfl (Nat.le_of_ble_eq_true rfl) ?_
          refine A_goto (pc := 56) 6 dX0_across_56 (by decide) ?_
          refine A_loc (l2 := [(0, _), (2, _), (3, _), (4, _), (6, _)]) ⟨rfl, rfl, rfl, rfl, rfl, trivial⟩ ?_
          refine ih _ _ (by omega) (by omega) ha ?_
          have e : acc ||| acrG h c w (n + 1) s = acc ||| acrG h c w n (s + 1) := by
            rw [acrG, if_pos (by omega), opB, if_neg (fun q => q.2 h41), Nat.zero_or]
          rw [e] at hK
          exact hK
        · skip
          refine A_lload (pc := 44) dX0_across_44 rfl ?_
          refine A_iload (pc := 46) dX0_across_46 rfl ?_
          refine A_callS1 (pc := 48) kX0_21 (c_X0_with ha (by omega) (by omega)) dX0_across_48 rfl rfl (Nat.le_of_ble_eq_true rfl) (Nat.le_of_ble_eq_true rfl) ?_
          refine A_lstore (pc := 51) dX0_across_51 (Nat.le_of_ble_eq_true rfl) ?_
          refine A_iinc (pc := 53) dX0_across_53 rfl (Nat.le_of_ble_eq_true rfl) ?_
          refine A_goto (pc := 56) 6 dX0_across_56 (by decide) ?_
          refine A_loc (l2 := [(0, _), (2, _), (3, _), (4, _), (6, _)]) ⟨rfl, rfl, rfl, rfl, rfl, trivial⟩ ?_
          refine ih _ _ (by omega) (by omega) (or49 ha (sqB_lt _)) ?_
          have e : acc ||| acrG h c w (n + 1) s = acc ||| sqB (bes c s) ||| acrG h c w n (s + 1) := by
            have e2 : opB h (bes c s) = sqB (bes c s) := by
              unfold opB sqB
              by_cases q : inS (bes c s)
              · rw [if_pos q, if_pos ⟨q, h41⟩]
              · rw [if_neg q, if_neg (fun z => q z.1)]
            rw [acrG, if_pos (by omega), e2, Nat.or_assoc]
          rw [e] at hK
          exact hK
set_option maxRecDepth 20000 in
theorem c_X0_across {G : Gl} {d : Nat} {σ : Sg} {h : Nat} (hh : h < 2 ^ 49) {c w : Int} (hc1 : -2147483648 ≤ c) (hc2 : c < 2147483648) (hw1 : 0 ≤ w) (hw2 : w < 4) : CT G (d + 1) yX0_across cX0_across 8 (some .long) [.long (lN h), .int (iI c), .int (iI w)] σ (R1 (.long (lN (acr h c w))) σ) := by
  refine CT.of (by decide +kernel) (Nat.le_of_ble_eq_true rfl) ?_
  change AW G _ RX0 _ _ _ 0 [(0, .long (lN h)), (2, .int (iI c)), (3, .int (iI w))] [] _ _
  refine A_lconst (pc := 0) 0 dX0_across_0 rfl ?_
  refine A_lstore (pc := 1) dX0_across_1 (Nat.le_of_ble_eq_true rfl) ?_
  refine A_iconst (pc := 3) dX0_across_3 ?_
  refine A_istore (pc := 4) dX0_across_4 (Nat.le_of_ble_eq_true rfl) ?_
  refine A_loc (l2 := [(0, _), (2, _), (3, _), (4, _), (6, _)]) ⟨rfl, rfl, rfl, rfl, rfl, trivial⟩ ?_
  exact l_X0_across hh hc1 hc2 hw1 hw2 4 0 0 (by omega) (by omega) (by decide) ⟨by rw [Nat.zero_or]; rfl, rfl⟩
theorem dX0_wideLine_0 : decode cX0_wideLine 0 = .ok (.lload_n 0, 1) := by decide +kernel
theorem dX0_wideLine_1 : decode cX0_wideLine 1 = .ok (.iload_n 2, 1) := by decide +kernel
theorem dX0_wideLine_2 : decode cX0_wideLine 2 = .ok (.iload_n 3, 1) := by decide +kernel
theorem dX0_wideLine_3 : decode cX0_wideLine 3 = .ok (.iload 4, 2) := by decide +kernel
theorem dX0_wideLine_5 : decode cX0_wideLine 5 = .ok (.invokestatic 25, 3) := by decide +kernel
theorem dX0_wideLine_8 : decode cX0_wideLine 8 = .ok (.lstore 5, 2) := by decide +kernel
theorem dX0_wideLine_10 : decode cX0_wideLine 10 = .ok (.lload 5, 2) := by decide +kernel
theorem dX0_wideLine_12 : decode cX0_wideLine 12 = .ok (.lstore 7, 2) := by decide +kernel
theorem dX0_wideLine_14 : decode cX0_wideLine 14 = .ok (.iload_n 2, 1) := by decide +kernel
theorem dX0_wideLine_15 : decode cX0_wideLine 15 = .ok (.istore 9, 2) := by decide +kernel
theorem dX0_wideLine_17 : decode cX0_wideLine 17 = .ok (.iconst 0, 1) := by decide +kernel
theorem dX0_wideLine_18 : decode cX0_wideLine 18 = .ok (.istore 10, 2) := by decide +kernel
theorem dX0_wideLine_20 : decode cX0_wideLine 20 = .ok (.iload 10, 2) := by decide +kernel
theorem dX0_wideLine_22 : decode cX0_wideLine 22 = .ok (.iconst 2, 1) := by decide +kernel
theorem dX0_wideLine_23 : decode cX0_wideLine 23 = .ok (.if_icmp .ge 39, 3) := by decide +kernel
theorem dX0_wideLine_26 : decode cX0_wideLine 26 = .ok (.iload 9, 2) := by decide +kernel
theorem dX0_wideLine_28 : decode cX0_wideLine 28 = .ok (.iload_n 3, 1) := by decide +kernel
theorem dX0_wideLine_29 : decode cX0_wideLine 29 = .ok (.invokestatic 11, 3) := by decide +kernel
theorem dX0_wideLine_32 : decode cX0_wideLine 32 = .ok (.istore 9, 2) := by decide +kernel
theorem dX0_wideLine_34 : decode cX0_wideLine 34 = .ok (.lload 5, 2) := by decide +kernel
theorem dX0_wideLine_36 : decode cX0_wideLine 36 = .ok (.iload 9, 2) := by decide +kernel
theorem dX0_wideLine_38 : decode cX0_wideLine 38 = .ok (.invokestatic 17, 3) := by decide +kernel
theorem dX0_wideLine_41 : decode cX0_wideLine 41 = .ok (.ifCond .eq 15, 3) := by decide +kernel
theorem dX0_wideLine_44 : decode cX0_wideLine 44 = .ok (.lload 7, 2) := by decide +kernel
theorem dX0_wideLine_46 : decode cX0_wideLine 46 = .ok (.lload_n 0, 1) := by decide +kernel
theorem dX0_wideLine_47 : decode cX0_wideLine 47 = .ok (.iload 9, 2) := by decide +kernel
theorem dX0_wideLine_49 : decode cX0_wideLine 49 = .ok (.iload_n 3, 1) := by decide +kernel
theorem dX0_wideLine_50 : decode cX0_wideLine 50 = .ok (.invokestatic 29, 3) := by decide +kernel
theorem dX0_wideLine_53 : decode cX0_wideLine 53 = .ok (.lor, 1) := by decide +kernel
theorem dX0_wideLine_54 : decode cX0_wideLine 54 = .ok (.lstore 7, 2) := by decide +kernel
theorem dX0_wideLine_56 : decode cX0_wideLine 56 = .ok (.iinc 10 1, 3) := by decide +kernel
theorem dX0_wideLine_59 : decode cX0_wideLine 59 = .ok (.goto (-39), 3) := by decide +kernel
theorem dX0_wideLine_62 : decode cX0_wideLine 62 = .ok (.lload 7, 2) := by decide +kernel
theorem dX0_wideLine_64 : decode cX0_wideLine 64 = .ok (.lreturn, 1) := by decide +kernel
set_option maxRecDepth 20000 in
theorem l_X0_wideLine {G : Gl} {d : Nat} {σ : Sg} {K : Option Value → Sg → Prop} {h : Nat} (hh : h < 2 ^ 49) {L : Nat} (hL : L < 2 ^ 49) {w : Int} (hw1 : 0 ≤ w) (hw2 : w < 4) : ∀ (n : Nat) (i a : Int) (acc : Nat), 0 ≤ i → i + n = 2 → -2147483648 ≤ a → a < 2147483648 → acc < 2 ^ 49 → K (some (.long (lN (acc ||| wideT L h w n a)))) σ → AW G (d + 2) RX0 cX0_wideLine 11 (some .long) 20 [(0, .long (lN h)), (3, .int (iI w)), (5, .long (lN L)), (7, .long (lN acc)), (9, .int (iI a)), (10, .int (iI i))] [] σ K := by
  intro n
  induction n with
  | zero =>
    intro i a acc i1 i2 a1 a2 ha hK
    refine A_iload (pc := 20) dX0_wideLine_20 rfl ?_
    refine A_iconst (pc := 22) dX0_wideLine_22 ?_
    refine A_icmp_ge (pc := 23) 62 dX0_wideLine_23 (by decide) (by omega) (by omega) (by omega) (by omega) (fun h17 => ?_) (fun h17 => absurd h17 (by omega))
    refine A_lload (pc := 62) dX0_wideLine_62 rfl ?_
    refine A_lret (pc := 64) rfl dX0_wideLine_64 ?_
    have e : acc ||| wideT L h w 0 a = acc := by rw [wideT, Nat.or_zero]
    rw [e] at hK
    exact hK
  | succ n ih =>
  intro i a acc i1 i2 a1 a2 ha hK
  have hb := bes_rng a w
  refine A_iload (pc := 20) dX0_wideLine_20 rfl ?_
  refine A_iconst (pc := 22) dX0_wideLine_22 ?_
  refine A_icmp_ge (pc := 23) 62 dX0_wideLine_23 (by decide) (by omega) (by omega) (by omega) (by omega) (fun h23 => ?_) (fun h23 => ?_)
  · skip
    refine A_lload (pc := 62) dX0_wideLine_62 rfl ?_
    refine A_lret (pc := 64) rfl dX0_wideLine_64 ?_
    exfalso; omega
  · skip
    refine A_iload (pc := 26) dX0_wideLine_26 rfl ?_
    refine A_iload_n (pc := 28) dX0_wideLine_28 rfl rfl ?_
    refine A_callS1 (pc := 29) kX0_11 (c_X0_beside a1 a2 (by omega) (by omega)) dX0_wideLine_29 rfl rfl (Nat.le_of_ble_eq_true rfl) (Nat.le_of_ble_eq_true rfl) ?_
    refine A_istore (pc := 32) dX0_wideLine_32 (Nat.le_of_ble_eq_true rfl) ?_
    refine A_lload (pc := 34) dX0_wideLine_34 rfl ?_
    refine A_iload (pc := 36) dX0_wideLine_36 rfl ?_
    refine A_callS1 (pc := 38) kX0_17 (c_X0_has hL (by omega) (by omega)) dX0_wideLine_38 rfl rfl (Nat.le_of_ble_eq_true rfl) (Nat.le_of_ble_eq_true rfl) ?_
    refine A_ifb_eq (pc := 41) 56 dX0_wideLine_41 (by decide) (fun h41 => ?_) (fun h41 => ?_)
    · skip
      refine A_iinc (pc := 56) dX0_wideLine_56 rfl (Nat.le_of_ble_eq_true rfl) ?_
      refine A_goto (pc := 59) 20 dX0_wideLine_59 (by decide) ?_
      refine A_loc (l2 := [(0, _), (3, _), (5, _), (7, _), (9, _), (10, _)]) ⟨rfl, rfl, rfl, rfl, rfl, rfl, trivial⟩ ?_
      refine ih _ _ _ (by omega) (by omega) (by omega) (by omega) ha ?_
      have e : acc ||| wideT L h w (n + 1) a = acc ||| wideT L h w n (bes a w) := by
        rw [wideT, if_neg h41, Nat.zero_or]
      rw [e] at hK
      exact hK
    · skip
      refine A_lload (pc := 44) dX0_wideLine_44 rfl ?_
      refine A_lload_n (pc := 46) dX0_wideLine_46 rfl rfl ?_
      refine A_iload (pc := 47) dX0_wideLine_47 rfl ?_
      refine A_iload_n (pc := 49) dX0_wideLine_49 rfl rfl ?_
      refine A_callS1 (pc := 50) kX0_29 (c_X0_across hh (by omega) (by omega) hw1 hw2) dX0_wideLine_50 rfl rfl (Nat.le_of_ble_eq_true rfl) (Nat.le_of_ble_eq_true rfl) ?_
      refine A_lor (pc := 53) dX0_wideLine_53 ?_
      rw [or_L ha (acr_lt _ _ _)]
      refine A_lstore (pc := 54) dX0_wideLine_54 (Nat.le_of_ble_eq_true rfl) ?_
      refine A_iinc (pc := 56) dX0_wideLine_56 rfl (Nat.le_of_ble_eq_true rfl) ?_
      refine A_goto (pc := 59) 20 dX0_wideLine_59 (by decide) ?_
      refine A_loc (l2 := [(0, _), (3, _), (5, _), (7, _), (9, _), (10, _)]) ⟨rfl, rfl, rfl, rfl, rfl, rfl, trivial⟩ ?_
      refine ih _ _ _ (by omega) (by omega) (by omega) (by omega) (or49 ha (acr_lt _ _ _)) ?_
      have e : acc ||| wideT L h w (n + 1) a = acc ||| acr h (bes a w) w ||| wideT L h w n (bes a w) := by
        rw [wideT, if_pos h41, Nat.or_assoc]
      rw [e] at hK
      exact hK
set_option maxRecDepth 20000 in
theorem c_X0_wideLine {G : Gl} {d : Nat} {σ : Sg} {h : Nat} (hh : h < 2 ^ 49) {f w r : Int} (hf1 : -2147483648 ≤ f) (hf2 : f < 2147483648) (hw1 : 0 ≤ w) (hw2 : w < 4) (hr1 : -2147483648 ≤ r) (hr2 : r < 2147483648) : CT G (d + 2) yX0_wideLine cX0_wideLine 11 (some .long) [.long (lN h), .int (iI f), .int (iI w), .int (iI r)] σ (R1 (.long (lN (wideX h f w r))) σ) := by
  refine CT.of (by decide +kernel) (Nat.le_of_ble_eq_true rfl) ?_
  change AW G _ RX0 _ _ _ 0 [(0, .long (lN h)), (2, .int (iI f)), (3, .int (iI w)), (4, .int (iI r))] [] _ _
  refine A_lload_n (pc := 0) dX0_wideLine_0 rfl rfl ?_
  refine A_iload_n (pc := 1) dX0_wideLine_1 rfl rfl ?_
  refine A_iload_n (pc := 2) dX0_wideLine_2 rfl rfl ?_
  refine A_iload (pc := 3) dX0_wideLine_3 rfl ?_
  refine A_callS1 (pc := 5) kX0_25 (c_X0_line hh hf1 hf2 (by omega) (by omega) hr1 hr2) dX0_wideLine_5 rfl rfl (Nat.le_of_ble_eq_true rfl) (Nat.le_of_ble_eq_true rfl) ?_
  refine A_lstore (pc := 8) dX0_wideLine_8 (Nat.le_of_ble_eq_true rfl) ?_
  refine A_lload (pc := 10) dX0_wideLine_10 rfl ?_
  refine A_lstore (pc := 12) dX0_wideLine_12 (Nat.le_of_ble_eq_true rfl) ?_
  refine A_iload_n (pc := 14) dX0_wideLine_14 rfl rfl ?_
  refine A_istore (pc := 15) dX0_wideLine_15 (Nat.le_of_ble_eq_true rfl) ?_
  refine A_iconst (pc := 17) dX0_wideLine_17 ?_
  refine A_istore (pc := 18) dX0_wideLine_18 (Nat.le_of_ble_eq_true rfl) ?_
  refine A_loc (l2 := [(0, _), (3, _), (5, _), (7, _), (9, _), (10, _)]) ⟨rfl, rfl, rfl, rfl, rfl, rfl, trivial⟩ ?_
  exact l_X0_wideLine hh (lineX_lt _ _ _ _) hw1 hw2 2 0 f (lineX h f w r) (by omega) (by omega) hf1 hf2 (lineX_lt _ _ _ _) ⟨rfl, rfl⟩
