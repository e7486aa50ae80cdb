/-! PART 34: behind, done of the reference -/
theorem dX9_behind_0 : decode cX9_behind 0 = .ok (.aload_n 0, 1) := by decide +kernel
theorem dX9_behind_1 : decode cX9_behind 1 = .ok (.iload_n 1, 1) := by decide +kernel
theorem dX9_behind_2 : decode cX9_behind 2 = .ok (.iload_n 2, 1) := by decide +kernel
theorem dX9_behind_3 : decode cX9_behind 3 = .ok (.iload_n 3, 1) := by decide +kernel
theorem dX9_behind_4 : decode cX9_behind 4 = .ok (.invokevirtual 278, 3) := by decide +kernel
theorem dX9_behind_7 : decode cX9_behind 7 = .ok (.istore 5, 2) := by decide +kernel
theorem dX9_behind_9 : decode cX9_behind 9 = .ok (.iload 5, 2) := by decide +kernel
theorem dX9_behind_11 : decode cX9_behind 11 = .ok (.ifCond .ge 10, 3) := by decide +kernel
theorem dX9_behind_14 : decode cX9_behind 14 = .ok (.aload_n 0, 1) := by decide +kernel
theorem dX9_behind_15 : decode cX9_behind 15 = .ok (.iload 5, 2) := by decide +kernel
theorem dX9_behind_17 : decode cX9_behind 17 = .ok (.invokevirtual 79, 3) := by decide +kernel
theorem dX9_behind_20 : decode cX9_behind 20 = .ok (.ireturn, 1) := by decide +kernel
theorem dX9_behind_21 : decode cX9_behind 21 = .ok (.iload 4, 2) := by decide +kernel
theorem dX9_behind_23 : decode cX9_behind 23 = .ok (.iconst 0, 1) := by decide +kernel
theorem dX9_behind_24 : decode cX9_behind 24 = .ok (.iconst 2, 1) := by decide +kernel
theorem dX9_behind_25 : decode cX9_behind 25 = .ok (.invokestatic 86, 3) := by decide +kernel
theorem dX9_behind_28 : decode cX9_behind 28 = .ok (.ifCond .ne 10, 3) := by decide +kernel
theorem dX9_behind_31 : decode cX9_behind 31 = .ok (.aload_n 0, 1) := by decide +kernel
theorem dX9_behind_32 : decode cX9_behind 32 = .ok (.bipush (-5), 2) := by decide +kernel
theorem dX9_behind_34 : decode cX9_behind 34 = .ok (.invokevirtual 79, 3) := by decide +kernel
theorem dX9_behind_37 : decode cX9_behind 37 = .ok (.ireturn, 1) := by decide +kernel
theorem dX9_behind_38 : decode cX9_behind 38 = .ok (.iload_n 3, 1) := by decide +kernel
theorem dX9_behind_39 : decode cX9_behind 39 = .ok (.bipush 60, 2) := by decide +kernel
theorem dX9_behind_41 : decode cX9_behind 41 = .ok (.if_icmp .gt 14, 3) := by decide +kernel
theorem dX9_behind_44 : decode cX9_behind 44 = .ok (.aload_n 0, 1) := by decide +kernel
theorem dX9_behind_45 : decode cX9_behind 45 = .ok (.iload_n 1, 1) := by decide +kernel
theorem dX9_behind_46 : decode cX9_behind 46 = .ok (.iload_n 2, 1) := by decide +kernel
theorem dX9_behind_47 : decode cX9_behind 47 = .ok (.iload_n 3, 1) := by decide +kernel
theorem dX9_behind_48 : decode cX9_behind 48 = .ok (.invokevirtual 282, 3) := by decide +kernel
theorem dX9_behind_51 : decode cX9_behind 51 = .ok (.iconst (-1), 1) := by decide +kernel
theorem dX9_behind_52 : decode cX9_behind 52 = .ok (.if_icmp .eq 10, 3) := by decide +kernel
theorem dX9_behind_55 : decode cX9_behind 55 = .ok (.aload_n 0, 1) := by decide +kernel
theorem dX9_behind_56 : decode cX9_behind 56 = .ok (.bipush (-6), 2) := by decide +kernel
theorem dX9_behind_58 : decode cX9_behind 58 = .ok (.invokevirtual 79, 3) := by decide +kernel
theorem dX9_behind_61 : decode cX9_behind 61 = .ok (.ireturn, 1) := by decide +kernel
theorem dX9_behind_62 : decode cX9_behind 62 = .ok (.iload 4, 2) := by decide +kernel
theorem dX9_behind_64 : decode cX9_behind 64 = .ok (.ifCond .ne 10, 3) := by decide +kernel
theorem dX9_behind_67 : decode cX9_behind 67 = .ok (.aload_n 0, 1) := by decide +kernel
theorem dX9_behind_68 : decode cX9_behind 68 = .ok (.getfield 272, 3) := by decide +kernel
theorem dX9_behind_71 : decode cX9_behind 71 = .ok (.goto 23, 3) := by decide +kernel
theorem dX9_behind_74 : decode cX9_behind 74 = .ok (.iload 4, 2) := by decide +kernel
theorem dX9_behind_76 : decode cX9_behind 76 = .ok (.iconst 1, 1) := by decide +kernel
theorem dX9_behind_77 : decode cX9_behind 77 = .ok (.if_icmp .ne 10, 3) := by decide +kernel
theorem dX9_behind_80 : decode cX9_behind 80 = .ok (.aload_n 0, 1) := by decide +kernel
theorem dX9_behind_81 : decode cX9_behind 81 = .ok (.getfield 266, 3) := by decide +kernel
theorem dX9_behind_84 : decode cX9_behind 84 = .ok (.goto 10, 3) := by decide +kernel
theorem dX9_behind_87 : decode cX9_behind 87 = .ok (.aload_n 0, 1) := by decide +kernel
theorem dX9_behind_88 : decode cX9_behind 88 = .ok (.getfield 275, 3) := by decide +kernel
theorem dX9_behind_91 : decode cX9_behind 91 = .ok (.invokestatic 233, 3) := by decide +kernel
theorem dX9_behind_94 : decode cX9_behind 94 = .ok (.ireturn, 1) := by decide +kernel
set_option maxRecDepth 20000 in
theorem c_X9_behind {G : Gl} {d : Nat} {σ : Sg} {Z : Zt} (hZ : RelM Z σ) (hO : OkZ Z) {s : Int} (hs1 : -2147483648 ≤ s) (hs2 : s < 2147483648) {p : Int} (hp1 : -2147483648 ≤ p) (hp2 : p < 2147483648) {n : Int} (hn1 : -2147483648 ≤ n) (hn2 : n < 2147483648) {w : Int} (hw1 : -2147483648 ≤ w) (hw2 : w < 2147483648) : CT G (d + 4) yX9_behind cX9_behind 6 (some .int) [.ref (gA G 54), .int (iI s), .int (iI p), .int (iI n), .int (iI w)] σ (RE (some (.int (iI (qBehind Z s p n w).1))) (fun υ => RelM (qBehind Z s p n w).2 υ ∧ Fr MC σ υ)) := by
  refine CT.of (by decide +kernel) (Nat.le_of_ble_eq_true rfl) ?_
  change AW G _ RX9 _ _ _ 0 [(0, .ref (gA G 54)), (1, .int (iI s)), (2, .int (iI p)), (3, .int (iI n)), (4, .int (iI w))] [] _ _
  have hwt := nwT_rng Z s p n
  have ew : wkT Z s p n (0 ≤ w ∧ w ≤ 2) = _ := wkT_nw
  refine A_aload_n (pc := 0) dX9_behind_0 rfl rfl ?_
  refine A_iload_n (pc := 1) dX9_behind_1 rfl rfl ?_
  refine A_iload_n (pc := 2) dX9_behind_2 rfl rfl ?_
  refine A_iload_n (pc := 3) dX9_behind_3 rfl rfl ?_
  refine A_callV1 (pc := 4) kX9_278 rfl rfl (c_X9_noWalk hZ hO hs1 hs2 hp1 hp2 hn1 hn2) dX9_behind_4 rfl rfl (Nat.le_of_ble_eq_true rfl) (Nat.le_of_ble_eq_true rfl) ?_
  refine A_istore (pc := 7) dX9_behind_7 (Nat.le_of_ble_eq_true rfl) ?_
  refine A_iload (pc := 9) dX9_behind_9 rfl ?_
  refine A_if_ge (pc := 11) 21 dX9_behind_11 (by decide) (by omega) (by omega) (fun h11 => ?_) (fun h11 => ?_)
  · skip
    refine A_iload (pc := 21) dX9_behind_21 rfl ?_
    refine A_iconst (pc := 23) dX9_behind_23 ?_
    refine A_iconst (pc := 24) dX9_behind_24 ?_
    refine A_callS1 (pc := 25) kX9_86 (c_X9_within (v := w) (a := 0) (b := 2) (by omega) (by omega) (by omega) (by omega) (by omega) (by omega)) dX9_behind_25 rfl rfl (Nat.le_of_ble_eq_true rfl) (Nat.le_of_ble_eq_true rfl) ?_
    refine A_ifb_ne (pc := 28) 38 dX9_behind_28 (by decide) (fun h28 => ?_) (fun h28 => ?_)
    · skip
      rw [if_neg (by omega), if_neg (show ¬ ¬ (0 ≤ w ∧ w ≤ 2) from fun q => q h28)] at ew
      obtain ⟨⟨g1, g2⟩, ⟨g3, g4⟩, g5, g6, g7⟩ := nwT_0 (show nwT Z s p n = 0 by omega)
      obtain ⟨k, rfl⟩ := Int.eq_ofNat_of_zero_le (show 0 ≤ s by omega)
      obtain ⟨j, rfl⟩ := Int.eq_ofNat_of_zero_le (show 0 ≤ p by omega)
      obtain ⟨m, rfl⟩ := Int.eq_ofNat_of_zero_le (show 0 ≤ n by omega)
      have k8 : k < 8 := by omega
      have q9 := hO.1.2.2.2.2.2.2.2.2 j g4
      have wok := fun z : m ≤ 60 => wkG_ok (τ := Z.1) (e := elV Z k) (n := m) (i := 0) (a := Z.1.2.2 4 j) (f := Z.1.2.2 5 j) (s := 0) (l := 0) ⟨q9.1, by omega⟩ q9.2.2.1 (by omega) (by omega)
      refine A_iload_n (pc := 38) dX9_behind_38 rfl rfl ?_
      refine A_bipush (pc := 39) dX9_behind_39 (by decide) ?_
      refine A_icmp_gt (pc := 41) 55 dX9_behind_41 (by decide) (by omega) (by omega) (by omega) (by omega) (fun h41 => ?_) (fun h41 => ?_)
      · skip
        refine A_aload_n (pc := 55) dX9_behind_55 rfl rfl ?_
        refine A_bipush (pc := 56) dX9_behind_56 (by decide) ?_
        refine A_callVe (pc := 58) kX9_79 rfl rfl (c_X9_no hZ hO (t := -6) (by omega) (by omega)) dX9_behind_58 rfl rfl (Nat.le_of_ble_eq_true rfl) (Nat.le_of_ble_eq_true rfl) (fun υ hυ => ?_)
        refine A_iret (pc := 61) rfl dX9_behind_61 ?_
        rw [if_pos (by omega)] at ew
        exact RQM (by unfold qBehind; rw [ew, if_pos (by decide)]; rfl) hυ.1 (hυ.2.mono MC70)
      · skip
        refine A_aload_n (pc := 44) dX9_behind_44 rfl rfl ?_
        refine A_iload_n (pc := 45) dX9_behind_45 rfl rfl ?_
        refine A_iload_n (pc := 46) dX9_behind_46 rfl rfl ?_
        refine A_iload_n (pc := 47) dX9_behind_47 rfl rfl ?_
        refine A_callVe (pc := 48) kX9_282 rfl rfl (c_X9_walks hZ hO k8 (show m ≤ 60 by omega) g4) dX9_behind_48 rfl rfl (Nat.le_of_ble_eq_true rfl) (Nat.le_of_ble_eq_true rfl) (fun υ hυ => ?_)
        have hZ2 := hυ.1.rel hZ
        have wk := (wok (by omega)).1
        rw [if_neg (by omega)] at ew
        refine A_iconst (pc := 51) dX9_behind_51 ?_
        refine A_icmp_eq (pc := 52) 62 dX9_behind_52 (by decide) (by omega) (by omega) (by omega) (by omega) (fun h52 => ?_) (fun h52 => ?_)
        · skip
          refine A_iload (pc := 62) dX9_behind_62 rfl ?_
          refine A_if_ne (pc := 64) 74 dX9_behind_64 (by decide) (by omega) (by omega) (fun h64 => ?_) (fun h64 => ?_)
          · skip
            refine A_iload (pc := 74) dX9_behind_74 rfl ?_
            refine A_iconst (pc := 76) dX9_behind_76 ?_
            refine A_icmp_ne (pc := 77) 87 dX9_behind_77 (by decide) (by omega) (by omega) (by omega) (by omega) (fun h77 => ?_) (fun h77 => ?_)
            · skip
              refine A_aload_n (pc := 87) dX9_behind_87 rfl rfl ?_
              refine A_getIv (pc := 88) fX9_275 rfl rfl hυ.2.2.2.2 dX9_behind_88 ?_
              refine A_callS1 (pc := 91) kX9_233 (c_J6_bitCount_0f7a4) dX9_behind_91 rfl rfl (Nat.le_of_ble_eq_true rfl) (Nat.le_of_ble_eq_true rfl) ?_
              refine A_iret (pc := 94) rfl dX9_behind_94 ?_
              exact RQM (by unfold qBehind wkR; simp only [Int.toNat_natCast]; rw [ew, if_neg (by decide), if_neg (fun q => q h52), if_neg (by omega), if_neg (by omega)]) hZ2 hυ.1.mc
            · skip
              refine A_aload_n (pc := 80) dX9_behind_80 rfl rfl ?_
              refine A_getIv (pc := 81) fX9_266 rfl rfl hυ.2.1 dX9_behind_81 ?_
              refine A_goto (pc := 84) 94 dX9_behind_84 (by decide) ?_
              refine A_iret (pc := 94) rfl dX9_behind_94 ?_
              exact RQM (by unfold qBehind wkR; simp only [Int.toNat_natCast]; rw [ew, if_neg (by decide), if_neg (fun q => q h52), if_neg (by omega), if_pos (by omega)]) hZ2 hυ.1.mc
          · skip
            refine A_aload_n (pc := 67) dX9_behind_67 rfl rfl ?_
            refine A_getIv (pc := 68) fX9_272 rfl rfl hυ.2.2.2.1 dX9_behind_68 ?_
            refine A_goto (pc := 71) 94 dX9_behind_71 (by decide) ?_
            refine A_iret (pc := 94) rfl dX9_behind_94 ?_
            exact RQM (by unfold qBehind wkR; simp only [Int.toNat_natCast]; rw [ew, if_neg (by decide), if_neg (fun q => q h52), if_pos (by omega)]) hZ2 hυ.1.mc
        · skip
          refine A_aload_n (pc := 55) dX9_behind_55 rfl rfl ?_
          refine A_bipush (pc := 56) dX9_behind_56 (by decide) ?_
          refine A_callVe (pc := 58) kX9_79 rfl rfl (c_X9_no hZ2 hO (t := -6) (by omega) (by omega)) dX9_behind_58 rfl rfl (Nat.le_of_ble_eq_true rfl) (Nat.le_of_ble_eq_true rfl) (fun ω hω => ?_)
          refine A_iret (pc := 61) rfl dX9_behind_61 ?_
          exact RQM (by unfold qBehind wkR; simp only [Int.toNat_natCast]; rw [ew, if_neg (by decide), if_pos h52]; rfl) hω.1 (hυ.1.mc.tr (hω.2.mono MC70))
    · skip
      refine A_aload_n (pc := 31) dX9_behind_31 rfl rfl ?_
      refine A_bipush (pc := 32) dX9_behind_32 (by decide) ?_
      refine A_callVe (pc := 34) kX9_79 rfl rfl (c_X9_no hZ hO (t := -5) (by omega) (by omega)) dX9_behind_34 rfl rfl (Nat.le_of_ble_eq_true rfl) (Nat.le_of_ble_eq_true rfl) (fun υ hυ => ?_)
      refine A_iret (pc := 37) rfl dX9_behind_37 ?_
      rw [if_neg (by omega), if_pos h28] at ew
      exact RQM (by unfold qBehind; rw [ew, if_pos (by decide)]; rfl) hυ.1 (hυ.2.mono MC70)
  · skip
    refine A_aload_n (pc := 14) dX9_behind_14 rfl rfl ?_
    refine A_iload (pc := 15) dX9_behind_15 rfl ?_
    refine A_callVe (pc := 17) kX9_79 rfl rfl (c_X9_no hZ hO (t := nwT Z s p n) (by omega) (by omega)) dX9_behind_17 rfl rfl (Nat.le_of_ble_eq_true rfl) (Nat.le_of_ble_eq_true rfl) (fun υ hυ => ?_)
    refine A_iret (pc := 20) rfl dX9_behind_20 ?_
    exact RQM (by unfold qBehind; rw [ew, if_pos (by omega), if_pos (by omega)]; rfl) hυ.1 (hυ.2.mono MC70)
theorem dX9_done_0 : decode cX9_done 0 = .ok (.aload_n 0, 1) := by decide +kernel
theorem dX9_done_1 : decode cX9_done 1 = .ok (.iload_n 1, 1) := by decide +kernel
theorem dX9_done_2 : decode cX9_done 2 = .ok (.iload_n 2, 1) := by decide +kernel
theorem dX9_done_3 : decode cX9_done 3 = .ok (.iload_n 3, 1) := by decide +kernel
theorem dX9_done_4 : decode cX9_done 4 = .ok (.invokevirtual 278, 3) := by decide +kernel
theorem dX9_done_7 : decode cX9_done 7 = .ok (.istore 4, 2) := by decide +kernel
theorem dX9_done_9 : decode cX9_done 9 = .ok (.iload 4, 2) := by decide +kernel
theorem dX9_done_11 : decode cX9_done 11 = .ok (.ifCond .ge 10, 3) := by decide +kernel
theorem dX9_done_14 : decode cX9_done 14 = .ok (.aload_n 0, 1) := by decide +kernel
theorem dX9_done_15 : decode cX9_done 15 = .ok (.iload 4, 2) := by decide +kernel
theorem dX9_done_17 : decode cX9_done 17 = .ok (.invokevirtual 79, 3) := by decide +kernel
theorem dX9_done_20 : decode cX9_done 20 = .ok (.ireturn, 1) := by decide +kernel
theorem dX9_done_21 : decode cX9_done 21 = .ok (.iload_n 3, 1) := by decide +kernel
theorem dX9_done_22 : decode cX9_done 22 = .ok (.bipush 60, 2) := by decide +kernel
theorem dX9_done_24 : decode cX9_done 24 = .ok (.if_icmp .gt 14, 3) := by decide +kernel
theorem dX9_done_27 : decode cX9_done 27 = .ok (.aload_n 0, 1) := by decide +kernel
theorem dX9_done_28 : decode cX9_done 28 = .ok (.iload_n 1, 1) := by decide +kernel
theorem dX9_done_29 : decode cX9_done 29 = .ok (.iload_n 2, 1) := by decide +kernel
theorem dX9_done_30 : decode cX9_done 30 = .ok (.iload_n 3, 1) := by decide +kernel
theorem dX9_done_31 : decode cX9_done 31 = .ok (.invokevirtual 282, 3) := by decide +kernel
theorem dX9_done_34 : decode cX9_done 34 = .ok (.iconst (-1), 1) := by decide +kernel
theorem dX9_done_35 : decode cX9_done 35 = .ok (.if_icmp .eq 10, 3) := by decide +kernel
theorem dX9_done_38 : decode cX9_done 38 = .ok (.aload_n 0, 1) := by decide +kernel
theorem dX9_done_39 : decode cX9_done 39 = .ok (.bipush (-6), 2) := by decide +kernel
theorem dX9_done_41 : decode cX9_done 41 = .ok (.invokevirtual 79, 3) := by decide +kernel
theorem dX9_done_44 : decode cX9_done 44 = .ok (.ireturn, 1) := by decide +kernel
theorem dX9_done_45 : decode cX9_done 45 = .ok (.aload_n 0, 1) := by decide +kernel
theorem dX9_done_46 : decode cX9_done 46 = .ok (.getfield 22, 3) := by decide +kernel
theorem dX9_done_49 : decode cX9_done 49 = .ok (.iload_n 2, 1) := by decide +kernel
theorem dX9_done_50 : decode cX9_done 50 = .ok (.aload_n 0, 1) := by decide +kernel
theorem dX9_done_51 : decode cX9_done 51 = .ok (.getfield 266, 3) := by decide +kernel
theorem dX9_done_54 : decode cX9_done 54 = .ok (.iastore, 1) := by decide +kernel
theorem dX9_done_55 : decode cX9_done 55 = .ok (.aload_n 0, 1) := by decide +kernel
theorem dX9_done_56 : decode cX9_done 56 = .ok (.getfield 25, 3) := by decide +kernel
theorem dX9_done_59 : decode cX9_done 59 = .ok (.iload_n 2, 1) := by decide +kernel
theorem dX9_done_60 : decode cX9_done 60 = .ok (.aload_n 0, 1) := by decide +kernel
theorem dX9_done_61 : decode cX9_done 61 = .ok (.getfield 269, 3) := by decide +kernel
theorem dX9_done_64 : decode cX9_done 64 = .ok (.iastore, 1) := by decide +kernel
theorem dX9_done_65 : decode cX9_done 65 = .ok (.aload_n 0, 1) := by decide +kernel
theorem dX9_done_66 : decode cX9_done 66 = .ok (.getfield 272, 3) := by decide +kernel
theorem dX9_done_69 : decode cX9_done 69 = .ok (.ifCond .le 13, 3) := by decide +kernel
theorem dX9_done_72 : decode cX9_done 72 = .ok (.aload_n 0, 1) := by decide +kernel
theorem dX9_done_73 : decode cX9_done 73 = .ok (.getfield 28, 3) := by decide +kernel
theorem dX9_done_76 : decode cX9_done 76 = .ok (.iload_n 2, 1) := by decide +kernel
theorem dX9_done_77 : decode cX9_done 77 = .ok (.dup2, 1) := by decide +kernel
theorem dX9_done_78 : decode cX9_done 78 = .ok (.iaload, 1) := by decide +kernel
theorem dX9_done_79 : decode cX9_done 79 = .ok (.iconst 1, 1) := by decide +kernel
theorem dX9_done_80 : decode cX9_done 80 = .ok (.iadd, 1) := by decide +kernel
theorem dX9_done_81 : decode cX9_done 81 = .ok (.iastore, 1) := by decide +kernel
theorem dX9_done_82 : decode cX9_done 82 = .ok (.aload_n 0, 1) := by decide +kernel
theorem dX9_done_83 : decode cX9_done 83 = .ok (.getfield 35, 3) := by decide +kernel
theorem dX9_done_86 : decode cX9_done 86 = .ok (.iconst 2, 1) := by decide +kernel
theorem dX9_done_87 : decode cX9_done 87 = .ok (.dup2, 1) := by decide +kernel
theorem dX9_done_88 : decode cX9_done 88 = .ok (.iaload, 1) := by decide +kernel
theorem dX9_done_89 : decode cX9_done 89 = .ok (.aload_n 0, 1) := by decide +kernel
theorem dX9_done_90 : decode cX9_done 90 = .ok (.getfield 272, 3) := by decide +kernel
theorem dX9_done_93 : decode cX9_done 93 = .ok (.iadd, 1) := by decide +kernel
theorem dX9_done_94 : decode cX9_done 94 = .ok (.iastore, 1) := by decide +kernel
theorem dX9_done_95 : decode cX9_done 95 = .ok (.aload_n 0, 1) := by decide +kernel
theorem dX9_done_96 : decode cX9_done 96 = .ok (.getfield 35, 3) := by decide +kernel
theorem dX9_done_99 : decode cX9_done 99 = .ok (.iconst 2, 1) := by decide +kernel
theorem dX9_done_100 : decode cX9_done 100 = .ok (.iaload, 1) := by decide +kernel
theorem dX9_done_101 : decode cX9_done 101 = .ok (.ireturn, 1) := by decide +kernel
set_option maxRecDepth 20000 in
theorem c_X9_done {G : Gl} {d : Nat} {σ : Sg} {Z : Zt} (hZ : RelM Z σ) (hO : OkZ Z) {s : Int} (hs1 : -2147483648 ≤ s) (hs2 : s < 2147483648) {p : Int} (hp1 : -2147483648 ≤ p) (hp2 : p < 2147483648) {n : Int} (hn1 : -2147483648 ≤ n) (hn2 : n < 2147483648) : CT G (d + 4) yX9_done cX9_done 5 (some .int) [.ref (gA G 54), .int (iI s), .int (iI p), .int (iI n)] σ (RE (some (.int (iI (qDone Z s p n).1))) (fun υ => RelM (qDone Z s p n).2 υ ∧ Fr MC σ υ)) := by
  refine CT.of (by decide +kernel) (Nat.le_of_ble_eq_true rfl) ?_
  change AW G _ RX9 _ _ _ 0 [(0, .ref (gA G 54)), (1, .int (iI s)), (2, .int (iI p)), (3, .int (iI n))] [] _ _
  have hwt := nwT_rng Z s p n
  have ew : wkT Z s p n True = _ := wkT_nw
  have o5 := hO.1.2.2.2.2.1
  refine A_aload_n (pc := 0) dX9_done_0 rfl rfl ?_
  refine A_iload_n (pc := 1) dX9_done_1 rfl rfl ?_
  refine A_iload_n (pc := 2) dX9_done_2 rfl rfl ?_
  refine A_iload_n (pc := 3) dX9_done_3 rfl rfl ?_
  refine A_callV1 (pc := 4) kX9_278 rfl rfl (c_X9_noWalk hZ hO hs1 hs2 hp1 hp2 hn1 hn2) dX9_done_4 rfl rfl (Nat.le_of_ble_eq_true rfl) (Nat.le_of_ble_eq_true rfl) ?_
  refine A_istore (pc := 7) dX9_done_7 (Nat.le_of_ble_eq_true rfl) ?_
  refine A_iload (pc := 9) dX9_done_9 rfl ?_
  refine A_if_ge (pc := 11) 21 dX9_done_11 (by decide) (by omega) (by omega) (fun h11 => ?_) (fun h11 => ?_)
  · skip
    rw [if_neg (by omega), if_neg (fun q => q trivial)] at ew
    obtain ⟨⟨g1, g2⟩, ⟨g3, g4⟩, g5, g6, g7⟩ := nwT_0 (show nwT Z s p n = 0 by omega)
    obtain ⟨k, rfl⟩ := Int.eq_ofNat_of_zero_le (show 0 ≤ s by omega)
    obtain ⟨j, rfl⟩ := Int.eq_ofNat_of_zero_le (show 0 ≤ p by omega)
    obtain ⟨m, rfl⟩ := Int.eq_ofNat_of_zero_le (show 0 ≤ n by omega)
    have k8 : k < 8 := by omega
    have q9 := hO.1.2.2.2.2.2.2.2.2 j g4
    have wok := fun z : m ≤ 60 => wkG_ok (τ := Z.1) (e := elV Z k) (n := m) (i := 0) (a := Z.1.2.2 4 j) (f := Z.1.2.2 5 j) (s := 0) (l := 0) ⟨q9.1, by omega⟩ q9.2.2.1 (by omega) (by omega)
    refine A_iload_n (pc := 21) dX9_done_21 rfl rfl ?_
    refine A_bipush (pc := 22) dX9_done_22 (by decide) ?_
    refine A_icmp_gt (pc := 24) 38 dX9_done_24 (by decide) (by omega) (by omega) (by omega) (by omega) (fun h24 => ?_) (fun h24 => ?_)
    · skip
      refine A_aload_n (pc := 38) dX9_done_38 rfl rfl ?_
      refine A_bipush (pc := 39) dX9_done_39 (by decide) ?_
      refine A_callVe (pc := 41) kX9_79 rfl rfl (c_X9_no hZ hO (t := -6) (by omega) (by omega)) dX9_done_41 rfl rfl (Nat.le_of_ble_eq_true rfl) (Nat.le_of_ble_eq_true rfl) (fun υ hυ => ?_)
      refine A_iret (pc := 44) rfl dX9_done_44 ?_
      rw [if_pos (by omega)] at ew
      exact RQM (by unfold qDone; rw [ew, if_pos (by decide)]; rfl) hυ.1 (hυ.2.mono MC70)
    · skip
      refine A_aload_n (pc := 27) dX9_done_27 rfl rfl ?_
      refine A_iload_n (pc := 28) dX9_done_28 rfl rfl ?_
      refine A_iload_n (pc := 29) dX9_done_29 rfl rfl ?_
      refine A_iload_n (pc := 30) dX9_done_30 rfl rfl ?_
      refine A_callVe (pc := 31) kX9_282 rfl rfl (c_X9_walks hZ hO k8 (show m ≤ 60 by omega) g4) dX9_done_31 rfl rfl (Nat.le_of_ble_eq_true rfl) (Nat.le_of_ble_eq_true rfl) (fun υ hυ => ?_)
      have hZ2 := hυ.1.rel hZ
      have wk := (wok (by omega)).1
      have ws := (wok (by omega)).2.2.2
      rw [if_neg (by omega)] at ew
      refine A_iconst (pc := 34) dX9_done_34 ?_
      refine A_icmp_eq (pc := 35) 45 dX9_done_35 (by decide) (by omega) (by omega) (by omega) (by omega) (fun h35 => ?_) (fun h35 => ?_)
      · skip
        refine A_aload_n (pc := 45) dX9_done_45 rfl rfl ?_
        refine A_getR (pc := 46) fX9_22 rfl rfl dX9_done_46 ?_
        refine A_iload_n (pc := 49) dX9_done_49 rfl rfl ?_
        refine A_aload_n (pc := 50) dX9_done_50 rfl rfl ?_
        refine A_getIv (pc := 51) fX9_266 rfl rfl hυ.2.1 dX9_done_51 ?_
        refine A_iast (pc := 54) j rfl rfl (by omega) (Nat.le_of_ble_eq_true rfl) dX9_done_54 ?_
        refine A_aload_n (pc := 55) dX9_done_55 rfl rfl ?_
        refine A_getR (pc := 56) fX9_25 rfl rfl dX9_done_56 ?_
        refine A_iload_n (pc := 59) dX9_done_59 rfl rfl ?_
        refine A_aload_n (pc := 60) dX9_done_60 rfl rfl ?_
        refine A_getIv (pc := 61) fX9_269 rfl rfl (show _ = (wkG Z.1 (elV Z k) m 0 (Z.1.2.2 4 j) (Z.1.2.2 5 j) 0 0).2.2.1 from by (repeat rw [uI_at, if_neg (by omega)]); exact hυ.2.2.1) dX9_done_61 ?_
        refine A_iast (pc := 64) j rfl rfl (by omega) (Nat.le_of_ble_eq_true rfl) dX9_done_64 ?_
        have h1 : RMt (plc Z.1 j (wkG Z.1 (elV Z k) m 0 (Z.1.2.2 4 j) (Z.1.2.2 5 j) 0 0).2.1 (wkG Z.1 (elV Z k) m 0 (Z.1.2.2 4 j) (Z.1.2.2 5 j) 0 0).2.2.1) (uI (uI υ 59 j (wkG Z.1 (elV Z k) m 0 (Z.1.2.2 4 j) (Z.1.2.2 5 j) 0 0).2.1) 60 j (wkG Z.1 (elV Z k) m 0 (Z.1.2.2 4 j) (Z.1.2.2 5 j) 0 0).2.2.1) := (hZ2.1.setA 4 j (wkG Z.1 (elV Z k) m 0 (Z.1.2.2 4 j) (Z.1.2.2 5 j) 0 0).2.1 (by decide)).setA 5 j (wkG Z.1 (elV Z k) m 0 (Z.1.2.2 4 j) (Z.1.2.2 5 j) 0 0).2.2.1 (by decide)
        refine A_aload_n (pc := 65) dX9_done_65 rfl rfl ?_
        refine A_getIv (pc := 66) fX9_272 rfl rfl (show _ = (wkG Z.1 (elV Z k) m 0 (Z.1.2.2 4 j) (Z.1.2.2 5 j) 0 0).2.2.2.1 from by (repeat rw [uI_at, if_neg (by omega)]); exact hυ.2.2.2.1) dX9_done_66 ?_
        refine A_if_le (pc := 69) 82 dX9_done_69 (by decide) (by omega) (by omega) (fun h69 => ?_) (fun h69 => ?_)
        · skip
          refine A_aload_n (pc := 82) dX9_done_82 rfl rfl ?_
          refine A_getR (pc := 83) fX9_35 rfl rfl dX9_done_83 ?_
          refine A_iconst (pc := 86) dX9_done_86 ?_
          refine A_dup2 (pc := 87) dX9_done_87 rfl rfl ?_
          refine A_ialdv (pc := 88) 2 rfl rfl (by decide) (Nat.le_of_ble_eq_true rfl) (show _ = Z.1.2.1 4 from by first | exact h1.2.2.2.1 2 (by decide) | (rw [uI_at, if_neg (by omega)]; exact h1.2.2.2.1 2 (by decide))) dX9_done_88 ?_
          refine A_aload_n (pc := 89) dX9_done_89 rfl rfl ?_
          refine A_getIv (pc := 90) fX9_272 rfl rfl (show _ = (wkG Z.1 (elV Z k) m 0 (Z.1.2.2 4 j) (Z.1.2.2 5 j) 0 0).2.2.2.1 from by (repeat rw [uI_at, if_neg (by omega)]); exact hυ.2.2.2.1) dX9_done_90 ?_
          refine A_iadd (pc := 93) dX9_done_93 ?_
          refine A_iast (pc := 94) 2 rfl rfl (by decide) (Nat.le_of_ble_eq_true rfl) dX9_done_94 ?_
          refine A_aload_n (pc := 95) dX9_done_95 rfl rfl ?_
          refine A_getR (pc := 96) fX9_35 rfl rfl dX9_done_96 ?_
          refine A_iconst (pc := 99) dX9_done_99 ?_
          refine A_ialdv (pc := 100) 2 rfl rfl (by decide) (Nat.le_of_ble_eq_true rfl) (show _ = Z.1.2.1 4 + (wkG Z.1 (elV Z k) m 0 (Z.1.2.2 4 j) (Z.1.2.2 5 j) 0 0).2.2.2.1 from by rw [uI_at, if_pos ⟨rfl, rfl⟩]) dX9_done_100 ?_
          refine A_iret (pc := 101) rfl dX9_done_101 ?_
          have e : bea (plc Z.1 j (wkG Z.1 (elV Z k) m 0 (Z.1.2.2 4 j) (Z.1.2.2 5 j) 0 0).2.1 (wkG Z.1 (elV Z k) m 0 (Z.1.2.2 4 j) (Z.1.2.2 5 j) 0 0).2.2.1) j (wkG Z.1 (elV Z k) m 0 (Z.1.2.2 4 j) (Z.1.2.2 5 j) 0 0).2.2.2.1 = tS (plc Z.1 j (wkG Z.1 (elV Z k) m 0 (Z.1.2.2 4 j) (Z.1.2.2 5 j) 0 0).2.1 (wkG Z.1 (elV Z k) m 0 (Z.1.2.2 4 j) (Z.1.2.2 5 j) 0 0).2.2.1) 4 (Z.1.2.1 4 + (wkG Z.1 (elV Z k) m 0 (Z.1.2.2 4 j) (Z.1.2.2 5 j) 0 0).2.2.2.1) := by unfold bea; rw [if_neg (by omega)]; rfl
          have hM3 : RMt (tS (plc Z.1 j (wkG Z.1 (elV Z k) m 0 (Z.1.2.2 4 j) (Z.1.2.2 5 j) 0 0).2.1 (wkG Z.1 (elV Z k) m 0 (Z.1.2.2 4 j) (Z.1.2.2 5 j) 0 0).2.2.1) 4 (Z.1.2.1 4 + (wkG Z.1 (elV Z k) m 0 (Z.1.2.2 4 j) (Z.1.2.2 5 j) 0 0).2.2.2.1)) _ := h1.setW (k := 2) (Z.1.2.1 4 + (wkG Z.1 (elV Z k) m 0 (Z.1.2.2 4 j) (Z.1.2.2 5 j) 0 0).2.2.2.1) (by decide)
          rw [← e] at hM3
          have hfin := hZ2.townp hM3 (((MTp.rf.u (by decide) (by decide)).u (by decide) (by decide)).u (by decide) (by decide))
          exact RQM (by unfold qDone wkD wkR; simp only [Int.toNat_natCast]; rw [ew, if_neg (by decide), if_neg (fun q => q h35), e]; rfl) hfin.1 (hυ.1.mc.tr hfin.2)
        · skip
          refine A_aload_n (pc := 72) dX9_done_72 rfl rfl ?_
          refine A_getR (pc := 73) fX9_28 rfl rfl dX9_done_73 ?_
          refine A_iload_n (pc := 76) dX9_done_76 rfl rfl ?_
          refine A_dup2 (pc := 77) dX9_done_77 rfl rfl ?_
          refine A_ialdv (pc := 78) j rfl rfl (by omega) (Nat.le_of_ble_eq_true rfl) (show _ = (plc Z.1 j (wkG Z.1 (elV Z k) m 0 (Z.1.2.2 4 j) (Z.1.2.2 5 j) 0 0).2.1 (wkG Z.1 (elV Z k) m 0 (Z.1.2.2 4 j) (Z.1.2.2 5 j) 0 0).2.2.1).2.2 6 j from h1.wt (p := j) (show (j : Int) < Z.1.2.1 1 from g4)) dX9_done_78 ?_
          refine A_iconst (pc := 79) dX9_done_79 ?_
          refine A_iadd (pc := 80) dX9_done_80 ?_
          refine A_iast (pc := 81) j rfl rfl (by omega) (Nat.le_of_ble_eq_true rfl) dX9_done_81 ?_
          refine A_aload_n (pc := 82) dX9_done_82 rfl rfl ?_
          refine A_getR (pc := 83) fX9_35 rfl rfl dX9_done_83 ?_
          refine A_iconst (pc := 86) dX9_done_86 ?_
          refine A_dup2 (pc := 87) dX9_done_87 rfl rfl ?_
          refine A_ialdv (pc := 88) 2 rfl rfl (by decide) (Nat.le_of_ble_eq_true rfl) (show _ = Z.1.2.1 4 from by first | exact h1.2.2.2.1 2 (by decide) | (rw [uI_at, if_neg (by omega)]; exact h1.2.2.2.1 2 (by decide))) dX9_done_88 ?_
          refine A_aload_n (pc := 89) dX9_done_89 rfl rfl ?_
          refine A_getIv (pc := 90) fX9_272 rfl rfl (show _ = (wkG Z.1 (elV Z k) m 0 (Z.1.2.2 4 j) (Z.1.2.2 5 j) 0 0).2.2.2.1 from by (repeat rw [uI_at, if_neg (by omega)]); exact hυ.2.2.2.1) dX9_done_90 ?_
          refine A_iadd (pc := 93) dX9_done_93 ?_
          refine A_iast (pc := 94) 2 rfl rfl (by decide) (Nat.le_of_ble_eq_true rfl) dX9_done_94 ?_
          refine A_aload_n (pc := 95) dX9_done_95 rfl rfl ?_
          refine A_getR (pc := 96) fX9_35 rfl rfl dX9_done_96 ?_
          refine A_iconst (pc := 99) dX9_done_99 ?_
          refine A_ialdv (pc := 100) 2 rfl rfl (by decide) (Nat.le_of_ble_eq_true rfl) (show _ = Z.1.2.1 4 + (wkG Z.1 (elV Z k) m 0 (Z.1.2.2 4 j) (Z.1.2.2 5 j) 0 0).2.2.2.1 from by rw [uI_at, if_pos ⟨rfl, rfl⟩]) dX9_done_100 ?_
          refine A_iret (pc := 101) rfl dX9_done_101 ?_
          have e : bea (plc Z.1 j (wkG Z.1 (elV Z k) m 0 (Z.1.2.2 4 j) (Z.1.2.2 5 j) 0 0).2.1 (wkG Z.1 (elV Z k) m 0 (Z.1.2.2 4 j) (Z.1.2.2 5 j) 0 0).2.2.1) j (wkG Z.1 (elV Z k) m 0 (Z.1.2.2 4 j) (Z.1.2.2 5 j) 0 0).2.2.2.1 = tS (tA (plc Z.1 j (wkG Z.1 (elV Z k) m 0 (Z.1.2.2 4 j) (Z.1.2.2 5 j) 0 0).2.1 (wkG Z.1 (elV Z k) m 0 (Z.1.2.2 4 j) (Z.1.2.2 5 j) 0 0).2.2.1) 6 j ((plc Z.1 j (wkG Z.1 (elV Z k) m 0 (Z.1.2.2 4 j) (Z.1.2.2 5 j) 0 0).2.1 (wkG Z.1 (elV Z k) m 0 (Z.1.2.2 4 j) (Z.1.2.2 5 j) 0 0).2.2.1).2.2 6 j + 1)) 4 (Z.1.2.1 4 + (wkG Z.1 (elV Z k) m 0 (Z.1.2.2 4 j) (Z.1.2.2 5 j) 0 0).2.2.2.1) := by unfold bea; rw [if_pos (by omega)]; rfl
          have hM3 : RMt (tS (tA (plc Z.1 j (wkG Z.1 (elV Z k) m 0 (Z.1.2.2 4 j) (Z.1.2.2 5 j) 0 0).2.1 (wkG Z.1 (elV Z k) m 0 (Z.1.2.2 4 j) (Z.1.2.2 5 j) 0 0).2.2.1) 6 j ((plc Z.1 j (wkG Z.1 (elV Z k) m 0 (Z.1.2.2 4 j) (Z.1.2.2 5 j) 0 0).2.1 (wkG Z.1 (elV Z k) m 0 (Z.1.2.2 4 j) (Z.1.2.2 5 j) 0 0).2.2.1).2.2 6 j + 1)) 4 (Z.1.2.1 4 + (wkG Z.1 (elV Z k) m 0 (Z.1.2.2 4 j) (Z.1.2.2 5 j) 0 0).2.2.2.1)) _ := (h1.setA 6 j ((plc Z.1 j (wkG Z.1 (elV Z k) m 0 (Z.1.2.2 4 j) (Z.1.2.2 5 j) 0 0).2.1 (wkG Z.1 (elV Z k) m 0 (Z.1.2.2 4 j) (Z.1.2.2 5 j) 0 0).2.2.1).2.2 6 j + 1) (by decide)).setW (k := 2) (Z.1.2.1 4 + (wkG Z.1 (elV Z k) m 0 (Z.1.2.2 4 j) (Z.1.2.2 5 j) 0 0).2.2.2.1) (by decide)
          rw [← e] at hM3
          have hfin := hZ2.townp hM3 ((((MTp.rf.u (by decide) (by decide)).u (by decide) (by decide)).u (by decide) (by decide)).u (by decide) (by decide))
          exact RQM (by unfold qDone wkD wkR; simp only [Int.toNat_natCast]; rw [ew, if_neg (by decide), if_neg (fun q => q h35), e]; rfl) hfin.1 (hυ.1.mc.tr hfin.2)
      · skip
        refine A_aload_n (pc := 38) dX9_done_38 rfl rfl ?_
        refine A_bipush (pc := 39) dX9_done_39 (by decide) ?_
        refine A_callVe (pc := 41) kX9_79 rfl rfl (c_X9_no hZ2 hO (t := -6) (by omega) (by omega)) dX9_done_41 rfl rfl (Nat.le_of_ble_eq_true rfl) (Nat.le_of_ble_eq_true rfl) (fun ω hω => ?_)
        refine A_iret (pc := 44) rfl dX9_done_44 ?_
        exact RQM (by unfold qDone wkR; simp only [Int.toNat_natCast]; rw [ew, if_neg (by decide), if_pos h35]; rfl) hω.1 (hυ.1.mc.tr (hω.2.mono MC70))
  · skip
    refine A_aload_n (pc := 14) dX9_done_14 rfl rfl ?_
    refine A_iload (pc := 15) dX9_done_15 rfl ?_
    refine A_callVe (pc := 17) kX9_79 rfl rfl (c_X9_no hZ hO (t := nwT Z s p n) (by omega) (by omega)) dX9_done_17 rfl rfl (Nat.le_of_ble_eq_true rfl) (Nat.le_of_ble_eq_true rfl) (fun υ hυ => ?_)
    refine A_iret (pc := 20) rfl dX9_done_20 ?_
    exact RQM (by unfold qDone; rw [ew, if_pos (by omega), if_pos (by omega)]; rfl) hυ.1 (hυ.2.mono MC70)
