/-! PART 32: judge, behind, done of the class; the reference's walk -/
theorem wkT_c {Z : Zt} {s p n : Int} {ok ok2 : Prop} [i1 : Decidable ok] [i2 : Decidable ok2] (h : ok ↔ ok2) : wkT Z s p n ok = wkT Z s p n ok2 := by
  obtain rfl : ok = ok2 := propext h
  have e : i1 = i2 := Subsingleton.elim _ _
  rw [e]
def nwT (Z : Zt) (s p n : Int) : Int := if ¬ ((0 ≤ s ∧ s < 8) ∧ (0 ≤ p ∧ p < Z.1.2.1 1)) then -1 else if rowT Z s ≠ 0 then rowT Z s else if n < 0 then -4 else if Z.2.1.2.1 s.toNat < n then -5 else 0
theorem nwT_rng (Z : Zt) (s p n : Int) : -5 ≤ nwT Z s p n ∧ nwT Z s p n ≤ 0 := by
  have := rowT_rng Z s
  unfold nwT; (repeat' split) <;> omega
theorem wkT_nw {Z : Zt} {s p n : Int} {ok : Prop} [Decidable ok] : wkT Z s p n ok = if nwT Z s p n ≠ 0 then nwT Z s p n else if ¬ ok then -5 else if 60 < n then -6 else 0 := by
  by_cases h1 : (0 ≤ s ∧ s < 8) ∧ (0 ≤ p ∧ p < Z.1.2.1 1)
  · by_cases h2 : rowT Z s = 0
    · by_cases h3 : n < 0
      · have e : nwT Z s p n = -4 := by unfold nwT; rw [if_neg (fun q => q h1), if_neg (fun q => q h2), if_pos h3]
        rw [e, if_pos (by decide)]
        unfold wkT
        rw [if_neg (fun q => q h1), if_neg (fun q => q h2), if_pos h3]
      · by_cases h4 : Z.2.1.2.1 s.toNat < n
        · have e : nwT Z s p n = -5 := by unfold nwT; rw [if_neg (fun q => q h1), if_neg (fun q => q h2), if_neg h3, if_pos h4]
          rw [e, if_pos (by decide)]
          unfold wkT
          rw [if_neg (fun q => q h1), if_neg (fun q => q h2), if_neg h3, if_pos (Or.inr (by omega))]
        · have e : nwT Z s p n = 0 := by unfold nwT; rw [if_neg (fun q => q h1), if_neg (fun q => q h2), if_neg h3, if_neg h4]
          rw [e, if_neg (fun q => q rfl)]
          unfold wkT
          rw [if_neg (fun q => q h1), if_neg (fun q => q h2), if_neg h3]
          by_cases h5 : ok
          · rw [if_neg (fun q => q.elim (fun z => z h5) (fun z => z (by omega))), if_neg (show ¬ ¬ ok from fun q => q h5)]
          · rw [if_pos (Or.inl h5), if_pos h5]
    · have e : nwT Z s p n = rowT Z s := by unfold nwT; rw [if_neg (fun q => q h1), if_pos h2]
      rw [e, if_pos h2]
      unfold wkT
      rw [if_neg (fun q => q h1), if_pos h2]
  · have e : nwT Z s p n = -1 := by unfold nwT; rw [if_pos h1]
    rw [e, if_pos (by decide)]
    unfold wkT
    rw [if_pos h1]
theorem dX8_judge_0 : decode cX8_judge 0 = .ok (.aload_n 0, 1) := by decide +kernel
theorem dX8_judge_1 : decode cX8_judge 1 = .ok (.iload_n 1, 1) := by decide +kernel
theorem dX8_judge_2 : decode cX8_judge 2 = .ok (.iload_n 2, 1) := by decide +kernel
theorem dX8_judge_3 : decode cX8_judge 3 = .ok (.iload_n 3, 1) := by decide +kernel
theorem dX8_judge_4 : decode cX8_judge 4 = .ok (.iconst 1, 1) := by decide +kernel
theorem dX8_judge_5 : decode cX8_judge 5 = .ok (.invokevirtual 312, 3) := by decide +kernel
theorem dX8_judge_8 : decode cX8_judge 8 = .ok (.istore 4, 2) := by decide +kernel
theorem dX8_judge_10 : decode cX8_judge 10 = .ok (.iload 4, 2) := by decide +kernel
theorem dX8_judge_12 : decode cX8_judge 12 = .ok (.ifCond .eq 10, 3) := by decide +kernel
theorem dX8_judge_15 : decode cX8_judge 15 = .ok (.aload_n 0, 1) := by decide +kernel
theorem dX8_judge_16 : decode cX8_judge 16 = .ok (.iload 4, 2) := by decide +kernel
theorem dX8_judge_18 : decode cX8_judge 18 = .ok (.invokevirtual 239, 3) := by decide +kernel
theorem dX8_judge_21 : decode cX8_judge 21 = .ok (.ireturn, 1) := by decide +kernel
theorem dX8_judge_22 : decode cX8_judge 22 = .ok (.aload_n 0, 1) := by decide +kernel
theorem dX8_judge_23 : decode cX8_judge 23 = .ok (.getfield 50, 3) := by decide +kernel
theorem dX8_judge_26 : decode cX8_judge 26 = .ok (.aload_n 0, 1) := by decide +kernel
theorem dX8_judge_27 : decode cX8_judge 27 = .ok (.getfield 10, 3) := by decide +kernel
theorem dX8_judge_30 : decode cX8_judge 30 = .ok (.iload_n 2, 1) := by decide +kernel
theorem dX8_judge_31 : decode cX8_judge 31 = .ok (.aload_n 0, 1) := by decide +kernel
theorem dX8_judge_32 : decode cX8_judge 32 = .ok (.getfield 25, 3) := by decide +kernel
theorem dX8_judge_35 : decode cX8_judge 35 = .ok (.iload_n 1, 1) := by decide +kernel
theorem dX8_judge_36 : decode cX8_judge 36 = .ok (.aaload, 1) := by decide +kernel
theorem dX8_judge_37 : decode cX8_judge 37 = .ok (.iload_n 3, 1) := by decide +kernel
theorem dX8_judge_38 : decode cX8_judge 38 = .ok (.invokevirtual 316, 3) := by decide +kernel
theorem dX8_judge_41 : decode cX8_judge 41 = .ok (.aload_n 0, 1) := by decide +kernel
theorem dX8_judge_42 : decode cX8_judge 42 = .ok (.getfield 50, 3) := by decide +kernel
theorem dX8_judge_45 : decode cX8_judge 45 = .ok (.getfield 320, 3) := by decide +kernel
theorem dX8_judge_48 : decode cX8_judge 48 = .ok (.ireturn, 1) := by decide +kernel
set_option maxRecDepth 20000 in
theorem c_X8_judge {G : Gl} {d : Nat} {σ : Sg} {Z : Zt} (hZ : RelX Z σ) (hO : OkZ Z) {s : Int} (hs1 : -2147483648 ≤ s) (hs2 : s < 2147483648) {p : Int} (hp1 : -2147483648 ≤ p) (hp2 : p < 2147483648) {n : Int} (hn1 : -2147483648 ≤ n) (hn2 : n < 2147483648) : CT G (d + 4) yX8_judge cX8_judge 5 (some .int) [.ref (gA G 0), .int (iI s), .int (iI p), .int (iI n)] σ (RE (some (.int (iI (qJudge Z s p n).1))) (fun υ => RelX (qJudge Z s p n).2 υ ∧ Fr XC σ υ)) := by
  refine CT.of (by decide +kernel) (Nat.le_of_ble_eq_true rfl) ?_
  change AW G _ RX8 _ _ _ 0 [(0, .ref (gA G 0)), (1, .int (iI s)), (2, .int (iI p)), (3, .int (iI n))] [] _ _
  have hwt := wkT_rng Z s p n True
  refine A_aload_n (pc := 0) dX8_judge_0 rfl rfl ?_
  refine A_iload_n (pc := 1) dX8_judge_1 rfl rfl ?_
  refine A_iload_n (pc := 2) dX8_judge_2 rfl rfl ?_
  refine A_iload_n (pc := 3) dX8_judge_3 rfl rfl ?_
  refine A_iconst (pc := 4) dX8_judge_4 ?_
  refine A_callV1 (pc := 5) kX8_312 rfl rfl (c_X8_walkTrouble hZ hO hs1 hs2 hp1 hp2 hn1 hn2 (ok := True)) dX8_judge_5 rfl rfl (Nat.le_of_ble_eq_true rfl) (Nat.le_of_ble_eq_true rfl) ?_
  refine A_istore (pc := 8) dX8_judge_8 (Nat.le_of_ble_eq_true rfl) ?_
  refine A_iload (pc := 10) dX8_judge_10 rfl ?_
  refine A_if_eq (pc := 12) 22 dX8_judge_12 (by decide) (by omega) (by omega) (fun h12 => ?_) (fun h12 => ?_)
  · skip
    obtain ⟨⟨g1, g2⟩, ⟨g3, g4⟩, g5, g6, -, g7, g8⟩ := wkT_0 (show wkT Z s p n (True) = 0 by omega)
    obtain ⟨k, rfl⟩ := Int.eq_ofNat_of_zero_le (show 0 ≤ s by omega)
    obtain ⟨j, rfl⟩ := Int.eq_ofNat_of_zero_le (show 0 ≤ p by omega)
    obtain ⟨m, rfl⟩ := Int.eq_ofNat_of_zero_le (show 0 ≤ n by omega)
    have k8 : k < 8 := by omega
    simp only [Int.toNat_natCast] at g7
    have q9 := hO.1.2.2.2.2.2.2.2.2 j g4
    have wok := wkG_ok (τ := Z.1) (e := elV Z k) (n := m) (i := 0) (a := Z.1.2.2 4 j) (f := Z.1.2.2 5 j) (s := 0) (l := 0) ⟨q9.1, by omega⟩ q9.2.2.1 (by omega) (by omega)
    refine A_aload_n (pc := 22) dX8_judge_22 rfl rfl ?_
    refine A_getR (pc := 23) fX8_50 rfl rfl dX8_judge_23 ?_
    refine A_aload_n (pc := 26) dX8_judge_26 rfl rfl ?_
    refine A_getR (pc := 27) fX8_10 rfl rfl dX8_judge_27 ?_
    refine A_iload_n (pc := 30) dX8_judge_30 rfl rfl ?_
    refine A_aload_n (pc := 31) dX8_judge_31 rfl rfl ?_
    refine A_getR (pc := 32) fX8_25 rfl rfl dX8_judge_32 ?_
    refine A_iload_n (pc := 35) dX8_judge_35 rfl rfl ?_
    refine A_aald (pc := 36) _ rfl rfl (by omega) (Nat.le_of_ble_eq_true rfl) dX8_judge_36 ?_
    refine A_iload_n (pc := 37) dX8_judge_37 rfl rfl ?_
    refine A_callVe0 (pc := 38) kX8_316 rfl rfl (c_X6_follow hZ hO k8 g7 (by omega) g4) dX8_judge_38 rfl rfl (Nat.le_of_ble_eq_true rfl) (Nat.le_of_ble_eq_true rfl) (fun υ hυ => ?_)
    refine A_aload_n (pc := 41) dX8_judge_41 rfl rfl ?_
    refine A_getR (pc := 42) fX8_50 rfl rfl dX8_judge_42 ?_
    refine A_getIv (pc := 45) fX8_320 rfl rfl hυ.1.1 dX8_judge_45 ?_
    refine A_iret (pc := 48) rfl dX8_judge_48 ?_
    exact RQX (by unfold qJudge wkR; simp only [Int.toNat_natCast]; rw [if_neg (by omega)]) (hZ.fr hυ.2 S7X) (hυ.2.mono S7C)
  · skip
    refine A_aload_n (pc := 15) dX8_judge_15 rfl rfl ?_
    refine A_iload (pc := 16) dX8_judge_16 rfl ?_
    refine A_callVe (pc := 18) kX8_239 rfl rfl (c_X8_refuseApart hZ hO (t := wkT Z s p n True) (by omega) (by omega)) dX8_judge_18 rfl rfl (Nat.le_of_ble_eq_true rfl) (Nat.le_of_ble_eq_true rfl) (fun υ hυ => ?_)
    refine A_iret (pc := 21) rfl dX8_judge_21 ?_
    exact RQX (by unfold qJudge; rw [if_pos (by omega)]; rfl) hυ.1 (hυ.2.mono XC2)
theorem dX8_behind_0 : decode cX8_behind 0 = .ok (.aload_n 0, 1) := by decide +kernel
theorem dX8_behind_1 : decode cX8_behind 1 = .ok (.iload_n 1, 1) := by decide +kernel
theorem dX8_behind_2 : decode cX8_behind 2 = .ok (.iload_n 2, 1) := by decide +kernel
theorem dX8_behind_3 : decode cX8_behind 3 = .ok (.iload_n 3, 1) := by decide +kernel
theorem dX8_behind_4 : decode cX8_behind 4 = .ok (.iload 4, 2) := by decide +kernel
theorem dX8_behind_6 : decode cX8_behind 6 = .ok (.ifCond .lt 13, 3) := by decide +kernel
theorem dX8_behind_9 : decode cX8_behind 9 = .ok (.iload 4, 2) := by decide +kernel
theorem dX8_behind_11 : decode cX8_behind 11 = .ok (.iconst 2, 1) := by decide +kernel
theorem dX8_behind_12 : decode cX8_behind 12 = .ok (.if_icmp .gt 7, 3) := by decide +kernel
theorem dX8_behind_15 : decode cX8_behind 15 = .ok (.iconst 1, 1) := by decide +kernel
theorem dX8_behind_16 : decode cX8_behind 16 = .ok (.goto 4, 3) := by decide +kernel
theorem dX8_behind_19 : decode cX8_behind 19 = .ok (.iconst 0, 1) := by decide +kernel
theorem dX8_behind_20 : decode cX8_behind 20 = .ok (.invokevirtual 312, 3) := by decide +kernel
theorem dX8_behind_23 : decode cX8_behind 23 = .ok (.istore 5, 2) := by decide +kernel
theorem dX8_behind_25 : decode cX8_behind 25 = .ok (.iload 5, 2) := by decide +kernel
theorem dX8_behind_27 : decode cX8_behind 27 = .ok (.ifCond .eq 10, 3) := by decide +kernel
theorem dX8_behind_30 : decode cX8_behind 30 = .ok (.aload_n 0, 1) := by decide +kernel
theorem dX8_behind_31 : decode cX8_behind 31 = .ok (.iload 5, 2) := by decide +kernel
theorem dX8_behind_33 : decode cX8_behind 33 = .ok (.invokevirtual 76, 3) := by decide +kernel
theorem dX8_behind_36 : decode cX8_behind 36 = .ok (.ireturn, 1) := by decide +kernel
theorem dX8_behind_37 : decode cX8_behind 37 = .ok (.aload_n 0, 1) := by decide +kernel
theorem dX8_behind_38 : decode cX8_behind 38 = .ok (.getfield 50, 3) := by decide +kernel
theorem dX8_behind_41 : decode cX8_behind 41 = .ok (.aload_n 0, 1) := by decide +kernel
theorem dX8_behind_42 : decode cX8_behind 42 = .ok (.getfield 10, 3) := by decide +kernel
theorem dX8_behind_45 : decode cX8_behind 45 = .ok (.iload_n 2, 1) := by decide +kernel
theorem dX8_behind_46 : decode cX8_behind 46 = .ok (.aload_n 0, 1) := by decide +kernel
theorem dX8_behind_47 : decode cX8_behind 47 = .ok (.getfield 25, 3) := by decide +kernel
theorem dX8_behind_50 : decode cX8_behind 50 = .ok (.iload_n 1, 1) := by decide +kernel
theorem dX8_behind_51 : decode cX8_behind 51 = .ok (.aaload, 1) := by decide +kernel
theorem dX8_behind_52 : decode cX8_behind 52 = .ok (.iload_n 3, 1) := by decide +kernel
theorem dX8_behind_53 : decode cX8_behind 53 = .ok (.invokevirtual 316, 3) := by decide +kernel
theorem dX8_behind_56 : decode cX8_behind 56 = .ok (.aload_n 0, 1) := by decide +kernel
theorem dX8_behind_57 : decode cX8_behind 57 = .ok (.getfield 50, 3) := by decide +kernel
theorem dX8_behind_60 : decode cX8_behind 60 = .ok (.getfield 320, 3) := by decide +kernel
theorem dX8_behind_63 : decode cX8_behind 63 = .ok (.iconst (-1), 1) := by decide +kernel
theorem dX8_behind_64 : decode cX8_behind 64 = .ok (.if_icmp .eq 10, 3) := by decide +kernel
theorem dX8_behind_67 : decode cX8_behind 67 = .ok (.aload_n 0, 1) := by decide +kernel
theorem dX8_behind_68 : decode cX8_behind 68 = .ok (.bipush (-6), 2) := by decide +kernel
theorem dX8_behind_70 : decode cX8_behind 70 = .ok (.invokevirtual 76, 3) := by decide +kernel
theorem dX8_behind_73 : decode cX8_behind 73 = .ok (.ireturn, 1) := by decide +kernel
theorem dX8_behind_74 : decode cX8_behind 74 = .ok (.iload 4, 2) := by decide +kernel
theorem dX8_behind_76 : decode cX8_behind 76 = .ok (.lookupswitch 44 #[(0, 28), (1, 36)], 28) := by decide +kernel
theorem dX8_behind_104 : decode cX8_behind 104 = .ok (.aload_n 0, 1) := by decide +kernel
theorem dX8_behind_105 : decode cX8_behind 105 = .ok (.getfield 50, 3) := by decide +kernel
theorem dX8_behind_108 : decode cX8_behind 108 = .ok (.getfield 323, 3) := by decide +kernel
theorem dX8_behind_111 : decode cX8_behind 111 = .ok (.ireturn, 1) := by decide +kernel
theorem dX8_behind_112 : decode cX8_behind 112 = .ok (.aload_n 0, 1) := by decide +kernel
theorem dX8_behind_113 : decode cX8_behind 113 = .ok (.getfield 50, 3) := by decide +kernel
theorem dX8_behind_116 : decode cX8_behind 116 = .ok (.getfield 326, 3) := by decide +kernel
theorem dX8_behind_119 : decode cX8_behind 119 = .ok (.ireturn, 1) := by decide +kernel
theorem dX8_behind_120 : decode cX8_behind 120 = .ok (.aload_n 0, 1) := by decide +kernel
theorem dX8_behind_121 : decode cX8_behind 121 = .ok (.getfield 50, 3) := by decide +kernel
theorem dX8_behind_124 : decode cX8_behind 124 = .ok (.getfield 329, 3) := by decide +kernel
theorem dX8_behind_127 : decode cX8_behind 127 = .ok (.invokestatic 218, 3) := by decide +kernel
theorem dX8_behind_130 : decode cX8_behind 130 = .ok (.ireturn, 1) := by decide +kernel
set_option maxRecDepth 20000 in
theorem c_X8_behind {G : Gl} {d : Nat} {σ : Sg} {Z : Zt} (hZ : RelX Z σ) (hO : OkZ Z) {s : Int} (hs1 : -2147483648 ≤ s) (hs2 : s < 2147483648) {p : Int} (hp1 : -2147483648 ≤ p) (hp2 : p < 2147483648) {n : Int} (hn1 : -2147483648 ≤ n) (hn2 : n < 2147483648) {w : Int} (hw1 : -2147483648 ≤ w) (hw2 : w < 2147483648) : CT G (d + 4) yX8_behind cX8_behind 6 (some .int) [.ref (gA G 0), .int (iI s), .int (iI p), .int (iI n), .int (iI w)] σ (RE (some (.int (iI (qBehind Z s p n w).1))) (fun υ => RelX (qBehind Z s p n w).2 υ ∧ Fr XC σ υ)) := by
  refine CT.of (by decide +kernel) (Nat.le_of_ble_eq_true rfl) ?_
  change AW G _ RX8 _ _ _ 0 [(0, .ref (gA G 0)), (1, .int (iI s)), (2, .int (iI p)), (3, .int (iI n)), (4, .int (iI w))] [] _ _
  have hwt := wkT_rng Z s p n (0 ≤ w ∧ w ≤ 2)
  refine A_aload_n (pc := 0) dX8_behind_0 rfl rfl ?_
  refine A_iload_n (pc := 1) dX8_behind_1 rfl rfl ?_
  refine A_iload_n (pc := 2) dX8_behind_2 rfl rfl ?_
  refine A_iload_n (pc := 3) dX8_behind_3 rfl rfl ?_
  refine A_iload (pc := 4) dX8_behind_4 rfl ?_
  refine A_if_lt (pc := 6) 19 dX8_behind_6 (by decide) (by omega) (by omega) (fun h6 => ?_) (fun h6 => ?_)
  · skip
    refine A_iconst (pc := 19) dX8_behind_19 ?_
    refine A_callV1 (pc := 20) kX8_312 rfl rfl (c_X8_walkTrouble hZ hO hs1 hs2 hp1 hp2 hn1 hn2 (ok := False)) dX8_behind_20 rfl rfl (Nat.le_of_ble_eq_true rfl) (Nat.le_of_ble_eq_true rfl) ?_
    rw [wkT_c (ok2 := 0 ≤ w ∧ w ≤ 2) (by constructor <;> intro q <;> first | omega | exact q.elim | trivial)]
    refine A_istore (pc := 23) dX8_behind_23 (Nat.le_of_ble_eq_true rfl) ?_
    refine A_iload (pc := 25) dX8_behind_25 rfl ?_
    refine A_if_eq (pc := 27) 37 dX8_behind_27 (by decide) (by omega) (by omega) (fun h27 => ?_) (fun h27 => ?_)
    · skip
      obtain ⟨⟨g1, g2⟩, ⟨g3, g4⟩, g5, g6, -, g7, g8⟩ := wkT_0 (show wkT Z s p n (0 ≤ w ∧ w ≤ 2) = 0 by omega)
      obtain ⟨k, rfl⟩ := Int.eq_ofNat_of_zero_le (show 0 ≤ s by omega)
      obtain ⟨j, rfl⟩ := Int.eq_ofNat_of_zero_le (show 0 ≤ p by omega)
      obtain ⟨m, rfl⟩ := Int.eq_ofNat_of_zero_le (show 0 ≤ n by omega)
      have k8 : k < 8 := by omega
      simp only [Int.toNat_natCast] at g7
      have q9 := hO.1.2.2.2.2.2.2.2.2 j g4
      have wok := wkG_ok (τ := Z.1) (e := elV Z k) (n := m) (i := 0) (a := Z.1.2.2 4 j) (f := Z.1.2.2 5 j) (s := 0) (l := 0) ⟨q9.1, by omega⟩ q9.2.2.1 (by omega) (by omega)
      refine A_aload_n (pc := 37) dX8_behind_37 rfl rfl ?_
      refine A_getR (pc := 38) fX8_50 rfl rfl dX8_behind_38 ?_
      refine A_aload_n (pc := 41) dX8_behind_41 rfl rfl ?_
      refine A_getR (pc := 42) fX8_10 rfl rfl dX8_behind_42 ?_
      refine A_iload_n (pc := 45) dX8_behind_45 rfl rfl ?_
      refine A_aload_n (pc := 46) dX8_behind_46 rfl rfl ?_
      refine A_getR (pc := 47) fX8_25 rfl rfl dX8_behind_47 ?_
      refine A_iload_n (pc := 50) dX8_behind_50 rfl rfl ?_
      refine A_aald (pc := 51) _ rfl rfl (by omega) (Nat.le_of_ble_eq_true rfl) dX8_behind_51 ?_
      refine A_iload_n (pc := 52) dX8_behind_52 rfl rfl ?_
      refine A_callVe0 (pc := 53) kX8_316 rfl rfl (c_X6_follow hZ hO k8 g7 (by omega) g4) dX8_behind_53 rfl rfl (Nat.le_of_ble_eq_true rfl) (Nat.le_of_ble_eq_true rfl) (fun υ hυ => ?_)
      have hZ2 := hZ.fr hυ.2 S7X
      have hw1b := wok.1
      refine A_aload_n (pc := 56) dX8_behind_56 rfl rfl ?_
      refine A_getR (pc := 57) fX8_50 rfl rfl dX8_behind_57 ?_
      refine A_getIv (pc := 60) fX8_320 rfl rfl hυ.1.1 dX8_behind_60 ?_
      refine A_iconst (pc := 63) dX8_behind_63 ?_
      refine A_icmp_eq (pc := 64) 74 dX8_behind_64 (by decide) (by omega) (by omega) (by omega) (by omega) (fun h64 => ?_) (fun h64 => ?_)
      · skip
        refine A_iload (pc := 74) dX8_behind_74 rfl ?_
        refine A_lsw (pc := 76) [(0, 104), (1, 112)] 120 dX8_behind_76 (by decide) (by decide) (by decide) (by omega) (by omega) ?_
        refine ⟨fun h76 => ?_, fun h76n0 => ?_⟩
        · skip
          refine A_aload_n (pc := 104) dX8_behind_104 rfl rfl ?_
          refine A_getR (pc := 105) fX8_50 rfl rfl dX8_behind_105 ?_
          refine A_getIv (pc := 108) fX8_323 rfl rfl hυ.1.2.2.2.1 dX8_behind_108 ?_
          refine A_iret (pc := 111) rfl dX8_behind_111 ?_
          exact RQX (by unfold qBehind wkR; simp only [Int.toNat_natCast]; rw [if_neg (by omega), if_neg (fun q => q h64), if_pos (by omega)]) (hZ.fr hυ.2 S7X) (hυ.2.mono S7C)
        refine ⟨fun h76 => ?_, fun h76n1 => ?_⟩
        · skip
          refine A_aload_n (pc := 112) dX8_behind_112 rfl rfl ?_
          refine A_getR (pc := 113) fX8_50 rfl rfl dX8_behind_113 ?_
          refine A_getIv (pc := 116) fX8_326 rfl rfl hυ.1.2.1 dX8_behind_116 ?_
          refine A_iret (pc := 119) rfl dX8_behind_119 ?_
          exact RQX (by unfold qBehind wkR; simp only [Int.toNat_natCast]; rw [if_neg (by omega), if_neg (fun q => q h64), if_neg (by omega), if_pos (by omega)]) (hZ.fr hυ.2 S7X) (hυ.2.mono S7C)
        change AW G _ _ _ _ _ 120 _ _ _ _
        refine A_aload_n (pc := 120) dX8_behind_120 rfl rfl ?_
        refine A_getR (pc := 121) fX8_50 rfl rfl dX8_behind_121 ?_
        refine A_getIv (pc := 124) fX8_329 rfl rfl hυ.1.2.2.2.2 dX8_behind_124 ?_
        refine A_callS1 (pc := 127) kX8_218 (c_J6_bitCount_0f7a4) dX8_behind_127 rfl rfl (Nat.le_of_ble_eq_true rfl) (Nat.le_of_ble_eq_true rfl) ?_
        refine A_iret (pc := 130) rfl dX8_behind_130 ?_
        exact RQX (by unfold qBehind wkR; simp only [Int.toNat_natCast]; rw [if_neg (by omega), if_neg (fun q => q h64), if_neg (by omega), if_neg (by omega)]) (hZ.fr hυ.2 S7X) (hυ.2.mono S7C)
      · skip
        refine A_aload_n (pc := 67) dX8_behind_67 rfl rfl ?_
        refine A_bipush (pc := 68) dX8_behind_68 (by decide) ?_
        refine A_callVe (pc := 70) kX8_76 rfl rfl (c_X8_refuse hZ2 hO (t := -6) (by omega) (by omega)) dX8_behind_70 rfl rfl (Nat.le_of_ble_eq_true rfl) (Nat.le_of_ble_eq_true rfl) (fun ω hω => ?_)
        refine A_iret (pc := 73) rfl dX8_behind_73 ?_
        exact RQX (by unfold qBehind wkR; simp only [Int.toNat_natCast]; rw [if_neg (by omega), if_pos h64]; rfl) hω.1 ((hυ.2.mono S7C).tr (hω.2.mono XC2))
    · skip
      refine A_aload_n (pc := 30) dX8_behind_30 rfl rfl ?_
      refine A_iload (pc := 31) dX8_behind_31 rfl ?_
      refine A_callVe (pc := 33) kX8_76 rfl rfl (c_X8_refuse hZ hO (t := wkT Z s p n (0 ≤ w ∧ w ≤ 2)) (by omega) (by omega)) dX8_behind_33 rfl rfl (Nat.le_of_ble_eq_true rfl) (Nat.le_of_ble_eq_true rfl) (fun υ hυ => ?_)
      refine A_iret (pc := 36) rfl dX8_behind_36 ?_
      exact RQX (by unfold qBehind; rw [if_pos (by omega)]; rfl) hυ.1 (hυ.2.mono XC2)
  · skip
    refine A_iload (pc := 9) dX8_behind_9 rfl ?_
    refine A_iconst (pc := 11) dX8_behind_11 ?_
    refine A_icmp_gt (pc := 12) 19 dX8_behind_12 (by decide) (by omega) (by omega) (by omega) (by omega) (fun h12 => ?_) (fun h12 => ?_)
    · skip
      refine A_iconst (pc := 19) dX8_behind_19 ?_
      refine A_callV1 (pc := 20) kX8_312 rfl rfl (c_X8_walkTrouble hZ hO hs1 hs2 hp1 hp2 hn1 hn2 (ok := False)) dX8_behind_20 rfl rfl (Nat.le_of_ble_eq_true rfl) (Nat.le_of_ble_eq_true rfl) ?_
      rw [wkT_c (ok2 := 0 ≤ w ∧ w ≤ 2) (by constructor <;> intro q <;> first | omega | exact q.elim | trivial)]
      refine A_istore (pc := 23) dX8_behind_23 (Nat.le_of_ble_eq_true rfl) ?_
      refine A_iload (pc := 25) dX8_behind_25 rfl ?_
      refine A_if_eq (pc := 27) 37 dX8_behind_27 (by decide) (by omega) (by omega) (fun h27 => ?_) (fun h27 => ?_)
      · skip
        obtain ⟨⟨g1, g2⟩, ⟨g3, g4⟩, g5, g6, -, g7, g8⟩ := wkT_0 (show wkT Z s p n (0 ≤ w ∧ w ≤ 2) = 0 by omega)
        obtain ⟨k, rfl⟩ := Int.eq_ofNat_of_zero_le (show 0 ≤ s by omega)
        obtain ⟨j, rfl⟩ := Int.eq_ofNat_of_zero_le (show 0 ≤ p by omega)
        obtain ⟨m, rfl⟩ := Int.eq_ofNat_of_zero_le (show 0 ≤ n by omega)
        have k8 : k < 8 := by omega
        simp only [Int.toNat_natCast] at g7
        have q9 := hO.1.2.2.2.2.2.2.2.2 j g4
        have wok := wkG_ok (τ := Z.1) (e := elV Z k) (n := m) (i := 0) (a := Z.1.2.2 4 j) (f := Z.1.2.2 5 j) (s := 0) (l := 0) ⟨q9.1, by omega⟩ q9.2.2.1 (by omega) (by omega)
        refine A_aload_n (pc := 37) dX8_behind_37 rfl rfl ?_
        refine A_getR (pc := 38) fX8_50 rfl rfl dX8_behind_38 ?_
        refine A_aload_n (pc := 41) dX8_behind_41 rfl rfl ?_
        refine A_getR (pc := 42) fX8_10 rfl rfl dX8_behind_42 ?_
        refine A_iload_n (pc := 45) dX8_behind_45 rfl rfl ?_
        refine A_aload_n (pc := 46) dX8_behind_46 rfl rfl ?_
        refine A_getR (pc := 47) fX8_25 rfl rfl dX8_behind_47 ?_
        refine A_iload_n (pc := 50) dX8_behind_50 rfl rfl ?_
        refine A_aald (pc := 51) _ rfl rfl (by omega) (Nat.le_of_ble_eq_true rfl) dX8_behind_51 ?_
        refine A_iload_n (pc := 52) dX8_behind_52 rfl rfl ?_
        refine A_callVe0 (pc := 53) kX8_316 rfl rfl (c_X6_follow hZ hO k8 g7 (by omega) g4) dX8_behind_53 rfl rfl (Nat.le_of_ble_eq_true rfl) (Nat.le_of_ble_eq_true rfl) (fun υ hυ => ?_)
        have hZ2 := hZ.fr hυ.2 S7X
        have hw1b := wok.1
        refine A_aload_n (pc := 56) dX8_behind_56 rfl rfl ?_
        refine A_getR (pc := 57) fX8_50 rfl rfl dX8_behind_57 ?_
        refine A_getIv (pc := 60) fX8_320 rfl rfl hυ.1.1 dX8_behind_60 ?_
        refine A_iconst (pc := 63) dX8_behind_63 ?_
        refine A_icmp_eq (pc := 64) 74 dX8_behind_64 (by decide) (by omega) (by omega) (by omega) (by omega) (fun h64 => ?_) (fun h64 => ?_)
        · skip
          refine A_iload (pc := 74) dX8_behind_74 rfl ?_
          refine A_lsw (pc := 76) [(0, 104), (1, 112)] 120 dX8_behind_76 (by decide) (by decide) (by decide) (by omega) (by omega) ?_
          refine ⟨fun h76 => ?_, fun h76n0 => ?_⟩
          · skip
            refine A_aload_n (pc := 104) dX8_behind_104 rfl rfl ?_
            refine A_getR (pc := 105) fX8_50 rfl rfl dX8_behind_105 ?_
            refine A_getIv (pc := 108) fX8_323 rfl rfl hυ.1.2.2.2.1 dX8_behind_108 ?_
            refine A_iret (pc := 111) rfl dX8_behind_111 ?_
            exact RQX (by unfold qBehind wkR; simp only [Int.toNat_natCast]; rw [if_neg (by omega), if_neg (fun q => q h64), if_pos (by omega)]) (hZ.fr hυ.2 S7X) (hυ.2.mono S7C)
          refine ⟨fun h76 => ?_, fun h76n1 => ?_⟩
          · skip
            refine A_aload_n (pc := 112) dX8_behind_112 rfl rfl ?_
            refine A_getR (pc := 113) fX8_50 rfl rfl dX8_behind_113 ?_
            refine A_getIv (pc := 116) fX8_326 rfl rfl hυ.1.2.1 dX8_behind_116 ?_
            refine A_iret (pc := 119) rfl dX8_behind_119 ?_
            exact RQX (by unfold qBehind wkR; simp only [Int.toNat_natCast]; rw [if_neg (by omega), if_neg (fun q => q h64), if_neg (by omega), if_pos (by omega)]) (hZ.fr hυ.2 S7X) (hυ.2.mono S7C)
          change AW G _ _ _ _ _ 120 _ _ _ _
          refine A_aload_n (pc := 120) dX8_behind_120 rfl rfl ?_
          refine A_getR (pc := 121) fX8_50 rfl rfl dX8_behind_121 ?_
          refine A_getIv (pc := 124) fX8_329 rfl rfl hυ.1.2.2.2.2 dX8_behind_124 ?_
          refine A_callS1 (pc := 127) kX8_218 (c_J6_bitCount_0f7a4) dX8_behind_127 rfl rfl (Nat.le_of_ble_eq_true rfl) (Nat.le_of_ble_eq_true rfl) ?_
          refine A_iret (pc := 130) rfl dX8_behind_130 ?_
          exact RQX (by unfold qBehind wkR; simp only [Int.toNat_natCast]; rw [if_neg (by omega), if_neg (fun q => q h64), if_neg (by omega), if_neg (by omega)]) (hZ.fr hυ.2 S7X) (hυ.2.mono S7C)
        · skip
          refine A_aload_n (pc := 67) dX8_behind_67 rfl rfl ?_
          refine A_bipush (pc := 68) dX8_behind_68 (by decide) ?_
          refine A_callVe (pc := 70) kX8_76 rfl rfl (c_X8_refuse hZ2 hO (t := -6) (by omega) (by omega)) dX8_behind_70 rfl rfl (Nat.le_of_ble_eq_true rfl) (Nat.le_of_ble_eq_true rfl) (fun ω hω => ?_)
          refine A_iret (pc := 73) rfl dX8_behind_73 ?_
          exact RQX (by unfold qBehind wkR; simp only [Int.toNat_natCast]; rw [if_neg (by omega), if_pos h64]; rfl) hω.1 ((hυ.2.mono S7C).tr (hω.2.mono XC2))
      · skip
        refine A_aload_n (pc := 30) dX8_behind_30 rfl rfl ?_
        refine A_iload (pc := 31) dX8_behind_31 rfl ?_
        refine A_callVe (pc := 33) kX8_76 rfl rfl (c_X8_refuse hZ hO (t := wkT Z s p n (0 ≤ w ∧ w ≤ 2)) (by omega) (by omega)) dX8_behind_33 rfl rfl (Nat.le_of_ble_eq_true rfl) (Nat.le_of_ble_eq_true rfl) (fun υ hυ => ?_)
        refine A_iret (pc := 36) rfl dX8_behind_36 ?_
        exact RQX (by unfold qBehind; rw [if_pos (by omega)]; rfl) hυ.1 (hυ.2.mono XC2)
    · skip
      refine A_iconst (pc := 15) dX8_behind_15 ?_
      refine A_goto (pc := 16) 20 dX8_behind_16 (by decide) ?_
      refine A_callV1 (pc := 20) kX8_312 rfl rfl (c_X8_walkTrouble hZ hO hs1 hs2 hp1 hp2 hn1 hn2 (ok := True)) dX8_behind_20 rfl rfl (Nat.le_of_ble_eq_true rfl) (Nat.le_of_ble_eq_true rfl) ?_
      rw [wkT_c (ok2 := 0 ≤ w ∧ w ≤ 2) (by constructor <;> intro q <;> first | omega | exact q.elim | trivial)]
      refine A_istore (pc := 23) dX8_behind_23 (Nat.le_of_ble_eq_true rfl) ?_
      refine A_iload (pc := 25) dX8_behind_25 rfl ?_
      refine A_if_eq (pc := 27) 37 dX8_behind_27 (by decide) (by omega) (by omega) (fun h27 => ?_) (fun h27 => ?_)
      · skip
        obtain ⟨⟨g1, g2⟩, ⟨g3, g4⟩, g5, g6, -, g7, g8⟩ := wkT_0 (show wkT Z s p n (0 ≤ w ∧ w ≤ 2) = 0 by omega)
        obtain ⟨k, rfl⟩ := Int.eq_ofNat_of_zero_le (show 0 ≤ s by omega)
        obtain ⟨j, rfl⟩ := Int.eq_ofNat_of_zero_le (show 0 ≤ p by omega)
        obtain ⟨m, rfl⟩ := Int.eq_ofNat_of_zero_le (show 0 ≤ n by omega)
        have k8 : k < 8 := by omega
        simp only [Int.toNat_natCast] at g7
        have q9 := hO.1.2.2.2.2.2.2.2.2 j g4
        have wok := wkG_ok (τ := Z.1) (e := elV Z k) (n := m) (i := 0) (a := Z.1.2.2 4 j) (f := Z.1.2.2 5 j) (s := 0) (l := 0) ⟨q9.1, by omega⟩ q9.2.2.1 (by omega) (by omega)
        refine A_aload_n (pc := 37) dX8_behind_37 rfl rfl ?_
        refine A_getR (pc := 38) fX8_50 rfl rfl dX8_behind_38 ?_
        refine A_aload_n (pc := 41) dX8_behind_41 rfl rfl ?_
        refine A_getR (pc := 42) fX8_10 rfl rfl dX8_behind_42 ?_
        refine A_iload_n (pc := 45) dX8_behind_45 rfl rfl ?_
        refine A_aload_n (pc := 46) dX8_behind_46 rfl rfl ?_
        refine A_getR (pc := 47) fX8_25 rfl rfl dX8_behind_47 ?_
        refine A_iload_n (pc := 50) dX8_behind_50 rfl rfl ?_
        refine A_aald (pc := 51) _ rfl rfl (by omega) (Nat.le_of_ble_eq_true rfl) dX8_behind_51 ?_
        refine A_iload_n (pc := 52) dX8_behind_52 rfl rfl ?_
        refine A_callVe0 (pc := 53) kX8_316 rfl rfl (c_X6_follow hZ hO k8 g7 (by omega) g4) dX8_behind_53 rfl rfl (Nat.le_of_ble_eq_true rfl) (Nat.le_of_ble_eq_true rfl) (fun υ hυ => ?_)
        have hZ2 := hZ.fr hυ.2 S7X
        have hw1b := wok.1
        refine A_aload_n (pc := 56) dX8_behind_56 rfl rfl ?_
        refine A_getR (pc := 57) fX8_50 rfl rfl dX8_behind_57 ?_
        refine A_getIv (pc := 60) fX8_320 rfl rfl hυ.1.1 dX8_behind_60 ?_
        refine A_iconst (pc := 63) dX8_behind_63 ?_
        refine A_icmp_eq (pc := 64) 74 dX8_behind_64 (by decide) (by omega) (by omega) (by omega) (by omega) (fun h64 => ?_) (fun h64 => ?_)
        · skip
          refine A_iload (pc := 74) dX8_behind_74 rfl ?_
          refine A_lsw (pc := 76) [(0, 104), (1, 112)] 120 dX8_behind_76 (by decide) (by decide) (by decide) (by omega) (by omega) ?_
          refine ⟨fun h76 => ?_, fun h76n0 => ?_⟩
          · skip
            refine A_aload_n (pc := 104) dX8_behind_104 rfl rfl ?_
            refine A_getR (pc := 105) fX8_50 rfl rfl dX8_behind_105 ?_
            refine A_getIv (pc := 108) fX8_323 rfl rfl hυ.1.2.2.2.1 dX8_behind_108 ?_
            refine A_iret (pc := 111) rfl dX8_behind_111 ?_
            exact RQX (by unfold qBehind wkR; simp only [Int.toNat_natCast]; rw [if_neg (by omega), if_neg (fun q => q h64), if_pos (by omega)]) (hZ.fr hυ.2 S7X) (hυ.2.mono S7C)
          refine ⟨fun h76 => ?_, fun h76n1 => ?_⟩
          · skip
            refine A_aload_n (pc := 112) dX8_behind_112 rfl rfl ?_
            refine A_getR (pc := 113) fX8_50 rfl rfl dX8_behind_113 ?_
            refine A_getIv (pc := 116) fX8_326 rfl rfl hυ.1.2.1 dX8_behind_116 ?_
            refine A_iret (pc := 119) rfl dX8_behind_119 ?_
            exact RQX (by unfold qBehind wkR; simp only [Int.toNat_natCast]; rw [if_neg (by omega), if_neg (fun q => q h64), if_neg (by omega), if_pos (by omega)]) (hZ.fr hυ.2 S7X) (hυ.2.mono S7C)
          change AW G _ _ _ _ _ 120 _ _ _ _
          refine A_aload_n (pc := 120) dX8_behind_120 rfl rfl ?_
          refine A_getR (pc := 121) fX8_50 rfl rfl dX8_behind_121 ?_
          refine A_getIv (pc := 124) fX8_329 rfl rfl hυ.1.2.2.2.2 dX8_behind_124 ?_
          refine A_callS1 (pc := 127) kX8_218 (c_J6_bitCount_0f7a4) dX8_behind_127 rfl rfl (Nat.le_of_ble_eq_true rfl) (Nat.le_of_ble_eq_true rfl) ?_
          refine A_iret (pc := 130) rfl dX8_behind_130 ?_
          exact RQX (by unfold qBehind wkR; simp only [Int.toNat_natCast]; rw [if_neg (by omega), if_neg (fun q => q h64), if_neg (by omega), if_neg (by omega)]) (hZ.fr hυ.2 S7X) (hυ.2.mono S7C)
        · skip
          refine A_aload_n (pc := 67) dX8_behind_67 rfl rfl ?_
          refine A_bipush (pc := 68) dX8_behind_68 (by decide) ?_
          refine A_callVe (pc := 70) kX8_76 rfl rfl (c_X8_refuse hZ2 hO (t := -6) (by omega) (by omega)) dX8_behind_70 rfl rfl (Nat.le_of_ble_eq_true rfl) (Nat.le_of_ble_eq_true rfl) (fun ω hω => ?_)
          refine A_iret (pc := 73) rfl dX8_behind_73 ?_
          exact RQX (by unfold qBehind wkR; simp only [Int.toNat_natCast]; rw [if_neg (by omega), if_pos h64]; rfl) hω.1 ((hυ.2.mono S7C).tr (hω.2.mono XC2))
      · skip
        refine A_aload_n (pc := 30) dX8_behind_30 rfl rfl ?_
        refine A_iload (pc := 31) dX8_behind_31 rfl ?_
        refine A_callVe (pc := 33) kX8_76 rfl rfl (c_X8_refuse hZ hO (t := wkT Z s p n (0 ≤ w ∧ w ≤ 2)) (by omega) (by omega)) dX8_behind_33 rfl rfl (Nat.le_of_ble_eq_true rfl) (Nat.le_of_ble_eq_true rfl) (fun υ hυ => ?_)
        refine A_iret (pc := 36) rfl dX8_behind_36 ?_
        exact RQX (by unfold qBehind; rw [if_pos (by omega)]; rfl) hυ.1 (hυ.2.mono XC2)
theorem dX8_done_0 : decode cX8_done 0 = .ok (.aload_n 0, 1) := by decide +kernel
theorem dX8_done_1 : decode cX8_done 1 = .ok (.iload_n 1, 1) := by decide +kernel
theorem dX8_done_2 : decode cX8_done 2 = .ok (.iload_n 2, 1) := by decide +kernel
theorem dX8_done_3 : decode cX8_done 3 = .ok (.iload_n 3, 1) := by decide +kernel
theorem dX8_done_4 : decode cX8_done 4 = .ok (.iconst 1, 1) := by decide +kernel
theorem dX8_done_5 : decode cX8_done 5 = .ok (.invokevirtual 312, 3) := by decide +kernel
theorem dX8_done_8 : decode cX8_done 8 = .ok (.istore 4, 2) := by decide +kernel
theorem dX8_done_10 : decode cX8_done 10 = .ok (.iload 4, 2) := by decide +kernel
theorem dX8_done_12 : decode cX8_done 12 = .ok (.ifCond .eq 10, 3) := by decide +kernel
theorem dX8_done_15 : decode cX8_done 15 = .ok (.aload_n 0, 1) := by decide +kernel
theorem dX8_done_16 : decode cX8_done 16 = .ok (.iload 4, 2) := by decide +kernel
theorem dX8_done_18 : decode cX8_done 18 = .ok (.invokevirtual 76, 3) := by decide +kernel
theorem dX8_done_21 : decode cX8_done 21 = .ok (.ireturn, 1) := by decide +kernel
theorem dX8_done_22 : decode cX8_done 22 = .ok (.aload_n 0, 1) := by decide +kernel
theorem dX8_done_23 : decode cX8_done 23 = .ok (.getfield 50, 3) := by decide +kernel
theorem dX8_done_26 : decode cX8_done 26 = .ok (.aload_n 0, 1) := by decide +kernel
theorem dX8_done_27 : decode cX8_done 27 = .ok (.getfield 10, 3) := by decide +kernel
theorem dX8_done_30 : decode cX8_done 30 = .ok (.iload_n 2, 1) := by decide +kernel
theorem dX8_done_31 : decode cX8_done 31 = .ok (.aload_n 0, 1) := by decide +kernel
theorem dX8_done_32 : decode cX8_done 32 = .ok (.getfield 25, 3) := by decide +kernel
theorem dX8_done_35 : decode cX8_done 35 = .ok (.iload_n 1, 1) := by decide +kernel
theorem dX8_done_36 : decode cX8_done 36 = .ok (.aaload, 1) := by decide +kernel
theorem dX8_done_37 : decode cX8_done 37 = .ok (.iload_n 3, 1) := by decide +kernel
theorem dX8_done_38 : decode cX8_done 38 = .ok (.invokevirtual 316, 3) := by decide +kernel
theorem dX8_done_41 : decode cX8_done 41 = .ok (.aload_n 0, 1) := by decide +kernel
theorem dX8_done_42 : decode cX8_done 42 = .ok (.getfield 50, 3) := by decide +kernel
theorem dX8_done_45 : decode cX8_done 45 = .ok (.getfield 320, 3) := by decide +kernel
theorem dX8_done_48 : decode cX8_done 48 = .ok (.iconst (-1), 1) := by decide +kernel
theorem dX8_done_49 : decode cX8_done 49 = .ok (.if_icmp .eq 10, 3) := by decide +kernel
theorem dX8_done_52 : decode cX8_done 52 = .ok (.aload_n 0, 1) := by decide +kernel
theorem dX8_done_53 : decode cX8_done 53 = .ok (.bipush (-6), 2) := by decide +kernel
theorem dX8_done_55 : decode cX8_done 55 = .ok (.invokevirtual 76, 3) := by decide +kernel
theorem dX8_done_58 : decode cX8_done 58 = .ok (.ireturn, 1) := by decide +kernel
theorem dX8_done_59 : decode cX8_done 59 = .ok (.aload_n 0, 1) := by decide +kernel
theorem dX8_done_60 : decode cX8_done 60 = .ok (.getfield 10, 3) := by decide +kernel
theorem dX8_done_63 : decode cX8_done 63 = .ok (.iload_n 2, 1) := by decide +kernel
theorem dX8_done_64 : decode cX8_done 64 = .ok (.aload_n 0, 1) := by decide +kernel
theorem dX8_done_65 : decode cX8_done 65 = .ok (.getfield 50, 3) := by decide +kernel
theorem dX8_done_68 : decode cX8_done 68 = .ok (.getfield 326, 3) := by decide +kernel
theorem dX8_done_71 : decode cX8_done 71 = .ok (.aload_n 0, 1) := by decide +kernel
theorem dX8_done_72 : decode cX8_done 72 = .ok (.getfield 50, 3) := by decide +kernel
theorem dX8_done_75 : decode cX8_done 75 = .ok (.getfield 332, 3) := by decide +kernel
theorem dX8_done_78 : decode cX8_done 78 = .ok (.invokevirtual 196, 3) := by decide +kernel
theorem dX8_done_81 : decode cX8_done 81 = .ok (.aload_n 0, 1) := by decide +kernel
theorem dX8_done_82 : decode cX8_done 82 = .ok (.getfield 10, 3) := by decide +kernel
theorem dX8_done_85 : decode cX8_done 85 = .ok (.iload_n 2, 1) := by decide +kernel
theorem dX8_done_86 : decode cX8_done 86 = .ok (.aload_n 0, 1) := by decide +kernel
theorem dX8_done_87 : decode cX8_done 87 = .ok (.getfield 50, 3) := by decide +kernel
theorem dX8_done_90 : decode cX8_done 90 = .ok (.getfield 323, 3) := by decide +kernel
theorem dX8_done_93 : decode cX8_done 93 = .ok (.invokevirtual 335, 3) := by decide +kernel
theorem dX8_done_96 : decode cX8_done 96 = .ok (.aload_n 0, 1) := by decide +kernel
theorem dX8_done_97 : decode cX8_done 97 = .ok (.getfield 10, 3) := by decide +kernel
theorem dX8_done_100 : decode cX8_done 100 = .ok (.getfield 338, 3) := by decide +kernel
theorem dX8_done_103 : decode cX8_done 103 = .ok (.ireturn, 1) := by decide +kernel
set_option maxRecDepth 20000 in
theorem c_X8_done {G : Gl} {d : Nat} {σ : Sg} {Z : Zt} (hZ : RelX Z σ) (hO : OkZ Z) {s : Int} (hs1 : -2147483648 ≤ s) (hs2 : s < 2147483648) {p : Int} (hp1 : -2147483648 ≤ p) (hp2 : p < 2147483648) {n : Int} (hn1 : -2147483648 ≤ n) (hn2 : n < 2147483648) : CT G (d + 4) yX8_done cX8_done 5 (some .int) [.ref (gA G 0), .int (iI s), .int (iI p), .int (iI n)] σ (RE (some (.int (iI (qDone Z s p n).1))) (fun υ => RelX (qDone Z s p n).2 υ ∧ Fr XC σ υ)) := by
  refine CT.of (by decide +kernel) (Nat.le_of_ble_eq_true rfl) ?_
  change AW G _ RX8 _ _ _ 0 [(0, .ref (gA G 0)), (1, .int (iI s)), (2, .int (iI p)), (3, .int (iI n))] [] _ _
  have hwt := wkT_rng Z s p n True
  refine A_aload_n (pc := 0) dX8_done_0 rfl rfl ?_
  refine A_iload_n (pc := 1) dX8_done_1 rfl rfl ?_
  refine A_iload_n (pc := 2) dX8_done_2 rfl rfl ?_
  refine A_iload_n (pc := 3) dX8_done_3 rfl rfl ?_
  refine A_iconst (pc := 4) dX8_done_4 ?_
  refine A_callV1 (pc := 5) kX8_312 rfl rfl (c_X8_walkTrouble hZ hO hs1 hs2 hp1 hp2 hn1 hn2 (ok := True)) dX8_done_5 rfl rfl (Nat.le_of_ble_eq_true rfl) (Nat.le_of_ble_eq_true rfl) ?_
  refine A_istore (pc := 8) dX8_done_8 (Nat.le_of_ble_eq_true rfl) ?_
  refine A_iload (pc := 10) dX8_done_10 rfl ?_
  refine A_if_eq (pc := 12) 22 dX8_done_12 (by decide) (by omega) (by omega) (fun h12 => ?_) (fun h12 => ?_)
  · skip
    obtain ⟨⟨g1, g2⟩, ⟨g3, g4⟩, g5, g6, -, g7, g8⟩ := wkT_0 (show wkT Z s p n (True) = 0 by omega)
    obtain ⟨k, rfl⟩ := Int.eq_ofNat_of_zero_le (show 0 ≤ s by omega)
    obtain ⟨j, rfl⟩ := Int.eq_ofNat_of_zero_le (show 0 ≤ p by omega)
    obtain ⟨m, rfl⟩ := Int.eq_ofNat_of_zero_le (show 0 ≤ n by omega)
    have k8 : k < 8 := by omega
    simp only [Int.toNat_natCast] at g7
    have q9 := hO.1.2.2.2.2.2.2.2.2 j g4
    have wok := wkG_ok (τ := Z.1) (e := elV Z k) (n := m) (i := 0) (a := Z.1.2.2 4 j) (f := Z.1.2.2 5 j) (s := 0) (l := 0) ⟨q9.1, by omega⟩ q9.2.2.1 (by omega) (by omega)
    refine A_aload_n (pc := 22) dX8_done_22 rfl rfl ?_
    refine A_getR (pc := 23) fX8_50 rfl rfl dX8_done_23 ?_
    refine A_aload_n (pc := 26) dX8_done_26 rfl rfl ?_
    refine A_getR (pc := 27) fX8_10 rfl rfl dX8_done_27 ?_
    refine A_iload_n (pc := 30) dX8_done_30 rfl rfl ?_
    refine A_aload_n (pc := 31) dX8_done_31 rfl rfl ?_
    refine A_getR (pc := 32) fX8_25 rfl rfl dX8_done_32 ?_
    refine A_iload_n (pc := 35) dX8_done_35 rfl rfl ?_
    refine A_aald (pc := 36) _ rfl rfl (by omega) (Nat.le_of_ble_eq_true rfl) dX8_done_36 ?_
    refine A_iload_n (pc := 37) dX8_done_37 rfl rfl ?_
    refine A_callVe0 (pc := 38) kX8_316 rfl rfl (c_X6_follow hZ hO k8 g7 (by omega) g4) dX8_done_38 rfl rfl (Nat.le_of_ble_eq_true rfl) (Nat.le_of_ble_eq_true rfl) (fun υ hυ => ?_)
    have hZ2 := hZ.fr hυ.2 S7X
    have hw1b := wok.1
    have hOp : OkT (plc Z.1 j (wkG Z.1 (elV Z k) m 0 (Z.1.2.2 4 j) (Z.1.2.2 5 j) 0 0).2.1 (wkG Z.1 (elV Z k) m 0 (Z.1.2.2 4 j) (Z.1.2.2 5 j) 0 0).2.2.1) := hO.1.okPlc wok.2.1.1 (by have := wok.2.1.2; omega) wok.2.2.1.1 (by have := wok.2.2.1.2; omega)
    refine A_aload_n (pc := 41) dX8_done_41 rfl rfl ?_
    refine A_getR (pc := 42) fX8_50 rfl rfl dX8_done_42 ?_
    refine A_getIv (pc := 45) fX8_320 rfl rfl hυ.1.1 dX8_done_45 ?_
    refine A_iconst (pc := 48) dX8_done_48 ?_
    refine A_icmp_eq (pc := 49) 59 dX8_done_49 (by decide) (by omega) (by omega) (by omega) (by omega) (fun h49 => ?_) (fun h49 => ?_)
    · skip
      refine A_aload_n (pc := 59) dX8_done_59 rfl rfl ?_
      refine A_getR (pc := 60) fX8_10 rfl rfl dX8_done_60 ?_
      refine A_iload_n (pc := 63) dX8_done_63 rfl rfl ?_
      refine A_aload_n (pc := 64) dX8_done_64 rfl rfl ?_
      refine A_getR (pc := 65) fX8_50 rfl rfl dX8_done_65 ?_
      refine A_getIv (pc := 68) fX8_326 rfl rfl hυ.1.2.1 dX8_done_68 ?_
      refine A_aload_n (pc := 71) dX8_done_71 rfl rfl ?_
      refine A_getR (pc := 72) fX8_50 rfl rfl dX8_done_72 ?_
      refine A_getIv (pc := 75) fX8_332 rfl rfl hυ.1.2.2.1 dX8_done_75 ?_
      refine A_callVe0 (pc := 78) kX8_196 rfl rfl (c_X5_place TC14 hZ2.1 hO.1 (p := j) g4) dX8_done_78 rfl rfl (Nat.le_of_ble_eq_true rfl) (Nat.le_of_ble_eq_true rfl) (fun ω hω => ?_)
      refine A_aload_n (pc := 81) dX8_done_81 rfl rfl ?_
      refine A_getR (pc := 82) fX8_10 rfl rfl dX8_done_82 ?_
      refine A_iload_n (pc := 85) dX8_done_85 rfl rfl ?_
      refine A_aload_n (pc := 86) dX8_done_86 rfl rfl ?_
      refine A_getR (pc := 87) fX8_50 rfl rfl dX8_done_87 ?_
      refine A_getIv (pc := 90) fX8_323 rfl rfl (show ω.1 7 3 = (wkG Z.1 (elV Z k) m 0 (Z.1.2.2 4 j) (Z.1.2.2 5 j) 0 0).2.2.2.1 from by rw [(hω.2 7 (by unfold TS; omega)).1]; exact hυ.1.2.2.2.1) dX8_done_90 ?_
      refine A_callVe0 (pc := 93) kX8_335 rfl rfl (c_X5_bearW TC14 hω.1 hOp (p := j) g4 (by omega) (by omega)) dX8_done_93 rfl rfl (Nat.le_of_ble_eq_true rfl) (Nat.le_of_ble_eq_true rfl) (fun χ hχ => ?_)
      refine A_aload_n (pc := 96) dX8_done_96 rfl rfl ?_
      refine A_getR (pc := 97) fX8_10 rfl rfl dX8_done_97 ?_
      refine A_getIv (pc := 100) fX8_338 rfl rfl (hχ.1.2.1 4 (by decide)) dX8_done_100 ?_
      refine A_iret (pc := 103) rfl dX8_done_103 ?_
      exact RQX (by unfold qDone wkD wkR; simp only [Int.toNat_natCast]; rw [if_neg (by omega), if_neg (fun q => q h49)]) (hZ2.town hχ.1 (hω.2.tr hχ.2)) ((hυ.2.mono S7C).tr ((hω.2.tr hχ.2).mono TSX))
    · skip
      refine A_aload_n (pc := 52) dX8_done_52 rfl rfl ?_
      refine A_bipush (pc := 53) dX8_done_53 (by decide) ?_
      refine A_callVe (pc := 55) kX8_76 rfl rfl (c_X8_refuse hZ2 hO (t := -6) (by omega) (by omega)) dX8_done_55 rfl rfl (Nat.le_of_ble_eq_true rfl) (Nat.le_of_ble_eq_true rfl) (fun ω hω => ?_)
      refine A_iret (pc := 58) rfl dX8_done_58 ?_
      exact RQX (by unfold qDone wkR; simp only [Int.toNat_natCast]; rw [if_neg (by omega), if_pos h49]; rfl) hω.1 ((hυ.2.mono S7C).tr (hω.2.mono XC2))
  · skip
    refine A_aload_n (pc := 15) dX8_done_15 rfl rfl ?_
    refine A_iload (pc := 16) dX8_done_16 rfl ?_
    refine A_callVe (pc := 18) kX8_76 rfl rfl (c_X8_refuse hZ hO (t := wkT Z s p n True) (by omega) (by omega)) dX8_done_18 rfl rfl (Nat.le_of_ble_eq_true rfl) (Nat.le_of_ble_eq_true rfl) (fun υ hυ => ?_)
    refine A_iret (pc := 21) rfl dX8_done_21 ?_
    exact RQX (by unfold qDone; rw [if_pos (by omega)]; rfl) hυ.1 (hυ.2.mono XC2)
theorem dX9_noWalk_0 : decode cX9_noWalk 0 = .ok (.iload_n 1, 1) := by decide +kernel
theorem dX9_noWalk_1 : decode cX9_noWalk 1 = .ok (.iconst 0, 1) := by decide +kernel
theorem dX9_noWalk_2 : decode cX9_noWalk 2 = .ok (.bipush 7, 2) := by decide +kernel
theorem dX9_noWalk_4 : decode cX9_noWalk 4 = .ok (.invokestatic 86, 3) := by decide +kernel
theorem dX9_noWalk_7 : decode cX9_noWalk 7 = .ok (.ifCond .eq 11, 3) := by decide +kernel
theorem dX9_noWalk_10 : decode cX9_noWalk 10 = .ok (.aload_n 0, 1) := by decide +kernel
theorem dX9_noWalk_11 : decode cX9_noWalk 11 = .ok (.iload_n 2, 1) := by decide +kernel
theorem dX9_noWalk_12 : decode cX9_noWalk 12 = .ok (.invokevirtual 150, 3) := by decide +kernel
theorem dX9_noWalk_15 : decode cX9_noWalk 15 = .ok (.ifCond .ne 5, 3) := by decide +kernel
theorem dX9_noWalk_18 : decode cX9_noWalk 18 = .ok (.iconst (-1), 1) := by decide +kernel
theorem dX9_noWalk_19 : decode cX9_noWalk 19 = .ok (.ireturn, 1) := by decide +kernel
theorem dX9_noWalk_20 : decode cX9_noWalk 20 = .ok (.aload_n 0, 1) := by decide +kernel
theorem dX9_noWalk_21 : decode cX9_noWalk 21 = .ok (.iload_n 1, 1) := by decide +kernel
theorem dX9_noWalk_22 : decode cX9_noWalk 22 = .ok (.invokevirtual 100, 3) := by decide +kernel
theorem dX9_noWalk_25 : decode cX9_noWalk 25 = .ok (.istore 4, 2) := by decide +kernel
theorem dX9_noWalk_27 : decode cX9_noWalk 27 = .ok (.iload 4, 2) := by decide +kernel
theorem dX9_noWalk_29 : decode cX9_noWalk 29 = .ok (.ifCond .ge 6, 3) := by decide +kernel
theorem dX9_noWalk_32 : decode cX9_noWalk 32 = .ok (.iload 4, 2) := by decide +kernel
theorem dX9_noWalk_34 : decode cX9_noWalk 34 = .ok (.ireturn, 1) := by decide +kernel
theorem dX9_noWalk_35 : decode cX9_noWalk 35 = .ok (.iload_n 3, 1) := by decide +kernel
theorem dX9_noWalk_36 : decode cX9_noWalk 36 = .ok (.ifCond .ge 8, 3) := by decide +kernel
theorem dX9_noWalk_39 : decode cX9_noWalk 39 = .ok (.bipush (-4), 2) := by decide +kernel
theorem dX9_noWalk_41 : decode cX9_noWalk 41 = .ok (.goto 19, 3) := by decide +kernel
theorem dX9_noWalk_44 : decode cX9_noWalk 44 = .ok (.iload_n 3, 1) := by decide +kernel
theorem dX9_noWalk_45 : decode cX9_noWalk 45 = .ok (.aload_n 0, 1) := by decide +kernel
theorem dX9_noWalk_46 : decode cX9_noWalk 46 = .ok (.getfield 41, 3) := by decide +kernel
theorem dX9_noWalk_49 : decode cX9_noWalk 49 = .ok (.iload_n 1, 1) := by decide +kernel
theorem dX9_noWalk_50 : decode cX9_noWalk 50 = .ok (.iaload, 1) := by decide +kernel
theorem dX9_noWalk_51 : decode cX9_noWalk 51 = .ok (.if_icmp .le 8, 3) := by decide +kernel
theorem dX9_noWalk_54 : decode cX9_noWalk 54 = .ok (.bipush (-5), 2) := by decide +kernel
theorem dX9_noWalk_56 : decode cX9_noWalk 56 = .ok (.goto 4, 3) := by decide +kernel
theorem dX9_noWalk_59 : decode cX9_noWalk 59 = .ok (.iconst 0, 1) := by decide +kernel
theorem dX9_noWalk_60 : decode cX9_noWalk 60 = .ok (.ireturn, 1) := by decide +kernel
set_option maxRecDepth 20000 in
theorem c_X9_noWalk {G : Gl} {d : Nat} {σ : Sg} {Z : Zt} (hZ : RelM Z σ) (hO : OkZ Z) {s : Int} (hs1 : -2147483648 ≤ s) (hs2 : s < 2147483648) {p : Int} (hp1 : -2147483648 ≤ p) (hp2 : p < 2147483648) {n : Int} (hn1 : -2147483648 ≤ n) (hn2 : n < 2147483648) : CT G (d + 2) yX9_noWalk cX9_noWalk 5 (some .int) [.ref (gA G 54), .int (iI s), .int (iI p), .int (iI n)] σ (R1 (.int (iI (nwT Z s p n))) σ) := by
  refine CT.of (by decide +kernel) (Nat.le_of_ble_eq_true rfl) ?_
  change AW G _ RX9 _ _ _ 0 [(0, .ref (gA G 54)), (1, .int (iI s)), (2, .int (iI p)), (3, .int (iI n))] [] _ _
  have hrt := rowT_rng Z s
  refine A_iload_n (pc := 0) dX9_noWalk_0 rfl rfl ?_
  refine A_iconst (pc := 1) dX9_noWalk_1 ?_
  refine A_bipush (pc := 2) dX9_noWalk_2 (by decide) ?_
  refine A_callS1 (pc := 4) kX9_86 (c_X9_within (v := s) (a := 0) (b := 7) (by omega) (by omega) (by omega) (by omega) (by omega) (by omega)) dX9_noWalk_4 rfl rfl (Nat.le_of_ble_eq_true rfl) (Nat.le_of_ble_eq_true rfl) ?_
  refine A_ifb_eq (pc := 7) 18 dX9_noWalk_7 (by decide) (fun h7 => ?_) (fun h7 => ?_)
  · skip
    refine A_iconst (pc := 18) dX9_noWalk_18 ?_
    refine A_iret (pc := 19) rfl dX9_noWalk_19 ?_
    exact R1_e (by unfold nwT; rw [if_pos (fun q => absurd q.1 (by omega))])
  · skip
    refine A_aload_n (pc := 10) dX9_noWalk_10 rfl rfl ?_
    refine A_iload_n (pc := 11) dX9_noWalk_11 rfl rfl ?_
    refine A_callV1 (pc := 12) kX9_150 rfl rfl (c_X9_isWalker hZ.1 hO.1 hp1 hp2) dX9_noWalk_12 rfl rfl (Nat.le_of_ble_eq_true rfl) (Nat.le_of_ble_eq_true rfl) ?_
    refine A_ifb_ne (pc := 15) 20 dX9_noWalk_15 (by decide) (fun h15 => ?_) (fun h15 => ?_)
    · skip
      refine A_aload_n (pc := 20) dX9_noWalk_20 rfl rfl ?_
      refine A_iload_n (pc := 21) dX9_noWalk_21 rfl rfl ?_
      refine A_callV1 (pc := 22) kX9_100 rfl rfl (c_X9_noRow hZ hO hs1 hs2) dX9_noWalk_22 rfl rfl (Nat.le_of_ble_eq_true rfl) (Nat.le_of_ble_eq_true rfl) ?_
      refine A_istore (pc := 25) dX9_noWalk_25 (Nat.le_of_ble_eq_true rfl) ?_
      refine A_iload (pc := 27) dX9_noWalk_27 rfl ?_
      refine A_if_ge (pc := 29) 35 dX9_noWalk_29 (by decide) (by omega) (by omega) (fun h29 => ?_) (fun h29 => ?_)
      · skip
        refine A_iload_n (pc := 35) dX9_noWalk_35 rfl rfl ?_
        refine A_if_ge (pc := 36) 44 dX9_noWalk_36 (by decide) (by omega) (by omega) (fun h36 => ?_) (fun h36 => ?_)
        · skip
          have h0 : rowT Z s = 0 := by omega
          obtain ⟨h8, h100⟩ := rowT_0 h0
          obtain ⟨k, rfl⟩ := Int.eq_ofNat_of_zero_le (show 0 ≤ s by omega)
          have k8 : k < 8 := by omega
          have ks := hZ.2.1 k k8
          have ko := hO.2.1 k k8
          obtain ⟨b1, b2, b3, b4⟩ := ko.1
          simp only [Int.toNat_natCast] at h100
          refine A_iload_n (pc := 44) dX9_noWalk_44 rfl rfl ?_
          refine A_aload_n (pc := 45) dX9_noWalk_45 rfl rfl ?_
          refine A_getR (pc := 46) fX9_41 rfl rfl dX9_noWalk_46 ?_
          refine A_iload_n (pc := 49) dX9_noWalk_49 rfl rfl ?_
          refine A_ialdv (pc := 50) _ rfl rfl (by omega) (Nat.le_of_ble_eq_true rfl) (ks.2.1 h100) dX9_noWalk_50 ?_
          refine A_icmp_le (pc := 51) 59 dX9_noWalk_51 (by decide) (by omega) (by omega) (by omega) (by omega) (fun h51 => ?_) (fun h51 => ?_)
          · skip
            refine A_iconst (pc := 59) dX9_noWalk_59 ?_
            refine A_iret (pc := 60) rfl dX9_noWalk_60 ?_
            exact R1_e (by unfold nwT; simp only [Int.toNat_natCast]; rw [if_neg (fun q => q ⟨by omega, h15⟩), if_neg (by omega), if_neg (by omega), if_neg (by omega)])
          · skip
            refine A_bipush (pc := 54) dX9_noWalk_54 (by decide) ?_
            refine A_goto (pc := 56) 60 dX9_noWalk_56 (by decide) ?_
            refine A_iret (pc := 60) rfl dX9_noWalk_60 ?_
            exact R1_e (by unfold nwT; simp only [Int.toNat_natCast]; rw [if_neg (fun q => q ⟨by omega, h15⟩), if_neg (by omega), if_neg (by omega), if_pos (by omega)])
        · skip
          refine A_bipush (pc := 39) dX9_noWalk_39 (by decide) ?_
          refine A_goto (pc := 41) 60 dX9_noWalk_41 (by decide) ?_
          refine A_iret (pc := 60) rfl dX9_noWalk_60 ?_
          exact R1_e (by unfold nwT; rw [if_neg (fun q => q ⟨by omega, h15⟩), if_neg (by omega), if_pos (by omega)])
      · skip
        refine A_iload (pc := 32) dX9_noWalk_32 rfl ?_
        refine A_iret (pc := 34) rfl dX9_noWalk_34 ?_
        exact R1_e (by unfold nwT; rw [if_neg (fun q => q ⟨by omega, h15⟩), if_pos (by omega)])
    · skip
      refine A_iconst (pc := 18) dX9_noWalk_18 ?_
      refine A_iret (pc := 19) rfl dX9_noWalk_19 ?_
      exact R1_e (by unfold nwT; rw [if_pos (fun q => h15 q.2)])
