/-! PART 24: the reference: where, ask, fresh, housed -/
theorem sT_v {h : Nat} {v : Int} (hv : 0 ≤ v ∧ v < 49) : sT h v ↔ h.testBit v.toNat = true := by
  obtain ⟨k, rfl⟩ := Int.eq_ofNat_of_zero_le hv.1
  rw [Int.toNat_natCast]
  exact sT_k (by omega)
theorem shrS_v {h : Nat} {v : Int} (hh : h < 2 ^ 49) (hv : 0 ≤ v ∧ v < 49) : lN h >>> ((iI v).toInt64 &&& 63) = lN (h / 2 ^ v.toNat) := by
  obtain ⟨k, rfl⟩ := Int.eq_ofNat_of_zero_le hv.1
  rw [Int.toNat_natCast]
  exact shrS_L hh (by omega)
theorem dX9_where_0 : decode cX9_where 0 = .ok (.iload_n 2, 1) := by decide +kernel
theorem dX9_where_1 : decode cX9_where 1 = .ok (.iconst 0, 1) := by decide +kernel
theorem dX9_where_2 : decode cX9_where 2 = .ok (.iconst 1, 1) := by decide +kernel
theorem dX9_where_3 : decode cX9_where 3 = .ok (.invokestatic 86, 3) := by decide +kernel
theorem dX9_where_6 : decode cX9_where 6 = .ok (.ifCond .ne 10, 3) := by decide +kernel
theorem dX9_where_9 : decode cX9_where 9 = .ok (.aload_n 0, 1) := by decide +kernel
theorem dX9_where_10 : decode cX9_where 10 = .ok (.bipush (-5), 2) := by decide +kernel
theorem dX9_where_12 : decode cX9_where 12 = .ok (.invokevirtual 237, 3) := by decide +kernel
theorem dX9_where_15 : decode cX9_where 15 = .ok (.ireturn, 1) := by decide +kernel
theorem dX9_where_16 : decode cX9_where 16 = .ok (.iload_n 1, 1) := by decide +kernel
theorem dX9_where_17 : decode cX9_where 17 = .ok (.iconst 0, 1) := by decide +kernel
theorem dX9_where_18 : decode cX9_where 18 = .ok (.iconst 1, 1) := by decide +kernel
theorem dX9_where_19 : decode cX9_where 19 = .ok (.aload_n 0, 1) := by decide +kernel
theorem dX9_where_20 : decode cX9_where 20 = .ok (.getfield 83, 3) := by decide +kernel
theorem dX9_where_23 : decode cX9_where 23 = .ok (.ishl, 1) := by decide +kernel
theorem dX9_where_24 : decode cX9_where 24 = .ok (.iconst 1, 1) := by decide +kernel
theorem dX9_where_25 : decode cX9_where 25 = .ok (.isub, 1) := by decide +kernel
theorem dX9_where_26 : decode cX9_where 26 = .ok (.invokestatic 86, 3) := by decide +kernel
theorem dX9_where_29 : decode cX9_where 29 = .ok (.ifCond .ne 10, 3) := by decide +kernel
theorem dX9_where_32 : decode cX9_where 32 = .ok (.aload_n 0, 1) := by decide +kernel
theorem dX9_where_33 : decode cX9_where 33 = .ok (.bipush (-6), 2) := by decide +kernel
theorem dX9_where_35 : decode cX9_where 35 = .ok (.invokevirtual 237, 3) := by decide +kernel
theorem dX9_where_38 : decode cX9_where 38 = .ok (.ireturn, 1) := by decide +kernel
theorem dX9_where_39 : decode cX9_where 39 = .ok (.iconst 0, 1) := by decide +kernel
theorem dX9_where_40 : decode cX9_where 40 = .ok (.istore_n 3, 1) := by decide +kernel
theorem dX9_where_41 : decode cX9_where 41 = .ok (.iconst (-1), 1) := by decide +kernel
theorem dX9_where_42 : decode cX9_where 42 = .ok (.istore 4, 2) := by decide +kernel
theorem dX9_where_44 : decode cX9_where 44 = .ok (.bipush 48, 2) := by decide +kernel
theorem dX9_where_46 : decode cX9_where 46 = .ok (.istore 5, 2) := by decide +kernel
theorem dX9_where_48 : decode cX9_where 48 = .ok (.iload 5, 2) := by decide +kernel
theorem dX9_where_50 : decode cX9_where 50 = .ok (.ifCond .lt 39, 3) := by decide +kernel
theorem dX9_where_53 : decode cX9_where 53 = .ok (.aload_n 0, 1) := by decide +kernel
theorem dX9_where_54 : decode cX9_where 54 = .ok (.getfield 31, 3) := by decide +kernel
theorem dX9_where_57 : decode cX9_where 57 = .ok (.iload 5, 2) := by decide +kernel
theorem dX9_where_59 : decode cX9_where 59 = .ok (.baload, 1) := by decide +kernel
theorem dX9_where_60 : decode cX9_where 60 = .ok (.ifCond .ne 23, 3) := by decide +kernel
theorem dX9_where_63 : decode cX9_where 63 = .ok (.aload_n 0, 1) := by decide +kernel
theorem dX9_where_64 : decode cX9_where 64 = .ok (.iload 5, 2) := by decide +kernel
theorem dX9_where_66 : decode cX9_where 66 = .ok (.invokevirtual 162, 3) := by decide +kernel
theorem dX9_where_69 : decode cX9_where 69 = .ok (.iload_n 1, 1) := by decide +kernel
theorem dX9_where_70 : decode cX9_where 70 = .ok (.if_icmp .eq 6, 3) := by decide +kernel
theorem dX9_where_73 : decode cX9_where 73 = .ok (.goto 10, 3) := by decide +kernel
theorem dX9_where_76 : decode cX9_where 76 = .ok (.iinc 3 1, 3) := by decide +kernel
theorem dX9_where_79 : decode cX9_where 79 = .ok (.iload 5, 2) := by decide +kernel
theorem dX9_where_81 : decode cX9_where 81 = .ok (.istore 4, 2) := by decide +kernel
theorem dX9_where_83 : decode cX9_where 83 = .ok (.iinc 5 (-1), 3) := by decide +kernel
theorem dX9_where_86 : decode cX9_where 86 = .ok (.goto (-38), 3) := by decide +kernel
theorem dX9_where_89 : decode cX9_where 89 = .ok (.iload_n 2, 1) := by decide +kernel
theorem dX9_where_90 : decode cX9_where 90 = .ok (.ifCond .ne 7, 3) := by decide +kernel
theorem dX9_where_93 : decode cX9_where 93 = .ok (.iload_n 3, 1) := by decide +kernel
theorem dX9_where_94 : decode cX9_where 94 = .ok (.goto 5, 3) := by decide +kernel
theorem dX9_where_97 : decode cX9_where 97 = .ok (.iload 4, 2) := by decide +kernel
theorem dX9_where_99 : decode cX9_where 99 = .ok (.ireturn, 1) := by decide +kernel
set_option maxRecDepth 20000 in
theorem l_X9_where {G : Gl} {d : Nat} {σ : Sg} {K : Option Value → Sg → Prop} {Z : Zt} (hZ : RelM Z σ) (hO : OkZ Z) {m w : Int} (m1 : 0 ≤ m) (m2 : m < 2147483648) (w1 : 0 ≤ w) (w2 : w ≤ 1) : ∀ t : Nat, t ≤ 49 → K (some (.int (iI (if w = 0 then cntR (wheF Z.1 m) 49 0 else fstR (wheF Z.1 m) 49 0)))) σ → AW G (d + 7) RX9 cX9_where 6 (some .int) 48 [(0, .ref (gA G 54)), (1, .int (iI m)), (2, .int (iI w)), (3, .int (iI (cntR (wheF Z.1 m) (49 - t) t))), (4, .int (iI (fstR (wheF Z.1 m) (49 - t) t))), (5, .int (iI ((t : Int) - 1)))] [] σ K := by
  intro t
  induction t using Nat.strongRecOn
  rename_i t ih
  intro ht hK
  refine A_iload (pc := 48) dX9_where_48 rfl ?_
  refine A_if_lt (pc := 50) 89 dX9_where_50 (by decide) (by omega) (by omega) (fun h50 => ?_) (fun h50 => ?_)
  · skip
    refine A_iload_n (pc := 89) dX9_where_89 rfl rfl ?_
    refine A_if_ne (pc := 90) 97 dX9_where_90 (by decide) (by omega) (by omega) (fun h90 => ?_) (fun h90 => ?_)
    · skip
      refine A_iload (pc := 97) dX9_where_97 rfl ?_
      refine A_iret (pc := 99) rfl dX9_where_99 ?_
      have ht0 : t = 0 := by omega
      subst ht0
      rw [if_neg (by omega)] at hK
      exact hK
    · skip
      refine A_iload_n (pc := 93) dX9_where_93 rfl rfl ?_
      refine A_goto (pc := 94) 99 dX9_where_94 (by decide) ?_
      refine A_iret (pc := 99) rfl dX9_where_99 ?_
      have ht0 : t = 0 := by omega
      subst ht0
      rw [if_pos (by omega)] at hK
      exact hK
  · skip
    obtain ⟨v, rfl⟩ : ∃ v, t = v + 1 := ⟨t - 1, by omega⟩
    rw [show ((v + 1 : Nat) : Int) - 1 = (v : Int) by omega]
    have hv : v < 49 := by omega
    have hsl := seen_lt hO.1 Z.1.1 (v : Int)
    refine A_aload_n (pc := 53) dX9_where_53 rfl rfl ?_
    refine A_getR (pc := 54) fX9_31 rfl rfl dX9_where_54 ?_
    refine A_iload (pc := 57) dX9_where_57 rfl ?_
    refine A_zaldv (pc := 59) v rfl rfl hv (Nat.le_of_ble_eq_true rfl) (hZ.1.1 v hv) dX9_where_59 ?_
    refine A_ifb_ne (pc := 60) 83 dX9_where_60 (by decide) (fun h60 => ?_) (fun h60 => ?_)
    · skip
      refine A_iinc (pc := 83) dX9_where_83 rfl (Nat.le_of_ble_eq_true rfl) ?_
      refine A_goto (pc := 86) 48 dX9_where_86 (by decide) ?_
      refine A_loc (l2 := [(0, _), (1, _), (2, _), (3, _), (4, _), (5, _)]) ⟨rfl, rfl, rfl, rfl, rfl, rfl, trivial⟩ ?_
      have z : wheF Z.1 m v = false := decide_eq_false (fun q => q.1 ((sT_k hv).mpr h60))
      have e49 : 49 - v = (49 - (v + 1)) + 1 := by omega
      have g := ih v (by omega) (by omega) hK
      rw [e49, cntR_n z, fstR_n z] at g
      rw [show (v : Int) + -1 = (v : Int) - 1 by omega]
      exact g
    · skip
      refine A_aload_n (pc := 63) dX9_where_63 rfl rfl ?_
      refine A_iload (pc := 64) dX9_where_64 rfl ?_
      refine A_callV1 (pc := 66) kX9_162 rfl rfl (c_X9_seenBy hZ.1 hO.1 (k := v) hv) dX9_where_66 rfl rfl (Nat.le_of_ble_eq_true rfl) (Nat.le_of_ble_eq_true rfl) ?_
      refine A_iload_n (pc := 69) dX9_where_69 rfl rfl ?_
      refine A_icmp_eq (pc := 70) 76 dX9_where_70 (by decide) (by omega) (by omega) (by omega) (by omega) (fun h70 => ?_) (fun h70 => ?_)
      · skip
        refine A_iinc (pc := 76) dX9_where_76 rfl (Nat.le_of_ble_eq_true rfl) ?_
        refine A_iload (pc := 79) dX9_where_79 rfl ?_
        refine A_istore (pc := 81) dX9_where_81 (Nat.le_of_ble_eq_true rfl) ?_
        refine A_iinc (pc := 83) dX9_where_83 rfl (Nat.le_of_ble_eq_true rfl) ?_
        refine A_goto (pc := 86) 48 dX9_where_86 (by decide) ?_
        refine A_loc (l2 := [(0, _), (1, _), (2, _), (3, _), (4, _), (5, _)]) ⟨rfl, rfl, rfl, rfl, rfl, rfl, trivial⟩ ?_
        have z : wheF Z.1 m v = true := decide_eq_true ⟨fun q => h60 ((sT_k hv).mp q), h70⟩
        have e49 : 49 - v = (49 - (v + 1)) + 1 := by omega
        have g := ih v (by omega) (by omega) hK
        rw [e49, cntR_y z, fstR_y z] at g
        rw [show (v : Int) + -1 = (v : Int) - 1 by omega]
        rw [show cntR (wheF Z.1 m) (49 - (v + 1)) (v + 1) + 1 = 1 + cntR (wheF Z.1 m) (49 - (v + 1)) (v + 1) by omega]
        exact g
      · skip
        refine A_goto (pc := 73) 83 dX9_where_73 (by decide) ?_
        refine A_iinc (pc := 83) dX9_where_83 rfl (Nat.le_of_ble_eq_true rfl) ?_
        refine A_goto (pc := 86) 48 dX9_where_86 (by decide) ?_
        refine A_loc (l2 := [(0, _), (1, _), (2, _), (3, _), (4, _), (5, _)]) ⟨rfl, rfl, rfl, rfl, rfl, rfl, trivial⟩ ?_
        have z : wheF Z.1 m v = false := decide_eq_false (fun q => h70 q.2)
        have e49 : 49 - v = (49 - (v + 1)) + 1 := by omega
        have g := ih v (by omega) (by omega) hK
        rw [e49, cntR_n z, fstR_n z] at g
        rw [show (v : Int) + -1 = (v : Int) - 1 by omega]
        exact g
set_option maxRecDepth 20000 in
theorem c_X9_where {G : Gl} {d : Nat} {σ : Sg} {Z : Zt} (hZ : RelM Z σ) (hO : OkZ Z) {m : Int} (hm1 : -2147483648 ≤ m) (hm2 : m < 2147483648) {w : Int} (hw1 : -2147483648 ≤ w) (hw2 : w < 2147483648) : CT G (d + 7) yX9_where cX9_where 6 (some .int) [.ref (gA G 54), .int (iI m), .int (iI w)] σ (RE (some (.int (iI (qWhere Z m w).1))) (fun υ => RelM (qWhere Z m w).2 υ ∧ Fr MC σ υ)) := by
  refine CT.of (by decide +kernel) (Nat.le_of_ble_eq_true rfl) ?_
  change AW G _ RX9 _ _ _ 0 [(0, .ref (gA G 54)), (1, .int (iI m)), (2, .int (iI w))] [] _ _
  have o2 := hO.1.2.1
  have o3 := hO.1.2.2.1
  obtain ⟨p, hp⟩ := Int.eq_ofNat_of_zero_le o2
  have hP := pow9 (show p ≤ 9 by omega)
  obtain ⟨P, hPe⟩ : ∃ P, P = 2 ^ p := ⟨_, rfl⟩
  rw [← hPe] at hP
  have hPt : 2 ^ (Z.1.2.1 0).toNat = P := by rw [hp, Int.toNat_natCast, hPe]
  refine A_iload_n (pc := 0) dX9_where_0 rfl rfl ?_
  refine A_iconst (pc := 1) dX9_where_1 ?_
  refine A_iconst (pc := 2) dX9_where_2 ?_
  refine A_callS1 (pc := 3) kX9_86 (c_X9_within (v := w) (a := 0) (b := 1) (by omega) (by omega) (by omega) (by omega) (by omega) (by omega)) dX9_where_3 rfl rfl (Nat.le_of_ble_eq_true rfl) (Nat.le_of_ble_eq_true rfl) ?_
  refine A_ifb_ne (pc := 6) 16 dX9_where_6 (by decide) (fun h6 => ?_) (fun h6 => ?_)
  · skip
    refine A_iload_n (pc := 16) dX9_where_16 rfl rfl ?_
    refine A_iconst (pc := 17) dX9_where_17 ?_
    refine A_iconst (pc := 18) dX9_where_18 ?_
    refine A_aload_n (pc := 19) dX9_where_19 rfl rfl ?_
    refine A_getIv (pc := 20) fX9_83 rfl rfl (hZ.1.2.1.trans hp) dX9_where_20 ?_
    refine A_ishl (pc := 23) (P : Int) dX9_where_23 (by rw [hPe]; exact shl_I (by omega)) ?_
    refine A_iconst (pc := 24) dX9_where_24 ?_
    refine A_isub (pc := 25) dX9_where_25 ?_
    refine A_callS1 (pc := 26) kX9_86 (c_X9_within (v := m) (a := 0) (b := (P : Int) - 1) (by omega) (by omega) (by omega) (by omega) (by omega) (by omega)) dX9_where_26 rfl rfl (Nat.le_of_ble_eq_true rfl) (Nat.le_of_ble_eq_true rfl) ?_
    refine A_ifb_ne (pc := 29) 39 dX9_where_29 (by decide) (fun h29 => ?_) (fun h29 => ?_)
    · skip
      refine A_iconst (pc := 39) dX9_where_39 ?_
      refine A_istore_n (pc := 40) dX9_where_40 rfl (Nat.le_of_ble_eq_true rfl) ?_
      refine A_iconst (pc := 41) dX9_where_41 ?_
      refine A_istore (pc := 42) dX9_where_42 (Nat.le_of_ble_eq_true rfl) ?_
      refine A_bipush (pc := 44) dX9_where_44 (by decide) ?_
      refine A_istore (pc := 46) dX9_where_46 (Nat.le_of_ble_eq_true rfl) ?_
      refine A_loc (l2 := [(0, _), (1, _), (2, _), (3, _), (4, _), (5, _)]) ⟨rfl, rfl, rfl, rfl, rfl, rfl, trivial⟩ ?_
      refine l_X9_where hZ hO (by omega) (by omega) (by omega) (by omega) 49 (Nat.le_refl _) ?_
      exact RQM (by unfold qWhere; rw [if_neg (by omega), hPt, if_neg (by omega)]) hZ Fr.rf
    · skip
      refine A_aload_n (pc := 32) dX9_where_32 rfl rfl ?_
      refine A_bipush (pc := 33) dX9_where_33 (by decide) ?_
      refine A_callVe (pc := 35) kX9_237 rfl rfl (c_X9_no10 hZ hO (t := -6) (by omega) (by omega)) dX9_where_35 rfl rfl (Nat.le_of_ble_eq_true rfl) (Nat.le_of_ble_eq_true rfl) (fun υ hυ => ?_)
      refine A_iret (pc := 38) rfl dX9_where_38 ?_
      exact RQM (by unfold qWhere; rw [if_neg (by omega), hPt, if_pos (by omega)]; rfl) hυ.1 (hυ.2.mono MC70)
  · skip
    refine A_aload_n (pc := 9) dX9_where_9 rfl rfl ?_
    refine A_bipush (pc := 10) dX9_where_10 (by decide) ?_
    refine A_callVe (pc := 12) kX9_237 rfl rfl (c_X9_no10 hZ hO (t := -5) (by omega) (by omega)) dX9_where_12 rfl rfl (Nat.le_of_ble_eq_true rfl) (Nat.le_of_ble_eq_true rfl) (fun υ hυ => ?_)
    refine A_iret (pc := 15) rfl dX9_where_15 ?_
    exact RQM (by unfold qWhere; rw [if_pos h6]; rfl) hυ.1 (hυ.2.mono MC70)
theorem dX9_ask_0 : decode cX9_ask 0 = .ok (.aload_n 0, 1) := by decide +kernel
theorem dX9_ask_1 : decode cX9_ask 1 = .ok (.iload_n 1, 1) := by decide +kernel
theorem dX9_ask_2 : decode cX9_ask 2 = .ok (.invokevirtual 256, 3) := by decide +kernel
theorem dX9_ask_5 : decode cX9_ask 5 = .ok (.istore_n 2, 1) := by decide +kernel
theorem dX9_ask_6 : decode cX9_ask 6 = .ok (.iload_n 2, 1) := by decide +kernel
theorem dX9_ask_7 : decode cX9_ask 7 = .ok (.ifCond .ge 9, 3) := by decide +kernel
theorem dX9_ask_10 : decode cX9_ask 10 = .ok (.aload_n 0, 1) := by decide +kernel
theorem dX9_ask_11 : decode cX9_ask 11 = .ok (.iload_n 2, 1) := by decide +kernel
theorem dX9_ask_12 : decode cX9_ask 12 = .ok (.invokevirtual 237, 3) := by decide +kernel
theorem dX9_ask_15 : decode cX9_ask 15 = .ok (.ireturn, 1) := by decide +kernel
theorem dX9_ask_16 : decode cX9_ask 16 = .ok (.aload_n 0, 1) := by decide +kernel
theorem dX9_ask_17 : decode cX9_ask 17 = .ok (.getfield 41, 3) := by decide +kernel
theorem dX9_ask_20 : decode cX9_ask 20 = .ok (.iload_n 1, 1) := by decide +kernel
theorem dX9_ask_21 : decode cX9_ask 21 = .ok (.iaload, 1) := by decide +kernel
theorem dX9_ask_22 : decode cX9_ask 22 = .ok (.istore_n 3, 1) := by decide +kernel
theorem dX9_ask_23 : decode cX9_ask 23 = .ok (.iconst (-1), 1) := by decide +kernel
theorem dX9_ask_24 : decode cX9_ask 24 = .ok (.istore 4, 2) := by decide +kernel
theorem dX9_ask_26 : decode cX9_ask 26 = .ok (.iload_n 3, 1) := by decide +kernel
theorem dX9_ask_27 : decode cX9_ask 27 = .ok (.iconst 1, 1) := by decide +kernel
theorem dX9_ask_28 : decode cX9_ask 28 = .ok (.iadd, 1) := by decide +kernel
theorem dX9_ask_29 : decode cX9_ask 29 = .ok (.istore 5, 2) := by decide +kernel
theorem dX9_ask_31 : decode cX9_ask 31 = .ok (.iconst 0, 1) := by decide +kernel
theorem dX9_ask_32 : decode cX9_ask 32 = .ok (.istore 6, 2) := by decide +kernel
theorem dX9_ask_34 : decode cX9_ask 34 = .ok (.iload 6, 2) := by decide +kernel
theorem dX9_ask_36 : decode cX9_ask 36 = .ok (.aload_n 0, 1) := by decide +kernel
theorem dX9_ask_37 : decode cX9_ask 37 = .ok (.getfield 83, 3) := by decide +kernel
theorem dX9_ask_40 : decode cX9_ask 40 = .ok (.if_icmp .ge 85, 3) := by decide +kernel
theorem dX9_ask_43 : decode cX9_ask 43 = .ok (.iload_n 3, 1) := by decide +kernel
theorem dX9_ask_44 : decode cX9_ask 44 = .ok (.iconst 1, 1) := by decide +kernel
theorem dX9_ask_45 : decode cX9_ask 45 = .ok (.if_icmp .le 80, 3) := by decide +kernel
theorem dX9_ask_48 : decode cX9_ask 48 = .ok (.iconst 0, 1) := by decide +kernel
theorem dX9_ask_49 : decode cX9_ask 49 = .ok (.istore 7, 2) := by decide +kernel
theorem dX9_ask_51 : decode cX9_ask 51 = .ok (.iconst 0, 1) := by decide +kernel
theorem dX9_ask_52 : decode cX9_ask 52 = .ok (.istore 8, 2) := by decide +kernel
theorem dX9_ask_54 : decode cX9_ask 54 = .ok (.iload 8, 2) := by decide +kernel
theorem dX9_ask_56 : decode cX9_ask 56 = .ok (.iload_n 3, 1) := by decide +kernel
theorem dX9_ask_57 : decode cX9_ask 57 = .ok (.if_icmp .ge 33, 3) := by decide +kernel
theorem dX9_ask_60 : decode cX9_ask 60 = .ok (.aload_n 0, 1) := by decide +kernel
theorem dX9_ask_61 : decode cX9_ask 61 = .ok (.iload 6, 2) := by decide +kernel
theorem dX9_ask_63 : decode cX9_ask 63 = .ok (.invokevirtual 113, 3) := by decide +kernel
theorem dX9_ask_66 : decode cX9_ask 66 = .ok (.aload_n 0, 1) := by decide +kernel
theorem dX9_ask_67 : decode cX9_ask 67 = .ok (.iload_n 1, 1) := by decide +kernel
theorem dX9_ask_68 : decode cX9_ask 68 = .ok (.iload 8, 2) := by decide +kernel
theorem dX9_ask_70 : decode cX9_ask 70 = .ok (.invokevirtual 253, 3) := by decide +kernel
theorem dX9_ask_73 : decode cX9_ask 73 = .ok (.lshr, 1) := by decide +kernel
theorem dX9_ask_74 : decode cX9_ask 74 = .ok (.lconst 1, 1) := by decide +kernel
theorem dX9_ask_75 : decode cX9_ask 75 = .ok (.land, 1) := by decide +kernel
theorem dX9_ask_76 : decode cX9_ask 76 = .ok (.lconst 1, 1) := by decide +kernel
theorem dX9_ask_77 : decode cX9_ask 77 = .ok (.lcmp, 1) := by decide +kernel
theorem dX9_ask_78 : decode cX9_ask 78 = .ok (.ifCond .ne 6, 3) := by decide +kernel
theorem dX9_ask_81 : decode cX9_ask 81 = .ok (.iinc 7 1, 3) := by decide +kernel
theorem dX9_ask_84 : decode cX9_ask 84 = .ok (.iinc 8 1, 3) := by decide +kernel
theorem dX9_ask_87 : decode cX9_ask 87 = .ok (.goto (-33), 3) := by decide +kernel
theorem dX9_ask_90 : decode cX9_ask 90 = .ok (.iload 7, 2) := by decide +kernel
theorem dX9_ask_92 : decode cX9_ask 92 = .ok (.iload_n 3, 1) := by decide +kernel
theorem dX9_ask_93 : decode cX9_ask 93 = .ok (.iload 7, 2) := by decide +kernel
theorem dX9_ask_95 : decode cX9_ask 95 = .ok (.isub, 1) := by decide +kernel
theorem dX9_ask_96 : decode cX9_ask 96 = .ok (.invokestatic 261, 3) := by decide +kernel
theorem dX9_ask_99 : decode cX9_ask 99 = .ok (.istore 8, 2) := by decide +kernel
theorem dX9_ask_101 : decode cX9_ask 101 = .ok (.iload 8, 2) := by decide +kernel
theorem dX9_ask_103 : decode cX9_ask 103 = .ok (.iload 5, 2) := by decide +kernel
theorem dX9_ask_105 : decode cX9_ask 105 = .ok (.if_icmp .lt 6, 3) := by decide +kernel
theorem dX9_ask_108 : decode cX9_ask 108 = .ok (.goto 11, 3) := by decide +kernel
theorem dX9_ask_111 : decode cX9_ask 111 = .ok (.iload 8, 2) := by decide +kernel
theorem dX9_ask_113 : decode cX9_ask 113 = .ok (.istore 5, 2) := by decide +kernel
theorem dX9_ask_115 : decode cX9_ask 115 = .ok (.iload 6, 2) := by decide +kernel
theorem dX9_ask_117 : decode cX9_ask 117 = .ok (.istore 4, 2) := by decide +kernel
theorem dX9_ask_119 : decode cX9_ask 119 = .ok (.iinc 6 1, 3) := by decide +kernel
theorem dX9_ask_122 : decode cX9_ask 122 = .ok (.goto (-88), 3) := by decide +kernel
theorem dX9_ask_125 : decode cX9_ask 125 = .ok (.iload 4, 2) := by decide +kernel
theorem dX9_ask_127 : decode cX9_ask 127 = .ok (.ireturn, 1) := by decide +kernel
set_option maxRecDepth 20000 in
theorem l1_X9_ask {G : Gl} {d : Nat} {σ : Sg} {K : Option Value → Sg → Prop} {Z : Zt} (hZ : RelM Z σ) (hO : OkZ Z) {k : Nat} (k8 : k < 8) (hq : squT Z (k : Int) = 0) {b c : Int} {p : Nat} (hp : (p : Int) < Z.1.2.1 0) : ∀ (n i : Nat) (t : Int), (i : Int) + n = Z.2.1.2.1 k → AW G (d + 6) RX9 cX9_ask 9 (some .int) 90 [(0, .ref (gA G 54)), (1, .int (iI (k : Int))), (3, .int (iI (Z.2.1.2.1 k))), (4, .int (iI b)), (5, .int (iI c)), (6, .int (iI (p : Int))), (7, .int (iI (t + sumR (askC Z k p) n i)))] [] σ K → AW G (d + 6) RX9 cX9_ask 9 (some .int) 54 [(0, .ref (gA G 54)), (1, .int (iI (k : Int))), (3, .int (iI (Z.2.1.2.1 k))), (4, .int (iI b)), (5, .int (iI c)), (6, .int (iI (p : Int))), (7, .int (iI t)), (8, .int (iI (i : Int)))] [] σ K := by
  intro n
  induction n using Nat.strongRecOn
  rename_i n ih
  intro i t hn hK
  have ko := hO.2.1 k k8
  obtain ⟨b1, b2, b3, b4⟩ := ko.1
  refine A_iload (pc := 54) dX9_ask_54 rfl ?_
  refine A_iload_n (pc := 56) dX9_ask_56 rfl rfl ?_
  refine A_icmp_ge (pc := 57) 90 dX9_ask_57 (by decide) (by omega) (by omega) (by omega) (by omega) (fun h57 => ?_) (fun h57 => ?_)
  · skip
    have hn0 : n = 0 := by omega
    subst hn0
    refine A_loc (l2 := [(0, _), (1, _), (3, _), (4, _), (5, _), (6, _), (7, _)]) ⟨rfl, rfl, rfl, rfl, rfl, rfl, rfl, trivial⟩ ?_
    rw [sumR, Int.add_zero] at hK
    exact hK
  · skip
    have hv := squT_el (i := i) hq b3 (by omega)
    refine A_aload_n (pc := 60) dX9_ask_60 rfl rfl ?_
    refine A_iload (pc := 61) dX9_ask_61 rfl ?_
    refine A_callV1 (pc := 63) kX9_113 rfl rfl (c_X9_sees hZ.1 hO.1 hp) dX9_ask_63 rfl rfl (Nat.le_of_ble_eq_true rfl) (Nat.le_of_ble_eq_true rfl) ?_
    refine A_aload_n (pc := 66) dX9_ask_66 rfl rfl ?_
    refine A_iload_n (pc := 67) dX9_ask_67 rfl rfl ?_
    refine A_iload (pc := 68) dX9_ask_68 rfl ?_
    refine A_callV1 (pc := 70) kX9_253 rfl rfl (c_X9_toldAt hZ hO k8 (show i < 160 by omega)) dX9_ask_70 rfl rfl (Nat.le_of_ble_eq_true rfl) (Nat.le_of_ble_eq_true rfl) ?_
    refine A_lshr (pc := 73) (lN (seeB Z.1 Z.1.1 p / 2 ^ (elV Z k i).toNat)) dX9_ask_73 (shrS_v (seeB_lt _ _ _) hv) ?_
    refine A_lconst (pc := 74) 1 dX9_ask_74 rfl ?_
    refine A_land (pc := 75) dX9_ask_75 ?_
    refine A_lconst (pc := 76) 1 dX9_ask_76 rfl ?_
    refine A_lcmp (pc := 77) dX9_ask_77 ?_
    rw [lcm_bit1 (seeB_lt _ _ _)]
    have hbr := bI_rng ((seeB Z.1 Z.1.1 p).testBit (elV Z k i).toNat = true)
    refine A_if_ne (pc := 78) 84 dX9_ask_78 (by decide) (by omega) (by omega) (fun h78 => ?_) (fun h78 => ?_)
    · skip
      refine A_iinc (pc := 84) dX9_ask_84 rfl (Nat.le_of_ble_eq_true rfl) ?_
      refine A_goto (pc := 87) 54 dX9_ask_87 (by decide) ?_
      obtain ⟨u, rfl⟩ : ∃ u, n = u + 1 := ⟨n - 1, by omega⟩
      refine A_loc (l2 := [(0, _), (1, _), (3, _), (4, _), (5, _), (6, _), (7, _), (8, _)]) ⟨rfl, rfl, rfl, rfl, rfl, rfl, rfl, rfl, trivial⟩ ?_
      refine ih u (by omega) (i + 1) t (by omega) ?_
      have e : askC Z k p i = 0 := if_neg (fun q => by rw [see0_in hp] at q; exact bI_m1n h78 ((sT_v hv).mp q))
      rw [sumR, e, Int.zero_add] at hK
      exact hK
    · skip
      refine A_iinc (pc := 81) dX9_ask_81 rfl (Nat.le_of_ble_eq_true rfl) ?_
      refine A_iinc (pc := 84) dX9_ask_84 rfl (Nat.le_of_ble_eq_true rfl) ?_
      refine A_goto (pc := 87) 54 dX9_ask_87 (by decide) ?_
      obtain ⟨u, rfl⟩ : ∃ u, n = u + 1 := ⟨n - 1, by omega⟩
      refine A_loc (l2 := [(0, _), (1, _), (3, _), (4, _), (5, _), (6, _), (7, _), (8, _)]) ⟨rfl, rfl, rfl, rfl, rfl, rfl, rfl, rfl, trivial⟩ ?_
      refine ih u (by omega) (i + 1) (t + 1) (by omega) ?_
      have e : askC Z k p i = 1 := if_pos (by rw [see0_in hp]; exact (sT_v hv).mpr (bI_m1 (by omega)))
      rw [sumR, e, ← Int.add_assoc] at hK
      exact hK
set_option maxRecDepth 20000 in
theorem l2_X9_ask {G : Gl} {d : Nat} {σ : Sg} {K : Option Value → Sg → Prop} {Z : Zt} (hZ : RelM Z σ) (hO : OkZ Z) {k : Nat} (k8 : k < 8) {b c : Int} {p : Nat} (c1 : -1 ≤ c) (c2 : c ≤ 161) (hK1 : askF Z k p < c → AW G (d + 6) RX9 cX9_ask 9 (some .int) 34 [(0, .ref (gA G 54)), (1, .int (iI (k : Int))), (3, .int (iI (Z.2.1.2.1 k))), (4, .int (iI (p : Int))), (5, .int (iI (askF Z k p))), (6, .int (iI ((p : Int) + 1)))] [] σ K) (hK2 : ¬ askF Z k p < c → AW G (d + 6) RX9 cX9_ask 9 (some .int) 34 [(0, .ref (gA G 54)), (1, .int (iI (k : Int))), (3, .int (iI (Z.2.1.2.1 k))), (4, .int (iI b)), (5, .int (iI c)), (6, .int (iI ((p : Int) + 1)))] [] σ K) : AW G (d + 6) RX9 cX9_ask 9 (some .int) 90 [(0, .ref (gA G 54)), (1, .int (iI (k : Int))), (3, .int (iI (Z.2.1.2.1 k))), (4, .int (iI b)), (5, .int (iI c)), (6, .int (iI (p : Int))), (7, .int (iI (sumR (askC Z k p) (Z.2.1.2.1 k).toNat 0)))] [] σ K := by
  have ko := hO.2.1 k k8
  obtain ⟨g1, g2, g3, g4⟩ := ko.1
  have hr := askS_rng Z k p (Z.2.1.2.1 k).toNat 0
  refine A_iload (pc := 90) dX9_ask_90 rfl ?_
  refine A_iload_n (pc := 92) dX9_ask_92 rfl rfl ?_
  refine A_iload (pc := 93) dX9_ask_93 rfl ?_
  refine A_isub (pc := 95) dX9_ask_95 ?_
  refine A_mmax (pc := 96) kX9_261 (by omega) (by omega) (by omega) (by omega) dX9_ask_96 (Nat.le_of_ble_eq_true rfl) ?_
  change AW G _ _ _ _ _ _ _ [.int (iI (askF Z k p))] _ _
  have hf : 0 ≤ askF Z k p ∧ askF Z k p ≤ 160 := by unfold askF; omega
  refine A_istore (pc := 99) dX9_ask_99 (Nat.le_of_ble_eq_true rfl) ?_
  refine A_iload (pc := 101) dX9_ask_101 rfl ?_
  refine A_iload (pc := 103) dX9_ask_103 rfl ?_
  refine A_icmp_lt (pc := 105) 111 dX9_ask_105 (by decide) (by omega) (by omega) (by omega) (by omega) (fun h105 => ?_) (fun h105 => ?_)
  · skip
    refine A_iload (pc := 111) dX9_ask_111 rfl ?_
    refine A_istore (pc := 113) dX9_ask_113 (Nat.le_of_ble_eq_true rfl) ?_
    refine A_iload (pc := 115) dX9_ask_115 rfl ?_
    refine A_istore (pc := 117) dX9_ask_117 (Nat.le_of_ble_eq_true rfl) ?_
    refine A_iinc (pc := 119) dX9_ask_119 rfl (Nat.le_of_ble_eq_true rfl) ?_
    refine A_goto (pc := 122) 34 dX9_ask_122 (by decide) ?_
    refine A_loc (l2 := [(0, _), (1, _), (3, _), (4, _), (5, _), (6, _)]) ⟨rfl, rfl, rfl, rfl, rfl, rfl, trivial⟩ ?_
    exact hK1 (by omega)
  · skip
    refine A_goto (pc := 108) 119 dX9_ask_108 (by decide) ?_
    refine A_iinc (pc := 119) dX9_ask_119 rfl (Nat.le_of_ble_eq_true rfl) ?_
    refine A_goto (pc := 122) 34 dX9_ask_122 (by decide) ?_
    refine A_loc (l2 := [(0, _), (1, _), (3, _), (4, _), (5, _), (6, _)]) ⟨rfl, rfl, rfl, rfl, rfl, rfl, trivial⟩ ?_
    exact hK2 (by omega)
set_option maxRecDepth 20000 in
theorem l3_X9_ask {G : Gl} {d : Nat} {σ : Sg} {K : Option Value → Sg → Prop} {Z : Zt} (hZ : RelM Z σ) (hO : OkZ Z) {k : Nat} (k8 : k < 8) (hq : squT Z (k : Int) = 0) : ∀ (n p : Nat) (b c : Int), (p : Int) + n = Z.1.2.1 0 → -1 ≤ b → b < 9 → -1 ≤ c → c ≤ 161 → (b = -1 → c = Z.2.1.2.1 k + 1) → K (some (.int (iI (if Z.2.1.2.1 k < 2 then b else askG (askF Z k) n p b c)))) σ → AW G (d + 6) RX9 cX9_ask 9 (some .int) 34 [(0, .ref (gA G 54)), (1, .int (iI (k : Int))), (3, .int (iI (Z.2.1.2.1 k))), (4, .int (iI b)), (5, .int (iI c)), (6, .int (iI (p : Int)))] [] σ K := by
  intro n
  induction n using Nat.strongRecOn
  rename_i n ih
  intro p b c hn b1 b2 c1 c2 hbc hK
  have ko := hO.2.1 k k8
  obtain ⟨g1, g2, g3, g4⟩ := ko.1
  have hr := askS_rng Z k p (Z.2.1.2.1 k).toNat 0
  have hf : 0 ≤ askF Z k p ∧ askF Z k p ≤ 160 ∧ askF Z k p ≤ Z.2.1.2.1 k := by unfold askF; omega
  have hO2 := hO.1
  obtain ⟨o1, o2, o3, o4, o5, o6, o7, o8, o9⟩ := hO2
  have p0 := hZ.1.2.1
  have p1 := hZ.1.2.2.1
  refine A_iload (pc := 34) dX9_ask_34 rfl ?_
  refine A_aload_n (pc := 36) dX9_ask_36 rfl rfl ?_
  refine A_getIv (pc := 37) fX9_83 rfl rfl p0 dX9_ask_37 ?_
  refine A_icmp_ge (pc := 40) 125 dX9_ask_40 (by decide) (by omega) (by omega) (by omega) (by omega) (fun h40 => ?_) (fun h40 => ?_)
  · skip
    refine A_iload (pc := 125) dX9_ask_125 rfl ?_
    refine A_iret (pc := 127) rfl dX9_ask_127 ?_
    have hn0 : n = 0 := by omega
    subst hn0
    rw [askG] at hK
    have e : (if Z.2.1.2.1 k < 2 then b else b) = b := by split <;> rfl
    rw [e] at hK
    exact hK
  · skip
    refine A_iload_n (pc := 43) dX9_ask_43 rfl rfl ?_
    refine A_iconst (pc := 44) dX9_ask_44 ?_
    refine A_icmp_le (pc := 45) 125 dX9_ask_45 (by decide) (by omega) (by omega) (by omega) (by omega) (fun h45 => ?_) (fun h45 => ?_)
    · skip
      refine A_iload (pc := 125) dX9_ask_125 rfl ?_
      refine A_iret (pc := 127) rfl dX9_ask_127 ?_
      rw [if_pos (by omega)] at hK
      exact hK
    · skip
      refine A_iconst (pc := 48) dX9_ask_48 ?_
      refine A_istore (pc := 49) dX9_ask_49 (Nat.le_of_ble_eq_true rfl) ?_
      refine A_iconst (pc := 51) dX9_ask_51 ?_
      refine A_istore (pc := 52) dX9_ask_52 (Nat.le_of_ble_eq_true rfl) ?_
      obtain ⟨u, rfl⟩ : ∃ u, n = u + 1 := ⟨n - 1, by omega⟩
      rw [if_neg (by omega)] at hK
      refine A_loc (l2 := [(0, _), (1, _), (3, _), (4, _), (5, _), (6, _), (7, _), (8, _)]) ⟨rfl, rfl, rfl, rfl, rfl, rfl, rfl, rfl, trivial⟩ ?_
      refine l1_X9_ask hZ hO k8 hq (p := p) (by omega) (Z.2.1.2.1 k).toNat 0 0 (by omega) ?_
      rw [Int.zero_add]
      refine l2_X9_ask hZ hO k8 (p := p) c1 c2 (fun h => ?_) (fun h => ?_)
      · refine ih u (by omega) (p + 1) _ _ (by omega) (by omega) (by omega) (by omega) (by omega) (by omega) ?_
        rw [askG_y (Or.inr h)] at hK
        rw [if_neg (by omega)]
        exact hK
      · refine ih u (by omega) (p + 1) _ _ (by omega) b1 b2 c1 c2 hbc ?_
        rw [askG_n (by omega)] at hK
        rw [if_neg (by omega)]
        exact hK
set_option maxRecDepth 20000 in
theorem c_X9_ask {G : Gl} {d : Nat} {σ : Sg} {Z : Zt} (hZ : RelM Z σ) (hO : OkZ Z) {s : Int} (hs1 : -2147483648 ≤ s) (hs2 : s < 2147483648) : CT G (d + 6) yX9_ask cX9_ask 9 (some .int) [.ref (gA G 54), .int (iI s)] σ (RE (some (.int (iI (qAsk Z s).1))) (fun υ => RelM (qAsk Z s).2 υ ∧ Fr MC σ υ)) := by
  refine CT.of (by decide +kernel) (Nat.le_of_ble_eq_true rfl) ?_
  change AW G _ RX9 _ _ _ 0 [(0, .ref (gA G 54)), (1, .int (iI s))] [] _ _
  have hst := squT_rng Z s
  refine A_aload_n (pc := 0) dX9_ask_0 rfl rfl ?_
  refine A_iload_n (pc := 1) dX9_ask_1 rfl rfl ?_
  refine A_callV1 (pc := 2) kX9_256 rfl rfl (c_X9_noSquares hZ hO hs1 hs2) dX9_ask_2 rfl rfl (Nat.le_of_ble_eq_true rfl) (Nat.le_of_ble_eq_true rfl) ?_
  refine A_istore_n (pc := 5) dX9_ask_5 rfl (Nat.le_of_ble_eq_true rfl) ?_
  refine A_iload_n (pc := 6) dX9_ask_6 rfl rfl ?_
  refine A_if_ge (pc := 7) 16 dX9_ask_7 (by decide) (by omega) (by omega) (fun h7 => ?_) (fun h7 => ?_)
  · skip
    have hs0 : squT Z s = 0 := by omega
    have h0 := squT_r hs0
    obtain ⟨h8, h100⟩ := rowT_0 h0
    obtain ⟨k, rfl⟩ := Int.eq_ofNat_of_zero_le (show 0 ≤ s by omega)
    have k8 : k < 8 := by omega
    have ks := hZ.2.1 k k8
    have ko := hO.2.1 k k8
    obtain ⟨b1, b2, b3, b4⟩ := ko.1
    simp only [Int.toNat_natCast] at h100
    have o2 := hO.1.2.1
    refine A_aload_n (pc := 16) dX9_ask_16 rfl rfl ?_
    refine A_getR (pc := 17) fX9_41 rfl rfl dX9_ask_17 ?_
    refine A_iload_n (pc := 20) dX9_ask_20 rfl rfl ?_
    refine A_ialdv (pc := 21) _ rfl rfl (by omega) (Nat.le_of_ble_eq_true rfl) (ks.2.1 h100) dX9_ask_21 ?_
    refine A_istore_n (pc := 22) dX9_ask_22 rfl (Nat.le_of_ble_eq_true rfl) ?_
    refine A_iconst (pc := 23) dX9_ask_23 ?_
    refine A_istore (pc := 24) dX9_ask_24 (Nat.le_of_ble_eq_true rfl) ?_
    refine A_iload_n (pc := 26) dX9_ask_26 rfl rfl ?_
    refine A_iconst (pc := 27) dX9_ask_27 ?_
    refine A_iadd (pc := 28) dX9_ask_28 ?_
    refine A_istore (pc := 29) dX9_ask_29 (Nat.le_of_ble_eq_true rfl) ?_
    refine A_iconst (pc := 31) dX9_ask_31 ?_
    refine A_istore (pc := 32) dX9_ask_32 (Nat.le_of_ble_eq_true rfl) ?_
    refine A_loc (l2 := [(0, _), (1, _), (3, _), (4, _), (5, _), (6, _)]) ⟨rfl, rfl, rfl, rfl, rfl, rfl, trivial⟩ ?_
    refine l3_X9_ask hZ hO k8 hs0 (Z.1.2.1 0).toNat 0 (-1) _ (by omega) (by omega) (by omega) (by omega) (by omega) (fun _ => rfl) ?_
    refine RQM ?_ hZ Fr.rf
    unfold qAsk
    simp only [Int.toNat_natCast]
    rw [if_neg (by omega)]
    by_cases h2 : Z.2.1.2.1 k < 2
    · rw [if_pos h2, if_pos h2]
    · rw [if_neg h2, if_neg h2, askG_w]
  · skip
    refine A_aload_n (pc := 10) dX9_ask_10 rfl rfl ?_
    refine A_iload_n (pc := 11) dX9_ask_11 rfl rfl ?_
    refine A_callVe (pc := 12) kX9_237 rfl rfl (c_X9_no10 hZ hO (t := squT Z s) (by omega) (by omega)) dX9_ask_12 rfl rfl (Nat.le_of_ble_eq_true rfl) (Nat.le_of_ble_eq_true rfl) (fun υ hυ => ?_)
    refine A_iret (pc := 15) rfl dX9_ask_15 ?_
    exact RQM (by unfold qAsk; rw [if_pos (by omega)]; rfl) hυ.1 (hυ.2.mono MC70)
theorem dX9_fresh_0 : decode cX9_fresh 0 = .ok (.aload_n 0, 1) := by decide +kernel
theorem dX9_fresh_1 : decode cX9_fresh 1 = .ok (.iload_n 1, 1) := by decide +kernel
theorem dX9_fresh_2 : decode cX9_fresh 2 = .ok (.invokevirtual 143, 3) := by decide +kernel
theorem dX9_fresh_5 : decode cX9_fresh 5 = .ok (.ifCond .ne 10, 3) := by decide +kernel
theorem dX9_fresh_8 : decode cX9_fresh 8 = .ok (.aload_n 0, 1) := by decide +kernel
theorem dX9_fresh_9 : decode cX9_fresh 9 = .ok (.bipush (-6), 2) := by decide +kernel
theorem dX9_fresh_11 : decode cX9_fresh 11 = .ok (.invokevirtual 237, 3) := by decide +kernel
theorem dX9_fresh_14 : decode cX9_fresh 14 = .ok (.ireturn, 1) := by decide +kernel
theorem dX9_fresh_15 : decode cX9_fresh 15 = .ok (.iconst 0, 1) := by decide +kernel
theorem dX9_fresh_16 : decode cX9_fresh 16 = .ok (.istore_n 2, 1) := by decide +kernel
theorem dX9_fresh_17 : decode cX9_fresh 17 = .ok (.iload_n 2, 1) := by decide +kernel
theorem dX9_fresh_18 : decode cX9_fresh 18 = .ok (.bipush 49, 2) := by decide +kernel
theorem dX9_fresh_20 : decode cX9_fresh 20 = .ok (.if_icmp .ge 60, 3) := by decide +kernel
theorem dX9_fresh_23 : decode cX9_fresh 23 = .ok (.iconst 0, 1) := by decide +kernel
theorem dX9_fresh_24 : decode cX9_fresh 24 = .ok (.istore_n 3, 1) := by decide +kernel
theorem dX9_fresh_25 : decode cX9_fresh 25 = .ok (.iload_n 3, 1) := by decide +kernel
theorem dX9_fresh_26 : decode cX9_fresh 26 = .ok (.iconst 3, 1) := by decide +kernel
theorem dX9_fresh_27 : decode cX9_fresh 27 = .ok (.if_icmp .gt 47, 3) := by decide +kernel
theorem dX9_fresh_30 : decode cX9_fresh 30 = .ok (.aload_n 0, 1) := by decide +kernel
theorem dX9_fresh_31 : decode cX9_fresh 31 = .ok (.getfield 31, 3) := by decide +kernel
theorem dX9_fresh_34 : decode cX9_fresh 34 = .ok (.iload_n 2, 1) := by decide +kernel
theorem dX9_fresh_35 : decode cX9_fresh 35 = .ok (.baload, 1) := by decide +kernel
theorem dX9_fresh_36 : decode cX9_fresh 36 = .ok (.ifCond .eq 32, 3) := by decide +kernel
theorem dX9_fresh_39 : decode cX9_fresh 39 = .ok (.aload_n 0, 1) := by decide +kernel
theorem dX9_fresh_40 : decode cX9_fresh 40 = .ok (.iload_n 2, 1) := by decide +kernel
theorem dX9_fresh_41 : decode cX9_fresh 41 = .ok (.iload_n 3, 1) := by decide +kernel
theorem dX9_fresh_42 : decode cX9_fresh 42 = .ok (.aload_n 0, 1) := by decide +kernel
theorem dX9_fresh_43 : decode cX9_fresh 43 = .ok (.getfield 35, 3) := by decide +kernel
theorem dX9_fresh_46 : decode cX9_fresh 46 = .ok (.iconst 0, 1) := by decide +kernel
theorem dX9_fresh_47 : decode cX9_fresh 47 = .ok (.iaload, 1) := by decide +kernel
theorem dX9_fresh_48 : decode cX9_fresh 48 = .ok (.iconst 0, 1) := by decide +kernel
theorem dX9_fresh_49 : decode cX9_fresh 49 = .ok (.invokevirtual 229, 3) := by decide +kernel
theorem dX9_fresh_52 : decode cX9_fresh 52 = .ok (.iload_n 1, 1) := by decide +kernel
theorem dX9_fresh_53 : decode cX9_fresh 53 = .ok (.lshr, 1) := by decide +kernel
theorem dX9_fresh_54 : decode cX9_fresh 54 = .ok (.lconst 1, 1) := by decide +kernel
theorem dX9_fresh_55 : decode cX9_fresh 55 = .ok (.land, 1) := by decide +kernel
theorem dX9_fresh_56 : decode cX9_fresh 56 = .ok (.lconst 1, 1) := by decide +kernel
theorem dX9_fresh_57 : decode cX9_fresh 57 = .ok (.lcmp, 1) := by decide +kernel
theorem dX9_fresh_58 : decode cX9_fresh 58 = .ok (.ifCond .ne 10, 3) := by decide +kernel
theorem dX9_fresh_61 : decode cX9_fresh 61 = .ok (.bipush 10, 2) := by decide +kernel
theorem dX9_fresh_63 : decode cX9_fresh 63 = .ok (.iload_n 2, 1) := by decide +kernel
theorem dX9_fresh_64 : decode cX9_fresh 64 = .ok (.imul, 1) := by decide +kernel
theorem dX9_fresh_65 : decode cX9_fresh 65 = .ok (.iload_n 3, 1) := by decide +kernel
theorem dX9_fresh_66 : decode cX9_fresh 66 = .ok (.iadd, 1) := by decide +kernel
theorem dX9_fresh_67 : decode cX9_fresh 67 = .ok (.ireturn, 1) := by decide +kernel
theorem dX9_fresh_68 : decode cX9_fresh 68 = .ok (.iinc 3 1, 3) := by decide +kernel
theorem dX9_fresh_71 : decode cX9_fresh 71 = .ok (.goto (-46), 3) := by decide +kernel
theorem dX9_fresh_74 : decode cX9_fresh 74 = .ok (.iinc 2 1, 3) := by decide +kernel
theorem dX9_fresh_77 : decode cX9_fresh 77 = .ok (.goto (-60), 3) := by decide +kernel
theorem dX9_fresh_80 : decode cX9_fresh 80 = .ok (.iconst (-1), 1) := by decide +kernel
theorem dX9_fresh_81 : decode cX9_fresh 81 = .ok (.ireturn, 1) := by decide +kernel
set_option maxRecDepth 20000 in
theorem l1_X9_fresh {G : Gl} {d : Nat} {σ : Sg} {K : Option Value → Sg → Prop} {Z : Zt} (hZ : RelM Z σ) (hO : OkZ Z) {s : Nat} (hs : s < 49) {c : Nat} (hc : c < 49) : ∀ (n w : Nat), w + n = 4 → (frW Z.1 (s : Int) c n w = -1 → AW G (d + 5) RX9 cX9_fresh 4 (some .int) 74 [(0, .ref (gA G 54)), (1, .int (iI (s : Int))), (2, .int (iI (c : Int)))] [] σ K) → (frW Z.1 (s : Int) c n w ≠ -1 → K (some (.int (iI (frW Z.1 (s : Int) c n w)))) σ) → AW G (d + 5) RX9 cX9_fresh 4 (some .int) 25 [(0, .ref (gA G 54)), (1, .int (iI (s : Int))), (2, .int (iI (c : Int))), (3, .int (iI (w : Int)))] [] σ K := by
  intro n
  induction n using Nat.strongRecOn
  rename_i n ih
  intro w hn hK1 hK2
  have hO2 := hO.1
  obtain ⟨o1, o2, o3, o4, o5, o6, o7, o8, o9⟩ := hO2
  have p0 := hZ.1.2.1
  have p1 := hZ.1.2.2.1
  have p2 : σ.1 63 0 = Z.1.2.1 2 := hZ.1.2.2.2.1 0 (by decide)
  refine A_iload_n (pc := 25) dX9_fresh_25 rfl rfl ?_
  refine A_iconst (pc := 26) dX9_fresh_26 ?_
  refine A_icmp_gt (pc := 27) 74 dX9_fresh_27 (by decide) (by omega) (by omega) (by omega) (by omega) (fun h27 => ?_) (fun h27 => ?_)
  · skip
    have hn0 : n = 0 := by omega
    subst hn0
    refine A_loc (l2 := [(0, _), (1, _), (2, _)]) ⟨rfl, rfl, rfl, trivial⟩ ?_
    exact hK1 rfl
  · skip
    refine A_aload_n (pc := 30) dX9_fresh_30 rfl rfl ?_
    refine A_getR (pc := 31) fX9_31 rfl rfl dX9_fresh_31 ?_
    refine A_iload_n (pc := 34) dX9_fresh_34 rfl rfl ?_
    refine A_zaldv (pc := 35) c rfl rfl hc (Nat.le_of_ble_eq_true rfl) (hZ.1.1 c hc) dX9_fresh_35 ?_
    refine A_ifb_eq (pc := 36) 68 dX9_fresh_36 (by decide) (fun h36 => ?_) (fun h36 => ?_)
    · skip
      refine A_iinc (pc := 68) dX9_fresh_68 rfl (Nat.le_of_ble_eq_true rfl) ?_
      refine A_goto (pc := 71) 25 dX9_fresh_71 (by decide) ?_
      obtain ⟨u, rfl⟩ : ∃ u, n = u + 1 := ⟨n - 1, by omega⟩
      refine A_loc (l2 := [(0, _), (1, _), (2, _), (3, _)]) ⟨rfl, rfl, rfl, rfl, trivial⟩ ?_
      rw [frW, if_neg (fun q => h36 ((sT_k hc).mp q.1))] at hK1 hK2
      exact ih u (by omega) (w + 1) (by omega) hK1 hK2
    · skip
      refine A_aload_n (pc := 39) dX9_fresh_39 rfl rfl ?_
      refine A_iload_n (pc := 40) dX9_fresh_40 rfl rfl ?_
      refine A_iload_n (pc := 41) dX9_fresh_41 rfl rfl ?_
      refine A_aload_n (pc := 42) dX9_fresh_42 rfl rfl ?_
      refine A_getR (pc := 43) fX9_35 rfl rfl dX9_fresh_43 ?_
      refine A_iconst (pc := 46) dX9_fresh_46 ?_
      refine A_ialdv (pc := 47) 0 rfl rfl (by decide) (Nat.le_of_ble_eq_true rfl) p2 dX9_fresh_47 ?_
      refine A_iconst (pc := 48) dX9_fresh_48 ?_
      refine A_callV1 (pc := 49) kX9_229 rfl rfl (c_X9_line hZ.1 hO.1 (b := false) (by omega) (by omega) (by omega) (by omega) (by omega) (by omega)) dX9_fresh_49 rfl rfl (Nat.le_of_ble_eq_true rfl) (Nat.le_of_ble_eq_true rfl) ?_
      rw [if_neg Bool.false_ne_true]
      refine A_iload_n (pc := 52) dX9_fresh_52 rfl rfl ?_
      refine A_lshr (pc := 53) (lN ((lineX Z.1.1 (c : Int) (w : Int) (Z.1.2.1 2)) / 2 ^ s)) dX9_fresh_53 (shrS_L (lineX_lt _ _ _ _) (by omega)) ?_
      refine A_lconst (pc := 54) 1 dX9_fresh_54 rfl ?_
      refine A_land (pc := 55) dX9_fresh_55 ?_
      refine A_lconst (pc := 56) 1 dX9_fresh_56 rfl ?_
      refine A_lcmp (pc := 57) dX9_fresh_57 ?_
      rw [lcm_bit1 (lineX_lt _ _ _ _)]
      have hbr := bI_rng ((lineX Z.1.1 (c : Int) (w : Int) (Z.1.2.1 2)).testBit s = true)
      refine A_if_ne (pc := 58) 68 dX9_fresh_58 (by decide) (by omega) (by omega) (fun h58 => ?_) (fun h58 => ?_)
      · skip
        refine A_iinc (pc := 68) dX9_fresh_68 rfl (Nat.le_of_ble_eq_true rfl) ?_
        refine A_goto (pc := 71) 25 dX9_fresh_71 (by decide) ?_
        obtain ⟨u, rfl⟩ : ∃ u, n = u + 1 := ⟨n - 1, by omega⟩
        refine A_loc (l2 := [(0, _), (1, _), (2, _), (3, _)]) ⟨rfl, rfl, rfl, rfl, trivial⟩ ?_
        rw [frW, if_neg (fun q => bI_m1n h58 ((sT_k hs).mp q.2))] at hK1 hK2
        exact ih u (by omega) (w + 1) (by omega) hK1 hK2
      · skip
        refine A_bipush (pc := 61) dX9_fresh_61 (by decide) ?_
        refine A_iload_n (pc := 63) dX9_fresh_63 rfl rfl ?_
        refine A_imul (pc := 64) dX9_fresh_64 ?_
        refine A_iload_n (pc := 65) dX9_fresh_65 rfl rfl ?_
        refine A_iadd (pc := 66) dX9_fresh_66 ?_
        refine A_iret (pc := 67) rfl dX9_fresh_67 ?_
        obtain ⟨u, rfl⟩ : ∃ u, n = u + 1 := ⟨n - 1, by omega⟩
        rw [frW, if_pos ⟨(sT_k hc).mpr h36, (sT_k hs).mpr (bI_m1 (by omega))⟩] at hK2
        exact hK2 (by omega)
set_option maxRecDepth 20000 in
theorem l2_X9_fresh {G : Gl} {d : Nat} {σ : Sg} {K : Option Value → Sg → Prop} {Z : Zt} (hZ : RelM Z σ) (hO : OkZ Z) {s : Nat} (hs : s < 49) : ∀ (n c : Nat), c + n = 49 → K (some (.int (iI (frG Z.1 (s : Int) n c)))) σ → AW G (d + 5) RX9 cX9_fresh 4 (some .int) 17 [(0, .ref (gA G 54)), (1, .int (iI (s : Int))), (2, .int (iI (c : Int)))] [] σ K := by
  intro n
  induction n using Nat.strongRecOn
  rename_i n ih
  intro c hn hK
  refine A_iload_n (pc := 17) dX9_fresh_17 rfl rfl ?_
  refine A_bipush (pc := 18) dX9_fresh_18 (by decide) ?_
  refine A_icmp_ge (pc := 20) 80 dX9_fresh_20 (by decide) (by omega) (by omega) (by omega) (by omega) (fun h20 => ?_) (fun h20 => ?_)
  · skip
    refine A_iconst (pc := 80) dX9_fresh_80 ?_
    refine A_iret (pc := 81) rfl dX9_fresh_81 ?_
    have hn0 : n = 0 := by omega
    subst hn0
    exact hK
  · skip
    refine A_iconst (pc := 23) dX9_fresh_23 ?_
    refine A_istore_n (pc := 24) dX9_fresh_24 rfl (Nat.le_of_ble_eq_true rfl) ?_
    obtain ⟨u, rfl⟩ : ∃ u, n = u + 1 := ⟨n - 1, by omega⟩
    refine A_loc (l2 := [(0, _), (1, _), (2, _), (3, _)]) ⟨rfl, rfl, rfl, rfl, trivial⟩ ?_
    refine l1_X9_fresh hZ hO hs (c := c) (by omega) 4 0 rfl (fun h => ?_) (fun h => ?_)
    · refine A_iinc (pc := 74) dX9_fresh_74 rfl (Nat.le_of_ble_eq_true rfl) ?_
      refine A_goto (pc := 77) 17 dX9_fresh_77 (by decide) ?_
      refine A_loc (l2 := [(0, _), (1, _), (2, _)]) ⟨rfl, rfl, rfl, trivial⟩ ?_
      refine ih u (by omega) (c + 1) (by omega) ?_
      rw [frG, if_pos h] at hK
      exact hK
    · rw [frG, if_neg h] at hK
      exact hK
set_option maxRecDepth 20000 in
theorem c_X9_fresh {G : Gl} {d : Nat} {σ : Sg} {Z : Zt} (hZ : RelM Z σ) (hO : OkZ Z) {s : Int} (hs1 : -2147483648 ≤ s) (hs2 : s < 2147483648) : CT G (d + 5) yX9_fresh cX9_fresh 4 (some .int) [.ref (gA G 54), .int (iI s)] σ (RE (some (.int (iI (qFresh Z s).1))) (fun υ => RelM (qFresh Z s).2 υ ∧ Fr MC σ υ)) := by
  refine CT.of (by decide +kernel) (Nat.le_of_ble_eq_true rfl) ?_
  change AW G _ RX9 _ _ _ 0 [(0, .ref (gA G 54)), (1, .int (iI s))] [] _ _
  refine A_aload_n (pc := 0) dX9_fresh_0 rfl rfl ?_
  refine A_iload_n (pc := 1) dX9_fresh_1 rfl rfl ?_
  refine A_callV1 (pc := 2) kX9_143 rfl rfl (c_X9_isOpen hZ.1 hO.1 hs1 hs2) dX9_fresh_2 rfl rfl (Nat.le_of_ble_eq_true rfl) (Nat.le_of_ble_eq_true rfl) ?_
  refine A_ifb_ne (pc := 5) 15 dX9_fresh_5 (by decide) (fun h5 => ?_) (fun h5 => ?_)
  · skip
    refine A_iconst (pc := 15) dX9_fresh_15 ?_
    refine A_istore_n (pc := 16) dX9_fresh_16 rfl (Nat.le_of_ble_eq_true rfl) ?_
    obtain ⟨k, rfl⟩ := Int.eq_ofNat_of_zero_le h5.1.1
    have hk : k < 49 := by have := h5.1.2; omega
    refine A_loc (l2 := [(0, _), (1, _), (2, _)]) ⟨rfl, rfl, rfl, trivial⟩ ?_
    refine l2_X9_fresh hZ hO hk 49 0 rfl ?_
    exact RQM (by unfold qFresh; rw [if_neg (fun q => q h5)]) hZ Fr.rf
  · skip
    refine A_aload_n (pc := 8) dX9_fresh_8 rfl rfl ?_
    refine A_bipush (pc := 9) dX9_fresh_9 (by decide) ?_
    refine A_callVe (pc := 11) kX9_237 rfl rfl (c_X9_no10 hZ hO (t := -6) (by omega) (by omega)) dX9_fresh_11 rfl rfl (Nat.le_of_ble_eq_true rfl) (Nat.le_of_ble_eq_true rfl) (fun υ hυ => ?_)
    refine A_iret (pc := 14) rfl dX9_fresh_14 ?_
    exact RQM (by unfold qFresh; rw [if_pos h5]; rfl) hυ.1 (hυ.2.mono MC70)
theorem dX9_housed_0 : decode cX9_housed 0 = .ok (.iload_n 1, 1) := by decide +kernel
theorem dX9_housed_1 : decode cX9_housed 1 = .ok (.iconst 0, 1) := by decide +kernel
theorem dX9_housed_2 : decode cX9_housed 2 = .ok (.iconst 1, 1) := by decide +kernel
theorem dX9_housed_3 : decode cX9_housed 3 = .ok (.invokestatic 86, 3) := by decide +kernel
theorem dX9_housed_6 : decode cX9_housed 6 = .ok (.ifCond .ne 10, 3) := by decide +kernel
theorem dX9_housed_9 : decode cX9_housed 9 = .ok (.aload_n 0, 1) := by decide +kernel
theorem dX9_housed_10 : decode cX9_housed 10 = .ok (.bipush (-5), 2) := by decide +kernel
theorem dX9_housed_12 : decode cX9_housed 12 = .ok (.invokevirtual 237, 3) := by decide +kernel
theorem dX9_housed_15 : decode cX9_housed 15 = .ok (.ireturn, 1) := by decide +kernel
theorem dX9_housed_16 : decode cX9_housed 16 = .ok (.iconst (-1), 1) := by decide +kernel
theorem dX9_housed_17 : decode cX9_housed 17 = .ok (.istore_n 2, 1) := by decide +kernel
theorem dX9_housed_18 : decode cX9_housed 18 = .ok (.bipush 6, 2) := by decide +kernel
theorem dX9_housed_20 : decode cX9_housed 20 = .ok (.istore_n 3, 1) := by decide +kernel
theorem dX9_housed_21 : decode cX9_housed 21 = .ok (.iconst 0, 1) := by decide +kernel
theorem dX9_housed_22 : decode cX9_housed 22 = .ok (.istore 4, 2) := by decide +kernel
theorem dX9_housed_24 : decode cX9_housed 24 = .ok (.iload 4, 2) := by decide +kernel
theorem dX9_housed_26 : decode cX9_housed 26 = .ok (.bipush 49, 2) := by decide +kernel
theorem dX9_housed_28 : decode cX9_housed 28 = .ok (.if_icmp .ge 75, 3) := by decide +kernel
theorem dX9_housed_31 : decode cX9_housed 31 = .ok (.aload_n 0, 1) := by decide +kernel
theorem dX9_housed_32 : decode cX9_housed 32 = .ok (.getfield 31, 3) := by decide +kernel
theorem dX9_housed_35 : decode cX9_housed 35 = .ok (.iload 4, 2) := by decide +kernel
theorem dX9_housed_37 : decode cX9_housed 37 = .ok (.baload, 1) := by decide +kernel
theorem dX9_housed_38 : decode cX9_housed 38 = .ok (.ifCond .ne 59, 3) := by decide +kernel
theorem dX9_housed_41 : decode cX9_housed 41 = .ok (.aload_n 0, 1) := by decide +kernel
theorem dX9_housed_42 : decode cX9_housed 42 = .ok (.iload 4, 2) := by decide +kernel
theorem dX9_housed_44 : decode cX9_housed 44 = .ok (.invokevirtual 123, 3) := by decide +kernel
theorem dX9_housed_47 : decode cX9_housed 47 = .ok (.ifCond .eq 6, 3) := by decide +kernel
theorem dX9_housed_50 : decode cX9_housed 50 = .ok (.goto 47, 3) := by decide +kernel
theorem dX9_housed_53 : decode cX9_housed 53 = .ok (.aload_n 0, 1) := by decide +kernel
theorem dX9_housed_54 : decode cX9_housed 54 = .ok (.getfield 31, 3) := by decide +kernel
theorem dX9_housed_57 : decode cX9_housed 57 = .ok (.iload 4, 2) := by decide +kernel
theorem dX9_housed_59 : decode cX9_housed 59 = .ok (.iconst 1, 1) := by decide +kernel
theorem dX9_housed_60 : decode cX9_housed 60 = .ok (.bastore, 1) := by decide +kernel
theorem dX9_housed_61 : decode cX9_housed 61 = .ok (.aload_n 0, 1) := by decide +kernel
theorem dX9_housed_62 : decode cX9_housed 62 = .ok (.aload_n 0, 1) := by decide +kernel
theorem dX9_housed_63 : decode cX9_housed 63 = .ok (.invokevirtual 240, 3) := by decide +kernel
theorem dX9_housed_66 : decode cX9_housed 66 = .ok (.invokevirtual 153, 3) := by decide +kernel
theorem dX9_housed_69 : decode cX9_housed 69 = .ok (.invokestatic 233, 3) := by decide +kernel
theorem dX9_housed_72 : decode cX9_housed 72 = .ok (.istore 5, 2) := by decide +kernel
theorem dX9_housed_74 : decode cX9_housed 74 = .ok (.aload_n 0, 1) := by decide +kernel
theorem dX9_housed_75 : decode cX9_housed 75 = .ok (.getfield 31, 3) := by decide +kernel
theorem dX9_housed_78 : decode cX9_housed 78 = .ok (.iload 4, 2) := by decide +kernel
theorem dX9_housed_80 : decode cX9_housed 80 = .ok (.iconst 0, 1) := by decide +kernel
theorem dX9_housed_81 : decode cX9_housed 81 = .ok (.bastore, 1) := by decide +kernel
theorem dX9_housed_82 : decode cX9_housed 82 = .ok (.iload 5, 2) := by decide +kernel
theorem dX9_housed_84 : decode cX9_housed 84 = .ok (.iload_n 3, 1) := by decide +kernel
theorem dX9_housed_85 : decode cX9_housed 85 = .ok (.if_icmp .lt 6, 3) := by decide +kernel
theorem dX9_housed_88 : decode cX9_housed 88 = .ok (.goto 9, 3) := by decide +kernel
theorem dX9_housed_91 : decode cX9_housed 91 = .ok (.iload 5, 2) := by decide +kernel
theorem dX9_housed_93 : decode cX9_housed 93 = .ok (.istore_n 3, 1) := by decide +kernel
theorem dX9_housed_94 : decode cX9_housed 94 = .ok (.iload 4, 2) := by decide +kernel
theorem dX9_housed_96 : decode cX9_housed 96 = .ok (.istore_n 2, 1) := by decide +kernel
theorem dX9_housed_97 : decode cX9_housed 97 = .ok (.iinc 4 1, 3) := by decide +kernel
theorem dX9_housed_100 : decode cX9_housed 100 = .ok (.goto (-76), 3) := by decide +kernel
theorem dX9_housed_103 : decode cX9_housed 103 = .ok (.iload_n 1, 1) := by decide +kernel
theorem dX9_housed_104 : decode cX9_housed 104 = .ok (.ifCond .eq 8, 3) := by decide +kernel
theorem dX9_housed_107 : decode cX9_housed 107 = .ok (.iload_n 2, 1) := by decide +kernel
theorem dX9_housed_108 : decode cX9_housed 108 = .ok (.iconst (-1), 1) := by decide +kernel
theorem dX9_housed_109 : decode cX9_housed 109 = .ok (.if_icmp .ne 7, 3) := by decide +kernel
theorem dX9_housed_112 : decode cX9_housed 112 = .ok (.iload_n 2, 1) := by decide +kernel
theorem dX9_housed_113 : decode cX9_housed 113 = .ok (.goto 4, 3) := by decide +kernel
theorem dX9_housed_116 : decode cX9_housed 116 = .ok (.iload_n 3, 1) := by decide +kernel
theorem dX9_housed_117 : decode cX9_housed 117 = .ok (.ireturn, 1) := by decide +kernel
set_option maxRecDepth 20000 in
theorem l_X9_housed {G : Gl} {d : Nat} {σ : Sg} {K : Option Value → Sg → Prop} {Z : Zt} (hZ : RelM Z σ) (hO : OkZ Z) {w : Int} (w1 : 0 ≤ w) (w2 : w ≤ 1) : ∀ (n i : Nat) (b c : Int), i + n = 49 → -1 ≤ b → b < 49 → 0 ≤ c → c ≤ 6 → (b = -1 → c = 6) → K (some (.int (iI (if w = 0 then (houG (houF Z.1) (houC Z.1) n i b c).1 else if (houG (houF Z.1) (houC Z.1) n i b c).1 = -1 then -1 else (houG (houF Z.1) (houC Z.1) n i b c).2)))) σ → AW G (d + 7) RX9 cX9_housed 6 (some .int) 24 [(0, .ref (gA G 54)), (1, .int (iI w)), (2, .int (iI b)), (3, .int (iI c)), (4, .int (iI (i : Int)))] [] σ K := by
  intro n
  induction n using Nat.strongRecOn
  rename_i n ih
  intro i b c hn b1 b2 c1 c2 hbc hK
  have hr := houC_rng Z.1 i
  have hr5 := houC_5 hO.1 i
  have hO2 := hO.1
  obtain ⟨o1, o2, o3, o4, o5, o6, o7, o8, o9⟩ := hO2
  have p0 := hZ.1.2.1
  have p1 := hZ.1.2.2.1
  refine A_iload (pc := 24) dX9_housed_24 rfl ?_
  refine A_bipush (pc := 26) dX9_housed_26 (by decide) ?_
  refine A_icmp_ge (pc := 28) 103 dX9_housed_28 (by decide) (by omega) (by omega) (by omega) (by omega) (fun h28 => ?_) (fun h28 => ?_)
  · skip
    refine A_iload_n (pc := 103) dX9_housed_103 rfl rfl ?_
    refine A_if_eq (pc := 104) 112 dX9_housed_104 (by decide) (by omega) (by omega) (fun h104 => ?_) (fun h104 => ?_)
    · skip
      refine A_iload_n (pc := 112) dX9_housed_112 rfl rfl ?_
      refine A_goto (pc := 113) 117 dX9_housed_113 (by decide) ?_
      refine A_iret (pc := 117) rfl dX9_housed_117 ?_
      have hn0 : n = 0 := by omega
      subst hn0
      rw [if_pos (by omega)] at hK
      exact hK
    · skip
      refine A_iload_n (pc := 107) dX9_housed_107 rfl rfl ?_
      refine A_iconst (pc := 108) dX9_housed_108 ?_
      refine A_icmp_ne (pc := 109) 116 dX9_housed_109 (by decide) (by omega) (by omega) (by omega) (by omega) (fun h109 => ?_) (fun h109 => ?_)
      · skip
        refine A_iload_n (pc := 116) dX9_housed_116 rfl rfl ?_
        refine A_iret (pc := 117) rfl dX9_housed_117 ?_
        have hn0 : n = 0 := by omega
        subst hn0
        rw [if_neg (by omega), if_neg (show ¬ (houG (houF Z.1) (houC Z.1) 0 i b c).1 = -1 by rw [houG]; omega)] at hK
        exact hK
      · skip
        refine A_iload_n (pc := 112) dX9_housed_112 rfl rfl ?_
        refine A_goto (pc := 113) 117 dX9_housed_113 (by decide) ?_
        refine A_iret (pc := 117) rfl dX9_housed_117 ?_
        have hn0 : n = 0 := by omega
        subst hn0
        rw [if_neg (by omega), if_pos (show (houG (houF Z.1) (houC Z.1) 0 i b c).1 = -1 by rw [houG]; omega)] at hK
        have hb : b = -1 := by omega
        rw [hb]
        exact hK
  · skip
    have hi : i < 49 := by omega
    refine A_aload_n (pc := 31) dX9_housed_31 rfl rfl ?_
    refine A_getR (pc := 32) fX9_31 rfl rfl dX9_housed_32 ?_
    refine A_iload (pc := 35) dX9_housed_35 rfl ?_
    refine A_zaldv (pc := 37) i rfl rfl (by omega) (Nat.le_of_ble_eq_true rfl) (hZ.1.1 i (by omega)) dX9_housed_37 ?_
    refine A_ifb_ne (pc := 38) 97 dX9_housed_38 (by decide) (fun h38 => ?_) (fun h38 => ?_)
    · skip
      refine A_iinc (pc := 97) dX9_housed_97 rfl (Nat.le_of_ble_eq_true rfl) ?_
      refine A_goto (pc := 100) 24 dX9_housed_100 (by decide) ?_
      obtain ⟨u, rfl⟩ : ∃ u, n = u + 1 := ⟨n - 1, by omega⟩
      refine A_loc (l2 := [(0, _), (1, _), (2, _), (3, _), (4, _)]) ⟨rfl, rfl, rfl, rfl, rfl, trivial⟩ ?_
      have hf : houF Z.1 i = false := decide_eq_false (fun q => q.1 ((sT_k hi).mpr h38))
      refine ih u (by omega) (i + 1) b c (by omega) b1 b2 c1 c2 hbc ?_
      rw [houG_f hf] at hK
      exact hK
    · skip
      refine A_aload_n (pc := 41) dX9_housed_41 rfl rfl ?_
      refine A_iload (pc := 42) dX9_housed_42 rfl ?_
      refine A_callV1 (pc := 44) kX9_123 rfl rfl (c_X9_isStood hZ.1 hO.1 (by omega) (by omega)) dX9_housed_44 rfl rfl (Nat.le_of_ble_eq_true rfl) (Nat.le_of_ble_eq_true rfl) ?_
      refine A_ifb_eq (pc := 47) 53 dX9_housed_47 (by decide) (fun h47 => ?_) (fun h47 => ?_)
      · skip
        have hi : i < 49 := by omega
        have hf : houF Z.1 i = true := decide_eq_true ⟨fun q => h38 ((sT_k hi).mp q), h47⟩
        refine A_aload_n (pc := 53) dX9_housed_53 rfl rfl ?_
        refine A_getR (pc := 54) fX9_31 rfl rfl dX9_housed_54 ?_
        refine A_iload (pc := 57) dX9_housed_57 rfl ?_
        refine A_iconst (pc := 59) dX9_housed_59 ?_
        refine A_zast (pc := 60) i rfl rfl (by omega) (Nat.le_of_ble_eq_true rfl) rfl dX9_housed_60 ?_
        have hM2 : RMt (tH Z.1 (Z.1.1 ||| sqB (i : Int))) (uI σ 62 i 1) := by
          have q := hZ.1.house (k := i) hi true
          rw [if_pos rfl, bI_t rfl] at q
          exact q
        have hO2 : OkT (tH Z.1 (Z.1.1 ||| sqB (i : Int))) := hO.1.house (or49 o1 (sqB_lt _))
        refine A_aload_n (pc := 61) dX9_housed_61 rfl rfl ?_
        refine A_aload_n (pc := 62) dX9_housed_62 rfl rfl ?_
        refine A_callV1 (pc := 63) kX9_240 rfl rfl (c_X9_allSeen hM2 hO2) dX9_housed_63 rfl rfl (Nat.le_of_ble_eq_true rfl) (Nat.le_of_ble_eq_true rfl) ?_
        refine A_callV1 (pc := 66) kX9_153 rfl rfl (c_X9_inSight hM2 hO2 (allB_lt _ _)) dX9_housed_66 rfl rfl (Nat.le_of_ble_eq_true rfl) (Nat.le_of_ble_eq_true rfl) ?_
        refine A_callS1 (pc := 69) kX9_233 (c_J6_bitCount_0f7a4) dX9_housed_69 rfl rfl (Nat.le_of_ble_eq_true rfl) (Nat.le_of_ble_eq_true rfl) ?_
        change AW G _ _ _ _ _ _ _ [.int (iI (houC Z.1 i))] _ _
        refine A_istore (pc := 72) dX9_housed_72 (Nat.le_of_ble_eq_true rfl) ?_
        refine A_aload_n (pc := 74) dX9_housed_74 rfl rfl ?_
        refine A_getR (pc := 75) fX9_31 rfl rfl dX9_housed_75 ?_
        refine A_iload (pc := 78) dX9_housed_78 rfl ?_
        refine A_iconst (pc := 80) dX9_housed_80 ?_
        refine A_zast (pc := 81) i rfl rfl (by omega) (Nat.le_of_ble_eq_true rfl) rfl dX9_housed_81 ?_
        rw [uI_back (by rw [hZ.1.1 i hi]; exact bI_f h38)]
        refine A_iload (pc := 82) dX9_housed_82 rfl ?_
        refine A_iload_n (pc := 84) dX9_housed_84 rfl rfl ?_
        refine A_icmp_lt (pc := 85) 91 dX9_housed_85 (by decide) (by omega) (by omega) (by omega) (by omega) (fun h85 => ?_) (fun h85 => ?_)
        · skip
          refine A_iload (pc := 91) dX9_housed_91 rfl ?_
          refine A_istore_n (pc := 93) dX9_housed_93 rfl (Nat.le_of_ble_eq_true rfl) ?_
          refine A_iload (pc := 94) dX9_housed_94 rfl ?_
          refine A_istore_n (pc := 96) dX9_housed_96 rfl (Nat.le_of_ble_eq_true rfl) ?_
          refine A_iinc (pc := 97) dX9_housed_97 rfl (Nat.le_of_ble_eq_true rfl) ?_
          refine A_goto (pc := 100) 24 dX9_housed_100 (by decide) ?_
          obtain ⟨u, rfl⟩ : ∃ u, n = u + 1 := ⟨n - 1, by omega⟩
          refine A_loc (l2 := [(0, _), (1, _), (2, _), (3, _), (4, _)]) ⟨rfl, rfl, rfl, rfl, rfl, trivial⟩ ?_
          refine ih u (by omega) (i + 1) (i : Int) (houC Z.1 i) (by omega) (by omega) (by omega) (by omega) (by omega) (by omega) ?_
          rw [houG_y hf (by omega)] at hK
          exact hK
        · skip
          refine A_goto (pc := 88) 97 dX9_housed_88 (by decide) ?_
          refine A_iinc (pc := 97) dX9_housed_97 rfl (Nat.le_of_ble_eq_true rfl) ?_
          refine A_goto (pc := 100) 24 dX9_housed_100 (by decide) ?_
          obtain ⟨u, rfl⟩ : ∃ u, n = u + 1 := ⟨n - 1, by omega⟩
          refine A_loc (l2 := [(0, _), (1, _), (2, _), (3, _), (4, _)]) ⟨rfl, rfl, rfl, rfl, rfl, trivial⟩ ?_
          refine ih u (by omega) (i + 1) b c (by omega) b1 b2 c1 c2 hbc ?_
          rw [houG_n (by omega)] at hK
          exact hK
      · skip
        refine A_goto (pc := 50) 97 dX9_housed_50 (by decide) ?_
        refine A_iinc (pc := 97) dX9_housed_97 rfl (Nat.le_of_ble_eq_true rfl) ?_
        refine A_goto (pc := 100) 24 dX9_housed_100 (by decide) ?_
        obtain ⟨u, rfl⟩ : ∃ u, n = u + 1 := ⟨n - 1, by omega⟩
        refine A_loc (l2 := [(0, _), (1, _), (2, _), (3, _), (4, _)]) ⟨rfl, rfl, rfl, rfl, rfl, trivial⟩ ?_
        have hf : houF Z.1 i = false := decide_eq_false (fun q => q.2 h47)
        refine ih u (by omega) (i + 1) b c (by omega) b1 b2 c1 c2 hbc ?_
        rw [houG_f hf] at hK
        exact hK
set_option maxRecDepth 20000 in
theorem c_X9_housed {G : Gl} {d : Nat} {σ : Sg} {Z : Zt} (hZ : RelM Z σ) (hO : OkZ Z) {w : Int} (hw1 : -2147483648 ≤ w) (hw2 : w < 2147483648) : CT G (d + 7) yX9_housed cX9_housed 6 (some .int) [.ref (gA G 54), .int (iI w)] σ (RE (some (.int (iI (qHoused Z w).1))) (fun υ => RelM (qHoused Z w).2 υ ∧ Fr MC σ υ)) := by
  refine CT.of (by decide +kernel) (Nat.le_of_ble_eq_true rfl) ?_
  change AW G _ RX9 _ _ _ 0 [(0, .ref (gA G 54)), (1, .int (iI w))] [] _ _
  refine A_iload_n (pc := 0) dX9_housed_0 rfl rfl ?_
  refine A_iconst (pc := 1) dX9_housed_1 ?_
  refine A_iconst (pc := 2) dX9_housed_2 ?_
  refine A_callS1 (pc := 3) kX9_86 (c_X9_within (v := w) (a := 0) (b := 1) (by omega) (by omega) (by omega) (by omega) (by omega) (by omega)) dX9_housed_3 rfl rfl (Nat.le_of_ble_eq_true rfl) (Nat.le_of_ble_eq_true rfl) ?_
  refine A_ifb_ne (pc := 6) 16 dX9_housed_6 (by decide) (fun h6 => ?_) (fun h6 => ?_)
  · skip
    refine A_iconst (pc := 16) dX9_housed_16 ?_
    refine A_istore_n (pc := 17) dX9_housed_17 rfl (Nat.le_of_ble_eq_true rfl) ?_
    refine A_bipush (pc := 18) dX9_housed_18 (by decide) ?_
    refine A_istore_n (pc := 20) dX9_housed_20 rfl (Nat.le_of_ble_eq_true rfl) ?_
    refine A_iconst (pc := 21) dX9_housed_21 ?_
    refine A_istore (pc := 22) dX9_housed_22 (Nat.le_of_ble_eq_true rfl) ?_
    refine A_loc (l2 := [(0, _), (1, _), (2, _), (3, _), (4, _)]) ⟨rfl, rfl, rfl, rfl, rfl, trivial⟩ ?_
    refine l_X9_housed hZ hO (by omega) (by omega) 49 0 (-1) 6 rfl (by omega) (by omega) (by omega) (by omega) (fun _ => rfl) ?_
    refine RQM ?_ hZ Fr.rf
    unfold qHoused
    have e := houG_w (f := houF Z.1) (g := houC Z.1) (n := 49) (i := 0) (c := 6) (e := -1)
    rw [if_neg (by omega), ← e.1]
    by_cases hw : w = 0
    · rw [if_pos hw, if_pos hw]
    · rw [if_neg hw, if_neg hw]
      by_cases q : (houG (houF Z.1) (houC Z.1) 49 0 (-1) 6).1 = -1
      · rw [if_pos q, if_pos q]
      · rw [if_neg q, if_neg q, e.2 q]
  · skip
    refine A_aload_n (pc := 9) dX9_housed_9 rfl rfl ?_
    refine A_bipush (pc := 10) dX9_housed_10 (by decide) ?_
    refine A_callVe (pc := 12) kX9_237 rfl rfl (c_X9_no10 hZ hO (t := -5) (by omega) (by omega)) dX9_housed_12 rfl rfl (Nat.le_of_ble_eq_true rfl) (Nat.le_of_ble_eq_true rfl) (fun υ hυ => ?_)
    refine A_iret (pc := 15) rfl dX9_housed_15 ?_
    exact RQM (by unfold qHoused; rw [if_pos (by omega)]; rfl) hυ.1 (hυ.2.mono MC70)
