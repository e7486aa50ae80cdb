/-! PART 41: act and trace; both -/
theorem RelX.trc {Z : Zt} {σ υ : Sg} {c : Int × (Nat → Int)} (h : RelX Z σ) (hF : Fr S13 σ υ) (h1 : υ.1 12 0 = c.1) (h2 : ∀ i : Nat, i < 20 → (i : Int) < c.1 → υ.1 13 i = c.2 i) : RelX (zTrc Z c) υ := by
  obtain ⟨a1, a2, ⟨a3, a4⟩, a5, a6, -, -⟩ := h
  have n : ∀ a, (a < 12 ∨ 14 ≤ a) → ¬ S13 a := fun a ha q => by unfold S13 at q; omega
  have e : ∀ a, (a < 12 ∨ 14 ≤ a) → υ.1 a = σ.1 a := fun a ha => (hF a (n a ha)).1
  exact ⟨a1.fr hF (fun a q z => by unfold S13 at q; omega), fun k hk => (a2 k hk).fr hF (n _ (by omega)) (n _ (by omega)), ⟨by rw [e 0 (by omega)]; exact a3, fun q => (a4 q).fr hF (fun a q z => by unfold S13 at q; omega)⟩, fun r r1 r2 => by rw [e 2 (by omega)]; exact a5 r r1 r2, by rw [e 3 (by omega)]; exact a6, h1, h2⟩
theorem RelM.trc {Z : Zt} {σ υ : Sg} {c : Int × (Nat → Int)} (h : RelM Z σ) (hF : FrT σ υ) (h1 : υ.1 54 20 = c.1) (h2 : ∀ i : Nat, i < 20 → (i : Int) < c.1 → υ.1 69 i = c.2 i) : RelM (zTrc Z c) υ := by
  obtain ⟨⟨t1, t2, t3, t4, t5, t6, t7⟩, a2, ⟨a3, a4⟩, a5, a6, -, -⟩ := h
  have e : ∀ a, a ≠ 54 → a ≠ 69 → υ.1 a = σ.1 a := fun a ha hb => (hF.1 a (by omega)).1
  refine ⟨⟨fun i hi => by rw [e 62 (by omega) (by omega)]; exact t1 i hi, by rw [hF.2 0 (by omega)]; exact t2, by rw [hF.2 5 (by omega)]; exact t3, fun k hk => by rw [e 63 (by omega) (by omega)]; exact t4 k hk, by rw [hF.2 11 (by omega)]; exact t5, fun j p hj hp => by rw [e _ (by omega) (by omega)]; exact t6 j p hj hp, fun j p hj hp => by rw [e _ (by omega) (by omega)]; exact t7 j p hj hp⟩,
    fun k hk => ⟨by rw [e 64 (by omega) (by omega)]; exact (a2 k hk).1, fun q => by rw [e 65 (by omega) (by omega)]; exact (a2 k hk).2.1 q, fun i hi => by rw [(hF.1 66 (by omega)).2]; exact (a2 k hk).2.2 i hi⟩, ⟨by rw [hF.2 23 (by omega)]; exact a3, fun q => ?_⟩, fun r r1 r2 => by rw [e 70 (by omega) (by omega)]; exact a5 r r1 r2, by rw [hF.2 18 (by omega)]; exact a6, h1, h2⟩
  obtain ⟨b1, b2, b3, b4, b5, b6, b7⟩ := a4 q
  exact ⟨fun j p hj hp => by rw [e 71 (by omega) (by omega)]; exact b1 j p hj hp, fun j p hj hp => by rw [e 71 (by omega) (by omega)]; exact b2 j p hj hp, fun i hi => by rw [e 71 (by omega) (by omega)]; exact b3 i hi, fun k hk => by rw [e 71 (by omega) (by omega)]; exact b4 k hk, by rw [e 71 (by omega) (by omega)]; exact b5, by rw [e 71 (by omega) (by omega)]; exact b6, by rw [hF.2 25 (by omega)]; exact b7⟩
def qAct (Z : Zt) (p m x : Int) : Int × Zt := if (0 ≤ p ∧ p < Z.1.2.1 0) ∧ (0 ≤ m ∧ m < 3) then ((vMv p (Z.1.2.2 1 p.toNat) (Z.1.2.2 0 p.toNat) m x (0, Z.2.2.2.2.2.2)).1, zTrc Z (vMv p (Z.1.2.2 1 p.toNat) (Z.1.2.2 0 p.toNat) m x (0, Z.2.2.2.2.2.2)).2) else (0, zTrc Z (0, Z.2.2.2.2.2.2))
def qTrace (Z : Zt) (i : Int) : Int := if 0 ≤ i ∧ i < Z.2.2.2.2.2.1 ∧ i < 20 then Z.2.2.2.2.2.2 i.toNat else -1
theorem dX1_make_0 : decode cX1_make 0 = .ok (.aload_n 0, 1) := by decide +kernel
theorem dX1_make_1 : decode cX1_make 1 = .ok (.iload_n 1, 1) := by decide +kernel
theorem dX1_make_2 : decode cX1_make 2 = .ok (.putfield 19, 3) := by decide +kernel
theorem dX1_make_5 : decode cX1_make 5 = .ok (.aload_n 0, 1) := by decide +kernel
theorem dX1_make_6 : decode cX1_make 6 = .ok (.iload_n 2, 1) := by decide +kernel
theorem dX1_make_7 : decode cX1_make 7 = .ok (.putfield 22, 3) := by decide +kernel
theorem dX1_make_10 : decode cX1_make 10 = .ok (.aload_n 0, 1) := by decide +kernel
theorem dX1_make_11 : decode cX1_make 11 = .ok (.iload_n 3, 1) := by decide +kernel
theorem dX1_make_12 : decode cX1_make 12 = .ok (.putfield 25, 3) := by decide +kernel
theorem dX1_make_15 : decode cX1_make 15 = .ok (.aload_n 0, 1) := by decide +kernel
theorem dX1_make_16 : decode cX1_make 16 = .ok (.aload_n 0, 1) := by decide +kernel
theorem dX1_make_17 : decode cX1_make 17 = .ok (.getfield 22, 3) := by decide +kernel
theorem dX1_make_20 : decode cX1_make 20 = .ok (.iload 4, 2) := by decide +kernel
theorem dX1_make_22 : decode cX1_make 22 = .ok (.iload 5, 2) := by decide +kernel
theorem dX1_make_24 : decode cX1_make 24 = .ok (.iconst 0, 1) := by decide +kernel
theorem dX1_make_25 : decode cX1_make 25 = .ok (.invokestatic 28, 3) := by decide +kernel
theorem dX1_make_28 : decode cX1_make 28 = .ok (.ireturn, 1) := by decide +kernel
theorem c_X1_runmv {G : Gl} {d : Nat} {σ : Sg} {n K a m x : Int} {c : Int × (Nat → Int)} (hM : MvX n K a c σ) (c0 : 0 ≤ c.1) (c1 : c.1 ≤ 80) (K1 : 0 ≤ K) (K2 : K < 7) (m1 : 0 ≤ m) (m2 : m < 3) : CT G (d + 11) yX1_run cX1_run 7 (some .int) [.ref (gA G 12), .int (iI K), .int (iI m), .int (iI x), .int (iI 0)] σ (RE (some (.int (iI (vMv n a K m x c).1))) (fun υ => MvX n K a (vMv n a K m x c).2 υ ∧ Fr S13 σ υ)) := by
  have hm : m = 0 ∨ m = 1 ∨ m = 2 := by omega
  rcases hm with rfl | rfl | rfl
  · exact c_X1_runop (d := d + 6) hM c0 (by omega) K1 K2 (by decide) (by decide)
  · exact c_X1_runsh (d := d + 3) hM c0 (by omega) K1 K2 (by decide) (by decide) K1 K2
  · exact c_X1_runsi hM c0 (by omega) K1 K2 (by decide) (by decide) K1 K2
set_option maxRecDepth 20000 in
theorem c_X1_make {G : Gl} {d : Nat} {σ : Sg} {n K a m x : Int} {c : Int × (Nat → Int)} (K1 : 0 ≤ K) (K2 : K < 7) (m1 : 0 ≤ m) (m2 : m < 3) (h0 : σ.1 12 0 = 0) (hc : c.1 = 0) : CT G (d + 12) yX1_make cX1_make 6 (some .int) [.ref (gA G 12), .int (iI n), .int (iI K), .int (iI a), .int (iI m), .int (iI x)] σ (RE (some (.int (iI (vMv n a K m x c).1))) (fun υ => MvX n K a (vMv n a K m x c).2 υ ∧ Fr S13 σ υ)) := by
  refine CT.of (by decide +kernel) (Nat.le_of_ble_eq_true rfl) ?_
  change AW G _ RX1 _ _ _ 0 [(0, .ref (gA G 12)), (1, .int (iI n)), (2, .int (iI K)), (3, .int (iI a)), (4, .int (iI m)), (5, .int (iI x))] [] _ _
  refine A_aload_n (pc := 0) dX1_make_0 rfl rfl ?_
  refine A_iload_n (pc := 1) dX1_make_1 rfl rfl ?_
  refine A_putI (pc := 2) fX1_19 wr_0_2 rfl rfl dX1_make_2 ?_
  refine A_aload_n (pc := 5) dX1_make_5 rfl rfl ?_
  refine A_iload_n (pc := 6) dX1_make_6 rfl rfl ?_
  refine A_putI (pc := 7) fX1_22 wr_0_3 rfl rfl dX1_make_7 ?_
  refine A_aload_n (pc := 10) dX1_make_10 rfl rfl ?_
  refine A_iload_n (pc := 11) dX1_make_11 rfl rfl ?_
  refine A_putI (pc := 12) fX1_25 wr_0_4 rfl rfl dX1_make_12 ?_
  have hM : MvX n K a c (uI (uI (uI σ 12 2 n) 12 3 K) 12 4 a) := ⟨by rw [uI_at, if_neg (by omega), uI_at, if_neg (by omega), uI_at, if_neg (by omega), h0, hc], fun i _ i2 => by omega, by rw [uI_at, if_neg (by omega), uI_at, if_neg (by omega), uI_at, if_pos ⟨rfl, rfl⟩], by rw [uI_at, if_neg (by omega), uI_at, if_pos ⟨rfl, rfl⟩], by rw [uI_at, if_pos ⟨rfl, rfl⟩]⟩
  have hF : Fr S13 σ (uI (uI (uI σ 12 2 n) 12 3 K) 12 4 a) := ((Fr.rf.uI (Or.inl rfl)).uI (Or.inl rfl)).uI (Or.inl rfl)
  refine A_aload_n (pc := 15) dX1_make_15 rfl rfl ?_
  refine A_aload_n (pc := 16) dX1_make_16 rfl rfl ?_
  refine A_getIv (pc := 17) fX1_22 rfl rfl hM.2.2.2.1 dX1_make_17 ?_
  refine A_iload (pc := 20) dX1_make_20 rfl ?_
  refine A_iload (pc := 22) dX1_make_22 rfl ?_
  refine A_iconst (pc := 24) dX1_make_24 ?_
  refine A_callSe (pc := 25) kX1_28 (c_X1_runmv hM (by omega) (by omega) K1 K2 m1 m2) dX1_make_25 rfl rfl (Nat.le_of_ble_eq_true rfl) (Nat.le_of_ble_eq_true rfl) (fun υ hυ => ?_)
  refine A_iret (pc := 28) rfl dX1_make_28 ?_
  exact ⟨rfl, hυ.1, hF.tr hυ.2⟩
theorem dX1_bodyAt_0 : decode cX1_bodyAt 0 = .ok (.iload_n 1, 1) := by decide +kernel
theorem dX1_bodyAt_1 : decode cX1_bodyAt 1 = .ok (.ifCond .lt 26, 3) := by decide +kernel
theorem dX1_bodyAt_4 : decode cX1_bodyAt 4 = .ok (.iload_n 1, 1) := by decide +kernel
theorem dX1_bodyAt_5 : decode cX1_bodyAt 5 = .ok (.aload_n 0, 1) := by decide +kernel
theorem dX1_bodyAt_6 : decode cX1_bodyAt 6 = .ok (.getfield 9, 3) := by decide +kernel
theorem dX1_bodyAt_9 : decode cX1_bodyAt 9 = .ok (.if_icmp .ge 18, 3) := by decide +kernel
theorem dX1_bodyAt_12 : decode cX1_bodyAt 12 = .ok (.iload_n 1, 1) := by decide +kernel
theorem dX1_bodyAt_13 : decode cX1_bodyAt 13 = .ok (.bipush 20, 2) := by decide +kernel
theorem dX1_bodyAt_15 : decode cX1_bodyAt 15 = .ok (.if_icmp .ge 12, 3) := by decide +kernel
theorem dX1_bodyAt_18 : decode cX1_bodyAt 18 = .ok (.aload_n 0, 1) := by decide +kernel
theorem dX1_bodyAt_19 : decode cX1_bodyAt 19 = .ok (.getfield 15, 3) := by decide +kernel
theorem dX1_bodyAt_22 : decode cX1_bodyAt 22 = .ok (.iload_n 1, 1) := by decide +kernel
theorem dX1_bodyAt_23 : decode cX1_bodyAt 23 = .ok (.iaload, 1) := by decide +kernel
theorem dX1_bodyAt_24 : decode cX1_bodyAt 24 = .ok (.goto 4, 3) := by decide +kernel
theorem dX1_bodyAt_27 : decode cX1_bodyAt 27 = .ok (.iconst (-1), 1) := by decide +kernel
theorem dX1_bodyAt_28 : decode cX1_bodyAt 28 = .ok (.ireturn, 1) := by decide +kernel
set_option maxRecDepth 20000 in
theorem c_X1_bodyAt {G : Gl} {d : Nat} {σ : Sg} {c : Int × (Nat → Int)} (g0 : σ.1 12 0 = c.1) (g1 : ∀ i : Nat, i < 20 → (i : Int) < c.1 → σ.1 13 i = c.2 i) (c0 : 0 ≤ c.1) (c1 : c.1 ≤ 1000) {i : Int} (hi1 : -2147483648 ≤ i) (hi2 : i < 2147483648) : CT G d yX1_bodyAt cX1_bodyAt 2 (some .int) [.ref (gA G 12), .int (iI i)] σ (R1 (.int (iI (if 0 ≤ i ∧ i < c.1 ∧ i < 20 then c.2 i.toNat else -1))) σ) := by
  refine CT.of (by decide +kernel) (Nat.le_of_ble_eq_true rfl) ?_
  change AW G _ RX1 _ _ _ 0 [(0, .ref (gA G 12)), (1, .int (iI i))] [] _ _
  refine A_iload_n (pc := 0) dX1_bodyAt_0 rfl rfl ?_
  refine A_if_lt (pc := 1) 27 dX1_bodyAt_1 (by decide) (by omega) (by omega) (fun h1 => ?_) (fun h1 => ?_)
  · skip
    refine A_iconst (pc := 27) dX1_bodyAt_27 ?_
    refine A_iret (pc := 28) rfl dX1_bodyAt_28 ?_
    exact R1_e (by rw [if_neg (by omega)])
  · skip
    refine A_iload_n (pc := 4) dX1_bodyAt_4 rfl rfl ?_
    refine A_aload_n (pc := 5) dX1_bodyAt_5 rfl rfl ?_
    refine A_getIv (pc := 6) fX1_9 rfl rfl g0 dX1_bodyAt_6 ?_
    refine A_icmp_ge (pc := 9) 27 dX1_bodyAt_9 (by decide) (by omega) (by omega) (by omega) (by omega) (fun h9 => ?_) (fun h9 => ?_)
    · skip
      refine A_iconst (pc := 27) dX1_bodyAt_27 ?_
      refine A_iret (pc := 28) rfl dX1_bodyAt_28 ?_
      exact R1_e (by rw [if_neg (by omega)])
    · skip
      refine A_iload_n (pc := 12) dX1_bodyAt_12 rfl rfl ?_
      refine A_bipush (pc := 13) dX1_bodyAt_13 (by decide) ?_
      refine A_icmp_ge (pc := 15) 27 dX1_bodyAt_15 (by decide) (by omega) (by omega) (by omega) (by omega) (fun h15 => ?_) (fun h15 => ?_)
      · skip
        refine A_iconst (pc := 27) dX1_bodyAt_27 ?_
        refine A_iret (pc := 28) rfl dX1_bodyAt_28 ?_
        exact R1_e (by rw [if_neg (by omega)])
      · skip
        obtain ⟨j, rfl⟩ := Int.eq_ofNat_of_zero_le (show 0 ≤ i by omega)
        refine A_aload_n (pc := 18) dX1_bodyAt_18 rfl rfl ?_
        refine A_getR (pc := 19) fX1_15 rfl rfl dX1_bodyAt_19 ?_
        refine A_iload_n (pc := 22) dX1_bodyAt_22 rfl rfl ?_
        refine A_ialdv (pc := 23) _ rfl rfl (by omega) (Nat.le_of_ble_eq_true rfl) (g1 j (by omega) (by omega)) dX1_bodyAt_23 ?_
        refine A_goto (pc := 24) 28 dX1_bodyAt_24 (by decide) ?_
        refine A_iret (pc := 28) rfl dX1_bodyAt_28 ?_
        exact R1_e (by rw [if_pos (by omega)]; rfl)
theorem dX8_trace_0 : decode cX8_trace 0 = .ok (.aload_n 0, 1) := by decide +kernel
theorem dX8_trace_1 : decode cX8_trace 1 = .ok (.getfield 67, 3) := by decide +kernel
theorem dX8_trace_4 : decode cX8_trace 4 = .ok (.iload_n 1, 1) := by decide +kernel
theorem dX8_trace_5 : decode cX8_trace 5 = .ok (.invokevirtual 357, 3) := by decide +kernel
theorem dX8_trace_8 : decode cX8_trace 8 = .ok (.ireturn, 1) := by decide +kernel
set_option maxRecDepth 20000 in
theorem c_X8_trace {G : Gl} {d : Nat} {σ : Sg} {Z : Zt} (hZ : RelX Z σ) (hO : OkZ Z) {i : Int} (hi1 : -2147483648 ≤ i) (hi2 : i < 2147483648) : CT G (d + 1) yX8_trace cX8_trace 2 (some .int) [.ref (gA G 0), .int (iI i)] σ (R1 (.int (iI (qTrace Z i))) σ) := by
  refine CT.of (by decide +kernel) (Nat.le_of_ble_eq_true rfl) ?_
  change AW G _ RX8 _ _ _ 0 [(0, .ref (gA G 0)), (1, .int (iI i))] [] _ _
  refine A_aload_n (pc := 0) dX8_trace_0 rfl rfl ?_
  refine A_getR (pc := 1) fX8_67 rfl rfl dX8_trace_1 ?_
  refine A_iload_n (pc := 4) dX8_trace_4 rfl rfl ?_
  refine A_callV1 (pc := 5) kX8_357 rfl rfl (c_X1_bodyAt hZ.2.2.2.2.2.1 hZ.2.2.2.2.2.2 hO.2.2.2.1 hO.2.2.2.2 hi1 hi2) dX8_trace_5 rfl rfl (Nat.le_of_ble_eq_true rfl) (Nat.le_of_ble_eq_true rfl) ?_
  refine A_iret (pc := 8) rfl dX8_trace_8 ?_
  exact ⟨rfl, rfl⟩
theorem dX9_trace_0 : decode cX9_trace 0 = .ok (.iload_n 1, 1) := by decide +kernel
theorem dX9_trace_1 : decode cX9_trace 1 = .ok (.ifCond .lt 26, 3) := by decide +kernel
theorem dX9_trace_4 : decode cX9_trace 4 = .ok (.iload_n 1, 1) := by decide +kernel
theorem dX9_trace_5 : decode cX9_trace 5 = .ok (.aload_n 0, 1) := by decide +kernel
theorem dX9_trace_6 : decode cX9_trace 6 = .ok (.getfield 292, 3) := by decide +kernel
theorem dX9_trace_9 : decode cX9_trace 9 = .ok (.if_icmp .ge 18, 3) := by decide +kernel
theorem dX9_trace_12 : decode cX9_trace 12 = .ok (.iload_n 1, 1) := by decide +kernel
theorem dX9_trace_13 : decode cX9_trace 13 = .ok (.bipush 20, 2) := by decide +kernel
theorem dX9_trace_15 : decode cX9_trace 15 = .ok (.if_icmp .ge 12, 3) := by decide +kernel
theorem dX9_trace_18 : decode cX9_trace 18 = .ok (.aload_n 0, 1) := by decide +kernel
theorem dX9_trace_19 : decode cX9_trace 19 = .ok (.getfield 54, 3) := by decide +kernel
theorem dX9_trace_22 : decode cX9_trace 22 = .ok (.iload_n 1, 1) := by decide +kernel
theorem dX9_trace_23 : decode cX9_trace 23 = .ok (.iaload, 1) := by decide +kernel
theorem dX9_trace_24 : decode cX9_trace 24 = .ok (.goto 4, 3) := by decide +kernel
theorem dX9_trace_27 : decode cX9_trace 27 = .ok (.iconst (-1), 1) := by decide +kernel
theorem dX9_trace_28 : decode cX9_trace 28 = .ok (.ireturn, 1) := by decide +kernel
set_option maxRecDepth 20000 in
theorem c_X9_trace {G : Gl} {d : Nat} {σ : Sg} {Z : Zt} (hZ : RelM Z σ) (hO : OkZ Z) {i : Int} (hi1 : -2147483648 ≤ i) (hi2 : i < 2147483648) : CT G d yX9_trace cX9_trace 2 (some .int) [.ref (gA G 54), .int (iI i)] σ (R1 (.int (iI (qTrace Z i))) σ) := by
  refine CT.of (by decide +kernel) (Nat.le_of_ble_eq_true rfl) ?_
  change AW G _ RX9 _ _ _ 0 [(0, .ref (gA G 54)), (1, .int (iI i))] [] _ _
  have g0 := hZ.2.2.2.2.2.1
  have g1 := hZ.2.2.2.2.2.2
  have o1 := hO.2.2.2.1
  have o2 := hO.2.2.2.2
  refine A_iload_n (pc := 0) dX9_trace_0 rfl rfl ?_
  refine A_if_lt (pc := 1) 27 dX9_trace_1 (by decide) (by omega) (by omega) (fun h1 => ?_) (fun h1 => ?_)
  · skip
    refine A_iconst (pc := 27) dX9_trace_27 ?_
    refine A_iret (pc := 28) rfl dX9_trace_28 ?_
    exact R1_e (by unfold qTrace; rw [if_neg (by omega)])
  · skip
    refine A_iload_n (pc := 4) dX9_trace_4 rfl rfl ?_
    refine A_aload_n (pc := 5) dX9_trace_5 rfl rfl ?_
    refine A_getIv (pc := 6) fX9_292 rfl rfl g0 dX9_trace_6 ?_
    refine A_icmp_ge (pc := 9) 27 dX9_trace_9 (by decide) (by omega) (by omega) (by omega) (by omega) (fun h9 => ?_) (fun h9 => ?_)
    · skip
      refine A_iconst (pc := 27) dX9_trace_27 ?_
      refine A_iret (pc := 28) rfl dX9_trace_28 ?_
      exact R1_e (by unfold qTrace; rw [if_neg (by omega)])
    · skip
      refine A_iload_n (pc := 12) dX9_trace_12 rfl rfl ?_
      refine A_bipush (pc := 13) dX9_trace_13 (by decide) ?_
      refine A_icmp_ge (pc := 15) 27 dX9_trace_15 (by decide) (by omega) (by omega) (by omega) (by omega) (fun h15 => ?_) (fun h15 => ?_)
      · skip
        refine A_iconst (pc := 27) dX9_trace_27 ?_
        refine A_iret (pc := 28) rfl dX9_trace_28 ?_
        exact R1_e (by unfold qTrace; rw [if_neg (by omega)])
      · skip
        obtain ⟨j, rfl⟩ := Int.eq_ofNat_of_zero_le (show 0 ≤ i by omega)
        refine A_aload_n (pc := 18) dX9_trace_18 rfl rfl ?_
        refine A_getR (pc := 19) fX9_54 rfl rfl dX9_trace_19 ?_
        refine A_iload_n (pc := 22) dX9_trace_22 rfl rfl ?_
        refine A_ialdv (pc := 23) _ rfl rfl (by omega) (Nat.le_of_ble_eq_true rfl) (g1 j (by omega) (by omega)) dX9_trace_23 ?_
        refine A_goto (pc := 24) 28 dX9_trace_24 (by decide) ?_
        refine A_iret (pc := 28) rfl dX9_trace_28 ?_
        exact R1_e (by unfold qTrace; rw [if_pos (by omega)]; rfl)
theorem S13X : ∀ a, S13 a → XC a := fun a h => by unfold S13 at h; unfold XC; omega
theorem dX8_act_0 : decode cX8_act 0 = .ok (.aload_n 0, 1) := by decide +kernel
theorem dX8_act_1 : decode cX8_act 1 = .ok (.getfield 67, 3) := by decide +kernel
theorem dX8_act_4 : decode cX8_act 4 = .ok (.invokevirtual 348, 3) := by decide +kernel
theorem dX8_act_7 : decode cX8_act 7 = .ok (.aload_n 0, 1) := by decide +kernel
theorem dX8_act_8 : decode cX8_act 8 = .ok (.getfield 10, 3) := by decide +kernel
theorem dX8_act_11 : decode cX8_act 11 = .ok (.iload_n 1, 1) := by decide +kernel
theorem dX8_act_12 : decode cX8_act 12 = .ok (.invokevirtual 109, 3) := by decide +kernel
theorem dX8_act_15 : decode cX8_act 15 = .ok (.ifCond .eq 10, 3) := by decide +kernel
theorem dX8_act_18 : decode cX8_act 18 = .ok (.iload_n 2, 1) := by decide +kernel
theorem dX8_act_19 : decode cX8_act 19 = .ok (.invokestatic 351, 3) := by decide +kernel
theorem dX8_act_22 : decode cX8_act 22 = .ok (.ifCond .ne 5, 3) := by decide +kernel
theorem dX8_act_25 : decode cX8_act 25 = .ok (.iconst 0, 1) := by decide +kernel
theorem dX8_act_26 : decode cX8_act 26 = .ok (.ireturn, 1) := by decide +kernel
theorem dX8_act_27 : decode cX8_act 27 = .ok (.aload_n 0, 1) := by decide +kernel
theorem dX8_act_28 : decode cX8_act 28 = .ok (.getfield 67, 3) := by decide +kernel
theorem dX8_act_31 : decode cX8_act 31 = .ok (.iload_n 1, 1) := by decide +kernel
theorem dX8_act_32 : decode cX8_act 32 = .ok (.aload_n 0, 1) := by decide +kernel
theorem dX8_act_33 : decode cX8_act 33 = .ok (.getfield 10, 3) := by decide +kernel
theorem dX8_act_36 : decode cX8_act 36 = .ok (.iload_n 1, 1) := by decide +kernel
theorem dX8_act_37 : decode cX8_act 37 = .ok (.invokevirtual 127, 3) := by decide +kernel
theorem dX8_act_40 : decode cX8_act 40 = .ok (.aload_n 0, 1) := by decide +kernel
theorem dX8_act_41 : decode cX8_act 41 = .ok (.getfield 10, 3) := by decide +kernel
theorem dX8_act_44 : decode cX8_act 44 = .ok (.iload_n 1, 1) := by decide +kernel
theorem dX8_act_45 : decode cX8_act 45 = .ok (.invokevirtual 137, 3) := by decide +kernel
theorem dX8_act_48 : decode cX8_act 48 = .ok (.iload_n 2, 1) := by decide +kernel
theorem dX8_act_49 : decode cX8_act 49 = .ok (.iload_n 3, 1) := by decide +kernel
theorem dX8_act_50 : decode cX8_act 50 = .ok (.invokevirtual 354, 3) := by decide +kernel
theorem dX8_act_53 : decode cX8_act 53 = .ok (.ireturn, 1) := by decide +kernel
set_option maxRecDepth 20000 in
theorem c_X8_act {G : Gl} {d : Nat} {σ : Sg} {Z : Zt} (hZ : RelX Z σ) (hO : OkZ Z) {p : Int} (hp1 : -2147483648 ≤ p) (hp2 : p < 2147483648) {m : Int} (hm1 : -2147483648 ≤ m) (hm2 : m < 2147483648) {x : Int} : CT G (d + 13) yX8_act cX8_act 4 (some .int) [.ref (gA G 0), .int (iI p), .int (iI m), .int (iI x)] σ (RE (some (.int (iI (qAct Z p m x).1))) (fun υ => RelX (qAct Z p m x).2 υ ∧ Fr XC σ υ)) := by
  refine CT.of (by decide +kernel) (Nat.le_of_ble_eq_true rfl) ?_
  change AW G _ RX8 _ _ _ 0 [(0, .ref (gA G 0)), (1, .int (iI p)), (2, .int (iI m)), (3, .int (iI x))] [] _ _
  refine A_aload_n (pc := 0) dX8_act_0 rfl rfl ?_
  refine A_getR (pc := 1) fX8_67 rfl rfl dX8_act_1 ?_
  refine A_callV0 (pc := 4) kX8_348 rfl rfl (c_X1_forget) dX8_act_4 rfl rfl (Nat.le_of_ble_eq_true rfl) (Nat.le_of_ble_eq_true rfl) ?_
  have hF1 : Fr S13 σ (uI σ 12 0 0) := Fr.rf.uI (Or.inl rfl)
  have hZ1 : RelX (zTrc Z (0, Z.2.2.2.2.2.2)) (uI σ 12 0 0) := hZ.trc hF1 (by rw [uI_at, if_pos ⟨rfl, rfl⟩]) (fun i _ (i2 : (i : Int) < 0) => absurd i2 (by omega))
  have hT := hO.1
  have hT0 : RX 14 Z.1 (uI σ 12 0 0) := hZ1.1
  have o2 := hT.2.1
  have o3 := hT.2.2.1
  refine A_aload_n (pc := 7) dX8_act_7 rfl rfl ?_
  refine A_getR (pc := 8) fX8_10 rfl rfl dX8_act_8 ?_
  refine A_iload_n (pc := 11) dX8_act_11 rfl rfl ?_
  refine A_callV1 (pc := 12) kX8_109 rfl rfl (c_X5_isPane TC14 hT0 hO.1 hp1 hp2) dX8_act_12 rfl rfl (Nat.le_of_ble_eq_true rfl) (Nat.le_of_ble_eq_true rfl) ?_
  refine A_ifb_eq (pc := 15) 25 dX8_act_15 (by decide) (fun h15 => ?_) (fun h15 => ?_)
  · skip
    refine A_iconst (pc := 25) dX8_act_25 ?_
    refine A_iret (pc := 26) rfl dX8_act_26 ?_
    exact RQX (by unfold qAct; rw [if_neg (by omega)]) hZ1 (hF1.mono S13X)
  · skip
    refine A_iload_n (pc := 18) dX8_act_18 rfl rfl ?_
    refine A_callS1 (pc := 19) kX8_351 (c_X1_isMove hm1 hm2) dX8_act_19 rfl rfl (Nat.le_of_ble_eq_true rfl) (Nat.le_of_ble_eq_true rfl) ?_
    refine A_ifb_ne (pc := 22) 27 dX8_act_22 (by decide) (fun h22 => ?_) (fun h22 => ?_)
    · skip
      have h15p : 0 ≤ p ∧ p < Z.1.2.1 0 := h15
      obtain ⟨p, rfl⟩ := Int.eq_ofNat_of_zero_le h15p.1
      have hb := hT.2.2.2.2.2.2.2.1 p h15p.2
      refine A_aload_n (pc := 27) dX8_act_27 rfl rfl ?_
      refine A_getR (pc := 28) fX8_67 rfl rfl dX8_act_28 ?_
      refine A_iload_n (pc := 31) dX8_act_31 rfl rfl ?_
      refine A_aload_n (pc := 32) dX8_act_32 rfl rfl ?_
      refine A_getR (pc := 33) fX8_10 rfl rfl dX8_act_33 ?_
      refine A_iload_n (pc := 36) dX8_act_36 rfl rfl ?_
      refine A_callV1 (pc := 37) kX8_127 rfl rfl (c_X5_kindOf TC14 hT0 hO.1 (p := p) (by omega)) dX8_act_37 rfl rfl (Nat.le_of_ble_eq_true rfl) (Nat.le_of_ble_eq_true rfl) ?_
      rw [if_pos h15p.2]
      refine A_aload_n (pc := 40) dX8_act_40 rfl rfl ?_
      refine A_getR (pc := 41) fX8_10 rfl rfl dX8_act_41 ?_
      refine A_iload_n (pc := 44) dX8_act_44 rfl rfl ?_
      refine A_callV1 (pc := 45) kX8_137 rfl rfl (c_X5_aOf TC14 hT0 hO.1 (p := p) (by omega)) dX8_act_45 rfl rfl (Nat.le_of_ble_eq_true rfl) (Nat.le_of_ble_eq_true rfl) ?_
      rw [if_pos h15p.2]
      refine A_iload_n (pc := 48) dX8_act_48 rfl rfl ?_
      refine A_iload_n (pc := 49) dX8_act_49 rfl rfl ?_
      refine A_callVe (pc := 50) kX8_354 rfl rfl (c_X1_make (c := (0, Z.2.2.2.2.2.2)) (n := (p : Int)) (K := Z.1.2.2 0 p) (a := Z.1.2.2 1 p) (m := m) (x := x) (by omega) (by omega) (by omega) (by omega) (by rw [uI_at, if_pos ⟨rfl, rfl⟩]) rfl) dX8_act_50 rfl rfl (Nat.le_of_ble_eq_true rfl) (Nat.le_of_ble_eq_true rfl) (fun υ hυ => ?_)
      refine A_iret (pc := 53) rfl dX8_act_53 ?_
      exact RQX (by unfold qAct; rw [if_pos (by omega)]; rfl) (hZ.trc (hF1.tr hυ.2) hυ.1.1 hυ.1.2.1) ((hF1.tr hυ.2).mono S13X)
    · skip
      refine A_iconst (pc := 25) dX8_act_25 ?_
      refine A_iret (pc := 26) rfl dX8_act_26 ?_
      exact RQX (by unfold qAct; rw [if_neg (by omega)]) hZ1 (hF1.mono S13X)
theorem dX9_opensBy_0 : decode cX9_opensBy 0 = .ok (.iload_n 2, 1) := by decide +kernel
theorem dX9_opensBy_1 : decode cX9_opensBy 1 = .ok (.tableswitch 122 0 6 #[43, 53, 122, 74, 90, 122, 106], 43) := by decide +kernel
theorem dX9_opensBy_44 : decode cX9_opensBy 44 = .ok (.aload_n 0, 1) := by decide +kernel
theorem dX9_opensBy_45 : decode cX9_opensBy 45 = .ok (.bipush 10, 2) := by decide +kernel
theorem dX9_opensBy_47 : decode cX9_opensBy 47 = .ok (.invokevirtual 295, 3) := by decide +kernel
theorem dX9_opensBy_50 : decode cX9_opensBy 50 = .ok (.iload_n 3, 1) := by decide +kernel
theorem dX9_opensBy_51 : decode cX9_opensBy 51 = .ok (.iload_n 1, 1) := by decide +kernel
theorem dX9_opensBy_52 : decode cX9_opensBy 52 = .ok (.iadd, 1) := by decide +kernel
theorem dX9_opensBy_53 : decode cX9_opensBy 53 = .ok (.ireturn, 1) := by decide +kernel
theorem dX9_opensBy_54 : decode cX9_opensBy 54 = .ok (.aload_n 0, 1) := by decide +kernel
theorem dX9_opensBy_55 : decode cX9_opensBy 55 = .ok (.bipush 20, 2) := by decide +kernel
theorem dX9_opensBy_57 : decode cX9_opensBy 57 = .ok (.invokevirtual 295, 3) := by decide +kernel
theorem dX9_opensBy_60 : decode cX9_opensBy 60 = .ok (.aload_n 0, 1) := by decide +kernel
theorem dX9_opensBy_61 : decode cX9_opensBy 61 = .ok (.iload_n 1, 1) := by decide +kernel
theorem dX9_opensBy_62 : decode cX9_opensBy 62 = .ok (.iconst 0, 1) := by decide +kernel
theorem dX9_opensBy_63 : decode cX9_opensBy 63 = .ok (.iload_n 3, 1) := by decide +kernel
theorem dX9_opensBy_64 : decode cX9_opensBy 64 = .ok (.invokevirtual 298, 3) := by decide +kernel
theorem dX9_opensBy_67 : decode cX9_opensBy 67 = .ok (.aload_n 0, 1) := by decide +kernel
theorem dX9_opensBy_68 : decode cX9_opensBy 68 = .ok (.getfield 13, 3) := by decide +kernel
theorem dX9_opensBy_71 : decode cX9_opensBy 71 = .ok (.iload_n 1, 1) := by decide +kernel
theorem dX9_opensBy_72 : decode cX9_opensBy 72 = .ok (.iaload, 1) := by decide +kernel
theorem dX9_opensBy_73 : decode cX9_opensBy 73 = .ok (.iadd, 1) := by decide +kernel
theorem dX9_opensBy_74 : decode cX9_opensBy 74 = .ok (.ireturn, 1) := by decide +kernel
theorem dX9_opensBy_75 : decode cX9_opensBy 75 = .ok (.aload_n 0, 1) := by decide +kernel
theorem dX9_opensBy_76 : decode cX9_opensBy 76 = .ok (.bipush 40, 2) := by decide +kernel
theorem dX9_opensBy_78 : decode cX9_opensBy 78 = .ok (.invokevirtual 295, 3) := by decide +kernel
theorem dX9_opensBy_81 : decode cX9_opensBy 81 = .ok (.aload_n 0, 1) := by decide +kernel
theorem dX9_opensBy_82 : decode cX9_opensBy 82 = .ok (.iload_n 1, 1) := by decide +kernel
theorem dX9_opensBy_83 : decode cX9_opensBy 83 = .ok (.iconst 1, 1) := by decide +kernel
theorem dX9_opensBy_84 : decode cX9_opensBy 84 = .ok (.iload_n 3, 1) := by decide +kernel
theorem dX9_opensBy_85 : decode cX9_opensBy 85 = .ok (.iconst 1, 1) := by decide +kernel
theorem dX9_opensBy_86 : decode cX9_opensBy 86 = .ok (.iadd, 1) := by decide +kernel
theorem dX9_opensBy_87 : decode cX9_opensBy 87 = .ok (.invokevirtual 298, 3) := by decide +kernel
theorem dX9_opensBy_90 : decode cX9_opensBy 90 = .ok (.ireturn, 1) := by decide +kernel
theorem dX9_opensBy_91 : decode cX9_opensBy 91 = .ok (.aload_n 0, 1) := by decide +kernel
theorem dX9_opensBy_92 : decode cX9_opensBy 92 = .ok (.bipush 51, 2) := by decide +kernel
theorem dX9_opensBy_94 : decode cX9_opensBy 94 = .ok (.invokevirtual 295, 3) := by decide +kernel
theorem dX9_opensBy_97 : decode cX9_opensBy 97 = .ok (.aload_n 0, 1) := by decide +kernel
theorem dX9_opensBy_98 : decode cX9_opensBy 98 = .ok (.iload_n 1, 1) := by decide +kernel
theorem dX9_opensBy_99 : decode cX9_opensBy 99 = .ok (.iconst 0, 1) := by decide +kernel
theorem dX9_opensBy_100 : decode cX9_opensBy 100 = .ok (.iload_n 3, 1) := by decide +kernel
theorem dX9_opensBy_101 : decode cX9_opensBy 101 = .ok (.invokevirtual 298, 3) := by decide +kernel
theorem dX9_opensBy_104 : decode cX9_opensBy 104 = .ok (.iload_n 1, 1) := by decide +kernel
theorem dX9_opensBy_105 : decode cX9_opensBy 105 = .ok (.isub, 1) := by decide +kernel
theorem dX9_opensBy_106 : decode cX9_opensBy 106 = .ok (.ireturn, 1) := by decide +kernel
theorem dX9_opensBy_107 : decode cX9_opensBy 107 = .ok (.aload_n 0, 1) := by decide +kernel
theorem dX9_opensBy_108 : decode cX9_opensBy 108 = .ok (.bipush 70, 2) := by decide +kernel
theorem dX9_opensBy_110 : decode cX9_opensBy 110 = .ok (.invokevirtual 295, 3) := by decide +kernel
theorem dX9_opensBy_113 : decode cX9_opensBy 113 = .ok (.aload_n 0, 1) := by decide +kernel
theorem dX9_opensBy_114 : decode cX9_opensBy 114 = .ok (.iload_n 1, 1) := by decide +kernel
theorem dX9_opensBy_115 : decode cX9_opensBy 115 = .ok (.iconst 2, 1) := by decide +kernel
theorem dX9_opensBy_116 : decode cX9_opensBy 116 = .ok (.iload_n 3, 1) := by decide +kernel
theorem dX9_opensBy_117 : decode cX9_opensBy 117 = .ok (.invokevirtual 298, 3) := by decide +kernel
theorem dX9_opensBy_120 : decode cX9_opensBy 120 = .ok (.iconst 2, 1) := by decide +kernel
theorem dX9_opensBy_121 : decode cX9_opensBy 121 = .ok (.imul, 1) := by decide +kernel
theorem dX9_opensBy_122 : decode cX9_opensBy 122 = .ok (.ireturn, 1) := by decide +kernel
theorem dX9_opensBy_123 : decode cX9_opensBy 123 = .ok (.aload_n 0, 1) := by decide +kernel
theorem dX9_opensBy_124 : decode cX9_opensBy 124 = .ok (.iload_n 1, 1) := by decide +kernel
theorem dX9_opensBy_125 : decode cX9_opensBy 125 = .ok (.iload_n 2, 1) := by decide +kernel
theorem dX9_opensBy_126 : decode cX9_opensBy 126 = .ok (.invokestatic 106, 3) := by decide +kernel
theorem dX9_opensBy_129 : decode cX9_opensBy 129 = .ok (.iload_n 3, 1) := by decide +kernel
theorem dX9_opensBy_130 : decode cX9_opensBy 130 = .ok (.invokevirtual 298, 3) := by decide +kernel
theorem dX9_opensBy_133 : decode cX9_opensBy 133 = .ok (.ireturn, 1) := by decide +kernel
set_option maxRecDepth 20000 in
theorem c_X9_opensBy_0 {G : Gl} {d : Nat} {σ : Sg} {p : Nat} (p9 : p < 9) {K a x : Int} {c : Int × (Nat → Int)} (hM : MvM p K a c σ) (c0 : 0 ≤ c.1) (c1 : c.1 ≤ 100)  : CT G (d + 1) yX9_opensBy cX9_opensBy 4 (some .int) [.ref (gA G 54), .int (iI (p : Int)), .int (iI 0), .int (iI x)] σ (RE (some (.int (iI (vb10 (p : Int) a x c).1))) (fun υ => MvM p K a (vb10 (p : Int) a x c).2 υ ∧ FrT σ υ)) := by
  refine CT.of (by decide +kernel) (Nat.le_of_ble_eq_true rfl) ?_
  change AW G _ RX9 _ _ _ 0 [(0, .ref (gA G 54)), (1, .int (iI (p : Int))), (2, .int (iI 0)), (3, .int (iI x))] [] _ _
  refine A_iload_n (pc := 0) dX9_opensBy_0 rfl rfl ?_
  refine A_tsw (pc := 1) [(0, 44), (1, 54), (2, 123), (3, 75), (4, 91), (5, 123), (6, 107)] 123 dX9_opensBy_1 (by decide) (by decide) (by decide) (by omega) (by omega) ?_
  refine ⟨fun h1 => ?_, fun h1n0 => ?_⟩
  · skip
    refine A_aload_n (pc := 44) dX9_opensBy_44 rfl rfl ?_
    refine A_bipush (pc := 45) dX9_opensBy_45 (by decide) ?_
    refine A_callVe0 (pc := 47) kX9_295 rfl rfl (c_X9_ran hM c0 (by omega)) dX9_opensBy_47 rfl rfl (Nat.le_of_ble_eq_true rfl) (Nat.le_of_ble_eq_true rfl) (fun υ hυ => ?_)
    refine A_iload_n (pc := 50) dX9_opensBy_50 rfl rfl ?_
    refine A_iload_n (pc := 51) dX9_opensBy_51 rfl rfl ?_
    refine A_iadd (pc := 52) dX9_opensBy_52 ?_
    refine A_iret (pc := 53) rfl dX9_opensBy_53 ?_
    exact ⟨rfl, hυ⟩
  refine ⟨fun h1 => ?_, fun h1n1 => ?_⟩
  · skip
    exfalso; omega
  refine ⟨fun h1 => ?_, fun h1n2 => ?_⟩
  · skip
    exfalso; omega
  refine ⟨fun h1 => ?_, fun h1n3 => ?_⟩
  · skip
    exfalso; omega
  refine ⟨fun h1 => ?_, fun h1n4 => ?_⟩
  · skip
    exfalso; omega
  refine ⟨fun h1 => ?_, fun h1n5 => ?_⟩
  · skip
    exfalso; omega
  refine ⟨fun h1 => ?_, fun h1n6 => ?_⟩
  · skip
    exfalso; omega
  change AW G _ _ _ _ _ 123 _ _ _ _
  exfalso; omega
set_option maxRecDepth 20000 in
theorem c_X9_opensBy_1 {G : Gl} {d : Nat} {σ : Sg} {p : Nat} (p9 : p < 9) {K a x : Int} {c : Int × (Nat → Int)} (hM : MvM p K a c σ) (c0 : 0 ≤ c.1) (c1 : c.1 ≤ 99)  : CT G (d + 2) yX9_opensBy cX9_opensBy 4 (some .int) [.ref (gA G 54), .int (iI (p : Int)), .int (iI 1), .int (iI x)] σ (RE (some (.int (iI (vb20 (p : Int) a x c).1))) (fun υ => MvM p K a (vb20 (p : Int) a x c).2 υ ∧ FrT σ υ)) := by
  refine CT.of (by decide +kernel) (Nat.le_of_ble_eq_true rfl) ?_
  change AW G _ RX9 _ _ _ 0 [(0, .ref (gA G 54)), (1, .int (iI (p : Int))), (2, .int (iI 1)), (3, .int (iI x))] [] _ _
  refine A_iload_n (pc := 0) dX9_opensBy_0 rfl rfl ?_
  refine A_tsw (pc := 1) [(0, 44), (1, 54), (2, 123), (3, 75), (4, 91), (5, 123), (6, 107)] 123 dX9_opensBy_1 (by decide) (by decide) (by decide) (by omega) (by omega) ?_
  refine ⟨fun h1 => ?_, fun h1n0 => ?_⟩
  · skip
    exfalso; omega
  refine ⟨fun h1 => ?_, fun h1n1 => ?_⟩
  · skip
    refine A_aload_n (pc := 54) dX9_opensBy_54 rfl rfl ?_
    refine A_bipush (pc := 55) dX9_opensBy_55 (by decide) ?_
    refine A_callVe0 (pc := 57) kX9_295 rfl rfl (c_X9_ran hM c0 (by omega)) dX9_opensBy_57 rfl rfl (Nat.le_of_ble_eq_true rfl) (Nat.le_of_ble_eq_true rfl) (fun υ hυ => ?_)
    refine A_aload_n (pc := 60) dX9_opensBy_60 rfl rfl ?_
    refine A_iload_n (pc := 61) dX9_opensBy_61 rfl rfl ?_
    refine A_iconst (pc := 62) dX9_opensBy_62 ?_
    refine A_iload_n (pc := 63) dX9_opensBy_63 rfl rfl ?_
    refine A_callVe (pc := 64) kX9_298 rfl rfl (c_X9_opensBy_0 p9 hυ.1 (mkT0 c0) (mkT1 (by omega))) dX9_opensBy_64 rfl rfl (Nat.le_of_ble_eq_true rfl) (Nat.le_of_ble_eq_true rfl) (fun ω hω => ?_)
    refine A_aload_n (pc := 67) dX9_opensBy_67 rfl rfl ?_
    refine A_getR (pc := 68) fX9_13 rfl rfl dX9_opensBy_68 ?_
    refine A_iload_n (pc := 71) dX9_opensBy_71 rfl rfl ?_
    refine A_ialdv (pc := 72) p rfl rfl (by omega) (Nat.le_of_ble_eq_true rfl) hω.1.2.2.2 dX9_opensBy_72 ?_
    refine A_iadd (pc := 73) dX9_opensBy_73 ?_
    refine A_iret (pc := 74) rfl dX9_opensBy_74 ?_
    exact ⟨rfl, hω.1, hυ.2.tr hω.2⟩
  refine ⟨fun h1 => ?_, fun h1n2 => ?_⟩
  · skip
    exfalso; omega
  refine ⟨fun h1 => ?_, fun h1n3 => ?_⟩
  · skip
    exfalso; omega
  refine ⟨fun h1 => ?_, fun h1n4 => ?_⟩
  · skip
    exfalso; omega
  refine ⟨fun h1 => ?_, fun h1n5 => ?_⟩
  · skip
    exfalso; omega
  refine ⟨fun h1 => ?_, fun h1n6 => ?_⟩
  · skip
    exfalso; omega
  change AW G _ _ _ _ _ 123 _ _ _ _
  exfalso; omega
set_option maxRecDepth 20000 in
theorem c_X9_opensBy_2 {G : Gl} {d : Nat} {σ : Sg} {p : Nat} (p9 : p < 9) {K a x : Int} {c : Int × (Nat → Int)} (hM : MvM p K a c σ) (c0 : 0 ≤ c.1) (c1 : c.1 ≤ 99)  : CT G (d + 2) yX9_opensBy cX9_opensBy 4 (some .int) [.ref (gA G 54), .int (iI (p : Int)), .int (iI 2), .int (iI x)] σ (RE (some (.int (iI (vb10 (p : Int) a x c).1))) (fun υ => MvM p K a (vb10 (p : Int) a x c).2 υ ∧ FrT σ υ)) := by
  refine CT.of (by decide +kernel) (Nat.le_of_ble_eq_true rfl) ?_
  change AW G _ RX9 _ _ _ 0 [(0, .ref (gA G 54)), (1, .int (iI (p : Int))), (2, .int (iI 2)), (3, .int (iI x))] [] _ _
  refine A_iload_n (pc := 0) dX9_opensBy_0 rfl rfl ?_
  refine A_tsw (pc := 1) [(0, 44), (1, 54), (2, 123), (3, 75), (4, 91), (5, 123), (6, 107)] 123 dX9_opensBy_1 (by decide) (by decide) (by decide) (by omega) (by omega) ?_
  refine ⟨fun h1 => ?_, fun h1n0 => ?_⟩
  · skip
    exfalso; omega
  refine ⟨fun h1 => ?_, fun h1n1 => ?_⟩
  · skip
    exfalso; omega
  refine ⟨fun h1 => ?_, fun h1n2 => ?_⟩
  · skip
    refine A_aload_n (pc := 123) dX9_opensBy_123 rfl rfl ?_
    refine A_iload_n (pc := 124) dX9_opensBy_124 rfl rfl ?_
    refine A_iload_n (pc := 125) dX9_opensBy_125 rfl rfl ?_
    refine A_callS1 (pc := 126) kX9_106 (c_X9_above (by decide) (by decide)) dX9_opensBy_126 rfl rfl (Nat.le_of_ble_eq_true rfl) (Nat.le_of_ble_eq_true rfl) ?_
    rw [show (if (2 : Int) = 3 then (1 : Int) else if (2 : Int) = 5 then 4 else if (2 : Int) = 6 then 2 else 0) = 0 from by decide]
    refine A_iload_n (pc := 129) dX9_opensBy_129 rfl rfl ?_
    refine A_callVe (pc := 130) kX9_298 rfl rfl (c_X9_opensBy_0 p9 hM c0 (by omega)) dX9_opensBy_130 rfl rfl (Nat.le_of_ble_eq_true rfl) (Nat.le_of_ble_eq_true rfl) (fun υ hυ => ?_)
    refine A_iret (pc := 133) rfl dX9_opensBy_133 ?_
    exact ⟨rfl, hυ⟩
  refine ⟨fun h1 => ?_, fun h1n3 => ?_⟩
  · skip
    exfalso; omega
  refine ⟨fun h1 => ?_, fun h1n4 => ?_⟩
  · skip
    exfalso; omega
  refine ⟨fun h1 => ?_, fun h1n5 => ?_⟩
  · skip
    exfalso; omega
  refine ⟨fun h1 => ?_, fun h1n6 => ?_⟩
  · skip
    exfalso; omega
  change AW G _ _ _ _ _ 123 _ _ _ _
  exfalso; omega
set_option maxRecDepth 20000 in
theorem c_X9_opensBy_3 {G : Gl} {d : Nat} {σ : Sg} {p : Nat} (p9 : p < 9) {K a x : Int} {c : Int × (Nat → Int)} (hM : MvM p K a c σ) (c0 : 0 ≤ c.1) (c1 : c.1 ≤ 98)  : CT G (d + 3) yX9_opensBy cX9_opensBy 4 (some .int) [.ref (gA G 54), .int (iI (p : Int)), .int (iI 3), .int (iI x)] σ (RE (some (.int (iI (vb40 (p : Int) a x c).1))) (fun υ => MvM p K a (vb40 (p : Int) a x c).2 υ ∧ FrT σ υ)) := by
  refine CT.of (by decide +kernel) (Nat.le_of_ble_eq_true rfl) ?_
  change AW G _ RX9 _ _ _ 0 [(0, .ref (gA G 54)), (1, .int (iI (p : Int))), (2, .int (iI 3)), (3, .int (iI x))] [] _ _
  refine A_iload_n (pc := 0) dX9_opensBy_0 rfl rfl ?_
  refine A_tsw (pc := 1) [(0, 44), (1, 54), (2, 123), (3, 75), (4, 91), (5, 123), (6, 107)] 123 dX9_opensBy_1 (by decide) (by decide) (by decide) (by omega) (by omega) ?_
  refine ⟨fun h1 => ?_, fun h1n0 => ?_⟩
  · skip
    exfalso; omega
  refine ⟨fun h1 => ?_, fun h1n1 => ?_⟩
  · skip
    exfalso; omega
  refine ⟨fun h1 => ?_, fun h1n2 => ?_⟩
  · skip
    exfalso; omega
  refine ⟨fun h1 => ?_, fun h1n3 => ?_⟩
  · skip
    refine A_aload_n (pc := 75) dX9_opensBy_75 rfl rfl ?_
    refine A_bipush (pc := 76) dX9_opensBy_76 (by decide) ?_
    refine A_callVe0 (pc := 78) kX9_295 rfl rfl (c_X9_ran hM c0 (by omega)) dX9_opensBy_78 rfl rfl (Nat.le_of_ble_eq_true rfl) (Nat.le_of_ble_eq_true rfl) (fun υ hυ => ?_)
    refine A_aload_n (pc := 81) dX9_opensBy_81 rfl rfl ?_
    refine A_iload_n (pc := 82) dX9_opensBy_82 rfl rfl ?_
    refine A_iconst (pc := 83) dX9_opensBy_83 ?_
    refine A_iload_n (pc := 84) dX9_opensBy_84 rfl rfl ?_
    refine A_iconst (pc := 85) dX9_opensBy_85 ?_
    refine A_iadd (pc := 86) dX9_opensBy_86 ?_
    refine A_callVe (pc := 87) kX9_298 rfl rfl (c_X9_opensBy_1 p9 hυ.1 (mkT0 c0) (mkT1 (by omega))) dX9_opensBy_87 rfl rfl (Nat.le_of_ble_eq_true rfl) (Nat.le_of_ble_eq_true rfl) (fun ω hω => ?_)
    refine A_iret (pc := 90) rfl dX9_opensBy_90 ?_
    exact ⟨rfl, hω.1, hυ.2.tr hω.2⟩
  refine ⟨fun h1 => ?_, fun h1n4 => ?_⟩
  · skip
    exfalso; omega
  refine ⟨fun h1 => ?_, fun h1n5 => ?_⟩
  · skip
    exfalso; omega
  refine ⟨fun h1 => ?_, fun h1n6 => ?_⟩
  · skip
    exfalso; omega
  change AW G _ _ _ _ _ 123 _ _ _ _
  exfalso; omega
set_option maxRecDepth 20000 in
theorem c_X9_opensBy_4 {G : Gl} {d : Nat} {σ : Sg} {p : Nat} (p9 : p < 9) {K a x : Int} {c : Int × (Nat → Int)} (hM : MvM p K a c σ) (c0 : 0 ≤ c.1) (c1 : c.1 ≤ 99)  : CT G (d + 2) yX9_opensBy cX9_opensBy 4 (some .int) [.ref (gA G 54), .int (iI (p : Int)), .int (iI 4), .int (iI x)] σ (RE (some (.int (iI (vb51 (p : Int) a x c).1))) (fun υ => MvM p K a (vb51 (p : Int) a x c).2 υ ∧ FrT σ υ)) := by
  refine CT.of (by decide +kernel) (Nat.le_of_ble_eq_true rfl) ?_
  change AW G _ RX9 _ _ _ 0 [(0, .ref (gA G 54)), (1, .int (iI (p : Int))), (2, .int (iI 4)), (3, .int (iI x))] [] _ _
  refine A_iload_n (pc := 0) dX9_opensBy_0 rfl rfl ?_
  refine A_tsw (pc := 1) [(0, 44), (1, 54), (2, 123), (3, 75), (4, 91), (5, 123), (6, 107)] 123 dX9_opensBy_1 (by decide) (by decide) (by decide) (by omega) (by omega) ?_
  refine ⟨fun h1 => ?_, fun h1n0 => ?_⟩
  · skip
    exfalso; omega
  refine ⟨fun h1 => ?_, fun h1n1 => ?_⟩
  · skip
    exfalso; omega
  refine ⟨fun h1 => ?_, fun h1n2 => ?_⟩
  · skip
    exfalso; omega
  refine ⟨fun h1 => ?_, fun h1n3 => ?_⟩
  · skip
    exfalso; omega
  refine ⟨fun h1 => ?_, fun h1n4 => ?_⟩
  · skip
    refine A_aload_n (pc := 91) dX9_opensBy_91 rfl rfl ?_
    refine A_bipush (pc := 92) dX9_opensBy_92 (by decide) ?_
    refine A_callVe0 (pc := 94) kX9_295 rfl rfl (c_X9_ran hM c0 (by omega)) dX9_opensBy_94 rfl rfl (Nat.le_of_ble_eq_true rfl) (Nat.le_of_ble_eq_true rfl) (fun υ hυ => ?_)
    refine A_aload_n (pc := 97) dX9_opensBy_97 rfl rfl ?_
    refine A_iload_n (pc := 98) dX9_opensBy_98 rfl rfl ?_
    refine A_iconst (pc := 99) dX9_opensBy_99 ?_
    refine A_iload_n (pc := 100) dX9_opensBy_100 rfl rfl ?_
    refine A_callVe (pc := 101) kX9_298 rfl rfl (c_X9_opensBy_0 p9 hυ.1 (mkT0 c0) (mkT1 (by omega))) dX9_opensBy_101 rfl rfl (Nat.le_of_ble_eq_true rfl) (Nat.le_of_ble_eq_true rfl) (fun ω hω => ?_)
    refine A_iload_n (pc := 104) dX9_opensBy_104 rfl rfl ?_
    refine A_isub (pc := 105) dX9_opensBy_105 ?_
    refine A_iret (pc := 106) rfl dX9_opensBy_106 ?_
    exact ⟨rfl, hω.1, hυ.2.tr hω.2⟩
  refine ⟨fun h1 => ?_, fun h1n5 => ?_⟩
  · skip
    exfalso; omega
  refine ⟨fun h1 => ?_, fun h1n6 => ?_⟩
  · skip
    exfalso; omega
  change AW G _ _ _ _ _ 123 _ _ _ _
  exfalso; omega
set_option maxRecDepth 20000 in
theorem c_X9_opensBy_5 {G : Gl} {d : Nat} {σ : Sg} {p : Nat} (p9 : p < 9) {K a x : Int} {c : Int × (Nat → Int)} (hM : MvM p K a c σ) (c0 : 0 ≤ c.1) (c1 : c.1 ≤ 99)  : CT G (d + 3) yX9_opensBy cX9_opensBy 4 (some .int) [.ref (gA G 54), .int (iI (p : Int)), .int (iI 5), .int (iI x)] σ (RE (some (.int (iI (vb51 (p : Int) a x c).1))) (fun υ => MvM p K a (vb51 (p : Int) a x c).2 υ ∧ FrT σ υ)) := by
  refine CT.of (by decide +kernel) (Nat.le_of_ble_eq_true rfl) ?_
  change AW G _ RX9 _ _ _ 0 [(0, .ref (gA G 54)), (1, .int (iI (p : Int))), (2, .int (iI 5)), (3, .int (iI x))] [] _ _
  refine A_iload_n (pc := 0) dX9_opensBy_0 rfl rfl ?_
  refine A_tsw (pc := 1) [(0, 44), (1, 54), (2, 123), (3, 75), (4, 91), (5, 123), (6, 107)] 123 dX9_opensBy_1 (by decide) (by decide) (by decide) (by omega) (by omega) ?_
  refine ⟨fun h1 => ?_, fun h1n0 => ?_⟩
  · skip
    exfalso; omega
  refine ⟨fun h1 => ?_, fun h1n1 => ?_⟩
  · skip
    exfalso; omega
  refine ⟨fun h1 => ?_, fun h1n2 => ?_⟩
  · skip
    exfalso; omega
  refine ⟨fun h1 => ?_, fun h1n3 => ?_⟩
  · skip
    exfalso; omega
  refine ⟨fun h1 => ?_, fun h1n4 => ?_⟩
  · skip
    exfalso; omega
  refine ⟨fun h1 => ?_, fun h1n5 => ?_⟩
  · skip
    refine A_aload_n (pc := 123) dX9_opensBy_123 rfl rfl ?_
    refine A_iload_n (pc := 124) dX9_opensBy_124 rfl rfl ?_
    refine A_iload_n (pc := 125) dX9_opensBy_125 rfl rfl ?_
    refine A_callS1 (pc := 126) kX9_106 (c_X9_above (by decide) (by decide)) dX9_opensBy_126 rfl rfl (Nat.le_of_ble_eq_true rfl) (Nat.le_of_ble_eq_true rfl) ?_
    rw [show (if (5 : Int) = 3 then (1 : Int) else if (5 : Int) = 5 then 4 else if (5 : Int) = 6 then 2 else 0) = 4 from by decide]
    refine A_iload_n (pc := 129) dX9_opensBy_129 rfl rfl ?_
    refine A_callVe (pc := 130) kX9_298 rfl rfl (c_X9_opensBy_4 p9 hM c0 (by omega)) dX9_opensBy_130 rfl rfl (Nat.le_of_ble_eq_true rfl) (Nat.le_of_ble_eq_true rfl) (fun υ hυ => ?_)
    refine A_iret (pc := 133) rfl dX9_opensBy_133 ?_
    exact ⟨rfl, hυ⟩
  refine ⟨fun h1 => ?_, fun h1n6 => ?_⟩
  · skip
    exfalso; omega
  change AW G _ _ _ _ _ 123 _ _ _ _
  exfalso; omega
set_option maxRecDepth 20000 in
theorem c_X9_opensBy_6 {G : Gl} {d : Nat} {σ : Sg} {p : Nat} (p9 : p < 9) {K a x : Int} {c : Int × (Nat → Int)} (hM : MvM p K a c σ) (c0 : 0 ≤ c.1) (c1 : c.1 ≤ 98)  : CT G (d + 3) yX9_opensBy cX9_opensBy 4 (some .int) [.ref (gA G 54), .int (iI (p : Int)), .int (iI 6), .int (iI x)] σ (RE (some (.int (iI (vb70 (p : Int) a x c).1))) (fun υ => MvM p K a (vb70 (p : Int) a x c).2 υ ∧ FrT σ υ)) := by
  refine CT.of (by decide +kernel) (Nat.le_of_ble_eq_true rfl) ?_
  change AW G _ RX9 _ _ _ 0 [(0, .ref (gA G 54)), (1, .int (iI (p : Int))), (2, .int (iI 6)), (3, .int (iI x))] [] _ _
  refine A_iload_n (pc := 0) dX9_opensBy_0 rfl rfl ?_
  refine A_tsw (pc := 1) [(0, 44), (1, 54), (2, 123), (3, 75), (4, 91), (5, 123), (6, 107)] 123 dX9_opensBy_1 (by decide) (by decide) (by decide) (by omega) (by omega) ?_
  refine ⟨fun h1 => ?_, fun h1n0 => ?_⟩
  · skip
    exfalso; omega
  refine ⟨fun h1 => ?_, fun h1n1 => ?_⟩
  · skip
    exfalso; omega
  refine ⟨fun h1 => ?_, fun h1n2 => ?_⟩
  · skip
    exfalso; omega
  refine ⟨fun h1 => ?_, fun h1n3 => ?_⟩
  · skip
    exfalso; omega
  refine ⟨fun h1 => ?_, fun h1n4 => ?_⟩
  · skip
    exfalso; omega
  refine ⟨fun h1 => ?_, fun h1n5 => ?_⟩
  · skip
    exfalso; omega
  refine ⟨fun h1 => ?_, fun h1n6 => ?_⟩
  · skip
    refine A_aload_n (pc := 107) dX9_opensBy_107 rfl rfl ?_
    refine A_bipush (pc := 108) dX9_opensBy_108 (by decide) ?_
    refine A_callVe0 (pc := 110) kX9_295 rfl rfl (c_X9_ran hM c0 (by omega)) dX9_opensBy_110 rfl rfl (Nat.le_of_ble_eq_true rfl) (Nat.le_of_ble_eq_true rfl) (fun υ hυ => ?_)
    refine A_aload_n (pc := 113) dX9_opensBy_113 rfl rfl ?_
    refine A_iload_n (pc := 114) dX9_opensBy_114 rfl rfl ?_
    refine A_iconst (pc := 115) dX9_opensBy_115 ?_
    refine A_iload_n (pc := 116) dX9_opensBy_116 rfl rfl ?_
    refine A_callVe (pc := 117) kX9_298 rfl rfl (c_X9_opensBy_2 p9 hυ.1 (mkT0 c0) (mkT1 (by omega))) dX9_opensBy_117 rfl rfl (Nat.le_of_ble_eq_true rfl) (Nat.le_of_ble_eq_true rfl) (fun ω hω => ?_)
    refine A_iconst (pc := 120) dX9_opensBy_120 ?_
    refine A_imul (pc := 121) dX9_opensBy_121 ?_
    refine A_iret (pc := 122) rfl dX9_opensBy_122 ?_
    exact ⟨rfl, hω.1, hυ.2.tr hω.2⟩
  change AW G _ _ _ _ _ 123 _ _ _ _
  exfalso; omega
theorem c_X9_ops {G : Gl} {d : Nat} {σ : Sg} {k : Int} (k1 : 0 ≤ k) (k2 : k < 7) {p : Nat} (p9 : p < 9) {K a x : Int} {c : Int × (Nat → Int)} (hM : MvM p K a c σ) (c0 : 0 ≤ c.1) (c1 : c.1 ≤ 98) : CT G (d + 3) yX9_opensBy cX9_opensBy 4 (some .int) [.ref (gA G 54), .int (iI (p : Int)), .int (iI k), .int (iI x)] σ (RE (some (.int (iI (vOp (p : Int) a k x c).1))) (fun υ => MvM p K a (vOp (p : Int) a k x c).2 υ ∧ FrT σ υ)) := by
  have hk : k = 0 ∨ k = 1 ∨ k = 2 ∨ k = 3 ∨ k = 4 ∨ k = 5 ∨ k = 6 := by omega
  rcases hk with rfl | rfl | rfl | rfl | rfl | rfl | rfl
  · exact c_X9_opensBy_0 (d := d + 2) p9 hM c0 (by omega)
  · exact c_X9_opensBy_1 (d := d + 1) p9 hM c0 (by omega)
  · exact c_X9_opensBy_2 (d := d + 1) p9 hM c0 (by omega)
  · exact c_X9_opensBy_3 (d := d + 0) p9 hM c0 (by omega)
  · exact c_X9_opensBy_4 (d := d + 1) p9 hM c0 (by omega)
  · exact c_X9_opensBy_5 (d := d + 0) p9 hM c0 (by omega)
  · exact c_X9_opensBy_6 (d := d + 0) p9 hM c0 (by omega)
theorem dX9_shutsBy_0 : decode cX9_shutsBy 0 = .ok (.iload_n 2, 1) := by decide +kernel
theorem dX9_shutsBy_1 : decode cX9_shutsBy 1 = .ok (.lookupswitch 93 #[(0, 35), (2, 56), (6, 72)], 35) := by decide +kernel
theorem dX9_shutsBy_36 : decode cX9_shutsBy 36 = .ok (.aload_n 0, 1) := by decide +kernel
theorem dX9_shutsBy_37 : decode cX9_shutsBy 37 = .ok (.bipush 11, 2) := by decide +kernel
theorem dX9_shutsBy_39 : decode cX9_shutsBy 39 = .ok (.invokevirtual 295, 3) := by decide +kernel
theorem dX9_shutsBy_42 : decode cX9_shutsBy 42 = .ok (.aload_n 0, 1) := by decide +kernel
theorem dX9_shutsBy_43 : decode cX9_shutsBy 43 = .ok (.iload_n 1, 1) := by decide +kernel
theorem dX9_shutsBy_44 : decode cX9_shutsBy 44 = .ok (.aload_n 0, 1) := by decide +kernel
theorem dX9_shutsBy_45 : decode cX9_shutsBy 45 = .ok (.getfield 7, 3) := by decide +kernel
theorem dX9_shutsBy_48 : decode cX9_shutsBy 48 = .ok (.iload_n 1, 1) := by decide +kernel
theorem dX9_shutsBy_49 : decode cX9_shutsBy 49 = .ok (.iaload, 1) := by decide +kernel
theorem dX9_shutsBy_50 : decode cX9_shutsBy 50 = .ok (.iload_n 3, 1) := by decide +kernel
theorem dX9_shutsBy_51 : decode cX9_shutsBy 51 = .ok (.invokevirtual 298, 3) := by decide +kernel
theorem dX9_shutsBy_54 : decode cX9_shutsBy 54 = .ok (.iconst 2, 1) := by decide +kernel
theorem dX9_shutsBy_55 : decode cX9_shutsBy 55 = .ok (.imul, 1) := by decide +kernel
theorem dX9_shutsBy_56 : decode cX9_shutsBy 56 = .ok (.ireturn, 1) := by decide +kernel
theorem dX9_shutsBy_57 : decode cX9_shutsBy 57 = .ok (.aload_n 0, 1) := by decide +kernel
theorem dX9_shutsBy_58 : decode cX9_shutsBy 58 = .ok (.bipush 30, 2) := by decide +kernel
theorem dX9_shutsBy_60 : decode cX9_shutsBy 60 = .ok (.invokevirtual 295, 3) := by decide +kernel
theorem dX9_shutsBy_63 : decode cX9_shutsBy 63 = .ok (.aload_n 0, 1) := by decide +kernel
theorem dX9_shutsBy_64 : decode cX9_shutsBy 64 = .ok (.iload_n 1, 1) := by decide +kernel
theorem dX9_shutsBy_65 : decode cX9_shutsBy 65 = .ok (.iconst 0, 1) := by decide +kernel
theorem dX9_shutsBy_66 : decode cX9_shutsBy 66 = .ok (.iload_n 3, 1) := by decide +kernel
theorem dX9_shutsBy_67 : decode cX9_shutsBy 67 = .ok (.invokevirtual 301, 3) := by decide +kernel
theorem dX9_shutsBy_70 : decode cX9_shutsBy 70 = .ok (.iconst 3, 1) := by decide +kernel
theorem dX9_shutsBy_71 : decode cX9_shutsBy 71 = .ok (.imul, 1) := by decide +kernel
theorem dX9_shutsBy_72 : decode cX9_shutsBy 72 = .ok (.ireturn, 1) := by decide +kernel
theorem dX9_shutsBy_73 : decode cX9_shutsBy 73 = .ok (.aload_n 0, 1) := by decide +kernel
theorem dX9_shutsBy_74 : decode cX9_shutsBy 74 = .ok (.bipush 71, 2) := by decide +kernel
theorem dX9_shutsBy_76 : decode cX9_shutsBy 76 = .ok (.invokevirtual 295, 3) := by decide +kernel
theorem dX9_shutsBy_79 : decode cX9_shutsBy 79 = .ok (.aload_n 0, 1) := by decide +kernel
theorem dX9_shutsBy_80 : decode cX9_shutsBy 80 = .ok (.iload_n 1, 1) := by decide +kernel
theorem dX9_shutsBy_81 : decode cX9_shutsBy 81 = .ok (.iconst 2, 1) := by decide +kernel
theorem dX9_shutsBy_82 : decode cX9_shutsBy 82 = .ok (.iload_n 3, 1) := by decide +kernel
theorem dX9_shutsBy_83 : decode cX9_shutsBy 83 = .ok (.aload_n 0, 1) := by decide +kernel
theorem dX9_shutsBy_84 : decode cX9_shutsBy 84 = .ok (.getfield 13, 3) := by decide +kernel
theorem dX9_shutsBy_87 : decode cX9_shutsBy 87 = .ok (.iload_n 1, 1) := by decide +kernel
theorem dX9_shutsBy_88 : decode cX9_shutsBy 88 = .ok (.iaload, 1) := by decide +kernel
theorem dX9_shutsBy_89 : decode cX9_shutsBy 89 = .ok (.isub, 1) := by decide +kernel
theorem dX9_shutsBy_90 : decode cX9_shutsBy 90 = .ok (.invokevirtual 301, 3) := by decide +kernel
theorem dX9_shutsBy_93 : decode cX9_shutsBy 93 = .ok (.ireturn, 1) := by decide +kernel
theorem dX9_shutsBy_94 : decode cX9_shutsBy 94 = .ok (.aload_n 0, 1) := by decide +kernel
theorem dX9_shutsBy_95 : decode cX9_shutsBy 95 = .ok (.iload_n 1, 1) := by decide +kernel
theorem dX9_shutsBy_96 : decode cX9_shutsBy 96 = .ok (.iload_n 2, 1) := by decide +kernel
theorem dX9_shutsBy_97 : decode cX9_shutsBy 97 = .ok (.invokestatic 106, 3) := by decide +kernel
theorem dX9_shutsBy_100 : decode cX9_shutsBy 100 = .ok (.iload_n 3, 1) := by decide +kernel
theorem dX9_shutsBy_101 : decode cX9_shutsBy 101 = .ok (.invokevirtual 301, 3) := by decide +kernel
theorem dX9_shutsBy_104 : decode cX9_shutsBy 104 = .ok (.ireturn, 1) := by decide +kernel
set_option maxRecDepth 20000 in
theorem c_X9_shutsBy_0 {G : Gl} {d : Nat} {σ : Sg} {p : Nat} (p9 : p < 9) {K a x : Int} {c : Int × (Nat → Int)} (hM : MvM p K a c σ) (c0 : 0 ≤ c.1) (c1 : c.1 ≤ 97) (K1 : 0 ≤ K) (K2 : K < 7)  : CT G (d + 4) yX9_shutsBy cX9_shutsBy 4 (some .int) [.ref (gA G 54), .int (iI (p : Int)), .int (iI 0), .int (iI x)] σ (RE (some (.int (iI (vb11 (p : Int) a K x c).1))) (fun υ => MvM p K a (vb11 (p : Int) a K x c).2 υ ∧ FrT σ υ)) := by
  refine CT.of (by decide +kernel) (Nat.le_of_ble_eq_true rfl) ?_
  change AW G _ RX9 _ _ _ 0 [(0, .ref (gA G 54)), (1, .int (iI (p : Int))), (2, .int (iI 0)), (3, .int (iI x))] [] _ _
  refine A_iload_n (pc := 0) dX9_shutsBy_0 rfl rfl ?_
  refine A_lsw (pc := 1) [(0, 36), (2, 57), (6, 73)] 94 dX9_shutsBy_1 (by decide) (by decide) (by decide) (by omega) (by omega) ?_
  refine ⟨fun h1 => ?_, fun h1n0 => ?_⟩
  · skip
    refine A_aload_n (pc := 36) dX9_shutsBy_36 rfl rfl ?_
    refine A_bipush (pc := 37) dX9_shutsBy_37 (by decide) ?_
    refine A_callVe0 (pc := 39) kX9_295 rfl rfl (c_X9_ran hM c0 (by omega)) dX9_shutsBy_39 rfl rfl (Nat.le_of_ble_eq_true rfl) (Nat.le_of_ble_eq_true rfl) (fun υ hυ => ?_)
    refine A_aload_n (pc := 42) dX9_shutsBy_42 rfl rfl ?_
    refine A_iload_n (pc := 43) dX9_shutsBy_43 rfl rfl ?_
    refine A_aload_n (pc := 44) dX9_shutsBy_44 rfl rfl ?_
    refine A_getR (pc := 45) fX9_7 rfl rfl dX9_shutsBy_45 ?_
    refine A_iload_n (pc := 48) dX9_shutsBy_48 rfl rfl ?_
    refine A_ialdv (pc := 49) p rfl rfl (by omega) (Nat.le_of_ble_eq_true rfl) hυ.1.2.2.1 dX9_shutsBy_49 ?_
    refine A_iload_n (pc := 50) dX9_shutsBy_50 rfl rfl ?_
    refine A_callVe (pc := 51) kX9_298 rfl rfl (c_X9_ops K1 K2 p9 hυ.1 (mkT0 c0) (mkT1 (by omega))) dX9_shutsBy_51 rfl rfl (Nat.le_of_ble_eq_true rfl) (Nat.le_of_ble_eq_true rfl) (fun ω hω => ?_)
    refine A_iconst (pc := 54) dX9_shutsBy_54 ?_
    refine A_imul (pc := 55) dX9_shutsBy_55 ?_
    refine A_iret (pc := 56) rfl dX9_shutsBy_56 ?_
    exact ⟨rfl, hω.1, hυ.2.tr hω.2⟩
  refine ⟨fun h1 => ?_, fun h1n2 => ?_⟩
  · skip
    exfalso; omega
  refine ⟨fun h1 => ?_, fun h1n6 => ?_⟩
  · skip
    exfalso; omega
  change AW G _ _ _ _ _ 94 _ _ _ _
  exfalso; omega
set_option maxRecDepth 20000 in
theorem c_X9_shutsBy_2 {G : Gl} {d : Nat} {σ : Sg} {p : Nat} (p9 : p < 9) {K a x : Int} {c : Int × (Nat → Int)} (hM : MvM p K a c σ) (c0 : 0 ≤ c.1) (c1 : c.1 ≤ 96) (K1 : 0 ≤ K) (K2 : K < 7)  : CT G (d + 5) yX9_shutsBy cX9_shutsBy 4 (some .int) [.ref (gA G 54), .int (iI (p : Int)), .int (iI 2), .int (iI x)] σ (RE (some (.int (iI (vb30 (p : Int) a K x c).1))) (fun υ => MvM p K a (vb30 (p : Int) a K x c).2 υ ∧ FrT σ υ)) := by
  refine CT.of (by decide +kernel) (Nat.le_of_ble_eq_true rfl) ?_
  change AW G _ RX9 _ _ _ 0 [(0, .ref (gA G 54)), (1, .int (iI (p : Int))), (2, .int (iI 2)), (3, .int (iI x))] [] _ _
  refine A_iload_n (pc := 0) dX9_shutsBy_0 rfl rfl ?_
  refine A_lsw (pc := 1) [(0, 36), (2, 57), (6, 73)] 94 dX9_shutsBy_1 (by decide) (by decide) (by decide) (by omega) (by omega) ?_
  refine ⟨fun h1 => ?_, fun h1n0 => ?_⟩
  · skip
    exfalso; omega
  refine ⟨fun h1 => ?_, fun h1n2 => ?_⟩
  · skip
    refine A_aload_n (pc := 57) dX9_shutsBy_57 rfl rfl ?_
    refine A_bipush (pc := 58) dX9_shutsBy_58 (by decide) ?_
    refine A_callVe0 (pc := 60) kX9_295 rfl rfl (c_X9_ran hM c0 (by omega)) dX9_shutsBy_60 rfl rfl (Nat.le_of_ble_eq_true rfl) (Nat.le_of_ble_eq_true rfl) (fun υ hυ => ?_)
    refine A_aload_n (pc := 63) dX9_shutsBy_63 rfl rfl ?_
    refine A_iload_n (pc := 64) dX9_shutsBy_64 rfl rfl ?_
    refine A_iconst (pc := 65) dX9_shutsBy_65 ?_
    refine A_iload_n (pc := 66) dX9_shutsBy_66 rfl rfl ?_
    refine A_callVe (pc := 67) kX9_301 rfl rfl (c_X9_shutsBy_0 p9 hυ.1 (mkT0 c0) (mkT1 (by omega)) K1 K2) dX9_shutsBy_67 rfl rfl (Nat.le_of_ble_eq_true rfl) (Nat.le_of_ble_eq_true rfl) (fun ω hω => ?_)
    refine A_iconst (pc := 70) dX9_shutsBy_70 ?_
    refine A_imul (pc := 71) dX9_shutsBy_71 ?_
    refine A_iret (pc := 72) rfl dX9_shutsBy_72 ?_
    exact ⟨rfl, hω.1, hυ.2.tr hω.2⟩
  refine ⟨fun h1 => ?_, fun h1n6 => ?_⟩
  · skip
    exfalso; omega
  change AW G _ _ _ _ _ 94 _ _ _ _
  exfalso; omega
set_option maxRecDepth 20000 in
theorem c_X9_shutsBy_6 {G : Gl} {d : Nat} {σ : Sg} {p : Nat} (p9 : p < 9) {K a x : Int} {c : Int × (Nat → Int)} (hM : MvM p K a c σ) (c0 : 0 ≤ c.1) (c1 : c.1 ≤ 95) (K1 : 0 ≤ K) (K2 : K < 7)  : CT G (d + 6) yX9_shutsBy cX9_shutsBy 4 (some .int) [.ref (gA G 54), .int (iI (p : Int)), .int (iI 6), .int (iI x)] σ (RE (some (.int (iI (vb71 (p : Int) a K x c).1))) (fun υ => MvM p K a (vb71 (p : Int) a K x c).2 υ ∧ FrT σ υ)) := by
  refine CT.of (by decide +kernel) (Nat.le_of_ble_eq_true rfl) ?_
  change AW G _ RX9 _ _ _ 0 [(0, .ref (gA G 54)), (1, .int (iI (p : Int))), (2, .int (iI 6)), (3, .int (iI x))] [] _ _
  refine A_iload_n (pc := 0) dX9_shutsBy_0 rfl rfl ?_
  refine A_lsw (pc := 1) [(0, 36), (2, 57), (6, 73)] 94 dX9_shutsBy_1 (by decide) (by decide) (by decide) (by omega) (by omega) ?_
  refine ⟨fun h1 => ?_, fun h1n0 => ?_⟩
  · skip
    exfalso; omega
  refine ⟨fun h1 => ?_, fun h1n2 => ?_⟩
  · skip
    exfalso; omega
  refine ⟨fun h1 => ?_, fun h1n6 => ?_⟩
  · skip
    refine A_aload_n (pc := 73) dX9_shutsBy_73 rfl rfl ?_
    refine A_bipush (pc := 74) dX9_shutsBy_74 (by decide) ?_
    refine A_callVe0 (pc := 76) kX9_295 rfl rfl (c_X9_ran hM c0 (by omega)) dX9_shutsBy_76 rfl rfl (Nat.le_of_ble_eq_true rfl) (Nat.le_of_ble_eq_true rfl) (fun υ hυ => ?_)
    refine A_aload_n (pc := 79) dX9_shutsBy_79 rfl rfl ?_
    refine A_iload_n (pc := 80) dX9_shutsBy_80 rfl rfl ?_
    refine A_iconst (pc := 81) dX9_shutsBy_81 ?_
    refine A_iload_n (pc := 82) dX9_shutsBy_82 rfl rfl ?_
    refine A_aload_n (pc := 83) dX9_shutsBy_83 rfl rfl ?_
    refine A_getR (pc := 84) fX9_13 rfl rfl dX9_shutsBy_84 ?_
    refine A_iload_n (pc := 87) dX9_shutsBy_87 rfl rfl ?_
    refine A_ialdv (pc := 88) p rfl rfl (by omega) (Nat.le_of_ble_eq_true rfl) hυ.1.2.2.2 dX9_shutsBy_88 ?_
    refine A_isub (pc := 89) dX9_shutsBy_89 ?_
    refine A_callVe (pc := 90) kX9_301 rfl rfl (c_X9_shutsBy_2 p9 hυ.1 (mkT0 c0) (mkT1 (by omega)) K1 K2) dX9_shutsBy_90 rfl rfl (Nat.le_of_ble_eq_true rfl) (Nat.le_of_ble_eq_true rfl) (fun ω hω => ?_)
    refine A_iret (pc := 93) rfl dX9_shutsBy_93 ?_
    exact ⟨rfl, hω.1, hυ.2.tr hω.2⟩
  change AW G _ _ _ _ _ 94 _ _ _ _
  exfalso; omega
set_option maxRecDepth 20000 in
theorem c_X9_shutsBy_1 {G : Gl} {d : Nat} {σ : Sg} {p : Nat} (p9 : p < 9) {K a x : Int} {c : Int × (Nat → Int)} (hM : MvM p K a c σ) (c0 : 0 ≤ c.1) (c1 : c.1 ≤ 97) (K1 : 0 ≤ K) (K2 : K < 7)  : CT G (d + 5) yX9_shutsBy cX9_shutsBy 4 (some .int) [.ref (gA G 54), .int (iI (p : Int)), .int (iI 1), .int (iI x)] σ (RE (some (.int (iI (vb11 (p : Int) a K x c).1))) (fun υ => MvM p K a (vb11 (p : Int) a K x c).2 υ ∧ FrT σ υ)) := by
  refine CT.of (by decide +kernel) (Nat.le_of_ble_eq_true rfl) ?_
  change AW G _ RX9 _ _ _ 0 [(0, .ref (gA G 54)), (1, .int (iI (p : Int))), (2, .int (iI 1)), (3, .int (iI x))] [] _ _
  refine A_iload_n (pc := 0) dX9_shutsBy_0 rfl rfl ?_
  refine A_lsw (pc := 1) [(0, 36), (2, 57), (6, 73)] 94 dX9_shutsBy_1 (by decide) (by decide) (by decide) (by omega) (by omega) ?_
  refine ⟨fun h1 => ?_, fun h1n0 => ?_⟩
  · skip
    exfalso; omega
  refine ⟨fun h1 => ?_, fun h1n2 => ?_⟩
  · skip
    exfalso; omega
  refine ⟨fun h1 => ?_, fun h1n6 => ?_⟩
  · skip
    exfalso; omega
  change AW G _ _ _ _ _ 94 _ _ _ _
  refine A_aload_n (pc := 94) dX9_shutsBy_94 rfl rfl ?_
  refine A_iload_n (pc := 95) dX9_shutsBy_95 rfl rfl ?_
  refine A_iload_n (pc := 96) dX9_shutsBy_96 rfl rfl ?_
  refine A_callS1 (pc := 97) kX9_106 (c_X9_above (by decide) (by decide)) dX9_shutsBy_97 rfl rfl (Nat.le_of_ble_eq_true rfl) (Nat.le_of_ble_eq_true rfl) ?_
  rw [show (if (1 : Int) = 3 then (1 : Int) else if (1 : Int) = 5 then 4 else if (1 : Int) = 6 then 2 else 0) = 0 from by decide]
  refine A_iload_n (pc := 100) dX9_shutsBy_100 rfl rfl ?_
  refine A_callVe (pc := 101) kX9_301 rfl rfl (c_X9_shutsBy_0 p9 hM c0 (by omega) K1 K2) dX9_shutsBy_101 rfl rfl (Nat.le_of_ble_eq_true rfl) (Nat.le_of_ble_eq_true rfl) (fun υ hυ => ?_)
  refine A_iret (pc := 104) rfl dX9_shutsBy_104 ?_
  exact ⟨rfl, hυ⟩
set_option maxRecDepth 20000 in
theorem c_X9_shutsBy_4 {G : Gl} {d : Nat} {σ : Sg} {p : Nat} (p9 : p < 9) {K a x : Int} {c : Int × (Nat → Int)} (hM : MvM p K a c σ) (c0 : 0 ≤ c.1) (c1 : c.1 ≤ 97) (K1 : 0 ≤ K) (K2 : K < 7)  : CT G (d + 5) yX9_shutsBy cX9_shutsBy 4 (some .int) [.ref (gA G 54), .int (iI (p : Int)), .int (iI 4), .int (iI x)] σ (RE (some (.int (iI (vb11 (p : Int) a K x c).1))) (fun υ => MvM p K a (vb11 (p : Int) a K x c).2 υ ∧ FrT σ υ)) := by
  refine CT.of (by decide +kernel) (Nat.le_of_ble_eq_true rfl) ?_
  change AW G _ RX9 _ _ _ 0 [(0, .ref (gA G 54)), (1, .int (iI (p : Int))), (2, .int (iI 4)), (3, .int (iI x))] [] _ _
  refine A_iload_n (pc := 0) dX9_shutsBy_0 rfl rfl ?_
  refine A_lsw (pc := 1) [(0, 36), (2, 57), (6, 73)] 94 dX9_shutsBy_1 (by decide) (by decide) (by decide) (by omega) (by omega) ?_
  refine ⟨fun h1 => ?_, fun h1n0 => ?_⟩
  · skip
    exfalso; omega
  refine ⟨fun h1 => ?_, fun h1n2 => ?_⟩
  · skip
    exfalso; omega
  refine ⟨fun h1 => ?_, fun h1n6 => ?_⟩
  · skip
    exfalso; omega
  change AW G _ _ _ _ _ 94 _ _ _ _
  refine A_aload_n (pc := 94) dX9_shutsBy_94 rfl rfl ?_
  refine A_iload_n (pc := 95) dX9_shutsBy_95 rfl rfl ?_
  refine A_iload_n (pc := 96) dX9_shutsBy_96 rfl rfl ?_
  refine A_callS1 (pc := 97) kX9_106 (c_X9_above (by decide) (by decide)) dX9_shutsBy_97 rfl rfl (Nat.le_of_ble_eq_true rfl) (Nat.le_of_ble_eq_true rfl) ?_
  rw [show (if (4 : Int) = 3 then (1 : Int) else if (4 : Int) = 5 then 4 else if (4 : Int) = 6 then 2 else 0) = 0 from by decide]
  refine A_iload_n (pc := 100) dX9_shutsBy_100 rfl rfl ?_
  refine A_callVe (pc := 101) kX9_301 rfl rfl (c_X9_shutsBy_0 p9 hM c0 (by omega) K1 K2) dX9_shutsBy_101 rfl rfl (Nat.le_of_ble_eq_true rfl) (Nat.le_of_ble_eq_true rfl) (fun υ hυ => ?_)
  refine A_iret (pc := 104) rfl dX9_shutsBy_104 ?_
  exact ⟨rfl, hυ⟩
set_option maxRecDepth 20000 in
theorem c_X9_shutsBy_3 {G : Gl} {d : Nat} {σ : Sg} {p : Nat} (p9 : p < 9) {K a x : Int} {c : Int × (Nat → Int)} (hM : MvM p K a c σ) (c0 : 0 ≤ c.1) (c1 : c.1 ≤ 97) (K1 : 0 ≤ K) (K2 : K < 7)  : CT G (d + 6) yX9_shutsBy cX9_shutsBy 4 (some .int) [.ref (gA G 54), .int (iI (p : Int)), .int (iI 3), .int (iI x)] σ (RE (some (.int (iI (vb11 (p : Int) a K x c).1))) (fun υ => MvM p K a (vb11 (p : Int) a K x c).2 υ ∧ FrT σ υ)) := by
  refine CT.of (by decide +kernel) (Nat.le_of_ble_eq_true rfl) ?_
  change AW G _ RX9 _ _ _ 0 [(0, .ref (gA G 54)), (1, .int (iI (p : Int))), (2, .int (iI 3)), (3, .int (iI x))] [] _ _
  refine A_iload_n (pc := 0) dX9_shutsBy_0 rfl rfl ?_
  refine A_lsw (pc := 1) [(0, 36), (2, 57), (6, 73)] 94 dX9_shutsBy_1 (by decide) (by decide) (by decide) (by omega) (by omega) ?_
  refine ⟨fun h1 => ?_, fun h1n0 => ?_⟩
  · skip
    exfalso; omega
  refine ⟨fun h1 => ?_, fun h1n2 => ?_⟩
  · skip
    exfalso; omega
  refine ⟨fun h1 => ?_, fun h1n6 => ?_⟩
  · skip
    exfalso; omega
  change AW G _ _ _ _ _ 94 _ _ _ _
  refine A_aload_n (pc := 94) dX9_shutsBy_94 rfl rfl ?_
  refine A_iload_n (pc := 95) dX9_shutsBy_95 rfl rfl ?_
  refine A_iload_n (pc := 96) dX9_shutsBy_96 rfl rfl ?_
  refine A_callS1 (pc := 97) kX9_106 (c_X9_above (by decide) (by decide)) dX9_shutsBy_97 rfl rfl (Nat.le_of_ble_eq_true rfl) (Nat.le_of_ble_eq_true rfl) ?_
  rw [show (if (3 : Int) = 3 then (1 : Int) else if (3 : Int) = 5 then 4 else if (3 : Int) = 6 then 2 else 0) = 1 from by decide]
  refine A_iload_n (pc := 100) dX9_shutsBy_100 rfl rfl ?_
  refine A_callVe (pc := 101) kX9_301 rfl rfl (c_X9_shutsBy_1 p9 hM c0 (by omega) K1 K2) dX9_shutsBy_101 rfl rfl (Nat.le_of_ble_eq_true rfl) (Nat.le_of_ble_eq_true rfl) (fun υ hυ => ?_)
  refine A_iret (pc := 104) rfl dX9_shutsBy_104 ?_
  exact ⟨rfl, hυ⟩
set_option maxRecDepth 20000 in
theorem c_X9_shutsBy_5 {G : Gl} {d : Nat} {σ : Sg} {p : Nat} (p9 : p < 9) {K a x : Int} {c : Int × (Nat → Int)} (hM : MvM p K a c σ) (c0 : 0 ≤ c.1) (c1 : c.1 ≤ 97) (K1 : 0 ≤ K) (K2 : K < 7)  : CT G (d + 6) yX9_shutsBy cX9_shutsBy 4 (some .int) [.ref (gA G 54), .int (iI (p : Int)), .int (iI 5), .int (iI x)] σ (RE (some (.int (iI (vb11 (p : Int) a K x c).1))) (fun υ => MvM p K a (vb11 (p : Int) a K x c).2 υ ∧ FrT σ υ)) := by
  refine CT.of (by decide +kernel) (Nat.le_of_ble_eq_true rfl) ?_
  change AW G _ RX9 _ _ _ 0 [(0, .ref (gA G 54)), (1, .int (iI (p : Int))), (2, .int (iI 5)), (3, .int (iI x))] [] _ _
  refine A_iload_n (pc := 0) dX9_shutsBy_0 rfl rfl ?_
  refine A_lsw (pc := 1) [(0, 36), (2, 57), (6, 73)] 94 dX9_shutsBy_1 (by decide) (by decide) (by decide) (by omega) (by omega) ?_
  refine ⟨fun h1 => ?_, fun h1n0 => ?_⟩
  · skip
    exfalso; omega
  refine ⟨fun h1 => ?_, fun h1n2 => ?_⟩
  · skip
    exfalso; omega
  refine ⟨fun h1 => ?_, fun h1n6 => ?_⟩
  · skip
    exfalso; omega
  change AW G _ _ _ _ _ 94 _ _ _ _
  refine A_aload_n (pc := 94) dX9_shutsBy_94 rfl rfl ?_
  refine A_iload_n (pc := 95) dX9_shutsBy_95 rfl rfl ?_
  refine A_iload_n (pc := 96) dX9_shutsBy_96 rfl rfl ?_
  refine A_callS1 (pc := 97) kX9_106 (c_X9_above (by decide) (by decide)) dX9_shutsBy_97 rfl rfl (Nat.le_of_ble_eq_true rfl) (Nat.le_of_ble_eq_true rfl) ?_
  rw [show (if (5 : Int) = 3 then (1 : Int) else if (5 : Int) = 5 then 4 else if (5 : Int) = 6 then 2 else 0) = 4 from by decide]
  refine A_iload_n (pc := 100) dX9_shutsBy_100 rfl rfl ?_
  refine A_callVe (pc := 101) kX9_301 rfl rfl (c_X9_shutsBy_4 p9 hM c0 (by omega) K1 K2) dX9_shutsBy_101 rfl rfl (Nat.le_of_ble_eq_true rfl) (Nat.le_of_ble_eq_true rfl) (fun υ hυ => ?_)
  refine A_iret (pc := 104) rfl dX9_shutsBy_104 ?_
  exact ⟨rfl, hυ⟩
theorem c_X9_shs {G : Gl} {d : Nat} {σ : Sg} {k : Int} (k1 : 0 ≤ k) (k2 : k < 7) {p : Nat} (p9 : p < 9) {K a x : Int} {c : Int × (Nat → Int)} (hM : MvM p K a c σ) (c0 : 0 ≤ c.1) (c1 : c.1 ≤ 95) (K1 : 0 ≤ K) (K2 : K < 7) : CT G (d + 6) yX9_shutsBy cX9_shutsBy 4 (some .int) [.ref (gA G 54), .int (iI (p : Int)), .int (iI k), .int (iI x)] σ (RE (some (.int (iI (vSh (p : Int) a K k x c).1))) (fun υ => MvM p K a (vSh (p : Int) a K k x c).2 υ ∧ FrT σ υ)) := by
  have hk : k = 0 ∨ k = 1 ∨ k = 2 ∨ k = 3 ∨ k = 4 ∨ k = 5 ∨ k = 6 := by omega
  rcases hk with rfl | rfl | rfl | rfl | rfl | rfl | rfl
  · exact c_X9_shutsBy_0 (d := d + 2) p9 hM c0 (by omega) K1 K2
  · exact c_X9_shutsBy_1 (d := d + 1) p9 hM c0 (by omega) K1 K2
  · exact c_X9_shutsBy_2 (d := d + 1) p9 hM c0 (by omega) K1 K2
  · exact c_X9_shutsBy_3 (d := d + 0) p9 hM c0 (by omega) K1 K2
  · exact c_X9_shutsBy_4 (d := d + 1) p9 hM c0 (by omega) K1 K2
  · exact c_X9_shutsBy_5 (d := d + 0) p9 hM c0 (by omega) K1 K2
  · exact c_X9_shutsBy_6 (d := d + 0) p9 hM c0 (by omega) K1 K2
theorem dX9_shinesBy_0 : decode cX9_shinesBy 0 = .ok (.iload_n 2, 1) := by decide +kernel
theorem dX9_shinesBy_1 : decode cX9_shinesBy 1 = .ok (.lookupswitch 109 #[(0, 35), (4, 78), (5, 93)], 35) := by decide +kernel
theorem dX9_shinesBy_36 : decode cX9_shinesBy 36 = .ok (.aload_n 0, 1) := by decide +kernel
theorem dX9_shinesBy_37 : decode cX9_shinesBy 37 = .ok (.bipush 12, 2) := by decide +kernel
theorem dX9_shinesBy_39 : decode cX9_shinesBy 39 = .ok (.invokevirtual 295, 3) := by decide +kernel
theorem dX9_shinesBy_42 : decode cX9_shinesBy 42 = .ok (.aload_n 0, 1) := by decide +kernel
theorem dX9_shinesBy_43 : decode cX9_shinesBy 43 = .ok (.iload_n 1, 1) := by decide +kernel
theorem dX9_shinesBy_44 : decode cX9_shinesBy 44 = .ok (.aload_n 0, 1) := by decide +kernel
theorem dX9_shinesBy_45 : decode cX9_shinesBy 45 = .ok (.getfield 7, 3) := by decide +kernel
theorem dX9_shinesBy_48 : decode cX9_shinesBy 48 = .ok (.iload_n 1, 1) := by decide +kernel
theorem dX9_shinesBy_49 : decode cX9_shinesBy 49 = .ok (.iaload, 1) := by decide +kernel
theorem dX9_shinesBy_50 : decode cX9_shinesBy 50 = .ok (.iload_n 3, 1) := by decide +kernel
theorem dX9_shinesBy_51 : decode cX9_shinesBy 51 = .ok (.invokevirtual 301, 3) := by decide +kernel
theorem dX9_shinesBy_54 : decode cX9_shinesBy 54 = .ok (.istore 4, 2) := by decide +kernel
theorem dX9_shinesBy_56 : decode cX9_shinesBy 56 = .ok (.iload 4, 2) := by decide +kernel
theorem dX9_shinesBy_58 : decode cX9_shinesBy 58 = .ok (.aload_n 0, 1) := by decide +kernel
theorem dX9_shinesBy_59 : decode cX9_shinesBy 59 = .ok (.iload_n 1, 1) := by decide +kernel
theorem dX9_shinesBy_60 : decode cX9_shinesBy 60 = .ok (.aload_n 0, 1) := by decide +kernel
theorem dX9_shinesBy_61 : decode cX9_shinesBy 61 = .ok (.getfield 7, 3) := by decide +kernel
theorem dX9_shinesBy_64 : decode cX9_shinesBy 64 = .ok (.iload_n 1, 1) := by decide +kernel
theorem dX9_shinesBy_65 : decode cX9_shinesBy 65 = .ok (.iaload, 1) := by decide +kernel
theorem dX9_shinesBy_66 : decode cX9_shinesBy 66 = .ok (.iload_n 3, 1) := by decide +kernel
theorem dX9_shinesBy_67 : decode cX9_shinesBy 67 = .ok (.aload_n 0, 1) := by decide +kernel
theorem dX9_shinesBy_68 : decode cX9_shinesBy 68 = .ok (.getfield 13, 3) := by decide +kernel
theorem dX9_shinesBy_71 : decode cX9_shinesBy 71 = .ok (.iload_n 1, 1) := by decide +kernel
theorem dX9_shinesBy_72 : decode cX9_shinesBy 72 = .ok (.iaload, 1) := by decide +kernel
theorem dX9_shinesBy_73 : decode cX9_shinesBy 73 = .ok (.isub, 1) := by decide +kernel
theorem dX9_shinesBy_74 : decode cX9_shinesBy 74 = .ok (.invokevirtual 298, 3) := by decide +kernel
theorem dX9_shinesBy_77 : decode cX9_shinesBy 77 = .ok (.ixor, 1) := by decide +kernel
theorem dX9_shinesBy_78 : decode cX9_shinesBy 78 = .ok (.ireturn, 1) := by decide +kernel
theorem dX9_shinesBy_79 : decode cX9_shinesBy 79 = .ok (.aload_n 0, 1) := by decide +kernel
theorem dX9_shinesBy_80 : decode cX9_shinesBy 80 = .ok (.bipush 50, 2) := by decide +kernel
theorem dX9_shinesBy_82 : decode cX9_shinesBy 82 = .ok (.invokevirtual 295, 3) := by decide +kernel
theorem dX9_shinesBy_85 : decode cX9_shinesBy 85 = .ok (.aload_n 0, 1) := by decide +kernel
theorem dX9_shinesBy_86 : decode cX9_shinesBy 86 = .ok (.iload_n 1, 1) := by decide +kernel
theorem dX9_shinesBy_87 : decode cX9_shinesBy 87 = .ok (.iconst 0, 1) := by decide +kernel
theorem dX9_shinesBy_88 : decode cX9_shinesBy 88 = .ok (.iload_n 3, 1) := by decide +kernel
theorem dX9_shinesBy_89 : decode cX9_shinesBy 89 = .ok (.invokevirtual 304, 3) := by decide +kernel
theorem dX9_shinesBy_92 : decode cX9_shinesBy 92 = .ok (.ineg, 1) := by decide +kernel
theorem dX9_shinesBy_93 : decode cX9_shinesBy 93 = .ok (.ireturn, 1) := by decide +kernel
theorem dX9_shinesBy_94 : decode cX9_shinesBy 94 = .ok (.aload_n 0, 1) := by decide +kernel
theorem dX9_shinesBy_95 : decode cX9_shinesBy 95 = .ok (.bipush 60, 2) := by decide +kernel
theorem dX9_shinesBy_97 : decode cX9_shinesBy 97 = .ok (.invokevirtual 295, 3) := by decide +kernel
theorem dX9_shinesBy_100 : decode cX9_shinesBy 100 = .ok (.aload_n 0, 1) := by decide +kernel
theorem dX9_shinesBy_101 : decode cX9_shinesBy 101 = .ok (.iload_n 1, 1) := by decide +kernel
theorem dX9_shinesBy_102 : decode cX9_shinesBy 102 = .ok (.iconst 4, 1) := by decide +kernel
theorem dX9_shinesBy_103 : decode cX9_shinesBy 103 = .ok (.iload_n 3, 1) := by decide +kernel
theorem dX9_shinesBy_104 : decode cX9_shinesBy 104 = .ok (.invokevirtual 304, 3) := by decide +kernel
theorem dX9_shinesBy_107 : decode cX9_shinesBy 107 = .ok (.iconst 5, 1) := by decide +kernel
theorem dX9_shinesBy_108 : decode cX9_shinesBy 108 = .ok (.ixor, 1) := by decide +kernel
theorem dX9_shinesBy_109 : decode cX9_shinesBy 109 = .ok (.ireturn, 1) := by decide +kernel
theorem dX9_shinesBy_110 : decode cX9_shinesBy 110 = .ok (.aload_n 0, 1) := by decide +kernel
theorem dX9_shinesBy_111 : decode cX9_shinesBy 111 = .ok (.iload_n 1, 1) := by decide +kernel
theorem dX9_shinesBy_112 : decode cX9_shinesBy 112 = .ok (.iload_n 2, 1) := by decide +kernel
theorem dX9_shinesBy_113 : decode cX9_shinesBy 113 = .ok (.invokestatic 106, 3) := by decide +kernel
theorem dX9_shinesBy_116 : decode cX9_shinesBy 116 = .ok (.iload_n 3, 1) := by decide +kernel
theorem dX9_shinesBy_117 : decode cX9_shinesBy 117 = .ok (.invokevirtual 304, 3) := by decide +kernel
theorem dX9_shinesBy_120 : decode cX9_shinesBy 120 = .ok (.ireturn, 1) := by decide +kernel
set_option maxRecDepth 20000 in
theorem c_X9_shinesBy_0 {G : Gl} {d : Nat} {σ : Sg} {p : Nat} (p9 : p < 9) {K a x : Int} {c : Int × (Nat → Int)} (hM : MvM p K a c σ) (c0 : 0 ≤ c.1) (c1 : c.1 ≤ 88) (K1 : 0 ≤ K) (K2 : K < 7)  : CT G (d + 7) yX9_shinesBy cX9_shinesBy 5 (some .int) [.ref (gA G 54), .int (iI (p : Int)), .int (iI 0), .int (iI x)] σ (RE (some (.int (iI (vb12 (p : Int) a K x c).1))) (fun υ => MvM p K a (vb12 (p : Int) a K x c).2 υ ∧ FrT σ υ)) := by
  refine CT.of (by decide +kernel) (Nat.le_of_ble_eq_true rfl) ?_
  change AW G _ RX9 _ _ _ 0 [(0, .ref (gA G 54)), (1, .int (iI (p : Int))), (2, .int (iI 0)), (3, .int (iI x))] [] _ _
  refine A_iload_n (pc := 0) dX9_shinesBy_0 rfl rfl ?_
  refine A_lsw (pc := 1) [(0, 36), (4, 79), (5, 94)] 110 dX9_shinesBy_1 (by decide) (by decide) (by decide) (by omega) (by omega) ?_
  refine ⟨fun h1 => ?_, fun h1n0 => ?_⟩
  · skip
    refine A_aload_n (pc := 36) dX9_shinesBy_36 rfl rfl ?_
    refine A_bipush (pc := 37) dX9_shinesBy_37 (by decide) ?_
    refine A_callVe0 (pc := 39) kX9_295 rfl rfl (c_X9_ran hM c0 (by omega)) dX9_shinesBy_39 rfl rfl (Nat.le_of_ble_eq_true rfl) (Nat.le_of_ble_eq_true rfl) (fun υ hυ => ?_)
    refine A_aload_n (pc := 42) dX9_shinesBy_42 rfl rfl ?_
    refine A_iload_n (pc := 43) dX9_shinesBy_43 rfl rfl ?_
    refine A_aload_n (pc := 44) dX9_shinesBy_44 rfl rfl ?_
    refine A_getR (pc := 45) fX9_7 rfl rfl dX9_shinesBy_45 ?_
    refine A_iload_n (pc := 48) dX9_shinesBy_48 rfl rfl ?_
    refine A_ialdv (pc := 49) p rfl rfl (by omega) (Nat.le_of_ble_eq_true rfl) hυ.1.2.2.1 dX9_shinesBy_49 ?_
    refine A_iload_n (pc := 50) dX9_shinesBy_50 rfl rfl ?_
    refine A_callVe (pc := 51) kX9_301 rfl rfl (c_X9_shs K1 K2 p9 hυ.1 (mkT0 c0) (mkT1 (by omega)) K1 K2) dX9_shinesBy_51 rfl rfl (Nat.le_of_ble_eq_true rfl) (Nat.le_of_ble_eq_true rfl) (fun ω hω => ?_)
    have hcc := vSh_c (p : Int) a K K x (mkT c 12)
    have hce : (mkT c 12).1 = c.1 + 1 := rfl
    refine A_istore (pc := 54) dX9_shinesBy_54 (Nat.le_of_ble_eq_true rfl) ?_
    refine A_iload (pc := 56) dX9_shinesBy_56 rfl ?_
    refine A_aload_n (pc := 58) dX9_shinesBy_58 rfl rfl ?_
    refine A_iload_n (pc := 59) dX9_shinesBy_59 rfl rfl ?_
    refine A_aload_n (pc := 60) dX9_shinesBy_60 rfl rfl ?_
    refine A_getR (pc := 61) fX9_7 rfl rfl dX9_shinesBy_61 ?_
    refine A_iload_n (pc := 64) dX9_shinesBy_64 rfl rfl ?_
    refine A_ialdv (pc := 65) p rfl rfl (by omega) (Nat.le_of_ble_eq_true rfl) hω.1.2.2.1 dX9_shinesBy_65 ?_
    refine A_iload_n (pc := 66) dX9_shinesBy_66 rfl rfl ?_
    refine A_aload_n (pc := 67) dX9_shinesBy_67 rfl rfl ?_
    refine A_getR (pc := 68) fX9_13 rfl rfl dX9_shinesBy_68 ?_
    refine A_iload_n (pc := 71) dX9_shinesBy_71 rfl rfl ?_
    refine A_ialdv (pc := 72) p rfl rfl (by omega) (Nat.le_of_ble_eq_true rfl) hω.1.2.2.2 dX9_shinesBy_72 ?_
    refine A_isub (pc := 73) dX9_shinesBy_73 ?_
    refine A_callVe (pc := 74) kX9_298 rfl rfl (c_X9_ops K1 K2 p9 hω.1 (by omega) (by omega)) dX9_shinesBy_74 rfl rfl (Nat.le_of_ble_eq_true rfl) (Nat.le_of_ble_eq_true rfl) (fun χ hχ => ?_)
    refine A_ixor (pc := 77) (xrI _ _) dX9_shinesBy_77 (xrI_iI _ _) ?_
    refine A_iret (pc := 78) rfl dX9_shinesBy_78 ?_
    exact ⟨rfl, hχ.1, (hυ.2.tr hω.2).tr hχ.2⟩
  refine ⟨fun h1 => ?_, fun h1n4 => ?_⟩
  · skip
    exfalso; omega
  refine ⟨fun h1 => ?_, fun h1n5 => ?_⟩
  · skip
    exfalso; omega
  change AW G _ _ _ _ _ 110 _ _ _ _
  exfalso; omega
set_option maxRecDepth 20000 in
theorem c_X9_shinesBy_4 {G : Gl} {d : Nat} {σ : Sg} {p : Nat} (p9 : p < 9) {K a x : Int} {c : Int × (Nat → Int)} (hM : MvM p K a c σ) (c0 : 0 ≤ c.1) (c1 : c.1 ≤ 87) (K1 : 0 ≤ K) (K2 : K < 7)  : CT G (d + 8) yX9_shinesBy cX9_shinesBy 5 (some .int) [.ref (gA G 54), .int (iI (p : Int)), .int (iI 4), .int (iI x)] σ (RE (some (.int (iI (vb50 (p : Int) a K x c).1))) (fun υ => MvM p K a (vb50 (p : Int) a K x c).2 υ ∧ FrT σ υ)) := by
  refine CT.of (by decide +kernel) (Nat.le_of_ble_eq_true rfl) ?_
  change AW G _ RX9 _ _ _ 0 [(0, .ref (gA G 54)), (1, .int (iI (p : Int))), (2, .int (iI 4)), (3, .int (iI x))] [] _ _
  refine A_iload_n (pc := 0) dX9_shinesBy_0 rfl rfl ?_
  refine A_lsw (pc := 1) [(0, 36), (4, 79), (5, 94)] 110 dX9_shinesBy_1 (by decide) (by decide) (by decide) (by omega) (by omega) ?_
  refine ⟨fun h1 => ?_, fun h1n0 => ?_⟩
  · skip
    exfalso; omega
  refine ⟨fun h1 => ?_, fun h1n4 => ?_⟩
  · skip
    refine A_aload_n (pc := 79) dX9_shinesBy_79 rfl rfl ?_
    refine A_bipush (pc := 80) dX9_shinesBy_80 (by decide) ?_
    refine A_callVe0 (pc := 82) kX9_295 rfl rfl (c_X9_ran hM c0 (by omega)) dX9_shinesBy_82 rfl rfl (Nat.le_of_ble_eq_true rfl) (Nat.le_of_ble_eq_true rfl) (fun υ hυ => ?_)
    refine A_aload_n (pc := 85) dX9_shinesBy_85 rfl rfl ?_
    refine A_iload_n (pc := 86) dX9_shinesBy_86 rfl rfl ?_
    refine A_iconst (pc := 87) dX9_shinesBy_87 ?_
    refine A_iload_n (pc := 88) dX9_shinesBy_88 rfl rfl ?_
    refine A_callVe (pc := 89) kX9_304 rfl rfl (c_X9_shinesBy_0 p9 hυ.1 (mkT0 c0) (mkT1 (by omega)) K1 K2) dX9_shinesBy_89 rfl rfl (Nat.le_of_ble_eq_true rfl) (Nat.le_of_ble_eq_true rfl) (fun ω hω => ?_)
    refine A_ineg (pc := 92) dX9_shinesBy_92 ?_
    refine A_iret (pc := 93) rfl dX9_shinesBy_93 ?_
    exact ⟨rfl, hω.1, hυ.2.tr hω.2⟩
  refine ⟨fun h1 => ?_, fun h1n5 => ?_⟩
  · skip
    exfalso; omega
  change AW G _ _ _ _ _ 110 _ _ _ _
  exfalso; omega
set_option maxRecDepth 20000 in
theorem c_X9_shinesBy_5 {G : Gl} {d : Nat} {σ : Sg} {p : Nat} (p9 : p < 9) {K a x : Int} {c : Int × (Nat → Int)} (hM : MvM p K a c σ) (c0 : 0 ≤ c.1) (c1 : c.1 ≤ 86) (K1 : 0 ≤ K) (K2 : K < 7)  : CT G (d + 9) yX9_shinesBy cX9_shinesBy 5 (some .int) [.ref (gA G 54), .int (iI (p : Int)), .int (iI 5), .int (iI x)] σ (RE (some (.int (iI (vb60 (p : Int) a K x c).1))) (fun υ => MvM p K a (vb60 (p : Int) a K x c).2 υ ∧ FrT σ υ)) := by
  refine CT.of (by decide +kernel) (Nat.le_of_ble_eq_true rfl) ?_
  change AW G _ RX9 _ _ _ 0 [(0, .ref (gA G 54)), (1, .int (iI (p : Int))), (2, .int (iI 5)), (3, .int (iI x))] [] _ _
  refine A_iload_n (pc := 0) dX9_shinesBy_0 rfl rfl ?_
  refine A_lsw (pc := 1) [(0, 36), (4, 79), (5, 94)] 110 dX9_shinesBy_1 (by decide) (by decide) (by decide) (by omega) (by omega) ?_
  refine ⟨fun h1 => ?_, fun h1n0 => ?_⟩
  · skip
    exfalso; omega
  refine ⟨fun h1 => ?_, fun h1n4 => ?_⟩
  · skip
    exfalso; omega
  refine ⟨fun h1 => ?_, fun h1n5 => ?_⟩
  · skip
    refine A_aload_n (pc := 94) dX9_shinesBy_94 rfl rfl ?_
    refine A_bipush (pc := 95) dX9_shinesBy_95 (by decide) ?_
    refine A_callVe0 (pc := 97) kX9_295 rfl rfl (c_X9_ran hM c0 (by omega)) dX9_shinesBy_97 rfl rfl (Nat.le_of_ble_eq_true rfl) (Nat.le_of_ble_eq_true rfl) (fun υ hυ => ?_)
    refine A_aload_n (pc := 100) dX9_shinesBy_100 rfl rfl ?_
    refine A_iload_n (pc := 101) dX9_shinesBy_101 rfl rfl ?_
    refine A_iconst (pc := 102) dX9_shinesBy_102 ?_
    refine A_iload_n (pc := 103) dX9_shinesBy_103 rfl rfl ?_
    refine A_callVe (pc := 104) kX9_304 rfl rfl (c_X9_shinesBy_4 p9 hυ.1 (mkT0 c0) (mkT1 (by omega)) K1 K2) dX9_shinesBy_104 rfl rfl (Nat.le_of_ble_eq_true rfl) (Nat.le_of_ble_eq_true rfl) (fun ω hω => ?_)
    refine A_iconst (pc := 107) dX9_shinesBy_107 ?_
    refine A_ixor (pc := 108) (xrI _ _) dX9_shinesBy_108 (xrI_iI _ _) ?_
    refine A_iret (pc := 109) rfl dX9_shinesBy_109 ?_
    exact ⟨rfl, hω.1, hυ.2.tr hω.2⟩
  change AW G _ _ _ _ _ 110 _ _ _ _
  exfalso; omega
set_option maxRecDepth 20000 in
theorem c_X9_shinesBy_1 {G : Gl} {d : Nat} {σ : Sg} {p : Nat} (p9 : p < 9) {K a x : Int} {c : Int × (Nat → Int)} (hM : MvM p K a c σ) (c0 : 0 ≤ c.1) (c1 : c.1 ≤ 88) (K1 : 0 ≤ K) (K2 : K < 7)  : CT G (d + 8) yX9_shinesBy cX9_shinesBy 5 (some .int) [.ref (gA G 54), .int (iI (p : Int)), .int (iI 1), .int (iI x)] σ (RE (some (.int (iI (vb12 (p : Int) a K x c).1))) (fun υ => MvM p K a (vb12 (p : Int) a K x c).2 υ ∧ FrT σ υ)) := by
  refine CT.of (by decide +kernel) (Nat.le_of_ble_eq_true rfl) ?_
  change AW G _ RX9 _ _ _ 0 [(0, .ref (gA G 54)), (1, .int (iI (p : Int))), (2, .int (iI 1)), (3, .int (iI x))] [] _ _
  refine A_iload_n (pc := 0) dX9_shinesBy_0 rfl rfl ?_
  refine A_lsw (pc := 1) [(0, 36), (4, 79), (5, 94)] 110 dX9_shinesBy_1 (by decide) (by decide) (by decide) (by omega) (by omega) ?_
  refine ⟨fun h1 => ?_, fun h1n0 => ?_⟩
  · skip
    exfalso; omega
  refine ⟨fun h1 => ?_, fun h1n4 => ?_⟩
  · skip
    exfalso; omega
  refine ⟨fun h1 => ?_, fun h1n5 => ?_⟩
  · skip
    exfalso; omega
  change AW G _ _ _ _ _ 110 _ _ _ _
  refine A_aload_n (pc := 110) dX9_shinesBy_110 rfl rfl ?_
  refine A_iload_n (pc := 111) dX9_shinesBy_111 rfl rfl ?_
  refine A_iload_n (pc := 112) dX9_shinesBy_112 rfl rfl ?_
  refine A_callS1 (pc := 113) kX9_106 (c_X9_above (by decide) (by decide)) dX9_shinesBy_113 rfl rfl (Nat.le_of_ble_eq_true rfl) (Nat.le_of_ble_eq_true rfl) ?_
  rw [show (if (1 : Int) = 3 then (1 : Int) else if (1 : Int) = 5 then 4 else if (1 : Int) = 6 then 2 else 0) = 0 from by decide]
  refine A_iload_n (pc := 116) dX9_shinesBy_116 rfl rfl ?_
  refine A_callVe (pc := 117) kX9_304 rfl rfl (c_X9_shinesBy_0 p9 hM c0 (by omega) K1 K2) dX9_shinesBy_117 rfl rfl (Nat.le_of_ble_eq_true rfl) (Nat.le_of_ble_eq_true rfl) (fun υ hυ => ?_)
  refine A_iret (pc := 120) rfl dX9_shinesBy_120 ?_
  exact ⟨rfl, hυ⟩
set_option maxRecDepth 20000 in
theorem c_X9_shinesBy_2 {G : Gl} {d : Nat} {σ : Sg} {p : Nat} (p9 : p < 9) {K a x : Int} {c : Int × (Nat → Int)} (hM : MvM p K a c σ) (c0 : 0 ≤ c.1) (c1 : c.1 ≤ 88) (K1 : 0 ≤ K) (K2 : K < 7)  : CT G (d + 8) yX9_shinesBy cX9_shinesBy 5 (some .int) [.ref (gA G 54), .int (iI (p : Int)), .int (iI 2), .int (iI x)] σ (RE (some (.int (iI (vb12 (p : Int) a K x c).1))) (fun υ => MvM p K a (vb12 (p : Int) a K x c).2 υ ∧ FrT σ υ)) := by
  refine CT.of (by decide +kernel) (Nat.le_of_ble_eq_true rfl) ?_
  change AW G _ RX9 _ _ _ 0 [(0, .ref (gA G 54)), (1, .int (iI (p : Int))), (2, .int (iI 2)), (3, .int (iI x))] [] _ _
  refine A_iload_n (pc := 0) dX9_shinesBy_0 rfl rfl ?_
  refine A_lsw (pc := 1) [(0, 36), (4, 79), (5, 94)] 110 dX9_shinesBy_1 (by decide) (by decide) (by decide) (by omega) (by omega) ?_
  refine ⟨fun h1 => ?_, fun h1n0 => ?_⟩
  · skip
    exfalso; omega
  refine ⟨fun h1 => ?_, fun h1n4 => ?_⟩
  · skip
    exfalso; omega
  refine ⟨fun h1 => ?_, fun h1n5 => ?_⟩
  · skip
    exfalso; omega
  change AW G _ _ _ _ _ 110 _ _ _ _
  refine A_aload_n (pc := 110) dX9_shinesBy_110 rfl rfl ?_
  refine A_iload_n (pc := 111) dX9_shinesBy_111 rfl rfl ?_
  refine A_iload_n (pc := 112) dX9_shinesBy_112 rfl rfl ?_
  refine A_callS1 (pc := 113) kX9_106 (c_X9_above (by decide) (by decide)) dX9_shinesBy_113 rfl rfl (Nat.le_of_ble_eq_true rfl) (Nat.le_of_ble_eq_true rfl) ?_
  rw [show (if (2 : Int) = 3 then (1 : Int) else if (2 : Int) = 5 then 4 else if (2 : Int) = 6 then 2 else 0) = 0 from by decide]
  refine A_iload_n (pc := 116) dX9_shinesBy_116 rfl rfl ?_
  refine A_callVe (pc := 117) kX9_304 rfl rfl (c_X9_shinesBy_0 p9 hM c0 (by omega) K1 K2) dX9_shinesBy_117 rfl rfl (Nat.le_of_ble_eq_true rfl) (Nat.le_of_ble_eq_true rfl) (fun υ hυ => ?_)
  refine A_iret (pc := 120) rfl dX9_shinesBy_120 ?_
  exact ⟨rfl, hυ⟩
set_option maxRecDepth 20000 in
theorem c_X9_shinesBy_3 {G : Gl} {d : Nat} {σ : Sg} {p : Nat} (p9 : p < 9) {K a x : Int} {c : Int × (Nat → Int)} (hM : MvM p K a c σ) (c0 : 0 ≤ c.1) (c1 : c.1 ≤ 88) (K1 : 0 ≤ K) (K2 : K < 7)  : CT G (d + 9) yX9_shinesBy cX9_shinesBy 5 (some .int) [.ref (gA G 54), .int (iI (p : Int)), .int (iI 3), .int (iI x)] σ (RE (some (.int (iI (vb12 (p : Int) a K x c).1))) (fun υ => MvM p K a (vb12 (p : Int) a K x c).2 υ ∧ FrT σ υ)) := by
  refine CT.of (by decide +kernel) (Nat.le_of_ble_eq_true rfl) ?_
  change AW G _ RX9 _ _ _ 0 [(0, .ref (gA G 54)), (1, .int (iI (p : Int))), (2, .int (iI 3)), (3, .int (iI x))] [] _ _
  refine A_iload_n (pc := 0) dX9_shinesBy_0 rfl rfl ?_
  refine A_lsw (pc := 1) [(0, 36), (4, 79), (5, 94)] 110 dX9_shinesBy_1 (by decide) (by decide) (by decide) (by omega) (by omega) ?_
  refine ⟨fun h1 => ?_, fun h1n0 => ?_⟩
  · skip
    exfalso; omega
  refine ⟨fun h1 => ?_, fun h1n4 => ?_⟩
  · skip
    exfalso; omega
  refine ⟨fun h1 => ?_, fun h1n5 => ?_⟩
  · skip
    exfalso; omega
  change AW G _ _ _ _ _ 110 _ _ _ _
  refine A_aload_n (pc := 110) dX9_shinesBy_110 rfl rfl ?_
  refine A_iload_n (pc := 111) dX9_shinesBy_111 rfl rfl ?_
  refine A_iload_n (pc := 112) dX9_shinesBy_112 rfl rfl ?_
  refine A_callS1 (pc := 113) kX9_106 (c_X9_above (by decide) (by decide)) dX9_shinesBy_113 rfl rfl (Nat.le_of_ble_eq_true rfl) (Nat.le_of_ble_eq_true rfl) ?_
  rw [show (if (3 : Int) = 3 then (1 : Int) else if (3 : Int) = 5 then 4 else if (3 : Int) = 6 then 2 else 0) = 1 from by decide]
  refine A_iload_n (pc := 116) dX9_shinesBy_116 rfl rfl ?_
  refine A_callVe (pc := 117) kX9_304 rfl rfl (c_X9_shinesBy_1 p9 hM c0 (by omega) K1 K2) dX9_shinesBy_117 rfl rfl (Nat.le_of_ble_eq_true rfl) (Nat.le_of_ble_eq_true rfl) (fun υ hυ => ?_)
  refine A_iret (pc := 120) rfl dX9_shinesBy_120 ?_
  exact ⟨rfl, hυ⟩
set_option maxRecDepth 20000 in
theorem c_X9_shinesBy_6 {G : Gl} {d : Nat} {σ : Sg} {p : Nat} (p9 : p < 9) {K a x : Int} {c : Int × (Nat → Int)} (hM : MvM p K a c σ) (c0 : 0 ≤ c.1) (c1 : c.1 ≤ 88) (K1 : 0 ≤ K) (K2 : K < 7)  : CT G (d + 9) yX9_shinesBy cX9_shinesBy 5 (some .int) [.ref (gA G 54), .int (iI (p : Int)), .int (iI 6), .int (iI x)] σ (RE (some (.int (iI (vb12 (p : Int) a K x c).1))) (fun υ => MvM p K a (vb12 (p : Int) a K x c).2 υ ∧ FrT σ υ)) := by
  refine CT.of (by decide +kernel) (Nat.le_of_ble_eq_true rfl) ?_
  change AW G _ RX9 _ _ _ 0 [(0, .ref (gA G 54)), (1, .int (iI (p : Int))), (2, .int (iI 6)), (3, .int (iI x))] [] _ _
  refine A_iload_n (pc := 0) dX9_shinesBy_0 rfl rfl ?_
  refine A_lsw (pc := 1) [(0, 36), (4, 79), (5, 94)] 110 dX9_shinesBy_1 (by decide) (by decide) (by decide) (by omega) (by omega) ?_
  refine ⟨fun h1 => ?_, fun h1n0 => ?_⟩
  · skip
    exfalso; omega
  refine ⟨fun h1 => ?_, fun h1n4 => ?_⟩
  · skip
    exfalso; omega
  refine ⟨fun h1 => ?_, fun h1n5 => ?_⟩
  · skip
    exfalso; omega
  change AW G _ _ _ _ _ 110 _ _ _ _
  refine A_aload_n (pc := 110) dX9_shinesBy_110 rfl rfl ?_
  refine A_iload_n (pc := 111) dX9_shinesBy_111 rfl rfl ?_
  refine A_iload_n (pc := 112) dX9_shinesBy_112 rfl rfl ?_
  refine A_callS1 (pc := 113) kX9_106 (c_X9_above (by decide) (by decide)) dX9_shinesBy_113 rfl rfl (Nat.le_of_ble_eq_true rfl) (Nat.le_of_ble_eq_true rfl) ?_
  rw [show (if (6 : Int) = 3 then (1 : Int) else if (6 : Int) = 5 then 4 else if (6 : Int) = 6 then 2 else 0) = 2 from by decide]
  refine A_iload_n (pc := 116) dX9_shinesBy_116 rfl rfl ?_
  refine A_callVe (pc := 117) kX9_304 rfl rfl (c_X9_shinesBy_2 p9 hM c0 (by omega) K1 K2) dX9_shinesBy_117 rfl rfl (Nat.le_of_ble_eq_true rfl) (Nat.le_of_ble_eq_true rfl) (fun υ hυ => ?_)
  refine A_iret (pc := 120) rfl dX9_shinesBy_120 ?_
  exact ⟨rfl, hυ⟩
theorem c_X9_sis {G : Gl} {d : Nat} {σ : Sg} {k : Int} (k1 : 0 ≤ k) (k2 : k < 7) {p : Nat} (p9 : p < 9) {K a x : Int} {c : Int × (Nat → Int)} (hM : MvM p K a c σ) (c0 : 0 ≤ c.1) (c1 : c.1 ≤ 86) (K1 : 0 ≤ K) (K2 : K < 7) : CT G (d + 9) yX9_shinesBy cX9_shinesBy 5 (some .int) [.ref (gA G 54), .int (iI (p : Int)), .int (iI k), .int (iI x)] σ (RE (some (.int (iI (vSi (p : Int) a K k x c).1))) (fun υ => MvM p K a (vSi (p : Int) a K k x c).2 υ ∧ FrT σ υ)) := by
  have hk : k = 0 ∨ k = 1 ∨ k = 2 ∨ k = 3 ∨ k = 4 ∨ k = 5 ∨ k = 6 := by omega
  rcases hk with rfl | rfl | rfl | rfl | rfl | rfl | rfl
  · exact c_X9_shinesBy_0 (d := d + 2) p9 hM c0 (by omega) K1 K2
  · exact c_X9_shinesBy_1 (d := d + 1) p9 hM c0 (by omega) K1 K2
  · exact c_X9_shinesBy_2 (d := d + 1) p9 hM c0 (by omega) K1 K2
  · exact c_X9_shinesBy_3 (d := d + 0) p9 hM c0 (by omega) K1 K2
  · exact c_X9_shinesBy_4 (d := d + 1) p9 hM c0 (by omega) K1 K2
  · exact c_X9_shinesBy_5 (d := d + 0) p9 hM c0 (by omega) K1 K2
  · exact c_X9_shinesBy_6 (d := d + 0) p9 hM c0 (by omega) K1 K2
theorem SMT : ∀ a, (a = 54 ∨ a = 69) → MC a := fun a h => by unfold MC; omega
theorem dX9_act_0 : decode cX9_act 0 = .ok (.aload_n 0, 1) := by decide +kernel
theorem dX9_act_1 : decode cX9_act 1 = .ok (.iconst 0, 1) := by decide +kernel
theorem dX9_act_2 : decode cX9_act 2 = .ok (.putfield 292, 3) := by decide +kernel
theorem dX9_act_5 : decode cX9_act 5 = .ok (.aload_n 0, 1) := by decide +kernel
theorem dX9_act_6 : decode cX9_act 6 = .ok (.iload_n 1, 1) := by decide +kernel
theorem dX9_act_7 : decode cX9_act 7 = .ok (.invokevirtual 103, 3) := by decide +kernel
theorem dX9_act_10 : decode cX9_act 10 = .ok (.ifCond .eq 12, 3) := by decide +kernel
theorem dX9_act_13 : decode cX9_act 13 = .ok (.iload_n 2, 1) := by decide +kernel
theorem dX9_act_14 : decode cX9_act 14 = .ok (.iconst 0, 1) := by decide +kernel
theorem dX9_act_15 : decode cX9_act 15 = .ok (.iconst 2, 1) := by decide +kernel
theorem dX9_act_16 : decode cX9_act 16 = .ok (.invokestatic 86, 3) := by decide +kernel
theorem dX9_act_19 : decode cX9_act 19 = .ok (.ifCond .ne 5, 3) := by decide +kernel
theorem dX9_act_22 : decode cX9_act 22 = .ok (.iconst 0, 1) := by decide +kernel
theorem dX9_act_23 : decode cX9_act 23 = .ok (.ireturn, 1) := by decide +kernel
theorem dX9_act_24 : decode cX9_act 24 = .ok (.aload_n 0, 1) := by decide +kernel
theorem dX9_act_25 : decode cX9_act 25 = .ok (.getfield 7, 3) := by decide +kernel
theorem dX9_act_28 : decode cX9_act 28 = .ok (.iload_n 1, 1) := by decide +kernel
theorem dX9_act_29 : decode cX9_act 29 = .ok (.iaload, 1) := by decide +kernel
theorem dX9_act_30 : decode cX9_act 30 = .ok (.istore 4, 2) := by decide +kernel
theorem dX9_act_32 : decode cX9_act 32 = .ok (.iload_n 2, 1) := by decide +kernel
theorem dX9_act_33 : decode cX9_act 33 = .ok (.ifCond .ne 14, 3) := by decide +kernel
theorem dX9_act_36 : decode cX9_act 36 = .ok (.aload_n 0, 1) := by decide +kernel
theorem dX9_act_37 : decode cX9_act 37 = .ok (.iload_n 1, 1) := by decide +kernel
theorem dX9_act_38 : decode cX9_act 38 = .ok (.iload 4, 2) := by decide +kernel
theorem dX9_act_40 : decode cX9_act 40 = .ok (.iload_n 3, 1) := by decide +kernel
theorem dX9_act_41 : decode cX9_act 41 = .ok (.invokevirtual 298, 3) := by decide +kernel
theorem dX9_act_44 : decode cX9_act 44 = .ok (.goto 27, 3) := by decide +kernel
theorem dX9_act_47 : decode cX9_act 47 = .ok (.iload_n 2, 1) := by decide +kernel
theorem dX9_act_48 : decode cX9_act 48 = .ok (.iconst 1, 1) := by decide +kernel
theorem dX9_act_49 : decode cX9_act 49 = .ok (.if_icmp .ne 14, 3) := by decide +kernel
theorem dX9_act_52 : decode cX9_act 52 = .ok (.aload_n 0, 1) := by decide +kernel
theorem dX9_act_53 : decode cX9_act 53 = .ok (.iload_n 1, 1) := by decide +kernel
theorem dX9_act_54 : decode cX9_act 54 = .ok (.iload 4, 2) := by decide +kernel
theorem dX9_act_56 : decode cX9_act 56 = .ok (.iload_n 3, 1) := by decide +kernel
theorem dX9_act_57 : decode cX9_act 57 = .ok (.invokevirtual 301, 3) := by decide +kernel
theorem dX9_act_60 : decode cX9_act 60 = .ok (.goto 11, 3) := by decide +kernel
theorem dX9_act_63 : decode cX9_act 63 = .ok (.aload_n 0, 1) := by decide +kernel
theorem dX9_act_64 : decode cX9_act 64 = .ok (.iload_n 1, 1) := by decide +kernel
theorem dX9_act_65 : decode cX9_act 65 = .ok (.iload 4, 2) := by decide +kernel
theorem dX9_act_67 : decode cX9_act 67 = .ok (.iload_n 3, 1) := by decide +kernel
theorem dX9_act_68 : decode cX9_act 68 = .ok (.invokevirtual 304, 3) := by decide +kernel
theorem dX9_act_71 : decode cX9_act 71 = .ok (.ireturn, 1) := by decide +kernel
set_option maxRecDepth 20000 in
theorem c_X9_act {G : Gl} {d : Nat} {σ : Sg} {Z : Zt} (hZ : RelM Z σ) (hO : OkZ Z) {p : Int} (hp1 : -2147483648 ≤ p) (hp2 : p < 2147483648) {m : Int} (hm1 : -2147483648 ≤ m) (hm2 : m < 2147483648) {x : Int} : CT G (d + 10) yX9_act cX9_act 5 (some .int) [.ref (gA G 54), .int (iI p), .int (iI m), .int (iI x)] σ (RE (some (.int (iI (qAct Z p m x).1))) (fun υ => RelM (qAct Z p m x).2 υ ∧ Fr MC σ υ)) := by
  refine CT.of (by decide +kernel) (Nat.le_of_ble_eq_true rfl) ?_
  change AW G _ RX9 _ _ _ 0 [(0, .ref (gA G 54)), (1, .int (iI p)), (2, .int (iI m)), (3, .int (iI x))] [] _ _
  refine A_aload_n (pc := 0) dX9_act_0 rfl rfl ?_
  refine A_iconst (pc := 1) dX9_act_1 ?_
  refine A_putI (pc := 2) fX9_292 wr_8_20 rfl rfl dX9_act_2 ?_
  have hF1 : FrT σ (uI σ 54 20 0) := ⟨Fr.rf.uI (Or.inl rfl), fun k hk => by rw [uI_at, if_neg (by omega)]⟩
  have hZ1 : RelM (zTrc Z (0, Z.2.2.2.2.2.2)) (uI σ 54 20 0) := hZ.trc hF1 (by rw [uI_at, if_pos ⟨rfl, rfl⟩]) (fun i _ (i2 : (i : Int) < 0) => absurd i2 (by omega))
  have hT := hO.1
  have hT0 : RMt Z.1 (uI σ 54 20 0) := hZ1.1
  have o2 := hT.2.1
  have o3 := hT.2.2.1
  refine A_aload_n (pc := 5) dX9_act_5 rfl rfl ?_
  refine A_iload_n (pc := 6) dX9_act_6 rfl rfl ?_
  refine A_callV1 (pc := 7) kX9_103 rfl rfl (c_X9_isPane hT0 hO.1 hp1 hp2) dX9_act_7 rfl rfl (Nat.le_of_ble_eq_true rfl) (Nat.le_of_ble_eq_true rfl) ?_
  refine A_ifb_eq (pc := 10) 22 dX9_act_10 (by decide) (fun h10 => ?_) (fun h10 => ?_)
  · skip
    refine A_iconst (pc := 22) dX9_act_22 ?_
    refine A_iret (pc := 23) rfl dX9_act_23 ?_
    exact RQM (by unfold qAct; rw [if_neg (by omega)]) hZ1 (hF1.1.mono SMT)
  · skip
    refine A_iload_n (pc := 13) dX9_act_13 rfl rfl ?_
    refine A_iconst (pc := 14) dX9_act_14 ?_
    refine A_iconst (pc := 15) dX9_act_15 ?_
    refine A_callS1 (pc := 16) kX9_86 (c_X9_within (v := m) (a := 0) (b := 2) (by omega) (by omega) (by omega) (by omega) (by omega) (by omega)) dX9_act_16 rfl rfl (Nat.le_of_ble_eq_true rfl) (Nat.le_of_ble_eq_true rfl) ?_
    refine A_ifb_ne (pc := 19) 24 dX9_act_19 (by decide) (fun h19 => ?_) (fun h19 => ?_)
    · skip
      have h10p : 0 ≤ p ∧ p < Z.1.2.1 0 := h10
      obtain ⟨p, rfl⟩ := Int.eq_ofNat_of_zero_le h10p.1
      have hb := hT.2.2.2.2.2.2.2.1 p h10p.2
      have p9 : p < 9 := by omega
      have hM : MvM p (Z.1.2.2 0 p) (Z.1.2.2 1 p) (0, Z.2.2.2.2.2.2) (uI σ 54 20 0) := ⟨by rw [uI_at, if_pos ⟨rfl, rfl⟩], fun i _ (i2 : (i : Int) < 0) => absurd i2 (by omega), hT0.kind h10p.2, hT0.a h10p.2⟩
      refine A_aload_n (pc := 24) dX9_act_24 rfl rfl ?_
      refine A_getR (pc := 25) fX9_7 rfl rfl dX9_act_25 ?_
      refine A_iload_n (pc := 28) dX9_act_28 rfl rfl ?_
      refine A_ialdv (pc := 29) p rfl rfl (by omega) (Nat.le_of_ble_eq_true rfl) hM.2.2.1 dX9_act_29 ?_
      refine A_istore (pc := 30) dX9_act_30 (Nat.le_of_ble_eq_true rfl) ?_
      refine A_iload_n (pc := 32) dX9_act_32 rfl rfl ?_
      refine A_if_ne (pc := 33) 47 dX9_act_33 (by decide) (by omega) (by omega) (fun h33 => ?_) (fun h33 => ?_)
      · skip
        refine A_iload_n (pc := 47) dX9_act_47 rfl rfl ?_
        refine A_iconst (pc := 48) dX9_act_48 ?_
        refine A_icmp_ne (pc := 49) 63 dX9_act_49 (by decide) (by omega) (by omega) (by omega) (by omega) (fun h49 => ?_) (fun h49 => ?_)
        · skip
          refine A_aload_n (pc := 63) dX9_act_63 rfl rfl ?_
          refine A_iload_n (pc := 64) dX9_act_64 rfl rfl ?_
          refine A_iload (pc := 65) dX9_act_65 rfl ?_
          refine A_iload_n (pc := 67) dX9_act_67 rfl rfl ?_
          refine A_callVe (pc := 68) kX9_304 rfl rfl (c_X9_sis (by omega) (by omega) p9 hM (show (0 : Int) ≤ 0 by decide) (show (0 : Int) ≤ 86 by decide) (by omega) (by omega)) dX9_act_68 rfl rfl (Nat.le_of_ble_eq_true rfl) (Nat.le_of_ble_eq_true rfl) (fun υ hυ => ?_)
          refine A_iret (pc := 71) rfl dX9_act_71 ?_
          have ev : vMv (p : Int) (Z.1.2.2 1 p) (Z.1.2.2 0 p) m x (0, Z.2.2.2.2.2.2) = vSi (p : Int) (Z.1.2.2 1 p) (Z.1.2.2 0 p) (Z.1.2.2 0 p) x (0, Z.2.2.2.2.2.2) := by unfold vMv; rw [if_neg (by omega), if_neg (by omega)]
          exact RQM (by unfold qAct; rw [if_pos (by omega), Int.toNat_natCast, ev]) (hZ.trc (hF1.tr hυ.2) hυ.1.1 hυ.1.2.1) ((hF1.tr hυ.2).1.mono SMT)
        · skip
          refine A_aload_n (pc := 52) dX9_act_52 rfl rfl ?_
          refine A_iload_n (pc := 53) dX9_act_53 rfl rfl ?_
          refine A_iload (pc := 54) dX9_act_54 rfl ?_
          refine A_iload_n (pc := 56) dX9_act_56 rfl rfl ?_
          refine A_callVe (pc := 57) kX9_301 rfl rfl (c_X9_shs (by omega) (by omega) p9 hM (show (0 : Int) ≤ 0 by decide) (show (0 : Int) ≤ 95 by decide) (by omega) (by omega)) dX9_act_57 rfl rfl (Nat.le_of_ble_eq_true rfl) (Nat.le_of_ble_eq_true rfl) (fun υ hυ => ?_)
          refine A_goto (pc := 60) 71 dX9_act_60 (by decide) ?_
          refine A_iret (pc := 71) rfl dX9_act_71 ?_
          have ev : vMv (p : Int) (Z.1.2.2 1 p) (Z.1.2.2 0 p) m x (0, Z.2.2.2.2.2.2) = vSh (p : Int) (Z.1.2.2 1 p) (Z.1.2.2 0 p) (Z.1.2.2 0 p) x (0, Z.2.2.2.2.2.2) := by unfold vMv; rw [if_neg (by omega), if_pos (by omega)]
          exact RQM (by unfold qAct; rw [if_pos (by omega), Int.toNat_natCast, ev]) (hZ.trc (hF1.tr hυ.2) hυ.1.1 hυ.1.2.1) ((hF1.tr hυ.2).1.mono SMT)
      · skip
        refine A_aload_n (pc := 36) dX9_act_36 rfl rfl ?_
        refine A_iload_n (pc := 37) dX9_act_37 rfl rfl ?_
        refine A_iload (pc := 38) dX9_act_38 rfl ?_
        refine A_iload_n (pc := 40) dX9_act_40 rfl rfl ?_
        refine A_callVe (pc := 41) kX9_298 rfl rfl (c_X9_ops (by omega) (by omega) p9 hM (show (0 : Int) ≤ 0 by decide) (show (0 : Int) ≤ 98 by decide)) dX9_act_41 rfl rfl (Nat.le_of_ble_eq_true rfl) (Nat.le_of_ble_eq_true rfl) (fun υ hυ => ?_)
        refine A_goto (pc := 44) 71 dX9_act_44 (by decide) ?_
        refine A_iret (pc := 71) rfl dX9_act_71 ?_
        have ev : vMv (p : Int) (Z.1.2.2 1 p) (Z.1.2.2 0 p) m x (0, Z.2.2.2.2.2.2) = vOp (p : Int) (Z.1.2.2 1 p) (Z.1.2.2 0 p) x (0, Z.2.2.2.2.2.2) := by unfold vMv; rw [if_pos (by omega)]
        exact RQM (by unfold qAct; rw [if_pos (by omega), Int.toNat_natCast, ev]) (hZ.trc (hF1.tr hυ.2) hυ.1.1 hυ.1.2.1) ((hF1.tr hυ.2).1.mono SMT)
    · skip
      refine A_iconst (pc := 22) dX9_act_22 ?_
      refine A_iret (pc := 23) rfl dX9_act_23 ?_
      exact RQM (by unfold qAct; rw [if_neg (by omega)]) hZ1 (hF1.1.mono SMT)
