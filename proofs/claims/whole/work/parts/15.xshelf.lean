/-! PART 15: System.arraycopy; WindowsLookedOut: refusals, shelves -/
theorem ac_link : Cond.methodLink RX3 38 arraycopyName ∈ lw_tbl := tb_m 311 (by decide +kernel)
theorem ac_nat : Cond.native arraycopyName ∈ lw_tbl := tb_m 313 (by decide +kernel)
theorem ac_stat : Cond.static arraycopyName ∈ lw_tbl := tb_m 312 (by decide +kernel)
theorem ac_ini : Cond.initialized "java/lang/System" ∈ lw_tbl := tb_m 10 (by decide +kernel)
/-- a stretch of one array of longs copied to another -/
def cpL (σ : Sg) (c0 c1 sp dp n : Nat) : Sg := (σ.1, fun a b => if a = c1 then va_cpy (σ.2 c0) (σ.2 c1) sp dp n b else σ.2 a b)
theorem A_acopyL {G : Gl} {d : Nat} {own : String} {cc : ByteArray} {mL : Nat} {ret : Option FieldType} {pc : Nat} {ls : List (Nat × Value)} {st : List Value} {σ : Sg} {K : Option Value → Sg → Prop} {idx c0 c1 n0 n1 : Nat} {zs zd zn : Int} (sp dp n : Nat) (hl : Cond.methodLink own idx arraycopyName ∈ lw_tbl) (hs0 : shp c0 = .inr (1, n0)) (hs1 : shp c1 = .inr (1, n1)) (e1 : zs = (sp : Int)) (e2 : zd = (dp : Int)) (e3 : zn = (n : Int)) (h4 : sp + n ≤ n0) (h5 : dp + n ≤ n1) (h6 : n0 < 2 ^ 30) (h7 : n1 < 2 ^ 30) (hd : decode cc pc = .ok (.invokestatic idx, 3)) (hr : (st.map fun v => v.category).sum ≤ 8)
    (k : AW G (d + 1) own cc mL ret (pc + 3) ls st (cpL σ c0 c1 sp dp n) K) : AW G (d + 1) own cc mL ret pc ls (.int (iI zn) :: .int (iI zd) :: .ref (gA G c1) :: .int (iI zs) :: .ref (gA G c0) :: st) σ K := by
  subst e1; subst e2; subst e3
  intro p e s m args below meth c' H locs la hC hP hS hL
  have c1s : (nI sp).toNatClampNeg = sp := nI_clamp (by omega)
  have c1d : (nI dp).toNatClampNeg = dp := nI_clamp (by omega)
  have c1n : (nI n).toNatClampNeg = n := nI_clamp (by omega)
  rw [iI_n, iI_n, iI_n]
  have hnf : nativeFrameWords "java/lang/System" "arraycopy" 5 ≤ 60 := by decide
  refine va_copyl (D := gD G) hC.1 hC.2.1 (hC.2.2.1.trans hL.1.symm) hC.hown (hC.hts _ (TW_in hl rfl)) (hC.hts _ (TW_in ac_nat rfl)) (hC.hts _ (TW_in ac_stat rfl)) (hC.hts _ (TW_in ac_ini rfl)) hC.kon.2.1 hP (WS_D hC.kon.1) hS c0 c1 1 1 (WS_l hs0) (WS_l hs1) rfl rfl rfl (nI_pos (by omega)) (nI_pos (by omega)) (nI_pos (by omega)) (by rw [c1s, c1n]; exact h4) (by rw [c1d, c1n]; exact h5) (fun i hi => rfl) (by show 1 ≤ d + 1; omega) (by show _ ≤ 100 * (d + 1); omega) hd (fun H1 l1 hP1 _ hS1 => ?_)
  rw [c1s, c1d, c1n] at hP1
  have hset : (WS G σ).set c1 (gA G c1, .inl (gY G 1, n1, .inr (.inl (va_cpy (σ.2 c0) (σ.2 c1) sp dp n)))) = WS G (cpL σ c0 c1 sp dp n) := by
    refine WS_set ?_ (fun a ha => rfl) (fun a ha => by funext b; simp [cpL, ha])
    rw [EN_a hs1]
    have e : (cpL σ c0 c1 sp dp n).2 c1 = va_cpy (σ.2 c0) (σ.2 c1) sp dp n := by funext b; simp [cpL]
    show (Sum.inl (gY G 1, n1, Sum.inr (Sum.inl ((cpL σ c0 c1 sp dp n).2 c1))) : va_E) = _
    rw [e]
  rw [hset] at hP1
  exact k p e s m args below meth c' H1 l1 la hC hP1 hS1 hL
theorem XC2 : ∀ a, a = 2 → XC a := fun a h => by unfold XC; omega
theorem RQX {q : Int × Zt} {a : Int} {Y : Zt} {σ υ : Sg} (hq : q = (a, Y)) (h : RelX Y υ) (hF : Fr XC σ υ) : RE (some (.int (iI q.1))) (fun υ => RelX q.2 υ ∧ Fr XC σ υ) (some (.int (iI a))) υ := by subst hq; exact ⟨rfl, h, hF⟩
theorem RQM {q : Int × Zt} {a : Int} {Y : Zt} {σ υ : Sg} (hq : q = (a, Y)) (h : RelM Y υ) (hF : Fr MC σ υ) : RE (some (.int (iI q.1))) (fun υ => RelM q.2 υ ∧ Fr MC σ υ) (some (.int (iI a))) υ := by subst hq; exact ⟨rfl, h, hF⟩
theorem SSX {k : Nat} (hk : k < 8) : ∀ a, SS (38 + 2 * k) a → XC a := fun a h => by unfold SS at h; unfold XC; omega
theorem Z_same {Z : Zt} {k : Nat} {hd n : Int} (h1 : Z.2.1.1 k = hd) (h2 : Z.2.1.2.1 k = n) : True := trivial
theorem dX3_takeFrom_0 : decode cX3_takeFrom 0 = .ok (.aload_n 1, 1) := by decide +kernel
theorem dX3_takeFrom_1 : decode cX3_takeFrom 1 = .ok (.iload_n 2, 1) := by decide +kernel
theorem dX3_takeFrom_2 : decode cX3_takeFrom 2 = .ok (.iload 4, 2) := by decide +kernel
theorem dX3_takeFrom_4 : decode cX3_takeFrom 4 = .ok (.invokevirtual 34, 3) := by decide +kernel
theorem dX3_takeFrom_7 : decode cX3_takeFrom 7 = .ok (.ifCond .eq 28, 3) := by decide +kernel
theorem dX3_takeFrom_10 : decode cX3_takeFrom 10 = .ok (.aload_n 0, 1) := by decide +kernel
theorem dX3_takeFrom_11 : decode cX3_takeFrom 11 = .ok (.iload_n 3, 1) := by decide +kernel
theorem dX3_takeFrom_12 : decode cX3_takeFrom 12 = .ok (.iload 4, 2) := by decide +kernel
theorem dX3_takeFrom_14 : decode cX3_takeFrom 14 = .ok (.invokevirtual 34, 3) := by decide +kernel
theorem dX3_takeFrom_17 : decode cX3_takeFrom 17 = .ok (.ifCond .eq 18, 3) := by decide +kernel
theorem dX3_takeFrom_20 : decode cX3_takeFrom 20 = .ok (.aload_n 1, 1) := by decide +kernel
theorem dX3_takeFrom_21 : decode cX3_takeFrom 21 = .ok (.getfield 18, 3) := by decide +kernel
theorem dX3_takeFrom_24 : decode cX3_takeFrom 24 = .ok (.iload_n 2, 1) := by decide +kernel
theorem dX3_takeFrom_25 : decode cX3_takeFrom 25 = .ok (.aload_n 0, 1) := by decide +kernel
theorem dX3_takeFrom_26 : decode cX3_takeFrom 26 = .ok (.getfield 18, 3) := by decide +kernel
theorem dX3_takeFrom_29 : decode cX3_takeFrom 29 = .ok (.iload_n 3, 1) := by decide +kernel
theorem dX3_takeFrom_30 : decode cX3_takeFrom 30 = .ok (.iload 4, 2) := by decide +kernel
theorem dX3_takeFrom_32 : decode cX3_takeFrom 32 = .ok (.invokestatic 38, 3) := by decide +kernel
theorem dX3_takeFrom_35 : decode cX3_takeFrom 35 = .ok (.return_, 1) := by decide +kernel
set_option maxRecDepth 20000 in
theorem c_X3_takeFrom {G : Gl} {d : Nat} {σ : Sg} {c c2 : Nat} (hS : SC c) (hS2 : SC c2) {hd n hd2 n2 : Int} {el el2 : Nat → Int64} (hR : RS c hd n el σ) (hR2 : RS c2 hd2 n2 el2 σ) (hO : OkH hd n) (hO2 : OkH hd2 n2) {i j k : Nat} (h1 : (i : Int) + k ≤ n2) (h2 : (j : Int) + k ≤ n) : CT G (d + 1) yX3_takeFrom cX3_takeFrom 5 none [.ref (gA G c), .ref (gA G c2), .int (iI (i : Int)), .int (iI (j : Int)), .int (iI (k : Int))] σ (R0 (cpL σ (c2 + 1) (c + 1) i j k)) := by
  refine CT.of (by decide +kernel) (Nat.le_of_ble_eq_true rfl) ?_
  change AW G _ RX3 _ _ _ 0 [(0, .ref (gA G c)), (1, .ref (gA G c2)), (2, .int (iI (i : Int))), (3, .int (iI (j : Int))), (4, .int (iI (k : Int)))] [] _ _
  have q1 := hO.2.2.2
  have q2 := hO2.2.2.2
  refine A_aload_n (pc := 0) dX3_takeFrom_0 rfl rfl ?_
  refine A_iload_n (pc := 1) dX3_takeFrom_1 rfl rfl ?_
  refine A_iload (pc := 2) dX3_takeFrom_2 rfl ?_
  refine A_callV1 (pc := 4) kX3_34 (shp_S hS2) rfl (c_X3_hasElements hS2 hR2 hO2 (by omega) (by omega) (by omega) (by omega)) dX3_takeFrom_4 rfl rfl (Nat.le_of_ble_eq_true rfl) (Nat.le_of_ble_eq_true rfl) ?_
  refine A_ifb_eq (pc := 7) 35 dX3_takeFrom_7 (by decide) (fun h7 => ?_) (fun h7 => ?_)
  · skip
    refine A_vret (pc := 35) rfl dX3_takeFrom_35 ?_
    exact absurd ⟨by omega, by omega, h1⟩ h7
  · skip
    refine A_aload_n (pc := 10) dX3_takeFrom_10 rfl rfl ?_
    refine A_iload_n (pc := 11) dX3_takeFrom_11 rfl rfl ?_
    refine A_iload (pc := 12) dX3_takeFrom_12 rfl ?_
    refine A_callV1 (pc := 14) kX3_34 (shp_S hS) rfl (c_X3_hasElements hS hR hO (by omega) (by omega) (by omega) (by omega)) dX3_takeFrom_14 rfl rfl (Nat.le_of_ble_eq_true rfl) (Nat.le_of_ble_eq_true rfl) ?_
    refine A_ifb_eq (pc := 17) 35 dX3_takeFrom_17 (by decide) (fun h17 => ?_) (fun h17 => ?_)
    · skip
      refine A_vret (pc := 35) rfl dX3_takeFrom_35 ?_
      exact absurd ⟨by omega, by omega, h2⟩ h17
    · skip
      refine A_aload_n (pc := 20) dX3_takeFrom_20 rfl rfl ?_
      refine A_getR (pc := 21) fX3_18 (shp_S hS2) rfl dX3_takeFrom_21 ?_
      refine A_iload_n (pc := 24) dX3_takeFrom_24 rfl rfl ?_
      refine A_aload_n (pc := 25) dX3_takeFrom_25 rfl rfl ?_
      refine A_getR (pc := 26) fX3_18 (shp_S hS) rfl dX3_takeFrom_26 ?_
      refine A_iload_n (pc := 29) dX3_takeFrom_29 rfl rfl ?_
      refine A_iload (pc := 30) dX3_takeFrom_30 rfl ?_
      refine A_acopyL (pc := 32) i j k ac_link (shp_S_elements hS2) (shp_S_elements hS) rfl rfl rfl (by omega) (by omega) (by decide) (by decide) dX3_takeFrom_32 (Nat.le_of_ble_eq_true rfl) ?_
      refine A_vret (pc := 35) rfl dX3_takeFrom_35 ?_
      exact ⟨rfl, rfl⟩
theorem dX8_refuse_0 : decode cX8_refuse 0 = .ok (.iload_n 1, 1) := by decide +kernel
theorem dX8_refuse_1 : decode cX8_refuse 1 = .ok (.ineg, 1) := by decide +kernel
theorem dX8_refuse_2 : decode cX8_refuse 2 = .ok (.istore_n 2, 1) := by decide +kernel
theorem dX8_refuse_3 : decode cX8_refuse 3 = .ok (.iload_n 2, 1) := by decide +kernel
theorem dX8_refuse_4 : decode cX8_refuse 4 = .ok (.ifCond .lt 22, 3) := by decide +kernel
theorem dX8_refuse_7 : decode cX8_refuse 7 = .ok (.iload_n 2, 1) := by decide +kernel
theorem dX8_refuse_8 : decode cX8_refuse 8 = .ok (.aload_n 0, 1) := by decide +kernel
theorem dX8_refuse_9 : decode cX8_refuse 9 = .ok (.getfield 29, 3) := by decide +kernel
theorem dX8_refuse_12 : decode cX8_refuse 12 = .ok (.arraylength, 1) := by decide +kernel
theorem dX8_refuse_13 : decode cX8_refuse 13 = .ok (.if_icmp .ge 13, 3) := by decide +kernel
theorem dX8_refuse_16 : decode cX8_refuse 16 = .ok (.aload_n 0, 1) := by decide +kernel
theorem dX8_refuse_17 : decode cX8_refuse 17 = .ok (.getfield 29, 3) := by decide +kernel
theorem dX8_refuse_20 : decode cX8_refuse 20 = .ok (.iload_n 2, 1) := by decide +kernel
theorem dX8_refuse_21 : decode cX8_refuse 21 = .ok (.dup2, 1) := by decide +kernel
theorem dX8_refuse_22 : decode cX8_refuse 22 = .ok (.iaload, 1) := by decide +kernel
theorem dX8_refuse_23 : decode cX8_refuse 23 = .ok (.iconst 1, 1) := by decide +kernel
theorem dX8_refuse_24 : decode cX8_refuse 24 = .ok (.iadd, 1) := by decide +kernel
theorem dX8_refuse_25 : decode cX8_refuse 25 = .ok (.iastore, 1) := by decide +kernel
theorem dX8_refuse_26 : decode cX8_refuse 26 = .ok (.iload_n 1, 1) := by decide +kernel
theorem dX8_refuse_27 : decode cX8_refuse 27 = .ok (.ireturn, 1) := by decide +kernel
set_option maxRecDepth 20000 in
theorem c_X8_refuse {G : Gl} {d : Nat} {σ : Sg} {Z : Zt} (hZ : RelX Z σ) (hO : OkZ Z) {t : Int} (t1 : -7 ≤ t) (t2 : t ≤ -1) : CT G d yX8_refuse cX8_refuse 3 (some .int) [.ref (gA G 0), .int (iI t)] σ (RE (some (.int (iI t))) (fun υ => RelX (zRef Z (-t).toNat) υ ∧ Fr (fun a => a = 2) σ υ)) := by
  refine CT.of (by decide +kernel) (Nat.le_of_ble_eq_true rfl) ?_
  change AW G _ RX8 _ _ _ 0 [(0, .ref (gA G 0)), (1, .int (iI t))] [] _ _
  refine A_iload_n (pc := 0) dX8_refuse_0 rfl rfl ?_
  refine A_ineg (pc := 1) dX8_refuse_1 ?_
  refine A_istore_n (pc := 2) dX8_refuse_2 rfl (Nat.le_of_ble_eq_true rfl) ?_
  refine A_iload_n (pc := 3) dX8_refuse_3 rfl rfl ?_
  refine A_if_lt (pc := 4) 26 dX8_refuse_4 (by decide) (by omega) (by omega) (fun h4 => ?_) (fun h4 => ?_)
  · skip
    refine A_iload_n (pc := 26) dX8_refuse_26 rfl rfl ?_
    refine A_iret (pc := 27) rfl dX8_refuse_27 ?_
    exfalso; omega
  · skip
    refine A_iload_n (pc := 7) dX8_refuse_7 rfl rfl ?_
    refine A_aload_n (pc := 8) dX8_refuse_8 rfl rfl ?_
    refine A_getR (pc := 9) fX8_29 rfl rfl dX8_refuse_9 ?_
    refine A_alen (pc := 12) rfl dX8_refuse_12 ?_
    refine A_icmp_ge (pc := 13) 26 dX8_refuse_13 (by decide) (by omega) (by omega) (by omega) (by omega) (fun h13 => ?_) (fun h13 => ?_)
    · skip
      refine A_iload_n (pc := 26) dX8_refuse_26 rfl rfl ?_
      refine A_iret (pc := 27) rfl dX8_refuse_27 ?_
      exfalso; omega
    · skip
      refine A_aload_n (pc := 16) dX8_refuse_16 rfl rfl ?_
      refine A_getR (pc := 17) fX8_29 rfl rfl dX8_refuse_17 ?_
      refine A_iload_n (pc := 20) dX8_refuse_20 rfl rfl ?_
      refine A_dup2 (pc := 21) dX8_refuse_21 rfl rfl ?_
      refine A_iald (pc := 22) (-t).toNat rfl (by omega) (by omega) (Nat.le_of_ble_eq_true rfl) dX8_refuse_22 ?_
      refine A_iconst (pc := 23) dX8_refuse_23 ?_
      refine A_iadd (pc := 24) dX8_refuse_24 ?_
      refine A_iast (pc := 25) (-t).toNat rfl (by omega) (by omega) (Nat.le_of_ble_eq_true rfl) dX8_refuse_25 ?_
      refine A_iload_n (pc := 26) dX8_refuse_26 rfl rfl ?_
      refine A_iret (pc := 27) rfl dX8_refuse_27 ?_
      exact ⟨rfl, hZ.ref (by omega) (by omega), Fr.rf.uI rfl⟩
theorem dX8_refuseApart_0 : decode cX8_refuseApart 0 = .ok (.aload_n 0, 1) := by decide +kernel
theorem dX8_refuseApart_1 : decode cX8_refuseApart 1 = .ok (.iload_n 1, 1) := by decide +kernel
theorem dX8_refuseApart_2 : decode cX8_refuseApart 2 = .ok (.invokevirtual 76, 3) := by decide +kernel
theorem dX8_refuseApart_5 : decode cX8_refuseApart 5 = .ok (.bipush 10, 2) := by decide +kernel
theorem dX8_refuseApart_7 : decode cX8_refuseApart 7 = .ok (.isub, 1) := by decide +kernel
theorem dX8_refuseApart_8 : decode cX8_refuseApart 8 = .ok (.ireturn, 1) := by decide +kernel
set_option maxRecDepth 20000 in
theorem c_X8_refuseApart {G : Gl} {d : Nat} {σ : Sg} {Z : Zt} (hZ : RelX Z σ) (hO : OkZ Z) {t : Int} (t1 : -7 ≤ t) (t2 : t ≤ -1) : CT G (d + 1) yX8_refuseApart cX8_refuseApart 2 (some .int) [.ref (gA G 0), .int (iI t)] σ (RE (some (.int (iI (t - 10)))) (fun υ => RelX (zRef Z (-t).toNat) υ ∧ Fr (fun a => a = 2) σ υ)) := by
  refine CT.of (by decide +kernel) (Nat.le_of_ble_eq_true rfl) ?_
  change AW G _ RX8 _ _ _ 0 [(0, .ref (gA G 0)), (1, .int (iI t))] [] _ _
  refine A_aload_n (pc := 0) dX8_refuseApart_0 rfl rfl ?_
  refine A_iload_n (pc := 1) dX8_refuseApart_1 rfl rfl ?_
  refine A_callVe (pc := 2) kX8_76 rfl rfl (c_X8_refuse hZ hO t1 t2) dX8_refuseApart_2 rfl rfl (Nat.le_of_ble_eq_true rfl) (Nat.le_of_ble_eq_true rfl) (fun υ hυ => ?_)
  refine A_bipush (pc := 5) dX8_refuseApart_5 (by decide) ?_
  refine A_isub (pc := 7) dX8_refuseApart_7 ?_
  refine A_iret (pc := 8) rfl dX8_refuseApart_8 ?_
  exact ⟨rfl, hυ⟩
theorem dX8_refusalsOf_0 : decode cX8_refusalsOf 0 = .ok (.iload_n 1, 1) := by decide +kernel
theorem dX8_refusalsOf_1 : decode cX8_refusalsOf 1 = .ok (.iconst 1, 1) := by decide +kernel
theorem dX8_refusalsOf_2 : decode cX8_refusalsOf 2 = .ok (.if_icmp .lt 21, 3) := by decide +kernel
theorem dX8_refusalsOf_5 : decode cX8_refusalsOf 5 = .ok (.iload_n 1, 1) := by decide +kernel
theorem dX8_refusalsOf_6 : decode cX8_refusalsOf 6 = .ok (.aload_n 0, 1) := by decide +kernel
theorem dX8_refusalsOf_7 : decode cX8_refusalsOf 7 = .ok (.getfield 29, 3) := by decide +kernel
theorem dX8_refusalsOf_10 : decode cX8_refusalsOf 10 = .ok (.arraylength, 1) := by decide +kernel
theorem dX8_refusalsOf_11 : decode cX8_refusalsOf 11 = .ok (.if_icmp .ge 12, 3) := by decide +kernel
theorem dX8_refusalsOf_14 : decode cX8_refusalsOf 14 = .ok (.aload_n 0, 1) := by decide +kernel
theorem dX8_refusalsOf_15 : decode cX8_refusalsOf 15 = .ok (.getfield 29, 3) := by decide +kernel
theorem dX8_refusalsOf_18 : decode cX8_refusalsOf 18 = .ok (.iload_n 1, 1) := by decide +kernel
theorem dX8_refusalsOf_19 : decode cX8_refusalsOf 19 = .ok (.iaload, 1) := by decide +kernel
theorem dX8_refusalsOf_20 : decode cX8_refusalsOf 20 = .ok (.goto 4, 3) := by decide +kernel
theorem dX8_refusalsOf_23 : decode cX8_refusalsOf 23 = .ok (.iconst (-1), 1) := by decide +kernel
theorem dX8_refusalsOf_24 : decode cX8_refusalsOf 24 = .ok (.ireturn, 1) := by decide +kernel
set_option maxRecDepth 20000 in
theorem c_X8_refusalsOf {G : Gl} {d : Nat} {σ : Sg} {Z : Zt} (hZ : RelX Z σ) (hO : OkZ Z) {i : Int} (hi1 : -2147483648 ≤ i) (hi2 : i < 2147483648) : CT G d yX8_refusalsOf cX8_refusalsOf 2 (some .int) [.ref (gA G 0), .int (iI i)] σ (R1 (.int (iI (if 1 ≤ i ∧ i < 8 then Z.2.2.2.1 i.toNat else -1))) σ) := by
  refine CT.of (by decide +kernel) (Nat.le_of_ble_eq_true rfl) ?_
  change AW G _ RX8 _ _ _ 0 [(0, .ref (gA G 0)), (1, .int (iI i))] [] _ _
  refine A_iload_n (pc := 0) dX8_refusalsOf_0 rfl rfl ?_
  refine A_iconst (pc := 1) dX8_refusalsOf_1 ?_
  refine A_icmp_lt (pc := 2) 23 dX8_refusalsOf_2 (by decide) (by omega) (by omega) (by omega) (by omega) (fun h2 => ?_) (fun h2 => ?_)
  · skip
    refine A_iconst (pc := 23) dX8_refusalsOf_23 ?_
    refine A_iret (pc := 24) rfl dX8_refusalsOf_24 ?_
    exact R1_e (by rw [if_neg (by omega)])
  · skip
    refine A_iload_n (pc := 5) dX8_refusalsOf_5 rfl rfl ?_
    refine A_aload_n (pc := 6) dX8_refusalsOf_6 rfl rfl ?_
    refine A_getR (pc := 7) fX8_29 rfl rfl dX8_refusalsOf_7 ?_
    refine A_alen (pc := 10) rfl dX8_refusalsOf_10 ?_
    refine A_icmp_ge (pc := 11) 23 dX8_refusalsOf_11 (by decide) (by omega) (by omega) (by omega) (by omega) (fun h11 => ?_) (fun h11 => ?_)
    · skip
      refine A_iconst (pc := 23) dX8_refusalsOf_23 ?_
      refine A_iret (pc := 24) rfl dX8_refusalsOf_24 ?_
      exact R1_e (by rw [if_neg (by omega)])
    · skip
      obtain ⟨k, rfl⟩ := Int.eq_ofNat_of_zero_le (show 0 ≤ i by omega)
      refine A_aload_n (pc := 14) dX8_refusalsOf_14 rfl rfl ?_
      refine A_getR (pc := 15) fX8_29 rfl rfl dX8_refusalsOf_15 ?_
      refine A_iload_n (pc := 18) dX8_refusalsOf_18 rfl rfl ?_
      refine A_ialdv (pc := 19) _ rfl rfl (by omega) (Nat.le_of_ble_eq_true rfl) (hZ.2.2.2.1 _ (by omega) (by omega)) dX8_refusalsOf_19 ?_
      refine A_goto (pc := 20) 24 dX8_refusalsOf_20 (by decide) ?_
      refine A_iret (pc := 24) rfl dX8_refusalsOf_24 ?_
      exact R1_e (by rw [if_pos (by omega)]; rfl)
theorem dX8_rowTrouble_0 : decode cX8_rowTrouble 0 = .ok (.iload_n 1, 1) := by decide +kernel
theorem dX8_rowTrouble_1 : decode cX8_rowTrouble 1 = .ok (.invokestatic 72, 3) := by decide +kernel
theorem dX8_rowTrouble_4 : decode cX8_rowTrouble 4 = .ok (.ifCond .ne 5, 3) := by decide +kernel
theorem dX8_rowTrouble_7 : decode cX8_rowTrouble 7 = .ok (.iconst (-1), 1) := by decide +kernel
theorem dX8_rowTrouble_8 : decode cX8_rowTrouble 8 = .ok (.ireturn, 1) := by decide +kernel
theorem dX8_rowTrouble_9 : decode cX8_rowTrouble 9 = .ok (.aload_n 0, 1) := by decide +kernel
theorem dX8_rowTrouble_10 : decode cX8_rowTrouble 10 = .ok (.getfield 25, 3) := by decide +kernel
theorem dX8_rowTrouble_13 : decode cX8_rowTrouble 13 = .ok (.iload_n 1, 1) := by decide +kernel
theorem dX8_rowTrouble_14 : decode cX8_rowTrouble 14 = .ok (.aaload, 1) := by decide +kernel
theorem dX8_rowTrouble_15 : decode cX8_rowTrouble 15 = .ok (.invokevirtual 363, 3) := by decide +kernel
theorem dX8_rowTrouble_18 : decode cX8_rowTrouble 18 = .ok (.ifCond .eq 6, 3) := by decide +kernel
theorem dX8_rowTrouble_21 : decode cX8_rowTrouble 21 = .ok (.bipush (-2), 2) := by decide +kernel
theorem dX8_rowTrouble_23 : decode cX8_rowTrouble 23 = .ok (.ireturn, 1) := by decide +kernel
theorem dX8_rowTrouble_24 : decode cX8_rowTrouble 24 = .ok (.aload_n 0, 1) := by decide +kernel
theorem dX8_rowTrouble_25 : decode cX8_rowTrouble 25 = .ok (.getfield 25, 3) := by decide +kernel
theorem dX8_rowTrouble_28 : decode cX8_rowTrouble 28 = .ok (.iload_n 1, 1) := by decide +kernel
theorem dX8_rowTrouble_29 : decode cX8_rowTrouble 29 = .ok (.aaload, 1) := by decide +kernel
theorem dX8_rowTrouble_30 : decode cX8_rowTrouble 30 = .ok (.invokevirtual 123, 3) := by decide +kernel
theorem dX8_rowTrouble_33 : decode cX8_rowTrouble 33 = .ok (.ifCond .eq 7, 3) := by decide +kernel
theorem dX8_rowTrouble_36 : decode cX8_rowTrouble 36 = .ok (.iconst 0, 1) := by decide +kernel
theorem dX8_rowTrouble_37 : decode cX8_rowTrouble 37 = .ok (.goto 5, 3) := by decide +kernel
theorem dX8_rowTrouble_40 : decode cX8_rowTrouble 40 = .ok (.bipush (-3), 2) := by decide +kernel
theorem dX8_rowTrouble_42 : decode cX8_rowTrouble 42 = .ok (.ireturn, 1) := by decide +kernel
set_option maxRecDepth 20000 in
theorem c_X8_rowTrouble {G : Gl} {d : Nat} {σ : Sg} {Z : Zt} (hZ : RelX Z σ) (hO : OkZ Z) {s : Int} (hs1 : -2147483648 ≤ s) (hs2 : s < 2147483648) : CT G (d + 1) yX8_rowTrouble cX8_rowTrouble 2 (some .int) [.ref (gA G 0), .int (iI s)] σ (R1 (.int (iI (rowT Z s))) σ) := by
  refine CT.of (by decide +kernel) (Nat.le_of_ble_eq_true rfl) ?_
  change AW G _ RX8 _ _ _ 0 [(0, .ref (gA G 0)), (1, .int (iI s))] [] _ _
  refine A_iload_n (pc := 0) dX8_rowTrouble_0 rfl rfl ?_
  refine A_callS1 (pc := 1) kX8_72 (c_X8_isShelf hs1 hs2) dX8_rowTrouble_1 rfl rfl (Nat.le_of_ble_eq_true rfl) (Nat.le_of_ble_eq_true rfl) ?_
  refine A_ifb_ne (pc := 4) 9 dX8_rowTrouble_4 (by decide) (fun h4 => ?_) (fun h4 => ?_)
  · skip
    obtain ⟨k, rfl⟩ := Int.eq_ofNat_of_zero_le (show 0 ≤ s by omega)
    have k8 : k < 8 := by omega
    have ks := hZ.2.1 k k8
    have ko := hO.2.1 k k8
    refine A_aload_n (pc := 9) dX8_rowTrouble_9 rfl rfl ?_
    refine A_getR (pc := 10) fX8_25 rfl rfl dX8_rowTrouble_10 ?_
    refine A_iload_n (pc := 13) dX8_rowTrouble_13 rfl rfl ?_
    refine A_aald (pc := 14) _ rfl rfl (by omega) (Nat.le_of_ble_eq_true rfl) dX8_rowTrouble_14 ?_
    refine A_callV1 (pc := 15) kX8_363 (shp_S (SCk (by omega))) rfl (c_X3_isPane (SCk k8) ks ko.1) dX8_rowTrouble_15 rfl rfl (Nat.le_of_ble_eq_true rfl) (Nat.le_of_ble_eq_true rfl) ?_
    refine A_ifb_eq (pc := 18) 24 dX8_rowTrouble_18 (by decide) (fun h18 => ?_) (fun h18 => ?_)
    · skip
      refine A_aload_n (pc := 24) dX8_rowTrouble_24 rfl rfl ?_
      refine A_getR (pc := 25) fX8_25 rfl rfl dX8_rowTrouble_25 ?_
      refine A_iload_n (pc := 28) dX8_rowTrouble_28 rfl rfl ?_
      refine A_aald (pc := 29) _ rfl rfl (by omega) (Nat.le_of_ble_eq_true rfl) dX8_rowTrouble_29 ?_
      refine A_callV1 (pc := 30) kX8_123 (shp_S (SCk (by omega))) rfl (c_X3_isRow (SCk k8) ks ko.1) dX8_rowTrouble_30 rfl rfl (Nat.le_of_ble_eq_true rfl) (Nat.le_of_ble_eq_true rfl) ?_
      refine A_ifb_eq (pc := 33) 40 dX8_rowTrouble_33 (by decide) (fun h33 => ?_) (fun h33 => ?_)
      · skip
        refine A_bipush (pc := 40) dX8_rowTrouble_40 (by decide) ?_
        refine A_iret (pc := 42) rfl dX8_rowTrouble_42 ?_
        exact R1_e (by unfold rowT; simp only [Int.toNat_natCast]; rw [if_neg (by omega), if_neg (by omega), if_neg (by omega)])
      · skip
        refine A_iconst (pc := 36) dX8_rowTrouble_36 ?_
        refine A_goto (pc := 37) 42 dX8_rowTrouble_37 (by decide) ?_
        refine A_iret (pc := 42) rfl dX8_rowTrouble_42 ?_
        exact R1_e (by unfold rowT; simp only [Int.toNat_natCast]; rw [if_neg (by omega), if_neg (by omega), if_pos (by omega)])
    · skip
      refine A_bipush (pc := 21) dX8_rowTrouble_21 (by decide) ?_
      refine A_iret (pc := 23) rfl dX8_rowTrouble_23 ?_
      exact R1_e (by unfold rowT; simp only [Int.toNat_natCast]; rw [if_neg (by omega), if_pos (by omega)])
  · skip
    refine A_iconst (pc := 7) dX8_rowTrouble_7 ?_
    refine A_iret (pc := 8) rfl dX8_rowTrouble_8 ?_
    exact R1_e (by unfold rowT; rw [if_pos h4])
theorem dX8_row_0 : decode cX8_row 0 = .ok (.iload_n 1, 1) := by decide +kernel
theorem dX8_row_1 : decode cX8_row 1 = .ok (.invokestatic 72, 3) := by decide +kernel
theorem dX8_row_4 : decode cX8_row 4 = .ok (.ifCond .ne 9, 3) := by decide +kernel
theorem dX8_row_7 : decode cX8_row 7 = .ok (.aload_n 0, 1) := by decide +kernel
theorem dX8_row_8 : decode cX8_row 8 = .ok (.iconst (-1), 1) := by decide +kernel
theorem dX8_row_9 : decode cX8_row 9 = .ok (.invokevirtual 76, 3) := by decide +kernel
theorem dX8_row_12 : decode cX8_row 12 = .ok (.ireturn, 1) := by decide +kernel
theorem dX8_row_13 : decode cX8_row 13 = .ok (.iload_n 3, 1) := by decide +kernel
theorem dX8_row_14 : decode cX8_row 14 = .ok (.ifCond .ge 10, 3) := by decide +kernel
theorem dX8_row_17 : decode cX8_row 17 = .ok (.aload_n 0, 1) := by decide +kernel
theorem dX8_row_18 : decode cX8_row 18 = .ok (.bipush (-4), 2) := by decide +kernel
theorem dX8_row_20 : decode cX8_row 20 = .ok (.invokevirtual 76, 3) := by decide +kernel
theorem dX8_row_23 : decode cX8_row 23 = .ok (.ireturn, 1) := by decide +kernel
theorem dX8_row_24 : decode cX8_row 24 = .ok (.iload_n 2, 1) := by decide +kernel
theorem dX8_row_25 : decode cX8_row 25 = .ok (.invokestatic 80, 3) := by decide +kernel
theorem dX8_row_28 : decode cX8_row 28 = .ok (.ifCond .ne 10, 3) := by decide +kernel
theorem dX8_row_31 : decode cX8_row 31 = .ok (.aload_n 0, 1) := by decide +kernel
theorem dX8_row_32 : decode cX8_row 32 = .ok (.bipush (-6), 2) := by decide +kernel
theorem dX8_row_34 : decode cX8_row 34 = .ok (.invokevirtual 76, 3) := by decide +kernel
theorem dX8_row_37 : decode cX8_row 37 = .ok (.ireturn, 1) := by decide +kernel
theorem dX8_row_38 : decode cX8_row 38 = .ok (.iload_n 3, 1) := by decide +kernel
theorem dX8_row_39 : decode cX8_row 39 = .ok (.sipush 160, 3) := by decide +kernel
theorem dX8_row_42 : decode cX8_row 42 = .ok (.if_icmp .le 10, 3) := by decide +kernel
theorem dX8_row_45 : decode cX8_row 45 = .ok (.aload_n 0, 1) := by decide +kernel
theorem dX8_row_46 : decode cX8_row 46 = .ok (.bipush (-7), 2) := by decide +kernel
theorem dX8_row_48 : decode cX8_row 48 = .ok (.invokevirtual 76, 3) := by decide +kernel
theorem dX8_row_51 : decode cX8_row 51 = .ok (.ireturn, 1) := by decide +kernel
theorem dX8_row_52 : decode cX8_row 52 = .ok (.aload_n 0, 1) := by decide +kernel
theorem dX8_row_53 : decode cX8_row 53 = .ok (.getfield 25, 3) := by decide +kernel
theorem dX8_row_56 : decode cX8_row 56 = .ok (.iload_n 1, 1) := by decide +kernel
theorem dX8_row_57 : decode cX8_row 57 = .ok (.aaload, 1) := by decide +kernel
theorem dX8_row_58 : decode cX8_row 58 = .ok (.iload_n 2, 1) := by decide +kernel
theorem dX8_row_59 : decode cX8_row 59 = .ok (.iload_n 3, 1) := by decide +kernel
theorem dX8_row_60 : decode cX8_row 60 = .ok (.invokevirtual 83, 3) := by decide +kernel
theorem dX8_row_63 : decode cX8_row 63 = .ok (.iconst 1, 1) := by decide +kernel
theorem dX8_row_64 : decode cX8_row 64 = .ok (.ireturn, 1) := by decide +kernel
set_option maxRecDepth 20000 in
theorem c_X8_row {G : Gl} {d : Nat} {σ : Sg} {Z : Zt} (hZ : RelX Z σ) (hO : OkZ Z) {s : Int} (hs1 : -2147483648 ≤ s) (hs2 : s < 2147483648) {sort : Int} (hsort1 : -2147483648 ≤ sort) (hsort2 : sort < 2147483648) {n : Int} (hn1 : -2147483648 ≤ n) (hn2 : n < 2147483648) : CT G (d + 1) yX8_row cX8_row 4 (some .int) [.ref (gA G 0), .int (iI s), .int (iI sort), .int (iI n)] σ (RE (some (.int (iI (qRow Z s sort n).1))) (fun υ => RelX (qRow Z s sort n).2 υ ∧ Fr XC σ υ)) := by
  refine CT.of (by decide +kernel) (Nat.le_of_ble_eq_true rfl) ?_
  change AW G _ RX8 _ _ _ 0 [(0, .ref (gA G 0)), (1, .int (iI s)), (2, .int (iI sort)), (3, .int (iI n))] [] _ _
  refine A_iload_n (pc := 0) dX8_row_0 rfl rfl ?_
  refine A_callS1 (pc := 1) kX8_72 (c_X8_isShelf hs1 hs2) dX8_row_1 rfl rfl (Nat.le_of_ble_eq_true rfl) (Nat.le_of_ble_eq_true rfl) ?_
  refine A_ifb_ne (pc := 4) 13 dX8_row_4 (by decide) (fun h4 => ?_) (fun h4 => ?_)
  · skip
    refine A_iload_n (pc := 13) dX8_row_13 rfl rfl ?_
    refine A_if_ge (pc := 14) 24 dX8_row_14 (by decide) (by omega) (by omega) (fun h14 => ?_) (fun h14 => ?_)
    · skip
      refine A_iload_n (pc := 24) dX8_row_24 rfl rfl ?_
      refine A_callS1 (pc := 25) kX8_80 (c_X3_isSort hsort1 hsort2) dX8_row_25 rfl rfl (Nat.le_of_ble_eq_true rfl) (Nat.le_of_ble_eq_true rfl) ?_
      refine A_ifb_ne (pc := 28) 38 dX8_row_28 (by decide) (fun h28 => ?_) (fun h28 => ?_)
      · skip
        refine A_iload_n (pc := 38) dX8_row_38 rfl rfl ?_
        refine A_sipush (pc := 39) dX8_row_39 (by decide) ?_
        refine A_icmp_le (pc := 42) 52 dX8_row_42 (by decide) (by omega) (by omega) (by omega) (by omega) (fun h42 => ?_) (fun h42 => ?_)
        · skip
          obtain ⟨k, rfl⟩ := Int.eq_ofNat_of_zero_le (show 0 ≤ s by omega)
          have k8 : k < 8 := by omega
          have ks := hZ.2.1 k k8
          have ko := hO.2.1 k k8
          refine A_aload_n (pc := 52) dX8_row_52 rfl rfl ?_
          refine A_getR (pc := 53) fX8_25 rfl rfl dX8_row_53 ?_
          refine A_iload_n (pc := 56) dX8_row_56 rfl rfl ?_
          refine A_aald (pc := 57) _ rfl rfl (by omega) (Nat.le_of_ble_eq_true rfl) dX8_row_57 ?_
          refine A_iload_n (pc := 58) dX8_row_58 rfl rfl ?_
          refine A_iload_n (pc := 59) dX8_row_59 rfl rfl ?_
          refine A_callVe0 (pc := 60) kX8_83 (shp_S (SCk (by omega))) rfl (c_X3_holdRow (SCk k8)) dX8_row_60 rfl rfl (Nat.le_of_ble_eq_true rfl) (Nat.le_of_ble_eq_true rfl) (fun υ hυ => ?_)
          refine A_iconst (pc := 63) dX8_row_63 ?_
          refine A_iret (pc := 64) rfl dX8_row_64 ?_
          exact RQX (by unfold qRow; rw [if_neg (by omega), if_neg (by omega), if_neg (by omega), if_neg (by omega)]; rfl) (hZ.shelf k8 hυ.1 hυ.2) (hυ.2.mono (SSX k8))
        · skip
          refine A_aload_n (pc := 45) dX8_row_45 rfl rfl ?_
          refine A_bipush (pc := 46) dX8_row_46 (by decide) ?_
          refine A_callVe (pc := 48) kX8_76 rfl rfl (c_X8_refuse hZ hO (t := -7) (by omega) (by omega)) dX8_row_48 rfl rfl (Nat.le_of_ble_eq_true rfl) (Nat.le_of_ble_eq_true rfl) (fun υ hυ => ?_)
          refine A_iret (pc := 51) rfl dX8_row_51 ?_
          exact RQX (by unfold qRow; rw [if_neg (by omega), if_neg (by omega), if_neg (by omega), if_pos (by omega)]; rfl) hυ.1 (hυ.2.mono XC2)
      · skip
        refine A_aload_n (pc := 31) dX8_row_31 rfl rfl ?_
        refine A_bipush (pc := 32) dX8_row_32 (by decide) ?_
        refine A_callVe (pc := 34) kX8_76 rfl rfl (c_X8_refuse hZ hO (t := -6) (by omega) (by omega)) dX8_row_34 rfl rfl (Nat.le_of_ble_eq_true rfl) (Nat.le_of_ble_eq_true rfl) (fun υ hυ => ?_)
        refine A_iret (pc := 37) rfl dX8_row_37 ?_
        exact RQX (by unfold qRow; rw [if_neg (by omega), if_neg (by omega), if_pos (by omega)]; rfl) hυ.1 (hυ.2.mono XC2)
    · skip
      refine A_aload_n (pc := 17) dX8_row_17 rfl rfl ?_
      refine A_bipush (pc := 18) dX8_row_18 (by decide) ?_
      refine A_callVe (pc := 20) kX8_76 rfl rfl (c_X8_refuse hZ hO (t := -4) (by omega) (by omega)) dX8_row_20 rfl rfl (Nat.le_of_ble_eq_true rfl) (Nat.le_of_ble_eq_true rfl) (fun υ hυ => ?_)
      refine A_iret (pc := 23) rfl dX8_row_23 ?_
      exact RQX (by unfold qRow; rw [if_neg (by omega), if_pos (by omega)]; rfl) hυ.1 (hυ.2.mono XC2)
  · skip
    refine A_aload_n (pc := 7) dX8_row_7 rfl rfl ?_
    refine A_iconst (pc := 8) dX8_row_8 ?_
    refine A_callVe (pc := 9) kX8_76 rfl rfl (c_X8_refuse hZ hO (t := -1) (by omega) (by omega)) dX8_row_9 rfl rfl (Nat.le_of_ble_eq_true rfl) (Nat.le_of_ble_eq_true rfl) (fun υ hυ => ?_)
    refine A_iret (pc := 12) rfl dX8_row_12 ?_
    exact RQX (by unfold qRow; rw [if_pos (by omega)]; rfl) hυ.1 (hυ.2.mono XC2)
theorem rowT_rng (Z : Zt) (s : Int) : -3 ≤ rowT Z s ∧ rowT Z s ≤ 0 := by unfold rowT; (repeat' split) <;> omega
theorem rowT_0 {Z : Zt} {s : Int} (h : rowT Z s = 0) : (0 ≤ s ∧ s < 8) ∧ 100 ≤ Z.2.1.1 s.toNat := by
  unfold rowT at h
  by_cases h1 : 0 ≤ s ∧ s < 8
  · rw [if_neg (by omega)] at h
    by_cases h2 : 0 ≤ Z.2.1.1 s.toNat ∧ Z.2.1.1 s.toNat < 100
    · rw [if_pos h2] at h; omega
    · rw [if_neg h2] at h
      by_cases h3 : 100 ≤ Z.2.1.1 s.toNat
      · exact ⟨h1, h3⟩
      · rw [if_neg h3] at h; omega
  · rw [if_pos h1] at h; omega
theorem dX8_set_0 : decode cX8_set 0 = .ok (.aload_n 0, 1) := by decide +kernel
theorem dX8_set_1 : decode cX8_set 1 = .ok (.iload_n 1, 1) := by decide +kernel
theorem dX8_set_2 : decode cX8_set 2 = .ok (.invokevirtual 87, 3) := by decide +kernel
theorem dX8_set_5 : decode cX8_set 5 = .ok (.istore 5, 2) := by decide +kernel
theorem dX8_set_7 : decode cX8_set 7 = .ok (.iload 5, 2) := by decide +kernel
theorem dX8_set_9 : decode cX8_set 9 = .ok (.ifCond .eq 10, 3) := by decide +kernel
theorem dX8_set_12 : decode cX8_set 12 = .ok (.aload_n 0, 1) := by decide +kernel
theorem dX8_set_13 : decode cX8_set 13 = .ok (.iload 5, 2) := by decide +kernel
theorem dX8_set_15 : decode cX8_set 15 = .ok (.invokevirtual 76, 3) := by decide +kernel
theorem dX8_set_18 : decode cX8_set 18 = .ok (.ireturn, 1) := by decide +kernel
theorem dX8_set_19 : decode cX8_set 19 = .ok (.aload_n 0, 1) := by decide +kernel
theorem dX8_set_20 : decode cX8_set 20 = .ok (.getfield 25, 3) := by decide +kernel
theorem dX8_set_23 : decode cX8_set 23 = .ok (.iload_n 1, 1) := by decide +kernel
theorem dX8_set_24 : decode cX8_set 24 = .ok (.aaload, 1) := by decide +kernel
theorem dX8_set_25 : decode cX8_set 25 = .ok (.iload_n 2, 1) := by decide +kernel
theorem dX8_set_26 : decode cX8_set 26 = .ok (.invokevirtual 90, 3) := by decide +kernel
theorem dX8_set_29 : decode cX8_set 29 = .ok (.ifCond .ne 10, 3) := by decide +kernel
theorem dX8_set_32 : decode cX8_set 32 = .ok (.aload_n 0, 1) := by decide +kernel
theorem dX8_set_33 : decode cX8_set 33 = .ok (.bipush (-5), 2) := by decide +kernel
theorem dX8_set_35 : decode cX8_set 35 = .ok (.invokevirtual 76, 3) := by decide +kernel
theorem dX8_set_38 : decode cX8_set 38 = .ok (.ireturn, 1) := by decide +kernel
theorem dX8_set_39 : decode cX8_set 39 = .ok (.aload_n 0, 1) := by decide +kernel
theorem dX8_set_40 : decode cX8_set 40 = .ok (.getfield 25, 3) := by decide +kernel
theorem dX8_set_43 : decode cX8_set 43 = .ok (.iload_n 1, 1) := by decide +kernel
theorem dX8_set_44 : decode cX8_set 44 = .ok (.aaload, 1) := by decide +kernel
theorem dX8_set_45 : decode cX8_set 45 = .ok (.iload_n 2, 1) := by decide +kernel
theorem dX8_set_46 : decode cX8_set 46 = .ok (.lload_n 3, 1) := by decide +kernel
theorem dX8_set_47 : decode cX8_set 47 = .ok (.invokevirtual 93, 3) := by decide +kernel
theorem dX8_set_50 : decode cX8_set 50 = .ok (.iconst 1, 1) := by decide +kernel
theorem dX8_set_51 : decode cX8_set 51 = .ok (.ireturn, 1) := by decide +kernel
set_option maxRecDepth 20000 in
theorem c_X8_set {G : Gl} {d : Nat} {σ : Sg} {Z : Zt} (hZ : RelX Z σ) (hO : OkZ Z) {s : Int} (hs1 : -2147483648 ≤ s) (hs2 : s < 2147483648) {i : Int} (hi1 : -2147483648 ≤ i) (hi2 : i < 2147483648) {v : Int64} : CT G (d + 2) yX8_set cX8_set 6 (some .int) [.ref (gA G 0), .int (iI s), .int (iI i), .long (v)] σ (RE (some (.int (iI (qSet Z s i v).1))) (fun υ => RelX (qSet Z s i v).2 υ ∧ Fr XC σ υ)) := by
  refine CT.of (by decide +kernel) (Nat.le_of_ble_eq_true rfl) ?_
  change AW G _ RX8 _ _ _ 0 [(0, .ref (gA G 0)), (1, .int (iI s)), (2, .int (iI i)), (3, .long (v))] [] _ _
  have hrt := rowT_rng Z s
  refine A_aload_n (pc := 0) dX8_set_0 rfl rfl ?_
  refine A_iload_n (pc := 1) dX8_set_1 rfl rfl ?_
  refine A_callV1 (pc := 2) kX8_87 rfl rfl (c_X8_rowTrouble hZ hO hs1 hs2) dX8_set_2 rfl rfl (Nat.le_of_ble_eq_true rfl) (Nat.le_of_ble_eq_true rfl) ?_
  refine A_istore (pc := 5) dX8_set_5 (Nat.le_of_ble_eq_true rfl) ?_
  refine A_iload (pc := 7) dX8_set_7 rfl ?_
  refine A_if_eq (pc := 9) 19 dX8_set_9 (by decide) (by omega) (by omega) (fun h9 => ?_) (fun h9 => ?_)
  · skip
    obtain ⟨h8, h100⟩ := rowT_0 h9
    obtain ⟨k, rfl⟩ := Int.eq_ofNat_of_zero_le (show 0 ≤ s by omega)
    have k8 : k < 8 := by omega
    have ks := hZ.2.1 k k8
    have ko := hO.2.1 k k8
    simp only [Int.toNat_natCast] at h100
    refine A_aload_n (pc := 19) dX8_set_19 rfl rfl ?_
    refine A_getR (pc := 20) fX8_25 rfl rfl dX8_set_20 ?_
    refine A_iload_n (pc := 23) dX8_set_23 rfl rfl ?_
    refine A_aald (pc := 24) _ rfl rfl (by omega) (Nat.le_of_ble_eq_true rfl) dX8_set_24 ?_
    refine A_iload_n (pc := 25) dX8_set_25 rfl rfl ?_
    refine A_callV1 (pc := 26) kX8_90 (shp_S (SCk (by omega))) rfl (c_X3_hasElement (SCk k8) ks ko.1 hi1 hi2) dX8_set_26 rfl rfl (Nat.le_of_ble_eq_true rfl) (Nat.le_of_ble_eq_true rfl) ?_
    refine A_ifb_ne (pc := 29) 39 dX8_set_29 (by decide) (fun h29 => ?_) (fun h29 => ?_)
    · skip
      obtain ⟨j, rfl⟩ := Int.eq_ofNat_of_zero_le (show 0 ≤ i by omega)
      refine A_aload_n (pc := 39) dX8_set_39 rfl rfl ?_
      refine A_getR (pc := 40) fX8_25 rfl rfl dX8_set_40 ?_
      refine A_iload_n (pc := 43) dX8_set_43 rfl rfl ?_
      refine A_aald (pc := 44) _ rfl rfl (by omega) (Nat.le_of_ble_eq_true rfl) dX8_set_44 ?_
      refine A_iload_n (pc := 45) dX8_set_45 rfl rfl ?_
      refine A_lload_n (pc := 46) dX8_set_46 rfl rfl ?_
      refine A_callV0 (pc := 47) kX8_93 (shp_S (SCk (by omega))) rfl (c_X3_keep (SCk k8) ks ko.1 (k := j) (by omega) h100) dX8_set_47 rfl rfl (Nat.le_of_ble_eq_true rfl) (Nat.le_of_ble_eq_true rfl) ?_
      refine A_iconst (pc := 50) dX8_set_50 ?_
      refine A_iret (pc := 51) rfl dX8_set_51 ?_
      refine RQX (by unfold qSet; rw [if_neg (by omega), if_neg (by simpa using h29)]; rfl) (hZ.shelf k8 (hd := Z.2.1.1 k) (n := Z.2.1.2.1 k) (el := fun x => if x = j then lowB (Z.2.1.1 k - 100) v else Z.2.1.2.2 k x) ?_ (Fr.rf.uL (Or.inr rfl))) ((Fr.rf.uL (Or.inr rfl)).mono (SSX k8))
      refine ⟨ks.1, ks.2.1, fun x hx => ?_⟩
      rw [uL_at]
      show _ = if x = j then lowB (Z.2.1.1 k - 100) v else Z.2.1.2.2 k x
      by_cases e : x = j
      · rw [if_pos ⟨rfl, e⟩, if_pos e]
      · rw [if_neg (fun q => e q.2), if_neg e]; exact ks.2.2 x hx
    · skip
      refine A_aload_n (pc := 32) dX8_set_32 rfl rfl ?_
      refine A_bipush (pc := 33) dX8_set_33 (by decide) ?_
      refine A_callVe (pc := 35) kX8_76 rfl rfl (c_X8_refuse hZ hO (t := -5) (by omega) (by omega)) dX8_set_35 rfl rfl (Nat.le_of_ble_eq_true rfl) (Nat.le_of_ble_eq_true rfl) (fun υ hυ => ?_)
      refine A_iret (pc := 38) rfl dX8_set_38 ?_
      exact RQX (by unfold qSet; rw [if_neg (by omega), if_pos (by simpa using h29)]; rfl) hυ.1 (hυ.2.mono XC2)
  · skip
    refine A_aload_n (pc := 12) dX8_set_12 rfl rfl ?_
    refine A_iload (pc := 13) dX8_set_13 rfl ?_
    refine A_callVe (pc := 15) kX8_76 rfl rfl (c_X8_refuse hZ hO (t := rowT Z s) (by omega) (by omega)) dX8_set_15 rfl rfl (Nat.le_of_ble_eq_true rfl) (Nat.le_of_ble_eq_true rfl) (fun υ hυ => ?_)
    refine A_iret (pc := 18) rfl dX8_set_18 ?_
    exact RQX (by unfold qSet; rw [if_pos h9]; rfl) hυ.1 (hυ.2.mono XC2)
theorem copyT_0 {Z : Zt} {p q i j n : Int} (h : copyT Z p q i j n = 0) : ((0 ≤ p ∧ p < 8) ∧ (0 ≤ q ∧ q < 8)) ∧ 100 ≤ Z.2.1.1 p.toNat ∧ 100 ≤ Z.2.1.1 q.toNat ∧ 0 ≤ n ∧ 0 ≤ i ∧ i + n ≤ Z.2.1.2.1 p.toNat ∧ 0 ≤ j ∧ j + n ≤ Z.2.1.2.1 q.toNat := by
  unfold copyT at h
  (repeat' split at h) <;> omega
theorem copyT_rng (Z : Zt) (p q i j n : Int) : -5 ≤ copyT Z p q i j n ∧ copyT Z p q i j n ≤ 0 := by
  unfold copyT
  (repeat' split) <;> omega
theorem dX8_copyTrouble_0 : decode cX8_copyTrouble 0 = .ok (.iload_n 1, 1) := by decide +kernel
theorem dX8_copyTrouble_1 : decode cX8_copyTrouble 1 = .ok (.invokestatic 72, 3) := by decide +kernel
theorem dX8_copyTrouble_4 : decode cX8_copyTrouble 4 = .ok (.ifCond .eq 10, 3) := by decide +kernel
theorem dX8_copyTrouble_7 : decode cX8_copyTrouble 7 = .ok (.iload_n 2, 1) := by decide +kernel
theorem dX8_copyTrouble_8 : decode cX8_copyTrouble 8 = .ok (.invokestatic 72, 3) := by decide +kernel
theorem dX8_copyTrouble_11 : decode cX8_copyTrouble 11 = .ok (.ifCond .ne 5, 3) := by decide +kernel
theorem dX8_copyTrouble_14 : decode cX8_copyTrouble 14 = .ok (.iconst (-1), 1) := by decide +kernel
theorem dX8_copyTrouble_15 : decode cX8_copyTrouble 15 = .ok (.ireturn, 1) := by decide +kernel
theorem dX8_copyTrouble_16 : decode cX8_copyTrouble 16 = .ok (.aload_n 0, 1) := by decide +kernel
theorem dX8_copyTrouble_17 : decode cX8_copyTrouble 17 = .ok (.getfield 25, 3) := by decide +kernel
theorem dX8_copyTrouble_20 : decode cX8_copyTrouble 20 = .ok (.iload_n 1, 1) := by decide +kernel
theorem dX8_copyTrouble_21 : decode cX8_copyTrouble 21 = .ok (.aaload, 1) := by decide +kernel
theorem dX8_copyTrouble_22 : decode cX8_copyTrouble 22 = .ok (.astore 6, 2) := by decide +kernel
theorem dX8_copyTrouble_24 : decode cX8_copyTrouble 24 = .ok (.aload_n 0, 1) := by decide +kernel
theorem dX8_copyTrouble_25 : decode cX8_copyTrouble 25 = .ok (.getfield 25, 3) := by decide +kernel
theorem dX8_copyTrouble_28 : decode cX8_copyTrouble 28 = .ok (.iload_n 2, 1) := by decide +kernel
theorem dX8_copyTrouble_29 : decode cX8_copyTrouble 29 = .ok (.aaload, 1) := by decide +kernel
theorem dX8_copyTrouble_30 : decode cX8_copyTrouble 30 = .ok (.astore 7, 2) := by decide +kernel
theorem dX8_copyTrouble_32 : decode cX8_copyTrouble 32 = .ok (.aload 6, 2) := by decide +kernel
theorem dX8_copyTrouble_34 : decode cX8_copyTrouble 34 = .ok (.invokevirtual 363, 3) := by decide +kernel
theorem dX8_copyTrouble_37 : decode cX8_copyTrouble 37 = .ok (.ifCond .ne 11, 3) := by decide +kernel
theorem dX8_copyTrouble_40 : decode cX8_copyTrouble 40 = .ok (.aload 7, 2) := by decide +kernel
theorem dX8_copyTrouble_42 : decode cX8_copyTrouble 42 = .ok (.invokevirtual 363, 3) := by decide +kernel
theorem dX8_copyTrouble_45 : decode cX8_copyTrouble 45 = .ok (.ifCond .eq 6, 3) := by decide +kernel
theorem dX8_copyTrouble_48 : decode cX8_copyTrouble 48 = .ok (.bipush (-2), 2) := by decide +kernel
theorem dX8_copyTrouble_50 : decode cX8_copyTrouble 50 = .ok (.ireturn, 1) := by decide +kernel
theorem dX8_copyTrouble_51 : decode cX8_copyTrouble 51 = .ok (.aload 6, 2) := by decide +kernel
theorem dX8_copyTrouble_53 : decode cX8_copyTrouble 53 = .ok (.invokevirtual 123, 3) := by decide +kernel
theorem dX8_copyTrouble_56 : decode cX8_copyTrouble 56 = .ok (.ifCond .eq 27, 3) := by decide +kernel
theorem dX8_copyTrouble_59 : decode cX8_copyTrouble 59 = .ok (.aload 7, 2) := by decide +kernel
theorem dX8_copyTrouble_61 : decode cX8_copyTrouble 61 = .ok (.invokevirtual 123, 3) := by decide +kernel
theorem dX8_copyTrouble_64 : decode cX8_copyTrouble 64 = .ok (.ifCond .eq 19, 3) := by decide +kernel
theorem dX8_copyTrouble_67 : decode cX8_copyTrouble 67 = .ok (.aload 6, 2) := by decide +kernel
theorem dX8_copyTrouble_69 : decode cX8_copyTrouble 69 = .ok (.getfield 116, 3) := by decide +kernel
theorem dX8_copyTrouble_72 : decode cX8_copyTrouble 72 = .ok (.aload 7, 2) := by decide +kernel
theorem dX8_copyTrouble_74 : decode cX8_copyTrouble 74 = .ok (.getfield 116, 3) := by decide +kernel
theorem dX8_copyTrouble_77 : decode cX8_copyTrouble 77 = .ok (.if_icmp .eq 6, 3) := by decide +kernel
theorem dX8_copyTrouble_80 : decode cX8_copyTrouble 80 = .ok (.bipush (-2), 2) := by decide +kernel
theorem dX8_copyTrouble_82 : decode cX8_copyTrouble 82 = .ok (.ireturn, 1) := by decide +kernel
theorem dX8_copyTrouble_83 : decode cX8_copyTrouble 83 = .ok (.aload 6, 2) := by decide +kernel
theorem dX8_copyTrouble_85 : decode cX8_copyTrouble 85 = .ok (.invokevirtual 123, 3) := by decide +kernel
theorem dX8_copyTrouble_88 : decode cX8_copyTrouble 88 = .ok (.ifCond .eq 11, 3) := by decide +kernel
theorem dX8_copyTrouble_91 : decode cX8_copyTrouble 91 = .ok (.aload 7, 2) := by decide +kernel
theorem dX8_copyTrouble_93 : decode cX8_copyTrouble 93 = .ok (.invokevirtual 123, 3) := by decide +kernel
theorem dX8_copyTrouble_96 : decode cX8_copyTrouble 96 = .ok (.ifCond .ne 6, 3) := by decide +kernel
theorem dX8_copyTrouble_99 : decode cX8_copyTrouble 99 = .ok (.bipush (-3), 2) := by decide +kernel
theorem dX8_copyTrouble_101 : decode cX8_copyTrouble 101 = .ok (.ireturn, 1) := by decide +kernel
theorem dX8_copyTrouble_102 : decode cX8_copyTrouble 102 = .ok (.iload 5, 2) := by decide +kernel
theorem dX8_copyTrouble_104 : decode cX8_copyTrouble 104 = .ok (.ifCond .ge 6, 3) := by decide +kernel
theorem dX8_copyTrouble_107 : decode cX8_copyTrouble 107 = .ok (.bipush (-4), 2) := by decide +kernel
theorem dX8_copyTrouble_109 : decode cX8_copyTrouble 109 = .ok (.ireturn, 1) := by decide +kernel
theorem dX8_copyTrouble_110 : decode cX8_copyTrouble 110 = .ok (.aload 6, 2) := by decide +kernel
theorem dX8_copyTrouble_112 : decode cX8_copyTrouble 112 = .ok (.iload_n 3, 1) := by decide +kernel
theorem dX8_copyTrouble_113 : decode cX8_copyTrouble 113 = .ok (.iload 5, 2) := by decide +kernel
theorem dX8_copyTrouble_115 : decode cX8_copyTrouble 115 = .ok (.invokevirtual 377, 3) := by decide +kernel
theorem dX8_copyTrouble_118 : decode cX8_copyTrouble 118 = .ok (.ifCond .eq 19, 3) := by decide +kernel
theorem dX8_copyTrouble_121 : decode cX8_copyTrouble 121 = .ok (.aload 7, 2) := by decide +kernel
theorem dX8_copyTrouble_123 : decode cX8_copyTrouble 123 = .ok (.iload 4, 2) := by decide +kernel
theorem dX8_copyTrouble_125 : decode cX8_copyTrouble 125 = .ok (.iload 5, 2) := by decide +kernel
theorem dX8_copyTrouble_127 : decode cX8_copyTrouble 127 = .ok (.invokevirtual 377, 3) := by decide +kernel
theorem dX8_copyTrouble_130 : decode cX8_copyTrouble 130 = .ok (.ifCond .eq 7, 3) := by decide +kernel
theorem dX8_copyTrouble_133 : decode cX8_copyTrouble 133 = .ok (.iconst 0, 1) := by decide +kernel
theorem dX8_copyTrouble_134 : decode cX8_copyTrouble 134 = .ok (.goto 5, 3) := by decide +kernel
theorem dX8_copyTrouble_137 : decode cX8_copyTrouble 137 = .ok (.bipush (-5), 2) := by decide +kernel
theorem dX8_copyTrouble_139 : decode cX8_copyTrouble 139 = .ok (.ireturn, 1) := by decide +kernel
set_option maxRecDepth 20000 in
theorem c_X8_copyTrouble {G : Gl} {d : Nat} {σ : Sg} {Z : Zt} (hZ : RelX Z σ) (hO : OkZ Z) {p : Int} (hp1 : -2147483648 ≤ p) (hp2 : p < 2147483648) {q : Int} (hq1 : -2147483648 ≤ q) (hq2 : q < 2147483648) {i : Int} (hi1 : -2147483648 ≤ i) (hi2 : i < 2147483648) {j : Int} (hj1 : -2147483648 ≤ j) (hj2 : j < 2147483648) {n : Int} (hn1 : -2147483648 ≤ n) (hn2 : n < 2147483648) : CT G (d + 1) yX8_copyTrouble cX8_copyTrouble 8 (some .int) [.ref (gA G 0), .int (iI p), .int (iI q), .int (iI i), .int (iI j), .int (iI n)] σ (R1 (.int (iI (copyT Z p q i j n))) σ) := by
  refine CT.of (by decide +kernel) (Nat.le_of_ble_eq_true rfl) ?_
  change AW G _ RX8 _ _ _ 0 [(0, .ref (gA G 0)), (1, .int (iI p)), (2, .int (iI q)), (3, .int (iI i)), (4, .int (iI j)), (5, .int (iI n))] [] _ _
  refine A_iload_n (pc := 0) dX8_copyTrouble_0 rfl rfl ?_
  refine A_callS1 (pc := 1) kX8_72 (c_X8_isShelf hp1 hp2) dX8_copyTrouble_1 rfl rfl (Nat.le_of_ble_eq_true rfl) (Nat.le_of_ble_eq_true rfl) ?_
  refine A_ifb_eq (pc := 4) 14 dX8_copyTrouble_4 (by decide) (fun h4 => ?_) (fun h4 => ?_)
  · skip
    refine A_iconst (pc := 14) dX8_copyTrouble_14 ?_
    refine A_iret (pc := 15) rfl dX8_copyTrouble_15 ?_
    exact R1_e (by unfold copyT; (try simp only [Int.toNat_natCast]); (repeat' split) <;> omega)
  · skip
    refine A_iload_n (pc := 7) dX8_copyTrouble_7 rfl rfl ?_
    refine A_callS1 (pc := 8) kX8_72 (c_X8_isShelf hq1 hq2) dX8_copyTrouble_8 rfl rfl (Nat.le_of_ble_eq_true rfl) (Nat.le_of_ble_eq_true rfl) ?_
    refine A_ifb_ne (pc := 11) 16 dX8_copyTrouble_11 (by decide) (fun h11 => ?_) (fun h11 => ?_)
    · skip
      obtain ⟨k, rfl⟩ := Int.eq_ofNat_of_zero_le (show 0 ≤ p by omega)
      have k8 : k < 8 := by omega
      have ks := hZ.2.1 k k8
      have ko := hO.2.1 k k8
      obtain ⟨m, rfl⟩ := Int.eq_ofNat_of_zero_le (show 0 ≤ q by omega)
      have m8 : m < 8 := by omega
      have ms := hZ.2.1 m m8
      have mo := hO.2.1 m m8
      obtain ⟨b1, b2, b3, b4⟩ := ko.1
      obtain ⟨d1, d2, d3, d4⟩ := mo.1
      refine A_aload_n (pc := 16) dX8_copyTrouble_16 rfl rfl ?_
      refine A_getR (pc := 17) fX8_25 rfl rfl dX8_copyTrouble_17 ?_
      refine A_iload_n (pc := 20) dX8_copyTrouble_20 rfl rfl ?_
      refine A_aald (pc := 21) _ rfl rfl (by omega) (Nat.le_of_ble_eq_true rfl) dX8_copyTrouble_21 ?_
      refine A_astore (pc := 22) dX8_copyTrouble_22 (Nat.le_of_ble_eq_true rfl) ?_
      refine A_aload_n (pc := 24) dX8_copyTrouble_24 rfl rfl ?_
      refine A_getR (pc := 25) fX8_25 rfl rfl dX8_copyTrouble_25 ?_
      refine A_iload_n (pc := 28) dX8_copyTrouble_28 rfl rfl ?_
      refine A_aald (pc := 29) _ rfl rfl (by omega) (Nat.le_of_ble_eq_true rfl) dX8_copyTrouble_29 ?_
      refine A_astore (pc := 30) dX8_copyTrouble_30 (Nat.le_of_ble_eq_true rfl) ?_
      refine A_aload (pc := 32) dX8_copyTrouble_32 rfl ?_
      refine A_callV1 (pc := 34) kX8_363 (shp_S (SCk (by omega))) rfl (c_X3_isPane (SCk k8) ks ko.1) dX8_copyTrouble_34 rfl rfl (Nat.le_of_ble_eq_true rfl) (Nat.le_of_ble_eq_true rfl) ?_
      refine A_ifb_ne (pc := 37) 48 dX8_copyTrouble_37 (by decide) (fun h37 => ?_) (fun h37 => ?_)
      · skip
        refine A_bipush (pc := 48) dX8_copyTrouble_48 (by decide) ?_
        refine A_iret (pc := 50) rfl dX8_copyTrouble_50 ?_
        exact R1_e (by unfold copyT; (try simp only [Int.toNat_natCast]); (repeat' split) <;> omega)
      · skip
        refine A_aload (pc := 40) dX8_copyTrouble_40 rfl ?_
        refine A_callV1 (pc := 42) kX8_363 (shp_S (SCk (by omega))) rfl (c_X3_isPane (SCk m8) ms mo.1) dX8_copyTrouble_42 rfl rfl (Nat.le_of_ble_eq_true rfl) (Nat.le_of_ble_eq_true rfl) ?_
        refine A_ifb_eq (pc := 45) 51 dX8_copyTrouble_45 (by decide) (fun h45 => ?_) (fun h45 => ?_)
        · skip
          refine A_aload (pc := 51) dX8_copyTrouble_51 rfl ?_
          refine A_callV1 (pc := 53) kX8_123 (shp_S (SCk (by omega))) rfl (c_X3_isRow (SCk k8) ks ko.1) dX8_copyTrouble_53 rfl rfl (Nat.le_of_ble_eq_true rfl) (Nat.le_of_ble_eq_true rfl) ?_
          refine A_ifb_eq (pc := 56) 83 dX8_copyTrouble_56 (by decide) (fun h56 => ?_) (fun h56 => ?_)
          · skip
            refine A_aload (pc := 83) dX8_copyTrouble_83 rfl ?_
            refine A_callV1 (pc := 85) kX8_123 (shp_S (SCk (by omega))) rfl (c_X3_isRow (SCk k8) ks ko.1) dX8_copyTrouble_85 rfl rfl (Nat.le_of_ble_eq_true rfl) (Nat.le_of_ble_eq_true rfl) ?_
            refine A_ifb_eq (pc := 88) 99 dX8_copyTrouble_88 (by decide) (fun h88 => ?_) (fun h88 => ?_)
            · skip
              refine A_bipush (pc := 99) dX8_copyTrouble_99 (by decide) ?_
              refine A_iret (pc := 101) rfl dX8_copyTrouble_101 ?_
              exact R1_e (by unfold copyT; (try simp only [Int.toNat_natCast]); (repeat' split) <;> omega)
            · skip
              refine A_aload (pc := 91) dX8_copyTrouble_91 rfl ?_
              refine A_callV1 (pc := 93) kX8_123 (shp_S (SCk (by omega))) rfl (c_X3_isRow (SCk m8) ms mo.1) dX8_copyTrouble_93 rfl rfl (Nat.le_of_ble_eq_true rfl) (Nat.le_of_ble_eq_true rfl) ?_
              refine A_ifb_ne (pc := 96) 102 dX8_copyTrouble_96 (by decide) (fun h96 => ?_) (fun h96 => ?_)
              · skip
                refine A_iload (pc := 102) dX8_copyTrouble_102 rfl ?_
                refine A_if_ge (pc := 104) 110 dX8_copyTrouble_104 (by decide) (by omega) (by omega) (fun h104 => ?_) (fun h104 => ?_)
                · skip
                  refine A_aload (pc := 110) dX8_copyTrouble_110 rfl ?_
                  refine A_iload_n (pc := 112) dX8_copyTrouble_112 rfl rfl ?_
                  refine A_iload (pc := 113) dX8_copyTrouble_113 rfl ?_
                  refine A_callV1 (pc := 115) kX8_377 (shp_S (SCk (by omega))) rfl (c_X3_hasElements (SCk k8) ks ko.1 hi1 hi2 hn1 hn2) dX8_copyTrouble_115 rfl rfl (Nat.le_of_ble_eq_true rfl) (Nat.le_of_ble_eq_true rfl) ?_
                  refine A_ifb_eq (pc := 118) 137 dX8_copyTrouble_118 (by decide) (fun h118 => ?_) (fun h118 => ?_)
                  · skip
                    refine A_bipush (pc := 137) dX8_copyTrouble_137 (by decide) ?_
                    refine A_iret (pc := 139) rfl dX8_copyTrouble_139 ?_
                    exact R1_e (by unfold copyT; (try simp only [Int.toNat_natCast]); (repeat' split) <;> omega)
                  · skip
                    refine A_aload (pc := 121) dX8_copyTrouble_121 rfl ?_
                    refine A_iload (pc := 123) dX8_copyTrouble_123 rfl ?_
                    refine A_iload (pc := 125) dX8_copyTrouble_125 rfl ?_
                    refine A_callV1 (pc := 127) kX8_377 (shp_S (SCk (by omega))) rfl (c_X3_hasElements (SCk m8) ms mo.1 hj1 hj2 hn1 hn2) dX8_copyTrouble_127 rfl rfl (Nat.le_of_ble_eq_true rfl) (Nat.le_of_ble_eq_true rfl) ?_
                    refine A_ifb_eq (pc := 130) 137 dX8_copyTrouble_130 (by decide) (fun h130 => ?_) (fun h130 => ?_)
                    · skip
                      refine A_bipush (pc := 137) dX8_copyTrouble_137 (by decide) ?_
                      refine A_iret (pc := 139) rfl dX8_copyTrouble_139 ?_
                      exact R1_e (by unfold copyT; (try simp only [Int.toNat_natCast]); (repeat' split) <;> omega)
                    · skip
                      refine A_iconst (pc := 133) dX8_copyTrouble_133 ?_
                      refine A_goto (pc := 134) 139 dX8_copyTrouble_134 (by decide) ?_
                      refine A_iret (pc := 139) rfl dX8_copyTrouble_139 ?_
                      exact R1_e (by unfold copyT; (try simp only [Int.toNat_natCast]); (repeat' split) <;> omega)
                · skip
                  refine A_bipush (pc := 107) dX8_copyTrouble_107 (by decide) ?_
                  refine A_iret (pc := 109) rfl dX8_copyTrouble_109 ?_
                  exact R1_e (by unfold copyT; (try simp only [Int.toNat_natCast]); (repeat' split) <;> omega)
              · skip
                refine A_bipush (pc := 99) dX8_copyTrouble_99 (by decide) ?_
                refine A_iret (pc := 101) rfl dX8_copyTrouble_101 ?_
                exact R1_e (by unfold copyT; (try simp only [Int.toNat_natCast]); (repeat' split) <;> omega)
          · skip
            refine A_aload (pc := 59) dX8_copyTrouble_59 rfl ?_
            refine A_callV1 (pc := 61) kX8_123 (shp_S (SCk (by omega))) rfl (c_X3_isRow (SCk m8) ms mo.1) dX8_copyTrouble_61 rfl rfl (Nat.le_of_ble_eq_true rfl) (Nat.le_of_ble_eq_true rfl) ?_
            refine A_ifb_eq (pc := 64) 83 dX8_copyTrouble_64 (by decide) (fun h64 => ?_) (fun h64 => ?_)
            · skip
              refine A_aload (pc := 83) dX8_copyTrouble_83 rfl ?_
              refine A_callV1 (pc := 85) kX8_123 (shp_S (SCk (by omega))) rfl (c_X3_isRow (SCk k8) ks ko.1) dX8_copyTrouble_85 rfl rfl (Nat.le_of_ble_eq_true rfl) (Nat.le_of_ble_eq_true rfl) ?_
              refine A_ifb_eq (pc := 88) 99 dX8_copyTrouble_88 (by decide) (fun h88 => ?_) (fun h88 => ?_)
              · skip
                refine A_bipush (pc := 99) dX8_copyTrouble_99 (by decide) ?_
                refine A_iret (pc := 101) rfl dX8_copyTrouble_101 ?_
                exact R1_e (by unfold copyT; (try simp only [Int.toNat_natCast]); (repeat' split) <;> omega)
              · skip
                refine A_aload (pc := 91) dX8_copyTrouble_91 rfl ?_
                refine A_callV1 (pc := 93) kX8_123 (shp_S (SCk (by omega))) rfl (c_X3_isRow (SCk m8) ms mo.1) dX8_copyTrouble_93 rfl rfl (Nat.le_of_ble_eq_true rfl) (Nat.le_of_ble_eq_true rfl) ?_
                refine A_ifb_ne (pc := 96) 102 dX8_copyTrouble_96 (by decide) (fun h96 => ?_) (fun h96 => ?_)
                · skip
                  refine A_iload (pc := 102) dX8_copyTrouble_102 rfl ?_
                  refine A_if_ge (pc := 104) 110 dX8_copyTrouble_104 (by decide) (by omega) (by omega) (fun h104 => ?_) (fun h104 => ?_)
                  · skip
                    refine A_aload (pc := 110) dX8_copyTrouble_110 rfl ?_
                    refine A_iload_n (pc := 112) dX8_copyTrouble_112 rfl rfl ?_
                    refine A_iload (pc := 113) dX8_copyTrouble_113 rfl ?_
                    refine A_callV1 (pc := 115) kX8_377 (shp_S (SCk (by omega))) rfl (c_X3_hasElements (SCk k8) ks ko.1 hi1 hi2 hn1 hn2) dX8_copyTrouble_115 rfl rfl (Nat.le_of_ble_eq_true rfl) (Nat.le_of_ble_eq_true rfl) ?_
                    refine A_ifb_eq (pc := 118) 137 dX8_copyTrouble_118 (by decide) (fun h118 => ?_) (fun h118 => ?_)
                    · skip
                      refine A_bipush (pc := 137) dX8_copyTrouble_137 (by decide) ?_
                      refine A_iret (pc := 139) rfl dX8_copyTrouble_139 ?_
                      exact R1_e (by unfold copyT; (try simp only [Int.toNat_natCast]); (repeat' split) <;> omega)
                    · skip
                      refine A_aload (pc := 121) dX8_copyTrouble_121 rfl ?_
                      refine A_iload (pc := 123) dX8_copyTrouble_123 rfl ?_
                      refine A_iload (pc := 125) dX8_copyTrouble_125 rfl ?_
                      refine A_callV1 (pc := 127) kX8_377 (shp_S (SCk (by omega))) rfl (c_X3_hasElements (SCk m8) ms mo.1 hj1 hj2 hn1 hn2) dX8_copyTrouble_127 rfl rfl (Nat.le_of_ble_eq_true rfl) (Nat.le_of_ble_eq_true rfl) ?_
                      refine A_ifb_eq (pc := 130) 137 dX8_copyTrouble_130 (by decide) (fun h130 => ?_) (fun h130 => ?_)
                      · skip
                        refine A_bipush (pc := 137) dX8_copyTrouble_137 (by decide) ?_
                        refine A_iret (pc := 139) rfl dX8_copyTrouble_139 ?_
                        exact R1_e (by unfold copyT; (try simp only [Int.toNat_natCast]); (repeat' split) <;> omega)
                      · skip
                        refine A_iconst (pc := 133) dX8_copyTrouble_133 ?_
                        refine A_goto (pc := 134) 139 dX8_copyTrouble_134 (by decide) ?_
                        refine A_iret (pc := 139) rfl dX8_copyTrouble_139 ?_
                        exact R1_e (by unfold copyT; (try simp only [Int.toNat_natCast]); (repeat' split) <;> omega)
                  · skip
                    refine A_bipush (pc := 107) dX8_copyTrouble_107 (by decide) ?_
                    refine A_iret (pc := 109) rfl dX8_copyTrouble_109 ?_
                    exact R1_e (by unfold copyT; (try simp only [Int.toNat_natCast]); (repeat' split) <;> omega)
                · skip
                  refine A_bipush (pc := 99) dX8_copyTrouble_99 (by decide) ?_
                  refine A_iret (pc := 101) rfl dX8_copyTrouble_101 ?_
                  exact R1_e (by unfold copyT; (try simp only [Int.toNat_natCast]); (repeat' split) <;> omega)
            · skip
              refine A_aload (pc := 67) dX8_copyTrouble_67 rfl ?_
              refine A_getIv (pc := 69) fX8_116 (shp_S (SCk (by omega))) rfl ks.1 dX8_copyTrouble_69 ?_
              refine A_aload (pc := 72) dX8_copyTrouble_72 rfl ?_
              refine A_getIv (pc := 74) fX8_116 (shp_S (SCk (by omega))) rfl ms.1 dX8_copyTrouble_74 ?_
              refine A_icmp_eq (pc := 77) 83 dX8_copyTrouble_77 (by decide) (by omega) (by omega) (by omega) (by omega) (fun h77 => ?_) (fun h77 => ?_)
              · skip
                refine A_aload (pc := 83) dX8_copyTrouble_83 rfl ?_
                refine A_callV1 (pc := 85) kX8_123 (shp_S (SCk (by omega))) rfl (c_X3_isRow (SCk k8) ks ko.1) dX8_copyTrouble_85 rfl rfl (Nat.le_of_ble_eq_true rfl) (Nat.le_of_ble_eq_true rfl) ?_
                refine A_ifb_eq (pc := 88) 99 dX8_copyTrouble_88 (by decide) (fun h88 => ?_) (fun h88 => ?_)
                · skip
                  refine A_bipush (pc := 99) dX8_copyTrouble_99 (by decide) ?_
                  refine A_iret (pc := 101) rfl dX8_copyTrouble_101 ?_
                  exact R1_e (by unfold copyT; (try simp only [Int.toNat_natCast]); (repeat' split) <;> omega)
                · skip
                  refine A_aload (pc := 91) dX8_copyTrouble_91 rfl ?_
                  refine A_callV1 (pc := 93) kX8_123 (shp_S (SCk (by omega))) rfl (c_X3_isRow (SCk m8) ms mo.1) dX8_copyTrouble_93 rfl rfl (Nat.le_of_ble_eq_true rfl) (Nat.le_of_ble_eq_true rfl) ?_
                  refine A_ifb_ne (pc := 96) 102 dX8_copyTrouble_96 (by decide) (fun h96 => ?_) (fun h96 => ?_)
                  · skip
                    refine A_iload (pc := 102) dX8_copyTrouble_102 rfl ?_
                    refine A_if_ge (pc := 104) 110 dX8_copyTrouble_104 (by decide) (by omega) (by omega) (fun h104 => ?_) (fun h104 => ?_)
                    · skip
                      refine A_aload (pc := 110) dX8_copyTrouble_110 rfl ?_
                      refine A_iload_n (pc := 112) dX8_copyTrouble_112 rfl rfl ?_
                      refine A_iload (pc := 113) dX8_copyTrouble_113 rfl ?_
                      refine A_callV1 (pc := 115) kX8_377 (shp_S (SCk (by omega))) rfl (c_X3_hasElements (SCk k8) ks ko.1 hi1 hi2 hn1 hn2) dX8_copyTrouble_115 rfl rfl (Nat.le_of_ble_eq_true rfl) (Nat.le_of_ble_eq_true rfl) ?_
                      refine A_ifb_eq (pc := 118) 137 dX8_copyTrouble_118 (by decide) (fun h118 => ?_) (fun h118 => ?_)
                      · skip
                        refine A_bipush (pc := 137) dX8_copyTrouble_137 (by decide) ?_
                        refine A_iret (pc := 139) rfl dX8_copyTrouble_139 ?_
                        exact R1_e (by unfold copyT; (try simp only [Int.toNat_natCast]); (repeat' split) <;> omega)
                      · skip
                        refine A_aload (pc := 121) dX8_copyTrouble_121 rfl ?_
                        refine A_iload (pc := 123) dX8_copyTrouble_123 rfl ?_
                        refine A_iload (pc := 125) dX8_copyTrouble_125 rfl ?_
                        refine A_callV1 (pc := 127) kX8_377 (shp_S (SCk (by omega))) rfl (c_X3_hasElements (SCk m8) ms mo.1 hj1 hj2 hn1 hn2) dX8_copyTrouble_127 rfl rfl (Nat.le_of_ble_eq_true rfl) (Nat.le_of_ble_eq_true rfl) ?_
                        refine A_ifb_eq (pc := 130) 137 dX8_copyTrouble_130 (by decide) (fun h130 => ?_) (fun h130 => ?_)
                        · skip
                          refine A_bipush (pc := 137) dX8_copyTrouble_137 (by decide) ?_
                          refine A_iret (pc := 139) rfl dX8_copyTrouble_139 ?_
                          exact R1_e (by unfold copyT; (try simp only [Int.toNat_natCast]); (repeat' split) <;> omega)
                        · skip
                          refine A_iconst (pc := 133) dX8_copyTrouble_133 ?_
                          refine A_goto (pc := 134) 139 dX8_copyTrouble_134 (by decide) ?_
                          refine A_iret (pc := 139) rfl dX8_copyTrouble_139 ?_
                          exact R1_e (by unfold copyT; (try simp only [Int.toNat_natCast]); (repeat' split) <;> omega)
                    · skip
                      refine A_bipush (pc := 107) dX8_copyTrouble_107 (by decide) ?_
                      refine A_iret (pc := 109) rfl dX8_copyTrouble_109 ?_
                      exact R1_e (by unfold copyT; (try simp only [Int.toNat_natCast]); (repeat' split) <;> omega)
                  · skip
                    refine A_bipush (pc := 99) dX8_copyTrouble_99 (by decide) ?_
                    refine A_iret (pc := 101) rfl dX8_copyTrouble_101 ?_
                    exact R1_e (by unfold copyT; (try simp only [Int.toNat_natCast]); (repeat' split) <;> omega)
              · skip
                refine A_bipush (pc := 80) dX8_copyTrouble_80 (by decide) ?_
                refine A_iret (pc := 82) rfl dX8_copyTrouble_82 ?_
                exact R1_e (by unfold copyT; (try simp only [Int.toNat_natCast]); (repeat' split) <;> omega)
        · skip
          refine A_bipush (pc := 48) dX8_copyTrouble_48 (by decide) ?_
          refine A_iret (pc := 50) rfl dX8_copyTrouble_50 ?_
          exact R1_e (by unfold copyT; (try simp only [Int.toNat_natCast]); (repeat' split) <;> omega)
    · skip
      refine A_iconst (pc := 14) dX8_copyTrouble_14 ?_
      refine A_iret (pc := 15) rfl dX8_copyTrouble_15 ?_
      exact R1_e (by unfold copyT; (try simp only [Int.toNat_natCast]); (repeat' split) <;> omega)
theorem RS_cpL {c0 c1 i j k : Nat} {hd n hd2 n2 : Int} {el el2 : Nat → Int64} {σ : Sg} (h1 : RS c1 hd n el σ) (h2 : RS c0 hd2 n2 el2 σ) (hi : i + k ≤ 160) : RS c1 hd n (va_cpy el2 el i j k) (cpL σ (c0 + 1) (c1 + 1) i j k) := by
  refine ⟨h1.1, h1.2.1, fun x hx => ?_⟩
  show (if c1 + 1 = c1 + 1 then va_cpy (σ.2 (c0 + 1)) (σ.2 (c1 + 1)) i j k x else _) = _
  rw [if_pos rfl]
  unfold va_cpy
  by_cases q : j ≤ x ∧ x < j + k
  · rw [if_pos q, if_pos q]; exact h2.2.2 _ (by omega)
  · rw [if_neg q, if_neg q]; exact h1.2.2 x hx
theorem Fr_cpL {c0 c1 i j k : Nat} {σ : Sg} {S : Nat → Prop} (h : S c1) : Fr S σ (cpL σ c0 c1 i j k) := fun a ha => ⟨rfl, by
  funext b
  show (if a = c1 then _ else _) = _
  rw [if_neg (fun e : a = c1 => ha (by rw [e]; exact h))]⟩
theorem dX8_copy_0 : decode cX8_copy 0 = .ok (.aload_n 0, 1) := by decide +kernel
theorem dX8_copy_1 : decode cX8_copy 1 = .ok (.iload_n 1, 1) := by decide +kernel
theorem dX8_copy_2 : decode cX8_copy 2 = .ok (.iload_n 2, 1) := by decide +kernel
theorem dX8_copy_3 : decode cX8_copy 3 = .ok (.iload_n 3, 1) := by decide +kernel
theorem dX8_copy_4 : decode cX8_copy 4 = .ok (.iload 4, 2) := by decide +kernel
theorem dX8_copy_6 : decode cX8_copy 6 = .ok (.iload 5, 2) := by decide +kernel
theorem dX8_copy_8 : decode cX8_copy 8 = .ok (.invokevirtual 97, 3) := by decide +kernel
theorem dX8_copy_11 : decode cX8_copy 11 = .ok (.istore 6, 2) := by decide +kernel
theorem dX8_copy_13 : decode cX8_copy 13 = .ok (.iload 6, 2) := by decide +kernel
theorem dX8_copy_15 : decode cX8_copy 15 = .ok (.ifCond .eq 10, 3) := by decide +kernel
theorem dX8_copy_18 : decode cX8_copy 18 = .ok (.aload_n 0, 1) := by decide +kernel
theorem dX8_copy_19 : decode cX8_copy 19 = .ok (.iload 6, 2) := by decide +kernel
theorem dX8_copy_21 : decode cX8_copy 21 = .ok (.invokevirtual 76, 3) := by decide +kernel
theorem dX8_copy_24 : decode cX8_copy 24 = .ok (.ireturn, 1) := by decide +kernel
theorem dX8_copy_25 : decode cX8_copy 25 = .ok (.aload_n 0, 1) := by decide +kernel
theorem dX8_copy_26 : decode cX8_copy 26 = .ok (.getfield 25, 3) := by decide +kernel
theorem dX8_copy_29 : decode cX8_copy 29 = .ok (.iload_n 2, 1) := by decide +kernel
theorem dX8_copy_30 : decode cX8_copy 30 = .ok (.aaload, 1) := by decide +kernel
theorem dX8_copy_31 : decode cX8_copy 31 = .ok (.aload_n 0, 1) := by decide +kernel
theorem dX8_copy_32 : decode cX8_copy 32 = .ok (.getfield 25, 3) := by decide +kernel
theorem dX8_copy_35 : decode cX8_copy 35 = .ok (.iload_n 1, 1) := by decide +kernel
theorem dX8_copy_36 : decode cX8_copy 36 = .ok (.aaload, 1) := by decide +kernel
theorem dX8_copy_37 : decode cX8_copy 37 = .ok (.iload_n 3, 1) := by decide +kernel
theorem dX8_copy_38 : decode cX8_copy 38 = .ok (.iload 4, 2) := by decide +kernel
theorem dX8_copy_40 : decode cX8_copy 40 = .ok (.iload 5, 2) := by decide +kernel
theorem dX8_copy_42 : decode cX8_copy 42 = .ok (.invokevirtual 101, 3) := by decide +kernel
theorem dX8_copy_45 : decode cX8_copy 45 = .ok (.iconst 1, 1) := by decide +kernel
theorem dX8_copy_46 : decode cX8_copy 46 = .ok (.ireturn, 1) := by decide +kernel
set_option maxRecDepth 20000 in
theorem c_X8_copy {G : Gl} {d : Nat} {σ : Sg} {Z : Zt} (hZ : RelX Z σ) (hO : OkZ Z) {p : Int} (hp1 : -2147483648 ≤ p) (hp2 : p < 2147483648) {q : Int} (hq1 : -2147483648 ≤ q) (hq2 : q < 2147483648) {i : Int} (hi1 : -2147483648 ≤ i) (hi2 : i < 2147483648) {j : Int} (hj1 : -2147483648 ≤ j) (hj2 : j < 2147483648) {n : Int} (hn1 : -2147483648 ≤ n) (hn2 : n < 2147483648) : CT G (d + 2) yX8_copy cX8_copy 7 (some .int) [.ref (gA G 0), .int (iI p), .int (iI q), .int (iI i), .int (iI j), .int (iI n)] σ (RE (some (.int (iI (qCopy Z p q i j n).1))) (fun υ => RelX (qCopy Z p q i j n).2 υ ∧ Fr XC σ υ)) := by
  refine CT.of (by decide +kernel) (Nat.le_of_ble_eq_true rfl) ?_
  change AW G _ RX8 _ _ _ 0 [(0, .ref (gA G 0)), (1, .int (iI p)), (2, .int (iI q)), (3, .int (iI i)), (4, .int (iI j)), (5, .int (iI n))] [] _ _
  have hrt := copyT_rng Z p q i j n
  refine A_aload_n (pc := 0) dX8_copy_0 rfl rfl ?_
  refine A_iload_n (pc := 1) dX8_copy_1 rfl rfl ?_
  refine A_iload_n (pc := 2) dX8_copy_2 rfl rfl ?_
  refine A_iload_n (pc := 3) dX8_copy_3 rfl rfl ?_
  refine A_iload (pc := 4) dX8_copy_4 rfl ?_
  refine A_iload (pc := 6) dX8_copy_6 rfl ?_
  refine A_callV1 (pc := 8) kX8_97 rfl rfl (c_X8_copyTrouble hZ hO hp1 hp2 hq1 hq2 hi1 hi2 hj1 hj2 hn1 hn2) dX8_copy_8 rfl rfl (Nat.le_of_ble_eq_true rfl) (Nat.le_of_ble_eq_true rfl) ?_
  refine A_istore (pc := 11) dX8_copy_11 (Nat.le_of_ble_eq_true rfl) ?_
  refine A_iload (pc := 13) dX8_copy_13 rfl ?_
  refine A_if_eq (pc := 15) 25 dX8_copy_15 (by decide) (by omega) (by omega) (fun h15 => ?_) (fun h15 => ?_)
  · skip
    obtain ⟨g1, g2, g3, g4, g5, g6, g7, g8⟩ := copyT_0 h15
    obtain ⟨k, rfl⟩ := Int.eq_ofNat_of_zero_le (show 0 ≤ p by omega)
    have k8 : k < 8 := by omega
    have ks := hZ.2.1 k k8
    have ko := hO.2.1 k k8
    obtain ⟨m, rfl⟩ := Int.eq_ofNat_of_zero_le (show 0 ≤ q by omega)
    have m8 : m < 8 := by omega
    have ms := hZ.2.1 m m8
    have mo := hO.2.1 m m8
    obtain ⟨a, rfl⟩ := Int.eq_ofNat_of_zero_le g5
    obtain ⟨b, rfl⟩ := Int.eq_ofNat_of_zero_le g7
    obtain ⟨e, rfl⟩ := Int.eq_ofNat_of_zero_le g4
    simp only [Int.toNat_natCast] at g2 g3 g6 g8
    have kb := ko.1.2.2.2
    refine A_aload_n (pc := 25) dX8_copy_25 rfl rfl ?_
    refine A_getR (pc := 26) fX8_25 rfl rfl dX8_copy_26 ?_
    refine A_iload_n (pc := 29) dX8_copy_29 rfl rfl ?_
    refine A_aald (pc := 30) _ rfl rfl (by omega) (Nat.le_of_ble_eq_true rfl) dX8_copy_30 ?_
    refine A_aload_n (pc := 31) dX8_copy_31 rfl rfl ?_
    refine A_getR (pc := 32) fX8_25 rfl rfl dX8_copy_32 ?_
    refine A_iload_n (pc := 35) dX8_copy_35 rfl rfl ?_
    refine A_aald (pc := 36) _ rfl rfl (by omega) (Nat.le_of_ble_eq_true rfl) dX8_copy_36 ?_
    refine A_iload_n (pc := 37) dX8_copy_37 rfl rfl ?_
    refine A_iload (pc := 38) dX8_copy_38 rfl ?_
    refine A_iload (pc := 40) dX8_copy_40 rfl ?_
    refine A_callV0 (pc := 42) kX8_101 (shp_S (SCk (by omega))) rfl (c_X3_takeFrom (SCk m8) (SCk k8) ms ks mo.1 ko.1 (i := a) (j := b) (k := e) (by omega) (by omega)) dX8_copy_42 rfl rfl (Nat.le_of_ble_eq_true rfl) (Nat.le_of_ble_eq_true rfl) ?_
    refine A_iconst (pc := 45) dX8_copy_45 ?_
    refine A_iret (pc := 46) rfl dX8_copy_46 ?_
    exact RQX (by unfold qCopy; rw [if_neg (by omega)]; rfl) (hZ.shelf m8 (RS_cpL ms ks (by omega)) (Fr_cpL (Or.inr rfl))) ((Fr_cpL (Or.inr rfl) : Fr (SS (38 + 2 * m)) σ _).mono (SSX m8))
  · skip
    refine A_aload_n (pc := 18) dX8_copy_18 rfl rfl ?_
    refine A_iload (pc := 19) dX8_copy_19 rfl ?_
    refine A_callVe (pc := 21) kX8_76 rfl rfl (c_X8_refuse hZ hO (t := copyT Z p q i j n) (by omega) (by omega)) dX8_copy_21 rfl rfl (Nat.le_of_ble_eq_true rfl) (Nat.le_of_ble_eq_true rfl) (fun υ hυ => ?_)
    refine A_iret (pc := 24) rfl dX8_copy_24 ?_
    exact RQX (by unfold qCopy; rw [if_pos h15]; rfl) hυ.1 (hυ.2.mono XC2)
theorem dX8_element_0 : decode cX8_element 0 = .ok (.iload_n 1, 1) := by decide +kernel
theorem dX8_element_1 : decode cX8_element 1 = .ok (.invokestatic 72, 3) := by decide +kernel
theorem dX8_element_4 : decode cX8_element 4 = .ok (.ifCond .eq 16, 3) := by decide +kernel
theorem dX8_element_7 : decode cX8_element 7 = .ok (.aload_n 0, 1) := by decide +kernel
theorem dX8_element_8 : decode cX8_element 8 = .ok (.getfield 25, 3) := by decide +kernel
theorem dX8_element_11 : decode cX8_element 11 = .ok (.iload_n 1, 1) := by decide +kernel
theorem dX8_element_12 : decode cX8_element 12 = .ok (.aaload, 1) := by decide +kernel
theorem dX8_element_13 : decode cX8_element 13 = .ok (.iload_n 2, 1) := by decide +kernel
theorem dX8_element_14 : decode cX8_element 14 = .ok (.invokevirtual 105, 3) := by decide +kernel
theorem dX8_element_17 : decode cX8_element 17 = .ok (.goto 4, 3) := by decide +kernel
theorem dX8_element_20 : decode cX8_element 20 = .ok (.lconst 0, 1) := by decide +kernel
theorem dX8_element_21 : decode cX8_element 21 = .ok (.lreturn, 1) := by decide +kernel
set_option maxRecDepth 20000 in
theorem c_X8_element {G : Gl} {d : Nat} {σ : Sg} {Z : Zt} (hZ : RelX Z σ) (hO : OkZ Z) {s : Int} (hs1 : -2147483648 ≤ s) (hs2 : s < 2147483648) {i : Int} (hi1 : -2147483648 ≤ i) (hi2 : i < 2147483648) : CT G (d + 2) yX8_element cX8_element 3 (some .long) [.ref (gA G 0), .int (iI s), .int (iI i)] σ (R1 (.long (qElem Z s i)) σ) := by
  refine CT.of (by decide +kernel) (Nat.le_of_ble_eq_true rfl) ?_
  change AW G _ RX8 _ _ _ 0 [(0, .ref (gA G 0)), (1, .int (iI s)), (2, .int (iI i))] [] _ _
  refine A_iload_n (pc := 0) dX8_element_0 rfl rfl ?_
  refine A_callS1 (pc := 1) kX8_72 (c_X8_isShelf hs1 hs2) dX8_element_1 rfl rfl (Nat.le_of_ble_eq_true rfl) (Nat.le_of_ble_eq_true rfl) ?_
  refine A_ifb_eq (pc := 4) 20 dX8_element_4 (by decide) (fun h4 => ?_) (fun h4 => ?_)
  · skip
    refine A_lconst (pc := 20) 0 dX8_element_20 rfl ?_
    refine A_lret (pc := 21) rfl dX8_element_21 ?_
    exact ⟨by unfold qElem; rw [if_neg (by omega)], rfl⟩
  · skip
    obtain ⟨k, rfl⟩ := Int.eq_ofNat_of_zero_le (show 0 ≤ s by omega)
    have k8 : k < 8 := by omega
    have ks := hZ.2.1 k k8
    have ko := hO.2.1 k k8
    refine A_aload_n (pc := 7) dX8_element_7 rfl rfl ?_
    refine A_getR (pc := 8) fX8_25 rfl rfl dX8_element_8 ?_
    refine A_iload_n (pc := 11) dX8_element_11 rfl rfl ?_
    refine A_aald (pc := 12) _ rfl rfl (by omega) (Nat.le_of_ble_eq_true rfl) dX8_element_12 ?_
    refine A_iload_n (pc := 13) dX8_element_13 rfl rfl ?_
    refine A_callV1 (pc := 14) kX8_105 (shp_S (SCk (by omega))) rfl (c_X3_longAt (SCk k8) ks ko.1 hi1 hi2) dX8_element_14 rfl rfl (Nat.le_of_ble_eq_true rfl) (Nat.le_of_ble_eq_true rfl) ?_
    refine A_goto (pc := 17) 21 dX8_element_17 (by decide) ?_
    refine A_lret (pc := 21) rfl dX8_element_21 ?_
    exact ⟨by unfold qElem; rw [if_pos (by omega)]; rfl, rfl⟩
theorem dX8_show_0 : decode cX8_show 0 = .ok (.iload_n 1, 1) := by decide +kernel
theorem dX8_show_1 : decode cX8_show 1 = .ok (.invokestatic 72, 3) := by decide +kernel
theorem dX8_show_4 : decode cX8_show 4 = .ok (.ifCond .eq 19, 3) := by decide +kernel
theorem dX8_show_7 : decode cX8_show 7 = .ok (.iload_n 2, 1) := by decide +kernel
theorem dX8_show_8 : decode cX8_show 8 = .ok (.iconst (-1), 1) := by decide +kernel
theorem dX8_show_9 : decode cX8_show 9 = .ok (.if_icmp .eq 20, 3) := by decide +kernel
theorem dX8_show_12 : decode cX8_show 12 = .ok (.aload_n 0, 1) := by decide +kernel
theorem dX8_show_13 : decode cX8_show 13 = .ok (.getfield 10, 3) := by decide +kernel
theorem dX8_show_16 : decode cX8_show 16 = .ok (.iload_n 2, 1) := by decide +kernel
theorem dX8_show_17 : decode cX8_show 17 = .ok (.invokevirtual 109, 3) := by decide +kernel
theorem dX8_show_20 : decode cX8_show 20 = .ok (.ifCond .ne 9, 3) := by decide +kernel
theorem dX8_show_23 : decode cX8_show 23 = .ok (.aload_n 0, 1) := by decide +kernel
theorem dX8_show_24 : decode cX8_show 24 = .ok (.iconst (-1), 1) := by decide +kernel
theorem dX8_show_25 : decode cX8_show 25 = .ok (.invokevirtual 76, 3) := by decide +kernel
theorem dX8_show_28 : decode cX8_show 28 = .ok (.ireturn, 1) := by decide +kernel
theorem dX8_show_29 : decode cX8_show 29 = .ok (.aload_n 0, 1) := by decide +kernel
theorem dX8_show_30 : decode cX8_show 30 = .ok (.getfield 25, 3) := by decide +kernel
theorem dX8_show_33 : decode cX8_show 33 = .ok (.iload_n 1, 1) := by decide +kernel
theorem dX8_show_34 : decode cX8_show 34 = .ok (.aaload, 1) := by decide +kernel
theorem dX8_show_35 : decode cX8_show 35 = .ok (.iload_n 2, 1) := by decide +kernel
theorem dX8_show_36 : decode cX8_show 36 = .ok (.invokevirtual 112, 3) := by decide +kernel
theorem dX8_show_39 : decode cX8_show 39 = .ok (.iload_n 2, 1) := by decide +kernel
theorem dX8_show_40 : decode cX8_show 40 = .ok (.iconst (-1), 1) := by decide +kernel
theorem dX8_show_41 : decode cX8_show 41 = .ok (.if_icmp .ne 7, 3) := by decide +kernel
theorem dX8_show_44 : decode cX8_show 44 = .ok (.iconst 0, 1) := by decide +kernel
theorem dX8_show_45 : decode cX8_show 45 = .ok (.goto 4, 3) := by decide +kernel
theorem dX8_show_48 : decode cX8_show 48 = .ok (.iconst 1, 1) := by decide +kernel
theorem dX8_show_49 : decode cX8_show 49 = .ok (.ireturn, 1) := by decide +kernel
set_option maxRecDepth 20000 in
theorem c_X8_show {G : Gl} {d : Nat} {σ : Sg} {Z : Zt} (hZ : RelX Z σ) (hO : OkZ Z) {s : Int} (hs1 : -2147483648 ≤ s) (hs2 : s < 2147483648) {p : Int} (hp1 : -2147483648 ≤ p) (hp2 : p < 2147483648) : CT G (d + 1) yX8_show cX8_show 3 (some .int) [.ref (gA G 0), .int (iI s), .int (iI p)] σ (RE (some (.int (iI (qShow Z s p).1))) (fun υ => RelX (qShow Z s p).2 υ ∧ Fr XC σ υ)) := by
  refine CT.of (by decide +kernel) (Nat.le_of_ble_eq_true rfl) ?_
  change AW G _ RX8 _ _ _ 0 [(0, .ref (gA G 0)), (1, .int (iI s)), (2, .int (iI p))] [] _ _
  refine A_iload_n (pc := 0) dX8_show_0 rfl rfl ?_
  refine A_callS1 (pc := 1) kX8_72 (c_X8_isShelf hs1 hs2) dX8_show_1 rfl rfl (Nat.le_of_ble_eq_true rfl) (Nat.le_of_ble_eq_true rfl) ?_
  refine A_ifb_eq (pc := 4) 23 dX8_show_4 (by decide) (fun h4 => ?_) (fun h4 => ?_)
  · skip
    refine A_aload_n (pc := 23) dX8_show_23 rfl rfl ?_
    refine A_iconst (pc := 24) dX8_show_24 ?_
    refine A_callVe (pc := 25) kX8_76 rfl rfl (c_X8_refuse hZ hO (t := -1) (by omega) (by omega)) dX8_show_25 rfl rfl (Nat.le_of_ble_eq_true rfl) (Nat.le_of_ble_eq_true rfl) (fun υ hυ => ?_)
    refine A_iret (pc := 28) rfl dX8_show_28 ?_
    exact RQX (by unfold qShow; rw [if_pos (by omega)]; rfl) hυ.1 (hυ.2.mono XC2)
  · skip
    refine A_iload_n (pc := 7) dX8_show_7 rfl rfl ?_
    refine A_iconst (pc := 8) dX8_show_8 ?_
    refine A_icmp_eq (pc := 9) 29 dX8_show_9 (by decide) (by omega) (by omega) (by omega) (by omega) (fun h9 => ?_) (fun h9 => ?_)
    · skip
      obtain ⟨k, rfl⟩ := Int.eq_ofNat_of_zero_le (show 0 ≤ s by omega)
      have k8 : k < 8 := by omega
      have ks := hZ.2.1 k k8
      have ko := hO.2.1 k k8
      refine A_aload_n (pc := 29) dX8_show_29 rfl rfl ?_
      refine A_getR (pc := 30) fX8_25 rfl rfl dX8_show_30 ?_
      refine A_iload_n (pc := 33) dX8_show_33 rfl rfl ?_
      refine A_aald (pc := 34) _ rfl rfl (by omega) (Nat.le_of_ble_eq_true rfl) dX8_show_34 ?_
      refine A_iload_n (pc := 35) dX8_show_35 rfl rfl ?_
      refine A_callV0 (pc := 36) kX8_112 (shp_S (SCk (by omega))) rfl (c_X3_holdPane (SCk k8)) dX8_show_36 rfl rfl (Nat.le_of_ble_eq_true rfl) (Nat.le_of_ble_eq_true rfl) ?_
      refine A_iload_n (pc := 39) dX8_show_39 rfl rfl ?_
      refine A_iconst (pc := 40) dX8_show_40 ?_
      refine A_icmp_ne (pc := 41) 48 dX8_show_41 (by decide) (by omega) (by omega) (by omega) (by omega) (fun h41 => ?_) (fun h41 => ?_)
      · skip
        refine A_iconst (pc := 48) dX8_show_48 ?_
        refine A_iret (pc := 49) rfl dX8_show_49 ?_
        exact RQX (by unfold qShow; rw [if_neg (by omega), if_neg (by omega)]; rfl) (hZ.shelf k8 (hd := p) (n := 0) (el := Z.2.1.2.2 k) ⟨by simp [uI_at], by simp [uI_at], ks.2.2⟩ ((Fr.rf.uI (Or.inl rfl)).uI (Or.inl rfl))) (((Fr.rf.uI (Or.inl rfl)).uI (Or.inl rfl) : Fr (SS (38 + 2 * k)) σ _).mono (SSX k8))
      · skip
        refine A_iconst (pc := 44) dX8_show_44 ?_
        refine A_goto (pc := 45) 49 dX8_show_45 (by decide) ?_
        refine A_iret (pc := 49) rfl dX8_show_49 ?_
        exact RQX (by unfold qShow; rw [if_neg (by omega), if_pos (by omega)]; rfl) (hZ.shelf k8 (hd := p) (n := 0) (el := Z.2.1.2.2 k) ⟨by simp [uI_at], by simp [uI_at], ks.2.2⟩ ((Fr.rf.uI (Or.inl rfl)).uI (Or.inl rfl))) (((Fr.rf.uI (Or.inl rfl)).uI (Or.inl rfl) : Fr (SS (38 + 2 * k)) σ _).mono (SSX k8))
    · skip
      refine A_aload_n (pc := 12) dX8_show_12 rfl rfl ?_
      refine A_getR (pc := 13) fX8_10 rfl rfl dX8_show_13 ?_
      refine A_iload_n (pc := 16) dX8_show_16 rfl rfl ?_
      refine A_callV1 (pc := 17) kX8_109 rfl rfl (c_X5_isPane TC14 hZ.1 hO.1 hp1 hp2) dX8_show_17 rfl rfl (Nat.le_of_ble_eq_true rfl) (Nat.le_of_ble_eq_true rfl) ?_
      refine A_ifb_ne (pc := 20) 29 dX8_show_20 (by decide) (fun h20 => ?_) (fun h20 => ?_)
      · skip
        obtain ⟨k, rfl⟩ := Int.eq_ofNat_of_zero_le (show 0 ≤ s by omega)
        have k8 : k < 8 := by omega
        have ks := hZ.2.1 k k8
        have ko := hO.2.1 k k8
        refine A_aload_n (pc := 29) dX8_show_29 rfl rfl ?_
        refine A_getR (pc := 30) fX8_25 rfl rfl dX8_show_30 ?_
        refine A_iload_n (pc := 33) dX8_show_33 rfl rfl ?_
        refine A_aald (pc := 34) _ rfl rfl (by omega) (Nat.le_of_ble_eq_true rfl) dX8_show_34 ?_
        refine A_iload_n (pc := 35) dX8_show_35 rfl rfl ?_
        refine A_callV0 (pc := 36) kX8_112 (shp_S (SCk (by omega))) rfl (c_X3_holdPane (SCk k8)) dX8_show_36 rfl rfl (Nat.le_of_ble_eq_true rfl) (Nat.le_of_ble_eq_true rfl) ?_
        refine A_iload_n (pc := 39) dX8_show_39 rfl rfl ?_
        refine A_iconst (pc := 40) dX8_show_40 ?_
        refine A_icmp_ne (pc := 41) 48 dX8_show_41 (by decide) (by omega) (by omega) (by omega) (by omega) (fun h41 => ?_) (fun h41 => ?_)
        · skip
          refine A_iconst (pc := 48) dX8_show_48 ?_
          refine A_iret (pc := 49) rfl dX8_show_49 ?_
          exact RQX (by unfold qShow; rw [if_neg (by omega), if_neg (by omega)]; rfl) (hZ.shelf k8 (hd := p) (n := 0) (el := Z.2.1.2.2 k) ⟨by simp [uI_at], by simp [uI_at], ks.2.2⟩ ((Fr.rf.uI (Or.inl rfl)).uI (Or.inl rfl))) (((Fr.rf.uI (Or.inl rfl)).uI (Or.inl rfl) : Fr (SS (38 + 2 * k)) σ _).mono (SSX k8))
        · skip
          refine A_iconst (pc := 44) dX8_show_44 ?_
          refine A_goto (pc := 45) 49 dX8_show_45 (by decide) ?_
          refine A_iret (pc := 49) rfl dX8_show_49 ?_
          exact RQX (by unfold qShow; rw [if_neg (by omega), if_pos (by omega)]; rfl) (hZ.shelf k8 (hd := p) (n := 0) (el := Z.2.1.2.2 k) ⟨by simp [uI_at], by simp [uI_at], ks.2.2⟩ ((Fr.rf.uI (Or.inl rfl)).uI (Or.inl rfl))) (((Fr.rf.uI (Or.inl rfl)).uI (Or.inl rfl) : Fr (SS (38 + 2 * k)) σ _).mono (SSX k8))
      · skip
        refine A_aload_n (pc := 23) dX8_show_23 rfl rfl ?_
        refine A_iconst (pc := 24) dX8_show_24 ?_
        refine A_callVe (pc := 25) kX8_76 rfl rfl (c_X8_refuse hZ hO (t := -1) (by omega) (by omega)) dX8_show_25 rfl rfl (Nat.le_of_ble_eq_true rfl) (Nat.le_of_ble_eq_true rfl) (fun υ hυ => ?_)
        refine A_iret (pc := 28) rfl dX8_show_28 ?_
        exact RQX (by unfold qShow; rw [if_pos (by omega)]; rfl) hυ.1 (hυ.2.mono XC2)
theorem dX8_holds_0 : decode cX8_holds 0 = .ok (.iload_n 1, 1) := by decide +kernel
theorem dX8_holds_1 : decode cX8_holds 1 = .ok (.invokestatic 72, 3) := by decide +kernel
theorem dX8_holds_4 : decode cX8_holds 4 = .ok (.ifCond .eq 15, 3) := by decide +kernel
theorem dX8_holds_7 : decode cX8_holds 7 = .ok (.aload_n 0, 1) := by decide +kernel
theorem dX8_holds_8 : decode cX8_holds 8 = .ok (.getfield 25, 3) := by decide +kernel
theorem dX8_holds_11 : decode cX8_holds 11 = .ok (.iload_n 1, 1) := by decide +kernel
theorem dX8_holds_12 : decode cX8_holds 12 = .ok (.aaload, 1) := by decide +kernel
theorem dX8_holds_13 : decode cX8_holds 13 = .ok (.getfield 116, 3) := by decide +kernel
theorem dX8_holds_16 : decode cX8_holds 16 = .ok (.goto 4, 3) := by decide +kernel
theorem dX8_holds_19 : decode cX8_holds 19 = .ok (.iconst (-1), 1) := by decide +kernel
theorem dX8_holds_20 : decode cX8_holds 20 = .ok (.ireturn, 1) := by decide +kernel
set_option maxRecDepth 20000 in
theorem c_X8_holds {G : Gl} {d : Nat} {σ : Sg} {Z : Zt} (hZ : RelX Z σ) (hO : OkZ Z) {s : Int} (hs1 : -2147483648 ≤ s) (hs2 : s < 2147483648) : CT G (d + 1) yX8_holds cX8_holds 2 (some .int) [.ref (gA G 0), .int (iI s)] σ (R1 (.int (iI (qHolds Z s))) σ) := by
  refine CT.of (by decide +kernel) (Nat.le_of_ble_eq_true rfl) ?_
  change AW G _ RX8 _ _ _ 0 [(0, .ref (gA G 0)), (1, .int (iI s))] [] _ _
  refine A_iload_n (pc := 0) dX8_holds_0 rfl rfl ?_
  refine A_callS1 (pc := 1) kX8_72 (c_X8_isShelf hs1 hs2) dX8_holds_1 rfl rfl (Nat.le_of_ble_eq_true rfl) (Nat.le_of_ble_eq_true rfl) ?_
  refine A_ifb_eq (pc := 4) 19 dX8_holds_4 (by decide) (fun h4 => ?_) (fun h4 => ?_)
  · skip
    refine A_iconst (pc := 19) dX8_holds_19 ?_
    refine A_iret (pc := 20) rfl dX8_holds_20 ?_
    exact R1_e (by unfold qHolds; rw [if_neg (by omega)])
  · skip
    obtain ⟨k, rfl⟩ := Int.eq_ofNat_of_zero_le (show 0 ≤ s by omega)
    have k8 : k < 8 := by omega
    have ks := hZ.2.1 k k8
    have ko := hO.2.1 k k8
    refine A_aload_n (pc := 7) dX8_holds_7 rfl rfl ?_
    refine A_getR (pc := 8) fX8_25 rfl rfl dX8_holds_8 ?_
    refine A_iload_n (pc := 11) dX8_holds_11 rfl rfl ?_
    refine A_aald (pc := 12) _ rfl rfl (by omega) (Nat.le_of_ble_eq_true rfl) dX8_holds_12 ?_
    refine A_getIv (pc := 13) fX8_116 (shp_S (SCk (by omega))) rfl ks.1 dX8_holds_13 ?_
    refine A_goto (pc := 16) 20 dX8_holds_16 (by decide) ?_
    refine A_iret (pc := 20) rfl dX8_holds_20 ?_
    exact R1_e (by unfold qHolds; simp only [Int.toNat_natCast]; rw [if_pos (by omega)])
