/-! PART 30: days, seed; both -/
def MTp (σ υ : Sg) : Prop := Fr TM σ υ ∧ ∀ j, j = 18 ∨ j = 20 ∨ j = 23 ∨ j = 25 → υ.1 54 j = σ.1 54 j
theorem MTp.rf {σ : Sg} : MTp σ σ := ⟨Fr.rf, fun _ _ => rfl⟩
theorem MTp.tr {σ υ ω : Sg} (h : MTp σ υ) (k : MTp υ ω) : MTp σ ω := ⟨h.1.tr k.1, fun j hj => (k.2 j hj).trans (h.2 j hj)⟩
theorem MTp.u {σ υ : Sg} (h : MTp σ υ) {a k : Nat} {v : Int} (ha : 55 ≤ a) (hb : a < 64) : MTp σ (uI υ a k v) := ⟨h.1.uI (by unfold TM; omega), fun j hj => by rw [g54n (by omega)]; exact h.2 j hj⟩
theorem MTp.s {σ υ : Sg} (h : MTp σ υ) {v : Int} : MTp σ (uI υ 54 11 v) := ⟨h.1.uI (by unfold TM; omega), fun j hj => by rw [g54 (by omega)]; exact h.2 j hj⟩
theorem tA_comm {τ : Tw} {j k p : Nat} {v w : Int} (h : j ≠ k) : tA (tA τ j p v) k p w = tA (tA τ k p w) j p v := by
  refine Prod.ext rfl (Prod.ext rfl (funext fun a => funext fun b => ?_))
  show (if a = k ∧ b = p then w else if a = j ∧ b = p then v else τ.2.2 a b) = if a = j ∧ b = p then v else if a = k ∧ b = p then w else τ.2.2 a b
  by_cases e : a = k ∧ b = p
  · rw [if_pos e, if_neg (fun z => h (z.1.symm.trans e.1)), if_pos e]
  · rw [if_neg e, if_neg e]
theorem tA_self {τ : Tw} {j p : Nat} : tA τ j p (τ.2.2 j p) = τ := by
  refine Prod.ext rfl (Prod.ext rfl (funext fun a => funext fun b => ?_))
  show (if a = j ∧ b = p then τ.2.2 j p else τ.2.2 a b) = τ.2.2 a b
  by_cases e : a = j ∧ b = p
  · rw [if_pos e, e.1, e.2]
  · rw [if_neg e]
def dayN : Nat → Tw → Tw
  | 0, τ => τ
  | n + 1, τ => dayN n (day τ)
theorem OkT.okDayN : ∀ {n : Nat} {τ : Tw}, OkT τ → OkT (dayN n τ)
  | 0, _, h => h
  | n + 1, _, h => OkT.okDayN (n := n) h.okDay
def qDays (Z : Zt) (n : Int) : Int × Zt := if Z.1.2.1 1 = 0 then refZ Z (-5) else if ¬ (1 ≤ n ∧ n ≤ 60) then refZ Z (-6) else ((dayN n.toNat Z.1).2.1 4, zTw Z (dayN n.toNat Z.1))
def qSeed (Z : Zt) (s : Int) : Int × Zt := (Z.1.2.1 5, zTw Z (tS Z.1 5 s))
theorem dX9_draw_0 : decode cX9_draw 0 = .ok (.aload_n 0, 1) := by decide +kernel
theorem dX9_draw_1 : decode cX9_draw 1 = .ok (.aload_n 0, 1) := by decide +kernel
theorem dX9_draw_2 : decode cX9_draw 2 = .ok (.getfield 72, 3) := by decide +kernel
theorem dX9_draw_5 : decode cX9_draw 5 = .ok (.ldc_w 285, 3) := by decide +kernel
theorem dX9_draw_8 : decode cX9_draw 8 = .ok (.imul, 1) := by decide +kernel
theorem dX9_draw_9 : decode cX9_draw 9 = .ok (.sipush 12345, 3) := by decide +kernel
theorem dX9_draw_12 : decode cX9_draw 12 = .ok (.iadd, 1) := by decide +kernel
theorem dX9_draw_13 : decode cX9_draw 13 = .ok (.putfield 72, 3) := by decide +kernel
theorem dX9_draw_16 : decode cX9_draw 16 = .ok (.aload_n 0, 1) := by decide +kernel
theorem dX9_draw_17 : decode cX9_draw 17 = .ok (.getfield 72, 3) := by decide +kernel
theorem dX9_draw_20 : decode cX9_draw 20 = .ok (.bipush 16, 2) := by decide +kernel
theorem dX9_draw_22 : decode cX9_draw 22 = .ok (.iushr, 1) := by decide +kernel
theorem dX9_draw_23 : decode cX9_draw 23 = .ok (.iload_n 1, 1) := by decide +kernel
theorem dX9_draw_24 : decode cX9_draw 24 = .ok (.irem, 1) := by decide +kernel
theorem dX9_draw_25 : decode cX9_draw 25 = .ok (.ireturn, 1) := by decide +kernel
set_option maxRecDepth 20000 in
theorem c_X9_draw {G : Gl} {d : Nat} {σ : Sg} {τ : Tw} (hM : RMt τ σ) (hO : OkT τ)  : CT G d yX9_draw cX9_draw 2 (some .int) [.ref (gA G 54), .int (iI 4)] σ (RE (some (.int (iI (dval (τ.2.1 5))))) (fun υ => RMt (tS τ 5 (dseed (τ.2.1 5))) υ ∧ MTp σ υ)) := by
  refine CT.of (by decide +kernel) (Nat.le_of_ble_eq_true rfl) ?_
  change AW G _ RX9 _ _ _ 0 [(0, .ref (gA G 54)), (1, .int (iI 4))] [] _ _
  have hO2 := hO
  obtain ⟨o1, o2, o3, o4, o5, o6, o7, o8, o9⟩ := hO2
  have p0 := hM.2.1
  have p1 := hM.2.2.1
  have p2 : σ.1 63 0 = τ.2.1 2 := hM.2.2.2.1 0 (by decide)
  refine A_aload_n (pc := 0) dX9_draw_0 rfl rfl ?_
  refine A_aload_n (pc := 1) dX9_draw_1 rfl rfl ?_
  refine A_getIv (pc := 2) fX9_72 rfl rfl hM.2.2.2.2.1 dX9_draw_2 ?_
  refine A_ldcw (pc := 5) inX9_285 dX9_draw_5 ?_
  refine A_imul (pc := 8) dX9_draw_8 ?_
  refine A_sipush (pc := 9) dX9_draw_9 (by decide) ?_
  refine A_iadd (pc := 12) dX9_draw_12 ?_
  refine A_putI (pc := 13) fX9_72 wr_8_11 rfl rfl dX9_draw_13 ?_
  refine A_aload_n (pc := 16) dX9_draw_16 rfl rfl ?_
  refine A_getIv (pc := 17) fX9_72 rfl rfl (show _ = dseed (τ.2.1 5) from by rw [uI_at, if_pos ⟨rfl, rfl⟩]; rfl) dX9_draw_17 ?_
  refine A_bipush (pc := 20) dX9_draw_20 (by decide) ?_
  refine A_iushr (pc := 22) (dseed (τ.2.1 5) % 4294967296 / 65536) dX9_draw_22 (ushr16 _) ?_
  refine A_iload_n (pc := 23) dX9_draw_23 rfl rfl ?_
  refine A_irem (pc := 24) dX9_draw_24 (by omega) (by omega) (by omega) (by omega) ?_
  refine A_iret (pc := 25) rfl dX9_draw_25 ?_
  exact ⟨rfl, hM.setSeed _, MTp.rf.s⟩
theorem dX9_goesDay_0 : decode cX9_goesDay 0 = .ok (.aload_n 0, 1) := by decide +kernel
theorem dX9_goesDay_1 : decode cX9_goesDay 1 = .ok (.getfield 35, 3) := by decide +kernel
theorem dX9_goesDay_4 : decode cX9_goesDay 4 = .ok (.iconst 1, 1) := by decide +kernel
theorem dX9_goesDay_5 : decode cX9_goesDay 5 = .ok (.dup2, 1) := by decide +kernel
theorem dX9_goesDay_6 : decode cX9_goesDay 6 = .ok (.iaload, 1) := by decide +kernel
theorem dX9_goesDay_7 : decode cX9_goesDay 7 = .ok (.iconst 1, 1) := by decide +kernel
theorem dX9_goesDay_8 : decode cX9_goesDay 8 = .ok (.iadd, 1) := by decide +kernel
theorem dX9_goesDay_9 : decode cX9_goesDay 9 = .ok (.iastore, 1) := by decide +kernel
theorem dX9_goesDay_10 : decode cX9_goesDay 10 = .ok (.iconst 0, 1) := by decide +kernel
theorem dX9_goesDay_11 : decode cX9_goesDay 11 = .ok (.istore_n 1, 1) := by decide +kernel
theorem dX9_goesDay_12 : decode cX9_goesDay 12 = .ok (.iload_n 1, 1) := by decide +kernel
theorem dX9_goesDay_13 : decode cX9_goesDay 13 = .ok (.aload_n 0, 1) := by decide +kernel
theorem dX9_goesDay_14 : decode cX9_goesDay 14 = .ok (.getfield 90, 3) := by decide +kernel
theorem dX9_goesDay_17 : decode cX9_goesDay 17 = .ok (.if_icmp .ge 51, 3) := by decide +kernel
theorem dX9_goesDay_20 : decode cX9_goesDay 20 = .ok (.aload_n 0, 1) := by decide +kernel
theorem dX9_goesDay_21 : decode cX9_goesDay 21 = .ok (.getfield 25, 3) := by decide +kernel
theorem dX9_goesDay_24 : decode cX9_goesDay 24 = .ok (.iload_n 1, 1) := by decide +kernel
theorem dX9_goesDay_25 : decode cX9_goesDay 25 = .ok (.aload_n 0, 1) := by decide +kernel
theorem dX9_goesDay_26 : decode cX9_goesDay 26 = .ok (.iconst 4, 1) := by decide +kernel
theorem dX9_goesDay_27 : decode cX9_goesDay 27 = .ok (.invokevirtual 286, 3) := by decide +kernel
theorem dX9_goesDay_30 : decode cX9_goesDay 30 = .ok (.iastore, 1) := by decide +kernel
theorem dX9_goesDay_31 : decode cX9_goesDay 31 = .ok (.aload_n 0, 1) := by decide +kernel
theorem dX9_goesDay_32 : decode cX9_goesDay 32 = .ok (.getfield 22, 3) := by decide +kernel
theorem dX9_goesDay_35 : decode cX9_goesDay 35 = .ok (.iload_n 1, 1) := by decide +kernel
theorem dX9_goesDay_36 : decode cX9_goesDay 36 = .ok (.iaload, 1) := by decide +kernel
theorem dX9_goesDay_37 : decode cX9_goesDay 37 = .ok (.aload_n 0, 1) := by decide +kernel
theorem dX9_goesDay_38 : decode cX9_goesDay 38 = .ok (.getfield 25, 3) := by decide +kernel
theorem dX9_goesDay_41 : decode cX9_goesDay 41 = .ok (.iload_n 1, 1) := by decide +kernel
theorem dX9_goesDay_42 : decode cX9_goesDay 42 = .ok (.iaload, 1) := by decide +kernel
theorem dX9_goesDay_43 : decode cX9_goesDay 43 = .ok (.invokestatic 223, 3) := by decide +kernel
theorem dX9_goesDay_46 : decode cX9_goesDay 46 = .ok (.istore_n 2, 1) := by decide +kernel
theorem dX9_goesDay_47 : decode cX9_goesDay 47 = .ok (.aload_n 0, 1) := by decide +kernel
theorem dX9_goesDay_48 : decode cX9_goesDay 48 = .ok (.iload_n 2, 1) := by decide +kernel
theorem dX9_goesDay_49 : decode cX9_goesDay 49 = .ok (.invokevirtual 143, 3) := by decide +kernel
theorem dX9_goesDay_52 : decode cX9_goesDay 52 = .ok (.ifCond .eq 10, 3) := by decide +kernel
theorem dX9_goesDay_55 : decode cX9_goesDay 55 = .ok (.aload_n 0, 1) := by decide +kernel
theorem dX9_goesDay_56 : decode cX9_goesDay 56 = .ok (.getfield 22, 3) := by decide +kernel
theorem dX9_goesDay_59 : decode cX9_goesDay 59 = .ok (.iload_n 1, 1) := by decide +kernel
theorem dX9_goesDay_60 : decode cX9_goesDay 60 = .ok (.iload_n 2, 1) := by decide +kernel
theorem dX9_goesDay_61 : decode cX9_goesDay 61 = .ok (.iastore, 1) := by decide +kernel
theorem dX9_goesDay_62 : decode cX9_goesDay 62 = .ok (.iinc 1 1, 3) := by decide +kernel
theorem dX9_goesDay_65 : decode cX9_goesDay 65 = .ok (.goto (-53), 3) := by decide +kernel
theorem dX9_goesDay_68 : decode cX9_goesDay 68 = .ok (.iconst 0, 1) := by decide +kernel
theorem dX9_goesDay_69 : decode cX9_goesDay 69 = .ok (.istore_n 1, 1) := by decide +kernel
theorem dX9_goesDay_70 : decode cX9_goesDay 70 = .ok (.iload_n 1, 1) := by decide +kernel
theorem dX9_goesDay_71 : decode cX9_goesDay 71 = .ok (.aload_n 0, 1) := by decide +kernel
theorem dX9_goesDay_72 : decode cX9_goesDay 72 = .ok (.getfield 90, 3) := by decide +kernel
theorem dX9_goesDay_75 : decode cX9_goesDay 75 = .ok (.if_icmp .ge 50, 3) := by decide +kernel
theorem dX9_goesDay_78 : decode cX9_goesDay 78 = .ok (.aload_n 0, 1) := by decide +kernel
theorem dX9_goesDay_79 : decode cX9_goesDay 79 = .ok (.aload_n 0, 1) := by decide +kernel
theorem dX9_goesDay_80 : decode cX9_goesDay 80 = .ok (.getfield 22, 3) := by decide +kernel
theorem dX9_goesDay_83 : decode cX9_goesDay 83 = .ok (.iload_n 1, 1) := by decide +kernel
theorem dX9_goesDay_84 : decode cX9_goesDay 84 = .ok (.iaload, 1) := by decide +kernel
theorem dX9_goesDay_85 : decode cX9_goesDay 85 = .ok (.aload_n 0, 1) := by decide +kernel
theorem dX9_goesDay_86 : decode cX9_goesDay 86 = .ok (.getfield 25, 3) := by decide +kernel
theorem dX9_goesDay_89 : decode cX9_goesDay 89 = .ok (.iload_n 1, 1) := by decide +kernel
theorem dX9_goesDay_90 : decode cX9_goesDay 90 = .ok (.iaload, 1) := by decide +kernel
theorem dX9_goesDay_91 : decode cX9_goesDay 91 = .ok (.invokevirtual 156, 3) := by decide +kernel
theorem dX9_goesDay_94 : decode cX9_goesDay 94 = .ok (.istore_n 2, 1) := by decide +kernel
theorem dX9_goesDay_95 : decode cX9_goesDay 95 = .ok (.iload_n 2, 1) := by decide +kernel
theorem dX9_goesDay_96 : decode cX9_goesDay 96 = .ok (.ifCond .le 13, 3) := by decide +kernel
theorem dX9_goesDay_99 : decode cX9_goesDay 99 = .ok (.aload_n 0, 1) := by decide +kernel
theorem dX9_goesDay_100 : decode cX9_goesDay 100 = .ok (.getfield 28, 3) := by decide +kernel
theorem dX9_goesDay_103 : decode cX9_goesDay 103 = .ok (.iload_n 1, 1) := by decide +kernel
theorem dX9_goesDay_104 : decode cX9_goesDay 104 = .ok (.dup2, 1) := by decide +kernel
theorem dX9_goesDay_105 : decode cX9_goesDay 105 = .ok (.iaload, 1) := by decide +kernel
theorem dX9_goesDay_106 : decode cX9_goesDay 106 = .ok (.iconst 1, 1) := by decide +kernel
theorem dX9_goesDay_107 : decode cX9_goesDay 107 = .ok (.iadd, 1) := by decide +kernel
theorem dX9_goesDay_108 : decode cX9_goesDay 108 = .ok (.iastore, 1) := by decide +kernel
theorem dX9_goesDay_109 : decode cX9_goesDay 109 = .ok (.aload_n 0, 1) := by decide +kernel
theorem dX9_goesDay_110 : decode cX9_goesDay 110 = .ok (.getfield 35, 3) := by decide +kernel
theorem dX9_goesDay_113 : decode cX9_goesDay 113 = .ok (.iconst 2, 1) := by decide +kernel
theorem dX9_goesDay_114 : decode cX9_goesDay 114 = .ok (.dup2, 1) := by decide +kernel
theorem dX9_goesDay_115 : decode cX9_goesDay 115 = .ok (.iaload, 1) := by decide +kernel
theorem dX9_goesDay_116 : decode cX9_goesDay 116 = .ok (.iload_n 2, 1) := by decide +kernel
theorem dX9_goesDay_117 : decode cX9_goesDay 117 = .ok (.iadd, 1) := by decide +kernel
theorem dX9_goesDay_118 : decode cX9_goesDay 118 = .ok (.iastore, 1) := by decide +kernel
theorem dX9_goesDay_119 : decode cX9_goesDay 119 = .ok (.iinc 1 1, 3) := by decide +kernel
theorem dX9_goesDay_122 : decode cX9_goesDay 122 = .ok (.goto (-52), 3) := by decide +kernel
theorem dX9_goesDay_125 : decode cX9_goesDay 125 = .ok (.return_, 1) := by decide +kernel
set_option maxRecDepth 20000 in
theorem l1_X9_goesDay {G : Gl} {d : Nat} {σ0 : Sg} {K : Option Value → Sg → Prop} : ∀ (n i : Nat) (τ : Tw) (σ : Sg), (i : Int) + n = τ.2.1 1 → RMt τ σ → OkT τ → MTp σ0 σ → (∀ υ, RMt (stpG n i τ) υ → MTp σ0 υ → AW G (d + 3) RX9 cX9_goesDay 3 none 68 [(0, .ref (gA G 54))] [] υ K) → AW G (d + 3) RX9 cX9_goesDay 3 none 12 [(0, .ref (gA G 54)), (1, .int (iI (i : Int)))] [] σ K := by
  intro n
  induction n using Nat.strongRecOn
  rename_i n ih
  intro i τ σ hn hM hO hF hK
  have hO2 := hO
  obtain ⟨o1, o2, o3, o4, o5, o6, o7, o8, o9⟩ := hO2
  have p1 := hM.2.2.1
  have dr := dval_rng (τ.2.1 5)
  refine A_iload_n (pc := 12) dX9_goesDay_12 rfl rfl ?_
  refine A_aload_n (pc := 13) dX9_goesDay_13 rfl rfl ?_
  refine A_getIv (pc := 14) fX9_90 rfl rfl p1 dX9_goesDay_14 ?_
  refine A_icmp_ge (pc := 17) 68 dX9_goesDay_17 (by decide) (by omega) (by omega) (by omega) (by omega) (fun h17 => ?_) (fun h17 => ?_)
  · skip
    have hn0 : n = 0 := by omega
    subst hn0
    refine A_loc (l2 := [(0, _)]) ⟨rfl, trivial⟩ ?_
    exact hK σ hM hF
  · skip
    refine A_aload_n (pc := 20) dX9_goesDay_20 rfl rfl ?_
    refine A_getR (pc := 21) fX9_25 rfl rfl dX9_goesDay_21 ?_
    refine A_iload_n (pc := 24) dX9_goesDay_24 rfl rfl ?_
    refine A_aload_n (pc := 25) dX9_goesDay_25 rfl rfl ?_
    refine A_iconst (pc := 26) dX9_goesDay_26 ?_
    refine A_callVe (pc := 27) kX9_286 rfl rfl (c_X9_draw hM hO) dX9_goesDay_27 rfl rfl (Nat.le_of_ble_eq_true rfl) (Nat.le_of_ble_eq_true rfl) (fun υ hυ => ?_)
    refine A_iast (pc := 30) i rfl rfl (by omega) (Nat.le_of_ble_eq_true rfl) dX9_goesDay_30 ?_
    have hM3 : RMt (tA (tS τ 5 (dseed (τ.2.1 5))) 5 i (dval (τ.2.1 5))) (uI υ 60 i (dval (τ.2.1 5))) := hυ.1.setA 5 i _ (by decide)
    have q9 := o9 i (by omega)
    have hO3 : OkT (tA (tS τ 5 (dseed (τ.2.1 5))) 5 i (dval (τ.2.1 5))) := by
      have q := ((hO.setS (k := 5) (dseed (τ.2.1 5)) (by decide)).okPlc (p := i) (s := τ.2.2 4 i) (w := dval (τ.2.1 5)) q9.1 q9.2.1 dr.1 dr.2)
      unfold plc at q
      rw [tA_comm (by decide)] at q
      have e : tA (tA (tS τ 5 (dseed (τ.2.1 5))) 5 i (dval (τ.2.1 5))) 4 i (τ.2.2 4 i) = tA (tS τ 5 (dseed (τ.2.1 5))) 5 i (dval (τ.2.1 5)) := tA_self (τ := tA (tS τ 5 (dseed (τ.2.1 5))) 5 i (dval (τ.2.1 5))) (j := 4) (p := i)
      rw [e] at q
      exact q
    refine A_aload_n (pc := 31) dX9_goesDay_31 rfl rfl ?_
    refine A_getR (pc := 32) fX9_22 rfl rfl dX9_goesDay_32 ?_
    refine A_iload_n (pc := 35) dX9_goesDay_35 rfl rfl ?_
    refine A_ialdv (pc := 36) i rfl rfl (by omega) (Nat.le_of_ble_eq_true rfl) (hM3.wat (p := i) (by show (i : Int) < τ.2.1 1; omega)) dX9_goesDay_36 ?_
    refine A_aload_n (pc := 37) dX9_goesDay_37 rfl rfl ?_
    refine A_getR (pc := 38) fX9_25 rfl rfl dX9_goesDay_38 ?_
    refine A_iload_n (pc := 41) dX9_goesDay_41 rfl rfl ?_
    refine A_ialdv (pc := 42) i rfl rfl (by omega) (Nat.le_of_ble_eq_true rfl) (hM3.wf (p := i) (by show (i : Int) < τ.2.1 1; omega)) dX9_goesDay_42 ?_
    have e5 : (tA (tS τ 5 (dseed (τ.2.1 5))) 5 i (dval (τ.2.1 5))).2.2 5 i = dval (τ.2.1 5) := if_pos ⟨rfl, rfl⟩
    rw [e5]
    have e4 : (tA (tS τ 5 (dseed (τ.2.1 5))) 5 i (dval (τ.2.1 5))).2.2 4 i = τ.2.2 4 i := by show (if 4 = 5 ∧ i = i then dval (τ.2.1 5) else τ.2.2 4 i) = _; rw [if_neg (by omega)]
    rw [e4]
    have hnr := nx_rng (w := dval (τ.2.1 5)) q9.1 q9.2.1
    refine A_callS1 (pc := 43) kX9_223 (c_X9_next (by omega) (by omega) (by omega) (by omega)) dX9_goesDay_43 rfl rfl (Nat.le_of_ble_eq_true rfl) (Nat.le_of_ble_eq_true rfl) ?_
    refine A_istore_n (pc := 46) dX9_goesDay_46 rfl (Nat.le_of_ble_eq_true rfl) ?_
    refine A_aload_n (pc := 47) dX9_goesDay_47 rfl rfl ?_
    refine A_iload_n (pc := 48) dX9_goesDay_48 rfl rfl ?_
    refine A_callV1 (pc := 49) kX9_143 rfl rfl (c_X9_isOpen hM3 hO3 (by omega) (by omega)) dX9_goesDay_49 rfl rfl (Nat.le_of_ble_eq_true rfl) (Nat.le_of_ble_eq_true rfl) ?_
    refine A_ifb_eq (pc := 52) 62 dX9_goesDay_52 (by decide) (fun h52 => ?_) (fun h52 => ?_)
    · skip
      refine A_iinc (pc := 62) dX9_goesDay_62 rfl (Nat.le_of_ble_eq_true rfl) ?_
      refine A_goto (pc := 65) 12 dX9_goesDay_65 (by decide) ?_
      obtain ⟨u, rfl⟩ : ∃ u, n = u + 1 := ⟨n - 1, by omega⟩
      refine A_loc (l2 := [(0, _), (1, _)]) ⟨rfl, rfl, trivial⟩ ?_
      have est : stpW τ i = (tA (tS τ 5 (dseed (τ.2.1 5))) 5 i (dval (τ.2.1 5))) := by
        unfold stpW
        rw [if_neg (fun z => nx_no (τ := τ) ⟨q9.1, by omega⟩ dr.1 (by omega) h52 z)]
        unfold plc
        rw [tA_comm (by decide)]
        exact tA_self (τ := (tA (tS τ 5 (dseed (τ.2.1 5))) 5 i (dval (τ.2.1 5)))) (j := 4) (p := i)
      rw [← est] at hM3
      refine ih u (by omega) (i + 1) (stpW τ i) _ (by rw [stpW_nw]; omega) hM3 (hO.okStp (by omega)) ((hF.tr hυ.2).u (by decide) (by decide)) (fun ω g1 g2 => hK ω g1 g2)
    · skip
      refine A_aload_n (pc := 55) dX9_goesDay_55 rfl rfl ?_
      refine A_getR (pc := 56) fX9_22 rfl rfl dX9_goesDay_56 ?_
      refine A_iload_n (pc := 59) dX9_goesDay_59 rfl rfl ?_
      refine A_iload_n (pc := 60) dX9_goesDay_60 rfl rfl ?_
      refine A_iast (pc := 61) i rfl rfl (by omega) (Nat.le_of_ble_eq_true rfl) dX9_goesDay_61 ?_
      refine A_iinc (pc := 62) dX9_goesDay_62 rfl (Nat.le_of_ble_eq_true rfl) ?_
      refine A_goto (pc := 65) 12 dX9_goesDay_65 (by decide) ?_
      obtain ⟨u, rfl⟩ : ∃ u, n = u + 1 := ⟨n - 1, by omega⟩
      refine A_loc (l2 := [(0, _), (1, _)]) ⟨rfl, rfl, trivial⟩ ?_
      have en := nx_bes (τ := τ) (c := τ.2.2 4 i) (w := dval (τ.2.1 5)) ⟨q9.1, by omega⟩ dr.1 (by omega) h52
      have h52b : opn τ (nx (τ.2.2 4 i) (dval (τ.2.1 5))) := h52
      rw [en] at h52b
      have est : stpW τ i = tA (tA (tS τ 5 (dseed (τ.2.1 5))) 5 i (dval (τ.2.1 5))) 4 i (nx (τ.2.2 4 i) (dval (τ.2.1 5))) := by
        unfold stpW
        rw [if_pos h52b, en]
        unfold plc
        rw [tA_comm (by decide)]
      have hM4 := hM3.setA 4 i (nx (τ.2.2 4 i) (dval (τ.2.1 5))) (by decide)
      rw [← est] at hM4
      refine ih u (by omega) (i + 1) (stpW τ i) _ (by rw [stpW_nw]; omega) hM4 (hO.okStp (by omega)) (((hF.tr hυ.2).u (by decide) (by decide)).u (by decide) (by decide)) (fun ω g1 g2 => hK ω g1 g2)
set_option maxRecDepth 20000 in
theorem l2_X9_goesDay {G : Gl} {d : Nat} {σ0 : Sg} {K : Option Value → Sg → Prop} : ∀ (n i : Nat) (τ : Tw) (σ : Sg), (i : Int) + n = τ.2.1 1 → RMt τ σ → OkT τ → MTp σ0 σ → (∀ υ, RMt (beaG n i τ) υ → MTp σ0 υ → K none υ) → AW G (d + 3) RX9 cX9_goesDay 3 none 70 [(0, .ref (gA G 54)), (1, .int (iI (i : Int)))] [] σ K := by
  intro n
  induction n using Nat.strongRecOn
  rename_i n ih
  intro i τ σ hn hM hO hF hK
  have hO2 := hO
  obtain ⟨o1, o2, o3, o4, o5, o6, o7, o8, o9⟩ := hO2
  have p1 := hM.2.2.1
  refine A_iload_n (pc := 70) dX9_goesDay_70 rfl rfl ?_
  refine A_aload_n (pc := 71) dX9_goesDay_71 rfl rfl ?_
  refine A_getIv (pc := 72) fX9_90 rfl rfl p1 dX9_goesDay_72 ?_
  refine A_icmp_ge (pc := 75) 125 dX9_goesDay_75 (by decide) (by omega) (by omega) (by omega) (by omega) (fun h75 => ?_) (fun h75 => ?_)
  · skip
    refine A_vret (pc := 125) rfl dX9_goesDay_125 ?_
    have hn0 : n = 0 := by omega
    subst hn0
    exact hK σ hM hF
  · skip
    have q9 := o9 i (by omega)
    have hsr := sham_rng τ (τ.2.2 4 i) (τ.2.2 5 i)
    refine A_aload_n (pc := 78) dX9_goesDay_78 rfl rfl ?_
    refine A_aload_n (pc := 79) dX9_goesDay_79 rfl rfl ?_
    refine A_getR (pc := 80) fX9_22 rfl rfl dX9_goesDay_80 ?_
    refine A_iload_n (pc := 83) dX9_goesDay_83 rfl rfl ?_
    refine A_ialdv (pc := 84) i rfl rfl (by omega) (Nat.le_of_ble_eq_true rfl) (hM.wat (p := i) (by omega)) dX9_goesDay_84 ?_
    refine A_aload_n (pc := 85) dX9_goesDay_85 rfl rfl ?_
    refine A_getR (pc := 86) fX9_25 rfl rfl dX9_goesDay_86 ?_
    refine A_iload_n (pc := 89) dX9_goesDay_89 rfl rfl ?_
    refine A_ialdv (pc := 90) i rfl rfl (by omega) (Nat.le_of_ble_eq_true rfl) (hM.wf (p := i) (by omega)) dX9_goesDay_90 ?_
    refine A_callV1 (pc := 91) kX9_156 rfl rfl (c_X9_shame hM hO (by omega) (by omega) (by omega) (by omega)) dX9_goesDay_91 rfl rfl (Nat.le_of_ble_eq_true rfl) (Nat.le_of_ble_eq_true rfl) ?_
    refine A_istore_n (pc := 94) dX9_goesDay_94 rfl (Nat.le_of_ble_eq_true rfl) ?_
    refine A_iload_n (pc := 95) dX9_goesDay_95 rfl rfl ?_
    refine A_if_le (pc := 96) 109 dX9_goesDay_96 (by decide) (by omega) (by omega) (fun h96 => ?_) (fun h96 => ?_)
    · skip
      refine A_aload_n (pc := 109) dX9_goesDay_109 rfl rfl ?_
      refine A_getR (pc := 110) fX9_35 rfl rfl dX9_goesDay_110 ?_
      refine A_iconst (pc := 113) dX9_goesDay_113 ?_
      refine A_dup2 (pc := 114) dX9_goesDay_114 rfl rfl ?_
      refine A_ialdv (pc := 115) 2 rfl rfl (by decide) (Nat.le_of_ble_eq_true rfl) (show _ = τ.2.1 4 from hM.2.2.2.1 2 (by decide)) dX9_goesDay_115 ?_
      refine A_iload_n (pc := 116) dX9_goesDay_116 rfl rfl ?_
      refine A_iadd (pc := 117) dX9_goesDay_117 ?_
      refine A_iast (pc := 118) 2 rfl rfl (by decide) (Nat.le_of_ble_eq_true rfl) dX9_goesDay_118 ?_
      refine A_iinc (pc := 119) dX9_goesDay_119 rfl (Nat.le_of_ble_eq_true rfl) ?_
      refine A_goto (pc := 122) 70 dX9_goesDay_122 (by decide) ?_
      obtain ⟨u, rfl⟩ : ∃ u, n = u + 1 := ⟨n - 1, by omega⟩
      refine A_loc (l2 := [(0, _), (1, _)]) ⟨rfl, rfl, trivial⟩ ?_
      have e : bea τ i (sham τ (τ.2.2 4 i) (τ.2.2 5 i)) = tS τ 4 (τ.2.1 4 + sham τ (τ.2.2 4 i) (τ.2.2 5 i)) := by unfold bea; rw [if_neg (by omega)]
      have hM3 := hM.setW (k := 2) (τ.2.1 4 + sham τ (τ.2.2 4 i) (τ.2.2 5 i)) (by decide)
      change RMt (tS τ 4 (τ.2.1 4 + sham τ (τ.2.2 4 i) (τ.2.2 5 i))) _ at hM3
      rw [← e] at hM3
      exact ih u (by omega) (i + 1) _ _ (by rw [bea_nw]; omega) hM3 (hO.okBea i _) (hF.u (by decide) (by decide)) (fun υ g1 g2 => hK υ g1 g2)
    · skip
      refine A_aload_n (pc := 99) dX9_goesDay_99 rfl rfl ?_
      refine A_getR (pc := 100) fX9_28 rfl rfl dX9_goesDay_100 ?_
      refine A_iload_n (pc := 103) dX9_goesDay_103 rfl rfl ?_
      refine A_dup2 (pc := 104) dX9_goesDay_104 rfl rfl ?_
      refine A_ialdv (pc := 105) i rfl rfl (by omega) (Nat.le_of_ble_eq_true rfl) (hM.wt (p := i) (by omega)) dX9_goesDay_105 ?_
      refine A_iconst (pc := 106) dX9_goesDay_106 ?_
      refine A_iadd (pc := 107) dX9_goesDay_107 ?_
      refine A_iast (pc := 108) i rfl rfl (by omega) (Nat.le_of_ble_eq_true rfl) dX9_goesDay_108 ?_
      refine A_aload_n (pc := 109) dX9_goesDay_109 rfl rfl ?_
      refine A_getR (pc := 110) fX9_35 rfl rfl dX9_goesDay_110 ?_
      refine A_iconst (pc := 113) dX9_goesDay_113 ?_
      refine A_dup2 (pc := 114) dX9_goesDay_114 rfl rfl ?_
      refine A_ialdv (pc := 115) 2 rfl rfl (by decide) (Nat.le_of_ble_eq_true rfl) (show _ = τ.2.1 4 from by rw [uI_at, if_neg (by omega)]; exact hM.2.2.2.1 2 (by decide)) dX9_goesDay_115 ?_
      refine A_iload_n (pc := 116) dX9_goesDay_116 rfl rfl ?_
      refine A_iadd (pc := 117) dX9_goesDay_117 ?_
      refine A_iast (pc := 118) 2 rfl rfl (by decide) (Nat.le_of_ble_eq_true rfl) dX9_goesDay_118 ?_
      refine A_iinc (pc := 119) dX9_goesDay_119 rfl (Nat.le_of_ble_eq_true rfl) ?_
      refine A_goto (pc := 122) 70 dX9_goesDay_122 (by decide) ?_
      obtain ⟨u, rfl⟩ : ∃ u, n = u + 1 := ⟨n - 1, by omega⟩
      refine A_loc (l2 := [(0, _), (1, _)]) ⟨rfl, rfl, trivial⟩ ?_
      have e : bea τ i (sham τ (τ.2.2 4 i) (τ.2.2 5 i)) = tS (tA τ 6 i (τ.2.2 6 i + 1)) 4 (τ.2.1 4 + sham τ (τ.2.2 4 i) (τ.2.2 5 i)) := by unfold bea; rw [if_pos (by omega)]; rfl
      have hM3 := (hM.setA 6 i (τ.2.2 6 i + 1) (by decide)).setW (k := 2) (τ.2.1 4 + sham τ (τ.2.2 4 i) (τ.2.2 5 i)) (by decide)
      change RMt (tS (tA τ 6 i (τ.2.2 6 i + 1)) 4 (τ.2.1 4 + sham τ (τ.2.2 4 i) (τ.2.2 5 i))) _ at hM3
      rw [← e] at hM3
      exact ih u (by omega) (i + 1) _ _ (by rw [bea_nw]; omega) hM3 (hO.okBea i _) ((hF.u (by decide) (by decide)).u (by decide) (by decide)) (fun υ g1 g2 => hK υ g1 g2)
set_option maxRecDepth 20000 in
theorem c_X9_goesDay {G : Gl} {d : Nat} {σ : Sg} {τ : Tw} (hM : RMt τ σ) (hO : OkT τ)  : CT G (d + 3) yX9_goesDay cX9_goesDay 3 none [.ref (gA G 54)] σ (RE none (fun υ => RMt (day τ) υ ∧ MTp σ υ)) := by
  refine CT.of (by decide +kernel) (Nat.le_of_ble_eq_true rfl) ?_
  change AW G _ RX9 _ _ _ 0 [(0, .ref (gA G 54))] [] _ _
  have hO2 := hO
  obtain ⟨o1, o2, o3, o4, o5, o6, o7, o8, o9⟩ := hO2
  have p0 := hM.2.1
  have p1 := hM.2.2.1
  have p2 : σ.1 63 0 = τ.2.1 2 := hM.2.2.2.1 0 (by decide)
  refine A_aload_n (pc := 0) dX9_goesDay_0 rfl rfl ?_
  refine A_getR (pc := 1) fX9_35 rfl rfl dX9_goesDay_1 ?_
  refine A_iconst (pc := 4) dX9_goesDay_4 ?_
  refine A_dup2 (pc := 5) dX9_goesDay_5 rfl rfl ?_
  refine A_ialdv (pc := 6) 1 rfl rfl (by decide) (Nat.le_of_ble_eq_true rfl) (show _ = τ.2.1 3 from hM.2.2.2.1 1 (by decide)) dX9_goesDay_6 ?_
  refine A_iconst (pc := 7) dX9_goesDay_7 ?_
  refine A_iadd (pc := 8) dX9_goesDay_8 ?_
  refine A_iast (pc := 9) 1 rfl rfl (by decide) (Nat.le_of_ble_eq_true rfl) dX9_goesDay_9 ?_
  refine A_iconst (pc := 10) dX9_goesDay_10 ?_
  refine A_istore_n (pc := 11) dX9_goesDay_11 rfl (Nat.le_of_ble_eq_true rfl) ?_
  refine A_loc (l2 := [(0, _), (1, _)]) ⟨rfl, rfl, trivial⟩ ?_
  have hM1 : RMt (tS τ 3 (τ.2.1 3 + 1)) (uI σ 63 1 (τ.2.1 3 + 1)) := hM.setW (k := 1) (τ.2.1 3 + 1) (by decide)
  have hO1 := hO.setS (k := 3) (τ.2.1 3 + 1) (by decide)
  refine l1_X9_goesDay (σ0 := σ) (τ.2.1 1).toNat 0 _ _ (by show _ = τ.2.1 1; omega) hM1 hO1 (MTp.rf.u (by decide) (by decide)) (fun υ h1 h2 => ?_)
  refine A_iconst (pc := 68) dX9_goesDay_68 ?_
  refine A_istore_n (pc := 69) dX9_goesDay_69 rfl (Nat.le_of_ble_eq_true rfl) ?_
  refine A_loc (l2 := [(0, _), (1, _)]) ⟨rfl, rfl, trivial⟩ ?_
  have hG := OkT.okStpG (τ.2.1 1).toNat 0 _ hO1 (by show _ = τ.2.1 1; omega)
  refine l2_X9_goesDay (τ.2.1 1).toNat 0 _ υ (by rw [hG.2]; show _ = τ.2.1 1; omega) h1 hG.1 h2 (fun ω h3 h4 => ⟨rfl, h3, h4⟩)
theorem RelM.townp {Z : Zt} {σ υ : Sg} (h : RelM Z σ) {τ : Tw} (hT : RMt τ υ) (hF : MTp σ υ) : RelM (zTw Z τ) υ ∧ Fr MC σ υ := ⟨h.town hT hF.1 hF.2, hF.1.mono TMC⟩
theorem beaG_nw : ∀ (n i : Nat) (τ : Tw), (beaG n i τ).2.1 1 = τ.2.1 1
  | 0, _, _ => rfl
  | n + 1, i, τ => (beaG_nw n (i + 1) _).trans (bea_nw _ _ _)
theorem stpG_nw : ∀ (n i : Nat) (τ : Tw), (stpG n i τ).2.1 1 = τ.2.1 1
  | 0, _, _ => rfl
  | n + 1, i, τ => (stpG_nw n (i + 1) _).trans (stpW_nw _ _)
theorem day_nw (τ : Tw) : (day τ).2.1 1 = τ.2.1 1 := (beaG_nw _ _ _).trans (stpG_nw _ _ _)
theorem dX9_days_0 : decode cX9_days 0 = .ok (.aload_n 0, 1) := by decide +kernel
theorem dX9_days_1 : decode cX9_days 1 = .ok (.getfield 90, 3) := by decide +kernel
theorem dX9_days_4 : decode cX9_days 4 = .ok (.ifCond .ne 10, 3) := by decide +kernel
theorem dX9_days_7 : decode cX9_days 7 = .ok (.aload_n 0, 1) := by decide +kernel
theorem dX9_days_8 : decode cX9_days 8 = .ok (.bipush (-5), 2) := by decide +kernel
theorem dX9_days_10 : decode cX9_days 10 = .ok (.invokevirtual 79, 3) := by decide +kernel
theorem dX9_days_13 : decode cX9_days 13 = .ok (.ireturn, 1) := by decide +kernel
theorem dX9_days_14 : decode cX9_days 14 = .ok (.iload_n 1, 1) := by decide +kernel
theorem dX9_days_15 : decode cX9_days 15 = .ok (.iconst 1, 1) := by decide +kernel
theorem dX9_days_16 : decode cX9_days 16 = .ok (.bipush 60, 2) := by decide +kernel
theorem dX9_days_18 : decode cX9_days 18 = .ok (.invokestatic 86, 3) := by decide +kernel
theorem dX9_days_21 : decode cX9_days 21 = .ok (.ifCond .ne 10, 3) := by decide +kernel
theorem dX9_days_24 : decode cX9_days 24 = .ok (.aload_n 0, 1) := by decide +kernel
theorem dX9_days_25 : decode cX9_days 25 = .ok (.bipush (-6), 2) := by decide +kernel
theorem dX9_days_27 : decode cX9_days 27 = .ok (.invokevirtual 79, 3) := by decide +kernel
theorem dX9_days_30 : decode cX9_days 30 = .ok (.ireturn, 1) := by decide +kernel
theorem dX9_days_31 : decode cX9_days 31 = .ok (.iconst 0, 1) := by decide +kernel
theorem dX9_days_32 : decode cX9_days 32 = .ok (.istore_n 2, 1) := by decide +kernel
theorem dX9_days_33 : decode cX9_days 33 = .ok (.iload_n 2, 1) := by decide +kernel
theorem dX9_days_34 : decode cX9_days 34 = .ok (.iload_n 1, 1) := by decide +kernel
theorem dX9_days_35 : decode cX9_days 35 = .ok (.if_icmp .ge 13, 3) := by decide +kernel
theorem dX9_days_38 : decode cX9_days 38 = .ok (.aload_n 0, 1) := by decide +kernel
theorem dX9_days_39 : decode cX9_days 39 = .ok (.invokevirtual 289, 3) := by decide +kernel
theorem dX9_days_42 : decode cX9_days 42 = .ok (.iinc 2 1, 3) := by decide +kernel
theorem dX9_days_45 : decode cX9_days 45 = .ok (.goto (-12), 3) := by decide +kernel
theorem dX9_days_48 : decode cX9_days 48 = .ok (.aload_n 0, 1) := by decide +kernel
theorem dX9_days_49 : decode cX9_days 49 = .ok (.getfield 35, 3) := by decide +kernel
theorem dX9_days_52 : decode cX9_days 52 = .ok (.iconst 2, 1) := by decide +kernel
theorem dX9_days_53 : decode cX9_days 53 = .ok (.iaload, 1) := by decide +kernel
theorem dX9_days_54 : decode cX9_days 54 = .ok (.ireturn, 1) := by decide +kernel
set_option maxRecDepth 20000 in
theorem l_X9_days {G : Gl} {d : Nat} {σ0 : Sg} {K : Option Value → Sg → Prop} {m : Nat} (hm : m ≤ 60) : ∀ (n i : Nat) (τ : Tw) (σ : Sg), i + n = m → RMt τ σ → OkT τ → MTp σ0 σ → (∀ υ, RMt (dayN n τ) υ → MTp σ0 υ → K (some (.int (iI ((dayN n τ).2.1 4)))) υ) → AW G (d + 4) RX9 cX9_days 3 (some .int) 33 [(0, .ref (gA G 54)), (1, .int (iI (m : Int))), (2, .int (iI (i : Int)))] [] σ K := by
  intro n
  induction n using Nat.strongRecOn
  rename_i n ih
  intro i τ σ hn hM hO hF hK
  refine A_iload_n (pc := 33) dX9_days_33 rfl rfl ?_
  refine A_iload_n (pc := 34) dX9_days_34 rfl rfl ?_
  refine A_icmp_ge (pc := 35) 48 dX9_days_35 (by decide) (by omega) (by omega) (by omega) (by omega) (fun h35 => ?_) (fun h35 => ?_)
  · skip
    refine A_aload_n (pc := 48) dX9_days_48 rfl rfl ?_
    refine A_getR (pc := 49) fX9_35 rfl rfl dX9_days_49 ?_
    refine A_iconst (pc := 52) dX9_days_52 ?_
    refine A_ialdv (pc := 53) 2 rfl rfl (by decide) (Nat.le_of_ble_eq_true rfl) (show _ = τ.2.1 4 from hM.2.2.2.1 2 (by decide)) dX9_days_53 ?_
    refine A_iret (pc := 54) rfl dX9_days_54 ?_
    have hn0 : n = 0 := by omega
    subst hn0
    exact hK σ hM hF
  · skip
    refine A_aload_n (pc := 38) dX9_days_38 rfl rfl ?_
    refine A_callVe0 (pc := 39) kX9_289 rfl rfl (c_X9_goesDay hM hO) dX9_days_39 rfl rfl (Nat.le_of_ble_eq_true rfl) (Nat.le_of_ble_eq_true rfl) (fun υ hυ => ?_)
    refine A_iinc (pc := 42) dX9_days_42 rfl (Nat.le_of_ble_eq_true rfl) ?_
    refine A_goto (pc := 45) 33 dX9_days_45 (by decide) ?_
    obtain ⟨u, rfl⟩ : ∃ u, n = u + 1 := ⟨n - 1, by omega⟩
    refine A_loc (l2 := [(0, _), (1, _), (2, _)]) ⟨rfl, rfl, rfl, trivial⟩ ?_
    exact ih u (by omega) (i + 1) (day τ) υ (by omega) hυ.1 hO.okDay (hF.tr hυ.2) (fun ω g1 g2 => hK ω g1 g2)
set_option maxRecDepth 20000 in
theorem c_X9_days {G : Gl} {d : Nat} {σ : Sg} {Z : Zt} (hZ : RelM Z σ) (hO : OkZ Z) {n : Int} (hn1 : -2147483648 ≤ n) (hn2 : n < 2147483648) : CT G (d + 4) yX9_days cX9_days 3 (some .int) [.ref (gA G 54), .int (iI n)] σ (RE (some (.int (iI (qDays Z n).1))) (fun υ => RelM (qDays Z n).2 υ ∧ Fr MC σ υ)) := by
  refine CT.of (by decide +kernel) (Nat.le_of_ble_eq_true rfl) ?_
  change AW G _ RX9 _ _ _ 0 [(0, .ref (gA G 54)), (1, .int (iI n))] [] _ _
  have o4 := hO.1.2.2.2.1
  have o5 := hO.1.2.2.2.2.1
  refine A_aload_n (pc := 0) dX9_days_0 rfl rfl ?_
  refine A_getIv (pc := 1) fX9_90 rfl rfl hZ.1.2.2.1 dX9_days_1 ?_
  refine A_if_ne (pc := 4) 14 dX9_days_4 (by decide) (by omega) (by omega) (fun h4 => ?_) (fun h4 => ?_)
  · skip
    refine A_iload_n (pc := 14) dX9_days_14 rfl rfl ?_
    refine A_iconst (pc := 15) dX9_days_15 ?_
    refine A_bipush (pc := 16) dX9_days_16 (by decide) ?_
    refine A_callS1 (pc := 18) kX9_86 (c_X9_within (v := n) (a := 1) (b := 60) (by omega) (by omega) (by omega) (by omega) (by omega) (by omega)) dX9_days_18 rfl rfl (Nat.le_of_ble_eq_true rfl) (Nat.le_of_ble_eq_true rfl) ?_
    refine A_ifb_ne (pc := 21) 31 dX9_days_21 (by decide) (fun h21 => ?_) (fun h21 => ?_)
    · skip
      obtain ⟨m, rfl⟩ := Int.eq_ofNat_of_zero_le (show 0 ≤ n by omega)
      refine A_iconst (pc := 31) dX9_days_31 ?_
      refine A_istore_n (pc := 32) dX9_days_32 rfl (Nat.le_of_ble_eq_true rfl) ?_
      refine A_loc (l2 := [(0, _), (1, _), (2, _)]) ⟨rfl, rfl, rfl, trivial⟩ ?_
      refine l_X9_days (by omega) m 0 Z.1 σ (by omega) hZ.1 hO.1 MTp.rf (fun υ g1 g2 => ?_)
      have g3 := hZ.townp g1 g2
      exact RQM (by unfold qDays; rw [if_neg (by omega), if_neg (by omega), Int.toNat_natCast]) g3.1 g3.2
    · skip
      refine A_aload_n (pc := 24) dX9_days_24 rfl rfl ?_
      refine A_bipush (pc := 25) dX9_days_25 (by decide) ?_
      refine A_callVe (pc := 27) kX9_79 rfl rfl (c_X9_no hZ hO (t := -6) (by omega) (by omega)) dX9_days_27 rfl rfl (Nat.le_of_ble_eq_true rfl) (Nat.le_of_ble_eq_true rfl) (fun υ hυ => ?_)
      refine A_iret (pc := 30) rfl dX9_days_30 ?_
      exact RQM (by unfold qDays; rw [if_neg (by omega), if_pos (by omega)]; rfl) hυ.1 (hυ.2.mono MC70)
  · skip
    refine A_aload_n (pc := 7) dX9_days_7 rfl rfl ?_
    refine A_bipush (pc := 8) dX9_days_8 (by decide) ?_
    refine A_callVe (pc := 10) kX9_79 rfl rfl (c_X9_no hZ hO (t := -5) (by omega) (by omega)) dX9_days_10 rfl rfl (Nat.le_of_ble_eq_true rfl) (Nat.le_of_ble_eq_true rfl) (fun υ hυ => ?_)
    refine A_iret (pc := 13) rfl dX9_days_13 ?_
    exact RQM (by unfold qDays; rw [if_pos (by omega)]; rfl) hυ.1 (hυ.2.mono MC70)
theorem dX9_seed_0 : decode cX9_seed 0 = .ok (.aload_n 0, 1) := by decide +kernel
theorem dX9_seed_1 : decode cX9_seed 1 = .ok (.getfield 72, 3) := by decide +kernel
theorem dX9_seed_4 : decode cX9_seed 4 = .ok (.istore_n 2, 1) := by decide +kernel
theorem dX9_seed_5 : decode cX9_seed 5 = .ok (.aload_n 0, 1) := by decide +kernel
theorem dX9_seed_6 : decode cX9_seed 6 = .ok (.iload_n 1, 1) := by decide +kernel
theorem dX9_seed_7 : decode cX9_seed 7 = .ok (.putfield 72, 3) := by decide +kernel
theorem dX9_seed_10 : decode cX9_seed 10 = .ok (.iload_n 2, 1) := by decide +kernel
theorem dX9_seed_11 : decode cX9_seed 11 = .ok (.ireturn, 1) := by decide +kernel
set_option maxRecDepth 20000 in
theorem c_X9_seed {G : Gl} {d : Nat} {σ : Sg} {Z : Zt} (hZ : RelM Z σ) (hO : OkZ Z) {s : Int} (hs1 : -2147483648 ≤ s) (hs2 : s < 2147483648) : CT G d yX9_seed cX9_seed 3 (some .int) [.ref (gA G 54), .int (iI s)] σ (RE (some (.int (iI (qSeed Z s).1))) (fun υ => RelM (qSeed Z s).2 υ ∧ Fr MC σ υ)) := by
  refine CT.of (by decide +kernel) (Nat.le_of_ble_eq_true rfl) ?_
  change AW G _ RX9 _ _ _ 0 [(0, .ref (gA G 54)), (1, .int (iI s))] [] _ _
  refine A_aload_n (pc := 0) dX9_seed_0 rfl rfl ?_
  refine A_getIv (pc := 1) fX9_72 rfl rfl hZ.1.2.2.2.2.1 dX9_seed_1 ?_
  refine A_istore_n (pc := 4) dX9_seed_4 rfl (Nat.le_of_ble_eq_true rfl) ?_
  refine A_aload_n (pc := 5) dX9_seed_5 rfl rfl ?_
  refine A_iload_n (pc := 6) dX9_seed_6 rfl rfl ?_
  refine A_putI (pc := 7) fX9_72 wr_8_11 rfl rfl dX9_seed_7 ?_
  refine A_iload_n (pc := 10) dX9_seed_10 rfl rfl ?_
  refine A_iret (pc := 11) rfl dX9_seed_11 ?_
  exact RQM rfl (hZ.townp (hZ.1.setSeed s) MTp.rf.s).1 (hZ.townp (hZ.1.setSeed s) MTp.rf.s).2
theorem dX8_days_0 : decode cX8_days 0 = .ok (.aload_n 0, 1) := by decide +kernel
theorem dX8_days_1 : decode cX8_days 1 = .ok (.getfield 10, 3) := by decide +kernel
theorem dX8_days_4 : decode cX8_days 4 = .ok (.getfield 339, 3) := by decide +kernel
theorem dX8_days_7 : decode cX8_days 7 = .ok (.ifCond .ne 10, 3) := by decide +kernel
theorem dX8_days_10 : decode cX8_days 10 = .ok (.aload_n 0, 1) := by decide +kernel
theorem dX8_days_11 : decode cX8_days 11 = .ok (.bipush (-5), 2) := by decide +kernel
theorem dX8_days_13 : decode cX8_days 13 = .ok (.invokevirtual 76, 3) := by decide +kernel
theorem dX8_days_16 : decode cX8_days 16 = .ok (.ireturn, 1) := by decide +kernel
theorem dX8_days_17 : decode cX8_days 17 = .ok (.iload_n 1, 1) := by decide +kernel
theorem dX8_days_18 : decode cX8_days 18 = .ok (.iconst 1, 1) := by decide +kernel
theorem dX8_days_19 : decode cX8_days 19 = .ok (.if_icmp .lt 9, 3) := by decide +kernel
theorem dX8_days_22 : decode cX8_days 22 = .ok (.iload_n 1, 1) := by decide +kernel
theorem dX8_days_23 : decode cX8_days 23 = .ok (.bipush 60, 2) := by decide +kernel
theorem dX8_days_25 : decode cX8_days 25 = .ok (.if_icmp .le 10, 3) := by decide +kernel
theorem dX8_days_28 : decode cX8_days 28 = .ok (.aload_n 0, 1) := by decide +kernel
theorem dX8_days_29 : decode cX8_days 29 = .ok (.bipush (-6), 2) := by decide +kernel
theorem dX8_days_31 : decode cX8_days 31 = .ok (.invokevirtual 76, 3) := by decide +kernel
theorem dX8_days_34 : decode cX8_days 34 = .ok (.ireturn, 1) := by decide +kernel
theorem dX8_days_35 : decode cX8_days 35 = .ok (.iconst 0, 1) := by decide +kernel
theorem dX8_days_36 : decode cX8_days 36 = .ok (.istore_n 2, 1) := by decide +kernel
theorem dX8_days_37 : decode cX8_days 37 = .ok (.iload_n 2, 1) := by decide +kernel
theorem dX8_days_38 : decode cX8_days 38 = .ok (.iload_n 1, 1) := by decide +kernel
theorem dX8_days_39 : decode cX8_days 39 = .ok (.if_icmp .ge 16, 3) := by decide +kernel
theorem dX8_days_42 : decode cX8_days 42 = .ok (.aload_n 0, 1) := by decide +kernel
theorem dX8_days_43 : decode cX8_days 43 = .ok (.getfield 10, 3) := by decide +kernel
theorem dX8_days_46 : decode cX8_days 46 = .ok (.invokevirtual 342, 3) := by decide +kernel
theorem dX8_days_49 : decode cX8_days 49 = .ok (.iinc 2 1, 3) := by decide +kernel
theorem dX8_days_52 : decode cX8_days 52 = .ok (.goto (-15), 3) := by decide +kernel
theorem dX8_days_55 : decode cX8_days 55 = .ok (.aload_n 0, 1) := by decide +kernel
theorem dX8_days_56 : decode cX8_days 56 = .ok (.getfield 10, 3) := by decide +kernel
theorem dX8_days_59 : decode cX8_days 59 = .ok (.getfield 338, 3) := by decide +kernel
theorem dX8_days_62 : decode cX8_days 62 = .ok (.ireturn, 1) := by decide +kernel
set_option maxRecDepth 20000 in
theorem l_X8_days {G : Gl} {d : Nat} {σ0 : Sg} {K : Option Value → Sg → Prop} {m : Nat} (hm : m ≤ 60) : ∀ (n i : Nat) (τ : Tw) (σ : Sg), i + n = m → RX 14 τ σ → OkT τ → Fr (TS 14) σ0 σ → (∀ υ, RX 14 (dayN n τ) υ → Fr (TS 14) σ0 υ → K (some (.int (iI ((dayN n τ).2.1 4)))) υ) → AW G (d + 5) RX8 cX8_days 3 (some .int) 37 [(0, .ref (gA G 0)), (1, .int (iI (m : Int))), (2, .int (iI (i : Int)))] [] σ K := by
  intro n
  induction n using Nat.strongRecOn
  rename_i n ih
  intro i τ σ hn hM hO hF hK
  refine A_iload_n (pc := 37) dX8_days_37 rfl rfl ?_
  refine A_iload_n (pc := 38) dX8_days_38 rfl rfl ?_
  refine A_icmp_ge (pc := 39) 55 dX8_days_39 (by decide) (by omega) (by omega) (by omega) (by omega) (fun h39 => ?_) (fun h39 => ?_)
  · skip
    refine A_aload_n (pc := 55) dX8_days_55 rfl rfl ?_
    refine A_getR (pc := 56) fX8_10 rfl rfl dX8_days_56 ?_
    refine A_getIv (pc := 59) fX8_338 rfl rfl (show _ = τ.2.1 4 from hM.2.1 4 (by decide)) dX8_days_59 ?_
    refine A_iret (pc := 62) rfl dX8_days_62 ?_
    have hn0 : n = 0 := by omega
    subst hn0
    exact hK σ hM hF
  · skip
    refine A_aload_n (pc := 42) dX8_days_42 rfl rfl ?_
    refine A_getR (pc := 43) fX8_10 rfl rfl dX8_days_43 ?_
    refine A_callVe0 (pc := 46) kX8_342 rfl rfl (c_X5_liveOneDay TC14 hM hO) dX8_days_46 rfl rfl (Nat.le_of_ble_eq_true rfl) (Nat.le_of_ble_eq_true rfl) (fun υ hυ => ?_)
    refine A_iinc (pc := 49) dX8_days_49 rfl (Nat.le_of_ble_eq_true rfl) ?_
    refine A_goto (pc := 52) 37 dX8_days_52 (by decide) ?_
    obtain ⟨u, rfl⟩ : ∃ u, n = u + 1 := ⟨n - 1, by omega⟩
    refine A_loc (l2 := [(0, _), (1, _), (2, _)]) ⟨rfl, rfl, rfl, trivial⟩ ?_
    exact ih u (by omega) (i + 1) (day τ) υ (by omega) hυ.1 hO.okDay (hF.tr hυ.2) (fun ω g1 g2 => hK ω g1 g2)
set_option maxRecDepth 20000 in
theorem c_X8_days {G : Gl} {d : Nat} {σ : Sg} {Z : Zt} (hZ : RelX Z σ) (hO : OkZ Z) {n : Int} (hn1 : -2147483648 ≤ n) (hn2 : n < 2147483648) : CT G (d + 5) yX8_days cX8_days 3 (some .int) [.ref (gA G 0), .int (iI n)] σ (RE (some (.int (iI (qDays Z n).1))) (fun υ => RelX (qDays Z n).2 υ ∧ Fr XC σ υ)) := by
  refine CT.of (by decide +kernel) (Nat.le_of_ble_eq_true rfl) ?_
  change AW G _ RX8 _ _ _ 0 [(0, .ref (gA G 0)), (1, .int (iI n))] [] _ _
  have o4 := hO.1.2.2.2.1
  have o5 := hO.1.2.2.2.2.1
  refine A_aload_n (pc := 0) dX8_days_0 rfl rfl ?_
  refine A_getR (pc := 1) fX8_10 rfl rfl dX8_days_1 ?_
  refine A_getIv (pc := 4) fX8_339 rfl rfl (show _ = Z.1.2.1 1 from hZ.1.2.1 1 (by decide)) dX8_days_4 ?_
  refine A_if_ne (pc := 7) 17 dX8_days_7 (by decide) (by omega) (by omega) (fun h7 => ?_) (fun h7 => ?_)
  · skip
    refine A_iload_n (pc := 17) dX8_days_17 rfl rfl ?_
    refine A_iconst (pc := 18) dX8_days_18 ?_
    refine A_icmp_lt (pc := 19) 28 dX8_days_19 (by decide) (by omega) (by omega) (by omega) (by omega) (fun h19 => ?_) (fun h19 => ?_)
    · skip
      refine A_aload_n (pc := 28) dX8_days_28 rfl rfl ?_
      refine A_bipush (pc := 29) dX8_days_29 (by decide) ?_
      refine A_callVe (pc := 31) kX8_76 rfl rfl (c_X8_refuse hZ hO (t := -6) (by omega) (by omega)) dX8_days_31 rfl rfl (Nat.le_of_ble_eq_true rfl) (Nat.le_of_ble_eq_true rfl) (fun υ hυ => ?_)
      refine A_iret (pc := 34) rfl dX8_days_34 ?_
      exact RQX (by unfold qDays; rw [if_neg (by omega), if_pos (by omega)]; rfl) hυ.1 (hυ.2.mono XC2)
    · skip
      refine A_iload_n (pc := 22) dX8_days_22 rfl rfl ?_
      refine A_bipush (pc := 23) dX8_days_23 (by decide) ?_
      refine A_icmp_le (pc := 25) 35 dX8_days_25 (by decide) (by omega) (by omega) (by omega) (by omega) (fun h25 => ?_) (fun h25 => ?_)
      · skip
        obtain ⟨m, rfl⟩ := Int.eq_ofNat_of_zero_le (show 0 ≤ n by omega)
        refine A_iconst (pc := 35) dX8_days_35 ?_
        refine A_istore_n (pc := 36) dX8_days_36 rfl (Nat.le_of_ble_eq_true rfl) ?_
        refine A_loc (l2 := [(0, _), (1, _), (2, _)]) ⟨rfl, rfl, rfl, trivial⟩ ?_
        refine l_X8_days (by omega) m 0 Z.1 σ (by omega) hZ.1 hO.1 Fr.rf (fun υ g1 g2 => ?_)
        exact RQX (by unfold qDays; rw [if_neg (by omega), if_neg (by omega), Int.toNat_natCast]) (hZ.town g1 g2) (g2.mono TSX)
      · skip
        refine A_aload_n (pc := 28) dX8_days_28 rfl rfl ?_
        refine A_bipush (pc := 29) dX8_days_29 (by decide) ?_
        refine A_callVe (pc := 31) kX8_76 rfl rfl (c_X8_refuse hZ hO (t := -6) (by omega) (by omega)) dX8_days_31 rfl rfl (Nat.le_of_ble_eq_true rfl) (Nat.le_of_ble_eq_true rfl) (fun υ hυ => ?_)
        refine A_iret (pc := 34) rfl dX8_days_34 ?_
        exact RQX (by unfold qDays; rw [if_neg (by omega), if_pos (by omega)]; rfl) hυ.1 (hυ.2.mono XC2)
  · skip
    refine A_aload_n (pc := 10) dX8_days_10 rfl rfl ?_
    refine A_bipush (pc := 11) dX8_days_11 (by decide) ?_
    refine A_callVe (pc := 13) kX8_76 rfl rfl (c_X8_refuse hZ hO (t := -5) (by omega) (by omega)) dX8_days_13 rfl rfl (Nat.le_of_ble_eq_true rfl) (Nat.le_of_ble_eq_true rfl) (fun υ hυ => ?_)
    refine A_iret (pc := 16) rfl dX8_days_16 ?_
    exact RQX (by unfold qDays; rw [if_pos (by omega)]; rfl) hυ.1 (hυ.2.mono XC2)
theorem dX8_seed_0 : decode cX8_seed 0 = .ok (.aload_n 0, 1) := by decide +kernel
theorem dX8_seed_1 : decode cX8_seed 1 = .ok (.getfield 10, 3) := by decide +kernel
theorem dX8_seed_4 : decode cX8_seed 4 = .ok (.getfield 345, 3) := by decide +kernel
theorem dX8_seed_7 : decode cX8_seed 7 = .ok (.istore_n 2, 1) := by decide +kernel
theorem dX8_seed_8 : decode cX8_seed 8 = .ok (.aload_n 0, 1) := by decide +kernel
theorem dX8_seed_9 : decode cX8_seed 9 = .ok (.getfield 10, 3) := by decide +kernel
theorem dX8_seed_12 : decode cX8_seed 12 = .ok (.iload_n 1, 1) := by decide +kernel
theorem dX8_seed_13 : decode cX8_seed 13 = .ok (.putfield 345, 3) := by decide +kernel
theorem dX8_seed_16 : decode cX8_seed 16 = .ok (.iload_n 2, 1) := by decide +kernel
theorem dX8_seed_17 : decode cX8_seed 17 = .ok (.ireturn, 1) := by decide +kernel
set_option maxRecDepth 20000 in
theorem c_X8_seed {G : Gl} {d : Nat} {σ : Sg} {Z : Zt} (hZ : RelX Z σ) (hO : OkZ Z) {s : Int} (hs1 : -2147483648 ≤ s) (hs2 : s < 2147483648) : CT G d yX8_seed cX8_seed 3 (some .int) [.ref (gA G 0), .int (iI s)] σ (RE (some (.int (iI (qSeed Z s).1))) (fun υ => RelX (qSeed Z s).2 υ ∧ Fr XC σ υ)) := by
  refine CT.of (by decide +kernel) (Nat.le_of_ble_eq_true rfl) ?_
  change AW G _ RX8 _ _ _ 0 [(0, .ref (gA G 0)), (1, .int (iI s))] [] _ _
  refine A_aload_n (pc := 0) dX8_seed_0 rfl rfl ?_
  refine A_getR (pc := 1) fX8_10 rfl rfl dX8_seed_1 ?_
  refine A_getIv (pc := 4) fX8_345 rfl rfl (show _ = Z.1.2.1 5 from hZ.1.2.1 5 (by decide)) dX8_seed_4 ?_
  refine A_istore_n (pc := 7) dX8_seed_7 rfl (Nat.le_of_ble_eq_true rfl) ?_
  refine A_aload_n (pc := 8) dX8_seed_8 rfl rfl ?_
  refine A_getR (pc := 9) fX8_10 rfl rfl dX8_seed_9 ?_
  refine A_iload_n (pc := 12) dX8_seed_12 rfl rfl ?_
  refine A_putI (pc := 13) fX8_345 wr_4_6 rfl rfl dX8_seed_13 ?_
  refine A_iload_n (pc := 16) dX8_seed_16 rfl rfl ?_
  refine A_iret (pc := 17) rfl dX8_seed_17 ?_
  exact RQX rfl (hZ.town (hZ.1.setS s (by decide)) (Fr.rf.uI (TSm 0 (by decide)))) ((Fr.rf.uI (TSm 0 (by decide)) : Fr (TS 14) σ _).mono TSX)
