/-! PART 12: WindowsLookedOut$Town: what changes it -/
theorem TSm {c : Nat} (j : Nat) (h : j < 8) : TS c (c + j) := ⟨by omega, by omega⟩
theorem OkT.setS {τ : Tw} (h : OkT τ) {k : Nat} (v : Int) (hk : 3 ≤ k) : OkT (tS τ k v) := by
  obtain ⟨h1, h2, h3, h4, h5, h6, h7, h8, h9⟩ := h
  have e : ∀ i, i < 3 → (tS τ k v).2.1 i = τ.2.1 i := fun i hi => if_neg (by omega)
  refine ⟨h1, ?_, ?_, ?_, ?_, ?_, ?_, ?_, ?_⟩
  · rw [e 0 (by omega)]; exact h2
  · rw [e 0 (by omega)]; exact h3
  · rw [e 1 (by omega)]; exact h4
  · rw [e 1 (by omega)]; exact h5
  · rw [e 2 (by omega)]; exact h6
  · rw [e 2 (by omega)]; exact h7
  · rw [e 0 (by omega)]; exact h8
  · rw [e 1 (by omega)]; exact h9
theorem OkT.setA6 {τ : Tw} (h : OkT τ) (p : Nat) (v : Int) : OkT (tA τ 6 p v) := by
  obtain ⟨h1, h2, h3, h4, h5, h6, h7, h8, h9⟩ := h
  refine ⟨h1, h2, h3, h4, h5, h6, h7, fun q hq => ?_, fun q hq => ?_⟩
  · have e : ∀ j, j < 6 → (tA τ 6 p v).2.2 j q = τ.2.2 j q := fun j hj => if_neg (by omega)
    rw [e 0 (by omega), e 1 (by omega), e 2 (by omega), e 3 (by omega)]; exact h8 q hq
  · have e : ∀ j, j < 6 → (tA τ 6 p v).2.2 j q = τ.2.2 j q := fun j hj => if_neg (by omega)
    rw [e 4 (by omega), e 5 (by omega)]; exact h9 q hq
theorem OkT.okPlc {τ : Tw} (h : OkT τ) {p : Nat} {s w : Int} (s1 : 0 ≤ s) (s2 : s ≤ 48) (w1 : 0 ≤ w) (w2 : w ≤ 3) : OkT (plc τ p s w) := by
  obtain ⟨h1, h2, h3, h4, h5, h6, h7, h8, h9⟩ := h
  refine ⟨h1, h2, h3, h4, h5, h6, h7, fun q hq => ?_, fun q hq => ?_⟩
  · have e : ∀ j, j < 4 → (plc τ p s w).2.2 j q = τ.2.2 j q := fun j hj => by
      show (if j = 5 ∧ q = p then w else if j = 4 ∧ q = p then s else τ.2.2 j q) = _
      rw [if_neg (by omega), if_neg (by omega)]
    have e0 := e 0 (by omega); have e1 := e 1 (by omega); have e2 := e 2 (by omega); have e3 := e 3 (by omega)
    have := h8 q hq
    rw [e0, e1, e2, e3]; exact this
  · have e4 : (plc τ p s w).2.2 4 q = if q = p then s else τ.2.2 4 q := by
      show (if 4 = 5 ∧ q = p then w else if 4 = 4 ∧ q = p then s else τ.2.2 4 q) = _
      rw [if_neg (by omega)]
      by_cases e : q = p
      · rw [if_pos ⟨rfl, e⟩, if_pos e]
      · rw [if_neg (fun z => e z.2), if_neg e]
    have e5 : (plc τ p s w).2.2 5 q = if q = p then w else τ.2.2 5 q := by
      show (if 5 = 5 ∧ q = p then w else if 5 = 4 ∧ q = p then s else τ.2.2 5 q) = _
      by_cases e : q = p
      · rw [if_pos ⟨rfl, e⟩, if_pos e]
      · rw [if_neg (fun z => e z.2), if_neg e, if_neg (by omega)]
    have := h9 q hq
    rw [e4, e5]
    by_cases e : q = p
    · rw [if_pos e, if_pos e]; omega
    · rw [if_neg e, if_neg e]; omega
theorem OkT.okBea {τ : Tw} (h : OkT τ) (p : Nat) (m : Int) : OkT (bea τ p m) := by
  have e : bea τ p m = if 0 < m then tA (tS τ 4 (τ.2.1 4 + m)) 6 p (τ.2.2 6 p + 1) else tS τ 4 (τ.2.1 4 + m) := rfl
  rw [e]
  by_cases q : 0 < m
  · rw [if_pos q]; exact (h.setS _ (by decide)).setA6 _ _
  · rw [if_neg q]; exact h.setS _ (by decide)
/-- a draw -/
def dseed (s : Int) : Int := s * 1103515245 + 12345
def dval (s : Int) : Int := (dseed s % 4294967296 / 65536) % 4
theorem dval_rng (s : Int) : 0 ≤ dval s ∧ dval s ≤ 3 := by unfold dval; omega
theorem ushr16 (x : Int) : ((iI x).toUInt32 >>> ((iI 16).toUInt32 &&& Int32.toUInt32 31)).toInt32 = iI (x % 4294967296 / 65536) := by
  have h1 := pk_ushr (iI x) (iI 16) 16 (by decide)
  have h2 : (iI x).toBitVec.toNat = (x % 4294967296).toNat := by
    show (BitVec.ofInt 32 x).toNat = _
    rw [BitVec.toNat_ofInt]
    rfl
  apply Int32.toBitVec_inj.mp
  apply BitVec.eq_of_toNat_eq
  rw [h1, h2]
  show _ = (BitVec.ofInt 32 _).toNat
  rw [BitVec.toNat_ofInt]
  show _ = ((x % 4294967296 / 65536) % ((2 ^ 32 : Nat) : Int)).toNat
  have e : (2 : Nat) ^ 16 = 65536 := by decide
  rw [e]
  have e2 : ((2 ^ 32 : Nat) : Int) = 4294967296 := by decide
  rw [e2]
  omega
/-- a walker's step by draw; all their steps; all their shame; a day -/
def stpW (τ : Tw) (w : Nat) : Tw :=
  plc (tS τ 5 (dseed (τ.2.1 5))) w (if inS (bes (τ.2.2 4 w) (dval (τ.2.1 5))) ∧ ¬ sT τ.1 (bes (τ.2.2 4 w) (dval (τ.2.1 5))) then bes (τ.2.2 4 w) (dval (τ.2.1 5)) else τ.2.2 4 w) (dval (τ.2.1 5))
def stpG : Nat → Nat → Tw → Tw
  | 0, _, τ => τ
  | n + 1, i, τ => stpG n (i + 1) (stpW τ i)
def beaG : Nat → Nat → Tw → Tw
  | 0, _, τ => τ
  | n + 1, i, τ => beaG n (i + 1) (bea τ i (sham τ (τ.2.2 4 i) (τ.2.2 5 i)))
def day (τ : Tw) : Tw := beaG (τ.2.1 1).toNat 0 (stpG (τ.2.1 1).toNat 0 (tS τ 3 (τ.2.1 3 + 1)))
theorem OkT.okStp {τ : Tw} (h : OkT τ) {w : Nat} (hw : (w : Int) < τ.2.1 1) : OkT (stpW τ w) := by
  have h9 := h.2.2.2.2.2.2.2.2 w hw
  have hd := dval_rng (τ.2.1 5)
  have hb := bes_rng (τ.2.2 4 w) (dval (τ.2.1 5))
  refine (h.setS _ (by decide)).okPlc ?_ ?_ hd.1 hd.2
  · by_cases q : inS (bes (τ.2.2 4 w) (dval (τ.2.1 5))) ∧ ¬ sT τ.1 (bes (τ.2.2 4 w) (dval (τ.2.1 5)))
    · rw [if_pos q]; exact q.1.1
    · rw [if_neg q]; exact h9.1
  · by_cases q : inS (bes (τ.2.2 4 w) (dval (τ.2.1 5))) ∧ ¬ sT τ.1 (bes (τ.2.2 4 w) (dval (τ.2.1 5)))
    · rw [if_pos q]; omega
    · rw [if_neg q]; exact h9.2.1
theorem stpW_nw (τ : Tw) (w : Nat) : (stpW τ w).2.1 1 = τ.2.1 1 := rfl
theorem bea_nw (τ : Tw) (w : Nat) (m : Int) : (bea τ w m).2.1 1 = τ.2.1 1 := by
  unfold bea
  by_cases q : 0 < m
  · rw [if_pos q]; rfl
  · rw [if_neg q]; rfl
theorem OkT.okStpG : ∀ (n i : Nat) (τ : Tw), OkT τ → (i : Int) + n = τ.2.1 1 → OkT (stpG n i τ) ∧ (stpG n i τ).2.1 1 = τ.2.1 1
  | 0, _, _, h, _ => ⟨h, rfl⟩
  | n + 1, i, τ, h, hn => OkT.okStpG n (i + 1) _ (h.okStp (by omega)) (by rw [stpW_nw]; omega)
theorem OkT.okBeaG : ∀ (n i : Nat) (τ : Tw), OkT τ → OkT (beaG n i τ)
  | 0, _, _, h => h
  | n + 1, i, τ, h => OkT.okBeaG n (i + 1) _ (h.okBea _ _)
theorem OkT.okDay {τ : Tw} (h : OkT τ) : OkT (day τ) := by
  have h1 := OkT.okStpG (τ.2.1 1).toNat 0 (tS τ 3 (τ.2.1 3 + 1)) (h.setS _ (by decide)) (by have := h.2.2.2.1; show _ = τ.2.1 1; omega)
  exact OkT.okBeaG _ _ _ h1.1
theorem dX5_triedTogether_0 : decode cX5_triedTogether 0 = .ok (.iconst 0, 1) := by decide +kernel
theorem dX5_triedTogether_1 : decode cX5_triedTogether 1 = .ok (.istore_n 1, 1) := by decide +kernel
theorem dX5_triedTogether_2 : decode cX5_triedTogether 2 = .ok (.iconst 0, 1) := by decide +kernel
theorem dX5_triedTogether_3 : decode cX5_triedTogether 3 = .ok (.istore_n 2, 1) := by decide +kernel
theorem dX5_triedTogether_4 : decode cX5_triedTogether 4 = .ok (.iload_n 2, 1) := by decide +kernel
theorem dX5_triedTogether_5 : decode cX5_triedTogether 5 = .ok (.aload_n 0, 1) := by decide +kernel
theorem dX5_triedTogether_6 : decode cX5_triedTogether 6 = .ok (.getfield 19, 3) := by decide +kernel
theorem dX5_triedTogether_9 : decode cX5_triedTogether 9 = .ok (.if_icmp .ge 23, 3) := by decide +kernel
theorem dX5_triedTogether_12 : decode cX5_triedTogether 12 = .ok (.iload_n 2, 1) := by decide +kernel
theorem dX5_triedTogether_13 : decode cX5_triedTogether 13 = .ok (.iconst 5, 1) := by decide +kernel
theorem dX5_triedTogether_14 : decode cX5_triedTogether 14 = .ok (.if_icmp .ge 18, 3) := by decide +kernel
theorem dX5_triedTogether_17 : decode cX5_triedTogether 17 = .ok (.iload_n 1, 1) := by decide +kernel
theorem dX5_triedTogether_18 : decode cX5_triedTogether 18 = .ok (.aload_n 0, 1) := by decide +kernel
theorem dX5_triedTogether_19 : decode cX5_triedTogether 19 = .ok (.getfield 53, 3) := by decide +kernel
theorem dX5_triedTogether_22 : decode cX5_triedTogether 22 = .ok (.iload_n 2, 1) := by decide +kernel
theorem dX5_triedTogether_23 : decode cX5_triedTogether 23 = .ok (.iaload, 1) := by decide +kernel
theorem dX5_triedTogether_24 : decode cX5_triedTogether 24 = .ok (.iadd, 1) := by decide +kernel
theorem dX5_triedTogether_25 : decode cX5_triedTogether 25 = .ok (.istore_n 1, 1) := by decide +kernel
theorem dX5_triedTogether_26 : decode cX5_triedTogether 26 = .ok (.iinc 2 1, 3) := by decide +kernel
theorem dX5_triedTogether_29 : decode cX5_triedTogether 29 = .ok (.goto (-25), 3) := by decide +kernel
theorem dX5_triedTogether_32 : decode cX5_triedTogether 32 = .ok (.iload_n 1, 1) := by decide +kernel
theorem dX5_triedTogether_33 : decode cX5_triedTogether 33 = .ok (.ireturn, 1) := by decide +kernel
set_option maxRecDepth 20000 in
theorem l_X5_triedTogether {G : Gl} {d : Nat} {σ : Sg} {K : Option Value → Sg → Prop} {c : Nat} (hT : TC c) {τ : Tw} (hR : RX c τ σ) (hO : OkT τ) : ∀ (n i : Nat) (acc : Int), (i : Int) + n = τ.2.1 1 → K (some (.int (iI (acc + sumR (fun w => τ.2.2 6 w) n i)))) σ → AW G d RX5 cX5_triedTogether 3 (some .int) 4 [(0, .ref (gA G c)), (1, .int (iI acc)), (2, .int (iI (i : Int)))] [] σ K := by
  intro n
  induction n using Nat.strongRecOn
  rename_i n ih
  intro i acc hn hK
  have hO2 := hO
  obtain ⟨o1, o2, o3, o4, o5, o6, o7, o8, o9⟩ := hO2
  have p0 : σ.1 c 1 = τ.2.1 0 := hR.2.1 0 (by decide)
  have p1 : σ.1 c 2 = τ.2.1 1 := hR.2.1 1 (by decide)
  have p2 : σ.1 c 3 = τ.2.1 2 := hR.2.1 2 (by decide)
  have p3 : σ.1 c 4 = τ.2.1 3 := hR.2.1 3 (by decide)
  have p4 : σ.1 c 5 = τ.2.1 4 := hR.2.1 4 (by decide)
  have p5 : σ.1 c 6 = τ.2.1 5 := hR.2.1 5 (by decide)
  refine A_iload_n (pc := 4) dX5_triedTogether_4 rfl rfl ?_
  refine A_aload_n (pc := 5) dX5_triedTogether_5 rfl rfl ?_
  refine A_getIv (pc := 6) fX5_19 (shp_T hT) rfl p1 dX5_triedTogether_6 ?_
  refine A_icmp_ge (pc := 9) 32 dX5_triedTogether_9 (by decide) (by omega) (by omega) (by omega) (by omega) (fun h9 => ?_) (fun h9 => ?_)
  · skip
    refine A_iload_n (pc := 32) dX5_triedTogether_32 rfl rfl ?_
    refine A_iret (pc := 33) rfl dX5_triedTogether_33 ?_
    have hn0 : n = 0 := by omega
    subst hn0
    rw [sumR, Int.add_zero] at hK
    exact hK
  · skip
    refine A_iload_n (pc := 12) dX5_triedTogether_12 rfl rfl ?_
    refine A_iconst (pc := 13) dX5_triedTogether_13 ?_
    refine A_icmp_ge (pc := 14) 32 dX5_triedTogether_14 (by decide) (by omega) (by omega) (by omega) (by omega) (fun h14 => ?_) (fun h14 => ?_)
    · skip
      refine A_iload_n (pc := 32) dX5_triedTogether_32 rfl rfl ?_
      refine A_iret (pc := 33) rfl dX5_triedTogether_33 ?_
      exfalso; omega
    · skip
      refine A_iload_n (pc := 17) dX5_triedTogether_17 rfl rfl ?_
      refine A_aload_n (pc := 18) dX5_triedTogether_18 rfl rfl ?_
      refine A_getR (pc := 19) fX5_53 (shp_T hT) rfl dX5_triedTogether_19 ?_
      refine A_iload_n (pc := 22) dX5_triedTogether_22 rfl rfl ?_
      refine A_ialdv (pc := 23) _ (shp_T_walkerTried hT) rfl (by omega) (Nat.le_of_ble_eq_true rfl) (hR.wt (by omega)) dX5_triedTogether_23 ?_
      refine A_iadd (pc := 24) dX5_triedTogether_24 ?_
      refine A_istore_n (pc := 25) dX5_triedTogether_25 rfl (Nat.le_of_ble_eq_true rfl) ?_
      refine A_iinc (pc := 26) dX5_triedTogether_26 rfl (Nat.le_of_ble_eq_true rfl) ?_
      refine A_goto (pc := 29) 4 dX5_triedTogether_29 (by decide) ?_
      obtain ⟨m, rfl⟩ : ∃ m, n = m + 1 := ⟨n - 1, by omega⟩
      refine A_loc (l2 := [(0, _), (1, _), (2, _)]) ⟨rfl, rfl, rfl, trivial⟩ ?_
      refine ih m (by omega) (i + 1) _ (by omega) ?_
      rw [sumR, ← Int.add_assoc] at hK
      exact hK
set_option maxRecDepth 20000 in
theorem c_X5_triedTogether {G : Gl} {d : Nat} {σ : Sg} {c : Nat} (hT : TC c) {τ : Tw} (hR : RX c τ σ) (hO : OkT τ)  : CT G d yX5_triedTogether cX5_triedTogether 3 (some .int) [.ref (gA G c)] σ (R1 (.int (iI (sumR (fun w => τ.2.2 6 w) (τ.2.1 1).toNat 0))) σ) := by
  refine CT.of (by decide +kernel) (Nat.le_of_ble_eq_true rfl) ?_
  change AW G _ RX5 _ _ _ 0 [(0, .ref (gA G c))] [] _ _
  have hO2 := hO
  obtain ⟨o1, o2, o3, o4, o5, o6, o7, o8, o9⟩ := hO2
  have p0 : σ.1 c 1 = τ.2.1 0 := hR.2.1 0 (by decide)
  have p1 : σ.1 c 2 = τ.2.1 1 := hR.2.1 1 (by decide)
  have p2 : σ.1 c 3 = τ.2.1 2 := hR.2.1 2 (by decide)
  have p3 : σ.1 c 4 = τ.2.1 3 := hR.2.1 3 (by decide)
  have p4 : σ.1 c 5 = τ.2.1 4 := hR.2.1 4 (by decide)
  have p5 : σ.1 c 6 = τ.2.1 5 := hR.2.1 5 (by decide)
  refine A_iconst (pc := 0) dX5_triedTogether_0 ?_
  refine A_istore_n (pc := 1) dX5_triedTogether_1 rfl (Nat.le_of_ble_eq_true rfl) ?_
  refine A_iconst (pc := 2) dX5_triedTogether_2 ?_
  refine A_istore_n (pc := 3) dX5_triedTogether_3 rfl (Nat.le_of_ble_eq_true rfl) ?_
  refine A_loc (l2 := [(0, _), (1, _), (2, _)]) ⟨rfl, rfl, rfl, trivial⟩ ?_
  exact l_X5_triedTogether hT hR hO (τ.2.1 1).toNat 0 0 (by omega) ⟨by rw [Int.zero_add], rfl⟩
theorem dX5_addPane_0 : decode cX5_addPane 0 = .ok (.aload_n 0, 1) := by decide +kernel
theorem dX5_addPane_1 : decode cX5_addPane 1 = .ok (.getfield 15, 3) := by decide +kernel
theorem dX5_addPane_4 : decode cX5_addPane 4 = .ok (.istore 5, 2) := by decide +kernel
theorem dX5_addPane_6 : decode cX5_addPane 6 = .ok (.iload 5, 2) := by decide +kernel
theorem dX5_addPane_8 : decode cX5_addPane 8 = .ok (.ifCond .lt 10, 3) := by decide +kernel
theorem dX5_addPane_11 : decode cX5_addPane 11 = .ok (.iload 5, 2) := by decide +kernel
theorem dX5_addPane_13 : decode cX5_addPane 13 = .ok (.bipush 9, 2) := by decide +kernel
theorem dX5_addPane_15 : decode cX5_addPane 15 = .ok (.if_icmp .lt 5, 3) := by decide +kernel
theorem dX5_addPane_18 : decode cX5_addPane 18 = .ok (.iconst (-1), 1) := by decide +kernel
theorem dX5_addPane_19 : decode cX5_addPane 19 = .ok (.ireturn, 1) := by decide +kernel
theorem dX5_addPane_20 : decode cX5_addPane 20 = .ok (.aload_n 0, 1) := by decide +kernel
theorem dX5_addPane_21 : decode cX5_addPane 21 = .ok (.getfield 34, 3) := by decide +kernel
theorem dX5_addPane_24 : decode cX5_addPane 24 = .ok (.iload 5, 2) := by decide +kernel
theorem dX5_addPane_26 : decode cX5_addPane 26 = .ok (.iload_n 1, 1) := by decide +kernel
theorem dX5_addPane_27 : decode cX5_addPane 27 = .ok (.iastore, 1) := by decide +kernel
theorem dX5_addPane_28 : decode cX5_addPane 28 = .ok (.aload_n 0, 1) := by decide +kernel
theorem dX5_addPane_29 : decode cX5_addPane 29 = .ok (.getfield 38, 3) := by decide +kernel
theorem dX5_addPane_32 : decode cX5_addPane 32 = .ok (.iload 5, 2) := by decide +kernel
theorem dX5_addPane_34 : decode cX5_addPane 34 = .ok (.iload_n 2, 1) := by decide +kernel
theorem dX5_addPane_35 : decode cX5_addPane 35 = .ok (.iastore, 1) := by decide +kernel
theorem dX5_addPane_36 : decode cX5_addPane 36 = .ok (.aload_n 0, 1) := by decide +kernel
theorem dX5_addPane_37 : decode cX5_addPane 37 = .ok (.getfield 41, 3) := by decide +kernel
theorem dX5_addPane_40 : decode cX5_addPane 40 = .ok (.iload 5, 2) := by decide +kernel
theorem dX5_addPane_42 : decode cX5_addPane 42 = .ok (.iload_n 3, 1) := by decide +kernel
theorem dX5_addPane_43 : decode cX5_addPane 43 = .ok (.iastore, 1) := by decide +kernel
theorem dX5_addPane_44 : decode cX5_addPane 44 = .ok (.aload_n 0, 1) := by decide +kernel
theorem dX5_addPane_45 : decode cX5_addPane 45 = .ok (.getfield 44, 3) := by decide +kernel
theorem dX5_addPane_48 : decode cX5_addPane 48 = .ok (.iload 5, 2) := by decide +kernel
theorem dX5_addPane_50 : decode cX5_addPane 50 = .ok (.iload 4, 2) := by decide +kernel
theorem dX5_addPane_52 : decode cX5_addPane 52 = .ok (.iastore, 1) := by decide +kernel
theorem dX5_addPane_53 : decode cX5_addPane 53 = .ok (.aload_n 0, 1) := by decide +kernel
theorem dX5_addPane_54 : decode cX5_addPane 54 = .ok (.dup, 1) := by decide +kernel
theorem dX5_addPane_55 : decode cX5_addPane 55 = .ok (.getfield 15, 3) := by decide +kernel
theorem dX5_addPane_58 : decode cX5_addPane 58 = .ok (.iconst 1, 1) := by decide +kernel
theorem dX5_addPane_59 : decode cX5_addPane 59 = .ok (.iadd, 1) := by decide +kernel
theorem dX5_addPane_60 : decode cX5_addPane 60 = .ok (.putfield 15, 3) := by decide +kernel
theorem dX5_addPane_63 : decode cX5_addPane 63 = .ok (.iload 5, 2) := by decide +kernel
theorem dX5_addPane_65 : decode cX5_addPane 65 = .ok (.ireturn, 1) := by decide +kernel
set_option maxRecDepth 20000 in
theorem c_X5_addPane {G : Gl} {d : Nat} {σ : Sg} {c : Nat} (hT : TC c) {τ : Tw} (hR : RX c τ σ) (hO : OkT τ) (hp : τ.2.1 0 < 9) {k a s w : Int} : CT G d yX5_addPane cX5_addPane 6 (some .int) [.ref (gA G c), .int (iI k), .int (iI a), .int (iI s), .int (iI w)] σ (RE (some (.int (iI (τ.2.1 0)))) (fun υ => RX c (addP τ k a s w) υ ∧ Fr (TS c) σ υ)) := by
  refine CT.of (by decide +kernel) (Nat.le_of_ble_eq_true rfl) ?_
  change AW G _ RX5 _ _ _ 0 [(0, .ref (gA G c)), (1, .int (iI k)), (2, .int (iI a)), (3, .int (iI s)), (4, .int (iI w))] [] _ _
  have hO2 := hO
  obtain ⟨o1, o2, o3, o4, o5, o6, o7, o8, o9⟩ := hO2
  have p0 : σ.1 c 1 = τ.2.1 0 := hR.2.1 0 (by decide)
  have p1 : σ.1 c 2 = τ.2.1 1 := hR.2.1 1 (by decide)
  have p2 : σ.1 c 3 = τ.2.1 2 := hR.2.1 2 (by decide)
  have p3 : σ.1 c 4 = τ.2.1 3 := hR.2.1 3 (by decide)
  have p4 : σ.1 c 5 = τ.2.1 4 := hR.2.1 4 (by decide)
  have p5 : σ.1 c 6 = τ.2.1 5 := hR.2.1 5 (by decide)
  obtain ⟨n, hn⟩ := Int.eq_ofNat_of_zero_le o2
  rw [hn] at p0 hp
  have e : (τ.2.1 0).toNat = n := by omega
  refine A_aload_n (pc := 0) dX5_addPane_0 rfl rfl ?_
  refine A_getIv (pc := 1) fX5_15 (shp_T hT) rfl p0 dX5_addPane_1 ?_
  refine A_istore (pc := 4) dX5_addPane_4 (Nat.le_of_ble_eq_true rfl) ?_
  refine A_iload (pc := 6) dX5_addPane_6 rfl ?_
  refine A_if_lt (pc := 8) 18 dX5_addPane_8 (by decide) (by omega) (by omega) (fun h8 => ?_) (fun h8 => ?_)
  · skip
    refine A_iconst (pc := 18) dX5_addPane_18 ?_
    refine A_iret (pc := 19) rfl dX5_addPane_19 ?_
    exfalso; omega
  · skip
    refine A_iload (pc := 11) dX5_addPane_11 rfl ?_
    refine A_bipush (pc := 13) dX5_addPane_13 (by decide) ?_
    refine A_icmp_lt (pc := 15) 20 dX5_addPane_15 (by decide) (by omega) (by omega) (by omega) (by omega) (fun h15 => ?_) (fun h15 => ?_)
    · skip
      refine A_aload_n (pc := 20) dX5_addPane_20 rfl rfl ?_
      refine A_getR (pc := 21) fX5_34 (shp_T hT) rfl dX5_addPane_21 ?_
      refine A_iload (pc := 24) dX5_addPane_24 rfl ?_
      refine A_iload_n (pc := 26) dX5_addPane_26 rfl rfl ?_
      refine A_iast (pc := 27) n (shp_T_paneKind hT) rfl (by omega) (Nat.le_of_ble_eq_true rfl) dX5_addPane_27 ?_
      refine A_aload_n (pc := 28) dX5_addPane_28 rfl rfl ?_
      refine A_getR (pc := 29) fX5_38 (shp_T hT) rfl dX5_addPane_29 ?_
      refine A_iload (pc := 32) dX5_addPane_32 rfl ?_
      refine A_iload_n (pc := 34) dX5_addPane_34 rfl rfl ?_
      refine A_iast (pc := 35) n (shp_T_paneA hT) rfl (by omega) (Nat.le_of_ble_eq_true rfl) dX5_addPane_35 ?_
      refine A_aload_n (pc := 36) dX5_addPane_36 rfl rfl ?_
      refine A_getR (pc := 37) fX5_41 (shp_T hT) rfl dX5_addPane_37 ?_
      refine A_iload (pc := 40) dX5_addPane_40 rfl ?_
      refine A_iload_n (pc := 42) dX5_addPane_42 rfl rfl ?_
      refine A_iast (pc := 43) n (shp_T_paneAt hT) rfl (by omega) (Nat.le_of_ble_eq_true rfl) dX5_addPane_43 ?_
      refine A_aload_n (pc := 44) dX5_addPane_44 rfl rfl ?_
      refine A_getR (pc := 45) fX5_44 (shp_T hT) rfl dX5_addPane_45 ?_
      refine A_iload (pc := 48) dX5_addPane_48 rfl ?_
      refine A_iload (pc := 50) dX5_addPane_50 rfl ?_
      refine A_iast (pc := 52) n (shp_T_paneOut hT) rfl (by omega) (Nat.le_of_ble_eq_true rfl) dX5_addPane_52 ?_
      refine A_aload_n (pc := 53) dX5_addPane_53 rfl rfl ?_
      refine A_dup (pc := 54) dX5_addPane_54 rfl ?_
      refine A_getIv (pc := 55) fX5_15 (shp_T hT) rfl (show _ = (n : Int) from by rw [uI_at, if_neg (by omega)]; rw [uI_at, if_neg (by omega)]; rw [uI_at, if_neg (by omega)]; rw [uI_at, if_neg (by omega)]; exact p0) dX5_addPane_55 ?_
      refine A_iconst (pc := 58) dX5_addPane_58 ?_
      refine A_iadd (pc := 59) dX5_addPane_59 ?_
      refine A_putI (pc := 60) fX5_15 wr_4_1 (shp_T hT) rfl dX5_addPane_60 ?_
      refine A_iload (pc := 63) dX5_addPane_63 rfl ?_
      refine A_iret (pc := 65) rfl dX5_addPane_65 ?_
      refine ⟨by rw [hn], ?_, ((((Fr.rf.uI (TSm 1 (by decide))).uI (TSm 2 (by decide))).uI (TSm 3 (by decide))).uI (TSm 4 (by decide))).uI (TSm 0 (by decide))⟩
      have q := (((hR.setA 0 n k (by decide)).setA 1 n a (by decide)).setA 2 n s (by decide)).setA 3 n w (by decide)
      have q2 := q.inc0 (n := n) hn (fun j hj => by
        have hh : j = 0 ∨ j = 1 ∨ j = 2 ∨ j = 3 := by omega
        rcases hh with rfl | rfl | rfl | rfl <;> simp [uI_at, tA])
      rw [addP, e, hn]
      exact q2
    · skip
      refine A_iconst (pc := 18) dX5_addPane_18 ?_
      refine A_iret (pc := 19) rfl dX5_addPane_19 ?_
      exfalso; omega
theorem dX5_addWalker_0 : decode cX5_addWalker 0 = .ok (.aload_n 0, 1) := by decide +kernel
theorem dX5_addWalker_1 : decode cX5_addWalker 1 = .ok (.getfield 19, 3) := by decide +kernel
theorem dX5_addWalker_4 : decode cX5_addWalker 4 = .ok (.istore_n 3, 1) := by decide +kernel
theorem dX5_addWalker_5 : decode cX5_addWalker 5 = .ok (.iload_n 3, 1) := by decide +kernel
theorem dX5_addWalker_6 : decode cX5_addWalker 6 = .ok (.ifCond .lt 8, 3) := by decide +kernel
theorem dX5_addWalker_9 : decode cX5_addWalker 9 = .ok (.iload_n 3, 1) := by decide +kernel
theorem dX5_addWalker_10 : decode cX5_addWalker 10 = .ok (.iconst 5, 1) := by decide +kernel
theorem dX5_addWalker_11 : decode cX5_addWalker 11 = .ok (.if_icmp .lt 5, 3) := by decide +kernel
theorem dX5_addWalker_14 : decode cX5_addWalker 14 = .ok (.iconst (-1), 1) := by decide +kernel
theorem dX5_addWalker_15 : decode cX5_addWalker 15 = .ok (.ireturn, 1) := by decide +kernel
theorem dX5_addWalker_16 : decode cX5_addWalker 16 = .ok (.aload_n 0, 1) := by decide +kernel
theorem dX5_addWalker_17 : decode cX5_addWalker 17 = .ok (.getfield 47, 3) := by decide +kernel
theorem dX5_addWalker_20 : decode cX5_addWalker 20 = .ok (.iload_n 3, 1) := by decide +kernel
theorem dX5_addWalker_21 : decode cX5_addWalker 21 = .ok (.iload_n 1, 1) := by decide +kernel
theorem dX5_addWalker_22 : decode cX5_addWalker 22 = .ok (.iastore, 1) := by decide +kernel
theorem dX5_addWalker_23 : decode cX5_addWalker 23 = .ok (.aload_n 0, 1) := by decide +kernel
theorem dX5_addWalker_24 : decode cX5_addWalker 24 = .ok (.getfield 50, 3) := by decide +kernel
theorem dX5_addWalker_27 : decode cX5_addWalker 27 = .ok (.iload_n 3, 1) := by decide +kernel
theorem dX5_addWalker_28 : decode cX5_addWalker 28 = .ok (.iload_n 2, 1) := by decide +kernel
theorem dX5_addWalker_29 : decode cX5_addWalker 29 = .ok (.iastore, 1) := by decide +kernel
theorem dX5_addWalker_30 : decode cX5_addWalker 30 = .ok (.aload_n 0, 1) := by decide +kernel
theorem dX5_addWalker_31 : decode cX5_addWalker 31 = .ok (.getfield 53, 3) := by decide +kernel
theorem dX5_addWalker_34 : decode cX5_addWalker 34 = .ok (.iload_n 3, 1) := by decide +kernel
theorem dX5_addWalker_35 : decode cX5_addWalker 35 = .ok (.iconst 0, 1) := by decide +kernel
theorem dX5_addWalker_36 : decode cX5_addWalker 36 = .ok (.iastore, 1) := by decide +kernel
theorem dX5_addWalker_37 : decode cX5_addWalker 37 = .ok (.aload_n 0, 1) := by decide +kernel
theorem dX5_addWalker_38 : decode cX5_addWalker 38 = .ok (.dup, 1) := by decide +kernel
theorem dX5_addWalker_39 : decode cX5_addWalker 39 = .ok (.getfield 19, 3) := by decide +kernel
theorem dX5_addWalker_42 : decode cX5_addWalker 42 = .ok (.iconst 1, 1) := by decide +kernel
theorem dX5_addWalker_43 : decode cX5_addWalker 43 = .ok (.iadd, 1) := by decide +kernel
theorem dX5_addWalker_44 : decode cX5_addWalker 44 = .ok (.putfield 19, 3) := by decide +kernel
theorem dX5_addWalker_47 : decode cX5_addWalker 47 = .ok (.iload_n 3, 1) := by decide +kernel
theorem dX5_addWalker_48 : decode cX5_addWalker 48 = .ok (.ireturn, 1) := by decide +kernel
set_option maxRecDepth 20000 in
theorem c_X5_addWalker {G : Gl} {d : Nat} {σ : Sg} {c : Nat} (hT : TC c) {τ : Tw} (hR : RX c τ σ) (hO : OkT τ) (hp : τ.2.1 1 < 5) {s w : Int} : CT G d yX5_addWalker cX5_addWalker 4 (some .int) [.ref (gA G c), .int (iI s), .int (iI w)] σ (RE (some (.int (iI (τ.2.1 1)))) (fun υ => RX c (addW τ s w) υ ∧ Fr (TS c) σ υ)) := by
  refine CT.of (by decide +kernel) (Nat.le_of_ble_eq_true rfl) ?_
  change AW G _ RX5 _ _ _ 0 [(0, .ref (gA G c)), (1, .int (iI s)), (2, .int (iI w))] [] _ _
  have hO2 := hO
  obtain ⟨o1, o2, o3, o4, o5, o6, o7, o8, o9⟩ := hO2
  have p0 : σ.1 c 1 = τ.2.1 0 := hR.2.1 0 (by decide)
  have p1 : σ.1 c 2 = τ.2.1 1 := hR.2.1 1 (by decide)
  have p2 : σ.1 c 3 = τ.2.1 2 := hR.2.1 2 (by decide)
  have p3 : σ.1 c 4 = τ.2.1 3 := hR.2.1 3 (by decide)
  have p4 : σ.1 c 5 = τ.2.1 4 := hR.2.1 4 (by decide)
  have p5 : σ.1 c 6 = τ.2.1 5 := hR.2.1 5 (by decide)
  obtain ⟨n, hn⟩ := Int.eq_ofNat_of_zero_le o4
  rw [hn] at p1 hp
  have e : (τ.2.1 1).toNat = n := by omega
  refine A_aload_n (pc := 0) dX5_addWalker_0 rfl rfl ?_
  refine A_getIv (pc := 1) fX5_19 (shp_T hT) rfl p1 dX5_addWalker_1 ?_
  refine A_istore_n (pc := 4) dX5_addWalker_4 rfl (Nat.le_of_ble_eq_true rfl) ?_
  refine A_iload_n (pc := 5) dX5_addWalker_5 rfl rfl ?_
  refine A_if_lt (pc := 6) 14 dX5_addWalker_6 (by decide) (by omega) (by omega) (fun h6 => ?_) (fun h6 => ?_)
  · skip
    refine A_iconst (pc := 14) dX5_addWalker_14 ?_
    refine A_iret (pc := 15) rfl dX5_addWalker_15 ?_
    exfalso; omega
  · skip
    refine A_iload_n (pc := 9) dX5_addWalker_9 rfl rfl ?_
    refine A_iconst (pc := 10) dX5_addWalker_10 ?_
    refine A_icmp_lt (pc := 11) 16 dX5_addWalker_11 (by decide) (by omega) (by omega) (by omega) (by omega) (fun h11 => ?_) (fun h11 => ?_)
    · skip
      refine A_aload_n (pc := 16) dX5_addWalker_16 rfl rfl ?_
      refine A_getR (pc := 17) fX5_47 (shp_T hT) rfl dX5_addWalker_17 ?_
      refine A_iload_n (pc := 20) dX5_addWalker_20 rfl rfl ?_
      refine A_iload_n (pc := 21) dX5_addWalker_21 rfl rfl ?_
      refine A_iast (pc := 22) n (shp_T_walkerAt hT) rfl (by omega) (Nat.le_of_ble_eq_true rfl) dX5_addWalker_22 ?_
      refine A_aload_n (pc := 23) dX5_addWalker_23 rfl rfl ?_
      refine A_getR (pc := 24) fX5_50 (shp_T hT) rfl dX5_addWalker_24 ?_
      refine A_iload_n (pc := 27) dX5_addWalker_27 rfl rfl ?_
      refine A_iload_n (pc := 28) dX5_addWalker_28 rfl rfl ?_
      refine A_iast (pc := 29) n (shp_T_walkerFaces hT) rfl (by omega) (Nat.le_of_ble_eq_true rfl) dX5_addWalker_29 ?_
      refine A_aload_n (pc := 30) dX5_addWalker_30 rfl rfl ?_
      refine A_getR (pc := 31) fX5_53 (shp_T hT) rfl dX5_addWalker_31 ?_
      refine A_iload_n (pc := 34) dX5_addWalker_34 rfl rfl ?_
      refine A_iconst (pc := 35) dX5_addWalker_35 ?_
      refine A_iast (pc := 36) n (shp_T_walkerTried hT) rfl (by omega) (Nat.le_of_ble_eq_true rfl) dX5_addWalker_36 ?_
      refine A_aload_n (pc := 37) dX5_addWalker_37 rfl rfl ?_
      refine A_dup (pc := 38) dX5_addWalker_38 rfl ?_
      refine A_getIv (pc := 39) fX5_19 (shp_T hT) rfl (show _ = (n : Int) from by rw [uI_at, if_neg (by omega)]; rw [uI_at, if_neg (by omega)]; rw [uI_at, if_neg (by omega)]; exact p1) dX5_addWalker_39 ?_
      refine A_iconst (pc := 42) dX5_addWalker_42 ?_
      refine A_iadd (pc := 43) dX5_addWalker_43 ?_
      refine A_putI (pc := 44) fX5_19 wr_4_2 (shp_T hT) rfl dX5_addWalker_44 ?_
      refine A_iload_n (pc := 47) dX5_addWalker_47 rfl rfl ?_
      refine A_iret (pc := 48) rfl dX5_addWalker_48 ?_
      refine ⟨by rw [hn], ?_, (((Fr.rf.uI (TSm 5 (by decide))).uI (TSm 6 (by decide))).uI (TSm 7 (by decide))).uI (TSm 0 (by decide))⟩
      have q := ((hR.setA 4 n s (by decide)).setA 5 n w (by decide)).setA 6 n 0 (by decide)
      have q2 := q.inc1 (n := n) hn (fun j hj => by
        have hh : j = 0 ∨ j = 1 ∨ j = 2 := by omega
        rcases hh with rfl | rfl | rfl <;> simp [uI_at, tA])
      rw [addW, e, hn]
      exact q2
    · skip
      refine A_iconst (pc := 14) dX5_addWalker_14 ?_
      refine A_iret (pc := 15) rfl dX5_addWalker_15 ?_
      exfalso; omega
theorem dX5_place_0 : decode cX5_place 0 = .ok (.aload_n 0, 1) := by decide +kernel
theorem dX5_place_1 : decode cX5_place 1 = .ok (.iload_n 1, 1) := by decide +kernel
theorem dX5_place_2 : decode cX5_place 2 = .ok (.invokevirtual 79, 3) := by decide +kernel
theorem dX5_place_5 : decode cX5_place 5 = .ok (.ifCond .eq 17, 3) := by decide +kernel
theorem dX5_place_8 : decode cX5_place 8 = .ok (.aload_n 0, 1) := by decide +kernel
theorem dX5_place_9 : decode cX5_place 9 = .ok (.getfield 47, 3) := by decide +kernel
theorem dX5_place_12 : decode cX5_place 12 = .ok (.iload_n 1, 1) := by decide +kernel
theorem dX5_place_13 : decode cX5_place 13 = .ok (.iload_n 2, 1) := by decide +kernel
theorem dX5_place_14 : decode cX5_place 14 = .ok (.iastore, 1) := by decide +kernel
theorem dX5_place_15 : decode cX5_place 15 = .ok (.aload_n 0, 1) := by decide +kernel
theorem dX5_place_16 : decode cX5_place 16 = .ok (.getfield 50, 3) := by decide +kernel
theorem dX5_place_19 : decode cX5_place 19 = .ok (.iload_n 1, 1) := by decide +kernel
theorem dX5_place_20 : decode cX5_place 20 = .ok (.iload_n 3, 1) := by decide +kernel
theorem dX5_place_21 : decode cX5_place 21 = .ok (.iastore, 1) := by decide +kernel
theorem dX5_place_22 : decode cX5_place 22 = .ok (.return_, 1) := by decide +kernel
set_option maxRecDepth 20000 in
theorem c_X5_place {G : Gl} {d : Nat} {σ : Sg} {c : Nat} (hT : TC c) {τ : Tw} (hR : RX c τ σ) (hO : OkT τ) {p : Nat} (hp : (p : Int) < τ.2.1 1) {s w : Int} : CT G (d + 1) yX5_place cX5_place 4 none [.ref (gA G c), .int (iI (p : Int)), .int (iI s), .int (iI w)] σ (RE none (fun υ => RX c (plc τ p s w) υ ∧ Fr (TS c) σ υ)) := by
  refine CT.of (by decide +kernel) (Nat.le_of_ble_eq_true rfl) ?_
  change AW G _ RX5 _ _ _ 0 [(0, .ref (gA G c)), (1, .int (iI (p : Int))), (2, .int (iI s)), (3, .int (iI w))] [] _ _
  have hO2 := hO
  obtain ⟨o1, o2, o3, o4, o5, o6, o7, o8, o9⟩ := hO2
  have p0 : σ.1 c 1 = τ.2.1 0 := hR.2.1 0 (by decide)
  have p1 : σ.1 c 2 = τ.2.1 1 := hR.2.1 1 (by decide)
  have p2 : σ.1 c 3 = τ.2.1 2 := hR.2.1 2 (by decide)
  have p3 : σ.1 c 4 = τ.2.1 3 := hR.2.1 3 (by decide)
  have p4 : σ.1 c 5 = τ.2.1 4 := hR.2.1 4 (by decide)
  have p5 : σ.1 c 6 = τ.2.1 5 := hR.2.1 5 (by decide)
  refine A_aload_n (pc := 0) dX5_place_0 rfl rfl ?_
  refine A_iload_n (pc := 1) dX5_place_1 rfl rfl ?_
  refine A_callV1 (pc := 2) kX5_79 (shp_T hT) rfl (c_X5_isWalker hT hR hO (by omega) (by omega)) dX5_place_2 rfl rfl (Nat.le_of_ble_eq_true rfl) (Nat.le_of_ble_eq_true rfl) ?_
  refine A_ifb_eq (pc := 5) 22 dX5_place_5 (by decide) (fun h5 => ?_) (fun h5 => ?_)
  · skip
    refine A_vret (pc := 22) rfl dX5_place_22 ?_
    exfalso; omega
  · skip
    refine A_aload_n (pc := 8) dX5_place_8 rfl rfl ?_
    refine A_getR (pc := 9) fX5_47 (shp_T hT) rfl dX5_place_9 ?_
    refine A_iload_n (pc := 12) dX5_place_12 rfl rfl ?_
    refine A_iload_n (pc := 13) dX5_place_13 rfl rfl ?_
    refine A_iast (pc := 14) _ (shp_T_walkerAt hT) rfl (by omega) (Nat.le_of_ble_eq_true rfl) dX5_place_14 ?_
    refine A_aload_n (pc := 15) dX5_place_15 rfl rfl ?_
    refine A_getR (pc := 16) fX5_50 (shp_T hT) rfl dX5_place_16 ?_
    refine A_iload_n (pc := 19) dX5_place_19 rfl rfl ?_
    refine A_iload_n (pc := 20) dX5_place_20 rfl rfl ?_
    refine A_iast (pc := 21) _ (shp_T_walkerFaces hT) rfl (by omega) (Nat.le_of_ble_eq_true rfl) dX5_place_21 ?_
    refine A_vret (pc := 22) rfl dX5_place_22 ?_
    exact ⟨rfl, (hR.setA 4 p s (by decide)).setA 5 p w (by decide), (Fr.rf.uI (TSm 5 (by decide))).uI (TSm 6 (by decide))⟩
theorem dX5_build_0 : decode cX5_build 0 = .ok (.aload_n 0, 1) := by decide +kernel
theorem dX5_build_1 : decode cX5_build 1 = .ok (.iload_n 2, 1) := by decide +kernel
theorem dX5_build_2 : decode cX5_build 2 = .ok (.ifCond .eq 14, 3) := by decide +kernel
theorem dX5_build_5 : decode cX5_build 5 = .ok (.aload_n 0, 1) := by decide +kernel
theorem dX5_build_6 : decode cX5_build 6 = .ok (.getfield 9, 3) := by decide +kernel
theorem dX5_build_9 : decode cX5_build 9 = .ok (.iload_n 1, 1) := by decide +kernel
theorem dX5_build_10 : decode cX5_build 10 = .ok (.invokestatic 69, 3) := by decide +kernel
theorem dX5_build_13 : decode cX5_build 13 = .ok (.goto 11, 3) := by decide +kernel
theorem dX5_build_16 : decode cX5_build 16 = .ok (.aload_n 0, 1) := by decide +kernel
theorem dX5_build_17 : decode cX5_build 17 = .ok (.getfield 9, 3) := by decide +kernel
theorem dX5_build_20 : decode cX5_build 20 = .ok (.iload_n 1, 1) := by decide +kernel
theorem dX5_build_21 : decode cX5_build 21 = .ok (.invokestatic 73, 3) := by decide +kernel
theorem dX5_build_24 : decode cX5_build 24 = .ok (.putfield 9, 3) := by decide +kernel
theorem dX5_build_27 : decode cX5_build 27 = .ok (.return_, 1) := by decide +kernel
set_option maxRecDepth 20000 in
theorem c_X5_build {G : Gl} {d : Nat} {σ : Sg} {c : Nat} (hT : TC c) {τ : Tw} (hR : RX c τ σ) (hO : OkT τ) {s : Int} (hs1 : -2147483648 ≤ s) (hs2 : s < 2147483648) {b : Bool} : CT G (d + 1) yX5_build cX5_build 3 none [.ref (gA G c), .int (iI s), .int (iI (bI (b = true)))] σ (RE none (fun υ => RX c (tH τ (if b = true then τ.1 ||| sqB s else nB τ.1 (sqB s))) υ ∧ Fr (TS c) σ υ)) := by
  refine CT.of (by decide +kernel) (Nat.le_of_ble_eq_true rfl) ?_
  change AW G _ RX5 _ _ _ 0 [(0, .ref (gA G c)), (1, .int (iI s)), (2, .int (iI (bI (b = true))))] [] _ _
  have hO2 := hO
  obtain ⟨o1, o2, o3, o4, o5, o6, o7, o8, o9⟩ := hO2
  have p0 : σ.1 c 1 = τ.2.1 0 := hR.2.1 0 (by decide)
  have p1 : σ.1 c 2 = τ.2.1 1 := hR.2.1 1 (by decide)
  have p2 : σ.1 c 3 = τ.2.1 2 := hR.2.1 2 (by decide)
  have p3 : σ.1 c 4 = τ.2.1 3 := hR.2.1 3 (by decide)
  have p4 : σ.1 c 5 = τ.2.1 4 := hR.2.1 4 (by decide)
  have p5 : σ.1 c 6 = τ.2.1 5 := hR.2.1 5 (by decide)
  refine A_aload_n (pc := 0) dX5_build_0 rfl rfl ?_
  refine A_iload_n (pc := 1) dX5_build_1 rfl rfl ?_
  refine A_ifb_eq (pc := 2) 16 dX5_build_2 (by decide) (fun h2 => ?_) (fun h2 => ?_)
  · skip
    refine A_aload_n (pc := 16) dX5_build_16 rfl rfl ?_
    refine A_getLv (pc := 17) fX5_9 (shp_T hT) rfl hR.1 dX5_build_17 ?_
    refine A_iload_n (pc := 20) dX5_build_20 rfl rfl ?_
    refine A_callS1 (pc := 21) kX5_73 (c_X0_without o1 hs1 hs2) dX5_build_21 rfl rfl (Nat.le_of_ble_eq_true rfl) (Nat.le_of_ble_eq_true rfl) ?_
    refine A_putL (pc := 24) fX5_9 wr_4_0 (shp_T hT) rfl dX5_build_24 ?_
    refine A_vret (pc := 27) rfl dX5_build_27 ?_
    exact ⟨rfl, by rw [if_neg h2]; exact hR.setH _, Fr.rf.uL (TSm 0 (by decide))⟩
  · skip
    refine A_aload_n (pc := 5) dX5_build_5 rfl rfl ?_
    refine A_getLv (pc := 6) fX5_9 (shp_T hT) rfl hR.1 dX5_build_6 ?_
    refine A_iload_n (pc := 9) dX5_build_9 rfl rfl ?_
    refine A_callS1 (pc := 10) kX5_69 (c_X0_with o1 hs1 hs2) dX5_build_10 rfl rfl (Nat.le_of_ble_eq_true rfl) (Nat.le_of_ble_eq_true rfl) ?_
    refine A_goto (pc := 13) 24 dX5_build_13 (by decide) ?_
    refine A_putL (pc := 24) fX5_9 wr_4_0 (shp_T hT) rfl dX5_build_24 ?_
    refine A_vret (pc := 27) rfl dX5_build_27 ?_
    exact ⟨rfl, by rw [if_pos h2]; exact hR.setH _, Fr.rf.uL (TSm 0 (by decide))⟩
theorem dX5_bear_0 : decode cX5_bear 0 = .ok (.aload_n 0, 1) := by decide +kernel
theorem dX5_bear_1 : decode cX5_bear 1 = .ok (.dup, 1) := by decide +kernel
theorem dX5_bear_2 : decode cX5_bear 2 = .ok (.getfield 28, 3) := by decide +kernel
theorem dX5_bear_5 : decode cX5_bear 5 = .ok (.iload_n 2, 1) := by decide +kernel
theorem dX5_bear_6 : decode cX5_bear 6 = .ok (.iadd, 1) := by decide +kernel
theorem dX5_bear_7 : decode cX5_bear 7 = .ok (.putfield 28, 3) := by decide +kernel
theorem dX5_bear_10 : decode cX5_bear 10 = .ok (.iload_n 2, 1) := by decide +kernel
theorem dX5_bear_11 : decode cX5_bear 11 = .ok (.ifCond .le 21, 3) := by decide +kernel
theorem dX5_bear_14 : decode cX5_bear 14 = .ok (.aload_n 0, 1) := by decide +kernel
theorem dX5_bear_15 : decode cX5_bear 15 = .ok (.iload_n 1, 1) := by decide +kernel
theorem dX5_bear_16 : decode cX5_bear 16 = .ok (.invokevirtual 79, 3) := by decide +kernel
theorem dX5_bear_19 : decode cX5_bear 19 = .ok (.ifCond .eq 13, 3) := by decide +kernel
theorem dX5_bear_22 : decode cX5_bear 22 = .ok (.aload_n 0, 1) := by decide +kernel
theorem dX5_bear_23 : decode cX5_bear 23 = .ok (.getfield 53, 3) := by decide +kernel
theorem dX5_bear_26 : decode cX5_bear 26 = .ok (.iload_n 1, 1) := by decide +kernel
theorem dX5_bear_27 : decode cX5_bear 27 = .ok (.dup2, 1) := by decide +kernel
theorem dX5_bear_28 : decode cX5_bear 28 = .ok (.iaload, 1) := by decide +kernel
theorem dX5_bear_29 : decode cX5_bear 29 = .ok (.iconst 1, 1) := by decide +kernel
theorem dX5_bear_30 : decode cX5_bear 30 = .ok (.iadd, 1) := by decide +kernel
theorem dX5_bear_31 : decode cX5_bear 31 = .ok (.iastore, 1) := by decide +kernel
theorem dX5_bear_32 : decode cX5_bear 32 = .ok (.return_, 1) := by decide +kernel
set_option maxRecDepth 20000 in
theorem c_X5_bear {G : Gl} {d : Nat} {σ : Sg} {c : Nat} (hT : TC c) {τ : Tw} (hR : RX c τ σ) (hO : OkT τ) {p : Nat} (hp : (p : Int) < τ.2.1 1) {m : Int} (m1 : 0 ≤ m) (m2 : m < 64) : CT G (d + 1) yX5_bear cX5_bear 3 none [.ref (gA G c), .int (iI (p : Int)), .int (iI m)] σ (RE none (fun υ => RX c (bea τ p m) υ ∧ Fr (TS c) σ υ)) := by
  refine CT.of (by decide +kernel) (Nat.le_of_ble_eq_true rfl) ?_
  change AW G _ RX5 _ _ _ 0 [(0, .ref (gA G c)), (1, .int (iI (p : Int))), (2, .int (iI m))] [] _ _
  have hO2 := hO
  obtain ⟨o1, o2, o3, o4, o5, o6, o7, o8, o9⟩ := hO2
  have p0 : σ.1 c 1 = τ.2.1 0 := hR.2.1 0 (by decide)
  have p1 : σ.1 c 2 = τ.2.1 1 := hR.2.1 1 (by decide)
  have p2 : σ.1 c 3 = τ.2.1 2 := hR.2.1 2 (by decide)
  have p3 : σ.1 c 4 = τ.2.1 3 := hR.2.1 3 (by decide)
  have p4 : σ.1 c 5 = τ.2.1 4 := hR.2.1 4 (by decide)
  have p5 : σ.1 c 6 = τ.2.1 5 := hR.2.1 5 (by decide)
  refine A_aload_n (pc := 0) dX5_bear_0 rfl rfl ?_
  refine A_dup (pc := 1) dX5_bear_1 rfl ?_
  refine A_getIv (pc := 2) fX5_28 (shp_T hT) rfl p4 dX5_bear_2 ?_
  refine A_iload_n (pc := 5) dX5_bear_5 rfl rfl ?_
  refine A_iadd (pc := 6) dX5_bear_6 ?_
  refine A_putI (pc := 7) fX5_28 wr_4_5 (shp_T hT) rfl dX5_bear_7 ?_
  have hR1 := hR.setS (τ.2.1 4 + m) (show 2 ≤ 4 by decide)
  have hO1 := hO.setS (τ.2.1 4 + m) (show 3 ≤ 4 by decide)
  refine A_iload_n (pc := 10) dX5_bear_10 rfl rfl ?_
  refine A_if_le (pc := 11) 32 dX5_bear_11 (by decide) (by omega) (by omega) (fun h11 => ?_) (fun h11 => ?_)
  · skip
    refine A_vret (pc := 32) rfl dX5_bear_32 ?_
    exact ⟨rfl, by rw [bea, if_neg (by omega)]; exact hR1, Fr.rf.uI (TSm 0 (by decide))⟩
  · skip
    refine A_aload_n (pc := 14) dX5_bear_14 rfl rfl ?_
    refine A_iload_n (pc := 15) dX5_bear_15 rfl rfl ?_
    refine A_callV1 (pc := 16) kX5_79 (shp_T hT) rfl (c_X5_isWalker hT hR1 hO1 (by omega) (by omega)) dX5_bear_16 rfl rfl (Nat.le_of_ble_eq_true rfl) (Nat.le_of_ble_eq_true rfl) ?_
    refine A_ifb_eq (pc := 19) 32 dX5_bear_19 (by decide) (fun h19 => ?_) (fun h19 => ?_)
    · skip
      refine A_vret (pc := 32) rfl dX5_bear_32 ?_
      exact absurd ⟨by omega, hp⟩ h19
    · skip
      refine A_aload_n (pc := 22) dX5_bear_22 rfl rfl ?_
      refine A_getR (pc := 23) fX5_53 (shp_T hT) rfl dX5_bear_23 ?_
      refine A_iload_n (pc := 26) dX5_bear_26 rfl rfl ?_
      refine A_dup2 (pc := 27) dX5_bear_27 rfl rfl ?_
      refine A_ialdv (pc := 28) _ (shp_T_walkerTried hT) rfl (by omega) (Nat.le_of_ble_eq_true rfl) (show _ = τ.2.2 6 p from by rw [uI_at, if_neg (by omega)]; exact hR.wt hp) dX5_bear_28 ?_
      refine A_iconst (pc := 29) dX5_bear_29 ?_
      refine A_iadd (pc := 30) dX5_bear_30 ?_
      refine A_iast (pc := 31) _ (shp_T_walkerTried hT) rfl (by omega) (Nat.le_of_ble_eq_true rfl) dX5_bear_31 ?_
      refine A_vret (pc := 32) rfl dX5_bear_32 ?_
      exact ⟨rfl, by rw [bea, if_pos (by omega)]; exact hR1.setA 6 p _ (by decide), (Fr.rf.uI (TSm 0 (by decide))).uI (TSm 7 (by decide))⟩
theorem dX5_draw_0 : decode cX5_draw 0 = .ok (.aload_n 0, 1) := by decide +kernel
theorem dX5_draw_1 : decode cX5_draw 1 = .ok (.aload_n 0, 1) := by decide +kernel
theorem dX5_draw_2 : decode cX5_draw 2 = .ok (.getfield 31, 3) := by decide +kernel
theorem dX5_draw_5 : decode cX5_draw 5 = .ok (.ldc 151, 2) := by decide +kernel
theorem dX5_draw_7 : decode cX5_draw 7 = .ok (.imul, 1) := by decide +kernel
theorem dX5_draw_8 : decode cX5_draw 8 = .ok (.sipush 12345, 3) := by decide +kernel
theorem dX5_draw_11 : decode cX5_draw 11 = .ok (.iadd, 1) := by decide +kernel
theorem dX5_draw_12 : decode cX5_draw 12 = .ok (.putfield 31, 3) := by decide +kernel
theorem dX5_draw_15 : decode cX5_draw 15 = .ok (.iload_n 1, 1) := by decide +kernel
theorem dX5_draw_16 : decode cX5_draw 16 = .ok (.ifCond .le 15, 3) := by decide +kernel
theorem dX5_draw_19 : decode cX5_draw 19 = .ok (.aload_n 0, 1) := by decide +kernel
theorem dX5_draw_20 : decode cX5_draw 20 = .ok (.getfield 31, 3) := by decide +kernel
theorem dX5_draw_23 : decode cX5_draw 23 = .ok (.bipush 16, 2) := by decide +kernel
theorem dX5_draw_25 : decode cX5_draw 25 = .ok (.iushr, 1) := by decide +kernel
theorem dX5_draw_26 : decode cX5_draw 26 = .ok (.iload_n 1, 1) := by decide +kernel
theorem dX5_draw_27 : decode cX5_draw 27 = .ok (.irem, 1) := by decide +kernel
theorem dX5_draw_28 : decode cX5_draw 28 = .ok (.goto 4, 3) := by decide +kernel
theorem dX5_draw_31 : decode cX5_draw 31 = .ok (.iconst 0, 1) := by decide +kernel
theorem dX5_draw_32 : decode cX5_draw 32 = .ok (.ireturn, 1) := by decide +kernel
set_option maxRecDepth 20000 in
theorem c_X5_draw {G : Gl} {d : Nat} {σ : Sg} {c : Nat} (hT : TC c) {τ : Tw} (hR : RX c τ σ) (hO : OkT τ)  : CT G d yX5_draw cX5_draw 2 (some .int) [.ref (gA G c), .int (iI 4)] σ (RE (some (.int (iI (dval (τ.2.1 5))))) (fun υ => RX c (tS τ 5 (dseed (τ.2.1 5))) υ ∧ Fr (TS c) σ υ)) := by
  refine CT.of (by decide +kernel) (Nat.le_of_ble_eq_true rfl) ?_
  change AW G _ RX5 _ _ _ 0 [(0, .ref (gA G c)), (1, .int (iI 4))] [] _ _
  have hO2 := hO
  obtain ⟨o1, o2, o3, o4, o5, o6, o7, o8, o9⟩ := hO2
  have p0 : σ.1 c 1 = τ.2.1 0 := hR.2.1 0 (by decide)
  have p1 : σ.1 c 2 = τ.2.1 1 := hR.2.1 1 (by decide)
  have p2 : σ.1 c 3 = τ.2.1 2 := hR.2.1 2 (by decide)
  have p3 : σ.1 c 4 = τ.2.1 3 := hR.2.1 3 (by decide)
  have p4 : σ.1 c 5 = τ.2.1 4 := hR.2.1 4 (by decide)
  have p5 : σ.1 c 6 = τ.2.1 5 := hR.2.1 5 (by decide)
  refine A_aload_n (pc := 0) dX5_draw_0 rfl rfl ?_
  refine A_aload_n (pc := 1) dX5_draw_1 rfl rfl ?_
  refine A_getIv (pc := 2) fX5_31 (shp_T hT) rfl p5 dX5_draw_2 ?_
  refine A_ldc (pc := 5) inX5_151 dX5_draw_5 ?_
  refine A_imul (pc := 7) dX5_draw_7 ?_
  refine A_sipush (pc := 8) dX5_draw_8 (by decide) ?_
  refine A_iadd (pc := 11) dX5_draw_11 ?_
  refine A_putI (pc := 12) fX5_31 wr_4_6 (shp_T hT) rfl dX5_draw_12 ?_
  refine A_iload_n (pc := 15) dX5_draw_15 rfl rfl ?_
  refine A_if_le (pc := 16) 31 dX5_draw_16 (by decide) (by omega) (by omega) (fun h16 => ?_) (fun h16 => ?_)
  · skip
    refine A_iconst (pc := 31) dX5_draw_31 ?_
    refine A_iret (pc := 32) rfl dX5_draw_32 ?_
    exfalso; omega
  · skip
    refine A_aload_n (pc := 19) dX5_draw_19 rfl rfl ?_
    refine A_getIv (pc := 20) fX5_31 (shp_T hT) rfl (show _ = dseed (τ.2.1 5) from by rw [uI_at, if_pos ⟨rfl, rfl⟩]; rfl) dX5_draw_20 ?_
    refine A_bipush (pc := 23) dX5_draw_23 (by decide) ?_
    refine A_iushr (pc := 25) (dseed (τ.2.1 5) % 4294967296 / 65536) dX5_draw_25 (ushr16 _) ?_
    refine A_iload_n (pc := 26) dX5_draw_26 rfl rfl ?_
    refine A_irem (pc := 27) dX5_draw_27 (by omega) (by omega) (by omega) (by omega) ?_
    refine A_goto (pc := 28) 32 dX5_draw_28 (by decide) ?_
    refine A_iret (pc := 32) rfl dX5_draw_32 ?_
    exact ⟨rfl, hR.setS _ (by decide), Fr.rf.uI (TSm 0 (by decide))⟩
theorem dX5_liveOneDay_0 : decode cX5_liveOneDay 0 = .ok (.aload_n 0, 1) := by decide +kernel
theorem dX5_liveOneDay_1 : decode cX5_liveOneDay 1 = .ok (.dup, 1) := by decide +kernel
theorem dX5_liveOneDay_2 : decode cX5_liveOneDay 2 = .ok (.getfield 25, 3) := by decide +kernel
theorem dX5_liveOneDay_5 : decode cX5_liveOneDay 5 = .ok (.iconst 1, 1) := by decide +kernel
theorem dX5_liveOneDay_6 : decode cX5_liveOneDay 6 = .ok (.iadd, 1) := by decide +kernel
theorem dX5_liveOneDay_7 : decode cX5_liveOneDay 7 = .ok (.putfield 25, 3) := by decide +kernel
theorem dX5_liveOneDay_10 : decode cX5_liveOneDay 10 = .ok (.iconst 0, 1) := by decide +kernel
theorem dX5_liveOneDay_11 : decode cX5_liveOneDay 11 = .ok (.istore_n 1, 1) := by decide +kernel
theorem dX5_liveOneDay_12 : decode cX5_liveOneDay 12 = .ok (.iload_n 1, 1) := by decide +kernel
theorem dX5_liveOneDay_13 : decode cX5_liveOneDay 13 = .ok (.aload_n 0, 1) := by decide +kernel
theorem dX5_liveOneDay_14 : decode cX5_liveOneDay 14 = .ok (.getfield 19, 3) := by decide +kernel
theorem dX5_liveOneDay_17 : decode cX5_liveOneDay 17 = .ok (.if_icmp .ge 55, 3) := by decide +kernel
theorem dX5_liveOneDay_20 : decode cX5_liveOneDay 20 = .ok (.iload_n 1, 1) := by decide +kernel
theorem dX5_liveOneDay_21 : decode cX5_liveOneDay 21 = .ok (.iconst 5, 1) := by decide +kernel
theorem dX5_liveOneDay_22 : decode cX5_liveOneDay 22 = .ok (.if_icmp .ge 50, 3) := by decide +kernel
theorem dX5_liveOneDay_25 : decode cX5_liveOneDay 25 = .ok (.aload_n 0, 1) := by decide +kernel
theorem dX5_liveOneDay_26 : decode cX5_liveOneDay 26 = .ok (.iconst 4, 1) := by decide +kernel
theorem dX5_liveOneDay_27 : decode cX5_liveOneDay 27 = .ok (.invokevirtual 134, 3) := by decide +kernel
theorem dX5_liveOneDay_30 : decode cX5_liveOneDay 30 = .ok (.istore_n 2, 1) := by decide +kernel
theorem dX5_liveOneDay_31 : decode cX5_liveOneDay 31 = .ok (.aload_n 0, 1) := by decide +kernel
theorem dX5_liveOneDay_32 : decode cX5_liveOneDay 32 = .ok (.getfield 47, 3) := by decide +kernel
theorem dX5_liveOneDay_35 : decode cX5_liveOneDay 35 = .ok (.iload_n 1, 1) := by decide +kernel
theorem dX5_liveOneDay_36 : decode cX5_liveOneDay 36 = .ok (.iaload, 1) := by decide +kernel
theorem dX5_liveOneDay_37 : decode cX5_liveOneDay 37 = .ok (.iload_n 2, 1) := by decide +kernel
theorem dX5_liveOneDay_38 : decode cX5_liveOneDay 38 = .ok (.invokestatic 120, 3) := by decide +kernel
theorem dX5_liveOneDay_41 : decode cX5_liveOneDay 41 = .ok (.istore_n 3, 1) := by decide +kernel
theorem dX5_liveOneDay_42 : decode cX5_liveOneDay 42 = .ok (.aload_n 0, 1) := by decide +kernel
theorem dX5_liveOneDay_43 : decode cX5_liveOneDay 43 = .ok (.iload_n 1, 1) := by decide +kernel
theorem dX5_liveOneDay_44 : decode cX5_liveOneDay 44 = .ok (.aload_n 0, 1) := by decide +kernel
theorem dX5_liveOneDay_45 : decode cX5_liveOneDay 45 = .ok (.iload_n 3, 1) := by decide +kernel
theorem dX5_liveOneDay_46 : decode cX5_liveOneDay 46 = .ok (.invokevirtual 137, 3) := by decide +kernel
theorem dX5_liveOneDay_49 : decode cX5_liveOneDay 49 = .ok (.ifCond .eq 7, 3) := by decide +kernel
theorem dX5_liveOneDay_52 : decode cX5_liveOneDay 52 = .ok (.iload_n 3, 1) := by decide +kernel
theorem dX5_liveOneDay_53 : decode cX5_liveOneDay 53 = .ok (.goto 9, 3) := by decide +kernel
theorem dX5_liveOneDay_56 : decode cX5_liveOneDay 56 = .ok (.aload_n 0, 1) := by decide +kernel
theorem dX5_liveOneDay_57 : decode cX5_liveOneDay 57 = .ok (.getfield 47, 3) := by decide +kernel
theorem dX5_liveOneDay_60 : decode cX5_liveOneDay 60 = .ok (.iload_n 1, 1) := by decide +kernel
theorem dX5_liveOneDay_61 : decode cX5_liveOneDay 61 = .ok (.iaload, 1) := by decide +kernel
theorem dX5_liveOneDay_62 : decode cX5_liveOneDay 62 = .ok (.iload_n 2, 1) := by decide +kernel
theorem dX5_liveOneDay_63 : decode cX5_liveOneDay 63 = .ok (.invokevirtual 140, 3) := by decide +kernel
theorem dX5_liveOneDay_66 : decode cX5_liveOneDay 66 = .ok (.iinc 1 1, 3) := by decide +kernel
theorem dX5_liveOneDay_69 : decode cX5_liveOneDay 69 = .ok (.goto (-57), 3) := by decide +kernel
theorem dX5_liveOneDay_72 : decode cX5_liveOneDay 72 = .ok (.iconst 0, 1) := by decide +kernel
theorem dX5_liveOneDay_73 : decode cX5_liveOneDay 73 = .ok (.istore_n 1, 1) := by decide +kernel
theorem dX5_liveOneDay_74 : decode cX5_liveOneDay 74 = .ok (.iload_n 1, 1) := by decide +kernel
theorem dX5_liveOneDay_75 : decode cX5_liveOneDay 75 = .ok (.aload_n 0, 1) := by decide +kernel
theorem dX5_liveOneDay_76 : decode cX5_liveOneDay 76 = .ok (.getfield 19, 3) := by decide +kernel
theorem dX5_liveOneDay_79 : decode cX5_liveOneDay 79 = .ok (.if_icmp .ge 27, 3) := by decide +kernel
theorem dX5_liveOneDay_82 : decode cX5_liveOneDay 82 = .ok (.iload_n 1, 1) := by decide +kernel
theorem dX5_liveOneDay_83 : decode cX5_liveOneDay 83 = .ok (.iconst 5, 1) := by decide +kernel
theorem dX5_liveOneDay_84 : decode cX5_liveOneDay 84 = .ok (.if_icmp .ge 22, 3) := by decide +kernel
theorem dX5_liveOneDay_87 : decode cX5_liveOneDay 87 = .ok (.aload_n 0, 1) := by decide +kernel
theorem dX5_liveOneDay_88 : decode cX5_liveOneDay 88 = .ok (.iload_n 1, 1) := by decide +kernel
theorem dX5_liveOneDay_89 : decode cX5_liveOneDay 89 = .ok (.aload_n 0, 1) := by decide +kernel
theorem dX5_liveOneDay_90 : decode cX5_liveOneDay 90 = .ok (.iload_n 1, 1) := by decide +kernel
theorem dX5_liveOneDay_91 : decode cX5_liveOneDay 91 = .ok (.invokevirtual 144, 3) := by decide +kernel
theorem dX5_liveOneDay_94 : decode cX5_liveOneDay 94 = .ok (.invokestatic 115, 3) := by decide +kernel
theorem dX5_liveOneDay_97 : decode cX5_liveOneDay 97 = .ok (.invokevirtual 147, 3) := by decide +kernel
theorem dX5_liveOneDay_100 : decode cX5_liveOneDay 100 = .ok (.iinc 1 1, 3) := by decide +kernel
theorem dX5_liveOneDay_103 : decode cX5_liveOneDay 103 = .ok (.goto (-29), 3) := by decide +kernel
theorem dX5_liveOneDay_106 : decode cX5_liveOneDay 106 = .ok (.return_, 1) := by decide +kernel
set_option maxRecDepth 20000 in
theorem l2_X5_liveOneDay {G : Gl} {d : Nat} {σ0 : Sg} {K : Option Value → Sg → Prop} {c : Nat} (hT : TC c) : ∀ (n i : Nat) (τ : Tw) (σ : Sg), (i : Int) + n = τ.2.1 1 → RX c τ σ → OkT τ → Fr (TS c) σ0 σ → (∀ υ, RX c (beaG n i τ) υ → Fr (TS c) σ0 υ → K none υ) → AW G (d + 4) RX5 cX5_liveOneDay 4 none 74 [(0, .ref (gA G c)), (1, .int (iI (i : Int)))] [] σ K := by
  intro n
  induction n using Nat.strongRecOn
  rename_i n ih
  intro i τ σ hn hR hO hF hK
  have hO2 := hO
  obtain ⟨o1, o2, o3, o4, o5, o6, o7, o8, o9⟩ := hO2
  have p0 : σ.1 c 1 = τ.2.1 0 := hR.2.1 0 (by decide)
  have p1 : σ.1 c 2 = τ.2.1 1 := hR.2.1 1 (by decide)
  have p2 : σ.1 c 3 = τ.2.1 2 := hR.2.1 2 (by decide)
  have p3 : σ.1 c 4 = τ.2.1 3 := hR.2.1 3 (by decide)
  have p4 : σ.1 c 5 = τ.2.1 4 := hR.2.1 4 (by decide)
  have p5 : σ.1 c 6 = τ.2.1 5 := hR.2.1 5 (by decide)
  refine A_iload_n (pc := 74) dX5_liveOneDay_74 rfl rfl ?_
  refine A_aload_n (pc := 75) dX5_liveOneDay_75 rfl rfl ?_
  refine A_getIv (pc := 76) fX5_19 (shp_T hT) rfl p1 dX5_liveOneDay_76 ?_
  refine A_icmp_ge (pc := 79) 106 dX5_liveOneDay_79 (by decide) (by omega) (by omega) (by omega) (by omega) (fun h79 => ?_) (fun h79 => ?_)
  · skip
    refine A_vret (pc := 106) rfl dX5_liveOneDay_106 ?_
    have hn0 : n = 0 := by omega
    subst hn0
    exact hK σ hR hF
  · skip
    refine A_iload_n (pc := 82) dX5_liveOneDay_82 rfl rfl ?_
    refine A_iconst (pc := 83) dX5_liveOneDay_83 ?_
    refine A_icmp_ge (pc := 84) 106 dX5_liveOneDay_84 (by decide) (by omega) (by omega) (by omega) (by omega) (fun h84 => ?_) (fun h84 => ?_)
    · skip
      refine A_vret (pc := 106) rfl dX5_liveOneDay_106 ?_
      exfalso; omega
    · skip
      refine A_aload_n (pc := 87) dX5_liveOneDay_87 rfl rfl ?_
      refine A_iload_n (pc := 88) dX5_liveOneDay_88 rfl rfl ?_
      refine A_aload_n (pc := 89) dX5_liveOneDay_89 rfl rfl ?_
      refine A_iload_n (pc := 90) dX5_liveOneDay_90 rfl rfl ?_
      refine A_callV1 (pc := 91) kX5_144 (shp_T hT) rfl (c_X5_lookedInBy hT hR hO (by omega)) dX5_liveOneDay_91 rfl rfl (Nat.le_of_ble_eq_true rfl) (Nat.le_of_ble_eq_true rfl) ?_
      refine A_callS1 (pc := 94) kX5_115 (c_J6_bitCount_0f7a4) dX5_liveOneDay_94 rfl rfl (Nat.le_of_ble_eq_true rfl) (Nat.le_of_ble_eq_true rfl) ?_
      refine A_callVe0 (pc := 97) kX5_147 (shp_T hT) rfl (c_X5_bear hT hR hO (p := i) (by omega) (sham_rng τ (τ.2.2 4 i) (τ.2.2 5 i)).1 (sham_rng τ (τ.2.2 4 i) (τ.2.2 5 i)).2) dX5_liveOneDay_97 rfl rfl (Nat.le_of_ble_eq_true rfl) (Nat.le_of_ble_eq_true rfl) (fun υ hυ => ?_)
      refine A_iinc (pc := 100) dX5_liveOneDay_100 rfl (Nat.le_of_ble_eq_true rfl) ?_
      refine A_goto (pc := 103) 74 dX5_liveOneDay_103 (by decide) ?_
      obtain ⟨m, rfl⟩ : ∃ m, n = m + 1 := ⟨n - 1, by omega⟩
      refine A_loc (l2 := [(0, _), (1, _)]) ⟨rfl, rfl, trivial⟩ ?_
      refine ih m (by omega) (i + 1) _ υ (by rw [bea_nw]; omega) hυ.1 (hO.okBea _ _) (hF.tr hυ.2) ?_
      intro w h1 h2
      exact hK w h1 h2
set_option maxRecDepth 20000 in
theorem l1_X5_liveOneDay {G : Gl} {d : Nat} {σ0 : Sg} {K : Option Value → Sg → Prop} {c : Nat} (hT : TC c) : ∀ (n i : Nat) (τ : Tw) (σ : Sg), (i : Int) + n = τ.2.1 1 → RX c τ σ → OkT τ → Fr (TS c) σ0 σ → (∀ υ, RX c (stpG n i τ) υ → Fr (TS c) σ0 υ → AW G (d + 4) RX5 cX5_liveOneDay 4 none 72 [(0, .ref (gA G c))] [] υ K) → AW G (d + 4) RX5 cX5_liveOneDay 4 none 12 [(0, .ref (gA G c)), (1, .int (iI (i : Int)))] [] σ K := by
  intro n
  induction n using Nat.strongRecOn
  rename_i n ih
  intro i τ σ hn hR hO hF hK
  have hO2 := hO
  obtain ⟨o1, o2, o3, o4, o5, o6, o7, o8, o9⟩ := hO2
  have p0 : σ.1 c 1 = τ.2.1 0 := hR.2.1 0 (by decide)
  have p1 : σ.1 c 2 = τ.2.1 1 := hR.2.1 1 (by decide)
  have p2 : σ.1 c 3 = τ.2.1 2 := hR.2.1 2 (by decide)
  have p3 : σ.1 c 4 = τ.2.1 3 := hR.2.1 3 (by decide)
  have p4 : σ.1 c 5 = τ.2.1 4 := hR.2.1 4 (by decide)
  have p5 : σ.1 c 6 = τ.2.1 5 := hR.2.1 5 (by decide)
  refine A_iload_n (pc := 12) dX5_liveOneDay_12 rfl rfl ?_
  refine A_aload_n (pc := 13) dX5_liveOneDay_13 rfl rfl ?_
  refine A_getIv (pc := 14) fX5_19 (shp_T hT) rfl p1 dX5_liveOneDay_14 ?_
  refine A_icmp_ge (pc := 17) 72 dX5_liveOneDay_17 (by decide) (by omega) (by omega) (by omega) (by omega) (fun h17 => ?_) (fun h17 => ?_)
  · skip
    have hn0 : n = 0 := by omega
    subst hn0
    refine A_loc (l2 := [(0, _)]) ⟨rfl, trivial⟩ ?_
    exact hK σ hR hF
  · skip
    refine A_iload_n (pc := 20) dX5_liveOneDay_20 rfl rfl ?_
    refine A_iconst (pc := 21) dX5_liveOneDay_21 ?_
    refine A_icmp_ge (pc := 22) 72 dX5_liveOneDay_22 (by decide) (by omega) (by omega) (by omega) (by omega) (fun h22 => ?_) (fun h22 => ?_)
    · skip
      exfalso; omega
    · skip
      refine A_aload_n (pc := 25) dX5_liveOneDay_25 rfl rfl ?_
      refine A_iconst (pc := 26) dX5_liveOneDay_26 ?_
      refine A_callVe (pc := 27) kX5_134 (shp_T hT) rfl (c_X5_draw hT hR hO) dX5_liveOneDay_27 rfl rfl (Nat.le_of_ble_eq_true rfl) (Nat.le_of_ble_eq_true rfl) (fun υ hυ => ?_)
      refine A_istore_n (pc := 30) dX5_liveOneDay_30 rfl (Nat.le_of_ble_eq_true rfl) ?_
      have hR1 := hυ.1
      have hO1 := hO.setS (k := 5) (dseed (τ.2.1 5)) (by decide)
      have hd := dval_rng (τ.2.1 5)
      have q9 := o9 i (by omega)
      have hb := bes_rng (τ.2.2 4 i) (dval (τ.2.1 5))
      refine A_aload_n (pc := 31) dX5_liveOneDay_31 rfl rfl ?_
      refine A_getR (pc := 32) fX5_47 (shp_T hT) rfl dX5_liveOneDay_32 ?_
      refine A_iload_n (pc := 35) dX5_liveOneDay_35 rfl rfl ?_
      refine A_ialdv (pc := 36) _ (shp_T_walkerAt hT) rfl (by omega) (Nat.le_of_ble_eq_true rfl) (show _ = τ.2.2 4 i from hR1.wat (by show (i : Int) < τ.2.1 1; omega)) dX5_liveOneDay_36 ?_
      refine A_iload_n (pc := 37) dX5_liveOneDay_37 rfl rfl ?_
      refine A_callS1 (pc := 38) kX5_120 (c_X0_beside (by omega) (by omega) (by omega) (by omega)) dX5_liveOneDay_38 rfl rfl (Nat.le_of_ble_eq_true rfl) (Nat.le_of_ble_eq_true rfl) ?_
      refine A_istore_n (pc := 41) dX5_liveOneDay_41 rfl (Nat.le_of_ble_eq_true rfl) ?_
      refine A_aload_n (pc := 42) dX5_liveOneDay_42 rfl rfl ?_
      refine A_iload_n (pc := 43) dX5_liveOneDay_43 rfl rfl ?_
      refine A_aload_n (pc := 44) dX5_liveOneDay_44 rfl rfl ?_
      refine A_iload_n (pc := 45) dX5_liveOneDay_45 rfl rfl ?_
      refine A_callV1 (pc := 46) kX5_137 (shp_T hT) rfl (c_X5_isYard hT hR1 hO1 (by omega) (by omega)) dX5_liveOneDay_46 rfl rfl (Nat.le_of_ble_eq_true rfl) (Nat.le_of_ble_eq_true rfl) ?_
      refine A_ifb_eq (pc := 49) 56 dX5_liveOneDay_49 (by decide) (fun h49 => ?_) (fun h49 => ?_)
      · skip
        refine A_aload_n (pc := 56) dX5_liveOneDay_56 rfl rfl ?_
        refine A_getR (pc := 57) fX5_47 (shp_T hT) rfl dX5_liveOneDay_57 ?_
        refine A_iload_n (pc := 60) dX5_liveOneDay_60 rfl rfl ?_
        refine A_ialdv (pc := 61) _ (shp_T_walkerAt hT) rfl (by omega) (Nat.le_of_ble_eq_true rfl) (show _ = τ.2.2 4 i from hR1.wat (by show (i : Int) < τ.2.1 1; omega)) dX5_liveOneDay_61 ?_
        refine A_iload_n (pc := 62) dX5_liveOneDay_62 rfl rfl ?_
        refine A_callVe0 (pc := 63) kX5_140 (shp_T hT) rfl (c_X5_place hT hR1 hO1 (p := i) (by show (i : Int) < τ.2.1 1; omega)) dX5_liveOneDay_63 rfl rfl (Nat.le_of_ble_eq_true rfl) (Nat.le_of_ble_eq_true rfl) (fun χ hχ => ?_)
        refine A_iinc (pc := 66) dX5_liveOneDay_66 rfl (Nat.le_of_ble_eq_true rfl) ?_
        refine A_goto (pc := 69) 12 dX5_liveOneDay_69 (by decide) ?_
        obtain ⟨m, rfl⟩ : ∃ m, n = m + 1 := ⟨n - 1, by omega⟩
        refine A_loc (l2 := [(0, _), (1, _)]) ⟨rfl, rfl, trivial⟩ ?_
        have hW : RX c (stpW τ i) χ := by rw [stpW, if_neg (show ¬ (inS (bes (τ.2.2 4 i) (dval (τ.2.1 5))) ∧ ¬ sT τ.1 (bes (τ.2.2 4 i) (dval (τ.2.1 5)))) from h49)]; exact hχ.1
        refine ih m (by omega) (i + 1) _ χ (by rw [stpW_nw]; omega) hW (hO.okStp (by omega)) ((hF.tr hυ.2).tr hχ.2) ?_
        intro w h1 h2
        exact hK w h1 h2
      · skip
        refine A_iload_n (pc := 52) dX5_liveOneDay_52 rfl rfl ?_
        refine A_goto (pc := 53) 62 dX5_liveOneDay_53 (by decide) ?_
        refine A_iload_n (pc := 62) dX5_liveOneDay_62 rfl rfl ?_
        refine A_callVe0 (pc := 63) kX5_140 (shp_T hT) rfl (c_X5_place hT hR1 hO1 (p := i) (by show (i : Int) < τ.2.1 1; omega)) dX5_liveOneDay_63 rfl rfl (Nat.le_of_ble_eq_true rfl) (Nat.le_of_ble_eq_true rfl) (fun χ hχ => ?_)
        refine A_iinc (pc := 66) dX5_liveOneDay_66 rfl (Nat.le_of_ble_eq_true rfl) ?_
        refine A_goto (pc := 69) 12 dX5_liveOneDay_69 (by decide) ?_
        obtain ⟨m, rfl⟩ : ∃ m, n = m + 1 := ⟨n - 1, by omega⟩
        refine A_loc (l2 := [(0, _), (1, _)]) ⟨rfl, rfl, trivial⟩ ?_
        have hW : RX c (stpW τ i) χ := by rw [stpW, if_pos (show (inS (bes (τ.2.2 4 i) (dval (τ.2.1 5))) ∧ ¬ sT τ.1 (bes (τ.2.2 4 i) (dval (τ.2.1 5)))) from h49)]; exact hχ.1
        refine ih m (by omega) (i + 1) _ χ (by rw [stpW_nw]; omega) hW (hO.okStp (by omega)) ((hF.tr hυ.2).tr hχ.2) ?_
        intro w h1 h2
        exact hK w h1 h2
set_option maxRecDepth 20000 in
theorem c_X5_liveOneDay {G : Gl} {d : Nat} {σ : Sg} {c : Nat} (hT : TC c) {τ : Tw} (hR : RX c τ σ) (hO : OkT τ)  : CT G (d + 4) yX5_liveOneDay cX5_liveOneDay 4 none [.ref (gA G c)] σ (RE none (fun υ => RX c (day τ) υ ∧ Fr (TS c) σ υ)) := by
  refine CT.of (by decide +kernel) (Nat.le_of_ble_eq_true rfl) ?_
  change AW G _ RX5 _ _ _ 0 [(0, .ref (gA G c))] [] _ _
  have hO2 := hO
  obtain ⟨o1, o2, o3, o4, o5, o6, o7, o8, o9⟩ := hO2
  have p0 : σ.1 c 1 = τ.2.1 0 := hR.2.1 0 (by decide)
  have p1 : σ.1 c 2 = τ.2.1 1 := hR.2.1 1 (by decide)
  have p2 : σ.1 c 3 = τ.2.1 2 := hR.2.1 2 (by decide)
  have p3 : σ.1 c 4 = τ.2.1 3 := hR.2.1 3 (by decide)
  have p4 : σ.1 c 5 = τ.2.1 4 := hR.2.1 4 (by decide)
  have p5 : σ.1 c 6 = τ.2.1 5 := hR.2.1 5 (by decide)
  refine A_aload_n (pc := 0) dX5_liveOneDay_0 rfl rfl ?_
  refine A_dup (pc := 1) dX5_liveOneDay_1 rfl ?_
  refine A_getIv (pc := 2) fX5_25 (shp_T hT) rfl p3 dX5_liveOneDay_2 ?_
  refine A_iconst (pc := 5) dX5_liveOneDay_5 ?_
  refine A_iadd (pc := 6) dX5_liveOneDay_6 ?_
  refine A_putI (pc := 7) fX5_25 wr_4_4 (shp_T hT) rfl dX5_liveOneDay_7 ?_
  have hR1 := hR.setS (τ.2.1 3 + 1) (show 2 ≤ 3 by decide)
  have hO1 := hO.setS (τ.2.1 3 + 1) (show 3 ≤ 3 by decide)
  refine A_iconst (pc := 10) dX5_liveOneDay_10 ?_
  refine A_istore_n (pc := 11) dX5_liveOneDay_11 rfl (Nat.le_of_ble_eq_true rfl) ?_
  refine A_loc (l2 := [(0, _), (1, _)]) ⟨rfl, rfl, trivial⟩ ?_
  refine l1_X5_liveOneDay hT (τ.2.1 1).toNat 0 _ _ (by show _ = τ.2.1 1; omega) hR1 hO1 (Fr.rf.uI (TSm 0 (by decide))) ?_
  intro υ h1 h2
  refine A_iconst (pc := 72) dX5_liveOneDay_72 ?_
  refine A_istore_n (pc := 73) dX5_liveOneDay_73 rfl (Nat.le_of_ble_eq_true rfl) ?_
  refine A_loc (l2 := [(0, _), (1, _)]) ⟨rfl, rfl, trivial⟩ ?_
  have hG := OkT.okStpG (τ.2.1 1).toNat 0 _ hO1 (by show _ = τ.2.1 1; omega)
  refine l2_X5_liveOneDay hT (τ.2.1 1).toNat 0 _ υ (by rw [hG.2]; show _ = τ.2.1 1; omega) h1 hG.1 h2 ?_
  intro w h3 h4
  exact ⟨rfl, h3, h4⟩
