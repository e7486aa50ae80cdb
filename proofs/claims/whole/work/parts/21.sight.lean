/-! PART 21: the sight taken; who sees; calls on walkers, sight, all, turn; both -/
def see0 (τ : Tw) (b : Nat) (p : Nat) : Nat := if (p : Int) < τ.2.1 0 then seeB τ b p else 0
theorem see0_lt (τ : Tw) (b p : Nat) : see0 τ b p < 2 ^ 49 := by
  unfold see0
  by_cases h : (p : Int) < τ.2.1 0
  · rw [if_pos h]; exact seeB_lt _ _ _
  · rw [if_neg h]; exact Nat.two_pow_pos _
/-- the sight as taken -/
def SiR (τ : Tw) (b : Nat) (σ : Sg) : Prop := σ.1 5 0 = τ.2.1 0 ∧ ∀ i : Nat, i < 9 → σ.2 6 i = lN (see0 τ b i)
def uniS (τ : Tw) (b m : Nat) : Nat := orN (fun p => if m.testBit p = true then see0 τ b p else 0) 9 0
theorem uniS_lt (τ : Tw) (b m : Nat) : uniS τ b m < 2 ^ 49 := orN_lt (fun k => by
  show (if m.testBit k = true then see0 τ b k else 0) < _
  by_cases h : m.testBit k = true
  · rw [if_pos h]; exact see0_lt _ _ _
  · rw [if_neg h]; exact Nat.two_pow_pos _) _ _
theorem orN_0 {f : Nat → Nat} : ∀ n i, (∀ p, i ≤ p → f p = 0) → orN f n i = 0
  | 0, _, _ => rfl
  | n + 1, i, h => by rw [orN, h i (Nat.le_refl _), orN_0 n (i + 1) (fun p hp => h p (by omega))]; rfl
theorem orN_pad {f : Nat → Nat} {k : Nat} : ∀ n i, (∀ p, i + n ≤ p → f p = 0) → orN f (n + k) i = orN f n i
  | 0, i, h => by rw [Nat.zero_add, orN_0 k i (fun p hp => h p (by omega))]; rfl
  | n + 1, i, h => by rw [Nat.add_right_comm, orN, orN, orN_pad n (i + 1) (fun p hp => h p (by omega))]
theorem orN_congr {f g : Nat → Nat} : ∀ n i, (∀ p, i ≤ p → p < i + n → f p = g p) → orN f n i = orN g n i
  | 0, _, _ => rfl
  | n + 1, i, h => by rw [orN, orN, h i (Nat.le_refl _) (by omega), orN_congr n (i + 1) (fun p h1 h2 => h p (by omega) (by omega))]
theorem orR_0 {f : Nat → Bool} : ∀ n i, (∀ p, i ≤ p → f p = false) → orR f n i = 0
  | 0, _, _ => rfl
  | n + 1, i, h => by rw [orR, h i (Nat.le_refl _), orR_0 n (i + 1) (fun p hp => h p (by omega)), if_neg Bool.false_ne_true]; rfl
theorem orR_pad {f : Nat → Bool} {k : Nat} : ∀ n i, (∀ p, i + n ≤ p → f p = false) → orR f (n + k) i = orR f n i
  | 0, i, h => by rw [Nat.zero_add, orR_0 k i (fun p hp => h p (by omega))]; rfl
  | n + 1, i, h => by rw [Nat.add_right_comm, orR, orR, orR_pad n (i + 1) (fun p hp => h p (by omega))]
theorem uniS_all {τ : Tw} (hO : OkT τ) (b : Nat) : uniS τ b 511 = allB τ b := by
  obtain ⟨-, o2, o3, -⟩ := hO
  obtain ⟨n, hn⟩ := Int.eq_ofNat_of_zero_le o2
  have e9 : 9 = n + (9 - n) := by omega
  have e : uniS τ b 511 = orN (fun p => if (p : Int) < τ.2.1 0 then seeB τ b p else 0) 9 0 := orN_congr 9 0 (fun p _ hp => by
    have h : (511 : Nat).testBit p = true := by
      have hh : p = 0 ∨ p = 1 ∨ p = 2 ∨ p = 3 ∨ p = 4 ∨ p = 5 ∨ p = 6 ∨ p = 7 ∨ p = 8 := by omega
      rcases hh with rfl | rfl | rfl | rfl | rfl | rfl | rfl | rfl | rfl <;> decide
    show (if (511 : Nat).testBit p = true then see0 τ b p else 0) = _
    rw [if_pos h]; rfl)
  rw [e, e9, orN_pad n 0 (fun p hp => if_neg (by omega))]
  unfold allB
  rw [hn, Int.toNat_natCast]
  exact orN_congr n 0 (fun p _ hp => if_pos (by omega))
theorem seen_9 {τ : Tw} (hO : OkT τ) (b : Nat) (s : Int) : orR (fun p => decide (sT (see0 τ b p) s)) 9 0 = seen τ b s := by
  obtain ⟨-, o2, o3, -⟩ := hO
  obtain ⟨n, hn⟩ := Int.eq_ofNat_of_zero_le o2
  have e9 : 9 = n + (9 - n) := by omega
  rw [e9, orR_pad n 0 (fun p hp => by
    show decide (sT (see0 τ b p) s) = false
    unfold see0
    rw [if_neg (by omega)]
    exact decide_eq_false (fun q => by have := q.2.2; rw [Nat.zero_testBit] at this; exact absurd this (by decide)))]
  unfold seen
  rw [hn, Int.toNat_natCast]
  refine orR_congr (fun p _ hp => ?_)
  show decide (sT (see0 τ b p) s) = _
  unfold see0
  rw [if_pos (by omega)]
theorem ush5 : ∀ n, n < 32 → ((nI n).toUInt32 &&& Int32.toUInt32 31).toNat = n := by decide +kernel
theorem shrU_I {m k : Nat} (hm : m < 2147483648) (hk : k < 32) : ((iI (m : Int)).toUInt32 >>> ((iI (k : Int)).toUInt32 &&& Int32.toUInt32 31)).toInt32 = iI ((m / 2 ^ k : Nat) : Int) := by
  rw [iI_n, iI_n, iI_n]
  apply Int32.toBitVec_inj.1
  apply BitVec.eq_of_toNat_eq
  show ((nI m).toUInt32 >>> ((nI k).toUInt32 &&& Int32.toUInt32 31)).toNat = (BitVec.ofNat 32 (m / 2 ^ k)).toNat
  have h2 : (nI m).toUInt32.toNat = m := by
    show (BitVec.ofNat 32 m).toNat = m
    rw [BitVec.toNat_ofNat, Nat.mod_eq_of_lt (by omega)]
  have h3 : m / 2 ^ k < 2 ^ 32 := Nat.lt_of_le_of_lt (Nat.div_le_self _ _) (by omega)
  rw [UInt32.toNat_shiftRight, ush5 k hk, h2, Nat.mod_eq_of_lt hk, Nat.shiftRight_eq_div_pow, BitVec.toNat_ofNat, Nat.mod_eq_of_lt h3]
theorem mbit (m k : Nat) : ((m / 2 ^ k &&& 1 : Nat) : Int) = bI (m.testBit k = true) := by
  rw [Nat.and_one_is_mod]
  rcases Nat.mod_two_eq_zero_or_one (m / 2 ^ k) with e | e
  · rw [e, bI_f (by rw [tb_dec, e]; decide)]; rfl
  · rw [e, bI_t (by rw [tb_dec, e]; decide)]; rfl
/-- the least, from the first on -/
def bwG (f : Int → Int) : Nat → Int → Int → Int
  | 0, _, b => b
  | n + 1, i, b => bwG f n (i + 1) (if f i < f b then i else b)
theorem bwG_n {f : Int → Int} {n : Nat} {i b : Int} (h : ¬ f i < f b) : bwG f (n + 1) i b = bwG f n (i + 1) b := by rw [bwG, if_neg h]
theorem bwG_y {f : Int → Int} {n : Nat} {i b : Int} (h : f i < f b) : bwG f (n + 1) i b = bwG f n (i + 1) i := by rw [bwG, if_pos h]
def qWalkerOf (Z : Zt) (p w : Int) : Int × Zt := if ¬ ((0 ≤ p ∧ p < Z.1.2.1 1) ∧ (0 ≤ w ∧ w ≤ 5)) then refZ Z (-5) else (if w = 0 then Z.1.2.2 4 p.toNat else if w = 1 then Z.1.2.2 5 p.toNat else if w = 2 then Z.1.2.2 6 p.toNat else if w = 3 then sham Z.1 (Z.1.2.2 4 p.toNat) (Z.1.2.2 5 p.toNat) else if w = 4 then (look Z.1 (Z.1.2.2 4 p.toNat) (Z.1.2.2 5 p.toNat) : Nat) else (seen Z.1 Z.1.1 (Z.1.2.2 4 p.toNat) : Nat), Z)
def qSeen (Z : Zt) (s w : Int) : Int × Zt := if ¬ (0 ≤ w ∧ w ≤ 1) then refA Z (-5) else if ¬ (0 ≤ s ∧ s < 49) then refA Z (-6) else (if w = 1 then bI (sT Z.1.1 s) else (seen Z.1 Z.1.1 s : Nat), Z)
def qLooks (Z : Zt) (s w : Int) : Int × Zt := if ¬ ((inS s ∧ ¬ sT Z.1.1 s) ∧ (0 ≤ w ∧ w < 4)) then refA Z (-6) else ((look Z.1 s w : Nat), Z)
def qAll (Z : Zt) : Int × Zt := (bc64 (lN (allB Z.1 Z.1.1)), Z)
def qTurn (Z : Zt) (p w : Int) : Int × Zt := if ¬ (0 ≤ p ∧ p < Z.1.2.1 1) then refZ Z (-1) else if ¬ (0 ≤ w ∧ w ≤ 1) then refZ Z (-5) else (if w = 0 then bwG (sham Z.1 (Z.1.2.2 4 p.toNat)) 3 1 0 else sham Z.1 (Z.1.2.2 4 p.toNat) (bwG (sham Z.1 (Z.1.2.2 4 p.toNat)) 3 1 0), Z)
theorem bwG_rng (f : Int → Int) : ∀ (n : Nat) (i b : Int), 0 ≤ i → i + n ≤ 4 → 0 ≤ b → b < 4 → 0 ≤ bwG f n i b ∧ bwG f n i b < 4
  | 0, _, b, _, _, h1, h2 => ⟨h1, h2⟩
  | n + 1, i, b, g1, g2, h1, h2 => by
    rw [bwG]
    by_cases h : f i < f b
    · rw [if_pos h]; exact bwG_rng f n (i + 1) i (by omega) (by omega) g1 (by omega)
    · rw [if_neg h]; exact bwG_rng f n (i + 1) b (by omega) (by omega) h1 h2
def S56 : Nat → Prop := fun a => a = 5 ∨ a = 6
theorem S56X : ∀ a, S56 a → ScX a ∨ 54 ≤ a := fun a h => by unfold S56 at h; unfold ScX; omega
theorem S56C : ∀ a, S56 a → XC a := fun a h => by unfold S56 at h; unfold XC; omega
theorem S56T {c : Nat} (h : TC c) : ∀ a, S56 a → ¬ (c ≤ a ∧ a < c + 8) := fun a q => by unfold S56 at q; unfold TC at h; omega
theorem c_sightAny {G : Gl} {d : Nat} {σ : Sg} {c : Nat} (hT : TC c) {τ : Tw} (hR : RX c τ σ) (hO : OkT τ) {b : Nat} (hb : b < 2 ^ 49) {p : Nat} (hp : (p : Int) < 100) : CT G (d + 3) yX5_sightAmong cX5_sightAmong 6 (some .long) [.ref (gA G c), .long (lN b), .int (iI (p : Int))] σ (R1 (.long (lN (see0 τ b p))) σ) := by
  unfold see0
  by_cases h : (p : Int) < τ.2.1 0
  · rw [if_pos h]; exact c_X5_sightAmong hT hR hO hb h
  · rw [if_neg h]; exact c_X5_sightAmong0 hT hR hO (by omega) hp
theorem dX4_take_0 : decode cX4_take 0 = .ok (.aload_n 0, 1) := by decide +kernel
theorem dX4_take_1 : decode cX4_take 1 = .ok (.aload_n 1, 1) := by decide +kernel
theorem dX4_take_2 : decode cX4_take 2 = .ok (.getfield 19, 3) := by decide +kernel
theorem dX4_take_5 : decode cX4_take 5 = .ok (.bipush 9, 2) := by decide +kernel
theorem dX4_take_7 : decode cX4_take 7 = .ok (.invokestatic 22, 3) := by decide +kernel
theorem dX4_take_10 : decode cX4_take 10 = .ok (.putfield 9, 3) := by decide +kernel
theorem dX4_take_13 : decode cX4_take 13 = .ok (.iconst 0, 1) := by decide +kernel
theorem dX4_take_14 : decode cX4_take 14 = .ok (.istore 4, 2) := by decide +kernel
theorem dX4_take_16 : decode cX4_take 16 = .ok (.iload 4, 2) := by decide +kernel
theorem dX4_take_18 : decode cX4_take 18 = .ok (.bipush 9, 2) := by decide +kernel
theorem dX4_take_20 : decode cX4_take 20 = .ok (.if_icmp .ge 23, 3) := by decide +kernel
theorem dX4_take_23 : decode cX4_take 23 = .ok (.aload_n 0, 1) := by decide +kernel
theorem dX4_take_24 : decode cX4_take 24 = .ok (.getfield 15, 3) := by decide +kernel
theorem dX4_take_27 : decode cX4_take 27 = .ok (.iload 4, 2) := by decide +kernel
theorem dX4_take_29 : decode cX4_take 29 = .ok (.aload_n 1, 1) := by decide +kernel
theorem dX4_take_30 : decode cX4_take 30 = .ok (.lload_n 2, 1) := by decide +kernel
theorem dX4_take_31 : decode cX4_take 31 = .ok (.iload 4, 2) := by decide +kernel
theorem dX4_take_33 : decode cX4_take 33 = .ok (.invokevirtual 28, 3) := by decide +kernel
theorem dX4_take_36 : decode cX4_take 36 = .ok (.lastore, 1) := by decide +kernel
theorem dX4_take_37 : decode cX4_take 37 = .ok (.iinc 4 1, 3) := by decide +kernel
theorem dX4_take_40 : decode cX4_take 40 = .ok (.goto (-24), 3) := by decide +kernel
theorem dX4_take_43 : decode cX4_take 43 = .ok (.return_, 1) := by decide +kernel
set_option maxRecDepth 20000 in
theorem l_X4_take {G : Gl} {d : Nat} {σ0 : Sg} {K : Option Value → Sg → Prop} {c : Nat} (hT : TC c) {τ : Tw} (hR : RX c τ σ0) (hO : OkT τ) {b : Nat} (hb : b < 2 ^ 49) : ∀ (n i : Nat) (σ : Sg), i + n = 9 → Fr S56 σ0 σ → σ.1 5 0 = τ.2.1 0 → (∀ k, k < i → σ.2 6 k = lN (see0 τ b k)) → (∀ υ, SiR τ b υ → Fr S56 σ0 υ → K none υ) → AW G (d + 4) RX4 cX4_take 5 none 16 [(0, .ref (gA G 5)), (1, .ref (gA G c)), (2, .long (lN b)), (4, .int (iI (i : Int)))] [] σ K := by
  intro n
  induction n using Nat.strongRecOn
  rename_i n ih
  intro i σ hn hF h0 hz hK
  have hR2 := hR.fr hF (S56T hT)
  refine A_iload (pc := 16) dX4_take_16 rfl ?_
  refine A_bipush (pc := 18) dX4_take_18 (by decide) ?_
  refine A_icmp_ge (pc := 20) 43 dX4_take_20 (by decide) (by omega) (by omega) (by omega) (by omega) (fun h20 => ?_) (fun h20 => ?_)
  · skip
    refine A_vret (pc := 43) rfl dX4_take_43 ?_
    exact hK σ ⟨h0, fun k hk => hz k (by omega)⟩ hF
  · skip
    refine A_aload_n (pc := 23) dX4_take_23 rfl rfl ?_
    refine A_getR (pc := 24) fX4_15 rfl rfl dX4_take_24 ?_
    refine A_iload (pc := 27) dX4_take_27 rfl ?_
    refine A_aload_n (pc := 29) dX4_take_29 rfl rfl ?_
    refine A_lload_n (pc := 30) dX4_take_30 rfl rfl ?_
    refine A_iload (pc := 31) dX4_take_31 rfl ?_
    refine A_callV1 (pc := 33) kX4_28 (shp_T hT) rfl (c_sightAny hT hR2 hO hb (p := i) (by omega)) dX4_take_33 rfl rfl (Nat.le_of_ble_eq_true rfl) (Nat.le_of_ble_eq_true rfl) ?_
    refine A_last (pc := 36) i rfl rfl (by omega) (Nat.le_of_ble_eq_true rfl) dX4_take_36 ?_
    refine A_iinc (pc := 37) dX4_take_37 rfl (Nat.le_of_ble_eq_true rfl) ?_
    refine A_goto (pc := 40) 16 dX4_take_40 (by decide) ?_
    obtain ⟨m, rfl⟩ : ∃ m, n = m + 1 := ⟨n - 1, by omega⟩
    refine A_loc (l2 := [(0, _), (1, _), (2, _), (4, _)]) ⟨rfl, rfl, rfl, rfl, trivial⟩ ?_
    refine ih m (by omega) (i + 1) _ (by omega) (hF.uL (Or.inr rfl)) h0 (fun k hk => ?_) hK
    rw [uL_at]
    by_cases e : k = i
    · rw [if_pos ⟨rfl, e⟩, e]
    · rw [if_neg (fun q => e q.2)]; exact hz k (by omega)
set_option maxRecDepth 20000 in
theorem c_X4_take {G : Gl} {d : Nat} {σ : Sg} {c : Nat} (hT : TC c) {τ : Tw} (hR : RX c τ σ) (hO : OkT τ) {b : Nat} (hb : b < 2 ^ 49) : CT G (d + 4) yX4_take cX4_take 5 none [.ref (gA G 5), .ref (gA G c), .long (lN b)] σ (RE none (fun υ => SiR τ b υ ∧ Fr S56 σ υ)) := by
  refine CT.of (by decide +kernel) (Nat.le_of_ble_eq_true rfl) ?_
  change AW G _ RX4 _ _ _ 0 [(0, .ref (gA G 5)), (1, .ref (gA G c)), (2, .long (lN b))] [] _ _
  have hO2 := hO
  obtain ⟨o1, o2, o3, o4, o5, o6, o7, o8, o9⟩ := hO2
  have p0 : σ.1 c 1 = τ.2.1 0 := hR.2.1 0 (by decide)
  have p1 : σ.1 c 2 = τ.2.1 1 := hR.2.1 1 (by decide)
  have p2 : σ.1 c 3 = τ.2.1 2 := hR.2.1 2 (by decide)
  have p3 : σ.1 c 4 = τ.2.1 3 := hR.2.1 3 (by decide)
  have p4 : σ.1 c 5 = τ.2.1 4 := hR.2.1 4 (by decide)
  have p5 : σ.1 c 6 = τ.2.1 5 := hR.2.1 5 (by decide)
  refine A_aload_n (pc := 0) dX4_take_0 rfl rfl ?_
  refine A_aload_n (pc := 1) dX4_take_1 rfl rfl ?_
  refine A_getIv (pc := 2) fX4_19 (shp_T hT) rfl p0 dX4_take_2 ?_
  refine A_bipush (pc := 5) dX4_take_5 (by decide) ?_
  refine A_mmin (pc := 7) kX4_22 (by omega) (by omega) (by omega) (by omega) dX4_take_7 (Nat.le_of_ble_eq_true rfl) ?_
  rw [Int.min_eq_left (by omega)]
  refine A_putI (pc := 10) fX4_9 wr_3_0 rfl rfl dX4_take_10 ?_
  refine A_iconst (pc := 13) dX4_take_13 ?_
  refine A_istore (pc := 14) dX4_take_14 (Nat.le_of_ble_eq_true rfl) ?_
  refine A_loc (l2 := [(0, _), (1, _), (2, _), (4, _)]) ⟨rfl, rfl, rfl, rfl, trivial⟩ ?_
  refine l_X4_take (σ0 := σ) hT hR hO hb 9 0 _ rfl (Fr.rf.uI (Or.inl rfl)) (by rw [uI_at, if_pos ⟨rfl, rfl⟩]) (fun k hk => absurd hk (Nat.not_lt_zero k)) (fun υ h1 h2 => ⟨rfl, h1, h2⟩)
theorem dX4_unionOf_0 : decode cX4_unionOf 0 = .ok (.lconst 0, 1) := by decide +kernel
theorem dX4_unionOf_1 : decode cX4_unionOf 1 = .ok (.lstore_n 2, 1) := by decide +kernel
theorem dX4_unionOf_2 : decode cX4_unionOf 2 = .ok (.iconst 0, 1) := by decide +kernel
theorem dX4_unionOf_3 : decode cX4_unionOf 3 = .ok (.istore 4, 2) := by decide +kernel
theorem dX4_unionOf_5 : decode cX4_unionOf 5 = .ok (.iload 4, 2) := by decide +kernel
theorem dX4_unionOf_7 : decode cX4_unionOf 7 = .ok (.bipush 9, 2) := by decide +kernel
theorem dX4_unionOf_9 : decode cX4_unionOf 9 = .ok (.if_icmp .ge 28, 3) := by decide +kernel
theorem dX4_unionOf_12 : decode cX4_unionOf 12 = .ok (.iload_n 1, 1) := by decide +kernel
theorem dX4_unionOf_13 : decode cX4_unionOf 13 = .ok (.iload 4, 2) := by decide +kernel
theorem dX4_unionOf_15 : decode cX4_unionOf 15 = .ok (.iushr, 1) := by decide +kernel
theorem dX4_unionOf_16 : decode cX4_unionOf 16 = .ok (.iconst 1, 1) := by decide +kernel
theorem dX4_unionOf_17 : decode cX4_unionOf 17 = .ok (.iand, 1) := by decide +kernel
theorem dX4_unionOf_18 : decode cX4_unionOf 18 = .ok (.ifCond .eq 13, 3) := by decide +kernel
theorem dX4_unionOf_21 : decode cX4_unionOf 21 = .ok (.lload_n 2, 1) := by decide +kernel
theorem dX4_unionOf_22 : decode cX4_unionOf 22 = .ok (.aload_n 0, 1) := by decide +kernel
theorem dX4_unionOf_23 : decode cX4_unionOf 23 = .ok (.getfield 15, 3) := by decide +kernel
theorem dX4_unionOf_26 : decode cX4_unionOf 26 = .ok (.iload 4, 2) := by decide +kernel
theorem dX4_unionOf_28 : decode cX4_unionOf 28 = .ok (.laload, 1) := by decide +kernel
theorem dX4_unionOf_29 : decode cX4_unionOf 29 = .ok (.lor, 1) := by decide +kernel
theorem dX4_unionOf_30 : decode cX4_unionOf 30 = .ok (.lstore_n 2, 1) := by decide +kernel
theorem dX4_unionOf_31 : decode cX4_unionOf 31 = .ok (.iinc 4 1, 3) := by decide +kernel
theorem dX4_unionOf_34 : decode cX4_unionOf 34 = .ok (.goto (-29), 3) := by decide +kernel
theorem dX4_unionOf_37 : decode cX4_unionOf 37 = .ok (.lload_n 2, 1) := by decide +kernel
theorem dX4_unionOf_38 : decode cX4_unionOf 38 = .ok (.lreturn, 1) := by decide +kernel
set_option maxRecDepth 20000 in
theorem l_X4_unionOf {G : Gl} {d : Nat} {σ : Sg} {K : Option Value → Sg → Prop} {τ : Tw} {b : Nat} (hS : SiR τ b σ) (hO : OkT τ) {m : Nat} (hm : m < 2147483648) : ∀ (n i acc : Nat), i + n = 9 → acc < 2 ^ 49 → K (some (.long (lN (acc ||| orN (fun p => if m.testBit p = true then see0 τ b p else 0) n i)))) σ → AW G d RX4 cX4_unionOf 5 (some .long) 5 [(0, .ref (gA G 5)), (1, .int (iI (m : Int))), (2, .long (lN acc)), (4, .int (iI (i : Int)))] [] σ K := by
  intro n
  induction n using Nat.strongRecOn
  rename_i n ih
  intro i acc hn ha hK
  refine A_iload (pc := 5) dX4_unionOf_5 rfl ?_
  refine A_bipush (pc := 7) dX4_unionOf_7 (by decide) ?_
  refine A_icmp_ge (pc := 9) 37 dX4_unionOf_9 (by decide) (by omega) (by omega) (by omega) (by omega) (fun h9 => ?_) (fun h9 => ?_)
  · skip
    refine A_lload_n (pc := 37) dX4_unionOf_37 rfl rfl ?_
    refine A_lret (pc := 38) rfl dX4_unionOf_38 ?_
    have hn0 : n = 0 := by omega
    subst hn0
    rw [orN, Nat.or_zero] at hK
    exact hK
  · skip
    refine A_iload_n (pc := 12) dX4_unionOf_12 rfl rfl ?_
    refine A_iload (pc := 13) dX4_unionOf_13 rfl ?_
    refine A_iushr (pc := 15) ((m / 2 ^ i : Nat) : Int) dX4_unionOf_15 (shrU_I hm (by omega)) ?_
    refine A_iconst (pc := 16) dX4_unionOf_16 ?_
    refine A_iand (pc := 17) ((m / 2 ^ i &&& 1 : Nat) : Int) dX4_unionOf_17 (and_I _ 1) ?_
    rw [mbit]
    refine A_ifb_eq (pc := 18) 31 dX4_unionOf_18 (by decide) (fun h18 => ?_) (fun h18 => ?_)
    · skip
      refine A_iinc (pc := 31) dX4_unionOf_31 rfl (Nat.le_of_ble_eq_true rfl) ?_
      refine A_goto (pc := 34) 5 dX4_unionOf_34 (by decide) ?_
      obtain ⟨u, rfl⟩ : ∃ u, n = u + 1 := ⟨n - 1, by omega⟩
      refine A_loc (l2 := [(0, _), (1, _), (2, _), (4, _)]) ⟨rfl, rfl, rfl, rfl, trivial⟩ ?_
      refine ih u (by omega) (i + 1) acc (by omega) ha ?_
      rw [orN, if_neg h18, Nat.zero_or] at hK
      exact hK
    · skip
      refine A_lload_n (pc := 21) dX4_unionOf_21 rfl rfl ?_
      refine A_aload_n (pc := 22) dX4_unionOf_22 rfl rfl ?_
      refine A_getR (pc := 23) fX4_15 rfl rfl dX4_unionOf_23 ?_
      refine A_iload (pc := 26) dX4_unionOf_26 rfl ?_
      refine A_laldv (pc := 28) i rfl rfl (by omega) (Nat.le_of_ble_eq_true rfl) (hS.2 i (by omega)) dX4_unionOf_28 ?_
      refine A_lor (pc := 29) dX4_unionOf_29 ?_
      rw [or_L ha (see0_lt _ _ _)]
      refine A_lstore_n (pc := 30) dX4_unionOf_30 rfl (Nat.le_of_ble_eq_true rfl) ?_
      refine A_iinc (pc := 31) dX4_unionOf_31 rfl (Nat.le_of_ble_eq_true rfl) ?_
      refine A_goto (pc := 34) 5 dX4_unionOf_34 (by decide) ?_
      obtain ⟨u, rfl⟩ : ∃ u, n = u + 1 := ⟨n - 1, by omega⟩
      refine A_loc (l2 := [(0, _), (1, _), (2, _), (4, _)]) ⟨rfl, rfl, rfl, rfl, trivial⟩ ?_
      refine ih u (by omega) (i + 1) _ (by omega) (or49 ha (see0_lt _ _ _)) ?_
      rw [orN, if_pos h18, ← Nat.or_assoc] at hK
      exact hK
set_option maxRecDepth 20000 in
theorem c_X4_unionOf {G : Gl} {d : Nat} {σ : Sg} {τ : Tw} {b : Nat} (hS : SiR τ b σ) (hO : OkT τ) {m : Nat} (hm : m < 2147483648) : CT G d yX4_unionOf cX4_unionOf 5 (some .long) [.ref (gA G 5), .int (iI (m : Int))] σ (R1 (.long (lN (uniS τ b m))) σ) := by
  refine CT.of (by decide +kernel) (Nat.le_of_ble_eq_true rfl) ?_
  change AW G _ RX4 _ _ _ 0 [(0, .ref (gA G 5)), (1, .int (iI (m : Int)))] [] _ _
  refine A_lconst (pc := 0) 0 dX4_unionOf_0 rfl ?_
  refine A_lstore_n (pc := 1) dX4_unionOf_1 rfl (Nat.le_of_ble_eq_true rfl) ?_
  refine A_iconst (pc := 2) dX4_unionOf_2 ?_
  refine A_istore (pc := 3) dX4_unionOf_3 (Nat.le_of_ble_eq_true rfl) ?_
  refine A_loc (l2 := [(0, _), (1, _), (2, _), (4, _)]) ⟨rfl, rfl, rfl, rfl, trivial⟩ ?_
  exact l_X4_unionOf hS hO hm 9 0 0 rfl (by decide) ⟨by rw [Nat.zero_or]; rfl, rfl⟩
theorem dX4_union_0 : decode cX4_union 0 = .ok (.aload_n 0, 1) := by decide +kernel
theorem dX4_union_1 : decode cX4_union 1 = .ok (.sipush 511, 3) := by decide +kernel
theorem dX4_union_4 : decode cX4_union 4 = .ok (.invokevirtual 32, 3) := by decide +kernel
theorem dX4_union_7 : decode cX4_union 7 = .ok (.lreturn, 1) := by decide +kernel
set_option maxRecDepth 20000 in
theorem c_X4_union {G : Gl} {d : Nat} {σ : Sg} {τ : Tw} {b : Nat} (hS : SiR τ b σ) (hO : OkT τ) : CT G (d + 1) yX4_union cX4_union 1 (some .long) [.ref (gA G 5)] σ (R1 (.long (lN (allB τ b))) σ) := by
  refine CT.of (by decide +kernel) (Nat.le_of_ble_eq_true rfl) ?_
  change AW G _ RX4 _ _ _ 0 [(0, .ref (gA G 5))] [] _ _
  refine A_aload_n (pc := 0) dX4_union_0 rfl rfl ?_
  refine A_sipush (pc := 1) dX4_union_1 (by decide) ?_
  refine A_callV1 (pc := 4) kX4_32 rfl rfl (c_X4_unionOf hS hO (m := 511) (by decide)) dX4_union_4 rfl rfl (Nat.le_of_ble_eq_true rfl) (Nat.le_of_ble_eq_true rfl) ?_
  refine A_lret (pc := 7) rfl dX4_union_7 ?_
  exact ⟨by rw [uniS_all hO], rfl⟩
theorem dX4_thatSee_0 : decode cX4_thatSee 0 = .ok (.iconst 0, 1) := by decide +kernel
theorem dX4_thatSee_1 : decode cX4_thatSee 1 = .ok (.istore_n 2, 1) := by decide +kernel
theorem dX4_thatSee_2 : decode cX4_thatSee 2 = .ok (.iconst 0, 1) := by decide +kernel
theorem dX4_thatSee_3 : decode cX4_thatSee 3 = .ok (.istore_n 3, 1) := by decide +kernel
theorem dX4_thatSee_4 : decode cX4_thatSee 4 = .ok (.iload_n 3, 1) := by decide +kernel
theorem dX4_thatSee_5 : decode cX4_thatSee 5 = .ok (.bipush 9, 2) := by decide +kernel
theorem dX4_thatSee_7 : decode cX4_thatSee 7 = .ok (.if_icmp .ge 28, 3) := by decide +kernel
theorem dX4_thatSee_10 : decode cX4_thatSee 10 = .ok (.aload_n 0, 1) := by decide +kernel
theorem dX4_thatSee_11 : decode cX4_thatSee 11 = .ok (.getfield 15, 3) := by decide +kernel
theorem dX4_thatSee_14 : decode cX4_thatSee 14 = .ok (.iload_n 3, 1) := by decide +kernel
theorem dX4_thatSee_15 : decode cX4_thatSee 15 = .ok (.laload, 1) := by decide +kernel
theorem dX4_thatSee_16 : decode cX4_thatSee 16 = .ok (.iload_n 1, 1) := by decide +kernel
theorem dX4_thatSee_17 : decode cX4_thatSee 17 = .ok (.invokestatic 36, 3) := by decide +kernel
theorem dX4_thatSee_20 : decode cX4_thatSee 20 = .ok (.ifCond .eq 9, 3) := by decide +kernel
theorem dX4_thatSee_23 : decode cX4_thatSee 23 = .ok (.iload_n 2, 1) := by decide +kernel
theorem dX4_thatSee_24 : decode cX4_thatSee 24 = .ok (.iconst 1, 1) := by decide +kernel
theorem dX4_thatSee_25 : decode cX4_thatSee 25 = .ok (.iload_n 3, 1) := by decide +kernel
theorem dX4_thatSee_26 : decode cX4_thatSee 26 = .ok (.ishl, 1) := by decide +kernel
theorem dX4_thatSee_27 : decode cX4_thatSee 27 = .ok (.ior, 1) := by decide +kernel
theorem dX4_thatSee_28 : decode cX4_thatSee 28 = .ok (.istore_n 2, 1) := by decide +kernel
theorem dX4_thatSee_29 : decode cX4_thatSee 29 = .ok (.iinc 3 1, 3) := by decide +kernel
theorem dX4_thatSee_32 : decode cX4_thatSee 32 = .ok (.goto (-28), 3) := by decide +kernel
theorem dX4_thatSee_35 : decode cX4_thatSee 35 = .ok (.iload_n 2, 1) := by decide +kernel
theorem dX4_thatSee_36 : decode cX4_thatSee 36 = .ok (.ireturn, 1) := by decide +kernel
set_option maxRecDepth 20000 in
theorem l_X4_thatSee {G : Gl} {d : Nat} {σ : Sg} {K : Option Value → Sg → Prop} {τ : Tw} {b : Nat} (hS : SiR τ b σ) (hO : OkT τ) {s : Int} (hs1 : -2147483648 ≤ s) (hs2 : s < 2147483648) : ∀ (n i acc : Nat), i + n = 9 → K (some (.int (iI ((acc ||| orR (fun p => decide (sT (see0 τ b p) s)) n i : Nat) : Int)))) σ → AW G (d + 1) RX4 cX4_thatSee 4 (some .int) 4 [(0, .ref (gA G 5)), (1, .int (iI s)), (2, .int (iI (acc : Int))), (3, .int (iI (i : Int)))] [] σ K := by
  intro n
  induction n using Nat.strongRecOn
  rename_i n ih
  intro i acc hn hK
  refine A_iload_n (pc := 4) dX4_thatSee_4 rfl rfl ?_
  refine A_bipush (pc := 5) dX4_thatSee_5 (by decide) ?_
  refine A_icmp_ge (pc := 7) 35 dX4_thatSee_7 (by decide) (by omega) (by omega) (by omega) (by omega) (fun h7 => ?_) (fun h7 => ?_)
  · skip
    refine A_iload_n (pc := 35) dX4_thatSee_35 rfl rfl ?_
    refine A_iret (pc := 36) rfl dX4_thatSee_36 ?_
    have hn0 : n = 0 := by omega
    subst hn0
    rw [orR, Nat.or_zero] at hK
    exact hK
  · skip
    refine A_aload_n (pc := 10) dX4_thatSee_10 rfl rfl ?_
    refine A_getR (pc := 11) fX4_15 rfl rfl dX4_thatSee_11 ?_
    refine A_iload_n (pc := 14) dX4_thatSee_14 rfl rfl ?_
    refine A_laldv (pc := 15) i rfl rfl (by omega) (Nat.le_of_ble_eq_true rfl) (hS.2 i (by omega)) dX4_thatSee_15 ?_
    refine A_iload_n (pc := 16) dX4_thatSee_16 rfl rfl ?_
    refine A_callS1 (pc := 17) kX4_36 (c_X0_has (see0_lt _ _ _) hs1 hs2) dX4_thatSee_17 rfl rfl (Nat.le_of_ble_eq_true rfl) (Nat.le_of_ble_eq_true rfl) ?_
    refine A_ifb_eq (pc := 20) 29 dX4_thatSee_20 (by decide) (fun h20 => ?_) (fun h20 => ?_)
    · skip
      refine A_iinc (pc := 29) dX4_thatSee_29 rfl (Nat.le_of_ble_eq_true rfl) ?_
      refine A_goto (pc := 32) 4 dX4_thatSee_32 (by decide) ?_
      obtain ⟨u, rfl⟩ : ∃ u, n = u + 1 := ⟨n - 1, by omega⟩
      refine A_loc (l2 := [(0, _), (1, _), (2, _), (3, _)]) ⟨rfl, rfl, rfl, rfl, trivial⟩ ?_
      refine ih u (by omega) (i + 1) acc (by omega) ?_
      rw [orR, if_neg (by intro q; exact h20 (of_decide_eq_true q)), Nat.zero_or] at hK
      exact hK
    · skip
      refine A_iload_n (pc := 23) dX4_thatSee_23 rfl rfl ?_
      refine A_iconst (pc := 24) dX4_thatSee_24 ?_
      refine A_iload_n (pc := 25) dX4_thatSee_25 rfl rfl ?_
      refine A_ishl (pc := 26) ((2 ^ i : Nat) : Int) dX4_thatSee_26 (shl_I (by omega)) ?_
      refine A_ior (pc := 27) ((acc ||| 2 ^ i : Nat) : Int) dX4_thatSee_27 (or_I acc (2 ^ i)) ?_
      refine A_istore_n (pc := 28) dX4_thatSee_28 rfl (Nat.le_of_ble_eq_true rfl) ?_
      refine A_iinc (pc := 29) dX4_thatSee_29 rfl (Nat.le_of_ble_eq_true rfl) ?_
      refine A_goto (pc := 32) 4 dX4_thatSee_32 (by decide) ?_
      obtain ⟨u, rfl⟩ : ∃ u, n = u + 1 := ⟨n - 1, by omega⟩
      refine A_loc (l2 := [(0, _), (1, _), (2, _), (3, _)]) ⟨rfl, rfl, rfl, rfl, trivial⟩ ?_
      refine ih u (by omega) (i + 1) _ (by omega) ?_
      rw [orR, if_pos (decide_eq_true h20), ← Nat.or_assoc] at hK
      exact hK
set_option maxRecDepth 20000 in
theorem c_X4_thatSee {G : Gl} {d : Nat} {σ : Sg} {τ : Tw} {b : Nat} (hS : SiR τ b σ) (hO : OkT τ) {s : Int} (hs1 : -2147483648 ≤ s) (hs2 : s < 2147483648) : CT G (d + 1) yX4_thatSee cX4_thatSee 4 (some .int) [.ref (gA G 5), .int (iI s)] σ (R1 (.int (iI ((seen τ b s : Nat) : Int))) σ) := by
  refine CT.of (by decide +kernel) (Nat.le_of_ble_eq_true rfl) ?_
  change AW G _ RX4 _ _ _ 0 [(0, .ref (gA G 5)), (1, .int (iI s))] [] _ _
  refine A_iconst (pc := 0) dX4_thatSee_0 ?_
  refine A_istore_n (pc := 1) dX4_thatSee_1 rfl (Nat.le_of_ble_eq_true rfl) ?_
  refine A_iconst (pc := 2) dX4_thatSee_2 ?_
  refine A_istore_n (pc := 3) dX4_thatSee_3 rfl (Nat.le_of_ble_eq_true rfl) ?_
  refine A_loc (l2 := [(0, _), (1, _), (2, _), (3, _)]) ⟨rfl, rfl, rfl, rfl, trivial⟩ ?_
  exact l_X4_thatSee hS hO hs1 hs2 9 0 0 rfl ⟨by rw [Nat.zero_or, seen_9 hO], rfl⟩
theorem dX8_panesThatSee_0 : decode cX8_panesThatSee 0 = .ok (.aload_n 0, 1) := by decide +kernel
theorem dX8_panesThatSee_1 : decode cX8_panesThatSee 1 = .ok (.getfield 43, 3) := by decide +kernel
theorem dX8_panesThatSee_4 : decode cX8_panesThatSee 4 = .ok (.aload_n 0, 1) := by decide +kernel
theorem dX8_panesThatSee_5 : decode cX8_panesThatSee 5 = .ok (.getfield 10, 3) := by decide +kernel
theorem dX8_panesThatSee_8 : decode cX8_panesThatSee 8 = .ok (.aload_n 0, 1) := by decide +kernel
theorem dX8_panesThatSee_9 : decode cX8_panesThatSee 9 = .ok (.getfield 10, 3) := by decide +kernel
theorem dX8_panesThatSee_12 : decode cX8_panesThatSee 12 = .ok (.getfield 245, 3) := by decide +kernel
theorem dX8_panesThatSee_15 : decode cX8_panesThatSee 15 = .ok (.invokevirtual 249, 3) := by decide +kernel
theorem dX8_panesThatSee_18 : decode cX8_panesThatSee 18 = .ok (.aload_n 0, 1) := by decide +kernel
theorem dX8_panesThatSee_19 : decode cX8_panesThatSee 19 = .ok (.getfield 43, 3) := by decide +kernel
theorem dX8_panesThatSee_22 : decode cX8_panesThatSee 22 = .ok (.iload_n 1, 1) := by decide +kernel
theorem dX8_panesThatSee_23 : decode cX8_panesThatSee 23 = .ok (.invokevirtual 290, 3) := by decide +kernel
theorem dX8_panesThatSee_26 : decode cX8_panesThatSee 26 = .ok (.ireturn, 1) := by decide +kernel
set_option maxRecDepth 20000 in
theorem c_X8_panesThatSee {G : Gl} {d : Nat} {σ : Sg} {Z : Zt} (hZ : RelX Z σ) (hO : OkZ Z) {s : Int} (hs1 : -2147483648 ≤ s) (hs2 : s < 2147483648) : CT G (d + 5) yX8_panesThatSee cX8_panesThatSee 2 (some .int) [.ref (gA G 0), .int (iI s)] σ (RE (some (.int (iI ((seen Z.1 Z.1.1 s : Nat) : Int)))) (fun υ => RelX Z υ ∧ Fr S56 σ υ)) := by
  refine CT.of (by decide +kernel) (Nat.le_of_ble_eq_true rfl) ?_
  change AW G _ RX8 _ _ _ 0 [(0, .ref (gA G 0)), (1, .int (iI s))] [] _ _
  refine A_aload_n (pc := 0) dX8_panesThatSee_0 rfl rfl ?_
  refine A_getR (pc := 1) fX8_43 rfl rfl dX8_panesThatSee_1 ?_
  refine A_aload_n (pc := 4) dX8_panesThatSee_4 rfl rfl ?_
  refine A_getR (pc := 5) fX8_10 rfl rfl dX8_panesThatSee_5 ?_
  refine A_aload_n (pc := 8) dX8_panesThatSee_8 rfl rfl ?_
  refine A_getR (pc := 9) fX8_10 rfl rfl dX8_panesThatSee_9 ?_
  refine A_getLv (pc := 12) fX8_245 rfl rfl hZ.1.1 dX8_panesThatSee_12 ?_
  refine A_callVe0 (pc := 15) kX8_249 rfl rfl (c_X4_take TC14 hZ.1 hO.1 hO.1.1) dX8_panesThatSee_15 rfl rfl (Nat.le_of_ble_eq_true rfl) (Nat.le_of_ble_eq_true rfl) (fun υ hυ => ?_)
  refine A_aload_n (pc := 18) dX8_panesThatSee_18 rfl rfl ?_
  refine A_getR (pc := 19) fX8_43 rfl rfl dX8_panesThatSee_19 ?_
  refine A_iload_n (pc := 22) dX8_panesThatSee_22 rfl rfl ?_
  refine A_callV1 (pc := 23) kX8_290 rfl rfl (c_X4_thatSee hυ.1 hO.1 hs1 hs2) dX8_panesThatSee_23 rfl rfl (Nat.le_of_ble_eq_true rfl) (Nat.le_of_ble_eq_true rfl) ?_
  refine A_iret (pc := 26) rfl dX8_panesThatSee_26 ?_
  exact ⟨rfl, hZ.fr hυ.2 S56X, hυ.2⟩
theorem dX8_walkerOf_0 : decode cX8_walkerOf 0 = .ok (.aload_n 0, 1) := by decide +kernel
theorem dX8_walkerOf_1 : decode cX8_walkerOf 1 = .ok (.getfield 10, 3) := by decide +kernel
theorem dX8_walkerOf_4 : decode cX8_walkerOf 4 = .ok (.iload_n 1, 1) := by decide +kernel
theorem dX8_walkerOf_5 : decode cX8_walkerOf 5 = .ok (.invokevirtual 190, 3) := by decide +kernel
theorem dX8_walkerOf_8 : decode cX8_walkerOf 8 = .ok (.ifCond .ne 10, 3) := by decide +kernel
theorem dX8_walkerOf_11 : decode cX8_walkerOf 11 = .ok (.aload_n 0, 1) := by decide +kernel
theorem dX8_walkerOf_12 : decode cX8_walkerOf 12 = .ok (.bipush (-5), 2) := by decide +kernel
theorem dX8_walkerOf_14 : decode cX8_walkerOf 14 = .ok (.invokevirtual 76, 3) := by decide +kernel
theorem dX8_walkerOf_17 : decode cX8_walkerOf 17 = .ok (.ireturn, 1) := by decide +kernel
theorem dX8_walkerOf_18 : decode cX8_walkerOf 18 = .ok (.iload_n 2, 1) := by decide +kernel
theorem dX8_walkerOf_19 : decode cX8_walkerOf 19 = .ok (.tableswitch 98 0 5 #[37, 46, 55, 64, 76, 85], 37) := by decide +kernel
theorem dX8_walkerOf_56 : decode cX8_walkerOf 56 = .ok (.aload_n 0, 1) := by decide +kernel
theorem dX8_walkerOf_57 : decode cX8_walkerOf 57 = .ok (.getfield 10, 3) := by decide +kernel
theorem dX8_walkerOf_60 : decode cX8_walkerOf 60 = .ok (.iload_n 1, 1) := by decide +kernel
theorem dX8_walkerOf_61 : decode cX8_walkerOf 61 = .ok (.invokevirtual 193, 3) := by decide +kernel
theorem dX8_walkerOf_64 : decode cX8_walkerOf 64 = .ok (.ireturn, 1) := by decide +kernel
theorem dX8_walkerOf_65 : decode cX8_walkerOf 65 = .ok (.aload_n 0, 1) := by decide +kernel
theorem dX8_walkerOf_66 : decode cX8_walkerOf 66 = .ok (.getfield 10, 3) := by decide +kernel
theorem dX8_walkerOf_69 : decode cX8_walkerOf 69 = .ok (.iload_n 1, 1) := by decide +kernel
theorem dX8_walkerOf_70 : decode cX8_walkerOf 70 = .ok (.invokevirtual 209, 3) := by decide +kernel
theorem dX8_walkerOf_73 : decode cX8_walkerOf 73 = .ok (.ireturn, 1) := by decide +kernel
theorem dX8_walkerOf_74 : decode cX8_walkerOf 74 = .ok (.aload_n 0, 1) := by decide +kernel
theorem dX8_walkerOf_75 : decode cX8_walkerOf 75 = .ok (.getfield 10, 3) := by decide +kernel
theorem dX8_walkerOf_78 : decode cX8_walkerOf 78 = .ok (.iload_n 1, 1) := by decide +kernel
theorem dX8_walkerOf_79 : decode cX8_walkerOf 79 = .ok (.invokevirtual 212, 3) := by decide +kernel
theorem dX8_walkerOf_82 : decode cX8_walkerOf 82 = .ok (.ireturn, 1) := by decide +kernel
theorem dX8_walkerOf_83 : decode cX8_walkerOf 83 = .ok (.aload_n 0, 1) := by decide +kernel
theorem dX8_walkerOf_84 : decode cX8_walkerOf 84 = .ok (.getfield 10, 3) := by decide +kernel
theorem dX8_walkerOf_87 : decode cX8_walkerOf 87 = .ok (.iload_n 1, 1) := by decide +kernel
theorem dX8_walkerOf_88 : decode cX8_walkerOf 88 = .ok (.invokevirtual 215, 3) := by decide +kernel
theorem dX8_walkerOf_91 : decode cX8_walkerOf 91 = .ok (.invokestatic 218, 3) := by decide +kernel
theorem dX8_walkerOf_94 : decode cX8_walkerOf 94 = .ok (.ireturn, 1) := by decide +kernel
theorem dX8_walkerOf_95 : decode cX8_walkerOf 95 = .ok (.aload_n 0, 1) := by decide +kernel
theorem dX8_walkerOf_96 : decode cX8_walkerOf 96 = .ok (.getfield 10, 3) := by decide +kernel
theorem dX8_walkerOf_99 : decode cX8_walkerOf 99 = .ok (.iload_n 1, 1) := by decide +kernel
theorem dX8_walkerOf_100 : decode cX8_walkerOf 100 = .ok (.invokevirtual 215, 3) := by decide +kernel
theorem dX8_walkerOf_103 : decode cX8_walkerOf 103 = .ok (.ireturn, 1) := by decide +kernel
theorem dX8_walkerOf_104 : decode cX8_walkerOf 104 = .ok (.aload_n 0, 1) := by decide +kernel
theorem dX8_walkerOf_105 : decode cX8_walkerOf 105 = .ok (.aload_n 0, 1) := by decide +kernel
theorem dX8_walkerOf_106 : decode cX8_walkerOf 106 = .ok (.getfield 10, 3) := by decide +kernel
theorem dX8_walkerOf_109 : decode cX8_walkerOf 109 = .ok (.iload_n 1, 1) := by decide +kernel
theorem dX8_walkerOf_110 : decode cX8_walkerOf 110 = .ok (.invokevirtual 193, 3) := by decide +kernel
theorem dX8_walkerOf_113 : decode cX8_walkerOf 113 = .ok (.invokevirtual 222, 3) := by decide +kernel
theorem dX8_walkerOf_116 : decode cX8_walkerOf 116 = .ok (.ireturn, 1) := by decide +kernel
theorem dX8_walkerOf_117 : decode cX8_walkerOf 117 = .ok (.aload_n 0, 1) := by decide +kernel
theorem dX8_walkerOf_118 : decode cX8_walkerOf 118 = .ok (.bipush (-5), 2) := by decide +kernel
theorem dX8_walkerOf_120 : decode cX8_walkerOf 120 = .ok (.invokevirtual 76, 3) := by decide +kernel
theorem dX8_walkerOf_123 : decode cX8_walkerOf 123 = .ok (.ireturn, 1) := by decide +kernel
set_option maxRecDepth 20000 in
theorem c_X8_walkerOf {G : Gl} {d : Nat} {σ : Sg} {Z : Zt} (hZ : RelX Z σ) (hO : OkZ Z) {p : Int} (hp1 : -2147483648 ≤ p) (hp2 : p < 2147483648) {w : Int} (hw1 : -2147483648 ≤ w) (hw2 : w < 2147483648) : CT G (d + 6) yX8_walkerOf cX8_walkerOf 3 (some .int) [.ref (gA G 0), .int (iI p), .int (iI w)] σ (RE (some (.int (iI (qWalkerOf Z p w).1))) (fun υ => RelX (qWalkerOf Z p w).2 υ ∧ Fr XC σ υ)) := by
  refine CT.of (by decide +kernel) (Nat.le_of_ble_eq_true rfl) ?_
  change AW G _ RX8 _ _ _ 0 [(0, .ref (gA G 0)), (1, .int (iI p)), (2, .int (iI w))] [] _ _
  have hO2 := hO.1
  obtain ⟨o1, o2, o3, o4, o5, o6, o7, o8, o9⟩ := hO2
  refine A_aload_n (pc := 0) dX8_walkerOf_0 rfl rfl ?_
  refine A_getR (pc := 1) fX8_10 rfl rfl dX8_walkerOf_1 ?_
  refine A_iload_n (pc := 4) dX8_walkerOf_4 rfl rfl ?_
  refine A_callV1 (pc := 5) kX8_190 rfl rfl (c_X5_isWalker TC14 hZ.1 hO.1 hp1 hp2) dX8_walkerOf_5 rfl rfl (Nat.le_of_ble_eq_true rfl) (Nat.le_of_ble_eq_true rfl) ?_
  refine A_ifb_ne (pc := 8) 18 dX8_walkerOf_8 (by decide) (fun h8 => ?_) (fun h8 => ?_)
  · skip
    obtain ⟨k, rfl⟩ := Int.eq_ofNat_of_zero_le (show 0 ≤ p by omega)
    have q9 := o9 k (by omega)
    refine A_iload_n (pc := 18) dX8_walkerOf_18 rfl rfl ?_
    refine A_tsw (pc := 19) [(0, 56), (1, 65), (2, 74), (3, 83), (4, 95), (5, 104)] 117 dX8_walkerOf_19 (by decide) (by decide) (by decide) (by omega) (by omega) ?_
    refine ⟨fun h19 => ?_, fun h19n0 => ?_⟩
    · skip
      refine A_aload_n (pc := 56) dX8_walkerOf_56 rfl rfl ?_
      refine A_getR (pc := 57) fX8_10 rfl rfl dX8_walkerOf_57 ?_
      refine A_iload_n (pc := 60) dX8_walkerOf_60 rfl rfl ?_
      refine A_callV1 (pc := 61) kX8_193 rfl rfl (c_X5_whereIs TC14 hZ.1 hO.1 (p := k) (by omega)) dX8_walkerOf_61 rfl rfl (Nat.le_of_ble_eq_true rfl) (Nat.le_of_ble_eq_true rfl) ?_
      rw [if_pos (by omega)]
      refine A_iret (pc := 64) rfl dX8_walkerOf_64 ?_
      exact RQX (by unfold qWalkerOf; rw [if_neg (by omega), if_pos (by omega)]; rfl) hZ Fr.rf
    refine ⟨fun h19 => ?_, fun h19n1 => ?_⟩
    · skip
      refine A_aload_n (pc := 65) dX8_walkerOf_65 rfl rfl ?_
      refine A_getR (pc := 66) fX8_10 rfl rfl dX8_walkerOf_66 ?_
      refine A_iload_n (pc := 69) dX8_walkerOf_69 rfl rfl ?_
      refine A_callV1 (pc := 70) kX8_209 rfl rfl (c_X5_facedBy TC14 hZ.1 hO.1 (p := k) (by omega)) dX8_walkerOf_70 rfl rfl (Nat.le_of_ble_eq_true rfl) (Nat.le_of_ble_eq_true rfl) ?_
      rw [if_pos (by omega)]
      refine A_iret (pc := 73) rfl dX8_walkerOf_73 ?_
      exact RQX (by unfold qWalkerOf; rw [if_neg (by omega), if_neg (by omega), if_pos (by omega)]; rfl) hZ Fr.rf
    refine ⟨fun h19 => ?_, fun h19n2 => ?_⟩
    · skip
      refine A_aload_n (pc := 74) dX8_walkerOf_74 rfl rfl ?_
      refine A_getR (pc := 75) fX8_10 rfl rfl dX8_walkerOf_75 ?_
      refine A_iload_n (pc := 78) dX8_walkerOf_78 rfl rfl ?_
      refine A_callV1 (pc := 79) kX8_212 rfl rfl (c_X5_triedOf TC14 hZ.1 hO.1 (p := k) (by omega)) dX8_walkerOf_79 rfl rfl (Nat.le_of_ble_eq_true rfl) (Nat.le_of_ble_eq_true rfl) ?_
      rw [if_pos (by omega)]
      refine A_iret (pc := 82) rfl dX8_walkerOf_82 ?_
      exact RQX (by unfold qWalkerOf; rw [if_neg (by omega), if_neg (by omega), if_neg (by omega), if_pos (by omega)]; rfl) hZ Fr.rf
    refine ⟨fun h19 => ?_, fun h19n3 => ?_⟩
    · skip
      refine A_aload_n (pc := 83) dX8_walkerOf_83 rfl rfl ?_
      refine A_getR (pc := 84) fX8_10 rfl rfl dX8_walkerOf_84 ?_
      refine A_iload_n (pc := 87) dX8_walkerOf_87 rfl rfl ?_
      refine A_callV1 (pc := 88) kX8_215 rfl rfl (c_X5_lookedInBy TC14 hZ.1 hO.1 (p := k) (by omega)) dX8_walkerOf_88 rfl rfl (Nat.le_of_ble_eq_true rfl) (Nat.le_of_ble_eq_true rfl) ?_
      refine A_callS1 (pc := 91) kX8_218 (c_J6_bitCount_0f7a4) dX8_walkerOf_91 rfl rfl (Nat.le_of_ble_eq_true rfl) (Nat.le_of_ble_eq_true rfl) ?_
      refine A_iret (pc := 94) rfl dX8_walkerOf_94 ?_
      exact RQX (by unfold qWalkerOf; rw [if_neg (by omega), if_neg (by omega), if_neg (by omega), if_neg (by omega), if_pos (by omega)]; rfl) hZ Fr.rf
    refine ⟨fun h19 => ?_, fun h19n4 => ?_⟩
    · skip
      refine A_aload_n (pc := 95) dX8_walkerOf_95 rfl rfl ?_
      refine A_getR (pc := 96) fX8_10 rfl rfl dX8_walkerOf_96 ?_
      refine A_iload_n (pc := 99) dX8_walkerOf_99 rfl rfl ?_
      refine A_callV1 (pc := 100) kX8_215 rfl rfl (c_X5_lookedInBy TC14 hZ.1 hO.1 (p := k) (by omega)) dX8_walkerOf_100 rfl rfl (Nat.le_of_ble_eq_true rfl) (Nat.le_of_ble_eq_true rfl) ?_
      refine A_iret (pc := 103) rfl dX8_walkerOf_103 ?_
      exact RQX (by unfold qWalkerOf; rw [if_neg (by omega), if_neg (by omega), if_neg (by omega), if_neg (by omega), if_neg (by omega), if_pos (by omega)]; rfl) hZ Fr.rf
    refine ⟨fun h19 => ?_, fun h19n5 => ?_⟩
    · skip
      refine A_aload_n (pc := 104) dX8_walkerOf_104 rfl rfl ?_
      refine A_aload_n (pc := 105) dX8_walkerOf_105 rfl rfl ?_
      refine A_getR (pc := 106) fX8_10 rfl rfl dX8_walkerOf_106 ?_
      refine A_iload_n (pc := 109) dX8_walkerOf_109 rfl rfl ?_
      refine A_callV1 (pc := 110) kX8_193 rfl rfl (c_X5_whereIs TC14 hZ.1 hO.1 (p := k) (by omega)) dX8_walkerOf_110 rfl rfl (Nat.le_of_ble_eq_true rfl) (Nat.le_of_ble_eq_true rfl) ?_
      rw [if_pos (by omega)]
      refine A_callVe (pc := 113) kX8_222 rfl rfl (c_X8_panesThatSee hZ hO (by omega) (by omega)) dX8_walkerOf_113 rfl rfl (Nat.le_of_ble_eq_true rfl) (Nat.le_of_ble_eq_true rfl) (fun υ hυ => ?_)
      refine A_iret (pc := 116) rfl dX8_walkerOf_116 ?_
      exact RQX (by unfold qWalkerOf; rw [if_neg (by omega), if_neg (by omega), if_neg (by omega), if_neg (by omega), if_neg (by omega), if_neg (by omega)]; rfl) hυ.1 (hυ.2.mono S56C)
    change AW G _ _ _ _ _ 117 _ _ _ _
    refine A_aload_n (pc := 117) dX8_walkerOf_117 rfl rfl ?_
    refine A_bipush (pc := 118) dX8_walkerOf_118 (by decide) ?_
    refine A_callVe (pc := 120) kX8_76 rfl rfl (c_X8_refuse hZ hO (t := -5) (by omega) (by omega)) dX8_walkerOf_120 rfl rfl (Nat.le_of_ble_eq_true rfl) (Nat.le_of_ble_eq_true rfl) (fun υ hυ => ?_)
    refine A_iret (pc := 123) rfl dX8_walkerOf_123 ?_
    exact RQX (by unfold qWalkerOf; rw [if_pos (by omega)]; rfl) hυ.1 (hυ.2.mono XC2)
  · skip
    refine A_aload_n (pc := 11) dX8_walkerOf_11 rfl rfl ?_
    refine A_bipush (pc := 12) dX8_walkerOf_12 (by decide) ?_
    refine A_callVe (pc := 14) kX8_76 rfl rfl (c_X8_refuse hZ hO (t := -5) (by omega) (by omega)) dX8_walkerOf_14 rfl rfl (Nat.le_of_ble_eq_true rfl) (Nat.le_of_ble_eq_true rfl) (fun υ hυ => ?_)
    refine A_iret (pc := 17) rfl dX8_walkerOf_17 ?_
    exact RQX (by unfold qWalkerOf; rw [if_pos (by omega)]; rfl) hυ.1 (hυ.2.mono XC2)
theorem dX8_seen_0 : decode cX8_seen 0 = .ok (.iload_n 2, 1) := by decide +kernel
theorem dX8_seen_1 : decode cX8_seen 1 = .ok (.ifCond .lt 8, 3) := by decide +kernel
theorem dX8_seen_4 : decode cX8_seen 4 = .ok (.iload_n 2, 1) := by decide +kernel
theorem dX8_seen_5 : decode cX8_seen 5 = .ok (.iconst 1, 1) := by decide +kernel
theorem dX8_seen_6 : decode cX8_seen 6 = .ok (.if_icmp .le 10, 3) := by decide +kernel
theorem dX8_seen_9 : decode cX8_seen 9 = .ok (.aload_n 0, 1) := by decide +kernel
theorem dX8_seen_10 : decode cX8_seen 10 = .ok (.bipush (-5), 2) := by decide +kernel
theorem dX8_seen_12 : decode cX8_seen 12 = .ok (.invokevirtual 239, 3) := by decide +kernel
theorem dX8_seen_15 : decode cX8_seen 15 = .ok (.ireturn, 1) := by decide +kernel
theorem dX8_seen_16 : decode cX8_seen 16 = .ok (.iload_n 1, 1) := by decide +kernel
theorem dX8_seen_17 : decode cX8_seen 17 = .ok (.invokestatic 152, 3) := by decide +kernel
theorem dX8_seen_20 : decode cX8_seen 20 = .ok (.ifCond .ne 10, 3) := by decide +kernel
theorem dX8_seen_23 : decode cX8_seen 23 = .ok (.aload_n 0, 1) := by decide +kernel
theorem dX8_seen_24 : decode cX8_seen 24 = .ok (.bipush (-6), 2) := by decide +kernel
theorem dX8_seen_26 : decode cX8_seen 26 = .ok (.invokevirtual 239, 3) := by decide +kernel
theorem dX8_seen_29 : decode cX8_seen 29 = .ok (.ireturn, 1) := by decide +kernel
theorem dX8_seen_30 : decode cX8_seen 30 = .ok (.iload_n 2, 1) := by decide +kernel
theorem dX8_seen_31 : decode cX8_seen 31 = .ok (.iconst 1, 1) := by decide +kernel
theorem dX8_seen_32 : decode cX8_seen 32 = .ok (.if_icmp .ne 20, 3) := by decide +kernel
theorem dX8_seen_35 : decode cX8_seen 35 = .ok (.aload_n 0, 1) := by decide +kernel
theorem dX8_seen_36 : decode cX8_seen 36 = .ok (.getfield 10, 3) := by decide +kernel
theorem dX8_seen_39 : decode cX8_seen 39 = .ok (.iload_n 1, 1) := by decide +kernel
theorem dX8_seen_40 : decode cX8_seen 40 = .ok (.invokevirtual 163, 3) := by decide +kernel
theorem dX8_seen_43 : decode cX8_seen 43 = .ok (.ifCond .eq 7, 3) := by decide +kernel
theorem dX8_seen_46 : decode cX8_seen 46 = .ok (.iconst 1, 1) := by decide +kernel
theorem dX8_seen_47 : decode cX8_seen 47 = .ok (.goto 4, 3) := by decide +kernel
theorem dX8_seen_50 : decode cX8_seen 50 = .ok (.iconst 0, 1) := by decide +kernel
theorem dX8_seen_51 : decode cX8_seen 51 = .ok (.ireturn, 1) := by decide +kernel
theorem dX8_seen_52 : decode cX8_seen 52 = .ok (.aload_n 0, 1) := by decide +kernel
theorem dX8_seen_53 : decode cX8_seen 53 = .ok (.iload_n 1, 1) := by decide +kernel
theorem dX8_seen_54 : decode cX8_seen 54 = .ok (.invokevirtual 222, 3) := by decide +kernel
theorem dX8_seen_57 : decode cX8_seen 57 = .ok (.ireturn, 1) := by decide +kernel
set_option maxRecDepth 20000 in
theorem c_X8_seen {G : Gl} {d : Nat} {σ : Sg} {Z : Zt} (hZ : RelX Z σ) (hO : OkZ Z) {s : Int} (hs1 : -2147483648 ≤ s) (hs2 : s < 2147483648) {w : Int} (hw1 : -2147483648 ≤ w) (hw2 : w < 2147483648) : CT G (d + 6) yX8_seen cX8_seen 3 (some .int) [.ref (gA G 0), .int (iI s), .int (iI w)] σ (RE (some (.int (iI (qSeen Z s w).1))) (fun υ => RelX (qSeen Z s w).2 υ ∧ Fr XC σ υ)) := by
  refine CT.of (by decide +kernel) (Nat.le_of_ble_eq_true rfl) ?_
  change AW G _ RX8 _ _ _ 0 [(0, .ref (gA G 0)), (1, .int (iI s)), (2, .int (iI w))] [] _ _
  refine A_iload_n (pc := 0) dX8_seen_0 rfl rfl ?_
  refine A_if_lt (pc := 1) 9 dX8_seen_1 (by decide) (by omega) (by omega) (fun h1 => ?_) (fun h1 => ?_)
  · skip
    refine A_aload_n (pc := 9) dX8_seen_9 rfl rfl ?_
    refine A_bipush (pc := 10) dX8_seen_10 (by decide) ?_
    refine A_callVe (pc := 12) kX8_239 rfl rfl (c_X8_refuseApart hZ hO (t := -5) (by omega) (by omega)) dX8_seen_12 rfl rfl (Nat.le_of_ble_eq_true rfl) (Nat.le_of_ble_eq_true rfl) (fun υ hυ => ?_)
    refine A_iret (pc := 15) rfl dX8_seen_15 ?_
    exact RQX (by unfold qSeen; rw [if_pos (by omega)]; rfl) hυ.1 (hυ.2.mono XC2)
  · skip
    refine A_iload_n (pc := 4) dX8_seen_4 rfl rfl ?_
    refine A_iconst (pc := 5) dX8_seen_5 ?_
    refine A_icmp_le (pc := 6) 16 dX8_seen_6 (by decide) (by omega) (by omega) (by omega) (by omega) (fun h6 => ?_) (fun h6 => ?_)
    · skip
      refine A_iload_n (pc := 16) dX8_seen_16 rfl rfl ?_
      refine A_callS1 (pc := 17) kX8_152 (c_X0_isSquare hs1 hs2) dX8_seen_17 rfl rfl (Nat.le_of_ble_eq_true rfl) (Nat.le_of_ble_eq_true rfl) ?_
      refine A_ifb_ne (pc := 20) 30 dX8_seen_20 (by decide) (fun h20 => ?_) (fun h20 => ?_)
      · skip
        refine A_iload_n (pc := 30) dX8_seen_30 rfl rfl ?_
        refine A_iconst (pc := 31) dX8_seen_31 ?_
        refine A_icmp_ne (pc := 32) 52 dX8_seen_32 (by decide) (by omega) (by omega) (by omega) (by omega) (fun h32 => ?_) (fun h32 => ?_)
        · skip
          refine A_aload_n (pc := 52) dX8_seen_52 rfl rfl ?_
          refine A_iload_n (pc := 53) dX8_seen_53 rfl rfl ?_
          refine A_callVe (pc := 54) kX8_222 rfl rfl (c_X8_panesThatSee hZ hO hs1 hs2) dX8_seen_54 rfl rfl (Nat.le_of_ble_eq_true rfl) (Nat.le_of_ble_eq_true rfl) (fun υ hυ => ?_)
          refine A_iret (pc := 57) rfl dX8_seen_57 ?_
          exact RQX (by unfold qSeen; rw [if_neg (by omega), if_neg (fun q => q h20), if_neg (by omega)]) hυ.1 (hυ.2.mono S56C)
        · skip
          refine A_aload_n (pc := 35) dX8_seen_35 rfl rfl ?_
          refine A_getR (pc := 36) fX8_10 rfl rfl dX8_seen_36 ?_
          refine A_iload_n (pc := 39) dX8_seen_39 rfl rfl ?_
          refine A_callV1 (pc := 40) kX8_163 rfl rfl (c_X5_isHouse TC14 hZ.1 hO.1 hs1 hs2) dX8_seen_40 rfl rfl (Nat.le_of_ble_eq_true rfl) (Nat.le_of_ble_eq_true rfl) ?_
          refine A_ifb_eq (pc := 43) 50 dX8_seen_43 (by decide) (fun h43 => ?_) (fun h43 => ?_)
          · skip
            refine A_iconst (pc := 50) dX8_seen_50 ?_
            refine A_iret (pc := 51) rfl dX8_seen_51 ?_
            exact RQX (by unfold qSeen; rw [if_neg (by omega), if_neg (fun q => q h20), if_pos (by omega), bI_f h43]) hZ Fr.rf
          · skip
            refine A_iconst (pc := 46) dX8_seen_46 ?_
            refine A_goto (pc := 47) 51 dX8_seen_47 (by decide) ?_
            refine A_iret (pc := 51) rfl dX8_seen_51 ?_
            exact RQX (by unfold qSeen; rw [if_neg (by omega), if_neg (fun q => q h20), if_pos (by omega), bI_t h43]) hZ Fr.rf
      · skip
        refine A_aload_n (pc := 23) dX8_seen_23 rfl rfl ?_
        refine A_bipush (pc := 24) dX8_seen_24 (by decide) ?_
        refine A_callVe (pc := 26) kX8_239 rfl rfl (c_X8_refuseApart hZ hO (t := -6) (by omega) (by omega)) dX8_seen_26 rfl rfl (Nat.le_of_ble_eq_true rfl) (Nat.le_of_ble_eq_true rfl) (fun υ hυ => ?_)
        refine A_iret (pc := 29) rfl dX8_seen_29 ?_
        exact RQX (by unfold qSeen; rw [if_neg (by omega), if_pos h20]; rfl) hυ.1 (hυ.2.mono XC2)
    · skip
      refine A_aload_n (pc := 9) dX8_seen_9 rfl rfl ?_
      refine A_bipush (pc := 10) dX8_seen_10 (by decide) ?_
      refine A_callVe (pc := 12) kX8_239 rfl rfl (c_X8_refuseApart hZ hO (t := -5) (by omega) (by omega)) dX8_seen_12 rfl rfl (Nat.le_of_ble_eq_true rfl) (Nat.le_of_ble_eq_true rfl) (fun υ hυ => ?_)
      refine A_iret (pc := 15) rfl dX8_seen_15 ?_
      exact RQX (by unfold qSeen; rw [if_pos (by omega)]; rfl) hυ.1 (hυ.2.mono XC2)
theorem dX8_looks_0 : decode cX8_looks 0 = .ok (.aload_n 0, 1) := by decide +kernel
theorem dX8_looks_1 : decode cX8_looks 1 = .ok (.getfield 10, 3) := by decide +kernel
theorem dX8_looks_4 : decode cX8_looks 4 = .ok (.iload_n 1, 1) := by decide +kernel
theorem dX8_looks_5 : decode cX8_looks 5 = .ok (.invokevirtual 180, 3) := by decide +kernel
theorem dX8_looks_8 : decode cX8_looks 8 = .ok (.ifCond .eq 10, 3) := by decide +kernel
theorem dX8_looks_11 : decode cX8_looks 11 = .ok (.iload_n 2, 1) := by decide +kernel
theorem dX8_looks_12 : decode cX8_looks 12 = .ok (.invokestatic 170, 3) := by decide +kernel
theorem dX8_looks_15 : decode cX8_looks 15 = .ok (.ifCond .ne 10, 3) := by decide +kernel
theorem dX8_looks_18 : decode cX8_looks 18 = .ok (.aload_n 0, 1) := by decide +kernel
theorem dX8_looks_19 : decode cX8_looks 19 = .ok (.bipush (-6), 2) := by decide +kernel
theorem dX8_looks_21 : decode cX8_looks 21 = .ok (.invokevirtual 239, 3) := by decide +kernel
theorem dX8_looks_24 : decode cX8_looks 24 = .ok (.ireturn, 1) := by decide +kernel
theorem dX8_looks_25 : decode cX8_looks 25 = .ok (.aload_n 0, 1) := by decide +kernel
theorem dX8_looks_26 : decode cX8_looks 26 = .ok (.getfield 10, 3) := by decide +kernel
theorem dX8_looks_29 : decode cX8_looks 29 = .ok (.iload_n 1, 1) := by decide +kernel
theorem dX8_looks_30 : decode cX8_looks 30 = .ok (.iload_n 2, 1) := by decide +kernel
theorem dX8_looks_31 : decode cX8_looks 31 = .ok (.invokevirtual 242, 3) := by decide +kernel
theorem dX8_looks_34 : decode cX8_looks 34 = .ok (.ireturn, 1) := by decide +kernel
set_option maxRecDepth 20000 in
theorem c_X8_looks {G : Gl} {d : Nat} {σ : Sg} {Z : Zt} (hZ : RelX Z σ) (hO : OkZ Z) {s : Int} (hs1 : -2147483648 ≤ s) (hs2 : s < 2147483648) {w : Int} (hw1 : -2147483648 ≤ w) (hw2 : w < 2147483648) : CT G (d + 3) yX8_looks cX8_looks 3 (some .int) [.ref (gA G 0), .int (iI s), .int (iI w)] σ (RE (some (.int (iI (qLooks Z s w).1))) (fun υ => RelX (qLooks Z s w).2 υ ∧ Fr XC σ υ)) := by
  refine CT.of (by decide +kernel) (Nat.le_of_ble_eq_true rfl) ?_
  change AW G _ RX8 _ _ _ 0 [(0, .ref (gA G 0)), (1, .int (iI s)), (2, .int (iI w))] [] _ _
  refine A_aload_n (pc := 0) dX8_looks_0 rfl rfl ?_
  refine A_getR (pc := 1) fX8_10 rfl rfl dX8_looks_1 ?_
  refine A_iload_n (pc := 4) dX8_looks_4 rfl rfl ?_
  refine A_callV1 (pc := 5) kX8_180 rfl rfl (c_X5_isYard TC14 hZ.1 hO.1 hs1 hs2) dX8_looks_5 rfl rfl (Nat.le_of_ble_eq_true rfl) (Nat.le_of_ble_eq_true rfl) ?_
  refine A_ifb_eq (pc := 8) 18 dX8_looks_8 (by decide) (fun h8 => ?_) (fun h8 => ?_)
  · skip
    refine A_aload_n (pc := 18) dX8_looks_18 rfl rfl ?_
    refine A_bipush (pc := 19) dX8_looks_19 (by decide) ?_
    refine A_callVe (pc := 21) kX8_239 rfl rfl (c_X8_refuseApart hZ hO (t := -6) (by omega) (by omega)) dX8_looks_21 rfl rfl (Nat.le_of_ble_eq_true rfl) (Nat.le_of_ble_eq_true rfl) (fun υ hυ => ?_)
    refine A_iret (pc := 24) rfl dX8_looks_24 ?_
    exact RQX (by unfold qLooks; rw [if_pos (fun q => h8 q.1)]; rfl) hυ.1 (hυ.2.mono XC2)
  · skip
    refine A_iload_n (pc := 11) dX8_looks_11 rfl rfl ?_
    refine A_callS1 (pc := 12) kX8_170 (c_X0_isWay hw1 hw2) dX8_looks_12 rfl rfl (Nat.le_of_ble_eq_true rfl) (Nat.le_of_ble_eq_true rfl) ?_
    refine A_ifb_ne (pc := 15) 25 dX8_looks_15 (by decide) (fun h15 => ?_) (fun h15 => ?_)
    · skip
      refine A_aload_n (pc := 25) dX8_looks_25 rfl rfl ?_
      refine A_getR (pc := 26) fX8_10 rfl rfl dX8_looks_26 ?_
      refine A_iload_n (pc := 29) dX8_looks_29 rfl rfl ?_
      refine A_iload_n (pc := 30) dX8_looks_30 rfl rfl ?_
      refine A_callV1 (pc := 31) kX8_242 rfl rfl (c_X5_lookedInFrom TC14 hZ.1 hO.1 hs1 hs2 h15.1 h15.2) dX8_looks_31 rfl rfl (Nat.le_of_ble_eq_true rfl) (Nat.le_of_ble_eq_true rfl) ?_
      refine A_iret (pc := 34) rfl dX8_looks_34 ?_
      exact RQX (by unfold qLooks; rw [if_neg (fun q => q ⟨h8, h15⟩)]) hZ Fr.rf
    · skip
      refine A_aload_n (pc := 18) dX8_looks_18 rfl rfl ?_
      refine A_bipush (pc := 19) dX8_looks_19 (by decide) ?_
      refine A_callVe (pc := 21) kX8_239 rfl rfl (c_X8_refuseApart hZ hO (t := -6) (by omega) (by omega)) dX8_looks_21 rfl rfl (Nat.le_of_ble_eq_true rfl) (Nat.le_of_ble_eq_true rfl) (fun υ hυ => ?_)
      refine A_iret (pc := 24) rfl dX8_looks_24 ?_
      exact RQX (by unfold qLooks; rw [if_pos (fun q => h15 q.2)]; rfl) hυ.1 (hυ.2.mono XC2)
theorem dX8_all_0 : decode cX8_all 0 = .ok (.aload_n 0, 1) := by decide +kernel
theorem dX8_all_1 : decode cX8_all 1 = .ok (.getfield 43, 3) := by decide +kernel
theorem dX8_all_4 : decode cX8_all 4 = .ok (.aload_n 0, 1) := by decide +kernel
theorem dX8_all_5 : decode cX8_all 5 = .ok (.getfield 10, 3) := by decide +kernel
theorem dX8_all_8 : decode cX8_all 8 = .ok (.aload_n 0, 1) := by decide +kernel
theorem dX8_all_9 : decode cX8_all 9 = .ok (.getfield 10, 3) := by decide +kernel
theorem dX8_all_12 : decode cX8_all 12 = .ok (.getfield 245, 3) := by decide +kernel
theorem dX8_all_15 : decode cX8_all 15 = .ok (.invokevirtual 249, 3) := by decide +kernel
theorem dX8_all_18 : decode cX8_all 18 = .ok (.aload_n 0, 1) := by decide +kernel
theorem dX8_all_19 : decode cX8_all 19 = .ok (.getfield 43, 3) := by decide +kernel
theorem dX8_all_22 : decode cX8_all 22 = .ok (.invokevirtual 253, 3) := by decide +kernel
theorem dX8_all_25 : decode cX8_all 25 = .ok (.invokestatic 143, 3) := by decide +kernel
theorem dX8_all_28 : decode cX8_all 28 = .ok (.ireturn, 1) := by decide +kernel
set_option maxRecDepth 20000 in
theorem c_X8_all {G : Gl} {d : Nat} {σ : Sg} {Z : Zt} (hZ : RelX Z σ) (hO : OkZ Z) : CT G (d + 5) yX8_all cX8_all 1 (some .int) [.ref (gA G 0)] σ (RE (some (.int (iI (qAll Z).1))) (fun υ => RelX (qAll Z).2 υ ∧ Fr XC σ υ)) := by
  refine CT.of (by decide +kernel) (Nat.le_of_ble_eq_true rfl) ?_
  change AW G _ RX8 _ _ _ 0 [(0, .ref (gA G 0))] [] _ _
  refine A_aload_n (pc := 0) dX8_all_0 rfl rfl ?_
  refine A_getR (pc := 1) fX8_43 rfl rfl dX8_all_1 ?_
  refine A_aload_n (pc := 4) dX8_all_4 rfl rfl ?_
  refine A_getR (pc := 5) fX8_10 rfl rfl dX8_all_5 ?_
  refine A_aload_n (pc := 8) dX8_all_8 rfl rfl ?_
  refine A_getR (pc := 9) fX8_10 rfl rfl dX8_all_9 ?_
  refine A_getLv (pc := 12) fX8_245 rfl rfl hZ.1.1 dX8_all_12 ?_
  refine A_callVe0 (pc := 15) kX8_249 rfl rfl (c_X4_take TC14 hZ.1 hO.1 hO.1.1) dX8_all_15 rfl rfl (Nat.le_of_ble_eq_true rfl) (Nat.le_of_ble_eq_true rfl) (fun υ hυ => ?_)
  refine A_aload_n (pc := 18) dX8_all_18 rfl rfl ?_
  refine A_getR (pc := 19) fX8_43 rfl rfl dX8_all_19 ?_
  refine A_callV1 (pc := 22) kX8_253 rfl rfl (c_X4_union hυ.1 hO.1) dX8_all_22 rfl rfl (Nat.le_of_ble_eq_true rfl) (Nat.le_of_ble_eq_true rfl) ?_
  refine A_callS1 (pc := 25) kX8_143 (c_J13_bitCount_95d88) dX8_all_25 rfl rfl (Nat.le_of_ble_eq_true rfl) (Nat.le_of_ble_eq_true rfl) ?_
  refine A_iret (pc := 28) rfl dX8_all_28 ?_
  exact RQX rfl (hZ.fr hυ.2 S56X) (hυ.2.mono S56C)
theorem dX8_turn_0 : decode cX8_turn 0 = .ok (.aload_n 0, 1) := by decide +kernel
theorem dX8_turn_1 : decode cX8_turn 1 = .ok (.getfield 10, 3) := by decide +kernel
theorem dX8_turn_4 : decode cX8_turn 4 = .ok (.iload_n 1, 1) := by decide +kernel
theorem dX8_turn_5 : decode cX8_turn 5 = .ok (.invokevirtual 190, 3) := by decide +kernel
theorem dX8_turn_8 : decode cX8_turn 8 = .ok (.ifCond .ne 9, 3) := by decide +kernel
theorem dX8_turn_11 : decode cX8_turn 11 = .ok (.aload_n 0, 1) := by decide +kernel
theorem dX8_turn_12 : decode cX8_turn 12 = .ok (.iconst (-1), 1) := by decide +kernel
theorem dX8_turn_13 : decode cX8_turn 13 = .ok (.invokevirtual 76, 3) := by decide +kernel
theorem dX8_turn_16 : decode cX8_turn 16 = .ok (.ireturn, 1) := by decide +kernel
theorem dX8_turn_17 : decode cX8_turn 17 = .ok (.iload_n 2, 1) := by decide +kernel
theorem dX8_turn_18 : decode cX8_turn 18 = .ok (.ifCond .lt 8, 3) := by decide +kernel
theorem dX8_turn_21 : decode cX8_turn 21 = .ok (.iload_n 2, 1) := by decide +kernel
theorem dX8_turn_22 : decode cX8_turn 22 = .ok (.iconst 1, 1) := by decide +kernel
theorem dX8_turn_23 : decode cX8_turn 23 = .ok (.if_icmp .le 10, 3) := by decide +kernel
theorem dX8_turn_26 : decode cX8_turn 26 = .ok (.aload_n 0, 1) := by decide +kernel
theorem dX8_turn_27 : decode cX8_turn 27 = .ok (.bipush (-5), 2) := by decide +kernel
theorem dX8_turn_29 : decode cX8_turn 29 = .ok (.invokevirtual 76, 3) := by decide +kernel
theorem dX8_turn_32 : decode cX8_turn 32 = .ok (.ireturn, 1) := by decide +kernel
theorem dX8_turn_33 : decode cX8_turn 33 = .ok (.aload_n 0, 1) := by decide +kernel
theorem dX8_turn_34 : decode cX8_turn 34 = .ok (.getfield 10, 3) := by decide +kernel
theorem dX8_turn_37 : decode cX8_turn 37 = .ok (.iload_n 1, 1) := by decide +kernel
theorem dX8_turn_38 : decode cX8_turn 38 = .ok (.invokevirtual 193, 3) := by decide +kernel
theorem dX8_turn_41 : decode cX8_turn 41 = .ok (.istore_n 3, 1) := by decide +kernel
theorem dX8_turn_42 : decode cX8_turn 42 = .ok (.iconst 0, 1) := by decide +kernel
theorem dX8_turn_43 : decode cX8_turn 43 = .ok (.istore 4, 2) := by decide +kernel
theorem dX8_turn_45 : decode cX8_turn 45 = .ok (.aload_n 0, 1) := by decide +kernel
theorem dX8_turn_46 : decode cX8_turn 46 = .ok (.getfield 10, 3) := by decide +kernel
theorem dX8_turn_49 : decode cX8_turn 49 = .ok (.iload_n 3, 1) := by decide +kernel
theorem dX8_turn_50 : decode cX8_turn 50 = .ok (.iconst 0, 1) := by decide +kernel
theorem dX8_turn_51 : decode cX8_turn 51 = .ok (.invokevirtual 257, 3) := by decide +kernel
theorem dX8_turn_54 : decode cX8_turn 54 = .ok (.istore 5, 2) := by decide +kernel
theorem dX8_turn_56 : decode cX8_turn 56 = .ok (.iconst 1, 1) := by decide +kernel
theorem dX8_turn_57 : decode cX8_turn 57 = .ok (.istore 6, 2) := by decide +kernel
theorem dX8_turn_59 : decode cX8_turn 59 = .ok (.iload 6, 2) := by decide +kernel
theorem dX8_turn_61 : decode cX8_turn 61 = .ok (.iconst 4, 1) := by decide +kernel
theorem dX8_turn_62 : decode cX8_turn 62 = .ok (.if_icmp .ge 36, 3) := by decide +kernel
theorem dX8_turn_65 : decode cX8_turn 65 = .ok (.aload_n 0, 1) := by decide +kernel
theorem dX8_turn_66 : decode cX8_turn 66 = .ok (.getfield 10, 3) := by decide +kernel
theorem dX8_turn_69 : decode cX8_turn 69 = .ok (.iload_n 3, 1) := by decide +kernel
theorem dX8_turn_70 : decode cX8_turn 70 = .ok (.iload 6, 2) := by decide +kernel
theorem dX8_turn_72 : decode cX8_turn 72 = .ok (.invokevirtual 257, 3) := by decide +kernel
theorem dX8_turn_75 : decode cX8_turn 75 = .ok (.istore 7, 2) := by decide +kernel
theorem dX8_turn_77 : decode cX8_turn 77 = .ok (.iload 7, 2) := by decide +kernel
theorem dX8_turn_79 : decode cX8_turn 79 = .ok (.iload 5, 2) := by decide +kernel
theorem dX8_turn_81 : decode cX8_turn 81 = .ok (.if_icmp .ge 11, 3) := by decide +kernel
theorem dX8_turn_84 : decode cX8_turn 84 = .ok (.iload 7, 2) := by decide +kernel
theorem dX8_turn_86 : decode cX8_turn 86 = .ok (.istore 5, 2) := by decide +kernel
theorem dX8_turn_88 : decode cX8_turn 88 = .ok (.iload 6, 2) := by decide +kernel
theorem dX8_turn_90 : decode cX8_turn 90 = .ok (.istore 4, 2) := by decide +kernel
theorem dX8_turn_92 : decode cX8_turn 92 = .ok (.iinc 6 1, 3) := by decide +kernel
theorem dX8_turn_95 : decode cX8_turn 95 = .ok (.goto (-36), 3) := by decide +kernel
theorem dX8_turn_98 : decode cX8_turn 98 = .ok (.iload_n 2, 1) := by decide +kernel
theorem dX8_turn_99 : decode cX8_turn 99 = .ok (.ifCond .ne 8, 3) := by decide +kernel
theorem dX8_turn_102 : decode cX8_turn 102 = .ok (.iload 4, 2) := by decide +kernel
theorem dX8_turn_104 : decode cX8_turn 104 = .ok (.goto 5, 3) := by decide +kernel
theorem dX8_turn_107 : decode cX8_turn 107 = .ok (.iload 5, 2) := by decide +kernel
theorem dX8_turn_109 : decode cX8_turn 109 = .ok (.ireturn, 1) := by decide +kernel
set_option maxRecDepth 20000 in
theorem l_X8_turn {G : Gl} {d : Nat} {σ : Sg} {K : Option Value → Sg → Prop} {Z : Zt} (hZ : RelX Z σ) (hO : OkZ Z) {w s : Int} (w1 : 0 ≤ w) (w2 : w ≤ 1) (s1 : 0 ≤ s) (s2 : s ≤ 48) : ∀ (n : Nat) (i b : Int), i + n = 4 → 0 ≤ i → 0 ≤ b → b < 4 → K (some (.int (iI (if w = 0 then bwG (sham Z.1 s) n i b else sham Z.1 s (bwG (sham Z.1 s) n i b))))) σ → AW G (d + 4) RX8 cX8_turn 8 (some .int) 59 [(0, .ref (gA G 0)), (2, .int (iI w)), (3, .int (iI s)), (4, .int (iI b)), (5, .int (iI (sham Z.1 s b))), (6, .int (iI i))] [] σ K := by
  intro n
  induction n using Nat.strongRecOn
  rename_i n ih
  intro i b hn i1 b1 b2 hK
  have q1 := sham_rng Z.1 s i
  have q2 := sham_rng Z.1 s b
  refine A_iload (pc := 59) dX8_turn_59 rfl ?_
  refine A_iconst (pc := 61) dX8_turn_61 ?_
  refine A_icmp_ge (pc := 62) 98 dX8_turn_62 (by decide) (by omega) (by omega) (by omega) (by omega) (fun h62 => ?_) (fun h62 => ?_)
  · skip
    refine A_iload_n (pc := 98) dX8_turn_98 rfl rfl ?_
    refine A_if_ne (pc := 99) 107 dX8_turn_99 (by decide) (by omega) (by omega) (fun h99 => ?_) (fun h99 => ?_)
    · skip
      refine A_iload (pc := 107) dX8_turn_107 rfl ?_
      refine A_iret (pc := 109) rfl dX8_turn_109 ?_
      have hn0 : n = 0 := by omega
      subst hn0
      rw [if_neg (by omega)] at hK
      exact hK
    · skip
      refine A_iload (pc := 102) dX8_turn_102 rfl ?_
      refine A_goto (pc := 104) 109 dX8_turn_104 (by decide) ?_
      refine A_iret (pc := 109) rfl dX8_turn_109 ?_
      have hn0 : n = 0 := by omega
      subst hn0
      rw [if_pos (by omega)] at hK
      exact hK
  · skip
    refine A_aload_n (pc := 65) dX8_turn_65 rfl rfl ?_
    refine A_getR (pc := 66) fX8_10 rfl rfl dX8_turn_66 ?_
    refine A_iload_n (pc := 69) dX8_turn_69 rfl rfl ?_
    refine A_iload (pc := 70) dX8_turn_70 rfl ?_
    refine A_callV1 (pc := 72) kX8_257 rfl rfl (c_X5_shameFrom TC14 hZ.1 hO.1 (by omega) (by omega) (by omega) (by omega)) dX8_turn_72 rfl rfl (Nat.le_of_ble_eq_true rfl) (Nat.le_of_ble_eq_true rfl) ?_
    refine A_istore (pc := 75) dX8_turn_75 (Nat.le_of_ble_eq_true rfl) ?_
    refine A_iload (pc := 77) dX8_turn_77 rfl ?_
    refine A_iload (pc := 79) dX8_turn_79 rfl ?_
    refine A_icmp_ge (pc := 81) 92 dX8_turn_81 (by decide) (by omega) (by omega) (by omega) (by omega) (fun h81 => ?_) (fun h81 => ?_)
    · skip
      refine A_iinc (pc := 92) dX8_turn_92 rfl (Nat.le_of_ble_eq_true rfl) ?_
      refine A_goto (pc := 95) 59 dX8_turn_95 (by decide) ?_
      obtain ⟨m, rfl⟩ : ∃ m, n = m + 1 := ⟨n - 1, by omega⟩
      refine A_loc (l2 := [(0, _), (2, _), (3, _), (4, _), (5, _), (6, _)]) ⟨rfl, rfl, rfl, rfl, rfl, rfl, trivial⟩ ?_
      refine ih m (by omega) (i + 1) b (by omega) (by omega) b1 b2 ?_
      rw [bwG_n (by omega)] at hK
      exact hK
    · skip
      refine A_iload (pc := 84) dX8_turn_84 rfl ?_
      refine A_istore (pc := 86) dX8_turn_86 (Nat.le_of_ble_eq_true rfl) ?_
      refine A_iload (pc := 88) dX8_turn_88 rfl ?_
      refine A_istore (pc := 90) dX8_turn_90 (Nat.le_of_ble_eq_true rfl) ?_
      refine A_iinc (pc := 92) dX8_turn_92 rfl (Nat.le_of_ble_eq_true rfl) ?_
      refine A_goto (pc := 95) 59 dX8_turn_95 (by decide) ?_
      obtain ⟨m, rfl⟩ : ∃ m, n = m + 1 := ⟨n - 1, by omega⟩
      refine A_loc (l2 := [(0, _), (2, _), (3, _), (4, _), (5, _), (6, _)]) ⟨rfl, rfl, rfl, rfl, rfl, rfl, trivial⟩ ?_
      refine ih m (by omega) (i + 1) i (by omega) (by omega) (by omega) (by omega) ?_
      rw [bwG_y (by omega)] at hK
      exact hK
set_option maxRecDepth 20000 in
theorem c_X8_turn {G : Gl} {d : Nat} {σ : Sg} {Z : Zt} (hZ : RelX Z σ) (hO : OkZ Z) {p : Int} (hp1 : -2147483648 ≤ p) (hp2 : p < 2147483648) {w : Int} (hw1 : -2147483648 ≤ w) (hw2 : w < 2147483648) : CT G (d + 4) yX8_turn cX8_turn 8 (some .int) [.ref (gA G 0), .int (iI p), .int (iI w)] σ (RE (some (.int (iI (qTurn Z p w).1))) (fun υ => RelX (qTurn Z p w).2 υ ∧ Fr XC σ υ)) := by
  refine CT.of (by decide +kernel) (Nat.le_of_ble_eq_true rfl) ?_
  change AW G _ RX8 _ _ _ 0 [(0, .ref (gA G 0)), (1, .int (iI p)), (2, .int (iI w))] [] _ _
  have hO2 := hO.1
  obtain ⟨o1, o2, o3, o4, o5, o6, o7, o8, o9⟩ := hO2
  refine A_aload_n (pc := 0) dX8_turn_0 rfl rfl ?_
  refine A_getR (pc := 1) fX8_10 rfl rfl dX8_turn_1 ?_
  refine A_iload_n (pc := 4) dX8_turn_4 rfl rfl ?_
  refine A_callV1 (pc := 5) kX8_190 rfl rfl (c_X5_isWalker TC14 hZ.1 hO.1 hp1 hp2) dX8_turn_5 rfl rfl (Nat.le_of_ble_eq_true rfl) (Nat.le_of_ble_eq_true rfl) ?_
  refine A_ifb_ne (pc := 8) 17 dX8_turn_8 (by decide) (fun h8 => ?_) (fun h8 => ?_)
  · skip
    obtain ⟨k, rfl⟩ := Int.eq_ofNat_of_zero_le (show 0 ≤ p by omega)
    have q9 := o9 k (by omega)
    refine A_iload_n (pc := 17) dX8_turn_17 rfl rfl ?_
    refine A_if_lt (pc := 18) 26 dX8_turn_18 (by decide) (by omega) (by omega) (fun h18 => ?_) (fun h18 => ?_)
    · skip
      refine A_aload_n (pc := 26) dX8_turn_26 rfl rfl ?_
      refine A_bipush (pc := 27) dX8_turn_27 (by decide) ?_
      refine A_callVe (pc := 29) kX8_76 rfl rfl (c_X8_refuse hZ hO (t := -5) (by omega) (by omega)) dX8_turn_29 rfl rfl (Nat.le_of_ble_eq_true rfl) (Nat.le_of_ble_eq_true rfl) (fun υ hυ => ?_)
      refine A_iret (pc := 32) rfl dX8_turn_32 ?_
      exact RQX (by unfold qTurn; rw [if_neg (by omega), if_pos (by omega)]; rfl) hυ.1 (hυ.2.mono XC2)
    · skip
      refine A_iload_n (pc := 21) dX8_turn_21 rfl rfl ?_
      refine A_iconst (pc := 22) dX8_turn_22 ?_
      refine A_icmp_le (pc := 23) 33 dX8_turn_23 (by decide) (by omega) (by omega) (by omega) (by omega) (fun h23 => ?_) (fun h23 => ?_)
      · skip
        refine A_aload_n (pc := 33) dX8_turn_33 rfl rfl ?_
        refine A_getR (pc := 34) fX8_10 rfl rfl dX8_turn_34 ?_
        refine A_iload_n (pc := 37) dX8_turn_37 rfl rfl ?_
        refine A_callV1 (pc := 38) kX8_193 rfl rfl (c_X5_whereIs TC14 hZ.1 hO.1 (p := k) (by omega)) dX8_turn_38 rfl rfl (Nat.le_of_ble_eq_true rfl) (Nat.le_of_ble_eq_true rfl) ?_
        rw [if_pos (by omega)]
        refine A_istore_n (pc := 41) dX8_turn_41 rfl (Nat.le_of_ble_eq_true rfl) ?_
        refine A_iconst (pc := 42) dX8_turn_42 ?_
        refine A_istore (pc := 43) dX8_turn_43 (Nat.le_of_ble_eq_true rfl) ?_
        refine A_aload_n (pc := 45) dX8_turn_45 rfl rfl ?_
        refine A_getR (pc := 46) fX8_10 rfl rfl dX8_turn_46 ?_
        refine A_iload_n (pc := 49) dX8_turn_49 rfl rfl ?_
        refine A_iconst (pc := 50) dX8_turn_50 ?_
        refine A_callV1 (pc := 51) kX8_257 rfl rfl (c_X5_shameFrom TC14 hZ.1 hO.1 (by omega) (by omega) (by omega) (by omega)) dX8_turn_51 rfl rfl (Nat.le_of_ble_eq_true rfl) (Nat.le_of_ble_eq_true rfl) ?_
        refine A_istore (pc := 54) dX8_turn_54 (Nat.le_of_ble_eq_true rfl) ?_
        refine A_iconst (pc := 56) dX8_turn_56 ?_
        refine A_istore (pc := 57) dX8_turn_57 (Nat.le_of_ble_eq_true rfl) ?_
        refine A_loc (l2 := [(0, _), (2, _), (3, _), (4, _), (5, _), (6, _)]) ⟨rfl, rfl, rfl, rfl, rfl, rfl, trivial⟩ ?_
        refine l_X8_turn hZ hO (by omega) (by omega) (by omega) (by omega) 3 1 0 (by omega) (by omega) (by omega) (by omega) ?_
        exact RQX (by unfold qTurn; rw [if_neg (by omega), if_neg (by omega)]; rfl) hZ Fr.rf
      · skip
        refine A_aload_n (pc := 26) dX8_turn_26 rfl rfl ?_
        refine A_bipush (pc := 27) dX8_turn_27 (by decide) ?_
        refine A_callVe (pc := 29) kX8_76 rfl rfl (c_X8_refuse hZ hO (t := -5) (by omega) (by omega)) dX8_turn_29 rfl rfl (Nat.le_of_ble_eq_true rfl) (Nat.le_of_ble_eq_true rfl) (fun υ hυ => ?_)
        refine A_iret (pc := 32) rfl dX8_turn_32 ?_
        exact RQX (by unfold qTurn; rw [if_neg (by omega), if_pos (by omega)]; rfl) hυ.1 (hυ.2.mono XC2)
  · skip
    refine A_aload_n (pc := 11) dX8_turn_11 rfl rfl ?_
    refine A_iconst (pc := 12) dX8_turn_12 ?_
    refine A_callVe (pc := 13) kX8_76 rfl rfl (c_X8_refuse hZ hO (t := -1) (by omega) (by omega)) dX8_turn_13 rfl rfl (Nat.le_of_ble_eq_true rfl) (Nat.le_of_ble_eq_true rfl) (fun υ hυ => ?_)
    refine A_iret (pc := 16) rfl dX8_turn_16 ?_
    exact RQX (by unfold qTurn; rw [if_pos (by omega)]; rfl) hυ.1 (hυ.2.mono XC2)
theorem dX9_walkerOf_0 : decode cX9_walkerOf 0 = .ok (.aload_n 0, 1) := by decide +kernel
theorem dX9_walkerOf_1 : decode cX9_walkerOf 1 = .ok (.iload_n 1, 1) := by decide +kernel
theorem dX9_walkerOf_2 : decode cX9_walkerOf 2 = .ok (.invokevirtual 150, 3) := by decide +kernel
theorem dX9_walkerOf_5 : decode cX9_walkerOf 5 = .ok (.ifCond .ne 10, 3) := by decide +kernel
theorem dX9_walkerOf_8 : decode cX9_walkerOf 8 = .ok (.aload_n 0, 1) := by decide +kernel
theorem dX9_walkerOf_9 : decode cX9_walkerOf 9 = .ok (.bipush (-5), 2) := by decide +kernel
theorem dX9_walkerOf_11 : decode cX9_walkerOf 11 = .ok (.invokevirtual 79, 3) := by decide +kernel
theorem dX9_walkerOf_14 : decode cX9_walkerOf 14 = .ok (.ireturn, 1) := by decide +kernel
theorem dX9_walkerOf_15 : decode cX9_walkerOf 15 = .ok (.iload_n 2, 1) := by decide +kernel
theorem dX9_walkerOf_16 : decode cX9_walkerOf 16 = .ok (.tableswitch 106 0 5 #[40, 47, 54, 61, 78, 95], 40) := by decide +kernel
theorem dX9_walkerOf_56 : decode cX9_walkerOf 56 = .ok (.aload_n 0, 1) := by decide +kernel
theorem dX9_walkerOf_57 : decode cX9_walkerOf 57 = .ok (.getfield 22, 3) := by decide +kernel
theorem dX9_walkerOf_60 : decode cX9_walkerOf 60 = .ok (.iload_n 1, 1) := by decide +kernel
theorem dX9_walkerOf_61 : decode cX9_walkerOf 61 = .ok (.iaload, 1) := by decide +kernel
theorem dX9_walkerOf_62 : decode cX9_walkerOf 62 = .ok (.ireturn, 1) := by decide +kernel
theorem dX9_walkerOf_63 : decode cX9_walkerOf 63 = .ok (.aload_n 0, 1) := by decide +kernel
theorem dX9_walkerOf_64 : decode cX9_walkerOf 64 = .ok (.getfield 25, 3) := by decide +kernel
theorem dX9_walkerOf_67 : decode cX9_walkerOf 67 = .ok (.iload_n 1, 1) := by decide +kernel
theorem dX9_walkerOf_68 : decode cX9_walkerOf 68 = .ok (.iaload, 1) := by decide +kernel
theorem dX9_walkerOf_69 : decode cX9_walkerOf 69 = .ok (.ireturn, 1) := by decide +kernel
theorem dX9_walkerOf_70 : decode cX9_walkerOf 70 = .ok (.aload_n 0, 1) := by decide +kernel
theorem dX9_walkerOf_71 : decode cX9_walkerOf 71 = .ok (.getfield 28, 3) := by decide +kernel
theorem dX9_walkerOf_74 : decode cX9_walkerOf 74 = .ok (.iload_n 1, 1) := by decide +kernel
theorem dX9_walkerOf_75 : decode cX9_walkerOf 75 = .ok (.iaload, 1) := by decide +kernel
theorem dX9_walkerOf_76 : decode cX9_walkerOf 76 = .ok (.ireturn, 1) := by decide +kernel
theorem dX9_walkerOf_77 : decode cX9_walkerOf 77 = .ok (.aload_n 0, 1) := by decide +kernel
theorem dX9_walkerOf_78 : decode cX9_walkerOf 78 = .ok (.aload_n 0, 1) := by decide +kernel
theorem dX9_walkerOf_79 : decode cX9_walkerOf 79 = .ok (.getfield 22, 3) := by decide +kernel
theorem dX9_walkerOf_82 : decode cX9_walkerOf 82 = .ok (.iload_n 1, 1) := by decide +kernel
theorem dX9_walkerOf_83 : decode cX9_walkerOf 83 = .ok (.iaload, 1) := by decide +kernel
theorem dX9_walkerOf_84 : decode cX9_walkerOf 84 = .ok (.aload_n 0, 1) := by decide +kernel
theorem dX9_walkerOf_85 : decode cX9_walkerOf 85 = .ok (.getfield 25, 3) := by decide +kernel
theorem dX9_walkerOf_88 : decode cX9_walkerOf 88 = .ok (.iload_n 1, 1) := by decide +kernel
theorem dX9_walkerOf_89 : decode cX9_walkerOf 89 = .ok (.iaload, 1) := by decide +kernel
theorem dX9_walkerOf_90 : decode cX9_walkerOf 90 = .ok (.invokevirtual 156, 3) := by decide +kernel
theorem dX9_walkerOf_93 : decode cX9_walkerOf 93 = .ok (.ireturn, 1) := by decide +kernel
theorem dX9_walkerOf_94 : decode cX9_walkerOf 94 = .ok (.aload_n 0, 1) := by decide +kernel
theorem dX9_walkerOf_95 : decode cX9_walkerOf 95 = .ok (.aload_n 0, 1) := by decide +kernel
theorem dX9_walkerOf_96 : decode cX9_walkerOf 96 = .ok (.getfield 22, 3) := by decide +kernel
theorem dX9_walkerOf_99 : decode cX9_walkerOf 99 = .ok (.iload_n 1, 1) := by decide +kernel
theorem dX9_walkerOf_100 : decode cX9_walkerOf 100 = .ok (.iaload, 1) := by decide +kernel
theorem dX9_walkerOf_101 : decode cX9_walkerOf 101 = .ok (.aload_n 0, 1) := by decide +kernel
theorem dX9_walkerOf_102 : decode cX9_walkerOf 102 = .ok (.getfield 25, 3) := by decide +kernel
theorem dX9_walkerOf_105 : decode cX9_walkerOf 105 = .ok (.iload_n 1, 1) := by decide +kernel
theorem dX9_walkerOf_106 : decode cX9_walkerOf 106 = .ok (.iaload, 1) := by decide +kernel
theorem dX9_walkerOf_107 : decode cX9_walkerOf 107 = .ok (.invokevirtual 159, 3) := by decide +kernel
theorem dX9_walkerOf_110 : decode cX9_walkerOf 110 = .ok (.ireturn, 1) := by decide +kernel
theorem dX9_walkerOf_111 : decode cX9_walkerOf 111 = .ok (.aload_n 0, 1) := by decide +kernel
theorem dX9_walkerOf_112 : decode cX9_walkerOf 112 = .ok (.aload_n 0, 1) := by decide +kernel
theorem dX9_walkerOf_113 : decode cX9_walkerOf 113 = .ok (.getfield 22, 3) := by decide +kernel
theorem dX9_walkerOf_116 : decode cX9_walkerOf 116 = .ok (.iload_n 1, 1) := by decide +kernel
theorem dX9_walkerOf_117 : decode cX9_walkerOf 117 = .ok (.iaload, 1) := by decide +kernel
theorem dX9_walkerOf_118 : decode cX9_walkerOf 118 = .ok (.invokevirtual 162, 3) := by decide +kernel
theorem dX9_walkerOf_121 : decode cX9_walkerOf 121 = .ok (.ireturn, 1) := by decide +kernel
theorem dX9_walkerOf_122 : decode cX9_walkerOf 122 = .ok (.aload_n 0, 1) := by decide +kernel
theorem dX9_walkerOf_123 : decode cX9_walkerOf 123 = .ok (.bipush (-5), 2) := by decide +kernel
theorem dX9_walkerOf_125 : decode cX9_walkerOf 125 = .ok (.invokevirtual 79, 3) := by decide +kernel
theorem dX9_walkerOf_128 : decode cX9_walkerOf 128 = .ok (.ireturn, 1) := by decide +kernel
set_option maxRecDepth 20000 in
theorem c_X9_walkerOf {G : Gl} {d : Nat} {σ : Sg} {Z : Zt} (hZ : RelM Z σ) (hO : OkZ Z) {p : Int} (hp1 : -2147483648 ≤ p) (hp2 : p < 2147483648) {w : Int} (hw1 : -2147483648 ≤ w) (hw2 : w < 2147483648) : CT G (d + 7) yX9_walkerOf cX9_walkerOf 3 (some .int) [.ref (gA G 54), .int (iI p), .int (iI w)] σ (RE (some (.int (iI (qWalkerOf Z p w).1))) (fun υ => RelM (qWalkerOf Z p w).2 υ ∧ Fr MC σ υ)) := by
  refine CT.of (by decide +kernel) (Nat.le_of_ble_eq_true rfl) ?_
  change AW G _ RX9 _ _ _ 0 [(0, .ref (gA G 54)), (1, .int (iI p)), (2, .int (iI w))] [] _ _
  have hO2 := hO.1
  obtain ⟨o1, o2, o3, o4, o5, o6, o7, o8, o9⟩ := hO2
  have p0 := hZ.1.2.1
  have p1 := hZ.1.2.2.1
  refine A_aload_n (pc := 0) dX9_walkerOf_0 rfl rfl ?_
  refine A_iload_n (pc := 1) dX9_walkerOf_1 rfl rfl ?_
  refine A_callV1 (pc := 2) kX9_150 rfl rfl (c_X9_isWalker hZ.1 hO.1 hp1 hp2) dX9_walkerOf_2 rfl rfl (Nat.le_of_ble_eq_true rfl) (Nat.le_of_ble_eq_true rfl) ?_
  refine A_ifb_ne (pc := 5) 15 dX9_walkerOf_5 (by decide) (fun h5 => ?_) (fun h5 => ?_)
  · skip
    obtain ⟨k, rfl⟩ := Int.eq_ofNat_of_zero_le (show 0 ≤ p by omega)
    have q9 := o9 k (by omega)
    obtain ⟨j, hj⟩ := Int.eq_ofNat_of_zero_le q9.1
    refine A_iload_n (pc := 15) dX9_walkerOf_15 rfl rfl ?_
    refine A_tsw (pc := 16) [(0, 56), (1, 63), (2, 70), (3, 77), (4, 94), (5, 111)] 122 dX9_walkerOf_16 (by decide) (by decide) (by decide) (by omega) (by omega) ?_
    refine ⟨fun h16 => ?_, fun h16n0 => ?_⟩
    · skip
      refine A_aload_n (pc := 56) dX9_walkerOf_56 rfl rfl ?_
      refine A_getR (pc := 57) fX9_22 rfl rfl dX9_walkerOf_57 ?_
      refine A_iload_n (pc := 60) dX9_walkerOf_60 rfl rfl ?_
      refine A_ialdv (pc := 61) _ rfl rfl (by omega) (Nat.le_of_ble_eq_true rfl) (hZ.1.wat (p := k) (by omega)) dX9_walkerOf_61 ?_
      refine A_iret (pc := 62) rfl dX9_walkerOf_62 ?_
      exact RQM (by unfold qWalkerOf; rw [if_neg (by omega), if_pos (by omega)]; rfl) hZ Fr.rf
    refine ⟨fun h16 => ?_, fun h16n1 => ?_⟩
    · skip
      refine A_aload_n (pc := 63) dX9_walkerOf_63 rfl rfl ?_
      refine A_getR (pc := 64) fX9_25 rfl rfl dX9_walkerOf_64 ?_
      refine A_iload_n (pc := 67) dX9_walkerOf_67 rfl rfl ?_
      refine A_ialdv (pc := 68) _ rfl rfl (by omega) (Nat.le_of_ble_eq_true rfl) (hZ.1.wf (p := k) (by omega)) dX9_walkerOf_68 ?_
      refine A_iret (pc := 69) rfl dX9_walkerOf_69 ?_
      exact RQM (by unfold qWalkerOf; rw [if_neg (by omega), if_neg (by omega), if_pos (by omega)]; rfl) hZ Fr.rf
    refine ⟨fun h16 => ?_, fun h16n2 => ?_⟩
    · skip
      refine A_aload_n (pc := 70) dX9_walkerOf_70 rfl rfl ?_
      refine A_getR (pc := 71) fX9_28 rfl rfl dX9_walkerOf_71 ?_
      refine A_iload_n (pc := 74) dX9_walkerOf_74 rfl rfl ?_
      refine A_ialdv (pc := 75) _ rfl rfl (by omega) (Nat.le_of_ble_eq_true rfl) (hZ.1.wt (p := k) (by omega)) dX9_walkerOf_75 ?_
      refine A_iret (pc := 76) rfl dX9_walkerOf_76 ?_
      exact RQM (by unfold qWalkerOf; rw [if_neg (by omega), if_neg (by omega), if_neg (by omega), if_pos (by omega)]; rfl) hZ Fr.rf
    refine ⟨fun h16 => ?_, fun h16n3 => ?_⟩
    · skip
      refine A_aload_n (pc := 77) dX9_walkerOf_77 rfl rfl ?_
      refine A_aload_n (pc := 78) dX9_walkerOf_78 rfl rfl ?_
      refine A_getR (pc := 79) fX9_22 rfl rfl dX9_walkerOf_79 ?_
      refine A_iload_n (pc := 82) dX9_walkerOf_82 rfl rfl ?_
      refine A_ialdv (pc := 83) _ rfl rfl (by omega) (Nat.le_of_ble_eq_true rfl) (hZ.1.wat (p := k) (by omega)) dX9_walkerOf_83 ?_
      refine A_aload_n (pc := 84) dX9_walkerOf_84 rfl rfl ?_
      refine A_getR (pc := 85) fX9_25 rfl rfl dX9_walkerOf_85 ?_
      refine A_iload_n (pc := 88) dX9_walkerOf_88 rfl rfl ?_
      refine A_ialdv (pc := 89) _ rfl rfl (by omega) (Nat.le_of_ble_eq_true rfl) (hZ.1.wf (p := k) (by omega)) dX9_walkerOf_89 ?_
      refine A_callV1 (pc := 90) kX9_156 rfl rfl (c_X9_shame hZ.1 hO.1 (by omega) (by omega) (by omega) (by omega)) dX9_walkerOf_90 rfl rfl (Nat.le_of_ble_eq_true rfl) (Nat.le_of_ble_eq_true rfl) ?_
      refine A_iret (pc := 93) rfl dX9_walkerOf_93 ?_
      exact RQM (by unfold qWalkerOf; rw [if_neg (by omega), if_neg (by omega), if_neg (by omega), if_neg (by omega), if_pos (by omega)]; rfl) hZ Fr.rf
    refine ⟨fun h16 => ?_, fun h16n4 => ?_⟩
    · skip
      refine A_aload_n (pc := 94) dX9_walkerOf_94 rfl rfl ?_
      refine A_aload_n (pc := 95) dX9_walkerOf_95 rfl rfl ?_
      refine A_getR (pc := 96) fX9_22 rfl rfl dX9_walkerOf_96 ?_
      refine A_iload_n (pc := 99) dX9_walkerOf_99 rfl rfl ?_
      refine A_ialdv (pc := 100) _ rfl rfl (by omega) (Nat.le_of_ble_eq_true rfl) (hZ.1.wat (p := k) (by omega)) dX9_walkerOf_100 ?_
      refine A_aload_n (pc := 101) dX9_walkerOf_101 rfl rfl ?_
      refine A_getR (pc := 102) fX9_25 rfl rfl dX9_walkerOf_102 ?_
      refine A_iload_n (pc := 105) dX9_walkerOf_105 rfl rfl ?_
      refine A_ialdv (pc := 106) _ rfl rfl (by omega) (Nat.le_of_ble_eq_true rfl) (hZ.1.wf (p := k) (by omega)) dX9_walkerOf_106 ?_
      refine A_callV1 (pc := 107) kX9_159 rfl rfl (c_X9_looksIn hZ.1 hO.1 (by omega) (by omega) (by omega) (by omega)) dX9_walkerOf_107 rfl rfl (Nat.le_of_ble_eq_true rfl) (Nat.le_of_ble_eq_true rfl) ?_
      refine A_iret (pc := 110) rfl dX9_walkerOf_110 ?_
      exact RQM (by unfold qWalkerOf; rw [if_neg (by omega), if_neg (by omega), if_neg (by omega), if_neg (by omega), if_neg (by omega), if_pos (by omega)]; rfl) hZ Fr.rf
    refine ⟨fun h16 => ?_, fun h16n5 => ?_⟩
    · skip
      refine A_aload_n (pc := 111) dX9_walkerOf_111 rfl rfl ?_
      refine A_aload_n (pc := 112) dX9_walkerOf_112 rfl rfl ?_
      refine A_getR (pc := 113) fX9_22 rfl rfl dX9_walkerOf_113 ?_
      refine A_iload_n (pc := 116) dX9_walkerOf_116 rfl rfl ?_
      refine A_ialdv (pc := 117) _ rfl rfl (by omega) (Nat.le_of_ble_eq_true rfl) (hZ.1.wat (p := k) (by omega)) dX9_walkerOf_117 ?_
      rw [hj]
      refine A_callV1 (pc := 118) kX9_162 rfl rfl (c_X9_seenBy hZ.1 hO.1 (k := j) (by omega)) dX9_walkerOf_118 rfl rfl (Nat.le_of_ble_eq_true rfl) (Nat.le_of_ble_eq_true rfl) ?_
      refine A_iret (pc := 121) rfl dX9_walkerOf_121 ?_
      exact RQM (by unfold qWalkerOf; simp only [Int.toNat_natCast]; rw [if_neg (by omega), if_neg (by omega), if_neg (by omega), if_neg (by omega), if_neg (by omega), if_neg (by omega), hj]) hZ Fr.rf
    change AW G _ _ _ _ _ 122 _ _ _ _
    refine A_aload_n (pc := 122) dX9_walkerOf_122 rfl rfl ?_
    refine A_bipush (pc := 123) dX9_walkerOf_123 (by decide) ?_
    refine A_callVe (pc := 125) kX9_79 rfl rfl (c_X9_no hZ hO (t := -5) (by omega) (by omega)) dX9_walkerOf_125 rfl rfl (Nat.le_of_ble_eq_true rfl) (Nat.le_of_ble_eq_true rfl) (fun υ hυ => ?_)
    refine A_iret (pc := 128) rfl dX9_walkerOf_128 ?_
    exact RQM (by unfold qWalkerOf; rw [if_pos (by omega)]; rfl) hυ.1 (hυ.2.mono MC70)
  · skip
    refine A_aload_n (pc := 8) dX9_walkerOf_8 rfl rfl ?_
    refine A_bipush (pc := 9) dX9_walkerOf_9 (by decide) ?_
    refine A_callVe (pc := 11) kX9_79 rfl rfl (c_X9_no hZ hO (t := -5) (by omega) (by omega)) dX9_walkerOf_11 rfl rfl (Nat.le_of_ble_eq_true rfl) (Nat.le_of_ble_eq_true rfl) (fun υ hυ => ?_)
    refine A_iret (pc := 14) rfl dX9_walkerOf_14 ?_
    exact RQM (by unfold qWalkerOf; rw [if_pos (by omega)]; rfl) hυ.1 (hυ.2.mono MC70)
theorem dX9_seen_0 : decode cX9_seen 0 = .ok (.iload_n 2, 1) := by decide +kernel
theorem dX9_seen_1 : decode cX9_seen 1 = .ok (.iconst 0, 1) := by decide +kernel
theorem dX9_seen_2 : decode cX9_seen 2 = .ok (.iconst 1, 1) := by decide +kernel
theorem dX9_seen_3 : decode cX9_seen 3 = .ok (.invokestatic 86, 3) := by decide +kernel
theorem dX9_seen_6 : decode cX9_seen 6 = .ok (.ifCond .ne 10, 3) := by decide +kernel
theorem dX9_seen_9 : decode cX9_seen 9 = .ok (.aload_n 0, 1) := by decide +kernel
theorem dX9_seen_10 : decode cX9_seen 10 = .ok (.bipush (-5), 2) := by decide +kernel
theorem dX9_seen_12 : decode cX9_seen 12 = .ok (.invokevirtual 237, 3) := by decide +kernel
theorem dX9_seen_15 : decode cX9_seen 15 = .ok (.ireturn, 1) := by decide +kernel
theorem dX9_seen_16 : decode cX9_seen 16 = .ok (.iload_n 1, 1) := by decide +kernel
theorem dX9_seen_17 : decode cX9_seen 17 = .ok (.invokestatic 93, 3) := by decide +kernel
theorem dX9_seen_20 : decode cX9_seen 20 = .ok (.ifCond .ne 10, 3) := by decide +kernel
theorem dX9_seen_23 : decode cX9_seen 23 = .ok (.aload_n 0, 1) := by decide +kernel
theorem dX9_seen_24 : decode cX9_seen 24 = .ok (.bipush (-6), 2) := by decide +kernel
theorem dX9_seen_26 : decode cX9_seen 26 = .ok (.invokevirtual 237, 3) := by decide +kernel
theorem dX9_seen_29 : decode cX9_seen 29 = .ok (.ireturn, 1) := by decide +kernel
theorem dX9_seen_30 : decode cX9_seen 30 = .ok (.iload_n 2, 1) := by decide +kernel
theorem dX9_seen_31 : decode cX9_seen 31 = .ok (.ifCond .ne 11, 3) := by decide +kernel
theorem dX9_seen_34 : decode cX9_seen 34 = .ok (.aload_n 0, 1) := by decide +kernel
theorem dX9_seen_35 : decode cX9_seen 35 = .ok (.iload_n 1, 1) := by decide +kernel
theorem dX9_seen_36 : decode cX9_seen 36 = .ok (.invokevirtual 162, 3) := by decide +kernel
theorem dX9_seen_39 : decode cX9_seen 39 = .ok (.goto 17, 3) := by decide +kernel
theorem dX9_seen_42 : decode cX9_seen 42 = .ok (.aload_n 0, 1) := by decide +kernel
theorem dX9_seen_43 : decode cX9_seen 43 = .ok (.getfield 31, 3) := by decide +kernel
theorem dX9_seen_46 : decode cX9_seen 46 = .ok (.iload_n 1, 1) := by decide +kernel
theorem dX9_seen_47 : decode cX9_seen 47 = .ok (.baload, 1) := by decide +kernel
theorem dX9_seen_48 : decode cX9_seen 48 = .ok (.ifCond .eq 7, 3) := by decide +kernel
theorem dX9_seen_51 : decode cX9_seen 51 = .ok (.iconst 1, 1) := by decide +kernel
theorem dX9_seen_52 : decode cX9_seen 52 = .ok (.goto 4, 3) := by decide +kernel
theorem dX9_seen_55 : decode cX9_seen 55 = .ok (.iconst 0, 1) := by decide +kernel
theorem dX9_seen_56 : decode cX9_seen 56 = .ok (.ireturn, 1) := by decide +kernel
set_option maxRecDepth 20000 in
theorem c_X9_seen {G : Gl} {d : Nat} {σ : Sg} {Z : Zt} (hZ : RelM Z σ) (hO : OkZ Z) {s : Int} (hs1 : -2147483648 ≤ s) (hs2 : s < 2147483648) {w : Int} (hw1 : -2147483648 ≤ w) (hw2 : w < 2147483648) : CT G (d + 7) yX9_seen cX9_seen 3 (some .int) [.ref (gA G 54), .int (iI s), .int (iI w)] σ (RE (some (.int (iI (qSeen Z s w).1))) (fun υ => RelM (qSeen Z s w).2 υ ∧ Fr MC σ υ)) := by
  refine CT.of (by decide +kernel) (Nat.le_of_ble_eq_true rfl) ?_
  change AW G _ RX9 _ _ _ 0 [(0, .ref (gA G 54)), (1, .int (iI s)), (2, .int (iI w))] [] _ _
  refine A_iload_n (pc := 0) dX9_seen_0 rfl rfl ?_
  refine A_iconst (pc := 1) dX9_seen_1 ?_
  refine A_iconst (pc := 2) dX9_seen_2 ?_
  refine A_callS1 (pc := 3) kX9_86 (c_X9_within (v := w) (a := 0) (b := 1) (by omega) (by omega) (by omega) (by omega) (by omega) (by omega)) dX9_seen_3 rfl rfl (Nat.le_of_ble_eq_true rfl) (Nat.le_of_ble_eq_true rfl) ?_
  refine A_ifb_ne (pc := 6) 16 dX9_seen_6 (by decide) (fun h6 => ?_) (fun h6 => ?_)
  · skip
    refine A_iload_n (pc := 16) dX9_seen_16 rfl rfl ?_
    refine A_callS1 (pc := 17) kX9_93 (c_X9_isSquare hs1 hs2) dX9_seen_17 rfl rfl (Nat.le_of_ble_eq_true rfl) (Nat.le_of_ble_eq_true rfl) ?_
    refine A_ifb_ne (pc := 20) 30 dX9_seen_20 (by decide) (fun h20 => ?_) (fun h20 => ?_)
    · skip
      obtain ⟨k, rfl⟩ := Int.eq_ofNat_of_zero_le (show 0 ≤ s by omega)
      have hk : k < 49 := by omega
      refine A_iload_n (pc := 30) dX9_seen_30 rfl rfl ?_
      refine A_if_ne (pc := 31) 42 dX9_seen_31 (by decide) (by omega) (by omega) (fun h31 => ?_) (fun h31 => ?_)
      · skip
        refine A_aload_n (pc := 42) dX9_seen_42 rfl rfl ?_
        refine A_getR (pc := 43) fX9_31 rfl rfl dX9_seen_43 ?_
        refine A_iload_n (pc := 46) dX9_seen_46 rfl rfl ?_
        refine A_zaldv (pc := 47) _ rfl rfl (by omega) (Nat.le_of_ble_eq_true rfl) (hZ.1.1 k hk) dX9_seen_47 ?_
        refine A_ifb_eq (pc := 48) 55 dX9_seen_48 (by decide) (fun h48 => ?_) (fun h48 => ?_)
        · skip
          refine A_iconst (pc := 55) dX9_seen_55 ?_
          refine A_iret (pc := 56) rfl dX9_seen_56 ?_
          exact RQM (by unfold qSeen; rw [if_neg (by omega), if_neg (by omega), if_pos (by omega), bI_f (fun q => h48 ((sT_k hk).mp q))]) hZ Fr.rf
        · skip
          refine A_iconst (pc := 51) dX9_seen_51 ?_
          refine A_goto (pc := 52) 56 dX9_seen_52 (by decide) ?_
          refine A_iret (pc := 56) rfl dX9_seen_56 ?_
          exact RQM (by unfold qSeen; rw [if_neg (by omega), if_neg (by omega), if_pos (by omega), bI_t ((sT_k hk).mpr h48)]) hZ Fr.rf
      · skip
        refine A_aload_n (pc := 34) dX9_seen_34 rfl rfl ?_
        refine A_iload_n (pc := 35) dX9_seen_35 rfl rfl ?_
        refine A_callV1 (pc := 36) kX9_162 rfl rfl (c_X9_seenBy hZ.1 hO.1 (k := k) (by omega)) dX9_seen_36 rfl rfl (Nat.le_of_ble_eq_true rfl) (Nat.le_of_ble_eq_true rfl) ?_
        refine A_goto (pc := 39) 56 dX9_seen_39 (by decide) ?_
        refine A_iret (pc := 56) rfl dX9_seen_56 ?_
        exact RQM (by unfold qSeen; rw [if_neg (by omega), if_neg (by omega), if_neg (by omega)]) hZ Fr.rf
    · skip
      refine A_aload_n (pc := 23) dX9_seen_23 rfl rfl ?_
      refine A_bipush (pc := 24) dX9_seen_24 (by decide) ?_
      refine A_callVe (pc := 26) kX9_237 rfl rfl (c_X9_no10 hZ hO (t := -6) (by omega) (by omega)) dX9_seen_26 rfl rfl (Nat.le_of_ble_eq_true rfl) (Nat.le_of_ble_eq_true rfl) (fun υ hυ => ?_)
      refine A_iret (pc := 29) rfl dX9_seen_29 ?_
      exact RQM (by unfold qSeen; rw [if_neg (by omega), if_pos h20]; rfl) hυ.1 (hυ.2.mono MC70)
  · skip
    refine A_aload_n (pc := 9) dX9_seen_9 rfl rfl ?_
    refine A_bipush (pc := 10) dX9_seen_10 (by decide) ?_
    refine A_callVe (pc := 12) kX9_237 rfl rfl (c_X9_no10 hZ hO (t := -5) (by omega) (by omega)) dX9_seen_12 rfl rfl (Nat.le_of_ble_eq_true rfl) (Nat.le_of_ble_eq_true rfl) (fun υ hυ => ?_)
    refine A_iret (pc := 15) rfl dX9_seen_15 ?_
    exact RQM (by unfold qSeen; rw [if_pos h6]; rfl) hυ.1 (hυ.2.mono MC70)
theorem dX9_looks_0 : decode cX9_looks 0 = .ok (.aload_n 0, 1) := by decide +kernel
theorem dX9_looks_1 : decode cX9_looks 1 = .ok (.iload_n 1, 1) := by decide +kernel
theorem dX9_looks_2 : decode cX9_looks 2 = .ok (.invokevirtual 143, 3) := by decide +kernel
theorem dX9_looks_5 : decode cX9_looks 5 = .ok (.ifCond .eq 19, 3) := by decide +kernel
theorem dX9_looks_8 : decode cX9_looks 8 = .ok (.iload_n 2, 1) := by decide +kernel
theorem dX9_looks_9 : decode cX9_looks 9 = .ok (.invokestatic 136, 3) := by decide +kernel
theorem dX9_looks_12 : decode cX9_looks 12 = .ok (.ifCond .eq 12, 3) := by decide +kernel
theorem dX9_looks_15 : decode cX9_looks 15 = .ok (.aload_n 0, 1) := by decide +kernel
theorem dX9_looks_16 : decode cX9_looks 16 = .ok (.iload_n 1, 1) := by decide +kernel
theorem dX9_looks_17 : decode cX9_looks 17 = .ok (.iload_n 2, 1) := by decide +kernel
theorem dX9_looks_18 : decode cX9_looks 18 = .ok (.invokevirtual 159, 3) := by decide +kernel
theorem dX9_looks_21 : decode cX9_looks 21 = .ok (.goto 9, 3) := by decide +kernel
theorem dX9_looks_24 : decode cX9_looks 24 = .ok (.aload_n 0, 1) := by decide +kernel
theorem dX9_looks_25 : decode cX9_looks 25 = .ok (.bipush (-6), 2) := by decide +kernel
theorem dX9_looks_27 : decode cX9_looks 27 = .ok (.invokevirtual 237, 3) := by decide +kernel
theorem dX9_looks_30 : decode cX9_looks 30 = .ok (.ireturn, 1) := by decide +kernel
set_option maxRecDepth 20000 in
theorem c_X9_looks {G : Gl} {d : Nat} {σ : Sg} {Z : Zt} (hZ : RelM Z σ) (hO : OkZ Z) {s : Int} (hs1 : -2147483648 ≤ s) (hs2 : s < 2147483648) {w : Int} (hw1 : -2147483648 ≤ w) (hw2 : w < 2147483648) : CT G (d + 3) yX9_looks cX9_looks 3 (some .int) [.ref (gA G 54), .int (iI s), .int (iI w)] σ (RE (some (.int (iI (qLooks Z s w).1))) (fun υ => RelM (qLooks Z s w).2 υ ∧ Fr MC σ υ)) := by
  refine CT.of (by decide +kernel) (Nat.le_of_ble_eq_true rfl) ?_
  change AW G _ RX9 _ _ _ 0 [(0, .ref (gA G 54)), (1, .int (iI s)), (2, .int (iI w))] [] _ _
  refine A_aload_n (pc := 0) dX9_looks_0 rfl rfl ?_
  refine A_iload_n (pc := 1) dX9_looks_1 rfl rfl ?_
  refine A_callV1 (pc := 2) kX9_143 rfl rfl (c_X9_isOpen hZ.1 hO.1 hs1 hs2) dX9_looks_2 rfl rfl (Nat.le_of_ble_eq_true rfl) (Nat.le_of_ble_eq_true rfl) ?_
  refine A_ifb_eq (pc := 5) 24 dX9_looks_5 (by decide) (fun h5 => ?_) (fun h5 => ?_)
  · skip
    refine A_aload_n (pc := 24) dX9_looks_24 rfl rfl ?_
    refine A_bipush (pc := 25) dX9_looks_25 (by decide) ?_
    refine A_callVe (pc := 27) kX9_237 rfl rfl (c_X9_no10 hZ hO (t := -6) (by omega) (by omega)) dX9_looks_27 rfl rfl (Nat.le_of_ble_eq_true rfl) (Nat.le_of_ble_eq_true rfl) (fun υ hυ => ?_)
    refine A_iret (pc := 30) rfl dX9_looks_30 ?_
    exact RQM (by unfold qLooks; rw [if_pos (fun q => h5 q.1)]; rfl) hυ.1 (hυ.2.mono MC70)
  · skip
    refine A_iload_n (pc := 8) dX9_looks_8 rfl rfl ?_
    refine A_callS1 (pc := 9) kX9_136 (c_X9_isWay hw1 hw2) dX9_looks_9 rfl rfl (Nat.le_of_ble_eq_true rfl) (Nat.le_of_ble_eq_true rfl) ?_
    refine A_ifb_eq (pc := 12) 24 dX9_looks_12 (by decide) (fun h12 => ?_) (fun h12 => ?_)
    · skip
      refine A_aload_n (pc := 24) dX9_looks_24 rfl rfl ?_
      refine A_bipush (pc := 25) dX9_looks_25 (by decide) ?_
      refine A_callVe (pc := 27) kX9_237 rfl rfl (c_X9_no10 hZ hO (t := -6) (by omega) (by omega)) dX9_looks_27 rfl rfl (Nat.le_of_ble_eq_true rfl) (Nat.le_of_ble_eq_true rfl) (fun υ hυ => ?_)
      refine A_iret (pc := 30) rfl dX9_looks_30 ?_
      exact RQM (by unfold qLooks; rw [if_pos (fun q => h12 q.2)]; rfl) hυ.1 (hυ.2.mono MC70)
    · skip
      refine A_aload_n (pc := 15) dX9_looks_15 rfl rfl ?_
      refine A_iload_n (pc := 16) dX9_looks_16 rfl rfl ?_
      refine A_iload_n (pc := 17) dX9_looks_17 rfl rfl ?_
      refine A_callV1 (pc := 18) kX9_159 rfl rfl (c_X9_looksIn hZ.1 hO.1 h5.1.1 (by have := h5.1.2; omega) h12.1 (by omega)) dX9_looks_18 rfl rfl (Nat.le_of_ble_eq_true rfl) (Nat.le_of_ble_eq_true rfl) ?_
      refine A_goto (pc := 21) 30 dX9_looks_21 (by decide) ?_
      refine A_iret (pc := 30) rfl dX9_looks_30 ?_
      exact RQM (by unfold qLooks; rw [if_neg (fun q => q ⟨h5, h12⟩)]) hZ Fr.rf
theorem dX9_all_0 : decode cX9_all 0 = .ok (.aload_n 0, 1) := by decide +kernel
theorem dX9_all_1 : decode cX9_all 1 = .ok (.invokevirtual 240, 3) := by decide +kernel
theorem dX9_all_4 : decode cX9_all 4 = .ok (.invokestatic 117, 3) := by decide +kernel
theorem dX9_all_7 : decode cX9_all 7 = .ok (.ireturn, 1) := by decide +kernel
set_option maxRecDepth 20000 in
theorem c_X9_all {G : Gl} {d : Nat} {σ : Sg} {Z : Zt} (hZ : RelM Z σ) (hO : OkZ Z) : CT G (d + 7) yX9_all cX9_all 1 (some .int) [.ref (gA G 54)] σ (RE (some (.int (iI (qAll Z).1))) (fun υ => RelM (qAll Z).2 υ ∧ Fr MC σ υ)) := by
  refine CT.of (by decide +kernel) (Nat.le_of_ble_eq_true rfl) ?_
  change AW G _ RX9 _ _ _ 0 [(0, .ref (gA G 54))] [] _ _
  refine A_aload_n (pc := 0) dX9_all_0 rfl rfl ?_
  refine A_callV1 (pc := 1) kX9_240 rfl rfl (c_X9_allSeen hZ.1 hO.1) dX9_all_1 rfl rfl (Nat.le_of_ble_eq_true rfl) (Nat.le_of_ble_eq_true rfl) ?_
  refine A_callS1 (pc := 4) kX9_117 (c_J13_bitCount_95d88) dX9_all_4 rfl rfl (Nat.le_of_ble_eq_true rfl) (Nat.le_of_ble_eq_true rfl) ?_
  refine A_iret (pc := 7) rfl dX9_all_7 ?_
  exact RQM rfl hZ Fr.rf
theorem dX9_turn_0 : decode cX9_turn 0 = .ok (.aload_n 0, 1) := by decide +kernel
theorem dX9_turn_1 : decode cX9_turn 1 = .ok (.iload_n 1, 1) := by decide +kernel
theorem dX9_turn_2 : decode cX9_turn 2 = .ok (.invokevirtual 150, 3) := by decide +kernel
theorem dX9_turn_5 : decode cX9_turn 5 = .ok (.ifCond .ne 9, 3) := by decide +kernel
theorem dX9_turn_8 : decode cX9_turn 8 = .ok (.aload_n 0, 1) := by decide +kernel
theorem dX9_turn_9 : decode cX9_turn 9 = .ok (.iconst (-1), 1) := by decide +kernel
theorem dX9_turn_10 : decode cX9_turn 10 = .ok (.invokevirtual 79, 3) := by decide +kernel
theorem dX9_turn_13 : decode cX9_turn 13 = .ok (.ireturn, 1) := by decide +kernel
theorem dX9_turn_14 : decode cX9_turn 14 = .ok (.iload_n 2, 1) := by decide +kernel
theorem dX9_turn_15 : decode cX9_turn 15 = .ok (.iconst 0, 1) := by decide +kernel
theorem dX9_turn_16 : decode cX9_turn 16 = .ok (.iconst 1, 1) := by decide +kernel
theorem dX9_turn_17 : decode cX9_turn 17 = .ok (.invokestatic 86, 3) := by decide +kernel
theorem dX9_turn_20 : decode cX9_turn 20 = .ok (.ifCond .ne 10, 3) := by decide +kernel
theorem dX9_turn_23 : decode cX9_turn 23 = .ok (.aload_n 0, 1) := by decide +kernel
theorem dX9_turn_24 : decode cX9_turn 24 = .ok (.bipush (-5), 2) := by decide +kernel
theorem dX9_turn_26 : decode cX9_turn 26 = .ok (.invokevirtual 79, 3) := by decide +kernel
theorem dX9_turn_29 : decode cX9_turn 29 = .ok (.ireturn, 1) := by decide +kernel
theorem dX9_turn_30 : decode cX9_turn 30 = .ok (.iconst 0, 1) := by decide +kernel
theorem dX9_turn_31 : decode cX9_turn 31 = .ok (.istore_n 3, 1) := by decide +kernel
theorem dX9_turn_32 : decode cX9_turn 32 = .ok (.iconst 1, 1) := by decide +kernel
theorem dX9_turn_33 : decode cX9_turn 33 = .ok (.istore 4, 2) := by decide +kernel
theorem dX9_turn_35 : decode cX9_turn 35 = .ok (.iload 4, 2) := by decide +kernel
theorem dX9_turn_37 : decode cX9_turn 37 = .ok (.iconst 3, 1) := by decide +kernel
theorem dX9_turn_38 : decode cX9_turn 38 = .ok (.if_icmp .gt 38, 3) := by decide +kernel
theorem dX9_turn_41 : decode cX9_turn 41 = .ok (.aload_n 0, 1) := by decide +kernel
theorem dX9_turn_42 : decode cX9_turn 42 = .ok (.aload_n 0, 1) := by decide +kernel
theorem dX9_turn_43 : decode cX9_turn 43 = .ok (.getfield 22, 3) := by decide +kernel
theorem dX9_turn_46 : decode cX9_turn 46 = .ok (.iload_n 1, 1) := by decide +kernel
theorem dX9_turn_47 : decode cX9_turn 47 = .ok (.iaload, 1) := by decide +kernel
theorem dX9_turn_48 : decode cX9_turn 48 = .ok (.iload 4, 2) := by decide +kernel
theorem dX9_turn_50 : decode cX9_turn 50 = .ok (.invokevirtual 156, 3) := by decide +kernel
theorem dX9_turn_53 : decode cX9_turn 53 = .ok (.aload_n 0, 1) := by decide +kernel
theorem dX9_turn_54 : decode cX9_turn 54 = .ok (.aload_n 0, 1) := by decide +kernel
theorem dX9_turn_55 : decode cX9_turn 55 = .ok (.getfield 22, 3) := by decide +kernel
theorem dX9_turn_58 : decode cX9_turn 58 = .ok (.iload_n 1, 1) := by decide +kernel
theorem dX9_turn_59 : decode cX9_turn 59 = .ok (.iaload, 1) := by decide +kernel
theorem dX9_turn_60 : decode cX9_turn 60 = .ok (.iload_n 3, 1) := by decide +kernel
theorem dX9_turn_61 : decode cX9_turn 61 = .ok (.invokevirtual 156, 3) := by decide +kernel
theorem dX9_turn_64 : decode cX9_turn 64 = .ok (.if_icmp .ge 6, 3) := by decide +kernel
theorem dX9_turn_67 : decode cX9_turn 67 = .ok (.iload 4, 2) := by decide +kernel
theorem dX9_turn_69 : decode cX9_turn 69 = .ok (.istore_n 3, 1) := by decide +kernel
theorem dX9_turn_70 : decode cX9_turn 70 = .ok (.iinc 4 1, 3) := by decide +kernel
theorem dX9_turn_73 : decode cX9_turn 73 = .ok (.goto (-38), 3) := by decide +kernel
theorem dX9_turn_76 : decode cX9_turn 76 = .ok (.iload_n 2, 1) := by decide +kernel
theorem dX9_turn_77 : decode cX9_turn 77 = .ok (.ifCond .ne 7, 3) := by decide +kernel
theorem dX9_turn_80 : decode cX9_turn 80 = .ok (.iload_n 3, 1) := by decide +kernel
theorem dX9_turn_81 : decode cX9_turn 81 = .ok (.goto 14, 3) := by decide +kernel
theorem dX9_turn_84 : decode cX9_turn 84 = .ok (.aload_n 0, 1) := by decide +kernel
theorem dX9_turn_85 : decode cX9_turn 85 = .ok (.aload_n 0, 1) := by decide +kernel
theorem dX9_turn_86 : decode cX9_turn 86 = .ok (.getfield 22, 3) := by decide +kernel
theorem dX9_turn_89 : decode cX9_turn 89 = .ok (.iload_n 1, 1) := by decide +kernel
theorem dX9_turn_90 : decode cX9_turn 90 = .ok (.iaload, 1) := by decide +kernel
theorem dX9_turn_91 : decode cX9_turn 91 = .ok (.iload_n 3, 1) := by decide +kernel
theorem dX9_turn_92 : decode cX9_turn 92 = .ok (.invokevirtual 156, 3) := by decide +kernel
theorem dX9_turn_95 : decode cX9_turn 95 = .ok (.ireturn, 1) := by decide +kernel
set_option maxRecDepth 20000 in
theorem l_X9_turn {G : Gl} {d : Nat} {σ : Sg} {K : Option Value → Sg → Prop} {Z : Zt} (hZ : RelM Z σ) (hO : OkZ Z) {w : Int} {k : Nat} (w1 : 0 ≤ w) (w2 : w ≤ 1) (hk : (k : Int) < Z.1.2.1 1) : ∀ (n : Nat) (i b : Int), i + n = 4 → 0 ≤ i → 0 ≤ b → b < 4 → K (some (.int (iI (if w = 0 then bwG (sham Z.1 (Z.1.2.2 4 k)) n i b else sham Z.1 (Z.1.2.2 4 k) (bwG (sham Z.1 (Z.1.2.2 4 k)) n i b))))) σ → AW G (d + 3) RX9 cX9_turn 5 (some .int) 35 [(0, .ref (gA G 54)), (1, .int (iI (k : Int))), (2, .int (iI w)), (3, .int (iI b)), (4, .int (iI i))] [] σ K := by
  intro n
  induction n using Nat.strongRecOn
  rename_i n ih
  intro i b hn i1 b1 b2 hK
  have q1 := sham_rng Z.1 (Z.1.2.2 4 k) i
  have q2 := sham_rng Z.1 (Z.1.2.2 4 k) b
  have hO2 := hO.1
  obtain ⟨o1, o2, o3, o4, o5, o6, o7, o8, o9⟩ := hO2
  have p0 := hZ.1.2.1
  have p1 := hZ.1.2.2.1
  have q9 := o9 k hk
  refine A_iload (pc := 35) dX9_turn_35 rfl ?_
  refine A_iconst (pc := 37) dX9_turn_37 ?_
  refine A_icmp_gt (pc := 38) 76 dX9_turn_38 (by decide) (by omega) (by omega) (by omega) (by omega) (fun h38 => ?_) (fun h38 => ?_)
  · skip
    refine A_iload_n (pc := 76) dX9_turn_76 rfl rfl ?_
    refine A_if_ne (pc := 77) 84 dX9_turn_77 (by decide) (by omega) (by omega) (fun h77 => ?_) (fun h77 => ?_)
    · skip
      refine A_aload_n (pc := 84) dX9_turn_84 rfl rfl ?_
      refine A_aload_n (pc := 85) dX9_turn_85 rfl rfl ?_
      refine A_getR (pc := 86) fX9_22 rfl rfl dX9_turn_86 ?_
      refine A_iload_n (pc := 89) dX9_turn_89 rfl rfl ?_
      refine A_ialdv (pc := 90) _ rfl rfl (by omega) (Nat.le_of_ble_eq_true rfl) (hZ.1.wat (p := k) hk) dX9_turn_90 ?_
      refine A_iload_n (pc := 91) dX9_turn_91 rfl rfl ?_
      refine A_callV1 (pc := 92) kX9_156 rfl rfl (c_X9_shame hZ.1 hO.1 (by omega) (by omega) (by omega) (by omega)) dX9_turn_92 rfl rfl (Nat.le_of_ble_eq_true rfl) (Nat.le_of_ble_eq_true rfl) ?_
      refine A_iret (pc := 95) rfl dX9_turn_95 ?_
      have hn0 : n = 0 := by omega
      subst hn0
      rw [if_neg (by omega)] at hK
      exact hK
    · skip
      refine A_iload_n (pc := 80) dX9_turn_80 rfl rfl ?_
      refine A_goto (pc := 81) 95 dX9_turn_81 (by decide) ?_
      refine A_iret (pc := 95) rfl dX9_turn_95 ?_
      have hn0 : n = 0 := by omega
      subst hn0
      rw [if_pos (by omega)] at hK
      exact hK
  · skip
    refine A_aload_n (pc := 41) dX9_turn_41 rfl rfl ?_
    refine A_aload_n (pc := 42) dX9_turn_42 rfl rfl ?_
    refine A_getR (pc := 43) fX9_22 rfl rfl dX9_turn_43 ?_
    refine A_iload_n (pc := 46) dX9_turn_46 rfl rfl ?_
    refine A_ialdv (pc := 47) _ rfl rfl (by omega) (Nat.le_of_ble_eq_true rfl) (hZ.1.wat (p := k) hk) dX9_turn_47 ?_
    refine A_iload (pc := 48) dX9_turn_48 rfl ?_
    refine A_callV1 (pc := 50) kX9_156 rfl rfl (c_X9_shame hZ.1 hO.1 (by omega) (by omega) (by omega) (by omega)) dX9_turn_50 rfl rfl (Nat.le_of_ble_eq_true rfl) (Nat.le_of_ble_eq_true rfl) ?_
    refine A_aload_n (pc := 53) dX9_turn_53 rfl rfl ?_
    refine A_aload_n (pc := 54) dX9_turn_54 rfl rfl ?_
    refine A_getR (pc := 55) fX9_22 rfl rfl dX9_turn_55 ?_
    refine A_iload_n (pc := 58) dX9_turn_58 rfl rfl ?_
    refine A_ialdv (pc := 59) _ rfl rfl (by omega) (Nat.le_of_ble_eq_true rfl) (hZ.1.wat (p := k) hk) dX9_turn_59 ?_
    refine A_iload_n (pc := 60) dX9_turn_60 rfl rfl ?_
    refine A_callV1 (pc := 61) kX9_156 rfl rfl (c_X9_shame hZ.1 hO.1 (by omega) (by omega) (by omega) (by omega)) dX9_turn_61 rfl rfl (Nat.le_of_ble_eq_true rfl) (Nat.le_of_ble_eq_true rfl) ?_
    refine A_icmp_ge (pc := 64) 70 dX9_turn_64 (by decide) (by omega) (by omega) (by omega) (by omega) (fun h64 => ?_) (fun h64 => ?_)
    · skip
      refine A_iinc (pc := 70) dX9_turn_70 rfl (Nat.le_of_ble_eq_true rfl) ?_
      refine A_goto (pc := 73) 35 dX9_turn_73 (by decide) ?_
      obtain ⟨m, rfl⟩ : ∃ m, n = m + 1 := ⟨n - 1, by omega⟩
      refine A_loc (l2 := [(0, _), (1, _), (2, _), (3, _), (4, _)]) ⟨rfl, rfl, rfl, rfl, rfl, trivial⟩ ?_
      refine ih m (by omega) (i + 1) b (by omega) (by omega) b1 b2 ?_
      rw [bwG_n (by omega)] at hK
      exact hK
    · skip
      refine A_iload (pc := 67) dX9_turn_67 rfl ?_
      refine A_istore_n (pc := 69) dX9_turn_69 rfl (Nat.le_of_ble_eq_true rfl) ?_
      refine A_iinc (pc := 70) dX9_turn_70 rfl (Nat.le_of_ble_eq_true rfl) ?_
      refine A_goto (pc := 73) 35 dX9_turn_73 (by decide) ?_
      obtain ⟨m, rfl⟩ : ∃ m, n = m + 1 := ⟨n - 1, by omega⟩
      refine A_loc (l2 := [(0, _), (1, _), (2, _), (3, _), (4, _)]) ⟨rfl, rfl, rfl, rfl, rfl, trivial⟩ ?_
      refine ih m (by omega) (i + 1) i (by omega) (by omega) (by omega) (by omega) ?_
      rw [bwG_y (by omega)] at hK
      exact hK
set_option maxRecDepth 20000 in
theorem c_X9_turn {G : Gl} {d : Nat} {σ : Sg} {Z : Zt} (hZ : RelM Z σ) (hO : OkZ Z) {p : Int} (hp1 : -2147483648 ≤ p) (hp2 : p < 2147483648) {w : Int} (hw1 : -2147483648 ≤ w) (hw2 : w < 2147483648) : CT G (d + 3) yX9_turn cX9_turn 5 (some .int) [.ref (gA G 54), .int (iI p), .int (iI w)] σ (RE (some (.int (iI (qTurn Z p w).1))) (fun υ => RelM (qTurn Z p w).2 υ ∧ Fr MC σ υ)) := by
  refine CT.of (by decide +kernel) (Nat.le_of_ble_eq_true rfl) ?_
  change AW G _ RX9 _ _ _ 0 [(0, .ref (gA G 54)), (1, .int (iI p)), (2, .int (iI w))] [] _ _
  have hO2 := hO.1
  obtain ⟨o1, o2, o3, o4, o5, o6, o7, o8, o9⟩ := hO2
  have p0 := hZ.1.2.1
  have p1 := hZ.1.2.2.1
  refine A_aload_n (pc := 0) dX9_turn_0 rfl rfl ?_
  refine A_iload_n (pc := 1) dX9_turn_1 rfl rfl ?_
  refine A_callV1 (pc := 2) kX9_150 rfl rfl (c_X9_isWalker hZ.1 hO.1 hp1 hp2) dX9_turn_2 rfl rfl (Nat.le_of_ble_eq_true rfl) (Nat.le_of_ble_eq_true rfl) ?_
  refine A_ifb_ne (pc := 5) 14 dX9_turn_5 (by decide) (fun h5 => ?_) (fun h5 => ?_)
  · skip
    obtain ⟨k, rfl⟩ := Int.eq_ofNat_of_zero_le (show 0 ≤ p by omega)
    refine A_iload_n (pc := 14) dX9_turn_14 rfl rfl ?_
    refine A_iconst (pc := 15) dX9_turn_15 ?_
    refine A_iconst (pc := 16) dX9_turn_16 ?_
    refine A_callS1 (pc := 17) kX9_86 (c_X9_within (v := w) (a := 0) (b := 1) (by omega) (by omega) (by omega) (by omega) (by omega) (by omega)) dX9_turn_17 rfl rfl (Nat.le_of_ble_eq_true rfl) (Nat.le_of_ble_eq_true rfl) ?_
    refine A_ifb_ne (pc := 20) 30 dX9_turn_20 (by decide) (fun h20 => ?_) (fun h20 => ?_)
    · skip
      refine A_iconst (pc := 30) dX9_turn_30 ?_
      refine A_istore_n (pc := 31) dX9_turn_31 rfl (Nat.le_of_ble_eq_true rfl) ?_
      refine A_iconst (pc := 32) dX9_turn_32 ?_
      refine A_istore (pc := 33) dX9_turn_33 (Nat.le_of_ble_eq_true rfl) ?_
      refine A_loc (l2 := [(0, _), (1, _), (2, _), (3, _), (4, _)]) ⟨rfl, rfl, rfl, rfl, rfl, trivial⟩ ?_
      refine l_X9_turn hZ hO (by omega) (by omega) (by omega) 3 1 0 (by omega) (by omega) (by omega) (by omega) ?_
      exact RQM (by unfold qTurn; rw [if_neg (by omega), if_neg (by omega)]; rfl) hZ Fr.rf
    · skip
      refine A_aload_n (pc := 23) dX9_turn_23 rfl rfl ?_
      refine A_bipush (pc := 24) dX9_turn_24 (by decide) ?_
      refine A_callVe (pc := 26) kX9_79 rfl rfl (c_X9_no hZ hO (t := -5) (by omega) (by omega)) dX9_turn_26 rfl rfl (Nat.le_of_ble_eq_true rfl) (Nat.le_of_ble_eq_true rfl) (fun υ hυ => ?_)
      refine A_iret (pc := 29) rfl dX9_turn_29 ?_
      exact RQM (by unfold qTurn; rw [if_neg (by omega), if_pos (by omega)]; rfl) hυ.1 (hυ.2.mono MC70)
  · skip
    refine A_aload_n (pc := 8) dX9_turn_8 rfl rfl ?_
    refine A_iconst (pc := 9) dX9_turn_9 ?_
    refine A_callVe (pc := 10) kX9_79 rfl rfl (c_X9_no hZ hO (t := -1) (by omega) (by omega)) dX9_turn_10 rfl rfl (Nat.le_of_ble_eq_true rfl) (Nat.le_of_ble_eq_true rfl) (fun υ hυ => ?_)
    refine A_iret (pc := 13) rfl dX9_turn_13 ?_
    exact RQM (by unfold qTurn; rw [if_pos (by omega)]; rfl) hυ.1 (hυ.2.mono MC70)
