/-! PART 22: rows of squares; cover, sole; both -/
def elV (Z : Zt) (k i : Nat) : Int := (Z.2.1.2.2 k i).toInt32.toInt
theorem elV_rng (Z : Zt) (k i : Nat) : -2147483648 ≤ elV Z k i ∧ elV Z k i < 2147483648 := ⟨i32_lo _, i32_hi _⟩
theorem elI_k {n : Int} {el : Nat → Int64} {i : Nat} (h : (i : Int) < n) : elI n el (i : Int) = el i := by unfold elI; rw [if_pos ⟨by omega, h⟩]; rfl
def badE (Z : Zt) (k i : Nat) : Bool := decide (¬ (0 ≤ elV Z k i ∧ elV Z k i < 49))
def squT (Z : Zt) (s : Int) : Int := if rowT Z s ≠ 0 then rowT Z s else if anyR (badE Z s.toNat) (Z.2.1.2.1 s.toNat).toNat 0 = true then -6 else 0
theorem squT_rng (Z : Zt) (s : Int) : -6 ≤ squT Z s ∧ squT Z s ≤ 0 := by
  have := rowT_rng Z s
  unfold squT; (repeat' split) <;> omega
theorem squT_r {Z : Zt} {s : Int} (h : squT Z s = 0) : rowT Z s = 0 := by
  unfold squT at h
  by_cases q : rowT Z s = 0
  · exact q
  · rw [if_pos q] at h; exact h
theorem squT_eq {Z : Zt} {k : Nat} (h : rowT Z (k : Int) = 0) : squT Z (k : Int) = if anyR (badE Z k) (Z.2.1.2.1 k).toNat 0 = true then -6 else 0 := by
  unfold squT; rw [if_neg (by omega), Int.toNat_natCast]
theorem anyR_f {f : Nat → Bool} : ∀ n i, anyR f n i = false → ∀ k, i ≤ k → k < i + n → f k = false
  | 0, _, _, k, h1, h2 => by omega
  | n + 1, i, h, k, h1, h2 => by
    rw [anyR, Bool.or_eq_false_iff] at h
    by_cases e : k = i
    · rw [e]; exact h.1
    · exact anyR_f n (i + 1) h.2 k (by omega) (by omega)
theorem squT_el {Z : Zt} {k i : Nat} (h : squT Z (k : Int) = 0) (h0 : 0 ≤ Z.2.1.2.1 k) (hi : (i : Int) < Z.2.1.2.1 k) : 0 ≤ elV Z k i ∧ elV Z k i < 49 := by
  have hr := squT_r h
  unfold squT at h
  rw [if_neg (by omega), Int.toNat_natCast] at h
  by_cases q : anyR (badE Z k) (Z.2.1.2.1 k).toNat 0 = true
  · rw [if_pos q] at h; omega
  · have g := anyR_f _ _ (Bool.eq_false_iff.mpr q) i (Nat.zero_le _) (by omega)
    by_cases z : 0 ≤ elV Z k i ∧ elV Z k i < 49
    · exact z
    · rw [badE, decide_eq_true z] at g; exact absurd g (by decide)
theorem lcm_0 {h : Nat} (hh : h < 2 ^ 49) : lcm (lN h) 0 = bI (h ≠ 0) := by
  have e : (lN h).toInt = (h : Int) := lg_ofNat_toInt (by rw [pow49] at hh; omega)
  unfold lcm
  by_cases q : h = 0
  · subst q; rw [bI_f (by omega)]; decide
  · rw [bI_t q, if_pos (show (0 : Int64) < lN h from Int64.lt_iff_toInt_lt.mpr (by rw [e]; show (0 : Int) < _; omega))]
/-- the fewest that see all of B -/
def covG (τ : Tw) (b B : Nat) : Nat → Nat → Int → Int
  | 0, _, c => c
  | n + 1, m, c => covG τ b B n (m + 1) (if nB B (uniS τ b m) = 0 ∧ (c = -1 ∨ bc32 m < bc32 c) then (m : Int) else c)
theorem covG_y {τ : Tw} {b B n m : Nat} {c : Int} (h1 : nB B (uniS τ b m) = 0) (h2 : c = -1 ∨ bc32 m < bc32 c) : covG τ b B (n + 1) m c = covG τ b B n (m + 1) m := by rw [covG, if_pos ⟨h1, h2⟩]
theorem covG_n1 {τ : Tw} {b B n m : Nat} {c : Int} (h1 : ¬ nB B (uniS τ b m) = 0) : covG τ b B (n + 1) m c = covG τ b B n (m + 1) c := by rw [covG, if_neg (fun q => h1 q.1)]
theorem covG_n2 {τ : Tw} {b B n m : Nat} {c : Int} (h1 : ¬ (c = -1 ∨ bc32 m < bc32 c)) : covG τ b B (n + 1) m c = covG τ b B n (m + 1) c := by rw [covG, if_neg (fun q => h1 q.2)]
def qCover (Z : Zt) (s : Int) : Int × Zt := if squT Z s ≠ 0 then refA Z (squT Z s) else (covG Z.1 Z.1.1 (elS (Z.2.1.2.1 s.toNat) (Z.2.1.2.2 s.toNat) (Z.2.1.2.1 s.toNat).toNat 0) (2 ^ (Z.1.2.1 0).toNat) 0 (-1), Z)
/-- the one that sees most alone -/
def solG (f : Nat → Int) : Nat → Nat → Int → Int → Int
  | 0, _, b, _ => b
  | n + 1, i, b, c => if c < f i then solG f n (i + 1) i (f i) else solG f n (i + 1) b c
theorem solG_y {f : Nat → Int} {n i : Nat} {b c : Int} (h : c < f i) : solG f (n + 1) i b c = solG f n (i + 1) i (f i) := by rw [solG, if_pos h]
theorem solG_n {f : Nat → Int} {n i : Nat} {b c : Int} (h : ¬ c < f i) : solG f (n + 1) i b c = solG f n (i + 1) b c := by rw [solG, if_neg h]
def solF (τ : Tw) (b i : Nat) : Int := bc64 (lN (nB (see0 τ b i) (uniS τ b (511 - 2 ^ i))))
theorem solF_rng (τ : Tw) (b i : Nat) : 0 ≤ solF τ b i ∧ solF τ b i < 128 := bc64_rng _
def qSole (Z : Zt) : Int × Zt := (solG (solF Z.1 Z.1.1) (Z.1.2.1 0).toNat 0 (-1) (-1), Z)
theorem m511 : ∀ i, i < 9 → iI 511 &&& iI (-(2 ^ i : Nat) - 1) = iI ((511 - 2 ^ i : Nat) : Int) := by decide +kernel
theorem x511 : ∀ i, i < 9 → iI ((2 ^ i : Nat) : Int) ^^^ iI (-1) = iI (-(2 ^ i : Nat) - 1) := by decide +kernel
theorem b511 : ∀ i, i < 9 → ∀ p, p < 9 → (511 - 2 ^ i).testBit p = decide (p ≠ i) := by decide +kernel
theorem uniS_p {τ : Tw} (hO : OkT τ) (b m : Nat) : uniS τ b m = orN (fun p => if m.testBit p = true then seeB τ b p else 0) (τ.2.1 0).toNat 0 := by
  obtain ⟨-, o2, o3, -⟩ := hO
  obtain ⟨n, hn⟩ := Int.eq_ofNat_of_zero_le o2
  have e9 : 9 = n + (9 - n) := by omega
  unfold uniS
  rw [e9, orN_pad n 0 (fun p hp => by
    show (if m.testBit p = true then see0 τ b p else 0) = 0
    unfold see0
    rw [if_neg (show ¬ (p : Int) < τ.2.1 0 by omega)]
    by_cases q : m.testBit p = true
    · rw [if_pos q]
    · rw [if_neg q]), hn, Int.toNat_natCast]
  refine orN_congr n 0 (fun p _ hp => ?_)
  show (if m.testBit p = true then see0 τ b p else 0) = _
  unfold see0
  rw [if_pos (show (p : Int) < τ.2.1 0 by omega)]
theorem uniS_but {τ : Tw} (hO : OkT τ) (b : Nat) {i : Nat} (hi : i < 9) : uniS τ b (511 - 2 ^ i) = orN (fun p => if p = i then 0 else seeB τ b p) (τ.2.1 0).toNat 0 := by
  rw [uniS_p hO]
  obtain ⟨-, o2, o3, -⟩ := hO
  refine orN_congr _ 0 (fun p _ hp => ?_)
  show (if (511 - 2 ^ i).testBit p = true then seeB τ b p else 0) = if p = i then 0 else seeB τ b p
  rw [b511 i hi p (by omega)]
  by_cases q : p = i
  · rw [if_pos q, if_neg (by simp [q])]
  · rw [if_neg q, if_pos (by simp [q])]
theorem see0_in {τ : Tw} {b p : Nat} (h : (p : Int) < τ.2.1 0) : see0 τ b p = seeB τ b p := if_pos h
theorem pow9 {p : Nat} (h : p ≤ 9) : 2 ^ p ≤ 512 := Nat.pow_le_pow_right (n := 2) (by decide) h
theorem shrI_I {m k : Nat} (hm : m < 2147483648) (hk : k < 32) : iI (m : Int) >>> (iI (k : Int) &&& 31) = iI ((m / 2 ^ k : Nat) : Int) := by
  rw [iI_n, iI_n, iI_n]
  apply Int32.toBitVec_inj.1
  rw [Int32.toBitVec_shiftRight]
  have h1 : ((nI k &&& 31).toBitVec.smod 32).toNat = k := s_l k hk
  rw [BitVec.sshiftRight_eq', h1]
  have h2 : (nI m).toBitVec = BitVec.ofNat 32 m := rfl
  have h3 : (nI (m / 2 ^ k)).toBitVec = BitVec.ofNat 32 (m / 2 ^ k) := rfl
  rw [h2, h3, BitVec.sshiftRight_eq_of_msb_false]
  · apply BitVec.eq_of_toNat_eq
    have h4 : m / 2 ^ k < 2 ^ 32 := Nat.lt_of_le_of_lt (Nat.div_le_self _ _) (by omega)
    rw [BitVec.toNat_ushiftRight, BitVec.toNat_ofNat, BitVec.toNat_ofNat, Nat.mod_eq_of_lt (by omega), Nat.mod_eq_of_lt h4, Nat.shiftRight_eq_div_pow]
  · rw [BitVec.msb_eq_false_iff_two_mul_lt, BitVec.toNat_ofNat, Nat.mod_eq_of_lt (by omega)]
    omega
theorem dX8_squaresTrouble_0 : decode cX8_squaresTrouble 0 = .ok (.aload_n 0, 1) := by decide +kernel
theorem dX8_squaresTrouble_1 : decode cX8_squaresTrouble 1 = .ok (.iload_n 1, 1) := by decide +kernel
theorem dX8_squaresTrouble_2 : decode cX8_squaresTrouble 2 = .ok (.invokevirtual 87, 3) := by decide +kernel
theorem dX8_squaresTrouble_5 : decode cX8_squaresTrouble 5 = .ok (.istore_n 2, 1) := by decide +kernel
theorem dX8_squaresTrouble_6 : decode cX8_squaresTrouble 6 = .ok (.iload_n 2, 1) := by decide +kernel
theorem dX8_squaresTrouble_7 : decode cX8_squaresTrouble 7 = .ok (.ifCond .eq 5, 3) := by decide +kernel
theorem dX8_squaresTrouble_10 : decode cX8_squaresTrouble 10 = .ok (.iload_n 2, 1) := by decide +kernel
theorem dX8_squaresTrouble_11 : decode cX8_squaresTrouble 11 = .ok (.ireturn, 1) := by decide +kernel
theorem dX8_squaresTrouble_12 : decode cX8_squaresTrouble 12 = .ok (.iconst 0, 1) := by decide +kernel
theorem dX8_squaresTrouble_13 : decode cX8_squaresTrouble 13 = .ok (.istore_n 3, 1) := by decide +kernel
theorem dX8_squaresTrouble_14 : decode cX8_squaresTrouble 14 = .ok (.iload_n 3, 1) := by decide +kernel
theorem dX8_squaresTrouble_15 : decode cX8_squaresTrouble 15 = .ok (.aload_n 0, 1) := by decide +kernel
theorem dX8_squaresTrouble_16 : decode cX8_squaresTrouble 16 = .ok (.getfield 25, 3) := by decide +kernel
theorem dX8_squaresTrouble_19 : decode cX8_squaresTrouble 19 = .ok (.iload_n 1, 1) := by decide +kernel
theorem dX8_squaresTrouble_20 : decode cX8_squaresTrouble 20 = .ok (.aaload, 1) := by decide +kernel
theorem dX8_squaresTrouble_21 : decode cX8_squaresTrouble 21 = .ok (.getfield 293, 3) := by decide +kernel
theorem dX8_squaresTrouble_24 : decode cX8_squaresTrouble 24 = .ok (.if_icmp .ge 28, 3) := by decide +kernel
theorem dX8_squaresTrouble_27 : decode cX8_squaresTrouble 27 = .ok (.aload_n 0, 1) := by decide +kernel
theorem dX8_squaresTrouble_28 : decode cX8_squaresTrouble 28 = .ok (.getfield 25, 3) := by decide +kernel
theorem dX8_squaresTrouble_31 : decode cX8_squaresTrouble 31 = .ok (.iload_n 1, 1) := by decide +kernel
theorem dX8_squaresTrouble_32 : decode cX8_squaresTrouble 32 = .ok (.aaload, 1) := by decide +kernel
theorem dX8_squaresTrouble_33 : decode cX8_squaresTrouble 33 = .ok (.iload_n 3, 1) := by decide +kernel
theorem dX8_squaresTrouble_34 : decode cX8_squaresTrouble 34 = .ok (.invokevirtual 380, 3) := by decide +kernel
theorem dX8_squaresTrouble_37 : decode cX8_squaresTrouble 37 = .ok (.invokestatic 152, 3) := by decide +kernel
theorem dX8_squaresTrouble_40 : decode cX8_squaresTrouble 40 = .ok (.ifCond .ne 6, 3) := by decide +kernel
theorem dX8_squaresTrouble_43 : decode cX8_squaresTrouble 43 = .ok (.bipush (-6), 2) := by decide +kernel
theorem dX8_squaresTrouble_45 : decode cX8_squaresTrouble 45 = .ok (.ireturn, 1) := by decide +kernel
theorem dX8_squaresTrouble_46 : decode cX8_squaresTrouble 46 = .ok (.iinc 3 1, 3) := by decide +kernel
theorem dX8_squaresTrouble_49 : decode cX8_squaresTrouble 49 = .ok (.goto (-35), 3) := by decide +kernel
theorem dX8_squaresTrouble_52 : decode cX8_squaresTrouble 52 = .ok (.iconst 0, 1) := by decide +kernel
theorem dX8_squaresTrouble_53 : decode cX8_squaresTrouble 53 = .ok (.ireturn, 1) := by decide +kernel
set_option maxRecDepth 20000 in
theorem l_X8_squaresTrouble {G : Gl} {d : Nat} {σ : Sg} {K : Option Value → Sg → Prop} {Z : Zt} (hZ : RelX Z σ) (hO : OkZ Z) {k : Nat} (k8 : k < 8) : ∀ (n i : Nat), (i : Int) + n = Z.2.1.2.1 k → K (some (.int (iI (if anyR (badE Z k) n i = true then -6 else 0)))) σ → AW G (d + 3) RX8 cX8_squaresTrouble 4 (some .int) 14 [(0, .ref (gA G 0)), (1, .int (iI (k : Int))), (3, .int (iI (i : Int)))] [] σ K := by
  intro n
  induction n using Nat.strongRecOn
  rename_i n ih
  intro i hn hK
  have ks := hZ.2.1 k k8
  have ko := hO.2.1 k k8
  obtain ⟨b1, b2, b3, b4⟩ := ko.1
  refine A_iload_n (pc := 14) dX8_squaresTrouble_14 rfl rfl ?_
  refine A_aload_n (pc := 15) dX8_squaresTrouble_15 rfl rfl ?_
  refine A_getR (pc := 16) fX8_25 rfl rfl dX8_squaresTrouble_16 ?_
  refine A_iload_n (pc := 19) dX8_squaresTrouble_19 rfl rfl ?_
  refine A_aald (pc := 20) _ rfl rfl (by omega) (Nat.le_of_ble_eq_true rfl) dX8_squaresTrouble_20 ?_
  refine A_getIv (pc := 21) fX8_293 (shp_S (SCk (by omega))) rfl ks.2.1 dX8_squaresTrouble_21 ?_
  refine A_icmp_ge (pc := 24) 52 dX8_squaresTrouble_24 (by decide) (by omega) (by omega) (by omega) (by omega) (fun h24 => ?_) (fun h24 => ?_)
  · skip
    refine A_iconst (pc := 52) dX8_squaresTrouble_52 ?_
    refine A_iret (pc := 53) rfl dX8_squaresTrouble_53 ?_
    have hn0 : n = 0 := by omega
    subst hn0
    rw [anyR, if_neg (by decide)] at hK
    exact hK
  · skip
    refine A_aload_n (pc := 27) dX8_squaresTrouble_27 rfl rfl ?_
    refine A_getR (pc := 28) fX8_25 rfl rfl dX8_squaresTrouble_28 ?_
    refine A_iload_n (pc := 31) dX8_squaresTrouble_31 rfl rfl ?_
    refine A_aald (pc := 32) _ rfl rfl (by omega) (Nat.le_of_ble_eq_true rfl) dX8_squaresTrouble_32 ?_
    refine A_iload_n (pc := 33) dX8_squaresTrouble_33 rfl rfl ?_
    refine A_callV1 (pc := 34) kX8_380 (shp_S (SCk (by omega))) rfl (c_X3_intAt (SCk k8) ks ko.1 (by omega) (by omega)) dX8_squaresTrouble_34 rfl rfl (Nat.le_of_ble_eq_true rfl) (Nat.le_of_ble_eq_true rfl) ?_
    rw [elI_k (by omega)]
    refine A_callS1 (pc := 37) kX8_152 (c_X0_isSquare (elV_rng Z k i).1 (elV_rng Z k i).2) dX8_squaresTrouble_37 rfl rfl (Nat.le_of_ble_eq_true rfl) (Nat.le_of_ble_eq_true rfl) ?_
    refine A_ifb_ne (pc := 40) 46 dX8_squaresTrouble_40 (by decide) (fun h40 => ?_) (fun h40 => ?_)
    · skip
      refine A_iinc (pc := 46) dX8_squaresTrouble_46 rfl (Nat.le_of_ble_eq_true rfl) ?_
      refine A_goto (pc := 49) 14 dX8_squaresTrouble_49 (by decide) ?_
      obtain ⟨m, rfl⟩ : ∃ m, n = m + 1 := ⟨n - 1, by omega⟩
      refine A_loc (l2 := [(0, _), (1, _), (3, _)]) ⟨rfl, rfl, rfl, trivial⟩ ?_
      refine ih m (by omega) (i + 1) (by omega) ?_
      rw [anyR, show badE Z k i = false from decide_eq_false (fun q => q h40), Bool.false_or] at hK
      exact hK
    · skip
      refine A_bipush (pc := 43) dX8_squaresTrouble_43 (by decide) ?_
      refine A_iret (pc := 45) rfl dX8_squaresTrouble_45 ?_
      obtain ⟨m, rfl⟩ : ∃ m, n = m + 1 := ⟨n - 1, by omega⟩
      rw [anyR, show badE Z k i = true from decide_eq_true h40, Bool.true_or, if_pos rfl] at hK
      exact hK
set_option maxRecDepth 20000 in
theorem c_X8_squaresTrouble {G : Gl} {d : Nat} {σ : Sg} {Z : Zt} (hZ : RelX Z σ) (hO : OkZ Z) {s : Int} (hs1 : -2147483648 ≤ s) (hs2 : s < 2147483648) : CT G (d + 3) yX8_squaresTrouble cX8_squaresTrouble 4 (some .int) [.ref (gA G 0), .int (iI s)] σ (R1 (.int (iI (squT Z s))) σ) := by
  refine CT.of (by decide +kernel) (Nat.le_of_ble_eq_true rfl) ?_
  change AW G _ RX8 _ _ _ 0 [(0, .ref (gA G 0)), (1, .int (iI s))] [] _ _
  have hrt := rowT_rng Z s
  refine A_aload_n (pc := 0) dX8_squaresTrouble_0 rfl rfl ?_
  refine A_iload_n (pc := 1) dX8_squaresTrouble_1 rfl rfl ?_
  refine A_callV1 (pc := 2) kX8_87 rfl rfl (c_X8_rowTrouble hZ hO hs1 hs2) dX8_squaresTrouble_2 rfl rfl (Nat.le_of_ble_eq_true rfl) (Nat.le_of_ble_eq_true rfl) ?_
  refine A_istore_n (pc := 5) dX8_squaresTrouble_5 rfl (Nat.le_of_ble_eq_true rfl) ?_
  refine A_iload_n (pc := 6) dX8_squaresTrouble_6 rfl rfl ?_
  refine A_if_eq (pc := 7) 12 dX8_squaresTrouble_7 (by decide) (by omega) (by omega) (fun h7 => ?_) (fun h7 => ?_)
  · skip
    have h0 : rowT Z s = 0 := by omega
    obtain ⟨h8, h100⟩ := rowT_0 h0
    obtain ⟨k, rfl⟩ := Int.eq_ofNat_of_zero_le (show 0 ≤ s by omega)
    have k8 : k < 8 := by omega
    have ks := hZ.2.1 k k8
    have ko := hO.2.1 k k8
    obtain ⟨b1, b2, b3, b4⟩ := ko.1
    simp only [Int.toNat_natCast] at h100
    refine A_iconst (pc := 12) dX8_squaresTrouble_12 ?_
    refine A_istore_n (pc := 13) dX8_squaresTrouble_13 rfl (Nat.le_of_ble_eq_true rfl) ?_
    refine A_loc (l2 := [(0, _), (1, _), (3, _)]) ⟨rfl, rfl, rfl, trivial⟩ ?_
    exact l_X8_squaresTrouble hZ hO k8 (Z.2.1.2.1 k).toNat 0 (by omega) ⟨by rw [squT_eq h0], rfl⟩
  · skip
    refine A_iload_n (pc := 10) dX8_squaresTrouble_10 rfl rfl ?_
    refine A_iret (pc := 11) rfl dX8_squaresTrouble_11 ?_
    exact R1_e (by unfold squT; rw [if_pos (by omega)])
theorem dX4_fewestFor_0 : decode cX4_fewestFor 0 = .ok (.iconst (-1), 1) := by decide +kernel
theorem dX4_fewestFor_1 : decode cX4_fewestFor 1 = .ok (.istore_n 3, 1) := by decide +kernel
theorem dX4_fewestFor_2 : decode cX4_fewestFor 2 = .ok (.iconst 0, 1) := by decide +kernel
theorem dX4_fewestFor_3 : decode cX4_fewestFor 3 = .ok (.istore 4, 2) := by decide +kernel
theorem dX4_fewestFor_5 : decode cX4_fewestFor 5 = .ok (.iload 4, 2) := by decide +kernel
theorem dX4_fewestFor_7 : decode cX4_fewestFor 7 = .ok (.iconst 1, 1) := by decide +kernel
theorem dX4_fewestFor_8 : decode cX4_fewestFor 8 = .ok (.aload_n 0, 1) := by decide +kernel
theorem dX4_fewestFor_9 : decode cX4_fewestFor 9 = .ok (.getfield 9, 3) := by decide +kernel
theorem dX4_fewestFor_12 : decode cX4_fewestFor 12 = .ok (.ishl, 1) := by decide +kernel
theorem dX4_fewestFor_13 : decode cX4_fewestFor 13 = .ok (.if_icmp .ge 58, 3) := by decide +kernel
theorem dX4_fewestFor_16 : decode cX4_fewestFor 16 = .ok (.iload_n 3, 1) := by decide +kernel
theorem dX4_fewestFor_17 : decode cX4_fewestFor 17 = .ok (.iconst (-1), 1) := by decide +kernel
theorem dX4_fewestFor_18 : decode cX4_fewestFor 18 = .ok (.if_icmp .eq 15, 3) := by decide +kernel
theorem dX4_fewestFor_21 : decode cX4_fewestFor 21 = .ok (.iload 4, 2) := by decide +kernel
theorem dX4_fewestFor_23 : decode cX4_fewestFor 23 = .ok (.invokestatic 42, 3) := by decide +kernel
theorem dX4_fewestFor_26 : decode cX4_fewestFor 26 = .ok (.iload_n 3, 1) := by decide +kernel
theorem dX4_fewestFor_27 : decode cX4_fewestFor 27 = .ok (.invokestatic 42, 3) := by decide +kernel
theorem dX4_fewestFor_30 : decode cX4_fewestFor 30 = .ok (.if_icmp .ge 7, 3) := by decide +kernel
theorem dX4_fewestFor_33 : decode cX4_fewestFor 33 = .ok (.iconst 1, 1) := by decide +kernel
theorem dX4_fewestFor_34 : decode cX4_fewestFor 34 = .ok (.goto 4, 3) := by decide +kernel
theorem dX4_fewestFor_37 : decode cX4_fewestFor 37 = .ok (.iconst 0, 1) := by decide +kernel
theorem dX4_fewestFor_38 : decode cX4_fewestFor 38 = .ok (.istore 5, 2) := by decide +kernel
theorem dX4_fewestFor_40 : decode cX4_fewestFor 40 = .ok (.iload 5, 2) := by decide +kernel
theorem dX4_fewestFor_42 : decode cX4_fewestFor 42 = .ok (.ifCond .eq 23, 3) := by decide +kernel
theorem dX4_fewestFor_45 : decode cX4_fewestFor 45 = .ok (.lload_n 1, 1) := by decide +kernel
theorem dX4_fewestFor_46 : decode cX4_fewestFor 46 = .ok (.aload_n 0, 1) := by decide +kernel
theorem dX4_fewestFor_47 : decode cX4_fewestFor 47 = .ok (.iload 4, 2) := by decide +kernel
theorem dX4_fewestFor_49 : decode cX4_fewestFor 49 = .ok (.invokevirtual 32, 3) := by decide +kernel
theorem dX4_fewestFor_52 : decode cX4_fewestFor 52 = .ok (.ldc2_w 48, 3) := by decide +kernel
theorem dX4_fewestFor_55 : decode cX4_fewestFor 55 = .ok (.lxor, 1) := by decide +kernel
theorem dX4_fewestFor_56 : decode cX4_fewestFor 56 = .ok (.land, 1) := by decide +kernel
theorem dX4_fewestFor_57 : decode cX4_fewestFor 57 = .ok (.lconst 0, 1) := by decide +kernel
theorem dX4_fewestFor_58 : decode cX4_fewestFor 58 = .ok (.lcmp, 1) := by decide +kernel
theorem dX4_fewestFor_59 : decode cX4_fewestFor 59 = .ok (.ifCond .ne 6, 3) := by decide +kernel
theorem dX4_fewestFor_62 : decode cX4_fewestFor 62 = .ok (.iload 4, 2) := by decide +kernel
theorem dX4_fewestFor_64 : decode cX4_fewestFor 64 = .ok (.istore_n 3, 1) := by decide +kernel
theorem dX4_fewestFor_65 : decode cX4_fewestFor 65 = .ok (.iinc 4 1, 3) := by decide +kernel
theorem dX4_fewestFor_68 : decode cX4_fewestFor 68 = .ok (.goto (-63), 3) := by decide +kernel
theorem dX4_fewestFor_71 : decode cX4_fewestFor 71 = .ok (.iload_n 3, 1) := by decide +kernel
theorem dX4_fewestFor_72 : decode cX4_fewestFor 72 = .ok (.ireturn, 1) := by decide +kernel
set_option maxRecDepth 20000 in
theorem l_X4_fewestFor {G : Gl} {d : Nat} {σ : Sg} {K : Option Value → Sg → Prop} {τ : Tw} {b : Nat} (hS : SiR τ b σ) (hO : OkT τ) {B p P : Nat} (hB : B < 2 ^ 49) (hp : τ.2.1 0 = (p : Int)) (hp9 : p ≤ 9) (hP : P = 2 ^ p) (hP5 : P ≤ 512) : ∀ (n m : Nat) (c : Int), m + n = P → -1 ≤ c → c < 512 → K (some (.int (iI (covG τ b B n m c)))) σ → AW G (d + 1) RX4 cX4_fewestFor 6 (some .int) 5 [(0, .ref (gA G 5)), (1, .long (lN B)), (3, .int (iI c)), (4, .int (iI (m : Int)))] [] σ K := by
  intro n
  induction n using Nat.strongRecOn
  rename_i n ih
  intro m c hn c1 c2 hK
  have q1 := bc32_rng (m : Int)
  have q2 := bc32_rng c
  have hpn := hS.1.trans hp
  refine A_iload (pc := 5) dX4_fewestFor_5 rfl ?_
  refine A_iconst (pc := 7) dX4_fewestFor_7 ?_
  refine A_aload_n (pc := 8) dX4_fewestFor_8 rfl rfl ?_
  refine A_getIv (pc := 9) fX4_9 rfl rfl hpn dX4_fewestFor_9 ?_
  refine A_ishl (pc := 12) (P : Int) dX4_fewestFor_12 (by rw [hP]; exact shl_I (by omega)) ?_
  refine A_icmp_ge (pc := 13) 71 dX4_fewestFor_13 (by decide) (by omega) (by omega) (by omega) (by omega) (fun h13 => ?_) (fun h13 => ?_)
  · skip
    refine A_iload_n (pc := 71) dX4_fewestFor_71 rfl rfl ?_
    refine A_iret (pc := 72) rfl dX4_fewestFor_72 ?_
    have hn0 : n = 0 := by omega
    subst hn0
    exact hK
  · skip
    refine A_iload_n (pc := 16) dX4_fewestFor_16 rfl rfl ?_
    refine A_iconst (pc := 17) dX4_fewestFor_17 ?_
    refine A_icmp_eq (pc := 18) 33 dX4_fewestFor_18 (by decide) (by omega) (by omega) (by omega) (by omega) (fun h18 => ?_) (fun h18 => ?_)
    · skip
      refine A_iconst (pc := 33) dX4_fewestFor_33 ?_
      refine A_goto (pc := 34) 38 dX4_fewestFor_34 (by decide) ?_
      refine A_istore (pc := 38) dX4_fewestFor_38 (Nat.le_of_ble_eq_true rfl) ?_
      refine A_iload (pc := 40) dX4_fewestFor_40 rfl ?_
      refine A_if_eq (pc := 42) 65 dX4_fewestFor_42 (by decide) (by omega) (by omega) (fun h42 => ?_) (fun h42 => ?_)
      · skip
        refine A_iinc (pc := 65) dX4_fewestFor_65 rfl (Nat.le_of_ble_eq_true rfl) ?_
        refine A_goto (pc := 68) 5 dX4_fewestFor_68 (by decide) ?_
        exfalso; omega
      · skip
        refine A_lload_n (pc := 45) dX4_fewestFor_45 rfl rfl ?_
        refine A_aload_n (pc := 46) dX4_fewestFor_46 rfl rfl ?_
        refine A_iload (pc := 47) dX4_fewestFor_47 rfl ?_
        refine A_callV1 (pc := 49) kX4_32 rfl rfl (c_X4_unionOf hS hO (m := m) (by omega)) dX4_fewestFor_49 rfl rfl (Nat.le_of_ble_eq_true rfl) (Nat.le_of_ble_eq_true rfl) ?_
        refine A_ldc2 (pc := 52) nX4_48 dX4_fewestFor_52 ?_
        refine A_lxor (pc := 55) dX4_fewestFor_55 ?_
        refine A_land (pc := 56) dX4_fewestFor_56 ?_
        rw [andn_L hB (uniS_lt _ _ _)]
        refine A_lconst (pc := 57) 0 dX4_fewestFor_57 rfl ?_
        refine A_lcmp (pc := 58) dX4_fewestFor_58 ?_
        rw [lcm_0 (nB_lt hB)]
        refine A_ifb_ne (pc := 59) 65 dX4_fewestFor_59 (by decide) (fun h59 => ?_) (fun h59 => ?_)
        · skip
          refine A_iinc (pc := 65) dX4_fewestFor_65 rfl (Nat.le_of_ble_eq_true rfl) ?_
          refine A_goto (pc := 68) 5 dX4_fewestFor_68 (by decide) ?_
          obtain ⟨u, rfl⟩ : ∃ u, n = u + 1 := ⟨n - 1, by omega⟩
          refine A_loc (l2 := [(0, _), (1, _), (3, _), (4, _)]) ⟨rfl, rfl, rfl, rfl, trivial⟩ ?_
          refine ih u (by omega) (m + 1) c (by omega) (by omega) (by omega) ?_
          rw [covG_n1 h59] at hK
          exact hK
        · skip
          refine A_iload (pc := 62) dX4_fewestFor_62 rfl ?_
          refine A_istore_n (pc := 64) dX4_fewestFor_64 rfl (Nat.le_of_ble_eq_true rfl) ?_
          refine A_iinc (pc := 65) dX4_fewestFor_65 rfl (Nat.le_of_ble_eq_true rfl) ?_
          refine A_goto (pc := 68) 5 dX4_fewestFor_68 (by decide) ?_
          obtain ⟨u, rfl⟩ : ∃ u, n = u + 1 := ⟨n - 1, by omega⟩
          refine A_loc (l2 := [(0, _), (1, _), (3, _), (4, _)]) ⟨rfl, rfl, rfl, rfl, trivial⟩ ?_
          refine ih u (by omega) (m + 1) (m : Int) (by omega) (by omega) (by omega) ?_
          rw [covG_y (Decidable.not_not.mp h59) (Or.inl h18)] at hK
          exact hK
    · skip
      refine A_iload (pc := 21) dX4_fewestFor_21 rfl ?_
      refine A_callS1 (pc := 23) kX4_42 (c_J6_bitCount_0f7a4) dX4_fewestFor_23 rfl rfl (Nat.le_of_ble_eq_true rfl) (Nat.le_of_ble_eq_true rfl) ?_
      refine A_iload_n (pc := 26) dX4_fewestFor_26 rfl rfl ?_
      refine A_callS1 (pc := 27) kX4_42 (c_J6_bitCount_0f7a4) dX4_fewestFor_27 rfl rfl (Nat.le_of_ble_eq_true rfl) (Nat.le_of_ble_eq_true rfl) ?_
      refine A_icmp_ge (pc := 30) 37 dX4_fewestFor_30 (by decide) (by omega) (by omega) (by omega) (by omega) (fun h30 => ?_) (fun h30 => ?_)
      · skip
        refine A_iconst (pc := 37) dX4_fewestFor_37 ?_
        refine A_istore (pc := 38) dX4_fewestFor_38 (Nat.le_of_ble_eq_true rfl) ?_
        refine A_iload (pc := 40) dX4_fewestFor_40 rfl ?_
        refine A_if_eq (pc := 42) 65 dX4_fewestFor_42 (by decide) (by omega) (by omega) (fun h42 => ?_) (fun h42 => ?_)
        · skip
          refine A_iinc (pc := 65) dX4_fewestFor_65 rfl (Nat.le_of_ble_eq_true rfl) ?_
          refine A_goto (pc := 68) 5 dX4_fewestFor_68 (by decide) ?_
          obtain ⟨u, rfl⟩ : ∃ u, n = u + 1 := ⟨n - 1, by omega⟩
          refine A_loc (l2 := [(0, _), (1, _), (3, _), (4, _)]) ⟨rfl, rfl, rfl, rfl, trivial⟩ ?_
          refine ih u (by omega) (m + 1) c (by omega) (by omega) (by omega) ?_
          rw [covG_n2 (by omega)] at hK
          exact hK
        · skip
          exfalso; omega
      · skip
        refine A_iconst (pc := 33) dX4_fewestFor_33 ?_
        refine A_goto (pc := 34) 38 dX4_fewestFor_34 (by decide) ?_
        refine A_istore (pc := 38) dX4_fewestFor_38 (Nat.le_of_ble_eq_true rfl) ?_
        refine A_iload (pc := 40) dX4_fewestFor_40 rfl ?_
        refine A_if_eq (pc := 42) 65 dX4_fewestFor_42 (by decide) (by omega) (by omega) (fun h42 => ?_) (fun h42 => ?_)
        · skip
          refine A_iinc (pc := 65) dX4_fewestFor_65 rfl (Nat.le_of_ble_eq_true rfl) ?_
          refine A_goto (pc := 68) 5 dX4_fewestFor_68 (by decide) ?_
          exfalso; omega
        · skip
          refine A_lload_n (pc := 45) dX4_fewestFor_45 rfl rfl ?_
          refine A_aload_n (pc := 46) dX4_fewestFor_46 rfl rfl ?_
          refine A_iload (pc := 47) dX4_fewestFor_47 rfl ?_
          refine A_callV1 (pc := 49) kX4_32 rfl rfl (c_X4_unionOf hS hO (m := m) (by omega)) dX4_fewestFor_49 rfl rfl (Nat.le_of_ble_eq_true rfl) (Nat.le_of_ble_eq_true rfl) ?_
          refine A_ldc2 (pc := 52) nX4_48 dX4_fewestFor_52 ?_
          refine A_lxor (pc := 55) dX4_fewestFor_55 ?_
          refine A_land (pc := 56) dX4_fewestFor_56 ?_
          rw [andn_L hB (uniS_lt _ _ _)]
          refine A_lconst (pc := 57) 0 dX4_fewestFor_57 rfl ?_
          refine A_lcmp (pc := 58) dX4_fewestFor_58 ?_
          rw [lcm_0 (nB_lt hB)]
          refine A_ifb_ne (pc := 59) 65 dX4_fewestFor_59 (by decide) (fun h59 => ?_) (fun h59 => ?_)
          · skip
            refine A_iinc (pc := 65) dX4_fewestFor_65 rfl (Nat.le_of_ble_eq_true rfl) ?_
            refine A_goto (pc := 68) 5 dX4_fewestFor_68 (by decide) ?_
            obtain ⟨u, rfl⟩ : ∃ u, n = u + 1 := ⟨n - 1, by omega⟩
            refine A_loc (l2 := [(0, _), (1, _), (3, _), (4, _)]) ⟨rfl, rfl, rfl, rfl, trivial⟩ ?_
            refine ih u (by omega) (m + 1) c (by omega) (by omega) (by omega) ?_
            rw [covG_n1 h59] at hK
            exact hK
          · skip
            refine A_iload (pc := 62) dX4_fewestFor_62 rfl ?_
            refine A_istore_n (pc := 64) dX4_fewestFor_64 rfl (Nat.le_of_ble_eq_true rfl) ?_
            refine A_iinc (pc := 65) dX4_fewestFor_65 rfl (Nat.le_of_ble_eq_true rfl) ?_
            refine A_goto (pc := 68) 5 dX4_fewestFor_68 (by decide) ?_
            obtain ⟨u, rfl⟩ : ∃ u, n = u + 1 := ⟨n - 1, by omega⟩
            refine A_loc (l2 := [(0, _), (1, _), (3, _), (4, _)]) ⟨rfl, rfl, rfl, rfl, trivial⟩ ?_
            refine ih u (by omega) (m + 1) (m : Int) (by omega) (by omega) (by omega) ?_
            rw [covG_y (Decidable.not_not.mp h59) (Or.inr (by omega))] at hK
            exact hK
set_option maxRecDepth 20000 in
theorem c_X4_fewestFor {G : Gl} {d : Nat} {σ : Sg} {τ : Tw} {b : Nat} (hS : SiR τ b σ) (hO : OkT τ) {B : Nat} (hB : B < 2 ^ 49) : CT G (d + 1) yX4_fewestFor cX4_fewestFor 6 (some .int) [.ref (gA G 5), .long (lN B)] σ (R1 (.int (iI (covG τ b B (2 ^ (τ.2.1 0).toNat) 0 (-1)))) σ) := by
  refine CT.of (by decide +kernel) (Nat.le_of_ble_eq_true rfl) ?_
  change AW G _ RX4 _ _ _ 0 [(0, .ref (gA G 5)), (1, .long (lN B))] [] _ _
  obtain ⟨p, hp⟩ := Int.eq_ofNat_of_zero_le hO.2.1
  have hp9 : p ≤ 9 := by have := hO.2.2.1; omega
  refine A_iconst (pc := 0) dX4_fewestFor_0 ?_
  refine A_istore_n (pc := 1) dX4_fewestFor_1 rfl (Nat.le_of_ble_eq_true rfl) ?_
  refine A_iconst (pc := 2) dX4_fewestFor_2 ?_
  refine A_istore (pc := 3) dX4_fewestFor_3 (Nat.le_of_ble_eq_true rfl) ?_
  refine A_loc (l2 := [(0, _), (1, _), (3, _), (4, _)]) ⟨rfl, rfl, rfl, rfl, trivial⟩ ?_
  exact l_X4_fewestFor hS hO hB hp hp9 rfl (pow9 hp9) (2 ^ p) 0 (-1) (by omega) (by omega) (by omega) ⟨by rw [hp, Int.toNat_natCast], rfl⟩
theorem dX8_cover_0 : decode cX8_cover 0 = .ok (.aload_n 0, 1) := by decide +kernel
theorem dX8_cover_1 : decode cX8_cover 1 = .ok (.iload_n 1, 1) := by decide +kernel
theorem dX8_cover_2 : decode cX8_cover 2 = .ok (.invokevirtual 274, 3) := by decide +kernel
theorem dX8_cover_5 : decode cX8_cover 5 = .ok (.istore_n 2, 1) := by decide +kernel
theorem dX8_cover_6 : decode cX8_cover 6 = .ok (.iload_n 2, 1) := by decide +kernel
theorem dX8_cover_7 : decode cX8_cover 7 = .ok (.ifCond .eq 9, 3) := by decide +kernel
theorem dX8_cover_10 : decode cX8_cover 10 = .ok (.aload_n 0, 1) := by decide +kernel
theorem dX8_cover_11 : decode cX8_cover 11 = .ok (.iload_n 2, 1) := by decide +kernel
theorem dX8_cover_12 : decode cX8_cover 12 = .ok (.invokevirtual 239, 3) := by decide +kernel
theorem dX8_cover_15 : decode cX8_cover 15 = .ok (.ireturn, 1) := by decide +kernel
theorem dX8_cover_16 : decode cX8_cover 16 = .ok (.aload_n 0, 1) := by decide +kernel
theorem dX8_cover_17 : decode cX8_cover 17 = .ok (.getfield 43, 3) := by decide +kernel
theorem dX8_cover_20 : decode cX8_cover 20 = .ok (.aload_n 0, 1) := by decide +kernel
theorem dX8_cover_21 : decode cX8_cover 21 = .ok (.getfield 10, 3) := by decide +kernel
theorem dX8_cover_24 : decode cX8_cover 24 = .ok (.aload_n 0, 1) := by decide +kernel
theorem dX8_cover_25 : decode cX8_cover 25 = .ok (.getfield 10, 3) := by decide +kernel
theorem dX8_cover_28 : decode cX8_cover 28 = .ok (.getfield 245, 3) := by decide +kernel
theorem dX8_cover_31 : decode cX8_cover 31 = .ok (.invokevirtual 249, 3) := by decide +kernel
theorem dX8_cover_34 : decode cX8_cover 34 = .ok (.aload_n 0, 1) := by decide +kernel
theorem dX8_cover_35 : decode cX8_cover 35 = .ok (.getfield 43, 3) := by decide +kernel
theorem dX8_cover_38 : decode cX8_cover 38 = .ok (.aload_n 0, 1) := by decide +kernel
theorem dX8_cover_39 : decode cX8_cover 39 = .ok (.getfield 25, 3) := by decide +kernel
theorem dX8_cover_42 : decode cX8_cover 42 = .ok (.iload_n 1, 1) := by decide +kernel
theorem dX8_cover_43 : decode cX8_cover 43 = .ok (.aaload, 1) := by decide +kernel
theorem dX8_cover_44 : decode cX8_cover 44 = .ok (.invokevirtual 277, 3) := by decide +kernel
theorem dX8_cover_47 : decode cX8_cover 47 = .ok (.invokevirtual 280, 3) := by decide +kernel
theorem dX8_cover_50 : decode cX8_cover 50 = .ok (.ireturn, 1) := by decide +kernel
set_option maxRecDepth 20000 in
theorem c_X8_cover {G : Gl} {d : Nat} {σ : Sg} {Z : Zt} (hZ : RelX Z σ) (hO : OkZ Z) {s : Int} (hs1 : -2147483648 ≤ s) (hs2 : s < 2147483648) : CT G (d + 5) yX8_cover cX8_cover 3 (some .int) [.ref (gA G 0), .int (iI s)] σ (RE (some (.int (iI (qCover Z s).1))) (fun υ => RelX (qCover Z s).2 υ ∧ Fr XC σ υ)) := by
  refine CT.of (by decide +kernel) (Nat.le_of_ble_eq_true rfl) ?_
  change AW G _ RX8 _ _ _ 0 [(0, .ref (gA G 0)), (1, .int (iI s))] [] _ _
  have hst := squT_rng Z s
  refine A_aload_n (pc := 0) dX8_cover_0 rfl rfl ?_
  refine A_iload_n (pc := 1) dX8_cover_1 rfl rfl ?_
  refine A_callV1 (pc := 2) kX8_274 rfl rfl (c_X8_squaresTrouble hZ hO hs1 hs2) dX8_cover_2 rfl rfl (Nat.le_of_ble_eq_true rfl) (Nat.le_of_ble_eq_true rfl) ?_
  refine A_istore_n (pc := 5) dX8_cover_5 rfl (Nat.le_of_ble_eq_true rfl) ?_
  refine A_iload_n (pc := 6) dX8_cover_6 rfl rfl ?_
  refine A_if_eq (pc := 7) 16 dX8_cover_7 (by decide) (by omega) (by omega) (fun h7 => ?_) (fun h7 => ?_)
  · skip
    have hs0 : squT Z s = 0 := by omega
    have h0 := squT_r hs0
    obtain ⟨h8, h100⟩ := rowT_0 h0
    obtain ⟨k, rfl⟩ := Int.eq_ofNat_of_zero_le (show 0 ≤ s by omega)
    have k8 : k < 8 := by omega
    have ks := hZ.2.1 k k8
    have ko := hO.2.1 k k8
    obtain ⟨b1, b2, b3, b4⟩ := ko.1
    simp only [Int.toNat_natCast] at h100
    refine A_aload_n (pc := 16) dX8_cover_16 rfl rfl ?_
    refine A_getR (pc := 17) fX8_43 rfl rfl dX8_cover_17 ?_
    refine A_aload_n (pc := 20) dX8_cover_20 rfl rfl ?_
    refine A_getR (pc := 21) fX8_10 rfl rfl dX8_cover_21 ?_
    refine A_aload_n (pc := 24) dX8_cover_24 rfl rfl ?_
    refine A_getR (pc := 25) fX8_10 rfl rfl dX8_cover_25 ?_
    refine A_getLv (pc := 28) fX8_245 rfl rfl hZ.1.1 dX8_cover_28 ?_
    refine A_callVe0 (pc := 31) kX8_249 rfl rfl (c_X4_take TC14 hZ.1 hO.1 hO.1.1) dX8_cover_31 rfl rfl (Nat.le_of_ble_eq_true rfl) (Nat.le_of_ble_eq_true rfl) (fun υ hυ => ?_)
    have hZ2 := hZ.fr hυ.2 S56X
    have ks2 := hZ2.2.1 k k8
    refine A_aload_n (pc := 34) dX8_cover_34 rfl rfl ?_
    refine A_getR (pc := 35) fX8_43 rfl rfl dX8_cover_35 ?_
    refine A_aload_n (pc := 38) dX8_cover_38 rfl rfl ?_
    refine A_getR (pc := 39) fX8_25 rfl rfl dX8_cover_39 ?_
    refine A_iload_n (pc := 42) dX8_cover_42 rfl rfl ?_
    refine A_aald (pc := 43) _ rfl rfl (by omega) (Nat.le_of_ble_eq_true rfl) dX8_cover_43 ?_
    refine A_callV1 (pc := 44) kX8_277 (shp_S (SCk (by omega))) rfl (c_X3_squares (SCk k8) ks2 ko.1) dX8_cover_44 rfl rfl (Nat.le_of_ble_eq_true rfl) (Nat.le_of_ble_eq_true rfl) ?_
    refine A_callV1 (pc := 47) kX8_280 rfl rfl (c_X4_fewestFor hυ.1 hO.1 (elS_lt _ _ _ _)) dX8_cover_47 rfl rfl (Nat.le_of_ble_eq_true rfl) (Nat.le_of_ble_eq_true rfl) ?_
    refine A_iret (pc := 50) rfl dX8_cover_50 ?_
    exact RQX (by unfold qCover; rw [if_neg (by omega), Int.toNat_natCast]) hZ2 (hυ.2.mono S56C)
  · skip
    refine A_aload_n (pc := 10) dX8_cover_10 rfl rfl ?_
    refine A_iload_n (pc := 11) dX8_cover_11 rfl rfl ?_
    refine A_callVe (pc := 12) kX8_239 rfl rfl (c_X8_refuseApart hZ hO (t := squT Z s) (by omega) (by omega)) dX8_cover_12 rfl rfl (Nat.le_of_ble_eq_true rfl) (Nat.le_of_ble_eq_true rfl) (fun υ hυ => ?_)
    refine A_iret (pc := 15) rfl dX8_cover_15 ?_
    exact RQX (by unfold qCover; rw [if_pos (by omega)]; rfl) hυ.1 (hυ.2.mono XC2)
theorem dX4_mostAlone_0 : decode cX4_mostAlone 0 = .ok (.iconst (-1), 1) := by decide +kernel
theorem dX4_mostAlone_1 : decode cX4_mostAlone 1 = .ok (.istore_n 1, 1) := by decide +kernel
theorem dX4_mostAlone_2 : decode cX4_mostAlone 2 = .ok (.iconst (-1), 1) := by decide +kernel
theorem dX4_mostAlone_3 : decode cX4_mostAlone 3 = .ok (.istore_n 2, 1) := by decide +kernel
theorem dX4_mostAlone_4 : decode cX4_mostAlone 4 = .ok (.sipush 511, 3) := by decide +kernel
theorem dX4_mostAlone_7 : decode cX4_mostAlone 7 = .ok (.istore_n 3, 1) := by decide +kernel
theorem dX4_mostAlone_8 : decode cX4_mostAlone 8 = .ok (.iconst 0, 1) := by decide +kernel
theorem dX4_mostAlone_9 : decode cX4_mostAlone 9 = .ok (.istore 4, 2) := by decide +kernel
theorem dX4_mostAlone_11 : decode cX4_mostAlone 11 = .ok (.iload 4, 2) := by decide +kernel
theorem dX4_mostAlone_13 : decode cX4_mostAlone 13 = .ok (.aload_n 0, 1) := by decide +kernel
theorem dX4_mostAlone_14 : decode cX4_mostAlone 14 = .ok (.getfield 9, 3) := by decide +kernel
theorem dX4_mostAlone_17 : decode cX4_mostAlone 17 = .ok (.if_icmp .ge 50, 3) := by decide +kernel
theorem dX4_mostAlone_20 : decode cX4_mostAlone 20 = .ok (.aload_n 0, 1) := by decide +kernel
theorem dX4_mostAlone_21 : decode cX4_mostAlone 21 = .ok (.getfield 15, 3) := by decide +kernel
theorem dX4_mostAlone_24 : decode cX4_mostAlone 24 = .ok (.iload 4, 2) := by decide +kernel
theorem dX4_mostAlone_26 : decode cX4_mostAlone 26 = .ok (.laload, 1) := by decide +kernel
theorem dX4_mostAlone_27 : decode cX4_mostAlone 27 = .ok (.aload_n 0, 1) := by decide +kernel
theorem dX4_mostAlone_28 : decode cX4_mostAlone 28 = .ok (.iload_n 3, 1) := by decide +kernel
theorem dX4_mostAlone_29 : decode cX4_mostAlone 29 = .ok (.iconst 1, 1) := by decide +kernel
theorem dX4_mostAlone_30 : decode cX4_mostAlone 30 = .ok (.iload 4, 2) := by decide +kernel
theorem dX4_mostAlone_32 : decode cX4_mostAlone 32 = .ok (.ishl, 1) := by decide +kernel
theorem dX4_mostAlone_33 : decode cX4_mostAlone 33 = .ok (.iconst (-1), 1) := by decide +kernel
theorem dX4_mostAlone_34 : decode cX4_mostAlone 34 = .ok (.ixor, 1) := by decide +kernel
theorem dX4_mostAlone_35 : decode cX4_mostAlone 35 = .ok (.iand, 1) := by decide +kernel
theorem dX4_mostAlone_36 : decode cX4_mostAlone 36 = .ok (.invokevirtual 32, 3) := by decide +kernel
theorem dX4_mostAlone_39 : decode cX4_mostAlone 39 = .ok (.ldc2_w 48, 3) := by decide +kernel
theorem dX4_mostAlone_42 : decode cX4_mostAlone 42 = .ok (.lxor, 1) := by decide +kernel
theorem dX4_mostAlone_43 : decode cX4_mostAlone 43 = .ok (.land, 1) := by decide +kernel
theorem dX4_mostAlone_44 : decode cX4_mostAlone 44 = .ok (.invokestatic 50, 3) := by decide +kernel
theorem dX4_mostAlone_47 : decode cX4_mostAlone 47 = .ok (.istore 5, 2) := by decide +kernel
theorem dX4_mostAlone_49 : decode cX4_mostAlone 49 = .ok (.iload 5, 2) := by decide +kernel
theorem dX4_mostAlone_51 : decode cX4_mostAlone 51 = .ok (.iload_n 2, 1) := by decide +kernel
theorem dX4_mostAlone_52 : decode cX4_mostAlone 52 = .ok (.if_icmp .le 9, 3) := by decide +kernel
theorem dX4_mostAlone_55 : decode cX4_mostAlone 55 = .ok (.iload 4, 2) := by decide +kernel
theorem dX4_mostAlone_57 : decode cX4_mostAlone 57 = .ok (.istore_n 1, 1) := by decide +kernel
theorem dX4_mostAlone_58 : decode cX4_mostAlone 58 = .ok (.iload 5, 2) := by decide +kernel
theorem dX4_mostAlone_60 : decode cX4_mostAlone 60 = .ok (.istore_n 2, 1) := by decide +kernel
theorem dX4_mostAlone_61 : decode cX4_mostAlone 61 = .ok (.iinc 4 1, 3) := by decide +kernel
theorem dX4_mostAlone_64 : decode cX4_mostAlone 64 = .ok (.goto (-53), 3) := by decide +kernel
theorem dX4_mostAlone_67 : decode cX4_mostAlone 67 = .ok (.iload_n 1, 1) := by decide +kernel
theorem dX4_mostAlone_68 : decode cX4_mostAlone 68 = .ok (.ireturn, 1) := by decide +kernel
set_option maxRecDepth 20000 in
theorem l_X4_mostAlone {G : Gl} {d : Nat} {σ : Sg} {K : Option Value → Sg → Prop} {τ : Tw} {b : Nat} (hS : SiR τ b σ) (hO : OkT τ) : ∀ (n i : Nat) (c w : Int), (i : Int) + n = τ.2.1 0 → -1 ≤ w → w < 128 → K (some (.int (iI (solG (solF τ b) n i c w)))) σ → AW G (d + 1) RX4 cX4_mostAlone 6 (some .int) 11 [(0, .ref (gA G 5)), (1, .int (iI c)), (2, .int (iI w)), (3, .int (iI 511)), (4, .int (iI (i : Int)))] [] σ K := by
  intro n
  induction n using Nat.strongRecOn
  rename_i n ih
  intro i c w hn w1 w2 hK
  have o2 := hO.2.1
  have o3 := hO.2.2.1
  have hr := solF_rng τ b i
  refine A_iload (pc := 11) dX4_mostAlone_11 rfl ?_
  refine A_aload_n (pc := 13) dX4_mostAlone_13 rfl rfl ?_
  refine A_getIv (pc := 14) fX4_9 rfl rfl hS.1 dX4_mostAlone_14 ?_
  refine A_icmp_ge (pc := 17) 67 dX4_mostAlone_17 (by decide) (by omega) (by omega) (by omega) (by omega) (fun h17 => ?_) (fun h17 => ?_)
  · skip
    refine A_iload_n (pc := 67) dX4_mostAlone_67 rfl rfl ?_
    refine A_iret (pc := 68) rfl dX4_mostAlone_68 ?_
    have hn0 : n = 0 := by omega
    subst hn0
    exact hK
  · skip
    refine A_aload_n (pc := 20) dX4_mostAlone_20 rfl rfl ?_
    refine A_getR (pc := 21) fX4_15 rfl rfl dX4_mostAlone_21 ?_
    refine A_iload (pc := 24) dX4_mostAlone_24 rfl ?_
    refine A_laldv (pc := 26) i rfl rfl (by omega) (Nat.le_of_ble_eq_true rfl) (hS.2 i (by omega)) dX4_mostAlone_26 ?_
    refine A_aload_n (pc := 27) dX4_mostAlone_27 rfl rfl ?_
    refine A_iload_n (pc := 28) dX4_mostAlone_28 rfl rfl ?_
    refine A_iconst (pc := 29) dX4_mostAlone_29 ?_
    refine A_iload (pc := 30) dX4_mostAlone_30 rfl ?_
    refine A_ishl (pc := 32) ((2 ^ i : Nat) : Int) dX4_mostAlone_32 (shl_I (by omega)) ?_
    refine A_iconst (pc := 33) dX4_mostAlone_33 ?_
    refine A_ixor (pc := 34) (-(2 ^ i : Nat) - 1) dX4_mostAlone_34 (x511 i (by omega)) ?_
    refine A_iand (pc := 35) ((511 - 2 ^ i : Nat) : Int) dX4_mostAlone_35 (m511 i (by omega)) ?_
    refine A_callV1 (pc := 36) kX4_32 rfl rfl (c_X4_unionOf hS hO (m := 511 - 2 ^ i) (Nat.lt_of_le_of_lt (Nat.sub_le _ _) (by decide))) dX4_mostAlone_36 rfl rfl (Nat.le_of_ble_eq_true rfl) (Nat.le_of_ble_eq_true rfl) ?_
    refine A_ldc2 (pc := 39) nX4_48 dX4_mostAlone_39 ?_
    refine A_lxor (pc := 42) dX4_mostAlone_42 ?_
    refine A_land (pc := 43) dX4_mostAlone_43 ?_
    rw [andn_L (see0_lt _ _ _) (uniS_lt _ _ _)]
    refine A_callS1 (pc := 44) kX4_50 (c_J13_bitCount_95d88) dX4_mostAlone_44 rfl rfl (Nat.le_of_ble_eq_true rfl) (Nat.le_of_ble_eq_true rfl) ?_
    change AW G _ _ _ _ _ _ _ [.int (iI (solF τ b i))] _ _
    refine A_istore (pc := 47) dX4_mostAlone_47 (Nat.le_of_ble_eq_true rfl) ?_
    refine A_iload (pc := 49) dX4_mostAlone_49 rfl ?_
    refine A_iload_n (pc := 51) dX4_mostAlone_51 rfl rfl ?_
    refine A_icmp_le (pc := 52) 61 dX4_mostAlone_52 (by decide) (by omega) (by omega) (by omega) (by omega) (fun h52 => ?_) (fun h52 => ?_)
    · skip
      refine A_iinc (pc := 61) dX4_mostAlone_61 rfl (Nat.le_of_ble_eq_true rfl) ?_
      refine A_goto (pc := 64) 11 dX4_mostAlone_64 (by decide) ?_
      obtain ⟨u, rfl⟩ : ∃ u, n = u + 1 := ⟨n - 1, by omega⟩
      refine A_loc (l2 := [(0, _), (1, _), (2, _), (3, _), (4, _)]) ⟨rfl, rfl, rfl, rfl, rfl, trivial⟩ ?_
      refine ih u (by omega) (i + 1) c w (by omega) (by omega) (by omega) ?_
      rw [solG_n (by omega)] at hK
      exact hK
    · skip
      refine A_iload (pc := 55) dX4_mostAlone_55 rfl ?_
      refine A_istore_n (pc := 57) dX4_mostAlone_57 rfl (Nat.le_of_ble_eq_true rfl) ?_
      refine A_iload (pc := 58) dX4_mostAlone_58 rfl ?_
      refine A_istore_n (pc := 60) dX4_mostAlone_60 rfl (Nat.le_of_ble_eq_true rfl) ?_
      refine A_iinc (pc := 61) dX4_mostAlone_61 rfl (Nat.le_of_ble_eq_true rfl) ?_
      refine A_goto (pc := 64) 11 dX4_mostAlone_64 (by decide) ?_
      obtain ⟨u, rfl⟩ : ∃ u, n = u + 1 := ⟨n - 1, by omega⟩
      refine A_loc (l2 := [(0, _), (1, _), (2, _), (3, _), (4, _)]) ⟨rfl, rfl, rfl, rfl, rfl, trivial⟩ ?_
      refine ih u (by omega) (i + 1) (i : Int) (solF τ b i) (by omega) (by omega) (by omega) ?_
      rw [solG_y (by omega)] at hK
      exact hK
set_option maxRecDepth 20000 in
theorem c_X4_mostAlone {G : Gl} {d : Nat} {σ : Sg} {τ : Tw} {b : Nat} (hS : SiR τ b σ) (hO : OkT τ) : CT G (d + 1) yX4_mostAlone cX4_mostAlone 6 (some .int) [.ref (gA G 5)] σ (R1 (.int (iI (solG (solF τ b) (τ.2.1 0).toNat 0 (-1) (-1)))) σ) := by
  refine CT.of (by decide +kernel) (Nat.le_of_ble_eq_true rfl) ?_
  change AW G _ RX4 _ _ _ 0 [(0, .ref (gA G 5))] [] _ _
  have o2 := hO.2.1
  refine A_iconst (pc := 0) dX4_mostAlone_0 ?_
  refine A_istore_n (pc := 1) dX4_mostAlone_1 rfl (Nat.le_of_ble_eq_true rfl) ?_
  refine A_iconst (pc := 2) dX4_mostAlone_2 ?_
  refine A_istore_n (pc := 3) dX4_mostAlone_3 rfl (Nat.le_of_ble_eq_true rfl) ?_
  refine A_sipush (pc := 4) dX4_mostAlone_4 (by decide) ?_
  refine A_istore_n (pc := 7) dX4_mostAlone_7 rfl (Nat.le_of_ble_eq_true rfl) ?_
  refine A_iconst (pc := 8) dX4_mostAlone_8 ?_
  refine A_istore (pc := 9) dX4_mostAlone_9 (Nat.le_of_ble_eq_true rfl) ?_
  refine A_loc (l2 := [(0, _), (1, _), (2, _), (3, _), (4, _)]) ⟨rfl, rfl, rfl, rfl, rfl, trivial⟩ ?_
  exact l_X4_mostAlone hS hO (τ.2.1 0).toNat 0 (-1) (-1) (by omega) (by omega) (by omega) ⟨rfl, rfl⟩
theorem dX8_sole_0 : decode cX8_sole 0 = .ok (.aload_n 0, 1) := by decide +kernel
theorem dX8_sole_1 : decode cX8_sole 1 = .ok (.getfield 43, 3) := by decide +kernel
theorem dX8_sole_4 : decode cX8_sole 4 = .ok (.aload_n 0, 1) := by decide +kernel
theorem dX8_sole_5 : decode cX8_sole 5 = .ok (.getfield 10, 3) := by decide +kernel
theorem dX8_sole_8 : decode cX8_sole 8 = .ok (.aload_n 0, 1) := by decide +kernel
theorem dX8_sole_9 : decode cX8_sole 9 = .ok (.getfield 10, 3) := by decide +kernel
theorem dX8_sole_12 : decode cX8_sole 12 = .ok (.getfield 245, 3) := by decide +kernel
theorem dX8_sole_15 : decode cX8_sole 15 = .ok (.invokevirtual 249, 3) := by decide +kernel
theorem dX8_sole_18 : decode cX8_sole 18 = .ok (.aload_n 0, 1) := by decide +kernel
theorem dX8_sole_19 : decode cX8_sole 19 = .ok (.getfield 43, 3) := by decide +kernel
theorem dX8_sole_22 : decode cX8_sole 22 = .ok (.invokevirtual 283, 3) := by decide +kernel
theorem dX8_sole_25 : decode cX8_sole 25 = .ok (.ireturn, 1) := by decide +kernel
set_option maxRecDepth 20000 in
theorem c_X8_sole {G : Gl} {d : Nat} {σ : Sg} {Z : Zt} (hZ : RelX Z σ) (hO : OkZ Z) : CT G (d + 5) yX8_sole cX8_sole 1 (some .int) [.ref (gA G 0)] σ (RE (some (.int (iI (qSole Z).1))) (fun υ => RelX (qSole Z).2 υ ∧ Fr XC σ υ)) := by
  refine CT.of (by decide +kernel) (Nat.le_of_ble_eq_true rfl) ?_
  change AW G _ RX8 _ _ _ 0 [(0, .ref (gA G 0))] [] _ _
  refine A_aload_n (pc := 0) dX8_sole_0 rfl rfl ?_
  refine A_getR (pc := 1) fX8_43 rfl rfl dX8_sole_1 ?_
  refine A_aload_n (pc := 4) dX8_sole_4 rfl rfl ?_
  refine A_getR (pc := 5) fX8_10 rfl rfl dX8_sole_5 ?_
  refine A_aload_n (pc := 8) dX8_sole_8 rfl rfl ?_
  refine A_getR (pc := 9) fX8_10 rfl rfl dX8_sole_9 ?_
  refine A_getLv (pc := 12) fX8_245 rfl rfl hZ.1.1 dX8_sole_12 ?_
  refine A_callVe0 (pc := 15) kX8_249 rfl rfl (c_X4_take TC14 hZ.1 hO.1 hO.1.1) dX8_sole_15 rfl rfl (Nat.le_of_ble_eq_true rfl) (Nat.le_of_ble_eq_true rfl) (fun υ hυ => ?_)
  refine A_aload_n (pc := 18) dX8_sole_18 rfl rfl ?_
  refine A_getR (pc := 19) fX8_43 rfl rfl dX8_sole_19 ?_
  refine A_callV1 (pc := 22) kX8_283 rfl rfl (c_X4_mostAlone hυ.1 hO.1) dX8_sole_22 rfl rfl (Nat.le_of_ble_eq_true rfl) (Nat.le_of_ble_eq_true rfl) ?_
  refine A_iret (pc := 25) rfl dX8_sole_25 ?_
  exact RQX rfl (hZ.fr hυ.2 S56X) (hυ.2.mono S56C)
theorem dX9_toldAt_0 : decode cX9_toldAt 0 = .ok (.aload_n 0, 1) := by decide +kernel
theorem dX9_toldAt_1 : decode cX9_toldAt 1 = .ok (.getfield 44, 3) := by decide +kernel
theorem dX9_toldAt_4 : decode cX9_toldAt 4 = .ok (.sipush 160, 3) := by decide +kernel
theorem dX9_toldAt_7 : decode cX9_toldAt 7 = .ok (.iload_n 1, 1) := by decide +kernel
theorem dX9_toldAt_8 : decode cX9_toldAt 8 = .ok (.imul, 1) := by decide +kernel
theorem dX9_toldAt_9 : decode cX9_toldAt 9 = .ok (.iload_n 2, 1) := by decide +kernel
theorem dX9_toldAt_10 : decode cX9_toldAt 10 = .ok (.iadd, 1) := by decide +kernel
theorem dX9_toldAt_11 : decode cX9_toldAt 11 = .ok (.laload, 1) := by decide +kernel
theorem dX9_toldAt_12 : decode cX9_toldAt 12 = .ok (.l2i, 1) := by decide +kernel
theorem dX9_toldAt_13 : decode cX9_toldAt 13 = .ok (.ireturn, 1) := by decide +kernel
set_option maxRecDepth 20000 in
theorem c_X9_toldAt {G : Gl} {d : Nat} {σ : Sg} {Z : Zt} (hZ : RelM Z σ) (hO : OkZ Z) {k i : Nat} (k8 : k < 8) (hi : i < 160) : CT G d yX9_toldAt cX9_toldAt 3 (some .int) [.ref (gA G 54), .int (iI (k : Int)), .int (iI (i : Int))] σ (R1 (.int (iI (elV Z k i))) σ) := by
  refine CT.of (by decide +kernel) (Nat.le_of_ble_eq_true rfl) ?_
  change AW G _ RX9 _ _ _ 0 [(0, .ref (gA G 54)), (1, .int (iI (k : Int))), (2, .int (iI (i : Int)))] [] _ _
  have ks := hZ.2.1 k k8
  refine A_aload_n (pc := 0) dX9_toldAt_0 rfl rfl ?_
  refine A_getR (pc := 1) fX9_44 rfl rfl dX9_toldAt_1 ?_
  refine A_sipush (pc := 4) dX9_toldAt_4 (by decide) ?_
  refine A_iload_n (pc := 7) dX9_toldAt_7 rfl rfl ?_
  refine A_imul (pc := 8) dX9_toldAt_8 ?_
  refine A_iload_n (pc := 9) dX9_toldAt_9 rfl rfl ?_
  refine A_iadd (pc := 10) dX9_toldAt_10 ?_
  refine A_laldv (pc := 11) (160 * k + i) rfl (by omega) (by omega) (Nat.le_of_ble_eq_true rfl) (ks.2.2 i hi) dX9_toldAt_11 ?_
  refine A_l2i (pc := 12) dX9_toldAt_12 ?_
  refine A_iret (pc := 13) rfl dX9_toldAt_13 ?_
  exact ⟨rfl, rfl⟩
theorem dX9_noSquares_0 : decode cX9_noSquares 0 = .ok (.aload_n 0, 1) := by decide +kernel
theorem dX9_noSquares_1 : decode cX9_noSquares 1 = .ok (.iload_n 1, 1) := by decide +kernel
theorem dX9_noSquares_2 : decode cX9_noSquares 2 = .ok (.invokevirtual 100, 3) := by decide +kernel
theorem dX9_noSquares_5 : decode cX9_noSquares 5 = .ok (.istore_n 2, 1) := by decide +kernel
theorem dX9_noSquares_6 : decode cX9_noSquares 6 = .ok (.iconst 0, 1) := by decide +kernel
theorem dX9_noSquares_7 : decode cX9_noSquares 7 = .ok (.istore_n 3, 1) := by decide +kernel
theorem dX9_noSquares_8 : decode cX9_noSquares 8 = .ok (.iload_n 2, 1) := by decide +kernel
theorem dX9_noSquares_9 : decode cX9_noSquares 9 = .ok (.ifCond .ne 34, 3) := by decide +kernel
theorem dX9_noSquares_12 : decode cX9_noSquares 12 = .ok (.iload_n 3, 1) := by decide +kernel
theorem dX9_noSquares_13 : decode cX9_noSquares 13 = .ok (.aload_n 0, 1) := by decide +kernel
theorem dX9_noSquares_14 : decode cX9_noSquares 14 = .ok (.getfield 41, 3) := by decide +kernel
theorem dX9_noSquares_17 : decode cX9_noSquares 17 = .ok (.iload_n 1, 1) := by decide +kernel
theorem dX9_noSquares_18 : decode cX9_noSquares 18 = .ok (.iaload, 1) := by decide +kernel
theorem dX9_noSquares_19 : decode cX9_noSquares 19 = .ok (.if_icmp .ge 24, 3) := by decide +kernel
theorem dX9_noSquares_22 : decode cX9_noSquares 22 = .ok (.aload_n 0, 1) := by decide +kernel
theorem dX9_noSquares_23 : decode cX9_noSquares 23 = .ok (.iload_n 1, 1) := by decide +kernel
theorem dX9_noSquares_24 : decode cX9_noSquares 24 = .ok (.iload_n 3, 1) := by decide +kernel
theorem dX9_noSquares_25 : decode cX9_noSquares 25 = .ok (.invokevirtual 253, 3) := by decide +kernel
theorem dX9_noSquares_28 : decode cX9_noSquares 28 = .ok (.invokestatic 93, 3) := by decide +kernel
theorem dX9_noSquares_31 : decode cX9_noSquares 31 = .ok (.ifCond .ne 6, 3) := by decide +kernel
theorem dX9_noSquares_34 : decode cX9_noSquares 34 = .ok (.bipush (-6), 2) := by decide +kernel
theorem dX9_noSquares_36 : decode cX9_noSquares 36 = .ok (.istore_n 2, 1) := by decide +kernel
theorem dX9_noSquares_37 : decode cX9_noSquares 37 = .ok (.iinc 3 1, 3) := by decide +kernel
theorem dX9_noSquares_40 : decode cX9_noSquares 40 = .ok (.goto (-32), 3) := by decide +kernel
theorem dX9_noSquares_43 : decode cX9_noSquares 43 = .ok (.iload_n 2, 1) := by decide +kernel
theorem dX9_noSquares_44 : decode cX9_noSquares 44 = .ok (.ireturn, 1) := by decide +kernel
set_option maxRecDepth 20000 in
theorem l_X9_noSquares {G : Gl} {d : Nat} {σ : Sg} {K : Option Value → Sg → Prop} {Z : Zt} (hZ : RelM Z σ) (hO : OkZ Z) {k : Nat} (k8 : k < 8) (hr : 100 ≤ Z.2.1.1 k) : ∀ (n i : Nat) (t : Int), t = 0 → (i : Int) + n = Z.2.1.2.1 k → K (some (.int (iI (if anyR (badE Z k) n i = true then -6 else 0)))) σ → AW G (d + 2) RX9 cX9_noSquares 4 (some .int) 12 [(0, .ref (gA G 54)), (1, .int (iI (k : Int))), (2, .int (iI t)), (3, .int (iI (i : Int)))] [] σ K := by
  intro n
  induction n using Nat.strongRecOn
  rename_i n ih
  intro i t ht hn hK
  have ks := hZ.2.1 k k8
  have ko := hO.2.1 k k8
  obtain ⟨b1, b2, b3, b4⟩ := ko.1
  refine A_iload_n (pc := 12) dX9_noSquares_12 rfl rfl ?_
  refine A_aload_n (pc := 13) dX9_noSquares_13 rfl rfl ?_
  refine A_getR (pc := 14) fX9_41 rfl rfl dX9_noSquares_14 ?_
  refine A_iload_n (pc := 17) dX9_noSquares_17 rfl rfl ?_
  refine A_ialdv (pc := 18) _ rfl rfl (by omega) (Nat.le_of_ble_eq_true rfl) (ks.2.1 hr) dX9_noSquares_18 ?_
  refine A_icmp_ge (pc := 19) 43 dX9_noSquares_19 (by decide) (by omega) (by omega) (by omega) (by omega) (fun h19 => ?_) (fun h19 => ?_)
  · skip
    refine A_iload_n (pc := 43) dX9_noSquares_43 rfl rfl ?_
    refine A_iret (pc := 44) rfl dX9_noSquares_44 ?_
    have hn0 : n = 0 := by omega
    subst hn0
    rw [anyR, if_neg (by decide)] at hK
    rw [ht]
    exact hK
  · skip
    refine A_aload_n (pc := 22) dX9_noSquares_22 rfl rfl ?_
    refine A_iload_n (pc := 23) dX9_noSquares_23 rfl rfl ?_
    refine A_iload_n (pc := 24) dX9_noSquares_24 rfl rfl ?_
    refine A_callV1 (pc := 25) kX9_253 rfl rfl (c_X9_toldAt hZ hO k8 (show i < 160 by omega)) dX9_noSquares_25 rfl rfl (Nat.le_of_ble_eq_true rfl) (Nat.le_of_ble_eq_true rfl) ?_
    refine A_callS1 (pc := 28) kX9_93 (c_X9_isSquare (elV_rng Z k i).1 (elV_rng Z k i).2) dX9_noSquares_28 rfl rfl (Nat.le_of_ble_eq_true rfl) (Nat.le_of_ble_eq_true rfl) ?_
    refine A_ifb_ne (pc := 31) 37 dX9_noSquares_31 (by decide) (fun h31 => ?_) (fun h31 => ?_)
    · skip
      refine A_iinc (pc := 37) dX9_noSquares_37 rfl (Nat.le_of_ble_eq_true rfl) ?_
      refine A_goto (pc := 40) 8 dX9_noSquares_40 (by decide) ?_
      refine A_iload_n (pc := 8) dX9_noSquares_8 rfl rfl ?_
      refine A_if_ne (pc := 9) 43 dX9_noSquares_9 (by decide) (by omega) (by omega) (fun h9 => ?_) (fun h9 => ?_)
      · skip
        refine A_iload_n (pc := 43) dX9_noSquares_43 rfl rfl ?_
        refine A_iret (pc := 44) rfl dX9_noSquares_44 ?_
        exfalso; omega
      · skip
        obtain ⟨m, rfl⟩ : ∃ m, n = m + 1 := ⟨n - 1, by omega⟩
        refine A_loc (l2 := [(0, _), (1, _), (2, _), (3, _)]) ⟨rfl, rfl, rfl, rfl, trivial⟩ ?_
        refine ih m (by omega) (i + 1) t ht (by omega) ?_
        rw [anyR, show badE Z k i = false from decide_eq_false (fun q => q h31), Bool.false_or] at hK
        exact hK
    · skip
      refine A_bipush (pc := 34) dX9_noSquares_34 (by decide) ?_
      refine A_istore_n (pc := 36) dX9_noSquares_36 rfl (Nat.le_of_ble_eq_true rfl) ?_
      refine A_iinc (pc := 37) dX9_noSquares_37 rfl (Nat.le_of_ble_eq_true rfl) ?_
      refine A_goto (pc := 40) 8 dX9_noSquares_40 (by decide) ?_
      refine A_iload_n (pc := 8) dX9_noSquares_8 rfl rfl ?_
      refine A_if_ne (pc := 9) 43 dX9_noSquares_9 (by decide) (by omega) (by omega) (fun h9 => ?_) (fun h9 => ?_)
      · skip
        refine A_iload_n (pc := 43) dX9_noSquares_43 rfl rfl ?_
        refine A_iret (pc := 44) rfl dX9_noSquares_44 ?_
        obtain ⟨m, rfl⟩ : ∃ m, n = m + 1 := ⟨n - 1, by omega⟩
        rw [anyR, show badE Z k i = true from decide_eq_true h31, Bool.true_or, if_pos rfl] at hK
        exact hK
      · skip
        exfalso; omega
set_option maxRecDepth 20000 in
theorem c_X9_noSquares {G : Gl} {d : Nat} {σ : Sg} {Z : Zt} (hZ : RelM Z σ) (hO : OkZ Z) {s : Int} (hs1 : -2147483648 ≤ s) (hs2 : s < 2147483648) : CT G (d + 2) yX9_noSquares cX9_noSquares 4 (some .int) [.ref (gA G 54), .int (iI s)] σ (R1 (.int (iI (squT Z s))) σ) := by
  refine CT.of (by decide +kernel) (Nat.le_of_ble_eq_true rfl) ?_
  change AW G _ RX9 _ _ _ 0 [(0, .ref (gA G 54)), (1, .int (iI s))] [] _ _
  have hrt := rowT_rng Z s
  refine A_aload_n (pc := 0) dX9_noSquares_0 rfl rfl ?_
  refine A_iload_n (pc := 1) dX9_noSquares_1 rfl rfl ?_
  refine A_callV1 (pc := 2) kX9_100 rfl rfl (c_X9_noRow hZ hO hs1 hs2) dX9_noSquares_2 rfl rfl (Nat.le_of_ble_eq_true rfl) (Nat.le_of_ble_eq_true rfl) ?_
  refine A_istore_n (pc := 5) dX9_noSquares_5 rfl (Nat.le_of_ble_eq_true rfl) ?_
  refine A_iconst (pc := 6) dX9_noSquares_6 ?_
  refine A_istore_n (pc := 7) dX9_noSquares_7 rfl (Nat.le_of_ble_eq_true rfl) ?_
  refine A_iload_n (pc := 8) dX9_noSquares_8 rfl rfl ?_
  refine A_if_ne (pc := 9) 43 dX9_noSquares_9 (by decide) (by omega) (by omega) (fun h9 => ?_) (fun h9 => ?_)
  · skip
    refine A_iload_n (pc := 43) dX9_noSquares_43 rfl rfl ?_
    refine A_iret (pc := 44) rfl dX9_noSquares_44 ?_
    exact R1_e (by unfold squT; rw [if_pos (by omega)])
  · skip
    have h0 : rowT Z s = 0 := by omega
    obtain ⟨h8, h100⟩ := rowT_0 h0
    obtain ⟨k, rfl⟩ := Int.eq_ofNat_of_zero_le (show 0 ≤ s by omega)
    have k8 : k < 8 := by omega
    have ks := hZ.2.1 k k8
    have ko := hO.2.1 k k8
    obtain ⟨b1, b2, b3, b4⟩ := ko.1
    simp only [Int.toNat_natCast] at h100
    refine A_loc (l2 := [(0, _), (1, _), (2, _), (3, _)]) ⟨rfl, rfl, rfl, rfl, trivial⟩ ?_
    exact l_X9_noSquares hZ hO k8 h100 (Z.2.1.2.1 k).toNat 0 _ h0 (by omega) ⟨by rw [squT_eq h0], rfl⟩
theorem sqB_in {v : Int} (h : 0 ≤ v ∧ v < 49) : sqB v = 2 ^ v.toNat := by unfold sqB; rw [if_pos h]
theorem shl_sq {v : Int} (h : 0 ≤ v ∧ v < 49) : (1 : Int64) <<< ((iI v).toInt64 &&& 63) = lN (sqB v) := by
  obtain ⟨k, rfl⟩ := Int.eq_ofNat_of_zero_le h.1
  rw [sqB_in h, Int.toNat_natCast]
  exact shl_L (by omega)
theorem dX9_cover_0 : decode cX9_cover 0 = .ok (.aload_n 0, 1) := by decide +kernel
theorem dX9_cover_1 : decode cX9_cover 1 = .ok (.iload_n 1, 1) := by decide +kernel
theorem dX9_cover_2 : decode cX9_cover 2 = .ok (.invokevirtual 256, 3) := by decide +kernel
theorem dX9_cover_5 : decode cX9_cover 5 = .ok (.istore_n 2, 1) := by decide +kernel
theorem dX9_cover_6 : decode cX9_cover 6 = .ok (.iload_n 2, 1) := by decide +kernel
theorem dX9_cover_7 : decode cX9_cover 7 = .ok (.ifCond .ge 9, 3) := by decide +kernel
theorem dX9_cover_10 : decode cX9_cover 10 = .ok (.aload_n 0, 1) := by decide +kernel
theorem dX9_cover_11 : decode cX9_cover 11 = .ok (.iload_n 2, 1) := by decide +kernel
theorem dX9_cover_12 : decode cX9_cover 12 = .ok (.invokevirtual 237, 3) := by decide +kernel
theorem dX9_cover_15 : decode cX9_cover 15 = .ok (.ireturn, 1) := by decide +kernel
theorem dX9_cover_16 : decode cX9_cover 16 = .ok (.lconst 0, 1) := by decide +kernel
theorem dX9_cover_17 : decode cX9_cover 17 = .ok (.lstore_n 3, 1) := by decide +kernel
theorem dX9_cover_18 : decode cX9_cover 18 = .ok (.iconst 0, 1) := by decide +kernel
theorem dX9_cover_19 : decode cX9_cover 19 = .ok (.istore 5, 2) := by decide +kernel
theorem dX9_cover_21 : decode cX9_cover 21 = .ok (.iload 5, 2) := by decide +kernel
theorem dX9_cover_23 : decode cX9_cover 23 = .ok (.aload_n 0, 1) := by decide +kernel
theorem dX9_cover_24 : decode cX9_cover 24 = .ok (.getfield 41, 3) := by decide +kernel
theorem dX9_cover_27 : decode cX9_cover 27 = .ok (.iload_n 1, 1) := by decide +kernel
theorem dX9_cover_28 : decode cX9_cover 28 = .ok (.iaload, 1) := by decide +kernel
theorem dX9_cover_29 : decode cX9_cover 29 = .ok (.if_icmp .ge 21, 3) := by decide +kernel
theorem dX9_cover_32 : decode cX9_cover 32 = .ok (.lload_n 3, 1) := by decide +kernel
theorem dX9_cover_33 : decode cX9_cover 33 = .ok (.lconst 1, 1) := by decide +kernel
theorem dX9_cover_34 : decode cX9_cover 34 = .ok (.aload_n 0, 1) := by decide +kernel
theorem dX9_cover_35 : decode cX9_cover 35 = .ok (.iload_n 1, 1) := by decide +kernel
theorem dX9_cover_36 : decode cX9_cover 36 = .ok (.iload 5, 2) := by decide +kernel
theorem dX9_cover_38 : decode cX9_cover 38 = .ok (.invokevirtual 253, 3) := by decide +kernel
theorem dX9_cover_41 : decode cX9_cover 41 = .ok (.lshl, 1) := by decide +kernel
theorem dX9_cover_42 : decode cX9_cover 42 = .ok (.lor, 1) := by decide +kernel
theorem dX9_cover_43 : decode cX9_cover 43 = .ok (.lstore_n 3, 1) := by decide +kernel
theorem dX9_cover_44 : decode cX9_cover 44 = .ok (.iinc 5 1, 3) := by decide +kernel
theorem dX9_cover_47 : decode cX9_cover 47 = .ok (.goto (-26), 3) := by decide +kernel
theorem dX9_cover_50 : decode cX9_cover 50 = .ok (.iconst (-1), 1) := by decide +kernel
theorem dX9_cover_51 : decode cX9_cover 51 = .ok (.istore 5, 2) := by decide +kernel
theorem dX9_cover_53 : decode cX9_cover 53 = .ok (.iconst 0, 1) := by decide +kernel
theorem dX9_cover_54 : decode cX9_cover 54 = .ok (.istore 6, 2) := by decide +kernel
theorem dX9_cover_56 : decode cX9_cover 56 = .ok (.iload 6, 2) := by decide +kernel
theorem dX9_cover_58 : decode cX9_cover 58 = .ok (.iconst 1, 1) := by decide +kernel
theorem dX9_cover_59 : decode cX9_cover 59 = .ok (.aload_n 0, 1) := by decide +kernel
theorem dX9_cover_60 : decode cX9_cover 60 = .ok (.getfield 83, 3) := by decide +kernel
theorem dX9_cover_63 : decode cX9_cover 63 = .ok (.ishl, 1) := by decide +kernel
theorem dX9_cover_64 : decode cX9_cover 64 = .ok (.if_icmp .ge 88, 3) := by decide +kernel
theorem dX9_cover_67 : decode cX9_cover 67 = .ok (.lconst 0, 1) := by decide +kernel
theorem dX9_cover_68 : decode cX9_cover 68 = .ok (.lstore 7, 2) := by decide +kernel
theorem dX9_cover_70 : decode cX9_cover 70 = .ok (.iconst 0, 1) := by decide +kernel
theorem dX9_cover_71 : decode cX9_cover 71 = .ok (.istore 9, 2) := by decide +kernel
theorem dX9_cover_73 : decode cX9_cover 73 = .ok (.iload 9, 2) := by decide +kernel
theorem dX9_cover_75 : decode cX9_cover 75 = .ok (.aload_n 0, 1) := by decide +kernel
theorem dX9_cover_76 : decode cX9_cover 76 = .ok (.getfield 83, 3) := by decide +kernel
theorem dX9_cover_79 : decode cX9_cover 79 = .ok (.if_icmp .ge 31, 3) := by decide +kernel
theorem dX9_cover_82 : decode cX9_cover 82 = .ok (.iload 6, 2) := by decide +kernel
theorem dX9_cover_84 : decode cX9_cover 84 = .ok (.iload 9, 2) := by decide +kernel
theorem dX9_cover_86 : decode cX9_cover 86 = .ok (.ishr, 1) := by decide +kernel
theorem dX9_cover_87 : decode cX9_cover 87 = .ok (.iconst 1, 1) := by decide +kernel
theorem dX9_cover_88 : decode cX9_cover 88 = .ok (.iand, 1) := by decide +kernel
theorem dX9_cover_89 : decode cX9_cover 89 = .ok (.iconst 1, 1) := by decide +kernel
theorem dX9_cover_90 : decode cX9_cover 90 = .ok (.if_icmp .ne 14, 3) := by decide +kernel
theorem dX9_cover_93 : decode cX9_cover 93 = .ok (.lload 7, 2) := by decide +kernel
theorem dX9_cover_95 : decode cX9_cover 95 = .ok (.aload_n 0, 1) := by decide +kernel
theorem dX9_cover_96 : decode cX9_cover 96 = .ok (.iload 9, 2) := by decide +kernel
theorem dX9_cover_98 : decode cX9_cover 98 = .ok (.invokevirtual 113, 3) := by decide +kernel
theorem dX9_cover_101 : decode cX9_cover 101 = .ok (.lor, 1) := by decide +kernel
theorem dX9_cover_102 : decode cX9_cover 102 = .ok (.lstore 7, 2) := by decide +kernel
theorem dX9_cover_104 : decode cX9_cover 104 = .ok (.iinc 9 1, 3) := by decide +kernel
theorem dX9_cover_107 : decode cX9_cover 107 = .ok (.goto (-34), 3) := by decide +kernel
theorem dX9_cover_110 : decode cX9_cover 110 = .ok (.lload_n 3, 1) := by decide +kernel
theorem dX9_cover_111 : decode cX9_cover 111 = .ok (.lload 7, 2) := by decide +kernel
theorem dX9_cover_113 : decode cX9_cover 113 = .ok (.ldc2_w 259, 3) := by decide +kernel
theorem dX9_cover_116 : decode cX9_cover 116 = .ok (.lxor, 1) := by decide +kernel
theorem dX9_cover_117 : decode cX9_cover 117 = .ok (.land, 1) := by decide +kernel
theorem dX9_cover_118 : decode cX9_cover 118 = .ok (.lconst 0, 1) := by decide +kernel
theorem dX9_cover_119 : decode cX9_cover 119 = .ok (.lcmp, 1) := by decide +kernel
theorem dX9_cover_120 : decode cX9_cover 120 = .ok (.ifCond .ne 26, 3) := by decide +kernel
theorem dX9_cover_123 : decode cX9_cover 123 = .ok (.iload 5, 2) := by decide +kernel
theorem dX9_cover_125 : decode cX9_cover 125 = .ok (.iconst (-1), 1) := by decide +kernel
theorem dX9_cover_126 : decode cX9_cover 126 = .ok (.if_icmp .eq 16, 3) := by decide +kernel
theorem dX9_cover_129 : decode cX9_cover 129 = .ok (.iload 6, 2) := by decide +kernel
theorem dX9_cover_131 : decode cX9_cover 131 = .ok (.invokestatic 233, 3) := by decide +kernel
theorem dX9_cover_134 : decode cX9_cover 134 = .ok (.iload 5, 2) := by decide +kernel
theorem dX9_cover_136 : decode cX9_cover 136 = .ok (.invokestatic 233, 3) := by decide +kernel
theorem dX9_cover_139 : decode cX9_cover 139 = .ok (.if_icmp .ge 7, 3) := by decide +kernel
theorem dX9_cover_142 : decode cX9_cover 142 = .ok (.iload 6, 2) := by decide +kernel
theorem dX9_cover_144 : decode cX9_cover 144 = .ok (.istore 5, 2) := by decide +kernel
theorem dX9_cover_146 : decode cX9_cover 146 = .ok (.iinc 6 1, 3) := by decide +kernel
theorem dX9_cover_149 : decode cX9_cover 149 = .ok (.goto (-93), 3) := by decide +kernel
theorem dX9_cover_152 : decode cX9_cover 152 = .ok (.iload 5, 2) := by decide +kernel
theorem dX9_cover_154 : decode cX9_cover 154 = .ok (.ireturn, 1) := by decide +kernel
set_option maxRecDepth 20000 in
theorem l1_X9_cover {G : Gl} {d : Nat} {σ : Sg} {K : Option Value → Sg → Prop} {Z : Zt} (hZ : RelM Z σ) (hO : OkZ Z) {k : Nat} (k8 : k < 8) (hq : squT Z (k : Int) = 0) (hr : 100 ≤ Z.2.1.1 k) : ∀ (n i acc : Nat), (i : Int) + n = Z.2.1.2.1 k → acc < 2 ^ 49 → AW G (d + 6) RX9 cX9_cover 10 (some .int) 50 [(0, .ref (gA G 54)), (3, .long (lN (acc ||| (elS (Z.2.1.2.1 k) (Z.2.1.2.2 k) n i))))] [] σ K → AW G (d + 6) RX9 cX9_cover 10 (some .int) 21 [(0, .ref (gA G 54)), (1, .int (iI (k : Int))), (3, .long (lN acc)), (5, .int (iI (i : Int)))] [] σ K := by
  intro n
  induction n using Nat.strongRecOn
  rename_i n ih
  intro i acc hn ha hK
  have ks := hZ.2.1 k k8
  have ko := hO.2.1 k k8
  obtain ⟨b1, b2, b3, b4⟩ := ko.1
  refine A_iload (pc := 21) dX9_cover_21 rfl ?_
  refine A_aload_n (pc := 23) dX9_cover_23 rfl rfl ?_
  refine A_getR (pc := 24) fX9_41 rfl rfl dX9_cover_24 ?_
  refine A_iload_n (pc := 27) dX9_cover_27 rfl rfl ?_
  refine A_ialdv (pc := 28) _ rfl rfl (by omega) (Nat.le_of_ble_eq_true rfl) (ks.2.1 hr) dX9_cover_28 ?_
  refine A_icmp_ge (pc := 29) 50 dX9_cover_29 (by decide) (by omega) (by omega) (by omega) (by omega) (fun h29 => ?_) (fun h29 => ?_)
  · skip
    have hn0 : n = 0 := by omega
    subst hn0
    refine A_loc (l2 := [(0, _), (3, _)]) ⟨rfl, rfl, trivial⟩ ?_
    rw [elS, Nat.or_zero] at hK
    exact hK
  · skip
    have hv := squT_el (i := i) hq b3 (by omega)
    refine A_lload_n (pc := 32) dX9_cover_32 rfl rfl ?_
    refine A_lconst (pc := 33) 1 dX9_cover_33 rfl ?_
    refine A_aload_n (pc := 34) dX9_cover_34 rfl rfl ?_
    refine A_iload_n (pc := 35) dX9_cover_35 rfl rfl ?_
    refine A_iload (pc := 36) dX9_cover_36 rfl ?_
    refine A_callV1 (pc := 38) kX9_253 rfl rfl (c_X9_toldAt hZ hO k8 (show i < 160 by omega)) dX9_cover_38 rfl rfl (Nat.le_of_ble_eq_true rfl) (Nat.le_of_ble_eq_true rfl) ?_
    refine A_lshl (pc := 41) (lN (sqB (elV Z k i))) dX9_cover_41 (shl_sq hv) ?_
    refine A_lor (pc := 42) dX9_cover_42 ?_
    rw [or_L ha (sqB_lt _)]
    refine A_lstore_n (pc := 43) dX9_cover_43 rfl (Nat.le_of_ble_eq_true rfl) ?_
    refine A_iinc (pc := 44) dX9_cover_44 rfl (Nat.le_of_ble_eq_true rfl) ?_
    refine A_goto (pc := 47) 21 dX9_cover_47 (by decide) ?_
    obtain ⟨m, rfl⟩ : ∃ m, n = m + 1 := ⟨n - 1, by omega⟩
    refine A_loc (l2 := [(0, _), (1, _), (3, _), (5, _)]) ⟨rfl, rfl, rfl, rfl, trivial⟩ ?_
    refine ih m (by omega) (i + 1) _ (by omega) (or49 ha (sqB_lt _)) ?_
    rw [elS, elI_k (by omega), ← Nat.or_assoc] at hK
    exact hK
set_option maxRecDepth 20000 in
theorem l2_X9_cover {G : Gl} {d : Nat} {σ : Sg} {K : Option Value → Sg → Prop} {Z : Zt} (hZ : RelM Z σ) (hO : OkZ Z) {B m : Nat} {c : Int} (hm : m < 2147483648) : ∀ (n p acc : Nat), (p : Int) + n = Z.1.2.1 0 → acc < 2 ^ 49 → AW G (d + 6) RX9 cX9_cover 10 (some .int) 110 [(0, .ref (gA G 54)), (3, .long (lN B)), (5, .int (iI c)), (6, .int (iI (m : Int))), (7, .long (lN (acc ||| orN (fun p => if m.testBit p = true then seeB Z.1 Z.1.1 p else 0) n p)))] [] σ K → AW G (d + 6) RX9 cX9_cover 10 (some .int) 73 [(0, .ref (gA G 54)), (3, .long (lN B)), (5, .int (iI c)), (6, .int (iI (m : Int))), (7, .long (lN acc)), (9, .int (iI (p : Int)))] [] σ K := by
  intro n
  induction n using Nat.strongRecOn
  rename_i n ih
  intro p acc hn ha hK
  have hO2 := hO.1
  obtain ⟨o1, o2, o3, o4, o5, o6, o7, o8, o9⟩ := hO2
  have p0 := hZ.1.2.1
  have p1 := hZ.1.2.2.1
  refine A_iload (pc := 73) dX9_cover_73 rfl ?_
  refine A_aload_n (pc := 75) dX9_cover_75 rfl rfl ?_
  refine A_getIv (pc := 76) fX9_83 rfl rfl p0 dX9_cover_76 ?_
  refine A_icmp_ge (pc := 79) 110 dX9_cover_79 (by decide) (by omega) (by omega) (by omega) (by omega) (fun h79 => ?_) (fun h79 => ?_)
  · skip
    have hn0 : n = 0 := by omega
    subst hn0
    refine A_loc (l2 := [(0, _), (3, _), (5, _), (6, _), (7, _)]) ⟨rfl, rfl, rfl, rfl, rfl, trivial⟩ ?_
    rw [orN, Nat.or_zero] at hK
    exact hK
  · skip
    refine A_iload (pc := 82) dX9_cover_82 rfl ?_
    refine A_iload (pc := 84) dX9_cover_84 rfl ?_
    refine A_ishr (pc := 86) ((m / 2 ^ p : Nat) : Int) dX9_cover_86 (shrI_I hm (by omega)) ?_
    refine A_iconst (pc := 87) dX9_cover_87 ?_
    refine A_iand (pc := 88) ((m / 2 ^ p &&& 1 : Nat) : Int) dX9_cover_88 (and_I _ 1) ?_
    rw [mbit]
    have hbr := bI_rng (m.testBit p = true)
    refine A_iconst (pc := 89) dX9_cover_89 ?_
    refine A_icmp_ne (pc := 90) 104 dX9_cover_90 (by decide) (by omega) (by omega) (by omega) (by omega) (fun h90 => ?_) (fun h90 => ?_)
    · skip
      refine A_iinc (pc := 104) dX9_cover_104 rfl (Nat.le_of_ble_eq_true rfl) ?_
      refine A_goto (pc := 107) 73 dX9_cover_107 (by decide) ?_
      obtain ⟨u, rfl⟩ : ∃ u, n = u + 1 := ⟨n - 1, by omega⟩
      refine A_loc (l2 := [(0, _), (3, _), (5, _), (6, _), (7, _), (9, _)]) ⟨rfl, rfl, rfl, rfl, rfl, rfl, trivial⟩ ?_
      refine ih u (by omega) (p + 1) acc (by omega) ha ?_
      rw [orN, if_neg (fun q => h90 (bI_t q)), Nat.zero_or] at hK
      exact hK
    · skip
      refine A_lload (pc := 93) dX9_cover_93 rfl ?_
      refine A_aload_n (pc := 95) dX9_cover_95 rfl rfl ?_
      refine A_iload (pc := 96) dX9_cover_96 rfl ?_
      refine A_callV1 (pc := 98) kX9_113 rfl rfl (c_X9_sees hZ.1 hO.1 (p := p) (by omega)) dX9_cover_98 rfl rfl (Nat.le_of_ble_eq_true rfl) (Nat.le_of_ble_eq_true rfl) ?_
      refine A_lor (pc := 101) dX9_cover_101 ?_
      rw [or_L ha (seeB_lt _ _ _)]
      refine A_lstore (pc := 102) dX9_cover_102 (Nat.le_of_ble_eq_true rfl) ?_
      refine A_iinc (pc := 104) dX9_cover_104 rfl (Nat.le_of_ble_eq_true rfl) ?_
      refine A_goto (pc := 107) 73 dX9_cover_107 (by decide) ?_
      obtain ⟨u, rfl⟩ : ∃ u, n = u + 1 := ⟨n - 1, by omega⟩
      refine A_loc (l2 := [(0, _), (3, _), (5, _), (6, _), (7, _), (9, _)]) ⟨rfl, rfl, rfl, rfl, rfl, rfl, trivial⟩ ?_
      refine ih u (by omega) (p + 1) _ (by omega) (or49 ha (seeB_lt _ _ _)) ?_
      rw [orN, if_pos (bI_m1 (by omega)), ← Nat.or_assoc] at hK
      exact hK
set_option maxRecDepth 20000 in
theorem l3_X9_cover {G : Gl} {d : Nat} {σ : Sg} {K : Option Value → Sg → Prop}  {B m u : Nat} {c : Int} (hB : B < 2 ^ 49) (hu : u < 2 ^ 49) (hm : m < 512) (c1 : -1 ≤ c) (c2 : c < 512) (hK : AW G (d + 6) RX9 cX9_cover 10 (some .int) 56 [(0, .ref (gA G 54)), (3, .long (lN B)), (5, .int (iI (if nB B u = 0 ∧ (c = -1 ∨ bc32 m < bc32 c) then (m : Int) else c))), (6, .int (iI ((m : Int) + 1)))] [] σ K) : AW G (d + 6) RX9 cX9_cover 10 (some .int) 110 [(0, .ref (gA G 54)), (3, .long (lN B)), (5, .int (iI c)), (6, .int (iI (m : Int))), (7, .long (lN u))] [] σ K := by
  have q1 := bc32_rng (m : Int)
  have q2 := bc32_rng c
  refine A_lload_n (pc := 110) dX9_cover_110 rfl rfl ?_
  refine A_lload (pc := 111) dX9_cover_111 rfl ?_
  refine A_ldc2 (pc := 113) nX9_259 dX9_cover_113 ?_
  refine A_lxor (pc := 116) dX9_cover_116 ?_
  refine A_land (pc := 117) dX9_cover_117 ?_
  rw [andn_L hB hu]
  refine A_lconst (pc := 118) 0 dX9_cover_118 rfl ?_
  refine A_lcmp (pc := 119) dX9_cover_119 ?_
  rw [lcm_0 (nB_lt hB)]
  refine A_ifb_ne (pc := 120) 146 dX9_cover_120 (by decide) (fun h120 => ?_) (fun h120 => ?_)
  · skip
    refine A_iinc (pc := 146) dX9_cover_146 rfl (Nat.le_of_ble_eq_true rfl) ?_
    refine A_goto (pc := 149) 56 dX9_cover_149 (by decide) ?_
    refine A_loc (l2 := [(0, _), (3, _), (5, _), (6, _)]) ⟨rfl, rfl, rfl, rfl, trivial⟩ ?_
    rw [if_neg (fun q => h120 q.1)] at hK
    exact hK
  · skip
    refine A_iload (pc := 123) dX9_cover_123 rfl ?_
    refine A_iconst (pc := 125) dX9_cover_125 ?_
    refine A_icmp_eq (pc := 126) 142 dX9_cover_126 (by decide) (by omega) (by omega) (by omega) (by omega) (fun h126 => ?_) (fun h126 => ?_)
    · skip
      refine A_iload (pc := 142) dX9_cover_142 rfl ?_
      refine A_istore (pc := 144) dX9_cover_144 (Nat.le_of_ble_eq_true rfl) ?_
      refine A_iinc (pc := 146) dX9_cover_146 rfl (Nat.le_of_ble_eq_true rfl) ?_
      refine A_goto (pc := 149) 56 dX9_cover_149 (by decide) ?_
      refine A_loc (l2 := [(0, _), (3, _), (5, _), (6, _)]) ⟨rfl, rfl, rfl, rfl, trivial⟩ ?_
      rw [if_pos ⟨Decidable.not_not.mp h120, Or.inl h126⟩] at hK
      exact hK
    · skip
      refine A_iload (pc := 129) dX9_cover_129 rfl ?_
      refine A_callS1 (pc := 131) kX9_233 (c_J6_bitCount_0f7a4) dX9_cover_131 rfl rfl (Nat.le_of_ble_eq_true rfl) (Nat.le_of_ble_eq_true rfl) ?_
      refine A_iload (pc := 134) dX9_cover_134 rfl ?_
      refine A_callS1 (pc := 136) kX9_233 (c_J6_bitCount_0f7a4) dX9_cover_136 rfl rfl (Nat.le_of_ble_eq_true rfl) (Nat.le_of_ble_eq_true rfl) ?_
      refine A_icmp_ge (pc := 139) 146 dX9_cover_139 (by decide) (by omega) (by omega) (by omega) (by omega) (fun h139 => ?_) (fun h139 => ?_)
      · skip
        refine A_iinc (pc := 146) dX9_cover_146 rfl (Nat.le_of_ble_eq_true rfl) ?_
        refine A_goto (pc := 149) 56 dX9_cover_149 (by decide) ?_
        refine A_loc (l2 := [(0, _), (3, _), (5, _), (6, _)]) ⟨rfl, rfl, rfl, rfl, trivial⟩ ?_
        rw [if_neg (fun q => by omega)] at hK
        exact hK
      · skip
        refine A_iload (pc := 142) dX9_cover_142 rfl ?_
        refine A_istore (pc := 144) dX9_cover_144 (Nat.le_of_ble_eq_true rfl) ?_
        refine A_iinc (pc := 146) dX9_cover_146 rfl (Nat.le_of_ble_eq_true rfl) ?_
        refine A_goto (pc := 149) 56 dX9_cover_149 (by decide) ?_
        refine A_loc (l2 := [(0, _), (3, _), (5, _), (6, _)]) ⟨rfl, rfl, rfl, rfl, trivial⟩ ?_
        rw [if_pos ⟨Decidable.not_not.mp h120, Or.inr (by omega)⟩] at hK
        exact hK
set_option maxRecDepth 20000 in
theorem l4_X9_cover {G : Gl} {d : Nat} {σ : Sg} {K : Option Value → Sg → Prop} {Z : Zt} (hZ : RelM Z σ) (hO : OkZ Z) {B p P : Nat} (hB : B < 2 ^ 49) (hp : Z.1.2.1 0 = (p : Int)) (hp9 : p ≤ 9) (hP : P = 2 ^ p) (hP5 : P ≤ 512) : ∀ (n m : Nat) (c : Int), m + n = P → -1 ≤ c → c < 512 → K (some (.int (iI (covG Z.1 Z.1.1 B n m c)))) σ → AW G (d + 6) RX9 cX9_cover 10 (some .int) 56 [(0, .ref (gA G 54)), (3, .long (lN B)), (5, .int (iI c)), (6, .int (iI (m : Int)))] [] σ K := by
  intro n
  induction n using Nat.strongRecOn
  rename_i n ih
  intro m c hn c1 c2 hK
  have hpn := hZ.1.2.1.trans hp
  refine A_iload (pc := 56) dX9_cover_56 rfl ?_
  refine A_iconst (pc := 58) dX9_cover_58 ?_
  refine A_aload_n (pc := 59) dX9_cover_59 rfl rfl ?_
  refine A_getIv (pc := 60) fX9_83 rfl rfl hpn dX9_cover_60 ?_
  refine A_ishl (pc := 63) (P : Int) dX9_cover_63 (by rw [hP]; exact shl_I (by omega)) ?_
  refine A_icmp_ge (pc := 64) 152 dX9_cover_64 (by decide) (by omega) (by omega) (by omega) (by omega) (fun h64 => ?_) (fun h64 => ?_)
  · skip
    refine A_iload (pc := 152) dX9_cover_152 rfl ?_
    refine A_iret (pc := 154) rfl dX9_cover_154 ?_
    have hn0 : n = 0 := by omega
    subst hn0
    exact hK
  · skip
    refine A_lconst (pc := 67) 0 dX9_cover_67 rfl ?_
    refine A_lstore (pc := 68) dX9_cover_68 (Nat.le_of_ble_eq_true rfl) ?_
    refine A_iconst (pc := 70) dX9_cover_70 ?_
    refine A_istore (pc := 71) dX9_cover_71 (Nat.le_of_ble_eq_true rfl) ?_
    obtain ⟨u, rfl⟩ : ∃ u, n = u + 1 := ⟨n - 1, by omega⟩
    refine A_loc (l2 := [(0, _), (3, _), (5, _), (6, _), (7, _), (9, _)]) ⟨rfl, rfl, rfl, rfl, rfl, rfl, trivial⟩ ?_
    refine l2_X9_cover hZ hO (m := m) (by omega) p 0 0 (by omega) (by decide) ?_
    have e : (0 ||| orN (fun p => if m.testBit p = true then seeB Z.1 Z.1.1 p else 0) p 0) = uniS Z.1 Z.1.1 m := by rw [Nat.zero_or, uniS_p hO.1, hp, Int.toNat_natCast]
    rw [e]
    refine l3_X9_cover hB (uniS_lt _ _ _) (by omega) c1 c2 ?_
    refine ih u (by omega) (m + 1) _ (by omega) (by split <;> omega) (by split <;> omega) ?_
    rw [covG] at hK
    exact hK
set_option maxRecDepth 20000 in
theorem c_X9_cover {G : Gl} {d : Nat} {σ : Sg} {Z : Zt} (hZ : RelM Z σ) (hO : OkZ Z) {s : Int} (hs1 : -2147483648 ≤ s) (hs2 : s < 2147483648) : CT G (d + 6) yX9_cover cX9_cover 10 (some .int) [.ref (gA G 54), .int (iI s)] σ (RE (some (.int (iI (qCover Z s).1))) (fun υ => RelM (qCover Z s).2 υ ∧ Fr MC σ υ)) := by
  refine CT.of (by decide +kernel) (Nat.le_of_ble_eq_true rfl) ?_
  change AW G _ RX9 _ _ _ 0 [(0, .ref (gA G 54)), (1, .int (iI s))] [] _ _
  have hst := squT_rng Z s
  refine A_aload_n (pc := 0) dX9_cover_0 rfl rfl ?_
  refine A_iload_n (pc := 1) dX9_cover_1 rfl rfl ?_
  refine A_callV1 (pc := 2) kX9_256 rfl rfl (c_X9_noSquares hZ hO hs1 hs2) dX9_cover_2 rfl rfl (Nat.le_of_ble_eq_true rfl) (Nat.le_of_ble_eq_true rfl) ?_
  refine A_istore_n (pc := 5) dX9_cover_5 rfl (Nat.le_of_ble_eq_true rfl) ?_
  refine A_iload_n (pc := 6) dX9_cover_6 rfl rfl ?_
  refine A_if_ge (pc := 7) 16 dX9_cover_7 (by decide) (by omega) (by omega) (fun h7 => ?_) (fun h7 => ?_)
  · skip
    refine A_lconst (pc := 16) 0 dX9_cover_16 rfl ?_
    refine A_lstore_n (pc := 17) dX9_cover_17 rfl (Nat.le_of_ble_eq_true rfl) ?_
    refine A_iconst (pc := 18) dX9_cover_18 ?_
    refine A_istore (pc := 19) dX9_cover_19 (Nat.le_of_ble_eq_true rfl) ?_
    have hs0 : squT Z s = 0 := by omega
    have h0 := squT_r hs0
    obtain ⟨h8, h100⟩ := rowT_0 h0
    obtain ⟨k, rfl⟩ := Int.eq_ofNat_of_zero_le (show 0 ≤ s by omega)
    have k8 : k < 8 := by omega
    have ks := hZ.2.1 k k8
    have ko := hO.2.1 k k8
    obtain ⟨b1, b2, b3, b4⟩ := ko.1
    simp only [Int.toNat_natCast] at h100
    obtain ⟨p, hp⟩ := Int.eq_ofNat_of_zero_le hO.1.2.1
    have hp9 : p ≤ 9 := by have := hO.1.2.2.1; omega
    refine A_loc (l2 := [(0, _), (1, _), (3, _), (5, _)]) ⟨rfl, rfl, rfl, rfl, trivial⟩ ?_
    refine l1_X9_cover hZ hO k8 hs0 h100 (Z.2.1.2.1 k).toNat 0 0 (by omega) (by decide) ?_
    rw [Nat.zero_or]
    refine A_iconst (pc := 50) dX9_cover_50 ?_
    refine A_istore (pc := 51) dX9_cover_51 (Nat.le_of_ble_eq_true rfl) ?_
    refine A_iconst (pc := 53) dX9_cover_53 ?_
    refine A_istore (pc := 54) dX9_cover_54 (Nat.le_of_ble_eq_true rfl) ?_
    refine A_loc (l2 := [(0, _), (3, _), (5, _), (6, _)]) ⟨rfl, rfl, rfl, rfl, trivial⟩ ?_
    refine l4_X9_cover hZ hO (elS_lt _ _ _ _) hp hp9 rfl (pow9 hp9) (2 ^ p) 0 (-1) (by omega) (by omega) (by omega) ?_
    exact RQM (by unfold qCover; rw [if_neg (by omega), Int.toNat_natCast, hp, Int.toNat_natCast]) hZ Fr.rf
  · skip
    refine A_aload_n (pc := 10) dX9_cover_10 rfl rfl ?_
    refine A_iload_n (pc := 11) dX9_cover_11 rfl rfl ?_
    refine A_callVe (pc := 12) kX9_237 rfl rfl (c_X9_no10 hZ hO (t := squT Z s) (by omega) (by omega)) dX9_cover_12 rfl rfl (Nat.le_of_ble_eq_true rfl) (Nat.le_of_ble_eq_true rfl) (fun υ hυ => ?_)
    refine A_iret (pc := 15) rfl dX9_cover_15 ?_
    exact RQM (by unfold qCover; rw [if_pos (by omega)]; rfl) hυ.1 (hυ.2.mono MC70)
theorem dX9_sole_0 : decode cX9_sole 0 = .ok (.iconst (-1), 1) := by decide +kernel
theorem dX9_sole_1 : decode cX9_sole 1 = .ok (.istore_n 1, 1) := by decide +kernel
theorem dX9_sole_2 : decode cX9_sole 2 = .ok (.iconst (-1), 1) := by decide +kernel
theorem dX9_sole_3 : decode cX9_sole 3 = .ok (.istore_n 2, 1) := by decide +kernel
theorem dX9_sole_4 : decode cX9_sole 4 = .ok (.iconst 0, 1) := by decide +kernel
theorem dX9_sole_5 : decode cX9_sole 5 = .ok (.istore_n 3, 1) := by decide +kernel
theorem dX9_sole_6 : decode cX9_sole 6 = .ok (.iload_n 3, 1) := by decide +kernel
theorem dX9_sole_7 : decode cX9_sole 7 = .ok (.aload_n 0, 1) := by decide +kernel
theorem dX9_sole_8 : decode cX9_sole 8 = .ok (.getfield 83, 3) := by decide +kernel
theorem dX9_sole_11 : decode cX9_sole 11 = .ok (.if_icmp .ge 78, 3) := by decide +kernel
theorem dX9_sole_14 : decode cX9_sole 14 = .ok (.lconst 0, 1) := by decide +kernel
theorem dX9_sole_15 : decode cX9_sole 15 = .ok (.lstore 4, 2) := by decide +kernel
theorem dX9_sole_17 : decode cX9_sole 17 = .ok (.iconst 0, 1) := by decide +kernel
theorem dX9_sole_18 : decode cX9_sole 18 = .ok (.istore 6, 2) := by decide +kernel
theorem dX9_sole_20 : decode cX9_sole 20 = .ok (.iload 6, 2) := by decide +kernel
theorem dX9_sole_22 : decode cX9_sole 22 = .ok (.aload_n 0, 1) := by decide +kernel
theorem dX9_sole_23 : decode cX9_sole 23 = .ok (.getfield 83, 3) := by decide +kernel
theorem dX9_sole_26 : decode cX9_sole 26 = .ok (.if_icmp .ge 26, 3) := by decide +kernel
theorem dX9_sole_29 : decode cX9_sole 29 = .ok (.iload 6, 2) := by decide +kernel
theorem dX9_sole_31 : decode cX9_sole 31 = .ok (.iload_n 3, 1) := by decide +kernel
theorem dX9_sole_32 : decode cX9_sole 32 = .ok (.if_icmp .eq 14, 3) := by decide +kernel
theorem dX9_sole_35 : decode cX9_sole 35 = .ok (.lload 4, 2) := by decide +kernel
theorem dX9_sole_37 : decode cX9_sole 37 = .ok (.aload_n 0, 1) := by decide +kernel
theorem dX9_sole_38 : decode cX9_sole 38 = .ok (.iload 6, 2) := by decide +kernel
theorem dX9_sole_40 : decode cX9_sole 40 = .ok (.invokevirtual 113, 3) := by decide +kernel
theorem dX9_sole_43 : decode cX9_sole 43 = .ok (.lor, 1) := by decide +kernel
theorem dX9_sole_44 : decode cX9_sole 44 = .ok (.lstore 4, 2) := by decide +kernel
theorem dX9_sole_46 : decode cX9_sole 46 = .ok (.iinc 6 1, 3) := by decide +kernel
theorem dX9_sole_49 : decode cX9_sole 49 = .ok (.goto (-29), 3) := by decide +kernel
theorem dX9_sole_52 : decode cX9_sole 52 = .ok (.aload_n 0, 1) := by decide +kernel
theorem dX9_sole_53 : decode cX9_sole 53 = .ok (.iload_n 3, 1) := by decide +kernel
theorem dX9_sole_54 : decode cX9_sole 54 = .ok (.invokevirtual 113, 3) := by decide +kernel
theorem dX9_sole_57 : decode cX9_sole 57 = .ok (.lload 4, 2) := by decide +kernel
theorem dX9_sole_59 : decode cX9_sole 59 = .ok (.ldc2_w 259, 3) := by decide +kernel
theorem dX9_sole_62 : decode cX9_sole 62 = .ok (.lxor, 1) := by decide +kernel
theorem dX9_sole_63 : decode cX9_sole 63 = .ok (.land, 1) := by decide +kernel
theorem dX9_sole_64 : decode cX9_sole 64 = .ok (.invokestatic 117, 3) := by decide +kernel
theorem dX9_sole_67 : decode cX9_sole 67 = .ok (.istore 6, 2) := by decide +kernel
theorem dX9_sole_69 : decode cX9_sole 69 = .ok (.iload 6, 2) := by decide +kernel
theorem dX9_sole_71 : decode cX9_sole 71 = .ok (.iload_n 2, 1) := by decide +kernel
theorem dX9_sole_72 : decode cX9_sole 72 = .ok (.if_icmp .gt 6, 3) := by decide +kernel
theorem dX9_sole_75 : decode cX9_sole 75 = .ok (.goto 8, 3) := by decide +kernel
theorem dX9_sole_78 : decode cX9_sole 78 = .ok (.iload 6, 2) := by decide +kernel
theorem dX9_sole_80 : decode cX9_sole 80 = .ok (.istore_n 2, 1) := by decide +kernel
theorem dX9_sole_81 : decode cX9_sole 81 = .ok (.iload_n 3, 1) := by decide +kernel
theorem dX9_sole_82 : decode cX9_sole 82 = .ok (.istore_n 1, 1) := by decide +kernel
theorem dX9_sole_83 : decode cX9_sole 83 = .ok (.iinc 3 1, 3) := by decide +kernel
theorem dX9_sole_86 : decode cX9_sole 86 = .ok (.goto (-80), 3) := by decide +kernel
theorem dX9_sole_89 : decode cX9_sole 89 = .ok (.iload_n 1, 1) := by decide +kernel
theorem dX9_sole_90 : decode cX9_sole 90 = .ok (.ireturn, 1) := by decide +kernel
set_option maxRecDepth 20000 in
theorem l1_X9_sole {G : Gl} {d : Nat} {σ : Sg} {K : Option Value → Sg → Prop} {Z : Zt} (hZ : RelM Z σ) (hO : OkZ Z) {i : Nat} {c w : Int} (hi : i < 9) : ∀ (n p acc : Nat), (p : Int) + n = Z.1.2.1 0 → acc < 2 ^ 49 → AW G (d + 6) RX9 cX9_sole 7 (some .int) 52 [(0, .ref (gA G 54)), (1, .int (iI c)), (2, .int (iI w)), (3, .int (iI (i : Int))), (4, .long (lN (acc ||| orN (fun p => if p = i then 0 else seeB Z.1 Z.1.1 p) n p)))] [] σ K → AW G (d + 6) RX9 cX9_sole 7 (some .int) 20 [(0, .ref (gA G 54)), (1, .int (iI c)), (2, .int (iI w)), (3, .int (iI (i : Int))), (4, .long (lN acc)), (6, .int (iI (p : Int)))] [] σ K := by
  intro n
  induction n using Nat.strongRecOn
  rename_i n ih
  intro p acc hn ha hK
  have hO2 := hO.1
  obtain ⟨o1, o2, o3, o4, o5, o6, o7, o8, o9⟩ := hO2
  have p0 := hZ.1.2.1
  have p1 := hZ.1.2.2.1
  refine A_iload (pc := 20) dX9_sole_20 rfl ?_
  refine A_aload_n (pc := 22) dX9_sole_22 rfl rfl ?_
  refine A_getIv (pc := 23) fX9_83 rfl rfl p0 dX9_sole_23 ?_
  refine A_icmp_ge (pc := 26) 52 dX9_sole_26 (by decide) (by omega) (by omega) (by omega) (by omega) (fun h26 => ?_) (fun h26 => ?_)
  · skip
    have hn0 : n = 0 := by omega
    subst hn0
    refine A_loc (l2 := [(0, _), (1, _), (2, _), (3, _), (4, _)]) ⟨rfl, rfl, rfl, rfl, rfl, trivial⟩ ?_
    rw [orN, Nat.or_zero] at hK
    exact hK
  · skip
    refine A_iload (pc := 29) dX9_sole_29 rfl ?_
    refine A_iload_n (pc := 31) dX9_sole_31 rfl rfl ?_
    refine A_icmp_eq (pc := 32) 46 dX9_sole_32 (by decide) (by omega) (by omega) (by omega) (by omega) (fun h32 => ?_) (fun h32 => ?_)
    · skip
      refine A_iinc (pc := 46) dX9_sole_46 rfl (Nat.le_of_ble_eq_true rfl) ?_
      refine A_goto (pc := 49) 20 dX9_sole_49 (by decide) ?_
      obtain ⟨u, rfl⟩ : ∃ u, n = u + 1 := ⟨n - 1, by omega⟩
      refine A_loc (l2 := [(0, _), (1, _), (2, _), (3, _), (4, _), (6, _)]) ⟨rfl, rfl, rfl, rfl, rfl, rfl, trivial⟩ ?_
      refine ih u (by omega) (p + 1) acc (by omega) ha ?_
      rw [orN, if_pos (by omega), Nat.zero_or] at hK
      exact hK
    · skip
      refine A_lload (pc := 35) dX9_sole_35 rfl ?_
      refine A_aload_n (pc := 37) dX9_sole_37 rfl rfl ?_
      refine A_iload (pc := 38) dX9_sole_38 rfl ?_
      refine A_callV1 (pc := 40) kX9_113 rfl rfl (c_X9_sees hZ.1 hO.1 (p := p) (by omega)) dX9_sole_40 rfl rfl (Nat.le_of_ble_eq_true rfl) (Nat.le_of_ble_eq_true rfl) ?_
      refine A_lor (pc := 43) dX9_sole_43 ?_
      rw [or_L ha (seeB_lt _ _ _)]
      refine A_lstore (pc := 44) dX9_sole_44 (Nat.le_of_ble_eq_true rfl) ?_
      refine A_iinc (pc := 46) dX9_sole_46 rfl (Nat.le_of_ble_eq_true rfl) ?_
      refine A_goto (pc := 49) 20 dX9_sole_49 (by decide) ?_
      obtain ⟨u, rfl⟩ : ∃ u, n = u + 1 := ⟨n - 1, by omega⟩
      refine A_loc (l2 := [(0, _), (1, _), (2, _), (3, _), (4, _), (6, _)]) ⟨rfl, rfl, rfl, rfl, rfl, rfl, trivial⟩ ?_
      refine ih u (by omega) (p + 1) _ (by omega) (or49 ha (seeB_lt _ _ _)) ?_
      rw [orN, if_neg (by omega), ← Nat.or_assoc] at hK
      exact hK
set_option maxRecDepth 20000 in
theorem l2_X9_sole {G : Gl} {d : Nat} {σ : Sg} {K : Option Value → Sg → Prop} {Z : Zt} (hZ : RelM Z σ) (hO : OkZ Z) {i : Nat} {c w : Int} (hi : (i : Int) < Z.1.2.1 0) (w1 : -1 ≤ w) (w2 : w < 128) (hK1 : w < solF Z.1 Z.1.1 i → AW G (d + 6) RX9 cX9_sole 7 (some .int) 6 [(0, .ref (gA G 54)), (1, .int (iI (i : Int))), (2, .int (iI (solF Z.1 Z.1.1 i))), (3, .int (iI ((i : Int) + 1)))] [] σ K) (hK2 : ¬ w < solF Z.1 Z.1.1 i → AW G (d + 6) RX9 cX9_sole 7 (some .int) 6 [(0, .ref (gA G 54)), (1, .int (iI c)), (2, .int (iI w)), (3, .int (iI ((i : Int) + 1)))] [] σ K) : AW G (d + 6) RX9 cX9_sole 7 (some .int) 52 [(0, .ref (gA G 54)), (1, .int (iI c)), (2, .int (iI w)), (3, .int (iI (i : Int))), (4, .long (lN (uniS Z.1 Z.1.1 (511 - 2 ^ i))))] [] σ K := by
  have hr := solF_rng Z.1 Z.1.1 i
  refine A_aload_n (pc := 52) dX9_sole_52 rfl rfl ?_
  refine A_iload_n (pc := 53) dX9_sole_53 rfl rfl ?_
  refine A_callV1 (pc := 54) kX9_113 rfl rfl (c_X9_sees hZ.1 hO.1 hi) dX9_sole_54 rfl rfl (Nat.le_of_ble_eq_true rfl) (Nat.le_of_ble_eq_true rfl) ?_
  refine A_lload (pc := 57) dX9_sole_57 rfl ?_
  refine A_ldc2 (pc := 59) nX9_259 dX9_sole_59 ?_
  refine A_lxor (pc := 62) dX9_sole_62 ?_
  refine A_land (pc := 63) dX9_sole_63 ?_
  rw [andn_L (seeB_lt _ _ _) (uniS_lt _ _ _), ← see0_in hi]
  refine A_callS1 (pc := 64) kX9_117 (c_J13_bitCount_95d88) dX9_sole_64 rfl rfl (Nat.le_of_ble_eq_true rfl) (Nat.le_of_ble_eq_true rfl) ?_
  change AW G _ _ _ _ _ _ _ [.int (iI (solF Z.1 Z.1.1 i))] _ _
  refine A_istore (pc := 67) dX9_sole_67 (Nat.le_of_ble_eq_true rfl) ?_
  refine A_iload (pc := 69) dX9_sole_69 rfl ?_
  refine A_iload_n (pc := 71) dX9_sole_71 rfl rfl ?_
  refine A_icmp_gt (pc := 72) 78 dX9_sole_72 (by decide) (by omega) (by omega) (by omega) (by omega) (fun h72 => ?_) (fun h72 => ?_)
  · skip
    refine A_iload (pc := 78) dX9_sole_78 rfl ?_
    refine A_istore_n (pc := 80) dX9_sole_80 rfl (Nat.le_of_ble_eq_true rfl) ?_
    refine A_iload_n (pc := 81) dX9_sole_81 rfl rfl ?_
    refine A_istore_n (pc := 82) dX9_sole_82 rfl (Nat.le_of_ble_eq_true rfl) ?_
    refine A_iinc (pc := 83) dX9_sole_83 rfl (Nat.le_of_ble_eq_true rfl) ?_
    refine A_goto (pc := 86) 6 dX9_sole_86 (by decide) ?_
    refine A_loc (l2 := [(0, _), (1, _), (2, _), (3, _)]) ⟨rfl, rfl, rfl, rfl, trivial⟩ ?_
    exact hK1 (by omega)
  · skip
    refine A_goto (pc := 75) 83 dX9_sole_75 (by decide) ?_
    refine A_iinc (pc := 83) dX9_sole_83 rfl (Nat.le_of_ble_eq_true rfl) ?_
    refine A_goto (pc := 86) 6 dX9_sole_86 (by decide) ?_
    refine A_loc (l2 := [(0, _), (1, _), (2, _), (3, _)]) ⟨rfl, rfl, rfl, rfl, trivial⟩ ?_
    exact hK2 (by omega)
set_option maxRecDepth 20000 in
theorem l3_X9_sole {G : Gl} {d : Nat} {σ : Sg} {K : Option Value → Sg → Prop} {Z : Zt} (hZ : RelM Z σ) (hO : OkZ Z) : ∀ (n i : Nat) (c w : Int), (i : Int) + n = Z.1.2.1 0 → -1 ≤ w → w < 128 → K (some (.int (iI (solG (solF Z.1 Z.1.1) n i c w)))) σ → AW G (d + 6) RX9 cX9_sole 7 (some .int) 6 [(0, .ref (gA G 54)), (1, .int (iI c)), (2, .int (iI w)), (3, .int (iI (i : Int)))] [] σ K := by
  intro n
  induction n using Nat.strongRecOn
  rename_i n ih
  intro i c w hn w1 w2 hK
  have hr := solF_rng Z.1 Z.1.1 i
  have hO2 := hO.1
  obtain ⟨o1, o2, o3, o4, o5, o6, o7, o8, o9⟩ := hO2
  have p0 := hZ.1.2.1
  have p1 := hZ.1.2.2.1
  refine A_iload_n (pc := 6) dX9_sole_6 rfl rfl ?_
  refine A_aload_n (pc := 7) dX9_sole_7 rfl rfl ?_
  refine A_getIv (pc := 8) fX9_83 rfl rfl p0 dX9_sole_8 ?_
  refine A_icmp_ge (pc := 11) 89 dX9_sole_11 (by decide) (by omega) (by omega) (by omega) (by omega) (fun h11 => ?_) (fun h11 => ?_)
  · skip
    refine A_iload_n (pc := 89) dX9_sole_89 rfl rfl ?_
    refine A_iret (pc := 90) rfl dX9_sole_90 ?_
    have hn0 : n = 0 := by omega
    subst hn0
    exact hK
  · skip
    refine A_lconst (pc := 14) 0 dX9_sole_14 rfl ?_
    refine A_lstore (pc := 15) dX9_sole_15 (Nat.le_of_ble_eq_true rfl) ?_
    refine A_iconst (pc := 17) dX9_sole_17 ?_
    refine A_istore (pc := 18) dX9_sole_18 (Nat.le_of_ble_eq_true rfl) ?_
    obtain ⟨u, rfl⟩ : ∃ u, n = u + 1 := ⟨n - 1, by omega⟩
    refine A_loc (l2 := [(0, _), (1, _), (2, _), (3, _), (4, _), (6, _)]) ⟨rfl, rfl, rfl, rfl, rfl, rfl, trivial⟩ ?_
    refine l1_X9_sole hZ hO (i := i) (by omega) (Z.1.2.1 0).toNat 0 0 (by omega) (by decide) ?_
    rw [Nat.zero_or, ← uniS_but hO.1 Z.1.1 (show i < 9 by omega)]
    refine l2_X9_sole hZ hO (by omega) w1 w2 (fun h => ?_) (fun h => ?_)
    · refine ih u (by omega) (i + 1) _ _ (by omega) (by omega) (by omega) ?_
      rw [solG_y h] at hK
      exact hK
    · refine ih u (by omega) (i + 1) _ _ (by omega) (by omega) (by omega) ?_
      rw [solG_n h] at hK
      exact hK
set_option maxRecDepth 20000 in
theorem c_X9_sole {G : Gl} {d : Nat} {σ : Sg} {Z : Zt} (hZ : RelM Z σ) (hO : OkZ Z) : CT G (d + 6) yX9_sole cX9_sole 7 (some .int) [.ref (gA G 54)] σ (RE (some (.int (iI (qSole Z).1))) (fun υ => RelM (qSole Z).2 υ ∧ Fr MC σ υ)) := by
  refine CT.of (by decide +kernel) (Nat.le_of_ble_eq_true rfl) ?_
  change AW G _ RX9 _ _ _ 0 [(0, .ref (gA G 54))] [] _ _
  have o2 := hO.1.2.1
  refine A_iconst (pc := 0) dX9_sole_0 ?_
  refine A_istore_n (pc := 1) dX9_sole_1 rfl (Nat.le_of_ble_eq_true rfl) ?_
  refine A_iconst (pc := 2) dX9_sole_2 ?_
  refine A_istore_n (pc := 3) dX9_sole_3 rfl (Nat.le_of_ble_eq_true rfl) ?_
  refine A_iconst (pc := 4) dX9_sole_4 ?_
  refine A_istore_n (pc := 5) dX9_sole_5 rfl (Nat.le_of_ble_eq_true rfl) ?_
  refine A_loc (l2 := [(0, _), (1, _), (2, _), (3, _)]) ⟨rfl, rfl, rfl, rfl, trivial⟩ ?_
  exact l3_X9_sole hZ hO (Z.1.2.1 0).toNat 0 (-1) (-1) (by omega) (by omega) (by omega) (RQM rfl hZ Fr.rf)
