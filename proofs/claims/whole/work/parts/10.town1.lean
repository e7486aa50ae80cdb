/-! PART 10: bit counts, Math; WindowsLookedOut$Town -/
def ush (x k : Int32) : Int32 := (x.toUInt32 >>> (k.toUInt32 &&& Int32.toUInt32 31)).toInt32
def bcF (x : Int32) : Int32 :=
  let a := x - (ush x (iI 1) &&& iI 1431655765)
  let b := (a &&& iI 858993459) + (ush a (iI 2) &&& iI 858993459)
  let c := (b + ush b (iI 4)) &&& iI 252645135
  let e := c + ush c (iI 8)
  let f := e + ush e (iI 16)
  f &&& iI 63
/-- Integer.bitCount -/
def bc32 (m : Int) : Int := (bcF (iI m)).toInt
def lsh (x : Int64) (k : Int32) : Int64 := (x.toUInt64 >>> (k.toInt64.toUInt64 &&& Int64.toUInt64 63)).toInt64
def bcG (x : Int64) : Int64 :=
  let a := x - (lsh x (iI 1) &&& 6148914691236517205)
  let b := (a &&& 3689348814741910323) + (lsh a (iI 2) &&& 3689348814741910323)
  let c := (b + lsh b (iI 4)) &&& 1085102592571150095
  let e := c + lsh c (iI 8)
  let f := e + lsh e (iI 16)
  f + lsh f (iI 32)
/-- Long.bitCount -/
def bc64 (x : Int64) : Int := ((bcG x).toInt32 &&& iI 127).toInt
theorem and_rng (x : Int32) (k : Nat) (m : Int) (hk : k ≤ 30) (hm : (iI m).toBitVec.toNat = 2 ^ k - 1) : 0 ≤ (x &&& iI m).toInt ∧ (x &&& iI m).toInt < 2 ^ k := by
  rw [pk_and x k hm]
  have h1 : x.toBitVec.toNat % 2 ^ k < 2 ^ k := Nat.mod_lt _ (Nat.two_pow_pos k)
  have h2 : (2 : Nat) ^ k ≤ 2 ^ 30 := Nat.pow_le_pow_right (by decide) hk
  rw [nI_toInt (by omega)]
  refine ⟨by omega, ?_⟩
  exact_mod_cast h1
theorem bc32_rng (m : Int) : 0 ≤ bc32 m ∧ bc32 m < 64 := and_rng _ 6 63 (by decide) (by decide)
theorem bc64_rng (x : Int64) : 0 ≤ bc64 x ∧ bc64 x < 128 := and_rng _ 7 127 (by decide) (by decide)
theorem dJ6_bitCount_0f7a4_0 : decode cJ6_bitCount_0f7a4 0 = .ok (.iload_n 0, 1) := by decide +kernel
theorem dJ6_bitCount_0f7a4_1 : decode cJ6_bitCount_0f7a4 1 = .ok (.iload_n 0, 1) := by decide +kernel
theorem dJ6_bitCount_0f7a4_2 : decode cJ6_bitCount_0f7a4 2 = .ok (.iconst 1, 1) := by decide +kernel
theorem dJ6_bitCount_0f7a4_3 : decode cJ6_bitCount_0f7a4 3 = .ok (.iushr, 1) := by decide +kernel
theorem dJ6_bitCount_0f7a4_4 : decode cJ6_bitCount_0f7a4 4 = .ok (.ldc_w 265, 3) := by decide +kernel
theorem dJ6_bitCount_0f7a4_7 : decode cJ6_bitCount_0f7a4 7 = .ok (.iand, 1) := by decide +kernel
theorem dJ6_bitCount_0f7a4_8 : decode cJ6_bitCount_0f7a4 8 = .ok (.isub, 1) := by decide +kernel
theorem dJ6_bitCount_0f7a4_9 : decode cJ6_bitCount_0f7a4 9 = .ok (.istore_n 0, 1) := by decide +kernel
theorem dJ6_bitCount_0f7a4_10 : decode cJ6_bitCount_0f7a4 10 = .ok (.iload_n 0, 1) := by decide +kernel
theorem dJ6_bitCount_0f7a4_11 : decode cJ6_bitCount_0f7a4 11 = .ok (.ldc_w 266, 3) := by decide +kernel
theorem dJ6_bitCount_0f7a4_14 : decode cJ6_bitCount_0f7a4 14 = .ok (.iand, 1) := by decide +kernel
theorem dJ6_bitCount_0f7a4_15 : decode cJ6_bitCount_0f7a4 15 = .ok (.iload_n 0, 1) := by decide +kernel
theorem dJ6_bitCount_0f7a4_16 : decode cJ6_bitCount_0f7a4 16 = .ok (.iconst 2, 1) := by decide +kernel
theorem dJ6_bitCount_0f7a4_17 : decode cJ6_bitCount_0f7a4 17 = .ok (.iushr, 1) := by decide +kernel
theorem dJ6_bitCount_0f7a4_18 : decode cJ6_bitCount_0f7a4 18 = .ok (.ldc_w 266, 3) := by decide +kernel
theorem dJ6_bitCount_0f7a4_21 : decode cJ6_bitCount_0f7a4 21 = .ok (.iand, 1) := by decide +kernel
theorem dJ6_bitCount_0f7a4_22 : decode cJ6_bitCount_0f7a4 22 = .ok (.iadd, 1) := by decide +kernel
theorem dJ6_bitCount_0f7a4_23 : decode cJ6_bitCount_0f7a4 23 = .ok (.istore_n 0, 1) := by decide +kernel
theorem dJ6_bitCount_0f7a4_24 : decode cJ6_bitCount_0f7a4 24 = .ok (.iload_n 0, 1) := by decide +kernel
theorem dJ6_bitCount_0f7a4_25 : decode cJ6_bitCount_0f7a4 25 = .ok (.iload_n 0, 1) := by decide +kernel
theorem dJ6_bitCount_0f7a4_26 : decode cJ6_bitCount_0f7a4 26 = .ok (.iconst 4, 1) := by decide +kernel
theorem dJ6_bitCount_0f7a4_27 : decode cJ6_bitCount_0f7a4 27 = .ok (.iushr, 1) := by decide +kernel
theorem dJ6_bitCount_0f7a4_28 : decode cJ6_bitCount_0f7a4 28 = .ok (.iadd, 1) := by decide +kernel
theorem dJ6_bitCount_0f7a4_29 : decode cJ6_bitCount_0f7a4 29 = .ok (.ldc_w 267, 3) := by decide +kernel
theorem dJ6_bitCount_0f7a4_32 : decode cJ6_bitCount_0f7a4 32 = .ok (.iand, 1) := by decide +kernel
theorem dJ6_bitCount_0f7a4_33 : decode cJ6_bitCount_0f7a4 33 = .ok (.istore_n 0, 1) := by decide +kernel
theorem dJ6_bitCount_0f7a4_34 : decode cJ6_bitCount_0f7a4 34 = .ok (.iload_n 0, 1) := by decide +kernel
theorem dJ6_bitCount_0f7a4_35 : decode cJ6_bitCount_0f7a4 35 = .ok (.iload_n 0, 1) := by decide +kernel
theorem dJ6_bitCount_0f7a4_36 : decode cJ6_bitCount_0f7a4 36 = .ok (.bipush 8, 2) := by decide +kernel
theorem dJ6_bitCount_0f7a4_38 : decode cJ6_bitCount_0f7a4 38 = .ok (.iushr, 1) := by decide +kernel
theorem dJ6_bitCount_0f7a4_39 : decode cJ6_bitCount_0f7a4 39 = .ok (.iadd, 1) := by decide +kernel
theorem dJ6_bitCount_0f7a4_40 : decode cJ6_bitCount_0f7a4 40 = .ok (.istore_n 0, 1) := by decide +kernel
theorem dJ6_bitCount_0f7a4_41 : decode cJ6_bitCount_0f7a4 41 = .ok (.iload_n 0, 1) := by decide +kernel
theorem dJ6_bitCount_0f7a4_42 : decode cJ6_bitCount_0f7a4 42 = .ok (.iload_n 0, 1) := by decide +kernel
theorem dJ6_bitCount_0f7a4_43 : decode cJ6_bitCount_0f7a4 43 = .ok (.bipush 16, 2) := by decide +kernel
theorem dJ6_bitCount_0f7a4_45 : decode cJ6_bitCount_0f7a4 45 = .ok (.iushr, 1) := by decide +kernel
theorem dJ6_bitCount_0f7a4_46 : decode cJ6_bitCount_0f7a4 46 = .ok (.iadd, 1) := by decide +kernel
theorem dJ6_bitCount_0f7a4_47 : decode cJ6_bitCount_0f7a4 47 = .ok (.istore_n 0, 1) := by decide +kernel
theorem dJ6_bitCount_0f7a4_48 : decode cJ6_bitCount_0f7a4 48 = .ok (.iload_n 0, 1) := by decide +kernel
theorem dJ6_bitCount_0f7a4_49 : decode cJ6_bitCount_0f7a4 49 = .ok (.bipush 63, 2) := by decide +kernel
theorem dJ6_bitCount_0f7a4_51 : decode cJ6_bitCount_0f7a4 51 = .ok (.iand, 1) := by decide +kernel
theorem dJ6_bitCount_0f7a4_52 : decode cJ6_bitCount_0f7a4 52 = .ok (.ireturn, 1) := by decide +kernel
set_option maxRecDepth 20000 in
theorem c_J6_bitCount_0f7a4 {G : Gl} {d : Nat} {σ : Sg} {m : Int} : CT G d yJ6_bitCount_0f7a4 cJ6_bitCount_0f7a4 1 (some .int) [.int (iI m)] σ (R1 (.int (iI (bc32 m))) σ) := by
  refine CT.of (by decide +kernel) (Nat.le_of_ble_eq_true rfl) ?_
  change AW G _ RJ6 _ _ _ 0 [(0, .int (iI m))] [] _ _
  refine A_iload_n (pc := 0) dJ6_bitCount_0f7a4_0 rfl rfl ?_
  refine A_iload_n (pc := 1) dJ6_bitCount_0f7a4_1 rfl rfl ?_
  refine A_iconst (pc := 2) dJ6_bitCount_0f7a4_2 ?_
  refine A_iushr (pc := 3) _ dJ6_bitCount_0f7a4_3 (iI_of _).symm ?_
  refine A_ldcw (pc := 4) inJ6_265 dJ6_bitCount_0f7a4_4 ?_
  refine A_iand (pc := 7) _ dJ6_bitCount_0f7a4_7 (iI_of _).symm ?_
  refine A_isub (pc := 8) dJ6_bitCount_0f7a4_8 ?_
  refine A_istore_n (pc := 9) dJ6_bitCount_0f7a4_9 rfl (Nat.le_of_ble_eq_true rfl) ?_
  refine A_iload_n (pc := 10) dJ6_bitCount_0f7a4_10 rfl rfl ?_
  refine A_ldcw (pc := 11) inJ6_266 dJ6_bitCount_0f7a4_11 ?_
  refine A_iand (pc := 14) _ dJ6_bitCount_0f7a4_14 (iI_of _).symm ?_
  refine A_iload_n (pc := 15) dJ6_bitCount_0f7a4_15 rfl rfl ?_
  refine A_iconst (pc := 16) dJ6_bitCount_0f7a4_16 ?_
  refine A_iushr (pc := 17) _ dJ6_bitCount_0f7a4_17 (iI_of _).symm ?_
  refine A_ldcw (pc := 18) inJ6_266 dJ6_bitCount_0f7a4_18 ?_
  refine A_iand (pc := 21) _ dJ6_bitCount_0f7a4_21 (iI_of _).symm ?_
  refine A_iadd (pc := 22) dJ6_bitCount_0f7a4_22 ?_
  refine A_istore_n (pc := 23) dJ6_bitCount_0f7a4_23 rfl (Nat.le_of_ble_eq_true rfl) ?_
  refine A_iload_n (pc := 24) dJ6_bitCount_0f7a4_24 rfl rfl ?_
  refine A_iload_n (pc := 25) dJ6_bitCount_0f7a4_25 rfl rfl ?_
  refine A_iconst (pc := 26) dJ6_bitCount_0f7a4_26 ?_
  refine A_iushr (pc := 27) _ dJ6_bitCount_0f7a4_27 (iI_of _).symm ?_
  refine A_iadd (pc := 28) dJ6_bitCount_0f7a4_28 ?_
  refine A_ldcw (pc := 29) inJ6_267 dJ6_bitCount_0f7a4_29 ?_
  refine A_iand (pc := 32) _ dJ6_bitCount_0f7a4_32 (iI_of _).symm ?_
  refine A_istore_n (pc := 33) dJ6_bitCount_0f7a4_33 rfl (Nat.le_of_ble_eq_true rfl) ?_
  refine A_iload_n (pc := 34) dJ6_bitCount_0f7a4_34 rfl rfl ?_
  refine A_iload_n (pc := 35) dJ6_bitCount_0f7a4_35 rfl rfl ?_
  refine A_bipush (pc := 36) dJ6_bitCount_0f7a4_36 (by decide) ?_
  refine A_iushr (pc := 38) _ dJ6_bitCount_0f7a4_38 (iI_of _).symm ?_
  refine A_iadd (pc := 39) dJ6_bitCount_0f7a4_39 ?_
  refine A_istore_n (pc := 40) dJ6_bitCount_0f7a4_40 rfl (Nat.le_of_ble_eq_true rfl) ?_
  refine A_iload_n (pc := 41) dJ6_bitCount_0f7a4_41 rfl rfl ?_
  refine A_iload_n (pc := 42) dJ6_bitCount_0f7a4_42 rfl rfl ?_
  refine A_bipush (pc := 43) dJ6_bitCount_0f7a4_43 (by decide) ?_
  refine A_iushr (pc := 45) _ dJ6_bitCount_0f7a4_45 (iI_of _).symm ?_
  refine A_iadd (pc := 46) dJ6_bitCount_0f7a4_46 ?_
  refine A_istore_n (pc := 47) dJ6_bitCount_0f7a4_47 rfl (Nat.le_of_ble_eq_true rfl) ?_
  refine A_iload_n (pc := 48) dJ6_bitCount_0f7a4_48 rfl rfl ?_
  refine A_bipush (pc := 49) dJ6_bitCount_0f7a4_49 (by decide) ?_
  refine A_iand (pc := 51) _ dJ6_bitCount_0f7a4_51 (iI_of _).symm ?_
  refine A_iret (pc := 52) rfl dJ6_bitCount_0f7a4_52 ?_
  refine ⟨?_, rfl⟩
  simp only [bc32, bcF, ush, ← iI_add, ← iI_sub, iI_of]
theorem dJ13_bitCount_95d88_0 : decode cJ13_bitCount_95d88 0 = .ok (.lload_n 0, 1) := by decide +kernel
theorem dJ13_bitCount_95d88_1 : decode cJ13_bitCount_95d88 1 = .ok (.lload_n 0, 1) := by decide +kernel
theorem dJ13_bitCount_95d88_2 : decode cJ13_bitCount_95d88 2 = .ok (.iconst 1, 1) := by decide +kernel
theorem dJ13_bitCount_95d88_3 : decode cJ13_bitCount_95d88 3 = .ok (.lushr, 1) := by decide +kernel
theorem dJ13_bitCount_95d88_4 : decode cJ13_bitCount_95d88 4 = .ok (.ldc2_w 314, 3) := by decide +kernel
theorem dJ13_bitCount_95d88_7 : decode cJ13_bitCount_95d88 7 = .ok (.land, 1) := by decide +kernel
theorem dJ13_bitCount_95d88_8 : decode cJ13_bitCount_95d88 8 = .ok (.lsub, 1) := by decide +kernel
theorem dJ13_bitCount_95d88_9 : decode cJ13_bitCount_95d88 9 = .ok (.lstore_n 0, 1) := by decide +kernel
theorem dJ13_bitCount_95d88_10 : decode cJ13_bitCount_95d88 10 = .ok (.lload_n 0, 1) := by decide +kernel
theorem dJ13_bitCount_95d88_11 : decode cJ13_bitCount_95d88 11 = .ok (.ldc2_w 316, 3) := by decide +kernel
theorem dJ13_bitCount_95d88_14 : decode cJ13_bitCount_95d88 14 = .ok (.land, 1) := by decide +kernel
theorem dJ13_bitCount_95d88_15 : decode cJ13_bitCount_95d88 15 = .ok (.lload_n 0, 1) := by decide +kernel
theorem dJ13_bitCount_95d88_16 : decode cJ13_bitCount_95d88 16 = .ok (.iconst 2, 1) := by decide +kernel
theorem dJ13_bitCount_95d88_17 : decode cJ13_bitCount_95d88 17 = .ok (.lushr, 1) := by decide +kernel
theorem dJ13_bitCount_95d88_18 : decode cJ13_bitCount_95d88 18 = .ok (.ldc2_w 316, 3) := by decide +kernel
theorem dJ13_bitCount_95d88_21 : decode cJ13_bitCount_95d88 21 = .ok (.land, 1) := by decide +kernel
theorem dJ13_bitCount_95d88_22 : decode cJ13_bitCount_95d88 22 = .ok (.ladd, 1) := by decide +kernel
theorem dJ13_bitCount_95d88_23 : decode cJ13_bitCount_95d88 23 = .ok (.lstore_n 0, 1) := by decide +kernel
theorem dJ13_bitCount_95d88_24 : decode cJ13_bitCount_95d88 24 = .ok (.lload_n 0, 1) := by decide +kernel
theorem dJ13_bitCount_95d88_25 : decode cJ13_bitCount_95d88 25 = .ok (.lload_n 0, 1) := by decide +kernel
theorem dJ13_bitCount_95d88_26 : decode cJ13_bitCount_95d88 26 = .ok (.iconst 4, 1) := by decide +kernel
theorem dJ13_bitCount_95d88_27 : decode cJ13_bitCount_95d88 27 = .ok (.lushr, 1) := by decide +kernel
theorem dJ13_bitCount_95d88_28 : decode cJ13_bitCount_95d88 28 = .ok (.ladd, 1) := by decide +kernel
theorem dJ13_bitCount_95d88_29 : decode cJ13_bitCount_95d88 29 = .ok (.ldc2_w 318, 3) := by decide +kernel
theorem dJ13_bitCount_95d88_32 : decode cJ13_bitCount_95d88 32 = .ok (.land, 1) := by decide +kernel
theorem dJ13_bitCount_95d88_33 : decode cJ13_bitCount_95d88 33 = .ok (.lstore_n 0, 1) := by decide +kernel
theorem dJ13_bitCount_95d88_34 : decode cJ13_bitCount_95d88 34 = .ok (.lload_n 0, 1) := by decide +kernel
theorem dJ13_bitCount_95d88_35 : decode cJ13_bitCount_95d88 35 = .ok (.lload_n 0, 1) := by decide +kernel
theorem dJ13_bitCount_95d88_36 : decode cJ13_bitCount_95d88 36 = .ok (.bipush 8, 2) := by decide +kernel
theorem dJ13_bitCount_95d88_38 : decode cJ13_bitCount_95d88 38 = .ok (.lushr, 1) := by decide +kernel
theorem dJ13_bitCount_95d88_39 : decode cJ13_bitCount_95d88 39 = .ok (.ladd, 1) := by decide +kernel
theorem dJ13_bitCount_95d88_40 : decode cJ13_bitCount_95d88 40 = .ok (.lstore_n 0, 1) := by decide +kernel
theorem dJ13_bitCount_95d88_41 : decode cJ13_bitCount_95d88 41 = .ok (.lload_n 0, 1) := by decide +kernel
theorem dJ13_bitCount_95d88_42 : decode cJ13_bitCount_95d88 42 = .ok (.lload_n 0, 1) := by decide +kernel
theorem dJ13_bitCount_95d88_43 : decode cJ13_bitCount_95d88 43 = .ok (.bipush 16, 2) := by decide +kernel
theorem dJ13_bitCount_95d88_45 : decode cJ13_bitCount_95d88 45 = .ok (.lushr, 1) := by decide +kernel
theorem dJ13_bitCount_95d88_46 : decode cJ13_bitCount_95d88 46 = .ok (.ladd, 1) := by decide +kernel
theorem dJ13_bitCount_95d88_47 : decode cJ13_bitCount_95d88 47 = .ok (.lstore_n 0, 1) := by decide +kernel
theorem dJ13_bitCount_95d88_48 : decode cJ13_bitCount_95d88 48 = .ok (.lload_n 0, 1) := by decide +kernel
theorem dJ13_bitCount_95d88_49 : decode cJ13_bitCount_95d88 49 = .ok (.lload_n 0, 1) := by decide +kernel
theorem dJ13_bitCount_95d88_50 : decode cJ13_bitCount_95d88 50 = .ok (.bipush 32, 2) := by decide +kernel
theorem dJ13_bitCount_95d88_52 : decode cJ13_bitCount_95d88 52 = .ok (.lushr, 1) := by decide +kernel
theorem dJ13_bitCount_95d88_53 : decode cJ13_bitCount_95d88 53 = .ok (.ladd, 1) := by decide +kernel
theorem dJ13_bitCount_95d88_54 : decode cJ13_bitCount_95d88 54 = .ok (.lstore_n 0, 1) := by decide +kernel
theorem dJ13_bitCount_95d88_55 : decode cJ13_bitCount_95d88 55 = .ok (.lload_n 0, 1) := by decide +kernel
theorem dJ13_bitCount_95d88_56 : decode cJ13_bitCount_95d88 56 = .ok (.l2i, 1) := by decide +kernel
theorem dJ13_bitCount_95d88_57 : decode cJ13_bitCount_95d88 57 = .ok (.bipush 127, 2) := by decide +kernel
theorem dJ13_bitCount_95d88_59 : decode cJ13_bitCount_95d88 59 = .ok (.iand, 1) := by decide +kernel
theorem dJ13_bitCount_95d88_60 : decode cJ13_bitCount_95d88 60 = .ok (.ireturn, 1) := by decide +kernel
set_option maxRecDepth 20000 in
theorem c_J13_bitCount_95d88 {G : Gl} {d : Nat} {σ : Sg} {x : Int64} : CT G d yJ13_bitCount_95d88 cJ13_bitCount_95d88 2 (some .int) [.long (x)] σ (R1 (.int (iI (bc64 x))) σ) := by
  refine CT.of (by decide +kernel) (Nat.le_of_ble_eq_true rfl) ?_
  change AW G _ RJ13 _ _ _ 0 [(0, .long (x))] [] _ _
  refine A_lload_n (pc := 0) dJ13_bitCount_95d88_0 rfl rfl ?_
  refine A_lload_n (pc := 1) dJ13_bitCount_95d88_1 rfl rfl ?_
  refine A_iconst (pc := 2) dJ13_bitCount_95d88_2 ?_
  refine A_lushr (pc := 3) _ dJ13_bitCount_95d88_3 rfl ?_
  refine A_ldc2 (pc := 4) nJ13_314 dJ13_bitCount_95d88_4 ?_
  refine A_land (pc := 7) dJ13_bitCount_95d88_7 ?_
  refine A_lsub (pc := 8) dJ13_bitCount_95d88_8 ?_
  refine A_lstore_n (pc := 9) dJ13_bitCount_95d88_9 rfl (Nat.le_of_ble_eq_true rfl) ?_
  refine A_lload_n (pc := 10) dJ13_bitCount_95d88_10 rfl rfl ?_
  refine A_ldc2 (pc := 11) nJ13_316 dJ13_bitCount_95d88_11 ?_
  refine A_land (pc := 14) dJ13_bitCount_95d88_14 ?_
  refine A_lload_n (pc := 15) dJ13_bitCount_95d88_15 rfl rfl ?_
  refine A_iconst (pc := 16) dJ13_bitCount_95d88_16 ?_
  refine A_lushr (pc := 17) _ dJ13_bitCount_95d88_17 rfl ?_
  refine A_ldc2 (pc := 18) nJ13_316 dJ13_bitCount_95d88_18 ?_
  refine A_land (pc := 21) dJ13_bitCount_95d88_21 ?_
  refine A_ladd (pc := 22) dJ13_bitCount_95d88_22 ?_
  refine A_lstore_n (pc := 23) dJ13_bitCount_95d88_23 rfl (Nat.le_of_ble_eq_true rfl) ?_
  refine A_lload_n (pc := 24) dJ13_bitCount_95d88_24 rfl rfl ?_
  refine A_lload_n (pc := 25) dJ13_bitCount_95d88_25 rfl rfl ?_
  refine A_iconst (pc := 26) dJ13_bitCount_95d88_26 ?_
  refine A_lushr (pc := 27) _ dJ13_bitCount_95d88_27 rfl ?_
  refine A_ladd (pc := 28) dJ13_bitCount_95d88_28 ?_
  refine A_ldc2 (pc := 29) nJ13_318 dJ13_bitCount_95d88_29 ?_
  refine A_land (pc := 32) dJ13_bitCount_95d88_32 ?_
  refine A_lstore_n (pc := 33) dJ13_bitCount_95d88_33 rfl (Nat.le_of_ble_eq_true rfl) ?_
  refine A_lload_n (pc := 34) dJ13_bitCount_95d88_34 rfl rfl ?_
  refine A_lload_n (pc := 35) dJ13_bitCount_95d88_35 rfl rfl ?_
  refine A_bipush (pc := 36) dJ13_bitCount_95d88_36 (by decide) ?_
  refine A_lushr (pc := 38) _ dJ13_bitCount_95d88_38 rfl ?_
  refine A_ladd (pc := 39) dJ13_bitCount_95d88_39 ?_
  refine A_lstore_n (pc := 40) dJ13_bitCount_95d88_40 rfl (Nat.le_of_ble_eq_true rfl) ?_
  refine A_lload_n (pc := 41) dJ13_bitCount_95d88_41 rfl rfl ?_
  refine A_lload_n (pc := 42) dJ13_bitCount_95d88_42 rfl rfl ?_
  refine A_bipush (pc := 43) dJ13_bitCount_95d88_43 (by decide) ?_
  refine A_lushr (pc := 45) _ dJ13_bitCount_95d88_45 rfl ?_
  refine A_ladd (pc := 46) dJ13_bitCount_95d88_46 ?_
  refine A_lstore_n (pc := 47) dJ13_bitCount_95d88_47 rfl (Nat.le_of_ble_eq_true rfl) ?_
  refine A_lload_n (pc := 48) dJ13_bitCount_95d88_48 rfl rfl ?_
  refine A_lload_n (pc := 49) dJ13_bitCount_95d88_49 rfl rfl ?_
  refine A_bipush (pc := 50) dJ13_bitCount_95d88_50 (by decide) ?_
  refine A_lushr (pc := 52) _ dJ13_bitCount_95d88_52 rfl ?_
  refine A_ladd (pc := 53) dJ13_bitCount_95d88_53 ?_
  refine A_lstore_n (pc := 54) dJ13_bitCount_95d88_54 rfl (Nat.le_of_ble_eq_true rfl) ?_
  refine A_lload_n (pc := 55) dJ13_bitCount_95d88_55 rfl rfl ?_
  refine A_l2i (pc := 56) dJ13_bitCount_95d88_56 ?_
  refine A_bipush (pc := 57) dJ13_bitCount_95d88_57 (by decide) ?_
  refine A_iand (pc := 59) _ dJ13_bitCount_95d88_59 (iI_of _).symm ?_
  refine A_iret (pc := 60) rfl dJ13_bitCount_95d88_60 ?_
  refine ⟨?_, rfl⟩
  simp only [bc64, bcG, lsh, iI_of]
theorem A_mmax {G : Gl} {d : Nat} {own : String} {cc : ByteArray} {mL : Nat} {ret : Option FieldType} {pc : Nat} {ls : List (Nat × Value)} {st : List Value} {σ : Sg} {K : Option Value → Sg → Prop} {idx : Nat} {x y : Int} (hl : LkS own idx yJ9_max_7cf53 2 cJ9_max_7cf53 2 (some .int)) (x1 : -2147483648 ≤ x) (x2 : x < 2147483648) (y1 : -2147483648 ≤ y) (y2 : y < 2147483648) (hd : decode cc pc = .ok (.invokestatic idx, 3)) (hr : (st.map fun v => v.category).sum ≤ 8)
    (k : AW G (d + 1) own cc mL ret (pc + 3) ls (.int (iI (max x y)) :: st) σ K) : AW G (d + 1) own cc mL ret pc ls (.int (iI y) :: .int (iI x) :: st) σ K := by
  obtain ⟨⟨l1, l2, l3, l4, l5⟩, l6, l7⟩ := hl
  have ec : cJ9_max_7cf53 = Lib.Math.max.code := by decide +kernel
  rw [ec] at l2
  intro p e s m args below meth c' H locs la hC hP hS hL
  refine va_mmax hC.1 hC.2.1 (hC.2.2.1.trans hL.1.symm) hC.hown (hC.hts _ (TW_in l6 rfl)) (hC.hts _ (TW_in l7 rfl)) (hC.hts _ (TW_in l1 rfl)) (hC.hts _ (TW_in l2 rfl)) (by show 1 ≤ d + 1; omega) (by show _ ≤ 100 * (d + 1); omega) (Nat.zero_le _) (Nat.zero_le _) hd ?_
  have ev : (if iI x < iI y then iI y else iI x) = iI (max x y) := by
    by_cases h : x < y
    · rw [if_pos ((iI_lt x1 x2 y1 y2).mpr h)]; congr 1; omega
    · rw [if_neg (fun q => h ((iI_lt x1 x2 y1 y2).mp q))]; congr 1; omega
  rw [ev]
  exact k p e s m args below meth c' H locs la hC hP hS hL
theorem A_mmin {G : Gl} {d : Nat} {own : String} {cc : ByteArray} {mL : Nat} {ret : Option FieldType} {pc : Nat} {ls : List (Nat × Value)} {st : List Value} {σ : Sg} {K : Option Value → Sg → Prop} {idx : Nat} {x y : Int} (hl : LkS own idx yJ9_min_7cf53 2 cJ9_min_7cf53 2 (some .int)) (x1 : -2147483648 ≤ x) (x2 : x < 2147483648) (y1 : -2147483648 ≤ y) (y2 : y < 2147483648) (hd : decode cc pc = .ok (.invokestatic idx, 3)) (hr : (st.map fun v => v.category).sum ≤ 8)
    (k : AW G (d + 1) own cc mL ret (pc + 3) ls (.int (iI (min x y)) :: st) σ K) : AW G (d + 1) own cc mL ret pc ls (.int (iI y) :: .int (iI x) :: st) σ K := by
  obtain ⟨⟨l1, l2, l3, l4, l5⟩, l6, l7⟩ := hl
  have ec : cJ9_min_7cf53 = Lib.Math.min.code := by decide +kernel
  rw [ec] at l2
  intro p e s m args below meth c' H locs la hC hP hS hL
  refine va_mmin hC.1 hC.2.1 (hC.2.2.1.trans hL.1.symm) hC.hown (hC.hts _ (TW_in l6 rfl)) (hC.hts _ (TW_in l7 rfl)) (hC.hts _ (TW_in l1 rfl)) (hC.hts _ (TW_in l2 rfl)) (by show 1 ≤ d + 1; omega) (by show _ ≤ 100 * (d + 1); omega) (Nat.zero_le _) (Nat.zero_le _) hd ?_
  have ev : (if iI y < iI x then iI y else iI x) = iI (min x y) := by
    by_cases h : y < x
    · rw [if_pos ((iI_lt y1 y2 x1 x2).mpr h)]; congr 1; omega
    · rw [if_neg (fun q => h ((iI_lt y1 y2 x1 x2).mp q))]; congr 1; omega
  rw [ev]
  exact k p e s m args below meth c' H locs la hC hP hS hL
theorem dX5_isHouse_0 : decode cX5_isHouse 0 = .ok (.aload_n 0, 1) := by decide +kernel
theorem dX5_isHouse_1 : decode cX5_isHouse 1 = .ok (.getfield 9, 3) := by decide +kernel
theorem dX5_isHouse_4 : decode cX5_isHouse 4 = .ok (.iload_n 1, 1) := by decide +kernel
theorem dX5_isHouse_5 : decode cX5_isHouse 5 = .ok (.invokestatic 56, 3) := by decide +kernel
theorem dX5_isHouse_8 : decode cX5_isHouse 8 = .ok (.ireturn, 1) := by decide +kernel
set_option maxRecDepth 20000 in
theorem c_X5_isHouse {G : Gl} {d : Nat} {σ : Sg} {c : Nat} (hT : TC c) {τ : Tw} (hR : RX c τ σ) (hO : OkT τ) {s : Int} (hs1 : -2147483648 ≤ s) (hs2 : s < 2147483648) : CT G (d + 1) yX5_isHouse cX5_isHouse 2 (some .boolean) [.ref (gA G c), .int (iI s)] σ (R1 (.int (iI (bI (sT τ.1 s)))) σ) := by
  refine CT.of (by decide +kernel) (Nat.le_of_ble_eq_true rfl) ?_
  change AW G _ RX5 _ _ _ 0 [(0, .ref (gA G c)), (1, .int (iI s))] [] _ _
  have hO2 := hO
  obtain ⟨o1, o2, o3, o4, o5, o6, o7, o8, o9⟩ := hO2
  have p0 : σ.1 c 1 = τ.2.1 0 := hR.2.1 0 (by decide)
  have p1 : σ.1 c 2 = τ.2.1 1 := hR.2.1 1 (by decide)
  have p2 : σ.1 c 3 = τ.2.1 2 := hR.2.1 2 (by decide)
  have p3 : σ.1 c 4 = τ.2.1 3 := hR.2.1 3 (by decide)
  have p4 : σ.1 c 5 = τ.2.1 4 := hR.2.1 4 (by decide)
  have p5 : σ.1 c 6 = τ.2.1 5 := hR.2.1 5 (by decide)
  refine A_aload_n (pc := 0) dX5_isHouse_0 rfl rfl ?_
  refine A_getLv (pc := 1) fX5_9 (shp_T hT) rfl hR.1 dX5_isHouse_1 ?_
  refine A_iload_n (pc := 4) dX5_isHouse_4 rfl rfl ?_
  refine A_callS1 (pc := 5) kX5_56 (c_X0_has o1 hs1 hs2) dX5_isHouse_5 rfl rfl (Nat.le_of_ble_eq_true rfl) (Nat.le_of_ble_eq_true rfl) ?_
  refine A_zret (pc := 8) rfl nar_b dX5_isHouse_8 ?_
  exact ⟨rfl, rfl⟩
theorem dX5_isYard_0 : decode cX5_isYard 0 = .ok (.iload_n 1, 1) := by decide +kernel
theorem dX5_isYard_1 : decode cX5_isYard 1 = .ok (.invokestatic 62, 3) := by decide +kernel
theorem dX5_isYard_4 : decode cX5_isYard 4 = .ok (.ifCond .eq 15, 3) := by decide +kernel
theorem dX5_isYard_7 : decode cX5_isYard 7 = .ok (.aload_n 0, 1) := by decide +kernel
theorem dX5_isYard_8 : decode cX5_isYard 8 = .ok (.iload_n 1, 1) := by decide +kernel
theorem dX5_isYard_9 : decode cX5_isYard 9 = .ok (.invokevirtual 66, 3) := by decide +kernel
theorem dX5_isYard_12 : decode cX5_isYard 12 = .ok (.ifCond .ne 7, 3) := by decide +kernel
theorem dX5_isYard_15 : decode cX5_isYard 15 = .ok (.iconst 1, 1) := by decide +kernel
theorem dX5_isYard_16 : decode cX5_isYard 16 = .ok (.goto 4, 3) := by decide +kernel
theorem dX5_isYard_19 : decode cX5_isYard 19 = .ok (.iconst 0, 1) := by decide +kernel
theorem dX5_isYard_20 : decode cX5_isYard 20 = .ok (.ireturn, 1) := by decide +kernel
set_option maxRecDepth 20000 in
theorem c_X5_isYard {G : Gl} {d : Nat} {σ : Sg} {c : Nat} (hT : TC c) {τ : Tw} (hR : RX c τ σ) (hO : OkT τ) {s : Int} (hs1 : -2147483648 ≤ s) (hs2 : s < 2147483648) : CT G (d + 2) yX5_isYard cX5_isYard 2 (some .boolean) [.ref (gA G c), .int (iI s)] σ (R1 (.int (iI (bI (inS s ∧ ¬ sT τ.1 s)))) σ) := by
  refine CT.of (by decide +kernel) (Nat.le_of_ble_eq_true rfl) ?_
  change AW G _ RX5 _ _ _ 0 [(0, .ref (gA G c)), (1, .int (iI s))] [] _ _
  have hO2 := hO
  obtain ⟨o1, o2, o3, o4, o5, o6, o7, o8, o9⟩ := hO2
  have p0 : σ.1 c 1 = τ.2.1 0 := hR.2.1 0 (by decide)
  have p1 : σ.1 c 2 = τ.2.1 1 := hR.2.1 1 (by decide)
  have p2 : σ.1 c 3 = τ.2.1 2 := hR.2.1 2 (by decide)
  have p3 : σ.1 c 4 = τ.2.1 3 := hR.2.1 3 (by decide)
  have p4 : σ.1 c 5 = τ.2.1 4 := hR.2.1 4 (by decide)
  have p5 : σ.1 c 6 = τ.2.1 5 := hR.2.1 5 (by decide)
  refine A_iload_n (pc := 0) dX5_isYard_0 rfl rfl ?_
  refine A_callS1 (pc := 1) kX5_62 (c_X0_isSquare hs1 hs2) dX5_isYard_1 rfl rfl (Nat.le_of_ble_eq_true rfl) (Nat.le_of_ble_eq_true rfl) ?_
  refine A_ifb_eq (pc := 4) 19 dX5_isYard_4 (by decide) (fun h4 => ?_) (fun h4 => ?_)
  · skip
    refine A_iconst (pc := 19) dX5_isYard_19 ?_
    refine A_zret (pc := 20) rfl rfl dX5_isYard_20 ?_
    exact R1_f (fun q => h4 q.1)
  · skip
    refine A_aload_n (pc := 7) dX5_isYard_7 rfl rfl ?_
    refine A_iload_n (pc := 8) dX5_isYard_8 rfl rfl ?_
    refine A_callV1 (pc := 9) kX5_66 (shp_T hT) rfl (c_X5_isHouse hT hR hO hs1 hs2) dX5_isYard_9 rfl rfl (Nat.le_of_ble_eq_true rfl) (Nat.le_of_ble_eq_true rfl) ?_
    refine A_ifb_ne (pc := 12) 19 dX5_isYard_12 (by decide) (fun h12 => ?_) (fun h12 => ?_)
    · skip
      refine A_iconst (pc := 19) dX5_isYard_19 ?_
      refine A_zret (pc := 20) rfl rfl dX5_isYard_20 ?_
      exact R1_f (fun q => q.2 h12)
    · skip
      refine A_iconst (pc := 15) dX5_isYard_15 ?_
      refine A_goto (pc := 16) 20 dX5_isYard_16 (by decide) ?_
      refine A_zret (pc := 20) rfl rfl dX5_isYard_20 ?_
      exact R1_t ⟨h4, h12⟩
theorem dX5_isPane_0 : decode cX5_isPane 0 = .ok (.iload_n 1, 1) := by decide +kernel
theorem dX5_isPane_1 : decode cX5_isPane 1 = .ok (.ifCond .lt 21, 3) := by decide +kernel
theorem dX5_isPane_4 : decode cX5_isPane 4 = .ok (.iload_n 1, 1) := by decide +kernel
theorem dX5_isPane_5 : decode cX5_isPane 5 = .ok (.aload_n 0, 1) := by decide +kernel
theorem dX5_isPane_6 : decode cX5_isPane 6 = .ok (.getfield 15, 3) := by decide +kernel
theorem dX5_isPane_9 : decode cX5_isPane 9 = .ok (.if_icmp .ge 13, 3) := by decide +kernel
theorem dX5_isPane_12 : decode cX5_isPane 12 = .ok (.iload_n 1, 1) := by decide +kernel
theorem dX5_isPane_13 : decode cX5_isPane 13 = .ok (.bipush 9, 2) := by decide +kernel
theorem dX5_isPane_15 : decode cX5_isPane 15 = .ok (.if_icmp .ge 7, 3) := by decide +kernel
theorem dX5_isPane_18 : decode cX5_isPane 18 = .ok (.iconst 1, 1) := by decide +kernel
theorem dX5_isPane_19 : decode cX5_isPane 19 = .ok (.goto 4, 3) := by decide +kernel
theorem dX5_isPane_22 : decode cX5_isPane 22 = .ok (.iconst 0, 1) := by decide +kernel
theorem dX5_isPane_23 : decode cX5_isPane 23 = .ok (.ireturn, 1) := by decide +kernel
set_option maxRecDepth 20000 in
theorem c_X5_isPane {G : Gl} {d : Nat} {σ : Sg} {c : Nat} (hT : TC c) {τ : Tw} (hR : RX c τ σ) (hO : OkT τ) {p : Int} (hp1 : -2147483648 ≤ p) (hp2 : p < 2147483648) : CT G d yX5_isPane cX5_isPane 2 (some .boolean) [.ref (gA G c), .int (iI p)] σ (R1 (.int (iI (bI (0 ≤ p ∧ p < τ.2.1 0)))) σ) := by
  refine CT.of (by decide +kernel) (Nat.le_of_ble_eq_true rfl) ?_
  change AW G _ RX5 _ _ _ 0 [(0, .ref (gA G c)), (1, .int (iI p))] [] _ _
  have hO2 := hO
  obtain ⟨o1, o2, o3, o4, o5, o6, o7, o8, o9⟩ := hO2
  have p0 : σ.1 c 1 = τ.2.1 0 := hR.2.1 0 (by decide)
  have p1 : σ.1 c 2 = τ.2.1 1 := hR.2.1 1 (by decide)
  have p2 : σ.1 c 3 = τ.2.1 2 := hR.2.1 2 (by decide)
  have p3 : σ.1 c 4 = τ.2.1 3 := hR.2.1 3 (by decide)
  have p4 : σ.1 c 5 = τ.2.1 4 := hR.2.1 4 (by decide)
  have p5 : σ.1 c 6 = τ.2.1 5 := hR.2.1 5 (by decide)
  refine A_iload_n (pc := 0) dX5_isPane_0 rfl rfl ?_
  refine A_if_lt (pc := 1) 22 dX5_isPane_1 (by decide) (by omega) (by omega) (fun h1 => ?_) (fun h1 => ?_)
  · skip
    refine A_iconst (pc := 22) dX5_isPane_22 ?_
    refine A_zret (pc := 23) rfl rfl dX5_isPane_23 ?_
    exact R1_f (by omega)
  · skip
    refine A_iload_n (pc := 4) dX5_isPane_4 rfl rfl ?_
    refine A_aload_n (pc := 5) dX5_isPane_5 rfl rfl ?_
    refine A_getIv (pc := 6) fX5_15 (shp_T hT) rfl p0 dX5_isPane_6 ?_
    refine A_icmp_ge (pc := 9) 22 dX5_isPane_9 (by decide) (by omega) (by omega) (by omega) (by omega) (fun h9 => ?_) (fun h9 => ?_)
    · skip
      refine A_iconst (pc := 22) dX5_isPane_22 ?_
      refine A_zret (pc := 23) rfl rfl dX5_isPane_23 ?_
      exact R1_f (by omega)
    · skip
      refine A_iload_n (pc := 12) dX5_isPane_12 rfl rfl ?_
      refine A_bipush (pc := 13) dX5_isPane_13 (by decide) ?_
      refine A_icmp_ge (pc := 15) 22 dX5_isPane_15 (by decide) (by omega) (by omega) (by omega) (by omega) (fun h15 => ?_) (fun h15 => ?_)
      · skip
        refine A_iconst (pc := 22) dX5_isPane_22 ?_
        refine A_zret (pc := 23) rfl rfl dX5_isPane_23 ?_
        exact R1_f (by omega)
      · skip
        refine A_iconst (pc := 18) dX5_isPane_18 ?_
        refine A_goto (pc := 19) 23 dX5_isPane_19 (by decide) ?_
        refine A_zret (pc := 23) rfl rfl dX5_isPane_23 ?_
        exact R1_t (by omega)
theorem dX5_isWalker_0 : decode cX5_isWalker 0 = .ok (.iload_n 1, 1) := by decide +kernel
theorem dX5_isWalker_1 : decode cX5_isWalker 1 = .ok (.ifCond .lt 20, 3) := by decide +kernel
theorem dX5_isWalker_4 : decode cX5_isWalker 4 = .ok (.iload_n 1, 1) := by decide +kernel
theorem dX5_isWalker_5 : decode cX5_isWalker 5 = .ok (.aload_n 0, 1) := by decide +kernel
theorem dX5_isWalker_6 : decode cX5_isWalker 6 = .ok (.getfield 19, 3) := by decide +kernel
theorem dX5_isWalker_9 : decode cX5_isWalker 9 = .ok (.if_icmp .ge 12, 3) := by decide +kernel
theorem dX5_isWalker_12 : decode cX5_isWalker 12 = .ok (.iload_n 1, 1) := by decide +kernel
theorem dX5_isWalker_13 : decode cX5_isWalker 13 = .ok (.iconst 5, 1) := by decide +kernel
theorem dX5_isWalker_14 : decode cX5_isWalker 14 = .ok (.if_icmp .ge 7, 3) := by decide +kernel
theorem dX5_isWalker_17 : decode cX5_isWalker 17 = .ok (.iconst 1, 1) := by decide +kernel
theorem dX5_isWalker_18 : decode cX5_isWalker 18 = .ok (.goto 4, 3) := by decide +kernel
theorem dX5_isWalker_21 : decode cX5_isWalker 21 = .ok (.iconst 0, 1) := by decide +kernel
theorem dX5_isWalker_22 : decode cX5_isWalker 22 = .ok (.ireturn, 1) := by decide +kernel
set_option maxRecDepth 20000 in
theorem c_X5_isWalker {G : Gl} {d : Nat} {σ : Sg} {c : Nat} (hT : TC c) {τ : Tw} (hR : RX c τ σ) (hO : OkT τ) {w : Int} (hw1 : -2147483648 ≤ w) (hw2 : w < 2147483648) : CT G d yX5_isWalker cX5_isWalker 2 (some .boolean) [.ref (gA G c), .int (iI w)] σ (R1 (.int (iI (bI (0 ≤ w ∧ w < τ.2.1 1)))) σ) := by
  refine CT.of (by decide +kernel) (Nat.le_of_ble_eq_true rfl) ?_
  change AW G _ RX5 _ _ _ 0 [(0, .ref (gA G c)), (1, .int (iI w))] [] _ _
  have hO2 := hO
  obtain ⟨o1, o2, o3, o4, o5, o6, o7, o8, o9⟩ := hO2
  have p0 : σ.1 c 1 = τ.2.1 0 := hR.2.1 0 (by decide)
  have p1 : σ.1 c 2 = τ.2.1 1 := hR.2.1 1 (by decide)
  have p2 : σ.1 c 3 = τ.2.1 2 := hR.2.1 2 (by decide)
  have p3 : σ.1 c 4 = τ.2.1 3 := hR.2.1 3 (by decide)
  have p4 : σ.1 c 5 = τ.2.1 4 := hR.2.1 4 (by decide)
  have p5 : σ.1 c 6 = τ.2.1 5 := hR.2.1 5 (by decide)
  refine A_iload_n (pc := 0) dX5_isWalker_0 rfl rfl ?_
  refine A_if_lt (pc := 1) 21 dX5_isWalker_1 (by decide) (by omega) (by omega) (fun h1 => ?_) (fun h1 => ?_)
  · skip
    refine A_iconst (pc := 21) dX5_isWalker_21 ?_
    refine A_zret (pc := 22) rfl rfl dX5_isWalker_22 ?_
    exact R1_f (by omega)
  · skip
    refine A_iload_n (pc := 4) dX5_isWalker_4 rfl rfl ?_
    refine A_aload_n (pc := 5) dX5_isWalker_5 rfl rfl ?_
    refine A_getIv (pc := 6) fX5_19 (shp_T hT) rfl p1 dX5_isWalker_6 ?_
    refine A_icmp_ge (pc := 9) 21 dX5_isWalker_9 (by decide) (by omega) (by omega) (by omega) (by omega) (fun h9 => ?_) (fun h9 => ?_)
    · skip
      refine A_iconst (pc := 21) dX5_isWalker_21 ?_
      refine A_zret (pc := 22) rfl rfl dX5_isWalker_22 ?_
      exact R1_f (by omega)
    · skip
      refine A_iload_n (pc := 12) dX5_isWalker_12 rfl rfl ?_
      refine A_iconst (pc := 13) dX5_isWalker_13 ?_
      refine A_icmp_ge (pc := 14) 21 dX5_isWalker_14 (by decide) (by omega) (by omega) (by omega) (by omega) (fun h14 => ?_) (fun h14 => ?_)
      · skip
        refine A_iconst (pc := 21) dX5_isWalker_21 ?_
        refine A_zret (pc := 22) rfl rfl dX5_isWalker_22 ?_
        exact R1_f (by omega)
      · skip
        refine A_iconst (pc := 17) dX5_isWalker_17 ?_
        refine A_goto (pc := 18) 22 dX5_isWalker_18 (by decide) ?_
        refine A_zret (pc := 22) rfl rfl dX5_isWalker_22 ?_
        exact R1_t (by omega)
theorem dX5_hasRoomForPane_0 : decode cX5_hasRoomForPane 0 = .ok (.aload_n 0, 1) := by decide +kernel
theorem dX5_hasRoomForPane_1 : decode cX5_hasRoomForPane 1 = .ok (.getfield 15, 3) := by decide +kernel
theorem dX5_hasRoomForPane_4 : decode cX5_hasRoomForPane 4 = .ok (.bipush 9, 2) := by decide +kernel
theorem dX5_hasRoomForPane_6 : decode cX5_hasRoomForPane 6 = .ok (.if_icmp .ge 7, 3) := by decide +kernel
theorem dX5_hasRoomForPane_9 : decode cX5_hasRoomForPane 9 = .ok (.iconst 1, 1) := by decide +kernel
theorem dX5_hasRoomForPane_10 : decode cX5_hasRoomForPane 10 = .ok (.goto 4, 3) := by decide +kernel
theorem dX5_hasRoomForPane_13 : decode cX5_hasRoomForPane 13 = .ok (.iconst 0, 1) := by decide +kernel
theorem dX5_hasRoomForPane_14 : decode cX5_hasRoomForPane 14 = .ok (.ireturn, 1) := by decide +kernel
set_option maxRecDepth 20000 in
theorem c_X5_hasRoomForPane {G : Gl} {d : Nat} {σ : Sg} {c : Nat} (hT : TC c) {τ : Tw} (hR : RX c τ σ) (hO : OkT τ)  : CT G d yX5_hasRoomForPane cX5_hasRoomForPane 1 (some .boolean) [.ref (gA G c)] σ (R1 (.int (iI (bI (τ.2.1 0 < 9)))) σ) := by
  refine CT.of (by decide +kernel) (Nat.le_of_ble_eq_true rfl) ?_
  change AW G _ RX5 _ _ _ 0 [(0, .ref (gA G c))] [] _ _
  have hO2 := hO
  obtain ⟨o1, o2, o3, o4, o5, o6, o7, o8, o9⟩ := hO2
  have p0 : σ.1 c 1 = τ.2.1 0 := hR.2.1 0 (by decide)
  have p1 : σ.1 c 2 = τ.2.1 1 := hR.2.1 1 (by decide)
  have p2 : σ.1 c 3 = τ.2.1 2 := hR.2.1 2 (by decide)
  have p3 : σ.1 c 4 = τ.2.1 3 := hR.2.1 3 (by decide)
  have p4 : σ.1 c 5 = τ.2.1 4 := hR.2.1 4 (by decide)
  have p5 : σ.1 c 6 = τ.2.1 5 := hR.2.1 5 (by decide)
  refine A_aload_n (pc := 0) dX5_hasRoomForPane_0 rfl rfl ?_
  refine A_getIv (pc := 1) fX5_15 (shp_T hT) rfl p0 dX5_hasRoomForPane_1 ?_
  refine A_bipush (pc := 4) dX5_hasRoomForPane_4 (by decide) ?_
  refine A_icmp_ge (pc := 6) 13 dX5_hasRoomForPane_6 (by decide) (by omega) (by omega) (by omega) (by omega) (fun h6 => ?_) (fun h6 => ?_)
  · skip
    refine A_iconst (pc := 13) dX5_hasRoomForPane_13 ?_
    refine A_zret (pc := 14) rfl rfl dX5_hasRoomForPane_14 ?_
    exact R1_f (by omega)
  · skip
    refine A_iconst (pc := 9) dX5_hasRoomForPane_9 ?_
    refine A_goto (pc := 10) 14 dX5_hasRoomForPane_10 (by decide) ?_
    refine A_zret (pc := 14) rfl rfl dX5_hasRoomForPane_14 ?_
    exact R1_t (by omega)
theorem dX5_hasRoomForWalker_0 : decode cX5_hasRoomForWalker 0 = .ok (.aload_n 0, 1) := by decide +kernel
theorem dX5_hasRoomForWalker_1 : decode cX5_hasRoomForWalker 1 = .ok (.getfield 19, 3) := by decide +kernel
theorem dX5_hasRoomForWalker_4 : decode cX5_hasRoomForWalker 4 = .ok (.iconst 5, 1) := by decide +kernel
theorem dX5_hasRoomForWalker_5 : decode cX5_hasRoomForWalker 5 = .ok (.if_icmp .ge 7, 3) := by decide +kernel
theorem dX5_hasRoomForWalker_8 : decode cX5_hasRoomForWalker 8 = .ok (.iconst 1, 1) := by decide +kernel
theorem dX5_hasRoomForWalker_9 : decode cX5_hasRoomForWalker 9 = .ok (.goto 4, 3) := by decide +kernel
theorem dX5_hasRoomForWalker_12 : decode cX5_hasRoomForWalker 12 = .ok (.iconst 0, 1) := by decide +kernel
theorem dX5_hasRoomForWalker_13 : decode cX5_hasRoomForWalker 13 = .ok (.ireturn, 1) := by decide +kernel
set_option maxRecDepth 20000 in
theorem c_X5_hasRoomForWalker {G : Gl} {d : Nat} {σ : Sg} {c : Nat} (hT : TC c) {τ : Tw} (hR : RX c τ σ) (hO : OkT τ)  : CT G d yX5_hasRoomForWalker cX5_hasRoomForWalker 1 (some .boolean) [.ref (gA G c)] σ (R1 (.int (iI (bI (τ.2.1 1 < 5)))) σ) := by
  refine CT.of (by decide +kernel) (Nat.le_of_ble_eq_true rfl) ?_
  change AW G _ RX5 _ _ _ 0 [(0, .ref (gA G c))] [] _ _
  have hO2 := hO
  obtain ⟨o1, o2, o3, o4, o5, o6, o7, o8, o9⟩ := hO2
  have p0 : σ.1 c 1 = τ.2.1 0 := hR.2.1 0 (by decide)
  have p1 : σ.1 c 2 = τ.2.1 1 := hR.2.1 1 (by decide)
  have p2 : σ.1 c 3 = τ.2.1 2 := hR.2.1 2 (by decide)
  have p3 : σ.1 c 4 = τ.2.1 3 := hR.2.1 3 (by decide)
  have p4 : σ.1 c 5 = τ.2.1 4 := hR.2.1 4 (by decide)
  have p5 : σ.1 c 6 = τ.2.1 5 := hR.2.1 5 (by decide)
  refine A_aload_n (pc := 0) dX5_hasRoomForWalker_0 rfl rfl ?_
  refine A_getIv (pc := 1) fX5_19 (shp_T hT) rfl p1 dX5_hasRoomForWalker_1 ?_
  refine A_iconst (pc := 4) dX5_hasRoomForWalker_4 ?_
  refine A_icmp_ge (pc := 5) 12 dX5_hasRoomForWalker_5 (by decide) (by omega) (by omega) (by omega) (by omega) (fun h5 => ?_) (fun h5 => ?_)
  · skip
    refine A_iconst (pc := 12) dX5_hasRoomForWalker_12 ?_
    refine A_zret (pc := 13) rfl rfl dX5_hasRoomForWalker_13 ?_
    exact R1_f (by omega)
  · skip
    refine A_iconst (pc := 8) dX5_hasRoomForWalker_8 ?_
    refine A_goto (pc := 9) 13 dX5_hasRoomForWalker_9 (by decide) ?_
    refine A_zret (pc := 13) rfl rfl dX5_hasRoomForWalker_13 ?_
    exact R1_t (by omega)
theorem dX5_kindOf_0 : decode cX5_kindOf 0 = .ok (.aload_n 0, 1) := by decide +kernel
theorem dX5_kindOf_1 : decode cX5_kindOf 1 = .ok (.iload_n 1, 1) := by decide +kernel
theorem dX5_kindOf_2 : decode cX5_kindOf 2 = .ok (.invokevirtual 76, 3) := by decide +kernel
theorem dX5_kindOf_5 : decode cX5_kindOf 5 = .ok (.ifCond .eq 12, 3) := by decide +kernel
theorem dX5_kindOf_8 : decode cX5_kindOf 8 = .ok (.aload_n 0, 1) := by decide +kernel
theorem dX5_kindOf_9 : decode cX5_kindOf 9 = .ok (.getfield 34, 3) := by decide +kernel
theorem dX5_kindOf_12 : decode cX5_kindOf 12 = .ok (.iload_n 1, 1) := by decide +kernel
theorem dX5_kindOf_13 : decode cX5_kindOf 13 = .ok (.iaload, 1) := by decide +kernel
theorem dX5_kindOf_14 : decode cX5_kindOf 14 = .ok (.goto 4, 3) := by decide +kernel
theorem dX5_kindOf_17 : decode cX5_kindOf 17 = .ok (.iconst (-1), 1) := by decide +kernel
theorem dX5_kindOf_18 : decode cX5_kindOf 18 = .ok (.ireturn, 1) := by decide +kernel
set_option maxRecDepth 20000 in
theorem c_X5_kindOf {G : Gl} {d : Nat} {σ : Sg} {c : Nat} (hT : TC c) {τ : Tw} (hR : RX c τ σ) (hO : OkT τ) {p : Nat} (hp : (p : Int) < 2147483648) : CT G (d + 1) yX5_kindOf cX5_kindOf 2 (some .int) [.ref (gA G c), .int (iI (p : Int))] σ (R1 (.int (iI (if (p : Int) < τ.2.1 0 then τ.2.2 0 p else -1))) σ) := by
  refine CT.of (by decide +kernel) (Nat.le_of_ble_eq_true rfl) ?_
  change AW G _ RX5 _ _ _ 0 [(0, .ref (gA G c)), (1, .int (iI (p : Int)))] [] _ _
  have hO2 := hO
  obtain ⟨o1, o2, o3, o4, o5, o6, o7, o8, o9⟩ := hO2
  have p0 : σ.1 c 1 = τ.2.1 0 := hR.2.1 0 (by decide)
  have p1 : σ.1 c 2 = τ.2.1 1 := hR.2.1 1 (by decide)
  have p2 : σ.1 c 3 = τ.2.1 2 := hR.2.1 2 (by decide)
  have p3 : σ.1 c 4 = τ.2.1 3 := hR.2.1 3 (by decide)
  have p4 : σ.1 c 5 = τ.2.1 4 := hR.2.1 4 (by decide)
  have p5 : σ.1 c 6 = τ.2.1 5 := hR.2.1 5 (by decide)
  refine A_aload_n (pc := 0) dX5_kindOf_0 rfl rfl ?_
  refine A_iload_n (pc := 1) dX5_kindOf_1 rfl rfl ?_
  refine A_callV1 (pc := 2) kX5_76 (shp_T hT) rfl (c_X5_isPane hT hR hO (by omega) (by omega)) dX5_kindOf_2 rfl rfl (Nat.le_of_ble_eq_true rfl) (Nat.le_of_ble_eq_true rfl) ?_
  refine A_ifb_eq (pc := 5) 17 dX5_kindOf_5 (by decide) (fun h5 => ?_) (fun h5 => ?_)
  · skip
    refine A_iconst (pc := 17) dX5_kindOf_17 ?_
    refine A_iret (pc := 18) rfl dX5_kindOf_18 ?_
    exact R1_e (by rw [if_neg (by omega)])
  · skip
    refine A_aload_n (pc := 8) dX5_kindOf_8 rfl rfl ?_
    refine A_getR (pc := 9) fX5_34 (shp_T hT) rfl dX5_kindOf_9 ?_
    refine A_iload_n (pc := 12) dX5_kindOf_12 rfl rfl ?_
    refine A_ialdv (pc := 13) _ (shp_T_paneKind hT) rfl (by omega) (Nat.le_of_ble_eq_true rfl) (hR.kind (by omega)) dX5_kindOf_13 ?_
    refine A_goto (pc := 14) 18 dX5_kindOf_14 (by decide) ?_
    refine A_iret (pc := 18) rfl dX5_kindOf_18 ?_
    exact R1_e (by rw [if_pos (by omega)])
theorem dX5_aOf_0 : decode cX5_aOf 0 = .ok (.aload_n 0, 1) := by decide +kernel
theorem dX5_aOf_1 : decode cX5_aOf 1 = .ok (.iload_n 1, 1) := by decide +kernel
theorem dX5_aOf_2 : decode cX5_aOf 2 = .ok (.invokevirtual 76, 3) := by decide +kernel
theorem dX5_aOf_5 : decode cX5_aOf 5 = .ok (.ifCond .eq 12, 3) := by decide +kernel
theorem dX5_aOf_8 : decode cX5_aOf 8 = .ok (.aload_n 0, 1) := by decide +kernel
theorem dX5_aOf_9 : decode cX5_aOf 9 = .ok (.getfield 38, 3) := by decide +kernel
theorem dX5_aOf_12 : decode cX5_aOf 12 = .ok (.iload_n 1, 1) := by decide +kernel
theorem dX5_aOf_13 : decode cX5_aOf 13 = .ok (.iaload, 1) := by decide +kernel
theorem dX5_aOf_14 : decode cX5_aOf 14 = .ok (.goto 4, 3) := by decide +kernel
theorem dX5_aOf_17 : decode cX5_aOf 17 = .ok (.iconst 0, 1) := by decide +kernel
theorem dX5_aOf_18 : decode cX5_aOf 18 = .ok (.ireturn, 1) := by decide +kernel
set_option maxRecDepth 20000 in
theorem c_X5_aOf {G : Gl} {d : Nat} {σ : Sg} {c : Nat} (hT : TC c) {τ : Tw} (hR : RX c τ σ) (hO : OkT τ) {p : Nat} (hp : (p : Int) < 2147483648) : CT G (d + 1) yX5_aOf cX5_aOf 2 (some .int) [.ref (gA G c), .int (iI (p : Int))] σ (R1 (.int (iI (if (p : Int) < τ.2.1 0 then τ.2.2 1 p else 0))) σ) := by
  refine CT.of (by decide +kernel) (Nat.le_of_ble_eq_true rfl) ?_
  change AW G _ RX5 _ _ _ 0 [(0, .ref (gA G c)), (1, .int (iI (p : Int)))] [] _ _
  have hO2 := hO
  obtain ⟨o1, o2, o3, o4, o5, o6, o7, o8, o9⟩ := hO2
  have p0 : σ.1 c 1 = τ.2.1 0 := hR.2.1 0 (by decide)
  have p1 : σ.1 c 2 = τ.2.1 1 := hR.2.1 1 (by decide)
  have p2 : σ.1 c 3 = τ.2.1 2 := hR.2.1 2 (by decide)
  have p3 : σ.1 c 4 = τ.2.1 3 := hR.2.1 3 (by decide)
  have p4 : σ.1 c 5 = τ.2.1 4 := hR.2.1 4 (by decide)
  have p5 : σ.1 c 6 = τ.2.1 5 := hR.2.1 5 (by decide)
  refine A_aload_n (pc := 0) dX5_aOf_0 rfl rfl ?_
  refine A_iload_n (pc := 1) dX5_aOf_1 rfl rfl ?_
  refine A_callV1 (pc := 2) kX5_76 (shp_T hT) rfl (c_X5_isPane hT hR hO (by omega) (by omega)) dX5_aOf_2 rfl rfl (Nat.le_of_ble_eq_true rfl) (Nat.le_of_ble_eq_true rfl) ?_
  refine A_ifb_eq (pc := 5) 17 dX5_aOf_5 (by decide) (fun h5 => ?_) (fun h5 => ?_)
  · skip
    refine A_iconst (pc := 17) dX5_aOf_17 ?_
    refine A_iret (pc := 18) rfl dX5_aOf_18 ?_
    exact R1_e (by rw [if_neg (by omega)])
  · skip
    refine A_aload_n (pc := 8) dX5_aOf_8 rfl rfl ?_
    refine A_getR (pc := 9) fX5_38 (shp_T hT) rfl dX5_aOf_9 ?_
    refine A_iload_n (pc := 12) dX5_aOf_12 rfl rfl ?_
    refine A_ialdv (pc := 13) _ (shp_T_paneA hT) rfl (by omega) (Nat.le_of_ble_eq_true rfl) (hR.a (by omega)) dX5_aOf_13 ?_
    refine A_goto (pc := 14) 18 dX5_aOf_14 (by decide) ?_
    refine A_iret (pc := 18) rfl dX5_aOf_18 ?_
    exact R1_e (by rw [if_pos (by omega)])
theorem dX5_atOf_0 : decode cX5_atOf 0 = .ok (.aload_n 0, 1) := by decide +kernel
theorem dX5_atOf_1 : decode cX5_atOf 1 = .ok (.iload_n 1, 1) := by decide +kernel
theorem dX5_atOf_2 : decode cX5_atOf 2 = .ok (.invokevirtual 76, 3) := by decide +kernel
theorem dX5_atOf_5 : decode cX5_atOf 5 = .ok (.ifCond .eq 12, 3) := by decide +kernel
theorem dX5_atOf_8 : decode cX5_atOf 8 = .ok (.aload_n 0, 1) := by decide +kernel
theorem dX5_atOf_9 : decode cX5_atOf 9 = .ok (.getfield 41, 3) := by decide +kernel
theorem dX5_atOf_12 : decode cX5_atOf 12 = .ok (.iload_n 1, 1) := by decide +kernel
theorem dX5_atOf_13 : decode cX5_atOf 13 = .ok (.iaload, 1) := by decide +kernel
theorem dX5_atOf_14 : decode cX5_atOf 14 = .ok (.goto 4, 3) := by decide +kernel
theorem dX5_atOf_17 : decode cX5_atOf 17 = .ok (.iconst (-1), 1) := by decide +kernel
theorem dX5_atOf_18 : decode cX5_atOf 18 = .ok (.ireturn, 1) := by decide +kernel
set_option maxRecDepth 20000 in
theorem c_X5_atOf {G : Gl} {d : Nat} {σ : Sg} {c : Nat} (hT : TC c) {τ : Tw} (hR : RX c τ σ) (hO : OkT τ) {p : Nat} (hp : (p : Int) < 2147483648) : CT G (d + 1) yX5_atOf cX5_atOf 2 (some .int) [.ref (gA G c), .int (iI (p : Int))] σ (R1 (.int (iI (if (p : Int) < τ.2.1 0 then τ.2.2 2 p else -1))) σ) := by
  refine CT.of (by decide +kernel) (Nat.le_of_ble_eq_true rfl) ?_
  change AW G _ RX5 _ _ _ 0 [(0, .ref (gA G c)), (1, .int (iI (p : Int)))] [] _ _
  have hO2 := hO
  obtain ⟨o1, o2, o3, o4, o5, o6, o7, o8, o9⟩ := hO2
  have p0 : σ.1 c 1 = τ.2.1 0 := hR.2.1 0 (by decide)
  have p1 : σ.1 c 2 = τ.2.1 1 := hR.2.1 1 (by decide)
  have p2 : σ.1 c 3 = τ.2.1 2 := hR.2.1 2 (by decide)
  have p3 : σ.1 c 4 = τ.2.1 3 := hR.2.1 3 (by decide)
  have p4 : σ.1 c 5 = τ.2.1 4 := hR.2.1 4 (by decide)
  have p5 : σ.1 c 6 = τ.2.1 5 := hR.2.1 5 (by decide)
  refine A_aload_n (pc := 0) dX5_atOf_0 rfl rfl ?_
  refine A_iload_n (pc := 1) dX5_atOf_1 rfl rfl ?_
  refine A_callV1 (pc := 2) kX5_76 (shp_T hT) rfl (c_X5_isPane hT hR hO (by omega) (by omega)) dX5_atOf_2 rfl rfl (Nat.le_of_ble_eq_true rfl) (Nat.le_of_ble_eq_true rfl) ?_
  refine A_ifb_eq (pc := 5) 17 dX5_atOf_5 (by decide) (fun h5 => ?_) (fun h5 => ?_)
  · skip
    refine A_iconst (pc := 17) dX5_atOf_17 ?_
    refine A_iret (pc := 18) rfl dX5_atOf_18 ?_
    exact R1_e (by rw [if_neg (by omega)])
  · skip
    refine A_aload_n (pc := 8) dX5_atOf_8 rfl rfl ?_
    refine A_getR (pc := 9) fX5_41 (shp_T hT) rfl dX5_atOf_9 ?_
    refine A_iload_n (pc := 12) dX5_atOf_12 rfl rfl ?_
    refine A_ialdv (pc := 13) _ (shp_T_paneAt hT) rfl (by omega) (Nat.le_of_ble_eq_true rfl) (hR.at (by omega)) dX5_atOf_13 ?_
    refine A_goto (pc := 14) 18 dX5_atOf_14 (by decide) ?_
    refine A_iret (pc := 18) rfl dX5_atOf_18 ?_
    exact R1_e (by rw [if_pos (by omega)])
theorem dX5_outOf_0 : decode cX5_outOf 0 = .ok (.aload_n 0, 1) := by decide +kernel
theorem dX5_outOf_1 : decode cX5_outOf 1 = .ok (.iload_n 1, 1) := by decide +kernel
theorem dX5_outOf_2 : decode cX5_outOf 2 = .ok (.invokevirtual 76, 3) := by decide +kernel
theorem dX5_outOf_5 : decode cX5_outOf 5 = .ok (.ifCond .eq 12, 3) := by decide +kernel
theorem dX5_outOf_8 : decode cX5_outOf 8 = .ok (.aload_n 0, 1) := by decide +kernel
theorem dX5_outOf_9 : decode cX5_outOf 9 = .ok (.getfield 44, 3) := by decide +kernel
theorem dX5_outOf_12 : decode cX5_outOf 12 = .ok (.iload_n 1, 1) := by decide +kernel
theorem dX5_outOf_13 : decode cX5_outOf 13 = .ok (.iaload, 1) := by decide +kernel
theorem dX5_outOf_14 : decode cX5_outOf 14 = .ok (.goto 4, 3) := by decide +kernel
theorem dX5_outOf_17 : decode cX5_outOf 17 = .ok (.iconst (-1), 1) := by decide +kernel
theorem dX5_outOf_18 : decode cX5_outOf 18 = .ok (.ireturn, 1) := by decide +kernel
set_option maxRecDepth 20000 in
theorem c_X5_outOf {G : Gl} {d : Nat} {σ : Sg} {c : Nat} (hT : TC c) {τ : Tw} (hR : RX c τ σ) (hO : OkT τ) {p : Nat} (hp : (p : Int) < 2147483648) : CT G (d + 1) yX5_outOf cX5_outOf 2 (some .int) [.ref (gA G c), .int (iI (p : Int))] σ (R1 (.int (iI (if (p : Int) < τ.2.1 0 then τ.2.2 3 p else -1))) σ) := by
  refine CT.of (by decide +kernel) (Nat.le_of_ble_eq_true rfl) ?_
  change AW G _ RX5 _ _ _ 0 [(0, .ref (gA G c)), (1, .int (iI (p : Int)))] [] _ _
  have hO2 := hO
  obtain ⟨o1, o2, o3, o4, o5, o6, o7, o8, o9⟩ := hO2
  have p0 : σ.1 c 1 = τ.2.1 0 := hR.2.1 0 (by decide)
  have p1 : σ.1 c 2 = τ.2.1 1 := hR.2.1 1 (by decide)
  have p2 : σ.1 c 3 = τ.2.1 2 := hR.2.1 2 (by decide)
  have p3 : σ.1 c 4 = τ.2.1 3 := hR.2.1 3 (by decide)
  have p4 : σ.1 c 5 = τ.2.1 4 := hR.2.1 4 (by decide)
  have p5 : σ.1 c 6 = τ.2.1 5 := hR.2.1 5 (by decide)
  refine A_aload_n (pc := 0) dX5_outOf_0 rfl rfl ?_
  refine A_iload_n (pc := 1) dX5_outOf_1 rfl rfl ?_
  refine A_callV1 (pc := 2) kX5_76 (shp_T hT) rfl (c_X5_isPane hT hR hO (by omega) (by omega)) dX5_outOf_2 rfl rfl (Nat.le_of_ble_eq_true rfl) (Nat.le_of_ble_eq_true rfl) ?_
  refine A_ifb_eq (pc := 5) 17 dX5_outOf_5 (by decide) (fun h5 => ?_) (fun h5 => ?_)
  · skip
    refine A_iconst (pc := 17) dX5_outOf_17 ?_
    refine A_iret (pc := 18) rfl dX5_outOf_18 ?_
    exact R1_e (by rw [if_neg (by omega)])
  · skip
    refine A_aload_n (pc := 8) dX5_outOf_8 rfl rfl ?_
    refine A_getR (pc := 9) fX5_44 (shp_T hT) rfl dX5_outOf_9 ?_
    refine A_iload_n (pc := 12) dX5_outOf_12 rfl rfl ?_
    refine A_ialdv (pc := 13) _ (shp_T_paneOut hT) rfl (by omega) (Nat.le_of_ble_eq_true rfl) (hR.out (by omega)) dX5_outOf_13 ?_
    refine A_goto (pc := 14) 18 dX5_outOf_14 (by decide) ?_
    refine A_iret (pc := 18) rfl dX5_outOf_18 ?_
    exact R1_e (by rw [if_pos (by omega)])
theorem dX5_whereIs_0 : decode cX5_whereIs 0 = .ok (.aload_n 0, 1) := by decide +kernel
theorem dX5_whereIs_1 : decode cX5_whereIs 1 = .ok (.iload_n 1, 1) := by decide +kernel
theorem dX5_whereIs_2 : decode cX5_whereIs 2 = .ok (.invokevirtual 79, 3) := by decide +kernel
theorem dX5_whereIs_5 : decode cX5_whereIs 5 = .ok (.ifCond .eq 12, 3) := by decide +kernel
theorem dX5_whereIs_8 : decode cX5_whereIs 8 = .ok (.aload_n 0, 1) := by decide +kernel
theorem dX5_whereIs_9 : decode cX5_whereIs 9 = .ok (.getfield 47, 3) := by decide +kernel
theorem dX5_whereIs_12 : decode cX5_whereIs 12 = .ok (.iload_n 1, 1) := by decide +kernel
theorem dX5_whereIs_13 : decode cX5_whereIs 13 = .ok (.iaload, 1) := by decide +kernel
theorem dX5_whereIs_14 : decode cX5_whereIs 14 = .ok (.goto 4, 3) := by decide +kernel
theorem dX5_whereIs_17 : decode cX5_whereIs 17 = .ok (.iconst (-1), 1) := by decide +kernel
theorem dX5_whereIs_18 : decode cX5_whereIs 18 = .ok (.ireturn, 1) := by decide +kernel
set_option maxRecDepth 20000 in
theorem c_X5_whereIs {G : Gl} {d : Nat} {σ : Sg} {c : Nat} (hT : TC c) {τ : Tw} (hR : RX c τ σ) (hO : OkT τ) {p : Nat} (hp : (p : Int) < 2147483648) : CT G (d + 1) yX5_whereIs cX5_whereIs 2 (some .int) [.ref (gA G c), .int (iI (p : Int))] σ (R1 (.int (iI (if (p : Int) < τ.2.1 1 then τ.2.2 4 p else -1))) σ) := by
  refine CT.of (by decide +kernel) (Nat.le_of_ble_eq_true rfl) ?_
  change AW G _ RX5 _ _ _ 0 [(0, .ref (gA G c)), (1, .int (iI (p : Int)))] [] _ _
  have hO2 := hO
  obtain ⟨o1, o2, o3, o4, o5, o6, o7, o8, o9⟩ := hO2
  have p0 : σ.1 c 1 = τ.2.1 0 := hR.2.1 0 (by decide)
  have p1 : σ.1 c 2 = τ.2.1 1 := hR.2.1 1 (by decide)
  have p2 : σ.1 c 3 = τ.2.1 2 := hR.2.1 2 (by decide)
  have p3 : σ.1 c 4 = τ.2.1 3 := hR.2.1 3 (by decide)
  have p4 : σ.1 c 5 = τ.2.1 4 := hR.2.1 4 (by decide)
  have p5 : σ.1 c 6 = τ.2.1 5 := hR.2.1 5 (by decide)
  refine A_aload_n (pc := 0) dX5_whereIs_0 rfl rfl ?_
  refine A_iload_n (pc := 1) dX5_whereIs_1 rfl rfl ?_
  refine A_callV1 (pc := 2) kX5_79 (shp_T hT) rfl (c_X5_isWalker hT hR hO (by omega) (by omega)) dX5_whereIs_2 rfl rfl (Nat.le_of_ble_eq_true rfl) (Nat.le_of_ble_eq_true rfl) ?_
  refine A_ifb_eq (pc := 5) 17 dX5_whereIs_5 (by decide) (fun h5 => ?_) (fun h5 => ?_)
  · skip
    refine A_iconst (pc := 17) dX5_whereIs_17 ?_
    refine A_iret (pc := 18) rfl dX5_whereIs_18 ?_
    exact R1_e (by rw [if_neg (by omega)])
  · skip
    refine A_aload_n (pc := 8) dX5_whereIs_8 rfl rfl ?_
    refine A_getR (pc := 9) fX5_47 (shp_T hT) rfl dX5_whereIs_9 ?_
    refine A_iload_n (pc := 12) dX5_whereIs_12 rfl rfl ?_
    refine A_ialdv (pc := 13) _ (shp_T_walkerAt hT) rfl (by omega) (Nat.le_of_ble_eq_true rfl) (hR.wat (by omega)) dX5_whereIs_13 ?_
    refine A_goto (pc := 14) 18 dX5_whereIs_14 (by decide) ?_
    refine A_iret (pc := 18) rfl dX5_whereIs_18 ?_
    exact R1_e (by rw [if_pos (by omega)])
theorem dX5_facedBy_0 : decode cX5_facedBy 0 = .ok (.aload_n 0, 1) := by decide +kernel
theorem dX5_facedBy_1 : decode cX5_facedBy 1 = .ok (.iload_n 1, 1) := by decide +kernel
theorem dX5_facedBy_2 : decode cX5_facedBy 2 = .ok (.invokevirtual 79, 3) := by decide +kernel
theorem dX5_facedBy_5 : decode cX5_facedBy 5 = .ok (.ifCond .eq 12, 3) := by decide +kernel
theorem dX5_facedBy_8 : decode cX5_facedBy 8 = .ok (.aload_n 0, 1) := by decide +kernel
theorem dX5_facedBy_9 : decode cX5_facedBy 9 = .ok (.getfield 50, 3) := by decide +kernel
theorem dX5_facedBy_12 : decode cX5_facedBy 12 = .ok (.iload_n 1, 1) := by decide +kernel
theorem dX5_facedBy_13 : decode cX5_facedBy 13 = .ok (.iaload, 1) := by decide +kernel
theorem dX5_facedBy_14 : decode cX5_facedBy 14 = .ok (.goto 4, 3) := by decide +kernel
theorem dX5_facedBy_17 : decode cX5_facedBy 17 = .ok (.iconst (-1), 1) := by decide +kernel
theorem dX5_facedBy_18 : decode cX5_facedBy 18 = .ok (.ireturn, 1) := by decide +kernel
set_option maxRecDepth 20000 in
theorem c_X5_facedBy {G : Gl} {d : Nat} {σ : Sg} {c : Nat} (hT : TC c) {τ : Tw} (hR : RX c τ σ) (hO : OkT τ) {p : Nat} (hp : (p : Int) < 2147483648) : CT G (d + 1) yX5_facedBy cX5_facedBy 2 (some .int) [.ref (gA G c), .int (iI (p : Int))] σ (R1 (.int (iI (if (p : Int) < τ.2.1 1 then τ.2.2 5 p else -1))) σ) := by
  refine CT.of (by decide +kernel) (Nat.le_of_ble_eq_true rfl) ?_
  change AW G _ RX5 _ _ _ 0 [(0, .ref (gA G c)), (1, .int (iI (p : Int)))] [] _ _
  have hO2 := hO
  obtain ⟨o1, o2, o3, o4, o5, o6, o7, o8, o9⟩ := hO2
  have p0 : σ.1 c 1 = τ.2.1 0 := hR.2.1 0 (by decide)
  have p1 : σ.1 c 2 = τ.2.1 1 := hR.2.1 1 (by decide)
  have p2 : σ.1 c 3 = τ.2.1 2 := hR.2.1 2 (by decide)
  have p3 : σ.1 c 4 = τ.2.1 3 := hR.2.1 3 (by decide)
  have p4 : σ.1 c 5 = τ.2.1 4 := hR.2.1 4 (by decide)
  have p5 : σ.1 c 6 = τ.2.1 5 := hR.2.1 5 (by decide)
  refine A_aload_n (pc := 0) dX5_facedBy_0 rfl rfl ?_
  refine A_iload_n (pc := 1) dX5_facedBy_1 rfl rfl ?_
  refine A_callV1 (pc := 2) kX5_79 (shp_T hT) rfl (c_X5_isWalker hT hR hO (by omega) (by omega)) dX5_facedBy_2 rfl rfl (Nat.le_of_ble_eq_true rfl) (Nat.le_of_ble_eq_true rfl) ?_
  refine A_ifb_eq (pc := 5) 17 dX5_facedBy_5 (by decide) (fun h5 => ?_) (fun h5 => ?_)
  · skip
    refine A_iconst (pc := 17) dX5_facedBy_17 ?_
    refine A_iret (pc := 18) rfl dX5_facedBy_18 ?_
    exact R1_e (by rw [if_neg (by omega)])
  · skip
    refine A_aload_n (pc := 8) dX5_facedBy_8 rfl rfl ?_
    refine A_getR (pc := 9) fX5_50 (shp_T hT) rfl dX5_facedBy_9 ?_
    refine A_iload_n (pc := 12) dX5_facedBy_12 rfl rfl ?_
    refine A_ialdv (pc := 13) _ (shp_T_walkerFaces hT) rfl (by omega) (Nat.le_of_ble_eq_true rfl) (hR.wf (by omega)) dX5_facedBy_13 ?_
    refine A_goto (pc := 14) 18 dX5_facedBy_14 (by decide) ?_
    refine A_iret (pc := 18) rfl dX5_facedBy_18 ?_
    exact R1_e (by rw [if_pos (by omega)])
theorem dX5_triedOf_0 : decode cX5_triedOf 0 = .ok (.aload_n 0, 1) := by decide +kernel
theorem dX5_triedOf_1 : decode cX5_triedOf 1 = .ok (.iload_n 1, 1) := by decide +kernel
theorem dX5_triedOf_2 : decode cX5_triedOf 2 = .ok (.invokevirtual 79, 3) := by decide +kernel
theorem dX5_triedOf_5 : decode cX5_triedOf 5 = .ok (.ifCond .eq 12, 3) := by decide +kernel
theorem dX5_triedOf_8 : decode cX5_triedOf 8 = .ok (.aload_n 0, 1) := by decide +kernel
theorem dX5_triedOf_9 : decode cX5_triedOf 9 = .ok (.getfield 53, 3) := by decide +kernel
theorem dX5_triedOf_12 : decode cX5_triedOf 12 = .ok (.iload_n 1, 1) := by decide +kernel
theorem dX5_triedOf_13 : decode cX5_triedOf 13 = .ok (.iaload, 1) := by decide +kernel
theorem dX5_triedOf_14 : decode cX5_triedOf 14 = .ok (.goto 4, 3) := by decide +kernel
theorem dX5_triedOf_17 : decode cX5_triedOf 17 = .ok (.iconst 0, 1) := by decide +kernel
theorem dX5_triedOf_18 : decode cX5_triedOf 18 = .ok (.ireturn, 1) := by decide +kernel
set_option maxRecDepth 20000 in
theorem c_X5_triedOf {G : Gl} {d : Nat} {σ : Sg} {c : Nat} (hT : TC c) {τ : Tw} (hR : RX c τ σ) (hO : OkT τ) {p : Nat} (hp : (p : Int) < 2147483648) : CT G (d + 1) yX5_triedOf cX5_triedOf 2 (some .int) [.ref (gA G c), .int (iI (p : Int))] σ (R1 (.int (iI (if (p : Int) < τ.2.1 1 then τ.2.2 6 p else 0))) σ) := by
  refine CT.of (by decide +kernel) (Nat.le_of_ble_eq_true rfl) ?_
  change AW G _ RX5 _ _ _ 0 [(0, .ref (gA G c)), (1, .int (iI (p : Int)))] [] _ _
  have hO2 := hO
  obtain ⟨o1, o2, o3, o4, o5, o6, o7, o8, o9⟩ := hO2
  have p0 : σ.1 c 1 = τ.2.1 0 := hR.2.1 0 (by decide)
  have p1 : σ.1 c 2 = τ.2.1 1 := hR.2.1 1 (by decide)
  have p2 : σ.1 c 3 = τ.2.1 2 := hR.2.1 2 (by decide)
  have p3 : σ.1 c 4 = τ.2.1 3 := hR.2.1 3 (by decide)
  have p4 : σ.1 c 5 = τ.2.1 4 := hR.2.1 4 (by decide)
  have p5 : σ.1 c 6 = τ.2.1 5 := hR.2.1 5 (by decide)
  refine A_aload_n (pc := 0) dX5_triedOf_0 rfl rfl ?_
  refine A_iload_n (pc := 1) dX5_triedOf_1 rfl rfl ?_
  refine A_callV1 (pc := 2) kX5_79 (shp_T hT) rfl (c_X5_isWalker hT hR hO (by omega) (by omega)) dX5_triedOf_2 rfl rfl (Nat.le_of_ble_eq_true rfl) (Nat.le_of_ble_eq_true rfl) ?_
  refine A_ifb_eq (pc := 5) 17 dX5_triedOf_5 (by decide) (fun h5 => ?_) (fun h5 => ?_)
  · skip
    refine A_iconst (pc := 17) dX5_triedOf_17 ?_
    refine A_iret (pc := 18) rfl dX5_triedOf_18 ?_
    exact R1_e (by rw [if_neg (by omega)])
  · skip
    refine A_aload_n (pc := 8) dX5_triedOf_8 rfl rfl ?_
    refine A_getR (pc := 9) fX5_53 (shp_T hT) rfl dX5_triedOf_9 ?_
    refine A_iload_n (pc := 12) dX5_triedOf_12 rfl rfl ?_
    refine A_ialdv (pc := 13) _ (shp_T_walkerTried hT) rfl (by omega) (Nat.le_of_ble_eq_true rfl) (hR.wt (by omega)) dX5_triedOf_13 ?_
    refine A_goto (pc := 14) 18 dX5_triedOf_14 (by decide) ?_
    refine A_iret (pc := 18) rfl dX5_triedOf_18 ?_
    exact R1_e (by rw [if_pos (by omega)])
theorem dX5_isPaneAt_0 : decode cX5_isPaneAt 0 = .ok (.iconst 0, 1) := by decide +kernel
theorem dX5_isPaneAt_1 : decode cX5_isPaneAt 1 = .ok (.istore_n 2, 1) := by decide +kernel
theorem dX5_isPaneAt_2 : decode cX5_isPaneAt 2 = .ok (.iload_n 2, 1) := by decide +kernel
theorem dX5_isPaneAt_3 : decode cX5_isPaneAt 3 = .ok (.aload_n 0, 1) := by decide +kernel
theorem dX5_isPaneAt_4 : decode cX5_isPaneAt 4 = .ok (.getfield 15, 3) := by decide +kernel
theorem dX5_isPaneAt_7 : decode cX5_isPaneAt 7 = .ok (.if_icmp .ge 27, 3) := by decide +kernel
theorem dX5_isPaneAt_10 : decode cX5_isPaneAt 10 = .ok (.iload_n 2, 1) := by decide +kernel
theorem dX5_isPaneAt_11 : decode cX5_isPaneAt 11 = .ok (.bipush 9, 2) := by decide +kernel
theorem dX5_isPaneAt_13 : decode cX5_isPaneAt 13 = .ok (.if_icmp .ge 21, 3) := by decide +kernel
theorem dX5_isPaneAt_16 : decode cX5_isPaneAt 16 = .ok (.aload_n 0, 1) := by decide +kernel
theorem dX5_isPaneAt_17 : decode cX5_isPaneAt 17 = .ok (.getfield 41, 3) := by decide +kernel
theorem dX5_isPaneAt_20 : decode cX5_isPaneAt 20 = .ok (.iload_n 2, 1) := by decide +kernel
theorem dX5_isPaneAt_21 : decode cX5_isPaneAt 21 = .ok (.iaload, 1) := by decide +kernel
theorem dX5_isPaneAt_22 : decode cX5_isPaneAt 22 = .ok (.iload_n 1, 1) := by decide +kernel
theorem dX5_isPaneAt_23 : decode cX5_isPaneAt 23 = .ok (.if_icmp .ne 5, 3) := by decide +kernel
theorem dX5_isPaneAt_26 : decode cX5_isPaneAt 26 = .ok (.iconst 1, 1) := by decide +kernel
theorem dX5_isPaneAt_27 : decode cX5_isPaneAt 27 = .ok (.ireturn, 1) := by decide +kernel
theorem dX5_isPaneAt_28 : decode cX5_isPaneAt 28 = .ok (.iinc 2 1, 3) := by decide +kernel
theorem dX5_isPaneAt_31 : decode cX5_isPaneAt 31 = .ok (.goto (-29), 3) := by decide +kernel
theorem dX5_isPaneAt_34 : decode cX5_isPaneAt 34 = .ok (.iconst 0, 1) := by decide +kernel
theorem dX5_isPaneAt_35 : decode cX5_isPaneAt 35 = .ok (.ireturn, 1) := by decide +kernel
set_option maxRecDepth 20000 in
theorem l_X5_isPaneAt {G : Gl} {d : Nat} {σ : Sg} {K : Option Value → Sg → Prop} {c : Nat} (hT : TC c) {τ : Tw} (hR : RX c τ σ) (hO : OkT τ) {s : Int} (hs1 : -2147483648 ≤ s) (hs2 : s < 2147483648) : ∀ (n i : Nat), (i : Int) + n = τ.2.1 0 → K (some (.int (iI (bI (anyR (fun p => decide (τ.2.2 2 p = s)) n i = true))))) σ → AW G d RX5 cX5_isPaneAt 3 (some .boolean) 2 [(0, .ref (gA G c)), (1, .int (iI s)), (2, .int (iI (i : Int)))] [] σ K := by
  intro n
  induction n using Nat.strongRecOn
  rename_i n ih
  intro i hn hK
  have hO2 := hO
  obtain ⟨o1, o2, o3, o4, o5, o6, o7, o8, o9⟩ := hO2
  have p0 : σ.1 c 1 = τ.2.1 0 := hR.2.1 0 (by decide)
  have p1 : σ.1 c 2 = τ.2.1 1 := hR.2.1 1 (by decide)
  have p2 : σ.1 c 3 = τ.2.1 2 := hR.2.1 2 (by decide)
  have p3 : σ.1 c 4 = τ.2.1 3 := hR.2.1 3 (by decide)
  have p4 : σ.1 c 5 = τ.2.1 4 := hR.2.1 4 (by decide)
  have p5 : σ.1 c 6 = τ.2.1 5 := hR.2.1 5 (by decide)
  refine A_iload_n (pc := 2) dX5_isPaneAt_2 rfl rfl ?_
  refine A_aload_n (pc := 3) dX5_isPaneAt_3 rfl rfl ?_
  refine A_getIv (pc := 4) fX5_15 (shp_T hT) rfl p0 dX5_isPaneAt_4 ?_
  refine A_icmp_ge (pc := 7) 34 dX5_isPaneAt_7 (by decide) (by omega) (by omega) (by omega) (by omega) (fun h7 => ?_) (fun h7 => ?_)
  · skip
    refine A_iconst (pc := 34) dX5_isPaneAt_34 ?_
    refine A_zret (pc := 35) rfl rfl dX5_isPaneAt_35 ?_
    have hn0 : n = 0 := by omega
    subst hn0
    rw [anyR, bI_f (by decide)] at hK
    exact hK
  · skip
    refine A_iload_n (pc := 10) dX5_isPaneAt_10 rfl rfl ?_
    refine A_bipush (pc := 11) dX5_isPaneAt_11 (by decide) ?_
    refine A_icmp_ge (pc := 13) 34 dX5_isPaneAt_13 (by decide) (by omega) (by omega) (by omega) (by omega) (fun h13 => ?_) (fun h13 => ?_)
    · skip
      refine A_iconst (pc := 34) dX5_isPaneAt_34 ?_
      refine A_zret (pc := 35) rfl rfl dX5_isPaneAt_35 ?_
      exfalso; omega
    · skip
      refine A_aload_n (pc := 16) dX5_isPaneAt_16 rfl rfl ?_
      refine A_getR (pc := 17) fX5_41 (shp_T hT) rfl dX5_isPaneAt_17 ?_
      refine A_iload_n (pc := 20) dX5_isPaneAt_20 rfl rfl ?_
      refine A_ialdv (pc := 21) _ (shp_T_paneAt hT) rfl (by omega) (Nat.le_of_ble_eq_true rfl) (hR.at (by omega)) dX5_isPaneAt_21 ?_
      refine A_iload_n (pc := 22) dX5_isPaneAt_22 rfl rfl ?_
      refine A_icmp_ne (pc := 23) 28 dX5_isPaneAt_23 (by decide) (by have := o8 i (by omega); omega) (by have := o8 i (by omega); omega) hs1 hs2 (fun h23 => ?_) (fun h23 => ?_)
      · skip
        refine A_iinc (pc := 28) dX5_isPaneAt_28 rfl (Nat.le_of_ble_eq_true rfl) ?_
        refine A_goto (pc := 31) 2 dX5_isPaneAt_31 (by decide) ?_
        obtain ⟨m, rfl⟩ : ∃ m, n = m + 1 := ⟨n - 1, by omega⟩
        refine A_loc (l2 := [(0, _), (1, _), (2, _)]) ⟨rfl, rfl, rfl, trivial⟩ ?_
        refine ih m (by omega) (i + 1) (by omega) ?_
        rw [anyR, decide_eq_false h23, Bool.false_or] at hK
        exact hK
      · skip
        refine A_iconst (pc := 26) dX5_isPaneAt_26 ?_
        refine A_zret (pc := 27) rfl rfl dX5_isPaneAt_27 ?_
        obtain ⟨m, rfl⟩ : ∃ m, n = m + 1 := ⟨n - 1, by omega⟩
        rw [anyR, decide_eq_true h23, Bool.true_or, bI_t rfl] at hK
        exact hK
set_option maxRecDepth 20000 in
theorem c_X5_isPaneAt {G : Gl} {d : Nat} {σ : Sg} {c : Nat} (hT : TC c) {τ : Tw} (hR : RX c τ σ) (hO : OkT τ) {s : Int} (hs1 : -2147483648 ≤ s) (hs2 : s < 2147483648) : CT G d yX5_isPaneAt cX5_isPaneAt 3 (some .boolean) [.ref (gA G c), .int (iI s)] σ (R1 (.int (iI (bI (pAt τ s = true)))) σ) := by
  refine CT.of (by decide +kernel) (Nat.le_of_ble_eq_true rfl) ?_
  change AW G _ RX5 _ _ _ 0 [(0, .ref (gA G c)), (1, .int (iI s))] [] _ _
  have hO2 := hO
  obtain ⟨o1, o2, o3, o4, o5, o6, o7, o8, o9⟩ := hO2
  have p0 : σ.1 c 1 = τ.2.1 0 := hR.2.1 0 (by decide)
  have p1 : σ.1 c 2 = τ.2.1 1 := hR.2.1 1 (by decide)
  have p2 : σ.1 c 3 = τ.2.1 2 := hR.2.1 2 (by decide)
  have p3 : σ.1 c 4 = τ.2.1 3 := hR.2.1 3 (by decide)
  have p4 : σ.1 c 5 = τ.2.1 4 := hR.2.1 4 (by decide)
  have p5 : σ.1 c 6 = τ.2.1 5 := hR.2.1 5 (by decide)
  refine A_iconst (pc := 0) dX5_isPaneAt_0 ?_
  refine A_istore_n (pc := 1) dX5_isPaneAt_1 rfl (Nat.le_of_ble_eq_true rfl) ?_
  refine A_loc (l2 := [(0, _), (1, _), (2, _)]) ⟨rfl, rfl, rfl, trivial⟩ ?_
  exact l_X5_isPaneAt hT hR hO hs1 hs2 (τ.2.1 0).toNat 0 (by omega) ⟨rfl, rfl⟩
theorem dX5_isSomebodyAt_0 : decode cX5_isSomebodyAt 0 = .ok (.iconst 0, 1) := by decide +kernel
theorem dX5_isSomebodyAt_1 : decode cX5_isSomebodyAt 1 = .ok (.istore_n 2, 1) := by decide +kernel
theorem dX5_isSomebodyAt_2 : decode cX5_isSomebodyAt 2 = .ok (.iload_n 2, 1) := by decide +kernel
theorem dX5_isSomebodyAt_3 : decode cX5_isSomebodyAt 3 = .ok (.aload_n 0, 1) := by decide +kernel
theorem dX5_isSomebodyAt_4 : decode cX5_isSomebodyAt 4 = .ok (.getfield 19, 3) := by decide +kernel
theorem dX5_isSomebodyAt_7 : decode cX5_isSomebodyAt 7 = .ok (.if_icmp .ge 26, 3) := by decide +kernel
theorem dX5_isSomebodyAt_10 : decode cX5_isSomebodyAt 10 = .ok (.iload_n 2, 1) := by decide +kernel
theorem dX5_isSomebodyAt_11 : decode cX5_isSomebodyAt 11 = .ok (.iconst 5, 1) := by decide +kernel
theorem dX5_isSomebodyAt_12 : decode cX5_isSomebodyAt 12 = .ok (.if_icmp .ge 21, 3) := by decide +kernel
theorem dX5_isSomebodyAt_15 : decode cX5_isSomebodyAt 15 = .ok (.aload_n 0, 1) := by decide +kernel
theorem dX5_isSomebodyAt_16 : decode cX5_isSomebodyAt 16 = .ok (.getfield 47, 3) := by decide +kernel
theorem dX5_isSomebodyAt_19 : decode cX5_isSomebodyAt 19 = .ok (.iload_n 2, 1) := by decide +kernel
theorem dX5_isSomebodyAt_20 : decode cX5_isSomebodyAt 20 = .ok (.iaload, 1) := by decide +kernel
theorem dX5_isSomebodyAt_21 : decode cX5_isSomebodyAt 21 = .ok (.iload_n 1, 1) := by decide +kernel
theorem dX5_isSomebodyAt_22 : decode cX5_isSomebodyAt 22 = .ok (.if_icmp .ne 5, 3) := by decide +kernel
theorem dX5_isSomebodyAt_25 : decode cX5_isSomebodyAt 25 = .ok (.iconst 1, 1) := by decide +kernel
theorem dX5_isSomebodyAt_26 : decode cX5_isSomebodyAt 26 = .ok (.ireturn, 1) := by decide +kernel
theorem dX5_isSomebodyAt_27 : decode cX5_isSomebodyAt 27 = .ok (.iinc 2 1, 3) := by decide +kernel
theorem dX5_isSomebodyAt_30 : decode cX5_isSomebodyAt 30 = .ok (.goto (-28), 3) := by decide +kernel
theorem dX5_isSomebodyAt_33 : decode cX5_isSomebodyAt 33 = .ok (.iconst 0, 1) := by decide +kernel
theorem dX5_isSomebodyAt_34 : decode cX5_isSomebodyAt 34 = .ok (.ireturn, 1) := by decide +kernel
set_option maxRecDepth 20000 in
theorem l_X5_isSomebodyAt {G : Gl} {d : Nat} {σ : Sg} {K : Option Value → Sg → Prop} {c : Nat} (hT : TC c) {τ : Tw} (hR : RX c τ σ) (hO : OkT τ) {s : Int} (hs1 : -2147483648 ≤ s) (hs2 : s < 2147483648) : ∀ (n i : Nat), (i : Int) + n = τ.2.1 1 → K (some (.int (iI (bI (anyR (fun p => decide (τ.2.2 4 p = s)) n i = true))))) σ → AW G d RX5 cX5_isSomebodyAt 3 (some .boolean) 2 [(0, .ref (gA G c)), (1, .int (iI s)), (2, .int (iI (i : Int)))] [] σ K := by
  intro n
  induction n using Nat.strongRecOn
  rename_i n ih
  intro i hn hK
  have hO2 := hO
  obtain ⟨o1, o2, o3, o4, o5, o6, o7, o8, o9⟩ := hO2
  have p0 : σ.1 c 1 = τ.2.1 0 := hR.2.1 0 (by decide)
  have p1 : σ.1 c 2 = τ.2.1 1 := hR.2.1 1 (by decide)
  have p2 : σ.1 c 3 = τ.2.1 2 := hR.2.1 2 (by decide)
  have p3 : σ.1 c 4 = τ.2.1 3 := hR.2.1 3 (by decide)
  have p4 : σ.1 c 5 = τ.2.1 4 := hR.2.1 4 (by decide)
  have p5 : σ.1 c 6 = τ.2.1 5 := hR.2.1 5 (by decide)
  refine A_iload_n (pc := 2) dX5_isSomebodyAt_2 rfl rfl ?_
  refine A_aload_n (pc := 3) dX5_isSomebodyAt_3 rfl rfl ?_
  refine A_getIv (pc := 4) fX5_19 (shp_T hT) rfl p1 dX5_isSomebodyAt_4 ?_
  refine A_icmp_ge (pc := 7) 33 dX5_isSomebodyAt_7 (by decide) (by omega) (by omega) (by omega) (by omega) (fun h7 => ?_) (fun h7 => ?_)
  · skip
    refine A_iconst (pc := 33) dX5_isSomebodyAt_33 ?_
    refine A_zret (pc := 34) rfl rfl dX5_isSomebodyAt_34 ?_
    have hn0 : n = 0 := by omega
    subst hn0
    rw [anyR, bI_f (by decide)] at hK
    exact hK
  · skip
    refine A_iload_n (pc := 10) dX5_isSomebodyAt_10 rfl rfl ?_
    refine A_iconst (pc := 11) dX5_isSomebodyAt_11 ?_
    refine A_icmp_ge (pc := 12) 33 dX5_isSomebodyAt_12 (by decide) (by omega) (by omega) (by omega) (by omega) (fun h12 => ?_) (fun h12 => ?_)
    · skip
      refine A_iconst (pc := 33) dX5_isSomebodyAt_33 ?_
      refine A_zret (pc := 34) rfl rfl dX5_isSomebodyAt_34 ?_
      exfalso; omega
    · skip
      refine A_aload_n (pc := 15) dX5_isSomebodyAt_15 rfl rfl ?_
      refine A_getR (pc := 16) fX5_47 (shp_T hT) rfl dX5_isSomebodyAt_16 ?_
      refine A_iload_n (pc := 19) dX5_isSomebodyAt_19 rfl rfl ?_
      refine A_ialdv (pc := 20) _ (shp_T_walkerAt hT) rfl (by omega) (Nat.le_of_ble_eq_true rfl) (hR.wat (by omega)) dX5_isSomebodyAt_20 ?_
      refine A_iload_n (pc := 21) dX5_isSomebodyAt_21 rfl rfl ?_
      refine A_icmp_ne (pc := 22) 27 dX5_isSomebodyAt_22 (by decide) (by have := o9 i (by omega); omega) (by have := o9 i (by omega); omega) hs1 hs2 (fun h22 => ?_) (fun h22 => ?_)
      · skip
        refine A_iinc (pc := 27) dX5_isSomebodyAt_27 rfl (Nat.le_of_ble_eq_true rfl) ?_
        refine A_goto (pc := 30) 2 dX5_isSomebodyAt_30 (by decide) ?_
        obtain ⟨m, rfl⟩ : ∃ m, n = m + 1 := ⟨n - 1, by omega⟩
        refine A_loc (l2 := [(0, _), (1, _), (2, _)]) ⟨rfl, rfl, rfl, trivial⟩ ?_
        refine ih m (by omega) (i + 1) (by omega) ?_
        rw [anyR, decide_eq_false h22, Bool.false_or] at hK
        exact hK
      · skip
        refine A_iconst (pc := 25) dX5_isSomebodyAt_25 ?_
        refine A_zret (pc := 26) rfl rfl dX5_isSomebodyAt_26 ?_
        obtain ⟨m, rfl⟩ : ∃ m, n = m + 1 := ⟨n - 1, by omega⟩
        rw [anyR, decide_eq_true h22, Bool.true_or, bI_t rfl] at hK
        exact hK
set_option maxRecDepth 20000 in
theorem c_X5_isSomebodyAt {G : Gl} {d : Nat} {σ : Sg} {c : Nat} (hT : TC c) {τ : Tw} (hR : RX c τ σ) (hO : OkT τ) {s : Int} (hs1 : -2147483648 ≤ s) (hs2 : s < 2147483648) : CT G d yX5_isSomebodyAt cX5_isSomebodyAt 3 (some .boolean) [.ref (gA G c), .int (iI s)] σ (R1 (.int (iI (bI (wAt τ s = true)))) σ) := by
  refine CT.of (by decide +kernel) (Nat.le_of_ble_eq_true rfl) ?_
  change AW G _ RX5 _ _ _ 0 [(0, .ref (gA G c)), (1, .int (iI s))] [] _ _
  have hO2 := hO
  obtain ⟨o1, o2, o3, o4, o5, o6, o7, o8, o9⟩ := hO2
  have p0 : σ.1 c 1 = τ.2.1 0 := hR.2.1 0 (by decide)
  have p1 : σ.1 c 2 = τ.2.1 1 := hR.2.1 1 (by decide)
  have p2 : σ.1 c 3 = τ.2.1 2 := hR.2.1 2 (by decide)
  have p3 : σ.1 c 4 = τ.2.1 3 := hR.2.1 3 (by decide)
  have p4 : σ.1 c 5 = τ.2.1 4 := hR.2.1 4 (by decide)
  have p5 : σ.1 c 6 = τ.2.1 5 := hR.2.1 5 (by decide)
  refine A_iconst (pc := 0) dX5_isSomebodyAt_0 ?_
  refine A_istore_n (pc := 1) dX5_isSomebodyAt_1 rfl (Nat.le_of_ble_eq_true rfl) ?_
  refine A_loc (l2 := [(0, _), (1, _), (2, _)]) ⟨rfl, rfl, rfl, trivial⟩ ?_
  exact l_X5_isSomebodyAt hT hR hO hs1 hs2 (τ.2.1 1).toNat 0 (by omega) ⟨rfl, rfl⟩
