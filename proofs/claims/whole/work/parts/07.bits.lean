/-! PART 07: bits; sets of squares as numbers (the family wb_ is pasted from kit/laws) -/
/-! ===== lN n to 2^64: shifts, and, or, masks, one bit ===== -/
theorem wb_tb (n : Nat) : (lN n).toBitVec = BitVec.ofNat 64 n := rfl
theorem wb_inj {a b : Int64} (h : a.toBitVec = b.toBitVec) : a = b := Int64.toBitVec_inj.mp h
theorem wb_tn {n : Nat} (h : n < 2 ^ 64) : (lN n).toBitVec.toNat = n := by rw [wb_tb, BitVec.toNat_ofNat, Nat.mod_eq_of_lt h]
theorem wb_of (x : Int64) : ∃ n, n < 2 ^ 64 ∧ x = lN n := ⟨x.toBitVec.toNat, x.toBitVec.isLt, wb_inj (by rw [wb_tb]; simp)⟩
theorem wb_of32 (x : Int32) : ∃ n, n < 2 ^ 32 ∧ x = nI n := ⟨x.toBitVec.toNat, x.toBitVec.isLt, Int32.toBitVec_inj.mp (by show _ = BitVec.ofNat 32 _; simp)⟩
theorem wb_c : ∀ k, k < 64 → ((nI k).toInt64 &&& 63) = lN k := by decide +kernel
theorem wb_cu : ∀ k, k < 64 → ((nI k).toInt64.toUInt64 &&& Int64.toUInt64 63) = UInt64.ofNat k := by decide +kernel
theorem wb_sm : ∀ k, k < 64 → (BitVec.ofNat 64 k).smod 64 = BitVec.ofNat 64 k := by decide +kernel
theorem wb_pw {a b : Nat} (h : a ≤ b) : 2 ^ b = 2 ^ a * 2 ^ (b - a) := by rw [← Nat.pow_add]; congr 1; omega
theorem wb_lt2 {a b : Nat} (h : a < b) : 2 ^ a < 2 ^ b := Nat.pow_lt_pow_right (by decide) h
theorem wb_mod (n : Nat) : lN n = lN (n % 2 ^ 64) := wb_inj (by rw [wb_tb, wb_tb]; apply BitVec.eq_of_toNat_eq; rw [BitVec.toNat_ofNat, BitVec.toNat_ofNat, Nat.mod_mod])
theorem wb_shr {n k : Nat} (hn : n < 2 ^ 64) (hk : k < 64) : ((lN n).toUInt64 >>> ((nI k).toInt64.toUInt64 &&& Int64.toUInt64 63)).toInt64 = lN (n / 2 ^ k) := by
  rw [wb_cu k hk]
  apply wb_inj
  apply BitVec.eq_of_toNat_eq
  show ((lN n).toUInt64 >>> UInt64.ofNat k).toNat = (BitVec.ofNat 64 _).toNat
  have h1 : (UInt64.ofNat k).toNat = k := by
    show (BitVec.ofNat 64 k).toNat = k
    rw [BitVec.toNat_ofNat, Nat.mod_eq_of_lt (by omega)]
  have h2 : (lN n).toUInt64.toNat = n := wb_tn hn
  rw [UInt64.toNat_shiftRight, h1, h2, Nat.mod_eq_of_lt hk, Nat.shiftRight_eq_div_pow, BitVec.toNat_ofNat, Nat.mod_eq_of_lt (Nat.lt_of_le_of_lt (Nat.div_le_self _ _) hn)]
theorem wb_shl (n : Nat) {k : Nat} (hk : k < 64) : lN n <<< ((nI k).toInt64 &&& 63) = lN (n * 2 ^ k) := by
  rw [wb_c k hk]
  apply wb_inj
  rw [Int64.toBitVec_shiftLeft, wb_tb, wb_tb, wb_tb, wb_sm k hk]
  apply BitVec.eq_of_toNat_eq
  rw [BitVec.shiftLeft_eq', BitVec.toNat_shiftLeft, BitVec.toNat_ofNat, BitVec.toNat_ofNat, BitVec.toNat_ofNat, Nat.mod_eq_of_lt (show k < 2 ^ 64 by omega), Nat.shiftLeft_eq, Nat.mul_mod, Nat.mod_mod, ← Nat.mul_mod]
theorem wb_and {a b : Nat} (ha : a < 2 ^ 64) (hb : b < 2 ^ 64) : lN a &&& lN b = lN (a &&& b) := by
  apply wb_inj
  rw [Int64.toBitVec_and, wb_tb, wb_tb, wb_tb]
  apply BitVec.eq_of_toNat_eq
  rw [BitVec.toNat_and, BitVec.toNat_ofNat, BitVec.toNat_ofNat, BitVec.toNat_ofNat, Nat.mod_eq_of_lt ha, Nat.mod_eq_of_lt hb, Nat.mod_eq_of_lt (Nat.and_lt_two_pow _ hb)]
theorem wb_or {a b : Nat} (ha : a < 2 ^ 64) (hb : b < 2 ^ 64) : lN a ||| lN b = lN (a ||| b) := by
  apply wb_inj
  rw [Int64.toBitVec_or, wb_tb, wb_tb, wb_tb]
  apply BitVec.eq_of_toNat_eq
  rw [BitVec.toNat_or, BitVec.toNat_ofNat, BitVec.toNat_ofNat, BitVec.toNat_ofNat, Nat.mod_eq_of_lt ha, Nat.mod_eq_of_lt hb, Nat.mod_eq_of_lt (Nat.or_lt_two_pow ha hb)]
theorem wb_mask {n k : Nat} (hn : n < 2 ^ 64) (hk : k < 64) : lN n &&& lN (2 ^ k - 1) = lN (n % 2 ^ k) := by
  rw [wb_and hn (by have := wb_lt2 hk; omega), Nat.and_two_pow_sub_one_eq_mod]
theorem wb_a1 {n : Nat} (hn : n < 2 ^ 64) : lN n &&& 1 = lN (n % 2) := wb_mask (k := 1) hn (by decide)
theorem wb_bit {n k : Nat} (hn : n < 2 ^ 64) (hk : k < 64) : ((lN n).toUInt64 >>> ((nI k).toInt64.toUInt64 &&& Int64.toUInt64 63)).toInt64 &&& 1 = lN (n / 2 ^ k % 2) := by
  rw [wb_shr hn hk, wb_a1 (Nat.lt_of_le_of_lt (Nat.div_le_self _ _) hn)]
theorem wb_xor {q k : Nat} (hk : k < 63) (h : 2 ^ k ≤ q) (h2 : q < 2 ^ (k + 1)) : lN q ^^^ lN (2 ^ k) = lN (q - 2 ^ k) := by
  obtain ⟨r, rfl⟩ : ∃ r, q = 2 ^ k + r := ⟨q - 2 ^ k, by omega⟩
  have hr : r < 2 ^ k := by rw [Nat.pow_succ] at h2; omega
  have hx : (2 ^ k + r) ^^^ 2 ^ k = r := by
    apply Nat.eq_of_testBit_eq
    intro i
    rw [Nat.testBit_xor, Nat.testBit_two_pow]
    rcases Nat.lt_trichotomy i k with h | h | h
    · rw [Nat.testBit_two_pow_add_gt h]
      simp [show ¬ k = i by omega]
    · subst h
      rw [Nat.testBit_two_pow_add_eq]
      simp
    · have a1 : 2 ^ (k + 1) ≤ 2 ^ i := Nat.pow_le_pow_right (by decide) h
      rw [Nat.testBit_lt_two_pow (show 2 ^ k + r < 2 ^ i by omega), Nat.testBit_lt_two_pow (show r < 2 ^ i by omega)]
      simp [show ¬ k = i by omega]
  have b1 := wb_lt2 (show k + 1 < 64 by omega)
  have b2 := wb_lt2 (show k < 64 by omega)
  apply wb_inj
  rw [Int64.toBitVec_xor, wb_tb, wb_tb, wb_tb]
  apply BitVec.eq_of_toNat_eq
  rw [BitVec.toNat_xor, BitVec.toNat_ofNat, BitVec.toNat_ofNat, BitVec.toNat_ofNat, Nat.mod_eq_of_lt (by omega : 2 ^ k + r < 2 ^ 64), Nat.mod_eq_of_lt b2, hx, Nat.add_sub_cancel_left, Nat.mod_eq_of_lt (by omega)]
abbrev inS (s : Int) : Prop := 0 ≤ s ∧ s < 49
/-- a square is in a set -/
abbrev sT (h : Nat) (s : Int) : Prop := 0 ≤ s ∧ s < 49 ∧ h.testBit s.toNat = true
def sqB (s : Int) : Nat := if inS s then 2 ^ s.toNat else 0
theorem pow49 : (2 : Nat) ^ 49 = 562949953421312 := by decide
theorem pow64 : (2 : Nat) ^ 64 = 18446744073709551616 := by decide
theorem lt64 {h : Nat} (hh : h < 2 ^ 49) : h < 2 ^ 64 := by rw [pow49] at hh; rw [pow64]; omega
theorem sqB_lt (s : Int) : sqB s < 2 ^ 49 := by
  unfold sqB
  by_cases h : inS s
  · rw [if_pos h]; exact Nat.pow_lt_pow_right (by decide) (by omega)
  · rw [if_neg h]; decide
theorem or49 {a b : Nat} (ha : a < 2 ^ 49) (hb : b < 2 ^ 49) : a ||| b < 2 ^ 49 := Nat.or_lt_two_pow ha hb
theorem and49 {a b : Nat} (ha : a < 2 ^ 49) : a &&& b < 2 ^ 49 := Nat.lt_of_le_of_lt Nat.and_le_left ha
theorem tb_dec (h k : Nat) : h.testBit k = decide (h / 2 ^ k % 2 = 1) := Nat.testBit_eq_decide_div_mod_eq
theorem shr_L {h k : Nat} (hh : h < 2 ^ 49) (hk : k < 64) : ((lN h).toUInt64 >>> ((iI (k : Int)).toInt64.toUInt64 &&& Int64.toUInt64 63)).toInt64 = lN (h / 2 ^ k) := by
  rw [iI_n]; exact wb_shr (lt64 hh) hk
theorem lcm_bit {h k : Nat} (hh : h < 2 ^ 49) : lcm (lN (h / 2 ^ k) &&& 1) 0 = bI (h.testBit k = true) := by
  rw [wb_a1 (Nat.lt_of_le_of_lt (Nat.div_le_self _ _) (lt64 hh)), tb_dec]
  rcases Nat.mod_two_eq_zero_or_one (h / 2 ^ k) with e | e
  · rw [e]; decide
  · rw [e]; decide
theorem shl_L {k : Nat} (hk : k < 64) : (1 : Int64) <<< ((iI (k : Int)).toInt64 &&& 63) = lN (2 ^ k) := by
  rw [iI_n]
  have e := wb_shl 1 hk
  rw [Nat.one_mul] at e
  exact e
theorem or_L {a b : Nat} (ha : a < 2 ^ 49) (hb : b < 2 ^ 49) : lN a ||| lN b = lN (a ||| b) := wb_or (lt64 ha) (lt64 hb)
theorem and_L {a b : Nat} (ha : a < 2 ^ 49) (hb : b < 2 ^ 49) : lN a &&& lN b = lN (a &&& b) := wb_and (lt64 ha) (lt64 hb)
/-- taking a set away -/
def nB (a b : Nat) : Nat := a ^^^ (a &&& b)
theorem nB_bit (a b i : Nat) : (nB a b).testBit i = (a.testBit i && !b.testBit i) := by
  unfold nB
  rw [Nat.testBit_xor, Nat.testBit_and]
  cases a.testBit i <;> cases b.testBit i <;> rfl
theorem nB_lt {a b : Nat} (ha : a < 2 ^ 49) : nB a b < 2 ^ 49 := Nat.xor_lt_two_pow ha (and49 ha)
theorem andn_L {a b : Nat} (ha : a < 2 ^ 49) (hb : b < 2 ^ 49) : lN a &&& (lN b ^^^ (-1)) = lN (nB a b) := by
  apply wb_inj
  rw [Int64.toBitVec_and, Int64.toBitVec_xor, wb_tb, wb_tb, wb_tb]
  apply BitVec.eq_of_getLsbD_eq
  intro i hi
  rw [BitVec.getLsbD_and, BitVec.getLsbD_xor, BitVec.getLsbD_ofNat, BitVec.getLsbD_ofNat, BitVec.getLsbD_ofNat, nB_bit]
  have e : ((-1 : Int64).toBitVec).getLsbD i = true := by
    have : (-1 : Int64).toBitVec = BitVec.allOnes 64 := by decide
    rw [this, BitVec.getLsbD_allOnes]
    simpa using hi
  rw [e]
  simp [hi]
/-- the square beside -/
def bes (c w : Int) : Int := if c < 0 ∨ 49 ≤ c then -1 else if w = 0 then (if c < 7 then -1 else c - 7) else if w = 1 then (if c % 7 ≤ 0 then -1 else c - 1) else if w = 2 then (if 6 ≤ c % 7 then -1 else c + 1) else if w = 3 then (if 42 ≤ c then -1 else c + 7) else -1
theorem bes_rng (c w : Int) : -1 ≤ bes c w ∧ bes c w ≤ 48 := by
  unfold bes
  (repeat' split) <;> omega
theorem bes_out {c w : Int} (h : c < 0) : bes c w = -1 := by
  unfold bes
  rw [if_pos (Or.inl h)]
/-- the squares from one on, straight, up to a house or the edge -/
def lineG (h : Nat) (w : Int) : Nat → Int → Nat
  | 0, _ => 0
  | n + 1, a => if a < 0 ∨ sT h a then 0 else 2 ^ a.toNat ||| lineG h w n (bes a w)
theorem pow_lt49 {a : Int} (h1 : 0 ≤ a) (h2 : a < 49) : 2 ^ a.toNat < 2 ^ 49 := Nat.pow_lt_pow_right (by decide) (by omega)
theorem lineG_lt (h : Nat) (w : Int) : ∀ (n : Nat) (a : Int), a < 49 → lineG h w n a < 2 ^ 49
  | 0, _, _ => by unfold lineG; decide
  | n + 1, a, ha => by
    unfold lineG
    by_cases c : a < 0 ∨ sT h a
    · rw [if_pos c]; decide
    · rw [if_neg c]
      exact or49 (pow_lt49 (by omega) ha) (lineG_lt h w n _ (by have := bes_rng a w; omega))
/-- a square without house -/
def opB (h : Nat) (a : Int) : Nat := if inS a ∧ ¬ sT h a then 2 ^ a.toNat else 0
theorem opB_lt (h : Nat) (a : Int) : opB h a < 2 ^ 49 := by
  unfold opB
  by_cases c : inS a ∧ ¬ sT h a
  · rw [if_pos c]; exact pow_lt49 (by omega) (by omega)
  · rw [if_neg c]; decide
/-- those beside, across -/
def acrG (h : Nat) (c w : Int) : Nat → Int → Nat
  | 0, _ => 0
  | n + 1, s => (if s ≠ w ∧ s ≠ 3 - w then opB h (bes c s) else 0) ||| acrG h c w n (s + 1)
theorem acrG_lt (h : Nat) (c w : Int) : ∀ (n : Nat) (s : Int), acrG h c w n s < 2 ^ 49
  | 0, _ => by unfold acrG; decide
  | n + 1, s => by
    unfold acrG
    refine or49 ?_ (acrG_lt h c w n (s + 1))
    by_cases q : s ≠ w ∧ s ≠ 3 - w
    · rw [if_pos q]; exact opB_lt _ _
    · rw [if_neg q]; decide
def acr (h : Nat) (c w : Int) : Nat := acrG h c w 4 0
theorem acr_lt (h : Nat) (c w : Int) : acr h c w < 2 ^ 49 := acrG_lt h c w 4 0
/-- what is beside the first squares of a line L -/
def wideT (L h : Nat) (w : Int) : Nat → Int → Nat
  | 0, _ => 0
  | n + 1, a => (if sT L (bes a w) then acr h (bes a w) w else 0) ||| wideT L h w n (bes a w)
theorem wideT_lt (L h : Nat) (w : Int) : ∀ (n : Nat) (a : Int), wideT L h w n a < 2 ^ 49
  | 0, _ => by unfold wideT; decide
  | n + 1, a => by
    unfold wideT
    refine or49 ?_ (wideT_lt L h w n _)
    by_cases q : sT L (bes a w)
    · rw [if_pos q]; exact acr_lt _ _ _
    · rw [if_neg q]; decide
def lineX (h : Nat) (f w r : Int) : Nat := lineG h w r.toNat (bes f w)
theorem lineX_lt (h : Nat) (f w r : Int) : lineX h f w r < 2 ^ 49 := lineG_lt _ _ _ _ (by have := bes_rng f w; omega)
def wideX (h : Nat) (f w r : Int) : Nat := lineX h f w r ||| wideT (lineX h f w r) h w 2 f
theorem wideX_lt (h : Nat) (f w r : Int) : wideX h f w r < 2 ^ 49 := or49 (lineX_lt _ _ _ _) (wideT_lt _ _ _ _ _)
