/-! PART 16: the reference: what its town tells (the family pf_ is pasted from kit/laws) -/
/-! ===== lN to 2^62 under >> and >>> ===== -/
theorem pf_lI {a : Nat} (h : a < 2 ^ 63) : (lN a).toInt = (a : Int) := lg_ofNat_toInt h
theorem pf_shr {a d : Nat} {D : Int64} (hD : (D.toBitVec.smod 64).toNat = d) (h : a < 2 ^ 62) : lN a >>> D = lN (a / 2 ^ d) := by
  have hd : a / 2 ^ d ≤ a := Nat.div_le_self _ _
  apply Int64.toInt_inj.mp
  have e : (lN a >>> D).toInt = (lN a).toInt >>> d := by
    rw [← hD]
    exact BitVec.toInt_sshiftRight ..
  rw [e, Int.shiftRight_eq_div_pow, pf_lI (by omega), pf_lI (by omega)]
  rfl
theorem pf_ushr {a d : Nat} {D : UInt64} (hD : D.toNat % 64 = d) (h : a < 2 ^ 62) : ((lN a).toUInt64 >>> D).toInt64 = lN (a / 2 ^ d) := by
  have hd : a / 2 ^ d ≤ a := Nat.div_le_self _ _
  have e : (lN a).toUInt64 >>> D = UInt64.ofNat (a / 2 ^ d) := UInt64.toNat_inj.mp (by
    rw [UInt64.toNat_shiftRight, hD, Nat.shiftRight_eq_div_pow, UInt64.toNat_ofNat']
    show (UInt64.ofNat a).toNat / 2 ^ d = _
    rw [UInt64.toNat_ofNat', Nat.mod_eq_of_lt (by omega), Nat.mod_eq_of_lt (by omega)])
  rw [e]
  rfl
theorem pf_andw (x : Int64) : ∃ m, m < 2 ^ 32 ∧ x &&& 4294967295 = lN m := ⟨x.toBitVec.toNat % 2 ^ 32, Nat.mod_lt _ (by decide), Int64.toBitVec_inj.mp (BitVec.eq_of_toNat_eq (by
  show (x.toBitVec &&& 4294967295#64).toNat = (BitVec.ofNat 64 (x.toBitVec.toNat % 2 ^ 32)).toNat
  rw [BitVec.toNat_and, show (4294967295#64).toNat = 2 ^ 32 - 1 from by decide, Nat.and_two_pow_sub_one_eq_mod, BitVec.toNat_ofNat]
  omega))⟩
theorem shrS_L {h k : Nat} (hh : h < 2 ^ 49) (hk : k < 64) : lN h >>> ((iI (k : Int)).toInt64 &&& 63) = lN (h / 2 ^ k) := by
  rw [iI_n, wb_c k hk]
  refine pf_shr ?_ (Nat.lt_trans hh (by decide))
  rw [wb_tb, wb_sm k hk]
  rw [BitVec.toNat_ofNat]
  omega
theorem lcm_bit1 {h k : Nat} (hh : h < 2 ^ 49) : lcm (lN (h / 2 ^ k) &&& 1) 1 = bI (h.testBit k = true) - 1 := by
  rw [wb_a1 (Nat.lt_of_le_of_lt (Nat.div_le_self _ _) (lt64 hh)), tb_dec]
  rcases Nat.mod_two_eq_zero_or_one (h / 2 ^ k) with e | e
  · rw [e]; decide
  · rw [e]; decide
theorem bI_m1 {P : Prop} [Decidable P] (h : bI P - 1 = 0) : P := by
  by_cases q : P
  · exact q
  · rw [bI_f q] at h; omega
theorem bI_m1n {P : Prop} [Decidable P] (h : bI P - 1 ≠ 0) : ¬ P := fun q => h (by rw [bI_t q]; rfl)
theorem bI_rng (P : Prop) [Decidable P] : 0 ≤ bI P ∧ bI P ≤ 1 := by
  rcases bI_or P with ⟨-, h⟩ | ⟨-, h⟩ <;> omega
/-- the reference's square beside; below 0 the edge -/
def nx (c w : Int) : Int := if w = 0 then c - 7 else if w = 1 then (if c % 7 = 0 then -1 else c - 1) else if w = 2 then (if c % 7 = 6 then -1 else c + 1) else if c + 7 < 49 then c + 7 else -1
def nm (c : Int) : Int := if c < 0 then -1 else c
theorem nm_nx {c w : Int} (h1 : 0 ≤ c) (h2 : c ≤ 48) (w1 : 0 ≤ w) (w2 : w ≤ 3) : nm (nx c w) = bes c w := by
  unfold nm nx bes
  (repeat' split) <;> omega
theorem nx_rng {c w : Int} (h1 : 0 ≤ c) (h2 : c ≤ 48) : -7 ≤ nx c w ∧ nx c w ≤ 48 := by
  unfold nx
  (repeat' split) <;> omega
theorem nm_pos {c : Int} (h : 0 ≤ c) : nm c = c := if_neg (by omega)
theorem nm_neg {c : Int} (h : c < 0) : nm c = -1 := if_pos h
theorem sT_nm (h : Nat) (c : Int) : sT h (nm c) ↔ sT h c := by
  unfold nm
  by_cases q : c < 0
  · rw [if_pos q]
    constructor
    · intro z; omega
    · intro z; omega
  · rw [if_neg q]
theorem inS_nm (c : Int) : inS (nm c) ↔ inS c := by
  unfold nm
  by_cases q : c < 0
  · rw [if_pos q]; omega
  · rw [if_neg q]
theorem sT_k {h k : Nat} (hk : k < 49) : sT h (k : Int) ↔ h.testBit k = true := ⟨fun q => q.2.2, fun q => ⟨by omega, by omega, q⟩⟩
/-- the reference's line -/
def lineM (h : Nat) (w : Int) (bay : Bool) : Nat → Int → Int → Nat
  | 0, _, _ => 0
  | n + 1, i, a => if a < 0 ∨ sT h a then 0 else (2 ^ a.toNat ||| (if bay = true ∧ i < 2 then opB h (bes a (if w = 1 ∨ w = 2 then 0 else 1)) ||| opB h (bes a (if w = 1 ∨ w = 2 then 3 else 2)) else 0)) ||| lineM h w bay n (i + 1) (bes a w)
theorem lineM_lt (h : Nat) (w : Int) (b : Bool) : ∀ (n : Nat) (i a : Int), a < 49 → lineM h w b n i a < 2 ^ 49
  | 0, _, _, _ => by unfold lineM; decide
  | n + 1, i, a, ha => by
    unfold lineM
    by_cases c : a < 0 ∨ sT h a
    · rw [if_pos c]; decide
    · rw [if_neg c]
      refine or49 (or49 (pow_lt49 (by omega) ha) ?_) (lineM_lt h w b n _ _ (by have := bes_rng a w; omega))
      by_cases q : b = true ∧ i < 2
      · rw [if_pos q]; exact or49 (opB_lt _ _) (opB_lt _ _)
      · rw [if_neg q]; decide
theorem lineM_plain (h : Nat) (w : Int) (b : Bool) : ∀ (n : Nat) (i a : Int), (b = false ∨ 2 ≤ i) → lineM h w b n i a = lineG h w n a
  | 0, _, _, _ => rfl
  | n + 1, i, a, hb => by
    unfold lineM lineG
    by_cases c : a < 0 ∨ sT h a
    · rw [if_pos c, if_pos c]
    · rw [if_neg c, if_neg c, if_neg (by rcases hb with rfl | hb <;> simp_all <;> omega), Nat.or_zero, lineM_plain h w b n _ _ (by rcases hb with hb | hb; exact Or.inl hb; exact Or.inr (by omega))]
/-- what a bay sees beside -/
def bayB (h : Nat) (w : Int) (b : Bool) (i a : Int) : Nat := if b = true ∧ i < 2 then opB h (bes a (if w = 1 ∨ w = 2 then 0 else 1)) ||| opB h (bes a (if w = 1 ∨ w = 2 then 3 else 2)) else 0
theorem bayB_lt (h : Nat) (w : Int) (b : Bool) (i a : Int) : bayB h w b i a < 2 ^ 49 := by
  unfold bayB
  by_cases q : b = true ∧ i < 2
  · rw [if_pos q]; exact or49 (opB_lt _ _) (opB_lt _ _)
  · rw [if_neg q]; decide
theorem lineM_s {h : Nat} {w : Int} {b : Bool} {n : Nat} {i a : Int} (ha : ¬ (a < 0 ∨ sT h a)) : lineM h w b (n + 1) i a = (2 ^ a.toNat ||| bayB h w b i a) ||| lineM h w b n (i + 1) (bes a w) := by rw [lineM, if_neg ha]; rfl
theorem acr_eq {h : Nat} {c w : Int} (w1 : 0 ≤ w) (w2 : w ≤ 3) : acr h c w = opB h (bes c (if w = 1 ∨ w = 2 then 0 else 1)) ||| opB h (bes c (if w = 1 ∨ w = 2 then 3 else 2)) := by
  have hw : w = 0 ∨ w = 1 ∨ w = 2 ∨ w = 3 := by omega
  unfold acr
  rcases hw with rfl | rfl | rfl | rfl <;> simp [acrG]
theorem bayB_acr {h : Nat} {w i a : Int} (w1 : 0 ≤ w) (w2 : w ≤ 3) (hi : i < 2) : bayB h w true i a = acr h a w := by rw [bayB, if_pos ⟨rfl, hi⟩, acr_eq w1 w2]
theorem bes_ne {a w : Int} (h : 0 ≤ a) : bes a w ≠ a := by
  unfold bes
  (repeat' split) <;> omega
theorem sT_pow {a b : Int} (ha : 0 ≤ a) (hb : a < 49) : sT (2 ^ a.toNat) b ↔ b = a := by
  constructor
  · rintro ⟨h1, h2, h3⟩
    rw [Nat.testBit_two_pow] at h3
    have := of_decide_eq_true h3
    omega
  · rintro rfl
    exact ⟨ha, hb, by rw [Nat.testBit_two_pow_self]⟩
theorem lineM_wide {h : Nat} {f w r : Int} (w1 : 0 ≤ w) (w2 : w ≤ 3) : lineM h w true r.toNat 0 (bes f w) = wideX h f w r := by
  have hb1 := bes_rng f w
  have key : ∀ (n : Nat) (a : Int), -1 ≤ a → a ≤ 48 → lineM h w true n 0 a = lineG h w n a ||| ((if sT (lineG h w n a) a then acr h a w else 0) ||| ((if sT (lineG h w n a) (bes a w) then acr h (bes a w) w else 0) ||| 0)) := by
    intro n a a1 a2
    have z0 : ∀ b, ¬ sT 0 b := fun b q => by have z := q.2.2; rw [Nat.zero_testBit] at z; exact absurd z (by decide)
    cases n with
    | zero =>
      have e : lineG h w 0 a = 0 := rfl
      rw [e, if_neg (z0 _), if_neg (z0 _)]; rfl
    | succ n =>
      by_cases c : a < 0 ∨ sT h a
      · rw [lineM, lineG, if_pos c, if_pos c, if_neg (z0 _), if_neg (z0 _)]; rfl
      · have a0 : 0 ≤ a := by omega
        have hb := bes_rng a w
        have hne : bes a w ≠ a := bes_ne a0
        have s1 : sT (lineG h w (n + 1) a) a := by
          rw [lineG, if_neg c]
          exact ⟨a0, by omega, by rw [Nat.testBit_or, Nat.testBit_two_pow_self]; rfl⟩
        rw [if_pos s1]
        cases n with
        | zero =>
          have s2 : ¬ sT (lineG h w 1 a) (bes a w) := by
            rw [lineG, if_neg c, lineG, Nat.or_zero, sT_pow a0 (by omega)]; exact hne
          rw [if_neg s2, lineM_s c, bayB_acr w1 w2 (by decide), lineG, if_neg c]
          simp only [lineM, lineG, Nat.or_zero]
        | succ k =>
          by_cases c2 : bes a w < 0 ∨ sT h (bes a w)
          · have e : lineG h w (k + 1 + 1) a = 2 ^ a.toNat := by rw [lineG, if_neg c, lineG, if_pos c2, Nat.or_zero]
            have s2 : ¬ sT (lineG h w (k + 1 + 1) a) (bes a w) := by rw [e, sT_pow a0 (by omega)]; exact hne
            rw [if_neg s2, e, lineM_s c, lineM, if_pos c2, bayB_acr w1 w2 (by decide)]
            simp only [Nat.or_zero]
          · have b0 : 0 ≤ bes a w := by omega
            have e : lineG h w (k + 1 + 1) a = 2 ^ a.toNat ||| (2 ^ (bes a w).toNat ||| lineG h w k (bes (bes a w) w)) := by rw [lineG, if_neg c, lineG, if_neg c2]
            have s2 : sT (lineG h w (k + 1 + 1) a) (bes a w) := by
              rw [e]
              exact ⟨b0, by omega, by rw [Nat.testBit_or, Nat.testBit_or, Nat.testBit_two_pow_self]; simp⟩
            rw [if_pos s2, e, lineM_s c, lineM_s c2, bayB_acr w1 w2 (by decide), bayB_acr w1 w2 (by decide), lineM_plain h w true k _ _ (Or.inr (by decide)), Nat.or_zero]
            apply Nat.eq_of_testBit_eq
            intro i
            simp only [Nat.testBit_or]
            simp only [Bool.or_assoc, Bool.or_comm, Bool.or_left_comm]
  exact key r.toNat (bes f w) hb1.1 hb1.2
theorem dX9_isSquare_0 : decode cX9_isSquare 0 = .ok (.iload_n 0, 1) := by decide +kernel
theorem dX9_isSquare_1 : decode cX9_isSquare 1 = .ok (.iconst 0, 1) := by decide +kernel
theorem dX9_isSquare_2 : decode cX9_isSquare 2 = .ok (.bipush 48, 2) := by decide +kernel
theorem dX9_isSquare_4 : decode cX9_isSquare 4 = .ok (.invokestatic 86, 3) := by decide +kernel
theorem dX9_isSquare_7 : decode cX9_isSquare 7 = .ok (.ireturn, 1) := by decide +kernel
set_option maxRecDepth 20000 in
theorem c_X9_isSquare {G : Gl} {d : Nat} {σ : Sg} {s : Int} (hs1 : -2147483648 ≤ s) (hs2 : s < 2147483648) : CT G (d + 1) yX9_isSquare cX9_isSquare 1 (some .boolean) [.int (iI s)] σ (R1 (.int (iI (bI (0 ≤ s ∧ s < 49)))) σ) := by
  refine CT.of (by decide +kernel) (Nat.le_of_ble_eq_true rfl) ?_
  change AW G _ RX9 _ _ _ 0 [(0, .int (iI s))] [] _ _
  refine A_iload_n (pc := 0) dX9_isSquare_0 rfl rfl ?_
  refine A_iconst (pc := 1) dX9_isSquare_1 ?_
  refine A_bipush (pc := 2) dX9_isSquare_2 (by decide) ?_
  refine A_callS1 (pc := 4) kX9_86 (c_X9_within (v := s) (a := 0) (b := 48) hs1 hs2 (by omega) (by omega) (by omega) (by omega)) dX9_isSquare_4 rfl rfl (Nat.le_of_ble_eq_true rfl) (Nat.le_of_ble_eq_true rfl) ?_
  refine A_zret (pc := 7) rfl nar_b dX9_isSquare_7 ?_
  exact R1_e (bI_congr (by omega))
theorem dX9_isWay_0 : decode cX9_isWay 0 = .ok (.iload_n 0, 1) := by decide +kernel
theorem dX9_isWay_1 : decode cX9_isWay 1 = .ok (.iconst 0, 1) := by decide +kernel
theorem dX9_isWay_2 : decode cX9_isWay 2 = .ok (.iconst 3, 1) := by decide +kernel
theorem dX9_isWay_3 : decode cX9_isWay 3 = .ok (.invokestatic 86, 3) := by decide +kernel
theorem dX9_isWay_6 : decode cX9_isWay 6 = .ok (.ireturn, 1) := by decide +kernel
set_option maxRecDepth 20000 in
theorem c_X9_isWay {G : Gl} {d : Nat} {σ : Sg} {s : Int} (hs1 : -2147483648 ≤ s) (hs2 : s < 2147483648) : CT G (d + 1) yX9_isWay cX9_isWay 1 (some .boolean) [.int (iI s)] σ (R1 (.int (iI (bI (0 ≤ s ∧ s < 4)))) σ) := by
  refine CT.of (by decide +kernel) (Nat.le_of_ble_eq_true rfl) ?_
  change AW G _ RX9 _ _ _ 0 [(0, .int (iI s))] [] _ _
  refine A_iload_n (pc := 0) dX9_isWay_0 rfl rfl ?_
  refine A_iconst (pc := 1) dX9_isWay_1 ?_
  refine A_iconst (pc := 2) dX9_isWay_2 ?_
  refine A_callS1 (pc := 3) kX9_86 (c_X9_within (v := s) (a := 0) (b := 3) hs1 hs2 (by omega) (by omega) (by omega) (by omega)) dX9_isWay_3 rfl rfl (Nat.le_of_ble_eq_true rfl) (Nat.le_of_ble_eq_true rfl) ?_
  refine A_zret (pc := 6) rfl nar_b dX9_isWay_6 ?_
  exact R1_e (bI_congr (by omega))
theorem dX9_isPane_0 : decode cX9_isPane 0 = .ok (.iload_n 1, 1) := by decide +kernel
theorem dX9_isPane_1 : decode cX9_isPane 1 = .ok (.iconst 0, 1) := by decide +kernel
theorem dX9_isPane_2 : decode cX9_isPane 2 = .ok (.aload_n 0, 1) := by decide +kernel
theorem dX9_isPane_3 : decode cX9_isPane 3 = .ok (.getfield 83, 3) := by decide +kernel
theorem dX9_isPane_6 : decode cX9_isPane 6 = .ok (.iconst 1, 1) := by decide +kernel
theorem dX9_isPane_7 : decode cX9_isPane 7 = .ok (.isub, 1) := by decide +kernel
theorem dX9_isPane_8 : decode cX9_isPane 8 = .ok (.invokestatic 86, 3) := by decide +kernel
theorem dX9_isPane_11 : decode cX9_isPane 11 = .ok (.ireturn, 1) := by decide +kernel
set_option maxRecDepth 20000 in
theorem c_X9_isPane {G : Gl} {d : Nat} {σ : Sg} {τ : Tw} (hM : RMt τ σ) (hO : OkT τ) {p : Int} (hp1 : -2147483648 ≤ p) (hp2 : p < 2147483648) : CT G (d + 1) yX9_isPane cX9_isPane 2 (some .boolean) [.ref (gA G 54), .int (iI p)] σ (R1 (.int (iI (bI (0 ≤ p ∧ p < τ.2.1 0)))) σ) := by
  refine CT.of (by decide +kernel) (Nat.le_of_ble_eq_true rfl) ?_
  change AW G _ RX9 _ _ _ 0 [(0, .ref (gA G 54)), (1, .int (iI p))] [] _ _
  have hO2 := hO
  obtain ⟨o1, o2, o3, o4, o5, o6, o7, o8, o9⟩ := hO2
  have p0 := hM.2.1
  have p1 := hM.2.2.1
  have p2 : σ.1 63 0 = τ.2.1 2 := hM.2.2.2.1 0 (by decide)
  refine A_iload_n (pc := 0) dX9_isPane_0 rfl rfl ?_
  refine A_iconst (pc := 1) dX9_isPane_1 ?_
  refine A_aload_n (pc := 2) dX9_isPane_2 rfl rfl ?_
  refine A_getIv (pc := 3) fX9_83 rfl rfl p0 dX9_isPane_3 ?_
  refine A_iconst (pc := 6) dX9_isPane_6 ?_
  refine A_isub (pc := 7) dX9_isPane_7 ?_
  refine A_callS1 (pc := 8) kX9_86 (c_X9_within hp1 hp2 (by omega) (by omega) (by omega) (by omega)) dX9_isPane_8 rfl rfl (Nat.le_of_ble_eq_true rfl) (Nat.le_of_ble_eq_true rfl) ?_
  refine A_zret (pc := 11) rfl nar_b dX9_isPane_11 ?_
  exact R1_e (bI_congr (by omega))
theorem dX9_isWalker_0 : decode cX9_isWalker 0 = .ok (.iload_n 1, 1) := by decide +kernel
theorem dX9_isWalker_1 : decode cX9_isWalker 1 = .ok (.iconst 0, 1) := by decide +kernel
theorem dX9_isWalker_2 : decode cX9_isWalker 2 = .ok (.aload_n 0, 1) := by decide +kernel
theorem dX9_isWalker_3 : decode cX9_isWalker 3 = .ok (.getfield 90, 3) := by decide +kernel
theorem dX9_isWalker_6 : decode cX9_isWalker 6 = .ok (.iconst 1, 1) := by decide +kernel
theorem dX9_isWalker_7 : decode cX9_isWalker 7 = .ok (.isub, 1) := by decide +kernel
theorem dX9_isWalker_8 : decode cX9_isWalker 8 = .ok (.invokestatic 86, 3) := by decide +kernel
theorem dX9_isWalker_11 : decode cX9_isWalker 11 = .ok (.ireturn, 1) := by decide +kernel
set_option maxRecDepth 20000 in
theorem c_X9_isWalker {G : Gl} {d : Nat} {σ : Sg} {τ : Tw} (hM : RMt τ σ) (hO : OkT τ) {p : Int} (hp1 : -2147483648 ≤ p) (hp2 : p < 2147483648) : CT G (d + 1) yX9_isWalker cX9_isWalker 2 (some .boolean) [.ref (gA G 54), .int (iI p)] σ (R1 (.int (iI (bI (0 ≤ p ∧ p < τ.2.1 1)))) σ) := by
  refine CT.of (by decide +kernel) (Nat.le_of_ble_eq_true rfl) ?_
  change AW G _ RX9 _ _ _ 0 [(0, .ref (gA G 54)), (1, .int (iI p))] [] _ _
  have hO2 := hO
  obtain ⟨o1, o2, o3, o4, o5, o6, o7, o8, o9⟩ := hO2
  have p0 := hM.2.1
  have p1 := hM.2.2.1
  have p2 : σ.1 63 0 = τ.2.1 2 := hM.2.2.2.1 0 (by decide)
  refine A_iload_n (pc := 0) dX9_isWalker_0 rfl rfl ?_
  refine A_iconst (pc := 1) dX9_isWalker_1 ?_
  refine A_aload_n (pc := 2) dX9_isWalker_2 rfl rfl ?_
  refine A_getIv (pc := 3) fX9_90 rfl rfl p1 dX9_isWalker_3 ?_
  refine A_iconst (pc := 6) dX9_isWalker_6 ?_
  refine A_isub (pc := 7) dX9_isWalker_7 ?_
  refine A_callS1 (pc := 8) kX9_86 (c_X9_within hp1 hp2 (by omega) (by omega) (by omega) (by omega)) dX9_isWalker_8 rfl rfl (Nat.le_of_ble_eq_true rfl) (Nat.le_of_ble_eq_true rfl) ?_
  refine A_zret (pc := 11) rfl nar_b dX9_isWalker_11 ?_
  exact R1_e (bI_congr (by omega))
theorem dX9_isOpen_0 : decode cX9_isOpen 0 = .ok (.iload_n 1, 1) := by decide +kernel
theorem dX9_isOpen_1 : decode cX9_isOpen 1 = .ok (.invokestatic 93, 3) := by decide +kernel
theorem dX9_isOpen_4 : decode cX9_isOpen 4 = .ok (.ifCond .eq 16, 3) := by decide +kernel
theorem dX9_isOpen_7 : decode cX9_isOpen 7 = .ok (.aload_n 0, 1) := by decide +kernel
theorem dX9_isOpen_8 : decode cX9_isOpen 8 = .ok (.getfield 31, 3) := by decide +kernel
theorem dX9_isOpen_11 : decode cX9_isOpen 11 = .ok (.iload_n 1, 1) := by decide +kernel
theorem dX9_isOpen_12 : decode cX9_isOpen 12 = .ok (.baload, 1) := by decide +kernel
theorem dX9_isOpen_13 : decode cX9_isOpen 13 = .ok (.ifCond .ne 7, 3) := by decide +kernel
theorem dX9_isOpen_16 : decode cX9_isOpen 16 = .ok (.iconst 1, 1) := by decide +kernel
theorem dX9_isOpen_17 : decode cX9_isOpen 17 = .ok (.goto 4, 3) := by decide +kernel
theorem dX9_isOpen_20 : decode cX9_isOpen 20 = .ok (.iconst 0, 1) := by decide +kernel
theorem dX9_isOpen_21 : decode cX9_isOpen 21 = .ok (.ireturn, 1) := by decide +kernel
set_option maxRecDepth 20000 in
theorem c_X9_isOpen {G : Gl} {d : Nat} {σ : Sg} {τ : Tw} (hM : RMt τ σ) (hO : OkT τ) {s : Int} (hs1 : -2147483648 ≤ s) (hs2 : s < 2147483648) : CT G (d + 2) yX9_isOpen cX9_isOpen 2 (some .boolean) [.ref (gA G 54), .int (iI s)] σ (R1 (.int (iI (bI (inS s ∧ ¬ sT τ.1 s)))) σ) := by
  refine CT.of (by decide +kernel) (Nat.le_of_ble_eq_true rfl) ?_
  change AW G _ RX9 _ _ _ 0 [(0, .ref (gA G 54)), (1, .int (iI s))] [] _ _
  have hO2 := hO
  obtain ⟨o1, o2, o3, o4, o5, o6, o7, o8, o9⟩ := hO2
  have p0 := hM.2.1
  have p1 := hM.2.2.1
  have p2 : σ.1 63 0 = τ.2.1 2 := hM.2.2.2.1 0 (by decide)
  refine A_iload_n (pc := 0) dX9_isOpen_0 rfl rfl ?_
  refine A_callS1 (pc := 1) kX9_93 (c_X9_isSquare hs1 hs2) dX9_isOpen_1 rfl rfl (Nat.le_of_ble_eq_true rfl) (Nat.le_of_ble_eq_true rfl) ?_
  refine A_ifb_eq (pc := 4) 20 dX9_isOpen_4 (by decide) (fun h4 => ?_) (fun h4 => ?_)
  · skip
    refine A_iconst (pc := 20) dX9_isOpen_20 ?_
    refine A_zret (pc := 21) rfl rfl dX9_isOpen_21 ?_
    exact R1_f (fun q => h4 q.1)
  · skip
    obtain ⟨k, rfl⟩ := Int.eq_ofNat_of_zero_le (show 0 ≤ s by omega)
    refine A_aload_n (pc := 7) dX9_isOpen_7 rfl rfl ?_
    refine A_getR (pc := 8) fX9_31 rfl rfl dX9_isOpen_8 ?_
    refine A_iload_n (pc := 11) dX9_isOpen_11 rfl rfl ?_
    refine A_zaldv (pc := 12) _ rfl rfl (by omega) (Nat.le_of_ble_eq_true rfl) (hM.1 _ (by omega)) dX9_isOpen_12 ?_
    refine A_ifb_ne (pc := 13) 20 dX9_isOpen_13 (by decide) (fun h13 => ?_) (fun h13 => ?_)
    · skip
      refine A_iconst (pc := 20) dX9_isOpen_20 ?_
      refine A_zret (pc := 21) rfl rfl dX9_isOpen_21 ?_
      exact R1_f (fun q => q.2 ((sT_k (by omega)).mpr h13))
    · skip
      refine A_iconst (pc := 16) dX9_isOpen_16 ?_
      refine A_goto (pc := 17) 21 dX9_isOpen_17 (by decide) ?_
      refine A_zret (pc := 21) rfl rfl dX9_isOpen_21 ?_
      exact R1_t ⟨by omega, fun q => h13 ((sT_k (by omega)).mp q)⟩
theorem dX9_isHouse_0 : decode cX9_isHouse 0 = .ok (.iload_n 1, 1) := by decide +kernel
theorem dX9_isHouse_1 : decode cX9_isHouse 1 = .ok (.invokestatic 93, 3) := by decide +kernel
theorem dX9_isHouse_4 : decode cX9_isHouse 4 = .ok (.ifCond .eq 16, 3) := by decide +kernel
theorem dX9_isHouse_7 : decode cX9_isHouse 7 = .ok (.aload_n 0, 1) := by decide +kernel
theorem dX9_isHouse_8 : decode cX9_isHouse 8 = .ok (.getfield 31, 3) := by decide +kernel
theorem dX9_isHouse_11 : decode cX9_isHouse 11 = .ok (.iload_n 1, 1) := by decide +kernel
theorem dX9_isHouse_12 : decode cX9_isHouse 12 = .ok (.baload, 1) := by decide +kernel
theorem dX9_isHouse_13 : decode cX9_isHouse 13 = .ok (.ifCond .eq 7, 3) := by decide +kernel
theorem dX9_isHouse_16 : decode cX9_isHouse 16 = .ok (.iconst 1, 1) := by decide +kernel
theorem dX9_isHouse_17 : decode cX9_isHouse 17 = .ok (.goto 4, 3) := by decide +kernel
theorem dX9_isHouse_20 : decode cX9_isHouse 20 = .ok (.iconst 0, 1) := by decide +kernel
theorem dX9_isHouse_21 : decode cX9_isHouse 21 = .ok (.ireturn, 1) := by decide +kernel
set_option maxRecDepth 20000 in
theorem c_X9_isHouse {G : Gl} {d : Nat} {σ : Sg} {τ : Tw} (hM : RMt τ σ) (hO : OkT τ) {s : Int} (hs1 : -2147483648 ≤ s) (hs2 : s < 2147483648) : CT G (d + 2) yX9_isHouse cX9_isHouse 2 (some .boolean) [.ref (gA G 54), .int (iI s)] σ (R1 (.int (iI (bI (sT τ.1 s)))) σ) := by
  refine CT.of (by decide +kernel) (Nat.le_of_ble_eq_true rfl) ?_
  change AW G _ RX9 _ _ _ 0 [(0, .ref (gA G 54)), (1, .int (iI s))] [] _ _
  have hO2 := hO
  obtain ⟨o1, o2, o3, o4, o5, o6, o7, o8, o9⟩ := hO2
  have p0 := hM.2.1
  have p1 := hM.2.2.1
  have p2 : σ.1 63 0 = τ.2.1 2 := hM.2.2.2.1 0 (by decide)
  refine A_iload_n (pc := 0) dX9_isHouse_0 rfl rfl ?_
  refine A_callS1 (pc := 1) kX9_93 (c_X9_isSquare hs1 hs2) dX9_isHouse_1 rfl rfl (Nat.le_of_ble_eq_true rfl) (Nat.le_of_ble_eq_true rfl) ?_
  refine A_ifb_eq (pc := 4) 20 dX9_isHouse_4 (by decide) (fun h4 => ?_) (fun h4 => ?_)
  · skip
    refine A_iconst (pc := 20) dX9_isHouse_20 ?_
    refine A_zret (pc := 21) rfl rfl dX9_isHouse_21 ?_
    exact R1_f (fun q => h4 ⟨q.1, q.2.1⟩)
  · skip
    obtain ⟨k, rfl⟩ := Int.eq_ofNat_of_zero_le (show 0 ≤ s by omega)
    refine A_aload_n (pc := 7) dX9_isHouse_7 rfl rfl ?_
    refine A_getR (pc := 8) fX9_31 rfl rfl dX9_isHouse_8 ?_
    refine A_iload_n (pc := 11) dX9_isHouse_11 rfl rfl ?_
    refine A_zaldv (pc := 12) _ rfl rfl (by omega) (Nat.le_of_ble_eq_true rfl) (hM.1 _ (by omega)) dX9_isHouse_12 ?_
    refine A_ifb_eq (pc := 13) 20 dX9_isHouse_13 (by decide) (fun h13 => ?_) (fun h13 => ?_)
    · skip
      refine A_iconst (pc := 20) dX9_isHouse_20 ?_
      refine A_zret (pc := 21) rfl rfl dX9_isHouse_21 ?_
      exact R1_f (fun q => h13 ((sT_k (by omega)).mp q))
    · skip
      refine A_iconst (pc := 16) dX9_isHouse_16 ?_
      refine A_goto (pc := 17) 21 dX9_isHouse_17 (by decide) ?_
      refine A_zret (pc := 21) rfl rfl dX9_isHouse_21 ?_
      exact R1_t ((sT_k (by omega)).mpr h13)
theorem dX9_isStood_0 : decode cX9_isStood 0 = .ok (.iconst 0, 1) := by decide +kernel
theorem dX9_isStood_1 : decode cX9_isStood 1 = .ok (.istore_n 2, 1) := by decide +kernel
theorem dX9_isStood_2 : decode cX9_isStood 2 = .ok (.iload_n 2, 1) := by decide +kernel
theorem dX9_isStood_3 : decode cX9_isStood 3 = .ok (.aload_n 0, 1) := by decide +kernel
theorem dX9_isStood_4 : decode cX9_isStood 4 = .ok (.getfield 90, 3) := by decide +kernel
theorem dX9_isStood_7 : decode cX9_isStood 7 = .ok (.if_icmp .ge 21, 3) := by decide +kernel
theorem dX9_isStood_10 : decode cX9_isStood 10 = .ok (.aload_n 0, 1) := by decide +kernel
theorem dX9_isStood_11 : decode cX9_isStood 11 = .ok (.getfield 22, 3) := by decide +kernel
theorem dX9_isStood_14 : decode cX9_isStood 14 = .ok (.iload_n 2, 1) := by decide +kernel
theorem dX9_isStood_15 : decode cX9_isStood 15 = .ok (.iaload, 1) := by decide +kernel
theorem dX9_isStood_16 : decode cX9_isStood 16 = .ok (.iload_n 1, 1) := by decide +kernel
theorem dX9_isStood_17 : decode cX9_isStood 17 = .ok (.if_icmp .ne 5, 3) := by decide +kernel
theorem dX9_isStood_20 : decode cX9_isStood 20 = .ok (.iconst 1, 1) := by decide +kernel
theorem dX9_isStood_21 : decode cX9_isStood 21 = .ok (.ireturn, 1) := by decide +kernel
theorem dX9_isStood_22 : decode cX9_isStood 22 = .ok (.iinc 2 1, 3) := by decide +kernel
theorem dX9_isStood_25 : decode cX9_isStood 25 = .ok (.goto (-23), 3) := by decide +kernel
theorem dX9_isStood_28 : decode cX9_isStood 28 = .ok (.iconst 0, 1) := by decide +kernel
theorem dX9_isStood_29 : decode cX9_isStood 29 = .ok (.ireturn, 1) := by decide +kernel
set_option maxRecDepth 20000 in
theorem l_X9_isStood {G : Gl} {d : Nat} {σ : Sg} {K : Option Value → Sg → Prop} {τ : Tw} (hM : RMt τ σ) (hO : OkT τ) {s : Int} (hs1 : -2147483648 ≤ s) (hs2 : s < 2147483648) : ∀ (n i : Nat), (i : Int) + n = τ.2.1 1 → K (some (.int (iI (bI (anyR (fun p => decide (τ.2.2 4 p = s)) n i = true))))) σ → AW G d RX9 cX9_isStood 3 (some .boolean) 2 [(0, .ref (gA G 54)), (1, .int (iI s)), (2, .int (iI (i : Int)))] [] σ K := by
  intro n
  induction n using Nat.strongRecOn
  rename_i n ih
  intro i hn hK
  have hO2 := hO
  obtain ⟨o1, o2, o3, o4, o5, o6, o7, o8, o9⟩ := hO2
  have p0 := hM.2.1
  have p1 := hM.2.2.1
  have p2 : σ.1 63 0 = τ.2.1 2 := hM.2.2.2.1 0 (by decide)
  refine A_iload_n (pc := 2) dX9_isStood_2 rfl rfl ?_
  refine A_aload_n (pc := 3) dX9_isStood_3 rfl rfl ?_
  refine A_getIv (pc := 4) fX9_90 rfl rfl p1 dX9_isStood_4 ?_
  refine A_icmp_ge (pc := 7) 28 dX9_isStood_7 (by decide) (by omega) (by omega) (by omega) (by omega) (fun h7 => ?_) (fun h7 => ?_)
  · skip
    refine A_iconst (pc := 28) dX9_isStood_28 ?_
    refine A_zret (pc := 29) rfl rfl dX9_isStood_29 ?_
    have hn0 : n = 0 := by omega
    subst hn0
    rw [anyR, bI_f (by decide)] at hK
    exact hK
  · skip
    refine A_aload_n (pc := 10) dX9_isStood_10 rfl rfl ?_
    refine A_getR (pc := 11) fX9_22 rfl rfl dX9_isStood_11 ?_
    refine A_iload_n (pc := 14) dX9_isStood_14 rfl rfl ?_
    refine A_ialdv (pc := 15) _ rfl rfl (by omega) (Nat.le_of_ble_eq_true rfl) (hM.wat (by omega)) dX9_isStood_15 ?_
    refine A_iload_n (pc := 16) dX9_isStood_16 rfl rfl ?_
    refine A_icmp_ne (pc := 17) 22 dX9_isStood_17 (by decide) (by have := o9 i (by omega); omega) (by have := o9 i (by omega); omega) hs1 hs2 (fun h17 => ?_) (fun h17 => ?_)
    · skip
      refine A_iinc (pc := 22) dX9_isStood_22 rfl (Nat.le_of_ble_eq_true rfl) ?_
      refine A_goto (pc := 25) 2 dX9_isStood_25 (by decide) ?_
      obtain ⟨m, rfl⟩ : ∃ m, n = m + 1 := ⟨n - 1, by omega⟩
      refine A_loc (l2 := [(0, _), (1, _), (2, _)]) ⟨rfl, rfl, rfl, trivial⟩ ?_
      refine ih m (by omega) (i + 1) (by omega) ?_
      rw [anyR, decide_eq_false h17, Bool.false_or] at hK
      exact hK
    · skip
      refine A_iconst (pc := 20) dX9_isStood_20 ?_
      refine A_zret (pc := 21) rfl rfl dX9_isStood_21 ?_
      obtain ⟨m, rfl⟩ : ∃ m, n = m + 1 := ⟨n - 1, by omega⟩
      rw [anyR, decide_eq_true h17, Bool.true_or, bI_t rfl] at hK
      exact hK
set_option maxRecDepth 20000 in
theorem c_X9_isStood {G : Gl} {d : Nat} {σ : Sg} {τ : Tw} (hM : RMt τ σ) (hO : OkT τ) {s : Int} (hs1 : -2147483648 ≤ s) (hs2 : s < 2147483648) : CT G d yX9_isStood cX9_isStood 3 (some .boolean) [.ref (gA G 54), .int (iI s)] σ (R1 (.int (iI (bI (wAt τ s = true)))) σ) := by
  refine CT.of (by decide +kernel) (Nat.le_of_ble_eq_true rfl) ?_
  change AW G _ RX9 _ _ _ 0 [(0, .ref (gA G 54)), (1, .int (iI s))] [] _ _
  have hO2 := hO
  obtain ⟨o1, o2, o3, o4, o5, o6, o7, o8, o9⟩ := hO2
  have p0 := hM.2.1
  have p1 := hM.2.2.1
  have p2 : σ.1 63 0 = τ.2.1 2 := hM.2.2.2.1 0 (by decide)
  refine A_iconst (pc := 0) dX9_isStood_0 ?_
  refine A_istore_n (pc := 1) dX9_isStood_1 rfl (Nat.le_of_ble_eq_true rfl) ?_
  refine A_loc (l2 := [(0, _), (1, _), (2, _)]) ⟨rfl, rfl, rfl, trivial⟩ ?_
  exact l_X9_isStood hM hO hs1 hs2 (τ.2.1 1).toNat 0 (by omega) ⟨rfl, rfl⟩
theorem dX9_isPaned_0 : decode cX9_isPaned 0 = .ok (.iconst 0, 1) := by decide +kernel
theorem dX9_isPaned_1 : decode cX9_isPaned 1 = .ok (.istore_n 2, 1) := by decide +kernel
theorem dX9_isPaned_2 : decode cX9_isPaned 2 = .ok (.iload_n 2, 1) := by decide +kernel
theorem dX9_isPaned_3 : decode cX9_isPaned 3 = .ok (.aload_n 0, 1) := by decide +kernel
theorem dX9_isPaned_4 : decode cX9_isPaned 4 = .ok (.getfield 83, 3) := by decide +kernel
theorem dX9_isPaned_7 : decode cX9_isPaned 7 = .ok (.if_icmp .ge 21, 3) := by decide +kernel
theorem dX9_isPaned_10 : decode cX9_isPaned 10 = .ok (.aload_n 0, 1) := by decide +kernel
theorem dX9_isPaned_11 : decode cX9_isPaned 11 = .ok (.getfield 16, 3) := by decide +kernel
theorem dX9_isPaned_14 : decode cX9_isPaned 14 = .ok (.iload_n 2, 1) := by decide +kernel
theorem dX9_isPaned_15 : decode cX9_isPaned 15 = .ok (.iaload, 1) := by decide +kernel
theorem dX9_isPaned_16 : decode cX9_isPaned 16 = .ok (.iload_n 1, 1) := by decide +kernel
theorem dX9_isPaned_17 : decode cX9_isPaned 17 = .ok (.if_icmp .ne 5, 3) := by decide +kernel
theorem dX9_isPaned_20 : decode cX9_isPaned 20 = .ok (.iconst 1, 1) := by decide +kernel
theorem dX9_isPaned_21 : decode cX9_isPaned 21 = .ok (.ireturn, 1) := by decide +kernel
theorem dX9_isPaned_22 : decode cX9_isPaned 22 = .ok (.iinc 2 1, 3) := by decide +kernel
theorem dX9_isPaned_25 : decode cX9_isPaned 25 = .ok (.goto (-23), 3) := by decide +kernel
theorem dX9_isPaned_28 : decode cX9_isPaned 28 = .ok (.iconst 0, 1) := by decide +kernel
theorem dX9_isPaned_29 : decode cX9_isPaned 29 = .ok (.ireturn, 1) := by decide +kernel
set_option maxRecDepth 20000 in
theorem l_X9_isPaned {G : Gl} {d : Nat} {σ : Sg} {K : Option Value → Sg → Prop} {τ : Tw} (hM : RMt τ σ) (hO : OkT τ) {s : Int} (hs1 : -2147483648 ≤ s) (hs2 : s < 2147483648) : ∀ (n i : Nat), (i : Int) + n = τ.2.1 0 → K (some (.int (iI (bI (anyR (fun p => decide (τ.2.2 2 p = s)) n i = true))))) σ → AW G d RX9 cX9_isPaned 3 (some .boolean) 2 [(0, .ref (gA G 54)), (1, .int (iI s)), (2, .int (iI (i : Int)))] [] σ K := by
  intro n
  induction n using Nat.strongRecOn
  rename_i n ih
  intro i hn hK
  have hO2 := hO
  obtain ⟨o1, o2, o3, o4, o5, o6, o7, o8, o9⟩ := hO2
  have p0 := hM.2.1
  have p1 := hM.2.2.1
  have p2 : σ.1 63 0 = τ.2.1 2 := hM.2.2.2.1 0 (by decide)
  refine A_iload_n (pc := 2) dX9_isPaned_2 rfl rfl ?_
  refine A_aload_n (pc := 3) dX9_isPaned_3 rfl rfl ?_
  refine A_getIv (pc := 4) fX9_83 rfl rfl p0 dX9_isPaned_4 ?_
  refine A_icmp_ge (pc := 7) 28 dX9_isPaned_7 (by decide) (by omega) (by omega) (by omega) (by omega) (fun h7 => ?_) (fun h7 => ?_)
  · skip
    refine A_iconst (pc := 28) dX9_isPaned_28 ?_
    refine A_zret (pc := 29) rfl rfl dX9_isPaned_29 ?_
    have hn0 : n = 0 := by omega
    subst hn0
    rw [anyR, bI_f (by decide)] at hK
    exact hK
  · skip
    refine A_aload_n (pc := 10) dX9_isPaned_10 rfl rfl ?_
    refine A_getR (pc := 11) fX9_16 rfl rfl dX9_isPaned_11 ?_
    refine A_iload_n (pc := 14) dX9_isPaned_14 rfl rfl ?_
    refine A_ialdv (pc := 15) _ rfl rfl (by omega) (Nat.le_of_ble_eq_true rfl) (hM.at (by omega)) dX9_isPaned_15 ?_
    refine A_iload_n (pc := 16) dX9_isPaned_16 rfl rfl ?_
    refine A_icmp_ne (pc := 17) 22 dX9_isPaned_17 (by decide) (by have := o8 i (by omega); omega) (by have := o8 i (by omega); omega) hs1 hs2 (fun h17 => ?_) (fun h17 => ?_)
    · skip
      refine A_iinc (pc := 22) dX9_isPaned_22 rfl (Nat.le_of_ble_eq_true rfl) ?_
      refine A_goto (pc := 25) 2 dX9_isPaned_25 (by decide) ?_
      obtain ⟨m, rfl⟩ : ∃ m, n = m + 1 := ⟨n - 1, by omega⟩
      refine A_loc (l2 := [(0, _), (1, _), (2, _)]) ⟨rfl, rfl, rfl, trivial⟩ ?_
      refine ih m (by omega) (i + 1) (by omega) ?_
      rw [anyR, decide_eq_false h17, Bool.false_or] at hK
      exact hK
    · skip
      refine A_iconst (pc := 20) dX9_isPaned_20 ?_
      refine A_zret (pc := 21) rfl rfl dX9_isPaned_21 ?_
      obtain ⟨m, rfl⟩ : ∃ m, n = m + 1 := ⟨n - 1, by omega⟩
      rw [anyR, decide_eq_true h17, Bool.true_or, bI_t rfl] at hK
      exact hK
set_option maxRecDepth 20000 in
theorem c_X9_isPaned {G : Gl} {d : Nat} {σ : Sg} {τ : Tw} (hM : RMt τ σ) (hO : OkT τ) {s : Int} (hs1 : -2147483648 ≤ s) (hs2 : s < 2147483648) : CT G d yX9_isPaned cX9_isPaned 3 (some .boolean) [.ref (gA G 54), .int (iI s)] σ (R1 (.int (iI (bI (pAt τ s = true)))) σ) := by
  refine CT.of (by decide +kernel) (Nat.le_of_ble_eq_true rfl) ?_
  change AW G _ RX9 _ _ _ 0 [(0, .ref (gA G 54)), (1, .int (iI s))] [] _ _
  have hO2 := hO
  obtain ⟨o1, o2, o3, o4, o5, o6, o7, o8, o9⟩ := hO2
  have p0 := hM.2.1
  have p1 := hM.2.2.1
  have p2 : σ.1 63 0 = τ.2.1 2 := hM.2.2.2.1 0 (by decide)
  refine A_iconst (pc := 0) dX9_isPaned_0 ?_
  refine A_istore_n (pc := 1) dX9_isPaned_1 rfl (Nat.le_of_ble_eq_true rfl) ?_
  refine A_loc (l2 := [(0, _), (1, _), (2, _)]) ⟨rfl, rfl, rfl, trivial⟩ ?_
  exact l_X9_isPaned hM hO hs1 hs2 (τ.2.1 0).toNat 0 (by omega) ⟨rfl, rfl⟩
theorem dX9_next_0 : decode cX9_next 0 = .ok (.iload_n 1, 1) := by decide +kernel
theorem dX9_next_1 : decode cX9_next 1 = .ok (.tableswitch 64 0 2 #[27, 32, 47], 27) := by decide +kernel
theorem dX9_next_28 : decode cX9_next 28 = .ok (.iload_n 0, 1) := by decide +kernel
theorem dX9_next_29 : decode cX9_next 29 = .ok (.bipush 7, 2) := by decide +kernel
theorem dX9_next_31 : decode cX9_next 31 = .ok (.isub, 1) := by decide +kernel
theorem dX9_next_32 : decode cX9_next 32 = .ok (.ireturn, 1) := by decide +kernel
theorem dX9_next_33 : decode cX9_next 33 = .ok (.iload_n 0, 1) := by decide +kernel
theorem dX9_next_34 : decode cX9_next 34 = .ok (.bipush 7, 2) := by decide +kernel
theorem dX9_next_36 : decode cX9_next 36 = .ok (.irem, 1) := by decide +kernel
theorem dX9_next_37 : decode cX9_next 37 = .ok (.ifCond .ne 7, 3) := by decide +kernel
theorem dX9_next_40 : decode cX9_next 40 = .ok (.iconst (-1), 1) := by decide +kernel
theorem dX9_next_41 : decode cX9_next 41 = .ok (.goto 6, 3) := by decide +kernel
theorem dX9_next_44 : decode cX9_next 44 = .ok (.iload_n 0, 1) := by decide +kernel
theorem dX9_next_45 : decode cX9_next 45 = .ok (.iconst 1, 1) := by decide +kernel
theorem dX9_next_46 : decode cX9_next 46 = .ok (.isub, 1) := by decide +kernel
theorem dX9_next_47 : decode cX9_next 47 = .ok (.ireturn, 1) := by decide +kernel
theorem dX9_next_48 : decode cX9_next 48 = .ok (.iload_n 0, 1) := by decide +kernel
theorem dX9_next_49 : decode cX9_next 49 = .ok (.bipush 7, 2) := by decide +kernel
theorem dX9_next_51 : decode cX9_next 51 = .ok (.irem, 1) := by decide +kernel
theorem dX9_next_52 : decode cX9_next 52 = .ok (.bipush 6, 2) := by decide +kernel
theorem dX9_next_54 : decode cX9_next 54 = .ok (.if_icmp .ne 7, 3) := by decide +kernel
theorem dX9_next_57 : decode cX9_next 57 = .ok (.iconst (-1), 1) := by decide +kernel
theorem dX9_next_58 : decode cX9_next 58 = .ok (.goto 6, 3) := by decide +kernel
theorem dX9_next_61 : decode cX9_next 61 = .ok (.iload_n 0, 1) := by decide +kernel
theorem dX9_next_62 : decode cX9_next 62 = .ok (.iconst 1, 1) := by decide +kernel
theorem dX9_next_63 : decode cX9_next 63 = .ok (.iadd, 1) := by decide +kernel
theorem dX9_next_64 : decode cX9_next 64 = .ok (.ireturn, 1) := by decide +kernel
theorem dX9_next_65 : decode cX9_next 65 = .ok (.iload_n 0, 1) := by decide +kernel
theorem dX9_next_66 : decode cX9_next 66 = .ok (.bipush 7, 2) := by decide +kernel
theorem dX9_next_68 : decode cX9_next 68 = .ok (.iadd, 1) := by decide +kernel
theorem dX9_next_69 : decode cX9_next 69 = .ok (.bipush 49, 2) := by decide +kernel
theorem dX9_next_71 : decode cX9_next 71 = .ok (.if_icmp .ge 10, 3) := by decide +kernel
theorem dX9_next_74 : decode cX9_next 74 = .ok (.iload_n 0, 1) := by decide +kernel
theorem dX9_next_75 : decode cX9_next 75 = .ok (.bipush 7, 2) := by decide +kernel
theorem dX9_next_77 : decode cX9_next 77 = .ok (.iadd, 1) := by decide +kernel
theorem dX9_next_78 : decode cX9_next 78 = .ok (.goto 4, 3) := by decide +kernel
theorem dX9_next_81 : decode cX9_next 81 = .ok (.iconst (-1), 1) := by decide +kernel
theorem dX9_next_82 : decode cX9_next 82 = .ok (.ireturn, 1) := by decide +kernel
set_option maxRecDepth 20000 in
theorem c_X9_next {G : Gl} {d : Nat} {σ : Sg} {c w : Int} (c1 : 0 ≤ c) (c2 : c ≤ 48) (w1 : 0 ≤ w) (w2 : w ≤ 3) : CT G d yX9_next cX9_next 2 (some .int) [.int (iI c), .int (iI w)] σ (R1 (.int (iI (nx c w))) σ) := by
  refine CT.of (by decide +kernel) (Nat.le_of_ble_eq_true rfl) ?_
  change AW G _ RX9 _ _ _ 0 [(0, .int (iI c)), (1, .int (iI w))] [] _ _
  refine A_iload_n (pc := 0) dX9_next_0 rfl rfl ?_
  refine A_tsw (pc := 1) [(0, 28), (1, 33), (2, 48)] 65 dX9_next_1 (by decide) (by decide) (by decide) (by omega) (by omega) ?_
  refine ⟨fun h1 => ?_, fun h1n0 => ?_⟩
  · skip
    refine A_iload_n (pc := 28) dX9_next_28 rfl rfl ?_
    refine A_bipush (pc := 29) dX9_next_29 (by decide) ?_
    refine A_isub (pc := 31) dX9_next_31 ?_
    refine A_iret (pc := 32) rfl dX9_next_32 ?_
    exact R1_e (by unfold nx; (repeat' split) <;> omega)
  refine ⟨fun h1 => ?_, fun h1n1 => ?_⟩
  · skip
    refine A_iload_n (pc := 33) dX9_next_33 rfl rfl ?_
    refine A_bipush (pc := 34) dX9_next_34 (by decide) ?_
    refine A_irem (pc := 36) dX9_next_36 (by omega) (by omega) (by omega) (by omega) ?_
    refine A_if_ne (pc := 37) 44 dX9_next_37 (by decide) (by omega) (by omega) (fun h37 => ?_) (fun h37 => ?_)
    · skip
      refine A_iload_n (pc := 44) dX9_next_44 rfl rfl ?_
      refine A_iconst (pc := 45) dX9_next_45 ?_
      refine A_isub (pc := 46) dX9_next_46 ?_
      refine A_iret (pc := 47) rfl dX9_next_47 ?_
      exact R1_e (by unfold nx; (repeat' split) <;> omega)
    · skip
      refine A_iconst (pc := 40) dX9_next_40 ?_
      refine A_goto (pc := 41) 47 dX9_next_41 (by decide) ?_
      refine A_iret (pc := 47) rfl dX9_next_47 ?_
      exact R1_e (by unfold nx; (repeat' split) <;> omega)
  refine ⟨fun h1 => ?_, fun h1n2 => ?_⟩
  · skip
    refine A_iload_n (pc := 48) dX9_next_48 rfl rfl ?_
    refine A_bipush (pc := 49) dX9_next_49 (by decide) ?_
    refine A_irem (pc := 51) dX9_next_51 (by omega) (by omega) (by omega) (by omega) ?_
    refine A_bipush (pc := 52) dX9_next_52 (by decide) ?_
    refine A_icmp_ne (pc := 54) 61 dX9_next_54 (by decide) (by omega) (by omega) (by omega) (by omega) (fun h54 => ?_) (fun h54 => ?_)
    · skip
      refine A_iload_n (pc := 61) dX9_next_61 rfl rfl ?_
      refine A_iconst (pc := 62) dX9_next_62 ?_
      refine A_iadd (pc := 63) dX9_next_63 ?_
      refine A_iret (pc := 64) rfl dX9_next_64 ?_
      exact R1_e (by unfold nx; (repeat' split) <;> omega)
    · skip
      refine A_iconst (pc := 57) dX9_next_57 ?_
      refine A_goto (pc := 58) 64 dX9_next_58 (by decide) ?_
      refine A_iret (pc := 64) rfl dX9_next_64 ?_
      exact R1_e (by unfold nx; (repeat' split) <;> omega)
  change AW G _ _ _ _ _ 65 _ _ _ _
  refine A_iload_n (pc := 65) dX9_next_65 rfl rfl ?_
  refine A_bipush (pc := 66) dX9_next_66 (by decide) ?_
  refine A_iadd (pc := 68) dX9_next_68 ?_
  refine A_bipush (pc := 69) dX9_next_69 (by decide) ?_
  refine A_icmp_ge (pc := 71) 81 dX9_next_71 (by decide) (by omega) (by omega) (by omega) (by omega) (fun h71 => ?_) (fun h71 => ?_)
  · skip
    refine A_iconst (pc := 81) dX9_next_81 ?_
    refine A_iret (pc := 82) rfl dX9_next_82 ?_
    exact R1_e (by unfold nx; (repeat' split) <;> omega)
  · skip
    refine A_iload_n (pc := 74) dX9_next_74 rfl rfl ?_
    refine A_bipush (pc := 75) dX9_next_75 (by decide) ?_
    refine A_iadd (pc := 77) dX9_next_77 ?_
    refine A_goto (pc := 78) 82 dX9_next_78 (by decide) ?_
    refine A_iret (pc := 82) rfl dX9_next_82 ?_
    exact R1_e (by unfold nx; (repeat' split) <;> omega)
theorem dX9_bit_0 : decode cX9_bit 0 = .ok (.aload_n 0, 1) := by decide +kernel
theorem dX9_bit_1 : decode cX9_bit 1 = .ok (.iload_n 1, 1) := by decide +kernel
theorem dX9_bit_2 : decode cX9_bit 2 = .ok (.invokevirtual 143, 3) := by decide +kernel
theorem dX9_bit_5 : decode cX9_bit 5 = .ok (.ifCond .eq 9, 3) := by decide +kernel
theorem dX9_bit_8 : decode cX9_bit 8 = .ok (.lconst 1, 1) := by decide +kernel
theorem dX9_bit_9 : decode cX9_bit 9 = .ok (.iload_n 1, 1) := by decide +kernel
theorem dX9_bit_10 : decode cX9_bit 10 = .ok (.lshl, 1) := by decide +kernel
theorem dX9_bit_11 : decode cX9_bit 11 = .ok (.goto 4, 3) := by decide +kernel
theorem dX9_bit_14 : decode cX9_bit 14 = .ok (.lconst 0, 1) := by decide +kernel
theorem dX9_bit_15 : decode cX9_bit 15 = .ok (.lreturn, 1) := by decide +kernel
set_option maxRecDepth 20000 in
theorem c_X9_bit {G : Gl} {d : Nat} {σ : Sg} {τ : Tw} (hM : RMt τ σ) (hO : OkT τ) {s : Int} (hs1 : -2147483648 ≤ s) (hs2 : s < 2147483648) : CT G (d + 3) yX9_bit cX9_bit 2 (some .long) [.ref (gA G 54), .int (iI s)] σ (R1 (.long (lN (opB τ.1 s))) σ) := by
  refine CT.of (by decide +kernel) (Nat.le_of_ble_eq_true rfl) ?_
  change AW G _ RX9 _ _ _ 0 [(0, .ref (gA G 54)), (1, .int (iI s))] [] _ _
  have hO2 := hO
  obtain ⟨o1, o2, o3, o4, o5, o6, o7, o8, o9⟩ := hO2
  have p0 := hM.2.1
  have p1 := hM.2.2.1
  have p2 : σ.1 63 0 = τ.2.1 2 := hM.2.2.2.1 0 (by decide)
  refine A_aload_n (pc := 0) dX9_bit_0 rfl rfl ?_
  refine A_iload_n (pc := 1) dX9_bit_1 rfl rfl ?_
  refine A_callV1 (pc := 2) kX9_143 rfl rfl (c_X9_isOpen hM hO hs1 hs2) dX9_bit_2 rfl rfl (Nat.le_of_ble_eq_true rfl) (Nat.le_of_ble_eq_true rfl) ?_
  refine A_ifb_eq (pc := 5) 14 dX9_bit_5 (by decide) (fun h5 => ?_) (fun h5 => ?_)
  · skip
    refine A_lconst (pc := 14) 0 dX9_bit_14 rfl ?_
    refine A_lret (pc := 15) rfl dX9_bit_15 ?_
    exact ⟨by rw [opB, if_neg h5]; rfl, rfl⟩
  · skip
    obtain ⟨k, rfl⟩ := Int.eq_ofNat_of_zero_le (show 0 ≤ s by omega)
    refine A_lconst (pc := 8) 1 dX9_bit_8 rfl ?_
    refine A_iload_n (pc := 9) dX9_bit_9 rfl rfl ?_
    refine A_lshl (pc := 10) (lN (2 ^ k)) dX9_bit_10 (shl_L (by omega)) ?_
    refine A_goto (pc := 11) 15 dX9_bit_11 (by decide) ?_
    refine A_lret (pc := 15) rfl dX9_bit_15 ?_
    exact ⟨by rw [opB, if_pos h5]; rfl, rfl⟩
theorem opB_nm (h : Nat) (c : Int) : opB h (nm c) = opB h c := by
  unfold opB
  by_cases q : inS c ∧ ¬ sT h c
  · rw [if_pos q, if_pos ⟨(inS_nm c).mpr q.1, fun z => q.2 ((sT_nm h c).mp z)⟩, nm_pos q.1.1]
  · rw [if_neg q, if_neg (fun z => q ⟨(inS_nm c).mp z.1, fun y => z.2 ((sT_nm h c).mpr y)⟩)]
theorem lineM_nm {h : Nat} {w : Int} {b : Bool} {n : Nat} {i c : Int} (h1 : c < 0) : lineM h w b n i (nm c) = 0 := by
  rw [nm_neg h1]
  cases n with
  | zero => rfl
  | succ n => rw [lineM, if_pos (Or.inl (by decide))]
theorem dX9_line_0 : decode cX9_line 0 = .ok (.lconst 0, 1) := by decide +kernel
theorem dX9_line_1 : decode cX9_line 1 = .ok (.lstore 5, 2) := by decide +kernel
theorem dX9_line_3 : decode cX9_line 3 = .ok (.iload_n 1, 1) := by decide +kernel
theorem dX9_line_4 : decode cX9_line 4 = .ok (.iload_n 2, 1) := by decide +kernel
theorem dX9_line_5 : decode cX9_line 5 = .ok (.invokestatic 223, 3) := by decide +kernel
theorem dX9_line_8 : decode cX9_line 8 = .ok (.istore 7, 2) := by decide +kernel
theorem dX9_line_10 : decode cX9_line 10 = .ok (.iconst 0, 1) := by decide +kernel
theorem dX9_line_11 : decode cX9_line 11 = .ok (.istore 8, 2) := by decide +kernel
theorem dX9_line_13 : decode cX9_line 13 = .ok (.iload 8, 2) := by decide +kernel
theorem dX9_line_15 : decode cX9_line 15 = .ok (.iload_n 3, 1) := by decide +kernel
theorem dX9_line_16 : decode cX9_line 16 = .ok (.if_icmp .ge 113, 3) := by decide +kernel
theorem dX9_line_19 : decode cX9_line 19 = .ok (.iload 7, 2) := by decide +kernel
theorem dX9_line_21 : decode cX9_line 21 = .ok (.ifCond .lt 108, 3) := by decide +kernel
theorem dX9_line_24 : decode cX9_line 24 = .ok (.aload_n 0, 1) := by decide +kernel
theorem dX9_line_25 : decode cX9_line 25 = .ok (.getfield 31, 3) := by decide +kernel
theorem dX9_line_28 : decode cX9_line 28 = .ok (.iload 7, 2) := by decide +kernel
theorem dX9_line_30 : decode cX9_line 30 = .ok (.baload, 1) := by decide +kernel
theorem dX9_line_31 : decode cX9_line 31 = .ok (.ifCond .ne 98, 3) := by decide +kernel
theorem dX9_line_34 : decode cX9_line 34 = .ok (.lload 5, 2) := by decide +kernel
theorem dX9_line_36 : decode cX9_line 36 = .ok (.lconst 1, 1) := by decide +kernel
theorem dX9_line_37 : decode cX9_line 37 = .ok (.iload 7, 2) := by decide +kernel
theorem dX9_line_39 : decode cX9_line 39 = .ok (.lshl, 1) := by decide +kernel
theorem dX9_line_40 : decode cX9_line 40 = .ok (.lor, 1) := by decide +kernel
theorem dX9_line_41 : decode cX9_line 41 = .ok (.lstore 5, 2) := by decide +kernel
theorem dX9_line_43 : decode cX9_line 43 = .ok (.iload_n 2, 1) := by decide +kernel
theorem dX9_line_44 : decode cX9_line 44 = .ok (.iconst 1, 1) := by decide +kernel
theorem dX9_line_45 : decode cX9_line 45 = .ok (.if_icmp .eq 8, 3) := by decide +kernel
theorem dX9_line_48 : decode cX9_line 48 = .ok (.iload_n 2, 1) := by decide +kernel
theorem dX9_line_49 : decode cX9_line 49 = .ok (.iconst 2, 1) := by decide +kernel
theorem dX9_line_50 : decode cX9_line 50 = .ok (.if_icmp .ne 7, 3) := by decide +kernel
theorem dX9_line_53 : decode cX9_line 53 = .ok (.iconst 1, 1) := by decide +kernel
theorem dX9_line_54 : decode cX9_line 54 = .ok (.goto 4, 3) := by decide +kernel
theorem dX9_line_57 : decode cX9_line 57 = .ok (.iconst 0, 1) := by decide +kernel
theorem dX9_line_58 : decode cX9_line 58 = .ok (.istore 9, 2) := by decide +kernel
theorem dX9_line_60 : decode cX9_line 60 = .ok (.iload 4, 2) := by decide +kernel
theorem dX9_line_62 : decode cX9_line 62 = .ok (.ifCond .eq 53, 3) := by decide +kernel
theorem dX9_line_65 : decode cX9_line 65 = .ok (.iload 8, 2) := by decide +kernel
theorem dX9_line_67 : decode cX9_line 67 = .ok (.iconst 2, 1) := by decide +kernel
theorem dX9_line_68 : decode cX9_line 68 = .ok (.if_icmp .ge 47, 3) := by decide +kernel
theorem dX9_line_71 : decode cX9_line 71 = .ok (.lload 5, 2) := by decide +kernel
theorem dX9_line_73 : decode cX9_line 73 = .ok (.aload_n 0, 1) := by decide +kernel
theorem dX9_line_74 : decode cX9_line 74 = .ok (.iload 7, 2) := by decide +kernel
theorem dX9_line_76 : decode cX9_line 76 = .ok (.iload 9, 2) := by decide +kernel
theorem dX9_line_78 : decode cX9_line 78 = .ok (.ifCond .eq 7, 3) := by decide +kernel
theorem dX9_line_81 : decode cX9_line 81 = .ok (.iconst 0, 1) := by decide +kernel
theorem dX9_line_82 : decode cX9_line 82 = .ok (.goto 4, 3) := by decide +kernel
theorem dX9_line_85 : decode cX9_line 85 = .ok (.iconst 1, 1) := by decide +kernel
theorem dX9_line_86 : decode cX9_line 86 = .ok (.invokestatic 223, 3) := by decide +kernel
theorem dX9_line_89 : decode cX9_line 89 = .ok (.invokevirtual 226, 3) := by decide +kernel
theorem dX9_line_92 : decode cX9_line 92 = .ok (.aload_n 0, 1) := by decide +kernel
theorem dX9_line_93 : decode cX9_line 93 = .ok (.iload 7, 2) := by decide +kernel
theorem dX9_line_95 : decode cX9_line 95 = .ok (.iload 9, 2) := by decide +kernel
theorem dX9_line_97 : decode cX9_line 97 = .ok (.ifCond .eq 7, 3) := by decide +kernel
theorem dX9_line_100 : decode cX9_line 100 = .ok (.iconst 3, 1) := by decide +kernel
theorem dX9_line_101 : decode cX9_line 101 = .ok (.goto 4, 3) := by decide +kernel
theorem dX9_line_104 : decode cX9_line 104 = .ok (.iconst 2, 1) := by decide +kernel
theorem dX9_line_105 : decode cX9_line 105 = .ok (.invokestatic 223, 3) := by decide +kernel
theorem dX9_line_108 : decode cX9_line 108 = .ok (.invokevirtual 226, 3) := by decide +kernel
theorem dX9_line_111 : decode cX9_line 111 = .ok (.lor, 1) := by decide +kernel
theorem dX9_line_112 : decode cX9_line 112 = .ok (.lor, 1) := by decide +kernel
theorem dX9_line_113 : decode cX9_line 113 = .ok (.lstore 5, 2) := by decide +kernel
theorem dX9_line_115 : decode cX9_line 115 = .ok (.iload 7, 2) := by decide +kernel
theorem dX9_line_117 : decode cX9_line 117 = .ok (.iload_n 2, 1) := by decide +kernel
theorem dX9_line_118 : decode cX9_line 118 = .ok (.invokestatic 223, 3) := by decide +kernel
theorem dX9_line_121 : decode cX9_line 121 = .ok (.istore 7, 2) := by decide +kernel
theorem dX9_line_123 : decode cX9_line 123 = .ok (.iinc 8 1, 3) := by decide +kernel
theorem dX9_line_126 : decode cX9_line 126 = .ok (.goto (-113), 3) := by decide +kernel
theorem dX9_line_129 : decode cX9_line 129 = .ok (.lload 5, 2) := by decide +kernel
theorem dX9_line_131 : decode cX9_line 131 = .ok (.lreturn, 1) := by decide +kernel
set_option maxRecDepth 20000 in
theorem m_X9_line {G : Gl} {d : Nat} {σ : Sg} {K : Option Value → Sg → Prop} {τ : Tw} (hM : RMt τ σ) (hO : OkT τ) {w r : Int} {b : Bool} {i c x : Int} {acc : Nat} (hx : x = bI (w = 1 ∨ w = 2)) (ha : acc < 2 ^ 49) (i1 : 0 ≤ i) (i2 : i < 2147483648) (c1 : 0 ≤ c) (c2 : c ≤ 48) (hK : AW G (d + 4) RX9 cX9_line 10 (some .long) 115 [(0, .ref (gA G 54)), (2, .int (iI w)), (3, .int (iI r)), (4, .int (iI (bI (b = true)))), (5, .long (lN (acc ||| bayB τ.1 w b i c))), (7, .int (iI c)), (8, .int (iI i))] [] σ K) : AW G (d + 4) RX9 cX9_line 10 (some .long) 60 [(0, .ref (gA G 54)), (2, .int (iI w)), (3, .int (iI r)), (4, .int (iI (bI (b = true)))), (5, .long (lN acc)), (7, .int (iI c)), (8, .int (iI i)), (9, .int (iI x))] [] σ K := by
  subst hx
  have r0 := nx_rng (w := 0) c1 c2
  have r1 := nx_rng (w := 1) c1 c2
  have r3 := nx_rng (w := 3) c1 c2
  have r2 := nx_rng (w := 2) c1 c2
  have hO2 := hO
  obtain ⟨o1, o2, o3, o4, o5, o6, o7, o8, o9⟩ := hO2
  have p0 := hM.2.1
  have p1 := hM.2.2.1
  have p2 : σ.1 63 0 = τ.2.1 2 := hM.2.2.2.1 0 (by decide)
  refine A_iload (pc := 60) dX9_line_60 rfl ?_
  refine A_ifb_eq (pc := 62) 115 dX9_line_62 (by decide) (fun h62 => ?_) (fun h62 => ?_)
  · skip
    refine A_loc (l2 := [(0, _), (2, _), (3, _), (4, _), (5, _), (7, _), (8, _)]) ⟨rfl, rfl, rfl, rfl, rfl, rfl, rfl, trivial⟩ ?_
    have e : acc ||| bayB τ.1 w b i c = acc := by rw [bayB, if_neg (fun q => h62 q.1), Nat.or_zero]
    rw [e] at hK
    exact hK
  · skip
    refine A_iload (pc := 65) dX9_line_65 rfl ?_
    refine A_iconst (pc := 67) dX9_line_67 ?_
    refine A_icmp_ge (pc := 68) 115 dX9_line_68 (by decide) (by omega) (by omega) (by omega) (by omega) (fun h68 => ?_) (fun h68 => ?_)
    · skip
      refine A_loc (l2 := [(0, _), (2, _), (3, _), (4, _), (5, _), (7, _), (8, _)]) ⟨rfl, rfl, rfl, rfl, rfl, rfl, rfl, trivial⟩ ?_
      have e : acc ||| bayB τ.1 w b i c = acc := by rw [bayB, if_neg (fun q => by omega), Nat.or_zero]
      rw [e] at hK
      exact hK
    · skip
      refine A_lload (pc := 71) dX9_line_71 rfl ?_
      refine A_aload_n (pc := 73) dX9_line_73 rfl rfl ?_
      refine A_iload (pc := 74) dX9_line_74 rfl ?_
      refine A_iload (pc := 76) dX9_line_76 rfl ?_
      refine A_ifb_eq (pc := 78) 85 dX9_line_78 (by decide) (fun h78 => ?_) (fun h78 => ?_)
      · skip
        refine A_iconst (pc := 85) dX9_line_85 ?_
        refine A_callS1 (pc := 86) kX9_223 (c_X9_next (w := 1) c1 c2 (by omega) (by omega)) dX9_line_86 rfl rfl (Nat.le_of_ble_eq_true rfl) (Nat.le_of_ble_eq_true rfl) ?_
        refine A_callV1 (pc := 89) kX9_226 rfl rfl (c_X9_bit hM hO (s := nx c 1) (by omega) (by omega)) dX9_line_89 rfl rfl (Nat.le_of_ble_eq_true rfl) (Nat.le_of_ble_eq_true rfl) ?_
        rw [← opB_nm τ.1 (nx c 1), nm_nx c1 c2 (by omega) (by omega)]
        refine A_aload_n (pc := 92) dX9_line_92 rfl rfl ?_
        refine A_iload (pc := 93) dX9_line_93 rfl ?_
        refine A_iload (pc := 95) dX9_line_95 rfl ?_
        refine A_ifb_eq (pc := 97) 104 dX9_line_97 (by decide) (fun h97 => ?_) (fun h97 => ?_)
        · skip
          refine A_iconst (pc := 104) dX9_line_104 ?_
          refine A_callS1 (pc := 105) kX9_223 (c_X9_next (w := 2) c1 c2 (by omega) (by omega)) dX9_line_105 rfl rfl (Nat.le_of_ble_eq_true rfl) (Nat.le_of_ble_eq_true rfl) ?_
          refine A_callV1 (pc := 108) kX9_226 rfl rfl (c_X9_bit hM hO (s := nx c 2) (by omega) (by omega)) dX9_line_108 rfl rfl (Nat.le_of_ble_eq_true rfl) (Nat.le_of_ble_eq_true rfl) ?_
          rw [← opB_nm τ.1 (nx c 2), nm_nx c1 c2 (by omega) (by omega)]
          refine A_lor (pc := 111) dX9_line_111 ?_
          rw [or_L (opB_lt _ _) (opB_lt _ _)]
          refine A_lor (pc := 112) dX9_line_112 ?_
          rw [or_L ha (or49 (opB_lt _ _) (opB_lt _ _))]
          refine A_lstore (pc := 113) dX9_line_113 (Nat.le_of_ble_eq_true rfl) ?_
          refine A_loc (l2 := [(0, _), (2, _), (3, _), (4, _), (5, _), (7, _), (8, _)]) ⟨rfl, rfl, rfl, rfl, rfl, rfl, rfl, trivial⟩ ?_
          have e : acc ||| bayB τ.1 w b i c = acc ||| (opB τ.1 (bes c 1) ||| opB τ.1 (bes c 2)) := by rw [bayB, if_pos ⟨h62, h68⟩, if_neg h78, if_neg h78]
          rw [e] at hK
          exact hK
        · skip
          exact absurd h97 h78
      · skip
        refine A_iconst (pc := 81) dX9_line_81 ?_
        refine A_goto (pc := 82) 86 dX9_line_82 (by decide) ?_
        refine A_callS1 (pc := 86) kX9_223 (c_X9_next (w := 0) c1 c2 (by omega) (by omega)) dX9_line_86 rfl rfl (Nat.le_of_ble_eq_true rfl) (Nat.le_of_ble_eq_true rfl) ?_
        refine A_callV1 (pc := 89) kX9_226 rfl rfl (c_X9_bit hM hO (s := nx c 0) (by omega) (by omega)) dX9_line_89 rfl rfl (Nat.le_of_ble_eq_true rfl) (Nat.le_of_ble_eq_true rfl) ?_
        rw [← opB_nm τ.1 (nx c 0), nm_nx c1 c2 (by omega) (by omega)]
        refine A_aload_n (pc := 92) dX9_line_92 rfl rfl ?_
        refine A_iload (pc := 93) dX9_line_93 rfl ?_
        refine A_iload (pc := 95) dX9_line_95 rfl ?_
        refine A_ifb_eq (pc := 97) 104 dX9_line_97 (by decide) (fun h97 => ?_) (fun h97 => ?_)
        · skip
          exact absurd h78 h97
        · skip
          refine A_iconst (pc := 100) dX9_line_100 ?_
          refine A_goto (pc := 101) 105 dX9_line_101 (by decide) ?_
          refine A_callS1 (pc := 105) kX9_223 (c_X9_next (w := 3) c1 c2 (by omega) (by omega)) dX9_line_105 rfl rfl (Nat.le_of_ble_eq_true rfl) (Nat.le_of_ble_eq_true rfl) ?_
          refine A_callV1 (pc := 108) kX9_226 rfl rfl (c_X9_bit hM hO (s := nx c 3) (by omega) (by omega)) dX9_line_108 rfl rfl (Nat.le_of_ble_eq_true rfl) (Nat.le_of_ble_eq_true rfl) ?_
          rw [← opB_nm τ.1 (nx c 3), nm_nx c1 c2 (by omega) (by omega)]
          refine A_lor (pc := 111) dX9_line_111 ?_
          rw [or_L (opB_lt _ _) (opB_lt _ _)]
          refine A_lor (pc := 112) dX9_line_112 ?_
          rw [or_L ha (or49 (opB_lt _ _) (opB_lt _ _))]
          refine A_lstore (pc := 113) dX9_line_113 (Nat.le_of_ble_eq_true rfl) ?_
          refine A_loc (l2 := [(0, _), (2, _), (3, _), (4, _), (5, _), (7, _), (8, _)]) ⟨rfl, rfl, rfl, rfl, rfl, rfl, rfl, trivial⟩ ?_
          have e : acc ||| bayB τ.1 w b i c = acc ||| (opB τ.1 (bes c 0) ||| opB τ.1 (bes c 3)) := by rw [bayB, if_pos ⟨h62, h68⟩, if_pos h78, if_pos h78]
          rw [e] at hK
          exact hK
set_option maxRecDepth 20000 in
theorem l_X9_line {G : Gl} {d : Nat} {σ : Sg} {K : Option Value → Sg → Prop} {τ : Tw} (hM : RMt τ σ) (hO : OkT τ) {w r : Int} (w1 : 0 ≤ w) (w2 : w ≤ 3) (r1 : -2147483648 ≤ r) (r2 : r < 2147483648) {b : Bool} : ∀ (n : Nat) (i c : Int) (acc : Nat), 0 ≤ i → i ≤ 2147483647 → n = (r - i).toNat → -7 ≤ c → c ≤ 48 → acc < 2 ^ 49 → K (some (.long (lN (acc ||| lineM τ.1 w b n i (nm c))))) σ → AW G (d + 4) RX9 cX9_line 10 (some .long) 13 [(0, .ref (gA G 54)), (2, .int (iI w)), (3, .int (iI r)), (4, .int (iI (bI (b = true)))), (5, .long (lN acc)), (7, .int (iI c)), (8, .int (iI i))] [] σ K := by
  intro n
  induction n using Nat.strongRecOn
  rename_i n ih
  intro i c acc i1 i2 hn c1 c2 ha hK
  have hO2 := hO
  obtain ⟨o1, o2, o3, o4, o5, o6, o7, o8, o9⟩ := hO2
  have p0 := hM.2.1
  have p1 := hM.2.2.1
  have p2 : σ.1 63 0 = τ.2.1 2 := hM.2.2.2.1 0 (by decide)
  refine A_iload (pc := 13) dX9_line_13 rfl ?_
  refine A_iload_n (pc := 15) dX9_line_15 rfl rfl ?_
  refine A_icmp_ge (pc := 16) 129 dX9_line_16 (by decide) (by omega) (by omega) (by omega) (by omega) (fun h16 => ?_) (fun h16 => ?_)
  · skip
    refine A_lload (pc := 129) dX9_line_129 rfl ?_
    refine A_lret (pc := 131) rfl dX9_line_131 ?_
    have hn0 : n = 0 := by omega
    subst hn0
    rw [lineM, Nat.or_zero] at hK
    exact hK
  · skip
    refine A_iload (pc := 19) dX9_line_19 rfl ?_
    refine A_if_lt (pc := 21) 129 dX9_line_21 (by decide) (by omega) (by omega) (fun h21 => ?_) (fun h21 => ?_)
    · skip
      refine A_lload (pc := 129) dX9_line_129 rfl ?_
      refine A_lret (pc := 131) rfl dX9_line_131 ?_
      rw [lineM_nm h21, Nat.or_zero] at hK
      exact hK
    · skip
      obtain ⟨k, rfl⟩ := Int.eq_ofNat_of_zero_le (show 0 ≤ c by omega)
      refine A_aload_n (pc := 24) dX9_line_24 rfl rfl ?_
      refine A_getR (pc := 25) fX9_31 rfl rfl dX9_line_25 ?_
      refine A_iload (pc := 28) dX9_line_28 rfl ?_
      refine A_zaldv (pc := 30) _ rfl rfl (by omega) (Nat.le_of_ble_eq_true rfl) (hM.1 _ (by omega)) dX9_line_30 ?_
      refine A_ifb_ne (pc := 31) 129 dX9_line_31 (by decide) (fun h31 => ?_) (fun h31 => ?_)
      · skip
        refine A_lload (pc := 129) dX9_line_129 rfl ?_
        refine A_lret (pc := 131) rfl dX9_line_131 ?_
        have hm : lineM τ.1 w b n i (nm (k : Int)) = 0 := by
          cases n with
          | zero => rfl
          | succ n => rw [lineM, nm_pos (by omega), if_pos (Or.inr ((sT_k (by omega)).mpr h31))]
        rw [hm, Nat.or_zero] at hK
        exact hK
      · skip
        have hcc : ¬ ((k : Int) < 0 ∨ sT τ.1 (k : Int)) := fun q => q.elim (fun z => by omega) (fun z => h31 ((sT_k (by omega)).mp z))
        have hp : 2 ^ k < 2 ^ 49 := Nat.pow_lt_pow_right (by decide) (by omega)
        have hr2 := nx_rng (w := w) (show 0 ≤ (k : Int) by omega) (by omega)
        obtain ⟨m, rfl⟩ : ∃ m, n = m + 1 := ⟨n - 1, by omega⟩
        refine A_lload (pc := 34) dX9_line_34 rfl ?_
        refine A_lconst (pc := 36) 1 dX9_line_36 rfl ?_
        refine A_iload (pc := 37) dX9_line_37 rfl ?_
        refine A_lshl (pc := 39) (lN (2 ^ k)) dX9_line_39 (shl_L (by omega)) ?_
        refine A_lor (pc := 40) dX9_line_40 ?_
        rw [or_L ha hp]
        refine A_lstore (pc := 41) dX9_line_41 (Nat.le_of_ble_eq_true rfl) ?_
        refine A_iload_n (pc := 43) dX9_line_43 rfl rfl ?_
        refine A_iconst (pc := 44) dX9_line_44 ?_
        refine A_icmp_eq (pc := 45) 53 dX9_line_45 (by decide) (by omega) (by omega) (by omega) (by omega) (fun h45 => ?_) (fun h45 => ?_)
        · skip
          refine A_iconst (pc := 53) dX9_line_53 ?_
          refine A_goto (pc := 54) 58 dX9_line_54 (by decide) ?_
          refine A_istore (pc := 58) dX9_line_58 (Nat.le_of_ble_eq_true rfl) ?_
          refine A_loc (l2 := [(0, _), (2, _), (3, _), (4, _), (5, _), (7, _), (8, _), (9, _)]) ⟨rfl, rfl, rfl, rfl, rfl, rfl, rfl, rfl, trivial⟩ ?_
          refine m_X9_line hM hO (w := w) (c := (k : Int)) (bI_t (by omega)).symm (or49 ha hp) i1 (by omega) (by omega) (by omega) ?_
          refine A_iload (pc := 115) dX9_line_115 rfl ?_
          refine A_iload_n (pc := 117) dX9_line_117 rfl rfl ?_
          refine A_callS1 (pc := 118) kX9_223 (c_X9_next (by omega) (by omega) w1 w2) dX9_line_118 rfl rfl (Nat.le_of_ble_eq_true rfl) (Nat.le_of_ble_eq_true rfl) ?_
          refine A_istore (pc := 121) dX9_line_121 (Nat.le_of_ble_eq_true rfl) ?_
          refine A_iinc (pc := 123) dX9_line_123 rfl (Nat.le_of_ble_eq_true rfl) ?_
          refine A_goto (pc := 126) 13 dX9_line_126 (by decide) ?_
          refine A_loc (l2 := [(0, _), (2, _), (3, _), (4, _), (5, _), (7, _), (8, _)]) ⟨rfl, rfl, rfl, rfl, rfl, rfl, rfl, trivial⟩ ?_
          refine ih m (by omega) (i + 1) _ _ (by omega) (by omega) (by omega) hr2.1 hr2.2 (or49 (or49 ha hp) (bayB_lt _ _ _ _ _)) ?_
          rw [nm_pos (by omega), lineM_s hcc, ← Nat.or_assoc, ← Nat.or_assoc] at hK
          rw [nm_nx (by omega) (by omega) w1 w2]
          exact hK
        · skip
          refine A_iload_n (pc := 48) dX9_line_48 rfl rfl ?_
          refine A_iconst (pc := 49) dX9_line_49 ?_
          refine A_icmp_ne (pc := 50) 57 dX9_line_50 (by decide) (by omega) (by omega) (by omega) (by omega) (fun h50 => ?_) (fun h50 => ?_)
          · skip
            refine A_iconst (pc := 57) dX9_line_57 ?_
            refine A_istore (pc := 58) dX9_line_58 (Nat.le_of_ble_eq_true rfl) ?_
            refine A_loc (l2 := [(0, _), (2, _), (3, _), (4, _), (5, _), (7, _), (8, _), (9, _)]) ⟨rfl, rfl, rfl, rfl, rfl, rfl, rfl, rfl, trivial⟩ ?_
            refine m_X9_line hM hO (w := w) (c := (k : Int)) (bI_f (by omega)).symm (or49 ha hp) i1 (by omega) (by omega) (by omega) ?_
            refine A_iload (pc := 115) dX9_line_115 rfl ?_
            refine A_iload_n (pc := 117) dX9_line_117 rfl rfl ?_
            refine A_callS1 (pc := 118) kX9_223 (c_X9_next (by omega) (by omega) w1 w2) dX9_line_118 rfl rfl (Nat.le_of_ble_eq_true rfl) (Nat.le_of_ble_eq_true rfl) ?_
            refine A_istore (pc := 121) dX9_line_121 (Nat.le_of_ble_eq_true rfl) ?_
            refine A_iinc (pc := 123) dX9_line_123 rfl (Nat.le_of_ble_eq_true rfl) ?_
            refine A_goto (pc := 126) 13 dX9_line_126 (by decide) ?_
            refine A_loc (l2 := [(0, _), (2, _), (3, _), (4, _), (5, _), (7, _), (8, _)]) ⟨rfl, rfl, rfl, rfl, rfl, rfl, rfl, trivial⟩ ?_
            refine ih m (by omega) (i + 1) _ _ (by omega) (by omega) (by omega) hr2.1 hr2.2 (or49 (or49 ha hp) (bayB_lt _ _ _ _ _)) ?_
            rw [nm_pos (by omega), lineM_s hcc, ← Nat.or_assoc, ← Nat.or_assoc] at hK
            rw [nm_nx (by omega) (by omega) w1 w2]
            exact hK
          · skip
            refine A_iconst (pc := 53) dX9_line_53 ?_
            refine A_goto (pc := 54) 58 dX9_line_54 (by decide) ?_
            refine A_istore (pc := 58) dX9_line_58 (Nat.le_of_ble_eq_true rfl) ?_
            refine A_loc (l2 := [(0, _), (2, _), (3, _), (4, _), (5, _), (7, _), (8, _), (9, _)]) ⟨rfl, rfl, rfl, rfl, rfl, rfl, rfl, rfl, trivial⟩ ?_
            refine m_X9_line hM hO (w := w) (c := (k : Int)) (bI_t (by omega)).symm (or49 ha hp) i1 (by omega) (by omega) (by omega) ?_
            refine A_iload (pc := 115) dX9_line_115 rfl ?_
            refine A_iload_n (pc := 117) dX9_line_117 rfl rfl ?_
            refine A_callS1 (pc := 118) kX9_223 (c_X9_next (by omega) (by omega) w1 w2) dX9_line_118 rfl rfl (Nat.le_of_ble_eq_true rfl) (Nat.le_of_ble_eq_true rfl) ?_
            refine A_istore (pc := 121) dX9_line_121 (Nat.le_of_ble_eq_true rfl) ?_
            refine A_iinc (pc := 123) dX9_line_123 rfl (Nat.le_of_ble_eq_true rfl) ?_
            refine A_goto (pc := 126) 13 dX9_line_126 (by decide) ?_
            refine A_loc (l2 := [(0, _), (2, _), (3, _), (4, _), (5, _), (7, _), (8, _)]) ⟨rfl, rfl, rfl, rfl, rfl, rfl, rfl, trivial⟩ ?_
            refine ih m (by omega) (i + 1) _ _ (by omega) (by omega) (by omega) hr2.1 hr2.2 (or49 (or49 ha hp) (bayB_lt _ _ _ _ _)) ?_
            rw [nm_pos (by omega), lineM_s hcc, ← Nat.or_assoc, ← Nat.or_assoc] at hK
            rw [nm_nx (by omega) (by omega) w1 w2]
            exact hK
set_option maxRecDepth 20000 in
theorem c_X9_line {G : Gl} {d : Nat} {σ : Sg} {τ : Tw} (hM : RMt τ σ) (hO : OkT τ) {f w r : Int} (f1 : 0 ≤ f) (f2 : f ≤ 48) (w1 : 0 ≤ w) (w2 : w ≤ 3) (r1 : -2147483648 ≤ r) (r2 : r < 2147483648) {b : Bool} : CT G (d + 4) yX9_line cX9_line 10 (some .long) [.ref (gA G 54), .int (iI f), .int (iI w), .int (iI r), .int (iI (bI (b = true)))] σ (R1 (.long (lN (if b = true then wideX τ.1 f w r else lineX τ.1 f w r))) σ) := by
  refine CT.of (by decide +kernel) (Nat.le_of_ble_eq_true rfl) ?_
  change AW G _ RX9 _ _ _ 0 [(0, .ref (gA G 54)), (1, .int (iI f)), (2, .int (iI w)), (3, .int (iI r)), (4, .int (iI (bI (b = true))))] [] _ _
  have hO2 := hO
  obtain ⟨o1, o2, o3, o4, o5, o6, o7, o8, o9⟩ := hO2
  have p0 := hM.2.1
  have p1 := hM.2.2.1
  have p2 : σ.1 63 0 = τ.2.1 2 := hM.2.2.2.1 0 (by decide)
  have hr2 := nx_rng (w := w) f1 f2
  refine A_lconst (pc := 0) 0 dX9_line_0 rfl ?_
  refine A_lstore (pc := 1) dX9_line_1 (Nat.le_of_ble_eq_true rfl) ?_
  refine A_iload_n (pc := 3) dX9_line_3 rfl rfl ?_
  refine A_iload_n (pc := 4) dX9_line_4 rfl rfl ?_
  refine A_callS1 (pc := 5) kX9_223 (c_X9_next f1 f2 w1 w2) dX9_line_5 rfl rfl (Nat.le_of_ble_eq_true rfl) (Nat.le_of_ble_eq_true rfl) ?_
  refine A_istore (pc := 8) dX9_line_8 (Nat.le_of_ble_eq_true rfl) ?_
  refine A_iconst (pc := 10) dX9_line_10 ?_
  refine A_istore (pc := 11) dX9_line_11 (Nat.le_of_ble_eq_true rfl) ?_
  refine A_loc (l2 := [(0, _), (2, _), (3, _), (4, _), (5, _), (7, _), (8, _)]) ⟨rfl, rfl, rfl, rfl, rfl, rfl, rfl, trivial⟩ ?_
  refine l_X9_line hM hO w1 w2 r1 r2 r.toNat 0 _ 0 (by omega) (by omega) (by omega) hr2.1 hr2.2 (by decide) ⟨?_, rfl⟩
  rw [Nat.zero_or, nm_nx f1 f2 w1 w2]
  cases b with
  | true => rw [lineM_wide w1 w2]; rfl
  | false => rw [lineM_plain _ _ _ _ _ _ (Or.inl rfl)]; rfl
