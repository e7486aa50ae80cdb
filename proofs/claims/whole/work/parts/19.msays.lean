/-! PART 19: says of both; copy of the reference -/
theorem lcm_cmp {a b c : Int} (a1 : 0 ≤ a) (a2 : a < 2147483648) (b1 : 0 ≤ b) (b2 : b < 2147483648) (c1 : 0 ≤ c) (c2 : c < 2147483648) : lcm ((iI a).toInt64 + (iI b).toInt64) (iI c).toInt64 = if c < a + b then 1 else if a + b = c then 0 else -1 := by
  have ea : (iI a).toInt64.toInt = a := by rw [Int32.toInt_toInt64, iI_t (by omega) a2]
  have eb : (iI b).toInt64.toInt = b := by rw [Int32.toInt_toInt64, iI_t (by omega) b2]
  have ec : (iI c).toInt64.toInt = c := by rw [Int32.toInt_toInt64, iI_t (by omega) c2]
  have es : ((iI a).toInt64 + (iI b).toInt64).toInt = a + b := by
    rw [Int64.toInt_add, ea, eb, Int.bmod_eq_of_le (by omega) (by omega)]
  unfold lcm
  by_cases h : c < a + b
  · rw [if_pos h, if_pos (show _ > _ from Int64.lt_iff_toInt_lt.mpr (by rw [es, ec]; exact h))]
  · rw [if_neg h, if_neg (fun q => h (by have := Int64.lt_iff_toInt_lt.mp q; rw [es, ec] at this; exact this))]
    by_cases h2 : a + b = c
    · rw [if_pos h2, if_pos (Int64.toInt_inj.mp (by rw [es, ec]; exact h2))]
    · rw [if_neg h2, if_neg (fun q => h2 (by rw [← es, ← ec, q]))]
/-- a stretch copied in part -/
def cpyR {α : Type} (f g : Nat → α) (a b lo hi : Nat) : Nat → α := fun x => if b + lo ≤ x ∧ x < b + hi then f (a + (x - b)) else g x
theorem cpyR_all {α : Type} (f g : Nat → α) (a b n : Nat) : cpyR f g a b 0 n = va_cpy f g a b n := rfl
/-- the reference's rows while it copies -/
def CpI (σ0 σ : Sg) (k m a b lo hi : Nat) : Prop := Fr (fun x => x = 66) σ0 σ ∧ σ.1 = σ0.1 ∧ ∀ j, j < 8 → ∀ x, x < 160 → σ.2 66 (160 * j + x) = if j = m then cpyR (fun y => σ0.2 66 (160 * k + y)) (fun y => σ0.2 66 (160 * m + y)) a b lo hi x else σ0.2 66 (160 * j + x)
theorem CpI.up {σ0 σ : Sg} {k m a b t : Nat} (h : CpI σ0 σ k m a b 0 t) (k8 : k < 8) (m8 : m < 8) (ha : a + t < 160) (hb : b + t < 160) (hd : k ≠ m ∨ b ≤ a) : CpI σ0 (uL σ 66 (160 * m + (b + t)) (σ.2 66 (160 * k + (a + t)))) k m a b 0 (t + 1) := by
  obtain ⟨h1, h2, h3⟩ := h
  have ev : σ.2 66 (160 * k + (a + t)) = σ0.2 66 (160 * k + (a + t)) := by
    rw [h3 k k8 (a + t) ha]
    by_cases e : k = m
    · rw [if_pos e, cpyR, if_neg (by omega), e]
    · rw [if_neg e]
  refine ⟨h1.uL rfl, h2, fun j hj x hx => ?_⟩
  rw [uL_at]
  by_cases e : j = m ∧ x = b + t
  · obtain ⟨rfl, rfl⟩ := e
    rw [if_pos ⟨rfl, rfl⟩, if_pos rfl, cpyR, if_pos (by omega), ev, show b + t - b = t by omega]
  · rw [if_neg (by omega), h3 j hj x hx]
    by_cases e2 : j = m
    · rw [if_pos e2, if_pos e2]
      unfold cpyR
      by_cases q : b + 0 ≤ x ∧ x < b + t
      · rw [if_pos q, if_pos (by omega)]
      · rw [if_neg q, if_neg (by omega)]
    · rw [if_neg e2, if_neg e2]
theorem CpI.down {σ0 σ : Sg} {m a b t n : Nat} (h : CpI σ0 σ m m a b (t + 1) n) (m8 : m < 8) (ha : a + t < 160) (hb : b + t < 160) (hd : a < b) (hn : t < n) : CpI σ0 (uL σ 66 (160 * m + (b + t)) (σ.2 66 (160 * m + (a + t)))) m m a b t n := by
  obtain ⟨h1, h2, h3⟩ := h
  have ev : σ.2 66 (160 * m + (a + t)) = σ0.2 66 (160 * m + (a + t)) := by
    rw [h3 m m8 (a + t) ha, if_pos rfl, cpyR, if_neg (by omega)]
  refine ⟨h1.uL rfl, h2, fun j hj x hx => ?_⟩
  rw [uL_at]
  by_cases e : j = m ∧ x = b + t
  · obtain ⟨rfl, rfl⟩ := e
    rw [if_pos ⟨rfl, rfl⟩, if_pos rfl, cpyR, if_pos (by omega), ev, show b + t - b = t by omega]
  · rw [if_neg (by omega), h3 j hj x hx]
    by_cases e2 : j = m
    · rw [if_pos e2, if_pos e2]
      unfold cpyR
      by_cases q : b + (t + 1) ≤ x ∧ x < b + n
      · rw [if_pos q, if_pos (by omega)]
      · rw [if_neg q, if_neg (by omega)]
    · rw [if_neg e2, if_neg e2]
theorem CpI.start (σ : Sg) (k m a b t : Nat) : CpI σ σ k m a b t t := ⟨Fr.rf, rfl, fun j hj x hx => by
  by_cases e : j = m
  · rw [if_pos e, cpyR, if_neg (by omega), e]
  · rw [if_neg e]⟩
theorem CpI.rel {Z : Zt} {σ υ : Sg} {k m a b n : Nat} (hZ : RelM Z σ) (h : CpI σ υ k m a b 0 n) (k8 : k < 8) (m8 : m < 8) (ha : a + n ≤ 160) : RelM (zShelf Z m (Z.2.1.1 m) (Z.2.1.2.1 m) (va_cpy (Z.2.1.2.2 k) (Z.2.1.2.2 m) a b n)) υ := by
  obtain ⟨h1, h2, h3⟩ := h
  have ms := hZ.2.1 m m8
  have ks := hZ.2.1 k k8
  refine hZ.shelf (h1.mono (fun a q => Or.inr (Or.inr q))) (fun j hj => ?_) (fun j hj => ⟨fun e q => ?_, fun e => by rw [h2]⟩) (fun j hj x hx => ?_)
  · rw [h2]
    by_cases e : j = m
    · rw [if_pos e, e]; exact ms.1
    · rw [if_neg e]
  · rw [h2, e]; exact ms.2.1 q
  · rw [h3 j hj x hx]
    by_cases e : j = m
    · rw [if_pos e, if_pos e]
      unfold cpyR va_cpy
      by_cases q : b + 0 ≤ x ∧ x < b + n
      · rw [if_pos q, if_pos (by omega)]; exact ks.2.2 _ (by omega)
      · rw [if_neg q, if_neg (by omega)]; exact ms.2.2 x hx
    · rw [if_neg e, if_neg e]
theorem dX8_says_0 : decode cX8_says 0 = .ok (.iload_n 1, 1) := by decide +kernel
theorem dX8_says_1 : decode cX8_says 1 = .ok (.invokestatic 72, 3) := by decide +kernel
theorem dX8_says_4 : decode cX8_says 4 = .ok (.ifCond .eq 10, 3) := by decide +kernel
theorem dX8_says_7 : decode cX8_says 7 = .ok (.iload_n 2, 1) := by decide +kernel
theorem dX8_says_8 : decode cX8_says 8 = .ok (.invokestatic 120, 3) := by decide +kernel
theorem dX8_says_11 : decode cX8_says 11 = .ok (.ifCond .ne 9, 3) := by decide +kernel
theorem dX8_says_14 : decode cX8_says 14 = .ok (.aload_n 0, 1) := by decide +kernel
theorem dX8_says_15 : decode cX8_says 15 = .ok (.iconst (-1), 1) := by decide +kernel
theorem dX8_says_16 : decode cX8_says 16 = .ok (.invokevirtual 76, 3) := by decide +kernel
theorem dX8_says_19 : decode cX8_says 19 = .ok (.ireturn, 1) := by decide +kernel
theorem dX8_says_20 : decode cX8_says 20 = .ok (.aload_n 0, 1) := by decide +kernel
theorem dX8_says_21 : decode cX8_says 21 = .ok (.getfield 25, 3) := by decide +kernel
theorem dX8_says_24 : decode cX8_says 24 = .ok (.iload_n 1, 1) := by decide +kernel
theorem dX8_says_25 : decode cX8_says 25 = .ok (.aaload, 1) := by decide +kernel
theorem dX8_says_26 : decode cX8_says 26 = .ok (.getfield 116, 3) := by decide +kernel
theorem dX8_says_29 : decode cX8_says 29 = .ok (.istore_n 3, 1) := by decide +kernel
theorem dX8_says_30 : decode cX8_says 30 = .ok (.aload_n 0, 1) := by decide +kernel
theorem dX8_says_31 : decode cX8_says 31 = .ok (.getfield 25, 3) := by decide +kernel
theorem dX8_says_34 : decode cX8_says 34 = .ok (.iload_n 1, 1) := by decide +kernel
theorem dX8_says_35 : decode cX8_says 35 = .ok (.aaload, 1) := by decide +kernel
theorem dX8_says_36 : decode cX8_says 36 = .ok (.invokevirtual 123, 3) := by decide +kernel
theorem dX8_says_39 : decode cX8_says 39 = .ok (.ifCond .eq 10, 3) := by decide +kernel
theorem dX8_says_42 : decode cX8_says 42 = .ok (.aload_n 0, 1) := by decide +kernel
theorem dX8_says_43 : decode cX8_says 43 = .ok (.bipush (-2), 2) := by decide +kernel
theorem dX8_says_45 : decode cX8_says 45 = .ok (.invokevirtual 76, 3) := by decide +kernel
theorem dX8_says_48 : decode cX8_says 48 = .ok (.ireturn, 1) := by decide +kernel
theorem dX8_says_49 : decode cX8_says 49 = .ok (.iload_n 3, 1) := by decide +kernel
theorem dX8_says_50 : decode cX8_says 50 = .ok (.iconst (-1), 1) := by decide +kernel
theorem dX8_says_51 : decode cX8_says 51 = .ok (.if_icmp .ne 10, 3) := by decide +kernel
theorem dX8_says_54 : decode cX8_says 54 = .ok (.aload_n 0, 1) := by decide +kernel
theorem dX8_says_55 : decode cX8_says 55 = .ok (.bipush (-3), 2) := by decide +kernel
theorem dX8_says_57 : decode cX8_says 57 = .ok (.invokevirtual 76, 3) := by decide +kernel
theorem dX8_says_60 : decode cX8_says 60 = .ok (.ireturn, 1) := by decide +kernel
theorem dX8_says_61 : decode cX8_says 61 = .ok (.aload_n 0, 1) := by decide +kernel
theorem dX8_says_62 : decode cX8_says 62 = .ok (.getfield 10, 3) := by decide +kernel
theorem dX8_says_65 : decode cX8_says 65 = .ok (.iload_n 3, 1) := by decide +kernel
theorem dX8_says_66 : decode cX8_says 66 = .ok (.invokevirtual 127, 3) := by decide +kernel
theorem dX8_says_69 : decode cX8_says 69 = .ok (.iload_n 2, 1) := by decide +kernel
theorem dX8_says_70 : decode cX8_says 70 = .ok (.invokestatic 130, 3) := by decide +kernel
theorem dX8_says_73 : decode cX8_says 73 = .ok (.ifCond .ne 10, 3) := by decide +kernel
theorem dX8_says_76 : decode cX8_says 76 = .ok (.aload_n 0, 1) := by decide +kernel
theorem dX8_says_77 : decode cX8_says 77 = .ok (.bipush (-2), 2) := by decide +kernel
theorem dX8_says_79 : decode cX8_says 79 = .ok (.invokevirtual 76, 3) := by decide +kernel
theorem dX8_says_82 : decode cX8_says 82 = .ok (.ireturn, 1) := by decide +kernel
theorem dX8_says_83 : decode cX8_says 83 = .ok (.iload_n 2, 1) := by decide +kernel
theorem dX8_says_84 : decode cX8_says 84 = .ok (.tableswitch 70 1 6 #[40, 49, 40, 58, 58, 49], 40) := by decide +kernel
theorem dX8_says_124 : decode cX8_says 124 = .ok (.aload_n 0, 1) := by decide +kernel
theorem dX8_says_125 : decode cX8_says 125 = .ok (.getfield 10, 3) := by decide +kernel
theorem dX8_says_128 : decode cX8_says 128 = .ok (.iload_n 3, 1) := by decide +kernel
theorem dX8_says_129 : decode cX8_says 129 = .ok (.invokevirtual 134, 3) := by decide +kernel
theorem dX8_says_132 : decode cX8_says 132 = .ok (.ireturn, 1) := by decide +kernel
theorem dX8_says_133 : decode cX8_says 133 = .ok (.aload_n 0, 1) := by decide +kernel
theorem dX8_says_134 : decode cX8_says 134 = .ok (.getfield 10, 3) := by decide +kernel
theorem dX8_says_137 : decode cX8_says 137 = .ok (.iload_n 3, 1) := by decide +kernel
theorem dX8_says_138 : decode cX8_says 138 = .ok (.invokevirtual 137, 3) := by decide +kernel
theorem dX8_says_141 : decode cX8_says 141 = .ok (.ireturn, 1) := by decide +kernel
theorem dX8_says_142 : decode cX8_says 142 = .ok (.aload_n 0, 1) := by decide +kernel
theorem dX8_says_143 : decode cX8_says 143 = .ok (.getfield 10, 3) := by decide +kernel
theorem dX8_says_146 : decode cX8_says 146 = .ok (.iload_n 3, 1) := by decide +kernel
theorem dX8_says_147 : decode cX8_says 147 = .ok (.invokevirtual 140, 3) := by decide +kernel
theorem dX8_says_150 : decode cX8_says 150 = .ok (.invokestatic 143, 3) := by decide +kernel
theorem dX8_says_153 : decode cX8_says 153 = .ok (.ireturn, 1) := by decide +kernel
theorem dX8_says_154 : decode cX8_says 154 = .ok (.aload_n 0, 1) := by decide +kernel
theorem dX8_says_155 : decode cX8_says 155 = .ok (.getfield 10, 3) := by decide +kernel
theorem dX8_says_158 : decode cX8_says 158 = .ok (.iload_n 3, 1) := by decide +kernel
theorem dX8_says_159 : decode cX8_says 159 = .ok (.invokevirtual 149, 3) := by decide +kernel
theorem dX8_says_162 : decode cX8_says 162 = .ok (.ireturn, 1) := by decide +kernel
set_option maxRecDepth 20000 in
theorem c_X8_says {G : Gl} {d : Nat} {σ : Sg} {Z : Zt} (hZ : RelX Z σ) (hO : OkZ Z) {s : Int} (hs1 : -2147483648 ≤ s) (hs2 : s < 2147483648) {w : Int} (hw1 : -2147483648 ≤ w) (hw2 : w < 2147483648) : CT G (d + 5) yX8_says cX8_says 4 (some .int) [.ref (gA G 0), .int (iI s), .int (iI w)] σ (RE (some (.int (iI (qSays Z s w).1))) (fun υ => RelX (qSays Z s w).2 υ ∧ Fr XC σ υ)) := by
  refine CT.of (by decide +kernel) (Nat.le_of_ble_eq_true rfl) ?_
  change AW G _ RX8 _ _ _ 0 [(0, .ref (gA G 0)), (1, .int (iI s)), (2, .int (iI w))] [] _ _
  refine A_iload_n (pc := 0) dX8_says_0 rfl rfl ?_
  refine A_callS1 (pc := 1) kX8_72 (c_X8_isShelf hs1 hs2) dX8_says_1 rfl rfl (Nat.le_of_ble_eq_true rfl) (Nat.le_of_ble_eq_true rfl) ?_
  refine A_ifb_eq (pc := 4) 14 dX8_says_4 (by decide) (fun h4 => ?_) (fun h4 => ?_)
  · skip
    refine A_aload_n (pc := 14) dX8_says_14 rfl rfl ?_
    refine A_iconst (pc := 15) dX8_says_15 ?_
    refine A_callVe (pc := 16) kX8_76 rfl rfl (c_X8_refuse hZ hO (t := -1) (by omega) (by omega)) dX8_says_16 rfl rfl (Nat.le_of_ble_eq_true rfl) (Nat.le_of_ble_eq_true rfl) (fun υ hυ => ?_)
    refine A_iret (pc := 19) rfl dX8_says_19 ?_
    exact RQX (by unfold qSays; rw [if_pos (by omega)]; rfl) hυ.1 (hυ.2.mono XC2)
  · skip
    refine A_iload_n (pc := 7) dX8_says_7 rfl rfl ?_
    refine A_callS1 (pc := 8) kX8_120 (c_X8_isKind hw1 hw2) dX8_says_8 rfl rfl (Nat.le_of_ble_eq_true rfl) (Nat.le_of_ble_eq_true rfl) ?_
    refine A_ifb_ne (pc := 11) 20 dX8_says_11 (by decide) (fun h11 => ?_) (fun h11 => ?_)
    · skip
      obtain ⟨k, rfl⟩ := Int.eq_ofNat_of_zero_le (show 0 ≤ s by omega)
      have k8 : k < 8 := by omega
      have ks := hZ.2.1 k k8
      have ko := hO.2.1 k k8
      obtain ⟨b1, b2, b3, b4⟩ := ko.1
      refine A_aload_n (pc := 20) dX8_says_20 rfl rfl ?_
      refine A_getR (pc := 21) fX8_25 rfl rfl dX8_says_21 ?_
      refine A_iload_n (pc := 24) dX8_says_24 rfl rfl ?_
      refine A_aald (pc := 25) _ rfl rfl (by omega) (Nat.le_of_ble_eq_true rfl) dX8_says_25 ?_
      refine A_getIv (pc := 26) fX8_116 (shp_S (SCk (by omega))) rfl ks.1 dX8_says_26 ?_
      refine A_istore_n (pc := 29) dX8_says_29 rfl (Nat.le_of_ble_eq_true rfl) ?_
      refine A_aload_n (pc := 30) dX8_says_30 rfl rfl ?_
      refine A_getR (pc := 31) fX8_25 rfl rfl dX8_says_31 ?_
      refine A_iload_n (pc := 34) dX8_says_34 rfl rfl ?_
      refine A_aald (pc := 35) _ rfl rfl (by omega) (Nat.le_of_ble_eq_true rfl) dX8_says_35 ?_
      refine A_callV1 (pc := 36) kX8_123 (shp_S (SCk (by omega))) rfl (c_X3_isRow (SCk k8) ks ko.1) dX8_says_36 rfl rfl (Nat.le_of_ble_eq_true rfl) (Nat.le_of_ble_eq_true rfl) ?_
      refine A_ifb_eq (pc := 39) 49 dX8_says_39 (by decide) (fun h39 => ?_) (fun h39 => ?_)
      · skip
        refine A_iload_n (pc := 49) dX8_says_49 rfl rfl ?_
        refine A_iconst (pc := 50) dX8_says_50 ?_
        refine A_icmp_ne (pc := 51) 61 dX8_says_51 (by decide) (by omega) (by omega) (by omega) (by omega) (fun h51 => ?_) (fun h51 => ?_)
        · skip
          obtain ⟨p, hp⟩ := Int.eq_ofNat_of_zero_le (show 0 ≤ Z.2.1.1 k by omega)
          rw [hp]
          have hpn : (p : Int) < Z.1.2.1 0 := by have := ko.2 (by omega); omega
          have hq8 := hO.1.2.2.2.2.2.2.2.1 p hpn
          refine A_aload_n (pc := 61) dX8_says_61 rfl rfl ?_
          refine A_getR (pc := 62) fX8_10 rfl rfl dX8_says_62 ?_
          refine A_iload_n (pc := 65) dX8_says_65 rfl rfl ?_
          refine A_callV1 (pc := 66) kX8_127 rfl rfl (c_X5_kindOf TC14 hZ.1 hO.1 (p := p) (by omega)) dX8_says_66 rfl rfl (Nat.le_of_ble_eq_true rfl) (Nat.le_of_ble_eq_true rfl) ?_
          rw [if_pos hpn]
          refine A_iload_n (pc := 69) dX8_says_69 rfl rfl ?_
          refine A_callS1 (pc := 70) kX8_130 (c_X8_isUnder (by omega) (by omega) (by omega) (by omega)) dX8_says_70 rfl rfl (Nat.le_of_ble_eq_true rfl) (Nat.le_of_ble_eq_true rfl) ?_
          refine A_ifb_ne (pc := 73) 83 dX8_says_73 (by decide) (fun h73 => ?_) (fun h73 => ?_)
          · skip
            refine A_iload_n (pc := 83) dX8_says_83 rfl rfl ?_
            refine A_tsw (pc := 84) [(1, 124), (2, 133), (3, 124), (4, 142), (5, 142), (6, 133)] 154 dX8_says_84 (by decide) (by decide) (by decide) (by omega) (by omega) ?_
            refine ⟨fun h84 => ?_, fun h84n1 => ?_⟩
            · skip
              refine A_aload_n (pc := 124) dX8_says_124 rfl rfl ?_
              refine A_getR (pc := 125) fX8_10 rfl rfl dX8_says_125 ?_
              refine A_iload_n (pc := 128) dX8_says_128 rfl rfl ?_
              refine A_callV1 (pc := 129) kX8_134 rfl rfl (c_X5_outOf TC14 hZ.1 hO.1 (p := p) (by omega)) dX8_says_129 rfl rfl (Nat.le_of_ble_eq_true rfl) (Nat.le_of_ble_eq_true rfl) ?_
              rw [if_pos hpn]
              refine A_iret (pc := 132) rfl dX8_says_132 ?_
              exact RQX (by unfold qSays saysV; simp only [Int.toNat_natCast, hp]; rw [if_neg (by omega), if_neg (by omega), if_neg (by omega), if_pos h73, if_pos (by omega)]) hZ Fr.rf
            refine ⟨fun h84 => ?_, fun h84n2 => ?_⟩
            · skip
              refine A_aload_n (pc := 133) dX8_says_133 rfl rfl ?_
              refine A_getR (pc := 134) fX8_10 rfl rfl dX8_says_134 ?_
              refine A_iload_n (pc := 137) dX8_says_137 rfl rfl ?_
              refine A_callV1 (pc := 138) kX8_137 rfl rfl (c_X5_aOf TC14 hZ.1 hO.1 (p := p) (by omega)) dX8_says_138 rfl rfl (Nat.le_of_ble_eq_true rfl) (Nat.le_of_ble_eq_true rfl) ?_
              rw [if_pos hpn]
              refine A_iret (pc := 141) rfl dX8_says_141 ?_
              exact RQX (by unfold qSays saysV; simp only [Int.toNat_natCast, hp]; rw [if_neg (by omega), if_neg (by omega), if_neg (by omega), if_pos h73, if_neg (by omega), if_pos (by omega)]) hZ Fr.rf
            refine ⟨fun h84 => ?_, fun h84n3 => ?_⟩
            · skip
              refine A_aload_n (pc := 124) dX8_says_124 rfl rfl ?_
              refine A_getR (pc := 125) fX8_10 rfl rfl dX8_says_125 ?_
              refine A_iload_n (pc := 128) dX8_says_128 rfl rfl ?_
              refine A_callV1 (pc := 129) kX8_134 rfl rfl (c_X5_outOf TC14 hZ.1 hO.1 (p := p) (by omega)) dX8_says_129 rfl rfl (Nat.le_of_ble_eq_true rfl) (Nat.le_of_ble_eq_true rfl) ?_
              rw [if_pos hpn]
              refine A_iret (pc := 132) rfl dX8_says_132 ?_
              exact RQX (by unfold qSays saysV; simp only [Int.toNat_natCast, hp]; rw [if_neg (by omega), if_neg (by omega), if_neg (by omega), if_pos h73, if_pos (by omega)]) hZ Fr.rf
            refine ⟨fun h84 => ?_, fun h84n4 => ?_⟩
            · skip
              refine A_aload_n (pc := 142) dX8_says_142 rfl rfl ?_
              refine A_getR (pc := 143) fX8_10 rfl rfl dX8_says_143 ?_
              refine A_iload_n (pc := 146) dX8_says_146 rfl rfl ?_
              refine A_callV1 (pc := 147) kX8_140 rfl rfl (c_X5_sightOf TC14 hZ.1 hO.1 (p := p) hpn) dX8_says_147 rfl rfl (Nat.le_of_ble_eq_true rfl) (Nat.le_of_ble_eq_true rfl) ?_
              refine A_callS1 (pc := 150) kX8_143 (c_J13_bitCount_95d88) dX8_says_150 rfl rfl (Nat.le_of_ble_eq_true rfl) (Nat.le_of_ble_eq_true rfl) ?_
              refine A_iret (pc := 153) rfl dX8_says_153 ?_
              exact RQX (by unfold qSays saysV; simp only [Int.toNat_natCast, hp]; rw [if_neg (by omega), if_neg (by omega), if_neg (by omega), if_pos h73, if_neg (by omega), if_neg (by omega), if_pos (by omega)]) hZ Fr.rf
            refine ⟨fun h84 => ?_, fun h84n5 => ?_⟩
            · skip
              refine A_aload_n (pc := 142) dX8_says_142 rfl rfl ?_
              refine A_getR (pc := 143) fX8_10 rfl rfl dX8_says_143 ?_
              refine A_iload_n (pc := 146) dX8_says_146 rfl rfl ?_
              refine A_callV1 (pc := 147) kX8_140 rfl rfl (c_X5_sightOf TC14 hZ.1 hO.1 (p := p) hpn) dX8_says_147 rfl rfl (Nat.le_of_ble_eq_true rfl) (Nat.le_of_ble_eq_true rfl) ?_
              refine A_callS1 (pc := 150) kX8_143 (c_J13_bitCount_95d88) dX8_says_150 rfl rfl (Nat.le_of_ble_eq_true rfl) (Nat.le_of_ble_eq_true rfl) ?_
              refine A_iret (pc := 153) rfl dX8_says_153 ?_
              exact RQX (by unfold qSays saysV; simp only [Int.toNat_natCast, hp]; rw [if_neg (by omega), if_neg (by omega), if_neg (by omega), if_pos h73, if_neg (by omega), if_neg (by omega), if_pos (by omega)]) hZ Fr.rf
            refine ⟨fun h84 => ?_, fun h84n6 => ?_⟩
            · skip
              refine A_aload_n (pc := 133) dX8_says_133 rfl rfl ?_
              refine A_getR (pc := 134) fX8_10 rfl rfl dX8_says_134 ?_
              refine A_iload_n (pc := 137) dX8_says_137 rfl rfl ?_
              refine A_callV1 (pc := 138) kX8_137 rfl rfl (c_X5_aOf TC14 hZ.1 hO.1 (p := p) (by omega)) dX8_says_138 rfl rfl (Nat.le_of_ble_eq_true rfl) (Nat.le_of_ble_eq_true rfl) ?_
              rw [if_pos hpn]
              refine A_iret (pc := 141) rfl dX8_says_141 ?_
              exact RQX (by unfold qSays saysV; simp only [Int.toNat_natCast, hp]; rw [if_neg (by omega), if_neg (by omega), if_neg (by omega), if_pos h73, if_neg (by omega), if_pos (by omega)]) hZ Fr.rf
            change AW G _ _ _ _ _ 154 _ _ _ _
            refine A_aload_n (pc := 154) dX8_says_154 rfl rfl ?_
            refine A_getR (pc := 155) fX8_10 rfl rfl dX8_says_155 ?_
            refine A_iload_n (pc := 158) dX8_says_158 rfl rfl ?_
            refine A_callV1 (pc := 159) kX8_149 rfl rfl (c_X5_atOf TC14 hZ.1 hO.1 (p := p) (by omega)) dX8_says_159 rfl rfl (Nat.le_of_ble_eq_true rfl) (Nat.le_of_ble_eq_true rfl) ?_
            rw [if_pos hpn]
            refine A_iret (pc := 162) rfl dX8_says_162 ?_
            exact RQX (by unfold qSays saysV; simp only [Int.toNat_natCast, hp]; rw [if_neg (by omega), if_neg (by omega), if_neg (by omega), if_pos h73, if_neg (by omega), if_neg (by omega), if_neg (by omega)]) hZ Fr.rf
          · skip
            refine A_aload_n (pc := 76) dX8_says_76 rfl rfl ?_
            refine A_bipush (pc := 77) dX8_says_77 (by decide) ?_
            refine A_callVe (pc := 79) kX8_76 rfl rfl (c_X8_refuse hZ hO (t := -2) (by omega) (by omega)) dX8_says_79 rfl rfl (Nat.le_of_ble_eq_true rfl) (Nat.le_of_ble_eq_true rfl) (fun υ hυ => ?_)
            refine A_iret (pc := 82) rfl dX8_says_82 ?_
            exact RQX (by unfold qSays; simp only [Int.toNat_natCast, hp]; rw [if_neg (by omega), if_neg (by omega), if_neg (by omega), if_neg h73]; rfl) hυ.1 (hυ.2.mono XC2)
        · skip
          refine A_aload_n (pc := 54) dX8_says_54 rfl rfl ?_
          refine A_bipush (pc := 55) dX8_says_55 (by decide) ?_
          refine A_callVe (pc := 57) kX8_76 rfl rfl (c_X8_refuse hZ hO (t := -3) (by omega) (by omega)) dX8_says_57 rfl rfl (Nat.le_of_ble_eq_true rfl) (Nat.le_of_ble_eq_true rfl) (fun υ hυ => ?_)
          refine A_iret (pc := 60) rfl dX8_says_60 ?_
          exact RQX (by unfold qSays; simp only [Int.toNat_natCast]; rw [if_neg (by omega), if_neg (by omega), if_pos (by omega)]; rfl) hυ.1 (hυ.2.mono XC2)
      · skip
        refine A_aload_n (pc := 42) dX8_says_42 rfl rfl ?_
        refine A_bipush (pc := 43) dX8_says_43 (by decide) ?_
        refine A_callVe (pc := 45) kX8_76 rfl rfl (c_X8_refuse hZ hO (t := -2) (by omega) (by omega)) dX8_says_45 rfl rfl (Nat.le_of_ble_eq_true rfl) (Nat.le_of_ble_eq_true rfl) (fun υ hυ => ?_)
        refine A_iret (pc := 48) rfl dX8_says_48 ?_
        exact RQX (by unfold qSays; simp only [Int.toNat_natCast]; rw [if_neg (by omega), if_pos (by omega)]; rfl) hυ.1 (hυ.2.mono XC2)
    · skip
      refine A_aload_n (pc := 14) dX8_says_14 rfl rfl ?_
      refine A_iconst (pc := 15) dX8_says_15 ?_
      refine A_callVe (pc := 16) kX8_76 rfl rfl (c_X8_refuse hZ hO (t := -1) (by omega) (by omega)) dX8_says_16 rfl rfl (Nat.le_of_ble_eq_true rfl) (Nat.le_of_ble_eq_true rfl) (fun υ hυ => ?_)
      refine A_iret (pc := 19) rfl dX8_says_19 ?_
      exact RQX (by unfold qSays; rw [if_pos (by omega)]; rfl) hυ.1 (hυ.2.mono XC2)
theorem dX9_says_0 : decode cX9_says 0 = .ok (.iload_n 1, 1) := by decide +kernel
theorem dX9_says_1 : decode cX9_says 1 = .ok (.iconst 0, 1) := by decide +kernel
theorem dX9_says_2 : decode cX9_says 2 = .ok (.bipush 7, 2) := by decide +kernel
theorem dX9_says_4 : decode cX9_says 4 = .ok (.invokestatic 86, 3) := by decide +kernel
theorem dX9_says_7 : decode cX9_says 7 = .ok (.ifCond .eq 13, 3) := by decide +kernel
theorem dX9_says_10 : decode cX9_says 10 = .ok (.iload_n 2, 1) := by decide +kernel
theorem dX9_says_11 : decode cX9_says 11 = .ok (.iconst 0, 1) := by decide +kernel
theorem dX9_says_12 : decode cX9_says 12 = .ok (.bipush 6, 2) := by decide +kernel
theorem dX9_says_14 : decode cX9_says 14 = .ok (.invokestatic 86, 3) := by decide +kernel
theorem dX9_says_17 : decode cX9_says 17 = .ok (.ifCond .ne 9, 3) := by decide +kernel
theorem dX9_says_20 : decode cX9_says 20 = .ok (.aload_n 0, 1) := by decide +kernel
theorem dX9_says_21 : decode cX9_says 21 = .ok (.iconst (-1), 1) := by decide +kernel
theorem dX9_says_22 : decode cX9_says 22 = .ok (.invokevirtual 79, 3) := by decide +kernel
theorem dX9_says_25 : decode cX9_says 25 = .ok (.ireturn, 1) := by decide +kernel
theorem dX9_says_26 : decode cX9_says 26 = .ok (.aload_n 0, 1) := by decide +kernel
theorem dX9_says_27 : decode cX9_says 27 = .ok (.getfield 38, 3) := by decide +kernel
theorem dX9_says_30 : decode cX9_says 30 = .ok (.iload_n 1, 1) := by decide +kernel
theorem dX9_says_31 : decode cX9_says 31 = .ok (.iaload, 1) := by decide +kernel
theorem dX9_says_32 : decode cX9_says 32 = .ok (.istore_n 3, 1) := by decide +kernel
theorem dX9_says_33 : decode cX9_says 33 = .ok (.iload_n 3, 1) := by decide +kernel
theorem dX9_says_34 : decode cX9_says 34 = .ok (.ifCond .lt 31, 3) := by decide +kernel
theorem dX9_says_37 : decode cX9_says 37 = .ok (.aload_n 0, 1) := by decide +kernel
theorem dX9_says_38 : decode cX9_says 38 = .ok (.iload_n 1, 1) := by decide +kernel
theorem dX9_says_39 : decode cX9_says 39 = .ok (.invokevirtual 97, 3) := by decide +kernel
theorem dX9_says_42 : decode cX9_says 42 = .ok (.ifCond .ne 16, 3) := by decide +kernel
theorem dX9_says_45 : decode cX9_says 45 = .ok (.aload_n 0, 1) := by decide +kernel
theorem dX9_says_46 : decode cX9_says 46 = .ok (.getfield 7, 3) := by decide +kernel
theorem dX9_says_49 : decode cX9_says 49 = .ok (.iload_n 3, 1) := by decide +kernel
theorem dX9_says_50 : decode cX9_says 50 = .ok (.iaload, 1) := by decide +kernel
theorem dX9_says_51 : decode cX9_says 51 = .ok (.iload_n 2, 1) := by decide +kernel
theorem dX9_says_52 : decode cX9_says 52 = .ok (.invokestatic 109, 3) := by decide +kernel
theorem dX9_says_55 : decode cX9_says 55 = .ok (.ifCond .ne 10, 3) := by decide +kernel
theorem dX9_says_58 : decode cX9_says 58 = .ok (.aload_n 0, 1) := by decide +kernel
theorem dX9_says_59 : decode cX9_says 59 = .ok (.bipush (-2), 2) := by decide +kernel
theorem dX9_says_61 : decode cX9_says 61 = .ok (.invokevirtual 79, 3) := by decide +kernel
theorem dX9_says_64 : decode cX9_says 64 = .ok (.ireturn, 1) := by decide +kernel
theorem dX9_says_65 : decode cX9_says 65 = .ok (.iload_n 3, 1) := by decide +kernel
theorem dX9_says_66 : decode cX9_says 66 = .ok (.ifCond .ge 10, 3) := by decide +kernel
theorem dX9_says_69 : decode cX9_says 69 = .ok (.aload_n 0, 1) := by decide +kernel
theorem dX9_says_70 : decode cX9_says 70 = .ok (.bipush (-3), 2) := by decide +kernel
theorem dX9_says_72 : decode cX9_says 72 = .ok (.invokevirtual 79, 3) := by decide +kernel
theorem dX9_says_75 : decode cX9_says 75 = .ok (.ireturn, 1) := by decide +kernel
theorem dX9_says_76 : decode cX9_says 76 = .ok (.iload_n 2, 1) := by decide +kernel
theorem dX9_says_77 : decode cX9_says 77 = .ok (.tableswitch 64 0 6 #[43, 50, 57, 50, 64, 64, 57], 43) := by decide +kernel
theorem dX9_says_120 : decode cX9_says 120 = .ok (.aload_n 0, 1) := by decide +kernel
theorem dX9_says_121 : decode cX9_says 121 = .ok (.getfield 16, 3) := by decide +kernel
theorem dX9_says_124 : decode cX9_says 124 = .ok (.iload_n 3, 1) := by decide +kernel
theorem dX9_says_125 : decode cX9_says 125 = .ok (.iaload, 1) := by decide +kernel
theorem dX9_says_126 : decode cX9_says 126 = .ok (.ireturn, 1) := by decide +kernel
theorem dX9_says_127 : decode cX9_says 127 = .ok (.aload_n 0, 1) := by decide +kernel
theorem dX9_says_128 : decode cX9_says 128 = .ok (.getfield 19, 3) := by decide +kernel
theorem dX9_says_131 : decode cX9_says 131 = .ok (.iload_n 3, 1) := by decide +kernel
theorem dX9_says_132 : decode cX9_says 132 = .ok (.iaload, 1) := by decide +kernel
theorem dX9_says_133 : decode cX9_says 133 = .ok (.ireturn, 1) := by decide +kernel
theorem dX9_says_134 : decode cX9_says 134 = .ok (.aload_n 0, 1) := by decide +kernel
theorem dX9_says_135 : decode cX9_says 135 = .ok (.getfield 13, 3) := by decide +kernel
theorem dX9_says_138 : decode cX9_says 138 = .ok (.iload_n 3, 1) := by decide +kernel
theorem dX9_says_139 : decode cX9_says 139 = .ok (.iaload, 1) := by decide +kernel
theorem dX9_says_140 : decode cX9_says 140 = .ok (.ireturn, 1) := by decide +kernel
theorem dX9_says_141 : decode cX9_says 141 = .ok (.aload_n 0, 1) := by decide +kernel
theorem dX9_says_142 : decode cX9_says 142 = .ok (.iload_n 3, 1) := by decide +kernel
theorem dX9_says_143 : decode cX9_says 143 = .ok (.invokevirtual 113, 3) := by decide +kernel
theorem dX9_says_146 : decode cX9_says 146 = .ok (.invokestatic 117, 3) := by decide +kernel
theorem dX9_says_149 : decode cX9_says 149 = .ok (.ireturn, 1) := by decide +kernel
set_option maxRecDepth 20000 in
theorem c_X9_says {G : Gl} {d : Nat} {σ : Sg} {Z : Zt} (hZ : RelM Z σ) (hO : OkZ Z) {s : Int} (hs1 : -2147483648 ≤ s) (hs2 : s < 2147483648) {w : Int} (hw1 : -2147483648 ≤ w) (hw2 : w < 2147483648) : CT G (d + 6) yX9_says cX9_says 4 (some .int) [.ref (gA G 54), .int (iI s), .int (iI w)] σ (RE (some (.int (iI (qSays Z s w).1))) (fun υ => RelM (qSays Z s w).2 υ ∧ Fr MC σ υ)) := by
  refine CT.of (by decide +kernel) (Nat.le_of_ble_eq_true rfl) ?_
  change AW G _ RX9 _ _ _ 0 [(0, .ref (gA G 54)), (1, .int (iI s)), (2, .int (iI w))] [] _ _
  refine A_iload_n (pc := 0) dX9_says_0 rfl rfl ?_
  refine A_iconst (pc := 1) dX9_says_1 ?_
  refine A_bipush (pc := 2) dX9_says_2 (by decide) ?_
  refine A_callS1 (pc := 4) kX9_86 (c_X9_within (v := s) (a := 0) (b := 7) (by omega) (by omega) (by omega) (by omega) (by omega) (by omega)) dX9_says_4 rfl rfl (Nat.le_of_ble_eq_true rfl) (Nat.le_of_ble_eq_true rfl) ?_
  refine A_ifb_eq (pc := 7) 20 dX9_says_7 (by decide) (fun h7 => ?_) (fun h7 => ?_)
  · skip
    refine A_aload_n (pc := 20) dX9_says_20 rfl rfl ?_
    refine A_iconst (pc := 21) dX9_says_21 ?_
    refine A_callVe (pc := 22) kX9_79 rfl rfl (c_X9_no hZ hO (t := -1) (by omega) (by omega)) dX9_says_22 rfl rfl (Nat.le_of_ble_eq_true rfl) (Nat.le_of_ble_eq_true rfl) (fun υ hυ => ?_)
    refine A_iret (pc := 25) rfl dX9_says_25 ?_
    exact RQM (by unfold qSays; rw [if_pos (by omega)]; rfl) hυ.1 (hυ.2.mono MC70)
  · skip
    refine A_iload_n (pc := 10) dX9_says_10 rfl rfl ?_
    refine A_iconst (pc := 11) dX9_says_11 ?_
    refine A_bipush (pc := 12) dX9_says_12 (by decide) ?_
    refine A_callS1 (pc := 14) kX9_86 (c_X9_within (v := w) (a := 0) (b := 6) (by omega) (by omega) (by omega) (by omega) (by omega) (by omega)) dX9_says_14 rfl rfl (Nat.le_of_ble_eq_true rfl) (Nat.le_of_ble_eq_true rfl) ?_
    refine A_ifb_ne (pc := 17) 26 dX9_says_17 (by decide) (fun h17 => ?_) (fun h17 => ?_)
    · skip
      obtain ⟨k, rfl⟩ := Int.eq_ofNat_of_zero_le (show 0 ≤ s by omega)
      have k8 : k < 8 := by omega
      have ks := hZ.2.1 k k8
      have ko := hO.2.1 k k8
      obtain ⟨kb1, kb2, kb3, kb4⟩ := ko.1
      refine A_aload_n (pc := 26) dX9_says_26 rfl rfl ?_
      refine A_getR (pc := 27) fX9_38 rfl rfl dX9_says_27 ?_
      refine A_iload_n (pc := 30) dX9_says_30 rfl rfl ?_
      refine A_ialdv (pc := 31) _ rfl rfl (by omega) (Nat.le_of_ble_eq_true rfl) ks.1 dX9_says_31 ?_
      refine A_istore_n (pc := 32) dX9_says_32 rfl (Nat.le_of_ble_eq_true rfl) ?_
      refine A_iload_n (pc := 33) dX9_says_33 rfl rfl ?_
      refine A_if_lt (pc := 34) 65 dX9_says_34 (by decide) (by omega) (by omega) (fun h34 => ?_) (fun h34 => ?_)
      · skip
        refine A_iload_n (pc := 65) dX9_says_65 rfl rfl ?_
        refine A_if_ge (pc := 66) 76 dX9_says_66 (by decide) (by omega) (by omega) (fun h66 => ?_) (fun h66 => ?_)
        · skip
          exfalso; omega
        · skip
          refine A_aload_n (pc := 69) dX9_says_69 rfl rfl ?_
          refine A_bipush (pc := 70) dX9_says_70 (by decide) ?_
          refine A_callVe (pc := 72) kX9_79 rfl rfl (c_X9_no hZ hO (t := -3) (by omega) (by omega)) dX9_says_72 rfl rfl (Nat.le_of_ble_eq_true rfl) (Nat.le_of_ble_eq_true rfl) (fun υ hυ => ?_)
          refine A_iret (pc := 75) rfl dX9_says_75 ?_
          exact RQM (by unfold qSays; simp only [Int.toNat_natCast]; rw [if_neg (by omega), if_neg (by omega), if_pos (by omega)]; rfl) hυ.1 (hυ.2.mono MC70)
      · skip
        obtain ⟨p, hp⟩ := Int.eq_ofNat_of_zero_le (show 0 ≤ Z.2.1.1 k by omega)
        have hpn : Z.2.1.1 k < 100 → (p : Int) < Z.1.2.1 0 := fun z => by have := ko.2 z; omega
        refine A_aload_n (pc := 37) dX9_says_37 rfl rfl ?_
        refine A_iload_n (pc := 38) dX9_says_38 rfl rfl ?_
        refine A_callV1 (pc := 39) kX9_97 rfl rfl (c_X9_isRow hZ hO k8) dX9_says_39 rfl rfl (Nat.le_of_ble_eq_true rfl) (Nat.le_of_ble_eq_true rfl) ?_
        refine A_ifb_ne (pc := 42) 58 dX9_says_42 (by decide) (fun h42 => ?_) (fun h42 => ?_)
        · skip
          refine A_aload_n (pc := 58) dX9_says_58 rfl rfl ?_
          refine A_bipush (pc := 59) dX9_says_59 (by decide) ?_
          refine A_callVe (pc := 61) kX9_79 rfl rfl (c_X9_no hZ hO (t := -2) (by omega) (by omega)) dX9_says_61 rfl rfl (Nat.le_of_ble_eq_true rfl) (Nat.le_of_ble_eq_true rfl) (fun υ hυ => ?_)
          refine A_iret (pc := 64) rfl dX9_says_64 ?_
          exact RQM (by unfold qSays; simp only [Int.toNat_natCast]; rw [if_neg (by omega), if_pos (by omega)]; rfl) hυ.1 (hυ.2.mono MC70)
        · skip
          have hpn2 := hpn (by omega)
          have hnp := hO.1.2.2.1
          have hq8 := hO.1.2.2.2.2.2.2.2.1 p hpn2
          rw [hp]
          refine A_aload_n (pc := 45) dX9_says_45 rfl rfl ?_
          refine A_getR (pc := 46) fX9_7 rfl rfl dX9_says_46 ?_
          refine A_iload_n (pc := 49) dX9_says_49 rfl rfl ?_
          refine A_ialdv (pc := 50) _ rfl rfl (by omega) (Nat.le_of_ble_eq_true rfl) (hZ.1.kind (p := p) hpn2) dX9_says_50 ?_
          refine A_iload_n (pc := 51) dX9_says_51 rfl rfl ?_
          refine A_callS1 (pc := 52) kX9_109 (c_X9_isUnder (by omega) (by omega) hw1 hw2) dX9_says_52 rfl rfl (Nat.le_of_ble_eq_true rfl) (Nat.le_of_ble_eq_true rfl) ?_
          refine A_ifb_ne (pc := 55) 65 dX9_says_55 (by decide) (fun h55 => ?_) (fun h55 => ?_)
          · skip
            refine A_iload_n (pc := 65) dX9_says_65 rfl rfl ?_
            refine A_if_ge (pc := 66) 76 dX9_says_66 (by decide) (by omega) (by omega) (fun h66 => ?_) (fun h66 => ?_)
            · skip
              refine A_iload_n (pc := 76) dX9_says_76 rfl rfl ?_
              refine A_tsw (pc := 77) [(0, 120), (1, 127), (2, 134), (3, 127), (4, 141), (5, 141), (6, 134)] 141 dX9_says_77 (by decide) (by decide) (by decide) (by omega) (by omega) ?_
              refine ⟨fun h77 => ?_, fun h77n0 => ?_⟩
              · skip
                refine A_aload_n (pc := 120) dX9_says_120 rfl rfl ?_
                refine A_getR (pc := 121) fX9_16 rfl rfl dX9_says_121 ?_
                refine A_iload_n (pc := 124) dX9_says_124 rfl rfl ?_
                refine A_ialdv (pc := 125) _ rfl rfl (by omega) (Nat.le_of_ble_eq_true rfl) (hZ.1.at (p := p) hpn2) dX9_says_125 ?_
                refine A_iret (pc := 126) rfl dX9_says_126 ?_
                exact RQM (by unfold qSays saysV; simp only [Int.toNat_natCast, hp]; rw [if_neg (by omega), if_neg (by omega), if_neg (by omega), if_pos h55, if_neg (by omega), if_neg (by omega), if_neg (by omega)]) hZ Fr.rf
              refine ⟨fun h77 => ?_, fun h77n1 => ?_⟩
              · skip
                refine A_aload_n (pc := 127) dX9_says_127 rfl rfl ?_
                refine A_getR (pc := 128) fX9_19 rfl rfl dX9_says_128 ?_
                refine A_iload_n (pc := 131) dX9_says_131 rfl rfl ?_
                refine A_ialdv (pc := 132) _ rfl rfl (by omega) (Nat.le_of_ble_eq_true rfl) (hZ.1.out (p := p) hpn2) dX9_says_132 ?_
                refine A_iret (pc := 133) rfl dX9_says_133 ?_
                exact RQM (by unfold qSays saysV; simp only [Int.toNat_natCast, hp]; rw [if_neg (by omega), if_neg (by omega), if_neg (by omega), if_pos h55, if_pos (by omega)]) hZ Fr.rf
              refine ⟨fun h77 => ?_, fun h77n2 => ?_⟩
              · skip
                refine A_aload_n (pc := 134) dX9_says_134 rfl rfl ?_
                refine A_getR (pc := 135) fX9_13 rfl rfl dX9_says_135 ?_
                refine A_iload_n (pc := 138) dX9_says_138 rfl rfl ?_
                refine A_ialdv (pc := 139) _ rfl rfl (by omega) (Nat.le_of_ble_eq_true rfl) (hZ.1.a (p := p) hpn2) dX9_says_139 ?_
                refine A_iret (pc := 140) rfl dX9_says_140 ?_
                exact RQM (by unfold qSays saysV; simp only [Int.toNat_natCast, hp]; rw [if_neg (by omega), if_neg (by omega), if_neg (by omega), if_pos h55, if_neg (by omega), if_pos (by omega)]) hZ Fr.rf
              refine ⟨fun h77 => ?_, fun h77n3 => ?_⟩
              · skip
                refine A_aload_n (pc := 127) dX9_says_127 rfl rfl ?_
                refine A_getR (pc := 128) fX9_19 rfl rfl dX9_says_128 ?_
                refine A_iload_n (pc := 131) dX9_says_131 rfl rfl ?_
                refine A_ialdv (pc := 132) _ rfl rfl (by omega) (Nat.le_of_ble_eq_true rfl) (hZ.1.out (p := p) hpn2) dX9_says_132 ?_
                refine A_iret (pc := 133) rfl dX9_says_133 ?_
                exact RQM (by unfold qSays saysV; simp only [Int.toNat_natCast, hp]; rw [if_neg (by omega), if_neg (by omega), if_neg (by omega), if_pos h55, if_pos (by omega)]) hZ Fr.rf
              refine ⟨fun h77 => ?_, fun h77n4 => ?_⟩
              · skip
                refine A_aload_n (pc := 141) dX9_says_141 rfl rfl ?_
                refine A_iload_n (pc := 142) dX9_says_142 rfl rfl ?_
                refine A_callV1 (pc := 143) kX9_113 rfl rfl (c_X9_sees hZ.1 hO.1 (p := p) (hpn (by omega))) dX9_says_143 rfl rfl (Nat.le_of_ble_eq_true rfl) (Nat.le_of_ble_eq_true rfl) ?_
                refine A_callS1 (pc := 146) kX9_117 (c_J13_bitCount_95d88) dX9_says_146 rfl rfl (Nat.le_of_ble_eq_true rfl) (Nat.le_of_ble_eq_true rfl) ?_
                refine A_iret (pc := 149) rfl dX9_says_149 ?_
                exact RQM (by unfold qSays saysV; simp only [Int.toNat_natCast, hp]; rw [if_neg (by omega), if_neg (by omega), if_neg (by omega), if_pos h55, if_neg (by omega), if_neg (by omega), if_pos (by omega)]) hZ Fr.rf
              refine ⟨fun h77 => ?_, fun h77n5 => ?_⟩
              · skip
                refine A_aload_n (pc := 141) dX9_says_141 rfl rfl ?_
                refine A_iload_n (pc := 142) dX9_says_142 rfl rfl ?_
                refine A_callV1 (pc := 143) kX9_113 rfl rfl (c_X9_sees hZ.1 hO.1 (p := p) (hpn (by omega))) dX9_says_143 rfl rfl (Nat.le_of_ble_eq_true rfl) (Nat.le_of_ble_eq_true rfl) ?_
                refine A_callS1 (pc := 146) kX9_117 (c_J13_bitCount_95d88) dX9_says_146 rfl rfl (Nat.le_of_ble_eq_true rfl) (Nat.le_of_ble_eq_true rfl) ?_
                refine A_iret (pc := 149) rfl dX9_says_149 ?_
                exact RQM (by unfold qSays saysV; simp only [Int.toNat_natCast, hp]; rw [if_neg (by omega), if_neg (by omega), if_neg (by omega), if_pos h55, if_neg (by omega), if_neg (by omega), if_pos (by omega)]) hZ Fr.rf
              refine ⟨fun h77 => ?_, fun h77n6 => ?_⟩
              · skip
                refine A_aload_n (pc := 134) dX9_says_134 rfl rfl ?_
                refine A_getR (pc := 135) fX9_13 rfl rfl dX9_says_135 ?_
                refine A_iload_n (pc := 138) dX9_says_138 rfl rfl ?_
                refine A_ialdv (pc := 139) _ rfl rfl (by omega) (Nat.le_of_ble_eq_true rfl) (hZ.1.a (p := p) hpn2) dX9_says_139 ?_
                refine A_iret (pc := 140) rfl dX9_says_140 ?_
                exact RQM (by unfold qSays saysV; simp only [Int.toNat_natCast, hp]; rw [if_neg (by omega), if_neg (by omega), if_neg (by omega), if_pos h55, if_neg (by omega), if_pos (by omega)]) hZ Fr.rf
              change AW G _ _ _ _ _ 141 _ _ _ _
              refine A_aload_n (pc := 141) dX9_says_141 rfl rfl ?_
              refine A_iload_n (pc := 142) dX9_says_142 rfl rfl ?_
              refine A_callV1 (pc := 143) kX9_113 rfl rfl (c_X9_sees hZ.1 hO.1 (p := p) (hpn (by omega))) dX9_says_143 rfl rfl (Nat.le_of_ble_eq_true rfl) (Nat.le_of_ble_eq_true rfl) ?_
              refine A_callS1 (pc := 146) kX9_117 (c_J13_bitCount_95d88) dX9_says_146 rfl rfl (Nat.le_of_ble_eq_true rfl) (Nat.le_of_ble_eq_true rfl) ?_
              refine A_iret (pc := 149) rfl dX9_says_149 ?_
              exact RQM (by unfold qSays saysV; simp only [Int.toNat_natCast, hp]; rw [if_neg (by omega), if_neg (by omega), if_neg (by omega), if_pos h55, if_neg (by omega), if_neg (by omega), if_pos (by omega)]) hZ Fr.rf
            · skip
              refine A_aload_n (pc := 69) dX9_says_69 rfl rfl ?_
              refine A_bipush (pc := 70) dX9_says_70 (by decide) ?_
              refine A_callVe (pc := 72) kX9_79 rfl rfl (c_X9_no hZ hO (t := -3) (by omega) (by omega)) dX9_says_72 rfl rfl (Nat.le_of_ble_eq_true rfl) (Nat.le_of_ble_eq_true rfl) (fun υ hυ => ?_)
              refine A_iret (pc := 75) rfl dX9_says_75 ?_
              exfalso; omega
          · skip
            refine A_aload_n (pc := 58) dX9_says_58 rfl rfl ?_
            refine A_bipush (pc := 59) dX9_says_59 (by decide) ?_
            refine A_callVe (pc := 61) kX9_79 rfl rfl (c_X9_no hZ hO (t := -2) (by omega) (by omega)) dX9_says_61 rfl rfl (Nat.le_of_ble_eq_true rfl) (Nat.le_of_ble_eq_true rfl) (fun υ hυ => ?_)
            refine A_iret (pc := 64) rfl dX9_says_64 ?_
            exact RQM (by unfold qSays; simp only [Int.toNat_natCast, hp]; rw [if_neg (by omega), if_neg (by omega), if_neg (by omega), if_neg h55]; rfl) hυ.1 (hυ.2.mono MC70)
    · skip
      refine A_aload_n (pc := 20) dX9_says_20 rfl rfl ?_
      refine A_iconst (pc := 21) dX9_says_21 ?_
      refine A_callVe (pc := 22) kX9_79 rfl rfl (c_X9_no hZ hO (t := -1) (by omega) (by omega)) dX9_says_22 rfl rfl (Nat.le_of_ble_eq_true rfl) (Nat.le_of_ble_eq_true rfl) (fun υ hυ => ?_)
      refine A_iret (pc := 25) rfl dX9_says_25 ?_
      exact RQM (by unfold qSays; rw [if_pos (by omega)]; rfl) hυ.1 (hυ.2.mono MC70)
theorem copyT_m1 {Z : Zt} {p q i j n : Int} (h : ¬ ((0 ≤ p ∧ p < 8) ∧ (0 ≤ q ∧ q < 8))) : copyT Z p q i j n = -1 := by unfold copyT; rw [if_pos h]
abbrev cpBad (A B : Int) : Prop := (0 ≤ A ∧ A < 100) ∨ (0 ≤ B ∧ B < 100) ∨ (100 ≤ A ∧ 100 ≤ B ∧ A ≠ B)
theorem copyT_m2 {Z : Zt} {k m : Nat} {i j n : Int} (k8 : k < 8) (m8 : m < 8) (h : cpBad (Z.2.1.1 k) (Z.2.1.1 m)) : copyT Z (k : Int) (m : Int) i j n = -2 := by
  unfold copyT; simp only [Int.toNat_natCast]; rw [if_neg (by omega), if_pos h]
theorem copyT_ok {Z : Zt} {k m : Nat} {i j n : Int} (k8 : k < 8) (m8 : m < 8) (h : ¬ cpBad (Z.2.1.1 k) (Z.2.1.1 m)) : copyT Z (k : Int) (m : Int) i j n = if ¬ (100 ≤ Z.2.1.1 k ∧ 100 ≤ Z.2.1.1 m) then -3 else if n < 0 then -4 else if 0 ≤ i ∧ i + n ≤ Z.2.1.2.1 k ∧ 0 ≤ j ∧ j + n ≤ Z.2.1.2.1 m then 0 else -5 := by
  unfold copyT; simp only [Int.toNat_natCast]; rw [if_neg (by omega), if_neg h]
theorem dX9_copy_0 : decode cX9_copy 0 = .ok (.iload_n 1, 1) := by decide +kernel
theorem dX9_copy_1 : decode cX9_copy 1 = .ok (.iconst 0, 1) := by decide +kernel
theorem dX9_copy_2 : decode cX9_copy 2 = .ok (.bipush 7, 2) := by decide +kernel
theorem dX9_copy_4 : decode cX9_copy 4 = .ok (.invokestatic 86, 3) := by decide +kernel
theorem dX9_copy_7 : decode cX9_copy 7 = .ok (.ifCond .eq 13, 3) := by decide +kernel
theorem dX9_copy_10 : decode cX9_copy 10 = .ok (.iload_n 2, 1) := by decide +kernel
theorem dX9_copy_11 : decode cX9_copy 11 = .ok (.iconst 0, 1) := by decide +kernel
theorem dX9_copy_12 : decode cX9_copy 12 = .ok (.bipush 7, 2) := by decide +kernel
theorem dX9_copy_14 : decode cX9_copy 14 = .ok (.invokestatic 86, 3) := by decide +kernel
theorem dX9_copy_17 : decode cX9_copy 17 = .ok (.ifCond .ne 9, 3) := by decide +kernel
theorem dX9_copy_20 : decode cX9_copy 20 = .ok (.aload_n 0, 1) := by decide +kernel
theorem dX9_copy_21 : decode cX9_copy 21 = .ok (.iconst (-1), 1) := by decide +kernel
theorem dX9_copy_22 : decode cX9_copy 22 = .ok (.invokevirtual 79, 3) := by decide +kernel
theorem dX9_copy_25 : decode cX9_copy 25 = .ok (.ireturn, 1) := by decide +kernel
theorem dX9_copy_26 : decode cX9_copy 26 = .ok (.aload_n 0, 1) := by decide +kernel
theorem dX9_copy_27 : decode cX9_copy 27 = .ok (.getfield 38, 3) := by decide +kernel
theorem dX9_copy_30 : decode cX9_copy 30 = .ok (.iload_n 1, 1) := by decide +kernel
theorem dX9_copy_31 : decode cX9_copy 31 = .ok (.iaload, 1) := by decide +kernel
theorem dX9_copy_32 : decode cX9_copy 32 = .ok (.ifCond .lt 11, 3) := by decide +kernel
theorem dX9_copy_35 : decode cX9_copy 35 = .ok (.aload_n 0, 1) := by decide +kernel
theorem dX9_copy_36 : decode cX9_copy 36 = .ok (.iload_n 1, 1) := by decide +kernel
theorem dX9_copy_37 : decode cX9_copy 37 = .ok (.invokevirtual 97, 3) := by decide +kernel
theorem dX9_copy_40 : decode cX9_copy 40 = .ok (.ifCond .eq 51, 3) := by decide +kernel
theorem dX9_copy_43 : decode cX9_copy 43 = .ok (.aload_n 0, 1) := by decide +kernel
theorem dX9_copy_44 : decode cX9_copy 44 = .ok (.getfield 38, 3) := by decide +kernel
theorem dX9_copy_47 : decode cX9_copy 47 = .ok (.iload_n 2, 1) := by decide +kernel
theorem dX9_copy_48 : decode cX9_copy 48 = .ok (.iaload, 1) := by decide +kernel
theorem dX9_copy_49 : decode cX9_copy 49 = .ok (.ifCond .lt 11, 3) := by decide +kernel
theorem dX9_copy_52 : decode cX9_copy 52 = .ok (.aload_n 0, 1) := by decide +kernel
theorem dX9_copy_53 : decode cX9_copy 53 = .ok (.iload_n 2, 1) := by decide +kernel
theorem dX9_copy_54 : decode cX9_copy 54 = .ok (.invokevirtual 97, 3) := by decide +kernel
theorem dX9_copy_57 : decode cX9_copy 57 = .ok (.ifCond .eq 34, 3) := by decide +kernel
theorem dX9_copy_60 : decode cX9_copy 60 = .ok (.aload_n 0, 1) := by decide +kernel
theorem dX9_copy_61 : decode cX9_copy 61 = .ok (.iload_n 1, 1) := by decide +kernel
theorem dX9_copy_62 : decode cX9_copy 62 = .ok (.invokevirtual 97, 3) := by decide +kernel
theorem dX9_copy_65 : decode cX9_copy 65 = .ok (.ifCond .eq 33, 3) := by decide +kernel
theorem dX9_copy_68 : decode cX9_copy 68 = .ok (.aload_n 0, 1) := by decide +kernel
theorem dX9_copy_69 : decode cX9_copy 69 = .ok (.iload_n 2, 1) := by decide +kernel
theorem dX9_copy_70 : decode cX9_copy 70 = .ok (.invokevirtual 97, 3) := by decide +kernel
theorem dX9_copy_73 : decode cX9_copy 73 = .ok (.ifCond .eq 25, 3) := by decide +kernel
theorem dX9_copy_76 : decode cX9_copy 76 = .ok (.aload_n 0, 1) := by decide +kernel
theorem dX9_copy_77 : decode cX9_copy 77 = .ok (.getfield 38, 3) := by decide +kernel
theorem dX9_copy_80 : decode cX9_copy 80 = .ok (.iload_n 1, 1) := by decide +kernel
theorem dX9_copy_81 : decode cX9_copy 81 = .ok (.iaload, 1) := by decide +kernel
theorem dX9_copy_82 : decode cX9_copy 82 = .ok (.aload_n 0, 1) := by decide +kernel
theorem dX9_copy_83 : decode cX9_copy 83 = .ok (.getfield 38, 3) := by decide +kernel
theorem dX9_copy_86 : decode cX9_copy 86 = .ok (.iload_n 2, 1) := by decide +kernel
theorem dX9_copy_87 : decode cX9_copy 87 = .ok (.iaload, 1) := by decide +kernel
theorem dX9_copy_88 : decode cX9_copy 88 = .ok (.if_icmp .eq 10, 3) := by decide +kernel
theorem dX9_copy_91 : decode cX9_copy 91 = .ok (.aload_n 0, 1) := by decide +kernel
theorem dX9_copy_92 : decode cX9_copy 92 = .ok (.bipush (-2), 2) := by decide +kernel
theorem dX9_copy_94 : decode cX9_copy 94 = .ok (.invokevirtual 79, 3) := by decide +kernel
theorem dX9_copy_97 : decode cX9_copy 97 = .ok (.ireturn, 1) := by decide +kernel
theorem dX9_copy_98 : decode cX9_copy 98 = .ok (.aload_n 0, 1) := by decide +kernel
theorem dX9_copy_99 : decode cX9_copy 99 = .ok (.getfield 38, 3) := by decide +kernel
theorem dX9_copy_102 : decode cX9_copy 102 = .ok (.iload_n 1, 1) := by decide +kernel
theorem dX9_copy_103 : decode cX9_copy 103 = .ok (.iaload, 1) := by decide +kernel
theorem dX9_copy_104 : decode cX9_copy 104 = .ok (.ifCond .lt 12, 3) := by decide +kernel
theorem dX9_copy_107 : decode cX9_copy 107 = .ok (.aload_n 0, 1) := by decide +kernel
theorem dX9_copy_108 : decode cX9_copy 108 = .ok (.getfield 38, 3) := by decide +kernel
theorem dX9_copy_111 : decode cX9_copy 111 = .ok (.iload_n 2, 1) := by decide +kernel
theorem dX9_copy_112 : decode cX9_copy 112 = .ok (.iaload, 1) := by decide +kernel
theorem dX9_copy_113 : decode cX9_copy 113 = .ok (.ifCond .ge 10, 3) := by decide +kernel
theorem dX9_copy_116 : decode cX9_copy 116 = .ok (.aload_n 0, 1) := by decide +kernel
theorem dX9_copy_117 : decode cX9_copy 117 = .ok (.bipush (-3), 2) := by decide +kernel
theorem dX9_copy_119 : decode cX9_copy 119 = .ok (.invokevirtual 79, 3) := by decide +kernel
theorem dX9_copy_122 : decode cX9_copy 122 = .ok (.ireturn, 1) := by decide +kernel
theorem dX9_copy_123 : decode cX9_copy 123 = .ok (.iload 5, 2) := by decide +kernel
theorem dX9_copy_125 : decode cX9_copy 125 = .ok (.ifCond .ge 10, 3) := by decide +kernel
theorem dX9_copy_128 : decode cX9_copy 128 = .ok (.aload_n 0, 1) := by decide +kernel
theorem dX9_copy_129 : decode cX9_copy 129 = .ok (.bipush (-4), 2) := by decide +kernel
theorem dX9_copy_131 : decode cX9_copy 131 = .ok (.invokevirtual 79, 3) := by decide +kernel
theorem dX9_copy_134 : decode cX9_copy 134 = .ok (.ireturn, 1) := by decide +kernel
theorem dX9_copy_135 : decode cX9_copy 135 = .ok (.iload_n 3, 1) := by decide +kernel
theorem dX9_copy_136 : decode cX9_copy 136 = .ok (.ifCond .lt 43, 3) := by decide +kernel
theorem dX9_copy_139 : decode cX9_copy 139 = .ok (.iload 4, 2) := by decide +kernel
theorem dX9_copy_141 : decode cX9_copy 141 = .ok (.ifCond .lt 38, 3) := by decide +kernel
theorem dX9_copy_144 : decode cX9_copy 144 = .ok (.iload_n 3, 1) := by decide +kernel
theorem dX9_copy_145 : decode cX9_copy 145 = .ok (.i2l, 1) := by decide +kernel
theorem dX9_copy_146 : decode cX9_copy 146 = .ok (.iload 5, 2) := by decide +kernel
theorem dX9_copy_148 : decode cX9_copy 148 = .ok (.i2l, 1) := by decide +kernel
theorem dX9_copy_149 : decode cX9_copy 149 = .ok (.ladd, 1) := by decide +kernel
theorem dX9_copy_150 : decode cX9_copy 150 = .ok (.aload_n 0, 1) := by decide +kernel
theorem dX9_copy_151 : decode cX9_copy 151 = .ok (.getfield 41, 3) := by decide +kernel
theorem dX9_copy_154 : decode cX9_copy 154 = .ok (.iload_n 1, 1) := by decide +kernel
theorem dX9_copy_155 : decode cX9_copy 155 = .ok (.iaload, 1) := by decide +kernel
theorem dX9_copy_156 : decode cX9_copy 156 = .ok (.i2l, 1) := by decide +kernel
theorem dX9_copy_157 : decode cX9_copy 157 = .ok (.lcmp, 1) := by decide +kernel
theorem dX9_copy_158 : decode cX9_copy 158 = .ok (.ifCond .gt 21, 3) := by decide +kernel
theorem dX9_copy_161 : decode cX9_copy 161 = .ok (.iload 4, 2) := by decide +kernel
theorem dX9_copy_163 : decode cX9_copy 163 = .ok (.i2l, 1) := by decide +kernel
theorem dX9_copy_164 : decode cX9_copy 164 = .ok (.iload 5, 2) := by decide +kernel
theorem dX9_copy_166 : decode cX9_copy 166 = .ok (.i2l, 1) := by decide +kernel
theorem dX9_copy_167 : decode cX9_copy 167 = .ok (.ladd, 1) := by decide +kernel
theorem dX9_copy_168 : decode cX9_copy 168 = .ok (.aload_n 0, 1) := by decide +kernel
theorem dX9_copy_169 : decode cX9_copy 169 = .ok (.getfield 41, 3) := by decide +kernel
theorem dX9_copy_172 : decode cX9_copy 172 = .ok (.iload_n 2, 1) := by decide +kernel
theorem dX9_copy_173 : decode cX9_copy 173 = .ok (.iaload, 1) := by decide +kernel
theorem dX9_copy_174 : decode cX9_copy 174 = .ok (.i2l, 1) := by decide +kernel
theorem dX9_copy_175 : decode cX9_copy 175 = .ok (.lcmp, 1) := by decide +kernel
theorem dX9_copy_176 : decode cX9_copy 176 = .ok (.ifCond .le 10, 3) := by decide +kernel
theorem dX9_copy_179 : decode cX9_copy 179 = .ok (.aload_n 0, 1) := by decide +kernel
theorem dX9_copy_180 : decode cX9_copy 180 = .ok (.bipush (-5), 2) := by decide +kernel
theorem dX9_copy_182 : decode cX9_copy 182 = .ok (.invokevirtual 79, 3) := by decide +kernel
theorem dX9_copy_185 : decode cX9_copy 185 = .ok (.ireturn, 1) := by decide +kernel
theorem dX9_copy_186 : decode cX9_copy 186 = .ok (.iload_n 1, 1) := by decide +kernel
theorem dX9_copy_187 : decode cX9_copy 187 = .ok (.iload_n 2, 1) := by decide +kernel
theorem dX9_copy_188 : decode cX9_copy 188 = .ok (.if_icmp .ne 60, 3) := by decide +kernel
theorem dX9_copy_191 : decode cX9_copy 191 = .ok (.iload_n 3, 1) := by decide +kernel
theorem dX9_copy_192 : decode cX9_copy 192 = .ok (.iload 4, 2) := by decide +kernel
theorem dX9_copy_194 : decode cX9_copy 194 = .ok (.if_icmp .ge 54, 3) := by decide +kernel
theorem dX9_copy_197 : decode cX9_copy 197 = .ok (.iload 5, 2) := by decide +kernel
theorem dX9_copy_199 : decode cX9_copy 199 = .ok (.iconst 1, 1) := by decide +kernel
theorem dX9_copy_200 : decode cX9_copy 200 = .ok (.isub, 1) := by decide +kernel
theorem dX9_copy_201 : decode cX9_copy 201 = .ok (.istore 6, 2) := by decide +kernel
theorem dX9_copy_203 : decode cX9_copy 203 = .ok (.iload 6, 2) := by decide +kernel
theorem dX9_copy_205 : decode cX9_copy 205 = .ok (.ifCond .lt 40, 3) := by decide +kernel
theorem dX9_copy_208 : decode cX9_copy 208 = .ok (.aload_n 0, 1) := by decide +kernel
theorem dX9_copy_209 : decode cX9_copy 209 = .ok (.getfield 44, 3) := by decide +kernel
theorem dX9_copy_212 : decode cX9_copy 212 = .ok (.sipush 160, 3) := by decide +kernel
theorem dX9_copy_215 : decode cX9_copy 215 = .ok (.iload_n 2, 1) := by decide +kernel
theorem dX9_copy_216 : decode cX9_copy 216 = .ok (.imul, 1) := by decide +kernel
theorem dX9_copy_217 : decode cX9_copy 217 = .ok (.iload 4, 2) := by decide +kernel
theorem dX9_copy_219 : decode cX9_copy 219 = .ok (.iadd, 1) := by decide +kernel
theorem dX9_copy_220 : decode cX9_copy 220 = .ok (.iload 6, 2) := by decide +kernel
theorem dX9_copy_222 : decode cX9_copy 222 = .ok (.iadd, 1) := by decide +kernel
theorem dX9_copy_223 : decode cX9_copy 223 = .ok (.aload_n 0, 1) := by decide +kernel
theorem dX9_copy_224 : decode cX9_copy 224 = .ok (.getfield 44, 3) := by decide +kernel
theorem dX9_copy_227 : decode cX9_copy 227 = .ok (.sipush 160, 3) := by decide +kernel
theorem dX9_copy_230 : decode cX9_copy 230 = .ok (.iload_n 1, 1) := by decide +kernel
theorem dX9_copy_231 : decode cX9_copy 231 = .ok (.imul, 1) := by decide +kernel
theorem dX9_copy_232 : decode cX9_copy 232 = .ok (.iload_n 3, 1) := by decide +kernel
theorem dX9_copy_233 : decode cX9_copy 233 = .ok (.iadd, 1) := by decide +kernel
theorem dX9_copy_234 : decode cX9_copy 234 = .ok (.iload 6, 2) := by decide +kernel
theorem dX9_copy_236 : decode cX9_copy 236 = .ok (.iadd, 1) := by decide +kernel
theorem dX9_copy_237 : decode cX9_copy 237 = .ok (.laload, 1) := by decide +kernel
theorem dX9_copy_238 : decode cX9_copy 238 = .ok (.lastore, 1) := by decide +kernel
theorem dX9_copy_239 : decode cX9_copy 239 = .ok (.iinc 6 (-1), 3) := by decide +kernel
theorem dX9_copy_242 : decode cX9_copy 242 = .ok (.goto (-39), 3) := by decide +kernel
theorem dX9_copy_245 : decode cX9_copy 245 = .ok (.goto 50, 3) := by decide +kernel
theorem dX9_copy_248 : decode cX9_copy 248 = .ok (.iconst 0, 1) := by decide +kernel
theorem dX9_copy_249 : decode cX9_copy 249 = .ok (.istore 6, 2) := by decide +kernel
theorem dX9_copy_251 : decode cX9_copy 251 = .ok (.iload 6, 2) := by decide +kernel
theorem dX9_copy_253 : decode cX9_copy 253 = .ok (.iload 5, 2) := by decide +kernel
theorem dX9_copy_255 : decode cX9_copy 255 = .ok (.if_icmp .ge 40, 3) := by decide +kernel
theorem dX9_copy_258 : decode cX9_copy 258 = .ok (.aload_n 0, 1) := by decide +kernel
theorem dX9_copy_259 : decode cX9_copy 259 = .ok (.getfield 44, 3) := by decide +kernel
theorem dX9_copy_262 : decode cX9_copy 262 = .ok (.sipush 160, 3) := by decide +kernel
theorem dX9_copy_265 : decode cX9_copy 265 = .ok (.iload_n 2, 1) := by decide +kernel
theorem dX9_copy_266 : decode cX9_copy 266 = .ok (.imul, 1) := by decide +kernel
theorem dX9_copy_267 : decode cX9_copy 267 = .ok (.iload 4, 2) := by decide +kernel
theorem dX9_copy_269 : decode cX9_copy 269 = .ok (.iadd, 1) := by decide +kernel
theorem dX9_copy_270 : decode cX9_copy 270 = .ok (.iload 6, 2) := by decide +kernel
theorem dX9_copy_272 : decode cX9_copy 272 = .ok (.iadd, 1) := by decide +kernel
theorem dX9_copy_273 : decode cX9_copy 273 = .ok (.aload_n 0, 1) := by decide +kernel
theorem dX9_copy_274 : decode cX9_copy 274 = .ok (.getfield 44, 3) := by decide +kernel
theorem dX9_copy_277 : decode cX9_copy 277 = .ok (.sipush 160, 3) := by decide +kernel
theorem dX9_copy_280 : decode cX9_copy 280 = .ok (.iload_n 1, 1) := by decide +kernel
theorem dX9_copy_281 : decode cX9_copy 281 = .ok (.imul, 1) := by decide +kernel
theorem dX9_copy_282 : decode cX9_copy 282 = .ok (.iload_n 3, 1) := by decide +kernel
theorem dX9_copy_283 : decode cX9_copy 283 = .ok (.iadd, 1) := by decide +kernel
theorem dX9_copy_284 : decode cX9_copy 284 = .ok (.iload 6, 2) := by decide +kernel
theorem dX9_copy_286 : decode cX9_copy 286 = .ok (.iadd, 1) := by decide +kernel
theorem dX9_copy_287 : decode cX9_copy 287 = .ok (.laload, 1) := by decide +kernel
theorem dX9_copy_288 : decode cX9_copy 288 = .ok (.lastore, 1) := by decide +kernel
theorem dX9_copy_289 : decode cX9_copy 289 = .ok (.iinc 6 1, 3) := by decide +kernel
theorem dX9_copy_292 : decode cX9_copy 292 = .ok (.goto (-41), 3) := by decide +kernel
theorem dX9_copy_295 : decode cX9_copy 295 = .ok (.iconst 1, 1) := by decide +kernel
theorem dX9_copy_296 : decode cX9_copy 296 = .ok (.ireturn, 1) := by decide +kernel
set_option maxRecDepth 20000 in
theorem l1_X9_copy {G : Gl} {d : Nat} {σ0 : Sg} {K : Option Value → Sg → Prop} {k m a b n : Nat} (k8 : k < 8) (m8 : m < 8) (ha : a + n ≤ 160) (hb : b + n ≤ 160) (hd : k ≠ m ∨ b ≤ a) : ∀ (u t : Nat) (σ : Sg), t + u = n → CpI σ0 σ k m a b 0 t → (∀ υ, CpI σ0 υ k m a b 0 n → K (some (.int (iI 1))) υ) → AW G d RX9 cX9_copy 7 (some .int) 251 [(0, .ref (gA G 54)), (1, .int (iI (k : Int))), (2, .int (iI (m : Int))), (3, .int (iI (a : Int))), (4, .int (iI (b : Int))), (5, .int (iI (n : Int))), (6, .int (iI (t : Int)))] [] σ K := by
  intro u
  induction u using Nat.strongRecOn
  rename_i u ih
  intro t σ hu hI hK
  refine A_iload (pc := 251) dX9_copy_251 rfl ?_
  refine A_iload (pc := 253) dX9_copy_253 rfl ?_
  refine A_icmp_ge (pc := 255) 295 dX9_copy_255 (by decide) (by omega) (by omega) (by omega) (by omega) (fun h255 => ?_) (fun h255 => ?_)
  · skip
    refine A_iconst (pc := 295) dX9_copy_295 ?_
    refine A_iret (pc := 296) rfl dX9_copy_296 ?_
    have hn0 : t = n := by omega
    subst hn0
    exact hK σ hI
  · skip
    refine A_aload_n (pc := 258) dX9_copy_258 rfl rfl ?_
    refine A_getR (pc := 259) fX9_44 rfl rfl dX9_copy_259 ?_
    refine A_sipush (pc := 262) dX9_copy_262 (by decide) ?_
    refine A_iload_n (pc := 265) dX9_copy_265 rfl rfl ?_
    refine A_imul (pc := 266) dX9_copy_266 ?_
    refine A_iload (pc := 267) dX9_copy_267 rfl ?_
    refine A_iadd (pc := 269) dX9_copy_269 ?_
    refine A_iload (pc := 270) dX9_copy_270 rfl ?_
    refine A_iadd (pc := 272) dX9_copy_272 ?_
    refine A_aload_n (pc := 273) dX9_copy_273 rfl rfl ?_
    refine A_getR (pc := 274) fX9_44 rfl rfl dX9_copy_274 ?_
    refine A_sipush (pc := 277) dX9_copy_277 (by decide) ?_
    refine A_iload_n (pc := 280) dX9_copy_280 rfl rfl ?_
    refine A_imul (pc := 281) dX9_copy_281 ?_
    refine A_iload_n (pc := 282) dX9_copy_282 rfl rfl ?_
    refine A_iadd (pc := 283) dX9_copy_283 ?_
    refine A_iload (pc := 284) dX9_copy_284 rfl ?_
    refine A_iadd (pc := 286) dX9_copy_286 ?_
    refine A_lald (pc := 287) (160 * k + (a + t)) rfl (by omega) (by omega) (Nat.le_of_ble_eq_true rfl) dX9_copy_287 ?_
    refine A_last (pc := 288) (160 * m + (b + t)) rfl (by omega) (by omega) (Nat.le_of_ble_eq_true rfl) dX9_copy_288 ?_
    refine A_iinc (pc := 289) dX9_copy_289 rfl (Nat.le_of_ble_eq_true rfl) ?_
    refine A_goto (pc := 292) 251 dX9_copy_292 (by decide) ?_
    obtain ⟨v, rfl⟩ : ∃ v, u = v + 1 := ⟨u - 1, by omega⟩
    refine A_loc (l2 := [(0, _), (1, _), (2, _), (3, _), (4, _), (5, _), (6, _)]) ⟨rfl, rfl, rfl, rfl, rfl, rfl, rfl, trivial⟩ ?_
    exact ih v (by omega) (t + 1) _ (by omega) (hI.up k8 m8 (by omega) (by omega) hd) hK
set_option maxRecDepth 20000 in
theorem l2_X9_copy {G : Gl} {d : Nat} {σ0 : Sg} {K : Option Value → Sg → Prop} {m a b n : Nat} (m8 : m < 8) (ha : a + n ≤ 160) (hb : b + n ≤ 160) (hd : a < b) : ∀ (t : Nat) (σ : Sg), t ≤ n → CpI σ0 σ m m a b t n → (∀ υ, CpI σ0 υ m m a b 0 n → K (some (.int (iI 1))) υ) → AW G d RX9 cX9_copy 7 (some .int) 203 [(0, .ref (gA G 54)), (1, .int (iI (m : Int))), (2, .int (iI (m : Int))), (3, .int (iI (a : Int))), (4, .int (iI (b : Int))), (5, .int (iI (n : Int))), (6, .int (iI ((t : Int) - 1)))] [] σ K := by
  intro t
  induction t using Nat.strongRecOn
  rename_i t ih
  intro σ hu hI hK
  refine A_iload (pc := 203) dX9_copy_203 rfl ?_
  refine A_if_lt (pc := 205) 245 dX9_copy_205 (by decide) (by omega) (by omega) (fun h205 => ?_) (fun h205 => ?_)
  · skip
    refine A_goto (pc := 245) 295 dX9_copy_245 (by decide) ?_
    refine A_iconst (pc := 295) dX9_copy_295 ?_
    refine A_iret (pc := 296) rfl dX9_copy_296 ?_
    have hn0 : t = 0 := by omega
    subst hn0
    exact hK σ hI
  · skip
    obtain ⟨v, rfl⟩ : ∃ v, t = v + 1 := ⟨t - 1, by omega⟩
    refine A_aload_n (pc := 208) dX9_copy_208 rfl rfl ?_
    refine A_getR (pc := 209) fX9_44 rfl rfl dX9_copy_209 ?_
    refine A_sipush (pc := 212) dX9_copy_212 (by decide) ?_
    refine A_iload_n (pc := 215) dX9_copy_215 rfl rfl ?_
    refine A_imul (pc := 216) dX9_copy_216 ?_
    refine A_iload (pc := 217) dX9_copy_217 rfl ?_
    refine A_iadd (pc := 219) dX9_copy_219 ?_
    refine A_iload (pc := 220) dX9_copy_220 rfl ?_
    refine A_iadd (pc := 222) dX9_copy_222 ?_
    refine A_aload_n (pc := 223) dX9_copy_223 rfl rfl ?_
    refine A_getR (pc := 224) fX9_44 rfl rfl dX9_copy_224 ?_
    refine A_sipush (pc := 227) dX9_copy_227 (by decide) ?_
    refine A_iload_n (pc := 230) dX9_copy_230 rfl rfl ?_
    refine A_imul (pc := 231) dX9_copy_231 ?_
    refine A_iload_n (pc := 232) dX9_copy_232 rfl rfl ?_
    refine A_iadd (pc := 233) dX9_copy_233 ?_
    refine A_iload (pc := 234) dX9_copy_234 rfl ?_
    refine A_iadd (pc := 236) dX9_copy_236 ?_
    refine A_lald (pc := 237) (160 * m + (a + v)) rfl (by omega) (by omega) (Nat.le_of_ble_eq_true rfl) dX9_copy_237 ?_
    refine A_last (pc := 238) (160 * m + (b + v)) rfl (by omega) (by omega) (Nat.le_of_ble_eq_true rfl) dX9_copy_238 ?_
    refine A_iinc (pc := 239) dX9_copy_239 rfl (Nat.le_of_ble_eq_true rfl) ?_
    refine A_goto (pc := 242) 203 dX9_copy_242 (by decide) ?_
    refine A_loc (l2 := [(0, _), (1, _), (2, _), (3, _), (4, _), (5, _), (6, _)]) ⟨rfl, rfl, rfl, rfl, rfl, rfl, rfl, trivial⟩ ?_
    have e : ((v + 1 : Nat) : Int) - 1 + -1 = (v : Int) - 1 := by omega
    rw [e]
    exact ih v (by omega) _ (by omega) (hI.down m8 (by omega) (by omega) hd (by omega)) hK
set_option maxRecDepth 20000 in
theorem x_X9_copy {G : Gl} {d : Nat} {σ : Sg} {Z : Zt} (hZ : RelM Z σ) (hO : OkZ Z) {k m : Nat} (k8 : k < 8) (m8 : m < 8) {i : Int} (hi1 : -2147483648 ≤ i) (hi2 : i < 2147483648) {j : Int} (hj1 : -2147483648 ≤ j) (hj2 : j < 2147483648) {n : Int} (hn1 : -2147483648 ≤ n) (hn2 : n < 2147483648) (hc : ¬ cpBad (Z.2.1.1 k) (Z.2.1.1 m)) : AW G (d + 1) RX9 cX9_copy 7 (some .int) 98 [(0, .ref (gA G 54)), (1, .int (iI (k : Int))), (2, .int (iI (m : Int))), (3, .int (iI i)), (4, .int (iI j)), (5, .int (iI n))] [] σ (RE (some (.int (iI (qCopy Z (k : Int) (m : Int) i j n).1))) (fun υ => RelM (qCopy Z (k : Int) (m : Int) i j n).2 υ ∧ Fr MC σ υ)) := by
  have ks := hZ.2.1 k k8
  have ko := hO.2.1 k k8
  obtain ⟨kb1, kb2, kb3, kb4⟩ := ko.1
  have ms := hZ.2.1 m m8
  have mo := hO.2.1 m m8
  obtain ⟨mb1, mb2, mb3, mb4⟩ := mo.1
  refine A_aload_n (pc := 98) dX9_copy_98 rfl rfl ?_
  refine A_getR (pc := 99) fX9_38 rfl rfl dX9_copy_99 ?_
  refine A_iload_n (pc := 102) dX9_copy_102 rfl rfl ?_
  refine A_ialdv (pc := 103) _ rfl rfl (by omega) (Nat.le_of_ble_eq_true rfl) ks.1 dX9_copy_103 ?_
  refine A_if_lt (pc := 104) 116 dX9_copy_104 (by decide) (by omega) (by omega) (fun h104 => ?_) (fun h104 => ?_)
  · skip
    refine A_aload_n (pc := 116) dX9_copy_116 rfl rfl ?_
    refine A_bipush (pc := 117) dX9_copy_117 (by decide) ?_
    refine A_callVe (pc := 119) kX9_79 rfl rfl (c_X9_no hZ hO (t := -3) (by omega) (by omega)) dX9_copy_119 rfl rfl (Nat.le_of_ble_eq_true rfl) (Nat.le_of_ble_eq_true rfl) (fun υ hυ => ?_)
    refine A_iret (pc := 122) rfl dX9_copy_122 ?_
    have hct : copyT Z (k : Int) (m : Int) i j n = -3 := by rw [copyT_ok k8 m8 hc, if_pos (by omega)]
    exact RQM (by unfold qCopy; rw [hct, if_pos (by decide)]; rfl) hυ.1 (hυ.2.mono MC70)
  · skip
    refine A_aload_n (pc := 107) dX9_copy_107 rfl rfl ?_
    refine A_getR (pc := 108) fX9_38 rfl rfl dX9_copy_108 ?_
    refine A_iload_n (pc := 111) dX9_copy_111 rfl rfl ?_
    refine A_ialdv (pc := 112) _ rfl rfl (by omega) (Nat.le_of_ble_eq_true rfl) ms.1 dX9_copy_112 ?_
    refine A_if_ge (pc := 113) 123 dX9_copy_113 (by decide) (by omega) (by omega) (fun h113 => ?_) (fun h113 => ?_)
    · skip
      refine A_iload (pc := 123) dX9_copy_123 rfl ?_
      refine A_if_ge (pc := 125) 135 dX9_copy_125 (by decide) (by omega) (by omega) (fun h125 => ?_) (fun h125 => ?_)
      · skip
        refine A_iload_n (pc := 135) dX9_copy_135 rfl rfl ?_
        refine A_if_lt (pc := 136) 179 dX9_copy_136 (by decide) (by omega) (by omega) (fun h136 => ?_) (fun h136 => ?_)
        · skip
          refine A_aload_n (pc := 179) dX9_copy_179 rfl rfl ?_
          refine A_bipush (pc := 180) dX9_copy_180 (by decide) ?_
          refine A_callVe (pc := 182) kX9_79 rfl rfl (c_X9_no hZ hO (t := -5) (by omega) (by omega)) dX9_copy_182 rfl rfl (Nat.le_of_ble_eq_true rfl) (Nat.le_of_ble_eq_true rfl) (fun υ hυ => ?_)
          refine A_iret (pc := 185) rfl dX9_copy_185 ?_
          have hct : copyT Z (k : Int) (m : Int) i j n = -5 := by rw [copyT_ok k8 m8 hc, if_neg (by omega), if_neg (by omega), if_neg (by omega)]
          exact RQM (by unfold qCopy; rw [hct, if_pos (by decide)]; rfl) hυ.1 (hυ.2.mono MC70)
        · skip
          refine A_iload (pc := 139) dX9_copy_139 rfl ?_
          refine A_if_lt (pc := 141) 179 dX9_copy_141 (by decide) (by omega) (by omega) (fun h141 => ?_) (fun h141 => ?_)
          · skip
            refine A_aload_n (pc := 179) dX9_copy_179 rfl rfl ?_
            refine A_bipush (pc := 180) dX9_copy_180 (by decide) ?_
            refine A_callVe (pc := 182) kX9_79 rfl rfl (c_X9_no hZ hO (t := -5) (by omega) (by omega)) dX9_copy_182 rfl rfl (Nat.le_of_ble_eq_true rfl) (Nat.le_of_ble_eq_true rfl) (fun υ hυ => ?_)
            refine A_iret (pc := 185) rfl dX9_copy_185 ?_
            have hct : copyT Z (k : Int) (m : Int) i j n = -5 := by rw [copyT_ok k8 m8 hc, if_neg (by omega), if_neg (by omega), if_neg (by omega)]
            exact RQM (by unfold qCopy; rw [hct, if_pos (by decide)]; rfl) hυ.1 (hυ.2.mono MC70)
          · skip
            refine A_iload_n (pc := 144) dX9_copy_144 rfl rfl ?_
            refine A_i2l (pc := 145) dX9_copy_145 ?_
            refine A_iload (pc := 146) dX9_copy_146 rfl ?_
            refine A_i2l (pc := 148) dX9_copy_148 ?_
            refine A_ladd (pc := 149) dX9_copy_149 ?_
            refine A_aload_n (pc := 150) dX9_copy_150 rfl rfl ?_
            refine A_getR (pc := 151) fX9_41 rfl rfl dX9_copy_151 ?_
            refine A_iload_n (pc := 154) dX9_copy_154 rfl rfl ?_
            refine A_ialdv (pc := 155) _ rfl rfl (by omega) (Nat.le_of_ble_eq_true rfl) (ks.2.1 (by omega)) dX9_copy_155 ?_
            refine A_i2l (pc := 156) dX9_copy_156 ?_
            refine A_lcmp (pc := 157) dX9_copy_157 ?_
            rw [lcm_cmp (by omega) (by omega) (by omega) (by omega) (by omega) (by omega)]
            refine A_if_gt (pc := 158) 179 dX9_copy_158 (by decide) (by (repeat' split) <;> omega) (by (repeat' split) <;> omega) (fun h158 => ?_) (fun h158 => ?_)
            · skip
              refine A_aload_n (pc := 179) dX9_copy_179 rfl rfl ?_
              refine A_bipush (pc := 180) dX9_copy_180 (by decide) ?_
              refine A_callVe (pc := 182) kX9_79 rfl rfl (c_X9_no hZ hO (t := -5) (by omega) (by omega)) dX9_copy_182 rfl rfl (Nat.le_of_ble_eq_true rfl) (Nat.le_of_ble_eq_true rfl) (fun υ hυ => ?_)
              refine A_iret (pc := 185) rfl dX9_copy_185 ?_
              have g158 : ¬ (i + n ≤ Z.2.1.2.1 k) := by (repeat' split at h158) <;> omega
              have hct : copyT Z (k : Int) (m : Int) i j n = -5 := by rw [copyT_ok k8 m8 hc, if_neg (by omega), if_neg (by omega), if_neg (by omega)]
              exact RQM (by unfold qCopy; rw [hct, if_pos (by decide)]; rfl) hυ.1 (hυ.2.mono MC70)
            · skip
              have g158 : i + n ≤ Z.2.1.2.1 k := by (repeat' split at h158) <;> omega
              refine A_iload (pc := 161) dX9_copy_161 rfl ?_
              refine A_i2l (pc := 163) dX9_copy_163 ?_
              refine A_iload (pc := 164) dX9_copy_164 rfl ?_
              refine A_i2l (pc := 166) dX9_copy_166 ?_
              refine A_ladd (pc := 167) dX9_copy_167 ?_
              refine A_aload_n (pc := 168) dX9_copy_168 rfl rfl ?_
              refine A_getR (pc := 169) fX9_41 rfl rfl dX9_copy_169 ?_
              refine A_iload_n (pc := 172) dX9_copy_172 rfl rfl ?_
              refine A_ialdv (pc := 173) _ rfl rfl (by omega) (Nat.le_of_ble_eq_true rfl) (ms.2.1 (by omega)) dX9_copy_173 ?_
              refine A_i2l (pc := 174) dX9_copy_174 ?_
              refine A_lcmp (pc := 175) dX9_copy_175 ?_
              rw [lcm_cmp (by omega) (by omega) (by omega) (by omega) (by omega) (by omega)]
              refine A_if_le (pc := 176) 186 dX9_copy_176 (by decide) (by (repeat' split) <;> omega) (by (repeat' split) <;> omega) (fun h176 => ?_) (fun h176 => ?_)
              · skip
                have g176 : j + n ≤ Z.2.1.2.1 m := by (repeat' split at h176) <;> omega
                refine A_iload_n (pc := 186) dX9_copy_186 rfl rfl ?_
                refine A_iload_n (pc := 187) dX9_copy_187 rfl rfl ?_
                refine A_icmp_ne (pc := 188) 248 dX9_copy_188 (by decide) (by omega) (by omega) (by omega) (by omega) (fun h188 => ?_) (fun h188 => ?_)
                · skip
                  refine A_iconst (pc := 248) dX9_copy_248 ?_
                  refine A_istore (pc := 249) dX9_copy_249 (Nat.le_of_ble_eq_true rfl) ?_
                  obtain ⟨a, rfl⟩ := Int.eq_ofNat_of_zero_le (show 0 ≤ i by omega)
                  obtain ⟨b, rfl⟩ := Int.eq_ofNat_of_zero_le (show 0 ≤ j by omega)
                  obtain ⟨c, rfl⟩ := Int.eq_ofNat_of_zero_le (show 0 ≤ n by omega)
                  have hct : copyT Z (k : Int) (m : Int) (a : Int) (b : Int) (c : Int) = 0 := by rw [copyT_ok k8 m8 hc, if_neg (by omega), if_neg (by omega), if_pos (by omega)]
                  refine A_loc (l2 := [(0, _), (1, _), (2, _), (3, _), (4, _), (5, _), (6, _)]) ⟨rfl, rfl, rfl, rfl, rfl, rfl, rfl, trivial⟩ ?_
                  refine l1_X9_copy (σ0 := σ) (n := c) k8 m8 (by omega) (by omega) (Or.inl (by omega)) c 0 σ (by omega) (CpI.start σ k m a b 0) (fun υ hυ => ?_)
                  refine RQM (by unfold qCopy; rw [hct, if_neg (by decide)]; rfl) (CpI.rel hZ hυ k8 m8 (by omega)) (hυ.1.mono (fun x q => by have q2 : x = 66 := q; unfold MC; omega))
                · skip
                  refine A_iload_n (pc := 191) dX9_copy_191 rfl rfl ?_
                  refine A_iload (pc := 192) dX9_copy_192 rfl ?_
                  refine A_icmp_ge (pc := 194) 248 dX9_copy_194 (by decide) (by omega) (by omega) (by omega) (by omega) (fun h194 => ?_) (fun h194 => ?_)
                  · skip
                    refine A_iconst (pc := 248) dX9_copy_248 ?_
                    refine A_istore (pc := 249) dX9_copy_249 (Nat.le_of_ble_eq_true rfl) ?_
                    obtain ⟨a, rfl⟩ := Int.eq_ofNat_of_zero_le (show 0 ≤ i by omega)
                    obtain ⟨b, rfl⟩ := Int.eq_ofNat_of_zero_le (show 0 ≤ j by omega)
                    obtain ⟨c, rfl⟩ := Int.eq_ofNat_of_zero_le (show 0 ≤ n by omega)
                    have hct : copyT Z (k : Int) (m : Int) (a : Int) (b : Int) (c : Int) = 0 := by rw [copyT_ok k8 m8 hc, if_neg (by omega), if_neg (by omega), if_pos (by omega)]
                    refine A_loc (l2 := [(0, _), (1, _), (2, _), (3, _), (4, _), (5, _), (6, _)]) ⟨rfl, rfl, rfl, rfl, rfl, rfl, rfl, trivial⟩ ?_
                    refine l1_X9_copy (σ0 := σ) (n := c) k8 m8 (by omega) (by omega) (Or.inr (by omega)) c 0 σ (by omega) (CpI.start σ k m a b 0) (fun υ hυ => ?_)
                    refine RQM (by unfold qCopy; rw [hct, if_neg (by decide)]; rfl) (CpI.rel hZ hυ k8 m8 (by omega)) (hυ.1.mono (fun x q => by have q2 : x = 66 := q; unfold MC; omega))
                  · skip
                    refine A_iload (pc := 197) dX9_copy_197 rfl ?_
                    refine A_iconst (pc := 199) dX9_copy_199 ?_
                    refine A_isub (pc := 200) dX9_copy_200 ?_
                    refine A_istore (pc := 201) dX9_copy_201 (Nat.le_of_ble_eq_true rfl) ?_
                    have ekm : k = m := by omega
                    subst ekm
                    obtain ⟨a, rfl⟩ := Int.eq_ofNat_of_zero_le (show 0 ≤ i by omega)
                    obtain ⟨b, rfl⟩ := Int.eq_ofNat_of_zero_le (show 0 ≤ j by omega)
                    obtain ⟨c, rfl⟩ := Int.eq_ofNat_of_zero_le (show 0 ≤ n by omega)
                    have hct : copyT Z (k : Int) (k : Int) (a : Int) (b : Int) (c : Int) = 0 := by rw [copyT_ok k8 k8 hc, if_neg (by omega), if_neg (by omega), if_pos (by omega)]
                    refine A_loc (l2 := [(0, _), (1, _), (2, _), (3, _), (4, _), (5, _), (6, _)]) ⟨rfl, rfl, rfl, rfl, rfl, rfl, rfl, trivial⟩ ?_
                    refine l2_X9_copy (σ0 := σ) (n := c) k8 (by omega) (by omega) (by omega) c σ (Nat.le_refl _) (CpI.start σ k k a b c) (fun υ hυ => ?_)
                    refine RQM (by unfold qCopy; rw [hct, if_neg (by decide)]; rfl) (CpI.rel hZ hυ k8 k8 (by omega)) (hυ.1.mono (fun x q => by have q2 : x = 66 := q; unfold MC; omega))
              · skip
                refine A_aload_n (pc := 179) dX9_copy_179 rfl rfl ?_
                refine A_bipush (pc := 180) dX9_copy_180 (by decide) ?_
                refine A_callVe (pc := 182) kX9_79 rfl rfl (c_X9_no hZ hO (t := -5) (by omega) (by omega)) dX9_copy_182 rfl rfl (Nat.le_of_ble_eq_true rfl) (Nat.le_of_ble_eq_true rfl) (fun υ hυ => ?_)
                refine A_iret (pc := 185) rfl dX9_copy_185 ?_
                have g176 : ¬ (j + n ≤ Z.2.1.2.1 m) := by (repeat' split at h176) <;> omega
                have hct : copyT Z (k : Int) (m : Int) i j n = -5 := by rw [copyT_ok k8 m8 hc, if_neg (by omega), if_neg (by omega), if_neg (by omega)]
                exact RQM (by unfold qCopy; rw [hct, if_pos (by decide)]; rfl) hυ.1 (hυ.2.mono MC70)
      · skip
        refine A_aload_n (pc := 128) dX9_copy_128 rfl rfl ?_
        refine A_bipush (pc := 129) dX9_copy_129 (by decide) ?_
        refine A_callVe (pc := 131) kX9_79 rfl rfl (c_X9_no hZ hO (t := -4) (by omega) (by omega)) dX9_copy_131 rfl rfl (Nat.le_of_ble_eq_true rfl) (Nat.le_of_ble_eq_true rfl) (fun υ hυ => ?_)
        refine A_iret (pc := 134) rfl dX9_copy_134 ?_
        have hct : copyT Z (k : Int) (m : Int) i j n = -4 := by rw [copyT_ok k8 m8 hc, if_neg (by omega), if_pos (by omega)]
        exact RQM (by unfold qCopy; rw [hct, if_pos (by decide)]; rfl) hυ.1 (hυ.2.mono MC70)
    · skip
      refine A_aload_n (pc := 116) dX9_copy_116 rfl rfl ?_
      refine A_bipush (pc := 117) dX9_copy_117 (by decide) ?_
      refine A_callVe (pc := 119) kX9_79 rfl rfl (c_X9_no hZ hO (t := -3) (by omega) (by omega)) dX9_copy_119 rfl rfl (Nat.le_of_ble_eq_true rfl) (Nat.le_of_ble_eq_true rfl) (fun υ hυ => ?_)
      refine A_iret (pc := 122) rfl dX9_copy_122 ?_
      have hct : copyT Z (k : Int) (m : Int) i j n = -3 := by rw [copyT_ok k8 m8 hc, if_pos (by omega)]
      exact RQM (by unfold qCopy; rw [hct, if_pos (by decide)]; rfl) hυ.1 (hυ.2.mono MC70)
set_option maxRecDepth 20000 in
theorem c_X9_copy {G : Gl} {d : Nat} {σ : Sg} {Z : Zt} (hZ : RelM Z σ) (hO : OkZ Z) {p : Int} (hp1 : -2147483648 ≤ p) (hp2 : p < 2147483648) {q : Int} (hq1 : -2147483648 ≤ q) (hq2 : q < 2147483648) {i : Int} (hi1 : -2147483648 ≤ i) (hi2 : i < 2147483648) {j : Int} (hj1 : -2147483648 ≤ j) (hj2 : j < 2147483648) {n : Int} (hn1 : -2147483648 ≤ n) (hn2 : n < 2147483648) : CT G (d + 2) yX9_copy cX9_copy 7 (some .int) [.ref (gA G 54), .int (iI p), .int (iI q), .int (iI i), .int (iI j), .int (iI n)] σ (RE (some (.int (iI (qCopy Z p q i j n).1))) (fun υ => RelM (qCopy Z p q i j n).2 υ ∧ Fr MC σ υ)) := by
  refine CT.of (by decide +kernel) (Nat.le_of_ble_eq_true rfl) ?_
  change AW G _ RX9 _ _ _ 0 [(0, .ref (gA G 54)), (1, .int (iI p)), (2, .int (iI q)), (3, .int (iI i)), (4, .int (iI j)), (5, .int (iI n))] [] _ _
  refine A_iload_n (pc := 0) dX9_copy_0 rfl rfl ?_
  refine A_iconst (pc := 1) dX9_copy_1 ?_
  refine A_bipush (pc := 2) dX9_copy_2 (by decide) ?_
  refine A_callS1 (pc := 4) kX9_86 (c_X9_within (v := p) (a := 0) (b := 7) (by omega) (by omega) (by omega) (by omega) (by omega) (by omega)) dX9_copy_4 rfl rfl (Nat.le_of_ble_eq_true rfl) (Nat.le_of_ble_eq_true rfl) ?_
  refine A_ifb_eq (pc := 7) 20 dX9_copy_7 (by decide) (fun h7 => ?_) (fun h7 => ?_)
  · skip
    refine A_aload_n (pc := 20) dX9_copy_20 rfl rfl ?_
    refine A_iconst (pc := 21) dX9_copy_21 ?_
    refine A_callVe (pc := 22) kX9_79 rfl rfl (c_X9_no hZ hO (t := -1) (by omega) (by omega)) dX9_copy_22 rfl rfl (Nat.le_of_ble_eq_true rfl) (Nat.le_of_ble_eq_true rfl) (fun υ hυ => ?_)
    refine A_iret (pc := 25) rfl dX9_copy_25 ?_
    have hct : copyT Z p q i j n = -1 := copyT_m1 (by omega)
    exact RQM (by unfold qCopy; rw [hct, if_pos (by decide)]; rfl) hυ.1 (hυ.2.mono MC70)
  · skip
    refine A_iload_n (pc := 10) dX9_copy_10 rfl rfl ?_
    refine A_iconst (pc := 11) dX9_copy_11 ?_
    refine A_bipush (pc := 12) dX9_copy_12 (by decide) ?_
    refine A_callS1 (pc := 14) kX9_86 (c_X9_within (v := q) (a := 0) (b := 7) (by omega) (by omega) (by omega) (by omega) (by omega) (by omega)) dX9_copy_14 rfl rfl (Nat.le_of_ble_eq_true rfl) (Nat.le_of_ble_eq_true rfl) ?_
    refine A_ifb_ne (pc := 17) 26 dX9_copy_17 (by decide) (fun h17 => ?_) (fun h17 => ?_)
    · skip
      obtain ⟨k, rfl⟩ := Int.eq_ofNat_of_zero_le (show 0 ≤ p by omega)
      have k8 : k < 8 := by omega
      have ks := hZ.2.1 k k8
      have ko := hO.2.1 k k8
      obtain ⟨kb1, kb2, kb3, kb4⟩ := ko.1
      obtain ⟨m, rfl⟩ := Int.eq_ofNat_of_zero_le (show 0 ≤ q by omega)
      have m8 : m < 8 := by omega
      have ms := hZ.2.1 m m8
      have mo := hO.2.1 m m8
      obtain ⟨mb1, mb2, mb3, mb4⟩ := mo.1
      refine A_aload_n (pc := 26) dX9_copy_26 rfl rfl ?_
      refine A_getR (pc := 27) fX9_38 rfl rfl dX9_copy_27 ?_
      refine A_iload_n (pc := 30) dX9_copy_30 rfl rfl ?_
      refine A_ialdv (pc := 31) _ rfl rfl (by omega) (Nat.le_of_ble_eq_true rfl) ks.1 dX9_copy_31 ?_
      refine A_if_lt (pc := 32) 43 dX9_copy_32 (by decide) (by omega) (by omega) (fun h32 => ?_) (fun h32 => ?_)
      · skip
        refine A_aload_n (pc := 43) dX9_copy_43 rfl rfl ?_
        refine A_getR (pc := 44) fX9_38 rfl rfl dX9_copy_44 ?_
        refine A_iload_n (pc := 47) dX9_copy_47 rfl rfl ?_
        refine A_ialdv (pc := 48) _ rfl rfl (by omega) (Nat.le_of_ble_eq_true rfl) ms.1 dX9_copy_48 ?_
        refine A_if_lt (pc := 49) 60 dX9_copy_49 (by decide) (by omega) (by omega) (fun h49 => ?_) (fun h49 => ?_)
        · skip
          refine A_aload_n (pc := 60) dX9_copy_60 rfl rfl ?_
          refine A_iload_n (pc := 61) dX9_copy_61 rfl rfl ?_
          refine A_callV1 (pc := 62) kX9_97 rfl rfl (c_X9_isRow hZ hO k8) dX9_copy_62 rfl rfl (Nat.le_of_ble_eq_true rfl) (Nat.le_of_ble_eq_true rfl) ?_
          refine A_ifb_eq (pc := 65) 98 dX9_copy_65 (by decide) (fun h65 => ?_) (fun h65 => ?_)
          · skip
            refine A_loc (l2 := [(0, _), (1, _), (2, _), (3, _), (4, _), (5, _)]) ⟨rfl, rfl, rfl, rfl, rfl, rfl, trivial⟩ ?_
            exact x_X9_copy hZ hO k8 m8 hi1 hi2 hj1 hj2 hn1 hn2 (by omega)
          · skip
            refine A_aload_n (pc := 68) dX9_copy_68 rfl rfl ?_
            refine A_iload_n (pc := 69) dX9_copy_69 rfl rfl ?_
            refine A_callV1 (pc := 70) kX9_97 rfl rfl (c_X9_isRow hZ hO m8) dX9_copy_70 rfl rfl (Nat.le_of_ble_eq_true rfl) (Nat.le_of_ble_eq_true rfl) ?_
            refine A_ifb_eq (pc := 73) 98 dX9_copy_73 (by decide) (fun h73 => ?_) (fun h73 => ?_)
            · skip
              refine A_loc (l2 := [(0, _), (1, _), (2, _), (3, _), (4, _), (5, _)]) ⟨rfl, rfl, rfl, rfl, rfl, rfl, trivial⟩ ?_
              exact x_X9_copy hZ hO k8 m8 hi1 hi2 hj1 hj2 hn1 hn2 (by omega)
            · skip
              refine A_aload_n (pc := 76) dX9_copy_76 rfl rfl ?_
              refine A_getR (pc := 77) fX9_38 rfl rfl dX9_copy_77 ?_
              refine A_iload_n (pc := 80) dX9_copy_80 rfl rfl ?_
              refine A_ialdv (pc := 81) _ rfl rfl (by omega) (Nat.le_of_ble_eq_true rfl) ks.1 dX9_copy_81 ?_
              refine A_aload_n (pc := 82) dX9_copy_82 rfl rfl ?_
              refine A_getR (pc := 83) fX9_38 rfl rfl dX9_copy_83 ?_
              refine A_iload_n (pc := 86) dX9_copy_86 rfl rfl ?_
              refine A_ialdv (pc := 87) _ rfl rfl (by omega) (Nat.le_of_ble_eq_true rfl) ms.1 dX9_copy_87 ?_
              refine A_icmp_eq (pc := 88) 98 dX9_copy_88 (by decide) (by omega) (by omega) (by omega) (by omega) (fun h88 => ?_) (fun h88 => ?_)
              · skip
                refine A_loc (l2 := [(0, _), (1, _), (2, _), (3, _), (4, _), (5, _)]) ⟨rfl, rfl, rfl, rfl, rfl, rfl, trivial⟩ ?_
                exact x_X9_copy hZ hO k8 m8 hi1 hi2 hj1 hj2 hn1 hn2 (by omega)
              · skip
                refine A_aload_n (pc := 91) dX9_copy_91 rfl rfl ?_
                refine A_bipush (pc := 92) dX9_copy_92 (by decide) ?_
                refine A_callVe (pc := 94) kX9_79 rfl rfl (c_X9_no hZ hO (t := -2) (by omega) (by omega)) dX9_copy_94 rfl rfl (Nat.le_of_ble_eq_true rfl) (Nat.le_of_ble_eq_true rfl) (fun υ hυ => ?_)
                refine A_iret (pc := 97) rfl dX9_copy_97 ?_
                have hct : copyT Z (k : Int) (m : Int) i j n = -2 := copyT_m2 k8 m8 (by omega)
                exact RQM (by unfold qCopy; rw [hct, if_pos (by decide)]; rfl) hυ.1 (hυ.2.mono MC70)
        · skip
          refine A_aload_n (pc := 52) dX9_copy_52 rfl rfl ?_
          refine A_iload_n (pc := 53) dX9_copy_53 rfl rfl ?_
          refine A_callV1 (pc := 54) kX9_97 rfl rfl (c_X9_isRow hZ hO m8) dX9_copy_54 rfl rfl (Nat.le_of_ble_eq_true rfl) (Nat.le_of_ble_eq_true rfl) ?_
          refine A_ifb_eq (pc := 57) 91 dX9_copy_57 (by decide) (fun h57 => ?_) (fun h57 => ?_)
          · skip
            refine A_aload_n (pc := 91) dX9_copy_91 rfl rfl ?_
            refine A_bipush (pc := 92) dX9_copy_92 (by decide) ?_
            refine A_callVe (pc := 94) kX9_79 rfl rfl (c_X9_no hZ hO (t := -2) (by omega) (by omega)) dX9_copy_94 rfl rfl (Nat.le_of_ble_eq_true rfl) (Nat.le_of_ble_eq_true rfl) (fun υ hυ => ?_)
            refine A_iret (pc := 97) rfl dX9_copy_97 ?_
            have hct : copyT Z (k : Int) (m : Int) i j n = -2 := copyT_m2 k8 m8 (by omega)
            exact RQM (by unfold qCopy; rw [hct, if_pos (by decide)]; rfl) hυ.1 (hυ.2.mono MC70)
          · skip
            refine A_aload_n (pc := 60) dX9_copy_60 rfl rfl ?_
            refine A_iload_n (pc := 61) dX9_copy_61 rfl rfl ?_
            refine A_callV1 (pc := 62) kX9_97 rfl rfl (c_X9_isRow hZ hO k8) dX9_copy_62 rfl rfl (Nat.le_of_ble_eq_true rfl) (Nat.le_of_ble_eq_true rfl) ?_
            refine A_ifb_eq (pc := 65) 98 dX9_copy_65 (by decide) (fun h65 => ?_) (fun h65 => ?_)
            · skip
              refine A_loc (l2 := [(0, _), (1, _), (2, _), (3, _), (4, _), (5, _)]) ⟨rfl, rfl, rfl, rfl, rfl, rfl, trivial⟩ ?_
              exact x_X9_copy hZ hO k8 m8 hi1 hi2 hj1 hj2 hn1 hn2 (by omega)
            · skip
              refine A_aload_n (pc := 68) dX9_copy_68 rfl rfl ?_
              refine A_iload_n (pc := 69) dX9_copy_69 rfl rfl ?_
              refine A_callV1 (pc := 70) kX9_97 rfl rfl (c_X9_isRow hZ hO m8) dX9_copy_70 rfl rfl (Nat.le_of_ble_eq_true rfl) (Nat.le_of_ble_eq_true rfl) ?_
              refine A_ifb_eq (pc := 73) 98 dX9_copy_73 (by decide) (fun h73 => ?_) (fun h73 => ?_)
              · skip
                refine A_loc (l2 := [(0, _), (1, _), (2, _), (3, _), (4, _), (5, _)]) ⟨rfl, rfl, rfl, rfl, rfl, rfl, trivial⟩ ?_
                exact x_X9_copy hZ hO k8 m8 hi1 hi2 hj1 hj2 hn1 hn2 (by omega)
              · skip
                refine A_aload_n (pc := 76) dX9_copy_76 rfl rfl ?_
                refine A_getR (pc := 77) fX9_38 rfl rfl dX9_copy_77 ?_
                refine A_iload_n (pc := 80) dX9_copy_80 rfl rfl ?_
                refine A_ialdv (pc := 81) _ rfl rfl (by omega) (Nat.le_of_ble_eq_true rfl) ks.1 dX9_copy_81 ?_
                refine A_aload_n (pc := 82) dX9_copy_82 rfl rfl ?_
                refine A_getR (pc := 83) fX9_38 rfl rfl dX9_copy_83 ?_
                refine A_iload_n (pc := 86) dX9_copy_86 rfl rfl ?_
                refine A_ialdv (pc := 87) _ rfl rfl (by omega) (Nat.le_of_ble_eq_true rfl) ms.1 dX9_copy_87 ?_
                refine A_icmp_eq (pc := 88) 98 dX9_copy_88 (by decide) (by omega) (by omega) (by omega) (by omega) (fun h88 => ?_) (fun h88 => ?_)
                · skip
                  refine A_loc (l2 := [(0, _), (1, _), (2, _), (3, _), (4, _), (5, _)]) ⟨rfl, rfl, rfl, rfl, rfl, rfl, trivial⟩ ?_
                  exact x_X9_copy hZ hO k8 m8 hi1 hi2 hj1 hj2 hn1 hn2 (by omega)
                · skip
                  refine A_aload_n (pc := 91) dX9_copy_91 rfl rfl ?_
                  refine A_bipush (pc := 92) dX9_copy_92 (by decide) ?_
                  refine A_callVe (pc := 94) kX9_79 rfl rfl (c_X9_no hZ hO (t := -2) (by omega) (by omega)) dX9_copy_94 rfl rfl (Nat.le_of_ble_eq_true rfl) (Nat.le_of_ble_eq_true rfl) (fun υ hυ => ?_)
                  refine A_iret (pc := 97) rfl dX9_copy_97 ?_
                  have hct : copyT Z (k : Int) (m : Int) i j n = -2 := copyT_m2 k8 m8 (by omega)
                  exact RQM (by unfold qCopy; rw [hct, if_pos (by decide)]; rfl) hυ.1 (hυ.2.mono MC70)
      · skip
        refine A_aload_n (pc := 35) dX9_copy_35 rfl rfl ?_
        refine A_iload_n (pc := 36) dX9_copy_36 rfl rfl ?_
        refine A_callV1 (pc := 37) kX9_97 rfl rfl (c_X9_isRow hZ hO k8) dX9_copy_37 rfl rfl (Nat.le_of_ble_eq_true rfl) (Nat.le_of_ble_eq_true rfl) ?_
        refine A_ifb_eq (pc := 40) 91 dX9_copy_40 (by decide) (fun h40 => ?_) (fun h40 => ?_)
        · skip
          refine A_aload_n (pc := 91) dX9_copy_91 rfl rfl ?_
          refine A_bipush (pc := 92) dX9_copy_92 (by decide) ?_
          refine A_callVe (pc := 94) kX9_79 rfl rfl (c_X9_no hZ hO (t := -2) (by omega) (by omega)) dX9_copy_94 rfl rfl (Nat.le_of_ble_eq_true rfl) (Nat.le_of_ble_eq_true rfl) (fun υ hυ => ?_)
          refine A_iret (pc := 97) rfl dX9_copy_97 ?_
          have hct : copyT Z (k : Int) (m : Int) i j n = -2 := copyT_m2 k8 m8 (by omega)
          exact RQM (by unfold qCopy; rw [hct, if_pos (by decide)]; rfl) hυ.1 (hυ.2.mono MC70)
        · skip
          refine A_aload_n (pc := 43) dX9_copy_43 rfl rfl ?_
          refine A_getR (pc := 44) fX9_38 rfl rfl dX9_copy_44 ?_
          refine A_iload_n (pc := 47) dX9_copy_47 rfl rfl ?_
          refine A_ialdv (pc := 48) _ rfl rfl (by omega) (Nat.le_of_ble_eq_true rfl) ms.1 dX9_copy_48 ?_
          refine A_if_lt (pc := 49) 60 dX9_copy_49 (by decide) (by omega) (by omega) (fun h49 => ?_) (fun h49 => ?_)
          · skip
            refine A_aload_n (pc := 60) dX9_copy_60 rfl rfl ?_
            refine A_iload_n (pc := 61) dX9_copy_61 rfl rfl ?_
            refine A_callV1 (pc := 62) kX9_97 rfl rfl (c_X9_isRow hZ hO k8) dX9_copy_62 rfl rfl (Nat.le_of_ble_eq_true rfl) (Nat.le_of_ble_eq_true rfl) ?_
            refine A_ifb_eq (pc := 65) 98 dX9_copy_65 (by decide) (fun h65 => ?_) (fun h65 => ?_)
            · skip
              refine A_loc (l2 := [(0, _), (1, _), (2, _), (3, _), (4, _), (5, _)]) ⟨rfl, rfl, rfl, rfl, rfl, rfl, trivial⟩ ?_
              exact x_X9_copy hZ hO k8 m8 hi1 hi2 hj1 hj2 hn1 hn2 (by omega)
            · skip
              refine A_aload_n (pc := 68) dX9_copy_68 rfl rfl ?_
              refine A_iload_n (pc := 69) dX9_copy_69 rfl rfl ?_
              refine A_callV1 (pc := 70) kX9_97 rfl rfl (c_X9_isRow hZ hO m8) dX9_copy_70 rfl rfl (Nat.le_of_ble_eq_true rfl) (Nat.le_of_ble_eq_true rfl) ?_
              refine A_ifb_eq (pc := 73) 98 dX9_copy_73 (by decide) (fun h73 => ?_) (fun h73 => ?_)
              · skip
                refine A_loc (l2 := [(0, _), (1, _), (2, _), (3, _), (4, _), (5, _)]) ⟨rfl, rfl, rfl, rfl, rfl, rfl, trivial⟩ ?_
                exact x_X9_copy hZ hO k8 m8 hi1 hi2 hj1 hj2 hn1 hn2 (by omega)
              · skip
                refine A_aload_n (pc := 76) dX9_copy_76 rfl rfl ?_
                refine A_getR (pc := 77) fX9_38 rfl rfl dX9_copy_77 ?_
                refine A_iload_n (pc := 80) dX9_copy_80 rfl rfl ?_
                refine A_ialdv (pc := 81) _ rfl rfl (by omega) (Nat.le_of_ble_eq_true rfl) ks.1 dX9_copy_81 ?_
                refine A_aload_n (pc := 82) dX9_copy_82 rfl rfl ?_
                refine A_getR (pc := 83) fX9_38 rfl rfl dX9_copy_83 ?_
                refine A_iload_n (pc := 86) dX9_copy_86 rfl rfl ?_
                refine A_ialdv (pc := 87) _ rfl rfl (by omega) (Nat.le_of_ble_eq_true rfl) ms.1 dX9_copy_87 ?_
                refine A_icmp_eq (pc := 88) 98 dX9_copy_88 (by decide) (by omega) (by omega) (by omega) (by omega) (fun h88 => ?_) (fun h88 => ?_)
                · skip
                  refine A_loc (l2 := [(0, _), (1, _), (2, _), (3, _), (4, _), (5, _)]) ⟨rfl, rfl, rfl, rfl, rfl, rfl, trivial⟩ ?_
                  exact x_X9_copy hZ hO k8 m8 hi1 hi2 hj1 hj2 hn1 hn2 (by omega)
                · skip
                  refine A_aload_n (pc := 91) dX9_copy_91 rfl rfl ?_
                  refine A_bipush (pc := 92) dX9_copy_92 (by decide) ?_
                  refine A_callVe (pc := 94) kX9_79 rfl rfl (c_X9_no hZ hO (t := -2) (by omega) (by omega)) dX9_copy_94 rfl rfl (Nat.le_of_ble_eq_true rfl) (Nat.le_of_ble_eq_true rfl) (fun υ hυ => ?_)
                  refine A_iret (pc := 97) rfl dX9_copy_97 ?_
                  have hct : copyT Z (k : Int) (m : Int) i j n = -2 := copyT_m2 k8 m8 (by omega)
                  exact RQM (by unfold qCopy; rw [hct, if_pos (by decide)]; rfl) hυ.1 (hυ.2.mono MC70)
          · skip
            refine A_aload_n (pc := 52) dX9_copy_52 rfl rfl ?_
            refine A_iload_n (pc := 53) dX9_copy_53 rfl rfl ?_
            refine A_callV1 (pc := 54) kX9_97 rfl rfl (c_X9_isRow hZ hO m8) dX9_copy_54 rfl rfl (Nat.le_of_ble_eq_true rfl) (Nat.le_of_ble_eq_true rfl) ?_
            refine A_ifb_eq (pc := 57) 91 dX9_copy_57 (by decide) (fun h57 => ?_) (fun h57 => ?_)
            · skip
              refine A_aload_n (pc := 91) dX9_copy_91 rfl rfl ?_
              refine A_bipush (pc := 92) dX9_copy_92 (by decide) ?_
              refine A_callVe (pc := 94) kX9_79 rfl rfl (c_X9_no hZ hO (t := -2) (by omega) (by omega)) dX9_copy_94 rfl rfl (Nat.le_of_ble_eq_true rfl) (Nat.le_of_ble_eq_true rfl) (fun υ hυ => ?_)
              refine A_iret (pc := 97) rfl dX9_copy_97 ?_
              have hct : copyT Z (k : Int) (m : Int) i j n = -2 := copyT_m2 k8 m8 (by omega)
              exact RQM (by unfold qCopy; rw [hct, if_pos (by decide)]; rfl) hυ.1 (hυ.2.mono MC70)
            · skip
              refine A_aload_n (pc := 60) dX9_copy_60 rfl rfl ?_
              refine A_iload_n (pc := 61) dX9_copy_61 rfl rfl ?_
              refine A_callV1 (pc := 62) kX9_97 rfl rfl (c_X9_isRow hZ hO k8) dX9_copy_62 rfl rfl (Nat.le_of_ble_eq_true rfl) (Nat.le_of_ble_eq_true rfl) ?_
              refine A_ifb_eq (pc := 65) 98 dX9_copy_65 (by decide) (fun h65 => ?_) (fun h65 => ?_)
              · skip
                refine A_loc (l2 := [(0, _), (1, _), (2, _), (3, _), (4, _), (5, _)]) ⟨rfl, rfl, rfl, rfl, rfl, rfl, trivial⟩ ?_
                exact x_X9_copy hZ hO k8 m8 hi1 hi2 hj1 hj2 hn1 hn2 (by omega)
              · skip
                refine A_aload_n (pc := 68) dX9_copy_68 rfl rfl ?_
                refine A_iload_n (pc := 69) dX9_copy_69 rfl rfl ?_
                refine A_callV1 (pc := 70) kX9_97 rfl rfl (c_X9_isRow hZ hO m8) dX9_copy_70 rfl rfl (Nat.le_of_ble_eq_true rfl) (Nat.le_of_ble_eq_true rfl) ?_
                refine A_ifb_eq (pc := 73) 98 dX9_copy_73 (by decide) (fun h73 => ?_) (fun h73 => ?_)
                · skip
                  refine A_loc (l2 := [(0, _), (1, _), (2, _), (3, _), (4, _), (5, _)]) ⟨rfl, rfl, rfl, rfl, rfl, rfl, trivial⟩ ?_
                  exact x_X9_copy hZ hO k8 m8 hi1 hi2 hj1 hj2 hn1 hn2 (by omega)
                · skip
                  refine A_aload_n (pc := 76) dX9_copy_76 rfl rfl ?_
                  refine A_getR (pc := 77) fX9_38 rfl rfl dX9_copy_77 ?_
                  refine A_iload_n (pc := 80) dX9_copy_80 rfl rfl ?_
                  refine A_ialdv (pc := 81) _ rfl rfl (by omega) (Nat.le_of_ble_eq_true rfl) ks.1 dX9_copy_81 ?_
                  refine A_aload_n (pc := 82) dX9_copy_82 rfl rfl ?_
                  refine A_getR (pc := 83) fX9_38 rfl rfl dX9_copy_83 ?_
                  refine A_iload_n (pc := 86) dX9_copy_86 rfl rfl ?_
                  refine A_ialdv (pc := 87) _ rfl rfl (by omega) (Nat.le_of_ble_eq_true rfl) ms.1 dX9_copy_87 ?_
                  refine A_icmp_eq (pc := 88) 98 dX9_copy_88 (by decide) (by omega) (by omega) (by omega) (by omega) (fun h88 => ?_) (fun h88 => ?_)
                  · skip
                    refine A_loc (l2 := [(0, _), (1, _), (2, _), (3, _), (4, _), (5, _)]) ⟨rfl, rfl, rfl, rfl, rfl, rfl, trivial⟩ ?_
                    exact x_X9_copy hZ hO k8 m8 hi1 hi2 hj1 hj2 hn1 hn2 (by omega)
                  · skip
                    refine A_aload_n (pc := 91) dX9_copy_91 rfl rfl ?_
                    refine A_bipush (pc := 92) dX9_copy_92 (by decide) ?_
                    refine A_callVe (pc := 94) kX9_79 rfl rfl (c_X9_no hZ hO (t := -2) (by omega) (by omega)) dX9_copy_94 rfl rfl (Nat.le_of_ble_eq_true rfl) (Nat.le_of_ble_eq_true rfl) (fun υ hυ => ?_)
                    refine A_iret (pc := 97) rfl dX9_copy_97 ?_
                    have hct : copyT Z (k : Int) (m : Int) i j n = -2 := copyT_m2 k8 m8 (by omega)
                    exact RQM (by unfold qCopy; rw [hct, if_pos (by decide)]; rfl) hυ.1 (hυ.2.mono MC70)
    · skip
      refine A_aload_n (pc := 20) dX9_copy_20 rfl rfl ?_
      refine A_iconst (pc := 21) dX9_copy_21 ?_
      refine A_callVe (pc := 22) kX9_79 rfl rfl (c_X9_no hZ hO (t := -1) (by omega) (by omega)) dX9_copy_22 rfl rfl (Nat.le_of_ble_eq_true rfl) (Nat.le_of_ble_eq_true rfl) (fun υ hυ => ?_)
      refine A_iret (pc := 25) rfl dX9_copy_25 ?_
      have hct : copyT Z p q i j n = -1 := copyT_m1 (by omega)
      exact RQM (by unfold qCopy; rw [hct, if_pos (by decide)]; rfl) hυ.1 (hυ.2.mono MC70)
