/-! PART 20: calls on the town: house, pane, walker, put, reach, paneOf; both -/
def qHouse (Z : Zt) (s : Int) (b : Bool) : Int × Zt := if ¬ (0 ≤ s ∧ s < 49) ∨ wAt Z.1 s = true ∨ (¬ b = true ∧ pAt Z.1 s = true) then refZ Z (-6) else (bI (sT Z.1.1 s), zTw Z (tH Z.1 (if b = true then Z.1.1 ||| sqB s else nB Z.1.1 (sqB s))))
def qPane (Z : Zt) (k a s w : Int) : Int × Zt := if ¬ (0 ≤ k ∧ k < 7) then refZ Z (-1) else if ¬ ((0 ≤ a ∧ a ≤ 9) ∧ sT Z.1.1 s ∧ (0 ≤ w ∧ w < 4)) then refZ Z (-6) else if ¬ Z.1.2.1 0 < 9 then refZ Z (-7) else (Z.1.2.1 0, zTw Z (addP Z.1 k a s w))
def qWalker (Z : Zt) (s w : Int) : Int × Zt := if ¬ ((inS s ∧ ¬ sT Z.1.1 s) ∧ (0 ≤ w ∧ w < 4)) then refZ Z (-6) else if ¬ Z.1.2.1 1 < 5 then refZ Z (-7) else (Z.1.2.1 1, zTw Z (addW Z.1 s w))
def qPut (Z : Zt) (p s w : Int) : Int × Zt := if ¬ (0 ≤ p ∧ p < Z.1.2.1 1) then refZ Z (-1) else if ¬ ((inS s ∧ ¬ sT Z.1.1 s) ∧ (0 ≤ w ∧ w < 4)) then refZ Z (-6) else (Z.1.2.2 4 p.toNat, zTw Z (plc Z.1 p.toNat s w))
def qReach (Z : Zt) (v : Int) : Int × Zt := if ¬ (1 ≤ v ∧ v ≤ 6) then refZ Z (-6) else (Z.1.2.1 2, zTw Z (tS Z.1 2 v))
def qPaneOf (Z : Zt) (p w : Int) : Int × Zt := if ¬ ((0 ≤ p ∧ p < Z.1.2.1 0) ∧ (0 ≤ w ∧ w ≤ 5)) then refZ Z (-5) else (if w = 0 then Z.1.2.2 0 p.toNat else if w = 1 then Z.1.2.2 1 p.toNat else if w = 2 then Z.1.2.2 2 p.toNat else if w = 3 then Z.1.2.2 3 p.toNat else if w = 4 then bc64 (lN (seeB Z.1 Z.1.1 p.toNat)) else (wIn Z.1 (seeB Z.1 Z.1.1 p.toNat) : Nat), Z)
theorem TSX : ∀ a, TS 14 a → XC a := fun a h => by unfold TS at h; unfold XC; omega
theorem TMC : ∀ a, (54 ≤ a ∧ a < 64) → MC a := fun a h => h.1
theorem bt_or {h k i : Nat} : (h ||| 2 ^ k).testBit i = (h.testBit i || decide (k = i)) := by rw [Nat.testBit_or, Nat.testBit_two_pow]
theorem tS_ne {τ : Tw} {k : Nat} {v : Int} {j : Nat} (h : j ≠ k) : (tS τ k v).2.1 j = τ.2.1 j := if_neg h
theorem tS_eq {τ : Tw} {k : Nat} {v : Int} : (tS τ k v).2.1 k = v := if_pos rfl
/-- houses built or not, in the reference -/
theorem RMt.house {τ : Tw} {σ : Sg} (h : RMt τ σ) {k : Nat} (hk : k < 49) (b : Bool) : RMt (tH τ (if b = true then τ.1 ||| sqB (k : Int) else nB τ.1 (sqB (k : Int)))) (uI σ 62 k (bI (b = true))) := by
  obtain ⟨t1, t2, t3, t4, t5, t6, t7⟩ := h
  have e : ∀ a, a ≠ 62 → (uI σ 62 k (bI (b = true))).1 a = σ.1 a := fun a ha => (uI_ne ha).symm
  have es : sqB (k : Int) = 2 ^ k := by unfold sqB; rw [if_pos (by omega)]; rfl
  refine ⟨fun i hi => ?_, by rw [e 54 (by omega)]; exact t2, by rw [e 54 (by omega)]; exact t3, fun j hj => by rw [e 63 (by omega)]; exact t4 j hj, by rw [e 54 (by omega)]; exact t5, fun j p hj hp => by rw [e _ (by omega)]; exact t6 j p hj hp, fun j p hj hp => by rw [e _ (by omega)]; exact t7 j p hj hp⟩
  rw [uI_at, es]
  show _ = bI ((if b = true then τ.1 ||| 2 ^ k else nB τ.1 (2 ^ k)).testBit i = true)
  by_cases q : i = k
  · rw [if_pos ⟨rfl, q⟩, q]
    cases b with
    | true => rw [if_pos rfl]; exact (bI_congr (by rw [bt_or]; simp)).symm
    | false => rw [if_neg Bool.false_ne_true]; exact (bI_congr (by rw [nB_bit, Nat.testBit_two_pow_self]; simp)).symm
  · rw [if_neg (fun z => q z.2), t1 i hi]
    cases b with
    | true => rw [if_pos rfl]; exact bI_congr (by rw [bt_or]; simp [Ne.symm q])
    | false => rw [if_neg Bool.false_ne_true]; exact bI_congr (by rw [nB_bit, Nat.testBit_two_pow]; simp [Ne.symm q])
theorem RMt.setA {τ : Tw} {σ : Sg} (h : RMt τ σ) (j p : Nat) (v : Int) (hj : j < 7) : RMt (tA τ j p v) (uI σ (55 + j) p v) := by
  obtain ⟨t1, t2, t3, t4, t5, t6, t7⟩ := h
  have e : ∀ a, a ≠ 55 + j → (uI σ (55 + j) p v).1 a = σ.1 a := fun a ha => (uI_ne ha).symm
  refine ⟨fun i hi => by rw [e 62 (by omega)]; exact t1 i hi, by rw [e 54 (by omega)]; exact t2, by rw [e 54 (by omega)]; exact t3, fun k hk => by rw [e 63 (by omega)]; exact t4 k hk, by rw [e 54 (by omega)]; exact t5, fun i q hi hq => ?_, fun i q hi hq => ?_⟩
  · rw [uI_at]
    show _ = (if i = j ∧ q = p then v else τ.2.2 i q)
    by_cases e : i = j ∧ q = p
    · rw [if_pos e, if_pos (by omega)]
    · rw [if_neg e, if_neg (by omega)]; exact t6 i q hi hq
  · rw [uI_at]
    show _ = (if 4 + i = j ∧ q = p then v else τ.2.2 (4 + i) q)
    by_cases e : 4 + i = j ∧ q = p
    · rw [if_pos e, if_pos (by omega)]
    · rw [if_neg e, if_neg (by omega)]; exact t7 i q hi hq
theorem RMt.setW {τ : Tw} {σ : Sg} (h : RMt τ σ) {k : Nat} (v : Int) (hk : k < 3) : RMt (tS τ (2 + k) v) (uI σ 63 k v) := by
  obtain ⟨t1, t2, t3, t4, t5, t6, t7⟩ := h
  have e : ∀ a, a ≠ 63 → (uI σ 63 k v).1 a = σ.1 a := fun a ha => (uI_ne ha).symm
  refine ⟨fun i hi => by rw [e 62 (by omega)]; exact t1 i hi, by rw [e 54 (by omega)]; exact t2.trans (tS_ne (by omega)).symm, by rw [e 54 (by omega)]; exact t3.trans (tS_ne (by omega)).symm, fun j hj => ?_, by rw [e 54 (by omega)]; exact t5.trans (tS_ne (by omega)).symm, fun j p hj hp => by rw [tS_ne (by omega)] at hp; rw [e _ (by omega)]; exact t6 j p hj hp, fun j p hj hp => by rw [tS_ne (by omega)] at hp; rw [e _ (by omega)]; exact t7 j p hj hp⟩
  rw [uI_at]
  by_cases q : j = k
  · rw [if_pos ⟨rfl, q⟩, q, tS_eq]
  · rw [if_neg (fun z => q z.2), tS_ne (by omega)]; exact t4 j hj
theorem RMt.setSeed {τ : Tw} {σ : Sg} (h : RMt τ σ) (v : Int) : RMt (tS τ 5 v) (uI σ 54 11 v) := by
  obtain ⟨t1, t2, t3, t4, t5, t6, t7⟩ := h
  have e : ∀ a, a ≠ 54 → (uI σ 54 11 v).1 a = σ.1 a := fun a ha => (uI_ne ha).symm
  refine ⟨fun i hi => by rw [e 62 (by omega)]; exact t1 i hi, by rw [uI_at, if_neg (by omega)]; exact t2.trans (tS_ne (by omega)).symm, by rw [uI_at, if_neg (by omega)]; exact t3.trans (tS_ne (by omega)).symm, fun j hj => by rw [e 63 (by omega)]; exact (t4 j hj).trans (tS_ne (by omega)).symm, by rw [uI_at, if_pos ⟨rfl, rfl⟩]; exact tS_eq.symm, fun j p hj hp => by rw [tS_ne (by omega)] at hp; rw [e _ (by omega)]; exact t6 j p hj hp, fun j p hj hp => by rw [tS_ne (by omega)] at hp; rw [e _ (by omega)]; exact t7 j p hj hp⟩
theorem RMt.inc0 {τ : Tw} {σ : Sg} (h : RMt τ σ) {n : Nat} (hn : τ.2.1 0 = n) (hA : ∀ j, j < 4 → σ.1 (55 + j) n = τ.2.2 j n) : RMt (tS τ 0 (n + 1)) (uI σ 54 0 (n + 1)) := by
  obtain ⟨t1, t2, t3, t4, t5, t6, t7⟩ := h
  have e : ∀ a, a ≠ 54 → (uI σ 54 0 (n + 1)).1 a = σ.1 a := fun a ha => (uI_ne ha).symm
  refine ⟨fun i hi => by rw [e 62 (by omega)]; exact t1 i hi, by rw [uI_at, if_pos ⟨rfl, rfl⟩]; exact tS_eq.symm, by rw [uI_at, if_neg (by omega)]; exact t3.trans (tS_ne (by omega)).symm, fun j hj => by rw [e 63 (by omega)]; exact (t4 j hj).trans (tS_ne (by omega)).symm, by rw [uI_at, if_neg (by omega)]; exact t5.trans (tS_ne (by omega)).symm, fun j p hj hp => ?_, fun j p hj hp => by rw [tS_ne (by omega)] at hp; rw [e _ (by omega)]; exact t7 j p hj hp⟩
  rw [e _ (by omega)]
  have hp2 : (p : Int) < n + 1 := by rw [tS_eq] at hp; exact hp
  by_cases q : p = n
  · rw [q]; exact hA j hj
  · exact t6 j p hj (by omega)
theorem RMt.inc1 {τ : Tw} {σ : Sg} (h : RMt τ σ) {n : Nat} (hn : τ.2.1 1 = n) (hA : ∀ j, j < 3 → σ.1 (59 + j) n = τ.2.2 (4 + j) n) : RMt (tS τ 1 (n + 1)) (uI σ 54 5 (n + 1)) := by
  obtain ⟨t1, t2, t3, t4, t5, t6, t7⟩ := h
  have e : ∀ a, a ≠ 54 → (uI σ 54 5 (n + 1)).1 a = σ.1 a := fun a ha => (uI_ne ha).symm
  refine ⟨fun i hi => by rw [e 62 (by omega)]; exact t1 i hi, by rw [uI_at, if_neg (by omega)]; exact t2.trans (tS_ne (by omega)).symm, by rw [uI_at, if_pos ⟨rfl, rfl⟩]; exact tS_eq.symm, fun j hj => by rw [e 63 (by omega)]; exact (t4 j hj).trans (tS_ne (by omega)).symm, by rw [uI_at, if_neg (by omega)]; exact t5.trans (tS_ne (by omega)).symm, fun j p hj hp => by rw [tS_ne (by omega)] at hp; rw [e _ (by omega)]; exact t6 j p hj hp, fun j p hj hp => ?_⟩
  rw [e _ (by omega)]
  have hp2 : (p : Int) < n + 1 := by rw [tS_eq] at hp; exact hp
  by_cases q : p = n
  · rw [q]; exact hA j hj
  · exact t7 j p hj (by omega)
theorem nar_bI {P : Prop} [Decidable P] : vp_nar .boolean (iI (bI P)) = iI (bI P) := by rcases bI_or P with ⟨-, h⟩ | ⟨-, h⟩ <;> rw [h] <;> rfl
def TM : Nat → Prop := fun a => 54 ≤ a ∧ a < 64
theorem g54 {σ : Sg} {k j : Nat} {v : Int} (h : k ≠ j) : (uI σ 54 j v).1 54 k = σ.1 54 k := by rw [uI_at, if_neg (fun q => h q.2)]
theorem g54n {σ : Sg} {c k j : Nat} {v : Int} (h : c ≠ 54) : (uI σ c j v).1 54 k = σ.1 54 k := by rw [uI_at, if_neg (fun q => h q.1.symm)]
theorem dX8_house_0 : decode cX8_house 0 = .ok (.iload_n 1, 1) := by decide +kernel
theorem dX8_house_1 : decode cX8_house 1 = .ok (.invokestatic 152, 3) := by decide +kernel
theorem dX8_house_4 : decode cX8_house 4 = .ok (.ifCond .ne 10, 3) := by decide +kernel
theorem dX8_house_7 : decode cX8_house 7 = .ok (.aload_n 0, 1) := by decide +kernel
theorem dX8_house_8 : decode cX8_house 8 = .ok (.bipush (-6), 2) := by decide +kernel
theorem dX8_house_10 : decode cX8_house 10 = .ok (.invokevirtual 76, 3) := by decide +kernel
theorem dX8_house_13 : decode cX8_house 13 = .ok (.ireturn, 1) := by decide +kernel
theorem dX8_house_14 : decode cX8_house 14 = .ok (.aload_n 0, 1) := by decide +kernel
theorem dX8_house_15 : decode cX8_house 15 = .ok (.getfield 10, 3) := by decide +kernel
theorem dX8_house_18 : decode cX8_house 18 = .ok (.iload_n 1, 1) := by decide +kernel
theorem dX8_house_19 : decode cX8_house 19 = .ok (.invokevirtual 157, 3) := by decide +kernel
theorem dX8_house_22 : decode cX8_house 22 = .ok (.ifCond .ne 18, 3) := by decide +kernel
theorem dX8_house_25 : decode cX8_house 25 = .ok (.iload_n 2, 1) := by decide +kernel
theorem dX8_house_26 : decode cX8_house 26 = .ok (.ifCond .ne 21, 3) := by decide +kernel
theorem dX8_house_29 : decode cX8_house 29 = .ok (.aload_n 0, 1) := by decide +kernel
theorem dX8_house_30 : decode cX8_house 30 = .ok (.getfield 10, 3) := by decide +kernel
theorem dX8_house_33 : decode cX8_house 33 = .ok (.iload_n 1, 1) := by decide +kernel
theorem dX8_house_34 : decode cX8_house 34 = .ok (.invokevirtual 160, 3) := by decide +kernel
theorem dX8_house_37 : decode cX8_house 37 = .ok (.ifCond .eq 10, 3) := by decide +kernel
theorem dX8_house_40 : decode cX8_house 40 = .ok (.aload_n 0, 1) := by decide +kernel
theorem dX8_house_41 : decode cX8_house 41 = .ok (.bipush (-6), 2) := by decide +kernel
theorem dX8_house_43 : decode cX8_house 43 = .ok (.invokevirtual 76, 3) := by decide +kernel
theorem dX8_house_46 : decode cX8_house 46 = .ok (.ireturn, 1) := by decide +kernel
theorem dX8_house_47 : decode cX8_house 47 = .ok (.aload_n 0, 1) := by decide +kernel
theorem dX8_house_48 : decode cX8_house 48 = .ok (.getfield 10, 3) := by decide +kernel
theorem dX8_house_51 : decode cX8_house 51 = .ok (.iload_n 1, 1) := by decide +kernel
theorem dX8_house_52 : decode cX8_house 52 = .ok (.invokevirtual 163, 3) := by decide +kernel
theorem dX8_house_55 : decode cX8_house 55 = .ok (.ifCond .eq 7, 3) := by decide +kernel
theorem dX8_house_58 : decode cX8_house 58 = .ok (.iconst 1, 1) := by decide +kernel
theorem dX8_house_59 : decode cX8_house 59 = .ok (.goto 4, 3) := by decide +kernel
theorem dX8_house_62 : decode cX8_house 62 = .ok (.iconst 0, 1) := by decide +kernel
theorem dX8_house_63 : decode cX8_house 63 = .ok (.istore_n 3, 1) := by decide +kernel
theorem dX8_house_64 : decode cX8_house 64 = .ok (.aload_n 0, 1) := by decide +kernel
theorem dX8_house_65 : decode cX8_house 65 = .ok (.getfield 10, 3) := by decide +kernel
theorem dX8_house_68 : decode cX8_house 68 = .ok (.iload_n 1, 1) := by decide +kernel
theorem dX8_house_69 : decode cX8_house 69 = .ok (.iload_n 2, 1) := by decide +kernel
theorem dX8_house_70 : decode cX8_house 70 = .ok (.invokevirtual 166, 3) := by decide +kernel
theorem dX8_house_73 : decode cX8_house 73 = .ok (.iload_n 3, 1) := by decide +kernel
theorem dX8_house_74 : decode cX8_house 74 = .ok (.ireturn, 1) := by decide +kernel
set_option maxRecDepth 20000 in
theorem c_X8_house {G : Gl} {d : Nat} {σ : Sg} {Z : Zt} (hZ : RelX Z σ) (hO : OkZ Z) {s : Int} (hs1 : -2147483648 ≤ s) (hs2 : s < 2147483648) {b : Bool} : CT G (d + 2) yX8_house cX8_house 4 (some .int) [.ref (gA G 0), .int (iI s), .int (iI (bI (b = true)))] σ (RE (some (.int (iI (qHouse Z s b).1))) (fun υ => RelX (qHouse Z s b).2 υ ∧ Fr XC σ υ)) := by
  refine CT.of (by decide +kernel) (Nat.le_of_ble_eq_true rfl) ?_
  change AW G _ RX8 _ _ _ 0 [(0, .ref (gA G 0)), (1, .int (iI s)), (2, .int (iI (bI (b = true))))] [] _ _
  refine A_iload_n (pc := 0) dX8_house_0 rfl rfl ?_
  refine A_callS1 (pc := 1) kX8_152 (c_X0_isSquare hs1 hs2) dX8_house_1 rfl rfl (Nat.le_of_ble_eq_true rfl) (Nat.le_of_ble_eq_true rfl) ?_
  refine A_ifb_ne (pc := 4) 14 dX8_house_4 (by decide) (fun h4 => ?_) (fun h4 => ?_)
  · skip
    refine A_aload_n (pc := 14) dX8_house_14 rfl rfl ?_
    refine A_getR (pc := 15) fX8_10 rfl rfl dX8_house_15 ?_
    refine A_iload_n (pc := 18) dX8_house_18 rfl rfl ?_
    refine A_callV1 (pc := 19) kX8_157 rfl rfl (c_X5_isSomebodyAt TC14 hZ.1 hO.1 hs1 hs2) dX8_house_19 rfl rfl (Nat.le_of_ble_eq_true rfl) (Nat.le_of_ble_eq_true rfl) ?_
    refine A_ifb_ne (pc := 22) 40 dX8_house_22 (by decide) (fun h22 => ?_) (fun h22 => ?_)
    · skip
      refine A_aload_n (pc := 40) dX8_house_40 rfl rfl ?_
      refine A_bipush (pc := 41) dX8_house_41 (by decide) ?_
      refine A_callVe (pc := 43) kX8_76 rfl rfl (c_X8_refuse hZ hO (t := -6) (by omega) (by omega)) dX8_house_43 rfl rfl (Nat.le_of_ble_eq_true rfl) (Nat.le_of_ble_eq_true rfl) (fun υ hυ => ?_)
      refine A_iret (pc := 46) rfl dX8_house_46 ?_
      exact RQX (by unfold qHouse; rw [if_pos (Or.inr (Or.inl h22))]; rfl) hυ.1 (hυ.2.mono XC2)
    · skip
      refine A_iload_n (pc := 25) dX8_house_25 rfl rfl ?_
      refine A_ifb_ne (pc := 26) 47 dX8_house_26 (by decide) (fun h26 => ?_) (fun h26 => ?_)
      · skip
        refine A_aload_n (pc := 47) dX8_house_47 rfl rfl ?_
        refine A_getR (pc := 48) fX8_10 rfl rfl dX8_house_48 ?_
        refine A_iload_n (pc := 51) dX8_house_51 rfl rfl ?_
        refine A_callV1 (pc := 52) kX8_163 rfl rfl (c_X5_isHouse TC14 hZ.1 hO.1 hs1 hs2) dX8_house_52 rfl rfl (Nat.le_of_ble_eq_true rfl) (Nat.le_of_ble_eq_true rfl) ?_
        refine A_ifb_eq (pc := 55) 62 dX8_house_55 (by decide) (fun h55 => ?_) (fun h55 => ?_)
        · skip
          refine A_iconst (pc := 62) dX8_house_62 ?_
          refine A_istore_n (pc := 63) dX8_house_63 rfl (Nat.le_of_ble_eq_true rfl) ?_
          refine A_aload_n (pc := 64) dX8_house_64 rfl rfl ?_
          refine A_getR (pc := 65) fX8_10 rfl rfl dX8_house_65 ?_
          refine A_iload_n (pc := 68) dX8_house_68 rfl rfl ?_
          refine A_iload_n (pc := 69) dX8_house_69 rfl rfl ?_
          refine A_callVe0 (pc := 70) kX8_166 rfl rfl (c_X5_build TC14 hZ.1 hO.1 hs1 hs2) dX8_house_70 rfl rfl (Nat.le_of_ble_eq_true rfl) (Nat.le_of_ble_eq_true rfl) (fun υ hυ => ?_)
          refine A_iload_n (pc := 73) dX8_house_73 rfl rfl ?_
          refine A_iret (pc := 74) rfl dX8_house_74 ?_
          exact RQX (by unfold qHouse; rw [if_neg (fun q => q.elim (fun z => z h4) (fun z => z.elim h22 (fun y => y.1 h26))), bI_f h55]) (hZ.town hυ.1 hυ.2) (hυ.2.mono TSX)
        · skip
          refine A_iconst (pc := 58) dX8_house_58 ?_
          refine A_goto (pc := 59) 63 dX8_house_59 (by decide) ?_
          refine A_istore_n (pc := 63) dX8_house_63 rfl (Nat.le_of_ble_eq_true rfl) ?_
          refine A_aload_n (pc := 64) dX8_house_64 rfl rfl ?_
          refine A_getR (pc := 65) fX8_10 rfl rfl dX8_house_65 ?_
          refine A_iload_n (pc := 68) dX8_house_68 rfl rfl ?_
          refine A_iload_n (pc := 69) dX8_house_69 rfl rfl ?_
          refine A_callVe0 (pc := 70) kX8_166 rfl rfl (c_X5_build TC14 hZ.1 hO.1 hs1 hs2) dX8_house_70 rfl rfl (Nat.le_of_ble_eq_true rfl) (Nat.le_of_ble_eq_true rfl) (fun υ hυ => ?_)
          refine A_iload_n (pc := 73) dX8_house_73 rfl rfl ?_
          refine A_iret (pc := 74) rfl dX8_house_74 ?_
          exact RQX (by unfold qHouse; rw [if_neg (fun q => q.elim (fun z => z h4) (fun z => z.elim h22 (fun y => y.1 h26))), bI_t h55]) (hZ.town hυ.1 hυ.2) (hυ.2.mono TSX)
      · skip
        refine A_aload_n (pc := 29) dX8_house_29 rfl rfl ?_
        refine A_getR (pc := 30) fX8_10 rfl rfl dX8_house_30 ?_
        refine A_iload_n (pc := 33) dX8_house_33 rfl rfl ?_
        refine A_callV1 (pc := 34) kX8_160 rfl rfl (c_X5_isPaneAt TC14 hZ.1 hO.1 hs1 hs2) dX8_house_34 rfl rfl (Nat.le_of_ble_eq_true rfl) (Nat.le_of_ble_eq_true rfl) ?_
        refine A_ifb_eq (pc := 37) 47 dX8_house_37 (by decide) (fun h37 => ?_) (fun h37 => ?_)
        · skip
          refine A_aload_n (pc := 47) dX8_house_47 rfl rfl ?_
          refine A_getR (pc := 48) fX8_10 rfl rfl dX8_house_48 ?_
          refine A_iload_n (pc := 51) dX8_house_51 rfl rfl ?_
          refine A_callV1 (pc := 52) kX8_163 rfl rfl (c_X5_isHouse TC14 hZ.1 hO.1 hs1 hs2) dX8_house_52 rfl rfl (Nat.le_of_ble_eq_true rfl) (Nat.le_of_ble_eq_true rfl) ?_
          refine A_ifb_eq (pc := 55) 62 dX8_house_55 (by decide) (fun h55 => ?_) (fun h55 => ?_)
          · skip
            refine A_iconst (pc := 62) dX8_house_62 ?_
            refine A_istore_n (pc := 63) dX8_house_63 rfl (Nat.le_of_ble_eq_true rfl) ?_
            refine A_aload_n (pc := 64) dX8_house_64 rfl rfl ?_
            refine A_getR (pc := 65) fX8_10 rfl rfl dX8_house_65 ?_
            refine A_iload_n (pc := 68) dX8_house_68 rfl rfl ?_
            refine A_iload_n (pc := 69) dX8_house_69 rfl rfl ?_
            refine A_callVe0 (pc := 70) kX8_166 rfl rfl (c_X5_build TC14 hZ.1 hO.1 hs1 hs2) dX8_house_70 rfl rfl (Nat.le_of_ble_eq_true rfl) (Nat.le_of_ble_eq_true rfl) (fun υ hυ => ?_)
            refine A_iload_n (pc := 73) dX8_house_73 rfl rfl ?_
            refine A_iret (pc := 74) rfl dX8_house_74 ?_
            exact RQX (by unfold qHouse; rw [if_neg (fun q => q.elim (fun z => z h4) (fun z => z.elim h22 (fun y => h37 y.2))), bI_f h55]) (hZ.town hυ.1 hυ.2) (hυ.2.mono TSX)
          · skip
            refine A_iconst (pc := 58) dX8_house_58 ?_
            refine A_goto (pc := 59) 63 dX8_house_59 (by decide) ?_
            refine A_istore_n (pc := 63) dX8_house_63 rfl (Nat.le_of_ble_eq_true rfl) ?_
            refine A_aload_n (pc := 64) dX8_house_64 rfl rfl ?_
            refine A_getR (pc := 65) fX8_10 rfl rfl dX8_house_65 ?_
            refine A_iload_n (pc := 68) dX8_house_68 rfl rfl ?_
            refine A_iload_n (pc := 69) dX8_house_69 rfl rfl ?_
            refine A_callVe0 (pc := 70) kX8_166 rfl rfl (c_X5_build TC14 hZ.1 hO.1 hs1 hs2) dX8_house_70 rfl rfl (Nat.le_of_ble_eq_true rfl) (Nat.le_of_ble_eq_true rfl) (fun υ hυ => ?_)
            refine A_iload_n (pc := 73) dX8_house_73 rfl rfl ?_
            refine A_iret (pc := 74) rfl dX8_house_74 ?_
            exact RQX (by unfold qHouse; rw [if_neg (fun q => q.elim (fun z => z h4) (fun z => z.elim h22 (fun y => h37 y.2))), bI_t h55]) (hZ.town hυ.1 hυ.2) (hυ.2.mono TSX)
        · skip
          refine A_aload_n (pc := 40) dX8_house_40 rfl rfl ?_
          refine A_bipush (pc := 41) dX8_house_41 (by decide) ?_
          refine A_callVe (pc := 43) kX8_76 rfl rfl (c_X8_refuse hZ hO (t := -6) (by omega) (by omega)) dX8_house_43 rfl rfl (Nat.le_of_ble_eq_true rfl) (Nat.le_of_ble_eq_true rfl) (fun υ hυ => ?_)
          refine A_iret (pc := 46) rfl dX8_house_46 ?_
          exact RQX (by unfold qHouse; rw [if_pos (Or.inr (Or.inr ⟨h26, h37⟩))]; rfl) hυ.1 (hυ.2.mono XC2)
  · skip
    refine A_aload_n (pc := 7) dX8_house_7 rfl rfl ?_
    refine A_bipush (pc := 8) dX8_house_8 (by decide) ?_
    refine A_callVe (pc := 10) kX8_76 rfl rfl (c_X8_refuse hZ hO (t := -6) (by omega) (by omega)) dX8_house_10 rfl rfl (Nat.le_of_ble_eq_true rfl) (Nat.le_of_ble_eq_true rfl) (fun υ hυ => ?_)
    refine A_iret (pc := 13) rfl dX8_house_13 ?_
    exact RQX (by unfold qHouse; rw [if_pos (Or.inl h4)]; rfl) hυ.1 (hυ.2.mono XC2)
theorem dX8_pane_0 : decode cX8_pane 0 = .ok (.iload_n 1, 1) := by decide +kernel
theorem dX8_pane_1 : decode cX8_pane 1 = .ok (.invokestatic 120, 3) := by decide +kernel
theorem dX8_pane_4 : decode cX8_pane 4 = .ok (.ifCond .ne 9, 3) := by decide +kernel
theorem dX8_pane_7 : decode cX8_pane 7 = .ok (.aload_n 0, 1) := by decide +kernel
theorem dX8_pane_8 : decode cX8_pane 8 = .ok (.iconst (-1), 1) := by decide +kernel
theorem dX8_pane_9 : decode cX8_pane 9 = .ok (.invokevirtual 76, 3) := by decide +kernel
theorem dX8_pane_12 : decode cX8_pane 12 = .ok (.ireturn, 1) := by decide +kernel
theorem dX8_pane_13 : decode cX8_pane 13 = .ok (.iload_n 2, 1) := by decide +kernel
theorem dX8_pane_14 : decode cX8_pane 14 = .ok (.ifCond .lt 28, 3) := by decide +kernel
theorem dX8_pane_17 : decode cX8_pane 17 = .ok (.iload_n 2, 1) := by decide +kernel
theorem dX8_pane_18 : decode cX8_pane 18 = .ok (.bipush 9, 2) := by decide +kernel
theorem dX8_pane_20 : decode cX8_pane 20 = .ok (.if_icmp .gt 22, 3) := by decide +kernel
theorem dX8_pane_23 : decode cX8_pane 23 = .ok (.aload_n 0, 1) := by decide +kernel
theorem dX8_pane_24 : decode cX8_pane 24 = .ok (.getfield 10, 3) := by decide +kernel
theorem dX8_pane_27 : decode cX8_pane 27 = .ok (.iload_n 3, 1) := by decide +kernel
theorem dX8_pane_28 : decode cX8_pane 28 = .ok (.invokevirtual 163, 3) := by decide +kernel
theorem dX8_pane_31 : decode cX8_pane 31 = .ok (.ifCond .eq 11, 3) := by decide +kernel
theorem dX8_pane_34 : decode cX8_pane 34 = .ok (.iload 4, 2) := by decide +kernel
theorem dX8_pane_36 : decode cX8_pane 36 = .ok (.invokestatic 170, 3) := by decide +kernel
theorem dX8_pane_39 : decode cX8_pane 39 = .ok (.ifCond .ne 10, 3) := by decide +kernel
theorem dX8_pane_42 : decode cX8_pane 42 = .ok (.aload_n 0, 1) := by decide +kernel
theorem dX8_pane_43 : decode cX8_pane 43 = .ok (.bipush (-6), 2) := by decide +kernel
theorem dX8_pane_45 : decode cX8_pane 45 = .ok (.invokevirtual 76, 3) := by decide +kernel
theorem dX8_pane_48 : decode cX8_pane 48 = .ok (.ireturn, 1) := by decide +kernel
theorem dX8_pane_49 : decode cX8_pane 49 = .ok (.aload_n 0, 1) := by decide +kernel
theorem dX8_pane_50 : decode cX8_pane 50 = .ok (.getfield 10, 3) := by decide +kernel
theorem dX8_pane_53 : decode cX8_pane 53 = .ok (.invokevirtual 173, 3) := by decide +kernel
theorem dX8_pane_56 : decode cX8_pane 56 = .ok (.ifCond .ne 10, 3) := by decide +kernel
theorem dX8_pane_59 : decode cX8_pane 59 = .ok (.aload_n 0, 1) := by decide +kernel
theorem dX8_pane_60 : decode cX8_pane 60 = .ok (.bipush (-7), 2) := by decide +kernel
theorem dX8_pane_62 : decode cX8_pane 62 = .ok (.invokevirtual 76, 3) := by decide +kernel
theorem dX8_pane_65 : decode cX8_pane 65 = .ok (.ireturn, 1) := by decide +kernel
theorem dX8_pane_66 : decode cX8_pane 66 = .ok (.aload_n 0, 1) := by decide +kernel
theorem dX8_pane_67 : decode cX8_pane 67 = .ok (.getfield 10, 3) := by decide +kernel
theorem dX8_pane_70 : decode cX8_pane 70 = .ok (.iload_n 1, 1) := by decide +kernel
theorem dX8_pane_71 : decode cX8_pane 71 = .ok (.iload_n 2, 1) := by decide +kernel
theorem dX8_pane_72 : decode cX8_pane 72 = .ok (.iload_n 3, 1) := by decide +kernel
theorem dX8_pane_73 : decode cX8_pane 73 = .ok (.iload 4, 2) := by decide +kernel
theorem dX8_pane_75 : decode cX8_pane 75 = .ok (.invokevirtual 176, 3) := by decide +kernel
theorem dX8_pane_78 : decode cX8_pane 78 = .ok (.ireturn, 1) := by decide +kernel
set_option maxRecDepth 20000 in
theorem c_X8_pane {G : Gl} {d : Nat} {σ : Sg} {Z : Zt} (hZ : RelX Z σ) (hO : OkZ Z) {k : Int} (hk1 : -2147483648 ≤ k) (hk2 : k < 2147483648) {a : Int} (ha1 : -2147483648 ≤ a) (ha2 : a < 2147483648) {s : Int} (hs1 : -2147483648 ≤ s) (hs2 : s < 2147483648) {w : Int} (hw1 : -2147483648 ≤ w) (hw2 : w < 2147483648) : CT G (d + 2) yX8_pane cX8_pane 5 (some .int) [.ref (gA G 0), .int (iI k), .int (iI a), .int (iI s), .int (iI w)] σ (RE (some (.int (iI (qPane Z k a s w).1))) (fun υ => RelX (qPane Z k a s w).2 υ ∧ Fr XC σ υ)) := by
  refine CT.of (by decide +kernel) (Nat.le_of_ble_eq_true rfl) ?_
  change AW G _ RX8 _ _ _ 0 [(0, .ref (gA G 0)), (1, .int (iI k)), (2, .int (iI a)), (3, .int (iI s)), (4, .int (iI w))] [] _ _
  refine A_iload_n (pc := 0) dX8_pane_0 rfl rfl ?_
  refine A_callS1 (pc := 1) kX8_120 (c_X8_isKind hk1 hk2) dX8_pane_1 rfl rfl (Nat.le_of_ble_eq_true rfl) (Nat.le_of_ble_eq_true rfl) ?_
  refine A_ifb_ne (pc := 4) 13 dX8_pane_4 (by decide) (fun h4 => ?_) (fun h4 => ?_)
  · skip
    refine A_iload_n (pc := 13) dX8_pane_13 rfl rfl ?_
    refine A_if_lt (pc := 14) 42 dX8_pane_14 (by decide) (by omega) (by omega) (fun h14 => ?_) (fun h14 => ?_)
    · skip
      refine A_aload_n (pc := 42) dX8_pane_42 rfl rfl ?_
      refine A_bipush (pc := 43) dX8_pane_43 (by decide) ?_
      refine A_callVe (pc := 45) kX8_76 rfl rfl (c_X8_refuse hZ hO (t := -6) (by omega) (by omega)) dX8_pane_45 rfl rfl (Nat.le_of_ble_eq_true rfl) (Nat.le_of_ble_eq_true rfl) (fun υ hυ => ?_)
      refine A_iret (pc := 48) rfl dX8_pane_48 ?_
      exact RQX (by unfold qPane; rw [if_neg (by omega), if_pos (fun q => absurd q.1 (by omega))]; rfl) hυ.1 (hυ.2.mono XC2)
    · skip
      refine A_iload_n (pc := 17) dX8_pane_17 rfl rfl ?_
      refine A_bipush (pc := 18) dX8_pane_18 (by decide) ?_
      refine A_icmp_gt (pc := 20) 42 dX8_pane_20 (by decide) (by omega) (by omega) (by omega) (by omega) (fun h20 => ?_) (fun h20 => ?_)
      · skip
        refine A_aload_n (pc := 42) dX8_pane_42 rfl rfl ?_
        refine A_bipush (pc := 43) dX8_pane_43 (by decide) ?_
        refine A_callVe (pc := 45) kX8_76 rfl rfl (c_X8_refuse hZ hO (t := -6) (by omega) (by omega)) dX8_pane_45 rfl rfl (Nat.le_of_ble_eq_true rfl) (Nat.le_of_ble_eq_true rfl) (fun υ hυ => ?_)
        refine A_iret (pc := 48) rfl dX8_pane_48 ?_
        exact RQX (by unfold qPane; rw [if_neg (by omega), if_pos (fun q => absurd q.1 (by omega))]; rfl) hυ.1 (hυ.2.mono XC2)
      · skip
        refine A_aload_n (pc := 23) dX8_pane_23 rfl rfl ?_
        refine A_getR (pc := 24) fX8_10 rfl rfl dX8_pane_24 ?_
        refine A_iload_n (pc := 27) dX8_pane_27 rfl rfl ?_
        refine A_callV1 (pc := 28) kX8_163 rfl rfl (c_X5_isHouse TC14 hZ.1 hO.1 hs1 hs2) dX8_pane_28 rfl rfl (Nat.le_of_ble_eq_true rfl) (Nat.le_of_ble_eq_true rfl) ?_
        refine A_ifb_eq (pc := 31) 42 dX8_pane_31 (by decide) (fun h31 => ?_) (fun h31 => ?_)
        · skip
          refine A_aload_n (pc := 42) dX8_pane_42 rfl rfl ?_
          refine A_bipush (pc := 43) dX8_pane_43 (by decide) ?_
          refine A_callVe (pc := 45) kX8_76 rfl rfl (c_X8_refuse hZ hO (t := -6) (by omega) (by omega)) dX8_pane_45 rfl rfl (Nat.le_of_ble_eq_true rfl) (Nat.le_of_ble_eq_true rfl) (fun υ hυ => ?_)
          refine A_iret (pc := 48) rfl dX8_pane_48 ?_
          exact RQX (by unfold qPane; rw [if_neg (by omega), if_pos (fun q => h31 q.2.1)]; rfl) hυ.1 (hυ.2.mono XC2)
        · skip
          refine A_iload (pc := 34) dX8_pane_34 rfl ?_
          refine A_callS1 (pc := 36) kX8_170 (c_X0_isWay hw1 hw2) dX8_pane_36 rfl rfl (Nat.le_of_ble_eq_true rfl) (Nat.le_of_ble_eq_true rfl) ?_
          refine A_ifb_ne (pc := 39) 49 dX8_pane_39 (by decide) (fun h39 => ?_) (fun h39 => ?_)
          · skip
            refine A_aload_n (pc := 49) dX8_pane_49 rfl rfl ?_
            refine A_getR (pc := 50) fX8_10 rfl rfl dX8_pane_50 ?_
            refine A_callV1 (pc := 53) kX8_173 rfl rfl (c_X5_hasRoomForPane TC14 hZ.1 hO.1) dX8_pane_53 rfl rfl (Nat.le_of_ble_eq_true rfl) (Nat.le_of_ble_eq_true rfl) ?_
            refine A_ifb_ne (pc := 56) 66 dX8_pane_56 (by decide) (fun h56 => ?_) (fun h56 => ?_)
            · skip
              refine A_aload_n (pc := 66) dX8_pane_66 rfl rfl ?_
              refine A_getR (pc := 67) fX8_10 rfl rfl dX8_pane_67 ?_
              refine A_iload_n (pc := 70) dX8_pane_70 rfl rfl ?_
              refine A_iload_n (pc := 71) dX8_pane_71 rfl rfl ?_
              refine A_iload_n (pc := 72) dX8_pane_72 rfl rfl ?_
              refine A_iload (pc := 73) dX8_pane_73 rfl ?_
              refine A_callVe (pc := 75) kX8_176 rfl rfl (c_X5_addPane TC14 hZ.1 hO.1 h56) dX8_pane_75 rfl rfl (Nat.le_of_ble_eq_true rfl) (Nat.le_of_ble_eq_true rfl) (fun υ hυ => ?_)
              refine A_iret (pc := 78) rfl dX8_pane_78 ?_
              exact RQX (by unfold qPane; rw [if_neg (by omega), if_neg (fun q => q ⟨⟨by omega, by omega⟩, h31, h39⟩), if_neg (fun q => q h56)]) (hZ.town hυ.1 hυ.2) (hυ.2.mono TSX)
            · skip
              refine A_aload_n (pc := 59) dX8_pane_59 rfl rfl ?_
              refine A_bipush (pc := 60) dX8_pane_60 (by decide) ?_
              refine A_callVe (pc := 62) kX8_76 rfl rfl (c_X8_refuse hZ hO (t := -7) (by omega) (by omega)) dX8_pane_62 rfl rfl (Nat.le_of_ble_eq_true rfl) (Nat.le_of_ble_eq_true rfl) (fun υ hυ => ?_)
              refine A_iret (pc := 65) rfl dX8_pane_65 ?_
              exact RQX (by unfold qPane; rw [if_neg (by omega), if_neg (fun q => q ⟨⟨by omega, by omega⟩, h31, h39⟩), if_pos h56]; rfl) hυ.1 (hυ.2.mono XC2)
          · skip
            refine A_aload_n (pc := 42) dX8_pane_42 rfl rfl ?_
            refine A_bipush (pc := 43) dX8_pane_43 (by decide) ?_
            refine A_callVe (pc := 45) kX8_76 rfl rfl (c_X8_refuse hZ hO (t := -6) (by omega) (by omega)) dX8_pane_45 rfl rfl (Nat.le_of_ble_eq_true rfl) (Nat.le_of_ble_eq_true rfl) (fun υ hυ => ?_)
            refine A_iret (pc := 48) rfl dX8_pane_48 ?_
            exact RQX (by unfold qPane; rw [if_neg (by omega), if_pos (fun q => h39 q.2.2)]; rfl) hυ.1 (hυ.2.mono XC2)
  · skip
    refine A_aload_n (pc := 7) dX8_pane_7 rfl rfl ?_
    refine A_iconst (pc := 8) dX8_pane_8 ?_
    refine A_callVe (pc := 9) kX8_76 rfl rfl (c_X8_refuse hZ hO (t := -1) (by omega) (by omega)) dX8_pane_9 rfl rfl (Nat.le_of_ble_eq_true rfl) (Nat.le_of_ble_eq_true rfl) (fun υ hυ => ?_)
    refine A_iret (pc := 12) rfl dX8_pane_12 ?_
    exact RQX (by unfold qPane; rw [if_pos (by omega)]; rfl) hυ.1 (hυ.2.mono XC2)
theorem dX8_walker_0 : decode cX8_walker 0 = .ok (.aload_n 0, 1) := by decide +kernel
theorem dX8_walker_1 : decode cX8_walker 1 = .ok (.getfield 10, 3) := by decide +kernel
theorem dX8_walker_4 : decode cX8_walker 4 = .ok (.iload_n 1, 1) := by decide +kernel
theorem dX8_walker_5 : decode cX8_walker 5 = .ok (.invokevirtual 180, 3) := by decide +kernel
theorem dX8_walker_8 : decode cX8_walker 8 = .ok (.ifCond .eq 10, 3) := by decide +kernel
theorem dX8_walker_11 : decode cX8_walker 11 = .ok (.iload_n 2, 1) := by decide +kernel
theorem dX8_walker_12 : decode cX8_walker 12 = .ok (.invokestatic 170, 3) := by decide +kernel
theorem dX8_walker_15 : decode cX8_walker 15 = .ok (.ifCond .ne 10, 3) := by decide +kernel
theorem dX8_walker_18 : decode cX8_walker 18 = .ok (.aload_n 0, 1) := by decide +kernel
theorem dX8_walker_19 : decode cX8_walker 19 = .ok (.bipush (-6), 2) := by decide +kernel
theorem dX8_walker_21 : decode cX8_walker 21 = .ok (.invokevirtual 76, 3) := by decide +kernel
theorem dX8_walker_24 : decode cX8_walker 24 = .ok (.ireturn, 1) := by decide +kernel
theorem dX8_walker_25 : decode cX8_walker 25 = .ok (.aload_n 0, 1) := by decide +kernel
theorem dX8_walker_26 : decode cX8_walker 26 = .ok (.getfield 10, 3) := by decide +kernel
theorem dX8_walker_29 : decode cX8_walker 29 = .ok (.invokevirtual 183, 3) := by decide +kernel
theorem dX8_walker_32 : decode cX8_walker 32 = .ok (.ifCond .ne 10, 3) := by decide +kernel
theorem dX8_walker_35 : decode cX8_walker 35 = .ok (.aload_n 0, 1) := by decide +kernel
theorem dX8_walker_36 : decode cX8_walker 36 = .ok (.bipush (-7), 2) := by decide +kernel
theorem dX8_walker_38 : decode cX8_walker 38 = .ok (.invokevirtual 76, 3) := by decide +kernel
theorem dX8_walker_41 : decode cX8_walker 41 = .ok (.ireturn, 1) := by decide +kernel
theorem dX8_walker_42 : decode cX8_walker 42 = .ok (.aload_n 0, 1) := by decide +kernel
theorem dX8_walker_43 : decode cX8_walker 43 = .ok (.getfield 10, 3) := by decide +kernel
theorem dX8_walker_46 : decode cX8_walker 46 = .ok (.iload_n 1, 1) := by decide +kernel
theorem dX8_walker_47 : decode cX8_walker 47 = .ok (.iload_n 2, 1) := by decide +kernel
theorem dX8_walker_48 : decode cX8_walker 48 = .ok (.invokevirtual 186, 3) := by decide +kernel
theorem dX8_walker_51 : decode cX8_walker 51 = .ok (.ireturn, 1) := by decide +kernel
set_option maxRecDepth 20000 in
theorem c_X8_walker {G : Gl} {d : Nat} {σ : Sg} {Z : Zt} (hZ : RelX Z σ) (hO : OkZ Z) {s : Int} (hs1 : -2147483648 ≤ s) (hs2 : s < 2147483648) {w : Int} (hw1 : -2147483648 ≤ w) (hw2 : w < 2147483648) : CT G (d + 3) yX8_walker cX8_walker 3 (some .int) [.ref (gA G 0), .int (iI s), .int (iI w)] σ (RE (some (.int (iI (qWalker Z s w).1))) (fun υ => RelX (qWalker Z s w).2 υ ∧ Fr XC σ υ)) := by
  refine CT.of (by decide +kernel) (Nat.le_of_ble_eq_true rfl) ?_
  change AW G _ RX8 _ _ _ 0 [(0, .ref (gA G 0)), (1, .int (iI s)), (2, .int (iI w))] [] _ _
  refine A_aload_n (pc := 0) dX8_walker_0 rfl rfl ?_
  refine A_getR (pc := 1) fX8_10 rfl rfl dX8_walker_1 ?_
  refine A_iload_n (pc := 4) dX8_walker_4 rfl rfl ?_
  refine A_callV1 (pc := 5) kX8_180 rfl rfl (c_X5_isYard TC14 hZ.1 hO.1 hs1 hs2) dX8_walker_5 rfl rfl (Nat.le_of_ble_eq_true rfl) (Nat.le_of_ble_eq_true rfl) ?_
  refine A_ifb_eq (pc := 8) 18 dX8_walker_8 (by decide) (fun h8 => ?_) (fun h8 => ?_)
  · skip
    refine A_aload_n (pc := 18) dX8_walker_18 rfl rfl ?_
    refine A_bipush (pc := 19) dX8_walker_19 (by decide) ?_
    refine A_callVe (pc := 21) kX8_76 rfl rfl (c_X8_refuse hZ hO (t := -6) (by omega) (by omega)) dX8_walker_21 rfl rfl (Nat.le_of_ble_eq_true rfl) (Nat.le_of_ble_eq_true rfl) (fun υ hυ => ?_)
    refine A_iret (pc := 24) rfl dX8_walker_24 ?_
    exact RQX (by unfold qWalker; rw [if_pos (fun q => h8 q.1)]; rfl) hυ.1 (hυ.2.mono XC2)
  · skip
    refine A_iload_n (pc := 11) dX8_walker_11 rfl rfl ?_
    refine A_callS1 (pc := 12) kX8_170 (c_X0_isWay hw1 hw2) dX8_walker_12 rfl rfl (Nat.le_of_ble_eq_true rfl) (Nat.le_of_ble_eq_true rfl) ?_
    refine A_ifb_ne (pc := 15) 25 dX8_walker_15 (by decide) (fun h15 => ?_) (fun h15 => ?_)
    · skip
      refine A_aload_n (pc := 25) dX8_walker_25 rfl rfl ?_
      refine A_getR (pc := 26) fX8_10 rfl rfl dX8_walker_26 ?_
      refine A_callV1 (pc := 29) kX8_183 rfl rfl (c_X5_hasRoomForWalker TC14 hZ.1 hO.1) dX8_walker_29 rfl rfl (Nat.le_of_ble_eq_true rfl) (Nat.le_of_ble_eq_true rfl) ?_
      refine A_ifb_ne (pc := 32) 42 dX8_walker_32 (by decide) (fun h32 => ?_) (fun h32 => ?_)
      · skip
        refine A_aload_n (pc := 42) dX8_walker_42 rfl rfl ?_
        refine A_getR (pc := 43) fX8_10 rfl rfl dX8_walker_43 ?_
        refine A_iload_n (pc := 46) dX8_walker_46 rfl rfl ?_
        refine A_iload_n (pc := 47) dX8_walker_47 rfl rfl ?_
        refine A_callVe (pc := 48) kX8_186 rfl rfl (c_X5_addWalker TC14 hZ.1 hO.1 h32) dX8_walker_48 rfl rfl (Nat.le_of_ble_eq_true rfl) (Nat.le_of_ble_eq_true rfl) (fun υ hυ => ?_)
        refine A_iret (pc := 51) rfl dX8_walker_51 ?_
        exact RQX (by unfold qWalker; rw [if_neg (fun q => q ⟨h8, h15⟩), if_neg (fun q => q h32)]) (hZ.town hυ.1 hυ.2) (hυ.2.mono TSX)
      · skip
        refine A_aload_n (pc := 35) dX8_walker_35 rfl rfl ?_
        refine A_bipush (pc := 36) dX8_walker_36 (by decide) ?_
        refine A_callVe (pc := 38) kX8_76 rfl rfl (c_X8_refuse hZ hO (t := -7) (by omega) (by omega)) dX8_walker_38 rfl rfl (Nat.le_of_ble_eq_true rfl) (Nat.le_of_ble_eq_true rfl) (fun υ hυ => ?_)
        refine A_iret (pc := 41) rfl dX8_walker_41 ?_
        exact RQX (by unfold qWalker; rw [if_neg (fun q => q ⟨h8, h15⟩), if_pos h32]; rfl) hυ.1 (hυ.2.mono XC2)
    · skip
      refine A_aload_n (pc := 18) dX8_walker_18 rfl rfl ?_
      refine A_bipush (pc := 19) dX8_walker_19 (by decide) ?_
      refine A_callVe (pc := 21) kX8_76 rfl rfl (c_X8_refuse hZ hO (t := -6) (by omega) (by omega)) dX8_walker_21 rfl rfl (Nat.le_of_ble_eq_true rfl) (Nat.le_of_ble_eq_true rfl) (fun υ hυ => ?_)
      refine A_iret (pc := 24) rfl dX8_walker_24 ?_
      exact RQX (by unfold qWalker; rw [if_pos (fun q => h15 q.2)]; rfl) hυ.1 (hυ.2.mono XC2)
theorem dX8_put_0 : decode cX8_put 0 = .ok (.aload_n 0, 1) := by decide +kernel
theorem dX8_put_1 : decode cX8_put 1 = .ok (.getfield 10, 3) := by decide +kernel
theorem dX8_put_4 : decode cX8_put 4 = .ok (.iload_n 1, 1) := by decide +kernel
theorem dX8_put_5 : decode cX8_put 5 = .ok (.invokevirtual 190, 3) := by decide +kernel
theorem dX8_put_8 : decode cX8_put 8 = .ok (.ifCond .ne 9, 3) := by decide +kernel
theorem dX8_put_11 : decode cX8_put 11 = .ok (.aload_n 0, 1) := by decide +kernel
theorem dX8_put_12 : decode cX8_put 12 = .ok (.iconst (-1), 1) := by decide +kernel
theorem dX8_put_13 : decode cX8_put 13 = .ok (.invokevirtual 76, 3) := by decide +kernel
theorem dX8_put_16 : decode cX8_put 16 = .ok (.ireturn, 1) := by decide +kernel
theorem dX8_put_17 : decode cX8_put 17 = .ok (.aload_n 0, 1) := by decide +kernel
theorem dX8_put_18 : decode cX8_put 18 = .ok (.getfield 10, 3) := by decide +kernel
theorem dX8_put_21 : decode cX8_put 21 = .ok (.iload_n 2, 1) := by decide +kernel
theorem dX8_put_22 : decode cX8_put 22 = .ok (.invokevirtual 180, 3) := by decide +kernel
theorem dX8_put_25 : decode cX8_put 25 = .ok (.ifCond .eq 10, 3) := by decide +kernel
theorem dX8_put_28 : decode cX8_put 28 = .ok (.iload_n 3, 1) := by decide +kernel
theorem dX8_put_29 : decode cX8_put 29 = .ok (.invokestatic 170, 3) := by decide +kernel
theorem dX8_put_32 : decode cX8_put 32 = .ok (.ifCond .ne 10, 3) := by decide +kernel
theorem dX8_put_35 : decode cX8_put 35 = .ok (.aload_n 0, 1) := by decide +kernel
theorem dX8_put_36 : decode cX8_put 36 = .ok (.bipush (-6), 2) := by decide +kernel
theorem dX8_put_38 : decode cX8_put 38 = .ok (.invokevirtual 76, 3) := by decide +kernel
theorem dX8_put_41 : decode cX8_put 41 = .ok (.ireturn, 1) := by decide +kernel
theorem dX8_put_42 : decode cX8_put 42 = .ok (.aload_n 0, 1) := by decide +kernel
theorem dX8_put_43 : decode cX8_put 43 = .ok (.getfield 10, 3) := by decide +kernel
theorem dX8_put_46 : decode cX8_put 46 = .ok (.iload_n 1, 1) := by decide +kernel
theorem dX8_put_47 : decode cX8_put 47 = .ok (.invokevirtual 193, 3) := by decide +kernel
theorem dX8_put_50 : decode cX8_put 50 = .ok (.istore 4, 2) := by decide +kernel
theorem dX8_put_52 : decode cX8_put 52 = .ok (.aload_n 0, 1) := by decide +kernel
theorem dX8_put_53 : decode cX8_put 53 = .ok (.getfield 10, 3) := by decide +kernel
theorem dX8_put_56 : decode cX8_put 56 = .ok (.iload_n 1, 1) := by decide +kernel
theorem dX8_put_57 : decode cX8_put 57 = .ok (.iload_n 2, 1) := by decide +kernel
theorem dX8_put_58 : decode cX8_put 58 = .ok (.iload_n 3, 1) := by decide +kernel
theorem dX8_put_59 : decode cX8_put 59 = .ok (.invokevirtual 196, 3) := by decide +kernel
theorem dX8_put_62 : decode cX8_put 62 = .ok (.iload 4, 2) := by decide +kernel
theorem dX8_put_64 : decode cX8_put 64 = .ok (.ireturn, 1) := by decide +kernel
set_option maxRecDepth 20000 in
theorem c_X8_put {G : Gl} {d : Nat} {σ : Sg} {Z : Zt} (hZ : RelX Z σ) (hO : OkZ Z) {p : Int} (hp1 : -2147483648 ≤ p) (hp2 : p < 2147483648) {s : Int} (hs1 : -2147483648 ≤ s) (hs2 : s < 2147483648) {w : Int} (hw1 : -2147483648 ≤ w) (hw2 : w < 2147483648) : CT G (d + 3) yX8_put cX8_put 5 (some .int) [.ref (gA G 0), .int (iI p), .int (iI s), .int (iI w)] σ (RE (some (.int (iI (qPut Z p s w).1))) (fun υ => RelX (qPut Z p s w).2 υ ∧ Fr XC σ υ)) := by
  refine CT.of (by decide +kernel) (Nat.le_of_ble_eq_true rfl) ?_
  change AW G _ RX8 _ _ _ 0 [(0, .ref (gA G 0)), (1, .int (iI p)), (2, .int (iI s)), (3, .int (iI w))] [] _ _
  refine A_aload_n (pc := 0) dX8_put_0 rfl rfl ?_
  refine A_getR (pc := 1) fX8_10 rfl rfl dX8_put_1 ?_
  refine A_iload_n (pc := 4) dX8_put_4 rfl rfl ?_
  refine A_callV1 (pc := 5) kX8_190 rfl rfl (c_X5_isWalker TC14 hZ.1 hO.1 hp1 hp2) dX8_put_5 rfl rfl (Nat.le_of_ble_eq_true rfl) (Nat.le_of_ble_eq_true rfl) ?_
  refine A_ifb_ne (pc := 8) 17 dX8_put_8 (by decide) (fun h8 => ?_) (fun h8 => ?_)
  · skip
    refine A_aload_n (pc := 17) dX8_put_17 rfl rfl ?_
    refine A_getR (pc := 18) fX8_10 rfl rfl dX8_put_18 ?_
    refine A_iload_n (pc := 21) dX8_put_21 rfl rfl ?_
    refine A_callV1 (pc := 22) kX8_180 rfl rfl (c_X5_isYard TC14 hZ.1 hO.1 hs1 hs2) dX8_put_22 rfl rfl (Nat.le_of_ble_eq_true rfl) (Nat.le_of_ble_eq_true rfl) ?_
    refine A_ifb_eq (pc := 25) 35 dX8_put_25 (by decide) (fun h25 => ?_) (fun h25 => ?_)
    · skip
      refine A_aload_n (pc := 35) dX8_put_35 rfl rfl ?_
      refine A_bipush (pc := 36) dX8_put_36 (by decide) ?_
      refine A_callVe (pc := 38) kX8_76 rfl rfl (c_X8_refuse hZ hO (t := -6) (by omega) (by omega)) dX8_put_38 rfl rfl (Nat.le_of_ble_eq_true rfl) (Nat.le_of_ble_eq_true rfl) (fun υ hυ => ?_)
      refine A_iret (pc := 41) rfl dX8_put_41 ?_
      exact RQX (by unfold qPut; rw [if_neg (fun q => q h8), if_pos (fun q => h25 q.1)]; rfl) hυ.1 (hυ.2.mono XC2)
    · skip
      refine A_iload_n (pc := 28) dX8_put_28 rfl rfl ?_
      refine A_callS1 (pc := 29) kX8_170 (c_X0_isWay hw1 hw2) dX8_put_29 rfl rfl (Nat.le_of_ble_eq_true rfl) (Nat.le_of_ble_eq_true rfl) ?_
      refine A_ifb_ne (pc := 32) 42 dX8_put_32 (by decide) (fun h32 => ?_) (fun h32 => ?_)
      · skip
        obtain ⟨k, rfl⟩ := Int.eq_ofNat_of_zero_le (show 0 ≤ p by omega)
        refine A_aload_n (pc := 42) dX8_put_42 rfl rfl ?_
        refine A_getR (pc := 43) fX8_10 rfl rfl dX8_put_43 ?_
        refine A_iload_n (pc := 46) dX8_put_46 rfl rfl ?_
        refine A_callV1 (pc := 47) kX8_193 rfl rfl (c_X5_whereIs TC14 hZ.1 hO.1 (p := k) (by omega)) dX8_put_47 rfl rfl (Nat.le_of_ble_eq_true rfl) (Nat.le_of_ble_eq_true rfl) ?_
        rw [if_pos (by omega)]
        refine A_istore (pc := 50) dX8_put_50 (Nat.le_of_ble_eq_true rfl) ?_
        refine A_aload_n (pc := 52) dX8_put_52 rfl rfl ?_
        refine A_getR (pc := 53) fX8_10 rfl rfl dX8_put_53 ?_
        refine A_iload_n (pc := 56) dX8_put_56 rfl rfl ?_
        refine A_iload_n (pc := 57) dX8_put_57 rfl rfl ?_
        refine A_iload_n (pc := 58) dX8_put_58 rfl rfl ?_
        refine A_callVe0 (pc := 59) kX8_196 rfl rfl (c_X5_place TC14 hZ.1 hO.1 (p := k) (by omega)) dX8_put_59 rfl rfl (Nat.le_of_ble_eq_true rfl) (Nat.le_of_ble_eq_true rfl) (fun υ hυ => ?_)
        refine A_iload (pc := 62) dX8_put_62 rfl ?_
        refine A_iret (pc := 64) rfl dX8_put_64 ?_
        exact RQX (by unfold qPut; rw [if_neg (fun q => q h8), if_neg (fun q => q ⟨h25, h32⟩)]; rfl) (hZ.town hυ.1 hυ.2) (hυ.2.mono TSX)
      · skip
        refine A_aload_n (pc := 35) dX8_put_35 rfl rfl ?_
        refine A_bipush (pc := 36) dX8_put_36 (by decide) ?_
        refine A_callVe (pc := 38) kX8_76 rfl rfl (c_X8_refuse hZ hO (t := -6) (by omega) (by omega)) dX8_put_38 rfl rfl (Nat.le_of_ble_eq_true rfl) (Nat.le_of_ble_eq_true rfl) (fun υ hυ => ?_)
        refine A_iret (pc := 41) rfl dX8_put_41 ?_
        exact RQX (by unfold qPut; rw [if_neg (fun q => q h8), if_pos (fun q => h32 q.2)]; rfl) hυ.1 (hυ.2.mono XC2)
  · skip
    refine A_aload_n (pc := 11) dX8_put_11 rfl rfl ?_
    refine A_iconst (pc := 12) dX8_put_12 ?_
    refine A_callVe (pc := 13) kX8_76 rfl rfl (c_X8_refuse hZ hO (t := -1) (by omega) (by omega)) dX8_put_13 rfl rfl (Nat.le_of_ble_eq_true rfl) (Nat.le_of_ble_eq_true rfl) (fun υ hυ => ?_)
    refine A_iret (pc := 16) rfl dX8_put_16 ?_
    exact RQX (by unfold qPut; rw [if_pos h8]; rfl) hυ.1 (hυ.2.mono XC2)
theorem dX8_reach_0 : decode cX8_reach 0 = .ok (.iload_n 1, 1) := by decide +kernel
theorem dX8_reach_1 : decode cX8_reach 1 = .ok (.invokestatic 200, 3) := by decide +kernel
theorem dX8_reach_4 : decode cX8_reach 4 = .ok (.ifCond .ne 10, 3) := by decide +kernel
theorem dX8_reach_7 : decode cX8_reach 7 = .ok (.aload_n 0, 1) := by decide +kernel
theorem dX8_reach_8 : decode cX8_reach 8 = .ok (.bipush (-6), 2) := by decide +kernel
theorem dX8_reach_10 : decode cX8_reach 10 = .ok (.invokevirtual 76, 3) := by decide +kernel
theorem dX8_reach_13 : decode cX8_reach 13 = .ok (.ireturn, 1) := by decide +kernel
theorem dX8_reach_14 : decode cX8_reach 14 = .ok (.aload_n 0, 1) := by decide +kernel
theorem dX8_reach_15 : decode cX8_reach 15 = .ok (.getfield 10, 3) := by decide +kernel
theorem dX8_reach_18 : decode cX8_reach 18 = .ok (.getfield 203, 3) := by decide +kernel
theorem dX8_reach_21 : decode cX8_reach 21 = .ok (.istore_n 2, 1) := by decide +kernel
theorem dX8_reach_22 : decode cX8_reach 22 = .ok (.aload_n 0, 1) := by decide +kernel
theorem dX8_reach_23 : decode cX8_reach 23 = .ok (.getfield 10, 3) := by decide +kernel
theorem dX8_reach_26 : decode cX8_reach 26 = .ok (.iload_n 1, 1) := by decide +kernel
theorem dX8_reach_27 : decode cX8_reach 27 = .ok (.putfield 203, 3) := by decide +kernel
theorem dX8_reach_30 : decode cX8_reach 30 = .ok (.iload_n 2, 1) := by decide +kernel
theorem dX8_reach_31 : decode cX8_reach 31 = .ok (.ireturn, 1) := by decide +kernel
set_option maxRecDepth 20000 in
theorem c_X8_reach {G : Gl} {d : Nat} {σ : Sg} {Z : Zt} (hZ : RelX Z σ) (hO : OkZ Z) {v : Int} (hv1 : -2147483648 ≤ v) (hv2 : v < 2147483648) : CT G (d + 1) yX8_reach cX8_reach 3 (some .int) [.ref (gA G 0), .int (iI v)] σ (RE (some (.int (iI (qReach Z v).1))) (fun υ => RelX (qReach Z v).2 υ ∧ Fr XC σ υ)) := by
  refine CT.of (by decide +kernel) (Nat.le_of_ble_eq_true rfl) ?_
  change AW G _ RX8 _ _ _ 0 [(0, .ref (gA G 0)), (1, .int (iI v))] [] _ _
  refine A_iload_n (pc := 0) dX8_reach_0 rfl rfl ?_
  refine A_callS1 (pc := 1) kX8_200 (c_X8_isReach hv1 hv2) dX8_reach_1 rfl rfl (Nat.le_of_ble_eq_true rfl) (Nat.le_of_ble_eq_true rfl) ?_
  refine A_ifb_ne (pc := 4) 14 dX8_reach_4 (by decide) (fun h4 => ?_) (fun h4 => ?_)
  · skip
    refine A_aload_n (pc := 14) dX8_reach_14 rfl rfl ?_
    refine A_getR (pc := 15) fX8_10 rfl rfl dX8_reach_15 ?_
    refine A_getIv (pc := 18) fX8_203 rfl rfl (show _ = Z.1.2.1 2 from hZ.1.2.1 2 (by decide)) dX8_reach_18 ?_
    refine A_istore_n (pc := 21) dX8_reach_21 rfl (Nat.le_of_ble_eq_true rfl) ?_
    refine A_aload_n (pc := 22) dX8_reach_22 rfl rfl ?_
    refine A_getR (pc := 23) fX8_10 rfl rfl dX8_reach_23 ?_
    refine A_iload_n (pc := 26) dX8_reach_26 rfl rfl ?_
    refine A_putI (pc := 27) fX8_203 wr_4_3 rfl rfl dX8_reach_27 ?_
    refine A_iload_n (pc := 30) dX8_reach_30 rfl rfl ?_
    refine A_iret (pc := 31) rfl dX8_reach_31 ?_
    exact RQX (by unfold qReach; rw [if_neg (by omega)]) (hZ.town (hZ.1.setS v (by decide)) (Fr.rf.uI (TSm 0 (by decide)))) ((Fr.rf.uI (TSm 0 (by decide)) : Fr (TS 14) σ _).mono TSX)
  · skip
    refine A_aload_n (pc := 7) dX8_reach_7 rfl rfl ?_
    refine A_bipush (pc := 8) dX8_reach_8 (by decide) ?_
    refine A_callVe (pc := 10) kX8_76 rfl rfl (c_X8_refuse hZ hO (t := -6) (by omega) (by omega)) dX8_reach_10 rfl rfl (Nat.le_of_ble_eq_true rfl) (Nat.le_of_ble_eq_true rfl) (fun υ hυ => ?_)
    refine A_iret (pc := 13) rfl dX8_reach_13 ?_
    exact RQX (by unfold qReach; rw [if_pos (by omega)]; rfl) hυ.1 (hυ.2.mono XC2)
theorem dX8_paneOf_0 : decode cX8_paneOf 0 = .ok (.aload_n 0, 1) := by decide +kernel
theorem dX8_paneOf_1 : decode cX8_paneOf 1 = .ok (.getfield 10, 3) := by decide +kernel
theorem dX8_paneOf_4 : decode cX8_paneOf 4 = .ok (.iload_n 1, 1) := by decide +kernel
theorem dX8_paneOf_5 : decode cX8_paneOf 5 = .ok (.invokevirtual 109, 3) := by decide +kernel
theorem dX8_paneOf_8 : decode cX8_paneOf 8 = .ok (.ifCond .ne 10, 3) := by decide +kernel
theorem dX8_paneOf_11 : decode cX8_paneOf 11 = .ok (.aload_n 0, 1) := by decide +kernel
theorem dX8_paneOf_12 : decode cX8_paneOf 12 = .ok (.bipush (-5), 2) := by decide +kernel
theorem dX8_paneOf_14 : decode cX8_paneOf 14 = .ok (.invokevirtual 76, 3) := by decide +kernel
theorem dX8_paneOf_17 : decode cX8_paneOf 17 = .ok (.ireturn, 1) := by decide +kernel
theorem dX8_paneOf_18 : decode cX8_paneOf 18 = .ok (.iload_n 2, 1) := by decide +kernel
theorem dX8_paneOf_19 : decode cX8_paneOf 19 = .ok (.tableswitch 101 0 5 #[37, 46, 55, 64, 73, 85], 37) := by decide +kernel
theorem dX8_paneOf_56 : decode cX8_paneOf 56 = .ok (.aload_n 0, 1) := by decide +kernel
theorem dX8_paneOf_57 : decode cX8_paneOf 57 = .ok (.getfield 10, 3) := by decide +kernel
theorem dX8_paneOf_60 : decode cX8_paneOf 60 = .ok (.iload_n 1, 1) := by decide +kernel
theorem dX8_paneOf_61 : decode cX8_paneOf 61 = .ok (.invokevirtual 127, 3) := by decide +kernel
theorem dX8_paneOf_64 : decode cX8_paneOf 64 = .ok (.ireturn, 1) := by decide +kernel
theorem dX8_paneOf_65 : decode cX8_paneOf 65 = .ok (.aload_n 0, 1) := by decide +kernel
theorem dX8_paneOf_66 : decode cX8_paneOf 66 = .ok (.getfield 10, 3) := by decide +kernel
theorem dX8_paneOf_69 : decode cX8_paneOf 69 = .ok (.iload_n 1, 1) := by decide +kernel
theorem dX8_paneOf_70 : decode cX8_paneOf 70 = .ok (.invokevirtual 137, 3) := by decide +kernel
theorem dX8_paneOf_73 : decode cX8_paneOf 73 = .ok (.ireturn, 1) := by decide +kernel
theorem dX8_paneOf_74 : decode cX8_paneOf 74 = .ok (.aload_n 0, 1) := by decide +kernel
theorem dX8_paneOf_75 : decode cX8_paneOf 75 = .ok (.getfield 10, 3) := by decide +kernel
theorem dX8_paneOf_78 : decode cX8_paneOf 78 = .ok (.iload_n 1, 1) := by decide +kernel
theorem dX8_paneOf_79 : decode cX8_paneOf 79 = .ok (.invokevirtual 149, 3) := by decide +kernel
theorem dX8_paneOf_82 : decode cX8_paneOf 82 = .ok (.ireturn, 1) := by decide +kernel
theorem dX8_paneOf_83 : decode cX8_paneOf 83 = .ok (.aload_n 0, 1) := by decide +kernel
theorem dX8_paneOf_84 : decode cX8_paneOf 84 = .ok (.getfield 10, 3) := by decide +kernel
theorem dX8_paneOf_87 : decode cX8_paneOf 87 = .ok (.iload_n 1, 1) := by decide +kernel
theorem dX8_paneOf_88 : decode cX8_paneOf 88 = .ok (.invokevirtual 134, 3) := by decide +kernel
theorem dX8_paneOf_91 : decode cX8_paneOf 91 = .ok (.ireturn, 1) := by decide +kernel
theorem dX8_paneOf_92 : decode cX8_paneOf 92 = .ok (.aload_n 0, 1) := by decide +kernel
theorem dX8_paneOf_93 : decode cX8_paneOf 93 = .ok (.getfield 10, 3) := by decide +kernel
theorem dX8_paneOf_96 : decode cX8_paneOf 96 = .ok (.iload_n 1, 1) := by decide +kernel
theorem dX8_paneOf_97 : decode cX8_paneOf 97 = .ok (.invokevirtual 140, 3) := by decide +kernel
theorem dX8_paneOf_100 : decode cX8_paneOf 100 = .ok (.invokestatic 143, 3) := by decide +kernel
theorem dX8_paneOf_103 : decode cX8_paneOf 103 = .ok (.ireturn, 1) := by decide +kernel
theorem dX8_paneOf_104 : decode cX8_paneOf 104 = .ok (.aload_n 0, 1) := by decide +kernel
theorem dX8_paneOf_105 : decode cX8_paneOf 105 = .ok (.getfield 10, 3) := by decide +kernel
theorem dX8_paneOf_108 : decode cX8_paneOf 108 = .ok (.aload_n 0, 1) := by decide +kernel
theorem dX8_paneOf_109 : decode cX8_paneOf 109 = .ok (.getfield 10, 3) := by decide +kernel
theorem dX8_paneOf_112 : decode cX8_paneOf 112 = .ok (.iload_n 1, 1) := by decide +kernel
theorem dX8_paneOf_113 : decode cX8_paneOf 113 = .ok (.invokevirtual 140, 3) := by decide +kernel
theorem dX8_paneOf_116 : decode cX8_paneOf 116 = .ok (.invokevirtual 206, 3) := by decide +kernel
theorem dX8_paneOf_119 : decode cX8_paneOf 119 = .ok (.ireturn, 1) := by decide +kernel
theorem dX8_paneOf_120 : decode cX8_paneOf 120 = .ok (.aload_n 0, 1) := by decide +kernel
theorem dX8_paneOf_121 : decode cX8_paneOf 121 = .ok (.bipush (-5), 2) := by decide +kernel
theorem dX8_paneOf_123 : decode cX8_paneOf 123 = .ok (.invokevirtual 76, 3) := by decide +kernel
theorem dX8_paneOf_126 : decode cX8_paneOf 126 = .ok (.ireturn, 1) := by decide +kernel
set_option maxRecDepth 20000 in
theorem c_X8_paneOf {G : Gl} {d : Nat} {σ : Sg} {Z : Zt} (hZ : RelX Z σ) (hO : OkZ Z) {p : Int} (hp1 : -2147483648 ≤ p) (hp2 : p < 2147483648) {w : Int} (hw1 : -2147483648 ≤ w) (hw2 : w < 2147483648) : CT G (d + 5) yX8_paneOf cX8_paneOf 3 (some .int) [.ref (gA G 0), .int (iI p), .int (iI w)] σ (RE (some (.int (iI (qPaneOf Z p w).1))) (fun υ => RelX (qPaneOf Z p w).2 υ ∧ Fr XC σ υ)) := by
  refine CT.of (by decide +kernel) (Nat.le_of_ble_eq_true rfl) ?_
  change AW G _ RX8 _ _ _ 0 [(0, .ref (gA G 0)), (1, .int (iI p)), (2, .int (iI w))] [] _ _
  refine A_aload_n (pc := 0) dX8_paneOf_0 rfl rfl ?_
  refine A_getR (pc := 1) fX8_10 rfl rfl dX8_paneOf_1 ?_
  refine A_iload_n (pc := 4) dX8_paneOf_4 rfl rfl ?_
  refine A_callV1 (pc := 5) kX8_109 rfl rfl (c_X5_isPane TC14 hZ.1 hO.1 hp1 hp2) dX8_paneOf_5 rfl rfl (Nat.le_of_ble_eq_true rfl) (Nat.le_of_ble_eq_true rfl) ?_
  refine A_ifb_ne (pc := 8) 18 dX8_paneOf_8 (by decide) (fun h8 => ?_) (fun h8 => ?_)
  · skip
    obtain ⟨k, rfl⟩ := Int.eq_ofNat_of_zero_le (show 0 ≤ p by omega)
    refine A_iload_n (pc := 18) dX8_paneOf_18 rfl rfl ?_
    refine A_tsw (pc := 19) [(0, 56), (1, 65), (2, 74), (3, 83), (4, 92), (5, 104)] 120 dX8_paneOf_19 (by decide) (by decide) (by decide) (by omega) (by omega) ?_
    refine ⟨fun h19 => ?_, fun h19n0 => ?_⟩
    · skip
      refine A_aload_n (pc := 56) dX8_paneOf_56 rfl rfl ?_
      refine A_getR (pc := 57) fX8_10 rfl rfl dX8_paneOf_57 ?_
      refine A_iload_n (pc := 60) dX8_paneOf_60 rfl rfl ?_
      refine A_callV1 (pc := 61) kX8_127 rfl rfl (c_X5_kindOf TC14 hZ.1 hO.1 (by omega)) dX8_paneOf_61 rfl rfl (Nat.le_of_ble_eq_true rfl) (Nat.le_of_ble_eq_true rfl) ?_
      rw [if_pos (by omega)]
      refine A_iret (pc := 64) rfl dX8_paneOf_64 ?_
      exact RQX (by unfold qPaneOf; rw [if_neg (by omega), if_pos (by omega)]; rfl) hZ Fr.rf
    refine ⟨fun h19 => ?_, fun h19n1 => ?_⟩
    · skip
      refine A_aload_n (pc := 65) dX8_paneOf_65 rfl rfl ?_
      refine A_getR (pc := 66) fX8_10 rfl rfl dX8_paneOf_66 ?_
      refine A_iload_n (pc := 69) dX8_paneOf_69 rfl rfl ?_
      refine A_callV1 (pc := 70) kX8_137 rfl rfl (c_X5_aOf TC14 hZ.1 hO.1 (by omega)) dX8_paneOf_70 rfl rfl (Nat.le_of_ble_eq_true rfl) (Nat.le_of_ble_eq_true rfl) ?_
      rw [if_pos (by omega)]
      refine A_iret (pc := 73) rfl dX8_paneOf_73 ?_
      exact RQX (by unfold qPaneOf; rw [if_neg (by omega), if_neg (by omega), if_pos (by omega)]; rfl) hZ Fr.rf
    refine ⟨fun h19 => ?_, fun h19n2 => ?_⟩
    · skip
      refine A_aload_n (pc := 74) dX8_paneOf_74 rfl rfl ?_
      refine A_getR (pc := 75) fX8_10 rfl rfl dX8_paneOf_75 ?_
      refine A_iload_n (pc := 78) dX8_paneOf_78 rfl rfl ?_
      refine A_callV1 (pc := 79) kX8_149 rfl rfl (c_X5_atOf TC14 hZ.1 hO.1 (by omega)) dX8_paneOf_79 rfl rfl (Nat.le_of_ble_eq_true rfl) (Nat.le_of_ble_eq_true rfl) ?_
      rw [if_pos (by omega)]
      refine A_iret (pc := 82) rfl dX8_paneOf_82 ?_
      exact RQX (by unfold qPaneOf; rw [if_neg (by omega), if_neg (by omega), if_neg (by omega), if_pos (by omega)]; rfl) hZ Fr.rf
    refine ⟨fun h19 => ?_, fun h19n3 => ?_⟩
    · skip
      refine A_aload_n (pc := 83) dX8_paneOf_83 rfl rfl ?_
      refine A_getR (pc := 84) fX8_10 rfl rfl dX8_paneOf_84 ?_
      refine A_iload_n (pc := 87) dX8_paneOf_87 rfl rfl ?_
      refine A_callV1 (pc := 88) kX8_134 rfl rfl (c_X5_outOf TC14 hZ.1 hO.1 (by omega)) dX8_paneOf_88 rfl rfl (Nat.le_of_ble_eq_true rfl) (Nat.le_of_ble_eq_true rfl) ?_
      rw [if_pos (by omega)]
      refine A_iret (pc := 91) rfl dX8_paneOf_91 ?_
      exact RQX (by unfold qPaneOf; rw [if_neg (by omega), if_neg (by omega), if_neg (by omega), if_neg (by omega), if_pos (by omega)]; rfl) hZ Fr.rf
    refine ⟨fun h19 => ?_, fun h19n4 => ?_⟩
    · skip
      refine A_aload_n (pc := 92) dX8_paneOf_92 rfl rfl ?_
      refine A_getR (pc := 93) fX8_10 rfl rfl dX8_paneOf_93 ?_
      refine A_iload_n (pc := 96) dX8_paneOf_96 rfl rfl ?_
      refine A_callV1 (pc := 97) kX8_140 rfl rfl (c_X5_sightOf TC14 hZ.1 hO.1 (by omega)) dX8_paneOf_97 rfl rfl (Nat.le_of_ble_eq_true rfl) (Nat.le_of_ble_eq_true rfl) ?_
      refine A_callS1 (pc := 100) kX8_143 (c_J13_bitCount_95d88) dX8_paneOf_100 rfl rfl (Nat.le_of_ble_eq_true rfl) (Nat.le_of_ble_eq_true rfl) ?_
      refine A_iret (pc := 103) rfl dX8_paneOf_103 ?_
      exact RQX (by unfold qPaneOf; rw [if_neg (by omega), if_neg (by omega), if_neg (by omega), if_neg (by omega), if_neg (by omega), if_pos (by omega)]; rfl) hZ Fr.rf
    refine ⟨fun h19 => ?_, fun h19n5 => ?_⟩
    · skip
      refine A_aload_n (pc := 104) dX8_paneOf_104 rfl rfl ?_
      refine A_getR (pc := 105) fX8_10 rfl rfl dX8_paneOf_105 ?_
      refine A_aload_n (pc := 108) dX8_paneOf_108 rfl rfl ?_
      refine A_getR (pc := 109) fX8_10 rfl rfl dX8_paneOf_109 ?_
      refine A_iload_n (pc := 112) dX8_paneOf_112 rfl rfl ?_
      refine A_callV1 (pc := 113) kX8_140 rfl rfl (c_X5_sightOf TC14 hZ.1 hO.1 (by omega)) dX8_paneOf_113 rfl rfl (Nat.le_of_ble_eq_true rfl) (Nat.le_of_ble_eq_true rfl) ?_
      refine A_callV1 (pc := 116) kX8_206 rfl rfl (c_X5_walkersIn TC14 hZ.1 hO.1 (seeB_lt _ _ _)) dX8_paneOf_116 rfl rfl (Nat.le_of_ble_eq_true rfl) (Nat.le_of_ble_eq_true rfl) ?_
      refine A_iret (pc := 119) rfl dX8_paneOf_119 ?_
      exact RQX (by unfold qPaneOf; rw [if_neg (by omega), if_neg (by omega), if_neg (by omega), if_neg (by omega), if_neg (by omega), if_neg (by omega)]; rfl) hZ Fr.rf
    change AW G _ _ _ _ _ 120 _ _ _ _
    refine A_aload_n (pc := 120) dX8_paneOf_120 rfl rfl ?_
    refine A_bipush (pc := 121) dX8_paneOf_121 (by decide) ?_
    refine A_callVe (pc := 123) kX8_76 rfl rfl (c_X8_refuse hZ hO (t := -5) (by omega) (by omega)) dX8_paneOf_123 rfl rfl (Nat.le_of_ble_eq_true rfl) (Nat.le_of_ble_eq_true rfl) (fun υ hυ => ?_)
    refine A_iret (pc := 126) rfl dX8_paneOf_126 ?_
    exact RQX (by unfold qPaneOf; rw [if_pos (by omega)]; rfl) hυ.1 (hυ.2.mono XC2)
  · skip
    refine A_aload_n (pc := 11) dX8_paneOf_11 rfl rfl ?_
    refine A_bipush (pc := 12) dX8_paneOf_12 (by decide) ?_
    refine A_callVe (pc := 14) kX8_76 rfl rfl (c_X8_refuse hZ hO (t := -5) (by omega) (by omega)) dX8_paneOf_14 rfl rfl (Nat.le_of_ble_eq_true rfl) (Nat.le_of_ble_eq_true rfl) (fun υ hυ => ?_)
    refine A_iret (pc := 17) rfl dX8_paneOf_17 ?_
    exact RQX (by unfold qPaneOf; rw [if_pos (by omega)]; rfl) hυ.1 (hυ.2.mono XC2)
theorem dX9_mayBecome_0 : decode cX9_mayBecome 0 = .ok (.iload_n 1, 1) := by decide +kernel
theorem dX9_mayBecome_1 : decode cX9_mayBecome 1 = .ok (.invokestatic 93, 3) := by decide +kernel
theorem dX9_mayBecome_4 : decode cX9_mayBecome 4 = .ok (.ifCond .eq 30, 3) := by decide +kernel
theorem dX9_mayBecome_7 : decode cX9_mayBecome 7 = .ok (.iload_n 2, 1) := by decide +kernel
theorem dX9_mayBecome_8 : decode cX9_mayBecome 8 = .ok (.ifCond .eq 14, 3) := by decide +kernel
theorem dX9_mayBecome_11 : decode cX9_mayBecome 11 = .ok (.aload_n 0, 1) := by decide +kernel
theorem dX9_mayBecome_12 : decode cX9_mayBecome 12 = .ok (.iload_n 1, 1) := by decide +kernel
theorem dX9_mayBecome_13 : decode cX9_mayBecome 13 = .ok (.invokevirtual 123, 3) := by decide +kernel
theorem dX9_mayBecome_16 : decode cX9_mayBecome 16 = .ok (.ifCond .ne 18, 3) := by decide +kernel
theorem dX9_mayBecome_19 : decode cX9_mayBecome 19 = .ok (.goto 11, 3) := by decide +kernel
theorem dX9_mayBecome_22 : decode cX9_mayBecome 22 = .ok (.aload_n 0, 1) := by decide +kernel
theorem dX9_mayBecome_23 : decode cX9_mayBecome 23 = .ok (.iload_n 1, 1) := by decide +kernel
theorem dX9_mayBecome_24 : decode cX9_mayBecome 24 = .ok (.invokevirtual 126, 3) := by decide +kernel
theorem dX9_mayBecome_27 : decode cX9_mayBecome 27 = .ok (.ifCond .ne 7, 3) := by decide +kernel
theorem dX9_mayBecome_30 : decode cX9_mayBecome 30 = .ok (.iconst 1, 1) := by decide +kernel
theorem dX9_mayBecome_31 : decode cX9_mayBecome 31 = .ok (.goto 4, 3) := by decide +kernel
theorem dX9_mayBecome_34 : decode cX9_mayBecome 34 = .ok (.iconst 0, 1) := by decide +kernel
theorem dX9_mayBecome_35 : decode cX9_mayBecome 35 = .ok (.ireturn, 1) := by decide +kernel
set_option maxRecDepth 20000 in
theorem c_X9_mayBecome {G : Gl} {d : Nat} {σ : Sg} {τ : Tw} (hM : RMt τ σ) (hO : OkT τ) {s : Int} (hs1 : -2147483648 ≤ s) (hs2 : s < 2147483648) {b : Bool} : CT G (d + 2) yX9_mayBecome cX9_mayBecome 3 (some .boolean) [.ref (gA G 54), .int (iI s), .int (iI (bI (b = true)))] σ (R1 (.int (iI (bI ((0 ≤ s ∧ s < 49) ∧ (if b = true then ¬ wAt τ s = true else ¬ pAt τ s = true))))) σ) := by
  refine CT.of (by decide +kernel) (Nat.le_of_ble_eq_true rfl) ?_
  change AW G _ RX9 _ _ _ 0 [(0, .ref (gA G 54)), (1, .int (iI s)), (2, .int (iI (bI (b = true))))] [] _ _
  have hO2 := hO
  obtain ⟨o1, o2, o3, o4, o5, o6, o7, o8, o9⟩ := hO2
  have p0 := hM.2.1
  have p1 := hM.2.2.1
  have p2 : σ.1 63 0 = τ.2.1 2 := hM.2.2.2.1 0 (by decide)
  refine A_iload_n (pc := 0) dX9_mayBecome_0 rfl rfl ?_
  refine A_callS1 (pc := 1) kX9_93 (c_X9_isSquare hs1 hs2) dX9_mayBecome_1 rfl rfl (Nat.le_of_ble_eq_true rfl) (Nat.le_of_ble_eq_true rfl) ?_
  refine A_ifb_eq (pc := 4) 34 dX9_mayBecome_4 (by decide) (fun h4 => ?_) (fun h4 => ?_)
  · skip
    refine A_iconst (pc := 34) dX9_mayBecome_34 ?_
    refine A_zret (pc := 35) rfl rfl dX9_mayBecome_35 ?_
    exact R1_f (fun q => h4 q.1)
  · skip
    refine A_iload_n (pc := 7) dX9_mayBecome_7 rfl rfl ?_
    refine A_ifb_eq (pc := 8) 22 dX9_mayBecome_8 (by decide) (fun h8 => ?_) (fun h8 => ?_)
    · skip
      refine A_aload_n (pc := 22) dX9_mayBecome_22 rfl rfl ?_
      refine A_iload_n (pc := 23) dX9_mayBecome_23 rfl rfl ?_
      refine A_callV1 (pc := 24) kX9_126 rfl rfl (c_X9_isPaned hM hO hs1 hs2) dX9_mayBecome_24 rfl rfl (Nat.le_of_ble_eq_true rfl) (Nat.le_of_ble_eq_true rfl) ?_
      refine A_ifb_ne (pc := 27) 34 dX9_mayBecome_27 (by decide) (fun h27 => ?_) (fun h27 => ?_)
      · skip
        refine A_iconst (pc := 34) dX9_mayBecome_34 ?_
        refine A_zret (pc := 35) rfl rfl dX9_mayBecome_35 ?_
        exact R1_f (fun q => by have z := q.2; rw [if_neg h8] at z; exact z h27)
      · skip
        refine A_iconst (pc := 30) dX9_mayBecome_30 ?_
        refine A_goto (pc := 31) 35 dX9_mayBecome_31 (by decide) ?_
        refine A_zret (pc := 35) rfl rfl dX9_mayBecome_35 ?_
        exact R1_t ⟨h4, by rw [if_neg h8]; exact h27⟩
    · skip
      refine A_aload_n (pc := 11) dX9_mayBecome_11 rfl rfl ?_
      refine A_iload_n (pc := 12) dX9_mayBecome_12 rfl rfl ?_
      refine A_callV1 (pc := 13) kX9_123 rfl rfl (c_X9_isStood hM hO hs1 hs2) dX9_mayBecome_13 rfl rfl (Nat.le_of_ble_eq_true rfl) (Nat.le_of_ble_eq_true rfl) ?_
      refine A_ifb_ne (pc := 16) 34 dX9_mayBecome_16 (by decide) (fun h16 => ?_) (fun h16 => ?_)
      · skip
        refine A_iconst (pc := 34) dX9_mayBecome_34 ?_
        refine A_zret (pc := 35) rfl rfl dX9_mayBecome_35 ?_
        exact R1_f (fun q => by have z := q.2; rw [if_pos h8] at z; exact z h16)
      · skip
        refine A_goto (pc := 19) 30 dX9_mayBecome_19 (by decide) ?_
        refine A_iconst (pc := 30) dX9_mayBecome_30 ?_
        refine A_goto (pc := 31) 35 dX9_mayBecome_31 (by decide) ?_
        refine A_zret (pc := 35) rfl rfl dX9_mayBecome_35 ?_
        exact R1_t ⟨h4, by rw [if_pos h8]; exact h16⟩
theorem dX9_newPane_0 : decode cX9_newPane 0 = .ok (.aload_n 0, 1) := by decide +kernel
theorem dX9_newPane_1 : decode cX9_newPane 1 = .ok (.getfield 7, 3) := by decide +kernel
theorem dX9_newPane_4 : decode cX9_newPane 4 = .ok (.aload_n 0, 1) := by decide +kernel
theorem dX9_newPane_5 : decode cX9_newPane 5 = .ok (.getfield 83, 3) := by decide +kernel
theorem dX9_newPane_8 : decode cX9_newPane 8 = .ok (.iload_n 1, 1) := by decide +kernel
theorem dX9_newPane_9 : decode cX9_newPane 9 = .ok (.iastore, 1) := by decide +kernel
theorem dX9_newPane_10 : decode cX9_newPane 10 = .ok (.aload_n 0, 1) := by decide +kernel
theorem dX9_newPane_11 : decode cX9_newPane 11 = .ok (.getfield 13, 3) := by decide +kernel
theorem dX9_newPane_14 : decode cX9_newPane 14 = .ok (.aload_n 0, 1) := by decide +kernel
theorem dX9_newPane_15 : decode cX9_newPane 15 = .ok (.getfield 83, 3) := by decide +kernel
theorem dX9_newPane_18 : decode cX9_newPane 18 = .ok (.iload_n 2, 1) := by decide +kernel
theorem dX9_newPane_19 : decode cX9_newPane 19 = .ok (.iastore, 1) := by decide +kernel
theorem dX9_newPane_20 : decode cX9_newPane 20 = .ok (.aload_n 0, 1) := by decide +kernel
theorem dX9_newPane_21 : decode cX9_newPane 21 = .ok (.getfield 16, 3) := by decide +kernel
theorem dX9_newPane_24 : decode cX9_newPane 24 = .ok (.aload_n 0, 1) := by decide +kernel
theorem dX9_newPane_25 : decode cX9_newPane 25 = .ok (.getfield 83, 3) := by decide +kernel
theorem dX9_newPane_28 : decode cX9_newPane 28 = .ok (.iload_n 3, 1) := by decide +kernel
theorem dX9_newPane_29 : decode cX9_newPane 29 = .ok (.iastore, 1) := by decide +kernel
theorem dX9_newPane_30 : decode cX9_newPane 30 = .ok (.aload_n 0, 1) := by decide +kernel
theorem dX9_newPane_31 : decode cX9_newPane 31 = .ok (.getfield 19, 3) := by decide +kernel
theorem dX9_newPane_34 : decode cX9_newPane 34 = .ok (.aload_n 0, 1) := by decide +kernel
theorem dX9_newPane_35 : decode cX9_newPane 35 = .ok (.getfield 83, 3) := by decide +kernel
theorem dX9_newPane_38 : decode cX9_newPane 38 = .ok (.iload 4, 2) := by decide +kernel
theorem dX9_newPane_40 : decode cX9_newPane 40 = .ok (.iastore, 1) := by decide +kernel
theorem dX9_newPane_41 : decode cX9_newPane 41 = .ok (.aload_n 0, 1) := by decide +kernel
theorem dX9_newPane_42 : decode cX9_newPane 42 = .ok (.dup, 1) := by decide +kernel
theorem dX9_newPane_43 : decode cX9_newPane 43 = .ok (.getfield 83, 3) := by decide +kernel
theorem dX9_newPane_46 : decode cX9_newPane 46 = .ok (.dup_x1, 1) := by decide +kernel
theorem dX9_newPane_47 : decode cX9_newPane 47 = .ok (.iconst 1, 1) := by decide +kernel
theorem dX9_newPane_48 : decode cX9_newPane 48 = .ok (.iadd, 1) := by decide +kernel
theorem dX9_newPane_49 : decode cX9_newPane 49 = .ok (.putfield 83, 3) := by decide +kernel
theorem dX9_newPane_52 : decode cX9_newPane 52 = .ok (.ireturn, 1) := by decide +kernel
set_option maxRecDepth 20000 in
theorem c_X9_newPane {G : Gl} {d : Nat} {σ : Sg} {τ : Tw} (hM : RMt τ σ) (hO : OkT τ) (hp : τ.2.1 0 < 9) {k a s w : Int} : CT G d yX9_newPane cX9_newPane 5 (some .int) [.ref (gA G 54), .int (iI k), .int (iI a), .int (iI s), .int (iI w)] σ (RE (some (.int (iI (τ.2.1 0)))) (fun υ => RMt (addP τ k a s w) υ ∧ Fr TM σ υ ∧ ∀ j, j = 18 ∨ j = 20 ∨ j = 23 ∨ j = 25 → υ.1 54 j = σ.1 54 j)) := by
  refine CT.of (by decide +kernel) (Nat.le_of_ble_eq_true rfl) ?_
  change AW G _ RX9 _ _ _ 0 [(0, .ref (gA G 54)), (1, .int (iI k)), (2, .int (iI a)), (3, .int (iI s)), (4, .int (iI w))] [] _ _
  have hO2 := hO
  obtain ⟨o1, o2, o3, o4, o5, o6, o7, o8, o9⟩ := hO2
  have p0 := hM.2.1
  have p1 := hM.2.2.1
  have p2 : σ.1 63 0 = τ.2.1 2 := hM.2.2.2.1 0 (by decide)
  obtain ⟨n, hn⟩ := Int.eq_ofNat_of_zero_le o2
  have e : (τ.2.1 0).toNat = n := by omega
  refine A_aload_n (pc := 0) dX9_newPane_0 rfl rfl ?_
  refine A_getR (pc := 1) fX9_7 rfl rfl dX9_newPane_1 ?_
  refine A_aload_n (pc := 4) dX9_newPane_4 rfl rfl ?_
  refine A_getIv (pc := 5) fX9_83 rfl rfl (show _ = (n : Int) from by rw [p0, hn]) dX9_newPane_5 ?_
  refine A_iload_n (pc := 8) dX9_newPane_8 rfl rfl ?_
  refine A_iast (pc := 9) n rfl rfl (by omega) (Nat.le_of_ble_eq_true rfl) dX9_newPane_9 ?_
  refine A_aload_n (pc := 10) dX9_newPane_10 rfl rfl ?_
  refine A_getR (pc := 11) fX9_13 rfl rfl dX9_newPane_11 ?_
  refine A_aload_n (pc := 14) dX9_newPane_14 rfl rfl ?_
  refine A_getIv (pc := 15) fX9_83 rfl rfl (show _ = (n : Int) from by rw [uI_at, if_neg (by omega)]; rw [p0, hn]) dX9_newPane_15 ?_
  refine A_iload_n (pc := 18) dX9_newPane_18 rfl rfl ?_
  refine A_iast (pc := 19) n rfl rfl (by omega) (Nat.le_of_ble_eq_true rfl) dX9_newPane_19 ?_
  refine A_aload_n (pc := 20) dX9_newPane_20 rfl rfl ?_
  refine A_getR (pc := 21) fX9_16 rfl rfl dX9_newPane_21 ?_
  refine A_aload_n (pc := 24) dX9_newPane_24 rfl rfl ?_
  refine A_getIv (pc := 25) fX9_83 rfl rfl (show _ = (n : Int) from by rw [uI_at, if_neg (by omega)]; rw [uI_at, if_neg (by omega)]; rw [p0, hn]) dX9_newPane_25 ?_
  refine A_iload_n (pc := 28) dX9_newPane_28 rfl rfl ?_
  refine A_iast (pc := 29) n rfl rfl (by omega) (Nat.le_of_ble_eq_true rfl) dX9_newPane_29 ?_
  refine A_aload_n (pc := 30) dX9_newPane_30 rfl rfl ?_
  refine A_getR (pc := 31) fX9_19 rfl rfl dX9_newPane_31 ?_
  refine A_aload_n (pc := 34) dX9_newPane_34 rfl rfl ?_
  refine A_getIv (pc := 35) fX9_83 rfl rfl (show _ = (n : Int) from by rw [uI_at, if_neg (by omega)]; rw [uI_at, if_neg (by omega)]; rw [uI_at, if_neg (by omega)]; rw [p0, hn]) dX9_newPane_35 ?_
  refine A_iload (pc := 38) dX9_newPane_38 rfl ?_
  refine A_iast (pc := 40) n rfl rfl (by omega) (Nat.le_of_ble_eq_true rfl) dX9_newPane_40 ?_
  refine A_aload_n (pc := 41) dX9_newPane_41 rfl rfl ?_
  refine A_dup (pc := 42) dX9_newPane_42 rfl ?_
  refine A_getIv (pc := 43) fX9_83 rfl rfl (show _ = (n : Int) from by rw [uI_at, if_neg (by omega)]; rw [uI_at, if_neg (by omega)]; rw [uI_at, if_neg (by omega)]; rw [uI_at, if_neg (by omega)]; rw [p0, hn]) dX9_newPane_43 ?_
  refine A_dup_x1 (pc := 46) dX9_newPane_46 rfl rfl ?_
  refine A_iconst (pc := 47) dX9_newPane_47 ?_
  refine A_iadd (pc := 48) dX9_newPane_48 ?_
  refine A_putI (pc := 49) fX9_83 wr_8_0 rfl rfl dX9_newPane_49 ?_
  refine A_iret (pc := 52) rfl dX9_newPane_52 ?_
  refine ⟨by rw [hn], ?_, ((((Fr.rf.uI (show TM 55 by unfold TM; omega)).uI (show TM 56 by unfold TM; omega)).uI (show TM 57 by unfold TM; omega)).uI (show TM 58 by unfold TM; omega)).uI (show TM 54 by unfold TM; omega), fun j hj => ?_⟩
  · have q := (((hM.setA 0 n k (by decide)).setA 1 n a (by decide)).setA 2 n s (by decide)).setA 3 n w (by decide)
    have q2 := q.inc0 (n := n) hn (fun j hj => by
      have hh : j = 0 ∨ j = 1 ∨ j = 2 ∨ j = 3 := by omega
      rcases hh with rfl | rfl | rfl | rfl <;> simp [uI_at, tA])
    rw [addP, e, hn]
    exact q2
  · rw [uI_at, if_neg (by omega), uI_at, if_neg (by omega), uI_at, if_neg (by omega), uI_at, if_neg (by omega), uI_at, if_neg (by omega)]
theorem dX9_newWalker_0 : decode cX9_newWalker 0 = .ok (.aload_n 0, 1) := by decide +kernel
theorem dX9_newWalker_1 : decode cX9_newWalker 1 = .ok (.getfield 22, 3) := by decide +kernel
theorem dX9_newWalker_4 : decode cX9_newWalker 4 = .ok (.aload_n 0, 1) := by decide +kernel
theorem dX9_newWalker_5 : decode cX9_newWalker 5 = .ok (.getfield 90, 3) := by decide +kernel
theorem dX9_newWalker_8 : decode cX9_newWalker 8 = .ok (.iload_n 1, 1) := by decide +kernel
theorem dX9_newWalker_9 : decode cX9_newWalker 9 = .ok (.iastore, 1) := by decide +kernel
theorem dX9_newWalker_10 : decode cX9_newWalker 10 = .ok (.aload_n 0, 1) := by decide +kernel
theorem dX9_newWalker_11 : decode cX9_newWalker 11 = .ok (.getfield 25, 3) := by decide +kernel
theorem dX9_newWalker_14 : decode cX9_newWalker 14 = .ok (.aload_n 0, 1) := by decide +kernel
theorem dX9_newWalker_15 : decode cX9_newWalker 15 = .ok (.getfield 90, 3) := by decide +kernel
theorem dX9_newWalker_18 : decode cX9_newWalker 18 = .ok (.iload_n 2, 1) := by decide +kernel
theorem dX9_newWalker_19 : decode cX9_newWalker 19 = .ok (.iastore, 1) := by decide +kernel
theorem dX9_newWalker_20 : decode cX9_newWalker 20 = .ok (.aload_n 0, 1) := by decide +kernel
theorem dX9_newWalker_21 : decode cX9_newWalker 21 = .ok (.getfield 28, 3) := by decide +kernel
theorem dX9_newWalker_24 : decode cX9_newWalker 24 = .ok (.aload_n 0, 1) := by decide +kernel
theorem dX9_newWalker_25 : decode cX9_newWalker 25 = .ok (.getfield 90, 3) := by decide +kernel
theorem dX9_newWalker_28 : decode cX9_newWalker 28 = .ok (.iconst 0, 1) := by decide +kernel
theorem dX9_newWalker_29 : decode cX9_newWalker 29 = .ok (.iastore, 1) := by decide +kernel
theorem dX9_newWalker_30 : decode cX9_newWalker 30 = .ok (.aload_n 0, 1) := by decide +kernel
theorem dX9_newWalker_31 : decode cX9_newWalker 31 = .ok (.dup, 1) := by decide +kernel
theorem dX9_newWalker_32 : decode cX9_newWalker 32 = .ok (.getfield 90, 3) := by decide +kernel
theorem dX9_newWalker_35 : decode cX9_newWalker 35 = .ok (.dup_x1, 1) := by decide +kernel
theorem dX9_newWalker_36 : decode cX9_newWalker 36 = .ok (.iconst 1, 1) := by decide +kernel
theorem dX9_newWalker_37 : decode cX9_newWalker 37 = .ok (.iadd, 1) := by decide +kernel
theorem dX9_newWalker_38 : decode cX9_newWalker 38 = .ok (.putfield 90, 3) := by decide +kernel
theorem dX9_newWalker_41 : decode cX9_newWalker 41 = .ok (.ireturn, 1) := by decide +kernel
set_option maxRecDepth 20000 in
theorem c_X9_newWalker {G : Gl} {d : Nat} {σ : Sg} {τ : Tw} (hM : RMt τ σ) (hO : OkT τ) (hp : τ.2.1 1 < 5) {s w : Int} : CT G d yX9_newWalker cX9_newWalker 3 (some .int) [.ref (gA G 54), .int (iI s), .int (iI w)] σ (RE (some (.int (iI (τ.2.1 1)))) (fun υ => RMt (addW τ s w) υ ∧ Fr TM σ υ ∧ ∀ j, j = 18 ∨ j = 20 ∨ j = 23 ∨ j = 25 → υ.1 54 j = σ.1 54 j)) := by
  refine CT.of (by decide +kernel) (Nat.le_of_ble_eq_true rfl) ?_
  change AW G _ RX9 _ _ _ 0 [(0, .ref (gA G 54)), (1, .int (iI s)), (2, .int (iI w))] [] _ _
  have hO2 := hO
  obtain ⟨o1, o2, o3, o4, o5, o6, o7, o8, o9⟩ := hO2
  have p0 := hM.2.1
  have p1 := hM.2.2.1
  have p2 : σ.1 63 0 = τ.2.1 2 := hM.2.2.2.1 0 (by decide)
  obtain ⟨n, hn⟩ := Int.eq_ofNat_of_zero_le o4
  have e : (τ.2.1 1).toNat = n := by omega
  refine A_aload_n (pc := 0) dX9_newWalker_0 rfl rfl ?_
  refine A_getR (pc := 1) fX9_22 rfl rfl dX9_newWalker_1 ?_
  refine A_aload_n (pc := 4) dX9_newWalker_4 rfl rfl ?_
  refine A_getIv (pc := 5) fX9_90 rfl rfl (show _ = (n : Int) from by rw [p1, hn]) dX9_newWalker_5 ?_
  refine A_iload_n (pc := 8) dX9_newWalker_8 rfl rfl ?_
  refine A_iast (pc := 9) n rfl rfl (by omega) (Nat.le_of_ble_eq_true rfl) dX9_newWalker_9 ?_
  refine A_aload_n (pc := 10) dX9_newWalker_10 rfl rfl ?_
  refine A_getR (pc := 11) fX9_25 rfl rfl dX9_newWalker_11 ?_
  refine A_aload_n (pc := 14) dX9_newWalker_14 rfl rfl ?_
  refine A_getIv (pc := 15) fX9_90 rfl rfl (show _ = (n : Int) from by rw [uI_at, if_neg (by omega)]; rw [p1, hn]) dX9_newWalker_15 ?_
  refine A_iload_n (pc := 18) dX9_newWalker_18 rfl rfl ?_
  refine A_iast (pc := 19) n rfl rfl (by omega) (Nat.le_of_ble_eq_true rfl) dX9_newWalker_19 ?_
  refine A_aload_n (pc := 20) dX9_newWalker_20 rfl rfl ?_
  refine A_getR (pc := 21) fX9_28 rfl rfl dX9_newWalker_21 ?_
  refine A_aload_n (pc := 24) dX9_newWalker_24 rfl rfl ?_
  refine A_getIv (pc := 25) fX9_90 rfl rfl (show _ = (n : Int) from by rw [uI_at, if_neg (by omega)]; rw [uI_at, if_neg (by omega)]; rw [p1, hn]) dX9_newWalker_25 ?_
  refine A_iconst (pc := 28) dX9_newWalker_28 ?_
  refine A_iast (pc := 29) n rfl rfl (by omega) (Nat.le_of_ble_eq_true rfl) dX9_newWalker_29 ?_
  refine A_aload_n (pc := 30) dX9_newWalker_30 rfl rfl ?_
  refine A_dup (pc := 31) dX9_newWalker_31 rfl ?_
  refine A_getIv (pc := 32) fX9_90 rfl rfl (show _ = (n : Int) from by rw [uI_at, if_neg (by omega)]; rw [uI_at, if_neg (by omega)]; rw [uI_at, if_neg (by omega)]; rw [p1, hn]) dX9_newWalker_32 ?_
  refine A_dup_x1 (pc := 35) dX9_newWalker_35 rfl rfl ?_
  refine A_iconst (pc := 36) dX9_newWalker_36 ?_
  refine A_iadd (pc := 37) dX9_newWalker_37 ?_
  refine A_putI (pc := 38) fX9_90 wr_8_5 rfl rfl dX9_newWalker_38 ?_
  refine A_iret (pc := 41) rfl dX9_newWalker_41 ?_
  refine ⟨by rw [hn], ?_, (((Fr.rf.uI (show TM 59 by unfold TM; omega)).uI (show TM 60 by unfold TM; omega)).uI (show TM 61 by unfold TM; omega)).uI (show TM 54 by unfold TM; omega), fun j hj => ?_⟩
  · have q := ((hM.setA 4 n s (by decide)).setA 5 n w (by decide)).setA 6 n 0 (by decide)
    have q2 := q.inc1 (n := n) hn (fun j hj => by
      have hh : j = 0 ∨ j = 1 ∨ j = 2 := by omega
      rcases hh with rfl | rfl | rfl <;> simp [uI_at, tA])
    rw [addW, e, hn]
    exact q2
  · rw [uI_at, if_neg (by omega), uI_at, if_neg (by omega), uI_at, if_neg (by omega), uI_at, if_neg (by omega)]
theorem dX9_house_0 : decode cX9_house 0 = .ok (.aload_n 0, 1) := by decide +kernel
theorem dX9_house_1 : decode cX9_house 1 = .ok (.iload_n 1, 1) := by decide +kernel
theorem dX9_house_2 : decode cX9_house 2 = .ok (.iload_n 2, 1) := by decide +kernel
theorem dX9_house_3 : decode cX9_house 3 = .ok (.invokevirtual 129, 3) := by decide +kernel
theorem dX9_house_6 : decode cX9_house 6 = .ok (.ifCond .eq 11, 3) := by decide +kernel
theorem dX9_house_9 : decode cX9_house 9 = .ok (.aload_n 0, 1) := by decide +kernel
theorem dX9_house_10 : decode cX9_house 10 = .ok (.iload_n 1, 1) := by decide +kernel
theorem dX9_house_11 : decode cX9_house 11 = .ok (.invokevirtual 123, 3) := by decide +kernel
theorem dX9_house_14 : decode cX9_house 14 = .ok (.ifCond .eq 10, 3) := by decide +kernel
theorem dX9_house_17 : decode cX9_house 17 = .ok (.aload_n 0, 1) := by decide +kernel
theorem dX9_house_18 : decode cX9_house 18 = .ok (.bipush (-6), 2) := by decide +kernel
theorem dX9_house_20 : decode cX9_house 20 = .ok (.invokevirtual 79, 3) := by decide +kernel
theorem dX9_house_23 : decode cX9_house 23 = .ok (.ireturn, 1) := by decide +kernel
theorem dX9_house_24 : decode cX9_house 24 = .ok (.aload_n 0, 1) := by decide +kernel
theorem dX9_house_25 : decode cX9_house 25 = .ok (.getfield 31, 3) := by decide +kernel
theorem dX9_house_28 : decode cX9_house 28 = .ok (.iload_n 1, 1) := by decide +kernel
theorem dX9_house_29 : decode cX9_house 29 = .ok (.baload, 1) := by decide +kernel
theorem dX9_house_30 : decode cX9_house 30 = .ok (.ifCond .eq 7, 3) := by decide +kernel
theorem dX9_house_33 : decode cX9_house 33 = .ok (.iconst 1, 1) := by decide +kernel
theorem dX9_house_34 : decode cX9_house 34 = .ok (.goto 4, 3) := by decide +kernel
theorem dX9_house_37 : decode cX9_house 37 = .ok (.iconst 0, 1) := by decide +kernel
theorem dX9_house_38 : decode cX9_house 38 = .ok (.istore_n 3, 1) := by decide +kernel
theorem dX9_house_39 : decode cX9_house 39 = .ok (.aload_n 0, 1) := by decide +kernel
theorem dX9_house_40 : decode cX9_house 40 = .ok (.getfield 31, 3) := by decide +kernel
theorem dX9_house_43 : decode cX9_house 43 = .ok (.iload_n 1, 1) := by decide +kernel
theorem dX9_house_44 : decode cX9_house 44 = .ok (.iload_n 2, 1) := by decide +kernel
theorem dX9_house_45 : decode cX9_house 45 = .ok (.bastore, 1) := by decide +kernel
theorem dX9_house_46 : decode cX9_house 46 = .ok (.iload_n 3, 1) := by decide +kernel
theorem dX9_house_47 : decode cX9_house 47 = .ok (.ireturn, 1) := by decide +kernel
set_option maxRecDepth 20000 in
theorem c_X9_house {G : Gl} {d : Nat} {σ : Sg} {Z : Zt} (hZ : RelM Z σ) (hO : OkZ Z) {s : Int} (hs1 : -2147483648 ≤ s) (hs2 : s < 2147483648) {b : Bool} : CT G (d + 3) yX9_house cX9_house 4 (some .int) [.ref (gA G 54), .int (iI s), .int (iI (bI (b = true)))] σ (RE (some (.int (iI (qHouse Z s b).1))) (fun υ => RelM (qHouse Z s b).2 υ ∧ Fr MC σ υ)) := by
  refine CT.of (by decide +kernel) (Nat.le_of_ble_eq_true rfl) ?_
  change AW G _ RX9 _ _ _ 0 [(0, .ref (gA G 54)), (1, .int (iI s)), (2, .int (iI (bI (b = true))))] [] _ _
  refine A_aload_n (pc := 0) dX9_house_0 rfl rfl ?_
  refine A_iload_n (pc := 1) dX9_house_1 rfl rfl ?_
  refine A_iload_n (pc := 2) dX9_house_2 rfl rfl ?_
  refine A_callV1 (pc := 3) kX9_129 rfl rfl (c_X9_mayBecome hZ.1 hO.1 hs1 hs2) dX9_house_3 rfl rfl (Nat.le_of_ble_eq_true rfl) (Nat.le_of_ble_eq_true rfl) ?_
  refine A_ifb_eq (pc := 6) 17 dX9_house_6 (by decide) (fun h6 => ?_) (fun h6 => ?_)
  · skip
    refine A_aload_n (pc := 17) dX9_house_17 rfl rfl ?_
    refine A_bipush (pc := 18) dX9_house_18 (by decide) ?_
    refine A_callVe (pc := 20) kX9_79 rfl rfl (c_X9_no hZ hO (t := -6) (by omega) (by omega)) dX9_house_20 rfl rfl (Nat.le_of_ble_eq_true rfl) (Nat.le_of_ble_eq_true rfl) (fun υ hυ => ?_)
    refine A_iret (pc := 23) rfl dX9_house_23 ?_
    exact RQM (by unfold qHouse; rw [if_pos (by
      by_cases g1 : 0 ≤ s ∧ s < 49
      · refine Or.inr ?_
        by_cases g2 : b = true
        · refine Or.inl ?_
          by_cases g3 : wAt Z.1 s = true
          · exact g3
          · exact absurd ⟨g1, by rw [if_pos g2]; exact g3⟩ h6
        · refine Or.inr ⟨g2, ?_⟩
          by_cases g3 : pAt Z.1 s = true
          · exact g3
          · exact absurd ⟨g1, by rw [if_neg g2]; exact g3⟩ h6
      · exact Or.inl g1)]; rfl) hυ.1 (hυ.2.mono MC70)
  · skip
    refine A_aload_n (pc := 9) dX9_house_9 rfl rfl ?_
    refine A_iload_n (pc := 10) dX9_house_10 rfl rfl ?_
    refine A_callV1 (pc := 11) kX9_123 rfl rfl (c_X9_isStood hZ.1 hO.1 hs1 hs2) dX9_house_11 rfl rfl (Nat.le_of_ble_eq_true rfl) (Nat.le_of_ble_eq_true rfl) ?_
    refine A_ifb_eq (pc := 14) 24 dX9_house_14 (by decide) (fun h14 => ?_) (fun h14 => ?_)
    · skip
      obtain ⟨k, rfl⟩ := Int.eq_ofNat_of_zero_le (show 0 ≤ s by omega)
      have hk : k < 49 := by omega
      have hpn : ¬ (¬ b = true ∧ pAt Z.1 (k : Int) = true) := fun q => by have z := h6.2; rw [if_neg q.1] at z; exact z q.2
      refine A_aload_n (pc := 24) dX9_house_24 rfl rfl ?_
      refine A_getR (pc := 25) fX9_31 rfl rfl dX9_house_25 ?_
      refine A_iload_n (pc := 28) dX9_house_28 rfl rfl ?_
      refine A_zaldv (pc := 29) _ rfl rfl (by omega) (Nat.le_of_ble_eq_true rfl) (hZ.1.1 k hk) dX9_house_29 ?_
      refine A_ifb_eq (pc := 30) 37 dX9_house_30 (by decide) (fun h30 => ?_) (fun h30 => ?_)
      · skip
        refine A_iconst (pc := 37) dX9_house_37 ?_
        refine A_istore_n (pc := 38) dX9_house_38 rfl (Nat.le_of_ble_eq_true rfl) ?_
        refine A_aload_n (pc := 39) dX9_house_39 rfl rfl ?_
        refine A_getR (pc := 40) fX9_31 rfl rfl dX9_house_40 ?_
        refine A_iload_n (pc := 43) dX9_house_43 rfl rfl ?_
        refine A_iload_n (pc := 44) dX9_house_44 rfl rfl ?_
        refine A_zast (pc := 45) k rfl rfl hk (Nat.le_of_ble_eq_true rfl) nar_bI dX9_house_45 ?_
        refine A_iload_n (pc := 46) dX9_house_46 rfl rfl ?_
        refine A_iret (pc := 47) rfl dX9_house_47 ?_
        exact RQM (by unfold qHouse; rw [if_neg (fun q => q.elim (fun z => z h6.1) (fun z => z.elim h14 hpn)), bI_f (fun q => h30 ((sT_k hk).mp q))]) (hZ.town (hZ.1.house hk b) (Fr.rf.uI (show 54 ≤ 62 ∧ 62 < 64 by omega)) (fun j hj => g54n (by decide))) ((Fr.rf.uI (show 54 ≤ 62 ∧ 62 < 64 by omega) : Fr (fun a => 54 ≤ a ∧ a < 64) σ _).mono TMC)
      · skip
        refine A_iconst (pc := 33) dX9_house_33 ?_
        refine A_goto (pc := 34) 38 dX9_house_34 (by decide) ?_
        refine A_istore_n (pc := 38) dX9_house_38 rfl (Nat.le_of_ble_eq_true rfl) ?_
        refine A_aload_n (pc := 39) dX9_house_39 rfl rfl ?_
        refine A_getR (pc := 40) fX9_31 rfl rfl dX9_house_40 ?_
        refine A_iload_n (pc := 43) dX9_house_43 rfl rfl ?_
        refine A_iload_n (pc := 44) dX9_house_44 rfl rfl ?_
        refine A_zast (pc := 45) k rfl rfl hk (Nat.le_of_ble_eq_true rfl) nar_bI dX9_house_45 ?_
        refine A_iload_n (pc := 46) dX9_house_46 rfl rfl ?_
        refine A_iret (pc := 47) rfl dX9_house_47 ?_
        exact RQM (by unfold qHouse; rw [if_neg (fun q => q.elim (fun z => z h6.1) (fun z => z.elim h14 hpn)), bI_t ((sT_k hk).mpr h30)]) (hZ.town (hZ.1.house hk b) (Fr.rf.uI (show 54 ≤ 62 ∧ 62 < 64 by omega)) (fun j hj => g54n (by decide))) ((Fr.rf.uI (show 54 ≤ 62 ∧ 62 < 64 by omega) : Fr (fun a => 54 ≤ a ∧ a < 64) σ _).mono TMC)
    · skip
      refine A_aload_n (pc := 17) dX9_house_17 rfl rfl ?_
      refine A_bipush (pc := 18) dX9_house_18 (by decide) ?_
      refine A_callVe (pc := 20) kX9_79 rfl rfl (c_X9_no hZ hO (t := -6) (by omega) (by omega)) dX9_house_20 rfl rfl (Nat.le_of_ble_eq_true rfl) (Nat.le_of_ble_eq_true rfl) (fun υ hυ => ?_)
      refine A_iret (pc := 23) rfl dX9_house_23 ?_
      exact RQM (by unfold qHouse; rw [if_pos (Or.inr (Or.inl h14))]; rfl) hυ.1 (hυ.2.mono MC70)
theorem dX9_pane_0 : decode cX9_pane 0 = .ok (.iload_n 1, 1) := by decide +kernel
theorem dX9_pane_1 : decode cX9_pane 1 = .ok (.iconst 0, 1) := by decide +kernel
theorem dX9_pane_2 : decode cX9_pane 2 = .ok (.bipush 6, 2) := by decide +kernel
theorem dX9_pane_4 : decode cX9_pane 4 = .ok (.invokestatic 86, 3) := by decide +kernel
theorem dX9_pane_7 : decode cX9_pane 7 = .ok (.ifCond .ne 9, 3) := by decide +kernel
theorem dX9_pane_10 : decode cX9_pane 10 = .ok (.aload_n 0, 1) := by decide +kernel
theorem dX9_pane_11 : decode cX9_pane 11 = .ok (.iconst (-1), 1) := by decide +kernel
theorem dX9_pane_12 : decode cX9_pane 12 = .ok (.invokevirtual 79, 3) := by decide +kernel
theorem dX9_pane_15 : decode cX9_pane 15 = .ok (.ireturn, 1) := by decide +kernel
theorem dX9_pane_16 : decode cX9_pane 16 = .ok (.iload_n 2, 1) := by decide +kernel
theorem dX9_pane_17 : decode cX9_pane 17 = .ok (.iconst 0, 1) := by decide +kernel
theorem dX9_pane_18 : decode cX9_pane 18 = .ok (.bipush 9, 2) := by decide +kernel
theorem dX9_pane_20 : decode cX9_pane 20 = .ok (.invokestatic 86, 3) := by decide +kernel
theorem dX9_pane_23 : decode cX9_pane 23 = .ok (.ifCond .eq 19, 3) := by decide +kernel
theorem dX9_pane_26 : decode cX9_pane 26 = .ok (.aload_n 0, 1) := by decide +kernel
theorem dX9_pane_27 : decode cX9_pane 27 = .ok (.iload_n 3, 1) := by decide +kernel
theorem dX9_pane_28 : decode cX9_pane 28 = .ok (.invokevirtual 133, 3) := by decide +kernel
theorem dX9_pane_31 : decode cX9_pane 31 = .ok (.ifCond .eq 11, 3) := by decide +kernel
theorem dX9_pane_34 : decode cX9_pane 34 = .ok (.iload 4, 2) := by decide +kernel
theorem dX9_pane_36 : decode cX9_pane 36 = .ok (.invokestatic 136, 3) := by decide +kernel
theorem dX9_pane_39 : decode cX9_pane 39 = .ok (.ifCond .ne 10, 3) := by decide +kernel
theorem dX9_pane_42 : decode cX9_pane 42 = .ok (.aload_n 0, 1) := by decide +kernel
theorem dX9_pane_43 : decode cX9_pane 43 = .ok (.bipush (-6), 2) := by decide +kernel
theorem dX9_pane_45 : decode cX9_pane 45 = .ok (.invokevirtual 79, 3) := by decide +kernel
theorem dX9_pane_48 : decode cX9_pane 48 = .ok (.ireturn, 1) := by decide +kernel
theorem dX9_pane_49 : decode cX9_pane 49 = .ok (.aload_n 0, 1) := by decide +kernel
theorem dX9_pane_50 : decode cX9_pane 50 = .ok (.getfield 83, 3) := by decide +kernel
theorem dX9_pane_53 : decode cX9_pane 53 = .ok (.bipush 9, 2) := by decide +kernel
theorem dX9_pane_55 : decode cX9_pane 55 = .ok (.if_icmp .ne 12, 3) := by decide +kernel
theorem dX9_pane_58 : decode cX9_pane 58 = .ok (.aload_n 0, 1) := by decide +kernel
theorem dX9_pane_59 : decode cX9_pane 59 = .ok (.bipush (-7), 2) := by decide +kernel
theorem dX9_pane_61 : decode cX9_pane 61 = .ok (.invokevirtual 79, 3) := by decide +kernel
theorem dX9_pane_64 : decode cX9_pane 64 = .ok (.goto 12, 3) := by decide +kernel
theorem dX9_pane_67 : decode cX9_pane 67 = .ok (.aload_n 0, 1) := by decide +kernel
theorem dX9_pane_68 : decode cX9_pane 68 = .ok (.iload_n 1, 1) := by decide +kernel
theorem dX9_pane_69 : decode cX9_pane 69 = .ok (.iload_n 2, 1) := by decide +kernel
theorem dX9_pane_70 : decode cX9_pane 70 = .ok (.iload_n 3, 1) := by decide +kernel
theorem dX9_pane_71 : decode cX9_pane 71 = .ok (.iload 4, 2) := by decide +kernel
theorem dX9_pane_73 : decode cX9_pane 73 = .ok (.invokevirtual 139, 3) := by decide +kernel
theorem dX9_pane_76 : decode cX9_pane 76 = .ok (.ireturn, 1) := by decide +kernel
set_option maxRecDepth 20000 in
theorem c_X9_pane {G : Gl} {d : Nat} {σ : Sg} {Z : Zt} (hZ : RelM Z σ) (hO : OkZ Z) {k : Int} (hk1 : -2147483648 ≤ k) (hk2 : k < 2147483648) {a : Int} (ha1 : -2147483648 ≤ a) (ha2 : a < 2147483648) {s : Int} (hs1 : -2147483648 ≤ s) (hs2 : s < 2147483648) {w : Int} (hw1 : -2147483648 ≤ w) (hw2 : w < 2147483648) : CT G (d + 3) yX9_pane cX9_pane 5 (some .int) [.ref (gA G 54), .int (iI k), .int (iI a), .int (iI s), .int (iI w)] σ (RE (some (.int (iI (qPane Z k a s w).1))) (fun υ => RelM (qPane Z k a s w).2 υ ∧ Fr MC σ υ)) := by
  refine CT.of (by decide +kernel) (Nat.le_of_ble_eq_true rfl) ?_
  change AW G _ RX9 _ _ _ 0 [(0, .ref (gA G 54)), (1, .int (iI k)), (2, .int (iI a)), (3, .int (iI s)), (4, .int (iI w))] [] _ _
  have o2 := hO.1.2.1
  have o3 := hO.1.2.2.1
  refine A_iload_n (pc := 0) dX9_pane_0 rfl rfl ?_
  refine A_iconst (pc := 1) dX9_pane_1 ?_
  refine A_bipush (pc := 2) dX9_pane_2 (by decide) ?_
  refine A_callS1 (pc := 4) kX9_86 (c_X9_within (v := k) (a := 0) (b := 6) (by omega) (by omega) (by omega) (by omega) (by omega) (by omega)) dX9_pane_4 rfl rfl (Nat.le_of_ble_eq_true rfl) (Nat.le_of_ble_eq_true rfl) ?_
  refine A_ifb_ne (pc := 7) 16 dX9_pane_7 (by decide) (fun h7 => ?_) (fun h7 => ?_)
  · skip
    refine A_iload_n (pc := 16) dX9_pane_16 rfl rfl ?_
    refine A_iconst (pc := 17) dX9_pane_17 ?_
    refine A_bipush (pc := 18) dX9_pane_18 (by decide) ?_
    refine A_callS1 (pc := 20) kX9_86 (c_X9_within (v := a) (a := 0) (b := 9) (by omega) (by omega) (by omega) (by omega) (by omega) (by omega)) dX9_pane_20 rfl rfl (Nat.le_of_ble_eq_true rfl) (Nat.le_of_ble_eq_true rfl) ?_
    refine A_ifb_eq (pc := 23) 42 dX9_pane_23 (by decide) (fun h23 => ?_) (fun h23 => ?_)
    · skip
      refine A_aload_n (pc := 42) dX9_pane_42 rfl rfl ?_
      refine A_bipush (pc := 43) dX9_pane_43 (by decide) ?_
      refine A_callVe (pc := 45) kX9_79 rfl rfl (c_X9_no hZ hO (t := -6) (by omega) (by omega)) dX9_pane_45 rfl rfl (Nat.le_of_ble_eq_true rfl) (Nat.le_of_ble_eq_true rfl) (fun υ hυ => ?_)
      refine A_iret (pc := 48) rfl dX9_pane_48 ?_
      exact RQM (by unfold qPane; rw [if_neg (by omega), if_pos (fun q => h23 q.1)]; rfl) hυ.1 (hυ.2.mono MC70)
    · skip
      refine A_aload_n (pc := 26) dX9_pane_26 rfl rfl ?_
      refine A_iload_n (pc := 27) dX9_pane_27 rfl rfl ?_
      refine A_callV1 (pc := 28) kX9_133 rfl rfl (c_X9_isHouse hZ.1 hO.1 hs1 hs2) dX9_pane_28 rfl rfl (Nat.le_of_ble_eq_true rfl) (Nat.le_of_ble_eq_true rfl) ?_
      refine A_ifb_eq (pc := 31) 42 dX9_pane_31 (by decide) (fun h31 => ?_) (fun h31 => ?_)
      · skip
        refine A_aload_n (pc := 42) dX9_pane_42 rfl rfl ?_
        refine A_bipush (pc := 43) dX9_pane_43 (by decide) ?_
        refine A_callVe (pc := 45) kX9_79 rfl rfl (c_X9_no hZ hO (t := -6) (by omega) (by omega)) dX9_pane_45 rfl rfl (Nat.le_of_ble_eq_true rfl) (Nat.le_of_ble_eq_true rfl) (fun υ hυ => ?_)
        refine A_iret (pc := 48) rfl dX9_pane_48 ?_
        exact RQM (by unfold qPane; rw [if_neg (by omega), if_pos (fun q => h31 q.2.1)]; rfl) hυ.1 (hυ.2.mono MC70)
      · skip
        refine A_iload (pc := 34) dX9_pane_34 rfl ?_
        refine A_callS1 (pc := 36) kX9_136 (c_X9_isWay hw1 hw2) dX9_pane_36 rfl rfl (Nat.le_of_ble_eq_true rfl) (Nat.le_of_ble_eq_true rfl) ?_
        refine A_ifb_ne (pc := 39) 49 dX9_pane_39 (by decide) (fun h39 => ?_) (fun h39 => ?_)
        · skip
          refine A_aload_n (pc := 49) dX9_pane_49 rfl rfl ?_
          refine A_getIv (pc := 50) fX9_83 rfl rfl hZ.1.2.1 dX9_pane_50 ?_
          refine A_bipush (pc := 53) dX9_pane_53 (by decide) ?_
          refine A_icmp_ne (pc := 55) 67 dX9_pane_55 (by decide) (by omega) (by omega) (by omega) (by omega) (fun h55 => ?_) (fun h55 => ?_)
          · skip
            refine A_aload_n (pc := 67) dX9_pane_67 rfl rfl ?_
            refine A_iload_n (pc := 68) dX9_pane_68 rfl rfl ?_
            refine A_iload_n (pc := 69) dX9_pane_69 rfl rfl ?_
            refine A_iload_n (pc := 70) dX9_pane_70 rfl rfl ?_
            refine A_iload (pc := 71) dX9_pane_71 rfl ?_
            refine A_callVe (pc := 73) kX9_139 rfl rfl (c_X9_newPane hZ.1 hO.1 (by omega)) dX9_pane_73 rfl rfl (Nat.le_of_ble_eq_true rfl) (Nat.le_of_ble_eq_true rfl) (fun υ hυ => ?_)
            refine A_iret (pc := 76) rfl dX9_pane_76 ?_
            exact RQM (by unfold qPane; rw [if_neg (by omega), if_neg (fun q => q ⟨h23, h31, h39⟩), if_neg (by omega)]) (hZ.town hυ.1 hυ.2.1 hυ.2.2) (hυ.2.1.mono TMC)
          · skip
            refine A_aload_n (pc := 58) dX9_pane_58 rfl rfl ?_
            refine A_bipush (pc := 59) dX9_pane_59 (by decide) ?_
            refine A_callVe (pc := 61) kX9_79 rfl rfl (c_X9_no hZ hO (t := -7) (by omega) (by omega)) dX9_pane_61 rfl rfl (Nat.le_of_ble_eq_true rfl) (Nat.le_of_ble_eq_true rfl) (fun υ hυ => ?_)
            refine A_goto (pc := 64) 76 dX9_pane_64 (by decide) ?_
            refine A_iret (pc := 76) rfl dX9_pane_76 ?_
            exact RQM (by unfold qPane; rw [if_neg (by omega), if_neg (fun q => q ⟨h23, h31, h39⟩), if_pos (by omega)]; rfl) hυ.1 (hυ.2.mono MC70)
        · skip
          refine A_aload_n (pc := 42) dX9_pane_42 rfl rfl ?_
          refine A_bipush (pc := 43) dX9_pane_43 (by decide) ?_
          refine A_callVe (pc := 45) kX9_79 rfl rfl (c_X9_no hZ hO (t := -6) (by omega) (by omega)) dX9_pane_45 rfl rfl (Nat.le_of_ble_eq_true rfl) (Nat.le_of_ble_eq_true rfl) (fun υ hυ => ?_)
          refine A_iret (pc := 48) rfl dX9_pane_48 ?_
          exact RQM (by unfold qPane; rw [if_neg (by omega), if_pos (fun q => h39 q.2.2)]; rfl) hυ.1 (hυ.2.mono MC70)
  · skip
    refine A_aload_n (pc := 10) dX9_pane_10 rfl rfl ?_
    refine A_iconst (pc := 11) dX9_pane_11 ?_
    refine A_callVe (pc := 12) kX9_79 rfl rfl (c_X9_no hZ hO (t := -1) (by omega) (by omega)) dX9_pane_12 rfl rfl (Nat.le_of_ble_eq_true rfl) (Nat.le_of_ble_eq_true rfl) (fun υ hυ => ?_)
    refine A_iret (pc := 15) rfl dX9_pane_15 ?_
    exact RQM (by unfold qPane; rw [if_pos (by omega)]; rfl) hυ.1 (hυ.2.mono MC70)
theorem dX9_walker_0 : decode cX9_walker 0 = .ok (.aload_n 0, 1) := by decide +kernel
theorem dX9_walker_1 : decode cX9_walker 1 = .ok (.iload_n 1, 1) := by decide +kernel
theorem dX9_walker_2 : decode cX9_walker 2 = .ok (.invokevirtual 143, 3) := by decide +kernel
theorem dX9_walker_5 : decode cX9_walker 5 = .ok (.ifCond .eq 10, 3) := by decide +kernel
theorem dX9_walker_8 : decode cX9_walker 8 = .ok (.iload_n 2, 1) := by decide +kernel
theorem dX9_walker_9 : decode cX9_walker 9 = .ok (.invokestatic 136, 3) := by decide +kernel
theorem dX9_walker_12 : decode cX9_walker 12 = .ok (.ifCond .ne 10, 3) := by decide +kernel
theorem dX9_walker_15 : decode cX9_walker 15 = .ok (.aload_n 0, 1) := by decide +kernel
theorem dX9_walker_16 : decode cX9_walker 16 = .ok (.bipush (-6), 2) := by decide +kernel
theorem dX9_walker_18 : decode cX9_walker 18 = .ok (.invokevirtual 79, 3) := by decide +kernel
theorem dX9_walker_21 : decode cX9_walker 21 = .ok (.ireturn, 1) := by decide +kernel
theorem dX9_walker_22 : decode cX9_walker 22 = .ok (.aload_n 0, 1) := by decide +kernel
theorem dX9_walker_23 : decode cX9_walker 23 = .ok (.getfield 90, 3) := by decide +kernel
theorem dX9_walker_26 : decode cX9_walker 26 = .ok (.iconst 5, 1) := by decide +kernel
theorem dX9_walker_27 : decode cX9_walker 27 = .ok (.if_icmp .ne 12, 3) := by decide +kernel
theorem dX9_walker_30 : decode cX9_walker 30 = .ok (.aload_n 0, 1) := by decide +kernel
theorem dX9_walker_31 : decode cX9_walker 31 = .ok (.bipush (-7), 2) := by decide +kernel
theorem dX9_walker_33 : decode cX9_walker 33 = .ok (.invokevirtual 79, 3) := by decide +kernel
theorem dX9_walker_36 : decode cX9_walker 36 = .ok (.goto 9, 3) := by decide +kernel
theorem dX9_walker_39 : decode cX9_walker 39 = .ok (.aload_n 0, 1) := by decide +kernel
theorem dX9_walker_40 : decode cX9_walker 40 = .ok (.iload_n 1, 1) := by decide +kernel
theorem dX9_walker_41 : decode cX9_walker 41 = .ok (.iload_n 2, 1) := by decide +kernel
theorem dX9_walker_42 : decode cX9_walker 42 = .ok (.invokevirtual 146, 3) := by decide +kernel
theorem dX9_walker_45 : decode cX9_walker 45 = .ok (.ireturn, 1) := by decide +kernel
set_option maxRecDepth 20000 in
theorem c_X9_walker {G : Gl} {d : Nat} {σ : Sg} {Z : Zt} (hZ : RelM Z σ) (hO : OkZ Z) {s : Int} (hs1 : -2147483648 ≤ s) (hs2 : s < 2147483648) {w : Int} (hw1 : -2147483648 ≤ w) (hw2 : w < 2147483648) : CT G (d + 3) yX9_walker cX9_walker 3 (some .int) [.ref (gA G 54), .int (iI s), .int (iI w)] σ (RE (some (.int (iI (qWalker Z s w).1))) (fun υ => RelM (qWalker Z s w).2 υ ∧ Fr MC σ υ)) := by
  refine CT.of (by decide +kernel) (Nat.le_of_ble_eq_true rfl) ?_
  change AW G _ RX9 _ _ _ 0 [(0, .ref (gA G 54)), (1, .int (iI s)), (2, .int (iI w))] [] _ _
  have o4 := hO.1.2.2.2.1
  have o5 := hO.1.2.2.2.2.1
  refine A_aload_n (pc := 0) dX9_walker_0 rfl rfl ?_
  refine A_iload_n (pc := 1) dX9_walker_1 rfl rfl ?_
  refine A_callV1 (pc := 2) kX9_143 rfl rfl (c_X9_isOpen hZ.1 hO.1 hs1 hs2) dX9_walker_2 rfl rfl (Nat.le_of_ble_eq_true rfl) (Nat.le_of_ble_eq_true rfl) ?_
  refine A_ifb_eq (pc := 5) 15 dX9_walker_5 (by decide) (fun h5 => ?_) (fun h5 => ?_)
  · skip
    refine A_aload_n (pc := 15) dX9_walker_15 rfl rfl ?_
    refine A_bipush (pc := 16) dX9_walker_16 (by decide) ?_
    refine A_callVe (pc := 18) kX9_79 rfl rfl (c_X9_no hZ hO (t := -6) (by omega) (by omega)) dX9_walker_18 rfl rfl (Nat.le_of_ble_eq_true rfl) (Nat.le_of_ble_eq_true rfl) (fun υ hυ => ?_)
    refine A_iret (pc := 21) rfl dX9_walker_21 ?_
    exact RQM (by unfold qWalker; rw [if_pos (fun q => h5 q.1)]; rfl) hυ.1 (hυ.2.mono MC70)
  · skip
    refine A_iload_n (pc := 8) dX9_walker_8 rfl rfl ?_
    refine A_callS1 (pc := 9) kX9_136 (c_X9_isWay hw1 hw2) dX9_walker_9 rfl rfl (Nat.le_of_ble_eq_true rfl) (Nat.le_of_ble_eq_true rfl) ?_
    refine A_ifb_ne (pc := 12) 22 dX9_walker_12 (by decide) (fun h12 => ?_) (fun h12 => ?_)
    · skip
      refine A_aload_n (pc := 22) dX9_walker_22 rfl rfl ?_
      refine A_getIv (pc := 23) fX9_90 rfl rfl hZ.1.2.2.1 dX9_walker_23 ?_
      refine A_iconst (pc := 26) dX9_walker_26 ?_
      refine A_icmp_ne (pc := 27) 39 dX9_walker_27 (by decide) (by omega) (by omega) (by omega) (by omega) (fun h27 => ?_) (fun h27 => ?_)
      · skip
        refine A_aload_n (pc := 39) dX9_walker_39 rfl rfl ?_
        refine A_iload_n (pc := 40) dX9_walker_40 rfl rfl ?_
        refine A_iload_n (pc := 41) dX9_walker_41 rfl rfl ?_
        refine A_callVe (pc := 42) kX9_146 rfl rfl (c_X9_newWalker hZ.1 hO.1 (by omega)) dX9_walker_42 rfl rfl (Nat.le_of_ble_eq_true rfl) (Nat.le_of_ble_eq_true rfl) (fun υ hυ => ?_)
        refine A_iret (pc := 45) rfl dX9_walker_45 ?_
        exact RQM (by unfold qWalker; rw [if_neg (fun q => q ⟨h5, h12⟩), if_neg (by omega)]) (hZ.town hυ.1 hυ.2.1 hυ.2.2) (hυ.2.1.mono TMC)
      · skip
        refine A_aload_n (pc := 30) dX9_walker_30 rfl rfl ?_
        refine A_bipush (pc := 31) dX9_walker_31 (by decide) ?_
        refine A_callVe (pc := 33) kX9_79 rfl rfl (c_X9_no hZ hO (t := -7) (by omega) (by omega)) dX9_walker_33 rfl rfl (Nat.le_of_ble_eq_true rfl) (Nat.le_of_ble_eq_true rfl) (fun υ hυ => ?_)
        refine A_goto (pc := 36) 45 dX9_walker_36 (by decide) ?_
        refine A_iret (pc := 45) rfl dX9_walker_45 ?_
        exact RQM (by unfold qWalker; rw [if_neg (fun q => q ⟨h5, h12⟩), if_pos (by omega)]; rfl) hυ.1 (hυ.2.mono MC70)
    · skip
      refine A_aload_n (pc := 15) dX9_walker_15 rfl rfl ?_
      refine A_bipush (pc := 16) dX9_walker_16 (by decide) ?_
      refine A_callVe (pc := 18) kX9_79 rfl rfl (c_X9_no hZ hO (t := -6) (by omega) (by omega)) dX9_walker_18 rfl rfl (Nat.le_of_ble_eq_true rfl) (Nat.le_of_ble_eq_true rfl) (fun υ hυ => ?_)
      refine A_iret (pc := 21) rfl dX9_walker_21 ?_
      exact RQM (by unfold qWalker; rw [if_pos (fun q => h12 q.2)]; rfl) hυ.1 (hυ.2.mono MC70)
theorem dX9_put_0 : decode cX9_put 0 = .ok (.aload_n 0, 1) := by decide +kernel
theorem dX9_put_1 : decode cX9_put 1 = .ok (.iload_n 1, 1) := by decide +kernel
theorem dX9_put_2 : decode cX9_put 2 = .ok (.invokevirtual 150, 3) := by decide +kernel
theorem dX9_put_5 : decode cX9_put 5 = .ok (.ifCond .ne 9, 3) := by decide +kernel
theorem dX9_put_8 : decode cX9_put 8 = .ok (.aload_n 0, 1) := by decide +kernel
theorem dX9_put_9 : decode cX9_put 9 = .ok (.iconst (-1), 1) := by decide +kernel
theorem dX9_put_10 : decode cX9_put 10 = .ok (.invokevirtual 79, 3) := by decide +kernel
theorem dX9_put_13 : decode cX9_put 13 = .ok (.ireturn, 1) := by decide +kernel
theorem dX9_put_14 : decode cX9_put 14 = .ok (.aload_n 0, 1) := by decide +kernel
theorem dX9_put_15 : decode cX9_put 15 = .ok (.iload_n 2, 1) := by decide +kernel
theorem dX9_put_16 : decode cX9_put 16 = .ok (.invokevirtual 143, 3) := by decide +kernel
theorem dX9_put_19 : decode cX9_put 19 = .ok (.ifCond .eq 10, 3) := by decide +kernel
theorem dX9_put_22 : decode cX9_put 22 = .ok (.iload_n 3, 1) := by decide +kernel
theorem dX9_put_23 : decode cX9_put 23 = .ok (.invokestatic 136, 3) := by decide +kernel
theorem dX9_put_26 : decode cX9_put 26 = .ok (.ifCond .ne 10, 3) := by decide +kernel
theorem dX9_put_29 : decode cX9_put 29 = .ok (.aload_n 0, 1) := by decide +kernel
theorem dX9_put_30 : decode cX9_put 30 = .ok (.bipush (-6), 2) := by decide +kernel
theorem dX9_put_32 : decode cX9_put 32 = .ok (.invokevirtual 79, 3) := by decide +kernel
theorem dX9_put_35 : decode cX9_put 35 = .ok (.ireturn, 1) := by decide +kernel
theorem dX9_put_36 : decode cX9_put 36 = .ok (.aload_n 0, 1) := by decide +kernel
theorem dX9_put_37 : decode cX9_put 37 = .ok (.getfield 22, 3) := by decide +kernel
theorem dX9_put_40 : decode cX9_put 40 = .ok (.iload_n 1, 1) := by decide +kernel
theorem dX9_put_41 : decode cX9_put 41 = .ok (.iaload, 1) := by decide +kernel
theorem dX9_put_42 : decode cX9_put 42 = .ok (.istore 4, 2) := by decide +kernel
theorem dX9_put_44 : decode cX9_put 44 = .ok (.aload_n 0, 1) := by decide +kernel
theorem dX9_put_45 : decode cX9_put 45 = .ok (.getfield 22, 3) := by decide +kernel
theorem dX9_put_48 : decode cX9_put 48 = .ok (.iload_n 1, 1) := by decide +kernel
theorem dX9_put_49 : decode cX9_put 49 = .ok (.iload_n 2, 1) := by decide +kernel
theorem dX9_put_50 : decode cX9_put 50 = .ok (.iastore, 1) := by decide +kernel
theorem dX9_put_51 : decode cX9_put 51 = .ok (.aload_n 0, 1) := by decide +kernel
theorem dX9_put_52 : decode cX9_put 52 = .ok (.getfield 25, 3) := by decide +kernel
theorem dX9_put_55 : decode cX9_put 55 = .ok (.iload_n 1, 1) := by decide +kernel
theorem dX9_put_56 : decode cX9_put 56 = .ok (.iload_n 3, 1) := by decide +kernel
theorem dX9_put_57 : decode cX9_put 57 = .ok (.iastore, 1) := by decide +kernel
theorem dX9_put_58 : decode cX9_put 58 = .ok (.iload 4, 2) := by decide +kernel
theorem dX9_put_60 : decode cX9_put 60 = .ok (.ireturn, 1) := by decide +kernel
set_option maxRecDepth 20000 in
theorem c_X9_put {G : Gl} {d : Nat} {σ : Sg} {Z : Zt} (hZ : RelM Z σ) (hO : OkZ Z) {p : Int} (hp1 : -2147483648 ≤ p) (hp2 : p < 2147483648) {s : Int} (hs1 : -2147483648 ≤ s) (hs2 : s < 2147483648) {w : Int} (hw1 : -2147483648 ≤ w) (hw2 : w < 2147483648) : CT G (d + 3) yX9_put cX9_put 5 (some .int) [.ref (gA G 54), .int (iI p), .int (iI s), .int (iI w)] σ (RE (some (.int (iI (qPut Z p s w).1))) (fun υ => RelM (qPut Z p s w).2 υ ∧ Fr MC σ υ)) := by
  refine CT.of (by decide +kernel) (Nat.le_of_ble_eq_true rfl) ?_
  change AW G _ RX9 _ _ _ 0 [(0, .ref (gA G 54)), (1, .int (iI p)), (2, .int (iI s)), (3, .int (iI w))] [] _ _
  have o5 := hO.1.2.2.2.2.1
  refine A_aload_n (pc := 0) dX9_put_0 rfl rfl ?_
  refine A_iload_n (pc := 1) dX9_put_1 rfl rfl ?_
  refine A_callV1 (pc := 2) kX9_150 rfl rfl (c_X9_isWalker hZ.1 hO.1 hp1 hp2) dX9_put_2 rfl rfl (Nat.le_of_ble_eq_true rfl) (Nat.le_of_ble_eq_true rfl) ?_
  refine A_ifb_ne (pc := 5) 14 dX9_put_5 (by decide) (fun h5 => ?_) (fun h5 => ?_)
  · skip
    refine A_aload_n (pc := 14) dX9_put_14 rfl rfl ?_
    refine A_iload_n (pc := 15) dX9_put_15 rfl rfl ?_
    refine A_callV1 (pc := 16) kX9_143 rfl rfl (c_X9_isOpen hZ.1 hO.1 hs1 hs2) dX9_put_16 rfl rfl (Nat.le_of_ble_eq_true rfl) (Nat.le_of_ble_eq_true rfl) ?_
    refine A_ifb_eq (pc := 19) 29 dX9_put_19 (by decide) (fun h19 => ?_) (fun h19 => ?_)
    · skip
      refine A_aload_n (pc := 29) dX9_put_29 rfl rfl ?_
      refine A_bipush (pc := 30) dX9_put_30 (by decide) ?_
      refine A_callVe (pc := 32) kX9_79 rfl rfl (c_X9_no hZ hO (t := -6) (by omega) (by omega)) dX9_put_32 rfl rfl (Nat.le_of_ble_eq_true rfl) (Nat.le_of_ble_eq_true rfl) (fun υ hυ => ?_)
      refine A_iret (pc := 35) rfl dX9_put_35 ?_
      exact RQM (by unfold qPut; rw [if_neg (fun q => q h5), if_pos (fun q => h19 q.1)]; rfl) hυ.1 (hυ.2.mono MC70)
    · skip
      refine A_iload_n (pc := 22) dX9_put_22 rfl rfl ?_
      refine A_callS1 (pc := 23) kX9_136 (c_X9_isWay hw1 hw2) dX9_put_23 rfl rfl (Nat.le_of_ble_eq_true rfl) (Nat.le_of_ble_eq_true rfl) ?_
      refine A_ifb_ne (pc := 26) 36 dX9_put_26 (by decide) (fun h26 => ?_) (fun h26 => ?_)
      · skip
        obtain ⟨k, rfl⟩ := Int.eq_ofNat_of_zero_le (show 0 ≤ p by omega)
        refine A_aload_n (pc := 36) dX9_put_36 rfl rfl ?_
        refine A_getR (pc := 37) fX9_22 rfl rfl dX9_put_37 ?_
        refine A_iload_n (pc := 40) dX9_put_40 rfl rfl ?_
        refine A_ialdv (pc := 41) _ rfl rfl (by omega) (Nat.le_of_ble_eq_true rfl) (hZ.1.wat (by omega)) dX9_put_41 ?_
        refine A_istore (pc := 42) dX9_put_42 (Nat.le_of_ble_eq_true rfl) ?_
        refine A_aload_n (pc := 44) dX9_put_44 rfl rfl ?_
        refine A_getR (pc := 45) fX9_22 rfl rfl dX9_put_45 ?_
        refine A_iload_n (pc := 48) dX9_put_48 rfl rfl ?_
        refine A_iload_n (pc := 49) dX9_put_49 rfl rfl ?_
        refine A_iast (pc := 50) _ rfl rfl (by omega) (Nat.le_of_ble_eq_true rfl) dX9_put_50 ?_
        refine A_aload_n (pc := 51) dX9_put_51 rfl rfl ?_
        refine A_getR (pc := 52) fX9_25 rfl rfl dX9_put_52 ?_
        refine A_iload_n (pc := 55) dX9_put_55 rfl rfl ?_
        refine A_iload_n (pc := 56) dX9_put_56 rfl rfl ?_
        refine A_iast (pc := 57) _ rfl rfl (by omega) (Nat.le_of_ble_eq_true rfl) dX9_put_57 ?_
        refine A_iload (pc := 58) dX9_put_58 rfl ?_
        refine A_iret (pc := 60) rfl dX9_put_60 ?_
        exact RQM (by unfold qPut; rw [if_neg (fun q => q h5), if_neg (fun q => q ⟨h19, h26⟩)]; rfl) (hZ.town ((hZ.1.setA 4 k s (by decide)).setA 5 k w (by decide)) ((Fr.rf.uI (show 54 ≤ 59 ∧ 59 < 64 by omega)).uI (show 54 ≤ 60 ∧ 60 < 64 by omega)) (fun j hj => by rw [g54n (by decide), g54n (by decide)])) (((Fr.rf.uI (show 54 ≤ 59 ∧ 59 < 64 by omega)).uI (show 54 ≤ 60 ∧ 60 < 64 by omega) : Fr (fun a => 54 ≤ a ∧ a < 64) σ _).mono TMC)
      · skip
        refine A_aload_n (pc := 29) dX9_put_29 rfl rfl ?_
        refine A_bipush (pc := 30) dX9_put_30 (by decide) ?_
        refine A_callVe (pc := 32) kX9_79 rfl rfl (c_X9_no hZ hO (t := -6) (by omega) (by omega)) dX9_put_32 rfl rfl (Nat.le_of_ble_eq_true rfl) (Nat.le_of_ble_eq_true rfl) (fun υ hυ => ?_)
        refine A_iret (pc := 35) rfl dX9_put_35 ?_
        exact RQM (by unfold qPut; rw [if_neg (fun q => q h5), if_pos (fun q => h26 q.2)]; rfl) hυ.1 (hυ.2.mono MC70)
  · skip
    refine A_aload_n (pc := 8) dX9_put_8 rfl rfl ?_
    refine A_iconst (pc := 9) dX9_put_9 ?_
    refine A_callVe (pc := 10) kX9_79 rfl rfl (c_X9_no hZ hO (t := -1) (by omega) (by omega)) dX9_put_10 rfl rfl (Nat.le_of_ble_eq_true rfl) (Nat.le_of_ble_eq_true rfl) (fun υ hυ => ?_)
    refine A_iret (pc := 13) rfl dX9_put_13 ?_
    exact RQM (by unfold qPut; rw [if_pos h5]; rfl) hυ.1 (hυ.2.mono MC70)
theorem dX9_reach_0 : decode cX9_reach 0 = .ok (.iload_n 1, 1) := by decide +kernel
theorem dX9_reach_1 : decode cX9_reach 1 = .ok (.iconst 1, 1) := by decide +kernel
theorem dX9_reach_2 : decode cX9_reach 2 = .ok (.bipush 6, 2) := by decide +kernel
theorem dX9_reach_4 : decode cX9_reach 4 = .ok (.invokestatic 86, 3) := by decide +kernel
theorem dX9_reach_7 : decode cX9_reach 7 = .ok (.ifCond .ne 10, 3) := by decide +kernel
theorem dX9_reach_10 : decode cX9_reach 10 = .ok (.aload_n 0, 1) := by decide +kernel
theorem dX9_reach_11 : decode cX9_reach 11 = .ok (.bipush (-6), 2) := by decide +kernel
theorem dX9_reach_13 : decode cX9_reach 13 = .ok (.invokevirtual 79, 3) := by decide +kernel
theorem dX9_reach_16 : decode cX9_reach 16 = .ok (.ireturn, 1) := by decide +kernel
theorem dX9_reach_17 : decode cX9_reach 17 = .ok (.aload_n 0, 1) := by decide +kernel
theorem dX9_reach_18 : decode cX9_reach 18 = .ok (.getfield 35, 3) := by decide +kernel
theorem dX9_reach_21 : decode cX9_reach 21 = .ok (.iconst 0, 1) := by decide +kernel
theorem dX9_reach_22 : decode cX9_reach 22 = .ok (.iaload, 1) := by decide +kernel
theorem dX9_reach_23 : decode cX9_reach 23 = .ok (.istore_n 2, 1) := by decide +kernel
theorem dX9_reach_24 : decode cX9_reach 24 = .ok (.aload_n 0, 1) := by decide +kernel
theorem dX9_reach_25 : decode cX9_reach 25 = .ok (.getfield 35, 3) := by decide +kernel
theorem dX9_reach_28 : decode cX9_reach 28 = .ok (.iconst 0, 1) := by decide +kernel
theorem dX9_reach_29 : decode cX9_reach 29 = .ok (.iload_n 1, 1) := by decide +kernel
theorem dX9_reach_30 : decode cX9_reach 30 = .ok (.iastore, 1) := by decide +kernel
theorem dX9_reach_31 : decode cX9_reach 31 = .ok (.iload_n 2, 1) := by decide +kernel
theorem dX9_reach_32 : decode cX9_reach 32 = .ok (.ireturn, 1) := by decide +kernel
set_option maxRecDepth 20000 in
theorem c_X9_reach {G : Gl} {d : Nat} {σ : Sg} {Z : Zt} (hZ : RelM Z σ) (hO : OkZ Z) {v : Int} (hv1 : -2147483648 ≤ v) (hv2 : v < 2147483648) : CT G (d + 1) yX9_reach cX9_reach 3 (some .int) [.ref (gA G 54), .int (iI v)] σ (RE (some (.int (iI (qReach Z v).1))) (fun υ => RelM (qReach Z v).2 υ ∧ Fr MC σ υ)) := by
  refine CT.of (by decide +kernel) (Nat.le_of_ble_eq_true rfl) ?_
  change AW G _ RX9 _ _ _ 0 [(0, .ref (gA G 54)), (1, .int (iI v))] [] _ _
  refine A_iload_n (pc := 0) dX9_reach_0 rfl rfl ?_
  refine A_iconst (pc := 1) dX9_reach_1 ?_
  refine A_bipush (pc := 2) dX9_reach_2 (by decide) ?_
  refine A_callS1 (pc := 4) kX9_86 (c_X9_within (v := v) (a := 1) (b := 6) (by omega) (by omega) (by omega) (by omega) (by omega) (by omega)) dX9_reach_4 rfl rfl (Nat.le_of_ble_eq_true rfl) (Nat.le_of_ble_eq_true rfl) ?_
  refine A_ifb_ne (pc := 7) 17 dX9_reach_7 (by decide) (fun h7 => ?_) (fun h7 => ?_)
  · skip
    refine A_aload_n (pc := 17) dX9_reach_17 rfl rfl ?_
    refine A_getR (pc := 18) fX9_35 rfl rfl dX9_reach_18 ?_
    refine A_iconst (pc := 21) dX9_reach_21 ?_
    refine A_ialdv (pc := 22) 0 rfl rfl (by decide) (Nat.le_of_ble_eq_true rfl) (show _ = Z.1.2.1 2 from hZ.1.2.2.2.1 0 (by decide)) dX9_reach_22 ?_
    refine A_istore_n (pc := 23) dX9_reach_23 rfl (Nat.le_of_ble_eq_true rfl) ?_
    refine A_aload_n (pc := 24) dX9_reach_24 rfl rfl ?_
    refine A_getR (pc := 25) fX9_35 rfl rfl dX9_reach_25 ?_
    refine A_iconst (pc := 28) dX9_reach_28 ?_
    refine A_iload_n (pc := 29) dX9_reach_29 rfl rfl ?_
    refine A_iast (pc := 30) 0 rfl rfl (by decide) (Nat.le_of_ble_eq_true rfl) dX9_reach_30 ?_
    refine A_iload_n (pc := 31) dX9_reach_31 rfl rfl ?_
    refine A_iret (pc := 32) rfl dX9_reach_32 ?_
    exact RQM (by unfold qReach; rw [if_neg (by omega)]) (hZ.town (hZ.1.setW v (by decide)) (Fr.rf.uI (show 54 ≤ 63 ∧ 63 < 64 by omega)) (fun j hj => g54n (by decide))) ((Fr.rf.uI (show 54 ≤ 63 ∧ 63 < 64 by omega) : Fr (fun a => 54 ≤ a ∧ a < 64) σ _).mono TMC)
  · skip
    refine A_aload_n (pc := 10) dX9_reach_10 rfl rfl ?_
    refine A_bipush (pc := 11) dX9_reach_11 (by decide) ?_
    refine A_callVe (pc := 13) kX9_79 rfl rfl (c_X9_no hZ hO (t := -6) (by omega) (by omega)) dX9_reach_13 rfl rfl (Nat.le_of_ble_eq_true rfl) (Nat.le_of_ble_eq_true rfl) (fun υ hυ => ?_)
    refine A_iret (pc := 16) rfl dX9_reach_16 ?_
    exact RQM (by unfold qReach; rw [if_pos (by omega)]; rfl) hυ.1 (hυ.2.mono MC70)
theorem dX9_paneOf_0 : decode cX9_paneOf 0 = .ok (.aload_n 0, 1) := by decide +kernel
theorem dX9_paneOf_1 : decode cX9_paneOf 1 = .ok (.iload_n 1, 1) := by decide +kernel
theorem dX9_paneOf_2 : decode cX9_paneOf 2 = .ok (.invokevirtual 103, 3) := by decide +kernel
theorem dX9_paneOf_5 : decode cX9_paneOf 5 = .ok (.ifCond .ne 10, 3) := by decide +kernel
theorem dX9_paneOf_8 : decode cX9_paneOf 8 = .ok (.aload_n 0, 1) := by decide +kernel
theorem dX9_paneOf_9 : decode cX9_paneOf 9 = .ok (.bipush (-5), 2) := by decide +kernel
theorem dX9_paneOf_11 : decode cX9_paneOf 11 = .ok (.invokevirtual 79, 3) := by decide +kernel
theorem dX9_paneOf_14 : decode cX9_paneOf 14 = .ok (.ireturn, 1) := by decide +kernel
theorem dX9_paneOf_15 : decode cX9_paneOf 15 = .ok (.iload_n 2, 1) := by decide +kernel
theorem dX9_paneOf_16 : decode cX9_paneOf 16 = .ok (.tableswitch 87 0 5 #[40, 47, 54, 61, 68, 77], 40) := by decide +kernel
theorem dX9_paneOf_56 : decode cX9_paneOf 56 = .ok (.aload_n 0, 1) := by decide +kernel
theorem dX9_paneOf_57 : decode cX9_paneOf 57 = .ok (.getfield 7, 3) := by decide +kernel
theorem dX9_paneOf_60 : decode cX9_paneOf 60 = .ok (.iload_n 1, 1) := by decide +kernel
theorem dX9_paneOf_61 : decode cX9_paneOf 61 = .ok (.iaload, 1) := by decide +kernel
theorem dX9_paneOf_62 : decode cX9_paneOf 62 = .ok (.ireturn, 1) := by decide +kernel
theorem dX9_paneOf_63 : decode cX9_paneOf 63 = .ok (.aload_n 0, 1) := by decide +kernel
theorem dX9_paneOf_64 : decode cX9_paneOf 64 = .ok (.getfield 13, 3) := by decide +kernel
theorem dX9_paneOf_67 : decode cX9_paneOf 67 = .ok (.iload_n 1, 1) := by decide +kernel
theorem dX9_paneOf_68 : decode cX9_paneOf 68 = .ok (.iaload, 1) := by decide +kernel
theorem dX9_paneOf_69 : decode cX9_paneOf 69 = .ok (.ireturn, 1) := by decide +kernel
theorem dX9_paneOf_70 : decode cX9_paneOf 70 = .ok (.aload_n 0, 1) := by decide +kernel
theorem dX9_paneOf_71 : decode cX9_paneOf 71 = .ok (.getfield 16, 3) := by decide +kernel
theorem dX9_paneOf_74 : decode cX9_paneOf 74 = .ok (.iload_n 1, 1) := by decide +kernel
theorem dX9_paneOf_75 : decode cX9_paneOf 75 = .ok (.iaload, 1) := by decide +kernel
theorem dX9_paneOf_76 : decode cX9_paneOf 76 = .ok (.ireturn, 1) := by decide +kernel
theorem dX9_paneOf_77 : decode cX9_paneOf 77 = .ok (.aload_n 0, 1) := by decide +kernel
theorem dX9_paneOf_78 : decode cX9_paneOf 78 = .ok (.getfield 19, 3) := by decide +kernel
theorem dX9_paneOf_81 : decode cX9_paneOf 81 = .ok (.iload_n 1, 1) := by decide +kernel
theorem dX9_paneOf_82 : decode cX9_paneOf 82 = .ok (.iaload, 1) := by decide +kernel
theorem dX9_paneOf_83 : decode cX9_paneOf 83 = .ok (.ireturn, 1) := by decide +kernel
theorem dX9_paneOf_84 : decode cX9_paneOf 84 = .ok (.aload_n 0, 1) := by decide +kernel
theorem dX9_paneOf_85 : decode cX9_paneOf 85 = .ok (.iload_n 1, 1) := by decide +kernel
theorem dX9_paneOf_86 : decode cX9_paneOf 86 = .ok (.invokevirtual 113, 3) := by decide +kernel
theorem dX9_paneOf_89 : decode cX9_paneOf 89 = .ok (.invokestatic 117, 3) := by decide +kernel
theorem dX9_paneOf_92 : decode cX9_paneOf 92 = .ok (.ireturn, 1) := by decide +kernel
theorem dX9_paneOf_93 : decode cX9_paneOf 93 = .ok (.aload_n 0, 1) := by decide +kernel
theorem dX9_paneOf_94 : decode cX9_paneOf 94 = .ok (.aload_n 0, 1) := by decide +kernel
theorem dX9_paneOf_95 : decode cX9_paneOf 95 = .ok (.iload_n 1, 1) := by decide +kernel
theorem dX9_paneOf_96 : decode cX9_paneOf 96 = .ok (.invokevirtual 113, 3) := by decide +kernel
theorem dX9_paneOf_99 : decode cX9_paneOf 99 = .ok (.invokevirtual 153, 3) := by decide +kernel
theorem dX9_paneOf_102 : decode cX9_paneOf 102 = .ok (.ireturn, 1) := by decide +kernel
theorem dX9_paneOf_103 : decode cX9_paneOf 103 = .ok (.aload_n 0, 1) := by decide +kernel
theorem dX9_paneOf_104 : decode cX9_paneOf 104 = .ok (.bipush (-5), 2) := by decide +kernel
theorem dX9_paneOf_106 : decode cX9_paneOf 106 = .ok (.invokevirtual 79, 3) := by decide +kernel
theorem dX9_paneOf_109 : decode cX9_paneOf 109 = .ok (.ireturn, 1) := by decide +kernel
set_option maxRecDepth 20000 in
theorem c_X9_paneOf {G : Gl} {d : Nat} {σ : Sg} {Z : Zt} (hZ : RelM Z σ) (hO : OkZ Z) {p : Int} (hp1 : -2147483648 ≤ p) (hp2 : p < 2147483648) {w : Int} (hw1 : -2147483648 ≤ w) (hw2 : w < 2147483648) : CT G (d + 6) yX9_paneOf cX9_paneOf 3 (some .int) [.ref (gA G 54), .int (iI p), .int (iI w)] σ (RE (some (.int (iI (qPaneOf Z p w).1))) (fun υ => RelM (qPaneOf Z p w).2 υ ∧ Fr MC σ υ)) := by
  refine CT.of (by decide +kernel) (Nat.le_of_ble_eq_true rfl) ?_
  change AW G _ RX9 _ _ _ 0 [(0, .ref (gA G 54)), (1, .int (iI p)), (2, .int (iI w))] [] _ _
  have o3 := hO.1.2.2.1
  refine A_aload_n (pc := 0) dX9_paneOf_0 rfl rfl ?_
  refine A_iload_n (pc := 1) dX9_paneOf_1 rfl rfl ?_
  refine A_callV1 (pc := 2) kX9_103 rfl rfl (c_X9_isPane hZ.1 hO.1 hp1 hp2) dX9_paneOf_2 rfl rfl (Nat.le_of_ble_eq_true rfl) (Nat.le_of_ble_eq_true rfl) ?_
  refine A_ifb_ne (pc := 5) 15 dX9_paneOf_5 (by decide) (fun h5 => ?_) (fun h5 => ?_)
  · skip
    obtain ⟨k, rfl⟩ := Int.eq_ofNat_of_zero_le (show 0 ≤ p by omega)
    refine A_iload_n (pc := 15) dX9_paneOf_15 rfl rfl ?_
    refine A_tsw (pc := 16) [(0, 56), (1, 63), (2, 70), (3, 77), (4, 84), (5, 93)] 103 dX9_paneOf_16 (by decide) (by decide) (by decide) (by omega) (by omega) ?_
    refine ⟨fun h16 => ?_, fun h16n0 => ?_⟩
    · skip
      refine A_aload_n (pc := 56) dX9_paneOf_56 rfl rfl ?_
      refine A_getR (pc := 57) fX9_7 rfl rfl dX9_paneOf_57 ?_
      refine A_iload_n (pc := 60) dX9_paneOf_60 rfl rfl ?_
      refine A_ialdv (pc := 61) _ rfl rfl (by omega) (Nat.le_of_ble_eq_true rfl) (hZ.1.kind (by omega)) dX9_paneOf_61 ?_
      refine A_iret (pc := 62) rfl dX9_paneOf_62 ?_
      exact RQM (by unfold qPaneOf; rw [if_neg (by omega), if_pos (by omega)]; rfl) hZ Fr.rf
    refine ⟨fun h16 => ?_, fun h16n1 => ?_⟩
    · skip
      refine A_aload_n (pc := 63) dX9_paneOf_63 rfl rfl ?_
      refine A_getR (pc := 64) fX9_13 rfl rfl dX9_paneOf_64 ?_
      refine A_iload_n (pc := 67) dX9_paneOf_67 rfl rfl ?_
      refine A_ialdv (pc := 68) _ rfl rfl (by omega) (Nat.le_of_ble_eq_true rfl) (hZ.1.a (by omega)) dX9_paneOf_68 ?_
      refine A_iret (pc := 69) rfl dX9_paneOf_69 ?_
      exact RQM (by unfold qPaneOf; rw [if_neg (by omega), if_neg (by omega), if_pos (by omega)]; rfl) hZ Fr.rf
    refine ⟨fun h16 => ?_, fun h16n2 => ?_⟩
    · skip
      refine A_aload_n (pc := 70) dX9_paneOf_70 rfl rfl ?_
      refine A_getR (pc := 71) fX9_16 rfl rfl dX9_paneOf_71 ?_
      refine A_iload_n (pc := 74) dX9_paneOf_74 rfl rfl ?_
      refine A_ialdv (pc := 75) _ rfl rfl (by omega) (Nat.le_of_ble_eq_true rfl) (hZ.1.at (by omega)) dX9_paneOf_75 ?_
      refine A_iret (pc := 76) rfl dX9_paneOf_76 ?_
      exact RQM (by unfold qPaneOf; rw [if_neg (by omega), if_neg (by omega), if_neg (by omega), if_pos (by omega)]; rfl) hZ Fr.rf
    refine ⟨fun h16 => ?_, fun h16n3 => ?_⟩
    · skip
      refine A_aload_n (pc := 77) dX9_paneOf_77 rfl rfl ?_
      refine A_getR (pc := 78) fX9_19 rfl rfl dX9_paneOf_78 ?_
      refine A_iload_n (pc := 81) dX9_paneOf_81 rfl rfl ?_
      refine A_ialdv (pc := 82) _ rfl rfl (by omega) (Nat.le_of_ble_eq_true rfl) (hZ.1.out (by omega)) dX9_paneOf_82 ?_
      refine A_iret (pc := 83) rfl dX9_paneOf_83 ?_
      exact RQM (by unfold qPaneOf; rw [if_neg (by omega), if_neg (by omega), if_neg (by omega), if_neg (by omega), if_pos (by omega)]; rfl) hZ Fr.rf
    refine ⟨fun h16 => ?_, fun h16n4 => ?_⟩
    · skip
      refine A_aload_n (pc := 84) dX9_paneOf_84 rfl rfl ?_
      refine A_iload_n (pc := 85) dX9_paneOf_85 rfl rfl ?_
      refine A_callV1 (pc := 86) kX9_113 rfl rfl (c_X9_sees hZ.1 hO.1 (by omega)) dX9_paneOf_86 rfl rfl (Nat.le_of_ble_eq_true rfl) (Nat.le_of_ble_eq_true rfl) ?_
      refine A_callS1 (pc := 89) kX9_117 (c_J13_bitCount_95d88) dX9_paneOf_89 rfl rfl (Nat.le_of_ble_eq_true rfl) (Nat.le_of_ble_eq_true rfl) ?_
      refine A_iret (pc := 92) rfl dX9_paneOf_92 ?_
      exact RQM (by unfold qPaneOf; rw [if_neg (by omega), if_neg (by omega), if_neg (by omega), if_neg (by omega), if_neg (by omega), if_pos (by omega)]; rfl) hZ Fr.rf
    refine ⟨fun h16 => ?_, fun h16n5 => ?_⟩
    · skip
      refine A_aload_n (pc := 93) dX9_paneOf_93 rfl rfl ?_
      refine A_aload_n (pc := 94) dX9_paneOf_94 rfl rfl ?_
      refine A_iload_n (pc := 95) dX9_paneOf_95 rfl rfl ?_
      refine A_callV1 (pc := 96) kX9_113 rfl rfl (c_X9_sees hZ.1 hO.1 (by omega)) dX9_paneOf_96 rfl rfl (Nat.le_of_ble_eq_true rfl) (Nat.le_of_ble_eq_true rfl) ?_
      refine A_callV1 (pc := 99) kX9_153 rfl rfl (c_X9_inSight hZ.1 hO.1 (seeB_lt _ _ _)) dX9_paneOf_99 rfl rfl (Nat.le_of_ble_eq_true rfl) (Nat.le_of_ble_eq_true rfl) ?_
      refine A_iret (pc := 102) rfl dX9_paneOf_102 ?_
      exact RQM (by unfold qPaneOf; rw [if_neg (by omega), if_neg (by omega), if_neg (by omega), if_neg (by omega), if_neg (by omega), if_neg (by omega)]; rfl) hZ Fr.rf
    change AW G _ _ _ _ _ 103 _ _ _ _
    refine A_aload_n (pc := 103) dX9_paneOf_103 rfl rfl ?_
    refine A_bipush (pc := 104) dX9_paneOf_104 (by decide) ?_
    refine A_callVe (pc := 106) kX9_79 rfl rfl (c_X9_no hZ hO (t := -5) (by omega) (by omega)) dX9_paneOf_106 rfl rfl (Nat.le_of_ble_eq_true rfl) (Nat.le_of_ble_eq_true rfl) (fun υ hυ => ?_)
    refine A_iret (pc := 109) rfl dX9_paneOf_109 ?_
    exact RQM (by unfold qPaneOf; rw [if_pos (by omega)]; rfl) hυ.1 (hυ.2.mono MC70)
  · skip
    refine A_aload_n (pc := 8) dX9_paneOf_8 rfl rfl ?_
    refine A_bipush (pc := 9) dX9_paneOf_9 (by decide) ?_
    refine A_callVe (pc := 11) kX9_79 rfl rfl (c_X9_no hZ hO (t := -5) (by omega) (by omega)) dX9_paneOf_11 rfl rfl (Nat.le_of_ble_eq_true rfl) (Nat.le_of_ble_eq_true rfl) (fun υ hυ => ?_)
    refine A_iret (pc := 14) rfl dX9_paneOf_14 ?_
    exact RQM (by unfold qPaneOf; rw [if_pos (by omega)]; rfl) hυ.1 (hυ.2.mono MC70)
