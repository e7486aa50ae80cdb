/-! PART 49: a town from a text; the class's call -/
def twT (Z : Zt) (k : Nat) : (Bool × Int) × Tw := tnF (gS (elV Z k) (Z.2.1.2.1 k)) (Z.2.1.2.1 k) 160 1 Z.1 0
def qTown2 (Z : Zt) (k : Nat) : Int × Zt := if (twT Z k).1.1 = true then ((twT Z k).1.2, zFlt (zTw Z (twT Z k).2) (-1)) else refZ (zFlt Z (twT Z k).1.2) (-6)
def qTown (Z : Zt) (s : Int) : Int × Zt := if rowT Z s ≠ 0 then refZ Z (rowT Z s) else qTown2 Z s.toNat
theorem tnF_rng {g : Int → Int} {s : Int} : ∀ (n : Nat) (k : Int) (τ : Tw) (p : Int), (tnF g s n k τ p).1.1 = true → k ≤ (tnF g s n k τ p).1.2 ∧ (tnF g s n k τ p).1.2 < k + n
  | 0, k, τ, p, h => absurd h Bool.false_ne_true
  | n + 1, k, τ, p, h => by
    rw [tnF] at h ⊢
    split at h
    · rename_i q
      rw [if_pos q]
      split at h
      · rename_i q2
        rw [if_pos q2]
        show k ≤ k ∧ k < k + (n + 1 : Nat)
        omega
      · rename_i q2
        rw [if_neg q2]
        split at h
        · rename_i q3
          rw [if_pos q3]
          have := tnF_rng n (k + 1) _ _ h
          omega
        · exact absurd h Bool.false_ne_true
    · exact absurd h Bool.false_ne_true
def SFl : Nat → Prop := fun a => a = 3 ∨ a = 4 ∨ TS 30 a
theorem SFlX : ∀ a, SFl a → XC a := fun a h => by unfold SFl TS at h; unfold XC; omega
theorem RelX.flt {Z : Zt} {σ υ : Sg} {f : Int} (h : RelX Z σ) (hF : Fr SFl σ υ) (h1 : υ.1 3 1 = f) : RelX (zFlt Z f) υ := by
  obtain ⟨a1, a2, ⟨a3, a4⟩, a5, -, a6, a7⟩ := h
  have n : ∀ a, a ≠ 3 → a ≠ 4 → (a < 30 ∨ 38 ≤ a) → ¬ SFl a := fun a ha hb hc q => by unfold SFl TS at q; omega
  have e : ∀ a, a ≠ 3 → a ≠ 4 → (a < 30 ∨ 38 ≤ a) → υ.1 a = σ.1 a := fun a ha hb hc => (hF a (n a ha hb hc)).1
  exact ⟨a1.fr hF (fun a q z => by unfold SFl TS at q; omega), fun k hk => (a2 k hk).fr hF (n _ (by omega) (by omega) (by omega)) (n _ (by omega) (by omega) (by omega)), ⟨by rw [e 0 (by omega) (by omega) (by omega)]; exact a3, fun q => (a4 q).fr hF (fun a q z => by unfold SFl TS at q; omega)⟩, fun r r1 r2 => by rw [e 2 (by omega) (by omega) (by omega)]; exact a5 r r1 r2, h1, by rw [e 12 (by omega) (by omega) (by omega)]; exact a6, fun i i1 i2 => by rw [e 13 (by omega) (by omega) (by omega)]; exact a7 i i1 i2⟩
theorem enV_ok {r : (Bool × Int) × Tw} (h : enV r ≠ -1) : r.1.1 = true := by
  unfold enV at h
  by_cases q : r.1.1 = true
  · exact q
  · rw [if_neg q] at h; exact absurd rfl h
theorem enV_no {r : (Bool × Int) × Tw} (h : enV r = -1) (h2 : r.1.1 = true → 1 ≤ r.1.2) : r.1.1 = false := by
  unfold enV at h
  by_cases q : r.1.1 = true
  · rw [if_pos q] at h; have := h2 q; omega
  · exact Bool.eq_false_iff.mpr q
theorem enV_rng {r : (Bool × Int) × Tw} (h : r.1.1 = true → 1 ≤ r.1.2 ∧ r.1.2 < 161) : -1 ≤ enV r ∧ enV r < 161 := by
  unfold enV
  by_cases q : r.1.1 = true
  · rw [if_pos q]; have := h q; omega
  · rw [if_neg q]; omega
theorem dX8_fault_0 : decode cX8_fault 0 = .ok (.aload_n 0, 1) := by decide +kernel
theorem dX8_fault_1 : decode cX8_fault 1 = .ok (.getfield 36, 3) := by decide +kernel
theorem dX8_fault_4 : decode cX8_fault 4 = .ok (.getfield 236, 3) := by decide +kernel
theorem dX8_fault_7 : decode cX8_fault 7 = .ok (.ireturn, 1) := by decide +kernel
set_option maxRecDepth 20000 in
theorem c_X8_fault {G : Gl} {d : Nat} {σ : Sg} {Z : Zt} (hZ : RelX Z σ) : CT G d yX8_fault cX8_fault 1 (some .int) [.ref (gA G 0)] σ (R1 (.int (iI Z.2.2.2.2.1)) σ) := by
  refine CT.of (by decide +kernel) (Nat.le_of_ble_eq_true rfl) ?_
  change AW G _ RX8 _ _ _ 0 [(0, .ref (gA G 0))] [] _ _
  refine A_aload_n (pc := 0) dX8_fault_0 rfl rfl ?_
  refine A_getR (pc := 1) fX8_36 rfl rfl dX8_fault_1 ?_
  refine A_getIv (pc := 4) fX8_236 rfl rfl hZ.2.2.2.2.1 dX8_fault_4 ?_
  refine A_iret (pc := 7) rfl dX8_fault_7 ?_
  exact ⟨rfl, rfl⟩
theorem dX8_town_0 : decode cX8_town 0 = .ok (.aload_n 0, 1) := by decide +kernel
theorem dX8_town_1 : decode cX8_town 1 = .ok (.iload_n 1, 1) := by decide +kernel
theorem dX8_town_2 : decode cX8_town 2 = .ok (.invokevirtual 87, 3) := by decide +kernel
theorem dX8_town_5 : decode cX8_town 5 = .ok (.istore_n 2, 1) := by decide +kernel
theorem dX8_town_6 : decode cX8_town 6 = .ok (.iload_n 2, 1) := by decide +kernel
theorem dX8_town_7 : decode cX8_town 7 = .ok (.ifCond .eq 9, 3) := by decide +kernel
theorem dX8_town_10 : decode cX8_town 10 = .ok (.aload_n 0, 1) := by decide +kernel
theorem dX8_town_11 : decode cX8_town 11 = .ok (.iload_n 2, 1) := by decide +kernel
theorem dX8_town_12 : decode cX8_town 12 = .ok (.invokevirtual 76, 3) := by decide +kernel
theorem dX8_town_15 : decode cX8_town 15 = .ok (.ireturn, 1) := by decide +kernel
theorem dX8_town_16 : decode cX8_town 16 = .ok (.aload_n 0, 1) := by decide +kernel
theorem dX8_town_17 : decode cX8_town 17 = .ok (.getfield 36, 3) := by decide +kernel
theorem dX8_town_20 : decode cX8_town 20 = .ok (.aload_n 0, 1) := by decide +kernel
theorem dX8_town_21 : decode cX8_town 21 = .ok (.getfield 10, 3) := by decide +kernel
theorem dX8_town_24 : decode cX8_town 24 = .ok (.aload_n 0, 1) := by decide +kernel
theorem dX8_town_25 : decode cX8_town 25 = .ok (.getfield 25, 3) := by decide +kernel
theorem dX8_town_28 : decode cX8_town 28 = .ok (.iload_n 1, 1) := by decide +kernel
theorem dX8_town_29 : decode cX8_town 29 = .ok (.aaload, 1) := by decide +kernel
theorem dX8_town_30 : decode cX8_town 30 = .ok (.invokevirtual 225, 3) := by decide +kernel
theorem dX8_town_33 : decode cX8_town 33 = .ok (.istore_n 3, 1) := by decide +kernel
theorem dX8_town_34 : decode cX8_town 34 = .ok (.iload_n 3, 1) := by decide +kernel
theorem dX8_town_35 : decode cX8_town 35 = .ok (.iconst (-1), 1) := by decide +kernel
theorem dX8_town_36 : decode cX8_town 36 = .ok (.if_icmp .ne 10, 3) := by decide +kernel
theorem dX8_town_39 : decode cX8_town 39 = .ok (.aload_n 0, 1) := by decide +kernel
theorem dX8_town_40 : decode cX8_town 40 = .ok (.bipush (-6), 2) := by decide +kernel
theorem dX8_town_42 : decode cX8_town 42 = .ok (.invokevirtual 76, 3) := by decide +kernel
theorem dX8_town_45 : decode cX8_town 45 = .ok (.ireturn, 1) := by decide +kernel
theorem dX8_town_46 : decode cX8_town 46 = .ok (.aload_n 0, 1) := by decide +kernel
theorem dX8_town_47 : decode cX8_town 47 = .ok (.getfield 10, 3) := by decide +kernel
theorem dX8_town_50 : decode cX8_town 50 = .ok (.aload_n 0, 1) := by decide +kernel
theorem dX8_town_51 : decode cX8_town 51 = .ok (.getfield 36, 3) := by decide +kernel
theorem dX8_town_54 : decode cX8_town 54 = .ok (.getfield 229, 3) := by decide +kernel
theorem dX8_town_57 : decode cX8_town 57 = .ok (.invokevirtual 232, 3) := by decide +kernel
theorem dX8_town_60 : decode cX8_town 60 = .ok (.iload_n 3, 1) := by decide +kernel
theorem dX8_town_61 : decode cX8_town 61 = .ok (.ireturn, 1) := by decide +kernel
set_option maxRecDepth 20000 in
theorem c_X8_town {G : Gl} {d : Nat} {σ : Sg} {Z : Zt} (hZ : RelX Z σ) (hO : OkZ Z) {s : Int} (hs1 : -2147483648 ≤ s) (hs2 : s < 2147483648) : CT G (d + 8) yX8_town cX8_town 4 (some .int) [.ref (gA G 0), .int (iI s)] σ (RE (some (.int (iI (qTown Z s).1))) (fun υ => RelX (qTown Z s).2 υ ∧ Fr XC σ υ)) := by
  refine CT.of (by decide +kernel) (Nat.le_of_ble_eq_true rfl) ?_
  change AW G _ RX8 _ _ _ 0 [(0, .ref (gA G 0)), (1, .int (iI s))] [] _ _
  have hrt := rowT_rng Z s
  refine A_aload_n (pc := 0) dX8_town_0 rfl rfl ?_
  refine A_iload_n (pc := 1) dX8_town_1 rfl rfl ?_
  refine A_callV1 (pc := 2) kX8_87 rfl rfl (c_X8_rowTrouble hZ hO hs1 hs2) dX8_town_2 rfl rfl (Nat.le_of_ble_eq_true rfl) (Nat.le_of_ble_eq_true rfl) ?_
  refine A_istore_n (pc := 5) dX8_town_5 rfl (Nat.le_of_ble_eq_true rfl) ?_
  refine A_iload_n (pc := 6) dX8_town_6 rfl rfl ?_
  refine A_if_eq (pc := 7) 16 dX8_town_7 (by decide) (by omega) (by omega) (fun h7 => ?_) (fun h7 => ?_)
  · skip
    have h0 : rowT Z s = 0 := h7
    obtain ⟨h8, h100⟩ := rowT_0 h0
    obtain ⟨k, rfl⟩ := Int.eq_ofNat_of_zero_le (show 0 ≤ s by omega)
    have k8 : k < 8 := by omega
    have ks := hZ.2.1 k k8
    have ko := hO.2.1 k k8
    simp only [Int.toNat_natCast] at h100
    refine A_aload_n (pc := 16) dX8_town_16 rfl rfl ?_
    refine A_getR (pc := 17) fX8_36 rfl rfl dX8_town_17 ?_
    refine A_aload_n (pc := 20) dX8_town_20 rfl rfl ?_
    refine A_getR (pc := 21) fX8_10 rfl rfl dX8_town_21 ?_
    refine A_aload_n (pc := 24) dX8_town_24 rfl rfl ?_
    refine A_getR (pc := 25) fX8_25 rfl rfl dX8_town_25 ?_
    refine A_iload_n (pc := 28) dX8_town_28 rfl rfl ?_
    refine A_aald (pc := 29) _ rfl rfl (by omega) (Nat.le_of_ble_eq_true rfl) dX8_town_29 ?_
    refine A_callVe (pc := 30) kX8_225 rfl rfl (c_X2_readOver k8 ko.1 h100 hZ hO) dX8_town_30 rfl rfl (Nat.le_of_ble_eq_true rfl) (Nat.le_of_ble_eq_true rfl) (fun υ hυ => ?_)
    change AW G _ _ _ _ _ _ _ [.int (iI (enV (twT Z k)))] _ _
    have tr : (twT Z k).1.1 = true → 1 ≤ (twT Z k).1.2 ∧ (twT Z k).1.2 < 161 := fun z => tnF_rng (g := gS (elV Z k) (Z.2.1.2.1 k)) (s := Z.2.1.2.1 k) 160 1 Z.1 0 z
    have er := enV_rng (r := twT Z k) tr
    have hυ1 : EnX (elV Z k) (Z.2.1.2.1 k) (twT Z k) υ := hυ.1
    have hq0 : qTown Z (k : Int) = qTown2 Z k := by unfold qTown; rw [if_neg (fun z => z h0), Int.toNat_natCast]
    refine A_istore_n (pc := 33) dX8_town_33 rfl (Nat.le_of_ble_eq_true rfl) ?_
    refine A_iload_n (pc := 34) dX8_town_34 rfl rfl ?_
    refine A_iconst (pc := 35) dX8_town_35 ?_
    refine A_icmp_ne (pc := 36) 46 dX8_town_36 (by decide) (by omega) (by omega) (by omega) (by omega) (fun h36 => ?_) (fun h36 => ?_)
    · skip
      have q := enV_ok h36
      have e2 : υ.1 3 1 = -1 ∧ RX 30 (twT Z k).2 υ ∧ OkT (twT Z k).2 := by have z := hυ1; unfold EnX at z; rw [if_pos q] at z; exact z
      have hZ2 : RelX (zFlt Z (-1)) υ := hZ.flt hυ.2 e2.1
      refine A_aload_n (pc := 46) dX8_town_46 rfl rfl ?_
      refine A_getR (pc := 47) fX8_10 rfl rfl dX8_town_47 ?_
      refine A_aload_n (pc := 50) dX8_town_50 rfl rfl ?_
      refine A_getR (pc := 51) fX8_36 rfl rfl dX8_town_51 ?_
      refine A_getR (pc := 54) fX8_229 rfl rfl dX8_town_54 ?_
      refine A_callVe0 (pc := 57) kX8_232 rfl rfl (c_X5_become TC14 TC30 (by decide) e2.2.1 e2.2.2) dX8_town_57 rfl rfl (Nat.le_of_ble_eq_true rfl) (Nat.le_of_ble_eq_true rfl) (fun ω hω => ?_)
      refine A_iload_n (pc := 60) dX8_town_60 rfl rfl ?_
      refine A_iret (pc := 61) rfl dX8_town_61 ?_
      rw [hq0]
      have ev : enV (twT Z k) = (twT Z k).1.2 := if_pos q
      exact RQX (by unfold qTown2; rw [if_pos q, ← ev]; rfl) (hZ2.town hω.1 hω.2) ((hυ.2.mono SFlX).tr (hω.2.mono TSX))
    · skip
      have q := enV_no h36 (fun z => (tr z).1)
      have e2 : υ.1 3 1 = (twT Z k).1.2 := by have z := hυ1; unfold EnX at z; rw [if_neg (by rw [q]; decide)] at z; exact z
      have hZ2 : RelX (zFlt Z (twT Z k).1.2) υ := hZ.flt hυ.2 e2
      have hO2 : OkZ (zFlt Z (twT Z k).1.2) := hO
      refine A_aload_n (pc := 39) dX8_town_39 rfl rfl ?_
      refine A_bipush (pc := 40) dX8_town_40 (by decide) ?_
      refine A_callVe (pc := 42) kX8_76 rfl rfl (c_X8_refuse hZ2 hO2 (t := -6) (by omega) (by omega)) dX8_town_42 rfl rfl (Nat.le_of_ble_eq_true rfl) (Nat.le_of_ble_eq_true rfl) (fun ω hω => ?_)
      refine A_iret (pc := 45) rfl dX8_town_45 ?_
      rw [hq0]
      exact RQX (by unfold qTown2; rw [if_neg (by rw [q]; decide)]; rfl) hω.1 ((hυ.2.mono SFlX).tr (hω.2.mono XC2))
  · skip
    refine A_aload_n (pc := 10) dX8_town_10 rfl rfl ?_
    refine A_iload_n (pc := 11) dX8_town_11 rfl rfl ?_
    refine A_callVe (pc := 12) kX8_76 rfl rfl (c_X8_refuse hZ hO (t := rowT Z s) (by omega) (by omega)) dX8_town_12 rfl rfl (Nat.le_of_ble_eq_true rfl) (Nat.le_of_ble_eq_true rfl) (fun υ hυ => ?_)
    refine A_iret (pc := 15) rfl dX8_town_15 ?_
    exact RQX (by unfold qTown; rw [if_pos (by omega)]; rfl) hυ.1 (hυ.2.mono XC2)
