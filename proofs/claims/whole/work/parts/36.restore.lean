/-! PART 36: the image restored by the class -/
def rstC (τ : Tw) (hd : Int) : Prop := (0 ≤ hd ∧ hd < 100) ∧ ¬ hd < τ.2.1 0
def rstG (τ : Tw) : Nat → Nat → Zt → Zt
  | 0, _, Z => Z
  | n + 1, i, Z => rstG τ n (i + 1) (if (0 ≤ Z.2.1.1 i ∧ Z.2.1.1 i < 100) ∧ ¬ Z.2.1.1 i < τ.2.1 0 then zShelf Z i (-1) 0 (Z.2.1.2.2 i) else Z)
theorem rstG_y {τ : Tw} {n i : Nat} {Z : Zt} (h : (0 ≤ Z.2.1.1 i ∧ Z.2.1.1 i < 100) ∧ ¬ Z.2.1.1 i < τ.2.1 0) : rstG τ (n + 1) i Z = rstG τ n (i + 1) (zShelf Z i (-1) 0 (Z.2.1.2.2 i)) := by rw [rstG, if_pos h]
theorem rstG_n {τ : Tw} {n i : Nat} {Z : Zt} (h : ¬ ((0 ≤ Z.2.1.1 i ∧ Z.2.1.1 i < 100) ∧ ¬ Z.2.1.1 i < τ.2.1 0)) : rstG τ (n + 1) i Z = rstG τ n (i + 1) Z := by rw [rstG, if_neg h]
def qRestore (Z : Zt) : Int × Zt := if Z.2.2.1.1 = true then (Z.2.2.1.2.2.1 0, rstG Z.2.2.1.2 8 0 (zTw Z Z.2.2.1.2)) else refZ Z (-6)
def OkS (Z : Zt) : Prop := ∀ k, k < 8 → OkH (Z.2.1.1 k) (Z.2.1.2.1 k)
theorem OkS.no {Z : Zt} (h : OkS Z) (i : Nat) : OkS (zShelf Z i (-1) 0 (Z.2.1.2.2 i)) := fun k hk => by
  show OkH (if k = i then -1 else Z.2.1.1 k) (if k = i then 0 else Z.2.1.2.1 k)
  by_cases e : k = i
  · rw [if_pos e, if_pos e]; unfold OkH; omega
  · rw [if_neg e, if_neg e]; exact h k hk
theorem SSX2 {k : Nat} (hk : k < 8) : ∀ a, SS (38 + 2 * k) a → XC a := fun a h => by unfold SS at h; unfold XC; omega
theorem dX8_restore_0 : decode cX8_restore 0 = .ok (.aload_n 0, 1) := by decide +kernel
theorem dX8_restore_1 : decode cX8_restore 1 = .ok (.getfield 19, 3) := by decide +kernel
theorem dX8_restore_4 : decode cX8_restore 4 = .ok (.ifCond .ne 10, 3) := by decide +kernel
theorem dX8_restore_7 : decode cX8_restore 7 = .ok (.aload_n 0, 1) := by decide +kernel
theorem dX8_restore_8 : decode cX8_restore 8 = .ok (.bipush (-6), 2) := by decide +kernel
theorem dX8_restore_10 : decode cX8_restore 10 = .ok (.invokevirtual 76, 3) := by decide +kernel
theorem dX8_restore_13 : decode cX8_restore 13 = .ok (.ireturn, 1) := by decide +kernel
theorem dX8_restore_14 : decode cX8_restore 14 = .ok (.aload_n 0, 1) := by decide +kernel
theorem dX8_restore_15 : decode cX8_restore 15 = .ok (.getfield 10, 3) := by decide +kernel
theorem dX8_restore_18 : decode cX8_restore 18 = .ok (.aload_n 0, 1) := by decide +kernel
theorem dX8_restore_19 : decode cX8_restore 19 = .ok (.getfield 16, 3) := by decide +kernel
theorem dX8_restore_22 : decode cX8_restore 22 = .ok (.invokevirtual 232, 3) := by decide +kernel
theorem dX8_restore_25 : decode cX8_restore 25 = .ok (.iconst 0, 1) := by decide +kernel
theorem dX8_restore_26 : decode cX8_restore 26 = .ok (.istore_n 1, 1) := by decide +kernel
theorem dX8_restore_27 : decode cX8_restore 27 = .ok (.iload_n 1, 1) := by decide +kernel
theorem dX8_restore_28 : decode cX8_restore 28 = .ok (.bipush 8, 2) := by decide +kernel
theorem dX8_restore_30 : decode cX8_restore 30 = .ok (.if_icmp .ge 50, 3) := by decide +kernel
theorem dX8_restore_33 : decode cX8_restore 33 = .ok (.aload_n 0, 1) := by decide +kernel
theorem dX8_restore_34 : decode cX8_restore 34 = .ok (.getfield 25, 3) := by decide +kernel
theorem dX8_restore_37 : decode cX8_restore 37 = .ok (.iload_n 1, 1) := by decide +kernel
theorem dX8_restore_38 : decode cX8_restore 38 = .ok (.aaload, 1) := by decide +kernel
theorem dX8_restore_39 : decode cX8_restore 39 = .ok (.invokevirtual 363, 3) := by decide +kernel
theorem dX8_restore_42 : decode cX8_restore 42 = .ok (.ifCond .eq 32, 3) := by decide +kernel
theorem dX8_restore_45 : decode cX8_restore 45 = .ok (.aload_n 0, 1) := by decide +kernel
theorem dX8_restore_46 : decode cX8_restore 46 = .ok (.getfield 10, 3) := by decide +kernel
theorem dX8_restore_49 : decode cX8_restore 49 = .ok (.aload_n 0, 1) := by decide +kernel
theorem dX8_restore_50 : decode cX8_restore 50 = .ok (.getfield 25, 3) := by decide +kernel
theorem dX8_restore_53 : decode cX8_restore 53 = .ok (.iload_n 1, 1) := by decide +kernel
theorem dX8_restore_54 : decode cX8_restore 54 = .ok (.aaload, 1) := by decide +kernel
theorem dX8_restore_55 : decode cX8_restore 55 = .ok (.getfield 116, 3) := by decide +kernel
theorem dX8_restore_58 : decode cX8_restore 58 = .ok (.invokevirtual 109, 3) := by decide +kernel
theorem dX8_restore_61 : decode cX8_restore 61 = .ok (.ifCond .ne 13, 3) := by decide +kernel
theorem dX8_restore_64 : decode cX8_restore 64 = .ok (.aload_n 0, 1) := by decide +kernel
theorem dX8_restore_65 : decode cX8_restore 65 = .ok (.getfield 25, 3) := by decide +kernel
theorem dX8_restore_68 : decode cX8_restore 68 = .ok (.iload_n 1, 1) := by decide +kernel
theorem dX8_restore_69 : decode cX8_restore 69 = .ok (.aaload, 1) := by decide +kernel
theorem dX8_restore_70 : decode cX8_restore 70 = .ok (.iconst (-1), 1) := by decide +kernel
theorem dX8_restore_71 : decode cX8_restore 71 = .ok (.invokevirtual 112, 3) := by decide +kernel
theorem dX8_restore_74 : decode cX8_restore 74 = .ok (.iinc 1 1, 3) := by decide +kernel
theorem dX8_restore_77 : decode cX8_restore 77 = .ok (.goto (-50), 3) := by decide +kernel
theorem dX8_restore_80 : decode cX8_restore 80 = .ok (.aload_n 0, 1) := by decide +kernel
theorem dX8_restore_81 : decode cX8_restore 81 = .ok (.getfield 10, 3) := by decide +kernel
theorem dX8_restore_84 : decode cX8_restore 84 = .ok (.getfield 360, 3) := by decide +kernel
theorem dX8_restore_87 : decode cX8_restore 87 = .ok (.ireturn, 1) := by decide +kernel
set_option maxRecDepth 20000 in
theorem l_X8_restore {G : Gl} {d : Nat} {σ0 : Sg} {K : Option Value → Sg → Prop} {τ : Tw} (hT : OkT τ) : ∀ (n i : Nat) (Z : Zt) (σ : Sg), i + n = 8 → Z.1 = τ → RelX Z σ → OkS Z → Fr XC σ0 σ → (∀ υ, RelX (rstG τ n i Z) υ → Fr XC σ0 υ → K (some (.int (iI (τ.2.1 0)))) υ) → AW G (d + 2) RX8 cX8_restore 2 (some .int) 27 [(0, .ref (gA G 0)), (1, .int (iI (i : Int)))] [] σ K := by
  intro n
  induction n using Nat.strongRecOn
  rename_i n ih
  intro i Z σ hn hZt hZ hS hF hK
  have hT0 : RX 14 τ σ := by rw [← hZt]; exact hZ.1
  have o2 := hT.2.1
  have o3 := hT.2.2.1
  have pn : σ.1 14 1 = τ.2.1 0 := hT0.2.1 0 (by decide)
  refine A_iload_n (pc := 27) dX8_restore_27 rfl rfl ?_
  refine A_bipush (pc := 28) dX8_restore_28 (by decide) ?_
  refine A_icmp_ge (pc := 30) 80 dX8_restore_30 (by decide) (by omega) (by omega) (by omega) (by omega) (fun h30 => ?_) (fun h30 => ?_)
  · skip
    refine A_aload_n (pc := 80) dX8_restore_80 rfl rfl ?_
    refine A_getR (pc := 81) fX8_10 rfl rfl dX8_restore_81 ?_
    refine A_getIv (pc := 84) fX8_360 rfl rfl pn dX8_restore_84 ?_
    refine A_iret (pc := 87) rfl dX8_restore_87 ?_
    have hn0 : n = 0 := by omega
    subst hn0
    exact hK σ hZ hF
  · skip
    have i8 : i < 8 := by omega
    have ks := hZ.2.1 i i8
    have ko := hS i i8
    obtain ⟨b1, b2, b3, b4⟩ := id ko
    refine A_aload_n (pc := 33) dX8_restore_33 rfl rfl ?_
    refine A_getR (pc := 34) fX8_25 rfl rfl dX8_restore_34 ?_
    refine A_iload_n (pc := 37) dX8_restore_37 rfl rfl ?_
    refine A_aald (pc := 38) _ rfl rfl (by omega) (Nat.le_of_ble_eq_true rfl) dX8_restore_38 ?_
    refine A_callV1 (pc := 39) kX8_363 (shp_S (SCk (by omega))) rfl (c_X3_isPane (SCk i8) ks ko) dX8_restore_39 rfl rfl (Nat.le_of_ble_eq_true rfl) (Nat.le_of_ble_eq_true rfl) ?_
    refine A_ifb_eq (pc := 42) 74 dX8_restore_42 (by decide) (fun h42 => ?_) (fun h42 => ?_)
    · skip
      refine A_iinc (pc := 74) dX8_restore_74 rfl (Nat.le_of_ble_eq_true rfl) ?_
      refine A_goto (pc := 77) 27 dX8_restore_77 (by decide) ?_
      obtain ⟨u, rfl⟩ : ∃ u, n = u + 1 := ⟨n - 1, by omega⟩
      refine A_loc (l2 := [(0, _), (1, _)]) ⟨rfl, rfl, trivial⟩ ?_
      refine ih u (by omega) (i + 1) Z σ (by omega) hZt hZ hS hF (fun υ g1 g2 => hK υ (by rw [rstG_n (by omega)]; exact g1) g2)
    · skip
      refine A_aload_n (pc := 45) dX8_restore_45 rfl rfl ?_
      refine A_getR (pc := 46) fX8_10 rfl rfl dX8_restore_46 ?_
      refine A_aload_n (pc := 49) dX8_restore_49 rfl rfl ?_
      refine A_getR (pc := 50) fX8_25 rfl rfl dX8_restore_50 ?_
      refine A_iload_n (pc := 53) dX8_restore_53 rfl rfl ?_
      refine A_aald (pc := 54) _ rfl rfl (by omega) (Nat.le_of_ble_eq_true rfl) dX8_restore_54 ?_
      refine A_getIv (pc := 55) fX8_116 (shp_S (SCk (by omega))) rfl ks.1 dX8_restore_55 ?_
      refine A_callV1 (pc := 58) kX8_109 rfl rfl (c_X5_isPane TC14 hT0 hT (by omega) (by omega)) dX8_restore_58 rfl rfl (Nat.le_of_ble_eq_true rfl) (Nat.le_of_ble_eq_true rfl) ?_
      refine A_ifb_ne (pc := 61) 74 dX8_restore_61 (by decide) (fun h61 => ?_) (fun h61 => ?_)
      · skip
        refine A_iinc (pc := 74) dX8_restore_74 rfl (Nat.le_of_ble_eq_true rfl) ?_
        refine A_goto (pc := 77) 27 dX8_restore_77 (by decide) ?_
        obtain ⟨u, rfl⟩ : ∃ u, n = u + 1 := ⟨n - 1, by omega⟩
        refine A_loc (l2 := [(0, _), (1, _)]) ⟨rfl, rfl, trivial⟩ ?_
        refine ih u (by omega) (i + 1) Z σ (by omega) hZt hZ hS hF (fun υ g1 g2 => hK υ (by rw [rstG_n (by omega)]; exact g1) g2)
      · skip
        refine A_aload_n (pc := 64) dX8_restore_64 rfl rfl ?_
        refine A_getR (pc := 65) fX8_25 rfl rfl dX8_restore_65 ?_
        refine A_iload_n (pc := 68) dX8_restore_68 rfl rfl ?_
        refine A_aald (pc := 69) _ rfl rfl (by omega) (Nat.le_of_ble_eq_true rfl) dX8_restore_69 ?_
        refine A_iconst (pc := 70) dX8_restore_70 ?_
        refine A_callV0 (pc := 71) kX8_112 (shp_S (SCk (by omega))) rfl (c_X3_holdPane (SCk i8)) dX8_restore_71 rfl rfl (Nat.le_of_ble_eq_true rfl) (Nat.le_of_ble_eq_true rfl) ?_
        refine A_iinc (pc := 74) dX8_restore_74 rfl (Nat.le_of_ble_eq_true rfl) ?_
        refine A_goto (pc := 77) 27 dX8_restore_77 (by decide) ?_
        obtain ⟨u, rfl⟩ : ∃ u, n = u + 1 := ⟨n - 1, by omega⟩
        refine A_loc (l2 := [(0, _), (1, _)]) ⟨rfl, rfl, trivial⟩ ?_
        have hFs : Fr (SS (38 + 2 * i)) σ (uI (uI σ (38 + 2 * i) 0 (-1)) (38 + 2 * i) 1 0) := (Fr.rf.uI (Or.inl rfl)).uI (Or.inl rfl)
        have hRS : RS (38 + 2 * i) (-1) 0 (Z.2.1.2.2 i) (uI (uI σ (38 + 2 * i) 0 (-1)) (38 + 2 * i) 1 0) := ⟨by rw [uI_at, if_neg (by omega), uI_at, if_pos ⟨rfl, rfl⟩], by rw [uI_at, if_pos ⟨rfl, rfl⟩], fun x hx => ks.2.2 x hx⟩
        refine ih u (by omega) (i + 1) (zShelf Z i (-1) 0 (Z.2.1.2.2 i)) _ (by omega) hZt (hZ.shelf i8 hRS hFs) (hS.no i) (hF.tr (hFs.mono (SSX2 i8))) (fun ω g1 g2 => hK ω (by rw [rstG_y (by omega)]; exact g1) g2)
set_option maxRecDepth 20000 in
theorem c_X8_restore {G : Gl} {d : Nat} {σ : Sg} {Z : Zt} (hZ : RelX Z σ) (hO : OkZ Z) : CT G (d + 2) yX8_restore cX8_restore 2 (some .int) [.ref (gA G 0)] σ (RE (some (.int (iI (qRestore Z).1))) (fun υ => RelX (qRestore Z).2 υ ∧ Fr XC σ υ)) := by
  refine CT.of (by decide +kernel) (Nat.le_of_ble_eq_true rfl) ?_
  change AW G _ RX8 _ _ _ 0 [(0, .ref (gA G 0))] [] _ _
  refine A_aload_n (pc := 0) dX8_restore_0 rfl rfl ?_
  refine A_getIv (pc := 1) fX8_19 rfl rfl hZ.2.2.1.1 dX8_restore_1 ?_
  refine A_ifb_ne (pc := 4) 14 dX8_restore_4 (by decide) (fun h4 => ?_) (fun h4 => ?_)
  · skip
    refine A_aload_n (pc := 14) dX8_restore_14 rfl rfl ?_
    refine A_getR (pc := 15) fX8_10 rfl rfl dX8_restore_15 ?_
    refine A_aload_n (pc := 18) dX8_restore_18 rfl rfl ?_
    refine A_getR (pc := 19) fX8_16 rfl rfl dX8_restore_19 ?_
    refine A_callVe0 (pc := 22) kX8_232 rfl rfl (c_X5_become TC14 (Or.inr (Or.inl rfl)) (by decide) (hZ.2.2.1.2 h4) (hO.2.2.1 h4)) dX8_restore_22 rfl rfl (Nat.le_of_ble_eq_true rfl) (Nat.le_of_ble_eq_true rfl) (fun υ hυ => ?_)
    refine A_iconst (pc := 25) dX8_restore_25 ?_
    refine A_istore_n (pc := 26) dX8_restore_26 rfl (Nat.le_of_ble_eq_true rfl) ?_
    refine A_loc (l2 := [(0, _), (1, _)]) ⟨rfl, rfl, trivial⟩ ?_
    have hOk := hO.2.2.1 h4
    refine l_X8_restore hOk 8 0 (zTw Z Z.2.2.1.2) υ rfl rfl (hZ.town hυ.1 hυ.2) (fun k hk => (hO.2.1 k hk).1) (hυ.2.mono TSX) (fun ω g1 g2 => ?_)
    exact RQX (by unfold qRestore; rw [if_pos h4]) g1 g2
  · skip
    refine A_aload_n (pc := 7) dX8_restore_7 rfl rfl ?_
    refine A_bipush (pc := 8) dX8_restore_8 (by decide) ?_
    refine A_callVe (pc := 10) kX8_76 rfl rfl (c_X8_refuse hZ hO (t := -6) (by omega) (by omega)) dX8_restore_10 rfl rfl (Nat.le_of_ble_eq_true rfl) (Nat.le_of_ble_eq_true rfl) (fun υ hυ => ?_)
    refine A_iret (pc := 13) rfl dX8_restore_13 ?_
    exact RQX (by unfold qRestore; rw [if_neg h4]; rfl) hυ.1 (hυ.2.mono XC2)
