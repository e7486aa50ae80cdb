/-! PART 47: the class's items read; its town -/
def SRd : Nat → Prop := fun a => a = 3 ∨ TS 30 a
theorem S3T : ∀ a, S3 a → ¬ (30 ≤ a ∧ a < 30 + 8) := fun a z => by have z2 : a = 3 := z; omega
theorem S3R : ∀ a, S3 a → SRd a := fun a z => Or.inl z
theorem T30_3 : ¬ TS 30 3 := fun z => by unfold TS at z; omega
theorem T30_4 : ¬ TS 30 4 := fun z => by unfold TS at z; omega
theorem dX2_readHouse_0 : decode cX2_readHouse 0 = .ok (.aload_n 0, 1) := by decide +kernel
theorem dX2_readHouse_1 : decode cX2_readHouse 1 = .ok (.ldc 78, 2) := by decide +kernel
theorem dX2_readHouse_3 : decode cX2_readHouse 3 = .ok (.invokevirtual 80, 3) := by decide +kernel
theorem dX2_readHouse_6 : decode cX2_readHouse 6 = .ok (.aload_n 0, 1) := by decide +kernel
theorem dX2_readHouse_7 : decode cX2_readHouse 7 = .ok (.invokevirtual 84, 3) := by decide +kernel
theorem dX2_readHouse_10 : decode cX2_readHouse 10 = .ok (.istore_n 1, 1) := by decide +kernel
theorem dX2_readHouse_11 : decode cX2_readHouse 11 = .ok (.aload_n 0, 1) := by decide +kernel
theorem dX2_readHouse_12 : decode cX2_readHouse 12 = .ok (.iload_n 1, 1) := by decide +kernel
theorem dX2_readHouse_13 : decode cX2_readHouse 13 = .ok (.invokestatic 87, 3) := by decide +kernel
theorem dX2_readHouse_16 : decode cX2_readHouse 16 = .ok (.ifCond .eq 18, 3) := by decide +kernel
theorem dX2_readHouse_19 : decode cX2_readHouse 19 = .ok (.aload_n 0, 1) := by decide +kernel
theorem dX2_readHouse_20 : decode cX2_readHouse 20 = .ok (.getfield 12, 3) := by decide +kernel
theorem dX2_readHouse_23 : decode cX2_readHouse 23 = .ok (.iload_n 1, 1) := by decide +kernel
theorem dX2_readHouse_24 : decode cX2_readHouse 24 = .ok (.invokevirtual 93, 3) := by decide +kernel
theorem dX2_readHouse_27 : decode cX2_readHouse 27 = .ok (.ifCond .ne 7, 3) := by decide +kernel
theorem dX2_readHouse_30 : decode cX2_readHouse 30 = .ok (.iconst 1, 1) := by decide +kernel
theorem dX2_readHouse_31 : decode cX2_readHouse 31 = .ok (.goto 4, 3) := by decide +kernel
theorem dX2_readHouse_34 : decode cX2_readHouse 34 = .ok (.iconst 0, 1) := by decide +kernel
theorem dX2_readHouse_35 : decode cX2_readHouse 35 = .ok (.invokevirtual 96, 3) := by decide +kernel
theorem dX2_readHouse_38 : decode cX2_readHouse 38 = .ok (.aload_n 0, 1) := by decide +kernel
theorem dX2_readHouse_39 : decode cX2_readHouse 39 = .ok (.getfield 18, 3) := by decide +kernel
theorem dX2_readHouse_42 : decode cX2_readHouse 42 = .ok (.iconst (-1), 1) := by decide +kernel
theorem dX2_readHouse_43 : decode cX2_readHouse 43 = .ok (.if_icmp .ne 12, 3) := by decide +kernel
theorem dX2_readHouse_46 : decode cX2_readHouse 46 = .ok (.aload_n 0, 1) := by decide +kernel
theorem dX2_readHouse_47 : decode cX2_readHouse 47 = .ok (.getfield 12, 3) := by decide +kernel
theorem dX2_readHouse_50 : decode cX2_readHouse 50 = .ok (.iload_n 1, 1) := by decide +kernel
theorem dX2_readHouse_51 : decode cX2_readHouse 51 = .ok (.iconst 1, 1) := by decide +kernel
theorem dX2_readHouse_52 : decode cX2_readHouse 52 = .ok (.invokevirtual 100, 3) := by decide +kernel
theorem dX2_readHouse_55 : decode cX2_readHouse 55 = .ok (.return_, 1) := by decide +kernel
set_option maxRecDepth 20000 in
theorem c_X2_readHouse {G : Gl} {d : Nat} {σ : Sg} {l : Nat → Int} {s : Int} {p : Int} {τ : Tw} (h : OkX l s p σ) (hR : RX 30 τ σ) (hO : OkT τ) : CT G (d + 5) yX2_readHouse cX2_readHouse 2 none [.ref (gA G 3)] σ (RE none (fun υ => RdX l s (itH (gS l s) τ p).1 υ ∧ RX 30 (itH (gS l s) τ p).2 υ ∧ Fr SRd σ υ)) := by
  refine CT.of (by decide +kernel) (Nat.le_of_ble_eq_true rfl) ?_
  change AW G _ RX2 _ _ _ 0 [(0, .ref (gA G 3))] [] _ _
  refine A_aload_n (pc := 0) dX2_readHouse_0 rfl rfl ?_
  refine A_ldcS (pc := 1) (List.mem_of_getElem? (i := 0) rfl) dX2_readHouse_1 ?_
  refine A_callVe0 (pc := 3) kX2_80 rfl rfl (c_X2_expectWord h.rdx (i := 0) (by decide)) dX2_readHouse_3 rfl rfl (Nat.le_of_ble_eq_true rfl) (Nat.le_of_ble_eq_true rfl) (fun υ hυ => ?_)
  have w1 : RdX l s (wdF (gS l s) 0 5 0 p) υ := hυ.1
  refine A_aload_n (pc := 6) dX2_readHouse_6 rfl rfl ?_
  refine A_callVe (pc := 7) kX2_84 rfl rfl (c_X2_readNumber w1) dX2_readHouse_7 rfl rfl (Nat.le_of_ble_eq_true rfl) (Nat.le_of_ble_eq_true rfl) (fun ω hω => ?_)
  have hR2 : RX 30 τ ω := hR.fr (hυ.2.tr hω.2.1) S3T
  have nv := nuV_rng (g := (gS l s)) (r := (wdF (gS l s) 0 5 0 p))
  refine A_istore_n (pc := 10) dX2_readHouse_10 rfl (Nat.le_of_ble_eq_true rfl) ?_
  refine A_aload_n (pc := 11) dX2_readHouse_11 rfl rfl ?_
  refine A_iload_n (pc := 12) dX2_readHouse_12 rfl rfl ?_
  refine A_callS1 (pc := 13) kX2_87 (c_X0_isSquare (by omega) (by omega)) dX2_readHouse_13 rfl rfl (Nat.le_of_ble_eq_true rfl) (Nat.le_of_ble_eq_true rfl) ?_
  refine A_ifb_eq (pc := 16) 34 dX2_readHouse_16 (by decide) (fun h16 => ?_) (fun h16 => ?_)
  · skip
    refine A_iconst (pc := 34) dX2_readHouse_34 ?_
    refine A_callVe0 (pc := 35) kX2_96 rfl rfl (c_X2_allow (P := inS (nuV (gS l s) (wdF (gS l s) 0 5 0 p)) ∧ ¬ wAt τ (nuV (gS l s) (wdF (gS l s) 0 5 0 p)) = true) hω.1 hω.2.2 (by have z := w1.2.1; omega) (fun z => by have z2 := (thn_bd (l := l) w1.2.1.1 w1.2.1.2).2.2.2 z; omega) (bI_f (fun z => h16 z.1)).symm) dX2_readHouse_35 rfl rfl (Nat.le_of_ble_eq_true rfl) (Nat.le_of_ble_eq_true rfl) (fun χ hχ => ?_)
    have hA : RdX l s (hR1 (gS l s) τ p) χ := hχ.1
    have fa := fltV_rng hA
    have hF := (hυ.2.tr hω.2.1).tr hχ.2
    have hR3 : RX 30 τ χ := hR.fr hF S3T
    refine A_aload_n (pc := 38) dX2_readHouse_38 rfl rfl ?_
    refine A_getIv (pc := 39) fX2_18 rfl rfl hA.flt dX2_readHouse_39 ?_
    refine A_iconst (pc := 42) dX2_readHouse_42 ?_
    refine A_icmp_ne (pc := 43) 55 dX2_readHouse_43 (by decide) (by omega) (by omega) (by omega) (by omega) (fun h43 => ?_) (fun h43 => ?_)
    · skip
      refine A_vret (pc := 55) rfl dX2_readHouse_55 ?_
      have q := fltV_bad h43
      have e : (itH (gS l s) τ p).2 = τ := by
        show (if (hR1 (gS l s) τ p).1 = true then _ else τ) = τ
        rw [if_neg (by rw [q]; decide)]
      exact ⟨rfl, hA, by rw [e]; exact hR3, hF.mono S3R⟩
    · skip
      have q := fltV_ok hA h43
      refine A_aload_n (pc := 46) dX2_readHouse_46 rfl rfl ?_
      refine A_getR (pc := 47) fX2_12 rfl rfl dX2_readHouse_47 ?_
      refine A_iload_n (pc := 50) dX2_readHouse_50 rfl rfl ?_
      refine A_iconst (pc := 51) dX2_readHouse_51 ?_
      refine A_callVe0 (pc := 52) kX2_100 rfl rfl (c_X5_build TC30 hR3 hO (b := true) (by omega) (by omega)) dX2_readHouse_52 rfl rfl (Nat.le_of_ble_eq_true rfl) (Nat.le_of_ble_eq_true rfl) (fun ψ hψ => ?_)
      refine A_vret (pc := 55) rfl dX2_readHouse_55 ?_
      have e : (itH (gS l s) τ p).2 = tH τ (τ.1 ||| sqB (nuV (gS l s) (wdF (gS l s) 0 5 0 p))) := by
        show (if (hR1 (gS l s) τ p).1 = true then _ else τ) = _
        rw [if_pos q]
      exact ⟨rfl, hA.fr hψ.2 T30_3 T30_4, by rw [e]; exact hψ.1, (hF.mono S3R).tr (hψ.2.mono (fun a z => Or.inr z))⟩
  · skip
    refine A_aload_n (pc := 19) dX2_readHouse_19 rfl rfl ?_
    refine A_getR (pc := 20) fX2_12 rfl rfl dX2_readHouse_20 ?_
    refine A_iload_n (pc := 23) dX2_readHouse_23 rfl rfl ?_
    refine A_callV1 (pc := 24) kX2_93 rfl rfl (c_X5_isSomebodyAt TC30 hR2 hO (by omega) (by omega)) dX2_readHouse_24 rfl rfl (Nat.le_of_ble_eq_true rfl) (Nat.le_of_ble_eq_true rfl) ?_
    refine A_ifb_ne (pc := 27) 34 dX2_readHouse_27 (by decide) (fun h27 => ?_) (fun h27 => ?_)
    · skip
      refine A_iconst (pc := 34) dX2_readHouse_34 ?_
      refine A_callVe0 (pc := 35) kX2_96 rfl rfl (c_X2_allow (P := inS (nuV (gS l s) (wdF (gS l s) 0 5 0 p)) ∧ ¬ wAt τ (nuV (gS l s) (wdF (gS l s) 0 5 0 p)) = true) hω.1 hω.2.2 (by have z := w1.2.1; omega) (fun z => by have z2 := (thn_bd (l := l) w1.2.1.1 w1.2.1.2).2.2.2 z; omega) (bI_f (fun z => z.2 h27)).symm) dX2_readHouse_35 rfl rfl (Nat.le_of_ble_eq_true rfl) (Nat.le_of_ble_eq_true rfl) (fun χ hχ => ?_)
      have hA : RdX l s (hR1 (gS l s) τ p) χ := hχ.1
      have fa := fltV_rng hA
      have hF := (hυ.2.tr hω.2.1).tr hχ.2
      have hR3 : RX 30 τ χ := hR.fr hF S3T
      refine A_aload_n (pc := 38) dX2_readHouse_38 rfl rfl ?_
      refine A_getIv (pc := 39) fX2_18 rfl rfl hA.flt dX2_readHouse_39 ?_
      refine A_iconst (pc := 42) dX2_readHouse_42 ?_
      refine A_icmp_ne (pc := 43) 55 dX2_readHouse_43 (by decide) (by omega) (by omega) (by omega) (by omega) (fun h43 => ?_) (fun h43 => ?_)
      · skip
        refine A_vret (pc := 55) rfl dX2_readHouse_55 ?_
        have q := fltV_bad h43
        have e : (itH (gS l s) τ p).2 = τ := by
          show (if (hR1 (gS l s) τ p).1 = true then _ else τ) = τ
          rw [if_neg (by rw [q]; decide)]
        exact ⟨rfl, hA, by rw [e]; exact hR3, hF.mono S3R⟩
      · skip
        have q := fltV_ok hA h43
        refine A_aload_n (pc := 46) dX2_readHouse_46 rfl rfl ?_
        refine A_getR (pc := 47) fX2_12 rfl rfl dX2_readHouse_47 ?_
        refine A_iload_n (pc := 50) dX2_readHouse_50 rfl rfl ?_
        refine A_iconst (pc := 51) dX2_readHouse_51 ?_
        refine A_callVe0 (pc := 52) kX2_100 rfl rfl (c_X5_build TC30 hR3 hO (b := true) (by omega) (by omega)) dX2_readHouse_52 rfl rfl (Nat.le_of_ble_eq_true rfl) (Nat.le_of_ble_eq_true rfl) (fun ψ hψ => ?_)
        refine A_vret (pc := 55) rfl dX2_readHouse_55 ?_
        have e : (itH (gS l s) τ p).2 = tH τ (τ.1 ||| sqB (nuV (gS l s) (wdF (gS l s) 0 5 0 p))) := by
          show (if (hR1 (gS l s) τ p).1 = true then _ else τ) = _
          rw [if_pos q]
        exact ⟨rfl, hA.fr hψ.2 T30_3 T30_4, by rw [e]; exact hψ.1, (hF.mono S3R).tr (hψ.2.mono (fun a z => Or.inr z))⟩
    · skip
      refine A_iconst (pc := 30) dX2_readHouse_30 ?_
      refine A_goto (pc := 31) 35 dX2_readHouse_31 (by decide) ?_
      refine A_callVe0 (pc := 35) kX2_96 rfl rfl (c_X2_allow (P := inS (nuV (gS l s) (wdF (gS l s) 0 5 0 p)) ∧ ¬ wAt τ (nuV (gS l s) (wdF (gS l s) 0 5 0 p)) = true) hω.1 hω.2.2 (by have z := w1.2.1; omega) (fun z => by have z2 := (thn_bd (l := l) w1.2.1.1 w1.2.1.2).2.2.2 z; omega) (bI_t ⟨h16, h27⟩).symm) dX2_readHouse_35 rfl rfl (Nat.le_of_ble_eq_true rfl) (Nat.le_of_ble_eq_true rfl) (fun χ hχ => ?_)
      have hA : RdX l s (hR1 (gS l s) τ p) χ := hχ.1
      have fa := fltV_rng hA
      have hF := (hυ.2.tr hω.2.1).tr hχ.2
      have hR3 : RX 30 τ χ := hR.fr hF S3T
      refine A_aload_n (pc := 38) dX2_readHouse_38 rfl rfl ?_
      refine A_getIv (pc := 39) fX2_18 rfl rfl hA.flt dX2_readHouse_39 ?_
      refine A_iconst (pc := 42) dX2_readHouse_42 ?_
      refine A_icmp_ne (pc := 43) 55 dX2_readHouse_43 (by decide) (by omega) (by omega) (by omega) (by omega) (fun h43 => ?_) (fun h43 => ?_)
      · skip
        refine A_vret (pc := 55) rfl dX2_readHouse_55 ?_
        have q := fltV_bad h43
        have e : (itH (gS l s) τ p).2 = τ := by
          show (if (hR1 (gS l s) τ p).1 = true then _ else τ) = τ
          rw [if_neg (by rw [q]; decide)]
        exact ⟨rfl, hA, by rw [e]; exact hR3, hF.mono S3R⟩
      · skip
        have q := fltV_ok hA h43
        refine A_aload_n (pc := 46) dX2_readHouse_46 rfl rfl ?_
        refine A_getR (pc := 47) fX2_12 rfl rfl dX2_readHouse_47 ?_
        refine A_iload_n (pc := 50) dX2_readHouse_50 rfl rfl ?_
        refine A_iconst (pc := 51) dX2_readHouse_51 ?_
        refine A_callVe0 (pc := 52) kX2_100 rfl rfl (c_X5_build TC30 hR3 hO (b := true) (by omega) (by omega)) dX2_readHouse_52 rfl rfl (Nat.le_of_ble_eq_true rfl) (Nat.le_of_ble_eq_true rfl) (fun ψ hψ => ?_)
        refine A_vret (pc := 55) rfl dX2_readHouse_55 ?_
        have e : (itH (gS l s) τ p).2 = tH τ (τ.1 ||| sqB (nuV (gS l s) (wdF (gS l s) 0 5 0 p))) := by
          show (if (hR1 (gS l s) τ p).1 = true then _ else τ) = _
          rw [if_pos q]
        exact ⟨rfl, hA.fr hψ.2 T30_3 T30_4, by rw [e]; exact hψ.1, (hF.mono S3R).tr (hψ.2.mono (fun a z => Or.inr z))⟩
theorem dX2_readYard_0 : decode cX2_readYard 0 = .ok (.aload_n 0, 1) := by decide +kernel
theorem dX2_readYard_1 : decode cX2_readYard 1 = .ok (.ldc 104, 2) := by decide +kernel
theorem dX2_readYard_3 : decode cX2_readYard 3 = .ok (.invokevirtual 80, 3) := by decide +kernel
theorem dX2_readYard_6 : decode cX2_readYard 6 = .ok (.aload_n 0, 1) := by decide +kernel
theorem dX2_readYard_7 : decode cX2_readYard 7 = .ok (.invokevirtual 84, 3) := by decide +kernel
theorem dX2_readYard_10 : decode cX2_readYard 10 = .ok (.istore_n 1, 1) := by decide +kernel
theorem dX2_readYard_11 : decode cX2_readYard 11 = .ok (.aload_n 0, 1) := by decide +kernel
theorem dX2_readYard_12 : decode cX2_readYard 12 = .ok (.iload_n 1, 1) := by decide +kernel
theorem dX2_readYard_13 : decode cX2_readYard 13 = .ok (.invokestatic 87, 3) := by decide +kernel
theorem dX2_readYard_16 : decode cX2_readYard 16 = .ok (.ifCond .eq 18, 3) := by decide +kernel
theorem dX2_readYard_19 : decode cX2_readYard 19 = .ok (.aload_n 0, 1) := by decide +kernel
theorem dX2_readYard_20 : decode cX2_readYard 20 = .ok (.getfield 12, 3) := by decide +kernel
theorem dX2_readYard_23 : decode cX2_readYard 23 = .ok (.iload_n 1, 1) := by decide +kernel
theorem dX2_readYard_24 : decode cX2_readYard 24 = .ok (.invokevirtual 106, 3) := by decide +kernel
theorem dX2_readYard_27 : decode cX2_readYard 27 = .ok (.ifCond .ne 7, 3) := by decide +kernel
theorem dX2_readYard_30 : decode cX2_readYard 30 = .ok (.iconst 1, 1) := by decide +kernel
theorem dX2_readYard_31 : decode cX2_readYard 31 = .ok (.goto 4, 3) := by decide +kernel
theorem dX2_readYard_34 : decode cX2_readYard 34 = .ok (.iconst 0, 1) := by decide +kernel
theorem dX2_readYard_35 : decode cX2_readYard 35 = .ok (.invokevirtual 96, 3) := by decide +kernel
theorem dX2_readYard_38 : decode cX2_readYard 38 = .ok (.aload_n 0, 1) := by decide +kernel
theorem dX2_readYard_39 : decode cX2_readYard 39 = .ok (.getfield 18, 3) := by decide +kernel
theorem dX2_readYard_42 : decode cX2_readYard 42 = .ok (.iconst (-1), 1) := by decide +kernel
theorem dX2_readYard_43 : decode cX2_readYard 43 = .ok (.if_icmp .ne 12, 3) := by decide +kernel
theorem dX2_readYard_46 : decode cX2_readYard 46 = .ok (.aload_n 0, 1) := by decide +kernel
theorem dX2_readYard_47 : decode cX2_readYard 47 = .ok (.getfield 12, 3) := by decide +kernel
theorem dX2_readYard_50 : decode cX2_readYard 50 = .ok (.iload_n 1, 1) := by decide +kernel
theorem dX2_readYard_51 : decode cX2_readYard 51 = .ok (.iconst 0, 1) := by decide +kernel
theorem dX2_readYard_52 : decode cX2_readYard 52 = .ok (.invokevirtual 100, 3) := by decide +kernel
theorem dX2_readYard_55 : decode cX2_readYard 55 = .ok (.return_, 1) := by decide +kernel
set_option maxRecDepth 20000 in
theorem c_X2_readYard {G : Gl} {d : Nat} {σ : Sg} {l : Nat → Int} {s : Int} {p : Int} {τ : Tw} (h : OkX l s p σ) (hR : RX 30 τ σ) (hO : OkT τ) : CT G (d + 5) yX2_readYard cX2_readYard 2 none [.ref (gA G 3)] σ (RE none (fun υ => RdX l s (itY (gS l s) τ p).1 υ ∧ RX 30 (itY (gS l s) τ p).2 υ ∧ Fr SRd σ υ)) := by
  refine CT.of (by decide +kernel) (Nat.le_of_ble_eq_true rfl) ?_
  change AW G _ RX2 _ _ _ 0 [(0, .ref (gA G 3))] [] _ _
  refine A_aload_n (pc := 0) dX2_readYard_0 rfl rfl ?_
  refine A_ldcS (pc := 1) (List.mem_of_getElem? (i := 1) rfl) dX2_readYard_1 ?_
  refine A_callVe0 (pc := 3) kX2_80 rfl rfl (c_X2_expectWord h.rdx (i := 1) (by decide)) dX2_readYard_3 rfl rfl (Nat.le_of_ble_eq_true rfl) (Nat.le_of_ble_eq_true rfl) (fun υ hυ => ?_)
  have w1 : RdX l s (wdF (gS l s) 1 4 0 p) υ := hυ.1
  refine A_aload_n (pc := 6) dX2_readYard_6 rfl rfl ?_
  refine A_callVe (pc := 7) kX2_84 rfl rfl (c_X2_readNumber w1) dX2_readYard_7 rfl rfl (Nat.le_of_ble_eq_true rfl) (Nat.le_of_ble_eq_true rfl) (fun ω hω => ?_)
  have hR2 : RX 30 τ ω := hR.fr (hυ.2.tr hω.2.1) S3T
  have nv := nuV_rng (g := (gS l s)) (r := (wdF (gS l s) 1 4 0 p))
  refine A_istore_n (pc := 10) dX2_readYard_10 rfl (Nat.le_of_ble_eq_true rfl) ?_
  refine A_aload_n (pc := 11) dX2_readYard_11 rfl rfl ?_
  refine A_iload_n (pc := 12) dX2_readYard_12 rfl rfl ?_
  refine A_callS1 (pc := 13) kX2_87 (c_X0_isSquare (by omega) (by omega)) dX2_readYard_13 rfl rfl (Nat.le_of_ble_eq_true rfl) (Nat.le_of_ble_eq_true rfl) ?_
  refine A_ifb_eq (pc := 16) 34 dX2_readYard_16 (by decide) (fun h16 => ?_) (fun h16 => ?_)
  · skip
    refine A_iconst (pc := 34) dX2_readYard_34 ?_
    refine A_callVe0 (pc := 35) kX2_96 rfl rfl (c_X2_allow (P := inS (nuV (gS l s) (wdF (gS l s) 1 4 0 p)) ∧ ¬ pAt τ (nuV (gS l s) (wdF (gS l s) 1 4 0 p)) = true) hω.1 hω.2.2 (by have z := w1.2.1; omega) (fun z => by have z2 := (thn_bd (l := l) w1.2.1.1 w1.2.1.2).2.2.2 z; omega) (bI_f (fun z => h16 z.1)).symm) dX2_readYard_35 rfl rfl (Nat.le_of_ble_eq_true rfl) (Nat.le_of_ble_eq_true rfl) (fun χ hχ => ?_)
    have hA : RdX l s (yR1 (gS l s) τ p) χ := hχ.1
    have fa := fltV_rng hA
    have hF := (hυ.2.tr hω.2.1).tr hχ.2
    have hR3 : RX 30 τ χ := hR.fr hF S3T
    refine A_aload_n (pc := 38) dX2_readYard_38 rfl rfl ?_
    refine A_getIv (pc := 39) fX2_18 rfl rfl hA.flt dX2_readYard_39 ?_
    refine A_iconst (pc := 42) dX2_readYard_42 ?_
    refine A_icmp_ne (pc := 43) 55 dX2_readYard_43 (by decide) (by omega) (by omega) (by omega) (by omega) (fun h43 => ?_) (fun h43 => ?_)
    · skip
      refine A_vret (pc := 55) rfl dX2_readYard_55 ?_
      have q := fltV_bad h43
      have e : (itY (gS l s) τ p).2 = τ := by
        show (if (yR1 (gS l s) τ p).1 = true then _ else τ) = τ
        rw [if_neg (by rw [q]; decide)]
      exact ⟨rfl, hA, by rw [e]; exact hR3, hF.mono S3R⟩
    · skip
      have q := fltV_ok hA h43
      refine A_aload_n (pc := 46) dX2_readYard_46 rfl rfl ?_
      refine A_getR (pc := 47) fX2_12 rfl rfl dX2_readYard_47 ?_
      refine A_iload_n (pc := 50) dX2_readYard_50 rfl rfl ?_
      refine A_iconst (pc := 51) dX2_readYard_51 ?_
      refine A_callVe0 (pc := 52) kX2_100 rfl rfl (c_X5_build TC30 hR3 hO (b := false) (by omega) (by omega)) dX2_readYard_52 rfl rfl (Nat.le_of_ble_eq_true rfl) (Nat.le_of_ble_eq_true rfl) (fun ψ hψ => ?_)
      refine A_vret (pc := 55) rfl dX2_readYard_55 ?_
      have e : (itY (gS l s) τ p).2 = tH τ (nB τ.1 (sqB (nuV (gS l s) (wdF (gS l s) 1 4 0 p)))) := by
        show (if (yR1 (gS l s) τ p).1 = true then _ else τ) = _
        rw [if_pos q]
      exact ⟨rfl, hA.fr hψ.2 T30_3 T30_4, by rw [e]; exact hψ.1, (hF.mono S3R).tr (hψ.2.mono (fun a z => Or.inr z))⟩
  · skip
    refine A_aload_n (pc := 19) dX2_readYard_19 rfl rfl ?_
    refine A_getR (pc := 20) fX2_12 rfl rfl dX2_readYard_20 ?_
    refine A_iload_n (pc := 23) dX2_readYard_23 rfl rfl ?_
    refine A_callV1 (pc := 24) kX2_106 rfl rfl (c_X5_isPaneAt TC30 hR2 hO (by omega) (by omega)) dX2_readYard_24 rfl rfl (Nat.le_of_ble_eq_true rfl) (Nat.le_of_ble_eq_true rfl) ?_
    refine A_ifb_ne (pc := 27) 34 dX2_readYard_27 (by decide) (fun h27 => ?_) (fun h27 => ?_)
    · skip
      refine A_iconst (pc := 34) dX2_readYard_34 ?_
      refine A_callVe0 (pc := 35) kX2_96 rfl rfl (c_X2_allow (P := inS (nuV (gS l s) (wdF (gS l s) 1 4 0 p)) ∧ ¬ pAt τ (nuV (gS l s) (wdF (gS l s) 1 4 0 p)) = true) hω.1 hω.2.2 (by have z := w1.2.1; omega) (fun z => by have z2 := (thn_bd (l := l) w1.2.1.1 w1.2.1.2).2.2.2 z; omega) (bI_f (fun z => z.2 h27)).symm) dX2_readYard_35 rfl rfl (Nat.le_of_ble_eq_true rfl) (Nat.le_of_ble_eq_true rfl) (fun χ hχ => ?_)
      have hA : RdX l s (yR1 (gS l s) τ p) χ := hχ.1
      have fa := fltV_rng hA
      have hF := (hυ.2.tr hω.2.1).tr hχ.2
      have hR3 : RX 30 τ χ := hR.fr hF S3T
      refine A_aload_n (pc := 38) dX2_readYard_38 rfl rfl ?_
      refine A_getIv (pc := 39) fX2_18 rfl rfl hA.flt dX2_readYard_39 ?_
      refine A_iconst (pc := 42) dX2_readYard_42 ?_
      refine A_icmp_ne (pc := 43) 55 dX2_readYard_43 (by decide) (by omega) (by omega) (by omega) (by omega) (fun h43 => ?_) (fun h43 => ?_)
      · skip
        refine A_vret (pc := 55) rfl dX2_readYard_55 ?_
        have q := fltV_bad h43
        have e : (itY (gS l s) τ p).2 = τ := by
          show (if (yR1 (gS l s) τ p).1 = true then _ else τ) = τ
          rw [if_neg (by rw [q]; decide)]
        exact ⟨rfl, hA, by rw [e]; exact hR3, hF.mono S3R⟩
      · skip
        have q := fltV_ok hA h43
        refine A_aload_n (pc := 46) dX2_readYard_46 rfl rfl ?_
        refine A_getR (pc := 47) fX2_12 rfl rfl dX2_readYard_47 ?_
        refine A_iload_n (pc := 50) dX2_readYard_50 rfl rfl ?_
        refine A_iconst (pc := 51) dX2_readYard_51 ?_
        refine A_callVe0 (pc := 52) kX2_100 rfl rfl (c_X5_build TC30 hR3 hO (b := false) (by omega) (by omega)) dX2_readYard_52 rfl rfl (Nat.le_of_ble_eq_true rfl) (Nat.le_of_ble_eq_true rfl) (fun ψ hψ => ?_)
        refine A_vret (pc := 55) rfl dX2_readYard_55 ?_
        have e : (itY (gS l s) τ p).2 = tH τ (nB τ.1 (sqB (nuV (gS l s) (wdF (gS l s) 1 4 0 p)))) := by
          show (if (yR1 (gS l s) τ p).1 = true then _ else τ) = _
          rw [if_pos q]
        exact ⟨rfl, hA.fr hψ.2 T30_3 T30_4, by rw [e]; exact hψ.1, (hF.mono S3R).tr (hψ.2.mono (fun a z => Or.inr z))⟩
    · skip
      refine A_iconst (pc := 30) dX2_readYard_30 ?_
      refine A_goto (pc := 31) 35 dX2_readYard_31 (by decide) ?_
      refine A_callVe0 (pc := 35) kX2_96 rfl rfl (c_X2_allow (P := inS (nuV (gS l s) (wdF (gS l s) 1 4 0 p)) ∧ ¬ pAt τ (nuV (gS l s) (wdF (gS l s) 1 4 0 p)) = true) hω.1 hω.2.2 (by have z := w1.2.1; omega) (fun z => by have z2 := (thn_bd (l := l) w1.2.1.1 w1.2.1.2).2.2.2 z; omega) (bI_t ⟨h16, h27⟩).symm) dX2_readYard_35 rfl rfl (Nat.le_of_ble_eq_true rfl) (Nat.le_of_ble_eq_true rfl) (fun χ hχ => ?_)
      have hA : RdX l s (yR1 (gS l s) τ p) χ := hχ.1
      have fa := fltV_rng hA
      have hF := (hυ.2.tr hω.2.1).tr hχ.2
      have hR3 : RX 30 τ χ := hR.fr hF S3T
      refine A_aload_n (pc := 38) dX2_readYard_38 rfl rfl ?_
      refine A_getIv (pc := 39) fX2_18 rfl rfl hA.flt dX2_readYard_39 ?_
      refine A_iconst (pc := 42) dX2_readYard_42 ?_
      refine A_icmp_ne (pc := 43) 55 dX2_readYard_43 (by decide) (by omega) (by omega) (by omega) (by omega) (fun h43 => ?_) (fun h43 => ?_)
      · skip
        refine A_vret (pc := 55) rfl dX2_readYard_55 ?_
        have q := fltV_bad h43
        have e : (itY (gS l s) τ p).2 = τ := by
          show (if (yR1 (gS l s) τ p).1 = true then _ else τ) = τ
          rw [if_neg (by rw [q]; decide)]
        exact ⟨rfl, hA, by rw [e]; exact hR3, hF.mono S3R⟩
      · skip
        have q := fltV_ok hA h43
        refine A_aload_n (pc := 46) dX2_readYard_46 rfl rfl ?_
        refine A_getR (pc := 47) fX2_12 rfl rfl dX2_readYard_47 ?_
        refine A_iload_n (pc := 50) dX2_readYard_50 rfl rfl ?_
        refine A_iconst (pc := 51) dX2_readYard_51 ?_
        refine A_callVe0 (pc := 52) kX2_100 rfl rfl (c_X5_build TC30 hR3 hO (b := false) (by omega) (by omega)) dX2_readYard_52 rfl rfl (Nat.le_of_ble_eq_true rfl) (Nat.le_of_ble_eq_true rfl) (fun ψ hψ => ?_)
        refine A_vret (pc := 55) rfl dX2_readYard_55 ?_
        have e : (itY (gS l s) τ p).2 = tH τ (nB τ.1 (sqB (nuV (gS l s) (wdF (gS l s) 1 4 0 p)))) := by
          show (if (yR1 (gS l s) τ p).1 = true then _ else τ) = _
          rw [if_pos q]
        exact ⟨rfl, hA.fr hψ.2 T30_3 T30_4, by rw [e]; exact hψ.1, (hF.mono S3R).tr (hψ.2.mono (fun a z => Or.inr z))⟩
theorem dX2_readReach_0 : decode cX2_readReach 0 = .ok (.aload_n 0, 1) := by decide +kernel
theorem dX2_readReach_1 : decode cX2_readReach 1 = .ok (.ldc 139, 2) := by decide +kernel
theorem dX2_readReach_3 : decode cX2_readReach 3 = .ok (.invokevirtual 80, 3) := by decide +kernel
theorem dX2_readReach_6 : decode cX2_readReach 6 = .ok (.aload_n 0, 1) := by decide +kernel
theorem dX2_readReach_7 : decode cX2_readReach 7 = .ok (.invokevirtual 84, 3) := by decide +kernel
theorem dX2_readReach_10 : decode cX2_readReach 10 = .ok (.istore_n 1, 1) := by decide +kernel
theorem dX2_readReach_11 : decode cX2_readReach 11 = .ok (.aload_n 0, 1) := by decide +kernel
theorem dX2_readReach_12 : decode cX2_readReach 12 = .ok (.iload_n 1, 1) := by decide +kernel
theorem dX2_readReach_13 : decode cX2_readReach 13 = .ok (.invokestatic 141, 3) := by decide +kernel
theorem dX2_readReach_16 : decode cX2_readReach 16 = .ok (.invokevirtual 96, 3) := by decide +kernel
theorem dX2_readReach_19 : decode cX2_readReach 19 = .ok (.aload_n 0, 1) := by decide +kernel
theorem dX2_readReach_20 : decode cX2_readReach 20 = .ok (.getfield 18, 3) := by decide +kernel
theorem dX2_readReach_23 : decode cX2_readReach 23 = .ok (.iconst (-1), 1) := by decide +kernel
theorem dX2_readReach_24 : decode cX2_readReach 24 = .ok (.if_icmp .ne 11, 3) := by decide +kernel
theorem dX2_readReach_27 : decode cX2_readReach 27 = .ok (.aload_n 0, 1) := by decide +kernel
theorem dX2_readReach_28 : decode cX2_readReach 28 = .ok (.getfield 12, 3) := by decide +kernel
theorem dX2_readReach_31 : decode cX2_readReach 31 = .ok (.iload_n 1, 1) := by decide +kernel
theorem dX2_readReach_32 : decode cX2_readReach 32 = .ok (.putfield 144, 3) := by decide +kernel
theorem dX2_readReach_35 : decode cX2_readReach 35 = .ok (.return_, 1) := by decide +kernel
set_option maxRecDepth 20000 in
theorem c_X2_readReach {G : Gl} {d : Nat} {σ : Sg} {l : Nat → Int} {s : Int} {p : Int} {τ : Tw} (h : OkX l s p σ) (hR : RX 30 τ σ) (hO : OkT τ) : CT G (d + 5) yX2_readReach cX2_readReach 2 none [.ref (gA G 3)] σ (RE none (fun υ => RdX l s (itR (gS l s) τ p).1 υ ∧ RX 30 (itR (gS l s) τ p).2 υ ∧ Fr SRd σ υ)) := by
  refine CT.of (by decide +kernel) (Nat.le_of_ble_eq_true rfl) ?_
  change AW G _ RX2 _ _ _ 0 [(0, .ref (gA G 3))] [] _ _
  refine A_aload_n (pc := 0) dX2_readReach_0 rfl rfl ?_
  refine A_ldcS (pc := 1) (List.mem_of_getElem? (i := 4) rfl) dX2_readReach_1 ?_
  refine A_callVe0 (pc := 3) kX2_80 rfl rfl (c_X2_expectWord h.rdx (i := 4) (by decide)) dX2_readReach_3 rfl rfl (Nat.le_of_ble_eq_true rfl) (Nat.le_of_ble_eq_true rfl) (fun υ hυ => ?_)
  have w1 : RdX l s (wdF (gS l s) 4 5 0 p) υ := hυ.1
  refine A_aload_n (pc := 6) dX2_readReach_6 rfl rfl ?_
  refine A_callVe (pc := 7) kX2_84 rfl rfl (c_X2_readNumber w1) dX2_readReach_7 rfl rfl (Nat.le_of_ble_eq_true rfl) (Nat.le_of_ble_eq_true rfl) (fun ω hω => ?_)
  have hR2 : RX 30 τ ω := hR.fr (hυ.2.tr hω.2.1) S3T
  have nv := nuV_rng (g := (gS l s)) (r := (wdF (gS l s) 4 5 0 p))
  refine A_istore_n (pc := 10) dX2_readReach_10 rfl (Nat.le_of_ble_eq_true rfl) ?_
  refine A_aload_n (pc := 11) dX2_readReach_11 rfl rfl ?_
  refine A_iload_n (pc := 12) dX2_readReach_12 rfl rfl ?_
  refine A_callN1 (pc := 13) lbX8_isReach stX8_isReach (List.mem_of_getElem? (i := 1) rfl) (c_X8_isReach (by omega) (by omega)) dX2_readReach_13 rfl rfl (Nat.le_of_ble_eq_true rfl) (Nat.le_of_ble_eq_true rfl) ?_
  refine A_callVe0 (pc := 16) kX2_96 rfl rfl (c_X2_allow (P := 1 ≤ nuV (gS l s) (wdF (gS l s) 4 5 0 p) ∧ nuV (gS l s) (wdF (gS l s) 4 5 0 p) ≤ 6) hω.1 hω.2.2 (by have z := w1.2.1; omega) (fun z => by have z2 := (thn_bd (l := l) w1.2.1.1 w1.2.1.2).2.2.2 z; omega) rfl) dX2_readReach_16 rfl rfl (Nat.le_of_ble_eq_true rfl) (Nat.le_of_ble_eq_true rfl) (fun χ hχ => ?_)
  have hA : RdX l s (rR1 (gS l s) p) χ := hχ.1
  have fa := fltV_rng hA
  have hF := (hυ.2.tr hω.2.1).tr hχ.2
  have hR3 : RX 30 τ χ := hR.fr hF S3T
  refine A_aload_n (pc := 19) dX2_readReach_19 rfl rfl ?_
  refine A_getIv (pc := 20) fX2_18 rfl rfl hA.flt dX2_readReach_20 ?_
  refine A_iconst (pc := 23) dX2_readReach_23 ?_
  refine A_icmp_ne (pc := 24) 35 dX2_readReach_24 (by decide) (by omega) (by omega) (by omega) (by omega) (fun h24 => ?_) (fun h24 => ?_)
  · skip
    refine A_vret (pc := 35) rfl dX2_readReach_35 ?_
    have q := fltV_bad h24
    have e : (itR (gS l s) τ p).2 = τ := by
      show (if (rR1 (gS l s) p).1 = true then _ else τ) = τ
      rw [if_neg (by rw [q]; decide)]
    exact ⟨rfl, hA, by rw [e]; exact hR3, hF.mono S3R⟩
  · skip
    have q := fltV_ok hA h24
    refine A_aload_n (pc := 27) dX2_readReach_27 rfl rfl ?_
    refine A_getR (pc := 28) fX2_12 rfl rfl dX2_readReach_28 ?_
    refine A_iload_n (pc := 31) dX2_readReach_31 rfl rfl ?_
    refine A_putI (pc := 32) fX2_144 wr_4_3 rfl rfl dX2_readReach_32 ?_
    refine A_vret (pc := 35) rfl dX2_readReach_35 ?_
    have e : (itR (gS l s) τ p).2 = tS τ 2 (nuV (gS l s) (wdF (gS l s) 4 5 0 p)) := by
      show (if (rR1 (gS l s) p).1 = true then _ else τ) = _
      rw [if_pos q]
    have hψ : RX 30 (tS τ 2 (nuV (gS l s) (wdF (gS l s) 4 5 0 p))) (uI χ 30 3 (nuV (gS l s) (wdF (gS l s) 4 5 0 p))) ∧ Fr (TS 30) χ (uI χ 30 3 (nuV (gS l s) (wdF (gS l s) 4 5 0 p))) := ⟨hR3.setS (k := 2) _ (by decide), Fr.rf.uI (TSm 0 (by decide))⟩
    exact ⟨rfl, hA.fr hψ.2 T30_3 T30_4, by rw [e]; exact hψ.1, (hF.mono S3R).tr (hψ.2.mono (fun a z => Or.inr z))⟩
theorem dX2_readWalker_0 : decode cX2_readWalker 0 = .ok (.aload_n 0, 1) := by decide +kernel
theorem dX2_readWalker_1 : decode cX2_readWalker 1 = .ok (.getfield 29, 3) := by decide +kernel
theorem dX2_readWalker_4 : decode cX2_readWalker 4 = .ok (.istore_n 1, 1) := by decide +kernel
theorem dX2_readWalker_5 : decode cX2_readWalker 5 = .ok (.aload_n 0, 1) := by decide +kernel
theorem dX2_readWalker_6 : decode cX2_readWalker 6 = .ok (.ldc 128, 2) := by decide +kernel
theorem dX2_readWalker_8 : decode cX2_readWalker 8 = .ok (.invokevirtual 80, 3) := by decide +kernel
theorem dX2_readWalker_11 : decode cX2_readWalker 11 = .ok (.aload_n 0, 1) := by decide +kernel
theorem dX2_readWalker_12 : decode cX2_readWalker 12 = .ok (.getfield 18, 3) := by decide +kernel
theorem dX2_readWalker_15 : decode cX2_readWalker 15 = .ok (.iconst (-1), 1) := by decide +kernel
theorem dX2_readWalker_16 : decode cX2_readWalker 16 = .ok (.if_icmp .ne 18, 3) := by decide +kernel
theorem dX2_readWalker_19 : decode cX2_readWalker 19 = .ok (.aload_n 0, 1) := by decide +kernel
theorem dX2_readWalker_20 : decode cX2_readWalker 20 = .ok (.getfield 12, 3) := by decide +kernel
theorem dX2_readWalker_23 : decode cX2_readWalker 23 = .ok (.invokevirtual 130, 3) := by decide +kernel
theorem dX2_readWalker_26 : decode cX2_readWalker 26 = .ok (.ifCond .ne 8, 3) := by decide +kernel
theorem dX2_readWalker_29 : decode cX2_readWalker 29 = .ok (.aload_n 0, 1) := by decide +kernel
theorem dX2_readWalker_30 : decode cX2_readWalker 30 = .ok (.iload_n 1, 1) := by decide +kernel
theorem dX2_readWalker_31 : decode cX2_readWalker 31 = .ok (.putfield 18, 3) := by decide +kernel
theorem dX2_readWalker_34 : decode cX2_readWalker 34 = .ok (.aload_n 0, 1) := by decide +kernel
theorem dX2_readWalker_35 : decode cX2_readWalker 35 = .ok (.invokevirtual 84, 3) := by decide +kernel
theorem dX2_readWalker_38 : decode cX2_readWalker 38 = .ok (.istore_n 2, 1) := by decide +kernel
theorem dX2_readWalker_39 : decode cX2_readWalker 39 = .ok (.aload_n 0, 1) := by decide +kernel
theorem dX2_readWalker_40 : decode cX2_readWalker 40 = .ok (.aload_n 0, 1) := by decide +kernel
theorem dX2_readWalker_41 : decode cX2_readWalker 41 = .ok (.getfield 12, 3) := by decide +kernel
theorem dX2_readWalker_44 : decode cX2_readWalker 44 = .ok (.iload_n 2, 1) := by decide +kernel
theorem dX2_readWalker_45 : decode cX2_readWalker 45 = .ok (.invokevirtual 133, 3) := by decide +kernel
theorem dX2_readWalker_48 : decode cX2_readWalker 48 = .ok (.invokevirtual 96, 3) := by decide +kernel
theorem dX2_readWalker_51 : decode cX2_readWalker 51 = .ok (.aload_n 0, 1) := by decide +kernel
theorem dX2_readWalker_52 : decode cX2_readWalker 52 = .ok (.invokevirtual 84, 3) := by decide +kernel
theorem dX2_readWalker_55 : decode cX2_readWalker 55 = .ok (.istore_n 3, 1) := by decide +kernel
theorem dX2_readWalker_56 : decode cX2_readWalker 56 = .ok (.aload_n 0, 1) := by decide +kernel
theorem dX2_readWalker_57 : decode cX2_readWalker 57 = .ok (.iload_n 3, 1) := by decide +kernel
theorem dX2_readWalker_58 : decode cX2_readWalker 58 = .ok (.invokestatic 121, 3) := by decide +kernel
theorem dX2_readWalker_61 : decode cX2_readWalker 61 = .ok (.invokevirtual 96, 3) := by decide +kernel
theorem dX2_readWalker_64 : decode cX2_readWalker 64 = .ok (.aload_n 0, 1) := by decide +kernel
theorem dX2_readWalker_65 : decode cX2_readWalker 65 = .ok (.getfield 18, 3) := by decide +kernel
theorem dX2_readWalker_68 : decode cX2_readWalker 68 = .ok (.iconst (-1), 1) := by decide +kernel
theorem dX2_readWalker_69 : decode cX2_readWalker 69 = .ok (.if_icmp .ne 13, 3) := by decide +kernel
theorem dX2_readWalker_72 : decode cX2_readWalker 72 = .ok (.aload_n 0, 1) := by decide +kernel
theorem dX2_readWalker_73 : decode cX2_readWalker 73 = .ok (.getfield 12, 3) := by decide +kernel
theorem dX2_readWalker_76 : decode cX2_readWalker 76 = .ok (.iload_n 2, 1) := by decide +kernel
theorem dX2_readWalker_77 : decode cX2_readWalker 77 = .ok (.iload_n 3, 1) := by decide +kernel
theorem dX2_readWalker_78 : decode cX2_readWalker 78 = .ok (.invokevirtual 136, 3) := by decide +kernel
theorem dX2_readWalker_81 : decode cX2_readWalker 81 = .ok (.pop, 1) := by decide +kernel
theorem dX2_readWalker_82 : decode cX2_readWalker 82 = .ok (.return_, 1) := by decide +kernel
set_option maxRecDepth 20000 in
theorem l_X2_readWalker {G : Gl} {d : Nat} {σ : Sg} {l : Nat → Int} {s : Int} {p : Int} {τ : Tw} (hO : OkT τ) (hR : RX 30 τ σ) (p1 : 0 ≤ p) (p2 : p ≤ s) (υ : Sg) (A0 : RdX l s (wR2 (gS l s) τ p) υ) (F0 : Fr S3 σ υ) : AW G (d + 5) RX2 cX2_readWalker 4 none 34 [(0, .ref (gA G 3)), (1, .int (iI p))] [] υ (RE none (fun υ => RdX l s (itW (gS l s) τ p).1 υ ∧ RX 30 (itW (gS l s) τ p).2 υ ∧ Fr SRd σ υ)) := by
  refine A_aload_n (pc := 34) dX2_readWalker_34 rfl rfl ?_
  refine A_callVe (pc := 35) kX2_84 rfl rfl (c_X2_readNumber A0) dX2_readWalker_35 rfl rfl (Nat.le_of_ble_eq_true rfl) (Nat.le_of_ble_eq_true rfl) (fun a1 b1 => ?_)
  have F1 : Fr S3 σ a1 := F0.tr b1.2.1
  have R1 : RX 30 τ a1 := hR.fr F1 S3T
  have v1 := nuV_rng (g := (gS l s)) (r := wR2 (gS l s) τ p)
  refine A_istore_n (pc := 38) dX2_readWalker_38 rfl (Nat.le_of_ble_eq_true rfl) ?_
  refine A_aload_n (pc := 39) dX2_readWalker_39 rfl rfl ?_
  refine A_aload_n (pc := 40) dX2_readWalker_40 rfl rfl ?_
  refine A_getR (pc := 41) fX2_12 rfl rfl dX2_readWalker_41 ?_
  refine A_iload_n (pc := 44) dX2_readWalker_44 rfl rfl ?_
  refine A_callV1 (pc := 45) kX2_133 rfl rfl (c_X5_isYard TC30 R1 hO (by omega) (by omega)) dX2_readWalker_45 rfl rfl (Nat.le_of_ble_eq_true rfl) (Nat.le_of_ble_eq_true rfl) ?_
  refine A_callVe0 (pc := 48) kX2_96 rfl rfl (c_X2_allow (P := inS (nuV (gS l s) (wR2 (gS l s) τ p)) ∧ ¬ sT τ.1 (nuV (gS l s) (wR2 (gS l s) τ p))) b1.1 b1.2.2 (by have z := A0.2.1; omega) (fun z => by have z2 := (thn_bd (l := l) A0.2.1.1 A0.2.1.2).2.2.2 z; omega) rfl) dX2_readWalker_48 rfl rfl (Nat.le_of_ble_eq_true rfl) (Nat.le_of_ble_eq_true rfl) (fun a2 b2 => ?_)
  have A2 : RdX l s (wR3 (gS l s) τ p) a2 := b2.1
  have F2 : Fr S3 σ a2 := F1.tr b2.2
  have R2 : RX 30 τ a2 := hR.fr F2 S3T
  refine A_aload_n (pc := 51) dX2_readWalker_51 rfl rfl ?_
  refine A_callVe (pc := 52) kX2_84 rfl rfl (c_X2_readNumber A2) dX2_readWalker_52 rfl rfl (Nat.le_of_ble_eq_true rfl) (Nat.le_of_ble_eq_true rfl) (fun a3 b3 => ?_)
  have F3 : Fr S3 σ a3 := F2.tr b3.2.1
  have R3 : RX 30 τ a3 := hR.fr F3 S3T
  have v3 := nuV_rng (g := (gS l s)) (r := wR3 (gS l s) τ p)
  refine A_istore_n (pc := 55) dX2_readWalker_55 rfl (Nat.le_of_ble_eq_true rfl) ?_
  refine A_aload_n (pc := 56) dX2_readWalker_56 rfl rfl ?_
  refine A_iload_n (pc := 57) dX2_readWalker_57 rfl rfl ?_
  refine A_callS1 (pc := 58) kX2_121 (c_X0_isWay (by omega) (by omega)) dX2_readWalker_58 rfl rfl (Nat.le_of_ble_eq_true rfl) (Nat.le_of_ble_eq_true rfl) ?_
  refine A_callVe0 (pc := 61) kX2_96 rfl rfl (c_X2_allow (P := 0 ≤ nuV (gS l s) (wR3 (gS l s) τ p) ∧ nuV (gS l s) (wR3 (gS l s) τ p) < 4) b3.1 b3.2.2 (by have z := A2.2.1; omega) (fun z => by have z2 := (thn_bd (l := l) A2.2.1.1 A2.2.1.2).2.2.2 z; omega) rfl) dX2_readWalker_61 rfl rfl (Nat.le_of_ble_eq_true rfl) (Nat.le_of_ble_eq_true rfl) (fun a4 b4 => ?_)
  have A4 : RdX l s (wR4 (gS l s) τ p) a4 := b4.1
  have F4 : Fr S3 σ a4 := F3.tr b4.2
  have R4 : RX 30 τ a4 := hR.fr F4 S3T
  have fa := fltV_rng A4
  refine A_aload_n (pc := 64) dX2_readWalker_64 rfl rfl ?_
  refine A_getIv (pc := 65) fX2_18 rfl rfl A4.flt dX2_readWalker_65 ?_
  refine A_iconst (pc := 68) dX2_readWalker_68 ?_
  refine A_icmp_ne (pc := 69) 82 dX2_readWalker_69 (by decide) (by omega) (by omega) (by omega) (by omega) (fun h69 => ?_) (fun h69 => ?_)
  · skip
    refine A_vret (pc := 82) rfl dX2_readWalker_82 ?_
    have q := fltV_bad h69
    have e : (itW (gS l s) τ p).2 = τ := by
      show (if (wR4 (gS l s) τ p).1 = true then _ else τ) = τ
      rw [if_neg (by rw [q]; decide)]
    exact ⟨rfl, A4, by rw [e]; exact R4, F4.mono S3R⟩
  · skip
    have q := fltV_ok A4 h69
    have qb := (wR_bd (l := l) (τ := τ) p1 p2).2.2.2 q
    refine A_aload_n (pc := 72) dX2_readWalker_72 rfl rfl ?_
    refine A_getR (pc := 73) fX2_12 rfl rfl dX2_readWalker_73 ?_
    refine A_iload_n (pc := 76) dX2_readWalker_76 rfl rfl ?_
    refine A_iload_n (pc := 77) dX2_readWalker_77 rfl rfl ?_
    refine A_callVe (pc := 78) kX2_136 rfl rfl (c_X5_addWalker TC30 R4 hO qb.2.1) dX2_readWalker_78 rfl rfl (Nat.le_of_ble_eq_true rfl) (Nat.le_of_ble_eq_true rfl) (fun ψ hψ => ?_)
    refine A_pop (pc := 81) dX2_readWalker_81 rfl ?_
    refine A_vret (pc := 82) rfl dX2_readWalker_82 ?_
    have e : (itW (gS l s) τ p).2 = addW τ (nuV (gS l s) (wR2 (gS l s) τ p)) (nuV (gS l s) (wR3 (gS l s) τ p)) := by
      show (if (wR4 (gS l s) τ p).1 = true then _ else τ) = _
      rw [if_pos q]
    exact ⟨rfl, A4.fr hψ.2 T30_3 T30_4, by rw [e]; exact hψ.1, (F4.mono S3R).tr (hψ.2.mono (fun a z => Or.inr z))⟩
set_option maxRecDepth 20000 in
theorem c_X2_readWalker {G : Gl} {d : Nat} {σ : Sg} {l : Nat → Int} {s : Int} {p : Int} {τ : Tw} (h : OkX l s p σ) (hR : RX 30 τ σ) (hO : OkT τ) : CT G (d + 5) yX2_readWalker cX2_readWalker 4 none [.ref (gA G 3)] σ (RE none (fun υ => RdX l s (itW (gS l s) τ p).1 υ ∧ RX 30 (itW (gS l s) τ p).2 υ ∧ Fr SRd σ υ)) := by
  refine CT.of (by decide +kernel) (Nat.le_of_ble_eq_true rfl) ?_
  change AW G _ RX2 _ _ _ 0 [(0, .ref (gA G 3))] [] _ _
  have p1 := h.2.1.1
  have p2 := h.2.1.2
  refine A_aload_n (pc := 0) dX2_readWalker_0 rfl rfl ?_
  refine A_getIv (pc := 1) fX2_29 rfl rfl h.2.2.2 dX2_readWalker_1 ?_
  refine A_istore_n (pc := 4) dX2_readWalker_4 rfl (Nat.le_of_ble_eq_true rfl) ?_
  refine A_aload_n (pc := 5) dX2_readWalker_5 rfl rfl ?_
  refine A_ldcS (pc := 6) (List.mem_of_getElem? (i := 3) rfl) dX2_readWalker_6 ?_
  refine A_callVe0 (pc := 8) kX2_80 rfl rfl (c_X2_expectWord h.rdx (i := 3) (by decide)) dX2_readWalker_8 rfl rfl (Nat.le_of_ble_eq_true rfl) (Nat.le_of_ble_eq_true rfl) (fun υ hυ => ?_)
  have w1 : RdX l s (wdF (gS l s) 3 6 0 p) υ := hυ.1
  have fw := fltV_rng w1
  have hR1 : RX 30 τ υ := hR.fr hυ.2 S3T
  refine A_aload_n (pc := 11) dX2_readWalker_11 rfl rfl ?_
  refine A_getIv (pc := 12) fX2_18 rfl rfl w1.flt dX2_readWalker_12 ?_
  refine A_iconst (pc := 15) dX2_readWalker_15 ?_
  refine A_icmp_ne (pc := 16) 34 dX2_readWalker_16 (by decide) (by omega) (by omega) (by omega) (by omega) (fun h16 => ?_) (fun h16 => ?_)
  · skip
    refine A_loc (l2 := [(0, _), (1, _)]) ⟨rfl, rfl, trivial⟩ ?_
    have e : wR2 (gS l s) τ p = (wdF (gS l s) 3 6 0 p) := by unfold wR2 rmA; rw [if_neg (fun z => absurd z.1 (by rw [fltV_bad h16]; decide))]
    exact l_X2_readWalker (σ := σ) hO hR p1 p2 υ (by rw [e]; exact w1) hυ.2
  · skip
    refine A_aload_n (pc := 19) dX2_readWalker_19 rfl rfl ?_
    refine A_getR (pc := 20) fX2_12 rfl rfl dX2_readWalker_20 ?_
    refine A_callV1 (pc := 23) kX2_130 rfl rfl (c_X5_hasRoomForWalker TC30 hR1 hO) dX2_readWalker_23 rfl rfl (Nat.le_of_ble_eq_true rfl) (Nat.le_of_ble_eq_true rfl) ?_
    refine A_ifb_ne (pc := 26) 34 dX2_readWalker_26 (by decide) (fun h26 => ?_) (fun h26 => ?_)
    · skip
      refine A_loc (l2 := [(0, _), (1, _)]) ⟨rfl, rfl, trivial⟩ ?_
      have e : wR2 (gS l s) τ p = (wdF (gS l s) 3 6 0 p) := by unfold wR2 rmA; rw [if_neg (fun z => z.2 h26)]
      exact l_X2_readWalker (σ := σ) hO hR p1 p2 υ (by rw [e]; exact w1) hυ.2
    · skip
      refine A_aload_n (pc := 29) dX2_readWalker_29 rfl rfl ?_
      refine A_iload_n (pc := 30) dX2_readWalker_30 rfl rfl ?_
      refine A_putI (pc := 31) fX2_18 wr_1_1 rfl rfl dX2_readWalker_31 ?_
      refine A_loc (l2 := [(0, _), (1, _)]) ⟨rfl, rfl, trivial⟩ ?_
      have e : wR2 (gS l s) τ p = (false, p) := by unfold wR2 rmA; rw [if_pos ⟨fltV_ok w1 h16, h26⟩]
      exact l_X2_readWalker (σ := σ) hO hR p1 p2 _ (by rw [e]; exact ((w1.okx (fltV_ok w1 h16)).bad p1 p2).rdx) (hυ.2.uI rfl)
theorem dX2_readPane_0 : decode cX2_readPane 0 = .ok (.aload_n 0, 1) := by decide +kernel
theorem dX2_readPane_1 : decode cX2_readPane 1 = .ok (.getfield 29, 3) := by decide +kernel
theorem dX2_readPane_4 : decode cX2_readPane 4 = .ok (.istore_n 1, 1) := by decide +kernel
theorem dX2_readPane_5 : decode cX2_readPane 5 = .ok (.aload_n 0, 1) := by decide +kernel
theorem dX2_readPane_6 : decode cX2_readPane 6 = .ok (.ldc 109, 2) := by decide +kernel
theorem dX2_readPane_8 : decode cX2_readPane 8 = .ok (.invokevirtual 80, 3) := by decide +kernel
theorem dX2_readPane_11 : decode cX2_readPane 11 = .ok (.aload_n 0, 1) := by decide +kernel
theorem dX2_readPane_12 : decode cX2_readPane 12 = .ok (.getfield 18, 3) := by decide +kernel
theorem dX2_readPane_15 : decode cX2_readPane 15 = .ok (.iconst (-1), 1) := by decide +kernel
theorem dX2_readPane_16 : decode cX2_readPane 16 = .ok (.if_icmp .ne 18, 3) := by decide +kernel
theorem dX2_readPane_19 : decode cX2_readPane 19 = .ok (.aload_n 0, 1) := by decide +kernel
theorem dX2_readPane_20 : decode cX2_readPane 20 = .ok (.getfield 12, 3) := by decide +kernel
theorem dX2_readPane_23 : decode cX2_readPane 23 = .ok (.invokevirtual 111, 3) := by decide +kernel
theorem dX2_readPane_26 : decode cX2_readPane 26 = .ok (.ifCond .ne 8, 3) := by decide +kernel
theorem dX2_readPane_29 : decode cX2_readPane 29 = .ok (.aload_n 0, 1) := by decide +kernel
theorem dX2_readPane_30 : decode cX2_readPane 30 = .ok (.iload_n 1, 1) := by decide +kernel
theorem dX2_readPane_31 : decode cX2_readPane 31 = .ok (.putfield 18, 3) := by decide +kernel
theorem dX2_readPane_34 : decode cX2_readPane 34 = .ok (.aload_n 0, 1) := by decide +kernel
theorem dX2_readPane_35 : decode cX2_readPane 35 = .ok (.invokevirtual 84, 3) := by decide +kernel
theorem dX2_readPane_38 : decode cX2_readPane 38 = .ok (.istore_n 2, 1) := by decide +kernel
theorem dX2_readPane_39 : decode cX2_readPane 39 = .ok (.aload_n 0, 1) := by decide +kernel
theorem dX2_readPane_40 : decode cX2_readPane 40 = .ok (.iload_n 2, 1) := by decide +kernel
theorem dX2_readPane_41 : decode cX2_readPane 41 = .ok (.invokestatic 115, 3) := by decide +kernel
theorem dX2_readPane_44 : decode cX2_readPane 44 = .ok (.invokevirtual 96, 3) := by decide +kernel
theorem dX2_readPane_47 : decode cX2_readPane 47 = .ok (.aload_n 0, 1) := by decide +kernel
theorem dX2_readPane_48 : decode cX2_readPane 48 = .ok (.invokevirtual 84, 3) := by decide +kernel
theorem dX2_readPane_51 : decode cX2_readPane 51 = .ok (.istore_n 3, 1) := by decide +kernel
theorem dX2_readPane_52 : decode cX2_readPane 52 = .ok (.aload_n 0, 1) := by decide +kernel
theorem dX2_readPane_53 : decode cX2_readPane 53 = .ok (.iload_n 3, 1) := by decide +kernel
theorem dX2_readPane_54 : decode cX2_readPane 54 = .ok (.bipush 9, 2) := by decide +kernel
theorem dX2_readPane_56 : decode cX2_readPane 56 = .ok (.if_icmp .gt 7, 3) := by decide +kernel
theorem dX2_readPane_59 : decode cX2_readPane 59 = .ok (.iconst 1, 1) := by decide +kernel
theorem dX2_readPane_60 : decode cX2_readPane 60 = .ok (.goto 4, 3) := by decide +kernel
theorem dX2_readPane_63 : decode cX2_readPane 63 = .ok (.iconst 0, 1) := by decide +kernel
theorem dX2_readPane_64 : decode cX2_readPane 64 = .ok (.invokevirtual 96, 3) := by decide +kernel
theorem dX2_readPane_67 : decode cX2_readPane 67 = .ok (.aload_n 0, 1) := by decide +kernel
theorem dX2_readPane_68 : decode cX2_readPane 68 = .ok (.invokevirtual 84, 3) := by decide +kernel
theorem dX2_readPane_71 : decode cX2_readPane 71 = .ok (.istore 4, 2) := by decide +kernel
theorem dX2_readPane_73 : decode cX2_readPane 73 = .ok (.aload_n 0, 1) := by decide +kernel
theorem dX2_readPane_74 : decode cX2_readPane 74 = .ok (.aload_n 0, 1) := by decide +kernel
theorem dX2_readPane_75 : decode cX2_readPane 75 = .ok (.getfield 12, 3) := by decide +kernel
theorem dX2_readPane_78 : decode cX2_readPane 78 = .ok (.iload 4, 2) := by decide +kernel
theorem dX2_readPane_80 : decode cX2_readPane 80 = .ok (.invokevirtual 118, 3) := by decide +kernel
theorem dX2_readPane_83 : decode cX2_readPane 83 = .ok (.invokevirtual 96, 3) := by decide +kernel
theorem dX2_readPane_86 : decode cX2_readPane 86 = .ok (.aload_n 0, 1) := by decide +kernel
theorem dX2_readPane_87 : decode cX2_readPane 87 = .ok (.invokevirtual 84, 3) := by decide +kernel
theorem dX2_readPane_90 : decode cX2_readPane 90 = .ok (.istore 5, 2) := by decide +kernel
theorem dX2_readPane_92 : decode cX2_readPane 92 = .ok (.aload_n 0, 1) := by decide +kernel
theorem dX2_readPane_93 : decode cX2_readPane 93 = .ok (.iload 5, 2) := by decide +kernel
theorem dX2_readPane_95 : decode cX2_readPane 95 = .ok (.invokestatic 121, 3) := by decide +kernel
theorem dX2_readPane_98 : decode cX2_readPane 98 = .ok (.invokevirtual 96, 3) := by decide +kernel
theorem dX2_readPane_101 : decode cX2_readPane 101 = .ok (.aload_n 0, 1) := by decide +kernel
theorem dX2_readPane_102 : decode cX2_readPane 102 = .ok (.getfield 18, 3) := by decide +kernel
theorem dX2_readPane_105 : decode cX2_readPane 105 = .ok (.iconst (-1), 1) := by decide +kernel
theorem dX2_readPane_106 : decode cX2_readPane 106 = .ok (.if_icmp .ne 17, 3) := by decide +kernel
theorem dX2_readPane_109 : decode cX2_readPane 109 = .ok (.aload_n 0, 1) := by decide +kernel
theorem dX2_readPane_110 : decode cX2_readPane 110 = .ok (.getfield 12, 3) := by decide +kernel
theorem dX2_readPane_113 : decode cX2_readPane 113 = .ok (.iload_n 2, 1) := by decide +kernel
theorem dX2_readPane_114 : decode cX2_readPane 114 = .ok (.iload_n 3, 1) := by decide +kernel
theorem dX2_readPane_115 : decode cX2_readPane 115 = .ok (.iload 4, 2) := by decide +kernel
theorem dX2_readPane_117 : decode cX2_readPane 117 = .ok (.iload 5, 2) := by decide +kernel
theorem dX2_readPane_119 : decode cX2_readPane 119 = .ok (.invokevirtual 124, 3) := by decide +kernel
theorem dX2_readPane_122 : decode cX2_readPane 122 = .ok (.pop, 1) := by decide +kernel
theorem dX2_readPane_123 : decode cX2_readPane 123 = .ok (.return_, 1) := by decide +kernel
set_option maxRecDepth 20000 in
theorem l_X2_readPane {G : Gl} {d : Nat} {σ : Sg} {l : Nat → Int} {s : Int} {p : Int} {τ : Tw} (hO : OkT τ) (hR : RX 30 τ σ) (p1 : 0 ≤ p) (p2 : p ≤ s) (υ : Sg) (A0 : RdX l s (pR2 (gS l s) τ p) υ) (F0 : Fr S3 σ υ) : AW G (d + 5) RX2 cX2_readPane 6 none 34 [(0, .ref (gA G 3)), (1, .int (iI p))] [] υ (RE none (fun υ => RdX l s (itP (gS l s) τ p).1 υ ∧ RX 30 (itP (gS l s) τ p).2 υ ∧ Fr SRd σ υ)) := by
  refine A_aload_n (pc := 34) dX2_readPane_34 rfl rfl ?_
  refine A_callVe (pc := 35) kX2_84 rfl rfl (c_X2_readNumber A0) dX2_readPane_35 rfl rfl (Nat.le_of_ble_eq_true rfl) (Nat.le_of_ble_eq_true rfl) (fun a1 b1 => ?_)
  have F1 : Fr S3 σ a1 := F0.tr b1.2.1
  have R1 : RX 30 τ a1 := hR.fr F1 S3T
  have v1 := nuV_rng (g := (gS l s)) (r := pR2 (gS l s) τ p)
  refine A_istore_n (pc := 38) dX2_readPane_38 rfl (Nat.le_of_ble_eq_true rfl) ?_
  refine A_aload_n (pc := 39) dX2_readPane_39 rfl rfl ?_
  refine A_iload_n (pc := 40) dX2_readPane_40 rfl rfl ?_
  refine A_callN1 (pc := 41) lbX8_isKind stX8_isKind (List.mem_of_getElem? (i := 0) rfl) (c_X8_isKind (by omega) (by omega)) dX2_readPane_41 rfl rfl (Nat.le_of_ble_eq_true rfl) (Nat.le_of_ble_eq_true rfl) ?_
  refine A_callVe0 (pc := 44) kX2_96 rfl rfl (c_X2_allow (P := 0 ≤ nuV (gS l s) (pR2 (gS l s) τ p) ∧ nuV (gS l s) (pR2 (gS l s) τ p) < 7) b1.1 b1.2.2 (by have z := A0.2.1; omega) (fun z => by have z2 := (thn_bd (l := l) A0.2.1.1 A0.2.1.2).2.2.2 z; omega) rfl) dX2_readPane_44 rfl rfl (Nat.le_of_ble_eq_true rfl) (Nat.le_of_ble_eq_true rfl) (fun a2 b2 => ?_)
  have A2 : RdX l s (pR3 (gS l s) τ p) a2 := b2.1
  have F2 : Fr S3 σ a2 := F1.tr b2.2
  have R2 : RX 30 τ a2 := hR.fr F2 S3T
  refine A_aload_n (pc := 47) dX2_readPane_47 rfl rfl ?_
  refine A_callVe (pc := 48) kX2_84 rfl rfl (c_X2_readNumber A2) dX2_readPane_48 rfl rfl (Nat.le_of_ble_eq_true rfl) (Nat.le_of_ble_eq_true rfl) (fun a3 b3 => ?_)
  have F3 : Fr S3 σ a3 := F2.tr b3.2.1
  have R3 : RX 30 τ a3 := hR.fr F3 S3T
  have v3 := nuV_rng (g := (gS l s)) (r := pR3 (gS l s) τ p)
  refine A_istore_n (pc := 51) dX2_readPane_51 rfl (Nat.le_of_ble_eq_true rfl) ?_
  refine A_aload_n (pc := 52) dX2_readPane_52 rfl rfl ?_
  refine A_iload_n (pc := 53) dX2_readPane_53 rfl rfl ?_
  refine A_bipush (pc := 54) dX2_readPane_54 (by decide) ?_
  refine A_icmp_gt (pc := 56) 63 dX2_readPane_56 (by decide) (by omega) (by omega) (by omega) (by omega) (fun h56 => ?_) (fun h56 => ?_)
  · skip
    refine A_iconst (pc := 63) dX2_readPane_63 ?_
    refine A_callVe0 (pc := 64) kX2_96 rfl rfl (c_X2_allow (P := nuV (gS l s) (pR3 (gS l s) τ p) ≤ 9) b3.1 b3.2.2 (by have z := A2.2.1; omega) (fun z => by have z2 := (thn_bd (l := l) A2.2.1.1 A2.2.1.2).2.2.2 z; omega) (bI_f (by omega)).symm) dX2_readPane_64 rfl rfl (Nat.le_of_ble_eq_true rfl) (Nat.le_of_ble_eq_true rfl) (fun a4 b4 => ?_)
    have A4 : RdX l s (pR4 (gS l s) τ p) a4 := b4.1
    have F4 : Fr S3 σ a4 := F3.tr b4.2
    have R4 : RX 30 τ a4 := hR.fr F4 S3T
    refine A_aload_n (pc := 67) dX2_readPane_67 rfl rfl ?_
    refine A_callVe (pc := 68) kX2_84 rfl rfl (c_X2_readNumber A4) dX2_readPane_68 rfl rfl (Nat.le_of_ble_eq_true rfl) (Nat.le_of_ble_eq_true rfl) (fun a5 b5 => ?_)
    have F5 : Fr S3 σ a5 := F4.tr b5.2.1
    have R5 : RX 30 τ a5 := hR.fr F5 S3T
    have v5 := nuV_rng (g := (gS l s)) (r := pR4 (gS l s) τ p)
    refine A_istore (pc := 71) dX2_readPane_71 (Nat.le_of_ble_eq_true rfl) ?_
    refine A_aload_n (pc := 73) dX2_readPane_73 rfl rfl ?_
    refine A_aload_n (pc := 74) dX2_readPane_74 rfl rfl ?_
    refine A_getR (pc := 75) fX2_12 rfl rfl dX2_readPane_75 ?_
    refine A_iload (pc := 78) dX2_readPane_78 rfl ?_
    refine A_callV1 (pc := 80) kX2_118 rfl rfl (c_X5_isHouse TC30 R5 hO (by omega) (by omega)) dX2_readPane_80 rfl rfl (Nat.le_of_ble_eq_true rfl) (Nat.le_of_ble_eq_true rfl) ?_
    refine A_callVe0 (pc := 83) kX2_96 rfl rfl (c_X2_allow (P := sT τ.1 (nuV (gS l s) (pR4 (gS l s) τ p))) b5.1 b5.2.2 (by have z := A4.2.1; omega) (fun z => by have z2 := (thn_bd (l := l) A4.2.1.1 A4.2.1.2).2.2.2 z; omega) rfl) dX2_readPane_83 rfl rfl (Nat.le_of_ble_eq_true rfl) (Nat.le_of_ble_eq_true rfl) (fun a6 b6 => ?_)
    have A6 : RdX l s (pR5 (gS l s) τ p) a6 := b6.1
    have F6 : Fr S3 σ a6 := F5.tr b6.2
    have R6 : RX 30 τ a6 := hR.fr F6 S3T
    refine A_aload_n (pc := 86) dX2_readPane_86 rfl rfl ?_
    refine A_callVe (pc := 87) kX2_84 rfl rfl (c_X2_readNumber A6) dX2_readPane_87 rfl rfl (Nat.le_of_ble_eq_true rfl) (Nat.le_of_ble_eq_true rfl) (fun a7 b7 => ?_)
    have F7 : Fr S3 σ a7 := F6.tr b7.2.1
    have R7 : RX 30 τ a7 := hR.fr F7 S3T
    have v7 := nuV_rng (g := (gS l s)) (r := pR5 (gS l s) τ p)
    refine A_istore (pc := 90) dX2_readPane_90 (Nat.le_of_ble_eq_true rfl) ?_
    refine A_aload_n (pc := 92) dX2_readPane_92 rfl rfl ?_
    refine A_iload (pc := 93) dX2_readPane_93 rfl ?_
    refine A_callS1 (pc := 95) kX2_121 (c_X0_isWay (by omega) (by omega)) dX2_readPane_95 rfl rfl (Nat.le_of_ble_eq_true rfl) (Nat.le_of_ble_eq_true rfl) ?_
    refine A_callVe0 (pc := 98) kX2_96 rfl rfl (c_X2_allow (P := 0 ≤ nuV (gS l s) (pR5 (gS l s) τ p) ∧ nuV (gS l s) (pR5 (gS l s) τ p) < 4) b7.1 b7.2.2 (by have z := A6.2.1; omega) (fun z => by have z2 := (thn_bd (l := l) A6.2.1.1 A6.2.1.2).2.2.2 z; omega) rfl) dX2_readPane_98 rfl rfl (Nat.le_of_ble_eq_true rfl) (Nat.le_of_ble_eq_true rfl) (fun a8 b8 => ?_)
    have A8 : RdX l s (pR6 (gS l s) τ p) a8 := b8.1
    have F8 : Fr S3 σ a8 := F7.tr b8.2
    have R8 : RX 30 τ a8 := hR.fr F8 S3T
    have fa := fltV_rng A8
    refine A_aload_n (pc := 101) dX2_readPane_101 rfl rfl ?_
    refine A_getIv (pc := 102) fX2_18 rfl rfl A8.flt dX2_readPane_102 ?_
    refine A_iconst (pc := 105) dX2_readPane_105 ?_
    refine A_icmp_ne (pc := 106) 123 dX2_readPane_106 (by decide) (by omega) (by omega) (by omega) (by omega) (fun h106 => ?_) (fun h106 => ?_)
    · skip
      refine A_vret (pc := 123) rfl dX2_readPane_123 ?_
      have q := fltV_bad h106
      have e : (itP (gS l s) τ p).2 = τ := by
        show (if (pR6 (gS l s) τ p).1 = true then _ else τ) = τ
        rw [if_neg (by rw [q]; decide)]
      exact ⟨rfl, A8, by rw [e]; exact R8, F8.mono S3R⟩
    · skip
      have q := fltV_ok A8 h106
      have qb := (pR_bd (l := l) (τ := τ) p1 p2).2.2.2.2.2 q
      refine A_aload_n (pc := 109) dX2_readPane_109 rfl rfl ?_
      refine A_getR (pc := 110) fX2_12 rfl rfl dX2_readPane_110 ?_
      refine A_iload_n (pc := 113) dX2_readPane_113 rfl rfl ?_
      refine A_iload_n (pc := 114) dX2_readPane_114 rfl rfl ?_
      refine A_iload (pc := 115) dX2_readPane_115 rfl ?_
      refine A_iload (pc := 117) dX2_readPane_117 rfl ?_
      refine A_callVe (pc := 119) kX2_124 rfl rfl (c_X5_addPane TC30 R8 hO qb.2.1) dX2_readPane_119 rfl rfl (Nat.le_of_ble_eq_true rfl) (Nat.le_of_ble_eq_true rfl) (fun ψ hψ => ?_)
      refine A_pop (pc := 122) dX2_readPane_122 rfl ?_
      refine A_vret (pc := 123) rfl dX2_readPane_123 ?_
      have e : (itP (gS l s) τ p).2 = addP τ (nuV (gS l s) (pR2 (gS l s) τ p)) (nuV (gS l s) (pR3 (gS l s) τ p)) (nuV (gS l s) (pR4 (gS l s) τ p)) (nuV (gS l s) (pR5 (gS l s) τ p)) := by
        show (if (pR6 (gS l s) τ p).1 = true then _ else τ) = _
        rw [if_pos q]
      exact ⟨rfl, A8.fr hψ.2 T30_3 T30_4, by rw [e]; exact hψ.1, (F8.mono S3R).tr (hψ.2.mono (fun a z => Or.inr z))⟩
  · skip
    refine A_iconst (pc := 59) dX2_readPane_59 ?_
    refine A_goto (pc := 60) 64 dX2_readPane_60 (by decide) ?_
    refine A_callVe0 (pc := 64) kX2_96 rfl rfl (c_X2_allow (P := nuV (gS l s) (pR3 (gS l s) τ p) ≤ 9) b3.1 b3.2.2 (by have z := A2.2.1; omega) (fun z => by have z2 := (thn_bd (l := l) A2.2.1.1 A2.2.1.2).2.2.2 z; omega) (bI_t (by omega)).symm) dX2_readPane_64 rfl rfl (Nat.le_of_ble_eq_true rfl) (Nat.le_of_ble_eq_true rfl) (fun a4 b4 => ?_)
    have A4 : RdX l s (pR4 (gS l s) τ p) a4 := b4.1
    have F4 : Fr S3 σ a4 := F3.tr b4.2
    have R4 : RX 30 τ a4 := hR.fr F4 S3T
    refine A_aload_n (pc := 67) dX2_readPane_67 rfl rfl ?_
    refine A_callVe (pc := 68) kX2_84 rfl rfl (c_X2_readNumber A4) dX2_readPane_68 rfl rfl (Nat.le_of_ble_eq_true rfl) (Nat.le_of_ble_eq_true rfl) (fun a5 b5 => ?_)
    have F5 : Fr S3 σ a5 := F4.tr b5.2.1
    have R5 : RX 30 τ a5 := hR.fr F5 S3T
    have v5 := nuV_rng (g := (gS l s)) (r := pR4 (gS l s) τ p)
    refine A_istore (pc := 71) dX2_readPane_71 (Nat.le_of_ble_eq_true rfl) ?_
    refine A_aload_n (pc := 73) dX2_readPane_73 rfl rfl ?_
    refine A_aload_n (pc := 74) dX2_readPane_74 rfl rfl ?_
    refine A_getR (pc := 75) fX2_12 rfl rfl dX2_readPane_75 ?_
    refine A_iload (pc := 78) dX2_readPane_78 rfl ?_
    refine A_callV1 (pc := 80) kX2_118 rfl rfl (c_X5_isHouse TC30 R5 hO (by omega) (by omega)) dX2_readPane_80 rfl rfl (Nat.le_of_ble_eq_true rfl) (Nat.le_of_ble_eq_true rfl) ?_
    refine A_callVe0 (pc := 83) kX2_96 rfl rfl (c_X2_allow (P := sT τ.1 (nuV (gS l s) (pR4 (gS l s) τ p))) b5.1 b5.2.2 (by have z := A4.2.1; omega) (fun z => by have z2 := (thn_bd (l := l) A4.2.1.1 A4.2.1.2).2.2.2 z; omega) rfl) dX2_readPane_83 rfl rfl (Nat.le_of_ble_eq_true rfl) (Nat.le_of_ble_eq_true rfl) (fun a6 b6 => ?_)
    have A6 : RdX l s (pR5 (gS l s) τ p) a6 := b6.1
    have F6 : Fr S3 σ a6 := F5.tr b6.2
    have R6 : RX 30 τ a6 := hR.fr F6 S3T
    refine A_aload_n (pc := 86) dX2_readPane_86 rfl rfl ?_
    refine A_callVe (pc := 87) kX2_84 rfl rfl (c_X2_readNumber A6) dX2_readPane_87 rfl rfl (Nat.le_of_ble_eq_true rfl) (Nat.le_of_ble_eq_true rfl) (fun a7 b7 => ?_)
    have F7 : Fr S3 σ a7 := F6.tr b7.2.1
    have R7 : RX 30 τ a7 := hR.fr F7 S3T
    have v7 := nuV_rng (g := (gS l s)) (r := pR5 (gS l s) τ p)
    refine A_istore (pc := 90) dX2_readPane_90 (Nat.le_of_ble_eq_true rfl) ?_
    refine A_aload_n (pc := 92) dX2_readPane_92 rfl rfl ?_
    refine A_iload (pc := 93) dX2_readPane_93 rfl ?_
    refine A_callS1 (pc := 95) kX2_121 (c_X0_isWay (by omega) (by omega)) dX2_readPane_95 rfl rfl (Nat.le_of_ble_eq_true rfl) (Nat.le_of_ble_eq_true rfl) ?_
    refine A_callVe0 (pc := 98) kX2_96 rfl rfl (c_X2_allow (P := 0 ≤ nuV (gS l s) (pR5 (gS l s) τ p) ∧ nuV (gS l s) (pR5 (gS l s) τ p) < 4) b7.1 b7.2.2 (by have z := A6.2.1; omega) (fun z => by have z2 := (thn_bd (l := l) A6.2.1.1 A6.2.1.2).2.2.2 z; omega) rfl) dX2_readPane_98 rfl rfl (Nat.le_of_ble_eq_true rfl) (Nat.le_of_ble_eq_true rfl) (fun a8 b8 => ?_)
    have A8 : RdX l s (pR6 (gS l s) τ p) a8 := b8.1
    have F8 : Fr S3 σ a8 := F7.tr b8.2
    have R8 : RX 30 τ a8 := hR.fr F8 S3T
    have fa := fltV_rng A8
    refine A_aload_n (pc := 101) dX2_readPane_101 rfl rfl ?_
    refine A_getIv (pc := 102) fX2_18 rfl rfl A8.flt dX2_readPane_102 ?_
    refine A_iconst (pc := 105) dX2_readPane_105 ?_
    refine A_icmp_ne (pc := 106) 123 dX2_readPane_106 (by decide) (by omega) (by omega) (by omega) (by omega) (fun h106 => ?_) (fun h106 => ?_)
    · skip
      refine A_vret (pc := 123) rfl dX2_readPane_123 ?_
      have q := fltV_bad h106
      have e : (itP (gS l s) τ p).2 = τ := by
        show (if (pR6 (gS l s) τ p).1 = true then _ else τ) = τ
        rw [if_neg (by rw [q]; decide)]
      exact ⟨rfl, A8, by rw [e]; exact R8, F8.mono S3R⟩
    · skip
      have q := fltV_ok A8 h106
      have qb := (pR_bd (l := l) (τ := τ) p1 p2).2.2.2.2.2 q
      refine A_aload_n (pc := 109) dX2_readPane_109 rfl rfl ?_
      refine A_getR (pc := 110) fX2_12 rfl rfl dX2_readPane_110 ?_
      refine A_iload_n (pc := 113) dX2_readPane_113 rfl rfl ?_
      refine A_iload_n (pc := 114) dX2_readPane_114 rfl rfl ?_
      refine A_iload (pc := 115) dX2_readPane_115 rfl ?_
      refine A_iload (pc := 117) dX2_readPane_117 rfl ?_
      refine A_callVe (pc := 119) kX2_124 rfl rfl (c_X5_addPane TC30 R8 hO qb.2.1) dX2_readPane_119 rfl rfl (Nat.le_of_ble_eq_true rfl) (Nat.le_of_ble_eq_true rfl) (fun ψ hψ => ?_)
      refine A_pop (pc := 122) dX2_readPane_122 rfl ?_
      refine A_vret (pc := 123) rfl dX2_readPane_123 ?_
      have e : (itP (gS l s) τ p).2 = addP τ (nuV (gS l s) (pR2 (gS l s) τ p)) (nuV (gS l s) (pR3 (gS l s) τ p)) (nuV (gS l s) (pR4 (gS l s) τ p)) (nuV (gS l s) (pR5 (gS l s) τ p)) := by
        show (if (pR6 (gS l s) τ p).1 = true then _ else τ) = _
        rw [if_pos q]
      exact ⟨rfl, A8.fr hψ.2 T30_3 T30_4, by rw [e]; exact hψ.1, (F8.mono S3R).tr (hψ.2.mono (fun a z => Or.inr z))⟩
set_option maxRecDepth 20000 in
theorem c_X2_readPane {G : Gl} {d : Nat} {σ : Sg} {l : Nat → Int} {s : Int} {p : Int} {τ : Tw} (h : OkX l s p σ) (hR : RX 30 τ σ) (hO : OkT τ) : CT G (d + 5) yX2_readPane cX2_readPane 6 none [.ref (gA G 3)] σ (RE none (fun υ => RdX l s (itP (gS l s) τ p).1 υ ∧ RX 30 (itP (gS l s) τ p).2 υ ∧ Fr SRd σ υ)) := by
  refine CT.of (by decide +kernel) (Nat.le_of_ble_eq_true rfl) ?_
  change AW G _ RX2 _ _ _ 0 [(0, .ref (gA G 3))] [] _ _
  have p1 := h.2.1.1
  have p2 := h.2.1.2
  refine A_aload_n (pc := 0) dX2_readPane_0 rfl rfl ?_
  refine A_getIv (pc := 1) fX2_29 rfl rfl h.2.2.2 dX2_readPane_1 ?_
  refine A_istore_n (pc := 4) dX2_readPane_4 rfl (Nat.le_of_ble_eq_true rfl) ?_
  refine A_aload_n (pc := 5) dX2_readPane_5 rfl rfl ?_
  refine A_ldcS (pc := 6) (List.mem_of_getElem? (i := 2) rfl) dX2_readPane_6 ?_
  refine A_callVe0 (pc := 8) kX2_80 rfl rfl (c_X2_expectWord h.rdx (i := 2) (by decide)) dX2_readPane_8 rfl rfl (Nat.le_of_ble_eq_true rfl) (Nat.le_of_ble_eq_true rfl) (fun υ hυ => ?_)
  have w1 : RdX l s (wdF (gS l s) 2 4 0 p) υ := hυ.1
  have fw := fltV_rng w1
  have hR1 : RX 30 τ υ := hR.fr hυ.2 S3T
  refine A_aload_n (pc := 11) dX2_readPane_11 rfl rfl ?_
  refine A_getIv (pc := 12) fX2_18 rfl rfl w1.flt dX2_readPane_12 ?_
  refine A_iconst (pc := 15) dX2_readPane_15 ?_
  refine A_icmp_ne (pc := 16) 34 dX2_readPane_16 (by decide) (by omega) (by omega) (by omega) (by omega) (fun h16 => ?_) (fun h16 => ?_)
  · skip
    refine A_loc (l2 := [(0, _), (1, _)]) ⟨rfl, rfl, trivial⟩ ?_
    have e : pR2 (gS l s) τ p = (wdF (gS l s) 2 4 0 p) := by unfold pR2 rmA; rw [if_neg (fun z => absurd z.1 (by rw [fltV_bad h16]; decide))]
    exact l_X2_readPane (σ := σ) hO hR p1 p2 υ (by rw [e]; exact w1) hυ.2
  · skip
    refine A_aload_n (pc := 19) dX2_readPane_19 rfl rfl ?_
    refine A_getR (pc := 20) fX2_12 rfl rfl dX2_readPane_20 ?_
    refine A_callV1 (pc := 23) kX2_111 rfl rfl (c_X5_hasRoomForPane TC30 hR1 hO) dX2_readPane_23 rfl rfl (Nat.le_of_ble_eq_true rfl) (Nat.le_of_ble_eq_true rfl) ?_
    refine A_ifb_ne (pc := 26) 34 dX2_readPane_26 (by decide) (fun h26 => ?_) (fun h26 => ?_)
    · skip
      refine A_loc (l2 := [(0, _), (1, _)]) ⟨rfl, rfl, trivial⟩ ?_
      have e : pR2 (gS l s) τ p = (wdF (gS l s) 2 4 0 p) := by unfold pR2 rmA; rw [if_neg (fun z => z.2 h26)]
      exact l_X2_readPane (σ := σ) hO hR p1 p2 υ (by rw [e]; exact w1) hυ.2
    · skip
      refine A_aload_n (pc := 29) dX2_readPane_29 rfl rfl ?_
      refine A_iload_n (pc := 30) dX2_readPane_30 rfl rfl ?_
      refine A_putI (pc := 31) fX2_18 wr_1_1 rfl rfl dX2_readPane_31 ?_
      refine A_loc (l2 := [(0, _), (1, _)]) ⟨rfl, rfl, trivial⟩ ?_
      have e : pR2 (gS l s) τ p = (false, p) := by unfold pR2 rmA; rw [if_pos ⟨fltV_ok w1 h16, h26⟩]
      exact l_X2_readPane (σ := σ) hO hR p1 p2 _ (by rw [e]; exact ((w1.okx (fltV_ok w1 h16)).bad p1 p2).rdx) (hυ.2.uI rfl)
theorem dX2_readItem_0 : decode cX2_readItem 0 = .ok (.aload_n 0, 1) := by decide +kernel
theorem dX2_readItem_1 : decode cX2_readItem 1 = .ok (.invokevirtual 59, 3) := by decide +kernel
theorem dX2_readItem_4 : decode cX2_readItem 4 = .ok (.lookupswitch 87 #[(104, 52), (112, 66), (114, 80), (119, 73), (121, 59)], 52) := by decide +kernel
theorem dX2_readItem_56 : decode cX2_readItem 56 = .ok (.aload_n 0, 1) := by decide +kernel
theorem dX2_readItem_57 : decode cX2_readItem 57 = .ok (.invokevirtual 63, 3) := by decide +kernel
theorem dX2_readItem_60 : decode cX2_readItem 60 = .ok (.goto 39, 3) := by decide +kernel
theorem dX2_readItem_63 : decode cX2_readItem 63 = .ok (.aload_n 0, 1) := by decide +kernel
theorem dX2_readItem_64 : decode cX2_readItem 64 = .ok (.invokevirtual 66, 3) := by decide +kernel
theorem dX2_readItem_67 : decode cX2_readItem 67 = .ok (.goto 32, 3) := by decide +kernel
theorem dX2_readItem_70 : decode cX2_readItem 70 = .ok (.aload_n 0, 1) := by decide +kernel
theorem dX2_readItem_71 : decode cX2_readItem 71 = .ok (.invokevirtual 69, 3) := by decide +kernel
theorem dX2_readItem_74 : decode cX2_readItem 74 = .ok (.goto 25, 3) := by decide +kernel
theorem dX2_readItem_77 : decode cX2_readItem 77 = .ok (.aload_n 0, 1) := by decide +kernel
theorem dX2_readItem_78 : decode cX2_readItem 78 = .ok (.invokevirtual 72, 3) := by decide +kernel
theorem dX2_readItem_81 : decode cX2_readItem 81 = .ok (.goto 18, 3) := by decide +kernel
theorem dX2_readItem_84 : decode cX2_readItem 84 = .ok (.aload_n 0, 1) := by decide +kernel
theorem dX2_readItem_85 : decode cX2_readItem 85 = .ok (.invokevirtual 75, 3) := by decide +kernel
theorem dX2_readItem_88 : decode cX2_readItem 88 = .ok (.goto 11, 3) := by decide +kernel
theorem dX2_readItem_91 : decode cX2_readItem 91 = .ok (.aload_n 0, 1) := by decide +kernel
theorem dX2_readItem_92 : decode cX2_readItem 92 = .ok (.aload_n 0, 1) := by decide +kernel
theorem dX2_readItem_93 : decode cX2_readItem 93 = .ok (.getfield 29, 3) := by decide +kernel
theorem dX2_readItem_96 : decode cX2_readItem 96 = .ok (.putfield 18, 3) := by decide +kernel
theorem dX2_readItem_99 : decode cX2_readItem 99 = .ok (.return_, 1) := by decide +kernel
set_option maxRecDepth 20000 in
theorem c_X2_readItem {G : Gl} {d : Nat} {σ : Sg} {l : Nat → Int} {s : Int} {p : Int} {τ : Tw} (h : OkX l s p σ) (hR : RX 30 τ σ) (hO : OkT τ) : CT G (d + 6) yX2_readItem cX2_readItem 1 none [.ref (gA G 3)] σ (RE none (fun υ => RdX l s (itF (gS l s) τ p).1 υ ∧ RX 30 (itF (gS l s) τ p).2 υ ∧ Fr SRd σ υ)) := by
  refine CT.of (by decide +kernel) (Nat.le_of_ble_eq_true rfl) ?_
  change AW G _ RX2 _ _ _ 0 [(0, .ref (gA G 3))] [] _ _
  have gr := gS_rng (l := l) (s := s) (p := p) h.1.2.2.2
  refine A_aload_n (pc := 0) dX2_readItem_0 rfl rfl ?_
  refine A_callV1 (pc := 1) kX2_59 rfl rfl (c_X2_letter h.1 h.2.1.1 h.2.1.2 h.2.2.2) dX2_readItem_1 rfl rfl (Nat.le_of_ble_eq_true rfl) (Nat.le_of_ble_eq_true rfl) ?_
  refine A_lsw (pc := 4) [(104, 56), (112, 70), (114, 84), (119, 77), (121, 63)] 91 dX2_readItem_4 (by decide) (by decide) (by decide) (by omega) (by omega) ?_
  refine ⟨fun h4 => ?_, fun h4n104 => ?_⟩
  · skip
    refine A_aload_n (pc := 56) dX2_readItem_56 rfl rfl ?_
    refine A_callVe0 (pc := 57) kX2_63 rfl rfl (c_X2_readHouse h hR hO) dX2_readItem_57 rfl rfl (Nat.le_of_ble_eq_true rfl) (Nat.le_of_ble_eq_true rfl) (fun υ hυ => ?_)
    refine A_goto (pc := 60) 99 dX2_readItem_60 (by decide) ?_
    refine A_vret (pc := 99) rfl dX2_readItem_99 ?_
    have e : itF (gS l s) τ p = itH (gS l s) τ p := by unfold itF; rw [if_pos (by omega)]
    rw [e]
    exact ⟨rfl, hυ⟩
  refine ⟨fun h4 => ?_, fun h4n112 => ?_⟩
  · skip
    refine A_aload_n (pc := 70) dX2_readItem_70 rfl rfl ?_
    refine A_callVe0 (pc := 71) kX2_69 rfl rfl (c_X2_readPane h hR hO) dX2_readItem_71 rfl rfl (Nat.le_of_ble_eq_true rfl) (Nat.le_of_ble_eq_true rfl) (fun υ hυ => ?_)
    refine A_goto (pc := 74) 99 dX2_readItem_74 (by decide) ?_
    refine A_vret (pc := 99) rfl dX2_readItem_99 ?_
    have e : itF (gS l s) τ p = itP (gS l s) τ p := by unfold itF; rw [if_neg (by omega), if_neg (by omega), if_pos (by omega)]
    rw [e]
    exact ⟨rfl, hυ⟩
  refine ⟨fun h4 => ?_, fun h4n114 => ?_⟩
  · skip
    refine A_aload_n (pc := 84) dX2_readItem_84 rfl rfl ?_
    refine A_callVe0 (pc := 85) kX2_75 rfl rfl (c_X2_readReach h hR hO) dX2_readItem_85 rfl rfl (Nat.le_of_ble_eq_true rfl) (Nat.le_of_ble_eq_true rfl) (fun υ hυ => ?_)
    refine A_goto (pc := 88) 99 dX2_readItem_88 (by decide) ?_
    refine A_vret (pc := 99) rfl dX2_readItem_99 ?_
    have e : itF (gS l s) τ p = itR (gS l s) τ p := by unfold itF; rw [if_neg (by omega), if_neg (by omega), if_neg (by omega), if_neg (by omega), if_pos (by omega)]
    rw [e]
    exact ⟨rfl, hυ⟩
  refine ⟨fun h4 => ?_, fun h4n119 => ?_⟩
  · skip
    refine A_aload_n (pc := 77) dX2_readItem_77 rfl rfl ?_
    refine A_callVe0 (pc := 78) kX2_72 rfl rfl (c_X2_readWalker h hR hO) dX2_readItem_78 rfl rfl (Nat.le_of_ble_eq_true rfl) (Nat.le_of_ble_eq_true rfl) (fun υ hυ => ?_)
    refine A_goto (pc := 81) 99 dX2_readItem_81 (by decide) ?_
    refine A_vret (pc := 99) rfl dX2_readItem_99 ?_
    have e : itF (gS l s) τ p = itW (gS l s) τ p := by unfold itF; rw [if_neg (by omega), if_neg (by omega), if_neg (by omega), if_pos (by omega)]
    rw [e]
    exact ⟨rfl, hυ⟩
  refine ⟨fun h4 => ?_, fun h4n121 => ?_⟩
  · skip
    refine A_aload_n (pc := 63) dX2_readItem_63 rfl rfl ?_
    refine A_callVe0 (pc := 64) kX2_66 rfl rfl (c_X2_readYard h hR hO) dX2_readItem_64 rfl rfl (Nat.le_of_ble_eq_true rfl) (Nat.le_of_ble_eq_true rfl) (fun υ hυ => ?_)
    refine A_goto (pc := 67) 99 dX2_readItem_67 (by decide) ?_
    refine A_vret (pc := 99) rfl dX2_readItem_99 ?_
    have e : itF (gS l s) τ p = itY (gS l s) τ p := by unfold itF; rw [if_neg (by omega), if_pos (by omega)]
    rw [e]
    exact ⟨rfl, hυ⟩
  change AW G _ _ _ _ _ 91 _ _ _ _
  refine A_aload_n (pc := 91) dX2_readItem_91 rfl rfl ?_
  refine A_aload_n (pc := 92) dX2_readItem_92 rfl rfl ?_
  refine A_getIv (pc := 93) fX2_29 rfl rfl h.2.2.2 dX2_readItem_93 ?_
  refine A_putI (pc := 96) fX2_18 wr_1_1 rfl rfl dX2_readItem_96 ?_
  refine A_vret (pc := 99) rfl dX2_readItem_99 ?_
  have e : itF (gS l s) τ p = ((false, p), τ) := by unfold itF; rw [if_neg (by omega), if_neg (by omega), if_neg (by omega), if_neg (by omega), if_neg (by omega)]
  rw [e]
  exact ⟨rfl, (h.bad h.2.1.1 h.2.1.2).rdx, hR.fr (S := S3) (Fr.rf.uI rfl) S3T, Fr.rf.uI (Or.inl rfl)⟩
