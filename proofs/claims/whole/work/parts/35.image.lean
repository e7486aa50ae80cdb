/-! PART 35: the image kept by the class -/
def qImage (Z : Zt) : Int × Zt := (Z.1.2.1 0, zImg Z)
def SIm : Nat → Prop := fun a => TS 22 a ∨ a = 0
theorem RelX.img {Z : Zt} {σ υ : Sg} (h : RelX Z σ) (hT : RX 22 Z.1 υ) (hF : Fr SIm σ υ) (h0 : υ.1 0 2 = 1) : RelX (zImg Z) υ := by
  obtain ⟨h1, h2, -, h5, h6, h7, h8⟩ := h
  have n : ∀ a, a ≠ 0 → (a < 22 ∨ 30 ≤ a) → ¬ SIm a := fun a ha hb q => by unfold SIm TS at q; omega
  have e : ∀ a, a ≠ 0 → (a < 22 ∨ 30 ≤ a) → υ.1 a = σ.1 a := fun a ha hb => (hF a (n a ha hb)).1
  refine ⟨h1.fr hF (fun a q z => by unfold SIm TS at q; omega), fun k hk => (h2 k hk).fr hF (n _ (by omega) (by omega)) (n _ (by omega) (by omega)), ⟨by rw [h0]; exact (bI_t rfl).symm, fun _ => hT⟩, fun r r1 r2 => ?_, ?_, ?_, fun i i1 i2 => ?_⟩
  · rw [e 2 (by omega) (by omega)]; exact h5 r r1 r2
  · rw [e 3 (by omega) (by omega)]; exact h6
  · rw [e 12 (by omega) (by omega)]; exact h7
  · rw [e 13 (by omega) (by omega)]; exact h8 i i1 i2
theorem SImX : ∀ a, SIm a → XC a := fun a h => by unfold SIm TS at h; unfold XC; omega
theorem dX8_image_0 : decode cX8_image 0 = .ok (.aload_n 0, 1) := by decide +kernel
theorem dX8_image_1 : decode cX8_image 1 = .ok (.getfield 16, 3) := by decide +kernel
theorem dX8_image_4 : decode cX8_image 4 = .ok (.aload_n 0, 1) := by decide +kernel
theorem dX8_image_5 : decode cX8_image 5 = .ok (.getfield 10, 3) := by decide +kernel
theorem dX8_image_8 : decode cX8_image 8 = .ok (.invokevirtual 232, 3) := by decide +kernel
theorem dX8_image_11 : decode cX8_image 11 = .ok (.aload_n 0, 1) := by decide +kernel
theorem dX8_image_12 : decode cX8_image 12 = .ok (.iconst 1, 1) := by decide +kernel
theorem dX8_image_13 : decode cX8_image 13 = .ok (.putfield 19, 3) := by decide +kernel
theorem dX8_image_16 : decode cX8_image 16 = .ok (.aload_n 0, 1) := by decide +kernel
theorem dX8_image_17 : decode cX8_image 17 = .ok (.getfield 16, 3) := by decide +kernel
theorem dX8_image_20 : decode cX8_image 20 = .ok (.getfield 360, 3) := by decide +kernel
theorem dX8_image_23 : decode cX8_image 23 = .ok (.ireturn, 1) := by decide +kernel
set_option maxRecDepth 20000 in
theorem c_X8_image {G : Gl} {d : Nat} {σ : Sg} {Z : Zt} (hZ : RelX Z σ) (hO : OkZ Z) : CT G (d + 1) yX8_image cX8_image 1 (some .int) [.ref (gA G 0)] σ (RE (some (.int (iI (qImage Z).1))) (fun υ => RelX (qImage Z).2 υ ∧ Fr XC σ υ)) := by
  refine CT.of (by decide +kernel) (Nat.le_of_ble_eq_true rfl) ?_
  change AW G _ RX8 _ _ _ 0 [(0, .ref (gA G 0))] [] _ _
  refine A_aload_n (pc := 0) dX8_image_0 rfl rfl ?_
  refine A_getR (pc := 1) fX8_16 rfl rfl dX8_image_1 ?_
  refine A_aload_n (pc := 4) dX8_image_4 rfl rfl ?_
  refine A_getR (pc := 5) fX8_10 rfl rfl dX8_image_5 ?_
  refine A_callVe0 (pc := 8) kX8_232 rfl rfl (c_X5_become (Or.inr (Or.inl rfl)) TC14 (by decide) hZ.1 hO.1) dX8_image_8 rfl rfl (Nat.le_of_ble_eq_true rfl) (Nat.le_of_ble_eq_true rfl) (fun υ hυ => ?_)
  have hF : Fr SIm σ (uI υ 0 2 1) := (hυ.2.mono (fun a z => Or.inl z)).uI (Or.inr rfl)
  have hT : RX 22 Z.1 (uI υ 0 2 1) := hυ.1.fr (S := fun a => a = 0) (Fr.rf.uI rfl) (fun a z => by have z2 : a = 0 := z; omega)
  refine A_aload_n (pc := 11) dX8_image_11 rfl rfl ?_
  refine A_iconst (pc := 12) dX8_image_12 ?_
  refine A_putZ (pc := 13) fX8_19 wr_7_2 rfl rfl rfl rfl dX8_image_13 ?_
  refine A_aload_n (pc := 16) dX8_image_16 rfl rfl ?_
  refine A_getR (pc := 17) fX8_16 rfl rfl dX8_image_17 ?_
  refine A_getIv (pc := 20) fX8_360 rfl rfl (show _ = Z.1.2.1 0 from hT.2.1 0 (by decide)) dX8_image_20 ?_
  refine A_iret (pc := 23) rfl dX8_image_23 ?_
  exact RQX rfl (hZ.img hT hF (by rw [uI_at, if_pos ⟨rfl, rfl⟩])) (hF.mono SImX)
