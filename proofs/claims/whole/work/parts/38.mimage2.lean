/-! PART 38: the reference's image -/
theorem RelM.img {Z : Zt} {σ υ : Sg} (h : RelM Z σ) (hc : ∀ a, a ≠ 54 → a ≠ 71 → υ.1 a = σ.1 a ∧ υ.2 a = σ.2 a) (hf : ∀ k, k ≠ 23 → k ≠ 25 → υ.1 54 k = σ.1 54 k) (h23 : υ.1 54 23 = 1) (hR : RMo Z.1 υ) : RelM (zImg Z) υ := by
  obtain ⟨⟨t1, t2, t3, t4, t5, t6, t7⟩, a2, -, a5, a6, a7, a8⟩ := h
  have e : ∀ a, a ≠ 54 → a ≠ 71 → υ.1 a = σ.1 a := fun a ha hb => (hc a ha hb).1
  exact ⟨⟨fun i hi => by rw [e 62 (by omega) (by omega)]; exact t1 i hi, by rw [hf 0 (by omega) (by omega)]; exact t2, by rw [hf 5 (by omega) (by omega)]; exact t3, fun k hk => by rw [e 63 (by omega) (by omega)]; exact t4 k hk, by rw [hf 11 (by omega) (by omega)]; exact t5, fun j p hj hp => by rw [e _ (by omega) (by omega)]; exact t6 j p hj hp, fun j p hj hp => by rw [e _ (by omega) (by omega)]; exact t7 j p hj hp⟩,
    fun k hk => ⟨by rw [e 64 (by omega) (by omega)]; exact (a2 k hk).1, fun q => by rw [e 65 (by omega) (by omega)]; exact (a2 k hk).2.1 q, fun i hi => by rw [(hc 66 (by omega) (by omega)).2]; exact (a2 k hk).2.2 i hi⟩, ⟨by rw [h23]; exact (bI_t rfl).symm, fun _ => hR⟩, fun r r1 r2 => by rw [e 70 (by omega) (by omega)]; exact a5 r r1 r2, by rw [hf 18 (by omega) (by omega)]; exact a6, by rw [hf 20 (by omega) (by omega)]; exact a7, fun i i1 i2 => by rw [e 69 (by omega) (by omega)]; exact a8 i i1 i2⟩
def RMk (c : Nat) (τ : Tw) (σ : Sg) : Prop := (∀ j p : Nat, j < 4 → (p : Int) < τ.2.1 0 → σ.1 c (9 * j + p) = τ.2.2 j p) ∧ (∀ j w : Nat, j < 3 → (w : Int) < τ.2.1 1 → σ.1 c (36 + 5 * j + w) = τ.2.2 (4 + j) w) ∧ (∀ i : Nat, i < 49 → σ.1 c (51 + i) = bI (τ.1.testBit i = true)) ∧
  (∀ k : Nat, k < 3 → σ.1 c (100 + k) = τ.2.1 (2 + k)) ∧ σ.1 c 103 = τ.2.1 0 ∧ σ.1 c 104 = τ.2.1 1
theorem RMo.rmk {τ : Tw} {σ : Sg} (h : RMo τ σ) : RMk 71 τ σ := ⟨h.1, h.2.1, h.2.2.1, h.2.2.2.1, h.2.2.2.2.1, h.2.2.2.2.2.1⟩
theorem RMk.rmo {τ : Tw} {σ : Sg} (h : RMk 71 τ σ) (h5 : σ.1 54 25 = τ.2.1 5) : RMo τ σ := ⟨h.1, h.2.1, h.2.2.1, h.2.2.2.1, h.2.2.2.2.1, h.2.2.2.2.2, h5⟩
theorem KeI.rmk {c : Nat} {τ : Tw} {σ0 υ : Sg} (hM : RMt τ σ0) (hO : OkT τ) (h : ∀ x, x < 105 → υ.1 c x = keF σ0 x) : RMk c τ υ := by
  obtain ⟨t1, t2, t3, t4, t5, t6, t7⟩ := hM
  obtain ⟨-, o2, o3, o4, o5, -⟩ := hO
  refine ⟨fun j p hj hp => ?_, fun j w hj hw => ?_, fun i hi => ?_, fun k hk => ?_, ?_, ?_⟩
  · rw [h _ (by omega)]
    unfold keF
    rw [if_pos (by omega), show (9 * j + p) / 9 = j by omega, show (9 * j + p) % 9 = p by omega]
    exact t6 j p hj hp
  · rw [h _ (by omega)]
    unfold keF
    rw [if_neg (by omega), if_pos (by omega), show (36 + 5 * j + w - 36) / 5 = j by omega, show (36 + 5 * j + w - 36) % 5 = w by omega]
    exact t7 j w hj hw
  · rw [h _ (by omega)]
    unfold keF
    rw [if_neg (by omega), if_neg (by omega), if_pos (by omega), show 51 + i - 51 = i by omega]
    exact t1 i hi
  · rw [h _ (by omega)]
    unfold keF
    rw [if_neg (by omega), if_neg (by omega), if_neg (by omega), if_pos (by omega), show 100 + k - 100 = k by omega]
    exact t4 k hk
  · rw [h _ (by omega)]; exact t2
  · rw [h _ (by omega)]; exact t3
theorem RMt.f23 {τ : Tw} {σ : Sg} (h : RMt τ σ) {k : Nat} {v : Int} (hk : 11 < k) : RMt τ (uI σ 54 k v) := by
  obtain ⟨t1, t2, t3, t4, t5, t6, t7⟩ := h
  have e : ∀ a, a ≠ 54 → (uI σ 54 k v).1 a = σ.1 a := fun a ha => (uI_ne ha).symm
  exact ⟨fun i hi => by rw [e 62 (by omega)]; exact t1 i hi, by rw [g54 (by omega)]; exact t2, by rw [g54 (by omega)]; exact t3, fun j hj => by rw [e 63 (by omega)]; exact t4 j hj, by rw [g54 (by omega)]; exact t5, fun j p hj hp => by rw [e _ (by omega)]; exact t6 j p hj hp, fun j p hj hp => by rw [e _ (by omega)]; exact t7 j p hj hp⟩
theorem dX9_image_0 : decode cX9_image 0 = .ok (.aload_n 0, 1) := by decide +kernel
theorem dX9_image_1 : decode cX9_image 1 = .ok (.iconst 1, 1) := by decide +kernel
theorem dX9_image_2 : decode cX9_image 2 = .ok (.putfield 307, 3) := by decide +kernel
theorem dX9_image_5 : decode cX9_image 5 = .ok (.aload_n 0, 1) := by decide +kernel
theorem dX9_image_6 : decode cX9_image 6 = .ok (.aload_n 0, 1) := by decide +kernel
theorem dX9_image_7 : decode cX9_image 7 = .ok (.getfield 60, 3) := by decide +kernel
theorem dX9_image_10 : decode cX9_image 10 = .ok (.invokevirtual 212, 3) := by decide +kernel
theorem dX9_image_13 : decode cX9_image 13 = .ok (.aload_n 0, 1) := by decide +kernel
theorem dX9_image_14 : decode cX9_image 14 = .ok (.aload_n 0, 1) := by decide +kernel
theorem dX9_image_15 : decode cX9_image 15 = .ok (.getfield 72, 3) := by decide +kernel
theorem dX9_image_18 : decode cX9_image 18 = .ok (.putfield 311, 3) := by decide +kernel
theorem dX9_image_21 : decode cX9_image 21 = .ok (.aload_n 0, 1) := by decide +kernel
theorem dX9_image_22 : decode cX9_image 22 = .ok (.getfield 83, 3) := by decide +kernel
theorem dX9_image_25 : decode cX9_image 25 = .ok (.ireturn, 1) := by decide +kernel
set_option maxRecDepth 20000 in
theorem c_X9_image {G : Gl} {d : Nat} {σ : Sg} {Z : Zt} (hZ : RelM Z σ) (hO : OkZ Z) : CT G (d + 1) yX9_image cX9_image 1 (some .int) [.ref (gA G 54)] σ (RE (some (.int (iI (qImage Z).1))) (fun υ => RelM (qImage Z).2 υ ∧ Fr MC σ υ)) := by
  refine CT.of (by decide +kernel) (Nat.le_of_ble_eq_true rfl) ?_
  change AW G _ RX9 _ _ _ 0 [(0, .ref (gA G 54))] [] _ _
  refine A_aload_n (pc := 0) dX9_image_0 rfl rfl ?_
  refine A_iconst (pc := 1) dX9_image_1 ?_
  refine A_putZ (pc := 2) fX9_307 wr_8_23 rfl rfl rfl rfl dX9_image_2 ?_
  have hM1 : RMt Z.1 (uI σ 54 23 1) := hZ.1.f23 (by decide)
  refine A_aload_n (pc := 5) dX9_image_5 rfl rfl ?_
  refine A_aload_n (pc := 6) dX9_image_6 rfl rfl ?_
  refine A_getR (pc := 7) fX9_60 rfl rfl dX9_image_7 ?_
  refine A_callVe0 (pc := 10) kX9_212 rfl rfl (c_X9_keep (Or.inr rfl) hM1) dX9_image_10 rfl rfl (Nat.le_of_ble_eq_true rfl) (Nat.le_of_ble_eq_true rfl) (fun υ hυ => ?_)
  have e54 : ∀ k, υ.1 54 k = (uI σ 54 23 1).1 54 k := fun k => by rw [(hυ.1 54 (by decide)).1]
  refine A_aload_n (pc := 13) dX9_image_13 rfl rfl ?_
  refine A_aload_n (pc := 14) dX9_image_14 rfl rfl ?_
  refine A_getIv (pc := 15) fX9_72 rfl rfl ((e54 11).trans (show _ = Z.1.2.1 5 from hM1.2.2.2.2.1)) dX9_image_15 ?_
  refine A_putI (pc := 18) fX9_311 wr_8_25 rfl rfl dX9_image_18 ?_
  refine A_aload_n (pc := 21) dX9_image_21 rfl rfl ?_
  refine A_getIv (pc := 22) fX9_83 rfl rfl (show _ = Z.1.2.1 0 from by rw [g54 (by decide), e54]; exact hM1.2.1) dX9_image_22 ?_
  refine A_iret (pc := 25) rfl dX9_image_25 ?_
  have hc : ∀ a, a ≠ 54 → a ≠ 71 → (uI υ 54 25 (Z.1.2.1 5)).1 a = σ.1 a ∧ (uI υ 54 25 (Z.1.2.1 5)).2 a = σ.2 a := fun a ha hb => ⟨by rw [← uI_ne ha, (hυ.1 a hb).1, ← uI_ne ha], (hυ.1 a hb).2⟩
  have hR : RMo Z.1 (uI υ 54 25 (Z.1.2.1 5)) := (KeI.rmk hM1 hO.1 (fun x hx => by rw [uI_at, if_neg (by omega)]; exact hυ.2 x hx)).rmo (by rw [uI_at, if_pos ⟨rfl, rfl⟩])
  exact RQM rfl (hZ.img hc (fun k h1 h2 => by rw [g54 (by omega), e54, g54 (by omega)]) (by rw [g54 (by decide), e54, uI_at, if_pos ⟨rfl, rfl⟩]) hR) (fun a ha => by
    have h1 : a < 54 := Nat.lt_of_not_le ha
    exact hc a (by omega) (by omega))
