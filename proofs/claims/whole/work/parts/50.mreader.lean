/-! PART 50: the reference's reader -/
def TxM (l : Nat → Int) (s : Int) (k : Nat) (σ : Sg) : Prop := k < 8 ∧ σ.1 54 15 = (k : Int) ∧ σ.1 65 k = s ∧ (∀ i : Nat, (i : Int) < s → (σ.2 66 (160 * k + i)).toInt32.toInt = l i) ∧ (0 ≤ s ∧ s ≤ 160) ∧ ∀ i, -2147483648 ≤ l i ∧ l i < 2147483648
def AtM (l : Nat → Int) (s : Int) (k : Nat) (p : Int) (σ : Sg) : Prop := TxM l s k σ ∧ (0 ≤ p ∧ p ≤ s) ∧ σ.1 54 16 = p
def FrA (σ υ : Sg) : Prop := Fr (fun a => a = 54 ∨ a = 67) σ υ ∧ ∀ j, j ≠ 16 → υ.1 54 j = σ.1 54 j
def FrB (σ υ : Sg) : Prop := Fr (fun a => a = 54) σ υ ∧ ∀ j, j ≠ 16 → υ.1 54 j = σ.1 54 j
theorem FrB.a {σ υ : Sg} (h : FrB σ υ) : FrA σ υ := ⟨h.1.mono (fun a z => Or.inl z), h.2⟩
theorem FrB.n {σ υ : Sg} (h : FrB σ υ) (x : Nat) : υ.1 67 x = σ.1 67 x := by rw [(h.1 67 (by decide)).1]
theorem FrB.rf {σ : Sg} : FrB σ σ := ⟨Fr.rf, fun _ _ => rfl⟩
theorem FrB.tr {σ υ ω : Sg} (h1 : FrB σ υ) (h2 : FrB υ ω) : FrB σ ω := ⟨h1.1.tr h2.1, fun j hj => (h2.2 j hj).trans (h1.2 j hj)⟩
theorem FrA.rf {σ : Sg} : FrA σ σ := ⟨Fr.rf, fun _ _ => rfl⟩
theorem FrA.tr {σ υ ω : Sg} (h1 : FrA σ υ) (h2 : FrA υ ω) : FrA σ ω := ⟨h1.1.tr h2.1, fun j hj => (h2.2 j hj).trans (h1.2 j hj)⟩
theorem TxM.ag {l : Nat → Int} {s : Int} {k : Nat} {σ υ : Sg} (h : TxM l s k σ) (h1 : υ.1 54 15 = σ.1 54 15) (h2 : υ.1 65 = σ.1 65) (h3 : υ.2 66 = σ.2 66) : TxM l s k υ := by
  obtain ⟨a1, a2, a3, a4, a5⟩ := h
  exact ⟨a1, by rw [h1]; exact a2, by rw [h2]; exact a3, fun i hi => by rw [h3]; exact a4 i hi, a5⟩
theorem AtM.at {l : Nat → Int} {s p q : Int} {k : Nat} {σ : Sg} (h : AtM l s k p σ) (q1 : 0 ≤ q) (q2 : q ≤ s) : AtM l s k q (uI σ 54 16 q) ∧ FrB σ (uI σ 54 16 q) := by
  refine ⟨⟨h.1.ag (by rw [uI_at, if_neg (by omega)]) rfl rfl, ⟨q1, q2⟩, by rw [uI_at, if_pos ⟨rfl, rfl⟩]⟩, Fr.rf.uI rfl, fun j hj => by rw [uI_at, if_neg (by omega)]⟩
theorem AtM.nb {l : Nat → Int} {s p v : Int} {k j : Nat} {σ : Sg} (h : AtM l s k p σ) : AtM l s k p (uI σ 67 j v) ∧ FrA σ (uI σ 67 j v) := by
  refine ⟨⟨h.1.ag (by rw [uI_at, if_neg (by omega)]) (uI_ne (by decide)).symm rfl, h.2.1, by rw [uI_at, if_neg (by omega)]; exact h.2.2⟩, Fr.rf.uI (Or.inr rfl), fun j hj => by rw [uI_at, if_neg (by omega)]⟩
theorem dX9_sign_0 : decode cX9_sign 0 = .ok (.aload_n 0, 1) := by decide +kernel
theorem dX9_sign_1 : decode cX9_sign 1 = .ok (.getfield 165, 3) := by decide +kernel
theorem dX9_sign_4 : decode cX9_sign 4 = .ok (.aload_n 0, 1) := by decide +kernel
theorem dX9_sign_5 : decode cX9_sign 5 = .ok (.getfield 41, 3) := by decide +kernel
theorem dX9_sign_8 : decode cX9_sign 8 = .ok (.aload_n 0, 1) := by decide +kernel
theorem dX9_sign_9 : decode cX9_sign 9 = .ok (.getfield 168, 3) := by decide +kernel
theorem dX9_sign_12 : decode cX9_sign 12 = .ok (.iaload, 1) := by decide +kernel
theorem dX9_sign_13 : decode cX9_sign 13 = .ok (.if_icmp .ge 25, 3) := by decide +kernel
theorem dX9_sign_16 : decode cX9_sign 16 = .ok (.aload_n 0, 1) := by decide +kernel
theorem dX9_sign_17 : decode cX9_sign 17 = .ok (.getfield 44, 3) := by decide +kernel
theorem dX9_sign_20 : decode cX9_sign 20 = .ok (.sipush 160, 3) := by decide +kernel
theorem dX9_sign_23 : decode cX9_sign 23 = .ok (.aload_n 0, 1) := by decide +kernel
theorem dX9_sign_24 : decode cX9_sign 24 = .ok (.getfield 168, 3) := by decide +kernel
theorem dX9_sign_27 : decode cX9_sign 27 = .ok (.imul, 1) := by decide +kernel
theorem dX9_sign_28 : decode cX9_sign 28 = .ok (.aload_n 0, 1) := by decide +kernel
theorem dX9_sign_29 : decode cX9_sign 29 = .ok (.getfield 165, 3) := by decide +kernel
theorem dX9_sign_32 : decode cX9_sign 32 = .ok (.iadd, 1) := by decide +kernel
theorem dX9_sign_33 : decode cX9_sign 33 = .ok (.laload, 1) := by decide +kernel
theorem dX9_sign_34 : decode cX9_sign 34 = .ok (.l2i, 1) := by decide +kernel
theorem dX9_sign_35 : decode cX9_sign 35 = .ok (.goto 4, 3) := by decide +kernel
theorem dX9_sign_38 : decode cX9_sign 38 = .ok (.iconst (-1), 1) := by decide +kernel
theorem dX9_sign_39 : decode cX9_sign 39 = .ok (.ireturn, 1) := by decide +kernel
set_option maxRecDepth 20000 in
theorem c_X9_sign {G : Gl} {d : Nat} {σ : Sg} {l : Nat → Int} {s : Int} {k : Nat} {p : Int} (h : AtM l s k p σ) : CT G d yX9_sign cX9_sign 1 (some .int) [.ref (gA G 54)] σ (R1 (.int (iI (gS l s p))) σ) := by
  refine CT.of (by decide +kernel) (Nat.le_of_ble_eq_true rfl) ?_
  change AW G _ RX9 _ _ _ 0 [(0, .ref (gA G 54))] [] _ _
  obtain ⟨⟨k8, t1, t2, t3, t4, t5⟩, ⟨p1, p2⟩, t6⟩ := h
  refine A_aload_n (pc := 0) dX9_sign_0 rfl rfl ?_
  refine A_getIv (pc := 1) fX9_165 rfl rfl t6 dX9_sign_1 ?_
  refine A_aload_n (pc := 4) dX9_sign_4 rfl rfl ?_
  refine A_getR (pc := 5) fX9_41 rfl rfl dX9_sign_5 ?_
  refine A_aload_n (pc := 8) dX9_sign_8 rfl rfl ?_
  refine A_getIv (pc := 9) fX9_168 rfl rfl t1 dX9_sign_9 ?_
  refine A_ialdv (pc := 12) k rfl rfl (by omega) (Nat.le_of_ble_eq_true rfl) t2 dX9_sign_12 ?_
  refine A_icmp_ge (pc := 13) 38 dX9_sign_13 (by decide) (by omega) (by omega) (by omega) (by omega) (fun h13 => ?_) (fun h13 => ?_)
  · skip
    refine A_iconst (pc := 38) dX9_sign_38 ?_
    refine A_iret (pc := 39) rfl dX9_sign_39 ?_
    exact R1_e (by unfold gS; rw [if_neg (by omega)])
  · skip
    refine A_aload_n (pc := 16) dX9_sign_16 rfl rfl ?_
    refine A_getR (pc := 17) fX9_44 rfl rfl dX9_sign_17 ?_
    refine A_sipush (pc := 20) dX9_sign_20 (by decide) ?_
    refine A_aload_n (pc := 23) dX9_sign_23 rfl rfl ?_
    refine A_getIv (pc := 24) fX9_168 rfl rfl t1 dX9_sign_24 ?_
    refine A_imul (pc := 27) dX9_sign_27 ?_
    refine A_aload_n (pc := 28) dX9_sign_28 rfl rfl ?_
    refine A_getIv (pc := 29) fX9_165 rfl rfl t6 dX9_sign_29 ?_
    refine A_iadd (pc := 32) dX9_sign_32 ?_
    refine A_lald (pc := 33) (160 * k + p.toNat) rfl (by omega) (by omega) (Nat.le_of_ble_eq_true rfl) dX9_sign_33 ?_
    refine A_l2i (pc := 34) dX9_sign_34 ?_
    refine A_goto (pc := 35) 39 dX9_sign_35 (by decide) ?_
    refine A_iret (pc := 39) rfl dX9_sign_39 ?_
    exact R1_e (by unfold gS; rw [if_pos (by omega)]; exact t3 p.toNat (by omega))
theorem dX9_is_0 : decode cX9_is 0 = .ok (.aload_n 0, 1) := by decide +kernel
theorem dX9_is_1 : decode cX9_is 1 = .ok (.invokevirtual 171, 3) := by decide +kernel
theorem dX9_is_4 : decode cX9_is 4 = .ok (.iload_n 1, 1) := by decide +kernel
theorem dX9_is_5 : decode cX9_is 5 = .ok (.if_icmp .eq 5, 3) := by decide +kernel
theorem dX9_is_8 : decode cX9_is 8 = .ok (.iconst 0, 1) := by decide +kernel
theorem dX9_is_9 : decode cX9_is 9 = .ok (.ireturn, 1) := by decide +kernel
theorem dX9_is_10 : decode cX9_is 10 = .ok (.aload_n 0, 1) := by decide +kernel
theorem dX9_is_11 : decode cX9_is 11 = .ok (.dup, 1) := by decide +kernel
theorem dX9_is_12 : decode cX9_is 12 = .ok (.getfield 165, 3) := by decide +kernel
theorem dX9_is_15 : decode cX9_is 15 = .ok (.iconst 1, 1) := by decide +kernel
theorem dX9_is_16 : decode cX9_is 16 = .ok (.iadd, 1) := by decide +kernel
theorem dX9_is_17 : decode cX9_is 17 = .ok (.putfield 165, 3) := by decide +kernel
theorem dX9_is_20 : decode cX9_is 20 = .ok (.iconst 1, 1) := by decide +kernel
theorem dX9_is_21 : decode cX9_is 21 = .ok (.ireturn, 1) := by decide +kernel
set_option maxRecDepth 20000 in
theorem c_X9_is {G : Gl} {d : Nat} {σ : Sg} {l : Nat → Int} {s : Int} {k : Nat} {p : Int} (h : AtM l s k p σ) {c : Int} (hc1 : -2147483648 ≤ c) (hc2 : c < 2147483648) (hc : c ≠ -1) : CT G (d + 1) yX9_is cX9_is 2 (some .boolean) [.ref (gA G 54), .int (iI c)] σ (RE (some (.int (iI (bI ((isF (gS l s) c p).1 = true))))) (fun υ => AtM l s k (isF (gS l s) c p).2 υ ∧ FrB σ υ)) := by
  refine CT.of (by decide +kernel) (Nat.le_of_ble_eq_true rfl) ?_
  change AW G _ RX9 _ _ _ 0 [(0, .ref (gA G 54)), (1, .int (iI c))] [] _ _
  have gr := gS_rng (l := l) (s := s) (p := p) h.1.2.2.2.2.2
  have p1 := h.2.1.1
  have p2 := h.2.1.2
  refine A_aload_n (pc := 0) dX9_is_0 rfl rfl ?_
  refine A_callV1 (pc := 1) kX9_171 rfl rfl (c_X9_sign h) dX9_is_1 rfl rfl (Nat.le_of_ble_eq_true rfl) (Nat.le_of_ble_eq_true rfl) ?_
  refine A_iload_n (pc := 4) dX9_is_4 rfl rfl ?_
  refine A_icmp_eq (pc := 5) 10 dX9_is_5 (by decide) (by omega) (by omega) (by omega) (by omega) (fun h5 => ?_) (fun h5 => ?_)
  · skip
    refine A_aload_n (pc := 10) dX9_is_10 rfl rfl ?_
    refine A_dup (pc := 11) dX9_is_11 rfl ?_
    refine A_getIv (pc := 12) fX9_165 rfl rfl h.2.2 dX9_is_12 ?_
    refine A_iconst (pc := 15) dX9_is_15 ?_
    refine A_iadd (pc := 16) dX9_is_16 ?_
    refine A_putI (pc := 17) fX9_165 wr_8_16 rfl rfl dX9_is_17 ?_
    refine A_iconst (pc := 20) dX9_is_20 ?_
    refine A_zret (pc := 21) rfl rfl dX9_is_21 ?_
    have e : isF (gS l s) c p = (true, p + 1) := by unfold isF; rw [if_pos (by omega)]
    have i := gS_in (l := l) (s := s) (p := p) (by omega)
    rw [e, bI_t rfl]
    exact ⟨rfl, h.at (by omega) (by omega)⟩
  · skip
    refine A_iconst (pc := 8) dX9_is_8 ?_
    refine A_zret (pc := 9) rfl rfl dX9_is_9 ?_
    have e : isF (gS l s) c p = (false, p) := by unfold isF; rw [if_neg (by omega)]
    rw [e, bI_f Bool.false_ne_true]
    exact ⟨rfl, h, FrB.rf⟩
theorem dX9_word_0 : decode cX9_word 0 = .ok (.iconst 0, 1) := by decide +kernel
theorem dX9_word_1 : decode cX9_word 1 = .ok (.istore_n 2, 1) := by decide +kernel
theorem dX9_word_2 : decode cX9_word 2 = .ok (.iload_n 2, 1) := by decide +kernel
theorem dX9_word_3 : decode cX9_word 3 = .ok (.aload_n 1, 1) := by decide +kernel
theorem dX9_word_4 : decode cX9_word 4 = .ok (.invokevirtual 175, 3) := by decide +kernel
theorem dX9_word_7 : decode cX9_word 7 = .ok (.if_icmp .ge 23, 3) := by decide +kernel
theorem dX9_word_10 : decode cX9_word 10 = .ok (.aload_n 0, 1) := by decide +kernel
theorem dX9_word_11 : decode cX9_word 11 = .ok (.aload_n 1, 1) := by decide +kernel
theorem dX9_word_12 : decode cX9_word 12 = .ok (.iload_n 2, 1) := by decide +kernel
theorem dX9_word_13 : decode cX9_word 13 = .ok (.invokevirtual 180, 3) := by decide +kernel
theorem dX9_word_16 : decode cX9_word 16 = .ok (.invokevirtual 184, 3) := by decide +kernel
theorem dX9_word_19 : decode cX9_word 19 = .ok (.ifCond .ne 5, 3) := by decide +kernel
theorem dX9_word_22 : decode cX9_word 22 = .ok (.iconst 0, 1) := by decide +kernel
theorem dX9_word_23 : decode cX9_word 23 = .ok (.ireturn, 1) := by decide +kernel
theorem dX9_word_24 : decode cX9_word 24 = .ok (.iinc 2 1, 3) := by decide +kernel
theorem dX9_word_27 : decode cX9_word 27 = .ok (.goto (-25), 3) := by decide +kernel
theorem dX9_word_30 : decode cX9_word 30 = .ok (.iconst 1, 1) := by decide +kernel
theorem dX9_word_31 : decode cX9_word 31 = .ok (.ireturn, 1) := by decide +kernel
set_option maxRecDepth 20000 in
theorem l_X9_word {G : Gl} {d : Nat} {σ0 : Sg} {K : Option Value → Sg → Prop} {l : Nat → Int} {s : Int} {k : Nat} {i : Nat} (hi : i < 5) {r0 : Rd} : ∀ (n j : Nat) (p : Int) (σ : Sg), j + n = lnS i → AtM l s k p σ → FrB σ0 σ → wdF (gS l s) i n j p = r0 → (∀ υ, AtM l s k r0.2 υ → FrB σ0 υ → K (some (.int (iI (bI (r0.1 = true))))) υ) → AW G (d + 4) RX9 cX9_word 3 (some .boolean) 2 [(0, .ref (gA G 54)), (1, .ref (gK G i)), (2, .int (iI (j : Int)))] [] σ K := by
  intro n
  induction n using Nat.strongRecOn
  rename_i n ih
  intro j p σ hn h hF hr hK
  have hl := lnS_le i hi
  refine A_iload_n (pc := 2) dX9_word_2 rfl rfl ?_
  refine A_aload_n (pc := 3) dX9_word_3 rfl rfl ?_
  refine A_callK1 (pc := 4) kX9_175 hi rfl (c_J0_length_8abf5 hi) dX9_word_4 rfl rfl (Nat.le_of_ble_eq_true rfl) (Nat.le_of_ble_eq_true rfl) ?_
  refine A_icmp_ge (pc := 7) 30 dX9_word_7 (by decide) (by omega) (by omega) (by omega) (by omega) (fun h7 => ?_) (fun h7 => ?_)
  · skip
    refine A_iconst (pc := 30) dX9_word_30 ?_
    refine A_zret (pc := 31) rfl rfl dX9_word_31 ?_
    have hn0 : n = 0 := by omega
    subst hn0
    rw [wdF] at hr
    subst hr
    have z := hK σ h hF
    rw [bI_t rfl] at z
    exact z
  · skip
    have hch := chr_k i hi j (by omega)
    refine A_aload_n (pc := 10) dX9_word_10 rfl rfl ?_
    refine A_aload_n (pc := 11) dX9_word_11 rfl rfl ?_
    refine A_iload_n (pc := 12) dX9_word_12 rfl rfl ?_
    refine A_callK1 (pc := 13) kX9_180 hi rfl (c_J0_charAt_5068e hi (k := j) (by omega)) dX9_word_13 rfl rfl (Nat.le_of_ble_eq_true rfl) (Nat.le_of_ble_eq_true rfl) ?_
    refine A_callVe (pc := 16) kX9_184 rfl rfl (c_X9_is h (by omega) (by omega) (by omega)) dX9_word_16 rfl rfl (Nat.le_of_ble_eq_true rfl) (Nat.le_of_ble_eq_true rfl) (fun υ hυ => ?_)
    refine A_ifb_ne (pc := 19) 24 dX9_word_19 (by decide) (fun h19 => ?_) (fun h19 => ?_)
    · skip
      refine A_iinc (pc := 24) dX9_word_24 rfl (Nat.le_of_ble_eq_true rfl) ?_
      refine A_goto (pc := 27) 2 dX9_word_27 (by decide) ?_
      have hs : gS l s p = chr i j := by
        have z := h19
        unfold isF at z
        by_cases y : gS l s p = chr i j
        · exact y
        · rw [if_neg y] at z; exact absurd z Bool.false_ne_true
      have e : (isF (gS l s) (chr i j) p).2 = p + 1 := by unfold isF; rw [if_pos hs]
      have A := hυ.1
      rw [e] at A
      obtain ⟨u, rfl⟩ : ∃ u, n = u + 1 := ⟨n - 1, by omega⟩
      refine A_loc (l2 := [(0, _), (1, _), (2, _)]) ⟨rfl, rfl, rfl, trivial⟩ ?_
      refine ih u (by omega) (j + 1) (p + 1) υ (by omega) A (hF.tr hυ.2) ?_ hK
      rw [wdF, if_pos hs] at hr
      exact hr
    · skip
      refine A_iconst (pc := 22) dX9_word_22 ?_
      refine A_zret (pc := 23) rfl rfl dX9_word_23 ?_
      obtain ⟨u, rfl⟩ : ∃ u, n = u + 1 := ⟨n - 1, by omega⟩
      have hs : ¬ gS l s p = chr i j := fun y => h19 (by unfold isF; rw [if_pos y])
      have e : isF (gS l s) (chr i j) p = (false, p) := by unfold isF; rw [if_neg hs]
      rw [wdF, if_neg hs] at hr
      subst hr
      rw [e] at hυ
      have z := hK υ hυ.1 (hF.tr hυ.2)
      rw [bI_f Bool.false_ne_true] at z
      exact z
set_option maxRecDepth 20000 in
theorem c_X9_word {G : Gl} {d : Nat} {σ : Sg} {l : Nat → Int} {s : Int} {k : Nat} {p : Int} (h : AtM l s k p σ) {i : Nat} (hi : i < 5) : CT G (d + 4) yX9_word cX9_word 3 (some .boolean) [.ref (gA G 54), .ref (gK G i)] σ (RE (some (.int (iI (bI ((wdF (gS l s) i (lnS i) 0 p).1 = true))))) (fun υ => AtM l s k (wdF (gS l s) i (lnS i) 0 p).2 υ ∧ FrB σ υ)) := by
  refine CT.of (by decide +kernel) (Nat.le_of_ble_eq_true rfl) ?_
  change AW G _ RX9 _ _ _ 0 [(0, .ref (gA G 54)), (1, .ref (gK G i))] [] _ _
  refine A_iconst (pc := 0) dX9_word_0 ?_
  refine A_istore_n (pc := 1) dX9_word_1 rfl (Nat.le_of_ble_eq_true rfl) ?_
  refine A_loc (l2 := [(0, _), (1, _), (2, _)]) ⟨rfl, rfl, rfl, trivial⟩ ?_
  exact l_X9_word (σ0 := σ) hi (lnS i) 0 p σ (by omega) h FrB.rf rfl (fun υ h1 h2 => ⟨rfl, h1, h2⟩)
theorem dX9_word__0 : decode cX9_word_ 0 = .ok (.aload_n 0, 1) := by decide +kernel
theorem dX9_word__1 : decode cX9_word_ 1 = .ok (.getfield 165, 3) := by decide +kernel
theorem dX9_word__4 : decode cX9_word_ 4 = .ok (.istore_n 3, 1) := by decide +kernel
theorem dX9_word__5 : decode cX9_word_ 5 = .ok (.aload_n 0, 1) := by decide +kernel
theorem dX9_word__6 : decode cX9_word_ 6 = .ok (.aload_n 1, 1) := by decide +kernel
theorem dX9_word__7 : decode cX9_word_ 7 = .ok (.invokevirtual 188, 3) := by decide +kernel
theorem dX9_word__10 : decode cX9_word_ 10 = .ok (.istore 4, 2) := by decide +kernel
theorem dX9_word__12 : decode cX9_word_ 12 = .ok (.iload 4, 2) := by decide +kernel
theorem dX9_word__14 : decode cX9_word_ 14 = .ok (.ifCond .eq 12, 3) := by decide +kernel
theorem dX9_word__17 : decode cX9_word_ 17 = .ok (.iload_n 2, 1) := by decide +kernel
theorem dX9_word__18 : decode cX9_word_ 18 = .ok (.ifCond .ne 8, 3) := by decide +kernel
theorem dX9_word__21 : decode cX9_word_ 21 = .ok (.aload_n 0, 1) := by decide +kernel
theorem dX9_word__22 : decode cX9_word_ 22 = .ok (.iload_n 3, 1) := by decide +kernel
theorem dX9_word__23 : decode cX9_word_ 23 = .ok (.putfield 165, 3) := by decide +kernel
theorem dX9_word__26 : decode cX9_word_ 26 = .ok (.iload 4, 2) := by decide +kernel
theorem dX9_word__28 : decode cX9_word_ 28 = .ok (.ifCond .eq 11, 3) := by decide +kernel
theorem dX9_word__31 : decode cX9_word_ 31 = .ok (.iload_n 2, 1) := by decide +kernel
theorem dX9_word__32 : decode cX9_word_ 32 = .ok (.ifCond .eq 7, 3) := by decide +kernel
theorem dX9_word__35 : decode cX9_word_ 35 = .ok (.iconst 1, 1) := by decide +kernel
theorem dX9_word__36 : decode cX9_word_ 36 = .ok (.goto 4, 3) := by decide +kernel
theorem dX9_word__39 : decode cX9_word_ 39 = .ok (.iconst 0, 1) := by decide +kernel
theorem dX9_word__40 : decode cX9_word_ 40 = .ok (.ireturn, 1) := by decide +kernel
set_option maxRecDepth 20000 in
theorem c_X9_word_ {G : Gl} {d : Nat} {σ : Sg} {l : Nat → Int} {s : Int} {k : Nat} {p : Int} (h : AtM l s k p σ) {i : Nat} (hi : i < 5) {P : Prop} [Decidable P] {v : Int} (hv : v = bI P) : CT G (d + 5) yX9_word_ cX9_word_ 5 (some .boolean) [.ref (gA G 54), .ref (gK G i), .int (iI v)] σ (RE (some (.int (iI (bI ((rmA (wdF (gS l s) i (lnS i) 0 p) p P).1 = true))))) (fun υ => AtM l s k (rmA (wdF (gS l s) i (lnS i) 0 p) p P).2 υ ∧ FrB σ υ)) := by
  refine CT.of (by decide +kernel) (Nat.le_of_ble_eq_true rfl) ?_
  change AW G _ RX9 _ _ _ 0 [(0, .ref (gA G 54)), (1, .ref (gK G i)), (2, .int (iI v))] [] _ _
  have p1 := h.2.1.1
  have p2 := h.2.1.2
  have vr := bI_rng P
  refine A_aload_n (pc := 0) dX9_word__0 rfl rfl ?_
  refine A_getIv (pc := 1) fX9_165 rfl rfl h.2.2 dX9_word__1 ?_
  refine A_istore_n (pc := 4) dX9_word__4 rfl (Nat.le_of_ble_eq_true rfl) ?_
  refine A_aload_n (pc := 5) dX9_word__5 rfl rfl ?_
  refine A_aload_n (pc := 6) dX9_word__6 rfl rfl ?_
  refine A_callVe (pc := 7) kX9_188 rfl rfl (c_X9_word h hi) dX9_word__7 rfl rfl (Nat.le_of_ble_eq_true rfl) (Nat.le_of_ble_eq_true rfl) (fun υ hυ => ?_)
  refine A_istore (pc := 10) dX9_word__10 (Nat.le_of_ble_eq_true rfl) ?_
  refine A_iload (pc := 12) dX9_word__12 rfl ?_
  refine A_ifb_eq (pc := 14) 26 dX9_word__14 (by decide) (fun h14 => ?_) (fun h14 => ?_)
  · skip
    have e : (rmA (wdF (gS l s) i (lnS i) 0 p) p P) = wdF (gS l s) i (lnS i) 0 p := by unfold rmA; rw [if_neg (fun z => h14 z.1)]
    rw [e, bI_f h14]
    refine A_iload (pc := 26) dX9_word__26 rfl ?_
    refine A_if_eq (pc := 28) 39 dX9_word__28 (by decide) (by omega) (by omega) (fun h28 => ?_) (fun h28 => ?_)
    · skip
      refine A_iconst (pc := 39) dX9_word__39 ?_
      refine A_zret (pc := 40) rfl rfl dX9_word__40 ?_
      exact ⟨rfl, hυ⟩
    · skip
      refine A_iload_n (pc := 31) dX9_word__31 rfl rfl ?_
      refine A_if_eq (pc := 32) 39 dX9_word__32 (by decide) (by omega) (by omega) (fun h32 => ?_) (fun h32 => ?_)
      · skip
        refine A_iconst (pc := 39) dX9_word__39 ?_
        refine A_zret (pc := 40) rfl rfl dX9_word__40 ?_
        exfalso; omega
      · skip
        refine A_iconst (pc := 35) dX9_word__35 ?_
        refine A_goto (pc := 36) 40 dX9_word__36 (by decide) ?_
        refine A_zret (pc := 40) rfl rfl dX9_word__40 ?_
        exfalso; omega
  · skip
    refine A_iload_n (pc := 17) dX9_word__17 rfl rfl ?_
    refine A_if_ne (pc := 18) 26 dX9_word__18 (by decide) (by omega) (by omega) (fun h18 => ?_) (fun h18 => ?_)
    · skip
      have hP : P := by
        rcases bI_or P with z | z
        · exact z.1
        · exact absurd (hv.trans z.2) h18
      have e : (rmA (wdF (gS l s) i (lnS i) 0 p) p P) = wdF (gS l s) i (lnS i) 0 p := by unfold rmA; rw [if_neg (fun z => z.2 hP)]
      rw [e, bI_t h14]
      refine A_iload (pc := 26) dX9_word__26 rfl ?_
      refine A_if_eq (pc := 28) 39 dX9_word__28 (by decide) (by omega) (by omega) (fun h28 => ?_) (fun h28 => ?_)
      · skip
        refine A_iconst (pc := 39) dX9_word__39 ?_
        refine A_zret (pc := 40) rfl rfl dX9_word__40 ?_
        exfalso; omega
      · skip
        refine A_iload_n (pc := 31) dX9_word__31 rfl rfl ?_
        refine A_if_eq (pc := 32) 39 dX9_word__32 (by decide) (by omega) (by omega) (fun h32 => ?_) (fun h32 => ?_)
        · skip
          refine A_iconst (pc := 39) dX9_word__39 ?_
          refine A_zret (pc := 40) rfl rfl dX9_word__40 ?_
          exfalso; omega
        · skip
          refine A_iconst (pc := 35) dX9_word__35 ?_
          refine A_goto (pc := 36) 40 dX9_word__36 (by decide) ?_
          refine A_zret (pc := 40) rfl rfl dX9_word__40 ?_
          exact ⟨rfl, hυ⟩
    · skip
      refine A_aload_n (pc := 21) dX9_word__21 rfl rfl ?_
      refine A_iload_n (pc := 22) dX9_word__22 rfl rfl ?_
      refine A_putI (pc := 23) fX9_165 wr_8_16 rfl rfl dX9_word__23 ?_
      have hP : ¬ P := fun z => by rw [hv, bI_t z] at h18; omega
      have e : (rmA (wdF (gS l s) i (lnS i) 0 p) p P) = (false, p) := by unfold rmA; rw [if_pos ⟨h14, hP⟩]
      rw [e, bI_f Bool.false_ne_true, bI_t h14]
      refine A_iload (pc := 26) dX9_word__26 rfl ?_
      refine A_if_eq (pc := 28) 39 dX9_word__28 (by decide) (by omega) (by omega) (fun h28 => ?_) (fun h28 => ?_)
      · skip
        refine A_iconst (pc := 39) dX9_word__39 ?_
        refine A_zret (pc := 40) rfl rfl dX9_word__40 ?_
        exfalso; omega
      · skip
        refine A_iload_n (pc := 31) dX9_word__31 rfl rfl ?_
        refine A_if_eq (pc := 32) 39 dX9_word__32 (by decide) (by omega) (by omega) (fun h32 => ?_) (fun h32 => ?_)
        · skip
          refine A_iconst (pc := 39) dX9_word__39 ?_
          refine A_zret (pc := 40) rfl rfl dX9_word__40 ?_
          exact ⟨rfl, (hυ.1.at p1 p2).1, hυ.2.tr (hυ.1.at p1 p2).2⟩
        · skip
          refine A_iconst (pc := 35) dX9_word__35 ?_
          refine A_goto (pc := 36) 40 dX9_word__36 (by decide) ?_
          refine A_zret (pc := 40) rfl rfl dX9_word__40 ?_
          exfalso; omega
/-- the digits from a place on -/
def nrF (g : Int → Int) (q : Int) : Rd × Int := if ¬ dg (g q) then ((false, q), 0) else if dg (g (q + 1)) then ((true, q + 2), 10 * (g q - 48) + (g (q + 1) - 48)) else ((true, q + 1), g q - 48)
theorem dX9_number_0 : decode cX9_number 0 = .ok (.aload_n 0, 1) := by decide +kernel
theorem dX9_number_1 : decode cX9_number 1 = .ok (.bipush 32, 2) := by decide +kernel
theorem dX9_number_3 : decode cX9_number 3 = .ok (.invokevirtual 184, 3) := by decide +kernel
theorem dX9_number_6 : decode cX9_number 6 = .ok (.ifCond .ne 5, 3) := by decide +kernel
theorem dX9_number_9 : decode cX9_number 9 = .ok (.iconst 0, 1) := by decide +kernel
theorem dX9_number_10 : decode cX9_number 10 = .ok (.ireturn, 1) := by decide +kernel
theorem dX9_number_11 : decode cX9_number 11 = .ok (.aload_n 0, 1) := by decide +kernel
theorem dX9_number_12 : decode cX9_number 12 = .ok (.getfield 165, 3) := by decide +kernel
theorem dX9_number_15 : decode cX9_number 15 = .ok (.istore 4, 2) := by decide +kernel
theorem dX9_number_17 : decode cX9_number 17 = .ok (.iconst 0, 1) := by decide +kernel
theorem dX9_number_18 : decode cX9_number 18 = .ok (.istore 5, 2) := by decide +kernel
theorem dX9_number_20 : decode cX9_number 20 = .ok (.aload_n 0, 1) := by decide +kernel
theorem dX9_number_21 : decode cX9_number 21 = .ok (.getfield 165, 3) := by decide +kernel
theorem dX9_number_24 : decode cX9_number 24 = .ok (.iload 4, 2) := by decide +kernel
theorem dX9_number_26 : decode cX9_number 26 = .ok (.isub, 1) := by decide +kernel
theorem dX9_number_27 : decode cX9_number 27 = .ok (.iconst 2, 1) := by decide +kernel
theorem dX9_number_28 : decode cX9_number 28 = .ok (.if_icmp .ge 49, 3) := by decide +kernel
theorem dX9_number_31 : decode cX9_number 31 = .ok (.aload_n 0, 1) := by decide +kernel
theorem dX9_number_32 : decode cX9_number 32 = .ok (.invokevirtual 171, 3) := by decide +kernel
theorem dX9_number_35 : decode cX9_number 35 = .ok (.bipush 48, 2) := by decide +kernel
theorem dX9_number_37 : decode cX9_number 37 = .ok (.if_icmp .lt 40, 3) := by decide +kernel
theorem dX9_number_40 : decode cX9_number 40 = .ok (.aload_n 0, 1) := by decide +kernel
theorem dX9_number_41 : decode cX9_number 41 = .ok (.invokevirtual 171, 3) := by decide +kernel
theorem dX9_number_44 : decode cX9_number 44 = .ok (.bipush 57, 2) := by decide +kernel
theorem dX9_number_46 : decode cX9_number 46 = .ok (.if_icmp .gt 31, 3) := by decide +kernel
theorem dX9_number_49 : decode cX9_number 49 = .ok (.bipush 10, 2) := by decide +kernel
theorem dX9_number_51 : decode cX9_number 51 = .ok (.iload 5, 2) := by decide +kernel
theorem dX9_number_53 : decode cX9_number 53 = .ok (.imul, 1) := by decide +kernel
theorem dX9_number_54 : decode cX9_number 54 = .ok (.aload_n 0, 1) := by decide +kernel
theorem dX9_number_55 : decode cX9_number 55 = .ok (.invokevirtual 171, 3) := by decide +kernel
theorem dX9_number_58 : decode cX9_number 58 = .ok (.iadd, 1) := by decide +kernel
theorem dX9_number_59 : decode cX9_number 59 = .ok (.bipush 48, 2) := by decide +kernel
theorem dX9_number_61 : decode cX9_number 61 = .ok (.isub, 1) := by decide +kernel
theorem dX9_number_62 : decode cX9_number 62 = .ok (.istore 5, 2) := by decide +kernel
theorem dX9_number_64 : decode cX9_number 64 = .ok (.aload_n 0, 1) := by decide +kernel
theorem dX9_number_65 : decode cX9_number 65 = .ok (.dup, 1) := by decide +kernel
theorem dX9_number_66 : decode cX9_number 66 = .ok (.getfield 165, 3) := by decide +kernel
theorem dX9_number_69 : decode cX9_number 69 = .ok (.iconst 1, 1) := by decide +kernel
theorem dX9_number_70 : decode cX9_number 70 = .ok (.iadd, 1) := by decide +kernel
theorem dX9_number_71 : decode cX9_number 71 = .ok (.putfield 165, 3) := by decide +kernel
theorem dX9_number_74 : decode cX9_number 74 = .ok (.goto (-54), 3) := by decide +kernel
theorem dX9_number_77 : decode cX9_number 77 = .ok (.aload_n 0, 1) := by decide +kernel
theorem dX9_number_78 : decode cX9_number 78 = .ok (.getfield 165, 3) := by decide +kernel
theorem dX9_number_81 : decode cX9_number 81 = .ok (.iload 4, 2) := by decide +kernel
theorem dX9_number_83 : decode cX9_number 83 = .ok (.if_icmp .ne 5, 3) := by decide +kernel
theorem dX9_number_86 : decode cX9_number 86 = .ok (.iconst 0, 1) := by decide +kernel
theorem dX9_number_87 : decode cX9_number 87 = .ok (.ireturn, 1) := by decide +kernel
theorem dX9_number_88 : decode cX9_number 88 = .ok (.aload_n 0, 1) := by decide +kernel
theorem dX9_number_89 : decode cX9_number 89 = .ok (.getfield 48, 3) := by decide +kernel
theorem dX9_number_92 : decode cX9_number 92 = .ok (.iload_n 1, 1) := by decide +kernel
theorem dX9_number_93 : decode cX9_number 93 = .ok (.iload 5, 2) := by decide +kernel
theorem dX9_number_95 : decode cX9_number 95 = .ok (.iastore, 1) := by decide +kernel
theorem dX9_number_96 : decode cX9_number 96 = .ok (.iload 5, 2) := by decide +kernel
theorem dX9_number_98 : decode cX9_number 98 = .ok (.iload_n 2, 1) := by decide +kernel
theorem dX9_number_99 : decode cX9_number 99 = .ok (.iload_n 3, 1) := by decide +kernel
theorem dX9_number_100 : decode cX9_number 100 = .ok (.invokestatic 86, 3) := by decide +kernel
theorem dX9_number_103 : decode cX9_number 103 = .ok (.istore 6, 2) := by decide +kernel
theorem dX9_number_105 : decode cX9_number 105 = .ok (.iload 6, 2) := by decide +kernel
theorem dX9_number_107 : decode cX9_number 107 = .ok (.ifCond .ne 9, 3) := by decide +kernel
theorem dX9_number_110 : decode cX9_number 110 = .ok (.aload_n 0, 1) := by decide +kernel
theorem dX9_number_111 : decode cX9_number 111 = .ok (.iload 4, 2) := by decide +kernel
theorem dX9_number_113 : decode cX9_number 113 = .ok (.putfield 165, 3) := by decide +kernel
theorem dX9_number_116 : decode cX9_number 116 = .ok (.iload 6, 2) := by decide +kernel
theorem dX9_number_118 : decode cX9_number 118 = .ok (.ireturn, 1) := by decide +kernel
set_option maxRecDepth 20000 in
theorem l77_X9_number {G : Gl} {d : Nat} {σ0 : Sg} {K : Option Value → Sg → Prop} {l : Nat → Int} {s : Int} {k : Nat} {j : Nat} (j4 : j < 4) {lo hi q : Int} (lo1 : -2147483648 ≤ lo) (lo2 : lo < 2147483648) (hi1 : -2147483648 ≤ hi) (hi2 : hi < 2147483648) (q0 : 0 ≤ q) (hK : ∀ (r : Rd) (v : Int) (υ : Sg), (r, v) = nrF (gS l s) q → (r.1 = false → AtM l s k r.2 υ → FrA σ0 υ → (∀ x, υ.1 67 x = σ0.1 67 x) → K (some (.int (iI 0))) υ) ∧ (r.1 = true → AtM l s k (if lo ≤ v ∧ v ≤ hi then r.2 else q) υ → FrA σ0 υ → υ.1 67 j = v → (∀ x, x ≠ j → υ.1 67 x = σ0.1 67 x) → K (some (.int (iI (bI (lo ≤ v ∧ v ≤ hi))))) υ)) (x : Int) (v : Int) (v1 : 0 ≤ v) (v2 : v ≤ 99) (υ : Sg) (A : AtM l s k x υ) (x1 : q ≤ x) (hF : FrA σ0 υ) (h67 : ∀ x, υ.1 67 x = σ0.1 67 x) (hv : x ≠ q → (((true, x) : Rd), v) = nrF (gS l s) q) (hn : x = q → ((((false, q) : Rd), 0) = nrF (gS l s) q)) : AW G (d + 2) RX9 cX9_number 7 (some .boolean) 77 [(0, .ref (gA G 54)), (1, .int (iI (j : Int))), (2, .int (iI lo)), (3, .int (iI hi)), (4, .int (iI q)), (5, .int (iI v))] [] υ K := by
  have xx := A.2.1.2
  have ss := A.1.2.2.2.2.1.2
  refine A_aload_n (pc := 77) dX9_number_77 rfl rfl ?_
  refine A_getIv (pc := 78) fX9_165 rfl rfl A.2.2 dX9_number_78 ?_
  refine A_iload (pc := 81) dX9_number_81 rfl ?_
  refine A_icmp_ne (pc := 83) 88 dX9_number_83 (by decide) (by omega) (by omega) (by omega) (by omega) (fun h83 => ?_) (fun h83 => ?_)
  · skip
    refine A_aload_n (pc := 88) dX9_number_88 rfl rfl ?_
    refine A_getR (pc := 89) fX9_48 rfl rfl dX9_number_89 ?_
    refine A_iload_n (pc := 92) dX9_number_92 rfl rfl ?_
    refine A_iload (pc := 93) dX9_number_93 rfl ?_
    refine A_iast (pc := 95) j rfl rfl (by omega) (Nat.le_of_ble_eq_true rfl) dX9_number_95 ?_
    refine A_iload (pc := 96) dX9_number_96 rfl ?_
    refine A_iload_n (pc := 98) dX9_number_98 rfl rfl ?_
    refine A_iload_n (pc := 99) dX9_number_99 rfl rfl ?_
    refine A_callS1 (pc := 100) kX9_86 (c_X9_within (v := v) (a := lo) (b := hi) (by omega) (by omega) (by omega) (by omega) (by omega) (by omega)) dX9_number_100 rfl rfl (Nat.le_of_ble_eq_true rfl) (Nat.le_of_ble_eq_true rfl) ?_
    refine A_istore (pc := 103) dX9_number_103 (Nat.le_of_ble_eq_true rfl) ?_
    refine A_iload (pc := 105) dX9_number_105 rfl ?_
    refine A_ifb_ne (pc := 107) 116 dX9_number_107 (by decide) (fun h107 => ?_) (fun h107 => ?_)
    · skip
      refine A_iload (pc := 116) dX9_number_116 rfl ?_
      refine A_zret (pc := 118) rfl nar_b dX9_number_118 ?_
      have z := (hK _ _ (uI υ 67 j v) (hv (by omega))).2 rfl
      rw [if_pos h107] at z
      exact z A.nb.1 (hF.tr A.nb.2) (by rw [uI_at, if_pos ⟨rfl, rfl⟩]) (fun y hy => by rw [uI_at, if_neg (fun w => hy w.2)]; exact h67 y)
    · skip
      refine A_aload_n (pc := 110) dX9_number_110 rfl rfl ?_
      refine A_iload (pc := 111) dX9_number_111 rfl ?_
      refine A_putI (pc := 113) fX9_165 wr_8_16 rfl rfl dX9_number_113 ?_
      refine A_iload (pc := 116) dX9_number_116 rfl ?_
      refine A_zret (pc := 118) rfl nar_b dX9_number_118 ?_
      have z := (hK _ _ (uI (uI υ 67 j v) 54 16 q) (hv (by omega))).2 rfl
      rw [if_neg h107] at z
      have B := A.nb (j := j) (v := v)
      have C := B.1.at (q := q) q0 (by omega)
      exact z C.1 (hF.tr (B.2.tr C.2.a)) (by rw [uI_at, if_neg (by omega), uI_at, if_pos ⟨rfl, rfl⟩]) (fun y hy => by rw [uI_at, if_neg (by omega), uI_at, if_neg (fun w => hy w.2)]; exact h67 y)
  · skip
    refine A_iconst (pc := 86) dX9_number_86 ?_
    refine A_zret (pc := 87) rfl rfl dX9_number_87 ?_
    have e : x = q := by omega
    subst e
    exact (hK _ _ υ (hn rfl)).1 rfl A hF h67
set_option maxRecDepth 20000 in
theorem l20c_X9_number {G : Gl} {d : Nat} {σ0 : Sg} {K : Option Value → Sg → Prop} {l : Nat → Int} {s : Int} {k : Nat} {j : Nat} (j4 : j < 4) {lo hi q : Int} (lo1 : -2147483648 ≤ lo) (lo2 : lo < 2147483648) (hi1 : -2147483648 ≤ hi) (hi2 : hi < 2147483648) (q0 : 0 ≤ q) (hK : ∀ (r : Rd) (v : Int) (υ : Sg), (r, v) = nrF (gS l s) q → (r.1 = false → AtM l s k r.2 υ → FrA σ0 υ → (∀ x, υ.1 67 x = σ0.1 67 x) → K (some (.int (iI 0))) υ) ∧ (r.1 = true → AtM l s k (if lo ≤ v ∧ v ≤ hi then r.2 else q) υ → FrA σ0 υ → υ.1 67 j = v → (∀ x, x ≠ j → υ.1 67 x = σ0.1 67 x) → K (some (.int (iI (bI (lo ≤ v ∧ v ≤ hi))))) υ)) (d1 : dg (gS l s q)) (d2 : dg (gS l s (q + 1))) (v : Int) (hv0 : v = 10 * (gS l s q - 48) + (gS l s (q + 1) - 48)) (υ : Sg) (A : AtM l s k (q + 2) υ) (hF : FrA σ0 υ) (h67 : ∀ x, υ.1 67 x = σ0.1 67 x) : AW G (d + 2) RX9 cX9_number 7 (some .boolean) 20 [(0, .ref (gA G 54)), (1, .int (iI (j : Int))), (2, .int (iI lo)), (3, .int (iI hi)), (4, .int (iI q)), (5, .int (iI v))] [] υ K := by
  have xx := A.2.1.2
  have ss := A.1.2.2.2.2.1.2
  have D1 := d1
  have D2 := d2
  unfold dg at D1 D2
  refine A_aload_n (pc := 20) dX9_number_20 rfl rfl ?_
  refine A_getIv (pc := 21) fX9_165 rfl rfl A.2.2 dX9_number_21 ?_
  refine A_iload (pc := 24) dX9_number_24 rfl ?_
  refine A_isub (pc := 26) dX9_number_26 ?_
  refine A_iconst (pc := 27) dX9_number_27 ?_
  refine A_icmp_ge (pc := 28) 77 dX9_number_28 (by decide) (by omega) (by omega) (by omega) (by omega) (fun h28 => ?_) (fun h28 => ?_)
  · skip
    refine A_loc (l2 := [(0, _), (1, _), (2, _), (3, _), (4, _), (5, _)]) ⟨rfl, rfl, rfl, rfl, rfl, rfl, trivial⟩ ?_
    refine l77_X9_number j4 lo1 lo2 hi1 hi2 q0 hK (q + 2) v (by omega) (by omega) υ A (by omega) hF h67 (fun _ => ?_) (fun e => by omega)
    unfold nrF
    rw [if_neg (fun z => z d1), if_pos d2, hv0]
  · skip
    exfalso; omega
set_option maxRecDepth 20000 in
theorem l20b_X9_number {G : Gl} {d : Nat} {σ0 : Sg} {K : Option Value → Sg → Prop} {l : Nat → Int} {s : Int} {k : Nat} {j : Nat} (j4 : j < 4) {lo hi q : Int} (lo1 : -2147483648 ≤ lo) (lo2 : lo < 2147483648) (hi1 : -2147483648 ≤ hi) (hi2 : hi < 2147483648) (q0 : 0 ≤ q) (hK : ∀ (r : Rd) (v : Int) (υ : Sg), (r, v) = nrF (gS l s) q → (r.1 = false → AtM l s k r.2 υ → FrA σ0 υ → (∀ x, υ.1 67 x = σ0.1 67 x) → K (some (.int (iI 0))) υ) ∧ (r.1 = true → AtM l s k (if lo ≤ v ∧ v ≤ hi then r.2 else q) υ → FrA σ0 υ → υ.1 67 j = v → (∀ x, x ≠ j → υ.1 67 x = σ0.1 67 x) → K (some (.int (iI (bI (lo ≤ v ∧ v ≤ hi))))) υ)) (d1 : dg (gS l s q)) (v : Int) (hv0 : v = gS l s q - 48) (υ : Sg) (A : AtM l s k (q + 1) υ) (hF : FrA σ0 υ) (h67 : ∀ x, υ.1 67 x = σ0.1 67 x) : AW G (d + 2) RX9 cX9_number 7 (some .boolean) 20 [(0, .ref (gA G 54)), (1, .int (iI (j : Int))), (2, .int (iI lo)), (3, .int (iI hi)), (4, .int (iI q)), (5, .int (iI v))] [] υ K := by
  have xx := A.2.1.2
  have ss := A.1.2.2.2.2.1.2
  have gr := gS_rng (l := l) (s := s) (p := q + 1) A.1.2.2.2.2.2
  have D1 := d1
  unfold dg at D1
  refine A_aload_n (pc := 20) dX9_number_20 rfl rfl ?_
  refine A_getIv (pc := 21) fX9_165 rfl rfl A.2.2 dX9_number_21 ?_
  refine A_iload (pc := 24) dX9_number_24 rfl ?_
  refine A_isub (pc := 26) dX9_number_26 ?_
  refine A_iconst (pc := 27) dX9_number_27 ?_
  refine A_icmp_ge (pc := 28) 77 dX9_number_28 (by decide) (by omega) (by omega) (by omega) (by omega) (fun h28 => ?_) (fun h28 => ?_)
  · skip
    exfalso; omega
  · skip
    refine A_aload_n (pc := 31) dX9_number_31 rfl rfl ?_
    refine A_callV1 (pc := 32) kX9_171 rfl rfl (c_X9_sign A) dX9_number_32 rfl rfl (Nat.le_of_ble_eq_true rfl) (Nat.le_of_ble_eq_true rfl) ?_
    refine A_bipush (pc := 35) dX9_number_35 (by decide) ?_
    refine A_icmp_lt (pc := 37) 77 dX9_number_37 (by decide) (by omega) (by omega) (by omega) (by omega) (fun h37 => ?_) (fun h37 => ?_)
    · skip
      refine A_loc (l2 := [(0, _), (1, _), (2, _), (3, _), (4, _), (5, _)]) ⟨rfl, rfl, rfl, rfl, rfl, rfl, trivial⟩ ?_
      have d2 : ¬ dg (gS l s (q + 1)) := by unfold dg; omega
      refine l77_X9_number j4 lo1 lo2 hi1 hi2 q0 hK (q + 1) v (by omega) (by omega) υ A (by omega) hF h67 (fun _ => ?_) (fun e => by omega)
      unfold nrF
      rw [if_neg (fun z => z d1), if_neg d2, hv0]
    · skip
      refine A_aload_n (pc := 40) dX9_number_40 rfl rfl ?_
      refine A_callV1 (pc := 41) kX9_171 rfl rfl (c_X9_sign A) dX9_number_41 rfl rfl (Nat.le_of_ble_eq_true rfl) (Nat.le_of_ble_eq_true rfl) ?_
      refine A_bipush (pc := 44) dX9_number_44 (by decide) ?_
      refine A_icmp_gt (pc := 46) 77 dX9_number_46 (by decide) (by omega) (by omega) (by omega) (by omega) (fun h46 => ?_) (fun h46 => ?_)
      · skip
        refine A_loc (l2 := [(0, _), (1, _), (2, _), (3, _), (4, _), (5, _)]) ⟨rfl, rfl, rfl, rfl, rfl, rfl, trivial⟩ ?_
        have d2 : ¬ dg (gS l s (q + 1)) := by unfold dg; omega
        refine l77_X9_number j4 lo1 lo2 hi1 hi2 q0 hK (q + 1) v (by omega) (by omega) υ A (by omega) hF h67 (fun _ => ?_) (fun e => by omega)
        unfold nrF
        rw [if_neg (fun z => z d1), if_neg d2, hv0]
      · skip
        refine A_bipush (pc := 49) dX9_number_49 (by decide) ?_
        refine A_iload (pc := 51) dX9_number_51 rfl ?_
        refine A_imul (pc := 53) dX9_number_53 ?_
        refine A_aload_n (pc := 54) dX9_number_54 rfl rfl ?_
        refine A_callV1 (pc := 55) kX9_171 rfl rfl (c_X9_sign A) dX9_number_55 rfl rfl (Nat.le_of_ble_eq_true rfl) (Nat.le_of_ble_eq_true rfl) ?_
        refine A_iadd (pc := 58) dX9_number_58 ?_
        refine A_bipush (pc := 59) dX9_number_59 (by decide) ?_
        refine A_isub (pc := 61) dX9_number_61 ?_
        refine A_istore (pc := 62) dX9_number_62 (Nat.le_of_ble_eq_true rfl) ?_
        refine A_aload_n (pc := 64) dX9_number_64 rfl rfl ?_
        refine A_dup (pc := 65) dX9_number_65 rfl ?_
        refine A_getIv (pc := 66) fX9_165 rfl rfl A.2.2 dX9_number_66 ?_
        refine A_iconst (pc := 69) dX9_number_69 ?_
        refine A_iadd (pc := 70) dX9_number_70 ?_
        refine A_putI (pc := 71) fX9_165 wr_8_16 rfl rfl dX9_number_71 ?_
        refine A_goto (pc := 74) 20 dX9_number_74 (by decide) ?_
        have d2 : dg (gS l s (q + 1)) := by unfold dg; omega
        have i2 := gS_in (l := l) (s := s) (p := q + 1) (by omega)
        have C := A.at (q := q + 1 + 1) (by omega) (by omega)
        refine A_loc (l2 := [(0, _), (1, _), (2, _), (3, _), (4, _), (5, _)]) ⟨rfl, rfl, rfl, rfl, rfl, rfl, trivial⟩ ?_
        refine l20c_X9_number j4 lo1 lo2 hi1 hi2 q0 hK d1 d2 _ (by omega) _ (by have z := C.1; rw [show q + 1 + 1 = q + 2 by omega] at z ⊢; exact z) (hF.tr C.2.a) (fun x => by rw [uI_at, if_neg (by omega)]; exact h67 x)
set_option maxRecDepth 20000 in
theorem l20a_X9_number {G : Gl} {d : Nat} {σ0 : Sg} {K : Option Value → Sg → Prop} {l : Nat → Int} {s : Int} {k : Nat} {j : Nat} (j4 : j < 4) {lo hi q : Int} (lo1 : -2147483648 ≤ lo) (lo2 : lo < 2147483648) (hi1 : -2147483648 ≤ hi) (hi2 : hi < 2147483648) (q0 : 0 ≤ q) (hK : ∀ (r : Rd) (v : Int) (υ : Sg), (r, v) = nrF (gS l s) q → (r.1 = false → AtM l s k r.2 υ → FrA σ0 υ → (∀ x, υ.1 67 x = σ0.1 67 x) → K (some (.int (iI 0))) υ) ∧ (r.1 = true → AtM l s k (if lo ≤ v ∧ v ≤ hi then r.2 else q) υ → FrA σ0 υ → υ.1 67 j = v → (∀ x, x ≠ j → υ.1 67 x = σ0.1 67 x) → K (some (.int (iI (bI (lo ≤ v ∧ v ≤ hi))))) υ)) (v : Int) (hv0 : v = 0) (υ : Sg) (A : AtM l s k (q) υ) (hF : FrA σ0 υ) (h67 : ∀ x, υ.1 67 x = σ0.1 67 x) : AW G (d + 2) RX9 cX9_number 7 (some .boolean) 20 [(0, .ref (gA G 54)), (1, .int (iI (j : Int))), (2, .int (iI lo)), (3, .int (iI hi)), (4, .int (iI q)), (5, .int (iI v))] [] υ K := by
  have xx := A.2.1.2
  have ss := A.1.2.2.2.2.1.2
  have gr := gS_rng (l := l) (s := s) (p := q) A.1.2.2.2.2.2
  refine A_aload_n (pc := 20) dX9_number_20 rfl rfl ?_
  refine A_getIv (pc := 21) fX9_165 rfl rfl A.2.2 dX9_number_21 ?_
  refine A_iload (pc := 24) dX9_number_24 rfl ?_
  refine A_isub (pc := 26) dX9_number_26 ?_
  refine A_iconst (pc := 27) dX9_number_27 ?_
  refine A_icmp_ge (pc := 28) 77 dX9_number_28 (by decide) (by omega) (by omega) (by omega) (by omega) (fun h28 => ?_) (fun h28 => ?_)
  · skip
    exfalso; omega
  · skip
    refine A_aload_n (pc := 31) dX9_number_31 rfl rfl ?_
    refine A_callV1 (pc := 32) kX9_171 rfl rfl (c_X9_sign A) dX9_number_32 rfl rfl (Nat.le_of_ble_eq_true rfl) (Nat.le_of_ble_eq_true rfl) ?_
    refine A_bipush (pc := 35) dX9_number_35 (by decide) ?_
    refine A_icmp_lt (pc := 37) 77 dX9_number_37 (by decide) (by omega) (by omega) (by omega) (by omega) (fun h37 => ?_) (fun h37 => ?_)
    · skip
      refine A_loc (l2 := [(0, _), (1, _), (2, _), (3, _), (4, _), (5, _)]) ⟨rfl, rfl, rfl, rfl, rfl, rfl, trivial⟩ ?_
      have d1 : ¬ dg (gS l s q) := by unfold dg; omega
      refine l77_X9_number j4 lo1 lo2 hi1 hi2 q0 hK q v (by omega) (by omega) υ A (by omega) hF h67 (fun e => absurd rfl e) (fun _ => ?_)
      unfold nrF
      rw [if_pos d1]
    · skip
      refine A_aload_n (pc := 40) dX9_number_40 rfl rfl ?_
      refine A_callV1 (pc := 41) kX9_171 rfl rfl (c_X9_sign A) dX9_number_41 rfl rfl (Nat.le_of_ble_eq_true rfl) (Nat.le_of_ble_eq_true rfl) ?_
      refine A_bipush (pc := 44) dX9_number_44 (by decide) ?_
      refine A_icmp_gt (pc := 46) 77 dX9_number_46 (by decide) (by omega) (by omega) (by omega) (by omega) (fun h46 => ?_) (fun h46 => ?_)
      · skip
        refine A_loc (l2 := [(0, _), (1, _), (2, _), (3, _), (4, _), (5, _)]) ⟨rfl, rfl, rfl, rfl, rfl, rfl, trivial⟩ ?_
        have d1 : ¬ dg (gS l s q) := by unfold dg; omega
        refine l77_X9_number j4 lo1 lo2 hi1 hi2 q0 hK q v (by omega) (by omega) υ A (by omega) hF h67 (fun e => absurd rfl e) (fun _ => ?_)
        unfold nrF
        rw [if_pos d1]
      · skip
        refine A_bipush (pc := 49) dX9_number_49 (by decide) ?_
        refine A_iload (pc := 51) dX9_number_51 rfl ?_
        refine A_imul (pc := 53) dX9_number_53 ?_
        refine A_aload_n (pc := 54) dX9_number_54 rfl rfl ?_
        refine A_callV1 (pc := 55) kX9_171 rfl rfl (c_X9_sign A) dX9_number_55 rfl rfl (Nat.le_of_ble_eq_true rfl) (Nat.le_of_ble_eq_true rfl) ?_
        refine A_iadd (pc := 58) dX9_number_58 ?_
        refine A_bipush (pc := 59) dX9_number_59 (by decide) ?_
        refine A_isub (pc := 61) dX9_number_61 ?_
        refine A_istore (pc := 62) dX9_number_62 (Nat.le_of_ble_eq_true rfl) ?_
        refine A_aload_n (pc := 64) dX9_number_64 rfl rfl ?_
        refine A_dup (pc := 65) dX9_number_65 rfl ?_
        refine A_getIv (pc := 66) fX9_165 rfl rfl A.2.2 dX9_number_66 ?_
        refine A_iconst (pc := 69) dX9_number_69 ?_
        refine A_iadd (pc := 70) dX9_number_70 ?_
        refine A_putI (pc := 71) fX9_165 wr_8_16 rfl rfl dX9_number_71 ?_
        refine A_goto (pc := 74) 20 dX9_number_74 (by decide) ?_
        have d1 : dg (gS l s q) := by unfold dg; omega
        have i2 := gS_in (l := l) (s := s) (p := q) (by omega)
        have C := A.at (q := q + 1) (by omega) (by omega)
        refine A_loc (l2 := [(0, _), (1, _), (2, _), (3, _), (4, _), (5, _)]) ⟨rfl, rfl, rfl, rfl, rfl, rfl, trivial⟩ ?_
        refine l20b_X9_number j4 lo1 lo2 hi1 hi2 q0 hK d1 _ (by omega) _ C.1 (hF.tr C.2.a) (fun x => by rw [uI_at, if_neg (by omega)]; exact h67 x)
theorem nuF_32 {g : Int → Int} {p : Int} (h : g p = 32) : nuF g p = (nrF g (p + 1)).1 ∧ nuW g p = (nrF g (p + 1)).2 := by
  have c1 : ¬ (g p ≠ 32) := fun z => z h
  have e1 : p + 1 + 1 = p + 2 := by omega
  have e2 : p + 1 + 2 = p + 3 := by omega
  unfold nuF nuW nrF
  rw [if_neg c1, e1, e2]
  by_cases d1 : dg (g (p + 1))
  · have c2 : ¬ ¬ dg (g (p + 1)) := fun z => z d1
    have c3 : ¬ (g p ≠ 32 ∨ ¬ dg (g (p + 1))) := fun z => Or.elim z c1 c2
    rw [if_neg c2, if_neg c3, if_neg c2]
    by_cases d2 : dg (g (p + 2))
    · rw [if_pos d2, if_pos d2, if_pos d2]; exact ⟨rfl, rfl⟩
    · rw [if_neg d2, if_neg d2, if_neg d2]; exact ⟨rfl, rfl⟩
  · have c3 : g p ≠ 32 ∨ ¬ dg (g (p + 1)) := Or.inr d1
    rw [if_pos d1, if_pos c3, if_pos d1]; exact ⟨rfl, rfl⟩
set_option maxRecDepth 20000 in
theorem c_X9_number {G : Gl} {d : Nat} {σ : Sg} {l : Nat → Int} {s : Int} {k : Nat} {p : Int} (h : AtM l s k p σ) {j : Nat} (j4 : j < 4) {lo : Int} (lo1 : -2147483648 ≤ lo) (lo2 : lo < 2147483648) {hi : Int} (hi1 : -2147483648 ≤ hi) (hi2 : hi < 2147483648) : CT G (d + 2) yX9_number cX9_number 7 (some .boolean) [.ref (gA G 54), .int (iI (j : Int)), .int (iI lo), .int (iI hi)] σ (RE (some (.int (iI (bI ((nmA (gS l s) (true, p) (lo ≤ nuW (gS l s) p ∧ nuW (gS l s) p ≤ hi)).1 = true))))) (fun υ => AtM l s k (nmA (gS l s) (true, p) (lo ≤ nuW (gS l s) p ∧ nuW (gS l s) p ≤ hi)).2 υ ∧ FrA σ υ ∧ ((nmA (gS l s) (true, p) (lo ≤ nuW (gS l s) p ∧ nuW (gS l s) p ≤ hi)).1 = true → υ.1 67 j = nuW (gS l s) p) ∧ ∀ x, x ≠ j → υ.1 67 x = σ.1 67 x)) := by
  refine CT.of (by decide +kernel) (Nat.le_of_ble_eq_true rfl) ?_
  change AW G _ RX9 _ _ _ 0 [(0, .ref (gA G 54)), (1, .int (iI (j : Int))), (2, .int (iI lo)), (3, .int (iI hi))] [] _ _
  have p1 := h.2.1.1
  have p2 := h.2.1.2
  refine A_aload_n (pc := 0) dX9_number_0 rfl rfl ?_
  refine A_bipush (pc := 1) dX9_number_1 (by decide) ?_
  refine A_callVe (pc := 3) kX9_184 rfl rfl (c_X9_is h (c := 32) (by omega) (by omega) (by decide)) dX9_number_3 rfl rfl (Nat.le_of_ble_eq_true rfl) (Nat.le_of_ble_eq_true rfl) (fun υ hυ => ?_)
  refine A_ifb_ne (pc := 6) 11 dX9_number_6 (by decide) (fun h6 => ?_) (fun h6 => ?_)
  · skip
    have h32 : gS l s p = 32 := by
      have z := h6
      unfold isF at z
      by_cases y : gS l s p = 32
      · exact y
      · rw [if_neg y] at z; exact absurd z Bool.false_ne_true
    have e : (isF (gS l s) 32 p).2 = p + 1 := by unfold isF; rw [if_pos h32]
    have A1 : AtM l s k (p + 1) υ := by have z := hυ.1; rw [e] at z; exact z
    obtain ⟨n1, n2⟩ := nuF_32 (g := gS l s) h32
    refine A_aload_n (pc := 11) dX9_number_11 rfl rfl ?_
    refine A_getIv (pc := 12) fX9_165 rfl rfl A1.2.2 dX9_number_12 ?_
    refine A_istore (pc := 15) dX9_number_15 (Nat.le_of_ble_eq_true rfl) ?_
    refine A_iconst (pc := 17) dX9_number_17 ?_
    refine A_istore (pc := 18) dX9_number_18 (Nat.le_of_ble_eq_true rfl) ?_
    refine A_loc (l2 := [(0, _), (1, _), (2, _), (3, _), (4, _), (5, _)]) ⟨rfl, rfl, rfl, rfl, rfl, rfl, trivial⟩ ?_
    refine l20a_X9_number (σ0 := σ) j4 lo1 lo2 hi1 hi2 (by omega) (fun r v ω hr => ⟨fun r1 A F x67 => ?_, fun r1 A F v67 x67 => ?_⟩) 0 rfl υ A1 hυ.2.a hυ.2.n
    · rw [← hr] at n1 n2
      have e2 : (nmA (gS l s) (true, p) (lo ≤ nuW (gS l s) p ∧ nuW (gS l s) p ≤ hi)) = r := by
        show (if (nuF (gS l s) p).1 = true ∧ ¬ (lo ≤ nuW (gS l s) p ∧ nuW (gS l s) p ≤ hi) then (false, p + 1) else nuF (gS l s) p) = r
        rw [n1, if_neg (fun z => absurd z.1 (by show ¬ (r.1 = true); rw [r1]; decide))]
      rw [e2, bI_f (by rw [r1]; decide)]
      exact ⟨rfl, A, F, fun z => absurd z (by rw [r1]; decide), fun x _ => x67 x⟩
    · rw [← hr] at n1 n2
      have n3 : nuW (gS l s) p = v := n2
      by_cases hP : lo ≤ v ∧ v ≤ hi
      · have e2 : (nmA (gS l s) (true, p) (lo ≤ nuW (gS l s) p ∧ nuW (gS l s) p ≤ hi)) = r := by
          show (if (nuF (gS l s) p).1 = true ∧ ¬ (lo ≤ nuW (gS l s) p ∧ nuW (gS l s) p ≤ hi) then (false, p + 1) else nuF (gS l s) p) = r
          rw [n1, n3, if_neg (fun z => z.2 hP)]
        rw [if_pos hP] at A
        rw [e2, bI_t hP, bI_t r1, n3]
        exact ⟨rfl, A, F, fun _ => v67, x67⟩
      · have e2 : (nmA (gS l s) (true, p) (lo ≤ nuW (gS l s) p ∧ nuW (gS l s) p ≤ hi)) = (false, p + 1) := by
          show (if (nuF (gS l s) p).1 = true ∧ ¬ (lo ≤ nuW (gS l s) p ∧ nuW (gS l s) p ≤ hi) then (false, p + 1) else nuF (gS l s) p) = _
          rw [n1, n3, if_pos ⟨r1, hP⟩]
        rw [if_neg hP] at A
        rw [e2, bI_f hP, bI_f Bool.false_ne_true]
        exact ⟨rfl, A, F, fun z => absurd z Bool.false_ne_true, x67⟩
  · skip
    refine A_iconst (pc := 9) dX9_number_9 ?_
    refine A_zret (pc := 10) rfl rfl dX9_number_10 ?_
    have h32 : ¬ gS l s p = 32 := fun y => h6 (by unfold isF; rw [if_pos y])
    have e : isF (gS l s) 32 p = (false, p) := by unfold isF; rw [if_neg h32]
    have e2 : (nmA (gS l s) (true, p) (lo ≤ nuW (gS l s) p ∧ nuW (gS l s) p ≤ hi)) = (false, p) := by
      have e3 : nuF (gS l s) p = (false, p) := by unfold nuF; rw [if_pos h32]
      show (if (nuF (gS l s) p).1 = true ∧ ¬ (lo ≤ nuW (gS l s) p ∧ nuW (gS l s) p ≤ hi) then (false, p + 1) else nuF (gS l s) p) = _
      rw [e3, if_neg (fun z => absurd z.1 Bool.false_ne_true)]
    rw [e] at hυ
    rw [e2, bI_f Bool.false_ne_true]
    exact ⟨rfl, hυ.1, hυ.2.a, fun z => absurd z Bool.false_ne_true, fun x _ => hυ.2.n x⟩
theorem dX9_may_0 : decode cX9_may 0 = .ok (.iload_n 1, 1) := by decide +kernel
theorem dX9_may_1 : decode cX9_may 1 = .ok (.ifCond .ne 10, 3) := by decide +kernel
theorem dX9_may_4 : decode cX9_may 4 = .ok (.aload_n 0, 1) := by decide +kernel
theorem dX9_may_5 : decode cX9_may 5 = .ok (.iload_n 2, 1) := by decide +kernel
theorem dX9_may_6 : decode cX9_may 6 = .ok (.iconst 1, 1) := by decide +kernel
theorem dX9_may_7 : decode cX9_may 7 = .ok (.iadd, 1) := by decide +kernel
theorem dX9_may_8 : decode cX9_may 8 = .ok (.putfield 165, 3) := by decide +kernel
theorem dX9_may_11 : decode cX9_may 11 = .ok (.iload_n 1, 1) := by decide +kernel
theorem dX9_may_12 : decode cX9_may 12 = .ok (.ireturn, 1) := by decide +kernel
set_option maxRecDepth 20000 in
theorem c_X9_may {G : Gl} {d : Nat} {σ : Sg} {l : Nat → Int} {s : Int} {k : Nat} {p n : Int} {P : Prop} [Decidable P] (h : AtM l s k p σ) (n1 : 0 ≤ n) (n2 : ¬ P → n + 1 ≤ s) : CT G d yX9_may cX9_may 3 (some .boolean) [.ref (gA G 54), .int (iI (bI P)), .int (iI n)] σ (RE (some (.int (iI (bI P)))) (fun υ => AtM l s k (if P then p else n + 1) υ ∧ FrB σ υ)) := by
  refine CT.of (by decide +kernel) (Nat.le_of_ble_eq_true rfl) ?_
  change AW G _ RX9 _ _ _ 0 [(0, .ref (gA G 54)), (1, .int (iI (bI P))), (2, .int (iI n))] [] _ _
  refine A_iload_n (pc := 0) dX9_may_0 rfl rfl ?_
  refine A_ifb_ne (pc := 1) 11 dX9_may_1 (by decide) (fun h1 => ?_) (fun h1 => ?_)
  · skip
    refine A_iload_n (pc := 11) dX9_may_11 rfl rfl ?_
    refine A_zret (pc := 12) rfl nar_b dX9_may_12 ?_
    rw [if_pos h1]
    exact ⟨rfl, h, FrB.rf⟩
  · skip
    refine A_aload_n (pc := 4) dX9_may_4 rfl rfl ?_
    refine A_iload_n (pc := 5) dX9_may_5 rfl rfl ?_
    refine A_iconst (pc := 6) dX9_may_6 ?_
    refine A_iadd (pc := 7) dX9_may_7 ?_
    refine A_putI (pc := 8) fX9_165 wr_8_16 rfl rfl dX9_may_8 ?_
    refine A_iload_n (pc := 11) dX9_may_11 rfl rfl ?_
    refine A_zret (pc := 12) rfl nar_b dX9_may_12 ?_
    rw [if_neg h1]
    exact ⟨rfl, (h.at (by omega) (n2 h1)).1, (h.at (by omega) (n2 h1)).2⟩
