/-! PART 51: an item read by the reference -/
theorem Rd_f {r : Rd} (h : ¬ r.1 = true) : r = (false, r.2) := by
  obtain ⟨b, p⟩ := r
  cases b
  · rfl
  · exact absurd rfl h
theorem Rd_t {r : Rd} (h : r.1 = true) : r = (true, r.2) := by
  obtain ⟨b, p⟩ := r
  cases b
  · exact absurd h Bool.false_ne_true
  · rfl
theorem nuV_t {g : Int → Int} {r : Rd} (h : r.1 = true) : nuV g r = nuW g r.2 := if_pos h
theorem nmA_f {g : Int → Int} {r : Rd} {P : Prop} [Decidable P] (h : ¬ r.1 = true) : nmA g r P = r := by
  have e : thn r (nuF g) = r := if_neg h
  unfold nmA
  rw [e, if_neg (fun z => h z.1)]
theorem nmA_e {g : Int → Int} {r : Rd} {P : Prop} [Decidable P] (h : r.1 = true) : nmA g r P = nmA g (true, r.2) P := by
  have e := Rd_t h
  rw [e]
theorem nmA_congr {g : Int → Int} {r : Rd} {P Q : Prop} [Decidable P] [Decidable Q] (h : P ↔ Q) : nmA g r P = nmA g r Q := by
  unfold nmA
  by_cases c : (thn r (nuF g)).1 = true ∧ ¬ P
  · rw [if_pos c, if_pos ⟨c.1, fun z => c.2 (h.mpr z)⟩]
  · rw [if_neg c, if_neg (fun z => c ⟨z.1, fun y => z.2 (h.mp y)⟩)]
theorem nmA_sub {g : Int → Int} {r : Rd} {P Q : Prop} [Decidable P] [Decidable Q] (h : P → Q) (hq : ¬ (nmA g r Q).1 = true) : nmA g r P = nmA g r Q := by
  unfold nmA at hq ⊢
  by_cases c : (thn r (nuF g)).1 = true
  · by_cases q : Q
    · rw [if_neg (fun z => z.2 q)] at hq
      exact absurd c hq
    · rw [if_pos ⟨c, fun z => q (h z)⟩, if_pos ⟨c, q⟩]
  · rw [if_neg (fun z => c z.1), if_neg (fun z => c z.1)]
theorem nmA_may {g : Int → Int} {r : Rd} {P Q R : Prop} [Decidable P] [Decidable Q] [Decidable R] (h : P ↔ Q ∧ R) (hq : (nmA g r Q).1 = true) : nmA g r P = if R then nmA g r Q else (false, r.2 + 1) := by
  unfold nmA at hq ⊢
  by_cases c : (thn r (nuF g)).1 = true
  · by_cases q : Q
    · by_cases rr : R
      · rw [if_pos rr, if_neg (fun z => z.2 (h.mpr ⟨q, rr⟩)), if_neg (fun z => z.2 q)]
      · rw [if_neg rr, if_pos ⟨c, fun z => rr (h.mp z).2⟩]
    · rw [if_pos ⟨c, q⟩] at hq; exact absurd hq Bool.false_ne_true
  · rw [if_neg (fun z => c z.1)] at hq; exact absurd hq c
theorem pR_f5 {g : Int → Int} {τ : Tw} {p : Int} (h : ¬ (pR5 g τ p).1 = true) : pR6 g τ p = (false, (pR5 g τ p).2) := (nmA_f h).trans (Rd_f h)
theorem pR_f4 {g : Int → Int} {τ : Tw} {p : Int} (h : ¬ (pR4 g τ p).1 = true) : pR6 g τ p = (false, (pR4 g τ p).2) := by
  have e : pR5 g τ p = pR4 g τ p := nmA_f h
  have z := pR_f5 (g := g) (τ := τ) (p := p) (by rw [e]; exact h)
  rw [e] at z; exact z
theorem pR_f3 {g : Int → Int} {τ : Tw} {p : Int} (h : ¬ (pR3 g τ p).1 = true) : pR6 g τ p = (false, (pR3 g τ p).2) := by
  have e : pR4 g τ p = pR3 g τ p := nmA_f h
  have z := pR_f4 (g := g) (τ := τ) (p := p) (by rw [e]; exact h)
  rw [e] at z; exact z
theorem pR_f2 {g : Int → Int} {τ : Tw} {p : Int} (h : ¬ (pR2 g τ p).1 = true) : pR6 g τ p = (false, (pR2 g τ p).2) := by
  have e : pR3 g τ p = pR2 g τ p := nmA_f h
  have z := pR_f3 (g := g) (τ := τ) (p := p) (by rw [e]; exact h)
  rw [e] at z; exact z
theorem wR_f3 {g : Int → Int} {τ : Tw} {p : Int} (h : ¬ (wR3 g τ p).1 = true) : wR4 g τ p = (false, (wR3 g τ p).2) := (nmA_f h).trans (Rd_f h)
theorem wR_f2 {g : Int → Int} {τ : Tw} {p : Int} (h : ¬ (wR2 g τ p).1 = true) : wR4 g τ p = (false, (wR2 g τ p).2) := by
  have e : wR3 g τ p = wR2 g τ p := nmA_f h
  have z := wR_f3 (g := g) (τ := τ) (p := p) (by rw [e]; exact h)
  rw [e] at z; exact z
def FrI (σ υ : Sg) : Prop := Fr (fun a => (54 ≤ a ∧ a < 64) ∨ a = 67) σ υ ∧ ∀ j, j ≠ 0 → j ≠ 5 → j ≠ 16 → υ.1 54 j = σ.1 54 j
theorem FrA.i {σ υ : Sg} (h : FrA σ υ) : FrI σ υ := ⟨h.1.mono (fun a z => by omega), fun j _ _ h3 => h.2 j h3⟩
theorem FrI.tr {σ υ ω : Sg} (h1 : FrI σ υ) (h2 : FrI υ ω) : FrI σ ω := ⟨h1.1.tr h2.1, fun j a b c => (h2.2 j a b c).trans (h1.2 j a b c)⟩
theorem RMt.fa {τ : Tw} {σ υ : Sg} (h : RMt τ σ) (hF : FrA σ υ) : RMt τ υ := by
  obtain ⟨t1, t2, t3, t4, t5, t6, t7⟩ := h
  have e : ∀ a, a ≠ 54 → a ≠ 67 → υ.1 a = σ.1 a := fun a ha hb => (hF.1 a (by omega)).1
  exact ⟨fun i hi => by rw [e 62 (by omega) (by omega)]; exact t1 i hi, by rw [hF.2 0 (by omega)]; exact t2, by rw [hF.2 5 (by omega)]; exact t3, fun k hk => by rw [e 63 (by omega) (by omega)]; exact t4 k hk, by rw [hF.2 11 (by omega)]; exact t5, fun j p hj hp => by rw [e _ (by omega) (by omega)]; exact t6 j p hj hp, fun j p hj hp => by rw [e _ (by omega) (by omega)]; exact t7 j p hj hp⟩
theorem AtM.fi {l : Nat → Int} {s p : Int} {k : Nat} {σ υ : Sg} (h : AtM l s k p σ) (h1 : ∀ a, a = 65 ∨ a = 66 → υ.1 a = σ.1 a ∧ υ.2 a = σ.2 a) (h2 : ∀ j, j = 15 ∨ j = 16 → υ.1 54 j = σ.1 54 j) : AtM l s k p υ := ⟨h.1.ag (h2 15 (Or.inl rfl)) (h1 65 (Or.inl rfl)).1 (h1 66 (Or.inr rfl)).2, h.2.1, by rw [h2 16 (Or.inr rfl)]; exact h.2.2⟩
theorem nb1 {l : Nat → Int} {s : Int} {r : Rd} {P : Prop} [Decidable P] (h1 : 0 ≤ r.2) (h2 : r.2 ≤ s) (h : (nmA (gS l s) r P).1 = true) : r.2 + 1 ≤ s := by
  have z := thn_bd (l := l) h1 h2
  have q : (thn r (nuF (gS l s))).1 = true := by
    unfold nmA at h
    by_cases c : (thn r (nuF (gS l s))).1 = true ∧ ¬ P
    · exact c.1
    · rw [if_neg c] at h; exact h
  have := (z.2.2.2 q).2
  omega
theorem itH_f {g : Int → Int} {τ : Tw} {p f : Int} (h : hR1 g τ p = (false, f)) : itH g τ p = ((false, f), τ) := by
  unfold itH
  rw [h, if_neg Bool.false_ne_true]
theorem itH_t {g : Int → Int} {τ : Tw} {p f : Int} (h : hR1 g τ p = (true, f)) : itH g τ p = ((true, f), tH τ (τ.1 ||| sqB (nuV g (wdF g 0 5 0 p)))) := by
  unfold itH
  rw [h, if_pos rfl]
theorem itY_f {g : Int → Int} {τ : Tw} {p f : Int} (h : yR1 g τ p = (false, f)) : itY g τ p = ((false, f), τ) := by
  unfold itY
  rw [h, if_neg Bool.false_ne_true]
theorem itY_t {g : Int → Int} {τ : Tw} {p f : Int} (h : yR1 g τ p = (true, f)) : itY g τ p = ((true, f), tH τ (nB τ.1 (sqB (nuV g (wdF g 1 4 0 p))))) := by
  unfold itY
  rw [h, if_pos rfl]
theorem itP_f {g : Int → Int} {τ : Tw} {p f : Int} (h : pR6 g τ p = (false, f)) : itP g τ p = ((false, f), τ) := by
  unfold itP
  rw [h, if_neg Bool.false_ne_true]
theorem itP_t {g : Int → Int} {τ : Tw} {p f : Int} (h : pR6 g τ p = (true, f)) : itP g τ p = ((true, f), addP τ (nuV g (pR2 g τ p)) (nuV g (pR3 g τ p)) (nuV g (pR4 g τ p)) (nuV g (pR5 g τ p))) := by
  unfold itP
  rw [h, if_pos rfl]
theorem itW_f {g : Int → Int} {τ : Tw} {p f : Int} (h : wR4 g τ p = (false, f)) : itW g τ p = ((false, f), τ) := by
  unfold itW
  rw [h, if_neg Bool.false_ne_true]
theorem itW_t {g : Int → Int} {τ : Tw} {p f : Int} (h : wR4 g τ p = (true, f)) : itW g τ p = ((true, f), addW τ (nuV g (wR2 g τ p)) (nuV g (wR3 g τ p))) := by
  unfold itW
  rw [h, if_pos rfl]
theorem itR_f {g : Int → Int} {τ : Tw} {p f : Int} (h : rR1 g p = (false, f)) : itR g τ p = ((false, f), τ) := by
  unfold itR
  rw [h, if_neg Bool.false_ne_true]
theorem itR_t {g : Int → Int} {τ : Tw} {p f : Int} (h : rR1 g p = (true, f)) : itR g τ p = ((true, f), tS τ 2 (nuV g (wdF g 4 5 0 p))) := by
  unfold itR
  rw [h, if_pos rfl]
set_option maxRecDepth 20000 in
theorem c_X9_newPane2 {G : Gl} {d : Nat} {σ : Sg} {τ : Tw} (hM : RMt τ σ) (hO : OkT τ) (hp : τ.2.1 0 < 9) {k a s w : Int} : CT G d yX9_newPane cX9_newPane 5 (some .int) [.ref (gA G 54), .int (iI k), .int (iI a), .int (iI s), .int (iI w)] σ (RE (some (.int (iI (τ.2.1 0)))) (fun υ => RMt (addP τ k a s w) υ ∧ Fr TM σ υ ∧ ∀ j, j ≠ 0 → j ≠ 5 → υ.1 54 j = σ.1 54 j)) := by
  refine CT.of (by decide +kernel) (Nat.le_of_ble_eq_true rfl) ?_
  change AW G _ RX9 _ _ _ 0 [(0, .ref (gA G 54)), (1, .int (iI k)), (2, .int (iI a)), (3, .int (iI s)), (4, .int (iI w))] [] _ _
  have hO2 := hO
  obtain ⟨o1, o2, o3, o4, o5, o6, o7, o8, o9⟩ := hO2
  have p0 := hM.2.1
  have p1 := hM.2.2.1
  have p2 : σ.1 63 0 = τ.2.1 2 := hM.2.2.2.1 0 (by decide)
  obtain ⟨n, hn⟩ := Int.eq_ofNat_of_zero_le o2
  have e : (τ.2.1 0).toNat = n := by omega
  refine A_aload_n (pc := 0) dX9_newPane_0 rfl rfl ?_
  refine A_getR (pc := 1) fX9_7 rfl rfl dX9_newPane_1 ?_
  refine A_aload_n (pc := 4) dX9_newPane_4 rfl rfl ?_
  refine A_getIv (pc := 5) fX9_83 rfl rfl (show _ = (n : Int) from by rw [p0, hn]) dX9_newPane_5 ?_
  refine A_iload_n (pc := 8) dX9_newPane_8 rfl rfl ?_
  refine A_iast (pc := 9) n rfl rfl (by omega) (Nat.le_of_ble_eq_true rfl) dX9_newPane_9 ?_
  refine A_aload_n (pc := 10) dX9_newPane_10 rfl rfl ?_
  refine A_getR (pc := 11) fX9_13 rfl rfl dX9_newPane_11 ?_
  refine A_aload_n (pc := 14) dX9_newPane_14 rfl rfl ?_
  refine A_getIv (pc := 15) fX9_83 rfl rfl (show _ = (n : Int) from by rw [uI_at, if_neg (by omega)]; rw [p0, hn]) dX9_newPane_15 ?_
  refine A_iload_n (pc := 18) dX9_newPane_18 rfl rfl ?_
  refine A_iast (pc := 19) n rfl rfl (by omega) (Nat.le_of_ble_eq_true rfl) dX9_newPane_19 ?_
  refine A_aload_n (pc := 20) dX9_newPane_20 rfl rfl ?_
  refine A_getR (pc := 21) fX9_16 rfl rfl dX9_newPane_21 ?_
  refine A_aload_n (pc := 24) dX9_newPane_24 rfl rfl ?_
  refine A_getIv (pc := 25) fX9_83 rfl rfl (show _ = (n : Int) from by rw [uI_at, if_neg (by omega)]; rw [uI_at, if_neg (by omega)]; rw [p0, hn]) dX9_newPane_25 ?_
  refine A_iload_n (pc := 28) dX9_newPane_28 rfl rfl ?_
  refine A_iast (pc := 29) n rfl rfl (by omega) (Nat.le_of_ble_eq_true rfl) dX9_newPane_29 ?_
  refine A_aload_n (pc := 30) dX9_newPane_30 rfl rfl ?_
  refine A_getR (pc := 31) fX9_19 rfl rfl dX9_newPane_31 ?_
  refine A_aload_n (pc := 34) dX9_newPane_34 rfl rfl ?_
  refine A_getIv (pc := 35) fX9_83 rfl rfl (show _ = (n : Int) from by rw [uI_at, if_neg (by omega)]; rw [uI_at, if_neg (by omega)]; rw [uI_at, if_neg (by omega)]; rw [p0, hn]) dX9_newPane_35 ?_
  refine A_iload (pc := 38) dX9_newPane_38 rfl ?_
  refine A_iast (pc := 40) n rfl rfl (by omega) (Nat.le_of_ble_eq_true rfl) dX9_newPane_40 ?_
  refine A_aload_n (pc := 41) dX9_newPane_41 rfl rfl ?_
  refine A_dup (pc := 42) dX9_newPane_42 rfl ?_
  refine A_getIv (pc := 43) fX9_83 rfl rfl (show _ = (n : Int) from by rw [uI_at, if_neg (by omega)]; rw [uI_at, if_neg (by omega)]; rw [uI_at, if_neg (by omega)]; rw [uI_at, if_neg (by omega)]; rw [p0, hn]) dX9_newPane_43 ?_
  refine A_dup_x1 (pc := 46) dX9_newPane_46 rfl rfl ?_
  refine A_iconst (pc := 47) dX9_newPane_47 ?_
  refine A_iadd (pc := 48) dX9_newPane_48 ?_
  refine A_putI (pc := 49) fX9_83 wr_8_0 rfl rfl dX9_newPane_49 ?_
  refine A_iret (pc := 52) rfl dX9_newPane_52 ?_
  refine ⟨by rw [hn], ?_, ((((Fr.rf.uI (show TM 55 by unfold TM; omega)).uI (show TM 56 by unfold TM; omega)).uI (show TM 57 by unfold TM; omega)).uI (show TM 58 by unfold TM; omega)).uI (show TM 54 by unfold TM; omega), fun j hj hj5 => ?_⟩
  · have q := (((hM.setA 0 n k (by decide)).setA 1 n a (by decide)).setA 2 n s (by decide)).setA 3 n w (by decide)
    have q2 := q.inc0 (n := n) hn (fun j hj => by
      have hh : j = 0 ∨ j = 1 ∨ j = 2 ∨ j = 3 := by omega
      rcases hh with rfl | rfl | rfl | rfl <;> simp [uI_at, tA])
    rw [addP, e, hn]
    exact q2
  · rw [uI_at, if_neg (by omega), uI_at, if_neg (by omega), uI_at, if_neg (by omega), uI_at, if_neg (by omega), uI_at, if_neg (by omega)]
set_option maxRecDepth 20000 in
theorem c_X9_newWalker2 {G : Gl} {d : Nat} {σ : Sg} {τ : Tw} (hM : RMt τ σ) (hO : OkT τ) (hp : τ.2.1 1 < 5) {s w : Int} : CT G d yX9_newWalker cX9_newWalker 3 (some .int) [.ref (gA G 54), .int (iI s), .int (iI w)] σ (RE (some (.int (iI (τ.2.1 1)))) (fun υ => RMt (addW τ s w) υ ∧ Fr TM σ υ ∧ ∀ j, j ≠ 0 → j ≠ 5 → υ.1 54 j = σ.1 54 j)) := by
  refine CT.of (by decide +kernel) (Nat.le_of_ble_eq_true rfl) ?_
  change AW G _ RX9 _ _ _ 0 [(0, .ref (gA G 54)), (1, .int (iI s)), (2, .int (iI w))] [] _ _
  have hO2 := hO
  obtain ⟨o1, o2, o3, o4, o5, o6, o7, o8, o9⟩ := hO2
  have p0 := hM.2.1
  have p1 := hM.2.2.1
  have p2 : σ.1 63 0 = τ.2.1 2 := hM.2.2.2.1 0 (by decide)
  obtain ⟨n, hn⟩ := Int.eq_ofNat_of_zero_le o4
  have e : (τ.2.1 1).toNat = n := by omega
  refine A_aload_n (pc := 0) dX9_newWalker_0 rfl rfl ?_
  refine A_getR (pc := 1) fX9_22 rfl rfl dX9_newWalker_1 ?_
  refine A_aload_n (pc := 4) dX9_newWalker_4 rfl rfl ?_
  refine A_getIv (pc := 5) fX9_90 rfl rfl (show _ = (n : Int) from by rw [p1, hn]) dX9_newWalker_5 ?_
  refine A_iload_n (pc := 8) dX9_newWalker_8 rfl rfl ?_
  refine A_iast (pc := 9) n rfl rfl (by omega) (Nat.le_of_ble_eq_true rfl) dX9_newWalker_9 ?_
  refine A_aload_n (pc := 10) dX9_newWalker_10 rfl rfl ?_
  refine A_getR (pc := 11) fX9_25 rfl rfl dX9_newWalker_11 ?_
  refine A_aload_n (pc := 14) dX9_newWalker_14 rfl rfl ?_
  refine A_getIv (pc := 15) fX9_90 rfl rfl (show _ = (n : Int) from by rw [uI_at, if_neg (by omega)]; rw [p1, hn]) dX9_newWalker_15 ?_
  refine A_iload_n (pc := 18) dX9_newWalker_18 rfl rfl ?_
  refine A_iast (pc := 19) n rfl rfl (by omega) (Nat.le_of_ble_eq_true rfl) dX9_newWalker_19 ?_
  refine A_aload_n (pc := 20) dX9_newWalker_20 rfl rfl ?_
  refine A_getR (pc := 21) fX9_28 rfl rfl dX9_newWalker_21 ?_
  refine A_aload_n (pc := 24) dX9_newWalker_24 rfl rfl ?_
  refine A_getIv (pc := 25) fX9_90 rfl rfl (show _ = (n : Int) from by rw [uI_at, if_neg (by omega)]; rw [uI_at, if_neg (by omega)]; rw [p1, hn]) dX9_newWalker_25 ?_
  refine A_iconst (pc := 28) dX9_newWalker_28 ?_
  refine A_iast (pc := 29) n rfl rfl (by omega) (Nat.le_of_ble_eq_true rfl) dX9_newWalker_29 ?_
  refine A_aload_n (pc := 30) dX9_newWalker_30 rfl rfl ?_
  refine A_dup (pc := 31) dX9_newWalker_31 rfl ?_
  refine A_getIv (pc := 32) fX9_90 rfl rfl (show _ = (n : Int) from by rw [uI_at, if_neg (by omega)]; rw [uI_at, if_neg (by omega)]; rw [uI_at, if_neg (by omega)]; rw [p1, hn]) dX9_newWalker_32 ?_
  refine A_dup_x1 (pc := 35) dX9_newWalker_35 rfl rfl ?_
  refine A_iconst (pc := 36) dX9_newWalker_36 ?_
  refine A_iadd (pc := 37) dX9_newWalker_37 ?_
  refine A_putI (pc := 38) fX9_90 wr_8_5 rfl rfl dX9_newWalker_38 ?_
  refine A_iret (pc := 41) rfl dX9_newWalker_41 ?_
  refine ⟨by rw [hn], ?_, (((Fr.rf.uI (show TM 59 by unfold TM; omega)).uI (show TM 60 by unfold TM; omega)).uI (show TM 61 by unfold TM; omega)).uI (show TM 54 by unfold TM; omega), fun j hj hj5 => ?_⟩
  · have q := ((hM.setA 4 n s (by decide)).setA 5 n w (by decide)).setA 6 n 0 (by decide)
    have q2 := q.inc1 (n := n) hn (fun j hj => by
      have hh : j = 0 ∨ j = 1 ∨ j = 2 := by omega
      rcases hh with rfl | rfl | rfl <;> simp [uI_at, tA])
    rw [addW, e, hn]
    exact q2
  · rw [uI_at, if_neg (by omega), uI_at, if_neg (by omega), uI_at, if_neg (by omega), uI_at, if_neg (by omega)]
theorem dX9_item_0 : decode cX9_item 0 = .ok (.aload_n 0, 1) := by decide +kernel
theorem dX9_item_1 : decode cX9_item 1 = .ok (.invokevirtual 171, 3) := by decide +kernel
theorem dX9_item_4 : decode cX9_item 4 = .ok (.lookupswitch 425 #[(104, 52), (112, 176), (114, 389), (119, 300), (121, 114)], 52) := by decide +kernel
theorem dX9_item_56 : decode cX9_item 56 = .ok (.aload_n 0, 1) := by decide +kernel
theorem dX9_item_57 : decode cX9_item 57 = .ok (.ldc 192, 2) := by decide +kernel
theorem dX9_item_59 : decode cX9_item 59 = .ok (.invokevirtual 188, 3) := by decide +kernel
theorem dX9_item_62 : decode cX9_item 62 = .ok (.ifCond .ne 5, 3) := by decide +kernel
theorem dX9_item_65 : decode cX9_item 65 = .ok (.iconst 0, 1) := by decide +kernel
theorem dX9_item_66 : decode cX9_item 66 = .ok (.ireturn, 1) := by decide +kernel
theorem dX9_item_67 : decode cX9_item 67 = .ok (.aload_n 0, 1) := by decide +kernel
theorem dX9_item_68 : decode cX9_item 68 = .ok (.getfield 165, 3) := by decide +kernel
theorem dX9_item_71 : decode cX9_item 71 = .ok (.istore_n 1, 1) := by decide +kernel
theorem dX9_item_72 : decode cX9_item 72 = .ok (.aload_n 0, 1) := by decide +kernel
theorem dX9_item_73 : decode cX9_item 73 = .ok (.iconst 0, 1) := by decide +kernel
theorem dX9_item_74 : decode cX9_item 74 = .ok (.iconst 0, 1) := by decide +kernel
theorem dX9_item_75 : decode cX9_item 75 = .ok (.bipush 48, 2) := by decide +kernel
theorem dX9_item_77 : decode cX9_item 77 = .ok (.invokevirtual 194, 3) := by decide +kernel
theorem dX9_item_80 : decode cX9_item 80 = .ok (.ifCond .eq 22, 3) := by decide +kernel
theorem dX9_item_83 : decode cX9_item 83 = .ok (.aload_n 0, 1) := by decide +kernel
theorem dX9_item_84 : decode cX9_item 84 = .ok (.aload_n 0, 1) := by decide +kernel
theorem dX9_item_85 : decode cX9_item 85 = .ok (.aload_n 0, 1) := by decide +kernel
theorem dX9_item_86 : decode cX9_item 86 = .ok (.getfield 48, 3) := by decide +kernel
theorem dX9_item_89 : decode cX9_item 89 = .ok (.iconst 0, 1) := by decide +kernel
theorem dX9_item_90 : decode cX9_item 90 = .ok (.iaload, 1) := by decide +kernel
theorem dX9_item_91 : decode cX9_item 91 = .ok (.iconst 1, 1) := by decide +kernel
theorem dX9_item_92 : decode cX9_item 92 = .ok (.invokevirtual 129, 3) := by decide +kernel
theorem dX9_item_95 : decode cX9_item 95 = .ok (.iload_n 1, 1) := by decide +kernel
theorem dX9_item_96 : decode cX9_item 96 = .ok (.invokevirtual 197, 3) := by decide +kernel
theorem dX9_item_99 : decode cX9_item 99 = .ok (.ifCond .ne 5, 3) := by decide +kernel
theorem dX9_item_102 : decode cX9_item 102 = .ok (.iconst 0, 1) := by decide +kernel
theorem dX9_item_103 : decode cX9_item 103 = .ok (.ireturn, 1) := by decide +kernel
theorem dX9_item_104 : decode cX9_item 104 = .ok (.aload_n 0, 1) := by decide +kernel
theorem dX9_item_105 : decode cX9_item 105 = .ok (.getfield 31, 3) := by decide +kernel
theorem dX9_item_108 : decode cX9_item 108 = .ok (.aload_n 0, 1) := by decide +kernel
theorem dX9_item_109 : decode cX9_item 109 = .ok (.getfield 48, 3) := by decide +kernel
theorem dX9_item_112 : decode cX9_item 112 = .ok (.iconst 0, 1) := by decide +kernel
theorem dX9_item_113 : decode cX9_item 113 = .ok (.iaload, 1) := by decide +kernel
theorem dX9_item_114 : decode cX9_item 114 = .ok (.iconst 1, 1) := by decide +kernel
theorem dX9_item_115 : decode cX9_item 115 = .ok (.bastore, 1) := by decide +kernel
theorem dX9_item_116 : decode cX9_item 116 = .ok (.iconst 1, 1) := by decide +kernel
theorem dX9_item_117 : decode cX9_item 117 = .ok (.ireturn, 1) := by decide +kernel
theorem dX9_item_118 : decode cX9_item 118 = .ok (.aload_n 0, 1) := by decide +kernel
theorem dX9_item_119 : decode cX9_item 119 = .ok (.ldc 201, 2) := by decide +kernel
theorem dX9_item_121 : decode cX9_item 121 = .ok (.invokevirtual 188, 3) := by decide +kernel
theorem dX9_item_124 : decode cX9_item 124 = .ok (.ifCond .ne 5, 3) := by decide +kernel
theorem dX9_item_127 : decode cX9_item 127 = .ok (.iconst 0, 1) := by decide +kernel
theorem dX9_item_128 : decode cX9_item 128 = .ok (.ireturn, 1) := by decide +kernel
theorem dX9_item_129 : decode cX9_item 129 = .ok (.aload_n 0, 1) := by decide +kernel
theorem dX9_item_130 : decode cX9_item 130 = .ok (.getfield 165, 3) := by decide +kernel
theorem dX9_item_133 : decode cX9_item 133 = .ok (.istore_n 1, 1) := by decide +kernel
theorem dX9_item_134 : decode cX9_item 134 = .ok (.aload_n 0, 1) := by decide +kernel
theorem dX9_item_135 : decode cX9_item 135 = .ok (.iconst 0, 1) := by decide +kernel
theorem dX9_item_136 : decode cX9_item 136 = .ok (.iconst 0, 1) := by decide +kernel
theorem dX9_item_137 : decode cX9_item 137 = .ok (.bipush 48, 2) := by decide +kernel
theorem dX9_item_139 : decode cX9_item 139 = .ok (.invokevirtual 194, 3) := by decide +kernel
theorem dX9_item_142 : decode cX9_item 142 = .ok (.ifCond .eq 22, 3) := by decide +kernel
theorem dX9_item_145 : decode cX9_item 145 = .ok (.aload_n 0, 1) := by decide +kernel
theorem dX9_item_146 : decode cX9_item 146 = .ok (.aload_n 0, 1) := by decide +kernel
theorem dX9_item_147 : decode cX9_item 147 = .ok (.aload_n 0, 1) := by decide +kernel
theorem dX9_item_148 : decode cX9_item 148 = .ok (.getfield 48, 3) := by decide +kernel
theorem dX9_item_151 : decode cX9_item 151 = .ok (.iconst 0, 1) := by decide +kernel
theorem dX9_item_152 : decode cX9_item 152 = .ok (.iaload, 1) := by decide +kernel
theorem dX9_item_153 : decode cX9_item 153 = .ok (.iconst 0, 1) := by decide +kernel
theorem dX9_item_154 : decode cX9_item 154 = .ok (.invokevirtual 129, 3) := by decide +kernel
theorem dX9_item_157 : decode cX9_item 157 = .ok (.iload_n 1, 1) := by decide +kernel
theorem dX9_item_158 : decode cX9_item 158 = .ok (.invokevirtual 197, 3) := by decide +kernel
theorem dX9_item_161 : decode cX9_item 161 = .ok (.ifCond .ne 5, 3) := by decide +kernel
theorem dX9_item_164 : decode cX9_item 164 = .ok (.iconst 0, 1) := by decide +kernel
theorem dX9_item_165 : decode cX9_item 165 = .ok (.ireturn, 1) := by decide +kernel
theorem dX9_item_166 : decode cX9_item 166 = .ok (.aload_n 0, 1) := by decide +kernel
theorem dX9_item_167 : decode cX9_item 167 = .ok (.getfield 31, 3) := by decide +kernel
theorem dX9_item_170 : decode cX9_item 170 = .ok (.aload_n 0, 1) := by decide +kernel
theorem dX9_item_171 : decode cX9_item 171 = .ok (.getfield 48, 3) := by decide +kernel
theorem dX9_item_174 : decode cX9_item 174 = .ok (.iconst 0, 1) := by decide +kernel
theorem dX9_item_175 : decode cX9_item 175 = .ok (.iaload, 1) := by decide +kernel
theorem dX9_item_176 : decode cX9_item 176 = .ok (.iconst 0, 1) := by decide +kernel
theorem dX9_item_177 : decode cX9_item 177 = .ok (.bastore, 1) := by decide +kernel
theorem dX9_item_178 : decode cX9_item 178 = .ok (.iconst 1, 1) := by decide +kernel
theorem dX9_item_179 : decode cX9_item 179 = .ok (.ireturn, 1) := by decide +kernel
theorem dX9_item_180 : decode cX9_item 180 = .ok (.aload_n 0, 1) := by decide +kernel
theorem dX9_item_181 : decode cX9_item 181 = .ok (.ldc 203, 2) := by decide +kernel
theorem dX9_item_183 : decode cX9_item 183 = .ok (.aload_n 0, 1) := by decide +kernel
theorem dX9_item_184 : decode cX9_item 184 = .ok (.getfield 83, 3) := by decide +kernel
theorem dX9_item_187 : decode cX9_item 187 = .ok (.bipush 9, 2) := by decide +kernel
theorem dX9_item_189 : decode cX9_item 189 = .ok (.if_icmp .ge 7, 3) := by decide +kernel
theorem dX9_item_192 : decode cX9_item 192 = .ok (.iconst 1, 1) := by decide +kernel
theorem dX9_item_193 : decode cX9_item 193 = .ok (.goto 4, 3) := by decide +kernel
theorem dX9_item_196 : decode cX9_item 196 = .ok (.iconst 0, 1) := by decide +kernel
theorem dX9_item_197 : decode cX9_item 197 = .ok (.invokevirtual 205, 3) := by decide +kernel
theorem dX9_item_200 : decode cX9_item 200 = .ok (.ifCond .eq 25, 3) := by decide +kernel
theorem dX9_item_203 : decode cX9_item 203 = .ok (.aload_n 0, 1) := by decide +kernel
theorem dX9_item_204 : decode cX9_item 204 = .ok (.iconst 0, 1) := by decide +kernel
theorem dX9_item_205 : decode cX9_item 205 = .ok (.iconst 0, 1) := by decide +kernel
theorem dX9_item_206 : decode cX9_item 206 = .ok (.bipush 6, 2) := by decide +kernel
theorem dX9_item_208 : decode cX9_item 208 = .ok (.invokevirtual 194, 3) := by decide +kernel
theorem dX9_item_211 : decode cX9_item 211 = .ok (.ifCond .eq 14, 3) := by decide +kernel
theorem dX9_item_214 : decode cX9_item 214 = .ok (.aload_n 0, 1) := by decide +kernel
theorem dX9_item_215 : decode cX9_item 215 = .ok (.iconst 1, 1) := by decide +kernel
theorem dX9_item_216 : decode cX9_item 216 = .ok (.iconst 0, 1) := by decide +kernel
theorem dX9_item_217 : decode cX9_item 217 = .ok (.bipush 9, 2) := by decide +kernel
theorem dX9_item_219 : decode cX9_item 219 = .ok (.invokevirtual 194, 3) := by decide +kernel
theorem dX9_item_222 : decode cX9_item 222 = .ok (.ifCond .ne 5, 3) := by decide +kernel
theorem dX9_item_225 : decode cX9_item 225 = .ok (.iconst 0, 1) := by decide +kernel
theorem dX9_item_226 : decode cX9_item 226 = .ok (.ireturn, 1) := by decide +kernel
theorem dX9_item_227 : decode cX9_item 227 = .ok (.aload_n 0, 1) := by decide +kernel
theorem dX9_item_228 : decode cX9_item 228 = .ok (.getfield 165, 3) := by decide +kernel
theorem dX9_item_231 : decode cX9_item 231 = .ok (.istore_n 1, 1) := by decide +kernel
theorem dX9_item_232 : decode cX9_item 232 = .ok (.aload_n 0, 1) := by decide +kernel
theorem dX9_item_233 : decode cX9_item 233 = .ok (.iconst 2, 1) := by decide +kernel
theorem dX9_item_234 : decode cX9_item 234 = .ok (.iconst 0, 1) := by decide +kernel
theorem dX9_item_235 : decode cX9_item 235 = .ok (.bipush 48, 2) := by decide +kernel
theorem dX9_item_237 : decode cX9_item 237 = .ok (.invokevirtual 194, 3) := by decide +kernel
theorem dX9_item_240 : decode cX9_item 240 = .ok (.ifCond .eq 31, 3) := by decide +kernel
theorem dX9_item_243 : decode cX9_item 243 = .ok (.aload_n 0, 1) := by decide +kernel
theorem dX9_item_244 : decode cX9_item 244 = .ok (.aload_n 0, 1) := by decide +kernel
theorem dX9_item_245 : decode cX9_item 245 = .ok (.aload_n 0, 1) := by decide +kernel
theorem dX9_item_246 : decode cX9_item 246 = .ok (.getfield 48, 3) := by decide +kernel
theorem dX9_item_249 : decode cX9_item 249 = .ok (.iconst 2, 1) := by decide +kernel
theorem dX9_item_250 : decode cX9_item 250 = .ok (.iaload, 1) := by decide +kernel
theorem dX9_item_251 : decode cX9_item 251 = .ok (.invokevirtual 133, 3) := by decide +kernel
theorem dX9_item_254 : decode cX9_item 254 = .ok (.iload_n 1, 1) := by decide +kernel
theorem dX9_item_255 : decode cX9_item 255 = .ok (.invokevirtual 197, 3) := by decide +kernel
theorem dX9_item_258 : decode cX9_item 258 = .ok (.ifCond .eq 13, 3) := by decide +kernel
theorem dX9_item_261 : decode cX9_item 261 = .ok (.aload_n 0, 1) := by decide +kernel
theorem dX9_item_262 : decode cX9_item 262 = .ok (.iconst 3, 1) := by decide +kernel
theorem dX9_item_263 : decode cX9_item 263 = .ok (.iconst 0, 1) := by decide +kernel
theorem dX9_item_264 : decode cX9_item 264 = .ok (.iconst 3, 1) := by decide +kernel
theorem dX9_item_265 : decode cX9_item 265 = .ok (.invokevirtual 194, 3) := by decide +kernel
theorem dX9_item_268 : decode cX9_item 268 = .ok (.ifCond .ne 5, 3) := by decide +kernel
theorem dX9_item_271 : decode cX9_item 271 = .ok (.iconst 0, 1) := by decide +kernel
theorem dX9_item_272 : decode cX9_item 272 = .ok (.ireturn, 1) := by decide +kernel
theorem dX9_item_273 : decode cX9_item 273 = .ok (.aload_n 0, 1) := by decide +kernel
theorem dX9_item_274 : decode cX9_item 274 = .ok (.aload_n 0, 1) := by decide +kernel
theorem dX9_item_275 : decode cX9_item 275 = .ok (.getfield 48, 3) := by decide +kernel
theorem dX9_item_278 : decode cX9_item 278 = .ok (.iconst 0, 1) := by decide +kernel
theorem dX9_item_279 : decode cX9_item 279 = .ok (.iaload, 1) := by decide +kernel
theorem dX9_item_280 : decode cX9_item 280 = .ok (.aload_n 0, 1) := by decide +kernel
theorem dX9_item_281 : decode cX9_item 281 = .ok (.getfield 48, 3) := by decide +kernel
theorem dX9_item_284 : decode cX9_item 284 = .ok (.iconst 1, 1) := by decide +kernel
theorem dX9_item_285 : decode cX9_item 285 = .ok (.iaload, 1) := by decide +kernel
theorem dX9_item_286 : decode cX9_item 286 = .ok (.aload_n 0, 1) := by decide +kernel
theorem dX9_item_287 : decode cX9_item 287 = .ok (.getfield 48, 3) := by decide +kernel
theorem dX9_item_290 : decode cX9_item 290 = .ok (.iconst 2, 1) := by decide +kernel
theorem dX9_item_291 : decode cX9_item 291 = .ok (.iaload, 1) := by decide +kernel
theorem dX9_item_292 : decode cX9_item 292 = .ok (.aload_n 0, 1) := by decide +kernel
theorem dX9_item_293 : decode cX9_item 293 = .ok (.getfield 48, 3) := by decide +kernel
theorem dX9_item_296 : decode cX9_item 296 = .ok (.iconst 3, 1) := by decide +kernel
theorem dX9_item_297 : decode cX9_item 297 = .ok (.iaload, 1) := by decide +kernel
theorem dX9_item_298 : decode cX9_item 298 = .ok (.invokevirtual 139, 3) := by decide +kernel
theorem dX9_item_301 : decode cX9_item 301 = .ok (.pop, 1) := by decide +kernel
theorem dX9_item_302 : decode cX9_item 302 = .ok (.iconst 1, 1) := by decide +kernel
theorem dX9_item_303 : decode cX9_item 303 = .ok (.ireturn, 1) := by decide +kernel
theorem dX9_item_304 : decode cX9_item 304 = .ok (.aload_n 0, 1) := by decide +kernel
theorem dX9_item_305 : decode cX9_item 305 = .ok (.ldc 208, 2) := by decide +kernel
theorem dX9_item_307 : decode cX9_item 307 = .ok (.aload_n 0, 1) := by decide +kernel
theorem dX9_item_308 : decode cX9_item 308 = .ok (.getfield 90, 3) := by decide +kernel
theorem dX9_item_311 : decode cX9_item 311 = .ok (.iconst 5, 1) := by decide +kernel
theorem dX9_item_312 : decode cX9_item 312 = .ok (.if_icmp .ge 7, 3) := by decide +kernel
theorem dX9_item_315 : decode cX9_item 315 = .ok (.iconst 1, 1) := by decide +kernel
theorem dX9_item_316 : decode cX9_item 316 = .ok (.goto 4, 3) := by decide +kernel
theorem dX9_item_319 : decode cX9_item 319 = .ok (.iconst 0, 1) := by decide +kernel
theorem dX9_item_320 : decode cX9_item 320 = .ok (.invokevirtual 205, 3) := by decide +kernel
theorem dX9_item_323 : decode cX9_item 323 = .ok (.ifCond .ne 5, 3) := by decide +kernel
theorem dX9_item_326 : decode cX9_item 326 = .ok (.iconst 0, 1) := by decide +kernel
theorem dX9_item_327 : decode cX9_item 327 = .ok (.ireturn, 1) := by decide +kernel
theorem dX9_item_328 : decode cX9_item 328 = .ok (.aload_n 0, 1) := by decide +kernel
theorem dX9_item_329 : decode cX9_item 329 = .ok (.getfield 165, 3) := by decide +kernel
theorem dX9_item_332 : decode cX9_item 332 = .ok (.istore_n 1, 1) := by decide +kernel
theorem dX9_item_333 : decode cX9_item 333 = .ok (.aload_n 0, 1) := by decide +kernel
theorem dX9_item_334 : decode cX9_item 334 = .ok (.iconst 0, 1) := by decide +kernel
theorem dX9_item_335 : decode cX9_item 335 = .ok (.iconst 0, 1) := by decide +kernel
theorem dX9_item_336 : decode cX9_item 336 = .ok (.bipush 48, 2) := by decide +kernel
theorem dX9_item_338 : decode cX9_item 338 = .ok (.invokevirtual 194, 3) := by decide +kernel
theorem dX9_item_341 : decode cX9_item 341 = .ok (.ifCond .eq 31, 3) := by decide +kernel
theorem dX9_item_344 : decode cX9_item 344 = .ok (.aload_n 0, 1) := by decide +kernel
theorem dX9_item_345 : decode cX9_item 345 = .ok (.aload_n 0, 1) := by decide +kernel
theorem dX9_item_346 : decode cX9_item 346 = .ok (.aload_n 0, 1) := by decide +kernel
theorem dX9_item_347 : decode cX9_item 347 = .ok (.getfield 48, 3) := by decide +kernel
theorem dX9_item_350 : decode cX9_item 350 = .ok (.iconst 0, 1) := by decide +kernel
theorem dX9_item_351 : decode cX9_item 351 = .ok (.iaload, 1) := by decide +kernel
theorem dX9_item_352 : decode cX9_item 352 = .ok (.invokevirtual 143, 3) := by decide +kernel
theorem dX9_item_355 : decode cX9_item 355 = .ok (.iload_n 1, 1) := by decide +kernel
theorem dX9_item_356 : decode cX9_item 356 = .ok (.invokevirtual 197, 3) := by decide +kernel
theorem dX9_item_359 : decode cX9_item 359 = .ok (.ifCond .eq 13, 3) := by decide +kernel
theorem dX9_item_362 : decode cX9_item 362 = .ok (.aload_n 0, 1) := by decide +kernel
theorem dX9_item_363 : decode cX9_item 363 = .ok (.iconst 1, 1) := by decide +kernel
theorem dX9_item_364 : decode cX9_item 364 = .ok (.iconst 0, 1) := by decide +kernel
theorem dX9_item_365 : decode cX9_item 365 = .ok (.iconst 3, 1) := by decide +kernel
theorem dX9_item_366 : decode cX9_item 366 = .ok (.invokevirtual 194, 3) := by decide +kernel
theorem dX9_item_369 : decode cX9_item 369 = .ok (.ifCond .ne 5, 3) := by decide +kernel
theorem dX9_item_372 : decode cX9_item 372 = .ok (.iconst 0, 1) := by decide +kernel
theorem dX9_item_373 : decode cX9_item 373 = .ok (.ireturn, 1) := by decide +kernel
theorem dX9_item_374 : decode cX9_item 374 = .ok (.aload_n 0, 1) := by decide +kernel
theorem dX9_item_375 : decode cX9_item 375 = .ok (.aload_n 0, 1) := by decide +kernel
theorem dX9_item_376 : decode cX9_item 376 = .ok (.getfield 48, 3) := by decide +kernel
theorem dX9_item_379 : decode cX9_item 379 = .ok (.iconst 0, 1) := by decide +kernel
theorem dX9_item_380 : decode cX9_item 380 = .ok (.iaload, 1) := by decide +kernel
theorem dX9_item_381 : decode cX9_item 381 = .ok (.aload_n 0, 1) := by decide +kernel
theorem dX9_item_382 : decode cX9_item 382 = .ok (.getfield 48, 3) := by decide +kernel
theorem dX9_item_385 : decode cX9_item 385 = .ok (.iconst 1, 1) := by decide +kernel
theorem dX9_item_386 : decode cX9_item 386 = .ok (.iaload, 1) := by decide +kernel
theorem dX9_item_387 : decode cX9_item 387 = .ok (.invokevirtual 146, 3) := by decide +kernel
theorem dX9_item_390 : decode cX9_item 390 = .ok (.pop, 1) := by decide +kernel
theorem dX9_item_391 : decode cX9_item 391 = .ok (.iconst 1, 1) := by decide +kernel
theorem dX9_item_392 : decode cX9_item 392 = .ok (.ireturn, 1) := by decide +kernel
theorem dX9_item_393 : decode cX9_item 393 = .ok (.aload_n 0, 1) := by decide +kernel
theorem dX9_item_394 : decode cX9_item 394 = .ok (.ldc 210, 2) := by decide +kernel
theorem dX9_item_396 : decode cX9_item 396 = .ok (.invokevirtual 188, 3) := by decide +kernel
theorem dX9_item_399 : decode cX9_item 399 = .ok (.ifCond .eq 14, 3) := by decide +kernel
theorem dX9_item_402 : decode cX9_item 402 = .ok (.aload_n 0, 1) := by decide +kernel
theorem dX9_item_403 : decode cX9_item 403 = .ok (.iconst 0, 1) := by decide +kernel
theorem dX9_item_404 : decode cX9_item 404 = .ok (.iconst 1, 1) := by decide +kernel
theorem dX9_item_405 : decode cX9_item 405 = .ok (.bipush 6, 2) := by decide +kernel
theorem dX9_item_407 : decode cX9_item 407 = .ok (.invokevirtual 194, 3) := by decide +kernel
theorem dX9_item_410 : decode cX9_item 410 = .ok (.ifCond .ne 5, 3) := by decide +kernel
theorem dX9_item_413 : decode cX9_item 413 = .ok (.iconst 0, 1) := by decide +kernel
theorem dX9_item_414 : decode cX9_item 414 = .ok (.ireturn, 1) := by decide +kernel
theorem dX9_item_415 : decode cX9_item 415 = .ok (.aload_n 0, 1) := by decide +kernel
theorem dX9_item_416 : decode cX9_item 416 = .ok (.getfield 35, 3) := by decide +kernel
theorem dX9_item_419 : decode cX9_item 419 = .ok (.iconst 0, 1) := by decide +kernel
theorem dX9_item_420 : decode cX9_item 420 = .ok (.aload_n 0, 1) := by decide +kernel
theorem dX9_item_421 : decode cX9_item 421 = .ok (.getfield 48, 3) := by decide +kernel
theorem dX9_item_424 : decode cX9_item 424 = .ok (.iconst 0, 1) := by decide +kernel
theorem dX9_item_425 : decode cX9_item 425 = .ok (.iaload, 1) := by decide +kernel
theorem dX9_item_426 : decode cX9_item 426 = .ok (.iastore, 1) := by decide +kernel
theorem dX9_item_427 : decode cX9_item 427 = .ok (.iconst 1, 1) := by decide +kernel
theorem dX9_item_428 : decode cX9_item 428 = .ok (.ireturn, 1) := by decide +kernel
theorem dX9_item_429 : decode cX9_item 429 = .ok (.iconst 0, 1) := by decide +kernel
theorem dX9_item_430 : decode cX9_item 430 = .ok (.ireturn, 1) := by decide +kernel
set_option maxRecDepth 20000 in
theorem c_X9_item {G : Gl} {d : Nat} {σ : Sg} {l : Nat → Int} {s : Int} {k : Nat} {p : Int} {τ : Tw} (h : AtM l s k p σ) (hM : RMt τ σ) (hO : OkT τ) : CT G (d + 6) yX9_item cX9_item 2 (some .boolean) [.ref (gA G 54)] σ (RE (some (.int (iI (bI ((itF (gS l s) τ p).1.1 = true))))) (fun υ => AtM l s k (itF (gS l s) τ p).1.2 υ ∧ ((itF (gS l s) τ p).1.1 = true → RMt (itF (gS l s) τ p).2 υ) ∧ FrI σ υ)) := by
  refine CT.of (by decide +kernel) (Nat.le_of_ble_eq_true rfl) ?_
  change AW G _ RX9 _ _ _ 0 [(0, .ref (gA G 54))] [] _ _
  have gr := gS_rng (l := l) (s := s) (p := p) h.1.2.2.2.2.2
  have o2 := hO.2.1
  have o3 := hO.2.2.1
  have o4 := hO.2.2.2.1
  have o5 := hO.2.2.2.2.1
  refine A_aload_n (pc := 0) dX9_item_0 rfl rfl ?_
  refine A_callV1 (pc := 1) kX9_171 rfl rfl (c_X9_sign h) dX9_item_1 rfl rfl (Nat.le_of_ble_eq_true rfl) (Nat.le_of_ble_eq_true rfl) ?_
  refine A_lsw (pc := 4) [(104, 56), (112, 180), (114, 393), (119, 304), (121, 118)] 429 dX9_item_4 (by decide) (by decide) (by decide) (by omega) (by omega) ?_
  refine ⟨fun h4 => ?_, fun h4n104 => ?_⟩
  · skip
    refine A_aload_n (pc := 56) dX9_item_56 rfl rfl ?_
    refine A_ldcS (pc := 57) (List.mem_of_getElem? (i := 5) rfl) dX9_item_57 ?_
    refine A_callVe (pc := 59) kX9_188 rfl rfl (c_X9_word h (i := 0) (by decide)) dX9_item_59 rfl rfl (Nat.le_of_ble_eq_true rfl) (Nat.le_of_ble_eq_true rfl) (fun υ hυ => ?_)
    have w1 : AtM l s k (wdF (gS l s) 0 5 0 p).2 υ := hυ.1
    have wb := w1.2.1
    refine A_ifb_ne (pc := 62) 67 dX9_item_62 (by decide) (fun h62 => ?_) (fun h62 => ?_)
    · skip
      have k1 : (wdF (gS l s) 0 5 0 p).1 = true := h62
      have nr := nuW_rng (g := (gS l s)) (p := (wdF (gS l s) 0 5 0 p).2)
      have hPQ : (inS (nuV (gS l s) (wdF (gS l s) 0 5 0 p)) ∧ ¬ wAt τ (nuV (gS l s) (wdF (gS l s) 0 5 0 p)) = true) → (0 ≤ nuW (gS l s) (wdF (gS l s) 0 5 0 p).2 ∧ nuW (gS l s) (wdF (gS l s) 0 5 0 p).2 ≤ 48) := fun z => by have y := z.1; rw [nuV_t k1] at y; omega
      have hPQR : (inS (nuV (gS l s) (wdF (gS l s) 0 5 0 p)) ∧ ¬ wAt τ (nuV (gS l s) (wdF (gS l s) 0 5 0 p)) = true) ↔ (0 ≤ nuW (gS l s) (wdF (gS l s) 0 5 0 p).2 ∧ nuW (gS l s) (wdF (gS l s) 0 5 0 p).2 ≤ 48) ∧ ((0 ≤ nuW (gS l s) (wdF (gS l s) 0 5 0 p).2 ∧ nuW (gS l s) (wdF (gS l s) 0 5 0 p).2 < 49) ∧ (if true = true then ¬ wAt τ (nuW (gS l s) (wdF (gS l s) 0 5 0 p).2) = true else ¬ pAt τ (nuW (gS l s) (wdF (gS l s) 0 5 0 p).2) = true)) := by
        rw [nuV_t k1, if_pos rfl]
        exact ⟨fun z => ⟨by omega, z⟩, fun z => z.2⟩
      refine A_aload_n (pc := 67) dX9_item_67 rfl rfl ?_
      refine A_getIv (pc := 68) fX9_165 rfl rfl w1.2.2 dX9_item_68 ?_
      refine A_istore_n (pc := 71) dX9_item_71 rfl (Nat.le_of_ble_eq_true rfl) ?_
      refine A_aload_n (pc := 72) dX9_item_72 rfl rfl ?_
      refine A_iconst (pc := 73) dX9_item_73 ?_
      refine A_iconst (pc := 74) dX9_item_74 ?_
      refine A_bipush (pc := 75) dX9_item_75 (by decide) ?_
      refine A_callVe (pc := 77) kX9_194 rfl rfl (c_X9_number w1 (j := 0) (by decide) (lo := 0) (hi := 48) (by decide) (by decide) (by decide) (by decide)) dX9_item_77 rfl rfl (Nat.le_of_ble_eq_true rfl) (Nat.le_of_ble_eq_true rfl) (fun ω hω => ?_)
      have hMω : RMt τ ω := hM.fa (hυ.2.a.tr hω.2.1)
      refine A_ifb_eq (pc := 80) 102 dX9_item_80 (by decide) (fun h80 => ?_) (fun h80 => ?_)
      · skip
        refine A_iconst (pc := 102) dX9_item_102 ?_
        refine A_zret (pc := 103) rfl rfl dX9_item_103 ?_
        have E : itF (gS l s) τ p = itH (gS l s) τ p := by unfold itF; rw [if_pos h4]
        have H : hR1 (gS l s) τ p = (false, (nmA (gS l s) (true, (wdF (gS l s) 0 5 0 p).2) (0 ≤ nuW (gS l s) (wdF (gS l s) 0 5 0 p).2 ∧ nuW (gS l s) (wdF (gS l s) 0 5 0 p).2 ≤ 48)).2) := by unfold hR1; rw [nmA_sub hPQ (by rw [nmA_e k1]; exact h80), nmA_e k1]; exact Rd_f h80
        rw [E, itH_f H, bI_f Bool.false_ne_true]
        exact ⟨rfl, hω.1, fun z => absurd z Bool.false_ne_true, (hυ.2.a.tr hω.2.1).i⟩
      · skip
        refine A_aload_n (pc := 83) dX9_item_83 rfl rfl ?_
        refine A_aload_n (pc := 84) dX9_item_84 rfl rfl ?_
        refine A_aload_n (pc := 85) dX9_item_85 rfl rfl ?_
        refine A_getR (pc := 86) fX9_48 rfl rfl dX9_item_86 ?_
        refine A_iconst (pc := 89) dX9_item_89 ?_
        refine A_ialdv (pc := 90) 0 rfl rfl (by decide) (Nat.le_of_ble_eq_true rfl) (hω.2.2.1 h80) dX9_item_90 ?_
        refine A_iconst (pc := 91) dX9_item_91 ?_
        refine A_callV1 (pc := 92) kX9_129 rfl rfl (c_X9_mayBecome hMω hO (b := true) (by omega) (by omega)) dX9_item_92 rfl rfl (Nat.le_of_ble_eq_true rfl) (Nat.le_of_ble_eq_true rfl) ?_
        refine A_iload_n (pc := 95) dX9_item_95 rfl rfl ?_
        refine A_callVe (pc := 96) kX9_197 rfl rfl (c_X9_may hω.1 (n := (wdF (gS l s) 0 5 0 p).2) (by omega) (fun _ => nb1 (r := (true, (wdF (gS l s) 0 5 0 p).2)) wb.1 wb.2 h80)) dX9_item_96 rfl rfl (Nat.le_of_ble_eq_true rfl) (Nat.le_of_ble_eq_true rfl) (fun χ hχ => ?_)
        refine A_ifb_ne (pc := 99) 104 dX9_item_99 (by decide) (fun h99 => ?_) (fun h99 => ?_)
        · skip
          obtain ⟨x, hx⟩ := Int.eq_ofNat_of_zero_le nr.1
          have hx2 : nuW (gS l s) (wdF (gS l s) 0 5 0 p).2 < 49 := h99.1.2
          have x49 : x < 49 := by omega
          have vx : χ.1 67 0 = (x : Int) := by rw [hχ.2.n 0, hω.2.2.1 h80, hx]
          refine A_aload_n (pc := 104) dX9_item_104 rfl rfl ?_
          refine A_getR (pc := 105) fX9_31 rfl rfl dX9_item_105 ?_
          refine A_aload_n (pc := 108) dX9_item_108 rfl rfl ?_
          refine A_getR (pc := 109) fX9_48 rfl rfl dX9_item_109 ?_
          refine A_iconst (pc := 112) dX9_item_112 ?_
          refine A_ialdv (pc := 113) 0 rfl rfl (by decide) (Nat.le_of_ble_eq_true rfl) vx dX9_item_113 ?_
          refine A_iconst (pc := 114) dX9_item_114 ?_
          refine A_zast (pc := 115) x rfl rfl x49 (Nat.le_of_ble_eq_true rfl) rfl dX9_item_115 ?_
          refine A_iconst (pc := 116) dX9_item_116 ?_
          refine A_zret (pc := 117) rfl rfl dX9_item_117 ?_
          have E : itF (gS l s) τ p = itH (gS l s) τ p := by unfold itF; rw [if_pos h4]
          have H : hR1 (gS l s) τ p = (true, (nmA (gS l s) (true, (wdF (gS l s) 0 5 0 p).2) (0 ≤ nuW (gS l s) (wdF (gS l s) 0 5 0 p).2 ∧ nuW (gS l s) (wdF (gS l s) 0 5 0 p).2 ≤ 48)).2) := by unfold hR1; rw [nmA_may hPQR (by rw [nmA_e k1]; exact h80), if_pos h99, nmA_e k1]; exact Rd_t h80
          have A := hχ.1
          rw [if_pos h99] at A
          have hT := (hMω.fa hχ.2.a).house x49 true
          rw [if_pos rfl, bI_t rfl, ← hx, ← nuV_t k1] at hT
          rw [E, itH_t H, bI_t rfl]
          exact ⟨rfl, A.fi (fun a z => by rcases z with rfl | rfl <;> exact ⟨(uI_ne (by decide)).symm, rfl⟩) (fun j z => by rw [uI_at, if_neg (by omega)]), fun _ => hT, ((hυ.2.a.tr hω.2.1).tr hχ.2.a).i.tr ⟨Fr.rf.uI (by omega), fun j _ _ _ => by rw [uI_at, if_neg (by omega)]⟩⟩
        · skip
          refine A_iconst (pc := 102) dX9_item_102 ?_
          refine A_zret (pc := 103) rfl rfl dX9_item_103 ?_
          have E : itF (gS l s) τ p = itH (gS l s) τ p := by unfold itF; rw [if_pos h4]
          have H : hR1 (gS l s) τ p = (false, (wdF (gS l s) 0 5 0 p).2 + 1) := by unfold hR1; rw [nmA_may hPQR (by rw [nmA_e k1]; exact h80), if_neg h99]
          have A := hχ.1
          rw [if_neg h99] at A
          rw [E, itH_f H, bI_f Bool.false_ne_true]
          exact ⟨rfl, A, fun z => absurd z Bool.false_ne_true, ((hυ.2.a.tr hω.2.1).tr hχ.2.a).i⟩
    · skip
      refine A_iconst (pc := 65) dX9_item_65 ?_
      refine A_zret (pc := 66) rfl rfl dX9_item_66 ?_
      have E : itF (gS l s) τ p = itH (gS l s) τ p := by unfold itF; rw [if_pos h4]
      have k1 : ¬ (wdF (gS l s) 0 5 0 p).1 = true := h62
      have H : hR1 (gS l s) τ p = (false, (wdF (gS l s) 0 5 0 p).2) := (nmA_f k1).trans (Rd_f k1)
      rw [E, itH_f H, bI_f Bool.false_ne_true]
      exact ⟨rfl, w1, fun z => absurd z Bool.false_ne_true, hυ.2.a.i⟩
  refine ⟨fun h4 => ?_, fun h4n112 => ?_⟩
  · skip
    refine A_aload_n (pc := 180) dX9_item_180 rfl rfl ?_
    refine A_ldcS (pc := 181) (List.mem_of_getElem? (i := 7) rfl) dX9_item_181 ?_
    refine A_aload_n (pc := 183) dX9_item_183 rfl rfl ?_
    refine A_getIv (pc := 184) fX9_83 rfl rfl hM.2.1 dX9_item_184 ?_
    refine A_bipush (pc := 187) dX9_item_187 (by decide) ?_
    refine A_icmp_ge (pc := 189) 196 dX9_item_189 (by decide) (by omega) (by omega) (by omega) (by omega) (fun h189 => ?_) (fun h189 => ?_)
    · skip
      refine A_iconst (pc := 196) dX9_item_196 ?_
      refine A_callVe (pc := 197) kX9_205 rfl rfl (c_X9_word_ h (i := 2) (by decide) (P := τ.2.1 0 < 9) (bI_f (by omega)).symm) dX9_item_197 rfl rfl (Nat.le_of_ble_eq_true rfl) (Nat.le_of_ble_eq_true rfl) (fun a2 b2 => ?_)
      have A2 : AtM l s k (pR2 (gS l s) τ p).2 a2 := b2.1
      have F2 := b2.2.a
      refine A_ifb_eq (pc := 200) 225 dX9_item_200 (by decide) (fun h200 => ?_) (fun h200 => ?_)
      · skip
        refine A_iconst (pc := 225) dX9_item_225 ?_
        refine A_zret (pc := 226) rfl rfl dX9_item_226 ?_
        have E : itF (gS l s) τ p = itP (gS l s) τ p := by unfold itF; rw [if_neg (by omega), if_neg (by omega), if_pos h4]
        have H := pR_f2 (g := (gS l s)) (τ := τ) (p := p) h200
        rw [E, itP_f H, bI_f Bool.false_ne_true]
        exact ⟨rfl, A2, fun z => absurd z Bool.false_ne_true, F2.i⟩
      · skip
        have k2 : (pR2 (gS l s) τ p).1 = true := h200
        have EN3 : (pR3 (gS l s) τ p) = nmA (gS l s) (true, (pR2 (gS l s) τ p).2) (0 ≤ nuW (gS l s) (pR2 (gS l s) τ p).2 ∧ nuW (gS l s) (pR2 (gS l s) τ p).2 ≤ 6) := by unfold pR3; rw [nmA_e k2, nuV_t k2]; exact nmA_congr (by omega)
        have pr2 := nuW_rng (g := (gS l s)) (p := (pR2 (gS l s) τ p).2)
        refine A_aload_n (pc := 203) dX9_item_203 rfl rfl ?_
        refine A_iconst (pc := 204) dX9_item_204 ?_
        refine A_iconst (pc := 205) dX9_item_205 ?_
        refine A_bipush (pc := 206) dX9_item_206 (by decide) ?_
        refine A_callVe (pc := 208) kX9_194 rfl rfl (c_X9_number A2 (j := 0) (by decide) (lo := 0) (hi := 6) (by decide) (by decide) (by decide) (by decide)) dX9_item_208 rfl rfl (Nat.le_of_ble_eq_true rfl) (Nat.le_of_ble_eq_true rfl) (fun a3 ha3 => ?_)
        rw [← EN3] at ha3 ⊢
        have F3 := F2.tr ha3.2.1
        refine A_ifb_eq (pc := 211) 225 dX9_item_211 (by decide) (fun h211 => ?_) (fun h211 => ?_)
        · skip
          refine A_iconst (pc := 225) dX9_item_225 ?_
          refine A_zret (pc := 226) rfl rfl dX9_item_226 ?_
          have E : itF (gS l s) τ p = itP (gS l s) τ p := by unfold itF; rw [if_neg (by omega), if_neg (by omega), if_pos h4]
          have H := pR_f3 (g := (gS l s)) (τ := τ) (p := p) h211
          rw [E, itP_f H, bI_f Bool.false_ne_true]
          exact ⟨rfl, ha3.1, fun z => absurd z Bool.false_ne_true, F3.i⟩
        · skip
          have k3 : (pR3 (gS l s) τ p).1 = true := h211
          have pr3 := nuW_rng (g := (gS l s)) (p := (pR3 (gS l s) τ p).2)
          have EN4 : (pR4 (gS l s) τ p) = nmA (gS l s) (true, (pR3 (gS l s) τ p).2) (0 ≤ nuW (gS l s) (pR3 (gS l s) τ p).2 ∧ nuW (gS l s) (pR3 (gS l s) τ p).2 ≤ 9) := by unfold pR4; rw [nmA_e k3, nuV_t k3]; exact nmA_congr (by omega)
          refine A_aload_n (pc := 214) dX9_item_214 rfl rfl ?_
          refine A_iconst (pc := 215) dX9_item_215 ?_
          refine A_iconst (pc := 216) dX9_item_216 ?_
          refine A_bipush (pc := 217) dX9_item_217 (by decide) ?_
          refine A_callVe (pc := 219) kX9_194 rfl rfl (c_X9_number ha3.1 (j := 1) (by decide) (lo := 0) (hi := 9) (by decide) (by decide) (by decide) (by decide)) dX9_item_219 rfl rfl (Nat.le_of_ble_eq_true rfl) (Nat.le_of_ble_eq_true rfl) (fun a4 ha4 => ?_)
          rw [← EN4] at ha4 ⊢
          have F4 := F3.tr ha4.2.1
          refine A_ifb_ne (pc := 222) 227 dX9_item_222 (by decide) (fun h222 => ?_) (fun h222 => ?_)
          · skip
            have k4 : (pR4 (gS l s) τ p).1 = true := h222
            have pr4 := nuW_rng (g := (gS l s)) (p := (pR4 (gS l s) τ p).2)
            have wb4 := ha4.1.2.1
            have hPQ : sT τ.1 (nuV (gS l s) (pR4 (gS l s) τ p)) → (0 ≤ nuW (gS l s) (pR4 (gS l s) τ p).2 ∧ nuW (gS l s) (pR4 (gS l s) τ p).2 ≤ 48) := fun z => by have y := z.1; have y2 := z.2.1; rw [nuV_t k4] at y y2; omega
            have hPQR : sT τ.1 (nuV (gS l s) (pR4 (gS l s) τ p)) ↔ (0 ≤ nuW (gS l s) (pR4 (gS l s) τ p).2 ∧ nuW (gS l s) (pR4 (gS l s) τ p).2 ≤ 48) ∧ sT τ.1 (nuW (gS l s) (pR4 (gS l s) τ p).2) := by
              rw [nuV_t k4]
              exact ⟨fun z => ⟨by have y := z.1; have y2 := z.2.1; omega, z⟩, fun z => z.2⟩
            refine A_aload_n (pc := 227) dX9_item_227 rfl rfl ?_
            refine A_getIv (pc := 228) fX9_165 rfl rfl ha4.1.2.2 dX9_item_228 ?_
            refine A_istore_n (pc := 231) dX9_item_231 rfl (Nat.le_of_ble_eq_true rfl) ?_
            refine A_aload_n (pc := 232) dX9_item_232 rfl rfl ?_
            refine A_iconst (pc := 233) dX9_item_233 ?_
            refine A_iconst (pc := 234) dX9_item_234 ?_
            refine A_bipush (pc := 235) dX9_item_235 (by decide) ?_
            refine A_callVe (pc := 237) kX9_194 rfl rfl (c_X9_number ha4.1 (j := 2) (by decide) (lo := 0) (hi := 48) (by decide) (by decide) (by decide) (by decide)) dX9_item_237 rfl rfl (Nat.le_of_ble_eq_true rfl) (Nat.le_of_ble_eq_true rfl) (fun a5 ha5 => ?_)
            have F5 := F4.tr ha5.2.1
            have M5 : RMt τ a5 := hM.fa F5
            refine A_ifb_eq (pc := 240) 271 dX9_item_240 (by decide) (fun h240 => ?_) (fun h240 => ?_)
            · skip
              refine A_iconst (pc := 271) dX9_item_271 ?_
              refine A_zret (pc := 272) rfl rfl dX9_item_272 ?_
              have E : itF (gS l s) τ p = itP (gS l s) τ p := by unfold itF; rw [if_neg (by omega), if_neg (by omega), if_pos h4]
              have H5 : (pR5 (gS l s) τ p) = (nmA (gS l s) (true, (pR4 (gS l s) τ p).2) (0 ≤ nuW (gS l s) (pR4 (gS l s) τ p).2 ∧ nuW (gS l s) (pR4 (gS l s) τ p).2 ≤ 48)) := by unfold pR5; rw [nmA_sub hPQ (by rw [nmA_e k4]; exact h240), nmA_e k4]
              have n5 : ¬ (pR5 (gS l s) τ p).1 = true := by rw [H5]; exact h240
              have H := pR_f5 (g := (gS l s)) (τ := τ) (p := p) n5
              have A := ha5.1
              rw [← H5] at A
              rw [E, itP_f H, bI_f Bool.false_ne_true]
              exact ⟨rfl, A, fun z => absurd z Bool.false_ne_true, F5.i⟩
            · skip
              refine A_aload_n (pc := 243) dX9_item_243 rfl rfl ?_
              refine A_aload_n (pc := 244) dX9_item_244 rfl rfl ?_
              refine A_aload_n (pc := 245) dX9_item_245 rfl rfl ?_
              refine A_getR (pc := 246) fX9_48 rfl rfl dX9_item_246 ?_
              refine A_iconst (pc := 249) dX9_item_249 ?_
              refine A_ialdv (pc := 250) 2 rfl rfl (by decide) (Nat.le_of_ble_eq_true rfl) (ha5.2.2.1 h240) dX9_item_250 ?_
              refine A_callV1 (pc := 251) kX9_133 rfl rfl (c_X9_isHouse M5 hO (by omega) (by omega)) dX9_item_251 rfl rfl (Nat.le_of_ble_eq_true rfl) (Nat.le_of_ble_eq_true rfl) ?_
              refine A_iload_n (pc := 254) dX9_item_254 rfl rfl ?_
              refine A_callVe (pc := 255) kX9_197 rfl rfl (c_X9_may ha5.1 (n := (pR4 (gS l s) τ p).2) (by omega) (fun _ => nb1 (r := (true, (pR4 (gS l s) τ p).2)) wb4.1 wb4.2 h240)) dX9_item_255 rfl rfl (Nat.le_of_ble_eq_true rfl) (Nat.le_of_ble_eq_true rfl) (fun a6 ha6 => ?_)
              have F6 := F5.tr ha6.2.a
              refine A_ifb_eq (pc := 258) 271 dX9_item_258 (by decide) (fun h258 => ?_) (fun h258 => ?_)
              · skip
                refine A_iconst (pc := 271) dX9_item_271 ?_
                refine A_zret (pc := 272) rfl rfl dX9_item_272 ?_
                have E : itF (gS l s) τ p = itP (gS l s) τ p := by unfold itF; rw [if_neg (by omega), if_neg (by omega), if_pos h4]
                have H5 : (pR5 (gS l s) τ p) = (false, (pR4 (gS l s) τ p).2 + 1) := by unfold pR5; rw [nmA_may hPQR (by rw [nmA_e k4]; exact h240), if_neg h258]
                have n5 : ¬ (pR5 (gS l s) τ p).1 = true := by rw [H5]; exact Bool.false_ne_true
                have H := pR_f5 (g := (gS l s)) (τ := τ) (p := p) n5
                have A := ha6.1
                rw [if_neg h258] at A
                have A2x : AtM l s k (pR5 (gS l s) τ p).2 a6 := by rw [H5]; exact A
                rw [E, itP_f H, bI_f Bool.false_ne_true]
                exact ⟨rfl, A2x, fun z => absurd z Bool.false_ne_true, F6.i⟩
              · skip
                have H5 : (pR5 (gS l s) τ p) = (nmA (gS l s) (true, (pR4 (gS l s) τ p).2) (0 ≤ nuW (gS l s) (pR4 (gS l s) τ p).2 ∧ nuW (gS l s) (pR4 (gS l s) τ p).2 ≤ 48)) := by unfold pR5; rw [nmA_may hPQR (by rw [nmA_e k4]; exact h240), if_pos h258, nmA_e k4]
                have k5 : (pR5 (gS l s) τ p).1 = true := by rw [H5]; exact h240
                have A5 : AtM l s k (pR5 (gS l s) τ p).2 a6 := by have z := ha6.1; rw [if_pos h258] at z; rw [H5]; exact z
                have pr5 := nuW_rng (g := (gS l s)) (p := (pR5 (gS l s) τ p).2)
                have EN6 : (pR6 (gS l s) τ p) = nmA (gS l s) (true, (pR5 (gS l s) τ p).2) (0 ≤ nuW (gS l s) (pR5 (gS l s) τ p).2 ∧ nuW (gS l s) (pR5 (gS l s) τ p).2 ≤ 3) := by unfold pR6; rw [nmA_e k5, nuV_t k5]; exact nmA_congr (by omega)
                refine A_aload_n (pc := 261) dX9_item_261 rfl rfl ?_
                refine A_iconst (pc := 262) dX9_item_262 ?_
                refine A_iconst (pc := 263) dX9_item_263 ?_
                refine A_iconst (pc := 264) dX9_item_264 ?_
                refine A_callVe (pc := 265) kX9_194 rfl rfl (c_X9_number A5 (j := 3) (by decide) (lo := 0) (hi := 3) (by decide) (by decide) (by decide) (by decide)) dX9_item_265 rfl rfl (Nat.le_of_ble_eq_true rfl) (Nat.le_of_ble_eq_true rfl) (fun a7 ha7 => ?_)
                rw [← EN6] at ha7 ⊢
                have F7 := F6.tr ha7.2.1
                refine A_ifb_ne (pc := 268) 273 dX9_item_268 (by decide) (fun h268 => ?_) (fun h268 => ?_)
                · skip
                  have v3 : a7.1 67 3 = nuW (gS l s) (pR5 (gS l s) τ p).2 := ha7.2.2.1 h268
                  have v2 : a7.1 67 2 = nuW (gS l s) (pR4 (gS l s) τ p).2 := by rw [ha7.2.2.2 2 (by decide), ha6.2.n 2]; exact ha5.2.2.1 h240
                  have v1 : a7.1 67 1 = nuW (gS l s) (pR3 (gS l s) τ p).2 := by rw [ha7.2.2.2 1 (by decide), ha6.2.n 1, ha5.2.2.2 1 (by decide)]; exact ha4.2.2.1 h222
                  have v0 : a7.1 67 0 = nuW (gS l s) (pR2 (gS l s) τ p).2 := by rw [ha7.2.2.2 0 (by decide), ha6.2.n 0, ha5.2.2.2 0 (by decide), ha4.2.2.2 0 (by decide)]; exact ha3.2.2.1 h211
                  have hp9 := ((pR2_bd (l := l) (τ := τ) h.2.1.1 h.2.1.2).2.2 k2).2
                  refine A_aload_n (pc := 273) dX9_item_273 rfl rfl ?_
                  refine A_aload_n (pc := 274) dX9_item_274 rfl rfl ?_
                  refine A_getR (pc := 275) fX9_48 rfl rfl dX9_item_275 ?_
                  refine A_iconst (pc := 278) dX9_item_278 ?_
                  refine A_ialdv (pc := 279) 0 rfl rfl (by decide) (Nat.le_of_ble_eq_true rfl) v0 dX9_item_279 ?_
                  refine A_aload_n (pc := 280) dX9_item_280 rfl rfl ?_
                  refine A_getR (pc := 281) fX9_48 rfl rfl dX9_item_281 ?_
                  refine A_iconst (pc := 284) dX9_item_284 ?_
                  refine A_ialdv (pc := 285) 1 rfl rfl (by decide) (Nat.le_of_ble_eq_true rfl) v1 dX9_item_285 ?_
                  refine A_aload_n (pc := 286) dX9_item_286 rfl rfl ?_
                  refine A_getR (pc := 287) fX9_48 rfl rfl dX9_item_287 ?_
                  refine A_iconst (pc := 290) dX9_item_290 ?_
                  refine A_ialdv (pc := 291) 2 rfl rfl (by decide) (Nat.le_of_ble_eq_true rfl) v2 dX9_item_291 ?_
                  refine A_aload_n (pc := 292) dX9_item_292 rfl rfl ?_
                  refine A_getR (pc := 293) fX9_48 rfl rfl dX9_item_293 ?_
                  refine A_iconst (pc := 296) dX9_item_296 ?_
                  refine A_ialdv (pc := 297) 3 rfl rfl (by decide) (Nat.le_of_ble_eq_true rfl) v3 dX9_item_297 ?_
                  refine A_callVe (pc := 298) kX9_139 rfl rfl (c_X9_newPane2 (hM.fa F7) hO hp9) dX9_item_298 rfl rfl (Nat.le_of_ble_eq_true rfl) (Nat.le_of_ble_eq_true rfl) (fun ψ hψ => ?_)
                  refine A_pop (pc := 301) dX9_item_301 rfl ?_
                  refine A_iconst (pc := 302) dX9_item_302 ?_
                  refine A_zret (pc := 303) rfl rfl dX9_item_303 ?_
                  have E : itF (gS l s) τ p = itP (gS l s) τ p := by unfold itF; rw [if_neg (by omega), if_neg (by omega), if_pos h4]
                  have H : (pR6 (gS l s) τ p) = (true, (pR6 (gS l s) τ p).2) := Rd_t h268
                  rw [E, itP_t H, bI_t rfl]
                  exact ⟨rfl, ha7.1.fi (fun a z => hψ.2.1 a (by unfold TM; omega)) (fun j z => hψ.2.2 j (by omega) (by omega)), fun _ => by rw [nuV_t k2, nuV_t k3, nuV_t k4, nuV_t k5]; exact hψ.1, F7.i.tr ⟨hψ.2.1.mono (fun a z => Or.inl z), fun j h0 h5 _ => hψ.2.2 j h0 h5⟩⟩
                · skip
                  refine A_iconst (pc := 271) dX9_item_271 ?_
                  refine A_zret (pc := 272) rfl rfl dX9_item_272 ?_
                  have E : itF (gS l s) τ p = itP (gS l s) τ p := by unfold itF; rw [if_neg (by omega), if_neg (by omega), if_pos h4]
                  have H : (pR6 (gS l s) τ p) = (false, (pR6 (gS l s) τ p).2) := Rd_f h268
                  rw [E, itP_f H, bI_f Bool.false_ne_true]
                  exact ⟨rfl, ha7.1, fun z => absurd z Bool.false_ne_true, F7.i⟩
          · skip
            refine A_iconst (pc := 225) dX9_item_225 ?_
            refine A_zret (pc := 226) rfl rfl dX9_item_226 ?_
            have E : itF (gS l s) τ p = itP (gS l s) τ p := by unfold itF; rw [if_neg (by omega), if_neg (by omega), if_pos h4]
            have H := pR_f4 (g := (gS l s)) (τ := τ) (p := p) h222
            rw [E, itP_f H, bI_f Bool.false_ne_true]
            exact ⟨rfl, ha4.1, fun z => absurd z Bool.false_ne_true, F4.i⟩
    · skip
      refine A_iconst (pc := 192) dX9_item_192 ?_
      refine A_goto (pc := 193) 197 dX9_item_193 (by decide) ?_
      refine A_callVe (pc := 197) kX9_205 rfl rfl (c_X9_word_ h (i := 2) (by decide) (P := τ.2.1 0 < 9) (bI_t (by omega)).symm) dX9_item_197 rfl rfl (Nat.le_of_ble_eq_true rfl) (Nat.le_of_ble_eq_true rfl) (fun a2 b2 => ?_)
      have A2 : AtM l s k (pR2 (gS l s) τ p).2 a2 := b2.1
      have F2 := b2.2.a
      refine A_ifb_eq (pc := 200) 225 dX9_item_200 (by decide) (fun h200 => ?_) (fun h200 => ?_)
      · skip
        refine A_iconst (pc := 225) dX9_item_225 ?_
        refine A_zret (pc := 226) rfl rfl dX9_item_226 ?_
        have E : itF (gS l s) τ p = itP (gS l s) τ p := by unfold itF; rw [if_neg (by omega), if_neg (by omega), if_pos h4]
        have H := pR_f2 (g := (gS l s)) (τ := τ) (p := p) h200
        rw [E, itP_f H, bI_f Bool.false_ne_true]
        exact ⟨rfl, A2, fun z => absurd z Bool.false_ne_true, F2.i⟩
      · skip
        have k2 : (pR2 (gS l s) τ p).1 = true := h200
        have EN3 : (pR3 (gS l s) τ p) = nmA (gS l s) (true, (pR2 (gS l s) τ p).2) (0 ≤ nuW (gS l s) (pR2 (gS l s) τ p).2 ∧ nuW (gS l s) (pR2 (gS l s) τ p).2 ≤ 6) := by unfold pR3; rw [nmA_e k2, nuV_t k2]; exact nmA_congr (by omega)
        have pr2 := nuW_rng (g := (gS l s)) (p := (pR2 (gS l s) τ p).2)
        refine A_aload_n (pc := 203) dX9_item_203 rfl rfl ?_
        refine A_iconst (pc := 204) dX9_item_204 ?_
        refine A_iconst (pc := 205) dX9_item_205 ?_
        refine A_bipush (pc := 206) dX9_item_206 (by decide) ?_
        refine A_callVe (pc := 208) kX9_194 rfl rfl (c_X9_number A2 (j := 0) (by decide) (lo := 0) (hi := 6) (by decide) (by decide) (by decide) (by decide)) dX9_item_208 rfl rfl (Nat.le_of_ble_eq_true rfl) (Nat.le_of_ble_eq_true rfl) (fun a3 ha3 => ?_)
        rw [← EN3] at ha3 ⊢
        have F3 := F2.tr ha3.2.1
        refine A_ifb_eq (pc := 211) 225 dX9_item_211 (by decide) (fun h211 => ?_) (fun h211 => ?_)
        · skip
          refine A_iconst (pc := 225) dX9_item_225 ?_
          refine A_zret (pc := 226) rfl rfl dX9_item_226 ?_
          have E : itF (gS l s) τ p = itP (gS l s) τ p := by unfold itF; rw [if_neg (by omega), if_neg (by omega), if_pos h4]
          have H := pR_f3 (g := (gS l s)) (τ := τ) (p := p) h211
          rw [E, itP_f H, bI_f Bool.false_ne_true]
          exact ⟨rfl, ha3.1, fun z => absurd z Bool.false_ne_true, F3.i⟩
        · skip
          have k3 : (pR3 (gS l s) τ p).1 = true := h211
          have pr3 := nuW_rng (g := (gS l s)) (p := (pR3 (gS l s) τ p).2)
          have EN4 : (pR4 (gS l s) τ p) = nmA (gS l s) (true, (pR3 (gS l s) τ p).2) (0 ≤ nuW (gS l s) (pR3 (gS l s) τ p).2 ∧ nuW (gS l s) (pR3 (gS l s) τ p).2 ≤ 9) := by unfold pR4; rw [nmA_e k3, nuV_t k3]; exact nmA_congr (by omega)
          refine A_aload_n (pc := 214) dX9_item_214 rfl rfl ?_
          refine A_iconst (pc := 215) dX9_item_215 ?_
          refine A_iconst (pc := 216) dX9_item_216 ?_
          refine A_bipush (pc := 217) dX9_item_217 (by decide) ?_
          refine A_callVe (pc := 219) kX9_194 rfl rfl (c_X9_number ha3.1 (j := 1) (by decide) (lo := 0) (hi := 9) (by decide) (by decide) (by decide) (by decide)) dX9_item_219 rfl rfl (Nat.le_of_ble_eq_true rfl) (Nat.le_of_ble_eq_true rfl) (fun a4 ha4 => ?_)
          rw [← EN4] at ha4 ⊢
          have F4 := F3.tr ha4.2.1
          refine A_ifb_ne (pc := 222) 227 dX9_item_222 (by decide) (fun h222 => ?_) (fun h222 => ?_)
          · skip
            have k4 : (pR4 (gS l s) τ p).1 = true := h222
            have pr4 := nuW_rng (g := (gS l s)) (p := (pR4 (gS l s) τ p).2)
            have wb4 := ha4.1.2.1
            have hPQ : sT τ.1 (nuV (gS l s) (pR4 (gS l s) τ p)) → (0 ≤ nuW (gS l s) (pR4 (gS l s) τ p).2 ∧ nuW (gS l s) (pR4 (gS l s) τ p).2 ≤ 48) := fun z => by have y := z.1; have y2 := z.2.1; rw [nuV_t k4] at y y2; omega
            have hPQR : sT τ.1 (nuV (gS l s) (pR4 (gS l s) τ p)) ↔ (0 ≤ nuW (gS l s) (pR4 (gS l s) τ p).2 ∧ nuW (gS l s) (pR4 (gS l s) τ p).2 ≤ 48) ∧ sT τ.1 (nuW (gS l s) (pR4 (gS l s) τ p).2) := by
              rw [nuV_t k4]
              exact ⟨fun z => ⟨by have y := z.1; have y2 := z.2.1; omega, z⟩, fun z => z.2⟩
            refine A_aload_n (pc := 227) dX9_item_227 rfl rfl ?_
            refine A_getIv (pc := 228) fX9_165 rfl rfl ha4.1.2.2 dX9_item_228 ?_
            refine A_istore_n (pc := 231) dX9_item_231 rfl (Nat.le_of_ble_eq_true rfl) ?_
            refine A_aload_n (pc := 232) dX9_item_232 rfl rfl ?_
            refine A_iconst (pc := 233) dX9_item_233 ?_
            refine A_iconst (pc := 234) dX9_item_234 ?_
            refine A_bipush (pc := 235) dX9_item_235 (by decide) ?_
            refine A_callVe (pc := 237) kX9_194 rfl rfl (c_X9_number ha4.1 (j := 2) (by decide) (lo := 0) (hi := 48) (by decide) (by decide) (by decide) (by decide)) dX9_item_237 rfl rfl (Nat.le_of_ble_eq_true rfl) (Nat.le_of_ble_eq_true rfl) (fun a5 ha5 => ?_)
            have F5 := F4.tr ha5.2.1
            have M5 : RMt τ a5 := hM.fa F5
            refine A_ifb_eq (pc := 240) 271 dX9_item_240 (by decide) (fun h240 => ?_) (fun h240 => ?_)
            · skip
              refine A_iconst (pc := 271) dX9_item_271 ?_
              refine A_zret (pc := 272) rfl rfl dX9_item_272 ?_
              have E : itF (gS l s) τ p = itP (gS l s) τ p := by unfold itF; rw [if_neg (by omega), if_neg (by omega), if_pos h4]
              have H5 : (pR5 (gS l s) τ p) = (nmA (gS l s) (true, (pR4 (gS l s) τ p).2) (0 ≤ nuW (gS l s) (pR4 (gS l s) τ p).2 ∧ nuW (gS l s) (pR4 (gS l s) τ p).2 ≤ 48)) := by unfold pR5; rw [nmA_sub hPQ (by rw [nmA_e k4]; exact h240), nmA_e k4]
              have n5 : ¬ (pR5 (gS l s) τ p).1 = true := by rw [H5]; exact h240
              have H := pR_f5 (g := (gS l s)) (τ := τ) (p := p) n5
              have A := ha5.1
              rw [← H5] at A
              rw [E, itP_f H, bI_f Bool.false_ne_true]
              exact ⟨rfl, A, fun z => absurd z Bool.false_ne_true, F5.i⟩
            · skip
              refine A_aload_n (pc := 243) dX9_item_243 rfl rfl ?_
              refine A_aload_n (pc := 244) dX9_item_244 rfl rfl ?_
              refine A_aload_n (pc := 245) dX9_item_245 rfl rfl ?_
              refine A_getR (pc := 246) fX9_48 rfl rfl dX9_item_246 ?_
              refine A_iconst (pc := 249) dX9_item_249 ?_
              refine A_ialdv (pc := 250) 2 rfl rfl (by decide) (Nat.le_of_ble_eq_true rfl) (ha5.2.2.1 h240) dX9_item_250 ?_
              refine A_callV1 (pc := 251) kX9_133 rfl rfl (c_X9_isHouse M5 hO (by omega) (by omega)) dX9_item_251 rfl rfl (Nat.le_of_ble_eq_true rfl) (Nat.le_of_ble_eq_true rfl) ?_
              refine A_iload_n (pc := 254) dX9_item_254 rfl rfl ?_
              refine A_callVe (pc := 255) kX9_197 rfl rfl (c_X9_may ha5.1 (n := (pR4 (gS l s) τ p).2) (by omega) (fun _ => nb1 (r := (true, (pR4 (gS l s) τ p).2)) wb4.1 wb4.2 h240)) dX9_item_255 rfl rfl (Nat.le_of_ble_eq_true rfl) (Nat.le_of_ble_eq_true rfl) (fun a6 ha6 => ?_)
              have F6 := F5.tr ha6.2.a
              refine A_ifb_eq (pc := 258) 271 dX9_item_258 (by decide) (fun h258 => ?_) (fun h258 => ?_)
              · skip
                refine A_iconst (pc := 271) dX9_item_271 ?_
                refine A_zret (pc := 272) rfl rfl dX9_item_272 ?_
                have E : itF (gS l s) τ p = itP (gS l s) τ p := by unfold itF; rw [if_neg (by omega), if_neg (by omega), if_pos h4]
                have H5 : (pR5 (gS l s) τ p) = (false, (pR4 (gS l s) τ p).2 + 1) := by unfold pR5; rw [nmA_may hPQR (by rw [nmA_e k4]; exact h240), if_neg h258]
                have n5 : ¬ (pR5 (gS l s) τ p).1 = true := by rw [H5]; exact Bool.false_ne_true
                have H := pR_f5 (g := (gS l s)) (τ := τ) (p := p) n5
                have A := ha6.1
                rw [if_neg h258] at A
                have A2x : AtM l s k (pR5 (gS l s) τ p).2 a6 := by rw [H5]; exact A
                rw [E, itP_f H, bI_f Bool.false_ne_true]
                exact ⟨rfl, A2x, fun z => absurd z Bool.false_ne_true, F6.i⟩
              · skip
                have H5 : (pR5 (gS l s) τ p) = (nmA (gS l s) (true, (pR4 (gS l s) τ p).2) (0 ≤ nuW (gS l s) (pR4 (gS l s) τ p).2 ∧ nuW (gS l s) (pR4 (gS l s) τ p).2 ≤ 48)) := by unfold pR5; rw [nmA_may hPQR (by rw [nmA_e k4]; exact h240), if_pos h258, nmA_e k4]
                have k5 : (pR5 (gS l s) τ p).1 = true := by rw [H5]; exact h240
                have A5 : AtM l s k (pR5 (gS l s) τ p).2 a6 := by have z := ha6.1; rw [if_pos h258] at z; rw [H5]; exact z
                have pr5 := nuW_rng (g := (gS l s)) (p := (pR5 (gS l s) τ p).2)
                have EN6 : (pR6 (gS l s) τ p) = nmA (gS l s) (true, (pR5 (gS l s) τ p).2) (0 ≤ nuW (gS l s) (pR5 (gS l s) τ p).2 ∧ nuW (gS l s) (pR5 (gS l s) τ p).2 ≤ 3) := by unfold pR6; rw [nmA_e k5, nuV_t k5]; exact nmA_congr (by omega)
                refine A_aload_n (pc := 261) dX9_item_261 rfl rfl ?_
                refine A_iconst (pc := 262) dX9_item_262 ?_
                refine A_iconst (pc := 263) dX9_item_263 ?_
                refine A_iconst (pc := 264) dX9_item_264 ?_
                refine A_callVe (pc := 265) kX9_194 rfl rfl (c_X9_number A5 (j := 3) (by decide) (lo := 0) (hi := 3) (by decide) (by decide) (by decide) (by decide)) dX9_item_265 rfl rfl (Nat.le_of_ble_eq_true rfl) (Nat.le_of_ble_eq_true rfl) (fun a7 ha7 => ?_)
                rw [← EN6] at ha7 ⊢
                have F7 := F6.tr ha7.2.1
                refine A_ifb_ne (pc := 268) 273 dX9_item_268 (by decide) (fun h268 => ?_) (fun h268 => ?_)
                · skip
                  have v3 : a7.1 67 3 = nuW (gS l s) (pR5 (gS l s) τ p).2 := ha7.2.2.1 h268
                  have v2 : a7.1 67 2 = nuW (gS l s) (pR4 (gS l s) τ p).2 := by rw [ha7.2.2.2 2 (by decide), ha6.2.n 2]; exact ha5.2.2.1 h240
                  have v1 : a7.1 67 1 = nuW (gS l s) (pR3 (gS l s) τ p).2 := by rw [ha7.2.2.2 1 (by decide), ha6.2.n 1, ha5.2.2.2 1 (by decide)]; exact ha4.2.2.1 h222
                  have v0 : a7.1 67 0 = nuW (gS l s) (pR2 (gS l s) τ p).2 := by rw [ha7.2.2.2 0 (by decide), ha6.2.n 0, ha5.2.2.2 0 (by decide), ha4.2.2.2 0 (by decide)]; exact ha3.2.2.1 h211
                  have hp9 := ((pR2_bd (l := l) (τ := τ) h.2.1.1 h.2.1.2).2.2 k2).2
                  refine A_aload_n (pc := 273) dX9_item_273 rfl rfl ?_
                  refine A_aload_n (pc := 274) dX9_item_274 rfl rfl ?_
                  refine A_getR (pc := 275) fX9_48 rfl rfl dX9_item_275 ?_
                  refine A_iconst (pc := 278) dX9_item_278 ?_
                  refine A_ialdv (pc := 279) 0 rfl rfl (by decide) (Nat.le_of_ble_eq_true rfl) v0 dX9_item_279 ?_
                  refine A_aload_n (pc := 280) dX9_item_280 rfl rfl ?_
                  refine A_getR (pc := 281) fX9_48 rfl rfl dX9_item_281 ?_
                  refine A_iconst (pc := 284) dX9_item_284 ?_
                  refine A_ialdv (pc := 285) 1 rfl rfl (by decide) (Nat.le_of_ble_eq_true rfl) v1 dX9_item_285 ?_
                  refine A_aload_n (pc := 286) dX9_item_286 rfl rfl ?_
                  refine A_getR (pc := 287) fX9_48 rfl rfl dX9_item_287 ?_
                  refine A_iconst (pc := 290) dX9_item_290 ?_
                  refine A_ialdv (pc := 291) 2 rfl rfl (by decide) (Nat.le_of_ble_eq_true rfl) v2 dX9_item_291 ?_
                  refine A_aload_n (pc := 292) dX9_item_292 rfl rfl ?_
                  refine A_getR (pc := 293) fX9_48 rfl rfl dX9_item_293 ?_
                  refine A_iconst (pc := 296) dX9_item_296 ?_
                  refine A_ialdv (pc := 297) 3 rfl rfl (by decide) (Nat.le_of_ble_eq_true rfl) v3 dX9_item_297 ?_
                  refine A_callVe (pc := 298) kX9_139 rfl rfl (c_X9_newPane2 (hM.fa F7) hO hp9) dX9_item_298 rfl rfl (Nat.le_of_ble_eq_true rfl) (Nat.le_of_ble_eq_true rfl) (fun ψ hψ => ?_)
                  refine A_pop (pc := 301) dX9_item_301 rfl ?_
                  refine A_iconst (pc := 302) dX9_item_302 ?_
                  refine A_zret (pc := 303) rfl rfl dX9_item_303 ?_
                  have E : itF (gS l s) τ p = itP (gS l s) τ p := by unfold itF; rw [if_neg (by omega), if_neg (by omega), if_pos h4]
                  have H : (pR6 (gS l s) τ p) = (true, (pR6 (gS l s) τ p).2) := Rd_t h268
                  rw [E, itP_t H, bI_t rfl]
                  exact ⟨rfl, ha7.1.fi (fun a z => hψ.2.1 a (by unfold TM; omega)) (fun j z => hψ.2.2 j (by omega) (by omega)), fun _ => by rw [nuV_t k2, nuV_t k3, nuV_t k4, nuV_t k5]; exact hψ.1, F7.i.tr ⟨hψ.2.1.mono (fun a z => Or.inl z), fun j h0 h5 _ => hψ.2.2 j h0 h5⟩⟩
                · skip
                  refine A_iconst (pc := 271) dX9_item_271 ?_
                  refine A_zret (pc := 272) rfl rfl dX9_item_272 ?_
                  have E : itF (gS l s) τ p = itP (gS l s) τ p := by unfold itF; rw [if_neg (by omega), if_neg (by omega), if_pos h4]
                  have H : (pR6 (gS l s) τ p) = (false, (pR6 (gS l s) τ p).2) := Rd_f h268
                  rw [E, itP_f H, bI_f Bool.false_ne_true]
                  exact ⟨rfl, ha7.1, fun z => absurd z Bool.false_ne_true, F7.i⟩
          · skip
            refine A_iconst (pc := 225) dX9_item_225 ?_
            refine A_zret (pc := 226) rfl rfl dX9_item_226 ?_
            have E : itF (gS l s) τ p = itP (gS l s) τ p := by unfold itF; rw [if_neg (by omega), if_neg (by omega), if_pos h4]
            have H := pR_f4 (g := (gS l s)) (τ := τ) (p := p) h222
            rw [E, itP_f H, bI_f Bool.false_ne_true]
            exact ⟨rfl, ha4.1, fun z => absurd z Bool.false_ne_true, F4.i⟩
  refine ⟨fun h4 => ?_, fun h4n114 => ?_⟩
  · skip
    refine A_aload_n (pc := 393) dX9_item_393 rfl rfl ?_
    refine A_ldcS (pc := 394) (List.mem_of_getElem? (i := 9) rfl) dX9_item_394 ?_
    refine A_callVe (pc := 396) kX9_188 rfl rfl (c_X9_word h (i := 4) (by decide)) dX9_item_396 rfl rfl (Nat.le_of_ble_eq_true rfl) (Nat.le_of_ble_eq_true rfl) (fun υ hυ => ?_)
    have w1 : AtM l s k (wdF (gS l s) 4 5 0 p).2 υ := hυ.1
    refine A_ifb_eq (pc := 399) 413 dX9_item_399 (by decide) (fun h399 => ?_) (fun h399 => ?_)
    · skip
      refine A_iconst (pc := 413) dX9_item_413 ?_
      refine A_zret (pc := 414) rfl rfl dX9_item_414 ?_
      have E : itF (gS l s) τ p = itR (gS l s) τ p := by unfold itF; rw [if_neg (by omega), if_neg (by omega), if_neg (by omega), if_neg (by omega), if_pos h4]
      have k1 : ¬ (wdF (gS l s) 4 5 0 p).1 = true := h399
      have H : rR1 (gS l s) p = (false, (wdF (gS l s) 4 5 0 p).2) := (nmA_f k1).trans (Rd_f k1)
      rw [E, itR_f H, bI_f Bool.false_ne_true]
      exact ⟨rfl, w1, fun z => absurd z Bool.false_ne_true, hυ.2.a.i⟩
    · skip
      have k1 : (wdF (gS l s) 4 5 0 p).1 = true := h399
      have EN : rR1 (gS l s) p = (nmA (gS l s) (true, (wdF (gS l s) 4 5 0 p).2) (1 ≤ nuW (gS l s) (wdF (gS l s) 4 5 0 p).2 ∧ nuW (gS l s) (wdF (gS l s) 4 5 0 p).2 ≤ 6)) := by unfold rR1; rw [nmA_e k1, nuV_t k1]
      refine A_aload_n (pc := 402) dX9_item_402 rfl rfl ?_
      refine A_iconst (pc := 403) dX9_item_403 ?_
      refine A_iconst (pc := 404) dX9_item_404 ?_
      refine A_bipush (pc := 405) dX9_item_405 (by decide) ?_
      refine A_callVe (pc := 407) kX9_194 rfl rfl (c_X9_number w1 (j := 0) (by decide) (lo := 1) (hi := 6) (by decide) (by decide) (by decide) (by decide)) dX9_item_407 rfl rfl (Nat.le_of_ble_eq_true rfl) (Nat.le_of_ble_eq_true rfl) (fun ω hω => ?_)
      refine A_ifb_ne (pc := 410) 415 dX9_item_410 (by decide) (fun h410 => ?_) (fun h410 => ?_)
      · skip
        refine A_aload_n (pc := 415) dX9_item_415 rfl rfl ?_
        refine A_getR (pc := 416) fX9_35 rfl rfl dX9_item_416 ?_
        refine A_iconst (pc := 419) dX9_item_419 ?_
        refine A_aload_n (pc := 420) dX9_item_420 rfl rfl ?_
        refine A_getR (pc := 421) fX9_48 rfl rfl dX9_item_421 ?_
        refine A_iconst (pc := 424) dX9_item_424 ?_
        refine A_ialdv (pc := 425) 0 rfl rfl (by decide) (Nat.le_of_ble_eq_true rfl) (hω.2.2.1 h410) dX9_item_425 ?_
        refine A_iast (pc := 426) 0 rfl rfl (by decide) (Nat.le_of_ble_eq_true rfl) dX9_item_426 ?_
        refine A_iconst (pc := 427) dX9_item_427 ?_
        refine A_zret (pc := 428) rfl rfl dX9_item_428 ?_
        have E : itF (gS l s) τ p = itR (gS l s) τ p := by unfold itF; rw [if_neg (by omega), if_neg (by omega), if_neg (by omega), if_neg (by omega), if_pos h4]
        have H : rR1 (gS l s) p = (true, (nmA (gS l s) (true, (wdF (gS l s) 4 5 0 p).2) (1 ≤ nuW (gS l s) (wdF (gS l s) 4 5 0 p).2 ∧ nuW (gS l s) (wdF (gS l s) 4 5 0 p).2 ≤ 6)).2) := EN.trans (Rd_t h410)
        have hT := (hM.fa (hυ.2.a.tr hω.2.1)).setW (k := 0) (nuW (gS l s) (wdF (gS l s) 4 5 0 p).2) (by decide)
        rw [← nuV_t k1] at hT
        rw [E, itR_t H, bI_t rfl]
        rw [nuV_t k1] at hT ⊢
        exact ⟨rfl, hω.1.fi (fun a z => by rcases z with rfl | rfl <;> exact ⟨(uI_ne (by decide)).symm, rfl⟩) (fun j z => by rw [uI_at, if_neg (by omega)]), fun _ => hT, (hυ.2.a.tr hω.2.1).i.tr ⟨Fr.rf.uI (by omega), fun j _ _ _ => by rw [uI_at, if_neg (by omega)]⟩⟩
      · skip
        refine A_iconst (pc := 413) dX9_item_413 ?_
        refine A_zret (pc := 414) rfl rfl dX9_item_414 ?_
        have E : itF (gS l s) τ p = itR (gS l s) τ p := by unfold itF; rw [if_neg (by omega), if_neg (by omega), if_neg (by omega), if_neg (by omega), if_pos h4]
        have H : rR1 (gS l s) p = (false, (nmA (gS l s) (true, (wdF (gS l s) 4 5 0 p).2) (1 ≤ nuW (gS l s) (wdF (gS l s) 4 5 0 p).2 ∧ nuW (gS l s) (wdF (gS l s) 4 5 0 p).2 ≤ 6)).2) := EN.trans (Rd_f h410)
        rw [E, itR_f H, bI_f Bool.false_ne_true]
        exact ⟨rfl, hω.1, fun z => absurd z Bool.false_ne_true, (hυ.2.a.tr hω.2.1).i⟩
  refine ⟨fun h4 => ?_, fun h4n119 => ?_⟩
  · skip
    refine A_aload_n (pc := 304) dX9_item_304 rfl rfl ?_
    refine A_ldcS (pc := 305) (List.mem_of_getElem? (i := 8) rfl) dX9_item_305 ?_
    refine A_aload_n (pc := 307) dX9_item_307 rfl rfl ?_
    refine A_getIv (pc := 308) fX9_90 rfl rfl hM.2.2.1 dX9_item_308 ?_
    refine A_iconst (pc := 311) dX9_item_311 ?_
    refine A_icmp_ge (pc := 312) 319 dX9_item_312 (by decide) (by omega) (by omega) (by omega) (by omega) (fun h312 => ?_) (fun h312 => ?_)
    · skip
      refine A_iconst (pc := 319) dX9_item_319 ?_
      refine A_callVe (pc := 320) kX9_205 rfl rfl (c_X9_word_ h (i := 3) (by decide) (P := τ.2.1 1 < 5) (bI_f (by omega)).symm) dX9_item_320 rfl rfl (Nat.le_of_ble_eq_true rfl) (Nat.le_of_ble_eq_true rfl) (fun a2 b2 => ?_)
      have A2 : AtM l s k (wR2 (gS l s) τ p).2 a2 := b2.1
      have F2 := b2.2.a
      refine A_ifb_ne (pc := 323) 328 dX9_item_323 (by decide) (fun h323 => ?_) (fun h323 => ?_)
      · skip
        have k4 : (wR2 (gS l s) τ p).1 = true := h323
        have pr4 := nuW_rng (g := (gS l s)) (p := (wR2 (gS l s) τ p).2)
        have wb4 := A2.2.1
        have hPQ : (inS (nuV (gS l s) (wR2 (gS l s) τ p)) ∧ ¬ sT τ.1 (nuV (gS l s) (wR2 (gS l s) τ p))) → (0 ≤ nuW (gS l s) (wR2 (gS l s) τ p).2 ∧ nuW (gS l s) (wR2 (gS l s) τ p).2 ≤ 48) := fun z => by have y := z.1; rw [nuV_t k4] at y; omega
        have hPQR : (inS (nuV (gS l s) (wR2 (gS l s) τ p)) ∧ ¬ sT τ.1 (nuV (gS l s) (wR2 (gS l s) τ p))) ↔ (0 ≤ nuW (gS l s) (wR2 (gS l s) τ p).2 ∧ nuW (gS l s) (wR2 (gS l s) τ p).2 ≤ 48) ∧ (inS (nuW (gS l s) (wR2 (gS l s) τ p).2) ∧ ¬ sT τ.1 (nuW (gS l s) (wR2 (gS l s) τ p).2)) := by
          rw [nuV_t k4]
          exact ⟨fun z => ⟨by have y := z.1; omega, z⟩, fun z => z.2⟩
        refine A_aload_n (pc := 328) dX9_item_328 rfl rfl ?_
        refine A_getIv (pc := 329) fX9_165 rfl rfl A2.2.2 dX9_item_329 ?_
        refine A_istore_n (pc := 332) dX9_item_332 rfl (Nat.le_of_ble_eq_true rfl) ?_
        refine A_aload_n (pc := 333) dX9_item_333 rfl rfl ?_
        refine A_iconst (pc := 334) dX9_item_334 ?_
        refine A_iconst (pc := 335) dX9_item_335 ?_
        refine A_bipush (pc := 336) dX9_item_336 (by decide) ?_
        refine A_callVe (pc := 338) kX9_194 rfl rfl (c_X9_number A2 (j := 0) (by decide) (lo := 0) (hi := 48) (by decide) (by decide) (by decide) (by decide)) dX9_item_338 rfl rfl (Nat.le_of_ble_eq_true rfl) (Nat.le_of_ble_eq_true rfl) (fun a5 ha5 => ?_)
        have F5 := F2.tr ha5.2.1
        have M5 : RMt τ a5 := hM.fa F5
        refine A_ifb_eq (pc := 341) 372 dX9_item_341 (by decide) (fun h341 => ?_) (fun h341 => ?_)
        · skip
          refine A_iconst (pc := 372) dX9_item_372 ?_
          refine A_zret (pc := 373) rfl rfl dX9_item_373 ?_
          have E : itF (gS l s) τ p = itW (gS l s) τ p := by unfold itF; rw [if_neg (by omega), if_neg (by omega), if_neg (by omega), if_pos h4]
          have H5 : (wR3 (gS l s) τ p) = (nmA (gS l s) (true, (wR2 (gS l s) τ p).2) (0 ≤ nuW (gS l s) (wR2 (gS l s) τ p).2 ∧ nuW (gS l s) (wR2 (gS l s) τ p).2 ≤ 48)) := by unfold wR3; rw [nmA_sub hPQ (by rw [nmA_e k4]; exact h341), nmA_e k4]
          have n5 : ¬ (wR3 (gS l s) τ p).1 = true := by rw [H5]; exact h341
          have H := wR_f3 (g := (gS l s)) (τ := τ) (p := p) n5
          have A := ha5.1
          rw [← H5] at A
          rw [E, itW_f H, bI_f Bool.false_ne_true]
          exact ⟨rfl, A, fun z => absurd z Bool.false_ne_true, F5.i⟩
        · skip
          refine A_aload_n (pc := 344) dX9_item_344 rfl rfl ?_
          refine A_aload_n (pc := 345) dX9_item_345 rfl rfl ?_
          refine A_aload_n (pc := 346) dX9_item_346 rfl rfl ?_
          refine A_getR (pc := 347) fX9_48 rfl rfl dX9_item_347 ?_
          refine A_iconst (pc := 350) dX9_item_350 ?_
          refine A_ialdv (pc := 351) 0 rfl rfl (by decide) (Nat.le_of_ble_eq_true rfl) (ha5.2.2.1 h341) dX9_item_351 ?_
          refine A_callV1 (pc := 352) kX9_143 rfl rfl (c_X9_isOpen M5 hO (by omega) (by omega)) dX9_item_352 rfl rfl (Nat.le_of_ble_eq_true rfl) (Nat.le_of_ble_eq_true rfl) ?_
          refine A_iload_n (pc := 355) dX9_item_355 rfl rfl ?_
          refine A_callVe (pc := 356) kX9_197 rfl rfl (c_X9_may ha5.1 (n := (wR2 (gS l s) τ p).2) (by omega) (fun _ => nb1 (r := (true, (wR2 (gS l s) τ p).2)) wb4.1 wb4.2 h341)) dX9_item_356 rfl rfl (Nat.le_of_ble_eq_true rfl) (Nat.le_of_ble_eq_true rfl) (fun a6 ha6 => ?_)
          have F6 := F5.tr ha6.2.a
          refine A_ifb_eq (pc := 359) 372 dX9_item_359 (by decide) (fun h359 => ?_) (fun h359 => ?_)
          · skip
            refine A_iconst (pc := 372) dX9_item_372 ?_
            refine A_zret (pc := 373) rfl rfl dX9_item_373 ?_
            have E : itF (gS l s) τ p = itW (gS l s) τ p := by unfold itF; rw [if_neg (by omega), if_neg (by omega), if_neg (by omega), if_pos h4]
            have H5 : (wR3 (gS l s) τ p) = (false, (wR2 (gS l s) τ p).2 + 1) := by unfold wR3; rw [nmA_may hPQR (by rw [nmA_e k4]; exact h341), if_neg h359]
            have n5 : ¬ (wR3 (gS l s) τ p).1 = true := by rw [H5]; exact Bool.false_ne_true
            have H := wR_f3 (g := (gS l s)) (τ := τ) (p := p) n5
            have A := ha6.1
            rw [if_neg h359] at A
            have A2x : AtM l s k (wR3 (gS l s) τ p).2 a6 := by rw [H5]; exact A
            rw [E, itW_f H, bI_f Bool.false_ne_true]
            exact ⟨rfl, A2x, fun z => absurd z Bool.false_ne_true, F6.i⟩
          · skip
            have H5 : (wR3 (gS l s) τ p) = (nmA (gS l s) (true, (wR2 (gS l s) τ p).2) (0 ≤ nuW (gS l s) (wR2 (gS l s) τ p).2 ∧ nuW (gS l s) (wR2 (gS l s) τ p).2 ≤ 48)) := by unfold wR3; rw [nmA_may hPQR (by rw [nmA_e k4]; exact h341), if_pos h359, nmA_e k4]
            have k5 : (wR3 (gS l s) τ p).1 = true := by rw [H5]; exact h341
            have A5 : AtM l s k (wR3 (gS l s) τ p).2 a6 := by have z := ha6.1; rw [if_pos h359] at z; rw [H5]; exact z
            have pr5 := nuW_rng (g := (gS l s)) (p := (wR3 (gS l s) τ p).2)
            have EN6 : (wR4 (gS l s) τ p) = nmA (gS l s) (true, (wR3 (gS l s) τ p).2) (0 ≤ nuW (gS l s) (wR3 (gS l s) τ p).2 ∧ nuW (gS l s) (wR3 (gS l s) τ p).2 ≤ 3) := by unfold wR4; rw [nmA_e k5, nuV_t k5]; exact nmA_congr (by omega)
            refine A_aload_n (pc := 362) dX9_item_362 rfl rfl ?_
            refine A_iconst (pc := 363) dX9_item_363 ?_
            refine A_iconst (pc := 364) dX9_item_364 ?_
            refine A_iconst (pc := 365) dX9_item_365 ?_
            refine A_callVe (pc := 366) kX9_194 rfl rfl (c_X9_number A5 (j := 1) (by decide) (lo := 0) (hi := 3) (by decide) (by decide) (by decide) (by decide)) dX9_item_366 rfl rfl (Nat.le_of_ble_eq_true rfl) (Nat.le_of_ble_eq_true rfl) (fun a7 ha7 => ?_)
            rw [← EN6] at ha7 ⊢
            have F7 := F6.tr ha7.2.1
            refine A_ifb_ne (pc := 369) 374 dX9_item_369 (by decide) (fun h369 => ?_) (fun h369 => ?_)
            · skip
              have v1 : a7.1 67 1 = nuW (gS l s) (wR3 (gS l s) τ p).2 := ha7.2.2.1 h369
              have v0 : a7.1 67 0 = nuW (gS l s) (wR2 (gS l s) τ p).2 := by rw [ha7.2.2.2 0 (by decide), ha6.2.n 0]; exact ha5.2.2.1 h341
              have hp9 := ((wR2_bd (l := l) (τ := τ) h.2.1.1 h.2.1.2).2.2 k4).2
              refine A_aload_n (pc := 374) dX9_item_374 rfl rfl ?_
              refine A_aload_n (pc := 375) dX9_item_375 rfl rfl ?_
              refine A_getR (pc := 376) fX9_48 rfl rfl dX9_item_376 ?_
              refine A_iconst (pc := 379) dX9_item_379 ?_
              refine A_ialdv (pc := 380) 0 rfl rfl (by decide) (Nat.le_of_ble_eq_true rfl) v0 dX9_item_380 ?_
              refine A_aload_n (pc := 381) dX9_item_381 rfl rfl ?_
              refine A_getR (pc := 382) fX9_48 rfl rfl dX9_item_382 ?_
              refine A_iconst (pc := 385) dX9_item_385 ?_
              refine A_ialdv (pc := 386) 1 rfl rfl (by decide) (Nat.le_of_ble_eq_true rfl) v1 dX9_item_386 ?_
              refine A_callVe (pc := 387) kX9_146 rfl rfl (c_X9_newWalker2 (hM.fa F7) hO hp9) dX9_item_387 rfl rfl (Nat.le_of_ble_eq_true rfl) (Nat.le_of_ble_eq_true rfl) (fun ψ hψ => ?_)
              refine A_pop (pc := 390) dX9_item_390 rfl ?_
              refine A_iconst (pc := 391) dX9_item_391 ?_
              refine A_zret (pc := 392) rfl rfl dX9_item_392 ?_
              have E : itF (gS l s) τ p = itW (gS l s) τ p := by unfold itF; rw [if_neg (by omega), if_neg (by omega), if_neg (by omega), if_pos h4]
              have H : (wR4 (gS l s) τ p) = (true, (wR4 (gS l s) τ p).2) := Rd_t h369
              rw [E, itW_t H, bI_t rfl]
              exact ⟨rfl, ha7.1.fi (fun a z => hψ.2.1 a (by unfold TM; omega)) (fun j z => hψ.2.2 j (by omega) (by omega)), fun _ => by rw [nuV_t k4, nuV_t k5]; exact hψ.1, F7.i.tr ⟨hψ.2.1.mono (fun a z => Or.inl z), fun j h0 h5 _ => hψ.2.2 j h0 h5⟩⟩
            · skip
              refine A_iconst (pc := 372) dX9_item_372 ?_
              refine A_zret (pc := 373) rfl rfl dX9_item_373 ?_
              have E : itF (gS l s) τ p = itW (gS l s) τ p := by unfold itF; rw [if_neg (by omega), if_neg (by omega), if_neg (by omega), if_pos h4]
              have H : (wR4 (gS l s) τ p) = (false, (wR4 (gS l s) τ p).2) := Rd_f h369
              rw [E, itW_f H, bI_f Bool.false_ne_true]
              exact ⟨rfl, ha7.1, fun z => absurd z Bool.false_ne_true, F7.i⟩
      · skip
        refine A_iconst (pc := 326) dX9_item_326 ?_
        refine A_zret (pc := 327) rfl rfl dX9_item_327 ?_
        have E : itF (gS l s) τ p = itW (gS l s) τ p := by unfold itF; rw [if_neg (by omega), if_neg (by omega), if_neg (by omega), if_pos h4]
        have H := wR_f2 (g := (gS l s)) (τ := τ) (p := p) h323
        rw [E, itW_f H, bI_f Bool.false_ne_true]
        exact ⟨rfl, A2, fun z => absurd z Bool.false_ne_true, F2.i⟩
    · skip
      refine A_iconst (pc := 315) dX9_item_315 ?_
      refine A_goto (pc := 316) 320 dX9_item_316 (by decide) ?_
      refine A_callVe (pc := 320) kX9_205 rfl rfl (c_X9_word_ h (i := 3) (by decide) (P := τ.2.1 1 < 5) (bI_t (by omega)).symm) dX9_item_320 rfl rfl (Nat.le_of_ble_eq_true rfl) (Nat.le_of_ble_eq_true rfl) (fun a2 b2 => ?_)
      have A2 : AtM l s k (wR2 (gS l s) τ p).2 a2 := b2.1
      have F2 := b2.2.a
      refine A_ifb_ne (pc := 323) 328 dX9_item_323 (by decide) (fun h323 => ?_) (fun h323 => ?_)
      · skip
        have k4 : (wR2 (gS l s) τ p).1 = true := h323
        have pr4 := nuW_rng (g := (gS l s)) (p := (wR2 (gS l s) τ p).2)
        have wb4 := A2.2.1
        have hPQ : (inS (nuV (gS l s) (wR2 (gS l s) τ p)) ∧ ¬ sT τ.1 (nuV (gS l s) (wR2 (gS l s) τ p))) → (0 ≤ nuW (gS l s) (wR2 (gS l s) τ p).2 ∧ nuW (gS l s) (wR2 (gS l s) τ p).2 ≤ 48) := fun z => by have y := z.1; rw [nuV_t k4] at y; omega
        have hPQR : (inS (nuV (gS l s) (wR2 (gS l s) τ p)) ∧ ¬ sT τ.1 (nuV (gS l s) (wR2 (gS l s) τ p))) ↔ (0 ≤ nuW (gS l s) (wR2 (gS l s) τ p).2 ∧ nuW (gS l s) (wR2 (gS l s) τ p).2 ≤ 48) ∧ (inS (nuW (gS l s) (wR2 (gS l s) τ p).2) ∧ ¬ sT τ.1 (nuW (gS l s) (wR2 (gS l s) τ p).2)) := by
          rw [nuV_t k4]
          exact ⟨fun z => ⟨by have y := z.1; omega, z⟩, fun z => z.2⟩
        refine A_aload_n (pc := 328) dX9_item_328 rfl rfl ?_
        refine A_getIv (pc := 329) fX9_165 rfl rfl A2.2.2 dX9_item_329 ?_
        refine A_istore_n (pc := 332) dX9_item_332 rfl (Nat.le_of_ble_eq_true rfl) ?_
        refine A_aload_n (pc := 333) dX9_item_333 rfl rfl ?_
        refine A_iconst (pc := 334) dX9_item_334 ?_
        refine A_iconst (pc := 335) dX9_item_335 ?_
        refine A_bipush (pc := 336) dX9_item_336 (by decide) ?_
        refine A_callVe (pc := 338) kX9_194 rfl rfl (c_X9_number A2 (j := 0) (by decide) (lo := 0) (hi := 48) (by decide) (by decide) (by decide) (by decide)) dX9_item_338 rfl rfl (Nat.le_of_ble_eq_true rfl) (Nat.le_of_ble_eq_true rfl) (fun a5 ha5 => ?_)
        have F5 := F2.tr ha5.2.1
        have M5 : RMt τ a5 := hM.fa F5
        refine A_ifb_eq (pc := 341) 372 dX9_item_341 (by decide) (fun h341 => ?_) (fun h341 => ?_)
        · skip
          refine A_iconst (pc := 372) dX9_item_372 ?_
          refine A_zret (pc := 373) rfl rfl dX9_item_373 ?_
          have E : itF (gS l s) τ p = itW (gS l s) τ p := by unfold itF; rw [if_neg (by omega), if_neg (by omega), if_neg (by omega), if_pos h4]
          have H5 : (wR3 (gS l s) τ p) = (nmA (gS l s) (true, (wR2 (gS l s) τ p).2) (0 ≤ nuW (gS l s) (wR2 (gS l s) τ p).2 ∧ nuW (gS l s) (wR2 (gS l s) τ p).2 ≤ 48)) := by unfold wR3; rw [nmA_sub hPQ (by rw [nmA_e k4]; exact h341), nmA_e k4]
          have n5 : ¬ (wR3 (gS l s) τ p).1 = true := by rw [H5]; exact h341
          have H := wR_f3 (g := (gS l s)) (τ := τ) (p := p) n5
          have A := ha5.1
          rw [← H5] at A
          rw [E, itW_f H, bI_f Bool.false_ne_true]
          exact ⟨rfl, A, fun z => absurd z Bool.false_ne_true, F5.i⟩
        · skip
          refine A_aload_n (pc := 344) dX9_item_344 rfl rfl ?_
          refine A_aload_n (pc := 345) dX9_item_345 rfl rfl ?_
          refine A_aload_n (pc := 346) dX9_item_346 rfl rfl ?_
          refine A_getR (pc := 347) fX9_48 rfl rfl dX9_item_347 ?_
          refine A_iconst (pc := 350) dX9_item_350 ?_
          refine A_ialdv (pc := 351) 0 rfl rfl (by decide) (Nat.le_of_ble_eq_true rfl) (ha5.2.2.1 h341) dX9_item_351 ?_
          refine A_callV1 (pc := 352) kX9_143 rfl rfl (c_X9_isOpen M5 hO (by omega) (by omega)) dX9_item_352 rfl rfl (Nat.le_of_ble_eq_true rfl) (Nat.le_of_ble_eq_true rfl) ?_
          refine A_iload_n (pc := 355) dX9_item_355 rfl rfl ?_
          refine A_callVe (pc := 356) kX9_197 rfl rfl (c_X9_may ha5.1 (n := (wR2 (gS l s) τ p).2) (by omega) (fun _ => nb1 (r := (true, (wR2 (gS l s) τ p).2)) wb4.1 wb4.2 h341)) dX9_item_356 rfl rfl (Nat.le_of_ble_eq_true rfl) (Nat.le_of_ble_eq_true rfl) (fun a6 ha6 => ?_)
          have F6 := F5.tr ha6.2.a
          refine A_ifb_eq (pc := 359) 372 dX9_item_359 (by decide) (fun h359 => ?_) (fun h359 => ?_)
          · skip
            refine A_iconst (pc := 372) dX9_item_372 ?_
            refine A_zret (pc := 373) rfl rfl dX9_item_373 ?_
            have E : itF (gS l s) τ p = itW (gS l s) τ p := by unfold itF; rw [if_neg (by omega), if_neg (by omega), if_neg (by omega), if_pos h4]
            have H5 : (wR3 (gS l s) τ p) = (false, (wR2 (gS l s) τ p).2 + 1) := by unfold wR3; rw [nmA_may hPQR (by rw [nmA_e k4]; exact h341), if_neg h359]
            have n5 : ¬ (wR3 (gS l s) τ p).1 = true := by rw [H5]; exact Bool.false_ne_true
            have H := wR_f3 (g := (gS l s)) (τ := τ) (p := p) n5
            have A := ha6.1
            rw [if_neg h359] at A
            have A2x : AtM l s k (wR3 (gS l s) τ p).2 a6 := by rw [H5]; exact A
            rw [E, itW_f H, bI_f Bool.false_ne_true]
            exact ⟨rfl, A2x, fun z => absurd z Bool.false_ne_true, F6.i⟩
          · skip
            have H5 : (wR3 (gS l s) τ p) = (nmA (gS l s) (true, (wR2 (gS l s) τ p).2) (0 ≤ nuW (gS l s) (wR2 (gS l s) τ p).2 ∧ nuW (gS l s) (wR2 (gS l s) τ p).2 ≤ 48)) := by unfold wR3; rw [nmA_may hPQR (by rw [nmA_e k4]; exact h341), if_pos h359, nmA_e k4]
            have k5 : (wR3 (gS l s) τ p).1 = true := by rw [H5]; exact h341
            have A5 : AtM l s k (wR3 (gS l s) τ p).2 a6 := by have z := ha6.1; rw [if_pos h359] at z; rw [H5]; exact z
            have pr5 := nuW_rng (g := (gS l s)) (p := (wR3 (gS l s) τ p).2)
            have EN6 : (wR4 (gS l s) τ p) = nmA (gS l s) (true, (wR3 (gS l s) τ p).2) (0 ≤ nuW (gS l s) (wR3 (gS l s) τ p).2 ∧ nuW (gS l s) (wR3 (gS l s) τ p).2 ≤ 3) := by unfold wR4; rw [nmA_e k5, nuV_t k5]; exact nmA_congr (by omega)
            refine A_aload_n (pc := 362) dX9_item_362 rfl rfl ?_
            refine A_iconst (pc := 363) dX9_item_363 ?_
            refine A_iconst (pc := 364) dX9_item_364 ?_
            refine A_iconst (pc := 365) dX9_item_365 ?_
            refine A_callVe (pc := 366) kX9_194 rfl rfl (c_X9_number A5 (j := 1) (by decide) (lo := 0) (hi := 3) (by decide) (by decide) (by decide) (by decide)) dX9_item_366 rfl rfl (Nat.le_of_ble_eq_true rfl) (Nat.le_of_ble_eq_true rfl) (fun a7 ha7 => ?_)
            rw [← EN6] at ha7 ⊢
            have F7 := F6.tr ha7.2.1
            refine A_ifb_ne (pc := 369) 374 dX9_item_369 (by decide) (fun h369 => ?_) (fun h369 => ?_)
            · skip
              have v1 : a7.1 67 1 = nuW (gS l s) (wR3 (gS l s) τ p).2 := ha7.2.2.1 h369
              have v0 : a7.1 67 0 = nuW (gS l s) (wR2 (gS l s) τ p).2 := by rw [ha7.2.2.2 0 (by decide), ha6.2.n 0]; exact ha5.2.2.1 h341
              have hp9 := ((wR2_bd (l := l) (τ := τ) h.2.1.1 h.2.1.2).2.2 k4).2
              refine A_aload_n (pc := 374) dX9_item_374 rfl rfl ?_
              refine A_aload_n (pc := 375) dX9_item_375 rfl rfl ?_
              refine A_getR (pc := 376) fX9_48 rfl rfl dX9_item_376 ?_
              refine A_iconst (pc := 379) dX9_item_379 ?_
              refine A_ialdv (pc := 380) 0 rfl rfl (by decide) (Nat.le_of_ble_eq_true rfl) v0 dX9_item_380 ?_
              refine A_aload_n (pc := 381) dX9_item_381 rfl rfl ?_
              refine A_getR (pc := 382) fX9_48 rfl rfl dX9_item_382 ?_
              refine A_iconst (pc := 385) dX9_item_385 ?_
              refine A_ialdv (pc := 386) 1 rfl rfl (by decide) (Nat.le_of_ble_eq_true rfl) v1 dX9_item_386 ?_
              refine A_callVe (pc := 387) kX9_146 rfl rfl (c_X9_newWalker2 (hM.fa F7) hO hp9) dX9_item_387 rfl rfl (Nat.le_of_ble_eq_true rfl) (Nat.le_of_ble_eq_true rfl) (fun ψ hψ => ?_)
              refine A_pop (pc := 390) dX9_item_390 rfl ?_
              refine A_iconst (pc := 391) dX9_item_391 ?_
              refine A_zret (pc := 392) rfl rfl dX9_item_392 ?_
              have E : itF (gS l s) τ p = itW (gS l s) τ p := by unfold itF; rw [if_neg (by omega), if_neg (by omega), if_neg (by omega), if_pos h4]
              have H : (wR4 (gS l s) τ p) = (true, (wR4 (gS l s) τ p).2) := Rd_t h369
              rw [E, itW_t H, bI_t rfl]
              exact ⟨rfl, ha7.1.fi (fun a z => hψ.2.1 a (by unfold TM; omega)) (fun j z => hψ.2.2 j (by omega) (by omega)), fun _ => by rw [nuV_t k4, nuV_t k5]; exact hψ.1, F7.i.tr ⟨hψ.2.1.mono (fun a z => Or.inl z), fun j h0 h5 _ => hψ.2.2 j h0 h5⟩⟩
            · skip
              refine A_iconst (pc := 372) dX9_item_372 ?_
              refine A_zret (pc := 373) rfl rfl dX9_item_373 ?_
              have E : itF (gS l s) τ p = itW (gS l s) τ p := by unfold itF; rw [if_neg (by omega), if_neg (by omega), if_neg (by omega), if_pos h4]
              have H : (wR4 (gS l s) τ p) = (false, (wR4 (gS l s) τ p).2) := Rd_f h369
              rw [E, itW_f H, bI_f Bool.false_ne_true]
              exact ⟨rfl, ha7.1, fun z => absurd z Bool.false_ne_true, F7.i⟩
      · skip
        refine A_iconst (pc := 326) dX9_item_326 ?_
        refine A_zret (pc := 327) rfl rfl dX9_item_327 ?_
        have E : itF (gS l s) τ p = itW (gS l s) τ p := by unfold itF; rw [if_neg (by omega), if_neg (by omega), if_neg (by omega), if_pos h4]
        have H := wR_f2 (g := (gS l s)) (τ := τ) (p := p) h323
        rw [E, itW_f H, bI_f Bool.false_ne_true]
        exact ⟨rfl, A2, fun z => absurd z Bool.false_ne_true, F2.i⟩
  refine ⟨fun h4 => ?_, fun h4n121 => ?_⟩
  · skip
    refine A_aload_n (pc := 118) dX9_item_118 rfl rfl ?_
    refine A_ldcS (pc := 119) (List.mem_of_getElem? (i := 6) rfl) dX9_item_119 ?_
    refine A_callVe (pc := 121) kX9_188 rfl rfl (c_X9_word h (i := 1) (by decide)) dX9_item_121 rfl rfl (Nat.le_of_ble_eq_true rfl) (Nat.le_of_ble_eq_true rfl) (fun υ hυ => ?_)
    have w1 : AtM l s k (wdF (gS l s) 1 4 0 p).2 υ := hυ.1
    have wb := w1.2.1
    refine A_ifb_ne (pc := 124) 129 dX9_item_124 (by decide) (fun h124 => ?_) (fun h124 => ?_)
    · skip
      have k1 : (wdF (gS l s) 1 4 0 p).1 = true := h124
      have nr := nuW_rng (g := (gS l s)) (p := (wdF (gS l s) 1 4 0 p).2)
      have hPQ : (inS (nuV (gS l s) (wdF (gS l s) 1 4 0 p)) ∧ ¬ pAt τ (nuV (gS l s) (wdF (gS l s) 1 4 0 p)) = true) → (0 ≤ nuW (gS l s) (wdF (gS l s) 1 4 0 p).2 ∧ nuW (gS l s) (wdF (gS l s) 1 4 0 p).2 ≤ 48) := fun z => by have y := z.1; rw [nuV_t k1] at y; omega
      have hPQR : (inS (nuV (gS l s) (wdF (gS l s) 1 4 0 p)) ∧ ¬ pAt τ (nuV (gS l s) (wdF (gS l s) 1 4 0 p)) = true) ↔ (0 ≤ nuW (gS l s) (wdF (gS l s) 1 4 0 p).2 ∧ nuW (gS l s) (wdF (gS l s) 1 4 0 p).2 ≤ 48) ∧ ((0 ≤ nuW (gS l s) (wdF (gS l s) 1 4 0 p).2 ∧ nuW (gS l s) (wdF (gS l s) 1 4 0 p).2 < 49) ∧ (if false = true then ¬ wAt τ (nuW (gS l s) (wdF (gS l s) 1 4 0 p).2) = true else ¬ pAt τ (nuW (gS l s) (wdF (gS l s) 1 4 0 p).2) = true)) := by
        rw [nuV_t k1, if_neg Bool.false_ne_true]
        exact ⟨fun z => ⟨by omega, z⟩, fun z => z.2⟩
      refine A_aload_n (pc := 129) dX9_item_129 rfl rfl ?_
      refine A_getIv (pc := 130) fX9_165 rfl rfl w1.2.2 dX9_item_130 ?_
      refine A_istore_n (pc := 133) dX9_item_133 rfl (Nat.le_of_ble_eq_true rfl) ?_
      refine A_aload_n (pc := 134) dX9_item_134 rfl rfl ?_
      refine A_iconst (pc := 135) dX9_item_135 ?_
      refine A_iconst (pc := 136) dX9_item_136 ?_
      refine A_bipush (pc := 137) dX9_item_137 (by decide) ?_
      refine A_callVe (pc := 139) kX9_194 rfl rfl (c_X9_number w1 (j := 0) (by decide) (lo := 0) (hi := 48) (by decide) (by decide) (by decide) (by decide)) dX9_item_139 rfl rfl (Nat.le_of_ble_eq_true rfl) (Nat.le_of_ble_eq_true rfl) (fun ω hω => ?_)
      have hMω : RMt τ ω := hM.fa (hυ.2.a.tr hω.2.1)
      refine A_ifb_eq (pc := 142) 164 dX9_item_142 (by decide) (fun h142 => ?_) (fun h142 => ?_)
      · skip
        refine A_iconst (pc := 164) dX9_item_164 ?_
        refine A_zret (pc := 165) rfl rfl dX9_item_165 ?_
        have E : itF (gS l s) τ p = itY (gS l s) τ p := by unfold itF; rw [if_neg (by omega), if_pos h4]
        have H : yR1 (gS l s) τ p = (false, (nmA (gS l s) (true, (wdF (gS l s) 1 4 0 p).2) (0 ≤ nuW (gS l s) (wdF (gS l s) 1 4 0 p).2 ∧ nuW (gS l s) (wdF (gS l s) 1 4 0 p).2 ≤ 48)).2) := by unfold yR1; rw [nmA_sub hPQ (by rw [nmA_e k1]; exact h142), nmA_e k1]; exact Rd_f h142
        rw [E, itY_f H, bI_f Bool.false_ne_true]
        exact ⟨rfl, hω.1, fun z => absurd z Bool.false_ne_true, (hυ.2.a.tr hω.2.1).i⟩
      · skip
        refine A_aload_n (pc := 145) dX9_item_145 rfl rfl ?_
        refine A_aload_n (pc := 146) dX9_item_146 rfl rfl ?_
        refine A_aload_n (pc := 147) dX9_item_147 rfl rfl ?_
        refine A_getR (pc := 148) fX9_48 rfl rfl dX9_item_148 ?_
        refine A_iconst (pc := 151) dX9_item_151 ?_
        refine A_ialdv (pc := 152) 0 rfl rfl (by decide) (Nat.le_of_ble_eq_true rfl) (hω.2.2.1 h142) dX9_item_152 ?_
        refine A_iconst (pc := 153) dX9_item_153 ?_
        refine A_callV1 (pc := 154) kX9_129 rfl rfl (c_X9_mayBecome hMω hO (b := false) (by omega) (by omega)) dX9_item_154 rfl rfl (Nat.le_of_ble_eq_true rfl) (Nat.le_of_ble_eq_true rfl) ?_
        refine A_iload_n (pc := 157) dX9_item_157 rfl rfl ?_
        refine A_callVe (pc := 158) kX9_197 rfl rfl (c_X9_may hω.1 (n := (wdF (gS l s) 1 4 0 p).2) (by omega) (fun _ => nb1 (r := (true, (wdF (gS l s) 1 4 0 p).2)) wb.1 wb.2 h142)) dX9_item_158 rfl rfl (Nat.le_of_ble_eq_true rfl) (Nat.le_of_ble_eq_true rfl) (fun χ hχ => ?_)
        refine A_ifb_ne (pc := 161) 166 dX9_item_161 (by decide) (fun h161 => ?_) (fun h161 => ?_)
        · skip
          obtain ⟨x, hx⟩ := Int.eq_ofNat_of_zero_le nr.1
          have hx2 : nuW (gS l s) (wdF (gS l s) 1 4 0 p).2 < 49 := h161.1.2
          have x49 : x < 49 := by omega
          have vx : χ.1 67 0 = (x : Int) := by rw [hχ.2.n 0, hω.2.2.1 h142, hx]
          refine A_aload_n (pc := 166) dX9_item_166 rfl rfl ?_
          refine A_getR (pc := 167) fX9_31 rfl rfl dX9_item_167 ?_
          refine A_aload_n (pc := 170) dX9_item_170 rfl rfl ?_
          refine A_getR (pc := 171) fX9_48 rfl rfl dX9_item_171 ?_
          refine A_iconst (pc := 174) dX9_item_174 ?_
          refine A_ialdv (pc := 175) 0 rfl rfl (by decide) (Nat.le_of_ble_eq_true rfl) vx dX9_item_175 ?_
          refine A_iconst (pc := 176) dX9_item_176 ?_
          refine A_zast (pc := 177) x rfl rfl x49 (Nat.le_of_ble_eq_true rfl) rfl dX9_item_177 ?_
          refine A_iconst (pc := 178) dX9_item_178 ?_
          refine A_zret (pc := 179) rfl rfl dX9_item_179 ?_
          have E : itF (gS l s) τ p = itY (gS l s) τ p := by unfold itF; rw [if_neg (by omega), if_pos h4]
          have H : yR1 (gS l s) τ p = (true, (nmA (gS l s) (true, (wdF (gS l s) 1 4 0 p).2) (0 ≤ nuW (gS l s) (wdF (gS l s) 1 4 0 p).2 ∧ nuW (gS l s) (wdF (gS l s) 1 4 0 p).2 ≤ 48)).2) := by unfold yR1; rw [nmA_may hPQR (by rw [nmA_e k1]; exact h142), if_pos h161, nmA_e k1]; exact Rd_t h142
          have A := hχ.1
          rw [if_pos h161] at A
          have hT := (hMω.fa hχ.2.a).house x49 false
          rw [if_neg Bool.false_ne_true, bI_f Bool.false_ne_true, ← hx, ← nuV_t k1] at hT
          rw [E, itY_t H, bI_t rfl]
          exact ⟨rfl, A.fi (fun a z => by rcases z with rfl | rfl <;> exact ⟨(uI_ne (by decide)).symm, rfl⟩) (fun j z => by rw [uI_at, if_neg (by omega)]), fun _ => hT, ((hυ.2.a.tr hω.2.1).tr hχ.2.a).i.tr ⟨Fr.rf.uI (by omega), fun j _ _ _ => by rw [uI_at, if_neg (by omega)]⟩⟩
        · skip
          refine A_iconst (pc := 164) dX9_item_164 ?_
          refine A_zret (pc := 165) rfl rfl dX9_item_165 ?_
          have E : itF (gS l s) τ p = itY (gS l s) τ p := by unfold itF; rw [if_neg (by omega), if_pos h4]
          have H : yR1 (gS l s) τ p = (false, (wdF (gS l s) 1 4 0 p).2 + 1) := by unfold yR1; rw [nmA_may hPQR (by rw [nmA_e k1]; exact h142), if_neg h161]
          have A := hχ.1
          rw [if_neg h161] at A
          rw [E, itY_f H, bI_f Bool.false_ne_true]
          exact ⟨rfl, A, fun z => absurd z Bool.false_ne_true, ((hυ.2.a.tr hω.2.1).tr hχ.2.a).i⟩
    · skip
      refine A_iconst (pc := 127) dX9_item_127 ?_
      refine A_zret (pc := 128) rfl rfl dX9_item_128 ?_
      have E : itF (gS l s) τ p = itY (gS l s) τ p := by unfold itF; rw [if_neg (by omega), if_pos h4]
      have k1 : ¬ (wdF (gS l s) 1 4 0 p).1 = true := h124
      have H : yR1 (gS l s) τ p = (false, (wdF (gS l s) 1 4 0 p).2) := (nmA_f k1).trans (Rd_f k1)
      rw [E, itY_f H, bI_f Bool.false_ne_true]
      exact ⟨rfl, w1, fun z => absurd z Bool.false_ne_true, hυ.2.a.i⟩
  change AW G _ _ _ _ _ 429 _ _ _ _
  refine A_iconst (pc := 429) dX9_item_429 ?_
  refine A_zret (pc := 430) rfl rfl dX9_item_430 ?_
  have E : itF (gS l s) τ p = ((false, p), τ) := by unfold itF; rw [if_neg (by omega), if_neg (by omega), if_neg (by omega), if_neg (by omega), if_neg (by omega)]
  rw [E, bI_f Bool.false_ne_true]
  exact ⟨rfl, h, fun z => absurd z Bool.false_ne_true, FrA.rf.i⟩
