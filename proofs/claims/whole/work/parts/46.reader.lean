/-! PART 46: the class's reader -/
/-- the letters laid down, the text's size -/
def TxX (l : Nat → Int) (s : Int) (σ : Sg) : Prop := σ.1 3 3 = s ∧ (∀ i : Nat, (i : Int) < s → σ.1 4 i = l i) ∧ (0 ≤ s ∧ s ≤ 160) ∧ ∀ i, -2147483648 ≤ l i ∧ l i < 2147483648
def OkX (l : Nat → Int) (s p : Int) (σ : Sg) : Prop := TxX l s σ ∧ (0 ≤ p ∧ p ≤ s) ∧ σ.1 3 1 = -1 ∧ σ.1 3 4 = p
def BadX (l : Nat → Int) (s f : Int) (σ : Sg) : Prop := TxX l s σ ∧ (0 ≤ f ∧ f ≤ s) ∧ σ.1 3 1 = f ∧ 0 ≤ σ.1 3 4 ∧ σ.1 3 4 ≤ s
def RdX (l : Nat → Int) (s : Int) (r : Rd) (σ : Sg) : Prop := TxX l s σ ∧ (0 ≤ r.2 ∧ r.2 ≤ s) ∧ (r.1 = true → σ.1 3 1 = -1 ∧ σ.1 3 4 = r.2) ∧ (r.1 = false → σ.1 3 1 = r.2 ∧ 0 ≤ σ.1 3 4 ∧ σ.1 3 4 ≤ s)
def S3 : Nat → Prop := fun a => a = 3
def fltV (r : Rd) : Int := if r.1 = true then -1 else r.2
theorem fltV_rng {l : Nat → Int} {s : Int} {r : Rd} {σ : Sg} (h : RdX l s r σ) : -1 ≤ fltV r ∧ fltV r ≤ 160 := by
  obtain ⟨⟨-, -, h1, -⟩, h2, -, -⟩ := h
  unfold fltV
  split <;> omega
theorem fltV_ok {l : Nat → Int} {s : Int} {r : Rd} {σ : Sg} (h : RdX l s r σ) (e : fltV r = -1) : r.1 = true := by
  obtain ⟨-, h2, -, -⟩ := h
  unfold fltV at e
  by_cases q : r.1 = true
  · exact q
  · rw [if_neg q] at e; omega
theorem fltV_bad {r : Rd} (e : fltV r ≠ -1) : r.1 = false := by
  unfold fltV at e
  by_cases q : r.1 = true
  · rw [if_pos q] at e; exact absurd rfl e
  · exact Bool.eq_false_iff.mpr q
theorem RdX.flt {l : Nat → Int} {s : Int} {r : Rd} {σ : Sg} (h : RdX l s r σ) : σ.1 3 1 = fltV r := by
  unfold fltV
  by_cases q : r.1 = true
  · rw [if_pos q]; exact (h.2.2.1 q).1
  · rw [if_neg q]; exact (h.2.2.2 (Bool.eq_false_iff.mpr q)).1
theorem RdX.okx {l : Nat → Int} {s : Int} {r : Rd} {σ : Sg} (h : RdX l s r σ) (e : r.1 = true) : OkX l s r.2 σ := ⟨h.1, h.2.1, h.2.2.1 e⟩
theorem RdX.badx {l : Nat → Int} {s : Int} {r : Rd} {σ : Sg} (h : RdX l s r σ) (e : r.1 = false) : BadX l s r.2 σ := ⟨h.1, h.2.1, h.2.2.2 e⟩
theorem OkX.rdx {l : Nat → Int} {s p : Int} {σ : Sg} (h : OkX l s p σ) : RdX l s (true, p) σ := ⟨h.1, h.2.1, fun _ => h.2.2, fun e => absurd e.symm Bool.false_ne_true⟩
theorem BadX.rdx {l : Nat → Int} {s f : Int} {σ : Sg} (h : BadX l s f σ) : RdX l s (false, f) σ := ⟨h.1, h.2.1, fun e => absurd e Bool.false_ne_true, fun _ => h.2.2⟩
/-- a change of a number of the reader but the size -/
theorem TxX.u {l : Nat → Int} {s : Int} {σ : Sg} (h : TxX l s σ) {k : Nat} {v : Int} (hk : k ≠ 3) : TxX l s (uI σ 3 k v) := ⟨by rw [uI_at, if_neg (by omega)]; exact h.1, fun i hi => by rw [uI_at, if_neg (by omega)]; exact h.2.1 i hi, h.2.2⟩
theorem OkX.go {l : Nat → Int} {s p : Int} {σ : Sg} (h : OkX l s p σ) (hp : p < s) : OkX l s (p + 1) (uI σ 3 4 (p + 1)) := by
  refine ⟨h.1.u (by decide), by have := h.2.1; omega, ?_, ?_⟩
  · rw [uI_at, if_neg (by omega)]; exact h.2.2.1
  · rw [uI_at, if_pos ⟨rfl, rfl⟩]
theorem OkX.bad {l : Nat → Int} {s p f : Int} {σ : Sg} (h : OkX l s p σ) (f1 : 0 ≤ f) (f2 : f ≤ s) : BadX l s f (uI σ 3 1 f) := by
  refine ⟨h.1.u (by decide), ⟨f1, f2⟩, ?_, ?_⟩
  · rw [uI_at, if_pos ⟨rfl, rfl⟩]
  · rw [uI_at, if_neg (by omega), h.2.2.2]; exact h.2.1
theorem OkX.np {l : Nat → Int} {s p v : Int} {σ : Sg} (h : OkX l s p σ) : OkX l s p (uI σ 3 5 v) := by
  refine ⟨h.1.u (by decide), h.2.1, ?_, ?_⟩
  · rw [uI_at, if_neg (by omega)]; exact h.2.2.1
  · rw [uI_at, if_neg (by omega)]; exact h.2.2.2
theorem gS_rng {l : Nat → Int} {s p : Int} (h : ∀ i, -2147483648 ≤ l i ∧ l i < 2147483648) : -2147483648 ≤ gS l s p ∧ gS l s p < 2147483648 := by
  unfold gS
  split
  · exact h _
  · omega
theorem RdX.fr {l : Nat → Int} {s : Int} {r : Rd} {σ υ : Sg} {S : Nat → Prop} (h : RdX l s r σ) (hF : Fr S σ υ) (h3 : ¬ S 3) (h4 : ¬ S 4) : RdX l s r υ := by
  obtain ⟨⟨a1, a2, a3⟩, b, c, e⟩ := h
  have e3 := (hF 3 h3).1
  have e4 := (hF 4 h4).1
  refine ⟨⟨by rw [e3]; exact a1, fun i hi => by rw [e4]; exact a2 i hi, a3⟩, b, fun q => by rw [e3]; exact c q, fun q => by rw [e3]; exact e q⟩
theorem thn_thn {g : Int → Int} {c : Int} {f : Int → Rd} (r : Rd) : thn (thn r (isF g c)) f = thn r (fun p => if g p = c then f (p + 1) else (false, p)) := by
  obtain ⟨b, p⟩ := r
  cases b
  · rfl
  · show thn (isF g c p) f = if g p = c then f (p + 1) else (false, p)
    unfold isF
    by_cases h : g p = c
    · rw [if_pos h, if_pos h]; rfl
    · rw [if_neg h, if_neg h]; rfl
theorem thn_bd2 {l : Nat → Int} {s c : Int} {r : Rd} (hc : c ≠ -1) (h1 : 0 ≤ r.2 ∧ r.2 ≤ s) : 0 ≤ (thn r (isF (gS l s) c)).2 ∧ (thn r (isF (gS l s) c)).2 ≤ s := by
  unfold thn
  split
  · exact isF_bd hc h1.1 h1.2
  · exact h1
theorem dX2_letter_0 : decode cX2_letter 0 = .ok (.aload_n 0, 1) := by decide +kernel
theorem dX2_letter_1 : decode cX2_letter 1 = .ok (.getfield 29, 3) := by decide +kernel
theorem dX2_letter_4 : decode cX2_letter 4 = .ok (.ifCond .lt 26, 3) := by decide +kernel
theorem dX2_letter_7 : decode cX2_letter 7 = .ok (.aload_n 0, 1) := by decide +kernel
theorem dX2_letter_8 : decode cX2_letter 8 = .ok (.getfield 29, 3) := by decide +kernel
theorem dX2_letter_11 : decode cX2_letter 11 = .ok (.aload_n 0, 1) := by decide +kernel
theorem dX2_letter_12 : decode cX2_letter 12 = .ok (.getfield 26, 3) := by decide +kernel
theorem dX2_letter_15 : decode cX2_letter 15 = .ok (.if_icmp .ge 15, 3) := by decide +kernel
theorem dX2_letter_18 : decode cX2_letter 18 = .ok (.aload_n 0, 1) := by decide +kernel
theorem dX2_letter_19 : decode cX2_letter 19 = .ok (.getfield 22, 3) := by decide +kernel
theorem dX2_letter_22 : decode cX2_letter 22 = .ok (.aload_n 0, 1) := by decide +kernel
theorem dX2_letter_23 : decode cX2_letter 23 = .ok (.getfield 29, 3) := by decide +kernel
theorem dX2_letter_26 : decode cX2_letter 26 = .ok (.iaload, 1) := by decide +kernel
theorem dX2_letter_27 : decode cX2_letter 27 = .ok (.goto 4, 3) := by decide +kernel
theorem dX2_letter_30 : decode cX2_letter 30 = .ok (.iconst (-1), 1) := by decide +kernel
theorem dX2_letter_31 : decode cX2_letter 31 = .ok (.ireturn, 1) := by decide +kernel
set_option maxRecDepth 20000 in
theorem c_X2_letter {G : Gl} {d : Nat} {σ : Sg} {l : Nat → Int} {s : Int} {p : Int} (hT : TxX l s σ) (p1 : 0 ≤ p) (p2 : p ≤ s) (hp : σ.1 3 4 = p) : CT G d yX2_letter cX2_letter 1 (some .int) [.ref (gA G 3)] σ (R1 (.int (iI (gS l s p))) σ) := by
  refine CT.of (by decide +kernel) (Nat.le_of_ble_eq_true rfl) ?_
  change AW G _ RX2 _ _ _ 0 [(0, .ref (gA G 3))] [] _ _
  obtain ⟨t1, t2, t3, t4⟩ := hT
  refine A_aload_n (pc := 0) dX2_letter_0 rfl rfl ?_
  refine A_getIv (pc := 1) fX2_29 rfl rfl hp dX2_letter_1 ?_
  refine A_if_lt (pc := 4) 30 dX2_letter_4 (by decide) (by omega) (by omega) (fun h4 => ?_) (fun h4 => ?_)
  · skip
    refine A_iconst (pc := 30) dX2_letter_30 ?_
    refine A_iret (pc := 31) rfl dX2_letter_31 ?_
    exfalso; omega
  · skip
    refine A_aload_n (pc := 7) dX2_letter_7 rfl rfl ?_
    refine A_getIv (pc := 8) fX2_29 rfl rfl hp dX2_letter_8 ?_
    refine A_aload_n (pc := 11) dX2_letter_11 rfl rfl ?_
    refine A_getIv (pc := 12) fX2_26 rfl rfl t1 dX2_letter_12 ?_
    refine A_icmp_ge (pc := 15) 30 dX2_letter_15 (by decide) (by omega) (by omega) (by omega) (by omega) (fun h15 => ?_) (fun h15 => ?_)
    · skip
      refine A_iconst (pc := 30) dX2_letter_30 ?_
      refine A_iret (pc := 31) rfl dX2_letter_31 ?_
      exact R1_e (by unfold gS; rw [if_neg (by omega)])
    · skip
      refine A_aload_n (pc := 18) dX2_letter_18 rfl rfl ?_
      refine A_getR (pc := 19) fX2_22 rfl rfl dX2_letter_19 ?_
      refine A_aload_n (pc := 22) dX2_letter_22 rfl rfl ?_
      refine A_getIv (pc := 23) fX2_29 rfl rfl hp dX2_letter_23 ?_
      refine A_ialdv (pc := 26) p.toNat rfl (by omega) (by omega) (Nat.le_of_ble_eq_true rfl) (t2 p.toNat (by omega)) dX2_letter_26 ?_
      refine A_goto (pc := 27) 31 dX2_letter_27 (by decide) ?_
      refine A_iret (pc := 31) rfl dX2_letter_31 ?_
      exact R1_e (by unfold gS; rw [if_pos (by omega)])
theorem dX2_expect_0 : decode cX2_expect 0 = .ok (.aload_n 0, 1) := by decide +kernel
theorem dX2_expect_1 : decode cX2_expect 1 = .ok (.getfield 18, 3) := by decide +kernel
theorem dX2_expect_4 : decode cX2_expect 4 = .ok (.iconst (-1), 1) := by decide +kernel
theorem dX2_expect_5 : decode cX2_expect 5 = .ok (.if_icmp .eq 4, 3) := by decide +kernel
theorem dX2_expect_8 : decode cX2_expect 8 = .ok (.return_, 1) := by decide +kernel
theorem dX2_expect_9 : decode cX2_expect 9 = .ok (.aload_n 0, 1) := by decide +kernel
theorem dX2_expect_10 : decode cX2_expect 10 = .ok (.invokevirtual 59, 3) := by decide +kernel
theorem dX2_expect_13 : decode cX2_expect 13 = .ok (.iload_n 1, 1) := by decide +kernel
theorem dX2_expect_14 : decode cX2_expect 14 = .ok (.if_icmp .ne 16, 3) := by decide +kernel
theorem dX2_expect_17 : decode cX2_expect 17 = .ok (.aload_n 0, 1) := by decide +kernel
theorem dX2_expect_18 : decode cX2_expect 18 = .ok (.dup, 1) := by decide +kernel
theorem dX2_expect_19 : decode cX2_expect 19 = .ok (.getfield 29, 3) := by decide +kernel
theorem dX2_expect_22 : decode cX2_expect 22 = .ok (.iconst 1, 1) := by decide +kernel
theorem dX2_expect_23 : decode cX2_expect 23 = .ok (.iadd, 1) := by decide +kernel
theorem dX2_expect_24 : decode cX2_expect 24 = .ok (.putfield 29, 3) := by decide +kernel
theorem dX2_expect_27 : decode cX2_expect 27 = .ok (.goto 11, 3) := by decide +kernel
theorem dX2_expect_30 : decode cX2_expect 30 = .ok (.aload_n 0, 1) := by decide +kernel
theorem dX2_expect_31 : decode cX2_expect 31 = .ok (.aload_n 0, 1) := by decide +kernel
theorem dX2_expect_32 : decode cX2_expect 32 = .ok (.getfield 29, 3) := by decide +kernel
theorem dX2_expect_35 : decode cX2_expect 35 = .ok (.putfield 18, 3) := by decide +kernel
theorem dX2_expect_38 : decode cX2_expect 38 = .ok (.return_, 1) := by decide +kernel
set_option maxRecDepth 20000 in
theorem c_X2_expect_ok {G : Gl} {d : Nat} {σ : Sg} {l : Nat → Int} {s : Int} {p : Int} (h : OkX l s p σ) {c : Int} (hc1 : -2147483648 ≤ c) (hc2 : c < 2147483648) (hc : c ≠ -1) : CT G (d + 1) yX2_expect cX2_expect 2 none [.ref (gA G 3), .int (iI c)] σ (RE none (fun υ => RdX l s (isF (gS l s) c p) υ ∧ Fr S3 σ υ)) := by
  refine CT.of (by decide +kernel) (Nat.le_of_ble_eq_true rfl) ?_
  change AW G _ RX2 _ _ _ 0 [(0, .ref (gA G 3)), (1, .int (iI c))] [] _ _
  have t3 := h.1.2.2.1
  have t4 := h.1.2.2.2
  have gr := gS_rng (l := l) (s := s) (p := p) t4
  have p1 := h.2.1.1
  have p2 := h.2.1.2
  refine A_aload_n (pc := 0) dX2_expect_0 rfl rfl ?_
  refine A_getIv (pc := 1) fX2_18 rfl rfl h.2.2.1 dX2_expect_1 ?_
  refine A_iconst (pc := 4) dX2_expect_4 ?_
  refine A_icmp_eq (pc := 5) 9 dX2_expect_5 (by decide) (by omega) (by omega) (by omega) (by omega) (fun h5 => ?_) (fun h5 => ?_)
  · skip
    refine A_aload_n (pc := 9) dX2_expect_9 rfl rfl ?_
    refine A_callV1 (pc := 10) kX2_59 rfl rfl (c_X2_letter h.1 h.2.1.1 h.2.1.2 h.2.2.2) dX2_expect_10 rfl rfl (Nat.le_of_ble_eq_true rfl) (Nat.le_of_ble_eq_true rfl) ?_
    refine A_iload_n (pc := 13) dX2_expect_13 rfl rfl ?_
    refine A_icmp_ne (pc := 14) 30 dX2_expect_14 (by decide) (by omega) (by omega) (by omega) (by omega) (fun h14 => ?_) (fun h14 => ?_)
    · skip
      refine A_aload_n (pc := 30) dX2_expect_30 rfl rfl ?_
      refine A_aload_n (pc := 31) dX2_expect_31 rfl rfl ?_
      refine A_getIv (pc := 32) fX2_29 rfl rfl h.2.2.2 dX2_expect_32 ?_
      refine A_putI (pc := 35) fX2_18 wr_1_1 rfl rfl dX2_expect_35 ?_
      refine A_vret (pc := 38) rfl dX2_expect_38 ?_
      have e : isF (gS l s) c p = (false, p) := by unfold isF; rw [if_neg (by omega)]
      rw [e]
      exact ⟨rfl, (h.bad p1 p2).rdx, Fr.rf.uI rfl⟩
    · skip
      refine A_aload_n (pc := 17) dX2_expect_17 rfl rfl ?_
      refine A_dup (pc := 18) dX2_expect_18 rfl ?_
      refine A_getIv (pc := 19) fX2_29 rfl rfl h.2.2.2 dX2_expect_19 ?_
      refine A_iconst (pc := 22) dX2_expect_22 ?_
      refine A_iadd (pc := 23) dX2_expect_23 ?_
      refine A_putI (pc := 24) fX2_29 wr_1_4 rfl rfl dX2_expect_24 ?_
      refine A_goto (pc := 27) 38 dX2_expect_27 (by decide) ?_
      refine A_vret (pc := 38) rfl dX2_expect_38 ?_
      have e : isF (gS l s) c p = (true, p + 1) := by unfold isF; rw [if_pos (by omega)]
      have i := gS_in (l := l) (s := s) (p := p) (by omega)
      rw [e]
      exact ⟨rfl, (h.go i.2).rdx, Fr.rf.uI rfl⟩
  · skip
    refine A_vret (pc := 8) rfl dX2_expect_8 ?_
    exfalso; omega
set_option maxRecDepth 20000 in
theorem c_X2_expect_bad {G : Gl} {d : Nat} {σ : Sg} {l : Nat → Int} {s : Int} {f : Int} (h : BadX l s f σ) {c : Int} : CT G (d + 1) yX2_expect cX2_expect 2 none [.ref (gA G 3), .int (iI c)] σ (RE none (fun υ => RdX l s (false, f) υ ∧ Fr S3 σ υ)) := by
  refine CT.of (by decide +kernel) (Nat.le_of_ble_eq_true rfl) ?_
  change AW G _ RX2 _ _ _ 0 [(0, .ref (gA G 3)), (1, .int (iI c))] [] _ _
  have t3 := h.1.2.2.1
  have f1 := h.2.1
  refine A_aload_n (pc := 0) dX2_expect_0 rfl rfl ?_
  refine A_getIv (pc := 1) fX2_18 rfl rfl h.2.2.1 dX2_expect_1 ?_
  refine A_iconst (pc := 4) dX2_expect_4 ?_
  refine A_icmp_eq (pc := 5) 9 dX2_expect_5 (by decide) (by omega) (by omega) (by omega) (by omega) (fun h5 => ?_) (fun h5 => ?_)
  · skip
    exfalso; omega
  · skip
    refine A_vret (pc := 8) rfl dX2_expect_8 ?_
    exact ⟨rfl, h.rdx, Fr.rf⟩
theorem c_X2_expect {G : Gl} {d : Nat} {σ : Sg} {l : Nat → Int} {s : Int} {r : Rd} (h : RdX l s r σ) {c : Int} (hc1 : -2147483648 ≤ c) (hc2 : c < 2147483648) (hc : c ≠ -1) : CT G (d + 1) yX2_expect cX2_expect 2 none [.ref (gA G 3), .int (iI c)] σ (RE none (fun υ => RdX l s (thn r (isF (gS l s) c)) υ ∧ Fr S3 σ υ)) := by
  obtain ⟨b, p⟩ := r
  cases b
  · exact c_X2_expect_bad (h.badx rfl)
  · exact c_X2_expect_ok (h.okx rfl) hc1 hc2 hc
theorem dX2_expectWord_0 : decode cX2_expectWord 0 = .ok (.iconst 0, 1) := by decide +kernel
theorem dX2_expectWord_1 : decode cX2_expectWord 1 = .ok (.istore_n 2, 1) := by decide +kernel
theorem dX2_expectWord_2 : decode cX2_expectWord 2 = .ok (.iload_n 2, 1) := by decide +kernel
theorem dX2_expectWord_3 : decode cX2_expectWord 3 = .ok (.aload_n 1, 1) := by decide +kernel
theorem dX2_expectWord_4 : decode cX2_expectWord 4 = .ok (.invokevirtual 146, 3) := by decide +kernel
theorem dX2_expectWord_7 : decode cX2_expectWord 7 = .ok (.if_icmp .ge 18, 3) := by decide +kernel
theorem dX2_expectWord_10 : decode cX2_expectWord 10 = .ok (.aload_n 0, 1) := by decide +kernel
theorem dX2_expectWord_11 : decode cX2_expectWord 11 = .ok (.aload_n 1, 1) := by decide +kernel
theorem dX2_expectWord_12 : decode cX2_expectWord 12 = .ok (.iload_n 2, 1) := by decide +kernel
theorem dX2_expectWord_13 : decode cX2_expectWord 13 = .ok (.invokevirtual 151, 3) := by decide +kernel
theorem dX2_expectWord_16 : decode cX2_expectWord 16 = .ok (.invokevirtual 55, 3) := by decide +kernel
theorem dX2_expectWord_19 : decode cX2_expectWord 19 = .ok (.iinc 2 1, 3) := by decide +kernel
theorem dX2_expectWord_22 : decode cX2_expectWord 22 = .ok (.goto (-20), 3) := by decide +kernel
theorem dX2_expectWord_25 : decode cX2_expectWord 25 = .ok (.return_, 1) := by decide +kernel
set_option maxRecDepth 20000 in
theorem l_X2_expectWord {G : Gl} {d : Nat} {σ0 : Sg} {K : Option Value → Sg → Prop} {l : Nat → Int} {s : Int} {i : Nat} (hi : i < 5) {r0 : Rd} : ∀ (n k : Nat) (r : Rd) (σ : Sg), k + n = lnS i → RdX l s r σ → Fr S3 σ0 σ → thn r (wdF (gS l s) i n k) = r0 → (∀ υ, RdX l s r0 υ → Fr S3 σ0 υ → K none υ) → AW G (d + 4) RX2 cX2_expectWord 3 none 2 [(0, .ref (gA G 3)), (1, .ref (gK G i)), (2, .int (iI (k : Int)))] [] σ K := by
  intro n
  induction n using Nat.strongRecOn
  rename_i n ih
  intro k r σ hn h hF hr hK
  have hl := lnS_le i hi
  refine A_iload_n (pc := 2) dX2_expectWord_2 rfl rfl ?_
  refine A_aload_n (pc := 3) dX2_expectWord_3 rfl rfl ?_
  refine A_callK1 (pc := 4) kX2_146 hi rfl (c_J0_length_8abf5 hi) dX2_expectWord_4 rfl rfl (Nat.le_of_ble_eq_true rfl) (Nat.le_of_ble_eq_true rfl) ?_
  refine A_icmp_ge (pc := 7) 25 dX2_expectWord_7 (by decide) (by omega) (by omega) (by omega) (by omega) (fun h7 => ?_) (fun h7 => ?_)
  · skip
    refine A_vret (pc := 25) rfl dX2_expectWord_25 ?_
    have hn0 : n = 0 := by omega
    subst hn0
    have e : thn r (wdF (gS l s) i 0 k) = r := by
      obtain ⟨b, p⟩ := r
      cases b <;> rfl
    rw [e] at hr
    subst hr
    exact hK σ h hF
  · skip
    have hch := chr_k i hi k (by omega)
    refine A_aload_n (pc := 10) dX2_expectWord_10 rfl rfl ?_
    refine A_aload_n (pc := 11) dX2_expectWord_11 rfl rfl ?_
    refine A_iload_n (pc := 12) dX2_expectWord_12 rfl rfl ?_
    refine A_callK1 (pc := 13) kX2_151 hi rfl (c_J0_charAt_5068e hi (k := k) (by omega)) dX2_expectWord_13 rfl rfl (Nat.le_of_ble_eq_true rfl) (Nat.le_of_ble_eq_true rfl) ?_
    refine A_callVe0 (pc := 16) kX2_55 rfl rfl (c_X2_expect h (by omega) (by omega) (by omega)) dX2_expectWord_16 rfl rfl (Nat.le_of_ble_eq_true rfl) (Nat.le_of_ble_eq_true rfl) (fun υ hυ => ?_)
    refine A_iinc (pc := 19) dX2_expectWord_19 rfl (Nat.le_of_ble_eq_true rfl) ?_
    refine A_goto (pc := 22) 2 dX2_expectWord_22 (by decide) ?_
    obtain ⟨u, rfl⟩ : ∃ u, n = u + 1 := ⟨n - 1, by omega⟩
    refine A_loc (l2 := [(0, _), (1, _), (2, _)]) ⟨rfl, rfl, rfl, trivial⟩ ?_
    refine ih u (by omega) (k + 1) _ υ (by omega) hυ.1 (hF.tr hυ.2) ?_ hK
    rw [thn_thn]
    exact hr
set_option maxRecDepth 20000 in
theorem c_X2_expectWord {G : Gl} {d : Nat} {σ : Sg} {l : Nat → Int} {s : Int} {r : Rd} (h : RdX l s r σ) {i : Nat} (hi : i < 5) : CT G (d + 4) yX2_expectWord cX2_expectWord 3 none [.ref (gA G 3), .ref (gK G i)] σ (RE none (fun υ => RdX l s (thn r (wdF (gS l s) i (lnS i) 0)) υ ∧ Fr S3 σ υ)) := by
  refine CT.of (by decide +kernel) (Nat.le_of_ble_eq_true rfl) ?_
  change AW G _ RX2 _ _ _ 0 [(0, .ref (gA G 3)), (1, .ref (gK G i))] [] _ _
  refine A_iconst (pc := 0) dX2_expectWord_0 ?_
  refine A_istore_n (pc := 1) dX2_expectWord_1 rfl (Nat.le_of_ble_eq_true rfl) ?_
  refine A_loc (l2 := [(0, _), (1, _), (2, _)]) ⟨rfl, rfl, rfl, trivial⟩ ?_
  exact l_X2_expectWord (σ0 := σ) hi (lnS i) 0 r σ (by omega) h Fr.rf rfl (fun υ h1 h2 => ⟨rfl, h1, h2⟩)
theorem dX2_isDigit_0 : decode cX2_isDigit 0 = .ok (.aload_n 0, 1) := by decide +kernel
theorem dX2_isDigit_1 : decode cX2_isDigit 1 = .ok (.invokevirtual 59, 3) := by decide +kernel
theorem dX2_isDigit_4 : decode cX2_isDigit 4 = .ok (.bipush 48, 2) := by decide +kernel
theorem dX2_isDigit_6 : decode cX2_isDigit 6 = .ok (.if_icmp .lt 16, 3) := by decide +kernel
theorem dX2_isDigit_9 : decode cX2_isDigit 9 = .ok (.aload_n 0, 1) := by decide +kernel
theorem dX2_isDigit_10 : decode cX2_isDigit 10 = .ok (.invokevirtual 59, 3) := by decide +kernel
theorem dX2_isDigit_13 : decode cX2_isDigit 13 = .ok (.bipush 57, 2) := by decide +kernel
theorem dX2_isDigit_15 : decode cX2_isDigit 15 = .ok (.if_icmp .gt 7, 3) := by decide +kernel
theorem dX2_isDigit_18 : decode cX2_isDigit 18 = .ok (.iconst 1, 1) := by decide +kernel
theorem dX2_isDigit_19 : decode cX2_isDigit 19 = .ok (.goto 4, 3) := by decide +kernel
theorem dX2_isDigit_22 : decode cX2_isDigit 22 = .ok (.iconst 0, 1) := by decide +kernel
theorem dX2_isDigit_23 : decode cX2_isDigit 23 = .ok (.ireturn, 1) := by decide +kernel
set_option maxRecDepth 20000 in
theorem c_X2_isDigit {G : Gl} {d : Nat} {σ : Sg} {l : Nat → Int} {s : Int} {p : Int} (h : OkX l s p σ) : CT G (d + 1) yX2_isDigit cX2_isDigit 1 (some .boolean) [.ref (gA G 3)] σ (R1 (.int (iI (bI (dg (gS l s p))))) σ) := by
  refine CT.of (by decide +kernel) (Nat.le_of_ble_eq_true rfl) ?_
  change AW G _ RX2 _ _ _ 0 [(0, .ref (gA G 3))] [] _ _
  have t3 := h.1.2.2.1
  have t4 := h.1.2.2.2
  have gr := gS_rng (l := l) (s := s) (p := p) t4
  have p1 := h.2.1.1
  have p2 := h.2.1.2
  refine A_aload_n (pc := 0) dX2_isDigit_0 rfl rfl ?_
  refine A_callV1 (pc := 1) kX2_59 rfl rfl (c_X2_letter h.1 h.2.1.1 h.2.1.2 h.2.2.2) dX2_isDigit_1 rfl rfl (Nat.le_of_ble_eq_true rfl) (Nat.le_of_ble_eq_true rfl) ?_
  refine A_bipush (pc := 4) dX2_isDigit_4 (by decide) ?_
  refine A_icmp_lt (pc := 6) 22 dX2_isDigit_6 (by decide) (by omega) (by omega) (by omega) (by omega) (fun h6 => ?_) (fun h6 => ?_)
  · skip
    refine A_iconst (pc := 22) dX2_isDigit_22 ?_
    refine A_zret (pc := 23) rfl rfl dX2_isDigit_23 ?_
    exact R1_f (by unfold dg; omega)
  · skip
    refine A_aload_n (pc := 9) dX2_isDigit_9 rfl rfl ?_
    refine A_callV1 (pc := 10) kX2_59 rfl rfl (c_X2_letter h.1 h.2.1.1 h.2.1.2 h.2.2.2) dX2_isDigit_10 rfl rfl (Nat.le_of_ble_eq_true rfl) (Nat.le_of_ble_eq_true rfl) ?_
    refine A_bipush (pc := 13) dX2_isDigit_13 (by decide) ?_
    refine A_icmp_gt (pc := 15) 22 dX2_isDigit_15 (by decide) (by omega) (by omega) (by omega) (by omega) (fun h15 => ?_) (fun h15 => ?_)
    · skip
      refine A_iconst (pc := 22) dX2_isDigit_22 ?_
      refine A_zret (pc := 23) rfl rfl dX2_isDigit_23 ?_
      exact R1_f (by unfold dg; omega)
    · skip
      refine A_iconst (pc := 18) dX2_isDigit_18 ?_
      refine A_goto (pc := 19) 23 dX2_isDigit_19 (by decide) ?_
      refine A_zret (pc := 23) rfl rfl dX2_isDigit_23 ?_
      exact R1_t (by unfold dg; omega)
theorem dX2_takeDigit_0 : decode cX2_takeDigit 0 = .ok (.aload_n 0, 1) := by decide +kernel
theorem dX2_takeDigit_1 : decode cX2_takeDigit 1 = .ok (.invokevirtual 59, 3) := by decide +kernel
theorem dX2_takeDigit_4 : decode cX2_takeDigit 4 = .ok (.bipush 48, 2) := by decide +kernel
theorem dX2_takeDigit_6 : decode cX2_takeDigit 6 = .ok (.isub, 1) := by decide +kernel
theorem dX2_takeDigit_7 : decode cX2_takeDigit 7 = .ok (.istore_n 1, 1) := by decide +kernel
theorem dX2_takeDigit_8 : decode cX2_takeDigit 8 = .ok (.aload_n 0, 1) := by decide +kernel
theorem dX2_takeDigit_9 : decode cX2_takeDigit 9 = .ok (.dup, 1) := by decide +kernel
theorem dX2_takeDigit_10 : decode cX2_takeDigit 10 = .ok (.getfield 29, 3) := by decide +kernel
theorem dX2_takeDigit_13 : decode cX2_takeDigit 13 = .ok (.iconst 1, 1) := by decide +kernel
theorem dX2_takeDigit_14 : decode cX2_takeDigit 14 = .ok (.iadd, 1) := by decide +kernel
theorem dX2_takeDigit_15 : decode cX2_takeDigit 15 = .ok (.putfield 29, 3) := by decide +kernel
theorem dX2_takeDigit_18 : decode cX2_takeDigit 18 = .ok (.iload_n 1, 1) := by decide +kernel
theorem dX2_takeDigit_19 : decode cX2_takeDigit 19 = .ok (.ireturn, 1) := by decide +kernel
set_option maxRecDepth 20000 in
theorem c_X2_takeDigit {G : Gl} {d : Nat} {σ : Sg} {l : Nat → Int} {s : Int} {p : Int} (h : OkX l s p σ) (hp : p < s) : CT G (d + 1) yX2_takeDigit cX2_takeDigit 2 (some .int) [.ref (gA G 3)] σ (RE (some (.int (iI (gS l s p - 48)))) (fun υ => OkX l s (p + 1) υ ∧ Fr S3 σ υ ∧ υ.1 3 5 = σ.1 3 5)) := by
  refine CT.of (by decide +kernel) (Nat.le_of_ble_eq_true rfl) ?_
  change AW G _ RX2 _ _ _ 0 [(0, .ref (gA G 3))] [] _ _
  have t3 := h.1.2.2.1
  have t4 := h.1.2.2.2
  have gr := gS_rng (l := l) (s := s) (p := p) t4
  have p1 := h.2.1.1
  have p2 := h.2.1.2
  refine A_aload_n (pc := 0) dX2_takeDigit_0 rfl rfl ?_
  refine A_callV1 (pc := 1) kX2_59 rfl rfl (c_X2_letter h.1 h.2.1.1 h.2.1.2 h.2.2.2) dX2_takeDigit_1 rfl rfl (Nat.le_of_ble_eq_true rfl) (Nat.le_of_ble_eq_true rfl) ?_
  refine A_bipush (pc := 4) dX2_takeDigit_4 (by decide) ?_
  refine A_isub (pc := 6) dX2_takeDigit_6 ?_
  refine A_istore_n (pc := 7) dX2_takeDigit_7 rfl (Nat.le_of_ble_eq_true rfl) ?_
  refine A_aload_n (pc := 8) dX2_takeDigit_8 rfl rfl ?_
  refine A_dup (pc := 9) dX2_takeDigit_9 rfl ?_
  refine A_getIv (pc := 10) fX2_29 rfl rfl h.2.2.2 dX2_takeDigit_10 ?_
  refine A_iconst (pc := 13) dX2_takeDigit_13 ?_
  refine A_iadd (pc := 14) dX2_takeDigit_14 ?_
  refine A_putI (pc := 15) fX2_29 wr_1_4 rfl rfl dX2_takeDigit_15 ?_
  refine A_iload_n (pc := 18) dX2_takeDigit_18 rfl rfl ?_
  refine A_iret (pc := 19) rfl dX2_takeDigit_19 ?_
  exact ⟨rfl, h.go hp, Fr.rf.uI rfl, by rw [uI_at, if_neg (by omega)]⟩
theorem dX2_readNumber_0 : decode cX2_readNumber 0 = .ok (.aload_n 0, 1) := by decide +kernel
theorem dX2_readNumber_1 : decode cX2_readNumber 1 = .ok (.bipush 32, 2) := by decide +kernel
theorem dX2_readNumber_3 : decode cX2_readNumber 3 = .ok (.invokevirtual 55, 3) := by decide +kernel
theorem dX2_readNumber_6 : decode cX2_readNumber 6 = .ok (.aload_n 0, 1) := by decide +kernel
theorem dX2_readNumber_7 : decode cX2_readNumber 7 = .ok (.getfield 18, 3) := by decide +kernel
theorem dX2_readNumber_10 : decode cX2_readNumber 10 = .ok (.iconst (-1), 1) := by decide +kernel
theorem dX2_readNumber_11 : decode cX2_readNumber 11 = .ok (.if_icmp .eq 5, 3) := by decide +kernel
theorem dX2_readNumber_14 : decode cX2_readNumber 14 = .ok (.iconst 0, 1) := by decide +kernel
theorem dX2_readNumber_15 : decode cX2_readNumber 15 = .ok (.ireturn, 1) := by decide +kernel
theorem dX2_readNumber_16 : decode cX2_readNumber 16 = .ok (.aload_n 0, 1) := by decide +kernel
theorem dX2_readNumber_17 : decode cX2_readNumber 17 = .ok (.aload_n 0, 1) := by decide +kernel
theorem dX2_readNumber_18 : decode cX2_readNumber 18 = .ok (.getfield 29, 3) := by decide +kernel
theorem dX2_readNumber_21 : decode cX2_readNumber 21 = .ok (.putfield 32, 3) := by decide +kernel
theorem dX2_readNumber_24 : decode cX2_readNumber 24 = .ok (.aload_n 0, 1) := by decide +kernel
theorem dX2_readNumber_25 : decode cX2_readNumber 25 = .ok (.invokevirtual 155, 3) := by decide +kernel
theorem dX2_readNumber_28 : decode cX2_readNumber 28 = .ok (.ifCond .ne 13, 3) := by decide +kernel
theorem dX2_readNumber_31 : decode cX2_readNumber 31 = .ok (.aload_n 0, 1) := by decide +kernel
theorem dX2_readNumber_32 : decode cX2_readNumber 32 = .ok (.aload_n 0, 1) := by decide +kernel
theorem dX2_readNumber_33 : decode cX2_readNumber 33 = .ok (.getfield 29, 3) := by decide +kernel
theorem dX2_readNumber_36 : decode cX2_readNumber 36 = .ok (.putfield 18, 3) := by decide +kernel
theorem dX2_readNumber_39 : decode cX2_readNumber 39 = .ok (.iconst 0, 1) := by decide +kernel
theorem dX2_readNumber_40 : decode cX2_readNumber 40 = .ok (.ireturn, 1) := by decide +kernel
theorem dX2_readNumber_41 : decode cX2_readNumber 41 = .ok (.aload_n 0, 1) := by decide +kernel
theorem dX2_readNumber_42 : decode cX2_readNumber 42 = .ok (.invokevirtual 158, 3) := by decide +kernel
theorem dX2_readNumber_45 : decode cX2_readNumber 45 = .ok (.istore_n 1, 1) := by decide +kernel
theorem dX2_readNumber_46 : decode cX2_readNumber 46 = .ok (.aload_n 0, 1) := by decide +kernel
theorem dX2_readNumber_47 : decode cX2_readNumber 47 = .ok (.invokevirtual 155, 3) := by decide +kernel
theorem dX2_readNumber_50 : decode cX2_readNumber 50 = .ok (.ifCond .eq 15, 3) := by decide +kernel
theorem dX2_readNumber_53 : decode cX2_readNumber 53 = .ok (.bipush 10, 2) := by decide +kernel
theorem dX2_readNumber_55 : decode cX2_readNumber 55 = .ok (.iload_n 1, 1) := by decide +kernel
theorem dX2_readNumber_56 : decode cX2_readNumber 56 = .ok (.imul, 1) := by decide +kernel
theorem dX2_readNumber_57 : decode cX2_readNumber 57 = .ok (.aload_n 0, 1) := by decide +kernel
theorem dX2_readNumber_58 : decode cX2_readNumber 58 = .ok (.invokevirtual 158, 3) := by decide +kernel
theorem dX2_readNumber_61 : decode cX2_readNumber 61 = .ok (.iadd, 1) := by decide +kernel
theorem dX2_readNumber_62 : decode cX2_readNumber 62 = .ok (.goto 4, 3) := by decide +kernel
theorem dX2_readNumber_65 : decode cX2_readNumber 65 = .ok (.iload_n 1, 1) := by decide +kernel
theorem dX2_readNumber_66 : decode cX2_readNumber 66 = .ok (.ireturn, 1) := by decide +kernel
set_option maxRecDepth 20000 in
theorem c_X2_readNumber_ok {G : Gl} {d : Nat} {σ : Sg} {l : Nat → Int} {s : Int} {p : Int} (h : OkX l s p σ) : CT G (d + 2) yX2_readNumber cX2_readNumber 2 (some .int) [.ref (gA G 3)] σ (RE (some (.int (iI (nuW (gS l s) p)))) (fun υ => RdX l s (nuF (gS l s) p) υ ∧ Fr S3 σ υ ∧ ((nuF (gS l s) p).1 = true → υ.1 3 5 = p + 1))) := by
  refine CT.of (by decide +kernel) (Nat.le_of_ble_eq_true rfl) ?_
  change AW G _ RX2 _ _ _ 0 [(0, .ref (gA G 3))] [] _ _
  have t3 := h.1.2.2.1
  have t4 := h.1.2.2.2
  have gr := gS_rng (l := l) (s := s) (p := p) t4
  have p1 := h.2.1.1
  have p2 := h.2.1.2
  refine A_aload_n (pc := 0) dX2_readNumber_0 rfl rfl ?_
  refine A_bipush (pc := 1) dX2_readNumber_1 (by decide) ?_
  refine A_callVe0 (pc := 3) kX2_55 rfl rfl (c_X2_expect_ok h (c := 32) (by omega) (by omega) (by decide)) dX2_readNumber_3 rfl rfl (Nat.le_of_ble_eq_true rfl) (Nat.le_of_ble_eq_true rfl) (fun υ hυ => ?_)
  have fr := fltV_rng hυ.1
  refine A_aload_n (pc := 6) dX2_readNumber_6 rfl rfl ?_
  refine A_getIv (pc := 7) fX2_18 rfl rfl hυ.1.flt dX2_readNumber_7 ?_
  refine A_iconst (pc := 10) dX2_readNumber_10 ?_
  refine A_icmp_eq (pc := 11) 16 dX2_readNumber_11 (by decide) (by omega) (by omega) (by omega) (by omega) (fun h11 => ?_) (fun h11 => ?_)
  · skip
    have hk := fltV_ok hυ.1 h11
    have h32 : gS l s p = 32 := by
      unfold isF at hk
      by_cases z : gS l s p = 32
      · exact z
      · rw [if_neg z] at hk; exact absurd hk Bool.false_ne_true
    have o1 : OkX l s (p + 1) υ := by
      have z := hυ.1.okx hk
      have e : (isF (gS l s) 32 p).2 = p + 1 := by unfold isF; rw [if_pos h32]
      rw [e] at z
      exact z
    refine A_aload_n (pc := 16) dX2_readNumber_16 rfl rfl ?_
    refine A_aload_n (pc := 17) dX2_readNumber_17 rfl rfl ?_
    refine A_getIv (pc := 18) fX2_29 rfl rfl o1.2.2.2 dX2_readNumber_18 ?_
    refine A_putI (pc := 21) fX2_32 wr_1_5 rfl rfl dX2_readNumber_21 ?_
    have o2 : OkX l s (p + 1) (uI υ 3 5 (p + 1)) := o1.np
    refine A_aload_n (pc := 24) dX2_readNumber_24 rfl rfl ?_
    refine A_callV1 (pc := 25) kX2_155 rfl rfl (c_X2_isDigit o2) dX2_readNumber_25 rfl rfl (Nat.le_of_ble_eq_true rfl) (Nat.le_of_ble_eq_true rfl) ?_
    refine A_ifb_ne (pc := 28) 41 dX2_readNumber_28 (by decide) (fun h28 => ?_) (fun h28 => ?_)
    · skip
      have i2 := gS_in (l := l) (s := s) (p := p + 1) (by have z : dg (gS l s (p + 1)) := h28; unfold dg at z; omega)
      have d2 : dg (gS l s (p + 1)) := h28
      refine A_aload_n (pc := 41) dX2_readNumber_41 rfl rfl ?_
      refine A_callVe (pc := 42) kX2_158 rfl rfl (c_X2_takeDigit o2 i2.2) dX2_readNumber_42 rfl rfl (Nat.le_of_ble_eq_true rfl) (Nat.le_of_ble_eq_true rfl) (fun ω hω => ?_)
      refine A_istore_n (pc := 45) dX2_readNumber_45 rfl (Nat.le_of_ble_eq_true rfl) ?_
      have o3 : OkX l s (p + 2) ω := by have z := hω.1; rw [show p + 1 + 1 = p + 2 by omega] at z; exact z
      have n3 : ω.1 3 5 = p + 1 := by rw [hω.2.2, uI_at, if_pos ⟨rfl, rfl⟩]
      refine A_aload_n (pc := 46) dX2_readNumber_46 rfl rfl ?_
      refine A_callV1 (pc := 47) kX2_155 rfl rfl (c_X2_isDigit o3) dX2_readNumber_47 rfl rfl (Nat.le_of_ble_eq_true rfl) (Nat.le_of_ble_eq_true rfl) ?_
      refine A_ifb_eq (pc := 50) 65 dX2_readNumber_50 (by decide) (fun h50 => ?_) (fun h50 => ?_)
      · skip
        refine A_iload_n (pc := 65) dX2_readNumber_65 rfl rfl ?_
        refine A_iret (pc := 66) rfl dX2_readNumber_66 ?_
        have d3 : ¬ dg (gS l s (p + 2)) := h50
        have e : nuF (gS l s) p = (true, p + 2) := by unfold nuF; rw [if_neg (fun z => z h32), if_neg (fun z => z d2), if_neg d3]
        have e2 : nuW (gS l s) p = gS l s (p + 1) - 48 := by unfold nuW; rw [if_neg (fun z => z.elim (fun y => y h32) (fun y => y d2)), if_neg d3]
        rw [e, e2]
        exact ⟨rfl, o3.rdx, (hυ.2.uI rfl).tr hω.2.1, fun _ => n3⟩
      · skip
        have d3 : dg (gS l s (p + 2)) := h50
        have i3 := gS_in (l := l) (s := s) (p := p + 2) (by have z := d3; unfold dg at z; omega)
        refine A_bipush (pc := 53) dX2_readNumber_53 (by decide) ?_
        refine A_iload_n (pc := 55) dX2_readNumber_55 rfl rfl ?_
        refine A_imul (pc := 56) dX2_readNumber_56 ?_
        refine A_aload_n (pc := 57) dX2_readNumber_57 rfl rfl ?_
        refine A_callVe (pc := 58) kX2_158 rfl rfl (c_X2_takeDigit o3 i3.2) dX2_readNumber_58 rfl rfl (Nat.le_of_ble_eq_true rfl) (Nat.le_of_ble_eq_true rfl) (fun χ hχ => ?_)
        refine A_iadd (pc := 61) dX2_readNumber_61 ?_
        refine A_goto (pc := 62) 66 dX2_readNumber_62 (by decide) ?_
        refine A_iret (pc := 66) rfl dX2_readNumber_66 ?_
        have e : nuF (gS l s) p = (true, p + 3) := by unfold nuF; rw [if_neg (fun z => z h32), if_neg (fun z => z d2), if_pos d3]
        have e2 : nuW (gS l s) p = 10 * (gS l s (p + 1) - 48) + (gS l s (p + 2) - 48) := by unfold nuW; rw [if_neg (fun z => z.elim (fun y => y h32) (fun y => y d2)), if_pos d3]
        have o4 : OkX l s (p + 3) χ := by have z := hχ.1; rw [show p + 2 + 1 = p + 3 by omega] at z; exact z
        rw [e, e2]
        exact ⟨rfl, o4.rdx, ((hυ.2.uI rfl).tr hω.2.1).tr hχ.2.1, fun _ => hχ.2.2.trans n3⟩
    · skip
      refine A_aload_n (pc := 31) dX2_readNumber_31 rfl rfl ?_
      refine A_aload_n (pc := 32) dX2_readNumber_32 rfl rfl ?_
      refine A_getIv (pc := 33) fX2_29 rfl rfl o2.2.2.2 dX2_readNumber_33 ?_
      refine A_putI (pc := 36) fX2_18 wr_1_1 rfl rfl dX2_readNumber_36 ?_
      refine A_iconst (pc := 39) dX2_readNumber_39 ?_
      refine A_iret (pc := 40) rfl dX2_readNumber_40 ?_
      have d2 : ¬ dg (gS l s (p + 1)) := h28
      have e : nuF (gS l s) p = (false, p + 1) := by unfold nuF; rw [if_neg (fun z => z h32), if_pos d2]
      have e2 : nuW (gS l s) p = 0 := by unfold nuW; rw [if_pos (Or.inr d2)]
      rw [e, e2]
      exact ⟨rfl, (o2.bad o2.2.1.1 o2.2.1.2).rdx, (hυ.2.uI rfl).uI rfl, fun z => absurd z Bool.false_ne_true⟩
  · skip
    have hk := fltV_bad h11
    have h32 : gS l s p ≠ 32 := fun z => by unfold isF at hk; rw [if_pos z] at hk; exact absurd hk.symm Bool.false_ne_true
    refine A_iconst (pc := 14) dX2_readNumber_14 ?_
    refine A_iret (pc := 15) rfl dX2_readNumber_15 ?_
    have e : nuF (gS l s) p = (false, p) := by unfold nuF; rw [if_pos h32]
    have e2 : nuW (gS l s) p = 0 := by unfold nuW; rw [if_pos (Or.inl h32)]
    have e3 : isF (gS l s) 32 p = (false, p) := by unfold isF; rw [if_neg h32]
    rw [e3] at hυ
    rw [e, e2]
    exact ⟨rfl, hυ.1, hυ.2, fun z => absurd z Bool.false_ne_true⟩
set_option maxRecDepth 20000 in
theorem c_X2_readNumber_bad {G : Gl} {d : Nat} {σ : Sg} {l : Nat → Int} {s : Int} {f : Int} (h : BadX l s f σ) : CT G (d + 2) yX2_readNumber cX2_readNumber 2 (some .int) [.ref (gA G 3)] σ (RE (some (.int (iI 0))) (fun υ => RdX l s (false, f) υ ∧ Fr S3 σ υ ∧ (((false, f) : Rd).1 = true → υ.1 3 5 = f + 1))) := by
  refine CT.of (by decide +kernel) (Nat.le_of_ble_eq_true rfl) ?_
  change AW G _ RX2 _ _ _ 0 [(0, .ref (gA G 3))] [] _ _
  refine A_aload_n (pc := 0) dX2_readNumber_0 rfl rfl ?_
  refine A_bipush (pc := 1) dX2_readNumber_1 (by decide) ?_
  refine A_callVe0 (pc := 3) kX2_55 rfl rfl (c_X2_expect_bad h) dX2_readNumber_3 rfl rfl (Nat.le_of_ble_eq_true rfl) (Nat.le_of_ble_eq_true rfl) (fun υ hυ => ?_)
  have fr := fltV_rng hυ.1
  refine A_aload_n (pc := 6) dX2_readNumber_6 rfl rfl ?_
  refine A_getIv (pc := 7) fX2_18 rfl rfl hυ.1.flt dX2_readNumber_7 ?_
  refine A_iconst (pc := 10) dX2_readNumber_10 ?_
  refine A_icmp_eq (pc := 11) 16 dX2_readNumber_11 (by decide) (by omega) (by omega) (by omega) (by omega) (fun h11 => ?_) (fun h11 => ?_)
  · skip
    exact absurd (fltV_ok hυ.1 h11) Bool.false_ne_true
  · skip
    refine A_iconst (pc := 14) dX2_readNumber_14 ?_
    refine A_iret (pc := 15) rfl dX2_readNumber_15 ?_
    exact ⟨rfl, hυ.1, hυ.2, fun z => absurd z Bool.false_ne_true⟩
theorem c_X2_readNumber {G : Gl} {d : Nat} {σ : Sg} {l : Nat → Int} {s : Int} {r : Rd} (h : RdX l s r σ) : CT G (d + 2) yX2_readNumber cX2_readNumber 2 (some .int) [.ref (gA G 3)] σ (RE (some (.int (iI (nuV (gS l s) r)))) (fun υ => RdX l s (thn r (nuF (gS l s))) υ ∧ Fr S3 σ υ ∧ ((thn r (nuF (gS l s))).1 = true → υ.1 3 5 = r.2 + 1))) := by
  obtain ⟨b, p⟩ := r
  cases b
  · exact c_X2_readNumber_bad (h.badx rfl)
  · exact c_X2_readNumber_ok (h.okx rfl)
theorem dX2_allow_0 : decode cX2_allow 0 = .ok (.aload_n 0, 1) := by decide +kernel
theorem dX2_allow_1 : decode cX2_allow 1 = .ok (.getfield 18, 3) := by decide +kernel
theorem dX2_allow_4 : decode cX2_allow 4 = .ok (.iconst (-1), 1) := by decide +kernel
theorem dX2_allow_5 : decode cX2_allow 5 = .ok (.if_icmp .ne 15, 3) := by decide +kernel
theorem dX2_allow_8 : decode cX2_allow 8 = .ok (.iload_n 1, 1) := by decide +kernel
theorem dX2_allow_9 : decode cX2_allow 9 = .ok (.ifCond .ne 11, 3) := by decide +kernel
theorem dX2_allow_12 : decode cX2_allow 12 = .ok (.aload_n 0, 1) := by decide +kernel
theorem dX2_allow_13 : decode cX2_allow 13 = .ok (.aload_n 0, 1) := by decide +kernel
theorem dX2_allow_14 : decode cX2_allow 14 = .ok (.getfield 32, 3) := by decide +kernel
theorem dX2_allow_17 : decode cX2_allow 17 = .ok (.putfield 18, 3) := by decide +kernel
theorem dX2_allow_20 : decode cX2_allow 20 = .ok (.return_, 1) := by decide +kernel
set_option maxRecDepth 20000 in
theorem c_X2_allow {G : Gl} {d : Nat} {σ : Sg} {l : Nat → Int} {s : Int} {r : Rd} (h : RdX l s r σ) {np v : Int} {P : Prop} [Decidable P] (hn : r.1 = true → σ.1 3 5 = np) (n1 : 0 ≤ np) (n2 : r.1 = true → np ≤ s) (hv : v = bI P) : CT G d yX2_allow cX2_allow 2 none [.ref (gA G 3), .int (iI v)] σ (RE none (fun υ => RdX l s (if r.1 = true ∧ ¬ P then (false, np) else r) υ ∧ Fr S3 σ υ)) := by
  refine CT.of (by decide +kernel) (Nat.le_of_ble_eq_true rfl) ?_
  change AW G _ RX2 _ _ _ 0 [(0, .ref (gA G 3)), (1, .int (iI v))] [] _ _
  have fr := fltV_rng h
  have vr := bI_rng P
  refine A_aload_n (pc := 0) dX2_allow_0 rfl rfl ?_
  refine A_getIv (pc := 1) fX2_18 rfl rfl h.flt dX2_allow_1 ?_
  refine A_iconst (pc := 4) dX2_allow_4 ?_
  refine A_icmp_ne (pc := 5) 20 dX2_allow_5 (by decide) (by omega) (by omega) (by omega) (by omega) (fun h5 => ?_) (fun h5 => ?_)
  · skip
    refine A_vret (pc := 20) rfl dX2_allow_20 ?_
    rw [if_neg (fun z => absurd z.1 (by rw [fltV_bad h5]; decide))]
    exact ⟨rfl, h, Fr.rf⟩
  · skip
    refine A_iload_n (pc := 8) dX2_allow_8 rfl rfl ?_
    refine A_if_ne (pc := 9) 20 dX2_allow_9 (by decide) (by omega) (by omega) (fun h9 => ?_) (fun h9 => ?_)
    · skip
      refine A_vret (pc := 20) rfl dX2_allow_20 ?_
      have hP : P := by
        rcases bI_or P with z | z
        · exact z.1
        · exact absurd (hv.trans z.2) h9
      rw [if_neg (fun z => z.2 hP)]
      exact ⟨rfl, h, Fr.rf⟩
    · skip
      refine A_aload_n (pc := 12) dX2_allow_12 rfl rfl ?_
      refine A_aload_n (pc := 13) dX2_allow_13 rfl rfl ?_
      refine A_getIv (pc := 14) fX2_32 rfl rfl (hn (fltV_ok h h5)) dX2_allow_14 ?_
      refine A_putI (pc := 17) fX2_18 wr_1_1 rfl rfl dX2_allow_17 ?_
      refine A_vret (pc := 20) rfl dX2_allow_20 ?_
      have hP : ¬ P := fun z => by rw [hv, bI_t z] at h9; omega
      rw [if_pos ⟨fltV_ok h h5, hP⟩]
      exact ⟨rfl, ((h.okx (fltV_ok h h5)).bad n1 (n2 (fltV_ok h h5))).rdx, Fr.rf.uI rfl⟩
