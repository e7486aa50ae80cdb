/-! PART 40: what a pane does: the bodies run; both -/
def mkT (c : Int × (Nat → Int)) (b : Int) : Int × (Nat → Int) := (c.1 + 1, fun i => if (i : Int) = c.1 then b else c.2 i)
theorem mkT0 {c : Int × (Nat → Int)} {b : Int} (h : 0 ≤ c.1) : 0 ≤ (mkT c b).1 := by show 0 ≤ c.1 + 1; omega
theorem mkT1 {c : Int × (Nat → Int)} {b m : Int} (h : c.1 + 1 ≤ m) : (mkT c b).1 ≤ m := h
def xrI (u v : Int) : Int := (iI u ^^^ iI v).toInt
theorem xrI_iI (u v : Int) : iI u ^^^ iI v = iI (xrI u v) := (iI_of _).symm
def vb10 (n a x : Int) (c : Int × (Nat → Int)) : Int × (Int × (Nat → Int)) := (x + n, mkT c 10)
def vb20 (n a x : Int) (c : Int × (Nat → Int)) : Int × (Int × (Nat → Int)) := ((vb10 n a x (mkT c 20)).1 + a, (vb10 n a x (mkT c 20)).2)
def vb40 (n a x : Int) (c : Int × (Nat → Int)) : Int × (Int × (Nat → Int)) := vb20 n a (x + 1) (mkT c 40)
def vb51 (n a x : Int) (c : Int × (Nat → Int)) : Int × (Int × (Nat → Int)) := ((vb10 n a x (mkT c 51)).1 - n, (vb10 n a x (mkT c 51)).2)
def vb70 (n a x : Int) (c : Int × (Nat → Int)) : Int × (Int × (Nat → Int)) := ((vb10 n a x (mkT c 70)).1 * 2, (vb10 n a x (mkT c 70)).2)
def vOp (n a K x : Int) (c : Int × (Nat → Int)) : Int × (Int × (Nat → Int)) := if K = 1 then vb20 n a x c else if K = 3 then vb40 n a x c else if K = 4 ∨ K = 5 then vb51 n a x c else if K = 6 then vb70 n a x c else vb10 n a x c
def vb11 (n a K x : Int) (c : Int × (Nat → Int)) : Int × (Int × (Nat → Int)) := ((vOp n a K x (mkT c 11)).1 * 2, (vOp n a K x (mkT c 11)).2)
def vb30 (n a K x : Int) (c : Int × (Nat → Int)) : Int × (Int × (Nat → Int)) := ((vb11 n a K x (mkT c 30)).1 * 3, (vb11 n a K x (mkT c 30)).2)
def vb71 (n a K x : Int) (c : Int × (Nat → Int)) : Int × (Int × (Nat → Int)) := vb30 n a K (x - a) (mkT c 71)
def vSh (n a K k x : Int) (c : Int × (Nat → Int)) : Int × (Int × (Nat → Int)) := if k = 2 then vb30 n a K x c else if k = 6 then vb71 n a K x c else vb11 n a K x c
def vb12 (n a K x : Int) (c : Int × (Nat → Int)) : Int × (Int × (Nat → Int)) := (xrI (vSh n a K K x (mkT c 12)).1 (vOp n a K (x - a) (vSh n a K K x (mkT c 12)).2).1, (vOp n a K (x - a) (vSh n a K K x (mkT c 12)).2).2)
def vb50 (n a K x : Int) (c : Int × (Nat → Int)) : Int × (Int × (Nat → Int)) := (-(vb12 n a K x (mkT c 50)).1, (vb12 n a K x (mkT c 50)).2)
def vb60 (n a K x : Int) (c : Int × (Nat → Int)) : Int × (Int × (Nat → Int)) := (xrI (vb50 n a K x (mkT c 60)).1 5, (vb50 n a K x (mkT c 60)).2)
def vSi (n a K k x : Int) (c : Int × (Nat → Int)) : Int × (Int × (Nat → Int)) := if k = 4 then vb50 n a K x c else if k = 5 then vb60 n a K x c else vb12 n a K x c
def vMv (n a K m x : Int) (c : Int × (Nat → Int)) : Int × (Int × (Nat → Int)) := if m = 0 then vOp n a K x c else if m = 1 then vSh n a K K x c else vSi n a K K x c
theorem vOp_c (n a K x : Int) (c : Int × (Nat → Int)) : c.1 ≤ (vOp n a K x c).2.1 ∧ (vOp n a K x c).2.1 ≤ c.1 + 3 := by
  unfold vOp
  (repeat' split) <;> simp only [vb20, vb40, vb51, vb70, vb10, mkT] <;> omega
theorem vb11_c (n a K x : Int) (c : Int × (Nat → Int)) : c.1 ≤ (vb11 n a K x c).2.1 ∧ (vb11 n a K x c).2.1 ≤ c.1 + 4 := by
  have h := vOp_c n a K x (mkT c 11)
  have e : (mkT c 11).1 = c.1 + 1 := rfl
  show c.1 ≤ (vOp n a K x (mkT c 11)).2.1 ∧ (vOp n a K x (mkT c 11)).2.1 ≤ _
  omega
theorem vb30_c (n a K x : Int) (c : Int × (Nat → Int)) : c.1 ≤ (vb30 n a K x c).2.1 ∧ (vb30 n a K x c).2.1 ≤ c.1 + 5 := by
  have h := vb11_c n a K x (mkT c 30)
  have e : (mkT c 30).1 = c.1 + 1 := rfl
  show c.1 ≤ (vb11 n a K x (mkT c 30)).2.1 ∧ (vb11 n a K x (mkT c 30)).2.1 ≤ _
  omega
theorem vSh_c (n a K k x : Int) (c : Int × (Nat → Int)) : c.1 ≤ (vSh n a K k x c).2.1 ∧ (vSh n a K k x c).2.1 ≤ c.1 + 6 := by
  have h1 := vb30_c n a K x c
  have h2 := vb11_c n a K x c
  have h3 : c.1 + 1 ≤ (vb71 n a K x c).2.1 ∧ (vb71 n a K x c).2.1 ≤ c.1 + 1 + 5 := vb30_c n a K (x - a) (mkT c 71)
  unfold vSh
  (repeat' split) <;> omega
theorem vb12_c (n a K x : Int) (c : Int × (Nat → Int)) : c.1 ≤ (vb12 n a K x c).2.1 ∧ (vb12 n a K x c).2.1 ≤ c.1 + 10 := by
  have h1 := vSh_c n a K K x (mkT c 12)
  have e : (mkT c 12).1 = c.1 + 1 := rfl
  have h2 := vOp_c n a K (x - a) (vSh n a K K x (mkT c 12)).2
  show c.1 ≤ (vOp n a K (x - a) (vSh n a K K x (mkT c 12)).2).2.1 ∧ (vOp n a K (x - a) (vSh n a K K x (mkT c 12)).2).2.1 ≤ _
  omega
theorem vMv_c (n a K m x : Int) (c : Int × (Nat → Int)) : c.1 ≤ (vMv n a K m x c).2.1 ∧ (vMv n a K m x c).2.1 ≤ c.1 + 12 := by
  have h1 := vOp_c n a K x c
  have h2 := vSh_c n a K K x c
  have h3 := vb12_c n a K x c
  have h4 : c.1 + 1 ≤ (vb50 n a K x c).2.1 ∧ (vb50 n a K x c).2.1 ≤ c.1 + 1 + 10 := vb12_c n a K x (mkT c 50)
  have h5 : c.1 + 1 + 1 ≤ (vb60 n a K x c).2.1 ∧ (vb60 n a K x c).2.1 ≤ c.1 + 1 + 1 + 10 := vb12_c n a K x (mkT (mkT c 60) 50)
  unfold vMv vSi
  (repeat' split) <;> omega
/-- the body of a move that a kind has, or the next above -/
def bdG (m : Int) : Nat → Int → Int
  | 0, _ => -1
  | n + 1, k => if ¬ (0 ≤ k ∧ k < 7) ∨ ¬ (0 ≤ m ∧ m < 3) then -1 else if fBo.getD (3 * k + m).toNat 0 ≠ -1 then fBo.getD (3 * k + m).toNat 0 else bdG m n (abX k)
theorem fBo_rng : ∀ j, j < 21 → -1 ≤ fBo.getD j 0 ∧ fBo.getD j 0 ≤ 71 := by decide
/-- the class's moves -/
def MvX (n K a : Int) (c : Int × (Nat → Int)) (σ : Sg) : Prop := σ.1 12 0 = c.1 ∧ (∀ i : Nat, i < 20 → (i : Int) < c.1 → σ.1 13 i = c.2 i) ∧ σ.1 12 2 = n ∧ σ.1 12 3 = K ∧ σ.1 12 4 = a
def S13 : Nat → Prop := fun a => a = 12 ∨ a = 13
/-- the reference's -/
def MvM (p : Nat) (K a : Int) (c : Int × (Nat → Int)) (σ : Sg) : Prop := σ.1 54 20 = c.1 ∧ (∀ i : Nat, i < 20 → (i : Int) < c.1 → σ.1 69 i = c.2 i) ∧ σ.1 55 p = K ∧ σ.1 56 p = a
def FrT (σ υ : Sg) : Prop := Fr (fun a => a = 54 ∨ a = 69) σ υ ∧ ∀ k, k ≠ 20 → υ.1 54 k = σ.1 54 k
theorem FrT.tr {σ υ ω : Sg} (h1 : FrT σ υ) (h2 : FrT υ ω) : FrT σ ω := ⟨h1.1.tr h2.1, fun k hk => (h2.2 k hk).trans (h1.2 k hk)⟩
theorem dX1_forget_0 : decode cX1_forget 0 = .ok (.aload_n 0, 1) := by decide +kernel
theorem dX1_forget_1 : decode cX1_forget 1 = .ok (.iconst 0, 1) := by decide +kernel
theorem dX1_forget_2 : decode cX1_forget 2 = .ok (.putfield 9, 3) := by decide +kernel
theorem dX1_forget_5 : decode cX1_forget 5 = .ok (.return_, 1) := by decide +kernel
set_option maxRecDepth 20000 in
theorem c_X1_forget {G : Gl} {d : Nat} {σ : Sg}  : CT G d yX1_forget cX1_forget 1 none [.ref (gA G 12)] σ (R0 (uI σ 12 0 0)) := by
  refine CT.of (by decide +kernel) (Nat.le_of_ble_eq_true rfl) ?_
  change AW G _ RX1 _ _ _ 0 [(0, .ref (gA G 12))] [] _ _
  refine A_aload_n (pc := 0) dX1_forget_0 rfl rfl ?_
  refine A_iconst (pc := 1) dX1_forget_1 ?_
  refine A_putI (pc := 2) fX1_9 wr_0_0 rfl rfl dX1_forget_2 ?_
  refine A_vret (pc := 5) rfl dX1_forget_5 ?_
  exact ⟨rfl, rfl⟩
theorem dX1_bodyOf_0 : decode cX1_bodyOf 0 = .ok (.iload_n 0, 1) := by decide +kernel
theorem dX1_bodyOf_1 : decode cX1_bodyOf 1 = .ok (.istore_n 2, 1) := by decide +kernel
theorem dX1_bodyOf_2 : decode cX1_bodyOf 2 = .ok (.iconst 0, 1) := by decide +kernel
theorem dX1_bodyOf_3 : decode cX1_bodyOf 3 = .ok (.istore_n 3, 1) := by decide +kernel
theorem dX1_bodyOf_4 : decode cX1_bodyOf 4 = .ok (.iload_n 3, 1) := by decide +kernel
theorem dX1_bodyOf_5 : decode cX1_bodyOf 5 = .ok (.bipush 7, 2) := by decide +kernel
theorem dX1_bodyOf_7 : decode cX1_bodyOf 7 = .ok (.if_icmp .ge 48, 3) := by decide +kernel
theorem dX1_bodyOf_10 : decode cX1_bodyOf 10 = .ok (.iload_n 2, 1) := by decide +kernel
theorem dX1_bodyOf_11 : decode cX1_bodyOf 11 = .ok (.invokestatic 44, 3) := by decide +kernel
theorem dX1_bodyOf_14 : decode cX1_bodyOf 14 = .ok (.ifCond .eq 41, 3) := by decide +kernel
theorem dX1_bodyOf_17 : decode cX1_bodyOf 17 = .ok (.iload_n 1, 1) := by decide +kernel
theorem dX1_bodyOf_18 : decode cX1_bodyOf 18 = .ok (.invokestatic 48, 3) := by decide +kernel
theorem dX1_bodyOf_21 : decode cX1_bodyOf 21 = .ok (.ifCond .eq 34, 3) := by decide +kernel
theorem dX1_bodyOf_24 : decode cX1_bodyOf 24 = .ok (.getstatic 51, 3) := by decide +kernel
theorem dX1_bodyOf_27 : decode cX1_bodyOf 27 = .ok (.iload_n 2, 1) := by decide +kernel
theorem dX1_bodyOf_28 : decode cX1_bodyOf 28 = .ok (.iconst 3, 1) := by decide +kernel
theorem dX1_bodyOf_29 : decode cX1_bodyOf 29 = .ok (.imul, 1) := by decide +kernel
theorem dX1_bodyOf_30 : decode cX1_bodyOf 30 = .ok (.iload_n 1, 1) := by decide +kernel
theorem dX1_bodyOf_31 : decode cX1_bodyOf 31 = .ok (.iadd, 1) := by decide +kernel
theorem dX1_bodyOf_32 : decode cX1_bodyOf 32 = .ok (.iaload, 1) := by decide +kernel
theorem dX1_bodyOf_33 : decode cX1_bodyOf 33 = .ok (.istore 4, 2) := by decide +kernel
theorem dX1_bodyOf_35 : decode cX1_bodyOf 35 = .ok (.iload 4, 2) := by decide +kernel
theorem dX1_bodyOf_37 : decode cX1_bodyOf 37 = .ok (.iconst (-1), 1) := by decide +kernel
theorem dX1_bodyOf_38 : decode cX1_bodyOf 38 = .ok (.if_icmp .eq 6, 3) := by decide +kernel
theorem dX1_bodyOf_41 : decode cX1_bodyOf 41 = .ok (.iload 4, 2) := by decide +kernel
theorem dX1_bodyOf_43 : decode cX1_bodyOf 43 = .ok (.ireturn, 1) := by decide +kernel
theorem dX1_bodyOf_44 : decode cX1_bodyOf 44 = .ok (.iload_n 2, 1) := by decide +kernel
theorem dX1_bodyOf_45 : decode cX1_bodyOf 45 = .ok (.invokestatic 40, 3) := by decide +kernel
theorem dX1_bodyOf_48 : decode cX1_bodyOf 48 = .ok (.istore_n 2, 1) := by decide +kernel
theorem dX1_bodyOf_49 : decode cX1_bodyOf 49 = .ok (.iinc 3 1, 3) := by decide +kernel
theorem dX1_bodyOf_52 : decode cX1_bodyOf 52 = .ok (.goto (-48), 3) := by decide +kernel
theorem dX1_bodyOf_55 : decode cX1_bodyOf 55 = .ok (.iconst (-1), 1) := by decide +kernel
theorem dX1_bodyOf_56 : decode cX1_bodyOf 56 = .ok (.ireturn, 1) := by decide +kernel
set_option maxRecDepth 20000 in
theorem l_X1_bodyOf {G : Gl} {d : Nat} {σ : Sg} {K : Option Value → Sg → Prop} {m : Int} (hm1 : -2147483648 ≤ m) (hm2 : m < 2147483648) : ∀ (n : Nat) (k i : Int), 0 ≤ i → i + n = 7 → -1 ≤ k → k < 7 → K (some (.int (iI (bdG m n k)))) σ → AW G (d + 2) RX1 cX1_bodyOf 5 (some .int) 4 [(1, .int (iI m)), (2, .int (iI k)), (3, .int (iI i))] [] σ K := by
  intro n
  induction n using Nat.strongRecOn
  rename_i n ih
  intro k i i1 hn k1 k2 hK
  refine A_iload_n (pc := 4) dX1_bodyOf_4 rfl rfl ?_
  refine A_bipush (pc := 5) dX1_bodyOf_5 (by decide) ?_
  refine A_icmp_ge (pc := 7) 55 dX1_bodyOf_7 (by decide) (by omega) (by omega) (by omega) (by omega) (fun h7 => ?_) (fun h7 => ?_)
  · skip
    refine A_iconst (pc := 55) dX1_bodyOf_55 ?_
    refine A_iret (pc := 56) rfl dX1_bodyOf_56 ?_
    have hn0 : n = 0 := by omega
    subst hn0
    exact hK
  · skip
    refine A_iload_n (pc := 10) dX1_bodyOf_10 rfl rfl ?_
    refine A_callN1 (pc := 11) lbX8_isKind stX8_isKind (List.mem_of_getElem? (i := 2) rfl) (c_X8_isKind (by omega) (by omega)) dX1_bodyOf_11 rfl rfl (Nat.le_of_ble_eq_true rfl) (Nat.le_of_ble_eq_true rfl) ?_
    refine A_ifb_eq (pc := 14) 55 dX1_bodyOf_14 (by decide) (fun h14 => ?_) (fun h14 => ?_)
    · skip
      refine A_iconst (pc := 55) dX1_bodyOf_55 ?_
      refine A_iret (pc := 56) rfl dX1_bodyOf_56 ?_
      obtain ⟨u, rfl⟩ : ∃ u, n = u + 1 := ⟨n - 1, by omega⟩
      rw [bdG, if_pos (by omega)] at hK
      exact hK
    · skip
      refine A_iload_n (pc := 17) dX1_bodyOf_17 rfl rfl ?_
      refine A_callS1 (pc := 18) kX1_48 (c_X1_isMove (by omega) (by omega)) dX1_bodyOf_18 rfl rfl (Nat.le_of_ble_eq_true rfl) (Nat.le_of_ble_eq_true rfl) ?_
      refine A_ifb_eq (pc := 21) 55 dX1_bodyOf_21 (by decide) (fun h21 => ?_) (fun h21 => ?_)
      · skip
        refine A_iconst (pc := 55) dX1_bodyOf_55 ?_
        refine A_iret (pc := 56) rfl dX1_bodyOf_56 ?_
        obtain ⟨u, rfl⟩ : ∃ u, n = u + 1 := ⟨n - 1, by omega⟩
        rw [bdG, if_pos (by omega)] at hK
        exact hK
      · skip
        have hk8 : 0 ≤ k ∧ k < 7 := h14
        have hm3 : 0 ≤ m ∧ m < 3 := h21
        have hf := fBo_rng (3 * k + m).toNat (by omega)
        obtain ⟨u, rfl⟩ : ∃ u, n = u + 1 := ⟨n - 1, by omega⟩
        rw [bdG, if_neg (by omega)] at hK
        refine A_getsB (pc := 24) fsX1_51 dX1_bodyOf_24 ?_
        refine A_iload_n (pc := 27) dX1_bodyOf_27 rfl rfl ?_
        refine A_iconst (pc := 28) dX1_bodyOf_28 ?_
        refine A_imul (pc := 29) dX1_bodyOf_29 ?_
        refine A_iload_n (pc := 30) dX1_bodyOf_30 rfl rfl ?_
        refine A_iadd (pc := 31) dX1_bodyOf_31 ?_
        refine A_taldB (pc := 32) (3 * k + m).toNat (by omega) (by omega) dX1_bodyOf_32 ?_
        refine A_istore (pc := 33) dX1_bodyOf_33 (Nat.le_of_ble_eq_true rfl) ?_
        refine A_iload (pc := 35) dX1_bodyOf_35 rfl ?_
        refine A_iconst (pc := 37) dX1_bodyOf_37 ?_
        refine A_icmp_eq (pc := 38) 44 dX1_bodyOf_38 (by decide) (by omega) (by omega) (by omega) (by omega) (fun h38 => ?_) (fun h38 => ?_)
        · skip
          have hr := abX_rng k
          refine A_iload_n (pc := 44) dX1_bodyOf_44 rfl rfl ?_
          refine A_callN1 (pc := 45) lbX8_above stX8_above (List.mem_of_getElem? (i := 3) rfl) (c_X8_above (by omega) (by omega)) dX1_bodyOf_45 rfl rfl (Nat.le_of_ble_eq_true rfl) (Nat.le_of_ble_eq_true rfl) ?_
          refine A_istore_n (pc := 48) dX1_bodyOf_48 rfl (Nat.le_of_ble_eq_true rfl) ?_
          refine A_iinc (pc := 49) dX1_bodyOf_49 rfl (Nat.le_of_ble_eq_true rfl) ?_
          refine A_goto (pc := 52) 4 dX1_bodyOf_52 (by decide) ?_
          refine A_loc (l2 := [(1, _), (2, _), (3, _)]) ⟨rfl, rfl, rfl, trivial⟩ ?_
          refine ih u (by omega) _ _ (by omega) (by omega) hr.1 hr.2 ?_
          rw [if_neg (by omega)] at hK
          exact hK
        · skip
          refine A_iload (pc := 41) dX1_bodyOf_41 rfl ?_
          refine A_iret (pc := 43) rfl dX1_bodyOf_43 ?_
          rw [if_pos (by omega)] at hK
          exact hK
set_option maxRecDepth 20000 in
theorem c_X1_bodyOf {G : Gl} {d : Nat} {σ : Sg} {k m : Int} (k1 : -1 ≤ k) (k2 : k < 7) (m1 : 0 ≤ m) (m2 : m < 3) : CT G (d + 2) yX1_bodyOf cX1_bodyOf 5 (some .int) [.int (iI k), .int (iI m)] σ (R1 (.int (iI (bdG m 7 k))) σ) := by
  refine CT.of (by decide +kernel) (Nat.le_of_ble_eq_true rfl) ?_
  change AW G _ RX1 _ _ _ 0 [(0, .int (iI k)), (1, .int (iI m))] [] _ _
  refine A_iload_n (pc := 0) dX1_bodyOf_0 rfl rfl ?_
  refine A_istore_n (pc := 1) dX1_bodyOf_1 rfl (Nat.le_of_ble_eq_true rfl) ?_
  refine A_iconst (pc := 2) dX1_bodyOf_2 ?_
  refine A_istore_n (pc := 3) dX1_bodyOf_3 rfl (Nat.le_of_ble_eq_true rfl) ?_
  refine A_loc (l2 := [(1, _), (2, _), (3, _)]) ⟨rfl, rfl, rfl, trivial⟩ ?_
  exact l_X1_bodyOf (by omega) (by omega) 7 k 0 (by omega) (by omega) (by omega) (by omega) ⟨rfl, rfl⟩
theorem dX1_note_0 : decode cX1_note 0 = .ok (.aload_n 0, 1) := by decide +kernel
theorem dX1_note_1 : decode cX1_note 1 = .ok (.getfield 9, 3) := by decide +kernel
theorem dX1_note_4 : decode cX1_note 4 = .ok (.ifCond .lt 22, 3) := by decide +kernel
theorem dX1_note_7 : decode cX1_note 7 = .ok (.aload_n 0, 1) := by decide +kernel
theorem dX1_note_8 : decode cX1_note 8 = .ok (.getfield 9, 3) := by decide +kernel
theorem dX1_note_11 : decode cX1_note 11 = .ok (.bipush 20, 2) := by decide +kernel
theorem dX1_note_13 : decode cX1_note 13 = .ok (.if_icmp .ge 13, 3) := by decide +kernel
theorem dX1_note_16 : decode cX1_note 16 = .ok (.aload_n 0, 1) := by decide +kernel
theorem dX1_note_17 : decode cX1_note 17 = .ok (.getfield 15, 3) := by decide +kernel
theorem dX1_note_20 : decode cX1_note 20 = .ok (.aload_n 0, 1) := by decide +kernel
theorem dX1_note_21 : decode cX1_note 21 = .ok (.getfield 9, 3) := by decide +kernel
theorem dX1_note_24 : decode cX1_note 24 = .ok (.iload_n 1, 1) := by decide +kernel
theorem dX1_note_25 : decode cX1_note 25 = .ok (.iastore, 1) := by decide +kernel
theorem dX1_note_26 : decode cX1_note 26 = .ok (.aload_n 0, 1) := by decide +kernel
theorem dX1_note_27 : decode cX1_note 27 = .ok (.dup, 1) := by decide +kernel
theorem dX1_note_28 : decode cX1_note 28 = .ok (.getfield 9, 3) := by decide +kernel
theorem dX1_note_31 : decode cX1_note 31 = .ok (.iconst 1, 1) := by decide +kernel
theorem dX1_note_32 : decode cX1_note 32 = .ok (.iadd, 1) := by decide +kernel
theorem dX1_note_33 : decode cX1_note 33 = .ok (.putfield 9, 3) := by decide +kernel
theorem dX1_note_36 : decode cX1_note 36 = .ok (.return_, 1) := by decide +kernel
set_option maxRecDepth 20000 in
theorem c_X1_note {G : Gl} {d : Nat} {σ : Sg} {n K a b : Int} {c : Int × (Nat → Int)} (hM : MvX n K a c σ) (c0 : 0 ≤ c.1) (c1 : c.1 ≤ 100) : CT G d yX1_note cX1_note 2 none [.ref (gA G 12), .int (iI b)] σ (RE none (fun υ => MvX n K a (mkT c b) υ ∧ Fr S13 σ υ)) := by
  refine CT.of (by decide +kernel) (Nat.le_of_ble_eq_true rfl) ?_
  change AW G _ RX1 _ _ _ 0 [(0, .ref (gA G 12)), (1, .int (iI b))] [] _ _
  refine A_aload_n (pc := 0) dX1_note_0 rfl rfl ?_
  refine A_getIv (pc := 1) fX1_9 rfl rfl hM.1 dX1_note_1 ?_
  refine A_if_lt (pc := 4) 26 dX1_note_4 (by decide) (by omega) (by omega) (fun h4 => ?_) (fun h4 => ?_)
  · skip
    refine A_aload_n (pc := 26) dX1_note_26 rfl rfl ?_
    refine A_dup (pc := 27) dX1_note_27 rfl ?_
    refine A_getIv (pc := 28) fX1_9 rfl rfl (show _ = c.1 from by first | exact hM.1 | (rw [uI_at, if_neg (by omega)]; exact hM.1)) dX1_note_28 ?_
    refine A_iconst (pc := 31) dX1_note_31 ?_
    refine A_iadd (pc := 32) dX1_note_32 ?_
    refine A_putI (pc := 33) fX1_9 wr_0_0 rfl rfl dX1_note_33 ?_
    refine A_vret (pc := 36) rfl dX1_note_36 ?_
    exfalso; omega
  · skip
    refine A_aload_n (pc := 7) dX1_note_7 rfl rfl ?_
    refine A_getIv (pc := 8) fX1_9 rfl rfl hM.1 dX1_note_8 ?_
    refine A_bipush (pc := 11) dX1_note_11 (by decide) ?_
    refine A_icmp_ge (pc := 13) 26 dX1_note_13 (by decide) (by omega) (by omega) (by omega) (by omega) (fun h13 => ?_) (fun h13 => ?_)
    · skip
      refine A_aload_n (pc := 26) dX1_note_26 rfl rfl ?_
      refine A_dup (pc := 27) dX1_note_27 rfl ?_
      refine A_getIv (pc := 28) fX1_9 rfl rfl (show _ = c.1 from by first | exact hM.1 | (rw [uI_at, if_neg (by omega)]; exact hM.1)) dX1_note_28 ?_
      refine A_iconst (pc := 31) dX1_note_31 ?_
      refine A_iadd (pc := 32) dX1_note_32 ?_
      refine A_putI (pc := 33) fX1_9 wr_0_0 rfl rfl dX1_note_33 ?_
      refine A_vret (pc := 36) rfl dX1_note_36 ?_
      refine ⟨rfl, ⟨by rw [uI_at, if_pos ⟨rfl, rfl⟩]; rfl, fun i i1 i2 => ?_, hM.2.2.1, hM.2.2.2.1, hM.2.2.2.2⟩, Fr.rf.uI (Or.inl rfl)⟩
      have i3 : (i : Int) < c.1 + 1 := i2
      rw [uI_at, if_neg (by omega), hM.2.1 i i1 (by omega)]
      show _ = if (i : Int) = c.1 then b else c.2 i
      rw [if_neg (by omega)]
    · skip
      refine A_aload_n (pc := 16) dX1_note_16 rfl rfl ?_
      refine A_getR (pc := 17) fX1_15 rfl rfl dX1_note_17 ?_
      refine A_aload_n (pc := 20) dX1_note_20 rfl rfl ?_
      refine A_getIv (pc := 21) fX1_9 rfl rfl hM.1 dX1_note_21 ?_
      refine A_iload_n (pc := 24) dX1_note_24 rfl rfl ?_
      refine A_iast (pc := 25) c.1.toNat rfl (by omega) (by omega) (Nat.le_of_ble_eq_true rfl) dX1_note_25 ?_
      refine A_aload_n (pc := 26) dX1_note_26 rfl rfl ?_
      refine A_dup (pc := 27) dX1_note_27 rfl ?_
      refine A_getIv (pc := 28) fX1_9 rfl rfl (show _ = c.1 from by first | exact hM.1 | (rw [uI_at, if_neg (by omega)]; exact hM.1)) dX1_note_28 ?_
      refine A_iconst (pc := 31) dX1_note_31 ?_
      refine A_iadd (pc := 32) dX1_note_32 ?_
      refine A_putI (pc := 33) fX1_9 wr_0_0 rfl rfl dX1_note_33 ?_
      refine A_vret (pc := 36) rfl dX1_note_36 ?_
      refine ⟨rfl, ⟨by rw [uI_at, if_pos ⟨rfl, rfl⟩]; rfl, fun i i1 i2 => ?_, hM.2.2.1, hM.2.2.2.1, hM.2.2.2.2⟩, (Fr.rf.uI (Or.inr rfl)).uI (Or.inl rfl)⟩
      have i3 : (i : Int) < c.1 + 1 := i2
      rw [uI_at, if_neg (by omega), uI_at]
      show _ = if (i : Int) = c.1 then b else c.2 i
      by_cases e : (i : Int) = c.1
      · rw [if_pos ⟨rfl, by omega⟩, if_pos e]
      · rw [if_neg (by omega), if_neg e, hM.2.1 i i1 (by omega)]
theorem dX9_ran_0 : decode cX9_ran 0 = .ok (.aload_n 0, 1) := by decide +kernel
theorem dX9_ran_1 : decode cX9_ran 1 = .ok (.getfield 292, 3) := by decide +kernel
theorem dX9_ran_4 : decode cX9_ran 4 = .ok (.bipush 20, 2) := by decide +kernel
theorem dX9_ran_6 : decode cX9_ran 6 = .ok (.if_icmp .ge 13, 3) := by decide +kernel
theorem dX9_ran_9 : decode cX9_ran 9 = .ok (.aload_n 0, 1) := by decide +kernel
theorem dX9_ran_10 : decode cX9_ran 10 = .ok (.getfield 54, 3) := by decide +kernel
theorem dX9_ran_13 : decode cX9_ran 13 = .ok (.aload_n 0, 1) := by decide +kernel
theorem dX9_ran_14 : decode cX9_ran 14 = .ok (.getfield 292, 3) := by decide +kernel
theorem dX9_ran_17 : decode cX9_ran 17 = .ok (.iload_n 1, 1) := by decide +kernel
theorem dX9_ran_18 : decode cX9_ran 18 = .ok (.iastore, 1) := by decide +kernel
theorem dX9_ran_19 : decode cX9_ran 19 = .ok (.aload_n 0, 1) := by decide +kernel
theorem dX9_ran_20 : decode cX9_ran 20 = .ok (.dup, 1) := by decide +kernel
theorem dX9_ran_21 : decode cX9_ran 21 = .ok (.getfield 292, 3) := by decide +kernel
theorem dX9_ran_24 : decode cX9_ran 24 = .ok (.iconst 1, 1) := by decide +kernel
theorem dX9_ran_25 : decode cX9_ran 25 = .ok (.iadd, 1) := by decide +kernel
theorem dX9_ran_26 : decode cX9_ran 26 = .ok (.putfield 292, 3) := by decide +kernel
theorem dX9_ran_29 : decode cX9_ran 29 = .ok (.return_, 1) := by decide +kernel
set_option maxRecDepth 20000 in
theorem c_X9_ran {G : Gl} {d : Nat} {σ : Sg} {p : Nat} {K a b : Int} {c : Int × (Nat → Int)} (hM : MvM p K a c σ) (c0 : 0 ≤ c.1) (c1 : c.1 ≤ 100) : CT G d yX9_ran cX9_ran 2 none [.ref (gA G 54), .int (iI b)] σ (RE none (fun υ => MvM p K a (mkT c b) υ ∧ FrT σ υ)) := by
  refine CT.of (by decide +kernel) (Nat.le_of_ble_eq_true rfl) ?_
  change AW G _ RX9 _ _ _ 0 [(0, .ref (gA G 54)), (1, .int (iI b))] [] _ _
  refine A_aload_n (pc := 0) dX9_ran_0 rfl rfl ?_
  refine A_getIv (pc := 1) fX9_292 rfl rfl hM.1 dX9_ran_1 ?_
  refine A_bipush (pc := 4) dX9_ran_4 (by decide) ?_
  refine A_icmp_ge (pc := 6) 19 dX9_ran_6 (by decide) (by omega) (by omega) (by omega) (by omega) (fun h6 => ?_) (fun h6 => ?_)
  · skip
    refine A_aload_n (pc := 19) dX9_ran_19 rfl rfl ?_
    refine A_dup (pc := 20) dX9_ran_20 rfl ?_
    refine A_getIv (pc := 21) fX9_292 rfl rfl (show _ = c.1 from by first | exact hM.1 | (rw [uI_at, if_neg (by omega)]; exact hM.1)) dX9_ran_21 ?_
    refine A_iconst (pc := 24) dX9_ran_24 ?_
    refine A_iadd (pc := 25) dX9_ran_25 ?_
    refine A_putI (pc := 26) fX9_292 wr_8_20 rfl rfl dX9_ran_26 ?_
    refine A_vret (pc := 29) rfl dX9_ran_29 ?_
    refine ⟨rfl, ⟨by rw [uI_at, if_pos ⟨rfl, rfl⟩]; rfl, fun i i1 i2 => ?_, hM.2.2.1, hM.2.2.2⟩, Fr.rf.uI (Or.inl rfl), fun k hk => by rw [uI_at, if_neg (by omega)]⟩
    have i3 : (i : Int) < c.1 + 1 := i2
    rw [uI_at, if_neg (by omega), hM.2.1 i i1 (by omega)]
    show _ = if (i : Int) = c.1 then b else c.2 i
    rw [if_neg (by omega)]
  · skip
    refine A_aload_n (pc := 9) dX9_ran_9 rfl rfl ?_
    refine A_getR (pc := 10) fX9_54 rfl rfl dX9_ran_10 ?_
    refine A_aload_n (pc := 13) dX9_ran_13 rfl rfl ?_
    refine A_getIv (pc := 14) fX9_292 rfl rfl hM.1 dX9_ran_14 ?_
    refine A_iload_n (pc := 17) dX9_ran_17 rfl rfl ?_
    refine A_iast (pc := 18) c.1.toNat rfl (by omega) (by omega) (Nat.le_of_ble_eq_true rfl) dX9_ran_18 ?_
    refine A_aload_n (pc := 19) dX9_ran_19 rfl rfl ?_
    refine A_dup (pc := 20) dX9_ran_20 rfl ?_
    refine A_getIv (pc := 21) fX9_292 rfl rfl (show _ = c.1 from by first | exact hM.1 | (rw [uI_at, if_neg (by omega)]; exact hM.1)) dX9_ran_21 ?_
    refine A_iconst (pc := 24) dX9_ran_24 ?_
    refine A_iadd (pc := 25) dX9_ran_25 ?_
    refine A_putI (pc := 26) fX9_292 wr_8_20 rfl rfl dX9_ran_26 ?_
    refine A_vret (pc := 29) rfl dX9_ran_29 ?_
    refine ⟨rfl, ⟨by rw [uI_at, if_pos ⟨rfl, rfl⟩]; rfl, fun i i1 i2 => ?_, hM.2.2.1, hM.2.2.2⟩, (Fr.rf.uI (Or.inr rfl)).uI (Or.inl rfl), fun k hk => by rw [uI_at, if_neg (by omega), uI_at, if_neg (by omega)]⟩
    have i3 : (i : Int) < c.1 + 1 := i2
    rw [uI_at, if_neg (by omega), uI_at]
    show _ = if (i : Int) = c.1 then b else c.2 i
    by_cases e : (i : Int) = c.1
    · rw [if_pos ⟨rfl, by omega⟩, if_pos e]
    · rw [if_neg (by omega), if_neg e, hM.2.1 i i1 (by omega)]
theorem dX1_run_0 : decode cX1_run 0 = .ok (.iload_n 1, 1) := by decide +kernel
theorem dX1_run_1 : decode cX1_run 1 = .ok (.iload_n 2, 1) := by decide +kernel
theorem dX1_run_2 : decode cX1_run 2 = .ok (.invokestatic 32, 3) := by decide +kernel
theorem dX1_run_5 : decode cX1_run 5 = .ok (.istore 5, 2) := by decide +kernel
theorem dX1_run_7 : decode cX1_run 7 = .ok (.iload 5, 2) := by decide +kernel
theorem dX1_run_9 : decode cX1_run 9 = .ok (.iconst (-1), 1) := by decide +kernel
theorem dX1_run_10 : decode cX1_run 10 = .ok (.if_icmp .eq 10, 3) := by decide +kernel
theorem dX1_run_13 : decode cX1_run 13 = .ok (.iload 4, 2) := by decide +kernel
theorem dX1_run_15 : decode cX1_run 15 = .ok (.bipush 40, 2) := by decide +kernel
theorem dX1_run_17 : decode cX1_run 17 = .ok (.if_icmp .le 5, 3) := by decide +kernel
theorem dX1_run_20 : decode cX1_run 20 = .ok (.iconst 0, 1) := by decide +kernel
theorem dX1_run_21 : decode cX1_run 21 = .ok (.ireturn, 1) := by decide +kernel
theorem dX1_run_22 : decode cX1_run 22 = .ok (.aload_n 0, 1) := by decide +kernel
theorem dX1_run_23 : decode cX1_run 23 = .ok (.iload 5, 2) := by decide +kernel
theorem dX1_run_25 : decode cX1_run 25 = .ok (.invokevirtual 36, 3) := by decide +kernel
theorem dX1_run_28 : decode cX1_run 28 = .ok (.iload 4, 2) := by decide +kernel
theorem dX1_run_30 : decode cX1_run 30 = .ok (.iconst 1, 1) := by decide +kernel
theorem dX1_run_31 : decode cX1_run 31 = .ok (.iadd, 1) := by decide +kernel
theorem dX1_run_32 : decode cX1_run 32 = .ok (.istore 6, 2) := by decide +kernel
theorem dX1_run_34 : decode cX1_run 34 = .ok (.iload 5, 2) := by decide +kernel
theorem dX1_run_36 : decode cX1_run 36 = .ok (.lookupswitch 283 #[(10, 100), (11, 107), (12, 122), (20, 153), (30, 171), (40, 186), (50, 201), (51, 215), (60, 233), (70, 248), (71, 264)], 100) := by decide +kernel
theorem dX1_run_136 : decode cX1_run 136 = .ok (.iload_n 3, 1) := by decide +kernel
theorem dX1_run_137 : decode cX1_run 137 = .ok (.aload_n 0, 1) := by decide +kernel
theorem dX1_run_138 : decode cX1_run 138 = .ok (.getfield 19, 3) := by decide +kernel
theorem dX1_run_141 : decode cX1_run 141 = .ok (.iadd, 1) := by decide +kernel
theorem dX1_run_142 : decode cX1_run 142 = .ok (.ireturn, 1) := by decide +kernel
theorem dX1_run_143 : decode cX1_run 143 = .ok (.aload_n 0, 1) := by decide +kernel
theorem dX1_run_144 : decode cX1_run 144 = .ok (.aload_n 0, 1) := by decide +kernel
theorem dX1_run_145 : decode cX1_run 145 = .ok (.getfield 22, 3) := by decide +kernel
theorem dX1_run_148 : decode cX1_run 148 = .ok (.iconst 0, 1) := by decide +kernel
theorem dX1_run_149 : decode cX1_run 149 = .ok (.iload_n 3, 1) := by decide +kernel
theorem dX1_run_150 : decode cX1_run 150 = .ok (.iload 6, 2) := by decide +kernel
theorem dX1_run_152 : decode cX1_run 152 = .ok (.invokestatic 28, 3) := by decide +kernel
theorem dX1_run_155 : decode cX1_run 155 = .ok (.iconst 2, 1) := by decide +kernel
theorem dX1_run_156 : decode cX1_run 156 = .ok (.imul, 1) := by decide +kernel
theorem dX1_run_157 : decode cX1_run 157 = .ok (.ireturn, 1) := by decide +kernel
theorem dX1_run_158 : decode cX1_run 158 = .ok (.aload_n 0, 1) := by decide +kernel
theorem dX1_run_159 : decode cX1_run 159 = .ok (.aload_n 0, 1) := by decide +kernel
theorem dX1_run_160 : decode cX1_run 160 = .ok (.getfield 22, 3) := by decide +kernel
theorem dX1_run_163 : decode cX1_run 163 = .ok (.iconst 1, 1) := by decide +kernel
theorem dX1_run_164 : decode cX1_run 164 = .ok (.iload_n 3, 1) := by decide +kernel
theorem dX1_run_165 : decode cX1_run 165 = .ok (.iload 6, 2) := by decide +kernel
theorem dX1_run_167 : decode cX1_run 167 = .ok (.invokestatic 28, 3) := by decide +kernel
theorem dX1_run_170 : decode cX1_run 170 = .ok (.aload_n 0, 1) := by decide +kernel
theorem dX1_run_171 : decode cX1_run 171 = .ok (.aload_n 0, 1) := by decide +kernel
theorem dX1_run_172 : decode cX1_run 172 = .ok (.getfield 22, 3) := by decide +kernel
theorem dX1_run_175 : decode cX1_run 175 = .ok (.iconst 0, 1) := by decide +kernel
theorem dX1_run_176 : decode cX1_run 176 = .ok (.iload_n 3, 1) := by decide +kernel
theorem dX1_run_177 : decode cX1_run 177 = .ok (.aload_n 0, 1) := by decide +kernel
theorem dX1_run_178 : decode cX1_run 178 = .ok (.getfield 25, 3) := by decide +kernel
theorem dX1_run_181 : decode cX1_run 181 = .ok (.isub, 1) := by decide +kernel
theorem dX1_run_182 : decode cX1_run 182 = .ok (.iload 6, 2) := by decide +kernel
theorem dX1_run_184 : decode cX1_run 184 = .ok (.invokestatic 28, 3) := by decide +kernel
theorem dX1_run_187 : decode cX1_run 187 = .ok (.ixor, 1) := by decide +kernel
theorem dX1_run_188 : decode cX1_run 188 = .ok (.ireturn, 1) := by decide +kernel
theorem dX1_run_189 : decode cX1_run 189 = .ok (.aload_n 0, 1) := by decide +kernel
theorem dX1_run_190 : decode cX1_run 190 = .ok (.iconst 1, 1) := by decide +kernel
theorem dX1_run_191 : decode cX1_run 191 = .ok (.invokestatic 40, 3) := by decide +kernel
theorem dX1_run_194 : decode cX1_run 194 = .ok (.iconst 0, 1) := by decide +kernel
theorem dX1_run_195 : decode cX1_run 195 = .ok (.iload_n 3, 1) := by decide +kernel
theorem dX1_run_196 : decode cX1_run 196 = .ok (.iload 6, 2) := by decide +kernel
theorem dX1_run_198 : decode cX1_run 198 = .ok (.invokestatic 28, 3) := by decide +kernel
theorem dX1_run_201 : decode cX1_run 201 = .ok (.aload_n 0, 1) := by decide +kernel
theorem dX1_run_202 : decode cX1_run 202 = .ok (.getfield 25, 3) := by decide +kernel
theorem dX1_run_205 : decode cX1_run 205 = .ok (.iadd, 1) := by decide +kernel
theorem dX1_run_206 : decode cX1_run 206 = .ok (.ireturn, 1) := by decide +kernel
theorem dX1_run_207 : decode cX1_run 207 = .ok (.aload_n 0, 1) := by decide +kernel
theorem dX1_run_208 : decode cX1_run 208 = .ok (.iconst 2, 1) := by decide +kernel
theorem dX1_run_209 : decode cX1_run 209 = .ok (.invokestatic 40, 3) := by decide +kernel
theorem dX1_run_212 : decode cX1_run 212 = .ok (.iconst 1, 1) := by decide +kernel
theorem dX1_run_213 : decode cX1_run 213 = .ok (.iload_n 3, 1) := by decide +kernel
theorem dX1_run_214 : decode cX1_run 214 = .ok (.iload 6, 2) := by decide +kernel
theorem dX1_run_216 : decode cX1_run 216 = .ok (.invokestatic 28, 3) := by decide +kernel
theorem dX1_run_219 : decode cX1_run 219 = .ok (.iconst 3, 1) := by decide +kernel
theorem dX1_run_220 : decode cX1_run 220 = .ok (.imul, 1) := by decide +kernel
theorem dX1_run_221 : decode cX1_run 221 = .ok (.ireturn, 1) := by decide +kernel
theorem dX1_run_222 : decode cX1_run 222 = .ok (.aload_n 0, 1) := by decide +kernel
theorem dX1_run_223 : decode cX1_run 223 = .ok (.iconst 3, 1) := by decide +kernel
theorem dX1_run_224 : decode cX1_run 224 = .ok (.invokestatic 40, 3) := by decide +kernel
theorem dX1_run_227 : decode cX1_run 227 = .ok (.iconst 0, 1) := by decide +kernel
theorem dX1_run_228 : decode cX1_run 228 = .ok (.iload_n 3, 1) := by decide +kernel
theorem dX1_run_229 : decode cX1_run 229 = .ok (.iconst 1, 1) := by decide +kernel
theorem dX1_run_230 : decode cX1_run 230 = .ok (.iadd, 1) := by decide +kernel
theorem dX1_run_231 : decode cX1_run 231 = .ok (.iload 6, 2) := by decide +kernel
theorem dX1_run_233 : decode cX1_run 233 = .ok (.invokestatic 28, 3) := by decide +kernel
theorem dX1_run_236 : decode cX1_run 236 = .ok (.ireturn, 1) := by decide +kernel
theorem dX1_run_237 : decode cX1_run 237 = .ok (.aload_n 0, 1) := by decide +kernel
theorem dX1_run_238 : decode cX1_run 238 = .ok (.iconst 4, 1) := by decide +kernel
theorem dX1_run_239 : decode cX1_run 239 = .ok (.invokestatic 40, 3) := by decide +kernel
theorem dX1_run_242 : decode cX1_run 242 = .ok (.iconst 2, 1) := by decide +kernel
theorem dX1_run_243 : decode cX1_run 243 = .ok (.iload_n 3, 1) := by decide +kernel
theorem dX1_run_244 : decode cX1_run 244 = .ok (.iload 6, 2) := by decide +kernel
theorem dX1_run_246 : decode cX1_run 246 = .ok (.invokestatic 28, 3) := by decide +kernel
theorem dX1_run_249 : decode cX1_run 249 = .ok (.ineg, 1) := by decide +kernel
theorem dX1_run_250 : decode cX1_run 250 = .ok (.ireturn, 1) := by decide +kernel
theorem dX1_run_251 : decode cX1_run 251 = .ok (.aload_n 0, 1) := by decide +kernel
theorem dX1_run_252 : decode cX1_run 252 = .ok (.iconst 4, 1) := by decide +kernel
theorem dX1_run_253 : decode cX1_run 253 = .ok (.invokestatic 40, 3) := by decide +kernel
theorem dX1_run_256 : decode cX1_run 256 = .ok (.iconst 0, 1) := by decide +kernel
theorem dX1_run_257 : decode cX1_run 257 = .ok (.iload_n 3, 1) := by decide +kernel
theorem dX1_run_258 : decode cX1_run 258 = .ok (.iload 6, 2) := by decide +kernel
theorem dX1_run_260 : decode cX1_run 260 = .ok (.invokestatic 28, 3) := by decide +kernel
theorem dX1_run_263 : decode cX1_run 263 = .ok (.aload_n 0, 1) := by decide +kernel
theorem dX1_run_264 : decode cX1_run 264 = .ok (.getfield 19, 3) := by decide +kernel
theorem dX1_run_267 : decode cX1_run 267 = .ok (.isub, 1) := by decide +kernel
theorem dX1_run_268 : decode cX1_run 268 = .ok (.ireturn, 1) := by decide +kernel
theorem dX1_run_269 : decode cX1_run 269 = .ok (.aload_n 0, 1) := by decide +kernel
theorem dX1_run_270 : decode cX1_run 270 = .ok (.iconst 5, 1) := by decide +kernel
theorem dX1_run_271 : decode cX1_run 271 = .ok (.invokestatic 40, 3) := by decide +kernel
theorem dX1_run_274 : decode cX1_run 274 = .ok (.iconst 2, 1) := by decide +kernel
theorem dX1_run_275 : decode cX1_run 275 = .ok (.iload_n 3, 1) := by decide +kernel
theorem dX1_run_276 : decode cX1_run 276 = .ok (.iload 6, 2) := by decide +kernel
theorem dX1_run_278 : decode cX1_run 278 = .ok (.invokestatic 28, 3) := by decide +kernel
theorem dX1_run_281 : decode cX1_run 281 = .ok (.iconst 5, 1) := by decide +kernel
theorem dX1_run_282 : decode cX1_run 282 = .ok (.ixor, 1) := by decide +kernel
theorem dX1_run_283 : decode cX1_run 283 = .ok (.ireturn, 1) := by decide +kernel
theorem dX1_run_284 : decode cX1_run 284 = .ok (.aload_n 0, 1) := by decide +kernel
theorem dX1_run_285 : decode cX1_run 285 = .ok (.bipush 6, 2) := by decide +kernel
theorem dX1_run_287 : decode cX1_run 287 = .ok (.invokestatic 40, 3) := by decide +kernel
theorem dX1_run_290 : decode cX1_run 290 = .ok (.iconst 0, 1) := by decide +kernel
theorem dX1_run_291 : decode cX1_run 291 = .ok (.iload_n 3, 1) := by decide +kernel
theorem dX1_run_292 : decode cX1_run 292 = .ok (.iload 6, 2) := by decide +kernel
theorem dX1_run_294 : decode cX1_run 294 = .ok (.invokestatic 28, 3) := by decide +kernel
theorem dX1_run_297 : decode cX1_run 297 = .ok (.iconst 2, 1) := by decide +kernel
theorem dX1_run_298 : decode cX1_run 298 = .ok (.imul, 1) := by decide +kernel
theorem dX1_run_299 : decode cX1_run 299 = .ok (.ireturn, 1) := by decide +kernel
theorem dX1_run_300 : decode cX1_run 300 = .ok (.aload_n 0, 1) := by decide +kernel
theorem dX1_run_301 : decode cX1_run 301 = .ok (.bipush 6, 2) := by decide +kernel
theorem dX1_run_303 : decode cX1_run 303 = .ok (.invokestatic 40, 3) := by decide +kernel
theorem dX1_run_306 : decode cX1_run 306 = .ok (.iconst 1, 1) := by decide +kernel
theorem dX1_run_307 : decode cX1_run 307 = .ok (.iload_n 3, 1) := by decide +kernel
theorem dX1_run_308 : decode cX1_run 308 = .ok (.aload_n 0, 1) := by decide +kernel
theorem dX1_run_309 : decode cX1_run 309 = .ok (.getfield 25, 3) := by decide +kernel
theorem dX1_run_312 : decode cX1_run 312 = .ok (.isub, 1) := by decide +kernel
theorem dX1_run_313 : decode cX1_run 313 = .ok (.iload 6, 2) := by decide +kernel
theorem dX1_run_315 : decode cX1_run 315 = .ok (.invokestatic 28, 3) := by decide +kernel
theorem dX1_run_318 : decode cX1_run 318 = .ok (.ireturn, 1) := by decide +kernel
theorem dX1_run_319 : decode cX1_run 319 = .ok (.iconst 0, 1) := by decide +kernel
theorem dX1_run_320 : decode cX1_run 320 = .ok (.ireturn, 1) := by decide +kernel
set_option maxRecDepth 20000 in
theorem c_X1_run10 {G : Gl} {d : Nat} {σ : Sg} {n K a k m x t : Int} {c : Int × (Nat → Int)} (hM : MvX n K a c σ) (c0 : 0 ≤ c.1) (c1 : c.1 ≤ 100) (k1 : -1 ≤ k) (k2 : k < 7) (m1 : 0 ≤ m) (m2 : m < 3) (t1 : 0 ≤ t) (t2 : t ≤ 40) (hb : bdG m 7 k = 10) : CT G (d + 3) yX1_run cX1_run 7 (some .int) [.ref (gA G 12), .int (iI k), .int (iI m), .int (iI x), .int (iI t)] σ (RE (some (.int (iI (vb10 n a x c).1))) (fun υ => MvX n K a (vb10 n a x c).2 υ ∧ Fr S13 σ υ)) := by
  refine CT.of (by decide +kernel) (Nat.le_of_ble_eq_true rfl) ?_
  change AW G _ RX1 _ _ _ 0 [(0, .ref (gA G 12)), (1, .int (iI k)), (2, .int (iI m)), (3, .int (iI x)), (4, .int (iI t))] [] _ _
  refine A_iload_n (pc := 0) dX1_run_0 rfl rfl ?_
  refine A_iload_n (pc := 1) dX1_run_1 rfl rfl ?_
  refine A_callS1 (pc := 2) kX1_32 (c_X1_bodyOf k1 k2 m1 m2) dX1_run_2 rfl rfl (Nat.le_of_ble_eq_true rfl) (Nat.le_of_ble_eq_true rfl) ?_
  rw [hb]
  refine A_istore (pc := 5) dX1_run_5 (Nat.le_of_ble_eq_true rfl) ?_
  refine A_iload (pc := 7) dX1_run_7 rfl ?_
  refine A_iconst (pc := 9) dX1_run_9 ?_
  refine A_icmp_eq (pc := 10) 20 dX1_run_10 (by decide) (by omega) (by omega) (by omega) (by omega) (fun h10 => ?_) (fun h10 => ?_)
  · skip
    refine A_iconst (pc := 20) dX1_run_20 ?_
    refine A_iret (pc := 21) rfl dX1_run_21 ?_
    exfalso; omega
  · skip
    refine A_iload (pc := 13) dX1_run_13 rfl ?_
    refine A_bipush (pc := 15) dX1_run_15 (by decide) ?_
    refine A_icmp_le (pc := 17) 22 dX1_run_17 (by decide) (by omega) (by omega) (by omega) (by omega) (fun h17 => ?_) (fun h17 => ?_)
    · skip
      refine A_aload_n (pc := 22) dX1_run_22 rfl rfl ?_
      refine A_iload (pc := 23) dX1_run_23 rfl ?_
      refine A_callVe0 (pc := 25) kX1_36 rfl rfl (c_X1_note hM c0 (by omega)) dX1_run_25 rfl rfl (Nat.le_of_ble_eq_true rfl) (Nat.le_of_ble_eq_true rfl) (fun υ hυ => ?_)
      refine A_iload (pc := 28) dX1_run_28 rfl ?_
      refine A_iconst (pc := 30) dX1_run_30 ?_
      refine A_iadd (pc := 31) dX1_run_31 ?_
      refine A_istore (pc := 32) dX1_run_32 (Nat.le_of_ble_eq_true rfl) ?_
      refine A_iload (pc := 34) dX1_run_34 rfl ?_
      refine A_lsw (pc := 36) [(10, 136), (11, 143), (12, 158), (20, 189), (30, 207), (40, 222), (50, 237), (51, 251), (60, 269), (70, 284), (71, 300)] 319 dX1_run_36 (by decide) (by decide) (by decide) (by omega) (by omega) ?_
      refine ⟨fun h36 => ?_, fun h36n10 => ?_⟩
      · skip
        refine A_iload_n (pc := 136) dX1_run_136 rfl rfl ?_
        refine A_aload_n (pc := 137) dX1_run_137 rfl rfl ?_
        refine A_getIv (pc := 138) fX1_19 rfl rfl hυ.1.2.2.1 dX1_run_138 ?_
        refine A_iadd (pc := 141) dX1_run_141 ?_
        refine A_iret (pc := 142) rfl dX1_run_142 ?_
        exact ⟨rfl, hυ⟩
      refine ⟨fun h36 => ?_, fun h36n11 => ?_⟩
      · skip
        exfalso; omega
      refine ⟨fun h36 => ?_, fun h36n12 => ?_⟩
      · skip
        exfalso; omega
      refine ⟨fun h36 => ?_, fun h36n20 => ?_⟩
      · skip
        exfalso; omega
      refine ⟨fun h36 => ?_, fun h36n30 => ?_⟩
      · skip
        exfalso; omega
      refine ⟨fun h36 => ?_, fun h36n40 => ?_⟩
      · skip
        exfalso; omega
      refine ⟨fun h36 => ?_, fun h36n50 => ?_⟩
      · skip
        exfalso; omega
      refine ⟨fun h36 => ?_, fun h36n51 => ?_⟩
      · skip
        exfalso; omega
      refine ⟨fun h36 => ?_, fun h36n60 => ?_⟩
      · skip
        exfalso; omega
      refine ⟨fun h36 => ?_, fun h36n70 => ?_⟩
      · skip
        exfalso; omega
      refine ⟨fun h36 => ?_, fun h36n71 => ?_⟩
      · skip
        exfalso; omega
      change AW G _ _ _ _ _ 319 _ _ _ _
      exfalso; omega
    · skip
      refine A_iconst (pc := 20) dX1_run_20 ?_
      refine A_iret (pc := 21) rfl dX1_run_21 ?_
      exfalso; omega
set_option maxRecDepth 20000 in
theorem c_X1_run20 {G : Gl} {d : Nat} {σ : Sg} {n K a k m x t : Int} {c : Int × (Nat → Int)} (hM : MvX n K a c σ) (c0 : 0 ≤ c.1) (c1 : c.1 ≤ 99) (k1 : -1 ≤ k) (k2 : k < 7) (m1 : 0 ≤ m) (m2 : m < 3) (t1 : 0 ≤ t) (t2 : t ≤ 39) (hb : bdG m 7 k = 20) : CT G (d + 4) yX1_run cX1_run 7 (some .int) [.ref (gA G 12), .int (iI k), .int (iI m), .int (iI x), .int (iI t)] σ (RE (some (.int (iI (vb20 n a x c).1))) (fun υ => MvX n K a (vb20 n a x c).2 υ ∧ Fr S13 σ υ)) := by
  refine CT.of (by decide +kernel) (Nat.le_of_ble_eq_true rfl) ?_
  change AW G _ RX1 _ _ _ 0 [(0, .ref (gA G 12)), (1, .int (iI k)), (2, .int (iI m)), (3, .int (iI x)), (4, .int (iI t))] [] _ _
  refine A_iload_n (pc := 0) dX1_run_0 rfl rfl ?_
  refine A_iload_n (pc := 1) dX1_run_1 rfl rfl ?_
  refine A_callS1 (pc := 2) kX1_32 (c_X1_bodyOf k1 k2 m1 m2) dX1_run_2 rfl rfl (Nat.le_of_ble_eq_true rfl) (Nat.le_of_ble_eq_true rfl) ?_
  rw [hb]
  refine A_istore (pc := 5) dX1_run_5 (Nat.le_of_ble_eq_true rfl) ?_
  refine A_iload (pc := 7) dX1_run_7 rfl ?_
  refine A_iconst (pc := 9) dX1_run_9 ?_
  refine A_icmp_eq (pc := 10) 20 dX1_run_10 (by decide) (by omega) (by omega) (by omega) (by omega) (fun h10 => ?_) (fun h10 => ?_)
  · skip
    refine A_iconst (pc := 20) dX1_run_20 ?_
    refine A_iret (pc := 21) rfl dX1_run_21 ?_
    exfalso; omega
  · skip
    refine A_iload (pc := 13) dX1_run_13 rfl ?_
    refine A_bipush (pc := 15) dX1_run_15 (by decide) ?_
    refine A_icmp_le (pc := 17) 22 dX1_run_17 (by decide) (by omega) (by omega) (by omega) (by omega) (fun h17 => ?_) (fun h17 => ?_)
    · skip
      refine A_aload_n (pc := 22) dX1_run_22 rfl rfl ?_
      refine A_iload (pc := 23) dX1_run_23 rfl ?_
      refine A_callVe0 (pc := 25) kX1_36 rfl rfl (c_X1_note hM c0 (by omega)) dX1_run_25 rfl rfl (Nat.le_of_ble_eq_true rfl) (Nat.le_of_ble_eq_true rfl) (fun υ hυ => ?_)
      refine A_iload (pc := 28) dX1_run_28 rfl ?_
      refine A_iconst (pc := 30) dX1_run_30 ?_
      refine A_iadd (pc := 31) dX1_run_31 ?_
      refine A_istore (pc := 32) dX1_run_32 (Nat.le_of_ble_eq_true rfl) ?_
      refine A_iload (pc := 34) dX1_run_34 rfl ?_
      refine A_lsw (pc := 36) [(10, 136), (11, 143), (12, 158), (20, 189), (30, 207), (40, 222), (50, 237), (51, 251), (60, 269), (70, 284), (71, 300)] 319 dX1_run_36 (by decide) (by decide) (by decide) (by omega) (by omega) ?_
      refine ⟨fun h36 => ?_, fun h36n10 => ?_⟩
      · skip
        exfalso; omega
      refine ⟨fun h36 => ?_, fun h36n11 => ?_⟩
      · skip
        exfalso; omega
      refine ⟨fun h36 => ?_, fun h36n12 => ?_⟩
      · skip
        exfalso; omega
      refine ⟨fun h36 => ?_, fun h36n20 => ?_⟩
      · skip
        refine A_aload_n (pc := 189) dX1_run_189 rfl rfl ?_
        refine A_iconst (pc := 190) dX1_run_190 ?_
        refine A_callN1 (pc := 191) lbX8_above stX8_above (List.mem_of_getElem? (i := 3) rfl) (c_X8_above (k := 1) (by omega) (by omega)) dX1_run_191 rfl rfl (Nat.le_of_ble_eq_true rfl) (Nat.le_of_ble_eq_true rfl) ?_
        refine A_iconst (pc := 194) dX1_run_194 ?_
        refine A_iload_n (pc := 195) dX1_run_195 rfl rfl ?_
        refine A_iload (pc := 196) dX1_run_196 rfl ?_
        refine A_callSe (pc := 198) kX1_28 (c_X1_run10 hυ.1 (mkT0 c0) (mkT1 (by omega)) (by decide) (by decide) (by decide) (by decide) (by omega) (by omega) (by decide)) dX1_run_198 rfl rfl (Nat.le_of_ble_eq_true rfl) (Nat.le_of_ble_eq_true rfl) (fun ω hω => ?_)
        refine A_aload_n (pc := 201) dX1_run_201 rfl rfl ?_
        refine A_getIv (pc := 202) fX1_25 rfl rfl hω.1.2.2.2.2 dX1_run_202 ?_
        refine A_iadd (pc := 205) dX1_run_205 ?_
        refine A_iret (pc := 206) rfl dX1_run_206 ?_
        exact ⟨rfl, hω.1, hυ.2.tr hω.2⟩
      refine ⟨fun h36 => ?_, fun h36n30 => ?_⟩
      · skip
        exfalso; omega
      refine ⟨fun h36 => ?_, fun h36n40 => ?_⟩
      · skip
        exfalso; omega
      refine ⟨fun h36 => ?_, fun h36n50 => ?_⟩
      · skip
        exfalso; omega
      refine ⟨fun h36 => ?_, fun h36n51 => ?_⟩
      · skip
        exfalso; omega
      refine ⟨fun h36 => ?_, fun h36n60 => ?_⟩
      · skip
        exfalso; omega
      refine ⟨fun h36 => ?_, fun h36n70 => ?_⟩
      · skip
        exfalso; omega
      refine ⟨fun h36 => ?_, fun h36n71 => ?_⟩
      · skip
        exfalso; omega
      change AW G _ _ _ _ _ 319 _ _ _ _
      exfalso; omega
    · skip
      refine A_iconst (pc := 20) dX1_run_20 ?_
      refine A_iret (pc := 21) rfl dX1_run_21 ?_
      exfalso; omega
set_option maxRecDepth 20000 in
theorem c_X1_run40 {G : Gl} {d : Nat} {σ : Sg} {n K a k m x t : Int} {c : Int × (Nat → Int)} (hM : MvX n K a c σ) (c0 : 0 ≤ c.1) (c1 : c.1 ≤ 98) (k1 : -1 ≤ k) (k2 : k < 7) (m1 : 0 ≤ m) (m2 : m < 3) (t1 : 0 ≤ t) (t2 : t ≤ 38) (hb : bdG m 7 k = 40) : CT G (d + 5) yX1_run cX1_run 7 (some .int) [.ref (gA G 12), .int (iI k), .int (iI m), .int (iI x), .int (iI t)] σ (RE (some (.int (iI (vb40 n a x c).1))) (fun υ => MvX n K a (vb40 n a x c).2 υ ∧ Fr S13 σ υ)) := by
  refine CT.of (by decide +kernel) (Nat.le_of_ble_eq_true rfl) ?_
  change AW G _ RX1 _ _ _ 0 [(0, .ref (gA G 12)), (1, .int (iI k)), (2, .int (iI m)), (3, .int (iI x)), (4, .int (iI t))] [] _ _
  refine A_iload_n (pc := 0) dX1_run_0 rfl rfl ?_
  refine A_iload_n (pc := 1) dX1_run_1 rfl rfl ?_
  refine A_callS1 (pc := 2) kX1_32 (c_X1_bodyOf k1 k2 m1 m2) dX1_run_2 rfl rfl (Nat.le_of_ble_eq_true rfl) (Nat.le_of_ble_eq_true rfl) ?_
  rw [hb]
  refine A_istore (pc := 5) dX1_run_5 (Nat.le_of_ble_eq_true rfl) ?_
  refine A_iload (pc := 7) dX1_run_7 rfl ?_
  refine A_iconst (pc := 9) dX1_run_9 ?_
  refine A_icmp_eq (pc := 10) 20 dX1_run_10 (by decide) (by omega) (by omega) (by omega) (by omega) (fun h10 => ?_) (fun h10 => ?_)
  · skip
    refine A_iconst (pc := 20) dX1_run_20 ?_
    refine A_iret (pc := 21) rfl dX1_run_21 ?_
    exfalso; omega
  · skip
    refine A_iload (pc := 13) dX1_run_13 rfl ?_
    refine A_bipush (pc := 15) dX1_run_15 (by decide) ?_
    refine A_icmp_le (pc := 17) 22 dX1_run_17 (by decide) (by omega) (by omega) (by omega) (by omega) (fun h17 => ?_) (fun h17 => ?_)
    · skip
      refine A_aload_n (pc := 22) dX1_run_22 rfl rfl ?_
      refine A_iload (pc := 23) dX1_run_23 rfl ?_
      refine A_callVe0 (pc := 25) kX1_36 rfl rfl (c_X1_note hM c0 (by omega)) dX1_run_25 rfl rfl (Nat.le_of_ble_eq_true rfl) (Nat.le_of_ble_eq_true rfl) (fun υ hυ => ?_)
      refine A_iload (pc := 28) dX1_run_28 rfl ?_
      refine A_iconst (pc := 30) dX1_run_30 ?_
      refine A_iadd (pc := 31) dX1_run_31 ?_
      refine A_istore (pc := 32) dX1_run_32 (Nat.le_of_ble_eq_true rfl) ?_
      refine A_iload (pc := 34) dX1_run_34 rfl ?_
      refine A_lsw (pc := 36) [(10, 136), (11, 143), (12, 158), (20, 189), (30, 207), (40, 222), (50, 237), (51, 251), (60, 269), (70, 284), (71, 300)] 319 dX1_run_36 (by decide) (by decide) (by decide) (by omega) (by omega) ?_
      refine ⟨fun h36 => ?_, fun h36n10 => ?_⟩
      · skip
        exfalso; omega
      refine ⟨fun h36 => ?_, fun h36n11 => ?_⟩
      · skip
        exfalso; omega
      refine ⟨fun h36 => ?_, fun h36n12 => ?_⟩
      · skip
        exfalso; omega
      refine ⟨fun h36 => ?_, fun h36n20 => ?_⟩
      · skip
        exfalso; omega
      refine ⟨fun h36 => ?_, fun h36n30 => ?_⟩
      · skip
        exfalso; omega
      refine ⟨fun h36 => ?_, fun h36n40 => ?_⟩
      · skip
        refine A_aload_n (pc := 222) dX1_run_222 rfl rfl ?_
        refine A_iconst (pc := 223) dX1_run_223 ?_
        refine A_callN1 (pc := 224) lbX8_above stX8_above (List.mem_of_getElem? (i := 3) rfl) (c_X8_above (k := 3) (by omega) (by omega)) dX1_run_224 rfl rfl (Nat.le_of_ble_eq_true rfl) (Nat.le_of_ble_eq_true rfl) ?_
        refine A_iconst (pc := 227) dX1_run_227 ?_
        refine A_iload_n (pc := 228) dX1_run_228 rfl rfl ?_
        refine A_iconst (pc := 229) dX1_run_229 ?_
        refine A_iadd (pc := 230) dX1_run_230 ?_
        refine A_iload (pc := 231) dX1_run_231 rfl ?_
        refine A_callSe (pc := 233) kX1_28 (c_X1_run20 hυ.1 (mkT0 c0) (mkT1 (by omega)) (by decide) (by decide) (by decide) (by decide) (by omega) (by omega) (by decide)) dX1_run_233 rfl rfl (Nat.le_of_ble_eq_true rfl) (Nat.le_of_ble_eq_true rfl) (fun ω hω => ?_)
        refine A_iret (pc := 236) rfl dX1_run_236 ?_
        exact ⟨rfl, hω.1, hυ.2.tr hω.2⟩
      refine ⟨fun h36 => ?_, fun h36n50 => ?_⟩
      · skip
        exfalso; omega
      refine ⟨fun h36 => ?_, fun h36n51 => ?_⟩
      · skip
        exfalso; omega
      refine ⟨fun h36 => ?_, fun h36n60 => ?_⟩
      · skip
        exfalso; omega
      refine ⟨fun h36 => ?_, fun h36n70 => ?_⟩
      · skip
        exfalso; omega
      refine ⟨fun h36 => ?_, fun h36n71 => ?_⟩
      · skip
        exfalso; omega
      change AW G _ _ _ _ _ 319 _ _ _ _
      exfalso; omega
    · skip
      refine A_iconst (pc := 20) dX1_run_20 ?_
      refine A_iret (pc := 21) rfl dX1_run_21 ?_
      exfalso; omega
set_option maxRecDepth 20000 in
theorem c_X1_run51 {G : Gl} {d : Nat} {σ : Sg} {n K a k m x t : Int} {c : Int × (Nat → Int)} (hM : MvX n K a c σ) (c0 : 0 ≤ c.1) (c1 : c.1 ≤ 99) (k1 : -1 ≤ k) (k2 : k < 7) (m1 : 0 ≤ m) (m2 : m < 3) (t1 : 0 ≤ t) (t2 : t ≤ 39) (hb : bdG m 7 k = 51) : CT G (d + 4) yX1_run cX1_run 7 (some .int) [.ref (gA G 12), .int (iI k), .int (iI m), .int (iI x), .int (iI t)] σ (RE (some (.int (iI (vb51 n a x c).1))) (fun υ => MvX n K a (vb51 n a x c).2 υ ∧ Fr S13 σ υ)) := by
  refine CT.of (by decide +kernel) (Nat.le_of_ble_eq_true rfl) ?_
  change AW G _ RX1 _ _ _ 0 [(0, .ref (gA G 12)), (1, .int (iI k)), (2, .int (iI m)), (3, .int (iI x)), (4, .int (iI t))] [] _ _
  refine A_iload_n (pc := 0) dX1_run_0 rfl rfl ?_
  refine A_iload_n (pc := 1) dX1_run_1 rfl rfl ?_
  refine A_callS1 (pc := 2) kX1_32 (c_X1_bodyOf k1 k2 m1 m2) dX1_run_2 rfl rfl (Nat.le_of_ble_eq_true rfl) (Nat.le_of_ble_eq_true rfl) ?_
  rw [hb]
  refine A_istore (pc := 5) dX1_run_5 (Nat.le_of_ble_eq_true rfl) ?_
  refine A_iload (pc := 7) dX1_run_7 rfl ?_
  refine A_iconst (pc := 9) dX1_run_9 ?_
  refine A_icmp_eq (pc := 10) 20 dX1_run_10 (by decide) (by omega) (by omega) (by omega) (by omega) (fun h10 => ?_) (fun h10 => ?_)
  · skip
    refine A_iconst (pc := 20) dX1_run_20 ?_
    refine A_iret (pc := 21) rfl dX1_run_21 ?_
    exfalso; omega
  · skip
    refine A_iload (pc := 13) dX1_run_13 rfl ?_
    refine A_bipush (pc := 15) dX1_run_15 (by decide) ?_
    refine A_icmp_le (pc := 17) 22 dX1_run_17 (by decide) (by omega) (by omega) (by omega) (by omega) (fun h17 => ?_) (fun h17 => ?_)
    · skip
      refine A_aload_n (pc := 22) dX1_run_22 rfl rfl ?_
      refine A_iload (pc := 23) dX1_run_23 rfl ?_
      refine A_callVe0 (pc := 25) kX1_36 rfl rfl (c_X1_note hM c0 (by omega)) dX1_run_25 rfl rfl (Nat.le_of_ble_eq_true rfl) (Nat.le_of_ble_eq_true rfl) (fun υ hυ => ?_)
      refine A_iload (pc := 28) dX1_run_28 rfl ?_
      refine A_iconst (pc := 30) dX1_run_30 ?_
      refine A_iadd (pc := 31) dX1_run_31 ?_
      refine A_istore (pc := 32) dX1_run_32 (Nat.le_of_ble_eq_true rfl) ?_
      refine A_iload (pc := 34) dX1_run_34 rfl ?_
      refine A_lsw (pc := 36) [(10, 136), (11, 143), (12, 158), (20, 189), (30, 207), (40, 222), (50, 237), (51, 251), (60, 269), (70, 284), (71, 300)] 319 dX1_run_36 (by decide) (by decide) (by decide) (by omega) (by omega) ?_
      refine ⟨fun h36 => ?_, fun h36n10 => ?_⟩
      · skip
        exfalso; omega
      refine ⟨fun h36 => ?_, fun h36n11 => ?_⟩
      · skip
        exfalso; omega
      refine ⟨fun h36 => ?_, fun h36n12 => ?_⟩
      · skip
        exfalso; omega
      refine ⟨fun h36 => ?_, fun h36n20 => ?_⟩
      · skip
        exfalso; omega
      refine ⟨fun h36 => ?_, fun h36n30 => ?_⟩
      · skip
        exfalso; omega
      refine ⟨fun h36 => ?_, fun h36n40 => ?_⟩
      · skip
        exfalso; omega
      refine ⟨fun h36 => ?_, fun h36n50 => ?_⟩
      · skip
        exfalso; omega
      refine ⟨fun h36 => ?_, fun h36n51 => ?_⟩
      · skip
        refine A_aload_n (pc := 251) dX1_run_251 rfl rfl ?_
        refine A_iconst (pc := 252) dX1_run_252 ?_
        refine A_callN1 (pc := 253) lbX8_above stX8_above (List.mem_of_getElem? (i := 3) rfl) (c_X8_above (k := 4) (by omega) (by omega)) dX1_run_253 rfl rfl (Nat.le_of_ble_eq_true rfl) (Nat.le_of_ble_eq_true rfl) ?_
        refine A_iconst (pc := 256) dX1_run_256 ?_
        refine A_iload_n (pc := 257) dX1_run_257 rfl rfl ?_
        refine A_iload (pc := 258) dX1_run_258 rfl ?_
        refine A_callSe (pc := 260) kX1_28 (c_X1_run10 hυ.1 (mkT0 c0) (mkT1 (by omega)) (by decide) (by decide) (by decide) (by decide) (by omega) (by omega) (by decide)) dX1_run_260 rfl rfl (Nat.le_of_ble_eq_true rfl) (Nat.le_of_ble_eq_true rfl) (fun ω hω => ?_)
        refine A_aload_n (pc := 263) dX1_run_263 rfl rfl ?_
        refine A_getIv (pc := 264) fX1_19 rfl rfl hω.1.2.2.1 dX1_run_264 ?_
        refine A_isub (pc := 267) dX1_run_267 ?_
        refine A_iret (pc := 268) rfl dX1_run_268 ?_
        exact ⟨rfl, hω.1, hυ.2.tr hω.2⟩
      refine ⟨fun h36 => ?_, fun h36n60 => ?_⟩
      · skip
        exfalso; omega
      refine ⟨fun h36 => ?_, fun h36n70 => ?_⟩
      · skip
        exfalso; omega
      refine ⟨fun h36 => ?_, fun h36n71 => ?_⟩
      · skip
        exfalso; omega
      change AW G _ _ _ _ _ 319 _ _ _ _
      exfalso; omega
    · skip
      refine A_iconst (pc := 20) dX1_run_20 ?_
      refine A_iret (pc := 21) rfl dX1_run_21 ?_
      exfalso; omega
set_option maxRecDepth 20000 in
theorem c_X1_run70 {G : Gl} {d : Nat} {σ : Sg} {n K a k m x t : Int} {c : Int × (Nat → Int)} (hM : MvX n K a c σ) (c0 : 0 ≤ c.1) (c1 : c.1 ≤ 99) (k1 : -1 ≤ k) (k2 : k < 7) (m1 : 0 ≤ m) (m2 : m < 3) (t1 : 0 ≤ t) (t2 : t ≤ 39) (hb : bdG m 7 k = 70) : CT G (d + 4) yX1_run cX1_run 7 (some .int) [.ref (gA G 12), .int (iI k), .int (iI m), .int (iI x), .int (iI t)] σ (RE (some (.int (iI (vb70 n a x c).1))) (fun υ => MvX n K a (vb70 n a x c).2 υ ∧ Fr S13 σ υ)) := by
  refine CT.of (by decide +kernel) (Nat.le_of_ble_eq_true rfl) ?_
  change AW G _ RX1 _ _ _ 0 [(0, .ref (gA G 12)), (1, .int (iI k)), (2, .int (iI m)), (3, .int (iI x)), (4, .int (iI t))] [] _ _
  refine A_iload_n (pc := 0) dX1_run_0 rfl rfl ?_
  refine A_iload_n (pc := 1) dX1_run_1 rfl rfl ?_
  refine A_callS1 (pc := 2) kX1_32 (c_X1_bodyOf k1 k2 m1 m2) dX1_run_2 rfl rfl (Nat.le_of_ble_eq_true rfl) (Nat.le_of_ble_eq_true rfl) ?_
  rw [hb]
  refine A_istore (pc := 5) dX1_run_5 (Nat.le_of_ble_eq_true rfl) ?_
  refine A_iload (pc := 7) dX1_run_7 rfl ?_
  refine A_iconst (pc := 9) dX1_run_9 ?_
  refine A_icmp_eq (pc := 10) 20 dX1_run_10 (by decide) (by omega) (by omega) (by omega) (by omega) (fun h10 => ?_) (fun h10 => ?_)
  · skip
    refine A_iconst (pc := 20) dX1_run_20 ?_
    refine A_iret (pc := 21) rfl dX1_run_21 ?_
    exfalso; omega
  · skip
    refine A_iload (pc := 13) dX1_run_13 rfl ?_
    refine A_bipush (pc := 15) dX1_run_15 (by decide) ?_
    refine A_icmp_le (pc := 17) 22 dX1_run_17 (by decide) (by omega) (by omega) (by omega) (by omega) (fun h17 => ?_) (fun h17 => ?_)
    · skip
      refine A_aload_n (pc := 22) dX1_run_22 rfl rfl ?_
      refine A_iload (pc := 23) dX1_run_23 rfl ?_
      refine A_callVe0 (pc := 25) kX1_36 rfl rfl (c_X1_note hM c0 (by omega)) dX1_run_25 rfl rfl (Nat.le_of_ble_eq_true rfl) (Nat.le_of_ble_eq_true rfl) (fun υ hυ => ?_)
      refine A_iload (pc := 28) dX1_run_28 rfl ?_
      refine A_iconst (pc := 30) dX1_run_30 ?_
      refine A_iadd (pc := 31) dX1_run_31 ?_
      refine A_istore (pc := 32) dX1_run_32 (Nat.le_of_ble_eq_true rfl) ?_
      refine A_iload (pc := 34) dX1_run_34 rfl ?_
      refine A_lsw (pc := 36) [(10, 136), (11, 143), (12, 158), (20, 189), (30, 207), (40, 222), (50, 237), (51, 251), (60, 269), (70, 284), (71, 300)] 319 dX1_run_36 (by decide) (by decide) (by decide) (by omega) (by omega) ?_
      refine ⟨fun h36 => ?_, fun h36n10 => ?_⟩
      · skip
        exfalso; omega
      refine ⟨fun h36 => ?_, fun h36n11 => ?_⟩
      · skip
        exfalso; omega
      refine ⟨fun h36 => ?_, fun h36n12 => ?_⟩
      · skip
        exfalso; omega
      refine ⟨fun h36 => ?_, fun h36n20 => ?_⟩
      · skip
        exfalso; omega
      refine ⟨fun h36 => ?_, fun h36n30 => ?_⟩
      · skip
        exfalso; omega
      refine ⟨fun h36 => ?_, fun h36n40 => ?_⟩
      · skip
        exfalso; omega
      refine ⟨fun h36 => ?_, fun h36n50 => ?_⟩
      · skip
        exfalso; omega
      refine ⟨fun h36 => ?_, fun h36n51 => ?_⟩
      · skip
        exfalso; omega
      refine ⟨fun h36 => ?_, fun h36n60 => ?_⟩
      · skip
        exfalso; omega
      refine ⟨fun h36 => ?_, fun h36n70 => ?_⟩
      · skip
        refine A_aload_n (pc := 284) dX1_run_284 rfl rfl ?_
        refine A_bipush (pc := 285) dX1_run_285 (by decide) ?_
        refine A_callN1 (pc := 287) lbX8_above stX8_above (List.mem_of_getElem? (i := 3) rfl) (c_X8_above (k := 6) (by omega) (by omega)) dX1_run_287 rfl rfl (Nat.le_of_ble_eq_true rfl) (Nat.le_of_ble_eq_true rfl) ?_
        refine A_iconst (pc := 290) dX1_run_290 ?_
        refine A_iload_n (pc := 291) dX1_run_291 rfl rfl ?_
        refine A_iload (pc := 292) dX1_run_292 rfl ?_
        refine A_callSe (pc := 294) kX1_28 (c_X1_run10 hυ.1 (mkT0 c0) (mkT1 (by omega)) (by decide) (by decide) (by decide) (by decide) (by omega) (by omega) (by decide)) dX1_run_294 rfl rfl (Nat.le_of_ble_eq_true rfl) (Nat.le_of_ble_eq_true rfl) (fun ω hω => ?_)
        refine A_iconst (pc := 297) dX1_run_297 ?_
        refine A_imul (pc := 298) dX1_run_298 ?_
        refine A_iret (pc := 299) rfl dX1_run_299 ?_
        exact ⟨rfl, hω.1, hυ.2.tr hω.2⟩
      refine ⟨fun h36 => ?_, fun h36n71 => ?_⟩
      · skip
        exfalso; omega
      change AW G _ _ _ _ _ 319 _ _ _ _
      exfalso; omega
    · skip
      refine A_iconst (pc := 20) dX1_run_20 ?_
      refine A_iret (pc := 21) rfl dX1_run_21 ?_
      exfalso; omega
theorem c_X1_runop {G : Gl} {d : Nat} {σ : Sg} {n K a k x t : Int} {c : Int × (Nat → Int)} (hM : MvX n K a c σ) (c0 : 0 ≤ c.1) (c1 : c.1 ≤ 98) (k1 : 0 ≤ k) (k2 : k < 7) (t1 : 0 ≤ t) (t2 : t ≤ 38)  : CT G (d + 5) yX1_run cX1_run 7 (some .int) [.ref (gA G 12), .int (iI k), .int (iI 0), .int (iI x), .int (iI t)] σ (RE (some (.int (iI (vOp n a k x c).1))) (fun υ => MvX n K a (vOp n a k x c).2 υ ∧ Fr S13 σ υ)) := by
  have hk : k = 0 ∨ k = 1 ∨ k = 2 ∨ k = 3 ∨ k = 4 ∨ k = 5 ∨ k = 6 := by omega
  rcases hk with rfl | rfl | rfl | rfl | rfl | rfl | rfl
  · exact c_X1_run10 hM c0 (by omega) (by decide) (by decide) (by decide) (by decide) (by omega) (by omega) (by decide)
  · exact c_X1_run20 hM c0 (by omega) (by decide) (by decide) (by decide) (by decide) (by omega) (by omega) (by decide)
  · exact c_X1_run10 hM c0 (by omega) (by decide) (by decide) (by decide) (by decide) (by omega) (by omega) (by decide)
  · exact c_X1_run40 hM c0 (by omega) (by decide) (by decide) (by decide) (by decide) (by omega) (by omega) (by decide)
  · exact c_X1_run51 hM c0 (by omega) (by decide) (by decide) (by decide) (by decide) (by omega) (by omega) (by decide)
  · exact c_X1_run51 hM c0 (by omega) (by decide) (by decide) (by decide) (by decide) (by omega) (by omega) (by decide)
  · exact c_X1_run70 hM c0 (by omega) (by decide) (by decide) (by decide) (by decide) (by omega) (by omega) (by decide)
set_option maxRecDepth 20000 in
theorem c_X1_run11 {G : Gl} {d : Nat} {σ : Sg} {n K a k m x t : Int} {c : Int × (Nat → Int)} (hM : MvX n K a c σ) (c0 : 0 ≤ c.1) (c1 : c.1 ≤ 97) (k1 : -1 ≤ k) (k2 : k < 7) (m1 : 0 ≤ m) (m2 : m < 3) (t1 : 0 ≤ t) (t2 : t ≤ 37) (K1 : 0 ≤ K) (K2 : K < 7) (hb : bdG m 7 k = 11) : CT G (d + 6) yX1_run cX1_run 7 (some .int) [.ref (gA G 12), .int (iI k), .int (iI m), .int (iI x), .int (iI t)] σ (RE (some (.int (iI (vb11 n a K x c).1))) (fun υ => MvX n K a (vb11 n a K x c).2 υ ∧ Fr S13 σ υ)) := by
  refine CT.of (by decide +kernel) (Nat.le_of_ble_eq_true rfl) ?_
  change AW G _ RX1 _ _ _ 0 [(0, .ref (gA G 12)), (1, .int (iI k)), (2, .int (iI m)), (3, .int (iI x)), (4, .int (iI t))] [] _ _
  refine A_iload_n (pc := 0) dX1_run_0 rfl rfl ?_
  refine A_iload_n (pc := 1) dX1_run_1 rfl rfl ?_
  refine A_callS1 (pc := 2) kX1_32 (c_X1_bodyOf k1 k2 m1 m2) dX1_run_2 rfl rfl (Nat.le_of_ble_eq_true rfl) (Nat.le_of_ble_eq_true rfl) ?_
  rw [hb]
  refine A_istore (pc := 5) dX1_run_5 (Nat.le_of_ble_eq_true rfl) ?_
  refine A_iload (pc := 7) dX1_run_7 rfl ?_
  refine A_iconst (pc := 9) dX1_run_9 ?_
  refine A_icmp_eq (pc := 10) 20 dX1_run_10 (by decide) (by omega) (by omega) (by omega) (by omega) (fun h10 => ?_) (fun h10 => ?_)
  · skip
    refine A_iconst (pc := 20) dX1_run_20 ?_
    refine A_iret (pc := 21) rfl dX1_run_21 ?_
    exfalso; omega
  · skip
    refine A_iload (pc := 13) dX1_run_13 rfl ?_
    refine A_bipush (pc := 15) dX1_run_15 (by decide) ?_
    refine A_icmp_le (pc := 17) 22 dX1_run_17 (by decide) (by omega) (by omega) (by omega) (by omega) (fun h17 => ?_) (fun h17 => ?_)
    · skip
      refine A_aload_n (pc := 22) dX1_run_22 rfl rfl ?_
      refine A_iload (pc := 23) dX1_run_23 rfl ?_
      refine A_callVe0 (pc := 25) kX1_36 rfl rfl (c_X1_note hM c0 (by omega)) dX1_run_25 rfl rfl (Nat.le_of_ble_eq_true rfl) (Nat.le_of_ble_eq_true rfl) (fun υ hυ => ?_)
      refine A_iload (pc := 28) dX1_run_28 rfl ?_
      refine A_iconst (pc := 30) dX1_run_30 ?_
      refine A_iadd (pc := 31) dX1_run_31 ?_
      refine A_istore (pc := 32) dX1_run_32 (Nat.le_of_ble_eq_true rfl) ?_
      refine A_iload (pc := 34) dX1_run_34 rfl ?_
      refine A_lsw (pc := 36) [(10, 136), (11, 143), (12, 158), (20, 189), (30, 207), (40, 222), (50, 237), (51, 251), (60, 269), (70, 284), (71, 300)] 319 dX1_run_36 (by decide) (by decide) (by decide) (by omega) (by omega) ?_
      refine ⟨fun h36 => ?_, fun h36n10 => ?_⟩
      · skip
        exfalso; omega
      refine ⟨fun h36 => ?_, fun h36n11 => ?_⟩
      · skip
        refine A_aload_n (pc := 143) dX1_run_143 rfl rfl ?_
        refine A_aload_n (pc := 144) dX1_run_144 rfl rfl ?_
        refine A_getIv (pc := 145) fX1_22 rfl rfl hυ.1.2.2.2.1 dX1_run_145 ?_
        refine A_iconst (pc := 148) dX1_run_148 ?_
        refine A_iload_n (pc := 149) dX1_run_149 rfl rfl ?_
        refine A_iload (pc := 150) dX1_run_150 rfl ?_
        refine A_callSe (pc := 152) kX1_28 (c_X1_runop hυ.1 (mkT0 c0) (mkT1 (by omega)) K1 K2 (by omega) (by omega)) dX1_run_152 rfl rfl (Nat.le_of_ble_eq_true rfl) (Nat.le_of_ble_eq_true rfl) (fun ω hω => ?_)
        refine A_iconst (pc := 155) dX1_run_155 ?_
        refine A_imul (pc := 156) dX1_run_156 ?_
        refine A_iret (pc := 157) rfl dX1_run_157 ?_
        exact ⟨rfl, hω.1, hυ.2.tr hω.2⟩
      refine ⟨fun h36 => ?_, fun h36n12 => ?_⟩
      · skip
        exfalso; omega
      refine ⟨fun h36 => ?_, fun h36n20 => ?_⟩
      · skip
        exfalso; omega
      refine ⟨fun h36 => ?_, fun h36n30 => ?_⟩
      · skip
        exfalso; omega
      refine ⟨fun h36 => ?_, fun h36n40 => ?_⟩
      · skip
        exfalso; omega
      refine ⟨fun h36 => ?_, fun h36n50 => ?_⟩
      · skip
        exfalso; omega
      refine ⟨fun h36 => ?_, fun h36n51 => ?_⟩
      · skip
        exfalso; omega
      refine ⟨fun h36 => ?_, fun h36n60 => ?_⟩
      · skip
        exfalso; omega
      refine ⟨fun h36 => ?_, fun h36n70 => ?_⟩
      · skip
        exfalso; omega
      refine ⟨fun h36 => ?_, fun h36n71 => ?_⟩
      · skip
        exfalso; omega
      change AW G _ _ _ _ _ 319 _ _ _ _
      exfalso; omega
    · skip
      refine A_iconst (pc := 20) dX1_run_20 ?_
      refine A_iret (pc := 21) rfl dX1_run_21 ?_
      exfalso; omega
set_option maxRecDepth 20000 in
theorem c_X1_run30 {G : Gl} {d : Nat} {σ : Sg} {n K a k m x t : Int} {c : Int × (Nat → Int)} (hM : MvX n K a c σ) (c0 : 0 ≤ c.1) (c1 : c.1 ≤ 96) (k1 : -1 ≤ k) (k2 : k < 7) (m1 : 0 ≤ m) (m2 : m < 3) (t1 : 0 ≤ t) (t2 : t ≤ 36) (K1 : 0 ≤ K) (K2 : K < 7) (hb : bdG m 7 k = 30) : CT G (d + 7) yX1_run cX1_run 7 (some .int) [.ref (gA G 12), .int (iI k), .int (iI m), .int (iI x), .int (iI t)] σ (RE (some (.int (iI (vb30 n a K x c).1))) (fun υ => MvX n K a (vb30 n a K x c).2 υ ∧ Fr S13 σ υ)) := by
  refine CT.of (by decide +kernel) (Nat.le_of_ble_eq_true rfl) ?_
  change AW G _ RX1 _ _ _ 0 [(0, .ref (gA G 12)), (1, .int (iI k)), (2, .int (iI m)), (3, .int (iI x)), (4, .int (iI t))] [] _ _
  refine A_iload_n (pc := 0) dX1_run_0 rfl rfl ?_
  refine A_iload_n (pc := 1) dX1_run_1 rfl rfl ?_
  refine A_callS1 (pc := 2) kX1_32 (c_X1_bodyOf k1 k2 m1 m2) dX1_run_2 rfl rfl (Nat.le_of_ble_eq_true rfl) (Nat.le_of_ble_eq_true rfl) ?_
  rw [hb]
  refine A_istore (pc := 5) dX1_run_5 (Nat.le_of_ble_eq_true rfl) ?_
  refine A_iload (pc := 7) dX1_run_7 rfl ?_
  refine A_iconst (pc := 9) dX1_run_9 ?_
  refine A_icmp_eq (pc := 10) 20 dX1_run_10 (by decide) (by omega) (by omega) (by omega) (by omega) (fun h10 => ?_) (fun h10 => ?_)
  · skip
    refine A_iconst (pc := 20) dX1_run_20 ?_
    refine A_iret (pc := 21) rfl dX1_run_21 ?_
    exfalso; omega
  · skip
    refine A_iload (pc := 13) dX1_run_13 rfl ?_
    refine A_bipush (pc := 15) dX1_run_15 (by decide) ?_
    refine A_icmp_le (pc := 17) 22 dX1_run_17 (by decide) (by omega) (by omega) (by omega) (by omega) (fun h17 => ?_) (fun h17 => ?_)
    · skip
      refine A_aload_n (pc := 22) dX1_run_22 rfl rfl ?_
      refine A_iload (pc := 23) dX1_run_23 rfl ?_
      refine A_callVe0 (pc := 25) kX1_36 rfl rfl (c_X1_note hM c0 (by omega)) dX1_run_25 rfl rfl (Nat.le_of_ble_eq_true rfl) (Nat.le_of_ble_eq_true rfl) (fun υ hυ => ?_)
      refine A_iload (pc := 28) dX1_run_28 rfl ?_
      refine A_iconst (pc := 30) dX1_run_30 ?_
      refine A_iadd (pc := 31) dX1_run_31 ?_
      refine A_istore (pc := 32) dX1_run_32 (Nat.le_of_ble_eq_true rfl) ?_
      refine A_iload (pc := 34) dX1_run_34 rfl ?_
      refine A_lsw (pc := 36) [(10, 136), (11, 143), (12, 158), (20, 189), (30, 207), (40, 222), (50, 237), (51, 251), (60, 269), (70, 284), (71, 300)] 319 dX1_run_36 (by decide) (by decide) (by decide) (by omega) (by omega) ?_
      refine ⟨fun h36 => ?_, fun h36n10 => ?_⟩
      · skip
        exfalso; omega
      refine ⟨fun h36 => ?_, fun h36n11 => ?_⟩
      · skip
        exfalso; omega
      refine ⟨fun h36 => ?_, fun h36n12 => ?_⟩
      · skip
        exfalso; omega
      refine ⟨fun h36 => ?_, fun h36n20 => ?_⟩
      · skip
        exfalso; omega
      refine ⟨fun h36 => ?_, fun h36n30 => ?_⟩
      · skip
        refine A_aload_n (pc := 207) dX1_run_207 rfl rfl ?_
        refine A_iconst (pc := 208) dX1_run_208 ?_
        refine A_callN1 (pc := 209) lbX8_above stX8_above (List.mem_of_getElem? (i := 3) rfl) (c_X8_above (k := 2) (by omega) (by omega)) dX1_run_209 rfl rfl (Nat.le_of_ble_eq_true rfl) (Nat.le_of_ble_eq_true rfl) ?_
        refine A_iconst (pc := 212) dX1_run_212 ?_
        refine A_iload_n (pc := 213) dX1_run_213 rfl rfl ?_
        refine A_iload (pc := 214) dX1_run_214 rfl ?_
        refine A_callSe (pc := 216) kX1_28 (c_X1_run11 hυ.1 (mkT0 c0) (mkT1 (by omega)) (by decide) (by decide) (by decide) (by decide) (by omega) (by omega) K1 K2 (by decide)) dX1_run_216 rfl rfl (Nat.le_of_ble_eq_true rfl) (Nat.le_of_ble_eq_true rfl) (fun ω hω => ?_)
        refine A_iconst (pc := 219) dX1_run_219 ?_
        refine A_imul (pc := 220) dX1_run_220 ?_
        refine A_iret (pc := 221) rfl dX1_run_221 ?_
        exact ⟨rfl, hω.1, hυ.2.tr hω.2⟩
      refine ⟨fun h36 => ?_, fun h36n40 => ?_⟩
      · skip
        exfalso; omega
      refine ⟨fun h36 => ?_, fun h36n50 => ?_⟩
      · skip
        exfalso; omega
      refine ⟨fun h36 => ?_, fun h36n51 => ?_⟩
      · skip
        exfalso; omega
      refine ⟨fun h36 => ?_, fun h36n60 => ?_⟩
      · skip
        exfalso; omega
      refine ⟨fun h36 => ?_, fun h36n70 => ?_⟩
      · skip
        exfalso; omega
      refine ⟨fun h36 => ?_, fun h36n71 => ?_⟩
      · skip
        exfalso; omega
      change AW G _ _ _ _ _ 319 _ _ _ _
      exfalso; omega
    · skip
      refine A_iconst (pc := 20) dX1_run_20 ?_
      refine A_iret (pc := 21) rfl dX1_run_21 ?_
      exfalso; omega
set_option maxRecDepth 20000 in
theorem c_X1_run71 {G : Gl} {d : Nat} {σ : Sg} {n K a k m x t : Int} {c : Int × (Nat → Int)} (hM : MvX n K a c σ) (c0 : 0 ≤ c.1) (c1 : c.1 ≤ 95) (k1 : -1 ≤ k) (k2 : k < 7) (m1 : 0 ≤ m) (m2 : m < 3) (t1 : 0 ≤ t) (t2 : t ≤ 35) (K1 : 0 ≤ K) (K2 : K < 7) (hb : bdG m 7 k = 71) : CT G (d + 8) yX1_run cX1_run 7 (some .int) [.ref (gA G 12), .int (iI k), .int (iI m), .int (iI x), .int (iI t)] σ (RE (some (.int (iI (vb71 n a K x c).1))) (fun υ => MvX n K a (vb71 n a K x c).2 υ ∧ Fr S13 σ υ)) := by
  refine CT.of (by decide +kernel) (Nat.le_of_ble_eq_true rfl) ?_
  change AW G _ RX1 _ _ _ 0 [(0, .ref (gA G 12)), (1, .int (iI k)), (2, .int (iI m)), (3, .int (iI x)), (4, .int (iI t))] [] _ _
  refine A_iload_n (pc := 0) dX1_run_0 rfl rfl ?_
  refine A_iload_n (pc := 1) dX1_run_1 rfl rfl ?_
  refine A_callS1 (pc := 2) kX1_32 (c_X1_bodyOf k1 k2 m1 m2) dX1_run_2 rfl rfl (Nat.le_of_ble_eq_true rfl) (Nat.le_of_ble_eq_true rfl) ?_
  rw [hb]
  refine A_istore (pc := 5) dX1_run_5 (Nat.le_of_ble_eq_true rfl) ?_
  refine A_iload (pc := 7) dX1_run_7 rfl ?_
  refine A_iconst (pc := 9) dX1_run_9 ?_
  refine A_icmp_eq (pc := 10) 20 dX1_run_10 (by decide) (by omega) (by omega) (by omega) (by omega) (fun h10 => ?_) (fun h10 => ?_)
  · skip
    refine A_iconst (pc := 20) dX1_run_20 ?_
    refine A_iret (pc := 21) rfl dX1_run_21 ?_
    exfalso; omega
  · skip
    refine A_iload (pc := 13) dX1_run_13 rfl ?_
    refine A_bipush (pc := 15) dX1_run_15 (by decide) ?_
    refine A_icmp_le (pc := 17) 22 dX1_run_17 (by decide) (by omega) (by omega) (by omega) (by omega) (fun h17 => ?_) (fun h17 => ?_)
    · skip
      refine A_aload_n (pc := 22) dX1_run_22 rfl rfl ?_
      refine A_iload (pc := 23) dX1_run_23 rfl ?_
      refine A_callVe0 (pc := 25) kX1_36 rfl rfl (c_X1_note hM c0 (by omega)) dX1_run_25 rfl rfl (Nat.le_of_ble_eq_true rfl) (Nat.le_of_ble_eq_true rfl) (fun υ hυ => ?_)
      refine A_iload (pc := 28) dX1_run_28 rfl ?_
      refine A_iconst (pc := 30) dX1_run_30 ?_
      refine A_iadd (pc := 31) dX1_run_31 ?_
      refine A_istore (pc := 32) dX1_run_32 (Nat.le_of_ble_eq_true rfl) ?_
      refine A_iload (pc := 34) dX1_run_34 rfl ?_
      refine A_lsw (pc := 36) [(10, 136), (11, 143), (12, 158), (20, 189), (30, 207), (40, 222), (50, 237), (51, 251), (60, 269), (70, 284), (71, 300)] 319 dX1_run_36 (by decide) (by decide) (by decide) (by omega) (by omega) ?_
      refine ⟨fun h36 => ?_, fun h36n10 => ?_⟩
      · skip
        exfalso; omega
      refine ⟨fun h36 => ?_, fun h36n11 => ?_⟩
      · skip
        exfalso; omega
      refine ⟨fun h36 => ?_, fun h36n12 => ?_⟩
      · skip
        exfalso; omega
      refine ⟨fun h36 => ?_, fun h36n20 => ?_⟩
      · skip
        exfalso; omega
      refine ⟨fun h36 => ?_, fun h36n30 => ?_⟩
      · skip
        exfalso; omega
      refine ⟨fun h36 => ?_, fun h36n40 => ?_⟩
      · skip
        exfalso; omega
      refine ⟨fun h36 => ?_, fun h36n50 => ?_⟩
      · skip
        exfalso; omega
      refine ⟨fun h36 => ?_, fun h36n51 => ?_⟩
      · skip
        exfalso; omega
      refine ⟨fun h36 => ?_, fun h36n60 => ?_⟩
      · skip
        exfalso; omega
      refine ⟨fun h36 => ?_, fun h36n70 => ?_⟩
      · skip
        exfalso; omega
      refine ⟨fun h36 => ?_, fun h36n71 => ?_⟩
      · skip
        refine A_aload_n (pc := 300) dX1_run_300 rfl rfl ?_
        refine A_bipush (pc := 301) dX1_run_301 (by decide) ?_
        refine A_callN1 (pc := 303) lbX8_above stX8_above (List.mem_of_getElem? (i := 3) rfl) (c_X8_above (k := 6) (by omega) (by omega)) dX1_run_303 rfl rfl (Nat.le_of_ble_eq_true rfl) (Nat.le_of_ble_eq_true rfl) ?_
        refine A_iconst (pc := 306) dX1_run_306 ?_
        refine A_iload_n (pc := 307) dX1_run_307 rfl rfl ?_
        refine A_aload_n (pc := 308) dX1_run_308 rfl rfl ?_
        refine A_getIv (pc := 309) fX1_25 rfl rfl hυ.1.2.2.2.2 dX1_run_309 ?_
        refine A_isub (pc := 312) dX1_run_312 ?_
        refine A_iload (pc := 313) dX1_run_313 rfl ?_
        refine A_callSe (pc := 315) kX1_28 (c_X1_run30 hυ.1 (mkT0 c0) (mkT1 (by omega)) (by decide) (by decide) (by decide) (by decide) (by omega) (by omega) K1 K2 (by decide)) dX1_run_315 rfl rfl (Nat.le_of_ble_eq_true rfl) (Nat.le_of_ble_eq_true rfl) (fun ω hω => ?_)
        refine A_iret (pc := 318) rfl dX1_run_318 ?_
        exact ⟨rfl, hω.1, hυ.2.tr hω.2⟩
      change AW G _ _ _ _ _ 319 _ _ _ _
      exfalso; omega
    · skip
      refine A_iconst (pc := 20) dX1_run_20 ?_
      refine A_iret (pc := 21) rfl dX1_run_21 ?_
      exfalso; omega
theorem c_X1_runsh {G : Gl} {d : Nat} {σ : Sg} {n K a k x t : Int} {c : Int × (Nat → Int)} (hM : MvX n K a c σ) (c0 : 0 ≤ c.1) (c1 : c.1 ≤ 95) (k1 : 0 ≤ k) (k2 : k < 7) (t1 : 0 ≤ t) (t2 : t ≤ 35) (K1 : 0 ≤ K) (K2 : K < 7)  : CT G (d + 8) yX1_run cX1_run 7 (some .int) [.ref (gA G 12), .int (iI k), .int (iI 1), .int (iI x), .int (iI t)] σ (RE (some (.int (iI (vSh n a K k x c).1))) (fun υ => MvX n K a (vSh n a K k x c).2 υ ∧ Fr S13 σ υ)) := by
  have hk : k = 0 ∨ k = 1 ∨ k = 2 ∨ k = 3 ∨ k = 4 ∨ k = 5 ∨ k = 6 := by omega
  rcases hk with rfl | rfl | rfl | rfl | rfl | rfl | rfl
  · exact c_X1_run11 hM c0 (by omega) (by decide) (by decide) (by decide) (by decide) (by omega) (by omega) K1 K2 (by decide)
  · exact c_X1_run11 hM c0 (by omega) (by decide) (by decide) (by decide) (by decide) (by omega) (by omega) K1 K2 (by decide)
  · exact c_X1_run30 hM c0 (by omega) (by decide) (by decide) (by decide) (by decide) (by omega) (by omega) K1 K2 (by decide)
  · exact c_X1_run11 hM c0 (by omega) (by decide) (by decide) (by decide) (by decide) (by omega) (by omega) K1 K2 (by decide)
  · exact c_X1_run11 hM c0 (by omega) (by decide) (by decide) (by decide) (by decide) (by omega) (by omega) K1 K2 (by decide)
  · exact c_X1_run11 hM c0 (by omega) (by decide) (by decide) (by decide) (by decide) (by omega) (by omega) K1 K2 (by decide)
  · exact c_X1_run71 hM c0 (by omega) (by decide) (by decide) (by decide) (by decide) (by omega) (by omega) K1 K2 (by decide)
set_option maxRecDepth 20000 in
theorem c_X1_run12 {G : Gl} {d : Nat} {σ : Sg} {n K a k m x t : Int} {c : Int × (Nat → Int)} (hM : MvX n K a c σ) (c0 : 0 ≤ c.1) (c1 : c.1 ≤ 88) (k1 : -1 ≤ k) (k2 : k < 7) (m1 : 0 ≤ m) (m2 : m < 3) (t1 : 0 ≤ t) (t2 : t ≤ 34) (K1 : 0 ≤ K) (K2 : K < 7) (hb : bdG m 7 k = 12) : CT G (d + 9) yX1_run cX1_run 7 (some .int) [.ref (gA G 12), .int (iI k), .int (iI m), .int (iI x), .int (iI t)] σ (RE (some (.int (iI (vb12 n a K x c).1))) (fun υ => MvX n K a (vb12 n a K x c).2 υ ∧ Fr S13 σ υ)) := by
  refine CT.of (by decide +kernel) (Nat.le_of_ble_eq_true rfl) ?_
  change AW G _ RX1 _ _ _ 0 [(0, .ref (gA G 12)), (1, .int (iI k)), (2, .int (iI m)), (3, .int (iI x)), (4, .int (iI t))] [] _ _
  refine A_iload_n (pc := 0) dX1_run_0 rfl rfl ?_
  refine A_iload_n (pc := 1) dX1_run_1 rfl rfl ?_
  refine A_callS1 (pc := 2) kX1_32 (c_X1_bodyOf k1 k2 m1 m2) dX1_run_2 rfl rfl (Nat.le_of_ble_eq_true rfl) (Nat.le_of_ble_eq_true rfl) ?_
  rw [hb]
  refine A_istore (pc := 5) dX1_run_5 (Nat.le_of_ble_eq_true rfl) ?_
  refine A_iload (pc := 7) dX1_run_7 rfl ?_
  refine A_iconst (pc := 9) dX1_run_9 ?_
  refine A_icmp_eq (pc := 10) 20 dX1_run_10 (by decide) (by omega) (by omega) (by omega) (by omega) (fun h10 => ?_) (fun h10 => ?_)
  · skip
    refine A_iconst (pc := 20) dX1_run_20 ?_
    refine A_iret (pc := 21) rfl dX1_run_21 ?_
    exfalso; omega
  · skip
    refine A_iload (pc := 13) dX1_run_13 rfl ?_
    refine A_bipush (pc := 15) dX1_run_15 (by decide) ?_
    refine A_icmp_le (pc := 17) 22 dX1_run_17 (by decide) (by omega) (by omega) (by omega) (by omega) (fun h17 => ?_) (fun h17 => ?_)
    · skip
      refine A_aload_n (pc := 22) dX1_run_22 rfl rfl ?_
      refine A_iload (pc := 23) dX1_run_23 rfl ?_
      refine A_callVe0 (pc := 25) kX1_36 rfl rfl (c_X1_note hM c0 (by omega)) dX1_run_25 rfl rfl (Nat.le_of_ble_eq_true rfl) (Nat.le_of_ble_eq_true rfl) (fun υ hυ => ?_)
      refine A_iload (pc := 28) dX1_run_28 rfl ?_
      refine A_iconst (pc := 30) dX1_run_30 ?_
      refine A_iadd (pc := 31) dX1_run_31 ?_
      refine A_istore (pc := 32) dX1_run_32 (Nat.le_of_ble_eq_true rfl) ?_
      refine A_iload (pc := 34) dX1_run_34 rfl ?_
      refine A_lsw (pc := 36) [(10, 136), (11, 143), (12, 158), (20, 189), (30, 207), (40, 222), (50, 237), (51, 251), (60, 269), (70, 284), (71, 300)] 319 dX1_run_36 (by decide) (by decide) (by decide) (by omega) (by omega) ?_
      refine ⟨fun h36 => ?_, fun h36n10 => ?_⟩
      · skip
        exfalso; omega
      refine ⟨fun h36 => ?_, fun h36n11 => ?_⟩
      · skip
        exfalso; omega
      refine ⟨fun h36 => ?_, fun h36n12 => ?_⟩
      · skip
        refine A_aload_n (pc := 158) dX1_run_158 rfl rfl ?_
        refine A_aload_n (pc := 159) dX1_run_159 rfl rfl ?_
        refine A_getIv (pc := 160) fX1_22 rfl rfl hυ.1.2.2.2.1 dX1_run_160 ?_
        refine A_iconst (pc := 163) dX1_run_163 ?_
        refine A_iload_n (pc := 164) dX1_run_164 rfl rfl ?_
        refine A_iload (pc := 165) dX1_run_165 rfl ?_
        refine A_callSe (pc := 167) kX1_28 (c_X1_runsh hυ.1 (mkT0 c0) (mkT1 (by omega)) K1 K2 (by omega) (by omega) K1 K2) dX1_run_167 rfl rfl (Nat.le_of_ble_eq_true rfl) (Nat.le_of_ble_eq_true rfl) (fun ω hω => ?_)
        have hcc := vSh_c n a K K x (mkT c 12)
        have hce : (mkT c 12).1 = c.1 + 1 := rfl
        refine A_aload_n (pc := 170) dX1_run_170 rfl rfl ?_
        refine A_aload_n (pc := 171) dX1_run_171 rfl rfl ?_
        refine A_getIv (pc := 172) fX1_22 rfl rfl hω.1.2.2.2.1 dX1_run_172 ?_
        refine A_iconst (pc := 175) dX1_run_175 ?_
        refine A_iload_n (pc := 176) dX1_run_176 rfl rfl ?_
        refine A_aload_n (pc := 177) dX1_run_177 rfl rfl ?_
        refine A_getIv (pc := 178) fX1_25 rfl rfl hω.1.2.2.2.2 dX1_run_178 ?_
        refine A_isub (pc := 181) dX1_run_181 ?_
        refine A_iload (pc := 182) dX1_run_182 rfl ?_
        refine A_callSe (pc := 184) kX1_28 (c_X1_runop hω.1 (by omega) (by omega) K1 K2 (by omega) (by omega)) dX1_run_184 rfl rfl (Nat.le_of_ble_eq_true rfl) (Nat.le_of_ble_eq_true rfl) (fun χ hχ => ?_)
        refine A_ixor (pc := 187) (xrI _ _) dX1_run_187 (xrI_iI _ _) ?_
        refine A_iret (pc := 188) rfl dX1_run_188 ?_
        exact ⟨rfl, hχ.1, (hυ.2.tr hω.2).tr hχ.2⟩
      refine ⟨fun h36 => ?_, fun h36n20 => ?_⟩
      · skip
        exfalso; omega
      refine ⟨fun h36 => ?_, fun h36n30 => ?_⟩
      · skip
        exfalso; omega
      refine ⟨fun h36 => ?_, fun h36n40 => ?_⟩
      · skip
        exfalso; omega
      refine ⟨fun h36 => ?_, fun h36n50 => ?_⟩
      · skip
        exfalso; omega
      refine ⟨fun h36 => ?_, fun h36n51 => ?_⟩
      · skip
        exfalso; omega
      refine ⟨fun h36 => ?_, fun h36n60 => ?_⟩
      · skip
        exfalso; omega
      refine ⟨fun h36 => ?_, fun h36n70 => ?_⟩
      · skip
        exfalso; omega
      refine ⟨fun h36 => ?_, fun h36n71 => ?_⟩
      · skip
        exfalso; omega
      change AW G _ _ _ _ _ 319 _ _ _ _
      exfalso; omega
    · skip
      refine A_iconst (pc := 20) dX1_run_20 ?_
      refine A_iret (pc := 21) rfl dX1_run_21 ?_
      exfalso; omega
set_option maxRecDepth 20000 in
theorem c_X1_run50 {G : Gl} {d : Nat} {σ : Sg} {n K a k m x t : Int} {c : Int × (Nat → Int)} (hM : MvX n K a c σ) (c0 : 0 ≤ c.1) (c1 : c.1 ≤ 87) (k1 : -1 ≤ k) (k2 : k < 7) (m1 : 0 ≤ m) (m2 : m < 3) (t1 : 0 ≤ t) (t2 : t ≤ 33) (K1 : 0 ≤ K) (K2 : K < 7) (hb : bdG m 7 k = 50) : CT G (d + 10) yX1_run cX1_run 7 (some .int) [.ref (gA G 12), .int (iI k), .int (iI m), .int (iI x), .int (iI t)] σ (RE (some (.int (iI (vb50 n a K x c).1))) (fun υ => MvX n K a (vb50 n a K x c).2 υ ∧ Fr S13 σ υ)) := by
  refine CT.of (by decide +kernel) (Nat.le_of_ble_eq_true rfl) ?_
  change AW G _ RX1 _ _ _ 0 [(0, .ref (gA G 12)), (1, .int (iI k)), (2, .int (iI m)), (3, .int (iI x)), (4, .int (iI t))] [] _ _
  refine A_iload_n (pc := 0) dX1_run_0 rfl rfl ?_
  refine A_iload_n (pc := 1) dX1_run_1 rfl rfl ?_
  refine A_callS1 (pc := 2) kX1_32 (c_X1_bodyOf k1 k2 m1 m2) dX1_run_2 rfl rfl (Nat.le_of_ble_eq_true rfl) (Nat.le_of_ble_eq_true rfl) ?_
  rw [hb]
  refine A_istore (pc := 5) dX1_run_5 (Nat.le_of_ble_eq_true rfl) ?_
  refine A_iload (pc := 7) dX1_run_7 rfl ?_
  refine A_iconst (pc := 9) dX1_run_9 ?_
  refine A_icmp_eq (pc := 10) 20 dX1_run_10 (by decide) (by omega) (by omega) (by omega) (by omega) (fun h10 => ?_) (fun h10 => ?_)
  · skip
    refine A_iconst (pc := 20) dX1_run_20 ?_
    refine A_iret (pc := 21) rfl dX1_run_21 ?_
    exfalso; omega
  · skip
    refine A_iload (pc := 13) dX1_run_13 rfl ?_
    refine A_bipush (pc := 15) dX1_run_15 (by decide) ?_
    refine A_icmp_le (pc := 17) 22 dX1_run_17 (by decide) (by omega) (by omega) (by omega) (by omega) (fun h17 => ?_) (fun h17 => ?_)
    · skip
      refine A_aload_n (pc := 22) dX1_run_22 rfl rfl ?_
      refine A_iload (pc := 23) dX1_run_23 rfl ?_
      refine A_callVe0 (pc := 25) kX1_36 rfl rfl (c_X1_note hM c0 (by omega)) dX1_run_25 rfl rfl (Nat.le_of_ble_eq_true rfl) (Nat.le_of_ble_eq_true rfl) (fun υ hυ => ?_)
      refine A_iload (pc := 28) dX1_run_28 rfl ?_
      refine A_iconst (pc := 30) dX1_run_30 ?_
      refine A_iadd (pc := 31) dX1_run_31 ?_
      refine A_istore (pc := 32) dX1_run_32 (Nat.le_of_ble_eq_true rfl) ?_
      refine A_iload (pc := 34) dX1_run_34 rfl ?_
      refine A_lsw (pc := 36) [(10, 136), (11, 143), (12, 158), (20, 189), (30, 207), (40, 222), (50, 237), (51, 251), (60, 269), (70, 284), (71, 300)] 319 dX1_run_36 (by decide) (by decide) (by decide) (by omega) (by omega) ?_
      refine ⟨fun h36 => ?_, fun h36n10 => ?_⟩
      · skip
        exfalso; omega
      refine ⟨fun h36 => ?_, fun h36n11 => ?_⟩
      · skip
        exfalso; omega
      refine ⟨fun h36 => ?_, fun h36n12 => ?_⟩
      · skip
        exfalso; omega
      refine ⟨fun h36 => ?_, fun h36n20 => ?_⟩
      · skip
        exfalso; omega
      refine ⟨fun h36 => ?_, fun h36n30 => ?_⟩
      · skip
        exfalso; omega
      refine ⟨fun h36 => ?_, fun h36n40 => ?_⟩
      · skip
        exfalso; omega
      refine ⟨fun h36 => ?_, fun h36n50 => ?_⟩
      · skip
        refine A_aload_n (pc := 237) dX1_run_237 rfl rfl ?_
        refine A_iconst (pc := 238) dX1_run_238 ?_
        refine A_callN1 (pc := 239) lbX8_above stX8_above (List.mem_of_getElem? (i := 3) rfl) (c_X8_above (k := 4) (by omega) (by omega)) dX1_run_239 rfl rfl (Nat.le_of_ble_eq_true rfl) (Nat.le_of_ble_eq_true rfl) ?_
        refine A_iconst (pc := 242) dX1_run_242 ?_
        refine A_iload_n (pc := 243) dX1_run_243 rfl rfl ?_
        refine A_iload (pc := 244) dX1_run_244 rfl ?_
        refine A_callSe (pc := 246) kX1_28 (c_X1_run12 hυ.1 (mkT0 c0) (mkT1 (by omega)) (by decide) (by decide) (by decide) (by decide) (by omega) (by omega) K1 K2 (by decide)) dX1_run_246 rfl rfl (Nat.le_of_ble_eq_true rfl) (Nat.le_of_ble_eq_true rfl) (fun ω hω => ?_)
        refine A_ineg (pc := 249) dX1_run_249 ?_
        refine A_iret (pc := 250) rfl dX1_run_250 ?_
        exact ⟨rfl, hω.1, hυ.2.tr hω.2⟩
      refine ⟨fun h36 => ?_, fun h36n51 => ?_⟩
      · skip
        exfalso; omega
      refine ⟨fun h36 => ?_, fun h36n60 => ?_⟩
      · skip
        exfalso; omega
      refine ⟨fun h36 => ?_, fun h36n70 => ?_⟩
      · skip
        exfalso; omega
      refine ⟨fun h36 => ?_, fun h36n71 => ?_⟩
      · skip
        exfalso; omega
      change AW G _ _ _ _ _ 319 _ _ _ _
      exfalso; omega
    · skip
      refine A_iconst (pc := 20) dX1_run_20 ?_
      refine A_iret (pc := 21) rfl dX1_run_21 ?_
      exfalso; omega
set_option maxRecDepth 20000 in
theorem c_X1_run60 {G : Gl} {d : Nat} {σ : Sg} {n K a k m x t : Int} {c : Int × (Nat → Int)} (hM : MvX n K a c σ) (c0 : 0 ≤ c.1) (c1 : c.1 ≤ 86) (k1 : -1 ≤ k) (k2 : k < 7) (m1 : 0 ≤ m) (m2 : m < 3) (t1 : 0 ≤ t) (t2 : t ≤ 32) (K1 : 0 ≤ K) (K2 : K < 7) (hb : bdG m 7 k = 60) : CT G (d + 11) yX1_run cX1_run 7 (some .int) [.ref (gA G 12), .int (iI k), .int (iI m), .int (iI x), .int (iI t)] σ (RE (some (.int (iI (vb60 n a K x c).1))) (fun υ => MvX n K a (vb60 n a K x c).2 υ ∧ Fr S13 σ υ)) := by
  refine CT.of (by decide +kernel) (Nat.le_of_ble_eq_true rfl) ?_
  change AW G _ RX1 _ _ _ 0 [(0, .ref (gA G 12)), (1, .int (iI k)), (2, .int (iI m)), (3, .int (iI x)), (4, .int (iI t))] [] _ _
  refine A_iload_n (pc := 0) dX1_run_0 rfl rfl ?_
  refine A_iload_n (pc := 1) dX1_run_1 rfl rfl ?_
  refine A_callS1 (pc := 2) kX1_32 (c_X1_bodyOf k1 k2 m1 m2) dX1_run_2 rfl rfl (Nat.le_of_ble_eq_true rfl) (Nat.le_of_ble_eq_true rfl) ?_
  rw [hb]
  refine A_istore (pc := 5) dX1_run_5 (Nat.le_of_ble_eq_true rfl) ?_
  refine A_iload (pc := 7) dX1_run_7 rfl ?_
  refine A_iconst (pc := 9) dX1_run_9 ?_
  refine A_icmp_eq (pc := 10) 20 dX1_run_10 (by decide) (by omega) (by omega) (by omega) (by omega) (fun h10 => ?_) (fun h10 => ?_)
  · skip
    refine A_iconst (pc := 20) dX1_run_20 ?_
    refine A_iret (pc := 21) rfl dX1_run_21 ?_
    exfalso; omega
  · skip
    refine A_iload (pc := 13) dX1_run_13 rfl ?_
    refine A_bipush (pc := 15) dX1_run_15 (by decide) ?_
    refine A_icmp_le (pc := 17) 22 dX1_run_17 (by decide) (by omega) (by omega) (by omega) (by omega) (fun h17 => ?_) (fun h17 => ?_)
    · skip
      refine A_aload_n (pc := 22) dX1_run_22 rfl rfl ?_
      refine A_iload (pc := 23) dX1_run_23 rfl ?_
      refine A_callVe0 (pc := 25) kX1_36 rfl rfl (c_X1_note hM c0 (by omega)) dX1_run_25 rfl rfl (Nat.le_of_ble_eq_true rfl) (Nat.le_of_ble_eq_true rfl) (fun υ hυ => ?_)
      refine A_iload (pc := 28) dX1_run_28 rfl ?_
      refine A_iconst (pc := 30) dX1_run_30 ?_
      refine A_iadd (pc := 31) dX1_run_31 ?_
      refine A_istore (pc := 32) dX1_run_32 (Nat.le_of_ble_eq_true rfl) ?_
      refine A_iload (pc := 34) dX1_run_34 rfl ?_
      refine A_lsw (pc := 36) [(10, 136), (11, 143), (12, 158), (20, 189), (30, 207), (40, 222), (50, 237), (51, 251), (60, 269), (70, 284), (71, 300)] 319 dX1_run_36 (by decide) (by decide) (by decide) (by omega) (by omega) ?_
      refine ⟨fun h36 => ?_, fun h36n10 => ?_⟩
      · skip
        exfalso; omega
      refine ⟨fun h36 => ?_, fun h36n11 => ?_⟩
      · skip
        exfalso; omega
      refine ⟨fun h36 => ?_, fun h36n12 => ?_⟩
      · skip
        exfalso; omega
      refine ⟨fun h36 => ?_, fun h36n20 => ?_⟩
      · skip
        exfalso; omega
      refine ⟨fun h36 => ?_, fun h36n30 => ?_⟩
      · skip
        exfalso; omega
      refine ⟨fun h36 => ?_, fun h36n40 => ?_⟩
      · skip
        exfalso; omega
      refine ⟨fun h36 => ?_, fun h36n50 => ?_⟩
      · skip
        exfalso; omega
      refine ⟨fun h36 => ?_, fun h36n51 => ?_⟩
      · skip
        exfalso; omega
      refine ⟨fun h36 => ?_, fun h36n60 => ?_⟩
      · skip
        refine A_aload_n (pc := 269) dX1_run_269 rfl rfl ?_
        refine A_iconst (pc := 270) dX1_run_270 ?_
        refine A_callN1 (pc := 271) lbX8_above stX8_above (List.mem_of_getElem? (i := 3) rfl) (c_X8_above (k := 5) (by omega) (by omega)) dX1_run_271 rfl rfl (Nat.le_of_ble_eq_true rfl) (Nat.le_of_ble_eq_true rfl) ?_
        refine A_iconst (pc := 274) dX1_run_274 ?_
        refine A_iload_n (pc := 275) dX1_run_275 rfl rfl ?_
        refine A_iload (pc := 276) dX1_run_276 rfl ?_
        refine A_callSe (pc := 278) kX1_28 (c_X1_run50 hυ.1 (mkT0 c0) (mkT1 (by omega)) (by decide) (by decide) (by decide) (by decide) (by omega) (by omega) K1 K2 (by decide)) dX1_run_278 rfl rfl (Nat.le_of_ble_eq_true rfl) (Nat.le_of_ble_eq_true rfl) (fun ω hω => ?_)
        refine A_iconst (pc := 281) dX1_run_281 ?_
        refine A_ixor (pc := 282) (xrI _ _) dX1_run_282 (xrI_iI _ _) ?_
        refine A_iret (pc := 283) rfl dX1_run_283 ?_
        exact ⟨rfl, hω.1, hυ.2.tr hω.2⟩
      refine ⟨fun h36 => ?_, fun h36n70 => ?_⟩
      · skip
        exfalso; omega
      refine ⟨fun h36 => ?_, fun h36n71 => ?_⟩
      · skip
        exfalso; omega
      change AW G _ _ _ _ _ 319 _ _ _ _
      exfalso; omega
    · skip
      refine A_iconst (pc := 20) dX1_run_20 ?_
      refine A_iret (pc := 21) rfl dX1_run_21 ?_
      exfalso; omega
theorem c_X1_runsi {G : Gl} {d : Nat} {σ : Sg} {n K a k x t : Int} {c : Int × (Nat → Int)} (hM : MvX n K a c σ) (c0 : 0 ≤ c.1) (c1 : c.1 ≤ 86) (k1 : 0 ≤ k) (k2 : k < 7) (t1 : 0 ≤ t) (t2 : t ≤ 32) (K1 : 0 ≤ K) (K2 : K < 7)  : CT G (d + 11) yX1_run cX1_run 7 (some .int) [.ref (gA G 12), .int (iI k), .int (iI 2), .int (iI x), .int (iI t)] σ (RE (some (.int (iI (vSi n a K k x c).1))) (fun υ => MvX n K a (vSi n a K k x c).2 υ ∧ Fr S13 σ υ)) := by
  have hk : k = 0 ∨ k = 1 ∨ k = 2 ∨ k = 3 ∨ k = 4 ∨ k = 5 ∨ k = 6 := by omega
  rcases hk with rfl | rfl | rfl | rfl | rfl | rfl | rfl
  · exact c_X1_run12 hM c0 (by omega) (by decide) (by decide) (by decide) (by decide) (by omega) (by omega) K1 K2 (by decide)
  · exact c_X1_run12 hM c0 (by omega) (by decide) (by decide) (by decide) (by decide) (by omega) (by omega) K1 K2 (by decide)
  · exact c_X1_run12 hM c0 (by omega) (by decide) (by decide) (by decide) (by decide) (by omega) (by omega) K1 K2 (by decide)
  · exact c_X1_run12 hM c0 (by omega) (by decide) (by decide) (by decide) (by decide) (by omega) (by omega) K1 K2 (by decide)
  · exact c_X1_run50 hM c0 (by omega) (by decide) (by decide) (by decide) (by decide) (by omega) (by omega) K1 K2 (by decide)
  · exact c_X1_run60 hM c0 (by omega) (by decide) (by decide) (by decide) (by decide) (by omega) (by omega) K1 K2 (by decide)
  · exact c_X1_run12 hM c0 (by omega) (by decide) (by decide) (by decide) (by decide) (by omega) (by omega) K1 K2 (by decide)
