/-! PART 11: changes of a town; int masks; WindowsLookedOut$Town, second half (s_l, fa_or, fa_and are pasted from kit/laws) -/
theorem s_l : ∀ n, n < 32 → ((nI n &&& 31).toBitVec.smod 32).toNat = n := by decide +kernel
theorem fa_or (a b : Nat) : nI a ||| nI b = nI (a ||| b) := by
  apply Int32.toBitVec_inj.1
  show BitVec.ofNat 32 a ||| BitVec.ofNat 32 b = BitVec.ofNat 32 (a ||| b)
  apply BitVec.eq_of_getLsbD_eq
  intro i hi
  simp [hi]
theorem fa_and (a b : Nat) : nI a &&& nI b = nI (a &&& b) := by
  apply Int32.toBitVec_inj.1
  show BitVec.ofNat 32 a &&& BitVec.ofNat 32 b = BitVec.ofNat 32 (a &&& b)
  apply BitVec.eq_of_getLsbD_eq
  intro i hi
  simp [hi]
theorem or_I (a b : Nat) : iI (a : Int) ||| iI (b : Int) = iI ((a ||| b : Nat) : Int) := by rw [iI_n, iI_n, iI_n, fa_or]
theorem and_I (a b : Nat) : iI (a : Int) &&& iI (b : Int) = iI ((a &&& b : Nat) : Int) := by rw [iI_n, iI_n, iI_n, fa_and]
theorem shl_I {k : Nat} (hk : k < 32) : iI 1 <<< (iI (k : Int) &&& 31) = iI ((2 ^ k : Nat) : Int) := by
  have h := pk_shlN (n := 1) (nI k &&& 31) k (s_l k hk) (by rw [Nat.one_mul]; exact Nat.pow_lt_pow_right (by decide) hk)
  rw [iI_n, iI_n, show iI 1 = nI 1 from iI_n 1, h, Nat.one_mul]
def TS (c : Nat) : Nat → Prop := fun a => c ≤ a ∧ a < c + 8
def tH (τ : Tw) (h : Nat) : Tw := (h, τ.2)
def tS (τ : Tw) (k : Nat) (v : Int) : Tw := (τ.1, fun i => if i = k then v else τ.2.1 i, τ.2.2)
def tA (τ : Tw) (j p : Nat) (v : Int) : Tw := (τ.1, τ.2.1, fun a b => if a = j ∧ b = p then v else τ.2.2 a b)
theorem RX.setH {c : Nat} {τ : Tw} {σ : Sg} (h : RX c τ σ) (b : Nat) : RX c (tH τ b) (uL σ c 0 (lN b)) := by
  refine ⟨by simp [uL, tH], h.2.1, h.2.2.1, h.2.2.2⟩
theorem RX.setS {c : Nat} {τ : Tw} {σ : Sg} (h : RX c τ σ) {k : Nat} (v : Int) (h1 : 2 ≤ k) : RX c (tS τ k v) (uI σ c (k + 1) v) := by
  have n0 : (tS τ k v).2.1 0 = τ.2.1 0 := if_neg (by omega)
  have n1 : (tS τ k v).2.1 1 = τ.2.1 1 := if_neg (by omega)
  refine ⟨h.1, fun i hi => ?_, fun j p hj hp => ?_, fun j p hj hp => ?_⟩
  · rw [uI_at]
    by_cases e : i = k
    · rw [if_pos ⟨rfl, by omega⟩]; exact (if_pos e).symm
    · rw [if_neg (by omega), h.2.1 i hi]; exact (if_neg e).symm
  · rw [uI_at, if_neg (by omega)]; rw [n0] at hp; exact h.2.2.1 j p hj hp
  · rw [uI_at, if_neg (by omega)]; rw [n1] at hp; exact h.2.2.2 j p hj hp
theorem RX.setA {c : Nat} {τ : Tw} {σ : Sg} (h : RX c τ σ) (j p : Nat) (v : Int) (hj : j < 7) : RX c (tA τ j p v) (uI σ (c + 1 + j) p v) := by
  refine ⟨h.1, fun i hi => ?_, fun i q hi hq => ?_, fun i q hi hq => ?_⟩
  · rw [uI_at, if_neg (by omega)]; exact h.2.1 i hi
  · rw [uI_at]
    show _ = (if i = j ∧ q = p then v else τ.2.2 i q)
    by_cases e : i = j ∧ q = p
    · rw [if_pos e, if_pos (by omega)]
    · rw [if_neg e, if_neg (by omega)]; exact h.2.2.1 i q hi hq
  · rw [uI_at]
    show _ = (if 4 + i = j ∧ q = p then v else τ.2.2 (4 + i) q)
    by_cases e : 4 + i = j ∧ q = p
    · rw [if_pos e, if_pos (by omega)]
    · rw [if_neg e, if_neg (by omega)]; exact h.2.2.2 i q hi hq
theorem RX.inc0 {c : Nat} {τ : Tw} {σ : Sg} (h : RX c τ σ) {n : Nat} (hn : τ.2.1 0 = n) (hA : ∀ j, j < 4 → σ.1 (c + 1 + j) n = τ.2.2 j n) : RX c (tS τ 0 (n + 1)) (uI σ c 1 (n + 1)) := by
  refine ⟨h.1, fun i hi => ?_, fun j p hj hp => ?_, fun j p hj hp => ?_⟩
  · rw [uI_at]
    by_cases e : i = 0
    · rw [if_pos ⟨rfl, by omega⟩]; exact (if_pos e).symm
    · rw [if_neg (by omega), h.2.1 i hi]; exact (if_neg e).symm
  · rw [uI_at, if_neg (by omega)]
    have hp2 : (p : Int) < n + 1 := hp
    by_cases e : p = n
    · rw [e]; exact hA j hj
    · exact h.2.2.1 j p hj (by omega)
  · rw [uI_at, if_neg (by omega)]; exact h.2.2.2 j p hj hp
theorem RX.inc1 {c : Nat} {τ : Tw} {σ : Sg} (h : RX c τ σ) {n : Nat} (hn : τ.2.1 1 = n) (hA : ∀ j, j < 3 → σ.1 (c + 5 + j) n = τ.2.2 (4 + j) n) : RX c (tS τ 1 (n + 1)) (uI σ c 2 (n + 1)) := by
  refine ⟨h.1, fun i hi => ?_, fun j p hj hp => ?_, fun j p hj hp => ?_⟩
  · rw [uI_at]
    by_cases e : i = 1
    · rw [if_pos ⟨rfl, by omega⟩]; exact (if_pos e).symm
    · rw [if_neg (by omega), h.2.1 i hi]; exact (if_neg e).symm
  · rw [uI_at, if_neg (by omega)]; exact h.2.2.1 j p hj hp
  · rw [uI_at, if_neg (by omega)]
    have hp2 : (p : Int) < n + 1 := hp
    by_cases e : p = n
    · rw [e]; exact hA j hj
    · exact h.2.2.2 j p hj (by omega)
/-- a pane more, a walker more, a walker put, put to shame -/
def addP (τ : Tw) (k a s w : Int) : Tw := tS (tA (tA (tA (tA τ 0 (τ.2.1 0).toNat k) 1 (τ.2.1 0).toNat a) 2 (τ.2.1 0).toNat s) 3 (τ.2.1 0).toNat w) 0 (τ.2.1 0 + 1)
def addW (τ : Tw) (s w : Int) : Tw := tS (tA (tA (tA τ 4 (τ.2.1 1).toNat s) 5 (τ.2.1 1).toNat w) 6 (τ.2.1 1).toNat 0) 1 (τ.2.1 1 + 1)
def plc (τ : Tw) (p : Nat) (s w : Int) : Tw := tA (tA τ 4 p s) 5 p w
def bea (τ : Tw) (p : Nat) (m : Int) : Tw := if 0 < m then tA (tS τ 4 (τ.2.1 4 + m)) 6 p (τ.2.2 6 p + 1) else tS τ 4 (τ.2.1 4 + m)
theorem shpTA {c j n : Nat} (h : TC c) (hj : j < 4 ∧ n = 9 ∨ 4 ≤ j ∧ j < 7 ∧ n = 5) : shp (c + 1 + j) = .inr (0, n) := by
  have hh : j = 0 ∨ j = 1 ∨ j = 2 ∨ j = 3 ∨ j = 4 ∨ j = 5 ∨ j = 6 := by omega
  rcases h with rfl | rfl | rfl <;> rcases hh with rfl | rfl | rfl | rfl | rfl | rfl | rfl <;> (have : n = 9 ∨ n = 5 := by omega) <;> (first | (have e : n = 9 := by omega); subst e; rfl | (have e : n = 5 := by omega); subst e; rfl)
theorem dX5_letsIn_0 : decode cX5_letsIn 0 = .ok (.iload_n 0, 1) := by decide +kernel
theorem dX5_letsIn_1 : decode cX5_letsIn 1 = .ok (.tableswitch 53 1 3 #[27, 40, 29], 27) := by decide +kernel
theorem dX5_letsIn_28 : decode cX5_letsIn 28 = .ok (.iconst 0, 1) := by decide +kernel
theorem dX5_letsIn_29 : decode cX5_letsIn 29 = .ok (.ireturn, 1) := by decide +kernel
theorem dX5_letsIn_30 : decode cX5_letsIn 30 = .ok (.iload_n 2, 1) := by decide +kernel
theorem dX5_letsIn_31 : decode cX5_letsIn 31 = .ok (.iconst 1, 1) := by decide +kernel
theorem dX5_letsIn_32 : decode cX5_letsIn 32 = .ok (.if_icmp .ne 7, 3) := by decide +kernel
theorem dX5_letsIn_35 : decode cX5_letsIn 35 = .ok (.iconst 1, 1) := by decide +kernel
theorem dX5_letsIn_36 : decode cX5_letsIn 36 = .ok (.goto 4, 3) := by decide +kernel
theorem dX5_letsIn_39 : decode cX5_letsIn 39 = .ok (.iconst 0, 1) := by decide +kernel
theorem dX5_letsIn_40 : decode cX5_letsIn 40 = .ok (.ireturn, 1) := by decide +kernel
theorem dX5_letsIn_41 : decode cX5_letsIn 41 = .ok (.iload_n 2, 1) := by decide +kernel
theorem dX5_letsIn_42 : decode cX5_letsIn 42 = .ok (.iload_n 1, 1) := by decide +kernel
theorem dX5_letsIn_43 : decode cX5_letsIn 43 = .ok (.iconst 1, 1) := by decide +kernel
theorem dX5_letsIn_44 : decode cX5_letsIn 44 = .ok (.iadd, 1) := by decide +kernel
theorem dX5_letsIn_45 : decode cX5_letsIn 45 = .ok (.if_icmp .gt 7, 3) := by decide +kernel
theorem dX5_letsIn_48 : decode cX5_letsIn 48 = .ok (.iconst 1, 1) := by decide +kernel
theorem dX5_letsIn_49 : decode cX5_letsIn 49 = .ok (.goto 4, 3) := by decide +kernel
theorem dX5_letsIn_52 : decode cX5_letsIn 52 = .ok (.iconst 0, 1) := by decide +kernel
theorem dX5_letsIn_53 : decode cX5_letsIn 53 = .ok (.ireturn, 1) := by decide +kernel
theorem dX5_letsIn_54 : decode cX5_letsIn 54 = .ok (.iconst 1, 1) := by decide +kernel
theorem dX5_letsIn_55 : decode cX5_letsIn 55 = .ok (.ireturn, 1) := by decide +kernel
set_option maxRecDepth 20000 in
theorem c_X5_letsIn {G : Gl} {d : Nat} {σ : Sg} {k a off : Int} (k1 : -2147483648 ≤ k) (k2 : k < 2147483648) (a1 : 0 ≤ a) (a2 : a ≤ 9) (f1 : -2147483648 ≤ off) (f2 : off < 2147483648) : CT G d yX5_letsIn cX5_letsIn 3 (some .boolean) [.int (iI k), .int (iI a), .int (iI off)] σ (R1 (.int (iI (bI (lets k a off = true)))) σ) := by
  refine CT.of (by decide +kernel) (Nat.le_of_ble_eq_true rfl) ?_
  change AW G _ RX5 _ _ _ 0 [(0, .int (iI k)), (1, .int (iI a)), (2, .int (iI off))] [] _ _
  refine A_iload_n (pc := 0) dX5_letsIn_0 rfl rfl ?_
  refine A_tsw (pc := 1) [(1, 28), (2, 41), (3, 30)] 54 dX5_letsIn_1 (by decide) (by decide) (by decide) (by omega) (by omega) ?_
  refine ⟨fun h1 => ?_, fun h1n1 => ?_⟩
  · skip
    refine A_iconst (pc := 28) dX5_letsIn_28 ?_
    refine A_zret (pc := 29) rfl rfl dX5_letsIn_29 ?_
    exact R1_f (by unfold lets; (repeat' split) <;> first | omega | (simp; done) | (simp; omega))
  refine ⟨fun h1 => ?_, fun h1n2 => ?_⟩
  · skip
    refine A_iload_n (pc := 41) dX5_letsIn_41 rfl rfl ?_
    refine A_iload_n (pc := 42) dX5_letsIn_42 rfl rfl ?_
    refine A_iconst (pc := 43) dX5_letsIn_43 ?_
    refine A_iadd (pc := 44) dX5_letsIn_44 ?_
    refine A_icmp_gt (pc := 45) 52 dX5_letsIn_45 (by decide) (by omega) (by omega) (by omega) (by omega) (fun h45 => ?_) (fun h45 => ?_)
    · skip
      refine A_iconst (pc := 52) dX5_letsIn_52 ?_
      refine A_zret (pc := 53) rfl rfl dX5_letsIn_53 ?_
      exact R1_f (by unfold lets; (repeat' split) <;> first | omega | (simp; done) | (simp; omega))
    · skip
      refine A_iconst (pc := 48) dX5_letsIn_48 ?_
      refine A_goto (pc := 49) 53 dX5_letsIn_49 (by decide) ?_
      refine A_zret (pc := 53) rfl rfl dX5_letsIn_53 ?_
      exact R1_t (by unfold lets; (repeat' split) <;> first | omega | (simp; done) | (simp; omega))
  refine ⟨fun h1 => ?_, fun h1n3 => ?_⟩
  · skip
    refine A_iload_n (pc := 30) dX5_letsIn_30 rfl rfl ?_
    refine A_iconst (pc := 31) dX5_letsIn_31 ?_
    refine A_icmp_ne (pc := 32) 39 dX5_letsIn_32 (by decide) (by omega) (by omega) (by omega) (by omega) (fun h32 => ?_) (fun h32 => ?_)
    · skip
      refine A_iconst (pc := 39) dX5_letsIn_39 ?_
      refine A_zret (pc := 40) rfl rfl dX5_letsIn_40 ?_
      exact R1_f (by unfold lets; (repeat' split) <;> first | omega | (simp; done) | (simp; omega))
    · skip
      refine A_iconst (pc := 35) dX5_letsIn_35 ?_
      refine A_goto (pc := 36) 40 dX5_letsIn_36 (by decide) ?_
      refine A_zret (pc := 40) rfl rfl dX5_letsIn_40 ?_
      exact R1_t (by unfold lets; (repeat' split) <;> first | omega | (simp; done) | (simp; omega))
  change AW G _ _ _ _ _ 54 _ _ _ _
  refine A_iconst (pc := 54) dX5_letsIn_54 ?_
  refine A_zret (pc := 55) rfl rfl dX5_letsIn_55 ?_
  exact R1_t (by unfold lets; (repeat' split) <;> first | omega | (simp; done) | (simp; omega))
theorem dX5_openTo_0 : decode cX5_openTo 0 = .ok (.iconst 0, 1) := by decide +kernel
theorem dX5_openTo_1 : decode cX5_openTo 1 = .ok (.istore 4, 2) := by decide +kernel
theorem dX5_openTo_3 : decode cX5_openTo 3 = .ok (.iconst 0, 1) := by decide +kernel
theorem dX5_openTo_4 : decode cX5_openTo 4 = .ok (.istore 5, 2) := by decide +kernel
theorem dX5_openTo_6 : decode cX5_openTo 6 = .ok (.iload 5, 2) := by decide +kernel
theorem dX5_openTo_8 : decode cX5_openTo 8 = .ok (.aload_n 0, 1) := by decide +kernel
theorem dX5_openTo_9 : decode cX5_openTo 9 = .ok (.getfield 15, 3) := by decide +kernel
theorem dX5_openTo_12 : decode cX5_openTo 12 = .ok (.if_icmp .ge 68, 3) := by decide +kernel
theorem dX5_openTo_15 : decode cX5_openTo 15 = .ok (.iload 5, 2) := by decide +kernel
theorem dX5_openTo_17 : decode cX5_openTo 17 = .ok (.bipush 9, 2) := by decide +kernel
theorem dX5_openTo_19 : decode cX5_openTo 19 = .ok (.if_icmp .ge 61, 3) := by decide +kernel
theorem dX5_openTo_22 : decode cX5_openTo 22 = .ok (.aload_n 0, 1) := by decide +kernel
theorem dX5_openTo_23 : decode cX5_openTo 23 = .ok (.getfield 41, 3) := by decide +kernel
theorem dX5_openTo_26 : decode cX5_openTo 26 = .ok (.iload 5, 2) := by decide +kernel
theorem dX5_openTo_28 : decode cX5_openTo 28 = .ok (.iaload, 1) := by decide +kernel
theorem dX5_openTo_29 : decode cX5_openTo 29 = .ok (.iload_n 1, 1) := by decide +kernel
theorem dX5_openTo_30 : decode cX5_openTo 30 = .ok (.if_icmp .ne 44, 3) := by decide +kernel
theorem dX5_openTo_33 : decode cX5_openTo 33 = .ok (.aload_n 0, 1) := by decide +kernel
theorem dX5_openTo_34 : decode cX5_openTo 34 = .ok (.getfield 44, 3) := by decide +kernel
theorem dX5_openTo_37 : decode cX5_openTo 37 = .ok (.iload 5, 2) := by decide +kernel
theorem dX5_openTo_39 : decode cX5_openTo 39 = .ok (.iaload, 1) := by decide +kernel
theorem dX5_openTo_40 : decode cX5_openTo 40 = .ok (.iload_n 2, 1) := by decide +kernel
theorem dX5_openTo_41 : decode cX5_openTo 41 = .ok (.if_icmp .ne 33, 3) := by decide +kernel
theorem dX5_openTo_44 : decode cX5_openTo 44 = .ok (.aload_n 0, 1) := by decide +kernel
theorem dX5_openTo_45 : decode cX5_openTo 45 = .ok (.getfield 34, 3) := by decide +kernel
theorem dX5_openTo_48 : decode cX5_openTo 48 = .ok (.iload 5, 2) := by decide +kernel
theorem dX5_openTo_50 : decode cX5_openTo 50 = .ok (.iaload, 1) := by decide +kernel
theorem dX5_openTo_51 : decode cX5_openTo 51 = .ok (.aload_n 0, 1) := by decide +kernel
theorem dX5_openTo_52 : decode cX5_openTo 52 = .ok (.getfield 38, 3) := by decide +kernel
theorem dX5_openTo_55 : decode cX5_openTo 55 = .ok (.iload 5, 2) := by decide +kernel
theorem dX5_openTo_57 : decode cX5_openTo 57 = .ok (.iaload, 1) := by decide +kernel
theorem dX5_openTo_58 : decode cX5_openTo 58 = .ok (.iload_n 3, 1) := by decide +kernel
theorem dX5_openTo_59 : decode cX5_openTo 59 = .ok (.invokestatic 130, 3) := by decide +kernel
theorem dX5_openTo_62 : decode cX5_openTo 62 = .ok (.ifCond .eq 12, 3) := by decide +kernel
theorem dX5_openTo_65 : decode cX5_openTo 65 = .ok (.iload 4, 2) := by decide +kernel
theorem dX5_openTo_67 : decode cX5_openTo 67 = .ok (.iconst 1, 1) := by decide +kernel
theorem dX5_openTo_68 : decode cX5_openTo 68 = .ok (.iload 5, 2) := by decide +kernel
theorem dX5_openTo_70 : decode cX5_openTo 70 = .ok (.ishl, 1) := by decide +kernel
theorem dX5_openTo_71 : decode cX5_openTo 71 = .ok (.ior, 1) := by decide +kernel
theorem dX5_openTo_72 : decode cX5_openTo 72 = .ok (.istore 4, 2) := by decide +kernel
theorem dX5_openTo_74 : decode cX5_openTo 74 = .ok (.iinc 5 1, 3) := by decide +kernel
theorem dX5_openTo_77 : decode cX5_openTo 77 = .ok (.goto (-71), 3) := by decide +kernel
theorem dX5_openTo_80 : decode cX5_openTo 80 = .ok (.iload 4, 2) := by decide +kernel
theorem dX5_openTo_82 : decode cX5_openTo 82 = .ok (.ireturn, 1) := by decide +kernel
set_option maxRecDepth 20000 in
theorem l_X5_openTo {G : Gl} {d : Nat} {σ : Sg} {K : Option Value → Sg → Prop} {c : Nat} (hT : TC c) {τ : Tw} (hR : RX c τ σ) (hO : OkT τ) {s : Int} (hs1 : -2147483648 ≤ s) (hs2 : s < 2147483648) {w : Int} (hw1 : -2147483648 ≤ w) (hw2 : w < 2147483648) {off : Int} (hoff1 : -2147483648 ≤ off) (hoff2 : off < 2147483648) : ∀ (n i acc : Nat), (i : Int) + n = τ.2.1 0 → K (some (.int (iI ((acc ||| orR (fun p => decide (τ.2.2 2 p = s ∧ τ.2.2 3 p = w) && lets (τ.2.2 0 p) (τ.2.2 1 p) off) n i : Nat) : Int)))) σ → AW G (d + 1) RX5 cX5_openTo 6 (some .int) 6 [(0, .ref (gA G c)), (1, .int (iI s)), (2, .int (iI w)), (3, .int (iI off)), (4, .int (iI (acc : Int))), (5, .int (iI (i : Int)))] [] σ K := by
  intro n
  induction n using Nat.strongRecOn
  rename_i n ih
  intro i acc hn hK
  have hO2 := hO
  obtain ⟨o1, o2, o3, o4, o5, o6, o7, o8, o9⟩ := hO2
  have p0 : σ.1 c 1 = τ.2.1 0 := hR.2.1 0 (by decide)
  have p1 : σ.1 c 2 = τ.2.1 1 := hR.2.1 1 (by decide)
  have p2 : σ.1 c 3 = τ.2.1 2 := hR.2.1 2 (by decide)
  have p3 : σ.1 c 4 = τ.2.1 3 := hR.2.1 3 (by decide)
  have p4 : σ.1 c 5 = τ.2.1 4 := hR.2.1 4 (by decide)
  have p5 : σ.1 c 6 = τ.2.1 5 := hR.2.1 5 (by decide)
  refine A_iload (pc := 6) dX5_openTo_6 rfl ?_
  refine A_aload_n (pc := 8) dX5_openTo_8 rfl rfl ?_
  refine A_getIv (pc := 9) fX5_15 (shp_T hT) rfl p0 dX5_openTo_9 ?_
  refine A_icmp_ge (pc := 12) 80 dX5_openTo_12 (by decide) (by omega) (by omega) (by omega) (by omega) (fun h12 => ?_) (fun h12 => ?_)
  · skip
    refine A_iload (pc := 80) dX5_openTo_80 rfl ?_
    refine A_iret (pc := 82) rfl dX5_openTo_82 ?_
    have hn0 : n = 0 := by omega
    subst hn0
    rw [orR, Nat.or_zero] at hK
    exact hK
  · skip
    refine A_iload (pc := 15) dX5_openTo_15 rfl ?_
    refine A_bipush (pc := 17) dX5_openTo_17 (by decide) ?_
    refine A_icmp_ge (pc := 19) 80 dX5_openTo_19 (by decide) (by omega) (by omega) (by omega) (by omega) (fun h19 => ?_) (fun h19 => ?_)
    · skip
      refine A_iload (pc := 80) dX5_openTo_80 rfl ?_
      refine A_iret (pc := 82) rfl dX5_openTo_82 ?_
      exfalso; omega
    · skip
      have q8 := o8 i (by omega)
      refine A_aload_n (pc := 22) dX5_openTo_22 rfl rfl ?_
      refine A_getR (pc := 23) fX5_41 (shp_T hT) rfl dX5_openTo_23 ?_
      refine A_iload (pc := 26) dX5_openTo_26 rfl ?_
      refine A_ialdv (pc := 28) _ (shp_T_paneAt hT) rfl (by omega) (Nat.le_of_ble_eq_true rfl) (hR.at (by omega)) dX5_openTo_28 ?_
      refine A_iload_n (pc := 29) dX5_openTo_29 rfl rfl ?_
      refine A_icmp_ne (pc := 30) 74 dX5_openTo_30 (by decide) (by omega) (by omega) (by omega) (by omega) (fun h30 => ?_) (fun h30 => ?_)
      · skip
        refine A_iinc (pc := 74) dX5_openTo_74 rfl (Nat.le_of_ble_eq_true rfl) ?_
        refine A_goto (pc := 77) 6 dX5_openTo_77 (by decide) ?_
        obtain ⟨m, rfl⟩ : ∃ m, n = m + 1 := ⟨n - 1, by omega⟩
        refine A_loc (l2 := [(0, _), (1, _), (2, _), (3, _), (4, _), (5, _)]) ⟨rfl, rfl, rfl, rfl, rfl, rfl, trivial⟩ ?_
        refine ih m (by omega) (i + 1) acc (by omega) ?_
        rw [orR, if_neg (by intro q; simp only [Bool.and_eq_true, decide_eq_true_eq] at q; exact h30 q.1.1), Nat.zero_or] at hK
        exact hK
      · skip
        refine A_aload_n (pc := 33) dX5_openTo_33 rfl rfl ?_
        refine A_getR (pc := 34) fX5_44 (shp_T hT) rfl dX5_openTo_34 ?_
        refine A_iload (pc := 37) dX5_openTo_37 rfl ?_
        refine A_ialdv (pc := 39) _ (shp_T_paneOut hT) rfl (by omega) (Nat.le_of_ble_eq_true rfl) (hR.out (by omega)) dX5_openTo_39 ?_
        refine A_iload_n (pc := 40) dX5_openTo_40 rfl rfl ?_
        refine A_icmp_ne (pc := 41) 74 dX5_openTo_41 (by decide) (by omega) (by omega) (by omega) (by omega) (fun h41 => ?_) (fun h41 => ?_)
        · skip
          refine A_iinc (pc := 74) dX5_openTo_74 rfl (Nat.le_of_ble_eq_true rfl) ?_
          refine A_goto (pc := 77) 6 dX5_openTo_77 (by decide) ?_
          obtain ⟨m, rfl⟩ : ∃ m, n = m + 1 := ⟨n - 1, by omega⟩
          refine A_loc (l2 := [(0, _), (1, _), (2, _), (3, _), (4, _), (5, _)]) ⟨rfl, rfl, rfl, rfl, rfl, rfl, trivial⟩ ?_
          refine ih m (by omega) (i + 1) acc (by omega) ?_
          rw [orR, if_neg (by intro q; simp only [Bool.and_eq_true, decide_eq_true_eq] at q; exact h41 q.1.2), Nat.zero_or] at hK
          exact hK
        · skip
          refine A_aload_n (pc := 44) dX5_openTo_44 rfl rfl ?_
          refine A_getR (pc := 45) fX5_34 (shp_T hT) rfl dX5_openTo_45 ?_
          refine A_iload (pc := 48) dX5_openTo_48 rfl ?_
          refine A_ialdv (pc := 50) _ (shp_T_paneKind hT) rfl (by omega) (Nat.le_of_ble_eq_true rfl) (hR.kind (by omega)) dX5_openTo_50 ?_
          refine A_aload_n (pc := 51) dX5_openTo_51 rfl rfl ?_
          refine A_getR (pc := 52) fX5_38 (shp_T hT) rfl dX5_openTo_52 ?_
          refine A_iload (pc := 55) dX5_openTo_55 rfl ?_
          refine A_ialdv (pc := 57) _ (shp_T_paneA hT) rfl (by omega) (Nat.le_of_ble_eq_true rfl) (hR.a (by omega)) dX5_openTo_57 ?_
          refine A_iload_n (pc := 58) dX5_openTo_58 rfl rfl ?_
          refine A_callS1 (pc := 59) kX5_130 (c_X5_letsIn (by omega) (by omega) (by omega) (by omega) hoff1 hoff2) dX5_openTo_59 rfl rfl (Nat.le_of_ble_eq_true rfl) (Nat.le_of_ble_eq_true rfl) ?_
          refine A_ifb_eq (pc := 62) 74 dX5_openTo_62 (by decide) (fun h62 => ?_) (fun h62 => ?_)
          · skip
            refine A_iinc (pc := 74) dX5_openTo_74 rfl (Nat.le_of_ble_eq_true rfl) ?_
            refine A_goto (pc := 77) 6 dX5_openTo_77 (by decide) ?_
            obtain ⟨m, rfl⟩ : ∃ m, n = m + 1 := ⟨n - 1, by omega⟩
            refine A_loc (l2 := [(0, _), (1, _), (2, _), (3, _), (4, _), (5, _)]) ⟨rfl, rfl, rfl, rfl, rfl, rfl, trivial⟩ ?_
            refine ih m (by omega) (i + 1) acc (by omega) ?_
            rw [orR, if_neg (by intro q; simp only [Bool.and_eq_true, decide_eq_true_eq] at q; exact h62 q.2), Nat.zero_or] at hK
            exact hK
          · skip
            refine A_iload (pc := 65) dX5_openTo_65 rfl ?_
            refine A_iconst (pc := 67) dX5_openTo_67 ?_
            refine A_iload (pc := 68) dX5_openTo_68 rfl ?_
            refine A_ishl (pc := 70) ((2 ^ i : Nat) : Int) dX5_openTo_70 (shl_I (by omega)) ?_
            refine A_ior (pc := 71) ((acc ||| 2 ^ i : Nat) : Int) dX5_openTo_71 (or_I acc (2 ^ i)) ?_
            refine A_istore (pc := 72) dX5_openTo_72 (Nat.le_of_ble_eq_true rfl) ?_
            refine A_iinc (pc := 74) dX5_openTo_74 rfl (Nat.le_of_ble_eq_true rfl) ?_
            refine A_goto (pc := 77) 6 dX5_openTo_77 (by decide) ?_
            obtain ⟨m, rfl⟩ : ∃ m, n = m + 1 := ⟨n - 1, by omega⟩
            refine A_loc (l2 := [(0, _), (1, _), (2, _), (3, _), (4, _), (5, _)]) ⟨rfl, rfl, rfl, rfl, rfl, rfl, trivial⟩ ?_
            refine ih m (by omega) (i + 1) (acc ||| 2 ^ i) (by omega) ?_
            rw [orR, if_pos (by simp only [Bool.and_eq_true, decide_eq_true_eq]; exact ⟨⟨h30, h41⟩, h62⟩), ← Nat.or_assoc] at hK
            exact hK
set_option maxRecDepth 20000 in
theorem c_X5_openTo {G : Gl} {d : Nat} {σ : Sg} {c : Nat} (hT : TC c) {τ : Tw} (hR : RX c τ σ) (hO : OkT τ) {s : Int} (hs1 : -2147483648 ≤ s) (hs2 : s < 2147483648) {w : Int} (hw1 : -2147483648 ≤ w) (hw2 : w < 2147483648) {off : Int} (hoff1 : -2147483648 ≤ off) (hoff2 : off < 2147483648) : CT G (d + 1) yX5_openTo cX5_openTo 6 (some .int) [.ref (gA G c), .int (iI s), .int (iI w), .int (iI off)] σ (R1 (.int (iI ((opens τ s w off : Nat) : Int))) σ) := by
  refine CT.of (by decide +kernel) (Nat.le_of_ble_eq_true rfl) ?_
  change AW G _ RX5 _ _ _ 0 [(0, .ref (gA G c)), (1, .int (iI s)), (2, .int (iI w)), (3, .int (iI off))] [] _ _
  have hO2 := hO
  obtain ⟨o1, o2, o3, o4, o5, o6, o7, o8, o9⟩ := hO2
  have p0 : σ.1 c 1 = τ.2.1 0 := hR.2.1 0 (by decide)
  have p1 : σ.1 c 2 = τ.2.1 1 := hR.2.1 1 (by decide)
  have p2 : σ.1 c 3 = τ.2.1 2 := hR.2.1 2 (by decide)
  have p3 : σ.1 c 4 = τ.2.1 3 := hR.2.1 3 (by decide)
  have p4 : σ.1 c 5 = τ.2.1 4 := hR.2.1 4 (by decide)
  have p5 : σ.1 c 6 = τ.2.1 5 := hR.2.1 5 (by decide)
  refine A_iconst (pc := 0) dX5_openTo_0 ?_
  refine A_istore (pc := 1) dX5_openTo_1 (Nat.le_of_ble_eq_true rfl) ?_
  refine A_iconst (pc := 3) dX5_openTo_3 ?_
  refine A_istore (pc := 4) dX5_openTo_4 (Nat.le_of_ble_eq_true rfl) ?_
  refine A_loc (l2 := [(0, _), (1, _), (2, _), (3, _), (4, _), (5, _)]) ⟨rfl, rfl, rfl, rfl, rfl, rfl, trivial⟩ ?_
  exact l_X5_openTo hT hR hO hs1 hs2 hw1 hw2 hoff1 hoff2 (τ.2.1 0).toNat 0 0 (by omega) ⟨by rw [Nat.zero_or]; rfl, rfl⟩
theorem dX5_walkersIn_0 : decode cX5_walkersIn 0 = .ok (.iconst 0, 1) := by decide +kernel
theorem dX5_walkersIn_1 : decode cX5_walkersIn 1 = .ok (.istore_n 3, 1) := by decide +kernel
theorem dX5_walkersIn_2 : decode cX5_walkersIn 2 = .ok (.iconst 0, 1) := by decide +kernel
theorem dX5_walkersIn_3 : decode cX5_walkersIn 3 = .ok (.istore 4, 2) := by decide +kernel
theorem dX5_walkersIn_5 : decode cX5_walkersIn 5 = .ok (.iload 4, 2) := by decide +kernel
theorem dX5_walkersIn_7 : decode cX5_walkersIn 7 = .ok (.aload_n 0, 1) := by decide +kernel
theorem dX5_walkersIn_8 : decode cX5_walkersIn 8 = .ok (.getfield 19, 3) := by decide +kernel
theorem dX5_walkersIn_11 : decode cX5_walkersIn 11 = .ok (.if_icmp .ge 36, 3) := by decide +kernel
theorem dX5_walkersIn_14 : decode cX5_walkersIn 14 = .ok (.iload 4, 2) := by decide +kernel
theorem dX5_walkersIn_16 : decode cX5_walkersIn 16 = .ok (.iconst 5, 1) := by decide +kernel
theorem dX5_walkersIn_17 : decode cX5_walkersIn 17 = .ok (.if_icmp .ge 30, 3) := by decide +kernel
theorem dX5_walkersIn_20 : decode cX5_walkersIn 20 = .ok (.lload_n 1, 1) := by decide +kernel
theorem dX5_walkersIn_21 : decode cX5_walkersIn 21 = .ok (.aload_n 0, 1) := by decide +kernel
theorem dX5_walkersIn_22 : decode cX5_walkersIn 22 = .ok (.getfield 47, 3) := by decide +kernel
theorem dX5_walkersIn_25 : decode cX5_walkersIn 25 = .ok (.iload 4, 2) := by decide +kernel
theorem dX5_walkersIn_27 : decode cX5_walkersIn 27 = .ok (.iaload, 1) := by decide +kernel
theorem dX5_walkersIn_28 : decode cX5_walkersIn 28 = .ok (.invokestatic 56, 3) := by decide +kernel
theorem dX5_walkersIn_31 : decode cX5_walkersIn 31 = .ok (.ifCond .eq 10, 3) := by decide +kernel
theorem dX5_walkersIn_34 : decode cX5_walkersIn 34 = .ok (.iload_n 3, 1) := by decide +kernel
theorem dX5_walkersIn_35 : decode cX5_walkersIn 35 = .ok (.iconst 1, 1) := by decide +kernel
theorem dX5_walkersIn_36 : decode cX5_walkersIn 36 = .ok (.iload 4, 2) := by decide +kernel
theorem dX5_walkersIn_38 : decode cX5_walkersIn 38 = .ok (.ishl, 1) := by decide +kernel
theorem dX5_walkersIn_39 : decode cX5_walkersIn 39 = .ok (.ior, 1) := by decide +kernel
theorem dX5_walkersIn_40 : decode cX5_walkersIn 40 = .ok (.istore_n 3, 1) := by decide +kernel
theorem dX5_walkersIn_41 : decode cX5_walkersIn 41 = .ok (.iinc 4 1, 3) := by decide +kernel
theorem dX5_walkersIn_44 : decode cX5_walkersIn 44 = .ok (.goto (-39), 3) := by decide +kernel
theorem dX5_walkersIn_47 : decode cX5_walkersIn 47 = .ok (.iload_n 3, 1) := by decide +kernel
theorem dX5_walkersIn_48 : decode cX5_walkersIn 48 = .ok (.ireturn, 1) := by decide +kernel
set_option maxRecDepth 20000 in
theorem l_X5_walkersIn {G : Gl} {d : Nat} {σ : Sg} {K : Option Value → Sg → Prop} {c : Nat} (hT : TC c) {τ : Tw} (hR : RX c τ σ) (hO : OkT τ) {b : Nat} (hb : b < 2 ^ 49) : ∀ (n i acc : Nat), (i : Int) + n = τ.2.1 1 → K (some (.int (iI ((acc ||| orR (fun w => decide (sT b (τ.2.2 4 w))) n i : Nat) : Int)))) σ → AW G (d + 1) RX5 cX5_walkersIn 5 (some .int) 5 [(0, .ref (gA G c)), (1, .long (lN b)), (3, .int (iI (acc : Int))), (4, .int (iI (i : Int)))] [] σ K := by
  intro n
  induction n using Nat.strongRecOn
  rename_i n ih
  intro i acc hn hK
  have hO2 := hO
  obtain ⟨o1, o2, o3, o4, o5, o6, o7, o8, o9⟩ := hO2
  have p0 : σ.1 c 1 = τ.2.1 0 := hR.2.1 0 (by decide)
  have p1 : σ.1 c 2 = τ.2.1 1 := hR.2.1 1 (by decide)
  have p2 : σ.1 c 3 = τ.2.1 2 := hR.2.1 2 (by decide)
  have p3 : σ.1 c 4 = τ.2.1 3 := hR.2.1 3 (by decide)
  have p4 : σ.1 c 5 = τ.2.1 4 := hR.2.1 4 (by decide)
  have p5 : σ.1 c 6 = τ.2.1 5 := hR.2.1 5 (by decide)
  refine A_iload (pc := 5) dX5_walkersIn_5 rfl ?_
  refine A_aload_n (pc := 7) dX5_walkersIn_7 rfl rfl ?_
  refine A_getIv (pc := 8) fX5_19 (shp_T hT) rfl p1 dX5_walkersIn_8 ?_
  refine A_icmp_ge (pc := 11) 47 dX5_walkersIn_11 (by decide) (by omega) (by omega) (by omega) (by omega) (fun h11 => ?_) (fun h11 => ?_)
  · skip
    refine A_iload_n (pc := 47) dX5_walkersIn_47 rfl rfl ?_
    refine A_iret (pc := 48) rfl dX5_walkersIn_48 ?_
    have hn0 : n = 0 := by omega
    subst hn0
    rw [orR, Nat.or_zero] at hK
    exact hK
  · skip
    refine A_iload (pc := 14) dX5_walkersIn_14 rfl ?_
    refine A_iconst (pc := 16) dX5_walkersIn_16 ?_
    refine A_icmp_ge (pc := 17) 47 dX5_walkersIn_17 (by decide) (by omega) (by omega) (by omega) (by omega) (fun h17 => ?_) (fun h17 => ?_)
    · skip
      refine A_iload_n (pc := 47) dX5_walkersIn_47 rfl rfl ?_
      refine A_iret (pc := 48) rfl dX5_walkersIn_48 ?_
      exfalso; omega
    · skip
      have q9 := o9 i (by omega)
      refine A_lload_n (pc := 20) dX5_walkersIn_20 rfl rfl ?_
      refine A_aload_n (pc := 21) dX5_walkersIn_21 rfl rfl ?_
      refine A_getR (pc := 22) fX5_47 (shp_T hT) rfl dX5_walkersIn_22 ?_
      refine A_iload (pc := 25) dX5_walkersIn_25 rfl ?_
      refine A_ialdv (pc := 27) _ (shp_T_walkerAt hT) rfl (by omega) (Nat.le_of_ble_eq_true rfl) (hR.wat (by omega)) dX5_walkersIn_27 ?_
      refine A_callS1 (pc := 28) kX5_56 (c_X0_has hb (by omega) (by omega)) dX5_walkersIn_28 rfl rfl (Nat.le_of_ble_eq_true rfl) (Nat.le_of_ble_eq_true rfl) ?_
      refine A_ifb_eq (pc := 31) 41 dX5_walkersIn_31 (by decide) (fun h31 => ?_) (fun h31 => ?_)
      · skip
        refine A_iinc (pc := 41) dX5_walkersIn_41 rfl (Nat.le_of_ble_eq_true rfl) ?_
        refine A_goto (pc := 44) 5 dX5_walkersIn_44 (by decide) ?_
        obtain ⟨m, rfl⟩ : ∃ m, n = m + 1 := ⟨n - 1, by omega⟩
        refine A_loc (l2 := [(0, _), (1, _), (3, _), (4, _)]) ⟨rfl, rfl, rfl, rfl, trivial⟩ ?_
        refine ih m (by omega) (i + 1) acc (by omega) ?_
        rw [orR, if_neg (by intro q; simp only [decide_eq_true_eq] at q; exact h31 q), Nat.zero_or] at hK
        exact hK
      · skip
        refine A_iload_n (pc := 34) dX5_walkersIn_34 rfl rfl ?_
        refine A_iconst (pc := 35) dX5_walkersIn_35 ?_
        refine A_iload (pc := 36) dX5_walkersIn_36 rfl ?_
        refine A_ishl (pc := 38) ((2 ^ i : Nat) : Int) dX5_walkersIn_38 (shl_I (by omega)) ?_
        refine A_ior (pc := 39) ((acc ||| 2 ^ i : Nat) : Int) dX5_walkersIn_39 (or_I acc (2 ^ i)) ?_
        refine A_istore_n (pc := 40) dX5_walkersIn_40 rfl (Nat.le_of_ble_eq_true rfl) ?_
        refine A_iinc (pc := 41) dX5_walkersIn_41 rfl (Nat.le_of_ble_eq_true rfl) ?_
        refine A_goto (pc := 44) 5 dX5_walkersIn_44 (by decide) ?_
        obtain ⟨m, rfl⟩ : ∃ m, n = m + 1 := ⟨n - 1, by omega⟩
        refine A_loc (l2 := [(0, _), (1, _), (3, _), (4, _)]) ⟨rfl, rfl, rfl, rfl, trivial⟩ ?_
        refine ih m (by omega) (i + 1) (acc ||| 2 ^ i) (by omega) ?_
        rw [orR, if_pos (by simp only [decide_eq_true_eq]; exact h31), ← Nat.or_assoc] at hK
        exact hK
set_option maxRecDepth 20000 in
theorem c_X5_walkersIn {G : Gl} {d : Nat} {σ : Sg} {c : Nat} (hT : TC c) {τ : Tw} (hR : RX c τ σ) (hO : OkT τ) {b : Nat} (hb : b < 2 ^ 49) : CT G (d + 1) yX5_walkersIn cX5_walkersIn 5 (some .int) [.ref (gA G c), .long (lN b)] σ (R1 (.int (iI ((wIn τ b : Nat) : Int))) σ) := by
  refine CT.of (by decide +kernel) (Nat.le_of_ble_eq_true rfl) ?_
  change AW G _ RX5 _ _ _ 0 [(0, .ref (gA G c)), (1, .long (lN b))] [] _ _
  have hO2 := hO
  obtain ⟨o1, o2, o3, o4, o5, o6, o7, o8, o9⟩ := hO2
  have p0 : σ.1 c 1 = τ.2.1 0 := hR.2.1 0 (by decide)
  have p1 : σ.1 c 2 = τ.2.1 1 := hR.2.1 1 (by decide)
  have p2 : σ.1 c 3 = τ.2.1 2 := hR.2.1 2 (by decide)
  have p3 : σ.1 c 4 = τ.2.1 3 := hR.2.1 3 (by decide)
  have p4 : σ.1 c 5 = τ.2.1 4 := hR.2.1 4 (by decide)
  have p5 : σ.1 c 6 = τ.2.1 5 := hR.2.1 5 (by decide)
  refine A_iconst (pc := 0) dX5_walkersIn_0 ?_
  refine A_istore_n (pc := 1) dX5_walkersIn_1 rfl (Nat.le_of_ble_eq_true rfl) ?_
  refine A_iconst (pc := 2) dX5_walkersIn_2 ?_
  refine A_istore (pc := 3) dX5_walkersIn_3 (Nat.le_of_ble_eq_true rfl) ?_
  refine A_loc (l2 := [(0, _), (1, _), (3, _), (4, _)]) ⟨rfl, rfl, rfl, rfl, trivial⟩ ?_
  exact l_X5_walkersIn hT hR hO hb (τ.2.1 1).toNat 0 0 (by omega) ⟨by rw [Nat.zero_or]; rfl, rfl⟩
theorem dX5_lookedInFrom_0 : decode cX5_lookedInFrom 0 = .ok (.iload_n 1, 1) := by decide +kernel
theorem dX5_lookedInFrom_1 : decode cX5_lookedInFrom 1 = .ok (.istore_n 3, 1) := by decide +kernel
theorem dX5_lookedInFrom_2 : decode cX5_lookedInFrom 2 = .ok (.iconst 1, 1) := by decide +kernel
theorem dX5_lookedInFrom_3 : decode cX5_lookedInFrom 3 = .ok (.istore 4, 2) := by decide +kernel
theorem dX5_lookedInFrom_5 : decode cX5_lookedInFrom 5 = .ok (.iload 4, 2) := by decide +kernel
theorem dX5_lookedInFrom_7 : decode cX5_lookedInFrom 7 = .ok (.aload_n 0, 1) := by decide +kernel
theorem dX5_lookedInFrom_8 : decode cX5_lookedInFrom 8 = .ok (.getfield 22, 3) := by decide +kernel
theorem dX5_lookedInFrom_11 : decode cX5_lookedInFrom 11 = .ok (.if_icmp .gt 35, 3) := by decide +kernel
theorem dX5_lookedInFrom_14 : decode cX5_lookedInFrom 14 = .ok (.iload_n 3, 1) := by decide +kernel
theorem dX5_lookedInFrom_15 : decode cX5_lookedInFrom 15 = .ok (.iload_n 2, 1) := by decide +kernel
theorem dX5_lookedInFrom_16 : decode cX5_lookedInFrom 16 = .ok (.invokestatic 120, 3) := by decide +kernel
theorem dX5_lookedInFrom_19 : decode cX5_lookedInFrom 19 = .ok (.istore_n 3, 1) := by decide +kernel
theorem dX5_lookedInFrom_20 : decode cX5_lookedInFrom 20 = .ok (.aload_n 0, 1) := by decide +kernel
theorem dX5_lookedInFrom_21 : decode cX5_lookedInFrom 21 = .ok (.iload_n 3, 1) := by decide +kernel
theorem dX5_lookedInFrom_22 : decode cX5_lookedInFrom 22 = .ok (.invokevirtual 66, 3) := by decide +kernel
theorem dX5_lookedInFrom_25 : decode cX5_lookedInFrom 25 = .ok (.ifCond .eq 15, 3) := by decide +kernel
theorem dX5_lookedInFrom_28 : decode cX5_lookedInFrom 28 = .ok (.aload_n 0, 1) := by decide +kernel
theorem dX5_lookedInFrom_29 : decode cX5_lookedInFrom 29 = .ok (.iload_n 3, 1) := by decide +kernel
theorem dX5_lookedInFrom_30 : decode cX5_lookedInFrom 30 = .ok (.iload_n 2, 1) := by decide +kernel
theorem dX5_lookedInFrom_31 : decode cX5_lookedInFrom 31 = .ok (.invokestatic 123, 3) := by decide +kernel
theorem dX5_lookedInFrom_34 : decode cX5_lookedInFrom 34 = .ok (.iload 4, 2) := by decide +kernel
theorem dX5_lookedInFrom_36 : decode cX5_lookedInFrom 36 = .ok (.invokevirtual 126, 3) := by decide +kernel
theorem dX5_lookedInFrom_39 : decode cX5_lookedInFrom 39 = .ok (.ireturn, 1) := by decide +kernel
theorem dX5_lookedInFrom_40 : decode cX5_lookedInFrom 40 = .ok (.iinc 4 1, 3) := by decide +kernel
theorem dX5_lookedInFrom_43 : decode cX5_lookedInFrom 43 = .ok (.goto (-38), 3) := by decide +kernel
theorem dX5_lookedInFrom_46 : decode cX5_lookedInFrom 46 = .ok (.iconst 0, 1) := by decide +kernel
theorem dX5_lookedInFrom_47 : decode cX5_lookedInFrom 47 = .ok (.ireturn, 1) := by decide +kernel
set_option maxRecDepth 20000 in
theorem l_X5_lookedInFrom {G : Gl} {d : Nat} {σ : Sg} {K : Option Value → Sg → Prop} {c : Nat} (hT : TC c) {τ : Tw} (hR : RX c τ σ) (hO : OkT τ) {w : Int} (w1 : 0 ≤ w) (w2 : w < 4) : ∀ (n : Nat) (a off : Int), 1 ≤ off → off + n = τ.2.1 2 + 1 → -2147483648 ≤ a → a < 2147483648 → K (some (.int (iI ((lookG τ w n a off : Nat) : Int)))) σ → AW G (d + 2) RX5 cX5_lookedInFrom 5 (some .int) 5 [(0, .ref (gA G c)), (2, .int (iI w)), (3, .int (iI a)), (4, .int (iI off))] [] σ K := by
  intro n
  induction n using Nat.strongRecOn
  rename_i n ih
  intro a off f1 hn a1 a2 hK
  have hO2 := hO
  obtain ⟨o1, o2, o3, o4, o5, o6, o7, o8, o9⟩ := hO2
  have p0 : σ.1 c 1 = τ.2.1 0 := hR.2.1 0 (by decide)
  have p1 : σ.1 c 2 = τ.2.1 1 := hR.2.1 1 (by decide)
  have p2 : σ.1 c 3 = τ.2.1 2 := hR.2.1 2 (by decide)
  have p3 : σ.1 c 4 = τ.2.1 3 := hR.2.1 3 (by decide)
  have p4 : σ.1 c 5 = τ.2.1 4 := hR.2.1 4 (by decide)
  have p5 : σ.1 c 6 = τ.2.1 5 := hR.2.1 5 (by decide)
  refine A_iload (pc := 5) dX5_lookedInFrom_5 rfl ?_
  refine A_aload_n (pc := 7) dX5_lookedInFrom_7 rfl rfl ?_
  refine A_getIv (pc := 8) fX5_22 (shp_T hT) rfl p2 dX5_lookedInFrom_8 ?_
  refine A_icmp_gt (pc := 11) 46 dX5_lookedInFrom_11 (by decide) (by omega) (by omega) (by omega) (by omega) (fun h11 => ?_) (fun h11 => ?_)
  · skip
    refine A_iconst (pc := 46) dX5_lookedInFrom_46 ?_
    refine A_iret (pc := 47) rfl dX5_lookedInFrom_47 ?_
    have hn0 : n = 0 := by omega
    subst hn0
    rw [lookG] at hK
    exact hK
  · skip
    have hb := bes_rng a w
    obtain ⟨m, rfl⟩ : ∃ m, n = m + 1 := ⟨n - 1, by omega⟩
    refine A_iload_n (pc := 14) dX5_lookedInFrom_14 rfl rfl ?_
    refine A_iload_n (pc := 15) dX5_lookedInFrom_15 rfl rfl ?_
    refine A_callS1 (pc := 16) kX5_120 (c_X0_beside a1 a2 (by omega) (by omega)) dX5_lookedInFrom_16 rfl rfl (Nat.le_of_ble_eq_true rfl) (Nat.le_of_ble_eq_true rfl) ?_
    refine A_istore_n (pc := 19) dX5_lookedInFrom_19 rfl (Nat.le_of_ble_eq_true rfl) ?_
    refine A_aload_n (pc := 20) dX5_lookedInFrom_20 rfl rfl ?_
    refine A_iload_n (pc := 21) dX5_lookedInFrom_21 rfl rfl ?_
    refine A_callV1 (pc := 22) kX5_66 (shp_T hT) rfl (c_X5_isHouse hT hR hO (by omega) (by omega)) dX5_lookedInFrom_22 rfl rfl (Nat.le_of_ble_eq_true rfl) (Nat.le_of_ble_eq_true rfl) ?_
    refine A_ifb_eq (pc := 25) 40 dX5_lookedInFrom_25 (by decide) (fun h25 => ?_) (fun h25 => ?_)
    · skip
      refine A_iinc (pc := 40) dX5_lookedInFrom_40 rfl (Nat.le_of_ble_eq_true rfl) ?_
      refine A_goto (pc := 43) 5 dX5_lookedInFrom_43 (by decide) ?_
      refine A_loc (l2 := [(0, _), (2, _), (3, _), (4, _)]) ⟨rfl, rfl, rfl, rfl, trivial⟩ ?_
      refine ih m (by omega) (bes a w) (off + 1) (by omega) (by omega) (by omega) (by omega) ?_
      rw [lookG, if_neg h25] at hK
      exact hK
    · skip
      refine A_aload_n (pc := 28) dX5_lookedInFrom_28 rfl rfl ?_
      refine A_iload_n (pc := 29) dX5_lookedInFrom_29 rfl rfl ?_
      refine A_iload_n (pc := 30) dX5_lookedInFrom_30 rfl rfl ?_
      refine A_callS1 (pc := 31) kX5_123 (c_X0_opposite) dX5_lookedInFrom_31 rfl rfl (Nat.le_of_ble_eq_true rfl) (Nat.le_of_ble_eq_true rfl) ?_
      refine A_iload (pc := 34) dX5_lookedInFrom_34 rfl ?_
      refine A_callV1 (pc := 36) kX5_126 (shp_T hT) rfl (c_X5_openTo hT hR hO (by omega) (by omega) (by omega) (by omega) (by omega) (by omega)) dX5_lookedInFrom_36 rfl rfl (Nat.le_of_ble_eq_true rfl) (Nat.le_of_ble_eq_true rfl) ?_
      refine A_iret (pc := 39) rfl dX5_lookedInFrom_39 ?_
      rw [lookG, if_pos h25] at hK
      exact hK
set_option maxRecDepth 20000 in
theorem c_X5_lookedInFrom {G : Gl} {d : Nat} {σ : Sg} {c : Nat} (hT : TC c) {τ : Tw} (hR : RX c τ σ) (hO : OkT τ) {s w : Int} (hs1 : -2147483648 ≤ s) (hs2 : s < 2147483648) (w1 : 0 ≤ w) (w2 : w < 4) : CT G (d + 2) yX5_lookedInFrom cX5_lookedInFrom 5 (some .int) [.ref (gA G c), .int (iI s), .int (iI w)] σ (R1 (.int (iI ((look τ s w : Nat) : Int))) σ) := by
  refine CT.of (by decide +kernel) (Nat.le_of_ble_eq_true rfl) ?_
  change AW G _ RX5 _ _ _ 0 [(0, .ref (gA G c)), (1, .int (iI s)), (2, .int (iI w))] [] _ _
  have hO2 := hO
  obtain ⟨o1, o2, o3, o4, o5, o6, o7, o8, o9⟩ := hO2
  have p0 : σ.1 c 1 = τ.2.1 0 := hR.2.1 0 (by decide)
  have p1 : σ.1 c 2 = τ.2.1 1 := hR.2.1 1 (by decide)
  have p2 : σ.1 c 3 = τ.2.1 2 := hR.2.1 2 (by decide)
  have p3 : σ.1 c 4 = τ.2.1 3 := hR.2.1 3 (by decide)
  have p4 : σ.1 c 5 = τ.2.1 4 := hR.2.1 4 (by decide)
  have p5 : σ.1 c 6 = τ.2.1 5 := hR.2.1 5 (by decide)
  refine A_iload_n (pc := 0) dX5_lookedInFrom_0 rfl rfl ?_
  refine A_istore_n (pc := 1) dX5_lookedInFrom_1 rfl (Nat.le_of_ble_eq_true rfl) ?_
  refine A_iconst (pc := 2) dX5_lookedInFrom_2 ?_
  refine A_istore (pc := 3) dX5_lookedInFrom_3 (Nat.le_of_ble_eq_true rfl) ?_
  refine A_loc (l2 := [(0, _), (2, _), (3, _), (4, _)]) ⟨rfl, rfl, rfl, rfl, trivial⟩ ?_
  exact l_X5_lookedInFrom hT hR hO w1 w2 (τ.2.1 2).toNat s 1 (by omega) (by omega) hs1 hs2 ⟨rfl, rfl⟩
def sham (τ : Tw) (s w : Int) : Int := bc32 (look τ s w : Nat)
theorem sham_rng (τ : Tw) (s w : Int) : 0 ≤ sham τ s w ∧ sham τ s w < 64 := bc32_rng _
theorem dX5_shameFrom_0 : decode cX5_shameFrom 0 = .ok (.aload_n 0, 1) := by decide +kernel
theorem dX5_shameFrom_1 : decode cX5_shameFrom 1 = .ok (.iload_n 1, 1) := by decide +kernel
theorem dX5_shameFrom_2 : decode cX5_shameFrom 2 = .ok (.iload_n 2, 1) := by decide +kernel
theorem dX5_shameFrom_3 : decode cX5_shameFrom 3 = .ok (.invokevirtual 111, 3) := by decide +kernel
theorem dX5_shameFrom_6 : decode cX5_shameFrom 6 = .ok (.invokestatic 115, 3) := by decide +kernel
theorem dX5_shameFrom_9 : decode cX5_shameFrom 9 = .ok (.ireturn, 1) := by decide +kernel
set_option maxRecDepth 20000 in
theorem c_X5_shameFrom {G : Gl} {d : Nat} {σ : Sg} {c : Nat} (hT : TC c) {τ : Tw} (hR : RX c τ σ) (hO : OkT τ) {s w : Int} (hs1 : -2147483648 ≤ s) (hs2 : s < 2147483648) (w1 : 0 ≤ w) (w2 : w < 4) : CT G (d + 3) yX5_shameFrom cX5_shameFrom 3 (some .int) [.ref (gA G c), .int (iI s), .int (iI w)] σ (R1 (.int (iI (sham τ s w))) σ) := by
  refine CT.of (by decide +kernel) (Nat.le_of_ble_eq_true rfl) ?_
  change AW G _ RX5 _ _ _ 0 [(0, .ref (gA G c)), (1, .int (iI s)), (2, .int (iI w))] [] _ _
  have hO2 := hO
  obtain ⟨o1, o2, o3, o4, o5, o6, o7, o8, o9⟩ := hO2
  have p0 : σ.1 c 1 = τ.2.1 0 := hR.2.1 0 (by decide)
  have p1 : σ.1 c 2 = τ.2.1 1 := hR.2.1 1 (by decide)
  have p2 : σ.1 c 3 = τ.2.1 2 := hR.2.1 2 (by decide)
  have p3 : σ.1 c 4 = τ.2.1 3 := hR.2.1 3 (by decide)
  have p4 : σ.1 c 5 = τ.2.1 4 := hR.2.1 4 (by decide)
  have p5 : σ.1 c 6 = τ.2.1 5 := hR.2.1 5 (by decide)
  refine A_aload_n (pc := 0) dX5_shameFrom_0 rfl rfl ?_
  refine A_iload_n (pc := 1) dX5_shameFrom_1 rfl rfl ?_
  refine A_iload_n (pc := 2) dX5_shameFrom_2 rfl rfl ?_
  refine A_callV1 (pc := 3) kX5_111 (shp_T hT) rfl (c_X5_lookedInFrom hT hR hO hs1 hs2 w1 w2) dX5_shameFrom_3 rfl rfl (Nat.le_of_ble_eq_true rfl) (Nat.le_of_ble_eq_true rfl) ?_
  refine A_callS1 (pc := 6) kX5_115 (c_J6_bitCount_0f7a4) dX5_shameFrom_6 rfl rfl (Nat.le_of_ble_eq_true rfl) (Nat.le_of_ble_eq_true rfl) ?_
  refine A_iret (pc := 9) rfl dX5_shameFrom_9 ?_
  exact ⟨rfl, rfl⟩
theorem dX5_lookedInBy_0 : decode cX5_lookedInBy 0 = .ok (.aload_n 0, 1) := by decide +kernel
theorem dX5_lookedInBy_1 : decode cX5_lookedInBy 1 = .ok (.aload_n 0, 1) := by decide +kernel
theorem dX5_lookedInBy_2 : decode cX5_lookedInBy 2 = .ok (.iload_n 1, 1) := by decide +kernel
theorem dX5_lookedInBy_3 : decode cX5_lookedInBy 3 = .ok (.invokevirtual 105, 3) := by decide +kernel
theorem dX5_lookedInBy_6 : decode cX5_lookedInBy 6 = .ok (.aload_n 0, 1) := by decide +kernel
theorem dX5_lookedInBy_7 : decode cX5_lookedInBy 7 = .ok (.iload_n 1, 1) := by decide +kernel
theorem dX5_lookedInBy_8 : decode cX5_lookedInBy 8 = .ok (.invokevirtual 108, 3) := by decide +kernel
theorem dX5_lookedInBy_11 : decode cX5_lookedInBy 11 = .ok (.invokevirtual 111, 3) := by decide +kernel
theorem dX5_lookedInBy_14 : decode cX5_lookedInBy 14 = .ok (.ireturn, 1) := by decide +kernel
set_option maxRecDepth 20000 in
theorem c_X5_lookedInBy {G : Gl} {d : Nat} {σ : Sg} {c : Nat} (hT : TC c) {τ : Tw} (hR : RX c τ σ) (hO : OkT τ) {p : Nat} (hp : (p : Int) < τ.2.1 1) : CT G (d + 3) yX5_lookedInBy cX5_lookedInBy 2 (some .int) [.ref (gA G c), .int (iI (p : Int))] σ (R1 (.int (iI ((look τ (τ.2.2 4 p) (τ.2.2 5 p) : Nat) : Int))) σ) := by
  refine CT.of (by decide +kernel) (Nat.le_of_ble_eq_true rfl) ?_
  change AW G _ RX5 _ _ _ 0 [(0, .ref (gA G c)), (1, .int (iI (p : Int)))] [] _ _
  have hO2 := hO
  obtain ⟨o1, o2, o3, o4, o5, o6, o7, o8, o9⟩ := hO2
  have p0 : σ.1 c 1 = τ.2.1 0 := hR.2.1 0 (by decide)
  have p1 : σ.1 c 2 = τ.2.1 1 := hR.2.1 1 (by decide)
  have p2 : σ.1 c 3 = τ.2.1 2 := hR.2.1 2 (by decide)
  have p3 : σ.1 c 4 = τ.2.1 3 := hR.2.1 3 (by decide)
  have p4 : σ.1 c 5 = τ.2.1 4 := hR.2.1 4 (by decide)
  have p5 : σ.1 c 6 = τ.2.1 5 := hR.2.1 5 (by decide)
  have q9 := o9 p hp
  refine A_aload_n (pc := 0) dX5_lookedInBy_0 rfl rfl ?_
  refine A_aload_n (pc := 1) dX5_lookedInBy_1 rfl rfl ?_
  refine A_iload_n (pc := 2) dX5_lookedInBy_2 rfl rfl ?_
  refine A_callV1 (pc := 3) kX5_105 (shp_T hT) rfl (c_X5_whereIs hT hR hO (by omega)) dX5_lookedInBy_3 rfl rfl (Nat.le_of_ble_eq_true rfl) (Nat.le_of_ble_eq_true rfl) ?_
  rw [if_pos hp]
  refine A_aload_n (pc := 6) dX5_lookedInBy_6 rfl rfl ?_
  refine A_iload_n (pc := 7) dX5_lookedInBy_7 rfl rfl ?_
  refine A_callV1 (pc := 8) kX5_108 (shp_T hT) rfl (c_X5_facedBy hT hR hO (by omega)) dX5_lookedInBy_8 rfl rfl (Nat.le_of_ble_eq_true rfl) (Nat.le_of_ble_eq_true rfl) ?_
  rw [if_pos hp]
  refine A_callV1 (pc := 11) kX5_111 (shp_T hT) rfl (c_X5_lookedInFrom hT hR hO (by omega) (by omega) (by omega) (by omega)) dX5_lookedInBy_11 rfl rfl (Nat.le_of_ble_eq_true rfl) (Nat.le_of_ble_eq_true rfl) ?_
  refine A_iret (pc := 14) rfl dX5_lookedInBy_14 ?_
  exact ⟨rfl, rfl⟩
theorem dX5_sightAmong_0 : decode cX5_sightAmong 0 = .ok (.aload_n 0, 1) := by decide +kernel
theorem dX5_sightAmong_1 : decode cX5_sightAmong 1 = .ok (.iload_n 3, 1) := by decide +kernel
theorem dX5_sightAmong_2 : decode cX5_sightAmong 2 = .ok (.invokevirtual 85, 3) := by decide +kernel
theorem dX5_sightAmong_5 : decode cX5_sightAmong 5 = .ok (.istore 4, 2) := by decide +kernel
theorem dX5_sightAmong_7 : decode cX5_sightAmong 7 = .ok (.aload_n 0, 1) := by decide +kernel
theorem dX5_sightAmong_8 : decode cX5_sightAmong 8 = .ok (.iload_n 3, 1) := by decide +kernel
theorem dX5_sightAmong_9 : decode cX5_sightAmong 9 = .ok (.invokevirtual 89, 3) := by decide +kernel
theorem dX5_sightAmong_12 : decode cX5_sightAmong 12 = .ok (.istore 5, 2) := by decide +kernel
theorem dX5_sightAmong_14 : decode cX5_sightAmong 14 = .ok (.aload_n 0, 1) := by decide +kernel
theorem dX5_sightAmong_15 : decode cX5_sightAmong 15 = .ok (.iload_n 3, 1) := by decide +kernel
theorem dX5_sightAmong_16 : decode cX5_sightAmong 16 = .ok (.invokevirtual 92, 3) := by decide +kernel
theorem dX5_sightAmong_19 : decode cX5_sightAmong 19 = .ok (.tableswitch 82 0 5 #[37, 37, 82, 37, 50, 63], 37) := by decide +kernel
theorem dX5_sightAmong_56 : decode cX5_sightAmong 56 = .ok (.lload_n 1, 1) := by decide +kernel
theorem dX5_sightAmong_57 : decode cX5_sightAmong 57 = .ok (.iload 4, 2) := by decide +kernel
theorem dX5_sightAmong_59 : decode cX5_sightAmong 59 = .ok (.iload 5, 2) := by decide +kernel
theorem dX5_sightAmong_61 : decode cX5_sightAmong 61 = .ok (.aload_n 0, 1) := by decide +kernel
theorem dX5_sightAmong_62 : decode cX5_sightAmong 62 = .ok (.getfield 22, 3) := by decide +kernel
theorem dX5_sightAmong_65 : decode cX5_sightAmong 65 = .ok (.invokestatic 95, 3) := by decide +kernel
theorem dX5_sightAmong_68 : decode cX5_sightAmong 68 = .ok (.lreturn, 1) := by decide +kernel
theorem dX5_sightAmong_69 : decode cX5_sightAmong 69 = .ok (.lload_n 1, 1) := by decide +kernel
theorem dX5_sightAmong_70 : decode cX5_sightAmong 70 = .ok (.iload 4, 2) := by decide +kernel
theorem dX5_sightAmong_72 : decode cX5_sightAmong 72 = .ok (.iload 5, 2) := by decide +kernel
theorem dX5_sightAmong_74 : decode cX5_sightAmong 74 = .ok (.aload_n 0, 1) := by decide +kernel
theorem dX5_sightAmong_75 : decode cX5_sightAmong 75 = .ok (.getfield 22, 3) := by decide +kernel
theorem dX5_sightAmong_78 : decode cX5_sightAmong 78 = .ok (.invokestatic 99, 3) := by decide +kernel
theorem dX5_sightAmong_81 : decode cX5_sightAmong 81 = .ok (.lreturn, 1) := by decide +kernel
theorem dX5_sightAmong_82 : decode cX5_sightAmong 82 = .ok (.lload_n 1, 1) := by decide +kernel
theorem dX5_sightAmong_83 : decode cX5_sightAmong 83 = .ok (.iload 4, 2) := by decide +kernel
theorem dX5_sightAmong_85 : decode cX5_sightAmong 85 = .ok (.iload 5, 2) := by decide +kernel
theorem dX5_sightAmong_87 : decode cX5_sightAmong 87 = .ok (.aload_n 0, 1) := by decide +kernel
theorem dX5_sightAmong_88 : decode cX5_sightAmong 88 = .ok (.getfield 22, 3) := by decide +kernel
theorem dX5_sightAmong_91 : decode cX5_sightAmong 91 = .ok (.aload_n 0, 1) := by decide +kernel
theorem dX5_sightAmong_92 : decode cX5_sightAmong 92 = .ok (.iload_n 3, 1) := by decide +kernel
theorem dX5_sightAmong_93 : decode cX5_sightAmong 93 = .ok (.invokevirtual 102, 3) := by decide +kernel
theorem dX5_sightAmong_96 : decode cX5_sightAmong 96 = .ok (.iadd, 1) := by decide +kernel
theorem dX5_sightAmong_97 : decode cX5_sightAmong 97 = .ok (.invokestatic 99, 3) := by decide +kernel
theorem dX5_sightAmong_100 : decode cX5_sightAmong 100 = .ok (.lreturn, 1) := by decide +kernel
theorem dX5_sightAmong_101 : decode cX5_sightAmong 101 = .ok (.lconst 0, 1) := by decide +kernel
theorem dX5_sightAmong_102 : decode cX5_sightAmong 102 = .ok (.lreturn, 1) := by decide +kernel
set_option maxRecDepth 20000 in
theorem c_X5_sightAmong {G : Gl} {d : Nat} {σ : Sg} {c : Nat} (hT : TC c) {τ : Tw} (hR : RX c τ σ) (hO : OkT τ) {b : Nat} (hb : b < 2 ^ 49) {p : Nat} (hp : (p : Int) < τ.2.1 0) : CT G (d + 3) yX5_sightAmong cX5_sightAmong 6 (some .long) [.ref (gA G c), .long (lN b), .int (iI (p : Int))] σ (R1 (.long (lN (seeB τ b p))) σ) := by
  refine CT.of (by decide +kernel) (Nat.le_of_ble_eq_true rfl) ?_
  change AW G _ RX5 _ _ _ 0 [(0, .ref (gA G c)), (1, .long (lN b)), (3, .int (iI (p : Int)))] [] _ _
  have hO2 := hO
  obtain ⟨o1, o2, o3, o4, o5, o6, o7, o8, o9⟩ := hO2
  have p0 : σ.1 c 1 = τ.2.1 0 := hR.2.1 0 (by decide)
  have p1 : σ.1 c 2 = τ.2.1 1 := hR.2.1 1 (by decide)
  have p2 : σ.1 c 3 = τ.2.1 2 := hR.2.1 2 (by decide)
  have p3 : σ.1 c 4 = τ.2.1 3 := hR.2.1 3 (by decide)
  have p4 : σ.1 c 5 = τ.2.1 4 := hR.2.1 4 (by decide)
  have p5 : σ.1 c 6 = τ.2.1 5 := hR.2.1 5 (by decide)
  have q8 := o8 p hp
  refine A_aload_n (pc := 0) dX5_sightAmong_0 rfl rfl ?_
  refine A_iload_n (pc := 1) dX5_sightAmong_1 rfl rfl ?_
  refine A_callV1 (pc := 2) kX5_85 (shp_T hT) rfl (c_X5_atOf hT hR hO (by omega)) dX5_sightAmong_2 rfl rfl (Nat.le_of_ble_eq_true rfl) (Nat.le_of_ble_eq_true rfl) ?_
  rw [if_pos hp]
  refine A_istore (pc := 5) dX5_sightAmong_5 (Nat.le_of_ble_eq_true rfl) ?_
  refine A_aload_n (pc := 7) dX5_sightAmong_7 rfl rfl ?_
  refine A_iload_n (pc := 8) dX5_sightAmong_8 rfl rfl ?_
  refine A_callV1 (pc := 9) kX5_89 (shp_T hT) rfl (c_X5_outOf hT hR hO (by omega)) dX5_sightAmong_9 rfl rfl (Nat.le_of_ble_eq_true rfl) (Nat.le_of_ble_eq_true rfl) ?_
  rw [if_pos hp]
  refine A_istore (pc := 12) dX5_sightAmong_12 (Nat.le_of_ble_eq_true rfl) ?_
  refine A_aload_n (pc := 14) dX5_sightAmong_14 rfl rfl ?_
  refine A_iload_n (pc := 15) dX5_sightAmong_15 rfl rfl ?_
  refine A_callV1 (pc := 16) kX5_92 (shp_T hT) rfl (c_X5_kindOf hT hR hO (by omega)) dX5_sightAmong_16 rfl rfl (Nat.le_of_ble_eq_true rfl) (Nat.le_of_ble_eq_true rfl) ?_
  rw [if_pos hp]
  refine A_tsw (pc := 19) [(0, 56), (1, 56), (2, 101), (3, 56), (4, 69), (5, 82)] 101 dX5_sightAmong_19 (by decide) (by decide) (by decide) (by omega) (by omega) ?_
  refine ⟨fun h19 => ?_, fun h19n0 => ?_⟩
  · skip
    refine A_lload_n (pc := 56) dX5_sightAmong_56 rfl rfl ?_
    refine A_iload (pc := 57) dX5_sightAmong_57 rfl ?_
    refine A_iload (pc := 59) dX5_sightAmong_59 rfl ?_
    refine A_aload_n (pc := 61) dX5_sightAmong_61 rfl rfl ?_
    refine A_getIv (pc := 62) fX5_22 (shp_T hT) rfl p2 dX5_sightAmong_62 ?_
    refine A_callS1 (pc := 65) kX5_95 (c_X0_line hb (by omega) (by omega) (by omega) (by omega) (by omega) (by omega)) dX5_sightAmong_65 rfl rfl (Nat.le_of_ble_eq_true rfl) (Nat.le_of_ble_eq_true rfl) ?_
    refine A_lret (pc := 68) rfl dX5_sightAmong_68 ?_
    exact ⟨by rw [seeB, if_pos (by omega)], rfl⟩
  refine ⟨fun h19 => ?_, fun h19n1 => ?_⟩
  · skip
    refine A_lload_n (pc := 56) dX5_sightAmong_56 rfl rfl ?_
    refine A_iload (pc := 57) dX5_sightAmong_57 rfl ?_
    refine A_iload (pc := 59) dX5_sightAmong_59 rfl ?_
    refine A_aload_n (pc := 61) dX5_sightAmong_61 rfl rfl ?_
    refine A_getIv (pc := 62) fX5_22 (shp_T hT) rfl p2 dX5_sightAmong_62 ?_
    refine A_callS1 (pc := 65) kX5_95 (c_X0_line hb (by omega) (by omega) (by omega) (by omega) (by omega) (by omega)) dX5_sightAmong_65 rfl rfl (Nat.le_of_ble_eq_true rfl) (Nat.le_of_ble_eq_true rfl) ?_
    refine A_lret (pc := 68) rfl dX5_sightAmong_68 ?_
    exact ⟨by rw [seeB, if_pos (by omega)], rfl⟩
  refine ⟨fun h19 => ?_, fun h19n2 => ?_⟩
  · skip
    refine A_lconst (pc := 101) 0 dX5_sightAmong_101 rfl ?_
    refine A_lret (pc := 102) rfl dX5_sightAmong_102 ?_
    exact ⟨by rw [seeB, if_neg (by omega), if_neg (by omega), if_neg (by omega)]; rfl, rfl⟩
  refine ⟨fun h19 => ?_, fun h19n3 => ?_⟩
  · skip
    refine A_lload_n (pc := 56) dX5_sightAmong_56 rfl rfl ?_
    refine A_iload (pc := 57) dX5_sightAmong_57 rfl ?_
    refine A_iload (pc := 59) dX5_sightAmong_59 rfl ?_
    refine A_aload_n (pc := 61) dX5_sightAmong_61 rfl rfl ?_
    refine A_getIv (pc := 62) fX5_22 (shp_T hT) rfl p2 dX5_sightAmong_62 ?_
    refine A_callS1 (pc := 65) kX5_95 (c_X0_line hb (by omega) (by omega) (by omega) (by omega) (by omega) (by omega)) dX5_sightAmong_65 rfl rfl (Nat.le_of_ble_eq_true rfl) (Nat.le_of_ble_eq_true rfl) ?_
    refine A_lret (pc := 68) rfl dX5_sightAmong_68 ?_
    exact ⟨by rw [seeB, if_pos (by omega)], rfl⟩
  refine ⟨fun h19 => ?_, fun h19n4 => ?_⟩
  · skip
    refine A_lload_n (pc := 69) dX5_sightAmong_69 rfl rfl ?_
    refine A_iload (pc := 70) dX5_sightAmong_70 rfl ?_
    refine A_iload (pc := 72) dX5_sightAmong_72 rfl ?_
    refine A_aload_n (pc := 74) dX5_sightAmong_74 rfl rfl ?_
    refine A_getIv (pc := 75) fX5_22 (shp_T hT) rfl p2 dX5_sightAmong_75 ?_
    refine A_callS1 (pc := 78) kX5_99 (c_X0_wideLine hb (by omega) (by omega) (by omega) (by omega) (by omega) (by omega)) dX5_sightAmong_78 rfl rfl (Nat.le_of_ble_eq_true rfl) (Nat.le_of_ble_eq_true rfl) ?_
    refine A_lret (pc := 81) rfl dX5_sightAmong_81 ?_
    exact ⟨by rw [seeB, if_neg (by omega), if_pos (by omega)], rfl⟩
  refine ⟨fun h19 => ?_, fun h19n5 => ?_⟩
  · skip
    refine A_lload_n (pc := 82) dX5_sightAmong_82 rfl rfl ?_
    refine A_iload (pc := 83) dX5_sightAmong_83 rfl ?_
    refine A_iload (pc := 85) dX5_sightAmong_85 rfl ?_
    refine A_aload_n (pc := 87) dX5_sightAmong_87 rfl rfl ?_
    refine A_getIv (pc := 88) fX5_22 (shp_T hT) rfl p2 dX5_sightAmong_88 ?_
    refine A_aload_n (pc := 91) dX5_sightAmong_91 rfl rfl ?_
    refine A_iload_n (pc := 92) dX5_sightAmong_92 rfl rfl ?_
    refine A_callV1 (pc := 93) kX5_102 (shp_T hT) rfl (c_X5_aOf hT hR hO (by omega)) dX5_sightAmong_93 rfl rfl (Nat.le_of_ble_eq_true rfl) (Nat.le_of_ble_eq_true rfl) ?_
    rw [if_pos hp]
    refine A_iadd (pc := 96) dX5_sightAmong_96 ?_
    refine A_callS1 (pc := 97) kX5_99 (c_X0_wideLine hb (by omega) (by omega) (by omega) (by omega) (by omega) (by omega)) dX5_sightAmong_97 rfl rfl (Nat.le_of_ble_eq_true rfl) (Nat.le_of_ble_eq_true rfl) ?_
    refine A_lret (pc := 100) rfl dX5_sightAmong_100 ?_
    exact ⟨by rw [seeB, if_neg (by omega), if_neg (by omega), if_pos (by omega)], rfl⟩
  change AW G _ _ _ _ _ 101 _ _ _ _
  refine A_lconst (pc := 101) 0 dX5_sightAmong_101 rfl ?_
  refine A_lret (pc := 102) rfl dX5_sightAmong_102 ?_
  exact ⟨by rw [seeB, if_neg (by omega), if_neg (by omega), if_neg (by omega)]; rfl, rfl⟩
set_option maxRecDepth 20000 in
theorem c_X5_sightAmong0 {G : Gl} {d : Nat} {σ : Sg} {c : Nat} (hT : TC c) {τ : Tw} (hR : RX c τ σ) (hO : OkT τ) {b : Nat} {p : Nat} (hp : τ.2.1 0 ≤ (p : Int)) (hp2 : (p : Int) < 100) : CT G (d + 3) yX5_sightAmong cX5_sightAmong 6 (some .long) [.ref (gA G c), .long (lN b), .int (iI (p : Int))] σ (R1 (.long (lN 0)) σ) := by
  refine CT.of (by decide +kernel) (Nat.le_of_ble_eq_true rfl) ?_
  change AW G _ RX5 _ _ _ 0 [(0, .ref (gA G c)), (1, .long (lN b)), (3, .int (iI (p : Int)))] [] _ _
  have hO2 := hO
  obtain ⟨o1, o2, o3, o4, o5, o6, o7, o8, o9⟩ := hO2
  have p0 : σ.1 c 1 = τ.2.1 0 := hR.2.1 0 (by decide)
  have p1 : σ.1 c 2 = τ.2.1 1 := hR.2.1 1 (by decide)
  have p2 : σ.1 c 3 = τ.2.1 2 := hR.2.1 2 (by decide)
  have p3 : σ.1 c 4 = τ.2.1 3 := hR.2.1 3 (by decide)
  have p4 : σ.1 c 5 = τ.2.1 4 := hR.2.1 4 (by decide)
  have p5 : σ.1 c 6 = τ.2.1 5 := hR.2.1 5 (by decide)
  refine A_aload_n (pc := 0) dX5_sightAmong_0 rfl rfl ?_
  refine A_iload_n (pc := 1) dX5_sightAmong_1 rfl rfl ?_
  refine A_callV1 (pc := 2) kX5_85 (shp_T hT) rfl (c_X5_atOf hT hR hO (by omega)) dX5_sightAmong_2 rfl rfl (Nat.le_of_ble_eq_true rfl) (Nat.le_of_ble_eq_true rfl) ?_
  rw [if_neg (by omega)]
  refine A_istore (pc := 5) dX5_sightAmong_5 (Nat.le_of_ble_eq_true rfl) ?_
  refine A_aload_n (pc := 7) dX5_sightAmong_7 rfl rfl ?_
  refine A_iload_n (pc := 8) dX5_sightAmong_8 rfl rfl ?_
  refine A_callV1 (pc := 9) kX5_89 (shp_T hT) rfl (c_X5_outOf hT hR hO (by omega)) dX5_sightAmong_9 rfl rfl (Nat.le_of_ble_eq_true rfl) (Nat.le_of_ble_eq_true rfl) ?_
  rw [if_neg (by omega)]
  refine A_istore (pc := 12) dX5_sightAmong_12 (Nat.le_of_ble_eq_true rfl) ?_
  refine A_aload_n (pc := 14) dX5_sightAmong_14 rfl rfl ?_
  refine A_iload_n (pc := 15) dX5_sightAmong_15 rfl rfl ?_
  refine A_callV1 (pc := 16) kX5_92 (shp_T hT) rfl (c_X5_kindOf hT hR hO (by omega)) dX5_sightAmong_16 rfl rfl (Nat.le_of_ble_eq_true rfl) (Nat.le_of_ble_eq_true rfl) ?_
  rw [if_neg (by omega)]
  refine A_tsw (pc := 19) [(0, 56), (1, 56), (2, 101), (3, 56), (4, 69), (5, 82)] 101 dX5_sightAmong_19 (by decide) (by decide) (by decide) (by omega) (by omega) ?_
  refine ⟨fun h19 => ?_, fun h19n0 => ?_⟩
  · skip
    exact absurd h19 (by decide)
  refine ⟨fun h19 => ?_, fun h19n1 => ?_⟩
  · skip
    exact absurd h19 (by decide)
  refine ⟨fun h19 => ?_, fun h19n2 => ?_⟩
  · skip
    refine A_lconst (pc := 101) 0 dX5_sightAmong_101 rfl ?_
    refine A_lret (pc := 102) rfl dX5_sightAmong_102 ?_
    exact ⟨rfl, rfl⟩
  refine ⟨fun h19 => ?_, fun h19n3 => ?_⟩
  · skip
    exact absurd h19 (by decide)
  refine ⟨fun h19 => ?_, fun h19n4 => ?_⟩
  · skip
    exact absurd h19 (by decide)
  refine ⟨fun h19 => ?_, fun h19n5 => ?_⟩
  · skip
    exact absurd h19 (by decide)
  change AW G _ _ _ _ _ 101 _ _ _ _
  refine A_lconst (pc := 101) 0 dX5_sightAmong_101 rfl ?_
  refine A_lret (pc := 102) rfl dX5_sightAmong_102 ?_
  exact ⟨rfl, rfl⟩
theorem dX5_sightOf_0 : decode cX5_sightOf 0 = .ok (.aload_n 0, 1) := by decide +kernel
theorem dX5_sightOf_1 : decode cX5_sightOf 1 = .ok (.aload_n 0, 1) := by decide +kernel
theorem dX5_sightOf_2 : decode cX5_sightOf 2 = .ok (.getfield 9, 3) := by decide +kernel
theorem dX5_sightOf_5 : decode cX5_sightOf 5 = .ok (.iload_n 1, 1) := by decide +kernel
theorem dX5_sightOf_6 : decode cX5_sightOf 6 = .ok (.invokevirtual 82, 3) := by decide +kernel
theorem dX5_sightOf_9 : decode cX5_sightOf 9 = .ok (.lreturn, 1) := by decide +kernel
set_option maxRecDepth 20000 in
theorem c_X5_sightOf {G : Gl} {d : Nat} {σ : Sg} {c : Nat} (hT : TC c) {τ : Tw} (hR : RX c τ σ) (hO : OkT τ) {p : Nat} (hp : (p : Int) < τ.2.1 0) : CT G (d + 4) yX5_sightOf cX5_sightOf 2 (some .long) [.ref (gA G c), .int (iI (p : Int))] σ (R1 (.long (lN (seeB τ τ.1 p))) σ) := by
  refine CT.of (by decide +kernel) (Nat.le_of_ble_eq_true rfl) ?_
  change AW G _ RX5 _ _ _ 0 [(0, .ref (gA G c)), (1, .int (iI (p : Int)))] [] _ _
  have hO2 := hO
  obtain ⟨o1, o2, o3, o4, o5, o6, o7, o8, o9⟩ := hO2
  have p0 : σ.1 c 1 = τ.2.1 0 := hR.2.1 0 (by decide)
  have p1 : σ.1 c 2 = τ.2.1 1 := hR.2.1 1 (by decide)
  have p2 : σ.1 c 3 = τ.2.1 2 := hR.2.1 2 (by decide)
  have p3 : σ.1 c 4 = τ.2.1 3 := hR.2.1 3 (by decide)
  have p4 : σ.1 c 5 = τ.2.1 4 := hR.2.1 4 (by decide)
  have p5 : σ.1 c 6 = τ.2.1 5 := hR.2.1 5 (by decide)
  refine A_aload_n (pc := 0) dX5_sightOf_0 rfl rfl ?_
  refine A_aload_n (pc := 1) dX5_sightOf_1 rfl rfl ?_
  refine A_getLv (pc := 2) fX5_9 (shp_T hT) rfl hR.1 dX5_sightOf_2 ?_
  refine A_iload_n (pc := 5) dX5_sightOf_5 rfl rfl ?_
  refine A_callV1 (pc := 6) kX5_82 (shp_T hT) rfl (c_X5_sightAmong hT hR hO o1 hp) dX5_sightOf_6 rfl rfl (Nat.le_of_ble_eq_true rfl) (Nat.le_of_ble_eq_true rfl) ?_
  refine A_lret (pc := 9) rfl dX5_sightOf_9 ?_
  exact ⟨rfl, rfl⟩
theorem dX5_allPanes_0 : decode cX5_allPanes 0 = .ok (.iconst 1, 1) := by decide +kernel
theorem dX5_allPanes_1 : decode cX5_allPanes 1 = .ok (.aload_n 0, 1) := by decide +kernel
theorem dX5_allPanes_2 : decode cX5_allPanes 2 = .ok (.getfield 15, 3) := by decide +kernel
theorem dX5_allPanes_5 : decode cX5_allPanes 5 = .ok (.ishl, 1) := by decide +kernel
theorem dX5_allPanes_6 : decode cX5_allPanes 6 = .ok (.iconst 1, 1) := by decide +kernel
theorem dX5_allPanes_7 : decode cX5_allPanes 7 = .ok (.isub, 1) := by decide +kernel
theorem dX5_allPanes_8 : decode cX5_allPanes 8 = .ok (.ireturn, 1) := by decide +kernel
set_option maxRecDepth 20000 in
theorem c_X5_allPanes {G : Gl} {d : Nat} {σ : Sg} {c : Nat} (hT : TC c) {τ : Tw} (hR : RX c τ σ) (hO : OkT τ)  : CT G d yX5_allPanes cX5_allPanes 1 (some .int) [.ref (gA G c)] σ (R1 (.int (iI (((2 ^ (τ.2.1 0).toNat : Nat) : Int) - 1))) σ) := by
  refine CT.of (by decide +kernel) (Nat.le_of_ble_eq_true rfl) ?_
  change AW G _ RX5 _ _ _ 0 [(0, .ref (gA G c))] [] _ _
  have hO2 := hO
  obtain ⟨o1, o2, o3, o4, o5, o6, o7, o8, o9⟩ := hO2
  have p0 : σ.1 c 1 = τ.2.1 0 := hR.2.1 0 (by decide)
  have p1 : σ.1 c 2 = τ.2.1 1 := hR.2.1 1 (by decide)
  have p2 : σ.1 c 3 = τ.2.1 2 := hR.2.1 2 (by decide)
  have p3 : σ.1 c 4 = τ.2.1 3 := hR.2.1 3 (by decide)
  have p4 : σ.1 c 5 = τ.2.1 4 := hR.2.1 4 (by decide)
  have p5 : σ.1 c 6 = τ.2.1 5 := hR.2.1 5 (by decide)
  obtain ⟨k, hk⟩ := Int.eq_ofNat_of_zero_le o2
  rw [hk] at p0
  have e : (τ.2.1 0).toNat = k := by omega
  rw [e]
  refine A_iconst (pc := 0) dX5_allPanes_0 ?_
  refine A_aload_n (pc := 1) dX5_allPanes_1 rfl rfl ?_
  refine A_getIv (pc := 2) fX5_15 (shp_T hT) rfl p0 dX5_allPanes_2 ?_
  refine A_ishl (pc := 5) ((2 ^ k : Nat) : Int) dX5_allPanes_5 (shl_I (by omega)) ?_
  refine A_iconst (pc := 6) dX5_allPanes_6 ?_
  refine A_isub (pc := 7) dX5_allPanes_7 ?_
  refine A_iret (pc := 8) rfl dX5_allPanes_8 ?_
  exact ⟨rfl, rfl⟩
