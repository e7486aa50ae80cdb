/-! PART 27: WindowsLookedOut$Ways; the class's way -/
def SW (c : Nat) : Nat → Prop := fun a => a = c ∨ a = c + 1
theorem SW.tc {c c2 : Nat} (hW : WC c) (hT : TC c2) : ∀ a, SW c a → ¬ (c2 ≤ a ∧ a < c2 + 8) := fun a h => by unfold SW at h; unfold WC at hW; unfold TC at hT; omega
theorem SW.x {c : Nat} (hW : WC c) : ∀ a, SW c a → ScX a ∨ 54 ≤ a := fun a h => by unfold SW at h; unfold WC at hW; unfold ScX; omega
theorem SW.xc {c : Nat} (hW : WC c) : ∀ a, SW c a → XC a := fun a h => by unfold SW at h; unfold WC at hW; unfold XC; omega
theorem RWp.fr {c : Nat} {pv : Int → Int} {σ υ : Sg} {S : Nat → Prop} (h : RWp c pv σ) (hF : Fr S σ υ) (hS : ¬ S (c + 1)) : RWp c pv υ := fun s hs => by rw [(hF _ hS).1]; exact h s hs
theorem dX7_lower_0 : decode cX7_lower 0 = .ok (.iload_n 1, 1) := by decide +kernel
theorem dX7_lower_1 : decode cX7_lower 1 = .ok (.invokestatic 59, 3) := by decide +kernel
theorem dX7_lower_4 : decode cX7_lower 4 = .ok (.ifCond .eq 19, 3) := by decide +kernel
theorem dX7_lower_7 : decode cX7_lower 7 = .ok (.aload_n 0, 1) := by decide +kernel
theorem dX7_lower_8 : decode cX7_lower 8 = .ok (.getfield 15, 3) := by decide +kernel
theorem dX7_lower_11 : decode cX7_lower 11 = .ok (.iload_n 1, 1) := by decide +kernel
theorem dX7_lower_12 : decode cX7_lower 12 = .ok (.aload_n 0, 1) := by decide +kernel
theorem dX7_lower_13 : decode cX7_lower 13 = .ok (.getfield 15, 3) := by decide +kernel
theorem dX7_lower_16 : decode cX7_lower 16 = .ok (.iload_n 1, 1) := by decide +kernel
theorem dX7_lower_17 : decode cX7_lower 17 = .ok (.iaload, 1) := by decide +kernel
theorem dX7_lower_18 : decode cX7_lower 18 = .ok (.iload_n 2, 1) := by decide +kernel
theorem dX7_lower_19 : decode cX7_lower 19 = .ok (.invokestatic 62, 3) := by decide +kernel
theorem dX7_lower_22 : decode cX7_lower 22 = .ok (.iastore, 1) := by decide +kernel
theorem dX7_lower_23 : decode cX7_lower 23 = .ok (.return_, 1) := by decide +kernel
set_option maxRecDepth 20000 in
theorem c_X7_lower {G : Gl} {d : Nat} {σ : Sg} {c : Nat} (hW : WC c) {pv : Int → Int} (hp : RWp c pv σ) (hn : RWn pv) {q : Int} (hq1 : -2147483648 ≤ q) (hq2 : q < 2147483648) {x : Int} (hx1 : -2147483648 ≤ x) (hx2 : x < 2147483648) : CT G (d + 1) yX7_lower cX7_lower 3 none [.ref (gA G c), .int (iI q), .int (iI x)] σ (RE none (fun υ => RWp c (lowF pv q x) υ ∧ Fr (fun a => a = c + 1) σ υ)) := by
  refine CT.of (by decide +kernel) (Nat.le_of_ble_eq_true rfl) ?_
  change AW G _ RX7 _ _ _ 0 [(0, .ref (gA G c)), (1, .int (iI q)), (2, .int (iI x))] [] _ _
  refine A_iload_n (pc := 0) dX7_lower_0 rfl rfl ?_
  refine A_callS1 (pc := 1) kX7_59 (c_X0_isSquare hq1 hq2) dX7_lower_1 rfl rfl (Nat.le_of_ble_eq_true rfl) (Nat.le_of_ble_eq_true rfl) ?_
  refine A_ifb_eq (pc := 4) 23 dX7_lower_4 (by decide) (fun h4 => ?_) (fun h4 => ?_)
  · skip
    refine A_vret (pc := 23) rfl dX7_lower_23 ?_
    refine ⟨rfl, fun s hs => ?_, Fr.rf⟩
    show _ = if (s : Int) = q ∧ inS (s : Int) then min (pv s) x else pv s
    rw [if_neg (fun z => h4 (by rw [← z.1]; exact z.2))]
    exact hp s hs
  · skip
    obtain ⟨k, rfl⟩ := Int.eq_ofNat_of_zero_le (show 0 ≤ q by omega)
    have hk := hn k h4
    refine A_aload_n (pc := 7) dX7_lower_7 rfl rfl ?_
    refine A_getR (pc := 8) fX7_15 (shp_W hW) rfl dX7_lower_8 ?_
    refine A_iload_n (pc := 11) dX7_lower_11 rfl rfl ?_
    refine A_aload_n (pc := 12) dX7_lower_12 rfl rfl ?_
    refine A_getR (pc := 13) fX7_15 (shp_W hW) rfl dX7_lower_13 ?_
    refine A_iload_n (pc := 16) dX7_lower_16 rfl rfl ?_
    refine A_ialdv (pc := 17) k (shp_W_prices hW) rfl (by omega) (Nat.le_of_ble_eq_true rfl) (hp k (by omega)) dX7_lower_17 ?_
    refine A_iload_n (pc := 18) dX7_lower_18 rfl rfl ?_
    refine A_mmin (pc := 19) kX7_62 (by omega) (by omega) (by omega) (by omega) dX7_lower_19 (Nat.le_of_ble_eq_true rfl) ?_
    refine A_iast (pc := 22) k (shp_W_prices hW) rfl (by omega) (Nat.le_of_ble_eq_true rfl) dX7_lower_22 ?_
    refine A_vret (pc := 23) rfl dX7_lower_23 ?_
    refine ⟨rfl, fun s hs => ?_, Fr.rf.uI rfl⟩
    show _ = if (s : Int) = (k : Int) ∧ inS (s : Int) then min (pv s) x else pv s
    rw [uI_at]
    by_cases e : s = k
    · rw [if_pos ⟨rfl, e⟩, e, if_pos ⟨rfl, h4⟩]
    · rw [if_neg (fun z => e z.2), if_neg (fun z => e (by omega))]
      exact hp s hs
theorem dX7_priceFrom_0 : decode cX7_priceFrom 0 = .ok (.iload_n 1, 1) := by decide +kernel
theorem dX7_priceFrom_1 : decode cX7_priceFrom 1 = .ok (.invokestatic 59, 3) := by decide +kernel
theorem dX7_priceFrom_4 : decode cX7_priceFrom 4 = .ok (.ifCond .eq 12, 3) := by decide +kernel
theorem dX7_priceFrom_7 : decode cX7_priceFrom 7 = .ok (.aload_n 0, 1) := by decide +kernel
theorem dX7_priceFrom_8 : decode cX7_priceFrom 8 = .ok (.getfield 15, 3) := by decide +kernel
theorem dX7_priceFrom_11 : decode cX7_priceFrom 11 = .ok (.iload_n 1, 1) := by decide +kernel
theorem dX7_priceFrom_12 : decode cX7_priceFrom 12 = .ok (.iaload, 1) := by decide +kernel
theorem dX7_priceFrom_13 : decode cX7_priceFrom 13 = .ok (.goto 5, 3) := by decide +kernel
theorem dX7_priceFrom_16 : decode cX7_priceFrom 16 = .ok (.ldc 19, 2) := by decide +kernel
theorem dX7_priceFrom_18 : decode cX7_priceFrom 18 = .ok (.ireturn, 1) := by decide +kernel
set_option maxRecDepth 20000 in
theorem c_X7_priceFrom {G : Gl} {d : Nat} {σ : Sg} {c : Nat} (hW : WC c) {pv : Int → Int} (hp : RWp c pv σ) (hn : RWn pv) {q : Int} (hq1 : -2147483648 ≤ q) (hq2 : q < 2147483648) : CT G (d + 1) yX7_priceFrom cX7_priceFrom 2 (some .int) [.ref (gA G c), .int (iI q)] σ (R1 (.int (iI (priF pv q))) σ) := by
  refine CT.of (by decide +kernel) (Nat.le_of_ble_eq_true rfl) ?_
  change AW G _ RX7 _ _ _ 0 [(0, .ref (gA G c)), (1, .int (iI q))] [] _ _
  refine A_iload_n (pc := 0) dX7_priceFrom_0 rfl rfl ?_
  refine A_callS1 (pc := 1) kX7_59 (c_X0_isSquare hq1 hq2) dX7_priceFrom_1 rfl rfl (Nat.le_of_ble_eq_true rfl) (Nat.le_of_ble_eq_true rfl) ?_
  refine A_ifb_eq (pc := 4) 16 dX7_priceFrom_4 (by decide) (fun h4 => ?_) (fun h4 => ?_)
  · skip
    refine A_ldc (pc := 16) inX7_19 dX7_priceFrom_16 ?_
    refine A_iret (pc := 18) rfl dX7_priceFrom_18 ?_
    exact R1_e (by unfold priF; rw [if_neg h4])
  · skip
    obtain ⟨k, rfl⟩ := Int.eq_ofNat_of_zero_le (show 0 ≤ q by omega)
    refine A_aload_n (pc := 7) dX7_priceFrom_7 rfl rfl ?_
    refine A_getR (pc := 8) fX7_15 (shp_W hW) rfl dX7_priceFrom_8 ?_
    refine A_iload_n (pc := 11) dX7_priceFrom_11 rfl rfl ?_
    refine A_ialdv (pc := 12) k (shp_W_prices hW) rfl (by omega) (Nat.le_of_ble_eq_true rfl) (hp k (by omega)) dX7_priceFrom_12 ?_
    refine A_goto (pc := 13) 18 dX7_priceFrom_13 (by decide) ?_
    refine A_iret (pc := 18) rfl dX7_priceFrom_18 ?_
    exact R1_e (by unfold priF; rw [if_pos h4])
theorem dX7_leadsFrom_0 : decode cX7_leadsFrom 0 = .ok (.aload_n 0, 1) := by decide +kernel
theorem dX7_leadsFrom_1 : decode cX7_leadsFrom 1 = .ok (.iload_n 1, 1) := by decide +kernel
theorem dX7_leadsFrom_2 : decode cX7_leadsFrom 2 = .ok (.invokevirtual 70, 3) := by decide +kernel
theorem dX7_leadsFrom_5 : decode cX7_leadsFrom 5 = .ok (.ldc 19, 2) := by decide +kernel
theorem dX7_leadsFrom_7 : decode cX7_leadsFrom 7 = .ok (.if_icmp .ge 7, 3) := by decide +kernel
theorem dX7_leadsFrom_10 : decode cX7_leadsFrom 10 = .ok (.iconst 1, 1) := by decide +kernel
theorem dX7_leadsFrom_11 : decode cX7_leadsFrom 11 = .ok (.goto 4, 3) := by decide +kernel
theorem dX7_leadsFrom_14 : decode cX7_leadsFrom 14 = .ok (.iconst 0, 1) := by decide +kernel
theorem dX7_leadsFrom_15 : decode cX7_leadsFrom 15 = .ok (.ireturn, 1) := by decide +kernel
set_option maxRecDepth 20000 in
theorem c_X7_leadsFrom {G : Gl} {d : Nat} {σ : Sg} {c : Nat} (hW : WC c) {pv : Int → Int} (hp : RWp c pv σ) (hn : RWn pv) {q : Int} (hq1 : -2147483648 ≤ q) (hq2 : q < 2147483648) : CT G (d + 2) yX7_leadsFrom cX7_leadsFrom 2 (some .boolean) [.ref (gA G c), .int (iI q)] σ (R1 (.int (iI (bI (priF pv q < 1000000)))) σ) := by
  refine CT.of (by decide +kernel) (Nat.le_of_ble_eq_true rfl) ?_
  change AW G _ RX7 _ _ _ 0 [(0, .ref (gA G c)), (1, .int (iI q))] [] _ _
  have hr := priF_rng hn q
  refine A_aload_n (pc := 0) dX7_leadsFrom_0 rfl rfl ?_
  refine A_iload_n (pc := 1) dX7_leadsFrom_1 rfl rfl ?_
  refine A_callV1 (pc := 2) kX7_70 (shp_W hW) rfl (c_X7_priceFrom hW hp hn hq1 hq2) dX7_leadsFrom_2 rfl rfl (Nat.le_of_ble_eq_true rfl) (Nat.le_of_ble_eq_true rfl) ?_
  refine A_ldc (pc := 5) inX7_19 dX7_leadsFrom_5 ?_
  refine A_icmp_ge (pc := 7) 14 dX7_leadsFrom_7 (by decide) (by omega) (by omega) (by omega) (by omega) (fun h7 => ?_) (fun h7 => ?_)
  · skip
    refine A_iconst (pc := 14) dX7_leadsFrom_14 ?_
    refine A_zret (pc := 15) rfl rfl dX7_leadsFrom_15 ?_
    exact R1_f (by omega)
  · skip
    refine A_iconst (pc := 10) dX7_leadsFrom_10 ?_
    refine A_goto (pc := 11) 15 dX7_leadsFrom_11 (by decide) ?_
    refine A_zret (pc := 15) rfl rfl dX7_leadsFrom_15 ?_
    exact R1_t (by omega)
theorem dX7_stepPrice_0 : decode cX7_stepPrice 0 = .ok (.iload_n 3, 1) := by decide +kernel
theorem dX7_stepPrice_1 : decode cX7_stepPrice 1 = .ok (.ifCond .ne 7, 3) := by decide +kernel
theorem dX7_stepPrice_4 : decode cX7_stepPrice 4 = .ok (.iconst 1, 1) := by decide +kernel
theorem dX7_stepPrice_5 : decode cX7_stepPrice 5 = .ok (.goto 13, 3) := by decide +kernel
theorem dX7_stepPrice_8 : decode cX7_stepPrice 8 = .ok (.iload_n 3, 1) := by decide +kernel
theorem dX7_stepPrice_9 : decode cX7_stepPrice 9 = .ok (.aload_n 0, 1) := by decide +kernel
theorem dX7_stepPrice_10 : decode cX7_stepPrice 10 = .ok (.iload_n 1, 1) := by decide +kernel
theorem dX7_stepPrice_11 : decode cX7_stepPrice 11 = .ok (.iload_n 2, 1) := by decide +kernel
theorem dX7_stepPrice_12 : decode cX7_stepPrice 12 = .ok (.invokevirtual 67, 3) := by decide +kernel
theorem dX7_stepPrice_15 : decode cX7_stepPrice 15 = .ok (.imul, 1) := by decide +kernel
theorem dX7_stepPrice_16 : decode cX7_stepPrice 16 = .ok (.iconst 1, 1) := by decide +kernel
theorem dX7_stepPrice_17 : decode cX7_stepPrice 17 = .ok (.iadd, 1) := by decide +kernel
theorem dX7_stepPrice_18 : decode cX7_stepPrice 18 = .ok (.ireturn, 1) := by decide +kernel
set_option maxRecDepth 20000 in
theorem c_X7_stepPrice {G : Gl} {d : Nat} {σ : Sg} {c : Nat} (hT : TC c) {τ : Tw} (hR : RX c τ σ) (hO : OkT τ) {s w P : Int} (hs1 : -2147483648 ≤ s) (hs2 : s < 2147483648) (w1 : 0 ≤ w) (w2 : w < 4) (hP : P = 0 ∨ P = 100) : CT G (d + 4) yX7_stepPrice cX7_stepPrice 4 (some .int) [.ref (gA G c), .int (iI s), .int (iI w), .int (iI P)] σ (R1 (.int (iI (prc τ P s w))) σ) := by
  refine CT.of (by decide +kernel) (Nat.le_of_ble_eq_true rfl) ?_
  change AW G _ RX7 _ _ _ 0 [(0, .ref (gA G c)), (1, .int (iI s)), (2, .int (iI w)), (3, .int (iI P))] [] _ _
  refine A_iload_n (pc := 0) dX7_stepPrice_0 rfl rfl ?_
  refine A_if_ne (pc := 1) 8 dX7_stepPrice_1 (by decide) (by omega) (by omega) (fun h1 => ?_) (fun h1 => ?_)
  · skip
    refine A_iload_n (pc := 8) dX7_stepPrice_8 rfl rfl ?_
    refine A_aload_n (pc := 9) dX7_stepPrice_9 rfl rfl ?_
    refine A_iload_n (pc := 10) dX7_stepPrice_10 rfl rfl ?_
    refine A_iload_n (pc := 11) dX7_stepPrice_11 rfl rfl ?_
    refine A_callV1 (pc := 12) kX7_67 (shp_T hT) rfl (c_X5_shameFrom hT hR hO hs1 hs2 w1 w2) dX7_stepPrice_12 rfl rfl (Nat.le_of_ble_eq_true rfl) (Nat.le_of_ble_eq_true rfl) ?_
    refine A_imul (pc := 15) dX7_stepPrice_15 ?_
    refine A_iconst (pc := 16) dX7_stepPrice_16 ?_
    refine A_iadd (pc := 17) dX7_stepPrice_17 ?_
    refine A_iret (pc := 18) rfl dX7_stepPrice_18 ?_
    exact R1_e (by unfold prc; rw [if_neg (by omega)])
  · skip
    refine A_iconst (pc := 4) dX7_stepPrice_4 ?_
    refine A_goto (pc := 5) 18 dX7_stepPrice_5 (by decide) ?_
    refine A_iret (pc := 18) rfl dX7_stepPrice_18 ?_
    exact R1_e (by unfold prc; rw [if_pos (by omega)])
theorem dX7_cheapestOpen_0 : decode cX7_cheapestOpen 0 = .ok (.iconst (-1), 1) := by decide +kernel
theorem dX7_cheapestOpen_1 : decode cX7_cheapestOpen 1 = .ok (.istore_n 1, 1) := by decide +kernel
theorem dX7_cheapestOpen_2 : decode cX7_cheapestOpen 2 = .ok (.iconst 0, 1) := by decide +kernel
theorem dX7_cheapestOpen_3 : decode cX7_cheapestOpen 3 = .ok (.istore_n 2, 1) := by decide +kernel
theorem dX7_cheapestOpen_4 : decode cX7_cheapestOpen 4 = .ok (.iload_n 2, 1) := by decide +kernel
theorem dX7_cheapestOpen_5 : decode cX7_cheapestOpen 5 = .ok (.bipush 49, 2) := by decide +kernel
theorem dX7_cheapestOpen_7 : decode cX7_cheapestOpen 7 = .ok (.if_icmp .ge 42, 3) := by decide +kernel
theorem dX7_cheapestOpen_10 : decode cX7_cheapestOpen 10 = .ok (.aload_n 0, 1) := by decide +kernel
theorem dX7_cheapestOpen_11 : decode cX7_cheapestOpen 11 = .ok (.getfield 9, 3) := by decide +kernel
theorem dX7_cheapestOpen_14 : decode cX7_cheapestOpen 14 = .ok (.iload_n 2, 1) := by decide +kernel
theorem dX7_cheapestOpen_15 : decode cX7_cheapestOpen 15 = .ok (.invokestatic 55, 3) := by decide +kernel
theorem dX7_cheapestOpen_18 : decode cX7_cheapestOpen 18 = .ok (.ifCond .ne 25, 3) := by decide +kernel
theorem dX7_cheapestOpen_21 : decode cX7_cheapestOpen 21 = .ok (.iload_n 1, 1) := by decide +kernel
theorem dX7_cheapestOpen_22 : decode cX7_cheapestOpen 22 = .ok (.iconst (-1), 1) := by decide +kernel
theorem dX7_cheapestOpen_23 : decode cX7_cheapestOpen 23 = .ok (.if_icmp .eq 18, 3) := by decide +kernel
theorem dX7_cheapestOpen_26 : decode cX7_cheapestOpen 26 = .ok (.aload_n 0, 1) := by decide +kernel
theorem dX7_cheapestOpen_27 : decode cX7_cheapestOpen 27 = .ok (.getfield 15, 3) := by decide +kernel
theorem dX7_cheapestOpen_30 : decode cX7_cheapestOpen 30 = .ok (.iload_n 2, 1) := by decide +kernel
theorem dX7_cheapestOpen_31 : decode cX7_cheapestOpen 31 = .ok (.iaload, 1) := by decide +kernel
theorem dX7_cheapestOpen_32 : decode cX7_cheapestOpen 32 = .ok (.aload_n 0, 1) := by decide +kernel
theorem dX7_cheapestOpen_33 : decode cX7_cheapestOpen 33 = .ok (.getfield 15, 3) := by decide +kernel
theorem dX7_cheapestOpen_36 : decode cX7_cheapestOpen 36 = .ok (.iload_n 1, 1) := by decide +kernel
theorem dX7_cheapestOpen_37 : decode cX7_cheapestOpen 37 = .ok (.iaload, 1) := by decide +kernel
theorem dX7_cheapestOpen_38 : decode cX7_cheapestOpen 38 = .ok (.if_icmp .ge 5, 3) := by decide +kernel
theorem dX7_cheapestOpen_41 : decode cX7_cheapestOpen 41 = .ok (.iload_n 2, 1) := by decide +kernel
theorem dX7_cheapestOpen_42 : decode cX7_cheapestOpen 42 = .ok (.istore_n 1, 1) := by decide +kernel
theorem dX7_cheapestOpen_43 : decode cX7_cheapestOpen 43 = .ok (.iinc 2 1, 3) := by decide +kernel
theorem dX7_cheapestOpen_46 : decode cX7_cheapestOpen 46 = .ok (.goto (-42), 3) := by decide +kernel
theorem dX7_cheapestOpen_49 : decode cX7_cheapestOpen 49 = .ok (.iload_n 1, 1) := by decide +kernel
theorem dX7_cheapestOpen_50 : decode cX7_cheapestOpen 50 = .ok (.ireturn, 1) := by decide +kernel
set_option maxRecDepth 20000 in
theorem l_X7_cheapestOpen {G : Gl} {d : Nat} {σ : Sg} {K : Option Value → Sg → Prop} {c : Nat} (hW : WC c) {pv : Int → Int} (hp : RWp c pv σ) (hn : RWn pv) {S : Nat} (hS : S < 2 ^ 49) (hs : σ.2 c 0 = lN S) : ∀ (n i : Nat) (b : Int), i + n = 49 → -1 ≤ b → b < 49 → K (some (.int (iI (chG S pv n i b)))) σ → AW G (d + 1) RX7 cX7_cheapestOpen 3 (some .int) 4 [(0, .ref (gA G c)), (1, .int (iI b)), (2, .int (iI (i : Int)))] [] σ K := by
  intro n
  induction n using Nat.strongRecOn
  rename_i n ih
  intro i b hn2 b1 b2 hK
  refine A_iload_n (pc := 4) dX7_cheapestOpen_4 rfl rfl ?_
  refine A_bipush (pc := 5) dX7_cheapestOpen_5 (by decide) ?_
  refine A_icmp_ge (pc := 7) 49 dX7_cheapestOpen_7 (by decide) (by omega) (by omega) (by omega) (by omega) (fun h7 => ?_) (fun h7 => ?_)
  · skip
    refine A_iload_n (pc := 49) dX7_cheapestOpen_49 rfl rfl ?_
    refine A_iret (pc := 50) rfl dX7_cheapestOpen_50 ?_
    have hn0 : n = 0 := by omega
    subst hn0
    exact hK
  · skip
    refine A_aload_n (pc := 10) dX7_cheapestOpen_10 rfl rfl ?_
    refine A_getLv (pc := 11) fX7_9 (shp_W hW) rfl hs dX7_cheapestOpen_11 ?_
    refine A_iload_n (pc := 14) dX7_cheapestOpen_14 rfl rfl ?_
    refine A_callS1 (pc := 15) kX7_55 (c_X0_has hS (by omega) (by omega)) dX7_cheapestOpen_15 rfl rfl (Nat.le_of_ble_eq_true rfl) (Nat.le_of_ble_eq_true rfl) ?_
    refine A_ifb_ne (pc := 18) 43 dX7_cheapestOpen_18 (by decide) (fun h18 => ?_) (fun h18 => ?_)
    · skip
      refine A_iinc (pc := 43) dX7_cheapestOpen_43 rfl (Nat.le_of_ble_eq_true rfl) ?_
      refine A_goto (pc := 46) 4 dX7_cheapestOpen_46 (by decide) ?_
      obtain ⟨u, rfl⟩ : ∃ u, n = u + 1 := ⟨n - 1, by omega⟩
      refine A_loc (l2 := [(0, _), (1, _), (2, _)]) ⟨rfl, rfl, rfl, trivial⟩ ?_
      refine ih u (by omega) (i + 1) b (by omega) b1 b2 ?_
      rw [chG_n1 ((sT_k (by omega)).mp h18)] at hK
      exact hK
    · skip
      refine A_iload_n (pc := 21) dX7_cheapestOpen_21 rfl rfl ?_
      refine A_iconst (pc := 22) dX7_cheapestOpen_22 ?_
      refine A_icmp_eq (pc := 23) 41 dX7_cheapestOpen_23 (by decide) (by omega) (by omega) (by omega) (by omega) (fun h23 => ?_) (fun h23 => ?_)
      · skip
        refine A_iload_n (pc := 41) dX7_cheapestOpen_41 rfl rfl ?_
        refine A_istore_n (pc := 42) dX7_cheapestOpen_42 rfl (Nat.le_of_ble_eq_true rfl) ?_
        refine A_iinc (pc := 43) dX7_cheapestOpen_43 rfl (Nat.le_of_ble_eq_true rfl) ?_
        refine A_goto (pc := 46) 4 dX7_cheapestOpen_46 (by decide) ?_
        obtain ⟨u, rfl⟩ : ∃ u, n = u + 1 := ⟨n - 1, by omega⟩
        refine A_loc (l2 := [(0, _), (1, _), (2, _)]) ⟨rfl, rfl, rfl, trivial⟩ ?_
        refine ih u (by omega) (i + 1) (i : Int) (by omega) (by omega) (by omega) ?_
        rw [chG_y (Bool.eq_false_iff.mpr (fun q => h18 ((sT_k (by omega)).mpr q))) (Or.inl h23)] at hK
        exact hK
      · skip
        obtain ⟨k, rfl⟩ := Int.eq_ofNat_of_zero_le (show 0 ≤ b by omega)
        have g1 := hn i ⟨by omega, by omega⟩
        have g2 := hn k ⟨by omega, by omega⟩
        refine A_aload_n (pc := 26) dX7_cheapestOpen_26 rfl rfl ?_
        refine A_getR (pc := 27) fX7_15 (shp_W hW) rfl dX7_cheapestOpen_27 ?_
        refine A_iload_n (pc := 30) dX7_cheapestOpen_30 rfl rfl ?_
        refine A_ialdv (pc := 31) i (shp_W_prices hW) rfl (by omega) (Nat.le_of_ble_eq_true rfl) (hp i (by omega)) dX7_cheapestOpen_31 ?_
        refine A_aload_n (pc := 32) dX7_cheapestOpen_32 rfl rfl ?_
        refine A_getR (pc := 33) fX7_15 (shp_W hW) rfl dX7_cheapestOpen_33 ?_
        refine A_iload_n (pc := 36) dX7_cheapestOpen_36 rfl rfl ?_
        refine A_ialdv (pc := 37) k (shp_W_prices hW) rfl (by omega) (Nat.le_of_ble_eq_true rfl) (hp k (by omega)) dX7_cheapestOpen_37 ?_
        refine A_icmp_ge (pc := 38) 43 dX7_cheapestOpen_38 (by decide) (by omega) (by omega) (by omega) (by omega) (fun h38 => ?_) (fun h38 => ?_)
        · skip
          refine A_iinc (pc := 43) dX7_cheapestOpen_43 rfl (Nat.le_of_ble_eq_true rfl) ?_
          refine A_goto (pc := 46) 4 dX7_cheapestOpen_46 (by decide) ?_
          obtain ⟨u, rfl⟩ : ∃ u, n = u + 1 := ⟨n - 1, by omega⟩
          refine A_loc (l2 := [(0, _), (1, _), (2, _)]) ⟨rfl, rfl, rfl, trivial⟩ ?_
          refine ih u (by omega) (i + 1) (k : Int) (by omega) b1 b2 ?_
          rw [chG_n2 (by omega)] at hK
          exact hK
        · skip
          refine A_iload_n (pc := 41) dX7_cheapestOpen_41 rfl rfl ?_
          refine A_istore_n (pc := 42) dX7_cheapestOpen_42 rfl (Nat.le_of_ble_eq_true rfl) ?_
          refine A_iinc (pc := 43) dX7_cheapestOpen_43 rfl (Nat.le_of_ble_eq_true rfl) ?_
          refine A_goto (pc := 46) 4 dX7_cheapestOpen_46 (by decide) ?_
          obtain ⟨u, rfl⟩ : ∃ u, n = u + 1 := ⟨n - 1, by omega⟩
          refine A_loc (l2 := [(0, _), (1, _), (2, _)]) ⟨rfl, rfl, rfl, trivial⟩ ?_
          refine ih u (by omega) (i + 1) (i : Int) (by omega) (by omega) (by omega) ?_
          rw [chG_y (Bool.eq_false_iff.mpr (fun q => h18 ((sT_k (by omega)).mpr q))) (Or.inr (by omega))] at hK
          exact hK
set_option maxRecDepth 20000 in
theorem c_X7_cheapestOpen {G : Gl} {d : Nat} {σ : Sg} {c : Nat} (hW : WC c) {pv : Int → Int} (hp : RWp c pv σ) (hn : RWn pv) {S : Nat} (hS : S < 2 ^ 49) (hs : σ.2 c 0 = lN S) : CT G (d + 1) yX7_cheapestOpen cX7_cheapestOpen 3 (some .int) [.ref (gA G c)] σ (R1 (.int (iI (chG S pv 49 0 (-1)))) σ) := by
  refine CT.of (by decide +kernel) (Nat.le_of_ble_eq_true rfl) ?_
  change AW G _ RX7 _ _ _ 0 [(0, .ref (gA G c))] [] _ _
  refine A_iconst (pc := 0) dX7_cheapestOpen_0 ?_
  refine A_istore_n (pc := 1) dX7_cheapestOpen_1 rfl (Nat.le_of_ble_eq_true rfl) ?_
  refine A_iconst (pc := 2) dX7_cheapestOpen_2 ?_
  refine A_istore_n (pc := 3) dX7_cheapestOpen_3 rfl (Nat.le_of_ble_eq_true rfl) ?_
  refine A_loc (l2 := [(0, _), (1, _), (2, _)]) ⟨rfl, rfl, rfl, trivial⟩ ?_
  exact l_X7_cheapestOpen hW hp hn hS hs 49 0 (-1) rfl (by omega) (by omega) ⟨rfl, rfl⟩
theorem dX7_measure_0 : decode cX7_measure 0 = .ok (.aload_n 0, 1) := by decide +kernel
theorem dX7_measure_1 : decode cX7_measure 1 = .ok (.lconst 0, 1) := by decide +kernel
theorem dX7_measure_2 : decode cX7_measure 2 = .ok (.putfield 9, 3) := by decide +kernel
theorem dX7_measure_5 : decode cX7_measure 5 = .ok (.iconst 0, 1) := by decide +kernel
theorem dX7_measure_6 : decode cX7_measure 6 = .ok (.istore 4, 2) := by decide +kernel
theorem dX7_measure_8 : decode cX7_measure 8 = .ok (.iload 4, 2) := by decide +kernel
theorem dX7_measure_10 : decode cX7_measure 10 = .ok (.bipush 49, 2) := by decide +kernel
theorem dX7_measure_12 : decode cX7_measure 12 = .ok (.if_icmp .ge 28, 3) := by decide +kernel
theorem dX7_measure_15 : decode cX7_measure 15 = .ok (.aload_n 0, 1) := by decide +kernel
theorem dX7_measure_16 : decode cX7_measure 16 = .ok (.getfield 15, 3) := by decide +kernel
theorem dX7_measure_19 : decode cX7_measure 19 = .ok (.iload 4, 2) := by decide +kernel
theorem dX7_measure_21 : decode cX7_measure 21 = .ok (.iload 4, 2) := by decide +kernel
theorem dX7_measure_23 : decode cX7_measure 23 = .ok (.iload_n 2, 1) := by decide +kernel
theorem dX7_measure_24 : decode cX7_measure 24 = .ok (.if_icmp .ne 7, 3) := by decide +kernel
theorem dX7_measure_27 : decode cX7_measure 27 = .ok (.iconst 0, 1) := by decide +kernel
theorem dX7_measure_28 : decode cX7_measure 28 = .ok (.goto 5, 3) := by decide +kernel
theorem dX7_measure_31 : decode cX7_measure 31 = .ok (.ldc 19, 2) := by decide +kernel
theorem dX7_measure_33 : decode cX7_measure 33 = .ok (.iastore, 1) := by decide +kernel
theorem dX7_measure_34 : decode cX7_measure 34 = .ok (.iinc 4 1, 3) := by decide +kernel
theorem dX7_measure_37 : decode cX7_measure 37 = .ok (.goto (-29), 3) := by decide +kernel
theorem dX7_measure_40 : decode cX7_measure 40 = .ok (.iconst 0, 1) := by decide +kernel
theorem dX7_measure_41 : decode cX7_measure 41 = .ok (.istore 4, 2) := by decide +kernel
theorem dX7_measure_43 : decode cX7_measure 43 = .ok (.iload 4, 2) := by decide +kernel
theorem dX7_measure_45 : decode cX7_measure 45 = .ok (.bipush 49, 2) := by decide +kernel
theorem dX7_measure_47 : decode cX7_measure 47 = .ok (.if_icmp .ge 96, 3) := by decide +kernel
theorem dX7_measure_50 : decode cX7_measure 50 = .ok (.aload_n 0, 1) := by decide +kernel
theorem dX7_measure_51 : decode cX7_measure 51 = .ok (.invokevirtual 20, 3) := by decide +kernel
theorem dX7_measure_54 : decode cX7_measure 54 = .ok (.istore 5, 2) := by decide +kernel
theorem dX7_measure_56 : decode cX7_measure 56 = .ok (.aload_n 0, 1) := by decide +kernel
theorem dX7_measure_57 : decode cX7_measure 57 = .ok (.aload_n 0, 1) := by decide +kernel
theorem dX7_measure_58 : decode cX7_measure 58 = .ok (.getfield 9, 3) := by decide +kernel
theorem dX7_measure_61 : decode cX7_measure 61 = .ok (.iload 5, 2) := by decide +kernel
theorem dX7_measure_63 : decode cX7_measure 63 = .ok (.invokestatic 24, 3) := by decide +kernel
theorem dX7_measure_66 : decode cX7_measure 66 = .ok (.putfield 9, 3) := by decide +kernel
theorem dX7_measure_69 : decode cX7_measure 69 = .ok (.iconst 0, 1) := by decide +kernel
theorem dX7_measure_70 : decode cX7_measure 70 = .ok (.istore 6, 2) := by decide +kernel
theorem dX7_measure_72 : decode cX7_measure 72 = .ok (.iload 6, 2) := by decide +kernel
theorem dX7_measure_74 : decode cX7_measure 74 = .ok (.iconst 4, 1) := by decide +kernel
theorem dX7_measure_75 : decode cX7_measure 75 = .ok (.if_icmp .ge 62, 3) := by decide +kernel
theorem dX7_measure_78 : decode cX7_measure 78 = .ok (.iload 5, 2) := by decide +kernel
theorem dX7_measure_80 : decode cX7_measure 80 = .ok (.iload 6, 2) := by decide +kernel
theorem dX7_measure_82 : decode cX7_measure 82 = .ok (.invokestatic 30, 3) := by decide +kernel
theorem dX7_measure_85 : decode cX7_measure 85 = .ok (.invokestatic 34, 3) := by decide +kernel
theorem dX7_measure_88 : decode cX7_measure 88 = .ok (.istore 7, 2) := by decide +kernel
theorem dX7_measure_90 : decode cX7_measure 90 = .ok (.aload_n 0, 1) := by decide +kernel
theorem dX7_measure_91 : decode cX7_measure 91 = .ok (.iload 5, 2) := by decide +kernel
theorem dX7_measure_93 : decode cX7_measure 93 = .ok (.invokevirtual 38, 3) := by decide +kernel
theorem dX7_measure_96 : decode cX7_measure 96 = .ok (.ifCond .eq 35, 3) := by decide +kernel
theorem dX7_measure_99 : decode cX7_measure 99 = .ok (.aload_n 1, 1) := by decide +kernel
theorem dX7_measure_100 : decode cX7_measure 100 = .ok (.iload 7, 2) := by decide +kernel
theorem dX7_measure_102 : decode cX7_measure 102 = .ok (.invokevirtual 42, 3) := by decide +kernel
theorem dX7_measure_105 : decode cX7_measure 105 = .ok (.ifCond .eq 26, 3) := by decide +kernel
theorem dX7_measure_108 : decode cX7_measure 108 = .ok (.aload_n 0, 1) := by decide +kernel
theorem dX7_measure_109 : decode cX7_measure 109 = .ok (.iload 7, 2) := by decide +kernel
theorem dX7_measure_111 : decode cX7_measure 111 = .ok (.aload_n 0, 1) := by decide +kernel
theorem dX7_measure_112 : decode cX7_measure 112 = .ok (.getfield 15, 3) := by decide +kernel
theorem dX7_measure_115 : decode cX7_measure 115 = .ok (.iload 5, 2) := by decide +kernel
theorem dX7_measure_117 : decode cX7_measure 117 = .ok (.iaload, 1) := by decide +kernel
theorem dX7_measure_118 : decode cX7_measure 118 = .ok (.aload_n 1, 1) := by decide +kernel
theorem dX7_measure_119 : decode cX7_measure 119 = .ok (.iload 5, 2) := by decide +kernel
theorem dX7_measure_121 : decode cX7_measure 121 = .ok (.iload 6, 2) := by decide +kernel
theorem dX7_measure_123 : decode cX7_measure 123 = .ok (.iload_n 3, 1) := by decide +kernel
theorem dX7_measure_124 : decode cX7_measure 124 = .ok (.invokestatic 47, 3) := by decide +kernel
theorem dX7_measure_127 : decode cX7_measure 127 = .ok (.iadd, 1) := by decide +kernel
theorem dX7_measure_128 : decode cX7_measure 128 = .ok (.invokevirtual 51, 3) := by decide +kernel
theorem dX7_measure_131 : decode cX7_measure 131 = .ok (.iinc 6 1, 3) := by decide +kernel
theorem dX7_measure_134 : decode cX7_measure 134 = .ok (.goto (-62), 3) := by decide +kernel
theorem dX7_measure_137 : decode cX7_measure 137 = .ok (.iinc 4 1, 3) := by decide +kernel
theorem dX7_measure_140 : decode cX7_measure 140 = .ok (.goto (-97), 3) := by decide +kernel
theorem dX7_measure_143 : decode cX7_measure 143 = .ok (.return_, 1) := by decide +kernel
set_option maxRecDepth 20000 in
theorem l1_X7_measure {G : Gl} {d : Nat} {K : Option Value → Sg → Prop} {c c2 : Nat} (hW : WC c) (hT : TC c2) {τ : Tw} {σ0 : Sg} (hR : RX c2 τ σ0) (hO : OkT τ) {P g : Int} (hP : P = 0 ∨ P = 100) (ho : opn τ g) : ∀ (n i : Nat) (σ : Sg), i + n = 49 → Fr (SW c) σ0 σ → (∀ s : Nat, s < i → σ.1 (c + 1) s = if (s : Int) = g then 0 else 1000000) → σ.2 c 0 = lN 0 → (∀ υ, Fr (SW c) σ0 υ → RWp c (fun s => if s = g then 0 else 1000000) υ → υ.2 c 0 = lN 0 → AW G (d + 5) RX7 cX7_measure 8 none 40 [(0, .ref (gA G c)), (1, .ref (gA G c2)), (2, .int (iI g)), (3, .int (iI P))] [] υ K) → AW G (d + 5) RX7 cX7_measure 8 none 8 [(0, .ref (gA G c)), (1, .ref (gA G c2)), (2, .int (iI g)), (3, .int (iI P)), (4, .int (iI (i : Int)))] [] σ K := by
  intro n
  induction n using Nat.strongRecOn
  rename_i n ih
  intro i σ hn hF hz hs hK
  refine A_iload (pc := 8) dX7_measure_8 rfl ?_
  refine A_bipush (pc := 10) dX7_measure_10 (by decide) ?_
  refine A_icmp_ge (pc := 12) 40 dX7_measure_12 (by decide) (by omega) (by omega) (by omega) (by omega) (fun h12 => ?_) (fun h12 => ?_)
  · skip
    have hn0 : n = 0 := by omega
    subst hn0
    refine A_loc (l2 := [(0, _), (1, _), (2, _), (3, _)]) ⟨rfl, rfl, rfl, rfl, trivial⟩ ?_
    exact hK σ hF (fun s h => hz s (by omega)) hs
  · skip
    refine A_aload_n (pc := 15) dX7_measure_15 rfl rfl ?_
    refine A_getR (pc := 16) fX7_15 (shp_W hW) rfl dX7_measure_16 ?_
    refine A_iload (pc := 19) dX7_measure_19 rfl ?_
    refine A_iload (pc := 21) dX7_measure_21 rfl ?_
    refine A_iload_n (pc := 23) dX7_measure_23 rfl rfl ?_
    refine A_icmp_ne (pc := 24) 31 dX7_measure_24 (by decide) (by omega) (by omega) (by omega) (by omega) (fun h24 => ?_) (fun h24 => ?_)
    · skip
      refine A_ldc (pc := 31) inX7_19 dX7_measure_31 ?_
      refine A_iast (pc := 33) i (shp_W_prices hW) rfl (by omega) (Nat.le_of_ble_eq_true rfl) dX7_measure_33 ?_
      refine A_iinc (pc := 34) dX7_measure_34 rfl (Nat.le_of_ble_eq_true rfl) ?_
      refine A_goto (pc := 37) 8 dX7_measure_37 (by decide) ?_
      obtain ⟨u, rfl⟩ : ∃ u, n = u + 1 := ⟨n - 1, by omega⟩
      refine A_loc (l2 := [(0, _), (1, _), (2, _), (3, _), (4, _)]) ⟨rfl, rfl, rfl, rfl, rfl, trivial⟩ ?_
      refine ih u (by omega) (i + 1) _ (by omega) (hF.uI (Or.inr rfl)) (fun s h => ?_) hs hK
      rw [uI_at]
      by_cases e : s = i
      · rw [if_pos ⟨rfl, e⟩, if_neg (by omega)]
      · rw [if_neg (fun z => e z.2)]; exact hz s (by omega)
    · skip
      refine A_iconst (pc := 27) dX7_measure_27 ?_
      refine A_goto (pc := 28) 33 dX7_measure_28 (by decide) ?_
      refine A_iast (pc := 33) i (shp_W_prices hW) rfl (by omega) (Nat.le_of_ble_eq_true rfl) dX7_measure_33 ?_
      refine A_iinc (pc := 34) dX7_measure_34 rfl (Nat.le_of_ble_eq_true rfl) ?_
      refine A_goto (pc := 37) 8 dX7_measure_37 (by decide) ?_
      obtain ⟨u, rfl⟩ : ∃ u, n = u + 1 := ⟨n - 1, by omega⟩
      refine A_loc (l2 := [(0, _), (1, _), (2, _), (3, _), (4, _)]) ⟨rfl, rfl, rfl, rfl, rfl, trivial⟩ ?_
      refine ih u (by omega) (i + 1) _ (by omega) (hF.uI (Or.inr rfl)) (fun s h => ?_) hs hK
      rw [uI_at]
      by_cases e : s = i
      · rw [if_pos ⟨rfl, e⟩, if_pos (by omega)]
      · rw [if_neg (fun z => e z.2)]; exact hz s (by omega)
set_option maxRecDepth 20000 in
theorem l3_X7_measure {G : Gl} {d : Nat} {K : Option Value → Sg → Prop} {c c2 : Nat} (hW : WC c) (hT : TC c2) {τ : Tw} {σ0 : Sg} (hR : RX c2 τ σ0) (hO : OkT τ) {P g : Int} (hP : P = 0 ∨ P = 100) (ho : opn τ g) {i k S : Nat} (hi : i < 49) (hk : k < 49) (hb : sT S (k : Int)) : ∀ (n w : Nat) (pv : Int → Int) (σ : Sg), w + n = 4 → Fr (SW c) σ0 σ → RWp c pv σ → σ.2 c 0 = lN S → Dj1 τ P g i S (k : Int) (w : Int) pv → (∀ pv υ, Fr (SW c) σ0 υ → RWp c pv υ → υ.2 c 0 = lN S → Dj1 τ P g i S (k : Int) 4 pv → AW G (d + 5) RX7 cX7_measure 8 none 137 [(0, .ref (gA G c)), (1, .ref (gA G c2)), (2, .int (iI g)), (3, .int (iI P)), (4, .int (iI (i : Int)))] [] υ K) → AW G (d + 5) RX7 cX7_measure 8 none 72 [(0, .ref (gA G c)), (1, .ref (gA G c2)), (2, .int (iI g)), (3, .int (iI P)), (4, .int (iI (i : Int))), (5, .int (iI (k : Int))), (6, .int (iI (w : Int)))] [] σ K := by
  intro n
  induction n using Nat.strongRecOn
  rename_i n ih
  intro w pv σ hn2 hF hp hs hD hK
  have hR2 := hR.fr hF (SW.tc hW hT)
  have hn : RWn pv := fun s q => ⟨(hD.2.1 s q).1, (hD.2.1 s q).2.1⟩
  have hrk := hn k ⟨by omega, by omega⟩
  have ebk : priF pv (k : Int) = pv k := priF_in ⟨by omega, by omega⟩
  have hbr := bes_rng (k : Int) (3 - (w : Int))
  refine A_iload (pc := 72) dX7_measure_72 rfl ?_
  refine A_iconst (pc := 74) dX7_measure_74 ?_
  refine A_icmp_ge (pc := 75) 137 dX7_measure_75 (by decide) (by omega) (by omega) (by omega) (by omega) (fun h75 => ?_) (fun h75 => ?_)
  · skip
    have hw4 : w = 4 := by omega
    subst hw4
    refine A_loc (l2 := [(0, _), (1, _), (2, _), (3, _), (4, _)]) ⟨rfl, rfl, rfl, rfl, rfl, trivial⟩ ?_
    exact hK pv σ hF hp hs hD
  · skip
    refine A_iload (pc := 78) dX7_measure_78 rfl ?_
    refine A_iload (pc := 80) dX7_measure_80 rfl ?_
    refine A_callS1 (pc := 82) kX7_30 (c_X0_opposite) dX7_measure_82 rfl rfl (Nat.le_of_ble_eq_true rfl) (Nat.le_of_ble_eq_true rfl) ?_
    refine A_callS1 (pc := 85) kX7_34 (c_X0_beside (by omega) (by omega) (by omega) (by omega)) dX7_measure_85 rfl rfl (Nat.le_of_ble_eq_true rfl) (Nat.le_of_ble_eq_true rfl) ?_
    refine A_istore (pc := 88) dX7_measure_88 (Nat.le_of_ble_eq_true rfl) ?_
    refine A_aload_n (pc := 90) dX7_measure_90 rfl rfl ?_
    refine A_iload (pc := 91) dX7_measure_91 rfl ?_
    refine A_callV1 (pc := 93) kX7_38 (shp_W hW) rfl (c_X7_leadsFrom hW hp hn (by omega) (by omega)) dX7_measure_93 rfl rfl (Nat.le_of_ble_eq_true rfl) (Nat.le_of_ble_eq_true rfl) ?_
    refine A_ifb_eq (pc := 96) 131 dX7_measure_96 (by decide) (fun h96 => ?_) (fun h96 => ?_)
    · skip
      refine A_iinc (pc := 131) dX7_measure_131 rfl (Nat.le_of_ble_eq_true rfl) ?_
      refine A_goto (pc := 134) 72 dX7_measure_134 (by decide) ?_
      obtain ⟨u, rfl⟩ : ∃ u, n = u + 1 := ⟨n - 1, by omega⟩
      refine A_loc (l2 := [(0, _), (1, _), (2, _), (3, _), (4, _), (5, _), (6, _)]) ⟨rfl, rfl, rfl, rfl, rfl, rfl, rfl, trivial⟩ ?_
      exact ih u (by omega) (w + 1) pv σ (by omega) hF hp hs (hD.skip hb (fun q => h96 (by rw [ebk]; exact q.1))) hK
    · skip
      refine A_aload_n (pc := 99) dX7_measure_99 rfl rfl ?_
      refine A_iload (pc := 100) dX7_measure_100 rfl ?_
      refine A_callV1 (pc := 102) kX7_42 (shp_T hT) rfl (c_X5_isYard hT hR2 hO (by omega) (by omega)) dX7_measure_102 rfl rfl (Nat.le_of_ble_eq_true rfl) (Nat.le_of_ble_eq_true rfl) ?_
      refine A_ifb_eq (pc := 105) 131 dX7_measure_105 (by decide) (fun h105 => ?_) (fun h105 => ?_)
      · skip
        refine A_iinc (pc := 131) dX7_measure_131 rfl (Nat.le_of_ble_eq_true rfl) ?_
        refine A_goto (pc := 134) 72 dX7_measure_134 (by decide) ?_
        obtain ⟨u, rfl⟩ : ∃ u, n = u + 1 := ⟨n - 1, by omega⟩
        refine A_loc (l2 := [(0, _), (1, _), (2, _), (3, _), (4, _), (5, _), (6, _)]) ⟨rfl, rfl, rfl, rfl, rfl, rfl, rfl, trivial⟩ ?_
        exact ih u (by omega) (w + 1) pv σ (by omega) hF hp hs (hD.skip hb (fun q => h105 q.2)) hK
      · skip
        refine A_aload_n (pc := 108) dX7_measure_108 rfl rfl ?_
        have hpr := prc_rng (τ := τ) (s := (k : Int)) (w := (w : Int)) hP
        refine A_iload (pc := 109) dX7_measure_109 rfl ?_
        refine A_aload_n (pc := 111) dX7_measure_111 rfl rfl ?_
        refine A_getR (pc := 112) fX7_15 (shp_W hW) rfl dX7_measure_112 ?_
        refine A_iload (pc := 115) dX7_measure_115 rfl ?_
        refine A_ialdv (pc := 117) k (shp_W_prices hW) rfl hk (Nat.le_of_ble_eq_true rfl) (hp k hk) dX7_measure_117 ?_
        refine A_aload_n (pc := 118) dX7_measure_118 rfl rfl ?_
        refine A_iload (pc := 119) dX7_measure_119 rfl ?_
        refine A_iload (pc := 121) dX7_measure_121 rfl ?_
        refine A_iload_n (pc := 123) dX7_measure_123 rfl rfl ?_
        refine A_callS1 (pc := 124) kX7_47 (c_X7_stepPrice hT hR2 hO (by omega) (by omega) (by omega) (by omega) hP) dX7_measure_124 rfl rfl (Nat.le_of_ble_eq_true rfl) (Nat.le_of_ble_eq_true rfl) ?_
        refine A_iadd (pc := 127) dX7_measure_127 ?_
        refine A_callVe0 (pc := 128) kX7_51 (shp_W hW) rfl (c_X7_lower hW hp hn (by omega) (by omega) (by omega) (by omega)) dX7_measure_128 rfl rfl (Nat.le_of_ble_eq_true rfl) (Nat.le_of_ble_eq_true rfl) (fun υ hυ => ?_)
        refine A_iinc (pc := 131) dX7_measure_131 rfl (Nat.le_of_ble_eq_true rfl) ?_
        refine A_goto (pc := 134) 72 dX7_measure_134 (by decide) ?_
        obtain ⟨u, rfl⟩ : ∃ u, n = u + 1 := ⟨n - 1, by omega⟩
        refine A_loc (l2 := [(0, _), (1, _), (2, _), (3, _), (4, _), (5, _), (6, _)]) ⟨rfl, rfl, rfl, rfl, rfl, rfl, rfl, trivial⟩ ?_
        refine ih u (by omega) (w + 1) _ υ (by omega) (hF.tr (hυ.2.mono (fun a q => Or.inr q))) hυ.1 ?_ (hD.next hP hb (by omega) (by omega) (by rw [← ebk]; exact h96) h105 hi) hK
        rw [(hυ.2 c (fun q => by have q2 : c = c + 1 := q; omega)).2]
        exact hs
set_option maxRecDepth 20000 in
theorem l2_X7_measure {G : Gl} {d : Nat} {K : Option Value → Sg → Prop} {c c2 : Nat} (hW : WC c) (hT : TC c2) {τ : Tw} {σ0 : Sg} (hR : RX c2 τ σ0) (hO : OkT τ) {P g : Int} (hP : P = 0 ∨ P = 100) (ho : opn τ g) : ∀ (n i S : Nat) (pv : Int → Int) (σ : Sg), i + n = 49 → Fr (SW c) σ0 σ → RWp c pv σ → σ.2 c 0 = lN S → Dj0 τ P g i S pv → (∀ pv υ, MsO τ P g pv → RWp c pv υ → Fr (SW c) σ0 υ → K none υ) → AW G (d + 5) RX7 cX7_measure 8 none 43 [(0, .ref (gA G c)), (1, .ref (gA G c2)), (2, .int (iI g)), (3, .int (iI P)), (4, .int (iI (i : Int)))] [] σ K := by
  intro n
  induction n using Nat.strongRecOn
  rename_i n ih
  intro i S pv σ hn2 hF hp hs hD hK
  have hn : RWn pv := fun s q => ⟨(hD.2.2.2.1 s q).1, (hD.2.2.2.1 s q).2.1⟩
  refine A_iload (pc := 43) dX7_measure_43 rfl ?_
  refine A_bipush (pc := 45) dX7_measure_45 (by decide) ?_
  refine A_icmp_ge (pc := 47) 143 dX7_measure_47 (by decide) (by omega) (by omega) (by omega) (by omega) (fun h47 => ?_) (fun h47 => ?_)
  · skip
    refine A_vret (pc := 143) rfl dX7_measure_143 ?_
    have hi0 : i = 49 := by omega
    subst hi0
    exact hK pv σ (hD.end hP) hp hF
  · skip
    refine A_aload_n (pc := 50) dX7_measure_50 rfl rfl ?_
    refine A_callV1 (pc := 51) kX7_20 (shp_W hW) rfl (c_X7_cheapestOpen hW hp hn hD.1 hs) dX7_measure_51 rfl rfl (Nat.le_of_ble_eq_true rfl) (Nat.le_of_ble_eq_true rfl) ?_
    obtain ⟨k, hk1, hk2, hk3, hk4, hk5⟩ := hD.pick (by omega)
    rw [hk1]
    refine A_istore (pc := 54) dX7_measure_54 (Nat.le_of_ble_eq_true rfl) ?_
    refine A_aload_n (pc := 56) dX7_measure_56 rfl rfl ?_
    refine A_aload_n (pc := 57) dX7_measure_57 rfl rfl ?_
    refine A_getLv (pc := 58) fX7_9 (shp_W hW) rfl hs dX7_measure_58 ?_
    refine A_iload (pc := 61) dX7_measure_61 rfl ?_
    refine A_callS1 (pc := 63) kX7_24 (c_X0_with hD.1 (by omega) (by omega)) dX7_measure_63 rfl rfl (Nat.le_of_ble_eq_true rfl) (Nat.le_of_ble_eq_true rfl) ?_
    refine A_putL (pc := 66) fX7_9 wr_6_0 (shp_W hW) rfl dX7_measure_66 ?_
    refine A_iconst (pc := 69) dX7_measure_69 ?_
    refine A_istore (pc := 70) dX7_measure_70 (Nat.le_of_ble_eq_true rfl) ?_
    obtain ⟨u, rfl⟩ : ∃ u, n = u + 1 := ⟨n - 1, by omega⟩
    refine A_loc (l2 := [(0, _), (1, _), (2, _), (3, _), (4, _), (5, _), (6, _)]) ⟨rfl, rfl, rfl, rfl, rfl, rfl, rfl, trivial⟩ ?_
    refine l3_X7_measure hW hT hR hO hP ho (i := i) (k := k) (S := S ||| sqB (k : Int)) (by omega) hk2 ((sT_with hk2 _).mpr (Or.inr rfl)) 4 0 pv _ rfl (hF.uL (Or.inl rfl)) hp (by rw [uL_at, if_pos ⟨rfl, rfl⟩]) hk4 (fun pv2 υ g1 g2 g3 g4 => ?_)
    refine A_iinc (pc := 137) dX7_measure_137 rfl (Nat.le_of_ble_eq_true rfl) ?_
    refine A_goto (pc := 140) 43 dX7_measure_140 (by decide) ?_
    refine A_loc (l2 := [(0, _), (1, _), (2, _), (3, _), (4, _)]) ⟨rfl, rfl, rfl, rfl, rfl, trivial⟩ ?_
    exact ih u (by omega) (i + 1) _ pv2 υ (by omega) g1 g2 g3 (g4.done (or49 hD.1 (sqB_lt _)) hk5) hK
set_option maxRecDepth 20000 in
theorem c_X7_measure {G : Gl} {d : Nat} {σ : Sg} {c c2 : Nat} (hW : WC c) (hT : TC c2) {τ : Tw} (hR : RX c2 τ σ) (hO : OkT τ) {P g : Int} (hP : P = 0 ∨ P = 100) (ho : opn τ g) : CT G (d + 5) yX7_measure cX7_measure 8 none [.ref (gA G c), .ref (gA G c2), .int (iI g), .int (iI P)] σ (RE none (fun υ => (∃ pv, MsO τ P g pv ∧ RWp c pv υ) ∧ Fr (SW c) σ υ)) := by
  refine CT.of (by decide +kernel) (Nat.le_of_ble_eq_true rfl) ?_
  change AW G _ RX7 _ _ _ 0 [(0, .ref (gA G c)), (1, .ref (gA G c2)), (2, .int (iI g)), (3, .int (iI P))] [] _ _
  refine A_aload_n (pc := 0) dX7_measure_0 rfl rfl ?_
  refine A_lconst (pc := 1) 0 dX7_measure_1 rfl ?_
  refine A_putL (pc := 2) fX7_9 wr_6_0 (shp_W hW) rfl dX7_measure_2 ?_
  refine A_iconst (pc := 5) dX7_measure_5 ?_
  refine A_istore (pc := 6) dX7_measure_6 (Nat.le_of_ble_eq_true rfl) ?_
  refine A_loc (l2 := [(0, _), (1, _), (2, _), (3, _), (4, _)]) ⟨rfl, rfl, rfl, rfl, rfl, trivial⟩ ?_
  refine l1_X7_measure hW hT hR hO hP ho 49 0 _ rfl (Fr.rf.uL (Or.inl rfl)) (fun s h => absurd h (Nat.not_lt_zero s)) (by rw [uL_at, if_pos ⟨rfl, rfl⟩]; rfl) (fun υ g1 g2 g3 => ?_)
  refine A_iconst (pc := 40) dX7_measure_40 ?_
  refine A_istore (pc := 41) dX7_measure_41 (Nat.le_of_ble_eq_true rfl) ?_
  refine A_loc (l2 := [(0, _), (1, _), (2, _), (3, _), (4, _)]) ⟨rfl, rfl, rfl, rfl, rfl, trivial⟩ ?_
  exact l2_X7_measure hW hT hR hO hP ho 49 0 0 _ υ rfl g1 g2 g3 (Dj0.start ho) (fun pv ω k1 k2 k3 => ⟨rfl, ⟨pv, k1, k2⟩, k3⟩)
/-- a way that the prices lead on -/
def tW (τ : Tw) (pv : Int → Int) (q u : Int) : Prop := inS (bes q u) ∧ pv (bes q u) < 1000000 ∧ pv (bes q u) + prc τ 100 (bes q u) u = pv q
def tR (τ : Tw) (pv : Int → Int) (q v : Int) : Prop := (0 ≤ v ∧ v < 4 ∧ tW τ pv q v ∧ ∀ u, 0 ≤ u → u < v → ¬ tW τ pv q u) ∨ (v = -1 ∧ ∀ u, 0 ≤ u → u < 4 → ¬ tW τ pv q u)
theorem dX7_firstFrom_0 : decode cX7_firstFrom 0 = .ok (.iconst 0, 1) := by decide +kernel
theorem dX7_firstFrom_1 : decode cX7_firstFrom 1 = .ok (.istore_n 3, 1) := by decide +kernel
theorem dX7_firstFrom_2 : decode cX7_firstFrom 2 = .ok (.iload_n 3, 1) := by decide +kernel
theorem dX7_firstFrom_3 : decode cX7_firstFrom 3 = .ok (.iconst 4, 1) := by decide +kernel
theorem dX7_firstFrom_4 : decode cX7_firstFrom 4 = .ok (.if_icmp .ge 51, 3) := by decide +kernel
theorem dX7_firstFrom_7 : decode cX7_firstFrom 7 = .ok (.iload_n 2, 1) := by decide +kernel
theorem dX7_firstFrom_8 : decode cX7_firstFrom 8 = .ok (.iload_n 3, 1) := by decide +kernel
theorem dX7_firstFrom_9 : decode cX7_firstFrom 9 = .ok (.invokestatic 34, 3) := by decide +kernel
theorem dX7_firstFrom_12 : decode cX7_firstFrom 12 = .ok (.istore 4, 2) := by decide +kernel
theorem dX7_firstFrom_14 : decode cX7_firstFrom 14 = .ok (.aload_n 0, 1) := by decide +kernel
theorem dX7_firstFrom_15 : decode cX7_firstFrom 15 = .ok (.iload 4, 2) := by decide +kernel
theorem dX7_firstFrom_17 : decode cX7_firstFrom 17 = .ok (.invokevirtual 38, 3) := by decide +kernel
theorem dX7_firstFrom_20 : decode cX7_firstFrom 20 = .ok (.ifCond .eq 29, 3) := by decide +kernel
theorem dX7_firstFrom_23 : decode cX7_firstFrom 23 = .ok (.aload_n 0, 1) := by decide +kernel
theorem dX7_firstFrom_24 : decode cX7_firstFrom 24 = .ok (.iload 4, 2) := by decide +kernel
theorem dX7_firstFrom_26 : decode cX7_firstFrom 26 = .ok (.invokevirtual 70, 3) := by decide +kernel
theorem dX7_firstFrom_29 : decode cX7_firstFrom 29 = .ok (.aload_n 1, 1) := by decide +kernel
theorem dX7_firstFrom_30 : decode cX7_firstFrom 30 = .ok (.iload 4, 2) := by decide +kernel
theorem dX7_firstFrom_32 : decode cX7_firstFrom 32 = .ok (.iload_n 3, 1) := by decide +kernel
theorem dX7_firstFrom_33 : decode cX7_firstFrom 33 = .ok (.bipush 100, 2) := by decide +kernel
theorem dX7_firstFrom_35 : decode cX7_firstFrom 35 = .ok (.invokestatic 47, 3) := by decide +kernel
theorem dX7_firstFrom_38 : decode cX7_firstFrom 38 = .ok (.iadd, 1) := by decide +kernel
theorem dX7_firstFrom_39 : decode cX7_firstFrom 39 = .ok (.aload_n 0, 1) := by decide +kernel
theorem dX7_firstFrom_40 : decode cX7_firstFrom 40 = .ok (.iload_n 2, 1) := by decide +kernel
theorem dX7_firstFrom_41 : decode cX7_firstFrom 41 = .ok (.invokevirtual 70, 3) := by decide +kernel
theorem dX7_firstFrom_44 : decode cX7_firstFrom 44 = .ok (.if_icmp .ne 5, 3) := by decide +kernel
theorem dX7_firstFrom_47 : decode cX7_firstFrom 47 = .ok (.iload_n 3, 1) := by decide +kernel
theorem dX7_firstFrom_48 : decode cX7_firstFrom 48 = .ok (.ireturn, 1) := by decide +kernel
theorem dX7_firstFrom_49 : decode cX7_firstFrom 49 = .ok (.iinc 3 1, 3) := by decide +kernel
theorem dX7_firstFrom_52 : decode cX7_firstFrom 52 = .ok (.goto (-50), 3) := by decide +kernel
theorem dX7_firstFrom_55 : decode cX7_firstFrom 55 = .ok (.iconst (-1), 1) := by decide +kernel
theorem dX7_firstFrom_56 : decode cX7_firstFrom 56 = .ok (.ireturn, 1) := by decide +kernel
set_option maxRecDepth 20000 in
theorem l_X7_firstFrom {G : Gl} {d : Nat} {σ : Sg} {K : Option Value → Sg → Prop} {c c2 : Nat} (hW : WC c) (hT : TC c2) {τ : Tw} (hR : RX c2 τ σ) (hO : OkT τ) {pv : Int → Int} (hp : RWp c pv σ) (hn : RWn pv) {q : Int} (hq : inS q) : ∀ (n w : Nat), w + n = 4 → (∀ u, 0 ≤ u → u < (w : Int) → ¬ tW τ pv q u) → (∀ v, tR τ pv q v → K (some (.int (iI v))) σ) → AW G (d + 5) RX7 cX7_firstFrom 5 (some .int) 2 [(0, .ref (gA G c)), (1, .ref (gA G c2)), (2, .int (iI q)), (3, .int (iI (w : Int)))] [] σ K := by
  intro n
  induction n using Nat.strongRecOn
  rename_i n ih
  intro w hn2 hz hK
  have hbr := bes_rng q (w : Int)
  have r1 := priF_rng hn (bes q (w : Int))
  have r2 := priF_rng hn q
  have r3 := prc_rng (τ := τ) (s := bes q (w : Int)) (w := (w : Int)) (show (100 : Int) = 0 ∨ (100 : Int) = 100 from Or.inr rfl)
  have e2 := priF_in (pv := pv) hq
  have e1 : priF pv (bes q (w : Int)) < 1000000 → inS (bes q (w : Int)) ∧ priF pv (bes q (w : Int)) = pv (bes q (w : Int)) := fun z => by
    by_cases y : inS (bes q (w : Int))
    · exact ⟨y, priF_in y⟩
    · rw [priF, if_neg y] at z; omega
  refine A_iload_n (pc := 2) dX7_firstFrom_2 rfl rfl ?_
  refine A_iconst (pc := 3) dX7_firstFrom_3 ?_
  refine A_icmp_ge (pc := 4) 55 dX7_firstFrom_4 (by decide) (by omega) (by omega) (by omega) (by omega) (fun h4 => ?_) (fun h4 => ?_)
  · skip
    refine A_iconst (pc := 55) dX7_firstFrom_55 ?_
    refine A_iret (pc := 56) rfl dX7_firstFrom_56 ?_
    exact hK _ (Or.inr ⟨rfl, fun u u1 u2 => hz u u1 (by omega)⟩)
  · skip
    refine A_iload_n (pc := 7) dX7_firstFrom_7 rfl rfl ?_
    refine A_iload_n (pc := 8) dX7_firstFrom_8 rfl rfl ?_
    refine A_callS1 (pc := 9) kX7_34 (c_X0_beside (by omega) (by omega) (by omega) (by omega)) dX7_firstFrom_9 rfl rfl (Nat.le_of_ble_eq_true rfl) (Nat.le_of_ble_eq_true rfl) ?_
    refine A_istore (pc := 12) dX7_firstFrom_12 (Nat.le_of_ble_eq_true rfl) ?_
    refine A_aload_n (pc := 14) dX7_firstFrom_14 rfl rfl ?_
    refine A_iload (pc := 15) dX7_firstFrom_15 rfl ?_
    refine A_callV1 (pc := 17) kX7_38 (shp_W hW) rfl (c_X7_leadsFrom hW hp hn (by omega) (by omega)) dX7_firstFrom_17 rfl rfl (Nat.le_of_ble_eq_true rfl) (Nat.le_of_ble_eq_true rfl) ?_
    refine A_ifb_eq (pc := 20) 49 dX7_firstFrom_20 (by decide) (fun h20 => ?_) (fun h20 => ?_)
    · skip
      refine A_iinc (pc := 49) dX7_firstFrom_49 rfl (Nat.le_of_ble_eq_true rfl) ?_
      refine A_goto (pc := 52) 2 dX7_firstFrom_52 (by decide) ?_
      obtain ⟨u, rfl⟩ : ∃ u, n = u + 1 := ⟨n - 1, by omega⟩
      refine A_loc (l2 := [(0, _), (1, _), (2, _), (3, _)]) ⟨rfl, rfl, rfl, rfl, trivial⟩ ?_
      refine ih u (by omega) (w + 1) (by omega) (fun v v1 v2 => ?_) hK
      by_cases e : v = (w : Int)
      · rw [e]; exact fun z => h20 (by rw [priF_in z.1]; exact z.2.1)
      · exact hz v v1 (by omega)
    · skip
      refine A_aload_n (pc := 23) dX7_firstFrom_23 rfl rfl ?_
      refine A_iload (pc := 24) dX7_firstFrom_24 rfl ?_
      refine A_callV1 (pc := 26) kX7_70 (shp_W hW) rfl (c_X7_priceFrom hW hp hn (by omega) (by omega)) dX7_firstFrom_26 rfl rfl (Nat.le_of_ble_eq_true rfl) (Nat.le_of_ble_eq_true rfl) ?_
      refine A_aload_n (pc := 29) dX7_firstFrom_29 rfl rfl ?_
      refine A_iload (pc := 30) dX7_firstFrom_30 rfl ?_
      refine A_iload_n (pc := 32) dX7_firstFrom_32 rfl rfl ?_
      refine A_bipush (pc := 33) dX7_firstFrom_33 (by decide) ?_
      refine A_callS1 (pc := 35) kX7_47 (c_X7_stepPrice hT hR hO (by omega) (by omega) (by omega) (by omega) (Or.inr rfl)) dX7_firstFrom_35 rfl rfl (Nat.le_of_ble_eq_true rfl) (Nat.le_of_ble_eq_true rfl) ?_
      refine A_iadd (pc := 38) dX7_firstFrom_38 ?_
      refine A_aload_n (pc := 39) dX7_firstFrom_39 rfl rfl ?_
      refine A_iload_n (pc := 40) dX7_firstFrom_40 rfl rfl ?_
      refine A_callV1 (pc := 41) kX7_70 (shp_W hW) rfl (c_X7_priceFrom hW hp hn (by omega) (by omega)) dX7_firstFrom_41 rfl rfl (Nat.le_of_ble_eq_true rfl) (Nat.le_of_ble_eq_true rfl) ?_
      refine A_icmp_ne (pc := 44) 49 dX7_firstFrom_44 (by decide) (by omega) (by omega) (by omega) (by omega) (fun h44 => ?_) (fun h44 => ?_)
      · skip
        refine A_iinc (pc := 49) dX7_firstFrom_49 rfl (Nat.le_of_ble_eq_true rfl) ?_
        refine A_goto (pc := 52) 2 dX7_firstFrom_52 (by decide) ?_
        obtain ⟨u, rfl⟩ : ∃ u, n = u + 1 := ⟨n - 1, by omega⟩
        refine A_loc (l2 := [(0, _), (1, _), (2, _), (3, _)]) ⟨rfl, rfl, rfl, rfl, trivial⟩ ?_
        refine ih u (by omega) (w + 1) (by omega) (fun v v1 v2 => ?_) hK
        by_cases e : v = (w : Int)
        · rw [e]; exact fun z => h44 (by rw [priF_in z.1, e2]; exact z.2.2)
        · exact hz v v1 (by omega)
      · skip
        refine A_iload_n (pc := 47) dX7_firstFrom_47 rfl rfl ?_
        refine A_iret (pc := 48) rfl dX7_firstFrom_48 ?_
        obtain ⟨k1, k2⟩ := e1 h20
        exact hK _ (Or.inl ⟨by omega, by omega, ⟨k1, by omega, by omega⟩, hz⟩)
set_option maxRecDepth 20000 in
theorem c_X7_firstFrom {G : Gl} {d : Nat} {σ : Sg} {c c2 : Nat} (hW : WC c) (hT : TC c2) {τ : Tw} (hR : RX c2 τ σ) (hO : OkT τ) {pv : Int → Int} (hp : RWp c pv σ) {q g : Int} (hM : MsO τ 100 g pv) (ho : opn τ q) (hf : pv q < 1000000) : CT G (d + 5) yX7_firstFrom cX7_firstFrom 5 (some .int) [.ref (gA G c), .ref (gA G c2), .int (iI q)] σ (R1 (.int (iI (frs τ 100 q g))) σ) := by
  refine CT.of (by decide +kernel) (Nat.le_of_ble_eq_true rfl) ?_
  change AW G _ RX7 _ _ _ 0 [(0, .ref (gA G c)), (1, .ref (gA G c2)), (2, .int (iI q))] [] _ _
  refine A_iconst (pc := 0) dX7_firstFrom_0 ?_
  refine A_istore_n (pc := 1) dX7_firstFrom_1 rfl (Nat.le_of_ble_eq_true rfl) ?_
  refine A_loc (l2 := [(0, _), (1, _), (2, _), (3, _)]) ⟨rfl, rfl, rfl, rfl, trivial⟩ ?_
  refine l_X7_firstFrom hW hT hR hO hp hM.1 ho.1 4 0 rfl (fun u u1 u2 => by omega) (fun v hv => ⟨?_, rfl⟩)
  obtain ⟨m1, m2, m3, m4, m5, m6⟩ := hM
  have hd : dst τ 100 q g = pv q := by
    have z := m6 q ho
    by_cases e : dst τ 100 q g = -1
    · rw [if_pos e] at z; omega
    · rw [if_neg e] at z; exact z.symm
  rw [frs_back (Or.inr rfl) m2 m3 m4 m5 ho hd (t := tW τ pv q) (fun w _ _ => Iff.rfl) hv (m3 q ho.1 hf).2]
theorem MsO.far {τ : Tw} {P g : Int} {pv : Int → Int} (h : MsO τ P g pv) {c : Int} (ho : opn τ c) (hf : ¬ pv c < 1000000) : dst τ P c g = -1 := DV.eq (Or.inl ⟨rfl, fun n x k => hf (h.2.2.2.2.1 n c x ho k).1⟩)
def OkW (τ : Tw) : Prop := ∀ w : Nat, (w : Int) < τ.2.1 1 → opn τ (τ.2.2 4 w)
noncomputable def qWay (Z : Zt) (p s w : Int) : Int × Zt := if ¬ (0 ≤ p ∧ p < Z.1.2.1 1) then refA Z (-1) else if ¬ (0 ≤ w ∧ w ≤ 2) then refA Z (-5) else if ¬ opn Z.1 s then refA Z (-6) else (if dst Z.1 100 (Z.1.2.2 4 p.toNat) s = -1 then -1 else if w = 0 then dst Z.1 100 (Z.1.2.2 4 p.toNat) s / 100 else if w = 1 then dst Z.1 100 (Z.1.2.2 4 p.toNat) s % 100 else frs Z.1 100 (Z.1.2.2 4 p.toNat) s, Z)
theorem dX8_way_0 : decode cX8_way 0 = .ok (.aload_n 0, 1) := by decide +kernel
theorem dX8_way_1 : decode cX8_way 1 = .ok (.getfield 10, 3) := by decide +kernel
theorem dX8_way_4 : decode cX8_way 4 = .ok (.iload_n 1, 1) := by decide +kernel
theorem dX8_way_5 : decode cX8_way 5 = .ok (.invokevirtual 190, 3) := by decide +kernel
theorem dX8_way_8 : decode cX8_way 8 = .ok (.ifCond .ne 9, 3) := by decide +kernel
theorem dX8_way_11 : decode cX8_way 11 = .ok (.aload_n 0, 1) := by decide +kernel
theorem dX8_way_12 : decode cX8_way 12 = .ok (.iconst (-1), 1) := by decide +kernel
theorem dX8_way_13 : decode cX8_way 13 = .ok (.invokevirtual 239, 3) := by decide +kernel
theorem dX8_way_16 : decode cX8_way 16 = .ok (.ireturn, 1) := by decide +kernel
theorem dX8_way_17 : decode cX8_way 17 = .ok (.iload_n 3, 1) := by decide +kernel
theorem dX8_way_18 : decode cX8_way 18 = .ok (.ifCond .lt 8, 3) := by decide +kernel
theorem dX8_way_21 : decode cX8_way 21 = .ok (.iload_n 3, 1) := by decide +kernel
theorem dX8_way_22 : decode cX8_way 22 = .ok (.iconst 2, 1) := by decide +kernel
theorem dX8_way_23 : decode cX8_way 23 = .ok (.if_icmp .le 10, 3) := by decide +kernel
theorem dX8_way_26 : decode cX8_way 26 = .ok (.aload_n 0, 1) := by decide +kernel
theorem dX8_way_27 : decode cX8_way 27 = .ok (.bipush (-5), 2) := by decide +kernel
theorem dX8_way_29 : decode cX8_way 29 = .ok (.invokevirtual 239, 3) := by decide +kernel
theorem dX8_way_32 : decode cX8_way 32 = .ok (.ireturn, 1) := by decide +kernel
theorem dX8_way_33 : decode cX8_way 33 = .ok (.aload_n 0, 1) := by decide +kernel
theorem dX8_way_34 : decode cX8_way 34 = .ok (.getfield 10, 3) := by decide +kernel
theorem dX8_way_37 : decode cX8_way 37 = .ok (.iload_n 2, 1) := by decide +kernel
theorem dX8_way_38 : decode cX8_way 38 = .ok (.invokevirtual 180, 3) := by decide +kernel
theorem dX8_way_41 : decode cX8_way 41 = .ok (.ifCond .ne 10, 3) := by decide +kernel
theorem dX8_way_44 : decode cX8_way 44 = .ok (.aload_n 0, 1) := by decide +kernel
theorem dX8_way_45 : decode cX8_way 45 = .ok (.bipush (-6), 2) := by decide +kernel
theorem dX8_way_47 : decode cX8_way 47 = .ok (.invokevirtual 239, 3) := by decide +kernel
theorem dX8_way_50 : decode cX8_way 50 = .ok (.ireturn, 1) := by decide +kernel
theorem dX8_way_51 : decode cX8_way 51 = .ok (.aload_n 0, 1) := by decide +kernel
theorem dX8_way_52 : decode cX8_way 52 = .ok (.getfield 10, 3) := by decide +kernel
theorem dX8_way_55 : decode cX8_way 55 = .ok (.iload_n 1, 1) := by decide +kernel
theorem dX8_way_56 : decode cX8_way 56 = .ok (.invokevirtual 193, 3) := by decide +kernel
theorem dX8_way_59 : decode cX8_way 59 = .ok (.istore 4, 2) := by decide +kernel
theorem dX8_way_61 : decode cX8_way 61 = .ok (.aload_n 0, 1) := by decide +kernel
theorem dX8_way_62 : decode cX8_way 62 = .ok (.getfield 57, 3) := by decide +kernel
theorem dX8_way_65 : decode cX8_way 65 = .ok (.aload_n 0, 1) := by decide +kernel
theorem dX8_way_66 : decode cX8_way 66 = .ok (.getfield 10, 3) := by decide +kernel
theorem dX8_way_69 : decode cX8_way 69 = .ok (.iload_n 2, 1) := by decide +kernel
theorem dX8_way_70 : decode cX8_way 70 = .ok (.bipush 100, 2) := by decide +kernel
theorem dX8_way_72 : decode cX8_way 72 = .ok (.invokevirtual 260, 3) := by decide +kernel
theorem dX8_way_75 : decode cX8_way 75 = .ok (.aload_n 0, 1) := by decide +kernel
theorem dX8_way_76 : decode cX8_way 76 = .ok (.getfield 57, 3) := by decide +kernel
theorem dX8_way_79 : decode cX8_way 79 = .ok (.iload 4, 2) := by decide +kernel
theorem dX8_way_81 : decode cX8_way 81 = .ok (.invokevirtual 264, 3) := by decide +kernel
theorem dX8_way_84 : decode cX8_way 84 = .ok (.ifCond .ne 5, 3) := by decide +kernel
theorem dX8_way_87 : decode cX8_way 87 = .ok (.iconst (-1), 1) := by decide +kernel
theorem dX8_way_88 : decode cX8_way 88 = .ok (.ireturn, 1) := by decide +kernel
theorem dX8_way_89 : decode cX8_way 89 = .ok (.iload_n 3, 1) := by decide +kernel
theorem dX8_way_90 : decode cX8_way 90 = .ok (.lookupswitch 52 #[(0, 26), (1, 39)], 26) := by decide +kernel
theorem dX8_way_116 : decode cX8_way 116 = .ok (.aload_n 0, 1) := by decide +kernel
theorem dX8_way_117 : decode cX8_way 117 = .ok (.getfield 57, 3) := by decide +kernel
theorem dX8_way_120 : decode cX8_way 120 = .ok (.iload 4, 2) := by decide +kernel
theorem dX8_way_122 : decode cX8_way 122 = .ok (.invokevirtual 267, 3) := by decide +kernel
theorem dX8_way_125 : decode cX8_way 125 = .ok (.bipush 100, 2) := by decide +kernel
theorem dX8_way_127 : decode cX8_way 127 = .ok (.idiv, 1) := by decide +kernel
theorem dX8_way_128 : decode cX8_way 128 = .ok (.ireturn, 1) := by decide +kernel
theorem dX8_way_129 : decode cX8_way 129 = .ok (.aload_n 0, 1) := by decide +kernel
theorem dX8_way_130 : decode cX8_way 130 = .ok (.getfield 57, 3) := by decide +kernel
theorem dX8_way_133 : decode cX8_way 133 = .ok (.iload 4, 2) := by decide +kernel
theorem dX8_way_135 : decode cX8_way 135 = .ok (.invokevirtual 267, 3) := by decide +kernel
theorem dX8_way_138 : decode cX8_way 138 = .ok (.bipush 100, 2) := by decide +kernel
theorem dX8_way_140 : decode cX8_way 140 = .ok (.irem, 1) := by decide +kernel
theorem dX8_way_141 : decode cX8_way 141 = .ok (.ireturn, 1) := by decide +kernel
theorem dX8_way_142 : decode cX8_way 142 = .ok (.aload_n 0, 1) := by decide +kernel
theorem dX8_way_143 : decode cX8_way 143 = .ok (.getfield 57, 3) := by decide +kernel
theorem dX8_way_146 : decode cX8_way 146 = .ok (.aload_n 0, 1) := by decide +kernel
theorem dX8_way_147 : decode cX8_way 147 = .ok (.getfield 10, 3) := by decide +kernel
theorem dX8_way_150 : decode cX8_way 150 = .ok (.iload 4, 2) := by decide +kernel
theorem dX8_way_152 : decode cX8_way 152 = .ok (.invokevirtual 270, 3) := by decide +kernel
theorem dX8_way_155 : decode cX8_way 155 = .ok (.ireturn, 1) := by decide +kernel
set_option maxRecDepth 20000 in
theorem c_X8_way {G : Gl} {d : Nat} {σ : Sg} {Z : Zt} (hZ : RelX Z σ) (hO : OkZ Z) (hw : OkW Z.1) {p : Int} (hp1 : -2147483648 ≤ p) (hp2 : p < 2147483648) {s : Int} (hs1 : -2147483648 ≤ s) (hs2 : s < 2147483648) {w : Int} (hw1 : -2147483648 ≤ w) (hw2 : w < 2147483648) : CT G (d + 6) yX8_way cX8_way 5 (some .int) [.ref (gA G 0), .int (iI p), .int (iI s), .int (iI w)] σ (RE (some (.int (iI (qWay Z p s w).1))) (fun υ => RelX (qWay Z p s w).2 υ ∧ Fr XC σ υ)) := by
  refine CT.of (by decide +kernel) (Nat.le_of_ble_eq_true rfl) ?_
  change AW G _ RX8 _ _ _ 0 [(0, .ref (gA G 0)), (1, .int (iI p)), (2, .int (iI s)), (3, .int (iI w))] [] _ _
  refine A_aload_n (pc := 0) dX8_way_0 rfl rfl ?_
  refine A_getR (pc := 1) fX8_10 rfl rfl dX8_way_1 ?_
  refine A_iload_n (pc := 4) dX8_way_4 rfl rfl ?_
  refine A_callV1 (pc := 5) kX8_190 rfl rfl (c_X5_isWalker TC14 hZ.1 hO.1 hp1 hp2) dX8_way_5 rfl rfl (Nat.le_of_ble_eq_true rfl) (Nat.le_of_ble_eq_true rfl) ?_
  refine A_ifb_ne (pc := 8) 17 dX8_way_8 (by decide) (fun h8 => ?_) (fun h8 => ?_)
  · skip
    obtain ⟨k, rfl⟩ := Int.eq_ofNat_of_zero_le (show 0 ≤ p by omega)
    have hok := hw k (by omega)
    have hoi := hok.1
    refine A_iload_n (pc := 17) dX8_way_17 rfl rfl ?_
    refine A_if_lt (pc := 18) 26 dX8_way_18 (by decide) (by omega) (by omega) (fun h18 => ?_) (fun h18 => ?_)
    · skip
      refine A_aload_n (pc := 26) dX8_way_26 rfl rfl ?_
      refine A_bipush (pc := 27) dX8_way_27 (by decide) ?_
      refine A_callVe (pc := 29) kX8_239 rfl rfl (c_X8_refuseApart hZ hO (t := -5) (by omega) (by omega)) dX8_way_29 rfl rfl (Nat.le_of_ble_eq_true rfl) (Nat.le_of_ble_eq_true rfl) (fun υ hυ => ?_)
      refine A_iret (pc := 32) rfl dX8_way_32 ?_
      exact RQX (by unfold qWay; rw [if_neg (by omega), if_pos (by omega)]; rfl) hυ.1 (hυ.2.mono XC2)
    · skip
      refine A_iload_n (pc := 21) dX8_way_21 rfl rfl ?_
      refine A_iconst (pc := 22) dX8_way_22 ?_
      refine A_icmp_le (pc := 23) 33 dX8_way_23 (by decide) (by omega) (by omega) (by omega) (by omega) (fun h23 => ?_) (fun h23 => ?_)
      · skip
        refine A_aload_n (pc := 33) dX8_way_33 rfl rfl ?_
        refine A_getR (pc := 34) fX8_10 rfl rfl dX8_way_34 ?_
        refine A_iload_n (pc := 37) dX8_way_37 rfl rfl ?_
        refine A_callV1 (pc := 38) kX8_180 rfl rfl (c_X5_isYard TC14 hZ.1 hO.1 hs1 hs2) dX8_way_38 rfl rfl (Nat.le_of_ble_eq_true rfl) (Nat.le_of_ble_eq_true rfl) ?_
        refine A_ifb_ne (pc := 41) 51 dX8_way_41 (by decide) (fun h41 => ?_) (fun h41 => ?_)
        · skip
          refine A_aload_n (pc := 51) dX8_way_51 rfl rfl ?_
          refine A_getR (pc := 52) fX8_10 rfl rfl dX8_way_52 ?_
          refine A_iload_n (pc := 55) dX8_way_55 rfl rfl ?_
          refine A_callV1 (pc := 56) kX8_193 rfl rfl (c_X5_whereIs TC14 hZ.1 hO.1 (p := k) (by omega)) dX8_way_56 rfl rfl (Nat.le_of_ble_eq_true rfl) (Nat.le_of_ble_eq_true rfl) ?_
          rw [if_pos (by omega)]
          refine A_istore (pc := 59) dX8_way_59 (Nat.le_of_ble_eq_true rfl) ?_
          refine A_aload_n (pc := 61) dX8_way_61 rfl rfl ?_
          refine A_getR (pc := 62) fX8_57 rfl rfl dX8_way_62 ?_
          refine A_aload_n (pc := 65) dX8_way_65 rfl rfl ?_
          refine A_getR (pc := 66) fX8_10 rfl rfl dX8_way_66 ?_
          refine A_iload_n (pc := 69) dX8_way_69 rfl rfl ?_
          refine A_bipush (pc := 70) dX8_way_70 (by decide) ?_
          refine A_callVe0 (pc := 72) kX8_260 rfl rfl (c_X7_measure WC8 TC14 hZ.1 hO.1 (Or.inr rfl) h41) dX8_way_72 rfl rfl (Nat.le_of_ble_eq_true rfl) (Nat.le_of_ble_eq_true rfl) (fun υ hυ => ?_)
          obtain ⟨⟨pv, hM, hp⟩, hF⟩ := hυ
          have hυ : True ∧ Fr (SW 8) σ υ := ⟨trivial, hF⟩
          have hZ2 := hZ.fr hF (SW.x WC8)
          have ep : priF pv (Z.1.2.2 4 k) = pv (Z.1.2.2 4 k) := priF_in hoi
          have hrg := hM.1 _ hoi
          have hds := hM.2.2.2.2.2 _ hok
          refine A_aload_n (pc := 75) dX8_way_75 rfl rfl ?_
          refine A_getR (pc := 76) fX8_57 rfl rfl dX8_way_76 ?_
          refine A_iload (pc := 79) dX8_way_79 rfl ?_
          refine A_callV1 (pc := 81) kX8_264 rfl rfl (c_X7_leadsFrom WC8 hp hM.1 (by omega) (by omega)) dX8_way_81 rfl rfl (Nat.le_of_ble_eq_true rfl) (Nat.le_of_ble_eq_true rfl) ?_
          refine A_ifb_ne (pc := 84) 89 dX8_way_84 (by decide) (fun h84 => ?_) (fun h84 => ?_)
          · skip
            refine A_iload_n (pc := 89) dX8_way_89 rfl rfl ?_
            refine A_lsw (pc := 90) [(0, 116), (1, 129)] 142 dX8_way_90 (by decide) (by decide) (by decide) (by omega) (by omega) ?_
            refine ⟨fun h90 => ?_, fun h90n0 => ?_⟩
            · skip
              refine A_aload_n (pc := 116) dX8_way_116 rfl rfl ?_
              refine A_getR (pc := 117) fX8_57 rfl rfl dX8_way_117 ?_
              refine A_iload (pc := 120) dX8_way_120 rfl ?_
              refine A_callV1 (pc := 122) kX8_267 rfl rfl (c_X7_priceFrom WC8 hp hM.1 (by omega) (by omega)) dX8_way_122 rfl rfl (Nat.le_of_ble_eq_true rfl) (Nat.le_of_ble_eq_true rfl) ?_
              refine A_bipush (pc := 125) dX8_way_125 (by decide) ?_
              refine A_idiv (pc := 127) dX8_way_127 (by omega) (by omega) (by omega) (by omega) ?_
              refine A_iret (pc := 128) rfl dX8_way_128 ?_
              have ne : ¬ dst Z.1 100 (Z.1.2.2 4 k) s = -1 := fun e => by rw [if_pos e] at hds; rw [ep] at h84; omega
              have ed : pv (Z.1.2.2 4 k) = dst Z.1 100 (Z.1.2.2 4 k) s := by rw [if_neg ne] at hds; exact hds
              exact RQX (by unfold qWay; simp only [Int.toNat_natCast]; rw [if_neg (by omega), if_neg (by omega), if_neg (fun z => z h41), if_neg ne, if_pos (by omega), ← ed, ep]) hZ2 (hυ.2.mono (SW.xc WC8))
            refine ⟨fun h90 => ?_, fun h90n1 => ?_⟩
            · skip
              refine A_aload_n (pc := 129) dX8_way_129 rfl rfl ?_
              refine A_getR (pc := 130) fX8_57 rfl rfl dX8_way_130 ?_
              refine A_iload (pc := 133) dX8_way_133 rfl ?_
              refine A_callV1 (pc := 135) kX8_267 rfl rfl (c_X7_priceFrom WC8 hp hM.1 (by omega) (by omega)) dX8_way_135 rfl rfl (Nat.le_of_ble_eq_true rfl) (Nat.le_of_ble_eq_true rfl) ?_
              refine A_bipush (pc := 138) dX8_way_138 (by decide) ?_
              refine A_irem (pc := 140) dX8_way_140 (by omega) (by omega) (by omega) (by omega) ?_
              refine A_iret (pc := 141) rfl dX8_way_141 ?_
              have ne : ¬ dst Z.1 100 (Z.1.2.2 4 k) s = -1 := fun e => by rw [if_pos e] at hds; rw [ep] at h84; omega
              have ed : pv (Z.1.2.2 4 k) = dst Z.1 100 (Z.1.2.2 4 k) s := by rw [if_neg ne] at hds; exact hds
              exact RQX (by unfold qWay; simp only [Int.toNat_natCast]; rw [if_neg (by omega), if_neg (by omega), if_neg (fun z => z h41), if_neg ne, if_neg (by omega), if_pos (by omega), ← ed, ep]) hZ2 (hυ.2.mono (SW.xc WC8))
            change AW G _ _ _ _ _ 142 _ _ _ _
            refine A_aload_n (pc := 142) dX8_way_142 rfl rfl ?_
            refine A_getR (pc := 143) fX8_57 rfl rfl dX8_way_143 ?_
            refine A_aload_n (pc := 146) dX8_way_146 rfl rfl ?_
            refine A_getR (pc := 147) fX8_10 rfl rfl dX8_way_147 ?_
            refine A_iload (pc := 150) dX8_way_150 rfl ?_
            refine A_callV1 (pc := 152) kX8_270 rfl rfl (c_X7_firstFrom WC8 TC14 hZ2.1 hO.1 hp hM hok (by rw [← ep]; exact h84)) dX8_way_152 rfl rfl (Nat.le_of_ble_eq_true rfl) (Nat.le_of_ble_eq_true rfl) ?_
            refine A_iret (pc := 155) rfl dX8_way_155 ?_
            have ne : ¬ dst Z.1 100 (Z.1.2.2 4 k) s = -1 := fun e => by rw [if_pos e] at hds; rw [ep] at h84; omega
            have ed : pv (Z.1.2.2 4 k) = dst Z.1 100 (Z.1.2.2 4 k) s := by rw [if_neg ne] at hds; exact hds
            exact RQX (by unfold qWay; simp only [Int.toNat_natCast]; rw [if_neg (by omega), if_neg (by omega), if_neg (fun z => z h41), if_neg ne, if_neg (by omega), if_neg (by omega)]) hZ2 (hυ.2.mono (SW.xc WC8))
          · skip
            refine A_iconst (pc := 87) dX8_way_87 ?_
            refine A_iret (pc := 88) rfl dX8_way_88 ?_
            have e : dst Z.1 100 (Z.1.2.2 4 k) s = -1 := MsO.far hM hok (fun z => h84 (by rw [ep]; exact z))
            exact RQX (by unfold qWay; simp only [Int.toNat_natCast]; rw [if_neg (by omega), if_neg (by omega), if_neg (fun z => z h41), if_pos e]) hZ2 (hυ.2.mono (SW.xc WC8))
        · skip
          refine A_aload_n (pc := 44) dX8_way_44 rfl rfl ?_
          refine A_bipush (pc := 45) dX8_way_45 (by decide) ?_
          refine A_callVe (pc := 47) kX8_239 rfl rfl (c_X8_refuseApart hZ hO (t := -6) (by omega) (by omega)) dX8_way_47 rfl rfl (Nat.le_of_ble_eq_true rfl) (Nat.le_of_ble_eq_true rfl) (fun υ hυ => ?_)
          refine A_iret (pc := 50) rfl dX8_way_50 ?_
          exact RQX (by unfold qWay; rw [if_neg (by omega), if_neg (by omega), if_pos h41]; rfl) hυ.1 (hυ.2.mono XC2)
      · skip
        refine A_aload_n (pc := 26) dX8_way_26 rfl rfl ?_
        refine A_bipush (pc := 27) dX8_way_27 (by decide) ?_
        refine A_callVe (pc := 29) kX8_239 rfl rfl (c_X8_refuseApart hZ hO (t := -5) (by omega) (by omega)) dX8_way_29 rfl rfl (Nat.le_of_ble_eq_true rfl) (Nat.le_of_ble_eq_true rfl) (fun υ hυ => ?_)
        refine A_iret (pc := 32) rfl dX8_way_32 ?_
        exact RQX (by unfold qWay; rw [if_neg (by omega), if_pos (by omega)]; rfl) hυ.1 (hυ.2.mono XC2)
  · skip
    refine A_aload_n (pc := 11) dX8_way_11 rfl rfl ?_
    refine A_iconst (pc := 12) dX8_way_12 ?_
    refine A_callVe (pc := 13) kX8_239 rfl rfl (c_X8_refuseApart hZ hO (t := -1) (by omega) (by omega)) dX8_way_13 rfl rfl (Nat.le_of_ble_eq_true rfl) (Nat.le_of_ble_eq_true rfl) (fun υ hυ => ?_)
    refine A_iret (pc := 16) rfl dX8_way_16 ?_
    exact RQX (by unfold qWay; rw [if_pos (by omega)]; rfl) hυ.1 (hυ.2.mono XC2)
