/-! PART 31: told walks; both -/
theorem bes_way {a w : Int} (h : inS (bes a w)) : 0 ≤ w ∧ w < 4 := by
  unfold bes inS at h
  (repeat' split at h) <;> omega
/-- a told walk: where it goes wrong, where it ends, how it faces, its shame, who looked in -/
def wkG (τ : Tw) (e : Nat → Int) : Nat → Nat → Int → Int → Int → Nat → Int × Int × Int × Int × Nat
  | 0, _, a, f, s, l => (-1, a, f, s, l)
  | n + 1, i, a, f, s, l => if opn τ (bes a (e i)) then wkG τ e n (i + 1) (bes a (e i)) (e i) (s + sham τ (bes a (e i)) (e i)) (l ||| look τ (bes a (e i)) (e i)) else ((i : Int), a, f, s, l)
theorem wkG_y {τ : Tw} {e : Nat → Int} {n i : Nat} {a f s : Int} {l : Nat} (h : opn τ (bes a (e i))) : wkG τ e (n + 1) i a f s l = wkG τ e n (i + 1) (bes a (e i)) (e i) (s + sham τ (bes a (e i)) (e i)) (l ||| look τ (bes a (e i)) (e i)) := by rw [wkG, if_pos h]
theorem wkG_n {τ : Tw} {e : Nat → Int} {n i : Nat} {a f s : Int} {l : Nat} (h : ¬ opn τ (bes a (e i))) : wkG τ e (n + 1) i a f s l = ((i : Int), a, f, s, l) := by rw [wkG, if_neg h]
theorem wkG_ok {τ : Tw} {e : Nat → Int} : ∀ {n i : Nat} {a f s : Int} {l : Nat}, inS a → 0 ≤ f → f < 4 → 0 ≤ s → (-1 ≤ (wkG τ e n i a f s l).1 ∧ (wkG τ e n i a f s l).1 < i + n) ∧ inS (wkG τ e n i a f s l).2.1 ∧ (0 ≤ (wkG τ e n i a f s l).2.2.1 ∧ (wkG τ e n i a f s l).2.2.1 < 4) ∧ 0 ≤ (wkG τ e n i a f s l).2.2.2.1 ∧ (wkG τ e n i a f s l).2.2.2.1 ≤ s + 63 * n
  | 0, i, a, f, s, l, h1, h2, h3, h4 => ⟨⟨by show (-1 : Int) ≤ -1; omega, by show (-1 : Int) < i + (0 : Nat); omega⟩, h1, ⟨h2, h3⟩, h4, by show s ≤ s + 63 * ((0 : Nat) : Int); omega⟩
  | n + 1, i, a, f, s, l, h1, h2, h3, h4 => by
    by_cases h : opn τ (bes a (e i))
    · have w := bes_way h.1
      have r := sham_rng τ (bes a (e i)) (e i)
      have g := wkG_ok (τ := τ) (e := e) (n := n) (i := i + 1) (l := l ||| look τ (bes a (e i)) (e i)) h.1 w.1 w.2 (show 0 ≤ s + sham τ (bes a (e i)) (e i) by omega)
      rw [wkG_y h]
      exact ⟨⟨g.1.1, by have := g.1.2; omega⟩, g.2.1, g.2.2.1, g.2.2.2.1, by have := g.2.2.2.2; omega⟩
    · rw [wkG_n h]
      exact ⟨⟨by show (-1 : Int) ≤ i; omega, by show (i : Int) < i + ((n + 1 : Nat) : Int); omega⟩, h1, ⟨h2, h3⟩, h4, by show s ≤ s + 63 * ((n + 1 : Nat) : Int); omega⟩
def wkT (Z : Zt) (s p n : Int) (ok : Prop) [Decidable ok] : Int := if ¬ ((0 ≤ s ∧ s < 8) ∧ (0 ≤ p ∧ p < Z.1.2.1 1)) then -1 else if rowT Z s ≠ 0 then rowT Z s else if n < 0 then -4 else if ¬ ok ∨ ¬ n ≤ Z.2.1.2.1 s.toNat then -5 else if 60 < n then -6 else 0
def wkR (Z : Zt) (s p n : Int) : Int × Int × Int × Int × Nat := wkG Z.1 (elV Z s.toNat) n.toNat 0 (Z.1.2.2 4 p.toNat) (Z.1.2.2 5 p.toNat) 0 0
def qJudge (Z : Zt) (s p n : Int) : Int × Zt := if wkT Z s p n True ≠ 0 then refA Z (wkT Z s p n True) else ((wkR Z s p n).1, Z)
def qBehind (Z : Zt) (s p n w : Int) : Int × Zt := if wkT Z s p n (0 ≤ w ∧ w ≤ 2) ≠ 0 then refZ Z (wkT Z s p n (0 ≤ w ∧ w ≤ 2)) else if (wkR Z s p n).1 ≠ -1 then refZ Z (-6) else (if w = 0 then (wkR Z s p n).2.2.2.1 else if w = 1 then (wkR Z s p n).2.1 else bc32 ((wkR Z s p n).2.2.2.2 : Nat), Z)
def wkD (Z : Zt) (s p n : Int) : Tw := bea (plc Z.1 p.toNat (wkR Z s p n).2.1 (wkR Z s p n).2.2.1) p.toNat (wkR Z s p n).2.2.2.1
def qDone (Z : Zt) (s p n : Int) : Int × Zt := if wkT Z s p n True ≠ 0 then refZ Z (wkT Z s p n True) else if (wkR Z s p n).1 ≠ -1 then refZ Z (-6) else ((wkD Z s p n).2.1 4, zTw Z (wkD Z s p n))
theorem wkT_rng (Z : Zt) (s p n : Int) (ok : Prop) [Decidable ok] : -6 ≤ wkT Z s p n ok ∧ wkT Z s p n ok ≤ 0 := by
  have := rowT_rng Z s
  unfold wkT; (repeat' split) <;> omega
theorem wkT_0 {Z : Zt} {s p n : Int} {ok : Prop} [Decidable ok] (h : wkT Z s p n ok = 0) : (0 ≤ s ∧ s < 8) ∧ (0 ≤ p ∧ p < Z.1.2.1 1) ∧ rowT Z s = 0 ∧ 0 ≤ n ∧ ok ∧ n ≤ Z.2.1.2.1 s.toNat ∧ n ≤ 60 := by
  unfold wkT at h
  by_cases h1 : (0 ≤ s ∧ s < 8) ∧ (0 ≤ p ∧ p < Z.1.2.1 1)
  · rw [if_neg (fun q => q h1)] at h
    by_cases h2 : rowT Z s = 0
    · rw [if_neg (fun q => q h2)] at h
      by_cases h3 : n < 0
      · rw [if_pos h3] at h; omega
      · rw [if_neg h3] at h
        by_cases h4 : ¬ ok ∨ ¬ n ≤ Z.2.1.2.1 s.toNat
        · rw [if_pos h4] at h; omega
        · rw [if_neg h4] at h
          have h5 : ok := Decidable.byContradiction (fun q => h4 (Or.inl q))
          have h6 : n ≤ Z.2.1.2.1 s.toNat := Decidable.byContradiction (fun q => h4 (Or.inr q))
          by_cases h7 : 60 < n
          · rw [if_pos h7] at h; omega
          · exact ⟨h1.1, h1.2, h2, by omega, h5, h6, by omega⟩
    · rw [if_pos h2] at h; exact absurd h h2
  · rw [if_pos h1] at h; omega
/-- the walk as the class keeps it -/
def WkX (r : Int × Int × Int × Int × Nat) (σ : Sg) : Prop := σ.1 7 0 = r.1 ∧ σ.1 7 1 = r.2.1 ∧ σ.1 7 2 = r.2.2.1 ∧ σ.1 7 3 = r.2.2.2.1 ∧ σ.1 7 4 = (r.2.2.2.2 : Nat)
def S7 : Nat → Prop := fun a => a = 7
theorem S7X : ∀ a, S7 a → ScX a ∨ 54 ≤ a := fun a h => by unfold S7 at h; unfold ScX; omega
theorem S7C : ∀ a, S7 a → XC a := fun a h => by unfold S7 at h; unfold XC; omega
set_option maxRecDepth 20000 in
theorem c_X5_bearW {G : Gl} {d : Nat} {σ : Sg} {c : Nat} (hT : TC c) {τ : Tw} (hR : RX c τ σ) (hO : OkT τ) {p : Nat} (hp : (p : Int) < τ.2.1 1) {m : Int} (m1 : 0 ≤ m) (m2 : m < 100000) : CT G (d + 1) yX5_bear cX5_bear 3 none [.ref (gA G c), .int (iI (p : Int)), .int (iI m)] σ (RE none (fun υ => RX c (bea τ p m) υ ∧ Fr (TS c) σ υ)) := by
  refine CT.of (by decide +kernel) (Nat.le_of_ble_eq_true rfl) ?_
  change AW G _ RX5 _ _ _ 0 [(0, .ref (gA G c)), (1, .int (iI (p : Int))), (2, .int (iI m))] [] _ _
  have hO2 := hO
  obtain ⟨o1, o2, o3, o4, o5, o6, o7, o8, o9⟩ := hO2
  have p0 : σ.1 c 1 = τ.2.1 0 := hR.2.1 0 (by decide)
  have p1 : σ.1 c 2 = τ.2.1 1 := hR.2.1 1 (by decide)
  have p2 : σ.1 c 3 = τ.2.1 2 := hR.2.1 2 (by decide)
  have p3 : σ.1 c 4 = τ.2.1 3 := hR.2.1 3 (by decide)
  have p4 : σ.1 c 5 = τ.2.1 4 := hR.2.1 4 (by decide)
  have p5 : σ.1 c 6 = τ.2.1 5 := hR.2.1 5 (by decide)
  refine A_aload_n (pc := 0) dX5_bear_0 rfl rfl ?_
  refine A_dup (pc := 1) dX5_bear_1 rfl ?_
  refine A_getIv (pc := 2) fX5_28 (shp_T hT) rfl p4 dX5_bear_2 ?_
  refine A_iload_n (pc := 5) dX5_bear_5 rfl rfl ?_
  refine A_iadd (pc := 6) dX5_bear_6 ?_
  refine A_putI (pc := 7) fX5_28 wr_4_5 (shp_T hT) rfl dX5_bear_7 ?_
  have hR1 := hR.setS (τ.2.1 4 + m) (show 2 ≤ 4 by decide)
  have hO1 := hO.setS (τ.2.1 4 + m) (show 3 ≤ 4 by decide)
  refine A_iload_n (pc := 10) dX5_bear_10 rfl rfl ?_
  refine A_if_le (pc := 11) 32 dX5_bear_11 (by decide) (by omega) (by omega) (fun h11 => ?_) (fun h11 => ?_)
  · skip
    refine A_vret (pc := 32) rfl dX5_bear_32 ?_
    exact ⟨rfl, by rw [bea, if_neg (by omega)]; exact hR1, Fr.rf.uI (TSm 0 (by decide))⟩
  · skip
    refine A_aload_n (pc := 14) dX5_bear_14 rfl rfl ?_
    refine A_iload_n (pc := 15) dX5_bear_15 rfl rfl ?_
    refine A_callV1 (pc := 16) kX5_79 (shp_T hT) rfl (c_X5_isWalker hT hR1 hO1 (by omega) (by omega)) dX5_bear_16 rfl rfl (Nat.le_of_ble_eq_true rfl) (Nat.le_of_ble_eq_true rfl) ?_
    refine A_ifb_eq (pc := 19) 32 dX5_bear_19 (by decide) (fun h19 => ?_) (fun h19 => ?_)
    · skip
      refine A_vret (pc := 32) rfl dX5_bear_32 ?_
      exact absurd ⟨by omega, hp⟩ h19
    · skip
      refine A_aload_n (pc := 22) dX5_bear_22 rfl rfl ?_
      refine A_getR (pc := 23) fX5_53 (shp_T hT) rfl dX5_bear_23 ?_
      refine A_iload_n (pc := 26) dX5_bear_26 rfl rfl ?_
      refine A_dup2 (pc := 27) dX5_bear_27 rfl rfl ?_
      refine A_ialdv (pc := 28) _ (shp_T_walkerTried hT) rfl (by omega) (Nat.le_of_ble_eq_true rfl) (show _ = τ.2.2 6 p from by rw [uI_at, if_neg (by omega)]; exact hR.wt hp) dX5_bear_28 ?_
      refine A_iconst (pc := 29) dX5_bear_29 ?_
      refine A_iadd (pc := 30) dX5_bear_30 ?_
      refine A_iast (pc := 31) _ (shp_T_walkerTried hT) rfl (by omega) (Nat.le_of_ble_eq_true rfl) dX5_bear_31 ?_
      refine A_vret (pc := 32) rfl dX5_bear_32 ?_
      exact ⟨rfl, by rw [bea, if_pos (by omega)]; exact hR1.setA 6 p _ (by decide), (Fr.rf.uI (TSm 0 (by decide))).uI (TSm 7 (by decide))⟩
theorem dX6_follow_0 : decode cX6_follow 0 = .ok (.aload_n 0, 1) := by decide +kernel
theorem dX6_follow_1 : decode cX6_follow 1 = .ok (.iconst (-1), 1) := by decide +kernel
theorem dX6_follow_2 : decode cX6_follow 2 = .ok (.putfield 9, 3) := by decide +kernel
theorem dX6_follow_5 : decode cX6_follow 5 = .ok (.aload_n 0, 1) := by decide +kernel
theorem dX6_follow_6 : decode cX6_follow 6 = .ok (.aload_n 1, 1) := by decide +kernel
theorem dX6_follow_7 : decode cX6_follow 7 = .ok (.iload_n 2, 1) := by decide +kernel
theorem dX6_follow_8 : decode cX6_follow 8 = .ok (.invokevirtual 27, 3) := by decide +kernel
theorem dX6_follow_11 : decode cX6_follow 11 = .ok (.putfield 15, 3) := by decide +kernel
theorem dX6_follow_14 : decode cX6_follow 14 = .ok (.aload_n 0, 1) := by decide +kernel
theorem dX6_follow_15 : decode cX6_follow 15 = .ok (.aload_n 1, 1) := by decide +kernel
theorem dX6_follow_16 : decode cX6_follow 16 = .ok (.iload_n 2, 1) := by decide +kernel
theorem dX6_follow_17 : decode cX6_follow 17 = .ok (.invokevirtual 33, 3) := by decide +kernel
theorem dX6_follow_20 : decode cX6_follow 20 = .ok (.putfield 18, 3) := by decide +kernel
theorem dX6_follow_23 : decode cX6_follow 23 = .ok (.aload_n 0, 1) := by decide +kernel
theorem dX6_follow_24 : decode cX6_follow 24 = .ok (.iconst 0, 1) := by decide +kernel
theorem dX6_follow_25 : decode cX6_follow 25 = .ok (.putfield 21, 3) := by decide +kernel
theorem dX6_follow_28 : decode cX6_follow 28 = .ok (.aload_n 0, 1) := by decide +kernel
theorem dX6_follow_29 : decode cX6_follow 29 = .ok (.iconst 0, 1) := by decide +kernel
theorem dX6_follow_30 : decode cX6_follow 30 = .ok (.putfield 24, 3) := by decide +kernel
theorem dX6_follow_33 : decode cX6_follow 33 = .ok (.iconst 0, 1) := by decide +kernel
theorem dX6_follow_34 : decode cX6_follow 34 = .ok (.istore 5, 2) := by decide +kernel
theorem dX6_follow_36 : decode cX6_follow 36 = .ok (.iload 5, 2) := by decide +kernel
theorem dX6_follow_38 : decode cX6_follow 38 = .ok (.iload 4, 2) := by decide +kernel
theorem dX6_follow_40 : decode cX6_follow 40 = .ok (.if_icmp .ge 105, 3) := by decide +kernel
theorem dX6_follow_43 : decode cX6_follow 43 = .ok (.aload_n 0, 1) := by decide +kernel
theorem dX6_follow_44 : decode cX6_follow 44 = .ok (.getfield 9, 3) := by decide +kernel
theorem dX6_follow_47 : decode cX6_follow 47 = .ok (.iconst (-1), 1) := by decide +kernel
theorem dX6_follow_48 : decode cX6_follow 48 = .ok (.if_icmp .ne 97, 3) := by decide +kernel
theorem dX6_follow_51 : decode cX6_follow 51 = .ok (.aload_n 3, 1) := by decide +kernel
theorem dX6_follow_52 : decode cX6_follow 52 = .ok (.iload 5, 2) := by decide +kernel
theorem dX6_follow_54 : decode cX6_follow 54 = .ok (.invokevirtual 36, 3) := by decide +kernel
theorem dX6_follow_57 : decode cX6_follow 57 = .ok (.istore 6, 2) := by decide +kernel
theorem dX6_follow_59 : decode cX6_follow 59 = .ok (.aload_n 0, 1) := by decide +kernel
theorem dX6_follow_60 : decode cX6_follow 60 = .ok (.getfield 15, 3) := by decide +kernel
theorem dX6_follow_63 : decode cX6_follow 63 = .ok (.iload 6, 2) := by decide +kernel
theorem dX6_follow_65 : decode cX6_follow 65 = .ok (.invokestatic 41, 3) := by decide +kernel
theorem dX6_follow_68 : decode cX6_follow 68 = .ok (.istore 7, 2) := by decide +kernel
theorem dX6_follow_70 : decode cX6_follow 70 = .ok (.aload_n 1, 1) := by decide +kernel
theorem dX6_follow_71 : decode cX6_follow 71 = .ok (.iload 7, 2) := by decide +kernel
theorem dX6_follow_73 : decode cX6_follow 73 = .ok (.invokevirtual 47, 3) := by decide +kernel
theorem dX6_follow_76 : decode cX6_follow 76 = .ok (.ifCond .eq 57, 3) := by decide +kernel
theorem dX6_follow_79 : decode cX6_follow 79 = .ok (.aload_n 0, 1) := by decide +kernel
theorem dX6_follow_80 : decode cX6_follow 80 = .ok (.iload 7, 2) := by decide +kernel
theorem dX6_follow_82 : decode cX6_follow 82 = .ok (.putfield 15, 3) := by decide +kernel
theorem dX6_follow_85 : decode cX6_follow 85 = .ok (.aload_n 0, 1) := by decide +kernel
theorem dX6_follow_86 : decode cX6_follow 86 = .ok (.iload 6, 2) := by decide +kernel
theorem dX6_follow_88 : decode cX6_follow 88 = .ok (.putfield 18, 3) := by decide +kernel
theorem dX6_follow_91 : decode cX6_follow 91 = .ok (.aload_n 1, 1) := by decide +kernel
theorem dX6_follow_92 : decode cX6_follow 92 = .ok (.aload_n 0, 1) := by decide +kernel
theorem dX6_follow_93 : decode cX6_follow 93 = .ok (.getfield 15, 3) := by decide +kernel
theorem dX6_follow_96 : decode cX6_follow 96 = .ok (.aload_n 0, 1) := by decide +kernel
theorem dX6_follow_97 : decode cX6_follow 97 = .ok (.getfield 18, 3) := by decide +kernel
theorem dX6_follow_100 : decode cX6_follow 100 = .ok (.invokevirtual 51, 3) := by decide +kernel
theorem dX6_follow_103 : decode cX6_follow 103 = .ok (.istore 8, 2) := by decide +kernel
theorem dX6_follow_105 : decode cX6_follow 105 = .ok (.aload_n 0, 1) := by decide +kernel
theorem dX6_follow_106 : decode cX6_follow 106 = .ok (.dup, 1) := by decide +kernel
theorem dX6_follow_107 : decode cX6_follow 107 = .ok (.getfield 21, 3) := by decide +kernel
theorem dX6_follow_110 : decode cX6_follow 110 = .ok (.iload 8, 2) := by decide +kernel
theorem dX6_follow_112 : decode cX6_follow 112 = .ok (.invokestatic 54, 3) := by decide +kernel
theorem dX6_follow_115 : decode cX6_follow 115 = .ok (.iadd, 1) := by decide +kernel
theorem dX6_follow_116 : decode cX6_follow 116 = .ok (.putfield 21, 3) := by decide +kernel
theorem dX6_follow_119 : decode cX6_follow 119 = .ok (.aload_n 0, 1) := by decide +kernel
theorem dX6_follow_120 : decode cX6_follow 120 = .ok (.dup, 1) := by decide +kernel
theorem dX6_follow_121 : decode cX6_follow 121 = .ok (.getfield 24, 3) := by decide +kernel
theorem dX6_follow_124 : decode cX6_follow 124 = .ok (.iload 8, 2) := by decide +kernel
theorem dX6_follow_126 : decode cX6_follow 126 = .ok (.ior, 1) := by decide +kernel
theorem dX6_follow_127 : decode cX6_follow 127 = .ok (.putfield 24, 3) := by decide +kernel
theorem dX6_follow_130 : decode cX6_follow 130 = .ok (.goto 9, 3) := by decide +kernel
theorem dX6_follow_133 : decode cX6_follow 133 = .ok (.aload_n 0, 1) := by decide +kernel
theorem dX6_follow_134 : decode cX6_follow 134 = .ok (.iload 5, 2) := by decide +kernel
theorem dX6_follow_136 : decode cX6_follow 136 = .ok (.putfield 9, 3) := by decide +kernel
theorem dX6_follow_139 : decode cX6_follow 139 = .ok (.iinc 5 1, 3) := by decide +kernel
theorem dX6_follow_142 : decode cX6_follow 142 = .ok (.goto (-106), 3) := by decide +kernel
theorem dX6_follow_145 : decode cX6_follow 145 = .ok (.return_, 1) := by decide +kernel
set_option maxRecDepth 20000 in
theorem l0_X6_follow {G : Gl} {d : Nat} {σ : Sg} {K : Option Value → Sg → Prop} {k m i : Nat} {j : Int} (hj : 0 ≤ j) (hj2 : j < 100) (w0 : σ.1 7 0 = j) (hi : i ≤ 100) (hm : m ≤ 100) (hK : K none σ) : AW G (d + 3) RX6 cX6_follow 9 none 36 [(0, .ref (gA G 7)), (1, .ref (gA G 14)), (3, .ref (gA G (38 + 2 * k))), (4, .int (iI (m : Int))), (5, .int (iI (i : Int)))] [] σ K := by
  skip
  refine A_iload (pc := 36) dX6_follow_36 rfl ?_
  refine A_iload (pc := 38) dX6_follow_38 rfl ?_
  refine A_icmp_ge (pc := 40) 145 dX6_follow_40 (by decide) (by omega) (by omega) (by omega) (by omega) (fun h40 => ?_) (fun h40 => ?_)
  · skip
    refine A_vret (pc := 145) rfl dX6_follow_145 ?_
    exact hK
  · skip
    refine A_aload_n (pc := 43) dX6_follow_43 rfl rfl ?_
    refine A_getIv (pc := 44) fX6_9 rfl rfl w0 dX6_follow_44 ?_
    refine A_iconst (pc := 47) dX6_follow_47 ?_
    refine A_icmp_ne (pc := 48) 145 dX6_follow_48 (by decide) (by omega) (by omega) (by omega) (by omega) (fun h48 => ?_) (fun h48 => ?_)
    · skip
      refine A_vret (pc := 145) rfl dX6_follow_145 ?_
      exact hK
    · skip
      exfalso; omega
set_option maxRecDepth 20000 in
theorem l_X6_follow {G : Gl} {d : Nat} {σ0 : Sg} {K : Option Value → Sg → Prop} {Z : Zt} (hZ0 : RelX Z σ0) (hO : OkZ Z) {k m : Nat} (k8 : k < 8) (hm : (m : Int) ≤ Z.2.1.2.1 k) (h60 : m ≤ 60) : ∀ (n i : Nat) (a f s : Int) (l : Nat) (σ : Sg), i + n = m → Fr S7 σ0 σ → WkX (-1, a, f, s, l) σ → inS a → 0 ≤ s → s ≤ 63 * (i : Int) → (∀ υ, Fr S7 σ0 υ → WkX (wkG Z.1 (elV Z k) n i a f s l) υ → K none υ) → AW G (d + 3) RX6 cX6_follow 9 none 36 [(0, .ref (gA G 7)), (1, .ref (gA G 14)), (3, .ref (gA G (38 + 2 * k))), (4, .int (iI (m : Int))), (5, .int (iI (i : Int)))] [] σ K := by
  intro n
  induction n using Nat.strongRecOn
  rename_i n ih
  intro i a f s l σ hn hF hW ia s1 s2 hK
  have hZ := hZ0.fr hF S7X
  have ks := hZ.2.1 k k8
  have ko := hO.2.1 k k8
  obtain ⟨b1, b2, b3, b4⟩ := ko.1
  obtain ⟨w0, w1, w2, w3, w4⟩ := hW
  have ev := elV_rng Z k i
  have hbr := bes_rng a (elV Z k i)
  have ia2 : 0 ≤ a ∧ a < 49 := ia
  refine A_iload (pc := 36) dX6_follow_36 rfl ?_
  refine A_iload (pc := 38) dX6_follow_38 rfl ?_
  refine A_icmp_ge (pc := 40) 145 dX6_follow_40 (by decide) (by omega) (by omega) (by omega) (by omega) (fun h40 => ?_) (fun h40 => ?_)
  · skip
    refine A_vret (pc := 145) rfl dX6_follow_145 ?_
    have hn0 : n = 0 := by omega
    subst hn0
    exact hK σ hF ⟨w0, w1, w2, w3, w4⟩
  · skip
    refine A_aload_n (pc := 43) dX6_follow_43 rfl rfl ?_
    refine A_getIv (pc := 44) fX6_9 rfl rfl (show _ = (-1 : Int) from w0) dX6_follow_44 ?_
    refine A_iconst (pc := 47) dX6_follow_47 ?_
    refine A_icmp_ne (pc := 48) 145 dX6_follow_48 (by decide) (by omega) (by omega) (by omega) (by omega) (fun h48 => ?_) (fun h48 => ?_)
    · skip
      refine A_vret (pc := 145) rfl dX6_follow_145 ?_
      exfalso; omega
    · skip
      refine A_aload_n (pc := 51) dX6_follow_51 rfl rfl ?_
      refine A_iload (pc := 52) dX6_follow_52 rfl ?_
      refine A_callV1 (pc := 54) kX6_36 (shp_S (SCk k8)) rfl (c_X3_intAt (SCk k8) ks ko.1 (by omega) (by omega)) dX6_follow_54 rfl rfl (Nat.le_of_ble_eq_true rfl) (Nat.le_of_ble_eq_true rfl) ?_
      rw [elI_k (by omega)]
      change AW G _ _ _ _ _ _ _ [.int (iI (elV Z k i))] _ _
      refine A_istore (pc := 57) dX6_follow_57 (Nat.le_of_ble_eq_true rfl) ?_
      refine A_aload_n (pc := 59) dX6_follow_59 rfl rfl ?_
      refine A_getIv (pc := 60) fX6_15 rfl rfl (show _ = a from w1) dX6_follow_60 ?_
      refine A_iload (pc := 63) dX6_follow_63 rfl ?_
      refine A_callS1 (pc := 65) kX6_41 (c_X0_beside (by omega) (by omega) ev.1 ev.2) dX6_follow_65 rfl rfl (Nat.le_of_ble_eq_true rfl) (Nat.le_of_ble_eq_true rfl) ?_
      refine A_istore (pc := 68) dX6_follow_68 (Nat.le_of_ble_eq_true rfl) ?_
      refine A_aload_n (pc := 70) dX6_follow_70 rfl rfl ?_
      refine A_iload (pc := 71) dX6_follow_71 rfl ?_
      refine A_callV1 (pc := 73) kX6_47 (shp_T TC14) rfl (c_X5_isYard TC14 hZ.1 hO.1 (by omega) (by omega)) dX6_follow_73 rfl rfl (Nat.le_of_ble_eq_true rfl) (Nat.le_of_ble_eq_true rfl) ?_
      refine A_ifb_eq (pc := 76) 133 dX6_follow_76 (by decide) (fun h76 => ?_) (fun h76 => ?_)
      · skip
        refine A_aload_n (pc := 133) dX6_follow_133 rfl rfl ?_
        refine A_iload (pc := 134) dX6_follow_134 rfl ?_
        refine A_putI (pc := 136) fX6_9 wr_5_0 rfl rfl dX6_follow_136 ?_
        refine A_iinc (pc := 139) dX6_follow_139 rfl (Nat.le_of_ble_eq_true rfl) ?_
        refine A_goto (pc := 142) 36 dX6_follow_142 (by decide) ?_
        obtain ⟨u, rfl⟩ : ∃ u, n = u + 1 := ⟨n - 1, by omega⟩
        refine A_loc (l2 := [(0, _), (1, _), (3, _), (4, _), (5, _)]) ⟨rfl, rfl, rfl, rfl, rfl, trivial⟩ ?_
        refine l0_X6_follow (j := (i : Int)) (i := i + 1) (by omega) (by omega) (by rw [uI_at, if_pos ⟨rfl, rfl⟩]) (by omega) (by omega) ?_
        have g3 := hK _ (hF.uI (c := 7) (k := 0) (v := (i : Int)) rfl)
        rw [wkG_n h76] at g3
        exact g3 ⟨by rw [uI_at, if_pos ⟨rfl, rfl⟩], by rw [uI_at, if_neg (by decide)]; exact w1, by rw [uI_at, if_neg (by decide)]; exact w2, by rw [uI_at, if_neg (by decide)]; exact w3, by rw [uI_at, if_neg (by decide)]; exact w4⟩
      · skip
        refine A_aload_n (pc := 79) dX6_follow_79 rfl rfl ?_
        refine A_iload (pc := 80) dX6_follow_80 rfl ?_
        refine A_putI (pc := 82) fX6_15 wr_5_1 rfl rfl dX6_follow_82 ?_
        refine A_aload_n (pc := 85) dX6_follow_85 rfl rfl ?_
        refine A_iload (pc := 86) dX6_follow_86 rfl ?_
        refine A_putI (pc := 88) fX6_18 wr_5_2 rfl rfl dX6_follow_88 ?_
        have wy := bes_way h76.1
        have hFb : Fr S7 σ0 (uI (uI σ 7 1 (bes a (elV Z k i))) 7 2 (elV Z k i)) := (hF.uI rfl).uI rfl
        have hZb := hZ0.fr hFb S7X
        refine A_aload_n (pc := 91) dX6_follow_91 rfl rfl ?_
        refine A_aload_n (pc := 92) dX6_follow_92 rfl rfl ?_
        refine A_getIv (pc := 93) fX6_15 rfl rfl (show _ = (bes a (elV Z k i)) from by rw [uI_at, if_neg (by decide), uI_at, if_pos ⟨rfl, rfl⟩]) dX6_follow_93 ?_
        refine A_aload_n (pc := 96) dX6_follow_96 rfl rfl ?_
        refine A_getIv (pc := 97) fX6_18 rfl rfl (show _ = (elV Z k i) from by rw [uI_at, if_pos ⟨rfl, rfl⟩]) dX6_follow_97 ?_
        refine A_callV1 (pc := 100) kX6_51 (shp_T TC14) rfl (c_X5_lookedInFrom TC14 hZb.1 hO.1 (by omega) (by omega) wy.1 wy.2) dX6_follow_100 rfl rfl (Nat.le_of_ble_eq_true rfl) (Nat.le_of_ble_eq_true rfl) ?_
        refine A_istore (pc := 103) dX6_follow_103 (Nat.le_of_ble_eq_true rfl) ?_
        refine A_aload_n (pc := 105) dX6_follow_105 rfl rfl ?_
        refine A_dup (pc := 106) dX6_follow_106 rfl ?_
        refine A_getIv (pc := 107) fX6_21 rfl rfl (show _ = s from by rw [uI_at, if_neg (by decide), uI_at, if_neg (by decide)]; exact w3) dX6_follow_107 ?_
        refine A_iload (pc := 110) dX6_follow_110 rfl ?_
        refine A_callS1 (pc := 112) kX6_54 (c_J6_bitCount_0f7a4) dX6_follow_112 rfl rfl (Nat.le_of_ble_eq_true rfl) (Nat.le_of_ble_eq_true rfl) ?_
        refine A_iadd (pc := 115) dX6_follow_115 ?_
        refine A_putI (pc := 116) fX6_21 wr_5_3 rfl rfl dX6_follow_116 ?_
        refine A_aload_n (pc := 119) dX6_follow_119 rfl rfl ?_
        refine A_dup (pc := 120) dX6_follow_120 rfl ?_
        refine A_getIv (pc := 121) fX6_24 rfl rfl (show _ = ((l : Nat) : Int) from by rw [uI_at, if_neg (by decide), uI_at, if_neg (by decide), uI_at, if_neg (by decide)]; exact w4) dX6_follow_121 ?_
        refine A_iload (pc := 124) dX6_follow_124 rfl ?_
        refine A_ior (pc := 126) ((l ||| look Z.1 (bes a (elV Z k i)) (elV Z k i) : Nat) : Int) dX6_follow_126 (or_I _ _) ?_
        refine A_putI (pc := 127) fX6_24 wr_5_4 rfl rfl dX6_follow_127 ?_
        refine A_goto (pc := 130) 139 dX6_follow_130 (by decide) ?_
        refine A_iinc (pc := 139) dX6_follow_139 rfl (Nat.le_of_ble_eq_true rfl) ?_
        refine A_goto (pc := 142) 36 dX6_follow_142 (by decide) ?_
        obtain ⟨u, rfl⟩ : ∃ u, n = u + 1 := ⟨n - 1, by omega⟩
        refine A_loc (l2 := [(0, _), (1, _), (3, _), (4, _), (5, _)]) ⟨rfl, rfl, rfl, rfl, rfl, trivial⟩ ?_
        have hsr := sham_rng Z.1 (bes a (elV Z k i)) (elV Z k i)
        refine ih u (by omega) (i + 1) (bes a (elV Z k i)) (elV Z k i) (s + sham Z.1 (bes a (elV Z k i)) (elV Z k i)) (l ||| look Z.1 (bes a (elV Z k i)) (elV Z k i)) _ (by omega) ((hFb.uI rfl).uI rfl) ⟨?_, ?_, ?_, ?_, ?_⟩ h76.1 (by omega) (by omega) (fun υ g1 g2 => ?_)
        · rw [uI_at, if_neg (by decide), uI_at, if_neg (by decide), uI_at, if_neg (by decide), uI_at, if_neg (by decide)]; exact w0
        · rw [uI_at, if_neg (by decide), uI_at, if_neg (by decide), uI_at, if_neg (by decide), uI_at, if_pos ⟨rfl, rfl⟩]
        · rw [uI_at, if_neg (by decide), uI_at, if_neg (by decide), uI_at, if_pos ⟨rfl, rfl⟩]
        · rw [uI_at, if_neg (by decide), uI_at, if_pos ⟨rfl, rfl⟩]; rfl
        · rw [uI_at, if_pos ⟨rfl, rfl⟩]
        have g3 := hK υ g1
        rw [wkG_y h76] at g3
        exact g3 g2
set_option maxRecDepth 20000 in
theorem c_X6_follow {G : Gl} {d : Nat} {σ : Sg} {Z : Zt} (hZ : RelX Z σ) (hO : OkZ Z) {k m p : Nat} (k8 : k < 8) (hm : (m : Int) ≤ Z.2.1.2.1 k) (h60 : m ≤ 60) (hp : (p : Int) < Z.1.2.1 1) : CT G (d + 3) yX6_follow cX6_follow 9 none [.ref (gA G 7), .ref (gA G 14), .int (iI (p : Int)), .ref (gA G (38 + 2 * k)), .int (iI (m : Int))] σ (RE none (fun υ => WkX (wkG Z.1 (elV Z k) m 0 (Z.1.2.2 4 p) (Z.1.2.2 5 p) 0 0) υ ∧ Fr S7 σ υ)) := by
  refine CT.of (by decide +kernel) (Nat.le_of_ble_eq_true rfl) ?_
  change AW G _ RX6 _ _ _ 0 [(0, .ref (gA G 7)), (1, .ref (gA G 14)), (2, .int (iI (p : Int))), (3, .ref (gA G (38 + 2 * k))), (4, .int (iI (m : Int)))] [] _ _
  have hO2 := hO.1
  obtain ⟨o1, o2, o3, o4, o5, o6, o7, o8, o9⟩ := hO2
  have q9 := o9 p hp
  refine A_aload_n (pc := 0) dX6_follow_0 rfl rfl ?_
  refine A_iconst (pc := 1) dX6_follow_1 ?_
  refine A_putI (pc := 2) fX6_9 wr_5_0 rfl rfl dX6_follow_2 ?_
  have hFa : Fr S7 σ (uI σ 7 0 (-1)) := Fr.rf.uI rfl
  have hZa := hZ.fr hFa S7X
  refine A_aload_n (pc := 5) dX6_follow_5 rfl rfl ?_
  refine A_aload_n (pc := 6) dX6_follow_6 rfl rfl ?_
  refine A_iload_n (pc := 7) dX6_follow_7 rfl rfl ?_
  refine A_callV1 (pc := 8) kX6_27 (shp_T TC14) rfl (c_X5_whereIs TC14 hZa.1 hO.1 (p := p) (by omega)) dX6_follow_8 rfl rfl (Nat.le_of_ble_eq_true rfl) (Nat.le_of_ble_eq_true rfl) ?_
  rw [if_pos hp]
  refine A_putI (pc := 11) fX6_15 wr_5_1 rfl rfl dX6_follow_11 ?_
  have hFb : Fr S7 σ (uI (uI σ 7 0 (-1)) 7 1 (Z.1.2.2 4 p)) := hFa.uI rfl
  have hZb := hZ.fr hFb S7X
  refine A_aload_n (pc := 14) dX6_follow_14 rfl rfl ?_
  refine A_aload_n (pc := 15) dX6_follow_15 rfl rfl ?_
  refine A_iload_n (pc := 16) dX6_follow_16 rfl rfl ?_
  refine A_callV1 (pc := 17) kX6_33 (shp_T TC14) rfl (c_X5_facedBy TC14 hZb.1 hO.1 (p := p) (by omega)) dX6_follow_17 rfl rfl (Nat.le_of_ble_eq_true rfl) (Nat.le_of_ble_eq_true rfl) ?_
  rw [if_pos hp]
  refine A_putI (pc := 20) fX6_18 wr_5_2 rfl rfl dX6_follow_20 ?_
  refine A_aload_n (pc := 23) dX6_follow_23 rfl rfl ?_
  refine A_iconst (pc := 24) dX6_follow_24 ?_
  refine A_putI (pc := 25) fX6_21 wr_5_3 rfl rfl dX6_follow_25 ?_
  refine A_aload_n (pc := 28) dX6_follow_28 rfl rfl ?_
  refine A_iconst (pc := 29) dX6_follow_29 ?_
  refine A_putI (pc := 30) fX6_24 wr_5_4 rfl rfl dX6_follow_30 ?_
  refine A_iconst (pc := 33) dX6_follow_33 ?_
  refine A_istore (pc := 34) dX6_follow_34 (Nat.le_of_ble_eq_true rfl) ?_
  refine A_loc (l2 := [(0, _), (1, _), (3, _), (4, _), (5, _)]) ⟨rfl, rfl, rfl, rfl, rfl, trivial⟩ ?_
  refine l_X6_follow hZ hO k8 hm h60 m 0 (Z.1.2.2 4 p) (Z.1.2.2 5 p) 0 0 _ (by omega) (((hFb.uI rfl).uI rfl).uI rfl) ⟨?_, ?_, ?_, ?_, ?_⟩ ⟨q9.1, by omega⟩ (by omega) (by omega) (fun υ g1 g2 => ⟨rfl, g2, g1⟩)
  · rw [uI_at, if_neg (by decide), uI_at, if_neg (by decide), uI_at, if_neg (by decide), uI_at, if_neg (by decide), uI_at, if_pos ⟨rfl, rfl⟩]
  · rw [uI_at, if_neg (by decide), uI_at, if_neg (by decide), uI_at, if_neg (by decide), uI_at, if_pos ⟨rfl, rfl⟩]
  · rw [uI_at, if_neg (by decide), uI_at, if_neg (by decide), uI_at, if_pos ⟨rfl, rfl⟩]
  · rw [uI_at, if_neg (by decide), uI_at, if_pos ⟨rfl, rfl⟩]
  · rw [uI_at, if_pos ⟨rfl, rfl⟩]; rfl
theorem dX8_walkTrouble_0 : decode cX8_walkTrouble 0 = .ok (.iload_n 1, 1) := by decide +kernel
theorem dX8_walkTrouble_1 : decode cX8_walkTrouble 1 = .ok (.invokestatic 72, 3) := by decide +kernel
theorem dX8_walkTrouble_4 : decode cX8_walkTrouble 4 = .ok (.ifCond .eq 14, 3) := by decide +kernel
theorem dX8_walkTrouble_7 : decode cX8_walkTrouble 7 = .ok (.aload_n 0, 1) := by decide +kernel
theorem dX8_walkTrouble_8 : decode cX8_walkTrouble 8 = .ok (.getfield 10, 3) := by decide +kernel
theorem dX8_walkTrouble_11 : decode cX8_walkTrouble 11 = .ok (.iload_n 2, 1) := by decide +kernel
theorem dX8_walkTrouble_12 : decode cX8_walkTrouble 12 = .ok (.invokevirtual 190, 3) := by decide +kernel
theorem dX8_walkTrouble_15 : decode cX8_walkTrouble 15 = .ok (.ifCond .ne 5, 3) := by decide +kernel
theorem dX8_walkTrouble_18 : decode cX8_walkTrouble 18 = .ok (.iconst (-1), 1) := by decide +kernel
theorem dX8_walkTrouble_19 : decode cX8_walkTrouble 19 = .ok (.ireturn, 1) := by decide +kernel
theorem dX8_walkTrouble_20 : decode cX8_walkTrouble 20 = .ok (.aload_n 0, 1) := by decide +kernel
theorem dX8_walkTrouble_21 : decode cX8_walkTrouble 21 = .ok (.iload_n 1, 1) := by decide +kernel
theorem dX8_walkTrouble_22 : decode cX8_walkTrouble 22 = .ok (.invokevirtual 87, 3) := by decide +kernel
theorem dX8_walkTrouble_25 : decode cX8_walkTrouble 25 = .ok (.istore 5, 2) := by decide +kernel
theorem dX8_walkTrouble_27 : decode cX8_walkTrouble 27 = .ok (.iload 5, 2) := by decide +kernel
theorem dX8_walkTrouble_29 : decode cX8_walkTrouble 29 = .ok (.ifCond .eq 6, 3) := by decide +kernel
theorem dX8_walkTrouble_32 : decode cX8_walkTrouble 32 = .ok (.iload 5, 2) := by decide +kernel
theorem dX8_walkTrouble_34 : decode cX8_walkTrouble 34 = .ok (.ireturn, 1) := by decide +kernel
theorem dX8_walkTrouble_35 : decode cX8_walkTrouble 35 = .ok (.iload_n 3, 1) := by decide +kernel
theorem dX8_walkTrouble_36 : decode cX8_walkTrouble 36 = .ok (.ifCond .ge 6, 3) := by decide +kernel
theorem dX8_walkTrouble_39 : decode cX8_walkTrouble 39 = .ok (.bipush (-4), 2) := by decide +kernel
theorem dX8_walkTrouble_41 : decode cX8_walkTrouble 41 = .ok (.ireturn, 1) := by decide +kernel
theorem dX8_walkTrouble_42 : decode cX8_walkTrouble 42 = .ok (.iload 4, 2) := by decide +kernel
theorem dX8_walkTrouble_44 : decode cX8_walkTrouble 44 = .ok (.ifCond .eq 17, 3) := by decide +kernel
theorem dX8_walkTrouble_47 : decode cX8_walkTrouble 47 = .ok (.aload_n 0, 1) := by decide +kernel
theorem dX8_walkTrouble_48 : decode cX8_walkTrouble 48 = .ok (.getfield 25, 3) := by decide +kernel
theorem dX8_walkTrouble_51 : decode cX8_walkTrouble 51 = .ok (.iload_n 1, 1) := by decide +kernel
theorem dX8_walkTrouble_52 : decode cX8_walkTrouble 52 = .ok (.aaload, 1) := by decide +kernel
theorem dX8_walkTrouble_53 : decode cX8_walkTrouble 53 = .ok (.iconst 0, 1) := by decide +kernel
theorem dX8_walkTrouble_54 : decode cX8_walkTrouble 54 = .ok (.iload_n 3, 1) := by decide +kernel
theorem dX8_walkTrouble_55 : decode cX8_walkTrouble 55 = .ok (.invokevirtual 377, 3) := by decide +kernel
theorem dX8_walkTrouble_58 : decode cX8_walkTrouble 58 = .ok (.ifCond .ne 6, 3) := by decide +kernel
theorem dX8_walkTrouble_61 : decode cX8_walkTrouble 61 = .ok (.bipush (-5), 2) := by decide +kernel
theorem dX8_walkTrouble_63 : decode cX8_walkTrouble 63 = .ok (.ireturn, 1) := by decide +kernel
theorem dX8_walkTrouble_64 : decode cX8_walkTrouble 64 = .ok (.iload_n 3, 1) := by decide +kernel
theorem dX8_walkTrouble_65 : decode cX8_walkTrouble 65 = .ok (.bipush 60, 2) := by decide +kernel
theorem dX8_walkTrouble_67 : decode cX8_walkTrouble 67 = .ok (.if_icmp .le 8, 3) := by decide +kernel
theorem dX8_walkTrouble_70 : decode cX8_walkTrouble 70 = .ok (.bipush (-6), 2) := by decide +kernel
theorem dX8_walkTrouble_72 : decode cX8_walkTrouble 72 = .ok (.goto 4, 3) := by decide +kernel
theorem dX8_walkTrouble_75 : decode cX8_walkTrouble 75 = .ok (.iconst 0, 1) := by decide +kernel
theorem dX8_walkTrouble_76 : decode cX8_walkTrouble 76 = .ok (.ireturn, 1) := by decide +kernel
set_option maxRecDepth 20000 in
theorem c_X8_walkTrouble {G : Gl} {d : Nat} {σ : Sg} {Z : Zt} (hZ : RelX Z σ) (hO : OkZ Z) {s : Int} (hs1 : -2147483648 ≤ s) (hs2 : s < 2147483648) {p : Int} (hp1 : -2147483648 ≤ p) (hp2 : p < 2147483648) {n : Int} (hn1 : -2147483648 ≤ n) (hn2 : n < 2147483648) {ok : Prop} [Decidable ok] : CT G (d + 2) yX8_walkTrouble cX8_walkTrouble 6 (some .int) [.ref (gA G 0), .int (iI s), .int (iI p), .int (iI n), .int (iI (bI ok))] σ (R1 (.int (iI (wkT Z s p n ok))) σ) := by
  refine CT.of (by decide +kernel) (Nat.le_of_ble_eq_true rfl) ?_
  change AW G _ RX8 _ _ _ 0 [(0, .ref (gA G 0)), (1, .int (iI s)), (2, .int (iI p)), (3, .int (iI n)), (4, .int (iI (bI ok)))] [] _ _
  have hrt := rowT_rng Z s
  refine A_iload_n (pc := 0) dX8_walkTrouble_0 rfl rfl ?_
  refine A_callS1 (pc := 1) kX8_72 (c_X8_isShelf hs1 hs2) dX8_walkTrouble_1 rfl rfl (Nat.le_of_ble_eq_true rfl) (Nat.le_of_ble_eq_true rfl) ?_
  refine A_ifb_eq (pc := 4) 18 dX8_walkTrouble_4 (by decide) (fun h4 => ?_) (fun h4 => ?_)
  · skip
    refine A_iconst (pc := 18) dX8_walkTrouble_18 ?_
    refine A_iret (pc := 19) rfl dX8_walkTrouble_19 ?_
    exact R1_e (by unfold wkT; rw [if_pos (fun q => h4 q.1)])
  · skip
    refine A_aload_n (pc := 7) dX8_walkTrouble_7 rfl rfl ?_
    refine A_getR (pc := 8) fX8_10 rfl rfl dX8_walkTrouble_8 ?_
    refine A_iload_n (pc := 11) dX8_walkTrouble_11 rfl rfl ?_
    refine A_callV1 (pc := 12) kX8_190 rfl rfl (c_X5_isWalker TC14 hZ.1 hO.1 hp1 hp2) dX8_walkTrouble_12 rfl rfl (Nat.le_of_ble_eq_true rfl) (Nat.le_of_ble_eq_true rfl) ?_
    refine A_ifb_ne (pc := 15) 20 dX8_walkTrouble_15 (by decide) (fun h15 => ?_) (fun h15 => ?_)
    · skip
      refine A_aload_n (pc := 20) dX8_walkTrouble_20 rfl rfl ?_
      refine A_iload_n (pc := 21) dX8_walkTrouble_21 rfl rfl ?_
      refine A_callV1 (pc := 22) kX8_87 rfl rfl (c_X8_rowTrouble hZ hO hs1 hs2) dX8_walkTrouble_22 rfl rfl (Nat.le_of_ble_eq_true rfl) (Nat.le_of_ble_eq_true rfl) ?_
      refine A_istore (pc := 25) dX8_walkTrouble_25 (Nat.le_of_ble_eq_true rfl) ?_
      refine A_iload (pc := 27) dX8_walkTrouble_27 rfl ?_
      refine A_if_eq (pc := 29) 35 dX8_walkTrouble_29 (by decide) (by omega) (by omega) (fun h29 => ?_) (fun h29 => ?_)
      · skip
        refine A_iload_n (pc := 35) dX8_walkTrouble_35 rfl rfl ?_
        refine A_if_ge (pc := 36) 42 dX8_walkTrouble_36 (by decide) (by omega) (by omega) (fun h36 => ?_) (fun h36 => ?_)
        · skip
          refine A_iload (pc := 42) dX8_walkTrouble_42 rfl ?_
          refine A_ifb_eq (pc := 44) 61 dX8_walkTrouble_44 (by decide) (fun h44 => ?_) (fun h44 => ?_)
          · skip
            refine A_bipush (pc := 61) dX8_walkTrouble_61 (by decide) ?_
            refine A_iret (pc := 63) rfl dX8_walkTrouble_63 ?_
            exact R1_e (by unfold wkT; rw [if_neg (fun q => q ⟨h4, h15⟩), if_neg (by omega), if_neg (by omega), if_pos (Or.inl h44)])
          · skip
            have h0 : rowT Z s = 0 := by omega
            obtain ⟨h8, h100⟩ := rowT_0 h0
            obtain ⟨k, rfl⟩ := Int.eq_ofNat_of_zero_le (show 0 ≤ s by omega)
            have k8 : k < 8 := by omega
            have ks := hZ.2.1 k k8
            have ko := hO.2.1 k k8
            obtain ⟨b1, b2, b3, b4⟩ := ko.1
            simp only [Int.toNat_natCast] at h100
            refine A_aload_n (pc := 47) dX8_walkTrouble_47 rfl rfl ?_
            refine A_getR (pc := 48) fX8_25 rfl rfl dX8_walkTrouble_48 ?_
            refine A_iload_n (pc := 51) dX8_walkTrouble_51 rfl rfl ?_
            refine A_aald (pc := 52) _ rfl rfl (by omega) (Nat.le_of_ble_eq_true rfl) dX8_walkTrouble_52 ?_
            refine A_iconst (pc := 53) dX8_walkTrouble_53 ?_
            refine A_iload_n (pc := 54) dX8_walkTrouble_54 rfl rfl ?_
            refine A_callV1 (pc := 55) kX8_377 (shp_S (SCk (by omega))) rfl (c_X3_hasElements (SCk k8) ks ko.1 (by omega) (by omega) hn1 hn2) dX8_walkTrouble_55 rfl rfl (Nat.le_of_ble_eq_true rfl) (Nat.le_of_ble_eq_true rfl) ?_
            refine A_ifb_ne (pc := 58) 64 dX8_walkTrouble_58 (by decide) (fun h58 => ?_) (fun h58 => ?_)
            · skip
              refine A_iload_n (pc := 64) dX8_walkTrouble_64 rfl rfl ?_
              refine A_bipush (pc := 65) dX8_walkTrouble_65 (by decide) ?_
              refine A_icmp_le (pc := 67) 75 dX8_walkTrouble_67 (by decide) (by omega) (by omega) (by omega) (by omega) (fun h67 => ?_) (fun h67 => ?_)
              · skip
                refine A_iconst (pc := 75) dX8_walkTrouble_75 ?_
                refine A_iret (pc := 76) rfl dX8_walkTrouble_76 ?_
                exact R1_e (by unfold wkT; simp only [Int.toNat_natCast]; rw [if_neg (fun q => q ⟨h4, h15⟩), if_neg (by omega), if_neg (by omega), if_neg (fun q => q.elim (fun z => z h44) (fun z => by omega)), if_neg (by omega)])
              · skip
                refine A_bipush (pc := 70) dX8_walkTrouble_70 (by decide) ?_
                refine A_goto (pc := 72) 76 dX8_walkTrouble_72 (by decide) ?_
                refine A_iret (pc := 76) rfl dX8_walkTrouble_76 ?_
                exact R1_e (by unfold wkT; simp only [Int.toNat_natCast]; rw [if_neg (fun q => q ⟨h4, h15⟩), if_neg (by omega), if_neg (by omega), if_neg (fun q => q.elim (fun z => z h44) (fun z => by omega)), if_pos (by omega)])
            · skip
              refine A_bipush (pc := 61) dX8_walkTrouble_61 (by decide) ?_
              refine A_iret (pc := 63) rfl dX8_walkTrouble_63 ?_
              exact R1_e (by unfold wkT; simp only [Int.toNat_natCast]; rw [if_neg (fun q => q ⟨h4, h15⟩), if_neg (by omega), if_neg (by omega), if_pos (Or.inr (by omega))])
        · skip
          refine A_bipush (pc := 39) dX8_walkTrouble_39 (by decide) ?_
          refine A_iret (pc := 41) rfl dX8_walkTrouble_41 ?_
          exact R1_e (by unfold wkT; rw [if_neg (fun q => q ⟨h4, h15⟩), if_neg (by omega), if_pos (by omega)])
      · skip
        refine A_iload (pc := 32) dX8_walkTrouble_32 rfl ?_
        refine A_iret (pc := 34) rfl dX8_walkTrouble_34 ?_
        exact R1_e (by unfold wkT; rw [if_neg (fun q => q ⟨h4, h15⟩), if_pos (by omega)])
    · skip
      refine A_iconst (pc := 18) dX8_walkTrouble_18 ?_
      refine A_iret (pc := 19) rfl dX8_walkTrouble_19 ?_
      exact R1_e (by unfold wkT; rw [if_pos (fun q => h15 q.2)])
