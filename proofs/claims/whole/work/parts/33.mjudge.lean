/-! PART 33: the reference's told walks -/
/-- only where it walks is changed -/
def MWk (σ υ : Sg) : Prop := (∀ a, a ≠ 54 → υ.1 a = σ.1 a ∧ υ.2 a = σ.2 a) ∧ υ.2 54 = σ.2 54 ∧ ∀ j, (j < 29 ∨ 32 < j) → υ.1 54 j = σ.1 54 j
theorem MWk.rf {σ : Sg} : MWk σ σ := ⟨fun _ _ => ⟨rfl, rfl⟩, rfl, fun _ _ => rfl⟩
theorem MWk.u {σ υ : Sg} (h : MWk σ υ) {j : Nat} {v : Int} (h1 : 29 ≤ j) (h2 : j ≤ 32) : MWk σ (uI υ 54 j v) := ⟨fun a ha => ⟨by rw [← uI_ne ha]; exact (h.1 a ha).1, (h.1 a ha).2⟩, h.2.1, fun i hi => by rw [uI_at, if_neg (by omega)]; exact h.2.2 i hi⟩
theorem MWk.rel {Z : Zt} {σ υ : Sg} (h : MWk σ υ) (hZ : RelM Z σ) : RelM Z υ := hZ.ag (fun a ha => h.1 a (by omega)) (fun k hk => h.2.2 k (by omega))
theorem MWk.mc {σ υ : Sg} (h : MWk σ υ) : Fr MC σ υ := fun a ha => h.1 a (fun q => ha (by unfold MC; omega))
def WkM (r : Int × Int × Int × Int × Nat) (σ : Sg) : Prop := σ.1 54 29 = r.2.1 ∧ σ.1 54 30 = r.2.2.1 ∧ σ.1 54 31 = r.2.2.2.1 ∧ σ.1 54 32 = (r.2.2.2.2 : Nat)
theorem dX9_walks_0 : decode cX9_walks 0 = .ok (.aload_n 0, 1) := by decide +kernel
theorem dX9_walks_1 : decode cX9_walks 1 = .ok (.aload_n 0, 1) := by decide +kernel
theorem dX9_walks_2 : decode cX9_walks 2 = .ok (.getfield 22, 3) := by decide +kernel
theorem dX9_walks_5 : decode cX9_walks 5 = .ok (.iload_n 2, 1) := by decide +kernel
theorem dX9_walks_6 : decode cX9_walks 6 = .ok (.iaload, 1) := by decide +kernel
theorem dX9_walks_7 : decode cX9_walks 7 = .ok (.putfield 266, 3) := by decide +kernel
theorem dX9_walks_10 : decode cX9_walks 10 = .ok (.aload_n 0, 1) := by decide +kernel
theorem dX9_walks_11 : decode cX9_walks 11 = .ok (.aload_n 0, 1) := by decide +kernel
theorem dX9_walks_12 : decode cX9_walks 12 = .ok (.getfield 25, 3) := by decide +kernel
theorem dX9_walks_15 : decode cX9_walks 15 = .ok (.iload_n 2, 1) := by decide +kernel
theorem dX9_walks_16 : decode cX9_walks 16 = .ok (.iaload, 1) := by decide +kernel
theorem dX9_walks_17 : decode cX9_walks 17 = .ok (.putfield 269, 3) := by decide +kernel
theorem dX9_walks_20 : decode cX9_walks 20 = .ok (.aload_n 0, 1) := by decide +kernel
theorem dX9_walks_21 : decode cX9_walks 21 = .ok (.iconst 0, 1) := by decide +kernel
theorem dX9_walks_22 : decode cX9_walks 22 = .ok (.putfield 272, 3) := by decide +kernel
theorem dX9_walks_25 : decode cX9_walks 25 = .ok (.aload_n 0, 1) := by decide +kernel
theorem dX9_walks_26 : decode cX9_walks 26 = .ok (.iconst 0, 1) := by decide +kernel
theorem dX9_walks_27 : decode cX9_walks 27 = .ok (.putfield 275, 3) := by decide +kernel
theorem dX9_walks_30 : decode cX9_walks 30 = .ok (.iconst 0, 1) := by decide +kernel
theorem dX9_walks_31 : decode cX9_walks 31 = .ok (.istore 4, 2) := by decide +kernel
theorem dX9_walks_33 : decode cX9_walks 33 = .ok (.iload 4, 2) := by decide +kernel
theorem dX9_walks_35 : decode cX9_walks 35 = .ok (.iload_n 3, 1) := by decide +kernel
theorem dX9_walks_36 : decode cX9_walks 36 = .ok (.if_icmp .ge 101, 3) := by decide +kernel
theorem dX9_walks_39 : decode cX9_walks 39 = .ok (.aload_n 0, 1) := by decide +kernel
theorem dX9_walks_40 : decode cX9_walks 40 = .ok (.iload_n 1, 1) := by decide +kernel
theorem dX9_walks_41 : decode cX9_walks 41 = .ok (.iload 4, 2) := by decide +kernel
theorem dX9_walks_43 : decode cX9_walks 43 = .ok (.invokevirtual 253, 3) := by decide +kernel
theorem dX9_walks_46 : decode cX9_walks 46 = .ok (.istore 5, 2) := by decide +kernel
theorem dX9_walks_48 : decode cX9_walks 48 = .ok (.iload 5, 2) := by decide +kernel
theorem dX9_walks_50 : decode cX9_walks 50 = .ok (.invokestatic 136, 3) := by decide +kernel
theorem dX9_walks_53 : decode cX9_walks 53 = .ok (.ifCond .eq 19, 3) := by decide +kernel
theorem dX9_walks_56 : decode cX9_walks 56 = .ok (.aload_n 0, 1) := by decide +kernel
theorem dX9_walks_57 : decode cX9_walks 57 = .ok (.aload_n 0, 1) := by decide +kernel
theorem dX9_walks_58 : decode cX9_walks 58 = .ok (.getfield 266, 3) := by decide +kernel
theorem dX9_walks_61 : decode cX9_walks 61 = .ok (.iload 5, 2) := by decide +kernel
theorem dX9_walks_63 : decode cX9_walks 63 = .ok (.invokestatic 223, 3) := by decide +kernel
theorem dX9_walks_66 : decode cX9_walks 66 = .ok (.invokevirtual 143, 3) := by decide +kernel
theorem dX9_walks_69 : decode cX9_walks 69 = .ok (.ifCond .ne 6, 3) := by decide +kernel
theorem dX9_walks_72 : decode cX9_walks 72 = .ok (.iload 4, 2) := by decide +kernel
theorem dX9_walks_74 : decode cX9_walks 74 = .ok (.ireturn, 1) := by decide +kernel
theorem dX9_walks_75 : decode cX9_walks 75 = .ok (.aload_n 0, 1) := by decide +kernel
theorem dX9_walks_76 : decode cX9_walks 76 = .ok (.aload_n 0, 1) := by decide +kernel
theorem dX9_walks_77 : decode cX9_walks 77 = .ok (.getfield 266, 3) := by decide +kernel
theorem dX9_walks_80 : decode cX9_walks 80 = .ok (.iload 5, 2) := by decide +kernel
theorem dX9_walks_82 : decode cX9_walks 82 = .ok (.invokestatic 223, 3) := by decide +kernel
theorem dX9_walks_85 : decode cX9_walks 85 = .ok (.putfield 266, 3) := by decide +kernel
theorem dX9_walks_88 : decode cX9_walks 88 = .ok (.aload_n 0, 1) := by decide +kernel
theorem dX9_walks_89 : decode cX9_walks 89 = .ok (.iload 5, 2) := by decide +kernel
theorem dX9_walks_91 : decode cX9_walks 91 = .ok (.putfield 269, 3) := by decide +kernel
theorem dX9_walks_94 : decode cX9_walks 94 = .ok (.aload_n 0, 1) := by decide +kernel
theorem dX9_walks_95 : decode cX9_walks 95 = .ok (.aload_n 0, 1) := by decide +kernel
theorem dX9_walks_96 : decode cX9_walks 96 = .ok (.getfield 266, 3) := by decide +kernel
theorem dX9_walks_99 : decode cX9_walks 99 = .ok (.iload 5, 2) := by decide +kernel
theorem dX9_walks_101 : decode cX9_walks 101 = .ok (.invokevirtual 159, 3) := by decide +kernel
theorem dX9_walks_104 : decode cX9_walks 104 = .ok (.istore 6, 2) := by decide +kernel
theorem dX9_walks_106 : decode cX9_walks 106 = .ok (.aload_n 0, 1) := by decide +kernel
theorem dX9_walks_107 : decode cX9_walks 107 = .ok (.dup, 1) := by decide +kernel
theorem dX9_walks_108 : decode cX9_walks 108 = .ok (.getfield 272, 3) := by decide +kernel
theorem dX9_walks_111 : decode cX9_walks 111 = .ok (.iload 6, 2) := by decide +kernel
theorem dX9_walks_113 : decode cX9_walks 113 = .ok (.invokestatic 233, 3) := by decide +kernel
theorem dX9_walks_116 : decode cX9_walks 116 = .ok (.iadd, 1) := by decide +kernel
theorem dX9_walks_117 : decode cX9_walks 117 = .ok (.putfield 272, 3) := by decide +kernel
theorem dX9_walks_120 : decode cX9_walks 120 = .ok (.aload_n 0, 1) := by decide +kernel
theorem dX9_walks_121 : decode cX9_walks 121 = .ok (.dup, 1) := by decide +kernel
theorem dX9_walks_122 : decode cX9_walks 122 = .ok (.getfield 275, 3) := by decide +kernel
theorem dX9_walks_125 : decode cX9_walks 125 = .ok (.iload 6, 2) := by decide +kernel
theorem dX9_walks_127 : decode cX9_walks 127 = .ok (.ior, 1) := by decide +kernel
theorem dX9_walks_128 : decode cX9_walks 128 = .ok (.putfield 275, 3) := by decide +kernel
theorem dX9_walks_131 : decode cX9_walks 131 = .ok (.iinc 4 1, 3) := by decide +kernel
theorem dX9_walks_134 : decode cX9_walks 134 = .ok (.goto (-101), 3) := by decide +kernel
theorem dX9_walks_137 : decode cX9_walks 137 = .ok (.iconst (-1), 1) := by decide +kernel
theorem dX9_walks_138 : decode cX9_walks 138 = .ok (.ireturn, 1) := by decide +kernel
set_option maxRecDepth 20000 in
theorem l_X9_walks {G : Gl} {d : Nat} {σ0 : Sg} {K : Option Value → Sg → Prop} {Z : Zt} (hZ0 : RelM Z σ0) (hO : OkZ Z) {k m : Nat} (k8 : k < 8) (h60 : m ≤ 60) : ∀ (n i : Nat) (a f s : Int) (l : Nat) (σ : Sg), i + n = m → MWk σ0 σ → WkM (-1, a, f, s, l) σ → inS a → 0 ≤ s → s ≤ 63 * (i : Int) → (∀ υ, MWk σ0 υ → WkM (wkG Z.1 (elV Z k) n i a f s l) υ → K (some (.int (iI (wkG Z.1 (elV Z k) n i a f s l).1))) υ) → AW G (d + 3) RX9 cX9_walks 7 (some .int) 33 [(0, .ref (gA G 54)), (1, .int (iI (k : Int))), (3, .int (iI (m : Int))), (4, .int (iI (i : Int)))] [] σ K := by
  intro n
  induction n using Nat.strongRecOn
  rename_i n ih
  intro i a f s l σ hn hF hW ia s1 s2 hK
  have hZ := hF.rel hZ0
  obtain ⟨w1, w2, w3, w4⟩ := id hW
  have ev := elV_rng Z k i
  have hbr := bes_rng a (elV Z k i)
  have ia2 : 0 ≤ a ∧ a < 49 := ia
  refine A_iload (pc := 33) dX9_walks_33 rfl ?_
  refine A_iload_n (pc := 35) dX9_walks_35 rfl rfl ?_
  refine A_icmp_ge (pc := 36) 137 dX9_walks_36 (by decide) (by omega) (by omega) (by omega) (by omega) (fun h36 => ?_) (fun h36 => ?_)
  · skip
    refine A_iconst (pc := 137) dX9_walks_137 ?_
    refine A_iret (pc := 138) rfl dX9_walks_138 ?_
    have hn0 : n = 0 := by omega
    subst hn0
    exact hK σ hF hW
  · skip
    refine A_aload_n (pc := 39) dX9_walks_39 rfl rfl ?_
    refine A_iload_n (pc := 40) dX9_walks_40 rfl rfl ?_
    refine A_iload (pc := 41) dX9_walks_41 rfl ?_
    refine A_callV1 (pc := 43) kX9_253 rfl rfl (c_X9_toldAt hZ hO k8 (show i < 160 by omega)) dX9_walks_43 rfl rfl (Nat.le_of_ble_eq_true rfl) (Nat.le_of_ble_eq_true rfl) ?_
    refine A_istore (pc := 46) dX9_walks_46 (Nat.le_of_ble_eq_true rfl) ?_
    refine A_iload (pc := 48) dX9_walks_48 rfl ?_
    refine A_callS1 (pc := 50) kX9_136 (c_X9_isWay ev.1 ev.2) dX9_walks_50 rfl rfl (Nat.le_of_ble_eq_true rfl) (Nat.le_of_ble_eq_true rfl) ?_
    refine A_ifb_eq (pc := 53) 72 dX9_walks_53 (by decide) (fun h53 => ?_) (fun h53 => ?_)
    · skip
      refine A_iload (pc := 72) dX9_walks_72 rfl ?_
      refine A_iret (pc := 74) rfl dX9_walks_74 ?_
      obtain ⟨u, rfl⟩ : ∃ u, n = u + 1 := ⟨n - 1, by omega⟩
      have g3 := hK σ hF
      rw [wkG_n (fun q => h53 (bes_way q.1))] at g3
      exact g3 hW
    · skip
      have hnr := nx_rng (w := elV Z k i) ia2.1 (show a ≤ 48 by omega)
      refine A_aload_n (pc := 56) dX9_walks_56 rfl rfl ?_
      refine A_aload_n (pc := 57) dX9_walks_57 rfl rfl ?_
      refine A_getIv (pc := 58) fX9_266 rfl rfl (show _ = a from w1) dX9_walks_58 ?_
      refine A_iload (pc := 61) dX9_walks_61 rfl ?_
      refine A_callS1 (pc := 63) kX9_223 (c_X9_next ia2.1 (by omega) h53.1 (by omega)) dX9_walks_63 rfl rfl (Nat.le_of_ble_eq_true rfl) (Nat.le_of_ble_eq_true rfl) ?_
      refine A_callV1 (pc := 66) kX9_143 rfl rfl (c_X9_isOpen hZ.1 hO.1 (by omega) (by omega)) dX9_walks_66 rfl rfl (Nat.le_of_ble_eq_true rfl) (Nat.le_of_ble_eq_true rfl) ?_
      refine A_ifb_ne (pc := 69) 75 dX9_walks_69 (by decide) (fun h69 => ?_) (fun h69 => ?_)
      · skip
        have en : (nx a (elV Z k i)) = (bes a (elV Z k i)) := nx_bes (τ := Z.1) ia h53.1 h53.2 h69
        have h69b : opn Z.1 (bes a (elV Z k i)) := by rw [← en]; exact h69
        refine A_aload_n (pc := 75) dX9_walks_75 rfl rfl ?_
        refine A_aload_n (pc := 76) dX9_walks_76 rfl rfl ?_
        refine A_getIv (pc := 77) fX9_266 rfl rfl (show _ = a from w1) dX9_walks_77 ?_
        refine A_iload (pc := 80) dX9_walks_80 rfl ?_
        refine A_callS1 (pc := 82) kX9_223 (c_X9_next ia2.1 (by omega) h53.1 (by omega)) dX9_walks_82 rfl rfl (Nat.le_of_ble_eq_true rfl) (Nat.le_of_ble_eq_true rfl) ?_
        refine A_putI (pc := 85) fX9_266 wr_8_29 rfl rfl dX9_walks_85 ?_
        refine A_aload_n (pc := 88) dX9_walks_88 rfl rfl ?_
        refine A_iload (pc := 89) dX9_walks_89 rfl ?_
        refine A_putI (pc := 91) fX9_269 wr_8_30 rfl rfl dX9_walks_91 ?_
        have hFb : MWk σ0 (uI (uI σ 54 29 (nx a (elV Z k i))) 54 30 (elV Z k i)) := (hF.u (by decide) (by decide)).u (by decide) (by decide)
        have hZb := hFb.rel hZ0
        refine A_aload_n (pc := 94) dX9_walks_94 rfl rfl ?_
        refine A_aload_n (pc := 95) dX9_walks_95 rfl rfl ?_
        refine A_getIv (pc := 96) fX9_266 rfl rfl (show _ = (bes a (elV Z k i)) from by rw [uI_at, if_neg (by decide), uI_at, if_pos ⟨rfl, rfl⟩]; exact en) dX9_walks_96 ?_
        refine A_iload (pc := 99) dX9_walks_99 rfl ?_
        refine A_callV1 (pc := 101) kX9_159 rfl rfl (c_X9_looksIn hZb.1 hO.1 h69b.1.1 (by have := h69b.1.2; omega) h53.1 (by omega)) dX9_walks_101 rfl rfl (Nat.le_of_ble_eq_true rfl) (Nat.le_of_ble_eq_true rfl) ?_
        refine A_istore (pc := 104) dX9_walks_104 (Nat.le_of_ble_eq_true rfl) ?_
        refine A_aload_n (pc := 106) dX9_walks_106 rfl rfl ?_
        refine A_dup (pc := 107) dX9_walks_107 rfl ?_
        refine A_getIv (pc := 108) fX9_272 rfl rfl (show _ = s from by rw [uI_at, if_neg (by decide), uI_at, if_neg (by decide)]; exact w3) dX9_walks_108 ?_
        refine A_iload (pc := 111) dX9_walks_111 rfl ?_
        refine A_callS1 (pc := 113) kX9_233 (c_J6_bitCount_0f7a4) dX9_walks_113 rfl rfl (Nat.le_of_ble_eq_true rfl) (Nat.le_of_ble_eq_true rfl) ?_
        refine A_iadd (pc := 116) dX9_walks_116 ?_
        refine A_putI (pc := 117) fX9_272 wr_8_31 rfl rfl dX9_walks_117 ?_
        refine A_aload_n (pc := 120) dX9_walks_120 rfl rfl ?_
        refine A_dup (pc := 121) dX9_walks_121 rfl ?_
        refine A_getIv (pc := 122) fX9_275 rfl rfl (show _ = ((l : Nat) : Int) from by rw [uI_at, if_neg (by decide), uI_at, if_neg (by decide), uI_at, if_neg (by decide)]; exact w4) dX9_walks_122 ?_
        refine A_iload (pc := 125) dX9_walks_125 rfl ?_
        refine A_ior (pc := 127) ((l ||| look Z.1 (bes a (elV Z k i)) (elV Z k i) : Nat) : Int) dX9_walks_127 (or_I _ _) ?_
        refine A_putI (pc := 128) fX9_275 wr_8_32 rfl rfl dX9_walks_128 ?_
        refine A_iinc (pc := 131) dX9_walks_131 rfl (Nat.le_of_ble_eq_true rfl) ?_
        refine A_goto (pc := 134) 33 dX9_walks_134 (by decide) ?_
        obtain ⟨u, rfl⟩ : ∃ u, n = u + 1 := ⟨n - 1, by omega⟩
        refine A_loc (l2 := [(0, _), (1, _), (3, _), (4, _)]) ⟨rfl, rfl, rfl, rfl, trivial⟩ ?_
        have hsr := sham_rng Z.1 (bes a (elV Z k i)) (elV Z k i)
        refine ih u (by omega) (i + 1) (bes a (elV Z k i)) (elV Z k i) (s + sham Z.1 (bes a (elV Z k i)) (elV Z k i)) (l ||| look Z.1 (bes a (elV Z k i)) (elV Z k i)) _ (by omega) ((hFb.u (by decide) (by decide)).u (by decide) (by decide)) ⟨?_, ?_, ?_, ?_⟩ h69b.1 (by omega) (by omega) (fun υ g1 g2 => ?_)
        · rw [uI_at, if_neg (by decide), uI_at, if_neg (by decide), uI_at, if_neg (by decide), uI_at, if_pos ⟨rfl, rfl⟩]; exact en
        · rw [uI_at, if_neg (by decide), uI_at, if_neg (by decide), uI_at, if_pos ⟨rfl, rfl⟩]
        · rw [uI_at, if_neg (by decide), uI_at, if_pos ⟨rfl, rfl⟩]; rfl
        · rw [uI_at, if_pos ⟨rfl, rfl⟩]
        have g3 := hK υ g1
        rw [wkG_y h69b] at g3
        exact g3 g2
      · skip
        refine A_iload (pc := 72) dX9_walks_72 rfl ?_
        refine A_iret (pc := 74) rfl dX9_walks_74 ?_
        obtain ⟨u, rfl⟩ : ∃ u, n = u + 1 := ⟨n - 1, by omega⟩
        have g3 := hK σ hF
        rw [wkG_n (nx_no (τ := Z.1) ia h53.1 h53.2 h69)] at g3
        exact g3 hW
set_option maxRecDepth 20000 in
theorem c_X9_walks {G : Gl} {d : Nat} {σ : Sg} {Z : Zt} (hZ : RelM Z σ) (hO : OkZ Z) {k m p : Nat} (k8 : k < 8) (h60 : m ≤ 60) (hp : (p : Int) < Z.1.2.1 1) : CT G (d + 3) yX9_walks cX9_walks 7 (some .int) [.ref (gA G 54), .int (iI (k : Int)), .int (iI (p : Int)), .int (iI (m : Int))] σ (RE (some (.int (iI (wkG Z.1 (elV Z k) m 0 (Z.1.2.2 4 p) (Z.1.2.2 5 p) 0 0).1))) (fun υ => MWk σ υ ∧ WkM (wkG Z.1 (elV Z k) m 0 (Z.1.2.2 4 p) (Z.1.2.2 5 p) 0 0) υ)) := by
  refine CT.of (by decide +kernel) (Nat.le_of_ble_eq_true rfl) ?_
  change AW G _ RX9 _ _ _ 0 [(0, .ref (gA G 54)), (1, .int (iI (k : Int))), (2, .int (iI (p : Int))), (3, .int (iI (m : Int)))] [] _ _
  have hO2 := hO.1
  obtain ⟨o1, o2, o3, o4, o5, o6, o7, o8, o9⟩ := hO2
  have p0 := hZ.1.2.1
  have p1 := hZ.1.2.2.1
  have q9 := o9 p hp
  refine A_aload_n (pc := 0) dX9_walks_0 rfl rfl ?_
  refine A_aload_n (pc := 1) dX9_walks_1 rfl rfl ?_
  refine A_getR (pc := 2) fX9_22 rfl rfl dX9_walks_2 ?_
  refine A_iload_n (pc := 5) dX9_walks_5 rfl rfl ?_
  refine A_ialdv (pc := 6) _ rfl rfl (by omega) (Nat.le_of_ble_eq_true rfl) (hZ.1.wat (p := p) hp) dX9_walks_6 ?_
  refine A_putI (pc := 7) fX9_266 wr_8_29 rfl rfl dX9_walks_7 ?_
  have hFa : MWk σ (uI σ 54 29 (Z.1.2.2 4 p)) := MWk.rf.u (by decide) (by decide)
  have hZa := hFa.rel hZ
  refine A_aload_n (pc := 10) dX9_walks_10 rfl rfl ?_
  refine A_aload_n (pc := 11) dX9_walks_11 rfl rfl ?_
  refine A_getR (pc := 12) fX9_25 rfl rfl dX9_walks_12 ?_
  refine A_iload_n (pc := 15) dX9_walks_15 rfl rfl ?_
  refine A_ialdv (pc := 16) _ rfl rfl (by omega) (Nat.le_of_ble_eq_true rfl) (hZa.1.wf (p := p) hp) dX9_walks_16 ?_
  refine A_putI (pc := 17) fX9_269 wr_8_30 rfl rfl dX9_walks_17 ?_
  refine A_aload_n (pc := 20) dX9_walks_20 rfl rfl ?_
  refine A_iconst (pc := 21) dX9_walks_21 ?_
  refine A_putI (pc := 22) fX9_272 wr_8_31 rfl rfl dX9_walks_22 ?_
  refine A_aload_n (pc := 25) dX9_walks_25 rfl rfl ?_
  refine A_iconst (pc := 26) dX9_walks_26 ?_
  refine A_putI (pc := 27) fX9_275 wr_8_32 rfl rfl dX9_walks_27 ?_
  refine A_iconst (pc := 30) dX9_walks_30 ?_
  refine A_istore (pc := 31) dX9_walks_31 (Nat.le_of_ble_eq_true rfl) ?_
  refine A_loc (l2 := [(0, _), (1, _), (3, _), (4, _)]) ⟨rfl, rfl, rfl, rfl, trivial⟩ ?_
  refine l_X9_walks hZ hO k8 h60 m 0 (Z.1.2.2 4 p) (Z.1.2.2 5 p) 0 0 _ (by omega) (((hFa.u (by decide) (by decide)).u (by decide) (by decide)).u (by decide) (by decide)) ⟨?_, ?_, ?_, ?_⟩ ⟨q9.1, by omega⟩ (by omega) (by omega) (fun υ g1 g2 => ⟨rfl, g1, g2⟩)
  · rw [uI_at, if_neg (by decide), uI_at, if_neg (by decide), uI_at, if_neg (by decide), uI_at, if_pos ⟨rfl, rfl⟩]
  · rw [uI_at, if_neg (by decide), uI_at, if_neg (by decide), uI_at, if_pos ⟨rfl, rfl⟩]
  · rw [uI_at, if_neg (by decide), uI_at, if_pos ⟨rfl, rfl⟩]
  · rw [uI_at, if_pos ⟨rfl, rfl⟩]; rfl
theorem nwT_0 {Z : Zt} {s p n : Int} (h : nwT Z s p n = 0) : (0 ≤ s ∧ s < 8) ∧ (0 ≤ p ∧ p < Z.1.2.1 1) ∧ rowT Z s = 0 ∧ 0 ≤ n ∧ n ≤ Z.2.1.2.1 s.toNat := by
  unfold nwT at h
  (repeat' split at h) <;> first | omega | exact absurd h (by assumption)
theorem dX9_judge_0 : decode cX9_judge 0 = .ok (.aload_n 0, 1) := by decide +kernel
theorem dX9_judge_1 : decode cX9_judge 1 = .ok (.iload_n 1, 1) := by decide +kernel
theorem dX9_judge_2 : decode cX9_judge 2 = .ok (.iload_n 2, 1) := by decide +kernel
theorem dX9_judge_3 : decode cX9_judge 3 = .ok (.iload_n 3, 1) := by decide +kernel
theorem dX9_judge_4 : decode cX9_judge 4 = .ok (.invokevirtual 278, 3) := by decide +kernel
theorem dX9_judge_7 : decode cX9_judge 7 = .ok (.istore 4, 2) := by decide +kernel
theorem dX9_judge_9 : decode cX9_judge 9 = .ok (.iload 4, 2) := by decide +kernel
theorem dX9_judge_11 : decode cX9_judge 11 = .ok (.ifCond .ge 10, 3) := by decide +kernel
theorem dX9_judge_14 : decode cX9_judge 14 = .ok (.aload_n 0, 1) := by decide +kernel
theorem dX9_judge_15 : decode cX9_judge 15 = .ok (.iload 4, 2) := by decide +kernel
theorem dX9_judge_17 : decode cX9_judge 17 = .ok (.invokevirtual 237, 3) := by decide +kernel
theorem dX9_judge_20 : decode cX9_judge 20 = .ok (.ireturn, 1) := by decide +kernel
theorem dX9_judge_21 : decode cX9_judge 21 = .ok (.iload_n 3, 1) := by decide +kernel
theorem dX9_judge_22 : decode cX9_judge 22 = .ok (.bipush 60, 2) := by decide +kernel
theorem dX9_judge_24 : decode cX9_judge 24 = .ok (.if_icmp .le 12, 3) := by decide +kernel
theorem dX9_judge_27 : decode cX9_judge 27 = .ok (.aload_n 0, 1) := by decide +kernel
theorem dX9_judge_28 : decode cX9_judge 28 = .ok (.bipush (-6), 2) := by decide +kernel
theorem dX9_judge_30 : decode cX9_judge 30 = .ok (.invokevirtual 237, 3) := by decide +kernel
theorem dX9_judge_33 : decode cX9_judge 33 = .ok (.goto 10, 3) := by decide +kernel
theorem dX9_judge_36 : decode cX9_judge 36 = .ok (.aload_n 0, 1) := by decide +kernel
theorem dX9_judge_37 : decode cX9_judge 37 = .ok (.iload_n 1, 1) := by decide +kernel
theorem dX9_judge_38 : decode cX9_judge 38 = .ok (.iload_n 2, 1) := by decide +kernel
theorem dX9_judge_39 : decode cX9_judge 39 = .ok (.iload_n 3, 1) := by decide +kernel
theorem dX9_judge_40 : decode cX9_judge 40 = .ok (.invokevirtual 282, 3) := by decide +kernel
theorem dX9_judge_43 : decode cX9_judge 43 = .ok (.ireturn, 1) := by decide +kernel
set_option maxRecDepth 20000 in
theorem c_X9_judge {G : Gl} {d : Nat} {σ : Sg} {Z : Zt} (hZ : RelM Z σ) (hO : OkZ Z) {s : Int} (hs1 : -2147483648 ≤ s) (hs2 : s < 2147483648) {p : Int} (hp1 : -2147483648 ≤ p) (hp2 : p < 2147483648) {n : Int} (hn1 : -2147483648 ≤ n) (hn2 : n < 2147483648) : CT G (d + 4) yX9_judge cX9_judge 5 (some .int) [.ref (gA G 54), .int (iI s), .int (iI p), .int (iI n)] σ (RE (some (.int (iI (qJudge Z s p n).1))) (fun υ => RelM (qJudge Z s p n).2 υ ∧ Fr MC σ υ)) := by
  refine CT.of (by decide +kernel) (Nat.le_of_ble_eq_true rfl) ?_
  change AW G _ RX9 _ _ _ 0 [(0, .ref (gA G 54)), (1, .int (iI s)), (2, .int (iI p)), (3, .int (iI n))] [] _ _
  have hwt := nwT_rng Z s p n
  have ew : wkT Z s p n True = _ := wkT_nw
  refine A_aload_n (pc := 0) dX9_judge_0 rfl rfl ?_
  refine A_iload_n (pc := 1) dX9_judge_1 rfl rfl ?_
  refine A_iload_n (pc := 2) dX9_judge_2 rfl rfl ?_
  refine A_iload_n (pc := 3) dX9_judge_3 rfl rfl ?_
  refine A_callV1 (pc := 4) kX9_278 rfl rfl (c_X9_noWalk hZ hO hs1 hs2 hp1 hp2 hn1 hn2) dX9_judge_4 rfl rfl (Nat.le_of_ble_eq_true rfl) (Nat.le_of_ble_eq_true rfl) ?_
  refine A_istore (pc := 7) dX9_judge_7 (Nat.le_of_ble_eq_true rfl) ?_
  refine A_iload (pc := 9) dX9_judge_9 rfl ?_
  refine A_if_ge (pc := 11) 21 dX9_judge_11 (by decide) (by omega) (by omega) (fun h11 => ?_) (fun h11 => ?_)
  · skip
    rw [if_neg (by omega), if_neg (fun q => q trivial)] at ew
    obtain ⟨⟨g1, g2⟩, ⟨g3, g4⟩, g5, g6, g7⟩ := nwT_0 (show nwT Z s p n = 0 by omega)
    obtain ⟨k, rfl⟩ := Int.eq_ofNat_of_zero_le (show 0 ≤ s by omega)
    obtain ⟨j, rfl⟩ := Int.eq_ofNat_of_zero_le (show 0 ≤ p by omega)
    obtain ⟨m, rfl⟩ := Int.eq_ofNat_of_zero_le (show 0 ≤ n by omega)
    have k8 : k < 8 := by omega
    have q9 := hO.1.2.2.2.2.2.2.2.2 j g4
    have wok := fun z : m ≤ 60 => wkG_ok (τ := Z.1) (e := elV Z k) (n := m) (i := 0) (a := Z.1.2.2 4 j) (f := Z.1.2.2 5 j) (s := 0) (l := 0) ⟨q9.1, by omega⟩ q9.2.2.1 (by omega) (by omega)
    refine A_iload_n (pc := 21) dX9_judge_21 rfl rfl ?_
    refine A_bipush (pc := 22) dX9_judge_22 (by decide) ?_
    refine A_icmp_le (pc := 24) 36 dX9_judge_24 (by decide) (by omega) (by omega) (by omega) (by omega) (fun h24 => ?_) (fun h24 => ?_)
    · skip
      refine A_aload_n (pc := 36) dX9_judge_36 rfl rfl ?_
      refine A_iload_n (pc := 37) dX9_judge_37 rfl rfl ?_
      refine A_iload_n (pc := 38) dX9_judge_38 rfl rfl ?_
      refine A_iload_n (pc := 39) dX9_judge_39 rfl rfl ?_
      refine A_callVe (pc := 40) kX9_282 rfl rfl (c_X9_walks hZ hO k8 (show m ≤ 60 by omega) g4) dX9_judge_40 rfl rfl (Nat.le_of_ble_eq_true rfl) (Nat.le_of_ble_eq_true rfl) (fun υ hυ => ?_)
      refine A_iret (pc := 43) rfl dX9_judge_43 ?_
      exact RQM (by unfold qJudge wkR; rw [if_neg (by omega)] at ew; simp only [Int.toNat_natCast]; rw [ew, if_neg (by decide)]) (hυ.1.rel hZ) hυ.1.mc
    · skip
      refine A_aload_n (pc := 27) dX9_judge_27 rfl rfl ?_
      refine A_bipush (pc := 28) dX9_judge_28 (by decide) ?_
      refine A_callVe (pc := 30) kX9_237 rfl rfl (c_X9_no10 hZ hO (t := -6) (by omega) (by omega)) dX9_judge_30 rfl rfl (Nat.le_of_ble_eq_true rfl) (Nat.le_of_ble_eq_true rfl) (fun υ hυ => ?_)
      refine A_goto (pc := 33) 43 dX9_judge_33 (by decide) ?_
      refine A_iret (pc := 43) rfl dX9_judge_43 ?_
      exact RQM (by unfold qJudge; rw [if_pos (by omega)] at ew; rw [ew, if_pos (by decide)]; rfl) hυ.1 (hυ.2.mono MC70)
  · skip
    refine A_aload_n (pc := 14) dX9_judge_14 rfl rfl ?_
    refine A_iload (pc := 15) dX9_judge_15 rfl ?_
    refine A_callVe (pc := 17) kX9_237 rfl rfl (c_X9_no10 hZ hO (t := nwT Z s p n) (by omega) (by omega)) dX9_judge_17 rfl rfl (Nat.le_of_ble_eq_true rfl) (Nat.le_of_ble_eq_true rfl) (fun υ hυ => ?_)
    refine A_iret (pc := 20) rfl dX9_judge_20 ?_
    exact RQM (by unfold qJudge; rw [ew, if_pos (by omega), if_pos (by omega)]; rfl) hυ.1 (hυ.2.mono MC70)
