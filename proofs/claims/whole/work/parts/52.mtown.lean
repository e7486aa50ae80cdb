/-! PART 52: the reference's town from a text -/
theorem uI_id {σ : Sg} {c k : Nat} {v : Int} (h : σ.1 c k = v) : uI σ c k v = σ := by
  refine Prod.ext ?_ rfl
  funext a b
  show (uI σ c k v).1 a b = σ.1 a b
  rw [uI_at]
  by_cases e : a = c ∧ b = k
  · rw [if_pos e, e.1, e.2, h]
  · rw [if_neg e]
theorem RelM.rd {Z : Zt} {σ ω : Sg} {τ : Tw} {f : Int} (h : RelM Z σ) (hT : RMt τ ω) (e1 : ∀ a, (64 ≤ a ∧ a ≤ 66) ∨ (69 ≤ a ∧ a ≤ 71) → ω.1 a = σ.1 a ∧ ω.2 a = σ.2 a) (e2 : ∀ j, j = 20 ∨ j = 23 ∨ j = 25 → ω.1 54 j = σ.1 54 j) (e3 : ω.1 54 18 = f) : RelM (zFlt (zTw Z τ) f) ω := by
  obtain ⟨-, a2, ⟨a3, a4⟩, a5, -, a7, a8⟩ := h
  have e : ∀ a, (64 ≤ a ∧ a ≤ 66) ∨ (69 ≤ a ∧ a ≤ 71) → ω.1 a = σ.1 a := fun a ha => (e1 a ha).1
  refine ⟨hT, fun k hk => ⟨by rw [e 64 (by omega)]; exact (a2 k hk).1, fun q => by rw [e 65 (by omega)]; exact (a2 k hk).2.1 q, fun i hi => by rw [(e1 66 (by omega)).2]; exact (a2 k hk).2.2 i hi⟩, ⟨by rw [e2 23 (by omega)]; exact a3, fun q => ?_⟩, fun r r1 r2 => by rw [e 70 (by omega)]; exact a5 r r1 r2, e3, by rw [e2 20 (by omega)]; exact a7, fun i i1 i2 => by rw [e 69 (by omega)]; exact a8 i i1 i2⟩
  obtain ⟨b1, b2, b3, b4, b5, b6, b7⟩ := a4 q
  exact ⟨fun j p hj hp => by rw [e 71 (by omega)]; exact b1 j p hj hp, fun j p hj hp => by rw [e 71 (by omega)]; exact b2 j p hj hp, fun i hi => by rw [e 71 (by omega)]; exact b3 i hi, fun k hk => by rw [e 71 (by omega)]; exact b4 k hk, by rw [e 71 (by omega)]; exact b5, by rw [e 71 (by omega)]; exact b6, by rw [e2 25 (by omega)]; exact b7⟩
/-- from the store before the reading to that where it begins -/
def BsM (σ σ0 : Sg) : Prop := (∀ a, a ≠ 54 → a ≠ 68 → σ0.1 a = σ.1 a ∧ σ0.2 a = σ.2 a) ∧ ∀ j, j ≠ 15 → j ≠ 16 → σ0.1 54 j = σ.1 54 j
def SRm : Nat → Prop := fun a => (54 ≤ a ∧ a < 64) ∨ a = 67 ∨ a = 68
theorem SRmM : ∀ a, SRm a → MC a := fun a h => by unfold SRm at h; unfold MC; omega
theorem BsM.fr {σ σ0 υ : Sg} (h : BsM σ σ0) (hF : FrI σ0 υ) : Fr SRm σ υ := fun a ha => by
  have n : ¬ ((54 ≤ a ∧ a < 64) ∨ a = 67) := fun z => ha (by unfold SRm; omega)
  have n2 : a ≠ 54 ∧ a ≠ 68 := ⟨fun z => ha (by unfold SRm; omega), fun z => ha (by unfold SRm; omega)⟩
  exact ⟨(hF.1 a n).1.trans (h.1 a n2.1 n2.2).1, (hF.1 a n).2.trans (h.1 a n2.1 n2.2).2⟩
theorem SRm_o {a : Nat} (h : (64 ≤ a ∧ a ≤ 66) ∨ (69 ≤ a ∧ a ≤ 71)) : ¬ SRm a := fun z => by unfold SRm at z; omega
theorem RMk.fr {c : Nat} {τ : Tw} {σ υ : Sg} (h : RMk c τ σ) (e : υ.1 c = σ.1 c) : RMk c τ υ := by
  obtain ⟨b1, b2, b3, b4, b5, b6⟩ := h
  exact ⟨fun j p hj hp => by rw [e]; exact b1 j p hj hp, fun j p hj hp => by rw [e]; exact b2 j p hj hp, fun i hi => by rw [e]; exact b3 i hi, fun k hk => by rw [e]; exact b4 k hk, by rw [e]; exact b5, by rw [e]; exact b6⟩
theorem dX9_town_0 : decode cX9_town 0 = .ok (.aload_n 0, 1) := by decide +kernel
theorem dX9_town_1 : decode cX9_town 1 = .ok (.iload_n 1, 1) := by decide +kernel
theorem dX9_town_2 : decode cX9_town 2 = .ok (.invokevirtual 100, 3) := by decide +kernel
theorem dX9_town_5 : decode cX9_town 5 = .ok (.istore_n 2, 1) := by decide +kernel
theorem dX9_town_6 : decode cX9_town 6 = .ok (.iload_n 2, 1) := by decide +kernel
theorem dX9_town_7 : decode cX9_town 7 = .ok (.ifCond .ge 9, 3) := by decide +kernel
theorem dX9_town_10 : decode cX9_town 10 = .ok (.aload_n 0, 1) := by decide +kernel
theorem dX9_town_11 : decode cX9_town 11 = .ok (.iload_n 2, 1) := by decide +kernel
theorem dX9_town_12 : decode cX9_town 12 = .ok (.invokevirtual 79, 3) := by decide +kernel
theorem dX9_town_15 : decode cX9_town 15 = .ok (.ireturn, 1) := by decide +kernel
theorem dX9_town_16 : decode cX9_town 16 = .ok (.aload_n 0, 1) := by decide +kernel
theorem dX9_town_17 : decode cX9_town 17 = .ok (.aload_n 0, 1) := by decide +kernel
theorem dX9_town_18 : decode cX9_town 18 = .ok (.getfield 51, 3) := by decide +kernel
theorem dX9_town_21 : decode cX9_town 21 = .ok (.invokevirtual 212, 3) := by decide +kernel
theorem dX9_town_24 : decode cX9_town 24 = .ok (.aload_n 0, 1) := by decide +kernel
theorem dX9_town_25 : decode cX9_town 25 = .ok (.iload_n 1, 1) := by decide +kernel
theorem dX9_town_26 : decode cX9_town 26 = .ok (.putfield 168, 3) := by decide +kernel
theorem dX9_town_29 : decode cX9_town 29 = .ok (.aload_n 0, 1) := by decide +kernel
theorem dX9_town_30 : decode cX9_town 30 = .ok (.iconst 0, 1) := by decide +kernel
theorem dX9_town_31 : decode cX9_town 31 = .ok (.putfield 165, 3) := by decide +kernel
theorem dX9_town_34 : decode cX9_town 34 = .ok (.iconst 0, 1) := by decide +kernel
theorem dX9_town_35 : decode cX9_town 35 = .ok (.istore_n 3, 1) := by decide +kernel
theorem dX9_town_36 : decode cX9_town 36 = .ok (.iconst 1, 1) := by decide +kernel
theorem dX9_town_37 : decode cX9_town 37 = .ok (.istore 4, 2) := by decide +kernel
theorem dX9_town_39 : decode cX9_town 39 = .ok (.iload 4, 2) := by decide +kernel
theorem dX9_town_41 : decode cX9_town 41 = .ok (.ifCond .eq 58, 3) := by decide +kernel
theorem dX9_town_44 : decode cX9_town 44 = .ok (.aload_n 0, 1) := by decide +kernel
theorem dX9_town_45 : decode cX9_town 45 = .ok (.invokevirtual 216, 3) := by decide +kernel
theorem dX9_town_48 : decode cX9_town 48 = .ok (.istore 4, 2) := by decide +kernel
theorem dX9_town_50 : decode cX9_town 50 = .ok (.iload 4, 2) := by decide +kernel
theorem dX9_town_52 : decode cX9_town 52 = .ok (.ifCond .eq 6, 3) := by decide +kernel
theorem dX9_town_55 : decode cX9_town 55 = .ok (.iinc 3 1, 3) := by decide +kernel
theorem dX9_town_58 : decode cX9_town 58 = .ok (.iload 4, 2) := by decide +kernel
theorem dX9_town_60 : decode cX9_town 60 = .ok (.ifCond .eq 23, 3) := by decide +kernel
theorem dX9_town_63 : decode cX9_town 63 = .ok (.aload_n 0, 1) := by decide +kernel
theorem dX9_town_64 : decode cX9_town 64 = .ok (.getfield 165, 3) := by decide +kernel
theorem dX9_town_67 : decode cX9_town 67 = .ok (.aload_n 0, 1) := by decide +kernel
theorem dX9_town_68 : decode cX9_town 68 = .ok (.getfield 41, 3) := by decide +kernel
theorem dX9_town_71 : decode cX9_town 71 = .ok (.iload_n 1, 1) := by decide +kernel
theorem dX9_town_72 : decode cX9_town 72 = .ok (.iaload, 1) := by decide +kernel
theorem dX9_town_73 : decode cX9_town 73 = .ok (.if_icmp .ne 10, 3) := by decide +kernel
theorem dX9_town_76 : decode cX9_town 76 = .ok (.aload_n 0, 1) := by decide +kernel
theorem dX9_town_77 : decode cX9_town 77 = .ok (.iconst (-1), 1) := by decide +kernel
theorem dX9_town_78 : decode cX9_town 78 = .ok (.putfield 76, 3) := by decide +kernel
theorem dX9_town_81 : decode cX9_town 81 = .ok (.iload_n 3, 1) := by decide +kernel
theorem dX9_town_82 : decode cX9_town 82 = .ok (.ireturn, 1) := by decide +kernel
theorem dX9_town_83 : decode cX9_town 83 = .ok (.iload 4, 2) := by decide +kernel
theorem dX9_town_85 : decode cX9_town 85 = .ok (.ifCond .eq (-46), 3) := by decide +kernel
theorem dX9_town_88 : decode cX9_town 88 = .ok (.aload_n 0, 1) := by decide +kernel
theorem dX9_town_89 : decode cX9_town 89 = .ok (.bipush 59, 2) := by decide +kernel
theorem dX9_town_91 : decode cX9_town 91 = .ok (.invokevirtual 184, 3) := by decide +kernel
theorem dX9_town_94 : decode cX9_town 94 = .ok (.istore 4, 2) := by decide +kernel
theorem dX9_town_96 : decode cX9_town 96 = .ok (.goto (-57), 3) := by decide +kernel
theorem dX9_town_99 : decode cX9_town 99 = .ok (.aload_n 0, 1) := by decide +kernel
theorem dX9_town_100 : decode cX9_town 100 = .ok (.aload_n 0, 1) := by decide +kernel
theorem dX9_town_101 : decode cX9_town 101 = .ok (.getfield 165, 3) := by decide +kernel
theorem dX9_town_104 : decode cX9_town 104 = .ok (.putfield 76, 3) := by decide +kernel
theorem dX9_town_107 : decode cX9_town 107 = .ok (.aload_n 0, 1) := by decide +kernel
theorem dX9_town_108 : decode cX9_town 108 = .ok (.aload_n 0, 1) := by decide +kernel
theorem dX9_town_109 : decode cX9_town 109 = .ok (.getfield 51, 3) := by decide +kernel
theorem dX9_town_112 : decode cX9_town 112 = .ok (.invokevirtual 220, 3) := by decide +kernel
theorem dX9_town_115 : decode cX9_town 115 = .ok (.aload_n 0, 1) := by decide +kernel
theorem dX9_town_116 : decode cX9_town 116 = .ok (.bipush (-6), 2) := by decide +kernel
theorem dX9_town_118 : decode cX9_town 118 = .ok (.invokevirtual 79, 3) := by decide +kernel
theorem dX9_town_121 : decode cX9_town 121 = .ok (.ireturn, 1) := by decide +kernel
set_option maxRecDepth 20000 in
theorem lf_X9_town {G : Gl} {d : Nat} {σ σ0 : Sg} {Z : Zt} (hZ : RelM Z σ) (hO : OkZ Z) (hB : BsM σ σ0) (hM0 : RMk 68 Z.1 σ0) {k : Nat} {l : Nat → Int} {s c f : Int} (hq : qTown2 Z k = refZ (zFlt Z f) (-6)) (υ : Sg) (A : AtM l s k f υ) (hF : FrI σ0 υ) : AW G (d + 1) RX9 cX9_town 5 (some .int) 39 [(0, .ref (gA G 54)), (1, .int (iI (k : Int))), (3, .int (iI c)), (4, .int (iI 0))] [] υ (RE (some (.int (iI (qTown2 Z k).1))) (fun υ => RelM (qTown2 Z k).2 υ ∧ Fr MC σ υ)) := by
  refine A_iload (pc := 39) dX9_town_39 rfl ?_
  refine A_if_eq (pc := 41) 99 dX9_town_41 (by decide) (by omega) (by omega) (fun h41 => ?_) (fun h41 => ?_)
  · skip
    refine A_aload_n (pc := 99) dX9_town_99 rfl rfl ?_
    refine A_aload_n (pc := 100) dX9_town_100 rfl rfl ?_
    refine A_getIv (pc := 101) fX9_165 rfl rfl A.2.2 dX9_town_101 ?_
    refine A_putI (pc := 104) fX9_76 wr_8_18 rfl rfl dX9_town_104 ?_
    refine A_aload_n (pc := 107) dX9_town_107 rfl rfl ?_
    refine A_aload_n (pc := 108) dX9_town_108 rfl rfl ?_
    refine A_getR (pc := 109) fX9_51 rfl rfl dX9_town_109 ?_
    refine A_callVe0 (pc := 112) kX9_220 rfl rfl (c_X9_again (Or.inl rfl) (hM0.fr (by rw [← uI_ne (by decide), (hF.1 68 (by omega)).1]))) dX9_town_112 rfl rfl (Nat.le_of_ble_eq_true rfl) (Nat.le_of_ble_eq_true rfl) (fun ω hω => ?_)
    have F1 : Fr SRm σ ω := ((hB.fr hF).uI (show SRm 54 by unfold SRm; omega)).tr (hω.1.mono (fun a z => Or.inl z))
    have s11 : ω.1 54 11 = Z.1.2.1 5 := by rw [hω.2.1 11 (by decide) (by decide), uI_at, if_neg (by omega), hF.2 11 (by decide) (by decide) (by decide), hB.2 11 (by decide) (by decide)]; exact hZ.1.2.2.2.2.1
    have hT : RMt Z.1 ω := by
      have z := AgI.rmt hω (hM0.fr (by rw [← uI_ne (by decide), (hF.1 68 (by omega)).1])) hO.1 (v := Z.1.2.1 5) rfl
      rw [uI_id s11] at z
      exact z
    have hZ2 : RelM (zFlt Z f) ω := hZ.rd (τ := Z.1) hT (fun a ha => F1 a (SRm_o ha)) (fun j hj => by rw [hω.2.1 j (by omega) (by omega), uI_at, if_neg (by omega), hF.2 j (by omega) (by omega) (by omega), hB.2 j (by omega) (by omega)]) (by rw [hω.2.1 18 (by decide) (by decide), uI_at, if_pos ⟨rfl, rfl⟩])
    have hO2 : OkZ (zFlt Z f) := hO
    refine A_aload_n (pc := 115) dX9_town_115 rfl rfl ?_
    refine A_bipush (pc := 116) dX9_town_116 (by decide) ?_
    refine A_callVe (pc := 118) kX9_79 rfl rfl (c_X9_no hZ2 hO2 (t := -6) (by omega) (by omega)) dX9_town_118 rfl rfl (Nat.le_of_ble_eq_true rfl) (Nat.le_of_ble_eq_true rfl) (fun χ hχ => ?_)
    refine A_iret (pc := 121) rfl dX9_town_121 ?_
    exact RQM (by rw [hq]; rfl) hχ.1 ((F1.mono SRmM).tr (hχ.2.mono MC70))
  · skip
    exfalso; omega
set_option maxRecDepth 20000 in
theorem l_X9_town {G : Gl} {d : Nat} {σ σ0 : Sg} {Z : Zt} (hZ : RelM Z σ) (hO : OkZ Z) (hB : BsM σ σ0) (hM0 : RMk 68 Z.1 σ0) {k : Nat} {l : Nat → Int} {s : Int} (he : twT Z k = tnF (gS l s) s 160 1 Z.1 0) : ∀ (n : Nat) (c : Int) (τ : Tw) (p : Int) (υ : Sg), c + 1 + n = 161 → 0 ≤ c → 2 * c ≤ p → AtM l s k p υ → RMt τ υ → OkT τ → FrI σ0 υ → tnF (gS l s) s n (c + 1) τ p = twT Z k → AW G (d + 7) RX9 cX9_town 5 (some .int) 39 [(0, .ref (gA G 54)), (1, .int (iI (k : Int))), (3, .int (iI c)), (4, .int (iI 1))] [] υ (RE (some (.int (iI (qTown2 Z k).1))) (fun υ => RelM (qTown2 Z k).2 υ ∧ Fr MC σ υ)) := by
  intro n
  induction n using Nat.strongRecOn
  rename_i n ih
  intro c τ p υ hn c0 hp A hM hT hF hr
  have p1 := A.2.1.1
  have p2 := A.2.1.2
  have s2 := A.1.2.2.2.2.1
  have bd := itF_bd (l := l) (τ := τ) p1 p2
  obtain ⟨u, rfl⟩ : ∃ u, n = u + 1 := ⟨n - 1, by omega⟩
  refine A_iload (pc := 39) dX9_town_39 rfl ?_
  refine A_if_eq (pc := 41) 99 dX9_town_41 (by decide) (by omega) (by omega) (fun h41 => ?_) (fun h41 => ?_)
  · skip
    exfalso; omega
  · skip
    refine A_aload_n (pc := 44) dX9_town_44 rfl rfl ?_
    refine A_callVe (pc := 45) kX9_216 rfl rfl (c_X9_item A hM hT) dX9_town_45 rfl rfl (Nat.le_of_ble_eq_true rfl) (Nat.le_of_ble_eq_true rfl) (fun ω hω => ?_)
    have F1 := hF.tr hω.2.2
    refine A_istore (pc := 48) dX9_town_48 (Nat.le_of_ble_eq_true rfl) ?_
    refine A_iload (pc := 50) dX9_town_50 rfl ?_
    refine A_ifb_eq (pc := 52) 58 dX9_town_52 (by decide) (fun h52 => ?_) (fun h52 => ?_)
    · skip
      refine A_iload (pc := 58) dX9_town_58 rfl ?_
      refine A_ifb_eq (pc := 60) 83 dX9_town_60 (by decide) (fun h60 => ?_) (fun h60 => ?_)
      · skip
        refine A_iload (pc := 83) dX9_town_83 rfl ?_
        refine A_ifb_eq (pc := 85) 39 dX9_town_85 (by decide) (fun h85 => ?_) (fun h85 => ?_)
        · skip
          have z : ¬ (itF (gS l s) τ p).1.1 = true := h52
          rw [tnF_f (Bool.eq_false_iff.mpr z)] at hr
          rw [bI_f h52]
          refine A_loc (l2 := [(0, _), (1, _), (3, _), (4, _)]) ⟨rfl, rfl, rfl, rfl, trivial⟩ ?_
          refine lf_X9_town (d := d + 6) hZ hO hB hM0 (f := (itF (gS l s) τ p).1.2) ?_ ω hω.1 F1
          unfold qTown2
          rw [if_neg (by rw [← hr]; exact Bool.false_ne_true), ← hr]
        · skip
          exact absurd h85 h52
      · skip
        exact absurd h60 h52
    · skip
      refine A_iinc (pc := 55) dX9_town_55 rfl (Nat.le_of_ble_eq_true rfl) ?_
      refine A_iload (pc := 58) dX9_town_58 rfl ?_
      refine A_ifb_eq (pc := 60) 83 dX9_town_60 (by decide) (fun h60 => ?_) (fun h60 => ?_)
      · skip
        exact absurd h52 h60
      · skip
        refine A_aload_n (pc := 63) dX9_town_63 rfl rfl ?_
        refine A_getIv (pc := 64) fX9_165 rfl rfl hω.1.2.2 dX9_town_64 ?_
        refine A_aload_n (pc := 67) dX9_town_67 rfl rfl ?_
        refine A_getR (pc := 68) fX9_41 rfl rfl dX9_town_68 ?_
        refine A_iload_n (pc := 71) dX9_town_71 rfl rfl ?_
        refine A_ialdv (pc := 72) k rfl rfl (by have := A.1.1; omega) (Nat.le_of_ble_eq_true rfl) hω.1.1.2.2.1 dX9_town_72 ?_
        refine A_icmp_ne (pc := 73) 83 dX9_town_73 (by decide) (by omega) (by omega) (by omega) (by omega) (fun h73 => ?_) (fun h73 => ?_)
        · skip
          refine A_iload (pc := 83) dX9_town_83 rfl ?_
          refine A_ifb_eq (pc := 85) 39 dX9_town_85 (by decide) (fun h85 => ?_) (fun h85 => ?_)
          · skip
            exact absurd h52 h85
          · skip
            refine A_aload_n (pc := 88) dX9_town_88 rfl rfl ?_
            refine A_bipush (pc := 89) dX9_town_89 (by decide) ?_
            refine A_callVe (pc := 91) kX9_184 rfl rfl (c_X9_is hω.1 (c := 59) (by omega) (by omega) (by decide)) dX9_town_91 rfl rfl (Nat.le_of_ble_eq_true rfl) (Nat.le_of_ble_eq_true rfl) (fun χ hχ => ?_)
            have F2 := F1.tr hχ.2.a.i
            refine A_istore (pc := 94) dX9_town_94 (Nat.le_of_ble_eq_true rfl) ?_
            refine A_goto (pc := 96) 39 dX9_town_96 (by decide) ?_
            have q : (itF (gS l s) τ p).1.1 = true := h52
            have b3 := bd.2.2 q
            by_cases z : (gS l s) (itF (gS l s) τ p).1.2 = 59
            · have e : isF (gS l s) 59 (itF (gS l s) τ p).1.2 = (true, (itF (gS l s) τ p).1.2 + 1) := by unfold isF; rw [if_pos z]
              have lt := sep_59 rfl z
              rw [e] at hχ
              rw [e, bI_t rfl]
              refine A_loc (l2 := [(0, _), (1, _), (3, _), (4, _)]) ⟨rfl, rfl, rfl, rfl, trivial⟩ ?_
              refine ih u (by omega) (c + 1) (itF (gS l s) τ p).2 ((itF (gS l s) τ p).1.2 + 1) χ (by omega) (by omega) (by omega) hχ.1 ((hω.2.1 q).fa hχ.2.a) (hO_it hT p1 p2 q) F2 ?_
              rw [tnF_n q h73 z] at hr
              exact hr
            · have e : isF (gS l s) 59 (itF (gS l s) τ p).1.2 = (false, (itF (gS l s) τ p).1.2) := by unfold isF; rw [if_neg z]
              rw [e] at hχ
              rw [e, bI_f Bool.false_ne_true]
              refine A_loc (l2 := [(0, _), (1, _), (3, _), (4, _)]) ⟨rfl, rfl, rfl, rfl, trivial⟩ ?_
              rw [tnF_s q h73 z] at hr
              refine lf_X9_town (d := d + 6) hZ hO hB hM0 (f := (itF (gS l s) τ p).1.2) ?_ χ hχ.1 F2
              unfold qTown2
              rw [if_neg (by rw [← hr]; exact Bool.false_ne_true), ← hr]
        · skip
          refine A_aload_n (pc := 76) dX9_town_76 rfl rfl ?_
          refine A_iconst (pc := 77) dX9_town_77 ?_
          refine A_putI (pc := 78) fX9_76 wr_8_18 rfl rfl dX9_town_78 ?_
          refine A_iload_n (pc := 81) dX9_town_81 rfl rfl ?_
          refine A_iret (pc := 82) rfl dX9_town_82 ?_
          have q : (itF (gS l s) τ p).1.1 = true := h52
          rw [tnF_y q h73] at hr
          have F2 : Fr SRm σ (uI ω 54 18 (-1)) := (hB.fr F1).uI (show SRm 54 by unfold SRm; omega)
          refine RQM (by unfold qTown2; rw [if_pos (by rw [← hr]), ← hr]) (hZ.rd ((hω.2.1 q).f23 (by decide)) (fun a ha => F2 a (SRm_o ha)) (fun j hj => by rw [uI_at, if_neg (by omega), F1.2 j (by omega) (by omega) (by omega), hB.2 j (by omega) (by omega)]) (by rw [uI_at, if_pos ⟨rfl, rfl⟩])) (F2.mono SRmM)
theorem dX9_fault_0 : decode cX9_fault 0 = .ok (.aload_n 0, 1) := by decide +kernel
theorem dX9_fault_1 : decode cX9_fault 1 = .ok (.getfield 76, 3) := by decide +kernel
theorem dX9_fault_4 : decode cX9_fault 4 = .ok (.ireturn, 1) := by decide +kernel
set_option maxRecDepth 20000 in
theorem c_X9_fault {G : Gl} {d : Nat} {σ : Sg} {Z : Zt} (hZ : RelM Z σ) (hO : OkZ Z) : CT G d yX9_fault cX9_fault 1 (some .int) [.ref (gA G 54)] σ (R1 (.int (iI Z.2.2.2.2.1)) σ) := by
  refine CT.of (by decide +kernel) (Nat.le_of_ble_eq_true rfl) ?_
  change AW G _ RX9 _ _ _ 0 [(0, .ref (gA G 54))] [] _ _
  refine A_aload_n (pc := 0) dX9_fault_0 rfl rfl ?_
  refine A_getIv (pc := 1) fX9_76 rfl rfl hZ.2.2.2.2.1 dX9_fault_1 ?_
  refine A_iret (pc := 4) rfl dX9_fault_4 ?_
  exact ⟨rfl, rfl⟩
set_option maxRecDepth 20000 in
theorem c_X9_town {G : Gl} {d : Nat} {σ : Sg} {Z : Zt} (hZ : RelM Z σ) (hO : OkZ Z) {s : Int} (hs1 : -2147483648 ≤ s) (hs2 : s < 2147483648) : CT G (d + 8) yX9_town cX9_town 5 (some .int) [.ref (gA G 54), .int (iI s)] σ (RE (some (.int (iI (qTown Z s).1))) (fun υ => RelM (qTown Z s).2 υ ∧ Fr MC σ υ)) := by
  refine CT.of (by decide +kernel) (Nat.le_of_ble_eq_true rfl) ?_
  change AW G _ RX9 _ _ _ 0 [(0, .ref (gA G 54)), (1, .int (iI s))] [] _ _
  have hrt := rowT_rng Z s
  refine A_aload_n (pc := 0) dX9_town_0 rfl rfl ?_
  refine A_iload_n (pc := 1) dX9_town_1 rfl rfl ?_
  refine A_callV1 (pc := 2) kX9_100 rfl rfl (c_X9_noRow hZ hO hs1 hs2) dX9_town_2 rfl rfl (Nat.le_of_ble_eq_true rfl) (Nat.le_of_ble_eq_true rfl) ?_
  refine A_istore_n (pc := 5) dX9_town_5 rfl (Nat.le_of_ble_eq_true rfl) ?_
  refine A_iload_n (pc := 6) dX9_town_6 rfl rfl ?_
  refine A_if_ge (pc := 7) 16 dX9_town_7 (by decide) (by omega) (by omega) (fun h7 => ?_) (fun h7 => ?_)
  · skip
    have h0 : rowT Z s = 0 := by omega
    obtain ⟨h8, h100⟩ := rowT_0 h0
    obtain ⟨k, rfl⟩ := Int.eq_ofNat_of_zero_le (show 0 ≤ s by omega)
    have k8 : k < 8 := by omega
    have ks := hZ.2.1 k k8
    have ko := hO.2.1 k k8
    obtain ⟨kb1, kb2, kb3, kb4⟩ := ko.1
    simp only [Int.toNat_natCast] at h100
    refine A_aload_n (pc := 16) dX9_town_16 rfl rfl ?_
    refine A_aload_n (pc := 17) dX9_town_17 rfl rfl ?_
    refine A_getR (pc := 18) fX9_51 rfl rfl dX9_town_18 ?_
    refine A_callVe0 (pc := 21) kX9_212 rfl rfl (c_X9_keep (Or.inl rfl) hZ.1) dX9_town_21 rfl rfl (Nat.le_of_ble_eq_true rfl) (Nat.le_of_ble_eq_true rfl) (fun υ hυ => ?_)
    refine A_aload_n (pc := 24) dX9_town_24 rfl rfl ?_
    refine A_iload_n (pc := 25) dX9_town_25 rfl rfl ?_
    refine A_putI (pc := 26) fX9_168 wr_8_15 rfl rfl dX9_town_26 ?_
    refine A_aload_n (pc := 29) dX9_town_29 rfl rfl ?_
    refine A_iconst (pc := 30) dX9_town_30 ?_
    refine A_putI (pc := 31) fX9_165 wr_8_16 rfl rfl dX9_town_31 ?_
    refine A_iconst (pc := 34) dX9_town_34 ?_
    refine A_istore_n (pc := 35) dX9_town_35 rfl (Nat.le_of_ble_eq_true rfl) ?_
    refine A_iconst (pc := 36) dX9_town_36 ?_
    refine A_istore (pc := 37) dX9_town_37 (Nat.le_of_ble_eq_true rfl) ?_
    have hB : BsM σ (uI (uI υ 54 15 (k : Int)) 54 16 0) := ⟨fun a ha hb => ⟨by rw [← uI_ne ha, ← uI_ne ha]; exact (hυ.1 a hb).1, (hυ.1 a hb).2⟩, fun j h1 h2 => by rw [uI_at, if_neg (by omega), uI_at, if_neg (by omega), (hυ.1 54 (by decide)).1]⟩
    have hk0 : RMk 68 Z.1 (uI (uI υ 54 15 (k : Int)) 54 16 0) := (KeI.rmk hZ.1 hO.1 (fun x hx => hυ.2 x hx)).fr (by rw [← uI_ne (by decide), ← uI_ne (by decide)])
    have hT0 : RMt Z.1 (uI (uI υ 54 15 (k : Int)) 54 16 0) := (RMt.f23 (RMt.f23 (hZ.1.fr hυ.1 (fun a z => by have z2 : a = 68 := z; omega)) (by decide)) (by decide))
    have A0 : AtM (elV Z k) (Z.2.1.2.1 k) k 0 (uI (uI υ 54 15 (k : Int)) 54 16 0) := ⟨⟨k8, by rw [uI_at, if_neg (by omega), uI_at, if_pos ⟨rfl, rfl⟩], by rw [← uI_ne (by decide), ← uI_ne (by decide), (hυ.1 65 (by decide)).1]; exact ks.2.1 h100, fun i hi => by show (υ.2 66 _).toInt32.toInt = _; rw [(hυ.1 66 (by decide)).2, ks.2.2 i (by omega)]; rfl, by omega, fun j => elV_rng Z k j⟩, by omega, by rw [uI_at, if_pos ⟨rfl, rfl⟩]⟩
    have hq0 : qTown Z (k : Int) = qTown2 Z k := by unfold qTown; rw [if_neg (fun z => z h0), Int.toNat_natCast]
    rw [hq0]
    refine A_loc (l2 := [(0, _), (1, _), (3, _), (4, _)]) ⟨rfl, rfl, rfl, rfl, trivial⟩ ?_
    exact l_X9_town (d := d + 1) hZ hO hB hk0 (l := elV Z k) (s := Z.2.1.2.1 k) rfl 160 0 Z.1 0 _ rfl (by omega) (by omega) A0 hT0 hO.1 ⟨Fr.rf, fun _ _ _ _ => rfl⟩ rfl
  · skip
    refine A_aload_n (pc := 10) dX9_town_10 rfl rfl ?_
    refine A_iload_n (pc := 11) dX9_town_11 rfl rfl ?_
    refine A_callVe (pc := 12) kX9_79 rfl rfl (c_X9_no hZ hO (t := rowT Z s) (by omega) (by omega)) dX9_town_12 rfl rfl (Nat.le_of_ble_eq_true rfl) (Nat.le_of_ble_eq_true rfl) (fun υ hυ => ?_)
    refine A_iret (pc := 15) rfl dX9_town_15 ?_
    exact RQM (by unfold qTown; rw [if_pos (by omega)]; rfl) hυ.1 (hυ.2.mono MC70)
