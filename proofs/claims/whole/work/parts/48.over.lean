/-! PART 48: the class's town read from a text -/
theorem tnF_n {g : Int → Int} {s : Int} {n : Nat} {k : Int} {τ : Tw} {p : Int} (h : (itF g τ p).1.1 = true) (h2 : (itF g τ p).1.2 ≠ s) (h3 : g (itF g τ p).1.2 = 59) : tnF g s (n + 1) k τ p = tnF g s n (k + 1) (itF g τ p).2 ((itF g τ p).1.2 + 1) := by rw [tnF, if_pos h, if_neg h2, if_pos h3]
theorem tnF_y {g : Int → Int} {s : Int} {n : Nat} {k : Int} {τ : Tw} {p : Int} (h : (itF g τ p).1.1 = true) (h2 : (itF g τ p).1.2 = s) : tnF g s (n + 1) k τ p = ((true, k), (itF g τ p).2) := by rw [tnF, if_pos h, if_pos h2]
theorem tnF_s {g : Int → Int} {s : Int} {n : Nat} {k : Int} {τ : Tw} {p : Int} (h : (itF g τ p).1.1 = true) (h2 : (itF g τ p).1.2 ≠ s) (h3 : g (itF g τ p).1.2 ≠ 59) : tnF g s (n + 1) k τ p = ((false, (itF g τ p).1.2), τ) := by rw [tnF, if_pos h, if_neg h2, if_neg h3]
theorem tnF_f {g : Int → Int} {s : Int} {n : Nat} {k : Int} {τ : Tw} {p : Int} (h : (itF g τ p).1.1 = false) : tnF g s (n + 1) k τ p = ((false, (itF g τ p).1.2), τ) := by rw [tnF, if_neg (by rw [h]; decide)]
theorem hO_it {l : Nat → Int} {s p : Int} {τ : Tw} (hO : OkT τ) (p1 : 0 ≤ p) (p2 : p ≤ s) (h : (itF (gS l s) τ p).1.1 = true) : OkT (itF (gS l s) τ p).2 := by
  have a := hR1_bd (l := l) (τ := τ) p1 p2
  have b := yR1_bd (l := l) (τ := τ) p1 p2
  have c := pR_bd (l := l) (τ := τ) p1 p2
  have d := wR_bd (l := l) (τ := τ) p1 p2
  have e := rR1_bd (l := l) p1 p2
  have n3 := nuV_rng (g := gS l s) (r := pR3 (gS l s) τ p)
  unfold itF at h ⊢
  split at h
  · rename_i q
    rw [if_pos q]
    show OkT (if (hR1 (gS l s) τ p).1 = true then _ else τ)
    rw [if_pos (show (hR1 (gS l s) τ p).1 = true from h)]
    exact hO.house (or49 hO.1 (sqB_lt _))
  rename_i q1
  rw [if_neg q1]
  split at h
  · rename_i q
    rw [if_pos q]
    show OkT (if (yR1 (gS l s) τ p).1 = true then _ else τ)
    rw [if_pos (show (yR1 (gS l s) τ p).1 = true from h)]
    exact hO.house (nB_lt hO.1)
  rename_i q2
  rw [if_neg q2]
  split at h
  · rename_i q
    rw [if_pos q]
    show OkT (if (pR6 (gS l s) τ p).1 = true then _ else τ)
    rw [if_pos (show (pR6 (gS l s) τ p).1 = true from h)]
    have z := c.2.2.2.2.2 h
    exact hO.okAddP z.2.1 z.2.2.1 ⟨n3.1, z.2.2.2.1⟩ ⟨z.2.2.2.2.1.1, z.2.2.2.2.1.2.1⟩ z.2.2.2.2.2
  rename_i q3
  rw [if_neg q3]
  split at h
  · rename_i q
    rw [if_pos q]
    show OkT (if (wR4 (gS l s) τ p).1 = true then _ else τ)
    rw [if_pos (show (wR4 (gS l s) τ p).1 = true from h)]
    have z := d.2.2.2 h
    exact hO.okAddW z.2.1 z.2.2.1.1 z.2.2.2
  rename_i q4
  rw [if_neg q4]
  split at h
  · rename_i q
    rw [if_pos q]
    show OkT (if (rR1 (gS l s) p).1 = true then _ else τ)
    rw [if_pos (show (rR1 (gS l s) p).1 = true from h)]
    have z := e.2.2 h
    exact hO.okReach z.2.1 z.2.2
  · exact absurd h Bool.false_ne_true
/-- how a text's reading ends, in the class -/
def EnX (l : Nat → Int) (s : Int) (r : (Bool × Int) × Tw) (σ : Sg) : Prop := if r.1.1 = true then σ.1 3 1 = -1 ∧ RX 30 r.2 σ ∧ OkT r.2 else σ.1 3 1 = r.1.2
def enV (r : (Bool × Int) × Tw) : Int := if r.1.1 = true then r.1.2 else -1
theorem sep_59 {g : Int → Int} {p : Int} {l : Nat → Int} {s : Int} (hg : g = gS l s) (h : g p = 59) : p < s := by
  subst hg
  exact (gS_in (l := l) (s := s) (p := p) (by rw [h]; decide)).2
theorem dX2_readOver_0 : decode cX2_readOver 0 = .ok (.aload_n 0, 1) := by decide +kernel
theorem dX2_readOver_1 : decode cX2_readOver 1 = .ok (.getfield 12, 3) := by decide +kernel
theorem dX2_readOver_4 : decode cX2_readOver 4 = .ok (.aload_n 1, 1) := by decide +kernel
theorem dX2_readOver_5 : decode cX2_readOver 5 = .ok (.invokevirtual 35, 3) := by decide +kernel
theorem dX2_readOver_8 : decode cX2_readOver 8 = .ok (.aload_n 0, 1) := by decide +kernel
theorem dX2_readOver_9 : decode cX2_readOver 9 = .ok (.aload_n 2, 1) := by decide +kernel
theorem dX2_readOver_10 : decode cX2_readOver 10 = .ok (.getfield 39, 3) := by decide +kernel
theorem dX2_readOver_13 : decode cX2_readOver 13 = .ok (.sipush 160, 3) := by decide +kernel
theorem dX2_readOver_16 : decode cX2_readOver 16 = .ok (.invokestatic 42, 3) := by decide +kernel
theorem dX2_readOver_19 : decode cX2_readOver 19 = .ok (.putfield 26, 3) := by decide +kernel
theorem dX2_readOver_22 : decode cX2_readOver 22 = .ok (.iconst 0, 1) := by decide +kernel
theorem dX2_readOver_23 : decode cX2_readOver 23 = .ok (.istore_n 3, 1) := by decide +kernel
theorem dX2_readOver_24 : decode cX2_readOver 24 = .ok (.iload_n 3, 1) := by decide +kernel
theorem dX2_readOver_25 : decode cX2_readOver 25 = .ok (.aload_n 0, 1) := by decide +kernel
theorem dX2_readOver_26 : decode cX2_readOver 26 = .ok (.getfield 26, 3) := by decide +kernel
theorem dX2_readOver_29 : decode cX2_readOver 29 = .ok (.if_icmp .ge 20, 3) := by decide +kernel
theorem dX2_readOver_32 : decode cX2_readOver 32 = .ok (.aload_n 0, 1) := by decide +kernel
theorem dX2_readOver_33 : decode cX2_readOver 33 = .ok (.getfield 22, 3) := by decide +kernel
theorem dX2_readOver_36 : decode cX2_readOver 36 = .ok (.iload_n 3, 1) := by decide +kernel
theorem dX2_readOver_37 : decode cX2_readOver 37 = .ok (.aload_n 2, 1) := by decide +kernel
theorem dX2_readOver_38 : decode cX2_readOver 38 = .ok (.iload_n 3, 1) := by decide +kernel
theorem dX2_readOver_39 : decode cX2_readOver 39 = .ok (.invokevirtual 48, 3) := by decide +kernel
theorem dX2_readOver_42 : decode cX2_readOver 42 = .ok (.iastore, 1) := by decide +kernel
theorem dX2_readOver_43 : decode cX2_readOver 43 = .ok (.iinc 3 1, 3) := by decide +kernel
theorem dX2_readOver_46 : decode cX2_readOver 46 = .ok (.goto (-22), 3) := by decide +kernel
theorem dX2_readOver_49 : decode cX2_readOver 49 = .ok (.aload_n 0, 1) := by decide +kernel
theorem dX2_readOver_50 : decode cX2_readOver 50 = .ok (.iconst 0, 1) := by decide +kernel
theorem dX2_readOver_51 : decode cX2_readOver 51 = .ok (.putfield 29, 3) := by decide +kernel
theorem dX2_readOver_54 : decode cX2_readOver 54 = .ok (.aload_n 0, 1) := by decide +kernel
theorem dX2_readOver_55 : decode cX2_readOver 55 = .ok (.iconst (-1), 1) := by decide +kernel
theorem dX2_readOver_56 : decode cX2_readOver 56 = .ok (.putfield 18, 3) := by decide +kernel
theorem dX2_readOver_59 : decode cX2_readOver 59 = .ok (.iconst 1, 1) := by decide +kernel
theorem dX2_readOver_60 : decode cX2_readOver 60 = .ok (.istore_n 3, 1) := by decide +kernel
theorem dX2_readOver_61 : decode cX2_readOver 61 = .ok (.iload_n 3, 1) := by decide +kernel
theorem dX2_readOver_62 : decode cX2_readOver 62 = .ok (.sipush 160, 3) := by decide +kernel
theorem dX2_readOver_65 : decode cX2_readOver 65 = .ok (.if_icmp .gt 50, 3) := by decide +kernel
theorem dX2_readOver_68 : decode cX2_readOver 68 = .ok (.aload_n 0, 1) := by decide +kernel
theorem dX2_readOver_69 : decode cX2_readOver 69 = .ok (.invokevirtual 52, 3) := by decide +kernel
theorem dX2_readOver_72 : decode cX2_readOver 72 = .ok (.aload_n 0, 1) := by decide +kernel
theorem dX2_readOver_73 : decode cX2_readOver 73 = .ok (.getfield 18, 3) := by decide +kernel
theorem dX2_readOver_76 : decode cX2_readOver 76 = .ok (.iconst (-1), 1) := by decide +kernel
theorem dX2_readOver_77 : decode cX2_readOver 77 = .ok (.if_icmp .ne 16, 3) := by decide +kernel
theorem dX2_readOver_80 : decode cX2_readOver 80 = .ok (.aload_n 0, 1) := by decide +kernel
theorem dX2_readOver_81 : decode cX2_readOver 81 = .ok (.getfield 29, 3) := by decide +kernel
theorem dX2_readOver_84 : decode cX2_readOver 84 = .ok (.aload_n 0, 1) := by decide +kernel
theorem dX2_readOver_85 : decode cX2_readOver 85 = .ok (.getfield 26, 3) := by decide +kernel
theorem dX2_readOver_88 : decode cX2_readOver 88 = .ok (.if_icmp .ne 5, 3) := by decide +kernel
theorem dX2_readOver_91 : decode cX2_readOver 91 = .ok (.iload_n 3, 1) := by decide +kernel
theorem dX2_readOver_92 : decode cX2_readOver 92 = .ok (.ireturn, 1) := by decide +kernel
theorem dX2_readOver_93 : decode cX2_readOver 93 = .ok (.aload_n 0, 1) := by decide +kernel
theorem dX2_readOver_94 : decode cX2_readOver 94 = .ok (.bipush 59, 2) := by decide +kernel
theorem dX2_readOver_96 : decode cX2_readOver 96 = .ok (.invokevirtual 55, 3) := by decide +kernel
theorem dX2_readOver_99 : decode cX2_readOver 99 = .ok (.aload_n 0, 1) := by decide +kernel
theorem dX2_readOver_100 : decode cX2_readOver 100 = .ok (.getfield 18, 3) := by decide +kernel
theorem dX2_readOver_103 : decode cX2_readOver 103 = .ok (.iconst (-1), 1) := by decide +kernel
theorem dX2_readOver_104 : decode cX2_readOver 104 = .ok (.if_icmp .eq 5, 3) := by decide +kernel
theorem dX2_readOver_107 : decode cX2_readOver 107 = .ok (.iconst (-1), 1) := by decide +kernel
theorem dX2_readOver_108 : decode cX2_readOver 108 = .ok (.ireturn, 1) := by decide +kernel
theorem dX2_readOver_109 : decode cX2_readOver 109 = .ok (.iinc 3 1, 3) := by decide +kernel
theorem dX2_readOver_112 : decode cX2_readOver 112 = .ok (.goto (-51), 3) := by decide +kernel
theorem dX2_readOver_115 : decode cX2_readOver 115 = .ok (.iconst (-1), 1) := by decide +kernel
theorem dX2_readOver_116 : decode cX2_readOver 116 = .ok (.ireturn, 1) := by decide +kernel
set_option maxRecDepth 20000 in
theorem l2_X2_readOver {G : Gl} {d : Nat} {σ0 : Sg} {K : Option Value → Sg → Prop} {l : Nat → Int} {s : Int} {c1 c2 : Nat} {r0 : (Bool × Int) × Tw} : ∀ (n : Nat) (k : Int) (τ : Tw) (p : Int) (σ : Sg), k + n = 161 → 1 ≤ k → 2 * (k - 1) ≤ p → OkX l s p σ → RX 30 τ σ → OkT τ → Fr SRd σ0 σ → tnF (gS l s) s n k τ p = r0 → (∀ υ, EnX l s r0 υ → Fr SRd σ0 υ → K (some (.int (iI (enV r0)))) υ) → AW G (d + 7) RX2 cX2_readOver 4 (some .int) 61 [(0, .ref (gA G 3)), (1, .ref (gA G c1)), (2, .ref (gA G c2)), (3, .int (iI k))] [] σ K := by
  intro n
  induction n using Nat.strongRecOn
  rename_i n ih
  intro k τ p σ hn k1 hp h hR hO hF hr hK
  have p1 := h.2.1.1
  have p2 := h.2.1.2
  have s2 := h.1.2.2.1
  have bd := itF_bd (l := l) (τ := τ) p1 p2
  refine A_iload_n (pc := 61) dX2_readOver_61 rfl rfl ?_
  refine A_sipush (pc := 62) dX2_readOver_62 (by decide) ?_
  refine A_icmp_gt (pc := 65) 115 dX2_readOver_65 (by decide) (by omega) (by omega) (by omega) (by omega) (fun h65 => ?_) (fun h65 => ?_)
  · skip
    refine A_iconst (pc := 115) dX2_readOver_115 ?_
    refine A_iret (pc := 116) rfl dX2_readOver_116 ?_
    exfalso; omega
  · skip
    have k2 : k ≤ 160 := by omega
    obtain ⟨u, rfl⟩ : ∃ u, n = u + 1 := ⟨n - 1, by omega⟩
    refine A_aload_n (pc := 68) dX2_readOver_68 rfl rfl ?_
    refine A_callVe0 (pc := 69) kX2_52 rfl rfl (c_X2_readItem h hR hO) dX2_readOver_69 rfl rfl (Nat.le_of_ble_eq_true rfl) (Nat.le_of_ble_eq_true rfl) (fun υ hυ => ?_)
    have A1 : RdX l s (itF (gS l s) τ p).1 υ := hυ.1
    have fa := fltV_rng A1
    have F1 : Fr SRd σ0 υ := hF.tr hυ.2.2
    refine A_aload_n (pc := 72) dX2_readOver_72 rfl rfl ?_
    refine A_getIv (pc := 73) fX2_18 rfl rfl A1.flt dX2_readOver_73 ?_
    refine A_iconst (pc := 76) dX2_readOver_76 ?_
    refine A_icmp_ne (pc := 77) 93 dX2_readOver_77 (by decide) (by omega) (by omega) (by omega) (by omega) (fun h77 => ?_) (fun h77 => ?_)
    · skip
      refine A_aload_n (pc := 93) dX2_readOver_93 rfl rfl ?_
      refine A_bipush (pc := 94) dX2_readOver_94 (by decide) ?_
      refine A_callVe0 (pc := 96) kX2_55 rfl rfl (c_X2_expect A1 (c := 59) (by omega) (by omega) (by decide)) dX2_readOver_96 rfl rfl (Nat.le_of_ble_eq_true rfl) (Nat.le_of_ble_eq_true rfl) (fun ω hω => ?_)
      have A2 : RdX l s (thn (itF (gS l s) τ p).1 (isF (gS l s) 59)) ω := hω.1
      have fb := fltV_rng A2
      have F2 : Fr SRd σ0 ω := F1.tr (hω.2.mono S3R)
      refine A_aload_n (pc := 99) dX2_readOver_99 rfl rfl ?_
      refine A_getIv (pc := 100) fX2_18 rfl rfl A2.flt dX2_readOver_100 ?_
      refine A_iconst (pc := 103) dX2_readOver_103 ?_
      refine A_icmp_eq (pc := 104) 109 dX2_readOver_104 (by decide) (by omega) (by omega) (by omega) (by omega) (fun h104 => ?_) (fun h104 => ?_)
      · skip
        refine A_iinc (pc := 109) dX2_readOver_109 rfl (Nat.le_of_ble_eq_true rfl) ?_
        refine A_goto (pc := 112) 61 dX2_readOver_112 (by decide) ?_
        have q := fltV_ok A2 h104
        have q1 : False := by
          have z := fltV_bad h77
          have e : thn (itF (gS l s) τ p).1 (isF (gS l s) 59) = (itF (gS l s) τ p).1 := by unfold thn; rw [if_neg (by rw [z]; decide)]
          rw [e, z] at q
          exact absurd q Bool.false_ne_true
        exact q1.elim
      · skip
        refine A_iconst (pc := 107) dX2_readOver_107 ?_
        refine A_iret (pc := 108) rfl dX2_readOver_108 ?_
        have z := fltV_bad h77
        have e : thn (itF (gS l s) τ p).1 (isF (gS l s) 59) = (itF (gS l s) τ p).1 := by unfold thn; rw [if_neg (by rw [z]; decide)]
        rw [e] at A2
        rw [tnF_f z] at hr
        subst hr
        exact hK ω (by unfold EnX; rw [if_neg Bool.false_ne_true]; exact (A2.2.2.2 z).1) F2
    · skip
      refine A_aload_n (pc := 80) dX2_readOver_80 rfl rfl ?_
      refine A_getIv (pc := 81) fX2_29 rfl rfl ((A1.okx (fltV_ok A1 h77)).2.2.2) dX2_readOver_81 ?_
      refine A_aload_n (pc := 84) dX2_readOver_84 rfl rfl ?_
      refine A_getIv (pc := 85) fX2_26 rfl rfl A1.1.1 dX2_readOver_85 ?_
      refine A_icmp_ne (pc := 88) 93 dX2_readOver_88 (by decide) (by omega) (by omega) (by omega) (by omega) (fun h88 => ?_) (fun h88 => ?_)
      · skip
        refine A_aload_n (pc := 93) dX2_readOver_93 rfl rfl ?_
        refine A_bipush (pc := 94) dX2_readOver_94 (by decide) ?_
        refine A_callVe0 (pc := 96) kX2_55 rfl rfl (c_X2_expect A1 (c := 59) (by omega) (by omega) (by decide)) dX2_readOver_96 rfl rfl (Nat.le_of_ble_eq_true rfl) (Nat.le_of_ble_eq_true rfl) (fun ω hω => ?_)
        have A2 : RdX l s (thn (itF (gS l s) τ p).1 (isF (gS l s) 59)) ω := hω.1
        have fb := fltV_rng A2
        have F2 : Fr SRd σ0 ω := F1.tr (hω.2.mono S3R)
        refine A_aload_n (pc := 99) dX2_readOver_99 rfl rfl ?_
        refine A_getIv (pc := 100) fX2_18 rfl rfl A2.flt dX2_readOver_100 ?_
        refine A_iconst (pc := 103) dX2_readOver_103 ?_
        refine A_icmp_eq (pc := 104) 109 dX2_readOver_104 (by decide) (by omega) (by omega) (by omega) (by omega) (fun h104 => ?_) (fun h104 => ?_)
        · skip
          refine A_iinc (pc := 109) dX2_readOver_109 rfl (Nat.le_of_ble_eq_true rfl) ?_
          refine A_goto (pc := 112) 61 dX2_readOver_112 (by decide) ?_
          have q := fltV_ok A2 h104
          have q0 := fltV_ok A1 h77
          have e : thn (itF (gS l s) τ p).1 (isF (gS l s) 59) = isF (gS l s) 59 (itF (gS l s) τ p).1.2 := by unfold thn; rw [if_pos q0]
          have h59 : (gS l s) (itF (gS l s) τ p).1.2 = 59 := by
            rw [e] at q
            unfold isF at q
            by_cases z : (gS l s) (itF (gS l s) τ p).1.2 = 59
            · exact z
            · rw [if_neg z] at q; exact absurd q Bool.false_ne_true
          have e2 : thn (itF (gS l s) τ p).1 (isF (gS l s) 59) = (true, (itF (gS l s) τ p).1.2 + 1) := by rw [e]; unfold isF; rw [if_pos h59]
          rw [e2] at A2
          have lt := sep_59 rfl h59
          have bd3 := bd.2.2 q0
          refine A_loc (l2 := [(0, _), (1, _), (2, _), (3, _)]) ⟨rfl, rfl, rfl, rfl, trivial⟩ ?_
          refine ih u (by omega) (k + 1) (itF (gS l s) τ p).2 ((itF (gS l s) τ p).1.2 + 1) ω (by omega) (by omega) (by omega) (A2.okx rfl) (hυ.2.1.fr hω.2 S3T) (hO_it hO p1 p2 q0) F2 ?_ hK
          rw [tnF_n q0 (by omega) h59] at hr
          exact hr
        · skip
          refine A_iconst (pc := 107) dX2_readOver_107 ?_
          refine A_iret (pc := 108) rfl dX2_readOver_108 ?_
          have q0 := fltV_ok A1 h77
          have z := fltV_bad h104
          have e : thn (itF (gS l s) τ p).1 (isF (gS l s) 59) = isF (gS l s) 59 (itF (gS l s) τ p).1.2 := by unfold thn; rw [if_pos q0]
          rw [e] at A2 z
          have h59 : ¬ (gS l s) (itF (gS l s) τ p).1.2 = 59 := fun y => by unfold isF at z; rw [if_pos y] at z; exact absurd z.symm Bool.false_ne_true
          have e2 : isF (gS l s) 59 (itF (gS l s) τ p).1.2 = (false, (itF (gS l s) τ p).1.2) := by unfold isF; rw [if_neg h59]
          rw [e2] at A2
          rw [tnF_s q0 h88 h59] at hr
          subst hr
          exact hK ω (by unfold EnX; rw [if_neg Bool.false_ne_true]; exact (A2.2.2.2 rfl).1) F2
      · skip
        have q := fltV_ok A1 h77
        refine A_iload_n (pc := 91) dX2_readOver_91 rfl rfl ?_
        refine A_iret (pc := 92) rfl dX2_readOver_92 ?_
        rw [tnF_y q h88] at hr
        subst hr
        exact hK υ (by unfold EnX; rw [if_pos rfl]; exact ⟨(A1.2.2.1 q).1, hυ.2.1, hO_it hO p1 p2 q⟩) F1
/-- the letters so far -/
def LtI (Z : Zt) (k : Nat) (i : Nat) (σ0 σ : Sg) : Prop := Fr (fun a => a = 3 ∨ a = 4 ∨ TS 30 a) σ0 σ ∧ RX 30 Z.1 σ ∧ RS (38 + 2 * k) (Z.2.1.1 k) (Z.2.1.2.1 k) (Z.2.1.2.2 k) σ ∧ σ.1 3 3 = Z.2.1.2.1 k ∧ ∀ j : Nat, j < i → σ.1 4 j = elV Z k j
theorem LtI.stp {Z : Zt} {k i : Nat} {σ0 σ : Sg} (k8 : k < 8) (h : LtI Z k i σ0 σ) : LtI Z k (i + 1) σ0 (uI σ 4 i (elV Z k i)) := by
  obtain ⟨h1, h2, h3, h4, h5⟩ := h
  refine ⟨h1.uI (Or.inr (Or.inl rfl)), h2.fr (S := fun a => a = 4) (Fr.rf.uI rfl) (fun a z => by have z2 : a = 4 := z; omega), h3.fr (S := fun a => a = 4) (Fr.rf.uI rfl) (fun z => by have z2 : 38 + 2 * k = 4 := z; omega) (fun z => by have z2 : 38 + 2 * k + 1 = 4 := z; omega), by rw [uI_at, if_neg (by omega)]; exact h4, fun j hj => ?_⟩
  rw [uI_at]
  by_cases e : j = i
  · rw [if_pos ⟨rfl, e⟩, e]
  · rw [if_neg (fun z => e z.2)]; exact h5 j (by omega)
set_option maxRecDepth 20000 in
theorem l1_X2_readOver {G : Gl} {d : Nat} {σ0 : Sg} {K : Option Value → Sg → Prop} {c1 : Nat} {Z : Zt} {k : Nat} (k8 : k < 8) (ko : OkH (Z.2.1.1 k) (Z.2.1.2.1 k)) (hr : 100 ≤ Z.2.1.1 k) : ∀ (n i : Nat) (σ : Sg), (i : Int) + n = Z.2.1.2.1 k → LtI Z k i σ0 σ → (∀ υ, LtI Z k (Z.2.1.2.1 k).toNat σ0 υ → AW G (d + 7) RX2 cX2_readOver 4 (some .int) 49 [(0, .ref (gA G 3)), (1, .ref (gA G c1)), (2, .ref (gA G (38 + 2 * k)))] [] υ K) → AW G (d + 7) RX2 cX2_readOver 4 (some .int) 24 [(0, .ref (gA G 3)), (1, .ref (gA G c1)), (2, .ref (gA G (38 + 2 * k))), (3, .int (iI (i : Int)))] [] σ K := by
  intro n
  induction n using Nat.strongRecOn
  rename_i n ih
  intro i σ hn hI hK
  have s3 := hI.2.2.2.1
  obtain ⟨b1, b2, b3, b4⟩ := id ko
  refine A_iload_n (pc := 24) dX2_readOver_24 rfl rfl ?_
  refine A_aload_n (pc := 25) dX2_readOver_25 rfl rfl ?_
  refine A_getIv (pc := 26) fX2_26 rfl rfl s3 dX2_readOver_26 ?_
  refine A_icmp_ge (pc := 29) 49 dX2_readOver_29 (by decide) (by omega) (by omega) (by omega) (by omega) (fun h29 => ?_) (fun h29 => ?_)
  · skip
    have hn0 : n = 0 := by omega
    subst hn0
    refine A_loc (l2 := [(0, _), (1, _), (2, _)]) ⟨rfl, rfl, rfl, trivial⟩ ?_
    exact hK σ (by rw [show (Z.2.1.2.1 k).toNat = i by omega]; exact hI)
  · skip
    refine A_aload_n (pc := 32) dX2_readOver_32 rfl rfl ?_
    refine A_getR (pc := 33) fX2_22 rfl rfl dX2_readOver_33 ?_
    refine A_iload_n (pc := 36) dX2_readOver_36 rfl rfl ?_
    refine A_aload_n (pc := 37) dX2_readOver_37 rfl rfl ?_
    refine A_iload_n (pc := 38) dX2_readOver_38 rfl rfl ?_
    refine A_callV1 (pc := 39) kX2_48 (shp_S (SCk k8)) rfl (c_X3_intAt (SCk k8) hI.2.2.1 ko (by omega) (by omega)) dX2_readOver_39 rfl rfl (Nat.le_of_ble_eq_true rfl) (Nat.le_of_ble_eq_true rfl) ?_
    rw [elI_k (by omega)]
    refine A_iast (pc := 42) i rfl rfl (by omega) (Nat.le_of_ble_eq_true rfl) dX2_readOver_42 ?_
    refine A_iinc (pc := 43) dX2_readOver_43 rfl (Nat.le_of_ble_eq_true rfl) ?_
    refine A_goto (pc := 46) 24 dX2_readOver_46 (by decide) ?_
    obtain ⟨u, rfl⟩ : ∃ u, n = u + 1 := ⟨n - 1, by omega⟩
    refine A_loc (l2 := [(0, _), (1, _), (2, _), (3, _)]) ⟨rfl, rfl, rfl, rfl, trivial⟩ ?_
    exact ih u (by omega) (i + 1) _ (by omega) (hI.stp k8) hK
set_option maxRecDepth 20000 in
theorem c_X2_readOver {G : Gl} {d : Nat} {σ : Sg} {Z : Zt} {k : Nat} (k8 : k < 8) (ko : OkH (Z.2.1.1 k) (Z.2.1.2.1 k)) (hr : 100 ≤ Z.2.1.1 k) (hZ : RelX Z σ) (hO : OkZ Z) : CT G (d + 7) yX2_readOver cX2_readOver 4 (some .int) [.ref (gA G 3), .ref (gA G 14), .ref (gA G (38 + 2 * k))] σ (RE (some (.int (iI (enV (tnF (gS (elV Z k) (Z.2.1.2.1 k)) (Z.2.1.2.1 k) 160 1 Z.1 0))))) (fun υ => EnX (elV Z k) (Z.2.1.2.1 k) (tnF (gS (elV Z k) (Z.2.1.2.1 k)) (Z.2.1.2.1 k) 160 1 Z.1 0) υ ∧ Fr (fun a => a = 3 ∨ a = 4 ∨ TS 30 a) σ υ)) := by
  refine CT.of (by decide +kernel) (Nat.le_of_ble_eq_true rfl) ?_
  change AW G _ RX2 _ _ _ 0 [(0, .ref (gA G 3)), (1, .ref (gA G 14)), (2, .ref (gA G (38 + 2 * k)))] [] _ _
  obtain ⟨b1, b2, b3, b4⟩ := id ko
  have ks := hZ.2.1 k k8
  refine A_aload_n (pc := 0) dX2_readOver_0 rfl rfl ?_
  refine A_getR (pc := 1) fX2_12 rfl rfl dX2_readOver_1 ?_
  refine A_aload_n (pc := 4) dX2_readOver_4 rfl rfl ?_
  refine A_callVe0 (pc := 5) kX2_35 rfl rfl (c_X5_become TC30 TC14 (by decide) hZ.1 hO.1) dX2_readOver_5 rfl rfl (Nat.le_of_ble_eq_true rfl) (Nat.le_of_ble_eq_true rfl) (fun υ hυ => ?_)
  have ks2 : RS (38 + 2 * k) (Z.2.1.1 k) (Z.2.1.2.1 k) (Z.2.1.2.2 k) υ := ks.fr hυ.2 (fun z => by unfold TS at z; omega) (fun z => by unfold TS at z; omega)
  refine A_aload_n (pc := 8) dX2_readOver_8 rfl rfl ?_
  refine A_aload_n (pc := 9) dX2_readOver_9 rfl rfl ?_
  refine A_getIv (pc := 10) fX2_39 (shp_S (SCk k8)) rfl ks2.2.1 dX2_readOver_10 ?_
  refine A_sipush (pc := 13) dX2_readOver_13 (by decide) ?_
  refine A_mmin (pc := 16) kX2_42 (by omega) (by omega) (by omega) (by omega) dX2_readOver_16 (Nat.le_of_ble_eq_true rfl) ?_
  rw [Int.min_eq_left (by omega)]
  refine A_putI (pc := 19) fX2_26 wr_1_3 rfl rfl dX2_readOver_19 ?_
  refine A_iconst (pc := 22) dX2_readOver_22 ?_
  refine A_istore_n (pc := 23) dX2_readOver_23 rfl (Nat.le_of_ble_eq_true rfl) ?_
  refine A_loc (l2 := [(0, _), (1, _), (2, _), (3, _)]) ⟨rfl, rfl, rfl, rfl, trivial⟩ ?_
  refine l1_X2_readOver (σ0 := σ) k8 ko hr (Z.2.1.2.1 k).toNat 0 _ (by omega) ⟨(hυ.2.mono (fun a z => Or.inr (Or.inr z))).uI (Or.inl rfl), hυ.1.fr (S := S3) (Fr.rf.uI rfl) S3T, ks2.fr (S := S3) (Fr.rf.uI rfl) (fun z => by have z2 : 38 + 2 * k = 3 := z; omega) (fun z => by have z2 : 38 + 2 * k + 1 = 3 := z; omega), by rw [uI_at, if_pos ⟨rfl, rfl⟩], fun j hj => absurd hj (Nat.not_lt_zero _)⟩ (fun ω hω => ?_)
  refine A_aload_n (pc := 49) dX2_readOver_49 rfl rfl ?_
  refine A_iconst (pc := 50) dX2_readOver_50 ?_
  refine A_putI (pc := 51) fX2_29 wr_1_4 rfl rfl dX2_readOver_51 ?_
  refine A_aload_n (pc := 54) dX2_readOver_54 rfl rfl ?_
  refine A_iconst (pc := 55) dX2_readOver_55 ?_
  refine A_putI (pc := 56) fX2_18 wr_1_1 rfl rfl dX2_readOver_56 ?_
  refine A_iconst (pc := 59) dX2_readOver_59 ?_
  refine A_istore_n (pc := 60) dX2_readOver_60 rfl (Nat.le_of_ble_eq_true rfl) ?_
  refine A_loc (l2 := [(0, _), (1, _), (2, _), (3, _)]) ⟨rfl, rfl, rfl, rfl, trivial⟩ ?_
  have T0 : TxX (elV Z k) (Z.2.1.2.1 k) ω := ⟨hω.2.2.2.1, fun j hj => hω.2.2.2.2 j (by omega), by omega, fun j => elV_rng Z k j⟩
  have O0 : OkX (elV Z k) (Z.2.1.2.1 k) 0 (uI (uI ω 3 4 0) 3 1 (-1)) := ⟨(T0.u (by decide)).u (by decide), by omega, by rw [uI_at, if_pos ⟨rfl, rfl⟩], by rw [uI_at, if_neg (by omega), uI_at, if_pos ⟨rfl, rfl⟩]⟩
  refine l2_X2_readOver (σ0 := uI (uI ω 3 4 0) 3 1 (-1)) 160 1 Z.1 0 _ rfl (by omega) (by omega) O0 (hω.2.1.fr (S := S3) ((Fr.rf.uI (show S3 3 from rfl)).uI (show S3 3 from rfl)) S3T) hO.1 Fr.rf rfl (fun χ g1 g2 => ⟨rfl, g1, ((hω.1.uI (Or.inl rfl)).uI (Or.inl rfl)).tr (g2.mono (fun a z => z.elim Or.inl (fun y => Or.inr (Or.inr y))))⟩)
