/-! PART 23: where, ask, fresh, housed; both -/
def cntR (f : Nat → Bool) : Nat → Nat → Int
  | 0, _ => 0
  | n + 1, i => (if f i = true then 1 else 0) + cntR f n (i + 1)
def fstR (f : Nat → Bool) : Nat → Nat → Int
  | 0, _ => -1
  | n + 1, i => if f i = true then (i : Int) else fstR f n (i + 1)
theorem cntR_y {f : Nat → Bool} {n i : Nat} (h : f i = true) : cntR f (n + 1) i = 1 + cntR f n (i + 1) := by rw [cntR, if_pos h]
theorem cntR_n {f : Nat → Bool} {n i : Nat} (h : f i = false) : cntR f (n + 1) i = cntR f n (i + 1) := by rw [cntR, h, if_neg Bool.false_ne_true, Int.zero_add]
theorem fstR_y {f : Nat → Bool} {n i : Nat} (h : f i = true) : fstR f (n + 1) i = (i : Int) := by rw [fstR, if_pos h]
theorem fstR_n {f : Nat → Bool} {n i : Nat} (h : f i = false) : fstR f (n + 1) i = fstR f n (i + 1) := by rw [fstR, h, if_neg Bool.false_ne_true]
theorem cntR_rng (f : Nat → Bool) : ∀ n i, 0 ≤ cntR f n i ∧ cntR f n i ≤ n
  | 0, _ => ⟨Int.le_refl _, Int.le_refl _⟩
  | n + 1, i => by
    have h := cntR_rng f n (i + 1)
    rw [cntR]
    split <;> omega
theorem fstR_rng (f : Nat → Bool) : ∀ n i, -1 ≤ fstR f n i ∧ fstR f n i < i + n ∨ fstR f n i = -1
  | 0, _ => Or.inr rfl
  | n + 1, i => by
    have h := fstR_rng f n (i + 1)
    rw [fstR]
    split <;> omega
def wheF (τ : Tw) (m : Int) (i : Nat) : Bool := decide (¬ sT τ.1 (i : Int) ∧ ((seen τ τ.1 (i : Int) : Nat) : Int) = m)
def qWhere (Z : Zt) (m w : Int) : Int × Zt := if ¬ (0 ≤ w ∧ w ≤ 1) then refA Z (-5) else if ¬ (0 ≤ m ∧ m ≤ ((2 ^ (Z.1.2.1 0).toNat : Nat) : Int) - 1) then refA Z (-6) else (if w = 0 then cntR (wheF Z.1 m) 49 0 else fstR (wheF Z.1 m) 49 0, Z)
/-- the best parting -/
def askC (Z : Zt) (k p : Nat) (i : Nat) : Int := if sT (see0 Z.1 Z.1.1 p) (elV Z k i) then 1 else 0
def askF (Z : Zt) (k p : Nat) : Int := max (sumR (askC Z k p) (Z.2.1.2.1 k).toNat 0) (Z.2.1.2.1 k - sumR (askC Z k p) (Z.2.1.2.1 k).toNat 0)
theorem askS_rng (Z : Zt) (k p : Nat) : ∀ n i, 0 ≤ sumR (askC Z k p) n i ∧ sumR (askC Z k p) n i ≤ n
  | 0, _ => ⟨Int.le_refl _, Int.le_refl _⟩
  | n + 1, i => by
    have h := askS_rng Z k p n (i + 1)
    rw [sumR, askC]
    split <;> omega
def askG (f : Nat → Int) : Nat → Nat → Int → Int → Int
  | 0, _, b, _ => b
  | n + 1, i, b, w => if b = -1 ∨ f i < w then askG f n (i + 1) i (f i) else askG f n (i + 1) b w
theorem askG_y {f : Nat → Int} {n i : Nat} {b c : Int} (h : b = -1 ∨ f i < c) : askG f (n + 1) i b c = askG f n (i + 1) i (f i) := by rw [askG, if_pos h]
theorem askG_n {f : Nat → Int} {n i : Nat} {b c : Int} (h : ¬ (b = -1 ∨ f i < c)) : askG f (n + 1) i b c = askG f n (i + 1) b c := by rw [askG, if_neg h]
theorem askG_w {f : Nat → Int} {n i : Nat} {c e : Int} : askG f n i (-1) c = askG f n i (-1) e := by
  cases n with
  | zero => rfl
  | succ n => rw [askG_y (Or.inl rfl), askG_y (Or.inl rfl)]
def qAsk (Z : Zt) (s : Int) : Int × Zt := if squT Z s ≠ 0 then refA Z (squT Z s) else if Z.2.1.2.1 s.toNat < 2 then (-1, Z) else (askG (askF Z s.toNat) (Z.1.2.1 0).toNat 0 (-1) (-1), Z)
/-- a fresh pane's place -/
def frW (τ : Tw) (s : Int) (c : Nat) : Nat → Nat → Int
  | 0, _ => -1
  | n + 1, w => if sT τ.1 (c : Int) ∧ sT (lineX τ.1 (c : Int) (w : Int) (τ.2.1 2)) s then 10 * (c : Int) + w else frW τ s c n (w + 1)
def frG (τ : Tw) (s : Int) : Nat → Nat → Int
  | 0, _ => -1
  | n + 1, c => if frW τ s c 4 0 = -1 then frG τ s n (c + 1) else frW τ s c 4 0
theorem frW_no {τ : Tw} {s : Int} {c : Nat} (h : ¬ sT τ.1 (c : Int)) : ∀ n w, frW τ s c n w = -1
  | 0, _ => rfl
  | n + 1, w => by rw [frW, if_neg (fun q => h q.1), frW_no h]
def qFresh (Z : Zt) (s : Int) : Int × Zt := if ¬ (inS s ∧ ¬ sT Z.1.1 s) then refA Z (-6) else (frG Z.1 s 49 0, Z)
/-- where a house leaves the fewest seen -/
def houG (f : Nat → Bool) (g : Nat → Int) : Nat → Nat → Int → Int → Int × Int
  | 0, _, b, c => (b, c)
  | n + 1, i, b, c => if f i = true ∧ (b = -1 ∨ g i < c) then houG f g n (i + 1) i (g i) else houG f g n (i + 1) b c
theorem houG_y {f : Nat → Bool} {g : Nat → Int} {n i : Nat} {b c : Int} (h1 : f i = true) (h : b = -1 ∨ g i < c) : houG f g (n + 1) i b c = houG f g n (i + 1) i (g i) := by rw [houG, if_pos ⟨h1, h⟩]
theorem houG_n {f : Nat → Bool} {g : Nat → Int} {n i : Nat} {b c : Int} (h : ¬ (b = -1 ∨ g i < c)) : houG f g (n + 1) i b c = houG f g n (i + 1) b c := by rw [houG, if_neg (fun q => h q.2)]
theorem houG_f {f : Nat → Bool} {g : Nat → Int} {n i : Nat} {b c : Int} (h : f i = false) : houG f g (n + 1) i b c = houG f g n (i + 1) b c := by rw [houG, h, if_neg (fun q => Bool.false_ne_true q.1)]
theorem houG_w {f : Nat → Bool} {g : Nat → Int} : ∀ {n i : Nat} {c e : Int}, (houG f g n i (-1) c).1 = (houG f g n i (-1) e).1 ∧ ((houG f g n i (-1) c).1 ≠ -1 → (houG f g n i (-1) c).2 = (houG f g n i (-1) e).2)
  | 0, _, _, _ => ⟨rfl, fun q => absurd rfl q⟩
  | n + 1, i, c, e => by
    cases h : f i with
    | true => rw [houG_y h (Or.inl rfl), houG_y h (Or.inl rfl)]; exact ⟨rfl, fun _ => rfl⟩
    | false => rw [houG_f h, houG_f h]; exact houG_w
def houF (τ : Tw) (i : Nat) : Bool := decide (¬ sT τ.1 (i : Int) ∧ ¬ wAt τ (i : Int) = true)
def houC (τ : Tw) (i : Nat) : Int := bc32 (wIn τ (allB τ (τ.1 ||| sqB (i : Int))) : Nat)
theorem houC_rng (τ : Tw) (i : Nat) : 0 ≤ houC τ i ∧ houC τ i < 64 := bc32_rng _
theorem bc5 : ∀ n, n < 32 → bc32 (n : Nat) ≤ 5 := by decide +kernel
theorem houC_5 {τ : Tw} (h : OkT τ) (i : Nat) : houC τ i ≤ 5 := bc5 _ (wIn_lt h _)
def qHoused (Z : Zt) (w : Int) : Int × Zt := if ¬ (0 ≤ w ∧ w ≤ 1) then refA Z (-5) else (if w = 0 then (houG (houF Z.1) (houC Z.1) 49 0 (-1) (-1)).1 else if (houG (houF Z.1) (houC Z.1) 49 0 (-1) (-1)).1 = -1 then -1 else (houG (houF Z.1) (houC Z.1) 49 0 (-1) (-1)).2, Z)
theorem houG_e {f : Nat → Bool} {g : Nat → Int} : ∀ {n i : Nat} {b c : Int}, (b = -1 → c = -1) → (houG f g n i b c).1 = -1 → (houG f g n i b c).2 = -1
  | 0, _, _, _, h, q => h q
  | n + 1, i, b, c, h, q => by
    by_cases z : f i = true ∧ (b = -1 ∨ g i < c)
    · rw [houG, if_pos z] at q ⊢; exact houG_e (fun e => by omega) q
    · rw [houG, if_neg z] at q ⊢; exact houG_e h q
theorem OkT.house {τ : Tw} (h : OkT τ) {b : Nat} (hb : b < 2 ^ 49) : OkT (tH τ b) := ⟨hb, h.2⟩
theorem uI_back {σ : Sg} {k : Nat} {v : Int} (h : σ.1 62 k = 0) : uI (uI σ 62 k v) 62 k 0 = σ := by
  refine Prod.ext (funext fun a => funext fun x => ?_) rfl
  show (uI (uI σ 62 k v) 62 k 0).1 a x = σ.1 a x
  rw [uI_at]
  by_cases e : a = 62 ∧ x = k
  · rw [if_pos e, e.1, e.2, h]
  · rw [if_neg e, uI_at, if_neg e]
theorem dX8_where_0 : decode cX8_where 0 = .ok (.iload_n 2, 1) := by decide +kernel
theorem dX8_where_1 : decode cX8_where 1 = .ok (.ifCond .lt 8, 3) := by decide +kernel
theorem dX8_where_4 : decode cX8_where 4 = .ok (.iload_n 2, 1) := by decide +kernel
theorem dX8_where_5 : decode cX8_where 5 = .ok (.iconst 1, 1) := by decide +kernel
theorem dX8_where_6 : decode cX8_where 6 = .ok (.if_icmp .le 10, 3) := by decide +kernel
theorem dX8_where_9 : decode cX8_where 9 = .ok (.aload_n 0, 1) := by decide +kernel
theorem dX8_where_10 : decode cX8_where 10 = .ok (.bipush (-5), 2) := by decide +kernel
theorem dX8_where_12 : decode cX8_where 12 = .ok (.invokevirtual 239, 3) := by decide +kernel
theorem dX8_where_15 : decode cX8_where 15 = .ok (.ireturn, 1) := by decide +kernel
theorem dX8_where_16 : decode cX8_where 16 = .ok (.iload_n 1, 1) := by decide +kernel
theorem dX8_where_17 : decode cX8_where 17 = .ok (.ifCond .lt 14, 3) := by decide +kernel
theorem dX8_where_20 : decode cX8_where 20 = .ok (.iload_n 1, 1) := by decide +kernel
theorem dX8_where_21 : decode cX8_where 21 = .ok (.aload_n 0, 1) := by decide +kernel
theorem dX8_where_22 : decode cX8_where 22 = .ok (.getfield 10, 3) := by decide +kernel
theorem dX8_where_25 : decode cX8_where 25 = .ok (.invokevirtual 287, 3) := by decide +kernel
theorem dX8_where_28 : decode cX8_where 28 = .ok (.if_icmp .le 10, 3) := by decide +kernel
theorem dX8_where_31 : decode cX8_where 31 = .ok (.aload_n 0, 1) := by decide +kernel
theorem dX8_where_32 : decode cX8_where 32 = .ok (.bipush (-6), 2) := by decide +kernel
theorem dX8_where_34 : decode cX8_where 34 = .ok (.invokevirtual 239, 3) := by decide +kernel
theorem dX8_where_37 : decode cX8_where 37 = .ok (.ireturn, 1) := by decide +kernel
theorem dX8_where_38 : decode cX8_where 38 = .ok (.aload_n 0, 1) := by decide +kernel
theorem dX8_where_39 : decode cX8_where 39 = .ok (.getfield 43, 3) := by decide +kernel
theorem dX8_where_42 : decode cX8_where 42 = .ok (.aload_n 0, 1) := by decide +kernel
theorem dX8_where_43 : decode cX8_where 43 = .ok (.getfield 10, 3) := by decide +kernel
theorem dX8_where_46 : decode cX8_where 46 = .ok (.aload_n 0, 1) := by decide +kernel
theorem dX8_where_47 : decode cX8_where 47 = .ok (.getfield 10, 3) := by decide +kernel
theorem dX8_where_50 : decode cX8_where 50 = .ok (.getfield 245, 3) := by decide +kernel
theorem dX8_where_53 : decode cX8_where 53 = .ok (.invokevirtual 249, 3) := by decide +kernel
theorem dX8_where_56 : decode cX8_where 56 = .ok (.iconst 0, 1) := by decide +kernel
theorem dX8_where_57 : decode cX8_where 57 = .ok (.istore_n 3, 1) := by decide +kernel
theorem dX8_where_58 : decode cX8_where 58 = .ok (.iconst (-1), 1) := by decide +kernel
theorem dX8_where_59 : decode cX8_where 59 = .ok (.istore 4, 2) := by decide +kernel
theorem dX8_where_61 : decode cX8_where 61 = .ok (.iconst 0, 1) := by decide +kernel
theorem dX8_where_62 : decode cX8_where 62 = .ok (.istore 5, 2) := by decide +kernel
theorem dX8_where_64 : decode cX8_where 64 = .ok (.iload 5, 2) := by decide +kernel
theorem dX8_where_66 : decode cX8_where 66 = .ok (.bipush 49, 2) := by decide +kernel
theorem dX8_where_68 : decode cX8_where 68 = .ok (.if_icmp .ge 52, 3) := by decide +kernel
theorem dX8_where_71 : decode cX8_where 71 = .ok (.aload_n 0, 1) := by decide +kernel
theorem dX8_where_72 : decode cX8_where 72 = .ok (.getfield 10, 3) := by decide +kernel
theorem dX8_where_75 : decode cX8_where 75 = .ok (.iload 5, 2) := by decide +kernel
theorem dX8_where_77 : decode cX8_where 77 = .ok (.invokevirtual 180, 3) := by decide +kernel
theorem dX8_where_80 : decode cX8_where 80 = .ok (.ifCond .eq 34, 3) := by decide +kernel
theorem dX8_where_83 : decode cX8_where 83 = .ok (.aload_n 0, 1) := by decide +kernel
theorem dX8_where_84 : decode cX8_where 84 = .ok (.getfield 43, 3) := by decide +kernel
theorem dX8_where_87 : decode cX8_where 87 = .ok (.iload 5, 2) := by decide +kernel
theorem dX8_where_89 : decode cX8_where 89 = .ok (.invokevirtual 290, 3) := by decide +kernel
theorem dX8_where_92 : decode cX8_where 92 = .ok (.iload_n 1, 1) := by decide +kernel
theorem dX8_where_93 : decode cX8_where 93 = .ok (.if_icmp .ne 21, 3) := by decide +kernel
theorem dX8_where_96 : decode cX8_where 96 = .ok (.iload 4, 2) := by decide +kernel
theorem dX8_where_98 : decode cX8_where 98 = .ok (.iconst (-1), 1) := by decide +kernel
theorem dX8_where_99 : decode cX8_where 99 = .ok (.if_icmp .ne 8, 3) := by decide +kernel
theorem dX8_where_102 : decode cX8_where 102 = .ok (.iload 5, 2) := by decide +kernel
theorem dX8_where_104 : decode cX8_where 104 = .ok (.goto 5, 3) := by decide +kernel
theorem dX8_where_107 : decode cX8_where 107 = .ok (.iload 4, 2) := by decide +kernel
theorem dX8_where_109 : decode cX8_where 109 = .ok (.istore 4, 2) := by decide +kernel
theorem dX8_where_111 : decode cX8_where 111 = .ok (.iinc 3 1, 3) := by decide +kernel
theorem dX8_where_114 : decode cX8_where 114 = .ok (.iinc 5 1, 3) := by decide +kernel
theorem dX8_where_117 : decode cX8_where 117 = .ok (.goto (-53), 3) := by decide +kernel
theorem dX8_where_120 : decode cX8_where 120 = .ok (.iload_n 2, 1) := by decide +kernel
theorem dX8_where_121 : decode cX8_where 121 = .ok (.ifCond .ne 7, 3) := by decide +kernel
theorem dX8_where_124 : decode cX8_where 124 = .ok (.iload_n 3, 1) := by decide +kernel
theorem dX8_where_125 : decode cX8_where 125 = .ok (.goto 5, 3) := by decide +kernel
theorem dX8_where_128 : decode cX8_where 128 = .ok (.iload 4, 2) := by decide +kernel
theorem dX8_where_130 : decode cX8_where 130 = .ok (.ireturn, 1) := by decide +kernel
set_option maxRecDepth 20000 in
theorem l_X8_where {G : Gl} {d : Nat} {σ : Sg} {K : Option Value → Sg → Prop} {Z : Zt} (hZ : RelX Z σ) (hO : OkZ Z) (hS : SiR Z.1 Z.1.1 σ) {m w : Int} (m1 : 0 ≤ m) (m2 : m < 2147483648) (w1 : 0 ≤ w) (w2 : w ≤ 1) : ∀ (n i : Nat) (c b : Int), i + n = 49 → 0 ≤ c → c ≤ i → -1 ≤ b → b < 49 → K (some (.int (iI (if w = 0 then c + cntR (wheF Z.1 m) n i else if b = -1 then fstR (wheF Z.1 m) n i else b)))) σ → AW G (d + 3) RX8 cX8_where 6 (some .int) 64 [(0, .ref (gA G 0)), (1, .int (iI m)), (2, .int (iI w)), (3, .int (iI c)), (4, .int (iI b)), (5, .int (iI (i : Int)))] [] σ K := by
  intro n
  induction n using Nat.strongRecOn
  rename_i n ih
  intro i c b hn c1 c2 b1 b2 hK
  have hsl := seen_lt hO.1 Z.1.1 (i : Int)
  refine A_iload (pc := 64) dX8_where_64 rfl ?_
  refine A_bipush (pc := 66) dX8_where_66 (by decide) ?_
  refine A_icmp_ge (pc := 68) 120 dX8_where_68 (by decide) (by omega) (by omega) (by omega) (by omega) (fun h68 => ?_) (fun h68 => ?_)
  · skip
    refine A_iload_n (pc := 120) dX8_where_120 rfl rfl ?_
    refine A_if_ne (pc := 121) 128 dX8_where_121 (by decide) (by omega) (by omega) (fun h121 => ?_) (fun h121 => ?_)
    · skip
      refine A_iload (pc := 128) dX8_where_128 rfl ?_
      refine A_iret (pc := 130) rfl dX8_where_130 ?_
      have hn0 : n = 0 := by omega
      subst hn0
      rw [if_neg (by omega), fstR] at hK
      have e : (if b = -1 then (-1 : Int) else b) = b := by split <;> omega
      rw [e] at hK
      exact hK
    · skip
      refine A_iload_n (pc := 124) dX8_where_124 rfl rfl ?_
      refine A_goto (pc := 125) 130 dX8_where_125 (by decide) ?_
      refine A_iret (pc := 130) rfl dX8_where_130 ?_
      have hn0 : n = 0 := by omega
      subst hn0
      rw [if_pos (by omega), cntR, Int.add_zero] at hK
      exact hK
  · skip
    refine A_aload_n (pc := 71) dX8_where_71 rfl rfl ?_
    refine A_getR (pc := 72) fX8_10 rfl rfl dX8_where_72 ?_
    refine A_iload (pc := 75) dX8_where_75 rfl ?_
    refine A_callV1 (pc := 77) kX8_180 rfl rfl (c_X5_isYard TC14 hZ.1 hO.1 (by omega) (by omega)) dX8_where_77 rfl rfl (Nat.le_of_ble_eq_true rfl) (Nat.le_of_ble_eq_true rfl) ?_
    refine A_ifb_eq (pc := 80) 114 dX8_where_80 (by decide) (fun h80 => ?_) (fun h80 => ?_)
    · skip
      refine A_iinc (pc := 114) dX8_where_114 rfl (Nat.le_of_ble_eq_true rfl) ?_
      refine A_goto (pc := 117) 64 dX8_where_117 (by decide) ?_
      obtain ⟨u, rfl⟩ : ∃ u, n = u + 1 := ⟨n - 1, by omega⟩
      refine A_loc (l2 := [(0, _), (1, _), (2, _), (3, _), (4, _), (5, _)]) ⟨rfl, rfl, rfl, rfl, rfl, rfl, trivial⟩ ?_
      refine ih u (by omega) (i + 1) c b (by omega) (by omega) (by omega) b1 b2 ?_
      have z : wheF Z.1 m i = false := decide_eq_false (fun q => h80 ⟨⟨by omega, by omega⟩, q.1⟩)
      rw [cntR_n z, fstR_n z] at hK
      exact hK
    · skip
      have hy := h80.2
      refine A_aload_n (pc := 83) dX8_where_83 rfl rfl ?_
      refine A_getR (pc := 84) fX8_43 rfl rfl dX8_where_84 ?_
      refine A_iload (pc := 87) dX8_where_87 rfl ?_
      refine A_callV1 (pc := 89) kX8_290 rfl rfl (c_X4_thatSee hS hO.1 (by omega) (by omega)) dX8_where_89 rfl rfl (Nat.le_of_ble_eq_true rfl) (Nat.le_of_ble_eq_true rfl) ?_
      refine A_iload_n (pc := 92) dX8_where_92 rfl rfl ?_
      refine A_icmp_ne (pc := 93) 114 dX8_where_93 (by decide) (by omega) (by omega) (by omega) (by omega) (fun h93 => ?_) (fun h93 => ?_)
      · skip
        refine A_iinc (pc := 114) dX8_where_114 rfl (Nat.le_of_ble_eq_true rfl) ?_
        refine A_goto (pc := 117) 64 dX8_where_117 (by decide) ?_
        obtain ⟨u, rfl⟩ : ∃ u, n = u + 1 := ⟨n - 1, by omega⟩
        refine A_loc (l2 := [(0, _), (1, _), (2, _), (3, _), (4, _), (5, _)]) ⟨rfl, rfl, rfl, rfl, rfl, rfl, trivial⟩ ?_
        refine ih u (by omega) (i + 1) c b (by omega) (by omega) (by omega) b1 b2 ?_
        have z : wheF Z.1 m i = false := decide_eq_false (fun q => h93 q.2)
        rw [cntR_n z, fstR_n z] at hK
        exact hK
      · skip
        refine A_iload (pc := 96) dX8_where_96 rfl ?_
        refine A_iconst (pc := 98) dX8_where_98 ?_
        refine A_icmp_ne (pc := 99) 107 dX8_where_99 (by decide) (by omega) (by omega) (by omega) (by omega) (fun h99 => ?_) (fun h99 => ?_)
        · skip
          refine A_iload (pc := 107) dX8_where_107 rfl ?_
          refine A_istore (pc := 109) dX8_where_109 (Nat.le_of_ble_eq_true rfl) ?_
          refine A_iinc (pc := 111) dX8_where_111 rfl (Nat.le_of_ble_eq_true rfl) ?_
          refine A_iinc (pc := 114) dX8_where_114 rfl (Nat.le_of_ble_eq_true rfl) ?_
          refine A_goto (pc := 117) 64 dX8_where_117 (by decide) ?_
          obtain ⟨u, rfl⟩ : ∃ u, n = u + 1 := ⟨n - 1, by omega⟩
          refine A_loc (l2 := [(0, _), (1, _), (2, _), (3, _), (4, _), (5, _)]) ⟨rfl, rfl, rfl, rfl, rfl, rfl, trivial⟩ ?_
          refine ih u (by omega) (i + 1) (c + 1) b (by omega) (by omega) (by omega) b1 b2 ?_
          have z : wheF Z.1 m i = true := decide_eq_true ⟨hy, by omega⟩
          rw [cntR_y z, fstR_y z, if_neg h99] at hK
          rw [if_neg h99, show c + 1 + cntR (wheF Z.1 m) u (i + 1) = c + (1 + cntR (wheF Z.1 m) u (i + 1)) by omega]
          exact hK
        · skip
          refine A_iload (pc := 102) dX8_where_102 rfl ?_
          refine A_goto (pc := 104) 109 dX8_where_104 (by decide) ?_
          refine A_istore (pc := 109) dX8_where_109 (Nat.le_of_ble_eq_true rfl) ?_
          refine A_iinc (pc := 111) dX8_where_111 rfl (Nat.le_of_ble_eq_true rfl) ?_
          refine A_iinc (pc := 114) dX8_where_114 rfl (Nat.le_of_ble_eq_true rfl) ?_
          refine A_goto (pc := 117) 64 dX8_where_117 (by decide) ?_
          obtain ⟨u, rfl⟩ : ∃ u, n = u + 1 := ⟨n - 1, by omega⟩
          refine A_loc (l2 := [(0, _), (1, _), (2, _), (3, _), (4, _), (5, _)]) ⟨rfl, rfl, rfl, rfl, rfl, rfl, trivial⟩ ?_
          refine ih u (by omega) (i + 1) (c + 1) (i : Int) (by omega) (by omega) (by omega) (by omega) (by omega) ?_
          have z : wheF Z.1 m i = true := decide_eq_true ⟨hy, by omega⟩
          have hb : b = -1 := by omega
          rw [cntR_y z, fstR_y z, if_pos hb] at hK
          rw [if_neg (show ¬ (i : Int) = -1 by omega), show c + 1 + cntR (wheF Z.1 m) u (i + 1) = c + (1 + cntR (wheF Z.1 m) u (i + 1)) by omega]
          exact hK
set_option maxRecDepth 20000 in
theorem c_X8_where {G : Gl} {d : Nat} {σ : Sg} {Z : Zt} (hZ : RelX Z σ) (hO : OkZ Z) {m : Int} (hm1 : -2147483648 ≤ m) (hm2 : m < 2147483648) {w : Int} (hw1 : -2147483648 ≤ w) (hw2 : w < 2147483648) : CT G (d + 5) yX8_where cX8_where 6 (some .int) [.ref (gA G 0), .int (iI m), .int (iI w)] σ (RE (some (.int (iI (qWhere Z m w).1))) (fun υ => RelX (qWhere Z m w).2 υ ∧ Fr XC σ υ)) := by
  refine CT.of (by decide +kernel) (Nat.le_of_ble_eq_true rfl) ?_
  change AW G _ RX8 _ _ _ 0 [(0, .ref (gA G 0)), (1, .int (iI m)), (2, .int (iI w))] [] _ _
  have o2 := hO.1.2.1
  have o3 := hO.1.2.2.1
  have hP := pow9 (show (Z.1.2.1 0).toNat ≤ 9 by omega)
  obtain ⟨P, hPe⟩ : ∃ P, P = 2 ^ (Z.1.2.1 0).toNat := ⟨_, rfl⟩
  rw [← hPe] at hP
  refine A_iload_n (pc := 0) dX8_where_0 rfl rfl ?_
  refine A_if_lt (pc := 1) 9 dX8_where_1 (by decide) (by omega) (by omega) (fun h1 => ?_) (fun h1 => ?_)
  · skip
    refine A_aload_n (pc := 9) dX8_where_9 rfl rfl ?_
    refine A_bipush (pc := 10) dX8_where_10 (by decide) ?_
    refine A_callVe (pc := 12) kX8_239 rfl rfl (c_X8_refuseApart hZ hO (t := -5) (by omega) (by omega)) dX8_where_12 rfl rfl (Nat.le_of_ble_eq_true rfl) (Nat.le_of_ble_eq_true rfl) (fun υ hυ => ?_)
    refine A_iret (pc := 15) rfl dX8_where_15 ?_
    exact RQX (by unfold qWhere; rw [if_pos (by omega)]; rfl) hυ.1 (hυ.2.mono XC2)
  · skip
    refine A_iload_n (pc := 4) dX8_where_4 rfl rfl ?_
    refine A_iconst (pc := 5) dX8_where_5 ?_
    refine A_icmp_le (pc := 6) 16 dX8_where_6 (by decide) (by omega) (by omega) (by omega) (by omega) (fun h6 => ?_) (fun h6 => ?_)
    · skip
      refine A_iload_n (pc := 16) dX8_where_16 rfl rfl ?_
      refine A_if_lt (pc := 17) 31 dX8_where_17 (by decide) (by omega) (by omega) (fun h17 => ?_) (fun h17 => ?_)
      · skip
        refine A_aload_n (pc := 31) dX8_where_31 rfl rfl ?_
        refine A_bipush (pc := 32) dX8_where_32 (by decide) ?_
        refine A_callVe (pc := 34) kX8_239 rfl rfl (c_X8_refuseApart hZ hO (t := -6) (by omega) (by omega)) dX8_where_34 rfl rfl (Nat.le_of_ble_eq_true rfl) (Nat.le_of_ble_eq_true rfl) (fun υ hυ => ?_)
        refine A_iret (pc := 37) rfl dX8_where_37 ?_
        exact RQX (by unfold qWhere; rw [if_neg (by omega), ← hPe, if_pos (by omega)]; rfl) hυ.1 (hυ.2.mono XC2)
      · skip
        refine A_iload_n (pc := 20) dX8_where_20 rfl rfl ?_
        refine A_aload_n (pc := 21) dX8_where_21 rfl rfl ?_
        refine A_getR (pc := 22) fX8_10 rfl rfl dX8_where_22 ?_
        refine A_callV1 (pc := 25) kX8_287 rfl rfl (c_X5_allPanes TC14 hZ.1 hO.1) dX8_where_25 rfl rfl (Nat.le_of_ble_eq_true rfl) (Nat.le_of_ble_eq_true rfl) ?_
        rw [← hPe]
        refine A_icmp_le (pc := 28) 38 dX8_where_28 (by decide) (by omega) (by omega) (by omega) (by omega) (fun h28 => ?_) (fun h28 => ?_)
        · skip
          refine A_aload_n (pc := 38) dX8_where_38 rfl rfl ?_
          refine A_getR (pc := 39) fX8_43 rfl rfl dX8_where_39 ?_
          refine A_aload_n (pc := 42) dX8_where_42 rfl rfl ?_
          refine A_getR (pc := 43) fX8_10 rfl rfl dX8_where_43 ?_
          refine A_aload_n (pc := 46) dX8_where_46 rfl rfl ?_
          refine A_getR (pc := 47) fX8_10 rfl rfl dX8_where_47 ?_
          refine A_getLv (pc := 50) fX8_245 rfl rfl hZ.1.1 dX8_where_50 ?_
          refine A_callVe0 (pc := 53) kX8_249 rfl rfl (c_X4_take TC14 hZ.1 hO.1 hO.1.1) dX8_where_53 rfl rfl (Nat.le_of_ble_eq_true rfl) (Nat.le_of_ble_eq_true rfl) (fun υ hυ => ?_)
          refine A_iconst (pc := 56) dX8_where_56 ?_
          refine A_istore_n (pc := 57) dX8_where_57 rfl (Nat.le_of_ble_eq_true rfl) ?_
          refine A_iconst (pc := 58) dX8_where_58 ?_
          refine A_istore (pc := 59) dX8_where_59 (Nat.le_of_ble_eq_true rfl) ?_
          refine A_iconst (pc := 61) dX8_where_61 ?_
          refine A_istore (pc := 62) dX8_where_62 (Nat.le_of_ble_eq_true rfl) ?_
          refine A_loc (l2 := [(0, _), (1, _), (2, _), (3, _), (4, _), (5, _)]) ⟨rfl, rfl, rfl, rfl, rfl, rfl, trivial⟩ ?_
          refine l_X8_where (hZ.fr hυ.2 S56X) hO hυ.1 (by omega) (by omega) (by omega) (by omega) 49 0 0 (-1) (by omega) (by omega) (by omega) (by omega) (by omega) ?_
          refine RQX (by unfold qWhere; rw [if_neg (by omega), ← hPe, if_neg (by omega), Int.zero_add, if_pos rfl]) (hZ.fr hυ.2 S56X) (hυ.2.mono S56C)
        · skip
          refine A_aload_n (pc := 31) dX8_where_31 rfl rfl ?_
          refine A_bipush (pc := 32) dX8_where_32 (by decide) ?_
          refine A_callVe (pc := 34) kX8_239 rfl rfl (c_X8_refuseApart hZ hO (t := -6) (by omega) (by omega)) dX8_where_34 rfl rfl (Nat.le_of_ble_eq_true rfl) (Nat.le_of_ble_eq_true rfl) (fun υ hυ => ?_)
          refine A_iret (pc := 37) rfl dX8_where_37 ?_
          exact RQX (by unfold qWhere; rw [if_neg (by omega), ← hPe, if_pos (by omega)]; rfl) hυ.1 (hυ.2.mono XC2)
    · skip
      refine A_aload_n (pc := 9) dX8_where_9 rfl rfl ?_
      refine A_bipush (pc := 10) dX8_where_10 (by decide) ?_
      refine A_callVe (pc := 12) kX8_239 rfl rfl (c_X8_refuseApart hZ hO (t := -5) (by omega) (by omega)) dX8_where_12 rfl rfl (Nat.le_of_ble_eq_true rfl) (Nat.le_of_ble_eq_true rfl) (fun υ hυ => ?_)
      refine A_iret (pc := 15) rfl dX8_where_15 ?_
      exact RQX (by unfold qWhere; rw [if_pos (by omega)]; rfl) hυ.1 (hυ.2.mono XC2)
theorem dX4_bestParting_0 : decode cX4_bestParting 0 = .ok (.iconst (-1), 1) := by decide +kernel
theorem dX4_bestParting_1 : decode cX4_bestParting 1 = .ok (.istore_n 2, 1) := by decide +kernel
theorem dX4_bestParting_2 : decode cX4_bestParting 2 = .ok (.iconst (-1), 1) := by decide +kernel
theorem dX4_bestParting_3 : decode cX4_bestParting 3 = .ok (.istore_n 3, 1) := by decide +kernel
theorem dX4_bestParting_4 : decode cX4_bestParting 4 = .ok (.iconst 0, 1) := by decide +kernel
theorem dX4_bestParting_5 : decode cX4_bestParting 5 = .ok (.istore 4, 2) := by decide +kernel
theorem dX4_bestParting_7 : decode cX4_bestParting 7 = .ok (.iload 4, 2) := by decide +kernel
theorem dX4_bestParting_9 : decode cX4_bestParting 9 = .ok (.aload_n 0, 1) := by decide +kernel
theorem dX4_bestParting_10 : decode cX4_bestParting 10 = .ok (.getfield 9, 3) := by decide +kernel
theorem dX4_bestParting_13 : decode cX4_bestParting 13 = .ok (.if_icmp .ge 90, 3) := by decide +kernel
theorem dX4_bestParting_16 : decode cX4_bestParting 16 = .ok (.iconst 0, 1) := by decide +kernel
theorem dX4_bestParting_17 : decode cX4_bestParting 17 = .ok (.istore 5, 2) := by decide +kernel
theorem dX4_bestParting_19 : decode cX4_bestParting 19 = .ok (.iconst 0, 1) := by decide +kernel
theorem dX4_bestParting_20 : decode cX4_bestParting 20 = .ok (.istore 6, 2) := by decide +kernel
theorem dX4_bestParting_22 : decode cX4_bestParting 22 = .ok (.iload 6, 2) := by decide +kernel
theorem dX4_bestParting_24 : decode cX4_bestParting 24 = .ok (.aload_n 1, 1) := by decide +kernel
theorem dX4_bestParting_25 : decode cX4_bestParting 25 = .ok (.getfield 55, 3) := by decide +kernel
theorem dX4_bestParting_28 : decode cX4_bestParting 28 = .ok (.if_icmp .ge 38, 3) := by decide +kernel
theorem dX4_bestParting_31 : decode cX4_bestParting 31 = .ok (.iload 5, 2) := by decide +kernel
theorem dX4_bestParting_33 : decode cX4_bestParting 33 = .ok (.aload_n 0, 1) := by decide +kernel
theorem dX4_bestParting_34 : decode cX4_bestParting 34 = .ok (.getfield 15, 3) := by decide +kernel
theorem dX4_bestParting_37 : decode cX4_bestParting 37 = .ok (.iload 4, 2) := by decide +kernel
theorem dX4_bestParting_39 : decode cX4_bestParting 39 = .ok (.laload, 1) := by decide +kernel
theorem dX4_bestParting_40 : decode cX4_bestParting 40 = .ok (.aload_n 1, 1) := by decide +kernel
theorem dX4_bestParting_41 : decode cX4_bestParting 41 = .ok (.iload 6, 2) := by decide +kernel
theorem dX4_bestParting_43 : decode cX4_bestParting 43 = .ok (.invokevirtual 60, 3) := by decide +kernel
theorem dX4_bestParting_46 : decode cX4_bestParting 46 = .ok (.invokestatic 36, 3) := by decide +kernel
theorem dX4_bestParting_49 : decode cX4_bestParting 49 = .ok (.ifCond .eq 7, 3) := by decide +kernel
theorem dX4_bestParting_52 : decode cX4_bestParting 52 = .ok (.iconst 1, 1) := by decide +kernel
theorem dX4_bestParting_53 : decode cX4_bestParting 53 = .ok (.goto 4, 3) := by decide +kernel
theorem dX4_bestParting_56 : decode cX4_bestParting 56 = .ok (.iconst 0, 1) := by decide +kernel
theorem dX4_bestParting_57 : decode cX4_bestParting 57 = .ok (.iadd, 1) := by decide +kernel
theorem dX4_bestParting_58 : decode cX4_bestParting 58 = .ok (.istore 5, 2) := by decide +kernel
theorem dX4_bestParting_60 : decode cX4_bestParting 60 = .ok (.iinc 6 1, 3) := by decide +kernel
theorem dX4_bestParting_63 : decode cX4_bestParting 63 = .ok (.goto (-41), 3) := by decide +kernel
theorem dX4_bestParting_66 : decode cX4_bestParting 66 = .ok (.iload 5, 2) := by decide +kernel
theorem dX4_bestParting_68 : decode cX4_bestParting 68 = .ok (.aload_n 1, 1) := by decide +kernel
theorem dX4_bestParting_69 : decode cX4_bestParting 69 = .ok (.getfield 55, 3) := by decide +kernel
theorem dX4_bestParting_72 : decode cX4_bestParting 72 = .ok (.iload 5, 2) := by decide +kernel
theorem dX4_bestParting_74 : decode cX4_bestParting 74 = .ok (.isub, 1) := by decide +kernel
theorem dX4_bestParting_75 : decode cX4_bestParting 75 = .ok (.invokestatic 63, 3) := by decide +kernel
theorem dX4_bestParting_78 : decode cX4_bestParting 78 = .ok (.istore 6, 2) := by decide +kernel
theorem dX4_bestParting_80 : decode cX4_bestParting 80 = .ok (.iload_n 2, 1) := by decide +kernel
theorem dX4_bestParting_81 : decode cX4_bestParting 81 = .ok (.iconst (-1), 1) := by decide +kernel
theorem dX4_bestParting_82 : decode cX4_bestParting 82 = .ok (.if_icmp .eq 9, 3) := by decide +kernel
theorem dX4_bestParting_85 : decode cX4_bestParting 85 = .ok (.iload 6, 2) := by decide +kernel
theorem dX4_bestParting_87 : decode cX4_bestParting 87 = .ok (.iload_n 3, 1) := by decide +kernel
theorem dX4_bestParting_88 : decode cX4_bestParting 88 = .ok (.if_icmp .ge 9, 3) := by decide +kernel
theorem dX4_bestParting_91 : decode cX4_bestParting 91 = .ok (.iload 4, 2) := by decide +kernel
theorem dX4_bestParting_93 : decode cX4_bestParting 93 = .ok (.istore_n 2, 1) := by decide +kernel
theorem dX4_bestParting_94 : decode cX4_bestParting 94 = .ok (.iload 6, 2) := by decide +kernel
theorem dX4_bestParting_96 : decode cX4_bestParting 96 = .ok (.istore_n 3, 1) := by decide +kernel
theorem dX4_bestParting_97 : decode cX4_bestParting 97 = .ok (.iinc 4 1, 3) := by decide +kernel
theorem dX4_bestParting_100 : decode cX4_bestParting 100 = .ok (.goto (-93), 3) := by decide +kernel
theorem dX4_bestParting_103 : decode cX4_bestParting 103 = .ok (.iload_n 2, 1) := by decide +kernel
theorem dX4_bestParting_104 : decode cX4_bestParting 104 = .ok (.ireturn, 1) := by decide +kernel
set_option maxRecDepth 20000 in
theorem l1_X4_bestParting {G : Gl} {d : Nat} {σ : Sg} {K : Option Value → Sg → Prop} {Z : Zt} (hS : SiR Z.1 Z.1.1 σ) (hO : OkZ Z) {k : Nat} (k8 : k < 8) (ks : RS (38 + 2 * k) (Z.2.1.1 k) (Z.2.1.2.1 k) (Z.2.1.2.2 k) σ) {b c : Int} {p : Nat} (hp : p < 9) : ∀ (n i : Nat) (t : Int), (i : Int) + n = Z.2.1.2.1 k → AW G (d + 3) RX4 cX4_bestParting 7 (some .int) 66 [(0, .ref (gA G 5)), (1, .ref (gA G (38 + 2 * k))), (2, .int (iI b)), (3, .int (iI c)), (4, .int (iI (p : Int))), (5, .int (iI (t + sumR (askC Z k p) n i)))] [] σ K → AW G (d + 3) RX4 cX4_bestParting 7 (some .int) 22 [(0, .ref (gA G 5)), (1, .ref (gA G (38 + 2 * k))), (2, .int (iI b)), (3, .int (iI c)), (4, .int (iI (p : Int))), (5, .int (iI t)), (6, .int (iI (i : Int)))] [] σ K := by
  intro n
  induction n using Nat.strongRecOn
  rename_i n ih
  intro i t hn hK
  have ko := hO.2.1 k k8
  obtain ⟨b1, b2, b3, b4⟩ := ko.1
  refine A_iload (pc := 22) dX4_bestParting_22 rfl ?_
  refine A_aload_n (pc := 24) dX4_bestParting_24 rfl rfl ?_
  refine A_getIv (pc := 25) fX4_55 (shp_S (SCk k8)) rfl ks.2.1 dX4_bestParting_25 ?_
  refine A_icmp_ge (pc := 28) 66 dX4_bestParting_28 (by decide) (by omega) (by omega) (by omega) (by omega) (fun h28 => ?_) (fun h28 => ?_)
  · skip
    have hn0 : n = 0 := by omega
    subst hn0
    refine A_loc (l2 := [(0, _), (1, _), (2, _), (3, _), (4, _), (5, _)]) ⟨rfl, rfl, rfl, rfl, rfl, rfl, trivial⟩ ?_
    rw [sumR, Int.add_zero] at hK
    exact hK
  · skip
    refine A_iload (pc := 31) dX4_bestParting_31 rfl ?_
    refine A_aload_n (pc := 33) dX4_bestParting_33 rfl rfl ?_
    refine A_getR (pc := 34) fX4_15 rfl rfl dX4_bestParting_34 ?_
    refine A_iload (pc := 37) dX4_bestParting_37 rfl ?_
    refine A_laldv (pc := 39) p rfl rfl hp (Nat.le_of_ble_eq_true rfl) (hS.2 p hp) dX4_bestParting_39 ?_
    refine A_aload_n (pc := 40) dX4_bestParting_40 rfl rfl ?_
    refine A_iload (pc := 41) dX4_bestParting_41 rfl ?_
    refine A_callV1 (pc := 43) kX4_60 (shp_S (SCk k8)) rfl (c_X3_intAt (SCk k8) ks ko.1 (by omega) (by omega)) dX4_bestParting_43 rfl rfl (Nat.le_of_ble_eq_true rfl) (Nat.le_of_ble_eq_true rfl) ?_
    rw [elI_k (by omega)]
    refine A_callS1 (pc := 46) kX4_36 (c_X0_has (see0_lt _ _ _) (elV_rng Z k i).1 (elV_rng Z k i).2) dX4_bestParting_46 rfl rfl (Nat.le_of_ble_eq_true rfl) (Nat.le_of_ble_eq_true rfl) ?_
    refine A_ifb_eq (pc := 49) 56 dX4_bestParting_49 (by decide) (fun h49 => ?_) (fun h49 => ?_)
    · skip
      refine A_iconst (pc := 56) dX4_bestParting_56 ?_
      refine A_iadd (pc := 57) dX4_bestParting_57 ?_
      refine A_istore (pc := 58) dX4_bestParting_58 (Nat.le_of_ble_eq_true rfl) ?_
      refine A_iinc (pc := 60) dX4_bestParting_60 rfl (Nat.le_of_ble_eq_true rfl) ?_
      refine A_goto (pc := 63) 22 dX4_bestParting_63 (by decide) ?_
      obtain ⟨u, rfl⟩ : ∃ u, n = u + 1 := ⟨n - 1, by omega⟩
      refine A_loc (l2 := [(0, _), (1, _), (2, _), (3, _), (4, _), (5, _), (6, _)]) ⟨rfl, rfl, rfl, rfl, rfl, rfl, rfl, trivial⟩ ?_
      refine ih u (by omega) (i + 1) (t + 0) (by omega) ?_
      have e : askC Z k p i = 0 := if_neg h49
      rw [sumR, e, ← Int.add_assoc] at hK
      exact hK
    · skip
      refine A_iconst (pc := 52) dX4_bestParting_52 ?_
      refine A_goto (pc := 53) 57 dX4_bestParting_53 (by decide) ?_
      refine A_iadd (pc := 57) dX4_bestParting_57 ?_
      refine A_istore (pc := 58) dX4_bestParting_58 (Nat.le_of_ble_eq_true rfl) ?_
      refine A_iinc (pc := 60) dX4_bestParting_60 rfl (Nat.le_of_ble_eq_true rfl) ?_
      refine A_goto (pc := 63) 22 dX4_bestParting_63 (by decide) ?_
      obtain ⟨u, rfl⟩ : ∃ u, n = u + 1 := ⟨n - 1, by omega⟩
      refine A_loc (l2 := [(0, _), (1, _), (2, _), (3, _), (4, _), (5, _), (6, _)]) ⟨rfl, rfl, rfl, rfl, rfl, rfl, rfl, trivial⟩ ?_
      refine ih u (by omega) (i + 1) (t + 1) (by omega) ?_
      have e : askC Z k p i = 1 := if_pos h49
      rw [sumR, e, ← Int.add_assoc] at hK
      exact hK
set_option maxRecDepth 20000 in
theorem l2_X4_bestParting {G : Gl} {d : Nat} {σ : Sg} {K : Option Value → Sg → Prop} {Z : Zt} (hS : SiR Z.1 Z.1.1 σ) (hO : OkZ Z) {k : Nat} (k8 : k < 8) (ks : RS (38 + 2 * k) (Z.2.1.1 k) (Z.2.1.2.1 k) (Z.2.1.2.2 k) σ) {b c : Int} {p : Nat} (hp : p < 9) (b1 : -1 ≤ b) (b2 : b < 9) (c1 : -1 ≤ c) (c2 : c ≤ 160) (hK1 : b = -1 ∨ askF Z k p < c → AW G (d + 3) RX4 cX4_bestParting 7 (some .int) 7 [(0, .ref (gA G 5)), (1, .ref (gA G (38 + 2 * k))), (2, .int (iI (p : Int))), (3, .int (iI (askF Z k p))), (4, .int (iI ((p : Int) + 1)))] [] σ K) (hK2 : ¬ (b = -1 ∨ askF Z k p < c) → AW G (d + 3) RX4 cX4_bestParting 7 (some .int) 7 [(0, .ref (gA G 5)), (1, .ref (gA G (38 + 2 * k))), (2, .int (iI b)), (3, .int (iI c)), (4, .int (iI ((p : Int) + 1)))] [] σ K) : AW G (d + 3) RX4 cX4_bestParting 7 (some .int) 66 [(0, .ref (gA G 5)), (1, .ref (gA G (38 + 2 * k))), (2, .int (iI b)), (3, .int (iI c)), (4, .int (iI (p : Int))), (5, .int (iI (sumR (askC Z k p) (Z.2.1.2.1 k).toNat 0)))] [] σ K := by
  have ko := hO.2.1 k k8
  obtain ⟨g1, g2, g3, g4⟩ := ko.1
  have hr := askS_rng Z k p (Z.2.1.2.1 k).toNat 0
  refine A_iload (pc := 66) dX4_bestParting_66 rfl ?_
  refine A_aload_n (pc := 68) dX4_bestParting_68 rfl rfl ?_
  refine A_getIv (pc := 69) fX4_55 (shp_S (SCk k8)) rfl ks.2.1 dX4_bestParting_69 ?_
  refine A_iload (pc := 72) dX4_bestParting_72 rfl ?_
  refine A_isub (pc := 74) dX4_bestParting_74 ?_
  refine A_mmax (pc := 75) kX4_63 (by omega) (by omega) (by omega) (by omega) dX4_bestParting_75 (Nat.le_of_ble_eq_true rfl) ?_
  change AW G _ _ _ _ _ _ _ [.int (iI (askF Z k p))] _ _
  have hf : 0 ≤ askF Z k p ∧ askF Z k p ≤ 160 := by unfold askF; omega
  refine A_istore (pc := 78) dX4_bestParting_78 (Nat.le_of_ble_eq_true rfl) ?_
  refine A_iload_n (pc := 80) dX4_bestParting_80 rfl rfl ?_
  refine A_iconst (pc := 81) dX4_bestParting_81 ?_
  refine A_icmp_eq (pc := 82) 91 dX4_bestParting_82 (by decide) (by omega) (by omega) (by omega) (by omega) (fun h82 => ?_) (fun h82 => ?_)
  · skip
    refine A_iload (pc := 91) dX4_bestParting_91 rfl ?_
    refine A_istore_n (pc := 93) dX4_bestParting_93 rfl (Nat.le_of_ble_eq_true rfl) ?_
    refine A_iload (pc := 94) dX4_bestParting_94 rfl ?_
    refine A_istore_n (pc := 96) dX4_bestParting_96 rfl (Nat.le_of_ble_eq_true rfl) ?_
    refine A_iinc (pc := 97) dX4_bestParting_97 rfl (Nat.le_of_ble_eq_true rfl) ?_
    refine A_goto (pc := 100) 7 dX4_bestParting_100 (by decide) ?_
    refine A_loc (l2 := [(0, _), (1, _), (2, _), (3, _), (4, _)]) ⟨rfl, rfl, rfl, rfl, rfl, trivial⟩ ?_
    exact hK1 (by omega)
  · skip
    refine A_iload (pc := 85) dX4_bestParting_85 rfl ?_
    refine A_iload_n (pc := 87) dX4_bestParting_87 rfl rfl ?_
    refine A_icmp_ge (pc := 88) 97 dX4_bestParting_88 (by decide) (by omega) (by omega) (by omega) (by omega) (fun h88 => ?_) (fun h88 => ?_)
    · skip
      refine A_iinc (pc := 97) dX4_bestParting_97 rfl (Nat.le_of_ble_eq_true rfl) ?_
      refine A_goto (pc := 100) 7 dX4_bestParting_100 (by decide) ?_
      refine A_loc (l2 := [(0, _), (1, _), (2, _), (3, _), (4, _)]) ⟨rfl, rfl, rfl, rfl, rfl, trivial⟩ ?_
      exact hK2 (by omega)
    · skip
      refine A_iload (pc := 91) dX4_bestParting_91 rfl ?_
      refine A_istore_n (pc := 93) dX4_bestParting_93 rfl (Nat.le_of_ble_eq_true rfl) ?_
      refine A_iload (pc := 94) dX4_bestParting_94 rfl ?_
      refine A_istore_n (pc := 96) dX4_bestParting_96 rfl (Nat.le_of_ble_eq_true rfl) ?_
      refine A_iinc (pc := 97) dX4_bestParting_97 rfl (Nat.le_of_ble_eq_true rfl) ?_
      refine A_goto (pc := 100) 7 dX4_bestParting_100 (by decide) ?_
      refine A_loc (l2 := [(0, _), (1, _), (2, _), (3, _), (4, _)]) ⟨rfl, rfl, rfl, rfl, rfl, trivial⟩ ?_
      exact hK1 (by omega)
set_option maxRecDepth 20000 in
theorem l3_X4_bestParting {G : Gl} {d : Nat} {σ : Sg} {K : Option Value → Sg → Prop} {Z : Zt} (hS : SiR Z.1 Z.1.1 σ) (hO : OkZ Z) {k : Nat} (k8 : k < 8) (ks : RS (38 + 2 * k) (Z.2.1.1 k) (Z.2.1.2.1 k) (Z.2.1.2.2 k) σ) : ∀ (n p : Nat) (b c : Int), (p : Int) + n = Z.1.2.1 0 → -1 ≤ b → b < 9 → -1 ≤ c → c ≤ 160 → K (some (.int (iI (askG (askF Z k) n p b c)))) σ → AW G (d + 3) RX4 cX4_bestParting 7 (some .int) 7 [(0, .ref (gA G 5)), (1, .ref (gA G (38 + 2 * k))), (2, .int (iI b)), (3, .int (iI c)), (4, .int (iI (p : Int)))] [] σ K := by
  intro n
  induction n using Nat.strongRecOn
  rename_i n ih
  intro p b c hn b1 b2 c1 c2 hK
  have o3 := hO.1.2.2.1
  have ko := hO.2.1 k k8
  obtain ⟨g1, g2, g3, g4⟩ := ko.1
  have hr := askS_rng Z k p (Z.2.1.2.1 k).toNat 0
  have hf : 0 ≤ askF Z k p ∧ askF Z k p ≤ 160 := by unfold askF; omega
  refine A_iload (pc := 7) dX4_bestParting_7 rfl ?_
  refine A_aload_n (pc := 9) dX4_bestParting_9 rfl rfl ?_
  refine A_getIv (pc := 10) fX4_9 rfl rfl hS.1 dX4_bestParting_10 ?_
  refine A_icmp_ge (pc := 13) 103 dX4_bestParting_13 (by decide) (by omega) (by omega) (by omega) (by omega) (fun h13 => ?_) (fun h13 => ?_)
  · skip
    refine A_iload_n (pc := 103) dX4_bestParting_103 rfl rfl ?_
    refine A_iret (pc := 104) rfl dX4_bestParting_104 ?_
    have hn0 : n = 0 := by omega
    subst hn0
    exact hK
  · skip
    refine A_iconst (pc := 16) dX4_bestParting_16 ?_
    refine A_istore (pc := 17) dX4_bestParting_17 (Nat.le_of_ble_eq_true rfl) ?_
    refine A_iconst (pc := 19) dX4_bestParting_19 ?_
    refine A_istore (pc := 20) dX4_bestParting_20 (Nat.le_of_ble_eq_true rfl) ?_
    obtain ⟨u, rfl⟩ : ∃ u, n = u + 1 := ⟨n - 1, by omega⟩
    refine A_loc (l2 := [(0, _), (1, _), (2, _), (3, _), (4, _), (5, _), (6, _)]) ⟨rfl, rfl, rfl, rfl, rfl, rfl, rfl, trivial⟩ ?_
    refine l1_X4_bestParting hS hO k8 ks (p := p) (by omega) (Z.2.1.2.1 k).toNat 0 0 (by omega) ?_
    rw [Int.zero_add]
    refine l2_X4_bestParting hS hO k8 ks (p := p) (by omega) b1 b2 c1 c2 (fun h => ?_) (fun h => ?_)
    · refine ih u (by omega) (p + 1) _ _ (by omega) (by omega) (by omega) (by omega) (by omega) ?_
      rw [askG_y h] at hK
      exact hK
    · refine ih u (by omega) (p + 1) _ _ (by omega) (by omega) (by omega) (by omega) (by omega) ?_
      rw [askG_n h] at hK
      exact hK
set_option maxRecDepth 20000 in
theorem c_X4_bestParting {G : Gl} {d : Nat} {σ : Sg} {Z : Zt} (hS : SiR Z.1 Z.1.1 σ) (hO : OkZ Z) {k : Nat} (k8 : k < 8) (ks : RS (38 + 2 * k) (Z.2.1.1 k) (Z.2.1.2.1 k) (Z.2.1.2.2 k) σ)  : CT G (d + 3) yX4_bestParting cX4_bestParting 7 (some .int) [.ref (gA G 5), .ref (gA G (38 + 2 * k))] σ (R1 (.int (iI (askG (askF Z k) (Z.1.2.1 0).toNat 0 (-1) (-1)))) σ) := by
  refine CT.of (by decide +kernel) (Nat.le_of_ble_eq_true rfl) ?_
  change AW G _ RX4 _ _ _ 0 [(0, .ref (gA G 5)), (1, .ref (gA G (38 + 2 * k)))] [] _ _
  have o2 := hO.1.2.1
  refine A_iconst (pc := 0) dX4_bestParting_0 ?_
  refine A_istore_n (pc := 1) dX4_bestParting_1 rfl (Nat.le_of_ble_eq_true rfl) ?_
  refine A_iconst (pc := 2) dX4_bestParting_2 ?_
  refine A_istore_n (pc := 3) dX4_bestParting_3 rfl (Nat.le_of_ble_eq_true rfl) ?_
  refine A_iconst (pc := 4) dX4_bestParting_4 ?_
  refine A_istore (pc := 5) dX4_bestParting_5 (Nat.le_of_ble_eq_true rfl) ?_
  refine A_loc (l2 := [(0, _), (1, _), (2, _), (3, _), (4, _)]) ⟨rfl, rfl, rfl, rfl, rfl, trivial⟩ ?_
  exact l3_X4_bestParting hS hO k8 ks (Z.1.2.1 0).toNat 0 (-1) (-1) (by omega) (by omega) (by omega) (by omega) (by omega) ⟨rfl, rfl⟩
theorem dX8_ask_0 : decode cX8_ask 0 = .ok (.aload_n 0, 1) := by decide +kernel
theorem dX8_ask_1 : decode cX8_ask 1 = .ok (.iload_n 1, 1) := by decide +kernel
theorem dX8_ask_2 : decode cX8_ask 2 = .ok (.invokevirtual 274, 3) := by decide +kernel
theorem dX8_ask_5 : decode cX8_ask 5 = .ok (.istore_n 2, 1) := by decide +kernel
theorem dX8_ask_6 : decode cX8_ask 6 = .ok (.iload_n 2, 1) := by decide +kernel
theorem dX8_ask_7 : decode cX8_ask 7 = .ok (.ifCond .eq 9, 3) := by decide +kernel
theorem dX8_ask_10 : decode cX8_ask 10 = .ok (.aload_n 0, 1) := by decide +kernel
theorem dX8_ask_11 : decode cX8_ask 11 = .ok (.iload_n 2, 1) := by decide +kernel
theorem dX8_ask_12 : decode cX8_ask 12 = .ok (.invokevirtual 239, 3) := by decide +kernel
theorem dX8_ask_15 : decode cX8_ask 15 = .ok (.ireturn, 1) := by decide +kernel
theorem dX8_ask_16 : decode cX8_ask 16 = .ok (.aload_n 0, 1) := by decide +kernel
theorem dX8_ask_17 : decode cX8_ask 17 = .ok (.getfield 25, 3) := by decide +kernel
theorem dX8_ask_20 : decode cX8_ask 20 = .ok (.iload_n 1, 1) := by decide +kernel
theorem dX8_ask_21 : decode cX8_ask 21 = .ok (.aaload, 1) := by decide +kernel
theorem dX8_ask_22 : decode cX8_ask 22 = .ok (.getfield 293, 3) := by decide +kernel
theorem dX8_ask_25 : decode cX8_ask 25 = .ok (.iconst 2, 1) := by decide +kernel
theorem dX8_ask_26 : decode cX8_ask 26 = .ok (.if_icmp .ge 5, 3) := by decide +kernel
theorem dX8_ask_29 : decode cX8_ask 29 = .ok (.iconst (-1), 1) := by decide +kernel
theorem dX8_ask_30 : decode cX8_ask 30 = .ok (.ireturn, 1) := by decide +kernel
theorem dX8_ask_31 : decode cX8_ask 31 = .ok (.aload_n 0, 1) := by decide +kernel
theorem dX8_ask_32 : decode cX8_ask 32 = .ok (.getfield 43, 3) := by decide +kernel
theorem dX8_ask_35 : decode cX8_ask 35 = .ok (.aload_n 0, 1) := by decide +kernel
theorem dX8_ask_36 : decode cX8_ask 36 = .ok (.getfield 10, 3) := by decide +kernel
theorem dX8_ask_39 : decode cX8_ask 39 = .ok (.aload_n 0, 1) := by decide +kernel
theorem dX8_ask_40 : decode cX8_ask 40 = .ok (.getfield 10, 3) := by decide +kernel
theorem dX8_ask_43 : decode cX8_ask 43 = .ok (.getfield 245, 3) := by decide +kernel
theorem dX8_ask_46 : decode cX8_ask 46 = .ok (.invokevirtual 249, 3) := by decide +kernel
theorem dX8_ask_49 : decode cX8_ask 49 = .ok (.aload_n 0, 1) := by decide +kernel
theorem dX8_ask_50 : decode cX8_ask 50 = .ok (.getfield 43, 3) := by decide +kernel
theorem dX8_ask_53 : decode cX8_ask 53 = .ok (.aload_n 0, 1) := by decide +kernel
theorem dX8_ask_54 : decode cX8_ask 54 = .ok (.getfield 25, 3) := by decide +kernel
theorem dX8_ask_57 : decode cX8_ask 57 = .ok (.iload_n 1, 1) := by decide +kernel
theorem dX8_ask_58 : decode cX8_ask 58 = .ok (.aaload, 1) := by decide +kernel
theorem dX8_ask_59 : decode cX8_ask 59 = .ok (.invokevirtual 296, 3) := by decide +kernel
theorem dX8_ask_62 : decode cX8_ask 62 = .ok (.ireturn, 1) := by decide +kernel
set_option maxRecDepth 20000 in
theorem c_X8_ask {G : Gl} {d : Nat} {σ : Sg} {Z : Zt} (hZ : RelX Z σ) (hO : OkZ Z) {s : Int} (hs1 : -2147483648 ≤ s) (hs2 : s < 2147483648) : CT G (d + 5) yX8_ask cX8_ask 3 (some .int) [.ref (gA G 0), .int (iI s)] σ (RE (some (.int (iI (qAsk Z s).1))) (fun υ => RelX (qAsk Z s).2 υ ∧ Fr XC σ υ)) := by
  refine CT.of (by decide +kernel) (Nat.le_of_ble_eq_true rfl) ?_
  change AW G _ RX8 _ _ _ 0 [(0, .ref (gA G 0)), (1, .int (iI s))] [] _ _
  have hst := squT_rng Z s
  refine A_aload_n (pc := 0) dX8_ask_0 rfl rfl ?_
  refine A_iload_n (pc := 1) dX8_ask_1 rfl rfl ?_
  refine A_callV1 (pc := 2) kX8_274 rfl rfl (c_X8_squaresTrouble hZ hO hs1 hs2) dX8_ask_2 rfl rfl (Nat.le_of_ble_eq_true rfl) (Nat.le_of_ble_eq_true rfl) ?_
  refine A_istore_n (pc := 5) dX8_ask_5 rfl (Nat.le_of_ble_eq_true rfl) ?_
  refine A_iload_n (pc := 6) dX8_ask_6 rfl rfl ?_
  refine A_if_eq (pc := 7) 16 dX8_ask_7 (by decide) (by omega) (by omega) (fun h7 => ?_) (fun h7 => ?_)
  · skip
    have hs0 : squT Z s = 0 := by omega
    have h0 := squT_r hs0
    obtain ⟨h8, h100⟩ := rowT_0 h0
    obtain ⟨k, rfl⟩ := Int.eq_ofNat_of_zero_le (show 0 ≤ s by omega)
    have k8 : k < 8 := by omega
    have ks := hZ.2.1 k k8
    have ko := hO.2.1 k k8
    obtain ⟨b1, b2, b3, b4⟩ := ko.1
    simp only [Int.toNat_natCast] at h100
    refine A_aload_n (pc := 16) dX8_ask_16 rfl rfl ?_
    refine A_getR (pc := 17) fX8_25 rfl rfl dX8_ask_17 ?_
    refine A_iload_n (pc := 20) dX8_ask_20 rfl rfl ?_
    refine A_aald (pc := 21) _ rfl rfl (by omega) (Nat.le_of_ble_eq_true rfl) dX8_ask_21 ?_
    refine A_getIv (pc := 22) fX8_293 (shp_S (SCk (by omega))) rfl ks.2.1 dX8_ask_22 ?_
    refine A_iconst (pc := 25) dX8_ask_25 ?_
    refine A_icmp_ge (pc := 26) 31 dX8_ask_26 (by decide) (by omega) (by omega) (by omega) (by omega) (fun h26 => ?_) (fun h26 => ?_)
    · skip
      refine A_aload_n (pc := 31) dX8_ask_31 rfl rfl ?_
      refine A_getR (pc := 32) fX8_43 rfl rfl dX8_ask_32 ?_
      refine A_aload_n (pc := 35) dX8_ask_35 rfl rfl ?_
      refine A_getR (pc := 36) fX8_10 rfl rfl dX8_ask_36 ?_
      refine A_aload_n (pc := 39) dX8_ask_39 rfl rfl ?_
      refine A_getR (pc := 40) fX8_10 rfl rfl dX8_ask_40 ?_
      refine A_getLv (pc := 43) fX8_245 rfl rfl hZ.1.1 dX8_ask_43 ?_
      refine A_callVe0 (pc := 46) kX8_249 rfl rfl (c_X4_take TC14 hZ.1 hO.1 hO.1.1) dX8_ask_46 rfl rfl (Nat.le_of_ble_eq_true rfl) (Nat.le_of_ble_eq_true rfl) (fun υ hυ => ?_)
      have hZ2 := hZ.fr hυ.2 S56X
      have ks2 := hZ2.2.1 k k8
      refine A_aload_n (pc := 49) dX8_ask_49 rfl rfl ?_
      refine A_getR (pc := 50) fX8_43 rfl rfl dX8_ask_50 ?_
      refine A_aload_n (pc := 53) dX8_ask_53 rfl rfl ?_
      refine A_getR (pc := 54) fX8_25 rfl rfl dX8_ask_54 ?_
      refine A_iload_n (pc := 57) dX8_ask_57 rfl rfl ?_
      refine A_aald (pc := 58) _ rfl rfl (by omega) (Nat.le_of_ble_eq_true rfl) dX8_ask_58 ?_
      refine A_callV1 (pc := 59) kX8_296 rfl rfl (c_X4_bestParting hυ.1 hO k8 ks2) dX8_ask_59 rfl rfl (Nat.le_of_ble_eq_true rfl) (Nat.le_of_ble_eq_true rfl) ?_
      refine A_iret (pc := 62) rfl dX8_ask_62 ?_
      exact RQX (by unfold qAsk; simp only [Int.toNat_natCast]; rw [if_neg (by omega), if_neg (by omega)]) hZ2 (hυ.2.mono S56C)
    · skip
      refine A_iconst (pc := 29) dX8_ask_29 ?_
      refine A_iret (pc := 30) rfl dX8_ask_30 ?_
      exact RQX (by unfold qAsk; simp only [Int.toNat_natCast]; rw [if_neg (by omega), if_pos (by omega)]) hZ Fr.rf
  · skip
    refine A_aload_n (pc := 10) dX8_ask_10 rfl rfl ?_
    refine A_iload_n (pc := 11) dX8_ask_11 rfl rfl ?_
    refine A_callVe (pc := 12) kX8_239 rfl rfl (c_X8_refuseApart hZ hO (t := squT Z s) (by omega) (by omega)) dX8_ask_12 rfl rfl (Nat.le_of_ble_eq_true rfl) (Nat.le_of_ble_eq_true rfl) (fun υ hυ => ?_)
    refine A_iret (pc := 15) rfl dX8_ask_15 ?_
    exact RQX (by unfold qAsk; rw [if_pos (by omega)]; rfl) hυ.1 (hυ.2.mono XC2)
theorem dX8_fresh_0 : decode cX8_fresh 0 = .ok (.aload_n 0, 1) := by decide +kernel
theorem dX8_fresh_1 : decode cX8_fresh 1 = .ok (.getfield 10, 3) := by decide +kernel
theorem dX8_fresh_4 : decode cX8_fresh 4 = .ok (.iload_n 1, 1) := by decide +kernel
theorem dX8_fresh_5 : decode cX8_fresh 5 = .ok (.invokevirtual 180, 3) := by decide +kernel
theorem dX8_fresh_8 : decode cX8_fresh 8 = .ok (.ifCond .ne 10, 3) := by decide +kernel
theorem dX8_fresh_11 : decode cX8_fresh 11 = .ok (.aload_n 0, 1) := by decide +kernel
theorem dX8_fresh_12 : decode cX8_fresh 12 = .ok (.bipush (-6), 2) := by decide +kernel
theorem dX8_fresh_14 : decode cX8_fresh 14 = .ok (.invokevirtual 239, 3) := by decide +kernel
theorem dX8_fresh_17 : decode cX8_fresh 17 = .ok (.ireturn, 1) := by decide +kernel
theorem dX8_fresh_18 : decode cX8_fresh 18 = .ok (.iconst 0, 1) := by decide +kernel
theorem dX8_fresh_19 : decode cX8_fresh 19 = .ok (.istore_n 2, 1) := by decide +kernel
theorem dX8_fresh_20 : decode cX8_fresh 20 = .ok (.iload_n 2, 1) := by decide +kernel
theorem dX8_fresh_21 : decode cX8_fresh 21 = .ok (.bipush 49, 2) := by decide +kernel
theorem dX8_fresh_23 : decode cX8_fresh 23 = .ok (.if_icmp .ge 66, 3) := by decide +kernel
theorem dX8_fresh_26 : decode cX8_fresh 26 = .ok (.iconst 0, 1) := by decide +kernel
theorem dX8_fresh_27 : decode cX8_fresh 27 = .ok (.istore_n 3, 1) := by decide +kernel
theorem dX8_fresh_28 : decode cX8_fresh 28 = .ok (.iload_n 3, 1) := by decide +kernel
theorem dX8_fresh_29 : decode cX8_fresh 29 = .ok (.iconst 4, 1) := by decide +kernel
theorem dX8_fresh_30 : decode cX8_fresh 30 = .ok (.if_icmp .ge 53, 3) := by decide +kernel
theorem dX8_fresh_33 : decode cX8_fresh 33 = .ok (.aload_n 0, 1) := by decide +kernel
theorem dX8_fresh_34 : decode cX8_fresh 34 = .ok (.getfield 10, 3) := by decide +kernel
theorem dX8_fresh_37 : decode cX8_fresh 37 = .ok (.iload_n 2, 1) := by decide +kernel
theorem dX8_fresh_38 : decode cX8_fresh 38 = .ok (.invokevirtual 163, 3) := by decide +kernel
theorem dX8_fresh_41 : decode cX8_fresh 41 = .ok (.ifCond .eq 42, 3) := by decide +kernel
theorem dX8_fresh_44 : decode cX8_fresh 44 = .ok (.aload_n 0, 1) := by decide +kernel
theorem dX8_fresh_45 : decode cX8_fresh 45 = .ok (.getfield 10, 3) := by decide +kernel
theorem dX8_fresh_48 : decode cX8_fresh 48 = .ok (.getfield 245, 3) := by decide +kernel
theorem dX8_fresh_51 : decode cX8_fresh 51 = .ok (.iload_n 2, 1) := by decide +kernel
theorem dX8_fresh_52 : decode cX8_fresh 52 = .ok (.iload_n 3, 1) := by decide +kernel
theorem dX8_fresh_53 : decode cX8_fresh 53 = .ok (.aload_n 0, 1) := by decide +kernel
theorem dX8_fresh_54 : decode cX8_fresh 54 = .ok (.getfield 10, 3) := by decide +kernel
theorem dX8_fresh_57 : decode cX8_fresh 57 = .ok (.getfield 203, 3) := by decide +kernel
theorem dX8_fresh_60 : decode cX8_fresh 60 = .ok (.invokestatic 300, 3) := by decide +kernel
theorem dX8_fresh_63 : decode cX8_fresh 63 = .ok (.iload_n 1, 1) := by decide +kernel
theorem dX8_fresh_64 : decode cX8_fresh 64 = .ok (.invokestatic 304, 3) := by decide +kernel
theorem dX8_fresh_67 : decode cX8_fresh 67 = .ok (.ifCond .eq 10, 3) := by decide +kernel
theorem dX8_fresh_70 : decode cX8_fresh 70 = .ok (.bipush 10, 2) := by decide +kernel
theorem dX8_fresh_72 : decode cX8_fresh 72 = .ok (.iload_n 2, 1) := by decide +kernel
theorem dX8_fresh_73 : decode cX8_fresh 73 = .ok (.imul, 1) := by decide +kernel
theorem dX8_fresh_74 : decode cX8_fresh 74 = .ok (.iload_n 3, 1) := by decide +kernel
theorem dX8_fresh_75 : decode cX8_fresh 75 = .ok (.iadd, 1) := by decide +kernel
theorem dX8_fresh_76 : decode cX8_fresh 76 = .ok (.ireturn, 1) := by decide +kernel
theorem dX8_fresh_77 : decode cX8_fresh 77 = .ok (.iinc 3 1, 3) := by decide +kernel
theorem dX8_fresh_80 : decode cX8_fresh 80 = .ok (.goto (-52), 3) := by decide +kernel
theorem dX8_fresh_83 : decode cX8_fresh 83 = .ok (.iinc 2 1, 3) := by decide +kernel
theorem dX8_fresh_86 : decode cX8_fresh 86 = .ok (.goto (-66), 3) := by decide +kernel
theorem dX8_fresh_89 : decode cX8_fresh 89 = .ok (.iconst (-1), 1) := by decide +kernel
theorem dX8_fresh_90 : decode cX8_fresh 90 = .ok (.ireturn, 1) := by decide +kernel
set_option maxRecDepth 20000 in
theorem l1_X8_fresh {G : Gl} {d : Nat} {σ : Sg} {K : Option Value → Sg → Prop} {Z : Zt} (hZ : RelX Z σ) (hO : OkZ Z) {s : Int} (hs1 : -2147483648 ≤ s) (hs2 : s < 2147483648) {c : Nat} (hc : c < 49) : ∀ (n w : Nat), w + n = 4 → (frW Z.1 s c n w = -1 → AW G (d + 3) RX8 cX8_fresh 4 (some .int) 83 [(0, .ref (gA G 0)), (1, .int (iI s)), (2, .int (iI (c : Int)))] [] σ K) → (frW Z.1 s c n w ≠ -1 → K (some (.int (iI (frW Z.1 s c n w)))) σ) → AW G (d + 3) RX8 cX8_fresh 4 (some .int) 28 [(0, .ref (gA G 0)), (1, .int (iI s)), (2, .int (iI (c : Int))), (3, .int (iI (w : Int)))] [] σ K := by
  intro n
  induction n using Nat.strongRecOn
  rename_i n ih
  intro w hn hK1 hK2
  have hO2 := hO.1
  obtain ⟨o1, o2, o3, o4, o5, o6, o7, o8, o9⟩ := hO2
  refine A_iload_n (pc := 28) dX8_fresh_28 rfl rfl ?_
  refine A_iconst (pc := 29) dX8_fresh_29 ?_
  refine A_icmp_ge (pc := 30) 83 dX8_fresh_30 (by decide) (by omega) (by omega) (by omega) (by omega) (fun h30 => ?_) (fun h30 => ?_)
  · skip
    have hn0 : n = 0 := by omega
    subst hn0
    refine A_loc (l2 := [(0, _), (1, _), (2, _)]) ⟨rfl, rfl, rfl, trivial⟩ ?_
    exact hK1 rfl
  · skip
    refine A_aload_n (pc := 33) dX8_fresh_33 rfl rfl ?_
    refine A_getR (pc := 34) fX8_10 rfl rfl dX8_fresh_34 ?_
    refine A_iload_n (pc := 37) dX8_fresh_37 rfl rfl ?_
    refine A_callV1 (pc := 38) kX8_163 rfl rfl (c_X5_isHouse TC14 hZ.1 hO.1 (by omega) (by omega)) dX8_fresh_38 rfl rfl (Nat.le_of_ble_eq_true rfl) (Nat.le_of_ble_eq_true rfl) ?_
    refine A_ifb_eq (pc := 41) 83 dX8_fresh_41 (by decide) (fun h41 => ?_) (fun h41 => ?_)
    · skip
      refine A_loc (l2 := [(0, _), (1, _), (2, _)]) ⟨rfl, rfl, rfl, trivial⟩ ?_
      exact hK1 (frW_no h41 _ _)
    · skip
      refine A_aload_n (pc := 44) dX8_fresh_44 rfl rfl ?_
      refine A_getR (pc := 45) fX8_10 rfl rfl dX8_fresh_45 ?_
      refine A_getLv (pc := 48) fX8_245 rfl rfl hZ.1.1 dX8_fresh_48 ?_
      refine A_iload_n (pc := 51) dX8_fresh_51 rfl rfl ?_
      refine A_iload_n (pc := 52) dX8_fresh_52 rfl rfl ?_
      refine A_aload_n (pc := 53) dX8_fresh_53 rfl rfl ?_
      refine A_getR (pc := 54) fX8_10 rfl rfl dX8_fresh_54 ?_
      refine A_getIv (pc := 57) fX8_203 rfl rfl (show _ = Z.1.2.1 2 from hZ.1.2.1 2 (by decide)) dX8_fresh_57 ?_
      refine A_callS1 (pc := 60) kX8_300 (c_X0_line o1 (by omega) (by omega) (by omega) (by omega) (by omega) (by omega)) dX8_fresh_60 rfl rfl (Nat.le_of_ble_eq_true rfl) (Nat.le_of_ble_eq_true rfl) ?_
      refine A_iload_n (pc := 63) dX8_fresh_63 rfl rfl ?_
      refine A_callS1 (pc := 64) kX8_304 (c_X0_has (lineX_lt _ _ _ _) hs1 hs2) dX8_fresh_64 rfl rfl (Nat.le_of_ble_eq_true rfl) (Nat.le_of_ble_eq_true rfl) ?_
      refine A_ifb_eq (pc := 67) 77 dX8_fresh_67 (by decide) (fun h67 => ?_) (fun h67 => ?_)
      · skip
        refine A_iinc (pc := 77) dX8_fresh_77 rfl (Nat.le_of_ble_eq_true rfl) ?_
        refine A_goto (pc := 80) 28 dX8_fresh_80 (by decide) ?_
        obtain ⟨u, rfl⟩ : ∃ u, n = u + 1 := ⟨n - 1, by omega⟩
        refine A_loc (l2 := [(0, _), (1, _), (2, _), (3, _)]) ⟨rfl, rfl, rfl, rfl, trivial⟩ ?_
        rw [frW, if_neg (fun q => h67 q.2)] at hK1 hK2
        exact ih u (by omega) (w + 1) (by omega) hK1 hK2
      · skip
        refine A_bipush (pc := 70) dX8_fresh_70 (by decide) ?_
        refine A_iload_n (pc := 72) dX8_fresh_72 rfl rfl ?_
        refine A_imul (pc := 73) dX8_fresh_73 ?_
        refine A_iload_n (pc := 74) dX8_fresh_74 rfl rfl ?_
        refine A_iadd (pc := 75) dX8_fresh_75 ?_
        refine A_iret (pc := 76) rfl dX8_fresh_76 ?_
        obtain ⟨u, rfl⟩ : ∃ u, n = u + 1 := ⟨n - 1, by omega⟩
        rw [frW, if_pos ⟨h41, h67⟩] at hK2
        exact hK2 (by omega)
set_option maxRecDepth 20000 in
theorem l2_X8_fresh {G : Gl} {d : Nat} {σ : Sg} {K : Option Value → Sg → Prop} {Z : Zt} (hZ : RelX Z σ) (hO : OkZ Z) {s : Int} (hs1 : -2147483648 ≤ s) (hs2 : s < 2147483648) : ∀ (n c : Nat), c + n = 49 → K (some (.int (iI (frG Z.1 s n c)))) σ → AW G (d + 3) RX8 cX8_fresh 4 (some .int) 20 [(0, .ref (gA G 0)), (1, .int (iI s)), (2, .int (iI (c : Int)))] [] σ K := by
  intro n
  induction n using Nat.strongRecOn
  rename_i n ih
  intro c hn hK
  refine A_iload_n (pc := 20) dX8_fresh_20 rfl rfl ?_
  refine A_bipush (pc := 21) dX8_fresh_21 (by decide) ?_
  refine A_icmp_ge (pc := 23) 89 dX8_fresh_23 (by decide) (by omega) (by omega) (by omega) (by omega) (fun h23 => ?_) (fun h23 => ?_)
  · skip
    refine A_iconst (pc := 89) dX8_fresh_89 ?_
    refine A_iret (pc := 90) rfl dX8_fresh_90 ?_
    have hn0 : n = 0 := by omega
    subst hn0
    exact hK
  · skip
    refine A_iconst (pc := 26) dX8_fresh_26 ?_
    refine A_istore_n (pc := 27) dX8_fresh_27 rfl (Nat.le_of_ble_eq_true rfl) ?_
    obtain ⟨u, rfl⟩ : ∃ u, n = u + 1 := ⟨n - 1, by omega⟩
    refine A_loc (l2 := [(0, _), (1, _), (2, _), (3, _)]) ⟨rfl, rfl, rfl, rfl, trivial⟩ ?_
    refine l1_X8_fresh hZ hO hs1 hs2 (c := c) (by omega) 4 0 rfl (fun h => ?_) (fun h => ?_)
    · refine A_iinc (pc := 83) dX8_fresh_83 rfl (Nat.le_of_ble_eq_true rfl) ?_
      refine A_goto (pc := 86) 20 dX8_fresh_86 (by decide) ?_
      refine A_loc (l2 := [(0, _), (1, _), (2, _)]) ⟨rfl, rfl, rfl, trivial⟩ ?_
      refine ih u (by omega) (c + 1) (by omega) ?_
      rw [frG, if_pos h] at hK
      exact hK
    · rw [frG, if_neg h] at hK
      exact hK
set_option maxRecDepth 20000 in
theorem c_X8_fresh {G : Gl} {d : Nat} {σ : Sg} {Z : Zt} (hZ : RelX Z σ) (hO : OkZ Z) {s : Int} (hs1 : -2147483648 ≤ s) (hs2 : s < 2147483648) : CT G (d + 3) yX8_fresh cX8_fresh 4 (some .int) [.ref (gA G 0), .int (iI s)] σ (RE (some (.int (iI (qFresh Z s).1))) (fun υ => RelX (qFresh Z s).2 υ ∧ Fr XC σ υ)) := by
  refine CT.of (by decide +kernel) (Nat.le_of_ble_eq_true rfl) ?_
  change AW G _ RX8 _ _ _ 0 [(0, .ref (gA G 0)), (1, .int (iI s))] [] _ _
  refine A_aload_n (pc := 0) dX8_fresh_0 rfl rfl ?_
  refine A_getR (pc := 1) fX8_10 rfl rfl dX8_fresh_1 ?_
  refine A_iload_n (pc := 4) dX8_fresh_4 rfl rfl ?_
  refine A_callV1 (pc := 5) kX8_180 rfl rfl (c_X5_isYard TC14 hZ.1 hO.1 hs1 hs2) dX8_fresh_5 rfl rfl (Nat.le_of_ble_eq_true rfl) (Nat.le_of_ble_eq_true rfl) ?_
  refine A_ifb_ne (pc := 8) 18 dX8_fresh_8 (by decide) (fun h8 => ?_) (fun h8 => ?_)
  · skip
    refine A_iconst (pc := 18) dX8_fresh_18 ?_
    refine A_istore_n (pc := 19) dX8_fresh_19 rfl (Nat.le_of_ble_eq_true rfl) ?_
    refine A_loc (l2 := [(0, _), (1, _), (2, _)]) ⟨rfl, rfl, rfl, trivial⟩ ?_
    refine l2_X8_fresh hZ hO hs1 hs2 49 0 rfl ?_
    exact RQX (by unfold qFresh; rw [if_neg (fun q => q h8)]) hZ Fr.rf
  · skip
    refine A_aload_n (pc := 11) dX8_fresh_11 rfl rfl ?_
    refine A_bipush (pc := 12) dX8_fresh_12 (by decide) ?_
    refine A_callVe (pc := 14) kX8_239 rfl rfl (c_X8_refuseApart hZ hO (t := -6) (by omega) (by omega)) dX8_fresh_14 rfl rfl (Nat.le_of_ble_eq_true rfl) (Nat.le_of_ble_eq_true rfl) (fun υ hυ => ?_)
    refine A_iret (pc := 17) rfl dX8_fresh_17 ?_
    exact RQX (by unfold qFresh; rw [if_pos h8]; rfl) hυ.1 (hυ.2.mono XC2)
theorem dX8_housed_0 : decode cX8_housed 0 = .ok (.iload_n 1, 1) := by decide +kernel
theorem dX8_housed_1 : decode cX8_housed 1 = .ok (.ifCond .lt 8, 3) := by decide +kernel
theorem dX8_housed_4 : decode cX8_housed 4 = .ok (.iload_n 1, 1) := by decide +kernel
theorem dX8_housed_5 : decode cX8_housed 5 = .ok (.iconst 1, 1) := by decide +kernel
theorem dX8_housed_6 : decode cX8_housed 6 = .ok (.if_icmp .le 10, 3) := by decide +kernel
theorem dX8_housed_9 : decode cX8_housed 9 = .ok (.aload_n 0, 1) := by decide +kernel
theorem dX8_housed_10 : decode cX8_housed 10 = .ok (.bipush (-5), 2) := by decide +kernel
theorem dX8_housed_12 : decode cX8_housed 12 = .ok (.invokevirtual 239, 3) := by decide +kernel
theorem dX8_housed_15 : decode cX8_housed 15 = .ok (.ireturn, 1) := by decide +kernel
theorem dX8_housed_16 : decode cX8_housed 16 = .ok (.iconst (-1), 1) := by decide +kernel
theorem dX8_housed_17 : decode cX8_housed 17 = .ok (.istore_n 2, 1) := by decide +kernel
theorem dX8_housed_18 : decode cX8_housed 18 = .ok (.iconst (-1), 1) := by decide +kernel
theorem dX8_housed_19 : decode cX8_housed 19 = .ok (.istore_n 3, 1) := by decide +kernel
theorem dX8_housed_20 : decode cX8_housed 20 = .ok (.iconst 0, 1) := by decide +kernel
theorem dX8_housed_21 : decode cX8_housed 21 = .ok (.istore 4, 2) := by decide +kernel
theorem dX8_housed_23 : decode cX8_housed 23 = .ok (.iload 4, 2) := by decide +kernel
theorem dX8_housed_25 : decode cX8_housed 25 = .ok (.bipush 49, 2) := by decide +kernel
theorem dX8_housed_27 : decode cX8_housed 27 = .ok (.if_icmp .ge 92, 3) := by decide +kernel
theorem dX8_housed_30 : decode cX8_housed 30 = .ok (.aload_n 0, 1) := by decide +kernel
theorem dX8_housed_31 : decode cX8_housed 31 = .ok (.getfield 10, 3) := by decide +kernel
theorem dX8_housed_34 : decode cX8_housed 34 = .ok (.iload 4, 2) := by decide +kernel
theorem dX8_housed_36 : decode cX8_housed 36 = .ok (.invokevirtual 180, 3) := by decide +kernel
theorem dX8_housed_39 : decode cX8_housed 39 = .ok (.ifCond .eq 74, 3) := by decide +kernel
theorem dX8_housed_42 : decode cX8_housed 42 = .ok (.aload_n 0, 1) := by decide +kernel
theorem dX8_housed_43 : decode cX8_housed 43 = .ok (.getfield 10, 3) := by decide +kernel
theorem dX8_housed_46 : decode cX8_housed 46 = .ok (.iload 4, 2) := by decide +kernel
theorem dX8_housed_48 : decode cX8_housed 48 = .ok (.invokevirtual 157, 3) := by decide +kernel
theorem dX8_housed_51 : decode cX8_housed 51 = .ok (.ifCond .ne 62, 3) := by decide +kernel
theorem dX8_housed_54 : decode cX8_housed 54 = .ok (.aload_n 0, 1) := by decide +kernel
theorem dX8_housed_55 : decode cX8_housed 55 = .ok (.getfield 43, 3) := by decide +kernel
theorem dX8_housed_58 : decode cX8_housed 58 = .ok (.aload_n 0, 1) := by decide +kernel
theorem dX8_housed_59 : decode cX8_housed 59 = .ok (.getfield 10, 3) := by decide +kernel
theorem dX8_housed_62 : decode cX8_housed 62 = .ok (.aload_n 0, 1) := by decide +kernel
theorem dX8_housed_63 : decode cX8_housed 63 = .ok (.getfield 10, 3) := by decide +kernel
theorem dX8_housed_66 : decode cX8_housed 66 = .ok (.getfield 245, 3) := by decide +kernel
theorem dX8_housed_69 : decode cX8_housed 69 = .ok (.iload 4, 2) := by decide +kernel
theorem dX8_housed_71 : decode cX8_housed 71 = .ok (.invokestatic 308, 3) := by decide +kernel
theorem dX8_housed_74 : decode cX8_housed 74 = .ok (.invokevirtual 249, 3) := by decide +kernel
theorem dX8_housed_77 : decode cX8_housed 77 = .ok (.aload_n 0, 1) := by decide +kernel
theorem dX8_housed_78 : decode cX8_housed 78 = .ok (.getfield 10, 3) := by decide +kernel
theorem dX8_housed_81 : decode cX8_housed 81 = .ok (.aload_n 0, 1) := by decide +kernel
theorem dX8_housed_82 : decode cX8_housed 82 = .ok (.getfield 43, 3) := by decide +kernel
theorem dX8_housed_85 : decode cX8_housed 85 = .ok (.invokevirtual 253, 3) := by decide +kernel
theorem dX8_housed_88 : decode cX8_housed 88 = .ok (.invokevirtual 206, 3) := by decide +kernel
theorem dX8_housed_91 : decode cX8_housed 91 = .ok (.invokestatic 218, 3) := by decide +kernel
theorem dX8_housed_94 : decode cX8_housed 94 = .ok (.istore 5, 2) := by decide +kernel
theorem dX8_housed_96 : decode cX8_housed 96 = .ok (.iload_n 2, 1) := by decide +kernel
theorem dX8_housed_97 : decode cX8_housed 97 = .ok (.iconst (-1), 1) := by decide +kernel
theorem dX8_housed_98 : decode cX8_housed 98 = .ok (.if_icmp .eq 9, 3) := by decide +kernel
theorem dX8_housed_101 : decode cX8_housed 101 = .ok (.iload 5, 2) := by decide +kernel
theorem dX8_housed_103 : decode cX8_housed 103 = .ok (.iload_n 3, 1) := by decide +kernel
theorem dX8_housed_104 : decode cX8_housed 104 = .ok (.if_icmp .ge 9, 3) := by decide +kernel
theorem dX8_housed_107 : decode cX8_housed 107 = .ok (.iload 4, 2) := by decide +kernel
theorem dX8_housed_109 : decode cX8_housed 109 = .ok (.istore_n 2, 1) := by decide +kernel
theorem dX8_housed_110 : decode cX8_housed 110 = .ok (.iload 5, 2) := by decide +kernel
theorem dX8_housed_112 : decode cX8_housed 112 = .ok (.istore_n 3, 1) := by decide +kernel
theorem dX8_housed_113 : decode cX8_housed 113 = .ok (.iinc 4 1, 3) := by decide +kernel
theorem dX8_housed_116 : decode cX8_housed 116 = .ok (.goto (-93), 3) := by decide +kernel
theorem dX8_housed_119 : decode cX8_housed 119 = .ok (.iload_n 1, 1) := by decide +kernel
theorem dX8_housed_120 : decode cX8_housed 120 = .ok (.ifCond .ne 7, 3) := by decide +kernel
theorem dX8_housed_123 : decode cX8_housed 123 = .ok (.iload_n 2, 1) := by decide +kernel
theorem dX8_housed_124 : decode cX8_housed 124 = .ok (.goto 4, 3) := by decide +kernel
theorem dX8_housed_127 : decode cX8_housed 127 = .ok (.iload_n 3, 1) := by decide +kernel
theorem dX8_housed_128 : decode cX8_housed 128 = .ok (.ireturn, 1) := by decide +kernel
set_option maxRecDepth 20000 in
theorem l_X8_housed {G : Gl} {d : Nat} {σ0 : Sg} {K : Option Value → Sg → Prop} {Z : Zt} (hZ0 : RelX Z σ0) (hO : OkZ Z) {w : Int} (w1 : 0 ≤ w) (w2 : w ≤ 1) : ∀ (n i : Nat) (b c : Int) (σ : Sg), i + n = 49 → -1 ≤ b → b < 49 → -1 ≤ c → c < 64 → (b = -1 → c = -1) → Fr S56 σ0 σ → (∀ υ, Fr S56 σ0 υ → K (some (.int (iI (if w = 0 then (houG (houF Z.1) (houC Z.1) n i b c).1 else (houG (houF Z.1) (houC Z.1) n i b c).2)))) υ) → AW G (d + 5) RX8 cX8_housed 6 (some .int) 23 [(0, .ref (gA G 0)), (1, .int (iI w)), (2, .int (iI b)), (3, .int (iI c)), (4, .int (iI (i : Int)))] [] σ K := by
  intro n
  induction n using Nat.strongRecOn
  rename_i n ih
  intro i b c σ hn b1 b2 c1 c2 hbc hF hK
  have hZ := hZ0.fr hF S56X
  have hr := houC_rng Z.1 i
  have hO2 := hO.1
  obtain ⟨o1, o2, o3, o4, o5, o6, o7, o8, o9⟩ := hO2
  refine A_iload (pc := 23) dX8_housed_23 rfl ?_
  refine A_bipush (pc := 25) dX8_housed_25 (by decide) ?_
  refine A_icmp_ge (pc := 27) 119 dX8_housed_27 (by decide) (by omega) (by omega) (by omega) (by omega) (fun h27 => ?_) (fun h27 => ?_)
  · skip
    refine A_iload_n (pc := 119) dX8_housed_119 rfl rfl ?_
    refine A_if_ne (pc := 120) 127 dX8_housed_120 (by decide) (by omega) (by omega) (fun h120 => ?_) (fun h120 => ?_)
    · skip
      refine A_iload_n (pc := 127) dX8_housed_127 rfl rfl ?_
      refine A_iret (pc := 128) rfl dX8_housed_128 ?_
      have hn0 : n = 0 := by omega
      subst hn0
      have g2 := hK σ hF
      rw [if_neg (by omega)] at g2
      exact g2
    · skip
      refine A_iload_n (pc := 123) dX8_housed_123 rfl rfl ?_
      refine A_goto (pc := 124) 128 dX8_housed_124 (by decide) ?_
      refine A_iret (pc := 128) rfl dX8_housed_128 ?_
      have hn0 : n = 0 := by omega
      subst hn0
      have g2 := hK σ hF
      rw [if_pos (by omega)] at g2
      exact g2
  · skip
    refine A_aload_n (pc := 30) dX8_housed_30 rfl rfl ?_
    refine A_getR (pc := 31) fX8_10 rfl rfl dX8_housed_31 ?_
    refine A_iload (pc := 34) dX8_housed_34 rfl ?_
    refine A_callV1 (pc := 36) kX8_180 rfl rfl (c_X5_isYard TC14 hZ.1 hO.1 (by omega) (by omega)) dX8_housed_36 rfl rfl (Nat.le_of_ble_eq_true rfl) (Nat.le_of_ble_eq_true rfl) ?_
    refine A_ifb_eq (pc := 39) 113 dX8_housed_39 (by decide) (fun h39 => ?_) (fun h39 => ?_)
    · skip
      refine A_iinc (pc := 113) dX8_housed_113 rfl (Nat.le_of_ble_eq_true rfl) ?_
      refine A_goto (pc := 116) 23 dX8_housed_116 (by decide) ?_
      obtain ⟨u, rfl⟩ : ∃ u, n = u + 1 := ⟨n - 1, by omega⟩
      refine A_loc (l2 := [(0, _), (1, _), (2, _), (3, _), (4, _)]) ⟨rfl, rfl, rfl, rfl, rfl, trivial⟩ ?_
      have hf : houF Z.1 i = false := decide_eq_false (fun q => h39 ⟨⟨by omega, by omega⟩, q.1⟩)
      refine ih u (by omega) (i + 1) b c _ (by omega) b1 b2 c1 c2 hbc hF (fun υ g => ?_)
      have g2 := hK υ g
      rw [houG_f hf] at g2
      exact g2
    · skip
      refine A_aload_n (pc := 42) dX8_housed_42 rfl rfl ?_
      refine A_getR (pc := 43) fX8_10 rfl rfl dX8_housed_43 ?_
      refine A_iload (pc := 46) dX8_housed_46 rfl ?_
      refine A_callV1 (pc := 48) kX8_157 rfl rfl (c_X5_isSomebodyAt TC14 hZ.1 hO.1 (by omega) (by omega)) dX8_housed_48 rfl rfl (Nat.le_of_ble_eq_true rfl) (Nat.le_of_ble_eq_true rfl) ?_
      refine A_ifb_ne (pc := 51) 113 dX8_housed_51 (by decide) (fun h51 => ?_) (fun h51 => ?_)
      · skip
        refine A_iinc (pc := 113) dX8_housed_113 rfl (Nat.le_of_ble_eq_true rfl) ?_
        refine A_goto (pc := 116) 23 dX8_housed_116 (by decide) ?_
        obtain ⟨u, rfl⟩ : ∃ u, n = u + 1 := ⟨n - 1, by omega⟩
        refine A_loc (l2 := [(0, _), (1, _), (2, _), (3, _), (4, _)]) ⟨rfl, rfl, rfl, rfl, rfl, trivial⟩ ?_
        have hf : houF Z.1 i = false := decide_eq_false (fun q => q.2 h51)
        refine ih u (by omega) (i + 1) b c _ (by omega) b1 b2 c1 c2 hbc hF (fun υ g => ?_)
        have g2 := hK υ g
        rw [houG_f hf] at g2
        exact g2
      · skip
        have hf : houF Z.1 i = true := decide_eq_true ⟨h39.2, h51⟩
        refine A_aload_n (pc := 54) dX8_housed_54 rfl rfl ?_
        refine A_getR (pc := 55) fX8_43 rfl rfl dX8_housed_55 ?_
        refine A_aload_n (pc := 58) dX8_housed_58 rfl rfl ?_
        refine A_getR (pc := 59) fX8_10 rfl rfl dX8_housed_59 ?_
        refine A_aload_n (pc := 62) dX8_housed_62 rfl rfl ?_
        refine A_getR (pc := 63) fX8_10 rfl rfl dX8_housed_63 ?_
        refine A_getLv (pc := 66) fX8_245 rfl rfl hZ.1.1 dX8_housed_66 ?_
        refine A_iload (pc := 69) dX8_housed_69 rfl ?_
        refine A_callS1 (pc := 71) kX8_308 (c_X0_with o1 (by omega) (by omega)) dX8_housed_71 rfl rfl (Nat.le_of_ble_eq_true rfl) (Nat.le_of_ble_eq_true rfl) ?_
        refine A_callVe0 (pc := 74) kX8_249 rfl rfl (c_X4_take TC14 hZ.1 hO.1 (or49 o1 (sqB_lt _))) dX8_housed_74 rfl rfl (Nat.le_of_ble_eq_true rfl) (Nat.le_of_ble_eq_true rfl) (fun υ hυ => ?_)
        have hF2 := hF.tr hυ.2
        have hZ2 := hZ.fr hυ.2 S56X
        refine A_aload_n (pc := 77) dX8_housed_77 rfl rfl ?_
        refine A_getR (pc := 78) fX8_10 rfl rfl dX8_housed_78 ?_
        refine A_aload_n (pc := 81) dX8_housed_81 rfl rfl ?_
        refine A_getR (pc := 82) fX8_43 rfl rfl dX8_housed_82 ?_
        refine A_callV1 (pc := 85) kX8_253 rfl rfl (c_X4_union hυ.1 hO.1) dX8_housed_85 rfl rfl (Nat.le_of_ble_eq_true rfl) (Nat.le_of_ble_eq_true rfl) ?_
        refine A_callV1 (pc := 88) kX8_206 rfl rfl (c_X5_walkersIn TC14 hZ2.1 hO.1 (allB_lt _ _)) dX8_housed_88 rfl rfl (Nat.le_of_ble_eq_true rfl) (Nat.le_of_ble_eq_true rfl) ?_
        refine A_callS1 (pc := 91) kX8_218 (c_J6_bitCount_0f7a4) dX8_housed_91 rfl rfl (Nat.le_of_ble_eq_true rfl) (Nat.le_of_ble_eq_true rfl) ?_
        change AW G _ _ _ _ _ _ _ [.int (iI (houC Z.1 i))] _ _
        refine A_istore (pc := 94) dX8_housed_94 (Nat.le_of_ble_eq_true rfl) ?_
        refine A_iload_n (pc := 96) dX8_housed_96 rfl rfl ?_
        refine A_iconst (pc := 97) dX8_housed_97 ?_
        refine A_icmp_eq (pc := 98) 107 dX8_housed_98 (by decide) (by omega) (by omega) (by omega) (by omega) (fun h98 => ?_) (fun h98 => ?_)
        · skip
          refine A_iload (pc := 107) dX8_housed_107 rfl ?_
          refine A_istore_n (pc := 109) dX8_housed_109 rfl (Nat.le_of_ble_eq_true rfl) ?_
          refine A_iload (pc := 110) dX8_housed_110 rfl ?_
          refine A_istore_n (pc := 112) dX8_housed_112 rfl (Nat.le_of_ble_eq_true rfl) ?_
          refine A_iinc (pc := 113) dX8_housed_113 rfl (Nat.le_of_ble_eq_true rfl) ?_
          refine A_goto (pc := 116) 23 dX8_housed_116 (by decide) ?_
          obtain ⟨u, rfl⟩ : ∃ u, n = u + 1 := ⟨n - 1, by omega⟩
          refine A_loc (l2 := [(0, _), (1, _), (2, _), (3, _), (4, _)]) ⟨rfl, rfl, rfl, rfl, rfl, trivial⟩ ?_
          refine ih u (by omega) (i + 1) (i : Int) (houC Z.1 i) _ (by omega) (by omega) (by omega) (by omega) (by omega) (by omega) hF2 (fun υ g => ?_)
          have g2 := hK υ g
          rw [houG_y hf (Or.inl h98)] at g2
          exact g2
        · skip
          refine A_iload (pc := 101) dX8_housed_101 rfl ?_
          refine A_iload_n (pc := 103) dX8_housed_103 rfl rfl ?_
          refine A_icmp_ge (pc := 104) 113 dX8_housed_104 (by decide) (by omega) (by omega) (by omega) (by omega) (fun h104 => ?_) (fun h104 => ?_)
          · skip
            refine A_iinc (pc := 113) dX8_housed_113 rfl (Nat.le_of_ble_eq_true rfl) ?_
            refine A_goto (pc := 116) 23 dX8_housed_116 (by decide) ?_
            obtain ⟨u, rfl⟩ : ∃ u, n = u + 1 := ⟨n - 1, by omega⟩
            refine A_loc (l2 := [(0, _), (1, _), (2, _), (3, _), (4, _)]) ⟨rfl, rfl, rfl, rfl, rfl, trivial⟩ ?_
            refine ih u (by omega) (i + 1) b c _ (by omega) b1 b2 c1 c2 hbc hF2 (fun υ g => ?_)
            have g2 := hK υ g
            rw [houG_n (by omega)] at g2
            exact g2
          · skip
            refine A_iload (pc := 107) dX8_housed_107 rfl ?_
            refine A_istore_n (pc := 109) dX8_housed_109 rfl (Nat.le_of_ble_eq_true rfl) ?_
            refine A_iload (pc := 110) dX8_housed_110 rfl ?_
            refine A_istore_n (pc := 112) dX8_housed_112 rfl (Nat.le_of_ble_eq_true rfl) ?_
            refine A_iinc (pc := 113) dX8_housed_113 rfl (Nat.le_of_ble_eq_true rfl) ?_
            refine A_goto (pc := 116) 23 dX8_housed_116 (by decide) ?_
            obtain ⟨u, rfl⟩ : ∃ u, n = u + 1 := ⟨n - 1, by omega⟩
            refine A_loc (l2 := [(0, _), (1, _), (2, _), (3, _), (4, _)]) ⟨rfl, rfl, rfl, rfl, rfl, trivial⟩ ?_
            refine ih u (by omega) (i + 1) (i : Int) (houC Z.1 i) _ (by omega) (by omega) (by omega) (by omega) (by omega) (by omega) hF2 (fun υ g => ?_)
            have g2 := hK υ g
            rw [houG_y hf (Or.inr (by omega))] at g2
            exact g2
set_option maxRecDepth 20000 in
theorem c_X8_housed {G : Gl} {d : Nat} {σ : Sg} {Z : Zt} (hZ : RelX Z σ) (hO : OkZ Z) {w : Int} (hw1 : -2147483648 ≤ w) (hw2 : w < 2147483648) : CT G (d + 5) yX8_housed cX8_housed 6 (some .int) [.ref (gA G 0), .int (iI w)] σ (RE (some (.int (iI (qHoused Z w).1))) (fun υ => RelX (qHoused Z w).2 υ ∧ Fr XC σ υ)) := by
  refine CT.of (by decide +kernel) (Nat.le_of_ble_eq_true rfl) ?_
  change AW G _ RX8 _ _ _ 0 [(0, .ref (gA G 0)), (1, .int (iI w))] [] _ _
  refine A_iload_n (pc := 0) dX8_housed_0 rfl rfl ?_
  refine A_if_lt (pc := 1) 9 dX8_housed_1 (by decide) (by omega) (by omega) (fun h1 => ?_) (fun h1 => ?_)
  · skip
    refine A_aload_n (pc := 9) dX8_housed_9 rfl rfl ?_
    refine A_bipush (pc := 10) dX8_housed_10 (by decide) ?_
    refine A_callVe (pc := 12) kX8_239 rfl rfl (c_X8_refuseApart hZ hO (t := -5) (by omega) (by omega)) dX8_housed_12 rfl rfl (Nat.le_of_ble_eq_true rfl) (Nat.le_of_ble_eq_true rfl) (fun υ hυ => ?_)
    refine A_iret (pc := 15) rfl dX8_housed_15 ?_
    exact RQX (by unfold qHoused; rw [if_pos (by omega)]; rfl) hυ.1 (hυ.2.mono XC2)
  · skip
    refine A_iload_n (pc := 4) dX8_housed_4 rfl rfl ?_
    refine A_iconst (pc := 5) dX8_housed_5 ?_
    refine A_icmp_le (pc := 6) 16 dX8_housed_6 (by decide) (by omega) (by omega) (by omega) (by omega) (fun h6 => ?_) (fun h6 => ?_)
    · skip
      refine A_iconst (pc := 16) dX8_housed_16 ?_
      refine A_istore_n (pc := 17) dX8_housed_17 rfl (Nat.le_of_ble_eq_true rfl) ?_
      refine A_iconst (pc := 18) dX8_housed_18 ?_
      refine A_istore_n (pc := 19) dX8_housed_19 rfl (Nat.le_of_ble_eq_true rfl) ?_
      refine A_iconst (pc := 20) dX8_housed_20 ?_
      refine A_istore (pc := 21) dX8_housed_21 (Nat.le_of_ble_eq_true rfl) ?_
      refine A_loc (l2 := [(0, _), (1, _), (2, _), (3, _), (4, _)]) ⟨rfl, rfl, rfl, rfl, rfl, trivial⟩ ?_
      refine l_X8_housed hZ hO (by omega) (by omega) 49 0 (-1) (-1) σ rfl (by omega) (by omega) (by omega) (by omega) (fun _ => rfl) Fr.rf (fun υ g => ?_)
      refine RQX ?_ (hZ.fr g S56X) (g.mono S56C)
      unfold qHoused
      rw [if_neg (by omega)]
      by_cases hw : w = 0
      · rw [if_pos hw, if_pos hw]
      · rw [if_neg hw, if_neg hw]
        by_cases q : (houG (houF Z.1) (houC Z.1) 49 0 (-1) (-1)).1 = -1
        · rw [if_pos q, houG_e (fun _ => rfl) q]
        · rw [if_neg q]
    · skip
      refine A_aload_n (pc := 9) dX8_housed_9 rfl rfl ?_
      refine A_bipush (pc := 10) dX8_housed_10 (by decide) ?_
      refine A_callVe (pc := 12) kX8_239 rfl rfl (c_X8_refuseApart hZ hO (t := -5) (by omega) (by omega)) dX8_housed_12 rfl rfl (Nat.le_of_ble_eq_true rfl) (Nat.le_of_ble_eq_true rfl) (fun υ hυ => ?_)
      refine A_iret (pc := 15) rfl dX8_housed_15 ?_
      exact RQX (by unfold qHoused; rw [if_pos (by omega)]; rfl) hυ.1 (hυ.2.mono XC2)
