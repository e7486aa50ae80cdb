/-! PART 28: the reference's ways -/
def RLe (L Fi : Int → Int) (σ : Sg) : Prop := ∀ s : Nat, s < 49 → σ.1 72 s = L s ∧ σ.1 73 s = Fi s
def finL (L : Int → Int) : Nat → Bool := fun k => decide (L k < 999999)
def sumL (L Fi : Int → Int) : Int := sumR (fun k => 5 * L k + Fi k) 49 0
def updI (L : Int → Int) (q v : Int) : Int → Int := fun s => if s = q then v else L s
theorem updI_eq {L : Int → Int} {q v : Int} : updI L q v q = v := if_pos rfl
theorem updI_ne {L : Int → Int} {q v s : Int} (h : s ≠ q) : updI L q v s = L s := if_neg h
theorem sumR_upd {f g : Nat → Int} {b : Nat} (h : ∀ j, j ≠ b → f j = g j) : ∀ n i, i ≤ b → b < i + n → sumR f n i = sumR g n i + (f b - g b)
  | 0, i, h1, h2 => by omega
  | n + 1, i, h1, h2 => by
    by_cases e : i = b
    · subst e
      have z : ∀ n k, i < k → sumR f n k = sumR g n k := by
        intro n
        induction n with
        | zero => intro k _; rfl
        | succ n ih => intro k hk; rw [sumR, sumR, h k (by omega), ih (k + 1) (by omega)]
      rw [sumR, sumR, z n (i + 1) (by omega)]; omega
    · rw [sumR, sumR, h i e, sumR_upd h n (i + 1) (by omega) (by omega)]; omega
theorem sumR_nn {f : Nat → Int} : ∀ n i, (∀ k, i ≤ k → k < i + n → 0 ≤ f k) → 0 ≤ sumR f n i
  | 0, _, _ => Int.le_refl _
  | n + 1, i, h => by
    have := h i (Nat.le_refl _) (by omega)
    have := sumR_nn n (i + 1) (fun k h1 h2 => h k (by omega) (by omega))
    rw [sumR]; omega
def LdI (τ : Tw) (a : Int) (L Fi : Int → Int) : Prop := L a = 0 ∧ (∀ q, inS q → q ≠ a → L q < 999999 → FW τ 100 a q (L q) (Fi q)) ∧ ∀ q, inS q → 0 ≤ L q ∧ L q ≤ 999999 ∧ 0 ≤ Fi q ∧ Fi q ≤ 4 ∧ (L q < 999999 → L q ≤ 6301 * (cntR (finL L) 49 0 - 1))
/-- nothing is to be lowered from c on w -/
def StA (τ : Tw) (a : Int) (L Fi : Int → Int) (c w : Int) : Prop := L c < 999999 → opn τ (bes c w) → bes c w ≠ a → L (bes c w) < L c + prc τ 100 (bes c w) w ∨ (L (bes c w) = L c + prc τ 100 (bes c w) w ∧ Fi (bes c w) ≤ if c = a then w else Fi c)
theorem LdI.nn {τ : Tw} {a : Int} {L Fi : Int → Int} (h : LdI τ a L Fi) : 0 ≤ sumL L Fi := sumR_nn 49 0 (fun k _ hk => by have := h.2.2 k ⟨by omega, by omega⟩; omega)
theorem LdI.low {τ : Tw} {a : Int} {L Fi : Int → Int} (h : LdI τ a L Fi) (ia : inS a) {c w : Int} (hc : inS c) (w1 : 0 ≤ w) (w2 : w < 4) (hf : L c < 999999) (ho : opn τ (bes c w)) (hne : bes c w ≠ a) {x f : Int} (hx : x = L c + prc τ 100 (bes c w) w) (hfe : f = if c = a then w else Fi c) (hlt : x < L (bes c w) ∨ (x = L (bes c w) ∧ f < Fi (bes c w))) :
    LdI τ a (updI L (bes c w) x) (updI Fi (bes c w) f) ∧ sumL (updI L (bes c w) x) (updI Fi (bes c w) f) < sumL L Fi := by
  obtain ⟨h1, h2, h3⟩ := h
  have r := prc_rng (τ := τ) (s := bes c w) (w := w) (show (100 : Int) = 0 ∨ (100 : Int) = 100 from Or.inr rfl)
  have bc := h3 c hc
  have bq := h3 _ ho.1
  have cr := cntR_rng (finL L) 49 0
  have f4 : 0 ≤ f ∧ f ≤ 4 := by
    by_cases e : c = a
    · rw [if_pos e] at hfe; omega
    · rw [if_neg e] at hfe; omega
  obtain ⟨q, hq⟩ := Int.eq_ofNat_of_zero_le ho.1.1
  have q49 : q < 49 := by have := ho.1.2; omega
  have eqn : ∀ j : Nat, j ≠ q → (j : Int) ≠ bes c w := fun j hj z => hj (by omega)
  have x9 : x < 999999 := by have := bc.2.2.2.2 hf; omega
  have cnt : cntR (finL L) 49 0 ≤ cntR (finL (updI L (bes c w) x)) 49 0 ∧ x ≤ 6301 * (cntR (finL (updI L (bes c w) x)) 49 0 - 1) := by
    by_cases z : L (bes c w) < 999999
    · have e : finL (updI L (bes c w) x) = finL L := by
        funext j
        show decide (updI L (bes c w) x j < 999999) = decide (L j < 999999)
        by_cases y : (j : Int) = bes c w
        · rw [y, updI_eq, decide_eq_true x9, decide_eq_true z]
        · rw [updI_ne y]
      rw [e]
      have := bq.2.2.2.2 z
      omega
    · have u := cntR_upd (f := finL (updI L (bes c w) x)) (g := finL L) (b := q) (by show decide (updI L (bes c w) x q < 999999) = true; rw [← hq, updI_eq]; exact decide_eq_true x9) (by show decide (L q < 999999) = false; rw [← hq]; exact decide_eq_false z) (fun j hj => by show decide (updI L (bes c w) x j < 999999) = decide (L j < 999999); rw [updI_ne (eqn j hj)]) 49 0 (by omega) (by omega)
      have := bc.2.2.2.2 hf
      omega
  have fw : FW τ 100 a (bes c w) x f := by
    by_cases e : c = a
    · rw [if_pos e] at hfe
      rw [e, h1] at hx
      rw [hfe, e]
      refine ⟨w1, w2, by rw [← e]; exact ho, 0, 0, by rw [← e]; rw [e]; exact hx, rfl, rfl⟩
    · rw [if_neg e] at hfe
      obtain ⟨k1, k2, k3, n, y, k4, k5⟩ := h2 c hc e hf
      rw [hfe]
      exact ⟨k1, k2, k3, n + 1, y + prc τ 100 (bes c w) w, by omega, k5.snoc w1 w2 ho⟩
  refine ⟨⟨by rw [updI_ne (fun z => hne z.symm)]; exact h1, fun s hs sa sf => ?_, fun s hs => ?_⟩, ?_⟩
  · by_cases e : s = bes c w
    · rw [e, updI_eq, updI_eq]; exact fw
    · rw [updI_ne e] at sf ⊢
      rw [updI_ne e]
      exact h2 s hs sa sf
  · by_cases e : s = bes c w
    · rw [e, updI_eq, updI_eq]
      exact ⟨by omega, by omega, f4.1, f4.2, fun _ => cnt.2⟩
    · rw [updI_ne e, updI_ne e]
      have b := h3 s hs
      exact ⟨b.1, b.2.1, b.2.2.1, b.2.2.2.1, fun z => by have := b.2.2.2.2 z; omega⟩
  · have u := sumR_upd (f := fun k => 5 * updI L (bes c w) x k + updI Fi (bes c w) f k) (g := fun k => 5 * L k + Fi k) (b := q) (fun j hj => by show 5 * updI L (bes c w) x j + updI Fi (bes c w) f j = 5 * L j + Fi j; rw [updI_ne (eqn j hj), updI_ne (eqn j hj)]) 49 0 (by omega) (by omega)
    have e1 : updI L (bes c w) x q = x := by rw [← hq]; exact updI_eq
    have e2 : updI Fi (bes c w) f q = f := by rw [← hq]; exact updI_eq
    unfold sumL
    rw [u]
    show _ + (5 * updI L (bes c w) x q + updI Fi (bes c w) f q - (5 * L q + Fi q)) < _
    rw [e1, e2, ← hq]
    omega
theorem LdI.start {τ : Tw} {a : Int} (ia : inS a) : LdI τ a (updI (fun _ => 999999) a 0) (fun _ => 4) := by
  refine ⟨updI_eq, fun q hq hne h => ?_, fun q hq => ?_⟩
  · rw [updI_ne hne] at h; exact absurd h (by decide)
  · obtain ⟨k, hk⟩ := Int.eq_ofNat_of_zero_le ia.1
    have r := cntR_rng (finL (updI (fun _ => 999999) a 0)) 49 0
    have u := cntR_upd (f := finL (updI (fun _ => 999999) a 0)) (g := fun _ => false) (b := k) (by show decide (updI (fun _ => 999999) a 0 k < 999999) = true; rw [← hk, updI_eq]; rfl) rfl (fun j hj => by show decide (updI (fun _ => 999999) a 0 j < 999999) = false; rw [updI_ne (fun z => hj (by omega))]; rfl) 49 0 (by omega) (by have := ia.2; omega)
    have z := cntR_rng (fun _ => false) 49 0
    by_cases e : q = a
    · rw [e, updI_eq]; exact ⟨by omega, by omega, (show (0 : Int) ≤ 4 by decide), (show (4 : Int) ≤ 4 by decide), fun _ => by omega⟩
    · rw [updI_ne e]; exact ⟨by omega, by omega, (show (0 : Int) ≤ 4 by decide), (show (4 : Int) ≤ 4 by decide), fun y => absurd y (by decide)⟩
theorem nx_bes {c w : Int} (hc : inS c) (w1 : 0 ≤ w) (w2 : w < 4) {τ : Tw} (h : opn τ (nx c w)) : nx c w = bes c w := by
  have := nm_nx (w := w) hc.1 (by have := hc.2; omega) w1 (by omega)
  rw [nm_pos h.1.1] at this
  exact this
theorem nx_no {c w : Int} (hc : inS c) (w1 : 0 ≤ w) (w2 : w < 4) {τ : Tw} (h : ¬ opn τ (nx c w)) : ¬ opn τ (bes c w) := fun q => by
  have e := nm_nx (w := w) hc.1 (by have := hc.2; omega) w1 (by omega)
  by_cases z : nx c w < 0
  · rw [nm_neg z] at e; have := q.1.1; omega
  · rw [nm_pos (by omega)] at e; rw [e] at h; exact h q
def S73 : Nat → Prop := fun a => a = 72 ∨ a = 73
theorem S73M : ∀ a, S73 a → a < 54 ∨ a = 67 ∨ a = 68 ∨ 72 ≤ a := fun a h => by unfold S73 at h; omega
theorem S73C : ∀ a, S73 a → MC a := fun a h => by unfold S73 at h; unfold MC; omega
theorem dX9_leads_0 : decode cX9_leads 0 = .ok (.iconst 0, 1) := by decide +kernel
theorem dX9_leads_1 : decode cX9_leads 1 = .ok (.istore_n 2, 1) := by decide +kernel
theorem dX9_leads_2 : decode cX9_leads 2 = .ok (.iload_n 2, 1) := by decide +kernel
theorem dX9_leads_3 : decode cX9_leads 3 = .ok (.bipush 49, 2) := by decide +kernel
theorem dX9_leads_5 : decode cX9_leads 5 = .ok (.if_icmp .ge 24, 3) := by decide +kernel
theorem dX9_leads_8 : decode cX9_leads 8 = .ok (.aload_n 0, 1) := by decide +kernel
theorem dX9_leads_9 : decode cX9_leads 9 = .ok (.getfield 63, 3) := by decide +kernel
theorem dX9_leads_12 : decode cX9_leads 12 = .ok (.iload_n 2, 1) := by decide +kernel
theorem dX9_leads_13 : decode cX9_leads 13 = .ok (.ldc 244, 2) := by decide +kernel
theorem dX9_leads_15 : decode cX9_leads 15 = .ok (.iastore, 1) := by decide +kernel
theorem dX9_leads_16 : decode cX9_leads 16 = .ok (.aload_n 0, 1) := by decide +kernel
theorem dX9_leads_17 : decode cX9_leads 17 = .ok (.getfield 66, 3) := by decide +kernel
theorem dX9_leads_20 : decode cX9_leads 20 = .ok (.iload_n 2, 1) := by decide +kernel
theorem dX9_leads_21 : decode cX9_leads 21 = .ok (.iconst 4, 1) := by decide +kernel
theorem dX9_leads_22 : decode cX9_leads 22 = .ok (.iastore, 1) := by decide +kernel
theorem dX9_leads_23 : decode cX9_leads 23 = .ok (.iinc 2 1, 3) := by decide +kernel
theorem dX9_leads_26 : decode cX9_leads 26 = .ok (.goto (-24), 3) := by decide +kernel
theorem dX9_leads_29 : decode cX9_leads 29 = .ok (.aload_n 0, 1) := by decide +kernel
theorem dX9_leads_30 : decode cX9_leads 30 = .ok (.getfield 63, 3) := by decide +kernel
theorem dX9_leads_33 : decode cX9_leads 33 = .ok (.iload_n 1, 1) := by decide +kernel
theorem dX9_leads_34 : decode cX9_leads 34 = .ok (.iconst 0, 1) := by decide +kernel
theorem dX9_leads_35 : decode cX9_leads 35 = .ok (.iastore, 1) := by decide +kernel
theorem dX9_leads_36 : decode cX9_leads 36 = .ok (.iconst 1, 1) := by decide +kernel
theorem dX9_leads_37 : decode cX9_leads 37 = .ok (.istore_n 2, 1) := by decide +kernel
theorem dX9_leads_38 : decode cX9_leads 38 = .ok (.iload_n 2, 1) := by decide +kernel
theorem dX9_leads_39 : decode cX9_leads 39 = .ok (.ifCond .eq 173, 3) := by decide +kernel
theorem dX9_leads_42 : decode cX9_leads 42 = .ok (.iconst 0, 1) := by decide +kernel
theorem dX9_leads_43 : decode cX9_leads 43 = .ok (.istore_n 2, 1) := by decide +kernel
theorem dX9_leads_44 : decode cX9_leads 44 = .ok (.iconst 0, 1) := by decide +kernel
theorem dX9_leads_45 : decode cX9_leads 45 = .ok (.istore_n 3, 1) := by decide +kernel
theorem dX9_leads_46 : decode cX9_leads 46 = .ok (.iload_n 3, 1) := by decide +kernel
theorem dX9_leads_47 : decode cX9_leads 47 = .ok (.bipush 49, 2) := by decide +kernel
theorem dX9_leads_49 : decode cX9_leads 49 = .ok (.if_icmp .ge 160, 3) := by decide +kernel
theorem dX9_leads_52 : decode cX9_leads 52 = .ok (.iconst 0, 1) := by decide +kernel
theorem dX9_leads_53 : decode cX9_leads 53 = .ok (.istore 4, 2) := by decide +kernel
theorem dX9_leads_55 : decode cX9_leads 55 = .ok (.iload 4, 2) := by decide +kernel
theorem dX9_leads_57 : decode cX9_leads 57 = .ok (.iconst 3, 1) := by decide +kernel
theorem dX9_leads_58 : decode cX9_leads 58 = .ok (.if_icmp .gt 145, 3) := by decide +kernel
theorem dX9_leads_61 : decode cX9_leads 61 = .ok (.aload_n 0, 1) := by decide +kernel
theorem dX9_leads_62 : decode cX9_leads 62 = .ok (.getfield 63, 3) := by decide +kernel
theorem dX9_leads_65 : decode cX9_leads 65 = .ok (.iload_n 3, 1) := by decide +kernel
theorem dX9_leads_66 : decode cX9_leads 66 = .ok (.iaload, 1) := by decide +kernel
theorem dX9_leads_67 : decode cX9_leads 67 = .ok (.ldc 244, 2) := by decide +kernel
theorem dX9_leads_69 : decode cX9_leads 69 = .ok (.if_icmp .ge 134, 3) := by decide +kernel
theorem dX9_leads_72 : decode cX9_leads 72 = .ok (.iload_n 3, 1) := by decide +kernel
theorem dX9_leads_73 : decode cX9_leads 73 = .ok (.iload 4, 2) := by decide +kernel
theorem dX9_leads_75 : decode cX9_leads 75 = .ok (.invokestatic 223, 3) := by decide +kernel
theorem dX9_leads_78 : decode cX9_leads 78 = .ok (.istore 5, 2) := by decide +kernel
theorem dX9_leads_80 : decode cX9_leads 80 = .ok (.aload_n 0, 1) := by decide +kernel
theorem dX9_leads_81 : decode cX9_leads 81 = .ok (.iload 5, 2) := by decide +kernel
theorem dX9_leads_83 : decode cX9_leads 83 = .ok (.invokevirtual 143, 3) := by decide +kernel
theorem dX9_leads_86 : decode cX9_leads 86 = .ok (.ifCond .eq 111, 3) := by decide +kernel
theorem dX9_leads_89 : decode cX9_leads 89 = .ok (.iload 5, 2) := by decide +kernel
theorem dX9_leads_91 : decode cX9_leads 91 = .ok (.iload_n 1, 1) := by decide +kernel
theorem dX9_leads_92 : decode cX9_leads 92 = .ok (.if_icmp .ne 6, 3) := by decide +kernel
theorem dX9_leads_95 : decode cX9_leads 95 = .ok (.goto 102, 3) := by decide +kernel
theorem dX9_leads_98 : decode cX9_leads 98 = .ok (.aload_n 0, 1) := by decide +kernel
theorem dX9_leads_99 : decode cX9_leads 99 = .ok (.getfield 63, 3) := by decide +kernel
theorem dX9_leads_102 : decode cX9_leads 102 = .ok (.iload_n 3, 1) := by decide +kernel
theorem dX9_leads_103 : decode cX9_leads 103 = .ok (.iaload, 1) := by decide +kernel
theorem dX9_leads_104 : decode cX9_leads 104 = .ok (.bipush 100, 2) := by decide +kernel
theorem dX9_leads_106 : decode cX9_leads 106 = .ok (.aload_n 0, 1) := by decide +kernel
theorem dX9_leads_107 : decode cX9_leads 107 = .ok (.iload 5, 2) := by decide +kernel
theorem dX9_leads_109 : decode cX9_leads 109 = .ok (.iload 4, 2) := by decide +kernel
theorem dX9_leads_111 : decode cX9_leads 111 = .ok (.invokevirtual 156, 3) := by decide +kernel
theorem dX9_leads_114 : decode cX9_leads 114 = .ok (.imul, 1) := by decide +kernel
theorem dX9_leads_115 : decode cX9_leads 115 = .ok (.iadd, 1) := by decide +kernel
theorem dX9_leads_116 : decode cX9_leads 116 = .ok (.iconst 1, 1) := by decide +kernel
theorem dX9_leads_117 : decode cX9_leads 117 = .ok (.iadd, 1) := by decide +kernel
theorem dX9_leads_118 : decode cX9_leads 118 = .ok (.istore 6, 2) := by decide +kernel
theorem dX9_leads_120 : decode cX9_leads 120 = .ok (.iload_n 3, 1) := by decide +kernel
theorem dX9_leads_121 : decode cX9_leads 121 = .ok (.iload_n 1, 1) := by decide +kernel
theorem dX9_leads_122 : decode cX9_leads 122 = .ok (.if_icmp .ne 8, 3) := by decide +kernel
theorem dX9_leads_125 : decode cX9_leads 125 = .ok (.iload 4, 2) := by decide +kernel
theorem dX9_leads_127 : decode cX9_leads 127 = .ok (.goto 9, 3) := by decide +kernel
theorem dX9_leads_130 : decode cX9_leads 130 = .ok (.aload_n 0, 1) := by decide +kernel
theorem dX9_leads_131 : decode cX9_leads 131 = .ok (.getfield 66, 3) := by decide +kernel
theorem dX9_leads_134 : decode cX9_leads 134 = .ok (.iload_n 3, 1) := by decide +kernel
theorem dX9_leads_135 : decode cX9_leads 135 = .ok (.iaload, 1) := by decide +kernel
theorem dX9_leads_136 : decode cX9_leads 136 = .ok (.istore 7, 2) := by decide +kernel
theorem dX9_leads_138 : decode cX9_leads 138 = .ok (.iload 6, 2) := by decide +kernel
theorem dX9_leads_140 : decode cX9_leads 140 = .ok (.aload_n 0, 1) := by decide +kernel
theorem dX9_leads_141 : decode cX9_leads 141 = .ok (.getfield 63, 3) := by decide +kernel
theorem dX9_leads_144 : decode cX9_leads 144 = .ok (.iload 5, 2) := by decide +kernel
theorem dX9_leads_146 : decode cX9_leads 146 = .ok (.iaload, 1) := by decide +kernel
theorem dX9_leads_147 : decode cX9_leads 147 = .ok (.if_icmp .gt 50, 3) := by decide +kernel
theorem dX9_leads_150 : decode cX9_leads 150 = .ok (.iload 6, 2) := by decide +kernel
theorem dX9_leads_152 : decode cX9_leads 152 = .ok (.aload_n 0, 1) := by decide +kernel
theorem dX9_leads_153 : decode cX9_leads 153 = .ok (.getfield 63, 3) := by decide +kernel
theorem dX9_leads_156 : decode cX9_leads 156 = .ok (.iload 5, 2) := by decide +kernel
theorem dX9_leads_158 : decode cX9_leads 158 = .ok (.iaload, 1) := by decide +kernel
theorem dX9_leads_159 : decode cX9_leads 159 = .ok (.if_icmp .ne 18, 3) := by decide +kernel
theorem dX9_leads_162 : decode cX9_leads 162 = .ok (.iload 7, 2) := by decide +kernel
theorem dX9_leads_164 : decode cX9_leads 164 = .ok (.aload_n 0, 1) := by decide +kernel
theorem dX9_leads_165 : decode cX9_leads 165 = .ok (.getfield 66, 3) := by decide +kernel
theorem dX9_leads_168 : decode cX9_leads 168 = .ok (.iload 5, 2) := by decide +kernel
theorem dX9_leads_170 : decode cX9_leads 170 = .ok (.iaload, 1) := by decide +kernel
theorem dX9_leads_171 : decode cX9_leads 171 = .ok (.if_icmp .lt 6, 3) := by decide +kernel
theorem dX9_leads_174 : decode cX9_leads 174 = .ok (.goto 23, 3) := by decide +kernel
theorem dX9_leads_177 : decode cX9_leads 177 = .ok (.aload_n 0, 1) := by decide +kernel
theorem dX9_leads_178 : decode cX9_leads 178 = .ok (.getfield 63, 3) := by decide +kernel
theorem dX9_leads_181 : decode cX9_leads 181 = .ok (.iload 5, 2) := by decide +kernel
theorem dX9_leads_183 : decode cX9_leads 183 = .ok (.iload 6, 2) := by decide +kernel
theorem dX9_leads_185 : decode cX9_leads 185 = .ok (.iastore, 1) := by decide +kernel
theorem dX9_leads_186 : decode cX9_leads 186 = .ok (.aload_n 0, 1) := by decide +kernel
theorem dX9_leads_187 : decode cX9_leads 187 = .ok (.getfield 66, 3) := by decide +kernel
theorem dX9_leads_190 : decode cX9_leads 190 = .ok (.iload 5, 2) := by decide +kernel
theorem dX9_leads_192 : decode cX9_leads 192 = .ok (.iload 7, 2) := by decide +kernel
theorem dX9_leads_194 : decode cX9_leads 194 = .ok (.iastore, 1) := by decide +kernel
theorem dX9_leads_195 : decode cX9_leads 195 = .ok (.iconst 1, 1) := by decide +kernel
theorem dX9_leads_196 : decode cX9_leads 196 = .ok (.istore_n 2, 1) := by decide +kernel
theorem dX9_leads_197 : decode cX9_leads 197 = .ok (.iinc 4 1, 3) := by decide +kernel
theorem dX9_leads_200 : decode cX9_leads 200 = .ok (.goto (-145), 3) := by decide +kernel
theorem dX9_leads_203 : decode cX9_leads 203 = .ok (.iinc 3 1, 3) := by decide +kernel
theorem dX9_leads_206 : decode cX9_leads 206 = .ok (.goto (-160), 3) := by decide +kernel
theorem dX9_leads_209 : decode cX9_leads 209 = .ok (.goto (-171), 3) := by decide +kernel
theorem dX9_leads_212 : decode cX9_leads 212 = .ok (.return_, 1) := by decide +kernel
set_option maxRecDepth 20000 in
theorem l1_X9_leads {G : Gl} {d : Nat} {σ0 : Sg} {K : Option Value → Sg → Prop} {Z : Zt} (hZ0 : RelM Z σ0) (hO : OkZ Z) {a : Nat} (ha : a < 49) : ∀ (n i : Nat) (σ : Sg), i + n = 49 → Fr S73 σ0 σ → (∀ s : Nat, s < i → σ.1 72 s = 999999 ∧ σ.1 73 s = 4) → (∀ υ, Fr S73 σ0 υ → RLe (fun _ => 999999) (fun _ => 4) υ → AW G (d + 3) RX9 cX9_leads 8 none 29 [(0, .ref (gA G 54)), (1, .int (iI (a : Int)))] [] υ K) → AW G (d + 3) RX9 cX9_leads 8 none 2 [(0, .ref (gA G 54)), (1, .int (iI (a : Int))), (2, .int (iI (i : Int)))] [] σ K := by
  intro n
  induction n using Nat.strongRecOn
  rename_i n ih
  intro i σ hn hF hz hK
  refine A_iload_n (pc := 2) dX9_leads_2 rfl rfl ?_
  refine A_bipush (pc := 3) dX9_leads_3 (by decide) ?_
  refine A_icmp_ge (pc := 5) 29 dX9_leads_5 (by decide) (by omega) (by omega) (by omega) (by omega) (fun h5 => ?_) (fun h5 => ?_)
  · skip
    have hn0 : n = 0 := by omega
    subst hn0
    refine A_loc (l2 := [(0, _), (1, _)]) ⟨rfl, rfl, trivial⟩ ?_
    exact hK σ hF (fun s h => hz s (by omega))
  · skip
    refine A_aload_n (pc := 8) dX9_leads_8 rfl rfl ?_
    refine A_getR (pc := 9) fX9_63 rfl rfl dX9_leads_9 ?_
    refine A_iload_n (pc := 12) dX9_leads_12 rfl rfl ?_
    refine A_ldc (pc := 13) inX9_244 dX9_leads_13 ?_
    refine A_iast (pc := 15) i rfl rfl (by omega) (Nat.le_of_ble_eq_true rfl) dX9_leads_15 ?_
    refine A_aload_n (pc := 16) dX9_leads_16 rfl rfl ?_
    refine A_getR (pc := 17) fX9_66 rfl rfl dX9_leads_17 ?_
    refine A_iload_n (pc := 20) dX9_leads_20 rfl rfl ?_
    refine A_iconst (pc := 21) dX9_leads_21 ?_
    refine A_iast (pc := 22) i rfl rfl (by omega) (Nat.le_of_ble_eq_true rfl) dX9_leads_22 ?_
    refine A_iinc (pc := 23) dX9_leads_23 rfl (Nat.le_of_ble_eq_true rfl) ?_
    refine A_goto (pc := 26) 2 dX9_leads_26 (by decide) ?_
    obtain ⟨u, rfl⟩ : ∃ u, n = u + 1 := ⟨n - 1, by omega⟩
    refine A_loc (l2 := [(0, _), (1, _), (2, _)]) ⟨rfl, rfl, rfl, trivial⟩ ?_
    refine ih u (by omega) (i + 1) _ (by omega) ((hF.uI (Or.inl rfl)).uI (Or.inr rfl)) (fun s h => ?_) hK
    rw [uI_at, uI_at, uI_at, uI_at, if_neg (show ¬ (72 = 73 ∧ s = i) from fun z => absurd z.1 (by decide)), if_neg (show ¬ (73 = 72 ∧ s = i) from fun z => absurd z.1 (by decide))]
    by_cases e : s = i
    · rw [if_pos ⟨rfl, e⟩, if_pos ⟨rfl, e⟩]; exact ⟨rfl, rfl⟩
    · rw [if_neg (fun z => e z.2), if_neg (fun z => e z.2)]; exact hz s (by omega)
theorem prc100 {τ : Tw} {s w : Int} : prc τ 100 s w = 100 * sham τ s w + 1 := if_neg (by decide)
set_option maxRecDepth 20000 in
theorem l3_X9_leads {G : Gl} {d : Nat} {σ0 : Sg} {K : Option Value → Sg → Prop} {Z : Zt} (hZ0 : RelM Z σ0) (hO : OkZ Z) {a : Nat} (ha : a < 49) {M0 : Int} {c : Nat} (hc : c < 49) : ∀ (n w : Nat) (ch : Int) (L Fi : Int → Int) (σ : Sg), w + n = 4 → Fr S73 σ0 σ → RLe L Fi σ → LdI Z.1 (a : Int) L Fi → (ch = 0 ∨ ch = 1) → (ch = 0 → ∀ k : Nat, k < c → ∀ v, 0 ≤ v → v < 4 → StA Z.1 (a : Int) L Fi k v) → (ch = 0 → ∀ v, 0 ≤ v → v < (w : Int) → StA Z.1 (a : Int) L Fi c v) → sumL L Fi ≤ M0 → (ch = 1 → sumL L Fi < M0) → (∀ (ch : Int) (L Fi : Int → Int) (υ : Sg), Fr S73 σ0 υ → RLe L Fi υ → LdI Z.1 (a : Int) L Fi → (ch = 0 ∨ ch = 1) → (ch = 0 → ∀ k : Nat, k < c + 1 → ∀ v, 0 ≤ v → v < 4 → StA Z.1 (a : Int) L Fi k v) → sumL L Fi ≤ M0 → (ch = 1 → sumL L Fi < M0) → AW G (d + 3) RX9 cX9_leads 8 none 203 [(0, .ref (gA G 54)), (1, .int (iI (a : Int))), (2, .int (iI ch)), (3, .int (iI (c : Int)))] [] υ K) → AW G (d + 3) RX9 cX9_leads 8 none 55 [(0, .ref (gA G 54)), (1, .int (iI (a : Int))), (2, .int (iI ch)), (3, .int (iI (c : Int))), (4, .int (iI (w : Int)))] [] σ K := by
  intro n
  induction n using Nat.strongRecOn
  rename_i n ih
  intro w ch L Fi σ hn hF hR hI hch hs hsw hM hM1 hK
  have hZ := hZ0.fr hF S73M
  have hRc := hR c hc
  have hIc := hI.2.2 c ⟨by omega, by omega⟩
  refine A_iload (pc := 55) dX9_leads_55 rfl ?_
  refine A_iconst (pc := 57) dX9_leads_57 ?_
  refine A_icmp_gt (pc := 58) 203 dX9_leads_58 (by decide) (by omega) (by omega) (by omega) (by omega) (fun h58 => ?_) (fun h58 => ?_)
  · skip
    refine A_loc (l2 := [(0, _), (1, _), (2, _), (3, _)]) ⟨rfl, rfl, rfl, rfl, trivial⟩ ?_
    refine hK ch L Fi σ hF hR hI hch (fun z k hk v v1 v2 => ?_) hM hM1
    by_cases e : k = c
    · rw [e]; exact hsw z v v1 (by omega)
    · exact hs z k (by omega) v v1 v2
  · skip
    refine A_aload_n (pc := 61) dX9_leads_61 rfl rfl ?_
    refine A_getR (pc := 62) fX9_63 rfl rfl dX9_leads_62 ?_
    refine A_iload_n (pc := 65) dX9_leads_65 rfl rfl ?_
    refine A_ialdv (pc := 66) c rfl rfl hc (Nat.le_of_ble_eq_true rfl) hRc.1 dX9_leads_66 ?_
    refine A_ldc (pc := 67) inX9_244 dX9_leads_67 ?_
    refine A_icmp_ge (pc := 69) 203 dX9_leads_69 (by decide) (by omega) (by omega) (by omega) (by omega) (fun h69 => ?_) (fun h69 => ?_)
    · skip
      refine A_loc (l2 := [(0, _), (1, _), (2, _), (3, _)]) ⟨rfl, rfl, rfl, rfl, trivial⟩ ?_
      refine hK ch L Fi σ hF hR hI hch (fun z k hk v v1 v2 => ?_) hM hM1
      by_cases e : k = c
      · rw [e]; exact fun y => absurd y (by omega)
      · exact hs z k (by omega) v v1 v2
    · skip
      have hnr := nx_rng (w := (w : Int)) (show 0 ≤ (c : Int) by omega) (show (c : Int) ≤ 48 by omega)
      refine A_iload_n (pc := 72) dX9_leads_72 rfl rfl ?_
      refine A_iload (pc := 73) dX9_leads_73 rfl ?_
      refine A_callS1 (pc := 75) kX9_223 (c_X9_next (by omega) (by omega) (by omega) (by omega)) dX9_leads_75 rfl rfl (Nat.le_of_ble_eq_true rfl) (Nat.le_of_ble_eq_true rfl) ?_
      refine A_istore (pc := 78) dX9_leads_78 (Nat.le_of_ble_eq_true rfl) ?_
      refine A_aload_n (pc := 80) dX9_leads_80 rfl rfl ?_
      refine A_iload (pc := 81) dX9_leads_81 rfl ?_
      refine A_callV1 (pc := 83) kX9_143 rfl rfl (c_X9_isOpen hZ.1 hO.1 (by omega) (by omega)) dX9_leads_83 rfl rfl (Nat.le_of_ble_eq_true rfl) (Nat.le_of_ble_eq_true rfl) ?_
      refine A_ifb_eq (pc := 86) 197 dX9_leads_86 (by decide) (fun h86 => ?_) (fun h86 => ?_)
      · skip
        refine A_iinc (pc := 197) dX9_leads_197 rfl (Nat.le_of_ble_eq_true rfl) ?_
        refine A_goto (pc := 200) 55 dX9_leads_200 (by decide) ?_
        obtain ⟨u, rfl⟩ : ∃ u, n = u + 1 := ⟨n - 1, by omega⟩
        refine A_loc (l2 := [(0, _), (1, _), (2, _), (3, _), (4, _)]) ⟨rfl, rfl, rfl, rfl, rfl, trivial⟩ ?_
        refine ih u (by omega) (w + 1) ch L Fi σ (by omega) hF hR hI hch hs (fun z v v1 v2 => ?_) hM hM1 hK
        by_cases e : v = (w : Int)
        · rw [e]; exact fun _ z _ => absurd z (nx_no ⟨by omega, by omega⟩ (by omega) (by omega) h86)
        · exact hsw z v v1 (by omega)
      · skip
        obtain ⟨q, hq⟩ := Int.eq_ofNat_of_zero_le h86.1.1
        have eb := nx_bes (c := (c : Int)) (w := (w : Int)) ⟨by omega, by omega⟩ (by omega) (by omega) h86
        rw [hq] at h86 eb
        rw [hq]
        have q49 : q < 49 := by have := h86.1.2; omega
        have hRq := hR q q49
        have hIq := hI.2.2 q ⟨by omega, by omega⟩
        have hsh := sham_rng Z.1 (q : Int) (w : Int)
        have hIc5 := fun z => hIc.2.2.2.2 z
        have hcr := cntR_rng (finL L) 49 0
        refine A_iload (pc := 89) dX9_leads_89 rfl ?_
        refine A_iload_n (pc := 91) dX9_leads_91 rfl rfl ?_
        refine A_icmp_ne (pc := 92) 98 dX9_leads_92 (by decide) (by omega) (by omega) (by omega) (by omega) (fun h92 => ?_) (fun h92 => ?_)
        · skip
          refine A_aload_n (pc := 98) dX9_leads_98 rfl rfl ?_
          refine A_getR (pc := 99) fX9_63 rfl rfl dX9_leads_99 ?_
          refine A_iload_n (pc := 102) dX9_leads_102 rfl rfl ?_
          refine A_ialdv (pc := 103) c rfl rfl hc (Nat.le_of_ble_eq_true rfl) hRc.1 dX9_leads_103 ?_
          refine A_bipush (pc := 104) dX9_leads_104 (by decide) ?_
          refine A_aload_n (pc := 106) dX9_leads_106 rfl rfl ?_
          refine A_iload (pc := 107) dX9_leads_107 rfl ?_
          refine A_iload (pc := 109) dX9_leads_109 rfl ?_
          refine A_callV1 (pc := 111) kX9_156 rfl rfl (c_X9_shame hZ.1 hO.1 (by omega) (by omega) (by omega) (by omega)) dX9_leads_111 rfl rfl (Nat.le_of_ble_eq_true rfl) (Nat.le_of_ble_eq_true rfl) ?_
          refine A_imul (pc := 114) dX9_leads_114 ?_
          refine A_iadd (pc := 115) dX9_leads_115 ?_
          refine A_iconst (pc := 116) dX9_leads_116 ?_
          refine A_iadd (pc := 117) dX9_leads_117 ?_
          refine A_istore (pc := 118) dX9_leads_118 (Nat.le_of_ble_eq_true rfl) ?_
          refine A_iload_n (pc := 120) dX9_leads_120 rfl rfl ?_
          refine A_iload_n (pc := 121) dX9_leads_121 rfl rfl ?_
          refine A_icmp_ne (pc := 122) 130 dX9_leads_122 (by decide) (by omega) (by omega) (by omega) (by omega) (fun h122 => ?_) (fun h122 => ?_)
          · skip
            refine A_aload_n (pc := 130) dX9_leads_130 rfl rfl ?_
            refine A_getR (pc := 131) fX9_66 rfl rfl dX9_leads_131 ?_
            refine A_iload_n (pc := 134) dX9_leads_134 rfl rfl ?_
            refine A_ialdv (pc := 135) c rfl rfl hc (Nat.le_of_ble_eq_true rfl) hRc.2 dX9_leads_135 ?_
            refine A_istore (pc := 136) dX9_leads_136 (Nat.le_of_ble_eq_true rfl) ?_
            refine A_iload (pc := 138) dX9_leads_138 rfl ?_
            refine A_aload_n (pc := 140) dX9_leads_140 rfl rfl ?_
            refine A_getR (pc := 141) fX9_63 rfl rfl dX9_leads_141 ?_
            refine A_iload (pc := 144) dX9_leads_144 rfl ?_
            refine A_ialdv (pc := 146) q rfl rfl q49 (Nat.le_of_ble_eq_true rfl) hRq.1 dX9_leads_146 ?_
            refine A_icmp_gt (pc := 147) 197 dX9_leads_147 (by decide) (by omega) (by omega) (by omega) (by omega) (fun h147 => ?_) (fun h147 => ?_)
            · skip
              refine A_iinc (pc := 197) dX9_leads_197 rfl (Nat.le_of_ble_eq_true rfl) ?_
              refine A_goto (pc := 200) 55 dX9_leads_200 (by decide) ?_
              obtain ⟨u, rfl⟩ : ∃ u, n = u + 1 := ⟨n - 1, by omega⟩
              refine A_loc (l2 := [(0, _), (1, _), (2, _), (3, _), (4, _)]) ⟨rfl, rfl, rfl, rfl, rfl, trivial⟩ ?_
              refine ih u (by omega) (w + 1) ch L Fi σ (by omega) hF hR hI hch hs (fun z v v1 v2 => ?_) hM hM1 hK
              by_cases e : v = (w : Int)
              · rw [e]; exact fun _ _ _ => by rw [← eb, prc100, if_neg (by omega)]; omega
              · exact hsw z v v1 (by omega)
            · skip
              refine A_iload (pc := 150) dX9_leads_150 rfl ?_
              refine A_aload_n (pc := 152) dX9_leads_152 rfl rfl ?_
              refine A_getR (pc := 153) fX9_63 rfl rfl dX9_leads_153 ?_
              refine A_iload (pc := 156) dX9_leads_156 rfl ?_
              refine A_ialdv (pc := 158) q rfl rfl q49 (Nat.le_of_ble_eq_true rfl) hRq.1 dX9_leads_158 ?_
              refine A_icmp_ne (pc := 159) 177 dX9_leads_159 (by decide) (by omega) (by omega) (by omega) (by omega) (fun h159 => ?_) (fun h159 => ?_)
              · skip
                refine A_aload_n (pc := 177) dX9_leads_177 rfl rfl ?_
                refine A_getR (pc := 178) fX9_63 rfl rfl dX9_leads_178 ?_
                refine A_iload (pc := 181) dX9_leads_181 rfl ?_
                refine A_iload (pc := 183) dX9_leads_183 rfl ?_
                refine A_iast (pc := 185) q rfl rfl q49 (Nat.le_of_ble_eq_true rfl) dX9_leads_185 ?_
                refine A_aload_n (pc := 186) dX9_leads_186 rfl rfl ?_
                refine A_getR (pc := 187) fX9_66 rfl rfl dX9_leads_187 ?_
                refine A_iload (pc := 190) dX9_leads_190 rfl ?_
                refine A_iload (pc := 192) dX9_leads_192 rfl ?_
                refine A_iast (pc := 194) q rfl rfl q49 (Nat.le_of_ble_eq_true rfl) dX9_leads_194 ?_
                refine A_iconst (pc := 195) dX9_leads_195 ?_
                refine A_istore_n (pc := 196) dX9_leads_196 rfl (Nat.le_of_ble_eq_true rfl) ?_
                refine A_iinc (pc := 197) dX9_leads_197 rfl (Nat.le_of_ble_eq_true rfl) ?_
                refine A_goto (pc := 200) 55 dX9_leads_200 (by decide) ?_
                obtain ⟨u, rfl⟩ : ∃ u, n = u + 1 := ⟨n - 1, by omega⟩
                refine A_loc (l2 := [(0, _), (1, _), (2, _), (3, _), (4, _)]) ⟨rfl, rfl, rfl, rfl, rfl, trivial⟩ ?_
                have low := hI.low (c := (c : Int)) (w := (w : Int)) ⟨by omega, by omega⟩ ⟨by omega, by omega⟩ (by omega) (by omega) (by omega) (by rw [← eb]; exact h86) (by rw [← eb]; omega) (x := L c + 100 * sham Z.1 (q : Int) (w : Int) + 1) (f := (Fi c)) (by rw [← eb, prc100]; omega) (by rw [if_neg (by omega)]) (by rw [← eb]; omega)
                rw [← eb] at low
                refine ih u (by omega) (w + 1) 1 _ _ _ (by omega) ((hF.uI (Or.inl rfl)).uI (Or.inr rfl)) (fun s hs2 => ?_) low.1 (Or.inr rfl) (fun z => absurd z (by decide)) (fun z => absurd z (by decide)) (by omega) (fun _ => by omega) hK
                have hRs := hR s hs2
                rw [uI_at, uI_at, uI_at, uI_at, if_neg (show ¬ (72 = 73 ∧ s = q) from fun z => absurd z.1 (by decide)), if_neg (show ¬ (73 = 72 ∧ s = q) from fun z => absurd z.1 (by decide))]
                by_cases e : s = q
                · rw [if_pos ⟨rfl, e⟩, if_pos ⟨rfl, e⟩, e, updI_eq, updI_eq]; exact ⟨rfl, rfl⟩
                · rw [if_neg (fun z => e z.2), if_neg (fun z => e z.2), updI_ne (fun z => e (by omega)), updI_ne (fun z => e (by omega))]; exact hRs
              · skip
                refine A_iload (pc := 162) dX9_leads_162 rfl ?_
                refine A_aload_n (pc := 164) dX9_leads_164 rfl rfl ?_
                refine A_getR (pc := 165) fX9_66 rfl rfl dX9_leads_165 ?_
                refine A_iload (pc := 168) dX9_leads_168 rfl ?_
                refine A_ialdv (pc := 170) q rfl rfl q49 (Nat.le_of_ble_eq_true rfl) hRq.2 dX9_leads_170 ?_
                refine A_icmp_lt (pc := 171) 177 dX9_leads_171 (by decide) (by omega) (by omega) (by omega) (by omega) (fun h171 => ?_) (fun h171 => ?_)
                · skip
                  refine A_aload_n (pc := 177) dX9_leads_177 rfl rfl ?_
                  refine A_getR (pc := 178) fX9_63 rfl rfl dX9_leads_178 ?_
                  refine A_iload (pc := 181) dX9_leads_181 rfl ?_
                  refine A_iload (pc := 183) dX9_leads_183 rfl ?_
                  refine A_iast (pc := 185) q rfl rfl q49 (Nat.le_of_ble_eq_true rfl) dX9_leads_185 ?_
                  refine A_aload_n (pc := 186) dX9_leads_186 rfl rfl ?_
                  refine A_getR (pc := 187) fX9_66 rfl rfl dX9_leads_187 ?_
                  refine A_iload (pc := 190) dX9_leads_190 rfl ?_
                  refine A_iload (pc := 192) dX9_leads_192 rfl ?_
                  refine A_iast (pc := 194) q rfl rfl q49 (Nat.le_of_ble_eq_true rfl) dX9_leads_194 ?_
                  refine A_iconst (pc := 195) dX9_leads_195 ?_
                  refine A_istore_n (pc := 196) dX9_leads_196 rfl (Nat.le_of_ble_eq_true rfl) ?_
                  refine A_iinc (pc := 197) dX9_leads_197 rfl (Nat.le_of_ble_eq_true rfl) ?_
                  refine A_goto (pc := 200) 55 dX9_leads_200 (by decide) ?_
                  obtain ⟨u, rfl⟩ : ∃ u, n = u + 1 := ⟨n - 1, by omega⟩
                  refine A_loc (l2 := [(0, _), (1, _), (2, _), (3, _), (4, _)]) ⟨rfl, rfl, rfl, rfl, rfl, trivial⟩ ?_
                  have low := hI.low (c := (c : Int)) (w := (w : Int)) ⟨by omega, by omega⟩ ⟨by omega, by omega⟩ (by omega) (by omega) (by omega) (by rw [← eb]; exact h86) (by rw [← eb]; omega) (x := L c + 100 * sham Z.1 (q : Int) (w : Int) + 1) (f := (Fi c)) (by rw [← eb, prc100]; omega) (by rw [if_neg (by omega)]) (by rw [← eb]; omega)
                  rw [← eb] at low
                  refine ih u (by omega) (w + 1) 1 _ _ _ (by omega) ((hF.uI (Or.inl rfl)).uI (Or.inr rfl)) (fun s hs2 => ?_) low.1 (Or.inr rfl) (fun z => absurd z (by decide)) (fun z => absurd z (by decide)) (by omega) (fun _ => by omega) hK
                  have hRs := hR s hs2
                  rw [uI_at, uI_at, uI_at, uI_at, if_neg (show ¬ (72 = 73 ∧ s = q) from fun z => absurd z.1 (by decide)), if_neg (show ¬ (73 = 72 ∧ s = q) from fun z => absurd z.1 (by decide))]
                  by_cases e : s = q
                  · rw [if_pos ⟨rfl, e⟩, if_pos ⟨rfl, e⟩, e, updI_eq, updI_eq]; exact ⟨rfl, rfl⟩
                  · rw [if_neg (fun z => e z.2), if_neg (fun z => e z.2), updI_ne (fun z => e (by omega)), updI_ne (fun z => e (by omega))]; exact hRs
                · skip
                  refine A_goto (pc := 174) 197 dX9_leads_174 (by decide) ?_
                  refine A_iinc (pc := 197) dX9_leads_197 rfl (Nat.le_of_ble_eq_true rfl) ?_
                  refine A_goto (pc := 200) 55 dX9_leads_200 (by decide) ?_
                  obtain ⟨u, rfl⟩ : ∃ u, n = u + 1 := ⟨n - 1, by omega⟩
                  refine A_loc (l2 := [(0, _), (1, _), (2, _), (3, _), (4, _)]) ⟨rfl, rfl, rfl, rfl, rfl, trivial⟩ ?_
                  refine ih u (by omega) (w + 1) ch L Fi σ (by omega) hF hR hI hch hs (fun z v v1 v2 => ?_) hM hM1 hK
                  by_cases e : v = (w : Int)
                  · rw [e]; exact fun _ _ _ => by rw [← eb, prc100, if_neg (by omega)]; omega
                  · exact hsw z v v1 (by omega)
          · skip
            refine A_iload (pc := 125) dX9_leads_125 rfl ?_
            refine A_goto (pc := 127) 136 dX9_leads_127 (by decide) ?_
            refine A_istore (pc := 136) dX9_leads_136 (Nat.le_of_ble_eq_true rfl) ?_
            refine A_iload (pc := 138) dX9_leads_138 rfl ?_
            refine A_aload_n (pc := 140) dX9_leads_140 rfl rfl ?_
            refine A_getR (pc := 141) fX9_63 rfl rfl dX9_leads_141 ?_
            refine A_iload (pc := 144) dX9_leads_144 rfl ?_
            refine A_ialdv (pc := 146) q rfl rfl q49 (Nat.le_of_ble_eq_true rfl) hRq.1 dX9_leads_146 ?_
            refine A_icmp_gt (pc := 147) 197 dX9_leads_147 (by decide) (by omega) (by omega) (by omega) (by omega) (fun h147 => ?_) (fun h147 => ?_)
            · skip
              refine A_iinc (pc := 197) dX9_leads_197 rfl (Nat.le_of_ble_eq_true rfl) ?_
              refine A_goto (pc := 200) 55 dX9_leads_200 (by decide) ?_
              obtain ⟨u, rfl⟩ : ∃ u, n = u + 1 := ⟨n - 1, by omega⟩
              refine A_loc (l2 := [(0, _), (1, _), (2, _), (3, _), (4, _)]) ⟨rfl, rfl, rfl, rfl, rfl, trivial⟩ ?_
              refine ih u (by omega) (w + 1) ch L Fi σ (by omega) hF hR hI hch hs (fun z v v1 v2 => ?_) hM hM1 hK
              by_cases e : v = (w : Int)
              · rw [e]; exact fun _ _ _ => by rw [← eb, prc100, if_pos (by omega)]; omega
              · exact hsw z v v1 (by omega)
            · skip
              refine A_iload (pc := 150) dX9_leads_150 rfl ?_
              refine A_aload_n (pc := 152) dX9_leads_152 rfl rfl ?_
              refine A_getR (pc := 153) fX9_63 rfl rfl dX9_leads_153 ?_
              refine A_iload (pc := 156) dX9_leads_156 rfl ?_
              refine A_ialdv (pc := 158) q rfl rfl q49 (Nat.le_of_ble_eq_true rfl) hRq.1 dX9_leads_158 ?_
              refine A_icmp_ne (pc := 159) 177 dX9_leads_159 (by decide) (by omega) (by omega) (by omega) (by omega) (fun h159 => ?_) (fun h159 => ?_)
              · skip
                refine A_aload_n (pc := 177) dX9_leads_177 rfl rfl ?_
                refine A_getR (pc := 178) fX9_63 rfl rfl dX9_leads_178 ?_
                refine A_iload (pc := 181) dX9_leads_181 rfl ?_
                refine A_iload (pc := 183) dX9_leads_183 rfl ?_
                refine A_iast (pc := 185) q rfl rfl q49 (Nat.le_of_ble_eq_true rfl) dX9_leads_185 ?_
                refine A_aload_n (pc := 186) dX9_leads_186 rfl rfl ?_
                refine A_getR (pc := 187) fX9_66 rfl rfl dX9_leads_187 ?_
                refine A_iload (pc := 190) dX9_leads_190 rfl ?_
                refine A_iload (pc := 192) dX9_leads_192 rfl ?_
                refine A_iast (pc := 194) q rfl rfl q49 (Nat.le_of_ble_eq_true rfl) dX9_leads_194 ?_
                refine A_iconst (pc := 195) dX9_leads_195 ?_
                refine A_istore_n (pc := 196) dX9_leads_196 rfl (Nat.le_of_ble_eq_true rfl) ?_
                refine A_iinc (pc := 197) dX9_leads_197 rfl (Nat.le_of_ble_eq_true rfl) ?_
                refine A_goto (pc := 200) 55 dX9_leads_200 (by decide) ?_
                obtain ⟨u, rfl⟩ : ∃ u, n = u + 1 := ⟨n - 1, by omega⟩
                refine A_loc (l2 := [(0, _), (1, _), (2, _), (3, _), (4, _)]) ⟨rfl, rfl, rfl, rfl, rfl, trivial⟩ ?_
                have low := hI.low (c := (c : Int)) (w := (w : Int)) ⟨by omega, by omega⟩ ⟨by omega, by omega⟩ (by omega) (by omega) (by omega) (by rw [← eb]; exact h86) (by rw [← eb]; omega) (x := L c + 100 * sham Z.1 (q : Int) (w : Int) + 1) (f := (w : Int)) (by rw [← eb, prc100]; omega) (by rw [if_pos (by omega)]) (by rw [← eb]; omega)
                rw [← eb] at low
                refine ih u (by omega) (w + 1) 1 _ _ _ (by omega) ((hF.uI (Or.inl rfl)).uI (Or.inr rfl)) (fun s hs2 => ?_) low.1 (Or.inr rfl) (fun z => absurd z (by decide)) (fun z => absurd z (by decide)) (by omega) (fun _ => by omega) hK
                have hRs := hR s hs2
                rw [uI_at, uI_at, uI_at, uI_at, if_neg (show ¬ (72 = 73 ∧ s = q) from fun z => absurd z.1 (by decide)), if_neg (show ¬ (73 = 72 ∧ s = q) from fun z => absurd z.1 (by decide))]
                by_cases e : s = q
                · rw [if_pos ⟨rfl, e⟩, if_pos ⟨rfl, e⟩, e, updI_eq, updI_eq]; exact ⟨rfl, rfl⟩
                · rw [if_neg (fun z => e z.2), if_neg (fun z => e z.2), updI_ne (fun z => e (by omega)), updI_ne (fun z => e (by omega))]; exact hRs
              · skip
                refine A_iload (pc := 162) dX9_leads_162 rfl ?_
                refine A_aload_n (pc := 164) dX9_leads_164 rfl rfl ?_
                refine A_getR (pc := 165) fX9_66 rfl rfl dX9_leads_165 ?_
                refine A_iload (pc := 168) dX9_leads_168 rfl ?_
                refine A_ialdv (pc := 170) q rfl rfl q49 (Nat.le_of_ble_eq_true rfl) hRq.2 dX9_leads_170 ?_
                refine A_icmp_lt (pc := 171) 177 dX9_leads_171 (by decide) (by omega) (by omega) (by omega) (by omega) (fun h171 => ?_) (fun h171 => ?_)
                · skip
                  refine A_aload_n (pc := 177) dX9_leads_177 rfl rfl ?_
                  refine A_getR (pc := 178) fX9_63 rfl rfl dX9_leads_178 ?_
                  refine A_iload (pc := 181) dX9_leads_181 rfl ?_
                  refine A_iload (pc := 183) dX9_leads_183 rfl ?_
                  refine A_iast (pc := 185) q rfl rfl q49 (Nat.le_of_ble_eq_true rfl) dX9_leads_185 ?_
                  refine A_aload_n (pc := 186) dX9_leads_186 rfl rfl ?_
                  refine A_getR (pc := 187) fX9_66 rfl rfl dX9_leads_187 ?_
                  refine A_iload (pc := 190) dX9_leads_190 rfl ?_
                  refine A_iload (pc := 192) dX9_leads_192 rfl ?_
                  refine A_iast (pc := 194) q rfl rfl q49 (Nat.le_of_ble_eq_true rfl) dX9_leads_194 ?_
                  refine A_iconst (pc := 195) dX9_leads_195 ?_
                  refine A_istore_n (pc := 196) dX9_leads_196 rfl (Nat.le_of_ble_eq_true rfl) ?_
                  refine A_iinc (pc := 197) dX9_leads_197 rfl (Nat.le_of_ble_eq_true rfl) ?_
                  refine A_goto (pc := 200) 55 dX9_leads_200 (by decide) ?_
                  obtain ⟨u, rfl⟩ : ∃ u, n = u + 1 := ⟨n - 1, by omega⟩
                  refine A_loc (l2 := [(0, _), (1, _), (2, _), (3, _), (4, _)]) ⟨rfl, rfl, rfl, rfl, rfl, trivial⟩ ?_
                  have low := hI.low (c := (c : Int)) (w := (w : Int)) ⟨by omega, by omega⟩ ⟨by omega, by omega⟩ (by omega) (by omega) (by omega) (by rw [← eb]; exact h86) (by rw [← eb]; omega) (x := L c + 100 * sham Z.1 (q : Int) (w : Int) + 1) (f := (w : Int)) (by rw [← eb, prc100]; omega) (by rw [if_pos (by omega)]) (by rw [← eb]; omega)
                  rw [← eb] at low
                  refine ih u (by omega) (w + 1) 1 _ _ _ (by omega) ((hF.uI (Or.inl rfl)).uI (Or.inr rfl)) (fun s hs2 => ?_) low.1 (Or.inr rfl) (fun z => absurd z (by decide)) (fun z => absurd z (by decide)) (by omega) (fun _ => by omega) hK
                  have hRs := hR s hs2
                  rw [uI_at, uI_at, uI_at, uI_at, if_neg (show ¬ (72 = 73 ∧ s = q) from fun z => absurd z.1 (by decide)), if_neg (show ¬ (73 = 72 ∧ s = q) from fun z => absurd z.1 (by decide))]
                  by_cases e : s = q
                  · rw [if_pos ⟨rfl, e⟩, if_pos ⟨rfl, e⟩, e, updI_eq, updI_eq]; exact ⟨rfl, rfl⟩
                  · rw [if_neg (fun z => e z.2), if_neg (fun z => e z.2), updI_ne (fun z => e (by omega)), updI_ne (fun z => e (by omega))]; exact hRs
                · skip
                  refine A_goto (pc := 174) 197 dX9_leads_174 (by decide) ?_
                  refine A_iinc (pc := 197) dX9_leads_197 rfl (Nat.le_of_ble_eq_true rfl) ?_
                  refine A_goto (pc := 200) 55 dX9_leads_200 (by decide) ?_
                  obtain ⟨u, rfl⟩ : ∃ u, n = u + 1 := ⟨n - 1, by omega⟩
                  refine A_loc (l2 := [(0, _), (1, _), (2, _), (3, _), (4, _)]) ⟨rfl, rfl, rfl, rfl, rfl, trivial⟩ ?_
                  refine ih u (by omega) (w + 1) ch L Fi σ (by omega) hF hR hI hch hs (fun z v v1 v2 => ?_) hM hM1 hK
                  by_cases e : v = (w : Int)
                  · rw [e]; exact fun _ _ _ => by rw [← eb, prc100, if_pos (by omega)]; omega
                  · exact hsw z v v1 (by omega)
        · skip
          refine A_goto (pc := 95) 197 dX9_leads_95 (by decide) ?_
          refine A_iinc (pc := 197) dX9_leads_197 rfl (Nat.le_of_ble_eq_true rfl) ?_
          refine A_goto (pc := 200) 55 dX9_leads_200 (by decide) ?_
          obtain ⟨u, rfl⟩ : ∃ u, n = u + 1 := ⟨n - 1, by omega⟩
          refine A_loc (l2 := [(0, _), (1, _), (2, _), (3, _), (4, _)]) ⟨rfl, rfl, rfl, rfl, rfl, trivial⟩ ?_
          refine ih u (by omega) (w + 1) ch L Fi σ (by omega) hF hR hI hch hs (fun z v v1 v2 => ?_) hM hM1 hK
          by_cases e : v = (w : Int)
          · rw [e]; exact fun _ _ z => absurd (by rw [← eb]; omega) z
          · exact hsw z v v1 (by omega)
set_option maxRecDepth 20000 in
theorem l4_X9_leads {G : Gl} {d : Nat} {σ0 : Sg} {K : Option Value → Sg → Prop} {Z : Zt} (hZ0 : RelM Z σ0) (hO : OkZ Z) {a : Nat} (ha : a < 49) {M0 : Int} : ∀ (n c : Nat) (ch : Int) (L Fi : Int → Int) (σ : Sg), c + n = 49 → Fr S73 σ0 σ → RLe L Fi σ → LdI Z.1 (a : Int) L Fi → (ch = 0 ∨ ch = 1) → (ch = 0 → ∀ k : Nat, k < c → ∀ v, 0 ≤ v → v < 4 → StA Z.1 (a : Int) L Fi k v) → sumL L Fi ≤ M0 → (ch = 1 → sumL L Fi < M0) → (∀ (ch : Int) (L Fi : Int → Int) (υ : Sg), Fr S73 σ0 υ → RLe L Fi υ → LdI Z.1 (a : Int) L Fi → (ch = 0 ∨ ch = 1) → (ch = 0 → ∀ k : Nat, k < 49 → ∀ v, 0 ≤ v → v < 4 → StA Z.1 (a : Int) L Fi k v) → sumL L Fi ≤ M0 → (ch = 1 → sumL L Fi < M0) → AW G (d + 3) RX9 cX9_leads 8 none 209 [(0, .ref (gA G 54)), (1, .int (iI (a : Int))), (2, .int (iI ch))] [] υ K) → AW G (d + 3) RX9 cX9_leads 8 none 46 [(0, .ref (gA G 54)), (1, .int (iI (a : Int))), (2, .int (iI ch)), (3, .int (iI (c : Int)))] [] σ K := by
  intro n
  induction n using Nat.strongRecOn
  rename_i n ih
  intro c ch L Fi σ hn hF hR hI hch hs hM hM1 hK
  refine A_iload_n (pc := 46) dX9_leads_46 rfl rfl ?_
  refine A_bipush (pc := 47) dX9_leads_47 (by decide) ?_
  refine A_icmp_ge (pc := 49) 209 dX9_leads_49 (by decide) (by omega) (by omega) (by omega) (by omega) (fun h49 => ?_) (fun h49 => ?_)
  · skip
    have hc0 : c = 49 := by omega
    subst hc0
    refine A_loc (l2 := [(0, _), (1, _), (2, _)]) ⟨rfl, rfl, rfl, trivial⟩ ?_
    exact hK ch L Fi σ hF hR hI hch hs hM hM1
  · skip
    refine A_iconst (pc := 52) dX9_leads_52 ?_
    refine A_istore (pc := 53) dX9_leads_53 (Nat.le_of_ble_eq_true rfl) ?_
    obtain ⟨u, rfl⟩ : ∃ u, n = u + 1 := ⟨n - 1, by omega⟩
    refine A_loc (l2 := [(0, _), (1, _), (2, _), (3, _), (4, _)]) ⟨rfl, rfl, rfl, rfl, rfl, trivial⟩ ?_
    refine l3_X9_leads hZ0 hO ha (M0 := M0) (c := c) (by omega) 4 0 ch L Fi σ rfl hF hR hI hch hs (fun _ v v1 v2 => by omega) hM hM1 (fun ch2 L2 Fi2 υ g1 g2 g3 g4 g5 g6 g7 => ?_)
    refine A_iinc (pc := 203) dX9_leads_203 rfl (Nat.le_of_ble_eq_true rfl) ?_
    refine A_goto (pc := 206) 46 dX9_leads_206 (by decide) ?_
    refine A_loc (l2 := [(0, _), (1, _), (2, _), (3, _)]) ⟨rfl, rfl, rfl, rfl, trivial⟩ ?_
    exact ih u (by omega) (c + 1) ch2 L2 Fi2 υ (by omega) g1 g2 g3 g4 g5 g6 g7 hK
set_option maxRecDepth 20000 in
theorem l5_X9_leads {G : Gl} {d : Nat} {σ0 : Sg} {K : Option Value → Sg → Prop} {Z : Zt} (hZ0 : RelM Z σ0) (hO : OkZ Z) {a : Nat} (ha : a < 49) : ∀ (m : Nat) (ch : Int) (L Fi : Int → Int) (σ : Sg), 2 * sumL L Fi + ch = (m : Int) → Fr S73 σ0 σ → RLe L Fi σ → LdI Z.1 (a : Int) L Fi → (ch = 0 ∨ ch = 1) → (ch = 0 → ∀ k : Nat, k < 49 → ∀ v, 0 ≤ v → v < 4 → StA Z.1 (a : Int) L Fi k v) → (∀ (L Fi : Int → Int) (υ : Sg), Fr S73 σ0 υ → RLe L Fi υ → LdI Z.1 (a : Int) L Fi → (∀ k : Nat, k < 49 → ∀ v, 0 ≤ v → v < 4 → StA Z.1 (a : Int) L Fi k v) → K none υ) → AW G (d + 3) RX9 cX9_leads 8 none 38 [(0, .ref (gA G 54)), (1, .int (iI (a : Int))), (2, .int (iI ch))] [] σ K := by
  intro m
  induction m using Nat.strongRecOn
  rename_i m ih
  intro ch L Fi σ hm hF hR hI hch hs hK
  refine A_iload_n (pc := 38) dX9_leads_38 rfl rfl ?_
  refine A_if_eq (pc := 39) 212 dX9_leads_39 (by decide) (by omega) (by omega) (fun h39 => ?_) (fun h39 => ?_)
  · skip
    refine A_vret (pc := 212) rfl dX9_leads_212 ?_
    exact hK L Fi σ hF hR hI (hs (by omega))
  · skip
    refine A_iconst (pc := 42) dX9_leads_42 ?_
    refine A_istore_n (pc := 43) dX9_leads_43 rfl (Nat.le_of_ble_eq_true rfl) ?_
    refine A_iconst (pc := 44) dX9_leads_44 ?_
    refine A_istore_n (pc := 45) dX9_leads_45 rfl (Nat.le_of_ble_eq_true rfl) ?_
    refine A_loc (l2 := [(0, _), (1, _), (2, _), (3, _)]) ⟨rfl, rfl, rfl, rfl, trivial⟩ ?_
    refine l4_X9_leads hZ0 hO ha (M0 := sumL L Fi) 49 0 0 L Fi σ rfl hF hR hI (Or.inl rfl) (fun _ k hk => absurd hk (Nat.not_lt_zero k)) (Int.le_refl _) (fun z => absurd z (by decide)) (fun ch2 L2 Fi2 υ g1 g2 g3 g4 g5 g6 g7 => ?_)
    refine A_goto (pc := 209) 38 dX9_leads_209 (by decide) ?_
    refine A_loc (l2 := [(0, _), (1, _), (2, _)]) ⟨rfl, rfl, rfl, trivial⟩ ?_
    have nn := g3.nn
    exact ih (2 * sumL L2 Fi2 + ch2).toNat (by omega) ch2 L2 Fi2 υ (by omega) g1 g2 g3 g4 g5 hK
set_option maxRecDepth 20000 in
theorem l6_X9_leads {G : Gl} {d : Nat} {σ0 : Sg} {K : Option Value → Sg → Prop} {Z : Zt} (hZ0 : RelM Z σ0) (hO : OkZ Z) {a : Nat} (ha : a < 49) (σ : Sg) (hF : Fr S73 σ0 σ) (hR : RLe (fun _ => 999999) (fun _ => 4) σ) : (∀ (L Fi : Int → Int) (υ : Sg), Fr S73 σ0 υ → RLe L Fi υ → LdI Z.1 (a : Int) L Fi → (∀ k : Nat, k < 49 → ∀ v, 0 ≤ v → v < 4 → StA Z.1 (a : Int) L Fi k v) → K none υ) → AW G (d + 3) RX9 cX9_leads 8 none 29 [(0, .ref (gA G 54)), (1, .int (iI (a : Int)))] [] σ K := by
  intro hK
  have hI := LdI.start (τ := Z.1) (a := (a : Int)) ⟨by omega, by omega⟩
  have nn := hI.nn
  refine A_aload_n (pc := 29) dX9_leads_29 rfl rfl ?_
  refine A_getR (pc := 30) fX9_63 rfl rfl dX9_leads_30 ?_
  refine A_iload_n (pc := 33) dX9_leads_33 rfl rfl ?_
  refine A_iconst (pc := 34) dX9_leads_34 ?_
  refine A_iast (pc := 35) a rfl rfl ha (Nat.le_of_ble_eq_true rfl) dX9_leads_35 ?_
  refine A_iconst (pc := 36) dX9_leads_36 ?_
  refine A_istore_n (pc := 37) dX9_leads_37 rfl (Nat.le_of_ble_eq_true rfl) ?_
  refine A_loc (l2 := [(0, _), (1, _), (2, _)]) ⟨rfl, rfl, rfl, trivial⟩ ?_
  refine l5_X9_leads hZ0 hO ha (2 * sumL (updI (fun _ => 999999) (a : Int) 0) (fun _ => 4) + 1).toNat 1 _ _ _ (by omega) (hF.uI (Or.inl rfl)) (fun s hs => ?_) hI (Or.inr rfl) (fun z => absurd z (by decide)) hK
  have hRs := hR s hs
  rw [uI_at, uI_at, if_neg (show ¬ (73 = 72 ∧ s = a) from fun z => absurd z.1 (by decide))]
  by_cases e : s = a
  · rw [if_pos ⟨rfl, e⟩, e, updI_eq]; exact ⟨rfl, by rw [← e]; exact hRs.2⟩
  · rw [if_neg (fun z => e z.2), updI_ne (fun z => e (by omega))]; exact hRs
set_option maxRecDepth 20000 in
theorem c_X9_leads {G : Gl} {d : Nat} {σ : Sg} {Z : Zt} (hZ : RelM Z σ) (hO : OkZ Z) {a : Nat} (ha : a < 49) : CT G (d + 3) yX9_leads cX9_leads 8 none [.ref (gA G 54), .int (iI (a : Int))] σ (RE none (fun υ => (∃ L Fi, RLe L Fi υ ∧ LdI Z.1 (a : Int) L Fi ∧ ∀ k : Nat, k < 49 → ∀ v, 0 ≤ v → v < 4 → StA Z.1 (a : Int) L Fi k v) ∧ Fr S73 σ υ)) := by
  refine CT.of (by decide +kernel) (Nat.le_of_ble_eq_true rfl) ?_
  change AW G _ RX9 _ _ _ 0 [(0, .ref (gA G 54)), (1, .int (iI (a : Int)))] [] _ _
  refine A_iconst (pc := 0) dX9_leads_0 ?_
  refine A_istore_n (pc := 1) dX9_leads_1 rfl (Nat.le_of_ble_eq_true rfl) ?_
  refine A_loc (l2 := [(0, _), (1, _), (2, _)]) ⟨rfl, rfl, rfl, trivial⟩ ?_
  exact l1_X9_leads hZ hO ha 49 0 σ rfl Fr.rf (fun s h => absurd h (Nat.not_lt_zero s)) (fun υ g1 g2 => l6_X9_leads hZ hO ha υ g1 g2 (fun L Fi ω k1 k2 k3 k4 => ⟨rfl, ⟨L, Fi, k2, k3, k4⟩, k1⟩))
theorem LdI.fin {τ : Tw} {a : Nat} {L Fi : Int → Int} (ha : a < 49) (h : LdI τ (a : Int) L Fi) (hs : ∀ k : Nat, k < 49 → ∀ v, 0 ≤ v → v < 4 → StA τ (a : Int) L Fi k v) {q : Int} (hq : inS q) :
    (L q = if dst τ 100 (a : Int) q = -1 then 999999 else dst τ 100 (a : Int) q) ∧ (q ≠ (a : Int) → L q < 999999 → Fi q = frs τ 100 (a : Int) q) ∧ (¬ L q < 999999 → dst τ 100 (a : Int) q = -1) := by
  have cr := cntR_rng (finL L) 49 0
  refine dst_forth h.1 h.2.1 (fun s hs2 => ⟨(h.2.2 s hs2).2.1, fun z => ⟨(h.2.2 s hs2).1, by have := (h.2.2 s hs2).2.2.2.2 z; omega⟩⟩) (fun c w hc w1 w2 hf ho hne => ?_) ⟨by omega, by omega⟩ hq
  obtain ⟨k, rfl⟩ := Int.eq_ofNat_of_zero_le hc.1
  exact hs k (by have := hc.2; omega) w w1 w2 hf ho hne
theorem dX9_way_0 : decode cX9_way 0 = .ok (.aload_n 0, 1) := by decide +kernel
theorem dX9_way_1 : decode cX9_way 1 = .ok (.iload_n 1, 1) := by decide +kernel
theorem dX9_way_2 : decode cX9_way 2 = .ok (.invokevirtual 150, 3) := by decide +kernel
theorem dX9_way_5 : decode cX9_way 5 = .ok (.ifCond .ne 9, 3) := by decide +kernel
theorem dX9_way_8 : decode cX9_way 8 = .ok (.aload_n 0, 1) := by decide +kernel
theorem dX9_way_9 : decode cX9_way 9 = .ok (.iconst (-1), 1) := by decide +kernel
theorem dX9_way_10 : decode cX9_way 10 = .ok (.invokevirtual 237, 3) := by decide +kernel
theorem dX9_way_13 : decode cX9_way 13 = .ok (.ireturn, 1) := by decide +kernel
theorem dX9_way_14 : decode cX9_way 14 = .ok (.iload_n 3, 1) := by decide +kernel
theorem dX9_way_15 : decode cX9_way 15 = .ok (.iconst 0, 1) := by decide +kernel
theorem dX9_way_16 : decode cX9_way 16 = .ok (.iconst 2, 1) := by decide +kernel
theorem dX9_way_17 : decode cX9_way 17 = .ok (.invokestatic 86, 3) := by decide +kernel
theorem dX9_way_20 : decode cX9_way 20 = .ok (.ifCond .ne 10, 3) := by decide +kernel
theorem dX9_way_23 : decode cX9_way 23 = .ok (.aload_n 0, 1) := by decide +kernel
theorem dX9_way_24 : decode cX9_way 24 = .ok (.bipush (-5), 2) := by decide +kernel
theorem dX9_way_26 : decode cX9_way 26 = .ok (.invokevirtual 237, 3) := by decide +kernel
theorem dX9_way_29 : decode cX9_way 29 = .ok (.ireturn, 1) := by decide +kernel
theorem dX9_way_30 : decode cX9_way 30 = .ok (.aload_n 0, 1) := by decide +kernel
theorem dX9_way_31 : decode cX9_way 31 = .ok (.iload_n 2, 1) := by decide +kernel
theorem dX9_way_32 : decode cX9_way 32 = .ok (.invokevirtual 143, 3) := by decide +kernel
theorem dX9_way_35 : decode cX9_way 35 = .ok (.ifCond .ne 10, 3) := by decide +kernel
theorem dX9_way_38 : decode cX9_way 38 = .ok (.aload_n 0, 1) := by decide +kernel
theorem dX9_way_39 : decode cX9_way 39 = .ok (.bipush (-6), 2) := by decide +kernel
theorem dX9_way_41 : decode cX9_way 41 = .ok (.invokevirtual 237, 3) := by decide +kernel
theorem dX9_way_44 : decode cX9_way 44 = .ok (.ireturn, 1) := by decide +kernel
theorem dX9_way_45 : decode cX9_way 45 = .ok (.aload_n 0, 1) := by decide +kernel
theorem dX9_way_46 : decode cX9_way 46 = .ok (.aload_n 0, 1) := by decide +kernel
theorem dX9_way_47 : decode cX9_way 47 = .ok (.getfield 22, 3) := by decide +kernel
theorem dX9_way_50 : decode cX9_way 50 = .ok (.iload_n 1, 1) := by decide +kernel
theorem dX9_way_51 : decode cX9_way 51 = .ok (.iaload, 1) := by decide +kernel
theorem dX9_way_52 : decode cX9_way 52 = .ok (.invokevirtual 245, 3) := by decide +kernel
theorem dX9_way_55 : decode cX9_way 55 = .ok (.aload_n 0, 1) := by decide +kernel
theorem dX9_way_56 : decode cX9_way 56 = .ok (.getfield 63, 3) := by decide +kernel
theorem dX9_way_59 : decode cX9_way 59 = .ok (.iload_n 2, 1) := by decide +kernel
theorem dX9_way_60 : decode cX9_way 60 = .ok (.iaload, 1) := by decide +kernel
theorem dX9_way_61 : decode cX9_way 61 = .ok (.ldc 244, 2) := by decide +kernel
theorem dX9_way_63 : decode cX9_way 63 = .ok (.if_icmp .eq 18, 3) := by decide +kernel
theorem dX9_way_66 : decode cX9_way 66 = .ok (.iload_n 3, 1) := by decide +kernel
theorem dX9_way_67 : decode cX9_way 67 = .ok (.iconst 2, 1) := by decide +kernel
theorem dX9_way_68 : decode cX9_way 68 = .ok (.if_icmp .ne 15, 3) := by decide +kernel
theorem dX9_way_71 : decode cX9_way 71 = .ok (.iload_n 2, 1) := by decide +kernel
theorem dX9_way_72 : decode cX9_way 72 = .ok (.aload_n 0, 1) := by decide +kernel
theorem dX9_way_73 : decode cX9_way 73 = .ok (.getfield 22, 3) := by decide +kernel
theorem dX9_way_76 : decode cX9_way 76 = .ok (.iload_n 1, 1) := by decide +kernel
theorem dX9_way_77 : decode cX9_way 77 = .ok (.iaload, 1) := by decide +kernel
theorem dX9_way_78 : decode cX9_way 78 = .ok (.if_icmp .ne 5, 3) := by decide +kernel
theorem dX9_way_81 : decode cX9_way 81 = .ok (.iconst (-1), 1) := by decide +kernel
theorem dX9_way_82 : decode cX9_way 82 = .ok (.ireturn, 1) := by decide +kernel
theorem dX9_way_83 : decode cX9_way 83 = .ok (.iload_n 3, 1) := by decide +kernel
theorem dX9_way_84 : decode cX9_way 84 = .ok (.ifCond .ne 15, 3) := by decide +kernel
theorem dX9_way_87 : decode cX9_way 87 = .ok (.aload_n 0, 1) := by decide +kernel
theorem dX9_way_88 : decode cX9_way 88 = .ok (.getfield 63, 3) := by decide +kernel
theorem dX9_way_91 : decode cX9_way 91 = .ok (.iload_n 2, 1) := by decide +kernel
theorem dX9_way_92 : decode cX9_way 92 = .ok (.iaload, 1) := by decide +kernel
theorem dX9_way_93 : decode cX9_way 93 = .ok (.bipush 100, 2) := by decide +kernel
theorem dX9_way_95 : decode cX9_way 95 = .ok (.idiv, 1) := by decide +kernel
theorem dX9_way_96 : decode cX9_way 96 = .ok (.goto 26, 3) := by decide +kernel
theorem dX9_way_99 : decode cX9_way 99 = .ok (.iload_n 3, 1) := by decide +kernel
theorem dX9_way_100 : decode cX9_way 100 = .ok (.iconst 1, 1) := by decide +kernel
theorem dX9_way_101 : decode cX9_way 101 = .ok (.if_icmp .ne 15, 3) := by decide +kernel
theorem dX9_way_104 : decode cX9_way 104 = .ok (.aload_n 0, 1) := by decide +kernel
theorem dX9_way_105 : decode cX9_way 105 = .ok (.getfield 63, 3) := by decide +kernel
theorem dX9_way_108 : decode cX9_way 108 = .ok (.iload_n 2, 1) := by decide +kernel
theorem dX9_way_109 : decode cX9_way 109 = .ok (.iaload, 1) := by decide +kernel
theorem dX9_way_110 : decode cX9_way 110 = .ok (.bipush 100, 2) := by decide +kernel
theorem dX9_way_112 : decode cX9_way 112 = .ok (.irem, 1) := by decide +kernel
theorem dX9_way_113 : decode cX9_way 113 = .ok (.goto 9, 3) := by decide +kernel
theorem dX9_way_116 : decode cX9_way 116 = .ok (.aload_n 0, 1) := by decide +kernel
theorem dX9_way_117 : decode cX9_way 117 = .ok (.getfield 66, 3) := by decide +kernel
theorem dX9_way_120 : decode cX9_way 120 = .ok (.iload_n 2, 1) := by decide +kernel
theorem dX9_way_121 : decode cX9_way 121 = .ok (.iaload, 1) := by decide +kernel
theorem dX9_way_122 : decode cX9_way 122 = .ok (.ireturn, 1) := by decide +kernel
set_option maxRecDepth 20000 in
theorem c_X9_way {G : Gl} {d : Nat} {σ : Sg} {Z : Zt} (hZ : RelM Z σ) (hO : OkZ Z) (hw : OkW Z.1) {p : Int} (hp1 : -2147483648 ≤ p) (hp2 : p < 2147483648) {s : Int} (hs1 : -2147483648 ≤ s) (hs2 : s < 2147483648) {w : Int} (hw1 : -2147483648 ≤ w) (hw2 : w < 2147483648) : CT G (d + 4) yX9_way cX9_way 4 (some .int) [.ref (gA G 54), .int (iI p), .int (iI s), .int (iI w)] σ (RE (some (.int (iI (qWay Z p s w).1))) (fun υ => RelM (qWay Z p s w).2 υ ∧ Fr MC σ υ)) := by
  refine CT.of (by decide +kernel) (Nat.le_of_ble_eq_true rfl) ?_
  change AW G _ RX9 _ _ _ 0 [(0, .ref (gA G 54)), (1, .int (iI p)), (2, .int (iI s)), (3, .int (iI w))] [] _ _
  have o5 := hO.1.2.2.2.2.1
  refine A_aload_n (pc := 0) dX9_way_0 rfl rfl ?_
  refine A_iload_n (pc := 1) dX9_way_1 rfl rfl ?_
  refine A_callV1 (pc := 2) kX9_150 rfl rfl (c_X9_isWalker hZ.1 hO.1 hp1 hp2) dX9_way_2 rfl rfl (Nat.le_of_ble_eq_true rfl) (Nat.le_of_ble_eq_true rfl) ?_
  refine A_ifb_ne (pc := 5) 14 dX9_way_5 (by decide) (fun h5 => ?_) (fun h5 => ?_)
  · skip
    obtain ⟨k, rfl⟩ := Int.eq_ofNat_of_zero_le (show 0 ≤ p by omega)
    refine A_iload_n (pc := 14) dX9_way_14 rfl rfl ?_
    refine A_iconst (pc := 15) dX9_way_15 ?_
    refine A_iconst (pc := 16) dX9_way_16 ?_
    refine A_callS1 (pc := 17) kX9_86 (c_X9_within (v := w) (a := 0) (b := 2) (by omega) (by omega) (by omega) (by omega) (by omega) (by omega)) dX9_way_17 rfl rfl (Nat.le_of_ble_eq_true rfl) (Nat.le_of_ble_eq_true rfl) ?_
    refine A_ifb_ne (pc := 20) 30 dX9_way_20 (by decide) (fun h20 => ?_) (fun h20 => ?_)
    · skip
      refine A_aload_n (pc := 30) dX9_way_30 rfl rfl ?_
      refine A_iload_n (pc := 31) dX9_way_31 rfl rfl ?_
      refine A_callV1 (pc := 32) kX9_143 rfl rfl (c_X9_isOpen hZ.1 hO.1 hs1 hs2) dX9_way_32 rfl rfl (Nat.le_of_ble_eq_true rfl) (Nat.le_of_ble_eq_true rfl) ?_
      refine A_ifb_ne (pc := 35) 45 dX9_way_35 (by decide) (fun h35 => ?_) (fun h35 => ?_)
      · skip
        have hok := hw k (by omega)
        obtain ⟨a, hat⟩ := Int.eq_ofNat_of_zero_le hok.1.1
        have ha : a < 49 := by have := hok.1.2; omega
        obtain ⟨j, rfl⟩ := Int.eq_ofNat_of_zero_le h35.1.1
        have j49 : j < 49 := by have := h35.1.2; omega
        refine A_aload_n (pc := 45) dX9_way_45 rfl rfl ?_
        refine A_aload_n (pc := 46) dX9_way_46 rfl rfl ?_
        refine A_getR (pc := 47) fX9_22 rfl rfl dX9_way_47 ?_
        refine A_iload_n (pc := 50) dX9_way_50 rfl rfl ?_
        refine A_ialdv (pc := 51) _ rfl rfl (by omega) (Nat.le_of_ble_eq_true rfl) ((hZ.1.wat (p := k) (by omega)).trans hat) dX9_way_51 ?_
        refine A_callVe0 (pc := 52) kX9_245 rfl rfl (c_X9_leads hZ hO ha) dX9_way_52 rfl rfl (Nat.le_of_ble_eq_true rfl) (Nat.le_of_ble_eq_true rfl) (fun υ hυ => ?_)
        obtain ⟨⟨L, Fi, hR, hI, hS⟩, hF⟩ := hυ
        have hZ2 := hZ.fr hF S73M
        have hRj := hR j j49
        have hfi := hI.fin ha hS (q := (j : Int)) ⟨by omega, by omega⟩
        have hL := hfi.1
        have hIj := hI.2.2 (j : Int) ⟨by omega, by omega⟩
        refine A_aload_n (pc := 55) dX9_way_55 rfl rfl ?_
        refine A_getR (pc := 56) fX9_63 rfl rfl dX9_way_56 ?_
        refine A_iload_n (pc := 59) dX9_way_59 rfl rfl ?_
        refine A_ialdv (pc := 60) j rfl rfl j49 (Nat.le_of_ble_eq_true rfl) hRj.1 dX9_way_60 ?_
        refine A_ldc (pc := 61) inX9_244 dX9_way_61 ?_
        refine A_icmp_eq (pc := 63) 81 dX9_way_63 (by decide) (by omega) (by omega) (by omega) (by omega) (fun h63 => ?_) (fun h63 => ?_)
        · skip
          refine A_iconst (pc := 81) dX9_way_81 ?_
          refine A_iret (pc := 82) rfl dX9_way_82 ?_
          have e : dst Z.1 100 (a : Int) (j : Int) = -1 := hfi.2.2 (by omega)
          exact RQM (by unfold qWay; simp only [Int.toNat_natCast]; rw [hat, if_neg (by omega), if_neg (by omega), if_neg (fun z => z h35), if_pos e]) hZ2 (hF.mono S73C)
        · skip
          refine A_iload_n (pc := 66) dX9_way_66 rfl rfl ?_
          refine A_iconst (pc := 67) dX9_way_67 ?_
          refine A_icmp_ne (pc := 68) 83 dX9_way_68 (by decide) (by omega) (by omega) (by omega) (by omega) (fun h68 => ?_) (fun h68 => ?_)
          · skip
            refine A_iload_n (pc := 83) dX9_way_83 rfl rfl ?_
            refine A_if_ne (pc := 84) 99 dX9_way_84 (by decide) (by omega) (by omega) (fun h84 => ?_) (fun h84 => ?_)
            · skip
              refine A_iload_n (pc := 99) dX9_way_99 rfl rfl ?_
              refine A_iconst (pc := 100) dX9_way_100 ?_
              refine A_icmp_ne (pc := 101) 116 dX9_way_101 (by decide) (by omega) (by omega) (by omega) (by omega) (fun h101 => ?_) (fun h101 => ?_)
              · skip
                refine A_aload_n (pc := 116) dX9_way_116 rfl rfl ?_
                refine A_getR (pc := 117) fX9_66 rfl rfl dX9_way_117 ?_
                refine A_iload_n (pc := 120) dX9_way_120 rfl rfl ?_
                refine A_ialdv (pc := 121) j rfl rfl j49 (Nat.le_of_ble_eq_true rfl) hRj.2 dX9_way_121 ?_
                refine A_iret (pc := 122) rfl dX9_way_122 ?_
                exfalso; omega
              · skip
                refine A_aload_n (pc := 104) dX9_way_104 rfl rfl ?_
                refine A_getR (pc := 105) fX9_63 rfl rfl dX9_way_105 ?_
                refine A_iload_n (pc := 108) dX9_way_108 rfl rfl ?_
                refine A_ialdv (pc := 109) j rfl rfl j49 (Nat.le_of_ble_eq_true rfl) hRj.1 dX9_way_109 ?_
                refine A_bipush (pc := 110) dX9_way_110 (by decide) ?_
                refine A_irem (pc := 112) dX9_way_112 (by omega) (by omega) (by omega) (by omega) ?_
                refine A_goto (pc := 113) 122 dX9_way_113 (by decide) ?_
                refine A_iret (pc := 122) rfl dX9_way_122 ?_
                have ne : ¬ dst Z.1 100 (a : Int) (j : Int) = -1 := fun e => by rw [if_pos e] at hL; omega
                have ed : L (j : Int) = dst Z.1 100 (a : Int) (j : Int) := by rw [if_neg ne] at hL; exact hL
                exact RQM (by unfold qWay; simp only [Int.toNat_natCast]; rw [hat, if_neg (by omega), if_neg (by omega), if_neg (fun z => z h35), if_neg ne, if_neg (by omega), if_pos (by omega), ← ed]) hZ2 (hF.mono S73C)
            · skip
              refine A_aload_n (pc := 87) dX9_way_87 rfl rfl ?_
              refine A_getR (pc := 88) fX9_63 rfl rfl dX9_way_88 ?_
              refine A_iload_n (pc := 91) dX9_way_91 rfl rfl ?_
              refine A_ialdv (pc := 92) j rfl rfl j49 (Nat.le_of_ble_eq_true rfl) hRj.1 dX9_way_92 ?_
              refine A_bipush (pc := 93) dX9_way_93 (by decide) ?_
              refine A_idiv (pc := 95) dX9_way_95 (by omega) (by omega) (by omega) (by omega) ?_
              refine A_goto (pc := 96) 122 dX9_way_96 (by decide) ?_
              refine A_iret (pc := 122) rfl dX9_way_122 ?_
              have ne : ¬ dst Z.1 100 (a : Int) (j : Int) = -1 := fun e => by rw [if_pos e] at hL; omega
              have ed : L (j : Int) = dst Z.1 100 (a : Int) (j : Int) := by rw [if_neg ne] at hL; exact hL
              exact RQM (by unfold qWay; simp only [Int.toNat_natCast]; rw [hat, if_neg (by omega), if_neg (by omega), if_neg (fun z => z h35), if_neg ne, if_pos (by omega), ← ed]) hZ2 (hF.mono S73C)
          · skip
            refine A_iload_n (pc := 71) dX9_way_71 rfl rfl ?_
            refine A_aload_n (pc := 72) dX9_way_72 rfl rfl ?_
            refine A_getR (pc := 73) fX9_22 rfl rfl dX9_way_73 ?_
            refine A_iload_n (pc := 76) dX9_way_76 rfl rfl ?_
            refine A_ialdv (pc := 77) _ rfl rfl (by omega) (Nat.le_of_ble_eq_true rfl) ((hZ2.1.wat (p := k) (by omega)).trans hat) dX9_way_77 ?_
            refine A_icmp_ne (pc := 78) 83 dX9_way_78 (by decide) (by omega) (by omega) (by omega) (by omega) (fun h78 => ?_) (fun h78 => ?_)
            · skip
              refine A_iload_n (pc := 83) dX9_way_83 rfl rfl ?_
              refine A_if_ne (pc := 84) 99 dX9_way_84 (by decide) (by omega) (by omega) (fun h84 => ?_) (fun h84 => ?_)
              · skip
                refine A_iload_n (pc := 99) dX9_way_99 rfl rfl ?_
                refine A_iconst (pc := 100) dX9_way_100 ?_
                refine A_icmp_ne (pc := 101) 116 dX9_way_101 (by decide) (by omega) (by omega) (by omega) (by omega) (fun h101 => ?_) (fun h101 => ?_)
                · skip
                  refine A_aload_n (pc := 116) dX9_way_116 rfl rfl ?_
                  refine A_getR (pc := 117) fX9_66 rfl rfl dX9_way_117 ?_
                  refine A_iload_n (pc := 120) dX9_way_120 rfl rfl ?_
                  refine A_ialdv (pc := 121) j rfl rfl j49 (Nat.le_of_ble_eq_true rfl) hRj.2 dX9_way_121 ?_
                  refine A_iret (pc := 122) rfl dX9_way_122 ?_
                  have ne : ¬ dst Z.1 100 (a : Int) (j : Int) = -1 := fun e => by rw [if_pos e] at hL; omega
                  have ed : L (j : Int) = dst Z.1 100 (a : Int) (j : Int) := by rw [if_neg ne] at hL; exact hL
                  have ef := hfi.2.1 (by omega) (by omega)
                  exact RQM (by unfold qWay; simp only [Int.toNat_natCast]; rw [hat, if_neg (by omega), if_neg (by omega), if_neg (fun z => z h35), if_neg ne, if_neg (by omega), if_neg (by omega), ← ef]) hZ2 (hF.mono S73C)
                · skip
                  refine A_aload_n (pc := 104) dX9_way_104 rfl rfl ?_
                  refine A_getR (pc := 105) fX9_63 rfl rfl dX9_way_105 ?_
                  refine A_iload_n (pc := 108) dX9_way_108 rfl rfl ?_
                  refine A_ialdv (pc := 109) j rfl rfl j49 (Nat.le_of_ble_eq_true rfl) hRj.1 dX9_way_109 ?_
                  refine A_bipush (pc := 110) dX9_way_110 (by decide) ?_
                  refine A_irem (pc := 112) dX9_way_112 (by omega) (by omega) (by omega) (by omega) ?_
                  refine A_goto (pc := 113) 122 dX9_way_113 (by decide) ?_
                  refine A_iret (pc := 122) rfl dX9_way_122 ?_
                  exfalso; omega
              · skip
                refine A_aload_n (pc := 87) dX9_way_87 rfl rfl ?_
                refine A_getR (pc := 88) fX9_63 rfl rfl dX9_way_88 ?_
                refine A_iload_n (pc := 91) dX9_way_91 rfl rfl ?_
                refine A_ialdv (pc := 92) j rfl rfl j49 (Nat.le_of_ble_eq_true rfl) hRj.1 dX9_way_92 ?_
                refine A_bipush (pc := 93) dX9_way_93 (by decide) ?_
                refine A_idiv (pc := 95) dX9_way_95 (by omega) (by omega) (by omega) (by omega) ?_
                refine A_goto (pc := 96) 122 dX9_way_96 (by decide) ?_
                refine A_iret (pc := 122) rfl dX9_way_122 ?_
                exfalso; omega
            · skip
              refine A_iconst (pc := 81) dX9_way_81 ?_
              refine A_iret (pc := 82) rfl dX9_way_82 ?_
              have ne : ¬ dst Z.1 100 (a : Int) (j : Int) = -1 := fun e => by rw [if_pos e] at hL; omega
              have ed : L (j : Int) = dst Z.1 100 (a : Int) (j : Int) := by rw [if_neg ne] at hL; exact hL
              have ej : (j : Int) = (a : Int) := by omega
              rw [ej] at ne
              exact RQM (by unfold qWay; simp only [Int.toNat_natCast]; rw [hat, ej, if_neg (by omega), if_neg (by omega), if_neg (fun z => z (by rw [← ej]; exact h35)), if_neg ne, if_neg (by omega), if_neg (by omega), frs_self]) hZ2 (hF.mono S73C)
      · skip
        refine A_aload_n (pc := 38) dX9_way_38 rfl rfl ?_
        refine A_bipush (pc := 39) dX9_way_39 (by decide) ?_
        refine A_callVe (pc := 41) kX9_237 rfl rfl (c_X9_no10 hZ hO (t := -6) (by omega) (by omega)) dX9_way_41 rfl rfl (Nat.le_of_ble_eq_true rfl) (Nat.le_of_ble_eq_true rfl) (fun υ hυ => ?_)
        refine A_iret (pc := 44) rfl dX9_way_44 ?_
        exact RQM (by unfold qWay; rw [if_neg (by omega), if_neg (by omega), if_pos h35]; rfl) hυ.1 (hυ.2.mono MC70)
    · skip
      refine A_aload_n (pc := 23) dX9_way_23 rfl rfl ?_
      refine A_bipush (pc := 24) dX9_way_24 (by decide) ?_
      refine A_callVe (pc := 26) kX9_237 rfl rfl (c_X9_no10 hZ hO (t := -5) (by omega) (by omega)) dX9_way_26 rfl rfl (Nat.le_of_ble_eq_true rfl) (Nat.le_of_ble_eq_true rfl) (fun υ hυ => ?_)
      refine A_iret (pc := 29) rfl dX9_way_29 ?_
      exact RQM (by unfold qWay; rw [if_neg (by omega), if_pos (by omega)]; rfl) hυ.1 (hυ.2.mono MC70)
  · skip
    refine A_aload_n (pc := 8) dX9_way_8 rfl rfl ?_
    refine A_iconst (pc := 9) dX9_way_9 ?_
    refine A_callVe (pc := 10) kX9_237 rfl rfl (c_X9_no10 hZ hO (t := -1) (by omega) (by omega)) dX9_way_10 rfl rfl (Nat.le_of_ble_eq_true rfl) (Nat.le_of_ble_eq_true rfl) (fun υ hυ => ?_)
    refine A_iret (pc := 13) rfl dX9_way_13 ?_
    exact RQM (by unfold qWay; rw [if_pos (by omega)]; rfl) hυ.1 (hυ.2.mono MC70)
