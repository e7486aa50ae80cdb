/-! PART 26: the class measures its ways -/
/-- the prices, as they lie -/
def RWp (c : Nat) (pv : Int → Int) (σ : Sg) : Prop := ∀ s : Nat, s < 49 → σ.1 (c + 1) s = pv s
def RWn (pv : Int → Int) : Prop := ∀ s, inS s → 0 ≤ pv s ∧ pv s ≤ 1000000
def priF (pv : Int → Int) (s : Int) : Int := if inS s then pv s else 1000000
theorem priF_rng {pv : Int → Int} (h : RWn pv) (s : Int) : 0 ≤ priF pv s ∧ priF pv s ≤ 1000000 := by
  unfold priF
  by_cases q : inS s
  · rw [if_pos q]; exact h s q
  · rw [if_neg q]; omega
theorem priF_in {pv : Int → Int} {s : Int} (h : inS s) : priF pv s = pv s := if_pos h
def lowF (pv : Int → Int) (q x : Int) : Int → Int := fun s => if s = q ∧ inS s then min (pv s) x else pv s
def chG (S : Nat) (pv : Int → Int) : Nat → Nat → Int → Int
  | 0, _, b => b
  | n + 1, i, b => if S.testBit i = false ∧ (b = -1 ∨ pv i < pv b) then chG S pv n (i + 1) i else chG S pv n (i + 1) b
theorem chG_y {S : Nat} {pv : Int → Int} {n i : Nat} {b : Int} (h1 : S.testBit i = false) (h2 : b = -1 ∨ pv i < pv b) : chG S pv (n + 1) i b = chG S pv n (i + 1) i := by rw [chG, if_pos ⟨h1, h2⟩]
theorem chG_n1 {S : Nat} {pv : Int → Int} {n i : Nat} {b : Int} (h1 : S.testBit i = true) : chG S pv (n + 1) i b = chG S pv n (i + 1) b := by rw [chG, if_neg (fun q => by rw [h1] at q; exact absurd q.1 (by decide))]
theorem chG_n2 {S : Nat} {pv : Int → Int} {n i : Nat} {b : Int} (h : ¬ (b = -1 ∨ pv i < pv b)) : chG S pv (n + 1) i b = chG S pv n (i + 1) b := by rw [chG, if_neg (fun q => h q.2)]
def ChO (S : Nat) (pv : Int → Int) (i : Nat) (b : Int) : Prop := (b = -1 ∧ ∀ j : Nat, j < i → S.testBit j = true) ∨ (∃ k : Nat, b = (k : Int) ∧ k < i ∧ S.testBit k = false ∧ ∀ j : Nat, j < i → S.testBit j = false → pv k ≤ pv j)
theorem chG_ok {S : Nat} {pv : Int → Int} : ∀ (n i : Nat) (b : Int), ChO S pv i b → ChO S pv (i + n) (chG S pv n i b)
  | 0, i, b, h => h
  | n + 1, i, b, h => by
    have e : i + (n + 1) = i + 1 + n := by omega
    rw [e]
    by_cases q1 : S.testBit i = true
    · rw [chG_n1 q1]
      refine chG_ok n (i + 1) b ?_
      rcases h with ⟨h1, h2⟩ | ⟨k, h1, h2, h3, h4⟩
      · refine Or.inl ⟨h1, fun j hj => ?_⟩
        by_cases z : j = i
        · rw [z]; exact q1
        · exact h2 j (by omega)
      · refine Or.inr ⟨k, h1, by omega, h3, fun j hj hb => ?_⟩
        by_cases z : j = i
        · rw [z, q1] at hb; exact absurd hb (by decide)
        · exact h4 j (by omega) hb
    · have q1' : S.testBit i = false := Bool.eq_false_iff.mpr q1
      by_cases q2 : b = -1 ∨ pv i < pv b
      · rw [chG_y q1' q2]
        refine chG_ok n (i + 1) i (Or.inr ⟨i, rfl, by omega, q1', fun j hj hb => ?_⟩)
        by_cases z : j = i
        · rw [z]; exact Int.le_refl _
        · rcases h with ⟨h1, h2⟩ | ⟨k, h1, h2, h3, h4⟩
          · have := h2 j (by omega); rw [hb] at this; exact absurd this (by decide)
          · have := h4 j (by omega) hb
            rcases q2 with q2 | q2
            · omega
            · rw [h1] at q2; omega
      · rw [chG_n2 q2]
        refine chG_ok n (i + 1) b ?_
        rcases h with ⟨h1, h2⟩ | ⟨k, h1, h2, h3, h4⟩
        · exact absurd (Or.inl h1) q2
        · refine Or.inr ⟨k, h1, by omega, h3, fun j hj hb => ?_⟩
          by_cases z : j = i
          · rw [z]; rw [h1] at q2; omega
          · exact h4 j (by omega) hb
theorem cntR_upd {f g : Nat → Bool} {b : Nat} (hb : f b = true) (gb : g b = false) (h : ∀ j, j ≠ b → f j = g j) : ∀ n i, i ≤ b → b < i + n → cntR f n i = cntR g n i + 1
  | 0, i, h1, h2 => by omega
  | n + 1, i, h1, h2 => by
    by_cases e : i = b
    · subst e
      have z : ∀ n k, i < k → cntR f n k = cntR g n k := by
        intro n
        induction n with
        | zero => intro k _; rfl
        | succ n ih => intro k hk; rw [cntR, cntR, h k (by omega), ih (k + 1) (by omega)]
      rw [cntR_y hb, cntR_n gb, z n (i + 1) (by omega)]; omega
    · rw [cntR, cntR, h i e, cntR_upd hb gb h n (i + 1) (by omega) (by omega)]; omega
theorem cntR_0 {f : Nat → Bool} : ∀ n i, cntR f n i = 0 → ∀ k, i ≤ k → k < i + n → f k = false
  | 0, i, _, k, h1, h2 => by omega
  | n + 1, i, h, k, h1, h2 => by
    have r := cntR_rng f n (i + 1)
    cases e : f i with
    | true => rw [cntR_y e] at h; omega
    | false =>
      rw [cntR_n e] at h
      by_cases z : k = i
      · rw [z]; exact e
      · exact cntR_0 n (i + 1) h k (by omega) (by omega)
theorem cntR_all {f : Nat → Bool} : ∀ n i, (∀ k, i ≤ k → k < i + n → f k = false) → cntR f n i = 0
  | 0, i, _ => rfl
  | n + 1, i, h => by rw [cntR_n (h i (by omega) (by omega)), cntR_all n (i + 1) (fun k h1 h2 => h k (by omega) (by omega))]
theorem cntR_one {f : Nat → Bool} : ∀ n i, (∀ k, i ≤ k → k < i + n → f k = true) → cntR f n i = n
  | 0, i, _ => rfl
  | n + 1, i, h => by rw [cntR_y (h i (by omega) (by omega)), cntR_one n (i + 1) (fun k h1 h2 => h k (by omega) (by omega))]; omega
/-- between two rounds -/
def Dj0 (τ : Tw) (P g : Int) (i : Nat) (S : Nat) (pv : Int → Int) : Prop := S < 2 ^ 49 ∧ cntR (fun s => !S.testBit s) 49 0 = 49 - (i : Int) ∧ pv g = 0 ∧ (∀ c, inS c → 0 ≤ pv c ∧ pv c ≤ 1000000 ∧ (pv c < 1000000 → pv c ≤ 6301 * (i : Int) ∧ opn τ c ∧ ∃ n, WkN τ P n c g (pv c))) ∧
  (∀ s u, sT S s → inS u → ¬ sT S u → pv s ≤ pv u) ∧ (∀ s v, sT S s → pv s < 1000000 → 0 ≤ v → v < 4 → opn τ (bes s (3 - v)) → pv (bes s (3 - v)) ≤ pv s + prc τ P s v)
/-- within a round -/
def Dj1 (τ : Tw) (P g : Int) (i : Nat) (S : Nat) (b w : Int) (pv : Int → Int) : Prop := pv g = 0 ∧ (∀ c, inS c → 0 ≤ pv c ∧ pv c ≤ 1000000 ∧ (pv c < 1000000 → pv c ≤ 6301 * ((i : Int) + 1) ∧ opn τ c ∧ ∃ n, WkN τ P n c g (pv c))) ∧ (pv b < 1000000 → pv b ≤ 6301 * (i : Int)) ∧
  (∀ s, sT S s → pv s ≤ pv b) ∧ (∀ u, inS u → ¬ sT S u → pv b ≤ pv u) ∧ (∀ s v, sT S s → (s = b → v < w) → pv s < 1000000 → 0 ≤ v → v < 4 → opn τ (bes s (3 - v)) → pv (bes s (3 - v)) ≤ pv s + prc τ P s v)
theorem Dj1.next {τ : Tw} {P g : Int} {i S : Nat} {b w : Int} {pv : Int → Int} (hP : P = 0 ∨ P = 100) (h : Dj1 τ P g i S b w pv) (hb : sT S b) (w1 : 0 ≤ w) (w2 : w < 4) (h2 : pv b < 1000000) (h3 : opn τ (bes b (3 - w))) (hi : i < 49) : Dj1 τ P g i S b (w + 1) (lowF pv (bes b (3 - w)) (pv b + prc τ P b w)) := by
  obtain ⟨d1, d2, d3, d4, d5, d6⟩ := h
  have hr := prc_rng (τ := τ) (s := b) (w := w) hP
  obtain ⟨ob, nb, kb⟩ := ((d2 b ⟨hb.1, hb.2.1⟩).2.2 h2).2
  have hbb := d2 b ⟨hb.1, hb.2.1⟩
  have hk := d3 h2
  have hq := d2 _ h3.1
  -- the squares of S keep their price
  have keep : ∀ s, sT S s → lowF pv (bes b (3 - w)) (pv b + prc τ P b w) s = pv s := by
    intro s hs
    unfold lowF
    by_cases e : s = bes b (3 - w) ∧ inS s
    · rw [if_pos e]
      have := d4 s hs
      omega
    · rw [if_neg e]
  have le : ∀ s, lowF pv (bes b (3 - w)) (pv b + prc τ P b w) s ≤ pv s := by
    intro s
    unfold lowF
    by_cases e : s = bes b (3 - w) ∧ inS s
    · rw [if_pos e]; omega
    · rw [if_neg e]; exact Int.le_refl _
  have bk : bes (bes b (3 - w)) w = b := by
    have := bes_bk (c := b) (w := 3 - w) ⟨hb.1, hb.2.1⟩ (by omega) (by omega) h3.1.1
    rw [show (3 : Int) - (3 - w) = w by omega] at this
    exact this
  have cases : ∀ s, lowF pv (bes b (3 - w)) (pv b + prc τ P b w) s = pv s ∨ (s = bes b (3 - w) ∧ lowF pv (bes b (3 - w)) (pv b + prc τ P b w) s = pv b + prc τ P b w) := by
    intro s
    unfold lowF
    by_cases e : s = bes b (3 - w) ∧ inS s
    · rw [if_pos e]
      by_cases z : pv s ≤ pv b + prc τ P b w
      · exact Or.inl (Int.min_eq_left z)
      · exact Or.inr ⟨e.1, Int.min_eq_right (by omega)⟩
    · rw [if_neg e]; exact Or.inl rfl
  have eb := keep b hb
  refine ⟨?_, fun c hc => ?_, ?_, fun s hs => ?_, fun u hu nu => ?_, fun s v hs hv hf v1 v2 ho => ?_⟩
  · have a := le g
    rcases cases g with e | ⟨-, e⟩
    · rw [e]; exact d1
    · omega
  · have k := d2 c hc
    rcases cases c with e | ⟨e1, e⟩
    · rw [e]
      exact ⟨k.1, k.2.1, k.2.2⟩
    · have a := le c
      rw [e] at a ⊢
      refine ⟨by omega, by omega, fun _ => ⟨by omega, by rw [e1]; exact h3, nb + 1, w, pv b, w1, w2, ?_, ?_, ?_⟩⟩
      · rw [e1, bk]; exact ob
      · rw [e1, bk]
      · rw [e1, bk]; exact kb
  · rw [eb]; exact d3
  · rw [keep s hs, eb]; exact d4 s hs
  · rw [eb]
    have a := d5 u hu nu
    rcases cases u with e | ⟨-, e⟩
    · rw [e]; exact a
    · rw [e]; omega
  · rw [keep s hs] at hf ⊢
    have a := le (bes s (3 - v))
    by_cases z : s = b ∧ v = w
    · rw [z.1, z.2]
      unfold lowF
      rw [if_pos ⟨rfl, h3.1⟩]
      omega
    · have c := d6 s v hs (fun q => by have := hv q; by_cases y : v = w; exact absurd ⟨q, y⟩ z; omega) hf v1 v2 ho
      omega
theorem Dj1.skip {τ : Tw} {P g : Int} {i S : Nat} {b w : Int} {pv : Int → Int} (h : Dj1 τ P g i S b w pv) (hb : sT S b) (hn : ¬ (pv b < 1000000 ∧ opn τ (bes b (3 - w)))) : Dj1 τ P g i S b (w + 1) pv := by
  obtain ⟨d1, d2, d3, d4, d5, d6⟩ := h
  refine ⟨d1, d2, d3, d4, d5, fun s v hs hv hf v1 v2 ho => ?_⟩
  by_cases z : s = b ∧ v = w
  · rw [z.1] at hf; rw [z.1, z.2] at ho; exact absurd ⟨hf, ho⟩ hn
  · exact d6 s v hs (fun q => by have := hv q; by_cases y : v = w; exact absurd ⟨q, y⟩ z; omega) hf v1 v2 ho
theorem sT_with {S : Nat} {k : Nat} (hk : k < 49) (s : Int) : sT (S ||| sqB (k : Int)) s ↔ sT S s ∨ s = (k : Int) := by
  have e : sqB (k : Int) = 2 ^ k := by unfold sqB; rw [if_pos (by omega)]; rfl
  rw [e]
  constructor
  · intro h
    obtain ⟨h1, h2, h3⟩ := h
    obtain ⟨j, rfl⟩ := Int.eq_ofNat_of_zero_le h1
    rw [Int.toNat_natCast, bt_or, Bool.or_eq_true, decide_eq_true_eq] at h3
    rcases h3 with h3 | h3
    · exact Or.inl ⟨h1, h2, h3⟩
    · exact Or.inr (by rw [h3])
  · intro h
    rcases h with ⟨h1, h2, h3⟩ | h
    · refine ⟨h1, h2, ?_⟩
      rw [bt_or, h3]; rfl
    · rw [h]
      refine ⟨by omega, by omega, ?_⟩
      rw [Int.toNat_natCast, bt_or]; simp
theorem Dj0.pick {τ : Tw} {P g : Int} {i S : Nat} {pv : Int → Int} (h : Dj0 τ P g i S pv) (hi : i < 49) : ∃ k : Nat, chG S pv 49 0 (-1) = (k : Int) ∧ k < 49 ∧ S.testBit k = false ∧ Dj1 τ P g i (S ||| sqB (k : Int)) k 0 pv ∧ cntR (fun s => !(S ||| sqB (k : Int)).testBit s) 49 0 = 49 - ((i : Int) + 1) := by
  obtain ⟨d0, dc, d1, d2, d3, d4⟩ := h
  have ch := chG_ok (S := S) (pv := pv) 49 0 (-1) (Or.inl ⟨rfl, fun j hj => absurd hj (Nat.not_lt_zero j)⟩)
  rw [Nat.zero_add] at ch
  rcases ch with ⟨-, h2⟩ | ⟨k, h1, h2, h3, h4⟩
  · have := cntR_all (f := fun s => !S.testBit s) 49 0 (fun k _ hk => by show (!S.testBit k) = false; rw [h2 k (by omega)]; rfl)
    omega
  · have nk : ¬ sT S (k : Int) := fun q => by have := q.2.2; rw [Int.toNat_natCast, h3] at this; exact absurd this (by decide)
    refine ⟨k, h1, h2, h3, ⟨d1, fun c hc => ?_, fun q => ?_, fun s hs => ?_, fun u hu nu => ?_, fun s v hs hv hf v1 v2 ho => ?_⟩, ?_⟩
    · have a := d2 c hc
      exact ⟨a.1, a.2.1, fun q => ⟨by have := (a.2.2 q).1; omega, (a.2.2 q).2⟩⟩
    · exact ((d2 k ⟨by omega, by omega⟩).2.2 q).1
    · rcases (sT_with h2 s).mp hs with q | q
      · exact d3 s k q ⟨by omega, by omega⟩ nk
      · rw [q]; exact Int.le_refl _
    · obtain ⟨j, rfl⟩ := Int.eq_ofNat_of_zero_le hu.1
      refine h4 j (by have := hu.2; omega) ?_
      cases e : S.testBit j with
      | false => rfl
      | true => exact absurd ((sT_with h2 _).mpr (Or.inl ⟨hu.1, hu.2, by rw [Int.toNat_natCast]; exact e⟩)) nu
    · rcases (sT_with h2 s).mp hs with q | q
      · exact d4 s v q hf v1 v2 ho
      · have := hv q; omega
    · have e : sqB (k : Int) = 2 ^ k := by unfold sqB; rw [if_pos (by omega)]; rfl
      have u := cntR_upd (f := fun s => !S.testBit s) (g := fun s => !(S ||| sqB (k : Int)).testBit s) (b := k) (by show (!S.testBit k) = true; rw [h3]; rfl) (by show (!(S ||| sqB (k : Int)).testBit k) = false; rw [e, bt_or]; simp) (fun j hj => by show (!S.testBit j) = !(S ||| sqB (k : Int)).testBit j; rw [e, bt_or]; simp [Ne.symm hj]) 49 0 (by omega) (by omega)
      omega
theorem Dj1.done {τ : Tw} {P g : Int} {i S : Nat} {b : Int} {pv : Int → Int} (h : Dj1 τ P g i S b 4 pv) (hS : S < 2 ^ 49) (hc : cntR (fun s => !S.testBit s) 49 0 = 49 - ((i : Int) + 1)) : Dj0 τ P g (i + 1) S pv := by
  obtain ⟨d1, d2, d3, d4, d5, d6⟩ := h
  exact ⟨hS, by omega, d1, fun c hc => by have a := d2 c hc; exact ⟨a.1, a.2.1, fun q => ⟨by have := (a.2.2 q).1; omega, (a.2.2 q).2⟩⟩, fun s u hs hu nu => by have a := d4 s hs; have b := d5 u hu nu; omega, fun s v hs hf v1 v2 ho => d6 s v hs (fun _ => v2) hf v1 v2 ho⟩
/-- what measuring leaves -/
def MsO (τ : Tw) (P g : Int) (pv : Int → Int) : Prop := RWn pv ∧ pv g = 0 ∧ (∀ c, inS c → pv c < 1000000 → opn τ c ∧ ∃ n, WkN τ P n c g (pv c)) ∧ (∀ c w, opn τ c → 0 ≤ w → w < 4 → opn τ (bes c w) → pv (bes c w) < 1000000 → pv c ≤ pv (bes c w) + prc τ P (bes c w) w) ∧ (∀ n c x, opn τ c → WkN τ P n c g x → pv c < 1000000 ∧ pv c ≤ x) ∧ ∀ c, opn τ c → (pv c = if dst τ P c g = -1 then 1000000 else dst τ P c g)
theorem Dj0.end {τ : Tw} {P g : Int} {S : Nat} {pv : Int → Int} (hP : P = 0 ∨ P = 100) (h : Dj0 τ P g 49 S pv) : MsO τ P g pv := by
  obtain ⟨d0, dc, d1, d2, d3, d4⟩ := h
  have all : ∀ s, inS s → sT S s := fun s hs => by
    have z := cntR_0 (f := fun s => !S.testBit s) 49 0 (by omega) s.toNat (Nat.zero_le _) (by have := hs.2; have := hs.1; omega)
    refine ⟨hs.1, hs.2, ?_⟩
    have z2 : (!S.testBit s.toNat) = false := z
    cases e : S.testBit s.toNat with
    | true => rfl
    | false => rw [e] at z2; exact absurd z2 (by decide)
  have hC : ∀ c w, opn τ c → 0 ≤ w → w < 4 → opn τ (bes c w) → pv (bes c w) < 1000000 → pv c ≤ pv (bes c w) + prc τ P (bes c w) w := fun c w ho w1 w2 o hf => by
    have bk := bes_bk ho.1 w1 w2 o.1.1
    have k := d4 (bes c w) w (all _ o.1) hf w1 w2 (by rw [bk]; exact ho)
    rw [bk] at k
    exact k
  have m := dst_back (pv := pv) hP d1 (fun c hc q => ((d2 c hc).2.2 q).2.2) (fun c hc => ⟨(d2 c hc).2.1, fun q => ⟨(d2 c hc).1, by have := ((d2 c hc).2.2 q).1; omega⟩⟩) hC
  exact ⟨fun c hc => ⟨(d2 c hc).1, (d2 c hc).2.1⟩, d1, fun c hc q => ((d2 c hc).2.2 q).2, hC, m.1, m.2⟩
theorem Dj0.start {τ : Tw} {P g : Int} (ho : opn τ g) : Dj0 τ P g 0 0 (fun s => if s = g then 0 else 1000000) := by
  refine ⟨Nat.two_pow_pos _, cntR_one 49 0 (fun k _ _ => by show (!(0 : Nat).testBit k) = true; rw [Nat.zero_testBit]; rfl), if_pos rfl, fun c hc => ?_, fun s u hs => ?_, fun s v hs => ?_⟩
  · show 0 ≤ (if c = g then (0 : Int) else 1000000) ∧ (if c = g then (0 : Int) else 1000000) ≤ 1000000 ∧ ((if c = g then (0 : Int) else 1000000) < 1000000 → (if c = g then (0 : Int) else 1000000) ≤ 6301 * ((0 : Nat) : Int) ∧ opn τ c ∧ ∃ n, WkN τ P n c g (if c = g then (0 : Int) else 1000000))
    by_cases e : c = g
    · rw [if_pos e]; exact ⟨by omega, by omega, fun _ => ⟨by omega, by rw [e]; exact ho, 0, e, rfl⟩⟩
    · rw [if_neg e]; exact ⟨by omega, by omega, fun q => absurd q (by omega)⟩
  · exact absurd hs.2.2 (by rw [Nat.zero_testBit]; decide)
  · exact absurd hs.2.2 (by rw [Nat.zero_testBit]; decide)
