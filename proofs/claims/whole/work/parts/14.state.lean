/-! PART 14: the whole state as a value, and its two pictures -/
/-- the town; the shelves (what each holds, its size, its elements); the image; the refusals; the fault; the trace (how many, which) -/
abbrev Zt : Type := Tw × ((Nat → Int) × (Nat → Int) × (Nat → Nat → Int64)) × (Bool × Tw) × (Nat → Int) × Int × (Int × (Nat → Int))
def zRef (Z : Zt) (r : Nat) : Zt := (Z.1, Z.2.1, Z.2.2.1, (fun i => if i = r then Z.2.2.2.1 r + 1 else Z.2.2.2.1 i), Z.2.2.2.2)
def zShelf (Z : Zt) (k : Nat) (hd n : Int) (el : Nat → Int64) : Zt := (Z.1, ((fun j => if j = k then hd else Z.2.1.1 j), (fun j => if j = k then n else Z.2.1.2.1 j), fun j => if j = k then el else Z.2.1.2.2 j), Z.2.2)
def zTw (Z : Zt) (τ : Tw) : Zt := (τ, Z.2)
def zImg (Z : Zt) : Zt := (Z.1, Z.2.1, (true, Z.1), Z.2.2.2)
def zFlt (Z : Zt) (f : Int) : Zt := (Z.1, Z.2.1, Z.2.2.1, Z.2.2.2.1, f, Z.2.2.2.2.2)
def zTrc (Z : Zt) (c : Int × (Nat → Int)) : Zt := (Z.1, Z.2.1, Z.2.2.1, Z.2.2.2.1, Z.2.2.2.2.1, c)
def OkZ (Z : Zt) : Prop := OkT Z.1 ∧ (∀ k, k < 8 → OkH (Z.2.1.1 k) (Z.2.1.2.1 k) ∧ (Z.2.1.1 k < 100 → Z.2.1.1 k < Z.1.2.1 0 ∧ Z.2.1.2.1 k = 0)) ∧ (Z.2.2.1.1 = true → OkT Z.2.2.1.2) ∧ (0 ≤ Z.2.2.2.2.2.1 ∧ Z.2.2.2.2.2.1 ≤ 1000)
def RelX (Z : Zt) (σ : Sg) : Prop := RX 14 Z.1 σ ∧ (∀ k, k < 8 → RS (38 + 2 * k) (Z.2.1.1 k) (Z.2.1.2.1 k) (Z.2.1.2.2 k) σ) ∧ (σ.1 0 2 = bI (Z.2.2.1.1 = true) ∧ (Z.2.2.1.1 = true → RX 22 Z.2.2.1.2 σ)) ∧
  (∀ r, 1 ≤ r → r < 8 → σ.1 2 r = Z.2.2.2.1 r) ∧ σ.1 3 1 = Z.2.2.2.2.1 ∧ σ.1 12 0 = Z.2.2.2.2.2.1 ∧ (∀ i : Nat, i < 20 → (i : Int) < Z.2.2.2.2.2.1 → σ.1 13 i = Z.2.2.2.2.2.2 i)
/-- the reference's image -/
def RMo (τ : Tw) (σ : Sg) : Prop := (∀ j p : Nat, j < 4 → (p : Int) < τ.2.1 0 → σ.1 71 (9 * j + p) = τ.2.2 j p) ∧ (∀ j w : Nat, j < 3 → (w : Int) < τ.2.1 1 → σ.1 71 (36 + 5 * j + w) = τ.2.2 (4 + j) w) ∧ (∀ i : Nat, i < 49 → σ.1 71 (51 + i) = bI (τ.1.testBit i = true)) ∧
  (∀ k : Nat, k < 3 → σ.1 71 (100 + k) = τ.2.1 (2 + k)) ∧ σ.1 71 103 = τ.2.1 0 ∧ σ.1 71 104 = τ.2.1 1 ∧ σ.1 54 25 = τ.2.1 5
def RelM (Z : Zt) (σ : Sg) : Prop := RMt Z.1 σ ∧ (∀ k, k < 8 → σ.1 64 k = Z.2.1.1 k ∧ (100 ≤ Z.2.1.1 k → σ.1 65 k = Z.2.1.2.1 k) ∧ ∀ i, i < 160 → σ.2 66 (160 * k + i) = Z.2.1.2.2 k i) ∧ (σ.1 54 23 = bI (Z.2.2.1.1 = true) ∧ (Z.2.2.1.1 = true → RMo Z.2.2.1.2 σ)) ∧
  (∀ r, 1 ≤ r → r < 8 → σ.1 70 r = Z.2.2.2.1 r) ∧ σ.1 54 18 = Z.2.2.2.2.1 ∧ σ.1 54 20 = Z.2.2.2.2.2.1 ∧ (∀ i : Nat, i < 20 → (i : Int) < Z.2.2.2.2.2.1 → σ.1 69 i = Z.2.2.2.2.2.2 i)
/-- the class's cells, the reference's -/
def XC : Nat → Prop := fun a => a < 54
def MC : Nat → Prop := fun a => 54 ≤ a
theorem RS.fr {c : Nat} {hd n : Int} {el : Nat → Int64} {σ υ : Sg} {S : Nat → Prop} (h : RS c hd n el σ) (hF : Fr S σ υ) (h1 : ¬ S c) (h2 : ¬ S (c + 1)) : RS c hd n el υ := by
  obtain ⟨a1, a2, a3⟩ := h
  exact ⟨by rw [(hF c h1).1]; exact a1, by rw [(hF c h1).1]; exact a2, fun i hi => by rw [(hF _ h2).2]; exact a3 i hi⟩
/-- the cells of the class that the value doesn't speak of -/
def ScX : Nat → Prop := fun a => (4 ≤ a ∧ a ≤ 11) ∨ (30 ≤ a ∧ a ≤ 37)
theorem RelX.fr {Z : Zt} {σ υ : Sg} (h : RelX Z σ) {S : Nat → Prop} (hF : Fr S σ υ) (hS : ∀ a, S a → ScX a ∨ 54 ≤ a) : RelX Z υ := by
  obtain ⟨h1, h2, ⟨h3, h4⟩, h5, h6, h7, h8⟩ := h
  have n : ∀ a, a < 54 → ¬ ScX a → ¬ S a := fun a ha hs q => (hS a q).elim hs (fun z => absurd z (by omega))
  have e : ∀ a, a < 54 → ¬ ScX a → υ.1 a = σ.1 a := fun a ha hs => (hF a (n a ha hs)).1
  refine ⟨h1.fr hF (fun a q z => (hS a q).elim (fun s => by unfold ScX at s; omega) (fun s => by omega)), fun k hk => (h2 k hk).fr hF (n _ (by omega) (by unfold ScX; omega)) (n _ (by omega) (by unfold ScX; omega)), ⟨?_, fun q => (h4 q).fr hF (fun a q z => (hS a q).elim (fun s => by unfold ScX at s; omega) (fun s => by omega))⟩, fun r r1 r2 => ?_, ?_, ?_, fun i i1 i2 => ?_⟩
  · rw [e 0 (by omega) (by unfold ScX; omega)]; exact h3
  · rw [e 2 (by omega) (by unfold ScX; omega)]; exact h5 r r1 r2
  · rw [e 3 (by omega) (by unfold ScX; omega)]; exact h6
  · rw [e 12 (by omega) (by unfold ScX; omega)]; exact h7
  · rw [e 13 (by omega) (by unfold ScX; omega)]; exact h8 i i1 i2
theorem RelX.ref {Z : Zt} {σ : Sg} (h : RelX Z σ) {r : Nat} (r1 : 1 ≤ r) (r2 : r < 8) : RelX (zRef Z r) (uI σ 2 r (σ.1 2 r + 1)) := by
  have hF : Fr (fun a => a = 2) σ (uI σ 2 r (σ.1 2 r + 1)) := Fr.rf.uI rfl
  obtain ⟨h1, h2, ⟨h3, h4⟩, h5, h6, h7, h8⟩ := h
  refine ⟨h1.fr hF (fun a q z => by have q2 : a = 2 := q; omega), fun k hk => (h2 k hk).fr hF (fun q => by have q2 : 38 + 2 * k = 2 := q; omega) (fun q => by have q2 : 38 + 2 * k + 1 = 2 := q; omega), ⟨h3, fun q => (h4 q).fr hF (fun a q z => by have q2 : a = 2 := q; omega)⟩, fun i i1 i2 => ?_, h6, h7, h8⟩
  rw [uI_at]
  show _ = if i = r then Z.2.2.2.1 r + 1 else Z.2.2.2.1 i
  by_cases e : i = r
  · rw [if_pos ⟨rfl, e⟩, if_pos e, h5 r r1 r2]
  · rw [if_neg (fun q => e q.2), if_neg e, h5 i i1 i2]
theorem RelX.shelf {Z : Zt} {σ υ : Sg} (h : RelX Z σ) {k : Nat} (hk : k < 8) {hd n : Int} {el : Nat → Int64} (hS : RS (38 + 2 * k) hd n el υ) (hF : Fr (SS (38 + 2 * k)) σ υ) : RelX (zShelf Z k hd n el) υ := by
  obtain ⟨h1, h2, ⟨h3, h4⟩, h5, h6, h7, h8⟩ := h
  have n : ∀ a, a < 38 → ¬ SS (38 + 2 * k) a := fun a ha q => by unfold SS at q; omega
  have e : ∀ a, a < 38 → υ.1 a = σ.1 a := fun a ha => (hF a (n a ha)).1
  refine ⟨h1.fr hF (fun a q z => by unfold SS at q; omega), fun j hj => ?_, ⟨by rw [e 0 (by omega)]; exact h3, fun q => (h4 q).fr hF (fun a q z => by unfold SS at q; omega)⟩, fun i i1 i2 => by rw [e 2 (by omega)]; exact h5 i i1 i2, by rw [e 3 (by omega)]; exact h6, by rw [e 12 (by omega)]; exact h7, fun i i1 i2 => by rw [e 13 (by omega)]; exact h8 i i1 i2⟩
  by_cases q : j = k
  · subst q
    simp only [zShelf, if_pos]
    exact hS
  · simp only [zShelf, if_neg q]
    exact (h2 j hj).fr hF (fun z => by unfold SS at z; omega) (fun z => by unfold SS at z; omega)
theorem RelX.town {Z : Zt} {σ υ : Sg} (h : RelX Z σ) {τ : Tw} (hT : RX 14 τ υ) (hF : Fr (TS 14) σ υ) : RelX (zTw Z τ) υ := by
  obtain ⟨h1, h2, ⟨h3, h4⟩, h5, h6, h7, h8⟩ := h
  have e : ∀ a, (a < 14 ∨ 22 ≤ a) → υ.1 a = σ.1 a := fun a ha => (hF a (fun q => by unfold TS at q; omega)).1
  exact ⟨hT, fun j hj => (h2 j hj).fr hF (fun z => by unfold TS at z; omega) (fun z => by unfold TS at z; omega), ⟨by rw [e 0 (by omega)]; exact h3, fun q => (h4 q).fr hF (fun a q z => by unfold TS at q; omega)⟩, fun i i1 i2 => by rw [e 2 (by omega)]; exact h5 i i1 i2, by rw [e 3 (by omega)]; exact h6, by rw [e 12 (by omega)]; exact h7, fun i i1 i2 => by rw [e 13 (by omega)]; exact h8 i i1 i2⟩
/-! the reference -/
theorem RelM.ag {Z : Zt} {σ υ : Sg} (h : RelM Z σ) (h1 : ∀ a, (55 ≤ a ∧ a ≤ 66) ∨ (69 ≤ a ∧ a ≤ 71) → υ.1 a = σ.1 a ∧ υ.2 a = σ.2 a) (h2 : ∀ k, k = 0 ∨ k = 5 ∨ k = 11 ∨ k = 18 ∨ k = 20 ∨ k = 23 ∨ k = 25 → υ.1 54 k = σ.1 54 k) : RelM Z υ := by
  obtain ⟨⟨t1, t2, t3, t4, t5, t6, t7⟩, a2, ⟨a3, a4⟩, a5, a6, a7, a8⟩ := h
  have e : ∀ a, (55 ≤ a ∧ a ≤ 66) ∨ (69 ≤ a ∧ a ≤ 71) → υ.1 a = σ.1 a := fun a ha => (h1 a ha).1
  refine ⟨⟨fun i hi => by rw [e 62 (by omega)]; exact t1 i hi, by rw [h2 0 (by omega)]; exact t2, by rw [h2 5 (by omega)]; exact t3, fun k hk => by rw [e 63 (by omega)]; exact t4 k hk, by rw [h2 11 (by omega)]; exact t5, fun j p hj hp => by rw [e _ (by omega)]; exact t6 j p hj hp, fun j p hj hp => by rw [e _ (by omega)]; exact t7 j p hj hp⟩,
    fun k hk => ⟨by rw [e 64 (by omega)]; exact (a2 k hk).1, fun q => by rw [e 65 (by omega)]; exact (a2 k hk).2.1 q, fun i hi => by rw [(h1 66 (by omega)).2]; exact (a2 k hk).2.2 i hi⟩, ⟨by rw [h2 23 (by omega)]; exact a3, fun q => ?_⟩, fun r r1 r2 => by rw [e 70 (by omega)]; exact a5 r r1 r2, by rw [h2 18 (by omega)]; exact a6, by rw [h2 20 (by omega)]; exact a7, fun i i1 i2 => by rw [e 69 (by omega)]; exact a8 i i1 i2⟩
  obtain ⟨b1, b2, b3, b4, b5, b6, b7⟩ := a4 q
  exact ⟨fun j p hj hp => by rw [e 71 (by omega)]; exact b1 j p hj hp, fun j p hj hp => by rw [e 71 (by omega)]; exact b2 j p hj hp, fun i hi => by rw [e 71 (by omega)]; exact b3 i hi, fun k hk => by rw [e 71 (by omega)]; exact b4 k hk, by rw [e 71 (by omega)]; exact b5, by rw [e 71 (by omega)]; exact b6, by rw [h2 25 (by omega)]; exact b7⟩
theorem RelM.fr {Z : Zt} {σ υ : Sg} (h : RelM Z σ) {S : Nat → Prop} (hF : Fr S σ υ) (hS : ∀ a, S a → a < 54 ∨ a = 67 ∨ a = 68 ∨ 72 ≤ a) : RelM Z υ :=
  h.ag (fun a ha => hF a (fun q => by have := hS a q; omega)) (fun k _ => by rw [(hF 54 (fun q => by have := hS 54 q; omega)).1])
theorem RelM.ref {Z : Zt} {σ : Sg} (h : RelM Z σ) {r : Nat} (r1 : 1 ≤ r) (r2 : r < 8) : RelM (zRef Z r) (uI σ 70 r (σ.1 70 r + 1)) := by
  obtain ⟨⟨t1, t2, t3, t4, t5, t6, t7⟩, a2, ⟨a3, a4⟩, a5, a6, a7, a8⟩ := h
  have e : ∀ a, a ≠ 70 → (uI σ 70 r (σ.1 70 r + 1)).1 a = σ.1 a := fun a ha => (uI_ne ha).symm
  refine ⟨⟨fun i hi => by rw [e 62 (by omega)]; exact t1 i hi, t2, t3, fun k hk => by rw [e 63 (by omega)]; exact t4 k hk, t5, fun j p hj hp => by rw [e _ (by omega)]; exact t6 j p hj hp, fun j p hj hp => by rw [e _ (by omega)]; exact t7 j p hj hp⟩,
    fun k hk => ⟨by rw [e 64 (by omega)]; exact (a2 k hk).1, fun q => by rw [e 65 (by omega)]; exact (a2 k hk).2.1 q, (a2 k hk).2.2⟩, ⟨a3, fun q => ?_⟩, fun i i1 i2 => ?_, a6, a7, fun i i1 i2 => by rw [e 69 (by omega)]; exact a8 i i1 i2⟩
  · obtain ⟨b1, b2, b3, b4, b5, b6, b7⟩ := a4 q
    exact ⟨fun j p hj hp => by rw [e 71 (by omega)]; exact b1 j p hj hp, fun j p hj hp => by rw [e 71 (by omega)]; exact b2 j p hj hp, fun i hi => by rw [e 71 (by omega)]; exact b3 i hi, fun k hk => by rw [e 71 (by omega)]; exact b4 k hk, by rw [e 71 (by omega)]; exact b5, by rw [e 71 (by omega)]; exact b6, b7⟩
  · rw [uI_at]
    show _ = if i = r then Z.2.2.2.1 r + 1 else Z.2.2.2.1 i
    by_cases q : i = r
    · rw [if_pos ⟨rfl, q⟩, if_pos q, a5 r r1 r2]
    · rw [if_neg (fun z => q z.2), if_neg q, a5 i i1 i2]
/-- a change of a shelf in the reference -/
theorem RelM.shelf {Z : Zt} {σ υ : Sg} (h : RelM Z σ) {k : Nat} {hd n : Int} {el : Nat → Int64} (hF : Fr (fun a => a = 64 ∨ a = 65 ∨ a = 66) σ υ)
    (g1 : ∀ j, j < 8 → υ.1 64 j = if j = k then hd else σ.1 64 j) (g2 : ∀ j, j < 8 → (j = k → 100 ≤ hd → υ.1 65 j = n) ∧ (j ≠ k → υ.1 65 j = σ.1 65 j)) (g3 : ∀ j, j < 8 → ∀ i, i < 160 → υ.2 66 (160 * j + i) = if j = k then el i else σ.2 66 (160 * j + i)) : RelM (zShelf Z k hd n el) υ := by
  obtain ⟨⟨t1, t2, t3, t4, t5, t6, t7⟩, a2, ⟨a3, a4⟩, a5, a6, a7, a8⟩ := h
  have e : ∀ a, ¬ (a = 64 ∨ a = 65 ∨ a = 66) → υ.1 a = σ.1 a := fun a ha => (hF a ha).1
  refine ⟨⟨fun i hi => by rw [e 62 (by omega)]; exact t1 i hi, by rw [e 54 (by omega)]; exact t2, by rw [e 54 (by omega)]; exact t3, fun k hk => by rw [e 63 (by omega)]; exact t4 k hk, by rw [e 54 (by omega)]; exact t5, fun j p hj hp => by rw [e _ (by omega)]; exact t6 j p hj hp, fun j p hj hp => by rw [e _ (by omega)]; exact t7 j p hj hp⟩,
    fun j hj => ?_, ⟨by rw [e 54 (by omega)]; exact a3, fun q => ?_⟩, fun i i1 i2 => by rw [e 70 (by omega)]; exact a5 i i1 i2, by rw [e 54 (by omega)]; exact a6, by rw [e 54 (by omega)]; exact a7, fun i i1 i2 => by rw [e 69 (by omega)]; exact a8 i i1 i2⟩
  · by_cases q : j = k
    · subst q
      simp only [zShelf, if_pos]
      refine ⟨by rw [g1 j hj, if_pos rfl], fun z => (g2 j hj).1 rfl z, fun i hi => by rw [g3 j hj i hi, if_pos rfl]⟩
    · simp only [zShelf, if_neg q]
      refine ⟨by rw [g1 j hj, if_neg q]; exact (a2 j hj).1, fun z => by rw [(g2 j hj).2 q]; exact (a2 j hj).2.1 z, fun i hi => by rw [g3 j hj i hi, if_neg q]; exact (a2 j hj).2.2 i hi⟩
  · obtain ⟨b1, b2, b3, b4, b5, b6, b7⟩ := a4 q
    exact ⟨fun j p hj hp => by rw [e 71 (by omega)]; exact b1 j p hj hp, fun j p hj hp => by rw [e 71 (by omega)]; exact b2 j p hj hp, fun i hi => by rw [e 71 (by omega)]; exact b3 i hi, fun k hk => by rw [e 71 (by omega)]; exact b4 k hk, by rw [e 71 (by omega)]; exact b5, by rw [e 71 (by omega)]; exact b6, by rw [e 54 (by omega)]; exact b7⟩
/-- a change of the town in the reference -/
theorem RelM.town {Z : Zt} {σ υ : Sg} (h : RelM Z σ) {τ : Tw} (hT : RMt τ υ) (hF : Fr (fun a => 54 ≤ a ∧ a < 64) σ υ) (g : ∀ k, k = 18 ∨ k = 20 ∨ k = 23 ∨ k = 25 → υ.1 54 k = σ.1 54 k) : RelM (zTw Z τ) υ := by
  obtain ⟨-, a2, ⟨a3, a4⟩, a5, a6, a7, a8⟩ := h
  have e : ∀ a, 64 ≤ a → υ.1 a = σ.1 a := fun a ha => (hF a (fun q => by omega)).1
  refine ⟨hT, fun k hk => ⟨by rw [e 64 (by omega)]; exact (a2 k hk).1, fun q => by rw [e 65 (by omega)]; exact (a2 k hk).2.1 q, fun i hi => by rw [(hF 66 (fun q => by omega)).2]; exact (a2 k hk).2.2 i hi⟩, ⟨by rw [g 23 (by omega)]; exact a3, fun q => ?_⟩, fun r r1 r2 => by rw [e 70 (by omega)]; exact a5 r r1 r2, by rw [g 18 (by omega)]; exact a6, by rw [g 20 (by omega)]; exact a7, fun i i1 i2 => by rw [e 69 (by omega)]; exact a8 i i1 i2⟩
  obtain ⟨b1, b2, b3, b4, b5, b6, b7⟩ := a4 q
  exact ⟨fun j p hj hp => by rw [e 71 (by omega)]; exact b1 j p hj hp, fun j p hj hp => by rw [e 71 (by omega)]; exact b2 j p hj hp, fun i hi => by rw [e 71 (by omega)]; exact b3 i hi, fun k hk => by rw [e 71 (by omega)]; exact b4 k hk, by rw [e 71 (by omega)]; exact b5, by rw [e 71 (by omega)]; exact b6, by rw [g 25 (by omega)]; exact b7⟩
/-! the calls, as they should answer: shelves -/
def shB (s : Int) : Prop := 0 ≤ s ∧ s < 8
def rowT (Z : Zt) (s : Int) : Int := if ¬ (0 ≤ s ∧ s < 8) then -1 else if 0 ≤ Z.2.1.1 s.toNat ∧ Z.2.1.1 s.toNat < 100 then -2 else if 100 ≤ Z.2.1.1 s.toNat then 0 else -3
def refZ (Z : Zt) (t : Int) : Int × Zt := (t, zRef Z (-t).toNat)
def refA (Z : Zt) (t : Int) : Int × Zt := (t - 10, zRef Z (-t).toNat)
def qRow (Z : Zt) (s sort n : Int) : Int × Zt := if ¬ (0 ≤ s ∧ s < 8) then refZ Z (-1) else if n < 0 then refZ Z (-4) else if ¬ (0 ≤ sort ∧ sort ≤ 3) then refZ Z (-6) else if 160 < n then refZ Z (-7) else (1, zShelf Z s.toNat (100 + sort) n (fun _ => 0))
def qSet (Z : Zt) (s i : Int) (v : Int64) : Int × Zt := if rowT Z s ≠ 0 then refZ Z (rowT Z s) else if ¬ (0 ≤ i ∧ i < Z.2.1.2.1 s.toNat) then refZ Z (-5) else (1, zShelf Z s.toNat (Z.2.1.1 s.toNat) (Z.2.1.2.1 s.toNat) (fun j => if j = i.toNat then lowB (Z.2.1.1 s.toNat - 100) v else Z.2.1.2.2 s.toNat j))
def copyT (Z : Zt) (p q i j n : Int) : Int := if ¬ ((0 ≤ p ∧ p < 8) ∧ (0 ≤ q ∧ q < 8)) then -1
  else if (0 ≤ Z.2.1.1 p.toNat ∧ Z.2.1.1 p.toNat < 100) ∨ (0 ≤ Z.2.1.1 q.toNat ∧ Z.2.1.1 q.toNat < 100) ∨ (100 ≤ Z.2.1.1 p.toNat ∧ 100 ≤ Z.2.1.1 q.toNat ∧ Z.2.1.1 p.toNat ≠ Z.2.1.1 q.toNat) then -2
  else if ¬ (100 ≤ Z.2.1.1 p.toNat ∧ 100 ≤ Z.2.1.1 q.toNat) then -3 else if n < 0 then -4
  else if 0 ≤ i ∧ i + n ≤ Z.2.1.2.1 p.toNat ∧ 0 ≤ j ∧ j + n ≤ Z.2.1.2.1 q.toNat then 0 else -5
def qCopy (Z : Zt) (p q i j n : Int) : Int × Zt := if copyT Z p q i j n ≠ 0 then refZ Z (copyT Z p q i j n) else (1, zShelf Z q.toNat (Z.2.1.1 q.toNat) (Z.2.1.2.1 q.toNat) (va_cpy (Z.2.1.2.2 p.toNat) (Z.2.1.2.2 q.toNat) i.toNat j.toNat n.toNat))
def qElem (Z : Zt) (s i : Int) : Int64 := if 0 ≤ s ∧ s < 8 then elI (Z.2.1.2.1 s.toNat) (Z.2.1.2.2 s.toNat) i else 0
def qShow (Z : Zt) (s p : Int) : Int × Zt := if ¬ ((0 ≤ s ∧ s < 8) ∧ (p = -1 ∨ (0 ≤ p ∧ p < Z.1.2.1 0))) then refZ Z (-1) else (if p = -1 then 0 else 1, zShelf Z s.toNat p 0 (Z.2.1.2.2 s.toNat))
def qHolds (Z : Zt) (s : Int) : Int := if 0 ≤ s ∧ s < 8 then Z.2.1.1 s.toNat else -1
/-- the kind above -/
def abv (k : Int) : Int := if k = 3 then 1 else if k = 5 then 4 else if k = 6 then 2 else if k = 0 then -1 else 0
def undr (k w : Int) : Prop := k = w ∨ (0 < k ∧ (abv k = w ∨ (0 < abv k ∧ abv (abv k) = w)))
def saysV (τ : Tw) (p : Nat) (kind : Int) : Int := if kind = 1 ∨ kind = 3 then τ.2.2 3 p else if kind = 2 ∨ kind = 6 then τ.2.2 1 p else if kind = 4 ∨ kind = 5 then bc64 (lN (seeB τ τ.1 p)) else τ.2.2 2 p
def qSays (Z : Zt) (s kind : Int) : Int × Zt := if ¬ ((0 ≤ s ∧ s < 8) ∧ (0 ≤ kind ∧ kind < 7)) then refZ Z (-1) else if 100 ≤ Z.2.1.1 s.toNat then refZ Z (-2) else if Z.2.1.1 s.toNat = -1 then refZ Z (-3)
  else if (Z.1.2.2 0 (Z.2.1.1 s.toNat).toNat = kind ∨ (0 < Z.1.2.2 0 (Z.2.1.1 s.toNat).toNat ∧ (abv (Z.1.2.2 0 (Z.2.1.1 s.toNat).toNat) = kind ∨ (0 < abv (Z.1.2.2 0 (Z.2.1.1 s.toNat).toNat) ∧ abv (abv (Z.1.2.2 0 (Z.2.1.1 s.toNat).toNat)) = kind)))) then (saysV Z.1 (Z.2.1.1 s.toNat).toNat kind, Z) else refZ Z (-2)
