/-! PART 25: ways over the yards: the cheapest walks -/
/-- the price of coming to s on w -/
def prc (τ : Tw) (P s w : Int) : Int := if P = 0 then 1 else P * sham τ s w + 1
theorem prc_rng {τ : Tw} {P s w : Int} (hP : P = 0 ∨ P = 100) : 1 ≤ prc τ P s w ∧ prc τ P s w ≤ 6301 := by
  have h := sham_rng τ s w
  unfold prc
  rcases hP with rfl | rfl
  · rw [if_pos rfl]; omega
  · rw [if_neg (by decide)]; omega
abbrev opn (τ : Tw) (s : Int) : Prop := inS s ∧ ¬ sT τ.1 s
/-- a walk of n steps from c to q at the price x -/
def WkN (τ : Tw) (P : Int) : Nat → Int → Int → Int → Prop
  | 0, c, q, x => c = q ∧ x = 0
  | n + 1, c, q, x => ∃ w y, 0 ≤ w ∧ w < 4 ∧ opn τ (bes c w) ∧ x = y + prc τ P (bes c w) w ∧ WkN τ P n (bes c w) q y
theorem WkN.ge {τ : Tw} {P : Int} (hP : P = 0 ∨ P = 100) : ∀ {n : Nat} {c q x : Int}, WkN τ P n c q x → (n : Int) ≤ x
  | 0, _, _, _, h => by have := h.2; omega
  | n + 1, c, q, x, h => by
    obtain ⟨w, y, -, -, -, e, g⟩ := h
    have := WkN.ge hP g
    have := prc_rng (τ := τ) (s := bes c w) (w := w) hP
    omega
theorem WkN.snoc {τ : Tw} {P : Int} : ∀ {n : Nat} {c m x w : Int}, WkN τ P n c m x → 0 ≤ w → w < 4 → opn τ (bes m w) → WkN τ P (n + 1) c (bes m w) (x + prc τ P (bes m w) w)
  | 0, c, m, x, w, h, w1, w2, ho => by
    obtain ⟨rfl, rfl⟩ := h
    exact ⟨w, 0, w1, w2, ho, rfl, rfl, rfl⟩
  | n + 1, c, m, x, w, h, w1, w2, ho => by
    obtain ⟨v, y, v1, v2, o, e, g⟩ := h
    exact ⟨v, y + prc τ P (bes m w) w, v1, v2, o, by omega, g.snoc w1 w2 ho⟩
theorem WkN.last {τ : Tw} {P : Int} : ∀ {n : Nat} {c q x : Int}, WkN τ P (n + 1) c q x → ∃ m w y, WkN τ P n c m y ∧ 0 ≤ w ∧ w < 4 ∧ opn τ q ∧ q = bes m w ∧ x = y + prc τ P q w
  | 0, c, q, x, h => by
    obtain ⟨w, y, w1, w2, o, e, g1, g2⟩ := h
    exact ⟨c, w, 0, ⟨rfl, rfl⟩, w1, w2, by rw [← g1]; exact o, g1.symm, by rw [← g1]; omega⟩
  | n + 1, c, q, x, h => by
    obtain ⟨w, y, w1, w2, o, e, g⟩ := h
    obtain ⟨m, v, z, k1, k2, k3, k4, k5, k6⟩ := WkN.last g
    exact ⟨m, v, z + prc τ P (bes c w) w, ⟨w, z, w1, w2, o, rfl, k1⟩, k2, k3, k4, k5, by omega⟩
theorem WkN.opn {τ : Tw} {P : Int} : ∀ {n : Nat} {c q x : Int}, WkN τ P n c q x → opn τ c → opn τ q
  | 0, _, _, _, h, o => by rw [← h.1]; exact o
  | n + 1, c, q, x, h, _ => by
    obtain ⟨w, y, -, -, o, -, g⟩ := h
    exact g.opn o
/-- the least price, or that there is no way -/
def DV (τ : Tw) (P c q v : Int) : Prop := (v = -1 ∧ ∀ n x, ¬ WkN τ P n c q x) ∨ ((∃ n, WkN τ P n c q v) ∧ ∀ n x, WkN τ P n c q x → v ≤ x)
noncomputable def dst (τ : Tw) (P c q : Int) : Int := Classical.epsilon (DV τ P c q)
theorem DV.un {τ : Tw} {P c q v u : Int} (h : DV τ P c q v) (k : DV τ P c q u) : v = u := by
  rcases h with ⟨e, h⟩ | ⟨⟨n, h1⟩, h2⟩
  · rcases k with ⟨e2, g⟩ | ⟨⟨m, g1⟩, g2⟩
    · omega
    · exact absurd g1 (h _ _)
  · rcases k with ⟨e2, g⟩ | ⟨⟨m, g1⟩, g2⟩
    · exact absurd h1 (g _ _)
    · have a := h2 _ _ g1
      have b := g2 _ _ h1
      omega
theorem DV.eq {τ : Tw} {P c q v : Int} (h : DV τ P c q v) : dst τ P c q = v := (Classical.epsilon_spec (p := DV τ P c q) ⟨v, h⟩ : DV τ P c q (dst τ P c q)).un h
/-- a first way of a walk at the price x -/
def FW (τ : Tw) (P c q x w : Int) : Prop := 0 ≤ w ∧ w < 4 ∧ opn τ (bes c w) ∧ ∃ n y, x = y + prc τ P (bes c w) w ∧ WkN τ P n (bes c w) q y
theorem FW.wk {τ : Tw} {P c q x w : Int} (h : FW τ P c q x w) : ∃ n, WkN τ P n c q x := by
  obtain ⟨h1, h2, h3, n, y, h4, h5⟩ := h
  exact ⟨n + 1, w, y, h1, h2, h3, h4, h5⟩
def FV (τ : Tw) (P c q v : Int) : Prop := (c = q ∧ v = -1) ∨ (c ≠ q ∧ FW τ P c q (dst τ P c q) v ∧ ∀ u, FW τ P c q (dst τ P c q) u → v ≤ u)
noncomputable def frs (τ : Tw) (P c q : Int) : Int := Classical.epsilon (FV τ P c q)
theorem FV.un {τ : Tw} {P c q v u : Int} (h : FV τ P c q v) (k : FV τ P c q u) : v = u := by
  rcases h with ⟨e, h⟩ | ⟨e, h1, h2⟩
  · rcases k with ⟨e2, g⟩ | ⟨e2, g1, g2⟩
    · omega
    · exact absurd e e2
  · rcases k with ⟨e2, g⟩ | ⟨e2, g1, g2⟩
    · exact absurd e2 e
    · have a := h2 _ g1
      have b := g2 _ h1
      omega
theorem FV.eq {τ : Tw} {P c q v : Int} (h : FV τ P c q v) : frs τ P c q = v := (Classical.epsilon_spec (p := FV τ P c q) ⟨v, h⟩ : FV τ P c q (frs τ P c q)).un h
theorem dst_self {τ : Tw} {P c : Int} (hP : P = 0 ∨ P = 100) : dst τ P c c = 0 := DV.eq (Or.inr ⟨⟨0, rfl, rfl⟩, fun n x h => by have := h.ge hP; omega⟩)
theorem frs_self {τ : Tw} {P c : Int} : frs τ P c c = -1 := FV.eq (Or.inl ⟨rfl, rfl⟩)
/-- backwards: what the prices are, told from the goal -/
theorem dst_back {τ : Tw} {P g : Int} {pv : Int → Int} (hP : P = 0 ∨ P = 100) (hG : pv g = 0) (hS : ∀ c, inS c → pv c < 1000000 → ∃ n, WkN τ P n c g (pv c)) (hB : ∀ c, inS c → pv c ≤ 1000000 ∧ (pv c < 1000000 → 0 ≤ pv c ∧ pv c ≤ 308749))
    (hC : ∀ c w, opn τ c → 0 ≤ w → w < 4 → opn τ (bes c w) → pv (bes c w) < 1000000 → pv c ≤ pv (bes c w) + prc τ P (bes c w) w) :
    (∀ n c x, opn τ c → WkN τ P n c g x → pv c < 1000000 ∧ pv c ≤ x) ∧ ∀ c, opn τ c → (pv c = if dst τ P c g = -1 then 1000000 else dst τ P c g) := by
  have cl : ∀ n c x, opn τ c → WkN τ P n c g x → pv c < 1000000 ∧ pv c ≤ x := by
    intro n
    induction n with
    | zero => intro c x _ h; obtain ⟨h1, h2⟩ := h; rw [h1, hG]; omega
    | succ n ih =>
      intro c x ho h
      obtain ⟨w, y, w1, w2, o, e, k⟩ := h
      obtain ⟨i1, i2⟩ := ih _ _ o k
      have a := hC c w ho w1 w2 o i1
      have b := hB _ o.1
      have r := prc_rng (τ := τ) (s := bes c w) (w := w) hP
      omega
  refine ⟨cl, fun c ho => ?_⟩
  by_cases h : pv c < 1000000
  · have e : dst τ P c g = pv c := DV.eq (Or.inr ⟨hS c ho.1 h, fun n x k => (cl n c x ho k).2⟩)
    have b := hB c ho.1
    rw [e, if_neg (by omega)]
  · have e : dst τ P c g = -1 := DV.eq (Or.inl ⟨rfl, fun n x k => h (cl n c x ho k).1⟩)
    have b := hB c ho.1
    rw [e, if_pos rfl]; omega
/-- the first way, told from the prices -/
theorem frs_back {τ : Tw} {P g : Int} {pv : Int → Int} (hP : P = 0 ∨ P = 100) (hG : pv g = 0) (hS : ∀ c, inS c → pv c < 1000000 → opn τ c ∧ ∃ n, WkN τ P n c g (pv c))
    (hC : ∀ c w, opn τ c → 0 ≤ w → w < 4 → opn τ (bes c w) → pv (bes c w) < 1000000 → pv c ≤ pv (bes c w) + prc τ P (bes c w) w) (cl : ∀ n c x, opn τ c → WkN τ P n c g x → pv c < 1000000 ∧ pv c ≤ x) {a : Int} (ho : opn τ a) (hd : dst τ P a g = pv a) {t : Int → Prop}
    (ht : ∀ w, 0 ≤ w → w < 4 → (t w ↔ inS (bes a w) ∧ pv (bes a w) < 1000000 ∧ pv (bes a w) + prc τ P (bes a w) w = pv a)) {v : Int} (hv : (0 ≤ v ∧ v < 4 ∧ t v ∧ ∀ u, 0 ≤ u → u < v → ¬ t u) ∨ (v = -1 ∧ ∀ u, 0 ≤ u → u < 4 → ¬ t u)) (hw : ∃ n, WkN τ P n a g (pv a)) : frs τ P a g = v := by
  have fw : ∀ u, FW τ P a g (pv a) u → t u := by
    intro u h
    obtain ⟨h1, h2, h3, n, y, h4, h5⟩ := h
    have c := cl _ _ _ h3 h5
    have d := hC a u ho h1 h2 h3 c.1
    exact (ht u h1 h2).mpr ⟨h3.1, c.1, by omega⟩
  have tf : ∀ u, 0 ≤ u → u < 4 → t u → FW τ P a g (pv a) u := by
    intro u h1 h2 h
    obtain ⟨k1, k2, k3⟩ := (ht u h1 h2).mp h
    obtain ⟨o, n, q⟩ := hS _ k1 k2
    exact ⟨h1, h2, o, n, _, k3.symm, q⟩
  refine FV.eq ?_
  by_cases e : a = g
  · refine Or.inl ⟨e, ?_⟩
    rcases hv with ⟨v1, v2, v3, -⟩ | ⟨v1, -⟩
    · obtain ⟨k1, k2, k3⟩ := (ht v v1 v2).mp v3
      obtain ⟨-, n, q⟩ := hS _ k1 k2
      have r := prc_rng (τ := τ) (s := bes a v) (w := v) hP
      have := q.ge hP
      rw [e, hG, ← e] at k3
      omega
    · exact v1
  · refine Or.inr ⟨e, ?_⟩
    rw [hd]
    obtain ⟨n, hw⟩ := hw
    cases n with
    | zero => exact absurd hw.1 e
    | succ n =>
      obtain ⟨w, y, w1, w2, o, e2, k⟩ := hw
      have tw := fw w ⟨w1, w2, o, n, y, e2, k⟩
      rcases hv with ⟨v1, v2, v3, v4⟩ | ⟨-, v4⟩
      · refine ⟨tf v v1 v2 v3, fun u hu => ?_⟩
        by_cases q : u < v
        · exact absurd (fw u hu) (v4 u hu.1 q)
        · omega
      · exact absurd tw (v4 w w1 w2)
/-- forwards: what the least prices and first ways are -/
theorem dst_forth {τ : Tw} {a : Int} {L Fi : Int → Int} (ha : L a = 0) (hS : ∀ q, inS q → q ≠ a → L q < 999999 → FW τ 100 a q (L q) (Fi q)) (hB : ∀ q, inS q → L q ≤ 999999 ∧ (L q < 999999 → 0 ≤ L q ∧ L q ≤ 308749))
    (hC : ∀ c w, inS c → 0 ≤ w → w < 4 → L c < 999999 → opn τ (bes c w) → bes c w ≠ a → L (bes c w) < L c + prc τ 100 (bes c w) w ∨ (L (bes c w) = L c + prc τ 100 (bes c w) w ∧ Fi (bes c w) ≤ if c = a then w else Fi c)) (ia : inS a) {q : Int} (hq : inS q) :
    (L q = if dst τ 100 a q = -1 then 999999 else dst τ 100 a q) ∧ (q ≠ a → L q < 999999 → Fi q = frs τ 100 a q) ∧ (¬ L q < 999999 → dst τ 100 a q = -1) := by
  have hP : (100 : Int) = 0 ∨ (100 : Int) = 100 := Or.inr rfl
  have cl : ∀ n w0 q y, 0 ≤ w0 → w0 < 4 → opn τ (bes a w0) → WkN τ 100 n (bes a w0) q y → q ≠ a → L q < 999999 ∧ (L q < y + prc τ 100 (bes a w0) w0 ∨ (L q = y + prc τ 100 (bes a w0) w0 ∧ Fi q ≤ w0)) := by
    intro n
    induction n with
    | zero =>
      intro w0 q y h1 h2 o h hne
      obtain ⟨e1, e2⟩ := h
      have r := prc_rng (τ := τ) (s := bes a w0) (w := w0) hP
      have d := hC a w0 ia h1 h2 (by omega) o (by rw [e1]; exact hne)
      rw [if_pos rfl, ha, e1] at d
      rw [e1] at r
      rw [e1]
      omega
    | succ n ih =>
      intro w0 q y h1 h2 o h hne
      obtain ⟨m, w, z, k1, k2, k3, k4, k5, k6⟩ := h.last
      have om := k1.opn o
      have r := prc_rng (τ := τ) (s := bes a w0) (w := w0) hP
      have r2 := prc_rng (τ := τ) (s := q) (w := w) hP
      have z0 := k1.ge hP
      by_cases e : m = a
      · have k7 : q = bes a w := by rw [← e]; exact k5
        have d := hC a w ia k2 k3 (by omega) (by rw [← k7]; exact k4) (by rw [← k7]; exact hne)
        rw [if_pos rfl, ha, ← k7] at d
        omega
      · obtain ⟨i1, i2⟩ := ih w0 m z h1 h2 o k1 e
        have d := hC m w om.1 k2 k3 i1 (by rw [← k5]; exact k4) (by rw [← k5]; exact hne)
        rw [if_neg e, ← k5] at d
        have b := hB m om.1
        omega
  by_cases e : q = a
  · subst e
    refine ⟨by rw [ha, dst_self hP]; rfl, fun h => absurd rfl h, fun h => absurd ha (fun z => h (by omega))⟩
  · by_cases h : L q < 999999
    · have f := hS q hq e h
      have e2 : dst τ 100 a q = L q := DV.eq (Or.inr ⟨f.wk, fun n x k => by
        cases n with
        | zero => exact absurd k.1.symm e
        | succ n =>
          obtain ⟨w, y, w1, w2, o, e3, k⟩ := k
          have := (cl n w q y w1 w2 o k e).2
          omega⟩)
      have b := hB q hq
      refine ⟨by rw [e2, if_neg (by omega)], fun _ _ => (FV.eq (Or.inr ⟨fun z => e z.symm, by rw [e2]; exact f, fun u hu => ?_⟩)).symm, fun z => absurd h z⟩
      rw [e2] at hu
      obtain ⟨u1, u2, o, n, y, e3, k⟩ := hu
      have := (cl n u q y u1 u2 o k e).2
      omega
    · have e2 : dst τ 100 a q = -1 := DV.eq (Or.inl ⟨rfl, fun n x k => by
        cases n with
        | zero => exact absurd k.1.symm e
        | succ n =>
          obtain ⟨w, y, w1, w2, o, e3, k⟩ := k
          exact h (cl n w q y w1 w2 o k e).1⟩)
      have b := hB q hq
      exact ⟨by rw [e2, if_pos rfl]; omega, fun _ z => absurd z h, fun _ => e2⟩
theorem bes_back : ∀ c, c < 49 → ∀ w, w < 4 → 0 ≤ bes (c : Nat) (w : Nat) → bes (bes (c : Nat) (w : Nat)) (3 - (w : Nat)) = (c : Nat) := by decide +kernel
theorem bes_bk {c w : Int} (hc : inS c) (w1 : 0 ≤ w) (w2 : w < 4) (h : 0 ≤ bes c w) : bes (bes c w) (3 - w) = c := by
  obtain ⟨k, rfl⟩ := Int.eq_ofNat_of_zero_le hc.1
  obtain ⟨j, rfl⟩ := Int.eq_ofNat_of_zero_le w1
  exact bes_back k (by omega) j (by omega) h
theorem bes_in {c w : Int} (h : inS (bes c w)) : inS c := by
  unfold inS at h ⊢
  by_cases q : c < 0 ∨ 49 ≤ c
  · rw [bes, if_pos q] at h; omega
  · omega
