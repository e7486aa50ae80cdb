/-! PART 09: a town as a value; what comes of it (specification, in whole numbers) -/
/-- contracts that say something of the store behind them -/
def RE (r : Option Value) (P : Sg → Prop) : Option Value → Sg → Prop := fun v τ => v = r ∧ P τ
section AWE
variable {G : Gl} {d : Nat} {own : String} {cc : ByteArray} {mL : Nat} {ret : Option FieldType} {pc : Nat} {ls : List (Nat × Value)} {st : List Value} {σ : Sg} {K : Option Value → Sg → Prop}
theorem A_callVe {idx n mL2 c ci : Nat} {fl : List (Nat × Nat)} {y : MethodName} {b : ByteArray} {ret2 : Option FieldType} {As rest : List Value} {r : Value} {P : Sg → Prop} (hl : LkV own idx y n b mL2 ret2) (hs : shp c = .inl (ci, fl)) (hci : (vwCl[ci]?).map (fun q => q.1) = some y.cls) (hc : CT G d y b mL2 ret2 (.ref (gA G c) :: As) σ (RE (some r) P)) (hd : decode cc pc = .ok (.invokevirtual idx, 3)) (hst : st = As.reverse ++ .ref (gA G c) :: rest) (hn : As.length = n) (hm : mL2 ≤ 80) (hr : (rest.map fun v => v.category).sum ≤ 8)
    (k : ∀ τ, P τ → AW G (d + 1) own cc mL ret (pc + 3) ls (r :: rest) τ K) : AW G (d + 1) own cc mL ret pc ls st σ K :=
  A_callV hl hs hci hc hd hst hn hm hr (fun v τ' h => by obtain ⟨rfl, h2⟩ := h; exact k _ h2)
theorem A_callVe0 {idx n mL2 c ci : Nat} {fl : List (Nat × Nat)} {y : MethodName} {b : ByteArray} {ret2 : Option FieldType} {As rest : List Value} {P : Sg → Prop} (hl : LkV own idx y n b mL2 ret2) (hs : shp c = .inl (ci, fl)) (hci : (vwCl[ci]?).map (fun q => q.1) = some y.cls) (hc : CT G d y b mL2 ret2 (.ref (gA G c) :: As) σ (RE none P)) (hd : decode cc pc = .ok (.invokevirtual idx, 3)) (hst : st = As.reverse ++ .ref (gA G c) :: rest) (hn : As.length = n) (hm : mL2 ≤ 80) (hr : (rest.map fun v => v.category).sum ≤ 8)
    (k : ∀ τ, P τ → AW G (d + 1) own cc mL ret (pc + 3) ls rest τ K) : AW G (d + 1) own cc mL ret pc ls st σ K :=
  A_callV hl hs hci hc hd hst hn hm hr (fun v τ' h => by obtain ⟨rfl, h2⟩ := h; exact k _ h2)
theorem A_callSe {idx n mL2 : Nat} {y : MethodName} {b : ByteArray} {ret2 : Option FieldType} {As rest : List Value} {r : Value} {P : Sg → Prop} (hl : LkS own idx y n b mL2 ret2) (hc : CT G d y b mL2 ret2 As σ (RE (some r) P)) (hd : decode cc pc = .ok (.invokestatic idx, 3)) (hst : st = As.reverse ++ rest) (hn : As.length = n) (hm : mL2 ≤ 80) (hr : (rest.map fun v => v.category).sum ≤ 8)
    (k : ∀ τ, P τ → AW G (d + 1) own cc mL ret (pc + 3) ls (r :: rest) τ K) : AW G (d + 1) own cc mL ret pc ls st σ K :=
  A_callS hl hc hd hst hn hm hr (fun v τ' h => by obtain ⟨rfl, h2⟩ := h; exact k _ h2)
theorem A_getIv {idx ci k c z : Nat} {fl : List (Nat × Nat)} {x : Int} (hf : LkF own idx ci k) (hs : shp c = .inl (ci, fl)) (hk : fl[k]? = some (0, z)) (hx : σ.1 c k = x) (hd : decode cc pc = .ok (.getfield idx, 3))
    (kk : AW G d own cc mL ret (pc + 3) ls (.int (iI x) :: st) σ K) : AW G d own cc mL ret pc ls (.ref (gA G c) :: st) σ K := A_getI hf hs hk hd (hx ▸ kk)
theorem A_getLv {idx ci k c z : Nat} {fl : List (Nat × Nat)} {x : Int64} (hf : LkF own idx ci k) (hs : shp c = .inl (ci, fl)) (hk : fl[k]? = some (1, z)) (hx : σ.2 c k = x) (hd : decode cc pc = .ok (.getfield idx, 3))
    (kk : AW G d own cc mL ret (pc + 3) ls (.long x :: st) σ K) : AW G d own cc mL ret pc ls (.ref (gA G c) :: st) σ K := A_getL hf hs hk hd (hx ▸ kk)
theorem A_ialdv {c n : Nat} {i x : Int} (j : Nat) (hs : shp c = .inr (0, n)) (hi : i = (j : Int)) (hj : j < n) (hn : n < 2 ^ 31) (hx : σ.1 c j = x) (hd : decode cc pc = .ok (.iaload, 1))
    (kk : AW G d own cc mL ret (pc + 1) ls (.int (iI x) :: st) σ K) : AW G d own cc mL ret pc ls (.int (iI i) :: .ref (gA G c) :: st) σ K := A_iald j hs hi hj hn hd (hx ▸ kk)
theorem A_zaldv {c n : Nat} {i x : Int} (j : Nat) (hs : shp c = .inr (2, n)) (hi : i = (j : Int)) (hj : j < n) (hn : n < 2 ^ 31) (hx : σ.1 c j = x) (hd : decode cc pc = .ok (.baload, 1))
    (kk : AW G d own cc mL ret (pc + 1) ls (.int (iI x) :: st) σ K) : AW G d own cc mL ret pc ls (.int (iI i) :: .ref (gA G c) :: st) σ K := A_zald j hs hi hj hn hd (hx ▸ kk)
theorem A_laldv {c n : Nat} {i : Int} {x : Int64} (j : Nat) (hs : shp c = .inr (1, n)) (hi : i = (j : Int)) (hj : j < n) (hn : n < 2 ^ 31) (hx : σ.2 c j = x) (hd : decode cc pc = .ok (.laload, 1))
    (kk : AW G d own cc mL ret (pc + 1) ls (.long x :: st) σ K) : AW G d own cc mL ret pc ls (.int (iI i) :: .ref (gA G c) :: st) σ K := A_lald j hs hi hj hn hd (hx ▸ kk)
end AWE
/-- two stores differ in the cells S alone -/
def Fr (S : Nat → Prop) (σ τ : Sg) : Prop := ∀ a, ¬ S a → τ.1 a = σ.1 a ∧ τ.2 a = σ.2 a
theorem Fr.rf {S : Nat → Prop} {σ : Sg} : Fr S σ σ := fun _ _ => ⟨rfl, rfl⟩
theorem Fr.tr {S : Nat → Prop} {σ τ υ : Sg} (h1 : Fr S σ τ) (h2 : Fr S τ υ) : Fr S σ υ := fun a ha => ⟨(h2 a ha).1.trans (h1 a ha).1, (h2 a ha).2.trans (h1 a ha).2⟩
theorem Fr.mono {S S2 : Nat → Prop} {σ τ : Sg} (h1 : Fr S σ τ) (h : ∀ a, S a → S2 a) : Fr S2 σ τ := fun a ha => h1 a (fun q => ha (h a q))
theorem Fr.uI {S : Nat → Prop} {σ τ : Sg} {c k : Nat} {v : Int} (h : Fr S σ τ) (hc : S c) : Fr S σ (uI τ c k v) := fun a ha => by
  have hne : a ≠ c := fun e => ha (e ▸ hc)
  exact ⟨(uI_ne hne).symm.trans (h a ha).1, (h a ha).2⟩
theorem Fr.uL {S : Nat → Prop} {σ τ : Sg} {c k : Nat} {v : Int64} (h : Fr S σ τ) (hc : S c) : Fr S σ (uL τ c k v) := fun a ha => by
  have hne : a ≠ c := fun e => ha (e ▸ hc)
  exact ⟨(h a ha).1, (uL_ne hne).symm.trans (h a ha).2⟩
/-- some, all in one of the next n -/
def anyR (f : Nat → Bool) : Nat → Nat → Bool
  | 0, _ => false
  | n + 1, i => f i || anyR f n (i + 1)
def orR (f : Nat → Bool) : Nat → Nat → Nat
  | 0, _ => 0
  | n + 1, i => (if f i then 2 ^ i else 0) ||| orR f n (i + 1)
def sumR (f : Nat → Int) : Nat → Nat → Int
  | 0, _ => 0
  | n + 1, i => f i + sumR f n (i + 1)
theorem anyR_congr {f g : Nat → Bool} : ∀ {n i : Nat}, (∀ k, i ≤ k → k < i + n → f k = g k) → anyR f n i = anyR g n i
  | 0, _, _ => rfl
  | n + 1, i, h => by
    unfold anyR
    rw [h i (Nat.le_refl _) (by omega), anyR_congr (fun k h1 h2 => h k (by omega) (by omega))]
theorem orR_congr {f g : Nat → Bool} : ∀ {n i : Nat}, (∀ k, i ≤ k → k < i + n → f k = g k) → orR f n i = orR g n i
  | 0, _, _ => rfl
  | n + 1, i, h => by
    unfold orR
    rw [h i (Nat.le_refl _) (by omega), orR_congr (fun k h1 h2 => h k (by omega) (by omega))]
theorem orR_lt {f : Nat → Bool} {m : Nat} : ∀ {n i : Nat}, i + n ≤ m → orR f n i < 2 ^ m
  | 0, _, _ => Nat.two_pow_pos _
  | n + 1, i, h => by
    unfold orR
    refine Nat.or_lt_two_pow ?_ (orR_lt (by omega))
    by_cases q : f i
    · rw [if_pos q]; exact Nat.pow_lt_pow_right (by decide) (by omega)
    · rw [if_neg q]; exact Nat.two_pow_pos _
theorem orR_bit {f : Nat → Bool} {k : Nat} : ∀ {n i : Nat}, (orR f n i).testBit k = (decide (i ≤ k ∧ k < i + n) && f k)
  | 0, i => by
    unfold orR
    rw [Nat.zero_testBit]
    have : ¬ (i ≤ k ∧ k < i + 0) := by omega
    rw [decide_eq_false this, Bool.false_and]
  | n + 1, i => by
    unfold orR
    rw [Nat.testBit_or, orR_bit]
    by_cases e : k = i
    · subst e
      have h1 : ¬ (k + 1 ≤ k ∧ k < k + 1 + n) := by omega
      have h2 : k ≤ k ∧ k < k + (n + 1) := by omega
      simp only [h1, h2, decide_true, decide_false, Bool.false_and, Bool.true_and, Bool.or_false, and_self]
      by_cases q : f k
      · rw [if_pos q, Nat.testBit_two_pow_self, q]
      · rw [if_neg q, Nat.zero_testBit]; simpa using q
    · have h1 : (i + 1 ≤ k ∧ k < i + 1 + n) ↔ (i ≤ k ∧ k < i + (n + 1)) := by omega
      have h3 : (if f i = true then 2 ^ i else 0).testBit k = false := by
        by_cases q : f i
        · rw [if_pos q, Nat.testBit_two_pow]; simp [Ne.symm e]
        · rw [if_neg q, Nat.zero_testBit]
      rw [h3, Bool.false_or]
      simp only [h1]
/-- a town: its houses (bits), 0 panes 1 walkers 2 reach 3 days 4 shame 5 seed; 0 kind 1 a 2 at 3 out (of panes), 4 at 5 faces 6 tried (of walkers) -/
abbrev Tw : Type := Nat × (Nat → Int) × (Nat → Nat → Int)
def OkT (τ : Tw) : Prop := τ.1 < 2 ^ 49 ∧ 0 ≤ τ.2.1 0 ∧ τ.2.1 0 ≤ 9 ∧ 0 ≤ τ.2.1 1 ∧ τ.2.1 1 ≤ 5 ∧ 1 ≤ τ.2.1 2 ∧ τ.2.1 2 ≤ 6 ∧
  (∀ p : Nat, (p : Int) < τ.2.1 0 → 0 ≤ τ.2.2 0 p ∧ τ.2.2 0 p ≤ 6 ∧ 0 ≤ τ.2.2 1 p ∧ τ.2.2 1 p ≤ 9 ∧ 0 ≤ τ.2.2 2 p ∧ τ.2.2 2 p ≤ 48 ∧ 0 ≤ τ.2.2 3 p ∧ τ.2.2 3 p ≤ 3) ∧
  (∀ w : Nat, (w : Int) < τ.2.1 1 → 0 ≤ τ.2.2 4 w ∧ τ.2.2 4 w ≤ 48 ∧ 0 ≤ τ.2.2 5 w ∧ τ.2.2 5 w ≤ 3)
/-- a town of the class, at the cell c -/
def RX (c : Nat) (τ : Tw) (σ : Sg) : Prop := σ.2 c 0 = lN τ.1 ∧ (∀ k : Nat, k < 6 → σ.1 c (k + 1) = τ.2.1 k) ∧
  (∀ j p : Nat, j < 4 → (p : Int) < τ.2.1 0 → σ.1 (c + 1 + j) p = τ.2.2 j p) ∧ (∀ j w : Nat, j < 3 → (w : Int) < τ.2.1 1 → σ.1 (c + 5 + j) w = τ.2.2 (4 + j) w)
/-- the reference's town -/
def RMt (τ : Tw) (σ : Sg) : Prop := (∀ i : Nat, i < 49 → σ.1 62 i = bI (τ.1.testBit i = true)) ∧ σ.1 54 0 = τ.2.1 0 ∧ σ.1 54 5 = τ.2.1 1 ∧ (∀ k : Nat, k < 3 → σ.1 63 k = τ.2.1 (2 + k)) ∧ σ.1 54 11 = τ.2.1 5 ∧
  (∀ j p : Nat, j < 4 → (p : Int) < τ.2.1 0 → σ.1 (55 + j) p = τ.2.2 j p) ∧ (∀ j w : Nat, j < 3 → (w : Int) < τ.2.1 1 → σ.1 (59 + j) w = τ.2.2 (4 + j) w)
theorem RX.kind {c : Nat} {τ : Tw} {σ : Sg} (h : RX c τ σ) {p : Nat} (hp : (p : Int) < τ.2.1 0) : σ.1 (c + 1) p = τ.2.2 0 p := h.2.2.1 0 p (by decide) hp
theorem RX.a {c : Nat} {τ : Tw} {σ : Sg} (h : RX c τ σ) {p : Nat} (hp : (p : Int) < τ.2.1 0) : σ.1 (c + 2) p = τ.2.2 1 p := h.2.2.1 1 p (by decide) hp
theorem RX.at {c : Nat} {τ : Tw} {σ : Sg} (h : RX c τ σ) {p : Nat} (hp : (p : Int) < τ.2.1 0) : σ.1 (c + 3) p = τ.2.2 2 p := h.2.2.1 2 p (by decide) hp
theorem RX.out {c : Nat} {τ : Tw} {σ : Sg} (h : RX c τ σ) {p : Nat} (hp : (p : Int) < τ.2.1 0) : σ.1 (c + 4) p = τ.2.2 3 p := h.2.2.1 3 p (by decide) hp
theorem RX.wat {c : Nat} {τ : Tw} {σ : Sg} (h : RX c τ σ) {p : Nat} (hp : (p : Int) < τ.2.1 1) : σ.1 (c + 5) p = τ.2.2 4 p := h.2.2.2 0 p (by decide) hp
theorem RX.wf {c : Nat} {τ : Tw} {σ : Sg} (h : RX c τ σ) {p : Nat} (hp : (p : Int) < τ.2.1 1) : σ.1 (c + 6) p = τ.2.2 5 p := h.2.2.2 1 p (by decide) hp
theorem RX.wt {c : Nat} {τ : Tw} {σ : Sg} (h : RX c τ σ) {p : Nat} (hp : (p : Int) < τ.2.1 1) : σ.1 (c + 7) p = τ.2.2 6 p := h.2.2.2 2 p (by decide) hp
theorem RMt.kind {τ : Tw} {σ : Sg} (h : RMt τ σ) {p : Nat} (hp : (p : Int) < τ.2.1 0) : σ.1 55 p = τ.2.2 0 p := h.2.2.2.2.2.1 0 p (by decide) hp
theorem RMt.a {τ : Tw} {σ : Sg} (h : RMt τ σ) {p : Nat} (hp : (p : Int) < τ.2.1 0) : σ.1 56 p = τ.2.2 1 p := h.2.2.2.2.2.1 1 p (by decide) hp
theorem RMt.at {τ : Tw} {σ : Sg} (h : RMt τ σ) {p : Nat} (hp : (p : Int) < τ.2.1 0) : σ.1 57 p = τ.2.2 2 p := h.2.2.2.2.2.1 2 p (by decide) hp
theorem RMt.out {τ : Tw} {σ : Sg} (h : RMt τ σ) {p : Nat} (hp : (p : Int) < τ.2.1 0) : σ.1 58 p = τ.2.2 3 p := h.2.2.2.2.2.1 3 p (by decide) hp
theorem RMt.wat {τ : Tw} {σ : Sg} (h : RMt τ σ) {p : Nat} (hp : (p : Int) < τ.2.1 1) : σ.1 59 p = τ.2.2 4 p := h.2.2.2.2.2.2 0 p (by decide) hp
theorem RMt.wf {τ : Tw} {σ : Sg} (h : RMt τ σ) {p : Nat} (hp : (p : Int) < τ.2.1 1) : σ.1 60 p = τ.2.2 5 p := h.2.2.2.2.2.2 1 p (by decide) hp
theorem RMt.wt {τ : Tw} {σ : Sg} (h : RMt τ σ) {p : Nat} (hp : (p : Int) < τ.2.1 1) : σ.1 61 p = τ.2.2 6 p := h.2.2.2.2.2.2 2 p (by decide) hp
/-- stores with the same town -/
theorem RX.fr {c : Nat} {τ : Tw} {σ υ : Sg} {S : Nat → Prop} (h : RX c τ σ) (hF : Fr S σ υ) (hS : ∀ a, S a → ¬ (c ≤ a ∧ a < c + 8)) : RX c τ υ := by
  have e1 : ∀ a, c ≤ a → a < c + 8 → υ.1 a = σ.1 a := fun a h1 h2 => (hF a (fun q => hS a q ⟨h1, h2⟩)).1
  refine ⟨by rw [(hF c (fun q => hS c q ⟨Nat.le_refl _, by omega⟩)).2]; exact h.1, fun k hk => by rw [e1 c (Nat.le_refl _) (by omega)]; exact h.2.1 k hk, fun j p hj hp => by rw [e1 _ (by omega) (by omega)]; exact h.2.2.1 j p hj hp, fun j p hj hp => by rw [e1 _ (by omega) (by omega)]; exact h.2.2.2 j p hj hp⟩
theorem RMt.fr {τ : Tw} {σ υ : Sg} {S : Nat → Prop} (h : RMt τ σ) (hF : Fr S σ υ) (hS : ∀ a, S a → ¬ (54 ≤ a ∧ a < 64)) : RMt τ υ := by
  have e1 : ∀ a, 54 ≤ a → a < 64 → υ.1 a = σ.1 a := fun a h1 h2 => (hF a (fun q => hS a q ⟨h1, h2⟩)).1
  obtain ⟨h1, h2, h3, h4, h5, h6, h7⟩ := h
  exact ⟨fun i hi => by rw [e1 62 (by omega) (by omega)]; exact h1 i hi, by rw [e1 54 (by omega) (by omega)]; exact h2, by rw [e1 54 (by omega) (by omega)]; exact h3, fun k hk => by rw [e1 63 (by omega) (by omega)]; exact h4 k hk, by rw [e1 54 (by omega) (by omega)]; exact h5, fun j p hj hp => by rw [e1 _ (by omega) (by omega)]; exact h6 j p hj hp, fun j p hj hp => by rw [e1 _ (by omega) (by omega)]; exact h7 j p hj hp⟩
/-- is a pane at a square; is somebody -/
def pAt (τ : Tw) (s : Int) : Bool := anyR (fun p => decide (τ.2.2 2 p = s)) (τ.2.1 0).toNat 0
def wAt (τ : Tw) (s : Int) : Bool := anyR (fun p => decide (τ.2.2 4 p = s)) (τ.2.1 1).toNat 0
/-- the walkers in a set of squares -/
def wIn (τ : Tw) (b : Nat) : Nat := orR (fun w => decide (sT b (τ.2.2 4 w))) (τ.2.1 1).toNat 0
theorem wIn_lt {τ : Tw} (h : OkT τ) (b : Nat) : wIn τ b < 32 := orR_lt (m := 5) (by obtain ⟨-, -, -, h4, h5, -⟩ := h; omega)
/-- does a pane let somebody look in from off -/
def lets (k a off : Int) : Bool := if k = 1 then false else if k = 2 then decide (off ≤ a + 1) else if k = 3 then decide (off = 1) else true
/-- the panes at a house, with a way out, that let look in -/
def opens (τ : Tw) (s w off : Int) : Nat := orR (fun p => decide (τ.2.2 2 p = s ∧ τ.2.2 3 p = w) && lets (τ.2.2 0 p) (τ.2.2 1 p) off) (τ.2.1 0).toNat 0
theorem opens_lt {τ : Tw} (h : OkT τ) (s w off : Int) : opens τ s w off < 512 := orR_lt (m := 9) (by obtain ⟨-, h2, h3, -⟩ := h; omega)
/-- the panes that somebody looks in at, with n squares to go, from a square -/
def lookG (τ : Tw) (w : Int) : Nat → Int → Int → Nat
  | 0, _, _ => 0
  | n + 1, a, off => if sT τ.1 (bes a w) then opens τ (bes a w) (3 - w) off else lookG τ w n (bes a w) (off + 1)
def look (τ : Tw) (s w : Int) : Nat := lookG τ w (τ.2.1 2).toNat s 1
theorem lookG_lt {τ : Tw} (h : OkT τ) (w : Int) : ∀ (n : Nat) (a off : Int), lookG τ w n a off < 512
  | 0, _, _ => by unfold lookG; decide
  | n + 1, a, off => by
    unfold lookG
    by_cases q : sT τ.1 (bes a w)
    · rw [if_pos q]; exact opens_lt h _ _ _
    · rw [if_neg q]; exact lookG_lt h w n _ _
theorem look_lt {τ : Tw} (h : OkT τ) (s w : Int) : look τ s w < 512 := lookG_lt h w _ _ _
/-- what a pane sees, if the houses are b -/
def seeB (τ : Tw) (b : Nat) (p : Nat) : Nat :=
  if (τ.2.2 0 p = 0 ∨ τ.2.2 0 p = 1) ∨ τ.2.2 0 p = 3 then lineX b (τ.2.2 2 p) (τ.2.2 3 p) (τ.2.1 2) else if τ.2.2 0 p = 4 then wideX b (τ.2.2 2 p) (τ.2.2 3 p) (τ.2.1 2) else if τ.2.2 0 p = 5 then wideX b (τ.2.2 2 p) (τ.2.2 3 p) (τ.2.1 2 + τ.2.2 1 p) else 0
theorem seeB_lt (τ : Tw) (b p : Nat) : seeB τ b p < 2 ^ 49 := by
  unfold seeB
  (repeat' split) <;> first | exact lineX_lt _ _ _ _ | exact wideX_lt _ _ _ _ | decide
