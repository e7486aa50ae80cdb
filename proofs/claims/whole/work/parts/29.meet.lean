/-! PART 29: meet; both -/
noncomputable def mdF (τ : Tw) (g c : Int) : Int := if opn τ c then dst τ 0 c g else -1
theorem MsO.md {τ : Tw} {g : Int} {pv : Int → Int} (h : MsO τ 0 g pv) {c : Int} (hc : inS c) : (pv c < 1000000 ∧ mdF τ g c = pv c ∧ mdF τ g c ≠ -1) ∨ (¬ pv c < 1000000 ∧ mdF τ g c = -1) := by
  have a := h.1 c hc
  by_cases z : pv c < 1000000
  · have ho := (h.2.2.1 c hc z).1
    have k := h.2.2.2.2.2 c ho
    have e2 : mdF τ g c = dst τ 0 c g := if_pos ho
    by_cases e : dst τ 0 c g = -1
    · rw [if_pos e] at k; omega
    · rw [if_neg e] at k; exact Or.inl ⟨z, by omega, by omega⟩
  · refine Or.inr ⟨z, ?_⟩
    unfold mdF
    by_cases ho : opn τ c
    · rw [if_pos ho]; exact h.far ho z
    · rw [if_neg ho]
def mtF (A B : Int → Int) (i : Nat) : Bool := decide (A i ≠ -1 ∧ B i ≠ -1)
def mtG (A B : Int → Int) (i : Nat) : Int := A i + B i
noncomputable def mtH (τ : Tw) (g h : Int) : Int × Int := houG (mtF (mdF τ g) (mdF τ h)) (mtG (mdF τ g) (mdF τ h)) 49 0 (-1) (-1)
noncomputable def qMeet (Z : Zt) (p q w : Int) : Int × Zt := if ¬ ((0 ≤ p ∧ p < Z.1.2.1 1) ∧ (0 ≤ q ∧ q < Z.1.2.1 1)) then refA Z (-1) else if ¬ (0 ≤ w ∧ w ≤ 1) then refA Z (-5) else if p = q then refA Z (-6) else (if w = 0 then (mtH Z.1 (Z.1.2.2 4 p.toNat) (Z.1.2.2 4 q.toNat)).2 else (mtH Z.1 (Z.1.2.2 4 p.toNat) (Z.1.2.2 4 q.toNat)).1, Z)
/-- spreading, at the start of a round; within it -/
def BfJ (τ : Tw) (g d c w : Int) (T : Int → Int) : Prop := T g = 0 ∧ (∀ s, inS s → 0 ≤ T s ∧ T s ≤ 999999 ∧ (T s < 999999 → T s ≤ d + 1 ∧ T s + 1 ≤ cntR (finL T) 49 0 ∧ opn τ s ∧ ∃ n, WkN τ 0 n s g (T s))) ∧
  (∀ s v, inS s → (T s < d ∨ (T s = d ∧ (s < c ∨ (s = c ∧ v < w)))) → 0 ≤ v → v < 4 → opn τ (bes s v) → T (bes s v) ≤ T s + 1)
def BfI (τ : Tw) (g d : Int) (T : Int → Int) : Prop := T g = 0 ∧ (∀ s, inS s → 0 ≤ T s ∧ T s ≤ 999999 ∧ (T s < 999999 → T s ≤ d ∧ T s + 1 ≤ cntR (finL T) 49 0 ∧ opn τ s ∧ ∃ n, WkN τ 0 n s g (T s))) ∧
  (∀ s v, inS s → T s < d → 0 ≤ v → v < 4 → opn τ (bes s v) → T (bes s v) ≤ T s + 1)
theorem prc0 {τ : Tw} {s w : Int} : prc τ 0 s w = 1 := if_pos rfl
theorem BfI.go {τ : Tw} {g d : Int} {T : Int → Int} (h : BfI τ g d T) : BfJ τ g d 0 0 T :=
  ⟨h.1, fun s hs => ⟨(h.2.1 s hs).1, (h.2.1 s hs).2.1, fun z => ⟨by have := ((h.2.1 s hs).2.2 z).1; omega, ((h.2.1 s hs).2.2 z).2⟩⟩, fun s v hs hc v1 v2 => h.2.2 s v hs (by unfold inS at hs; omega) v1 v2⟩
theorem BfJ.end {τ : Tw} {g d w : Int} {T : Int → Int} (h : BfJ τ g d 49 w T) : BfI τ g (d + 1) T :=
  ⟨h.1, h.2.1, fun s v hs hc => h.2.2 s v hs (by unfold inS at hs; omega)⟩
theorem BfJ.over {τ : Tw} {g d c : Int} {T : Int → Int} (h : BfJ τ g d c 4 T) : BfJ τ g d (c + 1) 0 T :=
  ⟨h.1, h.2.1, fun s v hs hc v1 v2 => h.2.2 s v hs (by omega) v1 v2⟩
theorem BfJ.not {τ : Tw} {g d c w : Int} {T : Int → Int} (h : BfJ τ g d c w T) (hn : T c ≠ d) : BfJ τ g d (c + 1) 0 T :=
  ⟨h.1, h.2.1, fun s v hs hc v1 v2 => h.2.2 s v hs (by
    by_cases e : s = c
    · rw [e] at hc ⊢; omega
    · omega) v1 v2⟩
theorem BfJ.skip {τ : Tw} {g d c w : Int} {T : Int → Int} (h : BfJ τ g d c w T) (hn : opn τ (bes c w) → T c = d → T (bes c w) ≠ 999999) : BfJ τ g d c (w + 1) T := by
  refine ⟨h.1, h.2.1, fun s v hs hc v1 v2 ho => ?_⟩
  by_cases e : s = c ∧ v = w ∧ T s = d
  · obtain ⟨rfl, rfl, e⟩ := e
    have a := hn ho e
    have b := h.2.1 _ ho.1
    have := (b.2.2 (by omega)).1
    omega
  · refine h.2.2 s v hs ?_ v1 v2 ho
    by_cases z : s = c
    · by_cases y : v = w
      · have : T s ≠ d := fun q => e ⟨z, y, q⟩
        omega
      · omega
    · omega
theorem BfJ.next {τ : Tw} {g d c w : Int} {T : Int → Int} (h : BfJ τ g d c w T) (hd : 0 ≤ d) (hc : inS c) (w1 : 0 ≤ w) (w2 : w < 4) (ht : T c = d) (hd2 : d < 49) (ho : opn τ (bes c w)) (hi : T (bes c w) = 999999) : BfJ τ g d c (w + 1) (updI T (bes c w) (d + 1)) := by
  obtain ⟨h1, h2, h3⟩ := h
  obtain ⟨q, hq⟩ := Int.eq_ofNat_of_zero_le ho.1.1
  have q49 : q < 49 := by have := ho.1.2; omega
  have hcc := (h2 c hc).2.2 (by omega)
  obtain ⟨n, kc⟩ := hcc.2.2.2
  have u := cntR_upd (f := finL (updI T (bes c w) (d + 1))) (g := finL T) (b := q) (by show decide (updI T (bes c w) (d + 1) q < 999999) = true; rw [← hq, updI_eq]; exact decide_eq_true (by omega)) (by show decide (T q < 999999) = false; rw [← hq, hi]; rfl) (fun j hj => by show decide (updI T (bes c w) (d + 1) j < 999999) = decide (T j < 999999); rw [updI_ne (fun z => hj (by omega))]) 49 0 (by omega) (by omega)
  have hg : g ≠ bes c w := fun z => by rw [← z, h1] at hi; exact absurd hi (by decide)
  have bk := bes_bk hc w1 w2 ho.1.1
  refine ⟨by rw [updI_ne hg]; exact h1, fun s hs => ?_, fun s v hs hv v1 v2 hso => ?_⟩
  · by_cases e : s = bes c w
    · rw [e, updI_eq]
      refine ⟨by omega, by omega, fun _ => ⟨by omega, by omega, ho, n + 1, 3 - w, T c, by omega, by omega, ?_, ?_, ?_⟩⟩
      · rw [bk]; exact hcc.2.2.1
      · rw [prc0, ht]
      · rw [bk]; exact kc
    · rw [updI_ne e]
      have b := h2 s hs
      exact ⟨b.1, b.2.1, fun z => ⟨(b.2.2 z).1, by have := (b.2.2 z).2.1; omega, (b.2.2 z).2.2⟩⟩
  · have e : s ≠ bes c w := fun z => by rw [z, updI_eq] at hv; omega
    rw [updI_ne e] at hv ⊢
    by_cases e2 : bes s v = bes c w
    · rw [e2, updI_eq]
      by_cases y : T s = d
      · omega
      · have a := h3 s v hs (by omega) v1 v2 hso
        rw [e2, hi] at a
        omega
    · rw [updI_ne e2]
      refine h3 s v hs ?_ v1 v2 hso
      by_cases z : s = c
      · by_cases y : v = w
        · exact absurd (by rw [z, y]) e2
        · omega
      · omega
theorem BfI.start {τ : Tw} {a : Int} (ho : opn τ a) : BfI τ a 0 (updI (fun _ => 999999) a 0) := by
  refine ⟨updI_eq, fun q hq => ?_, fun s v hs hc v1 v2 _ => ?_⟩
  · obtain ⟨k, hk⟩ := Int.eq_ofNat_of_zero_le ho.1.1
    have k49 : k < 49 := by have := ho.1.2; omega
    have u := cntR_upd (f := finL (updI (fun _ => 999999) a 0)) (g := fun _ => false) (b := k) (by show decide (updI (fun _ => 999999) a 0 k < 999999) = true; rw [← hk, updI_eq]; rfl) rfl (fun j hj => by show decide (updI (fun _ => 999999) a 0 j < 999999) = false; rw [updI_ne (fun z => hj (by omega))]; rfl) 49 0 (by omega) (by omega)
    have z := cntR_rng (fun _ => false) 49 0
    by_cases e : q = a
    · rw [e, updI_eq]; exact ⟨by omega, by omega, fun _ => ⟨by omega, by omega, ho, 0, rfl, rfl⟩⟩
    · rw [updI_ne e]; exact ⟨by decide, by decide, fun y => absurd y (by decide)⟩
  · by_cases e : s = a
    · rw [e, updI_eq] at hc; omega
    · rw [updI_ne e] at hc; exact absurd hc (by decide)
theorem BfI.fin {τ : Tw} {g : Int} {T : Int → Int} (h : BfI τ g 49 T) {c : Int} (hc : inS c) : (T c < 999999 ∧ mdF τ g c = T c ∧ mdF τ g c ≠ -1) ∨ (¬ T c < 999999 ∧ mdF τ g c = -1) := by
  obtain ⟨h1, h2, h3⟩ := h
  have cr := cntR_rng (finL T) 49 0
  have fin : ∀ s, inS s → T s < 999999 → T s < 49 := fun s hs z => by have := ((h2 s hs).2.2 z).2.1; omega
  let pv : Int → Int := fun s => if T s < 999999 then T s else 1000000
  have py : ∀ s, T s < 999999 → pv s = T s := fun s z => if_pos z
  have pn : ∀ s, ¬ T s < 999999 → pv s = 1000000 := fun s z => if_neg z
  have lt : ∀ s, pv s < 1000000 → T s < 999999 := fun s z => by
    by_cases y : T s < 999999
    · exact y
    · rw [pn s y] at z; exact absurd z (by decide)
  have m := dst_back (τ := τ) (P := 0) (g := g) (pv := pv) (Or.inl rfl) ((py g (by omega)).trans h1) (fun s hs z => by rw [py s (lt s z)]; exact ((h2 s hs).2.2 (lt s z)).2.2.2) (fun s hs => by
    have b := h2 s hs
    by_cases y : T s < 999999
    · have := fin s hs y; rw [py s y]; exact ⟨by omega, fun _ => by omega⟩
    · rw [pn s y]; exact ⟨by omega, fun z => absurd z (by decide)⟩) (fun s w hso w1 w2 ho z => by
    have y := lt _ z
    have f := fin _ ho.1 y
    have bk := bes_bk hso.1 w1 w2 ho.1.1
    have a := h3 (bes s w) (3 - w) ho.1 f (by omega) (by omega) (by rw [bk]; exact hso)
    rw [bk] at a
    rw [py _ y, py s (by omega), prc0]
    exact a)
  have b := h2 c hc
  by_cases y : T c < 999999
  · have ho := (b.2.2 y).2.2.1
    have k := m.2 c ho
    have e2 : mdF τ g c = dst τ 0 c g := if_pos ho
    rw [py c y] at k
    by_cases e : dst τ 0 c g = -1
    · rw [if_pos e] at k; omega
    · rw [if_neg e] at k; exact Or.inl ⟨y, by omega, by omega⟩
  · refine Or.inr ⟨y, ?_⟩
    unfold mdF
    by_cases ho : opn τ c
    · rw [if_pos ho]
      exact DV.eq (Or.inl ⟨rfl, fun n x w => by have := (m.1 n c x ho w).1; rw [pn c y] at this; exact absurd this (by decide)⟩)
    · rw [if_neg ho]
def mtB (A B : Int → Int) (b f : Int) : Prop := (b = -1 ∧ f = -1) ∨ ∃ k : Nat, b = (k : Int) ∧ k < 49 ∧ f = A k + B k
theorem mtB.get {A B : Int → Int} {b f : Int} (h : mtB A B b f) (hb : b ≠ -1) : ∃ k : Nat, b = (k : Int) ∧ k < 49 ∧ f = A k + B k := Or.resolve_left h (fun z => hb z.1)
theorem mtB.no {A B : Int → Int} {b f : Int} (h : mtB A B b f) (hb : b = -1) : b = f := by
  rcases h with ⟨h1, h2⟩ | ⟨k, h1, -, -⟩
  · omega
  · omega
def RA1 (c : Nat) (T : Int → Int) (σ : Sg) : Prop := ∀ s : Nat, s < 49 → σ.1 c s = T s
theorem dX9_spreads_0 : decode cX9_spreads 0 = .ok (.iconst 0, 1) := by decide +kernel
theorem dX9_spreads_1 : decode cX9_spreads 1 = .ok (.istore_n 3, 1) := by decide +kernel
theorem dX9_spreads_2 : decode cX9_spreads 2 = .ok (.iload_n 3, 1) := by decide +kernel
theorem dX9_spreads_3 : decode cX9_spreads 3 = .ok (.bipush 49, 2) := by decide +kernel
theorem dX9_spreads_5 : decode cX9_spreads 5 = .ok (.if_icmp .ge 14, 3) := by decide +kernel
theorem dX9_spreads_8 : decode cX9_spreads 8 = .ok (.aload_n 2, 1) := by decide +kernel
theorem dX9_spreads_9 : decode cX9_spreads 9 = .ok (.iload_n 3, 1) := by decide +kernel
theorem dX9_spreads_10 : decode cX9_spreads 10 = .ok (.ldc 244, 2) := by decide +kernel
theorem dX9_spreads_12 : decode cX9_spreads 12 = .ok (.iastore, 1) := by decide +kernel
theorem dX9_spreads_13 : decode cX9_spreads 13 = .ok (.iinc 3 1, 3) := by decide +kernel
theorem dX9_spreads_16 : decode cX9_spreads 16 = .ok (.goto (-14), 3) := by decide +kernel
theorem dX9_spreads_19 : decode cX9_spreads 19 = .ok (.aload_n 2, 1) := by decide +kernel
theorem dX9_spreads_20 : decode cX9_spreads 20 = .ok (.iload_n 1, 1) := by decide +kernel
theorem dX9_spreads_21 : decode cX9_spreads 21 = .ok (.iconst 0, 1) := by decide +kernel
theorem dX9_spreads_22 : decode cX9_spreads 22 = .ok (.iastore, 1) := by decide +kernel
theorem dX9_spreads_23 : decode cX9_spreads 23 = .ok (.iconst 0, 1) := by decide +kernel
theorem dX9_spreads_24 : decode cX9_spreads 24 = .ok (.istore_n 3, 1) := by decide +kernel
theorem dX9_spreads_25 : decode cX9_spreads 25 = .ok (.iload_n 3, 1) := by decide +kernel
theorem dX9_spreads_26 : decode cX9_spreads 26 = .ok (.bipush 49, 2) := by decide +kernel
theorem dX9_spreads_28 : decode cX9_spreads 28 = .ok (.if_icmp .ge 82, 3) := by decide +kernel
theorem dX9_spreads_31 : decode cX9_spreads 31 = .ok (.iconst 0, 1) := by decide +kernel
theorem dX9_spreads_32 : decode cX9_spreads 32 = .ok (.istore 4, 2) := by decide +kernel
theorem dX9_spreads_34 : decode cX9_spreads 34 = .ok (.iload 4, 2) := by decide +kernel
theorem dX9_spreads_36 : decode cX9_spreads 36 = .ok (.bipush 49, 2) := by decide +kernel
theorem dX9_spreads_38 : decode cX9_spreads 38 = .ok (.if_icmp .ge 66, 3) := by decide +kernel
theorem dX9_spreads_41 : decode cX9_spreads 41 = .ok (.iconst 0, 1) := by decide +kernel
theorem dX9_spreads_42 : decode cX9_spreads 42 = .ok (.istore 5, 2) := by decide +kernel
theorem dX9_spreads_44 : decode cX9_spreads 44 = .ok (.iload 5, 2) := by decide +kernel
theorem dX9_spreads_46 : decode cX9_spreads 46 = .ok (.iconst 3, 1) := by decide +kernel
theorem dX9_spreads_47 : decode cX9_spreads 47 = .ok (.if_icmp .gt 51, 3) := by decide +kernel
theorem dX9_spreads_50 : decode cX9_spreads 50 = .ok (.aload_n 2, 1) := by decide +kernel
theorem dX9_spreads_51 : decode cX9_spreads 51 = .ok (.iload 4, 2) := by decide +kernel
theorem dX9_spreads_53 : decode cX9_spreads 53 = .ok (.iaload, 1) := by decide +kernel
theorem dX9_spreads_54 : decode cX9_spreads 54 = .ok (.iload_n 3, 1) := by decide +kernel
theorem dX9_spreads_55 : decode cX9_spreads 55 = .ok (.if_icmp .ne 43, 3) := by decide +kernel
theorem dX9_spreads_58 : decode cX9_spreads 58 = .ok (.iload 4, 2) := by decide +kernel
theorem dX9_spreads_60 : decode cX9_spreads 60 = .ok (.iload 5, 2) := by decide +kernel
theorem dX9_spreads_62 : decode cX9_spreads 62 = .ok (.invokestatic 223, 3) := by decide +kernel
theorem dX9_spreads_65 : decode cX9_spreads 65 = .ok (.istore 6, 2) := by decide +kernel
theorem dX9_spreads_67 : decode cX9_spreads 67 = .ok (.aload_n 0, 1) := by decide +kernel
theorem dX9_spreads_68 : decode cX9_spreads 68 = .ok (.iload 6, 2) := by decide +kernel
theorem dX9_spreads_70 : decode cX9_spreads 70 = .ok (.invokevirtual 143, 3) := by decide +kernel
theorem dX9_spreads_73 : decode cX9_spreads 73 = .ok (.ifCond .eq 19, 3) := by decide +kernel
theorem dX9_spreads_76 : decode cX9_spreads 76 = .ok (.aload_n 2, 1) := by decide +kernel
theorem dX9_spreads_77 : decode cX9_spreads 77 = .ok (.iload 6, 2) := by decide +kernel
theorem dX9_spreads_79 : decode cX9_spreads 79 = .ok (.iaload, 1) := by decide +kernel
theorem dX9_spreads_80 : decode cX9_spreads 80 = .ok (.ldc 244, 2) := by decide +kernel
theorem dX9_spreads_82 : decode cX9_spreads 82 = .ok (.if_icmp .ne 10, 3) := by decide +kernel
theorem dX9_spreads_85 : decode cX9_spreads 85 = .ok (.aload_n 2, 1) := by decide +kernel
theorem dX9_spreads_86 : decode cX9_spreads 86 = .ok (.iload 6, 2) := by decide +kernel
theorem dX9_spreads_88 : decode cX9_spreads 88 = .ok (.iload_n 3, 1) := by decide +kernel
theorem dX9_spreads_89 : decode cX9_spreads 89 = .ok (.iconst 1, 1) := by decide +kernel
theorem dX9_spreads_90 : decode cX9_spreads 90 = .ok (.iadd, 1) := by decide +kernel
theorem dX9_spreads_91 : decode cX9_spreads 91 = .ok (.iastore, 1) := by decide +kernel
theorem dX9_spreads_92 : decode cX9_spreads 92 = .ok (.iinc 5 1, 3) := by decide +kernel
theorem dX9_spreads_95 : decode cX9_spreads 95 = .ok (.goto (-51), 3) := by decide +kernel
theorem dX9_spreads_98 : decode cX9_spreads 98 = .ok (.iinc 4 1, 3) := by decide +kernel
theorem dX9_spreads_101 : decode cX9_spreads 101 = .ok (.goto (-67), 3) := by decide +kernel
theorem dX9_spreads_104 : decode cX9_spreads 104 = .ok (.iinc 3 1, 3) := by decide +kernel
theorem dX9_spreads_107 : decode cX9_spreads 107 = .ok (.goto (-82), 3) := by decide +kernel
theorem dX9_spreads_110 : decode cX9_spreads 110 = .ok (.return_, 1) := by decide +kernel
set_option maxRecDepth 20000 in
theorem l1_X9_spreads {G : Gl} {d0 : Nat} {σ0 : Sg} {K : Option Value → Sg → Prop} {Z : Zt} (hZ0 : RelM Z σ0) (hO : OkZ Z) {ce : Nat} (hA : shp ce = .inr (0, 49)) (h72 : 72 ≤ ce) {a : Nat} (ha : a < 49) : ∀ (n i : Nat) (σ : Sg), i + n = 49 → Fr (fun x => x = ce) σ0 σ → (∀ s : Nat, s < i → σ.1 ce s = 999999) → (∀ υ, Fr (fun x => x = ce) σ0 υ → RA1 ce (fun _ => 999999) υ → AW G (d0 + 3) RX9 cX9_spreads 7 none 19 [(0, .ref (gA G 54)), (1, .int (iI (a : Int))), (2, .ref (gA G ce))] [] υ K) → AW G (d0 + 3) RX9 cX9_spreads 7 none 2 [(0, .ref (gA G 54)), (1, .int (iI (a : Int))), (2, .ref (gA G ce)), (3, .int (iI (i : Int)))] [] σ K := by
  intro n
  induction n using Nat.strongRecOn
  rename_i n ih
  intro i σ hn hF hz hK
  refine A_iload_n (pc := 2) dX9_spreads_2 rfl rfl ?_
  refine A_bipush (pc := 3) dX9_spreads_3 (by decide) ?_
  refine A_icmp_ge (pc := 5) 19 dX9_spreads_5 (by decide) (by omega) (by omega) (by omega) (by omega) (fun h5 => ?_) (fun h5 => ?_)
  · skip
    have hn0 : n = 0 := by omega
    subst hn0
    refine A_loc (l2 := [(0, _), (1, _), (2, _)]) ⟨rfl, rfl, rfl, trivial⟩ ?_
    exact hK σ hF (fun s h => hz s (by omega))
  · skip
    refine A_aload_n (pc := 8) dX9_spreads_8 rfl rfl ?_
    refine A_iload_n (pc := 9) dX9_spreads_9 rfl rfl ?_
    refine A_ldc (pc := 10) inX9_244 dX9_spreads_10 ?_
    refine A_iast (pc := 12) i hA rfl (by omega) (Nat.le_of_ble_eq_true rfl) dX9_spreads_12 ?_
    refine A_iinc (pc := 13) dX9_spreads_13 rfl (Nat.le_of_ble_eq_true rfl) ?_
    refine A_goto (pc := 16) 2 dX9_spreads_16 (by decide) ?_
    obtain ⟨u, rfl⟩ : ∃ u, n = u + 1 := ⟨n - 1, by omega⟩
    refine A_loc (l2 := [(0, _), (1, _), (2, _), (3, _)]) ⟨rfl, rfl, rfl, rfl, trivial⟩ ?_
    refine ih u (by omega) (i + 1) _ (by omega) (hF.uI rfl) (fun s h => ?_) hK
    rw [uI_at]
    by_cases e : s = i
    · rw [if_pos ⟨rfl, e⟩]
    · rw [if_neg (fun z => e z.2)]; exact hz s (by omega)
set_option maxRecDepth 20000 in
theorem l3_X9_spreads {G : Gl} {d0 : Nat} {σ0 : Sg} {K : Option Value → Sg → Prop} {Z : Zt} (hZ0 : RelM Z σ0) (hO : OkZ Z) {ce : Nat} (hA : shp ce = .inr (0, 49)) (h72 : 72 ≤ ce) {a : Nat} (ha : a < 49) {d c : Nat} (hd : d < 49) (hc : c < 49) : ∀ (n w : Nat) (T : Int → Int) (σ : Sg), w + n = 4 → Fr (fun x => x = ce) σ0 σ → RA1 ce T σ → BfJ Z.1 (a : Int) (d : Int) (c : Int) (w : Int) T → (∀ (T : Int → Int) (υ : Sg), Fr (fun x => x = ce) σ0 υ → RA1 ce T υ → BfJ Z.1 (a : Int) (d : Int) ((c : Int) + 1) 0 T → AW G (d0 + 3) RX9 cX9_spreads 7 none 98 [(0, .ref (gA G 54)), (1, .int (iI (a : Int))), (2, .ref (gA G ce)), (3, .int (iI (d : Int))), (4, .int (iI (c : Int)))] [] υ K) → AW G (d0 + 3) RX9 cX9_spreads 7 none 44 [(0, .ref (gA G 54)), (1, .int (iI (a : Int))), (2, .ref (gA G ce)), (3, .int (iI (d : Int))), (4, .int (iI (c : Int))), (5, .int (iI (w : Int)))] [] σ K := by
  intro n
  induction n using Nat.strongRecOn
  rename_i n ih
  intro w T σ hn hF hR hI hK
  have hZ := hZ0.fr hF (fun x z => by have z2 : x = ce := z; omega)
  have hRc := hR c hc
  have hIc := hI.2.1 c ⟨by omega, by omega⟩
  refine A_iload (pc := 44) dX9_spreads_44 rfl ?_
  refine A_iconst (pc := 46) dX9_spreads_46 ?_
  refine A_icmp_gt (pc := 47) 98 dX9_spreads_47 (by decide) (by omega) (by omega) (by omega) (by omega) (fun h47 => ?_) (fun h47 => ?_)
  · skip
    have hw4 : (w : Int) = 4 := by omega
    rw [hw4] at hI
    refine A_loc (l2 := [(0, _), (1, _), (2, _), (3, _), (4, _)]) ⟨rfl, rfl, rfl, rfl, rfl, trivial⟩ ?_
    exact hK T σ hF hR hI.over
  · skip
    refine A_aload_n (pc := 50) dX9_spreads_50 rfl rfl ?_
    refine A_iload (pc := 51) dX9_spreads_51 rfl ?_
    refine A_ialdv (pc := 53) c hA rfl hc (Nat.le_of_ble_eq_true rfl) hRc dX9_spreads_53 ?_
    refine A_iload_n (pc := 54) dX9_spreads_54 rfl rfl ?_
    refine A_icmp_ne (pc := 55) 98 dX9_spreads_55 (by decide) (by omega) (by omega) (by omega) (by omega) (fun h55 => ?_) (fun h55 => ?_)
    · skip
      refine A_loc (l2 := [(0, _), (1, _), (2, _), (3, _), (4, _)]) ⟨rfl, rfl, rfl, rfl, rfl, trivial⟩ ?_
      exact hK T σ hF hR (hI.not (by omega))
    · skip
      have hnr := nx_rng (w := (w : Int)) (show 0 ≤ (c : Int) by omega) (show (c : Int) ≤ 48 by omega)
      refine A_iload (pc := 58) dX9_spreads_58 rfl ?_
      refine A_iload (pc := 60) dX9_spreads_60 rfl ?_
      refine A_callS1 (pc := 62) kX9_223 (c_X9_next (by omega) (by omega) (by omega) (by omega)) dX9_spreads_62 rfl rfl (Nat.le_of_ble_eq_true rfl) (Nat.le_of_ble_eq_true rfl) ?_
      refine A_istore (pc := 65) dX9_spreads_65 (Nat.le_of_ble_eq_true rfl) ?_
      refine A_aload_n (pc := 67) dX9_spreads_67 rfl rfl ?_
      refine A_iload (pc := 68) dX9_spreads_68 rfl ?_
      refine A_callV1 (pc := 70) kX9_143 rfl rfl (c_X9_isOpen hZ.1 hO.1 (by omega) (by omega)) dX9_spreads_70 rfl rfl (Nat.le_of_ble_eq_true rfl) (Nat.le_of_ble_eq_true rfl) ?_
      refine A_ifb_eq (pc := 73) 92 dX9_spreads_73 (by decide) (fun h73 => ?_) (fun h73 => ?_)
      · skip
        refine A_iinc (pc := 92) dX9_spreads_92 rfl (Nat.le_of_ble_eq_true rfl) ?_
        refine A_goto (pc := 95) 44 dX9_spreads_95 (by decide) ?_
        obtain ⟨u, rfl⟩ : ∃ u, n = u + 1 := ⟨n - 1, by omega⟩
        refine A_loc (l2 := [(0, _), (1, _), (2, _), (3, _), (4, _), (5, _)]) ⟨rfl, rfl, rfl, rfl, rfl, rfl, trivial⟩ ?_
        exact ih u (by omega) (w + 1) T σ (by omega) hF hR (hI.skip (fun z _ => absurd z (nx_no ⟨by omega, by omega⟩ (by omega) (by omega) h73))) hK
      · skip
        obtain ⟨q, hq⟩ := Int.eq_ofNat_of_zero_le h73.1.1
        have eb := nx_bes (c := (c : Int)) (w := (w : Int)) ⟨by omega, by omega⟩ (by omega) (by omega) h73
        rw [hq] at h73 eb
        rw [hq]
        have q49 : q < 49 := by have := h73.1.2; omega
        have hRq := hR q q49
        have hIq := hI.2.1 q ⟨by omega, by omega⟩
        refine A_aload_n (pc := 76) dX9_spreads_76 rfl rfl ?_
        refine A_iload (pc := 77) dX9_spreads_77 rfl ?_
        refine A_ialdv (pc := 79) q hA rfl q49 (Nat.le_of_ble_eq_true rfl) hRq dX9_spreads_79 ?_
        refine A_ldc (pc := 80) inX9_244 dX9_spreads_80 ?_
        refine A_icmp_ne (pc := 82) 92 dX9_spreads_82 (by decide) (by omega) (by omega) (by omega) (by omega) (fun h82 => ?_) (fun h82 => ?_)
        · skip
          refine A_iinc (pc := 92) dX9_spreads_92 rfl (Nat.le_of_ble_eq_true rfl) ?_
          refine A_goto (pc := 95) 44 dX9_spreads_95 (by decide) ?_
          obtain ⟨u, rfl⟩ : ∃ u, n = u + 1 := ⟨n - 1, by omega⟩
          refine A_loc (l2 := [(0, _), (1, _), (2, _), (3, _), (4, _), (5, _)]) ⟨rfl, rfl, rfl, rfl, rfl, rfl, trivial⟩ ?_
          exact ih u (by omega) (w + 1) T σ (by omega) hF hR (hI.skip (fun _ _ => by rw [← eb]; omega)) hK
        · skip
          refine A_aload_n (pc := 85) dX9_spreads_85 rfl rfl ?_
          refine A_iload (pc := 86) dX9_spreads_86 rfl ?_
          refine A_iload_n (pc := 88) dX9_spreads_88 rfl rfl ?_
          refine A_iconst (pc := 89) dX9_spreads_89 ?_
          refine A_iadd (pc := 90) dX9_spreads_90 ?_
          refine A_iast (pc := 91) q hA rfl q49 (Nat.le_of_ble_eq_true rfl) dX9_spreads_91 ?_
          refine A_iinc (pc := 92) dX9_spreads_92 rfl (Nat.le_of_ble_eq_true rfl) ?_
          refine A_goto (pc := 95) 44 dX9_spreads_95 (by decide) ?_
          obtain ⟨u, rfl⟩ : ∃ u, n = u + 1 := ⟨n - 1, by omega⟩
          refine A_loc (l2 := [(0, _), (1, _), (2, _), (3, _), (4, _), (5, _)]) ⟨rfl, rfl, rfl, rfl, rfl, rfl, trivial⟩ ?_
          have nxt := hI.next (by omega) ⟨by omega, by omega⟩ (by omega) (by omega) (by omega) (by omega) (by rw [← eb]; exact h73) (by rw [← eb]; omega)
          rw [← eb] at nxt
          refine ih u (by omega) (w + 1) _ _ (by omega) (hF.uI rfl) (fun s hs => ?_) nxt hK
          rw [uI_at]
          by_cases e : s = q
          · rw [if_pos ⟨rfl, e⟩, e, updI_eq]
          · rw [if_neg (fun z => e z.2), updI_ne (fun z => e (by omega))]; exact hR s hs
set_option maxRecDepth 20000 in
theorem l4_X9_spreads {G : Gl} {d0 : Nat} {σ0 : Sg} {K : Option Value → Sg → Prop} {Z : Zt} (hZ0 : RelM Z σ0) (hO : OkZ Z) {ce : Nat} (hA : shp ce = .inr (0, 49)) (h72 : 72 ≤ ce) {a : Nat} (ha : a < 49) {d : Nat} (hd : d < 49) : ∀ (n c : Nat) (T : Int → Int) (σ : Sg), c + n = 49 → Fr (fun x => x = ce) σ0 σ → RA1 ce T σ → BfJ Z.1 (a : Int) (d : Int) (c : Int) 0 T → (∀ (T : Int → Int) (υ : Sg), Fr (fun x => x = ce) σ0 υ → RA1 ce T υ → BfI Z.1 (a : Int) ((d : Int) + 1) T → AW G (d0 + 3) RX9 cX9_spreads 7 none 104 [(0, .ref (gA G 54)), (1, .int (iI (a : Int))), (2, .ref (gA G ce)), (3, .int (iI (d : Int)))] [] υ K) → AW G (d0 + 3) RX9 cX9_spreads 7 none 34 [(0, .ref (gA G 54)), (1, .int (iI (a : Int))), (2, .ref (gA G ce)), (3, .int (iI (d : Int))), (4, .int (iI (c : Int)))] [] σ K := by
  intro n
  induction n using Nat.strongRecOn
  rename_i n ih
  intro c T σ hn hF hR hI hK
  refine A_iload (pc := 34) dX9_spreads_34 rfl ?_
  refine A_bipush (pc := 36) dX9_spreads_36 (by decide) ?_
  refine A_icmp_ge (pc := 38) 104 dX9_spreads_38 (by decide) (by omega) (by omega) (by omega) (by omega) (fun h38 => ?_) (fun h38 => ?_)
  · skip
    have hc0 : (c : Int) = 49 := by omega
    rw [hc0] at hI
    refine A_loc (l2 := [(0, _), (1, _), (2, _), (3, _)]) ⟨rfl, rfl, rfl, rfl, trivial⟩ ?_
    exact hK T σ hF hR hI.end
  · skip
    refine A_iconst (pc := 41) dX9_spreads_41 ?_
    refine A_istore (pc := 42) dX9_spreads_42 (Nat.le_of_ble_eq_true rfl) ?_
    obtain ⟨u, rfl⟩ : ∃ u, n = u + 1 := ⟨n - 1, by omega⟩
    refine A_loc (l2 := [(0, _), (1, _), (2, _), (3, _), (4, _), (5, _)]) ⟨rfl, rfl, rfl, rfl, rfl, rfl, trivial⟩ ?_
    refine l3_X9_spreads hZ0 hO hA h72 ha hd (c := c) (by omega) 4 0 T σ rfl hF hR hI (fun T2 υ g1 g2 g3 => ?_)
    refine A_iinc (pc := 98) dX9_spreads_98 rfl (Nat.le_of_ble_eq_true rfl) ?_
    refine A_goto (pc := 101) 34 dX9_spreads_101 (by decide) ?_
    refine A_loc (l2 := [(0, _), (1, _), (2, _), (3, _), (4, _)]) ⟨rfl, rfl, rfl, rfl, rfl, trivial⟩ ?_
    exact ih u (by omega) (c + 1) T2 υ (by omega) g1 g2 g3 hK
set_option maxRecDepth 20000 in
theorem l5_X9_spreads {G : Gl} {d0 : Nat} {σ0 : Sg} {K : Option Value → Sg → Prop} {Z : Zt} (hZ0 : RelM Z σ0) (hO : OkZ Z) {ce : Nat} (hA : shp ce = .inr (0, 49)) (h72 : 72 ≤ ce) {a : Nat} (ha : a < 49) : ∀ (n d : Nat) (T : Int → Int) (σ : Sg), d + n = 49 → Fr (fun x => x = ce) σ0 σ → RA1 ce T σ → BfI Z.1 (a : Int) (d : Int) T → (∀ (T : Int → Int) (υ : Sg), Fr (fun x => x = ce) σ0 υ → RA1 ce T υ → BfI Z.1 (a : Int) 49 T → K none υ) → AW G (d0 + 3) RX9 cX9_spreads 7 none 25 [(0, .ref (gA G 54)), (1, .int (iI (a : Int))), (2, .ref (gA G ce)), (3, .int (iI (d : Int)))] [] σ K := by
  intro n
  induction n using Nat.strongRecOn
  rename_i n ih
  intro d T σ hn hF hR hI hK
  refine A_iload_n (pc := 25) dX9_spreads_25 rfl rfl ?_
  refine A_bipush (pc := 26) dX9_spreads_26 (by decide) ?_
  refine A_icmp_ge (pc := 28) 110 dX9_spreads_28 (by decide) (by omega) (by omega) (by omega) (by omega) (fun h28 => ?_) (fun h28 => ?_)
  · skip
    refine A_vret (pc := 110) rfl dX9_spreads_110 ?_
    have hd0 : (d : Int) = 49 := by omega
    rw [hd0] at hI
    exact hK T σ hF hR hI
  · skip
    refine A_iconst (pc := 31) dX9_spreads_31 ?_
    refine A_istore (pc := 32) dX9_spreads_32 (Nat.le_of_ble_eq_true rfl) ?_
    obtain ⟨u, rfl⟩ : ∃ u, n = u + 1 := ⟨n - 1, by omega⟩
    refine A_loc (l2 := [(0, _), (1, _), (2, _), (3, _), (4, _)]) ⟨rfl, rfl, rfl, rfl, rfl, trivial⟩ ?_
    refine l4_X9_spreads hZ0 hO hA h72 ha (d := d) (by omega) 49 0 T σ rfl hF hR hI.go (fun T2 υ g1 g2 g3 => ?_)
    refine A_iinc (pc := 104) dX9_spreads_104 rfl (Nat.le_of_ble_eq_true rfl) ?_
    refine A_goto (pc := 107) 25 dX9_spreads_107 (by decide) ?_
    refine A_loc (l2 := [(0, _), (1, _), (2, _), (3, _)]) ⟨rfl, rfl, rfl, rfl, trivial⟩ ?_
    exact ih u (by omega) (d + 1) T2 υ (by omega) g1 g2 g3 hK
set_option maxRecDepth 20000 in
theorem l6_X9_spreads {G : Gl} {d0 : Nat} {σ0 : Sg} {K : Option Value → Sg → Prop} {Z : Zt} (hZ0 : RelM Z σ0) (hO : OkZ Z) {ce : Nat} (hA : shp ce = .inr (0, 49)) (h72 : 72 ≤ ce) {a : Nat} (ha : a < 49) (ho : opn Z.1 (a : Int)) (σ : Sg) (hF : Fr (fun x => x = ce) σ0 σ) (hR : RA1 ce (fun _ => 999999) σ) : (∀ (T : Int → Int) (υ : Sg), Fr (fun x => x = ce) σ0 υ → RA1 ce T υ → BfI Z.1 (a : Int) 49 T → K none υ) → AW G (d0 + 3) RX9 cX9_spreads 7 none 19 [(0, .ref (gA G 54)), (1, .int (iI (a : Int))), (2, .ref (gA G ce))] [] σ K := by
  intro hK
  refine A_aload_n (pc := 19) dX9_spreads_19 rfl rfl ?_
  refine A_iload_n (pc := 20) dX9_spreads_20 rfl rfl ?_
  refine A_iconst (pc := 21) dX9_spreads_21 ?_
  refine A_iast (pc := 22) a hA rfl ha (Nat.le_of_ble_eq_true rfl) dX9_spreads_22 ?_
  refine A_iconst (pc := 23) dX9_spreads_23 ?_
  refine A_istore_n (pc := 24) dX9_spreads_24 rfl (Nat.le_of_ble_eq_true rfl) ?_
  refine A_loc (l2 := [(0, _), (1, _), (2, _), (3, _)]) ⟨rfl, rfl, rfl, rfl, trivial⟩ ?_
  refine l5_X9_spreads hZ0 hO hA h72 ha 49 0 _ _ rfl (hF.uI rfl) (fun s hs => ?_) (BfI.start ho) hK
  rw [uI_at]
  by_cases e : s = a
  · rw [if_pos ⟨rfl, e⟩, e, updI_eq]
  · rw [if_neg (fun z => e z.2), updI_ne (fun z => e (by omega))]; exact hR s hs
set_option maxRecDepth 20000 in
theorem c_X9_spreads {G : Gl} {d : Nat} {σ : Sg} {Z : Zt} (hZ : RelM Z σ) (hO : OkZ Z) {ce : Nat} (hA : shp ce = .inr (0, 49)) (h72 : 72 ≤ ce) {a : Nat} (ha : a < 49) (ho : opn Z.1 (a : Int)) : CT G (d + 3) yX9_spreads cX9_spreads 7 none [.ref (gA G 54), .int (iI (a : Int)), .ref (gA G ce)] σ (RE none (fun υ => (∃ T, RA1 ce T υ ∧ BfI Z.1 (a : Int) 49 T) ∧ Fr (fun x => x = ce) σ υ)) := by
  refine CT.of (by decide +kernel) (Nat.le_of_ble_eq_true rfl) ?_
  change AW G _ RX9 _ _ _ 0 [(0, .ref (gA G 54)), (1, .int (iI (a : Int))), (2, .ref (gA G ce))] [] _ _
  refine A_iconst (pc := 0) dX9_spreads_0 ?_
  refine A_istore_n (pc := 1) dX9_spreads_1 rfl (Nat.le_of_ble_eq_true rfl) ?_
  refine A_loc (l2 := [(0, _), (1, _), (2, _), (3, _)]) ⟨rfl, rfl, rfl, rfl, trivial⟩ ?_
  exact l1_X9_spreads hZ hO hA h72 ha 49 0 σ rfl Fr.rf (fun s h => absurd h (Nat.not_lt_zero s)) (fun υ g1 g2 => l6_X9_spreads hZ hO hA h72 ha ho υ g1 g2 (fun T ω k1 k2 k3 => ⟨rfl, ⟨T, k2, k3⟩, k1⟩))
theorem dX8_meet_0 : decode cX8_meet 0 = .ok (.aload_n 0, 1) := by decide +kernel
theorem dX8_meet_1 : decode cX8_meet 1 = .ok (.getfield 10, 3) := by decide +kernel
theorem dX8_meet_4 : decode cX8_meet 4 = .ok (.iload_n 1, 1) := by decide +kernel
theorem dX8_meet_5 : decode cX8_meet 5 = .ok (.invokevirtual 190, 3) := by decide +kernel
theorem dX8_meet_8 : decode cX8_meet 8 = .ok (.ifCond .eq 14, 3) := by decide +kernel
theorem dX8_meet_11 : decode cX8_meet 11 = .ok (.aload_n 0, 1) := by decide +kernel
theorem dX8_meet_12 : decode cX8_meet 12 = .ok (.getfield 10, 3) := by decide +kernel
theorem dX8_meet_15 : decode cX8_meet 15 = .ok (.iload_n 2, 1) := by decide +kernel
theorem dX8_meet_16 : decode cX8_meet 16 = .ok (.invokevirtual 190, 3) := by decide +kernel
theorem dX8_meet_19 : decode cX8_meet 19 = .ok (.ifCond .ne 9, 3) := by decide +kernel
theorem dX8_meet_22 : decode cX8_meet 22 = .ok (.aload_n 0, 1) := by decide +kernel
theorem dX8_meet_23 : decode cX8_meet 23 = .ok (.iconst (-1), 1) := by decide +kernel
theorem dX8_meet_24 : decode cX8_meet 24 = .ok (.invokevirtual 239, 3) := by decide +kernel
theorem dX8_meet_27 : decode cX8_meet 27 = .ok (.ireturn, 1) := by decide +kernel
theorem dX8_meet_28 : decode cX8_meet 28 = .ok (.iload_n 3, 1) := by decide +kernel
theorem dX8_meet_29 : decode cX8_meet 29 = .ok (.ifCond .lt 8, 3) := by decide +kernel
theorem dX8_meet_32 : decode cX8_meet 32 = .ok (.iload_n 3, 1) := by decide +kernel
theorem dX8_meet_33 : decode cX8_meet 33 = .ok (.iconst 1, 1) := by decide +kernel
theorem dX8_meet_34 : decode cX8_meet 34 = .ok (.if_icmp .le 10, 3) := by decide +kernel
theorem dX8_meet_37 : decode cX8_meet 37 = .ok (.aload_n 0, 1) := by decide +kernel
theorem dX8_meet_38 : decode cX8_meet 38 = .ok (.bipush (-5), 2) := by decide +kernel
theorem dX8_meet_40 : decode cX8_meet 40 = .ok (.invokevirtual 239, 3) := by decide +kernel
theorem dX8_meet_43 : decode cX8_meet 43 = .ok (.ireturn, 1) := by decide +kernel
theorem dX8_meet_44 : decode cX8_meet 44 = .ok (.iload_n 1, 1) := by decide +kernel
theorem dX8_meet_45 : decode cX8_meet 45 = .ok (.iload_n 2, 1) := by decide +kernel
theorem dX8_meet_46 : decode cX8_meet 46 = .ok (.if_icmp .ne 10, 3) := by decide +kernel
theorem dX8_meet_49 : decode cX8_meet 49 = .ok (.aload_n 0, 1) := by decide +kernel
theorem dX8_meet_50 : decode cX8_meet 50 = .ok (.bipush (-6), 2) := by decide +kernel
theorem dX8_meet_52 : decode cX8_meet 52 = .ok (.invokevirtual 239, 3) := by decide +kernel
theorem dX8_meet_55 : decode cX8_meet 55 = .ok (.ireturn, 1) := by decide +kernel
theorem dX8_meet_56 : decode cX8_meet 56 = .ok (.aload_n 0, 1) := by decide +kernel
theorem dX8_meet_57 : decode cX8_meet 57 = .ok (.getfield 57, 3) := by decide +kernel
theorem dX8_meet_60 : decode cX8_meet 60 = .ok (.aload_n 0, 1) := by decide +kernel
theorem dX8_meet_61 : decode cX8_meet 61 = .ok (.getfield 10, 3) := by decide +kernel
theorem dX8_meet_64 : decode cX8_meet 64 = .ok (.aload_n 0, 1) := by decide +kernel
theorem dX8_meet_65 : decode cX8_meet 65 = .ok (.getfield 10, 3) := by decide +kernel
theorem dX8_meet_68 : decode cX8_meet 68 = .ok (.iload_n 1, 1) := by decide +kernel
theorem dX8_meet_69 : decode cX8_meet 69 = .ok (.invokevirtual 193, 3) := by decide +kernel
theorem dX8_meet_72 : decode cX8_meet 72 = .ok (.iconst 0, 1) := by decide +kernel
theorem dX8_meet_73 : decode cX8_meet 73 = .ok (.invokevirtual 260, 3) := by decide +kernel
theorem dX8_meet_76 : decode cX8_meet 76 = .ok (.aload_n 0, 1) := by decide +kernel
theorem dX8_meet_77 : decode cX8_meet 77 = .ok (.getfield 61, 3) := by decide +kernel
theorem dX8_meet_80 : decode cX8_meet 80 = .ok (.aload_n 0, 1) := by decide +kernel
theorem dX8_meet_81 : decode cX8_meet 81 = .ok (.getfield 10, 3) := by decide +kernel
theorem dX8_meet_84 : decode cX8_meet 84 = .ok (.aload_n 0, 1) := by decide +kernel
theorem dX8_meet_85 : decode cX8_meet 85 = .ok (.getfield 10, 3) := by decide +kernel
theorem dX8_meet_88 : decode cX8_meet 88 = .ok (.iload_n 2, 1) := by decide +kernel
theorem dX8_meet_89 : decode cX8_meet 89 = .ok (.invokevirtual 193, 3) := by decide +kernel
theorem dX8_meet_92 : decode cX8_meet 92 = .ok (.iconst 0, 1) := by decide +kernel
theorem dX8_meet_93 : decode cX8_meet 93 = .ok (.invokevirtual 260, 3) := by decide +kernel
theorem dX8_meet_96 : decode cX8_meet 96 = .ok (.iconst (-1), 1) := by decide +kernel
theorem dX8_meet_97 : decode cX8_meet 97 = .ok (.istore 4, 2) := by decide +kernel
theorem dX8_meet_99 : decode cX8_meet 99 = .ok (.iconst (-1), 1) := by decide +kernel
theorem dX8_meet_100 : decode cX8_meet 100 = .ok (.istore 5, 2) := by decide +kernel
theorem dX8_meet_102 : decode cX8_meet 102 = .ok (.iconst 0, 1) := by decide +kernel
theorem dX8_meet_103 : decode cX8_meet 103 = .ok (.istore 6, 2) := by decide +kernel
theorem dX8_meet_105 : decode cX8_meet 105 = .ok (.iload 6, 2) := by decide +kernel
theorem dX8_meet_107 : decode cX8_meet 107 = .ok (.bipush 49, 2) := by decide +kernel
theorem dX8_meet_109 : decode cX8_meet 109 = .ok (.if_icmp .ge 75, 3) := by decide +kernel
theorem dX8_meet_112 : decode cX8_meet 112 = .ok (.aload_n 0, 1) := by decide +kernel
theorem dX8_meet_113 : decode cX8_meet 113 = .ok (.getfield 57, 3) := by decide +kernel
theorem dX8_meet_116 : decode cX8_meet 116 = .ok (.iload 6, 2) := by decide +kernel
theorem dX8_meet_118 : decode cX8_meet 118 = .ok (.invokevirtual 264, 3) := by decide +kernel
theorem dX8_meet_121 : decode cX8_meet 121 = .ok (.ifCond .eq 57, 3) := by decide +kernel
theorem dX8_meet_124 : decode cX8_meet 124 = .ok (.aload_n 0, 1) := by decide +kernel
theorem dX8_meet_125 : decode cX8_meet 125 = .ok (.getfield 61, 3) := by decide +kernel
theorem dX8_meet_128 : decode cX8_meet 128 = .ok (.iload 6, 2) := by decide +kernel
theorem dX8_meet_130 : decode cX8_meet 130 = .ok (.invokevirtual 264, 3) := by decide +kernel
theorem dX8_meet_133 : decode cX8_meet 133 = .ok (.ifCond .eq 45, 3) := by decide +kernel
theorem dX8_meet_136 : decode cX8_meet 136 = .ok (.aload_n 0, 1) := by decide +kernel
theorem dX8_meet_137 : decode cX8_meet 137 = .ok (.getfield 57, 3) := by decide +kernel
theorem dX8_meet_140 : decode cX8_meet 140 = .ok (.iload 6, 2) := by decide +kernel
theorem dX8_meet_142 : decode cX8_meet 142 = .ok (.invokevirtual 267, 3) := by decide +kernel
theorem dX8_meet_145 : decode cX8_meet 145 = .ok (.aload_n 0, 1) := by decide +kernel
theorem dX8_meet_146 : decode cX8_meet 146 = .ok (.getfield 61, 3) := by decide +kernel
theorem dX8_meet_149 : decode cX8_meet 149 = .ok (.iload 6, 2) := by decide +kernel
theorem dX8_meet_151 : decode cX8_meet 151 = .ok (.invokevirtual 267, 3) := by decide +kernel
theorem dX8_meet_154 : decode cX8_meet 154 = .ok (.iadd, 1) := by decide +kernel
theorem dX8_meet_155 : decode cX8_meet 155 = .ok (.istore 7, 2) := by decide +kernel
theorem dX8_meet_157 : decode cX8_meet 157 = .ok (.iload 4, 2) := by decide +kernel
theorem dX8_meet_159 : decode cX8_meet 159 = .ok (.iconst (-1), 1) := by decide +kernel
theorem dX8_meet_160 : decode cX8_meet 160 = .ok (.if_icmp .eq 10, 3) := by decide +kernel
theorem dX8_meet_163 : decode cX8_meet 163 = .ok (.iload 7, 2) := by decide +kernel
theorem dX8_meet_165 : decode cX8_meet 165 = .ok (.iload 5, 2) := by decide +kernel
theorem dX8_meet_167 : decode cX8_meet 167 = .ok (.if_icmp .ge 11, 3) := by decide +kernel
theorem dX8_meet_170 : decode cX8_meet 170 = .ok (.iload 6, 2) := by decide +kernel
theorem dX8_meet_172 : decode cX8_meet 172 = .ok (.istore 4, 2) := by decide +kernel
theorem dX8_meet_174 : decode cX8_meet 174 = .ok (.iload 7, 2) := by decide +kernel
theorem dX8_meet_176 : decode cX8_meet 176 = .ok (.istore 5, 2) := by decide +kernel
theorem dX8_meet_178 : decode cX8_meet 178 = .ok (.iinc 6 1, 3) := by decide +kernel
theorem dX8_meet_181 : decode cX8_meet 181 = .ok (.goto (-76), 3) := by decide +kernel
theorem dX8_meet_184 : decode cX8_meet 184 = .ok (.iload_n 3, 1) := by decide +kernel
theorem dX8_meet_185 : decode cX8_meet 185 = .ok (.ifCond .ne 8, 3) := by decide +kernel
theorem dX8_meet_188 : decode cX8_meet 188 = .ok (.iload 5, 2) := by decide +kernel
theorem dX8_meet_190 : decode cX8_meet 190 = .ok (.goto 5, 3) := by decide +kernel
theorem dX8_meet_193 : decode cX8_meet 193 = .ok (.iload 4, 2) := by decide +kernel
theorem dX8_meet_195 : decode cX8_meet 195 = .ok (.ireturn, 1) := by decide +kernel
set_option maxRecDepth 20000 in
theorem l_X8_meet {G : Gl} {d : Nat} {σ : Sg} {K : Option Value → Sg → Prop} {Z : Zt} {A B : Int → Int} {g h : Int} (hA : MsO Z.1 0 g A) (hB : MsO Z.1 0 h B) (rA : RWp 8 A σ) (rB : RWp 10 B σ) {w : Int} (w1 : 0 ≤ w) (w2 : w ≤ 1) : ∀ (n i : Nat) (b f : Int), i + n = 49 → -1 ≤ b → b < 49 → -1 ≤ f → f ≤ 2000000 → K (some (.int (iI (if w = 0 then (houG (mtF (mdF Z.1 g) (mdF Z.1 h)) (mtG (mdF Z.1 g) (mdF Z.1 h)) n i b f).2 else (houG (mtF (mdF Z.1 g) (mdF Z.1 h)) (mtG (mdF Z.1 g) (mdF Z.1 h)) n i b f).1)))) σ → AW G (d + 3) RX8 cX8_meet 8 (some .int) 105 [(0, .ref (gA G 0)), (3, .int (iI w)), (4, .int (iI b)), (5, .int (iI f)), (6, .int (iI (i : Int)))] [] σ K := by
  intro n
  induction n using Nat.strongRecOn
  rename_i n ih
  intro i b f hn b1 b2 f1 f2 hK
  have mA := fun z => hA.md (c := (i : Int)) z
  have mB := fun z => hB.md (c := (i : Int)) z
  have qA := fun z => hA.1 (i : Int) z
  have qB := fun z => hB.1 (i : Int) z
  refine A_iload (pc := 105) dX8_meet_105 rfl ?_
  refine A_bipush (pc := 107) dX8_meet_107 (by decide) ?_
  refine A_icmp_ge (pc := 109) 184 dX8_meet_109 (by decide) (by omega) (by omega) (by omega) (by omega) (fun h109 => ?_) (fun h109 => ?_)
  · skip
    refine A_iload_n (pc := 184) dX8_meet_184 rfl rfl ?_
    refine A_if_ne (pc := 185) 193 dX8_meet_185 (by decide) (by omega) (by omega) (fun h185 => ?_) (fun h185 => ?_)
    · skip
      refine A_iload (pc := 193) dX8_meet_193 rfl ?_
      refine A_iret (pc := 195) rfl dX8_meet_195 ?_
      have hn0 : n = 0 := by omega
      subst hn0
      rw [if_neg (by omega)] at hK
      exact hK
    · skip
      refine A_iload (pc := 188) dX8_meet_188 rfl ?_
      refine A_goto (pc := 190) 195 dX8_meet_190 (by decide) ?_
      refine A_iret (pc := 195) rfl dX8_meet_195 ?_
      have hn0 : n = 0 := by omega
      subst hn0
      rw [if_pos (by omega)] at hK
      exact hK
  · skip
    have hi : inS (i : Int) := ⟨by omega, by omega⟩
    have mA := mA hi
    have mB := mB hi
    have qA := qA hi
    have qB := qB hi
    have eA := priF_in (pv := A) hi
    have eB := priF_in (pv := B) hi
    refine A_aload_n (pc := 112) dX8_meet_112 rfl rfl ?_
    refine A_getR (pc := 113) fX8_57 rfl rfl dX8_meet_113 ?_
    refine A_iload (pc := 116) dX8_meet_116 rfl ?_
    refine A_callV1 (pc := 118) kX8_264 rfl rfl (c_X7_leadsFrom WC8 rA hA.1 (by omega) (by omega)) dX8_meet_118 rfl rfl (Nat.le_of_ble_eq_true rfl) (Nat.le_of_ble_eq_true rfl) ?_
    refine A_ifb_eq (pc := 121) 178 dX8_meet_121 (by decide) (fun h121 => ?_) (fun h121 => ?_)
    · skip
      refine A_iinc (pc := 178) dX8_meet_178 rfl (Nat.le_of_ble_eq_true rfl) ?_
      refine A_goto (pc := 181) 105 dX8_meet_181 (by decide) ?_
      obtain ⟨u, rfl⟩ : ∃ u, n = u + 1 := ⟨n - 1, by omega⟩
      refine A_loc (l2 := [(0, _), (3, _), (4, _), (5, _), (6, _)]) ⟨rfl, rfl, rfl, rfl, rfl, trivial⟩ ?_
      have hf : mtF (mdF Z.1 g) (mdF Z.1 h) i = false := decide_eq_false (fun z => by omega)
      refine ih u (by omega) (i + 1) b f (by omega) b1 b2 f1 f2 ?_
      rw [houG_f hf] at hK
      exact hK
    · skip
      refine A_aload_n (pc := 124) dX8_meet_124 rfl rfl ?_
      refine A_getR (pc := 125) fX8_61 rfl rfl dX8_meet_125 ?_
      refine A_iload (pc := 128) dX8_meet_128 rfl ?_
      refine A_callV1 (pc := 130) kX8_264 rfl rfl (c_X7_leadsFrom WC10 rB hB.1 (by omega) (by omega)) dX8_meet_130 rfl rfl (Nat.le_of_ble_eq_true rfl) (Nat.le_of_ble_eq_true rfl) ?_
      refine A_ifb_eq (pc := 133) 178 dX8_meet_133 (by decide) (fun h133 => ?_) (fun h133 => ?_)
      · skip
        refine A_iinc (pc := 178) dX8_meet_178 rfl (Nat.le_of_ble_eq_true rfl) ?_
        refine A_goto (pc := 181) 105 dX8_meet_181 (by decide) ?_
        obtain ⟨u, rfl⟩ : ∃ u, n = u + 1 := ⟨n - 1, by omega⟩
        refine A_loc (l2 := [(0, _), (3, _), (4, _), (5, _), (6, _)]) ⟨rfl, rfl, rfl, rfl, rfl, trivial⟩ ?_
        have hf : mtF (mdF Z.1 g) (mdF Z.1 h) i = false := decide_eq_false (fun z => by omega)
        refine ih u (by omega) (i + 1) b f (by omega) b1 b2 f1 f2 ?_
        rw [houG_f hf] at hK
        exact hK
      · skip
        refine A_aload_n (pc := 136) dX8_meet_136 rfl rfl ?_
        refine A_getR (pc := 137) fX8_57 rfl rfl dX8_meet_137 ?_
        refine A_iload (pc := 140) dX8_meet_140 rfl ?_
        refine A_callV1 (pc := 142) kX8_267 rfl rfl (c_X7_priceFrom WC8 rA hA.1 (by omega) (by omega)) dX8_meet_142 rfl rfl (Nat.le_of_ble_eq_true rfl) (Nat.le_of_ble_eq_true rfl) ?_
        rw [eA]
        refine A_aload_n (pc := 145) dX8_meet_145 rfl rfl ?_
        refine A_getR (pc := 146) fX8_61 rfl rfl dX8_meet_146 ?_
        refine A_iload (pc := 149) dX8_meet_149 rfl ?_
        refine A_callV1 (pc := 151) kX8_267 rfl rfl (c_X7_priceFrom WC10 rB hB.1 (by omega) (by omega)) dX8_meet_151 rfl rfl (Nat.le_of_ble_eq_true rfl) (Nat.le_of_ble_eq_true rfl) ?_
        rw [eB]
        refine A_iadd (pc := 154) dX8_meet_154 ?_
        refine A_istore (pc := 155) dX8_meet_155 (Nat.le_of_ble_eq_true rfl) ?_
        refine A_iload (pc := 157) dX8_meet_157 rfl ?_
        refine A_iconst (pc := 159) dX8_meet_159 ?_
        refine A_icmp_eq (pc := 160) 170 dX8_meet_160 (by decide) (by omega) (by omega) (by omega) (by omega) (fun h160 => ?_) (fun h160 => ?_)
        · skip
          refine A_iload (pc := 170) dX8_meet_170 rfl ?_
          refine A_istore (pc := 172) dX8_meet_172 (Nat.le_of_ble_eq_true rfl) ?_
          refine A_iload (pc := 174) dX8_meet_174 rfl ?_
          refine A_istore (pc := 176) dX8_meet_176 (Nat.le_of_ble_eq_true rfl) ?_
          refine A_iinc (pc := 178) dX8_meet_178 rfl (Nat.le_of_ble_eq_true rfl) ?_
          refine A_goto (pc := 181) 105 dX8_meet_181 (by decide) ?_
          obtain ⟨u, rfl⟩ : ∃ u, n = u + 1 := ⟨n - 1, by omega⟩
          refine A_loc (l2 := [(0, _), (3, _), (4, _), (5, _), (6, _)]) ⟨rfl, rfl, rfl, rfl, rfl, trivial⟩ ?_
          have hf : mtF (mdF Z.1 g) (mdF Z.1 h) i = true := decide_eq_true ⟨by omega, by omega⟩
          have eg : mtG (mdF Z.1 g) (mdF Z.1 h) i = A i + B i := by show mdF Z.1 g i + mdF Z.1 h i = _; omega
          refine ih u (by omega) (i + 1) (i : Int) (A i + B i) (by omega) (by omega) (by omega) (by omega) (by omega) ?_
          rw [houG_y hf (by omega), eg] at hK
          exact hK
        · skip
          refine A_iload (pc := 163) dX8_meet_163 rfl ?_
          refine A_iload (pc := 165) dX8_meet_165 rfl ?_
          refine A_icmp_ge (pc := 167) 178 dX8_meet_167 (by decide) (by omega) (by omega) (by omega) (by omega) (fun h167 => ?_) (fun h167 => ?_)
          · skip
            refine A_iinc (pc := 178) dX8_meet_178 rfl (Nat.le_of_ble_eq_true rfl) ?_
            refine A_goto (pc := 181) 105 dX8_meet_181 (by decide) ?_
            obtain ⟨u, rfl⟩ : ∃ u, n = u + 1 := ⟨n - 1, by omega⟩
            refine A_loc (l2 := [(0, _), (3, _), (4, _), (5, _), (6, _)]) ⟨rfl, rfl, rfl, rfl, rfl, trivial⟩ ?_
            have eg : mtG (mdF Z.1 g) (mdF Z.1 h) i = A i + B i := by show mdF Z.1 g i + mdF Z.1 h i = _; omega
            refine ih u (by omega) (i + 1) b f (by omega) b1 b2 f1 f2 ?_
            rw [houG_n (by omega)] at hK
            exact hK
          · skip
            refine A_iload (pc := 170) dX8_meet_170 rfl ?_
            refine A_istore (pc := 172) dX8_meet_172 (Nat.le_of_ble_eq_true rfl) ?_
            refine A_iload (pc := 174) dX8_meet_174 rfl ?_
            refine A_istore (pc := 176) dX8_meet_176 (Nat.le_of_ble_eq_true rfl) ?_
            refine A_iinc (pc := 178) dX8_meet_178 rfl (Nat.le_of_ble_eq_true rfl) ?_
            refine A_goto (pc := 181) 105 dX8_meet_181 (by decide) ?_
            obtain ⟨u, rfl⟩ : ∃ u, n = u + 1 := ⟨n - 1, by omega⟩
            refine A_loc (l2 := [(0, _), (3, _), (4, _), (5, _), (6, _)]) ⟨rfl, rfl, rfl, rfl, rfl, trivial⟩ ?_
            have hf : mtF (mdF Z.1 g) (mdF Z.1 h) i = true := decide_eq_true ⟨by omega, by omega⟩
            have eg : mtG (mdF Z.1 g) (mdF Z.1 h) i = A i + B i := by show mdF Z.1 g i + mdF Z.1 h i = _; omega
            refine ih u (by omega) (i + 1) (i : Int) (A i + B i) (by omega) (by omega) (by omega) (by omega) (by omega) ?_
            rw [houG_y hf (by omega), eg] at hK
            exact hK
set_option maxRecDepth 20000 in
theorem c_X8_meet {G : Gl} {d : Nat} {σ : Sg} {Z : Zt} (hZ : RelX Z σ) (hO : OkZ Z) (hw : OkW Z.1) {p : Int} (hp1 : -2147483648 ≤ p) (hp2 : p < 2147483648) {q : Int} (hq1 : -2147483648 ≤ q) (hq2 : q < 2147483648) {w : Int} (hw1 : -2147483648 ≤ w) (hw2 : w < 2147483648) : CT G (d + 6) yX8_meet cX8_meet 8 (some .int) [.ref (gA G 0), .int (iI p), .int (iI q), .int (iI w)] σ (RE (some (.int (iI (qMeet Z p q w).1))) (fun υ => RelX (qMeet Z p q w).2 υ ∧ Fr XC σ υ)) := by
  refine CT.of (by decide +kernel) (Nat.le_of_ble_eq_true rfl) ?_
  change AW G _ RX8 _ _ _ 0 [(0, .ref (gA G 0)), (1, .int (iI p)), (2, .int (iI q)), (3, .int (iI w))] [] _ _
  refine A_aload_n (pc := 0) dX8_meet_0 rfl rfl ?_
  refine A_getR (pc := 1) fX8_10 rfl rfl dX8_meet_1 ?_
  refine A_iload_n (pc := 4) dX8_meet_4 rfl rfl ?_
  refine A_callV1 (pc := 5) kX8_190 rfl rfl (c_X5_isWalker TC14 hZ.1 hO.1 hp1 hp2) dX8_meet_5 rfl rfl (Nat.le_of_ble_eq_true rfl) (Nat.le_of_ble_eq_true rfl) ?_
  refine A_ifb_eq (pc := 8) 22 dX8_meet_8 (by decide) (fun h8 => ?_) (fun h8 => ?_)
  · skip
    refine A_aload_n (pc := 22) dX8_meet_22 rfl rfl ?_
    refine A_iconst (pc := 23) dX8_meet_23 ?_
    refine A_callVe (pc := 24) kX8_239 rfl rfl (c_X8_refuseApart hZ hO (t := -1) (by omega) (by omega)) dX8_meet_24 rfl rfl (Nat.le_of_ble_eq_true rfl) (Nat.le_of_ble_eq_true rfl) (fun υ hυ => ?_)
    refine A_iret (pc := 27) rfl dX8_meet_27 ?_
    exact RQX (by unfold qMeet; rw [if_pos (by omega)]; rfl) hυ.1 (hυ.2.mono XC2)
  · skip
    refine A_aload_n (pc := 11) dX8_meet_11 rfl rfl ?_
    refine A_getR (pc := 12) fX8_10 rfl rfl dX8_meet_12 ?_
    refine A_iload_n (pc := 15) dX8_meet_15 rfl rfl ?_
    refine A_callV1 (pc := 16) kX8_190 rfl rfl (c_X5_isWalker TC14 hZ.1 hO.1 hq1 hq2) dX8_meet_16 rfl rfl (Nat.le_of_ble_eq_true rfl) (Nat.le_of_ble_eq_true rfl) ?_
    refine A_ifb_ne (pc := 19) 28 dX8_meet_19 (by decide) (fun h19 => ?_) (fun h19 => ?_)
    · skip
      refine A_iload_n (pc := 28) dX8_meet_28 rfl rfl ?_
      refine A_if_lt (pc := 29) 37 dX8_meet_29 (by decide) (by omega) (by omega) (fun h29 => ?_) (fun h29 => ?_)
      · skip
        refine A_aload_n (pc := 37) dX8_meet_37 rfl rfl ?_
        refine A_bipush (pc := 38) dX8_meet_38 (by decide) ?_
        refine A_callVe (pc := 40) kX8_239 rfl rfl (c_X8_refuseApart hZ hO (t := -5) (by omega) (by omega)) dX8_meet_40 rfl rfl (Nat.le_of_ble_eq_true rfl) (Nat.le_of_ble_eq_true rfl) (fun υ hυ => ?_)
        refine A_iret (pc := 43) rfl dX8_meet_43 ?_
        exact RQX (by unfold qMeet; rw [if_neg (by omega), if_pos (by omega)]; rfl) hυ.1 (hυ.2.mono XC2)
      · skip
        refine A_iload_n (pc := 32) dX8_meet_32 rfl rfl ?_
        refine A_iconst (pc := 33) dX8_meet_33 ?_
        refine A_icmp_le (pc := 34) 44 dX8_meet_34 (by decide) (by omega) (by omega) (by omega) (by omega) (fun h34 => ?_) (fun h34 => ?_)
        · skip
          refine A_iload_n (pc := 44) dX8_meet_44 rfl rfl ?_
          refine A_iload_n (pc := 45) dX8_meet_45 rfl rfl ?_
          refine A_icmp_ne (pc := 46) 56 dX8_meet_46 (by decide) (by omega) (by omega) (by omega) (by omega) (fun h46 => ?_) (fun h46 => ?_)
          · skip
            obtain ⟨k, rfl⟩ := Int.eq_ofNat_of_zero_le (show 0 ≤ p by omega)
            obtain ⟨j, rfl⟩ := Int.eq_ofNat_of_zero_le (show 0 ≤ q by omega)
            refine A_aload_n (pc := 56) dX8_meet_56 rfl rfl ?_
            refine A_getR (pc := 57) fX8_57 rfl rfl dX8_meet_57 ?_
            refine A_aload_n (pc := 60) dX8_meet_60 rfl rfl ?_
            refine A_getR (pc := 61) fX8_10 rfl rfl dX8_meet_61 ?_
            refine A_aload_n (pc := 64) dX8_meet_64 rfl rfl ?_
            refine A_getR (pc := 65) fX8_10 rfl rfl dX8_meet_65 ?_
            refine A_iload_n (pc := 68) dX8_meet_68 rfl rfl ?_
            refine A_callV1 (pc := 69) kX8_193 rfl rfl (c_X5_whereIs TC14 hZ.1 hO.1 (p := k) (by omega)) dX8_meet_69 rfl rfl (Nat.le_of_ble_eq_true rfl) (Nat.le_of_ble_eq_true rfl) ?_
            rw [if_pos (by omega)]
            refine A_iconst (pc := 72) dX8_meet_72 ?_
            refine A_callVe0 (pc := 73) kX8_260 rfl rfl (c_X7_measure WC8 TC14 hZ.1 hO.1 (Or.inl rfl) (hw k (by omega))) dX8_meet_73 rfl rfl (Nat.le_of_ble_eq_true rfl) (Nat.le_of_ble_eq_true rfl) (fun υ hυ => ?_)
            obtain ⟨⟨A, hA, rA⟩, hF⟩ := hυ
            have hZ2 := hZ.fr hF (SW.x WC8)
            refine A_aload_n (pc := 76) dX8_meet_76 rfl rfl ?_
            refine A_getR (pc := 77) fX8_61 rfl rfl dX8_meet_77 ?_
            refine A_aload_n (pc := 80) dX8_meet_80 rfl rfl ?_
            refine A_getR (pc := 81) fX8_10 rfl rfl dX8_meet_81 ?_
            refine A_aload_n (pc := 84) dX8_meet_84 rfl rfl ?_
            refine A_getR (pc := 85) fX8_10 rfl rfl dX8_meet_85 ?_
            refine A_iload_n (pc := 88) dX8_meet_88 rfl rfl ?_
            refine A_callV1 (pc := 89) kX8_193 rfl rfl (c_X5_whereIs TC14 hZ2.1 hO.1 (p := j) (by omega)) dX8_meet_89 rfl rfl (Nat.le_of_ble_eq_true rfl) (Nat.le_of_ble_eq_true rfl) ?_
            rw [if_pos (by omega)]
            refine A_iconst (pc := 92) dX8_meet_92 ?_
            refine A_callVe0 (pc := 93) kX8_260 rfl rfl (c_X7_measure WC10 TC14 hZ2.1 hO.1 (Or.inl rfl) (hw j (by omega))) dX8_meet_93 rfl rfl (Nat.le_of_ble_eq_true rfl) (Nat.le_of_ble_eq_true rfl) (fun ω hω => ?_)
            obtain ⟨⟨B, hB, rB⟩, hF2⟩ := hω
            have hZ3 := hZ2.fr hF2 (SW.x WC10)
            have rA2 := rA.fr hF2 (fun z => by unfold SW at z; omega)
            have hFa := (hF.mono (SW.xc WC8)).tr (hF2.mono (SW.xc WC10))
            refine A_iconst (pc := 96) dX8_meet_96 ?_
            refine A_istore (pc := 97) dX8_meet_97 (Nat.le_of_ble_eq_true rfl) ?_
            refine A_iconst (pc := 99) dX8_meet_99 ?_
            refine A_istore (pc := 100) dX8_meet_100 (Nat.le_of_ble_eq_true rfl) ?_
            refine A_iconst (pc := 102) dX8_meet_102 ?_
            refine A_istore (pc := 103) dX8_meet_103 (Nat.le_of_ble_eq_true rfl) ?_
            refine A_loc (l2 := [(0, _), (3, _), (4, _), (5, _), (6, _)]) ⟨rfl, rfl, rfl, rfl, rfl, trivial⟩ ?_
            refine l_X8_meet hA hB rA2 rB (by omega) (by omega) 49 0 (-1) (-1) (by omega) (by omega) (by omega) (by omega) (by omega) ?_
            exact RQX (by unfold qMeet; simp only [Int.toNat_natCast]; rw [if_neg (by omega), if_neg (by omega), if_neg (by omega)]; rfl) hZ3 hFa
          · skip
            refine A_aload_n (pc := 49) dX8_meet_49 rfl rfl ?_
            refine A_bipush (pc := 50) dX8_meet_50 (by decide) ?_
            refine A_callVe (pc := 52) kX8_239 rfl rfl (c_X8_refuseApart hZ hO (t := -6) (by omega) (by omega)) dX8_meet_52 rfl rfl (Nat.le_of_ble_eq_true rfl) (Nat.le_of_ble_eq_true rfl) (fun υ hυ => ?_)
            refine A_iret (pc := 55) rfl dX8_meet_55 ?_
            exact RQX (by unfold qMeet; rw [if_neg (by omega), if_neg (by omega), if_pos (by omega)]; rfl) hυ.1 (hυ.2.mono XC2)
        · skip
          refine A_aload_n (pc := 37) dX8_meet_37 rfl rfl ?_
          refine A_bipush (pc := 38) dX8_meet_38 (by decide) ?_
          refine A_callVe (pc := 40) kX8_239 rfl rfl (c_X8_refuseApart hZ hO (t := -5) (by omega) (by omega)) dX8_meet_40 rfl rfl (Nat.le_of_ble_eq_true rfl) (Nat.le_of_ble_eq_true rfl) (fun υ hυ => ?_)
          refine A_iret (pc := 43) rfl dX8_meet_43 ?_
          exact RQX (by unfold qMeet; rw [if_neg (by omega), if_pos (by omega)]; rfl) hυ.1 (hυ.2.mono XC2)
    · skip
      refine A_aload_n (pc := 22) dX8_meet_22 rfl rfl ?_
      refine A_iconst (pc := 23) dX8_meet_23 ?_
      refine A_callVe (pc := 24) kX8_239 rfl rfl (c_X8_refuseApart hZ hO (t := -1) (by omega) (by omega)) dX8_meet_24 rfl rfl (Nat.le_of_ble_eq_true rfl) (Nat.le_of_ble_eq_true rfl) (fun υ hυ => ?_)
      refine A_iret (pc := 27) rfl dX8_meet_27 ?_
      exact RQX (by unfold qMeet; rw [if_pos (by omega)]; rfl) hυ.1 (hυ.2.mono XC2)
theorem dX9_meet_0 : decode cX9_meet 0 = .ok (.aload_n 0, 1) := by decide +kernel
theorem dX9_meet_1 : decode cX9_meet 1 = .ok (.iload_n 1, 1) := by decide +kernel
theorem dX9_meet_2 : decode cX9_meet 2 = .ok (.invokevirtual 150, 3) := by decide +kernel
theorem dX9_meet_5 : decode cX9_meet 5 = .ok (.ifCond .eq 11, 3) := by decide +kernel
theorem dX9_meet_8 : decode cX9_meet 8 = .ok (.aload_n 0, 1) := by decide +kernel
theorem dX9_meet_9 : decode cX9_meet 9 = .ok (.iload_n 2, 1) := by decide +kernel
theorem dX9_meet_10 : decode cX9_meet 10 = .ok (.invokevirtual 150, 3) := by decide +kernel
theorem dX9_meet_13 : decode cX9_meet 13 = .ok (.ifCond .ne 9, 3) := by decide +kernel
theorem dX9_meet_16 : decode cX9_meet 16 = .ok (.aload_n 0, 1) := by decide +kernel
theorem dX9_meet_17 : decode cX9_meet 17 = .ok (.iconst (-1), 1) := by decide +kernel
theorem dX9_meet_18 : decode cX9_meet 18 = .ok (.invokevirtual 237, 3) := by decide +kernel
theorem dX9_meet_21 : decode cX9_meet 21 = .ok (.ireturn, 1) := by decide +kernel
theorem dX9_meet_22 : decode cX9_meet 22 = .ok (.iload_n 3, 1) := by decide +kernel
theorem dX9_meet_23 : decode cX9_meet 23 = .ok (.iconst 0, 1) := by decide +kernel
theorem dX9_meet_24 : decode cX9_meet 24 = .ok (.iconst 1, 1) := by decide +kernel
theorem dX9_meet_25 : decode cX9_meet 25 = .ok (.invokestatic 86, 3) := by decide +kernel
theorem dX9_meet_28 : decode cX9_meet 28 = .ok (.ifCond .ne 10, 3) := by decide +kernel
theorem dX9_meet_31 : decode cX9_meet 31 = .ok (.aload_n 0, 1) := by decide +kernel
theorem dX9_meet_32 : decode cX9_meet 32 = .ok (.bipush (-5), 2) := by decide +kernel
theorem dX9_meet_34 : decode cX9_meet 34 = .ok (.invokevirtual 237, 3) := by decide +kernel
theorem dX9_meet_37 : decode cX9_meet 37 = .ok (.ireturn, 1) := by decide +kernel
theorem dX9_meet_38 : decode cX9_meet 38 = .ok (.iload_n 1, 1) := by decide +kernel
theorem dX9_meet_39 : decode cX9_meet 39 = .ok (.iload_n 2, 1) := by decide +kernel
theorem dX9_meet_40 : decode cX9_meet 40 = .ok (.if_icmp .ne 10, 3) := by decide +kernel
theorem dX9_meet_43 : decode cX9_meet 43 = .ok (.aload_n 0, 1) := by decide +kernel
theorem dX9_meet_44 : decode cX9_meet 44 = .ok (.bipush (-6), 2) := by decide +kernel
theorem dX9_meet_46 : decode cX9_meet 46 = .ok (.invokevirtual 237, 3) := by decide +kernel
theorem dX9_meet_49 : decode cX9_meet 49 = .ok (.ireturn, 1) := by decide +kernel
theorem dX9_meet_50 : decode cX9_meet 50 = .ok (.aload_n 0, 1) := by decide +kernel
theorem dX9_meet_51 : decode cX9_meet 51 = .ok (.aload_n 0, 1) := by decide +kernel
theorem dX9_meet_52 : decode cX9_meet 52 = .ok (.getfield 22, 3) := by decide +kernel
theorem dX9_meet_55 : decode cX9_meet 55 = .ok (.iload_n 1, 1) := by decide +kernel
theorem dX9_meet_56 : decode cX9_meet 56 = .ok (.iaload, 1) := by decide +kernel
theorem dX9_meet_57 : decode cX9_meet 57 = .ok (.aload_n 0, 1) := by decide +kernel
theorem dX9_meet_58 : decode cX9_meet 58 = .ok (.getfield 69, 3) := by decide +kernel
theorem dX9_meet_61 : decode cX9_meet 61 = .ok (.invokevirtual 249, 3) := by decide +kernel
theorem dX9_meet_64 : decode cX9_meet 64 = .ok (.aload_n 0, 1) := by decide +kernel
theorem dX9_meet_65 : decode cX9_meet 65 = .ok (.aload_n 0, 1) := by decide +kernel
theorem dX9_meet_66 : decode cX9_meet 66 = .ok (.getfield 22, 3) := by decide +kernel
theorem dX9_meet_69 : decode cX9_meet 69 = .ok (.iload_n 2, 1) := by decide +kernel
theorem dX9_meet_70 : decode cX9_meet 70 = .ok (.iaload, 1) := by decide +kernel
theorem dX9_meet_71 : decode cX9_meet 71 = .ok (.aload_n 0, 1) := by decide +kernel
theorem dX9_meet_72 : decode cX9_meet 72 = .ok (.getfield 63, 3) := by decide +kernel
theorem dX9_meet_75 : decode cX9_meet 75 = .ok (.invokevirtual 249, 3) := by decide +kernel
theorem dX9_meet_78 : decode cX9_meet 78 = .ok (.iconst (-1), 1) := by decide +kernel
theorem dX9_meet_79 : decode cX9_meet 79 = .ok (.istore 4, 2) := by decide +kernel
theorem dX9_meet_81 : decode cX9_meet 81 = .ok (.iconst 0, 1) := by decide +kernel
theorem dX9_meet_82 : decode cX9_meet 82 = .ok (.istore 5, 2) := by decide +kernel
theorem dX9_meet_84 : decode cX9_meet 84 = .ok (.iload 5, 2) := by decide +kernel
theorem dX9_meet_86 : decode cX9_meet 86 = .ok (.bipush 49, 2) := by decide +kernel
theorem dX9_meet_88 : decode cX9_meet 88 = .ok (.if_icmp .ge 76, 3) := by decide +kernel
theorem dX9_meet_91 : decode cX9_meet 91 = .ok (.aload_n 0, 1) := by decide +kernel
theorem dX9_meet_92 : decode cX9_meet 92 = .ok (.getfield 69, 3) := by decide +kernel
theorem dX9_meet_95 : decode cX9_meet 95 = .ok (.iload 5, 2) := by decide +kernel
theorem dX9_meet_97 : decode cX9_meet 97 = .ok (.iaload, 1) := by decide +kernel
theorem dX9_meet_98 : decode cX9_meet 98 = .ok (.ldc 244, 2) := by decide +kernel
theorem dX9_meet_100 : decode cX9_meet 100 = .ok (.if_icmp .ge 58, 3) := by decide +kernel
theorem dX9_meet_103 : decode cX9_meet 103 = .ok (.aload_n 0, 1) := by decide +kernel
theorem dX9_meet_104 : decode cX9_meet 104 = .ok (.getfield 63, 3) := by decide +kernel
theorem dX9_meet_107 : decode cX9_meet 107 = .ok (.iload 5, 2) := by decide +kernel
theorem dX9_meet_109 : decode cX9_meet 109 = .ok (.iaload, 1) := by decide +kernel
theorem dX9_meet_110 : decode cX9_meet 110 = .ok (.ldc 244, 2) := by decide +kernel
theorem dX9_meet_112 : decode cX9_meet 112 = .ok (.if_icmp .ge 46, 3) := by decide +kernel
theorem dX9_meet_115 : decode cX9_meet 115 = .ok (.iload 4, 2) := by decide +kernel
theorem dX9_meet_117 : decode cX9_meet 117 = .ok (.iconst (-1), 1) := by decide +kernel
theorem dX9_meet_118 : decode cX9_meet 118 = .ok (.if_icmp .eq 36, 3) := by decide +kernel
theorem dX9_meet_121 : decode cX9_meet 121 = .ok (.aload_n 0, 1) := by decide +kernel
theorem dX9_meet_122 : decode cX9_meet 122 = .ok (.getfield 69, 3) := by decide +kernel
theorem dX9_meet_125 : decode cX9_meet 125 = .ok (.iload 5, 2) := by decide +kernel
theorem dX9_meet_127 : decode cX9_meet 127 = .ok (.iaload, 1) := by decide +kernel
theorem dX9_meet_128 : decode cX9_meet 128 = .ok (.aload_n 0, 1) := by decide +kernel
theorem dX9_meet_129 : decode cX9_meet 129 = .ok (.getfield 63, 3) := by decide +kernel
theorem dX9_meet_132 : decode cX9_meet 132 = .ok (.iload 5, 2) := by decide +kernel
theorem dX9_meet_134 : decode cX9_meet 134 = .ok (.iaload, 1) := by decide +kernel
theorem dX9_meet_135 : decode cX9_meet 135 = .ok (.iadd, 1) := by decide +kernel
theorem dX9_meet_136 : decode cX9_meet 136 = .ok (.aload_n 0, 1) := by decide +kernel
theorem dX9_meet_137 : decode cX9_meet 137 = .ok (.getfield 69, 3) := by decide +kernel
theorem dX9_meet_140 : decode cX9_meet 140 = .ok (.iload 4, 2) := by decide +kernel
theorem dX9_meet_142 : decode cX9_meet 142 = .ok (.iaload, 1) := by decide +kernel
theorem dX9_meet_143 : decode cX9_meet 143 = .ok (.aload_n 0, 1) := by decide +kernel
theorem dX9_meet_144 : decode cX9_meet 144 = .ok (.getfield 63, 3) := by decide +kernel
theorem dX9_meet_147 : decode cX9_meet 147 = .ok (.iload 4, 2) := by decide +kernel
theorem dX9_meet_149 : decode cX9_meet 149 = .ok (.iaload, 1) := by decide +kernel
theorem dX9_meet_150 : decode cX9_meet 150 = .ok (.iadd, 1) := by decide +kernel
theorem dX9_meet_151 : decode cX9_meet 151 = .ok (.if_icmp .ge 7, 3) := by decide +kernel
theorem dX9_meet_154 : decode cX9_meet 154 = .ok (.iload 5, 2) := by decide +kernel
theorem dX9_meet_156 : decode cX9_meet 156 = .ok (.istore 4, 2) := by decide +kernel
theorem dX9_meet_158 : decode cX9_meet 158 = .ok (.iinc 5 1, 3) := by decide +kernel
theorem dX9_meet_161 : decode cX9_meet 161 = .ok (.goto (-77), 3) := by decide +kernel
theorem dX9_meet_164 : decode cX9_meet 164 = .ok (.iload_n 3, 1) := by decide +kernel
theorem dX9_meet_165 : decode cX9_meet 165 = .ok (.iconst 1, 1) := by decide +kernel
theorem dX9_meet_166 : decode cX9_meet 166 = .ok (.if_icmp .eq 9, 3) := by decide +kernel
theorem dX9_meet_169 : decode cX9_meet 169 = .ok (.iload 4, 2) := by decide +kernel
theorem dX9_meet_171 : decode cX9_meet 171 = .ok (.iconst (-1), 1) := by decide +kernel
theorem dX9_meet_172 : decode cX9_meet 172 = .ok (.if_icmp .ne 8, 3) := by decide +kernel
theorem dX9_meet_175 : decode cX9_meet 175 = .ok (.iload 4, 2) := by decide +kernel
theorem dX9_meet_177 : decode cX9_meet 177 = .ok (.goto 18, 3) := by decide +kernel
theorem dX9_meet_180 : decode cX9_meet 180 = .ok (.aload_n 0, 1) := by decide +kernel
theorem dX9_meet_181 : decode cX9_meet 181 = .ok (.getfield 69, 3) := by decide +kernel
theorem dX9_meet_184 : decode cX9_meet 184 = .ok (.iload 4, 2) := by decide +kernel
theorem dX9_meet_186 : decode cX9_meet 186 = .ok (.iaload, 1) := by decide +kernel
theorem dX9_meet_187 : decode cX9_meet 187 = .ok (.aload_n 0, 1) := by decide +kernel
theorem dX9_meet_188 : decode cX9_meet 188 = .ok (.getfield 63, 3) := by decide +kernel
theorem dX9_meet_191 : decode cX9_meet 191 = .ok (.iload 4, 2) := by decide +kernel
theorem dX9_meet_193 : decode cX9_meet 193 = .ok (.iaload, 1) := by decide +kernel
theorem dX9_meet_194 : decode cX9_meet 194 = .ok (.iadd, 1) := by decide +kernel
theorem dX9_meet_195 : decode cX9_meet 195 = .ok (.ireturn, 1) := by decide +kernel
set_option maxRecDepth 20000 in
theorem l_X9_meet {G : Gl} {d : Nat} {σ : Sg} {K : Option Value → Sg → Prop} {Z : Zt} {A B : Int → Int} {g h : Int} (hA : BfI Z.1 g 49 A) (hB : BfI Z.1 h 49 B) (rA : RA1 74 A σ) (rB : RA1 72 B σ) {w : Int} (w1 : 0 ≤ w) (w2 : w ≤ 1) : ∀ (n i : Nat) (b f : Int), i + n = 49 → -1 ≤ b → b < 49 → mtB A B b f → K (some (.int (iI (if w = 0 then (houG (mtF (mdF Z.1 g) (mdF Z.1 h)) (mtG (mdF Z.1 g) (mdF Z.1 h)) n i b f).2 else (houG (mtF (mdF Z.1 g) (mdF Z.1 h)) (mtG (mdF Z.1 g) (mdF Z.1 h)) n i b f).1)))) σ → AW G (d + 3) RX9 cX9_meet 6 (some .int) 84 [(0, .ref (gA G 54)), (3, .int (iI w)), (4, .int (iI b)), (5, .int (iI (i : Int)))] [] σ K := by
  intro n
  induction n using Nat.strongRecOn
  rename_i n ih
  intro i b f hn b1 b2 hbf hK
  have mA := fun z => hA.fin (c := (i : Int)) z
  have mB := fun z => hB.fin (c := (i : Int)) z
  have qA := fun z => hA.2.1 (i : Int) z
  have qB := fun z => hB.2.1 (i : Int) z
  refine A_iload (pc := 84) dX9_meet_84 rfl ?_
  refine A_bipush (pc := 86) dX9_meet_86 (by decide) ?_
  refine A_icmp_ge (pc := 88) 164 dX9_meet_88 (by decide) (by omega) (by omega) (by omega) (by omega) (fun h88 => ?_) (fun h88 => ?_)
  · skip
    refine A_iload_n (pc := 164) dX9_meet_164 rfl rfl ?_
    refine A_iconst (pc := 165) dX9_meet_165 ?_
    refine A_icmp_eq (pc := 166) 175 dX9_meet_166 (by decide) (by omega) (by omega) (by omega) (by omega) (fun h166 => ?_) (fun h166 => ?_)
    · skip
      refine A_iload (pc := 175) dX9_meet_175 rfl ?_
      refine A_goto (pc := 177) 195 dX9_meet_177 (by decide) ?_
      refine A_iret (pc := 195) rfl dX9_meet_195 ?_
      have hn0 : n = 0 := by omega
      subst hn0
      rw [if_neg (by omega)] at hK
      exact hK
    · skip
      refine A_iload (pc := 169) dX9_meet_169 rfl ?_
      refine A_iconst (pc := 171) dX9_meet_171 ?_
      refine A_icmp_ne (pc := 172) 180 dX9_meet_172 (by decide) (by omega) (by omega) (by omega) (by omega) (fun h172 => ?_) (fun h172 => ?_)
      · skip
        obtain ⟨k, hbk, k49, hff⟩ := hbf.get (by omega)
        subst hbk
        have qAk := hA.2.1 (k : Int) ⟨by omega, by omega⟩
        have qBk := hB.2.1 (k : Int) ⟨by omega, by omega⟩
        refine A_aload_n (pc := 180) dX9_meet_180 rfl rfl ?_
        refine A_getR (pc := 181) fX9_69 rfl rfl dX9_meet_181 ?_
        refine A_iload (pc := 184) dX9_meet_184 rfl ?_
        refine A_ialdv (pc := 186) k rfl rfl k49 (Nat.le_of_ble_eq_true rfl) (rA k k49) dX9_meet_186 ?_
        refine A_aload_n (pc := 187) dX9_meet_187 rfl rfl ?_
        refine A_getR (pc := 188) fX9_63 rfl rfl dX9_meet_188 ?_
        refine A_iload (pc := 191) dX9_meet_191 rfl ?_
        refine A_ialdv (pc := 193) k rfl rfl k49 (Nat.le_of_ble_eq_true rfl) (rB k k49) dX9_meet_193 ?_
        refine A_iadd (pc := 194) dX9_meet_194 ?_
        refine A_iret (pc := 195) rfl dX9_meet_195 ?_
        have hn0 : n = 0 := by omega
        subst hn0
        rw [if_pos (by omega)] at hK
        rw [← hff]
        exact hK
      · skip
        refine A_iload (pc := 175) dX9_meet_175 rfl ?_
        refine A_goto (pc := 177) 195 dX9_meet_177 (by decide) ?_
        refine A_iret (pc := 195) rfl dX9_meet_195 ?_
        have hn0 : n = 0 := by omega
        subst hn0
        rw [if_pos (by omega)] at hK
        have e : b = f := hbf.no (by omega)
        rw [e]
        exact hK
  · skip
    have hi : inS (i : Int) := ⟨by omega, by omega⟩
    have mA := mA hi
    have mB := mB hi
    have qA := qA hi
    have qB := qB hi
    refine A_aload_n (pc := 91) dX9_meet_91 rfl rfl ?_
    refine A_getR (pc := 92) fX9_69 rfl rfl dX9_meet_92 ?_
    refine A_iload (pc := 95) dX9_meet_95 rfl ?_
    refine A_ialdv (pc := 97) i rfl rfl (by omega) (Nat.le_of_ble_eq_true rfl) (rA i (by omega)) dX9_meet_97 ?_
    refine A_ldc (pc := 98) inX9_244 dX9_meet_98 ?_
    refine A_icmp_ge (pc := 100) 158 dX9_meet_100 (by decide) (by omega) (by omega) (by omega) (by omega) (fun h100 => ?_) (fun h100 => ?_)
    · skip
      refine A_iinc (pc := 158) dX9_meet_158 rfl (Nat.le_of_ble_eq_true rfl) ?_
      refine A_goto (pc := 161) 84 dX9_meet_161 (by decide) ?_
      obtain ⟨u, rfl⟩ : ∃ u, n = u + 1 := ⟨n - 1, by omega⟩
      refine A_loc (l2 := [(0, _), (3, _), (4, _), (5, _)]) ⟨rfl, rfl, rfl, rfl, trivial⟩ ?_
      have hf : mtF (mdF Z.1 g) (mdF Z.1 h) i = false := decide_eq_false (fun z => by omega)
      refine ih u (by omega) (i + 1) b f (by omega) b1 b2 hbf ?_
      rw [houG_f hf] at hK
      exact hK
    · skip
      refine A_aload_n (pc := 103) dX9_meet_103 rfl rfl ?_
      refine A_getR (pc := 104) fX9_63 rfl rfl dX9_meet_104 ?_
      refine A_iload (pc := 107) dX9_meet_107 rfl ?_
      refine A_ialdv (pc := 109) i rfl rfl (by omega) (Nat.le_of_ble_eq_true rfl) (rB i (by omega)) dX9_meet_109 ?_
      refine A_ldc (pc := 110) inX9_244 dX9_meet_110 ?_
      refine A_icmp_ge (pc := 112) 158 dX9_meet_112 (by decide) (by omega) (by omega) (by omega) (by omega) (fun h112 => ?_) (fun h112 => ?_)
      · skip
        refine A_iinc (pc := 158) dX9_meet_158 rfl (Nat.le_of_ble_eq_true rfl) ?_
        refine A_goto (pc := 161) 84 dX9_meet_161 (by decide) ?_
        obtain ⟨u, rfl⟩ : ∃ u, n = u + 1 := ⟨n - 1, by omega⟩
        refine A_loc (l2 := [(0, _), (3, _), (4, _), (5, _)]) ⟨rfl, rfl, rfl, rfl, trivial⟩ ?_
        have hf : mtF (mdF Z.1 g) (mdF Z.1 h) i = false := decide_eq_false (fun z => by omega)
        refine ih u (by omega) (i + 1) b f (by omega) b1 b2 hbf ?_
        rw [houG_f hf] at hK
        exact hK
      · skip
        refine A_iload (pc := 115) dX9_meet_115 rfl ?_
        refine A_iconst (pc := 117) dX9_meet_117 ?_
        refine A_icmp_eq (pc := 118) 154 dX9_meet_118 (by decide) (by omega) (by omega) (by omega) (by omega) (fun h118 => ?_) (fun h118 => ?_)
        · skip
          refine A_iload (pc := 154) dX9_meet_154 rfl ?_
          refine A_istore (pc := 156) dX9_meet_156 (Nat.le_of_ble_eq_true rfl) ?_
          refine A_iinc (pc := 158) dX9_meet_158 rfl (Nat.le_of_ble_eq_true rfl) ?_
          refine A_goto (pc := 161) 84 dX9_meet_161 (by decide) ?_
          obtain ⟨u, rfl⟩ : ∃ u, n = u + 1 := ⟨n - 1, by omega⟩
          refine A_loc (l2 := [(0, _), (3, _), (4, _), (5, _)]) ⟨rfl, rfl, rfl, rfl, trivial⟩ ?_
          have hf : mtF (mdF Z.1 g) (mdF Z.1 h) i = true := decide_eq_true ⟨by omega, by omega⟩
          have eg : mtG (mdF Z.1 g) (mdF Z.1 h) i = A i + B i := by show mdF Z.1 g i + mdF Z.1 h i = _; omega
          refine ih u (by omega) (i + 1) (i : Int) (A i + B i) (by omega) (by omega) (by omega) (Or.inr ⟨i, rfl, by omega, rfl⟩) ?_
          rw [houG_y hf (by omega), eg] at hK
          exact hK
        · skip
          obtain ⟨k, hbk, k49, hff⟩ := hbf.get (by omega)
          subst hbk
          have qAk := hA.2.1 (k : Int) ⟨by omega, by omega⟩
          have qBk := hB.2.1 (k : Int) ⟨by omega, by omega⟩
          refine A_aload_n (pc := 121) dX9_meet_121 rfl rfl ?_
          refine A_getR (pc := 122) fX9_69 rfl rfl dX9_meet_122 ?_
          refine A_iload (pc := 125) dX9_meet_125 rfl ?_
          refine A_ialdv (pc := 127) i rfl rfl (by omega) (Nat.le_of_ble_eq_true rfl) (rA i (by omega)) dX9_meet_127 ?_
          refine A_aload_n (pc := 128) dX9_meet_128 rfl rfl ?_
          refine A_getR (pc := 129) fX9_63 rfl rfl dX9_meet_129 ?_
          refine A_iload (pc := 132) dX9_meet_132 rfl ?_
          refine A_ialdv (pc := 134) i rfl rfl (by omega) (Nat.le_of_ble_eq_true rfl) (rB i (by omega)) dX9_meet_134 ?_
          refine A_iadd (pc := 135) dX9_meet_135 ?_
          refine A_aload_n (pc := 136) dX9_meet_136 rfl rfl ?_
          refine A_getR (pc := 137) fX9_69 rfl rfl dX9_meet_137 ?_
          refine A_iload (pc := 140) dX9_meet_140 rfl ?_
          refine A_ialdv (pc := 142) k rfl rfl k49 (Nat.le_of_ble_eq_true rfl) (rA k k49) dX9_meet_142 ?_
          refine A_aload_n (pc := 143) dX9_meet_143 rfl rfl ?_
          refine A_getR (pc := 144) fX9_63 rfl rfl dX9_meet_144 ?_
          refine A_iload (pc := 147) dX9_meet_147 rfl ?_
          refine A_ialdv (pc := 149) k rfl rfl k49 (Nat.le_of_ble_eq_true rfl) (rB k k49) dX9_meet_149 ?_
          refine A_iadd (pc := 150) dX9_meet_150 ?_
          refine A_icmp_ge (pc := 151) 158 dX9_meet_151 (by decide) (by omega) (by omega) (by omega) (by omega) (fun h151 => ?_) (fun h151 => ?_)
          · skip
            refine A_iinc (pc := 158) dX9_meet_158 rfl (Nat.le_of_ble_eq_true rfl) ?_
            refine A_goto (pc := 161) 84 dX9_meet_161 (by decide) ?_
            obtain ⟨u, rfl⟩ : ∃ u, n = u + 1 := ⟨n - 1, by omega⟩
            refine A_loc (l2 := [(0, _), (3, _), (4, _), (5, _)]) ⟨rfl, rfl, rfl, rfl, trivial⟩ ?_
            have eg : mtG (mdF Z.1 g) (mdF Z.1 h) i = A i + B i := by show mdF Z.1 g i + mdF Z.1 h i = _; omega
            refine ih u (by omega) (i + 1) (k : Int) f (by omega) b1 b2 hbf ?_
            rw [houG_n (by omega)] at hK
            exact hK
          · skip
            refine A_iload (pc := 154) dX9_meet_154 rfl ?_
            refine A_istore (pc := 156) dX9_meet_156 (Nat.le_of_ble_eq_true rfl) ?_
            refine A_iinc (pc := 158) dX9_meet_158 rfl (Nat.le_of_ble_eq_true rfl) ?_
            refine A_goto (pc := 161) 84 dX9_meet_161 (by decide) ?_
            obtain ⟨u, rfl⟩ : ∃ u, n = u + 1 := ⟨n - 1, by omega⟩
            refine A_loc (l2 := [(0, _), (3, _), (4, _), (5, _)]) ⟨rfl, rfl, rfl, rfl, trivial⟩ ?_
            have hf : mtF (mdF Z.1 g) (mdF Z.1 h) i = true := decide_eq_true ⟨by omega, by omega⟩
            have eg : mtG (mdF Z.1 g) (mdF Z.1 h) i = A i + B i := by show mdF Z.1 g i + mdF Z.1 h i = _; omega
            refine ih u (by omega) (i + 1) (i : Int) (A i + B i) (by omega) (by omega) (by omega) (Or.inr ⟨i, rfl, by omega, rfl⟩) ?_
            rw [houG_y hf (by omega), eg] at hK
            exact hK
set_option maxRecDepth 20000 in
theorem c_X9_meet {G : Gl} {d : Nat} {σ : Sg} {Z : Zt} (hZ : RelM Z σ) (hO : OkZ Z) (hw : OkW Z.1) {p : Int} (hp1 : -2147483648 ≤ p) (hp2 : p < 2147483648) {q : Int} (hq1 : -2147483648 ≤ q) (hq2 : q < 2147483648) {w : Int} (hw1 : -2147483648 ≤ w) (hw2 : w < 2147483648) : CT G (d + 4) yX9_meet cX9_meet 6 (some .int) [.ref (gA G 54), .int (iI p), .int (iI q), .int (iI w)] σ (RE (some (.int (iI (qMeet Z p q w).1))) (fun υ => RelM (qMeet Z p q w).2 υ ∧ Fr MC σ υ)) := by
  refine CT.of (by decide +kernel) (Nat.le_of_ble_eq_true rfl) ?_
  change AW G _ RX9 _ _ _ 0 [(0, .ref (gA G 54)), (1, .int (iI p)), (2, .int (iI q)), (3, .int (iI w))] [] _ _
  have o5 := hO.1.2.2.2.2.1
  refine A_aload_n (pc := 0) dX9_meet_0 rfl rfl ?_
  refine A_iload_n (pc := 1) dX9_meet_1 rfl rfl ?_
  refine A_callV1 (pc := 2) kX9_150 rfl rfl (c_X9_isWalker hZ.1 hO.1 hp1 hp2) dX9_meet_2 rfl rfl (Nat.le_of_ble_eq_true rfl) (Nat.le_of_ble_eq_true rfl) ?_
  refine A_ifb_eq (pc := 5) 16 dX9_meet_5 (by decide) (fun h5 => ?_) (fun h5 => ?_)
  · skip
    refine A_aload_n (pc := 16) dX9_meet_16 rfl rfl ?_
    refine A_iconst (pc := 17) dX9_meet_17 ?_
    refine A_callVe (pc := 18) kX9_237 rfl rfl (c_X9_no10 hZ hO (t := -1) (by omega) (by omega)) dX9_meet_18 rfl rfl (Nat.le_of_ble_eq_true rfl) (Nat.le_of_ble_eq_true rfl) (fun υ hυ => ?_)
    refine A_iret (pc := 21) rfl dX9_meet_21 ?_
    exact RQM (by unfold qMeet; rw [if_pos (by omega)]; rfl) hυ.1 (hυ.2.mono MC70)
  · skip
    refine A_aload_n (pc := 8) dX9_meet_8 rfl rfl ?_
    refine A_iload_n (pc := 9) dX9_meet_9 rfl rfl ?_
    refine A_callV1 (pc := 10) kX9_150 rfl rfl (c_X9_isWalker hZ.1 hO.1 hq1 hq2) dX9_meet_10 rfl rfl (Nat.le_of_ble_eq_true rfl) (Nat.le_of_ble_eq_true rfl) ?_
    refine A_ifb_ne (pc := 13) 22 dX9_meet_13 (by decide) (fun h13 => ?_) (fun h13 => ?_)
    · skip
      refine A_iload_n (pc := 22) dX9_meet_22 rfl rfl ?_
      refine A_iconst (pc := 23) dX9_meet_23 ?_
      refine A_iconst (pc := 24) dX9_meet_24 ?_
      refine A_callS1 (pc := 25) kX9_86 (c_X9_within (v := w) (a := 0) (b := 1) (by omega) (by omega) (by omega) (by omega) (by omega) (by omega)) dX9_meet_25 rfl rfl (Nat.le_of_ble_eq_true rfl) (Nat.le_of_ble_eq_true rfl) ?_
      refine A_ifb_ne (pc := 28) 38 dX9_meet_28 (by decide) (fun h28 => ?_) (fun h28 => ?_)
      · skip
        refine A_iload_n (pc := 38) dX9_meet_38 rfl rfl ?_
        refine A_iload_n (pc := 39) dX9_meet_39 rfl rfl ?_
        refine A_icmp_ne (pc := 40) 50 dX9_meet_40 (by decide) (by omega) (by omega) (by omega) (by omega) (fun h40 => ?_) (fun h40 => ?_)
        · skip
          obtain ⟨k, rfl⟩ := Int.eq_ofNat_of_zero_le (show 0 ≤ p by omega)
          obtain ⟨j, rfl⟩ := Int.eq_ofNat_of_zero_le (show 0 ≤ q by omega)
          have hok := hw k (by omega)
          have hoj := hw j (by omega)
          obtain ⟨a, hat⟩ := Int.eq_ofNat_of_zero_le hok.1.1
          obtain ⟨c, hbt⟩ := Int.eq_ofNat_of_zero_le hoj.1.1
          have ha : a < 49 := by have := hok.1.2; omega
          have hb : c < 49 := by have := hoj.1.2; omega
          refine A_aload_n (pc := 50) dX9_meet_50 rfl rfl ?_
          refine A_aload_n (pc := 51) dX9_meet_51 rfl rfl ?_
          refine A_getR (pc := 52) fX9_22 rfl rfl dX9_meet_52 ?_
          refine A_iload_n (pc := 55) dX9_meet_55 rfl rfl ?_
          refine A_ialdv (pc := 56) _ rfl rfl (by omega) (Nat.le_of_ble_eq_true rfl) ((hZ.1.wat (p := k) (by omega)).trans hat) dX9_meet_56 ?_
          refine A_aload_n (pc := 57) dX9_meet_57 rfl rfl ?_
          refine A_getR (pc := 58) fX9_69 rfl rfl dX9_meet_58 ?_
          refine A_callVe0 (pc := 61) kX9_249 rfl rfl (c_X9_spreads hZ hO (ce := 74) rfl (by decide) ha (by rw [← hat]; exact hok)) dX9_meet_61 rfl rfl (Nat.le_of_ble_eq_true rfl) (Nat.le_of_ble_eq_true rfl) (fun υ hυ => ?_)
          obtain ⟨⟨A, rA, hA⟩, hF⟩ := hυ
          have hZ2 := hZ.fr hF (fun x z => by have z2 : x = 74 := z; omega)
          refine A_aload_n (pc := 64) dX9_meet_64 rfl rfl ?_
          refine A_aload_n (pc := 65) dX9_meet_65 rfl rfl ?_
          refine A_getR (pc := 66) fX9_22 rfl rfl dX9_meet_66 ?_
          refine A_iload_n (pc := 69) dX9_meet_69 rfl rfl ?_
          refine A_ialdv (pc := 70) _ rfl rfl (by omega) (Nat.le_of_ble_eq_true rfl) ((hZ2.1.wat (p := j) (by omega)).trans hbt) dX9_meet_70 ?_
          refine A_aload_n (pc := 71) dX9_meet_71 rfl rfl ?_
          refine A_getR (pc := 72) fX9_63 rfl rfl dX9_meet_72 ?_
          refine A_callVe0 (pc := 75) kX9_249 rfl rfl (c_X9_spreads hZ2 hO (ce := 72) rfl (by decide) hb (by rw [← hbt]; exact hoj)) dX9_meet_75 rfl rfl (Nat.le_of_ble_eq_true rfl) (Nat.le_of_ble_eq_true rfl) (fun ω hω => ?_)
          obtain ⟨⟨B, rB, hB⟩, hF2⟩ := hω
          have hZ3 := hZ2.fr hF2 (fun x z => by have z2 : x = 72 := z; omega)
          have rA2 : RA1 74 A ω := fun s hs => by rw [(hF2 74 (by decide)).1]; exact rA s hs
          have hFa : Fr MC σ ω := (hF.mono (fun x z => by have z2 : x = 74 := z; unfold MC; omega)).tr (hF2.mono (fun x z => by have z2 : x = 72 := z; unfold MC; omega))
          refine A_iconst (pc := 78) dX9_meet_78 ?_
          refine A_istore (pc := 79) dX9_meet_79 (Nat.le_of_ble_eq_true rfl) ?_
          refine A_iconst (pc := 81) dX9_meet_81 ?_
          refine A_istore (pc := 82) dX9_meet_82 (Nat.le_of_ble_eq_true rfl) ?_
          refine A_loc (l2 := [(0, _), (3, _), (4, _), (5, _)]) ⟨rfl, rfl, rfl, rfl, trivial⟩ ?_
          refine l_X9_meet hA hB rA2 rB (by omega) (by omega) 49 0 (-1) (-1) (by omega) (by omega) (by omega) (Or.inl ⟨rfl, rfl⟩) ?_
          exact RQM (by unfold qMeet; simp only [Int.toNat_natCast]; rw [if_neg (by omega), if_neg (by omega), if_neg (by omega), hat, hbt]; rfl) hZ3 hFa
        · skip
          refine A_aload_n (pc := 43) dX9_meet_43 rfl rfl ?_
          refine A_bipush (pc := 44) dX9_meet_44 (by decide) ?_
          refine A_callVe (pc := 46) kX9_237 rfl rfl (c_X9_no10 hZ hO (t := -6) (by omega) (by omega)) dX9_meet_46 rfl rfl (Nat.le_of_ble_eq_true rfl) (Nat.le_of_ble_eq_true rfl) (fun υ hυ => ?_)
          refine A_iret (pc := 49) rfl dX9_meet_49 ?_
          exact RQM (by unfold qMeet; rw [if_neg (by omega), if_neg (by omega), if_pos (by omega)]; rfl) hυ.1 (hυ.2.mono MC70)
      · skip
        refine A_aload_n (pc := 31) dX9_meet_31 rfl rfl ?_
        refine A_bipush (pc := 32) dX9_meet_32 (by decide) ?_
        refine A_callVe (pc := 34) kX9_237 rfl rfl (c_X9_no10 hZ hO (t := -5) (by omega) (by omega)) dX9_meet_34 rfl rfl (Nat.le_of_ble_eq_true rfl) (Nat.le_of_ble_eq_true rfl) (fun υ hυ => ?_)
        refine A_iret (pc := 37) rfl dX9_meet_37 ?_
        exact RQM (by unfold qMeet; rw [if_neg (by omega), if_pos (by omega)]; rfl) hυ.1 (hυ.2.mono MC70)
    · skip
      refine A_aload_n (pc := 16) dX9_meet_16 rfl rfl ?_
      refine A_iconst (pc := 17) dX9_meet_17 ?_
      refine A_callVe (pc := 18) kX9_237 rfl rfl (c_X9_no10 hZ hO (t := -1) (by omega) (by omega)) dX9_meet_18 rfl rfl (Nat.le_of_ble_eq_true rfl) (Nat.le_of_ble_eq_true rfl) (fun υ hυ => ?_)
      refine A_iret (pc := 21) rfl dX9_meet_21 ?_
      exact RQM (by unfold qMeet; rw [if_pos (by omega)]; rfl) hυ.1 (hυ.2.mono MC70)
