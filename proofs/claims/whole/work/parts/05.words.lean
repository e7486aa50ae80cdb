/-! PART 05: truth values, shapes at variable cells, constants -/
def bI (P : Prop) [Decidable P] : Int := if P then 1 else 0
theorem bI_t {P : Prop} [Decidable P] (h : P) : bI P = 1 := if_pos h
theorem bI_f {P : Prop} [Decidable P] (h : ¬ P) : bI P = 0 := if_neg h
theorem bI_or (P : Prop) [Decidable P] : (P ∧ bI P = 1) ∨ (¬ P ∧ bI P = 0) := by
  by_cases h : P
  · exact Or.inl ⟨h, bI_t h⟩
  · exact Or.inr ⟨h, bI_f h⟩
theorem bI_congr {P Q : Prop} [Decidable P] [Decidable Q] (h : P ↔ Q) : bI P = bI Q := by
  by_cases hq : Q
  · rw [bI_t hq, bI_t (h.mpr hq)]
  · rw [bI_f hq, bI_f (fun p => hq (h.mp p))]
theorem nar_b {P : Prop} [Decidable P] : narrow .boolean (.int (iI (bI P))) = .int (iI (bI P)) := by
  rcases bI_or P with ⟨-, h⟩ | ⟨-, h⟩ <;> rw [h] <;> rfl
theorem R1_t {P : Prop} [Decidable P] {σ : Sg} (h : P) : R1 (.int (iI (bI P))) σ (some (.int (iI 1))) σ := ⟨by rw [bI_t h], rfl⟩
theorem R1_f {P : Prop} [Decidable P] {σ : Sg} (h : ¬ P) : R1 (.int (iI (bI P))) σ (some (.int (iI 0))) σ := ⟨by rw [bI_f h], rfl⟩
theorem R1_e {a b : Int} {σ : Sg} (h : a = b) : R1 (.int (iI b)) σ (some (.int (iI a))) σ := ⟨by rw [h], rfl⟩
section AWB
variable {G : Gl} {d : Nat} {own : String} {cc : ByteArray} {mL : Nat} {ret : Option FieldType} {pc : Nat} {ls : List (Nat × Value)} {st : List Value} {σ : Sg} {K : Option Value → Sg → Prop}
theorem A_ifb_eq {P : Prop} [Decidable P] {off : Int} (tgt : Nat) (hd : decode cc pc = .ok (.ifCond .eq off, 3)) (ht : (pc : Int) + off = (tgt : Int)) (kt : ¬ P → AW G d own cc mL ret tgt ls st σ K) (kf : P → AW G d own cc mL ret (pc + 3) ls st σ K) : AW G d own cc mL ret pc ls (.int (iI (bI P)) :: st) σ K := by
  have hb := bI_or P
  refine A_if_eq tgt hd ht (by omega) (by omega) (fun h => kt (fun p => ?_)) (fun h => kf ?_)
  · rw [bI_t p] at h; cases h
  · rcases hb with ⟨h1, -⟩ | ⟨-, h1⟩
    · exact h1
    · exact absurd h1 h
theorem A_ifb_ne {P : Prop} [Decidable P] {off : Int} (tgt : Nat) (hd : decode cc pc = .ok (.ifCond .ne off, 3)) (ht : (pc : Int) + off = (tgt : Int)) (kt : P → AW G d own cc mL ret tgt ls st σ K) (kf : ¬ P → AW G d own cc mL ret (pc + 3) ls st σ K) : AW G d own cc mL ret pc ls (.int (iI (bI P)) :: st) σ K := by
  have hb := bI_or P
  refine A_if_ne tgt hd ht (by omega) (by omega) (fun h => kt ?_) (fun h => kf (fun p => ?_))
  · rcases hb with ⟨h1, -⟩ | ⟨-, h1⟩
    · exact h1
    · exact absurd h1 h
  · rw [bI_t p] at h; cases h
end AWB
/-- the towns' cells, the shelves', the ways' -/
def TC (c : Nat) : Prop := c = 14 ∨ c = 22 ∨ c = 30
def SC (c : Nat) : Prop := ∃ k, k < 8 ∧ c = 38 + 2 * k
def WC (c : Nat) : Prop := c = 8 ∨ c = 10
theorem TC14 : TC 14 := Or.inl rfl
theorem TC22 : TC 22 := Or.inr (Or.inl rfl)
theorem TC30 : TC 30 := Or.inr (Or.inr rfl)
theorem SCk {k : Nat} (h : k < 8) : SC (38 + 2 * k) := ⟨k, h, rfl⟩
theorem WC8 : WC 8 := Or.inl rfl
theorem WC10 : WC 10 := Or.inr rfl
theorem lt8 {k : Nat} (h : k < 8) : k = 0 ∨ k = 1 ∨ k = 2 ∨ k = 3 ∨ k = 4 ∨ k = 5 ∨ k = 6 ∨ k = 7 := by omega
theorem shp_T {c : Nat} (h : TC c) : shp c = .inl (4, [(1, 0), (0, 0), (0, 0), (0, 0), (0, 0), (0, 0), (0, 0), (2, c + 1), (2, c + 2), (2, c + 3), (2, c + 4), (2, c + 5), (2, c + 6), (2, c + 7)]) := by
  rcases h with rfl | rfl | rfl <;> rfl
theorem shp_S {c : Nat} (h : SC c) : shp c = .inl (2, [(0, 0), (0, 0), (2, c + 1)]) := by
  obtain ⟨k, hk, rfl⟩ := h
  rcases lt8 hk with rfl | rfl | rfl | rfl | rfl | rfl | rfl | rfl <;> rfl
theorem shp_S_elements {c : Nat} (h : SC c) : shp (c + 1) = .inr (1, 160) := by
  obtain ⟨k, hk, rfl⟩ := h
  rcases lt8 hk with rfl | rfl | rfl | rfl | rfl | rfl | rfl | rfl <;> rfl
theorem shp_W {c : Nat} (h : WC c) : shp c = .inl (6, [(1, 0), (2, c + 1)]) := by
  rcases h with rfl | rfl <;> rfl
theorem shp_W_prices {c : Nat} (h : WC c) : shp (c + 1) = .inr (0, 49) := by
  rcases h with rfl | rfl <;> rfl
theorem shp_T_paneKind {c : Nat} (h : TC c) : shp (c + 1) = .inr (0, 9) := by
  rcases h with rfl | rfl | rfl <;> rfl
theorem shp_T_paneA {c : Nat} (h : TC c) : shp (c + 2) = .inr (0, 9) := by
  rcases h with rfl | rfl | rfl <;> rfl
theorem shp_T_paneAt {c : Nat} (h : TC c) : shp (c + 3) = .inr (0, 9) := by
  rcases h with rfl | rfl | rfl <;> rfl
theorem shp_T_paneOut {c : Nat} (h : TC c) : shp (c + 4) = .inr (0, 9) := by
  rcases h with rfl | rfl | rfl <;> rfl
theorem shp_T_walkerAt {c : Nat} (h : TC c) : shp (c + 5) = .inr (0, 5) := by
  rcases h with rfl | rfl | rfl <;> rfl
theorem shp_T_walkerFaces {c : Nat} (h : TC c) : shp (c + 6) = .inr (0, 5) := by
  rcases h with rfl | rfl | rfl <;> rfl
theorem shp_T_walkerTried {c : Nat} (h : TC c) : shp (c + 7) = .inr (0, 5) := by
  rcases h with rfl | rfl | rfl <;> rfl
theorem inJ6_265 : Cond.constant RJ6 265 (iI 1431655765) ∈ lw_tbl := (show iI 1431655765 = 1431655765 from by decide) ▸ nJ6_265
theorem inJ6_266 : Cond.constant RJ6 266 (iI 858993459) ∈ lw_tbl := (show iI 858993459 = 858993459 from by decide) ▸ nJ6_266
theorem inJ6_267 : Cond.constant RJ6 267 (iI 252645135) ∈ lw_tbl := (show iI 252645135 = 252645135 from by decide) ▸ nJ6_267
theorem inX7_19 : Cond.constant RX7 19 (iI 1000000) ∈ lw_tbl := (show iI 1000000 = 1000000 from by decide) ▸ nX7_19
theorem inX5_151 : Cond.constant RX5 151 (iI 1103515245) ∈ lw_tbl := (show iI 1103515245 = 1103515245 from by decide) ▸ nX5_151
theorem inX9_244 : Cond.constant RX9 244 (iI 999999) ∈ lw_tbl := (show iI 999999 = 999999 from by decide) ▸ nX9_244
theorem inX9_285 : Cond.constant RX9 285 (iI 1103515245) ∈ lw_tbl := (show iI 1103515245 = 1103515245 from by decide) ▸ nX9_285
theorem fsX8_383 : Cond.fieldLink RX8 383 RX8 "ABOVE" "[I" ∈ lw_tbl := tb_m 356 (by decide +kernel)
theorem fsX1_51 : Cond.fieldLink RX1 51 RX1 "BODIES" "[I" ∈ lw_tbl := tb_m 916 (by decide +kernel)
theorem stX8_isKind : Cond.static yX8_isKind ∈ lw_tbl := tb_m 343 (by decide +kernel)
theorem stX8_isReach : Cond.static yX8_isReach ∈ lw_tbl := tb_m 494 (by decide +kernel)
theorem stX8_above : Cond.static yX8_above ∈ lw_tbl := tb_m 354 (by decide +kernel)
