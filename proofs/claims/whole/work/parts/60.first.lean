/-! PART 60: what the start gives; the first store -/
theorem inst_all : ∀ q ∈ vwCl, Cond.instantiable q.1 q.2.2 ∈ lw_tbl := by
  intro q h
  simp only [vwCl, List.mem_cons, List.not_mem_nil, or_false] at h
  rcases h with rfl | rfl | rfl | rfl | rfl | rfl | rfl | rfl | rfl
  · exact (tb_m 172 (by decide +kernel))
  · exact (tb_m 89 (by decide +kernel))
  · exact (tb_m 194 (by decide +kernel))
  · exact (tb_m 118 (by decide +kernel))
  · exact (tb_m 28 (by decide +kernel))
  · exact (tb_m 132 (by decide +kernel))
  · exact (tb_m 159 (by decide +kernel))
  · exact (tb_m 20 (by decide +kernel))
  · exact (tb_m 952 (by decide +kernel))
theorem K_all {s : State} {A : Array Value} (hts : ∀ w ∈ lw_tbl, w.before A s = true) : ∃ (D : va_G) (Y : Nat → ClassId), va_K D vwCl (tyY Y) s := by
  have hT : ∀ w ∈ TW, w.before A s = true := fun w hw => hts w (List.mem_filter.mp hw).1
  obtain ⟨c0, k0, p0, a1, a2, a3⟩ := Cond.arrayClass_spec (hts (.arrayClass .int) (tb_m 85 (by decide +kernel)))
  obtain ⟨c1, k1, p1, b1, b2, b3⟩ := Cond.arrayClass_spec (hts (.arrayClass .long) (tb_m 130 (by decide +kernel)))
  obtain ⟨c2, k2, p2, d1, d2, d3⟩ := Cond.arrayClass_spec (hts (.arrayClass .boolean) (tb_m 1057 (by decide +kernel)))
  obtain ⟨p3, c3, k3, e1, -, e2, e3, e4⟩ := Cond.arrayOver_spec (hts (.arrayOver (.object "WindowsLookedOut$Shelf")) (tb_m 87 (by decide +kernel)))
  have h : ∀ k : Nat, ∃ r : ClassId × (Nat → Nat), ∀ q : vw_C, vwCl[k]? = some q → u_Kn s q.1 q.2.1 q.2.2 r.1 r.2 := by
    intro k
    cases hq : vwCl[k]? with
    | none => exact ⟨(c0, fun _ => 0), fun q h => by cases h⟩
    | some q =>
      obtain ⟨cC, iS, z⟩ := u_known (N := q.2.2) (T := q.2.1) hT (cls_in hq) (hts _ (inst_all q (List.mem_of_getElem? hq)))
      exact ⟨(cC, iS), fun q2 h => by cases h; exact z⟩
  obtain ⟨f, hf⟩ := Classical.axiomOfChoice h
  refine ⟨(fun k => (f k).1, fun k => (f k).2), fun k => if k = 0 then c0 else if k = 1 then c1 else if k = 2 then c2 else c3, fun k q hq => hf k q hq, fun k q hq => ?_⟩
  have hk : k < 4 := (List.getElem?_eq_some_iff.mp hq).1
  rcases (show k = 0 ∨ k = 1 ∨ k = 2 ∨ k = 3 by omega) with rfl | rfl | rfl | rfl
  · cases hq
    exact ⟨fun n z => ⟨fun k h => (by cases h), k0, a2, p0, a3⟩, a1⟩
  · cases hq
    exact ⟨fun n z => ⟨fun k h => (by cases h), k1, b2, p1, b3⟩, b1⟩
  · cases hq
    exact ⟨fun n z => ⟨fun k h => (by cases h), k2, d2, p2, d3⟩, d1⟩
  · cases hq
    exact ⟨fun n z => ⟨fun k h => (by cases h), k3, e2, p3, e3⟩, k3, p3, e2, e3, e1, e4⟩
def tmS (i : Nat) : Term := [Term.string "WindowsLookedOut$Reader" 78, Term.string "WindowsLookedOut$Reader" 104, Term.string "WindowsLookedOut$Reader" 109, Term.string "WindowsLookedOut$Reader" 128, Term.string "WindowsLookedOut$Reader" 139].getD i (.arg 0)
set_option maxHeartbeats 4000000 in
theorem Kon_all {l : Launch} {s : State} {b : Nat} {D : va_G} {Y : Nat → ClassId} {g : Nat → Nat} (hts : ∀ w ∈ lw_tbl, w.before #[Value.ref b] s = true) (hgv : (Jvm.Cond.and given_1 narrow_1).before #[Value.ref b] s = true) (hK : va_K D vwCl (tyY Y) s) (hi : ∀ i j, i < 75 → j < 75 → g i = g j → i = j) (hg : ∀ i, i < 75 → s.heap.size ≤ g i) : ∃ (tt : Nat × Nat) (aK aV : Nat → Nat), Kon (l, g, D, Y, tt, aK, aV) s s.heap := by
  have hs := flat_of_before _ hgv
  have hA : ∀ a : Nat, a < s.heap.size → ¬ (fun q : Nat => s.heap.size ≤ q) a := fun a h => Nat.not_le.mpr h
  obtain ⟨tA, etA, TtA⟩ := va_Tof (s := s) (args := #[Value.ref b]) (tm := (Term.static "WindowsLookedOut" "ABOVE" "[I")) (ty := .int) (N := 7) (f := fun j => .int (iI (fAb.getD j 0))) (A := fun q : Nat => s.heap.size ≤ q) (by decide) (hs (.arrayOf (Term.static "WindowsLookedOut" "ABOVE" "[I") .int) (by decide +kernel)) (va_eqt (hs (.eq (.length (Term.static "WindowsLookedOut" "ABOVE" "[I")) (.int 7)) (by decide +kernel))) (fun j hj => by
    rcases (show j = 0 ∨ j = 1 ∨ j = 2 ∨ j = 3 ∨ j = 4 ∨ j = 5 ∨ j = 6 by omega) with rfl | rfl | rfl | rfl | rfl | rfl | rfl
    · exact va_eqt (hs (.eq (.elem (Term.static "WindowsLookedOut" "ABOVE" "[I") (.int 0)) (.int (-1))) (by decide +kernel))
    · exact va_eqt (hs (.eq (.elem (Term.static "WindowsLookedOut" "ABOVE" "[I") (.int 1)) (.int (0))) (by decide +kernel))
    · exact va_eqt (hs (.eq (.elem (Term.static "WindowsLookedOut" "ABOVE" "[I") (.int 2)) (.int (0))) (by decide +kernel))
    · exact va_eqt (hs (.eq (.elem (Term.static "WindowsLookedOut" "ABOVE" "[I") (.int 3)) (.int (1))) (by decide +kernel))
    · exact va_eqt (hs (.eq (.elem (Term.static "WindowsLookedOut" "ABOVE" "[I") (.int 4)) (.int (0))) (by decide +kernel))
    · exact va_eqt (hs (.eq (.elem (Term.static "WindowsLookedOut" "ABOVE" "[I") (.int 5)) (.int (4))) (by decide +kernel))
    · exact va_eqt (hs (.eq (.elem (Term.static "WindowsLookedOut" "ABOVE" "[I") (.int 6)) (.int (2))) (by decide +kernel))) hA
  obtain ⟨tB, etB, TtB⟩ := va_Tof (s := s) (args := #[Value.ref b]) (tm := (Term.static "WindowsLookedOut$Moves" "BODIES" "[I")) (ty := .int) (N := 21) (f := fun j => .int (iI (fBo.getD j 0))) (A := fun q : Nat => s.heap.size ≤ q) (by decide) (hs (.arrayOf (Term.static "WindowsLookedOut$Moves" "BODIES" "[I") .int) (by decide +kernel)) (va_eqt (hs (.eq (.length (Term.static "WindowsLookedOut$Moves" "BODIES" "[I")) (.int 21)) (by decide +kernel))) (fun j hj => by
    rcases (show j = 0 ∨ j = 1 ∨ j = 2 ∨ j = 3 ∨ j = 4 ∨ j = 5 ∨ j = 6 ∨ j = 7 ∨ j = 8 ∨ j = 9 ∨ j = 10 ∨ j = 11 ∨ j = 12 ∨ j = 13 ∨ j = 14 ∨ j = 15 ∨ j = 16 ∨ j = 17 ∨ j = 18 ∨ j = 19 ∨ j = 20 by omega) with rfl | rfl | rfl | rfl | rfl | rfl | rfl | rfl | rfl | rfl | rfl | rfl | rfl | rfl | rfl | rfl | rfl | rfl | rfl | rfl | rfl
    · exact va_eqt (hs (.eq (.elem (Term.static "WindowsLookedOut$Moves" "BODIES" "[I") (.int 0)) (.int (10))) (by decide +kernel))
    · exact va_eqt (hs (.eq (.elem (Term.static "WindowsLookedOut$Moves" "BODIES" "[I") (.int 1)) (.int (11))) (by decide +kernel))
    · exact va_eqt (hs (.eq (.elem (Term.static "WindowsLookedOut$Moves" "BODIES" "[I") (.int 2)) (.int (12))) (by decide +kernel))
    · exact va_eqt (hs (.eq (.elem (Term.static "WindowsLookedOut$Moves" "BODIES" "[I") (.int 3)) (.int (20))) (by decide +kernel))
    · exact va_eqt (hs (.eq (.elem (Term.static "WindowsLookedOut$Moves" "BODIES" "[I") (.int 4)) (.int (-1))) (by decide +kernel))
    · exact va_eqt (hs (.eq (.elem (Term.static "WindowsLookedOut$Moves" "BODIES" "[I") (.int 5)) (.int (-1))) (by decide +kernel))
    · exact va_eqt (hs (.eq (.elem (Term.static "WindowsLookedOut$Moves" "BODIES" "[I") (.int 6)) (.int (-1))) (by decide +kernel))
    · exact va_eqt (hs (.eq (.elem (Term.static "WindowsLookedOut$Moves" "BODIES" "[I") (.int 7)) (.int (30))) (by decide +kernel))
    · exact va_eqt (hs (.eq (.elem (Term.static "WindowsLookedOut$Moves" "BODIES" "[I") (.int 8)) (.int (-1))) (by decide +kernel))
    · exact va_eqt (hs (.eq (.elem (Term.static "WindowsLookedOut$Moves" "BODIES" "[I") (.int 9)) (.int (40))) (by decide +kernel))
    · exact va_eqt (hs (.eq (.elem (Term.static "WindowsLookedOut$Moves" "BODIES" "[I") (.int 10)) (.int (-1))) (by decide +kernel))
    · exact va_eqt (hs (.eq (.elem (Term.static "WindowsLookedOut$Moves" "BODIES" "[I") (.int 11)) (.int (-1))) (by decide +kernel))
    · exact va_eqt (hs (.eq (.elem (Term.static "WindowsLookedOut$Moves" "BODIES" "[I") (.int 12)) (.int (51))) (by decide +kernel))
    · exact va_eqt (hs (.eq (.elem (Term.static "WindowsLookedOut$Moves" "BODIES" "[I") (.int 13)) (.int (-1))) (by decide +kernel))
    · exact va_eqt (hs (.eq (.elem (Term.static "WindowsLookedOut$Moves" "BODIES" "[I") (.int 14)) (.int (50))) (by decide +kernel))
    · exact va_eqt (hs (.eq (.elem (Term.static "WindowsLookedOut$Moves" "BODIES" "[I") (.int 15)) (.int (-1))) (by decide +kernel))
    · exact va_eqt (hs (.eq (.elem (Term.static "WindowsLookedOut$Moves" "BODIES" "[I") (.int 16)) (.int (-1))) (by decide +kernel))
    · exact va_eqt (hs (.eq (.elem (Term.static "WindowsLookedOut$Moves" "BODIES" "[I") (.int 17)) (.int (60))) (by decide +kernel))
    · exact va_eqt (hs (.eq (.elem (Term.static "WindowsLookedOut$Moves" "BODIES" "[I") (.int 18)) (.int (70))) (by decide +kernel))
    · exact va_eqt (hs (.eq (.elem (Term.static "WindowsLookedOut$Moves" "BODIES" "[I") (.int 19)) (.int (71))) (by decide +kernel))
    · exact va_eqt (hs (.eq (.elem (Term.static "WindowsLookedOut$Moves" "BODIES" "[I") (.int 20)) (.int (-1))) (by decide +kernel))) hA
  have Z1 := va_Zof (hts _ (tb_m 357 (by decide +kernel))) (hts _ (tb_m 1 (by decide +kernel))) etA hA
  have Z2 := va_Zof (hts _ (tb_m 917 (by decide +kernel))) (hts _ (tb_m 7 (by decide +kernel))) etB hA
  have Z3 := va_Zof (hts _ (tb_m 602 (by decide +kernel))) (hts _ (tb_m 15 (by decide +kernel))) (va_eqt (hs (.eq (Term.static "java/lang/String" "COMPACT_STRINGS" "Z") (.int 1)) (by decide +kernel))) hA
  have Z4 := va_Zqof (hts _ (tb_m 618 (by decide +kernel))) (hts _ (tb_m 17 (by decide +kernel))) (hs (.isRef (Term.static "jdk/internal/util/Preconditions" "SIOOBE_FORMATTER" "Ljava/util/function/BiFunction;")) (by decide +kernel)) hA
  obtain ⟨aK, aV, S5, hE⟩ := vk_Sof (s := s) (args := #[Value.ref b]) (N := 5) (tm := tmS) (len := lenS) (byt := bytS) (A := fun q : Nat => s.heap.size ≤ q) (by decide) (fun i h => by
    rcases (show i = 0 ∨ i = 1 ∨ i = 2 ∨ i = 3 ∨ i = 4 by omega) with rfl | rfl | rfl | rfl | rfl
    · exact hs (.exactly (Term.string "WindowsLookedOut$Reader" 78) "java/lang/String") (by decide +kernel)
    · exact hs (.exactly (Term.string "WindowsLookedOut$Reader" 104) "java/lang/String") (by decide +kernel)
    · exact hs (.exactly (Term.string "WindowsLookedOut$Reader" 109) "java/lang/String") (by decide +kernel)
    · exact hs (.exactly (Term.string "WindowsLookedOut$Reader" 128) "java/lang/String") (by decide +kernel)
    · exact hs (.exactly (Term.string "WindowsLookedOut$Reader" 139) "java/lang/String") (by decide +kernel)) (fun i h => by
    rcases (show i = 0 ∨ i = 1 ∨ i = 2 ∨ i = 3 ∨ i = 4 by omega) with rfl | rfl | rfl | rfl | rfl
    · exact hs (.eq (.field (Term.string "WindowsLookedOut$Reader" 78) "java/lang/String" "coder" "B") (.int 0)) (by decide +kernel)
    · exact hs (.eq (.field (Term.string "WindowsLookedOut$Reader" 104) "java/lang/String" "coder" "B") (.int 0)) (by decide +kernel)
    · exact hs (.eq (.field (Term.string "WindowsLookedOut$Reader" 109) "java/lang/String" "coder" "B") (.int 0)) (by decide +kernel)
    · exact hs (.eq (.field (Term.string "WindowsLookedOut$Reader" 128) "java/lang/String" "coder" "B") (.int 0)) (by decide +kernel)
    · exact hs (.eq (.field (Term.string "WindowsLookedOut$Reader" 139) "java/lang/String" "coder" "B") (.int 0)) (by decide +kernel)) (fun i h => by
    rcases (show i = 0 ∨ i = 1 ∨ i = 2 ∨ i = 3 ∨ i = 4 by omega) with rfl | rfl | rfl | rfl | rfl
    · exact hs (.arrayOf (.field (Term.string "WindowsLookedOut$Reader" 78) "java/lang/String" "value" "[B") .byte) (by decide +kernel)
    · exact hs (.arrayOf (.field (Term.string "WindowsLookedOut$Reader" 104) "java/lang/String" "value" "[B") .byte) (by decide +kernel)
    · exact hs (.arrayOf (.field (Term.string "WindowsLookedOut$Reader" 109) "java/lang/String" "value" "[B") .byte) (by decide +kernel)
    · exact hs (.arrayOf (.field (Term.string "WindowsLookedOut$Reader" 128) "java/lang/String" "value" "[B") .byte) (by decide +kernel)
    · exact hs (.arrayOf (.field (Term.string "WindowsLookedOut$Reader" 139) "java/lang/String" "value" "[B") .byte) (by decide +kernel)) (fun i h => by
    rcases (show i = 0 ∨ i = 1 ∨ i = 2 ∨ i = 3 ∨ i = 4 by omega) with rfl | rfl | rfl | rfl | rfl
    · exact hs (.eq (.length (.field (Term.string "WindowsLookedOut$Reader" 78) "java/lang/String" "value" "[B")) (.int 5)) (by decide +kernel)
    · exact hs (.eq (.length (.field (Term.string "WindowsLookedOut$Reader" 104) "java/lang/String" "value" "[B")) (.int 4)) (by decide +kernel)
    · exact hs (.eq (.length (.field (Term.string "WindowsLookedOut$Reader" 109) "java/lang/String" "value" "[B")) (.int 4)) (by decide +kernel)
    · exact hs (.eq (.length (.field (Term.string "WindowsLookedOut$Reader" 128) "java/lang/String" "value" "[B")) (.int 6)) (by decide +kernel)
    · exact hs (.eq (.length (.field (Term.string "WindowsLookedOut$Reader" 139) "java/lang/String" "value" "[B")) (.int 5)) (by decide +kernel)) (fun i h j hj => by
    rcases (show i = 0 ∨ i = 1 ∨ i = 2 ∨ i = 3 ∨ i = 4 by omega) with rfl | rfl | rfl | rfl | rfl
    · have hj2 : j < 5 := hj
      rcases (show j = 0 ∨ j = 1 ∨ j = 2 ∨ j = 3 ∨ j = 4 by omega) with rfl | rfl | rfl | rfl | rfl
      · exact hs (.eq (.elem (.field (Term.string "WindowsLookedOut$Reader" 78) "java/lang/String" "value" "[B") (.int 0)) (.int 104)) (by decide +kernel)
      · exact hs (.eq (.elem (.field (Term.string "WindowsLookedOut$Reader" 78) "java/lang/String" "value" "[B") (.int 1)) (.int 111)) (by decide +kernel)
      · exact hs (.eq (.elem (.field (Term.string "WindowsLookedOut$Reader" 78) "java/lang/String" "value" "[B") (.int 2)) (.int 117)) (by decide +kernel)
      · exact hs (.eq (.elem (.field (Term.string "WindowsLookedOut$Reader" 78) "java/lang/String" "value" "[B") (.int 3)) (.int 115)) (by decide +kernel)
      · exact hs (.eq (.elem (.field (Term.string "WindowsLookedOut$Reader" 78) "java/lang/String" "value" "[B") (.int 4)) (.int 101)) (by decide +kernel)
    · have hj2 : j < 4 := hj
      rcases (show j = 0 ∨ j = 1 ∨ j = 2 ∨ j = 3 by omega) with rfl | rfl | rfl | rfl
      · exact hs (.eq (.elem (.field (Term.string "WindowsLookedOut$Reader" 104) "java/lang/String" "value" "[B") (.int 0)) (.int 121)) (by decide +kernel)
      · exact hs (.eq (.elem (.field (Term.string "WindowsLookedOut$Reader" 104) "java/lang/String" "value" "[B") (.int 1)) (.int 97)) (by decide +kernel)
      · exact hs (.eq (.elem (.field (Term.string "WindowsLookedOut$Reader" 104) "java/lang/String" "value" "[B") (.int 2)) (.int 114)) (by decide +kernel)
      · exact hs (.eq (.elem (.field (Term.string "WindowsLookedOut$Reader" 104) "java/lang/String" "value" "[B") (.int 3)) (.int 100)) (by decide +kernel)
    · have hj2 : j < 4 := hj
      rcases (show j = 0 ∨ j = 1 ∨ j = 2 ∨ j = 3 by omega) with rfl | rfl | rfl | rfl
      · exact hs (.eq (.elem (.field (Term.string "WindowsLookedOut$Reader" 109) "java/lang/String" "value" "[B") (.int 0)) (.int 112)) (by decide +kernel)
      · exact hs (.eq (.elem (.field (Term.string "WindowsLookedOut$Reader" 109) "java/lang/String" "value" "[B") (.int 1)) (.int 97)) (by decide +kernel)
      · exact hs (.eq (.elem (.field (Term.string "WindowsLookedOut$Reader" 109) "java/lang/String" "value" "[B") (.int 2)) (.int 110)) (by decide +kernel)
      · exact hs (.eq (.elem (.field (Term.string "WindowsLookedOut$Reader" 109) "java/lang/String" "value" "[B") (.int 3)) (.int 101)) (by decide +kernel)
    · have hj2 : j < 6 := hj
      rcases (show j = 0 ∨ j = 1 ∨ j = 2 ∨ j = 3 ∨ j = 4 ∨ j = 5 by omega) with rfl | rfl | rfl | rfl | rfl | rfl
      · exact hs (.eq (.elem (.field (Term.string "WindowsLookedOut$Reader" 128) "java/lang/String" "value" "[B") (.int 0)) (.int 119)) (by decide +kernel)
      · exact hs (.eq (.elem (.field (Term.string "WindowsLookedOut$Reader" 128) "java/lang/String" "value" "[B") (.int 1)) (.int 97)) (by decide +kernel)
      · exact hs (.eq (.elem (.field (Term.string "WindowsLookedOut$Reader" 128) "java/lang/String" "value" "[B") (.int 2)) (.int 108)) (by decide +kernel)
      · exact hs (.eq (.elem (.field (Term.string "WindowsLookedOut$Reader" 128) "java/lang/String" "value" "[B") (.int 3)) (.int 107)) (by decide +kernel)
      · exact hs (.eq (.elem (.field (Term.string "WindowsLookedOut$Reader" 128) "java/lang/String" "value" "[B") (.int 4)) (.int 101)) (by decide +kernel)
      · exact hs (.eq (.elem (.field (Term.string "WindowsLookedOut$Reader" 128) "java/lang/String" "value" "[B") (.int 5)) (.int 114)) (by decide +kernel)
    · have hj2 : j < 5 := hj
      rcases (show j = 0 ∨ j = 1 ∨ j = 2 ∨ j = 3 ∨ j = 4 by omega) with rfl | rfl | rfl | rfl | rfl
      · exact hs (.eq (.elem (.field (Term.string "WindowsLookedOut$Reader" 139) "java/lang/String" "value" "[B") (.int 0)) (.int 114)) (by decide +kernel)
      · exact hs (.eq (.elem (.field (Term.string "WindowsLookedOut$Reader" 139) "java/lang/String" "value" "[B") (.int 1)) (.int 101)) (by decide +kernel)
      · exact hs (.eq (.elem (.field (Term.string "WindowsLookedOut$Reader" 139) "java/lang/String" "value" "[B") (.int 2)) (.int 97)) (by decide +kernel)
      · exact hs (.eq (.elem (.field (Term.string "WindowsLookedOut$Reader" 139) "java/lang/String" "value" "[B") (.int 3)) (.int 99)) (by decide +kernel)
      · exact hs (.eq (.elem (.field (Term.string "WindowsLookedOut$Reader" 139) "java/lang/String" "value" "[B") (.int 4)) (.int 104)) (by decide +kernel)) (fun i j h1 h2 hij => by
    rcases (show i = 0 ∨ i = 1 ∨ i = 2 ∨ i = 3 ∨ i = 4 by omega) with rfl | rfl | rfl | rfl | rfl <;> rcases (show j = 0 ∨ j = 1 ∨ j = 2 ∨ j = 3 ∨ j = 4 by omega) with rfl | rfl | rfl | rfl | rfl
    · exact absurd rfl hij
    · exact Or.inl (hs (.not (.eq (Term.string "WindowsLookedOut$Reader" 78) (Term.string "WindowsLookedOut$Reader" 104))) (by decide +kernel))
    · exact Or.inl (hs (.not (.eq (Term.string "WindowsLookedOut$Reader" 78) (Term.string "WindowsLookedOut$Reader" 109))) (by decide +kernel))
    · exact Or.inl (hs (.not (.eq (Term.string "WindowsLookedOut$Reader" 78) (Term.string "WindowsLookedOut$Reader" 128))) (by decide +kernel))
    · exact Or.inl (hs (.not (.eq (Term.string "WindowsLookedOut$Reader" 78) (Term.string "WindowsLookedOut$Reader" 139))) (by decide +kernel))
    · exact Or.inr (hs (.not (.eq (Term.string "WindowsLookedOut$Reader" 78) (Term.string "WindowsLookedOut$Reader" 104))) (by decide +kernel))
    · exact absurd rfl hij
    · exact Or.inl (hs (.not (.eq (Term.string "WindowsLookedOut$Reader" 104) (Term.string "WindowsLookedOut$Reader" 109))) (by decide +kernel))
    · exact Or.inl (hs (.not (.eq (Term.string "WindowsLookedOut$Reader" 104) (Term.string "WindowsLookedOut$Reader" 128))) (by decide +kernel))
    · exact Or.inl (hs (.not (.eq (Term.string "WindowsLookedOut$Reader" 104) (Term.string "WindowsLookedOut$Reader" 139))) (by decide +kernel))
    · exact Or.inr (hs (.not (.eq (Term.string "WindowsLookedOut$Reader" 78) (Term.string "WindowsLookedOut$Reader" 109))) (by decide +kernel))
    · exact Or.inr (hs (.not (.eq (Term.string "WindowsLookedOut$Reader" 104) (Term.string "WindowsLookedOut$Reader" 109))) (by decide +kernel))
    · exact absurd rfl hij
    · exact Or.inl (hs (.not (.eq (Term.string "WindowsLookedOut$Reader" 109) (Term.string "WindowsLookedOut$Reader" 128))) (by decide +kernel))
    · exact Or.inl (hs (.not (.eq (Term.string "WindowsLookedOut$Reader" 109) (Term.string "WindowsLookedOut$Reader" 139))) (by decide +kernel))
    · exact Or.inr (hs (.not (.eq (Term.string "WindowsLookedOut$Reader" 78) (Term.string "WindowsLookedOut$Reader" 128))) (by decide +kernel))
    · exact Or.inr (hs (.not (.eq (Term.string "WindowsLookedOut$Reader" 104) (Term.string "WindowsLookedOut$Reader" 128))) (by decide +kernel))
    · exact Or.inr (hs (.not (.eq (Term.string "WindowsLookedOut$Reader" 109) (Term.string "WindowsLookedOut$Reader" 128))) (by decide +kernel))
    · exact absurd rfl hij
    · exact Or.inl (hs (.not (.eq (Term.string "WindowsLookedOut$Reader" 128) (Term.string "WindowsLookedOut$Reader" 139))) (by decide +kernel))
    · exact Or.inr (hs (.not (.eq (Term.string "WindowsLookedOut$Reader" 78) (Term.string "WindowsLookedOut$Reader" 139))) (by decide +kernel))
    · exact Or.inr (hs (.not (.eq (Term.string "WindowsLookedOut$Reader" 104) (Term.string "WindowsLookedOut$Reader" 139))) (by decide +kernel))
    · exact Or.inr (hs (.not (.eq (Term.string "WindowsLookedOut$Reader" 109) (Term.string "WindowsLookedOut$Reader" 139))) (by decide +kernel))
    · exact Or.inr (hs (.not (.eq (Term.string "WindowsLookedOut$Reader" 128) (Term.string "WindowsLookedOut$Reader" 139))) (by decide +kernel))
    · exact absurd rfl hij) hA
  have hAA : ∀ q, (∃ c, c < 75 ∧ q = g c) → s.heap.size ≤ q := fun q h => by obtain ⟨c, h1, h2⟩ := h; rw [h2]; exact hg c h1
  refine ⟨(tA, tB), aK, aV, hi, hK, Z1.narrow hAA, TtA.narrow hAA, Z2.narrow hAA, TtB.narrow hAA, S5.narrow hAA, fun q hq => ?_, Z3.narrow hAA, Z4.narrow hAA, fun q hq => ?_⟩
  · simp only [strR, List.mem_cons, List.not_mem_nil, or_false] at hq
    rcases hq with rfl | rfl | rfl | rfl | rfl | rfl | rfl | rfl | rfl | rfl
    · exact vk_R.of (hts _ (tb_m 588 (by decide +kernel))) (hE 0 (by decide))
    · exact vk_R.of (hts _ (tb_m 668 (by decide +kernel))) (hE 1 (by decide))
    · exact vk_R.of (hts _ (tb_m 674 (by decide +kernel))) (hE 2 (by decide))
    · exact vk_R.of (hts _ (tb_m 684 (by decide +kernel))) (hE 3 (by decide))
    · exact vk_R.of (hts _ (tb_m 692 (by decide +kernel))) (hE 4 (by decide))
    · exact vk_R.of (hts _ (tb_m 1226 (by decide +kernel))) (va_eqR (hs (.eq (Term.string "WindowsLookedOut$Reader" 78) (Term.string "WindowsLookedOutModel" 192)) (by decide +kernel)) (hE 0 (by decide)))
    · exact vk_R.of (hts _ (tb_m 1245 (by decide +kernel))) (va_eqR (hs (.eq (Term.string "WindowsLookedOut$Reader" 104) (Term.string "WindowsLookedOutModel" 201)) (by decide +kernel)) (hE 1 (by decide)))
    · exact vk_R.of (hts _ (tb_m 1246 (by decide +kernel))) (va_eqR (hs (.eq (Term.string "WindowsLookedOut$Reader" 109) (Term.string "WindowsLookedOutModel" 203)) (by decide +kernel)) (hE 2 (by decide)))
    · exact vk_R.of (hts _ (tb_m 1251 (by decide +kernel))) (va_eqR (hs (.eq (Term.string "WindowsLookedOut$Reader" 128) (Term.string "WindowsLookedOutModel" 208)) (by decide +kernel)) (hE 3 (by decide)))
    · exact vk_R.of (hts _ (tb_m 1252 (by decide +kernel))) (va_eqR (hs (.eq (Term.string "WindowsLookedOut$Reader" 139) (Term.string "WindowsLookedOutModel" 210)) (by decide +kernel)) (hE 4 (by decide)))
  · simp only [nestR, List.mem_cons, List.not_mem_nil, or_false] at hq
    rcases hq with rfl | rfl | rfl | rfl
    · exact va_Nw.of rfl (hts _ (tb_m 676 (by decide +kernel)))
    · exact va_Nw.of rfl (hts _ (tb_m 693 (by decide +kernel)))
    · exact va_Nw.of rfl (hts _ (tb_m 914 (by decide +kernel)))
    · exact va_Nw.of rfl (hts _ (tb_m 918 (by decide +kernel)))
theorem NKn_all {s : State} {b : Nat} (hts : ∀ w ∈ lw_tbl, w.before #[Value.ref b] s = true) : NKn s := by
  refine ⟨fun q hq => ?_, va_AO.of (hts _ (tb_m 87 (by decide +kernel)))⟩
  simp only [nestC, List.mem_cons, List.not_mem_nil, or_false] at hq
  rcases hq with rfl | rfl | rfl | rfl | rfl | rfl | rfl | rfl
  · exact va_Nw.of rfl (hts _ (tb_m 29 (by decide +kernel)))
  · exact va_Nw.of rfl (hts _ (tb_m 90 (by decide +kernel)))
  · exact va_Nw.of rfl (hts _ (tb_m 95 (by decide +kernel)))
  · exact va_Nw.of rfl (hts _ (tb_m 119 (by decide +kernel)))
  · exact va_Nw.of rfl (hts _ (tb_m 133 (by decide +kernel)))
  · exact va_Nw.of rfl (hts _ (tb_m 160 (by decide +kernel)))
  · exact va_Nw.of rfl (hts _ (tb_m 173 (by decide +kernel)))
  · exact va_Nw.of rfl (hts _ (tb_m 195 (by decide +kernel)))
/-- the first state -/
def tw0 : Tw := (0, fun k => if k = 2 then 4 else if k = 5 then 1 else 0, fun _ _ => 0)
def zt0 : Zt := (tw0, (fun _ => -1, fun _ => 0, fun _ _ => 0), (false, tw0), fun _ => 0, -1, (0, fun _ => 0))
theorem OkT0 : OkT tw0 := ⟨by decide, by decide, by decide, by decide, by decide, by decide, by decide, fun p hp => absurd hp (by show ¬ ((p : Int) < 0); omega), fun p hp => absurd hp (by show ¬ ((p : Int) < 0); omega)⟩
theorem OkI0 : OkI zt0 := by
  refine ⟨⟨OkT0, fun k _ => ⟨by show OkH (-1) 0; unfold OkH; omega, fun _ => ⟨show (-1 : Int) < 0 by decide, rfl⟩⟩, fun h => absurd h Bool.false_ne_true, show (0 : Int) ≤ 0 by decide, show (0 : Int) ≤ 1000 by decide⟩, fun w hw => absurd hw (by show ¬ ((w : Int) < 0); omega), fun h => absurd h Bool.false_ne_true⟩
theorem RelX0 : RelX zt0 sg0 := by
  refine ⟨⟨rfl, fun k hk => ?_, fun j p hj hp => absurd hp (by show ¬ ((p : Int) < 0); omega), fun j p hj hp => absurd hp (by show ¬ ((p : Int) < 0); omega)⟩, fun k hk => ⟨?_, ?_, fun i hi => rfl⟩, ⟨rfl, fun h => absurd h Bool.false_ne_true⟩, fun r r1 r2 => ?_, rfl, rfl, fun i i1 i2 => absurd i2 (by show ¬ ((i : Int) < 0); omega)⟩
  · rcases (show k = 0 ∨ k = 1 ∨ k = 2 ∨ k = 3 ∨ k = 4 ∨ k = 5 by omega) with rfl | rfl | rfl | rfl | rfl | rfl <;> decide
  · rcases (show k = 0 ∨ k = 1 ∨ k = 2 ∨ k = 3 ∨ k = 4 ∨ k = 5 ∨ k = 6 ∨ k = 7 by omega) with rfl | rfl | rfl | rfl | rfl | rfl | rfl | rfl <;> decide
  · rcases (show k = 0 ∨ k = 1 ∨ k = 2 ∨ k = 3 ∨ k = 4 ∨ k = 5 ∨ k = 6 ∨ k = 7 by omega) with rfl | rfl | rfl | rfl | rfl | rfl | rfl | rfl <;> decide
  · rcases (show r = 1 ∨ r = 2 ∨ r = 3 ∨ r = 4 ∨ r = 5 ∨ r = 6 ∨ r = 7 by omega) with rfl | rfl | rfl | rfl | rfl | rfl | rfl <;> decide
theorem sg0_0 {c k : Nat} (h : 54 < c ∧ c ≠ 63 ∧ c ≠ 64) : sg0I c k = 0 := by
  unfold sg0I
  rw [if_neg (by omega), if_neg (by omega), if_neg (by omega), if_neg (by omega), if_neg (by omega), if_neg (by omega), if_neg (by omega), if_neg (by omega), if_neg (by omega)]
theorem RelM0 : RelM zt0 sg0 := by
  refine ⟨⟨fun i hi => ?_, rfl, rfl, fun k hk => ?_, rfl, fun j p hj hp => absurd hp (by show ¬ ((p : Int) < 0); omega), fun j p hj hp => absurd hp (by show ¬ ((p : Int) < 0); omega)⟩, fun k hk => ⟨?_, fun h => absurd h (by show ¬ ((100 : Int) ≤ -1); decide), fun i hi => rfl⟩, ⟨rfl, fun h => absurd h Bool.false_ne_true⟩, fun r r1 r2 => (by show sg0I 70 r = 0; exact sg0_0 (by omega)), rfl, rfl, fun i i1 i2 => absurd i2 (by show ¬ ((i : Int) < 0); omega)⟩
  · rw [bI_f (by show ¬ ((0 : Nat).testBit i = true); simp)]; show sg0I 62 i = 0; exact sg0_0 (by omega)
  · rcases (show k = 0 ∨ k = 1 ∨ k = 2 by omega) with rfl | rfl | rfl <;> decide
  · rcases (show k = 0 ∨ k = 1 ∨ k = 2 ∨ k = 3 ∨ k = 4 ∨ k = 5 ∨ k = 6 ∨ k = 7 by omega) with rfl | rfl | rfl | rfl | rfl | rfl | rfl | rfl <;> decide
