/-! PART 56: what always holds of the state -/
def OkI (Z : Zt) : Prop := OkZ Z ∧ OkW Z.1 ∧ (Z.2.2.1.1 = true → OkW Z.2.2.1.2)
theorem OkI.ref {Z : Zt} (h : OkI Z) (t : Int) : OkI (refZ Z t).2 := h
theorem OkI.rea {Z : Zt} (h : OkI Z) (t : Int) : OkI (refA Z t).2 := h
theorem OkI.tw {Z : Zt} (h : OkI Z) {τ : Tw} (h1 : OkT τ) (h2 : OkW τ) (h3 : Z.1.2.1 0 ≤ τ.2.1 0) : OkI (zTw Z τ) := ⟨⟨h1, fun k hk => ⟨(h.1.2.1 k hk).1, fun q => ⟨Int.lt_of_lt_of_le ((h.1.2.1 k hk).2 q).1 h3, ((h.1.2.1 k hk).2 q).2⟩⟩, h.1.2.2⟩, h2, h.2.2⟩
theorem OkI.sh {Z : Zt} (h : OkI Z) {i : Nat} {hd n : Int} {el : Nat → Int64} (h1 : OkH hd n) (h2 : hd < 100 → hd < Z.1.2.1 0 ∧ n = 0) : OkI (zShelf Z i hd n el) := by
  refine ⟨⟨h.1.1, fun k hk => ?_, h.1.2.2⟩, h.2.1, h.2.2⟩
  show OkH (if k = i then hd else Z.2.1.1 k) (if k = i then n else Z.2.1.2.1 k) ∧ ((if k = i then hd else Z.2.1.1 k) < 100 → (if k = i then hd else Z.2.1.1 k) < Z.1.2.1 0 ∧ (if k = i then n else Z.2.1.2.1 k) = 0)
  by_cases e : k = i
  · rw [if_pos e, if_pos e]; exact ⟨h1, h2⟩
  · rw [if_neg e, if_neg e]; exact h.1.2.1 k hk
theorem wAt_n {τ : Tw} {s : Int} (h : ¬ wAt τ s = true) {w : Nat} (hw : (w : Int) < τ.2.1 1) : τ.2.2 4 w ≠ s := by
  have h2 : anyR (fun p => decide (τ.2.2 4 p = s)) (τ.2.1 1).toNat 0 = false := Bool.eq_false_iff.mpr h
  have := anyR_f _ _ h2 w (Nat.zero_le _) (by omega)
  exact of_decide_eq_false this
theorem OkW.o_build {τ : Tw} (h : OkW τ) {s : Int} (hs : inS s) (hn : ¬ wAt τ s = true) : OkW (tH τ (τ.1 ||| sqB s)) := fun w hw => by
  obtain ⟨k, rfl⟩ := Int.eq_ofNat_of_zero_le hs.1
  have o := h w hw
  refine ⟨o.1, fun z => ?_⟩
  rcases (sT_with (by have := hs.2; omega) _).mp z with q | q
  · exact o.2 q
  · exact wAt_n hn hw q
theorem OkW.o_yard {τ : Tw} (h : OkW τ) (m : Nat) : OkW (tH τ (nB τ.1 m)) := fun w hw => by
  have o := h w hw
  refine ⟨o.1, fun z => o.2 ⟨z.1, z.2.1, ?_⟩⟩
  have z2 : (nB τ.1 m).testBit (τ.2.2 4 w).toNat = true := z.2.2
  rw [nB_bit, Bool.and_eq_true] at z2
  exact z2.1
theorem OkW.o_addP {τ : Tw} (h : OkW τ) (k a s w : Int) : OkW (addP τ k a s w) := fun v hv => by
  exact h v hv
theorem OkW.o_addW {τ : Tw} (h : OkW τ) {s w : Int} (hs : opn τ s) (h1 : 0 ≤ τ.2.1 1) : OkW (addW τ s w) := fun v hv => by
  have e1 : (addW τ s w).2.1 1 = τ.2.1 1 + 1 := rfl
  rw [e1] at hv
  have e : (addW τ s w).2.2 4 v = if v = (τ.2.1 1).toNat then s else τ.2.2 4 v := by
    show (if 4 = 6 ∧ v = (τ.2.1 1).toNat then 0 else if 4 = 5 ∧ v = (τ.2.1 1).toNat then w else if 4 = 4 ∧ v = (τ.2.1 1).toNat then s else τ.2.2 4 v) = _
    by_cases z : v = (τ.2.1 1).toNat <;> simp [z]
  show opn τ ((addW τ s w).2.2 4 v)
  rw [e]
  by_cases z : v = (τ.2.1 1).toNat
  · rw [if_pos z]; exact hs
  · rw [if_neg z]; exact h v (by omega)
theorem plc_4 (τ : Tw) (p : Nat) (s w : Int) (v : Nat) : (plc τ p s w).2.2 4 v = if v = p then s else τ.2.2 4 v := by
  show (if 4 = 5 ∧ v = p then w else if 4 = 4 ∧ v = p then s else τ.2.2 4 v) = _
  by_cases z : v = p <;> simp [z]
theorem OkW.o_plc {τ : Tw} (h : OkW τ) {p : Nat} {s w : Int} (hs : opn τ s) : OkW (plc τ p s w) := fun v hv => by
  show opn τ ((plc τ p s w).2.2 4 v)
  rw [plc_4]
  by_cases z : v = p
  · rw [if_pos z]; exact hs
  · rw [if_neg z]; exact h v hv
theorem OkW.o_setS {τ : Tw} (h : OkW τ) {k : Nat} (v : Int) (hk : k ≠ 1) : OkW (tS τ k v) := fun u hu => by
  have e : (tS τ k v).2.1 1 = τ.2.1 1 := if_neg (Ne.symm hk)
  rw [e] at hu
  exact h u hu
theorem OkW.o_bea {τ : Tw} (h : OkW τ) (p : Nat) (m : Int) : OkW (bea τ p m) := by
  unfold bea
  by_cases q : 0 < m
  · rw [if_pos q]
    intro u hu
    have := h.o_setS (k := 4) (τ.2.1 4 + m) (by decide) u hu
    exact this
  · rw [if_neg q]; exact h.o_setS _ (by decide)
theorem OkW.o_stp {τ : Tw} (h : OkW τ) {w : Nat} (hw : (w : Int) < τ.2.1 1) : OkW (stpW τ w) := by
  have h5 : OkW (tS τ 5 (dseed (τ.2.1 5))) := h.o_setS _ (by decide)
  unfold stpW
  refine OkW.o_plc h5 ?_
  show opn τ _
  by_cases q : inS (bes (τ.2.2 4 w) (dval (τ.2.1 5))) ∧ ¬ sT τ.1 (bes (τ.2.2 4 w) (dval (τ.2.1 5)))
  · rw [if_pos q]; exact q
  · rw [if_neg q]; exact h w hw
theorem stpW_n (τ : Tw) (w : Nat) : (stpW τ w).2.1 1 = τ.2.1 1 ∧ (stpW τ w).2.1 0 = τ.2.1 0 := ⟨rfl, rfl⟩
theorem OkW.o_stpG : ∀ (n i : Nat) (τ : Tw), OkW τ → (i : Int) + n ≤ τ.2.1 1 → OkW (stpG n i τ) ∧ (stpG n i τ).2.1 0 = τ.2.1 0
  | 0, _, _, h, _ => ⟨h, rfl⟩
  | n + 1, i, τ, h, hn => by
    have z := OkW.o_stpG n (i + 1) (stpW τ i) (h.o_stp (by omega)) (by rw [(stpW_n τ i).1]; omega)
    exact ⟨z.1, z.2.trans (stpW_n τ i).2⟩
theorem bea_n (τ : Tw) (p : Nat) (m : Int) : (bea τ p m).2.1 0 = τ.2.1 0 := by
  unfold bea
  by_cases q : 0 < m
  · rw [if_pos q]; rfl
  · rw [if_neg q]; rfl
theorem OkW.o_beaG : ∀ (n i : Nat) (τ : Tw), OkW τ → OkW (beaG n i τ) ∧ (beaG n i τ).2.1 0 = τ.2.1 0
  | 0, _, _, h => ⟨h, rfl⟩
  | n + 1, i, τ, h => by
    have z := OkW.o_beaG n (i + 1) _ (h.o_bea i (sham τ (τ.2.2 4 i) (τ.2.2 5 i)))
    exact ⟨z.1, z.2.trans (bea_n _ _ _)⟩
theorem OkW.o_day {τ : Tw} (h : OkW τ) (h1 : 0 ≤ τ.2.1 1) : OkW (day τ) ∧ (day τ).2.1 0 = τ.2.1 0 := by
  have a := OkW.o_stpG (τ.2.1 1).toNat 0 (tS τ 3 (τ.2.1 3 + 1)) (h.o_setS _ (by decide)) (by show _ ≤ τ.2.1 1; omega)
  have b := OkW.o_beaG (τ.2.1 1).toNat 0 _ a.1
  exact ⟨b.1, b.2.trans a.2⟩
theorem OkW.o_dayN : ∀ (n : Nat) (τ : Tw), OkW τ → OkT τ → OkW (dayN n τ) ∧ (dayN n τ).2.1 0 = τ.2.1 0
  | 0, _, h, _ => ⟨h, rfl⟩
  | n + 1, τ, h, ho => by
    have a := h.o_day ho.2.2.2.1
    have z := OkW.o_dayN n (day τ) a.1 ho.okDay
    exact ⟨z.1, z.2.trans a.2⟩
theorem wkG_opn {τ : Tw} {e : Nat → Int} : ∀ (n i : Nat) (a f s : Int) (l : Nat), opn τ a → opn τ (wkG τ e n i a f s l).2.1
  | 0, _, _, _, _, _, h => h
  | n + 1, i, a, f, s, l, h => by
    by_cases q : opn τ (bes a (e i))
    · rw [wkG_y q]; exact wkG_opn n _ _ _ _ _ q
    · rw [wkG_n q]; exact h
/-- a text's items keep it -/
theorem itF_w {l : Nat → Int} {s p : Int} {τ : Tw} (hO : OkT τ) (hW : OkW τ) (p1 : 0 ≤ p) (p2 : p ≤ s) (h : (itF (gS l s) τ p).1.1 = true) : OkW (itF (gS l s) τ p).2 ∧ τ.2.1 0 ≤ (itF (gS l s) τ p).2.2.1 0 := by
  have a := hR1_bd (l := l) (τ := τ) p1 p2
  have d := wR_bd (l := l) (τ := τ) p1 p2
  unfold itF at h ⊢
  split at h
  · rename_i q
    rw [if_pos q, itH_t (Rd_t (show (hR1 (gS l s) τ p).1 = true from h))]
    have z := (a.2.2 h).2
    exact ⟨hW.o_build z.1 z.2, Int.le_refl _⟩
  rename_i q1
  rw [if_neg q1]
  split at h
  · rename_i q
    rw [if_pos q, itY_t (Rd_t (show (yR1 (gS l s) τ p).1 = true from h))]
    exact ⟨hW.o_yard _, Int.le_refl _⟩
  rename_i q2
  rw [if_neg q2]
  split at h
  · rename_i q
    rw [if_pos q, itP_t (Rd_t (show (pR6 (gS l s) τ p).1 = true from h))]
    refine ⟨hW.o_addP _ _ _ _, ?_⟩
    show τ.2.1 0 ≤ τ.2.1 0 + 1
    omega
  rename_i q3
  rw [if_neg q3]
  split at h
  · rename_i q
    rw [if_pos q, itW_t (Rd_t (show (wR4 (gS l s) τ p).1 = true from h))]
    have z := (d.2.2.2 h).2.2.1
    exact ⟨hW.o_addW z hO.2.2.2.1, Int.le_refl _⟩
  rename_i q4
  rw [if_neg q4]
  split at h
  · rename_i q
    rw [if_pos q, itR_t (Rd_t (show (rR1 (gS l s) p).1 = true from h))]
    exact ⟨hW.o_setS _ (by decide), Int.le_refl _⟩
  · exact absurd h Bool.false_ne_true
theorem tnF_w {l : Nat → Int} {s : Int} : ∀ (n : Nat) (k : Int) (τ : Tw) (p : Int), OkT τ → OkW τ → 0 ≤ p → p ≤ s → (tnF (gS l s) s n k τ p).1.1 = true → OkT (tnF (gS l s) s n k τ p).2 ∧ OkW (tnF (gS l s) s n k τ p).2 ∧ τ.2.1 0 ≤ (tnF (gS l s) s n k τ p).2.2.1 0
  | 0, k, τ, p, _, _, _, _, h => absurd h Bool.false_ne_true
  | n + 1, k, τ, p, hO, hW, p1, p2, h => by
    by_cases q : (itF (gS l s) τ p).1.1 = true
    · have w := itF_w hO hW p1 p2 q
      have o := hO_it hO p1 p2 q
      have bd := itF_bd (l := l) (τ := τ) p1 p2
      by_cases q2 : (itF (gS l s) τ p).1.2 = s
      · rw [tnF_y q q2]; exact ⟨o, w⟩
      · by_cases q3 : gS l s (itF (gS l s) τ p).1.2 = 59
        · rw [tnF_n q q2 q3] at h ⊢
          have lt := sep_59 rfl q3
          have z := tnF_w n (k + 1) _ _ o w.1 (by have := bd.1; omega) (by omega) h
          exact ⟨z.1, z.2.1, Int.le_trans w.2 z.2.2⟩
        · rw [tnF_s q q2 q3] at h; exact absurd h Bool.false_ne_true
    · rw [tnF_f (Bool.eq_false_iff.mpr q)] at h; exact absurd h Bool.false_ne_true
theorem OkI.oSays {Z : Zt} (h : OkI Z) (a b : Int) : OkI (qSays Z a b).2 := by
  unfold qSays
  (repeat' split) <;> exact h
theorem OkI.oPaneOf {Z : Zt} (h : OkI Z) (a b : Int) : OkI (qPaneOf Z a b).2 := by
  unfold qPaneOf
  (repeat' split) <;> exact h
theorem OkI.oWalkerOf {Z : Zt} (h : OkI Z) (a b : Int) : OkI (qWalkerOf Z a b).2 := by
  unfold qWalkerOf
  (repeat' split) <;> exact h
theorem OkI.oSeen {Z : Zt} (h : OkI Z) (a b : Int) : OkI (qSeen Z a b).2 := by
  unfold qSeen
  (repeat' split) <;> exact h
theorem OkI.oLooks {Z : Zt} (h : OkI Z) (a b : Int) : OkI (qLooks Z a b).2 := by
  unfold qLooks
  (repeat' split) <;> exact h
theorem OkI.oAll {Z : Zt} (h : OkI Z) : OkI (qAll Z).2 := by
  unfold qAll
  (repeat' split) <;> exact h
theorem OkI.oTurn {Z : Zt} (h : OkI Z) (a b : Int) : OkI (qTurn Z a b).2 := by
  unfold qTurn
  (repeat' split) <;> exact h
theorem OkI.oWay {Z : Zt} (h : OkI Z) (a b c : Int) : OkI (qWay Z a b c).2 := by
  unfold qWay
  (repeat' split) <;> exact h
theorem OkI.oCover {Z : Zt} (h : OkI Z) (a : Int) : OkI (qCover Z a).2 := by
  unfold qCover
  (repeat' split) <;> exact h
theorem OkI.oSole {Z : Zt} (h : OkI Z) : OkI (qSole Z).2 := by
  unfold qSole
  (repeat' split) <;> exact h
theorem OkI.oWhere {Z : Zt} (h : OkI Z) (a b : Int) : OkI (qWhere Z a b).2 := by
  unfold qWhere
  (repeat' split) <;> exact h
theorem OkI.oAsk {Z : Zt} (h : OkI Z) (a : Int) : OkI (qAsk Z a).2 := by
  unfold qAsk
  (repeat' split) <;> exact h
theorem OkI.oFresh {Z : Zt} (h : OkI Z) (a : Int) : OkI (qFresh Z a).2 := by
  unfold qFresh
  (repeat' split) <;> exact h
theorem OkI.oHoused {Z : Zt} (h : OkI Z) (a : Int) : OkI (qHoused Z a).2 := by
  unfold qHoused
  (repeat' split) <;> exact h
theorem OkI.oMeet {Z : Zt} (h : OkI Z) (a b c : Int) : OkI (qMeet Z a b c).2 := by
  unfold qMeet
  (repeat' split) <;> exact h
theorem OkI.oJudge {Z : Zt} (h : OkI Z) (a b c : Int) : OkI (qJudge Z a b c).2 := by
  unfold qJudge
  (repeat' split) <;> exact h
theorem OkI.oBehind {Z : Zt} (h : OkI Z) (a b c e : Int) : OkI (qBehind Z a b c e).2 := by
  unfold qBehind
  (repeat' split) <;> exact h
theorem OkI.oRow {Z : Zt} (h : OkI Z) (a b c : Int) : OkI (qRow Z a b c).2 := by
  unfold qRow
  (repeat' split) <;> first | exact h | skip
  exact h.sh (by unfold OkH; omega) (by omega)
theorem OkI.oSet {Z : Zt} (h : OkI Z) (a b : Int) (v : Int64) : OkI (qSet Z a b v).2 := by
  unfold qSet
  split
  · exact h
  rename_i h1
  have h0 := rowT_0 (Decidable.not_not.mp h1)
  split
  · exact h
  · exact h.sh (h.1.2.1 _ (by omega)).1 (h.1.2.1 _ (by omega)).2
theorem OkI.oCopy {Z : Zt} (h : OkI Z) (a b c d e : Int) : OkI (qCopy Z a b c d e).2 := by
  unfold qCopy
  split
  · exact h
  rename_i h1
  have h0 := copyT_0 (Decidable.not_not.mp h1)
  exact h.sh (h.1.2.1 _ (by omega)).1 (h.1.2.1 _ (by omega)).2
theorem OkI.oShow {Z : Zt} (h : OkI Z) (a b : Int) : OkI (qShow Z a b).2 := by
  have o3 := h.1.1.2.2.1
  have o2 := h.1.1.2.1
  unfold qShow
  split
  · exact h
  · refine h.sh (by unfold OkH; omega) (fun _ => ⟨by omega, rfl⟩)
theorem OkI.oHouse {Z : Zt} (h : OkI Z) (a : Int) (b : Bool) : OkI (qHouse Z a b).2 := by
  unfold qHouse
  split
  · exact h
  · rename_i q
    have q1 : 0 ≤ a ∧ a < 49 := Decidable.not_not.mp (fun z => q (Or.inl z))
    have q2 : ¬ wAt Z.1 a = true := fun z => q (Or.inr (Or.inl z))
    cases b
    · exact h.tw (h.1.1.house (nB_lt h.1.1.1)) (h.2.1.o_yard _) (Int.le_refl _)
    · exact h.tw (h.1.1.house (or49 h.1.1.1 (sqB_lt _))) (h.2.1.o_build q1 q2) (Int.le_refl _)
theorem OkI.oPane {Z : Zt} (h : OkI Z) (a b c d : Int) : OkI (qPane Z a b c d).2 := by
  unfold qPane
  (repeat' split) <;> first | exact h | skip
  rename_i q1 q2 q3
  have g1 := Decidable.not_not.mp q1
  have g2 := Decidable.not_not.mp q2
  refine h.tw (h.1.1.okAddP (Decidable.not_not.mp q3) g1 g2.1 ⟨g2.2.1.1, g2.2.1.2.1⟩ g2.2.2) (h.2.1.o_addP _ _ _ _) ?_
  show Z.1.2.1 0 ≤ Z.1.2.1 0 + 1
  omega
theorem OkI.oWalker {Z : Zt} (h : OkI Z) (a b : Int) : OkI (qWalker Z a b).2 := by
  unfold qWalker
  (repeat' split) <;> first | exact h | skip
  rename_i q2 q3
  have g2 := Decidable.not_not.mp q2
  exact h.tw (h.1.1.okAddW (Decidable.not_not.mp q3) g2.1.1 g2.2) (h.2.1.o_addW g2.1 h.1.1.2.2.2.1) (Int.le_refl _)
theorem OkI.oPut {Z : Zt} (h : OkI Z) (a b c : Int) : OkI (qPut Z a b c).2 := by
  unfold qPut
  (repeat' split) <;> first | exact h | skip
  rename_i q1 q2
  have g2 := Decidable.not_not.mp q2
  exact h.tw (h.1.1.okPlc g2.1.1.1 (by have := g2.1.1.2; omega) g2.2.1 (by have := g2.2.2; omega)) (h.2.1.o_plc g2.1) (Int.le_refl _)
theorem OkI.oReach {Z : Zt} (h : OkI Z) (a : Int) : OkI (qReach Z a).2 := by
  unfold qReach
  split
  · exact h
  · rename_i q
    have g := Decidable.not_not.mp q
    exact h.tw (h.1.1.okReach g.1 g.2) (h.2.1.o_setS _ (by decide)) (Int.le_refl _)
theorem OkI.flt {Z : Zt} (h : OkI Z) (f : Int) : OkI (zFlt Z f) := h
theorem OkI.oTown {Z : Zt} (h : OkI Z) (a : Int) : OkI (qTown Z a).2 := by
  unfold qTown
  split
  · exact h
  rename_i h1
  have h0 := rowT_0 (Decidable.not_not.mp h1)
  have ko := (h.1.2.1 a.toNat (by omega)).1
  unfold qTown2
  split
  · rename_i q
    have z := tnF_w (l := elV Z a.toNat) (s := Z.2.1.2.1 a.toNat) 160 1 Z.1 0 h.1.1 h.2.1 (Int.le_refl 0) ko.2.2.1 q
    exact (h.tw z.1 z.2.1 z.2.2).flt _
  · exact (h.flt _).ref _
theorem OkI.oDone {Z : Zt} (h : OkI Z) (a b c : Int) : OkI (qDone Z a b c).2 := by
  unfold qDone
  split
  · exact h
  rename_i h1
  split
  · exact h
  have h0 := wkT_0 (Decidable.not_not.mp h1)
  have hw : (b.toNat : Int) < Z.1.2.1 1 := by omega
  have hb := h.1.1.2.2.2.2.2.2.2.2 _ hw
  have op : opn Z.1 (wkR Z a b c).2.1 := wkG_opn _ _ _ _ _ _ (h.2.1 _ hw)
  have ok := wkG_ok (τ := Z.1) (e := elV Z a.toNat) (n := c.toNat) (i := 0) (a := Z.1.2.2 4 b.toNat) (f := Z.1.2.2 5 b.toNat) (s := 0) (l := 0) (h.2.1 _ hw).1 hb.2.2.1 (by omega) (by omega)
  have e : wkG Z.1 (elV Z a.toNat) c.toNat 0 (Z.1.2.2 4 b.toNat) (Z.1.2.2 5 b.toNat) 0 0 = wkR Z a b c := rfl
  rw [e] at ok
  have o1 : OkT (plc Z.1 b.toNat (wkR Z a b c).2.1 (wkR Z a b c).2.2.1) := h.1.1.okPlc op.1.1 (by have := op.1.2; omega) ok.2.2.1.1 (by have := ok.2.2.1.2; omega)
  exact h.tw (o1.okBea _ _) ((h.2.1.o_plc op).o_bea _ _) (by unfold wkD; rw [bea_n]; exact Int.le_refl _)
theorem OkI.oDays {Z : Zt} (h : OkI Z) (a : Int) : OkI (qDays Z a).2 := by
  unfold qDays
  split
  · exact h
  split
  · exact h
  · have z := OkW.o_dayN a.toNat Z.1 h.2.1 h.1.1
    exact h.tw h.1.1.okDayN z.1 (by rw [z.2]; exact Int.le_refl _)
theorem OkI.oSeed {Z : Zt} (h : OkI Z) (a : Int) : OkI (qSeed Z a).2 := h.tw (h.1.1.setS _ (by decide)) (h.2.1.o_setS _ (by decide)) (Int.le_refl _)
theorem OkI.trc {Z : Zt} (h : OkI Z) {c : Int × (Nat → Int)} (c0 : 0 ≤ c.1) (c1 : c.1 ≤ 1000) : OkI (zTrc Z c) := ⟨⟨h.1.1, h.1.2.1, h.1.2.2.1, c0, c1⟩, h.2⟩
theorem OkI.oAct {Z : Zt} (h : OkI Z) (a b c : Int) : OkI (qAct Z a b c).2 := by
  unfold qAct
  split
  · have z := vMv_c a (Z.1.2.2 1 a.toNat) (Z.1.2.2 0 a.toNat) b c (0, Z.2.2.2.2.2.2)
    exact h.trc z.1 (by have := z.2; have e : ((0 : Int), Z.2.2.2.2.2.2).1 = 0 := rfl; omega)
  · exact h.trc (Int.le_refl 0) (show (0 : Int) ≤ 1000 by decide)
theorem OkI.oImage {Z : Zt} (h : OkI Z) : OkI (qImage Z).2 := ⟨⟨h.1.1, h.1.2.1, fun _ => h.1.1, h.1.2.2.2⟩, h.2.1, fun _ => h.2.1⟩
theorem rstG_ok {τ : Tw} (hT : OkT τ) : ∀ (n i : Nat) (Z : Zt), i + n = 8 → Z.1 = τ → OkS Z → (∀ k, k < 8 → Z.2.1.1 k < 100 → Z.2.1.2.1 k = 0) → (∀ k, k < i → Z.2.1.1 k < 100 → Z.2.1.1 k < τ.2.1 0) → (rstG τ n i Z).1 = τ ∧ (rstG τ n i Z).2.2 = Z.2.2 ∧ ∀ k, k < 8 → OkH ((rstG τ n i Z).2.1.1 k) ((rstG τ n i Z).2.1.2.1 k) ∧ ((rstG τ n i Z).2.1.1 k < 100 → (rstG τ n i Z).2.1.1 k < τ.2.1 0 ∧ (rstG τ n i Z).2.1.2.1 k = 0)
  | 0, i, Z, hn, hZ, hS, h0, hp => ⟨hZ, rfl, fun k hk => ⟨hS k hk, fun q => ⟨hp k (by omega) q, h0 k hk q⟩⟩⟩
  | n + 1, i, Z, hn, hZ, hS, h0, hp => by
    have o2 := hT.2.1
    by_cases c : (0 ≤ Z.2.1.1 i ∧ Z.2.1.1 i < 100) ∧ ¬ Z.2.1.1 i < τ.2.1 0
    · rw [rstG_y c]
      exact rstG_ok hT n (i + 1) (zShelf Z i (-1) 0 (Z.2.1.2.2 i)) (by omega) hZ (hS.no i)
        (fun k hk => by
          show (if k = i then -1 else Z.2.1.1 k) < 100 → (if k = i then 0 else Z.2.1.2.1 k) = 0
          by_cases e : k = i
          · rw [if_pos e, if_pos e]; exact fun _ => rfl
          · rw [if_neg e, if_neg e]; exact h0 k hk)
        (fun k hk => by
          show (if k = i then -1 else Z.2.1.1 k) < 100 → (if k = i then -1 else Z.2.1.1 k) < τ.2.1 0
          by_cases e : k = i
          · rw [if_pos e]; omega
          · rw [if_neg e]; exact hp k (by omega))
    · rw [rstG_n c]
      have b := hS i (by omega)
      exact rstG_ok hT n (i + 1) Z (by omega) hZ hS h0 (fun k hk q => by
        by_cases e : k = i
        · subst e
          have b1 := b.1
          omega
        · exact hp k (by omega) q)
theorem OkI.oRestore {Z : Zt} (h : OkI Z) : OkI (qRestore Z).2 := by
  unfold qRestore
  split
  · rename_i q
    have z := rstG_ok (h.1.2.2.1 q) 8 0 (zTw Z Z.2.2.1.2) rfl rfl (fun k hk => (h.1.2.1 k hk).1) (fun k hk y => ((h.1.2.1 k hk).2 y).2) (fun k hk => absurd hk (Nat.not_lt_zero _))
    have e : (rstG Z.2.2.1.2 8 0 (zTw Z Z.2.2.1.2)).2.2 = Z.2.2 := z.2.1
    refine ⟨⟨by show OkT (rstG Z.2.2.1.2 8 0 (zTw Z Z.2.2.1.2)).1; rw [z.1]; exact h.1.2.2.1 q, fun k hk => ?_, ?_⟩, by show OkW (rstG Z.2.2.1.2 8 0 (zTw Z Z.2.2.1.2)).1; rw [z.1]; exact h.2.2 q, ?_⟩
    · have y := z.2.2 k hk
      show _ ∧ (_ → _ < (rstG Z.2.2.1.2 8 0 (zTw Z Z.2.2.1.2)).1.2.1 0 ∧ _)
      rw [z.1]; exact y
    · show ((rstG Z.2.2.1.2 8 0 (zTw Z Z.2.2.1.2)).2.2.1.1 = true → OkT (rstG Z.2.2.1.2 8 0 (zTw Z Z.2.2.1.2)).2.2.1.2) ∧ (0 ≤ (rstG Z.2.2.1.2 8 0 (zTw Z Z.2.2.1.2)).2.2.2.2.2.1 ∧ (rstG Z.2.2.1.2 8 0 (zTw Z Z.2.2.1.2)).2.2.2.2.2.1 ≤ 1000)
      rw [e]; exact h.1.2.2
    · show (rstG Z.2.2.1.2 8 0 (zTw Z Z.2.2.1.2)).2.2.1.1 = true → OkW (rstG Z.2.2.1.2 8 0 (zTw Z Z.2.2.1.2)).2.2.1.2
      rw [e]; exact h.2.2
  · exact h
