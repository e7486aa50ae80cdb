/-! PART 02: the store of both classes, its picture in the heap, methods' contracts (CT) and the walk (AW) over it -/
abbrev Gl : Type := Launch × (Nat → Nat) × va_G × (Nat → ClassId) × (Nat × Nat) × (Nat → Nat) × (Nat → Nat)
def gL (G : Gl) : Launch := G.1
def gA (G : Gl) : Nat → Nat := G.2.1
def gD (G : Gl) : va_G := G.2.2.1
def gY (G : Gl) : Nat → ClassId := G.2.2.2.1
def gB (G : Gl) : Nat × Nat := G.2.2.2.2.1
def gK (G : Gl) : Nat → Nat := G.2.2.2.2.2.1
def gV (G : Gl) : Nat → Nat := G.2.2.2.2.2.2
/-- an int of the machine, of a whole number -/
def iI (z : Int) : Int32 := Int32.ofInt z
theorem iI_add (a b : Int) : iI a + iI b = iI (a + b) := (Int32.ofInt_add a b).symm
theorem iI_sub (a b : Int) : iI a - iI b = iI (a - b) := (Int32.ofInt_sub a b).symm
theorem iI_mul (a b : Int) : iI a * iI b = iI (a * b) := (Int32.ofInt_mul a b).symm
theorem iI_neg (a : Int) : -iI a = iI (-a) := (Int32.ofInt_neg a).symm
theorem iI_t {z : Int} (h1 : -2147483648 ≤ z) (h2 : z < 2147483648) : (iI z).toInt = z := Int32.toInt_ofInt_of_le (by omega) (by omega)
theorem iI_of (x : Int32) : iI x.toInt = x := Int32.ofInt_toInt x
theorem iI_n (n : Nat) : iI (n : Int) = nI n := Int32.ofInt_eq_ofNat
theorem iI_eq {a b : Int} (a1 : -2147483648 ≤ a) (a2 : a < 2147483648) (b1 : -2147483648 ≤ b) (b2 : b < 2147483648) : iI a = iI b ↔ a = b :=
  ⟨fun h => by rw [← iI_t a1 a2, ← iI_t b1 b2, h], fun h => by rw [h]⟩
theorem iI_lt {a b : Int} (a1 : -2147483648 ≤ a) (a2 : a < 2147483648) (b1 : -2147483648 ≤ b) (b2 : b < 2147483648) : iI a < iI b ↔ a < b := by
  rw [Int32.lt_iff_toInt_lt, iI_t a1 a2, iI_t b1 b2]
theorem iI_le {a b : Int} (a1 : -2147483648 ≤ a) (a2 : a < 2147483648) (b1 : -2147483648 ≤ b) (b2 : b < 2147483648) : iI a ≤ iI b ↔ a ≤ b := by
  rw [Int32.le_iff_toInt_le, iI_t a1 a2, iI_t b1 b2]
theorem iI_0 : iI 0 = 0 := by decide
/-- the store: cell, place -> value; ints by whole numbers (the heap holds iI of them) -/
abbrev Sg : Type := (Nat → Nat → Int) × (Nat → Nat → Int64)
def uI (σ : Sg) (c k : Nat) (v : Int) : Sg := (fun a b => if a = c ∧ b = k then v else σ.1 a b, σ.2)
def uL (σ : Sg) (c k : Nat) (v : Int64) : Sg := (σ.1, fun a b => if a = c ∧ b = k then v else σ.2 a b)
/-- a cell's shape: an object (its class, its fields: 0 an int, 1 a long, 2 a reference to a cell), or an array (0 ints, 1 longs, 2 booleans, 3 shelves; its length) -/
abbrev Shp : Type := (Nat × List (Nat × Nat)) ⊕ (Nat × Nat)
def shT : List Shp := [
  .inl (7, [(2, 14), (2, 22), (0, 0), (2, 1), (2, 2), (2, 3), (2, 5), (2, 7), (2, 8), (2, 10), (2, 12)]),
  .inr (3, 8),
  .inr (0, 8),
  .inl (1, [(2, 30), (0, 0), (2, 4), (0, 0), (0, 0), (0, 0)]),
  .inr (0, 160),
  .inl (3, [(0, 0), (2, 6)]),
  .inr (1, 9),
  .inl (5, [(0, 0), (0, 0), (0, 0), (0, 0), (0, 0)]),
  .inl (6, [(1, 0), (2, 9)]),
  .inr (0, 49),
  .inl (6, [(1, 0), (2, 11)]),
  .inr (0, 49),
  .inl (0, [(0, 0), (2, 13), (0, 0), (0, 0), (0, 0)]),
  .inr (0, 20),
  .inl (4, [(1, 0), (0, 0), (0, 0), (0, 0), (0, 0), (0, 0), (0, 0), (2, 15), (2, 16), (2, 17), (2, 18), (2, 19), (2, 20), (2, 21)]),
  .inr (0, 9),
  .inr (0, 9),
  .inr (0, 9),
  .inr (0, 9),
  .inr (0, 5),
  .inr (0, 5),
  .inr (0, 5),
  .inl (4, [(1, 0), (0, 0), (0, 0), (0, 0), (0, 0), (0, 0), (0, 0), (2, 23), (2, 24), (2, 25), (2, 26), (2, 27), (2, 28), (2, 29)]),
  .inr (0, 9),
  .inr (0, 9),
  .inr (0, 9),
  .inr (0, 9),
  .inr (0, 5),
  .inr (0, 5),
  .inr (0, 5),
  .inl (4, [(1, 0), (0, 0), (0, 0), (0, 0), (0, 0), (0, 0), (0, 0), (2, 31), (2, 32), (2, 33), (2, 34), (2, 35), (2, 36), (2, 37)]),
  .inr (0, 9),
  .inr (0, 9),
  .inr (0, 9),
  .inr (0, 9),
  .inr (0, 5),
  .inr (0, 5),
  .inr (0, 5),
  .inl (2, [(0, 0), (0, 0), (2, 39)]),
  .inr (1, 160),
  .inl (2, [(0, 0), (0, 0), (2, 41)]),
  .inr (1, 160),
  .inl (2, [(0, 0), (0, 0), (2, 43)]),
  .inr (1, 160),
  .inl (2, [(0, 0), (0, 0), (2, 45)]),
  .inr (1, 160),
  .inl (2, [(0, 0), (0, 0), (2, 47)]),
  .inr (1, 160),
  .inl (2, [(0, 0), (0, 0), (2, 49)]),
  .inr (1, 160),
  .inl (2, [(0, 0), (0, 0), (2, 51)]),
  .inr (1, 160),
  .inl (2, [(0, 0), (0, 0), (2, 53)]),
  .inr (1, 160),
  .inl (8, [(0, 0), (2, 55), (2, 56), (2, 57), (2, 58), (0, 0), (2, 59), (2, 60), (2, 61), (2, 62), (2, 63), (0, 0), (2, 64), (2, 65), (2, 66), (0, 0), (0, 0), (2, 67), (0, 0), (2, 68), (0, 0), (2, 69), (2, 70), (0, 0), (2, 71), (0, 0), (2, 72), (2, 73), (2, 74), (0, 0), (0, 0), (0, 0), (0, 0)]),
  .inr (0, 9),
  .inr (0, 9),
  .inr (0, 9),
  .inr (0, 9),
  .inr (0, 5),
  .inr (0, 5),
  .inr (0, 5),
  .inr (2, 49),
  .inr (0, 3),
  .inr (0, 8),
  .inr (0, 8),
  .inr (1, 1280),
  .inr (0, 4),
  .inr (0, 105),
  .inr (0, 20),
  .inr (0, 8),
  .inr (0, 105),
  .inr (0, 49),
  .inr (0, 49),
  .inr (0, 49)]

def shp (c : Nat) : Shp := shT.getD c (.inr (9, 0))
theorem shp_lt {c : Nat} {q : Nat × List (Nat × Nat)} (h : shp c = .inl q) : c < 75 := by
  rcases Nat.lt_or_ge c 75 with h1 | h1
  · exact h1
  · have : shp c = .inr (9, 0) := by
      unfold shp
      rw [List.getD_eq_getElem?_getD, List.getElem?_eq_none (by exact h1)]
      rfl
    rw [this] at h
    cases h
theorem shp_lt2 {c t n : Nat} (h : shp c = .inr (t, n)) (ht : t ≠ 9) : c < 75 := by
  rcases Nat.lt_or_ge c 75 with h1 | h1
  · exact h1
  · have : shp c = .inr (9, 0) := by
      unfold shp
      rw [List.getD_eq_getElem?_getD, List.getElem?_eq_none (by exact h1)]
      rfl
    rw [this] at h
    cases h
    exact absurd rfl ht
def fv (G : Gl) (σ : Sg) (c k : Nat) (f : Nat × Nat) : Value := if f.1 = 0 then .int (iI (σ.1 c k)) else if f.1 = 1 then .long (σ.2 c k) else .ref (gA G f.2)
def av (G : Gl) (σ : Sg) (c t n : Nat) : vp_A := (n, if t = 1 then .inr (.inl (σ.2 c)) else if t = 3 then .inr (.inr (.inr (.inr (fun i => some (gA G (38 + 2 * i)))))) else .inl (fun j => iI (σ.1 c j)))
def fvs (G : Gl) (σ : Sg) (c : Nat) (fl : List (Nat × Nat)) : List Value := fl.zipIdx.map (fun p => fv G σ c p.2 p.1)
def EN (G : Gl) (σ : Sg) (c : Nat) : va_E := match shp c with
  | .inl q => .inr (q.1, fvs G σ c q.2)
  | .inr q => .inl (gY G q.1, av G σ c q.1 q.2)
def WS (G : Gl) (σ : Sg) : va_W := (List.range 75).map (fun c => (gA G c, EN G σ c))
theorem WS_at {G : Gl} {σ : Sg} {c : Nat} (h : c < 75) : (WS G σ)[c]? = some (gA G c, EN G σ c) := by
  simp [WS, h]
theorem EN_congr {G : Gl} {σ τ : Sg} {c : Nat} (h1 : σ.1 c = τ.1 c) (h2 : σ.2 c = τ.2 c) : EN G σ c = EN G τ c := by
  have hf : ∀ k f, fv G σ c k f = fv G τ c k f := fun k f => by unfold fv; rw [h1, h2]
  unfold EN fvs av
  simp only [hf, h1, h2]
theorem WS_set {G : Gl} {σ τ : Sg} {c : Nat} {e : va_E} (he : EN G τ c = e) (h1 : ∀ a, a ≠ c → σ.1 a = τ.1 a) (h2 : ∀ a, a ≠ c → σ.2 a = τ.2 a) : (WS G σ).set c (gA G c, e) = WS G τ := by
  apply List.ext_getElem?
  intro i
  rcases Nat.lt_or_ge i 75 with hi | hi
  · by_cases hic : i = c
    · subst hic
      rw [List.getElem?_set_self (by simp [WS, hi]), WS_at hi, he]
    · rw [List.getElem?_set_ne (Ne.symm hic), WS_at hi, WS_at hi, EN_congr (h1 i hic) (h2 i hic)]
  · rw [List.getElem?_eq_none (by simp [WS, hi]), List.getElem?_eq_none (by simp [WS, hi])]
theorem fvs_at {G : Gl} {σ : Sg} {c k : Nat} {fl : List (Nat × Nat)} {f : Nat × Nat} (h : fl[k]? = some f) : (fvs G σ c fl)[k]? = some (fv G σ c k f) := by
  simp [fvs, h]
theorem fvs_len {G : Gl} {σ : Sg} {c : Nat} {fl : List (Nat × Nat)} : (fvs G σ c fl).length = fl.length := by
  simp [fvs]
theorem fvs_set {G : Gl} {σ τ : Sg} {c k : Nat} {fl : List (Nat × Nat)} {f : Nat × Nat} {v : Value} (h : fl[k]? = some f) (hv : fv G τ c k f = v) (ho : ∀ j g, j ≠ k → fv G σ c j g = fv G τ c j g) : (fvs G σ c fl).set k v = fvs G τ c fl := by
  apply List.ext_getElem?
  intro i
  have hk := (List.getElem?_eq_some_iff.mp h).1
  by_cases hik : i = k
  · subst hik
    rw [List.getElem?_set_self (by rw [fvs_len]; exact hk), fvs_at h, hv]
  · rw [List.getElem?_set_ne (Ne.symm hik)]
    cases hg : fl[i]? with
    | none =>
      have : fl.length ≤ i := by simpa using hg
      rw [List.getElem?_eq_none (by rw [fvs_len]; exact this), List.getElem?_eq_none (by rw [fvs_len]; exact this)]
    | some g => rw [fvs_at hg, fvs_at hg, ho i g hik]
theorem uI_ne {σ : Sg} {c k : Nat} {v : Int} {a : Nat} (h : a ≠ c) : σ.1 a = (uI σ c k v).1 a := by
  funext b
  simp [uI, h]
theorem uL_ne {σ : Sg} {c k : Nat} {v : Int64} {a : Nat} (h : a ≠ c) : σ.2 a = (uL σ c k v).2 a := by
  funext b
  simp [uL, h]
theorem uI_self {σ : Sg} {c k : Nat} {v : Int} : (uI σ c k v).1 c k = v := by simp [uI]
theorem uI_at {σ : Sg} {c k : Nat} {v : Int} {a b : Nat} : (uI σ c k v).1 a b = if a = c ∧ b = k then v else σ.1 a b := rfl
theorem uL_at {σ : Sg} {c k : Nat} {v : Int64} {a b : Nat} : (uL σ c k v).2 a b = if a = c ∧ b = k then v else σ.2 a b := rfl
theorem uI_2 {σ : Sg} {c k : Nat} {v : Int} : (uI σ c k v).2 = σ.2 := rfl
theorem uL_1 {σ : Sg} {c k : Nat} {v : Int64} : (uL σ c k v).1 = σ.1 := rfl
theorem uI_upd {σ : Sg} {c k : Nat} {v : Int} : (fun j => iI ((uI σ c k v).1 c j)) = upd (fun j => iI (σ.1 c j)) k (iI v) := by
  funext b
  by_cases h : b = k <;> simp [uI, upd, h]
theorem uL_upd {σ : Sg} {c k : Nat} {v : Int64} : (uL σ c k v).2 c = vp_updL (σ.2 c) k v := by
  funext b
  simp [uL, vp_updL]
/-- the addresses of the store -/
def AA (G : Gl) : Nat → Prop := fun q => ∃ c, c < 75 ∧ q = gA G c
def gInj (G : Gl) : Prop := ∀ i j, i < 75 → j < 75 → gA G i = gA G j → i = j
theorem WS_D {G : Gl} {σ : Sg} (h : gInj G) : va_D (AA G) (WS G σ) := by
  have key : ∀ (k : Nat) (q : Nat × va_E), (WS G σ)[k]? = some q → k < 75 ∧ q.1 = gA G k := by
    intro k q hq
    rcases Nat.lt_or_ge k 75 with hk | hk
    · rw [WS_at hk] at hq
      cases hq
      exact ⟨hk, rfl⟩
    · rw [List.getElem?_eq_none (by simp [WS, hk])] at hq
      cases hq
  refine ⟨fun i j p q hi hj e => ?_, fun k q hq => ?_⟩
  · obtain ⟨a1, a2⟩ := key i p hi
    obtain ⟨b1, b2⟩ := key j q hj
    exact h i j a1 b1 (by rw [← a2, ← b2]; exact e)
  · obtain ⟨a1, a2⟩ := key k q hq
    exact ⟨k, a1, a2⟩
def gT (G : Gl) : List (ClassId × FieldType) := [(gY G 0, .int), (gY G 1, .long), (gY G 2, .boolean), (gY G 3, .object "WindowsLookedOut$Shelf")]
def fAb : List Int := [-1, 0, 0, 1, 0, 4, 2]
def fBo : List Int := [10, 11, 12, 20, -1, -1, -1, 30, -1, 40, -1, -1, 51, -1, 50, -1, -1, 60, 70, 71, -1]
def lenS : List Nat := [5, 4, 4, 6, 5]
def bytS : List (List Int32) := [[104, 111, 117, 115, 101], [121, 97, 114, 100], [112, 97, 110, 101], [119, 97, 108, 107, 101, 114], [114, 101, 97, 99, 104]]
def strR : List (String × Nat × String × Nat) := [(RX2, 78, "house", 0), (RX2, 104, "yard", 1), (RX2, 109, "pane", 2), (RX2, 128, "walker", 3), (RX2, 139, "reach", 4), (RX9, 192, "house", 0), (RX9, 201, "yard", 1), (RX9, 203, "pane", 2), (RX9, 208, "walker", 3), (RX9, 210, "reach", 4)]
def nestR : List (String × Nat × MethodName) := [(RX2, 115, yX8_isKind), (RX2, 141, yX8_isReach), (RX1, 44, yX8_isKind), (RX1, 40, yX8_above)]
/-- what never changes: the tables of classes, static arrays, texts -/
def Kon (G : Gl) (U : State) (H : Heap) : Prop :=
  gInj G ∧ va_K (gD G) vwCl (gT G) U ∧
  va_Z RX8 "ABOVE" "[I" (.ref (gB G).1) (AA G) U H ∧ va_T .int (gB G).1 7 (fun j => .int (iI (fAb.getD j 0))) (AA G) U H ∧
  va_Z RX1 "BODIES" "[I" (.ref (gB G).2) (AA G) U H ∧ va_T .int (gB G).2 21 (fun j => .int (iI (fBo.getD j 0))) (AA G) U H ∧
  vk_S 5 lenS bytS (gK G) (gV G) (AA G) U H ∧ (∀ q ∈ strR, vk_R q.1 q.2.1 q.2.2.1 (gK G q.2.2.2) U) ∧
  va_Z "java/lang/String" "COMPACT_STRINGS" "Z" (.int 1) (AA G) U H ∧ va_Zq "jdk/internal/util/Preconditions" "SIOOBE_FORMATTER" "Ljava/util/function/BiFunction;" (AA G) U H ∧
  (∀ q ∈ nestR, va_Nw (.methodLinkNest q.1 q.2.1 q.2.2 RX8) U)
theorem Kon.go {G : Gl} {u U : State} {H H1 : Heap} (hW : u.WarmedH U.vm) (hq : ∀ a : Nat, a < H.size → ¬ AA G a → H1[a]? = H[a]?) (h : Kon G u H) : Kon G U H1 := by
  obtain ⟨h1, h2, h3, h4, h5, h6, h7, h8, h9, h10, h11⟩ := h
  exact ⟨h1, va_K.moved hW.alike h2, (va_Z.moved hW.alike h3).kept hq, (va_T.moved hW.alike h4).kept hq, (va_Z.moved hW.alike h5).kept hq, (va_T.moved hW.alike h6).kept hq, (vk_S.moved hW.alike h7).kept hq, fun q h => vk_R.warm hW (h8 q h), (va_Z.moved hW.alike h9).kept hq, (va_Zq.moved hW.alike h10).kept hq, fun q h => va_Nw.warmM hW (h11 q h)⟩
theorem Kon.blind {G : Gl} {U : State} {g : JFrame} {mk : MethodId} {a : Array Value} (h : Kon G U U.heap) : Kon G (U.calling g mk a) (U.calling g mk a).heap := by
  obtain ⟨h1, h2, h3, h4, h5, h6, h7, h8, h9, h10, h11⟩ := h
  have r : U.vm.Alike (U.calling g mk a).vm := Vm.Alike.refl U.vm
  exact ⟨h1, va_K.moved r h2, va_Z.moved r h3, va_T.moved r h4, va_Z.moved r h5, va_T.moved r h6, vk_S.moved r h7, fun q h => vk_R.same (u := U) rfl (h8 q h), va_Z.moved r h9, va_Zq.moved r h10, fun q h => va_Nw.same (u := U) rfl rfl (h11 q h)⟩
def RM (d : Nat) : Room := { frames := d, cells := 0, slots := 0, locals := 100 * d }
/-- a method's end: its answer and the store behind it, as K says -/
def QK (G : Gl) (K : Option Value → Sg → Prop) : Array Value → State → Outcome → State → Prop := fun _ st oc t => (∃ (v : Option Value) (τ : Sg), oc = .returned v ∧ K v τ ∧ va_P (gD G) vwCl (WS G τ) t.heap) ∧ va_F (AA G) st t
/-- a method's contract over the store: room for d calls one in the other -/
def CT (G : Gl) (d : Nat) (y : MethodName) (b : ByteArray) (mL : Nat) (ret : Option FieldType) (As : List Value) (σ : Sg) (K : Option Value → Sg → Prop) : Prop :=
  Met (gL G) y (Cond.code y b mL ret :: TW) (RM d) (va_Pc As (fun U => va_P (gD G) vwCl (WS G σ) U.heap ∧ Kon G U U.heap)) (QK G K) 0 0 (AA G)
def Cx (G : Gl) (own : String) (cc : ByteArray) (mL : Nat) (ret : Option FieldType) (p : Program) (s : State) (m : MethodId) (args : Array Value) (meth : Method) (c : Code) : Prop :=
  p.tables.exec = Jvm.exec ∧ c.code = cc ∧ c.maxLocals = mL ∧ meth.sig.returnType = ret ∧ meth.locks = false ∧ s.vm.findClass own = some m.cls ∧ (∀ w ∈ TW, w.before args s = true) ∧ Kon G s s.heap
/-- the walk: from here (place, locals, stack, store) the method ends as K says -/
def AW (G : Gl) (d : Nat) (own : String) (cc : ByteArray) (mL : Nat) (ret : Option FieldType) (pc : Nat) (ls : List (Nat × Value)) (st : List Value) (σ : Sg) (K : Option Value → Sg → Prop) : Prop :=
  ∀ (p : Program) (e : Env) (s : State) (m : MethodId) (args : Array Value) (below : List Frame) (meth : Method) (c : Code) (H : Heap) (locs : List Loc) (la : Array Slot),
    Cx G own cc mL ret p s m args meth c → va_P (gD G) vwCl (WS G σ) H → va_S (AA G) s.heap H locs → lv_has la mL ls →
    W p (gL G) e (RM d) s m args below meth c H locs 0 0 (MQ below (QK G K) args s 0 0 (AA G)) (F0 m pc la st)
theorem TW_in {w : Cond} (h : w ∈ lw_tbl) (hg : goodWord w = true) : w ∈ TW := List.mem_filter.mpr ⟨h, hg⟩
theorem TW_good : ∀ w ∈ TW, w ∈ TW ∧ ((w.onTables && w.keeps) = true ∨ ∃ ty, w = .arrayClass ty) := fun w h => ⟨h, good_of_word (List.mem_filter.mp h).2⟩
/-- a contract by a walk from its entry -/
theorem CT.of {G : Gl} {d : Nat} {y : MethodName} {b : ByteArray} {mL : Nat} {ret : Option FieldType} {As : List Value} {σ : Sg} {K : Option Value → Sg → Prop} (hy : plainName y.cls = true) (hn : (lg_sl As).length ≤ mL)
    (h : AW G d y.cls b mL ret 0 (lv_args 0 As) [] σ K) : CT G d y b mL ret As σ K := by
  refine Met.ofW (cc := b) (maxL := mL) (ret := ret) (ws' := TW) hy rfl ?_
  intro p e s m args below meth c s₁ B hml hv
  obtain ⟨rfl, hP, hK⟩ := hv
  have hts := atoms_spec (ws := Cond.code y b mL ret :: TW) B.pre
  rw [lg_entry_eq]
  exact h p e s m _ below meth c s.heap [] _ ⟨B.exec, B.bytes, hml, B.returns, B.notSynchronized, findClass_of_methodNamed B.named, fun w hw => hts w (List.mem_cons_of_mem _ hw), hK⟩ hP va_S.rf (lv_entry As hn)
