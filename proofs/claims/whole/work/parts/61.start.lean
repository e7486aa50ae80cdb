/-! PART 61: the law from its entry -/
/-- the walk of the law ahead of its loop, over a world that grows -/
def SLW (l : Launch) (D : va_G) (p : Program) (e : Env) (s : State) (m : MethodId) (below : List Frame) (meth : Method) (c : Code) (b : Nat) (pc : Nat) (ls : List (Nat × Value)) (st : List Value) (ws : va_W) (k n : Nat) : Prop :=
  ∀ (H : Heap) (locs : List Loc) (la : Array Slot), va_P D vwCl ws H → va_D (fun q : Nat => s.heap.size ≤ q) ws → va_S (fun q : Nat => s.heap.size ≤ q) s.heap H locs → lv_has la 4 ls → W p l e room_1 s m #[Value.ref b] below meth c H locs k n (lw_Z below #[Value.ref b] s) (F0 m pc la st)
theorem nd_all : ∀ (l : List Nat), l.Nodup → va_nd l = true
  | [], _ => rfl
  | a :: l, h => by
    have h1 := List.nodup_cons.mp h
    show (decide (a ∉ l) && va_nd l) = true
    rw [decide_eq_true h1.1, nd_all l h1.2]; rfl
theorem nd_range (n m : Nat) : va_nd (List.range n) = true := nd_all _ List.nodup_range
section SWS
variable {l : Launch} {D : va_G} {Y : Nat → ClassId} {p : Program} {e : Env} {s : State} {m : MethodId} {below : List Frame} {meth : Method} {c : Code} {b L : Nat} {xs : Nat → Int32} {pc : Nat} {ls : List (Nat × Value)} {st : List Value} {ws : va_W} {k n : Nat}
theorem S_new {ci idx N : Nat} {C : String} {T : u_T} {fs : List Value} (X : lw_At p s m meth c b L xs) (hK : va_K D vwCl (tyY Y) s) (hc : vwCl[ci]? = some (C, T, N)) (ty : Nat → FieldType) (hty : ∀ j, j < N → parseFieldDescriptor (T j).2.2.1 = some (ty j)) (hcl : Cond.classLink RL idx C ∈ lw_tbl) (hin : Cond.instantiable C N ∈ lw_tbl) (hini : Cond.initialized C ∈ lw_tbl) (hfs : ∀ j, j < N → defaultValue (ty j) = vp_V fs j) (hk : k + 1 ≤ room_1.cells) (hn : n + N ≤ room_1.slots) (hd : decode cL_law pc = .ok (.new idx, 3))
    (kk : ∀ q, s.heap.size ≤ q → SLW l D p e s m below meth c b (pc + 3) ls (.ref q :: st) (ws ++ [(q, .inr (ci, fs))]) (k + 1) (n + N)) : SLW l D p e s m below meth c b pc ls st ws k n := by
  intro H locs la hP hD hS hL
  obtain ⟨x1, x2, x3, x4, x5, x6, x7, x8, x9, x10⟩ := X
  have hts : ∀ w ∈ TW, w.before #[Value.ref b] s = true := fun w hw => x6 w (List.mem_filter.mp hw).1
  refine va_new (Ts := TW) x1 x2 hts (cls_in hc) ty hty x5 (x6 _ hcl) (x6 _ hin) (x6 _ hini) hK hP hD hS (fun q h => h) hc hfs hk hn hd (fun q H1 hP1 hD1 hS1 => kk q ?_ H1 locs la hP1 hD1 hS1 hL)
  have e1 : (ws ++ [(q, (Sum.inr (ci, fs) : va_E))])[ws.length]? = some (q, .inr (ci, fs)) := by rw [List.getElem?_append_right (Nat.le_refl _), Nat.sub_self]; rfl
  exact hD1.2 _ _ e1
theorem S_dup {a : Nat} (X : lw_At p s m meth c b L xs) (hd : decode cL_law pc = .ok (.dup, 1)) (kk : SLW l D p e s m below meth c b (pc + 1) ls (.ref a :: .ref a :: st) ws k n) : SLW l D p e s m below meth c b pc ls (.ref a :: st) ws k n := by
  intro H locs la hP hD hS hL
  exact lv_dup X.1 X.2.1 hd rfl (kk H locs la hP hD hS hL)
theorem S_astore1 {a : Nat} (X : lw_At p s m meth c b L xs) (hl : ls = [(0, .ref b)]) (hd : decode cL_law pc = .ok (.astore_n 1, 1)) (kk : SLW l D p e s m below meth c b (pc + 1) [(0, .ref b), (1, .ref a)] st ws k n) : SLW l D p e s m below meth c b pc ls (.ref a :: st) ws k n := by
  intro H locs la hP hD hS hL
  subst hl
  refine lv_astore_n (lv' := [(1, .ref a), (0, .ref b)]) X.1 X.2.1 hd rfl hL (by decide) rfl (fun la2 hL2 => ?_)
  exact kk H locs la2 hP hD hS (lv_sub hL2 [1, 0] rfl)
theorem S_astore2 {a a1 : Nat} (X : lw_At p s m meth c b L xs) (hl : ls = [(0, .ref b), (1, .ref a1)]) (hd : decode cL_law pc = .ok (.astore_n 2, 1)) (kk : SLW l D p e s m below meth c b (pc + 1) [(0, .ref b), (1, .ref a1), (2, .ref a)] st ws k n) : SLW l D p e s m below meth c b pc ls (.ref a :: st) ws k n := by
  intro H locs la hP hD hS hL
  subst hl
  refine lv_astore_n (lv' := [(2, .ref a), (0, .ref b), (1, .ref a1)]) X.1 X.2.1 hd rfl hL (by decide) rfl (fun la2 hL2 => ?_)
  exact kk H locs la2 hP hD hS (lv_sub hL2 [1, 2, 0] rfl)
theorem S_zero {a a1 : Nat} (X : lw_At p s m meth c b L xs) (hl : ls = [(0, .ref b), (1, .ref a1), (2, .ref a)]) (hd : decode cL_law pc = .ok (.iconst 0, 1)) (hd2 : decode cL_law (pc + 1) = .ok (.istore_n 3, 1)) (kk : SLW l D p e s m below meth c b (pc + 1 + 1) [(0, .ref b), (1, .ref a1), (2, .ref a), (3, .int (iI 0))] st ws k n) : SLW l D p e s m below meth c b pc ls st ws k n := by
  intro H locs la hP hD hS hL
  subst hl
  refine lv_iconst X.1 X.2.1 hd rfl ?_
  refine lv_istore_n (lv' := [(3, .int (iI 0)), (0, .ref b), (1, .ref a1), (2, .ref a)]) X.1 X.2.1 hd2 rfl hL (by decide) rfl (fun la2 hL2 => ?_)
  exact kk H locs la2 hP hD hS (lv_sub hL2 [1, 2, 3, 0] rfl)
theorem S_init {idx mL2 mc2 ms2 : Nat} {y : MethodName} {bb : ByteArray} {rm : Room} {q nw : Nat} {e0 : va_E} {K2 : va_W → Prop} {rest : List Value} (X : lw_At p s m meth c b L xs) (hK : va_K D vwCl (tyY Y) s) (hN : NKn s) (hlk : Cond.methodLink RL idx y ∈ lw_tbl) (hl : LkB y 0 bb mL2 none) (hyn : y.name = "<init>") (him : Cond.instanceMethod y ∈ lw_tbl) (hc : CNt l D Y y bb mL2 rm mc2 ms2 (q, e0) K2) (hrc : rm.cells = mc2) (hrs : rm.slots = ms2) (hR : rm.frames + 1 ≤ room_1.frames ∧ 8 + (mL2 + 11) + rm.locals ≤ room_1.locals)
    (hiR : (List.range nw).map (fun i => (ws ++ [(q, e0)])[i]?) = ws.map some) (hiC : [nw].map (fun i => (ws ++ [(q, e0)])[i]?) = [(q, e0)].map some) (hnd : va_nd (List.range nw) = true) (hdis : ∀ i ∈ List.range nw, i ∉ [nw]) (hf : k + mc2 ≤ room_1.cells ∧ n + ms2 ≤ room_1.slots) (hst : (rest.map fun v => v.category).sum ≤ 8) (hd : decode cL_law pc = .ok (.invokespecial idx, 3))
    (kk : ∀ w1, K2 w1 → SLW l D p e s m below meth c b (pc + 3) ls rest (ws ++ w1) (k + mc2) (n + ms2)) : SLW l D p e s m below meth c b pc ls (.ref q :: rest) (ws ++ [(q, e0)]) k n := by
  intro H locs la hP hD hS hL
  obtain ⟨x1, x2, x3, x4, x5, x6, x7, x8, x9, x10⟩ := X
  have hts : ∀ w ∈ TW, w.before #[Value.ref b] s = true := fun w hw => x6 w (List.mem_filter.mp hw).1
  obtain ⟨l1, l2, l3, l4, l5⟩ := hl
  have hG : GoodIn TW (Cond.code y bb mL2 none :: TW) := by
    intro w hw
    rcases List.mem_cons.mp hw with h | h
    · exact TW_good _ (h ▸ TW_in l2 rfl)
    · exact TW_good _ h
  have hPc : va_P D vwCl [(q, e0)] H := fun kq x hx => by
    have h1 : kq < 1 := (List.getElem?_eq_some_iff.mp hx).1
    rw [show kq = 0 by omega] at hx
    have e1 : (ws ++ [(q, e0)])[nw]? = some (q, e0) := by
      have := hiC
      simp only [List.map_cons, List.map_nil] at this
      exact (List.cons.inj this).1
    cases hx
    exact hP nw _ e1
  have hFc := va_free (wc := [(q, e0)]) hD hS (fun q h => h) [nw] hiC
  have hr := va_runI (As := []) (rest := rest) (p := p) (l := l) (e := e) (below := below) (meth := meth) (H := H) (locs := locs) (cells := k) (slots := n) (R := room_1) ⟨x1, x2, x4, x5, hts⟩ (hc H.size) (cwI 0 hts hG rfl hrc hrs (x6 _ l1) (x6 _ hlk) (x6 _ him) hyn ⟨l3, l4, l5⟩ hR)
    ⟨fun a U g mk h => by obtain ⟨h0, h1, h2, h3, h4, h5⟩ := h; exact ⟨h0, h1, h2, va_K.moved (u := U) (U := U.calling g mk a) (Vm.Alike.refl U.vm) h3, fun x hx => va_Nw.same (u := U) rfl rfl (h4 x hx), va_AO.moved (u := U) (U := U.calling g mk a) (Vm.Alike.refl U.vm) h5⟩, fun U hU hW => ⟨rfl, by rw [hU], by rw [hU]; exact hPc, va_K.moved hW.alike hK, fun x hx => va_Nw.warmM hW (hN.1 x hx), va_AO.moved hW.alike hN.2⟩⟩ rfl rfl hL.1 rfl (lv_room hst) hd hf
  intro T hT X
  obtain ⟨v, st₀, t, T', L, h0, X', hLL, e1, e2, ⟨⟨w1, hv, hK1, hp, hdd⟩, hz, hk⟩, st1⟩ := hr T hT X
  cases hv
  rw [h0] at hz hk
  have hp' : va_P D vwCl w1 T'.heap := by rw [e1]; exact hp
  obtain ⟨hP2, hD2⟩ := va_join (wr := ws) (w1 := w1) hP hD [nw] (List.range nw) hiC hiR hnd hdis (fun x hx hnx => by rw [e1]; exact hk x hx hnx) hFc hp' hdd
  obtain ⟨t2, a1, b1⟩ := kk w1 hK1 T'.heap (locs ++ L) la hP2 hD2
    ⟨Nat.le_trans hS.1 (by rw [e1]; exact hz), fun x h1 h2 => by rw [e1, hk x (Nat.lt_of_lt_of_le h1 hS.1) (fun z => h2 (hFc x z))]; exact hS.2.1 x h1 h2, fun x hx => by
      rcases List.mem_append.mp hx with h | h
      · exact hS.2.2 x h
      · exact hFc _ (hLL x h)⟩ hL T' rfl X'
  exact ⟨t2, st1 t2 a1, b1⟩
theorem S_init9 {idx mL2 mc2 ms2 : Nat} {y : MethodName} {bb : ByteArray} {rm : Room} {q : Nat} {e0 : va_E} {K2 : va_W → Prop} {rest : List Value} (X : lw_At p s m meth c b L xs) (hK : va_K D vwCl (tyY Y) s) (hN : NKn s) (hlk : Cond.methodLink RL idx y ∈ lw_tbl) (hl : LkB y 0 bb mL2 none) (hyn : y.name = "<init>") (him : Cond.instanceMethod y ∈ lw_tbl) (hc : CNt l D Y y bb mL2 rm mc2 ms2 (q, e0) K2) (hrc : rm.cells = mc2) (hrs : rm.slots = ms2) (hR : rm.frames + 1 ≤ room_1.frames ∧ 8 + (mL2 + 11) + rm.locals ≤ room_1.locals)
    (hf : k + mc2 ≤ room_1.cells ∧ n + ms2 ≤ room_1.slots) (hst : (rest.map fun v => v.category).sum ≤ 8) (hd : decode cL_law pc = .ok (.invokespecial idx, 3))
    (kk : ∀ w1, K2 w1 → SLW l D p e s m below meth c b (pc + 3) ls rest (ws ++ w1) (k + mc2) (n + ms2)) : SLW l D p e s m below meth c b pc ls (.ref q :: rest) (ws ++ [(q, e0)]) k n := by
  refine S_init (nw := ws.length) X hK hN hlk hl hyn him hc hrc hrs hR ?_ ?_ (nd_range _ 0) (fun i hi => ?_) hf hst hd kk
  · apply List.ext_getElem?
    intro i
    rw [List.getElem?_map, List.getElem?_map]
    rcases Nat.lt_or_ge i ws.length with h | h
    · rw [List.getElem?_range h]
      show some ((ws ++ [(q, e0)])[i]?) = _
      rw [List.getElem?_append_left h, List.getElem?_eq_getElem h]; rfl
    · rw [List.getElem?_eq_none (by rw [List.length_range]; exact h), List.getElem?_eq_none h]; rfl
  · show [(ws ++ [(q, e0)])[ws.length]?] = _
    rw [List.getElem?_append_right (Nat.le_refl _), Nat.sub_self]; rfl
  · have := List.mem_range.mp hi
    simp only [List.mem_cons, List.not_mem_nil, or_false]
    omega
end SWS
theorem posX_in : ∀ i, i < 54 → ∀ j, j < 54 → posX i = posX j → i = j := by decide +kernel
theorem posX_lt : ∀ i, i < 54 → posX i < 54 := by decide +kernel
theorem posM_e : ∀ i, 54 ≤ i → i < 75 → posM i = i - 54 := by
  intro i h1 h2
  have h : ∀ k, k < 21 → posM (k + 54) = k := by decide +kernel
  have := h (i - 54) (by omega)
  rw [show i - 54 + 54 = i by omega] at this
  exact this
/-- the addresses of both -/
def gJ (f g : Nat → Nat) (c : Nat) : Nat := if c < 54 then f c else g c
set_option maxRecDepth 20000 in
theorem VA_X (l : Launch) (D : va_G) (Y : Nat → ClassId) (f g : Nat → Nat) (tt : Nat × Nat) (aK aV : Nat → Nat) (H : Heap) : ∀ c, c < 54 → va_at D vwCl (f c, EN (gMk l D Y f) sg0 c) H → va_at D vwCl (gJ f g c, EN ((l, gJ f g, D, Y, tt, aK, aV) : Gl) sg0 c) H := by
  intro c hc
  rcases (show c = 0 ∨ c = 1 ∨ c = 2 ∨ c = 3 ∨ c = 4 ∨ c = 5 ∨ c = 6 ∨ c = 7 ∨ c = 8 ∨ c = 9 ∨ c = 10 ∨ c = 11 ∨ c = 12 ∨ c = 13 ∨ c = 14 ∨ c = 15 ∨ c = 16 ∨ c = 17 ∨ c = 18 ∨ c = 19 ∨ c = 20 ∨ c = 21 ∨ c = 22 ∨ c = 23 ∨ c = 24 ∨ c = 25 ∨ c = 26 ∨ c = 27 ∨ c = 28 ∨ c = 29 ∨ c = 30 ∨ c = 31 ∨ c = 32 ∨ c = 33 ∨ c = 34 ∨ c = 35 ∨ c = 36 ∨ c = 37 ∨ c = 38 ∨ c = 39 ∨ c = 40 ∨ c = 41 ∨ c = 42 ∨ c = 43 ∨ c = 44 ∨ c = 45 ∨ c = 46 ∨ c = 47 ∨ c = 48 ∨ c = 49 ∨ c = 50 ∨ c = 51 ∨ c = 52 ∨ c = 53 by omega) with rfl | rfl | rfl | rfl | rfl | rfl | rfl | rfl | rfl | rfl | rfl | rfl | rfl | rfl | rfl | rfl | rfl | rfl | rfl | rfl | rfl | rfl | rfl | rfl | rfl | rfl | rfl | rfl | rfl | rfl | rfl | rfl | rfl | rfl | rfl | rfl | rfl | rfl | rfl | rfl | rfl | rfl | rfl | rfl | rfl | rfl | rfl | rfl | rfl | rfl | rfl | rfl | rfl | rfl
  · exact fun h => h
  · intro h
    rw [EN_a (q := (3, 8)) rfl] at h ⊢
    have h2 : H[f 1]? = some (vp_cell (Y 3) (8, .inr (.inr (.inr (.inr (fun i => some (f (38 + 2 * i)))))))) := h
    show H[f 1]? = some (vp_cell (Y 3) (8, .inr (.inr (.inr (.inr (fun i => some (gJ f g (38 + 2 * i))))))))
    rw [h2, vp_cell_extq (fun i hi => by show some (f (38 + 2 * i)) = some (gJ f g (38 + 2 * i)); unfold gJ; rw [if_pos (by omega)])]
  · exact fun h => h
  · exact fun h => h
  · exact fun h => h
  · exact fun h => h
  · exact fun h => h
  · exact fun h => h
  · exact fun h => h
  · exact fun h => h
  · exact fun h => h
  · exact fun h => h
  · exact fun h => h
  · exact fun h => h
  · exact fun h => h
  · exact fun h => h
  · exact fun h => h
  · exact fun h => h
  · exact fun h => h
  · exact fun h => h
  · exact fun h => h
  · exact fun h => h
  · exact fun h => h
  · exact fun h => h
  · exact fun h => h
  · exact fun h => h
  · exact fun h => h
  · exact fun h => h
  · exact fun h => h
  · exact fun h => h
  · exact fun h => h
  · exact fun h => h
  · exact fun h => h
  · exact fun h => h
  · exact fun h => h
  · exact fun h => h
  · exact fun h => h
  · exact fun h => h
  · exact fun h => h
  · exact fun h => h
  · exact fun h => h
  · exact fun h => h
  · exact fun h => h
  · exact fun h => h
  · exact fun h => h
  · exact fun h => h
  · exact fun h => h
  · exact fun h => h
  · exact fun h => h
  · exact fun h => h
  · exact fun h => h
  · exact fun h => h
  · exact fun h => h
  · exact fun h => h
set_option maxRecDepth 20000 in
theorem VA_M (l : Launch) (D : va_G) (Y : Nat → ClassId) (f g : Nat → Nat) (tt : Nat × Nat) (aK aV : Nat → Nat) (H : Heap) : ∀ c, 54 ≤ c → c < 75 → va_at D vwCl (g c, EN (gMk l D Y g) sg0 c) H → va_at D vwCl (gJ f g c, EN ((l, gJ f g, D, Y, tt, aK, aV) : Gl) sg0 c) H := by
  intro c h1 hc
  rcases (show c = 54 ∨ c = 55 ∨ c = 56 ∨ c = 57 ∨ c = 58 ∨ c = 59 ∨ c = 60 ∨ c = 61 ∨ c = 62 ∨ c = 63 ∨ c = 64 ∨ c = 65 ∨ c = 66 ∨ c = 67 ∨ c = 68 ∨ c = 69 ∨ c = 70 ∨ c = 71 ∨ c = 72 ∨ c = 73 ∨ c = 74 by omega) with rfl | rfl | rfl | rfl | rfl | rfl | rfl | rfl | rfl | rfl | rfl | rfl | rfl | rfl | rfl | rfl | rfl | rfl | rfl | rfl | rfl
  · exact fun h => h
  · exact fun h => h
  · exact fun h => h
  · exact fun h => h
  · exact fun h => h
  · exact fun h => h
  · exact fun h => h
  · exact fun h => h
  · exact fun h => h
  · exact fun h => h
  · exact fun h => h
  · exact fun h => h
  · exact fun h => h
  · exact fun h => h
  · exact fun h => h
  · exact fun h => h
  · exact fun h => h
  · exact fun h => h
  · exact fun h => h
  · exact fun h => h
  · exact fun h => h
theorem world_ok {l : Launch} {D : va_G} {Y : Nat → ClassId} {q1 q2 : Nat} {w1 w2 : va_W} {H : Heap} {A : Nat → Prop} (hX : KX l D Y q1 w1) (hM : KM l D Y q2 w2) (hP : va_P D vwCl (w1 ++ w2) H) (hD : va_D A (w1 ++ w2)) :
    ∃ g : Nat → Nat, g 0 = q1 ∧ g 54 = q2 ∧ (∀ i j, i < 75 → j < 75 → g i = g j → i = j) ∧ (∀ i, i < 75 → A (g i)) ∧ ∀ (tt : Nat × Nat) (aK aV : Nat → Nat), va_P D vwCl (WS ((l, g, D, Y, tt, aK, aV) : Gl) sg0) H := by
  obtain ⟨f, hf, hx⟩ := hX
  obtain ⟨g, hg, hm⟩ := hM
  have ax : ∀ c, c < 54 → ∃ x, (w1 ++ w2)[posX c]? = some x ∧ EAt l D Y f c x ∧ posX c < w1.length := fun c hc => by
    obtain ⟨x, e1, e2⟩ := hx c hc
    have hl := (List.getElem?_eq_some_iff.mp e1).1
    exact ⟨x, by rw [List.getElem?_append_left hl]; exact e1, e2, hl⟩
  have am : ∀ c, 54 ≤ c → c < 75 → ∃ x, (w1 ++ w2)[w1.length + (c - 54)]? = some x ∧ EAt l D Y g c x := fun c h1 hc => by
    obtain ⟨x, e1, e2⟩ := hm c h1 hc
    rw [posM_e c h1 hc] at e1
    exact ⟨x, by rw [List.getElem?_append_right (by omega), show w1.length + (c - 54) - w1.length = c - 54 by omega]; exact e1, e2⟩
  -- every cell: its place, its address
  have al : ∀ c, c < 75 → ∃ n x, (w1 ++ w2)[n]? = some x ∧ x.1 = gJ f g c ∧ (c < 54 → n = posX c ∧ n < w1.length) ∧ (54 ≤ c → n = w1.length + (c - 54)) ∧ (∀ tt aK aV, va_at D vwCl (gJ f g c, EN ((l, gJ f g, D, Y, tt, aK, aV) : Gl) sg0 c) H) := fun c hc => by
    by_cases h : c < 54
    · obtain ⟨x, e1, e2, e3⟩ := ax c h
      refine ⟨posX c, x, e1, by rw [e2.1]; unfold gJ; rw [if_pos h], fun _ => ⟨rfl, e3⟩, fun q => absurd q (by omega), fun tt aK aV => ?_⟩
      exact VA_X l D Y f g tt aK aV H c h (e2.2 H (hP _ _ e1))
    · obtain ⟨x, e1, e2⟩ := am c (by omega) hc
      refine ⟨_, x, e1, by rw [e2.1]; unfold gJ; rw [if_neg h], fun q => absurd q h, fun _ => rfl, fun tt aK aV => ?_⟩
      exact VA_M l D Y f g tt aK aV H c (by omega) hc (e2.2 H (hP _ _ e1))
  refine ⟨gJ f g, hf, hg, fun i j hi hj e => ?_, fun i hi => ?_, fun tt aK aV k q hq => ?_⟩
  · obtain ⟨n1, x1, a1, a2, a3, a4, -⟩ := al i hi
    obtain ⟨n2, x2, b1, b2, b3, b4, -⟩ := al j hj
    have en := hD.1 n1 n2 x1 x2 a1 b1 (by rw [a2, b2, e])
    by_cases h1 : i < 54
    · by_cases h2 : j < 54
      · exact posX_in i h1 j h2 (by rw [← (a3 h1).1, ← (b3 h2).1, en])
      · have z1 := (a3 h1).2; have z2 := b4 (by omega); omega
    · by_cases h2 : j < 54
      · have z1 := (b3 h2).2; have z2 := a4 (by omega); omega
      · have z1 := a4 (by omega); have z2 := b4 (by omega); omega
  · obtain ⟨n1, x1, a1, a2, -, -, -⟩ := al i hi
    rw [← a2]; exact hD.2 n1 x1 a1
  · have hk : k < 75 := by
      have := (List.getElem?_eq_some_iff.mp hq).1
      simpa [WS] using this
    rw [WS_at hk] at hq
    cases hq
    obtain ⟨n1, x1, a1, a2, -, -, a5⟩ := al k hk
    exact a5 tt aK aV
-- ===== YOUR PART BEGINS =====
set_option maxHeartbeats 4000000 in
/-- the law, from its entry -/
theorem whole_start {p : Program} {e : Env} {s : State} {m : MethodId} {below : List Frame} {meth : Method} {c : Code} (l : Launch) (hflags : l.flags = flags0) {b L : Nat} {xs : Nat → Int32} (hL : L ≤ 3072) (C0 : lw_At p s m meth c b L xs) : W p l e room_1 s m #[Value.ref b] below meth c s.heap [] 0 0 (lw_Z below #[Value.ref b] s) (entryFrame m ([Value.ref b] : List Value).toArray 4) := by
  have hts := C0.2.2.2.2.2.1
  have hgv := C0.2.2.2.2.2.2.2.2.2
  obtain ⟨D, Y, hK⟩ := K_all hts
  have hN := NKn_all hts
  have hl := lv_entry ([.ref b]) (n := 4) (Nat.le_of_ble_eq_true rfl)
  rw [lg_entry_eq]
  generalize (lg_sl ([.ref b]) ++ List.replicate (4 - (lg_sl ([.ref b])).length) Slot.unset).toArray = ls at hl ⊢
  have hl : lv_has ls 4 [(0, .ref b)] := hl
  have hP0 : va_P D vwCl [] s.heap := fun k q h => by simp at h
  have hD0 : va_D (fun q : Nat => s.heap.size ≤ q) [] := ⟨fun i j p q h => by simp at h, fun k q h => by simp at h⟩
  suffices h : SLW l D p e s m below meth c b 0 [(0, .ref b)] [] [] 0 0 from h s.heap [] ls hP0 hD0 va_S.rf hl
  refine S_new (pc := 0) (ci := 7) (fs := [.null, .null, .int 0, .null, .null, .null, .null, .null, .null, .null, .null]) C0 hK rfl tyX8 tyX8_ok (tb_m 19 (by decide +kernel)) (tb_m 20 (by decide +kernel)) (tb_m 1 (by decide +kernel)) (fun j hj => by rcases (show j = 0 ∨ j = 1 ∨ j = 2 ∨ j = 3 ∨ j = 4 ∨ j = 5 ∨ j = 6 ∨ j = 7 ∨ j = 8 ∨ j = 9 ∨ j = 10 by omega) with rfl | rfl | rfl | rfl | rfl | rfl | rfl | rfl | rfl | rfl | rfl <;> rfl) (by decide) (by decide) dL_law_0 (fun q1 g1 => ?_)
  refine S_dup (pc := 3) C0 dL_law_3 ?_
  refine S_init (pc := 4) (nw := 0) (ws := []) C0 hK hN (tb_m 21 (by decide +kernel)) ⟨(tb_m 1 (by decide +kernel)), (tb_m 23 (by decide +kernel)), by decide +kernel, by decide +kernel, by decide +kernel⟩ rfl (tb_m 22 (by decide +kernel)) (c_X8_init l D Y q1) rfl rfl (by decide) rfl rfl (by decide) (by decide) (by decide) (Nat.le_of_ble_eq_true rfl) dL_law_4 (fun w1 hw1 => ?_)
  refine S_astore1 (pc := 7) C0 rfl dL_law_7 ?_
  refine S_new (pc := 8) (ci := 8) (fs := [.int 0, .null, .null, .null, .null, .int 0, .null, .null, .null, .null, .null, .int 0, .null, .null, .null, .int 0, .int 0, .null, .int 0, .null, .int 0, .null, .null, .int 0, .null, .int 0, .null, .null, .null, .int 0, .int 0, .int 0, .int 0]) C0 hK rfl tyX9 tyX9_ok (tb_m 951 (by decide +kernel)) (tb_m 952 (by decide +kernel)) (tb_m 9 (by decide +kernel)) (fun j hj => by rcases (show j = 0 ∨ j = 1 ∨ j = 2 ∨ j = 3 ∨ j = 4 ∨ j = 5 ∨ j = 6 ∨ j = 7 ∨ j = 8 ∨ j = 9 ∨ j = 10 ∨ j = 11 ∨ j = 12 ∨ j = 13 ∨ j = 14 ∨ j = 15 ∨ j = 16 ∨ j = 17 ∨ j = 18 ∨ j = 19 ∨ j = 20 ∨ j = 21 ∨ j = 22 ∨ j = 23 ∨ j = 24 ∨ j = 25 ∨ j = 26 ∨ j = 27 ∨ j = 28 ∨ j = 29 ∨ j = 30 ∨ j = 31 ∨ j = 32 by omega) with rfl | rfl | rfl | rfl | rfl | rfl | rfl | rfl | rfl | rfl | rfl | rfl | rfl | rfl | rfl | rfl | rfl | rfl | rfl | rfl | rfl | rfl | rfl | rfl | rfl | rfl | rfl | rfl | rfl | rfl | rfl | rfl | rfl <;> rfl) (by decide) (by decide) dL_law_8 (fun q2 g2 => ?_)
  refine S_dup (pc := 11) C0 dL_law_11 ?_
  refine S_init9 (pc := 12) C0 hK hN (tb_m 953 (by decide +kernel)) ⟨(tb_m 9 (by decide +kernel)), (tb_m 955 (by decide +kernel)), by decide +kernel, by decide +kernel, by decide +kernel⟩ rfl (tb_m 954 (by decide +kernel)) (c_X9_init l D Y q2) rfl rfl (by decide) (by decide) (Nat.le_of_ble_eq_true rfl) dL_law_12 (fun w2 hw2 => ?_)
  refine S_astore2 (pc := 15) C0 rfl dL_law_15 ?_
  refine S_zero (pc := 16) C0 rfl dL_law_16 dL_law_17 ?_
  intro H locs la hP hD hS hLa
  obtain ⟨g, e1, e2, hi, hA, hW⟩ := world_ok hw1 hw2 hP hD
  obtain ⟨tt, aK, aV, hKon⟩ := Kon_all (l := l) hts hgv hK hi (fun i h => hA i h)
  have X : LX ((l, g, D, Y, tt, aK, aV) : Gl) p s m meth c b L xs := ⟨C0, hL, hKon, fun q h => by obtain ⟨k, h1, h2⟩ := h; rw [h2]; exact hA k h1⟩
  have hLa2 : lv_has la 4 [(0, .ref b), (1, .ref (g 0)), (2, .ref (g 54)), (3, .int (iI ((0 : Nat) : Int)))] := by rw [e1, e2]; exact hLa
  exact L_loop (G := ((l, g, D, Y, tt, aK, aV) : Gl)) X (L + 1) 0 zt0 sg0 (by omega) (Nat.zero_le L) RelX0 RelM0 OkI0 H locs la (hW tt aK aV) hS hLa2
-- ===== YOUR PART ENDS =====
set_option maxHeartbeats 4000000 in
theorem lw_walk (l : Launch) (hflags : l.flags = flags0) (b : Addr) (xs : List Int32) : MetFree l x (headSpec (Jvm.Cond.code x code maxLocals ret :: tables_1) room_1) (lw_P b xs) (fun _ _ _ _ _ => True) lw_Q := by
  refine MetFree.of_bodyS (code := code) (maxLocals := maxLocals) (ret := ret) (by decide) ?_ ?_
  · intro args s m h hn
    obtain ⟨meth, c, h1, h2, h3, h4, h5, h6, -, -⟩ := Cond.code_spec hn (atoms_spec (ws := Jvm.Cond.code x code maxLocals ret :: tables_1) h _ List.mem_cons_self)
    exact ⟨meth, c, h1, h2, h3, h4, h5, h6⟩
  · intro p e s m args below meth c s₁ B hml0 hP _
    obtain ⟨rfl, hx, hbd, hgv⟩ := hP
    obtain ⟨scr, harrAt, hlist, hof, hsmall⟩ := hx
    obtain ⟨hcb, hkn, -, -⟩ := State.arrayAt?_spec harrAt
    have hown : s.vm.findClass R_law = some m.cls := findClass_of_methodNamed B.named
    have hts0 : ∀ c ∈ (Jvm.Cond.code x code maxLocals ret :: tables_1), c.before #[Value.ref b] s = true := atoms_spec (ws := Jvm.Cond.code x code maxLocals ret :: tables_1) B.pre
    have hts : ∀ w ∈ lw_tbl, w.before #[Value.ref b] s = true := k2_hts_sels lw_privs (fun w hw => hts0 w (List.mem_cons_of_mem _ hw)) lw_privs_ok
    have hml : c.maxLocals = 4 := B.maxLocals_eq (hts0 _ List.mem_cons_self)
    have X₀ : Stand p l e room_1 s m #[Value.ref b] below meth c s₁ [] 0 0 := Stand.of_body B
    have hh0 : s₁.heap = s.heap := by rw [B.state]; rfl
    have hsz : scr.slots.size = xs.length := by rw [← Array.length_toList, hlist, List.length_map]
    have hval : ∀ j : Nat, j < xs.length → scr.slots[j]? = some (.int (xs.getD j 0)) := fun j hj => by
      rw [← Array.getElem?_toList, hlist]
      simp [hj]
    have hbl : b < s.heap.size := (Array.getElem?_eq_some_iff.mp hcb).1
    have hX : va_X b xs.length (fun j => xs.getD j 0) s s.heap := ⟨scr, hcb, hof, hkn, hsz, hval⟩
    have K : W p l e room_1 s m #[Value.ref b] below meth c s₁.heap [] 0 0 (lw_Z below #[Value.ref b] s) (entryFrame m ([Value.ref b] : List Value).toArray 4) := by
      rw [hh0]
      exact whole_start l hflags hbd ⟨B.exec, B.bytes, B.returns, hml, hown, hts, hX, hbl, B.notSynchronized, hgv⟩
    obtain ⟨t, a1, o, b1, b2, b3⟩ := K s₁ rfl X₀
    exact ⟨t, o, a1, b1, b2, b3⟩
theorem lw_pre_spec {args : Array Value} {s : State} (h : (Jvm.Cond.and given_1 narrow_1).before args s = true) (hr : rest_1_c.before args s = true) : ∃ (b : Addr) (xs : List Int32), lw_P b xs args s := by
  have hs := flat_of_before _ h
  have hq := flat_of_before _ hr
  have hc : (Cond.count 1).before args s = true := hs _ (by decide +kernel)
  have harr : (Cond.arrayOf (.arg 0) .int).before args s = true := hs _ (by decide +kernel)
  have hle : (Cond.le (.length (.arg 0)) (.int 3072)).before args s = true := hs _ (by decide +kernel)
  have hlen : (Cond.isInt (.length (.arg 0))).before args s = true := hq _ (by decide +kernel)
  have hall : (Cond.all (.arg 0) (.isInt (.elem (.arg 0) (.index 0)))).before args s = true := hq _ (by decide +kernel)
  obtain ⟨b, xs, hb, hx⟩ := State.ints_of_pre rfl harr hlen hall
  have hsm : xs.length < 2 ^ 31 := hx.choose_spec.2.2.2
  have hev : (Term.length (.arg 0)).eval args s none [] s = some (.int xs.length.toInt32) := hx.length_eval hb
  have hv := Cond.le_ints hev (show (Term.int 3072).eval args s none [] s = some (.int 3072) from rfl)
  have hd : xs.length.toInt32 ≤ 3072 := by
    simpa [Cond.before, Cond.holds, hv] using hle
  have hN : xs.length ≤ 3072 := (Int32.ofNat_le_ofNat hsm (by decide)).mp (show Int32.ofNat xs.length ≤ Int32.ofNat 3072 from hd)
  exact ⟨b, xs, Cond.one_arg hc (show args[0]? = some (.ref b) from hb), hx, hN, h⟩
theorem lw_comes (l : Launch) (hflags : l.flags = flags0) : Comes l x (Jvm.Cond.code x code maxLocals ret :: tables_1) room_1 (fun tb e args s => Calls_1 tb e args s ∧ rest_1 tb e args s ∧ Pre_1 tb e args s)
    (fun _ _ args s o t => lw_Q args s o t) := by
  intro p e ha hc hk s m args below hf hfit hheap happ hpre
  obtain ⟨b, xs, hP⟩ := lw_pre_spec hpre.2.2 hpre.2.1
  obtain ⟨k, o, h1, h2, h3, hQ⟩ := lw_walk l hflags b xs p e ha hc hk s m args below hf ((Spec.applies_iff_loose hf).mp happ).1 hP trivial
  exact ⟨k, o, h1, h2, h3, hQ⟩
theorem lw_frame {s t : State} {o : Outcome} {args : Array Value} (h : Framed s o t [] 600000 7302250) :
    Framed s o t (fieldLocs frame_1_writes args s ++ arrayLocs frame_1_arrays args s ++ staticLocs frame_1_statics s) 600000 7302250 := h
theorem lw_limb (L : Cond) (hL : ∀ (args : Array Value) (s t : State), L.after args s (.returned (some (.int 1))) t = true) :
    ArmFor flags0 classFile x code maxLocals ret World_1 tables_1 room_1 Calls_1 rest_1 Pre_1
      (fun tb e a s o t => postC L tb e a s o t ∧ Framed s o t (fieldLocs frame_1_writes a s ++ arrayLocs frame_1_arrays a s ++ staticLocs frame_1_statics s) 600000 7302250) := by
  intro l hflags _ _ p e ha hc hk s m args below hf hfit hheap happ hpre
  obtain ⟨k, o, h1, h2, h3, rfl, hF⟩ := lw_comes l hflags p e ha hc hk s m args below hf hfit hheap happ hpre
  exact ⟨k, _, h1, h2, h3, hL args s _, lw_frame hF⟩
theorem i_vc : Claimed_1_1 ∧ Claimed_1_2 := ⟨lw_limb limb_1_1 (fun args s t => by simp [limb_1_1, Cond.after, Cond.holds, Cond.value]), lw_limb limb_1_2 (fun args s t => Cond.after_iff.mpr (by
  first | (rw [show limb_1_2 = Cond.eq .result (.int 1) from rfl, Cond.eq_ints (x := 1) (y := 1) rfl rfl]; simp; done) | (simp [limb_1_2, Cond.value, Term.eval]; done)))⟩
