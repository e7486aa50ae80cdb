/-! PART 53: constructors: the walk over a world that grows -/
def tyY (Y : Nat → ClassId) : List (ClassId × FieldType) := [(Y 0, .int), (Y 1, .long), (Y 2, .boolean), (Y 3, .object "WindowsLookedOut$Shelf")]
def nestC : List (String × Nat × MethodName) := [(RX8, 9, yX5_init), (RX8, 35, yX2_init), (RX2, 11, yX5_init), (RX8, 42, yX4_init), (RX8, 49, yX6_init), (RX8, 56, yX7_init), (RX8, 66, yX1_init), (RX8, 71, yX3_init)]
def NKn (U : State) : Prop := (∀ q ∈ nestC, va_Nw (.methodLinkNest q.1 q.2.1 q.2.2 RX8) U) ∧ va_AO "WindowsLookedOut$Shelf" U
def NPc (D : va_G) (Y : Nat → ClassId) (x0 : Nat × va_E) (sz : Nat) (U : State) : Prop := U.heap.size = sz ∧ va_P D vwCl [x0] U.heap ∧ va_K D vwCl (tyY Y) U ∧ NKn U
def QN (D : va_G) (A : Nat → Prop) (K : va_W → Prop) : Array Value → State → Outcome → State → Prop := fun _ st oc t => (∃ ws, oc = .returned none ∧ K ws ∧ va_P D vwCl ws t.heap ∧ va_D A ws) ∧ va_F A st t
/-- a constructor's contract: the new object x0, its world behind it as K says -/
def CNt (l : Launch) (D : va_G) (Y : Nat → ClassId) (y : MethodName) (b : ByteArray) (mL : Nat) (rm : Room) (mc ms : Nat) (x0 : Nat × va_E) (K : va_W → Prop) : Prop :=
  ∀ sz, Met l y (Cond.code y b mL none :: TW) rm (va_Pc [.ref x0.1] (NPc D Y x0 sz)) (QN D (va_A [x0] sz) K) mc ms (va_A [x0] sz)
def Nx (D : va_G) (Y : Nat → ClassId) (own : String) (cc : ByteArray) (mL : Nat) (p : Program) (s : State) (m : MethodId) (args : Array Value) (meth : Method) (c : Code) : Prop :=
  p.tables.exec = Jvm.exec ∧ c.code = cc ∧ c.maxLocals = mL ∧ meth.sig.returnType = none ∧ meth.locks = false ∧ s.vm.findClass own = some m.cls ∧ (∀ w ∈ TW, w.before args s = true) ∧ meth.name = "<init>" ∧ va_K D vwCl (tyY Y) s ∧ NKn s
def NW (l : Launch) (D : va_G) (Y : Nat → ClassId) (own : String) (cc : ByteArray) (mL : Nat) (R : Room) (A : Nat → Prop) (mc ms : Nat) (K : va_W → Prop) (pc : Nat) (ls : List (Nat × Value)) (st : List Value) (ws : va_W) (k n : Nat) : Prop :=
  ∀ (p : Program) (e : Env) (s : State) (m : MethodId) (args : Array Value) (below : List Frame) (meth : Method) (c : Code) (H : Heap) (locs : List Loc) (la : Array Slot),
    Nx D Y own cc mL p s m args meth c → (∀ q, s.heap.size ≤ q → A q) → va_P D vwCl ws H → va_D A ws → va_S A s.heap H locs → lv_has la mL ls → W p l e R s m args below meth c H locs k n (MQ below (QN D A K) args s mc ms A) (F0 m pc la st)
theorem va_D1 {x : Nat × va_E} {A : Nat → Prop} (h : A x.1) : va_D A [x] := by
  refine ⟨fun i j p q hi hj _ => ?_, fun k q hk => ?_⟩
  · have h1 : i < 1 := (List.getElem?_eq_some_iff.mp hi).1
    have h2 : j < 1 := (List.getElem?_eq_some_iff.mp hj).1
    omega
  · have h1 : k < 1 := (List.getElem?_eq_some_iff.mp hk).1
    rw [show k = 0 by omega] at hk
    cases hk
    exact h
theorem CNt.of {l : Launch} {D : va_G} {Y : Nat → ClassId} {y : MethodName} {b : ByteArray} {mL : Nat} {rm : Room} {mc ms : Nat} {x0 : Nat × va_E} {K : va_W → Prop} (hy : plainName y.cls = true) (hyn : y.name = "<init>") (hm : 1 ≤ mL)
    (h : ∀ A, NW l D Y y.cls b mL rm A mc ms K 0 [(0, .ref x0.1)] [] [x0] 0 0) : CNt l D Y y b mL rm mc ms x0 K := by
  intro sz
  refine Met.ofW (cc := b) (maxL := mL) (ret := none) (ws' := TW) hy rfl ?_
  intro p e s m args below meth c s₁ B hml hv
  obtain ⟨rfl, hsz, hP, hK, hN⟩ := hv
  have hts := atoms_spec (ws := Cond.code y b mL none :: TW) B.pre
  rw [lg_entry_eq]
  subst hsz
  exact h _ p e s m _ below meth c s.heap [] _ ⟨B.exec, B.bytes, hml, B.returns, B.notSynchronized, findClass_of_methodNamed B.named, fun w hw => hts w (List.mem_cons_of_mem _ hw), (name_of_methodNamed B.named B.method).1.trans hyn, hK, hN⟩ (fun q hq => Or.inr hq) hP (va_D1 (va_A.in (k := 0) rfl)) va_S.rf (lv_entry [.ref x0.1] hm)
section NWS
variable {l : Launch} {D : va_G} {Y : Nat → ClassId} {own : String} {cc : ByteArray} {mL : Nat} {R : Room} {A : Nat → Prop} {mc ms : Nat} {K : va_W → Prop} {pc : Nat} {ls : List (Nat × Value)} {st : List Value} {ws : va_W} {k n : Nat}
theorem N_aload_n {i : Fin 4} {a : Nat} (h : ls[0]? = some (0, .ref a)) (hi : i = 0) (hd : decode cc pc = .ok (.aload_n i, 1)) (kk : NW l D Y own cc mL R A mc ms K (pc + 1) ls (.ref a :: st) ws k n) : NW l D Y own cc mL R A mc ms K pc ls st ws k n := by
  intro p e s m args below meth c H locs la hC hA hP hD hS hL
  subst hi
  exact lv_aload_n hC.1 hC.2.1 hd rfl (lv_at hL 0 h) (kk p e s m args below meth c H locs la hC hA hP hD hS hL)
theorem N_iload_n {i : Fin 4} {v : Int32} (h : ls[1]? = some (1, .int v)) (hi : i = 1) (hd : decode cc pc = .ok (.iload_n i, 1)) (kk : NW l D Y own cc mL R A mc ms K (pc + 1) ls (.int v :: st) ws k n) : NW l D Y own cc mL R A mc ms K pc ls st ws k n := by
  intro p e s m args below meth c H locs la hC hA hP hD hS hL
  subst hi
  exact lv_iload_n hC.1 hC.2.1 hd rfl (lv_at hL 1 h) (kk p e s m args below meth c H locs la hC hA hP hD hS hL)
theorem N_istore_n {i : Fin 4} {a : Nat} {v : Int32} (hl : ls = [(0, .ref a)]) (hm : 2 ≤ mL) (hi : i = 1) (hd : decode cc pc = .ok (.istore_n i, 1)) (kk : NW l D Y own cc mL R A mc ms K (pc + 1) [(0, .ref a), (1, .int v)] st ws k n) : NW l D Y own cc mL R A mc ms K pc ls (.int v :: st) ws k n := by
  intro p e s m args below meth c H locs la hC hA hP hD hS hL
  subst hi
  subst hl
  refine lv_istore_n (lv' := [(1, .int v), (0, .ref a)]) hC.1 hC.2.1 hd rfl hL (by omega) rfl (fun la2 hL2 => ?_)
  exact kk p e s m args below meth c H locs la2 hC hA hP hD hS (lv_sub hL2 [1, 0] rfl)
theorem N_iinc {a : Nat} {v v2 : Int32} (hl : ls = [(0, .ref a), (1, .int v)]) (hm : 2 ≤ mL) (hv : v + 1 = v2) (hd : decode cc pc = .ok (.iinc 1 1, 3)) (kk : NW l D Y own cc mL R A mc ms K (pc + 3) [(0, .ref a), (1, .int v2)] st ws k n) : NW l D Y own cc mL R A mc ms K pc ls st ws k n := by
  intro p e s m args below meth c H locs la hC hA hP hD hS hL
  subst hl
  refine lv_iinc (v := v2) (lv' := [(1, .int v2), (0, .ref a)]) hC.1 hC.2.1 hd hL (k := 1) rfl (by rw [← hv]; rfl) (by omega) rfl (fun la2 hL2 => ?_)
  exact kk p e s m args below meth c H locs la2 hC hA hP hD hS (lv_sub hL2 [1, 0] rfl)
theorem N_iconst {j : Int} {v : Int32} (hv : iI j = v) (hd : decode cc pc = .ok (.iconst j, 1)) (kk : NW l D Y own cc mL R A mc ms K (pc + 1) ls (.int v :: st) ws k n) : NW l D Y own cc mL R A mc ms K pc ls st ws k n := by
  intro p e s m args below meth c H locs la hC hA hP hD hS hL
  exact lv_iconst hC.1 hC.2.1 hd hv (kk p e s m args below meth c H locs la hC hA hP hD hS hL)
theorem N_lconst {j : Fin 2} {v : Int64} (hv : Int64.ofNat (j : Nat) = v) (hd : decode cc pc = .ok (.lconst j, 1)) (kk : NW l D Y own cc mL R A mc ms K (pc + 1) ls (.long v :: st) ws k n) : NW l D Y own cc mL R A mc ms K pc ls st ws k n := by
  intro p e s m args below meth c H locs la hC hA hP hD hS hL
  exact lv_lconst hC.1 hC.2.1 hd hv (kk p e s m args below meth c H locs la hC hA hP hD hS hL)
theorem N_bipush {j : Int} {v : Int32} (hv : (Int8.ofInt j).toInt32 = v) (hd : decode cc pc = .ok (.bipush j, 2)) (kk : NW l D Y own cc mL R A mc ms K (pc + 2) ls (.int v :: st) ws k n) : NW l D Y own cc mL R A mc ms K pc ls st ws k n := by
  intro p e s m args below meth c H locs la hC hA hP hD hS hL
  exact lv_bipush hC.1 hC.2.1 hd hv (kk p e s m args below meth c H locs la hC hA hP hD hS hL)
theorem N_sipush {j : Int} {v : Int32} (hv : (Int16.ofInt j).toInt32 = v) (hd : decode cc pc = .ok (.sipush j, 3)) (kk : NW l D Y own cc mL R A mc ms K (pc + 3) ls (.int v :: st) ws k n) : NW l D Y own cc mL R A mc ms K pc ls st ws k n := by
  intro p e s m args below meth c H locs la hC hA hP hD hS hL
  exact lv_sipush hC.1 hC.2.1 hd hv (kk p e s m args below meth c H locs la hC hA hP hD hS hL)
theorem N_dup {a : Nat} (hd : decode cc pc = .ok (.dup, 1)) (kk : NW l D Y own cc mL R A mc ms K (pc + 1) ls (.ref a :: .ref a :: st) ws k n) : NW l D Y own cc mL R A mc ms K pc ls (.ref a :: st) ws k n := by
  intro p e s m args below meth c H locs la hC hA hP hD hS hL
  exact lv_dup hC.1 hC.2.1 hd rfl (kk p e s m args below meth c H locs la hC hA hP hD hS hL)
theorem N_goto {off : Int} (tgt : Nat) (hd : decode cc pc = .ok (.goto off, 3)) (ht : (pc : Int) + off = (tgt : Int)) (kk : NW l D Y own cc mL R A mc ms K tgt ls st ws k n) : NW l D Y own cc mL R A mc ms K pc ls st ws k n := by
  intro p e s m args below meth c H locs la hC hA hP hD hS hL
  exact lv_goto hC.1 hC.2.1 hd ht (kk p e s m args below meth c H locs la hC hA hP hD hS hL)
theorem N_ge_f {x y : Int32} {off : Int} (tgt : Nat) (hd : decode cc pc = .ok (.if_icmp .ge off, 3)) (ht : (pc : Int) + off = (tgt : Int)) (h : ¬ y ≤ x) (kk : NW l D Y own cc mL R A mc ms K (pc + 3) ls st ws k n) : NW l D Y own cc mL R A mc ms K pc ls (.int y :: .int x :: st) ws k n := by
  intro p e s m args below meth c H locs la hC hA hP hD hS hL
  exact lv_icmp_ge hC.1 hC.2.1 hd ht (fun q => absurd q h) (fun _ => kk p e s m args below meth c H locs la hC hA hP hD hS hL)
theorem N_ge_t {x y : Int32} {off : Int} (tgt : Nat) (hd : decode cc pc = .ok (.if_icmp .ge off, 3)) (ht : (pc : Int) + off = (tgt : Int)) (h : y ≤ x) (kk : NW l D Y own cc mL R A mc ms K tgt ls st ws k n) : NW l D Y own cc mL R A mc ms K pc ls (.int y :: .int x :: st) ws k n := by
  intro p e s m args below meth c H locs la hC hA hP hD hS hL
  exact lv_icmp_ge hC.1 hC.2.1 hd ht (fun _ => kk p e s m args below meth c H locs la hC hA hP hD hS hL) (fun q => absurd h q)
theorem N_ret (hk : k = mc) (hn : n = ms) (hK : K ws) (hd : decode cc pc = .ok (.return_, 1)) : NW l D Y own cc mL R A mc ms K pc ls [] ws k n := by
  intro p e s m args below meth c H locs la hC hA hP hD hS hL
  subst hk; subst hn
  exact W.vret hC.1 hC.2.1 hC.2.2.2.1 (fun t ht hW => ⟨⟨ws, rfl, hK, by rw [ht]; exact hP, hD⟩, hS.F ht⟩) hS.2.2 hd (hlocks := hC.2.2.2.2.1)
theorem N_obj {idx a : Nat} (hl : Cond.methodLink own idx Lib.objectInit ∈ lw_tbl) (hf : 1 ≤ R.frames) (hlo : 12 ≤ R.locals) (hd : decode cc pc = .ok (.invokespecial idx, 3)) (kk : NW l D Y own cc mL R A mc ms K (pc + 3) ls [] ws k n) : NW l D Y own cc mL R A mc ms K pc ls [.ref a] ws k n := by
  intro p e s m args below meth c H locs la hC hA hP hD hS hL
  refine W.objInit hC.1 hC.2.1 hC.2.2.2.2.2.1 (hC.2.2.2.2.2.2.1 _ (TW_in hl rfl)) (hC.2.2.2.2.2.2.1 _ (TW_in (tb_m 25 (by decide +kernel)) rfl)) (hC.2.2.2.2.2.2.1 _ (TW_in (tb_m 26 (by decide +kernel)) rfl)) rfl (by rw [hC.2.2.1]; exact hL.1) rfl hd hf (by show 2 * 0 + 0 + 12 ≤ _; exact hlo) ?_
  refine W.eq (g2 := F0 m (pc + 3) la []) rfl ?_
  exact kk p e s m args below meth c H locs la hC hA hP hD hS hL
theorem N_new {ci idx N : Nat} {C : String} {T : u_T} {fs : List Value} (hc : vwCl[ci]? = some (C, T, N)) (ty : Nat → FieldType) (hty : ∀ j, j < N → parseFieldDescriptor (T j).2.2.1 = some (ty j)) (hcl : Cond.classLink own idx C ∈ lw_tbl) (hin : Cond.instantiable C N ∈ lw_tbl) (hini : Cond.initialized C ∈ lw_tbl) (hfs : ∀ j, j < N → defaultValue (ty j) = vp_V fs j) (hk : k + 1 ≤ R.cells) (hn : n + N ≤ R.slots) (hd : decode cc pc = .ok (.new idx, 3))
    (kk : ∀ q, NW l D Y own cc mL R A mc ms K (pc + 3) ls (.ref q :: st) (ws ++ [(q, .inr (ci, fs))]) (k + 1) (n + N)) : NW l D Y own cc mL R A mc ms K pc ls st ws k n := by
  intro p e s m args below meth c H locs la hC hA hP hD hS hL
  have hts := hC.2.2.2.2.2.2.1
  exact va_new (Ts := TW) hC.1 hC.2.1 hts (cls_in hc) ty hty hC.2.2.2.2.2.1 (hts _ (TW_in hcl rfl)) (hts _ (TW_in hin rfl)) (hts _ (TW_in hini rfl)) hC.2.2.2.2.2.2.2.2.1 hP hD hS hA hc hfs hk hn hd (fun q H1 hP1 hD1 hS1 => kk q p e s m args below meth c H1 locs la hC hA hP1 hD1 hS1 hL)
theorem N_newa {atype : ArrayType} {t0 N' : Nat} {i : Int32} {a0 : vp_A} (ty : FieldType) (harr : Cond.arrayClass ty ∈ lw_tbl) (hty : newarray.typeOf atype = ty) (ht : (tyY Y)[t0]? = some (Y t0, ty)) (hp : ty = .int ∨ ty = .long ∨ ty = .boolean) (ha : ∀ cA : ClassId, vp_cell cA a0 = arrV cA N' (fun _ => defaultValue ty)) (hi : i = nI N') (hN : N' < 2000) (hk : k + 1 ≤ R.cells) (hn : n + N' ≤ R.slots) (hd : decode cc pc = .ok (.newarray atype, 2))
    (kk : ∀ q, NW l D Y own cc mL R A mc ms K (pc + 2) ls (.ref q :: st) (ws ++ [(q, .inl (Y t0, a0))]) (k + 1) (n + N')) : NW l D Y own cc mL R A mc ms K pc ls (.int i :: st) ws k n := by
  intro p e s m args below meth c H locs la hC hA hP hD hS hL
  have hts := hC.2.2.2.2.2.2.1
  have hK := hC.2.2.2.2.2.2.2.2.1
  subst hi
  refine va_newa hC.1 hC.2.1 (hts _ (TW_in (by rw [hty]; exact harr) (by rw [hty]; rfl))) hty hK hP hD hS hA ha (nI_pos (by omega)) (nI_clamp (by omega)) (by rcases hp with h | h | h <;> subst h <;> (show N' * _ ≤ _) <;> (try omega) <;> (simp [componentBytes]; omega)) hk hn hd (fun q cA H1 hK1 hP1 hD1 hS1 => ?_)
  have h4 : va_RA s cA ty := (hK1.2 4 (cA, ty) rfl).2
  have h0 : va_RA s (Y t0) ty := (hK.2 t0 _ ht).2
  have e : cA = Y t0 := by
    rcases hp with h | h | h <;> subst h
    · exact Option.some.inj ((show s.vm.findClass _ = some cA from h4).symm.trans h0)
    · exact Option.some.inj ((show s.vm.findClass _ = some cA from h4).symm.trans h0)
    · exact Option.some.inj ((show s.vm.findClass _ = some cA from h4).symm.trans h0)
  subst e
  exact kk q p e s m args below meth c H1 locs la hC hA hP1 hD1 hS1 hL
theorem N_newq {idx N' : Nat} {i : Int32} (hcl : Cond.classLink own idx "WindowsLookedOut$Shelf" ∈ lw_tbl) (hi : i = nI N') (hN : N' < 2000) (hk : k + 1 ≤ R.cells) (hn : n + N' ≤ R.slots) (hd : decode cc pc = .ok (.anewarray idx, 3))
    (kk : ∀ q, NW l D Y own cc mL R A mc ms K (pc + 3) ls (.ref q :: st) (ws ++ [(q, .inl (Y 3, N', .inr (.inr (.inr (.inr (fun _ => none))))))]) (k + 1) (n + N')) : NW l D Y own cc mL R A mc ms K pc ls (.int i :: st) ws k n := by
  intro p e s m args below meth c H locs la hC hA hP hD hS hL
  have hts := hC.2.2.2.2.2.2.1
  have hK := hC.2.2.2.2.2.2.2.2.1
  subst hi
  refine va_newq hC.1 hC.2.1 hC.2.2.2.2.2.1 (hts _ (TW_in hcl rfl)) hC.2.2.2.2.2.2.2.2.2.2 hK hP hD hS hA (nI_pos (by omega)) (nI_clamp (by omega)) (by omega) hk hn hd (fun q cA H1 hK1 hP1 hD1 hS1 => ?_)
  have h4 : va_RA s cA (.object "WindowsLookedOut$Shelf") := (hK1.2 4 _ rfl).2
  have h0 : va_RA s (Y 3) (.object "WindowsLookedOut$Shelf") := (hK.2 3 _ rfl).2
  obtain ⟨_, _, _, _, _, f1⟩ := h4
  obtain ⟨_, _, _, _, _, f2⟩ := h0
  have e : cA = Y 3 := Option.some.inj (f1.symm.trans f2)
  subst e
  exact kk q p e s m args below meth c H1 locs la hC hA hP1 hD1 hS1 hL
/-- field k of class ci, final -/
def FnF (own : String) (ci j : Nat) (ty : FieldType) : Prop := ∃ q : vw_C, vwCl[ci]? = some q ∧ (q.2.1 j).2.2.2 = true ∧ (q.2.1 j).1 = own ∧ parseFieldDescriptor (q.2.1 j).2.2.1 = some ty
theorem N_put {idx ci j a q0 : Nat} {fs : List Value} {v : Value} {ty : FieldType} {ws2 : va_W} (hf : LkF own idx ci j) (hw : WrF ci j ty) (he : ws[q0]? = some (a, .inr (ci, fs))) (hn : narrow ty v = v) (hfit : fits ty v = true) (hl : j < fs.length) (h2 : ws.set q0 (a, .inr (ci, fs.set j v)) = ws2) (hd : decode cc pc = .ok (.putfield idx, 3))
    (kk : NW l D Y own cc mL R A mc ms K (pc + 3) ls st ws2 k n) : NW l D Y own cc mL R A mc ms K pc ls (v :: .ref a :: st) ws k n := by
  intro p e s m args below meth c H locs la hC hA hP hD hS hL
  obtain ⟨⟨C, T, N⟩, h1, h3, h4⟩ := hf
  obtain ⟨q, g1, g2, g3⟩ := hw
  have hq : q = (C, T, N) := Option.some.inj (g1.symm.trans h1)
  subst hq
  obtain ⟨ty0, t1, t2⟩ := ClF_all h1
  have hts := hC.2.2.2.2.2.2.1
  subst h2
  exact va_put (ci := ci) (Ts := TW) (ty := ty) hC.1 hC.2.1 hts (cls_in h1) ty0 t1 t2 hC.2.2.2.2.2.1 hC.2.2.2.2.2.2.2.2.1 hP hD hS q0 he h1 j h3 (hts _ (TW_in h4 rfl)) (fun _ h => h) g2 g3 hn hfit hl hd (fun H1 l1 hP1 hD1 hS1 => kk p e s m args below meth c H1 l1 la hC hA hP1 hD1 hS1 hL)
theorem N_putF {idx ci j a q0 : Nat} {fs : List Value} {v : Value} {ty : FieldType} {ws2 : va_W} (hf : LkF own idx ci j) (hw : FnF own ci j ty) (he : ws[q0]? = some (a, .inr (ci, fs))) (hn : narrow ty v = v) (hfit : fits ty v = true) (hl : j < fs.length) (h2 : ws.set q0 (a, .inr (ci, fs.set j v)) = ws2) (hd : decode cc pc = .ok (.putfield idx, 3))
    (kk : NW l D Y own cc mL R A mc ms K (pc + 3) ls st ws2 k n) : NW l D Y own cc mL R A mc ms K pc ls (v :: .ref a :: st) ws k n := by
  intro p e s m args below meth c H locs la hC hA hP hD hS hL
  obtain ⟨⟨C, T, N⟩, h1, h3, h4⟩ := hf
  obtain ⟨q, g1, g2, g5, g3⟩ := hw
  have hq : q = (C, T, N) := Option.some.inj (g1.symm.trans h1)
  subst hq
  obtain ⟨ty0, t1, t2⟩ := ClF_all h1
  have hts := hC.2.2.2.2.2.2.1
  subst h2
  exact va_putF (ci := ci) (Ts := TW) (ty := ty) hC.1 hC.2.1 hts (cls_in h1) ty0 t1 t2 hC.2.2.2.2.2.1 hC.2.2.2.2.2.2.2.2.1 hP hD hS q0 he h1 j h3 (hts _ (TW_in h4 rfl)) (fun _ h => h) g2 hC.2.2.2.2.2.2.2.1 g5 g3 hn hfit hl hd (fun H1 l1 hP1 hD1 hS1 => kk p e s m args below meth c H1 l1 la hC hA hP1 hD1 hS1 hL)
theorem N_get {idx ci j a q0 : Nat} {fs : List Value} {v : Value} (hf : LkF own idx ci j) (he : ws[q0]? = some (a, .inr (ci, fs))) (hv : fs[j]? = some v) (hd : decode cc pc = .ok (.getfield idx, 3))
    (kk : NW l D Y own cc mL R A mc ms K (pc + 3) ls (v :: st) ws k n) : NW l D Y own cc mL R A mc ms K pc ls (.ref a :: st) ws k n := by
  intro p e s m args below meth c H locs la hC hA hP hD hS hL
  obtain ⟨⟨C, T, N⟩, h1, h3, h4⟩ := hf
  have hts := hC.2.2.2.2.2.2.1
  exact va_get (ci := ci) (Ts := TW) hC.1 hC.2.1 hts (cls_in h1) hC.2.2.2.2.2.1 hC.2.2.2.2.2.2.2.2.1 hP q0 he h1 j h3 (hts _ (TW_in h4 rfl)) (fun _ h => h) hv hd (kk p e s m args below meth c H locs la hC hA hP hD hS hL)
theorem N_iast {a q0 N' j : Nat} {f : Nat → Int32} {i x : Int32} {ws2 : va_W} (he : ws[q0]? = some (a, .inl (Y 0, N', .inl f))) (hi : i = nI j) (hj : j < N') (hN : N' < 2000) (h2 : ws.set q0 (a, .inl (Y 0, N', .inl (upd f j x))) = ws2) (hd : decode cc pc = .ok (.iastore, 1))
    (kk : NW l D Y own cc mL R A mc ms K (pc + 1) ls st ws2 k n) : NW l D Y own cc mL R A mc ms K pc ls (.int x :: .int i :: .ref a :: st) ws k n := by
  intro p e s m args below meth c H locs la hC hA hP hD hS hL
  subst hi; subst h2
  refine va_iast hC.1 hC.2.1 hC.2.2.2.2.2.2.2.2.1 hP hD hS q0 0 he rfl (vp_in_nI hj (by omega)) hd (fun H1 l1 hP1 hD1 hS1 => ?_)
  rw [nI_clamp (by omega)] at hP1 hD1
  exact kk p e s m args below meth c H1 l1 la hC hA hP1 hD1 hS1 hL
theorem N_astq {a q0 qk N' j v : Nat} {f : Nat → Option Nat} {vs : List Value} {i : Int32} {ws2 : va_W} (he : ws[q0]? = some (a, .inl (Y 3, N', .inr (.inr (.inr (.inr f)))))) (hv : ws[qk]? = some (v, .inr (2, vs))) (hi : i = nI j) (hj : j < N') (hN : N' < 2000) (h2 : ws.set q0 (a, .inl (Y 3, N', .inr (.inr (.inr (.inr (va_up f j (some v))))))) = ws2) (hd : decode cc pc = .ok (.aastore, 1))
    (kk : NW l D Y own cc mL R A mc ms K (pc + 1) ls st ws2 k n) : NW l D Y own cc mL R A mc ms K pc ls (.ref v :: .int i :: .ref a :: st) ws k n := by
  intro p e s m args below meth c H locs la hC hA hP hD hS hL
  subst hi; subst h2
  refine va_astq (r := (RX3, TX3, 3)) hC.1 hC.2.1 hC.2.2.2.2.2.2.2.2.1 hP hD hS q0 3 qk 2 he rfl hv rfl (vp_in_nI hj (by omega)) hd (fun H1 l1 hP1 hD1 hS1 => ?_)
  rw [nI_clamp (by omega)] at hP1 hD1
  exact kk p e s m args below meth c H1 l1 la hC hA hP1 hD1 hS1 hL
/-- a constructor called: the object stands last in the world -/
theorem N_init {idx mL2 mc2 ms2 : Nat} {y : MethodName} {b : ByteArray} {rm : Room} {q nw : Nat} {e0 : va_E} {K2 : va_W → Prop} {rest : List Value} (hN : (own, idx, y) ∈ nestC) (hl : LkB y 0 b mL2 none) (hyn : y.name = "<init>") (him : Cond.instanceMethod y ∈ lw_tbl) (hc : CNt l D Y y b mL2 rm mc2 ms2 (q, e0) K2) (hrc : rm.cells = mc2) (hrs : rm.slots = ms2) (hR : rm.frames + 1 ≤ R.frames ∧ 8 + (mL2 + 11) + rm.locals ≤ R.locals)
    (hw : ws.length = nw) (hiR : (List.range nw).map (fun i => (ws ++ [(q, e0)])[i]?) = ws.map some) (hiC : [nw].map (fun i => (ws ++ [(q, e0)])[i]?) = [(q, e0)].map some) (hnd : va_nd (List.range nw) = true) (hdis : ∀ i ∈ List.range nw, i ∉ [nw]) (hf : k + mc2 ≤ R.cells ∧ n + ms2 ≤ R.slots) (hst : (rest.map fun v => v.category).sum ≤ 8) (hd : decode cc pc = .ok (.invokespecial idx, 3))
    (kk : ∀ w1, K2 w1 → NW l D Y own cc mL R A mc ms K (pc + 3) ls rest (ws ++ w1) (k + mc2) (n + ms2)) : NW l D Y own cc mL R A mc ms K pc ls (.ref q :: rest) (ws ++ [(q, e0)]) k n := by
  intro p e s m args below meth c H locs la hC hA hP hD hS hL
  have hts := hC.2.2.2.2.2.2.1
  obtain ⟨l1, l2, l3, l4, l5⟩ := hl
  have hG : GoodIn TW (Cond.code y b mL2 none :: TW) := by
    intro w hw
    rcases List.mem_cons.mp hw with h | h
    · exact TW_good _ (h ▸ TW_in l2 rfl)
    · exact TW_good _ h
  have hPc : va_P D vwCl [(q, e0)] H := fun kq x hx => by
    have h1 : kq < 1 := (List.getElem?_eq_some_iff.mp hx).1
    rw [show kq = 0 by omega] at hx
    have e1 : (ws ++ [(q, e0)])[nw]? = some (q, e0) := by
      have := hiC
      simp only [List.map_cons, List.map_nil] at this
      exact (List.cons.inj this).1
    cases hx
    exact hP nw _ e1
  have hFc := va_free (wc := [(q, e0)]) hD hS hA [nw] hiC
  have hr := va_runIN (As := []) (rest := rest) (p := p) (l := l) (e := e) (below := below) (meth := meth) (H := H) (locs := locs) (cells := k) (slots := n) (R := R) ⟨hC.1, hC.2.1, hC.2.2.1, hC.2.2.2.2.2.1, hts⟩ (hc H.size) ⟨va_cnB (host := RX8) 0 hts hG rfl hrc hrs (hC.2.2.2.2.2.2.2.2.2.1 _ hN) (hts _ (TW_in l1 rfl)) ⟨l3, l4, l5⟩ hR, hyn, hts _ (TW_in him rfl)⟩
    ⟨fun a U g mk h => by obtain ⟨h0, h1, h2, h3, h4, h5⟩ := h; exact ⟨h0, h1, h2, va_K.moved (u := U) (U := U.calling g mk a) (Vm.Alike.refl U.vm) h3, fun x hx => va_Nw.same (u := U) rfl rfl (h4 x hx), va_AO.moved (u := U) (U := U.calling g mk a) (Vm.Alike.refl U.vm) h5⟩, fun U hU hW => ⟨rfl, by rw [hU], by rw [hU]; exact hPc, va_K.moved hW.alike hC.2.2.2.2.2.2.2.2.1, fun x hx => va_Nw.warmM hW (hC.2.2.2.2.2.2.2.2.2.1 x hx), va_AO.moved hW.alike hC.2.2.2.2.2.2.2.2.2.2⟩⟩ rfl rfl hL.1 rfl (lv_room hst) hd hf
  intro T hT X
  obtain ⟨v, st₀, t, T', L, h0, X', hLL, e1, e2, ⟨⟨w1, hv, hK1, hp, hdd⟩, hz, hk⟩, st1⟩ := hr T hT X
  cases hv
  rw [h0] at hz hk
  have hp' : va_P D vwCl w1 T'.heap := by rw [e1]; exact hp
  obtain ⟨hP2, hD2⟩ := va_join (wr := ws) (w1 := w1) hP hD [nw] (List.range nw) hiC hiR hnd hdis (fun x hx hnx => by rw [e1]; exact hk x hx hnx) hFc hp' hdd
  obtain ⟨t2, a1, b1⟩ := kk w1 hK1 p e s m args below meth c T'.heap (locs ++ L) la hC hA hP2 hD2
    ⟨Nat.le_trans hS.1 (by rw [e1]; exact hz), fun x h1 h2 => by rw [e1, hk x (Nat.lt_of_lt_of_le h1 hS.1) (fun z => h2 (hFc x z))]; exact hS.2.1 x h1 h2, fun x hx => by
      rcases List.mem_append.mp hx with h | h
      · exact hS.2.2 x h
      · exact hFc _ (hLL x h)⟩ hL T' rfl X'
  exact ⟨t2, st1 t2 a1, b1⟩
end NWS
