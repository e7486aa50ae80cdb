/-! PART 57: the law: its rules (the first rows began as those of kit/laws/SKELETON.whole.lean.txt) -/
def R_law : String := "WindowsLookedOutLaw"
def lw_P (b : Addr) (xs : List Int32) (args : Array Value) (s : State) : Prop := args = #[.ref b] ∧ s.IntsAt b xs ∧ xs.length ≤ 3072 ∧ (Jvm.Cond.and given_1 narrow_1).before args s = true
def lw_Q (_ : Array Value) (s : State) (o : Outcome) (t : State) : Prop := o = .returned (some (.int 1)) ∧ Framed s o t [] 600000 7302250
def lw_Z (below : List Frame) (a : Array Value) (s : State) : State → Prop := fun t => ∃ o, t.status = .running ∧ Ended t below o ∧ lw_Q a s o t
/-- the law's own end, with 1 on the stack, nothing written that was there before, its room as the claim has it -/
theorem lw_ret {p : Program} {l : Launch} {e : Env} {s : State} {m : MethodId} {below : List Frame} {meth : Method} {c : Code} {b : Nat} (hx : p.tables.exec = Jvm.exec) (hb : c.code = code) (hr : meth.sig.returnType = ret) (hlocks : meth.locks = false) {pc : Nat} {H : Heap} {ls : Array Slot} (hdg : decode code pc = .ok (.ireturn, 1)) : W p l e room_1 s m #[Value.ref b] below meth c H [] 600000 7302250 (lw_Z below #[Value.ref b] s) (F0 m pc ls [.int 1]) := by
  intro T hT X
  obtain ⟨fs, hret, hrun, hended, hW, hframe⟩ := X.leave (v := some (.int 1)) (hlocks := hlocks) (fun h => by rw [hr] at h; cases h)
  have hmeth' : T.vm.method? m = some meth := X.method'
  refine ⟨T.setFrames fs, ?_, .returned (some (.int 1)), hrun, hended, rfl, ⟨_, rfl⟩, hW, hframe⟩
  jvm_step X.here [X.here.top, hx, hb, hdg, hmeth', hr, ret, narrow_b1]
  (try refine ⟨rfl, ?_⟩); (try refine ⟨rfl, ?_⟩)
  first | (intro acts; rw [hret _ acts rfl rfl rfl]) | rw [hret _ _ rfl rfl rfl]
  exact Steps.refl _
/-- what holds at the law's entry: the machine, the code, the tables' words (any of lw_tbl by 'hts w (by decide +kernel)'), the script of L ints xs at the cell b, what the Statement gives of the start (any of its parts by flat_of_before) -/
def lw_At (p : Program) (s : State) (m : MethodId) (meth : Method) (c : Code) (b L : Nat) (xs : Nat → Int32) : Prop :=
  p.tables.exec = Jvm.exec ∧ c.code = code ∧ meth.sig.returnType = ret ∧ c.maxLocals = 4 ∧ s.vm.findClass R_law = some m.cls ∧ (∀ w ∈ lw_tbl, w.before #[Value.ref b] s = true) ∧ va_X b L xs s s.heap ∧ b < s.heap.size ∧ meth.locks = false ∧ (Jvm.Cond.and given_1 narrow_1).before #[Value.ref b] s = true
/-- what the walk of the law stands on -/
def LX (G : Gl) (p : Program) (s : State) (m : MethodId) (meth : Method) (c : Code) (b L : Nat) (xs : Nat → Int32) : Prop := lw_At p s m meth c b L xs ∧ L ≤ 3072 ∧ Kon G s s.heap ∧ ∀ q, AA G q → s.heap.size ≤ q
def LW (G : Gl) (p : Program) (e : Env) (s : State) (m : MethodId) (below : List Frame) (meth : Method) (c : Code) (b : Nat) (pc : Nat) (ls : List (Nat × Value)) (st : List Value) (σ : Sg) : Prop :=
  ∀ (H : Heap) (locs : List Loc) (la : Array Slot), va_P (gD G) vwCl (WS G σ) H → va_S (fun q : Nat => s.heap.size ≤ q) s.heap H locs → lv_has la 4 ls → W p (gL G) e room_1 s m #[Value.ref b] below meth c H locs 75 3656 (lw_Z below #[Value.ref b] s) (F0 m pc la st)
section LWS
variable {G : Gl} {p : Program} {e : Env} {s : State} {m : MethodId} {below : List Frame} {meth : Method} {c : Code} {b L : Nat} {xs : Nat → Int32} {pc : Nat} {ls : List (Nat × Value)} {st : List Value} {σ : Sg}
theorem L_aload_n {i : Fin 4} {a k : Nat} (X : LX G p s m meth c b L xs) (h : ls[k]? = some ((i : Nat), .ref a)) (hd : decode cL_law pc = .ok (.aload_n i, 1)) (kk : LW G p e s m below meth c b (pc + 1) ls (.ref a :: st) σ) : LW G p e s m below meth c b pc ls st σ := by
  intro H locs la hP hS hL
  exact lv_aload_n X.1.1 X.1.2.1 hd rfl (lv_at hL k h) (kk H locs la hP hS hL)
theorem L_iload_n {i : Fin 4} {v : Int} {k : Nat} (X : LX G p s m meth c b L xs) (h : ls[k]? = some ((i : Nat), .int (iI v))) (hd : decode cL_law pc = .ok (.iload_n i, 1)) (kk : LW G p e s m below meth c b (pc + 1) ls (.int (iI v) :: st) σ) : LW G p e s m below meth c b pc ls st σ := by
  intro H locs la hP hS hL
  exact lv_iload_n X.1.1 X.1.2.1 hd rfl (lv_at hL k h) (kk H locs la hP hS hL)
theorem L_iconst {j : Int} (X : LX G p s m meth c b L xs) (hd : decode cL_law pc = .ok (.iconst j, 1)) (kk : LW G p e s m below meth c b (pc + 1) ls (.int (iI j) :: st) σ) : LW G p e s m below meth c b pc ls st σ := by
  intro H locs la hP hS hL
  exact lv_iconst X.1.1 X.1.2.1 hd rfl (kk H locs la hP hS hL)
theorem L_bipush {j : Int} (X : LX G p s m meth c b L xs) (hd : decode cL_law pc = .ok (.bipush j, 2)) (hv : (Int8.ofInt j).toInt32 = iI j) (kk : LW G p e s m below meth c b (pc + 2) ls (.int (iI j) :: st) σ) : LW G p e s m below meth c b pc ls st σ := by
  intro H locs la hP hS hL
  exact lv_bipush X.1.1 X.1.2.1 hd hv (kk H locs la hP hS hL)
theorem L_iadd {x y : Int} (X : LX G p s m meth c b L xs) (hd : decode cL_law pc = .ok (.iadd, 1)) (kk : LW G p e s m below meth c b (pc + 1) ls (.int (iI (x + y)) :: st) σ) : LW G p e s m below meth c b pc ls (.int (iI y) :: .int (iI x) :: st) σ := by
  intro H locs la hP hS hL
  exact lv_iadd X.1.1 X.1.2.1 hd (by rw [iI_add]; exact kk H locs la hP hS hL)
theorem L_isub {x y : Int} (X : LX G p s m meth c b L xs) (hd : decode cL_law pc = .ok (.isub, 1)) (kk : LW G p e s m below meth c b (pc + 1) ls (.int (iI (x - y)) :: st) σ) : LW G p e s m below meth c b pc ls (.int (iI y) :: .int (iI x) :: st) σ := by
  intro H locs la hP hS hL
  exact lv_isub X.1.1 X.1.2.1 hd (by rw [iI_sub]; exact kk H locs la hP hS hL)
theorem L_iand {x y : Int} (z : Int) (X : LX G p s m meth c b L xs) (hz : iI x &&& iI y = iI z) (hd : decode cL_law pc = .ok (.iand, 1)) (kk : LW G p e s m below meth c b (pc + 1) ls (.int (iI z) :: st) σ) : LW G p e s m below meth c b pc ls (.int (iI y) :: .int (iI x) :: st) σ := by
  intro H locs la hP hS hL
  exact lv_iand X.1.1 X.1.2.1 hd (by rw [hz]; exact kk H locs la hP hS hL)
theorem L_i2l {x : Int} (X : LX G p s m meth c b L xs) (hd : decode cL_law pc = .ok (.i2l, 1)) (kk : LW G p e s m below meth c b (pc + 1) ls (.long (iI x).toInt64 :: st) σ) : LW G p e s m below meth c b pc ls (.int (iI x) :: st) σ := by
  intro H locs la hP hS hL
  exact lv_i2l X.1.1 X.1.2.1 hd rfl (kk H locs la hP hS hL)
theorem L_lshl {x : Int64} {y : Int} (X : LX G p s m meth c b L xs) (hd : decode cL_law pc = .ok (.lshl, 1)) (kk : LW G p e s m below meth c b (pc + 1) ls (.long (x <<< ((iI y).toInt64 &&& 63)) :: st) σ) : LW G p e s m below meth c b pc ls (.int (iI y) :: .long x :: st) σ := by
  intro H locs la hP hS hL
  exact lv_lshl X.1.1 X.1.2.1 hd rfl (kk H locs la hP hS hL)
theorem L_land {x y : Int64} (X : LX G p s m meth c b L xs) (hd : decode cL_law pc = .ok (.land, 1)) (kk : LW G p e s m below meth c b (pc + 1) ls (.long (x &&& y) :: st) σ) : LW G p e s m below meth c b pc ls (.long y :: .long x :: st) σ := by
  intro H locs la hP hS hL
  exact lv_land X.1.1 X.1.2.1 hd (kk H locs la hP hS hL)
theorem L_lor {x y : Int64} (X : LX G p s m meth c b L xs) (hd : decode cL_law pc = .ok (.lor, 1)) (kk : LW G p e s m below meth c b (pc + 1) ls (.long (x ||| y) :: st) σ) : LW G p e s m below meth c b pc ls (.long y :: .long x :: st) σ := by
  intro H locs la hP hS hL
  exact lv_lor X.1.1 X.1.2.1 hd (kk H locs la hP hS hL)
theorem L_ldc2 {idx : Nat} {v : Int64} (X : LX G p s m meth c b L xs) (hc : Cond.constantLong RL idx v ∈ lw_tbl) (hd : decode cL_law pc = .ok (.ldc2_w idx, 3)) (kk : LW G p e s m below meth c b (pc + 3) ls (.long v :: st) σ) : LW G p e s m below meth c b pc ls st σ := by
  intro H locs la hP hS hL
  exact lv_ldc2 X.1.1 X.1.2.1 X.1.2.2.2.2.1 (X.1.2.2.2.2.2.1 _ hc) hd (kk H locs la hP hS hL)
theorem L_goto {off : Int} (tgt : Nat) (X : LX G p s m meth c b L xs) (hd : decode cL_law pc = .ok (.goto off, 3)) (ht : (pc : Int) + off = (tgt : Int)) (kk : LW G p e s m below meth c b tgt ls st σ) : LW G p e s m below meth c b pc ls st σ := by
  intro H locs la hP hS hL
  exact lv_goto X.1.1 X.1.2.1 hd ht (kk H locs la hP hS hL)
theorem L_gt {x y : Int32} {off : Int} (tgt : Nat) (X : LX G p s m meth c b L xs) (hd : decode cL_law pc = .ok (.if_icmp .gt off, 3)) (ht : (pc : Int) + off = (tgt : Int)) (kt : y < x → LW G p e s m below meth c b tgt ls st σ) (kf : ¬ y < x → LW G p e s m below meth c b (pc + 3) ls st σ) : LW G p e s m below meth c b pc ls (.int y :: .int x :: st) σ := by
  intro H locs la hP hS hL
  exact lv_icmp_gt X.1.1 X.1.2.1 hd ht (fun h => kt h H locs la hP hS hL) (fun h => kf h H locs la hP hS hL)
theorem L_eq {x : Int32} {off : Int} (tgt : Nat) (X : LX G p s m meth c b L xs) (hd : decode cL_law pc = .ok (.if_icmp .eq off, 3)) (ht : (pc : Int) + off = (tgt : Int)) (kt : LW G p e s m below meth c b tgt ls st σ) : LW G p e s m below meth c b pc ls (.int x :: .int x :: st) σ := by
  intro H locs la hP hS hL
  exact lv_icmp_eq X.1.1 X.1.2.1 hd ht (fun _ => kt H locs la hP hS hL) (fun h => absurd rfl h)
theorem L_lcmp {x y : Int64} (X : LX G p s m meth c b L xs) (hd : decode cL_law pc = .ok (.lcmp, 1)) (kk : LW G p e s m below meth c b (pc + 1) ls (.int (lg_cmp x y) :: st) σ) : LW G p e s m below meth c b pc ls (.long y :: .long x :: st) σ := by
  intro H locs la hP hS hL
  exact W.lcmp X.1.1 X.1.2.1 hd (kk H locs la hP hS hL)
theorem lg_same (x : Int64) : lg_cmp x x = 0 := by
  unfold lg_cmp
  rw [if_neg (by simp), if_pos rfl]
theorem L_if0 {x : Int32} {off : Int} (tgt : Nat) (X : LX G p s m meth c b L xs) (hd : decode cL_law pc = .ok (.ifCond .eq off, 3)) (ht : (pc : Int) + off = (tgt : Int)) (kt : x = 0 → LW G p e s m below meth c b tgt ls st σ) (kf : ¬ x = 0 → LW G p e s m below meth c b (pc + 3) ls st σ) : LW G p e s m below meth c b pc ls (.int x :: st) σ := by
  intro H locs la hP hS hL
  exact lv_if_eq X.1.1 X.1.2.1 hd ht (fun h => kt h H locs la hP hS hL) (fun h => kf h H locs la hP hS hL)
theorem L_sld {i : Int} (j : Nat) (X : LX G p s m meth c b L xs) (hi : i = (j : Int)) (hj : j < L) (hd : decode cL_law pc = .ok (.iaload, 1)) (kk : LW G p e s m below meth c b (pc + 1) ls (.int (iI (xs j).toInt) :: st) σ) : LW G p e s m below meth c b pc ls (.int (iI i) :: .ref b :: st) σ := by
  intro H locs la hP hS hL
  subst hi
  have hL2 := X.2.1
  rw [iI_n]
  rw [iI_of] at kk
  refine va_sld X.1.1 X.1.2.1 X.1.2.2.2.2.2.2.1 X.1.2.2.2.2.2.2.2.1 (Nat.not_le.mpr X.1.2.2.2.2.2.2.2.1) hS (vp_in_nI hj (by omega)) hd ?_
  rw [nI_clamp (by omega)]
  exact kk H locs la hP hS hL
theorem L_slen (X : LX G p s m meth c b L xs) (hd : decode cL_law pc = .ok (.arraylength, 1)) (kk : LW G p e s m below meth c b (pc + 1) ls (.int (iI (L : Int)) :: st) σ) : LW G p e s m below meth c b pc ls (.ref b :: st) σ := by
  intro H locs la hP hS hL
  rw [iI_n] at kk
  exact va_slen X.1.1 X.1.2.1 X.1.2.2.2.2.2.2.1 X.1.2.2.2.2.2.2.2.1 (Nat.not_le.mpr X.1.2.2.2.2.2.2.2.1) hS hd (kk H locs la hP hS hL)
theorem L_iinc {n : Int} {x : Int} {a b2 d : Nat} (X : LX G p s m meth c b L xs) (hl : ls = [(0, .ref a), (1, .ref b2), (2, .ref d), (3, .int (iI x))]) (hd : decode cL_law pc = .ok (.iinc 3 n, 3)) (kk : LW G p e s m below meth c b (pc + 3) [(0, .ref a), (1, .ref b2), (2, .ref d), (3, .int (iI (x + n)))] st σ) : LW G p e s m below meth c b pc ls st σ := by
  intro H locs la hP hS hL
  subst hl
  refine lv_iinc (v := iI (x + n)) (lv' := [(3, .int (iI (x + n))), (0, .ref a), (1, .ref b2), (2, .ref d)]) X.1.1 X.1.2.1 hd hL (k := 3) rfl (iI_add x n) (by decide) rfl (fun la2 hL2 => ?_)
  exact kk H locs la2 hP hS (lv_sub hL2 [1, 2, 3, 0] rfl)
theorem L_back {a : Array Value} {H : Heap} {locs : List Loc} {la : Array Slot} {rest st0 : List Value} {K1 : Option Value → Sg → Prop} {Q : State → Prop} (hA : ∀ q, AA G q → s.heap.size ≤ q)
    (hr : va_Run p (gL G) e room_1 s m #[Value.ref b] below meth c H locs 75 3656 0 0 (F0 m pc la st0) rest (QK G K1 a) (AA G)) (hS : va_S (fun q : Nat => s.heap.size ≤ q) s.heap H locs)
    (kk : ∀ (v : Option Value) (τ : Sg) (H1 : Heap) (locs1 : List Loc), K1 v τ → va_P (gD G) vwCl (WS G τ) H1 → va_S (fun q : Nat => s.heap.size ≤ q) s.heap H1 locs1 → W p (gL G) e room_1 s m #[Value.ref b] below meth c H1 locs1 75 3656 Q (F0 m (pc + 3) la (v.toList ++ rest))) :
    W p (gL G) e room_1 s m #[Value.ref b] below meth c H locs 75 3656 Q (F0 m pc la st0) := by
  intro T hT X
  obtain ⟨v, st₀, t, T', L, h0, X', hL, e1, e2, ⟨⟨v', τ, hv, hp, hb⟩, hz, hk⟩, st⟩ := hr T hT X
  cases hv
  rw [h0] at hz hk
  obtain ⟨t2, a1, b1⟩ := kk v τ T'.heap (locs ++ L) hp (by rw [e1]; exact hb)
    ⟨Nat.le_trans hS.1 (by rw [e1]; exact hz), fun q h1 h2 => by rw [e1, hk q (Nat.lt_of_lt_of_le h1 hS.1) (fun z => h2 (hA q z))]; exact hS.2.1 q h1 h2, fun q hq => by
      rcases List.mem_append.mp hq with h | h
      · exact hS.2.2 q h
      · exact hA _ (hL q h)⟩ T' rfl X'
  exact ⟨t2, st t2 a1, b1⟩
theorem L_call {d idx n mL2 cc ci : Nat} {fl : List (Nat × Nat)} {y : MethodName} {bb : ByteArray} {ret2 : Option FieldType} {As rest : List Value} {K1 : Option Value → Sg → Prop} (X : LX G p s m meth c b L xs) (hl : LkV RL idx y n bb mL2 ret2) (hs : shp cc = .inl (ci, fl)) (hci : (vwCl[ci]?).map (fun q => q.1) = some y.cls) (hc : CT G d y bb mL2 ret2 (.ref (gA G cc) :: As) σ K1) (hdd : d ≤ 100) (hd : decode cL_law pc = .ok (.invokevirtual idx, 3)) (hst : st = As.reverse ++ .ref (gA G cc) :: rest) (hn : As.length = n) (hm : mL2 ≤ 80) (hr : (rest.map fun v => v.category).sum ≤ 8)
    (k : ∀ v τ, K1 v τ → LW G p e s m below meth c b (pc + 3) ls (v.toList ++ rest) τ) : LW G p e s m below meth c b pc ls st σ := by
  obtain ⟨⟨l1, l2, l3, l4, l5⟩, l6, l7, l8⟩ := hl
  obtain ⟨⟨x1, x2, x3, x4, x5, x6, x7, x8, x9, x10⟩, hL0, hKon, hA⟩ := X
  intro H locs la hP hS hL
  have hts : ∀ w ∈ TW, w.before #[Value.ref b] s = true := fun w hw => x6 w (List.mem_filter.mp hw).1
  have hG : GoodIn TW (wsV RL idx y.cls y (Cond.code y bb mL2 ret2 :: TW)) := by
    intro w hw
    simp only [wsV, List.mem_append, List.mem_cons, List.not_mem_nil, or_false] at hw
    rcases hw with (h | h | h | h) | h | h
    · exact TW_good _ (h ▸ TW_in l6 rfl)
    · exact TW_good _ (h ▸ TW_in l7 rfl)
    · exact TW_good _ (h ▸ TW_in l8 rfl)
    · exact TW_good _ (h ▸ TW_in l1 rfl)
    · exact TW_good _ (h ▸ TW_in l2 rfl)
    · exact TW_good _ h
  have hrc : ∃ cellB : Cell, H[gA G cc]? = some cellB ∧ cellB.vm.isStatics = false ∧ s.vm.findClass y.cls = some cellB.cls := by
    cases hq : vwCl[ci]? with
    | none => rw [hq] at hci; cases hci
    | some q =>
      rw [hq] at hci
      have e1 : q.1 = y.cls := Option.some.inj hci
      rw [← e1]
      exact va_recv hKon.2.1 hP hq (WS_o hs)
  refine L_back (K1 := K1) hA (va_runV (As := As) (rest := rest) ⟨x1, x2, x4, x5, hts⟩ hc (cwV n hts hG rfl rfl rfl ⟨rfl, l3, l4, l5⟩ ⟨by show d + 1 ≤ 2048; omega, by show 8 + (mL2 + 11) + 100 * d ≤ 84000; omega⟩) ⟨CT.blind, hrc, fun U hU hW => ⟨rfl, by rw [hU]; exact hP, by rw [hU]; exact hKon.go hW (fun a ha hna => hS.2.1 a ha (Nat.not_le.mpr ha))⟩⟩ rfl hn hL.1 hst (lv_room hr) hd ⟨by decide, by decide⟩) hS (fun v τ H1 l1 hk hP1 hS1 => ?_)
  exact k v τ hk H1 l1 la hP1 hS1 hL
theorem L_end (X : LX G p s m meth c b L xs) (hd : decode cL_law pc = .ok (.ireturn, 1)) : LW G p e s m below meth c b pc ls [.int 1] σ := by
  intro H locs la hP hS hL
  refine va_forget (fun q hq => hS.2.2 q hq) ?_
  refine W.widen (k := 600000) (n := 7302250) (Nat.le_of_ble_eq_true rfl) (Nat.le_of_ble_eq_true rfl) ?_
  exact lw_ret X.1.1 X.1.2.1 X.1.2.2.1 X.1.2.2.2.2.2.2.2.2.1 hd
theorem L_tsw {x : Int} {dflt lo hi : Int} {offs : Array Int} {len : Nat} (l : List (Int × Nat)) (z : Nat) (X : LX G p s m meth c b L xs) (hd : decode cL_law pc = .ok (.tableswitch dflt lo hi offs, len)) (h1 : tsOk pc lo offs.toList l = true) (h2 : (pc : Int) + dflt = (z : Int)) (h3 : hi + 1 = lo + offs.toList.length) (x1 : -2147483648 ≤ x) (x2 : x < 2147483648)
    (k : LW G p e s m below meth c b (swT x l z) ls st σ) : LW G p e s m below meth c b pc ls (.int (iI x) :: st) σ := by
  obtain ⟨i1, i2⟩ := tsOk_swT (x := x) (z := z) h1
  intro H locs la hP hS hL
  have hx := iI_t x1 x2
  by_cases h : x < lo ∨ hi < x
  · have e1 := i1 (by rcases h with h | h; exact Or.inl h; exact Or.inr (by omega))
    rw [e1] at k
    exact lv_tableOut X.1.1 X.1.2.1 hd (by rw [hx]; exact h) h2 (k H locs la hP hS hL)
  · have hl : (x - lo).toNat < offs.toList.length := by omega
    have ho : offs[(x - lo).toNat]? = some (offs.toList[(x - lo).toNat]) := by
      rw [← Array.getElem?_toList, List.getElem?_eq_getElem hl]
    exact lv_tableIn X.1.1 X.1.2.1 hd (by rw [hx]; omega) (by rw [hx]; omega) (by rw [hx]; exact ho) (i2 (by omega) _ (List.getElem?_eq_getElem hl)) (k H locs la hP hS hL)
end LWS
