/-! PART 03: the rules of AW -/
/-- the value of a local -/
def lk (ls : List (Nat × Value)) (i : Nat) : Option Value := (ls.find? (fun q => q.1 == i)).map (fun q => q.2)
def sf (ls : List (Nat × Value)) (i : Nat) (v : Value) : List (Nat × Value) := (i, v) :: ls.filter (fun q => !(q.1 == i) && !(q.1 + 1 == i && q.2.category == 2))
def sl (ls : List (Nat × Value)) (i : Nat) (v : Value) : List (Nat × Value) := (i, v) :: ls.filter (fun q => !(q.1 == i) && (!(q.1 == i + 1) && !(q.1 + 1 == i && q.2.category == 2)))
theorem lk_mem {ls : List (Nat × Value)} {i : Nat} {v : Value} (h : lk ls i = some v) : (i, v) ∈ ls := by
  unfold lk at h
  cases hf : ls.find? (fun q => q.1 == i) with
  | none => rw [hf] at h; cases h
  | some q =>
    rw [hf] at h
    have h1 := List.mem_of_find?_eq_some hf
    have h2 := List.find?_some hf
    have h3 : q.1 = i := by simpa using h2
    have h4 : q.2 = v := by simpa using h
    rw [← h3, ← h4]
    exact h1
theorem lk_at {la : Array Slot} {n : Nat} {ls : List (Nat × Value)} {i : Nat} {v : Value} (h : lv_has la n ls) (hl : lk ls i = some v) : la[i]? = some (.val v) := h.2.2 (i, v) (lk_mem hl)
/-- fewer locals -/
def LSub (ls : List (Nat × Value)) : List (Nat × Value) → Prop
  | [] => True
  | q :: r => lk ls q.1 = some q.2 ∧ LSub ls r
theorem LSub.mem {ls : List (Nat × Value)} : ∀ {l : List (Nat × Value)}, LSub ls l → ∀ q ∈ l, q ∈ ls
  | [], _, _, h => by cases h
  | a :: l, h, q, hq => by
    rcases List.mem_cons.mp hq with e | e
    · rw [e]; exact lk_mem h.1
    · exact LSub.mem h.2 q e
section AWR
variable {G : Gl} {d : Nat} {own : String} {cc : ByteArray} {mL : Nat} {ret : Option FieldType} {pc : Nat} {ls : List (Nat × Value)} {st : List Value} {σ : Sg} {K : Option Value → Sg → Prop}
theorem AW.go {pc2 : Nat} {st2 : List Value} (h : ∀ {p : Program} {e : Env} {s : State} {m : MethodId} {args : Array Value} {below : List Frame} {meth : Method} {c : Code} {H : Heap} {locs : List Loc} {la : Array Slot} {Q : State → Prop}, p.tables.exec = Jvm.exec → c.code = cc →
      W p (gL G) e (RM d) s m args below meth c H locs 0 0 Q (F0 m pc2 la st2) → W p (gL G) e (RM d) s m args below meth c H locs 0 0 Q (F0 m pc la st))
    (k : AW G d own cc mL ret pc2 ls st2 σ K) : AW G d own cc mL ret pc ls st σ K :=
  fun p e s m args below meth c H locs la hC hP hS hL => h hC.1 hC.2.1 (k p e s m args below meth c H locs la hC hP hS hL)
theorem A_loc {l2 : List (Nat × Value)} (h : LSub ls l2) (k : AW G d own cc mL ret pc l2 st σ K) : AW G d own cc mL ret pc ls st σ K :=
  fun p e s m args below meth c H locs la hC hP hS hL => k p e s m args below meth c H locs la hC hP hS ⟨hL.1, hL.2.1, fun q hq => hL.2.2 q (h.mem q hq)⟩
theorem A_st {st2 : List Value} (h : st = st2) (k : AW G d own cc mL ret pc ls st2 σ K) : AW G d own cc mL ret pc ls st σ K := h ▸ k
theorem A_ls {l2 : List (Nat × Value)} (h : ls = l2) (k : AW G d own cc mL ret pc l2 st σ K) : AW G d own cc mL ret pc ls st σ K := h ▸ k
theorem A_sg {τ : Sg} (h : σ = τ) (k : AW G d own cc mL ret pc ls st τ K) : AW G d own cc mL ret pc ls st σ K := h ▸ k
theorem A_iconst {n : Int} (hd : decode cc pc = .ok (.iconst n, 1)) (k : AW G d own cc mL ret (pc + 1) ls (.int (iI n) :: st) σ K) : AW G d own cc mL ret pc ls st σ K :=
  AW.go (fun hx hb k => lv_iconst hx hb hd rfl k) k
theorem A_bipush {n : Int} (hd : decode cc pc = .ok (.bipush n, 2)) (hv : (Int8.ofInt n).toInt32 = iI n) (k : AW G d own cc mL ret (pc + 2) ls (.int (iI n) :: st) σ K) : AW G d own cc mL ret pc ls st σ K :=
  AW.go (fun hx hb k => lv_bipush hx hb hd hv k) k
theorem A_sipush {n : Int} (hd : decode cc pc = .ok (.sipush n, 3)) (hv : (Int16.ofInt n).toInt32 = iI n) (k : AW G d own cc mL ret (pc + 3) ls (.int (iI n) :: st) σ K) : AW G d own cc mL ret pc ls st σ K :=
  AW.go (fun hx hb k => lv_sipush hx hb hd hv k) k
theorem A_lconst {n : Fin 2} (v : Int64) (hd : decode cc pc = .ok (.lconst n, 1)) (hv : Int64.ofNat (n : Nat) = v) (k : AW G d own cc mL ret (pc + 1) ls (.long v :: st) σ K) : AW G d own cc mL ret pc ls st σ K :=
  AW.go (fun hx hb k => lv_lconst hx hb hd hv k) k
theorem A_iadd {x y : Int} (hd : decode cc pc = .ok (.iadd, 1)) (k : AW G d own cc mL ret (pc + 1) ls (.int (iI (x + y)) :: st) σ K) : AW G d own cc mL ret pc ls (.int (iI y) :: .int (iI x) :: st) σ K :=
  AW.go (fun hx hb k => lv_iadd hx hb hd (by rw [iI_add]; exact k)) k
theorem A_isub {x y : Int} (hd : decode cc pc = .ok (.isub, 1)) (k : AW G d own cc mL ret (pc + 1) ls (.int (iI (x - y)) :: st) σ K) : AW G d own cc mL ret pc ls (.int (iI y) :: .int (iI x) :: st) σ K :=
  AW.go (fun hx hb k => lv_isub hx hb hd (by rw [iI_sub]; exact k)) k
theorem A_imul {x y : Int} (hd : decode cc pc = .ok (.imul, 1)) (k : AW G d own cc mL ret (pc + 1) ls (.int (iI (x * y)) :: st) σ K) : AW G d own cc mL ret pc ls (.int (iI y) :: .int (iI x) :: st) σ K :=
  AW.go (fun hx hb k => lv_imul hx hb hd (by rw [iI_mul]; exact k)) k
theorem A_iand {x y : Int} (z : Int) (hd : decode cc pc = .ok (.iand, 1)) (hz : iI x &&& iI y = iI z) (k : AW G d own cc mL ret (pc + 1) ls (.int (iI z) :: st) σ K) : AW G d own cc mL ret pc ls (.int (iI y) :: .int (iI x) :: st) σ K :=
  AW.go (fun hx hb k => lv_iand hx hb hd (by rw [hz]; exact k)) k
theorem A_ior {x y : Int} (z : Int) (hd : decode cc pc = .ok (.ior, 1)) (hz : iI x ||| iI y = iI z) (k : AW G d own cc mL ret (pc + 1) ls (.int (iI z) :: st) σ K) : AW G d own cc mL ret pc ls (.int (iI y) :: .int (iI x) :: st) σ K :=
  AW.go (fun hx hb k => lv_ior hx hb hd (by rw [hz]; exact k)) k
theorem A_ixor {x y : Int} (z : Int) (hd : decode cc pc = .ok (.ixor, 1)) (hz : iI x ^^^ iI y = iI z) (k : AW G d own cc mL ret (pc + 1) ls (.int (iI z) :: st) σ K) : AW G d own cc mL ret pc ls (.int (iI y) :: .int (iI x) :: st) σ K :=
  AW.go (fun hx hb k => lv_ixor hx hb hd (by rw [hz]; exact k)) k
theorem A_ladd {x y : Int64} (hd : decode cc pc = .ok (.ladd, 1)) (k : AW G d own cc mL ret (pc + 1) ls (.long (x + y) :: st) σ K) : AW G d own cc mL ret pc ls (.long y :: .long x :: st) σ K :=
  AW.go (fun hx hb k => lv_ladd hx hb hd k) k
theorem A_lsub {x y : Int64} (hd : decode cc pc = .ok (.lsub, 1)) (k : AW G d own cc mL ret (pc + 1) ls (.long (x - y) :: st) σ K) : AW G d own cc mL ret pc ls (.long y :: .long x :: st) σ K :=
  AW.go (fun hx hb k => lv_lsub hx hb hd k) k
theorem A_land {x y : Int64} (hd : decode cc pc = .ok (.land, 1)) (k : AW G d own cc mL ret (pc + 1) ls (.long (x &&& y) :: st) σ K) : AW G d own cc mL ret pc ls (.long y :: .long x :: st) σ K :=
  AW.go (fun hx hb k => lv_land hx hb hd k) k
theorem A_lor {x y : Int64} (hd : decode cc pc = .ok (.lor, 1)) (k : AW G d own cc mL ret (pc + 1) ls (.long (x ||| y) :: st) σ K) : AW G d own cc mL ret pc ls (.long y :: .long x :: st) σ K :=
  AW.go (fun hx hb k => lv_lor hx hb hd k) k
theorem A_lxor {x y : Int64} (hd : decode cc pc = .ok (.lxor, 1)) (k : AW G d own cc mL ret (pc + 1) ls (.long (x ^^^ y) :: st) σ K) : AW G d own cc mL ret pc ls (.long y :: .long x :: st) σ K :=
  AW.go (fun hx hb k => lv_lxor hx hb hd k) k
theorem iI_div {a b : Int} (h0 : 0 ≤ a) (h1 : a < 2147483648) (h2 : 0 < b) (h3 : b < 2147483648) : iI a / iI b = iI (a / b) := by
  obtain ⟨x, rfl⟩ := Int.eq_ofNat_of_zero_le h0
  obtain ⟨y, rfl⟩ := Int.eq_ofNat_of_zero_le (Int.le_of_lt h2)
  rw [iI_n, iI_n, pk_div (by omega) (by omega) (by omega), ← iI_n]
  rfl
theorem iI_rem {a b : Int} (h0 : 0 ≤ a) (h1 : a < 2147483648) (h2 : 0 < b) (h3 : b < 2147483648) : iI a - iI a / iI b * iI b = iI (a % b) := by
  rw [iI_div h0 h1 h2 h3, iI_mul, iI_sub]
  congr 1
  have := Int.mul_ediv_add_emod a b
  rw [Int.mul_comm] at this
  omega
theorem iI_ne0 {y : Int} (h2 : 0 < y) (h3 : y < 2147483648) : ¬ iI y = 0 := by
  rw [← iI_0, iI_eq (by omega) h3 (by omega) (by omega)]
  omega
theorem A_idiv {x y : Int} (hd : decode cc pc = .ok (.idiv, 1)) (h0 : 0 ≤ x) (h1 : x < 2147483648) (h2 : 0 < y) (h3 : y < 2147483648) (k : AW G d own cc mL ret (pc + 1) ls (.int (iI (x / y)) :: st) σ K) : AW G d own cc mL ret pc ls (.int (iI y) :: .int (iI x) :: st) σ K :=
  AW.go (fun hx hb k => lv_idiv hx hb hd (iI_ne0 h2 h3) (by rw [iI_div h0 h1 h2 h3]; exact k)) k
theorem A_irem {x y : Int} (hd : decode cc pc = .ok (.irem, 1)) (h0 : 0 ≤ x) (h1 : x < 2147483648) (h2 : 0 < y) (h3 : y < 2147483648) (k : AW G d own cc mL ret (pc + 1) ls (.int (iI (x % y)) :: st) σ K) : AW G d own cc mL ret pc ls (.int (iI y) :: .int (iI x) :: st) σ K :=
  AW.go (fun hx hb k => lv_irem hx hb hd (iI_ne0 h2 h3) (by rw [iI_rem h0 h1 h2 h3]; exact k)) k
theorem A_ineg {x : Int} (hd : decode cc pc = .ok (.ineg, 1)) (k : AW G d own cc mL ret (pc + 1) ls (.int (iI (-x)) :: st) σ K) : AW G d own cc mL ret pc ls (.int (iI x) :: st) σ K :=
  AW.go (fun hx hb k => lv_ineg hx hb hd (by rw [iI_neg]; exact k)) k
theorem A_ishl {x y : Int} (z : Int) (hd : decode cc pc = .ok (.ishl, 1)) (hz : iI x <<< (iI y &&& 31) = iI z) (k : AW G d own cc mL ret (pc + 1) ls (.int (iI z) :: st) σ K) : AW G d own cc mL ret pc ls (.int (iI y) :: .int (iI x) :: st) σ K :=
  AW.go (fun hx hb k => lv_ishl hx hb hd (by rw [hz]; exact k)) k
theorem A_ishr {x y : Int} (z : Int) (hd : decode cc pc = .ok (.ishr, 1)) (hz : iI x >>> (iI y &&& 31) = iI z) (k : AW G d own cc mL ret (pc + 1) ls (.int (iI z) :: st) σ K) : AW G d own cc mL ret pc ls (.int (iI y) :: .int (iI x) :: st) σ K :=
  AW.go (fun hx hb k => lv_ishr hx hb hd (by rw [hz]; exact k)) k
theorem A_iushr {x y : Int} (z : Int) (hd : decode cc pc = .ok (.iushr, 1)) (hz : ((iI x).toUInt32 >>> ((iI y).toUInt32 &&& Int32.toUInt32 31)).toInt32 = iI z) (k : AW G d own cc mL ret (pc + 1) ls (.int (iI z) :: st) σ K) : AW G d own cc mL ret pc ls (.int (iI y) :: .int (iI x) :: st) σ K :=
  AW.go (fun hx hb k => lv_iushr hx hb hd hz k) k
theorem A_lushr {x : Int64} {y : Int} (z : Int64) (hd : decode cc pc = .ok (.lushr, 1)) (hz : (x.toUInt64 >>> ((iI y).toInt64.toUInt64 &&& Int64.toUInt64 63)).toInt64 = z) (k : AW G d own cc mL ret (pc + 1) ls (.long z :: st) σ K) : AW G d own cc mL ret pc ls (.int (iI y) :: .long x :: st) σ K :=
  AW.go (fun hx hb k => lv_lushr hx hb hd hz k) k
theorem A_lshl {x : Int64} {y : Int} (z : Int64) (hd : decode cc pc = .ok (.lshl, 1)) (hz : x <<< ((iI y).toInt64 &&& 63) = z) (k : AW G d own cc mL ret (pc + 1) ls (.long z :: st) σ K) : AW G d own cc mL ret pc ls (.int (iI y) :: .long x :: st) σ K :=
  AW.go (fun hx hb k => lv_lshl hx hb hd hz k) k
theorem A_lshr {x : Int64} {y : Int} (z : Int64) (hd : decode cc pc = .ok (.lshr, 1)) (hz : x >>> ((iI y).toInt64 &&& 63) = z) (k : AW G d own cc mL ret (pc + 1) ls (.long z :: st) σ K) : AW G d own cc mL ret pc ls (.int (iI y) :: .long x :: st) σ K :=
  AW.go (fun hx hb k => lv_lshr hx hb hd hz k) k
theorem A_i2l {x : Int} (hd : decode cc pc = .ok (.i2l, 1)) (k : AW G d own cc mL ret (pc + 1) ls (.long (iI x).toInt64 :: st) σ K) : AW G d own cc mL ret pc ls (.int (iI x) :: st) σ K :=
  AW.go (fun hx hb k => lv_i2l hx hb hd rfl k) k
theorem A_l2i {x : Int64} (hd : decode cc pc = .ok (.l2i, 1)) (k : AW G d own cc mL ret (pc + 1) ls (.int (iI x.toInt32.toInt) :: st) σ K) : AW G d own cc mL ret pc ls (.long x :: st) σ K :=
  AW.go (fun hx hb k => lv_l2i hx hb hd (iI_of _).symm k) k
theorem A_i2b {x : Int} (hd : decode cc pc = .ok (.i2b, 1)) (k : AW G d own cc mL ret (pc + 1) ls (.int (iI (iI x).toInt8.toInt32.toInt) :: st) σ K) : AW G d own cc mL ret pc ls (.int (iI x) :: st) σ K :=
  AW.go (fun hx hb k => lv_i2b hx hb hd (iI_of _).symm k) k
theorem A_i2s {x : Int} (hd : decode cc pc = .ok (.i2s, 1)) (k : AW G d own cc mL ret (pc + 1) ls (.int (iI (iI x).toInt16.toInt32.toInt) :: st) σ K) : AW G d own cc mL ret pc ls (.int (iI x) :: st) σ K :=
  AW.go (fun hx hb k => lv_i2s hx hb hd (iI_of _).symm k) k
theorem A_i2c {x : Int} (z : Int) (hd : decode cc pc = .ok (.i2c, 1)) (hz : ((iI x).toUInt32 % 65536).toInt32 = iI z) (k : AW G d own cc mL ret (pc + 1) ls (.int (iI z) :: st) σ K) : AW G d own cc mL ret pc ls (.int (iI x) :: st) σ K :=
  AW.go (fun hx hb k => lv_i2c hx hb hd hz k) k
def lcm (x y : Int64) : Int := if x > y then 1 else if x = y then 0 else -1
theorem lcm_eq (x y : Int64) : lg_cmp x y = iI (lcm x y) := by
  unfold lg_cmp lcm
  by_cases h : x > y
  · rw [if_pos h, if_pos h]; decide
  · rw [if_neg h, if_neg h]
    by_cases h2 : x = y
    · rw [if_pos h2, if_pos h2]; decide
    · rw [if_neg h2, if_neg h2]; decide
theorem A_lcmp {x y : Int64} (hd : decode cc pc = .ok (.lcmp, 1)) (k : AW G d own cc mL ret (pc + 1) ls (.int (iI (lcm x y)) :: st) σ K) : AW G d own cc mL ret pc ls (.long y :: .long x :: st) σ K :=
  AW.go (fun hx hb k => W.lcmp hx hb hd (by rw [lcm_eq]; exact k)) k
theorem A_dup {v : Value} (hd : decode cc pc = .ok (.dup, 1)) (h1 : v.category = 1) (k : AW G d own cc mL ret (pc + 1) ls (v :: v :: st) σ K) : AW G d own cc mL ret pc ls (v :: st) σ K :=
  AW.go (fun hx hb k => lv_dup hx hb hd h1 k) k
theorem A_pop {v : Value} (hd : decode cc pc = .ok (.pop, 1)) (h1 : v.category = 1) (k : AW G d own cc mL ret (pc + 1) ls st σ K) : AW G d own cc mL ret pc ls (v :: st) σ K :=
  AW.go (fun hx hb k => lv_pop hx hb hd h1 k) k
theorem A_dup_x1 {v w : Value} (hd : decode cc pc = .ok (.dup_x1, 1)) (h1 : v.category = 1) (h2 : w.category = 1) (k : AW G d own cc mL ret (pc + 1) ls (v :: w :: v :: st) σ K) : AW G d own cc mL ret pc ls (v :: w :: st) σ K :=
  AW.go (fun hx hb k => lv_dup_x1 hx hb hd h1 h2 k) k
theorem A_dup2 {v w : Value} (hd : decode cc pc = .ok (.dup2, 1)) (h1 : v.category = 1) (h2 : w.category = 1) (k : AW G d own cc mL ret (pc + 1) ls (v :: w :: v :: w :: st) σ K) : AW G d own cc mL ret pc ls (v :: w :: st) σ K :=
  AW.go (fun hx hb k => lv_dup2_11 hx hb hd h1 h2 k) k
theorem A_goto {off : Int} (tgt : Nat) (hd : decode cc pc = .ok (.goto off, 3)) (ht : (pc : Int) + off = (tgt : Int)) (k : AW G d own cc mL ret tgt ls st σ K) : AW G d own cc mL ret pc ls st σ K :=
  AW.go (fun hx hb k => lv_goto hx hb hd ht k) k
theorem A_iload {i : Nat} {x : Int} (hd : decode cc pc = .ok (.iload i, 2)) (hl : lk ls i = some (.int (iI x))) (k : AW G d own cc mL ret (pc + 2) ls (.int (iI x) :: st) σ K) : AW G d own cc mL ret pc ls st σ K :=
  fun p e s m args below meth c H locs la hC hP hS hL => lv_iload hC.1 hC.2.1 hd (lk_at hL hl) (k p e s m args below meth c H locs la hC hP hS hL)
theorem A_iload_n {j : Fin 4} {i : Nat} {x : Int} (hd : decode cc pc = .ok (.iload_n j, 1)) (hi : (j : Nat) = i) (hl : lk ls i = some (.int (iI x))) (k : AW G d own cc mL ret (pc + 1) ls (.int (iI x) :: st) σ K) : AW G d own cc mL ret pc ls st σ K :=
  fun p e s m args below meth c H locs la hC hP hS hL => lv_iload_n hC.1 hC.2.1 hd hi (lk_at hL hl) (k p e s m args below meth c H locs la hC hP hS hL)
theorem A_lload {i : Nat} {x : Int64} (hd : decode cc pc = .ok (.lload i, 2)) (hl : lk ls i = some (.long x)) (k : AW G d own cc mL ret (pc + 2) ls (.long x :: st) σ K) : AW G d own cc mL ret pc ls st σ K :=
  fun p e s m args below meth c H locs la hC hP hS hL => lv_lload hC.1 hC.2.1 hd (lk_at hL hl) (k p e s m args below meth c H locs la hC hP hS hL)
theorem A_lload_n {j : Fin 4} {i : Nat} {x : Int64} (hd : decode cc pc = .ok (.lload_n j, 1)) (hi : (j : Nat) = i) (hl : lk ls i = some (.long x)) (k : AW G d own cc mL ret (pc + 1) ls (.long x :: st) σ K) : AW G d own cc mL ret pc ls st σ K :=
  fun p e s m args below meth c H locs la hC hP hS hL => lv_lload_n hC.1 hC.2.1 hd hi (lk_at hL hl) (k p e s m args below meth c H locs la hC hP hS hL)
theorem A_aload {i : Nat} {x : Nat} (hd : decode cc pc = .ok (.aload i, 2)) (hl : lk ls i = some (.ref x)) (k : AW G d own cc mL ret (pc + 2) ls (.ref x :: st) σ K) : AW G d own cc mL ret pc ls st σ K :=
  fun p e s m args below meth c H locs la hC hP hS hL => lv_aload hC.1 hC.2.1 hd (lk_at hL hl) (k p e s m args below meth c H locs la hC hP hS hL)
theorem A_aload_n {j : Fin 4} {i : Nat} {x : Nat} (hd : decode cc pc = .ok (.aload_n j, 1)) (hi : (j : Nat) = i) (hl : lk ls i = some (.ref x)) (k : AW G d own cc mL ret (pc + 1) ls (.ref x :: st) σ K) : AW G d own cc mL ret pc ls st σ K :=
  fun p e s m args below meth c H locs la hC hP hS hL => lv_aload_n hC.1 hC.2.1 hd hi (lk_at hL hl) (k p e s m args below meth c H locs la hC hP hS hL)
theorem A_istore {i : Nat} {x : Int32} (hd : decode cc pc = .ok (.istore i, 2)) (hn : i < mL) (k : AW G d own cc mL ret (pc + 2) (sf ls i (.int x)) st σ K) : AW G d own cc mL ret pc ls (.int x :: st) σ K :=
  fun p e s m args below meth c H locs la hC hP hS hL => lv_istore hC.1 hC.2.1 hd hL hn rfl (fun la hL => k p e s m args below meth c H locs la hC hP hS hL)
theorem A_istore_n {j : Fin 4} {i : Nat} {x : Int32} (hd : decode cc pc = .ok (.istore_n j, 1)) (hi : (j : Nat) = i) (hn : i < mL) (k : AW G d own cc mL ret (pc + 1) (sf ls i (.int x)) st σ K) : AW G d own cc mL ret pc ls (.int x :: st) σ K :=
  fun p e s m args below meth c H locs la hC hP hS hL => lv_istore_n hC.1 hC.2.1 hd hi hL hn rfl (fun la hL => k p e s m args below meth c H locs la hC hP hS hL)
theorem A_lstore {i : Nat} {x : Int64} (hd : decode cc pc = .ok (.lstore i, 2)) (hn : i + 1 < mL) (k : AW G d own cc mL ret (pc + 2) (sl ls i (.long x)) st σ K) : AW G d own cc mL ret pc ls (.long x :: st) σ K :=
  fun p e s m args below meth c H locs la hC hP hS hL => lv_lstore hC.1 hC.2.1 hd hL hn rfl (fun la hL => k p e s m args below meth c H locs la hC hP hS hL)
theorem A_lstore_n {j : Fin 4} {i : Nat} {x : Int64} (hd : decode cc pc = .ok (.lstore_n j, 1)) (hi : (j : Nat) = i) (hn : i + 1 < mL) (k : AW G d own cc mL ret (pc + 1) (sl ls i (.long x)) st σ K) : AW G d own cc mL ret pc ls (.long x :: st) σ K :=
  fun p e s m args below meth c H locs la hC hP hS hL => lv_lstore_n hC.1 hC.2.1 hd hi hL hn rfl (fun la hL => k p e s m args below meth c H locs la hC hP hS hL)
theorem A_astore {i : Nat} {x : Nat} (hd : decode cc pc = .ok (.astore i, 2)) (hn : i < mL) (k : AW G d own cc mL ret (pc + 2) (sf ls i (.ref x)) st σ K) : AW G d own cc mL ret pc ls (.ref x :: st) σ K :=
  fun p e s m args below meth c H locs la hC hP hS hL => lv_astore hC.1 hC.2.1 hd hL hn rfl (fun la hL => k p e s m args below meth c H locs la hC hP hS hL)
theorem A_astore_n {j : Fin 4} {i : Nat} {x : Nat} (hd : decode cc pc = .ok (.astore_n j, 1)) (hi : (j : Nat) = i) (hn : i < mL) (k : AW G d own cc mL ret (pc + 1) (sf ls i (.ref x)) st σ K) : AW G d own cc mL ret pc ls (.ref x :: st) σ K :=
  fun p e s m args below meth c H locs la hC hP hS hL => lv_astore_n hC.1 hC.2.1 hd hi hL hn rfl (fun la hL => k p e s m args below meth c H locs la hC hP hS hL)
theorem A_iinc {i : Nat} {n : Int} {x : Int} (hd : decode cc pc = .ok (.iinc i n, 3)) (hl : lk ls i = some (.int (iI x))) (hn : i < mL) (k : AW G d own cc mL ret (pc + 3) (sf ls i (.int (iI (x + n)))) st σ K) : AW G d own cc mL ret pc ls st σ K := by
  intro p e s m args below meth c H locs la hC hP hS hL
  obtain ⟨j, hj⟩ := List.getElem?_of_mem (lk_mem hl)
  exact lv_iinc hC.1 hC.2.1 hd hL hj (iI_add x n) hn rfl (fun la hL => k p e s m args below meth c H locs la hC hP hS hL)
theorem A_if_eq {x : Int} {off : Int} (tgt : Nat) (hd : decode cc pc = .ok (.ifCond .eq off, 3)) (ht : (pc : Int) + off = (tgt : Int)) (x1 : -2147483648 ≤ x) (x2 : x < 2147483648) (kt : x = 0 → AW G d own cc mL ret tgt ls st σ K) (kf : x ≠ 0 → AW G d own cc mL ret (pc + 3) ls st σ K) : AW G d own cc mL ret pc ls (.int (iI x) :: st) σ K :=
  fun p e s m args below meth c H locs la hC hP hS hL => lv_if_eq hC.1 hC.2.1 hd ht (fun h => kt (by rw [← iI_0] at h; exact (iI_eq x1 x2 (by omega) (by omega)).mp h) p e s m args below meth c H locs la hC hP hS hL) (fun h => kf (fun q => h (by rw [← iI_0]; exact (iI_eq x1 x2 (by omega) (by omega)).mpr q)) p e s m args below meth c H locs la hC hP hS hL)
theorem A_icmp_eq {x y : Int} {off : Int} (tgt : Nat) (hd : decode cc pc = .ok (.if_icmp .eq off, 3)) (ht : (pc : Int) + off = (tgt : Int)) (x1 : -2147483648 ≤ x) (x2 : x < 2147483648) (y1 : -2147483648 ≤ y) (y2 : y < 2147483648) (kt : x = y → AW G d own cc mL ret tgt ls st σ K) (kf : x ≠ y → AW G d own cc mL ret (pc + 3) ls st σ K) : AW G d own cc mL ret pc ls (.int (iI y) :: .int (iI x) :: st) σ K :=
  fun p e s m args below meth c H locs la hC hP hS hL => lv_icmp_eq hC.1 hC.2.1 hd ht (fun h => kt (by exact (iI_eq x1 x2 y1 y2).mp h) p e s m args below meth c H locs la hC hP hS hL) (fun h => kf (fun q => h (by exact (iI_eq x1 x2 y1 y2).mpr q)) p e s m args below meth c H locs la hC hP hS hL)
theorem A_if_ne {x : Int} {off : Int} (tgt : Nat) (hd : decode cc pc = .ok (.ifCond .ne off, 3)) (ht : (pc : Int) + off = (tgt : Int)) (x1 : -2147483648 ≤ x) (x2 : x < 2147483648) (kt : x ≠ 0 → AW G d own cc mL ret tgt ls st σ K) (kf : x = 0 → AW G d own cc mL ret (pc + 3) ls st σ K) : AW G d own cc mL ret pc ls (.int (iI x) :: st) σ K :=
  fun p e s m args below meth c H locs la hC hP hS hL => lv_if_ne hC.1 hC.2.1 hd ht (fun h => kt (fun q => h (by rw [← iI_0]; exact (iI_eq x1 x2 (by omega) (by omega)).mpr q)) p e s m args below meth c H locs la hC hP hS hL) (fun h => kf (by rw [← iI_0] at h; exact (iI_eq x1 x2 (by omega) (by omega)).mp h) p e s m args below meth c H locs la hC hP hS hL)
theorem A_icmp_ne {x y : Int} {off : Int} (tgt : Nat) (hd : decode cc pc = .ok (.if_icmp .ne off, 3)) (ht : (pc : Int) + off = (tgt : Int)) (x1 : -2147483648 ≤ x) (x2 : x < 2147483648) (y1 : -2147483648 ≤ y) (y2 : y < 2147483648) (kt : x ≠ y → AW G d own cc mL ret tgt ls st σ K) (kf : x = y → AW G d own cc mL ret (pc + 3) ls st σ K) : AW G d own cc mL ret pc ls (.int (iI y) :: .int (iI x) :: st) σ K :=
  fun p e s m args below meth c H locs la hC hP hS hL => lv_icmp_ne hC.1 hC.2.1 hd ht (fun h => kt (fun q => h (by exact (iI_eq x1 x2 y1 y2).mpr q)) p e s m args below meth c H locs la hC hP hS hL) (fun h => kf (by exact (iI_eq x1 x2 y1 y2).mp h) p e s m args below meth c H locs la hC hP hS hL)
theorem A_if_lt {x : Int} {off : Int} (tgt : Nat) (hd : decode cc pc = .ok (.ifCond .lt off, 3)) (ht : (pc : Int) + off = (tgt : Int)) (x1 : -2147483648 ≤ x) (x2 : x < 2147483648) (kt : x < 0 → AW G d own cc mL ret tgt ls st σ K) (kf : 0 ≤ x → AW G d own cc mL ret (pc + 3) ls st σ K) : AW G d own cc mL ret pc ls (.int (iI x) :: st) σ K :=
  fun p e s m args below meth c H locs la hC hP hS hL => lv_if_lt hC.1 hC.2.1 hd ht (fun h => kt (by rw [← iI_0] at h; exact (iI_lt x1 x2 (by omega) (by omega)).mp h) p e s m args below meth c H locs la hC hP hS hL) (fun h => kf (Int.not_lt.mp (fun q => h (by rw [← iI_0]; exact (iI_lt x1 x2 (by omega) (by omega)).mpr q))) p e s m args below meth c H locs la hC hP hS hL)
theorem A_icmp_lt {x y : Int} {off : Int} (tgt : Nat) (hd : decode cc pc = .ok (.if_icmp .lt off, 3)) (ht : (pc : Int) + off = (tgt : Int)) (x1 : -2147483648 ≤ x) (x2 : x < 2147483648) (y1 : -2147483648 ≤ y) (y2 : y < 2147483648) (kt : x < y → AW G d own cc mL ret tgt ls st σ K) (kf : y ≤ x → AW G d own cc mL ret (pc + 3) ls st σ K) : AW G d own cc mL ret pc ls (.int (iI y) :: .int (iI x) :: st) σ K :=
  fun p e s m args below meth c H locs la hC hP hS hL => lv_icmp_lt hC.1 hC.2.1 hd ht (fun h => kt (by exact (iI_lt x1 x2 y1 y2).mp h) p e s m args below meth c H locs la hC hP hS hL) (fun h => kf (Int.not_lt.mp (fun q => h (by exact (iI_lt x1 x2 y1 y2).mpr q))) p e s m args below meth c H locs la hC hP hS hL)
theorem A_if_ge {x : Int} {off : Int} (tgt : Nat) (hd : decode cc pc = .ok (.ifCond .ge off, 3)) (ht : (pc : Int) + off = (tgt : Int)) (x1 : -2147483648 ≤ x) (x2 : x < 2147483648) (kt : 0 ≤ x → AW G d own cc mL ret tgt ls st σ K) (kf : x < 0 → AW G d own cc mL ret (pc + 3) ls st σ K) : AW G d own cc mL ret pc ls (.int (iI x) :: st) σ K :=
  fun p e s m args below meth c H locs la hC hP hS hL => lv_if_ge hC.1 hC.2.1 hd ht (fun h => kt (by rw [← iI_0] at h; exact (iI_le (by omega) (by omega) x1 x2).mp h) p e s m args below meth c H locs la hC hP hS hL) (fun h => kf (Int.not_le.mp (fun q => h (by rw [← iI_0]; exact (iI_le (by omega) (by omega) x1 x2).mpr q))) p e s m args below meth c H locs la hC hP hS hL)
theorem A_icmp_ge {x y : Int} {off : Int} (tgt : Nat) (hd : decode cc pc = .ok (.if_icmp .ge off, 3)) (ht : (pc : Int) + off = (tgt : Int)) (x1 : -2147483648 ≤ x) (x2 : x < 2147483648) (y1 : -2147483648 ≤ y) (y2 : y < 2147483648) (kt : y ≤ x → AW G d own cc mL ret tgt ls st σ K) (kf : x < y → AW G d own cc mL ret (pc + 3) ls st σ K) : AW G d own cc mL ret pc ls (.int (iI y) :: .int (iI x) :: st) σ K :=
  fun p e s m args below meth c H locs la hC hP hS hL => lv_icmp_ge hC.1 hC.2.1 hd ht (fun h => kt (by exact (iI_le y1 y2 x1 x2).mp h) p e s m args below meth c H locs la hC hP hS hL) (fun h => kf (Int.not_le.mp (fun q => h (by exact (iI_le y1 y2 x1 x2).mpr q))) p e s m args below meth c H locs la hC hP hS hL)
theorem A_if_gt {x : Int} {off : Int} (tgt : Nat) (hd : decode cc pc = .ok (.ifCond .gt off, 3)) (ht : (pc : Int) + off = (tgt : Int)) (x1 : -2147483648 ≤ x) (x2 : x < 2147483648) (kt : 0 < x → AW G d own cc mL ret tgt ls st σ K) (kf : x ≤ 0 → AW G d own cc mL ret (pc + 3) ls st σ K) : AW G d own cc mL ret pc ls (.int (iI x) :: st) σ K :=
  fun p e s m args below meth c H locs la hC hP hS hL => lv_if_gt hC.1 hC.2.1 hd ht (fun h => kt (by rw [← iI_0] at h; exact (iI_lt (by omega) (by omega) x1 x2).mp h) p e s m args below meth c H locs la hC hP hS hL) (fun h => kf (Int.not_lt.mp (fun q => h (by rw [← iI_0]; exact (iI_lt (by omega) (by omega) x1 x2).mpr q))) p e s m args below meth c H locs la hC hP hS hL)
theorem A_icmp_gt {x y : Int} {off : Int} (tgt : Nat) (hd : decode cc pc = .ok (.if_icmp .gt off, 3)) (ht : (pc : Int) + off = (tgt : Int)) (x1 : -2147483648 ≤ x) (x2 : x < 2147483648) (y1 : -2147483648 ≤ y) (y2 : y < 2147483648) (kt : y < x → AW G d own cc mL ret tgt ls st σ K) (kf : x ≤ y → AW G d own cc mL ret (pc + 3) ls st σ K) : AW G d own cc mL ret pc ls (.int (iI y) :: .int (iI x) :: st) σ K :=
  fun p e s m args below meth c H locs la hC hP hS hL => lv_icmp_gt hC.1 hC.2.1 hd ht (fun h => kt (by exact (iI_lt y1 y2 x1 x2).mp h) p e s m args below meth c H locs la hC hP hS hL) (fun h => kf (Int.not_lt.mp (fun q => h (by exact (iI_lt y1 y2 x1 x2).mpr q))) p e s m args below meth c H locs la hC hP hS hL)
theorem A_if_le {x : Int} {off : Int} (tgt : Nat) (hd : decode cc pc = .ok (.ifCond .le off, 3)) (ht : (pc : Int) + off = (tgt : Int)) (x1 : -2147483648 ≤ x) (x2 : x < 2147483648) (kt : x ≤ 0 → AW G d own cc mL ret tgt ls st σ K) (kf : 0 < x → AW G d own cc mL ret (pc + 3) ls st σ K) : AW G d own cc mL ret pc ls (.int (iI x) :: st) σ K :=
  fun p e s m args below meth c H locs la hC hP hS hL => lv_if_le hC.1 hC.2.1 hd ht (fun h => kt (by rw [← iI_0] at h; exact (iI_le x1 x2 (by omega) (by omega)).mp h) p e s m args below meth c H locs la hC hP hS hL) (fun h => kf (Int.not_le.mp (fun q => h (by rw [← iI_0]; exact (iI_le x1 x2 (by omega) (by omega)).mpr q))) p e s m args below meth c H locs la hC hP hS hL)
theorem A_icmp_le {x y : Int} {off : Int} (tgt : Nat) (hd : decode cc pc = .ok (.if_icmp .le off, 3)) (ht : (pc : Int) + off = (tgt : Int)) (x1 : -2147483648 ≤ x) (x2 : x < 2147483648) (y1 : -2147483648 ≤ y) (y2 : y < 2147483648) (kt : x ≤ y → AW G d own cc mL ret tgt ls st σ K) (kf : y < x → AW G d own cc mL ret (pc + 3) ls st σ K) : AW G d own cc mL ret pc ls (.int (iI y) :: .int (iI x) :: st) σ K :=
  fun p e s m args below meth c H locs la hC hP hS hL => lv_icmp_le hC.1 hC.2.1 hd ht (fun h => kt (by exact (iI_le x1 x2 y1 y2).mp h) p e s m args below meth c H locs la hC hP hS hL) (fun h => kf (Int.not_le.mp (fun q => h (by exact (iI_le x1 x2 y1 y2).mpr q))) p e s m args below meth c H locs la hC hP hS hL)
/-- a switch: the road of each key, in their order, and the rest's -/
def SwP (P : Nat → Prop) (x : Int) : List (Int × Nat) → Nat → Prop
  | [], t => P t
  | (a, t) :: r, z => (x = a → P t) ∧ (x ≠ a → SwP P x r z)
def swT (x : Int) : List (Int × Nat) → Nat → Nat
  | [], t => t
  | (a, t) :: r, z => if x = a then t else swT x r z
theorem SwP.get {P : Nat → Prop} {x : Int} : ∀ {l : List (Int × Nat)} {z : Nat}, SwP P x l z → P (swT x l z)
  | [], _, h => h
  | (a, t) :: r, z, h => by
    unfold swT
    by_cases e : x = a
    · rw [if_pos e]; exact h.1 e
    · rw [if_neg e]; exact (h.2 e).get
def tsO (lo hi dflt : Int) (offs : List Int) (x : Int) : Int := if x < lo ∨ hi < x then dflt else offs.getD (x - lo).toNat 0
/-- a table's targets are those of a list of keys -/
def tsOk (pc : Nat) (lo : Int) : List Int → List (Int × Nat) → Bool
  | [], [] => true
  | f :: fs, (a, t) :: r => decide (a = lo) && decide ((pc : Int) + f = (t : Int)) && tsOk pc (lo + 1) fs r
  | _, _ => false
theorem tsOk_swT {pc : Nat} {x : Int} {z : Nat} : ∀ {fs : List Int} {l : List (Int × Nat)} {lo : Int}, tsOk pc lo fs l = true →
    ((x < lo ∨ lo + fs.length ≤ x) → swT x l z = z) ∧ (lo ≤ x → ∀ f, fs[(x - lo).toNat]? = some f → (pc : Int) + f = (swT x l z : Int))
  | [], [], lo, h => ⟨fun _ => rfl, fun _ f hf => by simp at hf⟩
  | [], _ :: _, lo, h => by simp [tsOk] at h
  | _ :: _, [], lo, h => by simp [tsOk] at h
  | f :: fs, (a, t) :: r, lo, h => by
    simp only [tsOk, Bool.and_eq_true, decide_eq_true_eq] at h
    obtain ⟨⟨h1, h2⟩, h3⟩ := h
    obtain ⟨i1, i2⟩ := tsOk_swT (x := x) (z := z) h3
    unfold swT
    by_cases e : x = a
    · rw [if_pos e]
      refine ⟨fun q => ?_, fun _ g hg => ?_⟩
      · exfalso
        rw [e, h1] at q
        simp only [List.length_cons] at q
        omega
      · have e0 : (x - lo).toNat = 0 := by rw [e, h1]; omega
        rw [e0] at hg
        simp only [List.getElem?_cons_zero, Option.some.injEq] at hg
        rw [← hg]; exact h2
    · rw [if_neg e]
      have hne : x ≠ lo := fun q => e (by rw [h1]; exact q)
      refine ⟨fun q => i1 ?_, fun hlo g hg => i2 (by omega) g ?_⟩
      · simp only [List.length_cons] at q
        omega
      · have e1 : (x - lo).toNat = (x - (lo + 1)).toNat + 1 := by omega
        rw [e1, List.getElem?_cons_succ] at hg
        exact hg
theorem A_tsw {x : Int} {dflt lo hi : Int} {offs : Array Int} {len : Nat} (l : List (Int × Nat)) (z : Nat) (hd : decode cc pc = .ok (.tableswitch dflt lo hi offs, len)) (h1 : tsOk pc lo offs.toList l = true) (h2 : (pc : Int) + dflt = (z : Int)) (h3 : hi + 1 = lo + offs.toList.length) (x1 : -2147483648 ≤ x) (x2 : x < 2147483648)
    (k : SwP (fun t => AW G d own cc mL ret t ls st σ K) x l z) : AW G d own cc mL ret pc ls (.int (iI x) :: st) σ K := by
  have kk := k.get
  obtain ⟨i1, i2⟩ := tsOk_swT (x := x) (z := z) h1
  intro p e s m args below meth c H locs la hC hP hS hL
  have hx := iI_t x1 x2
  by_cases h : x < lo ∨ hi < x
  · have e1 := i1 (by rcases h with h | h; exact Or.inl h; exact Or.inr (by omega))
    rw [e1] at kk
    exact lv_tableOut hC.1 hC.2.1 hd (by rw [hx]; exact h) h2 (kk p e s m args below meth c H locs la hC hP hS hL)
  · have hl : (x - lo).toNat < offs.toList.length := by omega
    have ho : offs[(x - lo).toNat]? = some (offs.toList[(x - lo).toNat]) := by
      rw [← Array.getElem?_toList, List.getElem?_eq_getElem hl]
    exact lv_tableIn hC.1 hC.2.1 hd (by rw [hx]; omega) (by rw [hx]; omega) (by rw [hx]; exact ho) (i2 (by omega) _ (List.getElem?_eq_getElem hl)) (kk p e s m args below meth c H locs la hC hP hS hL)
/-- a lookup's targets -/
def lsOk (pc : Nat) : List (Int × Int) → List (Int × Nat) → Bool
  | [], [] => true
  | q :: fs, (a, t) :: r => decide (a = q.1) && decide ((pc : Int) + q.2 = (t : Int)) && lsOk pc fs r
  | _, _ => false
theorem lsOk_swT {pc : Nat} {x : Int} {z : Nat} {dflt : Int} (hz : (pc : Int) + dflt = (z : Int)) : ∀ {fs : List (Int × Int)} {l : List (Int × Nat)}, lsOk pc fs l = true → (pc : Int) + Op.lookupswitch.offset fs dflt x = (swT x l z : Int)
  | [], [], h => hz
  | [], _ :: _, h => by simp [lsOk] at h
  | _ :: _, [], h => by simp [lsOk] at h
  | (a, o) :: fs, (b, t) :: r, h => by
    simp only [lsOk, Bool.and_eq_true, decide_eq_true_eq] at h
    obtain ⟨⟨h1, h2⟩, h3⟩ := h
    unfold swT
    rw [Op.lookupswitch.offset_cons]
    by_cases e : x = b
    · rw [if_pos e, if_pos (by rw [e, h1])]
      exact h2
    · rw [if_neg e, if_neg (fun q => e (by rw [h1]; exact q.symm))]
      exact lsOk_swT hz h3
theorem A_lsw {x : Int} {dflt : Int} {ps : Array (Int × Int)} {len : Nat} (l : List (Int × Nat)) (z : Nat) (hd : decode cc pc = .ok (.lookupswitch dflt ps, len)) (h0 : (ps.toList.zip (ps.toList.drop 1)).all (fun (a, next) => a.1 < next.1) = true) (h1 : lsOk pc ps.toList l = true) (h2 : (pc : Int) + dflt = (z : Int)) (x1 : -2147483648 ≤ x) (x2 : x < 2147483648)
    (k : SwP (fun t => AW G d own cc mL ret t ls st σ K) x l z) : AW G d own cc mL ret pc ls (.int (iI x) :: st) σ K := by
  have kk := k.get
  have i1 := lsOk_swT (x := x) h2 h1
  intro p e s m args below meth c H locs la hC hP hS hL
  exact lv_lookup hC.1 hC.2.1 hd h0 (by rw [iI_t x1 x2]) i1 (kk p e s m args below meth c H locs la hC hP hS hL)
/-! ends -/
theorem A_iret {v : Int} (hr : ret = some .int) (hd : decode cc pc = .ok (.ireturn, 1)) (hk : K (some (.int (iI v))) σ) : AW G d own cc mL ret pc ls [.int (iI v)] σ K :=
  fun p e s m args below meth c H locs la hC hP hS hL => W.iret hC.1 hC.2.1 (hC.2.2.2.1.trans hr) (fun t ht hW => ⟨⟨_, σ, rfl, hk, by rw [ht]; exact hP⟩, hS.F ht⟩) hS.2.2 hd (hlocks := hC.2.2.2.2.1)
theorem A_zret {v : Int} {ty : FieldType} (hr : ret = some ty) (hn : narrow ty (.int (iI v)) = .int (iI v)) (hd : decode cc pc = .ok (.ireturn, 1)) (hk : K (some (.int (iI v))) σ) : AW G d own cc mL ret pc ls [.int (iI v)] σ K :=
  fun p e s m args below meth c H locs la hC hP hS hL => W.zret hC.1 hC.2.1 (hC.2.2.2.1.trans hr) hn (fun t ht hW => ⟨⟨_, σ, rfl, hk, by rw [ht]; exact hP⟩, hS.F ht⟩) hS.2.2 hd (hlocks := hC.2.2.2.2.1)
theorem A_lret {v : Int64} (hr : ret = some .long) (hd : decode cc pc = .ok (.lreturn, 1)) (hk : K (some (.long v)) σ) : AW G d own cc mL ret pc ls [.long v] σ K :=
  fun p e s m args below meth c H locs la hC hP hS hL => W.lret hC.1 hC.2.1 (hC.2.2.2.1.trans hr) (fun t ht hW => ⟨⟨_, σ, rfl, hk, by rw [ht]; exact hP⟩, hS.F ht⟩) hS.2.2 hd (hlocks := hC.2.2.2.2.1)
theorem A_vret (hr : ret = none) (hd : decode cc pc = .ok (.return_, 1)) (hk : K none σ) : AW G d own cc mL ret pc ls [] σ K :=
  fun p e s m args below meth c H locs la hC hP hS hL => W.vret hC.1 hC.2.1 (hC.2.2.2.1.trans hr) (fun t ht hW => ⟨⟨_, σ, rfl, hk, by rw [ht]; exact hP⟩, hS.F ht⟩) hS.2.2 hd (hlocks := hC.2.2.2.2.1)
/-! constants of the pool -/
theorem A_ldc {idx : Nat} {v : Int} (hc : Cond.constant own idx (iI v) ∈ lw_tbl) (hd : decode cc pc = .ok (.ldc idx, 2)) (k : AW G d own cc mL ret (pc + 2) ls (.int (iI v) :: st) σ K) : AW G d own cc mL ret pc ls st σ K :=
  fun p e s m args below meth c H locs la hC hP hS hL => lv_ldc hC.1 hC.2.1 hC.2.2.2.2.2.1 (hC.2.2.2.2.2.2.1 _ (TW_in hc rfl)) hd (k p e s m args below meth c H locs la hC hP hS hL)
theorem A_ldcw {idx : Nat} {v : Int} (hc : Cond.constant own idx (iI v) ∈ lw_tbl) (hd : decode cc pc = .ok (.ldc_w idx, 3)) (k : AW G d own cc mL ret (pc + 3) ls (.int (iI v) :: st) σ K) : AW G d own cc mL ret pc ls st σ K :=
  fun p e s m args below meth c H locs la hC hP hS hL => lv_ldcw hC.1 hC.2.1 hC.2.2.2.2.2.1 (hC.2.2.2.2.2.2.1 _ (TW_in hc rfl)) hd (k p e s m args below meth c H locs la hC hP hS hL)
theorem A_ldc2 {idx : Nat} {v : Int64} (hc : Cond.constantLong own idx v ∈ lw_tbl) (hd : decode cc pc = .ok (.ldc2_w idx, 3)) (k : AW G d own cc mL ret (pc + 3) ls (.long v :: st) σ K) : AW G d own cc mL ret pc ls st σ K :=
  fun p e s m args below meth c H locs la hC hP hS hL => lv_ldc2 hC.1 hC.2.1 hC.2.2.2.2.2.1 (hC.2.2.2.2.2.2.1 _ (TW_in hc rfl)) hd (k p e s m args below meth c H locs la hC hP hS hL)
theorem A_ldcS {idx : Nat} {tx : String} {i : Nat} (hc : (own, idx, tx, i) ∈ strR) (hd : decode cc pc = .ok (.ldc idx, 2)) (k : AW G d own cc mL ret (pc + 2) ls (.ref (gK G i) :: st) σ K) : AW G d own cc mL ret pc ls st σ K :=
  fun p e s m args below meth c H locs la hC hP hS hL => va_ldcS hC.1 hC.2.1 hC.2.2.2.2.2.1 (hC.2.2.2.2.2.2.2.2.2.2.2.2.2.2.1 _ hc) hd (k p e s m args below meth c H locs la hC hP hS hL)
end AWR
