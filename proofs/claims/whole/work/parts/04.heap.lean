/-! PART 04: fields, arrays and calls over the store -/
theorem cls_all : ∀ q ∈ vwCl, ((u_ws q.1 q.2.1 q.2.2).all (fun w => decide (w ∈ lw_tbl) && goodWord w)) = true := by decide +kernel
theorem cls_in {ci : Nat} {q : vw_C} (h : vwCl[ci]? = some q) : ∀ w ∈ u_ws q.1 q.2.1 q.2.2, w ∈ TW := by
  intro w hw
  have h1 := List.all_eq_true.mp (cls_all q (List.mem_of_getElem? h)) w hw
  simp only [Bool.and_eq_true, decide_eq_true_eq] at h1
  exact TW_in h1.1 h1.2
/-- field k of class ci, that may be written, of type ty -/
def WrF (ci k : Nat) (ty : FieldType) : Prop := ∃ q : vw_C, vwCl[ci]? = some q ∧ (q.2.1 k).2.2.2 = false ∧ parseFieldDescriptor (q.2.1 k).2.2.1 = some ty
/-- what va_put asks of a class' fields -/
def ClF (q : vw_C) : Prop := ∃ ty0 : Nat → FieldType, (∀ k, k < q.2.2 → parseFieldDescriptor (q.2.1 k).2.2.1 = some (ty0 k)) ∧ (∀ a, a < q.2.2 → ∀ b, b < q.2.2 → a ≠ b → (q.2.1 a).2.1 ≠ (q.2.1 b).2.1)
theorem clf_RX1 : ClF (RX1, TX1, 5) := ⟨tyX1, tyX1_ok, nmX1⟩
theorem clf_RX2 : ClF (RX2, TX2, 6) := ⟨tyX2, tyX2_ok, nmX2⟩
theorem clf_RX3 : ClF (RX3, TX3, 3) := ⟨tyX3, tyX3_ok, nmX3⟩
theorem clf_RX4 : ClF (RX4, TX4, 2) := ⟨tyX4, tyX4_ok, nmX4⟩
theorem clf_RX5 : ClF (RX5, TX5, 14) := ⟨tyX5, tyX5_ok, nmX5⟩
theorem clf_RX6 : ClF (RX6, TX6, 5) := ⟨tyX6, tyX6_ok, nmX6⟩
theorem clf_RX7 : ClF (RX7, TX7, 2) := ⟨tyX7, tyX7_ok, nmX7⟩
theorem clf_RX8 : ClF (RX8, TX8, 11) := ⟨tyX8, tyX8_ok, nmX8⟩
theorem clf_RX9 : ClF (RX9, TX9, 33) := ⟨tyX9, tyX9_ok, nmX9⟩
theorem ClF_all : ∀ {ci : Nat} {q : vw_C}, vwCl[ci]? = some q → ClF q := by
  intro ci q h
  have hm : q ∈ vwCl := List.mem_of_getElem? h
  simp only [vwCl, List.mem_cons, List.not_mem_nil, or_false] at hm
  rcases hm with rfl | rfl | rfl | rfl | rfl | rfl | rfl | rfl | rfl
  · exact clf_RX1
  · exact clf_RX2
  · exact clf_RX3
  · exact clf_RX4
  · exact clf_RX5
  · exact clf_RX6
  · exact clf_RX7
  · exact clf_RX8
  · exact clf_RX9
theorem wr_0_0 : WrF 0 0 .int := ⟨_, rfl, rfl, by decide +kernel⟩
theorem wr_0_2 : WrF 0 2 .int := ⟨_, rfl, rfl, by decide +kernel⟩
theorem wr_0_3 : WrF 0 3 .int := ⟨_, rfl, rfl, by decide +kernel⟩
theorem wr_0_4 : WrF 0 4 .int := ⟨_, rfl, rfl, by decide +kernel⟩
theorem wr_1_1 : WrF 1 1 .int := ⟨_, rfl, rfl, by decide +kernel⟩
theorem wr_1_3 : WrF 1 3 .int := ⟨_, rfl, rfl, by decide +kernel⟩
theorem wr_1_4 : WrF 1 4 .int := ⟨_, rfl, rfl, by decide +kernel⟩
theorem wr_1_5 : WrF 1 5 .int := ⟨_, rfl, rfl, by decide +kernel⟩
theorem wr_2_0 : WrF 2 0 .int := ⟨_, rfl, rfl, by decide +kernel⟩
theorem wr_2_1 : WrF 2 1 .int := ⟨_, rfl, rfl, by decide +kernel⟩
theorem wr_3_0 : WrF 3 0 .int := ⟨_, rfl, rfl, by decide +kernel⟩
theorem wr_4_0 : WrF 4 0 .long := ⟨_, rfl, rfl, by decide +kernel⟩
theorem wr_4_1 : WrF 4 1 .int := ⟨_, rfl, rfl, by decide +kernel⟩
theorem wr_4_2 : WrF 4 2 .int := ⟨_, rfl, rfl, by decide +kernel⟩
theorem wr_4_3 : WrF 4 3 .int := ⟨_, rfl, rfl, by decide +kernel⟩
theorem wr_4_4 : WrF 4 4 .int := ⟨_, rfl, rfl, by decide +kernel⟩
theorem wr_4_5 : WrF 4 5 .int := ⟨_, rfl, rfl, by decide +kernel⟩
theorem wr_4_6 : WrF 4 6 .int := ⟨_, rfl, rfl, by decide +kernel⟩
theorem wr_5_0 : WrF 5 0 .int := ⟨_, rfl, rfl, by decide +kernel⟩
theorem wr_5_1 : WrF 5 1 .int := ⟨_, rfl, rfl, by decide +kernel⟩
theorem wr_5_2 : WrF 5 2 .int := ⟨_, rfl, rfl, by decide +kernel⟩
theorem wr_5_3 : WrF 5 3 .int := ⟨_, rfl, rfl, by decide +kernel⟩
theorem wr_5_4 : WrF 5 4 .int := ⟨_, rfl, rfl, by decide +kernel⟩
theorem wr_6_0 : WrF 6 0 .long := ⟨_, rfl, rfl, by decide +kernel⟩
theorem wr_7_2 : WrF 7 2 .boolean := ⟨_, rfl, rfl, by decide +kernel⟩
theorem wr_8_0 : WrF 8 0 .int := ⟨_, rfl, rfl, by decide +kernel⟩
theorem wr_8_5 : WrF 8 5 .int := ⟨_, rfl, rfl, by decide +kernel⟩
theorem wr_8_11 : WrF 8 11 .int := ⟨_, rfl, rfl, by decide +kernel⟩
theorem wr_8_15 : WrF 8 15 .int := ⟨_, rfl, rfl, by decide +kernel⟩
theorem wr_8_16 : WrF 8 16 .int := ⟨_, rfl, rfl, by decide +kernel⟩
theorem wr_8_18 : WrF 8 18 .int := ⟨_, rfl, rfl, by decide +kernel⟩
theorem wr_8_20 : WrF 8 20 .int := ⟨_, rfl, rfl, by decide +kernel⟩
theorem wr_8_23 : WrF 8 23 .boolean := ⟨_, rfl, rfl, by decide +kernel⟩
theorem wr_8_25 : WrF 8 25 .int := ⟨_, rfl, rfl, by decide +kernel⟩
theorem wr_8_29 : WrF 8 29 .int := ⟨_, rfl, rfl, by decide +kernel⟩
theorem wr_8_30 : WrF 8 30 .int := ⟨_, rfl, rfl, by decide +kernel⟩
theorem wr_8_31 : WrF 8 31 .int := ⟨_, rfl, rfl, by decide +kernel⟩
theorem wr_8_32 : WrF 8 32 .int := ⟨_, rfl, rfl, by decide +kernel⟩
theorem EN_o {G : Gl} {σ : Sg} {c : Nat} {q : Nat × List (Nat × Nat)} (h : shp c = .inl q) : EN G σ c = .inr (q.1, fvs G σ c q.2) := by unfold EN; rw [h]
theorem EN_a {G : Gl} {σ : Sg} {c : Nat} {q : Nat × Nat} (h : shp c = .inr q) : EN G σ c = .inl (gY G q.1, av G σ c q.1 q.2) := by unfold EN; rw [h]
theorem WS_o {G : Gl} {σ : Sg} {c ci : Nat} {fl : List (Nat × Nat)} (h : shp c = .inl (ci, fl)) : (WS G σ)[c]? = some (gA G c, .inr (ci, fvs G σ c fl)) := by rw [WS_at (shp_lt h), EN_o h]
theorem WS_i {G : Gl} {σ : Sg} {c n : Nat} (h : shp c = .inr (0, n)) : (WS G σ)[c]? = some (gA G c, .inl (gY G 0, n, .inl (fun j => iI (σ.1 c j)))) := by rw [WS_at (shp_lt2 h (by decide)), EN_a h]; rfl
theorem WS_l {G : Gl} {σ : Sg} {c n : Nat} (h : shp c = .inr (1, n)) : (WS G σ)[c]? = some (gA G c, .inl (gY G 1, n, .inr (.inl (σ.2 c)))) := by rw [WS_at (shp_lt2 h (by decide)), EN_a h]; rfl
theorem WS_z {G : Gl} {σ : Sg} {c n : Nat} (h : shp c = .inr (2, n)) : (WS G σ)[c]? = some (gA G c, .inl (gY G 2, n, .inl (fun j => iI (σ.1 c j)))) := by rw [WS_at (shp_lt2 h (by decide)), EN_a h]; rfl
theorem WS_q {G : Gl} {σ : Sg} {c n : Nat} (h : shp c = .inr (3, n)) : (WS G σ)[c]? = some (gA G c, .inl (gY G 3, n, .inr (.inr (.inr (.inr (fun i => some (gA G (38 + 2 * i)))))))) := by rw [WS_at (shp_lt2 h (by decide)), EN_a h]; rfl
theorem WS_putI {G : Gl} {σ : Sg} {c ci k z : Nat} {fl : List (Nat × Nat)} {v : Int} (h : shp c = .inl (ci, fl)) (hk : fl[k]? = some (0, z)) : (WS G σ).set c (gA G c, .inr (ci, (fvs G σ c fl).set k (.int (iI v)))) = WS G (uI σ c k v) := by
  refine WS_set ?_ (fun a ha => uI_ne ha) (fun a ha => rfl)
  rw [EN_o h, fvs_set (τ := uI σ c k v) hk (by simp [fv, uI]) (fun j g hj => by simp [fv, uI, hj])]
theorem WS_putL {G : Gl} {σ : Sg} {c ci k z : Nat} {fl : List (Nat × Nat)} {v : Int64} (h : shp c = .inl (ci, fl)) (hk : fl[k]? = some (1, z)) : (WS G σ).set c (gA G c, .inr (ci, (fvs G σ c fl).set k (.long v))) = WS G (uL σ c k v) := by
  refine WS_set ?_ (fun a ha => rfl) (fun a ha => uL_ne ha)
  rw [EN_o h, fvs_set (τ := uL σ c k v) hk (by simp [fv, uL]) (fun j g hj => by simp [fv, uL, hj])]
theorem WS_stI {G : Gl} {σ : Sg} {c k n : Nat} {v : Int} (h : shp c = .inr (0, n)) : (WS G σ).set c (gA G c, .inl (gY G 0, n, .inl (upd (fun j => iI (σ.1 c j)) k (iI v)))) = WS G (uI σ c k v) := by
  refine WS_set ?_ (fun a ha => uI_ne ha) (fun a ha => rfl)
  rw [EN_a h, ← uI_upd]; rfl
theorem WS_stZ {G : Gl} {σ : Sg} {c k n : Nat} {v : Int} (h : shp c = .inr (2, n)) : (WS G σ).set c (gA G c, .inl (gY G 2, n, .inl (upd (fun j => iI (σ.1 c j)) k (iI v)))) = WS G (uI σ c k v) := by
  refine WS_set ?_ (fun a ha => uI_ne ha) (fun a ha => rfl)
  rw [EN_a h, ← uI_upd]; rfl
theorem WS_stL {G : Gl} {σ : Sg} {c k n : Nat} {v : Int64} (h : shp c = .inr (1, n)) : (WS G σ).set c (gA G c, .inl (gY G 1, n, .inr (.inl (vp_updL (σ.2 c) k v)))) = WS G (uL σ c k v) := by
  refine WS_set ?_ (fun a ha => rfl) (fun a ha => uL_ne ha)
  rw [EN_a h, ← uL_upd]; rfl
section AWH
variable {G : Gl} {d : Nat} {own : String} {cc : ByteArray} {mL : Nat} {ret : Option FieldType} {pc : Nat} {ls : List (Nat × Value)} {st : List Value} {σ : Sg} {K : Option Value → Sg → Prop}
theorem Cx.hts {p : Program} {s : State} {m : MethodId} {args : Array Value} {meth : Method} {c : Code} (h : Cx G own cc mL ret p s m args meth c) : ∀ w ∈ TW, w.before args s = true := h.2.2.2.2.2.2.1
theorem Cx.hown {p : Program} {s : State} {m : MethodId} {args : Array Value} {meth : Method} {c : Code} (h : Cx G own cc mL ret p s m args meth c) : s.vm.findClass own = some m.cls := h.2.2.2.2.2.1
theorem Cx.kon {p : Program} {s : State} {m : MethodId} {args : Array Value} {meth : Method} {c : Code} (h : Cx G own cc mL ret p s m args meth c) : Kon G s s.heap := h.2.2.2.2.2.2.2
theorem A_get {idx ci k c : Nat} {fl : List (Nat × Nat)} {f : Nat × Nat} {v : Value} (hf : LkF own idx ci k) (hs : shp c = .inl (ci, fl)) (hk : fl[k]? = some f) (hv : fv G σ c k f = v) (hd : decode cc pc = .ok (.getfield idx, 3))
    (kk : AW G d own cc mL ret (pc + 3) ls (v :: st) σ K) : AW G d own cc mL ret pc ls (.ref (gA G c) :: st) σ K := by
  intro p e s m args below meth c' H locs la hC hP hS hL
  obtain ⟨⟨C, T, N⟩, h1, h2, h3⟩ := hf
  subst hv
  exact va_get (D := gD G) (ci := ci) (Ts := TW) hC.1 hC.2.1 hC.hts (cls_in h1) hC.hown hC.kon.2.1 hP c (WS_o hs) h1 k h2 (hC.hts _ (TW_in h3 rfl)) (fun _ h => h) (fvs_at hk) hd (kk p e s m args below meth c' H locs la hC hP hS hL)
theorem A_getI {idx ci k c z : Nat} {fl : List (Nat × Nat)} (hf : LkF own idx ci k) (hs : shp c = .inl (ci, fl)) (hk : fl[k]? = some (0, z)) (hd : decode cc pc = .ok (.getfield idx, 3))
    (kk : AW G d own cc mL ret (pc + 3) ls (.int (iI (σ.1 c k)) :: st) σ K) : AW G d own cc mL ret pc ls (.ref (gA G c) :: st) σ K := A_get hf hs hk rfl hd kk
theorem A_getL {idx ci k c z : Nat} {fl : List (Nat × Nat)} (hf : LkF own idx ci k) (hs : shp c = .inl (ci, fl)) (hk : fl[k]? = some (1, z)) (hd : decode cc pc = .ok (.getfield idx, 3))
    (kk : AW G d own cc mL ret (pc + 3) ls (.long (σ.2 c k) :: st) σ K) : AW G d own cc mL ret pc ls (.ref (gA G c) :: st) σ K := A_get hf hs hk rfl hd kk
theorem A_getR {idx ci k c z : Nat} {fl : List (Nat × Nat)} (hf : LkF own idx ci k) (hs : shp c = .inl (ci, fl)) (hk : fl[k]? = some (2, z)) (hd : decode cc pc = .ok (.getfield idx, 3))
    (kk : AW G d own cc mL ret (pc + 3) ls (.ref (gA G z) :: st) σ K) : AW G d own cc mL ret pc ls (.ref (gA G c) :: st) σ K := A_get hf hs hk rfl hd kk
theorem A_put {idx ci k c : Nat} {fl : List (Nat × Nat)} {f : Nat × Nat} {v : Value} {τ : Sg} {ty : FieldType} (hf : LkF own idx ci k) (hw : WrF ci k ty) (hs : shp c = .inl (ci, fl)) (hk : fl[k]? = some f) (hn : narrow ty v = v) (hfit : fits ty v = true) (hτ : (WS G σ).set c (gA G c, .inr (ci, (fvs G σ c fl).set k v)) = WS G τ) (hd : decode cc pc = .ok (.putfield idx, 3))
    (kk : AW G d own cc mL ret (pc + 3) ls st τ K) : AW G d own cc mL ret pc ls (v :: .ref (gA G c) :: st) σ K := by
  intro p e s m args below meth c' H locs la hC hP hS hL
  obtain ⟨⟨C, T, N⟩, h1, h2, h3⟩ := hf
  obtain ⟨q, g1, g2, g3⟩ := hw
  have hq : q = (C, T, N) := Option.some.inj (g1.symm.trans h1)
  subst hq
  obtain ⟨ty0, t1, t2⟩ := ClF_all h1
  refine va_put (D := gD G) (ci := ci) (Ts := TW) (ty := ty) hC.1 hC.2.1 hC.hts (cls_in h1) ty0 t1 t2 hC.hown hC.kon.2.1 hP (WS_D hC.kon.1) hS c (WS_o hs) h1 k h2 (hC.hts _ (TW_in h3 rfl)) (fun _ h => h) g2 g3 hn hfit (by rw [fvs_len]; exact (List.getElem?_eq_some_iff.mp hk).1) hd (fun H1 l1 hP1 _ hS1 => ?_)
  rw [hτ] at hP1
  exact kk p e s m args below meth c' H1 l1 la hC hP1 hS1 hL
theorem A_putI {idx ci k c z : Nat} {fl : List (Nat × Nat)} {v : Int} (hf : LkF own idx ci k) (hw : WrF ci k .int) (hs : shp c = .inl (ci, fl)) (hk : fl[k]? = some (0, z)) (hd : decode cc pc = .ok (.putfield idx, 3))
    (kk : AW G d own cc mL ret (pc + 3) ls st (uI σ c k v) K) : AW G d own cc mL ret pc ls (.int (iI v) :: .ref (gA G c) :: st) σ K := A_put hf hw hs hk rfl rfl (WS_putI hs hk) hd kk
theorem A_putZ {idx ci k c z : Nat} {fl : List (Nat × Nat)} {v : Int} (hf : LkF own idx ci k) (hw : WrF ci k .boolean) (hs : shp c = .inl (ci, fl)) (hk : fl[k]? = some (0, z)) (hn : narrow .boolean (.int (iI v)) = .int (iI v)) (hfit : fits .boolean (.int (iI v)) = true) (hd : decode cc pc = .ok (.putfield idx, 3))
    (kk : AW G d own cc mL ret (pc + 3) ls st (uI σ c k v) K) : AW G d own cc mL ret pc ls (.int (iI v) :: .ref (gA G c) :: st) σ K := A_put hf hw hs hk hn hfit (WS_putI hs hk) hd kk
theorem A_putL {idx ci k c z : Nat} {fl : List (Nat × Nat)} {v : Int64} (hf : LkF own idx ci k) (hw : WrF ci k .long) (hs : shp c = .inl (ci, fl)) (hk : fl[k]? = some (1, z)) (hd : decode cc pc = .ok (.putfield idx, 3))
    (kk : AW G d own cc mL ret (pc + 3) ls st (uL σ c k v) K) : AW G d own cc mL ret pc ls (.long v :: .ref (gA G c) :: st) σ K := A_put hf hw hs hk rfl rfl (WS_putL hs hk) hd kk
/-! arrays: the place is nI j -/
theorem A_iald {c n : Nat} {i : Int} (j : Nat) (hs : shp c = .inr (0, n)) (hi : i = (j : Int)) (hj : j < n) (hn : n < 2 ^ 31) (hd : decode cc pc = .ok (.iaload, 1))
    (kk : AW G d own cc mL ret (pc + 1) ls (.int (iI (σ.1 c j)) :: st) σ K) : AW G d own cc mL ret pc ls (.int (iI i) :: .ref (gA G c) :: st) σ K := by
  intro p e s m args below meth c' H locs la hC hP hS hL
  subst hi
  rw [iI_n]
  refine va_iald (D := gD G) hC.1 hC.2.1 hC.kon.2.1 hP c 0 (WS_i hs) rfl (vp_in_nI hj hn) hd ?_
  rw [nI_clamp (by omega)]
  exact kk p e s m args below meth c' H locs la hC hP hS hL
theorem A_zald {c n : Nat} {i : Int} (j : Nat) (hs : shp c = .inr (2, n)) (hi : i = (j : Int)) (hj : j < n) (hn : n < 2 ^ 31) (hd : decode cc pc = .ok (.baload, 1))
    (kk : AW G d own cc mL ret (pc + 1) ls (.int (iI (σ.1 c j)) :: st) σ K) : AW G d own cc mL ret pc ls (.int (iI i) :: .ref (gA G c) :: st) σ K := by
  intro p e s m args below meth c' H locs la hC hP hS hL
  subst hi
  rw [iI_n]
  refine va_zald (D := gD G) hC.1 hC.2.1 hC.kon.2.1 hP c 2 (WS_z hs) rfl (vp_in_nI hj hn) hd ?_
  rw [nI_clamp (by omega)]
  exact kk p e s m args below meth c' H locs la hC hP hS hL
theorem A_lald {c n : Nat} {i : Int} (j : Nat) (hs : shp c = .inr (1, n)) (hi : i = (j : Int)) (hj : j < n) (hn : n < 2 ^ 31) (hd : decode cc pc = .ok (.laload, 1))
    (kk : AW G d own cc mL ret (pc + 1) ls (.long (σ.2 c j) :: st) σ K) : AW G d own cc mL ret pc ls (.int (iI i) :: .ref (gA G c) :: st) σ K := by
  intro p e s m args below meth c' H locs la hC hP hS hL
  subst hi
  rw [iI_n]
  refine va_lald (D := gD G) hC.1 hC.2.1 hC.kon.2.1 hP c 1 (WS_l hs) rfl (vp_in_nI hj hn) hd ?_
  rw [nI_clamp (by omega)]
  exact kk p e s m args below meth c' H locs la hC hP hS hL
theorem A_aald {c n : Nat} {i : Int} (j : Nat) (hs : shp c = .inr (3, n)) (hi : i = (j : Int)) (hj : j < n) (hn : n < 2 ^ 31) (hd : decode cc pc = .ok (.aaload, 1))
    (kk : AW G d own cc mL ret (pc + 1) ls (.ref (gA G (38 + 2 * j)) :: st) σ K) : AW G d own cc mL ret pc ls (.int (iI i) :: .ref (gA G c) :: st) σ K := by
  intro p e s m args below meth c' H locs la hC hP hS hL
  subst hi
  rw [iI_n]
  refine va_aldq (D := gD G) hC.1 hC.2.1 hC.kon.2.1 hP c 3 (WS_q hs) rfl (vp_in_nI hj hn) hd ?_
  rw [nI_clamp (by omega)]
  exact kk p e s m args below meth c' H locs la hC hP hS hL
theorem A_iast {c n : Nat} {i x : Int} (j : Nat) (hs : shp c = .inr (0, n)) (hi : i = (j : Int)) (hj : j < n) (hn : n < 2 ^ 31) (hd : decode cc pc = .ok (.iastore, 1))
    (kk : AW G d own cc mL ret (pc + 1) ls st (uI σ c j x) K) : AW G d own cc mL ret pc ls (.int (iI x) :: .int (iI i) :: .ref (gA G c) :: st) σ K := by
  intro p e s m args below meth c' H locs la hC hP hS hL
  subst hi
  rw [iI_n]
  refine va_iast (D := gD G) hC.1 hC.2.1 hC.kon.2.1 hP (WS_D hC.kon.1) hS c 0 (WS_i hs) rfl (vp_in_nI hj hn) hd (fun H1 l1 hP1 _ hS1 => ?_)
  rw [nI_clamp (by omega), WS_stI hs] at hP1
  exact kk p e s m args below meth c' H1 l1 la hC hP1 hS1 hL
theorem A_zast {c n : Nat} {i x : Int} (j : Nat) (hs : shp c = .inr (2, n)) (hi : i = (j : Int)) (hj : j < n) (hn : n < 2 ^ 31) (hx : vp_nar .boolean (iI x) = iI x) (hd : decode cc pc = .ok (.bastore, 1))
    (kk : AW G d own cc mL ret (pc + 1) ls st (uI σ c j x) K) : AW G d own cc mL ret pc ls (.int (iI x) :: .int (iI i) :: .ref (gA G c) :: st) σ K := by
  intro p e s m args below meth c' H locs la hC hP hS hL
  subst hi
  rw [iI_n]
  refine va_zast (D := gD G) hC.1 hC.2.1 hC.kon.2.1 hP (WS_D hC.kon.1) hS c 2 (WS_z hs) rfl (vp_in_nI hj hn) hd (fun H1 l1 hP1 _ hS1 => ?_)
  rw [nI_clamp (by omega), hx, WS_stZ hs] at hP1
  exact kk p e s m args below meth c' H1 l1 la hC hP1 hS1 hL
theorem A_last {c n : Nat} {i : Int} {x : Int64} (j : Nat) (hs : shp c = .inr (1, n)) (hi : i = (j : Int)) (hj : j < n) (hn : n < 2 ^ 31) (hd : decode cc pc = .ok (.lastore, 1))
    (kk : AW G d own cc mL ret (pc + 1) ls st (uL σ c j x) K) : AW G d own cc mL ret pc ls (.long x :: .int (iI i) :: .ref (gA G c) :: st) σ K := by
  intro p e s m args below meth c' H locs la hC hP hS hL
  subst hi
  rw [iI_n]
  refine va_last (D := gD G) hC.1 hC.2.1 hC.kon.2.1 hP (WS_D hC.kon.1) hS c 1 (WS_l hs) rfl (vp_in_nI hj hn) hd (fun H1 l1 hP1 _ hS1 => ?_)
  rw [nI_clamp (by omega), WS_stL hs] at hP1
  exact kk p e s m args below meth c' H1 l1 la hC hP1 hS1 hL
theorem A_alen {c n : Nat} (hs : shp c = .inr (0, n)) (hd : decode cc pc = .ok (.arraylength, 1))
    (kk : AW G d own cc mL ret (pc + 1) ls (.int (iI (n : Int)) :: st) σ K) : AW G d own cc mL ret pc ls (.ref (gA G c) :: st) σ K := by
  intro p e s m args below meth c' H locs la hC hP hS hL
  exact va_alen (D := gD G) hC.1 hC.2.1 hC.kon.2.1 hP c 0 (WS_i hs) (ty := .int) rfl (iI_n n).symm hd (kk p e s m args below meth c' H locs la hC hP hS hL)
/-- the two static tables -/
theorem A_getsA {idx : Nat} (hf : Cond.fieldLink own idx RX8 "ABOVE" "[I" ∈ lw_tbl) (hd : decode cc pc = .ok (.getstatic idx, 3)) (kk : AW G d own cc mL ret (pc + 3) ls (.ref (gB G).1 :: st) σ K) : AW G d own cc mL ret pc ls st σ K := by
  intro p e s m args below meth c' H locs la hC hP hS hL
  exact va_gets hC.1 hC.2.1 hC.kon.2.2.1 hS hC.hown (hC.hts _ (TW_in hf rfl)) (fun _ h => h) hd (kk p e s m args below meth c' H locs la hC hP hS hL)
theorem A_getsB {idx : Nat} (hf : Cond.fieldLink own idx RX1 "BODIES" "[I" ∈ lw_tbl) (hd : decode cc pc = .ok (.getstatic idx, 3)) (kk : AW G d own cc mL ret (pc + 3) ls (.ref (gB G).2 :: st) σ K) : AW G d own cc mL ret pc ls st σ K := by
  intro p e s m args below meth c' H locs la hC hP hS hL
  exact va_gets hC.1 hC.2.1 hC.kon.2.2.2.2.1 hS hC.hown (hC.hts _ (TW_in hf rfl)) (fun _ h => h) hd (kk p e s m args below meth c' H locs la hC hP hS hL)
theorem A_taldA {i : Int} (j : Nat) (hi : i = (j : Int)) (hj : j < 7) (hd : decode cc pc = .ok (.iaload, 1)) (kk : AW G d own cc mL ret (pc + 1) ls (.int (iI (fAb.getD j 0)) :: st) σ K) : AW G d own cc mL ret pc ls (.int (iI i) :: .ref (gB G).1 :: st) σ K := by
  intro p e s m args below meth c' H locs la hC hP hS hL
  subst hi
  rw [iI_n]
  refine va_ti hC.1 hC.2.1 hC.kon.2.2.2.1 hS (vp_in_nI hj (by decide)) rfl hd ?_
  rw [nI_clamp (by omega)]
  exact kk p e s m args below meth c' H locs la hC hP hS hL
theorem A_taldB {i : Int} (j : Nat) (hi : i = (j : Int)) (hj : j < 21) (hd : decode cc pc = .ok (.iaload, 1)) (kk : AW G d own cc mL ret (pc + 1) ls (.int (iI (fBo.getD j 0)) :: st) σ K) : AW G d own cc mL ret pc ls (.int (iI i) :: .ref (gB G).2 :: st) σ K := by
  intro p e s m args below meth c' H locs la hC hP hS hL
  subst hi
  rw [iI_n]
  refine va_ti hC.1 hC.2.1 hC.kon.2.2.2.2.2.1 hS (vp_in_nI hj (by decide)) rfl hd ?_
  rw [nI_clamp (by omega)]
  exact kk p e s m args below meth c' H locs la hC hP hS hL
/-! calls -/
theorem CT.blind {As : List Value} : FrameBlind (va_Pc As (fun U => va_P (gD G) vwCl (WS G σ) U.heap ∧ Kon G U U.heap)) := by
  intro a U g mk h
  obtain ⟨h1, h2, h3⟩ := h
  exact ⟨h1, h2, h3.blind⟩
theorem A_back {p : Program} {e : Env} {R : Room} {s : State} {m : MethodId} {args a : Array Value} {below : List Frame} {meth : Method} {c : Code} {H : Heap} {locs : List Loc} {la : Array Slot} {rest st0 : List Value} {Q : State → Prop} {K1 : Option Value → Sg → Prop}
    (hr : va_Run p (gL G) e R s m args below meth c H locs 0 0 0 0 (F0 m pc la st0) rest (QK G K1 a) (AA G)) (hS : va_S (AA G) s.heap H locs)
    (kk : ∀ (v : Option Value) (τ : Sg) (H1 : Heap) (locs1 : List Loc), K1 v τ → va_P (gD G) vwCl (WS G τ) H1 → va_S (AA G) s.heap H1 locs1 → W p (gL G) e R s m args below meth c H1 locs1 0 0 Q (F0 m (pc + 3) la (v.toList ++ rest))) :
    W p (gL G) e R s m args below meth c H locs 0 0 Q (F0 m pc la st0) := by
  intro T hT X
  obtain ⟨v, st₀, t, T', L, h0, X', hL, e1, e2, ⟨⟨v', τ, hv, hp, hb⟩, hz, hk⟩, st⟩ := hr T hT X
  cases hv
  rw [h0] at hz hk
  obtain ⟨t2, a1, b1⟩ := kk v τ T'.heap (locs ++ L) hp (by rw [e1]; exact hb)
    ⟨Nat.le_trans hS.1 (by rw [e1]; exact hz), fun q h1 h2 => by rw [e1, hk q (Nat.lt_of_lt_of_le h1 hS.1) h2]; exact hS.2.1 q h1 h2, fun q hq => by
      rcases List.mem_append.mp hq with h | h
      · exact hS.2.2 q h
      · exact hL q h⟩ T' rfl X'
  exact ⟨t2, st t2 a1, b1⟩
theorem A_callS {idx n mL2 : Nat} {y : MethodName} {b : ByteArray} {ret2 : Option FieldType} {As rest : List Value} {K1 : Option Value → Sg → Prop} (hl : LkS own idx y n b mL2 ret2) (hc : CT G d y b mL2 ret2 As σ K1) (hd : decode cc pc = .ok (.invokestatic idx, 3)) (hst : st = As.reverse ++ rest) (hn : As.length = n) (hm : mL2 ≤ 80) (hr : (rest.map fun v => v.category).sum ≤ 8)
    (k : ∀ v τ, K1 v τ → AW G (d + 1) own cc mL ret (pc + 3) ls (v.toList ++ rest) τ K) : AW G (d + 1) own cc mL ret pc ls st σ K := by
  obtain ⟨⟨l1, l2, l3, l4, l5⟩, l6, l7⟩ := hl
  intro p e s m args below meth c' H locs la hC hP hS hL
  have hG : GoodIn TW (va_wsS own idx y (Cond.code y b mL2 ret2 :: TW)) := by
    intro w hw
    simp only [va_wsS, List.mem_append, List.mem_cons, List.not_mem_nil, or_false] at hw
    rcases hw with (h | h | h) | h | h
    · exact TW_good _ (h ▸ TW_in l6 rfl)
    · exact TW_good _ (h ▸ TW_in l7 rfl)
    · exact TW_good _ (h ▸ TW_in l1 rfl)
    · exact TW_good _ (h ▸ TW_in l2 rfl)
    · exact TW_good _ h
  refine A_back (K1 := K1) (va_runS (As := As) (rest := rest) ⟨hC.1, hC.2.1, hC.2.2.1, hC.hown, hC.hts⟩ hc (va_cwS n hC.hts hG rfl rfl rfl ⟨l3, l4, l5⟩ ⟨Nat.le_refl _, by show 8 + (mL2 + 11) + 100 * d ≤ 100 * (d + 1); omega⟩) ⟨CT.blind, fun U hU hW => ⟨rfl, by rw [hU]; exact hP, by rw [hU]; exact hC.kon.go hW hS.2.1⟩⟩ rfl hn hL.1 hst (lv_room hr) hd ⟨Nat.zero_le _, Nat.zero_le _⟩) hS (fun v τ H1 l1 hk hP1 hS1 => ?_)
  exact k v τ hk p e s m args below meth c' H1 l1 la hC hP1 hS1 hL
theorem A_callN {idx n mL2 : Nat} {y : MethodName} {b : ByteArray} {ret2 : Option FieldType} {As rest : List Value} {K1 : Option Value → Sg → Prop} (hl : LkB y n b mL2 ret2) (hs : Cond.static y ∈ lw_tbl) (hN : (own, idx, y) ∈ nestR) (hc : CT G d y b mL2 ret2 As σ K1) (hd : decode cc pc = .ok (.invokestatic idx, 3)) (hst : st = As.reverse ++ rest) (hn : As.length = n) (hm : mL2 ≤ 80) (hr : (rest.map fun v => v.category).sum ≤ 8)
    (k : ∀ v τ, K1 v τ → AW G (d + 1) own cc mL ret (pc + 3) ls (v.toList ++ rest) τ K) : AW G (d + 1) own cc mL ret pc ls st σ K := by
  obtain ⟨l1, l2, l3, l4, l5⟩ := hl
  intro p e s m args below meth c' H locs la hC hP hS hL
  have hG : GoodIn TW (Cond.code y b mL2 ret2 :: TW) := by
    intro w hw
    rcases List.mem_cons.mp hw with h | h
    · exact TW_good _ (h ▸ TW_in l2 rfl)
    · exact TW_good _ h
  refine A_back (K1 := K1) (va_runSN (As := As) (rest := rest) ⟨hC.1, hC.2.1, hC.2.2.1, hC.hown, hC.hts⟩ hc ⟨va_cnB (host := RX8) n hC.hts hG rfl rfl rfl (hC.kon.2.2.2.2.2.2.2.2.2.2 _ hN) (hC.hts _ (TW_in l1 rfl)) ⟨l3, l4, l5⟩ ⟨Nat.le_refl _, by show 8 + (mL2 + 11) + 100 * d ≤ 100 * (d + 1); omega⟩, hC.hts _ (TW_in hs rfl), trivial⟩ ⟨CT.blind, fun U hU hW => ⟨rfl, by rw [hU]; exact hP, by rw [hU]; exact hC.kon.go hW hS.2.1⟩⟩ rfl hn hL.1 hst (lv_room hr) hd ⟨Nat.zero_le _, Nat.zero_le _⟩) hS (fun v τ H1 l1 hk hP1 hS1 => ?_)
  exact k v τ hk p e s m args below meth c' H1 l1 la hC hP1 hS1 hL
theorem A_callV {idx n mL2 c ci : Nat} {fl : List (Nat × Nat)} {y : MethodName} {b : ByteArray} {ret2 : Option FieldType} {As rest : List Value} {K1 : Option Value → Sg → Prop} (hl : LkV own idx y n b mL2 ret2) (hs : shp c = .inl (ci, fl)) (hci : (vwCl[ci]?).map (fun q => q.1) = some y.cls) (hc : CT G d y b mL2 ret2 (.ref (gA G c) :: As) σ K1) (hd : decode cc pc = .ok (.invokevirtual idx, 3)) (hst : st = As.reverse ++ .ref (gA G c) :: rest) (hn : As.length = n) (hm : mL2 ≤ 80) (hr : (rest.map fun v => v.category).sum ≤ 8)
    (k : ∀ v τ, K1 v τ → AW G (d + 1) own cc mL ret (pc + 3) ls (v.toList ++ rest) τ K) : AW G (d + 1) own cc mL ret pc ls st σ K := by
  obtain ⟨⟨l1, l2, l3, l4, l5⟩, l6, l7, l8⟩ := hl
  intro p e s m args below meth c' H locs la hC hP hS hL
  have hG : GoodIn TW (wsV own idx y.cls y (Cond.code y b mL2 ret2 :: TW)) := by
    intro w hw
    simp only [wsV, List.mem_append, List.mem_cons, List.not_mem_nil, or_false] at hw
    rcases hw with (h | h | h | h) | h | h
    · exact TW_good _ (h ▸ TW_in l6 rfl)
    · exact TW_good _ (h ▸ TW_in l7 rfl)
    · exact TW_good _ (h ▸ TW_in l8 rfl)
    · exact TW_good _ (h ▸ TW_in l1 rfl)
    · exact TW_good _ (h ▸ TW_in l2 rfl)
    · exact TW_good _ h
  have hrc : ∃ cellB : Cell, H[gA G c]? = some cellB ∧ cellB.vm.isStatics = false ∧ s.vm.findClass y.cls = some cellB.cls := by
    cases hq : vwCl[ci]? with
    | none => rw [hq] at hci; cases hci
    | some q =>
      rw [hq] at hci
      have e1 : q.1 = y.cls := Option.some.inj hci
      rw [← e1]
      exact va_recv hC.kon.2.1 hP hq (WS_o hs)
  refine A_back (K1 := K1) (va_runV (As := As) (rest := rest) ⟨hC.1, hC.2.1, hC.2.2.1, hC.hown, hC.hts⟩ hc (cwV n hC.hts hG rfl rfl rfl ⟨rfl, l3, l4, l5⟩ ⟨Nat.le_refl _, by show 8 + (mL2 + 11) + 100 * d ≤ 100 * (d + 1); omega⟩) ⟨CT.blind, hrc, fun U hU hW => ⟨rfl, by rw [hU]; exact hP, by rw [hU]; exact hC.kon.go hW hS.2.1⟩⟩ rfl hn hL.1 hst (lv_room hr) hd ⟨Nat.zero_le _, Nat.zero_le _⟩) hS (fun v τ H1 l1 hk hP1 hS1 => ?_)
  exact k v τ hk p e s m args below meth c' H1 l1 la hC hP1 hS1 hL
/-- contracts with one answer -/
def R1 (r : Value) (τ : Sg) : Option Value → Sg → Prop := fun v τ' => v = some r ∧ τ' = τ
def R0 (τ : Sg) : Option Value → Sg → Prop := fun v τ' => v = none ∧ τ' = τ
theorem A_callS1 {idx n mL2 : Nat} {y : MethodName} {b : ByteArray} {ret2 : Option FieldType} {As rest : List Value} {r : Value} {τ : Sg} (hl : LkS own idx y n b mL2 ret2) (hc : CT G d y b mL2 ret2 As σ (R1 r τ)) (hd : decode cc pc = .ok (.invokestatic idx, 3)) (hst : st = As.reverse ++ rest) (hn : As.length = n) (hm : mL2 ≤ 80) (hr : (rest.map fun v => v.category).sum ≤ 8)
    (k : AW G (d + 1) own cc mL ret (pc + 3) ls (r :: rest) τ K) : AW G (d + 1) own cc mL ret pc ls st σ K :=
  A_callS hl hc hd hst hn hm hr (fun v τ' h => by obtain ⟨rfl, rfl⟩ := h; exact k)
theorem A_callN1 {idx n mL2 : Nat} {y : MethodName} {b : ByteArray} {ret2 : Option FieldType} {As rest : List Value} {r : Value} {τ : Sg} (hl : LkB y n b mL2 ret2) (hs : Cond.static y ∈ lw_tbl) (hN : (own, idx, y) ∈ nestR) (hc : CT G d y b mL2 ret2 As σ (R1 r τ)) (hd : decode cc pc = .ok (.invokestatic idx, 3)) (hst : st = As.reverse ++ rest) (hn : As.length = n) (hm : mL2 ≤ 80) (hr : (rest.map fun v => v.category).sum ≤ 8)
    (k : AW G (d + 1) own cc mL ret (pc + 3) ls (r :: rest) τ K) : AW G (d + 1) own cc mL ret pc ls st σ K :=
  A_callN hl hs hN hc hd hst hn hm hr (fun v τ' h => by obtain ⟨rfl, rfl⟩ := h; exact k)
theorem A_callV1 {idx n mL2 c ci : Nat} {fl : List (Nat × Nat)} {y : MethodName} {b : ByteArray} {ret2 : Option FieldType} {As rest : List Value} {r : Value} {τ : Sg} (hl : LkV own idx y n b mL2 ret2) (hs : shp c = .inl (ci, fl)) (hci : (vwCl[ci]?).map (fun q => q.1) = some y.cls) (hc : CT G d y b mL2 ret2 (.ref (gA G c) :: As) σ (R1 r τ)) (hd : decode cc pc = .ok (.invokevirtual idx, 3)) (hst : st = As.reverse ++ .ref (gA G c) :: rest) (hn : As.length = n) (hm : mL2 ≤ 80) (hr : (rest.map fun v => v.category).sum ≤ 8)
    (k : AW G (d + 1) own cc mL ret (pc + 3) ls (r :: rest) τ K) : AW G (d + 1) own cc mL ret pc ls st σ K :=
  A_callV hl hs hci hc hd hst hn hm hr (fun v τ' h => by obtain ⟨rfl, rfl⟩ := h; exact k)
theorem A_callV0 {idx n mL2 c ci : Nat} {fl : List (Nat × Nat)} {y : MethodName} {b : ByteArray} {ret2 : Option FieldType} {As rest : List Value} {τ : Sg} (hl : LkV own idx y n b mL2 ret2) (hs : shp c = .inl (ci, fl)) (hci : (vwCl[ci]?).map (fun q => q.1) = some y.cls) (hc : CT G d y b mL2 ret2 (.ref (gA G c) :: As) σ (R0 τ)) (hd : decode cc pc = .ok (.invokevirtual idx, 3)) (hst : st = As.reverse ++ .ref (gA G c) :: rest) (hn : As.length = n) (hm : mL2 ≤ 80) (hr : (rest.map fun v => v.category).sum ≤ 8)
    (k : AW G (d + 1) own cc mL ret (pc + 3) ls rest τ K) : AW G (d + 1) own cc mL ret pc ls st σ K :=
  A_callV hl hs hci hc hd hst hn hm hr (fun v τ' h => by obtain ⟨rfl, rfl⟩ := h; exact k)
end AWH
