/-! PART 54: the constructors -/
abbrev nI0 (Y : Nat → ClassId) (q N : Nat) : Nat × va_E := (q, .inl (Y 0, N, .inl (fun _ => 0)))
abbrev nL0 (Y : Nat → ClassId) (q N : Nat) : Nat × va_E := (q, .inl (Y 1, N, .inr (.inl (fun _ => 0))))
abbrev nB0 (Y : Nat → ClassId) (q N : Nat) : Nat × va_E := (q, .inl (Y 2, N, .inl (fun _ => 0)))
abbrev nO (q ci : Nat) (fs : List Value) : Nat × va_E := (q, .inr (ci, fs))
def townW (Y : Nat → ClassId) (q : Nat) (r : Nat → Nat) : va_W := [nO q 4 [.long 0, .int 0, .int 0, .int 4, .int 0, .int 0, .int 1, .ref (r 1), .ref (r 2), .ref (r 3), .ref (r 4), .ref (r 5), .ref (r 6), .ref (r 7)], nI0 Y (r 1) 9, nI0 Y (r 2) 9, nI0 Y (r 3) 9, nI0 Y (r 4) 9, nI0 Y (r 5) 5, nI0 Y (r 6) 5, nI0 Y (r 7) 5]
def shelfW (Y : Nat → ClassId) (q : Nat) (r : Nat → Nat) : va_W := [nO q 2 [.int (-1), .int 0, .ref (r 1)], nL0 Y (r 1) 160]
def sightW (Y : Nat → ClassId) (q : Nat) (r : Nat → Nat) : va_W := [nO q 3 [.int 0, .ref (r 1)], nL0 Y (r 1) 9]
def walkW (q : Nat) : va_W := [nO q 5 [.int (-1), .int (-1), .int (-1), .int 0, .int 0]]
def waysW (Y : Nat → ClassId) (q : Nat) (r : Nat → Nat) : va_W := [nO q 6 [.long 0, .ref (r 1)], nI0 Y (r 1) 49]
def movesW (Y : Nat → ClassId) (q : Nat) (r : Nat → Nat) : va_W := [nO q 0 [.int 0, .ref (r 1), .int 0, .int 0, .int 0], nI0 Y (r 1) 20]
def readerW (Y : Nat → ClassId) (q t : Nat) (r r2 : Nat → Nat) : va_W := [nO q 1 [.ref t, .int (-1), .ref (r2 1), .int 0, .int 0, .int 0]] ++ townW Y t r ++ [nI0 Y (r2 1) 160]
theorem N_eq {l : Launch} {D : va_G} {Y : Nat → ClassId} {own : String} {cc : ByteArray} {mL : Nat} {R : Room} {A : Nat → Prop} {mc ms : Nat} {K : va_W → Prop} {pc : Nat} {ls : List (Nat × Value)} {st : List Value} {ws ws2 : va_W} {k n k2 n2 : Nat} (h : ws = ws2) (hk : k = k2) (hn : n = n2) (kk : NW l D Y own cc mL R A mc ms K pc ls st ws2 k2 n2) : NW l D Y own cc mL R A mc ms K pc ls st ws k n := by
  subst h; subst hk; subst hn; exact kk
theorem dX1_init_0 : decode cX1_init 0 = .ok (.aload_n 0, 1) := by decide +kernel
theorem dX1_init_1 : decode cX1_init 1 = .ok (.invokespecial 3, 3) := by decide +kernel
theorem dX1_init_4 : decode cX1_init 4 = .ok (.aload_n 0, 1) := by decide +kernel
theorem dX1_init_5 : decode cX1_init 5 = .ok (.iconst 0, 1) := by decide +kernel
theorem dX1_init_6 : decode cX1_init 6 = .ok (.putfield 9, 3) := by decide +kernel
theorem dX1_init_9 : decode cX1_init 9 = .ok (.aload_n 0, 1) := by decide +kernel
theorem dX1_init_10 : decode cX1_init 10 = .ok (.bipush 20, 2) := by decide +kernel
theorem dX1_init_12 : decode cX1_init 12 = .ok (.newarray .int, 2) := by decide +kernel
theorem dX1_init_14 : decode cX1_init 14 = .ok (.putfield 15, 3) := by decide +kernel
theorem dX1_init_17 : decode cX1_init 17 = .ok (.aload_n 0, 1) := by decide +kernel
theorem dX1_init_18 : decode cX1_init 18 = .ok (.iconst 0, 1) := by decide +kernel
theorem dX1_init_19 : decode cX1_init 19 = .ok (.putfield 19, 3) := by decide +kernel
theorem dX1_init_22 : decode cX1_init 22 = .ok (.aload_n 0, 1) := by decide +kernel
theorem dX1_init_23 : decode cX1_init 23 = .ok (.iconst 0, 1) := by decide +kernel
theorem dX1_init_24 : decode cX1_init 24 = .ok (.putfield 22, 3) := by decide +kernel
theorem dX1_init_27 : decode cX1_init 27 = .ok (.aload_n 0, 1) := by decide +kernel
theorem dX1_init_28 : decode cX1_init 28 = .ok (.iconst 0, 1) := by decide +kernel
theorem dX1_init_29 : decode cX1_init 29 = .ok (.putfield 25, 3) := by decide +kernel
theorem dX1_init_32 : decode cX1_init 32 = .ok (.return_, 1) := by decide +kernel
set_option maxRecDepth 20000 in
theorem c_X1_init (l : Launch) (D : va_G) (Y : Nat → ClassId) (q : Nat) : CNt l D Y yX1_init cX1_init 1 ⟨1, 1, 20, 60⟩ 1 20 (q, .inr (0, [.int 0, .null, .int 0, .int 0, .int 0])) (fun w => ∃ r, w = movesW Y q r) := by
  refine CNt.of (by decide +kernel) rfl (by decide) (fun A => ?_)
  refine N_aload_n (pc := 0) rfl rfl dX1_init_0 ?_
  refine N_obj (pc := 1) (tb_m 176 (by decide +kernel)) (by decide) (by decide) dX1_init_1 ?_
  refine N_aload_n (pc := 4) rfl rfl dX1_init_4 ?_
  refine N_iconst (pc := 5) (v := 0) (by decide) dX1_init_5 ?_
  refine N_put (pc := 6) (q0 := 0) (ws2 := [(q, .inr (0, [.int (0), .null, .int 0, .int 0, .int 0]))]) fX1_9 wr_0_0 rfl rfl rfl (by simp) rfl dX1_init_6 ?_
  refine N_aload_n (pc := 9) rfl rfl dX1_init_9 ?_
  refine N_bipush (pc := 10) (v := 20) (by decide) dX1_init_10 ?_
  refine N_newa (pc := 12) (t0 := 0) (N' := 20) (a0 := (20, .inl (fun _ => 0))) .int (tb_m 85 (by decide +kernel)) rfl rfl (by decide) (fun _ => rfl) (by decide) (by decide) (by decide) (by decide) dX1_init_12 (fun a1 => ?_)
  refine N_eq (ws2 := [(q, .inr (0, [.int (0), .null, .int 0, .int 0, .int 0])), (a1, .inl (Y 0, 20, .inl (fun _ => 0)))]) (k2 := 1) (n2 := 20) rfl rfl rfl ?_
  refine N_putF (pc := 14) (ty := .array (.int)) (q0 := 0) (ws2 := [(q, .inr (0, [.int (0), .ref a1, .int 0, .int 0, .int 0])), (a1, .inl (Y 0, 20, .inl (fun _ => 0)))]) fX1_15 ⟨_, rfl, rfl, rfl, by decide +kernel⟩ rfl rfl rfl (by simp) rfl dX1_init_14 ?_
  refine N_aload_n (pc := 17) rfl rfl dX1_init_17 ?_
  refine N_iconst (pc := 18) (v := 0) (by decide) dX1_init_18 ?_
  refine N_put (pc := 19) (q0 := 0) (ws2 := [(q, .inr (0, [.int (0), .ref a1, .int (0), .int 0, .int 0])), (a1, .inl (Y 0, 20, .inl (fun _ => 0)))]) fX1_19 wr_0_2 rfl rfl rfl (by simp) rfl dX1_init_19 ?_
  refine N_aload_n (pc := 22) rfl rfl dX1_init_22 ?_
  refine N_iconst (pc := 23) (v := 0) (by decide) dX1_init_23 ?_
  refine N_put (pc := 24) (q0 := 0) (ws2 := [(q, .inr (0, [.int (0), .ref a1, .int (0), .int (0), .int 0])), (a1, .inl (Y 0, 20, .inl (fun _ => 0)))]) fX1_22 wr_0_3 rfl rfl rfl (by simp) rfl dX1_init_24 ?_
  refine N_aload_n (pc := 27) rfl rfl dX1_init_27 ?_
  refine N_iconst (pc := 28) (v := 0) (by decide) dX1_init_28 ?_
  refine N_put (pc := 29) (q0 := 0) (ws2 := [(q, .inr (0, [.int (0), .ref a1, .int (0), .int (0), .int (0)])), (a1, .inl (Y 0, 20, .inl (fun _ => 0)))]) fX1_25 wr_0_4 rfl rfl rfl (by simp) rfl dX1_init_29 ?_
  exact N_ret (pc := 32) rfl rfl (⟨(fun i => [0, a1].getD i 0), rfl⟩) dX1_init_32
theorem dX3_init_0 : decode cX3_init 0 = .ok (.aload_n 0, 1) := by decide +kernel
theorem dX3_init_1 : decode cX3_init 1 = .ok (.invokespecial 3, 3) := by decide +kernel
theorem dX3_init_4 : decode cX3_init 4 = .ok (.aload_n 0, 1) := by decide +kernel
theorem dX3_init_5 : decode cX3_init 5 = .ok (.iconst (-1), 1) := by decide +kernel
theorem dX3_init_6 : decode cX3_init 6 = .ok (.putfield 9, 3) := by decide +kernel
theorem dX3_init_9 : decode cX3_init 9 = .ok (.aload_n 0, 1) := by decide +kernel
theorem dX3_init_10 : decode cX3_init 10 = .ok (.iconst 0, 1) := by decide +kernel
theorem dX3_init_11 : decode cX3_init 11 = .ok (.putfield 15, 3) := by decide +kernel
theorem dX3_init_14 : decode cX3_init 14 = .ok (.aload_n 0, 1) := by decide +kernel
theorem dX3_init_15 : decode cX3_init 15 = .ok (.sipush 160, 3) := by decide +kernel
theorem dX3_init_18 : decode cX3_init 18 = .ok (.newarray .long, 2) := by decide +kernel
theorem dX3_init_20 : decode cX3_init 20 = .ok (.putfield 18, 3) := by decide +kernel
theorem dX3_init_23 : decode cX3_init 23 = .ok (.return_, 1) := by decide +kernel
set_option maxRecDepth 20000 in
theorem c_X3_init (l : Launch) (D : va_G) (Y : Nat → ClassId) (q : Nat) : CNt l D Y yX3_init cX3_init 1 ⟨1, 1, 160, 60⟩ 1 160 (q, .inr (2, [.int 0, .int 0, .null])) (fun w => ∃ r, w = shelfW Y q r) := by
  refine CNt.of (by decide +kernel) rfl (by decide) (fun A => ?_)
  refine N_aload_n (pc := 0) rfl rfl dX3_init_0 ?_
  refine N_obj (pc := 1) (tb_m 198 (by decide +kernel)) (by decide) (by decide) dX3_init_1 ?_
  refine N_aload_n (pc := 4) rfl rfl dX3_init_4 ?_
  refine N_iconst (pc := 5) (v := -1) (by decide) dX3_init_5 ?_
  refine N_put (pc := 6) (q0 := 0) (ws2 := [(q, .inr (2, [.int (-1), .int 0, .null]))]) fX3_9 wr_2_0 rfl rfl rfl (by simp) rfl dX3_init_6 ?_
  refine N_aload_n (pc := 9) rfl rfl dX3_init_9 ?_
  refine N_iconst (pc := 10) (v := 0) (by decide) dX3_init_10 ?_
  refine N_put (pc := 11) (q0 := 0) (ws2 := [(q, .inr (2, [.int (-1), .int (0), .null]))]) fX3_15 wr_2_1 rfl rfl rfl (by simp) rfl dX3_init_11 ?_
  refine N_aload_n (pc := 14) rfl rfl dX3_init_14 ?_
  refine N_sipush (pc := 15) (v := 160) (by decide) dX3_init_15 ?_
  refine N_newa (pc := 18) (t0 := 1) (N' := 160) (a0 := (160, .inr (.inl (fun _ => 0)))) .long (tb_m 130 (by decide +kernel)) rfl rfl (by decide) (fun _ => rfl) (by decide) (by decide) (by decide) (by decide) dX3_init_18 (fun a1 => ?_)
  refine N_eq (ws2 := [(q, .inr (2, [.int (-1), .int (0), .null])), (a1, .inl (Y 1, 160, .inr (.inl (fun _ => 0))))]) (k2 := 1) (n2 := 160) rfl rfl rfl ?_
  refine N_putF (pc := 20) (ty := .array (.long)) (q0 := 0) (ws2 := [(q, .inr (2, [.int (-1), .int (0), .ref a1])), (a1, .inl (Y 1, 160, .inr (.inl (fun _ => 0))))]) fX3_18 ⟨_, rfl, rfl, rfl, by decide +kernel⟩ rfl rfl rfl (by simp) rfl dX3_init_20 ?_
  exact N_ret (pc := 23) rfl rfl (⟨(fun i => [0, a1].getD i 0), rfl⟩) dX3_init_23
theorem dX4_init_0 : decode cX4_init 0 = .ok (.aload_n 0, 1) := by decide +kernel
theorem dX4_init_1 : decode cX4_init 1 = .ok (.invokespecial 3, 3) := by decide +kernel
theorem dX4_init_4 : decode cX4_init 4 = .ok (.aload_n 0, 1) := by decide +kernel
theorem dX4_init_5 : decode cX4_init 5 = .ok (.iconst 0, 1) := by decide +kernel
theorem dX4_init_6 : decode cX4_init 6 = .ok (.putfield 9, 3) := by decide +kernel
theorem dX4_init_9 : decode cX4_init 9 = .ok (.aload_n 0, 1) := by decide +kernel
theorem dX4_init_10 : decode cX4_init 10 = .ok (.bipush 9, 2) := by decide +kernel
theorem dX4_init_12 : decode cX4_init 12 = .ok (.newarray .long, 2) := by decide +kernel
theorem dX4_init_14 : decode cX4_init 14 = .ok (.putfield 15, 3) := by decide +kernel
theorem dX4_init_17 : decode cX4_init 17 = .ok (.return_, 1) := by decide +kernel
set_option maxRecDepth 20000 in
theorem c_X4_init (l : Launch) (D : va_G) (Y : Nat → ClassId) (q : Nat) : CNt l D Y yX4_init cX4_init 1 ⟨1, 1, 9, 60⟩ 1 9 (q, .inr (3, [.int 0, .null])) (fun w => ∃ r, w = sightW Y q r) := by
  refine CNt.of (by decide +kernel) rfl (by decide) (fun A => ?_)
  refine N_aload_n (pc := 0) rfl rfl dX4_init_0 ?_
  refine N_obj (pc := 1) (tb_m 122 (by decide +kernel)) (by decide) (by decide) dX4_init_1 ?_
  refine N_aload_n (pc := 4) rfl rfl dX4_init_4 ?_
  refine N_iconst (pc := 5) (v := 0) (by decide) dX4_init_5 ?_
  refine N_put (pc := 6) (q0 := 0) (ws2 := [(q, .inr (3, [.int (0), .null]))]) fX4_9 wr_3_0 rfl rfl rfl (by simp) rfl dX4_init_6 ?_
  refine N_aload_n (pc := 9) rfl rfl dX4_init_9 ?_
  refine N_bipush (pc := 10) (v := 9) (by decide) dX4_init_10 ?_
  refine N_newa (pc := 12) (t0 := 1) (N' := 9) (a0 := (9, .inr (.inl (fun _ => 0)))) .long (tb_m 130 (by decide +kernel)) rfl rfl (by decide) (fun _ => rfl) (by decide) (by decide) (by decide) (by decide) dX4_init_12 (fun a1 => ?_)
  refine N_eq (ws2 := [(q, .inr (3, [.int (0), .null])), (a1, .inl (Y 1, 9, .inr (.inl (fun _ => 0))))]) (k2 := 1) (n2 := 9) rfl rfl rfl ?_
  refine N_putF (pc := 14) (ty := .array (.long)) (q0 := 0) (ws2 := [(q, .inr (3, [.int (0), .ref a1])), (a1, .inl (Y 1, 9, .inr (.inl (fun _ => 0))))]) fX4_15 ⟨_, rfl, rfl, rfl, by decide +kernel⟩ rfl rfl rfl (by simp) rfl dX4_init_14 ?_
  exact N_ret (pc := 17) rfl rfl (⟨(fun i => [0, a1].getD i 0), rfl⟩) dX4_init_17
theorem dX5_init_0 : decode cX5_init 0 = .ok (.aload_n 0, 1) := by decide +kernel
theorem dX5_init_1 : decode cX5_init 1 = .ok (.invokespecial 3, 3) := by decide +kernel
theorem dX5_init_4 : decode cX5_init 4 = .ok (.aload_n 0, 1) := by decide +kernel
theorem dX5_init_5 : decode cX5_init 5 = .ok (.lconst 0, 1) := by decide +kernel
theorem dX5_init_6 : decode cX5_init 6 = .ok (.putfield 9, 3) := by decide +kernel
theorem dX5_init_9 : decode cX5_init 9 = .ok (.aload_n 0, 1) := by decide +kernel
theorem dX5_init_10 : decode cX5_init 10 = .ok (.iconst 0, 1) := by decide +kernel
theorem dX5_init_11 : decode cX5_init 11 = .ok (.putfield 15, 3) := by decide +kernel
theorem dX5_init_14 : decode cX5_init 14 = .ok (.aload_n 0, 1) := by decide +kernel
theorem dX5_init_15 : decode cX5_init 15 = .ok (.iconst 0, 1) := by decide +kernel
theorem dX5_init_16 : decode cX5_init 16 = .ok (.putfield 19, 3) := by decide +kernel
theorem dX5_init_19 : decode cX5_init 19 = .ok (.aload_n 0, 1) := by decide +kernel
theorem dX5_init_20 : decode cX5_init 20 = .ok (.iconst 4, 1) := by decide +kernel
theorem dX5_init_21 : decode cX5_init 21 = .ok (.putfield 22, 3) := by decide +kernel
theorem dX5_init_24 : decode cX5_init 24 = .ok (.aload_n 0, 1) := by decide +kernel
theorem dX5_init_25 : decode cX5_init 25 = .ok (.iconst 0, 1) := by decide +kernel
theorem dX5_init_26 : decode cX5_init 26 = .ok (.putfield 25, 3) := by decide +kernel
theorem dX5_init_29 : decode cX5_init 29 = .ok (.aload_n 0, 1) := by decide +kernel
theorem dX5_init_30 : decode cX5_init 30 = .ok (.iconst 0, 1) := by decide +kernel
theorem dX5_init_31 : decode cX5_init 31 = .ok (.putfield 28, 3) := by decide +kernel
theorem dX5_init_34 : decode cX5_init 34 = .ok (.aload_n 0, 1) := by decide +kernel
theorem dX5_init_35 : decode cX5_init 35 = .ok (.iconst 1, 1) := by decide +kernel
theorem dX5_init_36 : decode cX5_init 36 = .ok (.putfield 31, 3) := by decide +kernel
theorem dX5_init_39 : decode cX5_init 39 = .ok (.aload_n 0, 1) := by decide +kernel
theorem dX5_init_40 : decode cX5_init 40 = .ok (.bipush 9, 2) := by decide +kernel
theorem dX5_init_42 : decode cX5_init 42 = .ok (.newarray .int, 2) := by decide +kernel
theorem dX5_init_44 : decode cX5_init 44 = .ok (.putfield 34, 3) := by decide +kernel
theorem dX5_init_47 : decode cX5_init 47 = .ok (.aload_n 0, 1) := by decide +kernel
theorem dX5_init_48 : decode cX5_init 48 = .ok (.bipush 9, 2) := by decide +kernel
theorem dX5_init_50 : decode cX5_init 50 = .ok (.newarray .int, 2) := by decide +kernel
theorem dX5_init_52 : decode cX5_init 52 = .ok (.putfield 38, 3) := by decide +kernel
theorem dX5_init_55 : decode cX5_init 55 = .ok (.aload_n 0, 1) := by decide +kernel
theorem dX5_init_56 : decode cX5_init 56 = .ok (.bipush 9, 2) := by decide +kernel
theorem dX5_init_58 : decode cX5_init 58 = .ok (.newarray .int, 2) := by decide +kernel
theorem dX5_init_60 : decode cX5_init 60 = .ok (.putfield 41, 3) := by decide +kernel
theorem dX5_init_63 : decode cX5_init 63 = .ok (.aload_n 0, 1) := by decide +kernel
theorem dX5_init_64 : decode cX5_init 64 = .ok (.bipush 9, 2) := by decide +kernel
theorem dX5_init_66 : decode cX5_init 66 = .ok (.newarray .int, 2) := by decide +kernel
theorem dX5_init_68 : decode cX5_init 68 = .ok (.putfield 44, 3) := by decide +kernel
theorem dX5_init_71 : decode cX5_init 71 = .ok (.aload_n 0, 1) := by decide +kernel
theorem dX5_init_72 : decode cX5_init 72 = .ok (.iconst 5, 1) := by decide +kernel
theorem dX5_init_73 : decode cX5_init 73 = .ok (.newarray .int, 2) := by decide +kernel
theorem dX5_init_75 : decode cX5_init 75 = .ok (.putfield 47, 3) := by decide +kernel
theorem dX5_init_78 : decode cX5_init 78 = .ok (.aload_n 0, 1) := by decide +kernel
theorem dX5_init_79 : decode cX5_init 79 = .ok (.iconst 5, 1) := by decide +kernel
theorem dX5_init_80 : decode cX5_init 80 = .ok (.newarray .int, 2) := by decide +kernel
theorem dX5_init_82 : decode cX5_init 82 = .ok (.putfield 50, 3) := by decide +kernel
theorem dX5_init_85 : decode cX5_init 85 = .ok (.aload_n 0, 1) := by decide +kernel
theorem dX5_init_86 : decode cX5_init 86 = .ok (.iconst 5, 1) := by decide +kernel
theorem dX5_init_87 : decode cX5_init 87 = .ok (.newarray .int, 2) := by decide +kernel
theorem dX5_init_89 : decode cX5_init 89 = .ok (.putfield 53, 3) := by decide +kernel
theorem dX5_init_92 : decode cX5_init 92 = .ok (.return_, 1) := by decide +kernel
set_option maxRecDepth 20000 in
theorem c_X5_init (l : Launch) (D : va_G) (Y : Nat → ClassId) (q : Nat) : CNt l D Y yX5_init cX5_init 1 ⟨1, 7, 51, 60⟩ 7 51 (q, .inr (4, [.long 0, .int 0, .int 0, .int 0, .int 0, .int 0, .int 0, .null, .null, .null, .null, .null, .null, .null])) (fun w => ∃ r, w = townW Y q r) := by
  refine CNt.of (by decide +kernel) rfl (by decide) (fun A => ?_)
  refine N_aload_n (pc := 0) rfl rfl dX5_init_0 ?_
  refine N_obj (pc := 1) (tb_m 32 (by decide +kernel)) (by decide) (by decide) dX5_init_1 ?_
  refine N_aload_n (pc := 4) rfl rfl dX5_init_4 ?_
  refine N_lconst (pc := 5) (v := 0) (by decide) dX5_init_5 ?_
  refine N_put (pc := 6) (q0 := 0) (ws2 := [(q, .inr (4, [.long 0, .int 0, .int 0, .int 0, .int 0, .int 0, .int 0, .null, .null, .null, .null, .null, .null, .null]))]) fX5_9 wr_4_0 rfl rfl rfl (by simp) rfl dX5_init_6 ?_
  refine N_aload_n (pc := 9) rfl rfl dX5_init_9 ?_
  refine N_iconst (pc := 10) (v := 0) (by decide) dX5_init_10 ?_
  refine N_put (pc := 11) (q0 := 0) (ws2 := [(q, .inr (4, [.long 0, .int (0), .int 0, .int 0, .int 0, .int 0, .int 0, .null, .null, .null, .null, .null, .null, .null]))]) fX5_15 wr_4_1 rfl rfl rfl (by simp) rfl dX5_init_11 ?_
  refine N_aload_n (pc := 14) rfl rfl dX5_init_14 ?_
  refine N_iconst (pc := 15) (v := 0) (by decide) dX5_init_15 ?_
  refine N_put (pc := 16) (q0 := 0) (ws2 := [(q, .inr (4, [.long 0, .int (0), .int (0), .int 0, .int 0, .int 0, .int 0, .null, .null, .null, .null, .null, .null, .null]))]) fX5_19 wr_4_2 rfl rfl rfl (by simp) rfl dX5_init_16 ?_
  refine N_aload_n (pc := 19) rfl rfl dX5_init_19 ?_
  refine N_iconst (pc := 20) (v := 4) (by decide) dX5_init_20 ?_
  refine N_put (pc := 21) (q0 := 0) (ws2 := [(q, .inr (4, [.long 0, .int (0), .int (0), .int (4), .int 0, .int 0, .int 0, .null, .null, .null, .null, .null, .null, .null]))]) fX5_22 wr_4_3 rfl rfl rfl (by simp) rfl dX5_init_21 ?_
  refine N_aload_n (pc := 24) rfl rfl dX5_init_24 ?_
  refine N_iconst (pc := 25) (v := 0) (by decide) dX5_init_25 ?_
  refine N_put (pc := 26) (q0 := 0) (ws2 := [(q, .inr (4, [.long 0, .int (0), .int (0), .int (4), .int (0), .int 0, .int 0, .null, .null, .null, .null, .null, .null, .null]))]) fX5_25 wr_4_4 rfl rfl rfl (by simp) rfl dX5_init_26 ?_
  refine N_aload_n (pc := 29) rfl rfl dX5_init_29 ?_
  refine N_iconst (pc := 30) (v := 0) (by decide) dX5_init_30 ?_
  refine N_put (pc := 31) (q0 := 0) (ws2 := [(q, .inr (4, [.long 0, .int (0), .int (0), .int (4), .int (0), .int (0), .int 0, .null, .null, .null, .null, .null, .null, .null]))]) fX5_28 wr_4_5 rfl rfl rfl (by simp) rfl dX5_init_31 ?_
  refine N_aload_n (pc := 34) rfl rfl dX5_init_34 ?_
  refine N_iconst (pc := 35) (v := 1) (by decide) dX5_init_35 ?_
  refine N_put (pc := 36) (q0 := 0) (ws2 := [(q, .inr (4, [.long 0, .int (0), .int (0), .int (4), .int (0), .int (0), .int (1), .null, .null, .null, .null, .null, .null, .null]))]) fX5_31 wr_4_6 rfl rfl rfl (by simp) rfl dX5_init_36 ?_
  refine N_aload_n (pc := 39) rfl rfl dX5_init_39 ?_
  refine N_bipush (pc := 40) (v := 9) (by decide) dX5_init_40 ?_
  refine N_newa (pc := 42) (t0 := 0) (N' := 9) (a0 := (9, .inl (fun _ => 0))) .int (tb_m 85 (by decide +kernel)) rfl rfl (by decide) (fun _ => rfl) (by decide) (by decide) (by decide) (by decide) dX5_init_42 (fun a1 => ?_)
  refine N_eq (ws2 := [(q, .inr (4, [.long 0, .int (0), .int (0), .int (4), .int (0), .int (0), .int (1), .null, .null, .null, .null, .null, .null, .null])), (a1, .inl (Y 0, 9, .inl (fun _ => 0)))]) (k2 := 1) (n2 := 9) rfl rfl rfl ?_
  refine N_putF (pc := 44) (ty := .array (.int)) (q0 := 0) (ws2 := [(q, .inr (4, [.long 0, .int (0), .int (0), .int (4), .int (0), .int (0), .int (1), .ref a1, .null, .null, .null, .null, .null, .null])), (a1, .inl (Y 0, 9, .inl (fun _ => 0)))]) fX5_34 ⟨_, rfl, rfl, rfl, by decide +kernel⟩ rfl rfl rfl (by simp) rfl dX5_init_44 ?_
  refine N_aload_n (pc := 47) rfl rfl dX5_init_47 ?_
  refine N_bipush (pc := 48) (v := 9) (by decide) dX5_init_48 ?_
  refine N_newa (pc := 50) (t0 := 0) (N' := 9) (a0 := (9, .inl (fun _ => 0))) .int (tb_m 85 (by decide +kernel)) rfl rfl (by decide) (fun _ => rfl) (by decide) (by decide) (by decide) (by decide) dX5_init_50 (fun a2 => ?_)
  refine N_eq (ws2 := [(q, .inr (4, [.long 0, .int (0), .int (0), .int (4), .int (0), .int (0), .int (1), .ref a1, .null, .null, .null, .null, .null, .null])), (a1, .inl (Y 0, 9, .inl (fun _ => 0))), (a2, .inl (Y 0, 9, .inl (fun _ => 0)))]) (k2 := 2) (n2 := 18) rfl rfl rfl ?_
  refine N_putF (pc := 52) (ty := .array (.int)) (q0 := 0) (ws2 := [(q, .inr (4, [.long 0, .int (0), .int (0), .int (4), .int (0), .int (0), .int (1), .ref a1, .ref a2, .null, .null, .null, .null, .null])), (a1, .inl (Y 0, 9, .inl (fun _ => 0))), (a2, .inl (Y 0, 9, .inl (fun _ => 0)))]) fX5_38 ⟨_, rfl, rfl, rfl, by decide +kernel⟩ rfl rfl rfl (by simp) rfl dX5_init_52 ?_
  refine N_aload_n (pc := 55) rfl rfl dX5_init_55 ?_
  refine N_bipush (pc := 56) (v := 9) (by decide) dX5_init_56 ?_
  refine N_newa (pc := 58) (t0 := 0) (N' := 9) (a0 := (9, .inl (fun _ => 0))) .int (tb_m 85 (by decide +kernel)) rfl rfl (by decide) (fun _ => rfl) (by decide) (by decide) (by decide) (by decide) dX5_init_58 (fun a3 => ?_)
  refine N_eq (ws2 := [(q, .inr (4, [.long 0, .int (0), .int (0), .int (4), .int (0), .int (0), .int (1), .ref a1, .ref a2, .null, .null, .null, .null, .null])), (a1, .inl (Y 0, 9, .inl (fun _ => 0))), (a2, .inl (Y 0, 9, .inl (fun _ => 0))), (a3, .inl (Y 0, 9, .inl (fun _ => 0)))]) (k2 := 3) (n2 := 27) rfl rfl rfl ?_
  refine N_putF (pc := 60) (ty := .array (.int)) (q0 := 0) (ws2 := [(q, .inr (4, [.long 0, .int (0), .int (0), .int (4), .int (0), .int (0), .int (1), .ref a1, .ref a2, .ref a3, .null, .null, .null, .null])), (a1, .inl (Y 0, 9, .inl (fun _ => 0))), (a2, .inl (Y 0, 9, .inl (fun _ => 0))), (a3, .inl (Y 0, 9, .inl (fun _ => 0)))]) fX5_41 ⟨_, rfl, rfl, rfl, by decide +kernel⟩ rfl rfl rfl (by simp) rfl dX5_init_60 ?_
  refine N_aload_n (pc := 63) rfl rfl dX5_init_63 ?_
  refine N_bipush (pc := 64) (v := 9) (by decide) dX5_init_64 ?_
  refine N_newa (pc := 66) (t0 := 0) (N' := 9) (a0 := (9, .inl (fun _ => 0))) .int (tb_m 85 (by decide +kernel)) rfl rfl (by decide) (fun _ => rfl) (by decide) (by decide) (by decide) (by decide) dX5_init_66 (fun a4 => ?_)
  refine N_eq (ws2 := [(q, .inr (4, [.long 0, .int (0), .int (0), .int (4), .int (0), .int (0), .int (1), .ref a1, .ref a2, .ref a3, .null, .null, .null, .null])), (a1, .inl (Y 0, 9, .inl (fun _ => 0))), (a2, .inl (Y 0, 9, .inl (fun _ => 0))), (a3, .inl (Y 0, 9, .inl (fun _ => 0))), (a4, .inl (Y 0, 9, .inl (fun _ => 0)))]) (k2 := 4) (n2 := 36) rfl rfl rfl ?_
  refine N_putF (pc := 68) (ty := .array (.int)) (q0 := 0) (ws2 := [(q, .inr (4, [.long 0, .int (0), .int (0), .int (4), .int (0), .int (0), .int (1), .ref a1, .ref a2, .ref a3, .ref a4, .null, .null, .null])), (a1, .inl (Y 0, 9, .inl (fun _ => 0))), (a2, .inl (Y 0, 9, .inl (fun _ => 0))), (a3, .inl (Y 0, 9, .inl (fun _ => 0))), (a4, .inl (Y 0, 9, .inl (fun _ => 0)))]) fX5_44 ⟨_, rfl, rfl, rfl, by decide +kernel⟩ rfl rfl rfl (by simp) rfl dX5_init_68 ?_
  refine N_aload_n (pc := 71) rfl rfl dX5_init_71 ?_
  refine N_iconst (pc := 72) (v := 5) (by decide) dX5_init_72 ?_
  refine N_newa (pc := 73) (t0 := 0) (N' := 5) (a0 := (5, .inl (fun _ => 0))) .int (tb_m 85 (by decide +kernel)) rfl rfl (by decide) (fun _ => rfl) (by decide) (by decide) (by decide) (by decide) dX5_init_73 (fun a5 => ?_)
  refine N_eq (ws2 := [(q, .inr (4, [.long 0, .int (0), .int (0), .int (4), .int (0), .int (0), .int (1), .ref a1, .ref a2, .ref a3, .ref a4, .null, .null, .null])), (a1, .inl (Y 0, 9, .inl (fun _ => 0))), (a2, .inl (Y 0, 9, .inl (fun _ => 0))), (a3, .inl (Y 0, 9, .inl (fun _ => 0))), (a4, .inl (Y 0, 9, .inl (fun _ => 0))), (a5, .inl (Y 0, 5, .inl (fun _ => 0)))]) (k2 := 5) (n2 := 41) rfl rfl rfl ?_
  refine N_putF (pc := 75) (ty := .array (.int)) (q0 := 0) (ws2 := [(q, .inr (4, [.long 0, .int (0), .int (0), .int (4), .int (0), .int (0), .int (1), .ref a1, .ref a2, .ref a3, .ref a4, .ref a5, .null, .null])), (a1, .inl (Y 0, 9, .inl (fun _ => 0))), (a2, .inl (Y 0, 9, .inl (fun _ => 0))), (a3, .inl (Y 0, 9, .inl (fun _ => 0))), (a4, .inl (Y 0, 9, .inl (fun _ => 0))), (a5, .inl (Y 0, 5, .inl (fun _ => 0)))]) fX5_47 ⟨_, rfl, rfl, rfl, by decide +kernel⟩ rfl rfl rfl (by simp) rfl dX5_init_75 ?_
  refine N_aload_n (pc := 78) rfl rfl dX5_init_78 ?_
  refine N_iconst (pc := 79) (v := 5) (by decide) dX5_init_79 ?_
  refine N_newa (pc := 80) (t0 := 0) (N' := 5) (a0 := (5, .inl (fun _ => 0))) .int (tb_m 85 (by decide +kernel)) rfl rfl (by decide) (fun _ => rfl) (by decide) (by decide) (by decide) (by decide) dX5_init_80 (fun a6 => ?_)
  refine N_eq (ws2 := [(q, .inr (4, [.long 0, .int (0), .int (0), .int (4), .int (0), .int (0), .int (1), .ref a1, .ref a2, .ref a3, .ref a4, .ref a5, .null, .null])), (a1, .inl (Y 0, 9, .inl (fun _ => 0))), (a2, .inl (Y 0, 9, .inl (fun _ => 0))), (a3, .inl (Y 0, 9, .inl (fun _ => 0))), (a4, .inl (Y 0, 9, .inl (fun _ => 0))), (a5, .inl (Y 0, 5, .inl (fun _ => 0))), (a6, .inl (Y 0, 5, .inl (fun _ => 0)))]) (k2 := 6) (n2 := 46) rfl rfl rfl ?_
  refine N_putF (pc := 82) (ty := .array (.int)) (q0 := 0) (ws2 := [(q, .inr (4, [.long 0, .int (0), .int (0), .int (4), .int (0), .int (0), .int (1), .ref a1, .ref a2, .ref a3, .ref a4, .ref a5, .ref a6, .null])), (a1, .inl (Y 0, 9, .inl (fun _ => 0))), (a2, .inl (Y 0, 9, .inl (fun _ => 0))), (a3, .inl (Y 0, 9, .inl (fun _ => 0))), (a4, .inl (Y 0, 9, .inl (fun _ => 0))), (a5, .inl (Y 0, 5, .inl (fun _ => 0))), (a6, .inl (Y 0, 5, .inl (fun _ => 0)))]) fX5_50 ⟨_, rfl, rfl, rfl, by decide +kernel⟩ rfl rfl rfl (by simp) rfl dX5_init_82 ?_
  refine N_aload_n (pc := 85) rfl rfl dX5_init_85 ?_
  refine N_iconst (pc := 86) (v := 5) (by decide) dX5_init_86 ?_
  refine N_newa (pc := 87) (t0 := 0) (N' := 5) (a0 := (5, .inl (fun _ => 0))) .int (tb_m 85 (by decide +kernel)) rfl rfl (by decide) (fun _ => rfl) (by decide) (by decide) (by decide) (by decide) dX5_init_87 (fun a7 => ?_)
  refine N_eq (ws2 := [(q, .inr (4, [.long 0, .int (0), .int (0), .int (4), .int (0), .int (0), .int (1), .ref a1, .ref a2, .ref a3, .ref a4, .ref a5, .ref a6, .null])), (a1, .inl (Y 0, 9, .inl (fun _ => 0))), (a2, .inl (Y 0, 9, .inl (fun _ => 0))), (a3, .inl (Y 0, 9, .inl (fun _ => 0))), (a4, .inl (Y 0, 9, .inl (fun _ => 0))), (a5, .inl (Y 0, 5, .inl (fun _ => 0))), (a6, .inl (Y 0, 5, .inl (fun _ => 0))), (a7, .inl (Y 0, 5, .inl (fun _ => 0)))]) (k2 := 7) (n2 := 51) rfl rfl rfl ?_
  refine N_putF (pc := 89) (ty := .array (.int)) (q0 := 0) (ws2 := [(q, .inr (4, [.long 0, .int (0), .int (0), .int (4), .int (0), .int (0), .int (1), .ref a1, .ref a2, .ref a3, .ref a4, .ref a5, .ref a6, .ref a7])), (a1, .inl (Y 0, 9, .inl (fun _ => 0))), (a2, .inl (Y 0, 9, .inl (fun _ => 0))), (a3, .inl (Y 0, 9, .inl (fun _ => 0))), (a4, .inl (Y 0, 9, .inl (fun _ => 0))), (a5, .inl (Y 0, 5, .inl (fun _ => 0))), (a6, .inl (Y 0, 5, .inl (fun _ => 0))), (a7, .inl (Y 0, 5, .inl (fun _ => 0)))]) fX5_53 ⟨_, rfl, rfl, rfl, by decide +kernel⟩ rfl rfl rfl (by simp) rfl dX5_init_89 ?_
  exact N_ret (pc := 92) rfl rfl (⟨(fun i => [0, a1, a2, a3, a4, a5, a6, a7].getD i 0), rfl⟩) dX5_init_92
theorem dX6_init_0 : decode cX6_init 0 = .ok (.aload_n 0, 1) := by decide +kernel
theorem dX6_init_1 : decode cX6_init 1 = .ok (.invokespecial 3, 3) := by decide +kernel
theorem dX6_init_4 : decode cX6_init 4 = .ok (.aload_n 0, 1) := by decide +kernel
theorem dX6_init_5 : decode cX6_init 5 = .ok (.iconst (-1), 1) := by decide +kernel
theorem dX6_init_6 : decode cX6_init 6 = .ok (.putfield 9, 3) := by decide +kernel
theorem dX6_init_9 : decode cX6_init 9 = .ok (.aload_n 0, 1) := by decide +kernel
theorem dX6_init_10 : decode cX6_init 10 = .ok (.iconst (-1), 1) := by decide +kernel
theorem dX6_init_11 : decode cX6_init 11 = .ok (.putfield 15, 3) := by decide +kernel
theorem dX6_init_14 : decode cX6_init 14 = .ok (.aload_n 0, 1) := by decide +kernel
theorem dX6_init_15 : decode cX6_init 15 = .ok (.iconst (-1), 1) := by decide +kernel
theorem dX6_init_16 : decode cX6_init 16 = .ok (.putfield 18, 3) := by decide +kernel
theorem dX6_init_19 : decode cX6_init 19 = .ok (.aload_n 0, 1) := by decide +kernel
theorem dX6_init_20 : decode cX6_init 20 = .ok (.iconst 0, 1) := by decide +kernel
theorem dX6_init_21 : decode cX6_init 21 = .ok (.putfield 21, 3) := by decide +kernel
theorem dX6_init_24 : decode cX6_init 24 = .ok (.aload_n 0, 1) := by decide +kernel
theorem dX6_init_25 : decode cX6_init 25 = .ok (.iconst 0, 1) := by decide +kernel
theorem dX6_init_26 : decode cX6_init 26 = .ok (.putfield 24, 3) := by decide +kernel
theorem dX6_init_29 : decode cX6_init 29 = .ok (.return_, 1) := by decide +kernel
set_option maxRecDepth 20000 in
theorem c_X6_init (l : Launch) (D : va_G) (Y : Nat → ClassId) (q : Nat) : CNt l D Y yX6_init cX6_init 1 ⟨1, 0, 0, 60⟩ 0 0 (q, .inr (5, [.int 0, .int 0, .int 0, .int 0, .int 0])) (fun w => w = walkW q) := by
  refine CNt.of (by decide +kernel) rfl (by decide) (fun A => ?_)
  refine N_aload_n (pc := 0) rfl rfl dX6_init_0 ?_
  refine N_obj (pc := 1) (tb_m 136 (by decide +kernel)) (by decide) (by decide) dX6_init_1 ?_
  refine N_aload_n (pc := 4) rfl rfl dX6_init_4 ?_
  refine N_iconst (pc := 5) (v := -1) (by decide) dX6_init_5 ?_
  refine N_put (pc := 6) (q0 := 0) (ws2 := [(q, .inr (5, [.int (-1), .int 0, .int 0, .int 0, .int 0]))]) fX6_9 wr_5_0 rfl rfl rfl (by simp) rfl dX6_init_6 ?_
  refine N_aload_n (pc := 9) rfl rfl dX6_init_9 ?_
  refine N_iconst (pc := 10) (v := -1) (by decide) dX6_init_10 ?_
  refine N_put (pc := 11) (q0 := 0) (ws2 := [(q, .inr (5, [.int (-1), .int (-1), .int 0, .int 0, .int 0]))]) fX6_15 wr_5_1 rfl rfl rfl (by simp) rfl dX6_init_11 ?_
  refine N_aload_n (pc := 14) rfl rfl dX6_init_14 ?_
  refine N_iconst (pc := 15) (v := -1) (by decide) dX6_init_15 ?_
  refine N_put (pc := 16) (q0 := 0) (ws2 := [(q, .inr (5, [.int (-1), .int (-1), .int (-1), .int 0, .int 0]))]) fX6_18 wr_5_2 rfl rfl rfl (by simp) rfl dX6_init_16 ?_
  refine N_aload_n (pc := 19) rfl rfl dX6_init_19 ?_
  refine N_iconst (pc := 20) (v := 0) (by decide) dX6_init_20 ?_
  refine N_put (pc := 21) (q0 := 0) (ws2 := [(q, .inr (5, [.int (-1), .int (-1), .int (-1), .int (0), .int 0]))]) fX6_21 wr_5_3 rfl rfl rfl (by simp) rfl dX6_init_21 ?_
  refine N_aload_n (pc := 24) rfl rfl dX6_init_24 ?_
  refine N_iconst (pc := 25) (v := 0) (by decide) dX6_init_25 ?_
  refine N_put (pc := 26) (q0 := 0) (ws2 := [(q, .inr (5, [.int (-1), .int (-1), .int (-1), .int (0), .int (0)]))]) fX6_24 wr_5_4 rfl rfl rfl (by simp) rfl dX6_init_26 ?_
  exact N_ret (pc := 29) rfl rfl (rfl) dX6_init_29
theorem dX7_init_0 : decode cX7_init 0 = .ok (.aload_n 0, 1) := by decide +kernel
theorem dX7_init_1 : decode cX7_init 1 = .ok (.invokespecial 3, 3) := by decide +kernel
theorem dX7_init_4 : decode cX7_init 4 = .ok (.aload_n 0, 1) := by decide +kernel
theorem dX7_init_5 : decode cX7_init 5 = .ok (.lconst 0, 1) := by decide +kernel
theorem dX7_init_6 : decode cX7_init 6 = .ok (.putfield 9, 3) := by decide +kernel
theorem dX7_init_9 : decode cX7_init 9 = .ok (.aload_n 0, 1) := by decide +kernel
theorem dX7_init_10 : decode cX7_init 10 = .ok (.bipush 49, 2) := by decide +kernel
theorem dX7_init_12 : decode cX7_init 12 = .ok (.newarray .int, 2) := by decide +kernel
theorem dX7_init_14 : decode cX7_init 14 = .ok (.putfield 15, 3) := by decide +kernel
theorem dX7_init_17 : decode cX7_init 17 = .ok (.return_, 1) := by decide +kernel
set_option maxRecDepth 20000 in
theorem c_X7_init (l : Launch) (D : va_G) (Y : Nat → ClassId) (q : Nat) : CNt l D Y yX7_init cX7_init 1 ⟨1, 1, 49, 60⟩ 1 49 (q, .inr (6, [.long 0, .null])) (fun w => ∃ r, w = waysW Y q r) := by
  refine CNt.of (by decide +kernel) rfl (by decide) (fun A => ?_)
  refine N_aload_n (pc := 0) rfl rfl dX7_init_0 ?_
  refine N_obj (pc := 1) (tb_m 163 (by decide +kernel)) (by decide) (by decide) dX7_init_1 ?_
  refine N_aload_n (pc := 4) rfl rfl dX7_init_4 ?_
  refine N_lconst (pc := 5) (v := 0) (by decide) dX7_init_5 ?_
  refine N_put (pc := 6) (q0 := 0) (ws2 := [(q, .inr (6, [.long 0, .null]))]) fX7_9 wr_6_0 rfl rfl rfl (by simp) rfl dX7_init_6 ?_
  refine N_aload_n (pc := 9) rfl rfl dX7_init_9 ?_
  refine N_bipush (pc := 10) (v := 49) (by decide) dX7_init_10 ?_
  refine N_newa (pc := 12) (t0 := 0) (N' := 49) (a0 := (49, .inl (fun _ => 0))) .int (tb_m 85 (by decide +kernel)) rfl rfl (by decide) (fun _ => rfl) (by decide) (by decide) (by decide) (by decide) dX7_init_12 (fun a1 => ?_)
  refine N_eq (ws2 := [(q, .inr (6, [.long 0, .null])), (a1, .inl (Y 0, 49, .inl (fun _ => 0)))]) (k2 := 1) (n2 := 49) rfl rfl rfl ?_
  refine N_putF (pc := 14) (ty := .array (.int)) (q0 := 0) (ws2 := [(q, .inr (6, [.long 0, .ref a1])), (a1, .inl (Y 0, 49, .inl (fun _ => 0)))]) fX7_15 ⟨_, rfl, rfl, rfl, by decide +kernel⟩ rfl rfl rfl (by simp) rfl dX7_init_14 ?_
  exact N_ret (pc := 17) rfl rfl (⟨(fun i => [0, a1].getD i 0), rfl⟩) dX7_init_17
theorem dX2_init_0 : decode cX2_init 0 = .ok (.aload_n 0, 1) := by decide +kernel
theorem dX2_init_1 : decode cX2_init 1 = .ok (.invokespecial 3, 3) := by decide +kernel
theorem dX2_init_4 : decode cX2_init 4 = .ok (.aload_n 0, 1) := by decide +kernel
theorem dX2_init_5 : decode cX2_init 5 = .ok (.new 9, 3) := by decide +kernel
theorem dX2_init_8 : decode cX2_init 8 = .ok (.dup, 1) := by decide +kernel
theorem dX2_init_9 : decode cX2_init 9 = .ok (.invokespecial 11, 3) := by decide +kernel
theorem dX2_init_12 : decode cX2_init 12 = .ok (.putfield 12, 3) := by decide +kernel
theorem dX2_init_15 : decode cX2_init 15 = .ok (.aload_n 0, 1) := by decide +kernel
theorem dX2_init_16 : decode cX2_init 16 = .ok (.iconst (-1), 1) := by decide +kernel
theorem dX2_init_17 : decode cX2_init 17 = .ok (.putfield 18, 3) := by decide +kernel
theorem dX2_init_20 : decode cX2_init 20 = .ok (.aload_n 0, 1) := by decide +kernel
theorem dX2_init_21 : decode cX2_init 21 = .ok (.sipush 160, 3) := by decide +kernel
theorem dX2_init_24 : decode cX2_init 24 = .ok (.newarray .int, 2) := by decide +kernel
theorem dX2_init_26 : decode cX2_init 26 = .ok (.putfield 22, 3) := by decide +kernel
theorem dX2_init_29 : decode cX2_init 29 = .ok (.aload_n 0, 1) := by decide +kernel
theorem dX2_init_30 : decode cX2_init 30 = .ok (.iconst 0, 1) := by decide +kernel
theorem dX2_init_31 : decode cX2_init 31 = .ok (.putfield 26, 3) := by decide +kernel
theorem dX2_init_34 : decode cX2_init 34 = .ok (.aload_n 0, 1) := by decide +kernel
theorem dX2_init_35 : decode cX2_init 35 = .ok (.iconst 0, 1) := by decide +kernel
theorem dX2_init_36 : decode cX2_init 36 = .ok (.putfield 29, 3) := by decide +kernel
theorem dX2_init_39 : decode cX2_init 39 = .ok (.aload_n 0, 1) := by decide +kernel
theorem dX2_init_40 : decode cX2_init 40 = .ok (.iconst 0, 1) := by decide +kernel
theorem dX2_init_41 : decode cX2_init 41 = .ok (.putfield 32, 3) := by decide +kernel
theorem dX2_init_44 : decode cX2_init 44 = .ok (.return_, 1) := by decide +kernel
set_option maxRecDepth 20000 in
theorem c_X2_init (l : Launch) (D : va_G) (Y : Nat → ClassId) (q : Nat) : CNt l D Y yX2_init cX2_init 1 ⟨2, 9, 225, 120⟩ 9 225 (q, .inr (1, [.null, .int 0, .null, .int 0, .int 0, .int 0])) (fun w => ∃ t r r2, w = readerW Y q t r r2) := by
  refine CNt.of (by decide +kernel) rfl (by decide) (fun A => ?_)
  refine N_aload_n (pc := 0) rfl rfl dX2_init_0 ?_
  refine N_obj (pc := 1) (tb_m 93 (by decide +kernel)) (by decide) (by decide) dX2_init_1 ?_
  refine N_aload_n (pc := 4) rfl rfl dX2_init_4 ?_
  refine N_new (pc := 5) (ci := 4) (fs := [.long 0, .int 0, .int 0, .int 0, .int 0, .int 0, .int 0, .null, .null, .null, .null, .null, .null, .null]) rfl tyX5 tyX5_ok (tb_m 94 (by decide +kernel)) (tb_m 28 (by decide +kernel)) (tb_m 2 (by decide +kernel)) (fun j hj => by rcases (show j = 0 ∨ j = 1 ∨ j = 2 ∨ j = 3 ∨ j = 4 ∨ j = 5 ∨ j = 6 ∨ j = 7 ∨ j = 8 ∨ j = 9 ∨ j = 10 ∨ j = 11 ∨ j = 12 ∨ j = 13 by omega) with rfl | rfl | rfl | rfl | rfl | rfl | rfl | rfl | rfl | rfl | rfl | rfl | rfl | rfl <;> rfl) (by decide) (by decide) dX2_init_5 (fun a1 => ?_)
  refine N_dup (pc := 8) dX2_init_8 ?_
  refine N_init (pc := 9) (nw := 1) (List.mem_of_getElem? (i := 2) rfl) ⟨(tb_m 2 (by decide +kernel)), (tb_m 31 (by decide +kernel)), by decide +kernel, by decide +kernel, by decide +kernel⟩ rfl (tb_m 30 (by decide +kernel)) (c_X5_init l D Y a1) rfl rfl (by decide) rfl rfl rfl (by decide) (by decide) (by decide) (Nat.le_of_ble_eq_true rfl) dX2_init_9 (fun w2 hw2 => ?_)
  obtain ⟨r2, rfl⟩ := hw2
  refine N_eq (ws2 := [(q, .inr (1, [.null, .int 0, .null, .int 0, .int 0, .int 0])), (a1, .inr (4, [.long 0, .int 0, .int 0, .int 4, .int 0, .int 0, .int 1, .ref (r2 1), .ref (r2 2), .ref (r2 3), .ref (r2 4), .ref (r2 5), .ref (r2 6), .ref (r2 7)])), nI0 Y (r2 1) 9, nI0 Y (r2 2) 9, nI0 Y (r2 3) 9, nI0 Y (r2 4) 9, nI0 Y (r2 5) 5, nI0 Y (r2 6) 5, nI0 Y (r2 7) 5]) (k2 := 8) (n2 := 65) rfl rfl rfl ?_
  refine N_putF (pc := 12) (ty := .object "WindowsLookedOut$Town") (q0 := 0) (ws2 := [(q, .inr (1, [.ref a1, .int 0, .null, .int 0, .int 0, .int 0])), (a1, .inr (4, [.long 0, .int 0, .int 0, .int 4, .int 0, .int 0, .int 1, .ref (r2 1), .ref (r2 2), .ref (r2 3), .ref (r2 4), .ref (r2 5), .ref (r2 6), .ref (r2 7)])), nI0 Y (r2 1) 9, nI0 Y (r2 2) 9, nI0 Y (r2 3) 9, nI0 Y (r2 4) 9, nI0 Y (r2 5) 5, nI0 Y (r2 6) 5, nI0 Y (r2 7) 5]) fX2_12 ⟨_, rfl, rfl, rfl, by decide +kernel⟩ rfl rfl rfl (by simp) rfl dX2_init_12 ?_
  refine N_aload_n (pc := 15) rfl rfl dX2_init_15 ?_
  refine N_iconst (pc := 16) (v := -1) (by decide) dX2_init_16 ?_
  refine N_put (pc := 17) (q0 := 0) (ws2 := [(q, .inr (1, [.ref a1, .int (-1), .null, .int 0, .int 0, .int 0])), (a1, .inr (4, [.long 0, .int 0, .int 0, .int 4, .int 0, .int 0, .int 1, .ref (r2 1), .ref (r2 2), .ref (r2 3), .ref (r2 4), .ref (r2 5), .ref (r2 6), .ref (r2 7)])), nI0 Y (r2 1) 9, nI0 Y (r2 2) 9, nI0 Y (r2 3) 9, nI0 Y (r2 4) 9, nI0 Y (r2 5) 5, nI0 Y (r2 6) 5, nI0 Y (r2 7) 5]) fX2_18 wr_1_1 rfl rfl rfl (by simp) rfl dX2_init_17 ?_
  refine N_aload_n (pc := 20) rfl rfl dX2_init_20 ?_
  refine N_sipush (pc := 21) (v := 160) (by decide) dX2_init_21 ?_
  refine N_newa (pc := 24) (t0 := 0) (N' := 160) (a0 := (160, .inl (fun _ => 0))) .int (tb_m 85 (by decide +kernel)) rfl rfl (by decide) (fun _ => rfl) (by decide) (by decide) (by decide) (by decide) dX2_init_24 (fun a3 => ?_)
  refine N_eq (ws2 := [(q, .inr (1, [.ref a1, .int (-1), .null, .int 0, .int 0, .int 0])), (a1, .inr (4, [.long 0, .int 0, .int 0, .int 4, .int 0, .int 0, .int 1, .ref (r2 1), .ref (r2 2), .ref (r2 3), .ref (r2 4), .ref (r2 5), .ref (r2 6), .ref (r2 7)])), nI0 Y (r2 1) 9, nI0 Y (r2 2) 9, nI0 Y (r2 3) 9, nI0 Y (r2 4) 9, nI0 Y (r2 5) 5, nI0 Y (r2 6) 5, nI0 Y (r2 7) 5, (a3, .inl (Y 0, 160, .inl (fun _ => 0)))]) (k2 := 9) (n2 := 225) rfl rfl rfl ?_
  refine N_putF (pc := 26) (ty := .array (.int)) (q0 := 0) (ws2 := [(q, .inr (1, [.ref a1, .int (-1), .ref a3, .int 0, .int 0, .int 0])), (a1, .inr (4, [.long 0, .int 0, .int 0, .int 4, .int 0, .int 0, .int 1, .ref (r2 1), .ref (r2 2), .ref (r2 3), .ref (r2 4), .ref (r2 5), .ref (r2 6), .ref (r2 7)])), nI0 Y (r2 1) 9, nI0 Y (r2 2) 9, nI0 Y (r2 3) 9, nI0 Y (r2 4) 9, nI0 Y (r2 5) 5, nI0 Y (r2 6) 5, nI0 Y (r2 7) 5, (a3, .inl (Y 0, 160, .inl (fun _ => 0)))]) fX2_22 ⟨_, rfl, rfl, rfl, by decide +kernel⟩ rfl rfl rfl (by simp) rfl dX2_init_26 ?_
  refine N_aload_n (pc := 29) rfl rfl dX2_init_29 ?_
  refine N_iconst (pc := 30) (v := 0) (by decide) dX2_init_30 ?_
  refine N_put (pc := 31) (q0 := 0) (ws2 := [(q, .inr (1, [.ref a1, .int (-1), .ref a3, .int (0), .int 0, .int 0])), (a1, .inr (4, [.long 0, .int 0, .int 0, .int 4, .int 0, .int 0, .int 1, .ref (r2 1), .ref (r2 2), .ref (r2 3), .ref (r2 4), .ref (r2 5), .ref (r2 6), .ref (r2 7)])), nI0 Y (r2 1) 9, nI0 Y (r2 2) 9, nI0 Y (r2 3) 9, nI0 Y (r2 4) 9, nI0 Y (r2 5) 5, nI0 Y (r2 6) 5, nI0 Y (r2 7) 5, (a3, .inl (Y 0, 160, .inl (fun _ => 0)))]) fX2_26 wr_1_3 rfl rfl rfl (by simp) rfl dX2_init_31 ?_
  refine N_aload_n (pc := 34) rfl rfl dX2_init_34 ?_
  refine N_iconst (pc := 35) (v := 0) (by decide) dX2_init_35 ?_
  refine N_put (pc := 36) (q0 := 0) (ws2 := [(q, .inr (1, [.ref a1, .int (-1), .ref a3, .int (0), .int (0), .int 0])), (a1, .inr (4, [.long 0, .int 0, .int 0, .int 4, .int 0, .int 0, .int 1, .ref (r2 1), .ref (r2 2), .ref (r2 3), .ref (r2 4), .ref (r2 5), .ref (r2 6), .ref (r2 7)])), nI0 Y (r2 1) 9, nI0 Y (r2 2) 9, nI0 Y (r2 3) 9, nI0 Y (r2 4) 9, nI0 Y (r2 5) 5, nI0 Y (r2 6) 5, nI0 Y (r2 7) 5, (a3, .inl (Y 0, 160, .inl (fun _ => 0)))]) fX2_29 wr_1_4 rfl rfl rfl (by simp) rfl dX2_init_36 ?_
  refine N_aload_n (pc := 39) rfl rfl dX2_init_39 ?_
  refine N_iconst (pc := 40) (v := 0) (by decide) dX2_init_40 ?_
  refine N_put (pc := 41) (q0 := 0) (ws2 := [(q, .inr (1, [.ref a1, .int (-1), .ref a3, .int (0), .int (0), .int (0)])), (a1, .inr (4, [.long 0, .int 0, .int 0, .int 4, .int 0, .int 0, .int 1, .ref (r2 1), .ref (r2 2), .ref (r2 3), .ref (r2 4), .ref (r2 5), .ref (r2 6), .ref (r2 7)])), nI0 Y (r2 1) 9, nI0 Y (r2 2) 9, nI0 Y (r2 3) 9, nI0 Y (r2 4) 9, nI0 Y (r2 5) 5, nI0 Y (r2 6) 5, nI0 Y (r2 7) 5, (a3, .inl (Y 0, 160, .inl (fun _ => 0)))]) fX2_32 wr_1_5 rfl rfl rfl (by simp) rfl dX2_init_41 ?_
  exact N_ret (pc := 44) rfl rfl (⟨a1, r2, (fun i => [0, a3].getD i 0), rfl⟩) dX2_init_44
