/-! PART 59: the law's loop, from its head -/
set_option maxRecDepth 20000 in
theorem L_loop {G : Gl} {p : Program} {e : Env} {s : State} {m : MethodId} {below : List Frame} {meth : Method} {c : Code} {b L : Nat} {xs : Nat → Int32} (X : LX G p s m meth c b L xs) : ∀ (n i : Nat) (Z : Zt) (σ : Sg), L < i + 6 * n → i ≤ L → RelX Z σ → RelM Z σ → OkI Z → LW G p e s m below meth c b 18 [(0, .ref b), (1, .ref (gA G 0)), (2, .ref (gA G 54)), (3, .int (iI (i : Int)))] [] σ := by
  intro n
  induction n with
  | zero => intro i Z σ h1 h2; exact absurd h1 (by omega)
  | succ n ih =>
    intro i Z σ h1 h2 hX hM hI
    have hL := X.2.1
    refine L_iload_n (k := 3) (pc := 18) X rfl dL_law_18 ?_
    refine L_aload_n (k := 0) (pc := 19) X rfl dL_law_19 ?_
    refine L_slen (pc := 20) X dL_law_20 ?_
    refine L_bipush (pc := 21) X dL_law_21 (by decide) ?_
    refine L_isub (pc := 23) X dL_law_23 ?_
    refine L_gt 1447 (pc := 24) X dL_law_24 (by decide) (fun _ => ?_) (fun h => ?_)
    · refine L_iconst (pc := 1447) X dL_law_1447 ?_
      rw [show iI 1 = (1 : Int32) from by decide]
      exact L_end (pc := 1448) X dL_law_1448
    · have hi : i + 6 ≤ L := by
        rw [iI_lt (by omega) (by omega) (by omega) (by omega)] at h
        omega
      have IH : ∀ (Z2 : Zt) (σ2 : Sg), RelX Z2 σ2 → RelM Z2 σ2 → OkI Z2 → LW G p e s m below meth c b 1441 [(0, .ref b), (1, .ref (gA G 0)), (2, .ref (gA G 54)), (3, .int (iI (i : Int)))] [] σ2 := by
        intro Z2 σ2 a1 a2 a3
        refine L_iinc (pc := 1441) X rfl dL_law_1441 ?_
        refine L_goto 18 (pc := 1444) X dL_law_1444 (by decide) ?_
        have e1 : (i : Int) + 6 = ((i + 6 : Nat) : Int) := by omega
        rw [e1]
        exact ih (i + 6) Z2 σ2 (by omega) hi a1 a2 a3
      refine L_aload_n (k := 0) (pc := 27) X rfl dL_law_27 ?_
      refine L_iload_n (k := 3) (pc := 28) X rfl dL_law_28 ?_
      refine L_sld i (pc := 29) X rfl (by omega) dL_law_29 ?_
      refine L_bipush (pc := 30) X dL_law_30 (by decide) ?_
      obtain ⟨z, hz, z1, z2⟩ := and63 (xs i).toInt
      refine L_iand z (pc := 32) X hz dL_law_32 ?_
      refine L_tsw [(0, 200), (1, 243), (2, 316), (3, 379), (4, 413), (5, 446), (6, 469), (7, 502), (8, 551), (9, 604), (10, 637), (11, 680), (12, 703), (13, 736), (14, 769), (15, 792), (16, 805), (17, 838), (18, 871), (19, 884), (20, 917), (21, 960), (22, 983), (23, 996), (24, 1029), (25, 1052), (26, 1075), (27, 1098), (28, 1141), (29, 1184), (30, 1237), (31, 1280), (32, 1303), (33, 1326), (34, 1369), (35, 1392), (36, 1405), (37, 1418)] 1441 (pc := 33) X dL_law_33 (by decide) (by decide) (by decide) (by omega) (by omega) ?_
      refine SwP.get (P := fun t => LW G p e s m below meth c b t [(0, .ref b), (1, .ref (gA G 0)), (2, .ref (gA G 54)), (3, .int (iI (i : Int)))] [] σ) ?_
      refine ⟨fun _ => L_case0 X hX hM hI hi IH, fun _ => ?_⟩
      refine ⟨fun _ => L_case1 X hX hM hI hi IH, fun _ => ?_⟩
      refine ⟨fun _ => L_case2 X hX hM hI hi IH, fun _ => ?_⟩
      refine ⟨fun _ => L_case3 X hX hM hI hi IH, fun _ => ?_⟩
      refine ⟨fun _ => L_case4 X hX hM hI hi IH, fun _ => ?_⟩
      refine ⟨fun _ => L_case5 X hX hM hI hi IH, fun _ => ?_⟩
      refine ⟨fun _ => L_case6 X hX hM hI hi IH, fun _ => ?_⟩
      refine ⟨fun _ => L_case7 X hX hM hI hi IH, fun _ => ?_⟩
      refine ⟨fun _ => L_case8 X hX hM hI hi IH, fun _ => ?_⟩
      refine ⟨fun _ => L_case9 X hX hM hI hi IH, fun _ => ?_⟩
      refine ⟨fun _ => L_case10 X hX hM hI hi IH, fun _ => ?_⟩
      refine ⟨fun _ => L_case11 X hX hM hI hi IH, fun _ => ?_⟩
      refine ⟨fun _ => L_case12 X hX hM hI hi IH, fun _ => ?_⟩
      refine ⟨fun _ => L_case13 X hX hM hI hi IH, fun _ => ?_⟩
      refine ⟨fun _ => L_case14 X hX hM hI hi IH, fun _ => ?_⟩
      refine ⟨fun _ => L_case15 X hX hM hI hi IH, fun _ => ?_⟩
      refine ⟨fun _ => L_case16 X hX hM hI hi IH, fun _ => ?_⟩
      refine ⟨fun _ => L_case17 X hX hM hI hi IH, fun _ => ?_⟩
      refine ⟨fun _ => L_case18 X hX hM hI hi IH, fun _ => ?_⟩
      refine ⟨fun _ => L_case19 X hX hM hI hi IH, fun _ => ?_⟩
      refine ⟨fun _ => L_case20 X hX hM hI hi IH, fun _ => ?_⟩
      refine ⟨fun _ => L_case21 X hX hM hI hi IH, fun _ => ?_⟩
      refine ⟨fun _ => L_case22 X hX hM hI hi IH, fun _ => ?_⟩
      refine ⟨fun _ => L_case23 X hX hM hI hi IH, fun _ => ?_⟩
      refine ⟨fun _ => L_case24 X hX hM hI hi IH, fun _ => ?_⟩
      refine ⟨fun _ => L_case25 X hX hM hI hi IH, fun _ => ?_⟩
      refine ⟨fun _ => L_case26 X hX hM hI hi IH, fun _ => ?_⟩
      refine ⟨fun _ => L_case27 X hX hM hI hi IH, fun _ => ?_⟩
      refine ⟨fun _ => L_case28 X hX hM hI hi IH, fun _ => ?_⟩
      refine ⟨fun _ => L_case29 X hX hM hI hi IH, fun _ => ?_⟩
      refine ⟨fun _ => L_case30 X hX hM hI hi IH, fun _ => ?_⟩
      refine ⟨fun _ => L_case31 X hX hM hI hi IH, fun _ => ?_⟩
      refine ⟨fun _ => L_case32 X hX hM hI hi IH, fun _ => ?_⟩
      refine ⟨fun _ => L_case33 X hX hM hI hi IH, fun _ => ?_⟩
      refine ⟨fun _ => L_case34 X hX hM hI hi IH, fun _ => ?_⟩
      refine ⟨fun _ => L_case35 X hX hM hI hi IH, fun _ => ?_⟩
      refine ⟨fun _ => L_case36 X hX hM hI hi IH, fun _ => ?_⟩
      refine ⟨fun _ => L_case37 X hX hM hI hi IH, fun _ => ?_⟩
      exact IH Z σ hX hM hI
