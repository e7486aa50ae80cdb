/-! PART 44: the texts' lengths and letters -/
theorem fJ0_9 : Cond.fieldLink RJ0 9 "java/lang/String" "value" "[B" ∈ lw_tbl := tb_m 1410 (by decide +kernel)
theorem fJ0_15 : Cond.fieldLink RJ0 15 "java/lang/String" "coder" "B" ∈ lw_tbl := tb_m 1411 (by decide +kernel)
theorem fsJ0_38 : Cond.fieldLink RJ0 38 "java/lang/String" "COMPACT_STRINGS" "Z" ∈ lw_tbl := tb_m 601 (by decide +kernel)
theorem fsJ0_1053 : Cond.fieldLink RJ0 1053 "jdk/internal/util/Preconditions" "SIOOBE_FORMATTER" "Ljava/util/function/BiFunction;" ∈ lw_tbl := tb_m 617 (by decide +kernel)
/-- the letter k of the text i -/
def chr (i k : Nat) : Int := ((bytS.getD i []).getD k 0).toInt
def lnS (i : Nat) : Nat := lenS.getD i 0
section AWT
variable {G : Gl} {d : Nat} {own : String} {cc : ByteArray} {mL : Nat} {ret : Option FieldType} {pc : Nat} {ls : List (Nat × Value)} {st : List Value} {σ : Sg} {K : Option Value → Sg → Prop}
theorem A_kval {idx i : Nat} (hi : i < 5) (hf : Cond.fieldLink own idx "java/lang/String" "value" "[B" ∈ lw_tbl) (hd : decode cc pc = .ok (.getfield idx, 3)) (kk : AW G d own cc mL ret (pc + 3) ls (.ref (gV G i) :: st) σ K) : AW G d own cc mL ret pc ls (.ref (gK G i) :: st) σ K := by
  intro p e s m args below meth c' H locs la hC hP hS hL
  exact vk_getf hC.1 hC.2.1 (hC.kon.2.2.2.2.2.2.1.1 i hi).2.2.1 hS hC.hown (hC.hts _ (TW_in hf rfl)) (fun _ h => h) hd (kk p e s m args below meth c' H locs la hC hP hS hL)
theorem A_kcod {idx i : Nat} (hi : i < 5) (hf : Cond.fieldLink own idx "java/lang/String" "coder" "B" ∈ lw_tbl) (hd : decode cc pc = .ok (.getfield idx, 3)) (kk : AW G d own cc mL ret (pc + 3) ls (.int (iI 0) :: st) σ K) : AW G d own cc mL ret pc ls (.ref (gK G i) :: st) σ K := by
  intro p e s m args below meth c' H locs la hC hP hS hL
  rw [iI_0] at kk
  exact vk_getf hC.1 hC.2.1 (hC.kon.2.2.2.2.2.2.1.1 i hi).2.1 hS hC.hown (hC.hts _ (TW_in hf rfl)) (fun _ h => h) hd (kk p e s m args below meth c' H locs la hC hP hS hL)
theorem A_klen {i : Nat} (hi : i < 5) (hd : decode cc pc = .ok (.arraylength, 1)) (kk : AW G d own cc mL ret (pc + 1) ls (.int (iI (lnS i : Nat)) :: st) σ K) : AW G d own cc mL ret pc ls (.ref (gV G i) :: st) σ K := by
  intro p e s m args below meth c' H locs la hC hP hS hL
  rw [iI_n] at kk
  exact va_tlen hC.1 hC.2.1 (hC.kon.2.2.2.2.2.2.1.1 i hi).2.2.2 hS rfl hd (kk p e s m args below meth c' H locs la hC hP hS hL)
theorem A_kbyt {i k : Nat} (hi : i < 5) (hk : k < lnS i) (hn : lnS i < 2 ^ 31) (hd : decode cc pc = .ok (.baload, 1)) (kk : AW G d own cc mL ret (pc + 1) ls (.int (iI (chr i k)) :: st) σ K) : AW G d own cc mL ret pc ls (.int (iI (k : Int)) :: .ref (gV G i) :: st) σ K := by
  intro p e s m args below meth c' H locs la hC hP hS hL
  rw [iI_n]
  unfold chr at kk
  rw [iI_of] at kk
  refine va_tb hC.1 hC.2.1 (hC.kon.2.2.2.2.2.2.1.1 i hi).2.2.2 hS (vp_in_nI hk hn) rfl hd ?_
  rw [nI_clamp (by omega)]
  exact kk p e s m args below meth c' H locs la hC hP hS hL
theorem A_getsC {idx : Nat} (hf : Cond.fieldLink own idx "java/lang/String" "COMPACT_STRINGS" "Z" ∈ lw_tbl) (hd : decode cc pc = .ok (.getstatic idx, 3)) (kk : AW G d own cc mL ret (pc + 3) ls (.int (iI 1) :: st) σ K) : AW G d own cc mL ret pc ls st σ K := by
  intro p e s m args below meth c' H locs la hC hP hS hL
  have e1 : iI 1 = (1 : Int32) := by decide
  rw [e1] at kk
  exact va_gets hC.1 hC.2.1 hC.kon.2.2.2.2.2.2.2.2.1 hS hC.hown (hC.hts _ (TW_in hf rfl)) (fun _ h => h) hd (kk p e s m args below meth c' H locs la hC hP hS hL)
theorem A_getsQ {idx : Nat} (hf : Cond.fieldLink own idx "jdk/internal/util/Preconditions" "SIOOBE_FORMATTER" "Ljava/util/function/BiFunction;" ∈ lw_tbl) (hd : decode cc pc = .ok (.getstatic idx, 3)) (kk : ∀ v : Value, (v = .null ∨ ∃ t, v = .ref t) → AW G d own cc mL ret (pc + 3) ls (v :: st) σ K) : AW G d own cc mL ret pc ls st σ K := by
  intro p e s m args below meth c' H locs la hC hP hS hL
  rcases hC.kon.2.2.2.2.2.2.2.2.2.1 with h | ⟨t, h⟩
  · exact va_gets hC.1 hC.2.1 h hS hC.hown (hC.hts _ (TW_in hf rfl)) (fun _ h => h) hd (kk _ (Or.inl rfl) p e s m args below meth c' H locs la hC hP hS hL)
  · exact va_gets hC.1 hC.2.1 h hS hC.hown (hC.hts _ (TW_in hf rfl)) (fun _ h => h) hd (kk _ (Or.inr ⟨t, rfl⟩) p e s m args below meth c' H locs la hC hP hS hL)
theorem A_callK1 {idx n mL2 i : Nat} {y : MethodName} {b : ByteArray} {ret2 : Option FieldType} {As rest : List Value} {r : Value} {τ : Sg} (hl : LkV own idx y n b mL2 ret2) (hi : i < 5) (hci : "java/lang/String" = y.cls) (hc : CT G d y b mL2 ret2 (.ref (gK G i) :: As) σ (R1 r τ)) (hd : decode cc pc = .ok (.invokevirtual idx, 3)) (hst : st = As.reverse ++ .ref (gK G i) :: rest) (hn : As.length = n) (hm : mL2 ≤ 80) (hr : (rest.map fun v => v.category).sum ≤ 8)
    (k : AW G (d + 1) own cc mL ret (pc + 3) ls (r :: rest) τ K) : AW G (d + 1) own cc mL ret pc ls st σ K := by
  obtain ⟨⟨l1, l2, l3, l4, l5⟩, l6, l7, l8⟩ := hl
  intro p e s m args below meth c' H locs la hC hP hS hL
  have hG : GoodIn TW (wsV own idx y.cls y (Cond.code y b mL2 ret2 :: TW)) := by
    intro w hw
    simp only [wsV, List.mem_append, List.mem_cons, List.not_mem_nil, or_false] at hw
    rcases hw with (h | h | h | h) | h | h
    · exact TW_good _ (h ▸ TW_in l6 rfl)
    · exact TW_good _ (h ▸ TW_in l7 rfl)
    · exact TW_good _ (h ▸ TW_in l8 rfl)
    · exact TW_good _ (h ▸ TW_in l1 rfl)
    · exact TW_good _ (h ▸ TW_in l2 rfl)
    · exact TW_good _ h
  have hrc : ∃ cellB : Cell, H[gK G i]? = some cellB ∧ cellB.vm.isStatics = false ∧ s.vm.findClass y.cls = some cellB.cls := by
    rw [← hci]
    exact vk_recv hC.kon.2.2.2.2.2.2.1 hi hS
  refine A_back (K1 := R1 r τ) (va_runV (As := As) (rest := rest) ⟨hC.1, hC.2.1, hC.2.2.1, hC.hown, hC.hts⟩ hc (cwV n hC.hts hG rfl rfl rfl ⟨rfl, l3, l4, l5⟩ ⟨Nat.le_refl _, by show 8 + (mL2 + 11) + 100 * d ≤ 100 * (d + 1); omega⟩) ⟨CT.blind, hrc, fun U hU hW => ⟨rfl, by rw [hU]; exact hP, by rw [hU]; exact hC.kon.go hW hS.2.1⟩⟩ rfl hn hL.1 hst (lv_room hr) hd ⟨Nat.zero_le _, Nat.zero_le _⟩) hS (fun v τ' H1 l1 hk hP1 hS1 => ?_)
  obtain ⟨rfl, rfl⟩ := hk
  exact k p e s m args below meth c' H1 l1 la hC hP1 hS1 hL
end AWT
theorem lnS_le : ∀ i, i < 5 → lnS i ≤ 6 := by decide
theorem chr_k6 : ∀ i, i < 5 → ∀ k, k < 6 → k < lnS i → (iI (chr i k) &&& iI 255 = iI (chr i k) ∧ ((iI (chr i k)).toUInt32 % 65536).toInt32 = iI (chr i k) ∧ narrow .char (.int (iI (chr i k))) = .int (iI (chr i k)) ∧ 97 ≤ chr i k ∧ chr i k ≤ 122) := by decide +kernel
theorem chr_k (i : Nat) (hi : i < 5) (k : Nat) (hk : k < lnS i) : iI (chr i k) &&& iI 255 = iI (chr i k) ∧ ((iI (chr i k)).toUInt32 % 65536).toInt32 = iI (chr i k) ∧ narrow .char (.int (iI (chr i k))) = .int (iI (chr i k)) ∧ 97 ≤ chr i k ∧ chr i k ≤ 122 := chr_k6 i hi k (Nat.lt_of_lt_of_le hk (lnS_le i hi)) hk
theorem sh0 : ∀ i, i < 5 → iI (lnS i : Nat) >>> (iI 0 &&& 31) = iI (lnS i : Nat) := by decide +kernel
theorem dJ0_coder_7d493_0 : decode cJ0_coder_7d493 0 = .ok (.getstatic 38, 3) := by decide +kernel
theorem dJ0_coder_7d493_3 : decode cJ0_coder_7d493 3 = .ok (.ifCond .eq 10, 3) := by decide +kernel
theorem dJ0_coder_7d493_6 : decode cJ0_coder_7d493 6 = .ok (.aload_n 0, 1) := by decide +kernel
theorem dJ0_coder_7d493_7 : decode cJ0_coder_7d493 7 = .ok (.getfield 15, 3) := by decide +kernel
theorem dJ0_coder_7d493_10 : decode cJ0_coder_7d493 10 = .ok (.goto 4, 3) := by decide +kernel
theorem dJ0_coder_7d493_13 : decode cJ0_coder_7d493 13 = .ok (.iconst 1, 1) := by decide +kernel
theorem dJ0_coder_7d493_14 : decode cJ0_coder_7d493 14 = .ok (.ireturn, 1) := by decide +kernel
set_option maxRecDepth 20000 in
theorem c_J0_coder_7d493 {G : Gl} {d : Nat} {σ : Sg} {i : Nat} (hi : i < 5) : CT G d yJ0_coder_7d493 cJ0_coder_7d493 1 (some .byte) [.ref (gK G i)] σ (R1 (.int (iI 0)) σ) := by
  refine CT.of (by decide +kernel) (Nat.le_of_ble_eq_true rfl) ?_
  change AW G _ RJ0 _ _ _ 0 [(0, .ref (gK G i))] [] _ _
  refine A_getsC (pc := 0) fsJ0_38 dJ0_coder_7d493_0 ?_
  refine A_if_eq (pc := 3) 13 dJ0_coder_7d493_3 (by decide) (by omega) (by omega) (fun h3 => ?_) (fun h3 => ?_)
  · exfalso; omega
  refine A_aload_n (pc := 6) dJ0_coder_7d493_6 rfl rfl ?_
  refine A_kcod (pc := 7) hi fJ0_15 dJ0_coder_7d493_7 ?_
  refine A_goto (pc := 10) 14 dJ0_coder_7d493_10 (by decide) ?_
  refine A_zret (pc := 14) rfl rfl dJ0_coder_7d493_14 ?_
  exact ⟨rfl, rfl⟩
theorem dJ0_length_8abf5_0 : decode cJ0_length_8abf5 0 = .ok (.aload_n 0, 1) := by decide +kernel
theorem dJ0_length_8abf5_1 : decode cJ0_length_8abf5 1 = .ok (.getfield 9, 3) := by decide +kernel
theorem dJ0_length_8abf5_4 : decode cJ0_length_8abf5 4 = .ok (.arraylength, 1) := by decide +kernel
theorem dJ0_length_8abf5_5 : decode cJ0_length_8abf5 5 = .ok (.aload_n 0, 1) := by decide +kernel
theorem dJ0_length_8abf5_6 : decode cJ0_length_8abf5 6 = .ok (.invokevirtual 335, 3) := by decide +kernel
theorem dJ0_length_8abf5_9 : decode cJ0_length_8abf5 9 = .ok (.ishr, 1) := by decide +kernel
theorem dJ0_length_8abf5_10 : decode cJ0_length_8abf5 10 = .ok (.ireturn, 1) := by decide +kernel
set_option maxRecDepth 20000 in
theorem c_J0_length_8abf5 {G : Gl} {d : Nat} {σ : Sg} {i : Nat} (hi : i < 5) : CT G (d + 1) yJ0_length_8abf5 cJ0_length_8abf5 1 (some .int) [.ref (gK G i)] σ (R1 (.int (iI (lnS i : Nat))) σ) := by
  refine CT.of (by decide +kernel) (Nat.le_of_ble_eq_true rfl) ?_
  change AW G _ RJ0 _ _ _ 0 [(0, .ref (gK G i))] [] _ _
  refine A_aload_n (pc := 0) dJ0_length_8abf5_0 rfl rfl ?_
  refine A_kval (pc := 1) hi fJ0_9 dJ0_length_8abf5_1 ?_
  refine A_klen (pc := 4) hi dJ0_length_8abf5_4 ?_
  refine A_aload_n (pc := 5) dJ0_length_8abf5_5 rfl rfl ?_
  refine A_callK1 (pc := 6) kJ0_335 hi rfl (c_J0_coder_7d493 hi) dJ0_length_8abf5_6 rfl rfl (Nat.le_of_ble_eq_true rfl) (Nat.le_of_ble_eq_true rfl) ?_
  refine A_ishr (pc := 9) (lnS i : Nat) dJ0_length_8abf5_9 (sh0 i hi) ?_
  refine A_iret (pc := 10) rfl dJ0_length_8abf5_10 ?_
  exact ⟨rfl, rfl⟩
theorem dJ0_isLatin1_aae02_0 : decode cJ0_isLatin1_aae02 0 = .ok (.getstatic 38, 3) := by decide +kernel
theorem dJ0_isLatin1_aae02_3 : decode cJ0_isLatin1_aae02 3 = .ok (.ifCond .eq 14, 3) := by decide +kernel
theorem dJ0_isLatin1_aae02_6 : decode cJ0_isLatin1_aae02 6 = .ok (.aload_n 0, 1) := by decide +kernel
theorem dJ0_isLatin1_aae02_7 : decode cJ0_isLatin1_aae02 7 = .ok (.getfield 15, 3) := by decide +kernel
theorem dJ0_isLatin1_aae02_10 : decode cJ0_isLatin1_aae02 10 = .ok (.ifCond .ne 7, 3) := by decide +kernel
theorem dJ0_isLatin1_aae02_13 : decode cJ0_isLatin1_aae02 13 = .ok (.iconst 1, 1) := by decide +kernel
theorem dJ0_isLatin1_aae02_14 : decode cJ0_isLatin1_aae02 14 = .ok (.goto 4, 3) := by decide +kernel
theorem dJ0_isLatin1_aae02_17 : decode cJ0_isLatin1_aae02 17 = .ok (.iconst 0, 1) := by decide +kernel
theorem dJ0_isLatin1_aae02_18 : decode cJ0_isLatin1_aae02 18 = .ok (.ireturn, 1) := by decide +kernel
set_option maxRecDepth 20000 in
theorem c_J0_isLatin1_aae02 {G : Gl} {d : Nat} {σ : Sg} {i : Nat} (hi : i < 5) : CT G d yJ0_isLatin1_aae02 cJ0_isLatin1_aae02 1 (some .boolean) [.ref (gK G i)] σ (R1 (.int (iI 1)) σ) := by
  refine CT.of (by decide +kernel) (Nat.le_of_ble_eq_true rfl) ?_
  change AW G _ RJ0 _ _ _ 0 [(0, .ref (gK G i))] [] _ _
  refine A_getsC (pc := 0) fsJ0_38 dJ0_isLatin1_aae02_0 ?_
  refine A_if_eq (pc := 3) 17 dJ0_isLatin1_aae02_3 (by decide) (by omega) (by omega) (fun h3 => ?_) (fun h3 => ?_)
  · exfalso; omega
  refine A_aload_n (pc := 6) dJ0_isLatin1_aae02_6 rfl rfl ?_
  refine A_kcod (pc := 7) hi fJ0_15 dJ0_isLatin1_aae02_7 ?_
  refine A_if_ne (pc := 10) 17 dJ0_isLatin1_aae02_10 (by decide) (by omega) (by omega) (fun h10 => ?_) (fun h10 => ?_)
  · exfalso; omega
  refine A_iconst (pc := 13) dJ0_isLatin1_aae02_13 ?_
  refine A_goto (pc := 14) 18 dJ0_isLatin1_aae02_14 (by decide) ?_
  refine A_zret (pc := 18) rfl rfl dJ0_isLatin1_aae02_18 ?_
  exact ⟨rfl, rfl⟩
theorem dJ3_checkIndex_8e157_0 : decode cJ3_checkIndex_8e157 0 = .ok (.iload_n 0, 1) := by decide +kernel
theorem dJ3_checkIndex_8e157_1 : decode cJ3_checkIndex_8e157 1 = .ok (.ifCond .lt 8, 3) := by decide +kernel
theorem dJ3_checkIndex_8e157_4 : decode cJ3_checkIndex_8e157 4 = .ok (.iload_n 0, 1) := by decide +kernel
theorem dJ3_checkIndex_8e157_5 : decode cJ3_checkIndex_8e157 5 = .ok (.iload_n 1, 1) := by decide +kernel
theorem dJ3_checkIndex_8e157_6 : decode cJ3_checkIndex_8e157 6 = .ok (.if_icmp .lt 10, 3) := by decide +kernel
theorem dJ3_checkIndex_8e157_9 : decode cJ3_checkIndex_8e157 9 = .ok (.aload_n 2, 1) := by decide +kernel
theorem dJ3_checkIndex_8e157_10 : decode cJ3_checkIndex_8e157 10 = .ok (.iload_n 0, 1) := by decide +kernel
theorem dJ3_checkIndex_8e157_11 : decode cJ3_checkIndex_8e157 11 = .ok (.iload_n 1, 1) := by decide +kernel
theorem dJ3_checkIndex_8e157_12 : decode cJ3_checkIndex_8e157 12 = .ok (.invokestatic 95, 3) := by decide +kernel
theorem dJ3_checkIndex_8e157_15 : decode cJ3_checkIndex_8e157 15 = .ok (.athrow, 1) := by decide +kernel
theorem dJ3_checkIndex_8e157_16 : decode cJ3_checkIndex_8e157 16 = .ok (.iload_n 0, 1) := by decide +kernel
theorem dJ3_checkIndex_8e157_17 : decode cJ3_checkIndex_8e157 17 = .ok (.ireturn, 1) := by decide +kernel
set_option maxRecDepth 20000 in
theorem c_J3_checkIndex_8e157 {G : Gl} {d : Nat} {σ : Sg} {a n : Int} {v : Value} (hv : v = .null ∨ ∃ t, v = .ref t) (a1 : 0 ≤ a) (a2 : a < n) (n2 : n < 2147483648) : CT G d yJ3_checkIndex_8e157 cJ3_checkIndex_8e157 3 (some .int) [.int (iI a), .int (iI n), v] σ (R1 (.int (iI a)) σ) := by
  rcases hv with rfl | ⟨t, rfl⟩
  · skip
    refine CT.of (by decide +kernel) (Nat.le_of_ble_eq_true rfl) ?_
    change AW G _ RJ3 _ _ _ 0 [(0, .int (iI a)), (1, .int (iI n)), (2, _)] [] _ _
    refine A_iload_n (pc := 0) dJ3_checkIndex_8e157_0 rfl rfl ?_
    refine A_if_lt (pc := 1) 9 dJ3_checkIndex_8e157_1 (by decide) (by omega) (by omega) (fun h1 => ?_) (fun h1 => ?_)
    · exfalso; omega
    refine A_iload_n (pc := 4) dJ3_checkIndex_8e157_4 rfl rfl ?_
    refine A_iload_n (pc := 5) dJ3_checkIndex_8e157_5 rfl rfl ?_
    refine A_icmp_lt (pc := 6) 16 dJ3_checkIndex_8e157_6 (by decide) (by omega) (by omega) (by omega) (by omega) (fun h6 => ?_) (fun h6 => ?_)
    · skip
      refine A_iload_n (pc := 16) dJ3_checkIndex_8e157_16 rfl rfl ?_
      refine A_iret (pc := 17) rfl dJ3_checkIndex_8e157_17 ?_
      exact ⟨rfl, rfl⟩
    · exfalso; omega
  · skip
    refine CT.of (by decide +kernel) (Nat.le_of_ble_eq_true rfl) ?_
    change AW G _ RJ3 _ _ _ 0 [(0, .int (iI a)), (1, .int (iI n)), (2, _)] [] _ _
    refine A_iload_n (pc := 0) dJ3_checkIndex_8e157_0 rfl rfl ?_
    refine A_if_lt (pc := 1) 9 dJ3_checkIndex_8e157_1 (by decide) (by omega) (by omega) (fun h1 => ?_) (fun h1 => ?_)
    · exfalso; omega
    refine A_iload_n (pc := 4) dJ3_checkIndex_8e157_4 rfl rfl ?_
    refine A_iload_n (pc := 5) dJ3_checkIndex_8e157_5 rfl rfl ?_
    refine A_icmp_lt (pc := 6) 16 dJ3_checkIndex_8e157_6 (by decide) (by omega) (by omega) (by omega) (by omega) (fun h6 => ?_) (fun h6 => ?_)
    · skip
      refine A_iload_n (pc := 16) dJ3_checkIndex_8e157_16 rfl rfl ?_
      refine A_iret (pc := 17) rfl dJ3_checkIndex_8e157_17 ?_
      exact ⟨rfl, rfl⟩
    · exfalso; omega
theorem dJ0_checkIndex_df160_0 : decode cJ0_checkIndex_df160 0 = .ok (.iload_n 0, 1) := by decide +kernel
theorem dJ0_checkIndex_df160_1 : decode cJ0_checkIndex_df160 1 = .ok (.iload_n 1, 1) := by decide +kernel
theorem dJ0_checkIndex_df160_2 : decode cJ0_checkIndex_df160 2 = .ok (.getstatic 1053, 3) := by decide +kernel
theorem dJ0_checkIndex_df160_5 : decode cJ0_checkIndex_df160 5 = .ok (.invokestatic 1059, 3) := by decide +kernel
theorem dJ0_checkIndex_df160_8 : decode cJ0_checkIndex_df160 8 = .ok (.pop, 1) := by decide +kernel
theorem dJ0_checkIndex_df160_9 : decode cJ0_checkIndex_df160 9 = .ok (.return_, 1) := by decide +kernel
set_option maxRecDepth 20000 in
theorem c_J0_checkIndex_df160 {G : Gl} {d : Nat} {σ : Sg} {a n : Int} (a1 : 0 ≤ a) (a2 : a < n) (n2 : n < 2147483648) : CT G (d + 1) yJ0_checkIndex_df160 cJ0_checkIndex_df160 2 none [.int (iI a), .int (iI n)] σ (R0 σ) := by
  refine CT.of (by decide +kernel) (Nat.le_of_ble_eq_true rfl) ?_
  change AW G _ RJ0 _ _ _ 0 [(0, .int (iI a)), (1, .int (iI n))] [] _ _
  refine A_iload_n (pc := 0) dJ0_checkIndex_df160_0 rfl rfl ?_
  refine A_iload_n (pc := 1) dJ0_checkIndex_df160_1 rfl rfl ?_
  refine A_getsQ (pc := 2) fsJ0_1053 dJ0_checkIndex_df160_2 (fun v hv => ?_)
  refine A_callS1 (pc := 5) kJ0_1059 (c_J3_checkIndex_8e157 hv a1 a2 n2) dJ0_checkIndex_df160_5 rfl rfl (Nat.le_of_ble_eq_true rfl) (Nat.le_of_ble_eq_true rfl) ?_
  refine A_pop (pc := 8) dJ0_checkIndex_df160_8 rfl ?_
  refine A_vret (pc := 9) rfl dJ0_checkIndex_df160_9 ?_
  exact ⟨rfl, rfl⟩
theorem dJ1_charAt_3b067_0 : decode cJ1_charAt_3b067 0 = .ok (.iload_n 1, 1) := by decide +kernel
theorem dJ1_charAt_3b067_1 : decode cJ1_charAt_3b067 1 = .ok (.aload_n 0, 1) := by decide +kernel
theorem dJ1_charAt_3b067_2 : decode cJ1_charAt_3b067 2 = .ok (.arraylength, 1) := by decide +kernel
theorem dJ1_charAt_3b067_3 : decode cJ1_charAt_3b067 3 = .ok (.invokestatic 9, 3) := by decide +kernel
theorem dJ1_charAt_3b067_6 : decode cJ1_charAt_3b067 6 = .ok (.aload_n 0, 1) := by decide +kernel
theorem dJ1_charAt_3b067_7 : decode cJ1_charAt_3b067 7 = .ok (.iload_n 1, 1) := by decide +kernel
theorem dJ1_charAt_3b067_8 : decode cJ1_charAt_3b067 8 = .ok (.baload, 1) := by decide +kernel
theorem dJ1_charAt_3b067_9 : decode cJ1_charAt_3b067 9 = .ok (.sipush 255, 3) := by decide +kernel
theorem dJ1_charAt_3b067_12 : decode cJ1_charAt_3b067 12 = .ok (.iand, 1) := by decide +kernel
theorem dJ1_charAt_3b067_13 : decode cJ1_charAt_3b067 13 = .ok (.i2c, 1) := by decide +kernel
theorem dJ1_charAt_3b067_14 : decode cJ1_charAt_3b067 14 = .ok (.ireturn, 1) := by decide +kernel
set_option maxRecDepth 20000 in
theorem c_J1_charAt_3b067 {G : Gl} {d : Nat} {σ : Sg} {i : Nat} (hi : i < 5) {k : Nat} (hk : k < lnS i) : CT G (d + 2) yJ1_charAt_3b067 cJ1_charAt_3b067 2 (some .char) [.ref (gV G i), .int (iI (k : Int))] σ (R1 (.int (iI (chr i k))) σ) := by
  refine CT.of (by decide +kernel) (Nat.le_of_ble_eq_true rfl) ?_
  change AW G _ RJ1 _ _ _ 0 [(0, .ref (gV G i)), (1, .int (iI (k : Int)))] [] _ _
  have hl := lnS_le i hi
  have hc := chr_k i hi k hk
  refine A_iload_n (pc := 0) dJ1_charAt_3b067_0 rfl rfl ?_
  refine A_aload_n (pc := 1) dJ1_charAt_3b067_1 rfl rfl ?_
  refine A_klen (pc := 2) hi dJ1_charAt_3b067_2 ?_
  refine A_callS (pc := 3) (K1 := R0 σ) kJ1_9 (c_J0_checkIndex_df160 (by omega) (by omega) (by omega)) dJ1_charAt_3b067_3 rfl rfl (Nat.le_of_ble_eq_true rfl) (Nat.le_of_ble_eq_true rfl) (fun v τ1 h => ?_)
  obtain ⟨rfl, rfl⟩ := h
  change AW G _ _ _ _ _ 6 _ [] _ _
  refine A_aload_n (pc := 6) dJ1_charAt_3b067_6 rfl rfl ?_
  refine A_iload_n (pc := 7) dJ1_charAt_3b067_7 rfl rfl ?_
  refine A_kbyt (pc := 8) hi hk (by omega) dJ1_charAt_3b067_8 ?_
  refine A_sipush (pc := 9) dJ1_charAt_3b067_9 (by decide) ?_
  refine A_iand (pc := 12) (chr i k) dJ1_charAt_3b067_12 hc.1 ?_
  refine A_i2c (pc := 13) (chr i k) dJ1_charAt_3b067_13 hc.2.1 ?_
  refine A_zret (pc := 14) rfl hc.2.2.1 dJ1_charAt_3b067_14 ?_
  exact ⟨rfl, rfl⟩
theorem dJ0_charAt_5068e_0 : decode cJ0_charAt_5068e 0 = .ok (.aload_n 0, 1) := by decide +kernel
theorem dJ0_charAt_5068e_1 : decode cJ0_charAt_5068e 1 = .ok (.invokevirtual 492, 3) := by decide +kernel
theorem dJ0_charAt_5068e_4 : decode cJ0_charAt_5068e 4 = .ok (.ifCond .eq 12, 3) := by decide +kernel
theorem dJ0_charAt_5068e_7 : decode cJ0_charAt_5068e 7 = .ok (.aload_n 0, 1) := by decide +kernel
theorem dJ0_charAt_5068e_8 : decode cJ0_charAt_5068e 8 = .ok (.getfield 9, 3) := by decide +kernel
theorem dJ0_charAt_5068e_11 : decode cJ0_charAt_5068e 11 = .ok (.iload_n 1, 1) := by decide +kernel
theorem dJ0_charAt_5068e_12 : decode cJ0_charAt_5068e 12 = .ok (.invokestatic 495, 3) := by decide +kernel
theorem dJ0_charAt_5068e_15 : decode cJ0_charAt_5068e 15 = .ok (.ireturn, 1) := by decide +kernel
theorem dJ0_charAt_5068e_16 : decode cJ0_charAt_5068e 16 = .ok (.aload_n 0, 1) := by decide +kernel
theorem dJ0_charAt_5068e_17 : decode cJ0_charAt_5068e 17 = .ok (.getfield 9, 3) := by decide +kernel
theorem dJ0_charAt_5068e_20 : decode cJ0_charAt_5068e 20 = .ok (.iload_n 1, 1) := by decide +kernel
theorem dJ0_charAt_5068e_21 : decode cJ0_charAt_5068e 21 = .ok (.invokestatic 498, 3) := by decide +kernel
theorem dJ0_charAt_5068e_24 : decode cJ0_charAt_5068e 24 = .ok (.ireturn, 1) := by decide +kernel
set_option maxRecDepth 20000 in
theorem c_J0_charAt_5068e {G : Gl} {d : Nat} {σ : Sg} {i : Nat} (hi : i < 5) {k : Nat} (hk : k < lnS i) : CT G (d + 3) yJ0_charAt_5068e cJ0_charAt_5068e 2 (some .char) [.ref (gK G i), .int (iI (k : Int))] σ (R1 (.int (iI (chr i k))) σ) := by
  refine CT.of (by decide +kernel) (Nat.le_of_ble_eq_true rfl) ?_
  change AW G _ RJ0 _ _ _ 0 [(0, .ref (gK G i)), (1, .int (iI (k : Int)))] [] _ _
  have hc := chr_k i hi k hk
  refine A_aload_n (pc := 0) dJ0_charAt_5068e_0 rfl rfl ?_
  refine A_callK1 (pc := 1) kJ0_492 hi rfl (c_J0_isLatin1_aae02 hi) dJ0_charAt_5068e_1 rfl rfl (Nat.le_of_ble_eq_true rfl) (Nat.le_of_ble_eq_true rfl) ?_
  refine A_if_eq (pc := 4) 16 dJ0_charAt_5068e_4 (by decide) (by omega) (by omega) (fun h3 => ?_) (fun h3 => ?_)
  · exfalso; omega
  refine A_aload_n (pc := 7) dJ0_charAt_5068e_7 rfl rfl ?_
  refine A_kval (pc := 8) hi fJ0_9 dJ0_charAt_5068e_8 ?_
  refine A_iload_n (pc := 11) dJ0_charAt_5068e_11 rfl rfl ?_
  refine A_callS1 (pc := 12) kJ0_495 (c_J1_charAt_3b067 hi hk) dJ0_charAt_5068e_12 rfl rfl (Nat.le_of_ble_eq_true rfl) (Nat.le_of_ble_eq_true rfl) ?_
  refine A_zret (pc := 15) rfl hc.2.2.1 dJ0_charAt_5068e_15 ?_
  exact ⟨rfl, rfl⟩
