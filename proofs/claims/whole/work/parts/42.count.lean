/-! PART 42: how many bits are set; status of both -/
/-- sum of the digits -/
def dsm (b : Nat) : Nat → Nat → Nat
  | 0, _ => 0
  | n + 1, x => x % b + dsm b n (x / b)
/-- no digit above m -/
def dle (b m : Nat) : Nat → Nat → Prop
  | 0, _ => True
  | n + 1, x => x % b ≤ m ∧ dle b m n (x / b)
def msk (b m : Nat) : Nat → Nat
  | 0 => 0
  | n + 1 => b * msk b m n + m
def dmp (b : Nat) (f : Nat → Nat) : Nat → Nat → Nat
  | 0, _ => 0
  | n + 1, x => b * dmp b f n (x / b) + f (x % b)
theorem and_dig {k p q M m : Nat} (hq : q < 2 ^ k) (hm : m < 2 ^ k) : (2 ^ k * p + q) &&& (2 ^ k * M + m) = 2 ^ k * (p &&& M) + (q &&& m) := by
  apply Nat.eq_of_testBit_eq
  intro i
  have h3 : q &&& m < 2 ^ k := Nat.lt_of_le_of_lt Nat.and_le_left hq
  rw [Nat.testBit_and, Nat.testBit_two_pow_mul_add _ hq, Nat.testBit_two_pow_mul_add _ hm, Nat.testBit_two_pow_mul_add _ h3]
  split
  · rw [Nat.testBit_and]
  · rw [Nat.testBit_and]
theorem and_1 : ∀ q, q < 4 → q &&& 1 = q % 2 := by decide
theorem and_3 : ∀ q, q < 16 → q &&& 3 = q % 4 := by decide
theorem and_15 : ∀ q, q < 256 → q &&& 15 = q % 16 := by decide +kernel
/-- the first step -/
theorem pc1 : ∀ n x, x < 4 ^ n → x - (x / 2 &&& msk 4 1 n) = dmp 4 (fun d => d % 2 + d / 2) n x ∧ (x / 2 &&& msk 4 1 n) ≤ x
  | 0, x, h => by
    have h0 : x = 0 := by have : (4 : Nat) ^ 0 = 1 := rfl; omega
    subst h0; exact ⟨rfl, Nat.le_refl _⟩
  | n + 1, x, h => by
    rw [Nat.pow_succ] at h
    obtain ⟨e1, e2⟩ := pc1 n (x / 4) (by omega)
    have a := and_dig (k := 2) (p := x / 4 / 2) (q := x / 2 % 4) (M := msk 4 1 n) (m := 1) (by omega) (by omega)
    rw [and_1 _ (by omega), show (2 : Nat) ^ 2 * (x / 4 / 2) + x / 2 % 4 = x / 2 by omega] at a
    show x - (x / 2 &&& (4 * msk 4 1 n + 1)) = 4 * dmp 4 (fun d => d % 2 + d / 2) n (x / 4) + (x % 4 % 2 + x % 4 / 2) ∧ (x / 2 &&& (4 * msk 4 1 n + 1)) ≤ x
    rw [show (2 : Nat) ^ 2 = 4 from rfl] at a
    rw [a, ← e1]
    omega
theorem pc2 : ∀ n x, x < 16 ^ n → (x &&& msk 16 3 n) + (x / 4 &&& msk 16 3 n) = dmp 16 (fun d => d % 4 + d / 4) n x
  | 0, x, h => by
    have h0 : x = 0 := by have : (16 : Nat) ^ 0 = 1 := rfl; omega
    subst h0; rfl
  | n + 1, x, h => by
    rw [Nat.pow_succ] at h
    have e1 := pc2 n (x / 16) (by omega)
    have a := and_dig (k := 4) (p := x / 16) (q := x % 16) (M := msk 16 3 n) (m := 3) (by omega) (by omega)
    have a2 := and_dig (k := 4) (p := x / 16 / 4) (q := x / 4 % 16) (M := msk 16 3 n) (m := 3) (by omega) (by omega)
    rw [and_3 _ (by omega), show (2 : Nat) ^ 4 * (x / 16) + x % 16 = x by omega] at a
    rw [and_3 _ (by omega), show (2 : Nat) ^ 4 * (x / 16 / 4) + x / 4 % 16 = x / 4 by omega] at a2
    show (x &&& (16 * msk 16 3 n + 3)) + (x / 4 &&& (16 * msk 16 3 n + 3)) = 16 * dmp 16 (fun d => d % 4 + d / 4) n (x / 16) + (x % 16 % 4 + x % 16 / 4)
    rw [show (2 : Nat) ^ 4 = 16 from rfl] at a a2
    rw [a, a2, ← e1]
    omega
theorem pc3 : ∀ n x, x < 256 ^ n → dle 16 4 (2 * n) x → ((x + x / 16) &&& msk 256 15 n) = dmp 256 (fun d => d % 16 + d / 16) n x
  | 0, x, h, _ => by
    have h0 : x = 0 := by have : (256 : Nat) ^ 0 = 1 := rfl; omega
    subst h0; rfl
  | n + 1, x, h, hd => by
    rw [Nat.pow_succ] at h
    obtain ⟨d1, d2, d3⟩ : dle 16 4 (2 * n + 1 + 1) x := hd
    rw [show x / 16 / 16 = x / 256 by omega] at d3
    have e1 := pc3 n (x / 256) (by omega) d3
    have d4 : x / 256 % 16 ≤ 4 := by
      cases n with
      | zero => have : (256 : Nat) ^ 0 = 1 := rfl; omega
      | succ k => exact (show dle 16 4 (2 * k + 1 + 1) (x / 256) from d3).1
    have a := and_dig (k := 8) (p := x / 256 + x / 256 / 16) (q := 16 * (x / 256 % 16) + x % 256 + x % 256 / 16) (M := msk 256 15 n) (m := 15) (by omega) (by omega)
    rw [and_15 _ (by omega), show (2 : Nat) ^ 8 * (x / 256 + x / 256 / 16) + (16 * (x / 256 % 16) + x % 256 + x % 256 / 16) = x + x / 16 by omega] at a
    show ((x + x / 16) &&& (256 * msk 256 15 n + 15)) = 256 * dmp 256 (fun d => d % 16 + d / 16) n (x / 256) + (x % 256 % 16 + x % 256 / 16)
    rw [show (2 : Nat) ^ 8 = 256 from rfl] at a
    rw [a, ← e1]
    have k1 : x % 256 / 16 = x / 16 % 16 := by omega
    have k2 : x % 256 % 16 = x % 16 := by omega
    have k3 : (16 * (x / 256 % 16) + x % 256 + x % 256 / 16) % 16 = x % 16 + x / 16 % 16 := by rw [k1]; omega
    rw [k3, k1, k2]
theorem dmp_lt {b : Nat} {f : Nat → Nat} (hf : ∀ d, d < b → f d < b) (hb : 0 < b) : ∀ n x, dmp b f n x < b ^ n
  | 0, _ => Nat.one_pos
  | n + 1, x => by
    have h := dmp_lt hf hb n (x / b)
    have h2 := hf (x % b) (Nat.mod_lt _ hb)
    rw [Nat.pow_succ]
    show b * dmp b f n (x / b) + f (x % b) < b ^ n * b
    have h3 : b * (dmp b f n (x / b) + 1) ≤ b * b ^ n := Nat.mul_le_mul_left b h
    rw [Nat.mul_comm (b ^ n) b]
    rw [Nat.mul_add] at h3
    omega
theorem dmp_md {b : Nat} {f : Nat → Nat} (hf : ∀ d, d < b → f d < b) (hb : 0 < b) (n x : Nat) : dmp b f (n + 1) x % b = f (x % b) ∧ dmp b f (n + 1) x / b = dmp b f n (x / b) := by
  have h2 := hf (x % b) (Nat.mod_lt _ hb)
  show (b * dmp b f n (x / b) + f (x % b)) % b = _ ∧ (b * dmp b f n (x / b) + f (x % b)) / b = _
  rw [Nat.mul_add_mod, Nat.mod_eq_of_lt h2, Nat.mul_add_div hb, Nat.div_eq_of_lt h2]
  exact ⟨rfl, rfl⟩
theorem f4 : ∀ d, d < 4 → d % 2 + d / 2 < 4 := by omega
theorem f16 : ∀ d, d < 16 → d % 4 + d / 4 < 16 := by omega
theorem f256 : ∀ d, d < 256 → d % 16 + d / 16 < 256 := by omega
theorem ds1 : ∀ n x, dsm 4 n (dmp 4 (fun d => d % 2 + d / 2) n x) = dsm 2 (2 * n) x ∧ dle 4 2 n (dmp 4 (fun d => d % 2 + d / 2) n x)
  | 0, _ => ⟨rfl, trivial⟩
  | n + 1, x => by
    obtain ⟨h1, h2⟩ := dmp_md (f := fun d => d % 2 + d / 2) f4 (by decide) n x
    obtain ⟨i1, i2⟩ := ds1 n (x / 4)
    refine ⟨?_, ?_, ?_⟩
    · show dmp 4 _ (n + 1) x % 4 + dsm 4 n (dmp 4 _ (n + 1) x / 4) = x % 2 + (x / 2 % 2 + dsm 2 (2 * n) (x / 2 / 2))
      rw [h1, h2, i1, show x / 2 / 2 = x / 4 by omega]
      show x % 4 % 2 + x % 4 / 2 + _ = _
      omega
    · rw [h1]; show x % 4 % 2 + x % 4 / 2 ≤ 2; omega
    · rw [h2]; exact i2
theorem ds2 : ∀ n x, dle 4 2 (2 * n) x → dsm 16 n (dmp 16 (fun d => d % 4 + d / 4) n x) = dsm 4 (2 * n) x ∧ dle 16 4 n (dmp 16 (fun d => d % 4 + d / 4) n x)
  | 0, _, _ => ⟨rfl, trivial⟩
  | n + 1, x, hd => by
    obtain ⟨d1, d2, d3⟩ : dle 4 2 (2 * n + 1 + 1) x := hd
    rw [show x / 4 / 4 = x / 16 by omega] at d3
    obtain ⟨h1, h2⟩ := dmp_md (f := fun d => d % 4 + d / 4) f16 (by decide) n x
    obtain ⟨i1, i2⟩ := ds2 n (x / 16) d3
    refine ⟨?_, ?_, ?_⟩
    · show dmp 16 _ (n + 1) x % 16 + dsm 16 n (dmp 16 _ (n + 1) x / 16) = x % 4 + (x / 4 % 4 + dsm 4 (2 * n) (x / 4 / 4))
      rw [h1, h2, i1, show x / 4 / 4 = x / 16 by omega]
      show x % 16 % 4 + x % 16 / 4 + _ = _
      omega
    · rw [h1]; show x % 16 % 4 + x % 16 / 4 ≤ 4; omega
    · rw [h2]; exact i2
theorem ds3 : ∀ n x, dle 16 4 (2 * n) x → dsm 256 n (dmp 256 (fun d => d % 16 + d / 16) n x) = dsm 16 (2 * n) x ∧ dle 256 8 n (dmp 256 (fun d => d % 16 + d / 16) n x)
  | 0, _, _ => ⟨rfl, trivial⟩
  | n + 1, x, hd => by
    obtain ⟨d1, d2, d3⟩ : dle 16 4 (2 * n + 1 + 1) x := hd
    rw [show x / 16 / 16 = x / 256 by omega] at d3
    obtain ⟨h1, h2⟩ := dmp_md (f := fun d => d % 16 + d / 16) f256 (by decide) n x
    obtain ⟨i1, i2⟩ := ds3 n (x / 256) d3
    refine ⟨?_, ?_, ?_⟩
    · show dmp 256 _ (n + 1) x % 256 + dsm 256 n (dmp 256 _ (n + 1) x / 256) = x % 16 + (x / 16 % 16 + dsm 16 (2 * n) (x / 16 / 16))
      rw [h1, h2, i1, show x / 16 / 16 = x / 256 by omega]
      show x % 256 % 16 + x % 256 / 16 + _ = _
      omega
    · rw [h1]; show x % 256 % 16 + x % 256 / 16 ≤ 8; omega
    · rw [h2]; exact i2
theorem ds4d {b0 b1 b2 b3 b4 b5 b6 b7 c7 c6 c5 c4 c3 c2 c1 c : Nat} (g0 : b0 ≤ 8) (g1 : b1 ≤ 8) (g2 : b2 ≤ 8) (g3 : b3 ≤ 8) (g4 : b4 ≤ 8) (g5 : b5 ≤ 8) (g6 : b6 ≤ 8) (g7 : b7 ≤ 8)
  (h7 : c7 = b7) (h6 : c6 = 256 * c7 + b6) (h5 : c5 = 256 * c6 + b5) (h4 : c4 = 256 * c5 + b4) (h3 : c3 = 256 * c4 + b3) (h2 : c2 = 256 * c3 + b2) (h1 : c1 = 256 * c2 + b1) (h0 : c = 256 * c1 + b0) :
  ((c + c1) + (c + c1) / 65536 + ((c + c1) + (c + c1) / 65536) / 4294967296) % 128 = b0 + b1 + b2 + b3 + b4 + b5 + b6 + b7 := by
  have k1 : (c + c1) / 65536 = c2 + c3 := by
    have : c + c1 = 65536 * (c2 + c3) + (256 * (b1 + b2) + (b0 + b1)) := by rw [h0, h1, h2]; omega
    rw [this]; omega
  rw [k1]
  have k2 : (c + c1 + (c2 + c3)) / 4294967296 = (c4 + c5) + (c6 + c7) := by
    have k3 : c + c1 = 4294967296 * (c4 + c5) + (16777216 * (b3 + b4) + 65536 * (b2 + b3) + 256 * (b1 + b2) + (b0 + b1)) := by rw [h0, h1, h2, h3, h4]; omega
    have k4 : c2 + c3 = 4294967296 * (c6 + c7) + (16777216 * (b5 + b6) + 65536 * (b4 + b5) + 256 * (b3 + b4) + (b2 + b3)) := by rw [h2, h3, h4, h5, h6]; omega
    rw [k3, k4]
    clear h0 h1 h2 h3 h4 h5 h6 h7 k1 k3 k4
    generalize c4 + c5 = P
    generalize c6 + c7 = Q
    omega
  rw [k2]
  have m0 : c % 128 = b0 := by clear k1 k2 h1 h2 h3 h4 h5 h6 h7; omega
  have m1 : c1 % 128 = b1 := by clear k1 k2 h0 h2 h3 h4 h5 h6 h7; omega
  have m2 : c2 % 128 = b2 := by clear k1 k2 h0 h1 h3 h4 h5 h6 h7; omega
  have m3 : c3 % 128 = b3 := by clear k1 k2 h0 h1 h2 h4 h5 h6 h7; omega
  have m4 : c4 % 128 = b4 := by clear k1 k2 h0 h1 h2 h3 h5 h6 h7; omega
  have m5 : c5 % 128 = b5 := by clear k1 k2 h0 h1 h2 h3 h4 h6 h7; omega
  have m6 : c6 % 128 = b6 := by clear k1 k2 h0 h1 h2 h3 h4 h5 h7; omega
  have m7 : c7 % 128 = b7 := by clear k1 k2 h0 h1 h2 h3 h4 h5 h6; omega
  clear k1 k2 h0 h1 h2 h3 h4 h5 h6 h7
  omega
theorem dsm_8 {c : Nat} (hc : c < 256 ^ 8) (hd : dle 256 8 8 c) : (c + c / 256 + (c + c / 256) / 65536 + (c + c / 256 + (c + c / 256) / 65536) / 4294967296) % 128 = dsm 256 8 c := by
  have k : ∀ n x, x < 256 ^ (n + 1) → x / 256 < 256 ^ n := fun n x h => Nat.div_lt_of_lt_mul (by rw [Nat.mul_comm, ← Nat.pow_succ]; exact h)
  have hc7 := k 1 _ (k 2 _ (k 3 _ (k 4 _ (k 5 _ (k 6 _ (k 7 _ hc))))))
  obtain ⟨g0, g1, g2, g3, g4, g5, g6, g7, -⟩ := hd
  have h7 : c / 256 / 256 / 256 / 256 / 256 / 256 / 256 = c / 256 / 256 / 256 / 256 / 256 / 256 / 256 % 256 := (Nat.mod_eq_of_lt hc7).symm
  have q := fun x : Nat => (Nat.div_add_mod x 256).symm
  have e := ds4d g0 g1 g2 g3 g4 g5 g6 g7 h7 (q _) (q _) (q _) (q _) (q _) (q _) (q c)
  show _ = c % 256 + (c / 256 % 256 + (c / 256 / 256 % 256 + (c / 256 / 256 / 256 % 256 + (c / 256 / 256 / 256 / 256 % 256 + (c / 256 / 256 / 256 / 256 / 256 % 256 + (c / 256 / 256 / 256 / 256 / 256 / 256 % 256 + (c / 256 / 256 / 256 / 256 / 256 / 256 / 256 % 256 + 0)))))))
  rw [e]
  simp only [Nat.add_assoc, Nat.add_zero]
theorem dle_16 : ∀ n x, x < 16 ^ n → dle 16 4 n x → 15 * x + 4 ≤ 4 * 16 ^ n
  | 0, x, h, _ => by have : (16 : Nat) ^ 0 = 1 := rfl; omega
  | n + 1, x, h, hd => by
    rw [Nat.pow_succ] at h ⊢
    have i := dle_16 n (x / 16) (by omega) hd.2
    have j := hd.1
    omega
theorem dle_256 : ∀ n x, x < 256 ^ n → dle 256 8 n x → 255 * x + 8 ≤ 8 * 256 ^ n
  | 0, x, h, _ => by have : (256 : Nat) ^ 0 = 1 := rfl; omega
  | n + 1, x, h, hd => by
    rw [Nat.pow_succ] at h ⊢
    have i := dle_256 n (x / 256) (by omega) hd.2
    have j := hd.1
    omega
theorem lsh_L {h k : Nat} (hh : h < 2 ^ 64) (hk : k < 64) : lsh (lN h) (iI (k : Int)) = lN (h / 2 ^ k) := by
  unfold lsh
  rw [iI_n]; exact wb_shr hh hk
theorem L_add (a b : Nat) : lN a + lN b = lN (a + b) := wb_inj (by
  show (lN a).toBitVec + (lN b).toBitVec = _
  rw [wb_tb, wb_tb, wb_tb, BitVec.ofNat_add])
theorem L_sub {a b : Nat} (h : b ≤ a) : lN a - lN b = lN (a - b) := by
  have e : lN a = lN (a - b) + lN b := by rw [L_add, Nat.sub_add_cancel h]
  rw [e]
  apply wb_inj
  show (lN (a - b)).toBitVec + (lN b).toBitVec - (lN b).toBitVec = _
  rw [BitVec.add_sub_cancel]
theorem msk_4 : (6148914691236517205 : Int64) = lN (msk 4 1 32) ∧ msk 4 1 32 < 2 ^ 64 := by decide +kernel
theorem msk_16 : (3689348814741910323 : Int64) = lN (msk 16 3 16) ∧ msk 16 3 16 < 2 ^ 64 := by decide +kernel
theorem msk_256 : (1085102592571150095 : Int64) = lN (msk 256 15 8) ∧ msk 256 15 8 < 2 ^ 64 := by decide +kernel
theorem p64 : (4 : Nat) ^ 32 = 2 ^ 64 ∧ (16 : Nat) ^ 16 = 2 ^ 64 ∧ (256 : Nat) ^ 8 = 2 ^ 64 := by decide
theorem bcG_L {h : Nat} (hh : h < 2 ^ 64) : ∃ g, g < 2 ^ 64 ∧ bcG (lN h) = lN g ∧ g % 128 = dsm 2 64 h := by
  obtain ⟨p1, p2, p3⟩ := p64
  have p4 := pow64
  obtain ⟨a1, a2⟩ := pc1 32 h (by rw [p1]; exact hh)
  have al := dmp_lt f4 (by decide) 32 h
  rw [p1] at al
  have ad := ds1 32 h
  generalize hA : dmp 4 (fun d => d % 2 + d / 2) 32 h = A at a1 al ad
  have b1 := pc2 16 A (by rw [p2]; exact al)
  have bl := dmp_lt f16 (by decide) 16 A
  rw [p2] at bl
  have bd := ds2 16 A ad.2
  generalize hB : dmp 16 (fun d => d % 4 + d / 4) 16 A = B at b1 bl bd
  have b3 := dle_16 16 B (by rw [p2]; exact bl) bd.2
  rw [p2] at b3
  have c1 := pc3 8 B (by rw [p3]; exact bl) bd.2
  have cl := dmp_lt f256 (by decide) 8 B
  rw [p3] at cl
  have cd := ds3 8 B bd.2
  generalize hC : dmp 256 (fun d => d % 16 + d / 16) 8 B = C at c1 cl cd
  have c3 := dle_256 8 C (by rw [p3]; exact cl) cd.2
  rw [p3] at c3
  have e1 := dsm_8 (by rw [p3]; exact cl) cd.2
  have s1 : lN h - (lsh (lN h) (iI 1) &&& 6148914691236517205) = lN A := by
    have z := lsh_L hh (k := 1) (by decide)
    rw [show (iI ((1 : Nat) : Int)) = iI 1 from rfl, show h / 2 ^ 1 = h / 2 from rfl] at z
    rw [z, msk_4.1, wb_and (by omega) msk_4.2, L_sub a2, a1]
  have s2 : (lN A &&& 3689348814741910323) + (lsh (lN A) (iI 2) &&& 3689348814741910323) = lN B := by
    have z := lsh_L al (k := 2) (by decide)
    rw [show (iI ((2 : Nat) : Int)) = iI 2 from rfl, show A / 2 ^ 2 = A / 4 from rfl] at z
    rw [z, msk_16.1, wb_and al msk_16.2, wb_and (by omega) msk_16.2, L_add, b1]
  have s3 : (lN B + lsh (lN B) (iI 4)) &&& 1085102592571150095 = lN C := by
    have z := lsh_L bl (k := 4) (by decide)
    rw [show (iI ((4 : Nat) : Int)) = iI 4 from rfl, show B / 2 ^ 4 = B / 16 from rfl] at z
    rw [z, L_add, msk_256.1, wb_and (by omega) msk_256.2, c1]
  have s4 : lN C + lsh (lN C) (iI 8) = lN (C + C / 256) := by
    have z := lsh_L cl (k := 8) (by decide)
    rw [show (iI ((8 : Nat) : Int)) = iI 8 from rfl, show C / 2 ^ 8 = C / 256 from rfl] at z
    rw [z, L_add]
  have s5 : lN (C + C / 256) + lsh (lN (C + C / 256)) (iI 16) = lN (C + C / 256 + (C + C / 256) / 65536) := by
    have z := lsh_L (h := C + C / 256) (by omega) (k := 16) (by decide)
    rw [show (iI ((16 : Nat) : Int)) = iI 16 from rfl, show (C + C / 256) / 2 ^ 16 = (C + C / 256) / 65536 from rfl] at z
    rw [z, L_add]
  have s6 : lN (C + C / 256 + (C + C / 256) / 65536) + lsh (lN (C + C / 256 + (C + C / 256) / 65536)) (iI 32) = lN (C + C / 256 + (C + C / 256) / 65536 + (C + C / 256 + (C + C / 256) / 65536) / 4294967296) := by
    have z := lsh_L (h := C + C / 256 + (C + C / 256) / 65536) (by omega) (k := 32) (by decide)
    rw [show (iI ((32 : Nat) : Int)) = iI 32 from rfl, show (C + C / 256 + (C + C / 256) / 65536) / 2 ^ 32 = (C + C / 256 + (C + C / 256) / 65536) / 4294967296 from rfl] at z
    rw [z, L_add]
  refine ⟨_, ?_, ?_, e1.trans (cd.1.trans (bd.1.trans ad.1))⟩
  · clear e1 s1 s2 s3 s4 s5 s6
    omega
  · unfold bcG
    simp only []
    rw [s1, s2, s3, s4, s5, s6]
theorem bc64_L {h : Nat} (hh : h < 2 ^ 64) : bc64 (lN h) = ((dsm 2 64 h : Nat) : Int) := by
  obtain ⟨g, g1, g2, g3⟩ := bcG_L hh
  unfold bc64
  rw [g2, pk_and _ 7 (by decide), nI_toInt (Nat.lt_of_lt_of_le (Nat.mod_lt _ (Nat.two_pow_pos 7)) (by decide)), ← g3]
  have e : (lN g).toInt32.toBitVec.toNat % 2 ^ 7 = g % 128 := by
    have e2 : (lN g).toInt32.toBitVec = BitVec.setWidth 32 (lN g).toBitVec := by
      rw [Int64.toBitVec_toInt32, BitVec.signExtend_eq_setWidth_of_le _ (by decide)]
    rw [e2, BitVec.toNat_setWidth, wb_tn g1]
    omega
  rw [e]
theorem cntR_dsm (h : Nat) : ∀ n i, cntR (fun j => h.testBit j) n i = ((dsm 2 n (h / 2 ^ i) : Nat) : Int)
  | 0, _ => rfl
  | n + 1, i => by
    rw [cntR, cntR_dsm h n (i + 1)]
    show _ = ((h / 2 ^ i % 2 + dsm 2 n (h / 2 ^ i / 2) : Nat) : Int)
    rw [Nat.div_div_eq_div_mul, ← Nat.pow_succ, tb_dec, show i.succ = i + 1 from rfl]
    have hm := Nat.mod_lt (h / 2 ^ i) (show 0 < 2 by decide)
    by_cases e : h / 2 ^ i % 2 = 1
    · rw [if_pos (decide_eq_true e), e]; omega
    · rw [if_neg (fun q => e (of_decide_eq_true q))]; omega
theorem dsm_0 : ∀ n, dsm 2 n 0 = 0
  | 0 => rfl
  | n + 1 => by
    show 0 % 2 + dsm 2 n (0 / 2) = 0
    rw [Nat.zero_div, dsm_0 n]
theorem dsm_pad : ∀ n x m, x < 2 ^ n → dsm 2 (n + m) x = dsm 2 n x
  | 0, x, m, h => by
    have h0 : x = 0 := by have : (2 : Nat) ^ 0 = 1 := rfl; omega
    subst h0; rw [Nat.zero_add, dsm_0]; rfl
  | n + 1, x, m, h => by
    rw [Nat.pow_succ] at h
    rw [show n + 1 + m = n + m + 1 by omega]
    show x % 2 + dsm 2 (n + m) (x / 2) = x % 2 + dsm 2 n (x / 2)
    rw [dsm_pad n (x / 2) m (by omega)]
theorem bc64_cnt {h : Nat} (hh : h < 2 ^ 49) : bc64 (lN h) = cntR (fun j => h.testBit j) 49 0 := by
  rw [bc64_L (lt64 hh), cntR_dsm, show 64 = 49 + 15 from rfl, dsm_pad 49 h 15 hh, Nat.pow_zero, Nat.div_one]
