/-! ===== 67.pureC: how many things are made: bits counted ===== -/
def pk1 (M n : Nat) : Nat := n - (n / 2 &&& M)
def pk2 (M n : Nat) : Nat := (n &&& M) + (n / 4 &&& M)
def pk3 (M n : Nat) : Nat := (n + n / 16) &&& M
theorem and_s8 (x y : Nat) : x &&& y = (x % 256 &&& y % 256) + 256 * (x / 256 &&& y / 256) := by
  have h1 : (x &&& y) % 2 ^ 8 = x % 2 ^ 8 &&& y % 2 ^ 8 := Nat.and_mod_two_pow
  have h2 : (x &&& y) / 2 ^ 8 = x / 2 ^ 8 &&& y / 2 ^ 8 := Nat.and_div_two_pow
  have h3 := Nat.div_add_mod (x &&& y) 256
  rw [show (256 : Nat) = 2 ^ 8 from rfl] at h3 ⊢
  omega
theorem pk1_d : ∀ a, a < 256 → ∀ b, b < 2 → (a / 2 + 128 * b &&& 85) = (a / 2 &&& 85) ∧ (a / 2 &&& 85) ≤ a / 2 := by decide +kernel
theorem pk2_d : ∀ a, a < 256 → ∀ b, b < 4 → (a / 4 + 64 * b &&& 51) = (a / 4 &&& 51) := by decide +kernel
theorem pk3_d : ∀ a, a < 69 → ∀ b, b < 5 → (a + a / 16 + 16 * b &&& 15) = (a + a / 16 &&& 15) := by decide +kernel
theorem pk_g0 : ∀ a, a < 256 → pk2 51 (pk1 85 a) ≤ 68 ∧ pk2 51 (pk1 85 a) % 16 ≤ 4 ∧ pk1 85 a < 256 ∧ pk3 15 (pk2 51 (pk1 85 a)) = a % 2 + a / 2 % 2 + a / 2 / 2 % 2 + a / 2 / 2 / 2 % 2 + a / 2 / 2 / 2 / 2 % 2 + a / 2 / 2 / 2 / 2 / 2 % 2 + a / 2 / 2 / 2 / 2 / 2 / 2 % 2 + a / 2 / 2 / 2 / 2 / 2 / 2 / 2 % 2 := by decide +kernel
theorem bit_m {f s : Nat} (h : f < 2) : (f + 2 * s) % 2 = f := by omega
theorem bit_d {f s : Nat} (h : f < 2) : (f + 2 * s) / 2 = s := by omega
theorem pk_g (f0 : Nat) (h0 : f0 < 2) (f1 : Nat) (h1 : f1 < 2) (f2 : Nat) (h2 : f2 < 2) (f3 : Nat) (h3 : f3 < 2) (f4 : Nat) (h4 : f4 < 2) (f5 : Nat) (h5 : f5 < 2) (f6 : Nat) (h6 : f6 < 2) (f7 : Nat) (h7 : f7 < 2) :
    pk2 51 (pk1 85 (f0 + 2 * f1 + 4 * f2 + 8 * f3 + 16 * f4 + 32 * f5 + 64 * f6 + 128 * f7)) ≤ 68 ∧ pk2 51 (pk1 85 (f0 + 2 * f1 + 4 * f2 + 8 * f3 + 16 * f4 + 32 * f5 + 64 * f6 + 128 * f7)) % 16 ≤ 4 ∧ pk1 85 (f0 + 2 * f1 + 4 * f2 + 8 * f3 + 16 * f4 + 32 * f5 + 64 * f6 + 128 * f7) < 256 ∧
      pk3 15 (pk2 51 (pk1 85 (f0 + 2 * f1 + 4 * f2 + 8 * f3 + 16 * f4 + 32 * f5 + 64 * f6 + 128 * f7))) = f0 + f1 + f2 + f3 + f4 + f5 + f6 + f7 := by
  have hl : (f0 + 2 * f1 + 4 * f2 + 8 * f3 + 16 * f4 + 32 * f5 + 64 * f6 + 128 * f7) < 256 := by omega
  obtain ⟨a1, a2, a3, a4⟩ := pk_g0 (f0 + 2 * f1 + 4 * f2 + 8 * f3 + 16 * f4 + 32 * f5 + 64 * f6 + 128 * f7) hl
  refine ⟨a1, a2, a3, ?_⟩
  rw [a4]
  have hh : (f0 + 2 * f1 + 4 * f2 + 8 * f3 + 16 * f4 + 32 * f5 + 64 * f6 + 128 * f7) = f0 + 2 * (f1 + 2 * (f2 + 2 * (f3 + 2 * (f4 + 2 * (f5 + 2 * (f6 + 2 * f7)))))) := by omega
  have e7 : f7 % 2 = f7 := by omega
  rw [hh, bit_m h0, bit_d h0, bit_m h1, bit_d h1, bit_m h2, bit_d h2, bit_m h3, bit_d h3, bit_m h4, bit_d h4, bit_m h5, bit_d h5, bit_m h6, bit_d h6, e7]
theorem pk1_s {M a m : Nat} (ha : a < 256) (hM : M % 256 = 85) : pk1 M (a + 256 * m) = pk1 85 a + 256 * pk1 (M / 256) m := by
  unfold pk1
  rw [and_s8, hM, show (a + 256 * m) / 2 % 256 = a / 2 + 128 * (m % 2) by omega, show (a + 256 * m) / 2 / 256 = m / 2 by omega]
  obtain ⟨d1, d2⟩ := pk1_d a ha (m % 2) (by omega)
  have d3 : (m / 2 &&& M / 256) ≤ m / 2 := Nat.and_le_left
  omega
theorem pk2_s {M a m : Nat} (ha : a < 256) (hM : M % 256 = 51) : pk2 M (a + 256 * m) = pk2 51 a + 256 * pk2 (M / 256) m := by
  unfold pk2
  rw [and_s8, hM, and_s8 ((a + 256 * m) / 4), hM, show (a + 256 * m) / 4 % 256 = a / 4 + 64 * (m % 4) by omega, show (a + 256 * m) / 4 / 256 = m / 4 by omega, show (a + 256 * m) % 256 = a by omega, show (a + 256 * m) / 256 = m by omega, pk2_d a ha (m % 4) (by omega)]
  omega
theorem pk3_s {M a m : Nat} (ha : a ≤ 68) (hm : m % 16 ≤ 4) (hM : M % 256 = 15) : pk3 M (a + 256 * m) = pk3 15 a + 256 * pk3 (M / 256) m := by
  unfold pk3
  rw [and_s8, hM, show (a + 256 * m + (a + 256 * m) / 16) % 256 = a + a / 16 + 16 * (m % 16) by omega, show (a + 256 * m + (a + 256 * m) / 16) / 256 = m + m / 16 by omega, pk3_d a (by omega) (m % 16) (by omega)]
theorem zus_n {n k : Nat} (hn : n < 2 ^ 32) (hk : k < 32) : zus (nI n) (nI k) = nI (n / 2 ^ k) := pk_ushrN hn (nI k) k ((by decide +kernel : ∀ k, k < 32 → (((nI k).toUInt32 &&& Int32.toUInt32 31).toBitVec % 32).toNat = k) k hk)
theorem nI_and (a b : Nat) : nI a &&& nI b = nI (a &&& b) := by
  apply Int32.toBitVec_inj.1
  show BitVec.ofNat 32 a &&& BitVec.ofNat 32 b = BitVec.ofNat 32 (a &&& b)
  apply BitVec.eq_of_getLsbD_eq
  intro i hi
  simp [hi]
theorem nI_or (a b : Nat) : nI a ||| nI b = nI (a ||| b) := by
  apply Int32.toBitVec_inj.1
  show BitVec.ofNat 32 a ||| BitVec.ofNat 32 b = BitVec.ofNat 32 (a ||| b)
  apply BitVec.eq_of_getLsbD_eq
  intro i hi
  simp [hi]
