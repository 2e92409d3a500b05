/-! ===== 67.pureC: how many things are made: bits counted ===== -/
def pk1 (M n : Nat) : Nat := n - (n / 2 &&& M)
def pk2 (M n : Nat) : Nat := (n &&& M) + (n / 4 &&& M)
def pk3 (M n : Nat) : Nat := (n + n / 16) &&& M
theorem and_s8 (x y : Nat) : x &&& y = (x % 256 &&& y % 256) + 256 * (x / 256 &&& y / 256) := by
  have h1 : (x &&& y) % 2 ^ 8 = x % 2 ^ 8 &&& y % 2 ^ 8 := Nat.and_mod_two_pow
  have h2 : (x &&& y) / 2 ^ 8 = x / 2 ^ 8 &&& y / 2 ^ 8 := Nat.and_div_two_pow
  have h3 := Nat.div_add_mod (x &&& y) 256
  rw [show (256 : Nat) = 2 ^ 8 from rfl] at h3 ⊢
  omega
theorem pk1_d : ∀ a, a < 256 → ∀ b, b < 2 → (a / 2 + 128 * b &&& 85) = (a / 2 &&& 85) ∧ (a / 2 &&& 85) ≤ a / 2 := by decide +kernel
theorem pk2_d : ∀ a, a < 256 → ∀ b, b < 4 → (a / 4 + 64 * b &&& 51) = (a / 4 &&& 51) := by decide +kernel
theorem pk3_d : ∀ a, a < 69 → ∀ b, b < 5 → (a + a / 16 + 16 * b &&& 15) = (a + a / 16 &&& 15) := by decide +kernel
theorem pk_g0 : ∀ a, a < 256 → pk2 51 (pk1 85 a) ≤ 68 ∧ pk2 51 (pk1 85 a) % 16 ≤ 4 ∧ pk1 85 a < 256 ∧ pk3 15 (pk2 51 (pk1 85 a)) = a % 2 + a / 2 % 2 + a / 4 % 2 + a / 8 % 2 + a / 16 % 2 + a / 32 % 2 + a / 64 % 2 + a / 128 % 2 := by decide +kernel
theorem pk_g (f0 : Nat) (h0 : f0 < 2) (f1 : Nat) (h1 : f1 < 2) (f2 : Nat) (h2 : f2 < 2) (f3 : Nat) (h3 : f3 < 2) (f4 : Nat) (h4 : f4 < 2) (f5 : Nat) (h5 : f5 < 2) (f6 : Nat) (h6 : f6 < 2) (f7 : Nat) (h7 : f7 < 2) :
    pk2 51 (pk1 85 (f0 + 2 * f1 + 4 * f2 + 8 * f3 + 16 * f4 + 32 * f5 + 64 * f6 + 128 * f7)) ≤ 68 ∧ pk2 51 (pk1 85 (f0 + 2 * f1 + 4 * f2 + 8 * f3 + 16 * f4 + 32 * f5 + 64 * f6 + 128 * f7)) % 16 ≤ 4 ∧ pk1 85 (f0 + 2 * f1 + 4 * f2 + 8 * f3 + 16 * f4 + 32 * f5 + 64 * f6 + 128 * f7) < 256 ∧
      pk3 15 (pk2 51 (pk1 85 (f0 + 2 * f1 + 4 * f2 + 8 * f3 + 16 * f4 + 32 * f5 + 64 * f6 + 128 * f7))) = f0 + f1 + f2 + f3 + f4 + f5 + f6 + f7 := by
  obtain ⟨a1, a2, a3, a4⟩ := pk_g0 (f0 + 2 * f1 + 4 * f2 + 8 * f3 + 16 * f4 + 32 * f5 + 64 * f6 + 128 * f7) (by omega)
  refine ⟨a1, a2, a3, ?_⟩
  rw [a4]
  have e0 : (f0 + 2 * f1 + 4 * f2 + 8 * f3 + 16 * f4 + 32 * f5 + 64 * f6 + 128 * f7) % 2 = f0 := by omega
  have e1 : (f0 + 2 * f1 + 4 * f2 + 8 * f3 + 16 * f4 + 32 * f5 + 64 * f6 + 128 * f7) / 2 % 2 = f1 := by omega
  have e2 : (f0 + 2 * f1 + 4 * f2 + 8 * f3 + 16 * f4 + 32 * f5 + 64 * f6 + 128 * f7) / 4 % 2 = f2 := by omega
  have e3 : (f0 + 2 * f1 + 4 * f2 + 8 * f3 + 16 * f4 + 32 * f5 + 64 * f6 + 128 * f7) / 8 % 2 = f3 := by omega
  have e4 : (f0 + 2 * f1 + 4 * f2 + 8 * f3 + 16 * f4 + 32 * f5 + 64 * f6 + 128 * f7) / 16 % 2 = f4 := by omega
  have e5 : (f0 + 2 * f1 + 4 * f2 + 8 * f3 + 16 * f4 + 32 * f5 + 64 * f6 + 128 * f7) / 32 % 2 = f5 := by omega
  have e6 : (f0 + 2 * f1 + 4 * f2 + 8 * f3 + 16 * f4 + 32 * f5 + 64 * f6 + 128 * f7) / 64 % 2 = f6 := by omega
  have e7 : (f0 + 2 * f1 + 4 * f2 + 8 * f3 + 16 * f4 + 32 * f5 + 64 * f6 + 128 * f7) / 128 % 2 = f7 := by omega
  rw [e0, e1, e2, e3, e4, e5, e6, e7]
theorem pk1_s {M a m : Nat} (ha : a < 256) (hM : M % 256 = 85) : pk1 M (a + 256 * m) = pk1 85 a + 256 * pk1 (M / 256) m := by
  unfold pk1
  rw [and_s8, hM, show (a + 256 * m) / 2 % 256 = a / 2 + 128 * (m % 2) by omega, show (a + 256 * m) / 2 / 256 = m / 2 by omega]
  obtain ⟨d1, d2⟩ := pk1_d a ha (m % 2) (by omega)
  have d3 : (m / 2 &&& M / 256) ≤ m / 2 := Nat.and_le_left
  omega
theorem pk2_s {M a m : Nat} (ha : a < 256) (hM : M % 256 = 51) : pk2 M (a + 256 * m) = pk2 51 a + 256 * pk2 (M / 256) m := by
  unfold pk2
  rw [and_s8, hM, and_s8 ((a + 256 * m) / 4), hM, show (a + 256 * m) / 4 % 256 = a / 4 + 64 * (m % 4) by omega, show (a + 256 * m) / 4 / 256 = m / 4 by omega, show (a + 256 * m) % 256 = a by omega, show (a + 256 * m) / 256 = m by omega, pk2_d a ha (m % 4) (by omega)]
  omega
theorem pk3_s {M a m : Nat} (ha : a ≤ 68) (hm : m % 16 ≤ 4) (hM : M % 256 = 15) : pk3 M (a + 256 * m) = pk3 15 a + 256 * pk3 (M / 256) m := by
  unfold pk3
  rw [and_s8, hM, show (a + 256 * m + (a + 256 * m) / 16) % 256 = a + a / 16 + 16 * (m % 16) by omega, show (a + 256 * m + (a + 256 * m) / 16) / 256 = m + m / 16 by omega, pk3_d a (by omega) (m % 16) (by omega)]
theorem zus_n {n k : Nat} (hn : n < 2 ^ 32) (hk : k < 32) : zus (nI n) (nI k) = nI (n / 2 ^ k) := pk_ushrN hn (nI k) k ((by decide +kernel : ∀ k, k < 32 → (((nI k).toUInt32 &&& Int32.toUInt32 31).toBitVec % 32).toNat = k) k hk)
theorem nI_and (a b : Nat) : nI a &&& nI b = nI (a &&& b) := by
  apply Int32.toBitVec_inj.1
  show BitVec.ofNat 32 a &&& BitVec.ofNat 32 b = BitVec.ofNat 32 (a &&& b)
  apply BitVec.eq_of_getLsbD_eq
  intro i hi
  simp [hi]
theorem nI_or (a b : Nat) : nI a ||| nI b = nI (a ||| b) := by
  apply Int32.toBitVec_inj.1
  show BitVec.ofNat 32 a ||| BitVec.ofNat 32 b = BitVec.ofNat 32 (a ||| b)
  apply BitVec.eq_of_getLsbD_eq
  intro i hi
  simp [hi]
/-- the bits of a small number, counted -/
theorem cBits_n (f : Nat → Nat) (hf : ∀ i, f i < 2) : cBits (nI (f 0 + 2 * f 1 + 4 * f 2 + 8 * f 3 + 16 * f 4 + 32 * f 5 + 64 * f 6 + 128 * f 7 + 256 * (f 8 + 2 * f 9 + 4 * f 10 + 8 * f 11 + 16 * f 12 + 32 * f 13 + 64 * f 14 + 128 * f 15 + 256 * (f 16 + 2 * f 17 + 4 * f 18 + 8 * f 19)))) =
    nI (f 0 + f 1 + f 2 + f 3 + f 4 + f 5 + f 6 + f 7 + f 8 + f 9 + f 10 + f 11 + f 12 + f 13 + f 14 + f 15 + f 16 + f 17 + f 18 + f 19) := by
  obtain ⟨a1, a2, a3, a4⟩ := pk_g (f 0) (hf 0) (f 1) (hf 1) (f 2) (hf 2) (f 3) (hf 3) (f 4) (hf 4) (f 5) (hf 5) (f 6) (hf 6) (f 7) (hf 7)
  obtain ⟨b1, b2, b3, b4⟩ := pk_g (f 8) (hf 8) (f 9) (hf 9) (f 10) (hf 10) (f 11) (hf 11) (f 12) (hf 12) (f 13) (hf 13) (f 14) (hf 14) (f 15) (hf 15)
  obtain ⟨c1, c2, c3, c4⟩ := pk_g (f 16) (hf 16) (f 17) (hf 17) (f 18) (hf 18) (f 19) (hf 19) 0 (by decide) 0 (by decide) 0 (by decide) 0 (by decide)
  have ha : f 0 + 2 * f 1 + 4 * f 2 + 8 * f 3 + 16 * f 4 + 32 * f 5 + 64 * f 6 + 128 * f 7 < 256 := by
    have := hf 0; have := hf 1; have := hf 2; have := hf 3; have := hf 4; have := hf 5; have := hf 6; have := hf 7
    omega
  have hb : f 8 + 2 * f 9 + 4 * f 10 + 8 * f 11 + 16 * f 12 + 32 * f 13 + 64 * f 14 + 128 * f 15 < 256 := by
    have := hf 8; have := hf 9; have := hf 10; have := hf 11; have := hf 12; have := hf 13; have := hf 14; have := hf 15
    omega
  have hc : f 16 + 2 * f 17 + 4 * f 18 + 8 * f 19 < 16 := by
    have := hf 16; have := hf 17; have := hf 18; have := hf 19
    omega
  have hs : f 0 + f 1 + f 2 + f 3 + f 4 + f 5 + f 6 + f 7 ≤ 8 := by
    have := hf 0; have := hf 1; have := hf 2; have := hf 3; have := hf 4; have := hf 5; have := hf 6; have := hf 7
    omega
  have hs2 : f 8 + f 9 + f 10 + f 11 + f 12 + f 13 + f 14 + f 15 ≤ 8 := by
    have := hf 8; have := hf 9; have := hf 10; have := hf 11; have := hf 12; have := hf 13; have := hf 14; have := hf 15
    omega
  have hs3 : f 16 + f 17 + f 18 + f 19 ≤ 4 := by
    have := hf 16; have := hf 17; have := hf 18; have := hf 19
    omega
  simp only [Nat.mul_zero, Nat.add_zero] at c1 c2 c3 c4
  generalize f 0 + 2 * f 1 + 4 * f 2 + 8 * f 3 + 16 * f 4 + 32 * f 5 + 64 * f 6 + 128 * f 7 = a at ha a1 a2 a3 a4 ⊢
  generalize f 8 + 2 * f 9 + 4 * f 10 + 8 * f 11 + 16 * f 12 + 32 * f 13 + 64 * f 14 + 128 * f 15 = b at hb b1 b2 b3 b4 ⊢
  generalize f 16 + 2 * f 17 + 4 * f 18 + 8 * f 19 = c at hc c1 c2 c3 c4 ⊢
  have hle : ∀ x y : Nat, (x &&& y) ≤ x := fun x y => Nat.and_le_left
  have e1 : cB1 (nI (a + 256 * (b + 256 * c))) = nI (pk1 1431655765 (a + 256 * (b + 256 * c))) := by
    unfold cB1 pk1
    rw [show (1 : Int32) = nI 1 from rfl, zus_n (by omega) (by decide), show (1431655765 : Int32) = nI 1431655765 from rfl, nI_and, pk_sub]
    have := hle ((a + 256 * (b + 256 * c)) / 2 ^ 1) 1431655765
    omega
  have s1 : pk1 1431655765 (a + 256 * (b + 256 * c)) = pk1 85 a + 256 * (pk1 85 b + 256 * pk1 21845 c) := by rw [pk1_s ha rfl, pk1_s hb rfl]
  have t1 : pk1 21845 c = pk1 85 c := by
    have := (by decide +kernel : ∀ c, c < 16 → pk1 21845 c = pk1 85 c) c hc
    exact this
  rw [t1] at s1
  have e2 : ∀ n, n < 2 ^ 24 → cB2 (nI n) = nI (pk2 858993459 n) := by
    intro n hn
    unfold cB2 pk2
    rw [show (2 : Int32) = nI 2 from rfl, zus_n (by omega) (by decide), show (858993459 : Int32) = nI 858993459 from rfl, nI_and, nI_and, nI_add]
  have s2 : pk2 858993459 (pk1 85 a + 256 * (pk1 85 b + 256 * pk1 85 c)) = pk2 51 (pk1 85 a) + 256 * (pk2 51 (pk1 85 b) + 256 * pk2 51 (pk1 85 c)) := by
    rw [pk2_s a3 rfl, pk2_s b3 rfl]
    have := (by decide +kernel : ∀ c, c < 16 → pk2 (858993459 / 256 / 256) (pk1 85 c) = pk2 51 (pk1 85 c)) c hc
    rw [this]
  have e3 : ∀ n, n < 2 ^ 24 → cB3 (nI n) = nI (pk3 252645135 n) := by
    intro n hn
    unfold cB3 pk3
    rw [show (4 : Int32) = nI 4 from rfl, zus_n (by omega) (by decide), nI_add, show (252645135 : Int32) = nI 252645135 from rfl, nI_and]
  have s3 : pk3 252645135 (pk2 51 (pk1 85 a) + 256 * (pk2 51 (pk1 85 b) + 256 * pk2 51 (pk1 85 c))) = pk3 15 (pk2 51 (pk1 85 a)) + 256 * (pk3 15 (pk2 51 (pk1 85 b)) + 256 * pk3 15 (pk2 51 (pk1 85 c))) := by
    rw [pk3_s a1 (by omega) rfl, pk3_s b1 (by omega) rfl]
    have := (by decide +kernel : ∀ c, c < 16 → pk3 (252645135 / 256 / 256) (pk2 51 (pk1 85 c)) = pk3 15 (pk2 51 (pk1 85 c))) c hc
    rw [this]
  unfold cBits
  rw [e1, s1, e2 _ (by omega), s2, e3 _ (by omega), s3, a4, b4, c4]
  generalize f 0 + f 1 + f 2 + f 3 + f 4 + f 5 + f 6 + f 7 = x at hs ⊢
  have hy : ∃ y, y = f 8 + f 9 + f 10 + f 11 + f 12 + f 13 + f 14 + f 15 := ⟨_, rfl⟩
  obtain ⟨y, hy⟩ := hy
  have hz : ∃ z, z = f 16 + f 17 + f 18 + f 19 := ⟨_, rfl⟩
  obtain ⟨z, hz⟩ := hz
  rw [show x + f 8 + f 9 + f 10 + f 11 + f 12 + f 13 + f 14 + f 15 + f 16 + f 17 + f 18 + f 19 = x + y + z by omega, ← hy, ← hz]
  have hy8 : y ≤ 8 := by omega
  have hz4 : z ≤ 4 := by omega
  unfold cB5 cB4
  rw [show (8 : Int32) = nI 8 from rfl, zus_n (by omega) (by decide), nI_add, show (16 : Int32) = nI 16 from rfl, zus_n (by omega) (by decide), nI_add, show (63 : Int32) = nI (2 ^ 6 - 1) from rfl, nI_and, Nat.and_two_pow_sub_one_eq_mod]
  refine congrArg nI ?_
  omega
def eSetN (f : Nat → Nat) : Nat → Nat
  | 0 => 0
  | k + 1 => eSetN f k + 2 ^ k * f k
def eCntN (f : Nat → Nat) : Nat → Nat
  | 0 => 0
  | k + 1 => eCntN f k + f k
theorem eSetN_lt {f : Nat → Nat} (hf : ∀ i, f i < 2) : ∀ k, eSetN f k < 2 ^ k := by
  intro k
  induction k with
  | zero => exact Nat.one_pos
  | succ k ih =>
    have h1 := hf k
    have h2 : 2 ^ (k + 1) = 2 ^ k * 2 := Nat.pow_succ 2 k
    have h3 : f k = 0 ∨ f k = 1 := by omega
    show eSetN f k + 2 ^ k * f k < _
    rcases h3 with h3 | h3
    · rw [h3, Nat.mul_zero]
      omega
    · rw [h3, Nat.mul_one]
      omega
/-- the number of recipes, both sides -/
theorem eRecipes {B : Nat → Nat → Int32} {w : Nat → Int32} (cx : eCx B w) : cBits (bMadeSet B) = mRecipes w 20 := by
  rw [eMadeSet cx]
  have hf : ∀ i, (fun t => if eWy w t = 0 then 0 else 1) i < 2 := fun i => by
    dsimp only
    split <;> omega
  have h1 : ∀ n, n ≤ 20 → mMadeSet w n = nI (eSetN (fun t => if eWy w t = 0 then 0 else 1) n) ∧ mRecipes w n = nI (eCntN (fun t => if eWy w t = 0 then 0 else 1) n) := by
    intro n
    unfold mMadeSet mRecipes
    induction n with
    | zero => exact fun _ => ⟨rfl, rfl⟩
    | succ n ih =>
      intro hn
      obtain ⟨i1, i2⟩ := ih (by omega)
      have hlt := eSetN_lt hf n
      rw [it_s, it_s, i1, i2, cx.1.made (by omega)]
      have esh : (1 : Int32) <<< (nI n &&& 31) = nI (2 ^ n) := by
        have := (by decide +kernel : ∀ n, n < 20 → (1 : Int32) <<< (nI n &&& 31) = nI (2 ^ n)) n (by omega)
        exact this
      rw [esh]
      show _ = nI (eSetN _ n + 2 ^ n * (if eWy w n = 0 then 0 else 1)) ∧ _ = nI (eCntN _ n + (if eWy w n = 0 then 0 else 1))
      by_cases e : eWy w n = 0
      · rw [if_pos e, if_pos rfl, if_pos e, Int32.or_zero, Nat.mul_zero, Nat.add_zero, Nat.add_zero, Int32.add_zero]
        exact ⟨rfl, rfl⟩
      · rw [if_neg e, if_neg (by decide), if_neg e, nI_or, nI_1, Nat.mul_one]
        refine ⟨congrArg nI ?_, rfl⟩
        rw [Nat.or_comm, Nat.add_comm]
        have := Nat.two_pow_add_eq_or_of_lt hlt 1
        rw [Nat.mul_one] at this
        exact this.symm
  obtain ⟨g1, g2⟩ := h1 20 (Nat.le_refl _)
  rw [g1, g2]
  have := cBits_n (fun t => if eWy w t = 0 then 0 else 1) hf
  have e1 : eSetN (fun t => if eWy w t = 0 then 0 else 1) 20 = (fun t => if eWy w t = 0 then 0 else 1) 0 + 2 * (fun t => if eWy w t = 0 then 0 else 1) 1 + 4 * (fun t => if eWy w t = 0 then 0 else 1) 2 + 8 * (fun t => if eWy w t = 0 then 0 else 1) 3 + 16 * (fun t => if eWy w t = 0 then 0 else 1) 4 + 32 * (fun t => if eWy w t = 0 then 0 else 1) 5 + 64 * (fun t => if eWy w t = 0 then 0 else 1) 6 + 128 * (fun t => if eWy w t = 0 then 0 else 1) 7 + 256 * ((fun t => if eWy w t = 0 then 0 else 1) 8 + 2 * (fun t => if eWy w t = 0 then 0 else 1) 9 + 4 * (fun t => if eWy w t = 0 then 0 else 1) 10 + 8 * (fun t => if eWy w t = 0 then 0 else 1) 11 + 16 * (fun t => if eWy w t = 0 then 0 else 1) 12 + 32 * (fun t => if eWy w t = 0 then 0 else 1) 13 + 64 * (fun t => if eWy w t = 0 then 0 else 1) 14 + 128 * (fun t => if eWy w t = 0 then 0 else 1) 15 + 256 * ((fun t => if eWy w t = 0 then 0 else 1) 16 + 2 * (fun t => if eWy w t = 0 then 0 else 1) 17 + 4 * (fun t => if eWy w t = 0 then 0 else 1) 18 + 8 * (fun t => if eWy w t = 0 then 0 else 1) 19)) := by
    generalize (fun t => if eWy w t = 0 then 0 else 1) = f
    simp only [eSetN]
    omega
  have e2 : eCntN (fun t => if eWy w t = 0 then 0 else 1) 20 = (fun t => if eWy w t = 0 then 0 else 1) 0 + (fun t => if eWy w t = 0 then 0 else 1) 1 + (fun t => if eWy w t = 0 then 0 else 1) 2 + (fun t => if eWy w t = 0 then 0 else 1) 3 + (fun t => if eWy w t = 0 then 0 else 1) 4 + (fun t => if eWy w t = 0 then 0 else 1) 5 + (fun t => if eWy w t = 0 then 0 else 1) 6 + (fun t => if eWy w t = 0 then 0 else 1) 7 + (fun t => if eWy w t = 0 then 0 else 1) 8 + (fun t => if eWy w t = 0 then 0 else 1) 9 + (fun t => if eWy w t = 0 then 0 else 1) 10 + (fun t => if eWy w t = 0 then 0 else 1) 11 + (fun t => if eWy w t = 0 then 0 else 1) 12 + (fun t => if eWy w t = 0 then 0 else 1) 13 + (fun t => if eWy w t = 0 then 0 else 1) 14 + (fun t => if eWy w t = 0 then 0 else 1) 15 + (fun t => if eWy w t = 0 then 0 else 1) 16 + (fun t => if eWy w t = 0 then 0 else 1) 17 + (fun t => if eWy w t = 0 then 0 else 1) 18 + (fun t => if eWy w t = 0 then 0 else 1) 19 := by
    generalize (fun t => if eWy w t = 0 then 0 else 1) = f
    simp only [eCntN]
    omega
  rw [e1, e2]
  exact this
