theorem pk_fin {x y z : Nat} (hx : x ≤ 8) (hy : y ≤ 8) (hz : z ≤ 4) : (x + 256 * (y + 256 * z) + (x + 256 * (y + 256 * z)) / 2 ^ 8 + (x + 256 * (y + 256 * z) + (x + 256 * (y + 256 * z)) / 2 ^ 8) / 2 ^ 16) % 2 ^ 6 = x + y + z := by
  have e1 : (x + 256 * (y + 256 * z)) / 2 ^ 8 = y + 256 * z := by omega
  rw [e1]
  have e2 : (x + 256 * (y + 256 * z) + (y + 256 * z)) / 2 ^ 16 = z := by omega
  rw [e2]
  omega
theorem cBits_a {a b c x y z : Nat} (ha : a < 256) (hb : b < 256) (hc : c < 16) (a1 : pk2 51 (pk1 85 a) ≤ 68) (a3 : pk1 85 a < 256) (a4 : pk3 15 (pk2 51 (pk1 85 a)) = x) (b1 : pk2 51 (pk1 85 b) ≤ 68) (b2 : pk2 51 (pk1 85 b) % 16 ≤ 4) (b3 : pk1 85 b < 256) (b4 : pk3 15 (pk2 51 (pk1 85 b)) = y)
    (c1 : pk2 51 (pk1 85 c) ≤ 68) (c2 : pk2 51 (pk1 85 c) % 16 ≤ 4) (c3 : pk1 85 c < 256) (c4 : pk3 15 (pk2 51 (pk1 85 c)) = z) (hx : x ≤ 8) (hy : y ≤ 8) (hz : z ≤ 4) : cBits (nI (a + 256 * (b + 256 * c))) = nI (x + y + z) := by
  have hle : ∀ x y : Nat, (x &&& y) ≤ x := fun x y => Nat.and_le_left
  have e1 : cB1 (nI (a + 256 * (b + 256 * c))) = nI (pk1 1431655765 (a + 256 * (b + 256 * c))) := by
    have hn : a + 256 * (b + 256 * c) < 2 ^ 24 := by omega
    generalize a + 256 * (b + 256 * c) = n at hn ⊢
    unfold cB1 pk1
    rw [show (1 : Int32) = nI 1 from rfl, zus_n (by omega) (by decide), show (1431655765 : Int32) = nI 1431655765 from rfl, nI_and, pk_sub (Nat.le_trans (hle _ _) (Nat.div_le_self _ _))]
  have s1 : pk1 1431655765 (a + 256 * (b + 256 * c)) = pk1 85 a + 256 * (pk1 85 b + 256 * pk1 21845 c) := by rw [pk1_s ha rfl, pk1_s hb rfl]
  have t1 : pk1 21845 c = pk1 85 c := (by decide +kernel : ∀ c, c < 16 → pk1 21845 c = pk1 85 c) c hc
  rw [t1] at s1
  have e2 : ∀ n, n < 2 ^ 24 → cB2 (nI n) = nI (pk2 858993459 n) := by
    intro n hn
    unfold cB2 pk2
    rw [show (2 : Int32) = nI 2 from rfl, zus_n (by omega) (by decide), show (858993459 : Int32) = nI 858993459 from rfl, nI_and, nI_and, nI_add]
  have s2 : pk2 858993459 (pk1 85 a + 256 * (pk1 85 b + 256 * pk1 85 c)) = pk2 51 (pk1 85 a) + 256 * (pk2 51 (pk1 85 b) + 256 * pk2 51 (pk1 85 c)) := by
    rw [pk2_s a3 rfl, pk2_s b3 rfl]
    have := (by decide +kernel : ∀ c, c < 16 → pk2 (858993459 / 256 / 256) (pk1 85 c) = pk2 51 (pk1 85 c)) c hc
    rw [this]
  have e3 : ∀ n, n < 2 ^ 24 → cB3 (nI n) = nI (pk3 252645135 n) := by
    intro n hn
    unfold cB3 pk3
    rw [show (4 : Int32) = nI 4 from rfl, zus_n (by omega) (by decide), nI_add, show (252645135 : Int32) = nI 252645135 from rfl, nI_and]
  have s3 : pk3 252645135 (pk2 51 (pk1 85 a) + 256 * (pk2 51 (pk1 85 b) + 256 * pk2 51 (pk1 85 c))) = pk3 15 (pk2 51 (pk1 85 a)) + 256 * (pk3 15 (pk2 51 (pk1 85 b)) + 256 * pk3 15 (pk2 51 (pk1 85 c))) := by
    rw [pk3_s a1 ?_ rfl, pk3_s b1 ?_ rfl]
    · have := (by decide +kernel : ∀ c, c < 16 → pk3 (252645135 / 256 / 256) (pk2 51 (pk1 85 c)) = pk3 15 (pk2 51 (pk1 85 c))) c hc
      rw [this]
    · exact c2
    · have : (pk2 51 (pk1 85 b) + 256 * pk2 51 (pk1 85 c)) % 16 = pk2 51 (pk1 85 b) % 16 := by omega
      rw [this]
      exact b2
  have hn1 : pk1 85 a + 256 * (pk1 85 b + 256 * pk1 85 c) < 2 ^ 24 := by omega
  have hn2 : pk2 51 (pk1 85 a) + 256 * (pk2 51 (pk1 85 b) + 256 * pk2 51 (pk1 85 c)) < 2 ^ 24 := by omega
  unfold cBits
  rw [e1, s1, e2 _ hn1, s2, e3 _ hn2, s3, a4, b4, c4]
  have hn3 : x + 256 * (y + 256 * z) < 2 ^ 20 := by omega
  have hn4 : (x + 256 * (y + 256 * z)) + (x + 256 * (y + 256 * z)) / 2 ^ 8 < 2 ^ 21 := by omega
  unfold cB5 cB4
  rw [show (8 : Int32) = nI 8 from rfl, zus_n (by omega) (by decide), nI_add, show (16 : Int32) = nI 16 from rfl, zus_n (by omega) (by decide), nI_add, show (63 : Int32) = nI (2 ^ 6 - 1) from rfl, nI_and, Nat.and_two_pow_sub_one_eq_mod, pk_fin hx hy hz]
/-- the bits of a small number, counted -/
theorem cBits_n (f : Nat → Nat) (hf : ∀ i, f i < 2) : cBits (nI (f 0 + 2 * f 1 + 4 * f 2 + 8 * f 3 + 16 * f 4 + 32 * f 5 + 64 * f 6 + 128 * f 7 + 256 * (f 8 + 2 * f 9 + 4 * f 10 + 8 * f 11 + 16 * f 12 + 32 * f 13 + 64 * f 14 + 128 * f 15 + 256 * (f 16 + 2 * f 17 + 4 * f 18 + 8 * f 19 + 16 * 0 + 32 * 0 + 64 * 0 + 128 * 0)))) =
    nI (f 0 + f 1 + f 2 + f 3 + f 4 + f 5 + f 6 + f 7 + (f 8 + f 9 + f 10 + f 11 + f 12 + f 13 + f 14 + f 15) + (f 16 + f 17 + f 18 + f 19 + 0 + 0 + 0 + 0)) := by
  obtain ⟨a1, a2, a3, a4⟩ := pk_g (f 0) (hf 0) (f 1) (hf 1) (f 2) (hf 2) (f 3) (hf 3) (f 4) (hf 4) (f 5) (hf 5) (f 6) (hf 6) (f 7) (hf 7)
  obtain ⟨b1, b2, b3, b4⟩ := pk_g (f 8) (hf 8) (f 9) (hf 9) (f 10) (hf 10) (f 11) (hf 11) (f 12) (hf 12) (f 13) (hf 13) (f 14) (hf 14) (f 15) (hf 15)
  obtain ⟨c1, c2, c3, c4⟩ := pk_g (f 16) (hf 16) (f 17) (hf 17) (f 18) (hf 18) (f 19) (hf 19) 0 (by decide) 0 (by decide) 0 (by decide) 0 (by decide)
  have k0 := hf 0
  have k1 := hf 1
  have k2 := hf 2
  have k3 := hf 3
  have k4 := hf 4
  have k5 := hf 5
  have k6 := hf 6
  have k7 := hf 7
  have k8 := hf 8
  have k9 := hf 9
  have k10 := hf 10
  have k11 := hf 11
  have k12 := hf 12
  have k13 := hf 13
  have k14 := hf 14
  have k15 := hf 15
  have k16 := hf 16
  have k17 := hf 17
  have k18 := hf 18
  have k19 := hf 19
  clear hf
  exact cBits_a (by clear a1 a2 a3 a4 b1 b2 b3 b4 c1 c2 c3 c4; omega) (by clear a1 a2 a3 a4 b1 b2 b3 b4 c1 c2 c3 c4; omega) (by clear a1 a2 a3 a4 b1 b2 b3 b4 c1 c2 c3 c4; omega) a1 a3 a4 b1 b2 b3 b4 c1 c2 c3 c4 (by clear a1 a2 a3 a4 b1 b2 b3 b4 c1 c2 c3 c4; omega) (by clear a1 a2 a3 a4 b1 b2 b3 b4 c1 c2 c3 c4; omega) (by clear a1 a2 a3 a4 b1 b2 b3 b4 c1 c2 c3 c4; omega)
