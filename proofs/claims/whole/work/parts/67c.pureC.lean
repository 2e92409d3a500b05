def eSetN (f : Nat → Nat) : Nat → Nat
  | 0 => 0
  | k + 1 => eSetN f k + 2 ^ k * f k
def eCntN (f : Nat → Nat) : Nat → Nat
  | 0 => 0
  | k + 1 => eCntN f k + f k
theorem eSetN_lt {f : Nat → Nat} (hf : ∀ i, f i < 2) : ∀ k, eSetN f k < 2 ^ k := by
  intro k
  induction k with
  | zero => exact Nat.one_pos
  | succ k ih =>
    have h1 := hf k
    have h2 : 2 ^ (k + 1) = 2 ^ k * 2 := Nat.pow_succ 2 k
    have h3 : f k = 0 ∨ f k = 1 := by omega
    show eSetN f k + 2 ^ k * f k < _
    rcases h3 with h3 | h3
    · rw [h3, Nat.mul_zero]
      omega
    · rw [h3, Nat.mul_one]
      omega
/-- the number of recipes, both sides -/
theorem eRecipes {B : Nat → Nat → Int32} {w : Nat → Int32} (cx : eCx B w) : cBits (bMadeSet B) = mRecipes w 20 := by
  rw [eMadeSet cx]
  have hf : ∀ i, (fun t => if eWy w t = 0 then 0 else 1) i < 2 := fun i => by
    dsimp only
    split <;> omega
  have h1 : ∀ n, n ≤ 20 → mMadeSet w n = nI (eSetN (fun t => if eWy w t = 0 then 0 else 1) n) ∧ mRecipes w n = nI (eCntN (fun t => if eWy w t = 0 then 0 else 1) n) := by
    intro n
    unfold mMadeSet mRecipes
    induction n with
    | zero => exact fun _ => ⟨rfl, rfl⟩
    | succ n ih =>
      intro hn
      obtain ⟨i1, i2⟩ := ih (by omega)
      have hlt := eSetN_lt hf n
      rw [it_s, it_s, i1, i2, cx.1.made (by omega)]
      have esh : (1 : Int32) <<< (nI n &&& 31) = nI (2 ^ n) := by
        have := (by decide +kernel : ∀ n, n < 20 → (1 : Int32) <<< (nI n &&& 31) = nI (2 ^ n)) n (by omega)
        exact this
      rw [esh]
      show _ = nI (eSetN _ n + 2 ^ n * (if eWy w n = 0 then 0 else 1)) ∧ _ = nI (eCntN _ n + (if eWy w n = 0 then 0 else 1))
      by_cases e : eWy w n = 0
      · rw [if_pos e, if_pos rfl, if_pos e, Int32.or_zero, Nat.mul_zero, Nat.add_zero, Nat.add_zero, Int32.add_zero]
        exact ⟨rfl, rfl⟩
      · rw [if_neg e, if_neg (by decide), if_neg e, nI_or, nI_1, Nat.mul_one]
        refine ⟨congrArg nI ?_, rfl⟩
        rw [Nat.or_comm, Nat.add_comm]
        have := Nat.two_pow_add_eq_or_of_lt hlt 1
        rw [Nat.mul_one] at this
        exact this.symm
  obtain ⟨g1, g2⟩ := h1 20 (Nat.le_refl _)
  rw [g1, g2]
  have key : ∀ f : Nat → Nat, (∀ i, f i < 2) → cBits (nI (eSetN f 20)) = nI (eCntN f 20) := by
    intro f hf
    have h := cBits_n f hf
    have e1 : eSetN f 20 = f 0 + 2 * f 1 + 4 * f 2 + 8 * f 3 + 16 * f 4 + 32 * f 5 + 64 * f 6 + 128 * f 7 + 256 * (f 8 + 2 * f 9 + 4 * f 10 + 8 * f 11 + 16 * f 12 + 32 * f 13 + 64 * f 14 + 128 * f 15 + 256 * (f 16 + 2 * f 17 + 4 * f 18 + 8 * f 19 + 16 * 0 + 32 * 0 + 64 * 0 + 128 * 0)) := by
      simp only [eSetN]
      omega
    have e2 : eCntN f 20 = f 0 + f 1 + f 2 + f 3 + f 4 + f 5 + f 6 + f 7 + (f 8 + f 9 + f 10 + f 11 + f 12 + f 13 + f 14 + f 15) + (f 16 + f 17 + f 18 + f 19 + 0 + 0 + 0 + 0) := by
      simp only [eCntN]
      omega
    rw [e1, e2]
    exact h
  exact key _ hf
