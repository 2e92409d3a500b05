/-! ===== 47.brank: what always holds of a book ===== -/
def bInv (B : Nat → Nat → Int32) (w : Nat → Int32) : Prop := eCx B w ∧ (∀ t, t < 20 → B 8 t = nI (nRs w 12 t) ∧ nRs w 12 t ≤ 8) ∧ eRk w (nRs w 12) ∧ (∀ t, t < 20 → eWy w t ≠ 0 → 1 ≤ eWc w t) ∧
  (∀ t, t < 20 → w (23 * t + 1) = -9 ∨ ∃ v, v < 20 ∧ v ≠ t ∧ w (23 * t + 1) = nI v ∧ w (23 * v + 1) = -9) ∧ ∀ t, t < 20 → ∀ i, i < eWs w t → eWb w t i ≠ t
def bOk (B : Nat → Nat → Int32) : Prop := ∃ w, bInv B w
theorem thg {t : Nat} (ht : t < 20) : ¬ cIsThing (nI t) = 0 := by
  unfold cIsThing
  rw [if_neg (nI_pos (by omega)), if_neg (show ¬ (20 : Int32) ≤ nI t from nI_ge (b := 20) ht (by decide))]
  decide
theorem nthg {t : Int32} (h : cIsThing t = 0) : ∀ j, j < 20 → t ≠ nI j := fun j hj e => thg hj (by rw [← e]; exact h)
theorem thg_of (t : Int32) : cIsThing t = 0 ∨ ∃ j, j < 20 ∧ t = nI j := by
  by_cases h : cIsThing t = 0
  · exact Or.inl h
  · refine Or.inr ?_
    unfold cIsThing at h
    rcases pk_ix t (n := 20) (by decide) with q | q | ⟨j, hj, e⟩
    · exact absurd (if_pos q) h
    · by_cases q2 : t < 0
      · exact absurd (if_pos q2) h
      · rw [if_neg q2, if_pos (show (20 : Int32) ≤ t from q)] at h
        exact absurd rfl h
    · exact ⟨j, hj, e⟩
section BRANK
variable {B : Nat → Nat → Int32} {w : Nat → Int32}
theorem bInv.fix (h : bInv B w) {t : Nat} (ht : t < 20) : nRs w 12 t = nRk w (nRs w 12) t := by
  obtain ⟨cx, -, hrk, -⟩ := h
  refine nRs_fix (fun u hu => ?_) ht
  rcases nRs_grow cx.1 12 u hu with e | e
  · exact e
  · have : nRs w (12 + 1) u ≤ 8 := nRs_under cx.1 hrk 13 u hu
    omega
theorem bInv.rank (h : bInv B w) {t : Nat} (ht : t < 20) : bRank B (nI t) = nI (nRs w 12 t) := (eAt ht (by decide)).trans (h.2.1 t ht).1
theorem bInv.ves (h : bInv B w) {t : Nat} (ht : t < 20) : bVes B (nI t) = -9 ∨ ∃ v, v < 20 ∧ v ≠ t ∧ bVes B (nI t) = nI v ∧ bVes B (nI v) = -9 := by
  rw [h.1.ves ht]
  rcases h.2.2.2.2.1 t ht with e | ⟨v, h1, h2, h3, h4⟩
  · exact Or.inl e
  · exact Or.inr ⟨v, h1, h2, h3, (h.1.ves h1).trans h4⟩
theorem bInv.need1 (h : bInv B w) {t j : Nat} (ht : t < 20) (hj : j < 20) (hn : eNd w t j) : ¬ cHasBit (bAll B (nI t)) (nI j) = 0 := by
  have := (bAll_n h.1 ht 20 j hj).mpr ⟨0, by omega, hn⟩
  rw [cHasBit_b (by omega), if_pos (show bt (bAll B (nI t)) j = true from this)]
  decide
theorem bInv.need0 (h : bInv B w) {t j : Nat} (ht : t < 20) (hj : j < 20) (hr : nRs w 12 t ≤ nRs w 12 j) : cHasBit (bAll B (nI t)) (nI j) = 0 := by
  rw [cHasBit_b (by omega), if_neg]
  intro hb
  obtain ⟨m, -, hl⟩ := (bAll_n h.1 ht 20 j hj).mp hb
  have := eLn_rk h.1.1 h.2.2.1 ht m j hl
  omega
/-- a number that is above all that is needed, and not more, is the rank -/
theorem bInv.isRank (h : bInv B w) {t ρ : Nat} (ht : t < 20) (h1 : ∀ j, eNd w t j → nRs w 12 j + 1 ≤ ρ) (h2 : ρ = 0 ∨ ∃ j, eNd w t j ∧ ρ = nRs w 12 j + 1) : nRs w 12 t = ρ := by
  rw [h.fix ht]
  unfold nRk
  by_cases hy : eWy w t = 0
  · rw [if_pos hy]
    rcases h2 with e | ⟨j, ⟨k, hk, -⟩, -⟩
    · exact e.symm
    · rw [(h.1.1 t ht).2.2.1 hy] at hk
      omega
  · rw [if_neg hy]
    have hc := h.2.2.2.1 t ht hy
    obtain ⟨m1, m2⟩ := nMx_is w (nRs w 12) t
    generalize nMx w (nRs w 12) t = m at m1 m2 ⊢
    have h0 := h1 (eWi w t 0) ⟨0, hc, Or.inl rfl⟩
    rcases h2 with e | ⟨j, hj, e⟩
    · omega
    · have a := m1 j hj
      rcases m2 with e2 | ⟨j2, hj2, e2⟩
      · omega
      · have := h1 j2 hj2
        omega
theorem eMadeN (cx : eCx B w) : ∀ n, n ≤ 20 → it (fun i s => if bMade B (nI i) = 0 then s else s ||| ((1 : Int32) <<< (nI i &&& 31))) n 0 = nI (eSetN (fun t => if eWy w t = 0 then 0 else 1) n) := by
  have hf : ∀ i, (fun t => if eWy w t = 0 then 0 else 1) i < 2 := fun i => by
    dsimp only
    split <;> omega
  intro n
  induction n with
  | zero => exact fun _ => rfl
  | succ n ih =>
    intro hn
    have hlt := eSetN_lt hf n
    rw [it_s, ih (by omega), cx.made (by omega)]
    have esh : (1 : Int32) <<< (nI n &&& 31) = nI (2 ^ n) := (by decide +kernel : ∀ n, n < 20 → (1 : Int32) <<< (nI n &&& 31) = nI (2 ^ n)) n (by omega)
    rw [esh]
    show _ = nI (eSetN _ n + 2 ^ n * (if eWy w n = 0 then 0 else 1))
    by_cases e : eWy w n = 0
    · rw [if_pos e, if_pos rfl, if_pos e, Nat.mul_zero, Nat.add_zero]
    · rw [if_neg e, if_neg (by decide), if_neg e, nI_or, Nat.mul_one]
      refine congrArg nI ?_
      rw [Nat.or_comm, Nat.add_comm]
      have := Nat.two_pow_add_eq_or_of_lt hlt 1
      rw [Nat.mul_one] at this
      exact this.symm
theorem eMadeC (cx : eCx B w) : cBits (bMadeSet B) = nI (eCntN (fun t => if eWy w t = 0 then 0 else 1) 20) := by
  have hf : ∀ i, (fun t => if eWy w t = 0 then 0 else 1) i < 2 := fun i => by
    dsimp only
    split <;> omega
  unfold bMadeSet
  rw [eMadeN cx 20 (Nat.le_refl _)]
  have key : ∀ f : Nat → Nat, (∀ i, f i < 2) → cBits (nI (eSetN f 20)) = nI (eCntN f 20) := by
    intro f hf
    have h := cBits_n f hf
    have e1 : eSetN f 20 = f 0 + 2 * f 1 + 4 * f 2 + 8 * f 3 + 16 * f 4 + 32 * f 5 + 64 * f 6 + 128 * f 7 + 256 * (f 8 + 2 * f 9 + 4 * f 10 + 8 * f 11 + 16 * f 12 + 32 * f 13 + 64 * f 14 + 128 * f 15 + 256 * (f 16 + 2 * f 17 + 4 * f 18 + 8 * f 19 + 16 * 0 + 32 * 0 + 64 * 0 + 128 * 0)) := by
      simp only [eSetN]
      omega
    have e2 : eCntN f 20 = f 0 + f 1 + f 2 + f 3 + f 4 + f 5 + f 6 + f 7 + (f 8 + f 9 + f 10 + f 11 + f 12 + f 13 + f 14 + f 15) + (f 16 + f 17 + f 18 + f 19 + 0 + 0 + 0 + 0) := by
      simp only [eCntN]
      omega
    rw [e1, e2]
    exact h
  exact key _ hf
theorem eGreatN (h : bInv B w) : ∀ n, n ≤ 20 → ∃ m, m ≤ 8 ∧ it (fun i g => cMax g (bRank B (nI i))) n 0 = nI m := by
  intro n
  induction n with
  | zero => exact fun _ => ⟨0, by omega, rfl⟩
  | succ n ih =>
    intro hn
    obtain ⟨m, hm, e⟩ := ih (by omega)
    have h8 := (h.2.1 n (by omega)).2
    rw [it_s, e, h.rank (by omega), cMax_n (by omega) (by omega)]
    exact ⟨_, by omega, rfl⟩
end BRANK
