/-! ===== 44.wstock: the stock, wished from ===== -/
theorem wBeg_r {W S : Nat → Nat → Int32} {g : Int32} {j t : Nat} (h1 : 1 ≤ j) (h6 : j ≤ 6) (ht : t < 20) : wBegin W S g (j + 1) t = S j t := by
  unfold wBegin
  rw [zup_ne (by omega), Nat.add_comm j 1, zput_at (by omega)]
  have : j = 1 ∨ j = 2 ∨ j = 3 ∨ j = 4 ∨ j = 5 ∨ j = 6 := by omega
  unfold sCopy
  rcases this with rfl | rfl | rfl | rfl | rfl | rfl
  all_goals simp (disch := omega) only [zup_ne, zup_eq, upd_ne, upd_eq, cCopy, if_pos ht]
theorem wBeg_0 {W S : Nat → Nat → Int32} {g : Int32} : wBegin W S g 0 1 = g ∧ wBegin W S g 0 2 = 0 ∧ wBegin W S g 0 3 = 0 ∧ wBegin W S g 0 4 = 0 := by
  unfold wBegin
  rw [zup_eq]
  simp (disch := omega) only [upd_ne, upd_eq, and_self]
theorem wBeg_m {W S : Nat → Nat → Int32} : m0 (wBegin W S 1) = wBegin W S 0 := by
  unfold m0 wBegin
  rw [zup_eq, va_up_up]
  congr 1
  funext k
  by_cases h1 : k = 1
  · subst h1
    simp (disch := omega) only [upd_ne, upd_eq]
  · rw [upd_ne h1]
    by_cases h4 : k = 4
    · subst h4
      rw [upd_eq, upd_eq]
    · rw [upd_ne h4, upd_ne h4]
      by_cases h3 : k = 3
      · subst h3
        rw [upd_eq, upd_eq]
      · rw [upd_ne h3, upd_ne h3]
        by_cases h2 : k = 2
        · subst h2
          rw [upd_eq, upd_eq]
        · rw [upd_ne h2, upd_ne h2, upd_ne h1, upd_ne h1]
/-- what always holds of a stock: amounts in their range, accounts that add up, sums that are not too large -/
def sOk (S : Nat → Nat → Int32) (N : Nat) : Prop := (∀ t, t < 20 → ∃ a, a ≤ 99999 ∧ S 1 t = nI a) ∧ (∀ t, t < 20 → S 1 t - S 2 t - S 3 t + S 4 t - S 5 t = S 6 t) ∧ ∃ g M, cSum (S 2) 20 = nI g ∧ cSum (S 3) 20 = nI M ∧ g + M ≤ N
theorem sOk.more {S : Nat → Nat → Int32} {N N' : Nat} (h : sOk S N) (hN : N ≤ N') : sOk S N' := by
  obtain ⟨h1, h2, g, M, h3, h4, h5⟩ := h
  exact ⟨h1, h2, g, M, h3, h4, by omega⟩
def sM (S : Nat → Nat → Int32) (N M0 : Nat) : Prop := cSum (S 3) 20 = nI M0 ∧ M0 ≤ N
theorem sOk.beg {S W : Nat → Nat → Int32} {N : Nat} {mg : Int32} (h : sOk S N) : ∃ M0, sM S N M0 ∧ eN (cSum (S 2) 20) mg (wBegin W S mg) 0 0 M0 := by
  obtain ⟨h1, h2, g, M, h3, h4, h5⟩ := h
  obtain ⟨b1, b2, b3, b4⟩ := wBeg_0 (W := W) (S := S) (g := mg)
  refine ⟨M, ⟨h4, by omega⟩, b1, b2, fun t ht => ?_, b3, by decide, b4, ?_, ?_⟩
  · rw [wBeg_r (j := 1) (by decide) (by decide) ht]
    exact h1 t ht
  · rw [← h4]
    exact eSum_congr 20 fun t ht => wBeg_r (j := 3) (by decide) (by decide) ht
  · rw [eSum_congr 20 fun t ht => wBeg_r (W := W) (S := S) (g := mg) (j := 2) (by decide) (by decide) ht]
    show _ = _ + (0 : Int32)
    rw [Int32.add_zero]
theorem sCopy_r {S V : Nat → Nat → Int32} {j t : Nat} (h1 : 1 ≤ j) (h6 : j ≤ 6) (ht : t < 20) : sCopy S (zsub V 1) j t = V (j + 1) t := by
  have : j = 1 ∨ j = 2 ∨ j = 3 ∨ j = 4 ∨ j = 5 ∨ j = 6 := by omega
  unfold sCopy
  rcases this with rfl | rfl | rfl | rfl | rfl | rfl
  all_goals simp (disch := omega) only [zup_ne, zup_eq, upd_ne, upd_eq, cCopy, if_pos ht]
  all_goals rfl
theorem sOk.acc {S W V : Nat → Nat → Int32} {N bt g M M0 : Nat} (h : sOk S N) (hM0 : sM S N M0) (hN : N ≤ 100000000) (hV : eN (cSum (S 2) 20) 1 V bt g M) (hg : g ≤ 60000) (hM : M ≤ M0 + 10000) (hs : wSm (wBegin W S 1) V) : sOk (sCopy S (zsub V 1)) (N + 70000) := by
  obtain ⟨h1, h2, g0, M1, h3, h4, h5⟩ := h
  obtain ⟨-, -, am, -, -, -, e4, e3⟩ := hV
  refine ⟨fun t ht => ?_, fun t ht => ?_, g0 + g, M, ?_, ?_, ?_⟩
  · rw [sCopy_r (by decide) (by decide) ht]
    exact am t ht
  · rw [sCopy_r (j := 1) (by decide) (by decide) ht, sCopy_r (j := 2) (by decide) (by decide) ht, sCopy_r (j := 3) (by decide) (by decide) ht, sCopy_r (j := 4) (by decide) (by decide) ht, sCopy_r (j := 5) (by decide) (by decide) ht, sCopy_r (j := 6) (by decide) (by decide) ht, hs.2, wBeg_r (j := 6) (by decide) (by decide) ht, ← h2 t ht]
    have e := hs.1 t
    unfold wDl at e
    rw [wBeg_r (j := 1) (by decide) (by decide) ht, wBeg_r (j := 2) (by decide) (by decide) ht, wBeg_r (j := 3) (by decide) (by decide) ht, wBeg_r (j := 4) (by decide) (by decide) ht, wBeg_r (j := 5) (by decide) (by decide) ht] at e
    exact e
  · rw [eSum_congr 20 fun t ht => sCopy_r (S := S) (V := V) (j := 2) (by decide) (by decide) ht, show cSum (V (2 + 1)) 20 = cSum (V 3) 20 from rfl, e3, h3, nI_add]
  · rw [eSum_congr 20 fun t ht => sCopy_r (S := S) (V := V) (j := 3) (by decide) (by decide) ht]
    exact e4
  · have : M0 = M1 := (nI_eq (by have := hM0.2; omega) (by omega)).mp (hM0.1.symm.trans h4)
    omega
section PFUL
variable {B : Nat → Nat → Int32} {w : Nat → Int32} {r : Nat → Nat} {S W : Nat → Nat → Int32} {N t n : Nat}
/-- what becomes of a making of batches -/
theorem pRun (cx : eCx B w) (hrk : eRk w r) (hS : sOk S N) (ht : t < 20) (hy : eWy w t ≠ 0) {b : Nat} (hb : b ≤ 1000000) : (¬ wRun B 9 (nI t) (nI b) (wBegin W S 1) 0 2 = 0) ∨ ∃ bt g M M0 a0 a, S 1 t = nI a0 ∧ a0 ≤ 99999 ∧ sM S N M0 ∧ eN (cSum (S 2) 20) 1 (wRun B 9 (nI t) (nI b) (wBegin W S 1)) bt g M ∧ g ≤ 60000 ∧ M ≤ M0 + 10000 ∧ wRun B 9 (nI t) (nI b) (wBegin W S 1) 2 t = nI a ∧ a0 + eWy w t * b ≤ a ∧ a ≤ 99999 := by
  obtain ⟨M0, eM0, hN⟩ := hS.beg (W := W) (mg := 1)
  obtain ⟨a0, ha0, ea0⟩ := hS.1 t ht
  have hr9 : r t ≤ 9 := by have := (hrk t ht hy).2.1; omega
  rcases eHR.all cx hrk (Or.inr rfl) 9 t (wBegin W S 1) b 0 0 M0 ht hy hr9 hb hN with hf | ⟨bt, g, M, a, hV, h1, h2, h3, h4, h5, h6, h7, h8⟩
  · exact Or.inl hf
  · have hJ : eJ t a0 (wBegin W S 1) := ⟨a0, Nat.le_refl _, by omega, by rw [wBeg_r (j := 1) (by decide) (by decide) ht]; exact ea0⟩
    rcases eJ.top cx hrk (Or.inr rfl) ht hy hr9 hb hN hJ with hf | hg
    · exact Or.inl hf
    · obtain ⟨a2, g1, g2, g3⟩ := hg.am hV ht
      have hbt := hV.2.2.2.2.1
      exact Or.inr ⟨bt, g, M, M0, a0, a2, ea0, ha0, eM0, hV, by omega, by omega, g3, g1, g2⟩
theorem pFul (cx : eCx B w) (hrk : eRk w r) (hS : sOk S N) (ht : t < 20) (hn : n ≤ 1000) : (¬ wFul B (wBegin W S 1) (nI t) (nI n) 0 2 = 0) ∨ ∃ bt g M M0 a0 a, S 1 t = nI a0 ∧ a0 ≤ 99999 ∧ sM S N M0 ∧ eN (cSum (S 2) 20) 1 (wFul B (wBegin W S 1) (nI t) (nI n)) bt g M ∧ g ≤ 60000 ∧ M ≤ M0 + 10000 ∧ wFul B (wBegin W S 1) (nI t) (nI n) 2 t = nI a ∧ n ≤ a ∧ a ≤ 99999 ∧ (n ≤ a0 → wFul B (wBegin W S 1) (nI t) (nI n) = wBegin W S 1 ∧ g = 0) := by
  obtain ⟨M0, eM0, hN⟩ := hS.beg (W := W) (mg := 1)
  obtain ⟨a0, ha0, ea0⟩ := hS.1 t ht
  have e2 : wBegin W S 1 2 t = nI a0 := by
    rw [wBeg_r (j := 1) (by decide) (by decide) ht]
    exact ea0
  unfold wFul
  rw [eAt ht (by decide), e2]
  rcases Nat.lt_or_ge a0 n with c | c
  · have hm : nI n - nI a0 = nI (n - a0) := pk_sub (by omega)
    rw [hm, if_neg (nI_nle (by omega) (by omega))]
    unfold wProv
    rw [cx.made ht]
    by_cases hy : eWy w t = 0
    · rw [if_pos hy, if_pos rfl]
      rcases hN.col ht (show n - a0 ≤ 1000000 by omega) with hf | ⟨hc, a, h1, h2, h3⟩
      · exact Or.inl hf
      · have hJ : eJ t a0 (wBegin W S 1) := ⟨a0, Nat.le_refl _, by omega, e2⟩
        have e4 : wCol (wBegin W S 1) (nI t) (nI (n - a0)) 2 t = nI n := by
          unfold wCol
          rw [come2 (by decide), eAdd ht (by decide), upd_eq]
          have : wCol0 (wBegin W S 1) (nI (n - a0)) 2 t = nI a0 := by
            unfold wCol0 wColF
            split
            · rw [zup_ne (by decide), zup_ne (by decide)]
              exact e2
            · rw [zup_ne (by decide)]
              exact e2
          rw [this, nI_add]
          exact congrArg nI (by omega)
        have : n ≤ 99999 := by omega
        exact Or.inr ⟨0, 0 + (n - a0), M0, M0, a0, n, ea0, ha0, eM0, hc, by omega, by omega, e4, Nat.le_refl _, this, fun h => by omega⟩
    · rw [if_neg hy, if_neg (by decide), cx.yield ht, eDiv (show n - a0 ≤ 1000000 by omega) (by omega) (cx.1 t ht).1.2]
      have hd := eDiv_le (m := n - a0) (y := eWy w t) (by omega) (by omega)
      rcases pRun (W := W) cx hrk hS ht hy (b := (n - a0 + eWy w t - 1) / eWy w t) (by omega) with hf | ⟨bt, g, M, M1, a1, a, h1, h2, h3, h4, h5, h6, h7, h8, h9⟩
      · exact Or.inl hf
      · have : a1 = a0 := (nI_eq (by omega) (by omega)).mp (h1.symm.trans ea0)
        subst this
        exact Or.inr ⟨bt, g, M, M1, a1, a, h1, h2, h3, h4, h5, h6, h7, by omega, h9, fun h => by omega⟩
  · have hle : nI n - nI a0 ≤ 0 := by
      rcases Nat.lt_or_ge n a0 with q | q
      · exact Int32.le_of_lt (pk_sneg (by omega) q)
      · have : n = a0 := by omega
        subst this
        rw [pk_sub (Nat.le_refl _), Nat.sub_self]
        decide
    rw [if_pos hle]
    exact Or.inr ⟨0, 0, M0, M0, a0, a0, ea0, ha0, eM0, hN, by omega, by omega, e2, c, ha0, fun _ => ⟨rfl, rfl⟩⟩
end PFUL
