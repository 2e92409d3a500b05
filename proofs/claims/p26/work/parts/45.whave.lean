/-! ===== 45.whave: what would be gathered, and what can be had ===== -/
def pW (B S : Nat → Nat → Int32) (t n : Int32) : Nat → Nat → Int32 := wFul B (wBegin zZero S 1) t n
def pGat (B S : Nat → Nat → Int32) (t n : Int32) : Int32 := if pW B S t n 0 2 = 0 then pW B S t n 0 4 else -3
def pR0 (B S : Nat → Nat → Int32) (t b : Int32) : Nat → Nat → Int32 := wRun B 9 t b (wBegin zZero S 0)
theorem zEq.refl {n : Nat} {A : Nat → Nat → Int32} : zEq n A A := fun _ _ => rfl
theorem pW_q {B S : Nat → Nat → Int32} {t n : Int32} (W : Nat → Nat → Int32) : eWq 7 (pW B S t n) (wFul B (wBegin W S 1) t n) := (eWq.begin zEq.refl 1).ful (by decide) t n
theorem pR0_q {B S : Nat → Nat → Int32} {t b : Int32} (W : Nat → Nat → Int32) : eWq 7 (pR0 B S t b) (wRun B 9 t b (wBegin W S 0)) := (eWq.begin zEq.refl 0).run (by decide) 9 t b
theorem pHv_W {B S : Nat → Nat → Int32} {t : Int32} : ∀ m W W', (hvIt B S t m W).1 = (hvIt B S t m W').1 := by
  intro m
  induction m with
  | zero => exact fun _ _ => rfl
  | succ m ih =>
    intro W W'
    unfold hvIt
    have h1 := (pR0_q (B := B) (S := S) (t := t) (b := nI (m + 1)) W).1 2 (by decide) (by decide)
    have h2 := (pR0_q (B := B) (S := S) (t := t) (b := nI (m + 1)) W').1 2 (by decide) (by decide)
    rw [h1, h2]
    split
    · rfl
    · exact ih _ _
theorem pHv_spec {B S : Nat → Nat → Int32} {t : Int32} : ∀ m W, ((hvIt B S t m W).1 = none ∧ ∀ b, 1 ≤ b → b ≤ m → ¬ pR0 B S t (nI b) 0 2 = 0) ∨ ∃ b, 1 ≤ b ∧ b ≤ m ∧ (hvIt B S t m W).1 = some (nI b) ∧ pR0 B S t (nI b) 0 2 = 0 ∧ ∀ b', b < b' → b' ≤ m → ¬ pR0 B S t (nI b') 0 2 = 0 := by
  intro m
  induction m with
  | zero => exact fun W => Or.inl ⟨rfl, fun b h1 h2 => by omega⟩
  | succ m ih =>
    intro W
    unfold hvIt
    have h1 := (pR0_q (B := B) (S := S) (t := t) (b := nI (m + 1)) W).1 2 (by decide) (by decide)
    rw [h1]
    by_cases c : pR0 B S t (nI (m + 1)) 0 2 = 0
    · rw [if_pos c]
      exact Or.inr ⟨m + 1, by omega, Nat.le_refl _, rfl, c, fun b' h1 h2 => by omega⟩
    · rw [if_neg c]
      rcases ih (wRun B 9 t (nI (m + 1)) (wBegin W S 0)) with ⟨h2, h3⟩ | ⟨b, h2, h3, h4, h5, h6⟩
      · refine Or.inl ⟨h2, fun b hb1 hb2 => ?_⟩
        by_cases e : b = m + 1
        · rw [e]
          exact c
        · exact h3 b hb1 (by omega)
      · refine Or.inr ⟨b, h2, by omega, h4, h5, fun b' hb1 hb2 => ?_⟩
        by_cases e : b' = m + 1
        · rw [e]
          exact c
        · exact h6 b' hb1 (by omega)
theorem dv_eq {m y c : Nat} (hy : 1 ≤ y) (h1 : y * c < m) (h2 : m ≤ y * c + y) : (m + y - 1) / y = c + 1 := by
  refine Nat.div_eq_of_lt_le ?_ ?_
  · rw [Nat.add_mul, Nat.one_mul, Nat.mul_comm c y]
    omega
  · rw [show c + 1 + 1 = c + 2 from rfl, Nat.add_mul, Nat.mul_comm c y]
    omega
theorem cMin_n {a b : Nat} (ha : a < 2 ^ 31) (hb : b < 2 ^ 31) : cMin (nI a) (nI b) = nI (min a b) := by
  unfold cMin
  by_cases h : b < a
  · rw [if_pos (nI_lt h ha), Nat.min_eq_right (by omega)]
  · rw [if_neg (nI_nlt (by omega) hb), Nat.min_eq_left (by omega)]
/-- what canHave answers -/
def pHv (B S : Nat → Nat → Int32) (t : Int32) : Int32 := if bYield B t < 1 then cMin (cAt 20 (S 1) t) 999 else hvRes (cMin (cAt 20 (S 1) t) 999) (bYield B t) (hvIt B S t (cMin (cDivUp (999 - cMin (cAt 20 (S 1) t) 999) (bYield B t)) 500).toNatClampNeg zZero).1
section PHAVE
variable {B : Nat → Nat → Int32} {w : Nat → Int32} {r : Nat → Nat} {S : Nat → Nat → Int32} {N t a0 : Nat}
theorem pGat_had {n : Nat} (ht : t < 20) (ha : S 1 t = nI a0) (ha0 : a0 ≤ 99999) (hn : n ≤ a0) : pW B S (nI t) (nI n) = wBegin zZero S 1 ∧ pGat B S (nI t) (nI n) = 0 := by
  have e2 : wBegin zZero S 1 2 t = nI a0 := by
    rw [wBeg_r (j := 1) (by decide) (by decide) ht]
    exact ha
  have hle : nI n - nI a0 ≤ 0 := by
    rcases Nat.lt_or_ge n a0 with q | q
    · exact Int32.le_of_lt (pk_sneg (by omega) q)
    · have : n = a0 := by omega
      subst this
      rw [pk_sub (Nat.le_refl _), Nat.sub_self]
      decide
  have e : pW B S (nI t) (nI n) = wBegin zZero S 1 := by
    unfold pW wFul
    rw [eAt ht (by decide), e2, if_pos hle]
  refine ⟨e, ?_⟩
  unfold pGat
  obtain ⟨-, b2, -, b4⟩ := wBeg_0 (W := zZero) (S := S) (g := 1)
  rw [e, if_pos b2, b4]
theorem pW_made {n : Nat} (cx : eCx B w) (ht : t < 20) (hy : eWy w t ≠ 0) (ha : S 1 t = nI a0) (hn : a0 < n) (hn2 : n ≤ 1000) : pW B S (nI t) (nI n) = wRun B 9 (nI t) (nI ((n - a0 + eWy w t - 1) / eWy w t)) (wBegin zZero S 1) := by
  have e2 : wBegin zZero S 1 2 t = nI a0 := by
    rw [wBeg_r (j := 1) (by decide) (by decide) ht]
    exact ha
  unfold pW wFul
  rw [eAt ht (by decide), e2, pk_sub (by omega), if_neg (nI_nle (by omega) (by omega))]
  unfold wProv
  rw [cx.made ht, if_neg hy, if_neg (by decide), cx.yield ht, eDiv (show n - a0 ≤ 1000000 by omega) (by omega) (cx.1 t ht).1.2]
theorem pGat_r0 {n b : Nat} (cx : eCx B w) (hrk : eRk w r) (hS : sOk S N) (ht : t < 20) (hy : eWy w t ≠ 0) (hb : b ≤ 1000000) (e : pW B S (nI t) (nI n) = wRun B 9 (nI t) (nI b) (wBegin zZero S 1)) : (pR0 B S (nI t) (nI b) 0 2 = 0 → pGat B S (nI t) (nI n) = 0) ∧ ((¬ pR0 B S (nI t) (nI b) 0 2 = 0) → pGat B S (nI t) (nI n) ≠ 0) := by
  obtain ⟨M0, -, hN⟩ := hS.beg (W := zZero) (mg := 1)
  have hr9 : r t ≤ 9 := by have := (hrk t ht hy).2.1; omega
  have h := eHM.all cx hrk 9 (cSum (S 2) 20) t (wBegin zZero S 1) b 0 0 M0 ht hy hr9 hb hN
  rw [wBeg_m] at h
  unfold pGat pR0
  rw [e]
  rcases h with ⟨h1, h2⟩ | ⟨q, bt, g, M, hV, hg, hc⟩
  · rw [if_neg h1]
    exact ⟨fun h => absurd h h2, fun _ => by decide⟩
  · rw [if_pos hV.2.1, hV.2.2.2.2.2.1]
    have hbt := hV.2.2.2.2.1
    rcases hc with ⟨e0, e1⟩ | ⟨e0, e1⟩
    · rw [e0]
      refine ⟨fun _ => rfl, fun h => absurd ?_ h⟩
      rw [e1, m0_0 (by decide)]
      exact hV.2.1
    · exact ⟨fun h => absurd h e1, fun _ => nI_ne0 e0 (by omega)⟩
theorem pHave (cx : eCx B w) (hrk : eRk w r) (hS : sOk S N) (ht : t < 20) : ∃ n, pHv B S (nI t) = nI n ∧ n ≤ 999 ∧ (n = 0 ∨ pGat B S (nI t) (nI n) = 0) ∧ (∃ a0, S 1 t = nI a0 ∧ a0 ≤ 99999 ∧ (a0 ≤ n ∨ 999 ≤ n)) ∧ (n = 999 ∨ pGat B S (nI t) (nI (n + 1)) ≠ 0) := by
  obtain ⟨a0, ha0, ea0⟩ := hS.1 t ht
  unfold pHv
  rw [eAt ht (by decide), ea0, cx.yield ht, show (999 : Int32) = nI 999 from rfl, cMin_n (by omega) (by decide)]
  have hy20 := (cx.1 t ht).1.2
  by_cases h999 : 999 ≤ a0
  · rw [Nat.min_eq_right h999]
    refine ⟨999, ?_, Nat.le_refl _, Or.inr (pGat_had ht ea0 ha0 h999).2, ⟨a0, rfl, ha0, Or.inr (Nat.le_refl _)⟩, Or.inl rfl⟩
    by_cases hy : eWy w t = 0
    · rw [hy, if_pos (by decide)]
    · rw [if_neg (show ¬ nI (eWy w t) < 1 from nI_nlt (b := 1) (by omega) (by omega)), pk_sub (Nat.le_refl _), eDiv (by decide) (by omega) hy20, Nat.sub_self, Nat.zero_add, Nat.div_eq_of_lt (by omega), show (500 : Int32) = nI 500 from rfl, cMin_n (by decide) (by decide)]
      rfl
  · have hlt : a0 < 999 := by omega
    rw [Nat.min_eq_left (by omega)]
    by_cases hy : eWy w t = 0
    · rw [hy, if_pos (by decide)]
      refine ⟨a0, rfl, by omega, Or.inr (pGat_had ht ea0 ha0 (Nat.le_refl _)).2, ⟨a0, rfl, ha0, Or.inl (Nat.le_refl _)⟩, Or.inr ?_⟩
      have e2 : wBegin zZero S 1 2 t = nI a0 := by
        rw [wBeg_r (j := 1) (by decide) (by decide) ht]
        exact ea0
      have e : pW B S (nI t) (nI (a0 + 1)) = wCol (wBegin zZero S 1) (nI t) (nI 1) := by
        unfold pW wFul
        rw [eAt ht (by decide), e2, pk_sub (by omega), show a0 + 1 - a0 = 1 by omega, if_neg (by decide)]
        unfold wProv
        rw [cx.made ht, if_pos hy, if_pos rfl]
      obtain ⟨M0, -, hN⟩ := hS.beg (W := zZero) (mg := 1)
      unfold pGat
      rw [e]
      rcases hN.col ht (show 1 ≤ 1000000 by omega) with hf | ⟨hc, -⟩
      · rw [if_neg hf]
        decide
      · rw [if_pos hc.2.1, hc.2.2.2.2.2.1]
        decide
    · have hy1 : 1 ≤ eWy w t := by omega
      have hd : (999 - a0 + eWy w t - 1) / eWy w t ≤ 1000000 := by have := (eDiv_le (m := 999 - a0) (by omega) hy1).2.1; omega
      have hdm := Nat.div_mul_le_self (999 - a0 + eWy w t - 1) (eWy w t)
      rw [if_neg (show ¬ nI (eWy w t) < 1 from nI_nlt (b := 1) hy1 (by omega)), pk_sub (by omega), eDiv (by omega) hy1 hy20, show (500 : Int32) = nI 500 from rfl, cMin_n (by omega) (by decide), nI_clamp (by omega)]
      generalize hD : (999 - a0 + eWy w t - 1) / eWy w t = D at hd hdm ⊢
      -- one more than b batches
      have next : ∀ b, a0 + eWy w t * b < 999 → (∀ b', b < b' → b' ≤ min D 500 → ¬ pR0 B S (nI t) (nI b') 0 2 = 0) → b ≤ 500 → pGat B S (nI t) (nI (a0 + eWy w t * b + 1)) ≠ 0 := by
        intro b hb hall h500
        have ew := pW_made (B := B) (S := S) (n := a0 + eWy w t * b + 1) cx ht hy ea0 (by omega) (by omega)
        rw [dv_eq (c := b) hy1 (by omega) (by omega)] at ew
        have hbD : b + 1 ≤ D := by
          rw [← hD]
          refine (Nat.le_div_iff_mul_le (by omega)).mpr ?_
          rw [Nat.add_mul, Nat.one_mul, Nat.mul_comm b]
          omega
        by_cases h5 : b + 1 ≤ 500
        · exact (pGat_r0 cx hrk hS ht hy (by omega) ew).2 (hall (b + 1) (by omega) (by omega))
        · have h6 : b = 500 := by omega
          unfold pGat
          rw [ew, h6]
          obtain ⟨M0, -, hN⟩ := hS.beg (W := zZero) (mg := 1)
          have e3 := (hN.bat (b := 501) (by decide)).1
          have hc := (cx.1 t ht).2.1
          have hfl : ¬ wRun B 9 (nI t) (nI 501) (wBegin zZero S 1) 0 2 = 0 := by
            rw [wRun_s, cx.ings ht, nI_clamp (by omega), e3, if_pos (show (500 : Int32) < nI (0 + 501) by decide), eRunStep_f eFail_f, eDone_f eFail_f]
            exact eFail_f
          rw [if_neg hfl]
          decide
      rcases pHv_spec (B := B) (S := S) (t := nI t) (min D 500) zZero with ⟨h1, h2⟩ | ⟨b, h1, h2, h3, h4, h5⟩
      · rw [h1]
        refine ⟨a0, rfl, by omega, Or.inr (pGat_had ht ea0 ha0 (Nat.le_refl _)).2, ⟨a0, rfl, ha0, Or.inl (Nat.le_refl _)⟩, Or.inr ?_⟩
        have := next 0 (by omega) (fun b' q1 q2 => h2 b' q1 q2) (by decide)
        rw [Nat.mul_zero, Nat.add_zero] at this
        exact this
      · rw [h3]
        have hbD : b ≤ D := by omega
        have hyb : eWy w t * b ≤ 999 - a0 + eWy w t - 1 := by
          have : eWy w t * b ≤ eWy w t * D := Nat.mul_le_mul_left _ hbD
          rw [Nat.mul_comm (eWy w t) D] at this
          omega
        obtain ⟨c, rfl⟩ : ∃ c, b = c + 1 := ⟨b - 1, by omega⟩
        have hyc : eWy w t * (c + 1) = eWy w t * c + eWy w t := Nat.mul_succ _ _
        refine ⟨min (a0 + eWy w t * (c + 1)) 999, ?_, by omega, Or.inr ?_, ⟨a0, rfl, ha0, by omega⟩, ?_⟩
        · show cMin (nI a0 + nI (eWy w t) * nI (c + 1)) 999 = _
          rw [pk_mul, nI_add, show (999 : Int32) = nI 999 from rfl, cMin_n (by omega) (by decide)]
        · have ew := pW_made (B := B) (S := S) (n := min (a0 + eWy w t * (c + 1)) 999) cx ht hy ea0 (by omega) (by omega)
          rw [dv_eq (c := c) hy1 (by omega) (by omega)] at ew
          exact (pGat_r0 cx hrk hS ht hy (by omega) ew).1 h4
        · by_cases c9 : 999 ≤ a0 + eWy w t * (c + 1)
          · exact Or.inl (by omega)
          · refine Or.inr ?_
            rw [Nat.min_eq_left (by omega)]
            exact next (c + 1) (by omega) h5 (by omega)
end PHAVE
