/-! ===== 43.wmode: a making that may not gather ===== -/
def m0 (V : Nat → Nat → Int32) : Nat → Nat → Int32 := va_up V 0 (upd (V 0) 1 0)
theorem m0_j {V : Nat → Nat → Int32} {j : Nat} (h : j ≠ 0) : m0 V j = V j := zup_ne h
theorem m0_0 {V : Nat → Nat → Int32} {k : Nat} (h : k ≠ 1) : m0 V 0 k = V 0 k := by
  unfold m0
  rw [zup_eq, upd_ne h]
theorem m0_up {V : Nat → Nat → Int32} {j : Nat} {x : Nat → Int32} (h : j ≠ 0) : m0 (va_up V j x) = va_up (m0 V) j x := by
  funext i
  unfold m0
  by_cases e : i = 0
  · subst e
    rw [zup_eq, zup_ne (Ne.symm h), zup_ne (Ne.symm h), zup_eq]
  · rw [zup_ne e]
    by_cases e2 : i = j
    · subst e2
      rw [zup_eq, zup_eq]
    · rw [zup_ne e2, zup_ne e2, zup_ne e]
theorem upd_comm {f : Nat → Int32} {i j : Nat} {x y : Int32} (h : i ≠ j) : upd (upd f i x) j y = upd (upd f j y) i x := by
  funext k
  by_cases e : k = j
  · subst e
    rw [upd_eq, upd_ne (Ne.symm h), upd_eq]
  · rw [upd_ne e]
    by_cases e2 : k = i
    · subst e2
      rw [upd_eq, upd_eq]
    · rw [upd_ne e2, upd_ne e2, upd_ne e]
theorem m0_fl {V : Nat → Nat → Int32} {k : Nat} {x : Int32} (h : k ≠ 1) : m0 (va_up V 0 (upd (V 0) k x)) = va_up (m0 V) 0 (upd (m0 V 0) k x) := by
  unfold m0
  rw [zup_eq, va_up_up, va_up_up, zup_eq, upd_comm h]
theorem m0_come {V : Nat → Nat → Int32} {j : Nat} (hj : j ≠ 0) (i n : Int32) : wCome (m0 V) j i n = m0 (wCome V j i n) := by
  unfold wCome
  rw [m0_j (V := V) (j := 2) (by decide), m0_j (V := V) hj]
  split
  · rw [m0_up hj, m0_up (by decide)]
  · rw [show upd (V 0) 2 1 = upd (va_up (va_up V 2 (cAdd 20 (V 2) i n)) j (cAdd 20 (V j) i n) 0) 2 1 from by rw [zup_ne (Ne.symm hj), zup_ne (by decide)], m0_fl (by decide), m0_up hj, m0_up (by decide)]
    rw [show va_up (va_up (m0 V) 2 (cAdd 20 (V 2) i n)) j (cAdd 20 (V j) i n) 0 = m0 V 0 from by rw [zup_ne (Ne.symm hj), zup_ne (by decide)]]
theorem m0_nn {V : Nat → Nat → Int32} (i n : Int32) : wN (m0 V) i n = wN V i n := by
  unfold wN
  rw [m0_j (by decide)]
theorem m0_use {B V : Nat → Nat → Int32} (i n : Int32) : wUse B (m0 V) i n = m0 (wUse B V i n) := by
  have h : ∀ k, wUse0 (m0 V) i k = m0 (wUse0 V i k) := fun k => by
    unfold wUse0
    rw [m0_j (V := V) (j := 2) (by decide), m0_j (V := V) (j := 5) (by decide), m0_up (by decide), m0_up (by decide)]
  unfold wUse
  rw [m0_nn, h]
  split
  · rfl
  · rw [m0_come (by decide)]
theorem m0_bat {V : Nat → Nat → Int32} (c : Int32) : wBat (m0 V) c = m0 (wBat V c) := by
  unfold wBat
  rw [m0_fl (by decide), m0_0 (by decide)]
theorem m0_fail {V : Nat → Nat → Int32} : wFail (m0 V) = m0 (wFail V) := by
  unfold wFail
  rw [m0_fl (by decide)]
theorem m0_done {B V : Nat → Nat → Int32} (t c : Int32) : wDone B t c (m0 V) = m0 (wDone B t c V) := by
  unfold wDone
  rw [m0_0 (by decide)]
  split
  · rw [m0_come (by decide), m0_up (by decide), m0_j (by decide)]
  · rfl
theorem m0_subs {B V : Nat → Nat → Int32} {t n : Int32} : ∀ c, it (wSubStep B t) c (n - wN (m0 V) t n, wUse B (m0 V) t n) = ((it (wSubStep B t) c (n - wN V t n, wUse B V t n)).1, m0 (it (wSubStep B t) c (n - wN V t n, wUse B V t n)).2) := by
  intro c
  induction c with
  | zero =>
    show (n - wN (m0 V) t n, wUse B (m0 V) t n) = (n - wN V t n, m0 (wUse B V t n))
    rw [m0_nn, m0_use]
  | succ c ih =>
    rw [it_s, it_s, ih]
    generalize it (wSubStep B t) c (n - wN V t n, wUse B V t n) = s
    unfold wSubStep
    by_cases c0 : s.1 ≤ 0
    · rw [if_pos (show (s.1, m0 s.2).1 ≤ 0 from c0), if_pos c0]
    · rw [if_neg (show ¬ (s.1, m0 s.2).1 ≤ 0 from c0), if_neg c0]
      show (s.1 - wN (m0 s.2) _ s.1, wUse B (m0 s.2) _ s.1) = (s.1 - wN s.2 _ s.1, m0 (wUse B s.2 _ s.1))
      rw [m0_nn, m0_use]
/-- V is where the making that gathers is, V0 where the other is; g gathered at the start -/
def eMo (V V0 : Nat → Nat → Int32) (g bt s : Nat) : Prop := ((¬ V 0 2 = 0) ∧ ¬ V0 0 2 = 0) ∨ ∃ q bt' g' M', eN q 1 V bt' g' M' ∧ (g ≤ g' ∧ bt ≤ bt' ∧ g' + 100 * bt ≤ g + s + 100 * bt') ∧ ((g' = g ∧ V0 = m0 V) ∨ (g < g' ∧ ¬ V0 0 2 = 0))
section EMO
variable {B : Nat → Nat → Int32} {w : Nat → Int32} {r : Nat → Nat} {q : Int32}
def eHM (B : Nat → Nat → Int32) (w : Nat → Int32) (r : Nat → Nat) (f : Nat) : Prop := ∀ q t W b bt g M, t < 20 → eWy w t ≠ 0 → r t ≤ f → b ≤ 1000000 → eN q 1 W bt g M → eMo (wRun B f (nI t) (nI b) W) (wRun B f (nI t) (nI b) (m0 W)) g bt 0
theorem eMo.take (cx : eCx B w) (hrk : eRk w r) {f : Nat} (hR : eHM B w r f) {W : Nat → Nat → Int32} {bt g M t n : Nat} (h : eN q 1 W bt g M) (ht : t < 20) (hn : n ≤ 1000000)
    (hr : r t ≤ f) (hrs : ∀ i, i < eWs w t → r (eWb w t i) ≤ f) : eMo (wTake (wProv (wRun B f) B) B W (nI t) (nI n)) (wTake (wProv (wRun B f) B) B (m0 W) (nI t) (nI n)) g bt n := by
  have hs := h.subs cx ht hn (eWs w t) (Nat.le_refl _)
  have e0 : ∀ V, wSubs B V (nI t) (nI n) = it (wSubStep B (nI t)) (eWs w t) (nI n - wN V (nI t) (nI n), wUse B V (nI t) (nI n)) := fun V => by
    unfold wSubs
    rw [cx.subs ht, nI_clamp (by have := (cx.1 t ht).2.2.2.1.2; omega)]
  have em0 : wSubs B (m0 W) (nI t) (nI n) = ((wSubs B W (nI t) (nI n)).1, m0 (wSubs B W (nI t) (nI n)).2) := by
    rw [e0, e0, m0_subs]
  rw [← e0] at hs
  unfold wTake
  rw [em0]
  generalize wSubs B W (nI t) (nI n) = s at hs ⊢
  dsimp only
  rcases hs with hf | ⟨m, hm, em, hN⟩
  · have hf' : ¬ m0 s.2 0 2 = 0 := by
      rw [m0_0 (by decide)]
      exact hf
    refine Or.inl ⟨?_, ?_⟩
    · by_cases c0 : s.1 ≤ 0
      · rw [if_pos c0]
        exact hf
      · rw [if_neg c0, if_neg hf]
        exact hf
    · by_cases c0 : s.1 ≤ 0
      · rw [if_pos c0]
        exact hf'
      · rw [if_neg c0, if_neg hf']
        exact hf'
  by_cases c0 : s.1 ≤ 0
  · rw [if_pos c0, if_pos c0]
    exact Or.inr ⟨q, bt, g, M, hN, by omega, Or.inl ⟨rfl, rfl⟩⟩
  · rw [if_neg c0, if_pos hN.2.1, if_neg c0, if_pos ((m0_0 (by decide)).trans hN.2.1), em, cx.stand ht]
    have hm1 : 1 ≤ m := by
      rcases Nat.eq_zero_or_pos m with h0 | h0
      · exact absurd (by rw [em, h0]; decide) c0
      · exact h0
    unfold wProv
    cases e2 : eMd w t (eWs w t) with
    | none =>
      have hy : eWy w t = 0 := by
        unfold eMd at e2
        by_cases hy : eWy w t = 0
        · exact hy
        · rw [if_neg hy] at e2
          cases e2
      show eMo (wUse B (if bMade B (nI t) = 0 then _ else _) (nI t) (nI m)) (wUse B (if bMade B (nI t) = 0 then _ else _) (nI t) (nI m)) g bt n
      rw [show (none : Option Nat).getD t = t from rfl, cx.made ht, if_pos hy, if_pos rfl, if_pos rfl]
      have hf0 : ¬ wUse B (wCol (m0 s.2) (nI t) (nI m)) (nI t) (nI m) 0 2 = 0 := eUse_f (eCol_f0 (by unfold m0; rw [zup_eq, upd_eq]))
      rcases hN.col ht (show m ≤ 1000000 by omega) with hf | ⟨hc, -⟩
      · exact Or.inl ⟨eUse_f hf, hf0⟩
      · rcases hc.use (B := B) ht (show m ≤ 1000000 by omega) (eVs_of cx ht) with hf | hg
        · exact Or.inl ⟨hf, hf0⟩
        · exact Or.inr ⟨q, bt, g + m, M, hg, by omega, Or.inr ⟨by omega, hf0⟩⟩
    | some p =>
      obtain ⟨hp, hpy⟩ := eMd_some e2
      have hp20 : p < 20 := by
        rcases hp with rfl | ⟨i, hi, rfl⟩
        · exact ht
        · exact ((cx.1 t ht).2.2.2.2.2.1 i hi).2
      have hpr : r p ≤ f := by
        rcases hp with rfl | ⟨i, hi, rfl⟩
        · exact hr
        · exact hrs i hi
      have hpy2 := (cx.1 p hp20).1.2
      show eMo (wUse B (if bMade B (nI p) = 0 then _ else _) (nI p) (nI m)) (wUse B (if bMade B (nI p) = 0 then _ else _) (nI p) (nI m)) g bt n
      rw [show (some p).getD t = p from rfl, cx.made hp20, if_neg hpy, if_neg (by decide), if_neg (by decide), cx.yield hp20, eDiv (show m ≤ 1000000 by omega) (by omega) hpy2]
      have hd := eDiv_le hm1 (show 1 ≤ eWy w p by omega)
      rcases hR q p s.2 ((m + eWy w p - 1) / eWy w p) bt g M hp20 hpy hpr (by omega) hN with ⟨hf, hf0⟩ | ⟨q', bt', g', M', hN', hg', hcase⟩
      · exact Or.inl ⟨eUse_f hf, eUse_f hf0⟩
      · rcases hN'.use (B := B) hp20 (show m ≤ 1000000 by omega) (eVs_of cx hp20) with hf | hg
        · refine Or.inl ⟨hf, ?_⟩
          rcases hcase with ⟨-, e⟩ | ⟨-, hf0⟩
          · rw [e, m0_use, m0_0 (by decide)]
            exact hf
          · exact eUse_f hf0
        · refine Or.inr ⟨q', bt', g', M', hg, by omega, ?_⟩
          rcases hcase with ⟨e1, e⟩ | ⟨e1, hf0⟩
          · exact Or.inl ⟨e1, by rw [e, m0_use]⟩
          · exact Or.inr ⟨e1, eUse_f hf0⟩
theorem eHM.all (cx : eCx B w) (hrk : eRk w r) : ∀ f, eHM B w r f := by
  intro f
  induction f with
  | zero =>
    intro q t W b bt g M ht hy hr
    have := (hrk t ht hy).1
    omega
  | succ f ih =>
    intro q t W b bt g M ht hy hr hb hN
    obtain ⟨hr1, hr8, hrn⟩ := hrk t ht hy
    obtain ⟨hc, hc5⟩ := (cx.1 t ht).2.1
    obtain ⟨e3, hbat⟩ := hN.bat hb
    have e30 : wBat (m0 W) (nI b) 0 3 = nI (bt + b) := by rw [m0_bat, m0_0 (by decide), e3]
    rw [wRun_s, wRun_s, cx.ings ht, nI_clamp (by omega), e3, e30]
    have hbt := hN.2.2.2.2.1
    by_cases c5 : 500 < bt + b
    · have h5 : (500 : Int32) < nI (bt + b) := nI_lt (a := 500) c5 (by omega)
      rw [if_pos h5, if_pos h5]
      refine Or.inl ⟨?_, ?_⟩
      · rw [eRunStep_f eFail_f, eDone_f eFail_f]
        exact eFail_f
      · rw [eRunStep_f eFail_f, eDone_f eFail_f]
        exact eFail_f
    · have h5 : ¬ (500 : Int32) < nI (bt + b) := nI_nlt (b := bt + b) (a := 500) (by omega) (by omega)
      rw [if_neg h5, if_neg h5, m0_bat]
      have hN1 := hbat (by omega)
      generalize wBat W (nI b) = W1 at hN1 ⊢
      have hloop : ∀ k, k ≤ eWc w t → eMo (it (wRunStep (wRun B f) B (nI t) (nI b)) k W1) (it (wRunStep (wRun B f) B (nI t) (nI b)) k (m0 W1)) g (bt + b) (20 * (b * k)) := by
        intro k
        induction k with
        | zero => exact fun _ => Or.inr ⟨q, bt + b, g, M, hN1, by omega, Or.inl ⟨rfl, rfl⟩⟩
        | succ k ihk =>
          intro hk
          rw [it_s, it_s]
          generalize it (wRunStep (wRun B f) B (nI t) (nI b)) k W1 = V at ihk ⊢
          generalize it (wRunStep (wRun B f) B (nI t) (nI b)) k (m0 W1) = V0 at ihk ⊢
          unfold wRunStep
          rcases ihk (by omega) with ⟨hf, hf0⟩ | ⟨q', bt', g', M', hV, hg', hcase⟩
          · rw [if_neg hf, if_neg hf0]
            exact Or.inl ⟨hf, hf0⟩
          · obtain ⟨-, hi20, -, ha1, ha20⟩ := (cx.1 t ht).2.2.2.2.1 k (by omega)
            have hm20 : eWa w t k * b ≤ 20 * b := Nat.mul_le_mul_right b ha20
            have hrk2 := hrn k (by omega)
            rw [if_pos hV.2.1, cx.ing ht (by omega), cx.amt ht (by omega), pk_mul]
            rcases hcase with ⟨e1, e⟩ | ⟨e1, hf0⟩
            · subst e1
              rw [e, if_pos ((m0_0 (by decide)).trans hV.2.1)]
              have e5 : b * (k + 1) = b * k + b := Nat.mul_succ b k
              rcases eMo.take cx hrk ih hV hi20 (show eWa w t k * b ≤ 1000000 by omega) (by omega) (fun i hi => by have := hrk2.2 i hi; omega) with h | ⟨q2, bt2, g2, M2, h1, h2, h3⟩
              · exact Or.inl h
              · exact Or.inr ⟨q2, bt2, g2, M2, h1, by omega, h3⟩
            · rw [if_neg hf0]
              rcases hV.take cx (Or.inr rfl) (eHR.all cx hrk (Or.inr rfl) f) hi20 (show eWa w t k * b ≤ 1000000 by omega) (by omega) (fun i hi => by have := hrk2.2 i hi; omega) with hf | ⟨bt2, g2, M2, hV2, hb2, hg2, hs2, -⟩
              · exact Or.inl ⟨hf, hf0⟩
              · have e5 : b * (k + 1) = b * k + b := Nat.mul_succ b k
                exact Or.inr ⟨q', bt2, g2, M2, hV2, by omega, Or.inr ⟨by omega, hf0⟩⟩
      have hl := hloop (eWc w t) (Nat.le_refl _)
      generalize it (wRunStep (wRun B f) B (nI t) (nI b)) (eWc w t) W1 = V at hl ⊢
      generalize it (wRunStep (wRun B f) B (nI t) (nI b)) (eWc w t) (m0 W1) = V0 at hl ⊢
      rcases hl with ⟨hf, hf0⟩ | ⟨q', bt', g', M', hV, hg', hcase⟩
      · refine Or.inl ⟨?_, ?_⟩
        · rw [eDone_f hf]
          exact hf
        · rw [eDone_f hf0]
          exact hf0
      · rcases hV.done cx ht (show b ≤ 500 by omega) with hf | ⟨hD, -⟩
        · refine Or.inl ⟨hf, ?_⟩
          rcases hcase with ⟨-, e⟩ | ⟨-, hf0⟩
          · rw [e, m0_done, m0_0 (by decide)]
            exact hf
          · rw [eDone_f hf0]
            exact hf0
        · have h6 : b * eWc w t ≤ b * 5 := Nat.mul_le_mul_left b hc5
          refine Or.inr ⟨q', bt', g', _, hD, by omega, ?_⟩
          rcases hcase with ⟨e1, e⟩ | ⟨e1, hf0⟩
          · exact Or.inl ⟨e1, by rw [e, m0_done]⟩
          · exact Or.inr ⟨e1, by rw [eDone_f hf0]; exact hf0⟩
end EMO
