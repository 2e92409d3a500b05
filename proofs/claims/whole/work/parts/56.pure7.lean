/-! ===== 56.pure7: a making that may not gather, against one that may ===== -/
def eE (W : Nat → Nat → Int32) : Nat → Nat → Int32 := va_up W 0 (upd (W 0) 1 1)
theorem eE_0 {W : Nat → Nat → Int32} : eE W 0 = upd (W 0) 1 1 := zup_eq
theorem eE_j {W : Nat → Nat → Int32} {j : Nat} (h : j ≠ 0) : eE W j = W j := zup_ne h
theorem eUpd_swap {f : Nat → Int32} {i j : Nat} {x y : Int32} (h : i ≠ j) : upd (upd f i x) j y = upd (upd f j y) i x := by
  funext k
  by_cases e : k = i
  · subst e
    rw [upd_ne h, upd_eq, upd_eq]
  · by_cases e2 : k = j
    · subst e2
      rw [upd_eq, upd_ne e, upd_eq]
    · rw [upd_ne e2, upd_ne e, upd_ne e, upd_ne e2]
theorem eE_up {W : Nat → Nat → Int32} {j : Nat} {x : Nat → Int32} (h : j ≠ 0) : va_up (eE W) j x = eE (va_up W j x) := by
  funext i
  by_cases hi : i = 0
  · subst hi
    rw [zup_ne (Ne.symm h), eE_0, eE_0, zup_ne (Ne.symm h)]
  · rw [eE_j hi]
    by_cases hj : i = j
    · subst hj
      rw [zup_eq, zup_eq]
    · rw [zup_ne hj, zup_ne hj, eE_j hi]
theorem eE_f {W : Nat → Nat → Int32} {k : Nat} {x : Int32} (h : k ≠ 1) : va_up (eE W) 0 (upd (eE W 0) k x) = eE (va_up W 0 (upd (W 0) k x)) := by
  funext i
  by_cases hi : i = 0
  · subst hi
    rw [zup_eq, eE_0, eE_0, zup_eq, eUpd_swap (Ne.symm h)]
  · rw [zup_ne hi, eE_j hi, eE_j hi, zup_ne hi]
theorem eE_come {W : Nat → Nat → Int32} {j : Nat} {t n : Int32} (hj : 1 ≤ j) : wCome (eE W) j t n = eE (wCome W j t n) := by
  unfold wCome
  rw [eE_j (show 2 ≠ 0 by decide), eE_j (show j ≠ 0 by omega), eE_up (by decide), eE_up (by omega)]
  split
  · rfl
  · have e0 : va_up (va_up W 2 (cAdd 20 (W 2) t n)) j (cAdd 20 (W j) t n) 0 = W 0 := by simp (disch := omega) only [zup_ne, zup_eq, upd_ne, upd_eq]
    have := eE_f (W := va_up (va_up W 2 (cAdd 20 (W 2) t n)) j (cAdd 20 (W j) t n)) (k := 2) (x := 1) (by decide)
    rw [e0, eE_0, e0] at this
    rw [eE_0]
    exact this
theorem eE_use0 {W : Nat → Nat → Int32} {t n : Int32} : wUse0 (eE W) t n = eE (wUse0 W t n) := by
  unfold wUse0
  rw [eE_j (show 2 ≠ 0 by decide), eE_j (show 5 ≠ 0 by decide), eE_up (by decide), eE_up (by decide)]
theorem eE_wN {W : Nat → Nat → Int32} {t n : Int32} : wN (eE W) t n = wN W t n := by
  unfold wN
  rw [eE_j (show 2 ≠ 0 by decide)]
theorem eE_use {B W : Nat → Nat → Int32} {t n : Int32} : wUse B (eE W) t n = eE (wUse B W t n) := by
  unfold wUse
  rw [eE_wN, eE_use0]
  split
  · rfl
  · exact eE_come (by decide)
theorem eE_subs {B W : Nat → Nat → Int32} {t n : Int32} : wSubs B (eE W) t n = ((wSubs B W t n).1, eE (wSubs B W t n).2) := by
  unfold wSubs
  rw [eE_wN, eE_use]
  generalize (bSubs B t).toNatClampNeg = c
  generalize n - wN W t n = x
  generalize wUse B W t n = V
  induction c with
  | zero => rfl
  | succ c ih =>
    rw [it_s, it_s, ih]
    generalize it (wSubStep B t) c (x, V) = s
    unfold wSubStep
    by_cases c0 : s.1 ≤ 0
    · rw [if_pos c0, if_pos c0]
    · rw [if_neg c0, if_neg c0, eE_wN, eE_use]
theorem eE_done {B W : Nat → Nat → Int32} {t c : Int32} : wDone B t c (eE W) = eE (wDone B t c W) := by
  unfold wDone
  have e : eE W 0 2 = W 0 2 := by rw [eE_0, upd_ne (by decide)]
  rw [e]
  split
  · rw [eE_come (by decide), eE_j (show 1 ≠ 0 by decide), eE_up (by decide)]
  · rfl
theorem eN.E {q mg : Int32} {W : Nat → Nat → Int32} {bt g M : Nat} (h : eN q mg W bt g M) : eN q 1 (eE W) bt g M := by
  obtain ⟨h1, h2, h3, h4, h5, h6, h7, h8⟩ := h
  refine ⟨?_, ?_, fun t ht => ?_, ?_, h5, ?_, ?_, ?_⟩
  · rw [eE_0, upd_eq]
  · rw [eE_0, upd_ne (by decide)]
    exact h2
  · rw [eE_j (by decide)]
    exact h3 t ht
  · rw [eE_0, upd_ne (by decide)]
    exact h4
  · rw [eE_0, upd_ne (by decide)]
    exact h6
  · rw [eE_j (by decide)]
    exact h7
  · rw [eE_j (by decide)]
    exact h8
section ECMP
variable {B : Nat → Nat → Int32} {w : Nat → Int32} {r : Nat → Nat} {q : Int32}
/-- two runs, the second one may gather: n is what one more thing may bring -/
def eC2 (q : Int32) (bt n : Nat) (V0 V1 : Nat → Nat → Int32) : Prop := (V1 = eE V0 ∧ ∃ bt' M', eN q 0 V0 bt' 0 M' ∧ bt ≤ bt') ∨ (¬ V0 0 2 = 0 ∧ (¬ V1 0 2 = 0 ∨ ∃ bt' g' M', eN q 1 V1 bt' g' M' ∧ 0 < g' ∧ g' + 100 * bt ≤ n + 100 * bt' ∧ bt ≤ bt'))
def eCmp (B : Nat → Nat → Int32) (w : Nat → Int32) (r : Nat → Nat) (q : Int32) (f : Nat) : Prop := ∀ t W b bt M, t < 20 → eWy w t ≠ 0 → r t ≤ f → b ≤ 1000000 → eN q 0 W bt 0 M → eC2 q bt 0 (wRun B f (nI t) (nI b) W) (wRun B f (nI t) (nI b) (eE W))
theorem eCmp.take (cx : eCx B w) (hrk : eRk w r) {f : Nat} (hC : eCmp B w r q f) {W : Nat → Nat → Int32} {bt M t n : Nat} (h : eN q 0 W bt 0 M) (ht : t < 20) (hn : n ≤ 1000000) (hr : r t ≤ f) (hrs : ∀ i, i < eWs w t → r (eWb w t i) ≤ f) :
    eC2 q bt n (wTake (wProv (wRun B f) B) B W (nI t) (nI n)) (wTake (wProv (wRun B f) B) B (eE W) (nI t) (nI n)) := by
  have hs := h.subs cx ht hn (eWs w t) (Nat.le_refl _)
  have e : wSubs B W (nI t) (nI n) = it (wSubStep B (nI t)) (eWs w t) (nI n - wN W (nI t) (nI n), wUse B W (nI t) (nI n)) := by
    unfold wSubs
    rw [cx.subs ht, nI_clamp (by have := (cx.1 t ht).2.2.2.1.2; omega)]
  rw [← e] at hs
  unfold wTake
  rw [eE_subs]
  generalize wSubs B W (nI t) (nI n) = s at hs ⊢
  have e02 : eE s.2 0 2 = s.2 0 2 := by rw [eE_0, upd_ne (by decide)]
  have e02f : ∀ h : ¬ s.2 0 2 = 0, ¬ eE s.2 0 2 = 0 := fun h => by rw [e02]; exact h
  dsimp only
  rcases hs with hf | ⟨m, hm, em, hN⟩
  · refine Or.inr ⟨?_, Or.inl ?_⟩
    · split
      · exact hf
      · first | exact hf | (rw [if_neg hf]; exact hf)
    · split
      · exact e02f hf
      · first | exact e02f hf | (rw [if_neg (e02f hf)]; exact e02f hf)
  · by_cases c0 : s.1 ≤ 0
    · rw [if_pos c0, if_pos c0]
      exact Or.inl ⟨rfl, bt, M, hN, Nat.le_refl _⟩
    · rw [if_neg c0, if_neg c0, if_pos hN.2.1, if_pos (e02.trans hN.2.1), em, cx.stand ht]
      have hm1 : 1 ≤ m := by
        rcases Nat.eq_zero_or_pos m with h0 | h0
        · exact absurd (by rw [em, h0]; decide) c0
        · exact h0
      unfold wProv
      cases e2 : eMd w t (eWs w t) with
      | none =>
        have hy : eWy w t = 0 := by
          unfold eMd at e2
          by_cases hy : eWy w t = 0
          · exact hy
          · rw [if_neg hy] at e2
            cases e2
        rw [show (none : Option Nat).getD t = t from rfl, cx.made ht, if_pos hy, if_pos rfl, if_pos rfl]
        refine Or.inr ⟨eUse_f (eCol_f0 hN.1), ?_⟩
        rcases hN.E.col ht (show m ≤ 1000000 by omega) with hf | ⟨hc, -⟩
        · exact Or.inl (eUse_f hf)
        · rcases hc.use (B := B) ht (show m ≤ 1000000 by omega) (eVs_of cx ht) with hf | hg
          · exact Or.inl hf
          · exact Or.inr ⟨bt, 0 + m, M, hg, by omega, by omega, Nat.le_refl _⟩
      | some p =>
        obtain ⟨hp, hpy⟩ := eMd_some e2
        have hp20 := eMd_lt cx ht (Nat.le_refl _) e2
        have hpr : r p ≤ f := by
          rcases hp with rfl | ⟨i, hi, rfl⟩
          · exact hr
          · exact hrs i hi
        have hpy2 := (cx.1 p hp20).1.2
        rw [show (some p).getD t = p from rfl, cx.made hp20, if_neg hpy, if_neg (by decide), if_neg (by decide), cx.yield hp20, eDiv (show m ≤ 1000000 by omega) (by omega) hpy2]
        have hd := eDiv_le hm1 (show 1 ≤ eWy w p by omega)
        rcases hC p s.2 ((m + eWy w p - 1) / eWy w p) bt M hp20 hpy hpr (by omega) hN with ⟨he, bt', M', hN', hb⟩ | ⟨hf, hor⟩
        · rw [he, eE_use]
          rcases hN'.use (B := B) hp20 (show m ≤ 1000000 by omega) (eVs_of cx hp20) with hf | hg
          · exact Or.inr ⟨hf, Or.inl (by rw [eE_0, upd_ne (by decide)]; exact hf)⟩
          · exact Or.inl ⟨rfl, bt', M', hg, hb⟩
        · refine Or.inr ⟨eUse_f hf, ?_⟩
          rcases hor with hf2 | ⟨bt', g', M', hN', h0, h1, h2⟩
          · exact Or.inl (eUse_f hf2)
          · rcases hN'.use (B := B) hp20 (show m ≤ 1000000 by omega) (eVs_of cx hp20) with hf | hg
            · exact Or.inl hf
            · exact Or.inr ⟨bt', g', M', hg, h0, by omega, h2⟩
theorem eCmp.all (cx : eCx B w) (hrk : eRk w r) : ∀ f, eCmp B w r q f := by
  intro f
  induction f with
  | zero =>
    intro t W b bt M ht hy hr
    have := (hrk t ht hy).1
    omega
  | succ f ih =>
    intro t W b bt M ht hy hr hb hN
    obtain ⟨hr1, hr8, hrn⟩ := hrk t ht hy
    obtain ⟨hc, hc5⟩ := (cx.1 t ht).2.1
    obtain ⟨e3, hbat⟩ := hN.bat hb
    have hbt := hN.2.2.2.2.1
    have eb : wBat (eE W) (nI b) = eE (wBat W (nI b)) := by
      unfold wBat
      have : eE W 0 3 = W 0 3 := by rw [eE_0, upd_ne (by decide)]
      rw [this, eE_f (by decide)]
    have eb3 : eE (wBat W (nI b)) 0 3 = wBat W (nI b) 0 3 := by rw [eE_0, upd_ne (by decide)]
    rw [wRun_s, wRun_s, cx.ings ht, nI_clamp (by omega), eb, eb3, e3]
    by_cases c5 : 500 < bt + b
    · rw [if_pos (show (500 : Int32) < nI (bt + b) from nI_lt (a := 500) c5 (by omega)), if_pos (show (500 : Int32) < nI (bt + b) from nI_lt (a := 500) c5 (by omega)), eRunStep_f eFail_f, eDone_f eFail_f, eRunStep_f eFail_f, eDone_f eFail_f]
      exact Or.inr ⟨eFail_f, Or.inl eFail_f⟩
    · rw [if_neg (show ¬ (500 : Int32) < nI (bt + b) from nI_nlt (b := bt + b) (a := 500) (by omega) (by omega)), if_neg (show ¬ (500 : Int32) < nI (bt + b) from nI_nlt (b := bt + b) (a := 500) (by omega) (by omega))]
      have hN1 := hbat (by omega)
      generalize wBat W (nI b) = W1 at hN1 ⊢
      have hloop : ∀ k, k ≤ eWc w t → eC2 q (bt + b) (20 * (b * k)) (it (wRunStep (wRun B f) B (nI t) (nI b)) k W1) (it (wRunStep (wRun B f) B (nI t) (nI b)) k (eE W1)) := by
        intro k
        induction k with
        | zero => exact fun _ => Or.inl ⟨rfl, bt + b, M, hN1, Nat.le_refl _⟩
        | succ k ihk =>
          intro hk
          rw [it_s, it_s]
          have ihk := ihk (by omega)
          generalize it (wRunStep (wRun B f) B (nI t) (nI b)) k W1 = V0 at ihk ⊢
          generalize it (wRunStep (wRun B f) B (nI t) (nI b)) k (eE W1) = V1 at ihk ⊢
          obtain ⟨-, hi20, -, ha1, ha20⟩ := (cx.1 t ht).2.2.2.2.1 k (by omega)
          have hm20 : eWa w t k * b ≤ 20 * b := Nat.mul_le_mul_right b ha20
          have hrk2 := hrn k (by omega)
          have e5 : b * (k + 1) = b * k + b := Nat.mul_succ b k
          unfold wRunStep
          rw [cx.ing ht (by omega), cx.amt ht (by omega), pk_mul]
          rcases ihk with ⟨rfl, bt', M', hV, hb'⟩ | ⟨hf, hor⟩
          · have e02 : eE V0 0 2 = V0 0 2 := by rw [eE_0, upd_ne (by decide)]
            rw [if_pos hV.2.1, if_pos (e02.trans hV.2.1)]
            rcases eCmp.take cx hrk ih hV hi20 (show eWa w t k * b ≤ 1000000 by omega) (by omega) (fun i hi => by have := hrk2.2 i hi; omega) with ⟨he, bt2, M2, hN2, hb2⟩ | ⟨hf, hor⟩
            · exact Or.inl ⟨he, bt2, M2, hN2, by omega⟩
            · refine Or.inr ⟨hf, ?_⟩
              rcases hor with hf2 | ⟨bt2, g2, M2, hN2, h0, h1, h2⟩
              · exact Or.inl hf2
              · exact Or.inr ⟨bt2, g2, M2, hN2, h0, by omega, by omega⟩
          · rw [if_neg hf]
            refine Or.inr ⟨hf, ?_⟩
            rcases hor with hf2 | ⟨bt', g', M', hN', h0, h1, h2⟩
            · rw [if_neg hf2]
              exact Or.inl hf2
            · rw [if_pos hN'.2.1]
              rcases hN'.take cx (Or.inr rfl) (eHR.all cx hrk (Or.inr rfl) f) hi20 (show eWa w t k * b ≤ 1000000 by omega) (by omega) (fun i hi => by have := hrk2.2 i hi; omega) with hf | ⟨bt2, g2, M2, hV2, d1, d2, d3, d4, d5⟩
              · exact Or.inl hf
              · exact Or.inr ⟨bt2, g2, M2, hV2, by omega, by omega, by omega⟩
      have hl := hloop (eWc w t) (Nat.le_refl _)
      generalize it (wRunStep (wRun B f) B (nI t) (nI b)) (eWc w t) W1 = V0 at hl ⊢
      generalize it (wRunStep (wRun B f) B (nI t) (nI b)) (eWc w t) (eE W1) = V1 at hl ⊢
      have h6 : b * eWc w t ≤ b * 5 := Nat.mul_le_mul_left b hc5
      rcases hl with ⟨rfl, bt', M', hV, hb'⟩ | ⟨hf, hor⟩
      · rw [eE_done]
        rcases hV.done cx ht (show b ≤ 500 by omega) with hf | ⟨hD, -⟩
        · exact Or.inr ⟨hf, Or.inl (by rw [eE_0, upd_ne (by decide)]; exact hf)⟩
        · exact Or.inl ⟨rfl, bt', _, hD, by omega⟩
      · rw [eDone_f hf]
        refine Or.inr ⟨hf, ?_⟩
        rcases hor with hf2 | ⟨bt', g', M', hN', h0, h1, h2⟩
        · rw [eDone_f hf2]
          exact Or.inl hf2
        · rcases hN'.done cx ht (show b ≤ 500 by omega) with hf | ⟨hD, -⟩
          · exact Or.inl hf
          · exact Or.inr ⟨bt', g', _, hD, h0, by omega, by omega⟩
end ECMP
theorem eE_begin {W S : Nat → Nat → Int32} : eE (wBegin W S 0) = wBegin W S 1 := by
  unfold eE wBegin
  rw [zup_eq, va_up_up]
  congr 1
  funext k
  unfold upd
  by_cases h : k = 1
  · subst h
    rfl
  · simp [h]
theorem eRun_500 {B : Nat → Nat → Int32} {q mg : Int32} {W : Nat → Nat → Int32} {t : Int32} {b g M : Nat} (h : eN q mg W 0 g M) (hb : b ≤ 1000000) (h5 : 500 < b) : ¬ wRun B 9 t (nI b) W 0 2 = 0 := by
  obtain ⟨e3, -⟩ := h.bat hb
  rw [show (9 : Nat) = 8 + 1 from rfl, wRun_s, e3, if_pos (show (500 : Int32) < nI (0 + b) from nI_lt (a := 500) (by omega) (by omega)), eRunStep_f eFail_f, eDone_f eFail_f]
  exact eFail_f
section EHV
variable {B S W G : Nat → Nat → Int32} {r : Nat → Nat} {t b M : Nat}
/-- a making without gathering, told by the model -/
theorem eHvC (cx : eCx B (G 1)) (hrk : eRk (G 1) r) (hS : eSk S (G 1)) (hw : eWm (G 1)) (hM : cSum (S 3) 20 = nI M) (ht : t < 20) (hy : eWy (G 1) t ≠ 0) (hb : b ≤ 1000000) :
    wRun B 9 (nI t) (nI b) (wBegin W S 0) 0 2 = 0 ↔ (mFin eNu (mBegin (mBeg0 G) 0 (nI t) (nI b) 0) 0 16 = 0 ∧ mFin eNu (mBegin (mBeg0 G) 0 (nI t) (nI b) 0) 1 460 = G 1 460) := by
  obtain ⟨-, -, hE⟩ := eMaking (W := W) cx hrk hS hw hM ht hy hb
  have hr8 := (hrk t ht hy).2.1
  have hC := eCmp.all (q := G 1 460) cx hrk 9 t (wBegin W S 0) b 0 M ht hy (by omega) hb (eStart hS hw hM)
  rw [eE_begin] at hC
  generalize mFin eNu (mBegin (mBeg0 G) 0 (nI t) (nI b) 0) = X at hE ⊢
  generalize wRun B 9 (nI t) (nI b) (wBegin W S 0) = V0 at hC ⊢
  generalize wRun B 9 (nI t) (nI b) (wBegin W S 1) = V1 at hE hC ⊢
  rcases hC with ⟨rfl, bt', M', hN', -⟩ | ⟨hf, hor⟩
  · refine ⟨fun _ => ?_, fun _ => hN'.2.1⟩
    rcases hE with ⟨hf, -⟩ | ⟨bt, g, M2, hN2, hT, -⟩
    · exact absurd (by rw [eE_0, upd_ne (by decide)]; exact hN'.2.1) hf
    · refine ⟨by rw [← hT.2.2.1]; exact hN2.2.1, ?_⟩
      rw [hT.2.2.2.2, eE_0, upd_ne (by decide), hN'.2.2.2.2.2.1, nI_0, Int32.add_zero]
  · refine ⟨fun h => absurd h hf, fun ⟨h1, h2⟩ => ?_⟩
    rcases hE with ⟨-, hx⟩ | ⟨bt, g, M2, hN2, hT, hg, -⟩
    · exact absurd h1 hx
    · rcases hor with hf2 | ⟨bt', g', M', hN', h0, hg', -⟩
      · exact absurd hN2.2.1 hf2
      · have e1 : V1 0 4 = 0 := by
          have := hT.2.2.2.2
          rw [h2] at this
          have h3 : G 1 460 + V1 0 4 - G 1 460 = 0 := by rw [← this, Int32.sub_self]
          rwa [Int32.add_comm, Int32.add_sub_cancel] at h3
        have hb5 := hN'.2.2.2.2.1
        rw [hN'.2.2.2.2.2.1] at e1
        have := (nI_eq (a := g') (b := 0) (by omega) (by decide)).mp e1
        omega
end EHV
