/-! ===== 51.pure2: the recursion's numbers ===== -/
theorem it_zero {σ : Type} {f : Nat → σ → σ} {s : σ} : it f 0 s = s := rfl
theorem it_s {σ : Type} {f : Nat → σ → σ} {n : Nat} {s : σ} : it f (n + 1) s = f n (it f n s) := rfl
theorem eVs_of {B : Nat → Nat → Int32} {w : Nat → Int32} (cx : eCx B w) {t : Nat} (ht : t < 20) : eVs (bVes B (nI t)) := by
  rw [cx.ves ht]
  exact (cx.1 t ht).2.2.2.2.2.2
theorem eN.subs {B : Nat → Nat → Int32} {w : Nat → Int32} (cx : eCx B w) {q mg : Int32} {W : Nat → Nat → Int32} {bt g M t n : Nat} (h : eN q mg W bt g M) (ht : t < 20) (hn : n ≤ 1000000) :
    ∀ c, c ≤ eWs w t → (¬ (it (wSubStep B (nI t)) c (nI n - wN W (nI t) (nI n), wUse B W (nI t) (nI n))).2 0 2 = 0) ∨ ∃ m, m ≤ n ∧ (it (wSubStep B (nI t)) c (nI n - wN W (nI t) (nI n), wUse B W (nI t) (nI n))).1 = nI m ∧ eN q mg (it (wSubStep B (nI t)) c (nI n - wN W (nI t) (nI n), wUse B W (nI t) (nI n))).2 bt g M := by
  intro c
  induction c with
  | zero =>
    intro _
    obtain ⟨a, k, ha, ea, hka, hkm, ek, -⟩ := h.tk ht hn
    rcases h.use (B := B) ht hn (eVs_of cx ht) with hf | hg
    · exact Or.inl hf
    · refine Or.inr ⟨n - k, by omega, ?_, hg⟩
      show nI n - wN W (nI t) (nI n) = _
      rw [ek, pk_sub hkm]
  | succ c ih =>
    intro hc
    rw [it_s]
    generalize it (wSubStep B (nI t)) c (nI n - wN W (nI t) (nI n), wUse B W (nI t) (nI n)) = s at ih ⊢
    have h20 := ((cx.1 t ht).2.2.2.2.2.1 c (by omega)).2
    unfold wSubStep
    rw [cx.sub ht (by omega)]
    rcases ih (by omega) with hf | ⟨m, hm, em, hN⟩
    · refine Or.inl ?_
      split
      · exact hf
      · exact eUse_f hf
    · by_cases c0 : s.1 ≤ 0
      · rw [if_pos c0]
        exact Or.inr ⟨m, hm, em, hN⟩
      · rw [if_neg c0]
        rw [em]
        obtain ⟨a, k, ha, ea, hka, hkm, ek, -⟩ := hN.tk h20 (show m ≤ 1000000 by omega)
        rcases hN.use (B := B) h20 (show m ≤ 1000000 by omega) (eVs_of cx h20) with hf | hg
        · exact Or.inl hf
        · refine Or.inr ⟨m - k, by omega, ?_, hg⟩
          show nI m - wN s.2 (nI (eWb w t c)) (nI m) = _
          rw [ek, pk_sub hkm]
theorem eDiv {m y : Nat} (hm : m ≤ 1000000) (hy : 1 ≤ y) (hy2 : y ≤ 20) : cDivUp (nI m) (nI y) = nI ((m + y - 1) / y) := by
  unfold cDivUp
  rw [if_pos (show (1 : Int32) ≤ nI y from nI_le (a := 1) hy (by omega)), nI_add, show (1 : Int32) = nI 1 from rfl, pk_sub (by omega), pk_div (by omega) (by omega) (by omega)]
theorem eDiv_le {m y : Nat} (hm : 1 ≤ m) (hy : 1 ≤ y) : 1 ≤ (m + y - 1) / y ∧ (m + y - 1) / y ≤ m ∧ m ≤ y * ((m + y - 1) / y) := by
  have h1 := Nat.div_add_mod (m + y - 1) y
  have h2 := Nat.mod_lt (m + y - 1) (show 0 < y by omega)
  refine ⟨?_, ?_, by omega⟩
  · exact (Nat.le_div_iff_mul_le (by omega)).mpr (by omega)
  · refine Nat.div_le_of_le_mul ?_
    have : y * m = m + (y - 1) * m := by
      obtain ⟨z, rfl⟩ : ∃ z, y = z + 1 := ⟨y - 1, by omega⟩
      rw [Nat.add_sub_cancel, Nat.add_mul, Nat.one_mul, Nat.add_comm]
    have h3 : (y - 1) * 1 ≤ (y - 1) * m := Nat.mul_le_mul_left _ hm
    omega
/-- the ranks: what is needed for a made thing is of a lower one -/
def eRk (w : Nat → Int32) (r : Nat → Nat) : Prop := ∀ t, t < 20 → eWy w t ≠ 0 → 1 ≤ r t ∧ r t ≤ 8 ∧ ∀ k, k < eWc w t → r (eWi w t k) < r t ∧ ∀ i, i < eWs w (eWi w t k) → r (eWb w (eWi w t k) i) < r t
def eHR (B : Nat → Nat → Int32) (w : Nat → Int32) (r : Nat → Nat) (q mg : Int32) (f : Nat) : Prop := ∀ t W b bt g M, t < 20 → eWy w t ≠ 0 → r t ≤ f → b ≤ 1000000 → eN q mg W bt g M →
  (¬ wRun B f (nI t) (nI b) W 0 2 = 0) ∨ ∃ bt' g' M' a, eN q mg (wRun B f (nI t) (nI b) W) bt' g' M' ∧ bt ≤ bt' ∧ g ≤ g' ∧ g' + 100 * bt ≤ g + 100 * bt' ∧ M ≤ M' ∧ M' + 20 * bt ≤ M + 20 * bt' ∧ wRun B f (nI t) (nI b) W 2 t = nI a ∧ eWy w t * b ≤ a ∧ a ≤ 99999
theorem eN.take {B : Nat → Nat → Int32} {w : Nat → Int32} {r : Nat → Nat} (cx : eCx B w) {q mg : Int32} (hmg : mg = 0 ∨ mg = 1) {f : Nat} (hR : eHR B w r q mg f) {W : Nat → Nat → Int32} {bt g M t n : Nat} (h : eN q mg W bt g M) (ht : t < 20) (hn : n ≤ 1000000)
    (hr : r t ≤ f) (hrs : ∀ i, i < eWs w t → r (eWb w t i) ≤ f) :
    (¬ wTake (wProv (wRun B f) B) B W (nI t) (nI n) 0 2 = 0) ∨ ∃ bt' g' M', eN q mg (wTake (wProv (wRun B f) B) B W (nI t) (nI n)) bt' g' M' ∧ bt ≤ bt' ∧ g ≤ g' ∧ g' + 100 * bt ≤ g + n + 100 * bt' ∧ M ≤ M' ∧ M' + 20 * bt ≤ M + 20 * bt' := by
  have hs := h.subs cx ht hn (eWs w t) (Nat.le_refl _)
  have e : wSubs B W (nI t) (nI n) = it (wSubStep B (nI t)) (eWs w t) (nI n - wN W (nI t) (nI n), wUse B W (nI t) (nI n)) := by
    unfold wSubs
    rw [cx.subs ht, nI_clamp (by have := (cx.1 t ht).2.2.2.1.2; omega)]
  rw [← e] at hs
  unfold wTake
  generalize wSubs B W (nI t) (nI n) = s at hs ⊢
  rcases hs with hf | ⟨m, hm, em, hN⟩
  · refine Or.inl ?_
    split
    · exact hf
    · first | exact hf | (rw [if_neg hf]; exact hf)
  · by_cases c0 : s.1 ≤ 0
    · rw [if_pos c0]
      exact Or.inr ⟨bt, g, M, hN, Nat.le_refl _, Nat.le_refl _, by omega, Nat.le_refl _, Nat.le_refl _⟩
    · rw [if_neg c0, if_pos hN.2.1, em, cx.stand ht]
      have hm1 : 1 ≤ m := by
        rcases Nat.eq_zero_or_pos m with h0 | h0
        · exact absurd (by rw [em, h0]; decide) c0
        · exact h0
      unfold wProv
      cases e2 : eMd w t (eWs w t) with
      | none =>
        have hy : eWy w t = 0 := by
          unfold eMd at e2
          by_cases hy : eWy w t = 0
          · exact hy
          · rw [if_neg hy] at e2
            cases e2
        show (¬ wUse B (if bMade B (nI t) = 0 then _ else _) (nI t) (nI m) 0 2 = 0) ∨ _
        rw [show (none : Option Nat).getD t = t from rfl, cx.made ht, if_pos hy, if_pos rfl]
        rcases hmg with rfl | rfl
        · exact Or.inl (eUse_f (eCol_f0 hN.1))
        · rcases hN.col ht (show m ≤ 1000000 by omega) with hf | ⟨hc, -⟩
          · exact Or.inl (eUse_f hf)
          · rcases hc.use (B := B) ht (show m ≤ 1000000 by omega) (eVs_of cx ht) with hf | hg
            · exact Or.inl hf
            · exact Or.inr ⟨bt, g + m, M, hg, Nat.le_refl _, by omega, by omega, Nat.le_refl _, Nat.le_refl _⟩
      | some p =>
        obtain ⟨hp, hpy⟩ := eMd_some e2
        have hp20 : p < 20 := by
          rcases hp with rfl | ⟨i, hi, rfl⟩
          · exact ht
          · exact ((cx.1 t ht).2.2.2.2.2.1 i hi).2
        have hpr : r p ≤ f := by
          rcases hp with rfl | ⟨i, hi, rfl⟩
          · exact hr
          · exact hrs i hi
        have hpy2 := (cx.1 p hp20).1.2
        show (¬ wUse B (if bMade B (nI p) = 0 then _ else _) (nI p) (nI m) 0 2 = 0) ∨ _
        rw [show (some p).getD t = p from rfl, cx.made hp20, if_neg hpy, if_neg (by decide), cx.yield hp20, eDiv (show m ≤ 1000000 by omega) (by omega) hpy2]
        have hd := eDiv_le hm1 (show 1 ≤ eWy w p by omega)
        rcases hR p s.2 ((m + eWy w p - 1) / eWy w p) bt g M hp20 hpy hpr (by omega) hN with hf | ⟨bt', g', M', a, hN', h1, h2, h3, h4, h5, -⟩
        · exact Or.inl (eUse_f hf)
        · rcases hN'.use (B := B) hp20 (show m ≤ 1000000 by omega) (eVs_of cx hp20) with hf | hg
          · exact Or.inl hf
          · exact Or.inr ⟨bt', g', M', hg, h1, h2, by omega, h4, h5⟩
theorem eN.bat {q mg : Int32} {W : Nat → Nat → Int32} {bt g M b : Nat} (h : eN q mg W bt g M) (hb : b ≤ 1000000) : (wBat W (nI b) 0 3 = nI (bt + b)) ∧ (bt + b ≤ 500 → eN q mg (wBat W (nI b)) (bt + b) g M) := by
  obtain ⟨h1, h2, h3, h4, h5, h6, h7, h8⟩ := h
  have e : wBat W (nI b) = va_up W 0 (upd (W 0) 3 (nI (bt + b))) := by
    unfold wBat
    rw [h4, nI_add]
  rw [e]
  refine ⟨by simp (disch := omega) only [zup_ne, zup_eq, upd_ne, upd_eq], fun hl => ⟨?_, ?_, fun t ht => ?_, ?_, hl, ?_, ?_, ?_⟩⟩
  all_goals simp (disch := omega) only [zup_ne, zup_eq, upd_ne, upd_eq]
  · exact h1
  · exact h2
  · exact h3 t ht
  · exact h6
  · exact h7
  · exact h8
theorem eFail_f {W : Nat → Nat → Int32} : ¬ wFail W 0 2 = 0 := by
  unfold wFail
  simp (disch := omega) only [zup_ne, zup_eq, upd_ne, upd_eq]
  decide
theorem eRunStep_f {run : Int32 → Int32 → (Nat → Nat → Int32) → (Nat → Nat → Int32)} {B : Nat → Nat → Int32} {t c : Int32} {W : Nat → Nat → Int32} (h : ¬ W 0 2 = 0) (k : Nat) : it (wRunStep run B t c) k W = W := by
  induction k with
  | zero => rfl
  | succ k ih =>
    rw [it_s, ih]
    unfold wRunStep
    rw [if_neg h]
theorem eDone_f {B : Nat → Nat → Int32} {t c : Int32} {W : Nat → Nat → Int32} (h : ¬ W 0 2 = 0) : wDone B t c W = W := by
  unfold wDone
  rw [if_neg h]
theorem wRun_s {B : Nat → Nat → Int32} {f : Nat} {t c : Int32} {W : Nat → Nat → Int32} : wRun B (f + 1) t c W = wDone B t c (it (wRunStep (wRun B f) B t c) (bIngs B t).toNatClampNeg (if 500 < wBat W c 0 3 then wFail (wBat W c) else wBat W c)) := rfl
theorem eN.done {B : Nat → Nat → Int32} {w : Nat → Int32} (cx : eCx B w) {q mg : Int32} {W : Nat → Nat → Int32} {bt g M t b : Nat} (h : eN q mg W bt g M) (ht : t < 20) (hb : b ≤ 500) :
    (¬ wDone B (nI t) (nI b) W 0 2 = 0) ∨ (eN q mg (wDone B (nI t) (nI b) W) bt g (M + eWy w t * b) ∧ ∃ a, a ≤ 99999 ∧ eWy w t * b ≤ a ∧ wDone B (nI t) (nI b) W 2 t = nI a) := by
  obtain ⟨h1, h2, h3, h4, h5, h6, h7, h8⟩ := h
  unfold wDone
  rw [if_pos h2, cx.yield ht, pk_mul]
  have hy : eWy w t * b ≤ 20 * 500 := Nat.mul_le_mul (cx.1 t ht).1.2 hb
  rcases h3.come (j := 4) ht (show eWy w t * b ≤ 1000000 by omega) (by decide) with hf | ⟨he, ham, a, ha, hya, ea⟩
  · refine Or.inl ?_
    simp (disch := omega) only [zup_ne, zup_eq, upd_ne, upd_eq]
    exact hf
  · refine Or.inr ⟨⟨?_, ?_, fun u hu => ?_, ?_, h5, ?_, ?_, ?_⟩, a, ha, hya, ?_⟩
    · simp (disch := omega) only [zup_ne, zup_eq, upd_ne, upd_eq]
      rw [he]
      simp (disch := omega) only [zup_ne, zup_eq, upd_ne, upd_eq]
      exact h1
    · simp (disch := omega) only [zup_ne, zup_eq, upd_ne, upd_eq]
      rw [he]
      simp (disch := omega) only [zup_ne, zup_eq, upd_ne, upd_eq]
      exact h2
    · simp (disch := omega) only [zup_ne, zup_eq, upd_ne, upd_eq]
      exact ham u hu
    · simp (disch := omega) only [zup_ne, zup_eq, upd_ne, upd_eq]
      rw [he]
      simp (disch := omega) only [zup_ne, zup_eq, upd_ne, upd_eq]
      exact h4
    · simp (disch := omega) only [zup_ne, zup_eq, upd_ne, upd_eq]
      rw [he]
      simp (disch := omega) only [zup_ne, zup_eq, upd_ne, upd_eq]
      exact h6
    · simp (disch := omega) only [zup_ne, zup_eq, upd_ne, upd_eq]
      rw [he]
      simp (disch := omega) only [zup_ne, zup_eq, upd_ne, upd_eq]
      rw [eAdd ht (by decide), eSum_upd 20 ht, h7, nI_add]
    · simp (disch := omega) only [zup_ne, zup_eq, upd_ne, upd_eq]
      rw [he]
      simp (disch := omega) only [zup_ne, zup_eq, upd_ne, upd_eq]
      exact h8
    · simp (disch := omega) only [zup_ne, zup_eq, upd_ne, upd_eq]
      exact ea
theorem eHR.all {B : Nat → Nat → Int32} {w : Nat → Int32} {r : Nat → Nat} (cx : eCx B w) (hrk : eRk w r) {q mg : Int32} (hmg : mg = 0 ∨ mg = 1) : ∀ f, eHR B w r q mg f := by
  intro f
  induction f with
  | zero =>
    intro t W b bt g M ht hy hr
    have := (hrk t ht hy).1
    omega
  | succ f ih =>
    intro t W b bt g M ht hy hr hb hN
    obtain ⟨hr1, hr8, hrn⟩ := hrk t ht hy
    obtain ⟨hc, hc5⟩ := (cx.1 t ht).2.1
    obtain ⟨e3, hbat⟩ := hN.bat hb
    rw [wRun_s, cx.ings ht, nI_clamp (by omega), e3]
    have hbt := hN.2.2.2.2.1
    by_cases c5 : 500 < bt + b
    · rw [if_pos (show (500 : Int32) < nI (bt + b) from nI_lt (a := 500) c5 (by omega))]
      refine Or.inl ?_
      rw [eRunStep_f eFail_f, eDone_f eFail_f]
      exact eFail_f
    · rw [if_neg (show ¬ (500 : Int32) < nI (bt + b) from nI_nlt (b := bt + b) (a := 500) (by omega) (by omega))]
      have hN1 := hbat (by omega)
      generalize wBat W (nI b) = W1 at hN1 ⊢
      have hloop : ∀ k, k ≤ eWc w t → (¬ it (wRunStep (wRun B f) B (nI t) (nI b)) k W1 0 2 = 0) ∨ ∃ bt' g' M', eN q mg (it (wRunStep (wRun B f) B (nI t) (nI b)) k W1) bt' g' M' ∧ bt + b ≤ bt' ∧ g ≤ g' ∧ g' + 100 * (bt + b) ≤ g + 20 * (b * k) + 100 * bt' ∧ M ≤ M' ∧ M' + 20 * (bt + b) ≤ M + 20 * bt' := by
        intro k
        induction k with
        | zero => exact fun _ => Or.inr ⟨bt + b, g, M, hN1, Nat.le_refl _, Nat.le_refl _, by omega, Nat.le_refl _, Nat.le_refl _⟩
        | succ k ihk =>
          intro hk
          rw [it_s]
          generalize it (wRunStep (wRun B f) B (nI t) (nI b)) k W1 = V at ihk ⊢
          unfold wRunStep
          rcases ihk (by omega) with hf | ⟨bt', g', M', hV, a1, a2, a3, a4, a5⟩
          · rw [if_neg hf]
            exact Or.inl hf
          · rw [if_pos hV.2.1, cx.ing ht (by omega), cx.amt ht (by omega), pk_mul]
            obtain ⟨-, hi20, -, ha1, ha20⟩ := (cx.1 t ht).2.2.2.2.1 k (by omega)
            have hm20 : eWa w t k * b ≤ 20 * b := Nat.mul_le_mul_right b ha20
            have hrk2 := hrn k (by omega)
            rcases hV.take cx hmg ih hi20 (show eWa w t k * b ≤ 1000000 by omega) (by omega) (fun i hi => by have := hrk2.2 i hi; omega) with hf | ⟨bt2, g2, M2, hV2, d1, d2, d3, d4, d5⟩
            · exact Or.inl hf
            · have e5 : b * (k + 1) = b * k + b := Nat.mul_succ b k
              exact Or.inr ⟨bt2, g2, M2, hV2, by omega, by omega, by omega, by omega, by omega⟩
      have hl := hloop (eWc w t) (Nat.le_refl _)
      generalize it (wRunStep (wRun B f) B (nI t) (nI b)) (eWc w t) W1 = V at hl ⊢
      rcases hl with hf | ⟨bt', g', M', hV, a1, a2, a3, a4, a5⟩
      · refine Or.inl ?_
        rw [eDone_f hf]
        exact hf
      · rcases hV.done cx ht (show b ≤ 500 by omega) with hf | ⟨hD, a, ha, hya, ea⟩
        · exact Or.inl hf
        · have h6 : b * eWc w t ≤ b * 5 := Nat.mul_le_mul_left b hc5
          have h7 : eWy w t * b ≤ 20 * b := Nat.mul_le_mul_right b (cx.1 t ht).1.2
          exact Or.inr ⟨bt', g', M' + eWy w t * b, a, hD, by omega, a2, by omega, by omega, by omega, ea, hya, ha⟩
