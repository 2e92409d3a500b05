/-! ===== 42.wmono: what is made above a thing does not make it less ===== -/
def eJ (u a0 : Nat) (V : Nat → Nat → Int32) : Prop := ∃ a, a0 ≤ a ∧ a < 2000000 ∧ V 2 u = nI a
theorem come2 {W : Nat → Nat → Int32} {j : Nat} (hj : j ≠ 2) (i n : Int32) : wCome W j i n 2 = cAdd 20 (W 2) i n := by
  unfold wCome
  split
  · rw [zup_ne (Ne.symm hj), zup_eq]
  · rw [zup_ne (by decide), zup_ne (Ne.symm hj), zup_eq]
section EJ
variable {B : Nat → Nat → Int32} {w : Nat → Int32} {r : Nat → Nat} {q mg : Int32} {u a0 : Nat}
theorem eJ.am {W : Nat → Nat → Int32} {bt g M : Nat} (h : eJ u a0 W) (hN : eN q mg W bt g M) (hu : u < 20) : ∃ a, a0 ≤ a ∧ a ≤ 99999 ∧ W 2 u = nI a := by
  obtain ⟨a, h1, h2, h3⟩ := h
  obtain ⟨b, hb, eb⟩ := hN.2.2.1 u hu
  have : a = b := (nI_eq (by omega) (by omega)).mp (h3.symm.trans eb)
  exact ⟨a, h1, by omega, h3⟩
theorem eJ.come {W : Nat → Nat → Int32} {a v k j : Nat} (hu : u < 20) (h1 : a0 ≤ a) (h2 : a ≤ 99999) (h3 : W 2 u = nI a) (hv : v < 20) (hk : k ≤ 1000000) (hj : j ≠ 2) : eJ u a0 (wCome W j (nI v) (nI k)) := by
  unfold eJ
  rw [come2 hj, eAdd hv (by decide)]
  by_cases e : u = v
  · subst e
    rw [upd_eq, h3, nI_add]
    exact ⟨a + k, by omega, by omega, rfl⟩
  · rw [upd_ne e]
    exact ⟨a, h1, by omega, h3⟩
theorem eJ.use {W : Nat → Nat → Int32} {bt g M τ m : Nat} (h : eJ u a0 W) (hN : eN q mg W bt g M) (hu : u < 20) (hτ : τ < 20) (hne : τ ≠ u) (hm : m ≤ 1000000) (hv : eVs (bVes B (nI τ))) : eJ u a0 (wUse B W (nI τ) (nI m)) := by
  obtain ⟨a, h1, h2, h3⟩ := h.am hN hu
  obtain ⟨-, k, -, -, -, hkm, ek, -⟩ := hN.tk hτ hm
  unfold wUse
  rw [ek]
  have e0 : wUse0 W (nI τ) (nI k) 2 u = nI a := by
    unfold wUse0
    rw [zup_ne (by decide), zup_eq, eAdd hτ (by decide), upd_ne (Ne.symm hne)]
    exact h3
  by_cases c : bVes B (nI τ) = -9
  · rw [if_pos c]
    exact ⟨a, h1, by omega, e0⟩
  · rw [if_neg c]
    obtain ⟨v, hv20, ev⟩ := hv.resolve_left c
    rw [ev]
    exact eJ.come hu h1 h2 e0 hv20 (by omega) (by decide)
theorem eJ.col {W : Nat → Nat → Int32} {bt g M τ m : Nat} (h : eJ u a0 W) (hN : eN q mg W bt g M) (hu : u < 20) (hτ : τ < 20) (hm : m ≤ 1000000) : eJ u a0 (wCol W (nI τ) (nI m)) := by
  obtain ⟨a, h1, h2, h3⟩ := h.am hN hu
  unfold wCol
  refine eJ.come hu h1 h2 ?_ hτ hm (by decide)
  unfold wCol0 wColF
  split
  · rw [zup_ne (by decide), zup_ne (by decide)]
    exact h3
  · rw [zup_ne (by decide)]
    exact h3
theorem eJ.done {W : Nat → Nat → Int32} {bt g M t b : Nat} (cx : eCx B w) (h : eJ u a0 W) (hN : eN q mg W bt g M) (hu : u < 20) (ht : t < 20) (hb : b ≤ 500) : eJ u (if u = t then a0 + eWy w t * b else a0) (wDone B (nI t) (nI b) W) := by
  obtain ⟨a, h1, h2, h3⟩ := h.am hN hu
  have hy : eWy w t * b ≤ 20 * 500 := Nat.mul_le_mul (cx.1 t ht).1.2 hb
  unfold wDone eJ
  rw [if_pos hN.2.1, cx.yield ht, pk_mul, zup_ne (by decide), come2 (by decide), eAdd ht (by decide)]
  by_cases e : u = t
  · subst e
    rw [upd_eq, if_pos rfl, h3, nI_add]
    exact ⟨_, by omega, by omega, rfl⟩
  · rw [upd_ne e, if_neg e]
    exact ⟨a, h1, by omega, h3⟩
theorem eJ.subs (cx : eCx B w) {W : Nat → Nat → Int32} {bt g M t n : Nat} (hu : u < 20) (h : eN q mg W bt g M) (hJ : eJ u a0 W) (ht : t < 20) (hn : n ≤ 1000000) (hne : t ≠ u) (hnes : ∀ i, i < eWs w t → eWb w t i ≠ u) :
    ∀ c, c ≤ eWs w t → (¬ (it (wSubStep B (nI t)) c (nI n - wN W (nI t) (nI n), wUse B W (nI t) (nI n))).2 0 2 = 0) ∨ eJ u a0 (it (wSubStep B (nI t)) c (nI n - wN W (nI t) (nI n), wUse B W (nI t) (nI n))).2 := by
  intro c
  induction c with
  | zero => exact fun _ => Or.inr (hJ.use h hu ht hne hn (eVs_of cx ht))
  | succ c ih =>
    intro hc
    have hs := h.subs cx ht hn c (by omega)
    rw [it_s]
    generalize it (wSubStep B (nI t)) c (nI n - wN W (nI t) (nI n), wUse B W (nI t) (nI n)) = s at ih hs ⊢
    have h20 := ((cx.1 t ht).2.2.2.2.2.1 c (by omega)).2
    unfold wSubStep
    rw [cx.sub ht (by omega)]
    have hfl : (¬ s.2 0 2 = 0) → (¬ (if s.1 ≤ 0 then s else (s.1 - wN s.2 (nI (eWb w t c)) s.1, wUse B s.2 (nI (eWb w t c)) s.1)).2 0 2 = 0) := by
      intro hf
      split
      · exact hf
      · exact eUse_f hf
    rcases hs with hf | ⟨m, hm, em, hN⟩
    · exact Or.inl (hfl hf)
    · rcases ih (by omega) with hf | hg
      · exact Or.inl (hfl hf)
      · by_cases c0 : s.1 ≤ 0
        · rw [if_pos c0]
          exact Or.inr hg
        · rw [if_neg c0, em]
          exact Or.inr (hg.use hN hu h20 (hnes c (by omega)) (by omega) (eVs_of cx h20))
def eHJ (B : Nat → Nat → Int32) (w : Nat → Int32) (r : Nat → Nat) (q mg : Int32) (u a0 f : Nat) : Prop := ∀ t W b bt g M, t < 20 → eWy w t ≠ 0 → r t ≤ f → r t < r u → b ≤ 1000000 → eN q mg W bt g M → eJ u a0 W → (¬ wRun B f (nI t) (nI b) W 0 2 = 0) ∨ eJ u a0 (wRun B f (nI t) (nI b) W)
theorem eJ.take (cx : eCx B w) (hrk : eRk w r) (hmg : mg = 0 ∨ mg = 1) (hu : u < 20) {f : Nat} (hR : eHJ B w r q mg u a0 f) {W : Nat → Nat → Int32} {bt g M t n : Nat} (h : eN q mg W bt g M) (hJ : eJ u a0 W) (ht : t < 20) (hn : n ≤ 1000000)
    (hr : r t ≤ f) (hrs : ∀ i, i < eWs w t → r (eWb w t i) ≤ f) (hru : r t < r u) (hrus : ∀ i, i < eWs w t → r (eWb w t i) < r u) :
    (¬ wTake (wProv (wRun B f) B) B W (nI t) (nI n) 0 2 = 0) ∨ eJ u a0 (wTake (wProv (wRun B f) B) B W (nI t) (nI n)) := by
  have ne : ∀ p, r p < r u → p ≠ u := fun p hp e => by rw [e] at hp; omega
  have hs := h.subs cx ht hn (eWs w t) (Nat.le_refl _)
  have hj := eJ.subs cx hu h hJ ht hn (ne _ hru) (fun i hi => ne _ (hrus i hi)) (eWs w t) (Nat.le_refl _)
  have e : wSubs B W (nI t) (nI n) = it (wSubStep B (nI t)) (eWs w t) (nI n - wN W (nI t) (nI n), wUse B W (nI t) (nI n)) := by
    unfold wSubs
    rw [cx.subs ht, nI_clamp (by have := (cx.1 t ht).2.2.2.1.2; omega)]
  rw [← e] at hs hj
  unfold wTake
  generalize wSubs B W (nI t) (nI n) = s at hs hj ⊢
  have hfl : (¬ s.2 0 2 = 0) → (¬ (if s.1 ≤ 0 then s.2 else if s.2 0 2 = 0 then wUse B (wProv (wRun B f) B (bStand B (nI t)) s.1 s.2) (bStand B (nI t)) s.1 else s.2) 0 2 = 0) := by
    intro hf
    split
    · exact hf
    · first | exact hf | (rw [if_neg hf]; exact hf)
  rcases hs with hf | ⟨m, hm, em, hN⟩
  · exact Or.inl (hfl hf)
  rcases hj with hf | hg
  · exact Or.inl (hfl hf)
  by_cases c0 : s.1 ≤ 0
  · rw [if_pos c0]
    exact Or.inr hg
  · rw [if_neg c0, if_pos hN.2.1, em, cx.stand ht]
    have hm1 : 1 ≤ m := by
      rcases Nat.eq_zero_or_pos m with h0 | h0
      · exact absurd (by rw [em, h0]; decide) c0
      · exact h0
    unfold wProv
    cases e2 : eMd w t (eWs w t) with
    | none =>
      have hy : eWy w t = 0 := by
        unfold eMd at e2
        by_cases hy : eWy w t = 0
        · exact hy
        · rw [if_neg hy] at e2
          cases e2
      show (¬ wUse B (if bMade B (nI t) = 0 then _ else _) (nI t) (nI m) 0 2 = 0) ∨ _
      rw [show (none : Option Nat).getD t = t from rfl, cx.made ht, if_pos hy, if_pos rfl]
      rcases hmg with rfl | rfl
      · exact Or.inl (eUse_f (eCol_f0 hN.1))
      · rcases hN.col ht (show m ≤ 1000000 by omega) with hf | ⟨hc, -⟩
        · exact Or.inl (eUse_f hf)
        · exact Or.inr ((hg.col hN hu ht (by omega)).use hc hu ht (ne _ hru) (by omega) (eVs_of cx ht))
    | some p =>
      obtain ⟨hp, hpy⟩ := eMd_some e2
      have hp20 : p < 20 := by
        rcases hp with rfl | ⟨i, hi, rfl⟩
        · exact ht
        · exact ((cx.1 t ht).2.2.2.2.2.1 i hi).2
      have hpr : r p ≤ f := by
        rcases hp with rfl | ⟨i, hi, rfl⟩
        · exact hr
        · exact hrs i hi
      have hpu : r p < r u := by
        rcases hp with rfl | ⟨i, hi, rfl⟩
        · exact hru
        · exact hrus i hi
      have hpy2 := (cx.1 p hp20).1.2
      show (¬ wUse B (if bMade B (nI p) = 0 then _ else _) (nI p) (nI m) 0 2 = 0) ∨ _
      rw [show (some p).getD t = p from rfl, cx.made hp20, if_neg hpy, if_neg (by decide), cx.yield hp20, eDiv (show m ≤ 1000000 by omega) (by omega) hpy2]
      have hd := eDiv_le hm1 (show 1 ≤ eWy w p by omega)
      rcases eHR.all cx hrk hmg f p s.2 ((m + eWy w p - 1) / eWy w p) bt g M hp20 hpy hpr (by omega) hN with hf | ⟨bt', g', M', a, hN', -⟩
      · exact Or.inl (eUse_f hf)
      · rcases hR p s.2 ((m + eWy w p - 1) / eWy w p) bt g M hp20 hpy hpr hpu (by omega) hN hg with hf | hg'
        · exact Or.inl (eUse_f hf)
        · exact Or.inr (hg'.use hN' hu hp20 (ne _ hpu) (by omega) (eVs_of cx hp20))
/-- a run, as far as its last step -/
theorem eJ.loop (cx : eCx B w) (hrk : eRk w r) (hmg : mg = 0 ∨ mg = 1) (hu : u < 20) {f : Nat} (hR : eHJ B w r q mg u a0 f) {W1 : Nat → Nat → Int32} {bt g M t b : Nat} (h : eN q mg W1 bt g M) (hJ : eJ u a0 W1) (ht : t < 20) (hy : eWy w t ≠ 0) (hb : b ≤ 500) (hrf : r t ≤ f + 1) (hru : r t ≤ r u) :
    ∀ k, k ≤ eWc w t → (¬ it (wRunStep (wRun B f) B (nI t) (nI b)) k W1 0 2 = 0) ∨ ∃ bt' g' M', eN q mg (it (wRunStep (wRun B f) B (nI t) (nI b)) k W1) bt' g' M' ∧ eJ u a0 (it (wRunStep (wRun B f) B (nI t) (nI b)) k W1) := by
  obtain ⟨hr1, hr8, hrn⟩ := hrk t ht hy
  intro k
  induction k with
  | zero => exact fun _ => Or.inr ⟨bt, g, M, h, hJ⟩
  | succ k ihk =>
    intro hk
    rw [it_s]
    generalize it (wRunStep (wRun B f) B (nI t) (nI b)) k W1 = V at ihk ⊢
    unfold wRunStep
    rcases ihk (by omega) with hf | ⟨bt', g', M', hV, hg⟩
    · rw [if_neg hf]
      exact Or.inl hf
    · rw [if_pos hV.2.1, cx.ing ht (by omega), cx.amt ht (by omega), pk_mul]
      obtain ⟨-, hi20, -, ha1, ha20⟩ := (cx.1 t ht).2.2.2.2.1 k (by omega)
      have hm20 : eWa w t k * b ≤ 20 * b := Nat.mul_le_mul_right b ha20
      have hrk2 := hrn k (by omega)
      rcases hV.take cx hmg (eHR.all cx hrk hmg f) hi20 (show eWa w t k * b ≤ 1000000 by omega) (by omega) (fun i hi => by have := hrk2.2 i hi; omega) with hf | ⟨bt2, g2, M2, hV2, -⟩
      · exact Or.inl hf
      · rcases eJ.take cx hrk hmg hu hR hV hg hi20 (show eWa w t k * b ≤ 1000000 by omega) (by omega) (fun i hi => by have := hrk2.2 i hi; omega) (by omega) (fun i hi => by have := hrk2.2 i hi; omega) with hf | hg2
        · exact Or.inl hf
        · exact Or.inr ⟨bt2, g2, M2, hV2, hg2⟩
theorem eJ.runs (cx : eCx B w) (hrk : eRk w r) (hmg : mg = 0 ∨ mg = 1) (hu : u < 20) {f : Nat} (hR : eHJ B w r q mg u a0 f) {W : Nat → Nat → Int32} {bt g M t b : Nat} (ht : t < 20) (hy : eWy w t ≠ 0) (hrf : r t ≤ f + 1) (hru : r t ≤ r u) (hb : b ≤ 1000000) (hN : eN q mg W bt g M) (hJ : eJ u a0 W) :
    (¬ wRun B (f + 1) (nI t) (nI b) W 0 2 = 0) ∨ eJ u (if u = t then a0 + eWy w t * b else a0) (wRun B (f + 1) (nI t) (nI b) W) := by
  obtain ⟨hc, hc5⟩ := (cx.1 t ht).2.1
  obtain ⟨e3, hbat⟩ := hN.bat hb
  rw [wRun_s, cx.ings ht, nI_clamp (by omega), e3]
  have hbt := hN.2.2.2.2.1
  by_cases c5 : 500 < bt + b
  · rw [if_pos (show (500 : Int32) < nI (bt + b) from nI_lt (a := 500) c5 (by omega))]
    refine Or.inl ?_
    rw [eRunStep_f eFail_f, eDone_f eFail_f]
    exact eFail_f
  · rw [if_neg (show ¬ (500 : Int32) < nI (bt + b) from nI_nlt (b := bt + b) (a := 500) (by omega) (by omega))]
    have hN1 := hbat (by omega)
    have hJ1 : eJ u a0 (wBat W (nI b)) := by
      obtain ⟨a, h1, h2, h3⟩ := hJ
      refine ⟨a, h1, h2, ?_⟩
      unfold wBat
      rw [zup_ne (by decide)]
      exact h3
    rcases eJ.loop cx hrk hmg hu hR hN1 hJ1 ht hy (show b ≤ 500 by omega) hrf hru (eWc w t) (Nat.le_refl _) with hf | ⟨bt', g', M', hV, hg⟩
    · refine Or.inl ?_
      rw [eDone_f hf]
      exact hf
    · exact Or.inr (hg.done cx hV hu ht (by omega))
theorem eHJ.all (cx : eCx B w) (hrk : eRk w r) (hmg : mg = 0 ∨ mg = 1) (hu : u < 20) : ∀ f, eHJ B w r q mg u a0 f := by
  intro f
  induction f with
  | zero =>
    intro t W b bt g M ht hy hr
    have := (hrk t ht hy).1
    omega
  | succ f ih =>
    intro t W b bt g M ht hy hr hru hb hN hJ
    have h := eJ.runs cx hrk hmg hu ih ht hy hr (by omega) hb hN hJ
    rw [if_neg (fun e => by rw [e] at hru; omega)] at h
    exact h
/-- a run of u itself adds to u -/
theorem eJ.top (cx : eCx B w) (hrk : eRk w r) (hmg : mg = 0 ∨ mg = 1) (hu : u < 20) (hy : eWy w u ≠ 0) {f : Nat} (hr : r u ≤ f) {W : Nat → Nat → Int32} {bt g M b : Nat} (hb : b ≤ 1000000) (hN : eN q mg W bt g M) (hJ : eJ u a0 W) :
    (¬ wRun B f (nI u) (nI b) W 0 2 = 0) ∨ eJ u (a0 + eWy w u * b) (wRun B f (nI u) (nI b) W) := by
  cases f with
  | zero =>
    have := (hrk u hu hy).1
    omega
  | succ f =>
    have h := eJ.runs cx hrk hmg hu (eHJ.all cx hrk hmg hu f) hu hy hr (Nat.le_refl _) hb hN hJ
    rw [if_pos rfl] at h
    exact h
end EJ
