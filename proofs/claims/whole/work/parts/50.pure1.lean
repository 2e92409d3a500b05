/-! ===== 50.pure1: numbers and rows by their places; what a making does with its numbers ===== -/
theorem eAt {n i : Nat} {f : Nat → Int32} (h : i < n) (hn : n < 2 ^ 31) : cAt n f (nI i) = f i := by
  unfold cAt
  rw [if_neg (nI_pos (by omega)), if_neg (nI_ge h hn), nI_clamp (by omega)]
theorem eAdd {n i : Nat} {f : Nat → Int32} {v : Int32} (h : i < n) (hn : n < 2 ^ 31) : cAdd n f (nI i) v = upd f i (f i + v) := by
  unfold cAdd
  rw [if_neg (nI_pos (by omega)), if_neg (nI_ge h hn), nI_clamp (by omega)]
theorem ePut {n i : Nat} {f : Nat → Int32} {v : Int32} (h : i < n) (hn : n < 2 ^ 31) : cPut n f (nI i) v = upd f i v := by
  unfold cPut
  rw [if_neg (nI_pos (by omega)), if_neg (nI_ge h hn), nI_clamp (by omega)]
theorem eUpd_same {f : Nat → Int32} {i : Nat} {x : Int32} (h : f i = x) : upd f i x = f := by
  funext j
  by_cases e : j = i
  · subst e
    rw [upd_eq, h]
  · exact upd_ne e
theorem eSum_out {f : Nat → Int32} {t : Nat} {v : Int32} : ∀ n, n ≤ t → cSum (upd f t v) n = cSum f n := by
  intro n
  induction n with
  | zero => exact fun _ => rfl
  | succ n ih =>
    intro h
    show cSum (upd f t v) n + upd f t v n = cSum f n + f n
    rw [ih (by omega), upd_ne (by omega)]
theorem eSum_upd {f : Nat → Int32} {t : Nat} {v : Int32} : ∀ n, t < n → cSum (upd f t (f t + v)) n = cSum f n + v := by
  intro n
  induction n with
  | zero => exact fun h => absurd h (Nat.not_lt_zero t)
  | succ n ih =>
    intro h
    show cSum (upd f t (f t + v)) n + upd f t (f t + v) n = cSum f n + f n + v
    by_cases e : t = n
    · subst e
      rw [upd_eq, eSum_out t (Nat.le_refl _), Int32.add_assoc]
    · rw [ih (by omega), upd_ne (fun h2 => e h2.symm), Int32.add_assoc, Int32.add_comm v, ← Int32.add_assoc]
theorem eSum_congr {f g : Nat → Int32} : ∀ n, (∀ j, j < n → f j = g j) → cSum f n = cSum g n := by
  intro n
  induction n with
  | zero => exact fun _ => rfl
  | succ n ih =>
    intro h
    show cSum f n + f n = cSum g n + g n
    rw [ih (fun j hj => h j (by omega)), h n (by omega)]
theorem fstLt_congr {p p' : Nat → Bool} : ∀ n, (∀ i, i < n → p i = p' i) → fstLt p n = fstLt p' n := by
  intro n
  induction n with
  | zero => exact fun _ => rfl
  | succ n ih =>
    intro h
    simp only [fstLt, ih (fun i hi => h i (by omega)), h n (by omega)]
theorem fstLt_some {p : Nat → Bool} : ∀ n i, fstLt p n = some i → i < n ∧ p i = true := by
  intro n
  induction n with
  | zero => intro i h; cases h
  | succ n ih =>
    intro i h
    simp only [fstLt] at h
    cases e : fstLt p n with
    | some k =>
      rw [e] at h
      cases h
      have := ih i e
      exact ⟨by omega, this.2⟩
    | none =>
      rw [e] at h
      by_cases hp : p n = true
      · simp only [hp, if_true] at h
        cases h
        exact ⟨by omega, hp⟩
      · simp [hp] at h
/-! the data of the model's row -/
def eWy (w : Nat → Int32) (t : Nat) : Nat := (w (23 * t + 7)).toNatClampNeg
def eWc (w : Nat → Int32) (t : Nat) : Nat := (w (23 * t + 8)).toNatClampNeg
def eWi (w : Nat → Int32) (t k : Nat) : Nat := (w (23 * t + (9 + 2 * k))).toNatClampNeg
def eWa (w : Nat → Int32) (t k : Nat) : Nat := (w (23 * t + (9 + 2 * k + 1))).toNatClampNeg
def eWs (w : Nat → Int32) (t : Nat) : Nat := (w (23 * t + 19)).toNatClampNeg
def eWb (w : Nat → Int32) (t k : Nat) : Nat := (w (23 * t + (20 + k))).toNatClampNeg
def eVal (w : Nat → Int32) : Prop := ∀ t, t < 20 → (w (23 * t + 7) = nI (eWy w t) ∧ eWy w t ≤ 20) ∧ (w (23 * t + 8) = nI (eWc w t) ∧ eWc w t ≤ 5) ∧ (eWy w t = 0 → eWc w t = 0) ∧ (w (23 * t + 19) = nI (eWs w t) ∧ eWs w t ≤ 3) ∧
  (∀ k, k < eWc w t → w (23 * t + (9 + 2 * k)) = nI (eWi w t k) ∧ eWi w t k < 20 ∧ w (23 * t + (9 + 2 * k + 1)) = nI (eWa w t k) ∧ 1 ≤ eWa w t k ∧ eWa w t k ≤ 20) ∧ (∀ k, k < eWs w t → w (23 * t + (20 + k)) = nI (eWb w t k) ∧ eWb w t k < 20) ∧ mVes w t
theorem eVal.ok {w : Nat → Int32} (h : eVal w) : mOk w := by
  intro t ht
  obtain ⟨-, ⟨h8, c5⟩, -, ⟨h19, s3⟩, hi, hs, hv⟩ := h t ht
  exact ⟨⟨eWc w t, c5, h8, fun k hk => ⟨eWi w t k, (hi k hk).2.1, (hi k hk).1⟩⟩, ⟨eWs w t, s3, h19, fun k hk => ⟨eWb w t k, (hs k hk).2, (hs k hk).1⟩⟩, hv⟩
def eBk (B : Nat → Nat → Int32) (w : Nat → Int32) : Prop := ∀ t, t < 20 → B 7 t = w (23 * t + 1) ∧ B 1 t = w (23 * t + 7) ∧ B 2 t = w (23 * t + 8) ∧ B 5 t = w (23 * t + 19) ∧
  (∀ k, k < eWc w t → B 3 (t * 5 + k) = w (23 * t + (9 + 2 * k)) ∧ B 4 (t * 5 + k) = w (23 * t + (9 + 2 * k + 1))) ∧ ∀ k, k < eWs w t → B 6 (t * 3 + k) = w (23 * t + (20 + k))
def eCx (B : Nat → Nat → Int32) (w : Nat → Int32) : Prop := eVal w ∧ eBk B w
theorem m5 (t k : Nat) : nI t * 5 + nI k = nI (t * 5 + k) := by rw [show (5 : Int32) = nI 5 from rfl, pk_mul, nI_add]
theorem m3 (t k : Nat) : nI t * 3 + nI k = nI (t * 3 + k) := by rw [show (3 : Int32) = nI 3 from rfl, pk_mul, nI_add]
section ECX
variable {B : Nat → Nat → Int32} {w : Nat → Int32} {t k : Nat}
theorem eCx.yield (h : eCx B w) (ht : t < 20) : bYield B (nI t) = nI (eWy w t) := (eAt ht (by decide)).trans ((h.2 t ht).2.1.trans (h.1 t ht).1.1)
theorem eCx.made (h : eCx B w) (ht : t < 20) : bMade B (nI t) = if eWy w t = 0 then 0 else 1 := by
  unfold bMade
  rw [h.yield ht]
  have := (h.1 t ht).1.2
  by_cases e : eWy w t = 0
  · rw [if_pos e, e]
    rfl
  · rw [if_neg e, if_neg (nI_nle (by omega) (by omega))]
theorem eCx.ings (h : eCx B w) (ht : t < 20) : bIngs B (nI t) = nI (eWc w t) := (eAt ht (by decide)).trans ((h.2 t ht).2.2.1.trans (h.1 t ht).2.1.1)
theorem eCx.subs (h : eCx B w) (ht : t < 20) : bSubs B (nI t) = nI (eWs w t) := (eAt ht (by decide)).trans ((h.2 t ht).2.2.2.1.trans (h.1 t ht).2.2.2.1.1)
theorem eCx.ves (h : eCx B w) (ht : t < 20) : bVes B (nI t) = w (23 * t + 1) := (eAt ht (by decide)).trans (h.2 t ht).1
theorem eCx.ing (h : eCx B w) (ht : t < 20) (hk : k < eWc w t) : bIng B (nI t) (nI k) = nI (eWi w t k) := by
  have := (h.1 t ht).2.1.2
  unfold bIng
  rw [m5, eAt (by omega) (by decide)]
  exact ((h.2 t ht).2.2.2.2.1 k hk).1.trans ((h.1 t ht).2.2.2.2.1 k hk).1
theorem eCx.amt (h : eCx B w) (ht : t < 20) (hk : k < eWc w t) : bAmt B (nI t) (nI k) = nI (eWa w t k) := by
  have := (h.1 t ht).2.1.2
  unfold bAmt
  rw [m5, eAt (by omega) (by decide)]
  exact ((h.2 t ht).2.2.2.2.1 k hk).2.trans ((h.1 t ht).2.2.2.2.1 k hk).2.2.1
theorem eCx.sub (h : eCx B w) (ht : t < 20) (hk : k < eWs w t) : bSub B (nI t) (nI k) = nI (eWb w t k) := by
  have := (h.1 t ht).2.2.2.1.2
  unfold bSub
  rw [m3, eAt (by omega) (by decide)]
  exact ((h.2 t ht).2.2.2.2.2 k hk).trans ((h.1 t ht).2.2.2.2.2.1 k hk).1
end ECX
theorem eVal.made {w : Nat → Int32} {t : Nat} (h : eVal w) (ht : t < 20) : mMade w t = if eWy w t = 0 then 0 else 1 := by
  unfold mMade
  rw [(h t ht).1.1]
  have := (h t ht).1.2
  by_cases e : eWy w t = 0
  · rw [if_pos e, e]
    rfl
  · rw [if_neg e, if_neg (nI_nle (by omega) (by omega))]
/-- what stands in for a missing thing -/
def eMd (w : Nat → Int32) (t : Nat) (k : Nat) : Option Nat := if eWy w t = 0 then (match fstLt (fun i => !decide (eWy w (eWb w t i) = 0)) k with
  | some i => some (eWb w t i)
  | none => none) else some t
theorem eMd_some {w : Nat → Int32} {t k p : Nat} (h : eMd w t k = some p) : (p = t ∨ ∃ i, i < k ∧ p = eWb w t i) ∧ eWy w p ≠ 0 := by
  unfold eMd at h
  by_cases e : eWy w t = 0
  · rw [if_pos e] at h
    cases e2 : fstLt (fun i => !decide (eWy w (eWb w t i) = 0)) k with
    | none =>
      rw [e2] at h
      cases h
    | some i =>
      rw [e2] at h
      cases h
      have h3 := fstLt_some k i e2
      exact ⟨Or.inr ⟨i, h3.1, rfl⟩, by simpa using h3.2⟩
  · rw [if_neg e] at h
    cases h
    exact ⟨Or.inl rfl, e⟩
theorem eCx.stand {B : Nat → Nat → Int32} {w : Nat → Int32} {t : Nat} (h : eCx B w) (ht : t < 20) : bStand B (nI t) = nI ((eMd w t (eWs w t)).getD t) := by
  unfold bStand eMd
  rw [h.made ht, h.subs ht]
  have h3 := (h.1 t ht).2.2.2.1.2
  rw [nI_clamp (by omega)]
  by_cases e : eWy w t = 0
  · rw [if_pos e, if_pos rfl, if_pos e, fstLt_congr (p' := fun i => !decide (eWy w (eWb w t i) = 0)) (eWs w t) (fun i hi => by
      have := ((h.1 t ht).2.2.2.2.2.1 i hi).2
      rw [h.sub ht hi, h.made this]
      by_cases e2 : eWy w (eWb w t i) = 0
      · simp [e2]
      · simp [e2])]
    cases e2 : fstLt (fun i => !decide (eWy w (eWb w t i) = 0)) (eWs w t) with
    | none => rfl
    | some i => exact h.sub ht (fstLt_some _ _ e2).1
  · rw [if_neg e, if_neg (by decide), if_neg e]
    rfl
/-! the class's numbers in a making -/
def eAm (W : Nat → Nat → Int32) : Prop := ∀ t, t < 20 → ∃ a, a ≤ 99999 ∧ W 2 t = nI a
def eN (q mg : Int32) (W : Nat → Nat → Int32) (bt g M : Nat) : Prop := W 0 1 = mg ∧ W 0 2 = 0 ∧ eAm W ∧ W 0 3 = nI bt ∧ bt ≤ 500 ∧ W 0 4 = nI g ∧ cSum (W 4) 20 = nI M ∧ cSum (W 3) 20 = q + nI g
theorem eCome_f {W : Nat → Nat → Int32} {j : Nat} {t n : Int32} (hj : 1 ≤ j) (h : ¬ W 0 2 = 0) : ¬ wCome W j t n 0 2 = 0 := by
  unfold wCome
  split
  · simp (disch := omega) only [zup_ne, zup_eq, upd_ne, upd_eq]
    exact h
  · simp (disch := omega) only [zup_ne, zup_eq, upd_ne, upd_eq]
    decide
theorem eUse0_f {W : Nat → Nat → Int32} {t n : Int32} : wUse0 W t n 0 = W 0 := by
  unfold wUse0
  simp (disch := omega) only [zup_ne, zup_eq, upd_ne, upd_eq]
theorem eUse_f {B W : Nat → Nat → Int32} {t n : Int32} (h : ¬ W 0 2 = 0) : ¬ wUse B W t n 0 2 = 0 := by
  unfold wUse
  split
  · rw [eUse0_f]
    exact h
  · exact eCome_f (by decide) (by rw [eUse0_f]; exact h)
theorem eCol_f {W : Nat → Nat → Int32} {t n : Int32} (h : ¬ W 0 2 = 0) : ¬ wCol W t n 0 2 = 0 := by
  unfold wCol
  refine eCome_f (by decide) ?_
  unfold wCol0 wColF
  split
  · simp (disch := omega) only [zup_ne, zup_eq, upd_ne, upd_eq]
    decide
  · simp (disch := omega) only [zup_ne, zup_eq, upd_ne, upd_eq]
    exact h
theorem eCol_f0 {W : Nat → Nat → Int32} {t n : Int32} (h : W 0 1 = 0) : ¬ wCol W t n 0 2 = 0 := by
  unfold wCol
  refine eCome_f (by decide) ?_
  unfold wCol0 wColF
  rw [if_pos h]
  simp (disch := omega) only [zup_ne, zup_eq, upd_ne, upd_eq]
  decide
theorem eAm.come {W : Nat → Nat → Int32} {τ j k : Nat} (h : eAm W) (hτ : τ < 20) (hk : k ≤ 1000000) (hj : 3 ≤ j) :
    (¬ wCome W j (nI τ) (nI k) 0 2 = 0) ∨ (wCome W j (nI τ) (nI k) = va_up (va_up W 2 (upd (W 2) τ (W 2 τ + nI k))) j (cAdd 20 (W j) (nI τ) (nI k)) ∧ eAm (wCome W j (nI τ) (nI k)) ∧ ∃ a, a ≤ 99999 ∧ k ≤ a ∧ wCome W j (nI τ) (nI k) 2 τ = nI a) := by
  obtain ⟨a, ha, ea⟩ := h τ hτ
  have ev : cAt 20 (cAdd 20 (W 2) (nI τ) (nI k)) (nI τ) = nI (a + k) := by rw [eAt hτ (by decide), eAdd hτ (by decide), upd_eq, ea, nI_add]
  unfold wCome
  rw [ev]
  by_cases c : nI (a + k) ≤ 99999
  · rw [if_pos c]
    have c' : a + k ≤ 99999 := (nI_leI (b := 99999) (by omega) (by decide)).mp c
    refine Or.inr ⟨by rw [eAdd hτ (by decide)], fun t ht => ?_, a + k, c', by omega, ?_⟩
    · simp (disch := omega) only [zup_ne, zup_eq, upd_ne, upd_eq]
      rw [eAdd hτ (by decide)]
      by_cases e : t = τ
      · subst e
        rw [upd_eq, ea, nI_add]
        exact ⟨_, c', rfl⟩
      · rw [upd_ne e]
        exact h t ht
    · simp (disch := omega) only [zup_ne, zup_eq, upd_ne, upd_eq]
      rw [eAdd hτ (by decide), upd_eq, ea, nI_add]
  · rw [if_neg c]
    refine Or.inl ?_
    simp (disch := omega) only [zup_ne, zup_eq, upd_ne, upd_eq]
    decide
def eVs (v : Int32) : Prop := v = -9 ∨ ∃ k, k < 20 ∧ v = nI k
theorem eN.tk {q mg : Int32} {W : Nat → Nat → Int32} {bt g M τ m : Nat} (h : eN q mg W bt g M) (hτ : τ < 20) (hm : m ≤ 1000000) : ∃ a k, a ≤ 99999 ∧ W 2 τ = nI a ∧ k ≤ a ∧ k ≤ m ∧ wN W (nI τ) (nI m) = nI k ∧ (m ≤ a → k = m) := by
  obtain ⟨a, ha, ea⟩ := h.2.2.1 τ hτ
  unfold wN
  rw [eAt hτ (by decide), ea]
  by_cases c : nI a < nI m
  · have c' : a < m := (nI_ltI (by omega) (by omega)).mp c
    exact ⟨a, a, ha, rfl, Nat.le_refl _, by omega, if_pos c, fun h => by omega⟩
  · have c' : ¬ a < m := fun h => c ((nI_ltI (by omega) (by omega)).mpr h)
    exact ⟨a, m, ha, rfl, by omega, Nat.le_refl _, if_neg c, fun _ => rfl⟩
theorem eN.use {B : Nat → Nat → Int32} {q mg : Int32} {W : Nat → Nat → Int32} {bt g M τ m : Nat} (h : eN q mg W bt g M) (hτ : τ < 20) (hm : m ≤ 1000000) (hv : eVs (bVes B (nI τ))) : (¬ wUse B W (nI τ) (nI m) 0 2 = 0) ∨ eN q mg (wUse B W (nI τ) (nI m)) bt g M := by
  obtain ⟨a, k, ha, ea, hka, hkm, ek, -⟩ := h.tk hτ hm
  obtain ⟨h1, h2, h3, h4, h5, h6, h7, h8⟩ := h
  unfold wUse
  rw [ek]
  have am : eAm (wUse0 W (nI τ) (nI k)) := by
    intro t ht
    unfold wUse0
    simp (disch := omega) only [zup_ne, zup_eq, upd_ne, upd_eq]
    rw [eAdd hτ (by decide)]
    by_cases e : t = τ
    · subst e
      rw [upd_eq, ea, ← Int32.sub_eq_add_neg, pk_sub hka]
      exact ⟨a - k, by omega, rfl⟩
    · rw [upd_ne e]
      exact h3 t ht
  have n0 : eN q mg (wUse0 W (nI τ) (nI k)) bt g M := by
    refine ⟨by rw [eUse0_f]; exact h1, by rw [eUse0_f]; exact h2, am, by rw [eUse0_f]; exact h4, h5, by rw [eUse0_f]; exact h6, ?_, ?_⟩
    · unfold wUse0
      simp (disch := omega) only [zup_ne, zup_eq, upd_ne, upd_eq]
      exact h7
    · unfold wUse0
      simp (disch := omega) only [zup_ne, zup_eq, upd_ne, upd_eq]
      exact h8
  by_cases c : bVes B (nI τ) = -9
  · rw [if_pos c]
    exact Or.inr n0
  · rw [if_neg c]
    obtain ⟨v, hv20, ev⟩ := hv.resolve_left c
    rw [ev]
    rcases am.come (j := 6) hv20 (show k ≤ 1000000 by omega) (by decide) with hf | ⟨he, ham, -⟩
    · exact Or.inl hf
    · refine Or.inr ?_
      obtain ⟨g1, g2, -, g4, g5, g6, g7, g8⟩ := n0
      refine ⟨?_, ?_, ham, ?_, g5, ?_, ?_, ?_⟩
      all_goals rw [he]
      · simp (disch := omega) only [zup_ne, zup_eq, upd_ne, upd_eq]
        exact g1
      · simp (disch := omega) only [zup_ne, zup_eq, upd_ne, upd_eq]
        exact g2
      · simp (disch := omega) only [zup_ne, zup_eq, upd_ne, upd_eq]
        exact g4
      · simp (disch := omega) only [zup_ne, zup_eq, upd_ne, upd_eq]
        exact g6
      · simp (disch := omega) only [zup_ne, zup_eq, upd_ne, upd_eq]
        exact g7
      · simp (disch := omega) only [zup_ne, zup_eq, upd_ne, upd_eq]
        exact g8
theorem eN.col {q : Int32} {W : Nat → Nat → Int32} {bt g M τ m : Nat} (h : eN q 1 W bt g M) (hτ : τ < 20) (hm : m ≤ 1000000) : (¬ wCol W (nI τ) (nI m) 0 2 = 0) ∨ (eN q 1 (wCol W (nI τ) (nI m)) bt (g + m) M ∧ ∃ a, a ≤ 99999 ∧ m ≤ a ∧ wCol W (nI τ) (nI m) 2 τ = nI a) := by
  obtain ⟨h1, h2, h3, h4, h5, h6, h7, h8⟩ := h
  have e0 : wColF W = W := by
    unfold wColF
    rw [if_neg (by rw [h1]; decide)]
  have e1 : wCol0 W (nI m) = va_up W 0 (upd (W 0) 4 (nI (g + m))) := by
    unfold wCol0
    rw [e0, h6, nI_add]
  unfold wCol
  rw [e1]
  have am : eAm (va_up W 0 (upd (W 0) 4 (nI (g + m)))) := fun t ht => by
    simp (disch := omega) only [zup_ne, zup_eq, upd_ne, upd_eq]
    exact h3 t ht
  rcases am.come (j := 3) hτ hm (by decide) with hf | ⟨he, ham, hx⟩
  · exact Or.inl hf
  · refine Or.inr ⟨⟨?_, ?_, ham, ?_, h5, ?_, ?_, ?_⟩, hx⟩
    all_goals rw [he]
    · simp (disch := omega) only [zup_ne, zup_eq, upd_ne, upd_eq]
      exact h1
    · simp (disch := omega) only [zup_ne, zup_eq, upd_ne, upd_eq]
      exact h2
    · simp (disch := omega) only [zup_ne, zup_eq, upd_ne, upd_eq]
      exact h4
    · simp (disch := omega) only [zup_ne, zup_eq, upd_ne, upd_eq]
    · simp (disch := omega) only [zup_ne, zup_eq, upd_ne, upd_eq]
      exact h7
    · simp (disch := omega) only [zup_ne, zup_eq, upd_ne, upd_eq]
      rw [eAdd hτ (by decide), eSum_upd 20 hτ, h8, Int32.add_assoc, nI_add]
