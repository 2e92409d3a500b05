/-! ===== 30.base: numbers, rows, the book by its numbers, ranks, bits, floats ===== -/
def mIn (a b c : Int32) : Int32 := if a < b then 0 else if c < a then 0 else 1
def mMade (w : Nat → Int32) (t : Nat) : Int32 := if w (23 * t + 7) ≤ 0 then 0 else 1
def mVes (w : Nat → Int32) (t : Nat) : Prop := w (23 * t + 1) = -9 ∨ ∃ v, v < 20 ∧ w (23 * t + 1) = nI v
/-- what the moves of the store leave as it is -/
def mStat (w w' : Nat → Int32) : Prop := ∀ t k, t < 20 → k < 23 → (k = 1 ∨ 6 ≤ k) → w' (23 * t + k) = w (23 * t + k)
theorem upd_ne {f : Nat → Int32} {i j : Nat} {v : Int32} (h : j ≠ i) : upd f i v j = f j := if_neg h
theorem upd_eq {f : Nat → Int32} {i : Nat} {v : Int32} : upd f i v i = v := if_pos rfl
theorem cCopy_in {k j : Nat} {f g : Nat → Int32} (h : j < k) : cCopy k f g j = f j := if_pos h
theorem z0m {m : Nat} (h : nI m ≤ 0) (hm : m < 2 ^ 31) : m = 0 := by
  have h2 := (nI_leI (a := m) (b := 0) hm (by decide)).mp h
  omega
def mMax (r m : Int32) : Int32 := if r ≤ m then m else r
def mRkI (w R : Nat → Int32) (p : Nat) (m : Int32) : Nat → Int32 := fun n => it (fun i m => mMax (R (w (23 * p + (20 + i))).toNatClampNeg) m) n m
def mRkS (w R : Nat → Int32) (t k : Nat) (m : Int32) : Int32 := mRkI w R (w (23 * t + (9 + 2 * k))).toNatClampNeg (mMax (R (w (23 * t + (9 + 2 * k))).toNatClampNeg) m) (w (23 * (w (23 * t + (9 + 2 * k))).toNatClampNeg + 19)).toNatClampNeg
def mRk (w R : Nat → Int32) (t : Nat) : Int32 := it (mRkS w R t) (w (23 * t + 8)).toNatClampNeg 0
def mRank (w R : Nat → Int32) (t : Nat) : Int32 := if mMade w t = 0 then 0 else mRk w R t + 1
theorem eAt {n i : Nat} {f : Nat → Int32} (h : i < n) (hn : n < 2 ^ 31) : cAt n f (nI i) = f i := by
  unfold cAt
  rw [if_neg (nI_pos (by omega)), if_neg (nI_ge h hn), nI_clamp (by omega)]
theorem eAdd {n i : Nat} {f : Nat → Int32} {v : Int32} (h : i < n) (hn : n < 2 ^ 31) : cAdd n f (nI i) v = upd f i (f i + v) := by
  unfold cAdd
  rw [if_neg (nI_pos (by omega)), if_neg (nI_ge h hn), nI_clamp (by omega)]
theorem ePut {n i : Nat} {f : Nat → Int32} {v : Int32} (h : i < n) (hn : n < 2 ^ 31) : cPut n f (nI i) v = upd f i v := by
  unfold cPut
  rw [if_neg (nI_pos (by omega)), if_neg (nI_ge h hn), nI_clamp (by omega)]
theorem eSum_out {f : Nat → Int32} {t : Nat} {v : Int32} : ∀ n, n ≤ t → cSum (upd f t v) n = cSum f n := by
  intro n
  induction n with
  | zero => exact fun _ => rfl
  | succ n ih =>
    intro h
    show cSum (upd f t v) n + upd f t v n = cSum f n + f n
    rw [ih (by omega), upd_ne (by omega)]
theorem eSum_upd {f : Nat → Int32} {t : Nat} {v : Int32} : ∀ n, t < n → cSum (upd f t (f t + v)) n = cSum f n + v := by
  intro n
  induction n with
  | zero => exact fun h => absurd h (Nat.not_lt_zero t)
  | succ n ih =>
    intro h
    show cSum (upd f t (f t + v)) n + upd f t (f t + v) n = cSum f n + f n + v
    by_cases e : t = n
    · subst e
      rw [upd_eq, eSum_out t (Nat.le_refl _), Int32.add_assoc]
    · rw [ih (by omega), upd_ne (fun h2 => e h2.symm), Int32.add_assoc, Int32.add_comm v, ← Int32.add_assoc]
theorem eSum_congr {f g : Nat → Int32} : ∀ n, (∀ j, j < n → f j = g j) → cSum f n = cSum g n := by
  intro n
  induction n with
  | zero => exact fun _ => rfl
  | succ n ih =>
    intro h
    show cSum f n + f n = cSum g n + g n
    rw [ih (fun j hj => h j (by omega)), h n (by omega)]
theorem fstLt_congr {p p' : Nat → Bool} : ∀ n, (∀ i, i < n → p i = p' i) → fstLt p n = fstLt p' n := by
  intro n
  induction n with
  | zero => exact fun _ => rfl
  | succ n ih =>
    intro h
    simp only [fstLt, ih (fun i hi => h i (by omega)), h n (by omega)]
theorem fstLt_some {p : Nat → Bool} : ∀ n i, fstLt p n = some i → i < n ∧ p i = true := by
  intro n
  induction n with
  | zero => intro i h; cases h
  | succ n ih =>
    intro i h
    simp only [fstLt] at h
    cases e : fstLt p n with
    | some k =>
      rw [e] at h
      cases h
      have := ih i e
      exact ⟨by omega, this.2⟩
    | none =>
      rw [e] at h
      by_cases hp : p n = true
      · simp only [hp, if_true] at h
        cases h
        exact ⟨by omega, hp⟩
      · simp [hp] at h
def eWy (w : Nat → Int32) (t : Nat) : Nat := (w (23 * t + 7)).toNatClampNeg
def eWc (w : Nat → Int32) (t : Nat) : Nat := (w (23 * t + 8)).toNatClampNeg
def eWi (w : Nat → Int32) (t k : Nat) : Nat := (w (23 * t + (9 + 2 * k))).toNatClampNeg
def eWa (w : Nat → Int32) (t k : Nat) : Nat := (w (23 * t + (9 + 2 * k + 1))).toNatClampNeg
def eWs (w : Nat → Int32) (t : Nat) : Nat := (w (23 * t + 19)).toNatClampNeg
def eWb (w : Nat → Int32) (t k : Nat) : Nat := (w (23 * t + (20 + k))).toNatClampNeg
def eVal (w : Nat → Int32) : Prop := ∀ t, t < 20 → (w (23 * t + 7) = nI (eWy w t) ∧ eWy w t ≤ 20) ∧ (w (23 * t + 8) = nI (eWc w t) ∧ eWc w t ≤ 5) ∧ (eWy w t = 0 → eWc w t = 0) ∧ (w (23 * t + 19) = nI (eWs w t) ∧ eWs w t ≤ 3) ∧
  (∀ k, k < eWc w t → w (23 * t + (9 + 2 * k)) = nI (eWi w t k) ∧ eWi w t k < 20 ∧ w (23 * t + (9 + 2 * k + 1)) = nI (eWa w t k) ∧ 1 ≤ eWa w t k ∧ eWa w t k ≤ 20) ∧ (∀ k, k < eWs w t → w (23 * t + (20 + k)) = nI (eWb w t k) ∧ eWb w t k < 20) ∧ mVes w t
def eBk (B : Nat → Nat → Int32) (w : Nat → Int32) : Prop := ∀ t, t < 20 → B 7 t = w (23 * t + 1) ∧ B 1 t = w (23 * t + 7) ∧ B 2 t = w (23 * t + 8) ∧ B 5 t = w (23 * t + 19) ∧
  (∀ k, k < eWc w t → B 3 (t * 5 + k) = w (23 * t + (9 + 2 * k)) ∧ B 4 (t * 5 + k) = w (23 * t + (9 + 2 * k + 1))) ∧ ∀ k, k < eWs w t → B 6 (t * 3 + k) = w (23 * t + (20 + k))
def eCx (B : Nat → Nat → Int32) (w : Nat → Int32) : Prop := eVal w ∧ eBk B w
theorem m5 (t k : Nat) : nI t * 5 + nI k = nI (t * 5 + k) := by rw [show (5 : Int32) = nI 5 from rfl, pk_mul, nI_add]
theorem m3 (t k : Nat) : nI t * 3 + nI k = nI (t * 3 + k) := by rw [show (3 : Int32) = nI 3 from rfl, pk_mul, nI_add]
section
variable {B : Nat → Nat → Int32} {w : Nat → Int32} {t k : Nat}
theorem eCx.yield (h : eCx B w) (ht : t < 20) : bYield B (nI t) = nI (eWy w t) := (eAt ht (by decide)).trans ((h.2 t ht).2.1.trans (h.1 t ht).1.1)
theorem eCx.made (h : eCx B w) (ht : t < 20) : bMade B (nI t) = if eWy w t = 0 then 0 else 1 := by
  unfold bMade
  rw [h.yield ht]
  have := (h.1 t ht).1.2
  by_cases e : eWy w t = 0
  · rw [if_pos e, e]
    rfl
  · rw [if_neg e, if_neg (nI_nle (by omega) (by omega))]
theorem eCx.ings (h : eCx B w) (ht : t < 20) : bIngs B (nI t) = nI (eWc w t) := (eAt ht (by decide)).trans ((h.2 t ht).2.2.1.trans (h.1 t ht).2.1.1)
theorem eCx.subs (h : eCx B w) (ht : t < 20) : bSubs B (nI t) = nI (eWs w t) := (eAt ht (by decide)).trans ((h.2 t ht).2.2.2.1.trans (h.1 t ht).2.2.2.1.1)
theorem eCx.ves (h : eCx B w) (ht : t < 20) : bVes B (nI t) = w (23 * t + 1) := (eAt ht (by decide)).trans (h.2 t ht).1
theorem eCx.ing (h : eCx B w) (ht : t < 20) (hk : k < eWc w t) : bIng B (nI t) (nI k) = nI (eWi w t k) := by
  have := (h.1 t ht).2.1.2
  unfold bIng
  rw [m5, eAt (by omega) (by decide)]
  exact ((h.2 t ht).2.2.2.2.1 k hk).1.trans ((h.1 t ht).2.2.2.2.1 k hk).1
theorem eCx.amt (h : eCx B w) (ht : t < 20) (hk : k < eWc w t) : bAmt B (nI t) (nI k) = nI (eWa w t k) := by
  have := (h.1 t ht).2.1.2
  unfold bAmt
  rw [m5, eAt (by omega) (by decide)]
  exact ((h.2 t ht).2.2.2.2.1 k hk).2.trans ((h.1 t ht).2.2.2.2.1 k hk).2.2.1
theorem eCx.sub (h : eCx B w) (ht : t < 20) (hk : k < eWs w t) : bSub B (nI t) (nI k) = nI (eWb w t k) := by
  have := (h.1 t ht).2.2.2.1.2
  unfold bSub
  rw [m3, eAt (by omega) (by decide)]
  exact ((h.2 t ht).2.2.2.2.2 k hk).trans ((h.1 t ht).2.2.2.2.2.1 k hk).1
end
theorem eVal.made {w : Nat → Int32} {t : Nat} (h : eVal w) (ht : t < 20) : mMade w t = if eWy w t = 0 then 0 else 1 := by
  unfold mMade
  rw [(h t ht).1.1]
  have := (h t ht).1.2
  by_cases e : eWy w t = 0
  · rw [if_pos e, e]
    rfl
  · rw [if_neg e, if_neg (nI_nle (by omega) (by omega))]
/-- what stands in for a missing thing -/
def eMd (w : Nat → Int32) (t : Nat) (k : Nat) : Option Nat := if eWy w t = 0 then (match fstLt (fun i => !decide (eWy w (eWb w t i) = 0)) k with
  | some i => some (eWb w t i)
  | none => none) else some t
theorem eMd_some {w : Nat → Int32} {t k p : Nat} (h : eMd w t k = some p) : (p = t ∨ ∃ i, i < k ∧ p = eWb w t i) ∧ eWy w p ≠ 0 := by
  unfold eMd at h
  by_cases e : eWy w t = 0
  · rw [if_pos e] at h
    cases e2 : fstLt (fun i => !decide (eWy w (eWb w t i) = 0)) k with
    | none =>
      rw [e2] at h
      cases h
    | some i =>
      rw [e2] at h
      cases h
      have h3 := fstLt_some k i e2
      exact ⟨Or.inr ⟨i, h3.1, rfl⟩, by simpa using h3.2⟩
  · rw [if_neg e] at h
    cases h
    exact ⟨Or.inl rfl, e⟩
theorem eCx.stand {B : Nat → Nat → Int32} {w : Nat → Int32} {t : Nat} (h : eCx B w) (ht : t < 20) : bStand B (nI t) = nI ((eMd w t (eWs w t)).getD t) := by
  unfold bStand eMd
  rw [h.made ht, h.subs ht]
  have h3 := (h.1 t ht).2.2.2.1.2
  rw [nI_clamp (by omega)]
  by_cases e : eWy w t = 0
  · rw [if_pos e, if_pos rfl, if_pos e, fstLt_congr (p' := fun i => !decide (eWy w (eWb w t i) = 0)) (eWs w t) (fun i hi => by
      have := ((h.1 t ht).2.2.2.2.2.1 i hi).2
      rw [h.sub ht hi, h.made this]
      by_cases e2 : eWy w (eWb w t i) = 0
      · simp [e2]
      · simp [e2])]
    cases e2 : fstLt (fun i => !decide (eWy w (eWb w t i) = 0)) (eWs w t) with
    | none => rfl
    | some i => exact h.sub ht (fstLt_some _ _ e2).1
  · rw [if_neg e, if_neg (by decide), if_neg e]
    rfl
def eAm (W : Nat → Nat → Int32) : Prop := ∀ t, t < 20 → ∃ a, a ≤ 99999 ∧ W 2 t = nI a
def eN (q mg : Int32) (W : Nat → Nat → Int32) (bt g M : Nat) : Prop := W 0 1 = mg ∧ W 0 2 = 0 ∧ eAm W ∧ W 0 3 = nI bt ∧ bt ≤ 500 ∧ W 0 4 = nI g ∧ cSum (W 4) 20 = nI M ∧ cSum (W 3) 20 = q + nI g
theorem eCome_f {W : Nat → Nat → Int32} {j : Nat} {t n : Int32} (hj : 1 ≤ j) (h : ¬ W 0 2 = 0) : ¬ wCome W j t n 0 2 = 0 := by
  unfold wCome
  split
  · simp (disch := omega) only [zup_ne, zup_eq, upd_ne, upd_eq]
    exact h
  · simp (disch := omega) only [zup_ne, zup_eq, upd_ne, upd_eq]
    decide
theorem eUse0_f {W : Nat → Nat → Int32} {t n : Int32} : wUse0 W t n 0 = W 0 := by
  unfold wUse0
  simp (disch := omega) only [zup_ne, zup_eq, upd_ne, upd_eq]
theorem eUse_f {B W : Nat → Nat → Int32} {t n : Int32} (h : ¬ W 0 2 = 0) : ¬ wUse B W t n 0 2 = 0 := by
  unfold wUse
  split
  · rw [eUse0_f]
    exact h
  · exact eCome_f (by decide) (by rw [eUse0_f]; exact h)
theorem eCol_f0 {W : Nat → Nat → Int32} {t n : Int32} (h : W 0 1 = 0) : ¬ wCol W t n 0 2 = 0 := by
  unfold wCol
  refine eCome_f (by decide) ?_
  unfold wCol0 wColF
  rw [if_pos h]
  simp (disch := omega) only [zup_ne, zup_eq, upd_ne, upd_eq]
  decide
theorem eAm.come {W : Nat → Nat → Int32} {τ j k : Nat} (h : eAm W) (hτ : τ < 20) (hk : k ≤ 1000000) (hj : 3 ≤ j) :
    (¬ wCome W j (nI τ) (nI k) 0 2 = 0) ∨ (wCome W j (nI τ) (nI k) = va_up (va_up W 2 (upd (W 2) τ (W 2 τ + nI k))) j (cAdd 20 (W j) (nI τ) (nI k)) ∧ eAm (wCome W j (nI τ) (nI k)) ∧ ∃ a, a ≤ 99999 ∧ k ≤ a ∧ wCome W j (nI τ) (nI k) 2 τ = nI a) := by
  obtain ⟨a, ha, ea⟩ := h τ hτ
  have ev : cAt 20 (cAdd 20 (W 2) (nI τ) (nI k)) (nI τ) = nI (a + k) := by rw [eAt hτ (by decide), eAdd hτ (by decide), upd_eq, ea, nI_add]
  unfold wCome
  rw [ev]
  by_cases c : nI (a + k) ≤ 99999
  · rw [if_pos c]
    have c' : a + k ≤ 99999 := (nI_leI (b := 99999) (by omega) (by decide)).mp c
    refine Or.inr ⟨by rw [eAdd hτ (by decide)], fun t ht => ?_, a + k, c', by omega, ?_⟩
    · simp (disch := omega) only [zup_ne, zup_eq, upd_ne, upd_eq]
      rw [eAdd hτ (by decide)]
      by_cases e : t = τ
      · subst e
        rw [upd_eq, ea, nI_add]
        exact ⟨_, c', rfl⟩
      · rw [upd_ne e]
        exact h t ht
    · simp (disch := omega) only [zup_ne, zup_eq, upd_ne, upd_eq]
      rw [eAdd hτ (by decide), upd_eq, ea, nI_add]
  · rw [if_neg c]
    refine Or.inl ?_
    simp (disch := omega) only [zup_ne, zup_eq, upd_ne, upd_eq]
    decide
def eVs (v : Int32) : Prop := v = -9 ∨ ∃ k, k < 20 ∧ v = nI k
theorem eN.tk {q mg : Int32} {W : Nat → Nat → Int32} {bt g M τ m : Nat} (h : eN q mg W bt g M) (hτ : τ < 20) (hm : m ≤ 1000000) : ∃ a k, a ≤ 99999 ∧ W 2 τ = nI a ∧ k ≤ a ∧ k ≤ m ∧ wN W (nI τ) (nI m) = nI k ∧ (m ≤ a → k = m) := by
  obtain ⟨a, ha, ea⟩ := h.2.2.1 τ hτ
  unfold wN
  rw [eAt hτ (by decide), ea]
  by_cases c : nI a < nI m
  · have c' : a < m := (nI_ltI (by omega) (by omega)).mp c
    exact ⟨a, a, ha, rfl, Nat.le_refl _, by omega, if_pos c, fun h => by omega⟩
  · have c' : ¬ a < m := fun h => c ((nI_ltI (by omega) (by omega)).mpr h)
    exact ⟨a, m, ha, rfl, by omega, Nat.le_refl _, if_neg c, fun _ => rfl⟩
theorem eN.use {B : Nat → Nat → Int32} {q mg : Int32} {W : Nat → Nat → Int32} {bt g M τ m : Nat} (h : eN q mg W bt g M) (hτ : τ < 20) (hm : m ≤ 1000000) (hv : eVs (bVes B (nI τ))) : (¬ wUse B W (nI τ) (nI m) 0 2 = 0) ∨ eN q mg (wUse B W (nI τ) (nI m)) bt g M := by
  obtain ⟨a, k, ha, ea, hka, hkm, ek, -⟩ := h.tk hτ hm
  obtain ⟨h1, h2, h3, h4, h5, h6, h7, h8⟩ := h
  unfold wUse
  rw [ek]
  have am : eAm (wUse0 W (nI τ) (nI k)) := by
    intro t ht
    unfold wUse0
    simp (disch := omega) only [zup_ne, zup_eq, upd_ne, upd_eq]
    rw [eAdd hτ (by decide)]
    by_cases e : t = τ
    · subst e
      rw [upd_eq, ea, ← Int32.sub_eq_add_neg, pk_sub hka]
      exact ⟨a - k, by omega, rfl⟩
    · rw [upd_ne e]
      exact h3 t ht
  have n0 : eN q mg (wUse0 W (nI τ) (nI k)) bt g M := by
    refine ⟨by rw [eUse0_f]; exact h1, by rw [eUse0_f]; exact h2, am, by rw [eUse0_f]; exact h4, h5, by rw [eUse0_f]; exact h6, ?_, ?_⟩
    · unfold wUse0
      simp (disch := omega) only [zup_ne, zup_eq, upd_ne, upd_eq]
      exact h7
    · unfold wUse0
      simp (disch := omega) only [zup_ne, zup_eq, upd_ne, upd_eq]
      exact h8
  by_cases c : bVes B (nI τ) = -9
  · rw [if_pos c]
    exact Or.inr n0
  · rw [if_neg c]
    obtain ⟨v, hv20, ev⟩ := hv.resolve_left c
    rw [ev]
    rcases am.come (j := 6) hv20 (show k ≤ 1000000 by omega) (by decide) with hf | ⟨he, ham, -⟩
    · exact Or.inl hf
    · refine Or.inr ?_
      obtain ⟨g1, g2, -, g4, g5, g6, g7, g8⟩ := n0
      refine ⟨?_, ?_, ham, ?_, g5, ?_, ?_, ?_⟩
      all_goals rw [he]
      · simp (disch := omega) only [zup_ne, zup_eq, upd_ne, upd_eq]
        exact g1
      · simp (disch := omega) only [zup_ne, zup_eq, upd_ne, upd_eq]
        exact g2
      · simp (disch := omega) only [zup_ne, zup_eq, upd_ne, upd_eq]
        exact g4
      · simp (disch := omega) only [zup_ne, zup_eq, upd_ne, upd_eq]
        exact g6
      · simp (disch := omega) only [zup_ne, zup_eq, upd_ne, upd_eq]
        exact g7
      · simp (disch := omega) only [zup_ne, zup_eq, upd_ne, upd_eq]
        exact g8
theorem eN.col {q : Int32} {W : Nat → Nat → Int32} {bt g M τ m : Nat} (h : eN q 1 W bt g M) (hτ : τ < 20) (hm : m ≤ 1000000) : (¬ wCol W (nI τ) (nI m) 0 2 = 0) ∨ (eN q 1 (wCol W (nI τ) (nI m)) bt (g + m) M ∧ ∃ a, a ≤ 99999 ∧ m ≤ a ∧ wCol W (nI τ) (nI m) 2 τ = nI a) := by
  obtain ⟨h1, h2, h3, h4, h5, h6, h7, h8⟩ := h
  have e0 : wColF W = W := by
    unfold wColF
    rw [if_neg (by rw [h1]; decide)]
  have e1 : wCol0 W (nI m) = va_up W 0 (upd (W 0) 4 (nI (g + m))) := by
    unfold wCol0
    rw [e0, h6, nI_add]
  unfold wCol
  rw [e1]
  have am : eAm (va_up W 0 (upd (W 0) 4 (nI (g + m)))) := fun t ht => by
    simp (disch := omega) only [zup_ne, zup_eq, upd_ne, upd_eq]
    exact h3 t ht
  rcases am.come (j := 3) hτ hm (by decide) with hf | ⟨he, ham, hx⟩
  · exact Or.inl hf
  · refine Or.inr ⟨⟨?_, ?_, ham, ?_, h5, ?_, ?_, ?_⟩, hx⟩
    all_goals rw [he]
    · simp (disch := omega) only [zup_ne, zup_eq, upd_ne, upd_eq]
      exact h1
    · simp (disch := omega) only [zup_ne, zup_eq, upd_ne, upd_eq]
      exact h2
    · simp (disch := omega) only [zup_ne, zup_eq, upd_ne, upd_eq]
      exact h4
    · simp (disch := omega) only [zup_ne, zup_eq, upd_ne, upd_eq]
    · simp (disch := omega) only [zup_ne, zup_eq, upd_ne, upd_eq]
      exact h7
    · simp (disch := omega) only [zup_ne, zup_eq, upd_ne, upd_eq]
      rw [eAdd hτ (by decide), eSum_upd 20 hτ, h8, Int32.add_assoc, nI_add]
theorem it_zero {σ : Type} {f : Nat → σ → σ} {s : σ} : it f 0 s = s := rfl
theorem it_s {σ : Type} {f : Nat → σ → σ} {n : Nat} {s : σ} : it f (n + 1) s = f n (it f n s) := rfl
theorem eVs_of {B : Nat → Nat → Int32} {w : Nat → Int32} (cx : eCx B w) {t : Nat} (ht : t < 20) : eVs (bVes B (nI t)) := by
  rw [cx.ves ht]
  exact (cx.1 t ht).2.2.2.2.2.2
theorem eN.subs {B : Nat → Nat → Int32} {w : Nat → Int32} (cx : eCx B w) {q mg : Int32} {W : Nat → Nat → Int32} {bt g M t n : Nat} (h : eN q mg W bt g M) (ht : t < 20) (hn : n ≤ 1000000) :
    ∀ c, c ≤ eWs w t → (¬ (it (wSubStep B (nI t)) c (nI n - wN W (nI t) (nI n), wUse B W (nI t) (nI n))).2 0 2 = 0) ∨ ∃ m, m ≤ n ∧ (it (wSubStep B (nI t)) c (nI n - wN W (nI t) (nI n), wUse B W (nI t) (nI n))).1 = nI m ∧ eN q mg (it (wSubStep B (nI t)) c (nI n - wN W (nI t) (nI n), wUse B W (nI t) (nI n))).2 bt g M := by
  intro c
  induction c with
  | zero =>
    intro _
    obtain ⟨a, k, ha, ea, hka, hkm, ek, -⟩ := h.tk ht hn
    rcases h.use (B := B) ht hn (eVs_of cx ht) with hf | hg
    · exact Or.inl hf
    · refine Or.inr ⟨n - k, by omega, ?_, hg⟩
      show nI n - wN W (nI t) (nI n) = _
      rw [ek, pk_sub hkm]
  | succ c ih =>
    intro hc
    rw [it_s]
    generalize it (wSubStep B (nI t)) c (nI n - wN W (nI t) (nI n), wUse B W (nI t) (nI n)) = s at ih ⊢
    have h20 := ((cx.1 t ht).2.2.2.2.2.1 c (by omega)).2
    unfold wSubStep
    rw [cx.sub ht (by omega)]
    rcases ih (by omega) with hf | ⟨m, hm, em, hN⟩
    · refine Or.inl ?_
      split
      · exact hf
      · exact eUse_f hf
    · by_cases c0 : s.1 ≤ 0
      · rw [if_pos c0]
        exact Or.inr ⟨m, hm, em, hN⟩
      · rw [if_neg c0]
        rw [em]
        obtain ⟨a, k, ha, ea, hka, hkm, ek, -⟩ := hN.tk h20 (show m ≤ 1000000 by omega)
        rcases hN.use (B := B) h20 (show m ≤ 1000000 by omega) (eVs_of cx h20) with hf | hg
        · exact Or.inl hf
        · refine Or.inr ⟨m - k, by omega, ?_, hg⟩
          show nI m - wN s.2 (nI (eWb w t c)) (nI m) = _
          rw [ek, pk_sub hkm]
theorem eDiv {m y : Nat} (hm : m ≤ 1000000) (hy : 1 ≤ y) (hy2 : y ≤ 20) : cDivUp (nI m) (nI y) = nI ((m + y - 1) / y) := by
  unfold cDivUp
  rw [if_pos (show (1 : Int32) ≤ nI y from nI_le (a := 1) hy (by omega)), nI_add, show (1 : Int32) = nI 1 from rfl, pk_sub (by omega), pk_div (by omega) (by omega) (by omega)]
theorem eDiv_le {m y : Nat} (hm : 1 ≤ m) (hy : 1 ≤ y) : 1 ≤ (m + y - 1) / y ∧ (m + y - 1) / y ≤ m ∧ m ≤ y * ((m + y - 1) / y) := by
  have h1 := Nat.div_add_mod (m + y - 1) y
  have h2 := Nat.mod_lt (m + y - 1) (show 0 < y by omega)
  refine ⟨?_, ?_, by omega⟩
  · exact (Nat.le_div_iff_mul_le (by omega)).mpr (by omega)
  · refine Nat.div_le_of_le_mul ?_
    have : y * m = m + (y - 1) * m := by
      obtain ⟨z, rfl⟩ : ∃ z, y = z + 1 := ⟨y - 1, by omega⟩
      rw [Nat.add_sub_cancel, Nat.add_mul, Nat.one_mul, Nat.add_comm]
    have h3 : (y - 1) * 1 ≤ (y - 1) * m := Nat.mul_le_mul_left _ hm
    omega
/-- the ranks: what is needed for a made thing is of a lower one -/
def eRk (w : Nat → Int32) (r : Nat → Nat) : Prop := ∀ t, t < 20 → eWy w t ≠ 0 → 1 ≤ r t ∧ r t ≤ 8 ∧ ∀ k, k < eWc w t → r (eWi w t k) < r t ∧ ∀ i, i < eWs w (eWi w t k) → r (eWb w (eWi w t k) i) < r t
def eHR (B : Nat → Nat → Int32) (w : Nat → Int32) (r : Nat → Nat) (q mg : Int32) (f : Nat) : Prop := ∀ t W b bt g M, t < 20 → eWy w t ≠ 0 → r t ≤ f → b ≤ 1000000 → eN q mg W bt g M →
  (¬ wRun B f (nI t) (nI b) W 0 2 = 0) ∨ ∃ bt' g' M' a, eN q mg (wRun B f (nI t) (nI b) W) bt' g' M' ∧ bt ≤ bt' ∧ g ≤ g' ∧ g' + 100 * bt ≤ g + 100 * bt' ∧ M ≤ M' ∧ M' + 20 * bt ≤ M + 20 * bt' ∧ wRun B f (nI t) (nI b) W 2 t = nI a ∧ eWy w t * b ≤ a ∧ a ≤ 99999
theorem eN.take {B : Nat → Nat → Int32} {w : Nat → Int32} {r : Nat → Nat} (cx : eCx B w) {q mg : Int32} (hmg : mg = 0 ∨ mg = 1) {f : Nat} (hR : eHR B w r q mg f) {W : Nat → Nat → Int32} {bt g M t n : Nat} (h : eN q mg W bt g M) (ht : t < 20) (hn : n ≤ 1000000)
    (hr : r t ≤ f) (hrs : ∀ i, i < eWs w t → r (eWb w t i) ≤ f) :
    (¬ wTake (wProv (wRun B f) B) B W (nI t) (nI n) 0 2 = 0) ∨ ∃ bt' g' M', eN q mg (wTake (wProv (wRun B f) B) B W (nI t) (nI n)) bt' g' M' ∧ bt ≤ bt' ∧ g ≤ g' ∧ g' + 100 * bt ≤ g + n + 100 * bt' ∧ M ≤ M' ∧ M' + 20 * bt ≤ M + 20 * bt' := by
  have hs := h.subs cx ht hn (eWs w t) (Nat.le_refl _)
  have e : wSubs B W (nI t) (nI n) = it (wSubStep B (nI t)) (eWs w t) (nI n - wN W (nI t) (nI n), wUse B W (nI t) (nI n)) := by
    unfold wSubs
    rw [cx.subs ht, nI_clamp (by have := (cx.1 t ht).2.2.2.1.2; omega)]
  rw [← e] at hs
  unfold wTake
  generalize wSubs B W (nI t) (nI n) = s at hs ⊢
  rcases hs with hf | ⟨m, hm, em, hN⟩
  · refine Or.inl ?_
    split
    · exact hf
    · first | exact hf | (rw [if_neg hf]; exact hf)
  · by_cases c0 : s.1 ≤ 0
    · rw [if_pos c0]
      exact Or.inr ⟨bt, g, M, hN, Nat.le_refl _, Nat.le_refl _, by omega, Nat.le_refl _, Nat.le_refl _⟩
    · rw [if_neg c0, if_pos hN.2.1, em, cx.stand ht]
      have hm1 : 1 ≤ m := by
        rcases Nat.eq_zero_or_pos m with h0 | h0
        · exact absurd (by rw [em, h0]; decide) c0
        · exact h0
      unfold wProv
      cases e2 : eMd w t (eWs w t) with
      | none =>
        have hy : eWy w t = 0 := by
          unfold eMd at e2
          by_cases hy : eWy w t = 0
          · exact hy
          · rw [if_neg hy] at e2
            cases e2
        show (¬ wUse B (if bMade B (nI t) = 0 then _ else _) (nI t) (nI m) 0 2 = 0) ∨ _
        rw [show (none : Option Nat).getD t = t from rfl, cx.made ht, if_pos hy, if_pos rfl]
        rcases hmg with rfl | rfl
        · exact Or.inl (eUse_f (eCol_f0 hN.1))
        · rcases hN.col ht (show m ≤ 1000000 by omega) with hf | ⟨hc, -⟩
          · exact Or.inl (eUse_f hf)
          · rcases hc.use (B := B) ht (show m ≤ 1000000 by omega) (eVs_of cx ht) with hf | hg
            · exact Or.inl hf
            · exact Or.inr ⟨bt, g + m, M, hg, Nat.le_refl _, by omega, by omega, Nat.le_refl _, Nat.le_refl _⟩
      | some p =>
        obtain ⟨hp, hpy⟩ := eMd_some e2
        have hp20 : p < 20 := by
          rcases hp with rfl | ⟨i, hi, rfl⟩
          · exact ht
          · exact ((cx.1 t ht).2.2.2.2.2.1 i hi).2
        have hpr : r p ≤ f := by
          rcases hp with rfl | ⟨i, hi, rfl⟩
          · exact hr
          · exact hrs i hi
        have hpy2 := (cx.1 p hp20).1.2
        show (¬ wUse B (if bMade B (nI p) = 0 then _ else _) (nI p) (nI m) 0 2 = 0) ∨ _
        rw [show (some p).getD t = p from rfl, cx.made hp20, if_neg hpy, if_neg (by decide), cx.yield hp20, eDiv (show m ≤ 1000000 by omega) (by omega) hpy2]
        have hd := eDiv_le hm1 (show 1 ≤ eWy w p by omega)
        rcases hR p s.2 ((m + eWy w p - 1) / eWy w p) bt g M hp20 hpy hpr (by omega) hN with hf | ⟨bt', g', M', a, hN', h1, h2, h3, h4, h5, -⟩
        · exact Or.inl (eUse_f hf)
        · rcases hN'.use (B := B) hp20 (show m ≤ 1000000 by omega) (eVs_of cx hp20) with hf | hg
          · exact Or.inl hf
          · exact Or.inr ⟨bt', g', M', hg, h1, h2, by omega, h4, h5⟩
theorem eN.bat {q mg : Int32} {W : Nat → Nat → Int32} {bt g M b : Nat} (h : eN q mg W bt g M) (hb : b ≤ 1000000) : (wBat W (nI b) 0 3 = nI (bt + b)) ∧ (bt + b ≤ 500 → eN q mg (wBat W (nI b)) (bt + b) g M) := by
  obtain ⟨h1, h2, h3, h4, h5, h6, h7, h8⟩ := h
  have e : wBat W (nI b) = va_up W 0 (upd (W 0) 3 (nI (bt + b))) := by
    unfold wBat
    rw [h4, nI_add]
  rw [e]
  refine ⟨by simp (disch := omega) only [zup_ne, zup_eq, upd_ne, upd_eq], fun hl => ⟨?_, ?_, fun t ht => ?_, ?_, hl, ?_, ?_, ?_⟩⟩
  all_goals simp (disch := omega) only [zup_ne, zup_eq, upd_ne, upd_eq]
  · exact h1
  · exact h2
  · exact h3 t ht
  · exact h6
  · exact h7
  · exact h8
theorem eFail_f {W : Nat → Nat → Int32} : ¬ wFail W 0 2 = 0 := by
  unfold wFail
  simp (disch := omega) only [zup_ne, zup_eq, upd_ne, upd_eq]
  decide
theorem eRunStep_f {run : Int32 → Int32 → (Nat → Nat → Int32) → (Nat → Nat → Int32)} {B : Nat → Nat → Int32} {t c : Int32} {W : Nat → Nat → Int32} (h : ¬ W 0 2 = 0) (k : Nat) : it (wRunStep run B t c) k W = W := by
  induction k with
  | zero => rfl
  | succ k ih =>
    rw [it_s, ih]
    unfold wRunStep
    rw [if_neg h]
theorem eDone_f {B : Nat → Nat → Int32} {t c : Int32} {W : Nat → Nat → Int32} (h : ¬ W 0 2 = 0) : wDone B t c W = W := by
  unfold wDone
  rw [if_neg h]
theorem wRun_s {B : Nat → Nat → Int32} {f : Nat} {t c : Int32} {W : Nat → Nat → Int32} : wRun B (f + 1) t c W = wDone B t c (it (wRunStep (wRun B f) B t c) (bIngs B t).toNatClampNeg (if 500 < wBat W c 0 3 then wFail (wBat W c) else wBat W c)) := rfl
theorem eN.done {B : Nat → Nat → Int32} {w : Nat → Int32} (cx : eCx B w) {q mg : Int32} {W : Nat → Nat → Int32} {bt g M t b : Nat} (h : eN q mg W bt g M) (ht : t < 20) (hb : b ≤ 500) :
    (¬ wDone B (nI t) (nI b) W 0 2 = 0) ∨ (eN q mg (wDone B (nI t) (nI b) W) bt g (M + eWy w t * b) ∧ ∃ a, a ≤ 99999 ∧ eWy w t * b ≤ a ∧ wDone B (nI t) (nI b) W 2 t = nI a) := by
  obtain ⟨h1, h2, h3, h4, h5, h6, h7, h8⟩ := h
  unfold wDone
  rw [if_pos h2, cx.yield ht, pk_mul]
  have hy : eWy w t * b ≤ 20 * 500 := Nat.mul_le_mul (cx.1 t ht).1.2 hb
  rcases h3.come (j := 4) ht (show eWy w t * b ≤ 1000000 by omega) (by decide) with hf | ⟨he, ham, a, ha, hya, ea⟩
  · refine Or.inl ?_
    simp (disch := omega) only [zup_ne, zup_eq, upd_ne, upd_eq]
    exact hf
  · refine Or.inr ⟨⟨?_, ?_, fun u hu => ?_, ?_, h5, ?_, ?_, ?_⟩, a, ha, hya, ?_⟩
    · simp (disch := omega) only [zup_ne, zup_eq, upd_ne, upd_eq]
      rw [he]
      simp (disch := omega) only [zup_ne, zup_eq, upd_ne, upd_eq]
      exact h1
    · simp (disch := omega) only [zup_ne, zup_eq, upd_ne, upd_eq]
      rw [he]
      simp (disch := omega) only [zup_ne, zup_eq, upd_ne, upd_eq]
      exact h2
    · simp (disch := omega) only [zup_ne, zup_eq, upd_ne, upd_eq]
      exact ham u hu
    · simp (disch := omega) only [zup_ne, zup_eq, upd_ne, upd_eq]
      rw [he]
      simp (disch := omega) only [zup_ne, zup_eq, upd_ne, upd_eq]
      exact h4
    · simp (disch := omega) only [zup_ne, zup_eq, upd_ne, upd_eq]
      rw [he]
      simp (disch := omega) only [zup_ne, zup_eq, upd_ne, upd_eq]
      exact h6
    · simp (disch := omega) only [zup_ne, zup_eq, upd_ne, upd_eq]
      rw [he]
      simp (disch := omega) only [zup_ne, zup_eq, upd_ne, upd_eq]
      rw [eAdd ht (by decide), eSum_upd 20 ht, h7, nI_add]
    · simp (disch := omega) only [zup_ne, zup_eq, upd_ne, upd_eq]
      rw [he]
      simp (disch := omega) only [zup_ne, zup_eq, upd_ne, upd_eq]
      exact h8
    · simp (disch := omega) only [zup_ne, zup_eq, upd_ne, upd_eq]
      exact ea
theorem eHR.all {B : Nat → Nat → Int32} {w : Nat → Int32} {r : Nat → Nat} (cx : eCx B w) (hrk : eRk w r) {q mg : Int32} (hmg : mg = 0 ∨ mg = 1) : ∀ f, eHR B w r q mg f := by
  intro f
  induction f with
  | zero =>
    intro t W b bt g M ht hy hr
    have := (hrk t ht hy).1
    omega
  | succ f ih =>
    intro t W b bt g M ht hy hr hb hN
    obtain ⟨hr1, hr8, hrn⟩ := hrk t ht hy
    obtain ⟨hc, hc5⟩ := (cx.1 t ht).2.1
    obtain ⟨e3, hbat⟩ := hN.bat hb
    rw [wRun_s, cx.ings ht, nI_clamp (by omega), e3]
    have hbt := hN.2.2.2.2.1
    by_cases c5 : 500 < bt + b
    · rw [if_pos (show (500 : Int32) < nI (bt + b) from nI_lt (a := 500) c5 (by omega))]
      refine Or.inl ?_
      rw [eRunStep_f eFail_f, eDone_f eFail_f]
      exact eFail_f
    · rw [if_neg (show ¬ (500 : Int32) < nI (bt + b) from nI_nlt (b := bt + b) (a := 500) (by omega) (by omega))]
      have hN1 := hbat (by omega)
      generalize wBat W (nI b) = W1 at hN1 ⊢
      have hloop : ∀ k, k ≤ eWc w t → (¬ it (wRunStep (wRun B f) B (nI t) (nI b)) k W1 0 2 = 0) ∨ ∃ bt' g' M', eN q mg (it (wRunStep (wRun B f) B (nI t) (nI b)) k W1) bt' g' M' ∧ bt + b ≤ bt' ∧ g ≤ g' ∧ g' + 100 * (bt + b) ≤ g + 20 * (b * k) + 100 * bt' ∧ M ≤ M' ∧ M' + 20 * (bt + b) ≤ M + 20 * bt' := by
        intro k
        induction k with
        | zero => exact fun _ => Or.inr ⟨bt + b, g, M, hN1, Nat.le_refl _, Nat.le_refl _, by omega, Nat.le_refl _, Nat.le_refl _⟩
        | succ k ihk =>
          intro hk
          rw [it_s]
          generalize it (wRunStep (wRun B f) B (nI t) (nI b)) k W1 = V at ihk ⊢
          unfold wRunStep
          rcases ihk (by omega) with hf | ⟨bt', g', M', hV, a1, a2, a3, a4, a5⟩
          · rw [if_neg hf]
            exact Or.inl hf
          · rw [if_pos hV.2.1, cx.ing ht (by omega), cx.amt ht (by omega), pk_mul]
            obtain ⟨-, hi20, -, ha1, ha20⟩ := (cx.1 t ht).2.2.2.2.1 k (by omega)
            have hm20 : eWa w t k * b ≤ 20 * b := Nat.mul_le_mul_right b ha20
            have hrk2 := hrn k (by omega)
            rcases hV.take cx hmg ih hi20 (show eWa w t k * b ≤ 1000000 by omega) (by omega) (fun i hi => by have := hrk2.2 i hi; omega) with hf | ⟨bt2, g2, M2, hV2, d1, d2, d3, d4, d5⟩
            · exact Or.inl hf
            · have e5 : b * (k + 1) = b * k + b := Nat.mul_succ b k
              exact Or.inr ⟨bt2, g2, M2, hV2, by omega, by omega, by omega, by omega, by omega⟩
      have hl := hloop (eWc w t) (Nat.le_refl _)
      generalize it (wRunStep (wRun B f) B (nI t) (nI b)) (eWc w t) W1 = V at hl ⊢
      rcases hl with hf | ⟨bt', g', M', hV, a1, a2, a3, a4, a5⟩
      · refine Or.inl ?_
        rw [eDone_f hf]
        exact hf
      · rcases hV.done cx ht (show b ≤ 500 by omega) with hf | ⟨hD, a, ha, hya, ea⟩
        · exact Or.inl hf
        · have h6 : b * eWc w t ≤ b * 5 := Nat.mul_le_mul_left b hc5
          have h7 : eWy w t * b ≤ 20 * b := Nat.mul_le_mul_right b (cx.1 t ht).1.2
          exact Or.inr ⟨bt', g', M' + eWy w t * b, a, hD, by omega, a2, by omega, by omega, by omega, ea, hya, ha⟩
def bt (x : Int32) (i : Nat) : Bool := x.toBitVec.getLsbD i
theorem b_ext {x y : Int32} (h : ∀ i, i < 32 → bt x i = bt y i) : x = y := Int32.toBitVec_inj.mp (BitVec.eq_of_getLsbD_eq (fun i hi => h i hi))
theorem b_or (x y : Int32) (i : Nat) : bt (x ||| y) i = (bt x i || bt y i) := by unfold bt; rw [Int32.toBitVec_or, BitVec.getLsbD_or]
theorem b_and (x y : Int32) (i : Nat) : bt (x &&& y) i = (bt x i && bt y i) := by unfold bt; rw [Int32.toBitVec_and, BitVec.getLsbD_and]
theorem b_big {x : Int32} {i : Nat} (h : 32 ≤ i) : bt x i = false := BitVec.getLsbD_of_ge _ _ h
theorem b_0 (i : Nat) : bt 0 i = false := BitVec.getLsbD_zero
theorem s_l : ∀ n, n < 32 → ((nI n &&& 31).toBitVec.smod 32).toNat = n := by decide +kernel
theorem b_shl (n : Nat) (hn : n < 32) (x : Int32) {i : Nat} (hi : i < 32) : bt (x <<< (nI n &&& 31)) i = (decide (n ≤ i) && bt x (i - n)) := by
  unfold bt
  rw [Int32.toBitVec_shiftLeft]
  show (x.toBitVec <<< ((nI n &&& 31).toBitVec.smod 32).toNat).getLsbD i = _
  rw [s_l n hn, BitVec.getLsbD_shiftLeft]
  rcases Nat.lt_or_ge i n with h | h
  · simp [h, Nat.not_le.mpr h]
  · simp [hi, h, Nat.not_lt.mpr h]
theorem b_sshr (n : Nat) (hn : n < 32) (x : Int32) {i : Nat} (hi : i < 32) : bt (x >>> (nI n &&& 31)) i = if n + i < 32 then bt x (n + i) else bt x 31 := by
  unfold bt
  rw [Int32.toBitVec_shiftRight]
  show (x.toBitVec.sshiftRight ((nI n &&& 31).toBitVec.smod 32).toNat).getLsbD i = _
  rw [s_l n hn, BitVec.getLsbD_sshiftRight, BitVec.msb_eq_getLsbD_last]
  simp [hi]
theorem b_1 (i : Nat) : bt 1 i = decide (i = 0) := by
  rcases Nat.lt_or_ge i 32 with h | h
  · exact (by decide +kernel : ∀ i, i < 32 → bt 1 i = decide (i = 0)) i h
  · rw [b_big h, decide_eq_false (by omega)]
theorem b_one {p j : Nat} (hp : p < 32) (hj : j < 32) : bt ((1 : Int32) <<< (nI p &&& 31)) j = decide (p = j) := by
  rw [b_shl p hp 1 hj, b_1]
  by_cases h : p = j
  · subst h
    simp
  · have : ¬ (p ≤ j ∧ j - p = 0) := by omega
    simp only [h, decide_false, Bool.and_eq_false_iff, decide_eq_false_iff_not]
    omega
theorem cHasBit_b {s : Int32} {k : Nat} (hk : k < 32) : cHasBit s (nI k) = if bt s k = true then 1 else 0 := by
  unfold cHasBit
  have e : bt (s >>> (nI k &&& 31)) 0 = bt s k := by
    rw [b_sshr k hk s (by decide), if_pos (by omega), Nat.add_zero]
  by_cases h : bt s k = true
  · rw [if_pos h, if_neg]
    intro h0
    have := congrArg (fun x => bt x 0) h0
    simp only [b_and, e, h, b_0, b_1] at this
    cases this
  · rw [if_neg h, if_pos]
    refine b_ext (fun i hi => ?_)
    rw [b_and, b_0, b_1]
    by_cases hi0 : i = 0
    · subst hi0
      rw [e]
      simp only [Bool.not_eq_true] at h
      rw [h]
      rfl
    · simp [hi0]
def eNd (w : Nat → Int32) (t j : Nat) : Prop := ∃ k, k < eWc w t ∧ (eWi w t k = j ∨ ∃ i, i < eWs w (eWi w t k) ∧ eWb w (eWi w t k) i = j)
section
variable {B : Nat → Nat → Int32} {w : Nat → Int32} {t : Nat}
theorem eNd_lt (hv : eVal w) (ht : t < 20) {j : Nat} (h : eNd w t j) : j < 20 := by
  obtain ⟨k, hk, h⟩ := h
  have hi20 := ((hv t ht).2.2.2.2.1 k hk).2.1
  rcases h with rfl | ⟨i, hi, rfl⟩
  · exact hi20
  · exact ((hv _ hi20).2.2.2.2.2.1 i hi).2
theorem eNeedsS (cx : eCx B w) (ht : t < 20) (s : Int32) {j : Nat} (hj : j < 20) : ∀ n, n ≤ eWs w t → (bt (it (fun i s => s ||| ((1 : Int32) <<< (bSub B (nI t) (nI i) &&& 31))) n s) j = true ↔ (bt s j = true ∨ ∃ i, i < n ∧ eWb w t i = j)) := by
  intro n
  induction n with
  | zero =>
    intro _
    exact ⟨Or.inl, fun h => h.elim id (fun ⟨i, hi, _⟩ => absurd hi (Nat.not_lt_zero i))⟩
  | succ n ih =>
    intro hn
    have hb := ((cx.1 t ht).2.2.2.2.2.1 n (by omega)).2
    rw [it_s, b_or, cx.sub ht (by omega), b_one (by omega) (by omega), Bool.or_eq_true, ih (by omega), decide_eq_true_eq]
    constructor
    · rintro ((h | ⟨i, hi, h⟩) | h)
      · exact Or.inl h
      · exact Or.inr ⟨i, by omega, h⟩
      · exact Or.inr ⟨n, by omega, h⟩
    · rintro (h | ⟨i, hi, h⟩)
      · exact Or.inl (Or.inl h)
      · by_cases e : i = n
        · subst e
          exact Or.inr h
        · exact Or.inl (Or.inr ⟨i, by omega, h⟩)
theorem eNeeds (cx : eCx B w) (ht : t < 20) {j : Nat} (hj : j < 20) : bt (bNeeds B (nI t)) j = true ↔ eNd w t j := by
  have hc5 := (cx.1 t ht).2.1.2
  unfold bNeeds
  rw [cx.ings ht, nI_clamp (by omega)]
  have : ∀ n, n ≤ eWc w t → (bt (it (fun k s => bNeedsS B (bIng B (nI t) (nI k)) (s ||| ((1 : Int32) <<< (bIng B (nI t) (nI k) &&& 31)))) n 0) j = true ↔ ∃ k, k < n ∧ (eWi w t k = j ∨ ∃ i, i < eWs w (eWi w t k) ∧ eWb w (eWi w t k) i = j)) := by
    intro n
    induction n with
    | zero =>
      intro _
      rw [it_zero, b_0]
      exact ⟨fun h => (by cases h), fun ⟨k, hk, _⟩ => absurd hk (Nat.not_lt_zero k)⟩
    | succ n ih =>
      intro hn
      have hi20 := ((cx.1 t ht).2.2.2.2.1 n (by omega)).2.1
      have hs3 := (cx.1 _ hi20).2.2.2.1.2
      rw [it_s, cx.ing ht (by omega)]
      generalize it (fun k s => bNeedsS B (bIng B (nI t) (nI k)) (s ||| ((1 : Int32) <<< (bIng B (nI t) (nI k) &&& 31)))) n 0 = S at ih ⊢
      unfold bNeedsS
      rw [cx.subs hi20, nI_clamp (by omega), eNeedsS cx hi20 _ hj _ (Nat.le_refl _), b_or, b_one (by omega) (by omega), Bool.or_eq_true, ih (by omega), decide_eq_true_eq]
      constructor
      · rintro ((⟨k, hk, h⟩ | h) | h)
        · exact ⟨k, by omega, h⟩
        · exact ⟨n, by omega, Or.inl h⟩
        · exact ⟨n, by omega, Or.inr h⟩
      · rintro ⟨k, hk, h⟩
        by_cases e : k = n
        · subst e
          rcases h with h | h
          · exact Or.inl (Or.inr h)
          · exact Or.inr h
        · exact Or.inl (Or.inl ⟨k, by omega, h⟩)
  exact this _ (Nat.le_refl _)
end
def nMx (w : Nat → Int32) (R : Nat → Nat) (t : Nat) : Nat := it (fun k m => it (fun i m => max (R (eWb w (eWi w t k) i)) m) (eWs w (eWi w t k)) (max (R (eWi w t k)) m)) (eWc w t) 0
def eIsMx (w : Nat → Int32) (R : Nat → Nat) (t m : Nat) : Prop := (∀ j, eNd w t j → R j ≤ m) ∧ (m = 0 ∨ ∃ j, eNd w t j ∧ R j = m)
theorem eIsMx_u {w : Nat → Int32} {R : Nat → Nat} {t m m' : Nat} (h : eIsMx w R t m) (h' : eIsMx w R t m') : m = m' := by
  have a : m ≤ m' := by
    rcases h.2 with rfl | ⟨j, hj, rfl⟩
    · exact Nat.zero_le _
    · exact h'.1 j hj
  have b : m' ≤ m := by
    rcases h'.2 with rfl | ⟨j, hj, rfl⟩
    · exact Nat.zero_le _
    · exact h.1 j hj
  omega
theorem nMx_s {R : Nat → Nat} {g : Nat → Nat} (m0 : Nat) : ∀ n, (∀ i, i < n → R (g i) ≤ it (fun i m => max (R (g i)) m) n m0) ∧ m0 ≤ it (fun i m => max (R (g i)) m) n m0 ∧ (it (fun i m => max (R (g i)) m) n m0 = m0 ∨ ∃ i, i < n ∧ R (g i) = it (fun i m => max (R (g i)) m) n m0) := by
  intro n
  induction n with
  | zero => exact ⟨fun i hi => absurd hi (Nat.not_lt_zero i), Nat.le_refl _, Or.inl rfl⟩
  | succ n ih =>
    rw [it_s]
    generalize it (fun i m => max (R (g i)) m) n m0 = x at ih ⊢
    obtain ⟨h1, h2, h3⟩ := ih
    refine ⟨fun i hi => ?_, by omega, ?_⟩
    · by_cases e : i = n
      · subst e
        omega
      · have := h1 i (by omega)
        omega
    · rcases Nat.le_total (R (g n)) x with h | h
      · rw [Nat.max_eq_right h]
        rcases h3 with h3 | ⟨i, hi, h3⟩
        · exact Or.inl h3
        · exact Or.inr ⟨i, by omega, h3⟩
      · rw [Nat.max_eq_left h]
        exact Or.inr ⟨n, by omega, rfl⟩
theorem nMx_is (w : Nat → Int32) (R : Nat → Nat) (t : Nat) : eIsMx w R t (nMx w R t) := by
  unfold nMx
  have : ∀ n, (∀ k, k < n → R (eWi w t k) ≤ it (fun k m => it (fun i m => max (R (eWb w (eWi w t k) i)) m) (eWs w (eWi w t k)) (max (R (eWi w t k)) m)) n 0 ∧ ∀ i, i < eWs w (eWi w t k) → R (eWb w (eWi w t k) i) ≤ it (fun k m => it (fun i m => max (R (eWb w (eWi w t k) i)) m) (eWs w (eWi w t k)) (max (R (eWi w t k)) m)) n 0) ∧
      (it (fun k m => it (fun i m => max (R (eWb w (eWi w t k) i)) m) (eWs w (eWi w t k)) (max (R (eWi w t k)) m)) n 0 = 0 ∨ ∃ k, k < n ∧ (R (eWi w t k) = it (fun k m => it (fun i m => max (R (eWb w (eWi w t k) i)) m) (eWs w (eWi w t k)) (max (R (eWi w t k)) m)) n 0 ∨ ∃ i, i < eWs w (eWi w t k) ∧ R (eWb w (eWi w t k) i) = it (fun k m => it (fun i m => max (R (eWb w (eWi w t k) i)) m) (eWs w (eWi w t k)) (max (R (eWi w t k)) m)) n 0)) := by
    intro n
    induction n with
    | zero => exact ⟨fun k hk => absurd hk (Nat.not_lt_zero k), Or.inl rfl⟩
    | succ n ih =>
      rw [it_s]
      generalize it (fun k m => it (fun i m => max (R (eWb w (eWi w t k) i)) m) (eWs w (eWi w t k)) (max (R (eWi w t k)) m)) n 0 = x at ih ⊢
      obtain ⟨h1, h2⟩ := ih
      have hs := nMx_s (R := R) (g := fun i => eWb w (eWi w t n) i) (max (R (eWi w t n)) x) (eWs w (eWi w t n))
      generalize it (fun i m => max (R (eWb w (eWi w t n) i)) m) (eWs w (eWi w t n)) (max (R (eWi w t n)) x) = y at hs ⊢
      obtain ⟨g1, g2, g3⟩ := hs
      refine ⟨fun k hk => ?_, ?_⟩
      · by_cases e : k = n
        · subst e
          exact ⟨by omega, g1⟩
        · obtain ⟨a, b⟩ := h1 k (by omega)
          exact ⟨by omega, fun i hi => by have := b i hi; omega⟩
      · rcases g3 with g3 | ⟨i, hi, g3⟩
        · rcases Nat.le_total (R (eWi w t n)) x with h | h
          · rw [Nat.max_eq_right h] at g3
            rw [g3]
            rcases h2 with h2 | ⟨k, hk, h2⟩
            · exact Or.inl h2
            · exact Or.inr ⟨k, by omega, h2⟩
          · rw [Nat.max_eq_left h] at g3
            exact Or.inr ⟨n, by omega, Or.inl g3.symm⟩
        · exact Or.inr ⟨n, by omega, Or.inr ⟨i, hi, g3⟩⟩
  obtain ⟨h1, h2⟩ := this (eWc w t)
  refine ⟨fun j hj => ?_, ?_⟩
  · obtain ⟨k, hk, h⟩ := hj
    rcases h with rfl | ⟨i, hi, rfl⟩
    · exact (h1 k hk).1
    · exact (h1 k hk).2 i hi
  · rcases h2 with h2 | ⟨k, hk, h | ⟨i, hi, h⟩⟩
    · exact Or.inl h2
    · exact Or.inr ⟨_, ⟨k, hk, Or.inl rfl⟩, h⟩
    · exact Or.inr ⟨_, ⟨k, hk, Or.inr ⟨i, hi, rfl⟩⟩, h⟩
theorem mMax_n {a b : Nat} (ha : a < 2 ^ 31) (hb : b < 2 ^ 31) : mMax (nI a) (nI b) = nI (max a b) := by
  unfold mMax
  by_cases c : nI a ≤ nI b
  · rw [if_pos c, Nat.max_eq_right ((nI_leI ha hb).mp c)]
  · rw [if_neg c, Nat.max_eq_left]
    rcases Nat.lt_or_ge a b with h | h
    · exact absurd (nI_le (by omega) hb) c
    · exact h
theorem cMax_n {a b : Nat} (ha : a < 2 ^ 31) (hb : b < 2 ^ 31) : cMax (nI a) (nI b) = nI (max a b) := by
  unfold cMax
  by_cases c : nI a < nI b
  · rw [if_pos c, Nat.max_eq_right (by have := (nI_ltI ha hb).mp c; omega)]
  · rw [if_neg c, Nat.max_eq_left]
    rcases Nat.lt_or_ge a b with h | h
    · exact absurd (nI_lt h hb) c
    · exact h
/-- a row of ranks by its numbers -/
def eRn (v : Nat → Int32) (R : Nat → Nat) (b : Nat) : Prop := ∀ t, t < 20 → v t = nI (R t) ∧ R t ≤ b
theorem mRkI_n {w v : Nat → Int32} {R : Nat → Nat} {b p m : Nat} (hv : eVal w) (hR : eRn v R b) (hb : b ≤ 1000000) (hp : p < 20) (hm : m ≤ b) : ∀ n, n ≤ eWs w p → mRkI w v p (nI m) n = nI (it (fun i m => max (R (eWb w p i)) m) n m) ∧ it (fun i m => max (R (eWb w p i)) m) n m ≤ b := by
  intro n
  unfold mRkI
  induction n with
  | zero => exact fun _ => ⟨rfl, hm⟩
  | succ n ih =>
    intro hn
    obtain ⟨i1, i2⟩ := ih (by omega)
    obtain ⟨e, h20⟩ := (hv p hp).2.2.2.2.2.1 n (by omega)
    obtain ⟨r1, r2⟩ := hR _ h20
    rw [it_s, it_s, i1]
    rw [e, nI_clamp (by omega), r1, mMax_n (by omega) (by omega)]
    exact ⟨rfl, by omega⟩
theorem mRk_n {w v : Nat → Int32} {R : Nat → Nat} {b t : Nat} (hv : eVal w) (hR : eRn v R b) (hb : b ≤ 1000000) (ht : t < 20) : mRk w v t = nI (nMx w R t) ∧ nMx w R t ≤ b := by
  obtain ⟨h8, hc5⟩ := (hv t ht).2.1
  unfold mRk nMx
  rw [h8, nI_clamp (by omega)]
  have : ∀ n, n ≤ eWc w t → it (mRkS w v t) n 0 = nI (it (fun k m => it (fun i m => max (R (eWb w (eWi w t k) i)) m) (eWs w (eWi w t k)) (max (R (eWi w t k)) m)) n 0) ∧ it (fun k m => it (fun i m => max (R (eWb w (eWi w t k) i)) m) (eWs w (eWi w t k)) (max (R (eWi w t k)) m)) n 0 ≤ b := by
    intro n
    induction n with
    | zero => exact fun _ => ⟨rfl, Nat.zero_le _⟩
    | succ n ih =>
      intro hn
      obtain ⟨i1, i2⟩ := ih (by omega)
      obtain ⟨e, h20, -⟩ := (hv t ht).2.2.2.2.1 n (by omega)
      obtain ⟨r1, r2⟩ := hR _ h20
      obtain ⟨e19, s3⟩ := (hv _ h20).2.2.2.1
      rw [it_s, it_s, i1]
      unfold mRkS
      rw [e, nI_clamp (by omega), r1, mMax_n (by omega) (by omega), e19, nI_clamp (by omega)]
      exact mRkI_n hv hR hb h20 (by omega) _ (Nat.le_refl _)
  exact this _ (Nat.le_refl _)
def nRk (w : Nat → Int32) (R : Nat → Nat) (t : Nat) : Nat := if eWy w t = 0 then 0 else nMx w R t + 1
theorem mRank_n {w v : Nat → Int32} {R : Nat → Nat} {b t : Nat} (hv : eVal w) (hR : eRn v R b) (hb : b ≤ 1000000) (ht : t < 20) : mRank w v t = nI (nRk w R t) ∧ nRk w R t ≤ b + 1 := by
  obtain ⟨h1, h2⟩ := mRk_n hv hR hb ht
  unfold mRank nRk
  rw [hv.made ht, h1]
  by_cases e : eWy w t = 0
  · rw [if_pos e, if_pos rfl, if_pos e]
    exact ⟨rfl, by omega⟩
  · rw [if_neg e, if_neg (by decide), if_neg e, nI_1]
    exact ⟨rfl, by omega⟩
theorem eGri {B : Nat → Nat → Int32} {w : Nat → Int32} {R : Nat → Nat} {b t : Nat} (cx : eCx B w) (hR : eRn (B 8) R b) (hb : b ≤ 1000000) (ht : t < 20) : bGri B (bNeeds B (nI t)) = nI (nMx w R t) := by
  unfold bGri
  have : ∀ n, n ≤ 20 → ∃ m, it (fun i g => if cHasBit (bNeeds B (nI t)) (nI i) = 0 then g else cMax g (bRank B (nI i))) n 0 = nI m ∧ m ≤ b ∧ (∀ j, j < n → eNd w t j → R j ≤ m) ∧ (m = 0 ∨ ∃ j, eNd w t j ∧ R j = m) := by
    intro n
    induction n with
    | zero => exact fun _ => ⟨0, rfl, Nat.zero_le _, fun j hj => absurd hj (Nat.not_lt_zero j), Or.inl rfl⟩
    | succ n ih =>
      intro hn
      obtain ⟨m, e, hm, h1, h2⟩ := ih (by omega)
      rw [it_s, e, cHasBit_b (by omega)]
      have hb2 := eNeeds cx ht (show n < 20 by omega)
      obtain ⟨r1, r2⟩ := hR n (by omega)
      by_cases c : bt (bNeeds B (nI t)) n = true
      · rw [if_pos c, if_neg (by decide)]
        have er : bRank B (nI n) = nI (R n) := (eAt (by omega) (by decide)).trans r1
        rw [er, cMax_n (by omega) (by omega)]
        refine ⟨_, rfl, by omega, fun j hj hnd => ?_, ?_⟩
        · by_cases e2 : j = n
          · subst e2
            omega
          · have := h1 j (by omega) hnd
            omega
        · rcases Nat.le_total m (R n) with h | h
          · rw [Nat.max_eq_right h]
            exact Or.inr ⟨n, hb2.mp c, rfl⟩
          · rw [Nat.max_eq_left h]
            exact h2
      · rw [if_neg c, if_pos rfl]
        refine ⟨m, rfl, hm, fun j hj hnd => ?_, h2⟩
        by_cases e2 : j = n
        · subst e2
          exact absurd (hb2.mpr hnd) c
        · exact h1 j (by omega) hnd
  obtain ⟨m, e, -, h1, h2⟩ := this 20 (Nat.le_refl _)
  rw [e, eIsMx_u (m := m) (m' := nMx w R t) ⟨fun j hj => h1 j (eNd_lt cx.1 ht hj) hj, h2⟩ (nMx_is w R t)]
theorem eCx.up8 {B : Nat → Nat → Int32} {w v : Nat → Int32} (cx : eCx B w) : eCx (va_up B 8 v) w := by
  refine ⟨cx.1, fun t ht => ?_⟩
  simp (disch := omega) only [zup_ne, zup_eq, upd_ne, upd_eq]
  exact cx.2 t ht
theorem frRank_n {B : Nat → Nat → Int32} {w v : Nat → Int32} {R : Nat → Nat} {b t : Nat} (cx : eCx B w) (hR : eRn v R b) (hb : b ≤ 1000000) (ht : t < 20) : frRank (va_up B 8 v) t = nI (nRk w R t) := by
  have hR' : eRn (va_up B 8 v 8) R b := by
    rw [zup_eq]
    exact hR
  unfold frRank nRk
  rw [cx.up8.made ht]
  by_cases e : eWy w t = 0
  · rw [if_pos e, if_pos rfl, if_pos e]
    rfl
  · rw [if_neg e, if_neg (by decide), if_neg e, eGri cx.up8 hR' hb ht, show (1 : Int32) = nI 1 from rfl, nI_add, Nat.add_comm]
def nRnd (w : Nat → Int32) (R : Nat → Nat) : Nat → Nat → Nat := fun n => it (fun t R => va_up R t (nRk w R t)) n R
def nRs (w : Nat → Int32) (n : Nat) : Nat → Nat := it (fun _ R => nRnd w R 20) n (fun _ => 0)
theorem nRnd_s {w : Nat → Int32} {R : Nat → Nat} {n : Nat} : nRnd w R (n + 1) = va_up (nRnd w R n) n (nRk w (nRnd w R n) n) := rfl
theorem nRs_s {w : Nat → Int32} {n : Nat} : nRs w (n + 1) = nRnd w (nRs w n) 20 := rfl
theorem nRnd_ge {w : Nat → Int32} {R : Nat → Nat} {t : Nat} : ∀ n, n ≤ t → nRnd w R n t = R t := by
  intro n
  induction n with
  | zero => exact fun _ => rfl
  | succ n ih =>
    intro h
    rw [nRnd_s, zup_ne (by omega)]
    exact ih (by omega)
theorem nRnd_lt {w : Nat → Int32} {R : Nat → Nat} {t : Nat} : ∀ n, t < n → nRnd w R n t = nRk w (nRnd w R t) t := by
  intro n
  induction n with
  | zero => exact fun h => absurd h (Nat.not_lt_zero t)
  | succ n ih =>
    intro h
    rw [nRnd_s]
    by_cases e : t = n
    · subst e
      rw [zup_eq]
    · rw [zup_ne e]
      exact ih (by omega)
theorem nRs_at {w : Nat → Int32} {n t : Nat} (ht : t < 20) : nRs w (n + 1) t = nRk w (nRnd w (nRs w n) t) t := nRnd_lt 20 ht
theorem nRs_out {w : Nat → Int32} {t : Nat} (ht : 20 ≤ t) : ∀ n, nRs w n t = 0 := by
  intro n
  induction n with
  | zero => rfl
  | succ n ih =>
    rw [nRs_s, nRnd_ge 20 ht]
    exact ih
theorem nMx_mono {w : Nat → Int32} {R R' : Nat → Nat} (h : ∀ j, R j ≤ R' j) (t : Nat) : nMx w R t ≤ nMx w R' t := by
  rcases (nMx_is w R t).2 with e | ⟨j, hj, e⟩
  · omega
  · have := (nMx_is w R' t).1 j hj
    have := h j
    omega
theorem nRk_mono {w : Nat → Int32} {R R' : Nat → Nat} (h : ∀ j, R j ≤ R' j) (t : Nat) : nRk w R t ≤ nRk w R' t := by
  unfold nRk
  split
  · exact Nat.le_refl _
  · have := nMx_mono (w := w) h t
    omega
theorem nRnd_mono {w : Nat → Int32} {R R' : Nat → Nat} (h : ∀ j, R j ≤ R' j) : ∀ n j, nRnd w R n j ≤ nRnd w R' n j := by
  intro n
  induction n with
  | zero => exact h
  | succ n ih =>
    intro j
    rw [nRnd_s, nRnd_s]
    by_cases e : j = n
    · subst e
      rw [zup_eq, zup_eq]
      exact nRk_mono ih j
    · rw [zup_ne e, zup_ne e]
      exact ih j
theorem nRs_inc {w : Nat → Int32} : ∀ n j, nRs w n j ≤ nRs w (n + 1) j := by
  intro n
  induction n with
  | zero => exact fun j => Nat.zero_le _
  | succ n ih =>
    intro j
    rw [nRs_s, nRs_s (n := n + 1)]
    exact nRnd_mono ih 20 j
theorem nRs_le {w : Nat → Int32} {j : Nat} : ∀ n m, n ≤ m → nRs w n j ≤ nRs w m j := by
  intro n m
  induction m with
  | zero =>
    intro h
    have : n = 0 := by omega
    subst this
    exact Nat.le_refl _
  | succ m ih =>
    intro h
    by_cases e : n = m + 1
    · subst e
      exact Nat.le_refl _
    · exact Nat.le_trans (ih (by omega)) (nRs_inc m j)
/-- a rank that still grows is great -/
theorem nRs_grow {w : Nat → Int32} (hv : eVal w) : ∀ n t, t < 20 → nRs w (n + 1) t = nRs w n t ∨ n + 1 ≤ nRs w (n + 1) t := by
  intro n
  induction n with
  | zero =>
    intro t ht
    rcases Nat.eq_zero_or_pos (nRs w 1 t) with h | h
    · exact Or.inl h
    · exact Or.inr h
  | succ m ihn =>
    intro t
    induction t using Nat.strongRecOn with
    | _ t iht =>
    intro ht
    rw [nRs_at (n := m + 1) ht]
    by_cases he : nRk w (nRnd w (nRs w (m + 1)) t) t = nRs w (m + 1) t
    · exact Or.inl he
    · refine Or.inr ?_
      have he2 : nRk w (nRnd w (nRs w (m + 1)) t) t ≠ nRk w (nRnd w (nRs w m) t) t := by
        rw [← nRs_at (n := m) ht]
        exact he
      have hmono := nMx_mono (w := w) (nRnd_mono (w := w) (nRs_inc (w := w) m) t) t
      unfold nRk at he2 ⊢
      by_cases hy : eWy w t = 0
      · rw [if_pos hy, if_pos hy] at he2
        exact absurd rfl he2
      · rw [if_neg hy, if_neg hy] at he2
        rw [if_neg hy]
        rcases (nMx_is w (nRnd w (nRs w (m + 1)) t) t).2 with e | ⟨j, hj, e⟩
        · omega
        · have h2 := (nMx_is w (nRnd w (nRs w m) t) t).1 j hj
          have hj20 := eNd_lt hv ht hj
          rcases Nat.lt_or_ge j t with h | h
          · rw [nRnd_lt t h, ← nRs_at (by omega)] at e h2
            rcases iht j h (by omega) with h3 | h3
            · omega
            · omega
          · rw [nRnd_ge t h] at e h2
            rcases ihn j hj20 with h3 | h3
            · omega
            · omega
theorem nRs_stable {w : Nat → Int32} {n : Nat} (h : ∀ t, t < 20 → nRs w (n + 1) t = nRs w n t) : ∀ m, n ≤ m → nRs w m = nRs w n := by
  have h1 : nRs w (n + 1) = nRs w n := by
    funext t
    rcases Nat.lt_or_ge t 20 with ht | ht
    · exact h t ht
    · rw [nRs_out ht, nRs_out ht]
  intro m
  induction m with
  | zero =>
    intro h0
    have : n = 0 := by omega
    rw [this]
  | succ m ih =>
    intro hm
    by_cases e : n = m + 1
    · rw [e]
    · rw [nRs_s, ih (by omega)]
      exact h1
theorem nRs_fix {w : Nat → Int32} {n t : Nat} (h : ∀ t, t < 20 → nRs w (n + 1) t = nRs w n t) (ht : t < 20) : nRs w n t = nRk w (nRs w n) t := by
  have e : nRnd w (nRs w n) t = nRs w n := by
    funext j
    rcases Nat.lt_or_ge j t with hj | hj
    · rw [nRnd_lt t hj, ← nRs_at (by omega)]
      exact h j (by omega)
    · exact nRnd_ge t hj
  rw [← h t ht, nRs_at ht, e]
theorem nRs_rk {w : Nat → Int32} {n : Nat} (h : ∀ t, t < 20 → nRs w (n + 1) t = nRs w n t) (h8 : ∀ t, t < 20 → nRs w n t ≤ 8) : eRk w (nRs w n) := by
  intro t ht hy
  have e := nRs_fix h ht
  have h8' := h8 t ht
  unfold nRk at e
  rw [if_neg hy] at e
  have hm := (nMx_is w (nRs w n) t).1
  refine ⟨by omega, h8', fun k hk => ⟨?_, fun i hi => ?_⟩⟩
  · have := hm _ ⟨k, hk, Or.inl rfl⟩
    omega
  · have := hm _ ⟨k, hk, Or.inr ⟨i, hi, rfl⟩⟩
    omega
/-- with ranks that keep their limit the rounds keep it -/
theorem nRs_under {w : Nat → Int32} {r : Nat → Nat} (hv : eVal w) (hr : eRk w r) : ∀ n t, t < 20 → nRs w n t ≤ 8 := by
  have key : ∀ R : Nat → Nat, (∀ t, t < 20 → R t ≤ if eWy w t = 0 then 0 else r t) → ∀ t, t < 20 → nRk w R t ≤ if eWy w t = 0 then 0 else r t := by
    intro R hR t ht
    unfold nRk
    by_cases hy : eWy w t = 0
    · rw [if_pos hy, if_pos hy]
      exact Nat.le_refl _
    · rw [if_neg hy, if_neg hy]
      obtain ⟨r1, -, rn⟩ := hr t ht hy
      rcases (nMx_is w R t).2 with e | ⟨j, hj, e⟩
      · omega
      · have hj20 := eNd_lt hv ht hj
        have h1 := hR j hj20
        have h2 : r j < r t := by
          obtain ⟨k, hk, h⟩ := hj
          rcases h with rfl | ⟨i, hi, rfl⟩
          · exact (rn k hk).1
          · exact (rn k hk).2 i hi
        split at h1 <;> omega
  have rnd : ∀ R : Nat → Nat, (∀ t, t < 20 → R t ≤ if eWy w t = 0 then 0 else r t) → ∀ n, n ≤ 20 → ∀ t, t < 20 → nRnd w R n t ≤ if eWy w t = 0 then 0 else r t := by
    intro R hR n
    induction n with
    | zero => exact fun _ => hR
    | succ n ih =>
      intro hn t ht
      rw [nRnd_s]
      by_cases e : t = n
      · subst e
        rw [zup_eq]
        exact key _ (ih (by omega)) t ht
      · rw [zup_ne e]
        exact ih (by omega) t ht
  have all : ∀ n t, t < 20 → nRs w n t ≤ if eWy w t = 0 then 0 else r t := by
    intro n
    induction n with
    | zero => exact fun t _ => Nat.zero_le _
    | succ n ih => exact rnd _ ih 20 (Nat.le_refl _)
  intro n t ht
  have := all n t ht
  by_cases hy : eWy w t = 0
  · rw [if_pos hy] at this
    omega
  · rw [if_neg hy] at this
    have := (hr t ht hy).2.1
    omega
theorem anyLt_iff {p : Nat → Bool} : ∀ n, anyLt p n = true ↔ ∃ i, i < n ∧ p i = true := by
  intro n
  induction n with
  | zero => exact ⟨fun h => (by cases h), fun ⟨i, hi, _⟩ => absurd hi (Nat.not_lt_zero i)⟩
  | succ n ih =>
    show (anyLt p n || p n) = true ↔ _
    rw [Bool.or_eq_true, ih]
    constructor
    · rintro (⟨i, hi, h⟩ | h)
      · exact ⟨i, by omega, h⟩
      · exact ⟨n, by omega, h⟩
    · rintro ⟨i, hi, h⟩
      by_cases e : i = n
      · subst e
        exact Or.inr h
      · exact Or.inl ⟨i, by omega, h⟩
section
variable {B : Nat → Nat → Int32} {w : Nat → Int32}
theorem frStep_n (cx : eCx B w) {v : Nat → Int32} {R : Nat → Nat} {b : Nat} (hR : eRn v R b) (hb : b ≤ 900000) : ∀ k, k ≤ 20 →
    ((it (frStep B) k (v, 0, false)).2.2 = true ∧ ∃ t, t < 20 ∧ 8 < nRnd w R 20 t) ∨
    ((it (frStep B) k (v, 0, false)).2.2 = false ∧ eRn (it (frStep B) k (v, 0, false)).1 (nRnd w R k) (b + k) ∧ (∀ t, t < k → nRnd w R 20 t ≤ 8) ∧ ((it (frStep B) k (v, 0, false)).2.1 = 0 ↔ ∀ t, t < k → nRnd w R 20 t = R t)) := by
  intro k
  induction k with
  | zero => exact fun _ => Or.inr ⟨rfl, hR, fun t ht => absurd ht (Nat.not_lt_zero t), fun _ t ht => absurd ht (Nat.not_lt_zero t), fun _ => rfl⟩
  | succ k ih =>
    intro hk
    have ih := ih (by omega)
    rw [it_s]
    generalize it (frStep B) k (v, 0, false) = s at ih ⊢
    have e20 : nRnd w R 20 k = nRk w (nRnd w R k) k := nRnd_lt 20 (by omega)
    rcases ih with ⟨h1, h2⟩ | ⟨h1, h2, h3, h4⟩
    · rw [frStep_stick B k s h1]
      exact Or.inl ⟨h1, h2⟩
    · have er := frRank_n cx h2 (show b + k ≤ 1000000 by omega) (show k < 20 by omega)
      have hle := (mRank_n cx.1 h2 (show b + k ≤ 1000000 by omega) (show k < 20 by omega)).2
      unfold frStep
      rw [if_neg (by rw [h1]; decide), er]
      by_cases c : nRk w (nRnd w R k) k ≤ 8
      · rw [if_pos (show nI (nRk w (nRnd w R k) k) ≤ 8 from nI_le (b := 8) c (by decide)), eAt (by omega) (by decide), (h2 k (by omega)).1, nRnd_ge k (Nat.le_refl _)]
        have hRk := (hR k (by omega)).2
        have h8 : ∀ t, t < k + 1 → nRnd w R 20 t ≤ 8 := by
          intro t ht
          by_cases e : t = k
          · subst e
            rw [e20]
            exact c
          · exact h3 t (by omega)
        by_cases c2 : nRk w (nRnd w R k) k = R k
        · rw [if_pos (by rw [c2])]
          refine Or.inr ⟨h1, fun t ht => ?_, h8, ?_⟩
          · rw [nRnd_s]
            by_cases e : t = k
            · subst e
              rw [zup_eq, c2, ← nRnd_ge (w := w) (R := R) t (Nat.le_refl _)]
              obtain ⟨j1, j2⟩ := h2 t ht
              exact ⟨j1, by omega⟩
            · rw [zup_ne e]
              obtain ⟨j1, j2⟩ := h2 t ht
              exact ⟨j1, by omega⟩
          · rw [h4]
            constructor
            · intro h t ht
              by_cases e : t = k
              · subst e
                rw [e20, c2]
              · exact h t (by omega)
            · exact fun h t ht => h t (by omega)
        · rw [if_neg (fun h => c2 ((nI_eq (by omega) (by omega)).mp h))]
          refine Or.inr ⟨rfl, fun t ht => ?_, h8, ?_⟩
          · rw [nRnd_s, ePut (by omega) (by decide)]
            dsimp only
            by_cases e : t = k
            · subst e
              rw [zup_eq, upd_eq]
              exact ⟨rfl, by omega⟩
            · rw [zup_ne e, upd_ne e]
              obtain ⟨j1, j2⟩ := h2 t ht
              exact ⟨j1, by omega⟩
          · constructor
            · intro h
              exact absurd (show (1 : Int32) = 0 from h) (by decide)
            · intro h
              exact absurd ((h k (by omega)).symm.trans e20).symm c2
      · rw [if_neg (show ¬ nI (nRk w (nRnd w R k) k) ≤ 8 from nI_ge (a := 8) (by omega) (by omega))]
        exact Or.inl ⟨rfl, k, by omega, by rw [e20]; omega⟩
theorem frRound_n (cx : eCx B w) : ∀ n, n ≤ 10 →
    ((it (frRound B) n (cFill 20 0 (B 8), none)).2 = none ∧ eRn (it (frRound B) n (cFill 20 0 (B 8), none)).1 (nRs w n) (20 * n) ∧ (∀ t, t < 20 → nRs w n t ≤ 8) ∧ (n = 0 ∨ ∃ t, t < 20 ∧ nRs w n t ≠ nRs w (n - 1) t)) ∨
    ((it (frRound B) n (cFill 20 0 (B 8), none)).2 = some false ∧ ∃ t, t < 20 ∧ 8 < nRs w 12 t) ∨
    ((it (frRound B) n (cFill 20 0 (B 8), none)).2 = some true ∧ ∃ m, m ≤ 12 ∧ eRn (it (frRound B) n (cFill 20 0 (B 8), none)).1 (nRs w m) (20 * 12) ∧ (∀ t, t < 20 → nRs w m t ≤ 8) ∧ ∀ t, t < 20 → nRs w (m + 1) t = nRs w m t) := by
  intro n
  induction n with
  | zero =>
    intro _
    refine Or.inl ⟨rfl, fun t ht => ⟨?_, Nat.le_refl _⟩, fun t _ => Nat.zero_le _, Or.inl rfl⟩
    show cFill 20 0 (B 8) t = _
    unfold cFill
    rw [if_pos ht]
    rfl
  | succ n ih =>
    intro hn
    have ih := ih (by omega)
    rw [it_s]
    generalize it (frRound B) n (cFill 20 0 (B 8), none) = s at ih ⊢
    rcases ih with ⟨h1, h2, h3, -⟩ | ⟨h1, h2⟩ | ⟨h1, h2⟩
    · unfold frRound
      rw [h1]
      have hs := frStep_n cx h2 (show 20 * n ≤ 900000 by omega) 20 (Nat.le_refl _)
      dsimp only
      generalize it (frStep B) 20 (s.1, 0, false) = z at hs ⊢
      rcases hs with ⟨g1, t, ht, g2⟩ | ⟨g1, g2, g3, g4⟩
      · rw [if_pos g1]
        refine Or.inr (Or.inl ⟨rfl, t, ht, ?_⟩)
        have := nRs_le (w := w) (j := t) (n + 1) 12 (by omega)
        rw [nRs_s] at this
        omega
      · rw [if_neg (by rw [g1]; decide)]
        by_cases c : z.2.1 = 0
        · rw [if_pos c]
          refine Or.inr (Or.inr ⟨rfl, n, by omega, fun t ht => ?_, h3, fun t ht => g4.mp c t ht⟩)
          obtain ⟨j1, j2⟩ := g2 t ht
          rw [g4.mp c t ht] at j1
          have := h3 t ht
          exact ⟨j1, by omega⟩
        · rw [if_neg c]
          refine Or.inl ⟨rfl, fun t ht => ?_, g3, Or.inr ?_⟩
          · obtain ⟨j1, j2⟩ := g2 t ht
            exact ⟨j1, by rw [nRs_s]; omega⟩
          · rw [g4] at c
            have : ∃ t, ¬ (t < 20 → nRnd w (nRs w n) 20 t = nRs w n t) := Classical.not_forall.mp c
            obtain ⟨t, ht⟩ := this
            have ht20 : t < 20 := Classical.byContradiction (fun h => ht (fun h2 => absurd h2 h))
            refine ⟨t, ht20, fun h => ht (fun _ => ?_)⟩
            rw [Nat.add_sub_cancel] at h
            exact h
    · rw [frRound_stick B n s (by rw [h1]; exact fun h => by cases h)]
      exact Or.inr (Or.inl ⟨h1, h2⟩)
    · rw [frRound_stick B n s (by rw [h1]; exact fun h => by cases h)]
      exact Or.inr (Or.inr ⟨h1, h2⟩)
/-- the class's ranks are the model's -/
theorem eFind (cx : eCx B w) : (bFindOk B = 1 ∧ (∀ t, t < 20 → (bFind B).1 t = nI (nRs w 12 t) ∧ nRs w 12 t ≤ 8) ∧ eRk w (nRs w 12)) ∨ (bFindOk B = 0 ∧ ∃ t, t < 20 ∧ 8 < nRs w 12 t) := by
  unfold bFindOk bFind
  rcases frRound_n cx 10 (Nat.le_refl _) with ⟨h1, h2, h3, h4⟩ | ⟨h1, h2⟩ | ⟨h1, m, hm, h2, h3, h4⟩
  · exfalso
    rcases h4 with h4 | ⟨t, ht, h4⟩
    · omega
    · rcases nRs_grow cx.1 9 t ht with h5 | h5
      · exact h4 h5
      · have h6 : nRs w (9 + 1) t ≤ 8 := h3 t ht
        omega
  · rw [h1]
    exact Or.inr ⟨if_neg (by decide), h2⟩
  · rw [h1]
    have e := nRs_stable h4 12 hm
    rw [e]
    exact Or.inl ⟨if_pos rfl, fun t ht => ⟨(h2 t ht).1, h3 t ht⟩, nRs_rk h4 h3⟩
theorem eFind_under (cx : eCx B w) {r : Nat → Nat} (hr : eRk w r) : bFindOk B = 1 ∧ (∀ t, t < 20 → (bFind B).1 t = nI (nRs w 12 t) ∧ nRs w 12 t ≤ 8) ∧ eRk w (nRs w 12) := by
  rcases eFind cx with h | ⟨-, t, ht, h⟩
  · exact h
  · have := nRs_under cx.1 hr 12 t ht
    omega
end
theorem b32_t : FP.Core.b32.tails = 8388608 := by decide
theorem b32_e : FP.Core.b32.exps = 256 := by decide
theorem b32_m : FP.Core.b32.qmin = -149 := by decide
theorem b32_M : FP.Core.b32.qmax = 104 := by decide
theorem b32_p : 2 ^ FP.Core.b32.p = 16777216 := by decide
def fBnd (f : FP.Core.Fmt) : FP.Core.Datum → Prop
  | .nan => False
  | .inf _ => True
  | .fin _ c q => c < 2 ^ f.p ∧ q ≤ f.qmax
theorem fBnd_rr (f : FP.Core.Fmt) (h1 : f.qmin ≤ f.qmax) (h2 : f.tails < 2 ^ f.p) (s : Bool) (a b : Nat) (e : Int) : fBnd f (FP.Core.roundRatio f s a b e) := by
  unfold FP.Core.roundRatio
  split
  · exact ⟨Nat.two_pow_pos _, h1⟩
  · unfold FP.Core.roundAt FP.Core.settle FP.Core.bound
    split
    · split
      · rename_i h3 h4
        exact ⟨h3, h4⟩
      · trivial
    · split
      · rename_i h3 h4
        exact ⟨h2, h4⟩
      · trivial
theorem fEnc32 {d : FP.Core.Datum} (h : fBnd FP.Core.b32 d) : FP.Core.encode FP.Core.b32 d < 4294967296 ∧ FP.Core.encode FP.Core.b32 d % 2147483648 ≤ 2139095040 := by
  cases d with
  | nan => exact absurd h id
  | inf s =>
    show FP.Core.assemble FP.Core.b32 s (FP.Core.b32.exps - 1) 0 < _ ∧ FP.Core.assemble FP.Core.b32 s (FP.Core.b32.exps - 1) 0 % _ ≤ _
    unfold FP.Core.assemble
    rw [b32_t, b32_e]
    cases s <;> decide
  | fin s c q =>
    obtain ⟨hc, hq⟩ := h
    rw [b32_p] at hc
    rw [b32_M] at hq
    show (if c < FP.Core.b32.tails then FP.Core.assemble FP.Core.b32 s 0 c else FP.Core.assemble FP.Core.b32 s ((q - FP.Core.b32.qmin).toNat + 1) (c - FP.Core.b32.tails)) < _ ∧ (if c < FP.Core.b32.tails then FP.Core.assemble FP.Core.b32 s 0 c else FP.Core.assemble FP.Core.b32 s ((q - FP.Core.b32.qmin).toNat + 1) (c - FP.Core.b32.tails)) % _ ≤ _
    unfold FP.Core.assemble
    rw [b32_t, b32_e, b32_m]
    have hs : s.toNat ≤ 1 := by cases s <;> decide
    by_cases h2 : c < 8388608
    · rw [if_pos h2]
      omega
    · rw [if_neg h2]
      omega
/-- a whole number other than 0 -/
theorem fEnc_nz {c : Nat} {q : Int} (h0 : c ≠ 0) (hc : c < 16777216) (hq : q ≤ 103) : FP.Core.encode FP.Core.b32 (.fin false c q) < 2139095040 ∧ FP.Core.encode FP.Core.b32 (.fin false c q) ≠ 0 := by
  show (if c < FP.Core.b32.tails then FP.Core.assemble FP.Core.b32 false 0 c else FP.Core.assemble FP.Core.b32 false ((q - FP.Core.b32.qmin).toNat + 1) (c - FP.Core.b32.tails)) < _ ∧ (if c < FP.Core.b32.tails then FP.Core.assemble FP.Core.b32 false 0 c else FP.Core.assemble FP.Core.b32 false ((q - FP.Core.b32.qmin).toNat + 1) (c - FP.Core.b32.tails)) ≠ 0
  unfold FP.Core.assemble
  rw [b32_t, b32_e, b32_m, show false.toNat = 0 from rfl]
  by_cases h2 : c < 8388608
  · rw [if_pos h2]
    omega
  · rw [if_neg h2]
    omega
theorem fDec_nn {n : Nat} (h : n % 2147483648 ≤ 2139095040) : FP.Core.decode FP.Core.b32 n ≠ .nan := by
  unfold FP.Core.decode FP.Core.fieldE FP.Core.fieldT
  rw [b32_t, b32_e]
  split
  · split
    · exact fun h => by cases h
    · omega
  · split <;> exact fun h => by cases h
theorem fDec_fin {n : Nat} (h : n < 2139095040) (h0 : n ≠ 0) : ∃ s c q, FP.Core.decode FP.Core.b32 n = .fin s c q ∧ c ≠ 0 := by
  unfold FP.Core.decode FP.Core.fieldE FP.Core.fieldT
  rw [b32_t, b32_e, if_neg (by omega)]
  split
  · exact ⟨_, _, _, rfl, by omega⟩
  · exact ⟨_, _, _, rfl, by omega⟩
theorem fNear {a b : Nat} (h : b ≤ a) (hb : 0 < b) : FP.Core.nearest a b ≠ 0 := by
  have : 0 < a / b := Nat.div_pos h hb
  unfold FP.Core.nearest
  split
  · omega
  · split <;> omega
theorem fRound_nz {m : Nat} (h0 : 0 < m) (hm : m < 2 ^ 31) : FP.Core.fromInt FP.Core.b32 (m : Int) < 2139095040 ∧ FP.Core.fromInt FP.Core.b32 (m : Int) ≠ 0 := by
  unfold FP.Core.fromInt FP.Core.ofInt
  rw [decide_eq_false (by omega), Int.natAbs_natCast]
  show FP.Core.encode FP.Core.b32 (FP.Core.roundRatio FP.Core.b32 false m 1 0) < _ ∧ FP.Core.encode FP.Core.b32 (FP.Core.roundRatio FP.Core.b32 false m 1 0) ≠ 0
  unfold FP.Core.roundRatio
  rw [if_neg (by omega)]
  have hl : m.log2 ≤ 30 := by
    have := (Nat.log2_lt (by omega)).mpr hm
    omega
  have hs : 2 ^ m.log2 ≤ m := Nat.log2_self_le (by omega)
  have eld : FP.Core.leading m 1 = (m.log2 : Int) := by
    unfold FP.Core.leading
    have e1 : Nat.log2 1 = 0 := by decide
    rw [e1]
    simp only [Nat.one_mul, Int.natCast_zero, Int.sub_zero, Int.toNat_natCast]
    rw [if_pos]
    have : (-(m.log2 : Int)).toNat = 0 := by omega
    rw [this]
    omega
  have hq : FP.Core.quantum FP.Core.b32 m 1 0 = (m.log2 : Int) - 23 := by
    unfold FP.Core.quantum
    rw [eld, b32_m]
    show max (-149 : Int) ((m.log2 : Int) + 0 - ((24 : Nat) - 1)) = _
    omega
  rw [hq]
  unfold FP.Core.roundAt
  have hn : FP.Core.nearest (FP.Core.unitsNum m 0 ((m.log2 : Int) - 23)) (FP.Core.unitsDen 1 0 ((m.log2 : Int) - 23)) ≠ 0 := by
    unfold FP.Core.unitsNum FP.Core.unitsDen
    refine fNear ?_ (by rw [Nat.one_mul]; exact Nat.two_pow_pos _)
    rw [Nat.one_mul]
    have h1 : 2 ^ ((m.log2 : Int) - 23 - 0).toNat ≤ 2 ^ m.log2 := Nat.pow_le_pow_right (by decide) (by omega)
    have h2 : m * 1 ≤ m * 2 ^ (0 - ((m.log2 : Int) - 23)).toNat := Nat.mul_le_mul_left m (Nat.two_pow_pos _)
    omega
  generalize FP.Core.nearest (FP.Core.unitsNum m 0 ((m.log2 : Int) - 23)) (FP.Core.unitsDen 1 0 ((m.log2 : Int) - 23)) = c at hn ⊢
  unfold FP.Core.settle FP.Core.bound
  rw [b32_p, b32_M, b32_t]
  split
  · rename_i h3
    rw [if_pos (by omega)]
    exact fEnc_nz hn h3 (by omega)
  · rw [if_pos (by omega)]
    exact fEnc_nz (by decide) (by decide) (by omega)
theorem fI2f_nn (x : Int32) : (FP.i2f x).toNat % 2147483648 ≤ 2139095040 := by
  have h := fEnc32 (fBnd_rr FP.Core.b32 (by decide) (by decide) (decide (x.toInt < 0)) x.toInt.natAbs 1 0)
  have e : (FP.i2f x).toNat = FP.Core.encode FP.Core.b32 (FP.Core.roundRatio FP.Core.b32 (decide (x.toInt < 0)) x.toInt.natAbs 1 0) := by
    show (UInt32.ofNat _).toNat = _
    rw [UInt32.toNat_ofNat_of_lt' (by exact h.1)]
    rfl
  rw [e]
  exact h.2
theorem fI2f_nz {m : Nat} (h0 : 0 < m) (hm : m < 2 ^ 31) : (FP.i2f (nI m)).toNat < 2139095040 ∧ (FP.i2f (nI m)).toNat ≠ 0 := by
  have h := fRound_nz h0 hm
  have e : (FP.i2f (nI m)).toNat = FP.Core.fromInt FP.Core.b32 (m : Int) := by
    show (UInt32.ofNat (FP.Core.fromInt FP.Core.b32 (nI m).toInt)).toNat = _
    rw [nI_toInt hm, UInt32.toNat_ofNat_of_lt' (by exact Nat.lt_trans h.1 (by decide))]
  rw [e]
  exact h
theorem fDiv_nn {g m : Nat} (h0 : 0 < m) (hm : m < 2 ^ 31) : (FP.fdiv (FP.i2f (nI g)) (FP.i2f (nI m))).toNat % 2147483648 ≤ 2139095040 := by
  have ha := fDec_nn (fI2f_nn (nI g))
  obtain ⟨s, c, q, hb, hc⟩ := fDec_fin (fI2f_nz h0 hm).1 (fI2f_nz h0 hm).2
  have hq : fBnd FP.Core.b32 (FP.Core.quotient FP.Core.b32 (FP.Core.decode FP.Core.b32 (FP.i2f (nI g)).toNat) (FP.Core.decode FP.Core.b32 (FP.i2f (nI m)).toNat)) := by
    rw [hb]
    generalize FP.Core.decode FP.Core.b32 (FP.i2f (nI g)).toNat = d at ha ⊢
    cases d with
    | nan => exact absurd rfl ha
    | inf s => trivial
    | fin s2 c2 q2 =>
      show fBnd FP.Core.b32 (if c = 0 then _ else _)
      rw [if_neg hc]
      exact fBnd_rr FP.Core.b32 (by decide) (by decide) _ _ _ _
  have h := fEnc32 hq
  have e : (FP.fdiv (FP.i2f (nI g)) (FP.i2f (nI m))).toNat = FP.Core.encode FP.Core.b32 (FP.Core.quotient FP.Core.b32 (FP.Core.decode FP.Core.b32 (FP.i2f (nI g)).toNat) (FP.Core.decode FP.Core.b32 (FP.i2f (nI m)).toNat)) := by
    show (UInt32.ofNat _).toNat = _
    rw [UInt32.toNat_ofNat_of_lt' (by exact h.1)]
    rfl
  rw [e]
  exact h.2
theorem vfn32 {x : UInt32} (h : x.toNat % 2147483648 ≤ 2139095040) : vf_n32 x := by
  unfold vf_n32
  rw [UInt32.le_iff_toNat_le, UInt32.toNat_and]
  show x.toNat &&& (2 ^ 31 - 1) ≤ 2139095040
  rw [Nat.and_two_pow_sub_one_eq_mod]
  exact h
/-- the share of two numbers -/
def eShare (g a : Int32) : UInt32 := if a = 0 then FP.fconst0 else FP.fdiv (FP.i2f g) (FP.i2f a)
theorem eShare_nn {g m : Nat} (hm : m < 2 ^ 31) : (eShare (nI g) (nI m)).toNat % 2147483648 ≤ 2139095040 := by
  unfold eShare
  split
  · decide
  · rename_i h
    refine fDiv_nn ?_ hm
    rcases Nat.eq_zero_or_pos m with h0 | h0
    · exact absurd (by rw [h0]; rfl) h
    · exact h0
section
variable {M : ZM} {X : ZX} {Q : State → Prop} {pc : Nat} {ls : List (Option Value)} {st : List Value} {ρ : Nat → Nat} {sh sh' : zSh} {F F' : Nat → Nat → Int32} {P P' : Nat → Nat → Option Nat} {k n : Nat} {r : Option Value}
theorem aw_fconst0 (hd : decode M.1 pc = .ok (.fconst 0, 1)) (kk : AW M X Q (pc + 1) ls (.float FP.fconst0 :: st) ρ sh F P k n) : AW M X Q pc ls st ρ sh F P k n := fun ok e el H locs lsA r hS hl => lv_fconst0 ok.1 ok.2.1 hd (kk ok e el H locs lsA r hS hl)
theorem aw_i2f {x : Int32} (hd : decode M.1 pc = .ok (.i2f, 1)) (kk : AW M X Q (pc + 1) ls (.float (FP.i2f x) :: st) ρ sh F P k n) : AW M X Q pc ls (.int x :: st) ρ sh F P k n := fun ok e el H locs lsA r hS hl => lv_i2f ok.1 ok.2.1 hd (kk ok e el H locs lsA r hS hl)
theorem aw_fdiv {x y : UInt32} (hne : vf_n32 (FP.fdiv x y)) (hd : decode M.1 pc = .ok (.fdiv, 1)) (kk : AW M X Q (pc + 1) ls (.float (FP.fdiv x y) :: st) ρ sh F P k n) : AW M X Q pc ls (.float y :: .float x :: st) ρ sh F P k n := fun ok e el H locs lsA r hS hl => lv_fdiv ok.1 ok.2.1 hd hne (kk ok e el H locs lsA r hS hl)
theorem aw_freturn {v : UInt32} (hret : M.2.2.2.2.2.2.1 = some .float) (hd : decode M.1 pc = .ok (.freturn, 1)) (hk : k ≤ M.2.2.2.2.1 ∧ n ≤ M.2.2.2.2.2.1) (hr : some (.float v) = r) (hsh : sh = sh') (hF : F = F') (hP : P = P') : AW M X (zMQ M X r sh' F' P') pc ls [.float v] ρ sh F P k n := by
  subst hr; subst hsh; subst hF; subst hP
  intro ok e el H locs lsA rr hS hl
  exact W.widen hk.1 hk.2 (W.fret ok.1 ok.2.1 (by rw [ok.2.2.2.2.2.2.1, hret]) (fun t ht hW => ⟨⟨ρ, rfl, e, by rw [ht]; exact rr⟩, hS.F ht⟩) hS.2.2 hd ok.2.2.2.2.2.1)
end
theorem fShare_n {g m : Nat} (h0 : ¬ nI m = 0) (hm : m < 2 ^ 31) : vf_n32 (FP.fdiv (FP.i2f (nI g)) (FP.i2f (nI m))) := by
  refine vfn32 (fDiv_nn ?_ hm)
  rcases Nat.eq_zero_or_pos m with h | h
  · exact absurd (by rw [h]; rfl) h0
  · exact h
theorem nI_le0 {m : Nat} (h : nI m ≤ 0) (hm : m < 2 ^ 31) : nI m = 0 := by
  have := z0m h hm
  rw [this]
  rfl
abbrev mX6_share : ZM := (cX6_share, RX6, wsX6_share, 2, 0, 0, (some .float), 3, yX6_share.name)
set_option maxHeartbeats 1000000 in
set_option maxRecDepth 100000 in
theorem c_X6_share {sh : zSh} {F : Nat → Nat → Int32} {P : Nat → Nat → Option Nat} {χ : Nat} {g s : Nat} (hY : zSys sh P χ) (hg : cSum (F (χ + 21)) 20 = nI g) (hs : cSum (F (χ + 22)) 20 = nI s) (hb : g + s < 2147483648) : zMet yX6_share wsX6_share (2) (0) (0) [.ref χ] sh F P (some (.float (eShare (nI g) (nI (g + s))))) sh F P := by
  refine zMet.of (by decide) rfl (Nat.le_of_ble_eq_true rfl) (by simp [Value.category]) ?_
  intro X ρ
  show AW mX6_share X (zMQ mX6_share X (some (.float (eShare (nI g) (nI (g + s))))) sh F P) 0 [some (.ref χ), none, none] [] ρ sh F P 0 0
  have hinX6 : ∀ w ∈ u_ws RX6 TX6 11, w ∈ wsX6_share := by decide +kernel
  have hinX4 : ∀ w ∈ u_ws RX4 TX4 7, w ∈ wsX6_share := by decide +kernel
  obtain ⟨⟨ts, tp0, tp1, tp2, tp3, tp4, tp5, tp6, tp7, ti, tx⟩, hB, hD, hS, hW, hH, hR, hPl, hIm⟩ := id hY
  have hb0 := hB.1
  have hd0 := hD.1
  obtain ⟨hs0, ⟨sp0, sp1, sp2, sp3, sp4, sp5⟩, sh1, sh2, sh3, sh4, sh5, sh6⟩ := id hS
  have hw0 := hW.1
  have hh0 := hH.1
  have hr0 := hR.1
  refine aw_aload_0 dX6_share_0 ?_
  refine aw_getR fX6_2 (fun _ _ => rfl) (by assumption) hinX6 (by decide +kernel : Cond.fieldLink RX6 22 RX6 (TX6 2).2.1 (TX6 2).2.2.1 ∈ wsX6_share) (by assumption) dX6_share_1 ?_
  refine aw_getRN (q := 2) fX4_1 (fun _ _ => rfl) (by assumption) hinX4 rfl (by assumption) dX6_share_4 ?_
  refine aw_run (zRun_S (c_X6_sum (by assumption) (by decide)) (Or.inl gX6_share_X6_sum) q_X6_sum (by decide) rfl rfl (Nat.le_of_ble_eq_true rfl) dX6_share_7 ⟨Nat.le_refl _, Nat.le_refl _⟩) ?_
  rw [hg]
  refine aw_istore_1 dX6_share_10 ?_
  refine aw_iload_1 dX6_share_11 ?_
  refine aw_aload_0 dX6_share_12 ?_
  refine aw_getR fX6_2 (fun _ _ => rfl) (by assumption) hinX6 (by decide +kernel : Cond.fieldLink RX6 22 RX6 (TX6 2).2.1 (TX6 2).2.2.1 ∈ wsX6_share) (by assumption) dX6_share_13 ?_
  refine aw_getRN (q := 4) fX4_2 (fun _ _ => rfl) (by assumption) hinX4 rfl (by assumption) dX6_share_16 ?_
  refine aw_run (zRun_S (c_X6_sum (by assumption) (by decide)) (Or.inl gX6_share_X6_sum) q_X6_sum (by decide) rfl rfl (Nat.le_of_ble_eq_true rfl) dX6_share_19 ⟨Nat.le_refl _, Nat.le_refl _⟩) ?_
  rw [hs]
  refine aw_iadd dX6_share_22 ?_
  rw [nI_add]
  refine aw_istore_2 dX6_share_23 ?_
  refine aw_iload_2 dX6_share_24 ?_
  refine aw_if_gt (tgt := 30) dX6_share_25 (by decide) (fun c25 => ?_) (fun c25 => ?_)
  · refine aw_iload_1 dX6_share_30 ?_
    refine aw_i2f dX6_share_31 ?_
    refine aw_iload_2 dX6_share_32 ?_
    refine aw_i2f dX6_share_33 ?_
    refine aw_fdiv (fShare_n (fun e => absurd c25 (by rw [e]; decide)) hb) dX6_share_34 ?_
    exact aw_freturn rfl dX6_share_35 ⟨Nat.zero_le _, Nat.zero_le _⟩ (by unfold eShare; rw [if_neg (fun e => absurd c25 (by rw [e]; decide))]) rfl rfl rfl
  · refine aw_fconst0 dX6_share_28 ?_
    exact aw_freturn rfl dX6_share_29 ⟨Nat.zero_le _, Nat.zero_le _⟩ (by unfold eShare; rw [if_pos (nI_le0 (by first | exact Int32.not_lt.mp c25 | exact c25) hb)]) rfl rfl rfl
def eLn (w : Nat → Int32) : Nat → Nat → Nat → Prop
  | 0, u, j => eNd w u j
  | n + 1, u, j => ∃ i, eLn w n u i ∧ eNd w i j
section
variable {B : Nat → Nat → Int32} {w : Nat → Int32} {r : Nat → Nat}
theorem eNd_rk (hv : eVal w) (hr : eRk w r) {i j : Nat} (hi : i < 20) (h : eNd w i j) : r j < r i := by
  have hy : eWy w i ≠ 0 := by
    intro h0
    obtain ⟨k, hk, -⟩ := h
    rw [(hv i hi).2.2.1 h0] at hk
    exact absurd hk (Nat.not_lt_zero k)
  obtain ⟨-, -, hn⟩ := hr i hi hy
  obtain ⟨k, hk, h⟩ := h
  rcases h with rfl | ⟨i2, hi2, rfl⟩
  · exact (hn k hk).1
  · exact (hn k hk).2 i2 hi2
theorem eLn_lt (hv : eVal w) {u : Nat} (hu : u < 20) : ∀ n j, eLn w n u j → j < 20 := by
  intro n
  induction n with
  | zero => exact fun j h => eNd_lt hv hu h
  | succ n ih =>
    rintro j ⟨i, h1, h2⟩
    exact eNd_lt hv (ih i h1) h2
theorem eLn_rk (hv : eVal w) (hr : eRk w r) {u : Nat} (hu : u < 20) : ∀ n j, eLn w n u j → r j + n + 1 ≤ r u := by
  intro n
  induction n with
  | zero => exact fun j h => eNd_rk hv hr hu h
  | succ n ih =>
    rintro j ⟨i, h1, h2⟩
    have a := ih i h1
    have b := eNd_rk hv hr (eLn_lt hv hu n i h1) h2
    omega
theorem bWider_n (cx : eCx B w) (s : Int32) {j : Nat} (hj : j < 20) : ∀ n, n ≤ 20 → (bt (it (fun i w => if cHasBit s (nI i) = 0 then w else w ||| bNeeds B (nI i)) n s) j = true ↔ (bt s j = true ∨ ∃ i, i < n ∧ bt s i = true ∧ eNd w i j)) := by
  intro n
  induction n with
  | zero => exact fun _ => ⟨Or.inl, fun h => h.elim id (fun ⟨i, hi, _⟩ => absurd hi (Nat.not_lt_zero i))⟩
  | succ n ih =>
    intro hn
    have ih := ih (by omega)
    rw [it_s, cHasBit_b (show n < 32 by omega)]
    generalize it (fun i w => if cHasBit s (nI i) = 0 then w else w ||| bNeeds B (nI i)) n s = x at ih ⊢
    by_cases c : bt s n = true
    · rw [if_pos c, if_neg (by decide), b_or, Bool.or_eq_true, ih, eNeeds cx (show n < 20 by omega) hj]
      constructor
      · rintro ((h | ⟨i, hi, h⟩) | h)
        · exact Or.inl h
        · exact Or.inr ⟨i, by omega, h⟩
        · exact Or.inr ⟨n, by omega, c, h⟩
      · rintro (h | ⟨i, hi, h1, h2⟩)
        · exact Or.inl (Or.inl h)
        · by_cases e : i = n
          · subst e
            exact Or.inr h2
          · exact Or.inl (Or.inr ⟨i, by omega, h1, h2⟩)
    · rw [if_neg c, if_pos rfl, ih]
      constructor
      · rintro (h | ⟨i, hi, h⟩)
        · exact Or.inl h
        · exact Or.inr ⟨i, by omega, h⟩
      · rintro (h | ⟨i, hi, h1, h2⟩)
        · exact Or.inl h
        · by_cases e : i = n
          · subst e
            exact absurd h1 c
          · exact Or.inr ⟨i, by omega, h1, h2⟩
theorem bAll_n (cx : eCx B w) {u : Nat} (hu : u < 20) : ∀ n j, j < 20 → (bt (it (fun _ s => bWider B s) n (bNeeds B (nI u))) j = true ↔ ∃ m, m ≤ n ∧ eLn w m u j) := by
  intro n
  induction n with
  | zero =>
    intro j hj
    rw [it_zero, eNeeds cx hu hj]
    exact ⟨fun h => ⟨0, Nat.le_refl _, h⟩, fun ⟨m, hm, h⟩ => by
      have : m = 0 := by omega
      subst this
      exact h⟩
  | succ n ih =>
    intro j hj
    rw [it_s]
    unfold bWider
    rw [bWider_n cx _ hj 20 (Nat.le_refl _)]
    have e : (fun (_ : Nat) (s : Int32) => bWider B s) = fun _ s => it (fun i w => if cHasBit s (nI i) = 0 then w else w ||| bNeeds B (nI i)) 20 s := rfl
    rw [← e, ih j hj]
    constructor
    · rintro (⟨m, hm, h⟩ | ⟨i, hi, h1, h2⟩)
      · exact ⟨m, by omega, h⟩
      · obtain ⟨m, hm, h⟩ := (ih i hi).mp h1
        exact ⟨m + 1, by omega, i, h, h2⟩
    · rintro ⟨m, hm, h⟩
      cases m with
      | zero => exact Or.inl ⟨0, Nat.zero_le _, h⟩
      | succ m =>
        obtain ⟨i, h1, h2⟩ := h
        have hi := eLn_lt cx.1 hu m i h1
        exact Or.inr ⟨i, hi, (ih i hi).mpr ⟨m, by omega, h1⟩, h2⟩
end
def pk1 (M n : Nat) : Nat := n - (n / 2 &&& M)
def pk2 (M n : Nat) : Nat := (n &&& M) + (n / 4 &&& M)
def pk3 (M n : Nat) : Nat := (n + n / 16) &&& M
theorem and_s8 (x y : Nat) : x &&& y = (x % 256 &&& y % 256) + 256 * (x / 256 &&& y / 256) := by
  have h1 : (x &&& y) % 2 ^ 8 = x % 2 ^ 8 &&& y % 2 ^ 8 := Nat.and_mod_two_pow
  have h2 : (x &&& y) / 2 ^ 8 = x / 2 ^ 8 &&& y / 2 ^ 8 := Nat.and_div_two_pow
  have h3 := Nat.div_add_mod (x &&& y) 256
  rw [show (256 : Nat) = 2 ^ 8 from rfl] at h3 ⊢
  omega
theorem pk1_d : ∀ a, a < 256 → ∀ b, b < 2 → (a / 2 + 128 * b &&& 85) = (a / 2 &&& 85) ∧ (a / 2 &&& 85) ≤ a / 2 := by decide +kernel
theorem pk2_d : ∀ a, a < 256 → ∀ b, b < 4 → (a / 4 + 64 * b &&& 51) = (a / 4 &&& 51) := by decide +kernel
theorem pk3_d : ∀ a, a < 69 → ∀ b, b < 5 → (a + a / 16 + 16 * b &&& 15) = (a + a / 16 &&& 15) := by decide +kernel
theorem pk_g0 : ∀ a, a < 256 → pk2 51 (pk1 85 a) ≤ 68 ∧ pk2 51 (pk1 85 a) % 16 ≤ 4 ∧ pk1 85 a < 256 ∧ pk3 15 (pk2 51 (pk1 85 a)) = a % 2 + a / 2 % 2 + a / 2 / 2 % 2 + a / 2 / 2 / 2 % 2 + a / 2 / 2 / 2 / 2 % 2 + a / 2 / 2 / 2 / 2 / 2 % 2 + a / 2 / 2 / 2 / 2 / 2 / 2 % 2 + a / 2 / 2 / 2 / 2 / 2 / 2 / 2 % 2 := by decide +kernel
theorem bit_m {f s : Nat} (h : f < 2) : (f + 2 * s) % 2 = f := by omega
theorem bit_d {f s : Nat} (h : f < 2) : (f + 2 * s) / 2 = s := by omega
theorem pk_g (f0 : Nat) (h0 : f0 < 2) (f1 : Nat) (h1 : f1 < 2) (f2 : Nat) (h2 : f2 < 2) (f3 : Nat) (h3 : f3 < 2) (f4 : Nat) (h4 : f4 < 2) (f5 : Nat) (h5 : f5 < 2) (f6 : Nat) (h6 : f6 < 2) (f7 : Nat) (h7 : f7 < 2) :
    pk2 51 (pk1 85 (f0 + 2 * f1 + 4 * f2 + 8 * f3 + 16 * f4 + 32 * f5 + 64 * f6 + 128 * f7)) ≤ 68 ∧ pk2 51 (pk1 85 (f0 + 2 * f1 + 4 * f2 + 8 * f3 + 16 * f4 + 32 * f5 + 64 * f6 + 128 * f7)) % 16 ≤ 4 ∧ pk1 85 (f0 + 2 * f1 + 4 * f2 + 8 * f3 + 16 * f4 + 32 * f5 + 64 * f6 + 128 * f7) < 256 ∧
      pk3 15 (pk2 51 (pk1 85 (f0 + 2 * f1 + 4 * f2 + 8 * f3 + 16 * f4 + 32 * f5 + 64 * f6 + 128 * f7))) = f0 + f1 + f2 + f3 + f4 + f5 + f6 + f7 := by
  have hl : (f0 + 2 * f1 + 4 * f2 + 8 * f3 + 16 * f4 + 32 * f5 + 64 * f6 + 128 * f7) < 256 := by omega
  obtain ⟨a1, a2, a3, a4⟩ := pk_g0 (f0 + 2 * f1 + 4 * f2 + 8 * f3 + 16 * f4 + 32 * f5 + 64 * f6 + 128 * f7) hl
  refine ⟨a1, a2, a3, ?_⟩
  rw [a4]
  have hh : (f0 + 2 * f1 + 4 * f2 + 8 * f3 + 16 * f4 + 32 * f5 + 64 * f6 + 128 * f7) = f0 + 2 * (f1 + 2 * (f2 + 2 * (f3 + 2 * (f4 + 2 * (f5 + 2 * (f6 + 2 * f7)))))) := by omega
  have e7 : f7 % 2 = f7 := by omega
  rw [hh, bit_m h0, bit_d h0, bit_m h1, bit_d h1, bit_m h2, bit_d h2, bit_m h3, bit_d h3, bit_m h4, bit_d h4, bit_m h5, bit_d h5, bit_m h6, bit_d h6, e7]
theorem pk1_s {M a m : Nat} (ha : a < 256) (hM : M % 256 = 85) : pk1 M (a + 256 * m) = pk1 85 a + 256 * pk1 (M / 256) m := by
  unfold pk1
  rw [and_s8, hM, show (a + 256 * m) / 2 % 256 = a / 2 + 128 * (m % 2) by omega, show (a + 256 * m) / 2 / 256 = m / 2 by omega]
  obtain ⟨d1, d2⟩ := pk1_d a ha (m % 2) (by omega)
  have d3 : (m / 2 &&& M / 256) ≤ m / 2 := Nat.and_le_left
  omega
theorem pk2_s {M a m : Nat} (ha : a < 256) (hM : M % 256 = 51) : pk2 M (a + 256 * m) = pk2 51 a + 256 * pk2 (M / 256) m := by
  unfold pk2
  rw [and_s8, hM, and_s8 ((a + 256 * m) / 4), hM, show (a + 256 * m) / 4 % 256 = a / 4 + 64 * (m % 4) by omega, show (a + 256 * m) / 4 / 256 = m / 4 by omega, show (a + 256 * m) % 256 = a by omega, show (a + 256 * m) / 256 = m by omega, pk2_d a ha (m % 4) (by omega)]
  omega
theorem pk3_s {M a m : Nat} (ha : a ≤ 68) (hm : m % 16 ≤ 4) (hM : M % 256 = 15) : pk3 M (a + 256 * m) = pk3 15 a + 256 * pk3 (M / 256) m := by
  unfold pk3
  rw [and_s8, hM, show (a + 256 * m + (a + 256 * m) / 16) % 256 = a + a / 16 + 16 * (m % 16) by omega, show (a + 256 * m + (a + 256 * m) / 16) / 256 = m + m / 16 by omega, pk3_d a (by omega) (m % 16) (by omega)]
theorem zus_n {n k : Nat} (hn : n < 2 ^ 32) (hk : k < 32) : zus (nI n) (nI k) = nI (n / 2 ^ k) := pk_ushrN hn (nI k) k ((by decide +kernel : ∀ k, k < 32 → (((nI k).toUInt32 &&& Int32.toUInt32 31).toBitVec % 32).toNat = k) k hk)
theorem nI_and (a b : Nat) : nI a &&& nI b = nI (a &&& b) := by
  apply Int32.toBitVec_inj.1
  show BitVec.ofNat 32 a &&& BitVec.ofNat 32 b = BitVec.ofNat 32 (a &&& b)
  apply BitVec.eq_of_getLsbD_eq
  intro i hi
  simp [hi]
theorem nI_or (a b : Nat) : nI a ||| nI b = nI (a ||| b) := by
  apply Int32.toBitVec_inj.1
  show BitVec.ofNat 32 a ||| BitVec.ofNat 32 b = BitVec.ofNat 32 (a ||| b)
  apply BitVec.eq_of_getLsbD_eq
  intro i hi
  simp [hi]
theorem pk_fin {x y z : Nat} (hx : x ≤ 8) (hy : y ≤ 8) (hz : z ≤ 4) : (x + 256 * (y + 256 * z) + (x + 256 * (y + 256 * z)) / 2 ^ 8 + (x + 256 * (y + 256 * z) + (x + 256 * (y + 256 * z)) / 2 ^ 8) / 2 ^ 16) % 2 ^ 6 = x + y + z := by
  have e1 : (x + 256 * (y + 256 * z)) / 2 ^ 8 = y + 256 * z := by omega
  rw [e1]
  have e2 : (x + 256 * (y + 256 * z) + (y + 256 * z)) / 2 ^ 16 = z := by omega
  rw [e2]
  omega
theorem cBits_a {a b c x y z : Nat} (ha : a < 256) (hb : b < 256) (hc : c < 16) (a1 : pk2 51 (pk1 85 a) ≤ 68) (a3 : pk1 85 a < 256) (a4 : pk3 15 (pk2 51 (pk1 85 a)) = x) (b1 : pk2 51 (pk1 85 b) ≤ 68) (b2 : pk2 51 (pk1 85 b) % 16 ≤ 4) (b3 : pk1 85 b < 256) (b4 : pk3 15 (pk2 51 (pk1 85 b)) = y)
    (c1 : pk2 51 (pk1 85 c) ≤ 68) (c2 : pk2 51 (pk1 85 c) % 16 ≤ 4) (c3 : pk1 85 c < 256) (c4 : pk3 15 (pk2 51 (pk1 85 c)) = z) (hx : x ≤ 8) (hy : y ≤ 8) (hz : z ≤ 4) : cBits (nI (a + 256 * (b + 256 * c))) = nI (x + y + z) := by
  have hle : ∀ x y : Nat, (x &&& y) ≤ x := fun x y => Nat.and_le_left
  have e1 : cB1 (nI (a + 256 * (b + 256 * c))) = nI (pk1 1431655765 (a + 256 * (b + 256 * c))) := by
    have hn : a + 256 * (b + 256 * c) < 2 ^ 24 := by omega
    generalize a + 256 * (b + 256 * c) = n at hn ⊢
    unfold cB1 pk1
    rw [show (1 : Int32) = nI 1 from rfl, zus_n (by omega) (by decide), show (1431655765 : Int32) = nI 1431655765 from rfl, nI_and, pk_sub (Nat.le_trans (hle _ _) (Nat.div_le_self _ _))]
  have s1 : pk1 1431655765 (a + 256 * (b + 256 * c)) = pk1 85 a + 256 * (pk1 85 b + 256 * pk1 21845 c) := by rw [pk1_s ha rfl, pk1_s hb rfl]
  have t1 : pk1 21845 c = pk1 85 c := (by decide +kernel : ∀ c, c < 16 → pk1 21845 c = pk1 85 c) c hc
  rw [t1] at s1
  have e2 : ∀ n, n < 2 ^ 24 → cB2 (nI n) = nI (pk2 858993459 n) := by
    intro n hn
    unfold cB2 pk2
    rw [show (2 : Int32) = nI 2 from rfl, zus_n (by omega) (by decide), show (858993459 : Int32) = nI 858993459 from rfl, nI_and, nI_and, nI_add]
  have s2 : pk2 858993459 (pk1 85 a + 256 * (pk1 85 b + 256 * pk1 85 c)) = pk2 51 (pk1 85 a) + 256 * (pk2 51 (pk1 85 b) + 256 * pk2 51 (pk1 85 c)) := by
    rw [pk2_s a3 rfl, pk2_s b3 rfl]
    have := (by decide +kernel : ∀ c, c < 16 → pk2 (858993459 / 256 / 256) (pk1 85 c) = pk2 51 (pk1 85 c)) c hc
    rw [this]
  have e3 : ∀ n, n < 2 ^ 24 → cB3 (nI n) = nI (pk3 252645135 n) := by
    intro n hn
    unfold cB3 pk3
    rw [show (4 : Int32) = nI 4 from rfl, zus_n (by omega) (by decide), nI_add, show (252645135 : Int32) = nI 252645135 from rfl, nI_and]
  have s3 : pk3 252645135 (pk2 51 (pk1 85 a) + 256 * (pk2 51 (pk1 85 b) + 256 * pk2 51 (pk1 85 c))) = pk3 15 (pk2 51 (pk1 85 a)) + 256 * (pk3 15 (pk2 51 (pk1 85 b)) + 256 * pk3 15 (pk2 51 (pk1 85 c))) := by
    rw [pk3_s a1 ?_ rfl, pk3_s b1 ?_ rfl]
    · have := (by decide +kernel : ∀ c, c < 16 → pk3 (252645135 / 256 / 256) (pk2 51 (pk1 85 c)) = pk3 15 (pk2 51 (pk1 85 c))) c hc
      rw [this]
    · exact c2
    · have : (pk2 51 (pk1 85 b) + 256 * pk2 51 (pk1 85 c)) % 16 = pk2 51 (pk1 85 b) % 16 := by omega
      rw [this]
      exact b2
  have hn1 : pk1 85 a + 256 * (pk1 85 b + 256 * pk1 85 c) < 2 ^ 24 := by omega
  have hn2 : pk2 51 (pk1 85 a) + 256 * (pk2 51 (pk1 85 b) + 256 * pk2 51 (pk1 85 c)) < 2 ^ 24 := by omega
  unfold cBits
  rw [e1, s1, e2 _ hn1, s2, e3 _ hn2, s3, a4, b4, c4]
  have hn3 : x + 256 * (y + 256 * z) < 2 ^ 20 := by omega
  have hn4 : (x + 256 * (y + 256 * z)) + (x + 256 * (y + 256 * z)) / 2 ^ 8 < 2 ^ 21 := by omega
  unfold cB5 cB4
  rw [show (8 : Int32) = nI 8 from rfl, zus_n (by omega) (by decide), nI_add, show (16 : Int32) = nI 16 from rfl, zus_n (by omega) (by decide), nI_add, show (63 : Int32) = nI (2 ^ 6 - 1) from rfl, nI_and, Nat.and_two_pow_sub_one_eq_mod, pk_fin hx hy hz]
/-- the bits of a small number, counted -/
theorem cBits_n (f : Nat → Nat) (hf : ∀ i, f i < 2) : cBits (nI (f 0 + 2 * f 1 + 4 * f 2 + 8 * f 3 + 16 * f 4 + 32 * f 5 + 64 * f 6 + 128 * f 7 + 256 * (f 8 + 2 * f 9 + 4 * f 10 + 8 * f 11 + 16 * f 12 + 32 * f 13 + 64 * f 14 + 128 * f 15 + 256 * (f 16 + 2 * f 17 + 4 * f 18 + 8 * f 19 + 16 * 0 + 32 * 0 + 64 * 0 + 128 * 0)))) =
    nI (f 0 + f 1 + f 2 + f 3 + f 4 + f 5 + f 6 + f 7 + (f 8 + f 9 + f 10 + f 11 + f 12 + f 13 + f 14 + f 15) + (f 16 + f 17 + f 18 + f 19 + 0 + 0 + 0 + 0)) := by
  obtain ⟨a1, a2, a3, a4⟩ := pk_g (f 0) (hf 0) (f 1) (hf 1) (f 2) (hf 2) (f 3) (hf 3) (f 4) (hf 4) (f 5) (hf 5) (f 6) (hf 6) (f 7) (hf 7)
  obtain ⟨b1, b2, b3, b4⟩ := pk_g (f 8) (hf 8) (f 9) (hf 9) (f 10) (hf 10) (f 11) (hf 11) (f 12) (hf 12) (f 13) (hf 13) (f 14) (hf 14) (f 15) (hf 15)
  obtain ⟨c1, c2, c3, c4⟩ := pk_g (f 16) (hf 16) (f 17) (hf 17) (f 18) (hf 18) (f 19) (hf 19) 0 (by decide) 0 (by decide) 0 (by decide) 0 (by decide)
  have k0 := hf 0
  have k1 := hf 1
  have k2 := hf 2
  have k3 := hf 3
  have k4 := hf 4
  have k5 := hf 5
  have k6 := hf 6
  have k7 := hf 7
  have k8 := hf 8
  have k9 := hf 9
  have k10 := hf 10
  have k11 := hf 11
  have k12 := hf 12
  have k13 := hf 13
  have k14 := hf 14
  have k15 := hf 15
  have k16 := hf 16
  have k17 := hf 17
  have k18 := hf 18
  have k19 := hf 19
  clear hf
  exact cBits_a (by clear a1 a2 a3 a4 b1 b2 b3 b4 c1 c2 c3 c4; omega) (by clear a1 a2 a3 a4 b1 b2 b3 b4 c1 c2 c3 c4; omega) (by clear a1 a2 a3 a4 b1 b2 b3 b4 c1 c2 c3 c4; omega) a1 a3 a4 b1 b2 b3 b4 c1 c2 c3 c4 (by clear a1 a2 a3 a4 b1 b2 b3 b4 c1 c2 c3 c4; omega) (by clear a1 a2 a3 a4 b1 b2 b3 b4 c1 c2 c3 c4; omega) (by clear a1 a2 a3 a4 b1 b2 b3 b4 c1 c2 c3 c4; omega)
def eSetN (f : Nat → Nat) : Nat → Nat
  | 0 => 0
  | k + 1 => eSetN f k + 2 ^ k * f k
def eCntN (f : Nat → Nat) : Nat → Nat
  | 0 => 0
  | k + 1 => eCntN f k + f k
theorem eSetN_lt {f : Nat → Nat} (hf : ∀ i, f i < 2) : ∀ k, eSetN f k < 2 ^ k := by
  intro k
  induction k with
  | zero => exact Nat.one_pos
  | succ k ih =>
    have h1 := hf k
    have h2 : 2 ^ (k + 1) = 2 ^ k * 2 := Nat.pow_succ 2 k
    have h3 : f k = 0 ∨ f k = 1 := by omega
    show eSetN f k + 2 ^ k * f k < _
    rcases h3 with h3 | h3
    · rw [h3, Nat.mul_zero]
      omega
    · rw [h3, Nat.mul_one]
      omega
theorem eRs_k {R : Nat → Nat → Int32} {k : Nat} {v : Int32} : rSet R k v 0 k = v := by
  unfold rSet
  rw [zup_eq, upd_eq]
theorem eRs_n {R : Nat → Nat → Int32} {k j : Nat} {v : Int32} (h : j ≠ k) : rSet R k v 0 j = R 0 j := by
  unfold rSet
  rw [zup_eq, upd_ne h]
theorem eRs_j {R : Nat → Nat → Int32} {k j : Nat} {v : Int32} (h : j ≠ 0) : rSet R k v j = R j := zup_ne h
theorem eRt_f {R : Nat → Nat → Int32} {k w : Int32} (h : ¬ R 0 5 = 0) : rTell R k w = R := if_neg h
theorem eRt_0 {R : Nat → Nat → Int32} {k w : Int32} (h : R 0 5 = 0) : rTell R k w 0 5 = k ∧ rTell R k w 0 6 = w := by
  unfold rTell
  rw [if_pos h]
  exact ⟨by rw [eRs_n (by decide), eRs_k], eRs_k⟩
def eSame (R R' : Nat → Nat → Int32) : Prop := (∀ j, j ≠ 5 → j ≠ 6 → j ≠ 7 → R' 0 j = R 0 j) ∧ R' 1 = R 1 ∧ R' 2 = R 2
theorem eSame.refl {R : Nat → Nat → Int32} : eSame R R := ⟨fun _ _ _ _ => rfl, rfl, rfl⟩
theorem eSame.trans {A B C : Nat → Nat → Int32} (h : eSame A B) (g : eSame B C) : eSame A C := ⟨fun j a b c => (g.1 j a b c).trans (h.1 j a b c), g.2.1.trans h.2.1, g.2.2.trans h.2.2⟩
theorem eSame.set {R : Nat → Nat → Int32} {k : Nat} {v : Int32} (hk : k = 5 ∨ k = 6 ∨ k = 7) : eSame R (rSet R k v) := ⟨fun j a b c => eRs_n (by omega), eRs_j (by decide), eRs_j (by decide)⟩
def bN (j : Nat) : Nat := if j = 3 ∨ j = 4 then 100 else if j = 6 then 60 else 20
def eBeq (B B' : Nat → Nat → Int32) : Prop := ∀ j t, 1 ≤ j → j ≤ 8 → t < bN j → B' j t = B j t
def eSeq (S S' : Nat → Nat → Int32) : Prop := (∀ j t, 1 ≤ j → j ≤ 6 → t < 20 → S' j t = S j t) ∧ S' 0 6 = S 0 6
theorem eBeq.trans {A B C : Nat → Nat → Int32} (h : eBeq A B) (g : eBeq B C) : eBeq A C := fun j t a b c => (g j t a b c).trans (h j t a b c)
theorem eSeq.trans {A B C : Nat → Nat → Int32} (h : eSeq A B) (g : eSeq B C) : eSeq A C := ⟨fun j t a b c => (g.1 j t a b c).trans (h.1 j t a b c), g.2.trans h.2⟩
theorem eBeq.of {B B' : Nat → Nat → Int32} (h : ∀ j, 1 ≤ j → j ≤ 8 → B' j = B j) : eBeq B B' := fun j t a b _ => by rw [h j a b]
theorem eSeq.of {S S' : Nat → Nat → Int32} (h : ∀ j, j ≤ 6 → S' j = S j) : eSeq S S' := ⟨fun j t a b _ => by rw [h j b], by rw [h 0 (by decide)]⟩
theorem eBeq.copy {B G : Nat → Nat → Int32} : eBeq G (bCopy B G) := by
  intro j t h1 h8 ht
  have : j = 1 ∨ j = 2 ∨ j = 3 ∨ j = 4 ∨ j = 5 ∨ j = 6 ∨ j = 7 ∨ j = 8 := by omega
  unfold bCopy
  rcases this with rfl | rfl | rfl | rfl | rfl | rfl | rfl | rfl
  all_goals simp (disch := omega) only [zup_ne, zup_eq, upd_ne, upd_eq]
  all_goals exact cCopy_in ht
theorem eBk.beq {B B' : Nat → Nat → Int32} {w : Nat → Int32} (h : eBk B w) (hv : eVal w) (e : eBeq B B') : eBk B' w := by
  intro t ht
  obtain ⟨h1, h2, h3, h4, h5, h6⟩ := h t ht
  obtain ⟨-, ⟨-, c5⟩, -, ⟨-, s3⟩, -⟩ := hv t ht
  refine ⟨(e 7 t (by decide) (by decide) ht).trans h1, (e 1 t (by decide) (by decide) ht).trans h2, (e 2 t (by decide) (by decide) ht).trans h3, (e 5 t (by decide) (by decide) ht).trans h4, fun k hk => ⟨(e 3 (t * 5 + k) (by decide) (by decide) (show _ < 100 by omega)).trans (h5 k hk).1, (e 4 (t * 5 + k) (by decide) (by decide) (show _ < 100 by omega)).trans (h5 k hk).2⟩, fun k hk => (e 6 (t * 3 + k) (by decide) (by decide) (show _ < 60 by omega)).trans (h6 k hk)⟩
/-- the recipes and the substitutes are the same -/
def mB7 (w w' : Nat → Int32) : Prop := ∀ t k, t < 20 → k < 23 → 7 ≤ k → w' (23 * t + k) = w (23 * t + k)
theorem mB7.of {w w' : Nat → Int32} (e : mStat w w') : mB7 w w' := fun t k ht hk h7 => e t k ht hk (by omega)
theorem eW_b7 {w w' : Nat → Int32} {t : Nat} (e : mB7 w w') (ht : t < 20) : eWy w' t = eWy w t ∧ eWc w' t = eWc w t ∧ eWs w' t = eWs w t ∧ (∀ k, k < 5 → eWi w' t k = eWi w t k ∧ eWa w' t k = eWa w t k) ∧ ∀ k, k < 3 → eWb w' t k = eWb w t k := by
  unfold eWy eWc eWs eWi eWa eWb
  refine ⟨by rw [e t 7 ht (by decide) (by decide)], by rw [e t 8 ht (by decide) (by decide)], by rw [e t 19 ht (by decide) (by decide)], fun k hk => ⟨by rw [e t (9 + 2 * k) ht (by omega) (by omega)], by rw [e t (9 + 2 * k + 1) ht (by omega) (by omega)]⟩, fun k hk => by rw [e t (20 + k) ht (by omega) (by omega)]⟩
theorem eVal.b7 {w w' : Nat → Int32} (h : eVal w) (e : mB7 w w') (hvs : ∀ t, t < 20 → mVes w' t) : eVal w' := by
  intro t ht
  obtain ⟨h7, h8, hz, h19, hi, hs, hv⟩ := h t ht
  obtain ⟨e7, e8, e19, ei, es⟩ := eW_b7 e ht
  rw [e7, e8, e19]
  refine ⟨⟨by rw [e t 7 ht (by decide) (by decide)]; exact h7.1, h7.2⟩, ⟨by rw [e t 8 ht (by decide) (by decide)]; exact h8.1, h8.2⟩, hz, ⟨by rw [e t 19 ht (by decide) (by decide)]; exact h19.1, h19.2⟩, fun k hk => ?_, fun k hk => ?_, hvs t ht⟩
  · rw [(ei k (by omega)).1, (ei k (by omega)).2, e t (9 + 2 * k) ht (by omega) (by omega), show 23 * t + (9 + 2 * k + 1) = 23 * t + (9 + 2 * k + 1) from rfl, e t (9 + 2 * k + 1) ht (by omega) (by omega)]
    exact hi k hk
  · rw [es k (by omega), e t (20 + k) ht (by omega) (by omega)]
    exact hs k hk
theorem eCx.b7 {B B' : Nat → Nat → Int32} {w w' : Nat → Int32} (h : eCx B w) (e : mB7 w w') (hvs : ∀ t, t < 20 → mVes w' t) (hB : ∀ j, 1 ≤ j → j ≤ 6 → B' j = B j) (h7 : ∀ t, t < 20 → B' 7 t = w' (23 * t + 1)) : eCx B' w' := by
  refine ⟨h.1.b7 e hvs, fun t ht => ?_⟩
  obtain ⟨e7, e8, e19, ei, es⟩ := eW_b7 e ht
  obtain ⟨b7, b1, b2, b5, b3, b6⟩ := h.2 t ht
  have h8 := (h.1 t ht).2.1.2
  have h19 := (h.1 t ht).2.2.2.1.2
  rw [e8, e19, hB 1 (by decide) (by decide), hB 2 (by decide) (by decide), hB 3 (by decide) (by decide), hB 4 (by decide) (by decide), hB 5 (by decide) (by decide), hB 6 (by decide) (by decide)]
  refine ⟨h7 t ht, by rw [e t 7 ht (by decide) (by decide)]; exact b1, by rw [e t 8 ht (by decide) (by decide)]; exact b2, by rw [e t 19 ht (by decide) (by decide)]; exact b5, fun k hk => ?_, fun k hk => ?_⟩
  · rw [e t (9 + 2 * k) ht (by omega) (by omega), e t (9 + 2 * k + 1) ht (by omega) (by omega)]
    exact b3 k hk
  · rw [e t (20 + k) ht (by omega) (by omega)]
    exact b6 k hk
theorem eRk.b7 {w w' : Nat → Int32} {r : Nat → Nat} (h : eRk w r) (hv : eVal w) (e : mB7 w w') : eRk w' r := by
  intro t ht hy
  obtain ⟨e7, e8, e19, ei, es⟩ := eW_b7 e ht
  have h8 := (hv t ht).2.1.2
  obtain ⟨r1, r8, hr⟩ := h t ht (by rw [← e7]; exact hy)
  refine ⟨r1, r8, fun k hk => ?_⟩
  rw [e8] at hk
  have hi20 := ((hv t ht).2.2.2.2.1 k hk).2.1
  obtain ⟨e7', e8', e19', ei', es'⟩ := eW_b7 e hi20
  have h19 := (hv _ hi20).2.2.2.1.2
  rw [(ei k (by omega)).1]
  refine ⟨(hr k hk).1, fun i hi => ?_⟩
  rw [e19'] at hi
  rw [es' i (by omega)]
  exact (hr k hk).2 i hi
theorem nMx_to {w w' : Nat → Int32} (hv : eVal w) (e : mB7 w w') {R : Nat → Nat} {t : Nat} (ht : t < 20) : nMx w' R t = nMx w R t := by
  obtain ⟨h1, h2, h3, h4, h5⟩ := eW_b7 e ht
  obtain ⟨-, ⟨-, c5⟩, -, -, hi, -⟩ := hv t ht
  have hin : ∀ k m, k < eWc w t → it (fun i m => max (R (eWb w' (eWi w' t k) i)) m) (eWs w' (eWi w' t k)) m = it (fun i m => max (R (eWb w (eWi w t k) i)) m) (eWs w (eWi w t k)) m := by
    intro k m hk
    have ek := (h4 k (by omega)).1
    rw [ek]
    obtain ⟨g1, g2, g3, g4, g5⟩ := eW_b7 e (hi k hk).2.1
    obtain ⟨-, -, -, ⟨-, s3⟩, -, -⟩ := hv _ (hi k hk).2.1
    rw [g3]
    have : ∀ n, n ≤ eWs w (eWi w t k) → it (fun i m => max (R (eWb w' (eWi w t k) i)) m) n m = it (fun i m => max (R (eWb w (eWi w t k) i)) m) n m := by
      intro n
      induction n with
      | zero => exact fun _ => by rw [it_zero, it_zero]
      | succ n ih =>
        intro hn
        rw [it_s, it_s, ih (by omega)]
        rw [g5 n (by omega)]
    exact this _ (Nat.le_refl _)
  unfold nMx
  rw [h2]
  have : ∀ n, n ≤ eWc w t → it (fun k m => it (fun i m => max (R (eWb w' (eWi w' t k) i)) m) (eWs w' (eWi w' t k)) (max (R (eWi w' t k)) m)) n 0 = it (fun k m => it (fun i m => max (R (eWb w (eWi w t k) i)) m) (eWs w (eWi w t k)) (max (R (eWi w t k)) m)) n 0 := by
    intro n
    induction n with
    | zero => exact fun _ => by rw [it_zero, it_zero]
    | succ n ih =>
      intro hn
      rw [it_s, it_s, ih (by omega)]
      show it (fun i m => max (R (eWb w' (eWi w' t n) i)) m) (eWs w' (eWi w' t n)) (max (R (eWi w' t n)) _) = it (fun i m => max (R (eWb w (eWi w t n) i)) m) (eWs w (eWi w t n)) (max (R (eWi w t n)) _)
      rw [hin n _ (by omega), (h4 n (by omega)).1]
  exact this _ (Nat.le_refl _)
theorem nRk_to {w w' : Nat → Int32} (hv : eVal w) (e : mB7 w w') {R : Nat → Nat} {t : Nat} (ht : t < 20) : nRk w' R t = nRk w R t := by
  unfold nRk
  rw [(eW_b7 e ht).1, nMx_to hv e ht]
theorem nRnd_z {w : Nat → Int32} {R : Nat → Nat} : nRnd w R 0 = R := rfl
theorem nRs_z {w : Nat → Int32} : nRs w 0 = fun _ => 0 := rfl
theorem nRnd_to {w w' : Nat → Int32} (hv : eVal w) (e : mB7 w w') {R : Nat → Nat} : ∀ n, n ≤ 20 → nRnd w' R n = nRnd w R n := by
  intro n
  induction n with
  | zero => exact fun _ => nRnd_z.trans nRnd_z.symm
  | succ n ih =>
    intro hn
    rw [nRnd_s, nRnd_s, ih (by omega), nRk_to hv e (by omega)]
theorem nRs_to {w w' : Nat → Int32} (hv : eVal w) (e : mB7 w w') : ∀ n, nRs w' n = nRs w n := by
  intro n
  induction n with
  | zero => exact nRs_z.trans nRs_z.symm
  | succ n ih => rw [nRs_s, nRs_s, ih, nRnd_to hv e 20 (Nat.le_refl _)]
theorem mIn_of {x : Int32} (a b : Nat) (ha : a < 2 ^ 31) (hb : b + 1 < 2 ^ 31) : (mIn x (nI a) (nI b) = 0 ∧ (x < nI a ∨ nI b < x)) ∨ ∃ k, a ≤ k ∧ k ≤ b ∧ x = nI k ∧ ¬ mIn x (nI a) (nI b) = 0 := by
  unfold mIn
  by_cases h1 : x < nI a
  · rw [if_pos h1]
    exact Or.inl ⟨rfl, Or.inl h1⟩
  · rw [if_neg h1]
    by_cases h2 : nI b < x
    · rw [if_pos h2]
      exact Or.inl ⟨rfl, Or.inr h2⟩
    · rw [if_neg h2]
      right
      rcases pk_ix x (n := b + 1) (by omega) with h | h | ⟨j, hj, rfl⟩
      · exact absurd (Int32.lt_of_lt_of_le h (nI_pos' ha)) h1
      · exact absurd (Int32.lt_of_lt_of_le (nI_lt (by omega) hb) h) h2
      · exact ⟨j, by
          rcases Nat.lt_or_ge j a with q | q
          · exact absurd (nI_lt q ha) h1
          · exact q, by omega, rfl, by decide⟩
section
variable {N χ : Nat} {sh : zSh} {F : Nat → Nat → Int32} {P : Nat → Nat → Option Nat}
theorem zs0 {F : Nat → Nat → Int32} {b : Nat} : zsub F b 0 = F b := rfl
end
def eVT (w : Nat → Int32) (t : Nat) : Prop := (w (23 * t + 7) = nI (eWy w t) ∧ eWy w t ≤ 20) ∧ (w (23 * t + 8) = nI (eWc w t) ∧ eWc w t ≤ 5) ∧ (eWy w t = 0 → eWc w t = 0) ∧ (w (23 * t + 19) = nI (eWs w t) ∧ eWs w t ≤ 3) ∧
  (∀ k, k < eWc w t → w (23 * t + (9 + 2 * k)) = nI (eWi w t k) ∧ eWi w t k < 20 ∧ w (23 * t + (9 + 2 * k + 1)) = nI (eWa w t k) ∧ 1 ≤ eWa w t k ∧ eWa w t k ≤ 20) ∧ (∀ k, k < eWs w t → w (23 * t + (20 + k)) = nI (eWb w t k) ∧ eWb w t k < 20) ∧ mVes w t
def eBT (B : Nat → Nat → Int32) (w : Nat → Int32) (t : Nat) : Prop := B 7 t = w (23 * t + 1) ∧ B 1 t = w (23 * t + 7) ∧ B 2 t = w (23 * t + 8) ∧ B 5 t = w (23 * t + 19) ∧
  (∀ k, k < eWc w t → B 3 (t * 5 + k) = w (23 * t + (9 + 2 * k)) ∧ B 4 (t * 5 + k) = w (23 * t + (9 + 2 * k + 1))) ∧ ∀ k, k < eWs w t → B 6 (t * 3 + k) = w (23 * t + (20 + k))
theorem eCx.at {B : Nat → Nat → Int32} {w : Nat → Int32} (h : eCx B w) {t : Nat} (ht : t < 20) : eVT w t ∧ eBT B w t := ⟨h.1 t ht, h.2 t ht⟩
theorem eCx.of {B : Nat → Nat → Int32} {w : Nat → Int32} (h : ∀ t, t < 20 → eVT w t ∧ eBT B w t) : eCx B w := ⟨fun t ht => (h t ht).1, fun t ht => (h t ht).2⟩
/-- the row of t is the same -/
def eRow (w w' : Nat → Int32) (t : Nat) : Prop := ∀ k, k < 23 → (k = 1 ∨ 7 ≤ k) → w' (23 * t + k) = w (23 * t + k)
theorem eRow.w {w w' : Nat → Int32} {t : Nat} (e : eRow w w' t) : eWy w' t = eWy w t ∧ eWc w' t = eWc w t ∧ eWs w' t = eWs w t ∧ (∀ k, k < 5 → eWi w' t k = eWi w t k ∧ eWa w' t k = eWa w t k) ∧ ∀ k, k < 3 → eWb w' t k = eWb w t k := by
  unfold eWy eWc eWs eWi eWa eWb
  exact ⟨by rw [e 7 (by decide) (by decide)], by rw [e 8 (by decide) (by decide)], by rw [e 19 (by decide) (by decide)], fun k hk => ⟨by rw [e (9 + 2 * k) (by omega) (by omega)], by rw [e (9 + 2 * k + 1) (by omega) (by omega)]⟩, fun k hk => by rw [e (20 + k) (by omega) (by omega)]⟩
theorem eVT.row {w w' : Nat → Int32} {t : Nat} (h : eVT w t) (e : eRow w w' t) : eVT w' t := by
  obtain ⟨h7, h8, hz, h19, hi, hs, hv⟩ := h
  obtain ⟨e7, e8, e19, ei, es⟩ := e.w
  unfold eVT
  rw [e7, e8, e19]
  refine ⟨⟨by rw [e 7 (by decide) (by decide)]; exact h7.1, h7.2⟩, ⟨by rw [e 8 (by decide) (by decide)]; exact h8.1, h8.2⟩, hz, ⟨by rw [e 19 (by decide) (by decide)]; exact h19.1, h19.2⟩, fun k hk => ?_, fun k hk => ?_, ?_⟩
  · rw [(ei k (by omega)).1, (ei k (by omega)).2, e (9 + 2 * k) (by omega) (by omega), e (9 + 2 * k + 1) (by omega) (by omega)]
    exact hi k hk
  · rw [es k (by omega), e (20 + k) (by omega) (by omega)]
    exact hs k hk
  · unfold mVes at hv ⊢
    rw [e 1 (by decide) (by decide)]
    exact hv
theorem eBT.row {B B' : Nat → Nat → Int32} {w w' : Nat → Int32} {t : Nat} (h : eBT B w t) (hv : eVT w t) (e : eRow w w' t) (h1 : ∀ j, j = 1 ∨ j = 2 ∨ j = 5 ∨ j = 7 → B' j t = B j t) (h3 : ∀ j k, j = 3 ∨ j = 4 → k < 5 → B' j (t * 5 + k) = B j (t * 5 + k)) (h6 : ∀ k, k < 3 → B' 6 (t * 3 + k) = B 6 (t * 3 + k)) : eBT B' w' t := by
  obtain ⟨e7, e8, e19, ei, es⟩ := e.w
  obtain ⟨b7, b1, b2, b5, b3, b6⟩ := h
  have h8 := hv.2.1.2
  have h19 := hv.2.2.2.1.2
  unfold eBT
  rw [e8, e19, h1 7 (by omega), h1 1 (by omega), h1 2 (by omega), h1 5 (by omega)]
  refine ⟨by rw [e 1 (by decide) (by decide)]; exact b7, by rw [e 7 (by decide) (by decide)]; exact b1, by rw [e 8 (by decide) (by decide)]; exact b2, by rw [e 19 (by decide) (by decide)]; exact b5, fun k hk => ?_, fun k hk => ?_⟩
  · rw [e (9 + 2 * k) (by omega) (by omega), e (9 + 2 * k + 1) (by omega) (by omega), h3 3 k (by omega) (by omega), h3 4 k (by omega) (by omega)]
    exact b3 k hk
  · rw [e (20 + k) (by omega) (by omega), h6 k (by omega)]
    exact b6 k hk
/-- fewer needs keep the ranks -/
theorem eRk.less {w w' : Nat → Int32} {r : Nat → Nat} (h : eRk w r) (hv : eVal w) (h1 : ∀ t, t < 20 → eWy w' t ≠ 0 → eWy w t ≠ 0 ∧ eWc w' t = eWc w t ∧ ∀ k, k < 5 → eWi w' t k = eWi w t k) (h2 : ∀ p, p < 20 → ∀ i, i < eWs w' p → ∃ i', i' < eWs w p ∧ eWb w' p i = eWb w p i') : eRk w' r := by
  intro t ht hy
  obtain ⟨y, ec, ei⟩ := h1 t ht hy
  obtain ⟨r1, r8, hr⟩ := h t ht y
  refine ⟨r1, r8, fun k hk => ?_⟩
  rw [ec] at hk
  have c5 := (hv t ht).2.1.2
  have i20 := ((hv t ht).2.2.2.2.1 k hk).2.1
  rw [ei k (by omega)]
  refine ⟨(hr k hk).1, fun i hi => ?_⟩
  obtain ⟨i', hi', e⟩ := h2 _ i20 i hi
  rw [e]
  exact (hr k hk).2 i' hi'
theorem bRemIt {B : Nat → Nat → Int32} {a j : Nat} (ha : a < 20) : ∀ n, j + n < 3 → (∀ q, q ≠ 6 → it (bRemS (nI a) (nI j)) n B q = B q) ∧ ∀ x, it (bRemS (nI a) (nI j)) n B 6 x = if a * 3 + j ≤ x ∧ x < a * 3 + j + n then B 6 (x + 1) else B 6 x := by
  intro n
  induction n with
  | zero =>
    intro _
    rw [it_zero]
    exact ⟨fun _ _ => rfl, fun x => (if_neg (by omega)).symm⟩
  | succ n ih =>
    intro hn
    obtain ⟨i1, i2⟩ := ih (by omega)
    rw [it_s]
    generalize it (bRemS (nI a) (nI j)) n B = C at i1 i2
    have e : bRemS (nI a) (nI j) n C = va_up C 6 (upd (C 6) (a * 3 + (j + n)) (C 6 (a * 3 + (j + (n + 1))))) := by
      unfold bRemS bSub
      rw [nI_add, nI_add, m3, m3, ePut (by omega) (by decide), eAt (by omega) (by decide)]
    rw [e]
    refine ⟨fun q hq => by rw [zup_ne hq]; exact i1 q hq, fun x => ?_⟩
    rw [zup_eq]
    by_cases ex : x = a * 3 + (j + n)
    · subst ex
      rw [upd_eq, i2, if_neg (by omega), if_pos (by omega)]
      exact congrArg (B 6) (by omega)
    · rw [upd_ne ex, i2]
      by_cases c : a * 3 + j ≤ x ∧ x < a * 3 + j + n
      · rw [if_pos c, if_pos (by omega)]
      · rw [if_neg c, if_neg (by omega)]
section
variable {N χ : Nat} {sh : zSh} {F : Nat → Nat → Int32} {P : Nat → Nat → Option Nat}
theorem bLayIt {B R : Nat → Nat → Int32} {a : Nat} (ha : a < 20) (h2 : R 0 2 = nI a) : ∀ n, n ≤ 5 → (∀ q, q ≠ 3 → q ≠ 4 → it (bLayS R) n B q = B q) ∧ (∀ x, it (bLayS R) n B 3 x = if a * 5 ≤ x ∧ x < a * 5 + n then R 1 (x - a * 5) else B 3 x) ∧ ∀ x, it (bLayS R) n B 4 x = if a * 5 ≤ x ∧ x < a * 5 + n then R 2 (x - a * 5) else B 4 x := by
  intro n
  induction n with
  | zero =>
    intro _
    rw [it_zero]
    exact ⟨fun _ _ _ => rfl, fun x => (if_neg (by omega)).symm, fun x => (if_neg (by omega)).symm⟩
  | succ n ih =>
    intro hn
    obtain ⟨i1, i2, i3⟩ := ih (by omega)
    rw [it_s]
    generalize it (bLayS R) n B = C at i1 i2 i3
    have e : bLayS R n C = va_up (va_up C 3 (upd (C 3) (a * 5 + n) (R 1 n))) 4 (upd (C 4) (a * 5 + n) (R 2 n)) := by
      unfold bLayS
      rw [h2, m5, ePut (by omega) (by decide), ePut (by omega) (by decide), eAt (by omega) (by decide), eAt (by omega) (by decide)]
    rw [e]
    refine ⟨fun q h3 h4 => by rw [zup_ne h4, zup_ne h3]; exact i1 q h3 h4, fun x => ?_, fun x => ?_⟩
    · rw [zup_ne (by decide), zup_eq]
      by_cases ex : x = a * 5 + n
      · subst ex
        rw [upd_eq, if_pos (by omega)]
        exact congrArg (R 1) (by omega)
      · rw [upd_ne ex, i2]
        by_cases c : a * 5 ≤ x ∧ x < a * 5 + n
        · rw [if_pos c, if_pos (by omega)]
        · rw [if_neg c, if_neg (by omega)]
    · rw [zup_eq]
      by_cases ex : x = a * 5 + n
      · subst ex
        rw [upd_eq, if_pos (by omega)]
        exact congrArg (R 2) (by omega)
      · rw [upd_ne ex, i3]
        by_cases c : a * 5 ≤ x ∧ x < a * 5 + n
        · rw [if_pos c, if_pos (by omega)]
        · rw [if_neg c, if_neg (by omega)]
end
