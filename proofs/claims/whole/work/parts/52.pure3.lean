/-! ===== 52.pure3: the class's making and the model's, side by side ===== -/
def eOff (j : Nat) : Nat := if j = 2 then 0 else j - 1
theorem eOff_le {j : Nat} (h : j ≤ 7) : eOff j ≤ 6 := by
  unfold eOff
  split <;> omega
theorem eOff_inj {i j : Nat} (hi : 2 ≤ i) (hj : 2 ≤ j) (h : eOff i = eOff j) : i = j := by
  unfold eOff at h
  split at h <;> split at h <;> omega
def eT1 (W : Nat → Nat → Int32) (w : Nat → Int32) : Prop := ∀ j t, 2 ≤ j → j ≤ 7 → t < 20 → W j t = w (23 * t + eOff j)
theorem eT1.add {W : Nat → Nat → Int32} {w : Nat → Int32} {τ j : Nat} {n : Int32} (h : eT1 W w) (hj : 2 ≤ j) (hj7 : j ≤ 7) (hτ : τ < 20) : eT1 (va_up W j (cAdd 20 (W j) (nI τ) n)) (upd w (23 * τ + eOff j) (w (23 * τ + eOff j) + n)) := by
  intro i t hi hi7 ht
  have ho := eOff_le hj7
  have ho2 := eOff_le hi7
  rw [eAdd hτ (by decide)]
  by_cases e : i = j
  · subst e
    rw [zup_eq]
    by_cases e2 : t = τ
    · subst e2
      rw [upd_eq, upd_eq, h i t hi hi7 ht]
    · rw [upd_ne e2, upd_ne (by omega), h i t hi hi7 ht]
  · have e3 : eOff i ≠ eOff j := fun h2 => e (eOff_inj hi hj h2)
    rw [zup_ne e, upd_ne (by omega), h i t hi hi7 ht]
theorem eT1.zero {W : Nat → Nat → Int32} {w : Nat → Int32} {j : Nat} {x : Nat → Int32} (h : eT1 W w) (hj : j < 2) : eT1 (va_up W j x) w := fun i t hi hi7 ht => by
  rw [zup_ne (by omega)]
  exact h i t hi hi7 ht
def eT (q : Int32) (W G : Nat → Nat → Int32) : Prop := eT1 W (G 1) ∧ W 0 3 = G 0 15 ∧ W 0 2 = G 0 16 ∧ W 1 6 = G 1 461 ∧ G 1 460 = q + W 0 4
theorem eT.come {q : Int32} {W G : Nat → Nat → Int32} {τ j : Nat} {n : Int32} (h : eT q W G) (hτ : τ < 20) (hj : 3 ≤ j) (hj7 : j ≤ 7) : eT q (wCome W j (nI τ) n) (mCome G τ n (eOff j)) := by
  obtain ⟨h1, h3, h2, h6, h4⟩ := h
  have ho : eOff j = j - 1 := if_neg (by omega)
  have a1 := h1.add (j := 2) (n := n) (by decide) (by decide) hτ
  have a2 := a1.add (j := j) (n := n) (by omega) hj7 hτ
  rw [zup_ne (show j ≠ 2 by omega), show eOff 2 = 0 from rfl] at a2
  have a3 : eT1 (va_up (va_up W 2 (cAdd 20 (W 2) (nI τ) n)) j (cAdd 20 (W j) (nI τ) n)) (mWcome (G 1) τ n (eOff j)) := a2
  have ec : cAt 20 (cAdd 20 (W 2) (nI τ) n) (nI τ) = mWcome (G 1) τ n (eOff j) (23 * τ + 0) := by
    rw [eAt hτ (by decide)]
    have := a3 2 τ (by decide) (by decide) hτ
    rw [zup_ne (show 2 ≠ j by omega), zup_eq] at this
    exact this
  have hw : ∀ i, 460 ≤ i → mWcome (G 1) τ n (eOff j) i = G 1 i := by
    intro i hi
    unfold mWcome
    rw [upd_ne (by omega), upd_ne (by omega)]
  unfold wCome mCome
  rw [ec]
  by_cases c : mWcome (G 1) τ n (eOff j) (23 * τ + 0) ≤ 99999
  · rw [if_pos c]
    have c' : ¬ 99999 < mWcome (G 1) τ n (eOff j) (23 * τ + 0) := Int32.not_lt.mpr c
    unfold mSetF
    rw [if_neg c']
    refine ⟨?_, ?_, ?_, ?_, ?_⟩
    · simp (disch := omega) only [zup_ne, zup_eq, upd_ne, upd_eq]
      exact a3
    · simp (disch := omega) only [zup_ne, zup_eq, upd_ne, upd_eq]
      exact h3
    · simp (disch := omega) only [zup_ne, zup_eq, upd_ne, upd_eq]
      exact h2
    · simp (disch := omega) only [zup_ne, zup_eq, upd_ne, upd_eq]
      rw [hw _ (by decide)]
      exact h6
    · simp (disch := omega) only [zup_ne, zup_eq, upd_ne, upd_eq]
      rw [hw _ (by decide)]
      exact h4
  · rw [if_neg c]
    have c' : 99999 < mWcome (G 1) τ n (eOff j) (23 * τ + 0) := Int32.not_le.mp c
    unfold mSetF
    rw [if_pos c']
    refine ⟨?_, ?_, ?_, ?_, ?_⟩
    · simp (disch := omega) only [zup_ne, zup_eq, upd_ne, upd_eq]
      exact a3.zero (by decide)
    · simp (disch := omega) only [zup_ne, zup_eq, upd_ne, upd_eq]
      exact h3
    · simp (disch := omega) only [zup_ne, zup_eq, upd_ne, upd_eq]
    · simp (disch := omega) only [zup_ne, zup_eq, upd_ne, upd_eq]
      rw [hw _ (by decide)]
      exact h6
    · simp (disch := omega) only [zup_ne, zup_eq, upd_ne, upd_eq]
      rw [hw _ (by decide)]
      exact h4
theorem eT1.use0 {W : Nat → Nat → Int32} {w : Nat → Int32} {τ : Nat} {n : Int32} (h : eT1 W w) (hτ : τ < 20) : eT1 (wUse0 W (nI τ) n) (mWuse w τ n) := by
  have a1 := h.add (j := 2) (n := -n) (by decide) (by decide) hτ
  have a2 := a1.add (j := 5) (n := n) (by decide) (by decide) hτ
  rw [zup_ne (show 5 ≠ 2 by decide), show eOff 2 = 0 from rfl, show eOff 5 = 4 from rfl, ← Int32.sub_eq_add_neg] at a2
  exact a2
theorem eT.use {B : Nat → Nat → Int32} {q : Int32} {W G : Nat → Nat → Int32} {τ : Nat} {m n : Int32} (h : eT q W G) (hτ : τ < 20) (hV : bVes B (nI τ) = G 1 (23 * τ + 1)) (hv : mVes (G 1) τ) (en : wN W (nI τ) m = n) : eT q (wUse B W (nI τ) m) (mUse G τ n) := by
  unfold wUse mUse
  rw [en, mWuse_ves, hV]
  have b : eT q (wUse0 W (nI τ) n) (va_up G 1 (mWuse (G 1) τ n)) := by
    obtain ⟨h1, h3, h2, h6, h4⟩ := h
    have hw : ∀ i, 460 ≤ i → mWuse (G 1) τ n i = G 1 i := by
      intro i hi
      unfold mWuse
      rw [upd_ne (by omega), upd_ne (by omega)]
    refine ⟨?_, ?_, ?_, ?_, ?_⟩
    · rw [zup_eq]
      exact h1.use0 hτ
    · rw [eUse0_f, zup_ne (by decide)]
      exact h3
    · rw [eUse0_f, zup_ne (by decide)]
      exact h2
    · rw [zup_eq, hw _ (by decide)]
      unfold wUse0
      simp (disch := omega) only [zup_ne, zup_eq, upd_ne, upd_eq]
      exact h6
    · rw [zup_eq, hw _ (by decide), eUse0_f]
      exact h4
  by_cases c : G 1 (23 * τ + 1) = -9
  · rw [if_pos c, if_pos c]
    exact b
  · rw [if_neg c, if_neg c]
    obtain ⟨v, hv20, ev⟩ := hv.resolve_left c
    rw [ev, nI_clamp (by omega)]
    have := b.come (j := 6) (n := n) hv20 (by decide) (by decide)
    rw [show eOff 6 = 5 from rfl] at this
    exact this
/-- a use of nothing -/
theorem mUse_0 {G : Nat → Nat → Int32} {τ : Nat} (hv : mVes (G 1) τ) (hb : ∀ t, t < 20 → ∃ a, a ≤ 99999 ∧ G 1 (23 * t + 0) = nI a) : mUse G τ 0 = G := by
  have e : mWuse (G 1) τ 0 = G 1 := by
    unfold mWuse
    rw [Int32.sub_zero, eUpd_same rfl, Int32.add_zero, eUpd_same rfl]
  unfold mUse
  rw [e, va_up_same]
  by_cases c : G 1 (23 * τ + 1) = -9
  · rw [if_pos c]
  · rw [if_neg c]
    obtain ⟨v, hv20, ev⟩ := hv.resolve_left c
    rw [ev, nI_clamp (by omega)]
    obtain ⟨a, ha, ea⟩ := hb v hv20
    unfold mCome
    have e2 : mWcome (G 1) v 0 5 = G 1 := by
      unfold mWcome
      rw [Int32.add_zero, eUpd_same rfl, Int32.add_zero, eUpd_same rfl]
    rw [e2, va_up_same, ea]
    unfold mSetF
    rw [if_neg (show ¬ (99999 : Int32) < nI a from nI_nlt (b := a) (a := 99999) ha (by decide)), va_up_same]
theorem mCome_f {G : Nat → Nat → Int32} {τ k : Nat} {n : Int32} (h : ¬ G 0 16 = 0) : ¬ mCome G τ n k 0 16 = 0 := by
  unfold mCome mSetF
  split
  · simp (disch := omega) only [zup_ne, zup_eq, upd_ne, upd_eq]
    decide
  · simp (disch := omega) only [zup_ne, zup_eq, upd_ne, upd_eq]
    exact h
theorem mUse_f {G : Nat → Nat → Int32} {τ : Nat} {n : Int32} (h : ¬ G 0 16 = 0) : ¬ mUse G τ n 0 16 = 0 := by
  unfold mUse
  split
  · simp (disch := omega) only [zup_ne, zup_eq, upd_ne, upd_eq]
    exact h
  · exact mCome_f (by simp (disch := omega) only [zup_ne, zup_eq, upd_ne, upd_eq]; exact h)
theorem mGath_f {G : Nat → Nat → Int32} {τ : Nat} {n : Int32} (h : ¬ G 0 16 = 0) : ¬ mGath G τ n 0 16 = 0 := by
  unfold mGath
  simp (disch := omega) only [zup_ne, zup_eq, upd_ne, upd_eq]
  exact mCome_f h
theorem mBegin_f {G : Nat → Nat → Int32} {d : Nat} {t n u : Int32} (h : ¬ G 0 16 = 0) : ¬ mBegin G d t n u 0 16 = 0 := by
  unfold mBegin mSetF
  split
  · simp (disch := omega) only [zup_ne, zup_eq, upd_ne, upd_eq]
    decide
  · simp (disch := omega) only [zup_ne, zup_eq, upd_ne, upd_eq]
    exact h
/-! what stays as it was -/
def eK (d : Nat) (G G' : Nat → Nat → Int32) : Prop := (∀ j, j ≠ 0 → j ≠ 1 → (j < 6 ∨ 9 < j) → G' j = G j) ∧ (∀ q, q ≠ 14 → q ≠ 15 → q ≠ 16 → G' 0 q = G 0 q) ∧ (∀ j q, 6 ≤ j → j ≤ 9 → q < d → G' j q = G j q) ∧ mStat (G 1) (G' 1)
theorem eK.refl {d : Nat} {G : Nat → Nat → Int32} : eK d G G := ⟨fun _ _ _ _ => rfl, fun _ _ _ _ => rfl, fun _ _ _ _ _ => rfl, fun _ _ _ _ _ => rfl⟩
theorem eK.trans {d : Nat} {A B C : Nat → Nat → Int32} (h : eK d A B) (g : eK d B C) : eK d A C :=
  ⟨fun j h0 h1 h2 => (g.1 j h0 h1 h2).trans (h.1 j h0 h1 h2), fun q h0 h1 h2 => (g.2.1 q h0 h1 h2).trans (h.2.1 q h0 h1 h2), fun j q h0 h1 h2 => (g.2.2.1 j q h0 h1 h2).trans (h.2.2.1 j q h0 h1 h2), fun t k ht hk hs => (g.2.2.2 t k ht hk hs).trans (h.2.2.2 t k ht hk hs)⟩
theorem eK.less {d e : Nat} {G G' : Nat → Nat → Int32} (h : eK d G G') (he : e ≤ d) : eK e G G' := ⟨h.1, h.2.1, fun j q h0 h1 h2 => h.2.2.1 j q h0 h1 (by omega), h.2.2.2⟩
theorem eK.pres {d : Nat} {G G' : Nat → Nat → Int32} (h : mPres G G') : eK d G G' := ⟨fun j h0 h1 _ => h.1 j (by omega), fun q _ _ h3 => h.2.1 q h3, fun j q h0 _ _ => by rw [h.1 j (by omega)], h.2.2.2⟩
theorem eK.begin {d e : Nat} {G : Nat → Nat → Int32} {t n u : Int32} (he : e ≤ d) : eK e G (mBegin G d t n u) := by
  refine ⟨fun j h0 h1 h2 => ?_, fun q h0 h1 h2 => ?_, fun j q h0 h1 h2 => ?_, fun t k ht hk hs => ?_⟩
  · unfold mBegin
    simp (disch := omega) only [zup_ne, zup_eq, upd_ne, upd_eq]
  · unfold mBegin
    simp (disch := omega) only [zup_ne, zup_eq, upd_ne, upd_eq]
    rw [mSetF_ne h2]
    simp (disch := omega) only [zup_ne, zup_eq, upd_ne, upd_eq]
  · unfold mBegin
    have : j = 6 ∨ j = 7 ∨ j = 8 ∨ j = 9 := by omega
    rcases this with rfl | rfl | rfl | rfl
    all_goals simp (disch := omega) only [zup_ne, zup_eq, upd_ne, upd_eq]
  · unfold mBegin
    simp (disch := omega) only [zup_ne, zup_eq, upd_ne, upd_eq]
/-! moves -/
def eReach (G G' : Nat → Nat → Int32) : Prop := ∃ N, it mLoop N G = G' ∧ ∀ i, i < N → mLive (it mLoop i G) → mVal (it mLoop i G)
theorem eIt_add (a b : Nat) (G : Nat → Nat → Int32) : it mLoop (a + b) G = it mLoop b (it mLoop a G) := by
  induction b with
  | zero => rfl
  | succ b ih =>
    show mLoop (a + b) (it mLoop (a + b) G) = mLoop b (it mLoop b (it mLoop a G))
    rw [ih]
    rfl
theorem eReach.refl {G : Nat → Nat → Int32} : eReach G G := ⟨0, rfl, fun i h => absurd h (Nat.not_lt_zero i)⟩
theorem eReach.trans {A B C : Nat → Nat → Int32} (h : eReach A B) (g : eReach B C) : eReach A C := by
  obtain ⟨N, hN, vN⟩ := h
  obtain ⟨K, hK, vK⟩ := g
  refine ⟨N + K, by rw [eIt_add, hN, hK], fun i hi hl => ?_⟩
  by_cases h : i < N
  · exact vN i h hl
  · obtain ⟨j, rfl⟩ : ∃ j, i = N + j := ⟨i - N, by omega⟩
    rw [eIt_add, hN] at hl ⊢
    exact vK j (by omega) hl
theorem eReach.step {G : Nat → Nat → Int32} (hl : mLive G) (hv : mVal G) : eReach G (mStep G) := by
  refine ⟨1, if_pos hl, fun i hi _ => ?_⟩
  have : i = 0 := by omega
  subst this
  exact hv
/-- the numbers that the claim about a making speaks of -/
def eSt2 (q : Int32) (d : Nat) (G G' V : Nat → Nat → Int32) : Prop := eReach G G' ∧ ((¬ V 0 2 = 0 ∧ ¬ G' 0 16 = 0) ∨ (eT q V G' ∧ G' 0 14 = nI d))
