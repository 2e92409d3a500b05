/-! ===== 60.pure11: the ranks, round by round ===== -/
def nRnd (w : Nat → Int32) (R : Nat → Nat) : Nat → Nat → Nat := fun n => it (fun t R => va_up R t (nRk w R t)) n R
def nRs (w : Nat → Int32) (n : Nat) : Nat → Nat := it (fun _ R => nRnd w R 20) n (fun _ => 0)
theorem nRnd_s {w : Nat → Int32} {R : Nat → Nat} {n : Nat} : nRnd w R (n + 1) = va_up (nRnd w R n) n (nRk w (nRnd w R n) n) := rfl
theorem nRs_s {w : Nat → Int32} {n : Nat} : nRs w (n + 1) = nRnd w (nRs w n) 20 := rfl
theorem nRnd_ge {w : Nat → Int32} {R : Nat → Nat} {t : Nat} : ∀ n, n ≤ t → nRnd w R n t = R t := by
  intro n
  induction n with
  | zero => exact fun _ => rfl
  | succ n ih =>
    intro h
    rw [nRnd_s, zup_ne (by omega)]
    exact ih (by omega)
theorem nRnd_lt {w : Nat → Int32} {R : Nat → Nat} {t : Nat} : ∀ n, t < n → nRnd w R n t = nRk w (nRnd w R t) t := by
  intro n
  induction n with
  | zero => exact fun h => absurd h (Nat.not_lt_zero t)
  | succ n ih =>
    intro h
    rw [nRnd_s]
    by_cases e : t = n
    · subst e
      rw [zup_eq]
    · rw [zup_ne e]
      exact ih (by omega)
theorem nRs_at {w : Nat → Int32} {n t : Nat} (ht : t < 20) : nRs w (n + 1) t = nRk w (nRnd w (nRs w n) t) t := nRnd_lt 20 ht
theorem nRs_out {w : Nat → Int32} {t : Nat} (ht : 20 ≤ t) : ∀ n, nRs w n t = 0 := by
  intro n
  induction n with
  | zero => rfl
  | succ n ih =>
    rw [nRs_s, nRnd_ge 20 ht]
    exact ih
theorem nMx_mono {w : Nat → Int32} {R R' : Nat → Nat} (h : ∀ j, R j ≤ R' j) (t : Nat) : nMx w R t ≤ nMx w R' t := by
  rcases (nMx_is w R t).2 with e | ⟨j, hj, e⟩
  · omega
  · have := (nMx_is w R' t).1 j hj
    have := h j
    omega
theorem nRk_mono {w : Nat → Int32} {R R' : Nat → Nat} (h : ∀ j, R j ≤ R' j) (t : Nat) : nRk w R t ≤ nRk w R' t := by
  unfold nRk
  split
  · exact Nat.le_refl _
  · have := nMx_mono (w := w) h t
    omega
theorem nRnd_mono {w : Nat → Int32} {R R' : Nat → Nat} (h : ∀ j, R j ≤ R' j) : ∀ n j, nRnd w R n j ≤ nRnd w R' n j := by
  intro n
  induction n with
  | zero => exact h
  | succ n ih =>
    intro j
    rw [nRnd_s, nRnd_s]
    by_cases e : j = n
    · subst e
      rw [zup_eq, zup_eq]
      exact nRk_mono ih j
    · rw [zup_ne e, zup_ne e]
      exact ih j
theorem nRs_inc {w : Nat → Int32} : ∀ n j, nRs w n j ≤ nRs w (n + 1) j := by
  intro n
  induction n with
  | zero => exact fun j => Nat.zero_le _
  | succ n ih =>
    intro j
    rw [nRs_s, nRs_s (n := n + 1)]
    exact nRnd_mono ih 20 j
theorem nRs_le {w : Nat → Int32} {j : Nat} : ∀ n m, n ≤ m → nRs w n j ≤ nRs w m j := by
  intro n m
  induction m with
  | zero =>
    intro h
    have : n = 0 := by omega
    subst this
    exact Nat.le_refl _
  | succ m ih =>
    intro h
    by_cases e : n = m + 1
    · subst e
      exact Nat.le_refl _
    · exact Nat.le_trans (ih (by omega)) (nRs_inc m j)
/-- a rank that still grows is great -/
theorem nRs_grow {w : Nat → Int32} (hv : eVal w) : ∀ n t, t < 20 → nRs w (n + 1) t = nRs w n t ∨ n + 1 ≤ nRs w (n + 1) t := by
  intro n
  induction n with
  | zero =>
    intro t ht
    rcases Nat.eq_zero_or_pos (nRs w 1 t) with h | h
    · exact Or.inl h
    · exact Or.inr h
  | succ m ihn =>
    intro t
    induction t using Nat.strongRecOn with
    | _ t iht =>
    intro ht
    rw [nRs_at (n := m + 1) ht]
    by_cases he : nRk w (nRnd w (nRs w (m + 1)) t) t = nRs w (m + 1) t
    · exact Or.inl he
    · refine Or.inr ?_
      have he2 : nRk w (nRnd w (nRs w (m + 1)) t) t ≠ nRk w (nRnd w (nRs w m) t) t := by
        rw [← nRs_at (n := m) ht]
        exact he
      have hmono := nMx_mono (w := w) (nRnd_mono (w := w) (nRs_inc (w := w) m) t) t
      unfold nRk at he2 ⊢
      by_cases hy : eWy w t = 0
      · rw [if_pos hy, if_pos hy] at he2
        exact absurd rfl he2
      · rw [if_neg hy, if_neg hy] at he2
        rw [if_neg hy]
        rcases (nMx_is w (nRnd w (nRs w (m + 1)) t) t).2 with e | ⟨j, hj, e⟩
        · omega
        · have h2 := (nMx_is w (nRnd w (nRs w m) t) t).1 j hj
          have hj20 := eNd_lt hv ht hj
          rcases Nat.lt_or_ge j t with h | h
          · rw [nRnd_lt t h, ← nRs_at (by omega)] at e h2
            rcases iht j h (by omega) with h3 | h3
            · omega
            · omega
          · rw [nRnd_ge t h] at e h2
            rcases ihn j hj20 with h3 | h3
            · omega
            · omega
theorem nRs_stable {w : Nat → Int32} {n : Nat} (h : ∀ t, t < 20 → nRs w (n + 1) t = nRs w n t) : ∀ m, n ≤ m → nRs w m = nRs w n := by
  have h1 : nRs w (n + 1) = nRs w n := by
    funext t
    rcases Nat.lt_or_ge t 20 with ht | ht
    · exact h t ht
    · rw [nRs_out ht, nRs_out ht]
  intro m
  induction m with
  | zero =>
    intro h0
    have : n = 0 := by omega
    rw [this]
  | succ m ih =>
    intro hm
    by_cases e : n = m + 1
    · rw [e]
    · rw [nRs_s, ih (by omega)]
      exact h1
theorem nRs_fix {w : Nat → Int32} {n t : Nat} (h : ∀ t, t < 20 → nRs w (n + 1) t = nRs w n t) (ht : t < 20) : nRs w n t = nRk w (nRs w n) t := by
  have e : nRnd w (nRs w n) t = nRs w n := by
    funext j
    rcases Nat.lt_or_ge j t with hj | hj
    · rw [nRnd_lt t hj, ← nRs_at (by omega)]
      exact h j (by omega)
    · exact nRnd_ge t hj
  rw [← h t ht, nRs_at ht, e]
theorem nRs_rk {w : Nat → Int32} {n : Nat} (h : ∀ t, t < 20 → nRs w (n + 1) t = nRs w n t) (h8 : ∀ t, t < 20 → nRs w n t ≤ 8) : eRk w (nRs w n) := by
  intro t ht hy
  have e := nRs_fix h ht
  have h8' := h8 t ht
  unfold nRk at e
  rw [if_neg hy] at e
  have hm := (nMx_is w (nRs w n) t).1
  refine ⟨by omega, h8', fun k hk => ⟨?_, fun i hi => ?_⟩⟩
  · have := hm _ ⟨k, hk, Or.inl rfl⟩
    omega
  · have := hm _ ⟨k, hk, Or.inr ⟨i, hi, rfl⟩⟩
    omega
/-- with ranks that keep their limit the rounds keep it -/
theorem nRs_under {w : Nat → Int32} {r : Nat → Nat} (hv : eVal w) (hr : eRk w r) : ∀ n t, t < 20 → nRs w n t ≤ 8 := by
  have key : ∀ R : Nat → Nat, (∀ t, t < 20 → R t ≤ if eWy w t = 0 then 0 else r t) → ∀ t, t < 20 → nRk w R t ≤ if eWy w t = 0 then 0 else r t := by
    intro R hR t ht
    unfold nRk
    by_cases hy : eWy w t = 0
    · rw [if_pos hy, if_pos hy]
      exact Nat.le_refl _
    · rw [if_neg hy, if_neg hy]
      obtain ⟨r1, -, rn⟩ := hr t ht hy
      rcases (nMx_is w R t).2 with e | ⟨j, hj, e⟩
      · omega
      · have hj20 := eNd_lt hv ht hj
        have h1 := hR j hj20
        have h2 : r j < r t := by
          obtain ⟨k, hk, h⟩ := hj
          rcases h with rfl | ⟨i, hi, rfl⟩
          · exact (rn k hk).1
          · exact (rn k hk).2 i hi
        split at h1 <;> omega
  have rnd : ∀ R : Nat → Nat, (∀ t, t < 20 → R t ≤ if eWy w t = 0 then 0 else r t) → ∀ n, n ≤ 20 → ∀ t, t < 20 → nRnd w R n t ≤ if eWy w t = 0 then 0 else r t := by
    intro R hR n
    induction n with
    | zero => exact fun _ => hR
    | succ n ih =>
      intro hn t ht
      rw [nRnd_s]
      by_cases e : t = n
      · subst e
        rw [zup_eq]
        exact key _ (ih (by omega)) t ht
      · rw [zup_ne e]
        exact ih (by omega) t ht
  have all : ∀ n t, t < 20 → nRs w n t ≤ if eWy w t = 0 then 0 else r t := by
    intro n
    induction n with
    | zero => exact fun t _ => Nat.zero_le _
    | succ n ih => exact rnd _ ih 20 (Nat.le_refl _)
  intro n t ht
  have := all n t ht
  by_cases hy : eWy w t = 0
  · rw [if_pos hy] at this
    omega
  · rw [if_neg hy] at this
    have := (hr t ht hy).2.1
    omega
/-! the model's rounds -/
theorem mRnd_n {w v : Nat → Int32} {R : Nat → Nat} {b : Nat} (hv : eVal w) (hR : eRn v R b) (hb : b ≤ 900000) : ∀ n, n ≤ 20 → eRn (mRnd w v n) (nRnd w R n) (b + n) := by
  intro n
  induction n with
  | zero => exact fun _ => hR
  | succ n ih =>
    intro hn
    have i1 := ih (by omega)
    intro t ht
    obtain ⟨e, hle⟩ := mRank_n hv i1 (show b + n ≤ 1000000 by omega) (show n < 20 by omega)
    rw [nRnd_s]
    show upd (mRnd w v n) n (mRank w (mRnd w v n) n) t = _ ∧ _
    by_cases e2 : t = n
    · subst e2
      rw [upd_eq, zup_eq, e]
      exact ⟨rfl, by omega⟩
    · rw [upd_ne e2, zup_ne e2]
      obtain ⟨j1, j2⟩ := i1 t ht
      exact ⟨j1, by omega⟩
theorem mRanks_n {w v : Nat → Int32} (hv : eVal w) : ∀ n, n ≤ 100 → eRn (mRanks w v n) (nRs w n) (20 * n) := by
  intro n
  induction n with
  | zero =>
    intro _ t ht
    refine ⟨?_, Nat.le_refl _⟩
    show cFill 20 0 v t = _
    unfold cFill
    rw [if_pos ht]
    rfl
  | succ n ih =>
    intro hn
    have := mRnd_n hv (ih (by omega)) (show 20 * n ≤ 900000 by omega) 20 (Nat.le_refl _)
    intro t ht
    obtain ⟨h1, h2⟩ := this t ht
    exact ⟨h1, by rw [nRs_s]; omega⟩
theorem anyLt_iff {p : Nat → Bool} : ∀ n, anyLt p n = true ↔ ∃ i, i < n ∧ p i = true := by
  intro n
  induction n with
  | zero => exact ⟨fun h => (by cases h), fun ⟨i, hi, _⟩ => absurd hi (Nat.not_lt_zero i)⟩
  | succ n ih =>
    show (anyLt p n || p n) = true ↔ _
    rw [Bool.or_eq_true, ih]
    constructor
    · rintro (⟨i, hi, h⟩ | h)
      · exact ⟨i, by omega, h⟩
      · exact ⟨n, by omega, h⟩
    · rintro ⟨i, hi, h⟩
      by_cases e : i = n
      · subst e
        exact Or.inr h
      · exact Or.inl ⟨i, by omega, h⟩
theorem mBad_n {w v : Nat → Int32} (hv : eVal w) : mBadRank (mRanks w v 12) 20 = true ↔ ∃ t, t < 20 ∧ 8 < nRs w 12 t := by
  unfold mBadRank
  rw [anyLt_iff]
  have h := mRanks_n (v := v) hv 12 (by decide)
  constructor
  · rintro ⟨t, ht, h2⟩
    obtain ⟨e, hle⟩ := h t ht
    refine ⟨t, ht, ?_⟩
    rw [e] at h2
    simp only [Bool.not_eq_true', decide_eq_false_iff_not] at h2
    rcases Nat.lt_or_ge 8 (nRs w 12 t) with h3 | h3
    · exact h3
    · exact absurd (nI_le (b := 8) h3 (by decide)) h2
  · rintro ⟨t, ht, h2⟩
    obtain ⟨e, hle⟩ := h t ht
    refine ⟨t, ht, ?_⟩
    rw [e]
    simp only [Bool.not_eq_true', decide_eq_false_iff_not]
    exact nI_ge (a := 8) h2 (by omega)
/-! the class's rounds -/
section EFIND
variable {B : Nat → Nat → Int32} {w : Nat → Int32}
theorem frStep_n (cx : eCx B w) {v : Nat → Int32} {R : Nat → Nat} {b : Nat} (hR : eRn v R b) (hb : b ≤ 900000) : ∀ k, k ≤ 20 →
    ((it (frStep B) k (v, 0, false)).2.2 = true ∧ ∃ t, t < 20 ∧ 8 < nRnd w R 20 t) ∨
    ((it (frStep B) k (v, 0, false)).2.2 = false ∧ eRn (it (frStep B) k (v, 0, false)).1 (nRnd w R k) (b + k) ∧ (∀ t, t < k → nRnd w R 20 t ≤ 8) ∧ ((it (frStep B) k (v, 0, false)).2.1 = 0 ↔ ∀ t, t < k → nRnd w R 20 t = R t)) := by
  intro k
  induction k with
  | zero => exact fun _ => Or.inr ⟨rfl, hR, fun t ht => absurd ht (Nat.not_lt_zero t), fun _ t ht => absurd ht (Nat.not_lt_zero t), fun _ => rfl⟩
  | succ k ih =>
    intro hk
    have ih := ih (by omega)
    rw [it_s]
    generalize it (frStep B) k (v, 0, false) = s at ih ⊢
    have e20 : nRnd w R 20 k = nRk w (nRnd w R k) k := nRnd_lt 20 (by omega)
    rcases ih with ⟨h1, h2⟩ | ⟨h1, h2, h3, h4⟩
    · rw [frStep_stick B k s h1]
      exact Or.inl ⟨h1, h2⟩
    · have er := frRank_n cx h2 (show b + k ≤ 1000000 by omega) (show k < 20 by omega)
      have hle := (mRank_n cx.1 h2 (show b + k ≤ 1000000 by omega) (show k < 20 by omega)).2
      unfold frStep
      rw [if_neg (by rw [h1]; decide), er]
      by_cases c : nRk w (nRnd w R k) k ≤ 8
      · rw [if_pos (show nI (nRk w (nRnd w R k) k) ≤ 8 from nI_le (b := 8) c (by decide)), eAt (by omega) (by decide), (h2 k (by omega)).1, nRnd_ge k (Nat.le_refl _)]
        have hRk := (hR k (by omega)).2
        have h8 : ∀ t, t < k + 1 → nRnd w R 20 t ≤ 8 := by
          intro t ht
          by_cases e : t = k
          · subst e
            rw [e20]
            exact c
          · exact h3 t (by omega)
        by_cases c2 : nRk w (nRnd w R k) k = R k
        · rw [if_pos (by rw [c2])]
          refine Or.inr ⟨h1, fun t ht => ?_, h8, ?_⟩
          · rw [nRnd_s]
            by_cases e : t = k
            · subst e
              rw [zup_eq, c2, ← nRnd_ge (w := w) (R := R) t (Nat.le_refl _)]
              obtain ⟨j1, j2⟩ := h2 t ht
              exact ⟨j1, by omega⟩
            · rw [zup_ne e]
              obtain ⟨j1, j2⟩ := h2 t ht
              exact ⟨j1, by omega⟩
          · rw [h4]
            constructor
            · intro h t ht
              by_cases e : t = k
              · subst e
                rw [e20, c2]
              · exact h t (by omega)
            · exact fun h t ht => h t (by omega)
        · rw [if_neg (fun h => c2 ((nI_eq (by omega) (by omega)).mp h))]
          refine Or.inr ⟨rfl, fun t ht => ?_, h8, ?_⟩
          · rw [nRnd_s, ePut (by omega) (by decide)]
            dsimp only
            by_cases e : t = k
            · subst e
              rw [zup_eq, upd_eq]
              exact ⟨rfl, by omega⟩
            · rw [zup_ne e, upd_ne e]
              obtain ⟨j1, j2⟩ := h2 t ht
              exact ⟨j1, by omega⟩
          · constructor
            · intro h
              exact absurd (show (1 : Int32) = 0 from h) (by decide)
            · intro h
              exact absurd ((h k (by omega)).symm.trans e20).symm c2
      · rw [if_neg (show ¬ nI (nRk w (nRnd w R k) k) ≤ 8 from nI_ge (a := 8) (by omega) (by omega))]
        exact Or.inl ⟨rfl, k, by omega, by rw [e20]; omega⟩
theorem frRound_n (cx : eCx B w) : ∀ n, n ≤ 10 →
    ((it (frRound B) n (cFill 20 0 (B 8), none)).2 = none ∧ eRn (it (frRound B) n (cFill 20 0 (B 8), none)).1 (nRs w n) (20 * n) ∧ (∀ t, t < 20 → nRs w n t ≤ 8) ∧ (n = 0 ∨ ∃ t, t < 20 ∧ nRs w n t ≠ nRs w (n - 1) t)) ∨
    ((it (frRound B) n (cFill 20 0 (B 8), none)).2 = some false ∧ ∃ t, t < 20 ∧ 8 < nRs w 12 t) ∨
    ((it (frRound B) n (cFill 20 0 (B 8), none)).2 = some true ∧ ∃ m, m ≤ 12 ∧ eRn (it (frRound B) n (cFill 20 0 (B 8), none)).1 (nRs w m) (20 * 12) ∧ (∀ t, t < 20 → nRs w m t ≤ 8) ∧ ∀ t, t < 20 → nRs w (m + 1) t = nRs w m t) := by
  intro n
  induction n with
  | zero =>
    intro _
    refine Or.inl ⟨rfl, fun t ht => ⟨?_, Nat.le_refl _⟩, fun t _ => Nat.zero_le _, Or.inl rfl⟩
    show cFill 20 0 (B 8) t = _
    unfold cFill
    rw [if_pos ht]
    rfl
  | succ n ih =>
    intro hn
    have ih := ih (by omega)
    rw [it_s]
    generalize it (frRound B) n (cFill 20 0 (B 8), none) = s at ih ⊢
    rcases ih with ⟨h1, h2, h3, -⟩ | ⟨h1, h2⟩ | ⟨h1, h2⟩
    · unfold frRound
      rw [h1]
      have hs := frStep_n cx h2 (show 20 * n ≤ 900000 by omega) 20 (Nat.le_refl _)
      dsimp only
      generalize it (frStep B) 20 (s.1, 0, false) = z at hs ⊢
      rcases hs with ⟨g1, t, ht, g2⟩ | ⟨g1, g2, g3, g4⟩
      · rw [if_pos g1]
        refine Or.inr (Or.inl ⟨rfl, t, ht, ?_⟩)
        have := nRs_le (w := w) (j := t) (n + 1) 12 (by omega)
        rw [nRs_s] at this
        omega
      · rw [if_neg (by rw [g1]; decide)]
        by_cases c : z.2.1 = 0
        · rw [if_pos c]
          refine Or.inr (Or.inr ⟨rfl, n, by omega, fun t ht => ?_, h3, fun t ht => g4.mp c t ht⟩)
          obtain ⟨j1, j2⟩ := g2 t ht
          rw [g4.mp c t ht] at j1
          have := h3 t ht
          exact ⟨j1, by omega⟩
        · rw [if_neg c]
          refine Or.inl ⟨rfl, fun t ht => ?_, g3, Or.inr ?_⟩
          · obtain ⟨j1, j2⟩ := g2 t ht
            exact ⟨j1, by rw [nRs_s]; omega⟩
          · rw [g4] at c
            have : ∃ t, ¬ (t < 20 → nRnd w (nRs w n) 20 t = nRs w n t) := Classical.not_forall.mp c
            obtain ⟨t, ht⟩ := this
            have ht20 : t < 20 := Classical.byContradiction (fun h => ht (fun h2 => absurd h2 h))
            refine ⟨t, ht20, fun h => ht (fun _ => ?_)⟩
            rw [Nat.add_sub_cancel] at h
            exact h
    · rw [frRound_stick B n s (by rw [h1]; exact fun h => by cases h)]
      exact Or.inr (Or.inl ⟨h1, h2⟩)
    · rw [frRound_stick B n s (by rw [h1]; exact fun h => by cases h)]
      exact Or.inr (Or.inr ⟨h1, h2⟩)
/-- the class's ranks are the model's -/
theorem eFind (cx : eCx B w) : (bFindOk B = 1 ∧ (∀ t, t < 20 → (bFind B).1 t = nI (nRs w 12 t) ∧ nRs w 12 t ≤ 8) ∧ eRk w (nRs w 12)) ∨ (bFindOk B = 0 ∧ ∃ t, t < 20 ∧ 8 < nRs w 12 t) := by
  unfold bFindOk bFind
  rcases frRound_n cx 10 (Nat.le_refl _) with ⟨h1, h2, h3, h4⟩ | ⟨h1, h2⟩ | ⟨h1, m, hm, h2, h3, h4⟩
  · exfalso
    rcases h4 with h4 | ⟨t, ht, h4⟩
    · omega
    · rcases nRs_grow cx.1 9 t ht with h5 | h5
      · exact h4 h5
      · have h6 : nRs w (9 + 1) t ≤ 8 := h3 t ht
        omega
  · rw [h1]
    exact Or.inr ⟨if_neg (by decide), h2⟩
  · rw [h1]
    have e := nRs_stable h4 12 hm
    rw [e]
    exact Or.inl ⟨if_pos rfl, fun t ht => ⟨(h2 t ht).1, h3 t ht⟩, nRs_rk h4 h3⟩
theorem eFind_under (cx : eCx B w) {r : Nat → Nat} (hr : eRk w r) : bFindOk B = 1 ∧ (∀ t, t < 20 → (bFind B).1 t = nI (nRs w 12 t) ∧ nRs w 12 t ≤ 8) ∧ eRk w (nRs w 12) := by
  rcases eFind cx with h | ⟨-, t, ht, h⟩
  · exact h
  · have := nRs_under cx.1 hr 12 t ht
    omega
end EFIND
