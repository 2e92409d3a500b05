/-! ===== 66.pureN: what can be needed, sets and counts: both sides ===== -/
def eLn (w : Nat → Int32) : Nat → Nat → Nat → Prop
  | 0, u, j => eNd w u j
  | n + 1, u, j => ∃ i, eLn w n u i ∧ eNd w i j
section ELN
variable {B : Nat → Nat → Int32} {w : Nat → Int32} {r : Nat → Nat}
theorem eNd_rk (hv : eVal w) (hr : eRk w r) {i j : Nat} (hi : i < 20) (h : eNd w i j) : r j < r i := by
  have hy : eWy w i ≠ 0 := by
    intro h0
    obtain ⟨k, hk, -⟩ := h
    rw [(hv i hi).2.2.1 h0] at hk
    exact absurd hk (Nat.not_lt_zero k)
  obtain ⟨-, -, hn⟩ := hr i hi hy
  obtain ⟨k, hk, h⟩ := h
  rcases h with rfl | ⟨i2, hi2, rfl⟩
  · exact (hn k hk).1
  · exact (hn k hk).2 i2 hi2
theorem eLn_lt (hv : eVal w) {u : Nat} (hu : u < 20) : ∀ n j, eLn w n u j → j < 20 := by
  intro n
  induction n with
  | zero => exact fun j h => eNd_lt hv hu h
  | succ n ih =>
    rintro j ⟨i, h1, h2⟩
    exact eNd_lt hv (ih i h1) h2
theorem eLn_rk (hv : eVal w) (hr : eRk w r) {u : Nat} (hu : u < 20) : ∀ n j, eLn w n u j → r j + n + 1 ≤ r u := by
  intro n
  induction n with
  | zero => exact fun j h => eNd_rk hv hr hu h
  | succ n ih =>
    rintro j ⟨i, h1, h2⟩
    have a := ih i h1
    have b := eNd_rk hv hr (eLn_lt hv hu n i h1) h2
    omega
theorem eLn_8 (hv : eVal w) (hr : eRk w r) {u n j : Nat} (hu : u < 20) (h : eLn w n u j) : n ≤ 8 := by
  have a := eLn_rk hv hr hu n j h
  have hy : eWy w u ≠ 0 := by
    intro h0
    have : ∀ n j, ¬ eLn w n u j := by
      intro n
      induction n with
      | zero =>
        rintro j ⟨k, hk, -⟩
        rw [(hv u hu).2.2.1 h0] at hk
        exact absurd hk (Nat.not_lt_zero k)
      | succ n ih =>
        rintro j ⟨i, h1, -⟩
        exact ih i h1
    exact this n j h
  have := (hr u hu hy).2.1
  omega
theorem bWider_n (cx : eCx B w) (s : Int32) {j : Nat} (hj : j < 20) : ∀ n, n ≤ 20 → (bt (it (fun i w => if cHasBit s (nI i) = 0 then w else w ||| bNeeds B (nI i)) n s) j = true ↔ (bt s j = true ∨ ∃ i, i < n ∧ bt s i = true ∧ eNd w i j)) := by
  intro n
  induction n with
  | zero => exact fun _ => ⟨Or.inl, fun h => h.elim id (fun ⟨i, hi, _⟩ => absurd hi (Nat.not_lt_zero i))⟩
  | succ n ih =>
    intro hn
    have ih := ih (by omega)
    rw [it_s, cHasBit_b (show n < 32 by omega)]
    generalize it (fun i w => if cHasBit s (nI i) = 0 then w else w ||| bNeeds B (nI i)) n s = x at ih ⊢
    by_cases c : bt s n = true
    · rw [if_pos c, if_neg (by decide), b_or, Bool.or_eq_true, ih, eNeeds cx (show n < 20 by omega) hj]
      constructor
      · rintro ((h | ⟨i, hi, h⟩) | h)
        · exact Or.inl h
        · exact Or.inr ⟨i, by omega, h⟩
        · exact Or.inr ⟨n, by omega, c, h⟩
      · rintro (h | ⟨i, hi, h1, h2⟩)
        · exact Or.inl (Or.inl h)
        · by_cases e : i = n
          · subst e
            exact Or.inr h2
          · exact Or.inl (Or.inr ⟨i, by omega, h1, h2⟩)
    · rw [if_neg c, if_pos rfl, ih]
      constructor
      · rintro (h | ⟨i, hi, h⟩)
        · exact Or.inl h
        · exact Or.inr ⟨i, by omega, h⟩
      · rintro (h | ⟨i, hi, h1, h2⟩)
        · exact Or.inl h
        · by_cases e : i = n
          · subst e
            exact absurd h1 c
          · exact Or.inr ⟨i, by omega, h1, h2⟩
theorem bAll_n (cx : eCx B w) {u : Nat} (hu : u < 20) : ∀ n j, j < 20 → (bt (it (fun _ s => bWider B s) n (bNeeds B (nI u))) j = true ↔ ∃ m, m ≤ n ∧ eLn w m u j) := by
  intro n
  induction n with
  | zero =>
    intro j hj
    rw [it_zero, eNeeds cx hu hj]
    exact ⟨fun h => ⟨0, Nat.le_refl _, h⟩, fun ⟨m, hm, h⟩ => by
      have : m = 0 := by omega
      subst this
      exact h⟩
  | succ n ih =>
    intro j hj
    rw [it_s]
    unfold bWider
    rw [bWider_n cx _ hj 20 (Nat.le_refl _)]
    have e : (fun (_ : Nat) (s : Int32) => bWider B s) = fun _ s => it (fun i w => if cHasBit s (nI i) = 0 then w else w ||| bNeeds B (nI i)) 20 s := rfl
    rw [← e, ih j hj]
    constructor
    · rintro (⟨m, hm, h⟩ | ⟨i, hi, h1, h2⟩)
      · exact ⟨m, by omega, h⟩
      · obtain ⟨m, hm, h⟩ := (ih i hi).mp h1
        exact ⟨m + 1, by omega, i, h, h2⟩
    · rintro ⟨m, hm, h⟩
      cases m with
      | zero => exact Or.inl ⟨0, Nat.zero_le _, h⟩
      | succ m =>
        obtain ⟨i, h1, h2⟩ := h
        have hi := eLn_lt cx.1 hu m i h1
        exact Or.inr ⟨i, hi, (ih i hi).mpr ⟨m, by omega, h1⟩, h2⟩
theorem mRchI_at (hv : eVal w) {p : Nat} (hp : p < 20) (H : Nat → Int32) (j : Nat) : ∀ n, n ≤ eWs w p → (¬ mRchI w p H n j = 0 ↔ (¬ H j = 0 ∨ ∃ i, i < n ∧ eWb w p i = j)) := by
  intro n
  unfold mRchI
  induction n with
  | zero => exact fun _ => ⟨Or.inl, fun h => h.elim id (fun ⟨i, hi, _⟩ => absurd hi (Nat.not_lt_zero i))⟩
  | succ n ih =>
    intro hn
    have ih := ih (by omega)
    obtain ⟨e, h20⟩ := (hv p hp).2.2.2.2.2.1 n (by omega)
    rw [it_s, e, nI_clamp (by omega)]
    by_cases c : j = eWb w p n
    · rw [c, upd_eq]
      exact ⟨fun _ => Or.inr ⟨n, by omega, rfl⟩, fun _ => by decide⟩
    · rw [upd_ne c, ih]
      constructor
      · rintro (h | ⟨i, hi, h⟩)
        · exact Or.inl h
        · exact Or.inr ⟨i, by omega, h⟩
      · rintro (h | ⟨i, hi, h⟩)
        · exact Or.inl h
        · by_cases e2 : i = n
          · subst e2
            exact absurd h.symm c
          · exact Or.inr ⟨i, by omega, h⟩
theorem mRch_at (hv : eVal w) {t : Nat} (ht : t < 20) (H : Nat → Int32) (j : Nat) : ¬ mRch w t H j = 0 ↔ (¬ H j = 0 ∨ eNd w t j) := by
  obtain ⟨h8, hc5⟩ := (hv t ht).2.1
  unfold mRch
  rw [h8, nI_clamp (by omega)]
  have : ∀ n, n ≤ eWc w t → (¬ it (mRchS w t) n H j = 0 ↔ (¬ H j = 0 ∨ ∃ k, k < n ∧ (eWi w t k = j ∨ ∃ i, i < eWs w (eWi w t k) ∧ eWb w (eWi w t k) i = j))) := by
    intro n
    induction n with
    | zero => exact fun _ => ⟨Or.inl, fun h => h.elim id (fun ⟨i, hi, _⟩ => absurd hi (Nat.not_lt_zero i))⟩
    | succ n ih =>
      intro hn
      have ih := ih (by omega)
      obtain ⟨e, h20, -⟩ := (hv t ht).2.2.2.2.1 n (by omega)
      obtain ⟨e19, s3⟩ := (hv _ h20).2.2.2.1
      rw [it_s]
      generalize it (mRchS w t) n H = K at ih ⊢
      unfold mRchS
      rw [e, nI_clamp (by omega), e19, nI_clamp (by omega), mRchI_at hv h20 _ j _ (Nat.le_refl _)]
      have hu : ¬ upd K (eWi w t n) 1 j = 0 ↔ (¬ K j = 0 ∨ eWi w t n = j) := by
        by_cases c : j = eWi w t n
        · rw [c, upd_eq]
          exact ⟨fun _ => Or.inr rfl, fun _ => by decide⟩
        · rw [upd_ne c]
          exact ⟨Or.inl, fun h => h.elim id (fun h => absurd h.symm c)⟩
      rw [hu, ih]
      constructor
      · rintro (((h | ⟨k, hk, h⟩) | h) | h)
        · exact Or.inl h
        · exact Or.inr ⟨k, by omega, h⟩
        · exact Or.inr ⟨n, by omega, Or.inl h⟩
        · exact Or.inr ⟨n, by omega, Or.inr h⟩
      · rintro (h | ⟨k, hk, h⟩)
        · exact Or.inl (Or.inl (Or.inl h))
        · by_cases e2 : k = n
          · subst e2
            rcases h with h | h
            · exact Or.inl (Or.inr h)
            · exact Or.inr h
          · exact Or.inl (Or.inl (Or.inr ⟨k, by omega, h⟩))
  exact this _ (Nat.le_refl _)
theorem mNdR_sound (hv : eVal w) {H : Nat → Int32} {p : Nat → Prop} (h0 : ∀ j, ¬ H j = 0 → p j) (hc : ∀ i j, i < 20 → p i → eNd w i j → p j) : ∀ n, n ≤ 20 → ∀ j, ¬ mNdR w H n j = 0 → p j := by
  intro n
  induction n with
  | zero => exact fun _ => h0
  | succ n ih =>
    intro hn j hj
    have ih := ih (by omega)
    rw [mNdR_s] at hj
    by_cases c : mNdR w H n n = 0
    · rw [if_pos c] at hj
      exact ih j hj
    · rw [if_neg c, mRch_at hv (by omega)] at hj
      rcases hj with hj | hj
      · exact ih j hj
      · exact hc n j (by omega) (ih n c) hj
theorem mNdR_mono (hv : eVal w) {H : Nat → Int32} {j : Nat} : ∀ n m, n ≤ m → m ≤ 20 → ¬ mNdR w H n j = 0 → ¬ mNdR w H m j = 0 := by
  intro n m
  induction m with
  | zero =>
    intro h _ h0
    have : n = 0 := by omega
    subst this
    exact h0
  | succ m ih =>
    intro h hm h0
    by_cases e : n = m + 1
    · subst e
      exact h0
    · have h1 := ih (by omega) (by omega) h0
      rw [mNdR_s]
      by_cases c : mNdR w H m m = 0
      · rw [if_pos c]
        exact h1
      · rw [if_neg c, mRch_at hv (by omega)]
        exact Or.inl h1
theorem mNdR_full (hv : eVal w) {H : Nat → Int32} {i j : Nat} (hi : i < 20) (h0 : ¬ H i = 0) (h : eNd w i j) : ¬ mNdR w H 20 j = 0 := by
  refine mNdR_mono hv (i + 1) 20 (by omega) (Nat.le_refl _) ?_
  have h1 : ¬ mNdR w H i i = 0 := mNdR_mono hv 0 i (Nat.zero_le _) (by omega) h0
  rw [mNdR_s, if_neg h1, mRch_at hv hi]
  exact Or.inr h
theorem mNd_sound (hv : eVal w) {H : Nat → Int32} {u : Nat} (hu : u < 20) : ∀ n j, ¬ mNd w H u n j = 0 → (j < 20 → ∃ m, eLn w m u j) := by
  intro n
  induction n with
  | zero =>
    intro j hj hj20
    rw [mNd_0, mRch_at hv hu] at hj
    rcases hj with hj | hj
    · unfold cFill at hj
      rw [if_pos hj20] at hj
      exact absurd rfl hj
    · exact ⟨0, hj⟩
  | succ n ih =>
    rw [mNd_s]
    refine mNdR_sound hv (p := fun j => j < 20 → ∃ m, eLn w m u j) ih (fun i j hi h1 h2 _ => ?_) 20 (Nat.le_refl _)
    obtain ⟨m, hm⟩ := h1 hi
    exact ⟨m + 1, i, hm, h2⟩
theorem mNd_full (hv : eVal w) {H : Nat → Int32} {u : Nat} (hu : u < 20) : ∀ n m j, m ≤ n → eLn w m u j → ¬ mNd w H u n j = 0 := by
  intro n
  induction n with
  | zero =>
    intro m j hm h
    have : m = 0 := by omega
    subst this
    rw [mNd_0, mRch_at hv hu]
    exact Or.inr h
  | succ n ih =>
    intro m j hm h
    rw [mNd_s]
    by_cases e : m ≤ n
    · refine mNdR_mono hv 0 20 (by decide) (Nat.le_refl _) ?_
      rw [mNdR_0]
      exact ih m j e h
    · have : m = n + 1 := by omega
      subst this
      obtain ⟨i, h1, h2⟩ := h
      exact mNdR_full hv (eLn_lt hv hu n i h1) (ih n i (Nat.le_refl _) h1) h2
/-- isNeeded, both sides -/
theorem eNeeded (cx : eCx B w) (hr : eRk w r) {t u : Nat} (ht : t < 20) (hu : u < 20) (H : Nat → Int32) : (if cHasBit (bAll B (nI u)) (nI t) = 0 then (0 : Int32) else 1) = if mNd w H u 20 t = 0 then 0 else if t = u then 0 else 1 := by
  rw [cHasBit_b (show t < 32 by omega)]
  have hb : bt (bAll B (nI u)) t = true ↔ ∃ m, m ≤ 20 ∧ eLn w m u t := bAll_n cx hu 20 t ht
  by_cases c : mNd w H u 20 t = 0
  · rw [if_pos c]
    by_cases h : bt (bAll B (nI u)) t = true
    · obtain ⟨m, hm, hl⟩ := hb.mp h
      exact absurd c (mNd_full cx.1 hu 20 m t hm hl)
    · rw [if_neg h, if_pos rfl]
  · rw [if_neg c]
    obtain ⟨m, hm⟩ := mNd_sound cx.1 hu 20 t c ht
    have hne : t ≠ u := by
      intro e
      subst e
      have := eLn_rk cx.1 hr hu m t hm
      omega
    rw [if_neg hne, if_pos (hb.mpr ⟨m, by have := eLn_8 cx.1 hr hu hm; omega, hm⟩), if_neg (by decide)]
/-! sets and counts -/
theorem eMadeSet (cx : eCx B w) : bMadeSet B = mMadeSet w 20 := by
  unfold bMadeSet mMadeSet
  have : ∀ n, n ≤ 20 → it (fun i s => if bMade B (nI i) = 0 then s else s ||| ((1 : Int32) <<< (nI i &&& 31))) n 0 = it (fun t x => x ||| (if mMade w t = 0 then 0 else (1 : Int32) <<< (nI t &&& 31))) n 0 := by
    intro n
    induction n with
    | zero => exact fun _ => rfl
    | succ n ih =>
      intro hn
      rw [it_s, it_s, ih (by omega), cx.made (by omega), cx.1.made (by omega)]
      by_cases e : eWy w n = 0
      · rw [if_pos e, if_pos rfl, if_pos rfl, Int32.or_zero]
      · rw [if_neg e, if_neg (by decide), if_neg (by decide)]
  exact this 20 (Nat.le_refl _)
theorem eGreat (cx : eCx B w) {R : Nat → Nat} {b : Nat} (hb : b ≤ 1000000) {v : Nat → Int32} (hR : eRn (B 8) R b) (hv : eRn v R b) : bGreatest B = mGreat v 20 := by
  unfold bGreatest mGreat
  have : ∀ n, n ≤ 20 → ∃ m, m ≤ b ∧ it (fun i g => cMax g (bRank B (nI i))) n 0 = nI m ∧ it (fun t x => mMax (v t) x) n 0 = nI m := by
    intro n
    induction n with
    | zero => exact fun _ => ⟨0, Nat.zero_le _, rfl, rfl⟩
    | succ n ih =>
      intro hn
      obtain ⟨m, hm, e1, e2⟩ := ih (by omega)
      obtain ⟨r1, r2⟩ := hR n (by omega)
      rw [it_s, it_s, e1, e2, (hv n (by omega)).1]
      have er : bRank B (nI n) = nI (R n) := (eAt (by omega) (by decide)).trans r1
      rw [er, cMax_n (by omega) (by omega), mMax_n (by omega) (by omega), Nat.max_comm]
      exact ⟨_, by omega, rfl, rfl⟩
  obtain ⟨m, -, e1, e2⟩ := this 20 (Nat.le_refl _)
  rw [e1, e2]
theorem eStored {S : Nat → Int32} {w : Nat → Int32} (h : ∀ t, t < 20 → S t = w (23 * t + 0)) : cSum S 20 = mStored w 20 := by
  unfold mStored
  have : ∀ n, n ≤ 20 → cSum S n = it (fun t x => x + w (23 * t + 0)) n 0 := by
    intro n
    induction n with
    | zero => exact fun _ => rfl
    | succ n ih =>
      intro hn
      rw [it_s, ← ih (by omega)]
      show cSum S n + S n = _
      rw [h n (by omega)]
  exact this 20 (Nat.le_refl _)
theorem eSumM {S : Nat → Int32} {w : Nat → Int32} (h : ∀ t, t < 20 → S t = w (23 * t + 3)) : cSum S 20 = mSumM w 20 := by
  unfold mSumM
  have : ∀ n, n ≤ 20 → cSum S n = it (fun t x => x + w (23 * t + 3)) n 0 := by
    intro n
    induction n with
    | zero => exact fun _ => rfl
    | succ n ih =>
      intro hn
      rw [it_s, ← ih (by omega)]
      show cSum S n + S n = _
      rw [h n (by omega)]
  exact this 20 (Nat.le_refl _)
end ELN
