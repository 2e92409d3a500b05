/-! ===== 58.pure9: bestGift, gather: both sides ===== -/
theorem sCopy_ne1 {X S : Nat → Nat → Int32} {k : Nat} {y : Nat → Int32} (hk : k ≠ 1) : sCopy X (va_up S 1 y) k = sCopy X S k := by
  unfold sCopy
  simp (disch := omega) only [zup_ne, zup_eq, upd_ne, upd_eq]
  simp only [va_up, if_neg hk]
theorem eGive {W S : Nat → Nat → Int32} {i : Nat} (hi : i < 20) : bgRec W S i = wBegin W (va_up S 1 (upd (S 1) i (S 1 i + 1))) 1 := by
  funext j
  unfold bgRec
  by_cases h2 : j = 2
  · subst h2
    rw [zup_eq, eAdd hi (by decide)]
    funext k
    have e : ∀ X : Nat → Nat → Int32, wBegin W X 1 2 k = cCopy 20 (X 1) (W 2) k := by
      intro X
      unfold wBegin
      rw [zup_ne (by decide), show (2 : Nat) = 1 + 1 from rfl, zput_at (by decide)]
      unfold sCopy
      simp (disch := omega) only [zup_ne, zup_eq, upd_ne, upd_eq]
      rfl
    rw [e, zup_eq]
    have e2 : ∀ k, wBegin W S 1 2 k = cCopy 20 (S 1) (W 2) k := by
      intro k
      unfold wBegin
      rw [zup_ne (by decide), show (2 : Nat) = 1 + 1 from rfl, zput_at (by decide)]
      unfold sCopy
      simp (disch := omega) only [zup_ne, zup_eq, upd_ne, upd_eq]
      rfl
    by_cases hk : k = i
    · subst hk
      rw [upd_eq, e2, cCopy_in hi, cCopy_in hi, upd_eq]
    · rw [upd_ne hk, e2]
      unfold cCopy
      split
      · rw [upd_ne hk]
      · rfl
  · rw [zup_ne h2]
    unfold wBegin
    by_cases h0 : j = 0
    · subst h0
      rw [zup_eq, zup_eq]
    · rw [zup_ne h0, zup_ne h0]
      by_cases h8 : j < 8
      · obtain ⟨k, rfl⟩ : ∃ k, j = 1 + k := ⟨j - 1, by omega⟩
        rw [zput_at (by omega), zput_at (by omega), sCopy_ne1 (by omega)]
      · rw [zput_ne (by omega), zput_ne (by omega)]
section EBG
variable {B S W G : Nat → Nat → Int32} {w : Nat → Int32} {r : Nat → Nat} {t n M : Nat}
theorem eTryG (hA : eAll B S (G 1) r M) (h10 : ∀ i, i < 462 → G 10 i = w i) (h460 : G 1 460 = w 460) (ht : t < 20) (hn : n ≤ 100000) :
    mWishH eNu G t (nI n) ∧ eHd w (mTryM eNu G t (nI n)) ∧ (mTryM eNu G t (nI n) 2 = G 2 ∧ mTryM eNu G t (nI n) 3 = G 3 ∧ mTryM eNu G t (nI n) 4 = G 4 ∧ ∀ q, q ≤ 8 → mTryM eNu G t (nI n) 0 q = G 0 q) ∧
    ((¬ wFul B (wBegin W S 1) (nI t) (nI n) 0 2 = 0 ∧ mTryN eNu G t (nI n) = -3) ∨ ∃ g, g ≤ 50000 + n ∧ wFul B (wBegin W S 1) (nI t) (nI n) 0 2 = 0 ∧ wFul B (wBegin W S 1) (nI t) (nI n) 0 4 = nI g ∧ mTryN eNu G t (nI n) = nI g) := by
  obtain ⟨cx, hrk, hS, hw, hM⟩ := hA
  obtain ⟨h1, hK, hE⟩ := eWish (W := W) cx hrk hS hw hM ht (show n ≤ 1000000 by omega)
  have hx : mWish eNu G t (nI n) 10 = G 10 := hK.1 10 (by decide) (by decide) (by decide)
  refine ⟨h1, ⟨fun i hi => ?_, fun i hi => ?_⟩, ⟨?_, ?_, ?_, fun q hq => ?_⟩, ?_⟩
  · unfold mTryM
    rw [mRest_at hi, hx]
    exact h10 i hi
  · unfold mTryM
    rw [mRest_j (by decide), hx]
    exact h10 i hi
  · unfold mTryM
    rw [mRest_j (by decide)]
    exact hK.1 2 (by decide) (by decide) (by decide)
  · unfold mTryM
    rw [mRest_j (by decide)]
    exact hK.1 3 (by decide) (by decide) (by decide)
  · unfold mTryM
    rw [mRest_j (by decide)]
    exact hK.1 4 (by decide) (by decide) (by decide)
  · unfold mTryM
    rw [mRest_j (by decide)]
    exact hK.2.1 q (by omega) (by omega) (by omega)
  · unfold mTryN mTryV
    rcases hE with ⟨hf, hf2⟩ | ⟨bt, g, M', hN, hT, hg, -, -⟩
    · exact Or.inl ⟨hf, if_neg hf2⟩
    · have h16 : mWish eNu G t (nI n) 0 16 = 0 := by rw [← hT.2.2.1]; exact hN.2.1
      have hbt := hN.2.2.2.2.1
      refine Or.inr ⟨g, by omega, hN.2.1, hN.2.2.2.2.2.1, ?_⟩
      rw [if_pos h16, mRest_at (by decide), hx, h10 _ (by decide), ← h460, hT.2.2.2.2, eSub_id]
      exact hN.2.2.2.2.2.1
theorem eAll.give (hA : eAll B S (G 1) r M) {i : Nat} (hi : i < 20) (hs : ¬ 99999 ≤ G 1 (23 * i + 0)) : eAll B (va_up S 1 (upd (S 1) i (S 1 i + 1))) (mGive G i 1) r M := by
  obtain ⟨cx, hrk, hS, hw, hM⟩ := hA
  have e1 : mGive G i 1 = upd (G 1) (23 * i + 0) (G 1 (23 * i + 0) + 1) := by
    unfold mGive
    rw [zup_eq]
  have hst : mStat (G 1) (mGive G i 1) := fun t k ht hk hs => by
    rw [e1, upd_ne (by omega)]
  have hSi : S 1 i = G 1 (23 * i + 0) := hS.1 1 i (by decide) (by decide) hi
  refine ⟨cx.to hst, hrk.to cx.1 hst, ⟨fun j t h1 h6 ht => ?_, ?_, ?_⟩, fun t ht => ?_, ?_⟩
  · rw [e1]
    by_cases hj : j = 1
    · subst hj
      rw [zup_eq, show eOff (1 + 1) = 0 from rfl]
      by_cases e : t = i
      · subst e
        rw [upd_eq, upd_eq, hSi]
      · rw [upd_ne e, upd_ne (by omega)]
        exact hS.1 1 t h1 h6 ht
    · have ho := eOff_le (show j + 1 ≤ 7 by omega)
      have ho2 : eOff (j + 1) ≠ 0 := by
        unfold eOff
        rw [if_neg (by omega)]
        omega
      rw [zup_ne hj, upd_ne (by omega)]
      exact hS.1 j t h1 h6 ht
  · rw [zup_ne (by decide), e1, upd_ne (by omega)]
    exact hS.2.1
  · rw [zup_ne (by decide), e1, upd_ne (by omega)]
    exact hS.2.2
  · rw [e1]
    by_cases e : t = i
    · subst e
      obtain ⟨a, ha, ea⟩ := hw t ht
      rw [upd_eq, ea, nI_1]
      have : ¬ nI 99999 ≤ nI a := by rw [← ea]; exact hs
      have : ¬ 99999 ≤ a := fun h => this (nI_le h (by omega))
      exact ⟨a + 1, by omega, rfl⟩
    · rw [upd_ne (by omega)]
      exact hw t ht
  · rw [zup_ne (by decide)]
    exact hM
theorem eBgStep (hA : eAll B S w r M) (ht : t < 20) (hn : n ≤ 999) {G0 : Nat → Nat → Int32} (l0 : Int32) (W0 : Nat → Nat → Int32) (H0 : eHd w G0) : ∀ i, i ≤ 20 →
    (it (bgStep B S (nI t) (nI n)) i (l0, -9, W0)).1 = (it (mBgS eNu t (nI n)) i (l0, -9, G0)).1 ∧ (it (bgStep B S (nI t) (nI n)) i (l0, -9, W0)).2.1 = (it (mBgS eNu t (nI n)) i (l0, -9, G0)).2.1 ∧ eHd w (it (mBgS eNu t (nI n)) i (l0, -9, G0)).2.2 ∧
    ((it (mBgS eNu t (nI n)) i (l0, -9, G0)).2.2 2 = G0 2 ∧ (it (mBgS eNu t (nI n)) i (l0, -9, G0)).2.2 3 = G0 3 ∧ (it (mBgS eNu t (nI n)) i (l0, -9, G0)).2.2 4 = G0 4 ∧ ∀ q, q ≤ 8 → (it (mBgS eNu t (nI n)) i (l0, -9, G0)).2.2 0 q = G0 0 q) ∧
    (i < 20 → ¬ 99999 ≤ (it (mBgS eNu t (nI n)) i (l0, -9, G0)).2.2 1 (23 * i + 0) → mWishH eNu (mGive (it (mBgS eNu t (nI n)) i (l0, -9, G0)).2.2 i) t (nI n)) := by
  have key : ∀ (G' : Nat → Nat → Int32) (i : Nat) (W' : Nat → Nat → Int32), i < 20 → eHd w G' → ¬ 99999 ≤ G' 1 (23 * i + 0) → mWishH eNu (mGive G' i) t (nI n) ∧ eHd w (mTryM eNu (mGive G' i) t (nI n)) ∧ (mTryM eNu (mGive G' i) t (nI n) 2 = G' 2 ∧ mTryM eNu (mGive G' i) t (nI n) 3 = G' 3 ∧ mTryM eNu (mGive G' i) t (nI n) 4 = G' 4 ∧ ∀ q, q ≤ 8 → mTryM eNu (mGive G' i) t (nI n) 0 q = G' 0 q) ∧
      ((¬ wFul B (bgRec W' S i) (nI t) (nI n) 0 2 = 0 ∧ mTryN eNu (mGive G' i) t (nI n) = -3) ∨ ∃ g, g ≤ 50000 + n ∧ wFul B (bgRec W' S i) (nI t) (nI n) 0 2 = 0 ∧ wFul B (bgRec W' S i) (nI t) (nI n) 0 4 = nI g ∧ mTryN eNu (mGive G' i) t (nI n) = nI g) := by
    intro G' i W' hi hH hs
    have hA2 := (hA.to hH.1).give hi hs
    rw [eGive hi]
    have := eTryG (W := W') (w := w) hA2 (fun k hk => by unfold mGive; rw [zup_ne (by decide)]; exact hH.2 k hk) (by unfold mGive; rw [zup_eq, upd_ne (by omega)]; exact hH.1 _ (by decide)) ht (show n ≤ 100000 by omega)
    obtain ⟨a1, a2, ⟨a3, a4, a5, a6⟩, a7⟩ := this
    refine ⟨a1, a2, ⟨?_, ?_, ?_, fun q hq => ?_⟩, a7⟩
    · rw [a3]
      unfold mGive
      simp (disch := omega) only [zup_ne, zup_eq, upd_ne, upd_eq]
    · rw [a4]
      unfold mGive
      simp (disch := omega) only [zup_ne, zup_eq, upd_ne, upd_eq]
    · rw [a5]
      unfold mGive
      simp (disch := omega) only [zup_ne, zup_eq, upd_ne, upd_eq]
    · rw [a6 q hq]
      unfold mGive
      simp (disch := omega) only [zup_ne, zup_eq, upd_ne, upd_eq]
  intro i
  induction i with
  | zero => exact fun _ => ⟨rfl, rfl, H0, ⟨rfl, rfl, rfl, fun _ _ => rfl⟩, fun h1 h2 => (key G0 0 W0 h1 H0 h2).1⟩
  | succ i ih =>
    intro hi
    obtain ⟨i1, i2, i3, ⟨i4, i5, i6, i7⟩, -⟩ := ih (by omega)
    rw [it_s, it_s]
    generalize it (bgStep B S (nI t) (nI n)) i (l0, -9, W0) = s at i1 i2 ⊢
    generalize it (mBgS eNu t (nI n)) i (l0, -9, G0) = z at i1 i2 i3 i4 i5 i6 i7 ⊢
    have hi20 : i < 20 := by omega
    obtain ⟨a, ha, ea⟩ := (hA.to i3.1).2.2.2.1 i hi20
    have hSi : S 1 i = nI a := by rw [← ea]; exact (hA.to i3.1).2.2.1.1 1 i (by decide) (by decide) hi20
    have er : cAt 20 (bgRec s.2.2 S i 2) (nI i) = nI (a + 1) := by
      rw [eGive hi20, eAt hi20 (by decide), wBegin_j (by decide) (by decide) hi20]
      show va_up S 1 _ 1 i = _
      rw [zup_eq, upd_eq, hSi, nI_1]
    have main : (bgStep B S (nI t) (nI n) i s).1 = (mBgS eNu t (nI n) i z).1 ∧ (bgStep B S (nI t) (nI n) i s).2.1 = (mBgS eNu t (nI n) i z).2.1 ∧ eHd w (mBgS eNu t (nI n) i z).2.2 ∧ ((mBgS eNu t (nI n) i z).2.2 2 = G0 2 ∧ (mBgS eNu t (nI n) i z).2.2 3 = G0 3 ∧ (mBgS eNu t (nI n) i z).2.2 4 = G0 4 ∧ ∀ q, q ≤ 8 → (mBgS eNu t (nI n) i z).2.2 0 q = G0 0 q) := by
      unfold bgStep mBgS
      rw [er]
      by_cases c : 99999 ≤ z.2.2 1 (23 * i + 0)
      · rw [if_pos c]
        have c' : (99999 : Int32) < nI (a + 1) := by
          rw [ea] at c
          have : 99999 ≤ a := (nI_leI (a := 99999) (by decide) (by omega)).mp c
          exact nI_lt (a := 99999) (by omega) (by omega)
        rw [if_pos c']
        exact ⟨i1, i2, i3, i4, i5, i6, i7⟩
      · rw [if_neg c]
        have c' : ¬ (99999 : Int32) < nI (a + 1) := by
          rw [ea] at c
          have h1 : ¬ 99999 ≤ a := fun h => c (nI_le (a := 99999) h (by omega))
          exact nI_nlt (b := a + 1) (a := 99999) (by omega) (by decide)
        rw [if_neg c']
        obtain ⟨-, k2, ⟨k3, k4, k5, k6⟩, hv⟩ := key z.2.2 i s.2.2 hi20 i3 c
        rcases hv with ⟨hf, en⟩ | ⟨g, hg, h0, h4, en⟩
        · rw [if_neg hf, if_pos (show mTryN eNu (mGive z.2.2 i) t (nI n) < 0 by rw [en]; decide)]
          exact ⟨i1, i2, k2, k3.trans i4, k4.trans i5, k5.trans i6, fun q hq => (k6 q hq).trans (i7 q hq)⟩
        · rw [if_pos h0, if_neg (show ¬ mTryN eNu (mGive z.2.2 i) t (nI n) < 0 by rw [en]; exact nI_pos (by omega)), h4, en, i1]
          by_cases c2 : z.1 ≤ nI g
          · rw [if_pos c2, if_pos c2]
            exact ⟨rfl, i2, k2, k3.trans i4, k4.trans i5, k5.trans i6, fun q hq => (k6 q hq).trans (i7 q hq)⟩
          · rw [if_neg c2, if_neg c2]
            exact ⟨rfl, rfl, k2, k3.trans i4, k4.trans i5, k5.trans i6, fun q hq => (k6 q hq).trans (i7 q hq)⟩
    obtain ⟨m1, m2, m3, m4⟩ := main
    exact ⟨m1, m2, m3, m4, fun h1 h2 => (key _ (i + 1) W0 h1 m3 h2).1⟩
/-- bestGift, both sides -/
theorem eBestGift (hA : eAll B S (G 1) r M) (ht : t < 20) (hn : n ≤ 999) : mWishH eNu (mHold G) t (nI n) ∧ eQ G (mTryM eNu (mHold G) t (nI n)) ∧
    ((¬ wFul B (wBegin W S 1) (nI t) (nI n) 0 2 = 0 ∧ mTryN eNu (mHold G) t (nI n) = -3) ∨
     (wFul B (wBegin W S 1) (nI t) (nI n) 0 2 = 0 ∧ mTryN eNu (mHold G) t (nI n) ≠ -3 ∧ mBgH eNu G t (nI n) ∧ eQ G (mBg eNu G t (nI n) 20).2.2 ∧
      (it (bgStep B S (nI t) (nI n)) 20 (wFul B (wBegin W S 1) (nI t) (nI n) 0 4, -9, wFul B (wBegin W S 1) (nI t) (nI n))).2.1 = (mBg eNu G t (nI n) 20).2.1)) := by
  obtain ⟨hH, hQ⟩ := eHd.hold (G := G)
  obtain ⟨h1, h2, h3, h4⟩ := eTry (W := W) hA hH ht (show n ≤ 100000 by omega)
  refine ⟨h1, hQ.trans h3, ?_⟩
  rcases h4 with ⟨hf, -, en⟩ | ⟨g, hg, h0, -, e4, en, -⟩
  · exact Or.inl ⟨hf, en⟩
  · refine Or.inr ⟨h0, ?_, fun i hi hs => ?_, ?_, ?_⟩
    · rw [en]
      intro h
      have := (Int32.lt_iff_toInt_lt (x := nI g) (y := 0)).mp (by rw [h]; decide)
      rw [nI_toInt (by omega)] at this
      have e0 : (0 : Int32).toInt = 0 := by decide
      omega
    · have := eBgStep hA ht hn (mTryN eNu (mHold G) t (nI n)) (wFul B (wBegin W S 1) (nI t) (nI n)) h2 i (by omega)
      have em : mBg eNu G t (nI n) i = it (mBgS eNu t (nI n)) i (mTryN eNu (mHold G) t (nI n), -9, mTryM eNu (mHold G) t (nI n)) := by
        unfold mBg
        rfl
      rw [← em] at this
      exact this.2.2.2.2 hi hs
    · have := eBgStep hA ht hn (mTryN eNu (mHold G) t (nI n)) (wFul B (wBegin W S 1) (nI t) (nI n)) h2 20 (by omega)
      have hq := hQ.trans h3
      have em : mBg eNu G t (nI n) 20 = it (mBgS eNu t (nI n)) 20 (mTryN eNu (mHold G) t (nI n), -9, mTryM eNu (mHold G) t (nI n)) := by
        unfold mBg
        rfl
      rw [← em] at this
      generalize mBg eNu G t (nI n) 20 = z at this ⊢
      obtain ⟨-, -, k3, ⟨k4, k5, k6, k7⟩, -⟩ := this
      exact ⟨fun i hi => k3.1 i hi, k4.trans hq.2.1, k5.trans hq.2.2.1, k6.trans hq.2.2.2.1, fun q hq2 => (k7 q hq2).trans (hq.2.2.2.2 q hq2)⟩
    · have := eBgStep hA ht hn (mTryN eNu (mHold G) t (nI n)) (wFul B (wBegin W S 1) (nI t) (nI n)) h2 20 (by omega)
      rw [e4]
      unfold mBg
      rw [en] at this ⊢
      exact this.2.1
end EBG
