/-! ===== 57.pure8: gather, canHave, bestGift: both sides ===== -/
theorem eW_stat {w w' : Nat → Int32} {t : Nat} (e : mStat w w') (ht : t < 20) : eWy w' t = eWy w t ∧ eWc w' t = eWc w t ∧ eWs w' t = eWs w t ∧ (∀ k, k < 5 → eWi w' t k = eWi w t k ∧ eWa w' t k = eWa w t k) ∧ ∀ k, k < 3 → eWb w' t k = eWb w t k := by
  unfold eWy eWc eWs eWi eWa eWb
  refine ⟨by rw [e t 7 ht (by decide) (by decide)], by rw [e t 8 ht (by decide) (by decide)], by rw [e t 19 ht (by decide) (by decide)], fun k hk => ⟨by rw [e t (9 + 2 * k) ht (by omega) (by omega)], by rw [e t (9 + 2 * k + 1) ht (by omega) (by omega)]⟩, fun k hk => by rw [e t (20 + k) ht (by omega) (by omega)]⟩
theorem eVal.stat {w w' : Nat → Int32} (h : eVal w) (e : mStat w w') : eVal w' := by
  intro t ht
  obtain ⟨h7, h8, hz, h19, hi, hs, hv⟩ := h t ht
  obtain ⟨e7, e8, e19, ei, es⟩ := eW_stat e ht
  rw [e7, e8, e19]
  refine ⟨⟨by rw [e t 7 ht (by decide) (by decide)]; exact h7.1, h7.2⟩, ⟨by rw [e t 8 ht (by decide) (by decide)]; exact h8.1, h8.2⟩, hz, ⟨by rw [e t 19 ht (by decide) (by decide)]; exact h19.1, h19.2⟩, fun k hk => ?_, fun k hk => ?_, ?_⟩
  · rw [(ei k (by omega)).1, (ei k (by omega)).2, e t (9 + 2 * k) ht (by omega) (by omega), show 23 * t + (9 + 2 * k + 1) = 23 * t + (9 + 2 * k + 1) from rfl, e t (9 + 2 * k + 1) ht (by omega) (by omega)]
    exact hi k hk
  · rw [es k (by omega), e t (20 + k) ht (by omega) (by omega)]
    exact hs k hk
  · unfold mVes at hv ⊢
    rw [e t 1 ht (by decide) (by decide)]
    exact hv
theorem eCx.to {B : Nat → Nat → Int32} {w w' : Nat → Int32} (h : eCx B w) (e : mStat w w') : eCx B w' := by
  refine ⟨h.1.stat e, fun t ht => ?_⟩
  obtain ⟨e7, e8, e19, ei, es⟩ := eW_stat e ht
  obtain ⟨b7, b1, b2, b5, b3, b6⟩ := h.2 t ht
  have h8 := (h.1 t ht).2.1.2
  have h19 := (h.1 t ht).2.2.2.1.2
  rw [e8, e19]
  refine ⟨by rw [e t 1 ht (by decide) (by decide)]; exact b7, by rw [e t 7 ht (by decide) (by decide)]; exact b1, by rw [e t 8 ht (by decide) (by decide)]; exact b2, by rw [e t 19 ht (by decide) (by decide)]; exact b5, fun k hk => ?_, fun k hk => ?_⟩
  · rw [e t (9 + 2 * k) ht (by omega) (by omega), e t (9 + 2 * k + 1) ht (by omega) (by omega)]
    exact b3 k hk
  · rw [e t (20 + k) ht (by omega) (by omega)]
    exact b6 k hk
theorem eRk.to {w w' : Nat → Int32} {r : Nat → Nat} (h : eRk w r) (hv : eVal w) (e : mStat w w') : eRk w' r := by
  intro t ht hy
  obtain ⟨e7, e8, e19, ei, es⟩ := eW_stat e ht
  have h8 := (hv t ht).2.1.2
  obtain ⟨r1, r8, hr⟩ := h t ht (by rw [← e7]; exact hy)
  refine ⟨r1, r8, fun k hk => ?_⟩
  rw [e8] at hk
  have hi20 := ((hv t ht).2.2.2.2.1 k hk).2.1
  obtain ⟨e7', e8', e19', ei', es'⟩ := eW_stat e hi20
  have h19 := (hv _ hi20).2.2.2.1.2
  rw [(ei k (by omega)).1]
  refine ⟨(hr k hk).1, fun i hi => ?_⟩
  rw [e19'] at hi
  rw [es' i (by omega)]
  exact (hr k hk).2 i hi
theorem mStat_of {w w' : Nat → Int32} (h : ∀ i, i < 462 → w' i = w i) : mStat w w' := fun t k ht hk _ => h (23 * t + k) (by omega)
theorem eSk.to {S : Nat → Nat → Int32} {w w' : Nat → Int32} (h : eSk S w) (e : ∀ i, i < 462 → w' i = w i) : eSk S w' := by
  refine ⟨fun j t h1 h6 ht => ?_, ?_, ?_⟩
  · have := eOff_le (show j + 1 ≤ 7 by omega)
    rw [e _ (by omega)]
    exact h.1 j t h1 h6 ht
  · rw [e _ (by decide)]
    exact h.2.1
  · rw [e _ (by decide)]
    exact h.2.2
theorem eWm.to {w w' : Nat → Int32} (h : eWm w) (e : ∀ i, i < 462 → w' i = w i) : eWm w' := fun t ht => by
  rw [e _ (by omega)]
  exact h t ht
/-- the model's rows that count, unchanged -/
def eQ (G G' : Nat → Nat → Int32) : Prop := (∀ i, i < 462 → G' 1 i = G 1 i) ∧ G' 2 = G 2 ∧ G' 3 = G 3 ∧ G' 4 = G 4 ∧ ∀ q, q ≤ 8 → G' 0 q = G 0 q
theorem eQ.refl {G : Nat → Nat → Int32} : eQ G G := ⟨fun _ _ => rfl, rfl, rfl, rfl, fun _ _ => rfl⟩
theorem eQ.trans {A B C : Nat → Nat → Int32} (h : eQ A B) (g : eQ B C) : eQ A C := ⟨fun i hi => (g.1 i hi).trans (h.1 i hi), g.2.1.trans h.2.1, g.2.2.1.trans h.2.2.1, g.2.2.2.1.trans h.2.2.2.1, fun q hq => (g.2.2.2.2 q hq).trans (h.2.2.2.2 q hq)⟩
def eHd (w : Nat → Int32) (G : Nat → Nat → Int32) : Prop := (∀ i, i < 462 → G 1 i = w i) ∧ ∀ i, i < 462 → G 10 i = w i
theorem eHd.hold {G : Nat → Nat → Int32} : eHd (G 1) (mHold G) ∧ eQ G (mHold G) := by
  unfold mHold
  refine ⟨⟨fun i hi => by simp (disch := omega) only [zup_ne, zup_eq, upd_ne, upd_eq], fun i hi => ?_⟩, fun i hi => by simp (disch := omega) only [zup_ne, zup_eq, upd_ne, upd_eq], by simp (disch := omega) only [zup_ne, zup_eq, upd_ne, upd_eq], by simp (disch := omega) only [zup_ne, zup_eq, upd_ne, upd_eq], by simp (disch := omega) only [zup_ne, zup_eq, upd_ne, upd_eq], fun q hq => by simp (disch := omega) only [zup_ne, zup_eq, upd_ne, upd_eq]⟩
  rw [zup_eq]
  exact cCopy_in hi
theorem mRest_at {V : Nat → Nat → Int32} {i : Nat} (h : i < 462) : mRest V 1 i = V 10 i := by
  unfold mRest
  rw [zup_eq]
  exact cCopy_in h
theorem mRest_j {V : Nat → Nat → Int32} {j : Nat} (h : j ≠ 1) : mRest V j = V j := zup_ne h
section EWALL
variable {B S W G : Nat → Nat → Int32} {w : Nat → Int32} {r : Nat → Nat} {t n M : Nat}
/-- all that a making rests on -/
def eAll (B S : Nat → Nat → Int32) (w : Nat → Int32) (r : Nat → Nat) (M : Nat) : Prop := eCx B w ∧ eRk w r ∧ eSk S w ∧ eWm w ∧ cSum (S 3) 20 = nI M
theorem eAll.to {w' : Nat → Int32} (h : eAll B S w r M) (e : ∀ i, i < 462 → w' i = w i) : eAll B S w' r M := ⟨h.1.to (mStat_of e), h.2.1.to h.1.1 (mStat_of e), h.2.2.1.to e, h.2.2.2.1.to e, h.2.2.2.2⟩
theorem eRestH {X : Nat → Nat → Int32} (hH : eHd w G) (hK : eK 0 G X) : eHd w (mRest X) ∧ eQ G (mRest X) := by
  have h10 : X 10 = G 10 := hK.1 10 (by decide) (by decide) (by decide)
  refine ⟨⟨fun i hi => ?_, fun i hi => ?_⟩, fun i hi => ?_, ?_, ?_, ?_, fun q hq => ?_⟩
  · rw [mRest_at hi, h10]
    exact hH.2 i hi
  · rw [mRest_j (by decide), h10]
    exact hH.2 i hi
  · rw [mRest_at hi, h10, hH.2 i hi, hH.1 i hi]
  · rw [mRest_j (by decide)]
    exact hK.1 2 (by decide) (by decide) (by decide)
  · rw [mRest_j (by decide)]
    exact hK.1 3 (by decide) (by decide) (by decide)
  · rw [mRest_j (by decide)]
    exact hK.1 4 (by decide) (by decide) (by decide)
  · rw [mRest_j (by decide)]
    exact hK.2.1 q (by omega) (by omega) (by omega)
theorem eSub_id (a b : Int32) : a + b - a = b := by rw [Int32.add_comm, Int32.add_sub_cancel]
theorem eTry (hA : eAll B S w r M) (hH : eHd w G) (ht : t < 20) (hn : n ≤ 100000) :
    mWishH eNu G t (nI n) ∧ eHd w (mTryM eNu G t (nI n)) ∧ eQ G (mTryM eNu G t (nI n)) ∧
    ((¬ wFul B (wBegin W S 1) (nI t) (nI n) 0 2 = 0 ∧ ¬ mWish eNu G t (nI n) 0 16 = 0 ∧ mTryN eNu G t (nI n) = -3) ∨
      ∃ g, g ≤ 50000 + n ∧ wFul B (wBegin W S 1) (nI t) (nI n) 0 2 = 0 ∧ mWish eNu G t (nI n) 0 16 = 0 ∧ wFul B (wBegin W S 1) (nI t) (nI n) 0 4 = nI g ∧ mTryN eNu G t (nI n) = nI g ∧
        ∀ u, u < 20 → mTryV (mWish eNu G t (nI n)) (23 * u + 2) = wFul B (wBegin W S 1) (nI t) (nI n) 3 u - S 2 u) := by
  obtain ⟨cx, hrk, hS, hw, hM⟩ := hA.to hH.1
  obtain ⟨h1, hK, hE⟩ := eWish (W := W) cx hrk hS hw hM ht (show n ≤ 1000000 by omega)
  obtain ⟨hh, hq⟩ := eRestH hH hK
  refine ⟨h1, hh, hq, ?_⟩
  unfold mTryN mTryV
  have h10 : ∀ i, i < 462 → mRest (mWish eNu G t (nI n)) 1 i = G 1 i := fun i hi => by
    rw [mRest_at hi, hK.1 10 (by decide) (by decide) (by decide), hH.2 i hi, hH.1 i hi]
  rcases hE with ⟨hf, hf2⟩ | ⟨bt, g, M', hN, hT, hg, -, -⟩
  · exact Or.inl ⟨hf, hf2, if_neg hf2⟩
  · have h16 : mWish eNu G t (nI n) 0 16 = 0 := by rw [← hT.2.2.1]; exact hN.2.1
    have hbt := hN.2.2.2.2.1
    refine Or.inr ⟨g, by omega, hN.2.1, h16, hN.2.2.2.2.2.1, ?_, fun u hu => ?_⟩
    · rw [if_pos h16, h10 460 (by decide), hT.2.2.2.2, eSub_id]
      exact hN.2.2.2.2.2.1
    · rw [if_pos h16, h10 _ (by omega)]
      have e1 := hT.1 3 u (by decide) (by decide) hu
      have e2 := hS.1 2 u (by decide) (by decide) hu
      rw [show eOff 3 = 2 from rfl] at e1
      rw [show eOff (2 + 1) = 2 from rfl] at e2
      rw [e1, e2]
theorem eFul_le (hA : eAll B S w r M) (ht : t < 20) {a : Nat} (ha : a ≤ 99999) (ea : w (23 * t + 0) = nI a) (hn : n ≤ 100000) : (n ≤ a → wFul B (wBegin W S 1) (nI t) (nI n) = wBegin W S 1) ∧ (a < n → eWy w t = 0 → wFul B (wBegin W S 1) (nI t) (nI n) = wCol (wBegin W S 1) (nI t) (nI (n - a))) := by
  obtain ⟨cx, hrk, hS, hw, hM⟩ := hA
  have ew : wBegin W S 1 2 t = nI a := by
    rw [wBegin_j (by decide) (by decide) ht, ← ea]
    exact hS.1 1 t (by decide) (by decide) ht
  unfold wFul
  rw [eAt ht (by decide), ew]
  refine ⟨fun c => if_pos ((eSub_le (by omega) (by omega)).mpr c), fun c hy => ?_⟩
  rw [if_neg (fun h => by have := (eSub_le (by omega) (by omega)).mp h; omega), pk_sub (by omega)]
  unfold wProv
  rw [cx.made ht, if_pos hy, if_pos rfl]
theorem eWish_mk (hA : eAll B S (G 1) r M) (ht : t < 20) {a : Nat} (ha : a ≤ 99999) (ea : G 1 (23 * t + 0) = nI a) (hn : n ≤ 100000) (hc : a < n) (hy : eWy (G 1) t ≠ 0) : mWish eNu G t (nI n) = mFin eNu (mBegin (mBeg0 G) 0 (nI t) (nI ((n - a + eWy (G 1) t - 1) / eWy (G 1) t)) 0) := by
  have hy2 := (hA.1.1 t ht).1
  have em : mMiss G t (nI n) = nI (n - a) := by
    unfold mMiss
    rw [ea, pk_sub (by omega)]
  unfold mWish mWishB mFor
  rw [em, if_neg (nI_nle (by omega) (by omega)), hA.1.1.made ht, if_neg hy, if_neg (by decide), hy2.1, nI_add, show (1 : Int32) = nI 1 from rfl, pk_sub (by omega), pk_div (by omega) (by omega) (by omega)]
/-- how a wish of n comes true without gathering -/
def eP (B S : Nat → Nat → Int32) (t a y : Nat) (n : Nat) : Prop := n ≤ a ∨ (y ≠ 0 ∧ wRun B 9 (nI t) (nI ((n - a + y - 1) / y)) (wBegin zZero S 0) 0 2 = 0)
theorem eTry_0 (hA : eAll B S w r M) (hH : eHd w G) (ht : t < 20) {a : Nat} (ha : a ≤ 99999) (ea : w (23 * t + 0) = nI a) (hn : n ≤ 999) (hn1 : 1 ≤ n) : mTryN eNu G t (nI n) = 0 ↔ eP B S t a (eWy w t) n := by
  obtain ⟨h1, h2, h3, h4⟩ := eTry (W := zZero) hA hH ht (show n ≤ 100000 by omega)
  obtain ⟨f1, f2⟩ := eFul_le (W := zZero) hA ht ha ea (show n ≤ 100000 by omega)
  obtain ⟨b1, b2, b3, b4⟩ := wBegin_0 (W := zZero) (S := S) (g := 1)
  unfold eP
  by_cases c : n ≤ a
  · rw [f1 c] at h4
    refine ⟨fun _ => Or.inl c, fun _ => ?_⟩
    rcases h4 with ⟨hf, -⟩ | ⟨g, hg, -, -, e4, en, -⟩
    · exact absurd b2 hf
    · rw [en, ← e4, b4]
  · by_cases hy : eWy w t = 0
    · rw [f2 (by omega) hy] at h4
      refine ⟨fun h => ?_, fun h => h.elim (fun h => absurd h c) (fun h => absurd hy h.1)⟩
      exfalso
      rcases h4 with ⟨-, -, e3⟩ | ⟨g, hg, e0, -, e4, en, -⟩
      · rw [e3] at h
        exact absurd h (by decide)
      · have hN := eStart (W := zZero) (g := 1) hA.2.2.1 hA.2.2.2.1 hA.2.2.2.2
        rcases hN.col ht (show n - a ≤ 1000000 by omega) with hf | ⟨hc, -⟩
        · exact hf e0
        · have e5 := hc.2.2.2.2.2.1
          rw [e4] at e5
          have e6 := (nI_eq (by omega) (by omega)).mp e5
          rw [en] at h
          have := (nI_eq (a := g) (b := 0) (by omega) (by decide)).mp h
          omega
    · have hA' := hA.to hH.1
      have ey : eWy (G 1) t = eWy w t := (eW_stat (mStat_of hH.1) ht).1
      have em := eWish_mk hA' ht ha (by rw [hH.1 _ (by omega)]; exact ea) (show n ≤ 100000 by omega) (by omega) (by rw [ey]; exact hy)
      rw [ey] at em
      have hd := eDiv_le (show 1 ≤ n - a by omega) (show 1 ≤ eWy w t by omega)
      obtain ⟨cx, hrk, hS, hw, hM⟩ := hA'
      have hC := eHvC (W := zZero) cx hrk hS hw hM ht (by rw [ey]; exact hy) (show (n - a + eWy w t - 1) / eWy w t ≤ 1000000 by omega)
      rw [← em] at hC
      have hK := (eWish (W := zZero) cx hrk hS hw hM ht (show n ≤ 1000000 by omega)).2.1
      have h10 : mRest (mWish eNu G t (nI n)) 1 460 = G 1 460 := by
        rw [mRest_at (by decide), hK.1 10 (by decide) (by decide) (by decide), hH.2 _ (by decide), hH.1 _ (by decide)]
      have e1 : mTryN eNu G t (nI n) = 0 ↔ (mWish eNu G t (nI n) 0 16 = 0 ∧ mWish eNu G t (nI n) 1 460 = G 1 460) := by
        unfold mTryN mTryV
        rw [h10]
        by_cases c16 : mWish eNu G t (nI n) 0 16 = 0
        · rw [if_pos c16]
          refine ⟨fun h => ⟨c16, ?_⟩, fun h => by rw [h.2, Int32.sub_self]⟩
          have := Int32.sub_add_cancel (mWish eNu G t (nI n) 1 460) (G 1 460)
          rw [h, Int32.zero_add] at this
          exact this.symm
        · rw [if_neg c16]
          exact ⟨fun h => absurd h (by decide), fun h => absurd h.1 c16⟩
      rw [e1, ← hC]
      exact ⟨fun h => Or.inr ⟨hy, h⟩, fun h => h.elim (fun h => absurd h c) (fun h => h.2)⟩
theorem eHvM (hA : eAll B S w r M) (ht : t < 20) {a : Nat} (ha : a ≤ 99999) (ea : w (23 * t + 0) = nI a) : ∀ n, n ≤ 999 → ∀ G, eHd w G → mHvH eNu t n G ∧ eHd w (mHvIt eNu t n G).2 ∧ eQ G (mHvIt eNu t n G).2 ∧ ∃ m, m ≤ n ∧ (mHvIt eNu t n G).1 = nI m ∧ (m = 0 ∨ eP B S t a (eWy w t) m) ∧ ∀ k, m < k → k ≤ n → ¬ eP B S t a (eWy w t) k := by
  intro n
  induction n with
  | zero => exact fun _ G hH => ⟨trivial, hH, eQ.refl, 0, Nat.le_refl _, rfl, Or.inl rfl, fun k h1 h2 => by omega⟩
  | succ n ih =>
    intro hn G hH
    obtain ⟨h1, h2, h3, -⟩ := eTry (W := zZero) hA hH ht (show n + 1 ≤ 100000 by omega)
    have h0 := eTry_0 hA hH ht ha ea hn (by omega)
    obtain ⟨i1, i2, i3, m, hm, em, hp, hk⟩ := ih (by omega) _ h2
    refine ⟨⟨h1, i1⟩, ?_⟩
    unfold mHvIt
    by_cases c : mTryN eNu G t (nI (n + 1)) = 0
    · rw [if_pos c]
      exact ⟨h2, h3, n + 1, Nat.le_refl _, rfl, Or.inr (h0.mp c), fun k h1 h2 => by omega⟩
    · rw [if_neg c]
      refine ⟨i2, h3.trans i3, m, by omega, em, hp, fun k k1 k2 => ?_⟩
      by_cases e : k = n + 1
      · subst e
        exact fun h => c (h0.mpr h)
      · exact hk k k1 (by omega)
theorem eHvB (hA : eAll B S w r M) (ht : t < 20) (hy : eWy w t ≠ 0) : ∀ m, m ≤ 500 → ∀ W, ((hvIt B S (nI t) m W).1 = none ∧ ∀ c, 1 ≤ c → c ≤ m → ¬ wRun B 9 (nI t) (nI c) (wBegin zZero S 0) 0 2 = 0) ∨
    ∃ c, 1 ≤ c ∧ c ≤ m ∧ (hvIt B S (nI t) m W).1 = some (nI c) ∧ wRun B 9 (nI t) (nI c) (wBegin zZero S 0) 0 2 = 0 ∧ ∀ k, c < k → k ≤ m → ¬ wRun B 9 (nI t) (nI k) (wBegin zZero S 0) 0 2 = 0 := by
  intro m
  induction m with
  | zero => exact fun _ W => Or.inl ⟨rfl, fun c h1 h2 => by omega⟩
  | succ m ih =>
    intro hm W
    obtain ⟨cx, hrk, hS, hw, hM⟩ := hA
    have e1 := eHvC (G := fun j => w) (W := W) cx hrk hS hw hM ht hy (show m + 1 ≤ 1000000 by omega)
    have e2 := eHvC (G := fun j => w) (W := zZero) cx hrk hS hw hM ht hy (show m + 1 ≤ 1000000 by omega)
    have e3 := e1.trans e2.symm
    unfold hvIt
    by_cases c : wRun B 9 (nI t) (nI (m + 1)) (wBegin W S 0) 0 2 = 0
    · rw [if_pos c]
      exact Or.inr ⟨m + 1, by omega, Nat.le_refl _, rfl, e3.mp c, fun k h1 h2 => by omega⟩
    · rw [if_neg c]
      rcases ih (by omega) (wRun B 9 (nI t) (nI (m + 1)) (wBegin W S 0)) with ⟨h1, h2⟩ | ⟨d, d1, d2, d3, d4, d5⟩
      · refine Or.inl ⟨h1, fun k k1 k2 => ?_⟩
        by_cases e : k = m + 1
        · subst e
          exact fun h => c (e3.mpr h)
        · exact h2 k k1 (by omega)
      · refine Or.inr ⟨d, d1, by omega, d3, d4, fun k k1 k2 => ?_⟩
        by_cases e : k = m + 1
        · subst e
          exact fun h => c (e3.mpr h)
        · exact d5 k k1 (by omega)
theorem cMin_n {a b : Nat} (ha : a < 2 ^ 31) (hb : b < 2 ^ 31) : cMin (nI a) (nI b) = nI (min a b) := by
  unfold cMin
  by_cases c : nI b < nI a
  · rw [if_pos c, Nat.min_eq_right (by have := (nI_ltI hb ha).mp c; omega)]
  · rw [if_neg c, Nat.min_eq_left]
    rcases Nat.lt_or_ge b a with h | h
    · exact absurd ((nI_ltI hb ha).mpr h) c
    · exact h
theorem eDiv_iff {m y c : Nat} (hy : 1 ≤ y) : (m + y - 1) / y ≤ c ↔ m ≤ y * c := by
  rw [Nat.div_le_iff_le_mul (by omega)]
  constructor
  · intro h
    have : c * y = y * c := Nat.mul_comm c y
    omega
  · intro h
    have : c * y = y * c := Nat.mul_comm c y
    omega
/-- canHave, both sides -/
theorem eCanHave (hA : eAll B S (G 1) r M) (ht : t < 20) : mHvH eNu t 999 (mHold G) ∧ eQ G (mHvIt eNu t 999 (mHold G)).2 ∧
    (bYield B (nI t) < 1 → cMin (cAt 20 (S 1) (nI t)) 999 = (mHvIt eNu t 999 (mHold G)).1) ∧
    (¬ bYield B (nI t) < 1 → hvRes (cMin (cAt 20 (S 1) (nI t)) 999) (bYield B (nI t)) (hvIt B S (nI t) (cMin (cDivUp (999 - cMin (cAt 20 (S 1) (nI t)) 999) (bYield B (nI t))) 500).toNatClampNeg W).1 = (mHvIt eNu t 999 (mHold G)).1) := by
  obtain ⟨hH, hQ⟩ := eHd.hold (G := G)
  obtain ⟨a, ha, ea⟩ := hA.2.2.2.1 t ht
  obtain ⟨h1, h2, h3, m, hm, em, hp, hk⟩ := eHvM hA ht ha ea 999 (by decide) (mHold G) hH
  refine ⟨h1, hQ.trans h3, ?_⟩
  rw [em]
  have hS1 : S 1 t = nI a := by
    rw [← ea]
    exact hA.2.2.1.1 1 t (by decide) (by decide) ht
  have hth : cMin (cAt 20 (S 1) (nI t)) 999 = nI (min a 999) := by
    rw [eAt ht (by decide), hS1]
    exact cMin_n (b := 999) (by omega) (by decide)
  have hy2 := (hA.1.1 t ht).1.2
  rw [hth, hA.1.yield ht]
  constructor
  · intro c
    have hy : eWy (G 1) t = 0 := by
      have := (nI_ltI (a := eWy (G 1) t) (b := 1) (by omega) (by decide)).mp c
      omega
    have hpn : ∀ k, eP B S t a (eWy (G 1) t) k ↔ k ≤ a := fun k => ⟨fun h => h.elim id (fun h => absurd hy h.1), Or.inl⟩
    refine congrArg nI ?_
    by_cases c2 : m < min a 999
    · exact absurd ((hpn (min a 999)).mpr (by omega)) (hk _ c2 (by omega))
    · rcases hp with rfl | hp
      · omega
      · have := (hpn m).mp hp
        omega
  · intro c
    have hy : 1 ≤ eWy (G 1) t := by
      rcases Nat.eq_zero_or_pos (eWy (G 1) t) with h0 | h0
      · exact absurd (by rw [h0]; decide) c
      · exact h0
    have e9 : (999 : Int32) - nI (min a 999) = nI (999 - min a 999) := pk_sub (a := 999) (by omega)
    have hdl : (999 - min a 999 + eWy (G 1) t - 1) / eWy (G 1) t ≤ 1000 := (eDiv_iff hy).mpr (by
      have : 1 * 1000 ≤ eWy (G 1) t * 1000 := Nat.mul_le_mul_right 1000 hy
      omega)
    rw [e9, eDiv (show 999 - min a 999 ≤ 1000000 by omega) hy hy2, show (500 : Int32) = nI 500 from rfl, cMin_n (by omega) (by decide), nI_clamp (by omega)]
    have hN0 := eStart (W := zZero) (g := 0) hA.2.2.1 hA.2.2.2.1 hA.2.2.2.2
    have h500 : ∀ c, c ≤ 1000000 → 500 < c → ¬ wRun B 9 (nI t) (nI c) (wBegin zZero S 0) 0 2 = 0 := fun c h1 h2 => eRun_500 hN0 h1 h2
    generalize hDD : (999 - min a 999 + eWy (G 1) t - 1) / eWy (G 1) t = D at hdl ⊢
    have hD : ∀ k, k ≤ 999 → a < k → (k - a + eWy (G 1) t - 1) / eWy (G 1) t ≤ D := by
      intro k k1 k2
      rw [eDiv_iff hy]
      have := (eDiv_iff (m := 999 - min a 999) (c := D) hy).mp (by omega)
      omega
    have hnot : ∀ k, a < k → ¬ wRun B 9 (nI t) (nI ((k - a + eWy (G 1) t - 1) / eWy (G 1) t)) (wBegin zZero S 0) 0 2 = 0 → ¬ eP B S t a (eWy (G 1) t) k := fun k h1 h2 h => h.elim (fun h => by omega) (fun h => h2 h.2)
    rcases eHvB hA ht (by omega) (min D 500) (by omega) W with ⟨hn, hnone⟩ | ⟨d, d1, d2, d3, d4, d5⟩
    · rw [hn]
      show nI (min a 999) = nI m
      refine congrArg nI ?_
      have hall : ∀ k, a < k → k ≤ 999 → ¬ eP B S t a (eWy (G 1) t) k := by
        intro k k1 k2
        refine hnot k k1 ?_
        have hd := eDiv_le (show 1 ≤ k - a by omega) hy
        have := hD k k2 k1
        by_cases c5 : (k - a + eWy (G 1) t - 1) / eWy (G 1) t ≤ 500
        · exact hnone _ hd.1 (by omega)
        · exact h500 _ (by omega) (by omega)
      by_cases c2 : m < min a 999
      · exact absurd (Or.inl (by omega)) (hk _ c2 (by omega))
      · rcases hp with rfl | hp
        · omega
        · by_cases c3 : a < m
          · exact absurd hp (hall m c3 hm)
          · omega
    · rw [d3]
      have ha999 : a < 999 := by
        rcases Nat.lt_or_ge a 999 with h | h
        · exact h
        · exfalso
          have h9 : 999 - min a 999 = 0 := by omega
          rw [h9] at hDD
          have : (0 + eWy (G 1) t - 1) / eWy (G 1) t = 0 := Nat.div_eq_of_lt (by omega)
          omega
      have hmin : min a 999 = a := by omega
      show cMin (nI (min a 999) + nI (eWy (G 1) t) * nI d) 999 = nI m
      have hyd : eWy (G 1) t * d ≤ 20 * 500 := Nat.mul_le_mul hy2 (by omega)
      rw [pk_mul, nI_add, hmin, show (999 : Int32) = nI 999 from rfl, cMin_n (by omega) (by decide)]
      refine congrArg nI ?_
      generalize hY : eWy (G 1) t * d = Y at hyd ⊢
      have hpN : eP B S t a (eWy (G 1) t) (min (a + Y) 999) := by
        refine Or.inr ⟨by omega, ?_⟩
        have hYpos : 1 ≤ Y := by
          have : 1 * 1 ≤ eWy (G 1) t * d := Nat.mul_le_mul hy d1
          omega
        have e1 : (min (a + Y) 999 - a + eWy (G 1) t - 1) / eWy (G 1) t = d := by
          refine Nat.le_antisymm ((eDiv_iff hy).mpr (by rw [hY]; omega)) ?_
          rcases Nat.lt_or_ge ((min (a + Y) 999 - a + eWy (G 1) t - 1) / eWy (G 1) t) d with h | h
          · exfalso
            have h6 := (eDiv_iff (c := d - 1) hy).mp (show (min (a + Y) 999 - a + eWy (G 1) t - 1) / eWy (G 1) t ≤ d - 1 by omega)
            have h7 : eWy (G 1) t * d = eWy (G 1) t * (d - 1) + eWy (G 1) t := by
              obtain ⟨z, rfl⟩ : ∃ z, d = z + 1 := ⟨d - 1, by omega⟩
              rw [Nat.add_sub_cancel, Nat.mul_succ]
            by_cases c9 : a + Y ≤ 999
            · omega
            · have h8 : ¬ D ≤ d - 1 := by omega
              rw [← hDD, eDiv_iff hy] at h8
              omega
          · exact h
        rw [e1]
        exact d4
      have hafter : ∀ k, min (a + Y) 999 < k → k ≤ 999 → ¬ eP B S t a (eWy (G 1) t) k := by
        intro k k1 k2
        refine hnot k (by omega) ?_
        have hd := eDiv_le (show 1 ≤ k - a by omega) hy
        have h4 := hD k k2 (by omega)
        have h5 : ¬ (k - a + eWy (G 1) t - 1) / eWy (G 1) t ≤ d := by
          rw [eDiv_iff hy, hY]
          omega
        by_cases c5 : (k - a + eWy (G 1) t - 1) / eWy (G 1) t ≤ 500
        · exact d5 _ (by omega) (by omega)
        · exact h500 _ (by omega) (by omega)
      by_cases c2 : m < min (a + Y) 999
      · exact absurd hpN (hk _ c2 (by omega))
      · rcases hp with rfl | hp
        · omega
        · by_cases c3 : min (a + Y) 999 < m
          · exact absurd hp (hafter m c3 hm)
          · omega
end EWALL
