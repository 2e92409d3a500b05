/-! ===== 77.pureB: the book changed: both sides ===== -/
def eVT (w : Nat → Int32) (t : Nat) : Prop := (w (23 * t + 7) = nI (eWy w t) ∧ eWy w t ≤ 20) ∧ (w (23 * t + 8) = nI (eWc w t) ∧ eWc w t ≤ 5) ∧ (eWy w t = 0 → eWc w t = 0) ∧ (w (23 * t + 19) = nI (eWs w t) ∧ eWs w t ≤ 3) ∧
  (∀ k, k < eWc w t → w (23 * t + (9 + 2 * k)) = nI (eWi w t k) ∧ eWi w t k < 20 ∧ w (23 * t + (9 + 2 * k + 1)) = nI (eWa w t k) ∧ 1 ≤ eWa w t k ∧ eWa w t k ≤ 20) ∧ (∀ k, k < eWs w t → w (23 * t + (20 + k)) = nI (eWb w t k) ∧ eWb w t k < 20) ∧ mVes w t
def eBT (B : Nat → Nat → Int32) (w : Nat → Int32) (t : Nat) : Prop := B 7 t = w (23 * t + 1) ∧ B 1 t = w (23 * t + 7) ∧ B 2 t = w (23 * t + 8) ∧ B 5 t = w (23 * t + 19) ∧
  (∀ k, k < eWc w t → B 3 (t * 5 + k) = w (23 * t + (9 + 2 * k)) ∧ B 4 (t * 5 + k) = w (23 * t + (9 + 2 * k + 1))) ∧ ∀ k, k < eWs w t → B 6 (t * 3 + k) = w (23 * t + (20 + k))
theorem eCx.at {B : Nat → Nat → Int32} {w : Nat → Int32} (h : eCx B w) {t : Nat} (ht : t < 20) : eVT w t ∧ eBT B w t := ⟨h.1 t ht, h.2 t ht⟩
theorem eCx.of {B : Nat → Nat → Int32} {w : Nat → Int32} (h : ∀ t, t < 20 → eVT w t ∧ eBT B w t) : eCx B w := ⟨fun t ht => (h t ht).1, fun t ht => (h t ht).2⟩
/-- the row of t is the same -/
def eRow (w w' : Nat → Int32) (t : Nat) : Prop := ∀ k, k < 23 → (k = 1 ∨ 7 ≤ k) → w' (23 * t + k) = w (23 * t + k)
theorem eRow.w {w w' : Nat → Int32} {t : Nat} (e : eRow w w' t) : eWy w' t = eWy w t ∧ eWc w' t = eWc w t ∧ eWs w' t = eWs w t ∧ (∀ k, k < 5 → eWi w' t k = eWi w t k ∧ eWa w' t k = eWa w t k) ∧ ∀ k, k < 3 → eWb w' t k = eWb w t k := by
  unfold eWy eWc eWs eWi eWa eWb
  exact ⟨by rw [e 7 (by decide) (by decide)], by rw [e 8 (by decide) (by decide)], by rw [e 19 (by decide) (by decide)], fun k hk => ⟨by rw [e (9 + 2 * k) (by omega) (by omega)], by rw [e (9 + 2 * k + 1) (by omega) (by omega)]⟩, fun k hk => by rw [e (20 + k) (by omega) (by omega)]⟩
theorem eVT.row {w w' : Nat → Int32} {t : Nat} (h : eVT w t) (e : eRow w w' t) : eVT w' t := by
  obtain ⟨h7, h8, hz, h19, hi, hs, hv⟩ := h
  obtain ⟨e7, e8, e19, ei, es⟩ := e.w
  unfold eVT
  rw [e7, e8, e19]
  refine ⟨⟨by rw [e 7 (by decide) (by decide)]; exact h7.1, h7.2⟩, ⟨by rw [e 8 (by decide) (by decide)]; exact h8.1, h8.2⟩, hz, ⟨by rw [e 19 (by decide) (by decide)]; exact h19.1, h19.2⟩, fun k hk => ?_, fun k hk => ?_, ?_⟩
  · rw [(ei k (by omega)).1, (ei k (by omega)).2, e (9 + 2 * k) (by omega) (by omega), e (9 + 2 * k + 1) (by omega) (by omega)]
    exact hi k hk
  · rw [es k (by omega), e (20 + k) (by omega) (by omega)]
    exact hs k hk
  · unfold mVes at hv ⊢
    rw [e 1 (by decide) (by decide)]
    exact hv
theorem eBT.row {B B' : Nat → Nat → Int32} {w w' : Nat → Int32} {t : Nat} (h : eBT B w t) (hv : eVT w t) (e : eRow w w' t) (h1 : ∀ j, j = 1 ∨ j = 2 ∨ j = 5 ∨ j = 7 → B' j t = B j t) (h3 : ∀ j k, j = 3 ∨ j = 4 → k < 5 → B' j (t * 5 + k) = B j (t * 5 + k)) (h6 : ∀ k, k < 3 → B' 6 (t * 3 + k) = B 6 (t * 3 + k)) : eBT B' w' t := by
  obtain ⟨e7, e8, e19, ei, es⟩ := e.w
  obtain ⟨b7, b1, b2, b5, b3, b6⟩ := h
  have h8 := hv.2.1.2
  have h19 := hv.2.2.2.1.2
  unfold eBT
  rw [e8, e19, h1 7 (by omega), h1 1 (by omega), h1 2 (by omega), h1 5 (by omega)]
  refine ⟨by rw [e 1 (by decide) (by decide)]; exact b7, by rw [e 7 (by decide) (by decide)]; exact b1, by rw [e 8 (by decide) (by decide)]; exact b2, by rw [e 19 (by decide) (by decide)]; exact b5, fun k hk => ?_, fun k hk => ?_⟩
  · rw [e (9 + 2 * k) (by omega) (by omega), e (9 + 2 * k + 1) (by omega) (by omega), h3 3 k (by omega) (by omega), h3 4 k (by omega) (by omega)]
    exact b3 k hk
  · rw [e (20 + k) (by omega) (by omega), h6 k (by omega)]
    exact b6 k hk
/-- what is behind the numbers is the same -/
def mLow (w w' : Nat → Int32) : Prop := (∀ t k, t < 20 → k < 7 → w' (23 * t + k) = w (23 * t + k)) ∧ w' 460 = w 460 ∧ w' 461 = w 461
theorem mLow.sk {S : Nat → Nat → Int32} {w w' : Nat → Int32} (l : mLow w w') (h : eSk S w) : eSk S w' := ⟨fun j t h1 h6 ht => by
    have := eOff_le (show j + 1 ≤ 7 by omega)
    rw [l.1 t _ ht (by omega)]
    exact h.1 j t h1 h6 ht, by rw [l.2.2]; exact h.2.1, by rw [l.2.1]; exact h.2.2⟩
theorem mLow.wm {w w' : Nat → Int32} (l : mLow w w') (h : eWm w) : eWm w' := fun t ht => by
  obtain ⟨a, ha, e⟩ := h t ht
  exact ⟨a, ha, by rw [l.1 t 0 ht (by decide)]; exact e⟩
theorem eSt.book {B S D : Nat → Nat → Int32} {w w' : Nat → Int32} {N : Nat} (h : eSt B S w N) (l : mLow w w') (cx : eCx D w') (hr : ∀ t, t < 20 → (bFind D).1 t = nI (nRs w' 12 t) ∧ nRs w' 12 t ≤ 8) (hk : eRk w' (nRs w' 12)) : eSt (tFind D) S w' N := by
  obtain ⟨-, -, -, hsk, hwm, hM, g, hg, eg⟩ := h
  refine ⟨⟨cx.1, fun t ht => ?_⟩, fun t ht => ?_, hk, l.sk hsk, l.wm hwm, hM, g, hg, l.2.1.trans eg⟩
  · unfold tFind
    rw [zup_ne (by decide), zup_ne (by decide), zup_ne (by decide), zup_ne (by decide), zup_ne (by decide), zup_ne (by decide), zup_ne (by decide)]
    exact cx.2 t ht
  · unfold tFind
    rw [zup_eq]
    exact hr t ht
/-- fewer needs keep the ranks -/
theorem eRk.less {w w' : Nat → Int32} {r : Nat → Nat} (h : eRk w r) (hv : eVal w) (h1 : ∀ t, t < 20 → eWy w' t ≠ 0 → eWy w t ≠ 0 ∧ eWc w' t = eWc w t ∧ ∀ k, k < 5 → eWi w' t k = eWi w t k) (h2 : ∀ p, p < 20 → ∀ i, i < eWs w' p → ∃ i', i' < eWs w p ∧ eWb w' p i = eWb w p i') : eRk w' r := by
  intro t ht hy
  obtain ⟨y, ec, ei⟩ := h1 t ht hy
  obtain ⟨r1, r8, hr⟩ := h t ht y
  refine ⟨r1, r8, fun k hk => ?_⟩
  rw [ec] at hk
  have c5 := (hv t ht).2.1.2
  have i20 := ((hv t ht).2.2.2.2.1 k hk).2.1
  rw [ei k (by omega)]
  refine ⟨(hr k hk).1, fun i hi => ?_⟩
  obtain ⟨i', hi', e⟩ := h2 _ i20 i hi
  rw [e]
  exact (hr k hk).2 i' hi'
section EBOOK
variable {N χ : Nat} {sh : zSh} {F : Nat → Nat → Int32} {P : Nat → Nat → Option Nat}
theorem k_forget (h : LI N sh F P χ) (t : Int32) : eCall N χ yX6_forget wsX6_forget 6 yX7_forget wsX7_forget 3 [.int t] sh F P := by
  obtain ⟨hY, hMd, G, hV, hE⟩ := id h
  obtain ⟨cx, hrn, hrk, -⟩ := id hE.1
  obtain ⟨o, s, ho, hs, f1, f2, g2⟩ := hE.ring
  rcases eThg t with ⟨ht, ht'⟩ | ⟨a, ha, rfl, ht, ht'⟩
  · exact eCall.ask0 h (c_X6_forget_b hY ht) (c_X7_forget_b hMd hV ht')
  by_cases hy : eWy (G 1) a = 0
  · exact eCall.ask0 h (c_X6_forget_n hY ht (by rw [cx.made ha, if_pos hy])) (c_X7_forget_n hMd hV ha (by rw [cx.1.made ha, if_pos hy]))
  have m1 := c_X6_forget_o (F := F) hY ho hs f1 f2 ht (by rw [cx.made ha, if_neg hy]; decide)
  rw [cx.yield ha, ← (cx.1 a ha).1.1] at m1
  have m2 := fun {sh' : zSh} {F' : Nat → Nat → Int32} {P' : Nat → Nat → Option Nat} (hm : zMd sh' P' (χ + 41)) (hv : zVw F' (χ + 41) 13 G) => c_X7_forget_o (t := a) hm hv ha (by rw [cx.1.made ha, if_neg hy]; decide) hs g2
  generalize hw' : upd (upd (G 1) (23 * a + 7) 0) (23 * a + 8) 0 = w' at m2
  have w7 : w' (23 * a + 7) = 0 := by rw [← hw', upd_ne (by omega), upd_eq]
  have w8 : w' (23 * a + 8) = 0 := by rw [← hw', upd_eq]
  have wn : ∀ i, i ≠ 23 * a + 7 → i ≠ 23 * a + 8 → w' i = G 1 i := fun i h1 h2 => by rw [← hw', upd_ne h2, upd_ne h1]
  have hrow : ∀ t, t ≠ a → eRow (G 1) w' t := fun t hne k hk h1 => wn _ (by omega) (by omega)
  have y0 : eWy w' a = 0 := by unfold eWy; rw [w7]; rfl
  have c0 : eWc w' a = 0 := by unfold eWc; rw [w8]; rfl
  have s0 : ∀ t, eWs w' t = eWs (G 1) t := fun t => by
    by_cases e : t = a
    · unfold eWs
      rw [wn _ (by omega) (by omega)]
    · exact (hrow t e).w.2.2.1
  have b0 : ∀ t k, k < 3 → eWb w' t k = eWb (G 1) t k := fun t k hk => by
    unfold eWb
    rw [wn _ (by omega) (by omega)]
  have cxD : eCx (bStrike (zsub F (χ + 1)) (nI a)) w' := by
    refine eCx.of fun t ht => ?_
    obtain ⟨hv, hb⟩ := cx.at ht
    by_cases e : t = a
    · subst e
      obtain ⟨h7, h8, hz, h19, hi, hs, hvs⟩ := hv
      obtain ⟨b7, b1, b2, b5, b3, b6⟩ := hb
      refine ⟨⟨⟨by rw [y0]; exact w7, by omega⟩, ⟨by rw [c0]; exact w8, by omega⟩, fun _ => c0, ⟨by rw [s0, wn _ (by omega) (by omega)]; exact h19.1, by rw [s0]; exact h19.2⟩, fun k hk => by omega, fun k hk => ?_, ?_⟩, ?_, ?_, ?_, ?_, fun k hk => by omega, fun k hk => ?_⟩
      · rw [s0] at hk
        rw [b0 t k (by omega), wn _ (by omega) (by omega)]
        exact hs k hk
      · unfold mVes at hvs ⊢
        rw [wn _ (by omega) (by omega)]
        exact hvs
      · unfold bStrike
        rw [zup_ne (by decide), zup_ne (by decide), wn _ (by omega) (by omega)]
        exact b7
      · unfold bStrike
        rw [zup_ne (by decide), zup_eq, ePut ha (by decide), upd_eq, w7]
      · unfold bStrike
        rw [zup_eq, ePut ha (by decide), upd_eq, w8]
      · unfold bStrike
        rw [zup_ne (by decide), zup_ne (by decide), wn _ (by omega) (by omega)]
        exact b5
      · unfold bStrike
        rw [s0] at hk
        rw [zup_ne (by decide), zup_ne (by decide), wn _ (by omega) (by omega)]
        exact b6 k hk
    · refine ⟨hv.row (hrow t e), hb.row hv (hrow t e) (fun j hj => ?_) (fun j k hj hk => ?_) (fun k hk => ?_)⟩
      · unfold bStrike
        rcases hj with rfl | rfl | rfl | rfl
        · rw [zup_ne (by decide), zup_eq, ePut ha (by decide), upd_ne e]
        · rw [zup_eq, ePut ha (by decide), upd_ne e]
        · rw [zup_ne (by decide), zup_ne (by decide)]
        · rw [zup_ne (by decide), zup_ne (by decide)]
      · unfold bStrike
        rw [zup_ne (by omega), zup_ne (by omega)]
      · unfold bStrike
        rw [zup_ne (by decide), zup_ne (by decide)]
  have hrk' : eRk w' (nRs (G 1) 12) := hrk.less cx.1 (fun t ht hy' => by
    have e : t ≠ a := fun e => hy' (by rw [e]; exact y0)
    obtain ⟨q1, q2, q3, q4, q5⟩ := (hrow t e).w
    exact ⟨by rw [← q1]; exact hy', q2, fun k hk => (q4 k hk).1⟩) (fun p hp i hi => by
    rw [s0] at hi
    have := (cx.1 p hp).2.2.2.1.2
    exact ⟨i, hi, b0 p i (by omega)⟩)
  obtain ⟨-, q2, q3⟩ := eFind_under cxD hrk'
  have l : mLow (G 1) w' := ⟨fun t k ht hk => wn _ (by omega) (by omega), wn _ (by omega) (by omega), wn _ (by omega) (by omega)⟩
  have hst := hE.1.book l cxD q2 q3
  obtain ⟨r3, r4, r0⟩ := eRem_0 (G := G) (s := s) (x := w')
  refine eCall.push hY hMd hV hE ho hs f1 f2 eKeep.refl (fun _ _ _ => rfl) (fun i hi => zput_ne (by omega)) (mPsh.up hs) r3 r4 r0 ?_ m1 m2
  rw [zup_eq]
  refine hst.to (eBeq.of fun j h1 h8 => ?_) (eSeq.of fun j h6 => ?_) (fun _ _ => rfl) (by omega)
  · show zput (tF F P χ o s) (χ + 1) 9 _ (χ + 1 + j) = _
    rw [zput_at (by omega)]
  · show zput (tF F P χ o s) (χ + 1) 9 _ (χ + 19 + j) = F (χ + 19 + j)
    rw [zput_ne (by omega), Nat.add_assoc, tF_j (by omega) (by omega)]
end EBOOK
