/-! ===== 49.bchg: the book changed ===== -/
theorem bInv.mk {D : Nat → Nat → Int32} {w : Nat → Int32} (cx : eCx D w) (q2 : ∀ t, t < 20 → (bFind D).1 t = nI (nRs w 12 t) ∧ nRs w 12 t ≤ 8) (q3 : eRk w (nRs w 12)) (yc : ∀ t, t < 20 → eWy w t ≠ 0 → 1 ≤ eWc w t)
    (vv : ∀ t, t < 20 → w (23 * t + 1) = -9 ∨ ∃ v, v < 20 ∧ v ≠ t ∧ w (23 * t + 1) = nI v ∧ w (23 * v + 1) = -9) (sb : ∀ t, t < 20 → ∀ i, i < eWs w t → eWb w t i ≠ t) : bInv (tFind D) w := by
  refine ⟨?_, fun t ht => ?_, q3, yc, vv, sb⟩
  · unfold tFind
    exact cx.up8
  · unfold tFind
    rw [zup_eq]
    exact q2 t ht
theorem bInv.beq {B B' : Nat → Nat → Int32} {w : Nat → Int32} (h : bInv B w) (e : eBeq B B') : bInv B' w :=
  ⟨⟨h.1.1, h.1.2.beq h.1.1 e⟩, fun t ht => ⟨(e 8 t (by decide) (by decide) ht).trans (h.2.1 t ht).1, (h.2.1 t ht).2⟩, h.2.2⟩
theorem eBeq.zeq {B B' : Nat → Nat → Int32} (h : zEq 9 B B') : eBeq B B' := fun j t _ h8 _ => by rw [h j (by omega)]
section BCHG
variable {B : Nat → Nat → Int32} {w : Nat → Int32} {a : Nat}
theorem bInv.strike (h : bInv B w) (ha : a < 20) : ∃ w', bInv (tFind (bStrike B (nI a))) w' := by
  obtain ⟨cx, hrn, hrk, yc, vv, sb⟩ := h
  generalize hw' : upd (upd w (23 * a + 7) 0) (23 * a + 8) 0 = w'
  have w7 : w' (23 * a + 7) = 0 := by rw [← hw', upd_ne (by omega), upd_eq]
  have w8 : w' (23 * a + 8) = 0 := by rw [← hw', upd_eq]
  have wn : ∀ i, i ≠ 23 * a + 7 → i ≠ 23 * a + 8 → w' i = w i := fun i h1 h2 => by rw [← hw', upd_ne h2, upd_ne h1]
  have hrow : ∀ t, t ≠ a → eRow w w' t := fun t hne k hk h1 => wn _ (by omega) (by omega)
  have y0 : eWy w' a = 0 := by unfold eWy; rw [w7]; rfl
  have c0 : eWc w' a = 0 := by unfold eWc; rw [w8]; rfl
  have s0 : ∀ t, eWs w' t = eWs w t := fun t => by
    by_cases e : t = a
    · unfold eWs
      rw [wn _ (by omega) (by omega)]
    · exact (hrow t e).w.2.2.1
  have b0 : ∀ t k, k < 3 → eWb w' t k = eWb w t k := fun t k hk => by
    unfold eWb
    rw [wn _ (by omega) (by omega)]
  have cxD : eCx (bStrike B (nI a)) w' := by
    refine eCx.of fun t ht => ?_
    obtain ⟨hv, hb⟩ := cx.at ht
    by_cases e : t = a
    · subst e
      obtain ⟨h7, h8, hz, h19, hi, hs, hvs⟩ := hv
      obtain ⟨b7, b1, b2, b5, b3, b6⟩ := hb
      refine ⟨⟨⟨by rw [y0]; exact w7, by omega⟩, ⟨by rw [c0]; exact w8, by omega⟩, fun _ => c0, ⟨by rw [s0, wn _ (by omega) (by omega)]; exact h19.1, by rw [s0]; exact h19.2⟩, fun k hk => by omega, fun k hk => ?_, ?_⟩, ?_, ?_, ?_, ?_, fun k hk => by omega, fun k hk => ?_⟩
      · rw [s0] at hk
        rw [b0 t k (by omega), wn _ (by omega) (by omega)]
        exact hs k hk
      · unfold mVes at hvs ⊢
        rw [wn _ (by omega) (by omega)]
        exact hvs
      · unfold bStrike
        rw [zup_ne (by decide), zup_ne (by decide), wn _ (by omega) (by omega)]
        exact b7
      · unfold bStrike
        rw [zup_ne (by decide), zup_eq, ePut ha (by decide), upd_eq, w7]
      · unfold bStrike
        rw [zup_eq, ePut ha (by decide), upd_eq, w8]
      · unfold bStrike
        rw [zup_ne (by decide), zup_ne (by decide), wn _ (by omega) (by omega)]
        exact b5
      · unfold bStrike
        rw [s0] at hk
        rw [zup_ne (by decide), zup_ne (by decide), wn _ (by omega) (by omega)]
        exact b6 k hk
    · refine ⟨hv.row (hrow t e), hb.row hv (hrow t e) (fun j hj => ?_) (fun j k hj hk => ?_) (fun k hk => ?_)⟩
      · unfold bStrike
        rcases hj with rfl | rfl | rfl | rfl
        · rw [zup_ne (by decide), zup_eq, ePut ha (by decide), upd_ne e]
        · rw [zup_eq, ePut ha (by decide), upd_ne e]
        · rw [zup_ne (by decide), zup_ne (by decide)]
        · rw [zup_ne (by decide), zup_ne (by decide)]
      · unfold bStrike
        rw [zup_ne (by omega), zup_ne (by omega)]
      · unfold bStrike
        rw [zup_ne (by decide), zup_ne (by decide)]
  have hrk' : eRk w' (nRs w 12) := hrk.less cx.1 (fun t ht hy' => by
    have e : t ≠ a := fun e => hy' (by rw [e]; exact y0)
    obtain ⟨q1, q2, q3, q4, q5⟩ := (hrow t e).w
    exact ⟨by rw [← q1]; exact hy', q2, fun k hk => (q4 k hk).1⟩) (fun p hp i hi => by
    rw [s0] at hi
    have := (cx.1 p hp).2.2.2.1.2
    exact ⟨i, hi, b0 p i (by omega)⟩)
  obtain ⟨-, q2, q3⟩ := eFind_under cxD hrk'
  refine ⟨w', bInv.mk cxD q2 q3 (fun t ht hy => ?_) (fun t ht => ?_) (fun t ht i hi => ?_)⟩
  · have e : t ≠ a := fun e => hy (by rw [e]; exact y0)
    obtain ⟨r1, r2, -⟩ := (hrow t e).w
    rw [r1] at hy
    rw [r2]
    exact yc t ht hy
  · rw [wn _ (by omega) (by omega)]
    rcases vv t ht with e | ⟨v, v1, v2, v3, v4⟩
    · exact Or.inl e
    · exact Or.inr ⟨v, v1, v2, v3, by rw [wn _ (by omega) (by omega)]; exact v4⟩
  · rw [s0] at hi
    have := (cx.1 t ht).2.2.2.1.2
    rw [b0 t i (by omega)]
    exact sb t ht i hi
theorem bInv.rem {j : Nat} (h : bInv B w) (ha : a < 20) (hjc0 : j < eWs w a) : ∃ w', bInv (tFind (bRem B (nI a) (nI j))) w' := by
  obtain ⟨cx, hrn, hrk, yc, vv, sb⟩ := h
  obtain ⟨e19, c3⟩ := (cx.1 a ha).2.2.2.1
  generalize hcc : eWs w a = c at e19 c3 hjc0
  obtain ⟨w', hw'⟩ : ∃ w' : Nat → Int32, w' = fun i => if i = 23 * a + 19 then nI (c - 1) else if 23 * a + (20 + j) ≤ i ∧ i < 23 * a + (20 + j) + (c - 1 - j) then w (i + 1) else w i := ⟨_, rfl⟩
  have w19 : w' (23 * a + 19) = nI (c - 1) := by
    rw [hw']
    exact if_pos rfl
  have wn : ∀ i, i ≠ 23 * a + 19 → (i < 23 * a + 20 ∨ 23 * a + 23 ≤ i) → w' i = w i := fun i h1 h2 => by
    rw [hw']
    dsimp only
    rw [if_neg h1, if_neg (by omega)]
  have ws : ∀ i, i < 3 → w' (23 * a + (20 + i)) = if j ≤ i ∧ i < c - 1 then w (23 * a + (20 + (i + 1))) else w (23 * a + (20 + i)) := fun i hi => by
    rw [hw']
    dsimp only
    rw [if_neg (by omega)]
    by_cases q : j ≤ i ∧ i < c - 1
    · rw [if_pos (by omega), if_pos q]
      rfl
    · rw [if_neg (by omega), if_neg q]
  have hrow : ∀ t, t < 20 → t ≠ a → eRow w w' t := fun t ht hne k hk h1 => wn _ (by omega) (by omega)
  have s0 : eWs w' a = c - 1 := by
    unfold eWs
    rw [w19, nI_clamp (by omega)]
  have b0 : ∀ i, i < c - 1 → eWb w' a i = eWb w a (if j ≤ i then i + 1 else i) := fun i hi => by
    unfold eWb
    rw [ws i (by omega)]
    by_cases q : j ≤ i
    · rw [if_pos ⟨q, hi⟩, if_pos q]
    · rw [if_neg (by omega), if_neg q]
  have a1 : eWy w' a = eWy w a ∧ eWc w' a = eWc w a ∧ ∀ k, k < 5 → eWi w' a k = eWi w a k ∧ eWa w' a k = eWa w a k := by
    unfold eWy eWc eWi eWa
    exact ⟨by rw [wn _ (by omega) (by omega)], by rw [wn _ (by omega) (by omega)], fun k hk => ⟨by rw [wn _ (by omega) (by omega)], by rw [wn _ (by omega) (by omega)]⟩⟩
  obtain ⟨d1, d2⟩ := bRemIt (B := B) (j := j) ha (c - 1 - j) (by omega)
  have eD : bRem B (nI a) (nI j) = va_up (it (bRemS (nI a) (nI j)) (c - 1 - j) B) 5 (upd (it (bRemS (nI a) (nI j)) (c - 1 - j) B 5) a (nI (c - 1))) := by
    unfold bRem
    rw [cx.subs ha, hcc, show nI c - 1 = nI (c - 1) from pk_sub (b := 1) (by omega), pk_sub (show j ≤ c - 1 by omega), nI_clamp (by omega)]
    dsimp only
    rw [ePut ha (by decide)]
  generalize it (bRemS (nI a) (nI j)) (c - 1 - j) B = C at d1 d2 eD
  generalize bRem B (nI a) (nI j) = D at eD ⊢
  have D6 : D 6 = C 6 := by rw [eD, zup_ne (by decide)]
  have D5 : D 5 = upd (B 5) a (nI (c - 1)) := by rw [eD, zup_eq, d1 5 (by decide)]
  have Dq : ∀ q, q ≠ 5 → q ≠ 6 → D q = B q := fun q h5 h6 => by rw [eD, zup_ne h5, d1 q h6]
  have cxD : eCx D w' := by
    refine eCx.of fun t ht => ?_
    obtain ⟨hv, hb⟩ := cx.at ht
    by_cases e : t = a
    · subst e
      obtain ⟨h7, h8, hz, h19, hi, hs, hvs⟩ := hv
      obtain ⟨b7, b1, b2, b5, b3, b6⟩ := hb
      obtain ⟨y1, y2, y3⟩ := a1
      refine ⟨⟨⟨by rw [y1, wn _ (by omega) (by omega)]; exact h7.1, by rw [y1]; exact h7.2⟩, ⟨by rw [y2, wn _ (by omega) (by omega)]; exact h8.1, by rw [y2]; exact h8.2⟩, by rw [y1, y2]; exact hz, ⟨by rw [s0]; exact w19, by omega⟩, fun k hk => ?_, fun k hk => ?_, ?_⟩, ?_, ?_, ?_, ?_, fun k hk => ?_, fun k hk => ?_⟩
      · rw [y2] at hk
        rw [(y3 k (by omega)).1, (y3 k (by omega)).2, wn _ (by omega) (by omega), wn _ (by omega) (by omega)]
        exact hi k hk
      · rw [s0] at hk
        rw [b0 k hk, ws k (by omega)]
        by_cases q : j ≤ k
        · rw [if_pos ⟨q, hk⟩, if_pos q]
          exact hs (k + 1) (by omega)
        · rw [if_neg (by omega), if_neg q]
          exact hs k (by omega)
      · unfold mVes at hvs ⊢
        rw [wn _ (by omega) (by omega)]
        exact hvs
      · rw [Dq 7 (by decide) (by decide), wn _ (by omega) (by omega)]
        exact b7
      · rw [Dq 1 (by decide) (by decide), wn _ (by omega) (by omega)]
        exact b1
      · rw [Dq 2 (by decide) (by decide), wn _ (by omega) (by omega)]
        exact b2
      · rw [D5, upd_eq, w19]
      · rw [y2] at hk
        rw [Dq 3 (by decide) (by decide), Dq 4 (by decide) (by decide), wn _ (by omega) (by omega), wn _ (by omega) (by omega)]
        exact b3 k hk
      · rw [s0] at hk
        rw [D6, d2, ws k (by omega)]
        by_cases q : j ≤ k
        · rw [if_pos (by omega), if_pos ⟨q, hk⟩]
          exact b6 (k + 1) (by omega)
        · rw [if_neg (by omega), if_neg (by omega)]
          exact b6 k (by omega)
    · refine ⟨hv.row (hrow t ht e), hb.row hv (hrow t ht e) (fun q hq => ?_) (fun q k hq hk => ?_) (fun k hk => ?_)⟩
      · by_cases q5 : q = 5
        · subst q5
          rw [D5, upd_ne e]
        · rw [Dq q q5 (by omega)]
      · rw [Dq q (by omega) (by omega)]
      · rw [D6, d2, if_neg (by omega)]
  have hrk' : eRk w' (nRs w 12) := hrk.less cx.1 (fun t ht hy' => by
    by_cases e : t = a
    · subst e
      exact ⟨by rw [← a1.1]; exact hy', a1.2.1, fun k hk => (a1.2.2 k hk).1⟩
    · obtain ⟨q1, q2, q3, q4, q5⟩ := (hrow t ht e).w
      exact ⟨by rw [← q1]; exact hy', q2, fun k hk => (q4 k hk).1⟩) (fun p hp i hi => by
    by_cases e : p = a
    · subst e
      rw [s0] at hi
      refine ⟨if j ≤ i then i + 1 else i, ?_, b0 i hi⟩
      rw [hcc]
      split <;> omega
    · obtain ⟨q1, q2, q3, q4, q5⟩ := (hrow p hp e).w
      have := (cx.1 p hp).2.2.2.1.2
      rw [q3] at hi
      exact ⟨i, hi, q5 i (by omega)⟩)
  obtain ⟨-, q2, q3⟩ := eFind_under cxD hrk'
  refine ⟨w', bInv.mk cxD q2 q3 (fun t ht hy => ?_) (fun t ht => ?_) (fun t ht i hi => ?_)⟩
  · by_cases e : t = a
    · subst e
      rw [a1.1] at hy
      rw [a1.2.1]
      exact yc t ht hy
    · obtain ⟨r1, r2, -⟩ := (hrow t ht e).w
      rw [r1] at hy
      rw [r2]
      exact yc t ht hy
  · rw [wn _ (by omega) (by omega)]
    rcases vv t ht with e | ⟨v, v1, v2, v3, v4⟩
    · exact Or.inl e
    · exact Or.inr ⟨v, v1, v2, v3, by rw [wn _ (by omega) (by omega)]; exact v4⟩
  · by_cases e : t = a
    · subst e
      rw [s0] at hi
      rw [b0 i hi]
      exact sb t ht _ (by rw [hcc]; split <;> omega)
    · obtain ⟨r1, r2, r3, r4, r5⟩ := (hrow t ht e).w
      have := (cx.1 t ht).2.2.2.1.2
      rw [r3] at hi
      rw [r5 i (by omega)]
      exact sb t ht i hi
theorem bInv.add {C : Nat → Nat → Int32} {b : Nat} (h : bInv B w) (hC : eBeq B C) (ha : a < 20) (hb : b < 20) (hab : a ≠ b) (h3 : eWs w a < 3) (hok : ¬ bFindOk (bAddSub C (nI a) (nI b)) = 0) : ∃ w', bInv (tFind (bAddSub C (nI a) (nI b))) w' ∧ eWs w' a = eWs w a + 1 := by
  obtain ⟨cx0, hrn, hrk, yc, vv, sb⟩ := h
  have cx : eCx C w := ⟨cx0.1, cx0.2.beq cx0.1 hC⟩
  obtain ⟨e19, c3⟩ := (cx.1 a ha).2.2.2.1
  generalize hcc : eWs w a = c at e19 c3 h3
  obtain ⟨w', hw'⟩ : ∃ w', upd (upd w (23 * a + (20 + c)) (nI b)) (23 * a + 19) (nI (c + 1)) = w' := ⟨_, rfl⟩
  have w19 : w' (23 * a + 19) = nI (c + 1) := by rw [← hw', upd_eq]
  have wc : w' (23 * a + (20 + c)) = nI b := by rw [← hw', upd_ne (by omega), upd_eq]
  have wn : ∀ i, i ≠ 23 * a + 19 → i ≠ 23 * a + (20 + c) → w' i = w i := fun i h1 h2 => by rw [← hw', upd_ne h1, upd_ne h2]
  have hrow : ∀ t, t < 20 → t ≠ a → eRow w w' t := fun t ht hne k hk h1 => wn _ (by omega) (by omega)
  have s0 : eWs w' a = c + 1 := by
    unfold eWs
    rw [w19, nI_clamp (by omega)]
  have b0 : ∀ i, i < c → eWb w' a i = eWb w a i := fun i hi => by
    unfold eWb
    rw [wn _ (by omega) (by omega)]
  have bc : eWb w' a c = b := by
    unfold eWb
    rw [wc, nI_clamp (by omega)]
  have a1 : eWy w' a = eWy w a ∧ eWc w' a = eWc w a ∧ ∀ k, k < 5 → eWi w' a k = eWi w a k ∧ eWa w' a k = eWa w a k := by
    unfold eWy eWc eWi eWa
    exact ⟨by rw [wn _ (by omega) (by omega)], by rw [wn _ (by omega) (by omega)], fun k hk => ⟨by rw [wn _ (by omega) (by omega)], by rw [wn _ (by omega) (by omega)]⟩⟩
  obtain ⟨D, eD⟩ : ∃ D, bAddSub C (nI a) (nI b) = D := ⟨_, rfl⟩
  have eD' : D = va_up (va_up C 6 (upd (C 6) (a * 3 + c) (nI b))) 5 (upd (C 5) a (nI (c + 1))) := by
    rw [← eD]
    unfold bAddSub
    rw [cx.subs ha, hcc, m3, ePut (by omega) (by decide), nI_1, ePut ha (by decide)]
  rw [eD] at hok ⊢
  have cxD : eCx D w' := by
    have D6 : D 6 = upd (C 6) (a * 3 + c) (nI b) := by rw [eD', zup_ne (by decide), zup_eq]
    have D5 : D 5 = upd (C 5) a (nI (c + 1)) := by rw [eD', zup_eq]
    have Dq : ∀ q, q ≠ 5 → q ≠ 6 → D q = C q := fun q h5 h6 => by rw [eD', zup_ne h5, zup_ne h6]
    refine eCx.of fun t ht => ?_
    obtain ⟨hv, hbb⟩ := cx.at ht
    by_cases e : t = a
    · subst e
      obtain ⟨h7, h8, hz, h19, hi, hs, hvs⟩ := hv
      obtain ⟨b7, b1, b2, b5, b3, b6⟩ := hbb
      obtain ⟨y1, y2, y3⟩ := a1
      refine ⟨⟨⟨by rw [y1, wn _ (by omega) (by omega)]; exact h7.1, by rw [y1]; exact h7.2⟩, ⟨by rw [y2, wn _ (by omega) (by omega)]; exact h8.1, by rw [y2]; exact h8.2⟩, by rw [y1, y2]; exact hz, ⟨by rw [s0]; exact w19, by omega⟩, fun k hk => ?_, fun k hk => ?_, ?_⟩, ?_, ?_, ?_, ?_, fun k hk => ?_, fun k hk => ?_⟩
      · rw [y2] at hk
        rw [(y3 k (by omega)).1, (y3 k (by omega)).2, wn _ (by omega) (by omega), wn _ (by omega) (by omega)]
        exact hi k hk
      · rw [s0] at hk
        by_cases q : k = c
        · subst q
          rw [bc, wc]
          exact ⟨rfl, hb⟩
        · rw [b0 k (by omega), wn _ (by omega) (by omega)]
          exact hs k (by omega)
      · unfold mVes at hvs ⊢
        rw [wn _ (by omega) (by omega)]
        exact hvs
      · rw [Dq 7 (by decide) (by decide), wn _ (by omega) (by omega)]
        exact b7
      · rw [Dq 1 (by decide) (by decide), wn _ (by omega) (by omega)]
        exact b1
      · rw [Dq 2 (by decide) (by decide), wn _ (by omega) (by omega)]
        exact b2
      · rw [D5, upd_eq, w19]
      · rw [y2] at hk
        rw [Dq 3 (by decide) (by decide), Dq 4 (by decide) (by decide), wn _ (by omega) (by omega), wn _ (by omega) (by omega)]
        exact b3 k hk
      · rw [s0] at hk
        rw [D6]
        by_cases q : k = c
        · subst q
          rw [upd_eq, wc]
        · rw [upd_ne (by omega), wn _ (by omega) (by omega)]
          exact b6 k (by omega)
    · refine ⟨hv.row (hrow t ht e), hbb.row hv (hrow t ht e) (fun q hq => ?_) (fun q k hq hk => ?_) (fun k hk => ?_)⟩
      · by_cases q5 : q = 5
        · subst q5
          rw [D5, upd_ne e]
        · rw [Dq q q5 (by omega)]
      · rw [Dq q (by omega) (by omega)]
      · rw [D6, upd_ne (by omega)]
  rcases eFind cxD with ⟨-, q2, q3⟩ | ⟨q1, -⟩
  · refine ⟨w', bInv.mk cxD q2 q3 (fun t ht hy => ?_) (fun t ht => ?_) (fun t ht i hi => ?_), by rw [s0]⟩
    · by_cases e : t = a
      · subst e
        rw [a1.1] at hy
        rw [a1.2.1]
        exact yc t ht hy
      · obtain ⟨r1, r2, -⟩ := (hrow t ht e).w
        rw [r1] at hy
        rw [r2]
        exact yc t ht hy
    · rw [wn _ (by omega) (by omega)]
      rcases vv t ht with e | ⟨v, v1, v2, v3, v4⟩
      · exact Or.inl e
      · exact Or.inr ⟨v, v1, v2, v3, by rw [wn _ (by omega) (by omega)]; exact v4⟩
    · by_cases e : t = a
      · subst e
        rw [s0] at hi
        by_cases q : i = c
        · subst q
          rw [bc]
          exact Ne.symm hab
        · rw [b0 i (by omega)]
          exact sb t ht i (by rw [hcc]; omega)
      · obtain ⟨r1, r2, r3, r4, r5⟩ := (hrow t ht e).w
        have := (cx.1 t ht).2.2.2.1.2
        rw [r3] at hi
        rw [r5 i (by omega)]
        exact sb t ht i hi
  · exact absurd q1 hok
theorem bInv.lay {C R : Nat → Nat → Int32} {c : Nat} (h : bInv B w) (hC : eBeq B C) (hR : rDt c R) (hc1 : 1 ≤ c) (hok : ¬ bFindOk (bLay C R) = 0) : ∃ w', bInv (tFind (bLay C R)) w' := by
  obtain ⟨cx0, hrn, hrk, yc, vv, sb⟩ := h
  have cx : eCx C w := ⟨cx0.1, cx0.2.beq cx0.1 hC⟩
  obtain ⟨d5, d4, dc, ⟨a, ha, d2⟩, ⟨y, y1, y20, d3⟩, dk⟩ := hR
  obtain ⟨w', hw'⟩ : ∃ w' : Nat → Int32, w' = fun i => if 23 * a + 9 ≤ i ∧ i < 23 * a + 9 + 2 * c then (if (i - (23 * a + 9)) % 2 = 0 then R 1 ((i - (23 * a + 9)) / 2) else R 2 ((i - (23 * a + 9)) / 2)) else upd (upd w (23 * a + 7) (nI y)) (23 * a + 8) (nI c) i := ⟨_, rfl⟩
  have wq : ∀ i, w' i = if 23 * a + 9 ≤ i ∧ i < 23 * a + 9 + 2 * c then (if (i - (23 * a + 9)) % 2 = 0 then R 1 ((i - (23 * a + 9)) / 2) else R 2 ((i - (23 * a + 9)) / 2)) else upd (upd w (23 * a + 7) (nI y)) (23 * a + 8) (nI c) i := fun i => by rw [hw']
  have w7 : w' (23 * a + 7) = nI y := by rw [wq, if_neg (by omega), upd_ne (by omega), upd_eq]
  have w8 : w' (23 * a + 8) = nI c := by rw [wq, if_neg (by omega), upd_eq]
  have w9 : ∀ k, k < c → w' (23 * a + (9 + 2 * k)) = R 1 k ∧ w' (23 * a + (9 + 2 * k + 1)) = R 2 k := fun k hk => by
    rw [wq, wq, if_pos (by omega), if_pos (by omega), if_pos (by omega), if_neg (by omega)]
    exact ⟨congrArg (R 1) (by omega), congrArg (R 2) (by omega)⟩
  have wn : ∀ i, i < 23 * a + 7 ∨ 23 * a + 19 ≤ i → w' i = w i := fun i hi => by rw [wq, if_neg (by omega), upd_ne (by omega), upd_ne (by omega)]
  have hrow : ∀ t, t < 20 → t ≠ a → eRow w w' t := fun t ht hne k hk h1 => wn _ (by omega)
  have ey : eWy w' a = y := by unfold eWy; rw [w7, nI_clamp (by omega)]
  have ec : eWc w' a = c := by unfold eWc; rw [w8, nI_clamp (by omega)]
  have es : eWs w' a = eWs w a := by unfold eWs; rw [wn _ (by omega)]
  have ebb : ∀ k, k < 3 → eWb w' a k = eWb w a k := fun k hk => by unfold eWb; rw [wn _ (by omega)]
  obtain ⟨D, eD⟩ : ∃ D, bLay C R = D := ⟨_, rfl⟩
  rw [eD] at hok ⊢
  have cxD : eCx D w' := by
    obtain ⟨i1, i2, i3⟩ := bLayIt (B := va_up (va_up C 1 (upd (C 1) a (nI y))) 2 (upd (C 2) a (nI c))) (R := R) ha d2 5 (Nat.le_refl _)
    have eD2 : it (bLayS R) 5 (va_up (va_up C 1 (upd (C 1) a (nI y))) 2 (upd (C 2) a (nI c))) = D := by
      rw [← eD]
      unfold bLay
      rw [d2, d3, d4, ePut ha (by decide), ePut ha (by decide)]
    rw [eD2] at i1 i2 i3
    have D1 : D 1 = upd (C 1) a (nI y) := by rw [i1 1 (by decide) (by decide), zup_ne (by decide), zup_eq]
    have D2 : D 2 = upd (C 2) a (nI c) := by rw [i1 2 (by decide) (by decide), zup_eq]
    have Dq : ∀ q, q = 5 ∨ q = 6 ∨ q = 7 → D q = C q := fun q hq => by rw [i1 q (by omega) (by omega), zup_ne (by omega), zup_ne (by omega)]
    have D3 : ∀ x, D 3 x = if a * 5 ≤ x ∧ x < a * 5 + 5 then R 1 (x - a * 5) else C 3 x := fun x => by rw [i2, zup_ne (by decide), zup_ne (by decide)]
    have D4 : ∀ x, D 4 x = if a * 5 ≤ x ∧ x < a * 5 + 5 then R 2 (x - a * 5) else C 4 x := fun x => by rw [i3, zup_ne (by decide), zup_ne (by decide)]
    refine eCx.of fun t ht => ?_
    obtain ⟨hv, hbb⟩ := cx.at ht
    by_cases e : t = a
    · subst e
      obtain ⟨h7, h8, hz, h19, hi, hs, hvs⟩ := hv
      obtain ⟨b7, b1, b2, b5, b3, b6⟩ := hbb
      refine ⟨⟨⟨by rw [ey]; exact w7, by omega⟩, ⟨by rw [ec]; exact w8, by omega⟩, fun h0 => by omega, ⟨by rw [es, wn _ (by omega)]; exact h19.1, by rw [es]; exact h19.2⟩, fun k hk => ?_, fun k hk => ?_, ?_⟩, ?_, ?_, ?_, ?_, fun k hk => ?_, fun k hk => ?_⟩
      · rw [ec] at hk
        obtain ⟨x, n, k1, k2, k3, k4, k5⟩ := dk k hk
        have ei : eWi w' t k = x := by unfold eWi; rw [(w9 k hk).1, k4, nI_clamp (by omega)]
        have ea : eWa w' t k = n := by unfold eWa; rw [(w9 k hk).2, k5, nI_clamp (by omega)]
        rw [ei, ea, (w9 k hk).1, (w9 k hk).2, k4, k5]
        exact ⟨rfl, k1, rfl, k2, k3⟩
      · rw [es] at hk
        have := h19.2
        rw [ebb k (by omega), wn _ (by omega)]
        exact hs k hk
      · unfold mVes at hvs ⊢
        rw [wn _ (by omega)]
        exact hvs
      · rw [Dq 7 (by omega), wn _ (by omega)]
        exact b7
      · rw [D1, upd_eq, w7]
      · rw [D2, upd_eq, w8]
      · rw [Dq 5 (by omega), wn _ (by omega)]
        exact b5
      · rw [ec] at hk
        rw [D3, D4, if_pos (by omega), if_pos (by omega), (w9 k hk).1, (w9 k hk).2, show t * 5 + k - t * 5 = k by omega]
        exact ⟨rfl, rfl⟩
      · rw [es] at hk
        rw [Dq 6 (by omega), wn _ (by omega)]
        exact b6 k hk
    · refine ⟨hv.row (hrow t ht e), hbb.row hv (hrow t ht e) (fun q hq => ?_) (fun q k hq hk => ?_) (fun k hk => ?_)⟩
      · rcases hq with rfl | rfl | rfl | rfl
        · rw [D1, upd_ne e]
        · rw [D2, upd_ne e]
        · rw [Dq 5 (by omega)]
        · rw [Dq 7 (by omega)]
      · rcases hq with rfl | rfl
        · rw [D3, if_neg (by omega)]
        · rw [D4, if_neg (by omega)]
      · rw [Dq 6 (by omega)]
  rcases eFind cxD with ⟨-, q2, q3⟩ | ⟨q1, -⟩
  · refine ⟨w', bInv.mk cxD q2 q3 (fun t ht hy => ?_) (fun t ht => ?_) (fun t ht i hi => ?_)⟩
    · by_cases e : t = a
      · subst e
        rw [ec]
        exact hc1
      · obtain ⟨r1, r2, -⟩ := (hrow t ht e).w
        rw [r1] at hy
        rw [r2]
        exact yc t ht hy
    · rw [wn _ (by omega)]
      rcases vv t ht with e | ⟨v, v1, v2, v3, v4⟩
      · exact Or.inl e
      · exact Or.inr ⟨v, v1, v2, v3, by rw [wn _ (by omega)]; exact v4⟩
    · by_cases e : t = a
      · subst e
        rw [es] at hi
        have := (cx.1 t ht).2.2.2.1.2
        rw [ebb i (by omega)]
        exact sb t ht i hi
      · obtain ⟨r1, r2, r3, r4, r5⟩ := (hrow t ht e).w
        have := (cx.1 t ht).2.2.2.1.2
        rw [r3] at hi
        rw [r5 i (by omega)]
        exact sb t ht i hi
  · exact absurd q1 hok
theorem bInv.setv {v : Int32} (h : bInv B w) (ha : a < 20) (hv : v = -9 ∨ ∃ b, b < 20 ∧ b ≠ a ∧ v = nI b ∧ bVes B (nI b) = -9 ∧ bIsVes B (nI a) = false) : ∃ w', bInv (va_up B 7 (cPut 20 (B 7) (nI a) v)) w' := by
  obtain ⟨cx, hrn, hrk, yc, vv, sb⟩ := h
  obtain ⟨w', hw'⟩ : ∃ w', upd w (23 * a + 1) v = w' := ⟨_, rfl⟩
  have w1 : w' (23 * a + 1) = v := by rw [← hw', upd_eq]
  have wn : ∀ i, i ≠ 23 * a + 1 → w' i = w i := fun i h1 => by rw [← hw', upd_ne h1]
  have e : mB7 w w' := fun t k ht hk h7 => wn _ (by omega)
  have hvs : ∀ t, t < 20 → w' (23 * t + 1) = -9 ∨ ∃ u, u < 20 ∧ u ≠ t ∧ w' (23 * t + 1) = nI u ∧ w' (23 * u + 1) = -9 := by
    intro t ht
    by_cases et : t = a
    · subst et
      rw [w1]
      rcases hv with rfl | ⟨b, hb, hba, rfl, hb9, -⟩
      · exact Or.inl rfl
      · refine Or.inr ⟨b, hb, hba, rfl, ?_⟩
        rw [wn _ (by omega), ← cx.ves hb]
        exact hb9
    · rw [wn _ (by omega)]
      rcases vv t ht with q | ⟨u, u1, u2, u3, u4⟩
      · exact Or.inl q
      · by_cases eu : u = a
        · subst eu
          refine Or.inr ⟨u, u1, u2, u3, ?_⟩
          rw [w1]
          rcases hv with rfl | ⟨b, hb, hba, rfl, hb9, hi⟩
          · rfl
          · have : bIsVes B (nI u) = true := by
              unfold bIsVes
              rw [anyLt_iff]
              exact ⟨t, ht, by rw [cx.ves ht, u3]; exact beq_self_eq_true _⟩
            rw [hi] at this
            cases this
        · exact Or.inr ⟨u, u1, u2, u3, by rw [wn _ (by omega)]; exact u4⟩
  have mv : ∀ t, t < 20 → mVes w' t := fun t ht => by
    rcases hvs t ht with q | ⟨u, u1, -, u3, -⟩
    · exact Or.inl q
    · exact Or.inr ⟨u, u1, u3⟩
  have cx' : eCx (va_up B 7 (cPut 20 (B 7) (nI a) v)) w' := by
    refine cx.b7 e mv (fun j h1 h6 => zup_ne (by omega)) (fun t ht => ?_)
    rw [zup_eq, ePut ha (by decide)]
    by_cases et : t = a
    · subst et
      rw [upd_eq, w1]
    · rw [upd_ne et, wn _ (by omega)]
      exact (cx.2 t ht).1
  have er := nRs_to cx.1 e 12
  refine ⟨w', cx', fun t ht => ?_, ?_, fun t ht hy => ?_, hvs, fun t ht i hi => ?_⟩
  · rw [er, zup_ne (by decide)]
    exact hrn t ht
  · rw [er]
    exact hrk.b7 cx.1 e
  · obtain ⟨q1, q2, -⟩ := eW_b7 e ht
    rw [q1] at hy
    rw [q2]
    exact yc t ht hy
  · obtain ⟨q1, q2, q3, q4, q5⟩ := eW_b7 e ht
    have := (cx.1 t ht).2.2.2.1.2
    rw [q3] at hi
    rw [q5 i (by omega)]
    exact sb t ht i hi
end BCHG
/-- a book without anything -/
theorem bInv.new {B : Nat → Nat → Int32} (h : ∀ j t, 1 ≤ j → j ≤ 8 → B j t = if j = 7 then -9 else 0) : bOk B := by
  obtain ⟨w, hw⟩ : ∃ w : Nat → Int32, w = fun i => if i % 23 = 1 then -9 else 0 := ⟨_, rfl⟩
  have w1 : ∀ t, w (23 * t + 1) = -9 := fun t => by rw [hw]; exact if_pos (by omega)
  have w0 : ∀ t k, k < 23 → k ≠ 1 → w (23 * t + k) = 0 := fun t k hk h1 => by rw [hw]; exact if_neg (by omega)
  have ey : ∀ t, eWy w t = 0 := fun t => by unfold eWy; rw [w0 _ _ (by decide) (by decide)]; rfl
  have ec : ∀ t, eWc w t = 0 := fun t => by unfold eWc; rw [w0 _ _ (by decide) (by decide)]; rfl
  have es : ∀ t, eWs w t = 0 := fun t => by unfold eWs; rw [w0 _ _ (by decide) (by decide)]; rfl
  have er : ∀ t, t < 20 → nRs w 12 t = 0 := fun t ht => by
    rw [show (12 : Nat) = 11 + 1 from rfl, nRs_at ht]
    unfold nRk
    rw [if_pos (ey t)]
  refine ⟨w, ⟨fun t ht => ⟨⟨by rw [ey, w0 _ _ (by decide) (by decide)]; rfl, by rw [ey]; omega⟩, ⟨by rw [ec, w0 _ _ (by decide) (by decide)]; rfl, by rw [ec]; omega⟩, fun _ => ec t, ⟨by rw [es, w0 _ _ (by decide) (by decide)]; rfl, by rw [es]; omega⟩, fun k hk => ?_, fun k hk => ?_, Or.inl (w1 t)⟩, fun t ht => ⟨?_, ?_, ?_, ?_, fun k hk => ?_, fun k hk => ?_⟩⟩, fun t ht => ?_, fun t ht hy => absurd (ey t) hy, fun t ht hy => absurd (ey t) hy, fun t ht => Or.inl (w1 t), fun t ht i hi => ?_⟩
  · rw [ec] at hk
    exact absurd hk (Nat.not_lt_zero k)
  · rw [es] at hk
    exact absurd hk (Nat.not_lt_zero k)
  · rw [h 7 t (by decide) (by decide), w1, if_pos rfl]
  · rw [h 1 t (by decide) (by decide), w0 _ _ (by decide) (by decide), if_neg (by decide)]
  · rw [h 2 t (by decide) (by decide), w0 _ _ (by decide) (by decide), if_neg (by decide)]
  · rw [h 5 t (by decide) (by decide), w0 _ _ (by decide) (by decide), if_neg (by decide)]
  · rw [ec] at hk
    exact absurd hk (Nat.not_lt_zero k)
  · rw [es] at hk
    exact absurd hk (Nat.not_lt_zero k)
  · rw [h 8 t (by decide) (by decide), er t ht, if_neg (by decide)]
    exact ⟨rfl, by omega⟩
  · rw [es] at hi
    exact absurd hi (Nat.not_lt_zero i)
