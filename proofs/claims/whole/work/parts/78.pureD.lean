/-! ===== 78.pureD: forbid, allow: both sides ===== -/
theorem bRemIt {B : Nat → Nat → Int32} {a j : Nat} (ha : a < 20) : ∀ n, j + n < 3 → (∀ q, q ≠ 6 → it (bRemS (nI a) (nI j)) n B q = B q) ∧ ∀ x, it (bRemS (nI a) (nI j)) n B 6 x = if a * 3 + j ≤ x ∧ x < a * 3 + j + n then B 6 (x + 1) else B 6 x := by
  intro n
  induction n with
  | zero =>
    intro _
    rw [it_zero]
    exact ⟨fun _ _ => rfl, fun x => (if_neg (by omega)).symm⟩
  | succ n ih =>
    intro hn
    obtain ⟨i1, i2⟩ := ih (by omega)
    rw [it_s]
    generalize it (bRemS (nI a) (nI j)) n B = C at i1 i2
    have e : bRemS (nI a) (nI j) n C = va_up C 6 (upd (C 6) (a * 3 + (j + n)) (C 6 (a * 3 + (j + (n + 1))))) := by
      unfold bRemS bSub
      rw [nI_add, nI_add, m3, m3, ePut (by omega) (by decide), eAt (by omega) (by decide)]
    rw [e]
    refine ⟨fun q hq => by rw [zup_ne hq]; exact i1 q hq, fun x => ?_⟩
    rw [zup_eq]
    by_cases ex : x = a * 3 + (j + n)
    · subst ex
      rw [upd_eq, i2, if_neg (by omega), if_pos (by omega)]
      exact congrArg (B 6) (by omega)
    · rw [upd_ne ex, i2]
      by_cases c : a * 3 + j ≤ x ∧ x < a * 3 + j + n
      · rw [if_pos c, if_pos (by omega)]
      · rw [if_neg c, if_neg (by omega)]
theorem mRemIt {w : Nat → Int32} {a j : Nat} : ∀ n i, it (mRemS a j) n w i = if 23 * a + (20 + j) ≤ i ∧ i < 23 * a + (20 + j) + n then w (i + 1) else w i := by
  intro n
  induction n with
  | zero =>
    intro i
    rw [it_zero]
    exact (if_neg (by omega)).symm
  | succ n ih =>
    intro i
    rw [it_s]
    generalize it (mRemS a j) n w = v at ih
    unfold mRemS
    by_cases ex : i = 23 * a + (20 + (j + n))
    · subst ex
      rw [upd_eq, ih, if_neg (by omega), if_pos (by omega)]
      rfl
    · rw [upd_ne ex, ih]
      by_cases c : 23 * a + (20 + j) ≤ i ∧ i < 23 * a + (20 + j) + n
      · rw [if_pos c, if_pos (by omega)]
      · rw [if_neg c, if_neg (by omega)]
section EBOOK2
variable {N χ : Nat} {sh : zSh} {F : Nat → Nat → Int32} {P : Nat → Nat → Option Nat}
theorem k_forbid (h : LI N sh F P χ) (t k : Int32) : eCall N χ yX6_forbid wsX6_forbid 6 yX7_forbid wsX7_forbid 3 [.int t, .int k] sh F P := by
  obtain ⟨hY, hMd, G, hV, hE⟩ := id h
  obtain ⟨cx, hrn, hrk, -⟩ := id hE.1
  obtain ⟨o, s, ho, hs, f1, f2, g2⟩ := hE.ring
  rcases eThg t with ⟨ht, ht'⟩ | ⟨a, ha, rfl, ht, ht'⟩
  · exact eCall.ask0 h (c_X6_forbid_b hY (Or.inl ht)) (c_X7_forbid_b1 hMd hV ht')
  obtain ⟨e19, c3⟩ := (cx.1 a ha).2.2.2.1
  by_cases hk : k < 0
  · exact eCall.ask0 h (c_X6_forbid_b hY (Or.inr (Or.inl hk))) (c_X7_forbid_b2 hMd hV ha e19 (by unfold mIn; rw [if_pos hk]))
  obtain ⟨j, hj, rfl⟩ := nI_of hk
  by_cases hc : ¬ nI j < nI (eWs (G 1) a)
  · refine eCall.ask0 h (c_X6_forbid_b hY (Or.inr (Or.inr (by rw [cx.subs ha]; exact hc)))) (c_X7_forbid_b2 hMd hV ha e19 ?_)
    unfold mIn
    rw [if_neg hk, if_pos]
    have hge : eWs (G 1) a ≤ j := by
      rcases Nat.lt_or_ge j (eWs (G 1) a) with q | q
      · exact absurd (nI_lt q (by omega)) hc
      · exact q
    by_cases c0 : eWs (G 1) a = 0
    · rw [c0]
      exact Int32.lt_of_lt_of_le (show nI 0 - 1 < 0 by decide) (nI_pos' hj)
    · rw [show nI (eWs (G 1) a) - 1 = nI (eWs (G 1) a - 1) from pk_sub (b := 1) (by omega)]
      exact nI_lt (by omega) hj
  have hc := Decidable.not_not.mp hc
  have hjc : j < eWs (G 1) a := (nI_ltI hj (by omega)).mp hc
  have m1 := c_X6_forbid_o (F := F) hY ho hs f1 f2 ht hk (by rw [cx.subs ha]; exact hc)
  rw [cx.sub ha hjc, ← ((cx.1 a ha).2.2.2.2.2.1 j hjc).1] at m1
  have m2 := fun {sh' : zSh} {F' : Nat → Nat → Int32} {P' : Nat → Nat → Option Nat} (hm : zMd sh' P' (χ + 41)) (hv : zVw F' (χ + 41) 13 G) => c_X7_forbid_o (t := a) (j := j) hm hv ha c3 hjc e19 hs g2
  generalize hcc : eWs (G 1) a = c at e19 c3 hc hjc m2
  generalize hw' : mRem1 (G 1) a c j = w' at m2
  have w19 : w' (23 * a + 19) = nI (c - 1) := by
    rw [← hw']
    unfold mRem1
    rw [upd_eq]
  have wn : ∀ i, i ≠ 23 * a + 19 → (i < 23 * a + 20 ∨ 23 * a + 23 ≤ i) → w' i = G 1 i := fun i h1 h2 => by
    rw [← hw']
    unfold mRem1
    rw [upd_ne h1, mRemIt, if_neg (by omega)]
  have ws : ∀ i, i < 3 → w' (23 * a + (20 + i)) = if j ≤ i ∧ i < c - 1 then G 1 (23 * a + (20 + (i + 1))) else G 1 (23 * a + (20 + i)) := fun i hi => by
    rw [← hw']
    unfold mRem1
    rw [upd_ne (by omega), mRemIt]
    by_cases q : j ≤ i ∧ i < c - 1
    · rw [if_pos (by omega), if_pos q]
      rfl
    · rw [if_neg (by omega), if_neg q]
  have hrow : ∀ t, t < 20 → t ≠ a → eRow (G 1) w' t := fun t ht hne k hk h1 => wn _ (by omega) (by omega)
  have s0 : eWs w' a = c - 1 := by
    unfold eWs
    rw [w19, nI_clamp (by omega)]
  have b0 : ∀ i, i < c - 1 → eWb w' a i = eWb (G 1) a (if j ≤ i then i + 1 else i) := fun i hi => by
    unfold eWb
    rw [ws i (by omega)]
    by_cases q : j ≤ i
    · rw [if_pos ⟨q, hi⟩, if_pos q]
    · rw [if_neg (by omega), if_neg q]
  have a1 : eWy w' a = eWy (G 1) a ∧ eWc w' a = eWc (G 1) a ∧ ∀ k, k < 5 → eWi w' a k = eWi (G 1) a k ∧ eWa w' a k = eWa (G 1) a k := by
    unfold eWy eWc eWi eWa
    exact ⟨by rw [wn _ (by omega) (by omega)], by rw [wn _ (by omega) (by omega)], fun k hk => ⟨by rw [wn _ (by omega) (by omega)], by rw [wn _ (by omega) (by omega)]⟩⟩
  obtain ⟨d1, d2⟩ := bRemIt (B := zsub F (χ + 1)) (j := j) ha (c - 1 - j) (by omega)
  have eD : bRem (zsub F (χ + 1)) (nI a) (nI j) = va_up (it (bRemS (nI a) (nI j)) (c - 1 - j) (zsub F (χ + 1))) 5 (upd (it (bRemS (nI a) (nI j)) (c - 1 - j) (zsub F (χ + 1)) 5) a (nI (c - 1))) := by
    unfold bRem
    rw [cx.subs ha, hcc, show nI c - 1 = nI (c - 1) from pk_sub (b := 1) (by omega), pk_sub (show j ≤ c - 1 by omega), nI_clamp (by omega)]
    dsimp only
    rw [ePut ha (by decide)]
  generalize it (bRemS (nI a) (nI j)) (c - 1 - j) (zsub F (χ + 1)) = C at d1 d2 eD
  generalize bRem (zsub F (χ + 1)) (nI a) (nI j) = D at m1 eD
  have D6 : D 6 = C 6 := by rw [eD, zup_ne (by decide)]
  have D5 : D 5 = upd (zsub F (χ + 1) 5) a (nI (c - 1)) := by rw [eD, zup_eq, d1 5 (by decide)]
  have Dq : ∀ q, q ≠ 5 → q ≠ 6 → D q = zsub F (χ + 1) q := fun q h5 h6 => by rw [eD, zup_ne h5, d1 q h6]
  have cxD : eCx D w' := by
    refine eCx.of fun t ht => ?_
    obtain ⟨hv, hb⟩ := cx.at ht
    by_cases e : t = a
    · subst e
      obtain ⟨h7, h8, hz, h19, hi, hs, hvs⟩ := hv
      obtain ⟨b7, b1, b2, b5, b3, b6⟩ := hb
      obtain ⟨y1, y2, y3⟩ := a1
      refine ⟨⟨⟨by rw [y1, wn _ (by omega) (by omega)]; exact h7.1, by rw [y1]; exact h7.2⟩, ⟨by rw [y2, wn _ (by omega) (by omega)]; exact h8.1, by rw [y2]; exact h8.2⟩, by rw [y1, y2]; exact hz, ⟨by rw [s0]; exact w19, by omega⟩, fun k hk => ?_, fun k hk => ?_, ?_⟩, ?_, ?_, ?_, ?_, fun k hk => ?_, fun k hk => ?_⟩
      · rw [y2] at hk
        rw [(y3 k (by omega)).1, (y3 k (by omega)).2, wn _ (by omega) (by omega), wn _ (by omega) (by omega)]
        exact hi k hk
      · rw [s0] at hk
        rw [b0 k hk, ws k (by omega)]
        by_cases q : j ≤ k
        · rw [if_pos ⟨q, hk⟩, if_pos q]
          exact hs (k + 1) (by omega)
        · rw [if_neg (by omega), if_neg q]
          exact hs k (by omega)
      · unfold mVes at hvs ⊢
        rw [wn _ (by omega) (by omega)]
        exact hvs
      · rw [Dq 7 (by decide) (by decide), wn _ (by omega) (by omega)]
        exact b7
      · rw [Dq 1 (by decide) (by decide), wn _ (by omega) (by omega)]
        exact b1
      · rw [Dq 2 (by decide) (by decide), wn _ (by omega) (by omega)]
        exact b2
      · rw [D5, upd_eq, w19]
      · rw [y2] at hk
        rw [Dq 3 (by decide) (by decide), Dq 4 (by decide) (by decide), wn _ (by omega) (by omega), wn _ (by omega) (by omega)]
        exact b3 k hk
      · rw [s0] at hk
        rw [D6, d2, ws k (by omega)]
        by_cases q : j ≤ k
        · rw [if_pos (by omega), if_pos ⟨q, hk⟩]
          exact b6 (k + 1) (by omega)
        · rw [if_neg (by omega), if_neg (by omega)]
          exact b6 k (by omega)
    · refine ⟨hv.row (hrow t ht e), hb.row hv (hrow t ht e) (fun q hq => ?_) (fun q k hq hk => ?_) (fun k hk => ?_)⟩
      · by_cases q5 : q = 5
        · subst q5
          rw [D5, upd_ne e]
        · rw [Dq q q5 (by omega)]
      · rw [Dq q (by omega) (by omega)]
      · rw [D6, d2, if_neg (by omega)]
  have hrk' : eRk w' (nRs (G 1) 12) := hrk.less cx.1 (fun t ht hy' => by
    by_cases e : t = a
    · subst e
      exact ⟨by rw [← a1.1]; exact hy', a1.2.1, fun k hk => (a1.2.2 k hk).1⟩
    · obtain ⟨q1, q2, q3, q4, q5⟩ := (hrow t ht e).w
      exact ⟨by rw [← q1]; exact hy', q2, fun k hk => (q4 k hk).1⟩) (fun p hp i hi => by
    by_cases e : p = a
    · subst e
      rw [s0] at hi
      refine ⟨if j ≤ i then i + 1 else i, ?_, b0 i hi⟩
      rw [hcc]
      split <;> omega
    · obtain ⟨q1, q2, q3, q4, q5⟩ := (hrow p hp e).w
      have := (cx.1 p hp).2.2.2.1.2
      rw [q3] at hi
      exact ⟨i, hi, q5 i (by omega)⟩)
  obtain ⟨-, q2, q3⟩ := eFind_under cxD hrk'
  have l : mLow (G 1) w' := ⟨fun t k ht hk => wn _ (by omega) (by omega), wn _ (by omega) (by omega), wn _ (by omega) (by omega)⟩
  have hst := hE.1.book l cxD q2 q3
  obtain ⟨r3, r4, r0⟩ := eRem_0 (G := G) (s := s) (x := w')
  refine eCall.push hY hMd hV hE ho hs f1 f2 eKeep.refl (fun _ _ _ => rfl) (fun i hi => zput_ne (by omega)) (mPsh.up hs) r3 r4 r0 ?_ m1 m2
  rw [zup_eq]
  refine hst.to (eBeq.of fun q h1 h8 => ?_) (eSeq.of fun q h6 => ?_) (fun _ _ => rfl) (by omega)
  · show zput (tF F P χ o s) (χ + 1) 9 _ (χ + 1 + q) = _
    rw [zput_at (by omega)]
  · show zput (tF F P χ o s) (χ + 1) 9 _ (χ + 19 + q) = F (χ + 19 + q)
    rw [zput_ne (by omega), Nat.add_assoc, tF_j (by omega) (by omega)]
/-- a draft that becomes the book -/
theorem eDraft {yX yM : MethodName} {wX wM : List Cond} {hX hM : Nat} {as : List Value} {G X D F0 : Nat → Nat → Int32} {w' : Nat → Int32} {o s : Nat} {z : Int32}
    (hY : zSys sh P χ) (hMd : zMd sh P (χ + 41)) (hV : zVw F (χ + 41) 13 G) (hE : eX N F P χ G) (ho : o < 8) (hs : s ≤ 8) (f1 : F (χ + 34) 1 = nI o) (f2 : F (χ + 34) 2 = nI s) (e0 : eKeep χ F F0) (e0' : ∀ j, 40 < j → j < 59 → F0 (χ + j) = F (χ + j))
    (l : mLow (G 1) w') (cxD : eCx D w') (q2 : ∀ t, t < 20 → (bFind D).1 t = nI (nRs w' 12 t) ∧ nRs w' 12 t ≤ 8) (q3 : eRk w' (nRs w' 12)) (x1 : ∀ i, i < 462 → X 1 i = w' i) (x10 : ∀ i, i < 462 → X 10 i = G 1 i) (x2 : X 2 = G 2) (x3 : X 3 = G 3) (x4 : X 4 = G 4) (x0 : ∀ q, q = 4 ∨ q = 6 ∨ q = 7 ∨ q = 8 → X 0 q = G 0 q)
    (m1 : zMet yX wX hX 17 497 (.ref χ :: as) sh F P (some (.int z)) (tS sh P χ ((o + s) % 8)) (zput (tF F0 P χ o s) (χ + 1) 9 (bCopy (zsub F (χ + 1)) (tFind D))) (tP P χ ((o + s) % 8)))
    (m2 : ∀ F1 : Nat → Nat → Int32, zMd (tS sh P χ ((o + s) % 8)) (tP P χ ((o + s) % 8)) (χ + 41) → zVw F1 (χ + 41) 13 G → zMet yM wM hM 0 0 (.ref (χ + 41) :: as) (tS sh P χ ((o + s) % 8)) F1 (tP P χ ((o + s) % 8)) (some (.int z)) (tS sh P χ ((o + s) % 8)) (zput F1 (χ + 41) 13 (mDone X s)) (tP P χ ((o + s) % 8))) : eCall N χ yX wX hX yM wM hM as sh F P := by
  have hst := hE.1.book l cxD q2 q3
  refine eCall.push hY hMd hV hE ho hs f1 f2 e0 e0' (fun i hi => zput_ne (by omega)) (mPsh.done hs x10 x2) ?_ ?_ (fun q hq => ?_) ?_ m1 (m2 _)
  · rw [mDone_j (by decide) (by decide) (by decide) (by decide)]
    exact x3
  · rw [mDone_j (by decide) (by decide) (by decide) (by decide)]
    exact x4
  · rw [mDone_0 (by omega)]
    exact x0 q hq
  · refine hst.to ((eBeq.copy (B := zsub F (χ + 1))).trans (eBeq.of fun q h1 h8 => ?_)) (eSeq.of fun q h6 => ?_) (fun i hi => (mDone_1 hi).trans (x1 i hi)) (by omega)
    · show zput (tF F0 P χ o s) (χ + 1) 9 _ (χ + 1 + q) = _
      rw [zput_at (by omega)]
    · show zput (tF F0 P χ o s) (χ + 1) 9 _ (χ + 19 + q) = F (χ + 19 + q)
      rw [zput_ne (by omega), Nat.add_assoc, tF_j (by omega) (by omega)]
      exact e0.2 _ (by omega)
/-- the model's row is brought back -/
theorem eQ.rest {G X : Nat → Nat → Int32} (x10 : ∀ i, i < 462 → X 10 i = G 1 i) (x2 : X 2 = G 2) (x3 : X 3 = G 3) (x4 : X 4 = G 4) (x0 : ∀ q, q ≤ 8 → X 0 q = G 0 q) : eQ G (mRest X) :=
  ⟨fun i hi => (mRest_at hi).trans (x10 i hi), (mRest_j (by decide)).trans x2, (mRest_j (by decide)).trans x3, (mRest_j (by decide)).trans x4, fun q hq => by rw [mRest_j (by decide)]; exact x0 q hq⟩
end EBOOK2
