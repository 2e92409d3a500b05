/-! ===== 79.pureE: allow, recipe: both sides ===== -/
section EBOOK3
variable {N χ : Nat} {sh : zSh} {F : Nat → Nat → Int32} {P : Nat → Nat → Option Nat}
theorem mHas_e {B : Nat → Nat → Int32} {w : Nat → Int32} (cx : eCx B w) {t : Nat} (ht : t < 20) (v : Int32) : mHas w t v (eWs w t) = bHasSub B (nI t) v := by
  have h : ∀ n, n ≤ eWs w t → mHas w t v n = anyLt (fun i => bSub B (nI t) (nI i) == v) n := by
    intro n
    induction n with
    | zero => exact fun _ => rfl
    | succ n ih =>
      intro hn
      show (mHas w t v n || (w (23 * t + (20 + n)) == v)) = (anyLt (fun i => bSub B (nI t) (nI i) == v) n || (bSub B (nI t) (nI n) == v))
      rw [ih (by omega), cx.sub ht (show n < eWs w t by omega), ((cx.1 t ht).2.2.2.2.2.1 n (by omega)).1]
  unfold bHasSub
  have := (cx.1 t ht).2.2.2.1.2
  rw [cx.subs ht, nI_clamp (by omega)]
  exact h _ (Nat.le_refl _)
theorem k_allow (h : LI N sh F P χ) (t u : Int32) : eCall N χ yX6_allow wsX6_allow 6 yX7_allow wsX7_allow 5 [.int t, .int u] sh F P := by
  obtain ⟨hY, hMd, G, hV, hE⟩ := id h
  obtain ⟨cx, hrn, hrk, -⟩ := id hE.1
  obtain ⟨o, s, ho, hs, f1, f2, g2⟩ := hE.ring
  rcases eThg t with ⟨ht, ht'⟩ | ⟨a, ha, rfl, ht, ht'⟩
  · exact eCall.ask0 h (c_X6_allow_b hY (Or.inl ht)) (c_X7_allow_b hMd hV (Or.inl ht'))
  rcases eThg u with ⟨hu, hu'⟩ | ⟨b, hb, rfl, hu, hu'⟩
  · exact eCall.ask0 h (c_X6_allow_b hY (Or.inr (Or.inl hu))) (c_X7_allow_b hMd hV (Or.inr (Or.inl hu')))
  by_cases hab : nI a = nI b
  · exact eCall.ask0 h (c_X6_allow_b hY (Or.inr (Or.inr hab))) (c_X7_allow_b hMd hV (Or.inr (Or.inr hab)))
  obtain ⟨e19, c3⟩ := (cx.1 a ha).2.2.2.1
  have hme := mHas_e cx ha (nI b)
  by_cases hh : bHasSub (zsub F (χ + 1)) (nI a) (nI b) = true
  · exact eCall.ask0 h (c_X6_allow_h hY ht hu hab hh) (c_X7_allow_h hMd hV ha hb hab c3 e19 (by rw [hme]; exact hh))
  have hh' : mHas (G 1) a (nI b) (eWs (G 1) a) = false := by
    rw [hme]
    exact Bool.not_eq_true _ |>.mp hh
  by_cases h3 : eWs (G 1) a = 3
  · exact eCall.ask0 h (c_X6_allow_f hY ht hu hab hh (by rw [cx.subs ha, h3]; decide)) (c_X7_allow_f hMd hV ha hb hab c3 e19 hh' h3)
  have hs3 : bSubs (zsub F (χ + 1)) (nI a) < 3 := by
    rw [cx.subs ha]
    exact nI_lt (b := 3) (by omega) (by decide)
  have cxC : eCx (bCopy (zsub F (χ + 10)) (zsub F (χ + 1))) (G 1) := ⟨cx.1, cx.2.beq cx.1 eBeq.copy⟩
  generalize hcc : eWs (G 1) a = c at e19 c3 hh' h3
  obtain ⟨w', hw'⟩ : ∃ w', mAdd (G 1) a c (nI b) = w' := ⟨_, rfl⟩
  have w19 : w' (23 * a + 19) = nI (c + 1) := by
    rw [← hw']
    unfold mAdd
    rw [upd_eq]
  have wc : w' (23 * a + (20 + c)) = nI b := by
    rw [← hw']
    unfold mAdd
    rw [upd_ne (by omega), upd_eq]
  have wn : ∀ i, i ≠ 23 * a + 19 → i ≠ 23 * a + (20 + c) → w' i = G 1 i := fun i h1 h2 => by
    rw [← hw']
    unfold mAdd
    rw [upd_ne h1, upd_ne h2]
  have hrow : ∀ t, t < 20 → t ≠ a → eRow (G 1) w' t := fun t ht hne k hk h1 => wn _ (by omega) (by omega)
  have s0 : eWs w' a = c + 1 := by
    unfold eWs
    rw [w19, nI_clamp (by omega)]
  have b0 : ∀ i, i < c → eWb w' a i = eWb (G 1) a i := fun i hi => by
    unfold eWb
    rw [wn _ (by omega) (by omega)]
  have bc : eWb w' a c = b := by
    unfold eWb
    rw [wc, nI_clamp (by omega)]
  have a1 : eWy w' a = eWy (G 1) a ∧ eWc w' a = eWc (G 1) a ∧ ∀ k, k < 5 → eWi w' a k = eWi (G 1) a k ∧ eWa w' a k = eWa (G 1) a k := by
    unfold eWy eWc eWi eWa
    exact ⟨by rw [wn _ (by omega) (by omega)], by rw [wn _ (by omega) (by omega)], fun k hk => ⟨by rw [wn _ (by omega) (by omega)], by rw [wn _ (by omega) (by omega)]⟩⟩
  obtain ⟨D, eD⟩ : ∃ D, tAdd F χ (nI a) (nI b) = D := ⟨_, rfl⟩
  have eD' : D = va_up (va_up (bCopy (zsub F (χ + 10)) (zsub F (χ + 1))) 6 (upd (bCopy (zsub F (χ + 10)) (zsub F (χ + 1)) 6) (a * 3 + c) (nI b))) 5 (upd (bCopy (zsub F (χ + 10)) (zsub F (χ + 1)) 5) a (nI (c + 1))) := by
    rw [← eD]
    unfold tAdd bAddSub
    rw [cxC.subs ha, hcc, m3, ePut (by omega) (by decide), nI_1, ePut ha (by decide)]
  have cxD : eCx D w' := by
    generalize bCopy (zsub F (χ + 10)) (zsub F (χ + 1)) = C at cxC eD'
    have D6 : D 6 = upd (C 6) (a * 3 + c) (nI b) := by rw [eD', zup_ne (by decide), zup_eq]
    have D5 : D 5 = upd (C 5) a (nI (c + 1)) := by rw [eD', zup_eq]
    have Dq : ∀ q, q ≠ 5 → q ≠ 6 → D q = C q := fun q h5 h6 => by rw [eD', zup_ne h5, zup_ne h6]
    refine eCx.of fun t ht => ?_
    obtain ⟨hv, hbb⟩ := cxC.at ht
    by_cases e : t = a
    · subst e
      obtain ⟨h7, h8, hz, h19, hi, hs, hvs⟩ := hv
      obtain ⟨b7, b1, b2, b5, b3, b6⟩ := hbb
      obtain ⟨y1, y2, y3⟩ := a1
      refine ⟨⟨⟨by rw [y1, wn _ (by omega) (by omega)]; exact h7.1, by rw [y1]; exact h7.2⟩, ⟨by rw [y2, wn _ (by omega) (by omega)]; exact h8.1, by rw [y2]; exact h8.2⟩, by rw [y1, y2]; exact hz, ⟨by rw [s0]; exact w19, by omega⟩, fun k hk => ?_, fun k hk => ?_, ?_⟩, ?_, ?_, ?_, ?_, fun k hk => ?_, fun k hk => ?_⟩
      · rw [y2] at hk
        rw [(y3 k (by omega)).1, (y3 k (by omega)).2, wn _ (by omega) (by omega), wn _ (by omega) (by omega)]
        exact hi k hk
      · rw [s0] at hk
        by_cases q : k = c
        · subst q
          rw [bc, wc]
          exact ⟨rfl, hb⟩
        · rw [b0 k (by omega), wn _ (by omega) (by omega)]
          exact hs k (by omega)
      · unfold mVes at hvs ⊢
        rw [wn _ (by omega) (by omega)]
        exact hvs
      · rw [Dq 7 (by decide) (by decide), wn _ (by omega) (by omega)]
        exact b7
      · rw [Dq 1 (by decide) (by decide), wn _ (by omega) (by omega)]
        exact b1
      · rw [Dq 2 (by decide) (by decide), wn _ (by omega) (by omega)]
        exact b2
      · rw [D5, upd_eq, w19]
      · rw [y2] at hk
        rw [Dq 3 (by decide) (by decide), Dq 4 (by decide) (by decide), wn _ (by omega) (by omega), wn _ (by omega) (by omega)]
        exact b3 k hk
      · rw [s0] at hk
        rw [D6]
        by_cases q : k = c
        · subst q
          rw [upd_eq, wc]
        · rw [upd_ne (by omega), wn _ (by omega) (by omega)]
          exact b6 k (by omega)
    · refine ⟨hv.row (hrow t ht e), hbb.row hv (hrow t ht e) (fun q hq => ?_) (fun q k hq hk => ?_) (fun k hk => ?_)⟩
      · by_cases q5 : q = 5
        · subst q5
          rw [D5, upd_ne e]
        · rw [Dq q q5 (by omega)]
      · rw [Dq q (by omega) (by omega)]
      · rw [D6, upd_ne (by omega)]
  have l : mLow (G 1) w' := ⟨fun t k ht hk => wn _ (by omega) (by omega), wn _ (by omega) (by omega), wn _ (by omega) (by omega)⟩
  -- the model's memory
  obtain ⟨H, eH⟩ : ∃ H, va_up (mHold G) 1 (mAdd (G 1) a c (nI b)) = H := ⟨_, rfl⟩
  have H1 : H 1 = w' := by rw [← eH, zup_eq, hw']
  have Hj : ∀ j, j ≠ 1 → j ≠ 10 → H j = G j := fun j h1 h10 => by
    rw [← eH, zup_ne h1]
    exact zup_ne h10
  have H10 : ∀ i, i < 462 → H 10 i = G 1 i := fun i hi => by
    rw [← eH, zup_ne (by decide)]
    unfold mHold
    rw [zup_eq]
    exact cCopy_in hi
  obtain ⟨V, eV⟩ : ∃ V, va_up H 5 (mRanks (H 1) (H 5) 12) = V := ⟨_, rfl⟩
  have V5 : V 5 = mRanks (H 1) (H 5) 12 := by rw [← eV, zup_eq]
  have Vj : ∀ j, j ≠ 5 → V j = H j := fun j h5 => by rw [← eV, zup_ne h5]
  have hok : mOk (H 1) := by rw [H1]; exact cxD.1.ok
  have hbad := mBad_n (w := H 1) (v := H 5) (by rw [H1]; exact cxD.1)
  rw [H1] at hbad
  rcases eFind cxD with ⟨q1, q2, q3⟩ | ⟨q1, t8, ht8, q2⟩
  · have hw0 : mBadRank (mRanks (H 1) (H 5) 12) 20 = false := by
      rw [H1]
      refine Bool.not_eq_true _ |>.mp fun hb => ?_
      obtain ⟨t, ht, h8⟩ := hbad.mp hb
      have := (q2 t ht).2
      omega
    have m1 := c_X6_allow_o (F := F) (D := D) (V := tFind D) (w := bFindOk D) hY ho hs f1 f2 ht hu hab ⟨eD, trivial⟩ ⟨rfl, trivial⟩ ⟨rfl, trivial⟩ hh hs3 (by rw [q1]; decide)
    have er : bSubs (bCopy (zsub F (χ + 1)) (tFind D)) (nI a) = nI (c + 1) := by
      have hst := hE.1.book l cxD q2 q3
      have hc2 : eCx (bCopy (zsub F (χ + 1)) (tFind D)) w' := ⟨hst.1.1, hst.1.2.beq hst.1.1 eBeq.copy⟩
      rw [hc2.subs ha, s0]
    rw [er] at m1
    refine eDraft (X := va_up V 0 (upd (V 0) 16 0)) hY hMd hV hE ho hs f1 f2 (eKeep.put (Or.inl ⟨by decide, by decide⟩)) (fun j h1 h2 => zput_ne (by omega)) l cxD q2 q3 (fun i _ => ?_) (fun i hi => ?_) ?_ ?_ ?_ (fun q hq => ?_) m1
      (fun F1 hm hv => c_X7_allow_o hm hv ha hb hab c3 e19 hh' (by omega) ⟨eH, trivial⟩ ⟨eV, trivial⟩ ⟨hw0, trivial⟩ hok rfl hs (by rw [Vj 0 (by decide), Hj 0 (by decide) (by decide)]; exact g2))
    · rw [zup_ne (by decide), Vj 1 (by decide), H1]
    · rw [zup_ne (by decide), Vj 10 (by decide)]
      exact H10 i hi
    · rw [zup_ne (by decide), Vj 2 (by decide), Hj 2 (by decide) (by decide)]
    · rw [zup_ne (by decide), Vj 3 (by decide), Hj 3 (by decide) (by decide)]
    · rw [zup_ne (by decide), Vj 4 (by decide), Hj 4 (by decide) (by decide)]
    · rw [zup_eq, upd_ne (by omega), Vj 0 (by decide), Hj 0 (by decide) (by decide)]
  · have hw1 : mBadRank (mRanks (H 1) (H 5) 12) 20 = true := by
      rw [H1]
      exact hbad.mpr ⟨t8, ht8, q2⟩
    have m1 := c_X6_allow_g (F := F) (D := D) (V := tFind D) (w := bFindOk D) hY ht hu hab ⟨eD, trivial⟩ ⟨rfl, trivial⟩ ⟨rfl, trivial⟩ hh hs3 q1
    exact eCall.ask hY hMd hE (eKeep.put (Or.inl ⟨by decide, by decide⟩)) (eQ.rest (fun i hi => by rw [Vj 10 (by decide)]; exact H10 i hi) (by rw [Vj 2 (by decide), Hj 2 (by decide) (by decide)]) (by rw [Vj 3 (by decide), Hj 3 (by decide) (by decide)]) (by rw [Vj 4 (by decide), Hj 4 (by decide) (by decide)]) (fun q _ => by rw [Vj 0 (by decide), Hj 0 (by decide) (by decide)])) m1
      (c_X7_allow_g hMd (hV.off (by omega)) ha hb hab c3 e19 hh' (by omega) ⟨eH, trivial⟩ ⟨eV, trivial⟩ ⟨hw1, trivial⟩ hok rfl)
theorem bLayIt {B R : Nat → Nat → Int32} {a : Nat} (ha : a < 20) (h2 : R 0 2 = nI a) : ∀ n, n ≤ 5 → (∀ q, q ≠ 3 → q ≠ 4 → it (bLayS R) n B q = B q) ∧ (∀ x, it (bLayS R) n B 3 x = if a * 5 ≤ x ∧ x < a * 5 + n then R 1 (x - a * 5) else B 3 x) ∧ ∀ x, it (bLayS R) n B 4 x = if a * 5 ≤ x ∧ x < a * 5 + n then R 2 (x - a * 5) else B 4 x := by
  intro n
  induction n with
  | zero =>
    intro _
    rw [it_zero]
    exact ⟨fun _ _ _ => rfl, fun x => (if_neg (by omega)).symm, fun x => (if_neg (by omega)).symm⟩
  | succ n ih =>
    intro hn
    obtain ⟨i1, i2, i3⟩ := ih (by omega)
    rw [it_s]
    generalize it (bLayS R) n B = C at i1 i2 i3
    have e : bLayS R n C = va_up (va_up C 3 (upd (C 3) (a * 5 + n) (R 1 n))) 4 (upd (C 4) (a * 5 + n) (R 2 n)) := by
      unfold bLayS
      rw [h2, m5, ePut (by omega) (by decide), ePut (by omega) (by decide), eAt (by omega) (by decide), eAt (by omega) (by decide)]
    rw [e]
    refine ⟨fun q h3 h4 => by rw [zup_ne h4, zup_ne h3]; exact i1 q h3 h4, fun x => ?_, fun x => ?_⟩
    · rw [zup_ne (by decide), zup_eq]
      by_cases ex : x = a * 5 + n
      · subst ex
        rw [upd_eq, if_pos (by omega)]
        exact congrArg (R 1) (by omega)
      · rw [upd_ne ex, i2]
        by_cases c : a * 5 ≤ x ∧ x < a * 5 + n
        · rw [if_pos c, if_pos (by omega)]
        · rw [if_neg c, if_neg (by omega)]
    · rw [zup_eq]
      by_cases ex : x = a * 5 + n
      · subst ex
        rw [upd_eq, if_pos (by omega)]
        exact congrArg (R 2) (by omega)
      · rw [upd_ne ex, i3]
        by_cases c : a * 5 ≤ x ∧ x < a * 5 + n
        · rw [if_pos c, if_pos (by omega)]
        · rw [if_neg c, if_neg (by omega)]
theorem qLayIt {w : Nat → Int32} {Q : Nat → Nat → Int32} {a : Nat} : ∀ n i, qLay w Q a n i = if 23 * a + 9 ≤ i ∧ i < 23 * a + 9 + n then Q 11 (i - (23 * a + 9)) else upd (upd w (23 * a + 7) (Q 0 19)) (23 * a + 8) (Q 0 20) i := by
  intro n
  unfold qLay
  induction n with
  | zero =>
    intro i
    rw [it_zero]
    exact (if_neg (by omega)).symm
  | succ n ih =>
    intro i
    rw [it_s]
    by_cases ex : i = 23 * a + (9 + n)
    · subst ex
      rw [upd_eq, if_pos (by omega)]
      exact congrArg (Q 11) (by omega)
    · rw [upd_ne ex, ih]
      by_cases c : 23 * a + 9 ≤ i ∧ i < 23 * a + 9 + n
      · rw [if_pos c, if_pos (by omega)]
      · rw [if_neg c, if_neg (by omega)]
theorem k_recipe (h : LI N sh F P χ) : eCall N χ yX6_recipe wsX6_recipe 6 yX7_recipe wsX7_recipe 5 [] sh F P := by
  obtain ⟨hY, hMd, G, hV, hE⟩ := id h
  obtain ⟨cx, hrn, hrk, -⟩ := id hE.1
  obtain ⟨o, s, ho, hs, f1, f2, g2⟩ := hE.ring
  obtain ⟨-, -, -, ⟨L, f8, hL⟩, -⟩ := id hE
  have hL60 := hL.1
  obtain ⟨R, eR⟩ : ∃ R, tLen F χ = R := ⟨_, rfl⟩
  obtain ⟨Q, eQ'⟩ : ∃ Q, qRead G L = Q := ⟨_, rfl⟩
  have hrd := eRead hL (zsub F (χ + 37))
  have eR2 : rRead (F (χ + 40)) (nI L) (zsub F (χ + 37)) = R := by
    rw [← eR]
    unfold tLen
    rw [f8]
  rw [eR2] at hrd
  obtain ⟨qj, q0, -⟩ := (show qI G (qRead G L) from (qI.it (G := G) L).fin)
  rw [eQ'] at qj q0 hrd
  rcases hrd with ⟨hb1, hb2, hb3, hb9⟩ | ⟨c, hc1, hD⟩
  · rw [eQ'] at hb2 hb3
    have m1 := c_X6_recipe_f (F := F) (R := R) hY ⟨eR, trivial⟩ hb1
    have z0 : zu (zu (zput F (χ + 37) 3 R) χ 9 (R 0 5)) χ 10 (R 0 6) χ = upd (upd (F χ) 9 (R 0 5)) 10 (R 0 6) := by
      unfold zu
      rw [if_pos rfl, if_pos rfl, zput_ne (by omega)]
    have zj : ∀ j, 1 ≤ j → (j < 37 ∨ 40 ≤ j) → zu (zu (zput F (χ + 37) 3 R) χ 9 (R 0 5)) χ 10 (R 0 6) (χ + j) = F (χ + j) := fun j h1 h2 => by
      unfold zu
      rw [if_neg (by omega), if_neg (by omega), zput_ne (by omega)]
    generalize zu (zu (zput F (χ + 37) 3 R) χ 9 (R 0 5)) χ 10 (R 0 6) = F' at m1 z0 zj
    have hV' : zVw F' (χ + 41) 13 G := fun j hj => by
      rw [Nat.add_assoc, zj _ (by omega) (by omega), ← Nat.add_assoc]
      exact hV j hj
    have hQ9 : ¬ Q 0 22 = -9 := by
      rw [hb2]
      exact hb9
    refine eCall.set (G' := qSet (qSet Q 7 (Q 0 22)) 8 (Q 0 23)) hY hMd (hE.gen (fun j hj => zj j (by omega) (by omega)) (fun i _ => ?_) ?_ ?_ ?_ ?_ ⟨L, ?_, ?_⟩ (Or.inr ⟨?_, ?_, ?_⟩) (by omega)) m1 (c_X7_recipe_f hMd hV' hL60 hL.2.1 ⟨eQ', trivial⟩ hQ9)
    · rw [qSet_j (by decide), qSet_j (by decide), qj 1 (by decide) (by decide)]
    · rw [qSet_j (by decide), qSet_j (by decide), qj 2 (by decide) (by decide)]
    · rw [qSet_j (by decide), qSet_j (by decide), qj 3 (by decide) (by decide)]
    · rw [qSet_n (by decide), qSet_n (by decide), q0 2 (by decide)]
    · rw [qSet_n (by decide), qSet_n (by decide), q0 4 (by decide)]
    · rw [z0, upd_ne (by decide), upd_ne (by decide)]
      exact f8
    · rw [zj 40 (by decide) (by decide)]
      exact hL.q (by rw [qSet_n (by decide), qSet_n (by decide), q0 6 (by decide)]) (by rw [qSet_j (by decide), qSet_j (by decide), qj 4 (by decide) (by decide)])
    · rw [z0, upd_ne (by decide), upd_eq]
      exact hb1
    · rw [z0, upd_ne (by decide), upd_eq, qSet_n (by decide), qSet_k, hb2]
    · rw [z0, upd_eq, qSet_k, hb3]
  · obtain ⟨d22, d20, dc, d5, d4, ⟨a, ha, d18, d2⟩, ⟨y, y1, y20, d19, d3⟩, dk⟩ := hD
    have Q1 : Q 1 = G 1 := qj 1 (by decide) (by decide)
    have cxC : eCx (bCopy (zsub F (χ + 10)) (zsub F (χ + 1))) (G 1) := ⟨cx.1, cx.2.beq cx.1 eBeq.copy⟩
    obtain ⟨w', hw'⟩ : ∃ w', qLay (Q 1) Q a (2 * c) = w' := ⟨_, rfl⟩
    have wq : ∀ i, w' i = if 23 * a + 9 ≤ i ∧ i < 23 * a + 9 + 2 * c then Q 11 (i - (23 * a + 9)) else upd (upd (G 1) (23 * a + 7) (nI y)) (23 * a + 8) (nI c) i := fun i => by rw [← hw', qLayIt, Q1, d19, d20]
    have w7 : w' (23 * a + 7) = nI y := by rw [wq, if_neg (by omega), upd_ne (by omega), upd_eq]
    have w8 : w' (23 * a + 8) = nI c := by rw [wq, if_neg (by omega), upd_eq]
    have w9 : ∀ k, k < c → w' (23 * a + (9 + 2 * k)) = Q 11 (2 * k) ∧ w' (23 * a + (9 + 2 * k + 1)) = Q 11 (2 * k + 1) := fun k hk => by
      rw [wq, wq, if_pos (by omega), if_pos (by omega)]
      exact ⟨congrArg (Q 11) (by omega), congrArg (Q 11) (by omega)⟩
    have wn : ∀ i, i < 23 * a + 7 ∨ 23 * a + 19 ≤ i → w' i = G 1 i := fun i hi => by rw [wq, if_neg (by omega), upd_ne (by omega), upd_ne (by omega)]
    have hrow : ∀ t, t < 20 → t ≠ a → eRow (G 1) w' t := fun t ht hne k hk h1 => wn _ (by omega)
    obtain ⟨D, eD⟩ : ∃ D, bLay (bCopy (zsub F (χ + 10)) (zsub F (χ + 1))) R = D := ⟨_, rfl⟩
    have cxD : eCx D w' := by
      generalize bCopy (zsub F (χ + 10)) (zsub F (χ + 1)) = C at cxC eD
      obtain ⟨i1, i2, i3⟩ := bLayIt (B := va_up (va_up C 1 (upd (C 1) a (nI y))) 2 (upd (C 2) a (nI c))) (R := R) ha d2 5 (Nat.le_refl _)
      have eD2 : it (bLayS R) 5 (va_up (va_up C 1 (upd (C 1) a (nI y))) 2 (upd (C 2) a (nI c))) = D := by
        rw [← eD]
        unfold bLay
        rw [d2, d3, d4, ePut ha (by decide), ePut ha (by decide)]
      rw [eD2] at i1 i2 i3
      have D1 : D 1 = upd (C 1) a (nI y) := by rw [i1 1 (by decide) (by decide), zup_ne (by decide), zup_eq]
      have D2 : D 2 = upd (C 2) a (nI c) := by rw [i1 2 (by decide) (by decide), zup_eq]
      have Dq : ∀ q, q = 5 ∨ q = 6 ∨ q = 7 → D q = C q := fun q hq => by rw [i1 q (by omega) (by omega), zup_ne (by omega), zup_ne (by omega)]
      have D3 : ∀ x, D 3 x = if a * 5 ≤ x ∧ x < a * 5 + 5 then R 1 (x - a * 5) else C 3 x := fun x => by rw [i2, zup_ne (by decide), zup_ne (by decide)]
      have D4 : ∀ x, D 4 x = if a * 5 ≤ x ∧ x < a * 5 + 5 then R 2 (x - a * 5) else C 4 x := fun x => by rw [i3, zup_ne (by decide), zup_ne (by decide)]
      have ey : eWy w' a = y := by unfold eWy; rw [w7, nI_clamp (by omega)]
      have ec : eWc w' a = c := by unfold eWc; rw [w8, nI_clamp (by omega)]
      have es : eWs w' a = eWs (G 1) a := by unfold eWs; rw [wn _ (by omega)]
      refine eCx.of fun t ht => ?_
      obtain ⟨hv, hbb⟩ := cxC.at ht
      by_cases e : t = a
      · subst e
        obtain ⟨h7, h8, hz, h19, hi, hs, hvs⟩ := hv
        obtain ⟨b7, b1, b2, b5, b3, b6⟩ := hbb
        refine ⟨⟨⟨by rw [ey]; exact w7, by omega⟩, ⟨by rw [ec]; exact w8, by omega⟩, fun h0 => by omega, ⟨by rw [es, wn _ (by omega)]; exact h19.1, by rw [es]; exact h19.2⟩, fun k hk => ?_, fun k hk => ?_, ?_⟩, ?_, ?_, ?_, ?_, fun k hk => ?_, fun k hk => ?_⟩
        · rw [ec] at hk
          obtain ⟨x, n, k1, k2, k3, k4, k5, k6, k7⟩ := dk k hk
          have ei : eWi w' t k = x := by unfold eWi; rw [(w9 k hk).1, k4, nI_clamp (by omega)]
          have ea : eWa w' t k = n := by unfold eWa; rw [(w9 k hk).2, k6, nI_clamp (by omega)]
          rw [ei, ea, (w9 k hk).1, (w9 k hk).2, k4, k6]
          exact ⟨rfl, k1, rfl, k2, k3⟩
        · rw [es] at hk
          have eb : eWb w' t k = eWb (G 1) t k := by unfold eWb; rw [wn _ (by omega)]
          rw [eb, wn _ (by omega)]
          exact hs k hk
        · unfold mVes at hvs ⊢
          rw [wn _ (by omega)]
          exact hvs
        · rw [Dq 7 (by omega), wn _ (by omega)]
          exact b7
        · rw [D1, upd_eq, w7]
        · rw [D2, upd_eq, w8]
        · rw [Dq 5 (by omega), wn _ (by omega)]
          exact b5
        · rw [ec] at hk
          obtain ⟨x, n, k1, k2, k3, k4, k5, k6, k7⟩ := dk k hk
          rw [D3, D4, if_pos (by omega), if_pos (by omega), (w9 k hk).1, (w9 k hk).2, k4, k6, show t * 5 + k - t * 5 = k by omega]
          exact ⟨k5, k7⟩
        · rw [es] at hk
          rw [Dq 6 (by omega), wn _ (by omega)]
          exact b6 k hk
      · refine ⟨hv.row (hrow t ht e), hbb.row hv (hrow t ht e) (fun q hq => ?_) (fun q k hq hk => ?_) (fun k hk => ?_)⟩
        · rcases hq with rfl | rfl | rfl | rfl
          · rw [D1, upd_ne e]
          · rw [D2, upd_ne e]
          · rw [Dq 5 (by omega)]
          · rw [Dq 7 (by omega)]
        · rcases hq with rfl | rfl
          · rw [D3, if_neg (by omega)]
          · rw [D4, if_neg (by omega)]
        · rw [Dq 6 (by omega)]
    have l : mLow (G 1) w' := ⟨fun t k ht hk => wn _ (by omega), wn _ (by omega), wn _ (by omega)⟩
    obtain ⟨H, eH⟩ : ∃ H, va_up (mHold Q) 1 (qLay (Q 1) Q a (2 * c)) = H := ⟨_, rfl⟩
    have H1 : H 1 = w' := by rw [← eH, zup_eq, hw']
    have Hj : ∀ j, j ≠ 1 → j ≠ 10 → H j = Q j := fun j h1 h10 => by
      rw [← eH, zup_ne h1]
      exact zup_ne h10
    have H10 : ∀ i, i < 462 → H 10 i = G 1 i := fun i hi => by
      rw [← eH, zup_ne (by decide)]
      unfold mHold
      rw [zup_eq, Q1]
      exact cCopy_in hi
    obtain ⟨V, eV⟩ : ∃ V, va_up H 5 (mRanks (H 1) (H 5) 12) = V := ⟨_, rfl⟩
    have V5 : V 5 = mRanks (H 1) (H 5) 12 := by rw [← eV, zup_eq]
    have Vj : ∀ j, j ≠ 5 → V j = H j := fun j h5 => by rw [← eV, zup_ne h5]
    have hok : mOk (H 1) := by rw [H1]; exact cxD.1.ok
    have hbad := mBad_n (w := H 1) (v := H 5) (by rw [H1]; exact cxD.1)
    rw [H1] at hbad
    have e0 : eKeep χ F (zput (zput F (χ + 37) 3 R) (χ + 10) 9 (tFind D)) := (eKeep.put (Or.inr (Or.inr (Or.inl ⟨by decide, by decide⟩)))).trans (eKeep.put (Or.inl ⟨by decide, by decide⟩))
    rcases eFind cxD with ⟨q1, q2, q3⟩ | ⟨q1, t8, ht8, q2⟩
    · have hw0 : mBadRank (mRanks (H 1) (H 5) 12) 20 = false := by
        rw [H1]
        refine Bool.not_eq_true _ |>.mp fun hb => ?_
        obtain ⟨t, ht, h8⟩ := hbad.mp hb
        have := (q2 t ht).2
        omega
      have m1 := c_X6_recipe_o (F := F) (R := R) (D := D) (V := tFind D) (w := bFindOk D) hY ho hs f1 f2 ⟨eR, trivial⟩ ⟨eD, trivial⟩ ⟨rfl, trivial⟩ ⟨rfl, trivial⟩ d5 (by rw [q1]; decide)
      have hst := hE.1.book l cxD q2 q3
      have er : bRank (bCopy (zsub F (χ + 1)) (tFind D)) (R 0 2) = V 5 a := by
        rw [d2, V5, H1]
        refine (eAt ha (by decide)).trans ?_
        rw [eBeq.copy 8 a (by decide) (by decide) ha, (hst.2.1 a ha).1]
        exact (mRanks_n (v := H 5) cxD.1 12 (by decide) a ha).1.symm
      rw [er] at m1
      refine eDraft (X := va_up V 0 (upd (V 0) 16 0)) hY hMd hV hE ho hs f1 f2 e0 (fun j h1 h2 => by rw [zput_ne (by omega), zput_ne (by omega)]) l cxD q2 q3 (fun i _ => ?_) (fun i hi => ?_) ?_ ?_ ?_ (fun q hq => ?_) m1
        (fun F1 hm hv => c_X7_recipe_o hm hv hL60 hL.2.1 ⟨eQ', trivial⟩ d22 ha d18 dc d20 ⟨eH, trivial⟩ ⟨eV, trivial⟩ ⟨hw0, trivial⟩ hok rfl hs (by rw [Vj 0 (by decide), Hj 0 (by decide) (by decide), q0 2 (by decide)]; exact g2) (by rw [Vj 0 (by decide), Hj 0 (by decide) (by decide)]; exact d18))
      · rw [zup_ne (by decide), Vj 1 (by decide), H1]
      · rw [zup_ne (by decide), Vj 10 (by decide)]
        exact H10 i hi
      · rw [zup_ne (by decide), Vj 2 (by decide), Hj 2 (by decide) (by decide), qj 2 (by decide) (by decide)]
      · rw [zup_ne (by decide), Vj 3 (by decide), Hj 3 (by decide) (by decide), qj 3 (by decide) (by decide)]
      · rw [zup_ne (by decide), Vj 4 (by decide), Hj 4 (by decide) (by decide), qj 4 (by decide) (by decide)]
      · rw [zup_eq, upd_ne (by omega), Vj 0 (by decide), Hj 0 (by decide) (by decide), q0 q (by omega)]
    · have hw1 : mBadRank (mRanks (H 1) (H 5) 12) 20 = true := by
        rw [H1]
        exact hbad.mpr ⟨t8, ht8, q2⟩
      have m1 := c_X6_recipe_g (F := F) (R := R) (D := D) (V := tFind D) (w := bFindOk D) hY ⟨eR, trivial⟩ ⟨eD, trivial⟩ ⟨rfl, trivial⟩ ⟨rfl, trivial⟩ d5 q1
      have hV' : zVw (zput (zput F (χ + 37) 3 R) (χ + 10) 9 (tFind D)) (χ + 41) 13 G := (hV.off (by omega)).off (by omega)
      exact eCall.ask hY hMd hE e0 (eQ.rest (fun i hi => by rw [Vj 10 (by decide)]; exact H10 i hi) (by rw [Vj 2 (by decide), Hj 2 (by decide) (by decide), qj 2 (by decide) (by decide)]) (by rw [Vj 3 (by decide), Hj 3 (by decide) (by decide), qj 3 (by decide) (by decide)]) (by rw [Vj 4 (by decide), Hj 4 (by decide) (by decide), qj 4 (by decide) (by decide)]) (fun q hq => by rw [Vj 0 (by decide), Hj 0 (by decide) (by decide), q0 q (by omega)])) m1
        (c_X7_recipe_g hMd hV' hL60 hL.2.1 ⟨eQ', trivial⟩ d22 ha d18 dc d20 ⟨eH, trivial⟩ ⟨eV, trivial⟩ ⟨hw1, trivial⟩ hok rfl)
end EBOOK3
