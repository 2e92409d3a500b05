/-! ===== 53.pure4: the recursion against the moves ===== -/
theorem eCx.stat {B : Nat → Nat → Int32} {w w' : Nat → Int32} (h : eCx B w) (e : mStat w w') : ∀ t, t < 20 → w' (23 * t + 1) = w (23 * t + 1) ∧ w' (23 * t + 7) = w (23 * t + 7) ∧ w' (23 * t + 8) = w (23 * t + 8) ∧ w' (23 * t + 19) = w (23 * t + 19) ∧ (∀ k, k < 5 → w' (23 * t + (9 + 2 * k)) = w (23 * t + (9 + 2 * k)) ∧ w' (23 * t + (9 + 2 * k + 1)) = w (23 * t + (9 + 2 * k + 1))) ∧ ∀ k, k < 3 → w' (23 * t + (20 + k)) = w (23 * t + (20 + k)) := fun t ht =>
  ⟨e t 1 ht (by decide) (by decide), e t 7 ht (by decide) (by decide), e t 8 ht (by decide) (by decide), e t 19 ht (by decide) (by decide), fun k hk => ⟨e t (9 + 2 * k) ht (by omega) (by omega), e t (9 + 2 * k + 1) ht (by omega) (by omega)⟩, fun k hk => e t (20 + k) ht (by omega) (by omega)⟩
theorem eStat_ves {B : Nat → Nat → Int32} {w w' : Nat → Int32} {t : Nat} (h : eCx B w) (e : mStat w w') (ht : t < 20) : bVes B (nI t) = w' (23 * t + 1) ∧ mVes w' t := by
  have e1 := (h.stat e t ht).1
  refine ⟨by rw [e1]; exact h.ves ht, ?_⟩
  have := (h.1 t ht).2.2.2.2.2.2
  unfold mVes at this ⊢
  rw [e1]
  exact this
theorem eStat_made {w w' : Nat → Int32} {t : Nat} (h : eVal w) (e : mStat w w') (ht : t < 20) : mMade w' t = if eWy w t = 0 then 0 else 1 := by
  rw [mMade_stat e ht, h.made ht]
theorem eT.am {q mg q1 : Int32} {W G : Nat → Nat → Int32} {bt g M : Nat} (h : eT q W G) (n : eN q1 mg W bt g M) : ∀ t, t < 20 → ∃ a, a ≤ 99999 ∧ G 1 (23 * t + 0) = nI a := by
  intro t ht
  obtain ⟨a, ha, ea⟩ := n.2.2.1 t ht
  refine ⟨a, ha, ?_⟩
  rw [← ea]
  exact (h.1 2 t (by decide) (by decide) ht).symm
theorem eTk {q mg q1 : Int32} {W G : Nat → Nat → Int32} {bt g M τ m : Nat} (h : eT q W G) (n : eN q1 mg W bt g M) (hτ : τ < 20) : mTk (G 1) τ (nI m) = wN W (nI τ) (nI m) := by
  have e : G 1 (23 * τ + 0) = W 2 τ := (h.1 2 τ (by decide) (by decide) hτ).symm
  unfold mTk wN
  rw [e, eAt hτ (by decide)]
  by_cases c : W 2 τ < nI m
  · rw [if_pos c, if_neg (Int32.not_le.mpr c)]
  · rw [if_neg c, if_pos (Int32.not_lt.mp c)]
theorem eMd_s {w : Nat → Int32} {t k : Nat} : eMd w t (k + 1) = match eMd w t k with
  | some p => some p
  | none => if eWy w (eWb w t k) = 0 then none else some (eWb w t k) := by
  unfold eMd
  by_cases e : eWy w t = 0
  · rw [if_pos e, if_pos e]
    simp only [fstLt]
    cases fstLt (fun i => !decide (eWy w (eWb w t i) = 0)) k with
    | some i => rfl
    | none =>
      by_cases e2 : eWy w (eWb w t k) = 0
      · simp [e2]
      · simp [e2]
  · rw [if_neg e, if_neg e]
theorem eMd_0 {w : Nat → Int32} {t : Nat} : eMd w t 0 = if eWy w t = 0 then none else some t := by
  unfold eMd
  rfl
def eOp : Option Nat → Int32
  | none => -9
  | some p => nI p
theorem eOp_9 {o : Option Nat} (h : ∀ p, o = some p → p < 20) : eOp o = -9 ↔ o = none := by
  cases o with
  | none => simp [eOp]
  | some p =>
    have := h p rfl
    simp only [eOp, reduceCtorEq, iff_false]
    exact n9 (by omega)
section ESIM
variable {B : Nat → Nat → Int32} {w : Nat → Int32} {r : Nat → Nat} {q q1 : Int32}
theorem eMd_lt (cx : eCx B w) {t k p : Nat} (ht : t < 20) (hk : k ≤ eWs w t) (h : eMd w t k = some p) : p < 20 := by
  rcases (eMd_some h).1 with rfl | ⟨i, hi, rfl⟩
  · exact ht
  · exact ((cx.1 t ht).2.2.2.2.2.1 i (by omega)).2
/-- taking from the store, side by side -/
theorem eT.subs (cx : eCx B w) {W G : Nat → Nat → Int32} {bt g M t n : Nat} (hN : eN q1 1 W bt g M) (hT : eT q W G) (hS : mStat w (G 1)) (ht : t < 20) (hn : n ≤ 1000000) :
    ∀ c, c ≤ eWs w t → mPres G (it (mTakeS t) c (mTake0 G t (nI n))).2.2 ∧
      (((¬ (it (wSubStep B (nI t)) c (nI n - wN W (nI t) (nI n), wUse B W (nI t) (nI n))).2 0 2 = 0) ∧ ¬ (it (mTakeS t) c (mTake0 G t (nI n))).2.2 0 16 = 0) ∨
       ∃ m, m ≤ n ∧ (it (wSubStep B (nI t)) c (nI n - wN W (nI t) (nI n), wUse B W (nI t) (nI n))).1 = nI m ∧ (it (mTakeS t) c (mTake0 G t (nI n))).1 = nI m ∧ (it (mTakeS t) c (mTake0 G t (nI n))).2.1 = eOp (eMd w t c) ∧
         eN q1 1 (it (wSubStep B (nI t)) c (nI n - wN W (nI t) (nI n), wUse B W (nI t) (nI n))).2 bt g M ∧ eT q (it (wSubStep B (nI t)) c (nI n - wN W (nI t) (nI n), wUse B W (nI t) (nI n))).2 (it (mTakeS t) c (mTake0 G t (nI n))).2.2) := by
  intro c
  induction c with
  | zero =>
    intro _
    obtain ⟨a, k, ha, ea, hka, hkm, ek, -⟩ := hN.tk ht hn
    have etk := eTk (m := n) hT hN ht
    obtain ⟨hV, hv⟩ := eStat_ves cx hS ht
    have hT' := hT.use (B := B) (m := nI n) ht hV hv rfl
    have hp : mPres G (mUse G t (wN W (nI t) (nI n))) := mUse_pres
    show mPres G (mUse G t (mTk (G 1) t (nI n))) ∧ ((¬ wUse B W (nI t) (nI n) 0 2 = 0 ∧ ¬ mUse G t (mTk (G 1) t (nI n)) 0 16 = 0) ∨ ∃ m, m ≤ n ∧ nI n - wN W (nI t) (nI n) = nI m ∧ nI n - mTk (G 1) t (nI n) = nI m ∧ (if mMade (mUse G t (mTk (G 1) t (nI n)) 1) t = 0 then (-9 : Int32) else nI t) = eOp (eMd w t 0) ∧ eN q1 1 (wUse B W (nI t) (nI n)) bt g M ∧ eT q (wUse B W (nI t) (nI n)) (mUse G t (mTk (G 1) t (nI n))))
    rw [etk]
    refine ⟨hp, ?_⟩
    rcases hN.use (B := B) ht hn (eVs_of cx ht) with hf | hg
    · exact Or.inl ⟨hf, by rw [← hT'.2.2.1]; exact hf⟩
    · refine Or.inr ⟨n - k, by omega, by rw [ek, pk_sub hkm], by rw [ek, pk_sub hkm], ?_, hg, hT'⟩
      rw [mMade_stat hp.2.2.2 ht, eStat_made cx.1 hS ht, eMd_0]
      by_cases e : eWy w t = 0
      · rw [if_pos e, if_pos rfl, if_pos e]
        rfl
      · rw [if_neg e, if_neg (by decide), if_neg e]
        rfl
  | succ c ih =>
    intro hc
    obtain ⟨ihp, ihc⟩ := ih (by omega)
    rw [it_s, it_s]
    generalize it (wSubStep B (nI t)) c (nI n - wN W (nI t) (nI n), wUse B W (nI t) (nI n)) = s at ihc ⊢
    generalize it (mTakeS t) c (mTake0 G t (nI n)) = z at ihp ihc ⊢
    obtain ⟨eb, hb20⟩ := (cx.1 t ht).2.2.2.2.2.1 c (by omega)
    have hc3 := (cx.1 t ht).2.2.2.1.2
    have eSz : mStat w (z.2.2 1) := fun t k ht hk hs => (ihp.2.2.2 t k ht hk hs).trans (hS t k ht hk hs)
    have ez : (z.2.2 1 (23 * t + (20 + c))) = nI (eWb w t c) := (eSz t (20 + c) ht (by omega) (by omega)).trans eb
    unfold wSubStep mTakeS
    rw [cx.sub ht (by omega), ez, nI_clamp (by omega)]
    have hp2 : mPres z.2.2 (mUse z.2.2 (eWb w t c) (mTk (z.2.2 1) (eWb w t c) z.1)) := mUse_pres
    refine ⟨ihp.trans hp2, ?_⟩
    rcases ihc with ⟨hf, hf2⟩ | ⟨m, hm, em, em2, eo, hN2, hT2⟩
    · refine Or.inl ⟨?_, mUse_f hf2⟩
      split
      · exact hf
      · exact eUse_f hf
    · have etk := eTk (m := m) hT2 hN2 hb20
      obtain ⟨hV, hv⟩ := eStat_ves cx eSz hb20
      have emd : (if z.2.1 = -9 then (if mMade (mUse z.2.2 (eWb w t c) (mTk (z.2.2 1) (eWb w t c) z.1) 1) (eWb w t c) = 0 then z.2.1 else nI (eWb w t c)) else z.2.1) = eOp (eMd w t (c + 1)) := by
        rw [mMade_stat hp2.2.2.2 hb20, eStat_made cx.1 eSz hb20, eMd_s, eo]
        have h9 := eOp_9 (o := eMd w t c) (fun p hp => eMd_lt cx ht (by omega) hp)
        cases e2 : eMd w t c with
        | some p =>
          rw [if_neg (fun h => by rw [← e2, h9, e2] at h; cases h)]
        | none =>
          rw [if_pos (show eOp none = -9 from rfl)]
          by_cases e3 : eWy w (eWb w t c) = 0
          · simp only [e3, if_true]
          · simp only [e3, if_false]
            rw [if_neg (by decide)]
            rfl
      by_cases c0 : s.1 ≤ 0
      · rw [if_pos c0]
        have hm0 : m = 0 := z0m (by rw [← em]; exact c0) (by omega)
        subst hm0
        have e0 : mTk (z.2.2 1) (eWb w t c) z.1 = 0 := by
          rw [em2]
          obtain ⟨a, ha, ea⟩ := hT2.am hN2 (eWb w t c) hb20
          unfold mTk
          rw [ea]
          exact if_pos (nI_le (a := 0) (Nat.zero_le a) (by omega))
        refine Or.inr ⟨0, hm, em, ?_, emd, hN2, ?_⟩
        · show z.1 - mTk (z.2.2 1) (eWb w t c) z.1 = nI 0
          rw [e0, em2, Int32.sub_zero]
        · show eT q s.2 (mUse z.2.2 (eWb w t c) (mTk (z.2.2 1) (eWb w t c) z.1))
          rw [e0, mUse_0 hv (hT2.am hN2)]
          exact hT2
      · rw [if_neg c0]
        have hT3 := hT2.use (B := B) (m := nI m) hb20 hV hv rfl
        rw [← etk] at hT3
        rcases hN2.use (B := B) hb20 (show m ≤ 1000000 by omega) (eVs_of cx hb20) with hf | hg
        · refine Or.inl ⟨?_, ?_⟩
          · show ¬ wUse B s.2 (nI (eWb w t c)) s.1 0 2 = 0
            rw [em]
            exact hf
          · show ¬ mUse z.2.2 (eWb w t c) (mTk (z.2.2 1) (eWb w t c) z.1) 0 16 = 0
            rw [em2, ← hT3.2.2.1]
            exact hf
        · obtain ⟨a, k, ha, ea, hka, hkm, ek, -⟩ := hN2.tk hb20 (show m ≤ 1000000 by omega)
          refine Or.inr ⟨m - k, by omega, ?_, ?_, emd, ?_, ?_⟩
          · show s.1 - wN s.2 (nI (eWb w t c)) s.1 = _
            rw [em, ek, pk_sub hkm]
          · show z.1 - mTk (z.2.2 1) (eWb w t c) z.1 = _
            rw [em2, etk, ek, pk_sub hkm]
          · show eN q1 1 (wUse B s.2 (nI (eWb w t c)) s.1) bt g M
            rw [em]
            exact hg
          · show eT q (wUse B s.2 (nI (eWb w t c)) s.1) (mUse z.2.2 (eWb w t c) (mTk (z.2.2 1) (eWb w t c) z.1))
            rw [em, em2]
            exact hT3
/-- a making begun, and its end -/
def eSim (B : Nat → Nat → Int32) (w : Nat → Int32) (r : Nat → Nat) (q q1 : Int32) (f : Nat) : Prop := ∀ d t b u W G bt g M, d + f ≤ 9 → eN q1 1 W bt g M → eT q W G → mStat w (G 1) → G 0 14 = nI d → t < 20 → eWy w t ≠ 0 → r t ≤ f → b ≤ 1000000 → u ≤ eWy w t * b →
  ∃ G', eReach (mBegin G d (nI t) (nI b) (nI u)) G' ∧ eK d G G' ∧ ((¬ wRun B f (nI t) (nI b) W 0 2 = 0 ∧ ¬ G' 0 16 = 0) ∨ (wRun B f (nI t) (nI b) W 0 2 = 0 ∧ eT q (wUse B (wRun B f (nI t) (nI b) W) (nI t) (nI u)) G' ∧ G' 0 14 = nI d))
theorem eT.gath {W G : Nat → Nat → Int32} {t m : Nat} (h : eT q W G) (h1 : W 0 1 = 1) (ht : t < 20) : eT q (wCol W (nI t) (nI m)) (mGath G t (nI m)) := by
  have e0 : wColF W = W := by
    unfold wColF
    rw [if_neg (by rw [h1]; decide)]
  have hw : mCome G t (nI m) 2 1 460 = G 1 460 := by
    unfold mCome mWcome
    simp (disch := omega) only [zup_ne, zup_eq, upd_ne, upd_eq]
  have hz : ∀ i, 3 ≤ i → i ≠ 460 → True := fun _ _ _ => trivial
  unfold wCol wCol0 mGath
  rw [e0]
  have ha : eT (q - nI m) (va_up W 0 (upd (W 0) 4 (W 0 4 + nI m))) G := by
    obtain ⟨g1, g3, g2, g6, g4⟩ := h
    refine ⟨g1.zero (by decide), ?_, ?_, ?_, ?_⟩
    · simp (disch := omega) only [zup_ne, zup_eq, upd_ne, upd_eq]
      exact g3
    · simp (disch := omega) only [zup_ne, zup_eq, upd_ne, upd_eq]
      exact g2
    · simp (disch := omega) only [zup_ne, zup_eq, upd_ne, upd_eq]
      exact g6
    · simp (disch := omega) only [zup_ne, zup_eq, upd_ne, upd_eq]
      rw [g4, Int32.sub_eq_add_neg, Int32.add_assoc, Int32.add_comm (W 0 4), ← Int32.add_assoc (-nI m), Int32.add_comm (-nI m), ← Int32.sub_eq_add_neg, Int32.sub_self, Int32.zero_add]
  have hb := ha.come (j := 3) (n := nI m) ht (by decide) (by decide)
  rw [show eOff 3 = 2 from rfl] at hb
  generalize wCome (va_up W 0 (upd (W 0) 4 (W 0 4 + nI m))) 3 (nI t) (nI m) = V at hb ⊢
  generalize mCome G t (nI m) 2 = H at hb hw ⊢
  obtain ⟨g1, g3, g2, g6, g4⟩ := hb
  refine ⟨fun i k hi hi7 hk => ?_, ?_, ?_, ?_, ?_⟩
  · simp (disch := omega) only [zup_ne, zup_eq, upd_ne, upd_eq]
    have := eOff_le hi7
    simp (disch := omega) only [zup_ne, zup_eq, upd_ne, upd_eq]
    exact g1 i k hi hi7 hk
  · simp (disch := omega) only [zup_ne, zup_eq, upd_ne, upd_eq]
    exact g3
  · simp (disch := omega) only [zup_ne, zup_eq, upd_ne, upd_eq]
    exact g2
  · simp (disch := omega) only [zup_ne, zup_eq, upd_ne, upd_eq]
    exact g6
  · simp (disch := omega) only [zup_ne, zup_eq, upd_ne, upd_eq]
    rw [g4, Int32.sub_eq_add_neg, Int32.add_assoc, Int32.add_assoc, Int32.add_comm (V 0 4), ← Int32.add_assoc (-nI m), Int32.add_comm (-nI m), ← Int32.sub_eq_add_neg, Int32.sub_self, Int32.zero_add]
theorem eSim.take (cx : eCx B w) {f : Nat} (hS : eSim B w r q q1 f) {d t n : Nat} {W G : Nat → Nat → Int32} {bt g M : Nat} (hd : d + f ≤ 9) (hN : eN q1 1 W bt g M) (hT : eT q W G) (hG : mStat w (G 1)) (h14 : G 0 14 = nI d) (ht : t < 20) (hn : n ≤ 1000000) (hr : r t ≤ f) (hrs : ∀ i, i < eWs w t → r (eWb w t i) ≤ f) :
    ∃ G', eReach (mTake G d t (nI n)) G' ∧ eK d G G' ∧ ((¬ wTake (wProv (wRun B f) B) B W (nI t) (nI n) 0 2 = 0 ∧ ¬ G' 0 16 = 0) ∨ (eT q (wTake (wProv (wRun B f) B) B W (nI t) (nI n)) G' ∧ G' 0 14 = nI d)) := by
  obtain ⟨hp, hc⟩ := hT.subs cx hN hG ht hn (eWs w t) (Nat.le_refl _)
  have hws := (cx.1 t ht).2.2.2.1
  have e : wSubs B W (nI t) (nI n) = it (wSubStep B (nI t)) (eWs w t) (nI n - wN W (nI t) (nI n), wUse B W (nI t) (nI n)) := by
    unfold wSubs
    rw [cx.subs ht, nI_clamp (by omega)]
  have e2 : mTakeE G t (nI n) = it (mTakeS t) (eWs w t) (mTake0 G t (nI n)) := by
    unfold mTakeE
    rw [(hG t 19 ht (by decide) (by decide)).trans hws.1, nI_clamp (by omega)]
  rw [← e, ← e2] at hc
  rw [← e2] at hp
  unfold wTake mTake
  generalize wSubs B W (nI t) (nI n) = s at hc ⊢
  generalize mTakeE G t (nI n) = z at hp hc ⊢
  have eSz : mStat w (z.2.2 1) := fun t k ht hk hs => (hp.2.2.2 t k ht hk hs).trans (hG t k ht hk hs)
  have z14 : z.2.2 0 14 = nI d := (hp.2.1 14 (by decide)).trans h14
  rcases hc with ⟨hf, hf2⟩ | ⟨m, hm, em, em2, eo, hN2, hT2⟩
  · refine ⟨_, eReach.refl, ?_, Or.inl ⟨?_, ?_⟩⟩
    · split
      · exact eK.pres hp
      · split
        · exact eK.pres ((hp.trans mGath_pres).trans mUse_pres)
        · exact (eK.pres hp).trans (eK.begin (Nat.le_refl _))
    · split
      · exact hf
      · first | exact hf | (rw [if_neg hf]; exact hf)
    · split
      · exact hf2
      · split
        · exact mUse_f (mGath_f hf2)
        · exact mBegin_f hf2
  · rw [em, em2]
    by_cases c0 : nI m ≤ 0
    · rw [if_pos c0, if_pos c0]
      exact ⟨_, eReach.refl, eK.pres hp, Or.inr ⟨hT2, z14⟩⟩
    · rw [if_neg c0, if_neg c0, if_pos hN2.2.1, cx.stand ht, eo]
      have hm1 : 1 ≤ m := by
        rcases Nat.eq_zero_or_pos m with h0 | h0
        · exact absurd (by rw [h0]; decide) c0
        · exact h0
      have h9 := eOp_9 (o := eMd w t (eWs w t)) (fun p hp => eMd_lt cx ht (Nat.le_refl _) hp)
      unfold wProv
      cases e3 : eMd w t (eWs w t) with
      | none =>
        have hy : eWy w t = 0 := by
          unfold eMd at e3
          by_cases hy : eWy w t = 0
          · exact hy
          · rw [if_neg hy] at e3
            cases e3
        rw [if_pos (show eOp none = -9 from rfl), show (none : Option Nat).getD t = t from rfl, cx.made ht, if_pos hy, if_pos rfl]
        have hT3 := hT2.gath (m := m) hN2.1 ht
        have hp3 : mPres z.2.2 (mGath z.2.2 t (nI m)) := mGath_pres
        have eS3 : mStat w (mGath z.2.2 t (nI m) 1) := fun t k ht hk hs => (hp3.2.2.2 t k ht hk hs).trans (eSz t k ht hk hs)
        obtain ⟨hV, hv⟩ := eStat_ves cx eS3 ht
        have hK : eK d G (mUse (mGath z.2.2 t (nI m)) t (nI m)) := eK.pres ((hp.trans hp3).trans mUse_pres)
        refine ⟨_, eReach.refl, hK, ?_⟩
        rcases hN2.col ht (show m ≤ 1000000 by omega) with hf | ⟨hc2, a, ha, hma, ea⟩
        · exact Or.inl ⟨eUse_f hf, mUse_f (by rw [← hT3.2.2.1]; exact hf)⟩
        · have en : wN (wCol s.2 (nI t) (nI m)) (nI t) (nI m) = nI m := by
            obtain ⟨a2, k, ha2, ea2, -, -, ek, hk⟩ := hc2.tk ht (show m ≤ 1000000 by omega)
            rw [ek]
            have : a2 = a := (nI_eq (by omega) (by omega)).mp (ea2.symm.trans ea)
            rw [hk (by omega)]
          exact Or.inr ⟨hT3.use ht hV hv en, (mUse_pres.2.1 14 (by decide)).trans ((hp3.2.1 14 (by decide)).trans z14)⟩
      | some p =>
        obtain ⟨hpp, hpy⟩ := eMd_some e3
        have hp20 := eMd_lt cx ht (Nat.le_refl _) e3
        have hpr : r p ≤ f := by
          rcases hpp with rfl | ⟨i, hi, rfl⟩
          · exact hr
          · exact hrs i hi
        have hpy2 := (cx.1 p hp20).1
        have hne : ¬ eOp (some p) = -9 := n9 (by omega)
        rw [if_neg hne, show (some p).getD t = p from rfl, cx.made hp20, if_neg hpy, if_neg (by decide), cx.yield hp20, eDiv (show m ≤ 1000000 by omega) (by omega) hpy2.2]
        have hd2 := eDiv_le hm1 (show 1 ≤ eWy w p by omega)
        have ef : mFor (z.2.2 1) (eOp (some p)).toNatClampNeg (nI m) = nI ((m + eWy w p - 1) / eWy w p) := by
          show mFor (z.2.2 1) (nI p).toNatClampNeg (nI m) = _
          rw [nI_clamp (by omega)]
          unfold mFor
          rw [(eSz p 7 hp20 (by decide) (by decide)).trans hpy2.1, nI_add, show (1 : Int32) = nI 1 from rfl, pk_sub (by omega), pk_div (by omega) (by omega) (by omega)]
        rw [ef]
        obtain ⟨G', hre, hK, hres⟩ := hS d p ((m + eWy w p - 1) / eWy w p) m s.2 z.2.2 bt g M hd hN2 hT2 eSz z14 hp20 hpy hpr (by omega) hd2.2.2
        refine ⟨G', hre, (eK.pres hp).trans hK, ?_⟩
        rcases hres with ⟨hf, hf2⟩ | ⟨h0, hT4, h144⟩
        · exact Or.inl ⟨eUse_f hf, hf2⟩
        · exact Or.inr ⟨hT4, h144⟩
end ESIM
