/-! ===== 72.pureW: a change, a step back, an image: the relation kept ===== -/
section ETF
variable {F0 : Nat → Nat → Int32} {P : Nat → Nat → Option Nat} {χ o s : Nat}
theorem tF_hist : tF F0 P χ o s (χ + 34) = histF F0 (χ + 34) o s (χ + 34) := by
  unfold tF remF holdF
  rw [zput_ne (by omega), zput_ne (by omega), remF0_ne (by omega)]
theorem tF_out {i : Nat} (h : i < eTau χ ((o + s) % 8) ∨ eTau χ ((o + s) % 8) + 17 ≤ i) (h34 : i ≠ χ + 34) : tF F0 P χ o s i = F0 i := by
  unfold tF
  exact remF_ne h h34
theorem tF_bk : eBeq (zsub F0 (χ + 1)) (zsub (tF F0 P χ o s) (eTau χ ((o + s) % 8) + 1)) := by
  intro j t h1 h8 ht
  show tF F0 P χ o s (eTau χ ((o + s) % 8) + 1 + j) t = _
  unfold tF remF holdF
  show zput _ (eTau χ ((o + s) % 8) + 10) 7 _ (eTau χ ((o + s) % 8) + 1 + j) t = _
  rw [zput_ne (by omega), show χ + 59 + 17 * ((o + s) % 8) = eTau χ ((o + s) % 8) from rfl, zput_at (by omega)]
  rw [eBeq.copy j t h1 h8 ht]
  show remF0 (histF F0 (χ + 34) o s) P (χ + 34 + 1) ((o + s) % 8) (eTau χ ((o + s) % 8)) (χ + 1 + j) t = F0 (χ + 1 + j) t
  rw [remF0_ne (by unfold eTau; omega), histF_ne (by omega)]
theorem tF_sk : eSeq (zsub F0 (χ + 19)) (zsub (tF F0 P χ o s) (eTau χ ((o + s) % 8) + 10)) := by
  refine ⟨fun j t h1 h6 ht => ?_, ?_⟩
  · show tF F0 P χ o s (eTau χ ((o + s) % 8) + 10 + j) t = _
    unfold tF remF holdF
    rw [show χ + 59 + 17 * ((o + s) % 8) = eTau χ ((o + s) % 8) from rfl, zput_at (by omega), eCopyS_j h1 h6 ht]
    show remF0 (histF F0 (χ + 34) o s) P (χ + 34 + 1) ((o + s) % 8) (eTau χ ((o + s) % 8)) (χ + 19 + j) t = F0 (χ + 19 + j) t
    rw [remF0_ne (by unfold eTau; omega), histF_ne (by omega)]
  · show tF F0 P χ o s (eTau χ ((o + s) % 8) + 10 + 0) 6 = _
    unfold tF remF holdF
    rw [show χ + 59 + 17 * ((o + s) % 8) = eTau χ ((o + s) % 8) from rfl, zput_at (by omega), eCopyS_0, upd_eq]
    show remF0 (histF F0 (χ + 34) o s) P (χ + 34 + 1) ((o + s) % 8) (eTau χ ((o + s) % 8)) (χ + 19 + 0) 6 = F0 (χ + 19 + 0) 6
    rw [remF0_ne (by unfold eTau; omega), histF_ne (by omega)]
end ETF
theorem eX.ring {N χ : Nat} {F : Nat → Nat → Int32} {P : Nat → Nat → Option Nat} {G : Nat → Nat → Int32} (h : eX N F P χ G) : ∃ o s, o < 8 ∧ s ≤ 8 ∧ F (χ + 34) 1 = nI o ∧ F (χ + 34) 2 = nI s ∧ G 0 2 = nI s := by
  obtain ⟨-, ⟨o, s, ho, hs, f1, f2, g2, -⟩, -⟩ := h
  exact ⟨o, s, ho, hs, f1, f2, g2⟩
theorem eX.push {N N' χ o s : Nat} {F F0 F1 : Nat → Nat → Int32} {sh : zSh} {P : Nat → Nat → Option Nat} {G G1 : Nat → Nat → Int32} (h : eX N F P χ G) (hY : zSys sh P χ) (ho : o < 8) (hs : s ≤ 8) (f1 : F (χ + 34) 1 = nI o) (f2 : F (χ + 34) 2 = nI s)
    (e0 : eKeep χ F F0) (hA : ∀ k, k = 8 ∨ k = 9 ∨ k = 10 → F1 χ k = F χ k) (h40 : F1 (χ + 40) = F (χ + 40)) (h34 : F1 (χ + 34) = tF F0 P χ o s (χ + 34)) (h59 : ∀ j, 59 ≤ j → F1 (χ + j) = tF F0 P χ o s (χ + j))
    (hG : mPsh G G1 s) (g3 : G1 3 = G 3) (g4 : G1 4 = G 4) (g0 : ∀ q, q = 4 ∨ q = 6 ∨ q = 7 ∨ q = 8 → G1 0 q = G 0 q)
    (hst : eSt (zsub F1 (χ + 1)) (zsub F1 (χ + 19)) (G1 1) N') (hN : N ≤ N') : eX N' F1 (tP P χ ((o + s) % 8)) χ G1 := by
  obtain ⟨h1, ⟨o', s', ho', hs', f1', f2', g2, hk⟩, hi, ⟨L, f8, hL⟩, hf⟩ := h
  have eo : o' = o := (nI_eq (by omega) (by omega)).mp (f1'.symm.trans f1)
  have es : s' = s := (nI_eq (by omega) (by omega)).mp (f2'.symm.trans f2)
  subst eo
  subst es
  have hτ : χ + 59 ≤ eTau χ ((o' + s') % 8) ∧ eTau χ ((o' + s') % 8) + 17 ≤ χ + 195 := by unfold eTau; omega
  have hmod : (o' + s') % 8 < 8 := Nat.mod_lt _ (by decide)
  have P35 : ∀ q, q ≠ (o' + s') % 8 → tP P χ ((o' + s') % 8) (χ + 35) q = P (χ + 35) q := fun q hq => by
    unfold tP
    exact remP_s (by omega) hq
  have P35n : tP P χ ((o' + s') % 8) (χ + 35) ((o' + s') % 8) ≠ none := by
    unfold tP
    rw [(zPl.sta (hY.2.2.2.2.2.2.2.1 _ hmod) (by omega)).2]
    exact fun e => by cases e
  have P36 : tP P χ ((o' + s') % 8) (χ + 36) = P (χ + 36) := by
    unfold tP
    exact remP_ne (by omega) (by omega)
  have oldB : ∀ q, q < 8 → q ≠ (o' + s') % 8 → ∀ j, j < 17 → F1 (eTau χ q + j) = F (eTau χ q + j) := fun q hq8 hq j hj => by
    have e1 : eTau χ q + j = χ + (59 + 17 * q + j) := by unfold eTau; omega
    have e2 := h59 (59 + 17 * q + j) (by omega)
    rw [e1, e2, tF_out (by unfold eTau; omega) (by omega), e0.2 _ (by omega)]
  have newB : ∀ j, j < 17 → F1 (eTau χ ((o' + s') % 8) + j) = tF F0 P χ o' s' (eTau χ ((o' + s') % 8) + j) := fun j hj => by
    have e1 : eTau χ ((o' + s') % 8) + j = χ + (59 + 17 * ((o' + s') % 8) + j) := by unfold eTau; omega
    rw [e1]
    exact h59 _ (by omega)
  have F0B : ∀ j, 1 ≤ j → j ≤ 8 → zsub F0 (χ + 1) j = zsub F (χ + 1) j := fun j a b => by
    show F0 (χ + 1 + j) = F (χ + 1 + j)
    rw [Nat.add_assoc]
    exact e0.2 _ (by omega)
  have F0S : ∀ j, j ≤ 6 → zsub F0 (χ + 19) j = zsub F (χ + 19) j := fun j a => by
    show F0 (χ + 19 + j) = F (χ + 19 + j)
    rw [Nat.add_assoc]
    exact e0.2 _ (by omega)
  have newSt : ∀ w', (∀ j, j < 462 → w' j = G 1 j) → eSt (zsub F1 (eTau χ ((o' + s') % 8) + 1)) (zsub F1 (eTau χ ((o' + s') % 8) + 10)) w' N' := fun w' hw => by
    refine h1.to (((eBeq.of F0B).trans (tF_bk (P := P) (o := o') (s := s'))).trans (eBeq.of fun j a b => ?_)) (((eSeq.of F0S).trans (tF_sk (P := P) (o := o') (s := s'))).trans (eSeq.of fun j a => ?_)) hw hN
    · show F1 (eTau χ ((o' + s') % 8) + 1 + j) = tF F0 P χ o' s' (eTau χ ((o' + s') % 8) + 1 + j)
      rw [Nat.add_assoc]
      exact newB _ (by omega)
    · show F1 (eTau χ ((o' + s') % 8) + 10 + j) = tF F0 P χ o' s' (eTau χ ((o' + s') % 8) + 10 + j)
      rw [Nat.add_assoc]
      exact newB _ (by omega)
  have oldSt : ∀ q, q < 8 → q ≠ (o' + s') % 8 → ∀ w w' : Nat → Int32, eSt (zsub F (eTau χ q + 1)) (zsub F (eTau χ q + 10)) w N → (∀ j, j < 462 → w' j = w j) → eSt (zsub F1 (eTau χ q + 1)) (zsub F1 (eTau χ q + 10)) w' N' := fun q hq8 hq w w' hh hw => by
    refine hh.to (eBeq.of fun j a b => ?_) (eSeq.of fun j a => ?_) hw hN
    · show F1 (eTau χ q + 1 + j) = F (eTau χ q + 1 + j)
      rw [Nat.add_assoc]
      exact oldB q hq8 hq _ (by omega)
    · show F1 (eTau χ q + 10 + j) = F (eTau χ q + 10 + j)
      rw [Nat.add_assoc]
      exact oldB q hq8 hq _ (by omega)
  refine ⟨hst, ?_, fun p hp => ?_, ⟨L, (hA 8 (by omega)).trans f8, ?_⟩, ?_⟩
  · have hist := h34.trans tF_hist
    have e34 := e0.2 34 (by omega)
    unfold histF at hist
    by_cases c : s' < 8
    · rw [if_pos c, zup_eq, e34] at hist
      obtain ⟨gA, gB⟩ := hG
      rw [if_pos c] at gA
      refine ⟨o', s' + 1, ho, by omega, ?_, ?_, gA, fun k hks => ?_⟩
      · rw [hist, upd_ne (by decide)]
        exact f1
      · rw [hist, upd_eq]
        exact nI_1 s'
      · have gk := fun j hj => gB k j hj (by rw [if_pos c]; exact hks)
        by_cases ek : k = s'
        · subst ek
          exact ⟨P35n, newSt _ fun j hj => by rw [gk j hj, if_pos c, if_pos rfl]⟩
        · have hne : (o' + k) % 8 ≠ (o' + s') % 8 := by omega
          rw [P35 _ hne]
          exact ⟨(hk k (by omega)).1, oldSt _ (Nat.mod_lt _ (by decide)) hne _ _ (hk k (by omega)).2 fun j hj => by rw [gk j hj, if_pos c, if_neg ek]⟩
    · rw [if_neg c, zup_eq, e34] at hist
      have e8 : s' = 8 := by omega
      subst e8
      obtain ⟨gA, gB⟩ := hG
      rw [if_neg c] at gA
      refine ⟨(o' + 1) % 8, 8, Nat.mod_lt _ (by decide), by decide, ?_, ?_, gA, fun k hks => ?_⟩
      · rw [hist, upd_eq]
      · rw [hist, upd_ne (by decide)]
        exact f2
      · have gk := fun j hj => gB k j hj (by rw [if_neg c]; exact hks)
        by_cases ek : k = 7
        · subst ek
          have ep : ((o' + 1) % 8 + 7) % 8 = (o' + 8) % 8 := by omega
          rw [ep]
          exact ⟨P35n, newSt _ fun j hj => by rw [gk j hj, if_neg c, if_pos rfl]⟩
        · have ep : ((o' + 1) % 8 + k) % 8 = (o' + (k + 1)) % 8 := by omega
          have hne : (o' + (k + 1)) % 8 ≠ (o' + 8) % 8 := by omega
          rw [ep, P35 _ hne]
          exact ⟨(hk (k + 1) (by omega)).1, oldSt _ (Nat.mod_lt _ (by decide)) hne _ _ (hk (k + 1) (by omega)).2 fun j hj => by rw [gk j hj, if_neg c, if_neg ek]⟩
  · rw [g0 4 (by omega), P36]
    refine ⟨(hi p hp).1, fun hn => ((hi p hp).2 hn).to (eBeq.of fun j a b => ?_) (eSeq.of fun j a => ?_) (fun i _ => by rw [g3]) hN⟩
    · show F1 (χ + 195 + 17 * p + 1 + j) = F (χ + 195 + 17 * p + 1 + j)
      rw [show χ + 195 + 17 * p + 1 + j = χ + (195 + 17 * p + 1 + j) by omega, h59 _ (by omega), tF_out (by omega) (by omega), e0.2 _ (by omega)]
    · show F1 (χ + 195 + 17 * p + 10 + j) = F (χ + 195 + 17 * p + 10 + j)
      rw [show χ + 195 + 17 * p + 10 + j = χ + (195 + 17 * p + 10 + j) by omega, h59 _ (by omega), tF_out (by omega) (by omega), e0.2 _ (by omega)]
  · rw [h40]
    exact hL.q (g0 6 (by omega)) g4
  · rw [hA 9 (by omega), hA 10 (by omega), g0 7 (by omega), g0 8 (by omega)]
    exact hf
theorem eLay {F0 : Nat → Nat → Int32} {χ τ : Nat} : eBeq (zsub F0 (τ + 1)) (zsub (layF F0 τ (χ + 1) (χ + 19)) (χ + 1)) ∧ eSeq (zsub F0 (τ + 10)) (zsub (layF F0 τ (χ + 1) (χ + 19)) (χ + 19)) ∧ ∀ i, i < χ + 1 ∨ (χ + 10 ≤ i ∧ i < χ + 19) ∨ χ + 26 ≤ i → layF F0 τ (χ + 1) (χ + 19) i = F0 i := by
  refine ⟨fun j t h1 h8 ht => ?_, ⟨fun j t h1 h6 ht => ?_, ?_⟩, fun i hi => ?_⟩
  · show layF F0 τ (χ + 1) (χ + 19) (χ + 1 + j) t = _
    unfold layF
    rw [zput_ne (by omega), zput_at (by omega)]
    exact eBeq.copy j t h1 h8 ht
  · show layF F0 τ (χ + 1) (χ + 19) (χ + 19 + j) t = _
    unfold layF
    rw [zput_at (by omega)]
    exact eCopyS_j h1 h6 ht
  · show layF F0 τ (χ + 1) (χ + 19) (χ + 19 + 0) 6 = _
    unfold layF
    rw [zput_at (by omega), eCopyS_0, upd_eq]
  · unfold layF
    rw [zput_ne (by omega), zput_ne (by omega)]
theorem eX.pop {N χ o s : Nat} {F : Nat → Nat → Int32} {P : Nat → Nat → Option Nat} {G : Nat → Nat → Int32} (h : eX N F P χ G) (ho : o < 8) (hs : s ≤ 8) (f1 : F (χ + 34) 1 = nI o) (f2 : F (χ + 34) 2 = nI s) (hs1 : 1 ≤ s) :
    P (χ + 35) ((o + (s - 1)) % 8) ≠ none ∧ eX N (layF (va_up F (χ + 34) (upd (F (χ + 34)) 2 (nI (s - 1)))) (χ + 59 + 17 * ((o + (s - 1)) % 8)) (χ + 1) (χ + 19)) P χ (va_up (va_up G 0 (upd (G 0) 2 (nI (s - 1)))) 1 (fun j => if j < 462 then G 2 (462 * (s - 1) + j) else G 1 j)) := by
  obtain ⟨h1, ⟨o', s', ho', hs', f1', f2', g2, hk⟩, hi, ⟨L, f8, hL⟩, hf⟩ := h
  have eo : o' = o := (nI_eq (by omega) (by omega)).mp (f1'.symm.trans f1)
  have es : s' = s := (nI_eq (by omega) (by omega)).mp (f2'.symm.trans f2)
  subst eo
  subst es
  obtain ⟨kn, kst⟩ := hk (s' - 1) (by omega)
  refine ⟨kn, ?_⟩
  obtain ⟨l1, l2, l3⟩ := eLay (F0 := va_up F (χ + 34) (upd (F (χ + 34)) 2 (nI (s' - 1)))) (χ := χ) (τ := χ + 59 + 17 * ((o' + (s' - 1)) % 8))
  generalize layF (va_up F (χ + 34) (upd (F (χ + 34)) 2 (nI (s' - 1)))) (χ + 59 + 17 * ((o' + (s' - 1)) % 8)) (χ + 1) (χ + 19) = F1 at l1 l2 l3 ⊢
  have hout : ∀ i, i < χ + 1 ∨ (χ + 10 ≤ i ∧ i < χ + 19) ∨ χ + 26 ≤ i → i ≠ χ + 34 → F1 i = F i := fun i hi h34 => (l3 i hi).trans (zup_ne h34)
  have e34 : F1 (χ + 34) = upd (F (χ + 34)) 2 (nI (s' - 1)) := (l3 _ (by omega)).trans zup_eq
  refine ⟨kst.to ((eBeq.of fun j a b => ?_).trans l1) ((eSeq.of fun j a => ?_).trans l2) (fun i hi => by simp (disch := omega) only [zup_ne, zup_eq, upd_ne, upd_eq]; rw [if_pos hi]) (Nat.le_refl _), ⟨o', s' - 1, ho', by omega, ?_, ?_, by simp (disch := omega) only [zup_ne, zup_eq, upd_ne, upd_eq], fun k hks => ⟨(hk k (by omega)).1, (hk k (by omega)).2.to (eBeq.of fun j a b => ?_) (eSeq.of fun j a => ?_) (fun i _ => by simp (disch := omega) only [zup_ne, zup_eq, upd_ne, upd_eq]) (Nat.le_refl _)⟩⟩, fun p hp => ⟨by simp (disch := omega) only [zup_ne, zup_eq, upd_ne, upd_eq]; exact (hi p hp).1, fun hn => ((hi p hp).2 hn).to (eBeq.of fun j a b => ?_) (eSeq.of fun j a => ?_) (fun i _ => by simp (disch := omega) only [zup_ne, zup_eq, upd_ne, upd_eq]) (Nat.le_refl _)⟩, ⟨L, ?_, ?_⟩, ?_⟩
  · show va_up F (χ + 34) _ (χ + 59 + 17 * ((o' + (s' - 1)) % 8) + 1 + j) = F (eTau χ ((o' + (s' - 1)) % 8) + 1 + j)
    rw [zup_ne (by omega)]
    rfl
  · show va_up F (χ + 34) _ (χ + 59 + 17 * ((o' + (s' - 1)) % 8) + 10 + j) = F (eTau χ ((o' + (s' - 1)) % 8) + 10 + j)
    rw [zup_ne (by omega)]
    rfl
  · rw [e34, upd_ne (by decide)]
    exact f1
  · rw [e34, upd_eq]
  · exact hout _ (by unfold eTau; omega) (by unfold eTau; omega)
  · exact hout _ (by unfold eTau; omega) (by unfold eTau; omega)
  · exact hout _ (by omega) (by omega)
  · exact hout _ (by omega) (by omega)
  · rw [hout χ (by omega) (by omega)]
    exact f8
  · rw [hout (χ + 40) (by omega) (by omega)]
    exact hL.q (by simp (disch := omega) only [zup_ne, zup_eq, upd_ne, upd_eq]) (by simp (disch := omega) only [zup_ne, zup_eq, upd_ne, upd_eq])
  · rw [hout χ (by omega) (by omega)]
    simp (disch := omega) only [zup_ne, zup_eq, upd_ne, upd_eq]
    exact hf
theorem eBit_set {x : Int32} {i p : Nat} (hi : i < 2) (hp : p < 2) : ((x ||| (1 : Int32) <<< (nI i &&& 31)) >>> (nI p &&& 31)) &&& 1 = 0 ↔ p ≠ i ∧ (x >>> (nI p &&& 31)) &&& 1 = 0 := by
  have hb : ∀ y : Int32, (y >>> (nI p &&& 31)) &&& 1 = 0 ↔ bt y p = false := fun y => by
    have h := cHasBit_b (s := y) (k := p) (by omega)
    unfold cHasBit at h
    by_cases c : (y >>> (nI p &&& 31)) &&& 1 = 0
    · rw [if_pos c] at h
      refine ⟨fun _ => ?_, fun _ => c⟩
      cases hbt : bt y p
      · rfl
      · rw [hbt] at h
        exact absurd h (by decide)
    · rw [if_neg c] at h
      refine ⟨fun h2 => absurd h2 c, fun h2 => ?_⟩
      rw [h2] at h
      exact absurd h (by decide)
  rw [hb, hb, b_or, b_one (by omega) (by omega)]
  by_cases e : p = i
  · subst e
    simp
  · simp [e, Ne.symm e]
theorem eX.keep {N χ p : Nat} {F : Nat → Nat → Int32} {sh : zSh} {P : Nat → Nat → Option Nat} {G : Nat → Nat → Int32} (h : eX N F P χ G) (hY : zSys sh P χ) (hp : p < 2) :
    eX N (holdF (remF0 F P (χ + 36) p (χ + 195 + 17 * p)) (χ + 195 + 17 * p) (χ + 1) (χ + 19)) (remP P (χ + 36) p (χ + 195 + 17 * p)) χ (va_up (va_up G 3 (mPastIn p 462 (G 1) (G 3))) 0 (upd (G 0) 4 (G 0 4 ||| (1 : Int32) <<< (nI p &&& 31)))) := by
  have hF : ∀ i, i < χ + 195 + 17 * p ∨ χ + 195 + 17 * p + 17 ≤ i → holdF (remF0 F P (χ + 36) p (χ + 195 + 17 * p)) (χ + 195 + 17 * p) (χ + 1) (χ + 19) i = F i := fun i hi => by
    unfold holdF
    rw [zput_ne (by omega), zput_ne (by omega), remF0_ne hi]
  have hB : eBeq (zsub F (χ + 1)) (zsub (holdF (remF0 F P (χ + 36) p (χ + 195 + 17 * p)) (χ + 195 + 17 * p) (χ + 1) (χ + 19)) (χ + 195 + 17 * p + 1)) := fun j t h1 h8 ht => by
    show holdF _ _ _ _ (χ + 195 + 17 * p + 1 + j) t = _
    unfold holdF
    rw [zput_ne (by omega), zput_at (by omega), eBeq.copy j t h1 h8 ht]
    show remF0 F P (χ + 36) p (χ + 195 + 17 * p) (χ + 1 + j) t = F (χ + 1 + j) t
    rw [remF0_ne (by omega)]
  have hS : eSeq (zsub F (χ + 19)) (zsub (holdF (remF0 F P (χ + 36) p (χ + 195 + 17 * p)) (χ + 195 + 17 * p) (χ + 1) (χ + 19)) (χ + 195 + 17 * p + 10)) := by
    refine ⟨fun j t h1 h6 ht => ?_, ?_⟩
    · show holdF _ _ _ _ (χ + 195 + 17 * p + 10 + j) t = _
      unfold holdF
      rw [zput_at (by omega), eCopyS_j h1 h6 ht]
      show remF0 F P (χ + 36) p (χ + 195 + 17 * p) (χ + 19 + j) t = F (χ + 19 + j) t
      rw [remF0_ne (by omega)]
    · show holdF _ _ _ _ (χ + 195 + 17 * p + 10 + 0) 6 = _
      unfold holdF
      rw [zput_at (by omega), eCopyS_0, upd_eq]
      show remF0 F P (χ + 36) p (χ + 195 + 17 * p) (χ + 19 + 0) 6 = F (χ + 19 + 0) 6
      rw [remF0_ne (by omega)]
  have P36 : ∀ q, q ≠ p → remP P (χ + 36) p (χ + 195 + 17 * p) (χ + 36) q = P (χ + 36) q := fun q hq => remP_s (by omega) hq
  have P36n : remP P (χ + 36) p (χ + 195 + 17 * p) (χ + 36) p ≠ none := by
    rw [(zPl.sta (hY.2.2.2.2.2.2.2.2 _ hp) (by omega)).2]
    exact fun e => by cases e
  have P35 : remP P (χ + 36) p (χ + 195 + 17 * p) (χ + 35) = P (χ + 35) := remP_ne (by omega) (by omega)
  obtain ⟨h1, ⟨o, s, ho, hs, f1, f2, g2, hk⟩, hi, ⟨L, f8, hL⟩, hf⟩ := h
  generalize holdF (remF0 F P (χ + 36) p (χ + 195 + 17 * p)) (χ + 195 + 17 * p) (χ + 1) (χ + 19) = F1 at hF hB hS ⊢
  generalize remP P (χ + 36) p (χ + 195 + 17 * p) = P1 at P36 P36n P35 ⊢
  refine ⟨h1.to (eBeq.of fun j a b => hF _ (by omega)) (eSeq.of fun j a => hF _ (by omega)) (fun i _ => by simp (disch := omega) only [zup_ne, zup_eq, upd_ne, upd_eq]) (Nat.le_refl _), ⟨o, s, ho, hs, ?_, ?_, by simp (disch := omega) only [zup_ne, zup_eq, upd_ne, upd_eq]; exact g2, fun k hks => ⟨by rw [P35]; exact (hk k hks).1, (hk k hks).2.to (eBeq.of fun j a b => hF _ (by unfold eTau; omega)) (eSeq.of fun j a => hF _ (by unfold eTau; omega)) (fun i _ => by simp (disch := omega) only [zup_ne, zup_eq, upd_ne, upd_eq]) (Nat.le_refl _)⟩⟩, fun q hq => ?_, ⟨L, ?_, ?_⟩, ?_⟩
  · rw [hF _ (by omega)]
    exact f1
  · rw [hF _ (by omega)]
    exact f2
  · simp (disch := omega) only [zup_ne, zup_eq, upd_ne, upd_eq]
    rw [eBit_set hp hq]
    by_cases e : q = p
    · subst e
      refine ⟨⟨fun h => absurd rfl h.1, fun h => absurd h P36n⟩, fun _ => h1.to hB hS (fun i hi' => ?_) (Nat.le_refl _)⟩
      unfold mPastIn
      rw [if_pos (by omega)]
      exact congrArg (G 1) (by omega)
    · rw [P36 q e]
      refine ⟨⟨fun h => (hi q hq).1.mp h.2, fun h => ⟨e, (hi q hq).1.mpr h⟩⟩, fun hn => ((hi q hq).2 hn).to (eBeq.of fun j a b => hF _ (by omega)) (eSeq.of fun j a => hF _ (by omega)) (fun i hi' => ?_) (Nat.le_refl _)⟩
      unfold mPastIn
      rw [if_neg (by omega)]
  · rw [hF χ (by omega)]
    exact f8
  · rw [hF _ (by omega)]
    exact hL.q (by simp (disch := omega) only [zup_ne, zup_eq, upd_ne, upd_eq]) (by simp (disch := omega) only [zup_ne, zup_eq, upd_ne, upd_eq])
  · rw [hF χ (by omega)]
    simp (disch := omega) only [zup_ne, zup_eq, upd_ne, upd_eq]
    exact hf
