/-! ===== 53.pstore: a call, wherever the object lies: the store, images ===== -/
theorem sCopy_q {V V' S S' : pM} (h : eWq 7 V V') (hS : zEq 7 S S') : zEq 7 (sCopy S (zsub V' 1)) (sCopy S' (zsub V 1)) := by
  have hr : ∀ j, 1 ≤ j → j ≤ 6 → cCopy 20 (V' (j + 1)) (S j) = cCopy 20 (V (j + 1)) (S' j) := by
    intro j h1 h6
    funext t
    unfold cCopy
    split
    · exact h.2.2 (j + 1) t (by omega) (by omega) (by assumption)
    · rw [hS j (by omega)]
  intro j hj
  have : j = 0 ∨ j = 1 ∨ j = 2 ∨ j = 3 ∨ j = 4 ∨ j = 5 ∨ j = 6 := by omega
  unfold sCopy
  rcases this with rfl | rfl | rfl | rfl | rfl | rfl | rfl
  · rw [zup_eq, zup_eq, hS 0 (by decide)]
    show upd _ 6 (V' (1 + 0) 6) = upd _ 6 (V (1 + 0) 6)
    rw [show V' (1 + 0) 6 = V (1 + 0) 6 from h.2.1]
  all_goals simp (disch := omega) only [zup_ne, zup_eq]
  · exact hr 1 (by decide) (by decide)
  · exact hr 2 (by decide) (by decide)
  · exact hr 3 (by decide) (by decide)
  · exact hr 4 (by decide) (by decide)
  · exact hr 5 (by decide) (by decide)
  · exact hr 6 (by decide) (by decide)
def pRn (B S : pM) (t c : Int32) : pM := wRun B 9 t c (wBegin zZero S 1)
section PST
variable {v : pV} {N : Nat}
theorem tFul_q {F : pM} {P : Nat → Nat → Option Nat} {χ : Nat} (hV : pVw F P χ v) (t n : Int32) : eWq 7 (pW (pvB v) (pvS v) t n) (tFul F χ t n) := by
  unfold tFul tBeg
  rw [wFul_e hV.1]
  exact (eWq.begin (fun j hj => (hV.2.1 j hj).symm) 1).ful (by decide) t n
theorem tRun_q {F : pM} {P : Nat → Nat → Option Nat} {χ : Nat} (hV : pVw F P χ v) (t c : Int32) : eWq 7 (pRn (pvB v) (pvS v) t c) (tRun F χ t c) := by
  unfold tRun tBeg
  rw [wRun_e hV.1]
  exact (eWq.begin (fun j hj => (hV.2.1 j hj).symm) 1).run (by decide) 9 t c
theorem tAcc_v {F W V : pM} {P : Nat → Nat → Option Nat} {χ o s : Nat} (hV : pVw F P χ v) (hW : eWq 7 V W) : pVw (tAcc F P χ o s W) (tP P χ ((o + s) % 8)) χ (v.1, sCopy (pvS v) (zsub V 1), v.2.2) := by
  have h1 : pVw (tF (zput F (χ + 26) 8 W) P χ o s) (tP P χ ((o + s) % 8)) χ v := (hV.put (Or.inl ⟨by decide, by decide⟩)).rem
  unfold tAcc
  refine h1.sk fun j hj => ?_
  rw [← sCopy_q hW hV.2.1 j hj]
  refine sCopy_j (fun i hi => ?_) (fun i hi => ?_) j hj
  · show tF (zput F (χ + 26) 8 W) P χ o s (χ + 19 + i) = F (χ + 19 + i)
    rw [tF_out (by omega) (by omega), zput_ne (by omega)]
  · show tF (zput F (χ + 26) 8 W) P χ o s (χ + 27 + i) = W (1 + i)
    rw [tF_out (by omega) (by omega), show χ + 27 + i = χ + 26 + (1 + i) by omega, zput_at (by omega)]
theorem tAcc_rg {F W : pM} {P : Nat → Nat → Option Nat} {χ o s : Nat} (ho : o < 8) (hs : s ≤ 8) (h1 : F (χ + 34) 1 = nI o) (h2 : F (χ + 34) 2 = nI s) : pRg (tAcc F P χ o s W) χ := by
  unfold tAcc
  exact (tF_rg ho hs (by rw [zput_ne (by omega)]; exact h1) (by rw [zput_ne (by omega)]; exact h2)).of (zput_ne (by omega))
theorem tAcc_fr {sh : zSh} {F W : pM} {P : Nat → Nat → Option Nat} {χ o s : Nat} : pFr χ sh F P (tS sh P χ ((o + s) % 8)) (tAcc F P χ o s W) (tP P χ ((o + s) % 8)) := by
  unfold tAcc
  exact ((pFr.put (by decide)).trans pFr.rem).trans (pFr.put (by decide))
/-- the latest of the ring holds the book B and the stock S -/
def pTop (F : pM) (P : Nat → Nat → Option Nat) (χ : Nat) (B S : pM) : Prop := ∃ o s, o < 8 ∧ s ≤ 8 ∧ 1 ≤ s ∧ F (χ + 34) 1 = nI o ∧ F (χ + 34) 2 = nI s ∧ P (χ + 35) ((o + (s - 1)) % 8) ≠ none ∧ eBeq B (zsub F (χ + 59 + 17 * ((o + (s - 1)) % 8) + 1)) ∧ eSeq S (zsub F (χ + 59 + 17 * ((o + (s - 1)) % 8) + 10))
theorem pTop.to {F F' : pM} {P P' : Nat → Nat → Option Nat} {χ : Nat} {B S : pM} (h : pTop F P χ B S) (e : ∀ j, (j = 34 ∨ (59 ≤ j ∧ j < 195)) → F' (χ + j) = F (χ + j)) (eP : P' (χ + 35) = P (χ + 35)) : pTop F' P' χ B S := by
  obtain ⟨o, s, ho, hs, h1, f1, f2, hp, hB, hS⟩ := h
  have hm := Nat.mod_lt (o + (s - 1)) (show 0 < 8 by decide)
  refine ⟨o, s, ho, hs, h1, by rw [e 34 (by omega)]; exact f1, by rw [e 34 (by omega)]; exact f2, by rw [eP]; exact hp, hB.trans (eBeq.of fun j a b => ?_), hS.trans (eSeq.of fun j a => ?_)⟩
  · show F' (χ + 59 + 17 * ((o + (s - 1)) % 8) + 1 + j) = F (χ + 59 + 17 * ((o + (s - 1)) % 8) + 1 + j)
    rw [show χ + 59 + 17 * ((o + (s - 1)) % 8) + 1 + j = χ + (59 + 17 * ((o + (s - 1)) % 8) + 1 + j) by omega]
    exact e _ (by omega)
  · show F' (χ + 59 + 17 * ((o + (s - 1)) % 8) + 10 + j) = F (χ + 59 + 17 * ((o + (s - 1)) % 8) + 10 + j)
    rw [show χ + 59 + 17 * ((o + (s - 1)) % 8) + 10 + j = χ + (59 + 17 * ((o + (s - 1)) % 8) + 10 + j) by omega]
    exact e _ (by omega)
/-- what is remembered -/
theorem pTop.rem {sh : zSh} {F : pM} {P : Nat → Nat → Option Nat} {χ o s : Nat} (hY : zSys sh P χ) (ho : o < 8) (hs : s ≤ 8) (h1 : F (χ + 34) 1 = nI o) (h2 : F (χ + 34) 2 = nI s) : pTop (tF F P χ o s) (tP P χ ((o + s) % 8)) χ (zsub F (χ + 1)) (zsub F (χ + 19)) := by
  obtain ⟨o', s', a, b, c, d, e, em⟩ := tF_ring (P := P) ho hs h1 h2
  have hm := Nat.mod_lt (o + s) (show 0 < 8 by decide)
  refine ⟨o', s', a, b, c, d, e, ?_, ?_, ?_⟩
  · rw [em]
    have hp := (hY.2.2.2.2.2.2.2.1 _ hm).sta (by omega)
    unfold tP
    rw [hp.2]
    exact fun h => by cases h
  · rw [em]
    have hx : zEq 9 (zsub (tF F P χ o s) (χ + 59 + 17 * ((o + s) % 8) + 1)) (bCopy (zsub (remF0 (histF F (χ + 34) o s) P (χ + 35) ((o + s) % 8) (χ + 59 + 17 * ((o + s) % 8))) (χ + 59 + 17 * ((o + s) % 8) + 1)) (zsub (remF0 (histF F (χ + 34) o s) P (χ + 35) ((o + s) % 8) (χ + 59 + 17 * ((o + s) % 8))) (χ + 1))) := by
      intro j hj
      show zput _ _ _ _ (χ + 59 + 17 * ((o + s) % 8) + 1 + j) = _
      rw [zput_ne (by omega), zput_at hj]
    refine (eBeq.of fun j x y => ?_).trans (eBeq.copy.trans (eBeq.zeq fun j hj => (hx j hj).symm))
    show remF0 _ _ _ _ _ (χ + 1 + j) = F (χ + 1 + j)
    rw [remF0_ne (by omega), histF_ne (by omega)]
  · rw [em]
    have hx : zEq 7 (zsub (tF F P χ o s) (χ + 59 + 17 * ((o + s) % 8) + 10)) (sCopy (zsub (remF0 (histF F (χ + 34) o s) P (χ + 35) ((o + s) % 8) (χ + 59 + 17 * ((o + s) % 8))) (χ + 59 + 17 * ((o + s) % 8) + 10)) (zsub (remF0 (histF F (χ + 34) o s) P (χ + 35) ((o + s) % 8) (χ + 59 + 17 * ((o + s) % 8))) (χ + 19))) := by
      intro j hj
      show zput _ _ _ _ (χ + 59 + 17 * ((o + s) % 8) + 10 + j) = _
      rw [zput_at hj]
    have hc : eSeq (zsub (remF0 (histF F (χ + 34) o s) P (χ + 35) ((o + s) % 8) (χ + 59 + 17 * ((o + s) % 8))) (χ + 19)) (sCopy (zsub (remF0 (histF F (χ + 34) o s) P (χ + 35) ((o + s) % 8) (χ + 59 + 17 * ((o + s) % 8))) (χ + 59 + 17 * ((o + s) % 8) + 10)) (zsub (remF0 (histF F (χ + 34) o s) P (χ + 35) ((o + s) % 8) (χ + 59 + 17 * ((o + s) % 8))) (χ + 19))) := by
      refine ⟨fun j t x y z => ?_, ?_⟩
      · have : j = 1 ∨ j = 2 ∨ j = 3 ∨ j = 4 ∨ j = 5 ∨ j = 6 := by omega
        unfold sCopy
        rcases this with rfl | rfl | rfl | rfl | rfl | rfl
        all_goals simp (disch := omega) only [zup_ne, zup_eq, cCopy, if_pos z]
      · unfold sCopy
        rw [zup_eq, upd_eq]
    refine (eSeq.of fun j x => ?_).trans (hc.trans (eSeq.of fun j x => (hx j (by omega))))
    show remF0 _ _ _ _ _ (χ + 19 + j) = F (χ + 19 + j)
    rw [remF0_ne (by omega), histF_ne (by omega)]
end PST
