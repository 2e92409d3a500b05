/-! ===== 51.view: what an object is, wherever it lies ===== -/
abbrev pM : Type := Nat → Nat → Int32
/-- book, stock, text, its length, reader, draft, images -/
abbrev pV : Type := pM × pM × (Nat → Int32) × Int32 × pM × pM × (Nat → Option (pM × pM))
abbrev pvB (v : pV) : pM := v.1
abbrev pvS (v : pV) : pM := v.2.1
abbrev pvT (v : pV) : Nat → Int32 := v.2.2.1
abbrev pvL (v : pV) : Int32 := v.2.2.2.1
abbrev pvR (v : pV) : pM := v.2.2.2.2.1
abbrev pvD (v : pV) : pM := v.2.2.2.2.2.1
abbrev pvI (v : pV) : Nat → Option (pM × pM) := v.2.2.2.2.2.2
def pIm (F : pM) (P : Nat → Nat → Option Nat) (χ p : Nat) : Option (pM × pM) → Prop
  | none => P (χ + 36) p = none
  | some X => P (χ + 36) p ≠ none ∧ zEq 9 (zsub F (χ + 195 + 17 * p + 1)) X.1 ∧ zEq 7 (zsub F (χ + 195 + 17 * p + 10)) X.2
def pVw (F : pM) (P : Nat → Nat → Option Nat) (χ : Nat) (v : pV) : Prop := zEq 9 (zsub F (χ + 1)) (pvB v) ∧ zEq 7 (zsub F (χ + 19)) (pvS v) ∧ F (χ + 40) = pvT v ∧ F χ 8 = pvL v ∧ zEq 3 (zsub F (χ + 37)) (pvR v) ∧ zEq 9 (zsub F (χ + 10)) (pvD v) ∧ ∀ p, p < 2 → pIm F P χ p (pvI v p)
def pRg (F : pM) (χ : Nat) : Prop := ∃ o s, o < 8 ∧ s ≤ 8 ∧ F (χ + 34) 1 = nI o ∧ F (χ + 34) 2 = nI s
def pLI (sh : zSh) (F : pM) (P : Nat → Nat → Option Nat) (χ : Nat) (v : pV) : Prop := zSys sh P χ ∧ pRg F χ ∧ pVw F P χ v
def pFr (χ : Nat) (sh : zSh) (F : pM) (P : Nat → Nat → Option Nat) (sh' : zSh) (F' : pM) (P' : Nat → Nat → Option Nat) : Prop := ∀ i, (i < χ ∨ χ + 229 ≤ i) → sh' i = sh i ∧ F' i = F i ∧ P' i = P i
theorem pFr.refl {χ : Nat} {sh : zSh} {F : pM} {P : Nat → Nat → Option Nat} : pFr χ sh F P sh F P := fun _ _ => ⟨rfl, rfl, rfl⟩
theorem pFr.trans {χ : Nat} {sh sh' sh2 : zSh} {F F' F2 : pM} {P P' P2 : Nat → Nat → Option Nat} (h : pFr χ sh F P sh' F' P') (g : pFr χ sh' F' P' sh2 F2 P2) : pFr χ sh F P sh2 F2 P2 := fun i hi => ⟨(g i hi).1.trans (h i hi).1, (g i hi).2.1.trans (h i hi).2.1, (g i hi).2.2.trans (h i hi).2.2⟩
theorem pIm.keep {F F' : pM} {P P' : Nat → Nat → Option Nat} {χ p : Nat} {X : Option (pM × pM)} (h : pIm F P χ p X) (hp : p < 2) (e : ∀ j, 195 ≤ j → j < 229 → F' (χ + j) = F (χ + j)) (eP : P' (χ + 36) p = P (χ + 36) p) : pIm F' P' χ p X := by
  cases X with
  | none => exact eP.trans h
  | some X =>
    obtain ⟨h1, h2, h3⟩ := h
    refine ⟨by rw [eP]; exact h1, fun j hj => ?_, fun j hj => ?_⟩
    · rw [← h2 j hj]
      show F' (χ + 195 + 17 * p + 1 + j) = F (χ + 195 + 17 * p + 1 + j)
      rw [show χ + 195 + 17 * p + 1 + j = χ + (195 + 17 * p + 1 + j) by omega]
      exact e _ (by omega) (by omega)
    · rw [← h3 j hj]
      show F' (χ + 195 + 17 * p + 10 + j) = F (χ + 195 + 17 * p + 10 + j)
      rw [show χ + 195 + 17 * p + 10 + j = χ + (195 + 17 * p + 10 + j) by omega]
      exact e _ (by omega) (by omega)
section PVW
variable {F : pM} {P : Nat → Nat → Option Nat} {χ : Nat} {v : pV}
/-- a window laid anew, that nothing of the view lies in -/
theorem pVw.put {b n : Nat} {W : pM} (h : pVw F P χ v) (hb : (26 ≤ b ∧ b + n ≤ 37) ∨ (41 ≤ b ∧ b + n ≤ 195)) : pVw (zput F (χ + b) n W) P χ v := by
  obtain ⟨h1, h2, h3, h4, h5, h6, h7⟩ := h
  refine ⟨fun j hj => ?_, fun j hj => ?_, ?_, ?_, fun j hj => ?_, fun j hj => ?_, fun p hp => (h7 p hp).keep hp (fun j a b => zput_ne (by omega)) rfl⟩
  · rw [← h1 j hj]
    exact zput_ne (by omega)
  · rw [← h2 j hj]
    exact zput_ne (by omega)
  · rw [zput_ne (by omega)]
    exact h3
  · rw [zput_ne (by omega)]
    exact h4
  · rw [← h5 j hj]
    exact zput_ne (by omega)
  · rw [← h6 j hj]
    exact zput_ne (by omega)
theorem pVw.bk {D B' : pM} (h : pVw F P χ v) (hD : zEq 9 D B') : pVw (zput F (χ + 1) 9 D) P χ (B', v.2) := by
  obtain ⟨h1, h2, h3, h4, h5, h6, h7⟩ := h
  refine ⟨fun j hj => (zput_at hj).trans (hD j hj), fun j hj => ?_, ?_, ?_, fun j hj => ?_, fun j hj => ?_, fun p hp => (h7 p hp).keep hp (fun j a b => zput_ne (by omega)) rfl⟩
  · rw [← h2 j hj]
    exact zput_ne (by omega)
  · rw [zput_ne (by omega)]
    exact h3
  · rw [zput_ne (by omega)]
    exact h4
  · rw [← h5 j hj]
    exact zput_ne (by omega)
  · rw [← h6 j hj]
    exact zput_ne (by omega)
theorem pVw.sk {D S' : pM} (h : pVw F P χ v) (hD : zEq 7 D S') : pVw (zput F (χ + 19) 7 D) P χ (v.1, S', v.2.2) := by
  obtain ⟨h1, h2, h3, h4, h5, h6, h7⟩ := h
  refine ⟨fun j hj => ?_, fun j hj => (zput_at hj).trans (hD j hj), ?_, ?_, fun j hj => ?_, fun j hj => ?_, fun p hp => (h7 p hp).keep hp (fun j a b => zput_ne (by omega)) rfl⟩
  · rw [← h1 j hj]
    exact zput_ne (by omega)
  · rw [zput_ne (by omega)]
    exact h3
  · rw [zput_ne (by omega)]
    exact h4
  · rw [← h5 j hj]
    exact zput_ne (by omega)
  · rw [← h6 j hj]
    exact zput_ne (by omega)
theorem pVw.dr {D D' : pM} (h : pVw F P χ v) (hD : zEq 9 D D') : pVw (zput F (χ + 10) 9 D) P χ (v.1, v.2.1, v.2.2.1, v.2.2.2.1, v.2.2.2.2.1, D', v.2.2.2.2.2.2) := by
  obtain ⟨h1, h2, h3, h4, h5, h6, h7⟩ := h
  refine ⟨fun j hj => ?_, fun j hj => ?_, ?_, ?_, fun j hj => ?_, fun j hj => (zput_at hj).trans (hD j hj), fun p hp => (h7 p hp).keep hp (fun j a b => zput_ne (by omega)) rfl⟩
  · rw [← h1 j hj]
    exact zput_ne (by omega)
  · rw [← h2 j hj]
    exact zput_ne (by omega)
  · rw [zput_ne (by omega)]
    exact h3
  · rw [zput_ne (by omega)]
    exact h4
  · rw [← h5 j hj]
    exact zput_ne (by omega)
theorem pVw.rd {R R' : pM} (h : pVw F P χ v) (hR : zEq 3 R R') : pVw (zput F (χ + 37) 3 R) P χ (v.1, v.2.1, v.2.2.1, v.2.2.2.1, R', v.2.2.2.2.2) := by
  obtain ⟨h1, h2, h3, h4, h5, h6, h7⟩ := h
  refine ⟨fun j hj => ?_, fun j hj => ?_, ?_, ?_, fun j hj => (zput_at hj).trans (hR j hj), fun j hj => ?_, fun p hp => (h7 p hp).keep hp (fun j a b => zput_ne (by omega)) rfl⟩
  · rw [← h1 j hj]
    exact zput_ne (by omega)
  · rw [← h2 j hj]
    exact zput_ne (by omega)
  · rw [zput_ne (by omega)]
    exact h3
  · rw [zput_ne (by omega)]
    exact h4
  · rw [← h6 j hj]
    exact zput_ne (by omega)
/-- a number of the object itself -/
theorem pVw.fl {k : Nat} {x : Int32} (h : pVw F P χ v) : pVw (zu F χ k x) P χ (v.1, v.2.1, v.2.2.1, if k = 8 then x else v.2.2.2.1, v.2.2.2.2) := by
  obtain ⟨h1, h2, h3, h4, h5, h6, h7⟩ := h
  have e : ∀ i, i ≠ χ → zu F χ k x i = F i := fun i hi => by rw [zu_up, zup_ne hi]
  refine ⟨fun j hj => ?_, fun j hj => ?_, ?_, ?_, fun j hj => ?_, fun j hj => ?_, fun p hp => (h7 p hp).keep hp (fun j a b => e _ (by omega)) rfl⟩
  · rw [← h1 j hj]
    exact e _ (by omega)
  · rw [← h2 j hj]
    exact e _ (by omega)
  · rw [e _ (by omega)]
    exact h3
  · rw [zu_up, zup_eq]
    by_cases c : k = 8
    · subst c
      rw [upd_eq]
      show x = if (8 : Nat) = 8 then x else v.2.2.2.1
      rw [if_pos rfl]
    · rw [upd_ne (Ne.symm c)]
      show F χ 8 = if k = 8 then x else v.2.2.2.1
      rw [if_neg c]
      exact h4
  · rw [← h5 j hj]
    exact e _ (by omega)
  · rw [← h6 j hj]
    exact e _ (by omega)
theorem pVw.tx {x : Nat → Int32} (h : pVw F P χ v) : pVw (va_up F (χ + 40) x) P χ (v.1, v.2.1, x, v.2.2.2) := by
  obtain ⟨h1, h2, h3, h4, h5, h6, h7⟩ := h
  refine ⟨fun j hj => ?_, fun j hj => ?_, zup_eq, ?_, fun j hj => ?_, fun j hj => ?_, fun p hp => (h7 p hp).keep hp (fun j a b => zup_ne (by omega)) rfl⟩
  · rw [← h1 j hj]
    exact zup_ne (by omega)
  · rw [← h2 j hj]
    exact zup_ne (by omega)
  · rw [zup_ne (by omega)]
    exact h4
  · rw [← h5 j hj]
    exact zup_ne (by omega)
  · rw [← h6 j hj]
    exact zup_ne (by omega)
theorem tF_out {o s i : Nat} (h : i < χ + 59 ∨ χ + 195 ≤ i) (hη : i ≠ χ + 34) : tF F P χ o s i = F i := by
  unfold tF
  have := Nat.mod_lt (o + s) (show 0 < 8 by decide)
  exact remF_ne (by omega) hη
theorem tP_out {p i : Nat} (hp : p < 8) (h : i < χ + 59 ∨ χ + 195 ≤ i) (hη : i ≠ χ + 35) : tP P χ p i = P i := by
  unfold tP
  exact remP_ne (by omega) hη
theorem tS_out {sh : zSh} {p i : Nat} (hp : p < 8) (h : i < χ + 59 ∨ χ + 195 ≤ i) : tS sh P χ p i = sh i := by
  unfold tS
  exact remSh_ne (by omega)
theorem pVw.rem {o s : Nat} (h : pVw F P χ v) : pVw (tF F P χ o s) (tP P χ ((o + s) % 8)) χ v := by
  obtain ⟨h1, h2, h3, h4, h5, h6, h7⟩ := h
  refine ⟨fun j hj => ?_, fun j hj => ?_, ?_, ?_, fun j hj => ?_, fun j hj => ?_, fun p hp => (h7 p hp).keep hp (fun j a b => tF_out (by omega) (by omega)) (by rw [tP_out (Nat.mod_lt _ (by decide)) (by omega) (by omega)])⟩
  · rw [← h1 j hj]
    exact tF_out (by omega) (by omega)
  · rw [← h2 j hj]
    exact tF_out (by omega) (by omega)
  · rw [tF_out (by omega) (by omega)]
    exact h3
  · rw [tF_out (by omega) (by omega)]
    exact h4
  · rw [← h5 j hj]
    exact tF_out (by omega) (by omega)
  · rw [← h6 j hj]
    exact tF_out (by omega) (by omega)
/-! the ring -/
theorem pRg.of {F' : pM} (h : pRg F χ) (e : F' (χ + 34) = F (χ + 34)) : pRg F' χ := by
  unfold pRg at h ⊢
  rw [e]
  exact h
theorem tF_eta {o s : Nat} : tF F P χ o s (χ + 34) = histF F (χ + 34) o s (χ + 34) := by
  unfold tF remF holdF
  have := Nat.mod_lt (o + s) (show 0 < 8 by decide)
  rw [zput_ne (by omega), zput_ne (by omega), remF0_ne (by omega)]
/-- the ring after remembering: the latest is the one just remembered -/
theorem tF_ring {o s : Nat} (ho : o < 8) (hs : s ≤ 8) (h1 : F (χ + 34) 1 = nI o) (h2 : F (χ + 34) 2 = nI s) : ∃ o' s', o' < 8 ∧ s' ≤ 8 ∧ 1 ≤ s' ∧ tF F P χ o s (χ + 34) 1 = nI o' ∧ tF F P χ o s (χ + 34) 2 = nI s' ∧ (o' + (s' - 1)) % 8 = (o + s) % 8 := by
  rw [tF_eta]
  unfold histF
  by_cases c : s < 8
  · rw [if_pos c, zup_eq]
    refine ⟨o, s + 1, ho, by omega, by omega, ?_, ?_, by rw [Nat.add_sub_cancel]⟩
    · rw [upd_ne (by decide)]
      exact h1
    · rw [upd_eq, nI_1]
  · rw [if_neg c, zup_eq]
    have e8 : s = 8 := by omega
    subst e8
    refine ⟨(o + 1) % 8, 8, Nat.mod_lt _ (by decide), by omega, by decide, ?_, ?_, by omega⟩
    · rw [upd_eq]
    · rw [upd_ne (by decide)]
      exact h2
theorem tF_rg {o s : Nat} (ho : o < 8) (hs : s ≤ 8) (h1 : F (χ + 34) 1 = nI o) (h2 : F (χ + 34) 2 = nI s) : pRg (tF F P χ o s) χ := by
  obtain ⟨o', s', a, b, -, c, d, -⟩ := tF_ring (P := P) ho hs h1 h2
  exact ⟨o', s', a, b, c, d⟩
theorem pFr.rem {sh : zSh} {o s : Nat} : pFr χ sh F P (tS sh P χ ((o + s) % 8)) (tF F P χ o s) (tP P χ ((o + s) % 8)) := fun i hi =>
  ⟨tS_out (Nat.mod_lt _ (by decide)) (by omega), tF_out (by omega) (by omega), tP_out (Nat.mod_lt _ (by decide)) (by omega) (by omega)⟩
theorem pFr.put {sh : zSh} {b n : Nat} {W : pM} (h : b + n ≤ 229) : pFr χ sh F P sh (zput F (χ + b) n W) P := fun i hi => ⟨rfl, zput_ne (by omega), rfl⟩
theorem pFr.up {sh : zSh} {b : Nat} {x : Nat → Int32} (h : b < 229) : pFr χ sh F P sh (va_up F (χ + b) x) P := fun i hi => ⟨rfl, zup_ne (by omega), rfl⟩
theorem pFr.fl {sh : zSh} {k : Nat} {x : Int32} : pFr χ sh F P sh (zu F χ k x) P := fun i hi => ⟨rfl, by rw [zu_up, zup_ne (by omega)], rfl⟩
end PVW
