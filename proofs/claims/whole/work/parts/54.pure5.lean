/-! ===== 54.pure5: a making begun and ended, by induction on the ranks ===== -/
theorem eK.w14 {d : Nat} {G : Nat → Nat → Int32} {v : Int32} : eK d G (va_up G 0 (upd (G 0) 14 v)) := by
  refine ⟨fun j h0 h1 h2 => by simp (disch := omega) only [zup_ne, zup_eq, upd_ne, upd_eq], fun q h0 h1 h2 => by simp (disch := omega) only [zup_ne, zup_eq, upd_ne, upd_eq], fun j q h0 h1 h2 => by simp (disch := omega) only [zup_ne, zup_eq, upd_ne, upd_eq], fun t k ht hk hs => by simp (disch := omega) only [zup_ne, zup_eq, upd_ne, upd_eq]⟩
theorem eK.w8 {d : Nat} {G : Nat → Nat → Int32} {v : Int32} : eK d G (va_up G 8 (upd (G 8) d v)) := by
  refine ⟨fun j h0 h1 h2 => by simp (disch := omega) only [zup_ne, zup_eq, upd_ne, upd_eq], fun q h0 h1 h2 => by simp (disch := omega) only [zup_ne, zup_eq, upd_ne, upd_eq], fun j q h0 h1 h2 => ?_, fun t k ht hk hs => by simp (disch := omega) only [zup_ne, zup_eq, upd_ne, upd_eq]⟩
  by_cases e : j = 8
  · subst e
    simp (disch := omega) only [zup_ne, zup_eq, upd_ne, upd_eq]
  · simp (disch := omega) only [zup_ne, zup_eq, upd_ne, upd_eq]
theorem eT.w14 {q : Int32} {W G : Nat → Nat → Int32} {v : Int32} (h : eT q W G) : eT q W (va_up G 0 (upd (G 0) 14 v)) := by
  obtain ⟨h1, h3, h2, h6, h4⟩ := h
  refine ⟨?_, ?_, ?_, ?_, ?_⟩
  all_goals simp (disch := omega) only [zup_ne, zup_eq, upd_ne, upd_eq]
  all_goals assumption
theorem eT.wj {q : Int32} {W G : Nat → Nat → Int32} {j : Nat} {x : Nat → Int32} (h : eT q W G) (hj : 2 ≤ j) : eT q W (va_up G j x) := by
  obtain ⟨h1, h3, h2, h6, h4⟩ := h
  refine ⟨?_, ?_, ?_, ?_, ?_⟩
  all_goals simp (disch := omega) only [zup_ne, zup_eq, upd_ne, upd_eq]
  all_goals assumption
theorem eBegin_fr {G : Nat → Nat → Int32} {d : Nat} {t n u : Int32} : mBegin G d t n u 0 14 = nI (d + 1) ∧ mBegin G d t n u 6 d = t ∧ mBegin G d t n u 7 d = n ∧ mBegin G d t n u 8 d = nI 0 ∧ mBegin G d t n u 9 d = u := by
  unfold mBegin
  refine ⟨?_, ?_, ?_, ?_, ?_⟩
  all_goals simp (disch := omega) only [zup_ne, zup_eq, upd_ne, upd_eq]
  rfl
theorem eT.bat {q : Int32} {W G : Nat → Nat → Int32} {d bt b : Nat} {t u : Int32} (h : eT q W G) (h3 : W 0 3 = nI bt) (hl : bt + b ≤ 500) : eT q (wBat W (nI b)) (mBegin G d t (nI b) u) := by
  obtain ⟨g1, g3, g2, g6, g4⟩ := h
  have e : wBat W (nI b) = va_up W 0 (upd (W 0) 3 (nI (bt + b))) := by
    unfold wBat
    rw [h3, nI_add]
  have e15 : G 0 15 + nI b = nI (bt + b) := by rw [← g3, h3, nI_add]
  rw [e]
  unfold mBegin mSetF
  rw [e15, if_neg (show ¬ (500 : Int32) < nI (bt + b) from nI_nlt (b := bt + b) (a := 500) hl (by decide))]
  refine ⟨?_, ?_, ?_, ?_, ?_⟩
  · simp (disch := omega) only [zup_ne, zup_eq, upd_ne, upd_eq]
    exact g1.zero (by decide)
  all_goals simp (disch := omega) only [zup_ne, zup_eq, upd_ne, upd_eq]
  all_goals assumption
section ESIM2
variable {B : Nat → Nat → Int32} {w : Nat → Int32} {r : Nat → Nat} {q q1 : Int32}
theorem eSim.all (cx : eCx B w) (hrk : eRk w r) : ∀ f, eSim B w r q q1 f := by
  intro f
  induction f with
  | zero =>
    intro d t b u W G bt g M hd hN hT hS h14 ht hy hr
    have := (hrk t ht hy).1
    omega
  | succ f ih =>
    intro d t b u W G bt g M hd hN hT hS h14 ht hy hr hb hu
    obtain ⟨hr1, hr8, hrn⟩ := hrk t ht hy
    obtain ⟨hc, hc5⟩ := (cx.1 t ht).2.1
    obtain ⟨e3, hbat⟩ := hN.bat hb
    have hbt := hN.2.2.2.2.1
    have hK1 : eK d G (mBegin G d (nI t) (nI b) (nI u)) := eK.begin (Nat.le_refl _)
    have f15 : G 0 15 = nI bt := hT.2.1.symm.trans hN.2.2.2.1
    rw [wRun_s, cx.ings ht, nI_clamp (by omega), e3]
    by_cases c5 : 500 < bt + b
    · rw [if_pos (show (500 : Int32) < nI (bt + b) from nI_lt (a := 500) c5 (by omega)), eRunStep_f eFail_f, eDone_f eFail_f]
      refine ⟨_, eReach.refl, hK1, Or.inl ⟨eFail_f, ?_⟩⟩
      unfold mBegin mSetF
      rw [f15, nI_add, if_pos (show (500 : Int32) < nI (bt + b) from nI_lt (a := 500) c5 (by omega))]
      simp (disch := omega) only [zup_ne, zup_eq, upd_ne, upd_eq]
      decide
    · rw [if_neg (show ¬ (500 : Int32) < nI (bt + b) from nI_nlt (b := bt + b) (a := 500) (by omega) (by omega))]
      have hN1 := hbat (by omega)
      have hT1 := hT.bat (d := d) (t := nI t) (u := nI u) hN.2.2.2.1 (show bt + b ≤ 500 by omega)
      obtain ⟨k14, k6, k7, k8, k9⟩ := eBegin_fr (G := G) (d := d) (t := nI t) (n := nI b) (u := nI u)
      generalize wBat W (nI b) = W1 at hN1 hT1 ⊢
      generalize mBegin G d (nI t) (nI b) (nI u) = G1 at hK1 hT1 k14 k6 k7 k8 k9 ⊢
      have hloop : ∀ k, k ≤ eWc w t → ∃ Gk, eReach G1 Gk ∧ eK d G Gk ∧ ((¬ it (wRunStep (wRun B f) B (nI t) (nI b)) k W1 0 2 = 0 ∧ ¬ Gk 0 16 = 0) ∨ ∃ bt' g' M', eN q1 1 (it (wRunStep (wRun B f) B (nI t) (nI b)) k W1) bt' g' M' ∧ eT q (it (wRunStep (wRun B f) B (nI t) (nI b)) k W1) Gk ∧ Gk 0 14 = nI (d + 1) ∧ Gk 6 d = nI t ∧ Gk 7 d = nI b ∧ Gk 8 d = nI k ∧ Gk 9 d = nI u) := by
        intro k
        induction k with
        | zero => exact fun _ => ⟨G1, eReach.refl, hK1, Or.inr ⟨_, _, _, hN1, hT1, k14, k6, k7, k8, k9⟩⟩
        | succ k ihk =>
          intro hk
          obtain ⟨Gk, hre, hKk, hcase⟩ := ihk (by omega)
          rw [it_s]
          generalize it (wRunStep (wRun B f) B (nI t) (nI b)) k W1 = V at hcase ⊢
          rcases hcase with ⟨hf, hf2⟩ | ⟨bt', g', M', hV, hTk, j14, j6, j7, j8, j9⟩
          · refine ⟨Gk, hre, hKk, Or.inl ⟨?_, hf2⟩⟩
            unfold wRunStep
            rw [if_neg hf]
            exact hf
          · have hSk : mStat w (Gk 1) := fun t k ht hk hs => (hKk.2.2.2 t k ht hk hs).trans (hS t k ht hk hs)
            obtain ⟨ei, hi20, ea, ha1, ha20⟩ := (cx.1 t ht).2.2.2.2.1 k (by omega)
            have hm20 : eWa w t k * b ≤ 20 * b := Nat.mul_le_mul_right b ha20
            have hrk2 := hrn k (by omega)
            have hlive : mLive Gk := ⟨by rw [j14]; exact nI_nle (by omega) (by omega), by rw [← hTk.2.2.1]; exact hV.2.1⟩
            have hval : mVal Gk := ⟨d, t, k, by omega, ht, by omega, j14, j6, j8, cx.1.ok.stat hSk⟩
            have hstep := mStep_more (by omega) ht (by omega) j14 j6 j8 (show ¬ Gk 1 (23 * t + 8) ≤ nI k by
              rw [hSk t 8 ht (by decide) (by decide), hc]
              exact nI_ge (by omega) (by omega))
            unfold mMore at hstep
            rw [hSk t (9 + 2 * k) ht (by omega) (by omega), ei, nI_clamp (by omega), show 23 * t + (9 + 2 * k + 1) = 23 * t + (9 + 2 * k + 1) from rfl, hSk t (9 + 2 * k + 1) ht (by omega) (by omega), ea, j7, pk_mul] at hstep
            have hTH := hTk.wj (j := 8) (x := upd (Gk 8) d (nI (k + 1))) (by decide)
            have hKH : eK d Gk (va_up Gk 8 (upd (Gk 8) d (nI (k + 1)))) := eK.w8
            have e6 : va_up Gk 8 (upd (Gk 8) d (nI (k + 1))) 6 d = nI t := by simp (disch := omega) only [zup_ne, zup_eq, upd_ne, upd_eq]; exact j6
            have e7 : va_up Gk 8 (upd (Gk 8) d (nI (k + 1))) 7 d = nI b := by simp (disch := omega) only [zup_ne, zup_eq, upd_ne, upd_eq]; exact j7
            have e8 : va_up Gk 8 (upd (Gk 8) d (nI (k + 1))) 8 d = nI (k + 1) := by simp (disch := omega) only [zup_ne, zup_eq, upd_ne, upd_eq]
            have e9 : va_up Gk 8 (upd (Gk 8) d (nI (k + 1))) 9 d = nI u := by simp (disch := omega) only [zup_ne, zup_eq, upd_ne, upd_eq]; exact j9
            have e14 : va_up Gk 8 (upd (Gk 8) d (nI (k + 1))) 0 14 = nI (d + 1) := by simp (disch := omega) only [zup_ne, zup_eq, upd_ne, upd_eq]; exact j14
            generalize va_up Gk 8 (upd (Gk 8) d (nI (k + 1))) = H at hstep hTH hKH e6 e7 e8 e9 e14
            have hSH : mStat w (H 1) := fun t k ht hk hs => (hKH.2.2.2 t k ht hk hs).trans (hSk t k ht hk hs)
            obtain ⟨G', hre', hK', hres⟩ := eSim.take cx ih (d := d + 1) (by omega) hV hTH hSH e14 hi20 (show eWa w t k * b ≤ 1000000 by omega) (show r (eWi w t k) ≤ f by omega) (fun i hi => by have := hrk2.2 i hi; omega)
            have hNt := hV.take cx (Or.inr rfl) (eHR.all cx hrk (Or.inr rfl) f) hi20 (show eWa w t k * b ≤ 1000000 by omega) (show r (eWi w t k) ≤ f by omega) (fun i hi => by have := hrk2.2 i hi; omega)
            have ew : wRunStep (wRun B f) B (nI t) (nI b) k V = wTake (wProv (wRun B f) B) B V (nI (eWi w t k)) (nI (eWa w t k * b)) := by
              unfold wRunStep
              rw [if_pos hV.2.1, cx.ing ht (by omega), cx.amt ht (by omega), pk_mul]
            rw [ew]
            refine ⟨G', hre.trans ((eReach.step hlive hval).trans (by rw [hstep]; exact hre')), hKk.trans (hKH.trans (hK'.less (by omega))), ?_⟩
            rcases hres with hff | ⟨hT2, h142⟩
            · exact Or.inl hff
            · rcases hNt with hf | ⟨bt2, g2, M2, hN2, -⟩
              · exact Or.inl ⟨hf, by rw [← hT2.2.2.1]; exact hf⟩
              · exact Or.inr ⟨bt2, g2, M2, hN2, hT2, h142, (hK'.2.2.1 6 d (by decide) (by decide) (by omega)).trans e6, (hK'.2.2.1 7 d (by decide) (by decide) (by omega)).trans e7, (hK'.2.2.1 8 d (by decide) (by decide) (by omega)).trans e8, (hK'.2.2.1 9 d (by decide) (by decide) (by omega)).trans e9⟩
      obtain ⟨Gn, hre, hKn, hcase⟩ := hloop (eWc w t) (Nat.le_refl _)
      generalize it (wRunStep (wRun B f) B (nI t) (nI b)) (eWc w t) W1 = V at hcase ⊢
      rcases hcase with ⟨hf, hf2⟩ | ⟨bt', g', M', hV, hTn, j14, j6, j7, j8, j9⟩
      · refine ⟨Gn, hre, hKn, Or.inl ⟨?_, hf2⟩⟩
        rw [eDone_f hf]
        exact hf
      · have hSn : mStat w (Gn 1) := fun t k ht hk hs => (hKn.2.2.2 t k ht hk hs).trans (hS t k ht hk hs)
        have hlive : mLive Gn := ⟨by rw [j14]; exact nI_nle (by omega) (by omega), by rw [← hTn.2.2.1]; exact hV.2.1⟩
        have hval : mVal Gn := ⟨d, t, eWc w t, by omega, ht, by omega, j14, j6, j8, cx.1.ok.stat hSn⟩
        have hstep := mStep_end (by omega) ht j14 j6 j8 (show Gn 1 (23 * t + 8) ≤ nI (eWc w t) by
          rw [hSn t 8 ht (by decide) (by decide), hc]
          exact Int32.le_refl _)
        have hy2 := (cx.1 t ht).1
        have e0 : Gn 1 (23 * t + 7) * Gn 7 d = nI (eWy w t * b) := by rw [hSn t 7 ht (by decide) (by decide), hy2.1, j7, pk_mul]
        have hT4 := hTn.come (j := 4) (n := nI (eWy w t * b)) ht (by decide) (by decide)
        rw [show eOff 4 = 3 from rfl] at hT4
        have hT5 : eT q (wDone B (nI t) (nI b) V) (mEnd1 Gn d t) := by
          unfold wDone mEnd1 mEnd0
          rw [if_pos hV.2.1, cx.yield ht, pk_mul, e0, j7]
          generalize wCome V 4 (nI t) (nI (eWy w t * b)) = Y at hT4 ⊢
          generalize mCome Gn t (nI (eWy w t * b)) 3 = Z at hT4 ⊢
          obtain ⟨g1, g3, g2, g6, g4⟩ := hT4
          refine ⟨fun i k hi hi7 hk => ?_, ?_, ?_, ?_, ?_⟩
          · have := eOff_le hi7
            simp (disch := omega) only [zup_ne, zup_eq, upd_ne, upd_eq]
            exact g1 i k hi hi7 hk
          · simp (disch := omega) only [zup_ne, zup_eq, upd_ne, upd_eq]
            exact g3
          · simp (disch := omega) only [zup_ne, zup_eq, upd_ne, upd_eq]
            exact g2
          · simp (disch := omega) only [zup_ne, zup_eq, upd_ne, upd_eq]
            rw [g6]
          · simp (disch := omega) only [zup_ne, zup_eq, upd_ne, upd_eq]
            exact g4
        have hp1 : mPres Gn (mEnd1 Gn d t) := mEnd1_pres
        have hp2 : mPres Gn (mUse (mEnd1 Gn d t) t (Gn 9 d)) := hp1.trans mUse_pres
        have hS1 : mStat w (mEnd1 Gn d t 1) := fun t k ht hk hs => (hp1.2.2.2 t k ht hk hs).trans (hSn t k ht hk hs)
        refine ⟨mStep Gn, hre.trans (eReach.step hlive hval), ?_, ?_⟩
        · rw [hstep]
          exact hKn.trans ((eK.pres hp2).trans eK.w14)
        · rw [hstep]
          unfold mEnd mEnd2
          rw [j9]
          rcases hV.done cx ht (show b ≤ 500 by omega) with hf | ⟨hD, a, ha, hya, ea⟩
          · refine Or.inl ⟨hf, ?_⟩
            simp (disch := omega) only [zup_ne, zup_eq, upd_ne, upd_eq]
            exact mUse_f (by rw [← hT5.2.2.1]; exact hf)
          · obtain ⟨hVv, hvv⟩ := eStat_ves cx hS1 ht
            have en : wN (wDone B (nI t) (nI b) V) (nI t) (nI u) = nI u := by
              obtain ⟨a2, k, ha2, ea2, -, -, ek, hk⟩ := hD.tk ht (show u ≤ 1000000 by omega)
              rw [ek]
              have : a2 = a := (nI_eq (by omega) (by omega)).mp (ea2.symm.trans ea)
              rw [hk (by omega)]
            refine Or.inr ⟨hD.2.1, (hT5.use ht hVv hvv en).w14, ?_⟩
            simp (disch := omega) only [zup_ne, zup_eq, upd_ne, upd_eq]
end ESIM2
