/-! ===== 55.pure6: a wish, a making ===== -/
noncomputable def eNu (G : Nat → Nat → Int32) : Nat := Classical.epsilon (fun N => ¬ mLive (it mLoop N G) ∧ ∀ i, i < N → mLive (it mLoop i G) → mVal (it mLoop i G))
theorem eNu_good {A G' : Nat → Nat → Int32} (h : eReach A G') (hn : ¬ mLive G') : mGood eNu A ∧ mFin eNu A = G' := by
  obtain ⟨N, hN, vN⟩ := h
  have hs : ¬ mLive (it mLoop (eNu A) A) ∧ ∀ i, i < eNu A → mLive (it mLoop i A) → mVal (it mLoop i A) :=
    Classical.epsilon_spec (p := fun N => ¬ mLive (it mLoop N A) ∧ ∀ i, i < N → mLive (it mLoop i A) → mVal (it mLoop i A)) ⟨N, by rw [hN]; exact hn, vN⟩
  refine ⟨hs, ?_⟩
  show it mLoop (eNu A) A = G'
  rw [← hN]
  rcases Nat.le_total N (eNu A) with hl | hl
  · exact it_stick (f := mLoop) (p := fun s => ¬ mLive s) (fun i s h => if_neg h) (i := N) (by rw [hN]; exact hn) (eNu A) hl
  · exact (it_stick (f := mLoop) (p := fun s => ¬ mLive s) (fun i s h => if_neg h) (i := eNu A) hs.1 N hl).symm
theorem eUse_z {B : Nat → Nat → Int32} {q mg : Int32} {W : Nat → Nat → Int32} {bt g M τ : Nat} (h : eN q mg W bt g M) (hτ : τ < 20) (hv : eVs (bVes B (nI τ))) : wUse B W (nI τ) (nI 0) = W := by
  obtain ⟨a, k, ha, ea, hka, hkm, ek, -⟩ := h.tk hτ (show 0 ≤ 1000000 by omega)
  have hk : k = 0 := by omega
  subst hk
  have e0 : wUse0 W (nI τ) (nI 0) = W := by
    unfold wUse0
    rw [nI_0, Int32.neg_zero, eAdd hτ (by decide), eAdd hτ (by decide), Int32.add_zero, Int32.add_zero, eUpd_same rfl, eUpd_same rfl, va_up_same, va_up_same]
  unfold wUse
  rw [ek, e0]
  by_cases c : bVes B (nI τ) = -9
  · rw [if_pos c]
  · rw [if_neg c]
    obtain ⟨v, hv20, ev⟩ := hv.resolve_left c
    obtain ⟨a2, ha2, ea2⟩ := h.2.2.1 v hv20
    rw [ev]
    unfold wCome
    rw [nI_0, eAdd hv20 (by decide), eAdd hv20 (by decide), Int32.add_zero, Int32.add_zero, eUpd_same rfl, eUpd_same rfl, va_up_same, va_up_same, eAt hv20 (by decide), ea2, if_pos (show nI a2 ≤ (99999 : Int32) from nI_le (b := 99999) ha2 (by decide))]
theorem eSub_le {n a : Nat} (hn : n ≤ 1000000) (ha : a ≤ 1000000) : nI n - nI a ≤ 0 ↔ n ≤ a := by
  rw [Int32.le_iff_toInt_le, pk_sub_toInt (by omega) (by omega)]
  have : (0 : Int32).toInt = 0 := by decide
  rw [this]
  omega
/-- a stock against the model's row -/
def eSk (S : Nat → Nat → Int32) (w : Nat → Int32) : Prop := (∀ j t, 1 ≤ j → j ≤ 6 → t < 20 → S j t = w (23 * t + eOff (j + 1))) ∧ S 0 6 = w 461 ∧ cSum (S 2) 20 = w 460
def eWm (w : Nat → Int32) : Prop := ∀ t, t < 20 → ∃ a, a ≤ 99999 ∧ w (23 * t + 0) = nI a
theorem eCopyS_j {S G : Nat → Nat → Int32} {j t : Nat} (h1 : 1 ≤ j) (h6 : j ≤ 6) (ht : t < 20) : sCopy S G j t = G j t := by
  have : j = 1 ∨ j = 2 ∨ j = 3 ∨ j = 4 ∨ j = 5 ∨ j = 6 := by omega
  unfold sCopy
  rcases this with rfl | rfl | rfl | rfl | rfl | rfl
  all_goals simp (disch := omega) only [zup_ne, zup_eq, upd_ne, upd_eq]
  all_goals exact cCopy_in ht
theorem eCopyS_0 {S G : Nat → Nat → Int32} : sCopy S G 0 = upd (S 0) 6 (G 0 6) := by
  unfold sCopy
  simp (disch := omega) only [zup_ne, zup_eq, upd_ne, upd_eq]
theorem wBegin_j {W S : Nat → Nat → Int32} {g : Int32} {j t : Nat} (h1 : 2 ≤ j) (h7 : j ≤ 7) (ht : t < 20) : wBegin W S g j t = S (j - 1) t := by
  unfold wBegin
  rw [zup_ne (by omega)]
  obtain ⟨i, rfl⟩ : ∃ i, j = 1 + i := ⟨j - 1, by omega⟩
  rw [zput_at (by omega), eCopyS_j (by omega) (by omega) ht]
  congr 1
  omega
theorem wBegin_1 {W S : Nat → Nat → Int32} {g : Int32} : wBegin W S g 1 6 = S 0 6 := by
  unfold wBegin
  rw [zup_ne (by decide), show (1 : Nat) = 1 + 0 from rfl, zput_at (by decide), eCopyS_0, upd_eq]
theorem wBegin_0 {W S : Nat → Nat → Int32} {g : Int32} : wBegin W S g 0 1 = g ∧ wBegin W S g 0 2 = 0 ∧ wBegin W S g 0 3 = 0 ∧ wBegin W S g 0 4 = 0 := by
  unfold wBegin
  rw [zup_eq]
  refine ⟨?_, ?_, ?_, ?_⟩
  all_goals simp (disch := omega) only [zup_ne, zup_eq, upd_ne, upd_eq]
theorem eStart {S W : Nat → Nat → Int32} {w : Nat → Int32} {M : Nat} {g : Int32} (hS : eSk S w) (hw : eWm w) (hM : cSum (S 3) 20 = nI M) : eN (w 460) g (wBegin W S g) 0 0 M := by
  obtain ⟨b1, b2, b3, b4⟩ := wBegin_0 (W := W) (S := S) (g := g)
  refine ⟨b1, b2, fun t ht => ?_, b3, by omega, b4, ?_, ?_⟩
  · obtain ⟨a, ha, ea⟩ := hw t ht
    refine ⟨a, ha, ?_⟩
    rw [wBegin_j (by decide) (by decide) ht, ← ea]
    exact hS.1 1 t (by decide) (by decide) ht
  · rw [← hM]
    exact eSum_congr 20 (fun t ht => wBegin_j (by decide) (by decide) ht)
  · rw [nI_0, Int32.add_zero, ← hS.2.2]
    exact eSum_congr 20 (fun t ht => wBegin_j (by decide) (by decide) ht)
theorem eStartT {S W G : Nat → Nat → Int32} {g : Int32} (hS : eSk S (G 1)) (h15 : G 0 15 = 0) (h16 : G 0 16 = 0) : eT (G 1 460) (wBegin W S g) G := by
  obtain ⟨b1, b2, b3, b4⟩ := wBegin_0 (W := W) (S := S) (g := g)
  refine ⟨fun j t h2 h7 ht => ?_, by rw [b3, h15], by rw [b2, h16], by rw [wBegin_1]; exact hS.2.1, by rw [b4, Int32.add_zero]⟩
  obtain ⟨i, rfl⟩ : ∃ i, j = i + 1 := ⟨j - 1, by omega⟩
  rw [wBegin_j h2 h7 ht]
  exact hS.1 i t (by omega) (by omega) ht
theorem eK.beg0 {d : Nat} {G : Nat → Nat → Int32} : eK d G (mBeg0 G) := by
  unfold mBeg0
  refine ⟨fun j h0 h1 h2 => by simp (disch := omega) only [zup_ne, zup_eq, upd_ne, upd_eq], fun q h0 h1 h2 => by simp (disch := omega) only [zup_ne, zup_eq, upd_ne, upd_eq], fun j q h0 h1 h2 => by simp (disch := omega) only [zup_ne, zup_eq, upd_ne, upd_eq], fun t k ht hk hs => by simp (disch := omega) only [zup_ne, zup_eq, upd_ne, upd_eq]⟩
theorem mBeg0_0 {G : Nat → Nat → Int32} : mBeg0 G 0 14 = 0 ∧ mBeg0 G 0 15 = 0 ∧ mBeg0 G 0 16 = 0 := by
  unfold mBeg0
  refine ⟨?_, ?_, ?_⟩
  all_goals simp (disch := omega) only [zup_ne, zup_eq, upd_ne, upd_eq]
/-- the end of a wish or a making: both fail, or both stand side by side -/
def eEnd (q : Int32) (M n : Nat) (V G' : Nat → Nat → Int32) : Prop := (¬ V 0 2 = 0 ∧ ¬ G' 0 16 = 0) ∨ ∃ bt g M', eN q 1 V bt g M' ∧ eT q V G' ∧ g ≤ 100 * bt + n ∧ M ≤ M' ∧ M' ≤ M + 20 * bt
section EWISH
variable {B S W G : Nat → Nat → Int32} {r : Nat → Nat} {t n b M : Nat}
theorem eMaking (cx : eCx B (G 1)) (hrk : eRk (G 1) r) (hS : eSk S (G 1)) (hw : eWm (G 1)) (hM : cSum (S 3) 20 = nI M) (ht : t < 20) (hy : eWy (G 1) t ≠ 0) (hb : b ≤ 1000000) :
    mGood eNu (mBegin (mBeg0 G) 0 (nI t) (nI b) 0) ∧ eK 0 G (mFin eNu (mBegin (mBeg0 G) 0 (nI t) (nI b) 0)) ∧ eEnd (G 1 460) M 0 (wRun B 9 (nI t) (nI b) (wBegin W S 1)) (mFin eNu (mBegin (mBeg0 G) 0 (nI t) (nI b) 0)) := by
  obtain ⟨m14, m15, m16⟩ := mBeg0_0 (G := G)
  have hN := eStart (W := W) (g := 1) hS hw hM
  have e1 : mBeg0 G 1 = G 1 := mBeg0_1 (by decide)
  have hT := eStartT (W := W) (G := mBeg0 G) (g := 1) (by rw [e1]; exact hS) m15 m16
  rw [e1] at hT
  obtain ⟨hr1, hr8, -⟩ := hrk t ht hy
  obtain ⟨G', hre, hK, hres⟩ := eSim.all (q := G 1 460) (q1 := G 1 460) cx hrk 9 0 t b 0 (wBegin W S 1) (mBeg0 G) 0 0 M (by decide) hN hT (by rw [e1]; exact fun _ _ _ _ _ => rfl) m14 ht hy (by omega) hb (Nat.zero_le _)
  rw [nI_0] at hre
  have hnl : ¬ mLive G' := by
    rcases hres with ⟨-, hf⟩ | ⟨-, -, h14⟩
    · exact fun h => hf h.2
    · exact fun h => h.1 (by rw [h14]; decide)
  obtain ⟨hg, hfin⟩ := eNu_good hre hnl
  rw [hfin]
  refine ⟨hg, eK.beg0.trans hK, ?_⟩
  have hH := eHR.all cx hrk (q := G 1 460) (mg := 1) (Or.inr rfl) 9 t (wBegin W S 1) b 0 0 M ht hy (by omega) hb hN
  rcases hres with hff | ⟨h0, hT', -⟩
  · exact Or.inl hff
  · rcases hH with hf | ⟨bt', g', M', a, hN', h1, h2, h3, h4, h5, -⟩
    · exact absurd h0 hf
    · rw [eUse_z hN' ht (eVs_of cx ht)] at hT'
      exact Or.inr ⟨bt', g', M', hN', hT', by omega, h4, by omega⟩
theorem eWish (cx : eCx B (G 1)) (hrk : eRk (G 1) r) (hS : eSk S (G 1)) (hw : eWm (G 1)) (hM : cSum (S 3) 20 = nI M) (ht : t < 20) (hn : n ≤ 1000000) :
    mWishH eNu G t (nI n) ∧ eK 0 G (mWish eNu G t (nI n)) ∧ eEnd (G 1 460) M n (wFul B (wBegin W S 1) (nI t) (nI n)) (mWish eNu G t (nI n)) := by
  obtain ⟨a, ha, ea⟩ := hw t ht
  obtain ⟨m14, m15, m16⟩ := mBeg0_0 (G := G)
  have e1 : mBeg0 G 1 = G 1 := mBeg0_1 (by decide)
  have ew : wBegin W S 1 2 t = nI a := by
    rw [wBegin_j (by decide) (by decide) ht, ← ea]
    exact hS.1 1 t (by decide) (by decide) ht
  have hy2 := (cx.1 t ht).1
  have em : mMiss G t (nI n) = nI n - nI a := by
    unfold mMiss
    rw [ea]
  have hN := eStart (W := W) (g := 1) hS hw hM
  have hT := eStartT (W := W) (G := mBeg0 G) (g := 1) (by rw [e1]; exact hS) m15 m16
  rw [e1] at hT
  have emade := cx.1.made ht
  unfold mWishH mWish wFul
  rw [em, emade, eAt ht (by decide), ew]
  by_cases c : n ≤ a
  · have c0 : nI n - nI a ≤ 0 := (eSub_le hn (by omega)).mpr c
    rw [if_pos c0, if_pos c0]
    exact ⟨fun h => absurd c0 h, eK.beg0, Or.inr ⟨0, 0, M, hN, hT, by omega, Nat.le_refl _, by omega⟩⟩
  · have c0 : ¬ nI n - nI a ≤ 0 := fun h => c ((eSub_le hn (by omega)).mp h)
    have e2 : nI n - nI a = nI (n - a) := pk_sub (by omega)
    rw [if_neg c0, if_neg c0, e2]
    unfold wProv
    rw [cx.made ht]
    by_cases hy : eWy (G 1) t = 0
    · rw [if_pos hy, if_pos rfl, if_pos rfl]
      refine ⟨fun _ h => absurd rfl h, (eK.beg0 (d := 0)).trans (eK.pres mGath_pres), ?_⟩
      have hT2 := hT.gath (m := n - a) hN.1 ht
      rcases hN.col ht (show n - a ≤ 1000000 by omega) with hf | ⟨hc, -⟩
      · exact Or.inl ⟨hf, by rw [← hT2.2.2.1]; exact hf⟩
      · exact Or.inr ⟨0, 0 + (n - a), M, hc, hT2, by omega, Nat.le_refl _, by omega⟩
    · rw [if_neg hy, if_neg (by decide), if_neg (by decide), cx.yield ht, eDiv (show n - a ≤ 1000000 by omega) (by omega) hy2.2]
      have hd := eDiv_le (show 1 ≤ n - a by omega) (show 1 ≤ eWy (G 1) t by omega)
      have ef : mWishB G t (nI n) = mBegin (mBeg0 G) 0 (nI t) (nI ((n - a + eWy (G 1) t - 1) / eWy (G 1) t)) 0 := by
        unfold mWishB mFor
        rw [em, e2, hy2.1, nI_add, show (1 : Int32) = nI 1 from rfl, pk_sub (by omega), pk_div (by omega) (by omega) (by omega)]
      rw [ef]
      obtain ⟨h1, h2, h3⟩ := eMaking (W := W) cx hrk hS hw hM ht hy (show (n - a + eWy (G 1) t - 1) / eWy (G 1) t ≤ 1000000 by omega)
      refine ⟨fun _ _ => h1, h2, ?_⟩
      rcases h3 with hf | ⟨bt, g, M', hN', hT', k1, k2, k3⟩
      · exact Or.inl hf
      · exact Or.inr ⟨bt, g, M', hN', hT', by omega, k2, k3⟩
end EWISH
