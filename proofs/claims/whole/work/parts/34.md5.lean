/-! ===== 34.md5: wishNow, tryWish, wish, make; ν tells how many moves a making has ===== -/
def mFin (ν : (Nat → Nat → Int32) → Nat) (G : Nat → Nat → Int32) : Nat → Nat → Int32 := it mLoop (ν G) G
def mGood (ν : (Nat → Nat → Int32) → Nat) (G : Nat → Nat → Int32) : Prop := ¬ mLive (mFin ν G) ∧ ∀ i, i < ν G → mLive (it mLoop i G) → mVal (it mLoop i G)
def mMiss (G : Nat → Nat → Int32) (t : Nat) (n : Int32) : Int32 := n - G 1 (23 * t + 0)
def mWishB (G : Nat → Nat → Int32) (t : Nat) (n : Int32) : Nat → Nat → Int32 := mBegin (mBeg0 G) 0 (nI t) (mFor (G 1) t (mMiss G t n)) 0
def mWish (ν : (Nat → Nat → Int32) → Nat) (G : Nat → Nat → Int32) (t : Nat) (n : Int32) : Nat → Nat → Int32 :=
  if mMiss G t n ≤ 0 then mBeg0 G else if mMade (G 1) t = 0 then mGath (mBeg0 G) t (mMiss G t n) else mFin ν (mWishB G t n)
/-- what wishNow wants: where a made thing is missing, its making goes well -/
def mWishH (ν : (Nat → Nat → Int32) → Nat) (G : Nat → Nat → Int32) (t : Nat) (n : Int32) : Prop := ¬ mMiss G t n ≤ 0 → ¬ mMade (G 1) t = 0 → mGood ν (mWishB G t n)
theorem mBeg0_1 {G : Nat → Nat → Int32} {j : Nat} (h : j ≠ 0) : mBeg0 G j = G j := zup_ne h

abbrev mX7_wishNow : ZM := (cX7_wishNow, RX7, wsX7_wishNow, 7, 0, 0, none, 4, yX7_wishNow.name)
set_option maxHeartbeats 1000000 in
set_option maxRecDepth 100000 in
theorem c_X7_wishNow {sh : zSh} {F : Nat → Nat → Int32} {P : Nat → Nat → Option Nat} {μ : Nat} {G : Nat → Nat → Int32} {ν : (Nat → Nat → Int32) → Nat} {t : Nat} {n : Int32} (hM : zMd sh P μ) (hG : zVw F μ 13 G) (ht : t < 20) (hw : mWishH ν G t n) : zMet yX7_wishNow wsX7_wishNow (7) (0) (0) [.ref μ, .int (nI t), .int n] sh F P (none) sh (zput F μ 13 (mWish ν G t n)) P := by
  refine zMet.of (by decide) rfl (Nat.le_of_ble_eq_true rfl) (by simp [Value.category]) ?_
  intro X ρ
  show AW mX7_wishNow X (zMQ mX7_wishNow X (none) sh (zput F μ 13 (mWish ν G t n)) P) 0 [some (.ref μ), some (.int (nI t)), some (.int n), none] [] ρ sh F P 0 0
  obtain ⟨ms0, ⟨mp0, mp1, mp3, mp5, mp9, mp10, mp11, mp12, mp13, mp17, mp21, mp28⟩, ms1, ms2, ms3, ms4, ms5, ms6, ms7, ms8, ms9, ms10, ms11, ms12⟩ := id hM
  refine aw_cF (F' := zput F μ 13 G) (zput_view hG).symm ?_
  refine aw_aload_0 dX7_wishNow_0 ?_
  refine aw_runv (zRun_V (c_X7_beginMaking hM zVw.put) gX7_wishNow_X7_beginMaking q_X7_beginMaking rfl (by decide) rfl ms0 rfl rfl (Nat.le_of_ble_eq_true rfl) dX7_wishNow_1 ⟨Nat.le_refl _, Nat.le_refl _⟩) ?_
  rw [zput_zput]
  refine aw_iload_2 dX7_wishNow_4 ?_
  refine aw_aload_0 dX7_wishNow_5 ?_
  refine aw_iload_1 dX7_wishNow_6 ?_
  refine aw_iconst (v := 0) dX7_wishNow_7 (by decide) ?_
  refine aw_run (zRun_V (c_X7_of (t := t) (k := 0) hM zVw.put (by omega)) gX7_wishNow_X7_of q_X7_of rfl (by decide) rfl ms0 rfl rfl (Nat.le_of_ble_eq_true rfl) dX7_wishNow_8 ⟨Nat.le_refl _, Nat.le_refl _⟩) ?_
  rw [mBeg0_1 (show 1 ≠ 0 by decide)]
  refine aw_isub dX7_wishNow_11 ?_
  rw [show n - G 1 (23 * t + 0) = mMiss G t n from rfl]
  refine aw_istore_3 dX7_wishNow_12 ?_
  refine aw_iload_3 dX7_wishNow_13 ?_
  refine aw_if_le (tgt := 44) dX7_wishNow_14 (by decide) (fun c14 => ?_) (fun c14 => ?_)
  · refine aw_iload_3 dX7_wishNow_44 ?_
    refine aw_if_le (tgt := 54) dX7_wishNow_45 (by decide) (fun c45 => ?_) (fun c45 => absurd c14 c45)
    exact aw_return rfl dX7_wishNow_54 ⟨Nat.zero_le _, Nat.zero_le _⟩ rfl rfl (by unfold mWish; first | (rw [if_pos c14]; done) | (rw [if_neg c14, hmm.out, if_pos c22, zput_zput]; done) | (rw [if_neg c14, hmm.out, if_neg c22, zput_zput]; rfl)) rfl
  · refine aw_aload_0 dX7_wishNow_17 ?_
    refine aw_iload_1 dX7_wishNow_18 ?_
    refine aw_run (zRun_V (c_X7_isMade (t := t) hM zVw.put ht) gX7_wishNow_X7_isMade q_X7_isMade rfl (by decide) rfl ms0 rfl rfl (Nat.le_of_ble_eq_true rfl) dX7_wishNow_19 ⟨Nat.le_refl _, Nat.le_refl _⟩) ?_
    rw [mBeg0_1 (show 1 ≠ 0 by decide)]
    obtain ⟨mm, hmm⟩ : ∃ mm, zBox (mMade (G 1) t = mm) := ⟨_, zBox.mk rfl⟩
    rw [hmm.out]
    refine aw_if_eq (tgt := 44) dX7_wishNow_22 (by decide) (fun c22 => ?_) (fun c22 => ?_)
    · refine aw_iload_3 dX7_wishNow_44 ?_
      refine aw_if_le (tgt := 54) dX7_wishNow_45 (by decide) (fun c45 => absurd c45 c14) (fun c45 => ?_)
      refine aw_aload_0 dX7_wishNow_48 ?_
      refine aw_iload_1 dX7_wishNow_49 ?_
      refine aw_iload_3 dX7_wishNow_50 ?_
      refine aw_runv (zRun_V (c_X7_gatherNow (t := t) hM zVw.put ht (by unfold mBeg0; rw [zup_eq]; exact Or.inl rfl)) gX7_wishNow_X7_gatherNow q_X7_gatherNow rfl (by decide) rfl ms0 rfl rfl (Nat.le_of_ble_eq_true rfl) dX7_wishNow_51 ⟨Nat.le_refl _, Nat.le_refl _⟩) ?_
      exact aw_return rfl dX7_wishNow_54 ⟨Nat.zero_le _, Nat.zero_le _⟩ rfl rfl (by unfold mWish; first | (rw [if_pos c14]; done) | (rw [if_neg c14, hmm.out, if_pos c22, zput_zput]; done) | (rw [if_neg c14, hmm.out, if_neg c22, zput_zput]; rfl)) rfl
    · have hm0 : ¬ mMade (G 1) t = 0 := by rw [hmm.out]; exact c22
      have hg := hw c14 hm0
      clear hm0
      refine aw_aload_0 dX7_wishNow_25 ?_
      refine aw_iload_1 dX7_wishNow_26 ?_
      refine aw_aload_0 dX7_wishNow_27 ?_
      refine aw_iload_1 dX7_wishNow_28 ?_
      refine aw_iload_3 dX7_wishNow_29 ?_
      have hm0 : ¬ mMade (G 1) t = 0 := by rw [hmm.out]; exact c22
      refine aw_run (zRun_V (c_X7_batchesFor (t := t) hM zVw.put ht (mMade_y (w := G 1) (fun _ _ _ _ _ => rfl) ht hm0)) gX7_wishNow_X7_batchesFor q_X7_batchesFor rfl (by decide) rfl ms0 rfl rfl (Nat.le_of_ble_eq_true rfl) dX7_wishNow_30 ⟨Nat.le_refl _, Nat.le_refl _⟩) ?_
      try rw [mBeg0_1 (show 1 ≠ 0 by decide)]
      refine aw_iconst (v := 0) dX7_wishNow_33 (by decide) ?_
      refine aw_runv (zRun_V (c_X7_begin (d := 0) hM zVw.put (by decide) (by unfold mBeg0; rw [zup_eq]; rfl) (by unfold mBeg0; rw [zup_eq]; exact Or.inl rfl)) gX7_wishNow_X7_begin q_X7_begin rfl (by decide) rfl ms0 rfl rfl (Nat.le_of_ble_eq_true rfl) dX7_wishNow_34 ⟨Nat.le_refl _, Nat.le_refl _⟩) ?_
      rw [zput_zput, show mBegin (mBeg0 G) 0 (nI t) ((mMiss G t n + G 1 (23 * t + 7) - 1) / G 1 (23 * t + 7)) 0 = mWishB G t n from rfl]
      refine aw_aload_0 dX7_wishNow_37 ?_
      refine aw_runv (zRun_V (c_X7_makeBegun (N := ν (mWishB G t n)) hM zVw.put hg.2 hg.1) gX7_wishNow_X7_makeBegun q_X7_makeBegun rfl (by decide) rfl ms0 rfl rfl (Nat.le_of_ble_eq_true rfl) dX7_wishNow_38 ⟨Nat.le_refl _, Nat.le_refl _⟩) ?_
      refine aw_goto (tgt := 54) dX7_wishNow_41 (by decide) ?_
      exact aw_return rfl dX7_wishNow_54 ⟨Nat.zero_le _, Nat.zero_le _⟩ rfl rfl (by unfold mWish; first | (rw [if_pos c14]; done) | (rw [if_neg c14, hmm.out, if_pos c22, zput_zput]; done) | (rw [if_neg c14, hmm.out, if_neg c22, zput_zput]; rfl)) rfl
