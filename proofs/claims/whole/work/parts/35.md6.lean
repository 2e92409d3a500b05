/-! ===== 35.md6: the model's wishes ===== -/
theorem mIn_t {a m : Nat} (ha : a ≤ m) (hm : m < 2 ^ 31) : ¬ mIn (nI a) 0 (nI m) = 0 := by
  unfold mIn
  rw [if_neg (nI_nn (by omega)), if_neg (by rw [nI_ltI hm (by omega)]; omega)]
  decide
theorem mIn_20 {a : Nat} (ha : a < 20) : ¬ mIn (nI a) 0 19 = 0 := mIn_t (m := 19) (by omega) (by decide)
def mTryV (V : Nat → Nat → Int32) (i : Nat) : Int32 := if V 0 16 = 0 then V 1 i - mRest V 1 i else -3

abbrev mX7_wish : ZM := (cX7_wish, RX7, wsX7_wish, 8, 0, 0, (some .int), 3, yX7_wish.name)
set_option maxHeartbeats 1000000 in
set_option maxRecDepth 100000 in
theorem c_X7_wish_b {sh : zSh} {F : Nat → Nat → Int32} {P : Nat → Nat → Option Nat} {μ : Nat} {G : Nat → Nat → Int32} {t n : Int32} (hM : zMd sh P μ) (hG : zVw F μ 13 G) (h : mIn t 0 19 = 0 ∨ mIn n 1 999 = 0) : zMet yX7_wish wsX7_wish (8) (0) (0) [.ref μ, .int t, .int n] sh F P (some (.int (-1))) sh F P := by
  refine zMet.of (by decide) rfl (Nat.le_of_ble_eq_true rfl) (by simp [Value.category]) ?_
  intro X ρ
  show AW mX7_wish X (zMQ mX7_wish X (some (.int (-1))) sh F P) 0 [some (.ref μ), some (.int t), some (.int n)] [] ρ sh F P 0 0
  obtain ⟨ms0, ⟨mp0, mp1, mp3, mp5, mp9, mp10, mp11, mp12, mp13, mp17, mp21, mp28⟩, ms1, ms2, ms3, ms4, ms5, ms6, ms7, ms8, ms9, ms10, ms11, ms12⟩ := id hM
  refine aw_cF (F' := zput F μ 13 G) (zput_view hG).symm ?_
  refine aw_iload_1 dX7_wish_0 ?_
  refine aw_run (zRun_S (c_X7_isThing ) (Or.inl gX7_wish_X7_isThing) q_X7_isThing (by decide) rfl rfl (Nat.le_of_ble_eq_true rfl) dX7_wish_1 ⟨Nat.le_refl _, Nat.le_refl _⟩) ?_
  refine aw_if_eq (tgt := 18) dX7_wish_4 (by decide) (fun c4 => ?_) (fun c4 => ?_)
  · refine aw_iconst (v := (-1)) dX7_wish_18 (by decide) ?_
    exact aw_ireturn rfl dX7_wish_19 ⟨Nat.zero_le _, Nat.zero_le _⟩ (by first | rfl | simp [c4]) rfl (zput_view hG) rfl
  · refine aw_iload_2 dX7_wish_7 ?_
    refine aw_iconst (v := 1) dX7_wish_8 (by decide) ?_
    refine aw_sipush (v := 999) dX7_wish_9 (by decide) ?_
    refine aw_run (zRun_S (c_X7_isIn ) (Or.inl gX7_wish_X7_isIn) q_X7_isIn (by decide) rfl rfl (Nat.le_of_ble_eq_true rfl) dX7_wish_12 ⟨Nat.le_refl _, Nat.le_refl _⟩) ?_
    refine aw_if_ne (tgt := 20) dX7_wish_15 (by decide) (fun c15 => ?_) (fun c15 => ?_)
    · exact absurd h (by simp [c4, c15])
    · refine aw_iconst (v := (-1)) dX7_wish_18 (by decide) ?_
      exact aw_ireturn rfl dX7_wish_19 ⟨Nat.zero_le _, Nat.zero_le _⟩ (by first | rfl | simp [c4, c15]) rfl (zput_view hG) rfl

set_option maxHeartbeats 1000000 in
set_option maxRecDepth 100000 in
theorem c_X7_wish_f {sh : zSh} {F : Nat → Nat → Int32} {P : Nat → Nat → Option Nat} {μ : Nat} {G : Nat → Nat → Int32} {ν : (Nat → Nat → Int32) → Nat} {t p : Nat} {n : Int32} {V : Nat → Nat → Int32} (hM : zMd sh P μ) (hG : zVw F μ 13 G) (ht : t < 20) (hn : ¬ mIn n 1 999 = 0) (hw : mWishH ν (mHold G) t n) (eV : zBox (mWish ν (mHold G) t n = V)) (h : ¬ V 0 16 = 0) : zMet yX7_wish wsX7_wish (8) (0) (0) [.ref μ, .int (nI t), .int n] sh F P (some (.int (-3))) sh (zput F μ 13 (mRest V)) P := by
  refine zMet.of (by decide) rfl (Nat.le_of_ble_eq_true rfl) (by simp [Value.category]) ?_
  intro X ρ
  show AW mX7_wish X (zMQ mX7_wish X (some (.int (-3))) sh (zput F μ 13 (mRest V)) P) 0 [some (.ref μ), some (.int (nI t)), some (.int n)] [] ρ sh F P 0 0
  obtain ⟨ms0, ⟨mp0, mp1, mp3, mp5, mp9, mp10, mp11, mp12, mp13, mp17, mp21, mp28⟩, ms1, ms2, ms3, ms4, ms5, ms6, ms7, ms8, ms9, ms10, ms11, ms12⟩ := id hM
  refine aw_cF (F' := zput F μ 13 G) (zput_view hG).symm ?_
  refine aw_iload_1 dX7_wish_0 ?_
  refine aw_run (zRun_S (c_X7_isThing ) (Or.inl gX7_wish_X7_isThing) q_X7_isThing (by decide) rfl rfl (Nat.le_of_ble_eq_true rfl) dX7_wish_1 ⟨Nat.le_refl _, Nat.le_refl _⟩) ?_
  refine aw_if_eq (tgt := 18) dX7_wish_4 (by decide) (fun c4 => absurd c4 (mIn_20 ht)) (fun c4 => ?_)
  refine aw_iload_2 dX7_wish_7 ?_
  refine aw_iconst (v := 1) dX7_wish_8 (by decide) ?_
  refine aw_sipush (v := 999) dX7_wish_9 (by decide) ?_
  refine aw_run (zRun_S (c_X7_isIn ) (Or.inl gX7_wish_X7_isIn) q_X7_isIn (by decide) rfl rfl (Nat.le_of_ble_eq_true rfl) dX7_wish_12 ⟨Nat.le_refl _, Nat.le_refl _⟩) ?_
  refine aw_if_ne (tgt := 20) dX7_wish_15 (by decide) (fun c15 => ?_) (fun c15 => absurd c15 hn)
  refine aw_aload_0 dX7_wish_20 ?_
  refine aw_runv (zRun_V (c_X7_hold hM zVw.put) gX7_wish_X7_hold q_X7_hold rfl (by decide) rfl ms0 rfl rfl (Nat.le_of_ble_eq_true rfl) dX7_wish_21 ⟨Nat.le_refl _, Nat.le_refl _⟩) ?_
  rw [zput_zput]
  refine aw_aload_0 dX7_wish_24 ?_
  refine aw_iload_1 dX7_wish_25 ?_
  refine aw_iload_2 dX7_wish_26 ?_
  refine aw_runv (zRun_V (c_X7_wishNow (ν := ν) (t := t) hM zVw.put ht hw) gX7_wish_X7_wishNow q_X7_wishNow rfl (by decide) rfl ms0 rfl rfl (Nat.le_of_ble_eq_true rfl) dX7_wish_27 ⟨Nat.le_refl _, Nat.le_refl _⟩) ?_
  rw [zput_zput, eV.out]
  refine aw_aload_0 dX7_wish_30 ?_
  refine aw_run (zRun_V (c_X7_endMaking_f hM zVw.put h) gX7_wish_X7_endMaking q_X7_endMaking rfl (by decide) rfl ms0 rfl rfl (Nat.le_of_ble_eq_true rfl) dX7_wish_31 ⟨Nat.le_refl _, Nat.le_refl _⟩) ?_
  exact aw_ireturn rfl dX7_wish_34 ⟨Nat.zero_le _, Nat.zero_le _⟩ rfl rfl (by rw [zput_zput]) rfl

set_option maxHeartbeats 1000000 in
set_option maxRecDepth 100000 in
theorem c_X7_wish_o {sh : zSh} {F : Nat → Nat → Int32} {P : Nat → Nat → Option Nat} {μ : Nat} {G : Nat → Nat → Int32} {ν : (Nat → Nat → Int32) → Nat} {t p : Nat} {n : Int32} {V : Nat → Nat → Int32} (hM : zMd sh P μ) (hG : zVw F μ 13 G) (ht : t < 20) (hn : ¬ mIn n 1 999 = 0) (hw : mWishH ν (mHold G) t n) (eV : zBox (mWish ν (mHold G) t n = V)) (h : V 0 16 = 0) (hp : p ≤ 8) (h2 : V 0 2 = nI p) : zMet yX7_wish wsX7_wish (8) (0) (0) [.ref μ, .int (nI t), .int n] sh F P (some (.int (V 1 460 - V 10 460))) sh (zput F μ 13 (mDone V p)) P := by
  refine zMet.of (by decide) rfl (Nat.le_of_ble_eq_true rfl) (by simp [Value.category]) ?_
  intro X ρ
  show AW mX7_wish X (zMQ mX7_wish X (some (.int (V 1 460 - V 10 460))) sh (zput F μ 13 (mDone V p)) P) 0 [some (.ref μ), some (.int (nI t)), some (.int n)] [] ρ sh F P 0 0
  obtain ⟨ms0, ⟨mp0, mp1, mp3, mp5, mp9, mp10, mp11, mp12, mp13, mp17, mp21, mp28⟩, ms1, ms2, ms3, ms4, ms5, ms6, ms7, ms8, ms9, ms10, ms11, ms12⟩ := id hM
  refine aw_cF (F' := zput F μ 13 G) (zput_view hG).symm ?_
  refine aw_iload_1 dX7_wish_0 ?_
  refine aw_run (zRun_S (c_X7_isThing ) (Or.inl gX7_wish_X7_isThing) q_X7_isThing (by decide) rfl rfl (Nat.le_of_ble_eq_true rfl) dX7_wish_1 ⟨Nat.le_refl _, Nat.le_refl _⟩) ?_
  refine aw_if_eq (tgt := 18) dX7_wish_4 (by decide) (fun c4 => absurd c4 (mIn_20 ht)) (fun c4 => ?_)
  refine aw_iload_2 dX7_wish_7 ?_
  refine aw_iconst (v := 1) dX7_wish_8 (by decide) ?_
  refine aw_sipush (v := 999) dX7_wish_9 (by decide) ?_
  refine aw_run (zRun_S (c_X7_isIn ) (Or.inl gX7_wish_X7_isIn) q_X7_isIn (by decide) rfl rfl (Nat.le_of_ble_eq_true rfl) dX7_wish_12 ⟨Nat.le_refl _, Nat.le_refl _⟩) ?_
  refine aw_if_ne (tgt := 20) dX7_wish_15 (by decide) (fun c15 => ?_) (fun c15 => absurd c15 hn)
  refine aw_aload_0 dX7_wish_20 ?_
  refine aw_runv (zRun_V (c_X7_hold hM zVw.put) gX7_wish_X7_hold q_X7_hold rfl (by decide) rfl ms0 rfl rfl (Nat.le_of_ble_eq_true rfl) dX7_wish_21 ⟨Nat.le_refl _, Nat.le_refl _⟩) ?_
  rw [zput_zput]
  refine aw_aload_0 dX7_wish_24 ?_
  refine aw_iload_1 dX7_wish_25 ?_
  refine aw_iload_2 dX7_wish_26 ?_
  refine aw_runv (zRun_V (c_X7_wishNow (ν := ν) (t := t) hM zVw.put ht hw) gX7_wish_X7_wishNow q_X7_wishNow rfl (by decide) rfl ms0 rfl rfl (Nat.le_of_ble_eq_true rfl) dX7_wish_27 ⟨Nat.le_refl _, Nat.le_refl _⟩) ?_
  rw [zput_zput, eV.out]
  refine aw_aload_0 dX7_wish_30 ?_
  refine aw_run (zRun_V (c_X7_endMaking_o hM zVw.put h hp h2) gX7_wish_X7_endMaking q_X7_endMaking rfl (by decide) rfl ms0 rfl rfl (Nat.le_of_ble_eq_true rfl) dX7_wish_31 ⟨Nat.le_refl _, Nat.le_refl _⟩) ?_
  exact aw_ireturn rfl dX7_wish_34 ⟨Nat.zero_le _, Nat.zero_le _⟩ rfl rfl (by rw [zput_zput]) rfl

abbrev mX7_make : ZM := (cX7_make, RX7, wsX7_make, 7, 0, 0, (some .int), 3, yX7_make.name)
set_option maxHeartbeats 1000000 in
set_option maxRecDepth 100000 in
theorem c_X7_make_b {sh : zSh} {F : Nat → Nat → Int32} {P : Nat → Nat → Option Nat} {μ : Nat} {G : Nat → Nat → Int32} {t n : Int32} (hM : zMd sh P μ) (hG : zVw F μ 13 G) (h : mIn t 0 19 = 0 ∨ mIn n 1 99 = 0) : zMet yX7_make wsX7_make (7) (0) (0) [.ref μ, .int t, .int n] sh F P (some (.int (-1))) sh F P := by
  refine zMet.of (by decide) rfl (Nat.le_of_ble_eq_true rfl) (by simp [Value.category]) ?_
  intro X ρ
  show AW mX7_make X (zMQ mX7_make X (some (.int (-1))) sh F P) 0 [some (.ref μ), some (.int t), some (.int n)] [] ρ sh F P 0 0
  obtain ⟨ms0, ⟨mp0, mp1, mp3, mp5, mp9, mp10, mp11, mp12, mp13, mp17, mp21, mp28⟩, ms1, ms2, ms3, ms4, ms5, ms6, ms7, ms8, ms9, ms10, ms11, ms12⟩ := id hM
  refine aw_cF (F' := zput F μ 13 G) (zput_view hG).symm ?_
  refine aw_iload_1 dX7_make_0 ?_
  refine aw_run (zRun_S (c_X7_isThing ) (Or.inl gX7_make_X7_isThing) q_X7_isThing (by decide) rfl rfl (Nat.le_of_ble_eq_true rfl) dX7_make_1 ⟨Nat.le_refl _, Nat.le_refl _⟩) ?_
  refine aw_if_eq (tgt := 17) dX7_make_4 (by decide) (fun c4 => ?_) (fun c4 => ?_)
  · refine aw_iconst (v := (-1)) dX7_make_17 (by decide) ?_
    exact aw_ireturn rfl dX7_make_18 ⟨Nat.zero_le _, Nat.zero_le _⟩ (by first | rfl | simp [c4]) rfl (zput_view hG) rfl
  · refine aw_iload_2 dX7_make_7 ?_
    refine aw_iconst (v := 1) dX7_make_8 (by decide) ?_
    refine aw_bipush (v := 99) dX7_make_9 (by decide) ?_
    refine aw_run (zRun_S (c_X7_isIn ) (Or.inl gX7_make_X7_isIn) q_X7_isIn (by decide) rfl rfl (Nat.le_of_ble_eq_true rfl) dX7_make_11 ⟨Nat.le_refl _, Nat.le_refl _⟩) ?_
    refine aw_if_ne (tgt := 19) dX7_make_14 (by decide) (fun c14 => ?_) (fun c14 => ?_)
    · exact absurd h (by simp [c4, c14])
    · refine aw_iconst (v := (-1)) dX7_make_17 (by decide) ?_
      exact aw_ireturn rfl dX7_make_18 ⟨Nat.zero_le _, Nat.zero_le _⟩ (by first | rfl | simp [c4, c14]) rfl (zput_view hG) rfl

set_option maxHeartbeats 1000000 in
set_option maxRecDepth 100000 in
theorem c_X7_make_n {sh : zSh} {F : Nat → Nat → Int32} {P : Nat → Nat → Option Nat} {μ : Nat} {G : Nat → Nat → Int32} {t : Nat} {n : Int32} (hM : zMd sh P μ) (hG : zVw F μ 13 G) (ht : t < 20) (hn : ¬ mIn n 1 99 = 0) (h : mMade (G 1) t = 0) : zMet yX7_make wsX7_make (7) (0) (0) [.ref μ, .int (nI t), .int n] sh F P (some (.int (-2))) sh F P := by
  refine zMet.of (by decide) rfl (Nat.le_of_ble_eq_true rfl) (by simp [Value.category]) ?_
  intro X ρ
  show AW mX7_make X (zMQ mX7_make X (some (.int (-2))) sh F P) 0 [some (.ref μ), some (.int (nI t)), some (.int n)] [] ρ sh F P 0 0
  obtain ⟨ms0, ⟨mp0, mp1, mp3, mp5, mp9, mp10, mp11, mp12, mp13, mp17, mp21, mp28⟩, ms1, ms2, ms3, ms4, ms5, ms6, ms7, ms8, ms9, ms10, ms11, ms12⟩ := id hM
  refine aw_cF (F' := zput F μ 13 G) (zput_view hG).symm ?_
  refine aw_iload_1 dX7_make_0 ?_
  refine aw_run (zRun_S (c_X7_isThing ) (Or.inl gX7_make_X7_isThing) q_X7_isThing (by decide) rfl rfl (Nat.le_of_ble_eq_true rfl) dX7_make_1 ⟨Nat.le_refl _, Nat.le_refl _⟩) ?_
  refine aw_if_eq (tgt := 17) dX7_make_4 (by decide) (fun c4 => absurd c4 (mIn_20 ht)) (fun c4 => ?_)
  refine aw_iload_2 dX7_make_7 ?_
  refine aw_iconst (v := 1) dX7_make_8 (by decide) ?_
  refine aw_bipush (v := 99) dX7_make_9 (by decide) ?_
  refine aw_run (zRun_S (c_X7_isIn ) (Or.inl gX7_make_X7_isIn) q_X7_isIn (by decide) rfl rfl (Nat.le_of_ble_eq_true rfl) dX7_make_11 ⟨Nat.le_refl _, Nat.le_refl _⟩) ?_
  refine aw_if_ne (tgt := 19) dX7_make_14 (by decide) (fun c14 => ?_) (fun c14 => absurd c14 hn)
  refine aw_aload_0 dX7_make_19 ?_
  refine aw_iload_1 dX7_make_20 ?_
  refine aw_run (zRun_V (c_X7_isMade (t := t) hM zVw.put ht) gX7_make_X7_isMade q_X7_isMade rfl (by decide) rfl ms0 rfl rfl (Nat.le_of_ble_eq_true rfl) dX7_make_21 ⟨Nat.le_refl _, Nat.le_refl _⟩) ?_
  refine aw_if_ne (tgt := 30) dX7_make_24 (by decide) (fun c24 => ?_) (fun c24 => ?_)
  · exact absurd h c24
  · refine aw_bipush (v := (-2)) dX7_make_27 (by decide) ?_
    exact aw_ireturn rfl dX7_make_29 ⟨Nat.zero_le _, Nat.zero_le _⟩ (by first | rfl | simp [c4, c14, c24]) rfl (zput_view hG) rfl

set_option maxHeartbeats 1000000 in
set_option maxRecDepth 100000 in
theorem c_X7_make_f {sh : zSh} {F : Nat → Nat → Int32} {P : Nat → Nat → Option Nat} {μ : Nat} {G : Nat → Nat → Int32} {ν : (Nat → Nat → Int32) → Nat} {t p : Nat} {n : Int32} {V : Nat → Nat → Int32} (hM : zMd sh P μ) (hG : zVw F μ 13 G) (ht : t < 20) (hn : ¬ mIn n 1 99 = 0) (hm : ¬ mMade (G 1) t = 0) (hg : mGood ν (mBegin (mBeg0 (mHold G)) 0 (nI t) n 0)) (eV : zBox (mFin ν (mBegin (mBeg0 (mHold G)) 0 (nI t) n 0) = V)) (h : ¬ V 0 16 = 0) : zMet yX7_make wsX7_make (7) (0) (0) [.ref μ, .int (nI t), .int n] sh F P (some (.int (-3))) sh (zput F μ 13 (mRest V)) P := by
  refine zMet.of (by decide) rfl (Nat.le_of_ble_eq_true rfl) (by simp [Value.category]) ?_
  intro X ρ
  show AW mX7_make X (zMQ mX7_make X (some (.int (-3))) sh (zput F μ 13 (mRest V)) P) 0 [some (.ref μ), some (.int (nI t)), some (.int n)] [] ρ sh F P 0 0
  obtain ⟨ms0, ⟨mp0, mp1, mp3, mp5, mp9, mp10, mp11, mp12, mp13, mp17, mp21, mp28⟩, ms1, ms2, ms3, ms4, ms5, ms6, ms7, ms8, ms9, ms10, ms11, ms12⟩ := id hM
  refine aw_cF (F' := zput F μ 13 G) (zput_view hG).symm ?_
  refine aw_iload_1 dX7_make_0 ?_
  refine aw_run (zRun_S (c_X7_isThing ) (Or.inl gX7_make_X7_isThing) q_X7_isThing (by decide) rfl rfl (Nat.le_of_ble_eq_true rfl) dX7_make_1 ⟨Nat.le_refl _, Nat.le_refl _⟩) ?_
  refine aw_if_eq (tgt := 17) dX7_make_4 (by decide) (fun c4 => absurd c4 (mIn_20 ht)) (fun c4 => ?_)
  refine aw_iload_2 dX7_make_7 ?_
  refine aw_iconst (v := 1) dX7_make_8 (by decide) ?_
  refine aw_bipush (v := 99) dX7_make_9 (by decide) ?_
  refine aw_run (zRun_S (c_X7_isIn ) (Or.inl gX7_make_X7_isIn) q_X7_isIn (by decide) rfl rfl (Nat.le_of_ble_eq_true rfl) dX7_make_11 ⟨Nat.le_refl _, Nat.le_refl _⟩) ?_
  refine aw_if_ne (tgt := 19) dX7_make_14 (by decide) (fun c14 => ?_) (fun c14 => absurd c14 hn)
  refine aw_aload_0 dX7_make_19 ?_
  refine aw_iload_1 dX7_make_20 ?_
  refine aw_run (zRun_V (c_X7_isMade (t := t) hM zVw.put ht) gX7_make_X7_isMade q_X7_isMade rfl (by decide) rfl ms0 rfl rfl (Nat.le_of_ble_eq_true rfl) dX7_make_21 ⟨Nat.le_refl _, Nat.le_refl _⟩) ?_
  refine aw_if_ne (tgt := 30) dX7_make_24 (by decide) (fun c24 => ?_) (fun c24 => absurd c24 hm)
  refine aw_aload_0 dX7_make_30 ?_
  refine aw_runv (zRun_V (c_X7_hold hM zVw.put) gX7_make_X7_hold q_X7_hold rfl (by decide) rfl ms0 rfl rfl (Nat.le_of_ble_eq_true rfl) dX7_make_31 ⟨Nat.le_refl _, Nat.le_refl _⟩) ?_
  rw [zput_zput]
  refine aw_aload_0 dX7_make_34 ?_
  refine aw_runv (zRun_V (c_X7_beginMaking hM zVw.put) gX7_make_X7_beginMaking q_X7_beginMaking rfl (by decide) rfl ms0 rfl rfl (Nat.le_of_ble_eq_true rfl) dX7_make_35 ⟨Nat.le_refl _, Nat.le_refl _⟩) ?_
  rw [zput_zput]
  refine aw_aload_0 dX7_make_38 ?_
  refine aw_iload_1 dX7_make_39 ?_
  refine aw_iload_2 dX7_make_40 ?_
  refine aw_iconst (v := 0) dX7_make_41 (by decide) ?_
  refine aw_runv (zRun_V (c_X7_begin (d := 0) hM zVw.put (by decide) (by unfold mBeg0; rw [zup_eq]; rfl) (by unfold mBeg0; rw [zup_eq]; exact Or.inl rfl)) gX7_make_X7_begin q_X7_begin rfl (by decide) rfl ms0 rfl rfl (Nat.le_of_ble_eq_true rfl) dX7_make_42 ⟨Nat.le_refl _, Nat.le_refl _⟩) ?_
  rw [zput_zput]
  refine aw_aload_0 dX7_make_45 ?_
  refine aw_runv (zRun_V (c_X7_makeBegun (N := ν (mBegin (mBeg0 (mHold G)) 0 (nI t) n 0)) hM zVw.put hg.2 hg.1) gX7_make_X7_makeBegun q_X7_makeBegun rfl (by decide) rfl ms0 rfl rfl (Nat.le_of_ble_eq_true rfl) dX7_make_46 ⟨Nat.le_refl _, Nat.le_refl _⟩) ?_
  rw [zput_zput, show it mLoop (ν (mBegin (mBeg0 (mHold G)) 0 (nI t) n 0)) (mBegin (mBeg0 (mHold G)) 0 (nI t) n 0) = V from eV.out]
  refine aw_aload_0 dX7_make_49 ?_
  refine aw_run (zRun_V (c_X7_endMaking_f hM zVw.put h) gX7_make_X7_endMaking q_X7_endMaking rfl (by decide) rfl ms0 rfl rfl (Nat.le_of_ble_eq_true rfl) dX7_make_50 ⟨Nat.le_refl _, Nat.le_refl _⟩) ?_
  exact aw_ireturn rfl dX7_make_53 ⟨Nat.zero_le _, Nat.zero_le _⟩ rfl rfl (by rw [zput_zput]) rfl

set_option maxHeartbeats 1000000 in
set_option maxRecDepth 100000 in
theorem c_X7_make_o {sh : zSh} {F : Nat → Nat → Int32} {P : Nat → Nat → Option Nat} {μ : Nat} {G : Nat → Nat → Int32} {ν : (Nat → Nat → Int32) → Nat} {t p : Nat} {n : Int32} {V : Nat → Nat → Int32} (hM : zMd sh P μ) (hG : zVw F μ 13 G) (ht : t < 20) (hn : ¬ mIn n 1 99 = 0) (hm : ¬ mMade (G 1) t = 0) (hg : mGood ν (mBegin (mBeg0 (mHold G)) 0 (nI t) n 0)) (eV : zBox (mFin ν (mBegin (mBeg0 (mHold G)) 0 (nI t) n 0) = V)) (h : V 0 16 = 0) (hp : p ≤ 8) (h2 : V 0 2 = nI p) : zMet yX7_make wsX7_make (7) (0) (0) [.ref μ, .int (nI t), .int n] sh F P (some (.int (V 1 460 - V 10 460))) sh (zput F μ 13 (mDone V p)) P := by
  refine zMet.of (by decide) rfl (Nat.le_of_ble_eq_true rfl) (by simp [Value.category]) ?_
  intro X ρ
  show AW mX7_make X (zMQ mX7_make X (some (.int (V 1 460 - V 10 460))) sh (zput F μ 13 (mDone V p)) P) 0 [some (.ref μ), some (.int (nI t)), some (.int n)] [] ρ sh F P 0 0
  obtain ⟨ms0, ⟨mp0, mp1, mp3, mp5, mp9, mp10, mp11, mp12, mp13, mp17, mp21, mp28⟩, ms1, ms2, ms3, ms4, ms5, ms6, ms7, ms8, ms9, ms10, ms11, ms12⟩ := id hM
  refine aw_cF (F' := zput F μ 13 G) (zput_view hG).symm ?_
  refine aw_iload_1 dX7_make_0 ?_
  refine aw_run (zRun_S (c_X7_isThing ) (Or.inl gX7_make_X7_isThing) q_X7_isThing (by decide) rfl rfl (Nat.le_of_ble_eq_true rfl) dX7_make_1 ⟨Nat.le_refl _, Nat.le_refl _⟩) ?_
  refine aw_if_eq (tgt := 17) dX7_make_4 (by decide) (fun c4 => absurd c4 (mIn_20 ht)) (fun c4 => ?_)
  refine aw_iload_2 dX7_make_7 ?_
  refine aw_iconst (v := 1) dX7_make_8 (by decide) ?_
  refine aw_bipush (v := 99) dX7_make_9 (by decide) ?_
  refine aw_run (zRun_S (c_X7_isIn ) (Or.inl gX7_make_X7_isIn) q_X7_isIn (by decide) rfl rfl (Nat.le_of_ble_eq_true rfl) dX7_make_11 ⟨Nat.le_refl _, Nat.le_refl _⟩) ?_
  refine aw_if_ne (tgt := 19) dX7_make_14 (by decide) (fun c14 => ?_) (fun c14 => absurd c14 hn)
  refine aw_aload_0 dX7_make_19 ?_
  refine aw_iload_1 dX7_make_20 ?_
  refine aw_run (zRun_V (c_X7_isMade (t := t) hM zVw.put ht) gX7_make_X7_isMade q_X7_isMade rfl (by decide) rfl ms0 rfl rfl (Nat.le_of_ble_eq_true rfl) dX7_make_21 ⟨Nat.le_refl _, Nat.le_refl _⟩) ?_
  refine aw_if_ne (tgt := 30) dX7_make_24 (by decide) (fun c24 => ?_) (fun c24 => absurd c24 hm)
  refine aw_aload_0 dX7_make_30 ?_
  refine aw_runv (zRun_V (c_X7_hold hM zVw.put) gX7_make_X7_hold q_X7_hold rfl (by decide) rfl ms0 rfl rfl (Nat.le_of_ble_eq_true rfl) dX7_make_31 ⟨Nat.le_refl _, Nat.le_refl _⟩) ?_
  rw [zput_zput]
  refine aw_aload_0 dX7_make_34 ?_
  refine aw_runv (zRun_V (c_X7_beginMaking hM zVw.put) gX7_make_X7_beginMaking q_X7_beginMaking rfl (by decide) rfl ms0 rfl rfl (Nat.le_of_ble_eq_true rfl) dX7_make_35 ⟨Nat.le_refl _, Nat.le_refl _⟩) ?_
  rw [zput_zput]
  refine aw_aload_0 dX7_make_38 ?_
  refine aw_iload_1 dX7_make_39 ?_
  refine aw_iload_2 dX7_make_40 ?_
  refine aw_iconst (v := 0) dX7_make_41 (by decide) ?_
  refine aw_runv (zRun_V (c_X7_begin (d := 0) hM zVw.put (by decide) (by unfold mBeg0; rw [zup_eq]; rfl) (by unfold mBeg0; rw [zup_eq]; exact Or.inl rfl)) gX7_make_X7_begin q_X7_begin rfl (by decide) rfl ms0 rfl rfl (Nat.le_of_ble_eq_true rfl) dX7_make_42 ⟨Nat.le_refl _, Nat.le_refl _⟩) ?_
  rw [zput_zput]
  refine aw_aload_0 dX7_make_45 ?_
  refine aw_runv (zRun_V (c_X7_makeBegun (N := ν (mBegin (mBeg0 (mHold G)) 0 (nI t) n 0)) hM zVw.put hg.2 hg.1) gX7_make_X7_makeBegun q_X7_makeBegun rfl (by decide) rfl ms0 rfl rfl (Nat.le_of_ble_eq_true rfl) dX7_make_46 ⟨Nat.le_refl _, Nat.le_refl _⟩) ?_
  rw [zput_zput, show it mLoop (ν (mBegin (mBeg0 (mHold G)) 0 (nI t) n 0)) (mBegin (mBeg0 (mHold G)) 0 (nI t) n 0) = V from eV.out]
  refine aw_aload_0 dX7_make_49 ?_
  refine aw_run (zRun_V (c_X7_endMaking_o hM zVw.put h hp h2) gX7_make_X7_endMaking q_X7_endMaking rfl (by decide) rfl ms0 rfl rfl (Nat.le_of_ble_eq_true rfl) dX7_make_50 ⟨Nat.le_refl _, Nat.le_refl _⟩) ?_
  exact aw_ireturn rfl dX7_make_53 ⟨Nat.zero_le _, Nat.zero_le _⟩ rfl rfl (by rw [zput_zput]) rfl

abbrev mX7_tryWish : ZM := (cX7_tryWish, RX7, wsX7_tryWish, 8, 0, 0, (some .int), 6, yX7_tryWish.name)
set_option maxHeartbeats 1000000 in
set_option maxRecDepth 100000 in
theorem c_X7_tryWish_n {sh : zSh} {F : Nat → Nat → Int32} {P : Nat → Nat → Option Nat} {μ : Nat} {G : Nat → Nat → Int32} {ν : (Nat → Nat → Int32) → Nat} {t : Nat} {n : Int32} {V : Nat → Nat → Int32} (hM : zMd sh P μ) (hG : zVw F μ 13 G) (ht : t < 20) (hw : mWishH ν G t n) (eV : zBox (mWish ν G t n = V)) : zMet yX7_tryWish wsX7_tryWish (8) (0) (0) [.ref μ, .int (nI t), .int n, .int (-9)] sh F P (some (.int (mTryV V 460))) sh (zput F μ 13 (mRest V)) P := by
  refine zMet.of (by decide) rfl (Nat.le_of_ble_eq_true rfl) (by simp [Value.category]) ?_
  intro X ρ
  show AW mX7_tryWish X (zMQ mX7_tryWish X (some (.int (mTryV V 460))) sh (zput F μ 13 (mRest V)) P) 0 [some (.ref μ), some (.int (nI t)), some (.int n), some (.int (-9)), none, none] [] ρ sh F P 0 0
  have hinX7 : ∀ w ∈ u_ws RX7 TX7 29, w ∈ wsX7_tryWish := by decide +kernel
  obtain ⟨ms0, ⟨mp0, mp1, mp3, mp5, mp9, mp10, mp11, mp12, mp13, mp17, mp21, mp28⟩, ms1, ms2, ms3, ms4, ms5, ms6, ms7, ms8, ms9, ms10, ms11, ms12⟩ := id hM
  refine aw_cF (F' := zput F μ 13 G) (zput_view hG).symm ?_
  refine aw_aload_0 dX7_tryWish_0 ?_
  refine aw_iload_1 dX7_tryWish_1 ?_
  refine aw_iload_2 dX7_tryWish_2 ?_
  refine aw_runv (zRun_V (c_X7_wishNow (ν := ν) (t := t) hM zVw.put ht hw) gX7_tryWish_X7_wishNow q_X7_wishNow rfl (by decide) rfl ms0 rfl rfl (Nat.le_of_ble_eq_true rfl) dX7_tryWish_3 ⟨Nat.le_refl _, Nat.le_refl _⟩) ?_
  rw [zput_zput, eV.out]
  refine aw_iload_3 dX7_tryWish_6 ?_
  refine aw_bipush (v := (-9)) dX7_tryWish_7 (by decide) ?_
  refine aw_icmp_ne (tgt := 23) dX7_tryWish_9 (by decide) (fun c9 => absurd c9 (fun h => h rfl)) (fun c9 => ?_)
  refine aw_aload_0 dX7_tryWish_12 ?_
  refine aw_getR fX7_0 (fun _ _ => rfl) mp0 hinX7 (by decide +kernel : Cond.fieldLink RX7 7 RX7 (TX7 0).2.1 (TX7 0).2.2.1 ∈ wsX7_tryWish) ms0 dX7_tryWish_13 ?_
  refine aw_sipush (v := 460) dX7_tryWish_16 (by decide) ?_
  refine aw_iaload (by first | exact ms1 | exact ms2 | exact ms3 | exact ms4 | exact ms5 | exact ms6 | exact ms7 | exact ms8 | exact ms9 | exact ms10 | exact ms11 | exact ms12) (show vp_in (nI 460) 462 from vp_in_nI (by decide) (by decide)) dX7_tryWish_19 ?_
  rw [show (460 : Int32).toNatClampNeg = 460 from by decide]
  try simp (disch := omega) only [zu_up, zup_in, zup_in0, zput_at, zput_a0, zput_zput, zup_eq, zup_ne, va_up_up, nI_clamp]
  refine aw_goto (tgt := 29) dX7_tryWish_20 (by decide) ?_
  refine aw_istore_4 dX7_tryWish_29 ?_
  refine aw_aload_0 dX7_tryWish_31 ?_
  refine aw_getZ fX7_16 hinX7 (by decide +kernel : Cond.fieldLink RX7 80 RX7 (TX7 16).2.1 (TX7 16).2.2.1 ∈ wsX7_tryWish) ms0 dX7_tryWish_32 ?_
  try simp (disch := omega) only [zu_up, zup_in, zup_in0, zput_at, zput_a0, zput_zput, zup_eq, zup_ne, va_up_up, nI_clamp]
  refine aw_istore_5 dX7_tryWish_35 ?_
  refine aw_aload_0 dX7_tryWish_37 ?_
  refine aw_runv (zRun_V (c_X7_restore hM zVw.put) gX7_tryWish_X7_restore q_X7_restore rfl (by decide) rfl ms0 rfl rfl (Nat.le_of_ble_eq_true rfl) dX7_tryWish_38 ⟨Nat.le_refl _, Nat.le_refl _⟩) ?_
  rw [zput_zput]
  refine aw_iload_5 dX7_tryWish_41 ?_
  refine aw_if_eq (tgt := 51) dX7_tryWish_43 (by decide) (fun c43 => ?_) (fun c43 => ?_)
  · refine aw_iload_4 dX7_tryWish_51 ?_
    refine aw_iload_3 dX7_tryWish_53 ?_
    refine aw_bipush (v := (-9)) dX7_tryWish_54 (by decide) ?_
    refine aw_icmp_ne (tgt := 70) dX7_tryWish_56 (by decide) (fun c56 => absurd c56 (fun h => h rfl)) (fun c56 => ?_)
    refine aw_aload_0 dX7_tryWish_59 ?_
    refine aw_getR fX7_0 (fun _ _ => rfl) mp0 hinX7 (by decide +kernel : Cond.fieldLink RX7 7 RX7 (TX7 0).2.1 (TX7 0).2.2.1 ∈ wsX7_tryWish) ms0 dX7_tryWish_60 ?_
    refine aw_sipush (v := 460) dX7_tryWish_63 (by decide) ?_
    refine aw_iaload (by first | exact ms1 | exact ms2 | exact ms3 | exact ms4 | exact ms5 | exact ms6 | exact ms7 | exact ms8 | exact ms9 | exact ms10 | exact ms11 | exact ms12) (show vp_in (nI 460) 462 from vp_in_nI (by decide) (by decide)) dX7_tryWish_66 ?_
    rw [show (460 : Int32).toNatClampNeg = 460 from by decide]
    try simp (disch := omega) only [zu_up, zup_in, zup_in0, zput_at, zput_a0, zput_zput, zup_eq, zup_ne, va_up_up, nI_clamp]
    refine aw_goto (tgt := 76) dX7_tryWish_67 (by decide) ?_
    refine aw_isub dX7_tryWish_76 ?_
    exact aw_ireturn rfl dX7_tryWish_77 ⟨Nat.zero_le _, Nat.zero_le _⟩ (by unfold mTryV; first | rw [if_pos c43] | rw [if_neg c43]) rfl rfl rfl
  · refine aw_bipush (v := (-3)) dX7_tryWish_46 (by decide) ?_
    refine aw_goto (tgt := 77) dX7_tryWish_48 (by decide) ?_
    exact aw_ireturn rfl dX7_tryWish_77 ⟨Nat.zero_le _, Nat.zero_le _⟩ (by unfold mTryV; first | rw [if_pos c43] | rw [if_neg c43]) rfl rfl rfl

theorem n9 {u : Nat} (h : u < 2 ^ 31) : ¬ nI u = -9 := by
  intro e
  exact nI_nn h (by rw [e]; decide)

set_option maxHeartbeats 1000000 in
set_option maxRecDepth 100000 in
theorem c_X7_tryWish_t {sh : zSh} {F : Nat → Nat → Int32} {P : Nat → Nat → Option Nat} {μ : Nat} {G : Nat → Nat → Int32} {ν : (Nat → Nat → Int32) → Nat} {t u : Nat} {n : Int32} {V : Nat → Nat → Int32} (hM : zMd sh P μ) (hG : zVw F μ 13 G) (ht : t < 20) (hw : mWishH ν G t n) (eV : zBox (mWish ν G t n = V)) (hu : u < 20) : zMet yX7_tryWish wsX7_tryWish (8) (0) (0) [.ref μ, .int (nI t), .int n, .int (nI u)] sh F P (some (.int (mTryV V (23 * u + 2)))) sh (zput F μ 13 (mRest V)) P := by
  refine zMet.of (by decide) rfl (Nat.le_of_ble_eq_true rfl) (by simp [Value.category]) ?_
  intro X ρ
  show AW mX7_tryWish X (zMQ mX7_tryWish X (some (.int (mTryV V (23 * u + 2)))) sh (zput F μ 13 (mRest V)) P) 0 [some (.ref μ), some (.int (nI t)), some (.int n), some (.int (nI u)), none, none] [] ρ sh F P 0 0
  have hinX7 : ∀ w ∈ u_ws RX7 TX7 29, w ∈ wsX7_tryWish := by decide +kernel
  obtain ⟨ms0, ⟨mp0, mp1, mp3, mp5, mp9, mp10, mp11, mp12, mp13, mp17, mp21, mp28⟩, ms1, ms2, ms3, ms4, ms5, ms6, ms7, ms8, ms9, ms10, ms11, ms12⟩ := id hM
  refine aw_cF (F' := zput F μ 13 G) (zput_view hG).symm ?_
  refine aw_aload_0 dX7_tryWish_0 ?_
  refine aw_iload_1 dX7_tryWish_1 ?_
  refine aw_iload_2 dX7_tryWish_2 ?_
  refine aw_runv (zRun_V (c_X7_wishNow (ν := ν) (t := t) hM zVw.put ht hw) gX7_tryWish_X7_wishNow q_X7_wishNow rfl (by decide) rfl ms0 rfl rfl (Nat.le_of_ble_eq_true rfl) dX7_tryWish_3 ⟨Nat.le_refl _, Nat.le_refl _⟩) ?_
  rw [zput_zput, eV.out]
  refine aw_iload_3 dX7_tryWish_6 ?_
  refine aw_bipush (v := (-9)) dX7_tryWish_7 (by decide) ?_
  refine aw_icmp_ne (tgt := 23) dX7_tryWish_9 (by decide) (fun c9 => ?_) (fun c9 => absurd c9 (n9 (by omega)))
  refine aw_aload_0 dX7_tryWish_23 ?_
  refine aw_iload_3 dX7_tryWish_24 ?_
  refine aw_iconst (v := 2) dX7_tryWish_25 (by decide) ?_
  refine aw_run (zRun_V (c_X7_of (t := u) (k := 2) hM zVw.put (by omega)) gX7_tryWish_X7_of q_X7_of rfl (by decide) rfl ms0 rfl rfl (Nat.le_of_ble_eq_true rfl) dX7_tryWish_26 ⟨Nat.le_refl _, Nat.le_refl _⟩) ?_
  refine aw_istore_4 dX7_tryWish_29 ?_
  refine aw_aload_0 dX7_tryWish_31 ?_
  refine aw_getZ fX7_16 hinX7 (by decide +kernel : Cond.fieldLink RX7 80 RX7 (TX7 16).2.1 (TX7 16).2.2.1 ∈ wsX7_tryWish) ms0 dX7_tryWish_32 ?_
  try simp (disch := omega) only [zu_up, zup_in, zup_in0, zput_at, zput_a0, zput_zput, zup_eq, zup_ne, va_up_up, nI_clamp]
  refine aw_istore_5 dX7_tryWish_35 ?_
  refine aw_aload_0 dX7_tryWish_37 ?_
  refine aw_runv (zRun_V (c_X7_restore hM zVw.put) gX7_tryWish_X7_restore q_X7_restore rfl (by decide) rfl ms0 rfl rfl (Nat.le_of_ble_eq_true rfl) dX7_tryWish_38 ⟨Nat.le_refl _, Nat.le_refl _⟩) ?_
  rw [zput_zput]
  refine aw_iload_5 dX7_tryWish_41 ?_
  refine aw_if_eq (tgt := 51) dX7_tryWish_43 (by decide) (fun c43 => ?_) (fun c43 => ?_)
  · refine aw_iload_4 dX7_tryWish_51 ?_
    refine aw_iload_3 dX7_tryWish_53 ?_
    refine aw_bipush (v := (-9)) dX7_tryWish_54 (by decide) ?_
    refine aw_icmp_ne (tgt := 70) dX7_tryWish_56 (by decide) (fun c56 => ?_) (fun c56 => absurd c56 (n9 (by omega)))
    refine aw_aload_0 dX7_tryWish_70 ?_
    refine aw_iload_3 dX7_tryWish_71 ?_
    refine aw_iconst (v := 2) dX7_tryWish_72 (by decide) ?_
    refine aw_run (zRun_V (c_X7_of (t := u) (k := 2) hM zVw.put (by omega)) gX7_tryWish_X7_of q_X7_of rfl (by decide) rfl ms0 rfl rfl (Nat.le_of_ble_eq_true rfl) dX7_tryWish_73 ⟨Nat.le_refl _, Nat.le_refl _⟩) ?_
    refine aw_isub dX7_tryWish_76 ?_
    exact aw_ireturn rfl dX7_tryWish_77 ⟨Nat.zero_le _, Nat.zero_le _⟩ (by unfold mTryV; first | rw [if_pos c43] | rw [if_neg c43]) rfl rfl rfl
  · refine aw_bipush (v := (-3)) dX7_tryWish_46 (by decide) ?_
    refine aw_goto (tgt := 77) dX7_tryWish_48 (by decide) ?_
    exact aw_ireturn rfl dX7_tryWish_77 ⟨Nat.zero_le _, Nat.zero_le _⟩ (by unfold mTryV; first | rw [if_pos c43] | rw [if_neg c43]) rfl rfl rfl
