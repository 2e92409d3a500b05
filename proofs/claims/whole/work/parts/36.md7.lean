/-! ===== 36.md7: gather, canHave, bestGift of the model ===== -/
def mTryM (ν : (Nat → Nat → Int32) → Nat) (G : Nat → Nat → Int32) (t : Nat) (n : Int32) : Nat → Nat → Int32 := mRest (mWish ν G t n)
def mTryN (ν : (Nat → Nat → Int32) → Nat) (G : Nat → Nat → Int32) (t : Nat) (n : Int32) : Int32 := mTryV (mWish ν G t n) 460
def mHvIt (ν : (Nat → Nat → Int32) → Nat) (t : Nat) : Nat → (Nat → Nat → Int32) → Int32 × (Nat → Nat → Int32)
  | 0, G => (0, G)
  | n + 1, G => if mTryN ν G t (nI (n + 1)) = 0 then (nI (n + 1), mTryM ν G t (nI (n + 1))) else mHvIt ν t n (mTryM ν G t (nI (n + 1)))
def mHvH (ν : (Nat → Nat → Int32) → Nat) (t : Nat) : Nat → (Nat → Nat → Int32) → Prop
  | 0, _ => True
  | n + 1, G => mWishH ν G t (nI (n + 1)) ∧ mHvH ν t n (mTryM ν G t (nI (n + 1)))
def mGive (G : Nat → Nat → Int32) (i : Nat) : Nat → Nat → Int32 := va_up G 1 (upd (G 1) (23 * i + 0) (G 1 (23 * i + 0) + 1))
def mBgS (ν : (Nat → Nat → Int32) → Nat) (t : Nat) (n : Int32) (i : Nat) (s : Int32 × Int32 × (Nat → Nat → Int32)) : Int32 × Int32 × (Nat → Nat → Int32) :=
  if 99999 ≤ s.2.2 1 (23 * i + 0) then s
  else if mTryN ν (mGive s.2.2 i) t n < 0 then (s.1, s.2.1, mTryM ν (mGive s.2.2 i) t n)
  else if s.1 ≤ mTryN ν (mGive s.2.2 i) t n then (s.1, s.2.1, mTryM ν (mGive s.2.2 i) t n)
  else (mTryN ν (mGive s.2.2 i) t n, nI i, mTryM ν (mGive s.2.2 i) t n)
def mBg (ν : (Nat → Nat → Int32) → Nat) (G : Nat → Nat → Int32) (t : Nat) (n : Int32) (i : Nat) : Int32 × Int32 × (Nat → Nat → Int32) := it (mBgS ν t n) i (mTryN ν (mHold G) t n, -9, mTryM ν (mHold G) t n)
def mBgH (ν : (Nat → Nat → Int32) → Nat) (G : Nat → Nat → Int32) (t : Nat) (n : Int32) : Prop := ∀ i, i < 20 → ¬ 99999 ≤ (mBg ν G t n i).2.2 1 (23 * i + 0) → mWishH ν (mGive (mBg ν G t n i).2.2 i) t n

abbrev mX7_gather : ZM := (cX7_gather, RX7, wsX7_gather, 9, 0, 0, (some .int), 4, yX7_gather.name)
set_option maxHeartbeats 1000000 in
set_option maxRecDepth 100000 in
theorem c_X7_gather_b {sh : zSh} {F : Nat → Nat → Int32} {P : Nat → Nat → Option Nat} {μ : Nat} {G : Nat → Nat → Int32} {t n u : Int32} (hM : zMd sh P μ) (hG : zVw F μ 13 G) (h : mIn t 0 19 = 0 ∨ mIn n 1 999 = 0 ∨ (u ≠ -9 ∧ mIn u 0 19 = 0)) : zMet yX7_gather wsX7_gather (9) (0) (0) [.ref μ, .int t, .int n, .int u] sh F P (some (.int (-1))) sh F P := by
  refine zMet.of (by decide) rfl (Nat.le_of_ble_eq_true rfl) (by simp [Value.category]) ?_
  intro X ρ
  show AW mX7_gather X (zMQ mX7_gather X (some (.int (-1))) sh F P) 0 [some (.ref μ), some (.int t), some (.int n), some (.int u)] [] ρ sh F P 0 0
  obtain ⟨ms0, ⟨mp0, mp1, mp3, mp5, mp9, mp10, mp11, mp12, mp13, mp17, mp21, mp28⟩, ms1, ms2, ms3, ms4, ms5, ms6, ms7, ms8, ms9, ms10, ms11, ms12⟩ := id hM
  refine aw_cF (F' := zput F μ 13 G) (zput_view hG).symm ?_
  refine aw_iload_1 dX7_gather_0 ?_
  refine aw_run (zRun_S (c_X7_isThing ) (Or.inl gX7_gather_X7_isThing) q_X7_isThing (by decide) rfl rfl (Nat.le_of_ble_eq_true rfl) dX7_gather_1 ⟨Nat.le_refl _, Nat.le_refl _⟩) ?_
  refine aw_if_eq (tgt := 31) dX7_gather_4 (by decide) (fun c4 => ?_) (fun c4 => ?_)
  · refine aw_iconst (v := (-1)) dX7_gather_31 (by decide) ?_
    exact aw_ireturn rfl dX7_gather_32 ⟨Nat.zero_le _, Nat.zero_le _⟩ (by first | rfl | simp [c4]) rfl (zput_view hG) rfl
  · refine aw_iload_2 dX7_gather_7 ?_
    refine aw_iconst (v := 1) dX7_gather_8 (by decide) ?_
    refine aw_sipush (v := 999) dX7_gather_9 (by decide) ?_
    refine aw_run (zRun_S (c_X7_isIn ) (Or.inl gX7_gather_X7_isIn) q_X7_isIn (by decide) rfl rfl (Nat.le_of_ble_eq_true rfl) dX7_gather_12 ⟨Nat.le_refl _, Nat.le_refl _⟩) ?_
    refine aw_if_eq (tgt := 31) dX7_gather_15 (by decide) (fun c15 => ?_) (fun c15 => ?_)
    · refine aw_iconst (v := (-1)) dX7_gather_31 (by decide) ?_
      exact aw_ireturn rfl dX7_gather_32 ⟨Nat.zero_le _, Nat.zero_le _⟩ (by first | rfl | simp [c4, c15]) rfl (zput_view hG) rfl
    · refine aw_iload_3 dX7_gather_18 ?_
      refine aw_bipush (v := (-9)) dX7_gather_19 (by decide) ?_
      refine aw_icmp_eq (tgt := 33) dX7_gather_21 (by decide) (fun c21 => ?_) (fun c21 => ?_)
      · exact absurd h (by simp [c4, c15, c21])
      · refine aw_iload_3 dX7_gather_24 ?_
        refine aw_run (zRun_S (c_X7_isThing ) (Or.inl gX7_gather_X7_isThing) q_X7_isThing (by decide) rfl rfl (Nat.le_of_ble_eq_true rfl) dX7_gather_25 ⟨Nat.le_refl _, Nat.le_refl _⟩) ?_
        refine aw_if_ne (tgt := 33) dX7_gather_28 (by decide) (fun c28 => ?_) (fun c28 => ?_)
        · exact absurd h (by simp [c4, c15, c21, c28])
        · refine aw_iconst (v := (-1)) dX7_gather_31 (by decide) ?_
          exact aw_ireturn rfl dX7_gather_32 ⟨Nat.zero_le _, Nat.zero_le _⟩ (by first | rfl | simp [c4, c15, c21, c28]) rfl (zput_view hG) rfl

set_option maxHeartbeats 1000000 in
set_option maxRecDepth 100000 in
theorem c_X7_gather_n {sh : zSh} {F : Nat → Nat → Int32} {P : Nat → Nat → Option Nat} {μ : Nat} {G : Nat → Nat → Int32} {ν : (Nat → Nat → Int32) → Nat} {t : Nat} {n : Int32} {V : Nat → Nat → Int32} (hM : zMd sh P μ) (hG : zVw F μ 13 G) (ht : t < 20) (hn : ¬ mIn n 1 999 = 0) (hw : mWishH ν (mHold G) t n) (eV : zBox (mWish ν (mHold G) t n = V)) : zMet yX7_gather wsX7_gather (9) (0) (0) [.ref μ, .int (nI t), .int n, .int (-9)] sh F P (some (.int (mTryV V 460))) sh (zput F μ 13 (mRest V)) P := by
  refine zMet.of (by decide) rfl (Nat.le_of_ble_eq_true rfl) (by simp [Value.category]) ?_
  intro X ρ
  show AW mX7_gather X (zMQ mX7_gather X (some (.int (mTryV V 460))) sh (zput F μ 13 (mRest V)) P) 0 [some (.ref μ), some (.int (nI t)), some (.int n), some (.int (-9))] [] ρ sh F P 0 0
  obtain ⟨ms0, ⟨mp0, mp1, mp3, mp5, mp9, mp10, mp11, mp12, mp13, mp17, mp21, mp28⟩, ms1, ms2, ms3, ms4, ms5, ms6, ms7, ms8, ms9, ms10, ms11, ms12⟩ := id hM
  refine aw_cF (F' := zput F μ 13 G) (zput_view hG).symm ?_
  refine aw_iload_1 dX7_gather_0 ?_
  refine aw_run (zRun_S (c_X7_isThing ) (Or.inl gX7_gather_X7_isThing) q_X7_isThing (by decide) rfl rfl (Nat.le_of_ble_eq_true rfl) dX7_gather_1 ⟨Nat.le_refl _, Nat.le_refl _⟩) ?_
  refine aw_if_eq (tgt := 31) dX7_gather_4 (by decide) (fun c4 => absurd c4 (mIn_20 ht)) (fun c4 => ?_)
  refine aw_iload_2 dX7_gather_7 ?_
  refine aw_iconst (v := 1) dX7_gather_8 (by decide) ?_
  refine aw_sipush (v := 999) dX7_gather_9 (by decide) ?_
  refine aw_run (zRun_S (c_X7_isIn ) (Or.inl gX7_gather_X7_isIn) q_X7_isIn (by decide) rfl rfl (Nat.le_of_ble_eq_true rfl) dX7_gather_12 ⟨Nat.le_refl _, Nat.le_refl _⟩) ?_
  refine aw_if_eq (tgt := 31) dX7_gather_15 (by decide) (fun c15 => absurd c15 hn) (fun c15 => ?_)
  refine aw_iload_3 dX7_gather_18 ?_
  refine aw_bipush (v := (-9)) dX7_gather_19 (by decide) ?_
  refine aw_icmp_eq (tgt := 33) dX7_gather_21 (by decide) (fun c21 => ?_) (fun c21 => absurd rfl c21)
  refine aw_aload_0 dX7_gather_33 ?_
  refine aw_runv (zRun_V (c_X7_hold hM zVw.put) gX7_gather_X7_hold q_X7_hold rfl (by decide) rfl ms0 rfl rfl (Nat.le_of_ble_eq_true rfl) dX7_gather_34 ⟨Nat.le_refl _, Nat.le_refl _⟩) ?_
  rw [zput_zput]
  refine aw_aload_0 dX7_gather_37 ?_
  refine aw_iload_1 dX7_gather_38 ?_
  refine aw_iload_2 dX7_gather_39 ?_
  refine aw_iload_3 dX7_gather_40 ?_
  refine aw_run (zRun_V (c_X7_tryWish_n (ν := ν) (t := t) (V := V) hM zVw.put ht hw eV) gX7_gather_X7_tryWish q_X7_tryWish rfl (by decide) rfl ms0 rfl rfl (Nat.le_of_ble_eq_true rfl) dX7_gather_41 ⟨Nat.le_refl _, Nat.le_refl _⟩) ?_
  exact aw_ireturn rfl dX7_gather_44 ⟨Nat.zero_le _, Nat.zero_le _⟩ rfl rfl (by rw [zput_zput]) rfl

set_option maxHeartbeats 1000000 in
set_option maxRecDepth 100000 in
theorem c_X7_gather_t {sh : zSh} {F : Nat → Nat → Int32} {P : Nat → Nat → Option Nat} {μ : Nat} {G : Nat → Nat → Int32} {ν : (Nat → Nat → Int32) → Nat} {t u : Nat} {n : Int32} {V : Nat → Nat → Int32} (hM : zMd sh P μ) (hG : zVw F μ 13 G) (ht : t < 20) (hn : ¬ mIn n 1 999 = 0) (hw : mWishH ν (mHold G) t n) (eV : zBox (mWish ν (mHold G) t n = V)) (hu : u < 20) : zMet yX7_gather wsX7_gather (9) (0) (0) [.ref μ, .int (nI t), .int n, .int (nI u)] sh F P (some (.int (mTryV V (23 * u + 2)))) sh (zput F μ 13 (mRest V)) P := by
  refine zMet.of (by decide) rfl (Nat.le_of_ble_eq_true rfl) (by simp [Value.category]) ?_
  intro X ρ
  show AW mX7_gather X (zMQ mX7_gather X (some (.int (mTryV V (23 * u + 2)))) sh (zput F μ 13 (mRest V)) P) 0 [some (.ref μ), some (.int (nI t)), some (.int n), some (.int (nI u))] [] ρ sh F P 0 0
  obtain ⟨ms0, ⟨mp0, mp1, mp3, mp5, mp9, mp10, mp11, mp12, mp13, mp17, mp21, mp28⟩, ms1, ms2, ms3, ms4, ms5, ms6, ms7, ms8, ms9, ms10, ms11, ms12⟩ := id hM
  refine aw_cF (F' := zput F μ 13 G) (zput_view hG).symm ?_
  refine aw_iload_1 dX7_gather_0 ?_
  refine aw_run (zRun_S (c_X7_isThing ) (Or.inl gX7_gather_X7_isThing) q_X7_isThing (by decide) rfl rfl (Nat.le_of_ble_eq_true rfl) dX7_gather_1 ⟨Nat.le_refl _, Nat.le_refl _⟩) ?_
  refine aw_if_eq (tgt := 31) dX7_gather_4 (by decide) (fun c4 => absurd c4 (mIn_20 ht)) (fun c4 => ?_)
  refine aw_iload_2 dX7_gather_7 ?_
  refine aw_iconst (v := 1) dX7_gather_8 (by decide) ?_
  refine aw_sipush (v := 999) dX7_gather_9 (by decide) ?_
  refine aw_run (zRun_S (c_X7_isIn ) (Or.inl gX7_gather_X7_isIn) q_X7_isIn (by decide) rfl rfl (Nat.le_of_ble_eq_true rfl) dX7_gather_12 ⟨Nat.le_refl _, Nat.le_refl _⟩) ?_
  refine aw_if_eq (tgt := 31) dX7_gather_15 (by decide) (fun c15 => absurd c15 hn) (fun c15 => ?_)
  refine aw_iload_3 dX7_gather_18 ?_
  refine aw_bipush (v := (-9)) dX7_gather_19 (by decide) ?_
  refine aw_icmp_eq (tgt := 33) dX7_gather_21 (by decide) (fun c21 => absurd c21 (n9 (by omega))) (fun c21 => ?_)
  refine aw_iload_3 dX7_gather_24 ?_
  refine aw_run (zRun_S (c_X7_isThing ) (Or.inl gX7_gather_X7_isThing) q_X7_isThing (by decide) rfl rfl (Nat.le_of_ble_eq_true rfl) dX7_gather_25 ⟨Nat.le_refl _, Nat.le_refl _⟩) ?_
  refine aw_if_ne (tgt := 33) dX7_gather_28 (by decide) (fun c28 => ?_) (fun c28 => absurd c28 (mIn_20 hu))
  refine aw_aload_0 dX7_gather_33 ?_
  refine aw_runv (zRun_V (c_X7_hold hM zVw.put) gX7_gather_X7_hold q_X7_hold rfl (by decide) rfl ms0 rfl rfl (Nat.le_of_ble_eq_true rfl) dX7_gather_34 ⟨Nat.le_refl _, Nat.le_refl _⟩) ?_
  rw [zput_zput]
  refine aw_aload_0 dX7_gather_37 ?_
  refine aw_iload_1 dX7_gather_38 ?_
  refine aw_iload_2 dX7_gather_39 ?_
  refine aw_iload_3 dX7_gather_40 ?_
  refine aw_run (zRun_V (c_X7_tryWish_t (ν := ν) (t := t) (u := u) (V := V) hM zVw.put ht hw eV hu) gX7_gather_X7_tryWish q_X7_tryWish rfl (by decide) rfl ms0 rfl rfl (Nat.le_of_ble_eq_true rfl) dX7_gather_41 ⟨Nat.le_refl _, Nat.le_refl _⟩) ?_
  exact aw_ireturn rfl dX7_gather_44 ⟨Nat.zero_le _, Nat.zero_le _⟩ rfl rfl (by rw [zput_zput]) rfl

abbrev mX7_canHave : ZM := (cX7_canHave, RX7, wsX7_canHave, 9, 0, 0, (some .int), 3, yX7_canHave.name)
set_option maxHeartbeats 1000000 in
set_option maxRecDepth 100000 in
theorem c_X7_canHave_b {sh : zSh} {F : Nat → Nat → Int32} {P : Nat → Nat → Option Nat} {μ : Nat} {G : Nat → Nat → Int32} {t : Int32} (hM : zMd sh P μ) (hG : zVw F μ 13 G) (h : mIn t 0 19 = 0) : zMet yX7_canHave wsX7_canHave (9) (0) (0) [.ref μ, .int t] sh F P (some (.int (-1))) sh F P := by
  refine zMet.of (by decide) rfl (Nat.le_of_ble_eq_true rfl) (by simp [Value.category]) ?_
  intro X ρ
  show AW mX7_canHave X (zMQ mX7_canHave X (some (.int (-1))) sh F P) 0 [some (.ref μ), some (.int t), none] [] ρ sh F P 0 0
  obtain ⟨ms0, ⟨mp0, mp1, mp3, mp5, mp9, mp10, mp11, mp12, mp13, mp17, mp21, mp28⟩, ms1, ms2, ms3, ms4, ms5, ms6, ms7, ms8, ms9, ms10, ms11, ms12⟩ := id hM
  refine aw_cF (F' := zput F μ 13 G) (zput_view hG).symm ?_
  refine aw_iload_1 dX7_canHave_0 ?_
  refine aw_run (zRun_S (c_X7_isThing ) (Or.inl gX7_canHave_X7_isThing) q_X7_isThing (by decide) rfl rfl (Nat.le_of_ble_eq_true rfl) dX7_canHave_1 ⟨Nat.le_refl _, Nat.le_refl _⟩) ?_
  refine aw_if_ne (tgt := 9) dX7_canHave_4 (by decide) (fun c4 => ?_) (fun c4 => ?_)
  · exact absurd h c4
  · refine aw_iconst (v := (-1)) dX7_canHave_7 (by decide) ?_
    exact aw_ireturn rfl dX7_canHave_8 ⟨Nat.zero_le _, Nat.zero_le _⟩ (by first | rfl | simp [c4]) rfl (zput_view hG) rfl

theorem z0m {m : Nat} (h : nI m ≤ 0) (hm : m < 2 ^ 31) : m = 0 := by
  have h2 := (nI_leI (a := m) (b := 0) hm (by decide)).mp h
  omega

set_option maxHeartbeats 1000000 in
set_option maxRecDepth 100000 in
theorem c_X7_canHave_o {sh : zSh} {F : Nat → Nat → Int32} {P : Nat → Nat → Option Nat} {μ : Nat} {G : Nat → Nat → Int32} {ν : (Nat → Nat → Int32) → Nat} {t : Nat} (hM : zMd sh P μ) (hG : zVw F μ 13 G) (ht : t < 20) (hw : mHvH ν t 999 (mHold G)) : zMet yX7_canHave wsX7_canHave (9) (0) (0) [.ref μ, .int (nI t)] sh F P (some (.int (mHvIt ν t 999 (mHold G)).1)) sh (zput F μ 13 ((mHvIt ν t 999 (mHold G)).2)) P := by
  refine zMet.of (by decide) rfl (Nat.le_of_ble_eq_true rfl) (by simp [Value.category]) ?_
  intro X ρ
  show AW mX7_canHave X (zMQ mX7_canHave X (some (.int (mHvIt ν t 999 (mHold G)).1)) sh (zput F μ 13 ((mHvIt ν t 999 (mHold G)).2)) P) 0 [some (.ref μ), some (.int (nI t)), none] [] ρ sh F P 0 0
  obtain ⟨ms0, ⟨mp0, mp1, mp3, mp5, mp9, mp10, mp11, mp12, mp13, mp17, mp21, mp28⟩, ms1, ms2, ms3, ms4, ms5, ms6, ms7, ms8, ms9, ms10, ms11, ms12⟩ := id hM
  refine aw_cF (F' := zput F μ 13 G) (zput_view hG).symm ?_
  have L17 : ∀ (m : Nat) (G' : Nat → Nat → Int32), m ≤ 999 → mHvIt ν t 999 (mHold G) = mHvIt ν t m G' → mHvH ν t m G' → AW mX7_canHave X (zMQ mX7_canHave X (some (.int (mHvIt ν t 999 (mHold G)).1)) sh (zput F μ 13 ((mHvIt ν t 999 (mHold G)).2)) P) 17 [some (.ref μ), some (.int (nI t)), some (.int (nI m))] [] ρ sh (zput F μ 13 G') P 0 0 := by
    intro m
    induction m using Nat.strongRecOn with
    | _ m ih =>
    intro G' hm hst hh
    refine aw_iload_2 dX7_canHave_17 ?_
    refine aw_if_le (tgt := 40) dX7_canHave_18 (by decide) (fun c18 => ?_) (fun c18 => ?_)
    · refine aw_iconst (v := 0) dX7_canHave_40 (by decide) ?_
      exact aw_ireturn rfl dX7_canHave_41 ⟨Nat.zero_le _, Nat.zero_le _⟩ (by rw [z0m c18 (by omega)] at hst; rw [hst]; rfl) rfl (by rw [z0m c18 (by omega)] at hst; rw [hst]; rfl) rfl
    · obtain ⟨k, rfl⟩ : ∃ k, m = k + 1 := ⟨m - 1, by have h0 : m ≠ 0 := fun h0 => c18 (by rw [h0]; decide); omega⟩
      refine aw_aload_0 dX7_canHave_21 ?_
      refine aw_iload_1 dX7_canHave_22 ?_
      refine aw_iload_2 dX7_canHave_23 ?_
      refine aw_bipush (v := (-9)) dX7_canHave_24 (by decide) ?_
      refine aw_run (zRun_V (c_X7_tryWish_n (ν := ν) (t := t) (V := mWish ν G' t (nI (k + 1))) hM zVw.put ht hh.1 (zBox.mk rfl)) gX7_canHave_X7_tryWish q_X7_tryWish rfl (by decide) rfl ms0 rfl rfl (Nat.le_of_ble_eq_true rfl) dX7_canHave_26 ⟨Nat.le_refl _, Nat.le_refl _⟩) ?_
      refine aw_if_ne (tgt := 34) dX7_canHave_29 (by decide) (fun c29 => ?_) (fun c29 => ?_)
      · refine aw_iinc_2 (v := (-1)) (by decide) dX7_canHave_34 ?_
        refine aw_goto (tgt := 17) dX7_canHave_37 (by decide) ?_
        rw [nI_dec _ (show k + 1 < 2 ^ 31 by omega), zput_zput]
        exact ih k (by omega) _ (by omega) (by rw [hst]; exact if_neg c29) hh.2
      · refine aw_iload_2 dX7_canHave_32 ?_
        exact aw_ireturn rfl dX7_canHave_33 ⟨Nat.zero_le _, Nat.zero_le _⟩ (by rw [hst]; exact (congrArg (fun q => some (Value.int (Prod.fst q))) (if_pos c29 : (if mTryN ν G' t (nI (k + 1)) = 0 then (nI (k + 1), mTryM ν G' t (nI (k + 1))) else mHvIt ν t k (mTryM ν G' t (nI (k + 1)))) = _)).symm) rfl (by rw [zput_zput, hst]; exact (congrArg (fun q => zput F μ 13 (Prod.snd q)) (if_pos c29 : (if mTryN ν G' t (nI (k + 1)) = 0 then (nI (k + 1), mTryM ν G' t (nI (k + 1))) else mHvIt ν t k (mTryM ν G' t (nI (k + 1)))) = _)).symm) rfl
  refine aw_iload_1 dX7_canHave_0 ?_
  refine aw_run (zRun_S (c_X7_isThing ) (Or.inl gX7_canHave_X7_isThing) q_X7_isThing (by decide) rfl rfl (Nat.le_of_ble_eq_true rfl) dX7_canHave_1 ⟨Nat.le_refl _, Nat.le_refl _⟩) ?_
  refine aw_if_ne (tgt := 9) dX7_canHave_4 (by decide) (fun c4 => ?_) (fun c4 => absurd c4 (mIn_20 ht))
  refine aw_aload_0 dX7_canHave_9 ?_
  refine aw_runv (zRun_V (c_X7_hold hM zVw.put) gX7_canHave_X7_hold q_X7_hold rfl (by decide) rfl ms0 rfl rfl (Nat.le_of_ble_eq_true rfl) dX7_canHave_10 ⟨Nat.le_refl _, Nat.le_refl _⟩) ?_
  refine aw_sipush (v := 999) dX7_canHave_13 (by decide) ?_
  refine aw_istore_2 dX7_canHave_16 ?_
  rw [zput_zput]
  exact L17 999 _ (Nat.le_refl _) rfl hw

abbrev mX7_bestGift : ZM := (cX7_bestGift, RX7, wsX7_bestGift, 9, 0, 0, (some .int), 7, yX7_bestGift.name)
set_option maxHeartbeats 1000000 in
set_option maxRecDepth 100000 in
theorem c_X7_bestGift_b {sh : zSh} {F : Nat → Nat → Int32} {P : Nat → Nat → Option Nat} {μ : Nat} {G : Nat → Nat → Int32} {t n : Int32} (hM : zMd sh P μ) (hG : zVw F μ 13 G) (h : mIn t 0 19 = 0 ∨ mIn n 1 999 = 0) : zMet yX7_bestGift wsX7_bestGift (9) (0) (0) [.ref μ, .int t, .int n] sh F P (some (.int (-1))) sh F P := by
  refine zMet.of (by decide) rfl (Nat.le_of_ble_eq_true rfl) (by simp [Value.category]) ?_
  intro X ρ
  show AW mX7_bestGift X (zMQ mX7_bestGift X (some (.int (-1))) sh F P) 0 [some (.ref μ), some (.int t), some (.int n), none, none, none, none] [] ρ sh F P 0 0
  obtain ⟨ms0, ⟨mp0, mp1, mp3, mp5, mp9, mp10, mp11, mp12, mp13, mp17, mp21, mp28⟩, ms1, ms2, ms3, ms4, ms5, ms6, ms7, ms8, ms9, ms10, ms11, ms12⟩ := id hM
  refine aw_cF (F' := zput F μ 13 G) (zput_view hG).symm ?_
  refine aw_iload_1 dX7_bestGift_0 ?_
  refine aw_run (zRun_S (c_X7_isThing ) (Or.inl gX7_bestGift_X7_isThing) q_X7_isThing (by decide) rfl rfl (Nat.le_of_ble_eq_true rfl) dX7_bestGift_1 ⟨Nat.le_refl _, Nat.le_refl _⟩) ?_
  refine aw_if_eq (tgt := 18) dX7_bestGift_4 (by decide) (fun c4 => ?_) (fun c4 => ?_)
  · refine aw_iconst (v := (-1)) dX7_bestGift_18 (by decide) ?_
    exact aw_ireturn rfl dX7_bestGift_19 ⟨Nat.zero_le _, Nat.zero_le _⟩ (by first | rfl | simp [c4]) rfl (zput_view hG) rfl
  · refine aw_iload_2 dX7_bestGift_7 ?_
    refine aw_iconst (v := 1) dX7_bestGift_8 (by decide) ?_
    refine aw_sipush (v := 999) dX7_bestGift_9 (by decide) ?_
    refine aw_run (zRun_S (c_X7_isIn ) (Or.inl gX7_bestGift_X7_isIn) q_X7_isIn (by decide) rfl rfl (Nat.le_of_ble_eq_true rfl) dX7_bestGift_12 ⟨Nat.le_refl _, Nat.le_refl _⟩) ?_
    refine aw_if_ne (tgt := 20) dX7_bestGift_15 (by decide) (fun c15 => ?_) (fun c15 => ?_)
    · exact absurd h (by simp [c4, c15])
    · refine aw_iconst (v := (-1)) dX7_bestGift_18 (by decide) ?_
      exact aw_ireturn rfl dX7_bestGift_19 ⟨Nat.zero_le _, Nat.zero_le _⟩ (by first | rfl | simp [c4, c15]) rfl (zput_view hG) rfl

set_option maxHeartbeats 1000000 in
set_option maxRecDepth 100000 in
theorem c_X7_bestGift_f {sh : zSh} {F : Nat → Nat → Int32} {P : Nat → Nat → Option Nat} {μ : Nat} {G : Nat → Nat → Int32} {ν : (Nat → Nat → Int32) → Nat} {t : Nat} {n : Int32} (hM : zMd sh P μ) (hG : zVw F μ 13 G) (ht : t < 20) (hn : ¬ mIn n 1 999 = 0) (hw : mWishH ν (mHold G) t n) (h : zBox (mTryN ν (mHold G) t n = -3)) : zMet yX7_bestGift wsX7_bestGift (9) (0) (0) [.ref μ, .int (nI t), .int n] sh F P (some (.int (-3))) sh (zput F μ 13 (mTryM ν (mHold G) t n)) P := by
  refine zMet.of (by decide) rfl (Nat.le_of_ble_eq_true rfl) (by simp [Value.category]) ?_
  intro X ρ
  show AW mX7_bestGift X (zMQ mX7_bestGift X (some (.int (-3))) sh (zput F μ 13 (mTryM ν (mHold G) t n)) P) 0 [some (.ref μ), some (.int (nI t)), some (.int n), none, none, none, none] [] ρ sh F P 0 0
  obtain ⟨ms0, ⟨mp0, mp1, mp3, mp5, mp9, mp10, mp11, mp12, mp13, mp17, mp21, mp28⟩, ms1, ms2, ms3, ms4, ms5, ms6, ms7, ms8, ms9, ms10, ms11, ms12⟩ := id hM
  refine aw_cF (F' := zput F μ 13 G) (zput_view hG).symm ?_
  refine aw_iload_1 dX7_bestGift_0 ?_
  refine aw_run (zRun_S (c_X7_isThing ) (Or.inl gX7_bestGift_X7_isThing) q_X7_isThing (by decide) rfl rfl (Nat.le_of_ble_eq_true rfl) dX7_bestGift_1 ⟨Nat.le_refl _, Nat.le_refl _⟩) ?_
  refine aw_if_eq (tgt := 18) dX7_bestGift_4 (by decide) (fun c4 => absurd c4 (mIn_20 ht)) (fun c4 => ?_)
  refine aw_iload_2 dX7_bestGift_7 ?_
  refine aw_iconst (v := 1) dX7_bestGift_8 (by decide) ?_
  refine aw_sipush (v := 999) dX7_bestGift_9 (by decide) ?_
  refine aw_run (zRun_S (c_X7_isIn ) (Or.inl gX7_bestGift_X7_isIn) q_X7_isIn (by decide) rfl rfl (Nat.le_of_ble_eq_true rfl) dX7_bestGift_12 ⟨Nat.le_refl _, Nat.le_refl _⟩) ?_
  refine aw_if_ne (tgt := 20) dX7_bestGift_15 (by decide) (fun c15 => ?_) (fun c15 => absurd c15 hn)
  refine aw_aload_0 dX7_bestGift_20 ?_
  refine aw_runv (zRun_V (c_X7_hold hM zVw.put) gX7_bestGift_X7_hold q_X7_hold rfl (by decide) rfl ms0 rfl rfl (Nat.le_of_ble_eq_true rfl) dX7_bestGift_21 ⟨Nat.le_refl _, Nat.le_refl _⟩) ?_
  rw [zput_zput]
  refine aw_aload_0 dX7_bestGift_24 ?_
  refine aw_iload_1 dX7_bestGift_25 ?_
  refine aw_iload_2 dX7_bestGift_26 ?_
  refine aw_bipush (v := (-9)) dX7_bestGift_27 (by decide) ?_
  refine aw_run (zRun_V (c_X7_tryWish_n (ν := ν) (t := t) (V := mWish ν (mHold G) t n) hM zVw.put ht hw (zBox.mk rfl)) gX7_bestGift_X7_tryWish q_X7_tryWish rfl (by decide) rfl ms0 rfl rfl (Nat.le_of_ble_eq_true rfl) dX7_bestGift_29 ⟨Nat.le_refl _, Nat.le_refl _⟩) ?_
  rw [zput_zput, show mTryV (mWish ν (mHold G) t n) 460 = mTryN ν (mHold G) t n from rfl, show mRest (mWish ν (mHold G) t n) = mTryM ν (mHold G) t n from rfl]
  obtain ⟨x0, hx0⟩ : ∃ x0, zBox (mTryN ν (mHold G) t n = x0) := ⟨_, zBox.mk rfl⟩
  rw [hx0.out]
  refine aw_istore_3 dX7_bestGift_32 ?_
  refine aw_iload_3 dX7_bestGift_33 ?_
  refine aw_bipush (v := (-3)) dX7_bestGift_34 (by decide) ?_
  refine aw_icmp_ne (tgt := 42) dX7_bestGift_36 (by decide) (fun c36 => ?_) (fun c36 => ?_)
  · exact absurd (hx0.out.symm.trans h.out) c36
  · refine aw_bipush (v := (-3)) dX7_bestGift_39 (by decide) ?_
    exact aw_ireturn rfl dX7_bestGift_41 ⟨Nat.zero_le _, Nat.zero_le _⟩ (by first | rfl | simp [c4, c15, c36]) rfl rfl rfl

set_option maxHeartbeats 1000000 in
set_option maxRecDepth 100000 in
theorem c_X7_bestGift_o {sh : zSh} {F : Nat → Nat → Int32} {P : Nat → Nat → Option Nat} {μ : Nat} {G : Nat → Nat → Int32} {ν : (Nat → Nat → Int32) → Nat} {t : Nat} {n : Int32} (hM : zMd sh P μ) (hG : zVw F μ 13 G) (ht : t < 20) (hn : ¬ mIn n 1 999 = 0) (hw : mWishH ν (mHold G) t n) (h : zBox (mTryN ν (mHold G) t n ≠ -3)) (hb : mBgH ν G t n) : zMet yX7_bestGift wsX7_bestGift (9) (0) (0) [.ref μ, .int (nI t), .int n] sh F P (some (.int (mBg ν G t n 20).2.1)) sh (zput F μ 13 ((mBg ν G t n 20).2.2)) P := by
  refine zMet.of (by decide) rfl (Nat.le_of_ble_eq_true rfl) (by simp [Value.category]) ?_
  intro X ρ
  show AW mX7_bestGift X (zMQ mX7_bestGift X (some (.int (mBg ν G t n 20).2.1)) sh (zput F μ 13 ((mBg ν G t n 20).2.2)) P) 0 [some (.ref μ), some (.int (nI t)), some (.int n), none, none, none, none] [] ρ sh F P 0 0
  obtain ⟨ms0, ⟨mp0, mp1, mp3, mp5, mp9, mp10, mp11, mp12, mp13, mp17, mp21, mp28⟩, ms1, ms2, ms3, ms4, ms5, ms6, ms7, ms8, ms9, ms10, ms11, ms12⟩ := id hM
  refine aw_cF (F' := zput F μ 13 G) (zput_view hG).symm ?_
  have L49 : ∀ (m i : Nat) (l b : Int32) (G' : Nat → Nat → Int32) (o6 : Option Value), i ≤ 20 → 20 - i = m → mBg ν G t n i = (l, b, G') → AW mX7_bestGift X (zMQ mX7_bestGift X (some (.int (mBg ν G t n 20).2.1)) sh (zput F μ 13 ((mBg ν G t n 20).2.2)) P) 49 [some (.ref μ), some (.int (nI t)), some (.int n), some (.int l), some (.int b), some (.int (nI i)), o6] [] ρ sh (zput F μ 13 G') P 0 0 := by
    intro m
    induction m using Nat.strongRecOn with
    | _ m ih =>
    intro i l b G' o6 hi hm hst
    refine aw_iload_5 dX7_bestGift_49 ?_
    refine aw_bipush (v := 20) dX7_bestGift_51 (by decide) ?_
    refine aw_icmp_ge (tgt := 138) dX7_bestGift_53 (by decide) (fun c53 => ?_) (fun c53 => ?_)
    · refine aw_iload_4 dX7_bestGift_138 ?_
      exact aw_ireturn rfl dX7_bestGift_140 ⟨Nat.zero_le _, Nat.zero_le _⟩ (by rw [zend (n := 20) hi (by decide) c53] at hst; rw [hst]) rfl (by rw [zend (n := 20) hi (by decide) c53] at hst; rw [hst]) rfl
    · have hlt : i < 20 := zlt (n := 20) hi (by decide) c53
      refine aw_aload_0 dX7_bestGift_56 ?_
      refine aw_iload_5 dX7_bestGift_57 ?_
      refine aw_iconst (v := 0) dX7_bestGift_59 (by decide) ?_
      refine aw_run (zRun_V (c_X7_of (t := i) (k := 0) hM zVw.put (by omega)) gX7_bestGift_X7_of q_X7_of rfl (by decide) rfl ms0 rfl rfl (Nat.le_of_ble_eq_true rfl) dX7_bestGift_60 ⟨Nat.le_refl _, Nat.le_refl _⟩) ?_
      refine aw_ldc (v := 99999) (by decide +kernel : Cond.constant RX7 84 99999 ∈ wsX7_bestGift) dX7_bestGift_63 ?_
      refine aw_icmp_ge (tgt := 132) dX7_bestGift_65 (by decide) (fun c65 => ?_) (fun c65 => ?_)
      · refine aw_iinc_5 (v := 1) (by decide) dX7_bestGift_132 ?_
        refine aw_goto (tgt := 49) dX7_bestGift_135 (by decide) ?_
        rw [nI_1]
        exact ih (20 - (i + 1)) (by omega) (i + 1) _ _ _ _ (by omega) rfl (by show mBgS ν t n i (mBg ν G t n i) = _; rw [hst]; unfold mBgS; rw [if_pos c65])
      · have hg : mWishH ν (mGive G' i) t n := by
          have h9 := hb i hlt
          rw [hst] at h9
          exact h9 c65
        refine aw_aload_0 dX7_bestGift_68 ?_
        refine aw_iload_5 dX7_bestGift_69 ?_
        refine aw_iconst (v := 0) dX7_bestGift_71 (by decide) ?_
        refine aw_aload_0 dX7_bestGift_72 ?_
        refine aw_iload_5 dX7_bestGift_73 ?_
        refine aw_iconst (v := 0) dX7_bestGift_75 (by decide) ?_
        refine aw_run (zRun_V (c_X7_of (t := i) (k := 0) hM zVw.put (by omega)) gX7_bestGift_X7_of q_X7_of rfl (by decide) rfl ms0 rfl rfl (Nat.le_of_ble_eq_true rfl) dX7_bestGift_76 ⟨Nat.le_refl _, Nat.le_refl _⟩) ?_
        refine aw_iconst (v := 1) dX7_bestGift_79 (by decide) ?_
        refine aw_iadd dX7_bestGift_80 ?_
        refine aw_runv (zRun_V (c_X7_put (t := i) (k := 0) hM zVw.put (by omega)) gX7_bestGift_X7_put q_X7_put rfl (by decide) rfl ms0 rfl rfl (Nat.le_of_ble_eq_true rfl) dX7_bestGift_81 ⟨Nat.le_refl _, Nat.le_refl _⟩) ?_
        rw [zput_zput, show va_up G' 1 (upd (G' 1) (23 * i + 0) (G' 1 (23 * i + 0) + 1)) = mGive G' i from rfl]
        refine aw_aload_0 dX7_bestGift_84 ?_
        refine aw_iload_1 dX7_bestGift_85 ?_
        refine aw_iload_2 dX7_bestGift_86 ?_
        refine aw_bipush (v := (-9)) dX7_bestGift_87 (by decide) ?_
        refine aw_run (zRun_V (c_X7_tryWish_n (ν := ν) (t := t) (V := mWish ν (mGive G' i) t n) hM zVw.put ht hg (zBox.mk rfl)) gX7_bestGift_X7_tryWish q_X7_tryWish rfl (by decide) rfl ms0 rfl rfl (Nat.le_of_ble_eq_true rfl) dX7_bestGift_89 ⟨Nat.le_refl _, Nat.le_refl _⟩) ?_
        rw [zput_zput, show mTryV (mWish ν (mGive G' i) t n) 460 = mTryN ν (mGive G' i) t n from rfl, show mRest (mWish ν (mGive G' i) t n) = mTryM ν (mGive G' i) t n from rfl]
        obtain ⟨x, hx⟩ : ∃ x, zBox (mTryN ν (mGive G' i) t n = x) := ⟨_, zBox.mk rfl⟩
        rw [hx.out]
        refine aw_istore_6 dX7_bestGift_92 ?_
        refine aw_iload_6 dX7_bestGift_94 ?_
        refine aw_if_lt (tgt := 110) dX7_bestGift_96 (by decide) (fun c96 => ?_) (fun c96 => ?_)
        · refine aw_iload_4 dX7_bestGift_110 ?_
          refine aw_istore_4 dX7_bestGift_112 ?_
          refine aw_iload_6 dX7_bestGift_114 ?_
          refine aw_if_lt (tgt := 130) dX7_bestGift_116 (by decide) (fun c116 => ?_) (fun c116 => absurd c96 c116)
          refine aw_iload_3 dX7_bestGift_130 ?_
          refine aw_istore_3 dX7_bestGift_131 ?_
          refine aw_iinc_5 (v := 1) (by decide) dX7_bestGift_132 ?_
          refine aw_goto (tgt := 49) dX7_bestGift_135 (by decide) ?_
          rw [nI_1]
          exact ih (20 - (i + 1)) (by omega) (i + 1) _ _ _ _ (by omega) rfl (by show mBgS ν t n i (mBg ν G t n i) = _; rw [hst]; unfold mBgS; rw [if_neg c65, hx.out, if_pos c96])
        · refine aw_iload_6 dX7_bestGift_99 ?_
          refine aw_iload_3 dX7_bestGift_101 ?_
          refine aw_icmp_ge (tgt := 110) dX7_bestGift_102 (by decide) (fun c102 => ?_) (fun c102 => ?_)
          · refine aw_iload_4 dX7_bestGift_110 ?_
            refine aw_istore_4 dX7_bestGift_112 ?_
            refine aw_iload_6 dX7_bestGift_114 ?_
            refine aw_if_lt (tgt := 130) dX7_bestGift_116 (by decide) (fun c116 => absurd c116 c96) (fun c116 => ?_)
            refine aw_iload_6 dX7_bestGift_119 ?_
            refine aw_iload_3 dX7_bestGift_121 ?_
            refine aw_icmp_ge (tgt := 130) dX7_bestGift_122 (by decide) (fun c122 => ?_) (fun c122 => absurd c102 c122)
            refine aw_iload_3 dX7_bestGift_130 ?_
            refine aw_istore_3 dX7_bestGift_131 ?_
            refine aw_iinc_5 (v := 1) (by decide) dX7_bestGift_132 ?_
            refine aw_goto (tgt := 49) dX7_bestGift_135 (by decide) ?_
            rw [nI_1]
            exact ih (20 - (i + 1)) (by omega) (i + 1) _ _ _ _ (by omega) rfl (by show mBgS ν t n i (mBg ν G t n i) = _; rw [hst]; unfold mBgS; rw [if_neg c65, hx.out, if_neg c96, if_pos c102])
          · refine aw_iload_5 dX7_bestGift_105 ?_
            refine aw_goto (tgt := 112) dX7_bestGift_107 (by decide) ?_
            refine aw_istore_4 dX7_bestGift_112 ?_
            refine aw_iload_6 dX7_bestGift_114 ?_
            refine aw_if_lt (tgt := 130) dX7_bestGift_116 (by decide) (fun c116 => absurd c116 c96) (fun c116 => ?_)
            refine aw_iload_6 dX7_bestGift_119 ?_
            refine aw_iload_3 dX7_bestGift_121 ?_
            refine aw_icmp_ge (tgt := 130) dX7_bestGift_122 (by decide) (fun c122 => absurd c122 c102) (fun c122 => ?_)
            refine aw_iload_6 dX7_bestGift_125 ?_
            refine aw_goto (tgt := 131) dX7_bestGift_127 (by decide) ?_
            refine aw_istore_3 dX7_bestGift_131 ?_
            refine aw_iinc_5 (v := 1) (by decide) dX7_bestGift_132 ?_
            refine aw_goto (tgt := 49) dX7_bestGift_135 (by decide) ?_
            rw [nI_1]
            exact ih (20 - (i + 1)) (by omega) (i + 1) _ _ _ _ (by omega) rfl (by show mBgS ν t n i (mBg ν G t n i) = _; rw [hst]; unfold mBgS; rw [if_neg c65, hx.out, if_neg c96, if_neg c102])
  refine aw_iload_1 dX7_bestGift_0 ?_
  refine aw_run (zRun_S (c_X7_isThing ) (Or.inl gX7_bestGift_X7_isThing) q_X7_isThing (by decide) rfl rfl (Nat.le_of_ble_eq_true rfl) dX7_bestGift_1 ⟨Nat.le_refl _, Nat.le_refl _⟩) ?_
  refine aw_if_eq (tgt := 18) dX7_bestGift_4 (by decide) (fun c4 => absurd c4 (mIn_20 ht)) (fun c4 => ?_)
  refine aw_iload_2 dX7_bestGift_7 ?_
  refine aw_iconst (v := 1) dX7_bestGift_8 (by decide) ?_
  refine aw_sipush (v := 999) dX7_bestGift_9 (by decide) ?_
  refine aw_run (zRun_S (c_X7_isIn ) (Or.inl gX7_bestGift_X7_isIn) q_X7_isIn (by decide) rfl rfl (Nat.le_of_ble_eq_true rfl) dX7_bestGift_12 ⟨Nat.le_refl _, Nat.le_refl _⟩) ?_
  refine aw_if_ne (tgt := 20) dX7_bestGift_15 (by decide) (fun c15 => ?_) (fun c15 => absurd c15 hn)
  refine aw_aload_0 dX7_bestGift_20 ?_
  refine aw_runv (zRun_V (c_X7_hold hM zVw.put) gX7_bestGift_X7_hold q_X7_hold rfl (by decide) rfl ms0 rfl rfl (Nat.le_of_ble_eq_true rfl) dX7_bestGift_21 ⟨Nat.le_refl _, Nat.le_refl _⟩) ?_
  rw [zput_zput]
  refine aw_aload_0 dX7_bestGift_24 ?_
  refine aw_iload_1 dX7_bestGift_25 ?_
  refine aw_iload_2 dX7_bestGift_26 ?_
  refine aw_bipush (v := (-9)) dX7_bestGift_27 (by decide) ?_
  refine aw_run (zRun_V (c_X7_tryWish_n (ν := ν) (t := t) (V := mWish ν (mHold G) t n) hM zVw.put ht hw (zBox.mk rfl)) gX7_bestGift_X7_tryWish q_X7_tryWish rfl (by decide) rfl ms0 rfl rfl (Nat.le_of_ble_eq_true rfl) dX7_bestGift_29 ⟨Nat.le_refl _, Nat.le_refl _⟩) ?_
  rw [zput_zput, show mTryV (mWish ν (mHold G) t n) 460 = mTryN ν (mHold G) t n from rfl, show mRest (mWish ν (mHold G) t n) = mTryM ν (mHold G) t n from rfl]
  obtain ⟨x0, hx0⟩ : ∃ x0, zBox (mTryN ν (mHold G) t n = x0) := ⟨_, zBox.mk rfl⟩
  rw [hx0.out]
  refine aw_istore_3 dX7_bestGift_32 ?_
  refine aw_iload_3 dX7_bestGift_33 ?_
  refine aw_bipush (v := (-3)) dX7_bestGift_34 (by decide) ?_
  refine aw_icmp_ne (tgt := 42) dX7_bestGift_36 (by decide) (fun c36 => ?_) (fun c36 => absurd c36 (fun e => h.out (hx0.out.trans e)))
  refine aw_bipush (v := (-9)) dX7_bestGift_42 (by decide) ?_
  refine aw_istore_4 dX7_bestGift_44 ?_
  refine aw_iconst (v := 0) dX7_bestGift_46 (by decide) ?_
  refine aw_istore_5 dX7_bestGift_47 ?_
  exact L49 _ 0 _ _ _ _ (Nat.zero_le _) rfl (by unfold mBg; rw [hx0.out]; rfl)
