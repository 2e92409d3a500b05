/-! ===== 40.md11: vessel, bring, forget of the model ===== -/
def mBrA (w : Nat → Int32) (t : Nat) (a : Int32) : Int32 := if w (23 * t + 0) + a < 0 then -w (23 * t + 0) else a
def mWbr (w : Nat → Int32) (t : Nat) (a : Int32) : Nat → Int32 := upd (upd w (23 * t + 0) (w (23 * t + 0) + mBrA w t a)) (23 * t + 6) (upd w (23 * t + 0) (w (23 * t + 0) + mBrA w t a) (23 * t + 6) + mBrA w t a)
theorem mWbr_0 {w : Nat → Int32} {t : Nat} {a : Int32} : mWbr w t a (23 * t + 0) = w (23 * t + 0) + mBrA w t a := by
  unfold mWbr
  rw [upd_ne (by omega), upd_eq]

abbrev mX7_vessel : ZM := (cX7_vessel, RX7, wsX7_vessel, 3, 0, 0, (some .int), 4, yX7_vessel.name)
set_option maxHeartbeats 1000000 in
set_option maxRecDepth 100000 in
theorem c_X7_vessel_b {sh : zSh} {F : Nat → Nat → Int32} {P : Nat → Nat → Option Nat} {μ : Nat} {G : Nat → Nat → Int32} {t v : Int32} (hM : zMd sh P μ) (hG : zVw F μ 13 G) (h : mIn t 0 19 = 0 ∨ (v ≠ -9 ∧ mIn v 0 19 = 0) ∨ t = v) : zMet yX7_vessel wsX7_vessel (3) (0) (0) [.ref μ, .int t, .int v] sh F P (some (.int (-1))) sh F P := by
  refine zMet.of (by decide) rfl (Nat.le_of_ble_eq_true rfl) (by simp [Value.category]) ?_
  intro X ρ
  show AW mX7_vessel X (zMQ mX7_vessel X (some (.int (-1))) sh F P) 0 [some (.ref μ), some (.int t), some (.int v), none] [] ρ sh F P 0 0
  obtain ⟨ms0, ⟨mp0, mp1, mp3, mp5, mp9, mp10, mp11, mp12, mp13, mp17, mp21, mp28⟩, ms1, ms2, ms3, ms4, ms5, ms6, ms7, ms8, ms9, ms10, ms11, ms12⟩ := id hM
  refine aw_cF (F' := zput F μ 13 G) (zput_view hG).symm ?_
  refine aw_iload_1 dX7_vessel_0 ?_
  refine aw_run (zRun_S (c_X7_isThing ) (Or.inl gX7_vessel_X7_isThing) q_X7_isThing (by decide) rfl rfl (Nat.le_of_ble_eq_true rfl) dX7_vessel_1 ⟨Nat.le_refl _, Nat.le_refl _⟩) ?_
  refine aw_if_eq (tgt := 25) dX7_vessel_4 (by decide) (fun c4 => ?_) (fun c4 => ?_)
  · refine aw_iconst (v := (-1)) dX7_vessel_25 (by decide) ?_
    exact aw_ireturn rfl dX7_vessel_26 ⟨Nat.zero_le _, Nat.zero_le _⟩ (by first | rfl | simp [c4]) rfl (zput_view hG) rfl
  · refine aw_iload_2 dX7_vessel_7 ?_
    refine aw_bipush (v := (-9)) dX7_vessel_8 (by decide) ?_
    refine aw_icmp_eq (tgt := 20) dX7_vessel_10 (by decide) (fun c10 => ?_) (fun c10 => ?_)
    · refine aw_iload_1 dX7_vessel_20 ?_
      refine aw_iload_2 dX7_vessel_21 ?_
      refine aw_icmp_ne (tgt := 27) dX7_vessel_22 (by decide) (fun c22 => ?_) (fun c22 => ?_)
      · exact h.elim (fun h => absurd h c4) (fun h => h.elim (fun h => by first | exact absurd c10 h.1 | exact absurd h.2 c17) (fun h => absurd h c22))
      · refine aw_iconst (v := (-1)) dX7_vessel_25 (by decide) ?_
        exact aw_ireturn rfl dX7_vessel_26 ⟨Nat.zero_le _, Nat.zero_le _⟩ (by first | rfl | simp [c4, c10, c22]) rfl (zput_view hG) rfl
    · refine aw_iload_2 dX7_vessel_13 ?_
      refine aw_run (zRun_S (c_X7_isThing ) (Or.inl gX7_vessel_X7_isThing) q_X7_isThing (by decide) rfl rfl (Nat.le_of_ble_eq_true rfl) dX7_vessel_14 ⟨Nat.le_refl _, Nat.le_refl _⟩) ?_
      refine aw_if_eq (tgt := 25) dX7_vessel_17 (by decide) (fun c17 => ?_) (fun c17 => ?_)
      · refine aw_iconst (v := (-1)) dX7_vessel_25 (by decide) ?_
        exact aw_ireturn rfl dX7_vessel_26 ⟨Nat.zero_le _, Nat.zero_le _⟩ (by first | rfl | simp [c4, c10, c17]) rfl (zput_view hG) rfl
      · refine aw_iload_1 dX7_vessel_20 ?_
        refine aw_iload_2 dX7_vessel_21 ?_
        refine aw_icmp_ne (tgt := 27) dX7_vessel_22 (by decide) (fun c22 => ?_) (fun c22 => ?_)
        · exact h.elim (fun h => absurd h c4) (fun h => h.elim (fun h => by first | exact absurd c10 h.1 | exact absurd h.2 c17) (fun h => absurd h c22))
        · refine aw_iconst (v := (-1)) dX7_vessel_25 (by decide) ?_
          exact aw_ireturn rfl dX7_vessel_26 ⟨Nat.zero_le _, Nat.zero_le _⟩ (by first | rfl | simp [c4, c10, c17, c22]) rfl (zput_view hG) rfl

set_option maxHeartbeats 1000000 in
set_option maxRecDepth 100000 in
theorem c_X7_vessel_s {sh : zSh} {F : Nat → Nat → Int32} {P : Nat → Nat → Option Nat} {μ : Nat} {G : Nat → Nat → Int32} {t v : Nat} (hM : zMd sh P μ) (hG : zVw F μ 13 G) (ht : t < 20) (hv20 : v < 20) (hn : ¬ nI t = nI v) (h : G 1 (23 * v + 1) ≠ -9 ∨ mIsVes (G 1) (nI t) 20 = true) : zMet yX7_vessel wsX7_vessel (3) (0) (0) [.ref μ, .int (nI t), .int (nI v)] sh F P (some (.int (-2))) sh F P := by
  refine zMet.of (by decide) rfl (Nat.le_of_ble_eq_true rfl) (by simp [Value.category]) ?_
  intro X ρ
  show AW mX7_vessel X (zMQ mX7_vessel X (some (.int (-2))) sh F P) 0 [some (.ref μ), some (.int (nI t)), some (.int (nI v)), none] [] ρ sh F P 0 0
  obtain ⟨ms0, ⟨mp0, mp1, mp3, mp5, mp9, mp10, mp11, mp12, mp13, mp17, mp21, mp28⟩, ms1, ms2, ms3, ms4, ms5, ms6, ms7, ms8, ms9, ms10, ms11, ms12⟩ := id hM
  refine aw_cF (F' := zput F μ 13 G) (zput_view hG).symm ?_
  refine aw_iload_1 dX7_vessel_0 ?_
  refine aw_run (zRun_S (c_X7_isThing ) (Or.inl gX7_vessel_X7_isThing) q_X7_isThing (by decide) rfl rfl (Nat.le_of_ble_eq_true rfl) dX7_vessel_1 ⟨Nat.le_refl _, Nat.le_refl _⟩) ?_
  refine aw_if_eq (tgt := 25) dX7_vessel_4 (by decide) (fun c4 => absurd c4 (mIn_20 ht)) (fun c4 => ?_)
  refine aw_iload_2 dX7_vessel_7 ?_
  refine aw_bipush (v := (-9)) dX7_vessel_8 (by decide) ?_
  refine aw_icmp_eq (tgt := 20) dX7_vessel_10 (by decide) (fun c10 => absurd c10 (n9 (by omega))) (fun c10 => ?_)
  refine aw_iload_2 dX7_vessel_13 ?_
  refine aw_run (zRun_S (c_X7_isThing ) (Or.inl gX7_vessel_X7_isThing) q_X7_isThing (by decide) rfl rfl (Nat.le_of_ble_eq_true rfl) dX7_vessel_14 ⟨Nat.le_refl _, Nat.le_refl _⟩) ?_
  refine aw_if_eq (tgt := 25) dX7_vessel_17 (by decide) (fun c17 => absurd c17 (mIn_20 hv20)) (fun c17 => ?_)
  refine aw_iload_1 dX7_vessel_20 ?_
  refine aw_iload_2 dX7_vessel_21 ?_
  refine aw_icmp_ne (tgt := 27) dX7_vessel_22 (by decide) (fun c22 => ?_) (fun c22 => absurd c22 hn)
  refine aw_iload_2 dX7_vessel_27 ?_
  refine aw_bipush (v := (-9)) dX7_vessel_28 (by decide) ?_
  refine aw_icmp_eq (tgt := 55) dX7_vessel_30 (by decide) (fun c30 => absurd c30 (n9 (by omega))) (fun c30 => ?_)
  refine aw_aload_0 dX7_vessel_33 ?_
  refine aw_iload_2 dX7_vessel_34 ?_
  refine aw_iconst (v := 1) dX7_vessel_35 (by decide) ?_
  refine aw_run (zRun_V (c_X7_of (t := v) (k := 1) hM zVw.put (by omega)) gX7_vessel_X7_of q_X7_of rfl (by decide) rfl ms0 rfl rfl (Nat.le_of_ble_eq_true rfl) dX7_vessel_36 ⟨Nat.le_refl _, Nat.le_refl _⟩) ?_
  refine aw_bipush (v := (-9)) dX7_vessel_39 (by decide) ?_
  refine aw_icmp_ne (tgt := 52) dX7_vessel_41 (by decide) (fun c41 => ?_) (fun c41 => ?_)
  · refine aw_bipush (v := (-2)) dX7_vessel_52 (by decide) ?_
    exact aw_ireturn rfl dX7_vessel_54 ⟨Nat.zero_le _, Nat.zero_le _⟩ (by first | rfl | simp [c4, c10, c17, c22, c30, c41]) rfl (zput_view hG) rfl
  · refine aw_aload_0 dX7_vessel_44 ?_
    refine aw_iload_1 dX7_vessel_45 ?_
    refine aw_run (zRun_V (c_X7_isVessel hM zVw.put) gX7_vessel_X7_isVessel q_X7_isVessel rfl (by decide) rfl ms0 rfl rfl (Nat.le_of_ble_eq_true rfl) dX7_vessel_46 ⟨Nat.le_refl _, Nat.le_refl _⟩) ?_
    refine aw_if_eq (tgt := 55) dX7_vessel_49 (by decide) (fun c49 => ?_) (fun c49 => ?_)
    · exact h.elim (fun e => absurd c41 e) (fun e => absurd e (z10 c49))
    · refine aw_bipush (v := (-2)) dX7_vessel_52 (by decide) ?_
      exact aw_ireturn rfl dX7_vessel_54 ⟨Nat.zero_le _, Nat.zero_le _⟩ (by first | rfl | simp [c4, c10, c17, c22, c30, c41, c49]) rfl (zput_view hG) rfl

set_option maxHeartbeats 1000000 in
set_option maxRecDepth 100000 in
theorem c_X7_vessel_n {sh : zSh} {F : Nat → Nat → Int32} {P : Nat → Nat → Option Nat} {μ : Nat} {G : Nat → Nat → Int32} {t p : Nat} (hM : zMd sh P μ) (hG : zVw F μ 13 G) (ht : t < 20) (hp : p ≤ 8) (h2 : G 0 2 = nI p) : zMet yX7_vessel wsX7_vessel (3) (0) (0) [.ref μ, .int (nI t), .int (-9)] sh F P (some (.int (G 1 (23 * t + 1)))) sh (zput F μ 13 (mPut (mRemember G p) (23 * t + 1) (-9))) P := by
  refine zMet.of (by decide) rfl (Nat.le_of_ble_eq_true rfl) (by simp [Value.category]) ?_
  intro X ρ
  show AW mX7_vessel X (zMQ mX7_vessel X (some (.int (G 1 (23 * t + 1)))) sh (zput F μ 13 (mPut (mRemember G p) (23 * t + 1) (-9))) P) 0 [some (.ref μ), some (.int (nI t)), some (.int (-9)), none] [] ρ sh F P 0 0
  obtain ⟨ms0, ⟨mp0, mp1, mp3, mp5, mp9, mp10, mp11, mp12, mp13, mp17, mp21, mp28⟩, ms1, ms2, ms3, ms4, ms5, ms6, ms7, ms8, ms9, ms10, ms11, ms12⟩ := id hM
  refine aw_cF (F' := zput F μ 13 G) (zput_view hG).symm ?_
  refine aw_iload_1 dX7_vessel_0 ?_
  refine aw_run (zRun_S (c_X7_isThing ) (Or.inl gX7_vessel_X7_isThing) q_X7_isThing (by decide) rfl rfl (Nat.le_of_ble_eq_true rfl) dX7_vessel_1 ⟨Nat.le_refl _, Nat.le_refl _⟩) ?_
  refine aw_if_eq (tgt := 25) dX7_vessel_4 (by decide) (fun c4 => absurd c4 (mIn_20 ht)) (fun c4 => ?_)
  refine aw_iload_2 dX7_vessel_7 ?_
  refine aw_bipush (v := (-9)) dX7_vessel_8 (by decide) ?_
  refine aw_icmp_eq (tgt := 20) dX7_vessel_10 (by decide) (fun c10 => ?_) (fun c10 => absurd rfl c10)
  refine aw_iload_1 dX7_vessel_20 ?_
  refine aw_iload_2 dX7_vessel_21 ?_
  refine aw_icmp_ne (tgt := 27) dX7_vessel_22 (by decide) (fun c22 => ?_) (fun c22 => absurd c22 (n9 (by omega)))
  refine aw_iload_2 dX7_vessel_27 ?_
  refine aw_bipush (v := (-9)) dX7_vessel_28 (by decide) ?_
  refine aw_icmp_eq (tgt := 55) dX7_vessel_30 (by decide) (fun c30 => ?_) (fun c30 => absurd rfl c30)
  refine aw_aload_0 dX7_vessel_55 ?_
  refine aw_runv (zRun_V (c_X7_remember (p := p) hM zVw.put hp h2) gX7_vessel_X7_remember q_X7_remember rfl (by decide) rfl ms0 rfl rfl (Nat.le_of_ble_eq_true rfl) dX7_vessel_56 ⟨Nat.le_refl _, Nat.le_refl _⟩) ?_
  rw [zput_zput]
  refine aw_aload_0 dX7_vessel_59 ?_
  refine aw_iload_1 dX7_vessel_60 ?_
  refine aw_iconst (v := 1) dX7_vessel_61 (by decide) ?_
  refine aw_run (zRun_V (c_X7_of (t := t) (k := 1) hM zVw.put (by omega)) gX7_vessel_X7_of q_X7_of rfl (by decide) rfl ms0 rfl rfl (Nat.le_of_ble_eq_true rfl) dX7_vessel_62 ⟨Nat.le_refl _, Nat.le_refl _⟩) ?_
  rw [mRemember_1 (by decide) (by decide)]
  refine aw_istore_3 dX7_vessel_65 ?_
  refine aw_aload_0 dX7_vessel_66 ?_
  refine aw_iload_1 dX7_vessel_67 ?_
  refine aw_iconst (v := 1) dX7_vessel_68 (by decide) ?_
  refine aw_iload_2 dX7_vessel_69 ?_
  refine aw_runv (zRun_V (c_X7_put (t := t) (k := 1) hM zVw.put (by omega)) gX7_vessel_X7_put q_X7_put rfl (by decide) rfl ms0 rfl rfl (Nat.le_of_ble_eq_true rfl) dX7_vessel_70 ⟨Nat.le_refl _, Nat.le_refl _⟩) ?_
  refine aw_iload_3 dX7_vessel_73 ?_
  exact aw_ireturn rfl dX7_vessel_74 ⟨Nat.zero_le _, Nat.zero_le _⟩ rfl rfl (by rw [zput_zput]; unfold mPut; rfl) rfl

set_option maxHeartbeats 1000000 in
set_option maxRecDepth 100000 in
theorem c_X7_vessel_o {sh : zSh} {F : Nat → Nat → Int32} {P : Nat → Nat → Option Nat} {μ : Nat} {G : Nat → Nat → Int32} {t v p : Nat} (hM : zMd sh P μ) (hG : zVw F μ 13 G) (ht : t < 20) (hv20 : v < 20) (hn : ¬ nI t = nI v) (h : G 1 (23 * v + 1) = -9) (hi : ¬ mIsVes (G 1) (nI t) 20 = true) (hp : p ≤ 8) (h2 : G 0 2 = nI p) : zMet yX7_vessel wsX7_vessel (3) (0) (0) [.ref μ, .int (nI t), .int (nI v)] sh F P (some (.int (G 1 (23 * t + 1)))) sh (zput F μ 13 (mPut (mRemember G p) (23 * t + 1) (nI v))) P := by
  refine zMet.of (by decide) rfl (Nat.le_of_ble_eq_true rfl) (by simp [Value.category]) ?_
  intro X ρ
  show AW mX7_vessel X (zMQ mX7_vessel X (some (.int (G 1 (23 * t + 1)))) sh (zput F μ 13 (mPut (mRemember G p) (23 * t + 1) (nI v))) P) 0 [some (.ref μ), some (.int (nI t)), some (.int (nI v)), none] [] ρ sh F P 0 0
  obtain ⟨ms0, ⟨mp0, mp1, mp3, mp5, mp9, mp10, mp11, mp12, mp13, mp17, mp21, mp28⟩, ms1, ms2, ms3, ms4, ms5, ms6, ms7, ms8, ms9, ms10, ms11, ms12⟩ := id hM
  refine aw_cF (F' := zput F μ 13 G) (zput_view hG).symm ?_
  refine aw_iload_1 dX7_vessel_0 ?_
  refine aw_run (zRun_S (c_X7_isThing ) (Or.inl gX7_vessel_X7_isThing) q_X7_isThing (by decide) rfl rfl (Nat.le_of_ble_eq_true rfl) dX7_vessel_1 ⟨Nat.le_refl _, Nat.le_refl _⟩) ?_
  refine aw_if_eq (tgt := 25) dX7_vessel_4 (by decide) (fun c4 => absurd c4 (mIn_20 ht)) (fun c4 => ?_)
  refine aw_iload_2 dX7_vessel_7 ?_
  refine aw_bipush (v := (-9)) dX7_vessel_8 (by decide) ?_
  refine aw_icmp_eq (tgt := 20) dX7_vessel_10 (by decide) (fun c10 => absurd c10 (n9 (by omega))) (fun c10 => ?_)
  refine aw_iload_2 dX7_vessel_13 ?_
  refine aw_run (zRun_S (c_X7_isThing ) (Or.inl gX7_vessel_X7_isThing) q_X7_isThing (by decide) rfl rfl (Nat.le_of_ble_eq_true rfl) dX7_vessel_14 ⟨Nat.le_refl _, Nat.le_refl _⟩) ?_
  refine aw_if_eq (tgt := 25) dX7_vessel_17 (by decide) (fun c17 => absurd c17 (mIn_20 hv20)) (fun c17 => ?_)
  refine aw_iload_1 dX7_vessel_20 ?_
  refine aw_iload_2 dX7_vessel_21 ?_
  refine aw_icmp_ne (tgt := 27) dX7_vessel_22 (by decide) (fun c22 => ?_) (fun c22 => absurd c22 hn)
  refine aw_iload_2 dX7_vessel_27 ?_
  refine aw_bipush (v := (-9)) dX7_vessel_28 (by decide) ?_
  refine aw_icmp_eq (tgt := 55) dX7_vessel_30 (by decide) (fun c30 => absurd c30 (n9 (by omega))) (fun c30 => ?_)
  refine aw_aload_0 dX7_vessel_33 ?_
  refine aw_iload_2 dX7_vessel_34 ?_
  refine aw_iconst (v := 1) dX7_vessel_35 (by decide) ?_
  refine aw_run (zRun_V (c_X7_of (t := v) (k := 1) hM zVw.put (by omega)) gX7_vessel_X7_of q_X7_of rfl (by decide) rfl ms0 rfl rfl (Nat.le_of_ble_eq_true rfl) dX7_vessel_36 ⟨Nat.le_refl _, Nat.le_refl _⟩) ?_
  refine aw_bipush (v := (-9)) dX7_vessel_39 (by decide) ?_
  refine aw_icmp_ne (tgt := 52) dX7_vessel_41 (by decide) (fun c41 => absurd c41 (fun e => e h)) (fun c41 => ?_)
  refine aw_aload_0 dX7_vessel_44 ?_
  refine aw_iload_1 dX7_vessel_45 ?_
  refine aw_run (zRun_V (c_X7_isVessel hM zVw.put) gX7_vessel_X7_isVessel q_X7_isVessel rfl (by decide) rfl ms0 rfl rfl (Nat.le_of_ble_eq_true rfl) dX7_vessel_46 ⟨Nat.le_refl _, Nat.le_refl _⟩) ?_
  refine aw_if_eq (tgt := 55) dX7_vessel_49 (by decide) (fun c49 => ?_) (fun c49 => ?_)
  · refine aw_aload_0 dX7_vessel_55 ?_
    refine aw_runv (zRun_V (c_X7_remember (p := p) hM zVw.put hp h2) gX7_vessel_X7_remember q_X7_remember rfl (by decide) rfl ms0 rfl rfl (Nat.le_of_ble_eq_true rfl) dX7_vessel_56 ⟨Nat.le_refl _, Nat.le_refl _⟩) ?_
    rw [zput_zput]
    refine aw_aload_0 dX7_vessel_59 ?_
    refine aw_iload_1 dX7_vessel_60 ?_
    refine aw_iconst (v := 1) dX7_vessel_61 (by decide) ?_
    refine aw_run (zRun_V (c_X7_of (t := t) (k := 1) hM zVw.put (by omega)) gX7_vessel_X7_of q_X7_of rfl (by decide) rfl ms0 rfl rfl (Nat.le_of_ble_eq_true rfl) dX7_vessel_62 ⟨Nat.le_refl _, Nat.le_refl _⟩) ?_
    rw [mRemember_1 (by decide) (by decide)]
    refine aw_istore_3 dX7_vessel_65 ?_
    refine aw_aload_0 dX7_vessel_66 ?_
    refine aw_iload_1 dX7_vessel_67 ?_
    refine aw_iconst (v := 1) dX7_vessel_68 (by decide) ?_
    refine aw_iload_2 dX7_vessel_69 ?_
    refine aw_runv (zRun_V (c_X7_put (t := t) (k := 1) hM zVw.put (by omega)) gX7_vessel_X7_put q_X7_put rfl (by decide) rfl ms0 rfl rfl (Nat.le_of_ble_eq_true rfl) dX7_vessel_70 ⟨Nat.le_refl _, Nat.le_refl _⟩) ?_
    refine aw_iload_3 dX7_vessel_73 ?_
    exact aw_ireturn rfl dX7_vessel_74 ⟨Nat.zero_le _, Nat.zero_le _⟩ rfl rfl (by rw [zput_zput]; unfold mPut; rfl) rfl
  · exact absurd (z10n c49) hi

abbrev mX7_bring : ZM := (cX7_bring, RX7, wsX7_bring, 3, 0, 0, (some .int), 4, yX7_bring.name)
set_option maxHeartbeats 1000000 in
set_option maxRecDepth 100000 in
theorem c_X7_bring_b {sh : zSh} {F : Nat → Nat → Int32} {P : Nat → Nat → Option Nat} {μ : Nat} {G : Nat → Nat → Int32} {t a : Int32} (hM : zMd sh P μ) (hG : zVw F μ 13 G) (h : mIn t 0 19 = 0 ∨ mIn a (-9999) 9999 = 0) : zMet yX7_bring wsX7_bring (3) (0) (0) [.ref μ, .int t, .int a] sh F P (some (.int (-1))) sh F P := by
  refine zMet.of (by decide) rfl (Nat.le_of_ble_eq_true rfl) (by simp [Value.category]) ?_
  intro X ρ
  show AW mX7_bring X (zMQ mX7_bring X (some (.int (-1))) sh F P) 0 [some (.ref μ), some (.int t), some (.int a), none] [] ρ sh F P 0 0
  obtain ⟨ms0, ⟨mp0, mp1, mp3, mp5, mp9, mp10, mp11, mp12, mp13, mp17, mp21, mp28⟩, ms1, ms2, ms3, ms4, ms5, ms6, ms7, ms8, ms9, ms10, ms11, ms12⟩ := id hM
  refine aw_cF (F' := zput F μ 13 G) (zput_view hG).symm ?_
  refine aw_iload_1 dX7_bring_0 ?_
  refine aw_run (zRun_S (c_X7_isThing ) (Or.inl gX7_bring_X7_isThing) q_X7_isThing (by decide) rfl rfl (Nat.le_of_ble_eq_true rfl) dX7_bring_1 ⟨Nat.le_refl _, Nat.le_refl _⟩) ?_
  refine aw_if_eq (tgt := 20) dX7_bring_4 (by decide) (fun c4 => ?_) (fun c4 => ?_)
  · refine aw_iconst (v := (-1)) dX7_bring_20 (by decide) ?_
    exact aw_ireturn rfl dX7_bring_21 ⟨Nat.zero_le _, Nat.zero_le _⟩ (by first | rfl | simp [c4]) rfl (zput_view hG) rfl
  · refine aw_iload_2 dX7_bring_7 ?_
    refine aw_sipush (v := (-9999)) dX7_bring_8 (by decide) ?_
    refine aw_sipush (v := 9999) dX7_bring_11 (by decide) ?_
    refine aw_run (zRun_S (c_X7_isIn ) (Or.inl gX7_bring_X7_isIn) q_X7_isIn (by decide) rfl rfl (Nat.le_of_ble_eq_true rfl) dX7_bring_14 ⟨Nat.le_refl _, Nat.le_refl _⟩) ?_
    refine aw_if_ne (tgt := 22) dX7_bring_17 (by decide) (fun c17 => ?_) (fun c17 => ?_)
    · exact absurd h (by simp [c4, c17])
    · refine aw_iconst (v := (-1)) dX7_bring_20 (by decide) ?_
      exact aw_ireturn rfl dX7_bring_21 ⟨Nat.zero_le _, Nat.zero_le _⟩ (by first | rfl | simp [c4, c17]) rfl (zput_view hG) rfl

set_option maxHeartbeats 1000000 in
set_option maxRecDepth 100000 in
theorem c_X7_bring_f {sh : zSh} {F : Nat → Nat → Int32} {P : Nat → Nat → Option Nat} {μ : Nat} {G : Nat → Nat → Int32} {t : Nat} {a : Int32} (hM : zMd sh P μ) (hG : zVw F μ 13 G) (ht : t < 20) (ha : ¬ mIn a (-9999) 9999 = 0) (h : ¬ G 1 (23 * t + 0) + a ≤ 99999) : zMet yX7_bring wsX7_bring (3) (0) (0) [.ref μ, .int (nI t), .int a] sh F P (some (.int (-3))) sh F P := by
  refine zMet.of (by decide) rfl (Nat.le_of_ble_eq_true rfl) (by simp [Value.category]) ?_
  intro X ρ
  show AW mX7_bring X (zMQ mX7_bring X (some (.int (-3))) sh F P) 0 [some (.ref μ), some (.int (nI t)), some (.int a), none] [] ρ sh F P 0 0
  obtain ⟨ms0, ⟨mp0, mp1, mp3, mp5, mp9, mp10, mp11, mp12, mp13, mp17, mp21, mp28⟩, ms1, ms2, ms3, ms4, ms5, ms6, ms7, ms8, ms9, ms10, ms11, ms12⟩ := id hM
  refine aw_cF (F' := zput F μ 13 G) (zput_view hG).symm ?_
  refine aw_iload_1 dX7_bring_0 ?_
  refine aw_run (zRun_S (c_X7_isThing ) (Or.inl gX7_bring_X7_isThing) q_X7_isThing (by decide) rfl rfl (Nat.le_of_ble_eq_true rfl) dX7_bring_1 ⟨Nat.le_refl _, Nat.le_refl _⟩) ?_
  refine aw_if_eq (tgt := 20) dX7_bring_4 (by decide) (fun c4 => absurd c4 (mIn_20 ht)) (fun c4 => ?_)
  refine aw_iload_2 dX7_bring_7 ?_
  refine aw_sipush (v := (-9999)) dX7_bring_8 (by decide) ?_
  refine aw_sipush (v := 9999) dX7_bring_11 (by decide) ?_
  refine aw_run (zRun_S (c_X7_isIn ) (Or.inl gX7_bring_X7_isIn) q_X7_isIn (by decide) rfl rfl (Nat.le_of_ble_eq_true rfl) dX7_bring_14 ⟨Nat.le_refl _, Nat.le_refl _⟩) ?_
  refine aw_if_ne (tgt := 22) dX7_bring_17 (by decide) (fun c17 => ?_) (fun c17 => absurd c17 ha)
  refine aw_aload_0 dX7_bring_22 ?_
  refine aw_iload_1 dX7_bring_23 ?_
  refine aw_iconst (v := 0) dX7_bring_24 (by decide) ?_
  refine aw_run (zRun_V (c_X7_of (t := t) (k := 0) hM zVw.put (by omega)) gX7_bring_X7_of q_X7_of rfl (by decide) rfl ms0 rfl rfl (Nat.le_of_ble_eq_true rfl) dX7_bring_25 ⟨Nat.le_refl _, Nat.le_refl _⟩) ?_
  refine aw_iload_2 dX7_bring_28 ?_
  refine aw_iadd dX7_bring_29 ?_
  refine aw_ldc (v := 99999) (by decide +kernel : Cond.constant RX7 84 99999 ∈ wsX7_bring) dX7_bring_30 ?_
  refine aw_icmp_le (tgt := 38) dX7_bring_32 (by decide) (fun c32 => absurd c32 h) (fun c32 => ?_)
  refine aw_bipush (v := (-3)) dX7_bring_35 (by decide) ?_
  exact aw_ireturn rfl dX7_bring_37 ⟨Nat.zero_le _, Nat.zero_le _⟩ (by first | rfl | simp [c4, c17, c32]) rfl (zput_view hG) rfl

set_option maxHeartbeats 1000000 in
set_option maxRecDepth 100000 in
theorem c_X7_bring_o {sh : zSh} {F : Nat → Nat → Int32} {P : Nat → Nat → Option Nat} {μ : Nat} {G : Nat → Nat → Int32} {t p : Nat} {a : Int32} (hM : zMd sh P μ) (hG : zVw F μ 13 G) (ht : t < 20) (ha : ¬ mIn a (-9999) 9999 = 0) (h : G 1 (23 * t + 0) + a ≤ 99999) (hp : p ≤ 8) (h2 : G 0 2 = nI p) : zMet yX7_bring wsX7_bring (3) (0) (0) [.ref μ, .int (nI t), .int a] sh F P (some (.int (G 1 (23 * t + 0) + mBrA (G 1) t a))) sh (zput F μ 13 (va_up (mRemember G p) 1 (mWbr (G 1) t a))) P := by
  refine zMet.of (by decide) rfl (Nat.le_of_ble_eq_true rfl) (by simp [Value.category]) ?_
  intro X ρ
  show AW mX7_bring X (zMQ mX7_bring X (some (.int (G 1 (23 * t + 0) + mBrA (G 1) t a))) sh (zput F μ 13 (va_up (mRemember G p) 1 (mWbr (G 1) t a))) P) 0 [some (.ref μ), some (.int (nI t)), some (.int a), none] [] ρ sh F P 0 0
  obtain ⟨ms0, ⟨mp0, mp1, mp3, mp5, mp9, mp10, mp11, mp12, mp13, mp17, mp21, mp28⟩, ms1, ms2, ms3, ms4, ms5, ms6, ms7, ms8, ms9, ms10, ms11, ms12⟩ := id hM
  refine aw_cF (F' := zput F μ 13 G) (zput_view hG).symm ?_
  refine aw_iload_1 dX7_bring_0 ?_
  refine aw_run (zRun_S (c_X7_isThing ) (Or.inl gX7_bring_X7_isThing) q_X7_isThing (by decide) rfl rfl (Nat.le_of_ble_eq_true rfl) dX7_bring_1 ⟨Nat.le_refl _, Nat.le_refl _⟩) ?_
  refine aw_if_eq (tgt := 20) dX7_bring_4 (by decide) (fun c4 => absurd c4 (mIn_20 ht)) (fun c4 => ?_)
  refine aw_iload_2 dX7_bring_7 ?_
  refine aw_sipush (v := (-9999)) dX7_bring_8 (by decide) ?_
  refine aw_sipush (v := 9999) dX7_bring_11 (by decide) ?_
  refine aw_run (zRun_S (c_X7_isIn ) (Or.inl gX7_bring_X7_isIn) q_X7_isIn (by decide) rfl rfl (Nat.le_of_ble_eq_true rfl) dX7_bring_14 ⟨Nat.le_refl _, Nat.le_refl _⟩) ?_
  refine aw_if_ne (tgt := 22) dX7_bring_17 (by decide) (fun c17 => ?_) (fun c17 => absurd c17 ha)
  refine aw_aload_0 dX7_bring_22 ?_
  refine aw_iload_1 dX7_bring_23 ?_
  refine aw_iconst (v := 0) dX7_bring_24 (by decide) ?_
  refine aw_run (zRun_V (c_X7_of (t := t) (k := 0) hM zVw.put (by omega)) gX7_bring_X7_of q_X7_of rfl (by decide) rfl ms0 rfl rfl (Nat.le_of_ble_eq_true rfl) dX7_bring_25 ⟨Nat.le_refl _, Nat.le_refl _⟩) ?_
  refine aw_iload_2 dX7_bring_28 ?_
  refine aw_iadd dX7_bring_29 ?_
  refine aw_ldc (v := 99999) (by decide +kernel : Cond.constant RX7 84 99999 ∈ wsX7_bring) dX7_bring_30 ?_
  refine aw_icmp_le (tgt := 38) dX7_bring_32 (by decide) (fun c32 => ?_) (fun c32 => absurd h c32)
  refine aw_aload_0 dX7_bring_38 ?_
  refine aw_runv (zRun_V (c_X7_remember (p := p) hM zVw.put hp h2) gX7_bring_X7_remember q_X7_remember rfl (by decide) rfl ms0 rfl rfl (Nat.le_of_ble_eq_true rfl) dX7_bring_39 ⟨Nat.le_refl _, Nat.le_refl _⟩) ?_
  rw [zput_zput]
  refine aw_aload_0 dX7_bring_42 ?_
  refine aw_iload_1 dX7_bring_43 ?_
  refine aw_iconst (v := 0) dX7_bring_44 (by decide) ?_
  refine aw_run (zRun_V (c_X7_of (t := t) (k := 0) hM zVw.put (by omega)) gX7_bring_X7_of q_X7_of rfl (by decide) rfl ms0 rfl rfl (Nat.le_of_ble_eq_true rfl) dX7_bring_45 ⟨Nat.le_refl _, Nat.le_refl _⟩) ?_
  rw [mRemember_1 (by decide) (by decide)]
  refine aw_iload_2 dX7_bring_48 ?_
  refine aw_iadd dX7_bring_49 ?_
  refine aw_if_ge (tgt := 63) dX7_bring_50 (by decide) (fun c50 => ?_) (fun c50 => ?_)
  · refine aw_iload_2 dX7_bring_63 ?_
    refine aw_top (x' := mBrA (G 1) t a) (by unfold mBrA; first | exact if_neg (Int32.not_lt.mpr c50) | exact if_pos (Int32.not_le.mp c50)) ?_
    refine aw_istore_3 dX7_bring_64 ?_
    refine aw_aload_0 dX7_bring_65 ?_
    refine aw_iload_1 dX7_bring_66 ?_
    refine aw_iconst (v := 0) dX7_bring_67 (by decide) ?_
    refine aw_aload_0 dX7_bring_68 ?_
    refine aw_iload_1 dX7_bring_69 ?_
    refine aw_iconst (v := 0) dX7_bring_70 (by decide) ?_
    refine aw_run (zRun_V (c_X7_of (t := t) (k := 0) hM zVw.put (by omega)) gX7_bring_X7_of q_X7_of rfl (by decide) rfl ms0 rfl rfl (Nat.le_of_ble_eq_true rfl) dX7_bring_71 ⟨Nat.le_refl _, Nat.le_refl _⟩) ?_
    rw [mRemember_1 (by decide) (by decide)]
    refine aw_iload_3 dX7_bring_74 ?_
    refine aw_iadd dX7_bring_75 ?_
    refine aw_runv (zRun_V (c_X7_put (t := t) (k := 0) hM zVw.put (by omega)) gX7_bring_X7_put q_X7_put rfl (by decide) rfl ms0 rfl rfl (Nat.le_of_ble_eq_true rfl) dX7_bring_76 ⟨Nat.le_refl _, Nat.le_refl _⟩) ?_
    rw [zput_zput, mRemember_1 (show 1 ≠ 0 by decide) (by decide)]
    refine aw_aload_0 dX7_bring_79 ?_
    refine aw_iload_1 dX7_bring_80 ?_
    refine aw_bipush (v := 6) dX7_bring_81 (by decide) ?_
    refine aw_aload_0 dX7_bring_83 ?_
    refine aw_iload_1 dX7_bring_84 ?_
    refine aw_bipush (v := 6) dX7_bring_85 (by decide) ?_
    refine aw_run (zRun_V (c_X7_of (t := t) (k := 6) hM zVw.put (by omega)) gX7_bring_X7_of q_X7_of rfl (by decide) rfl ms0 rfl rfl (Nat.le_of_ble_eq_true rfl) dX7_bring_87 ⟨Nat.le_refl _, Nat.le_refl _⟩) ?_
    rw [zup_eq]
    refine aw_iload_3 dX7_bring_90 ?_
    refine aw_iadd dX7_bring_91 ?_
    refine aw_runv (zRun_V (c_X7_put (t := t) (k := 6) hM zVw.put (by omega)) gX7_bring_X7_put q_X7_put rfl (by decide) rfl ms0 rfl rfl (Nat.le_of_ble_eq_true rfl) dX7_bring_92 ⟨Nat.le_refl _, Nat.le_refl _⟩) ?_
    rw [zput_zput, zup_eq, va_up_up, show upd (upd (G 1) (23 * t + 0) (G 1 (23 * t + 0) + mBrA (G 1) t a)) (23 * t + 6) (upd (G 1) (23 * t + 0) (G 1 (23 * t + 0) + mBrA (G 1) t a) (23 * t + 6) + mBrA (G 1) t a) = mWbr (G 1) t a from rfl]
    refine aw_aload_0 dX7_bring_95 ?_
    refine aw_iload_1 dX7_bring_96 ?_
    refine aw_iconst (v := 0) dX7_bring_97 (by decide) ?_
    refine aw_run (zRun_V (c_X7_of (t := t) (k := 0) hM zVw.put (by omega)) gX7_bring_X7_of q_X7_of rfl (by decide) rfl ms0 rfl rfl (Nat.le_of_ble_eq_true rfl) dX7_bring_98 ⟨Nat.le_refl _, Nat.le_refl _⟩) ?_
    rw [zup_eq, mWbr_0]
    exact aw_ireturn rfl dX7_bring_101 ⟨Nat.zero_le _, Nat.zero_le _⟩ rfl rfl rfl rfl
  · refine aw_aload_0 dX7_bring_53 ?_
    refine aw_iload_1 dX7_bring_54 ?_
    refine aw_iconst (v := 0) dX7_bring_55 (by decide) ?_
    refine aw_run (zRun_V (c_X7_of (t := t) (k := 0) hM zVw.put (by omega)) gX7_bring_X7_of q_X7_of rfl (by decide) rfl ms0 rfl rfl (Nat.le_of_ble_eq_true rfl) dX7_bring_56 ⟨Nat.le_refl _, Nat.le_refl _⟩) ?_
    rw [mRemember_1 (by decide) (by decide)]
    refine aw_ineg dX7_bring_59 ?_
    refine aw_goto (tgt := 64) dX7_bring_60 (by decide) ?_
    refine aw_top (x' := mBrA (G 1) t a) (by unfold mBrA; first | exact if_neg (Int32.not_lt.mpr c50) | exact if_pos (Int32.not_le.mp c50)) ?_
    refine aw_istore_3 dX7_bring_64 ?_
    refine aw_aload_0 dX7_bring_65 ?_
    refine aw_iload_1 dX7_bring_66 ?_
    refine aw_iconst (v := 0) dX7_bring_67 (by decide) ?_
    refine aw_aload_0 dX7_bring_68 ?_
    refine aw_iload_1 dX7_bring_69 ?_
    refine aw_iconst (v := 0) dX7_bring_70 (by decide) ?_
    refine aw_run (zRun_V (c_X7_of (t := t) (k := 0) hM zVw.put (by omega)) gX7_bring_X7_of q_X7_of rfl (by decide) rfl ms0 rfl rfl (Nat.le_of_ble_eq_true rfl) dX7_bring_71 ⟨Nat.le_refl _, Nat.le_refl _⟩) ?_
    rw [mRemember_1 (by decide) (by decide)]
    refine aw_iload_3 dX7_bring_74 ?_
    refine aw_iadd dX7_bring_75 ?_
    refine aw_runv (zRun_V (c_X7_put (t := t) (k := 0) hM zVw.put (by omega)) gX7_bring_X7_put q_X7_put rfl (by decide) rfl ms0 rfl rfl (Nat.le_of_ble_eq_true rfl) dX7_bring_76 ⟨Nat.le_refl _, Nat.le_refl _⟩) ?_
    rw [zput_zput, mRemember_1 (show 1 ≠ 0 by decide) (by decide)]
    refine aw_aload_0 dX7_bring_79 ?_
    refine aw_iload_1 dX7_bring_80 ?_
    refine aw_bipush (v := 6) dX7_bring_81 (by decide) ?_
    refine aw_aload_0 dX7_bring_83 ?_
    refine aw_iload_1 dX7_bring_84 ?_
    refine aw_bipush (v := 6) dX7_bring_85 (by decide) ?_
    refine aw_run (zRun_V (c_X7_of (t := t) (k := 6) hM zVw.put (by omega)) gX7_bring_X7_of q_X7_of rfl (by decide) rfl ms0 rfl rfl (Nat.le_of_ble_eq_true rfl) dX7_bring_87 ⟨Nat.le_refl _, Nat.le_refl _⟩) ?_
    rw [zup_eq]
    refine aw_iload_3 dX7_bring_90 ?_
    refine aw_iadd dX7_bring_91 ?_
    refine aw_runv (zRun_V (c_X7_put (t := t) (k := 6) hM zVw.put (by omega)) gX7_bring_X7_put q_X7_put rfl (by decide) rfl ms0 rfl rfl (Nat.le_of_ble_eq_true rfl) dX7_bring_92 ⟨Nat.le_refl _, Nat.le_refl _⟩) ?_
    rw [zput_zput, zup_eq, va_up_up, show upd (upd (G 1) (23 * t + 0) (G 1 (23 * t + 0) + mBrA (G 1) t a)) (23 * t + 6) (upd (G 1) (23 * t + 0) (G 1 (23 * t + 0) + mBrA (G 1) t a) (23 * t + 6) + mBrA (G 1) t a) = mWbr (G 1) t a from rfl]
    refine aw_aload_0 dX7_bring_95 ?_
    refine aw_iload_1 dX7_bring_96 ?_
    refine aw_iconst (v := 0) dX7_bring_97 (by decide) ?_
    refine aw_run (zRun_V (c_X7_of (t := t) (k := 0) hM zVw.put (by omega)) gX7_bring_X7_of q_X7_of rfl (by decide) rfl ms0 rfl rfl (Nat.le_of_ble_eq_true rfl) dX7_bring_98 ⟨Nat.le_refl _, Nat.le_refl _⟩) ?_
    rw [zup_eq, mWbr_0]
    exact aw_ireturn rfl dX7_bring_101 ⟨Nat.zero_le _, Nat.zero_le _⟩ rfl rfl rfl rfl

abbrev mX7_forget : ZM := (cX7_forget, RX7, wsX7_forget, 3, 0, 0, (some .int), 3, yX7_forget.name)
set_option maxHeartbeats 1000000 in
set_option maxRecDepth 100000 in
theorem c_X7_forget_b {sh : zSh} {F : Nat → Nat → Int32} {P : Nat → Nat → Option Nat} {μ : Nat} {G : Nat → Nat → Int32} {t : Int32} (hM : zMd sh P μ) (hG : zVw F μ 13 G) (h : mIn t 0 19 = 0) : zMet yX7_forget wsX7_forget (3) (0) (0) [.ref μ, .int t] sh F P (some (.int (-1))) sh F P := by
  refine zMet.of (by decide) rfl (Nat.le_of_ble_eq_true rfl) (by simp [Value.category]) ?_
  intro X ρ
  show AW mX7_forget X (zMQ mX7_forget X (some (.int (-1))) sh F P) 0 [some (.ref μ), some (.int t), none] [] ρ sh F P 0 0
  obtain ⟨ms0, ⟨mp0, mp1, mp3, mp5, mp9, mp10, mp11, mp12, mp13, mp17, mp21, mp28⟩, ms1, ms2, ms3, ms4, ms5, ms6, ms7, ms8, ms9, ms10, ms11, ms12⟩ := id hM
  refine aw_cF (F' := zput F μ 13 G) (zput_view hG).symm ?_
  refine aw_iload_1 dX7_forget_0 ?_
  refine aw_run (zRun_S (c_X7_isThing ) (Or.inl gX7_forget_X7_isThing) q_X7_isThing (by decide) rfl rfl (Nat.le_of_ble_eq_true rfl) dX7_forget_1 ⟨Nat.le_refl _, Nat.le_refl _⟩) ?_
  refine aw_if_ne (tgt := 9) dX7_forget_4 (by decide) (fun c4 => ?_) (fun c4 => ?_)
  · exact absurd h c4
  · refine aw_iconst (v := (-1)) dX7_forget_7 (by decide) ?_
    exact aw_ireturn rfl dX7_forget_8 ⟨Nat.zero_le _, Nat.zero_le _⟩ (by first | rfl | simp [c4]) rfl (zput_view hG) rfl

set_option maxHeartbeats 1000000 in
set_option maxRecDepth 100000 in
theorem c_X7_forget_n {sh : zSh} {F : Nat → Nat → Int32} {P : Nat → Nat → Option Nat} {μ : Nat} {G : Nat → Nat → Int32} {t : Nat} (hM : zMd sh P μ) (hG : zVw F μ 13 G) (ht : t < 20) (h : mMade (G 1) t = 0) : zMet yX7_forget wsX7_forget (3) (0) (0) [.ref μ, .int (nI t)] sh F P (some (.int (-2))) sh F P := by
  refine zMet.of (by decide) rfl (Nat.le_of_ble_eq_true rfl) (by simp [Value.category]) ?_
  intro X ρ
  show AW mX7_forget X (zMQ mX7_forget X (some (.int (-2))) sh F P) 0 [some (.ref μ), some (.int (nI t)), none] [] ρ sh F P 0 0
  obtain ⟨ms0, ⟨mp0, mp1, mp3, mp5, mp9, mp10, mp11, mp12, mp13, mp17, mp21, mp28⟩, ms1, ms2, ms3, ms4, ms5, ms6, ms7, ms8, ms9, ms10, ms11, ms12⟩ := id hM
  refine aw_cF (F' := zput F μ 13 G) (zput_view hG).symm ?_
  refine aw_iload_1 dX7_forget_0 ?_
  refine aw_run (zRun_S (c_X7_isThing ) (Or.inl gX7_forget_X7_isThing) q_X7_isThing (by decide) rfl rfl (Nat.le_of_ble_eq_true rfl) dX7_forget_1 ⟨Nat.le_refl _, Nat.le_refl _⟩) ?_
  refine aw_if_ne (tgt := 9) dX7_forget_4 (by decide) (fun c4 => ?_) (fun c4 => absurd c4 (mIn_20 ht))
  refine aw_aload_0 dX7_forget_9 ?_
  refine aw_iload_1 dX7_forget_10 ?_
  refine aw_run (zRun_V (c_X7_isMade (t := t) hM zVw.put ht) gX7_forget_X7_isMade q_X7_isMade rfl (by decide) rfl ms0 rfl rfl (Nat.le_of_ble_eq_true rfl) dX7_forget_11 ⟨Nat.le_refl _, Nat.le_refl _⟩) ?_
  refine aw_if_ne (tgt := 20) dX7_forget_14 (by decide) (fun c14 => ?_) (fun c14 => ?_)
  · exact absurd h c14
  · refine aw_bipush (v := (-2)) dX7_forget_17 (by decide) ?_
    exact aw_ireturn rfl dX7_forget_19 ⟨Nat.zero_le _, Nat.zero_le _⟩ (by first | rfl | simp [c4, c14]) rfl (zput_view hG) rfl

set_option maxHeartbeats 1000000 in
set_option maxRecDepth 100000 in
theorem c_X7_forget_o {sh : zSh} {F : Nat → Nat → Int32} {P : Nat → Nat → Option Nat} {μ : Nat} {G : Nat → Nat → Int32} {t p : Nat} (hM : zMd sh P μ) (hG : zVw F μ 13 G) (ht : t < 20) (h : ¬ mMade (G 1) t = 0) (hp : p ≤ 8) (h2 : G 0 2 = nI p) : zMet yX7_forget wsX7_forget (3) (0) (0) [.ref μ, .int (nI t)] sh F P (some (.int (G 1 (23 * t + 7)))) sh (zput F μ 13 (va_up (mRemember G p) 1 (upd (upd (G 1) (23 * t + 7) 0) (23 * t + 8) 0))) P := by
  refine zMet.of (by decide) rfl (Nat.le_of_ble_eq_true rfl) (by simp [Value.category]) ?_
  intro X ρ
  show AW mX7_forget X (zMQ mX7_forget X (some (.int (G 1 (23 * t + 7)))) sh (zput F μ 13 (va_up (mRemember G p) 1 (upd (upd (G 1) (23 * t + 7) 0) (23 * t + 8) 0))) P) 0 [some (.ref μ), some (.int (nI t)), none] [] ρ sh F P 0 0
  obtain ⟨ms0, ⟨mp0, mp1, mp3, mp5, mp9, mp10, mp11, mp12, mp13, mp17, mp21, mp28⟩, ms1, ms2, ms3, ms4, ms5, ms6, ms7, ms8, ms9, ms10, ms11, ms12⟩ := id hM
  refine aw_cF (F' := zput F μ 13 G) (zput_view hG).symm ?_
  refine aw_iload_1 dX7_forget_0 ?_
  refine aw_run (zRun_S (c_X7_isThing ) (Or.inl gX7_forget_X7_isThing) q_X7_isThing (by decide) rfl rfl (Nat.le_of_ble_eq_true rfl) dX7_forget_1 ⟨Nat.le_refl _, Nat.le_refl _⟩) ?_
  refine aw_if_ne (tgt := 9) dX7_forget_4 (by decide) (fun c4 => ?_) (fun c4 => absurd c4 (mIn_20 ht))
  refine aw_aload_0 dX7_forget_9 ?_
  refine aw_iload_1 dX7_forget_10 ?_
  refine aw_run (zRun_V (c_X7_isMade (t := t) hM zVw.put ht) gX7_forget_X7_isMade q_X7_isMade rfl (by decide) rfl ms0 rfl rfl (Nat.le_of_ble_eq_true rfl) dX7_forget_11 ⟨Nat.le_refl _, Nat.le_refl _⟩) ?_
  refine aw_if_ne (tgt := 20) dX7_forget_14 (by decide) (fun c14 => ?_) (fun c14 => absurd c14 h)
  refine aw_aload_0 dX7_forget_20 ?_
  refine aw_runv (zRun_V (c_X7_remember (p := p) hM zVw.put hp h2) gX7_forget_X7_remember q_X7_remember rfl (by decide) rfl ms0 rfl rfl (Nat.le_of_ble_eq_true rfl) dX7_forget_21 ⟨Nat.le_refl _, Nat.le_refl _⟩) ?_
  rw [zput_zput]
  refine aw_aload_0 dX7_forget_24 ?_
  refine aw_iload_1 dX7_forget_25 ?_
  refine aw_bipush (v := 7) dX7_forget_26 (by decide) ?_
  refine aw_run (zRun_V (c_X7_of (t := t) (k := 7) hM zVw.put (by omega)) gX7_forget_X7_of q_X7_of rfl (by decide) rfl ms0 rfl rfl (Nat.le_of_ble_eq_true rfl) dX7_forget_28 ⟨Nat.le_refl _, Nat.le_refl _⟩) ?_
  rw [mRemember_1 (by decide) (by decide)]
  refine aw_istore_2 dX7_forget_31 ?_
  refine aw_aload_0 dX7_forget_32 ?_
  refine aw_iload_1 dX7_forget_33 ?_
  refine aw_bipush (v := 7) dX7_forget_34 (by decide) ?_
  refine aw_iconst (v := 0) dX7_forget_36 (by decide) ?_
  refine aw_runv (zRun_V (c_X7_put (t := t) (k := 7) hM zVw.put (by omega)) gX7_forget_X7_put q_X7_put rfl (by decide) rfl ms0 rfl rfl (Nat.le_of_ble_eq_true rfl) dX7_forget_37 ⟨Nat.le_refl _, Nat.le_refl _⟩) ?_
  rw [zput_zput, mRemember_1 (show 1 ≠ 0 by decide) (by decide)]
  refine aw_aload_0 dX7_forget_40 ?_
  refine aw_iload_1 dX7_forget_41 ?_
  refine aw_bipush (v := 8) dX7_forget_42 (by decide) ?_
  refine aw_iconst (v := 0) dX7_forget_44 (by decide) ?_
  refine aw_runv (zRun_V (c_X7_put (t := t) (k := 8) hM zVw.put (by omega)) gX7_forget_X7_put q_X7_put rfl (by decide) rfl ms0 rfl rfl (Nat.le_of_ble_eq_true rfl) dX7_forget_45 ⟨Nat.le_refl _, Nat.le_refl _⟩) ?_
  rw [zput_zput, zup_eq, va_up_up]
  refine aw_iload_2 dX7_forget_48 ?_
  exact aw_ireturn rfl dX7_forget_49 ⟨Nat.zero_le _, Nat.zero_le _⟩ rfl rfl rfl rfl
