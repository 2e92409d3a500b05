/-! ===== 39.md10: the model's small changes ===== -/
def mIsVes (w : Nat → Int32) (v : Int32) : Nat → Bool := anyLt (fun t => w (23 * t + 1) == v)
def mPut (G : Nat → Nat → Int32) (i : Nat) (v : Int32) : Nat → Nat → Int32 := va_up G 1 (upd (G 1) i v)
theorem mRem_1 {G : Nat → Nat → Int32} {q j : Nat} (h0 : j ≠ 0) (h2 : j ≠ 2) : mRem G q j = G j := by
  unfold mRem
  rw [zup_ne h0, zup_ne h2]
theorem mRemember_1 {G : Nat → Nat → Int32} {p j : Nat} (h0 : j ≠ 0) (h2 : j ≠ 2) : mRemember G p j = G j := by
  unfold mRemember
  split
  · rw [mRem_1 h0 h2]
    unfold mShift
    rw [zup_ne h0, zup_ne h2]
  · exact mRem_1 h0 h2

abbrev mX7_ingredient : ZM := (cX7_ingredient, RX7, wsX7_ingredient, 3, 0, 0, (some .int), 4, yX7_ingredient.name)
set_option maxHeartbeats 1000000 in
set_option maxRecDepth 100000 in
theorem c_X7_ingredient_b {sh : zSh} {F : Nat → Nat → Int32} {P : Nat → Nat → Option Nat} {μ : Nat} {G : Nat → Nat → Int32} {t k u : Int32} (hM : zMd sh P μ) (hG : zVw F μ 13 G) (h : mIn t 0 19 = 0 ∨ k < 0 ∨ mIn u 0 1 = 0) : zMet yX7_ingredient wsX7_ingredient (3) (0) (0) [.ref μ, .int t, .int k, .int u] sh F P (some (.int (-1))) sh F P := by
  refine zMet.of (by decide) rfl (Nat.le_of_ble_eq_true rfl) (by simp [Value.category]) ?_
  intro X ρ
  show AW mX7_ingredient X (zMQ mX7_ingredient X (some (.int (-1))) sh F P) 0 [some (.ref μ), some (.int t), some (.int k), some (.int u)] [] ρ sh F P 0 0
  obtain ⟨ms0, ⟨mp0, mp1, mp3, mp5, mp9, mp10, mp11, mp12, mp13, mp17, mp21, mp28⟩, ms1, ms2, ms3, ms4, ms5, ms6, ms7, ms8, ms9, ms10, ms11, ms12⟩ := id hM
  refine aw_cF (F' := zput F μ 13 G) (zput_view hG).symm ?_
  refine aw_iload_1 dX7_ingredient_0 ?_
  refine aw_run (zRun_S (c_X7_isThing ) (Or.inl gX7_ingredient_X7_isThing) q_X7_isThing (by decide) rfl rfl (Nat.le_of_ble_eq_true rfl) dX7_ingredient_1 ⟨Nat.le_refl _, Nat.le_refl _⟩) ?_
  refine aw_if_eq (tgt := 20) dX7_ingredient_4 (by decide) (fun c4 => ?_) (fun c4 => ?_)
  · refine aw_iconst (v := (-1)) dX7_ingredient_20 (by decide) ?_
    exact aw_ireturn rfl dX7_ingredient_21 ⟨Nat.zero_le _, Nat.zero_le _⟩ (by first | rfl | simp [c4]) rfl (zput_view hG) rfl
  · refine aw_iload_2 dX7_ingredient_7 ?_
    refine aw_if_lt (tgt := 20) dX7_ingredient_8 (by decide) (fun c8 => ?_) (fun c8 => ?_)
    · refine aw_iconst (v := (-1)) dX7_ingredient_20 (by decide) ?_
      exact aw_ireturn rfl dX7_ingredient_21 ⟨Nat.zero_le _, Nat.zero_le _⟩ (by first | rfl | simp [c4, c8]) rfl (zput_view hG) rfl
    · refine aw_iload_3 dX7_ingredient_11 ?_
      refine aw_iconst (v := 0) dX7_ingredient_12 (by decide) ?_
      refine aw_iconst (v := 1) dX7_ingredient_13 (by decide) ?_
      refine aw_run (zRun_S (c_X7_isIn ) (Or.inl gX7_ingredient_X7_isIn) q_X7_isIn (by decide) rfl rfl (Nat.le_of_ble_eq_true rfl) dX7_ingredient_14 ⟨Nat.le_refl _, Nat.le_refl _⟩) ?_
      refine aw_if_ne (tgt := 22) dX7_ingredient_17 (by decide) (fun c17 => ?_) (fun c17 => ?_)
      · exact absurd h (by simp only [c4, c8, c17]; simp)
      · refine aw_iconst (v := (-1)) dX7_ingredient_20 (by decide) ?_
        exact aw_ireturn rfl dX7_ingredient_21 ⟨Nat.zero_le _, Nat.zero_le _⟩ (by first | rfl | simp [c4, c8, c17]) rfl (zput_view hG) rfl

set_option maxHeartbeats 1000000 in
set_option maxRecDepth 100000 in
theorem c_X7_ingredient_n {sh : zSh} {F : Nat → Nat → Int32} {P : Nat → Nat → Option Nat} {μ : Nat} {G : Nat → Nat → Int32} {t : Nat} {k u : Int32} (hM : zMd sh P μ) (hG : zVw F μ 13 G) (ht : t < 20) (hk0 : ¬ k < 0) (hu : ¬ mIn u 0 1 = 0) (h : ¬ k < G 1 (23 * t + 8)) : zMet yX7_ingredient wsX7_ingredient (3) (0) (0) [.ref μ, .int (nI t), .int k, .int u] sh F P (some (.int (-9))) sh F P := by
  refine zMet.of (by decide) rfl (Nat.le_of_ble_eq_true rfl) (by simp [Value.category]) ?_
  intro X ρ
  show AW mX7_ingredient X (zMQ mX7_ingredient X (some (.int (-9))) sh F P) 0 [some (.ref μ), some (.int (nI t)), some (.int k), some (.int u)] [] ρ sh F P 0 0
  obtain ⟨ms0, ⟨mp0, mp1, mp3, mp5, mp9, mp10, mp11, mp12, mp13, mp17, mp21, mp28⟩, ms1, ms2, ms3, ms4, ms5, ms6, ms7, ms8, ms9, ms10, ms11, ms12⟩ := id hM
  refine aw_cF (F' := zput F μ 13 G) (zput_view hG).symm ?_
  refine aw_iload_1 dX7_ingredient_0 ?_
  refine aw_run (zRun_S (c_X7_isThing ) (Or.inl gX7_ingredient_X7_isThing) q_X7_isThing (by decide) rfl rfl (Nat.le_of_ble_eq_true rfl) dX7_ingredient_1 ⟨Nat.le_refl _, Nat.le_refl _⟩) ?_
  refine aw_if_eq (tgt := 20) dX7_ingredient_4 (by decide) (fun c4 => absurd c4 (mIn_20 ht)) (fun c4 => ?_)
  refine aw_iload_2 dX7_ingredient_7 ?_
  refine aw_if_lt (tgt := 20) dX7_ingredient_8 (by decide) (fun c8 => absurd c8 hk0) (fun c8 => ?_)
  refine aw_iload_3 dX7_ingredient_11 ?_
  refine aw_iconst (v := 0) dX7_ingredient_12 (by decide) ?_
  refine aw_iconst (v := 1) dX7_ingredient_13 (by decide) ?_
  refine aw_run (zRun_S (c_X7_isIn ) (Or.inl gX7_ingredient_X7_isIn) q_X7_isIn (by decide) rfl rfl (Nat.le_of_ble_eq_true rfl) dX7_ingredient_14 ⟨Nat.le_refl _, Nat.le_refl _⟩) ?_
  refine aw_if_ne (tgt := 22) dX7_ingredient_17 (by decide) (fun c17 => ?_) (fun c17 => absurd c17 hu)
  refine aw_iload_2 dX7_ingredient_22 ?_
  refine aw_aload_0 dX7_ingredient_23 ?_
  refine aw_iload_1 dX7_ingredient_24 ?_
  refine aw_bipush (v := 8) dX7_ingredient_25 (by decide) ?_
  refine aw_run (zRun_V (c_X7_of (t := t) (k := 8) hM zVw.put (by omega)) gX7_ingredient_X7_of q_X7_of rfl (by decide) rfl ms0 rfl rfl (Nat.le_of_ble_eq_true rfl) dX7_ingredient_27 ⟨Nat.le_refl _, Nat.le_refl _⟩) ?_
  refine aw_icmp_ge (tgt := 49) dX7_ingredient_30 (by decide) (fun c30 => ?_) (fun c30 => ?_)
  · refine aw_bipush (v := (-9)) dX7_ingredient_49 (by decide) ?_
    exact aw_ireturn rfl dX7_ingredient_51 ⟨Nat.zero_le _, Nat.zero_le _⟩ (by first | rfl | simp [c4, c8, c17, c30]) rfl (zput_view hG) rfl
  · exact absurd (Int32.not_le.mp c30) h

set_option maxHeartbeats 1000000 in
set_option maxRecDepth 100000 in
theorem c_X7_ingredient_o {sh : zSh} {F : Nat → Nat → Int32} {P : Nat → Nat → Option Nat} {μ : Nat} {G : Nat → Nat → Int32} {t k u : Nat} (hM : zMd sh P μ) (hG : zVw F μ 13 G) (ht : t < 20) (hu2 : u < 2) (hk5 : k < 5) (h : nI k < G 1 (23 * t + 8)) : zMet yX7_ingredient wsX7_ingredient (3) (0) (0) [.ref μ, .int (nI t), .int (nI k), .int (nI u)] sh F P (some (.int (G 1 (23 * t + (9 + 2 * k + u))))) sh F P := by
  refine zMet.of (by decide) rfl (Nat.le_of_ble_eq_true rfl) (by simp [Value.category]) ?_
  intro X ρ
  show AW mX7_ingredient X (zMQ mX7_ingredient X (some (.int (G 1 (23 * t + (9 + 2 * k + u))))) sh F P) 0 [some (.ref μ), some (.int (nI t)), some (.int (nI k)), some (.int (nI u))] [] ρ sh F P 0 0
  obtain ⟨ms0, ⟨mp0, mp1, mp3, mp5, mp9, mp10, mp11, mp12, mp13, mp17, mp21, mp28⟩, ms1, ms2, ms3, ms4, ms5, ms6, ms7, ms8, ms9, ms10, ms11, ms12⟩ := id hM
  refine aw_cF (F' := zput F μ 13 G) (zput_view hG).symm ?_
  refine aw_iload_1 dX7_ingredient_0 ?_
  refine aw_run (zRun_S (c_X7_isThing ) (Or.inl gX7_ingredient_X7_isThing) q_X7_isThing (by decide) rfl rfl (Nat.le_of_ble_eq_true rfl) dX7_ingredient_1 ⟨Nat.le_refl _, Nat.le_refl _⟩) ?_
  refine aw_if_eq (tgt := 20) dX7_ingredient_4 (by decide) (fun c4 => absurd c4 (mIn_20 ht)) (fun c4 => ?_)
  refine aw_iload_2 dX7_ingredient_7 ?_
  refine aw_if_lt (tgt := 20) dX7_ingredient_8 (by decide) (fun c8 => absurd c8 (nI_nn (by omega))) (fun c8 => ?_)
  refine aw_iload_3 dX7_ingredient_11 ?_
  refine aw_iconst (v := 0) dX7_ingredient_12 (by decide) ?_
  refine aw_iconst (v := 1) dX7_ingredient_13 (by decide) ?_
  refine aw_run (zRun_S (c_X7_isIn ) (Or.inl gX7_ingredient_X7_isIn) q_X7_isIn (by decide) rfl rfl (Nat.le_of_ble_eq_true rfl) dX7_ingredient_14 ⟨Nat.le_refl _, Nat.le_refl _⟩) ?_
  refine aw_if_ne (tgt := 22) dX7_ingredient_17 (by decide) (fun c17 => ?_) (fun c17 => absurd c17 (mIn_t (m := 1) (by omega) (by decide)))
  refine aw_iload_2 dX7_ingredient_22 ?_
  refine aw_aload_0 dX7_ingredient_23 ?_
  refine aw_iload_1 dX7_ingredient_24 ?_
  refine aw_bipush (v := 8) dX7_ingredient_25 (by decide) ?_
  refine aw_run (zRun_V (c_X7_of (t := t) (k := 8) hM zVw.put (by omega)) gX7_ingredient_X7_of q_X7_of rfl (by decide) rfl ms0 rfl rfl (Nat.le_of_ble_eq_true rfl) dX7_ingredient_27 ⟨Nat.le_refl _, Nat.le_refl _⟩) ?_
  refine aw_icmp_ge (tgt := 49) dX7_ingredient_30 (by decide) (fun c30 => absurd c30 (Int32.not_le.mpr h)) (fun c30 => ?_)
  refine aw_aload_0 dX7_ingredient_33 ?_
  refine aw_iload_1 dX7_ingredient_34 ?_
  refine aw_bipush (v := 9) dX7_ingredient_35 (by decide) ?_
  refine aw_iconst (v := 2) dX7_ingredient_37 (by decide) ?_
  refine aw_iload_2 dX7_ingredient_38 ?_
  refine aw_imul dX7_ingredient_39 ?_
  refine aw_iadd dX7_ingredient_40 ?_
  refine aw_iload_3 dX7_ingredient_41 ?_
  refine aw_iadd dX7_ingredient_42 ?_
  rw [m2, nI_add]
  refine aw_run (zRun_V (c_X7_of (t := t) (k := 9 + 2 * k + u) hM zVw.put (by omega)) gX7_ingredient_X7_of q_X7_of rfl (by decide) rfl ms0 rfl rfl (Nat.le_of_ble_eq_true rfl) dX7_ingredient_43 ⟨Nat.le_refl _, Nat.le_refl _⟩) ?_
  refine aw_goto (tgt := 51) dX7_ingredient_46 (by decide) ?_
  exact aw_ireturn rfl dX7_ingredient_51 ⟨Nat.zero_le _, Nat.zero_le _⟩ rfl rfl (zput_view hG) rfl

abbrev mX7_substitute : ZM := (cX7_substitute, RX7, wsX7_substitute, 3, 0, 0, (some .int), 3, yX7_substitute.name)
set_option maxHeartbeats 1000000 in
set_option maxRecDepth 100000 in
theorem c_X7_substitute_b {sh : zSh} {F : Nat → Nat → Int32} {P : Nat → Nat → Option Nat} {μ : Nat} {G : Nat → Nat → Int32} {t k : Int32} (hM : zMd sh P μ) (hG : zVw F μ 13 G) (h : mIn t 0 19 = 0 ∨ k < 0) : zMet yX7_substitute wsX7_substitute (3) (0) (0) [.ref μ, .int t, .int k] sh F P (some (.int (-1))) sh F P := by
  refine zMet.of (by decide) rfl (Nat.le_of_ble_eq_true rfl) (by simp [Value.category]) ?_
  intro X ρ
  show AW mX7_substitute X (zMQ mX7_substitute X (some (.int (-1))) sh F P) 0 [some (.ref μ), some (.int t), some (.int k)] [] ρ sh F P 0 0
  obtain ⟨ms0, ⟨mp0, mp1, mp3, mp5, mp9, mp10, mp11, mp12, mp13, mp17, mp21, mp28⟩, ms1, ms2, ms3, ms4, ms5, ms6, ms7, ms8, ms9, ms10, ms11, ms12⟩ := id hM
  refine aw_cF (F' := zput F μ 13 G) (zput_view hG).symm ?_
  refine aw_iload_1 dX7_substitute_0 ?_
  refine aw_run (zRun_S (c_X7_isThing ) (Or.inl gX7_substitute_X7_isThing) q_X7_isThing (by decide) rfl rfl (Nat.le_of_ble_eq_true rfl) dX7_substitute_1 ⟨Nat.le_refl _, Nat.le_refl _⟩) ?_
  refine aw_if_eq (tgt := 11) dX7_substitute_4 (by decide) (fun c4 => ?_) (fun c4 => ?_)
  · refine aw_iconst (v := (-1)) dX7_substitute_11 (by decide) ?_
    exact aw_ireturn rfl dX7_substitute_12 ⟨Nat.zero_le _, Nat.zero_le _⟩ (by first | rfl | simp [c4]) rfl (zput_view hG) rfl
  · refine aw_iload_2 dX7_substitute_7 ?_
    refine aw_if_ge (tgt := 13) dX7_substitute_8 (by decide) (fun c8 => ?_) (fun c8 => ?_)
    · exact absurd h (by simp only [c4, c8]; simp [Int32.not_lt.mpr c8])
    · refine aw_iconst (v := (-1)) dX7_substitute_11 (by decide) ?_
      exact aw_ireturn rfl dX7_substitute_12 ⟨Nat.zero_le _, Nat.zero_le _⟩ (by first | rfl | simp [c4, c8]) rfl (zput_view hG) rfl

set_option maxHeartbeats 1000000 in
set_option maxRecDepth 100000 in
theorem c_X7_substitute_n {sh : zSh} {F : Nat → Nat → Int32} {P : Nat → Nat → Option Nat} {μ : Nat} {G : Nat → Nat → Int32} {t : Nat} {k : Int32} (hM : zMd sh P μ) (hG : zVw F μ 13 G) (ht : t < 20) (hk0 : ¬ k < 0) (h : ¬ k < G 1 (23 * t + 19)) : zMet yX7_substitute wsX7_substitute (3) (0) (0) [.ref μ, .int (nI t), .int k] sh F P (some (.int (-9))) sh F P := by
  refine zMet.of (by decide) rfl (Nat.le_of_ble_eq_true rfl) (by simp [Value.category]) ?_
  intro X ρ
  show AW mX7_substitute X (zMQ mX7_substitute X (some (.int (-9))) sh F P) 0 [some (.ref μ), some (.int (nI t)), some (.int k)] [] ρ sh F P 0 0
  obtain ⟨ms0, ⟨mp0, mp1, mp3, mp5, mp9, mp10, mp11, mp12, mp13, mp17, mp21, mp28⟩, ms1, ms2, ms3, ms4, ms5, ms6, ms7, ms8, ms9, ms10, ms11, ms12⟩ := id hM
  refine aw_cF (F' := zput F μ 13 G) (zput_view hG).symm ?_
  refine aw_iload_1 dX7_substitute_0 ?_
  refine aw_run (zRun_S (c_X7_isThing ) (Or.inl gX7_substitute_X7_isThing) q_X7_isThing (by decide) rfl rfl (Nat.le_of_ble_eq_true rfl) dX7_substitute_1 ⟨Nat.le_refl _, Nat.le_refl _⟩) ?_
  refine aw_if_eq (tgt := 11) dX7_substitute_4 (by decide) (fun c4 => absurd c4 (mIn_20 ht)) (fun c4 => ?_)
  refine aw_iload_2 dX7_substitute_7 ?_
  refine aw_if_ge (tgt := 13) dX7_substitute_8 (by decide) (fun c8 => ?_) (fun c8 => absurd (Int32.not_lt.mp hk0) c8)
  refine aw_iload_2 dX7_substitute_13 ?_
  refine aw_aload_0 dX7_substitute_14 ?_
  refine aw_iload_1 dX7_substitute_15 ?_
  refine aw_bipush (v := 19) dX7_substitute_16 (by decide) ?_
  refine aw_run (zRun_V (c_X7_of (t := t) (k := 19) hM zVw.put (by omega)) gX7_substitute_X7_of q_X7_of rfl (by decide) rfl ms0 rfl rfl (Nat.le_of_ble_eq_true rfl) dX7_substitute_18 ⟨Nat.le_refl _, Nat.le_refl _⟩) ?_
  refine aw_icmp_ge (tgt := 36) dX7_substitute_21 (by decide) (fun c21 => ?_) (fun c21 => ?_)
  · refine aw_bipush (v := (-9)) dX7_substitute_36 (by decide) ?_
    exact aw_ireturn rfl dX7_substitute_38 ⟨Nat.zero_le _, Nat.zero_le _⟩ (by first | rfl | simp [c4, c8, c21]) rfl (zput_view hG) rfl
  · exact absurd (Int32.not_le.mp c21) h

set_option maxHeartbeats 1000000 in
set_option maxRecDepth 100000 in
theorem c_X7_substitute_o {sh : zSh} {F : Nat → Nat → Int32} {P : Nat → Nat → Option Nat} {μ : Nat} {G : Nat → Nat → Int32} {t k : Nat} (hM : zMd sh P μ) (hG : zVw F μ 13 G) (ht : t < 20) (hk3 : k < 3) (h : nI k < G 1 (23 * t + 19)) : zMet yX7_substitute wsX7_substitute (3) (0) (0) [.ref μ, .int (nI t), .int (nI k)] sh F P (some (.int (G 1 (23 * t + (20 + k))))) sh F P := by
  refine zMet.of (by decide) rfl (Nat.le_of_ble_eq_true rfl) (by simp [Value.category]) ?_
  intro X ρ
  show AW mX7_substitute X (zMQ mX7_substitute X (some (.int (G 1 (23 * t + (20 + k))))) sh F P) 0 [some (.ref μ), some (.int (nI t)), some (.int (nI k))] [] ρ sh F P 0 0
  obtain ⟨ms0, ⟨mp0, mp1, mp3, mp5, mp9, mp10, mp11, mp12, mp13, mp17, mp21, mp28⟩, ms1, ms2, ms3, ms4, ms5, ms6, ms7, ms8, ms9, ms10, ms11, ms12⟩ := id hM
  refine aw_cF (F' := zput F μ 13 G) (zput_view hG).symm ?_
  refine aw_iload_1 dX7_substitute_0 ?_
  refine aw_run (zRun_S (c_X7_isThing ) (Or.inl gX7_substitute_X7_isThing) q_X7_isThing (by decide) rfl rfl (Nat.le_of_ble_eq_true rfl) dX7_substitute_1 ⟨Nat.le_refl _, Nat.le_refl _⟩) ?_
  refine aw_if_eq (tgt := 11) dX7_substitute_4 (by decide) (fun c4 => absurd c4 (mIn_20 ht)) (fun c4 => ?_)
  refine aw_iload_2 dX7_substitute_7 ?_
  refine aw_if_ge (tgt := 13) dX7_substitute_8 (by decide) (fun c8 => ?_) (fun c8 => absurd (Int32.not_lt.mp (nI_nn (by omega))) c8)
  refine aw_iload_2 dX7_substitute_13 ?_
  refine aw_aload_0 dX7_substitute_14 ?_
  refine aw_iload_1 dX7_substitute_15 ?_
  refine aw_bipush (v := 19) dX7_substitute_16 (by decide) ?_
  refine aw_run (zRun_V (c_X7_of (t := t) (k := 19) hM zVw.put (by omega)) gX7_substitute_X7_of q_X7_of rfl (by decide) rfl ms0 rfl rfl (Nat.le_of_ble_eq_true rfl) dX7_substitute_18 ⟨Nat.le_refl _, Nat.le_refl _⟩) ?_
  refine aw_icmp_ge (tgt := 36) dX7_substitute_21 (by decide) (fun c21 => absurd c21 (Int32.not_le.mpr h)) (fun c21 => ?_)
  refine aw_aload_0 dX7_substitute_24 ?_
  refine aw_iload_1 dX7_substitute_25 ?_
  refine aw_bipush (v := 20) dX7_substitute_26 (by decide) ?_
  refine aw_iload_2 dX7_substitute_28 ?_
  refine aw_iadd dX7_substitute_29 ?_
  rw [m20]
  refine aw_run (zRun_V (c_X7_of (t := t) (k := 20 + k) hM zVw.put (by omega)) gX7_substitute_X7_of q_X7_of rfl (by decide) rfl ms0 rfl rfl (Nat.le_of_ble_eq_true rfl) dX7_substitute_30 ⟨Nat.le_refl _, Nat.le_refl _⟩) ?_
  refine aw_goto (tgt := 38) dX7_substitute_33 (by decide) ?_
  exact aw_ireturn rfl dX7_substitute_38 ⟨Nat.zero_le _, Nat.zero_le _⟩ rfl rfl (zput_view hG) rfl

abbrev mX7_isVessel : ZM := (cX7_isVessel, RX7, wsX7_isVessel, 2, 0, 0, (some .boolean), 3, yX7_isVessel.name)
set_option maxHeartbeats 1000000 in
set_option maxRecDepth 100000 in
theorem c_X7_isVessel {sh : zSh} {F : Nat → Nat → Int32} {P : Nat → Nat → Option Nat} {μ : Nat} {G : Nat → Nat → Int32} {u : Int32} (hM : zMd sh P μ) (hG : zVw F μ 13 G) : zMet yX7_isVessel wsX7_isVessel (2) (0) (0) [.ref μ, .int u] sh F P (some (.int (if mIsVes (G 1) u 20 = true then 1 else 0))) sh F P := by
  refine zMet.of (by decide) rfl (Nat.le_of_ble_eq_true rfl) (by simp [Value.category]) ?_
  intro X ρ
  show AW mX7_isVessel X (zMQ mX7_isVessel X (some (.int (if mIsVes (G 1) u 20 = true then 1 else 0))) sh F P) 0 [some (.ref μ), some (.int u), none] [] ρ sh F P 0 0
  obtain ⟨ms0, ⟨mp0, mp1, mp3, mp5, mp9, mp10, mp11, mp12, mp13, mp17, mp21, mp28⟩, ms1, ms2, ms3, ms4, ms5, ms6, ms7, ms8, ms9, ms10, ms11, ms12⟩ := id hM
  refine aw_cF (F' := zput F μ 13 G) (zput_view hG).symm ?_
  have L2 : ∀ (m k : Nat), k ≤ 20 → 20 - k = m → mIsVes (G 1) u k = false → AW mX7_isVessel X (zMQ mX7_isVessel X (some (.int (if mIsVes (G 1) u 20 = true then 1 else 0))) sh F P) 2 [some (.ref μ), some (.int u), some (.int (nI k))] [] ρ sh (zput F μ 13 G) P 0 0 := by
    intro m
    induction m using Nat.strongRecOn with
    | _ m ih =>
    intro k hk hm hn
    refine aw_iload_2 dX7_isVessel_2 ?_
    refine aw_bipush (v := 20) dX7_isVessel_3 (by decide) ?_
    refine aw_icmp_ge (tgt := 26) dX7_isVessel_5 (by decide) (fun c5 => ?_) (fun c5 => ?_)
    · refine aw_iconst (v := 0) dX7_isVessel_26 (by decide) ?_
      exact aw_zreturn rfl dX7_isVessel_27 ⟨Nat.zero_le _, Nat.zero_le _⟩ (by decide) (by rw [zend (n := 20) hk (by decide) c5] at hn; rw [hn]; rfl) rfl (zput_view hG) rfl
    · have hlt : k < 20 := zlt (n := 20) hk (by decide) c5
      refine aw_aload_0 dX7_isVessel_8 ?_
      refine aw_iload_2 dX7_isVessel_9 ?_
      refine aw_iconst (v := 1) dX7_isVessel_10 (by decide) ?_
      refine aw_run (zRun_V (c_X7_of (t := k) (k := 1) hM zVw.put (by omega)) gX7_isVessel_X7_of q_X7_of rfl (by decide) rfl ms0 rfl rfl (Nat.le_of_ble_eq_true rfl) dX7_isVessel_11 ⟨Nat.le_refl _, Nat.le_refl _⟩) ?_
      refine aw_iload_1 dX7_isVessel_14 ?_
      refine aw_icmp_ne (tgt := 20) dX7_isVessel_15 (by decide) (fun c15 => ?_) (fun c15 => ?_)
      · refine aw_iinc_2 (v := 1) (by decide) dX7_isVessel_20 ?_
        refine aw_goto (tgt := 2) dX7_isVessel_23 (by decide) ?_
        rw [nI_1]
        exact ih (20 - (k + 1)) (by omega) (k + 1) (by omega) rfl (by unfold mIsVes at hn ⊢; simp [anyLt, hn, c15])
      · refine aw_iconst (v := 1) dX7_isVessel_18 (by decide) ?_
        exact aw_zreturn rfl dX7_isVessel_19 ⟨Nat.zero_le _, Nat.zero_le _⟩ (by decide) (by rw [show mIsVes (G 1) u 20 = true from anyLt_true hlt (by simpa using c15)]; rfl) rfl (zput_view hG) rfl
  refine aw_iconst (v := 0) dX7_isVessel_0 (by decide) ?_
  refine aw_istore_2 dX7_isVessel_1 ?_
  exact L2 _ 0 (Nat.zero_le _) rfl rfl

abbrev mX7_wipe : ZM := (cX7_wipe, RX7, wsX7_wipe, 1, 0, 0, (some .int), 2, yX7_wipe.name)
set_option maxHeartbeats 1000000 in
set_option maxRecDepth 100000 in
theorem c_X7_wipe {sh : zSh} {F : Nat → Nat → Int32} {P : Nat → Nat → Option Nat} {μ : Nat} {G : Nat → Nat → Int32} (hM : zMd sh P μ) (hG : zVw F μ 13 G) : zMet yX7_wipe wsX7_wipe (1) (0) (0) [.ref μ] sh F P (some (.int (G 0 6))) sh (zput F μ 13 (va_up G 0 (upd (G 0) 6 0))) P := by
  refine zMet.of (by decide) rfl (Nat.le_of_ble_eq_true rfl) (by simp [Value.category]) ?_
  intro X ρ
  show AW mX7_wipe X (zMQ mX7_wipe X (some (.int (G 0 6))) sh (zput F μ 13 (va_up G 0 (upd (G 0) 6 0))) P) 0 [some (.ref μ), none] [] ρ sh F P 0 0
  have hinX7 : ∀ w ∈ u_ws RX7 TX7 29, w ∈ wsX7_wipe := by decide +kernel
  obtain ⟨ms0, ⟨mp0, mp1, mp3, mp5, mp9, mp10, mp11, mp12, mp13, mp17, mp21, mp28⟩, ms1, ms2, ms3, ms4, ms5, ms6, ms7, ms8, ms9, ms10, ms11, ms12⟩ := id hM
  refine aw_cF (F' := zput F μ 13 G) (zput_view hG).symm ?_
  refine aw_aload_0 dX7_wipe_0 ?_
  refine aw_getI fX7_6 hinX7 (by decide +kernel : Cond.fieldLink RX7 181 RX7 (TX7 6).2.1 (TX7 6).2.2.1 ∈ wsX7_wipe) ms0 dX7_wipe_1 ?_
  try simp (disch := omega) only [zu_up, zup_in, zup_in0, zput_at, zput_a0, zput_zput, zup_eq, zup_ne, va_up_up, nI_clamp]
  refine aw_istore_1 dX7_wipe_4 ?_
  refine aw_aload_0 dX7_wipe_5 ?_
  refine aw_iconst (v := 0) dX7_wipe_6 (by decide) ?_
  refine aw_putI fX7_6 rfl hinX7 (by decide +kernel : Cond.fieldLink RX7 181 RX7 (TX7 6).2.1 (TX7 6).2.2.1 ∈ wsX7_wipe) ms0 dX7_wipe_7 ?_
  refine aw_iload_1 dX7_wipe_10 ?_
  exact aw_ireturn rfl dX7_wipe_11 ⟨Nat.zero_le _, Nat.zero_le _⟩ rfl rfl (by simp (disch := omega) only [zu_up, zup_in, zup_in0, zput_at, zput_a0, zput_zput, zup_eq, zup_ne, va_up_up, nI_clamp]) rfl

abbrev mX7_fault : ZM := (cX7_fault, RX7, wsX7_fault, 1, 0, 0, (some .int), 2, yX7_fault.name)
set_option maxHeartbeats 1000000 in
set_option maxRecDepth 100000 in
theorem c_X7_fault {sh : zSh} {F : Nat → Nat → Int32} {P : Nat → Nat → Option Nat} {μ : Nat} {G : Nat → Nat → Int32} {k : Int32} (hM : zMd sh P μ) (hG : zVw F μ 13 G) : zMet yX7_fault wsX7_fault (1) (0) (0) [.ref μ, .int k] sh F P (some (.int (if k = 0 then G 0 7 else if k = 1 then G 0 8 else -1))) sh F P := by
  refine zMet.of (by decide) rfl (Nat.le_of_ble_eq_true rfl) (by simp [Value.category]) ?_
  intro X ρ
  show AW mX7_fault X (zMQ mX7_fault X (some (.int (if k = 0 then G 0 7 else if k = 1 then G 0 8 else -1))) sh F P) 0 [some (.ref μ), some (.int k)] [] ρ sh F P 0 0
  have hinX7 : ∀ w ∈ u_ws RX7 TX7 29, w ∈ wsX7_fault := by decide +kernel
  obtain ⟨ms0, ⟨mp0, mp1, mp3, mp5, mp9, mp10, mp11, mp12, mp13, mp17, mp21, mp28⟩, ms1, ms2, ms3, ms4, ms5, ms6, ms7, ms8, ms9, ms10, ms11, ms12⟩ := id hM
  refine aw_cF (F' := zput F μ 13 G) (zput_view hG).symm ?_
  refine aw_iload_1 dX7_fault_0 ?_
  refine aw_if_ne (tgt := 11) dX7_fault_1 (by decide) (fun c1 => ?_) (fun c1 => ?_)
  · refine aw_iload_1 dX7_fault_11 ?_
    refine aw_iconst (v := 1) dX7_fault_12 (by decide) ?_
    refine aw_icmp_ne (tgt := 23) dX7_fault_13 (by decide) (fun c13 => ?_) (fun c13 => ?_)
    · refine aw_iconst (v := (-1)) dX7_fault_23 (by decide) ?_
      exact aw_ireturn rfl dX7_fault_24 ⟨Nat.zero_le _, Nat.zero_le _⟩ (by simp [c1, c13]) rfl (zput_view hG) rfl
    · refine aw_aload_0 dX7_fault_16 ?_
      refine aw_getI fX7_8 hinX7 (by decide +kernel : Cond.fieldLink RX7 26 RX7 (TX7 8).2.1 (TX7 8).2.2.1 ∈ wsX7_fault) ms0 dX7_fault_17 ?_
      try simp (disch := omega) only [zu_up, zup_in, zup_in0, zput_at, zput_a0, zput_zput, zup_eq, zup_ne, va_up_up, nI_clamp]
      refine aw_goto (tgt := 24) dX7_fault_20 (by decide) ?_
      exact aw_ireturn rfl dX7_fault_24 ⟨Nat.zero_le _, Nat.zero_le _⟩ (by simp [c1, c13]) rfl (zput_view hG) rfl
  · refine aw_aload_0 dX7_fault_4 ?_
    refine aw_getI fX7_7 hinX7 (by decide +kernel : Cond.fieldLink RX7 22 RX7 (TX7 7).2.1 (TX7 7).2.2.1 ∈ wsX7_fault) ms0 dX7_fault_5 ?_
    try simp (disch := omega) only [zu_up, zup_in, zup_in0, zput_at, zput_a0, zput_zput, zup_eq, zup_ne, va_up_up, nI_clamp]
    refine aw_goto (tgt := 24) dX7_fault_8 (by decide) ?_
    exact aw_ireturn rfl dX7_fault_24 ⟨Nat.zero_le _, Nat.zero_le _⟩ (by simp [c1]) rfl (zput_view hG) rfl

abbrev mX7_write : ZM := (cX7_write, RX7, wsX7_write, 2, 0, 0, (some .int), 2, yX7_write.name)
set_option maxHeartbeats 1000000 in
set_option maxRecDepth 100000 in
theorem c_X7_write_b {sh : zSh} {F : Nat → Nat → Int32} {P : Nat → Nat → Option Nat} {μ : Nat} {G : Nat → Nat → Int32} {c : Int32} (hM : zMd sh P μ) (hG : zVw F μ 13 G) (h : mIn c 32 126 = 0) : zMet yX7_write wsX7_write (2) (0) (0) [.ref μ, .int c] sh F P (some (.int (-1))) sh F P := by
  refine zMet.of (by decide) rfl (Nat.le_of_ble_eq_true rfl) (by simp [Value.category]) ?_
  intro X ρ
  show AW mX7_write X (zMQ mX7_write X (some (.int (-1))) sh F P) 0 [some (.ref μ), some (.int c)] [] ρ sh F P 0 0
  have hinX7 : ∀ w ∈ u_ws RX7 TX7 29, w ∈ wsX7_write := by decide +kernel
  obtain ⟨ms0, ⟨mp0, mp1, mp3, mp5, mp9, mp10, mp11, mp12, mp13, mp17, mp21, mp28⟩, ms1, ms2, ms3, ms4, ms5, ms6, ms7, ms8, ms9, ms10, ms11, ms12⟩ := id hM
  refine aw_cF (F' := zput F μ 13 G) (zput_view hG).symm ?_
  refine aw_iload_1 dX7_write_0 ?_
  refine aw_bipush (v := 32) dX7_write_1 (by decide) ?_
  refine aw_bipush (v := 126) dX7_write_3 (by decide) ?_
  refine aw_run (zRun_S (c_X7_isIn ) (Or.inl gX7_write_X7_isIn) q_X7_isIn (by decide) rfl rfl (Nat.le_of_ble_eq_true rfl) dX7_write_5 ⟨Nat.le_refl _, Nat.le_refl _⟩) ?_
  refine aw_if_ne (tgt := 13) dX7_write_8 (by decide) (fun c8 => ?_) (fun c8 => ?_)
  · exact absurd h c8
  · refine aw_iconst (v := (-1)) dX7_write_11 (by decide) ?_
    exact aw_ireturn rfl dX7_write_12 ⟨Nat.zero_le _, Nat.zero_le _⟩ (by first | rfl | simp [c8]) rfl (zput_view hG) rfl

set_option maxHeartbeats 1000000 in
set_option maxRecDepth 100000 in
theorem c_X7_write_f {sh : zSh} {F : Nat → Nat → Int32} {P : Nat → Nat → Option Nat} {μ : Nat} {G : Nat → Nat → Int32} {c : Int32} (hM : zMd sh P μ) (hG : zVw F μ 13 G) (hc : ¬ mIn c 32 126 = 0) (h : G 0 6 = 60) : zMet yX7_write wsX7_write (2) (0) (0) [.ref μ, .int c] sh F P (some (.int (-3))) sh F P := by
  refine zMet.of (by decide) rfl (Nat.le_of_ble_eq_true rfl) (by simp [Value.category]) ?_
  intro X ρ
  show AW mX7_write X (zMQ mX7_write X (some (.int (-3))) sh F P) 0 [some (.ref μ), some (.int c)] [] ρ sh F P 0 0
  have hinX7 : ∀ w ∈ u_ws RX7 TX7 29, w ∈ wsX7_write := by decide +kernel
  obtain ⟨ms0, ⟨mp0, mp1, mp3, mp5, mp9, mp10, mp11, mp12, mp13, mp17, mp21, mp28⟩, ms1, ms2, ms3, ms4, ms5, ms6, ms7, ms8, ms9, ms10, ms11, ms12⟩ := id hM
  refine aw_cF (F' := zput F μ 13 G) (zput_view hG).symm ?_
  refine aw_iload_1 dX7_write_0 ?_
  refine aw_bipush (v := 32) dX7_write_1 (by decide) ?_
  refine aw_bipush (v := 126) dX7_write_3 (by decide) ?_
  refine aw_run (zRun_S (c_X7_isIn ) (Or.inl gX7_write_X7_isIn) q_X7_isIn (by decide) rfl rfl (Nat.le_of_ble_eq_true rfl) dX7_write_5 ⟨Nat.le_refl _, Nat.le_refl _⟩) ?_
  refine aw_if_ne (tgt := 13) dX7_write_8 (by decide) (fun c8 => ?_) (fun c8 => absurd c8 hc)
  refine aw_aload_0 dX7_write_13 ?_
  refine aw_getI fX7_6 hinX7 (by decide +kernel : Cond.fieldLink RX7 181 RX7 (TX7 6).2.1 (TX7 6).2.2.1 ∈ wsX7_write) ms0 dX7_write_14 ?_
  try simp (disch := omega) only [zu_up, zup_in, zup_in0, zput_at, zput_a0, zput_zput, zup_eq, zup_ne, va_up_up, nI_clamp]
  refine aw_bipush (v := 60) dX7_write_17 (by decide) ?_
  refine aw_icmp_ne (tgt := 25) dX7_write_19 (by decide) (fun c19 => absurd c19 (fun e => e h)) (fun c19 => ?_)
  refine aw_bipush (v := (-3)) dX7_write_22 (by decide) ?_
  exact aw_ireturn rfl dX7_write_24 ⟨Nat.zero_le _, Nat.zero_le _⟩ (by first | rfl | simp [c8, c19]) rfl (zput_view hG) rfl

set_option maxHeartbeats 1000000 in
set_option maxRecDepth 100000 in
theorem c_X7_write_o {sh : zSh} {F : Nat → Nat → Int32} {P : Nat → Nat → Option Nat} {μ : Nat} {G : Nat → Nat → Int32} {c : Int32} {n : Nat} (hM : zMd sh P μ) (hG : zVw F μ 13 G) (hc : ¬ mIn c 32 126 = 0) (hn : n < 60) (h : G 0 6 = nI n) : zMet yX7_write wsX7_write (2) (0) (0) [.ref μ, .int c] sh F P (some (.int (nI (n + 1)))) sh (zput F μ 13 (va_up (va_up G 4 (upd (G 4) n c)) 0 (upd (G 0) 6 (nI (n + 1))))) P := by
  refine zMet.of (by decide) rfl (Nat.le_of_ble_eq_true rfl) (by simp [Value.category]) ?_
  intro X ρ
  show AW mX7_write X (zMQ mX7_write X (some (.int (nI (n + 1)))) sh (zput F μ 13 (va_up (va_up G 4 (upd (G 4) n c)) 0 (upd (G 0) 6 (nI (n + 1))))) P) 0 [some (.ref μ), some (.int c)] [] ρ sh F P 0 0
  have hinX7 : ∀ w ∈ u_ws RX7 TX7 29, w ∈ wsX7_write := by decide +kernel
  obtain ⟨ms0, ⟨mp0, mp1, mp3, mp5, mp9, mp10, mp11, mp12, mp13, mp17, mp21, mp28⟩, ms1, ms2, ms3, ms4, ms5, ms6, ms7, ms8, ms9, ms10, ms11, ms12⟩ := id hM
  refine aw_cF (F' := zput F μ 13 G) (zput_view hG).symm ?_
  refine aw_iload_1 dX7_write_0 ?_
  refine aw_bipush (v := 32) dX7_write_1 (by decide) ?_
  refine aw_bipush (v := 126) dX7_write_3 (by decide) ?_
  refine aw_run (zRun_S (c_X7_isIn ) (Or.inl gX7_write_X7_isIn) q_X7_isIn (by decide) rfl rfl (Nat.le_of_ble_eq_true rfl) dX7_write_5 ⟨Nat.le_refl _, Nat.le_refl _⟩) ?_
  refine aw_if_ne (tgt := 13) dX7_write_8 (by decide) (fun c8 => ?_) (fun c8 => absurd c8 hc)
  refine aw_aload_0 dX7_write_13 ?_
  refine aw_getI fX7_6 hinX7 (by decide +kernel : Cond.fieldLink RX7 181 RX7 (TX7 6).2.1 (TX7 6).2.2.1 ∈ wsX7_write) ms0 dX7_write_14 ?_
  try simp (disch := omega) only [zu_up, zup_in, zup_in0, zput_at, zput_a0, zput_zput, zup_eq, zup_ne, va_up_up, nI_clamp]
  rw [h]
  refine aw_bipush (v := 60) dX7_write_17 (by decide) ?_
  refine aw_icmp_ne (tgt := 25) dX7_write_19 (by decide) (fun c19 => ?_) (fun c19 => absurd c19 (fun e => absurd ((nI_eq (a := n) (b := 60) (by omega) (by decide)).mp e) (by omega)))
  refine aw_aload_0 dX7_write_25 ?_
  refine aw_getR fX7_5 (fun _ _ => rfl) mp5 hinX7 (by decide +kernel : Cond.fieldLink RX7 19 RX7 (TX7 5).2.1 (TX7 5).2.2.1 ∈ wsX7_write) ms0 dX7_write_26 ?_
  refine aw_aload_0 dX7_write_29 ?_
  refine aw_getI fX7_6 hinX7 (by decide +kernel : Cond.fieldLink RX7 181 RX7 (TX7 6).2.1 (TX7 6).2.2.1 ∈ wsX7_write) ms0 dX7_write_30 ?_
  try simp (disch := omega) only [zu_up, zup_in, zup_in0, zput_at, zput_a0, zput_zput, zup_eq, zup_ne, va_up_up, nI_clamp]
  rw [h]
  refine aw_iload_1 dX7_write_33 ?_
  refine aw_iastore (by first | exact ms1 | exact ms2 | exact ms3 | exact ms4 | exact ms5 | exact ms6 | exact ms7 | exact ms8 | exact ms9 | exact ms10 | exact ms11 | exact ms12) (vp_in_nI hn (by decide)) dX7_write_34 ?_
  try simp (disch := omega) only [zu_up, zup_in, zup_in0, zput_at, zput_a0, zput_zput, zup_eq, zup_ne, va_up_up, nI_clamp]
  refine aw_aload_0 dX7_write_35 ?_
  refine aw_dup rfl dX7_write_36 ?_
  refine aw_getI fX7_6 hinX7 (by decide +kernel : Cond.fieldLink RX7 181 RX7 (TX7 6).2.1 (TX7 6).2.2.1 ∈ wsX7_write) ms0 dX7_write_37 ?_
  try simp (disch := omega) only [zu_up, zup_in, zup_in0, zput_at, zput_a0, zput_zput, zup_eq, zup_ne, va_up_up, nI_clamp]
  rw [h]
  refine aw_iconst (v := 1) dX7_write_40 (by decide) ?_
  refine aw_iadd dX7_write_41 ?_
  rw [nI_1]
  refine aw_putI fX7_6 rfl hinX7 (by decide +kernel : Cond.fieldLink RX7 181 RX7 (TX7 6).2.1 (TX7 6).2.2.1 ∈ wsX7_write) ms0 dX7_write_42 ?_
  refine aw_aload_0 dX7_write_45 ?_
  refine aw_getI fX7_6 hinX7 (by decide +kernel : Cond.fieldLink RX7 181 RX7 (TX7 6).2.1 (TX7 6).2.2.1 ∈ wsX7_write) ms0 dX7_write_46 ?_
  try simp (disch := omega) only [zu_up, zup_in, zup_in0, zput_at, zput_a0, zput_zput, zup_eq, zup_ne, va_up_up, nI_clamp]
  rw [upd_eq]
  exact aw_ireturn rfl dX7_write_49 ⟨Nat.zero_le _, Nat.zero_le _⟩ rfl rfl (by simp (disch := omega) only [zu_up, zup_in, zup_in0, zput_at, zput_a0, zput_zput, zup_eq, zup_ne, va_up_up, nI_clamp]) rfl

abbrev mX7_undo : ZM := (cX7_undo, RX7, wsX7_undo, 1, 0, 0, (some .int), 2, yX7_undo.name)
set_option maxHeartbeats 1000000 in
set_option maxRecDepth 100000 in
theorem c_X7_undo_n {sh : zSh} {F : Nat → Nat → Int32} {P : Nat → Nat → Option Nat} {μ : Nat} {G : Nat → Nat → Int32} (hM : zMd sh P μ) (hG : zVw F μ 13 G) (h : G 0 2 = 0) : zMet yX7_undo wsX7_undo (1) (0) (0) [.ref μ] sh F P (some (.int (-2))) sh F P := by
  refine zMet.of (by decide) rfl (Nat.le_of_ble_eq_true rfl) (by simp [Value.category]) ?_
  intro X ρ
  show AW mX7_undo X (zMQ mX7_undo X (some (.int (-2))) sh F P) 0 [some (.ref μ), none] [] ρ sh F P 0 0
  have hinX7 : ∀ w ∈ u_ws RX7 TX7 29, w ∈ wsX7_undo := by decide +kernel
  obtain ⟨ms0, ⟨mp0, mp1, mp3, mp5, mp9, mp10, mp11, mp12, mp13, mp17, mp21, mp28⟩, ms1, ms2, ms3, ms4, ms5, ms6, ms7, ms8, ms9, ms10, ms11, ms12⟩ := id hM
  refine aw_cF (F' := zput F μ 13 G) (zput_view hG).symm ?_
  refine aw_aload_0 dX7_undo_0 ?_
  refine aw_getI fX7_2 hinX7 (by decide +kernel : Cond.fieldLink RX7 58 RX7 (TX7 2).2.1 (TX7 2).2.2.1 ∈ wsX7_undo) ms0 dX7_undo_1 ?_
  try simp (disch := omega) only [zu_up, zup_in, zup_in0, zput_at, zput_a0, zput_zput, zup_eq, zup_ne, va_up_up, nI_clamp]
  refine aw_if_ne (tgt := 10) dX7_undo_4 (by decide) (fun c4 => absurd c4 (fun e => e h)) (fun c4 => ?_)
  refine aw_bipush (v := (-2)) dX7_undo_7 (by decide) ?_
  exact aw_ireturn rfl dX7_undo_9 ⟨Nat.zero_le _, Nat.zero_le _⟩ (by first | rfl | simp [c4]) rfl (zput_view hG) rfl

set_option maxHeartbeats 1000000 in
set_option maxRecDepth 100000 in
theorem c_X7_undo_o {sh : zSh} {F : Nat → Nat → Int32} {P : Nat → Nat → Option Nat} {μ : Nat} {G : Nat → Nat → Int32} {q : Nat} (hM : zMd sh P μ) (hG : zVw F μ 13 G) (hq : q < 8) (h : G 0 2 = nI (q + 1)) : zMet yX7_undo wsX7_undo (1) (0) (0) [.ref μ] sh F P (some (.int (nI q))) sh (zput F μ 13 (va_up (va_up G 0 (upd (G 0) 2 (nI q))) 1 (fun j => if j < 462 then G 2 (462 * q + j) else G 1 j))) P := by
  refine zMet.of (by decide) rfl (Nat.le_of_ble_eq_true rfl) (by simp [Value.category]) ?_
  intro X ρ
  show AW mX7_undo X (zMQ mX7_undo X (some (.int (nI q))) sh (zput F μ 13 (va_up (va_up G 0 (upd (G 0) 2 (nI q))) 1 (fun j => if j < 462 then G 2 (462 * q + j) else G 1 j))) P) 0 [some (.ref μ), none] [] ρ sh F P 0 0
  have hinX7 : ∀ w ∈ u_ws RX7 TX7 29, w ∈ wsX7_undo := by decide +kernel
  obtain ⟨ms0, ⟨mp0, mp1, mp3, mp5, mp9, mp10, mp11, mp12, mp13, mp17, mp21, mp28⟩, ms1, ms2, ms3, ms4, ms5, ms6, ms7, ms8, ms9, ms10, ms11, ms12⟩ := id hM
  refine aw_cF (F' := zput F μ 13 G) (zput_view hG).symm ?_
  have L22 : ∀ (m k : Nat), k ≤ 462 → 462 - k = m → AW mX7_undo X (zMQ mX7_undo X (some (.int (nI q))) sh (zput F μ 13 (va_up (va_up G 0 (upd (G 0) 2 (nI q))) 1 (fun j => if j < 462 then G 2 (462 * q + j) else G 1 j))) P) 22 [some (.ref μ), some (.int (nI k))] [] ρ sh (zput F μ 13 (va_up (va_up G 0 (upd (G 0) 2 (nI q))) 1 (cCopy k (fun j => G 2 (462 * q + j)) (G 1)))) P 0 0 := by
    intro m
    induction m using Nat.strongRecOn with
    | _ m ih =>
    intro k hk hm
    refine aw_iload_1 dX7_undo_22 ?_
    refine aw_sipush (v := 462) dX7_undo_23 (by decide) ?_
    refine aw_icmp_ge (tgt := 56) dX7_undo_26 (by decide) (fun c26 => ?_) (fun c26 => ?_)
    · refine aw_aload_0 dX7_undo_56 ?_
      refine aw_getI fX7_2 hinX7 (by decide +kernel : Cond.fieldLink RX7 58 RX7 (TX7 2).2.1 (TX7 2).2.2.1 ∈ wsX7_undo) ms0 dX7_undo_57 ?_
      try simp (disch := omega) only [zu_up, zup_in, zup_in0, zput_at, zput_a0, zput_zput, zup_eq, zup_ne, va_up_up, nI_clamp]
      rw [upd_eq]
      exact aw_ireturn rfl dX7_undo_60 ⟨Nat.zero_le _, Nat.zero_le _⟩ rfl rfl (by rw [zend (n := 462) hk (by decide) c26]; rfl) rfl
    · have hlt : k < 462 := zlt (n := 462) hk (by decide) c26
      refine aw_aload_0 dX7_undo_29 ?_
      refine aw_getR fX7_0 (fun _ _ => rfl) mp0 hinX7 (by decide +kernel : Cond.fieldLink RX7 7 RX7 (TX7 0).2.1 (TX7 0).2.2.1 ∈ wsX7_undo) ms0 dX7_undo_30 ?_
      refine aw_iload_1 dX7_undo_33 ?_
      refine aw_aload_0 dX7_undo_34 ?_
      refine aw_getR fX7_1 (fun _ _ => rfl) mp1 hinX7 (by decide +kernel : Cond.fieldLink RX7 13 RX7 (TX7 1).2.1 (TX7 1).2.2.1 ∈ wsX7_undo) ms0 dX7_undo_35 ?_
      refine aw_sipush (v := 462) dX7_undo_38 (by decide) ?_
      refine aw_aload_0 dX7_undo_41 ?_
      refine aw_getI fX7_2 hinX7 (by decide +kernel : Cond.fieldLink RX7 58 RX7 (TX7 2).2.1 (TX7 2).2.2.1 ∈ wsX7_undo) ms0 dX7_undo_42 ?_
      try simp (disch := omega) only [zu_up, zup_in, zup_in0, zput_at, zput_a0, zput_zput, zup_eq, zup_ne, va_up_up, nI_clamp]
      rw [upd_eq]
      refine aw_imul dX7_undo_45 ?_
      refine aw_iload_1 dX7_undo_46 ?_
      refine aw_iadd dX7_undo_47 ?_
      rw [m462]
      refine aw_iaload (by first | exact ms1 | exact ms2 | exact ms3 | exact ms4 | exact ms5 | exact ms6 | exact ms7 | exact ms8 | exact ms9 | exact ms10 | exact ms11 | exact ms12) (vp_in_nI (show 462 * q + k < 3696 by omega) (by decide)) dX7_undo_48 ?_
      try simp (disch := omega) only [zu_up, zup_in, zup_in0, zput_at, zput_a0, zput_zput, zup_eq, zup_ne, va_up_up, nI_clamp]
      refine aw_iastore (by first | exact ms1 | exact ms2 | exact ms3 | exact ms4 | exact ms5 | exact ms6 | exact ms7 | exact ms8 | exact ms9 | exact ms10 | exact ms11 | exact ms12) (vp_in_nI hlt (by decide)) dX7_undo_49 ?_
      simp (disch := omega) only [zu_up, zup_in, zup_in0, zput_at, zput_a0, zput_zput, zup_eq, zup_ne, va_up_up, nI_clamp]
      rw [cCopy_s (f := fun j => G 2 (462 * q + j))]
      refine aw_iinc_1 (v := 1) (by decide) dX7_undo_50 ?_
      refine aw_goto (tgt := 22) dX7_undo_53 (by decide) ?_
      rw [nI_1]
      exact ih (462 - (k + 1)) (by omega) (k + 1) (by omega) rfl
  refine aw_aload_0 dX7_undo_0 ?_
  refine aw_getI fX7_2 hinX7 (by decide +kernel : Cond.fieldLink RX7 58 RX7 (TX7 2).2.1 (TX7 2).2.2.1 ∈ wsX7_undo) ms0 dX7_undo_1 ?_
  try simp (disch := omega) only [zu_up, zup_in, zup_in0, zput_at, zput_a0, zput_zput, zup_eq, zup_ne, va_up_up, nI_clamp]
  rw [h]
  refine aw_if_ne (tgt := 10) dX7_undo_4 (by decide) (fun c4 => ?_) (fun c4 => absurd c4 (nI_ne0 (by omega) (by omega)))
  refine aw_aload_0 dX7_undo_10 ?_
  refine aw_dup rfl dX7_undo_11 ?_
  refine aw_getI fX7_2 hinX7 (by decide +kernel : Cond.fieldLink RX7 58 RX7 (TX7 2).2.1 (TX7 2).2.2.1 ∈ wsX7_undo) ms0 dX7_undo_12 ?_
  try simp (disch := omega) only [zu_up, zup_in, zup_in0, zput_at, zput_a0, zput_zput, zup_eq, zup_ne, va_up_up, nI_clamp]
  rw [h]
  refine aw_iconst (v := 1) dX7_undo_15 (by decide) ?_
  refine aw_isub dX7_undo_16 ?_
  rw [show nI (q + 1) - 1 = nI q from pk_sub (a := q + 1) (b := 1) (by omega)]
  refine aw_putI fX7_2 rfl hinX7 (by decide +kernel : Cond.fieldLink RX7 58 RX7 (TX7 2).2.1 (TX7 2).2.2.1 ∈ wsX7_undo) ms0 dX7_undo_17 ?_
  try simp (disch := omega) only [zu_up, zup_in, zup_in0, zput_at, zput_a0, zput_zput, zup_eq, zup_ne, va_up_up, nI_clamp]
  refine aw_iconst (v := 0) dX7_undo_20 (by decide) ?_
  refine aw_istore_1 dX7_undo_21 ?_
  refine aw_cF (F' := zput F μ 13 (va_up (va_up G 0 (upd (G 0) 2 (nI q))) 1 (cCopy 0 (fun j => G 2 (462 * q + j)) (G 1)))) (by rw [cCopy_0, va_id (i := 1) (by rw [zup_ne (by decide)])]) ?_
  exact L22 _ 0 (Nat.zero_le _) rfl
