/-! ===== 38.md9: what the model tells ===== -/
def mRecipes (w : Nat → Int32) : Nat → Int32 := fun n => it (fun t x => x + mMade w t) n 0
def mStored (w : Nat → Int32) : Nat → Int32 := fun n => it (fun t x => x + w (23 * t + 0)) n 0
def mMadeSet (w : Nat → Int32) : Nat → Int32 := fun n => it (fun t x => x ||| (if mMade w t = 0 then 0 else (1 : Int32) <<< (nI t &&& 31))) n 0
def mGreat (R : Nat → Int32) : Nat → Int32 := fun n => it (fun t x => mMax (R t) x) n 0
theorem mMade_01 {w : Nat → Int32} {t : Nat} : mMade w t = if mMade w t = 0 then 0 else 1 := by
  unfold mMade
  by_cases h : w (23 * t + 7) ≤ 0
  · rw [if_pos h, if_pos rfl]
  · rw [if_neg h, if_neg (by decide)]
def mR12 (G : Nat → Nat → Int32) : Nat → Int32 := mRanks (G 1) (G 5) 12

abbrev mX7_recipes : ZM := (cX7_recipes, RX7, wsX7_recipes, 3, 0, 0, (some .int), 3, yX7_recipes.name)
set_option maxHeartbeats 1000000 in
set_option maxRecDepth 100000 in
theorem c_X7_recipes {sh : zSh} {F : Nat → Nat → Int32} {P : Nat → Nat → Option Nat} {μ : Nat} {G : Nat → Nat → Int32} (hM : zMd sh P μ) (hG : zVw F μ 13 G) : zMet yX7_recipes wsX7_recipes (3) (0) (0) [.ref μ] sh F P (some (.int (mRecipes (G 1) 20))) sh F P := by
  refine zMet.of (by decide) rfl (Nat.le_of_ble_eq_true rfl) (by simp [Value.category]) ?_
  intro X ρ
  show AW mX7_recipes X (zMQ mX7_recipes X (some (.int (mRecipes (G 1) 20))) sh F P) 0 [some (.ref μ), none, none] [] ρ sh F P 0 0
  obtain ⟨ms0, ⟨mp0, mp1, mp3, mp5, mp9, mp10, mp11, mp12, mp13, mp17, mp21, mp28⟩, ms1, ms2, ms3, ms4, ms5, ms6, ms7, ms8, ms9, ms10, ms11, ms12⟩ := id hM
  refine aw_cF (F' := zput F μ 13 G) (zput_view hG).symm ?_
  have L4 : ∀ (m k : Nat), k ≤ 20 → 20 - k = m → AW mX7_recipes X (zMQ mX7_recipes X (some (.int (mRecipes (G 1) 20))) sh F P) 4 [some (.ref μ), some (.int (mRecipes (G 1) k)), some (.int (nI k))] [] ρ sh (zput F μ 13 G) P 0 0 := by
    intro m
    induction m using Nat.strongRecOn with
    | _ m ih =>
    intro k hk hm
    refine aw_iload_2 dX7_recipes_4 ?_
    refine aw_bipush (v := 20) dX7_recipes_5 (by decide) ?_
    refine aw_icmp_ge (tgt := 32) dX7_recipes_7 (by decide) (fun c7 => ?_) (fun c7 => ?_)
    · refine aw_iload_1 dX7_recipes_32 ?_
      exact aw_ireturn rfl dX7_recipes_33 ⟨Nat.zero_le _, Nat.zero_le _⟩ (by rw [zend (n := 20) hk (by decide) c7]) rfl (zput_view hG) rfl
    · have hlt : k < 20 := zlt (n := 20) hk (by decide) c7
      refine aw_iload_1 dX7_recipes_10 ?_
      refine aw_aload_0 dX7_recipes_11 ?_
      refine aw_iload_2 dX7_recipes_12 ?_
      refine aw_run (zRun_V (c_X7_isMade (t := k) hM zVw.put hlt) gX7_recipes_X7_isMade q_X7_isMade rfl (by decide) rfl ms0 rfl rfl (Nat.le_of_ble_eq_true rfl) dX7_recipes_13 ⟨Nat.le_refl _, Nat.le_refl _⟩) ?_
      obtain ⟨mm, hmm⟩ : ∃ mm, zBox (mMade (G 1) k = mm) := ⟨_, zBox.mk rfl⟩
      rw [hmm.out]
      refine aw_if_eq (tgt := 23) dX7_recipes_16 (by decide) (fun c16 => ?_) (fun c16 => ?_)
      · refine aw_iconst (v := 0) dX7_recipes_23 (by decide) ?_
        refine aw_iadd dX7_recipes_24 ?_
        refine aw_top (x' := mRecipes (G 1) (k + 1)) (by show mRecipes (G 1) k + mMade (G 1) k = _; rw [hmm.out, show mm = if mm = 0 then 0 else 1 from hmm.out ▸ mMade_01]; first | rw [if_pos c16] | rw [if_neg c16]) ?_
        refine aw_istore_1 dX7_recipes_25 ?_
        refine aw_iinc_2 (v := 1) (by decide) dX7_recipes_26 ?_
        refine aw_goto (tgt := 4) dX7_recipes_29 (by decide) ?_
        rw [nI_1]
        exact ih (20 - (k + 1)) (by omega) (k + 1) (by omega) rfl
      · refine aw_iconst (v := 1) dX7_recipes_19 (by decide) ?_
        refine aw_goto (tgt := 24) dX7_recipes_20 (by decide) ?_
        refine aw_iadd dX7_recipes_24 ?_
        refine aw_top (x' := mRecipes (G 1) (k + 1)) (by show mRecipes (G 1) k + mMade (G 1) k = _; rw [hmm.out, show mm = if mm = 0 then 0 else 1 from hmm.out ▸ mMade_01]; first | rw [if_pos c16] | rw [if_neg c16]) ?_
        refine aw_istore_1 dX7_recipes_25 ?_
        refine aw_iinc_2 (v := 1) (by decide) dX7_recipes_26 ?_
        refine aw_goto (tgt := 4) dX7_recipes_29 (by decide) ?_
        rw [nI_1]
        exact ih (20 - (k + 1)) (by omega) (k + 1) (by omega) rfl
  refine aw_iconst (v := 0) dX7_recipes_0 (by decide) ?_
  refine aw_istore_1 dX7_recipes_1 ?_
  refine aw_iconst (v := 0) dX7_recipes_2 (by decide) ?_
  refine aw_istore_2 dX7_recipes_3 ?_
  exact L4 _ 0 (Nat.zero_le _) rfl

abbrev mX7_stored : ZM := (cX7_stored, RX7, wsX7_stored, 2, 0, 0, (some .int), 3, yX7_stored.name)
set_option maxHeartbeats 1000000 in
set_option maxRecDepth 100000 in
theorem c_X7_stored {sh : zSh} {F : Nat → Nat → Int32} {P : Nat → Nat → Option Nat} {μ : Nat} {G : Nat → Nat → Int32} (hM : zMd sh P μ) (hG : zVw F μ 13 G) : zMet yX7_stored wsX7_stored (2) (0) (0) [.ref μ] sh F P (some (.int (mStored (G 1) 20))) sh F P := by
  refine zMet.of (by decide) rfl (Nat.le_of_ble_eq_true rfl) (by simp [Value.category]) ?_
  intro X ρ
  show AW mX7_stored X (zMQ mX7_stored X (some (.int (mStored (G 1) 20))) sh F P) 0 [some (.ref μ), none, none] [] ρ sh F P 0 0
  obtain ⟨ms0, ⟨mp0, mp1, mp3, mp5, mp9, mp10, mp11, mp12, mp13, mp17, mp21, mp28⟩, ms1, ms2, ms3, ms4, ms5, ms6, ms7, ms8, ms9, ms10, ms11, ms12⟩ := id hM
  refine aw_cF (F' := zput F μ 13 G) (zput_view hG).symm ?_
  have L4 : ∀ (m k : Nat), k ≤ 20 → 20 - k = m → AW mX7_stored X (zMQ mX7_stored X (some (.int (mStored (G 1) 20))) sh F P) 4 [some (.ref μ), some (.int (mStored (G 1) k)), some (.int (nI k))] [] ρ sh (zput F μ 13 G) P 0 0 := by
    intro m
    induction m using Nat.strongRecOn with
    | _ m ih =>
    intro k hk hm
    refine aw_iload_2 dX7_stored_4 ?_
    refine aw_bipush (v := 20) dX7_stored_5 (by decide) ?_
    refine aw_icmp_ge (tgt := 25) dX7_stored_7 (by decide) (fun c7 => ?_) (fun c7 => ?_)
    · refine aw_iload_1 dX7_stored_25 ?_
      exact aw_ireturn rfl dX7_stored_26 ⟨Nat.zero_le _, Nat.zero_le _⟩ (by rw [zend (n := 20) hk (by decide) c7]) rfl (zput_view hG) rfl
    · have hlt : k < 20 := zlt (n := 20) hk (by decide) c7
      refine aw_iload_1 dX7_stored_10 ?_
      refine aw_aload_0 dX7_stored_11 ?_
      refine aw_iload_2 dX7_stored_12 ?_
      refine aw_iconst (v := 0) dX7_stored_13 (by decide) ?_
      refine aw_run (zRun_V (c_X7_of (t := k) (k := 0) hM zVw.put (by omega)) gX7_stored_X7_of q_X7_of rfl (by decide) rfl ms0 rfl rfl (Nat.le_of_ble_eq_true rfl) dX7_stored_14 ⟨Nat.le_refl _, Nat.le_refl _⟩) ?_
      refine aw_iadd dX7_stored_17 ?_
      refine aw_istore_1 dX7_stored_18 ?_
      refine aw_iinc_2 (v := 1) (by decide) dX7_stored_19 ?_
      refine aw_goto (tgt := 4) dX7_stored_22 (by decide) ?_
      rw [nI_1]
      exact ih (20 - (k + 1)) (by omega) (k + 1) (by omega) rfl
  refine aw_iconst (v := 0) dX7_stored_0 (by decide) ?_
  refine aw_istore_1 dX7_stored_1 ?_
  refine aw_iconst (v := 0) dX7_stored_2 (by decide) ?_
  refine aw_istore_2 dX7_stored_3 ?_
  exact L4 _ 0 (Nat.zero_le _) rfl

abbrev mX7_madeThings : ZM := (cX7_madeThings, RX7, wsX7_madeThings, 3, 0, 0, (some .int), 3, yX7_madeThings.name)
set_option maxHeartbeats 1000000 in
set_option maxRecDepth 100000 in
theorem c_X7_madeThings {sh : zSh} {F : Nat → Nat → Int32} {P : Nat → Nat → Option Nat} {μ : Nat} {G : Nat → Nat → Int32} (hM : zMd sh P μ) (hG : zVw F μ 13 G) : zMet yX7_madeThings wsX7_madeThings (3) (0) (0) [.ref μ] sh F P (some (.int (mMadeSet (G 1) 20))) sh F P := by
  refine zMet.of (by decide) rfl (Nat.le_of_ble_eq_true rfl) (by simp [Value.category]) ?_
  intro X ρ
  show AW mX7_madeThings X (zMQ mX7_madeThings X (some (.int (mMadeSet (G 1) 20))) sh F P) 0 [some (.ref μ), none, none] [] ρ sh F P 0 0
  obtain ⟨ms0, ⟨mp0, mp1, mp3, mp5, mp9, mp10, mp11, mp12, mp13, mp17, mp21, mp28⟩, ms1, ms2, ms3, ms4, ms5, ms6, ms7, ms8, ms9, ms10, ms11, ms12⟩ := id hM
  refine aw_cF (F' := zput F μ 13 G) (zput_view hG).symm ?_
  have L4 : ∀ (m k : Nat), k ≤ 20 → 20 - k = m → AW mX7_madeThings X (zMQ mX7_madeThings X (some (.int (mMadeSet (G 1) 20))) sh F P) 4 [some (.ref μ), some (.int (mMadeSet (G 1) k)), some (.int (nI k))] [] ρ sh (zput F μ 13 G) P 0 0 := by
    intro m
    induction m using Nat.strongRecOn with
    | _ m ih =>
    intro k hk hm
    refine aw_iload_2 dX7_madeThings_4 ?_
    refine aw_bipush (v := 20) dX7_madeThings_5 (by decide) ?_
    refine aw_icmp_ge (tgt := 34) dX7_madeThings_7 (by decide) (fun c7 => ?_) (fun c7 => ?_)
    · refine aw_iload_1 dX7_madeThings_34 ?_
      exact aw_ireturn rfl dX7_madeThings_35 ⟨Nat.zero_le _, Nat.zero_le _⟩ (by rw [zend (n := 20) hk (by decide) c7]) rfl (zput_view hG) rfl
    · have hlt : k < 20 := zlt (n := 20) hk (by decide) c7
      refine aw_iload_1 dX7_madeThings_10 ?_
      refine aw_aload_0 dX7_madeThings_11 ?_
      refine aw_iload_2 dX7_madeThings_12 ?_
      refine aw_run (zRun_V (c_X7_isMade (t := k) hM zVw.put hlt) gX7_madeThings_X7_isMade q_X7_isMade rfl (by decide) rfl ms0 rfl rfl (Nat.le_of_ble_eq_true rfl) dX7_madeThings_13 ⟨Nat.le_refl _, Nat.le_refl _⟩) ?_
      obtain ⟨mm, hmm⟩ : ∃ mm, zBox (mMade (G 1) k = mm) := ⟨_, zBox.mk rfl⟩
      rw [hmm.out]
      refine aw_if_eq (tgt := 25) dX7_madeThings_16 (by decide) (fun c16 => ?_) (fun c16 => ?_)
      · refine aw_iconst (v := 0) dX7_madeThings_25 (by decide) ?_
        refine aw_ior dX7_madeThings_26 ?_
        refine aw_top (x' := mMadeSet (G 1) (k + 1)) (by show mMadeSet (G 1) k ||| (if mMade (G 1) k = 0 then 0 else (1 : Int32) <<< (nI k &&& 31)) = _; rw [hmm.out]; first | rw [if_pos c16] | rw [if_neg c16]) ?_
        refine aw_istore_1 dX7_madeThings_27 ?_
        refine aw_iinc_2 (v := 1) (by decide) dX7_madeThings_28 ?_
        refine aw_goto (tgt := 4) dX7_madeThings_31 (by decide) ?_
        rw [nI_1]
        exact ih (20 - (k + 1)) (by omega) (k + 1) (by omega) rfl
      · refine aw_iconst (v := 1) dX7_madeThings_19 (by decide) ?_
        refine aw_iload_2 dX7_madeThings_20 ?_
        refine aw_ishl dX7_madeThings_21 ?_
        refine aw_goto (tgt := 26) dX7_madeThings_22 (by decide) ?_
        refine aw_ior dX7_madeThings_26 ?_
        refine aw_top (x' := mMadeSet (G 1) (k + 1)) (by show mMadeSet (G 1) k ||| (if mMade (G 1) k = 0 then 0 else (1 : Int32) <<< (nI k &&& 31)) = _; rw [hmm.out]; first | rw [if_pos c16] | rw [if_neg c16]) ?_
        refine aw_istore_1 dX7_madeThings_27 ?_
        refine aw_iinc_2 (v := 1) (by decide) dX7_madeThings_28 ?_
        refine aw_goto (tgt := 4) dX7_madeThings_31 (by decide) ?_
        rw [nI_1]
        exact ih (20 - (k + 1)) (by omega) (k + 1) (by omega) rfl
  refine aw_iconst (v := 0) dX7_madeThings_0 (by decide) ?_
  refine aw_istore_1 dX7_madeThings_1 ?_
  refine aw_iconst (v := 0) dX7_madeThings_2 (by decide) ?_
  refine aw_istore_2 dX7_madeThings_3 ?_
  exact L4 _ 0 (Nat.zero_le _) rfl

abbrev mX7_greatestRank : ZM := (cX7_greatestRank, RX7, wsX7_greatestRank, 5, 0, 0, (some .int), 4, yX7_greatestRank.name)
set_option maxHeartbeats 1000000 in
set_option maxRecDepth 100000 in
theorem c_X7_greatestRank {sh : zSh} {F : Nat → Nat → Int32} {P : Nat → Nat → Option Nat} {μ : Nat} {G : Nat → Nat → Int32} (hM : zMd sh P μ) (hG : zVw F μ 13 G) (hok : mOk (G 1)) : zMet yX7_greatestRank wsX7_greatestRank (5) (0) (0) [.ref μ] sh F P (some (.int (mGreat (mR12 G) 20))) sh (zput F μ 13 (va_up G 5 (mR12 G))) P := by
  refine zMet.of (by decide) rfl (Nat.le_of_ble_eq_true rfl) (by simp [Value.category]) ?_
  intro X ρ
  show AW mX7_greatestRank X (zMQ mX7_greatestRank X (some (.int (mGreat (mR12 G) 20))) sh (zput F μ 13 (va_up G 5 (mR12 G))) P) 0 [some (.ref μ), none, none, none] [] ρ sh F P 0 0
  have hinX7 : ∀ w ∈ u_ws RX7 TX7 29, w ∈ wsX7_greatestRank := by decide +kernel
  obtain ⟨ms0, ⟨mp0, mp1, mp3, mp5, mp9, mp10, mp11, mp12, mp13, mp17, mp21, mp28⟩, ms1, ms2, ms3, ms4, ms5, ms6, ms7, ms8, ms9, ms10, ms11, ms12⟩ := id hM
  refine aw_cF (F' := zput F μ 13 G) (zput_view hG).symm ?_
  have L9 : ∀ (m k : Nat) (o1 : Option Value), k ≤ 20 → 20 - k = m → AW mX7_greatestRank X (zMQ mX7_greatestRank X (some (.int (mGreat (mR12 G) 20))) sh (zput F μ 13 (va_up G 5 (mR12 G))) P) 9 [some (.ref μ), o1, some (.int (mGreat (mR12 G) k)), some (.int (nI k))] [] ρ sh (zput F μ 13 (va_up G 5 (mR12 G))) P 0 0 := by
    intro m
    induction m using Nat.strongRecOn with
    | _ m ih =>
    intro k o1 hk hm
    refine aw_iload_3 dX7_greatestRank_9 ?_
    refine aw_bipush (v := 20) dX7_greatestRank_10 (by decide) ?_
    refine aw_icmp_ge (tgt := 42) dX7_greatestRank_12 (by decide) (fun c12 => ?_) (fun c12 => ?_)
    · refine aw_iload_2 dX7_greatestRank_42 ?_
      exact aw_ireturn rfl dX7_greatestRank_43 ⟨Nat.zero_le _, Nat.zero_le _⟩ (by rw [zend (n := 20) hk (by decide) c12]) rfl rfl rfl
    · have hlt : k < 20 := zlt (n := 20) hk (by decide) c12
      refine aw_aload_0 dX7_greatestRank_15 ?_
      refine aw_getR fX7_9 (fun _ _ => rfl) mp9 hinX7 (by decide +kernel : Cond.fieldLink RX7 29 RX7 (TX7 9).2.1 (TX7 9).2.2.1 ∈ wsX7_greatestRank) ms0 dX7_greatestRank_16 ?_
      refine aw_iload_3 dX7_greatestRank_19 ?_
      refine aw_iaload (by first | exact ms1 | exact ms2 | exact ms3 | exact ms4 | exact ms5 | exact ms6 | exact ms7 | exact ms8 | exact ms9 | exact ms10 | exact ms11 | exact ms12) (vp_in_nI hlt (by decide)) dX7_greatestRank_20 ?_
      try simp (disch := omega) only [zu_up, zup_in, zup_in0, zput_at, zput_a0, zput_zput, zup_eq, zup_ne, va_up_up, nI_clamp]
      refine aw_iload_2 dX7_greatestRank_21 ?_
      refine aw_icmp_le (tgt := 34) dX7_greatestRank_22 (by decide) (fun c22 => ?_) (fun c22 => ?_)
      · refine aw_iload_2 dX7_greatestRank_34 ?_
        refine aw_top (x' := mGreat (mR12 G) (k + 1)) (by show mMax (mR12 G k) (mGreat (mR12 G) k) = _; unfold mMax; first | exact if_pos c22 | exact if_neg c22) ?_
        refine aw_istore_2 dX7_greatestRank_35 ?_
        refine aw_iinc_3 (v := 1) (by decide) dX7_greatestRank_36 ?_
        refine aw_goto (tgt := 9) dX7_greatestRank_39 (by decide) ?_
        rw [nI_1]
        exact ih (20 - (k + 1)) (by omega) (k + 1) _ (by omega) rfl
      · refine aw_aload_0 dX7_greatestRank_25 ?_
        refine aw_getR fX7_9 (fun _ _ => rfl) mp9 hinX7 (by decide +kernel : Cond.fieldLink RX7 29 RX7 (TX7 9).2.1 (TX7 9).2.2.1 ∈ wsX7_greatestRank) ms0 dX7_greatestRank_26 ?_
        refine aw_iload_3 dX7_greatestRank_29 ?_
        refine aw_iaload (by first | exact ms1 | exact ms2 | exact ms3 | exact ms4 | exact ms5 | exact ms6 | exact ms7 | exact ms8 | exact ms9 | exact ms10 | exact ms11 | exact ms12) (vp_in_nI hlt (by decide)) dX7_greatestRank_30 ?_
        try simp (disch := omega) only [zu_up, zup_in, zup_in0, zput_at, zput_a0, zput_zput, zup_eq, zup_ne, va_up_up, nI_clamp]
        refine aw_goto (tgt := 35) dX7_greatestRank_31 (by decide) ?_
        refine aw_top (x' := mGreat (mR12 G) (k + 1)) (by show mMax (mR12 G k) (mGreat (mR12 G) k) = _; unfold mMax; first | exact if_pos c22 | exact if_neg c22) ?_
        refine aw_istore_2 dX7_greatestRank_35 ?_
        refine aw_iinc_3 (v := 1) (by decide) dX7_greatestRank_36 ?_
        refine aw_goto (tgt := 9) dX7_greatestRank_39 (by decide) ?_
        rw [nI_1]
        exact ih (20 - (k + 1)) (by omega) (k + 1) _ (by omega) rfl
  refine aw_aload_0 dX7_greatestRank_0 ?_
  refine aw_run (zRun_V (c_X7_areRanks hM zVw.put hok) gX7_greatestRank_X7_areRanks q_X7_areRanks rfl (by decide) rfl ms0 rfl rfl (Nat.le_of_ble_eq_true rfl) dX7_greatestRank_1 ⟨Nat.le_refl _, Nat.le_refl _⟩) ?_
  refine aw_istore_1 dX7_greatestRank_4 ?_
  refine aw_iconst (v := 0) dX7_greatestRank_5 (by decide) ?_
  refine aw_istore_2 dX7_greatestRank_6 ?_
  refine aw_iconst (v := 0) dX7_greatestRank_7 (by decide) ?_
  refine aw_istore_3 dX7_greatestRank_8 ?_
  rw [zput_zput]
  exact L9 _ 0 _ (Nat.zero_le _) rfl

abbrev mX7_told : ZM := (cX7_told, RX7, wsX7_told, 6, 0, 0, (some .int), 2, yX7_told.name)
set_option maxHeartbeats 1000000 in
set_option maxRecDepth 100000 in
theorem c_X7_told_0 {sh : zSh} {F : Nat → Nat → Int32} {P : Nat → Nat → Option Nat} {μ : Nat} {G : Nat → Nat → Int32} (hM : zMd sh P μ) (hG : zVw F μ 13 G) : zMet yX7_told wsX7_told (6) (0) (0) [.ref μ, .int 0] sh F P (some (.int (mRecipes (G 1) 20))) sh F P := by
  refine zMet.of (by decide) rfl (Nat.le_of_ble_eq_true rfl) (by simp [Value.category]) ?_
  intro X ρ
  show AW mX7_told X (zMQ mX7_told X (some (.int (mRecipes (G 1) 20))) sh F P) 0 [some (.ref μ), some (.int 0)] [] ρ sh F P 0 0
  have hinX7 : ∀ w ∈ u_ws RX7 TX7 29, w ∈ wsX7_told := by decide +kernel
  obtain ⟨ms0, ⟨mp0, mp1, mp3, mp5, mp9, mp10, mp11, mp12, mp13, mp17, mp21, mp28⟩, ms1, ms2, ms3, ms4, ms5, ms6, ms7, ms8, ms9, ms10, ms11, ms12⟩ := id hM
  refine aw_cF (F' := zput F μ 13 G) (zput_view hG).symm ?_
  refine aw_iload_1 dX7_told_0 ?_
  refine aw_tableIn (off := 47) (tgt := 48) dX7_told_1 (by decide) (by decide) (by decide) (by decide) ?_
  refine aw_aload_0 dX7_told_48 ?_
  refine aw_run (zRun_V (c_X7_recipes hM zVw.put) gX7_told_X7_recipes q_X7_recipes rfl (by decide) rfl ms0 rfl rfl (Nat.le_of_ble_eq_true rfl) dX7_told_49 ⟨Nat.le_refl _, Nat.le_refl _⟩) ?_
  exact aw_ireturn rfl dX7_told_52 ⟨Nat.zero_le _, Nat.zero_le _⟩ rfl rfl (zput_view hG) rfl

set_option maxHeartbeats 1000000 in
set_option maxRecDepth 100000 in
theorem c_X7_told_1 {sh : zSh} {F : Nat → Nat → Int32} {P : Nat → Nat → Option Nat} {μ : Nat} {G : Nat → Nat → Int32} (hM : zMd sh P μ) (hG : zVw F μ 13 G) : zMet yX7_told wsX7_told (6) (0) (0) [.ref μ, .int 1] sh F P (some (.int (mStored (G 1) 20))) sh F P := by
  refine zMet.of (by decide) rfl (Nat.le_of_ble_eq_true rfl) (by simp [Value.category]) ?_
  intro X ρ
  show AW mX7_told X (zMQ mX7_told X (some (.int (mStored (G 1) 20))) sh F P) 0 [some (.ref μ), some (.int 1)] [] ρ sh F P 0 0
  have hinX7 : ∀ w ∈ u_ws RX7 TX7 29, w ∈ wsX7_told := by decide +kernel
  obtain ⟨ms0, ⟨mp0, mp1, mp3, mp5, mp9, mp10, mp11, mp12, mp13, mp17, mp21, mp28⟩, ms1, ms2, ms3, ms4, ms5, ms6, ms7, ms8, ms9, ms10, ms11, ms12⟩ := id hM
  refine aw_cF (F' := zput F μ 13 G) (zput_view hG).symm ?_
  refine aw_iload_1 dX7_told_0 ?_
  refine aw_tableIn (off := 52) (tgt := 53) dX7_told_1 (by decide) (by decide) (by decide) (by decide) ?_
  refine aw_aload_0 dX7_told_53 ?_
  refine aw_run (zRun_V (c_X7_stored hM zVw.put) gX7_told_X7_stored q_X7_stored rfl (by decide) rfl ms0 rfl rfl (Nat.le_of_ble_eq_true rfl) dX7_told_54 ⟨Nat.le_refl _, Nat.le_refl _⟩) ?_
  exact aw_ireturn rfl dX7_told_57 ⟨Nat.zero_le _, Nat.zero_le _⟩ rfl rfl (zput_view hG) rfl

set_option maxHeartbeats 1000000 in
set_option maxRecDepth 100000 in
theorem c_X7_told_2 {sh : zSh} {F : Nat → Nat → Int32} {P : Nat → Nat → Option Nat} {μ : Nat} {G : Nat → Nat → Int32} (hM : zMd sh P μ) (hG : zVw F μ 13 G) : zMet yX7_told wsX7_told (6) (0) (0) [.ref μ, .int 2] sh F P (some (.int (G 1 460))) sh F P := by
  refine zMet.of (by decide) rfl (Nat.le_of_ble_eq_true rfl) (by simp [Value.category]) ?_
  intro X ρ
  show AW mX7_told X (zMQ mX7_told X (some (.int (G 1 460))) sh F P) 0 [some (.ref μ), some (.int 2)] [] ρ sh F P 0 0
  have hinX7 : ∀ w ∈ u_ws RX7 TX7 29, w ∈ wsX7_told := by decide +kernel
  obtain ⟨ms0, ⟨mp0, mp1, mp3, mp5, mp9, mp10, mp11, mp12, mp13, mp17, mp21, mp28⟩, ms1, ms2, ms3, ms4, ms5, ms6, ms7, ms8, ms9, ms10, ms11, ms12⟩ := id hM
  refine aw_cF (F' := zput F μ 13 G) (zput_view hG).symm ?_
  refine aw_iload_1 dX7_told_0 ?_
  refine aw_tableIn (off := 57) (tgt := 58) dX7_told_1 (by decide) (by decide) (by decide) (by decide) ?_
  refine aw_aload_0 dX7_told_58 ?_
  refine aw_getR fX7_0 (fun _ _ => rfl) mp0 hinX7 (by decide +kernel : Cond.fieldLink RX7 7 RX7 (TX7 0).2.1 (TX7 0).2.2.1 ∈ wsX7_told) ms0 dX7_told_59 ?_
  refine aw_sipush (v := 460) dX7_told_62 (by decide) ?_
  refine aw_iaload (by first | exact ms1 | exact ms2 | exact ms3 | exact ms4 | exact ms5 | exact ms6 | exact ms7 | exact ms8 | exact ms9 | exact ms10 | exact ms11 | exact ms12) (show vp_in (nI 460) 462 from vp_in_nI (by decide) (by decide)) dX7_told_65 ?_
  rw [show (460 : Int32).toNatClampNeg = 460 from by decide]
  try simp (disch := omega) only [zu_up, zup_in, zup_in0, zput_at, zput_a0, zput_zput, zup_eq, zup_ne, va_up_up, nI_clamp]
  exact aw_ireturn rfl dX7_told_66 ⟨Nat.zero_le _, Nat.zero_le _⟩ rfl rfl (zput_view hG) rfl

set_option maxHeartbeats 1000000 in
set_option maxRecDepth 100000 in
theorem c_X7_told_3 {sh : zSh} {F : Nat → Nat → Int32} {P : Nat → Nat → Option Nat} {μ : Nat} {G : Nat → Nat → Int32} (hM : zMd sh P μ) (hG : zVw F μ 13 G) : zMet yX7_told wsX7_told (6) (0) (0) [.ref μ, .int 3] sh F P (some (.int (G 1 461))) sh F P := by
  refine zMet.of (by decide) rfl (Nat.le_of_ble_eq_true rfl) (by simp [Value.category]) ?_
  intro X ρ
  show AW mX7_told X (zMQ mX7_told X (some (.int (G 1 461))) sh F P) 0 [some (.ref μ), some (.int 3)] [] ρ sh F P 0 0
  have hinX7 : ∀ w ∈ u_ws RX7 TX7 29, w ∈ wsX7_told := by decide +kernel
  obtain ⟨ms0, ⟨mp0, mp1, mp3, mp5, mp9, mp10, mp11, mp12, mp13, mp17, mp21, mp28⟩, ms1, ms2, ms3, ms4, ms5, ms6, ms7, ms8, ms9, ms10, ms11, ms12⟩ := id hM
  refine aw_cF (F' := zput F μ 13 G) (zput_view hG).symm ?_
  refine aw_iload_1 dX7_told_0 ?_
  refine aw_tableIn (off := 66) (tgt := 67) dX7_told_1 (by decide) (by decide) (by decide) (by decide) ?_
  refine aw_aload_0 dX7_told_67 ?_
  refine aw_getR fX7_0 (fun _ _ => rfl) mp0 hinX7 (by decide +kernel : Cond.fieldLink RX7 7 RX7 (TX7 0).2.1 (TX7 0).2.2.1 ∈ wsX7_told) ms0 dX7_told_68 ?_
  refine aw_sipush (v := 461) dX7_told_71 (by decide) ?_
  refine aw_iaload (by first | exact ms1 | exact ms2 | exact ms3 | exact ms4 | exact ms5 | exact ms6 | exact ms7 | exact ms8 | exact ms9 | exact ms10 | exact ms11 | exact ms12) (show vp_in (nI 461) 462 from vp_in_nI (by decide) (by decide)) dX7_told_74 ?_
  rw [show (461 : Int32).toNatClampNeg = 461 from by decide]
  try simp (disch := omega) only [zu_up, zup_in, zup_in0, zput_at, zput_a0, zput_zput, zup_eq, zup_ne, va_up_up, nI_clamp]
  exact aw_ireturn rfl dX7_told_75 ⟨Nat.zero_le _, Nat.zero_le _⟩ rfl rfl (zput_view hG) rfl

set_option maxHeartbeats 1000000 in
set_option maxRecDepth 100000 in
theorem c_X7_told_4 {sh : zSh} {F : Nat → Nat → Int32} {P : Nat → Nat → Option Nat} {μ : Nat} {G : Nat → Nat → Int32} (hM : zMd sh P μ) (hG : zVw F μ 13 G) (hok : mOk (G 1)) : zMet yX7_told wsX7_told (6) (0) (0) [.ref μ, .int 4] sh F P (some (.int (mGreat (mR12 G) 20))) sh (zput F μ 13 (va_up G 5 (mR12 G))) P := by
  refine zMet.of (by decide) rfl (Nat.le_of_ble_eq_true rfl) (by simp [Value.category]) ?_
  intro X ρ
  show AW mX7_told X (zMQ mX7_told X (some (.int (mGreat (mR12 G) 20))) sh (zput F μ 13 (va_up G 5 (mR12 G))) P) 0 [some (.ref μ), some (.int 4)] [] ρ sh F P 0 0
  have hinX7 : ∀ w ∈ u_ws RX7 TX7 29, w ∈ wsX7_told := by decide +kernel
  obtain ⟨ms0, ⟨mp0, mp1, mp3, mp5, mp9, mp10, mp11, mp12, mp13, mp17, mp21, mp28⟩, ms1, ms2, ms3, ms4, ms5, ms6, ms7, ms8, ms9, ms10, ms11, ms12⟩ := id hM
  refine aw_cF (F' := zput F μ 13 G) (zput_view hG).symm ?_
  refine aw_iload_1 dX7_told_0 ?_
  refine aw_tableIn (off := 75) (tgt := 76) dX7_told_1 (by decide) (by decide) (by decide) (by decide) ?_
  refine aw_aload_0 dX7_told_76 ?_
  refine aw_run (zRun_V (c_X7_greatestRank hM zVw.put hok) gX7_told_X7_greatestRank q_X7_greatestRank rfl (by decide) rfl ms0 rfl rfl (Nat.le_of_ble_eq_true rfl) dX7_told_77 ⟨Nat.le_refl _, Nat.le_refl _⟩) ?_
  rw [zput_zput]
  exact aw_ireturn rfl dX7_told_80 ⟨Nat.zero_le _, Nat.zero_le _⟩ (by first | rfl | simp []) rfl rfl rfl

set_option maxHeartbeats 1000000 in
set_option maxRecDepth 100000 in
theorem c_X7_told_5 {sh : zSh} {F : Nat → Nat → Int32} {P : Nat → Nat → Option Nat} {μ : Nat} {G : Nat → Nat → Int32} (hM : zMd sh P μ) (hG : zVw F μ 13 G) : zMet yX7_told wsX7_told (6) (0) (0) [.ref μ, .int 5] sh F P (some (.int (mMadeSet (G 1) 20))) sh F P := by
  refine zMet.of (by decide) rfl (Nat.le_of_ble_eq_true rfl) (by simp [Value.category]) ?_
  intro X ρ
  show AW mX7_told X (zMQ mX7_told X (some (.int (mMadeSet (G 1) 20))) sh F P) 0 [some (.ref μ), some (.int 5)] [] ρ sh F P 0 0
  have hinX7 : ∀ w ∈ u_ws RX7 TX7 29, w ∈ wsX7_told := by decide +kernel
  obtain ⟨ms0, ⟨mp0, mp1, mp3, mp5, mp9, mp10, mp11, mp12, mp13, mp17, mp21, mp28⟩, ms1, ms2, ms3, ms4, ms5, ms6, ms7, ms8, ms9, ms10, ms11, ms12⟩ := id hM
  refine aw_cF (F' := zput F μ 13 G) (zput_view hG).symm ?_
  refine aw_iload_1 dX7_told_0 ?_
  refine aw_tableIn (off := 80) (tgt := 81) dX7_told_1 (by decide) (by decide) (by decide) (by decide) ?_
  refine aw_aload_0 dX7_told_81 ?_
  refine aw_run (zRun_V (c_X7_madeThings hM zVw.put) gX7_told_X7_madeThings q_X7_madeThings rfl (by decide) rfl ms0 rfl rfl (Nat.le_of_ble_eq_true rfl) dX7_told_82 ⟨Nat.le_refl _, Nat.le_refl _⟩) ?_
  exact aw_ireturn rfl dX7_told_85 ⟨Nat.zero_le _, Nat.zero_le _⟩ rfl rfl (zput_view hG) rfl

set_option maxHeartbeats 1000000 in
set_option maxRecDepth 100000 in
theorem c_X7_told_6 {sh : zSh} {F : Nat → Nat → Int32} {P : Nat → Nat → Option Nat} {μ : Nat} {G : Nat → Nat → Int32} (hM : zMd sh P μ) (hG : zVw F μ 13 G) : zMet yX7_told wsX7_told (6) (0) (0) [.ref μ, .int 6] sh F P (some (.int (G 0 6))) sh F P := by
  refine zMet.of (by decide) rfl (Nat.le_of_ble_eq_true rfl) (by simp [Value.category]) ?_
  intro X ρ
  show AW mX7_told X (zMQ mX7_told X (some (.int (G 0 6))) sh F P) 0 [some (.ref μ), some (.int 6)] [] ρ sh F P 0 0
  have hinX7 : ∀ w ∈ u_ws RX7 TX7 29, w ∈ wsX7_told := by decide +kernel
  obtain ⟨ms0, ⟨mp0, mp1, mp3, mp5, mp9, mp10, mp11, mp12, mp13, mp17, mp21, mp28⟩, ms1, ms2, ms3, ms4, ms5, ms6, ms7, ms8, ms9, ms10, ms11, ms12⟩ := id hM
  refine aw_cF (F' := zput F μ 13 G) (zput_view hG).symm ?_
  refine aw_iload_1 dX7_told_0 ?_
  refine aw_tableIn (off := 85) (tgt := 86) dX7_told_1 (by decide) (by decide) (by decide) (by decide) ?_
  refine aw_aload_0 dX7_told_86 ?_
  refine aw_getI fX7_6 hinX7 (by decide +kernel : Cond.fieldLink RX7 181 RX7 (TX7 6).2.1 (TX7 6).2.2.1 ∈ wsX7_told) ms0 dX7_told_87 ?_
  try simp (disch := omega) only [zu_up, zup_in, zup_in0, zput_at, zput_a0, zput_zput, zup_eq, zup_ne, va_up_up, nI_clamp]
  exact aw_ireturn rfl dX7_told_90 ⟨Nat.zero_le _, Nat.zero_le _⟩ rfl rfl (zput_view hG) rfl

set_option maxHeartbeats 1000000 in
set_option maxRecDepth 100000 in
theorem c_X7_told_7 {sh : zSh} {F : Nat → Nat → Int32} {P : Nat → Nat → Option Nat} {μ : Nat} {G : Nat → Nat → Int32} (hM : zMd sh P μ) (hG : zVw F μ 13 G) : zMet yX7_told wsX7_told (6) (0) (0) [.ref μ, .int 7] sh F P (some (.int (G 0 2))) sh F P := by
  refine zMet.of (by decide) rfl (Nat.le_of_ble_eq_true rfl) (by simp [Value.category]) ?_
  intro X ρ
  show AW mX7_told X (zMQ mX7_told X (some (.int (G 0 2))) sh F P) 0 [some (.ref μ), some (.int 7)] [] ρ sh F P 0 0
  have hinX7 : ∀ w ∈ u_ws RX7 TX7 29, w ∈ wsX7_told := by decide +kernel
  obtain ⟨ms0, ⟨mp0, mp1, mp3, mp5, mp9, mp10, mp11, mp12, mp13, mp17, mp21, mp28⟩, ms1, ms2, ms3, ms4, ms5, ms6, ms7, ms8, ms9, ms10, ms11, ms12⟩ := id hM
  refine aw_cF (F' := zput F μ 13 G) (zput_view hG).symm ?_
  refine aw_iload_1 dX7_told_0 ?_
  refine aw_tableIn (off := 90) (tgt := 91) dX7_told_1 (by decide) (by decide) (by decide) (by decide) ?_
  refine aw_aload_0 dX7_told_91 ?_
  refine aw_getI fX7_2 hinX7 (by decide +kernel : Cond.fieldLink RX7 58 RX7 (TX7 2).2.1 (TX7 2).2.2.1 ∈ wsX7_told) ms0 dX7_told_92 ?_
  try simp (disch := omega) only [zu_up, zup_in, zup_in0, zput_at, zput_a0, zput_zput, zup_eq, zup_ne, va_up_up, nI_clamp]
  exact aw_ireturn rfl dX7_told_95 ⟨Nat.zero_le _, Nat.zero_le _⟩ rfl rfl (zput_view hG) rfl

set_option maxHeartbeats 1000000 in
set_option maxRecDepth 100000 in
theorem c_X7_told_x {sh : zSh} {F : Nat → Nat → Int32} {P : Nat → Nat → Option Nat} {μ : Nat} {G : Nat → Nat → Int32} {k : Int32} (hM : zMd sh P μ) (hG : zVw F μ 13 G) (h : k.toInt < 0 ∨ 7 < k.toInt) : zMet yX7_told wsX7_told (6) (0) (0) [.ref μ, .int k] sh F P (some (.int (-1))) sh F P := by
  refine zMet.of (by decide) rfl (Nat.le_of_ble_eq_true rfl) (by simp [Value.category]) ?_
  intro X ρ
  show AW mX7_told X (zMQ mX7_told X (some (.int (-1))) sh F P) 0 [some (.ref μ), some (.int k)] [] ρ sh F P 0 0
  have hinX7 : ∀ w ∈ u_ws RX7 TX7 29, w ∈ wsX7_told := by decide +kernel
  obtain ⟨ms0, ⟨mp0, mp1, mp3, mp5, mp9, mp10, mp11, mp12, mp13, mp17, mp21, mp28⟩, ms1, ms2, ms3, ms4, ms5, ms6, ms7, ms8, ms9, ms10, ms11, ms12⟩ := id hM
  refine aw_cF (F' := zput F μ 13 G) (zput_view hG).symm ?_
  refine aw_iload_1 dX7_told_0 ?_
  refine aw_tableOut (tgt := 96) dX7_told_1 h (by decide) ?_
  refine aw_iconst (v := (-1)) dX7_told_96 (by decide) ?_
  exact aw_ireturn rfl dX7_told_97 ⟨Nat.zero_le _, Nat.zero_le _⟩ (by first | rfl | simp []) rfl (zput_view hG) rfl

abbrev mX7_thing : ZM := (cX7_thing, RX7, wsX7_thing, 5, 0, 0, (some .int), 4, yX7_thing.name)
set_option maxHeartbeats 1000000 in
set_option maxRecDepth 100000 in
theorem c_X7_thing_b {sh : zSh} {F : Nat → Nat → Int32} {P : Nat → Nat → Option Nat} {μ : Nat} {G : Nat → Nat → Int32} {t k : Int32} (hM : zMd sh P μ) (hG : zVw F μ 13 G) (h : mIn t 0 19 = 0 ∨ mIn k 0 10 = 0) : zMet yX7_thing wsX7_thing (5) (0) (0) [.ref μ, .int t, .int k] sh F P (some (.int (-1))) sh F P := by
  refine zMet.of (by decide) rfl (Nat.le_of_ble_eq_true rfl) (by simp [Value.category]) ?_
  intro X ρ
  show AW mX7_thing X (zMQ mX7_thing X (some (.int (-1))) sh F P) 0 [some (.ref μ), some (.int t), some (.int k), none] [] ρ sh F P 0 0
  have hinX7 : ∀ w ∈ u_ws RX7 TX7 29, w ∈ wsX7_thing := by decide +kernel
  obtain ⟨ms0, ⟨mp0, mp1, mp3, mp5, mp9, mp10, mp11, mp12, mp13, mp17, mp21, mp28⟩, ms1, ms2, ms3, ms4, ms5, ms6, ms7, ms8, ms9, ms10, ms11, ms12⟩ := id hM
  refine aw_cF (F' := zput F μ 13 G) (zput_view hG).symm ?_
  refine aw_iload_1 dX7_thing_0 ?_
  refine aw_run (zRun_S (c_X7_isThing ) (Or.inl gX7_thing_X7_isThing) q_X7_isThing (by decide) rfl rfl (Nat.le_of_ble_eq_true rfl) dX7_thing_1 ⟨Nat.le_refl _, Nat.le_refl _⟩) ?_
  refine aw_if_eq (tgt := 17) dX7_thing_4 (by decide) (fun c4 => ?_) (fun c4 => ?_)
  · refine aw_iconst (v := (-1)) dX7_thing_17 (by decide) ?_
    exact aw_ireturn rfl dX7_thing_18 ⟨Nat.zero_le _, Nat.zero_le _⟩ (by first | rfl | simp [c4]) rfl (zput_view hG) rfl
  · refine aw_iload_2 dX7_thing_7 ?_
    refine aw_iconst (v := 0) dX7_thing_8 (by decide) ?_
    refine aw_bipush (v := 10) dX7_thing_9 (by decide) ?_
    refine aw_run (zRun_S (c_X7_isIn ) (Or.inl gX7_thing_X7_isIn) q_X7_isIn (by decide) rfl rfl (Nat.le_of_ble_eq_true rfl) dX7_thing_11 ⟨Nat.le_refl _, Nat.le_refl _⟩) ?_
    refine aw_if_ne (tgt := 19) dX7_thing_14 (by decide) (fun c14 => ?_) (fun c14 => ?_)
    · exact absurd h (by simp [c4, c14])
    · refine aw_iconst (v := (-1)) dX7_thing_17 (by decide) ?_
      exact aw_ireturn rfl dX7_thing_18 ⟨Nat.zero_le _, Nat.zero_le _⟩ (by first | rfl | simp [c4, c14]) rfl (zput_view hG) rfl

set_option maxHeartbeats 1000000 in
set_option maxRecDepth 100000 in
theorem c_X7_thing_0 {sh : zSh} {F : Nat → Nat → Int32} {P : Nat → Nat → Option Nat} {μ : Nat} {G : Nat → Nat → Int32} {t : Nat} (hM : zMd sh P μ) (hG : zVw F μ 13 G) (ht : t < 20) : zMet yX7_thing wsX7_thing (5) (0) (0) [.ref μ, .int (nI t), .int 0] sh F P (some (.int (G 1 (23 * t + 0)))) sh F P := by
  refine zMet.of (by decide) rfl (Nat.le_of_ble_eq_true rfl) (by simp [Value.category]) ?_
  intro X ρ
  show AW mX7_thing X (zMQ mX7_thing X (some (.int (G 1 (23 * t + 0)))) sh F P) 0 [some (.ref μ), some (.int (nI t)), some (.int 0), none] [] ρ sh F P 0 0
  have hinX7 : ∀ w ∈ u_ws RX7 TX7 29, w ∈ wsX7_thing := by decide +kernel
  obtain ⟨ms0, ⟨mp0, mp1, mp3, mp5, mp9, mp10, mp11, mp12, mp13, mp17, mp21, mp28⟩, ms1, ms2, ms3, ms4, ms5, ms6, ms7, ms8, ms9, ms10, ms11, ms12⟩ := id hM
  refine aw_cF (F' := zput F μ 13 G) (zput_view hG).symm ?_
  refine aw_iload_1 dX7_thing_0 ?_
  refine aw_run (zRun_S (c_X7_isThing ) (Or.inl gX7_thing_X7_isThing) q_X7_isThing (by decide) rfl rfl (Nat.le_of_ble_eq_true rfl) dX7_thing_1 ⟨Nat.le_refl _, Nat.le_refl _⟩) ?_
  refine aw_if_eq (tgt := 17) dX7_thing_4 (by decide) (fun c4 => absurd c4 (mIn_20 ht)) (fun c4 => ?_)
  refine aw_iload_2 dX7_thing_7 ?_
  refine aw_iconst (v := 0) dX7_thing_8 (by decide) ?_
  refine aw_bipush (v := 10) dX7_thing_9 (by decide) ?_
  refine aw_run (zRun_S (c_X7_isIn ) (Or.inl gX7_thing_X7_isIn) q_X7_isIn (by decide) rfl rfl (Nat.le_of_ble_eq_true rfl) dX7_thing_11 ⟨Nat.le_refl _, Nat.le_refl _⟩) ?_
  refine aw_if_ne (tgt := 19) dX7_thing_14 (by decide) (fun c14 => ?_) (fun c14 => absurd c14 (by decide))
  refine aw_iload_2 dX7_thing_19 ?_
  refine aw_tableIn (off := 40) (tgt := 60) dX7_thing_20 (by decide) (by decide) (by decide) (by decide) ?_
  refine aw_aload_0 dX7_thing_60 ?_
  refine aw_iload_1 dX7_thing_61 ?_
  refine aw_iconst (v := 0) dX7_thing_62 (by decide) ?_
  refine aw_run (zRun_V (c_X7_of (t := t) (k := 0) hM zVw.put (by omega)) gX7_thing_X7_of q_X7_of rfl (by decide) rfl ms0 rfl rfl (Nat.le_of_ble_eq_true rfl) dX7_thing_63 ⟨Nat.le_refl _, Nat.le_refl _⟩) ?_
  exact aw_ireturn rfl dX7_thing_66 ⟨Nat.zero_le _, Nat.zero_le _⟩ rfl rfl (zput_view hG) rfl

set_option maxHeartbeats 1000000 in
set_option maxRecDepth 100000 in
theorem c_X7_thing_1 {sh : zSh} {F : Nat → Nat → Int32} {P : Nat → Nat → Option Nat} {μ : Nat} {G : Nat → Nat → Int32} {t : Nat} (hM : zMd sh P μ) (hG : zVw F μ 13 G) (ht : t < 20) (hok : mOk (G 1)) : zMet yX7_thing wsX7_thing (5) (0) (0) [.ref μ, .int (nI t), .int 1] sh F P (some (.int (mR12 G t))) sh (zput F μ 13 (va_up G 5 (mR12 G))) P := by
  refine zMet.of (by decide) rfl (Nat.le_of_ble_eq_true rfl) (by simp [Value.category]) ?_
  intro X ρ
  show AW mX7_thing X (zMQ mX7_thing X (some (.int (mR12 G t))) sh (zput F μ 13 (va_up G 5 (mR12 G))) P) 0 [some (.ref μ), some (.int (nI t)), some (.int 1), none] [] ρ sh F P 0 0
  have hinX7 : ∀ w ∈ u_ws RX7 TX7 29, w ∈ wsX7_thing := by decide +kernel
  obtain ⟨ms0, ⟨mp0, mp1, mp3, mp5, mp9, mp10, mp11, mp12, mp13, mp17, mp21, mp28⟩, ms1, ms2, ms3, ms4, ms5, ms6, ms7, ms8, ms9, ms10, ms11, ms12⟩ := id hM
  refine aw_cF (F' := zput F μ 13 G) (zput_view hG).symm ?_
  refine aw_iload_1 dX7_thing_0 ?_
  refine aw_run (zRun_S (c_X7_isThing ) (Or.inl gX7_thing_X7_isThing) q_X7_isThing (by decide) rfl rfl (Nat.le_of_ble_eq_true rfl) dX7_thing_1 ⟨Nat.le_refl _, Nat.le_refl _⟩) ?_
  refine aw_if_eq (tgt := 17) dX7_thing_4 (by decide) (fun c4 => absurd c4 (mIn_20 ht)) (fun c4 => ?_)
  refine aw_iload_2 dX7_thing_7 ?_
  refine aw_iconst (v := 0) dX7_thing_8 (by decide) ?_
  refine aw_bipush (v := 10) dX7_thing_9 (by decide) ?_
  refine aw_run (zRun_S (c_X7_isIn ) (Or.inl gX7_thing_X7_isIn) q_X7_isIn (by decide) rfl rfl (Nat.le_of_ble_eq_true rfl) dX7_thing_11 ⟨Nat.le_refl _, Nat.le_refl _⟩) ?_
  refine aw_if_ne (tgt := 19) dX7_thing_14 (by decide) (fun c14 => ?_) (fun c14 => absurd c14 (by decide))
  refine aw_iload_2 dX7_thing_19 ?_
  refine aw_tableIn (off := 47) (tgt := 67) dX7_thing_20 (by decide) (by decide) (by decide) (by decide) ?_
  refine aw_aload_0 dX7_thing_67 ?_
  refine aw_run (zRun_V (c_X7_areRanks hM zVw.put hok) gX7_thing_X7_areRanks q_X7_areRanks rfl (by decide) rfl ms0 rfl rfl (Nat.le_of_ble_eq_true rfl) dX7_thing_68 ⟨Nat.le_refl _, Nat.le_refl _⟩) ?_
  rw [zput_zput]
  refine aw_istore_3 dX7_thing_71 ?_
  refine aw_aload_0 dX7_thing_72 ?_
  refine aw_getR fX7_9 (fun _ _ => rfl) mp9 hinX7 (by decide +kernel : Cond.fieldLink RX7 29 RX7 (TX7 9).2.1 (TX7 9).2.2.1 ∈ wsX7_thing) ms0 dX7_thing_73 ?_
  refine aw_iload_1 dX7_thing_76 ?_
  refine aw_iaload (by first | exact ms1 | exact ms2 | exact ms3 | exact ms4 | exact ms5 | exact ms6 | exact ms7 | exact ms8 | exact ms9 | exact ms10 | exact ms11 | exact ms12) (vp_in_nI ht (by decide)) dX7_thing_77 ?_
  try simp (disch := omega) only [zu_up, zup_in, zup_in0, zput_at, zput_a0, zput_zput, zup_eq, zup_ne, va_up_up, nI_clamp]
  rw [show mRanks (G 1) (G 5) 12 t = mR12 G t from rfl]
  exact aw_ireturn rfl dX7_thing_78 ⟨Nat.zero_le _, Nat.zero_le _⟩ (by first | rfl | simp [c4, c14]) rfl rfl rfl

set_option maxHeartbeats 1000000 in
set_option maxRecDepth 100000 in
theorem c_X7_thing_2 {sh : zSh} {F : Nat → Nat → Int32} {P : Nat → Nat → Option Nat} {μ : Nat} {G : Nat → Nat → Int32} {t : Nat} (hM : zMd sh P μ) (hG : zVw F μ 13 G) (ht : t < 20) : zMet yX7_thing wsX7_thing (5) (0) (0) [.ref μ, .int (nI t), .int 2] sh F P (some (.int (if mMade (G 1) t = 0 then -9 else G 1 (23 * t + 7)))) sh F P := by
  refine zMet.of (by decide) rfl (Nat.le_of_ble_eq_true rfl) (by simp [Value.category]) ?_
  intro X ρ
  show AW mX7_thing X (zMQ mX7_thing X (some (.int (if mMade (G 1) t = 0 then -9 else G 1 (23 * t + 7)))) sh F P) 0 [some (.ref μ), some (.int (nI t)), some (.int 2), none] [] ρ sh F P 0 0
  have hinX7 : ∀ w ∈ u_ws RX7 TX7 29, w ∈ wsX7_thing := by decide +kernel
  obtain ⟨ms0, ⟨mp0, mp1, mp3, mp5, mp9, mp10, mp11, mp12, mp13, mp17, mp21, mp28⟩, ms1, ms2, ms3, ms4, ms5, ms6, ms7, ms8, ms9, ms10, ms11, ms12⟩ := id hM
  refine aw_cF (F' := zput F μ 13 G) (zput_view hG).symm ?_
  refine aw_iload_1 dX7_thing_0 ?_
  refine aw_run (zRun_S (c_X7_isThing ) (Or.inl gX7_thing_X7_isThing) q_X7_isThing (by decide) rfl rfl (Nat.le_of_ble_eq_true rfl) dX7_thing_1 ⟨Nat.le_refl _, Nat.le_refl _⟩) ?_
  refine aw_if_eq (tgt := 17) dX7_thing_4 (by decide) (fun c4 => absurd c4 (mIn_20 ht)) (fun c4 => ?_)
  refine aw_iload_2 dX7_thing_7 ?_
  refine aw_iconst (v := 0) dX7_thing_8 (by decide) ?_
  refine aw_bipush (v := 10) dX7_thing_9 (by decide) ?_
  refine aw_run (zRun_S (c_X7_isIn ) (Or.inl gX7_thing_X7_isIn) q_X7_isIn (by decide) rfl rfl (Nat.le_of_ble_eq_true rfl) dX7_thing_11 ⟨Nat.le_refl _, Nat.le_refl _⟩) ?_
  refine aw_if_ne (tgt := 19) dX7_thing_14 (by decide) (fun c14 => ?_) (fun c14 => absurd c14 (by decide))
  refine aw_iload_2 dX7_thing_19 ?_
  refine aw_tableIn (off := 59) (tgt := 79) dX7_thing_20 (by decide) (by decide) (by decide) (by decide) ?_
  refine aw_aload_0 dX7_thing_79 ?_
  refine aw_iload_1 dX7_thing_80 ?_
  refine aw_run (zRun_V (c_X7_isMade (t := t) hM zVw.put ht) gX7_thing_X7_isMade q_X7_isMade rfl (by decide) rfl ms0 rfl rfl (Nat.le_of_ble_eq_true rfl) dX7_thing_81 ⟨Nat.le_refl _, Nat.le_refl _⟩) ?_
  refine aw_if_eq (tgt := 97) dX7_thing_84 (by decide) (fun c84 => ?_) (fun c84 => ?_)
  · refine aw_bipush (v := (-9)) dX7_thing_97 (by decide) ?_
    exact aw_ireturn rfl dX7_thing_99 ⟨Nat.zero_le _, Nat.zero_le _⟩ (by first | rw [if_pos c84] | rw [if_neg c84] | rw [if_pos c105] | rw [if_neg c105]) rfl (zput_view hG) rfl
  · refine aw_aload_0 dX7_thing_87 ?_
    refine aw_iload_1 dX7_thing_88 ?_
    refine aw_bipush (v := 7) dX7_thing_89 (by decide) ?_
    refine aw_run (zRun_V (c_X7_of (t := t) (k := 7) hM zVw.put (by omega)) gX7_thing_X7_of q_X7_of rfl (by decide) rfl ms0 rfl rfl (Nat.le_of_ble_eq_true rfl) dX7_thing_91 ⟨Nat.le_refl _, Nat.le_refl _⟩) ?_
    refine aw_goto (tgt := 99) dX7_thing_94 (by decide) ?_
    exact aw_ireturn rfl dX7_thing_99 ⟨Nat.zero_le _, Nat.zero_le _⟩ (by first | rw [if_pos c84] | rw [if_neg c84] | rw [if_pos c105] | rw [if_neg c105]) rfl (zput_view hG) rfl

set_option maxHeartbeats 1000000 in
set_option maxRecDepth 100000 in
theorem c_X7_thing_3 {sh : zSh} {F : Nat → Nat → Int32} {P : Nat → Nat → Option Nat} {μ : Nat} {G : Nat → Nat → Int32} {t : Nat} (hM : zMd sh P μ) (hG : zVw F μ 13 G) (ht : t < 20) : zMet yX7_thing wsX7_thing (5) (0) (0) [.ref μ, .int (nI t), .int 3] sh F P (some (.int (if mMade (G 1) t = 0 then -9 else G 1 (23 * t + 8)))) sh F P := by
  refine zMet.of (by decide) rfl (Nat.le_of_ble_eq_true rfl) (by simp [Value.category]) ?_
  intro X ρ
  show AW mX7_thing X (zMQ mX7_thing X (some (.int (if mMade (G 1) t = 0 then -9 else G 1 (23 * t + 8)))) sh F P) 0 [some (.ref μ), some (.int (nI t)), some (.int 3), none] [] ρ sh F P 0 0
  have hinX7 : ∀ w ∈ u_ws RX7 TX7 29, w ∈ wsX7_thing := by decide +kernel
  obtain ⟨ms0, ⟨mp0, mp1, mp3, mp5, mp9, mp10, mp11, mp12, mp13, mp17, mp21, mp28⟩, ms1, ms2, ms3, ms4, ms5, ms6, ms7, ms8, ms9, ms10, ms11, ms12⟩ := id hM
  refine aw_cF (F' := zput F μ 13 G) (zput_view hG).symm ?_
  refine aw_iload_1 dX7_thing_0 ?_
  refine aw_run (zRun_S (c_X7_isThing ) (Or.inl gX7_thing_X7_isThing) q_X7_isThing (by decide) rfl rfl (Nat.le_of_ble_eq_true rfl) dX7_thing_1 ⟨Nat.le_refl _, Nat.le_refl _⟩) ?_
  refine aw_if_eq (tgt := 17) dX7_thing_4 (by decide) (fun c4 => absurd c4 (mIn_20 ht)) (fun c4 => ?_)
  refine aw_iload_2 dX7_thing_7 ?_
  refine aw_iconst (v := 0) dX7_thing_8 (by decide) ?_
  refine aw_bipush (v := 10) dX7_thing_9 (by decide) ?_
  refine aw_run (zRun_S (c_X7_isIn ) (Or.inl gX7_thing_X7_isIn) q_X7_isIn (by decide) rfl rfl (Nat.le_of_ble_eq_true rfl) dX7_thing_11 ⟨Nat.le_refl _, Nat.le_refl _⟩) ?_
  refine aw_if_ne (tgt := 19) dX7_thing_14 (by decide) (fun c14 => ?_) (fun c14 => absurd c14 (by decide))
  refine aw_iload_2 dX7_thing_19 ?_
  refine aw_tableIn (off := 80) (tgt := 100) dX7_thing_20 (by decide) (by decide) (by decide) (by decide) ?_
  refine aw_aload_0 dX7_thing_100 ?_
  refine aw_iload_1 dX7_thing_101 ?_
  refine aw_run (zRun_V (c_X7_isMade (t := t) hM zVw.put ht) gX7_thing_X7_isMade q_X7_isMade rfl (by decide) rfl ms0 rfl rfl (Nat.le_of_ble_eq_true rfl) dX7_thing_102 ⟨Nat.le_refl _, Nat.le_refl _⟩) ?_
  refine aw_if_eq (tgt := 118) dX7_thing_105 (by decide) (fun c105 => ?_) (fun c105 => ?_)
  · refine aw_bipush (v := (-9)) dX7_thing_118 (by decide) ?_
    exact aw_ireturn rfl dX7_thing_120 ⟨Nat.zero_le _, Nat.zero_le _⟩ (by first | rw [if_pos c84] | rw [if_neg c84] | rw [if_pos c105] | rw [if_neg c105]) rfl (zput_view hG) rfl
  · refine aw_aload_0 dX7_thing_108 ?_
    refine aw_iload_1 dX7_thing_109 ?_
    refine aw_bipush (v := 8) dX7_thing_110 (by decide) ?_
    refine aw_run (zRun_V (c_X7_of (t := t) (k := 8) hM zVw.put (by omega)) gX7_thing_X7_of q_X7_of rfl (by decide) rfl ms0 rfl rfl (Nat.le_of_ble_eq_true rfl) dX7_thing_112 ⟨Nat.le_refl _, Nat.le_refl _⟩) ?_
    refine aw_goto (tgt := 120) dX7_thing_115 (by decide) ?_
    exact aw_ireturn rfl dX7_thing_120 ⟨Nat.zero_le _, Nat.zero_le _⟩ (by first | rw [if_pos c84] | rw [if_neg c84] | rw [if_pos c105] | rw [if_neg c105]) rfl (zput_view hG) rfl

set_option maxHeartbeats 1000000 in
set_option maxRecDepth 100000 in
theorem c_X7_thing_4 {sh : zSh} {F : Nat → Nat → Int32} {P : Nat → Nat → Option Nat} {μ : Nat} {G : Nat → Nat → Int32} {t : Nat} (hM : zMd sh P μ) (hG : zVw F μ 13 G) (ht : t < 20) : zMet yX7_thing wsX7_thing (5) (0) (0) [.ref μ, .int (nI t), .int 4] sh F P (some (.int (G 1 (23 * t + 1)))) sh F P := by
  refine zMet.of (by decide) rfl (Nat.le_of_ble_eq_true rfl) (by simp [Value.category]) ?_
  intro X ρ
  show AW mX7_thing X (zMQ mX7_thing X (some (.int (G 1 (23 * t + 1)))) sh F P) 0 [some (.ref μ), some (.int (nI t)), some (.int 4), none] [] ρ sh F P 0 0
  have hinX7 : ∀ w ∈ u_ws RX7 TX7 29, w ∈ wsX7_thing := by decide +kernel
  obtain ⟨ms0, ⟨mp0, mp1, mp3, mp5, mp9, mp10, mp11, mp12, mp13, mp17, mp21, mp28⟩, ms1, ms2, ms3, ms4, ms5, ms6, ms7, ms8, ms9, ms10, ms11, ms12⟩ := id hM
  refine aw_cF (F' := zput F μ 13 G) (zput_view hG).symm ?_
  refine aw_iload_1 dX7_thing_0 ?_
  refine aw_run (zRun_S (c_X7_isThing ) (Or.inl gX7_thing_X7_isThing) q_X7_isThing (by decide) rfl rfl (Nat.le_of_ble_eq_true rfl) dX7_thing_1 ⟨Nat.le_refl _, Nat.le_refl _⟩) ?_
  refine aw_if_eq (tgt := 17) dX7_thing_4 (by decide) (fun c4 => absurd c4 (mIn_20 ht)) (fun c4 => ?_)
  refine aw_iload_2 dX7_thing_7 ?_
  refine aw_iconst (v := 0) dX7_thing_8 (by decide) ?_
  refine aw_bipush (v := 10) dX7_thing_9 (by decide) ?_
  refine aw_run (zRun_S (c_X7_isIn ) (Or.inl gX7_thing_X7_isIn) q_X7_isIn (by decide) rfl rfl (Nat.le_of_ble_eq_true rfl) dX7_thing_11 ⟨Nat.le_refl _, Nat.le_refl _⟩) ?_
  refine aw_if_ne (tgt := 19) dX7_thing_14 (by decide) (fun c14 => ?_) (fun c14 => absurd c14 (by decide))
  refine aw_iload_2 dX7_thing_19 ?_
  refine aw_tableIn (off := 101) (tgt := 121) dX7_thing_20 (by decide) (by decide) (by decide) (by decide) ?_
  refine aw_aload_0 dX7_thing_121 ?_
  refine aw_iload_1 dX7_thing_122 ?_
  refine aw_iconst (v := 1) dX7_thing_123 (by decide) ?_
  refine aw_run (zRun_V (c_X7_of (t := t) (k := 1) hM zVw.put (by omega)) gX7_thing_X7_of q_X7_of rfl (by decide) rfl ms0 rfl rfl (Nat.le_of_ble_eq_true rfl) dX7_thing_124 ⟨Nat.le_refl _, Nat.le_refl _⟩) ?_
  exact aw_ireturn rfl dX7_thing_127 ⟨Nat.zero_le _, Nat.zero_le _⟩ rfl rfl (zput_view hG) rfl

set_option maxHeartbeats 1000000 in
set_option maxRecDepth 100000 in
theorem c_X7_thing_5 {sh : zSh} {F : Nat → Nat → Int32} {P : Nat → Nat → Option Nat} {μ : Nat} {G : Nat → Nat → Int32} {t : Nat} (hM : zMd sh P μ) (hG : zVw F μ 13 G) (ht : t < 20) : zMet yX7_thing wsX7_thing (5) (0) (0) [.ref μ, .int (nI t), .int 5] sh F P (some (.int (G 1 (23 * t + 19)))) sh F P := by
  refine zMet.of (by decide) rfl (Nat.le_of_ble_eq_true rfl) (by simp [Value.category]) ?_
  intro X ρ
  show AW mX7_thing X (zMQ mX7_thing X (some (.int (G 1 (23 * t + 19)))) sh F P) 0 [some (.ref μ), some (.int (nI t)), some (.int 5), none] [] ρ sh F P 0 0
  have hinX7 : ∀ w ∈ u_ws RX7 TX7 29, w ∈ wsX7_thing := by decide +kernel
  obtain ⟨ms0, ⟨mp0, mp1, mp3, mp5, mp9, mp10, mp11, mp12, mp13, mp17, mp21, mp28⟩, ms1, ms2, ms3, ms4, ms5, ms6, ms7, ms8, ms9, ms10, ms11, ms12⟩ := id hM
  refine aw_cF (F' := zput F μ 13 G) (zput_view hG).symm ?_
  refine aw_iload_1 dX7_thing_0 ?_
  refine aw_run (zRun_S (c_X7_isThing ) (Or.inl gX7_thing_X7_isThing) q_X7_isThing (by decide) rfl rfl (Nat.le_of_ble_eq_true rfl) dX7_thing_1 ⟨Nat.le_refl _, Nat.le_refl _⟩) ?_
  refine aw_if_eq (tgt := 17) dX7_thing_4 (by decide) (fun c4 => absurd c4 (mIn_20 ht)) (fun c4 => ?_)
  refine aw_iload_2 dX7_thing_7 ?_
  refine aw_iconst (v := 0) dX7_thing_8 (by decide) ?_
  refine aw_bipush (v := 10) dX7_thing_9 (by decide) ?_
  refine aw_run (zRun_S (c_X7_isIn ) (Or.inl gX7_thing_X7_isIn) q_X7_isIn (by decide) rfl rfl (Nat.le_of_ble_eq_true rfl) dX7_thing_11 ⟨Nat.le_refl _, Nat.le_refl _⟩) ?_
  refine aw_if_ne (tgt := 19) dX7_thing_14 (by decide) (fun c14 => ?_) (fun c14 => absurd c14 (by decide))
  refine aw_iload_2 dX7_thing_19 ?_
  refine aw_tableIn (off := 108) (tgt := 128) dX7_thing_20 (by decide) (by decide) (by decide) (by decide) ?_
  refine aw_aload_0 dX7_thing_128 ?_
  refine aw_iload_1 dX7_thing_129 ?_
  refine aw_bipush (v := 19) dX7_thing_130 (by decide) ?_
  refine aw_run (zRun_V (c_X7_of (t := t) (k := 19) hM zVw.put (by omega)) gX7_thing_X7_of q_X7_of rfl (by decide) rfl ms0 rfl rfl (Nat.le_of_ble_eq_true rfl) dX7_thing_132 ⟨Nat.le_refl _, Nat.le_refl _⟩) ?_
  exact aw_ireturn rfl dX7_thing_135 ⟨Nat.zero_le _, Nat.zero_le _⟩ rfl rfl (zput_view hG) rfl

set_option maxHeartbeats 1000000 in
set_option maxRecDepth 100000 in
theorem c_X7_thing_6 {sh : zSh} {F : Nat → Nat → Int32} {P : Nat → Nat → Option Nat} {μ : Nat} {G : Nat → Nat → Int32} {t : Nat} (hM : zMd sh P μ) (hG : zVw F μ 13 G) (ht : t < 20) : zMet yX7_thing wsX7_thing (5) (0) (0) [.ref μ, .int (nI t), .int 6] sh F P (some (.int (G 1 (23 * t + 2)))) sh F P := by
  refine zMet.of (by decide) rfl (Nat.le_of_ble_eq_true rfl) (by simp [Value.category]) ?_
  intro X ρ
  show AW mX7_thing X (zMQ mX7_thing X (some (.int (G 1 (23 * t + 2)))) sh F P) 0 [some (.ref μ), some (.int (nI t)), some (.int 6), none] [] ρ sh F P 0 0
  have hinX7 : ∀ w ∈ u_ws RX7 TX7 29, w ∈ wsX7_thing := by decide +kernel
  obtain ⟨ms0, ⟨mp0, mp1, mp3, mp5, mp9, mp10, mp11, mp12, mp13, mp17, mp21, mp28⟩, ms1, ms2, ms3, ms4, ms5, ms6, ms7, ms8, ms9, ms10, ms11, ms12⟩ := id hM
  refine aw_cF (F' := zput F μ 13 G) (zput_view hG).symm ?_
  refine aw_iload_1 dX7_thing_0 ?_
  refine aw_run (zRun_S (c_X7_isThing ) (Or.inl gX7_thing_X7_isThing) q_X7_isThing (by decide) rfl rfl (Nat.le_of_ble_eq_true rfl) dX7_thing_1 ⟨Nat.le_refl _, Nat.le_refl _⟩) ?_
  refine aw_if_eq (tgt := 17) dX7_thing_4 (by decide) (fun c4 => absurd c4 (mIn_20 ht)) (fun c4 => ?_)
  refine aw_iload_2 dX7_thing_7 ?_
  refine aw_iconst (v := 0) dX7_thing_8 (by decide) ?_
  refine aw_bipush (v := 10) dX7_thing_9 (by decide) ?_
  refine aw_run (zRun_S (c_X7_isIn ) (Or.inl gX7_thing_X7_isIn) q_X7_isIn (by decide) rfl rfl (Nat.le_of_ble_eq_true rfl) dX7_thing_11 ⟨Nat.le_refl _, Nat.le_refl _⟩) ?_
  refine aw_if_ne (tgt := 19) dX7_thing_14 (by decide) (fun c14 => ?_) (fun c14 => absurd c14 (by decide))
  refine aw_iload_2 dX7_thing_19 ?_
  refine aw_tableOut (tgt := 136) dX7_thing_20 (by decide) (by decide) ?_
  refine aw_aload_0 dX7_thing_136 ?_
  refine aw_iload_1 dX7_thing_137 ?_
  refine aw_iconst (v := 2) dX7_thing_138 (by decide) ?_
  refine aw_iload_2 dX7_thing_139 ?_
  refine aw_iadd dX7_thing_140 ?_
  refine aw_bipush (v := 6) dX7_thing_141 (by decide) ?_
  refine aw_isub dX7_thing_143 ?_
  rw [show (2 : Int32) + 6 - 6 = nI 2 by decide]
  refine aw_run (zRun_V (c_X7_of (t := t) (k := 2) hM zVw.put (by omega)) gX7_thing_X7_of q_X7_of rfl (by decide) rfl ms0 rfl rfl (Nat.le_of_ble_eq_true rfl) dX7_thing_144 ⟨Nat.le_refl _, Nat.le_refl _⟩) ?_
  exact aw_ireturn rfl dX7_thing_147 ⟨Nat.zero_le _, Nat.zero_le _⟩ rfl rfl (zput_view hG) rfl

set_option maxHeartbeats 1000000 in
set_option maxRecDepth 100000 in
theorem c_X7_thing_7 {sh : zSh} {F : Nat → Nat → Int32} {P : Nat → Nat → Option Nat} {μ : Nat} {G : Nat → Nat → Int32} {t : Nat} (hM : zMd sh P μ) (hG : zVw F μ 13 G) (ht : t < 20) : zMet yX7_thing wsX7_thing (5) (0) (0) [.ref μ, .int (nI t), .int 7] sh F P (some (.int (G 1 (23 * t + 3)))) sh F P := by
  refine zMet.of (by decide) rfl (Nat.le_of_ble_eq_true rfl) (by simp [Value.category]) ?_
  intro X ρ
  show AW mX7_thing X (zMQ mX7_thing X (some (.int (G 1 (23 * t + 3)))) sh F P) 0 [some (.ref μ), some (.int (nI t)), some (.int 7), none] [] ρ sh F P 0 0
  have hinX7 : ∀ w ∈ u_ws RX7 TX7 29, w ∈ wsX7_thing := by decide +kernel
  obtain ⟨ms0, ⟨mp0, mp1, mp3, mp5, mp9, mp10, mp11, mp12, mp13, mp17, mp21, mp28⟩, ms1, ms2, ms3, ms4, ms5, ms6, ms7, ms8, ms9, ms10, ms11, ms12⟩ := id hM
  refine aw_cF (F' := zput F μ 13 G) (zput_view hG).symm ?_
  refine aw_iload_1 dX7_thing_0 ?_
  refine aw_run (zRun_S (c_X7_isThing ) (Or.inl gX7_thing_X7_isThing) q_X7_isThing (by decide) rfl rfl (Nat.le_of_ble_eq_true rfl) dX7_thing_1 ⟨Nat.le_refl _, Nat.le_refl _⟩) ?_
  refine aw_if_eq (tgt := 17) dX7_thing_4 (by decide) (fun c4 => absurd c4 (mIn_20 ht)) (fun c4 => ?_)
  refine aw_iload_2 dX7_thing_7 ?_
  refine aw_iconst (v := 0) dX7_thing_8 (by decide) ?_
  refine aw_bipush (v := 10) dX7_thing_9 (by decide) ?_
  refine aw_run (zRun_S (c_X7_isIn ) (Or.inl gX7_thing_X7_isIn) q_X7_isIn (by decide) rfl rfl (Nat.le_of_ble_eq_true rfl) dX7_thing_11 ⟨Nat.le_refl _, Nat.le_refl _⟩) ?_
  refine aw_if_ne (tgt := 19) dX7_thing_14 (by decide) (fun c14 => ?_) (fun c14 => absurd c14 (by decide))
  refine aw_iload_2 dX7_thing_19 ?_
  refine aw_tableOut (tgt := 136) dX7_thing_20 (by decide) (by decide) ?_
  refine aw_aload_0 dX7_thing_136 ?_
  refine aw_iload_1 dX7_thing_137 ?_
  refine aw_iconst (v := 2) dX7_thing_138 (by decide) ?_
  refine aw_iload_2 dX7_thing_139 ?_
  refine aw_iadd dX7_thing_140 ?_
  refine aw_bipush (v := 6) dX7_thing_141 (by decide) ?_
  refine aw_isub dX7_thing_143 ?_
  rw [show (2 : Int32) + 7 - 6 = nI 3 by decide]
  refine aw_run (zRun_V (c_X7_of (t := t) (k := 3) hM zVw.put (by omega)) gX7_thing_X7_of q_X7_of rfl (by decide) rfl ms0 rfl rfl (Nat.le_of_ble_eq_true rfl) dX7_thing_144 ⟨Nat.le_refl _, Nat.le_refl _⟩) ?_
  exact aw_ireturn rfl dX7_thing_147 ⟨Nat.zero_le _, Nat.zero_le _⟩ rfl rfl (zput_view hG) rfl

set_option maxHeartbeats 1000000 in
set_option maxRecDepth 100000 in
theorem c_X7_thing_8 {sh : zSh} {F : Nat → Nat → Int32} {P : Nat → Nat → Option Nat} {μ : Nat} {G : Nat → Nat → Int32} {t : Nat} (hM : zMd sh P μ) (hG : zVw F μ 13 G) (ht : t < 20) : zMet yX7_thing wsX7_thing (5) (0) (0) [.ref μ, .int (nI t), .int 8] sh F P (some (.int (G 1 (23 * t + 4)))) sh F P := by
  refine zMet.of (by decide) rfl (Nat.le_of_ble_eq_true rfl) (by simp [Value.category]) ?_
  intro X ρ
  show AW mX7_thing X (zMQ mX7_thing X (some (.int (G 1 (23 * t + 4)))) sh F P) 0 [some (.ref μ), some (.int (nI t)), some (.int 8), none] [] ρ sh F P 0 0
  have hinX7 : ∀ w ∈ u_ws RX7 TX7 29, w ∈ wsX7_thing := by decide +kernel
  obtain ⟨ms0, ⟨mp0, mp1, mp3, mp5, mp9, mp10, mp11, mp12, mp13, mp17, mp21, mp28⟩, ms1, ms2, ms3, ms4, ms5, ms6, ms7, ms8, ms9, ms10, ms11, ms12⟩ := id hM
  refine aw_cF (F' := zput F μ 13 G) (zput_view hG).symm ?_
  refine aw_iload_1 dX7_thing_0 ?_
  refine aw_run (zRun_S (c_X7_isThing ) (Or.inl gX7_thing_X7_isThing) q_X7_isThing (by decide) rfl rfl (Nat.le_of_ble_eq_true rfl) dX7_thing_1 ⟨Nat.le_refl _, Nat.le_refl _⟩) ?_
  refine aw_if_eq (tgt := 17) dX7_thing_4 (by decide) (fun c4 => absurd c4 (mIn_20 ht)) (fun c4 => ?_)
  refine aw_iload_2 dX7_thing_7 ?_
  refine aw_iconst (v := 0) dX7_thing_8 (by decide) ?_
  refine aw_bipush (v := 10) dX7_thing_9 (by decide) ?_
  refine aw_run (zRun_S (c_X7_isIn ) (Or.inl gX7_thing_X7_isIn) q_X7_isIn (by decide) rfl rfl (Nat.le_of_ble_eq_true rfl) dX7_thing_11 ⟨Nat.le_refl _, Nat.le_refl _⟩) ?_
  refine aw_if_ne (tgt := 19) dX7_thing_14 (by decide) (fun c14 => ?_) (fun c14 => absurd c14 (by decide))
  refine aw_iload_2 dX7_thing_19 ?_
  refine aw_tableOut (tgt := 136) dX7_thing_20 (by decide) (by decide) ?_
  refine aw_aload_0 dX7_thing_136 ?_
  refine aw_iload_1 dX7_thing_137 ?_
  refine aw_iconst (v := 2) dX7_thing_138 (by decide) ?_
  refine aw_iload_2 dX7_thing_139 ?_
  refine aw_iadd dX7_thing_140 ?_
  refine aw_bipush (v := 6) dX7_thing_141 (by decide) ?_
  refine aw_isub dX7_thing_143 ?_
  rw [show (2 : Int32) + 8 - 6 = nI 4 by decide]
  refine aw_run (zRun_V (c_X7_of (t := t) (k := 4) hM zVw.put (by omega)) gX7_thing_X7_of q_X7_of rfl (by decide) rfl ms0 rfl rfl (Nat.le_of_ble_eq_true rfl) dX7_thing_144 ⟨Nat.le_refl _, Nat.le_refl _⟩) ?_
  exact aw_ireturn rfl dX7_thing_147 ⟨Nat.zero_le _, Nat.zero_le _⟩ rfl rfl (zput_view hG) rfl

set_option maxHeartbeats 1000000 in
set_option maxRecDepth 100000 in
theorem c_X7_thing_9 {sh : zSh} {F : Nat → Nat → Int32} {P : Nat → Nat → Option Nat} {μ : Nat} {G : Nat → Nat → Int32} {t : Nat} (hM : zMd sh P μ) (hG : zVw F μ 13 G) (ht : t < 20) : zMet yX7_thing wsX7_thing (5) (0) (0) [.ref μ, .int (nI t), .int 9] sh F P (some (.int (G 1 (23 * t + 5)))) sh F P := by
  refine zMet.of (by decide) rfl (Nat.le_of_ble_eq_true rfl) (by simp [Value.category]) ?_
  intro X ρ
  show AW mX7_thing X (zMQ mX7_thing X (some (.int (G 1 (23 * t + 5)))) sh F P) 0 [some (.ref μ), some (.int (nI t)), some (.int 9), none] [] ρ sh F P 0 0
  have hinX7 : ∀ w ∈ u_ws RX7 TX7 29, w ∈ wsX7_thing := by decide +kernel
  obtain ⟨ms0, ⟨mp0, mp1, mp3, mp5, mp9, mp10, mp11, mp12, mp13, mp17, mp21, mp28⟩, ms1, ms2, ms3, ms4, ms5, ms6, ms7, ms8, ms9, ms10, ms11, ms12⟩ := id hM
  refine aw_cF (F' := zput F μ 13 G) (zput_view hG).symm ?_
  refine aw_iload_1 dX7_thing_0 ?_
  refine aw_run (zRun_S (c_X7_isThing ) (Or.inl gX7_thing_X7_isThing) q_X7_isThing (by decide) rfl rfl (Nat.le_of_ble_eq_true rfl) dX7_thing_1 ⟨Nat.le_refl _, Nat.le_refl _⟩) ?_
  refine aw_if_eq (tgt := 17) dX7_thing_4 (by decide) (fun c4 => absurd c4 (mIn_20 ht)) (fun c4 => ?_)
  refine aw_iload_2 dX7_thing_7 ?_
  refine aw_iconst (v := 0) dX7_thing_8 (by decide) ?_
  refine aw_bipush (v := 10) dX7_thing_9 (by decide) ?_
  refine aw_run (zRun_S (c_X7_isIn ) (Or.inl gX7_thing_X7_isIn) q_X7_isIn (by decide) rfl rfl (Nat.le_of_ble_eq_true rfl) dX7_thing_11 ⟨Nat.le_refl _, Nat.le_refl _⟩) ?_
  refine aw_if_ne (tgt := 19) dX7_thing_14 (by decide) (fun c14 => ?_) (fun c14 => absurd c14 (by decide))
  refine aw_iload_2 dX7_thing_19 ?_
  refine aw_tableOut (tgt := 136) dX7_thing_20 (by decide) (by decide) ?_
  refine aw_aload_0 dX7_thing_136 ?_
  refine aw_iload_1 dX7_thing_137 ?_
  refine aw_iconst (v := 2) dX7_thing_138 (by decide) ?_
  refine aw_iload_2 dX7_thing_139 ?_
  refine aw_iadd dX7_thing_140 ?_
  refine aw_bipush (v := 6) dX7_thing_141 (by decide) ?_
  refine aw_isub dX7_thing_143 ?_
  rw [show (2 : Int32) + 9 - 6 = nI 5 by decide]
  refine aw_run (zRun_V (c_X7_of (t := t) (k := 5) hM zVw.put (by omega)) gX7_thing_X7_of q_X7_of rfl (by decide) rfl ms0 rfl rfl (Nat.le_of_ble_eq_true rfl) dX7_thing_144 ⟨Nat.le_refl _, Nat.le_refl _⟩) ?_
  exact aw_ireturn rfl dX7_thing_147 ⟨Nat.zero_le _, Nat.zero_le _⟩ rfl rfl (zput_view hG) rfl

set_option maxHeartbeats 1000000 in
set_option maxRecDepth 100000 in
theorem c_X7_thing_10 {sh : zSh} {F : Nat → Nat → Int32} {P : Nat → Nat → Option Nat} {μ : Nat} {G : Nat → Nat → Int32} {t : Nat} (hM : zMd sh P μ) (hG : zVw F μ 13 G) (ht : t < 20) : zMet yX7_thing wsX7_thing (5) (0) (0) [.ref μ, .int (nI t), .int 10] sh F P (some (.int (G 1 (23 * t + 6)))) sh F P := by
  refine zMet.of (by decide) rfl (Nat.le_of_ble_eq_true rfl) (by simp [Value.category]) ?_
  intro X ρ
  show AW mX7_thing X (zMQ mX7_thing X (some (.int (G 1 (23 * t + 6)))) sh F P) 0 [some (.ref μ), some (.int (nI t)), some (.int 10), none] [] ρ sh F P 0 0
  have hinX7 : ∀ w ∈ u_ws RX7 TX7 29, w ∈ wsX7_thing := by decide +kernel
  obtain ⟨ms0, ⟨mp0, mp1, mp3, mp5, mp9, mp10, mp11, mp12, mp13, mp17, mp21, mp28⟩, ms1, ms2, ms3, ms4, ms5, ms6, ms7, ms8, ms9, ms10, ms11, ms12⟩ := id hM
  refine aw_cF (F' := zput F μ 13 G) (zput_view hG).symm ?_
  refine aw_iload_1 dX7_thing_0 ?_
  refine aw_run (zRun_S (c_X7_isThing ) (Or.inl gX7_thing_X7_isThing) q_X7_isThing (by decide) rfl rfl (Nat.le_of_ble_eq_true rfl) dX7_thing_1 ⟨Nat.le_refl _, Nat.le_refl _⟩) ?_
  refine aw_if_eq (tgt := 17) dX7_thing_4 (by decide) (fun c4 => absurd c4 (mIn_20 ht)) (fun c4 => ?_)
  refine aw_iload_2 dX7_thing_7 ?_
  refine aw_iconst (v := 0) dX7_thing_8 (by decide) ?_
  refine aw_bipush (v := 10) dX7_thing_9 (by decide) ?_
  refine aw_run (zRun_S (c_X7_isIn ) (Or.inl gX7_thing_X7_isIn) q_X7_isIn (by decide) rfl rfl (Nat.le_of_ble_eq_true rfl) dX7_thing_11 ⟨Nat.le_refl _, Nat.le_refl _⟩) ?_
  refine aw_if_ne (tgt := 19) dX7_thing_14 (by decide) (fun c14 => ?_) (fun c14 => absurd c14 (by decide))
  refine aw_iload_2 dX7_thing_19 ?_
  refine aw_tableOut (tgt := 136) dX7_thing_20 (by decide) (by decide) ?_
  refine aw_aload_0 dX7_thing_136 ?_
  refine aw_iload_1 dX7_thing_137 ?_
  refine aw_iconst (v := 2) dX7_thing_138 (by decide) ?_
  refine aw_iload_2 dX7_thing_139 ?_
  refine aw_iadd dX7_thing_140 ?_
  refine aw_bipush (v := 6) dX7_thing_141 (by decide) ?_
  refine aw_isub dX7_thing_143 ?_
  rw [show (2 : Int32) + 10 - 6 = nI 6 by decide]
  refine aw_run (zRun_V (c_X7_of (t := t) (k := 6) hM zVw.put (by omega)) gX7_thing_X7_of q_X7_of rfl (by decide) rfl ms0 rfl rfl (Nat.le_of_ble_eq_true rfl) dX7_thing_144 ⟨Nat.le_refl _, Nat.le_refl _⟩) ?_
  exact aw_ireturn rfl dX7_thing_147 ⟨Nat.zero_le _, Nat.zero_le _⟩ rfl rfl (zput_view hG) rfl
