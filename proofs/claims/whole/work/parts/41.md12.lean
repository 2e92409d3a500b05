/-! ===== 41.md12: keep, back, forbid of the model ===== -/

abbrev mX7_keep : ZM := (cX7_keep, RX7, wsX7_keep, 4, 0, 0, (some .int), 3, yX7_keep.name)
set_option maxHeartbeats 1000000 in
set_option maxRecDepth 100000 in
theorem c_X7_keep_b {sh : zSh} {F : Nat → Nat → Int32} {P : Nat → Nat → Option Nat} {μ : Nat} {G : Nat → Nat → Int32} {k : Int32} (hM : zMd sh P μ) (hG : zVw F μ 13 G) (h : mIn k 0 1 = 0) : zMet yX7_keep wsX7_keep (4) (0) (0) [.ref μ, .int k] sh F P (some (.int (-1))) sh F P := by
  refine zMet.of (by decide) rfl (Nat.le_of_ble_eq_true rfl) (by simp [Value.category]) ?_
  intro X ρ
  show AW mX7_keep X (zMQ mX7_keep X (some (.int (-1))) sh F P) 0 [some (.ref μ), some (.int k), none] [] ρ sh F P 0 0
  have hinX7 : ∀ w ∈ u_ws RX7 TX7 29, w ∈ wsX7_keep := by decide +kernel
  obtain ⟨ms0, ⟨mp0, mp1, mp3, mp5, mp9, mp10, mp11, mp12, mp13, mp17, mp21, mp28⟩, ms1, ms2, ms3, ms4, ms5, ms6, ms7, ms8, ms9, ms10, ms11, ms12⟩ := id hM
  refine aw_cF (F' := zput F μ 13 G) (zput_view hG).symm ?_
  refine aw_iload_1 dX7_keep_0 ?_
  refine aw_run (zRun_S (c_X7_isImage ) (Or.inl gX7_keep_X7_isImage) q_X7_isImage (by decide) rfl rfl (Nat.le_of_ble_eq_true rfl) dX7_keep_1 ⟨Nat.le_refl _, Nat.le_refl _⟩) ?_
  refine aw_if_ne (tgt := 9) dX7_keep_4 (by decide) (fun c4 => ?_) (fun c4 => ?_)
  · exact absurd h c4
  · refine aw_iconst (v := (-1)) dX7_keep_7 (by decide) ?_
    exact aw_ireturn rfl dX7_keep_8 ⟨Nat.zero_le _, Nat.zero_le _⟩ (by first | rfl | simp [c4]) rfl (zput_view hG) rfl

set_option maxHeartbeats 1000000 in
set_option maxRecDepth 100000 in
theorem c_X7_keep_o {sh : zSh} {F : Nat → Nat → Int32} {P : Nat → Nat → Option Nat} {μ : Nat} {G : Nat → Nat → Int32} {i : Nat} (hM : zMd sh P μ) (hG : zVw F μ 13 G) (hi : i < 2) : zMet yX7_keep wsX7_keep (4) (0) (0) [.ref μ, .int (nI i)] sh F P (some (.int (mRecipes (G 1) 20))) sh (zput F μ 13 ((va_up (va_up G 3 (mPastIn i 462 (G 1) (G 3))) 0 (upd (G 0) 4 (G 0 4 ||| (1 : Int32) <<< (nI i &&& 31)))))) P := by
  refine zMet.of (by decide) rfl (Nat.le_of_ble_eq_true rfl) (by simp [Value.category]) ?_
  intro X ρ
  show AW mX7_keep X (zMQ mX7_keep X (some (.int (mRecipes (G 1) 20))) sh (zput F μ 13 ((va_up (va_up G 3 (mPastIn i 462 (G 1) (G 3))) 0 (upd (G 0) 4 (G 0 4 ||| (1 : Int32) <<< (nI i &&& 31)))))) P) 0 [some (.ref μ), some (.int (nI i)), none] [] ρ sh F P 0 0
  have hinX7 : ∀ w ∈ u_ws RX7 TX7 29, w ∈ wsX7_keep := by decide +kernel
  obtain ⟨ms0, ⟨mp0, mp1, mp3, mp5, mp9, mp10, mp11, mp12, mp13, mp17, mp21, mp28⟩, ms1, ms2, ms3, ms4, ms5, ms6, ms7, ms8, ms9, ms10, ms11, ms12⟩ := id hM
  refine aw_cF (F' := zput F μ 13 G) (zput_view hG).symm ?_
  have L11 : ∀ (m k : Nat), k ≤ 462 → 462 - k = m → AW mX7_keep X (zMQ mX7_keep X (some (.int (mRecipes (G 1) 20))) sh (zput F μ 13 ((va_up (va_up G 3 (mPastIn i 462 (G 1) (G 3))) 0 (upd (G 0) 4 (G 0 4 ||| (1 : Int32) <<< (nI i &&& 31)))))) P) 11 [some (.ref μ), some (.int (nI i)), some (.int (nI k))] [] ρ sh (zput F μ 13 (va_up G 3 (mPastIn i k (G 1) (G 3)))) P 0 0 := by
    intro m
    induction m using Nat.strongRecOn with
    | _ m ih =>
    intro k hk hm
    refine aw_iload_2 dX7_keep_11 ?_
    refine aw_sipush (v := 462) dX7_keep_12 (by decide) ?_
    refine aw_icmp_ge (tgt := 42) dX7_keep_15 (by decide) (fun c15 => ?_) (fun c15 => ?_)
    · rw [zend (n := 462) hk (by decide) c15]
      refine aw_aload_0 dX7_keep_42 ?_
      refine aw_dup rfl dX7_keep_43 ?_
      refine aw_getI fX7_4 hinX7 (by decide +kernel : Cond.fieldLink RX7 222 RX7 (TX7 4).2.1 (TX7 4).2.2.1 ∈ wsX7_keep) ms0 dX7_keep_44 ?_
      try simp (disch := omega) only [zu_up, zup_in, zup_in0, zput_at, zput_a0, zput_zput, zup_eq, zup_ne, va_up_up, nI_clamp]
      refine aw_iconst (v := 1) dX7_keep_47 (by decide) ?_
      refine aw_iload_1 dX7_keep_48 ?_
      refine aw_ishl dX7_keep_49 ?_
      refine aw_ior dX7_keep_50 ?_
      refine aw_putI fX7_4 rfl hinX7 (by decide +kernel : Cond.fieldLink RX7 222 RX7 (TX7 4).2.1 (TX7 4).2.2.1 ∈ wsX7_keep) ms0 dX7_keep_51 ?_
      simp (disch := omega) only [zu_up, zup_in, zup_in0, zput_at, zput_a0, zput_zput, zup_eq, zup_ne, va_up_up, nI_clamp]
      refine aw_aload_0 dX7_keep_54 ?_
      refine aw_run (zRun_V (c_X7_recipes hM zVw.put) gX7_keep_X7_recipes q_X7_recipes rfl (by decide) rfl ms0 rfl rfl (Nat.le_of_ble_eq_true rfl) dX7_keep_55 ⟨Nat.le_refl _, Nat.le_refl _⟩) ?_
      exact aw_ireturn rfl dX7_keep_58 ⟨Nat.zero_le _, Nat.zero_le _⟩ rfl rfl (by rfl) rfl
    · have hlt : k < 462 := zlt (n := 462) hk (by decide) c15
      refine aw_aload_0 dX7_keep_18 ?_
      refine aw_getR fX7_3 (fun _ _ => rfl) mp3 hinX7 (by decide +kernel : Cond.fieldLink RX7 16 RX7 (TX7 3).2.1 (TX7 3).2.2.1 ∈ wsX7_keep) ms0 dX7_keep_19 ?_
      refine aw_sipush (v := 462) dX7_keep_22 (by decide) ?_
      refine aw_iload_1 dX7_keep_25 ?_
      refine aw_imul dX7_keep_26 ?_
      refine aw_iload_2 dX7_keep_27 ?_
      refine aw_iadd dX7_keep_28 ?_
      rw [m462]
      refine aw_aload_0 dX7_keep_29 ?_
      refine aw_getR fX7_0 (fun _ _ => rfl) mp0 hinX7 (by decide +kernel : Cond.fieldLink RX7 7 RX7 (TX7 0).2.1 (TX7 0).2.2.1 ∈ wsX7_keep) ms0 dX7_keep_30 ?_
      refine aw_iload_2 dX7_keep_33 ?_
      refine aw_iaload (by first | exact ms1 | exact ms2 | exact ms3 | exact ms4 | exact ms5 | exact ms6 | exact ms7 | exact ms8 | exact ms9 | exact ms10 | exact ms11 | exact ms12) (vp_in_nI hlt (by decide)) dX7_keep_34 ?_
      try simp (disch := omega) only [zu_up, zup_in, zup_in0, zput_at, zput_a0, zput_zput, zup_eq, zup_ne, va_up_up, nI_clamp]
      refine aw_iastore (by first | exact ms1 | exact ms2 | exact ms3 | exact ms4 | exact ms5 | exact ms6 | exact ms7 | exact ms8 | exact ms9 | exact ms10 | exact ms11 | exact ms12) (vp_in_nI (show 462 * i + k < 924 by omega) (by decide)) dX7_keep_35 ?_
      simp (disch := omega) only [zu_up, zup_in, zup_in0, zput_at, zput_a0, zput_zput, zup_eq, zup_ne, va_up_up, nI_clamp]
      rw [mPastIn_s]
      refine aw_iinc_2 (v := 1) (by decide) dX7_keep_36 ?_
      refine aw_goto (tgt := 11) dX7_keep_39 (by decide) ?_
      rw [nI_1]
      exact ih (462 - (k + 1)) (by omega) (k + 1) (by omega) rfl
  refine aw_iload_1 dX7_keep_0 ?_
  refine aw_run (zRun_S (c_X7_isImage ) (Or.inl gX7_keep_X7_isImage) q_X7_isImage (by decide) rfl rfl (Nat.le_of_ble_eq_true rfl) dX7_keep_1 ⟨Nat.le_refl _, Nat.le_refl _⟩) ?_
  refine aw_if_ne (tgt := 9) dX7_keep_4 (by decide) (fun c4 => ?_) (fun c4 => absurd c4 (mIn_t (m := 1) (by omega) (by decide)))
  refine aw_iconst (v := 0) dX7_keep_9 (by decide) ?_
  refine aw_istore_2 dX7_keep_10 ?_
  refine aw_cF (F' := zput F μ 13 (va_up G 3 (mPastIn i 0 (G 1) (G 3)))) (by rw [mPastIn_0, va_up_same]) ?_
  exact L11 _ 0 (Nat.zero_le _) rfl

abbrev mX7_back : ZM := (cX7_back, RX7, wsX7_back, 4, 0, 0, (some .int), 3, yX7_back.name)
set_option maxHeartbeats 1000000 in
set_option maxRecDepth 100000 in
theorem c_X7_back_b {sh : zSh} {F : Nat → Nat → Int32} {P : Nat → Nat → Option Nat} {μ : Nat} {G : Nat → Nat → Int32} {k : Int32} (hM : zMd sh P μ) (hG : zVw F μ 13 G) (h : mIn k 0 1 = 0) : zMet yX7_back wsX7_back (4) (0) (0) [.ref μ, .int k] sh F P (some (.int (-1))) sh F P := by
  refine zMet.of (by decide) rfl (Nat.le_of_ble_eq_true rfl) (by simp [Value.category]) ?_
  intro X ρ
  show AW mX7_back X (zMQ mX7_back X (some (.int (-1))) sh F P) 0 [some (.ref μ), some (.int k), none] [] ρ sh F P 0 0
  have hinX7 : ∀ w ∈ u_ws RX7 TX7 29, w ∈ wsX7_back := by decide +kernel
  obtain ⟨ms0, ⟨mp0, mp1, mp3, mp5, mp9, mp10, mp11, mp12, mp13, mp17, mp21, mp28⟩, ms1, ms2, ms3, ms4, ms5, ms6, ms7, ms8, ms9, ms10, ms11, ms12⟩ := id hM
  refine aw_cF (F' := zput F μ 13 G) (zput_view hG).symm ?_
  refine aw_iload_1 dX7_back_0 ?_
  refine aw_run (zRun_S (c_X7_isImage ) (Or.inl gX7_back_X7_isImage) q_X7_isImage (by decide) rfl rfl (Nat.le_of_ble_eq_true rfl) dX7_back_1 ⟨Nat.le_refl _, Nat.le_refl _⟩) ?_
  refine aw_if_ne (tgt := 9) dX7_back_4 (by decide) (fun c4 => ?_) (fun c4 => ?_)
  · exact absurd h c4
  · refine aw_iconst (v := (-1)) dX7_back_7 (by decide) ?_
    exact aw_ireturn rfl dX7_back_8 ⟨Nat.zero_le _, Nat.zero_le _⟩ (by first | rfl | simp [c4]) rfl (zput_view hG) rfl

set_option maxHeartbeats 1000000 in
set_option maxRecDepth 100000 in
theorem c_X7_back_n {sh : zSh} {F : Nat → Nat → Int32} {P : Nat → Nat → Option Nat} {μ : Nat} {G : Nat → Nat → Int32} {i : Nat} (hM : zMd sh P μ) (hG : zVw F μ 13 G) (hi : i < 2) (h : (G 0 4 >>> (nI i &&& 31)) &&& 1 = 0) : zMet yX7_back wsX7_back (4) (0) (0) [.ref μ, .int (nI i)] sh F P (some (.int (-2))) sh F P := by
  refine zMet.of (by decide) rfl (Nat.le_of_ble_eq_true rfl) (by simp [Value.category]) ?_
  intro X ρ
  show AW mX7_back X (zMQ mX7_back X (some (.int (-2))) sh F P) 0 [some (.ref μ), some (.int (nI i)), none] [] ρ sh F P 0 0
  have hinX7 : ∀ w ∈ u_ws RX7 TX7 29, w ∈ wsX7_back := by decide +kernel
  obtain ⟨ms0, ⟨mp0, mp1, mp3, mp5, mp9, mp10, mp11, mp12, mp13, mp17, mp21, mp28⟩, ms1, ms2, ms3, ms4, ms5, ms6, ms7, ms8, ms9, ms10, ms11, ms12⟩ := id hM
  refine aw_cF (F' := zput F μ 13 G) (zput_view hG).symm ?_
  refine aw_iload_1 dX7_back_0 ?_
  refine aw_run (zRun_S (c_X7_isImage ) (Or.inl gX7_back_X7_isImage) q_X7_isImage (by decide) rfl rfl (Nat.le_of_ble_eq_true rfl) dX7_back_1 ⟨Nat.le_refl _, Nat.le_refl _⟩) ?_
  refine aw_if_ne (tgt := 9) dX7_back_4 (by decide) (fun c4 => ?_) (fun c4 => absurd c4 (mIn_t (m := 1) (by omega) (by decide)))
  refine aw_aload_0 dX7_back_9 ?_
  refine aw_getI fX7_4 hinX7 (by decide +kernel : Cond.fieldLink RX7 222 RX7 (TX7 4).2.1 (TX7 4).2.2.1 ∈ wsX7_back) ms0 dX7_back_10 ?_
  try simp (disch := omega) only [zu_up, zup_in, zup_in0, zput_at, zput_a0, zput_zput, zup_eq, zup_ne, va_up_up, nI_clamp]
  refine aw_iload_1 dX7_back_13 ?_
  refine aw_ishr dX7_back_14 ?_
  refine aw_iconst (v := 1) dX7_back_15 (by decide) ?_
  refine aw_iand dX7_back_16 ?_
  refine aw_if_ne (tgt := 23) dX7_back_17 (by decide) (fun c17 => absurd c17 (fun e => e h)) (fun c17 => ?_)
  refine aw_bipush (v := (-2)) dX7_back_20 (by decide) ?_
  exact aw_ireturn rfl dX7_back_22 ⟨Nat.zero_le _, Nat.zero_le _⟩ (by first | rfl | simp [c4, c17]) rfl (zput_view hG) rfl

set_option maxHeartbeats 1000000 in
set_option maxRecDepth 100000 in
theorem c_X7_back_o {sh : zSh} {F : Nat → Nat → Int32} {P : Nat → Nat → Option Nat} {μ : Nat} {G : Nat → Nat → Int32} {i p : Nat} (hM : zMd sh P μ) (hG : zVw F μ 13 G) (hi : i < 2) (h : ¬ (G 0 4 >>> (nI i &&& 31)) &&& 1 = 0) (hp : p ≤ 8) (h2 : G 0 2 = nI p) : zMet yX7_back wsX7_back (4) (0) (0) [.ref μ, .int (nI i)] sh F P (some (.int (mRecipes (cCopy 462 (fun j => G 3 (462 * i + j)) (G 1)) 20))) sh (zput F μ 13 ((va_up (mRemember G p) 1 (cCopy 462 (fun j => G 3 (462 * i + j)) (G 1))))) P := by
  refine zMet.of (by decide) rfl (Nat.le_of_ble_eq_true rfl) (by simp [Value.category]) ?_
  intro X ρ
  show AW mX7_back X (zMQ mX7_back X (some (.int (mRecipes (cCopy 462 (fun j => G 3 (462 * i + j)) (G 1)) 20))) sh (zput F μ 13 ((va_up (mRemember G p) 1 (cCopy 462 (fun j => G 3 (462 * i + j)) (G 1))))) P) 0 [some (.ref μ), some (.int (nI i)), none] [] ρ sh F P 0 0
  have hinX7 : ∀ w ∈ u_ws RX7 TX7 29, w ∈ wsX7_back := by decide +kernel
  obtain ⟨ms0, ⟨mp0, mp1, mp3, mp5, mp9, mp10, mp11, mp12, mp13, mp17, mp21, mp28⟩, ms1, ms2, ms3, ms4, ms5, ms6, ms7, ms8, ms9, ms10, ms11, ms12⟩ := id hM
  refine aw_cF (F' := zput F μ 13 G) (zput_view hG).symm ?_
  have L29 : ∀ (m k : Nat), k ≤ 462 → 462 - k = m → AW mX7_back X (zMQ mX7_back X (some (.int (mRecipes (cCopy 462 (fun j => G 3 (462 * i + j)) (G 1)) 20))) sh (zput F μ 13 ((va_up (mRemember G p) 1 (cCopy 462 (fun j => G 3 (462 * i + j)) (G 1))))) P) 29 [some (.ref μ), some (.int (nI i)), some (.int (nI k))] [] ρ sh (zput F μ 13 (va_up (mRemember G p) 1 (cCopy k (fun j => G 3 (462 * i + j)) (G 1)))) P 0 0 := by
    intro m
    induction m using Nat.strongRecOn with
    | _ m ih =>
    intro k hk hm
    refine aw_iload_2 dX7_back_29 ?_
    refine aw_sipush (v := 462) dX7_back_30 (by decide) ?_
    refine aw_icmp_ge (tgt := 60) dX7_back_33 (by decide) (fun c33 => ?_) (fun c33 => ?_)
    · rw [zend (n := 462) hk (by decide) c33]
      refine aw_aload_0 dX7_back_60 ?_
      refine aw_run (zRun_V (c_X7_recipes hM zVw.put) gX7_back_X7_recipes q_X7_recipes rfl (by decide) rfl ms0 rfl rfl (Nat.le_of_ble_eq_true rfl) dX7_back_61 ⟨Nat.le_refl _, Nat.le_refl _⟩) ?_
      try rw [zup_eq]
      exact aw_ireturn rfl dX7_back_64 ⟨Nat.zero_le _, Nat.zero_le _⟩ rfl rfl rfl rfl
    · have hlt : k < 462 := zlt (n := 462) hk (by decide) c33
      refine aw_aload_0 dX7_back_36 ?_
      refine aw_getR fX7_0 (fun _ _ => rfl) mp0 hinX7 (by decide +kernel : Cond.fieldLink RX7 7 RX7 (TX7 0).2.1 (TX7 0).2.2.1 ∈ wsX7_back) ms0 dX7_back_37 ?_
      refine aw_iload_2 dX7_back_40 ?_
      refine aw_aload_0 dX7_back_41 ?_
      refine aw_getR fX7_3 (fun _ _ => rfl) mp3 hinX7 (by decide +kernel : Cond.fieldLink RX7 16 RX7 (TX7 3).2.1 (TX7 3).2.2.1 ∈ wsX7_back) ms0 dX7_back_42 ?_
      refine aw_sipush (v := 462) dX7_back_45 (by decide) ?_
      refine aw_iload_1 dX7_back_48 ?_
      refine aw_imul dX7_back_49 ?_
      refine aw_iload_2 dX7_back_50 ?_
      refine aw_iadd dX7_back_51 ?_
      rw [m462]
      refine aw_iaload (by first | exact ms1 | exact ms2 | exact ms3 | exact ms4 | exact ms5 | exact ms6 | exact ms7 | exact ms8 | exact ms9 | exact ms10 | exact ms11 | exact ms12) (vp_in_nI (show 462 * i + k < 924 by omega) (by decide)) dX7_back_52 ?_
      try simp (disch := omega) only [zu_up, zup_in, zup_in0, zput_at, zput_a0, zput_zput, zup_eq, zup_ne, va_up_up, nI_clamp]
      rw [mRemember_1 (show 3 ≠ 0 by decide) (by decide)]
      refine aw_iastore (by first | exact ms1 | exact ms2 | exact ms3 | exact ms4 | exact ms5 | exact ms6 | exact ms7 | exact ms8 | exact ms9 | exact ms10 | exact ms11 | exact ms12) (vp_in_nI hlt (by decide)) dX7_back_53 ?_
      simp (disch := omega) only [zu_up, zup_in, zup_in0, zput_at, zput_a0, zput_zput, zup_eq, zup_ne, va_up_up, nI_clamp]
      rw [cCopy_s (f := fun j => G 3 (462 * i + j))]
      refine aw_iinc_2 (v := 1) (by decide) dX7_back_54 ?_
      refine aw_goto (tgt := 29) dX7_back_57 (by decide) ?_
      rw [nI_1]
      exact ih (462 - (k + 1)) (by omega) (k + 1) (by omega) rfl
  refine aw_iload_1 dX7_back_0 ?_
  refine aw_run (zRun_S (c_X7_isImage ) (Or.inl gX7_back_X7_isImage) q_X7_isImage (by decide) rfl rfl (Nat.le_of_ble_eq_true rfl) dX7_back_1 ⟨Nat.le_refl _, Nat.le_refl _⟩) ?_
  refine aw_if_ne (tgt := 9) dX7_back_4 (by decide) (fun c4 => ?_) (fun c4 => absurd c4 (mIn_t (m := 1) (by omega) (by decide)))
  refine aw_aload_0 dX7_back_9 ?_
  refine aw_getI fX7_4 hinX7 (by decide +kernel : Cond.fieldLink RX7 222 RX7 (TX7 4).2.1 (TX7 4).2.2.1 ∈ wsX7_back) ms0 dX7_back_10 ?_
  try simp (disch := omega) only [zu_up, zup_in, zup_in0, zput_at, zput_a0, zput_zput, zup_eq, zup_ne, va_up_up, nI_clamp]
  refine aw_iload_1 dX7_back_13 ?_
  refine aw_ishr dX7_back_14 ?_
  refine aw_iconst (v := 1) dX7_back_15 (by decide) ?_
  refine aw_iand dX7_back_16 ?_
  refine aw_if_ne (tgt := 23) dX7_back_17 (by decide) (fun c17 => ?_) (fun c17 => absurd c17 h)
  refine aw_aload_0 dX7_back_23 ?_
  refine aw_runv (zRun_V (c_X7_remember (p := p) hM zVw.put hp h2) gX7_back_X7_remember q_X7_remember rfl (by decide) rfl ms0 rfl rfl (Nat.le_of_ble_eq_true rfl) dX7_back_24 ⟨Nat.le_refl _, Nat.le_refl _⟩) ?_
  refine aw_iconst (v := 0) dX7_back_27 (by decide) ?_
  refine aw_istore_2 dX7_back_28 ?_
  refine aw_cF (F' := zput F μ 13 (va_up (mRemember G p) 1 (cCopy 0 (fun j => G 3 (462 * i + j)) (G 1)))) (by rw [zput_zput, cCopy_0, va_id (mRemember_1 (show 1 ≠ 0 by decide) (by decide)).symm]) ?_
  exact L29 _ 0 (Nat.zero_le _) rfl
