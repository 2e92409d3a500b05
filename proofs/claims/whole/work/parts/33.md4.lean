/-! ===== 33.md4: hold, restore, remember, endMaking, wishNow ===== -/
def mBeg0 (G : Nat → Nat → Int32) : Nat → Nat → Int32 := va_up G 0 (upd (upd (upd (G 0) 14 0) 15 0) 16 0)
def mHold (G : Nat → Nat → Int32) : Nat → Nat → Int32 := va_up G 10 (cCopy 462 (G 1) (G 10))
def mRest (G : Nat → Nat → Int32) : Nat → Nat → Int32 := va_up G 1 (cCopy 462 (G 10) (G 1))
def cShift (k : Nat) (f : Nat → Int32) : Nat → Int32 := fun j => if j < k then f (j + 462) else f j
def mPastIn (q k : Nat) (w f : Nat → Int32) : Nat → Int32 := fun j => if 462 * q ≤ j ∧ j < 462 * q + k then w (j - 462 * q) else f j
def mRem (G : Nat → Nat → Int32) (q : Nat) : Nat → Nat → Int32 := va_up (va_up G 2 (mPastIn q 462 (G 1) (G 2))) 0 (upd (G 0) 2 (nI (q + 1)))
def mShift (G : Nat → Nat → Int32) : Nat → Nat → Int32 := va_up (va_up G 2 (cShift 3234 (G 2))) 0 (upd (G 0) 2 (nI 7))
def mRemember (G : Nat → Nat → Int32) (p : Nat) : Nat → Nat → Int32 := if p = 8 then mRem (mShift G) 7 else mRem G p
theorem cCopy_s {k : Nat} {f g : Nat → Int32} : upd (cCopy k f g) k (f k) = cCopy (k + 1) f g := by
  funext j
  unfold cCopy
  by_cases h : j = k
  · subst h
    rw [upd_eq, if_pos (by omega)]
  · rw [upd_ne h]
    by_cases h2 : j < k
    · rw [if_pos h2, if_pos (by omega)]
    · rw [if_neg h2, if_neg (by omega)]
theorem cCopy_at {k j : Nat} {f g : Nat → Int32} (h : ¬ j < k) : cCopy k f g j = g j := if_neg h
theorem cCopy_in {k j : Nat} {f g : Nat → Int32} (h : j < k) : cCopy k f g j = f j := if_pos h
theorem cShift_s {k : Nat} {f : Nat → Int32} : upd (cShift k f) k (f (k + 462)) = cShift (k + 1) f := by
  funext j
  unfold cShift
  by_cases h : j = k
  · subst h
    rw [upd_eq, if_pos (by omega)]
  · rw [upd_ne h]
    by_cases h2 : j < k
    · rw [if_pos h2, if_pos (by omega)]
    · rw [if_neg h2, if_neg (by omega)]
theorem cShift_at {k j : Nat} {f : Nat → Int32} (h : ¬ j < k) : cShift k f j = f j := if_neg h
theorem mPastIn_s {q k : Nat} {w f : Nat → Int32} : upd (mPastIn q k w f) (462 * q + k) (w k) = mPastIn q (k + 1) w f := by
  funext j
  unfold mPastIn
  by_cases h : j = 462 * q + k
  · subst h
    rw [upd_eq, if_pos (by omega), show 462 * q + k - 462 * q = k by omega]
  · rw [upd_ne h]
    by_cases h2 : 462 * q ≤ j ∧ j < 462 * q + k
    · rw [if_pos h2, if_pos (by omega)]
    · rw [if_neg h2, if_neg (by omega)]
theorem mPastIn_0 {q : Nat} {w f : Nat → Int32} : mPastIn q 0 w f = f := by
  funext j
  exact if_neg (by omega)
theorem cCopy_0 {f g : Nat → Int32} : cCopy 0 f g = g := by
  funext j
  exact if_neg (by omega)
theorem m462 (q k : Nat) : (462 : Int32) * nI q + nI k = nI (462 * q + k) := by
  rw [show (462 : Int32) = nI 462 from rfl, pk_mul, nI_add]
theorem va_id {G : Nat → Nat → Int32} {i : Nat} {x : Nat → Int32} (h : x = G i) : va_up G i x = G := by
  subst h
  exact va_up_same G i

abbrev mX7_beginMaking : ZM := (cX7_beginMaking, RX7, wsX7_beginMaking, 1, 0, 0, none, 1, yX7_beginMaking.name)
set_option maxHeartbeats 1000000 in
set_option maxRecDepth 100000 in
theorem c_X7_beginMaking {sh : zSh} {F : Nat → Nat → Int32} {P : Nat → Nat → Option Nat} {μ : Nat} {G : Nat → Nat → Int32} (hM : zMd sh P μ) (hG : zVw F μ 13 G) : zMet yX7_beginMaking wsX7_beginMaking (1) (0) (0) [.ref μ] sh F P (none) sh (zput F μ 13 (mBeg0 G)) P := by
  refine zMet.of (by decide) rfl (Nat.le_of_ble_eq_true rfl) (by simp [Value.category]) ?_
  intro X ρ
  show AW mX7_beginMaking X (zMQ mX7_beginMaking X (none) sh (zput F μ 13 (mBeg0 G)) P) 0 [some (.ref μ)] [] ρ sh F P 0 0
  have hinX7 : ∀ w ∈ u_ws RX7 TX7 29, w ∈ wsX7_beginMaking := by decide +kernel
  obtain ⟨ms0, ⟨mp0, mp1, mp3, mp5, mp9, mp10, mp11, mp12, mp13, mp17, mp21, mp28⟩, ms1, ms2, ms3, ms4, ms5, ms6, ms7, ms8, ms9, ms10, ms11, ms12⟩ := id hM
  refine aw_cF (F' := zput F μ 13 G) (zput_view hG).symm ?_
  refine aw_aload_0 dX7_beginMaking_0 ?_
  refine aw_iconst (v := 0) dX7_beginMaking_1 (by decide) ?_
  refine aw_putI fX7_14 rfl hinX7 (by decide +kernel : Cond.fieldLink RX7 91 RX7 (TX7 14).2.1 (TX7 14).2.2.1 ∈ wsX7_beginMaking) ms0 dX7_beginMaking_2 ?_
  try simp (disch := omega) only [zu_up, zup_in, zup_in0, zput_at, zput_a0, zput_zput, zup_eq, zup_ne, va_up_up, nI_clamp]
  refine aw_aload_0 dX7_beginMaking_5 ?_
  refine aw_iconst (v := 0) dX7_beginMaking_6 (by decide) ?_
  refine aw_putI fX7_15 rfl hinX7 (by decide +kernel : Cond.fieldLink RX7 88 RX7 (TX7 15).2.1 (TX7 15).2.2.1 ∈ wsX7_beginMaking) ms0 dX7_beginMaking_7 ?_
  try simp (disch := omega) only [zu_up, zup_in, zup_in0, zput_at, zput_a0, zput_zput, zup_eq, zup_ne, va_up_up, nI_clamp]
  refine aw_aload_0 dX7_beginMaking_10 ?_
  refine aw_iconst (v := 0) dX7_beginMaking_11 (by decide) ?_
  refine aw_putZ (by decide) fX7_16 rfl hinX7 (by decide +kernel : Cond.fieldLink RX7 80 RX7 (TX7 16).2.1 (TX7 16).2.2.1 ∈ wsX7_beginMaking) ms0 dX7_beginMaking_12 ?_
  exact aw_return rfl dX7_beginMaking_15 ⟨Nat.zero_le _, Nat.zero_le _⟩ rfl rfl (by simp (disch := omega) only [zu_up, zup_in, zup_in0, zput_at, zput_a0, zput_zput, zup_eq, zup_ne, va_up_up, nI_clamp]; rfl) rfl

abbrev mX7_hold : ZM := (cX7_hold, RX7, wsX7_hold, 1, 0, 0, none, 2, yX7_hold.name)
set_option maxHeartbeats 1000000 in
set_option maxRecDepth 100000 in
theorem c_X7_hold {sh : zSh} {F : Nat → Nat → Int32} {P : Nat → Nat → Option Nat} {μ : Nat} {G : Nat → Nat → Int32} (hM : zMd sh P μ) (hG : zVw F μ 13 G) : zMet yX7_hold wsX7_hold (1) (0) (0) [.ref μ] sh F P (none) sh (zput F μ 13 (mHold G)) P := by
  refine zMet.of (by decide) rfl (Nat.le_of_ble_eq_true rfl) (by simp [Value.category]) ?_
  intro X ρ
  show AW mX7_hold X (zMQ mX7_hold X (none) sh (zput F μ 13 (mHold G)) P) 0 [some (.ref μ), none] [] ρ sh F P 0 0
  have hinX7 : ∀ w ∈ u_ws RX7 TX7 29, w ∈ wsX7_hold := by decide +kernel
  obtain ⟨ms0, ⟨mp0, mp1, mp3, mp5, mp9, mp10, mp11, mp12, mp13, mp17, mp21, mp28⟩, ms1, ms2, ms3, ms4, ms5, ms6, ms7, ms8, ms9, ms10, ms11, ms12⟩ := id hM
  refine aw_cF (F' := zput F μ 13 G) (zput_view hG).symm ?_
  have L2 : ∀ (m k : Nat), k ≤ 462 → 462 - k = m → AW mX7_hold X (zMQ mX7_hold X (none) sh (zput F μ 13 (mHold G)) P) 2 [some (.ref μ), some (.int (nI k))] [] ρ sh (zput F μ 13 (va_up G 10 (cCopy k (G 1) (G 10)))) P 0 0 := by
    intro m
    induction m using Nat.strongRecOn with
    | _ m ih =>
    intro k hk hm
    refine aw_iload_1 dX7_hold_2 ?_
    refine aw_sipush (v := 462) dX7_hold_3 (by decide) ?_
    refine aw_icmp_ge (tgt := 27) dX7_hold_6 (by decide) (fun c6 => ?_) (fun c6 => ?_)
    · exact aw_return rfl dX7_hold_27 ⟨Nat.zero_le _, Nat.zero_le _⟩ rfl rfl (by rw [zend (n := 462) hk (by decide) c6]; rfl) rfl
    · have hlt : k < 462 := zlt (n := 462) hk (by decide) c6
      refine aw_aload_0 dX7_hold_9 ?_
      refine aw_getR fX7_17 (fun _ _ => rfl) mp17 hinX7 (by decide +kernel : Cond.fieldLink RX7 44 RX7 (TX7 17).2.1 (TX7 17).2.2.1 ∈ wsX7_hold) ms0 dX7_hold_10 ?_
      refine aw_iload_1 dX7_hold_13 ?_
      refine aw_aload_0 dX7_hold_14 ?_
      refine aw_getR fX7_0 (fun _ _ => rfl) mp0 hinX7 (by decide +kernel : Cond.fieldLink RX7 7 RX7 (TX7 0).2.1 (TX7 0).2.2.1 ∈ wsX7_hold) ms0 dX7_hold_15 ?_
      refine aw_iload_1 dX7_hold_18 ?_
      refine aw_iaload (by first | exact ms1 | exact ms2 | exact ms3 | exact ms4 | exact ms5 | exact ms6 | exact ms7 | exact ms8 | exact ms9 | exact ms10 | exact ms11 | exact ms12) (vp_in_nI hlt (by decide)) dX7_hold_19 ?_
      try simp (disch := omega) only [zu_up, zup_in, zup_in0, zput_at, zput_a0, zput_zput, zup_eq, zup_ne, va_up_up, nI_clamp]
      refine aw_iastore (by first | exact ms1 | exact ms2 | exact ms3 | exact ms4 | exact ms5 | exact ms6 | exact ms7 | exact ms8 | exact ms9 | exact ms10 | exact ms11 | exact ms12) (vp_in_nI hlt (by decide)) dX7_hold_20 ?_
      simp (disch := omega) only [zu_up, zup_in, zup_in0, zput_at, zput_a0, zput_zput, zup_eq, zup_ne, va_up_up, nI_clamp]
      rw [cCopy_s]
      refine aw_iinc_1 (v := 1) (by decide) dX7_hold_21 ?_
      refine aw_goto (tgt := 2) dX7_hold_24 (by decide) ?_
      rw [nI_1]
      exact ih (462 - (k + 1)) (by omega) (k + 1) (by omega) rfl
  refine aw_iconst (v := 0) dX7_hold_0 (by decide) ?_
  refine aw_istore_1 dX7_hold_1 ?_
  refine aw_cF (F' := zput F μ 13 (va_up G 10 (cCopy 0 (G 1) (G 10)))) (by rw [cCopy_0, va_up_same]) ?_
  exact L2 _ 0 (Nat.zero_le _) rfl

abbrev mX7_restore : ZM := (cX7_restore, RX7, wsX7_restore, 1, 0, 0, none, 2, yX7_restore.name)
set_option maxHeartbeats 1000000 in
set_option maxRecDepth 100000 in
theorem c_X7_restore {sh : zSh} {F : Nat → Nat → Int32} {P : Nat → Nat → Option Nat} {μ : Nat} {G : Nat → Nat → Int32} (hM : zMd sh P μ) (hG : zVw F μ 13 G) : zMet yX7_restore wsX7_restore (1) (0) (0) [.ref μ] sh F P (none) sh (zput F μ 13 (mRest G)) P := by
  refine zMet.of (by decide) rfl (Nat.le_of_ble_eq_true rfl) (by simp [Value.category]) ?_
  intro X ρ
  show AW mX7_restore X (zMQ mX7_restore X (none) sh (zput F μ 13 (mRest G)) P) 0 [some (.ref μ), none] [] ρ sh F P 0 0
  have hinX7 : ∀ w ∈ u_ws RX7 TX7 29, w ∈ wsX7_restore := by decide +kernel
  obtain ⟨ms0, ⟨mp0, mp1, mp3, mp5, mp9, mp10, mp11, mp12, mp13, mp17, mp21, mp28⟩, ms1, ms2, ms3, ms4, ms5, ms6, ms7, ms8, ms9, ms10, ms11, ms12⟩ := id hM
  refine aw_cF (F' := zput F μ 13 G) (zput_view hG).symm ?_
  have L2 : ∀ (m k : Nat), k ≤ 462 → 462 - k = m → AW mX7_restore X (zMQ mX7_restore X (none) sh (zput F μ 13 (mRest G)) P) 2 [some (.ref μ), some (.int (nI k))] [] ρ sh (zput F μ 13 (va_up G 1 (cCopy k (G 10) (G 1)))) P 0 0 := by
    intro m
    induction m using Nat.strongRecOn with
    | _ m ih =>
    intro k hk hm
    refine aw_iload_1 dX7_restore_2 ?_
    refine aw_sipush (v := 462) dX7_restore_3 (by decide) ?_
    refine aw_icmp_ge (tgt := 27) dX7_restore_6 (by decide) (fun c6 => ?_) (fun c6 => ?_)
    · exact aw_return rfl dX7_restore_27 ⟨Nat.zero_le _, Nat.zero_le _⟩ rfl rfl (by rw [zend (n := 462) hk (by decide) c6]; rfl) rfl
    · have hlt : k < 462 := zlt (n := 462) hk (by decide) c6
      refine aw_aload_0 dX7_restore_9 ?_
      refine aw_getR fX7_0 (fun _ _ => rfl) mp0 hinX7 (by decide +kernel : Cond.fieldLink RX7 7 RX7 (TX7 0).2.1 (TX7 0).2.2.1 ∈ wsX7_restore) ms0 dX7_restore_10 ?_
      refine aw_iload_1 dX7_restore_13 ?_
      refine aw_aload_0 dX7_restore_14 ?_
      refine aw_getR fX7_17 (fun _ _ => rfl) mp17 hinX7 (by decide +kernel : Cond.fieldLink RX7 44 RX7 (TX7 17).2.1 (TX7 17).2.2.1 ∈ wsX7_restore) ms0 dX7_restore_15 ?_
      refine aw_iload_1 dX7_restore_18 ?_
      refine aw_iaload (by first | exact ms1 | exact ms2 | exact ms3 | exact ms4 | exact ms5 | exact ms6 | exact ms7 | exact ms8 | exact ms9 | exact ms10 | exact ms11 | exact ms12) (vp_in_nI hlt (by decide)) dX7_restore_19 ?_
      try simp (disch := omega) only [zu_up, zup_in, zup_in0, zput_at, zput_a0, zput_zput, zup_eq, zup_ne, va_up_up, nI_clamp]
      refine aw_iastore (by first | exact ms1 | exact ms2 | exact ms3 | exact ms4 | exact ms5 | exact ms6 | exact ms7 | exact ms8 | exact ms9 | exact ms10 | exact ms11 | exact ms12) (vp_in_nI hlt (by decide)) dX7_restore_20 ?_
      simp (disch := omega) only [zu_up, zup_in, zup_in0, zput_at, zput_a0, zput_zput, zup_eq, zup_ne, va_up_up, nI_clamp]
      rw [cCopy_s]
      refine aw_iinc_1 (v := 1) (by decide) dX7_restore_21 ?_
      refine aw_goto (tgt := 2) dX7_restore_24 (by decide) ?_
      rw [nI_1]
      exact ih (462 - (k + 1)) (by omega) (k + 1) (by omega) rfl
  refine aw_iconst (v := 0) dX7_restore_0 (by decide) ?_
  refine aw_istore_1 dX7_restore_1 ?_
  refine aw_cF (F' := zput F μ 13 (va_up G 1 (cCopy 0 (G 10) (G 1)))) (by rw [cCopy_0, va_up_same]) ?_
  exact L2 _ 0 (Nat.zero_le _) rfl

abbrev mX7_remember : ZM := (cX7_remember, RX7, wsX7_remember, 1, 0, 0, none, 2, yX7_remember.name)
set_option maxHeartbeats 1000000 in
set_option maxRecDepth 100000 in
theorem c_X7_remember_l {sh : zSh} {F : Nat → Nat → Int32} {P : Nat → Nat → Option Nat} {μ : Nat} {G : Nat → Nat → Int32} {q : Nat} (hM : zMd sh P μ) (hG : zVw F μ 13 G) (hq : q < 8) (h2 : G 0 2 = nI q) : zMet yX7_remember wsX7_remember (1) (0) (0) [.ref μ] sh F P (none) sh (zput F μ 13 (mRem G q)) P := by
  refine zMet.of (by decide) rfl (Nat.le_of_ble_eq_true rfl) (by simp [Value.category]) ?_
  intro X ρ
  show AW mX7_remember X (zMQ mX7_remember X (none) sh (zput F μ 13 (mRem G q)) P) 0 [some (.ref μ), none] [] ρ sh F P 0 0
  have hinX7 : ∀ w ∈ u_ws RX7 TX7 29, w ∈ wsX7_remember := by decide +kernel
  obtain ⟨ms0, ⟨mp0, mp1, mp3, mp5, mp9, mp10, mp11, mp12, mp13, mp17, mp21, mp28⟩, ms1, ms2, ms3, ms4, ms5, ms6, ms7, ms8, ms9, ms10, ms11, ms12⟩ := id hM
  refine aw_cF (F' := zput F μ 13 G) (zput_view hG).symm ?_
  have L52 : ∀ (m k : Nat), k ≤ 462 → 462 - k = m → AW mX7_remember X (zMQ mX7_remember X (none) sh (zput F μ 13 (mRem G q)) P) 52 [some (.ref μ), some (.int (nI k))] [] ρ sh (zput F μ 13 (va_up G 2 (mPastIn q k (G 1) (G 2)))) P 0 0 := by
    intro m
    induction m using Nat.strongRecOn with
    | _ m ih =>
    intro k hk hm
    refine aw_iload_1 dX7_remember_52 ?_
    refine aw_sipush (v := 462) dX7_remember_53 (by decide) ?_
    refine aw_icmp_ge (tgt := 86) dX7_remember_56 (by decide) (fun c56 => ?_) (fun c56 => ?_)
    · refine aw_aload_0 dX7_remember_86 ?_
      refine aw_dup rfl dX7_remember_87 ?_
      refine aw_getI fX7_2 hinX7 (by decide +kernel : Cond.fieldLink RX7 58 RX7 (TX7 2).2.1 (TX7 2).2.2.1 ∈ wsX7_remember) ms0 dX7_remember_88 ?_
      try simp (disch := omega) only [zu_up, zup_in, zup_in0, zput_at, zput_a0, zput_zput, zup_eq, zup_ne, va_up_up, nI_clamp]
      rw [h2]
      refine aw_iconst (v := 1) dX7_remember_91 (by decide) ?_
      refine aw_iadd dX7_remember_92 ?_
      rw [nI_1]
      refine aw_putI fX7_2 rfl hinX7 (by decide +kernel : Cond.fieldLink RX7 58 RX7 (TX7 2).2.1 (TX7 2).2.2.1 ∈ wsX7_remember) ms0 dX7_remember_93 ?_
      exact aw_return rfl dX7_remember_96 ⟨Nat.zero_le _, Nat.zero_le _⟩ rfl rfl (by simp (disch := omega) only [zu_up, zup_in, zup_in0, zput_at, zput_a0, zput_zput, zup_eq, zup_ne, va_up_up, nI_clamp]; rw [zend (n := 462) hk (by decide) c56]; rfl) rfl
    · have hlt : k < 462 := zlt (n := 462) hk (by decide) c56
      refine aw_aload_0 dX7_remember_59 ?_
      refine aw_getR fX7_1 (fun _ _ => rfl) mp1 hinX7 (by decide +kernel : Cond.fieldLink RX7 13 RX7 (TX7 1).2.1 (TX7 1).2.2.1 ∈ wsX7_remember) ms0 dX7_remember_60 ?_
      refine aw_sipush (v := 462) dX7_remember_63 (by decide) ?_
      refine aw_aload_0 dX7_remember_66 ?_
      refine aw_getI fX7_2 hinX7 (by decide +kernel : Cond.fieldLink RX7 58 RX7 (TX7 2).2.1 (TX7 2).2.2.1 ∈ wsX7_remember) ms0 dX7_remember_67 ?_
      try simp (disch := omega) only [zu_up, zup_in, zup_in0, zput_at, zput_a0, zput_zput, zup_eq, zup_ne, va_up_up, nI_clamp]
      rw [h2]
      refine aw_imul dX7_remember_70 ?_
      refine aw_iload_1 dX7_remember_71 ?_
      refine aw_iadd dX7_remember_72 ?_
      rw [m462]
      refine aw_aload_0 dX7_remember_73 ?_
      refine aw_getR fX7_0 (fun _ _ => rfl) mp0 hinX7 (by decide +kernel : Cond.fieldLink RX7 7 RX7 (TX7 0).2.1 (TX7 0).2.2.1 ∈ wsX7_remember) ms0 dX7_remember_74 ?_
      refine aw_iload_1 dX7_remember_77 ?_
      refine aw_iaload (by first | exact ms1 | exact ms2 | exact ms3 | exact ms4 | exact ms5 | exact ms6 | exact ms7 | exact ms8 | exact ms9 | exact ms10 | exact ms11 | exact ms12) (vp_in_nI hlt (by decide)) dX7_remember_78 ?_
      try simp (disch := omega) only [zu_up, zup_in, zup_in0, zput_at, zput_a0, zput_zput, zup_eq, zup_ne, va_up_up, nI_clamp]
      refine aw_iastore (by first | exact ms1 | exact ms2 | exact ms3 | exact ms4 | exact ms5 | exact ms6 | exact ms7 | exact ms8 | exact ms9 | exact ms10 | exact ms11 | exact ms12) (vp_in_nI (show 462 * q + k < 3696 by omega) (by decide)) dX7_remember_79 ?_
      simp (disch := omega) only [zu_up, zup_in, zup_in0, zput_at, zput_a0, zput_zput, zup_eq, zup_ne, va_up_up, nI_clamp]
      rw [mPastIn_s]
      refine aw_iinc_1 (v := 1) (by decide) dX7_remember_80 ?_
      refine aw_goto (tgt := 52) dX7_remember_83 (by decide) ?_
      rw [nI_1]
      exact ih (462 - (k + 1)) (by omega) (k + 1) (by omega) rfl
  refine aw_aload_0 dX7_remember_0 ?_
  refine aw_getI fX7_2 hinX7 (by decide +kernel : Cond.fieldLink RX7 58 RX7 (TX7 2).2.1 (TX7 2).2.2.1 ∈ wsX7_remember) ms0 dX7_remember_1 ?_
  try simp (disch := omega) only [zu_up, zup_in, zup_in0, zput_at, zput_a0, zput_zput, zup_eq, zup_ne, va_up_up, nI_clamp]
  rw [h2]
  refine aw_bipush (v := 8) dX7_remember_4 (by decide) ?_
  refine aw_icmp_ne (tgt := 50) dX7_remember_6 (by decide) (fun c6 => ?_) (fun c6 => absurd c6 (fun h => absurd ((nI_eq (a := q) (b := 8) (by omega) (by decide)).mp h) (by omega)))
  refine aw_iconst (v := 0) dX7_remember_50 (by decide) ?_
  refine aw_istore_1 dX7_remember_51 ?_
  refine aw_cF (F' := zput F μ 13 (va_up G 2 (mPastIn q 0 (G 1) (G 2)))) (by rw [mPastIn_0, va_up_same]) ?_
  exact L52 _ 0 (Nat.zero_le _) rfl

set_option maxHeartbeats 1000000 in
set_option maxRecDepth 100000 in
theorem c_X7_remember_8 {sh : zSh} {F : Nat → Nat → Int32} {P : Nat → Nat → Option Nat} {μ : Nat} {G : Nat → Nat → Int32} (hM : zMd sh P μ) (hG : zVw F μ 13 G) (h2 : G 0 2 = nI 8) : zMet yX7_remember wsX7_remember (1) (0) (0) [.ref μ] sh F P (none) sh (zput F μ 13 (mRem (mShift G) 7)) P := by
  refine zMet.of (by decide) rfl (Nat.le_of_ble_eq_true rfl) (by simp [Value.category]) ?_
  intro X ρ
  show AW mX7_remember X (zMQ mX7_remember X (none) sh (zput F μ 13 (mRem (mShift G) 7)) P) 0 [some (.ref μ), none] [] ρ sh F P 0 0
  have hinX7 : ∀ w ∈ u_ws RX7 TX7 29, w ∈ wsX7_remember := by decide +kernel
  obtain ⟨ms0, ⟨mp0, mp1, mp3, mp5, mp9, mp10, mp11, mp12, mp13, mp17, mp21, mp28⟩, ms1, ms2, ms3, ms4, ms5, ms6, ms7, ms8, ms9, ms10, ms11, ms12⟩ := id hM
  refine aw_cF (F' := zput F μ 13 G) (zput_view hG).symm ?_
  have s2 : mShift G 0 2 = nI 7 := by unfold mShift; rw [zup_eq, upd_eq]
  have L52 : ∀ (m k : Nat), k ≤ 462 → 462 - k = m → AW mX7_remember X (zMQ mX7_remember X (none) sh (zput F μ 13 (mRem (mShift G) 7)) P) 52 [some (.ref μ), some (.int (nI k))] [] ρ sh (zput F μ 13 (va_up (mShift G) 2 (mPastIn 7 k (mShift G 1) (mShift G 2)))) P 0 0 := by
    intro m
    induction m using Nat.strongRecOn with
    | _ m ih =>
    intro k hk hm
    refine aw_iload_1 dX7_remember_52 ?_
    refine aw_sipush (v := 462) dX7_remember_53 (by decide) ?_
    refine aw_icmp_ge (tgt := 86) dX7_remember_56 (by decide) (fun c56 => ?_) (fun c56 => ?_)
    · refine aw_aload_0 dX7_remember_86 ?_
      refine aw_dup rfl dX7_remember_87 ?_
      refine aw_getI fX7_2 hinX7 (by decide +kernel : Cond.fieldLink RX7 58 RX7 (TX7 2).2.1 (TX7 2).2.2.1 ∈ wsX7_remember) ms0 dX7_remember_88 ?_
      try simp (disch := omega) only [zu_up, zup_in, zup_in0, zput_at, zput_a0, zput_zput, zup_eq, zup_ne, va_up_up, nI_clamp]
      rw [s2]
      refine aw_iconst (v := 1) dX7_remember_91 (by decide) ?_
      refine aw_iadd dX7_remember_92 ?_
      rw [nI_1]
      refine aw_putI fX7_2 rfl hinX7 (by decide +kernel : Cond.fieldLink RX7 58 RX7 (TX7 2).2.1 (TX7 2).2.2.1 ∈ wsX7_remember) ms0 dX7_remember_93 ?_
      exact aw_return rfl dX7_remember_96 ⟨Nat.zero_le _, Nat.zero_le _⟩ rfl rfl (by simp (disch := omega) only [zu_up, zup_in, zup_in0, zput_at, zput_a0, zput_zput, zup_eq, zup_ne, va_up_up, nI_clamp]; rw [zend (n := 462) hk (by decide) c56]; rfl) rfl
    · have hlt : k < 462 := zlt (n := 462) hk (by decide) c56
      refine aw_aload_0 dX7_remember_59 ?_
      refine aw_getR fX7_1 (fun _ _ => rfl) mp1 hinX7 (by decide +kernel : Cond.fieldLink RX7 13 RX7 (TX7 1).2.1 (TX7 1).2.2.1 ∈ wsX7_remember) ms0 dX7_remember_60 ?_
      refine aw_sipush (v := 462) dX7_remember_63 (by decide) ?_
      refine aw_aload_0 dX7_remember_66 ?_
      refine aw_getI fX7_2 hinX7 (by decide +kernel : Cond.fieldLink RX7 58 RX7 (TX7 2).2.1 (TX7 2).2.2.1 ∈ wsX7_remember) ms0 dX7_remember_67 ?_
      try simp (disch := omega) only [zu_up, zup_in, zup_in0, zput_at, zput_a0, zput_zput, zup_eq, zup_ne, va_up_up, nI_clamp]
      rw [s2]
      refine aw_imul dX7_remember_70 ?_
      refine aw_iload_1 dX7_remember_71 ?_
      refine aw_iadd dX7_remember_72 ?_
      rw [show (nI 7 : Int32) = nI 7 from rfl, m462]
      refine aw_aload_0 dX7_remember_73 ?_
      refine aw_getR fX7_0 (fun _ _ => rfl) mp0 hinX7 (by decide +kernel : Cond.fieldLink RX7 7 RX7 (TX7 0).2.1 (TX7 0).2.2.1 ∈ wsX7_remember) ms0 dX7_remember_74 ?_
      refine aw_iload_1 dX7_remember_77 ?_
      refine aw_iaload (by first | exact ms1 | exact ms2 | exact ms3 | exact ms4 | exact ms5 | exact ms6 | exact ms7 | exact ms8 | exact ms9 | exact ms10 | exact ms11 | exact ms12) (vp_in_nI hlt (by decide)) dX7_remember_78 ?_
      try simp (disch := omega) only [zu_up, zup_in, zup_in0, zput_at, zput_a0, zput_zput, zup_eq, zup_ne, va_up_up, nI_clamp]
      refine aw_iastore (by first | exact ms1 | exact ms2 | exact ms3 | exact ms4 | exact ms5 | exact ms6 | exact ms7 | exact ms8 | exact ms9 | exact ms10 | exact ms11 | exact ms12) (vp_in_nI (show 462 * 7 + k < 3696 by omega) (by decide)) dX7_remember_79 ?_
      simp (disch := omega) only [zu_up, zup_in, zup_in0, zput_at, zput_a0, zput_zput, zup_eq, zup_ne, va_up_up, nI_clamp]
      rw [mPastIn_s]
      refine aw_iinc_1 (v := 1) (by decide) dX7_remember_80 ?_
      refine aw_goto (tgt := 52) dX7_remember_83 (by decide) ?_
      rw [nI_1]
      exact ih (462 - (k + 1)) (by omega) (k + 1) (by omega) rfl
  have L11 : ∀ (m k : Nat), k ≤ 3234 → 3234 - k = m → AW mX7_remember X (zMQ mX7_remember X (none) sh (zput F μ 13 (mRem (mShift G) 7)) P) 11 [some (.ref μ), some (.int (nI k))] [] ρ sh (zput F μ 13 (va_up G 2 (cShift k (G 2)))) P 0 0 := by
    intro m
    induction m using Nat.strongRecOn with
    | _ m ih =>
    intro k hk hm
    refine aw_iload_1 dX7_remember_11 ?_
    refine aw_sipush (v := 3234) dX7_remember_12 (by decide) ?_
    refine aw_icmp_ge (tgt := 40) dX7_remember_15 (by decide) (fun c15 => ?_) (fun c15 => ?_)
    · rw [zend (n := 3234) hk (by decide) c15]
      refine aw_aload_0 dX7_remember_40 ?_
      refine aw_dup rfl dX7_remember_41 ?_
      refine aw_getI fX7_2 hinX7 (by decide +kernel : Cond.fieldLink RX7 58 RX7 (TX7 2).2.1 (TX7 2).2.2.1 ∈ wsX7_remember) ms0 dX7_remember_42 ?_
      try simp (disch := omega) only [zu_up, zup_in, zup_in0, zput_at, zput_a0, zput_zput, zup_eq, zup_ne, va_up_up, nI_clamp]
      rw [h2]
      refine aw_iconst (v := 1) dX7_remember_45 (by decide) ?_
      refine aw_isub dX7_remember_46 ?_
      refine aw_putI fX7_2 rfl hinX7 (by decide +kernel : Cond.fieldLink RX7 58 RX7 (TX7 2).2.1 (TX7 2).2.2.1 ∈ wsX7_remember) ms0 dX7_remember_47 ?_
      rw [show nI 8 - 1 = nI 7 from pk_sub (a := 8) (b := 1) (by decide)]
      simp (disch := omega) only [zu_up, zup_in, zup_in0, zput_at, zput_a0, zput_zput, zup_eq, zup_ne, va_up_up, nI_clamp]
      rw [show va_up (va_up G 2 (cShift 3234 (G 2))) 0 (upd (G 0) 2 (nI 7)) = mShift G from rfl]
      refine aw_iconst (v := 0) dX7_remember_50 (by decide) ?_
      refine aw_istore_1 dX7_remember_51 ?_
      refine aw_cF (F' := zput F μ 13 (va_up (mShift G) 2 (mPastIn 7 0 (mShift G 1) (mShift G 2)))) (by rw [mPastIn_0, va_up_same]) ?_
      exact L52 _ 0 (Nat.zero_le _) rfl
    · have hlt : k < 3234 := zlt (n := 3234) hk (by decide) c15
      refine aw_aload_0 dX7_remember_18 ?_
      refine aw_getR fX7_1 (fun _ _ => rfl) mp1 hinX7 (by decide +kernel : Cond.fieldLink RX7 13 RX7 (TX7 1).2.1 (TX7 1).2.2.1 ∈ wsX7_remember) ms0 dX7_remember_19 ?_
      refine aw_iload_1 dX7_remember_22 ?_
      refine aw_aload_0 dX7_remember_23 ?_
      refine aw_getR fX7_1 (fun _ _ => rfl) mp1 hinX7 (by decide +kernel : Cond.fieldLink RX7 13 RX7 (TX7 1).2.1 (TX7 1).2.2.1 ∈ wsX7_remember) ms0 dX7_remember_24 ?_
      refine aw_iload_1 dX7_remember_27 ?_
      refine aw_sipush (v := 462) dX7_remember_28 (by decide) ?_
      refine aw_iadd dX7_remember_31 ?_
      rw [show (462 : Int32) = nI 462 from rfl, nI_add]
      refine aw_iaload (by first | exact ms1 | exact ms2 | exact ms3 | exact ms4 | exact ms5 | exact ms6 | exact ms7 | exact ms8 | exact ms9 | exact ms10 | exact ms11 | exact ms12) (vp_in_nI (show k + 462 < 3696 by omega) (by decide)) dX7_remember_32 ?_
      try simp (disch := omega) only [zu_up, zup_in, zup_in0, zput_at, zput_a0, zput_zput, zup_eq, zup_ne, va_up_up, nI_clamp]
      rw [cShift_at (show ¬ k + 462 < k by omega)]
      refine aw_iastore (by first | exact ms1 | exact ms2 | exact ms3 | exact ms4 | exact ms5 | exact ms6 | exact ms7 | exact ms8 | exact ms9 | exact ms10 | exact ms11 | exact ms12) (vp_in_nI (show k < 3696 by omega) (by decide)) dX7_remember_33 ?_
      simp (disch := omega) only [zu_up, zup_in, zup_in0, zput_at, zput_a0, zput_zput, zup_eq, zup_ne, va_up_up, nI_clamp]
      rw [cShift_s]
      refine aw_iinc_1 (v := 1) (by decide) dX7_remember_34 ?_
      refine aw_goto (tgt := 11) dX7_remember_37 (by decide) ?_
      rw [nI_1]
      exact ih (3234 - (k + 1)) (by omega) (k + 1) (by omega) rfl
  refine aw_aload_0 dX7_remember_0 ?_
  refine aw_getI fX7_2 hinX7 (by decide +kernel : Cond.fieldLink RX7 58 RX7 (TX7 2).2.1 (TX7 2).2.2.1 ∈ wsX7_remember) ms0 dX7_remember_1 ?_
  try simp (disch := omega) only [zu_up, zup_in, zup_in0, zput_at, zput_a0, zput_zput, zup_eq, zup_ne, va_up_up, nI_clamp]
  rw [h2]
  refine aw_bipush (v := 8) dX7_remember_4 (by decide) ?_
  refine aw_icmp_ne (tgt := 50) dX7_remember_6 (by decide) (fun c6 => absurd c6 (fun h => h rfl)) (fun c6 => ?_)
  refine aw_iconst (v := 0) dX7_remember_9 (by decide) ?_
  refine aw_istore_1 dX7_remember_10 ?_
  refine aw_cF (F' := zput F μ 13 (va_up G 2 (cShift 0 (G 2)))) (by rw [show cShift 0 (G 2) = G 2 from rfl, va_up_same]) ?_
  exact L11 _ 0 (Nat.zero_le _) rfl

theorem c_X7_remember {sh : zSh} {F : Nat → Nat → Int32} {P : Nat → Nat → Option Nat} {μ p : Nat} {G : Nat → Nat → Int32} (hM : zMd sh P μ) (hG : zVw F μ 13 G) (hp : p ≤ 8) (h2 : G 0 2 = nI p) : zMet yX7_remember wsX7_remember 1 0 0 [.ref μ] sh F P none sh (zput F μ 13 (mRemember G p)) P := by
  unfold mRemember
  rcases Nat.lt_or_ge p 8 with h | h
  · rw [if_neg (by omega)]
    exact c_X7_remember_l hM hG h h2
  · have : p = 8 := by omega
    subst this
    rw [if_pos rfl]
    exact c_X7_remember_8 hM hG h2
def mSwap (G : Nat → Nat → Int32) : Nat → Nat → Int32 := va_up (va_up G 1 (cCopy 462 (G 10) (G 1))) 10 (cCopy 462 (G 1) (G 10))
/-- the end of a making that didn't fail -/
def mDone (G : Nat → Nat → Int32) (p : Nat) : Nat → Nat → Int32 := mRest (mRemember (mSwap G) p)

abbrev mX7_endMaking : ZM := (cX7_endMaking, RX7, wsX7_endMaking, 2, 0, 0, (some .int), 4, yX7_endMaking.name)
set_option maxHeartbeats 1000000 in
set_option maxRecDepth 100000 in
theorem c_X7_endMaking_f {sh : zSh} {F : Nat → Nat → Int32} {P : Nat → Nat → Option Nat} {μ : Nat} {G : Nat → Nat → Int32} (hM : zMd sh P μ) (hG : zVw F μ 13 G) (h : ¬ G 0 16 = 0) : zMet yX7_endMaking wsX7_endMaking (2) (0) (0) [.ref μ] sh F P (some (.int (-3))) sh (zput F μ 13 (mRest G)) P := by
  refine zMet.of (by decide) rfl (Nat.le_of_ble_eq_true rfl) (by simp [Value.category]) ?_
  intro X ρ
  show AW mX7_endMaking X (zMQ mX7_endMaking X (some (.int (-3))) sh (zput F μ 13 (mRest G)) P) 0 [some (.ref μ), none, none, none] [] ρ sh F P 0 0
  have hinX7 : ∀ w ∈ u_ws RX7 TX7 29, w ∈ wsX7_endMaking := by decide +kernel
  obtain ⟨ms0, ⟨mp0, mp1, mp3, mp5, mp9, mp10, mp11, mp12, mp13, mp17, mp21, mp28⟩, ms1, ms2, ms3, ms4, ms5, ms6, ms7, ms8, ms9, ms10, ms11, ms12⟩ := id hM
  refine aw_cF (F' := zput F μ 13 G) (zput_view hG).symm ?_
  refine aw_aload_0 dX7_endMaking_0 ?_
  refine aw_getZ fX7_16 hinX7 (by decide +kernel : Cond.fieldLink RX7 80 RX7 (TX7 16).2.1 (TX7 16).2.2.1 ∈ wsX7_endMaking) ms0 dX7_endMaking_1 ?_
  try simp (disch := omega) only [zu_up, zup_in, zup_in0, zput_at, zput_a0, zput_zput, zup_eq, zup_ne, va_up_up, nI_clamp]
  refine aw_if_eq (tgt := 14) dX7_endMaking_4 (by decide) (fun c4 => absurd c4 h) (fun c4 => ?_)
  refine aw_aload_0 dX7_endMaking_7 ?_
  refine aw_runv (zRun_V (c_X7_restore hM zVw.put) gX7_endMaking_X7_restore q_X7_restore rfl (by decide) rfl ms0 rfl rfl (Nat.le_of_ble_eq_true rfl) dX7_endMaking_8 ⟨Nat.le_refl _, Nat.le_refl _⟩) ?_
  refine aw_bipush (v := (-3)) dX7_endMaking_11 (by decide) ?_
  exact aw_ireturn rfl dX7_endMaking_13 ⟨Nat.zero_le _, Nat.zero_le _⟩ rfl rfl (by rw [zput_zput]) rfl

set_option maxHeartbeats 1000000 in
set_option maxRecDepth 100000 in
theorem c_X7_endMaking_o {sh : zSh} {F : Nat → Nat → Int32} {P : Nat → Nat → Option Nat} {μ : Nat} {G : Nat → Nat → Int32} {p : Nat} (hM : zMd sh P μ) (hG : zVw F μ 13 G) (h : G 0 16 = 0) (hp : p ≤ 8) (h2 : G 0 2 = nI p) : zMet yX7_endMaking wsX7_endMaking (2) (0) (0) [.ref μ] sh F P (some (.int (G 1 460 - G 10 460))) sh (zput F μ 13 (mDone G p)) P := by
  refine zMet.of (by decide) rfl (Nat.le_of_ble_eq_true rfl) (by simp [Value.category]) ?_
  intro X ρ
  show AW mX7_endMaking X (zMQ mX7_endMaking X (some (.int (G 1 460 - G 10 460))) sh (zput F μ 13 (mDone G p)) P) 0 [some (.ref μ), none, none, none] [] ρ sh F P 0 0
  have hinX7 : ∀ w ∈ u_ws RX7 TX7 29, w ∈ wsX7_endMaking := by decide +kernel
  obtain ⟨ms0, ⟨mp0, mp1, mp3, mp5, mp9, mp10, mp11, mp12, mp13, mp17, mp21, mp28⟩, ms1, ms2, ms3, ms4, ms5, ms6, ms7, ms8, ms9, ms10, ms11, ms12⟩ := id hM
  refine aw_cF (F' := zput F μ 13 G) (zput_view hG).symm ?_
  have L34 : ∀ (m k : Nat) (o3 : Option Value), k ≤ 462 → 462 - k = m → AW mX7_endMaking X (zMQ mX7_endMaking X (some (.int (G 1 460 - G 10 460))) sh (zput F μ 13 (mDone G p)) P) 34 [some (.ref μ), some (.int (G 1 460 - G 10 460)), some (.int (nI k)), o3] [] ρ sh (zput F μ 13 (va_up (va_up G 1 (cCopy k (G 10) (G 1))) 10 (cCopy k (G 1) (G 10)))) P 0 0 := by
    intro m
    induction m using Nat.strongRecOn with
    | _ m ih =>
    intro k o3 hk hm
    refine aw_iload_2 dX7_endMaking_34 ?_
    refine aw_sipush (v := 462) dX7_endMaking_35 (by decide) ?_
    refine aw_icmp_ge (tgt := 73) dX7_endMaking_38 (by decide) (fun c38 => ?_) (fun c38 => ?_)
    · rw [zend (n := 462) hk (by decide) c38, show va_up (va_up G 1 (cCopy 462 (G 10) (G 1))) 10 (cCopy 462 (G 1) (G 10)) = mSwap G from rfl]
      refine aw_aload_0 dX7_endMaking_73 ?_
      refine aw_runv (zRun_V (c_X7_remember (p := p) hM zVw.put hp (by unfold mSwap; rw [zup_ne (by decide), zup_ne (by decide)]; exact h2)) gX7_endMaking_X7_remember q_X7_remember rfl (by decide) rfl ms0 rfl rfl (Nat.le_of_ble_eq_true rfl) dX7_endMaking_74 ⟨Nat.le_refl _, Nat.le_refl _⟩) ?_
      rw [zput_zput]
      refine aw_aload_0 dX7_endMaking_77 ?_
      refine aw_runv (zRun_V (c_X7_restore hM zVw.put) gX7_endMaking_X7_restore q_X7_restore rfl (by decide) rfl ms0 rfl rfl (Nat.le_of_ble_eq_true rfl) dX7_endMaking_78 ⟨Nat.le_refl _, Nat.le_refl _⟩) ?_
      rw [zput_zput]
      refine aw_iload_1 dX7_endMaking_81 ?_
      exact aw_ireturn rfl dX7_endMaking_82 ⟨Nat.zero_le _, Nat.zero_le _⟩ (by first | rfl | simp [c38]) rfl rfl rfl
    · have hlt : k < 462 := zlt (n := 462) hk (by decide) c38
      refine aw_aload_0 dX7_endMaking_41 ?_
      refine aw_getR fX7_0 (fun _ _ => rfl) mp0 hinX7 (by decide +kernel : Cond.fieldLink RX7 7 RX7 (TX7 0).2.1 (TX7 0).2.2.1 ∈ wsX7_endMaking) ms0 dX7_endMaking_42 ?_
      refine aw_iload_2 dX7_endMaking_45 ?_
      refine aw_iaload (by first | exact ms1 | exact ms2 | exact ms3 | exact ms4 | exact ms5 | exact ms6 | exact ms7 | exact ms8 | exact ms9 | exact ms10 | exact ms11 | exact ms12) (vp_in_nI hlt (by decide)) dX7_endMaking_46 ?_
      try simp (disch := omega) only [zu_up, zup_in, zup_in0, zput_at, zput_a0, zput_zput, zup_eq, zup_ne, va_up_up, nI_clamp]
      rw [cCopy_at (show ¬ k < k by omega)]
      refine aw_istore_3 dX7_endMaking_47 ?_
      refine aw_aload_0 dX7_endMaking_48 ?_
      refine aw_getR fX7_0 (fun _ _ => rfl) mp0 hinX7 (by decide +kernel : Cond.fieldLink RX7 7 RX7 (TX7 0).2.1 (TX7 0).2.2.1 ∈ wsX7_endMaking) ms0 dX7_endMaking_49 ?_
      refine aw_iload_2 dX7_endMaking_52 ?_
      refine aw_aload_0 dX7_endMaking_53 ?_
      refine aw_getR fX7_17 (fun _ _ => rfl) mp17 hinX7 (by decide +kernel : Cond.fieldLink RX7 44 RX7 (TX7 17).2.1 (TX7 17).2.2.1 ∈ wsX7_endMaking) ms0 dX7_endMaking_54 ?_
      refine aw_iload_2 dX7_endMaking_57 ?_
      refine aw_iaload (by first | exact ms1 | exact ms2 | exact ms3 | exact ms4 | exact ms5 | exact ms6 | exact ms7 | exact ms8 | exact ms9 | exact ms10 | exact ms11 | exact ms12) (vp_in_nI hlt (by decide)) dX7_endMaking_58 ?_
      try simp (disch := omega) only [zu_up, zup_in, zup_in0, zput_at, zput_a0, zput_zput, zup_eq, zup_ne, va_up_up, nI_clamp]
      rw [cCopy_at (show ¬ k < k by omega)]
      refine aw_iastore (by first | exact ms1 | exact ms2 | exact ms3 | exact ms4 | exact ms5 | exact ms6 | exact ms7 | exact ms8 | exact ms9 | exact ms10 | exact ms11 | exact ms12) (vp_in_nI hlt (by decide)) dX7_endMaking_59 ?_
      simp (disch := omega) only [zu_up, zup_in, zup_in0, zput_at, zput_a0, zput_zput, zup_eq, zup_ne, va_up_up, nI_clamp]
      rw [cCopy_s]
      refine aw_aload_0 dX7_endMaking_60 ?_
      refine aw_getR fX7_17 (fun _ _ => rfl) mp17 hinX7 (by decide +kernel : Cond.fieldLink RX7 44 RX7 (TX7 17).2.1 (TX7 17).2.2.1 ∈ wsX7_endMaking) ms0 dX7_endMaking_61 ?_
      refine aw_iload_2 dX7_endMaking_64 ?_
      refine aw_iload_3 dX7_endMaking_65 ?_
      refine aw_iastore (by first | exact ms1 | exact ms2 | exact ms3 | exact ms4 | exact ms5 | exact ms6 | exact ms7 | exact ms8 | exact ms9 | exact ms10 | exact ms11 | exact ms12) (vp_in_nI hlt (by decide)) dX7_endMaking_66 ?_
      refine aw_iinc_2 (v := 1) (by decide) dX7_endMaking_67 ?_
      refine aw_goto (tgt := 34) dX7_endMaking_70 (by decide) ?_
      rw [nI_1]
      refine aw_cF ?_ (ih (462 - (k + 1)) (by omega) (k + 1) _ (by omega) rfl)
      rw [← cCopy_s (f := G 1), ← cCopy_s (f := G 10)]
      simp (disch := omega) only [zu_up, zup_in, zup_in0, zput_at, zput_a0, zput_zput, zup_eq, zup_ne, va_up_up, nI_clamp]
      rw [zup_comm (show (10 : Nat) ≠ 1 by decide)]
      simp (disch := omega) only [zu_up, zup_in, zup_in0, zput_at, zput_a0, zput_zput, zup_eq, zup_ne, va_up_up, nI_clamp]
  refine aw_aload_0 dX7_endMaking_0 ?_
  refine aw_getZ fX7_16 hinX7 (by decide +kernel : Cond.fieldLink RX7 80 RX7 (TX7 16).2.1 (TX7 16).2.2.1 ∈ wsX7_endMaking) ms0 dX7_endMaking_1 ?_
  try simp (disch := omega) only [zu_up, zup_in, zup_in0, zput_at, zput_a0, zput_zput, zup_eq, zup_ne, va_up_up, nI_clamp]
  refine aw_if_eq (tgt := 14) dX7_endMaking_4 (by decide) (fun c4 => ?_) (fun c4 => absurd h c4)
  refine aw_aload_0 dX7_endMaking_14 ?_
  refine aw_getR fX7_0 (fun _ _ => rfl) mp0 hinX7 (by decide +kernel : Cond.fieldLink RX7 7 RX7 (TX7 0).2.1 (TX7 0).2.2.1 ∈ wsX7_endMaking) ms0 dX7_endMaking_15 ?_
  refine aw_sipush (v := 460) dX7_endMaking_18 (by decide) ?_
  refine aw_iaload (by first | exact ms1 | exact ms2 | exact ms3 | exact ms4 | exact ms5 | exact ms6 | exact ms7 | exact ms8 | exact ms9 | exact ms10 | exact ms11 | exact ms12) (show vp_in (nI 460) 462 from vp_in_nI (by decide) (by decide)) dX7_endMaking_21 ?_
  rw [show (460 : Int32).toNatClampNeg = 460 from by decide]
  try simp (disch := omega) only [zu_up, zup_in, zup_in0, zput_at, zput_a0, zput_zput, zup_eq, zup_ne, va_up_up, nI_clamp]
  refine aw_aload_0 dX7_endMaking_22 ?_
  refine aw_getR fX7_17 (fun _ _ => rfl) mp17 hinX7 (by decide +kernel : Cond.fieldLink RX7 44 RX7 (TX7 17).2.1 (TX7 17).2.2.1 ∈ wsX7_endMaking) ms0 dX7_endMaking_23 ?_
  refine aw_sipush (v := 460) dX7_endMaking_26 (by decide) ?_
  refine aw_iaload (by first | exact ms1 | exact ms2 | exact ms3 | exact ms4 | exact ms5 | exact ms6 | exact ms7 | exact ms8 | exact ms9 | exact ms10 | exact ms11 | exact ms12) (show vp_in (nI 460) 462 from vp_in_nI (by decide) (by decide)) dX7_endMaking_29 ?_
  rw [show (460 : Int32).toNatClampNeg = 460 from by decide]
  try simp (disch := omega) only [zu_up, zup_in, zup_in0, zput_at, zput_a0, zput_zput, zup_eq, zup_ne, va_up_up, nI_clamp]
  refine aw_isub dX7_endMaking_30 ?_
  refine aw_istore_1 dX7_endMaking_31 ?_
  refine aw_iconst (v := 0) dX7_endMaking_32 (by decide) ?_
  refine aw_istore_2 dX7_endMaking_33 ?_
  refine aw_cF (F' := zput F μ 13 (va_up (va_up G 1 (cCopy 0 (G 10) (G 1))) 10 (cCopy 0 (G 1) (G 10)))) (by rw [cCopy_0, cCopy_0, va_up_same, va_up_same]) ?_
  exact L34 _ 0 _ (Nat.zero_le _) rfl
