/-! ===== 62.md14: isNeeded, allow, forbid of the model ===== -/
theorem mNdR_s {w H : Nat → Int32} {k : Nat} : mNdR w H (k + 1) = if mNdR w H k k = 0 then mNdR w H k else mRch w k (mNdR w H k) := rfl
theorem mNd_s {w H : Nat → Int32} {u k : Nat} : mNd w H u (k + 1) = mNdR w (mNd w H u k) 20 := by
  unfold mNd
  rw [it_s]
theorem mNd_0 {w H : Nat → Int32} {u : Nat} : mNd w H u 0 = mRch w u (cFill 20 0 H) := by
  unfold mNd
  rw [it_zero]
theorem mNdR_0 {w H : Nat → Int32} : mNdR w H 0 = H := rfl
def mHas (w : Nat → Int32) (t : Nat) (v : Int32) : Nat → Bool := anyLt (fun k => w (23 * t + (20 + k)) == v)
def mAdd (w : Nat → Int32) (t c : Nat) (v : Int32) : Nat → Int32 := upd (upd w (23 * t + (20 + c)) v) (23 * t + 19) (nI (c + 1))
def mRemS (t j : Nat) (i : Nat) (w : Nat → Int32) : Nat → Int32 := upd w (23 * t + (20 + (j + i))) (w (23 * t + (20 + (j + i) + 1)))
def mRem1 (w : Nat → Int32) (t c j : Nat) : Nat → Int32 := upd (it (mRemS t j) (c - 1 - j) w) (23 * t + 19) (nI (c - 1))

abbrev mX7_isNeeded : ZM := (cX7_isNeeded, RX7, wsX7_isNeeded, 4, 0, 0, (some .int), 5, yX7_isNeeded.name)
set_option maxHeartbeats 1000000 in
set_option maxRecDepth 100000 in
theorem c_X7_isNeeded_b {sh : zSh} {F : Nat → Nat → Int32} {P : Nat → Nat → Option Nat} {μ : Nat} {G : Nat → Nat → Int32} {t u : Int32} (hM : zMd sh P μ) (hG : zVw F μ 13 G) (h : mIn t 0 19 = 0 ∨ mIn u 0 19 = 0) : zMet yX7_isNeeded wsX7_isNeeded (4) (0) (0) [.ref μ, .int t, .int u] sh F P (some (.int (-1))) sh F P := by
  refine zMet.of (by decide) rfl (Nat.le_of_ble_eq_true rfl) (by simp [Value.category]) ?_
  intro X ρ
  show AW mX7_isNeeded X (zMQ mX7_isNeeded X (some (.int (-1))) sh F P) 0 [some (.ref μ), some (.int t), some (.int u), none, none] [] ρ sh F P 0 0
  have hinX7 : ∀ w ∈ u_ws RX7 TX7 29, w ∈ wsX7_isNeeded := by decide +kernel
  obtain ⟨ms0, ⟨mp0, mp1, mp3, mp5, mp9, mp10, mp11, mp12, mp13, mp17, mp21, mp28⟩, ms1, ms2, ms3, ms4, ms5, ms6, ms7, ms8, ms9, ms10, ms11, ms12⟩ := id hM
  refine aw_cF (F' := zput F μ 13 G) (zput_view hG).symm ?_
  refine aw_iload_1 dX7_isNeeded_0 ?_
  refine aw_run (zRun_S (c_X7_isThing ) (Or.inl gX7_isNeeded_X7_isThing) q_X7_isThing (by decide) rfl rfl (Nat.le_of_ble_eq_true rfl) dX7_isNeeded_1 ⟨Nat.le_refl _, Nat.le_refl _⟩) ?_
  refine aw_if_eq (tgt := 14) dX7_isNeeded_4 (by decide) (fun c4 => ?_) (fun c4 => ?_)
  · refine aw_iconst (v := (-1)) dX7_isNeeded_14 (by decide) ?_
    exact aw_ireturn rfl dX7_isNeeded_15 ⟨Nat.zero_le _, Nat.zero_le _⟩ (by first | rfl | simp [c4]) rfl (zput_view hG) rfl
  · refine aw_iload_2 dX7_isNeeded_7 ?_
    refine aw_run (zRun_S (c_X7_isThing ) (Or.inl gX7_isNeeded_X7_isThing) q_X7_isThing (by decide) rfl rfl (Nat.le_of_ble_eq_true rfl) dX7_isNeeded_8 ⟨Nat.le_refl _, Nat.le_refl _⟩) ?_
    refine aw_if_ne (tgt := 16) dX7_isNeeded_11 (by decide) (fun c11 => ?_) (fun c11 => ?_)
    · exact absurd h (by simp [c4, c11])
    · refine aw_iconst (v := (-1)) dX7_isNeeded_14 (by decide) ?_
      exact aw_ireturn rfl dX7_isNeeded_15 ⟨Nat.zero_le _, Nat.zero_le _⟩ (by first | rfl | simp [c4, c11]) rfl (zput_view hG) rfl

set_option maxHeartbeats 1000000 in
set_option maxRecDepth 100000 in
theorem c_X7_isNeeded_o {sh : zSh} {F : Nat → Nat → Int32} {P : Nat → Nat → Option Nat} {μ : Nat} {G : Nat → Nat → Int32} {t u : Nat} {K : Nat → Int32} (hM : zMd sh P μ) (hG : zVw F μ 13 G) (ht : t < 20) (hu : u < 20) (hok : mOk (G 1)) (eK : zBox (mNd (G 1) (G 12) u 20 = K)) : zMet yX7_isNeeded wsX7_isNeeded (4) (0) (0) [.ref μ, .int (nI t), .int (nI u)] sh F P (some (.int (if K t = 0 then 0 else if t = u then 0 else 1))) sh (zput F μ 13 (va_up G 12 K)) P := by
  refine zMet.of (by decide) rfl (Nat.le_of_ble_eq_true rfl) (by simp [Value.category]) ?_
  intro X ρ
  show AW mX7_isNeeded X (zMQ mX7_isNeeded X (some (.int (if K t = 0 then 0 else if t = u then 0 else 1))) sh (zput F μ 13 (va_up G 12 K)) P) 0 [some (.ref μ), some (.int (nI t)), some (.int (nI u)), none, none] [] ρ sh F P 0 0
  have hinX7 : ∀ w ∈ u_ws RX7 TX7 29, w ∈ wsX7_isNeeded := by decide +kernel
  obtain ⟨ms0, ⟨mp0, mp1, mp3, mp5, mp9, mp10, mp11, mp12, mp13, mp17, mp21, mp28⟩, ms1, ms2, ms3, ms4, ms5, ms6, ms7, ms8, ms9, ms10, ms11, ms12⟩ := id hM
  refine aw_cF (F' := zput F μ 13 G) (zput_view hG).symm ?_
  have L53 : ∀ (m k r : Nat) (H K1 : Nat → Int32), zBox (K1 = mNdR (G 1) H k) → k ≤ 20 → 20 - k = m → (∀ (o4 : Option Value) (K2 : Nat → Int32), zBox (K2 = mNdR (G 1) H 20) → AW mX7_isNeeded X (zMQ mX7_isNeeded X (some (.int (if K t = 0 then 0 else if t = u then 0 else 1))) sh (zput F μ 13 (va_up G 12 K)) P) 82 [some (.ref μ), some (.int (nI t)), some (.int (nI u)), some (.int (nI r)), o4] [] ρ sh (zput F μ 13 (va_up G 12 K2)) P 0 0) → AW mX7_isNeeded X (zMQ mX7_isNeeded X (some (.int (if K t = 0 then 0 else if t = u then 0 else 1))) sh (zput F μ 13 (va_up G 12 K)) P) 53 [some (.ref μ), some (.int (nI t)), some (.int (nI u)), some (.int (nI r)), some (.int (nI k))] [] ρ sh (zput F μ 13 (va_up G 12 K1)) P 0 0 := by
    intro m
    induction m using Nat.strongRecOn with
    | _ m ih =>
    intro k r H K1 hK hk hm hc
    refine aw_iload_4 dX7_isNeeded_53 ?_
    refine aw_bipush (v := 20) dX7_isNeeded_55 (by decide) ?_
    refine aw_icmp_ge (tgt := 82) dX7_isNeeded_57 (by decide) (fun c57 => ?_) (fun c57 => ?_)
    · have hk20 := zend (n := 20) hk (by decide) c57
      subst hk20
      exact hc _ _ hK
    · have hlt : k < 20 := zlt (n := 20) hk (by decide) c57
      refine aw_aload_0 dX7_isNeeded_60 ?_
      refine aw_getR fX7_28 (fun _ _ => rfl) mp28 hinX7 (by decide +kernel : Cond.fieldLink RX7 50 RX7 (TX7 28).2.1 (TX7 28).2.2.1 ∈ wsX7_isNeeded) ms0 dX7_isNeeded_61 ?_
      refine aw_iload_4 dX7_isNeeded_64 ?_
      refine aw_zaload (by first | exact ms1 | exact ms2 | exact ms3 | exact ms4 | exact ms5 | exact ms6 | exact ms7 | exact ms8 | exact ms9 | exact ms10 | exact ms11 | exact ms12) (vp_in_nI hlt (by decide)) dX7_isNeeded_66 ?_
      try simp (disch := omega) only [zu_up, zup_in, zup_in0, zput_at, zput_a0, zput_zput, zup_eq, zup_ne, va_up_up, nI_clamp]
      refine aw_if_eq (tgt := 76) dX7_isNeeded_67 (by decide) (fun c67 => ?_) (fun c67 => ?_)
      · refine aw_iinc_4 (v := 1) (by decide) dX7_isNeeded_76 ?_
        refine aw_goto (tgt := 53) dX7_isNeeded_79 (by decide) ?_
        rw [nI_1]
        exact ih (20 - (k + 1)) (by omega) (k + 1) r H _ (zBox.mk (by rw [mNdR_s, ← hK.out, if_pos c67])) (by omega) rfl hc
      · refine aw_aload_0 dX7_isNeeded_70 ?_
        refine aw_iload_4 dX7_isNeeded_71 ?_
        refine aw_runv (zRun_V (c_X7_reach (t := k) hM zVw.put hlt (by rw [zup_ne (by decide)]; exact hok)) gX7_isNeeded_X7_reach q_X7_reach rfl (by decide) rfl ms0 rfl rfl (Nat.le_of_ble_eq_true rfl) dX7_isNeeded_73 ⟨Nat.le_refl _, Nat.le_refl _⟩) ?_
        refine aw_iinc_4 (v := 1) (by decide) dX7_isNeeded_76 ?_
        refine aw_goto (tgt := 53) dX7_isNeeded_79 (by decide) ?_
        rw [nI_1]
        rw [zput_zput, zup_ne (show 1 ≠ 12 by decide), zup_eq, va_up_up]
        exact ih (20 - (k + 1)) (by omega) (k + 1) r H _ (zBox.mk (by rw [mNdR_s, ← hK.out, if_neg c67])) (by omega) rfl hc
  have L44 : ∀ (m r : Nat) (o4 : Option Value) (K1 : Nat → Int32), zBox (K1 = mNd (G 1) (G 12) u r) → r ≤ 20 → 20 - r = m → AW mX7_isNeeded X (zMQ mX7_isNeeded X (some (.int (if K t = 0 then 0 else if t = u then 0 else 1))) sh (zput F μ 13 (va_up G 12 K)) P) 44 [some (.ref μ), some (.int (nI t)), some (.int (nI u)), some (.int (nI r)), o4] [] ρ sh (zput F μ 13 (va_up G 12 K1)) P 0 0 := by
    intro m
    induction m using Nat.strongRecOn with
    | _ m ih =>
    intro r o4 K1 hK1 hr hm
    refine aw_iload_3 dX7_isNeeded_44 ?_
    refine aw_bipush (v := 20) dX7_isNeeded_45 (by decide) ?_
    refine aw_icmp_ge (tgt := 88) dX7_isNeeded_47 (by decide) (fun c47 => ?_) (fun c47 => ?_)
    · have hr20 := zend (n := 20) hr (by decide) c47
      subst hr20
      have eK1 := hK1.out.trans eK.out
      subst eK1
      refine aw_aload_0 dX7_isNeeded_88 ?_
      refine aw_getR fX7_28 (fun _ _ => rfl) mp28 hinX7 (by decide +kernel : Cond.fieldLink RX7 50 RX7 (TX7 28).2.1 (TX7 28).2.2.1 ∈ wsX7_isNeeded) ms0 dX7_isNeeded_89 ?_
      refine aw_iload_1 dX7_isNeeded_92 ?_
      refine aw_zaload (by first | exact ms1 | exact ms2 | exact ms3 | exact ms4 | exact ms5 | exact ms6 | exact ms7 | exact ms8 | exact ms9 | exact ms10 | exact ms11 | exact ms12) (vp_in_nI ht (by decide)) dX7_isNeeded_93 ?_
      try simp (disch := omega) only [zu_up, zup_in, zup_in0, zput_at, zput_a0, zput_zput, zup_eq, zup_ne, va_up_up, nI_clamp]
      refine aw_if_eq (tgt := 106) dX7_isNeeded_94 (by decide) (fun c94 => ?_) (fun c94 => ?_)
      · refine aw_iconst (v := 0) dX7_isNeeded_106 (by decide) ?_
        exact aw_ireturn rfl dX7_isNeeded_107 ⟨Nat.zero_le _, Nat.zero_le _⟩ (by first | rw [if_pos c94] | rw [if_neg c94, if_pos ((nI_eq (by omega) (by omega)).mp c99)] | rw [if_neg c94, if_neg (fun e => c99 (by rw [e]))]) rfl rfl rfl
      · refine aw_iload_1 dX7_isNeeded_97 ?_
        refine aw_iload_2 dX7_isNeeded_98 ?_
        refine aw_icmp_eq (tgt := 106) dX7_isNeeded_99 (by decide) (fun c99 => ?_) (fun c99 => ?_)
        · refine aw_iconst (v := 0) dX7_isNeeded_106 (by decide) ?_
          exact aw_ireturn rfl dX7_isNeeded_107 ⟨Nat.zero_le _, Nat.zero_le _⟩ (by first | rw [if_pos c94] | rw [if_neg c94, if_pos ((nI_eq (by omega) (by omega)).mp c99)] | rw [if_neg c94, if_neg (fun e => c99 (by rw [e]))]) rfl rfl rfl
        · refine aw_iconst (v := 1) dX7_isNeeded_102 (by decide) ?_
          refine aw_goto (tgt := 107) dX7_isNeeded_103 (by decide) ?_
          exact aw_ireturn rfl dX7_isNeeded_107 ⟨Nat.zero_le _, Nat.zero_le _⟩ (by first | rw [if_pos c94] | rw [if_neg c94, if_pos ((nI_eq (by omega) (by omega)).mp c99)] | rw [if_neg c94, if_neg (fun e => c99 (by rw [e]))]) rfl rfl rfl
    · have hl20 : r < 20 := zlt (n := 20) hr (by decide) c47
      refine aw_iconst (v := 0) dX7_isNeeded_50 (by decide) ?_
      refine aw_istore_4 dX7_isNeeded_51 ?_
      refine L53 _ 0 r K1 K1 (zBox.mk mNdR_0.symm) (Nat.zero_le _) rfl (fun o4 K2 hK2 => ?_)
      refine aw_iinc_3 (v := 1) (by decide) dX7_isNeeded_82 ?_
      refine aw_goto (tgt := 44) dX7_isNeeded_85 (by decide) ?_
      rw [nI_1]
      exact ih (20 - (r + 1)) (by omega) (r + 1) _ K2 (zBox.mk (by rw [mNd_s, ← hK1.out]; exact hK2.out)) (by omega) rfl
  have L18 : ∀ (m k : Nat) (o4 : Option Value), k ≤ 20 → 20 - k = m → AW mX7_isNeeded X (zMQ mX7_isNeeded X (some (.int (if K t = 0 then 0 else if t = u then 0 else 1))) sh (zput F μ 13 (va_up G 12 K)) P) 18 [some (.ref μ), some (.int (nI t)), some (.int (nI u)), some (.int (nI k)), o4] [] ρ sh (zput F μ 13 (va_up G 12 (cFill k 0 (G 12)))) P 0 0 := by
    intro m
    induction m using Nat.strongRecOn with
    | _ m ih =>
    intro k o4 hk hm
    refine aw_iload_3 dX7_isNeeded_18 ?_
    refine aw_bipush (v := 20) dX7_isNeeded_19 (by decide) ?_
    refine aw_icmp_ge (tgt := 37) dX7_isNeeded_21 (by decide) (fun c21 => ?_) (fun c21 => ?_)
    · refine aw_aload_0 dX7_isNeeded_37 ?_
      refine aw_iload_2 dX7_isNeeded_38 ?_
      refine aw_runv (zRun_V (c_X7_reach (t := u) hM zVw.put hu (by rw [zup_ne (by decide)]; exact hok)) gX7_isNeeded_X7_reach q_X7_reach rfl (by decide) rfl ms0 rfl rfl (Nat.le_of_ble_eq_true rfl) dX7_isNeeded_39 ⟨Nat.le_refl _, Nat.le_refl _⟩) ?_
      refine aw_iconst (v := 0) dX7_isNeeded_42 (by decide) ?_
      refine aw_istore_3 dX7_isNeeded_43 ?_
      rw [zput_zput, zup_ne (show 1 ≠ 12 by decide), zup_eq, va_up_up, zend (n := 20) hk (by decide) c21]
      exact L44 _ 0 _ _ (zBox.mk mNd_0.symm) (Nat.zero_le _) rfl
    · have hlt : k < 20 := zlt (n := 20) hk (by decide) c21
      refine aw_aload_0 dX7_isNeeded_24 ?_
      refine aw_getR fX7_28 (fun _ _ => rfl) mp28 hinX7 (by decide +kernel : Cond.fieldLink RX7 50 RX7 (TX7 28).2.1 (TX7 28).2.2.1 ∈ wsX7_isNeeded) ms0 dX7_isNeeded_25 ?_
      refine aw_iload_3 dX7_isNeeded_28 ?_
      refine aw_iconst (v := 0) dX7_isNeeded_29 (by decide) ?_
      refine aw_zastore (by decide) (by first | exact ms1 | exact ms2 | exact ms3 | exact ms4 | exact ms5 | exact ms6 | exact ms7 | exact ms8 | exact ms9 | exact ms10 | exact ms11 | exact ms12) (vp_in_nI hlt (by decide)) dX7_isNeeded_30 ?_
      simp (disch := omega) only [zu_up, zup_in, zup_in0, zput_at, zput_a0, zput_zput, zup_eq, zup_ne, va_up_up, nI_clamp]
      rw [cFill_s]
      refine aw_iinc_3 (v := 1) (by decide) dX7_isNeeded_31 ?_
      refine aw_goto (tgt := 18) dX7_isNeeded_34 (by decide) ?_
      rw [nI_1]
      exact ih (20 - (k + 1)) (by omega) (k + 1) _ (by omega) rfl
  refine aw_iload_1 dX7_isNeeded_0 ?_
  refine aw_run (zRun_S (c_X7_isThing ) (Or.inl gX7_isNeeded_X7_isThing) q_X7_isThing (by decide) rfl rfl (Nat.le_of_ble_eq_true rfl) dX7_isNeeded_1 ⟨Nat.le_refl _, Nat.le_refl _⟩) ?_
  refine aw_if_eq (tgt := 14) dX7_isNeeded_4 (by decide) (fun c4 => absurd c4 (mIn_20 ht)) (fun c4 => ?_)
  refine aw_iload_2 dX7_isNeeded_7 ?_
  refine aw_run (zRun_S (c_X7_isThing ) (Or.inl gX7_isNeeded_X7_isThing) q_X7_isThing (by decide) rfl rfl (Nat.le_of_ble_eq_true rfl) dX7_isNeeded_8 ⟨Nat.le_refl _, Nat.le_refl _⟩) ?_
  refine aw_if_ne (tgt := 16) dX7_isNeeded_11 (by decide) (fun c11 => ?_) (fun c11 => absurd c11 (mIn_20 hu))
  refine aw_iconst (v := 0) dX7_isNeeded_16 (by decide) ?_
  refine aw_istore_3 dX7_isNeeded_17 ?_
  refine aw_cF (F' := zput F μ 13 (va_up G 12 (cFill 0 0 (G 12)))) (by rw [show cFill 0 0 (G 12) = G 12 from rfl, va_up_same]) ?_
  exact L18 _ 0 _ (Nat.zero_le _) rfl

abbrev mX7_allow : ZM := (cX7_allow, RX7, wsX7_allow, 5, 0, 0, (some .int), 5, yX7_allow.name)
set_option maxHeartbeats 1000000 in
set_option maxRecDepth 100000 in
theorem c_X7_allow_b {sh : zSh} {F : Nat → Nat → Int32} {P : Nat → Nat → Option Nat} {μ : Nat} {G : Nat → Nat → Int32} {t u : Int32} (hM : zMd sh P μ) (hG : zVw F μ 13 G) (h : mIn t 0 19 = 0 ∨ mIn u 0 19 = 0 ∨ t = u) : zMet yX7_allow wsX7_allow (5) (0) (0) [.ref μ, .int t, .int u] sh F P (some (.int (-1))) sh F P := by
  refine zMet.of (by decide) rfl (Nat.le_of_ble_eq_true rfl) (by simp [Value.category]) ?_
  intro X ρ
  show AW mX7_allow X (zMQ mX7_allow X (some (.int (-1))) sh F P) 0 [some (.ref μ), some (.int t), some (.int u), none, none] [] ρ sh F P 0 0
  have hinX7 : ∀ w ∈ u_ws RX7 TX7 29, w ∈ wsX7_allow := by decide +kernel
  obtain ⟨ms0, ⟨mp0, mp1, mp3, mp5, mp9, mp10, mp11, mp12, mp13, mp17, mp21, mp28⟩, ms1, ms2, ms3, ms4, ms5, ms6, ms7, ms8, ms9, ms10, ms11, ms12⟩ := id hM
  refine aw_cF (F' := zput F μ 13 G) (zput_view hG).symm ?_
  refine aw_iload_1 dX7_allow_0 ?_
  refine aw_run (zRun_S (c_X7_isThing ) (Or.inl gX7_allow_X7_isThing) q_X7_isThing (by decide) rfl rfl (Nat.le_of_ble_eq_true rfl) dX7_allow_1 ⟨Nat.le_refl _, Nat.le_refl _⟩) ?_
  refine aw_if_eq (tgt := 19) dX7_allow_4 (by decide) (fun c4 => ?_) (fun c4 => ?_)
  · refine aw_iconst (v := (-1)) dX7_allow_19 (by decide) ?_
    exact aw_ireturn rfl dX7_allow_20 ⟨Nat.zero_le _, Nat.zero_le _⟩ (by first | rfl | simp [c4]) rfl (zput_view hG) rfl
  · refine aw_iload_2 dX7_allow_7 ?_
    refine aw_run (zRun_S (c_X7_isThing ) (Or.inl gX7_allow_X7_isThing) q_X7_isThing (by decide) rfl rfl (Nat.le_of_ble_eq_true rfl) dX7_allow_8 ⟨Nat.le_refl _, Nat.le_refl _⟩) ?_
    refine aw_if_eq (tgt := 19) dX7_allow_11 (by decide) (fun c11 => ?_) (fun c11 => ?_)
    · refine aw_iconst (v := (-1)) dX7_allow_19 (by decide) ?_
      exact aw_ireturn rfl dX7_allow_20 ⟨Nat.zero_le _, Nat.zero_le _⟩ (by first | rfl | simp [c4, c11]) rfl (zput_view hG) rfl
    · refine aw_iload_1 dX7_allow_14 ?_
      refine aw_iload_2 dX7_allow_15 ?_
      refine aw_icmp_ne (tgt := 21) dX7_allow_16 (by decide) (fun c16 => ?_) (fun c16 => ?_)
      · exact absurd h (by simp [c4, c11, c16])
      · refine aw_iconst (v := (-1)) dX7_allow_19 (by decide) ?_
        exact aw_ireturn rfl dX7_allow_20 ⟨Nat.zero_le _, Nat.zero_le _⟩ (by first | rfl | simp [c4, c11, c16]) rfl (zput_view hG) rfl

set_option maxHeartbeats 1000000 in
set_option maxRecDepth 100000 in
theorem c_X7_allow_h {sh : zSh} {F : Nat → Nat → Int32} {P : Nat → Nat → Option Nat} {μ : Nat} {G : Nat → Nat → Int32} {t u c : Nat} (hM : zMd sh P μ) (hG : zVw F μ 13 G) (ht : t < 20) (hu : u < 20) (hn : ¬ nI t = nI u) (hc3 : c ≤ 3) (hc : G 1 (23 * t + 19) = nI c) (hh : mHas (G 1) t (nI u) c = true) : zMet yX7_allow wsX7_allow (5) (0) (0) [.ref μ, .int (nI t), .int (nI u)] sh F P (some (.int (-2))) sh F P := by
  refine zMet.of (by decide) rfl (Nat.le_of_ble_eq_true rfl) (by simp [Value.category]) ?_
  intro X ρ
  show AW mX7_allow X (zMQ mX7_allow X (some (.int (-2))) sh F P) 0 [some (.ref μ), some (.int (nI t)), some (.int (nI u)), none, none] [] ρ sh F P 0 0
  have hinX7 : ∀ w ∈ u_ws RX7 TX7 29, w ∈ wsX7_allow := by decide +kernel
  obtain ⟨ms0, ⟨mp0, mp1, mp3, mp5, mp9, mp10, mp11, mp12, mp13, mp17, mp21, mp28⟩, ms1, ms2, ms3, ms4, ms5, ms6, ms7, ms8, ms9, ms10, ms11, ms12⟩ := id hM
  refine aw_cF (F' := zput F μ 13 G) (zput_view hG).symm ?_
  have L32 : ∀ (m k : Nat), k ≤ c → c - k = m → mHas (G 1) t (nI u) k = false → AW mX7_allow X (zMQ mX7_allow X (some (.int (-2))) sh F P) 32 [some (.ref μ), some (.int (nI t)), some (.int (nI u)), some (.int (nI c)), some (.int (nI k))] [] ρ sh (zput F μ 13 G) P 0 0 := by
    intro m
    induction m using Nat.strongRecOn with
    | _ m ih =>
    intro k hk hm hno
    refine aw_iload_4 dX7_allow_32 ?_
    refine aw_iload_3 dX7_allow_34 ?_
    refine aw_icmp_ge (tgt := 61) dX7_allow_35 (by decide) (fun c35 => ?_) (fun c35 => ?_)
    · rw [zend hk (by omega) c35] at hno
      exact absurd (hno.symm.trans hh) (by decide)
    · have hlt : k < c := zlt hk (by omega) c35
      refine aw_aload_0 dX7_allow_38 ?_
      refine aw_iload_1 dX7_allow_39 ?_
      refine aw_bipush (v := 20) dX7_allow_40 (by decide) ?_
      refine aw_iload_4 dX7_allow_42 ?_
      refine aw_iadd dX7_allow_44 ?_
      rw [m20]
      refine aw_run (zRun_V (c_X7_of (t := t) (k := 20 + k) hM zVw.put (by omega)) gX7_allow_X7_of q_X7_of rfl (by decide) rfl ms0 rfl rfl (Nat.le_of_ble_eq_true rfl) dX7_allow_45 ⟨Nat.le_refl _, Nat.le_refl _⟩) ?_
      refine aw_iload_2 dX7_allow_48 ?_
      refine aw_icmp_ne (tgt := 55) dX7_allow_49 (by decide) (fun c49 => ?_) (fun c49 => ?_)
      · refine aw_iinc_4 (v := 1) (by decide) dX7_allow_55 ?_
        refine aw_goto (tgt := 32) dX7_allow_58 (by decide) ?_
        rw [nI_1]
        exact ih (c - (k + 1)) (by omega) (k + 1) (by omega) rfl (by unfold mHas at hno ⊢; simp [anyLt, hno, c49])
      · refine aw_bipush (v := (-2)) dX7_allow_52 (by decide) ?_
        exact aw_ireturn rfl dX7_allow_54 ⟨Nat.zero_le _, Nat.zero_le _⟩ rfl rfl (zput_view hG) rfl
  refine aw_iload_1 dX7_allow_0 ?_
  refine aw_run (zRun_S (c_X7_isThing ) (Or.inl gX7_allow_X7_isThing) q_X7_isThing (by decide) rfl rfl (Nat.le_of_ble_eq_true rfl) dX7_allow_1 ⟨Nat.le_refl _, Nat.le_refl _⟩) ?_
  refine aw_if_eq (tgt := 19) dX7_allow_4 (by decide) (fun c4 => absurd c4 (mIn_20 ht)) (fun c4 => ?_)
  refine aw_iload_2 dX7_allow_7 ?_
  refine aw_run (zRun_S (c_X7_isThing ) (Or.inl gX7_allow_X7_isThing) q_X7_isThing (by decide) rfl rfl (Nat.le_of_ble_eq_true rfl) dX7_allow_8 ⟨Nat.le_refl _, Nat.le_refl _⟩) ?_
  refine aw_if_eq (tgt := 19) dX7_allow_11 (by decide) (fun c11 => absurd c11 (mIn_20 hu)) (fun c11 => ?_)
  refine aw_iload_1 dX7_allow_14 ?_
  refine aw_iload_2 dX7_allow_15 ?_
  refine aw_icmp_ne (tgt := 21) dX7_allow_16 (by decide) (fun c16 => ?_) (fun c16 => absurd c16 hn)
  refine aw_aload_0 dX7_allow_21 ?_
  refine aw_iload_1 dX7_allow_22 ?_
  refine aw_bipush (v := 19) dX7_allow_23 (by decide) ?_
  refine aw_run (zRun_V (c_X7_of (t := t) (k := 19) hM zVw.put (by omega)) gX7_allow_X7_of q_X7_of rfl (by decide) rfl ms0 rfl rfl (Nat.le_of_ble_eq_true rfl) dX7_allow_25 ⟨Nat.le_refl _, Nat.le_refl _⟩) ?_
  rw [hc]
  refine aw_istore_3 dX7_allow_28 ?_
  refine aw_iconst (v := 0) dX7_allow_29 (by decide) ?_
  refine aw_istore_4 dX7_allow_30 ?_
  exact L32 _ 0 (Nat.zero_le _) rfl rfl

set_option maxHeartbeats 1000000 in
set_option maxRecDepth 100000 in
theorem c_X7_allow_f {sh : zSh} {F : Nat → Nat → Int32} {P : Nat → Nat → Option Nat} {μ : Nat} {G : Nat → Nat → Int32} {t u c : Nat} (hM : zMd sh P μ) (hG : zVw F μ 13 G) (ht : t < 20) (hu : u < 20) (hn : ¬ nI t = nI u) (hc3 : c ≤ 3) (hc : G 1 (23 * t + 19) = nI c) (hh : mHas (G 1) t (nI u) c = false) (h3 : c = 3) : zMet yX7_allow wsX7_allow (5) (0) (0) [.ref μ, .int (nI t), .int (nI u)] sh F P (some (.int (-3))) sh F P := by
  refine zMet.of (by decide) rfl (Nat.le_of_ble_eq_true rfl) (by simp [Value.category]) ?_
  intro X ρ
  show AW mX7_allow X (zMQ mX7_allow X (some (.int (-3))) sh F P) 0 [some (.ref μ), some (.int (nI t)), some (.int (nI u)), none, none] [] ρ sh F P 0 0
  have hinX7 : ∀ w ∈ u_ws RX7 TX7 29, w ∈ wsX7_allow := by decide +kernel
  obtain ⟨ms0, ⟨mp0, mp1, mp3, mp5, mp9, mp10, mp11, mp12, mp13, mp17, mp21, mp28⟩, ms1, ms2, ms3, ms4, ms5, ms6, ms7, ms8, ms9, ms10, ms11, ms12⟩ := id hM
  refine aw_cF (F' := zput F μ 13 G) (zput_view hG).symm ?_
  have L32 : ∀ (m k : Nat), k ≤ c → c - k = m → mHas (G 1) t (nI u) k = false → AW mX7_allow X (zMQ mX7_allow X (some (.int (-3))) sh F P) 32 [some (.ref μ), some (.int (nI t)), some (.int (nI u)), some (.int (nI c)), some (.int (nI k))] [] ρ sh (zput F μ 13 G) P 0 0 := by
    intro m
    induction m using Nat.strongRecOn with
    | _ m ih =>
    intro k hk hm hno
    refine aw_iload_4 dX7_allow_32 ?_
    refine aw_iload_3 dX7_allow_34 ?_
    refine aw_icmp_ge (tgt := 61) dX7_allow_35 (by decide) (fun c35 => ?_) (fun c35 => ?_)
    · refine aw_iload_3 dX7_allow_61 ?_
      refine aw_iconst (v := 3) dX7_allow_62 (by decide) ?_
      refine aw_icmp_ne (tgt := 69) dX7_allow_63 (by decide) (fun c63 => absurd c63 (fun e => e (by rw [h3]; rfl))) (fun c63 => ?_)
      refine aw_bipush (v := (-3)) dX7_allow_66 (by decide) ?_
      exact aw_ireturn rfl dX7_allow_68 ⟨Nat.zero_le _, Nat.zero_le _⟩ rfl rfl (zput_view hG) rfl
    · have hlt : k < c := zlt hk (by omega) c35
      refine aw_aload_0 dX7_allow_38 ?_
      refine aw_iload_1 dX7_allow_39 ?_
      refine aw_bipush (v := 20) dX7_allow_40 (by decide) ?_
      refine aw_iload_4 dX7_allow_42 ?_
      refine aw_iadd dX7_allow_44 ?_
      rw [m20]
      refine aw_run (zRun_V (c_X7_of (t := t) (k := 20 + k) hM zVw.put (by omega)) gX7_allow_X7_of q_X7_of rfl (by decide) rfl ms0 rfl rfl (Nat.le_of_ble_eq_true rfl) dX7_allow_45 ⟨Nat.le_refl _, Nat.le_refl _⟩) ?_
      refine aw_iload_2 dX7_allow_48 ?_
      refine aw_icmp_ne (tgt := 55) dX7_allow_49 (by decide) (fun c49 => ?_) (fun c49 => ?_)
      · refine aw_iinc_4 (v := 1) (by decide) dX7_allow_55 ?_
        refine aw_goto (tgt := 32) dX7_allow_58 (by decide) ?_
        rw [nI_1]
        exact ih (c - (k + 1)) (by omega) (k + 1) (by omega) rfl (by unfold mHas at hno ⊢; simp [anyLt, hno, c49])
      · exact absurd hh (by rw [show mHas (G 1) t (nI u) c = true from anyLt_true hlt (by simpa using c49)]; decide)
  refine aw_iload_1 dX7_allow_0 ?_
  refine aw_run (zRun_S (c_X7_isThing ) (Or.inl gX7_allow_X7_isThing) q_X7_isThing (by decide) rfl rfl (Nat.le_of_ble_eq_true rfl) dX7_allow_1 ⟨Nat.le_refl _, Nat.le_refl _⟩) ?_
  refine aw_if_eq (tgt := 19) dX7_allow_4 (by decide) (fun c4 => absurd c4 (mIn_20 ht)) (fun c4 => ?_)
  refine aw_iload_2 dX7_allow_7 ?_
  refine aw_run (zRun_S (c_X7_isThing ) (Or.inl gX7_allow_X7_isThing) q_X7_isThing (by decide) rfl rfl (Nat.le_of_ble_eq_true rfl) dX7_allow_8 ⟨Nat.le_refl _, Nat.le_refl _⟩) ?_
  refine aw_if_eq (tgt := 19) dX7_allow_11 (by decide) (fun c11 => absurd c11 (mIn_20 hu)) (fun c11 => ?_)
  refine aw_iload_1 dX7_allow_14 ?_
  refine aw_iload_2 dX7_allow_15 ?_
  refine aw_icmp_ne (tgt := 21) dX7_allow_16 (by decide) (fun c16 => ?_) (fun c16 => absurd c16 hn)
  refine aw_aload_0 dX7_allow_21 ?_
  refine aw_iload_1 dX7_allow_22 ?_
  refine aw_bipush (v := 19) dX7_allow_23 (by decide) ?_
  refine aw_run (zRun_V (c_X7_of (t := t) (k := 19) hM zVw.put (by omega)) gX7_allow_X7_of q_X7_of rfl (by decide) rfl ms0 rfl rfl (Nat.le_of_ble_eq_true rfl) dX7_allow_25 ⟨Nat.le_refl _, Nat.le_refl _⟩) ?_
  rw [hc]
  refine aw_istore_3 dX7_allow_28 ?_
  refine aw_iconst (v := 0) dX7_allow_29 (by decide) ?_
  refine aw_istore_4 dX7_allow_30 ?_
  exact L32 _ 0 (Nat.zero_le _) rfl rfl

set_option maxHeartbeats 1000000 in
set_option maxRecDepth 100000 in
theorem c_X7_allow_g {sh : zSh} {F : Nat → Nat → Int32} {P : Nat → Nat → Option Nat} {μ : Nat} {G : Nat → Nat → Int32} {t u c : Nat} {H V : Nat → Nat → Int32} {w : Bool} (hM : zMd sh P μ) (hG : zVw F μ 13 G) (ht : t < 20) (hu : u < 20) (hn : ¬ nI t = nI u) (hc3 : c ≤ 3) (hc : G 1 (23 * t + 19) = nI c) (hh : mHas (G 1) t (nI u) c = false) (h3 : c < 3) (eH : zBox (va_up (mHold G) 1 (mAdd (G 1) t c (nI u)) = H)) (eV : zBox (va_up H 5 (mRanks (H 1) (H 5) 12) = V)) (ew : zBox (mBadRank (mRanks (H 1) (H 5) 12) 20 = w)) (hok : mOk (H 1)) (h : w = true) : zMet yX7_allow wsX7_allow (5) (0) (0) [.ref μ, .int (nI t), .int (nI u)] sh F P (some (.int (-2))) sh (zput F μ 13 (mRest V)) P := by
  refine zMet.of (by decide) rfl (Nat.le_of_ble_eq_true rfl) (by simp [Value.category]) ?_
  intro X ρ
  show AW mX7_allow X (zMQ mX7_allow X (some (.int (-2))) sh (zput F μ 13 (mRest V)) P) 0 [some (.ref μ), some (.int (nI t)), some (.int (nI u)), none, none] [] ρ sh F P 0 0
  have hinX7 : ∀ w ∈ u_ws RX7 TX7 29, w ∈ wsX7_allow := by decide +kernel
  obtain ⟨ms0, ⟨mp0, mp1, mp3, mp5, mp9, mp10, mp11, mp12, mp13, mp17, mp21, mp28⟩, ms1, ms2, ms3, ms4, ms5, ms6, ms7, ms8, ms9, ms10, ms11, ms12⟩ := id hM
  refine aw_cF (F' := zput F μ 13 G) (zput_view hG).symm ?_
  have L32 : ∀ (m k : Nat), k ≤ c → c - k = m → mHas (G 1) t (nI u) k = false → AW mX7_allow X (zMQ mX7_allow X (some (.int (-2))) sh (zput F μ 13 (mRest V)) P) 32 [some (.ref μ), some (.int (nI t)), some (.int (nI u)), some (.int (nI c)), some (.int (nI k))] [] ρ sh (zput F μ 13 G) P 0 0 := by
    intro m
    induction m using Nat.strongRecOn with
    | _ m ih =>
    intro k hk hm hno
    refine aw_iload_4 dX7_allow_32 ?_
    refine aw_iload_3 dX7_allow_34 ?_
    refine aw_icmp_ge (tgt := 61) dX7_allow_35 (by decide) (fun c35 => ?_) (fun c35 => ?_)
    · refine aw_iload_3 dX7_allow_61 ?_
      refine aw_iconst (v := 3) dX7_allow_62 (by decide) ?_
      refine aw_icmp_ne (tgt := 69) dX7_allow_63 (by decide) (fun c63 => ?_) (fun c63 => absurd c63 (fun e => absurd ((nI_eq (a := c) (b := 3) (by omega) (by decide)).mp e) (by omega)))
      refine aw_aload_0 dX7_allow_69 ?_
      refine aw_runv (zRun_V (c_X7_hold hM zVw.put) gX7_allow_X7_hold q_X7_hold rfl (by decide) rfl ms0 rfl rfl (Nat.le_of_ble_eq_true rfl) dX7_allow_70 ⟨Nat.le_refl _, Nat.le_refl _⟩) ?_
      rw [zput_zput]
      refine aw_aload_0 dX7_allow_73 ?_
      refine aw_iload_1 dX7_allow_74 ?_
      refine aw_bipush (v := 20) dX7_allow_75 (by decide) ?_
      refine aw_iload_3 dX7_allow_77 ?_
      refine aw_iadd dX7_allow_78 ?_
      refine aw_iload_2 dX7_allow_79 ?_
      rw [m20]
      refine aw_runv (zRun_V (c_X7_put (t := t) (k := 20 + c) hM zVw.put (by omega)) gX7_allow_X7_put q_X7_put rfl (by decide) rfl ms0 rfl rfl (Nat.le_of_ble_eq_true rfl) dX7_allow_80 ⟨Nat.le_refl _, Nat.le_refl _⟩) ?_
      rw [zput_zput]
      refine aw_aload_0 dX7_allow_83 ?_
      refine aw_iload_1 dX7_allow_84 ?_
      refine aw_bipush (v := 19) dX7_allow_85 (by decide) ?_
      refine aw_iload_3 dX7_allow_87 ?_
      refine aw_iconst (v := 1) dX7_allow_88 (by decide) ?_
      refine aw_iadd dX7_allow_89 ?_
      rw [nI_1]
      refine aw_runv (zRun_V (c_X7_put (t := t) (k := 19) hM zVw.put (by omega)) gX7_allow_X7_put q_X7_put rfl (by decide) rfl ms0 rfl rfl (Nat.le_of_ble_eq_true rfl) dX7_allow_90 ⟨Nat.le_refl _, Nat.le_refl _⟩) ?_
      rw [zput_zput]
      refine aw_cF (F' := zput F μ 13 H) (by rw [← eH.out]; congr 1; rw [zup_eq, va_up_up]; unfold mAdd mHold; rw [zup_ne (by decide)]) ?_
      refine aw_aload_0 dX7_allow_93 ?_
      refine aw_run (zRun_V (c_X7_areRanks (G := H) hM zVw.put hok) gX7_allow_X7_areRanks q_X7_areRanks rfl (by decide) rfl ms0 rfl rfl (Nat.le_of_ble_eq_true rfl) dX7_allow_94 ⟨Nat.le_refl _, Nat.le_refl _⟩) ?_
      rw [zput_zput, eV.out, ew.out]
      refine aw_if_ne (tgt := 107) dX7_allow_97 (by decide) (fun c97 => absurd c97 (fun e => e (by rw [h]; rfl))) (fun c97 => ?_)
      refine aw_aload_0 dX7_allow_100 ?_
      refine aw_runv (zRun_V (c_X7_restore hM zVw.put) gX7_allow_X7_restore q_X7_restore rfl (by decide) rfl ms0 rfl rfl (Nat.le_of_ble_eq_true rfl) dX7_allow_101 ⟨Nat.le_refl _, Nat.le_refl _⟩) ?_
      rw [zput_zput]
      refine aw_bipush (v := (-2)) dX7_allow_104 (by decide) ?_
      exact aw_ireturn rfl dX7_allow_106 ⟨Nat.zero_le _, Nat.zero_le _⟩ rfl rfl rfl rfl
    · have hlt : k < c := zlt hk (by omega) c35
      refine aw_aload_0 dX7_allow_38 ?_
      refine aw_iload_1 dX7_allow_39 ?_
      refine aw_bipush (v := 20) dX7_allow_40 (by decide) ?_
      refine aw_iload_4 dX7_allow_42 ?_
      refine aw_iadd dX7_allow_44 ?_
      rw [m20]
      refine aw_run (zRun_V (c_X7_of (t := t) (k := 20 + k) hM zVw.put (by omega)) gX7_allow_X7_of q_X7_of rfl (by decide) rfl ms0 rfl rfl (Nat.le_of_ble_eq_true rfl) dX7_allow_45 ⟨Nat.le_refl _, Nat.le_refl _⟩) ?_
      refine aw_iload_2 dX7_allow_48 ?_
      refine aw_icmp_ne (tgt := 55) dX7_allow_49 (by decide) (fun c49 => ?_) (fun c49 => ?_)
      · refine aw_iinc_4 (v := 1) (by decide) dX7_allow_55 ?_
        refine aw_goto (tgt := 32) dX7_allow_58 (by decide) ?_
        rw [nI_1]
        exact ih (c - (k + 1)) (by omega) (k + 1) (by omega) rfl (by unfold mHas at hno ⊢; simp [anyLt, hno, c49])
      · exact absurd hh (by rw [show mHas (G 1) t (nI u) c = true from anyLt_true hlt (by simpa using c49)]; decide)
  refine aw_iload_1 dX7_allow_0 ?_
  refine aw_run (zRun_S (c_X7_isThing ) (Or.inl gX7_allow_X7_isThing) q_X7_isThing (by decide) rfl rfl (Nat.le_of_ble_eq_true rfl) dX7_allow_1 ⟨Nat.le_refl _, Nat.le_refl _⟩) ?_
  refine aw_if_eq (tgt := 19) dX7_allow_4 (by decide) (fun c4 => absurd c4 (mIn_20 ht)) (fun c4 => ?_)
  refine aw_iload_2 dX7_allow_7 ?_
  refine aw_run (zRun_S (c_X7_isThing ) (Or.inl gX7_allow_X7_isThing) q_X7_isThing (by decide) rfl rfl (Nat.le_of_ble_eq_true rfl) dX7_allow_8 ⟨Nat.le_refl _, Nat.le_refl _⟩) ?_
  refine aw_if_eq (tgt := 19) dX7_allow_11 (by decide) (fun c11 => absurd c11 (mIn_20 hu)) (fun c11 => ?_)
  refine aw_iload_1 dX7_allow_14 ?_
  refine aw_iload_2 dX7_allow_15 ?_
  refine aw_icmp_ne (tgt := 21) dX7_allow_16 (by decide) (fun c16 => ?_) (fun c16 => absurd c16 hn)
  refine aw_aload_0 dX7_allow_21 ?_
  refine aw_iload_1 dX7_allow_22 ?_
  refine aw_bipush (v := 19) dX7_allow_23 (by decide) ?_
  refine aw_run (zRun_V (c_X7_of (t := t) (k := 19) hM zVw.put (by omega)) gX7_allow_X7_of q_X7_of rfl (by decide) rfl ms0 rfl rfl (Nat.le_of_ble_eq_true rfl) dX7_allow_25 ⟨Nat.le_refl _, Nat.le_refl _⟩) ?_
  rw [hc]
  refine aw_istore_3 dX7_allow_28 ?_
  refine aw_iconst (v := 0) dX7_allow_29 (by decide) ?_
  refine aw_istore_4 dX7_allow_30 ?_
  exact L32 _ 0 (Nat.zero_le _) rfl rfl

set_option maxHeartbeats 1000000 in
set_option maxRecDepth 100000 in
theorem c_X7_allow_o {sh : zSh} {F : Nat → Nat → Int32} {P : Nat → Nat → Option Nat} {μ : Nat} {G : Nat → Nat → Int32} {t u c p : Nat} {H V : Nat → Nat → Int32} {w : Bool} (hM : zMd sh P μ) (hG : zVw F μ 13 G) (ht : t < 20) (hu : u < 20) (hn : ¬ nI t = nI u) (hc3 : c ≤ 3) (hc : G 1 (23 * t + 19) = nI c) (hh : mHas (G 1) t (nI u) c = false) (h3 : c < 3) (eH : zBox (va_up (mHold G) 1 (mAdd (G 1) t c (nI u)) = H)) (eV : zBox (va_up H 5 (mRanks (H 1) (H 5) 12) = V)) (ew : zBox (mBadRank (mRanks (H 1) (H 5) 12) 20 = w)) (hok : mOk (H 1)) (h : w = false) (hp : p ≤ 8) (h2 : V 0 2 = nI p) : zMet yX7_allow wsX7_allow (5) (0) (0) [.ref μ, .int (nI t), .int (nI u)] sh F P (some (.int (nI (c + 1)))) sh (zput F μ 13 (mDone (va_up V 0 (upd (V 0) 16 0)) p)) P := by
  refine zMet.of (by decide) rfl (Nat.le_of_ble_eq_true rfl) (by simp [Value.category]) ?_
  intro X ρ
  show AW mX7_allow X (zMQ mX7_allow X (some (.int (nI (c + 1)))) sh (zput F μ 13 (mDone (va_up V 0 (upd (V 0) 16 0)) p)) P) 0 [some (.ref μ), some (.int (nI t)), some (.int (nI u)), none, none] [] ρ sh F P 0 0
  have hinX7 : ∀ w ∈ u_ws RX7 TX7 29, w ∈ wsX7_allow := by decide +kernel
  obtain ⟨ms0, ⟨mp0, mp1, mp3, mp5, mp9, mp10, mp11, mp12, mp13, mp17, mp21, mp28⟩, ms1, ms2, ms3, ms4, ms5, ms6, ms7, ms8, ms9, ms10, ms11, ms12⟩ := id hM
  refine aw_cF (F' := zput F μ 13 G) (zput_view hG).symm ?_
  have L32 : ∀ (m k : Nat), k ≤ c → c - k = m → mHas (G 1) t (nI u) k = false → AW mX7_allow X (zMQ mX7_allow X (some (.int (nI (c + 1)))) sh (zput F μ 13 (mDone (va_up V 0 (upd (V 0) 16 0)) p)) P) 32 [some (.ref μ), some (.int (nI t)), some (.int (nI u)), some (.int (nI c)), some (.int (nI k))] [] ρ sh (zput F μ 13 G) P 0 0 := by
    intro m
    induction m using Nat.strongRecOn with
    | _ m ih =>
    intro k hk hm hno
    refine aw_iload_4 dX7_allow_32 ?_
    refine aw_iload_3 dX7_allow_34 ?_
    refine aw_icmp_ge (tgt := 61) dX7_allow_35 (by decide) (fun c35 => ?_) (fun c35 => ?_)
    · refine aw_iload_3 dX7_allow_61 ?_
      refine aw_iconst (v := 3) dX7_allow_62 (by decide) ?_
      refine aw_icmp_ne (tgt := 69) dX7_allow_63 (by decide) (fun c63 => ?_) (fun c63 => absurd c63 (fun e => absurd ((nI_eq (a := c) (b := 3) (by omega) (by decide)).mp e) (by omega)))
      refine aw_aload_0 dX7_allow_69 ?_
      refine aw_runv (zRun_V (c_X7_hold hM zVw.put) gX7_allow_X7_hold q_X7_hold rfl (by decide) rfl ms0 rfl rfl (Nat.le_of_ble_eq_true rfl) dX7_allow_70 ⟨Nat.le_refl _, Nat.le_refl _⟩) ?_
      rw [zput_zput]
      refine aw_aload_0 dX7_allow_73 ?_
      refine aw_iload_1 dX7_allow_74 ?_
      refine aw_bipush (v := 20) dX7_allow_75 (by decide) ?_
      refine aw_iload_3 dX7_allow_77 ?_
      refine aw_iadd dX7_allow_78 ?_
      refine aw_iload_2 dX7_allow_79 ?_
      rw [m20]
      refine aw_runv (zRun_V (c_X7_put (t := t) (k := 20 + c) hM zVw.put (by omega)) gX7_allow_X7_put q_X7_put rfl (by decide) rfl ms0 rfl rfl (Nat.le_of_ble_eq_true rfl) dX7_allow_80 ⟨Nat.le_refl _, Nat.le_refl _⟩) ?_
      rw [zput_zput]
      refine aw_aload_0 dX7_allow_83 ?_
      refine aw_iload_1 dX7_allow_84 ?_
      refine aw_bipush (v := 19) dX7_allow_85 (by decide) ?_
      refine aw_iload_3 dX7_allow_87 ?_
      refine aw_iconst (v := 1) dX7_allow_88 (by decide) ?_
      refine aw_iadd dX7_allow_89 ?_
      rw [nI_1]
      refine aw_runv (zRun_V (c_X7_put (t := t) (k := 19) hM zVw.put (by omega)) gX7_allow_X7_put q_X7_put rfl (by decide) rfl ms0 rfl rfl (Nat.le_of_ble_eq_true rfl) dX7_allow_90 ⟨Nat.le_refl _, Nat.le_refl _⟩) ?_
      rw [zput_zput]
      refine aw_cF (F' := zput F μ 13 H) (by rw [← eH.out]; congr 1; rw [zup_eq, va_up_up]; unfold mAdd mHold; rw [zup_ne (by decide)]) ?_
      refine aw_aload_0 dX7_allow_93 ?_
      refine aw_run (zRun_V (c_X7_areRanks (G := H) hM zVw.put hok) gX7_allow_X7_areRanks q_X7_areRanks rfl (by decide) rfl ms0 rfl rfl (Nat.le_of_ble_eq_true rfl) dX7_allow_94 ⟨Nat.le_refl _, Nat.le_refl _⟩) ?_
      rw [zput_zput, eV.out, ew.out]
      refine aw_if_ne (tgt := 107) dX7_allow_97 (by decide) (fun c97 => ?_) (fun c97 => absurd c97 (by rw [h]; decide))
      refine aw_aload_0 dX7_allow_107 ?_
      refine aw_iconst (v := 0) dX7_allow_108 (by decide) ?_
      refine aw_putZ (by decide) fX7_16 rfl hinX7 (by decide +kernel : Cond.fieldLink RX7 80 RX7 (TX7 16).2.1 (TX7 16).2.2.1 ∈ wsX7_allow) ms0 dX7_allow_109 ?_
      simp (disch := omega) only [zu_up, zup_in, zup_in0, zput_at, zput_a0, zput_zput, zup_eq, zup_ne, va_up_up, nI_clamp]
      refine aw_aload_0 dX7_allow_112 ?_
      refine aw_run (zRun_V (c_X7_endMaking_o (p := p) hM zVw.put (by rw [zup_eq, upd_eq]) hp (by rw [zup_eq, upd_ne (by decide)]; exact h2)) gX7_allow_X7_endMaking q_X7_endMaking rfl (by decide) rfl ms0 rfl rfl (Nat.le_of_ble_eq_true rfl) dX7_allow_113 ⟨Nat.le_refl _, Nat.le_refl _⟩) ?_
      rw [zput_zput]
      refine aw_istore_4 dX7_allow_116 ?_
      refine aw_iload_3 dX7_allow_118 ?_
      refine aw_iconst (v := 1) dX7_allow_119 (by decide) ?_
      refine aw_iadd dX7_allow_120 ?_
      rw [nI_1]
      exact aw_ireturn rfl dX7_allow_121 ⟨Nat.zero_le _, Nat.zero_le _⟩ rfl rfl rfl rfl
    · have hlt : k < c := zlt hk (by omega) c35
      refine aw_aload_0 dX7_allow_38 ?_
      refine aw_iload_1 dX7_allow_39 ?_
      refine aw_bipush (v := 20) dX7_allow_40 (by decide) ?_
      refine aw_iload_4 dX7_allow_42 ?_
      refine aw_iadd dX7_allow_44 ?_
      rw [m20]
      refine aw_run (zRun_V (c_X7_of (t := t) (k := 20 + k) hM zVw.put (by omega)) gX7_allow_X7_of q_X7_of rfl (by decide) rfl ms0 rfl rfl (Nat.le_of_ble_eq_true rfl) dX7_allow_45 ⟨Nat.le_refl _, Nat.le_refl _⟩) ?_
      refine aw_iload_2 dX7_allow_48 ?_
      refine aw_icmp_ne (tgt := 55) dX7_allow_49 (by decide) (fun c49 => ?_) (fun c49 => ?_)
      · refine aw_iinc_4 (v := 1) (by decide) dX7_allow_55 ?_
        refine aw_goto (tgt := 32) dX7_allow_58 (by decide) ?_
        rw [nI_1]
        exact ih (c - (k + 1)) (by omega) (k + 1) (by omega) rfl (by unfold mHas at hno ⊢; simp [anyLt, hno, c49])
      · exact absurd hh (by rw [show mHas (G 1) t (nI u) c = true from anyLt_true hlt (by simpa using c49)]; decide)
  refine aw_iload_1 dX7_allow_0 ?_
  refine aw_run (zRun_S (c_X7_isThing ) (Or.inl gX7_allow_X7_isThing) q_X7_isThing (by decide) rfl rfl (Nat.le_of_ble_eq_true rfl) dX7_allow_1 ⟨Nat.le_refl _, Nat.le_refl _⟩) ?_
  refine aw_if_eq (tgt := 19) dX7_allow_4 (by decide) (fun c4 => absurd c4 (mIn_20 ht)) (fun c4 => ?_)
  refine aw_iload_2 dX7_allow_7 ?_
  refine aw_run (zRun_S (c_X7_isThing ) (Or.inl gX7_allow_X7_isThing) q_X7_isThing (by decide) rfl rfl (Nat.le_of_ble_eq_true rfl) dX7_allow_8 ⟨Nat.le_refl _, Nat.le_refl _⟩) ?_
  refine aw_if_eq (tgt := 19) dX7_allow_11 (by decide) (fun c11 => absurd c11 (mIn_20 hu)) (fun c11 => ?_)
  refine aw_iload_1 dX7_allow_14 ?_
  refine aw_iload_2 dX7_allow_15 ?_
  refine aw_icmp_ne (tgt := 21) dX7_allow_16 (by decide) (fun c16 => ?_) (fun c16 => absurd c16 hn)
  refine aw_aload_0 dX7_allow_21 ?_
  refine aw_iload_1 dX7_allow_22 ?_
  refine aw_bipush (v := 19) dX7_allow_23 (by decide) ?_
  refine aw_run (zRun_V (c_X7_of (t := t) (k := 19) hM zVw.put (by omega)) gX7_allow_X7_of q_X7_of rfl (by decide) rfl ms0 rfl rfl (Nat.le_of_ble_eq_true rfl) dX7_allow_25 ⟨Nat.le_refl _, Nat.le_refl _⟩) ?_
  rw [hc]
  refine aw_istore_3 dX7_allow_28 ?_
  refine aw_iconst (v := 0) dX7_allow_29 (by decide) ?_
  refine aw_istore_4 dX7_allow_30 ?_
  exact L32 _ 0 (Nat.zero_le _) rfl rfl

abbrev mX7_forbid : ZM := (cX7_forbid, RX7, wsX7_forbid, 3, 0, 0, (some .int), 5, yX7_forbid.name)
set_option maxHeartbeats 1000000 in
set_option maxRecDepth 100000 in
theorem c_X7_forbid_b1 {sh : zSh} {F : Nat → Nat → Int32} {P : Nat → Nat → Option Nat} {μ : Nat} {G : Nat → Nat → Int32} {t k : Int32} (hM : zMd sh P μ) (hG : zVw F μ 13 G) (h : mIn t 0 19 = 0) : zMet yX7_forbid wsX7_forbid (3) (0) (0) [.ref μ, .int t, .int k] sh F P (some (.int (-1))) sh F P := by
  refine zMet.of (by decide) rfl (Nat.le_of_ble_eq_true rfl) (by simp [Value.category]) ?_
  intro X ρ
  show AW mX7_forbid X (zMQ mX7_forbid X (some (.int (-1))) sh F P) 0 [some (.ref μ), some (.int t), some (.int k), none, none] [] ρ sh F P 0 0
  obtain ⟨ms0, ⟨mp0, mp1, mp3, mp5, mp9, mp10, mp11, mp12, mp13, mp17, mp21, mp28⟩, ms1, ms2, ms3, ms4, ms5, ms6, ms7, ms8, ms9, ms10, ms11, ms12⟩ := id hM
  refine aw_cF (F' := zput F μ 13 G) (zput_view hG).symm ?_
  refine aw_iload_1 dX7_forbid_0 ?_
  refine aw_run (zRun_S (c_X7_isThing ) (Or.inl gX7_forbid_X7_isThing) q_X7_isThing (by decide) rfl rfl (Nat.le_of_ble_eq_true rfl) dX7_forbid_1 ⟨Nat.le_refl _, Nat.le_refl _⟩) ?_
  refine aw_if_eq (tgt := 24) dX7_forbid_4 (by decide) (fun c4 => ?_) (fun c4 => ?_)
  · refine aw_iconst (v := (-1)) dX7_forbid_24 (by decide) ?_
    exact aw_ireturn rfl dX7_forbid_25 ⟨Nat.zero_le _, Nat.zero_le _⟩ (by first | rfl | simp [c4]) rfl (zput_view hG) rfl
  · exact absurd h c4

set_option maxHeartbeats 1000000 in
set_option maxRecDepth 100000 in
theorem c_X7_forbid_b2 {sh : zSh} {F : Nat → Nat → Int32} {P : Nat → Nat → Option Nat} {μ : Nat} {G : Nat → Nat → Int32} {t c : Nat} {k : Int32} (hM : zMd sh P μ) (hG : zVw F μ 13 G) (ht : t < 20) (hc : G 1 (23 * t + 19) = nI c) (h : mIn k 0 (nI c - 1) = 0) : zMet yX7_forbid wsX7_forbid (3) (0) (0) [.ref μ, .int (nI t), .int k] sh F P (some (.int (-1))) sh F P := by
  refine zMet.of (by decide) rfl (Nat.le_of_ble_eq_true rfl) (by simp [Value.category]) ?_
  intro X ρ
  show AW mX7_forbid X (zMQ mX7_forbid X (some (.int (-1))) sh F P) 0 [some (.ref μ), some (.int (nI t)), some (.int k), none, none] [] ρ sh F P 0 0
  obtain ⟨ms0, ⟨mp0, mp1, mp3, mp5, mp9, mp10, mp11, mp12, mp13, mp17, mp21, mp28⟩, ms1, ms2, ms3, ms4, ms5, ms6, ms7, ms8, ms9, ms10, ms11, ms12⟩ := id hM
  refine aw_cF (F' := zput F μ 13 G) (zput_view hG).symm ?_
  refine aw_iload_1 dX7_forbid_0 ?_
  refine aw_run (zRun_S (c_X7_isThing ) (Or.inl gX7_forbid_X7_isThing) q_X7_isThing (by decide) rfl rfl (Nat.le_of_ble_eq_true rfl) dX7_forbid_1 ⟨Nat.le_refl _, Nat.le_refl _⟩) ?_
  refine aw_if_eq (tgt := 24) dX7_forbid_4 (by decide) (fun c4 => absurd c4 (mIn_20 ht)) (fun c4 => ?_)
  refine aw_iload_2 dX7_forbid_7 ?_
  refine aw_iconst (v := 0) dX7_forbid_8 (by decide) ?_
  refine aw_aload_0 dX7_forbid_9 ?_
  refine aw_iload_1 dX7_forbid_10 ?_
  refine aw_bipush (v := 19) dX7_forbid_11 (by decide) ?_
  refine aw_run (zRun_V (c_X7_of (t := t) (k := 19) hM zVw.put (by omega)) gX7_forbid_X7_of q_X7_of rfl (by decide) rfl ms0 rfl rfl (Nat.le_of_ble_eq_true rfl) dX7_forbid_13 ⟨Nat.le_refl _, Nat.le_refl _⟩) ?_
  rw [hc]
  refine aw_iconst (v := 1) dX7_forbid_16 (by decide) ?_
  refine aw_isub dX7_forbid_17 ?_
  refine aw_run (zRun_S (c_X7_isIn ) (Or.inl gX7_forbid_X7_isIn) q_X7_isIn (by decide) rfl rfl (Nat.le_of_ble_eq_true rfl) dX7_forbid_18 ⟨Nat.le_refl _, Nat.le_refl _⟩) ?_
  refine aw_if_ne (tgt := 26) dX7_forbid_21 (by decide) (fun c21 => absurd c21 (fun e => e h)) (fun c21 => ?_)
  refine aw_iconst (v := (-1)) dX7_forbid_24 (by decide) ?_
  exact aw_ireturn rfl dX7_forbid_25 ⟨Nat.zero_le _, Nat.zero_le _⟩ (by first | rfl | simp [c4, c21]) rfl (zput_view hG) rfl

set_option maxHeartbeats 1000000 in
set_option maxRecDepth 100000 in
theorem c_X7_forbid_o {sh : zSh} {F : Nat → Nat → Int32} {P : Nat → Nat → Option Nat} {μ : Nat} {G : Nat → Nat → Int32} {t c j p : Nat} (hM : zMd sh P μ) (hG : zVw F μ 13 G) (ht : t < 20) (hc3 : c ≤ 3) (hj : j < c) (hc : G 1 (23 * t + 19) = nI c) (hp : p ≤ 8) (h2 : G 0 2 = nI p) : zMet yX7_forbid wsX7_forbid (3) (0) (0) [.ref μ, .int (nI t), .int (nI j)] sh F P (some (.int (G 1 (23 * t + (20 + j))))) sh (zput F μ 13 (va_up (mRemember G p) 1 (mRem1 (G 1) t c j))) P := by
  refine zMet.of (by decide) rfl (Nat.le_of_ble_eq_true rfl) (by simp [Value.category]) ?_
  intro X ρ
  show AW mX7_forbid X (zMQ mX7_forbid X (some (.int (G 1 (23 * t + (20 + j))))) sh (zput F μ 13 (va_up (mRemember G p) 1 (mRem1 (G 1) t c j))) P) 0 [some (.ref μ), some (.int (nI t)), some (.int (nI j)), none, none] [] ρ sh F P 0 0
  obtain ⟨ms0, ⟨mp0, mp1, mp3, mp5, mp9, mp10, mp11, mp12, mp13, mp17, mp21, mp28⟩, ms1, ms2, ms3, ms4, ms5, ms6, ms7, ms8, ms9, ms10, ms11, ms12⟩ := id hM
  have e19 : ∀ i, i ≤ 2 - j → it (mRemS t j) i (G 1) (23 * t + 19) = nI c := by
    intro i
    induction i with
    | zero => exact fun _ => hc
    | succ i ihi =>
      intro h
      show mRemS t j i _ _ = _
      unfold mRemS
      rw [upd_ne (by omega)]
      exact ihi (by omega)
  have ec1 : nI c - 1 = nI (c - 1) := pk_sub (a := c) (b := 1) (by omega)
  refine aw_cF (F' := zput F μ 13 G) (zput_view hG).symm ?_
  have L43 : ∀ (m i : Nat), i ≤ c - 1 - j → c - 1 - j - i = m → AW mX7_forbid X (zMQ mX7_forbid X (some (.int (G 1 (23 * t + (20 + j))))) sh (zput F μ 13 (va_up (mRemember G p) 1 (mRem1 (G 1) t c j))) P) 43 [some (.ref μ), some (.int (nI t)), some (.int (nI j)), some (.int (G 1 (23 * t + (20 + j)))), some (.int (nI (j + i)))] [] ρ sh (zput F μ 13 (va_up (mRemember G p) 1 (it (mRemS t j) i (G 1)))) P 0 0 := by
    intro m
    induction m using Nat.strongRecOn with
    | _ m ih =>
    intro i hi hm
    refine aw_iload_4 dX7_forbid_43 ?_
    refine aw_iconst (v := 1) dX7_forbid_45 (by decide) ?_
    refine aw_iadd dX7_forbid_46 ?_
    refine aw_aload_0 dX7_forbid_47 ?_
    refine aw_iload_1 dX7_forbid_48 ?_
    refine aw_bipush (v := 19) dX7_forbid_49 (by decide) ?_
    refine aw_run (zRun_V (c_X7_of (t := t) (k := 19) hM zVw.put (by omega)) gX7_forbid_X7_of q_X7_of rfl (by decide) rfl ms0 rfl rfl (Nat.le_of_ble_eq_true rfl) dX7_forbid_51 ⟨Nat.le_refl _, Nat.le_refl _⟩) ?_
    rw [zup_eq, e19 i (by omega), show nI (j + i) + 1 = nI (j + i + 1) from nI_1 (j + i)]
    refine aw_icmp_ge (tgt := 85) dX7_forbid_54 (by decide) (fun c54 => ?_) (fun c54 => ?_)
    · have hi2 : i = c - 1 - j := by
        have := zend (n := c) (i := j + i + 1) (by omega) (by omega) c54
        omega
      subst hi2
      refine aw_aload_0 dX7_forbid_85 ?_
      refine aw_iload_1 dX7_forbid_86 ?_
      refine aw_bipush (v := 19) dX7_forbid_87 (by decide) ?_
      refine aw_aload_0 dX7_forbid_89 ?_
      refine aw_iload_1 dX7_forbid_90 ?_
      refine aw_bipush (v := 19) dX7_forbid_91 (by decide) ?_
      refine aw_run (zRun_V (c_X7_of (t := t) (k := 19) hM zVw.put (by omega)) gX7_forbid_X7_of q_X7_of rfl (by decide) rfl ms0 rfl rfl (Nat.le_of_ble_eq_true rfl) dX7_forbid_93 ⟨Nat.le_refl _, Nat.le_refl _⟩) ?_
      rw [zup_eq, e19 _ (by omega)]
      refine aw_iconst (v := 1) dX7_forbid_96 (by decide) ?_
      refine aw_isub dX7_forbid_97 ?_
      rw [ec1]
      refine aw_runv (zRun_V (c_X7_put (t := t) (k := 19) hM zVw.put (by omega)) gX7_forbid_X7_put q_X7_put rfl (by decide) rfl ms0 rfl rfl (Nat.le_of_ble_eq_true rfl) dX7_forbid_98 ⟨Nat.le_refl _, Nat.le_refl _⟩) ?_
      rw [zput_zput, zup_eq, va_up_up]
      refine aw_iload_3 dX7_forbid_101 ?_
      exact aw_ireturn rfl dX7_forbid_102 ⟨Nat.zero_le _, Nat.zero_le _⟩ rfl rfl rfl rfl
    · have hlt : j + i + 1 < c := zlt (n := c) (i := j + i + 1) (by omega) (by omega) c54
      refine aw_aload_0 dX7_forbid_57 ?_
      refine aw_iload_1 dX7_forbid_58 ?_
      refine aw_bipush (v := 20) dX7_forbid_59 (by decide) ?_
      refine aw_iload_4 dX7_forbid_61 ?_
      refine aw_iadd dX7_forbid_63 ?_
      rw [m20]
      refine aw_aload_0 dX7_forbid_64 ?_
      refine aw_iload_1 dX7_forbid_65 ?_
      refine aw_bipush (v := 20) dX7_forbid_66 (by decide) ?_
      refine aw_iload_4 dX7_forbid_68 ?_
      refine aw_iadd dX7_forbid_70 ?_
      refine aw_iconst (v := 1) dX7_forbid_71 (by decide) ?_
      refine aw_iadd dX7_forbid_72 ?_
      rw [m20, nI_1]
      refine aw_run (zRun_V (c_X7_of (t := t) (k := 20 + (j + i) + 1) hM zVw.put (by omega)) gX7_forbid_X7_of q_X7_of rfl (by decide) rfl ms0 rfl rfl (Nat.le_of_ble_eq_true rfl) dX7_forbid_73 ⟨Nat.le_refl _, Nat.le_refl _⟩) ?_
      rw [zup_eq]
      refine aw_runv (zRun_V (c_X7_put (t := t) (k := 20 + (j + i)) hM zVw.put (by omega)) gX7_forbid_X7_put q_X7_put rfl (by decide) rfl ms0 rfl rfl (Nat.le_of_ble_eq_true rfl) dX7_forbid_76 ⟨Nat.le_refl _, Nat.le_refl _⟩) ?_
      refine aw_iinc_4 (v := 1) (by decide) dX7_forbid_79 ?_
      refine aw_goto (tgt := 43) dX7_forbid_82 (by decide) ?_
      rw [show nI (j + i) + 1 = nI (j + (i + 1)) from nI_1 (j + i)]
      rw [zput_zput, zup_eq, va_up_up]
      exact ih (c - 1 - j - (i + 1)) (by omega) (i + 1) (by omega) rfl
  refine aw_iload_1 dX7_forbid_0 ?_
  refine aw_run (zRun_S (c_X7_isThing ) (Or.inl gX7_forbid_X7_isThing) q_X7_isThing (by decide) rfl rfl (Nat.le_of_ble_eq_true rfl) dX7_forbid_1 ⟨Nat.le_refl _, Nat.le_refl _⟩) ?_
  refine aw_if_eq (tgt := 24) dX7_forbid_4 (by decide) (fun c4 => absurd c4 (mIn_20 ht)) (fun c4 => ?_)
  refine aw_iload_2 dX7_forbid_7 ?_
  refine aw_iconst (v := 0) dX7_forbid_8 (by decide) ?_
  refine aw_aload_0 dX7_forbid_9 ?_
  refine aw_iload_1 dX7_forbid_10 ?_
  refine aw_bipush (v := 19) dX7_forbid_11 (by decide) ?_
  refine aw_run (zRun_V (c_X7_of (t := t) (k := 19) hM zVw.put (by omega)) gX7_forbid_X7_of q_X7_of rfl (by decide) rfl ms0 rfl rfl (Nat.le_of_ble_eq_true rfl) dX7_forbid_13 ⟨Nat.le_refl _, Nat.le_refl _⟩) ?_
  rw [hc]
  refine aw_iconst (v := 1) dX7_forbid_16 (by decide) ?_
  refine aw_isub dX7_forbid_17 ?_
  rw [ec1]
  refine aw_run (zRun_S (c_X7_isIn ) (Or.inl gX7_forbid_X7_isIn) q_X7_isIn (by decide) rfl rfl (Nat.le_of_ble_eq_true rfl) dX7_forbid_18 ⟨Nat.le_refl _, Nat.le_refl _⟩) ?_
  refine aw_if_ne (tgt := 26) dX7_forbid_21 (by decide) (fun c21 => ?_) (fun c21 => absurd c21 (mIn_t (m := c - 1) (by omega) (by omega)))
  refine aw_aload_0 dX7_forbid_26 ?_
  refine aw_runv (zRun_V (c_X7_remember (p := p) hM zVw.put hp h2) gX7_forbid_X7_remember q_X7_remember rfl (by decide) rfl ms0 rfl rfl (Nat.le_of_ble_eq_true rfl) dX7_forbid_27 ⟨Nat.le_refl _, Nat.le_refl _⟩) ?_
  refine aw_aload_0 dX7_forbid_30 ?_
  refine aw_iload_1 dX7_forbid_31 ?_
  refine aw_bipush (v := 20) dX7_forbid_32 (by decide) ?_
  refine aw_iload_2 dX7_forbid_34 ?_
  refine aw_iadd dX7_forbid_35 ?_
  rw [m20]
  refine aw_run (zRun_V (c_X7_of (t := t) (k := 20 + j) hM zVw.put (by omega)) gX7_forbid_X7_of q_X7_of rfl (by decide) rfl ms0 rfl rfl (Nat.le_of_ble_eq_true rfl) dX7_forbid_36 ⟨Nat.le_refl _, Nat.le_refl _⟩) ?_
  rw [mRemember_1 (by decide) (by decide)]
  refine aw_istore_3 dX7_forbid_39 ?_
  refine aw_iload_2 dX7_forbid_40 ?_
  refine aw_istore_4 dX7_forbid_41 ?_
  refine aw_cF (F' := zput F μ 13 (va_up (mRemember G p) 1 (it (mRemS t j) 0 (G 1)))) (by rw [zput_zput, show it (mRemS t j) 0 (G 1) = G 1 from rfl, va_id (mRemember_1 (show 1 ≠ 0 by decide) (by decide)).symm]) ?_
  exact L43 _ 0 (Nat.zero_le _) rfl
