/-! ===== 42.md13: reach, isNeeded of the model ===== -/
def mRchI (w : Nat → Int32) (p : Nat) (H : Nat → Int32) : Nat → Nat → Int32 := fun n => it (fun i H => upd H (w (23 * p + (20 + i))).toNatClampNeg 1) n H
def mRchS (w : Nat → Int32) (t k : Nat) (H : Nat → Int32) : Nat → Int32 := mRchI w (w (23 * t + (9 + 2 * k))).toNatClampNeg (upd H (w (23 * t + (9 + 2 * k))).toNatClampNeg 1) (w (23 * (w (23 * t + (9 + 2 * k))).toNatClampNeg + 19)).toNatClampNeg
def mRch (w : Nat → Int32) (t : Nat) (H : Nat → Int32) : Nat → Int32 := it (mRchS w t) (w (23 * t + 8)).toNatClampNeg H
def mNdR (w : Nat → Int32) (H : Nat → Int32) : Nat → Nat → Int32 := fun n => it (fun k H => if H k = 0 then H else mRch w k H) n H
def mNd (w : Nat → Int32) (H : Nat → Int32) (u : Nat) : Nat → Nat → Int32 := fun n => it (fun _ H => mNdR w H 20) n (mRch w u (cFill 20 0 H))

abbrev mX7_reach : ZM := (cX7_reach, RX7, wsX7_reach, 3, 0, 0, none, 5, yX7_reach.name)
set_option maxHeartbeats 1000000 in
set_option maxRecDepth 100000 in
theorem c_X7_reach {sh : zSh} {F : Nat → Nat → Int32} {P : Nat → Nat → Option Nat} {μ : Nat} {G : Nat → Nat → Int32} {t : Nat} (hM : zMd sh P μ) (hG : zVw F μ 13 G) (ht : t < 20) (hok : mOk (G 1)) : zMet yX7_reach wsX7_reach (3) (0) (0) [.ref μ, .int (nI t)] sh F P (none) sh (zput F μ 13 (va_up G 12 (mRch (G 1) t (G 12)))) P := by
  refine zMet.of (by decide) rfl (Nat.le_of_ble_eq_true rfl) (by simp [Value.category]) ?_
  intro X ρ
  show AW mX7_reach X (zMQ mX7_reach X (none) sh (zput F μ 13 (va_up G 12 (mRch (G 1) t (G 12)))) P) 0 [some (.ref μ), some (.int (nI t)), none, none, none] [] ρ sh F P 0 0
  have hinX7 : ∀ w ∈ u_ws RX7 TX7 29, w ∈ wsX7_reach := by decide +kernel
  obtain ⟨ms0, ⟨mp0, mp1, mp3, mp5, mp9, mp10, mp11, mp12, mp13, mp17, mp21, mp28⟩, ms1, ms2, ms3, ms4, ms5, ms6, ms7, ms8, ms9, ms10, ms11, ms12⟩ := id hM
  refine aw_cF (F' := zput F μ 13 G) (zput_view hG).symm ?_
  obtain ⟨⟨c, hc, h8, hin⟩, -, hvv⟩ := hok t ht
  have L30 : ∀ (m i p k c2 : Nat) (H : Nat → Int32), p < 20 → c2 ≤ 3 → G 1 (23 * p + 19) = nI c2 → (∀ k, k < c2 → ∃ j, j < 20 ∧ G 1 (23 * p + (20 + k)) = nI j) → i ≤ c2 → c2 - i = m → (∀ o4 : Option Value, AW mX7_reach X (zMQ mX7_reach X (none) sh (zput F μ 13 (va_up G 12 (mRch (G 1) t (G 12)))) P) 64 [some (.ref μ), some (.int (nI t)), some (.int (nI k)), some (.int (nI p)), o4] [] ρ sh (zput F μ 13 (va_up G 12 (mRchI (G 1) p H c2))) P 0 0) → AW mX7_reach X (zMQ mX7_reach X (none) sh (zput F μ 13 (va_up G 12 (mRch (G 1) t (G 12)))) P) 30 [some (.ref μ), some (.int (nI t)), some (.int (nI k)), some (.int (nI p)), some (.int (nI i))] [] ρ sh (zput F μ 13 (va_up G 12 (mRchI (G 1) p H i))) P 0 0 := by
    intro m
    induction m using Nat.strongRecOn with
    | _ m ih =>
    intro i p k c2 H hp hc2 h19 hj hi hm hk
    refine aw_iload_4 dX7_reach_30 ?_
    refine aw_aload_0 dX7_reach_32 ?_
    refine aw_iload_3 dX7_reach_33 ?_
    refine aw_bipush (v := 19) dX7_reach_34 (by decide) ?_
    refine aw_run (zRun_V (c_X7_of (t := p) (k := 19) hM zVw.put (by omega)) gX7_reach_X7_of q_X7_of rfl (by decide) rfl ms0 rfl rfl (Nat.le_of_ble_eq_true rfl) dX7_reach_36 ⟨Nat.le_refl _, Nat.le_refl _⟩) ?_
    try simp (disch := omega) only [zu_up, zup_in, zup_in0, zput_at, zput_a0, zput_zput, zup_eq, zup_ne, va_up_up, nI_clamp]
    rw [h19]
    refine aw_icmp_ge (tgt := 64) dX7_reach_39 (by decide) (fun c39 => ?_) (fun c39 => ?_)
    · rw [zend hi (by omega) c39]
      exact hk _
    · have hlt : i < c2 := zlt hi (by omega) c39
      obtain ⟨j, hj20, ej⟩ := hj i hlt
      refine aw_aload_0 dX7_reach_42 ?_
      refine aw_getR fX7_28 (fun _ _ => rfl) mp28 hinX7 (by decide +kernel : Cond.fieldLink RX7 50 RX7 (TX7 28).2.1 (TX7 28).2.2.1 ∈ wsX7_reach) ms0 dX7_reach_43 ?_
      refine aw_aload_0 dX7_reach_46 ?_
      refine aw_iload_3 dX7_reach_47 ?_
      refine aw_bipush (v := 20) dX7_reach_48 (by decide) ?_
      refine aw_iload_4 dX7_reach_50 ?_
      refine aw_iadd dX7_reach_52 ?_
      rw [m20]
      refine aw_run (zRun_V (c_X7_of (t := p) (k := 20 + i) hM zVw.put (by omega)) gX7_reach_X7_of q_X7_of rfl (by decide) rfl ms0 rfl rfl (Nat.le_of_ble_eq_true rfl) dX7_reach_53 ⟨Nat.le_refl _, Nat.le_refl _⟩) ?_
      try simp (disch := omega) only [zu_up, zup_in, zup_in0, zput_at, zput_a0, zput_zput, zup_eq, zup_ne, va_up_up, nI_clamp]
      rw [ej]
      refine aw_iconst (v := 1) dX7_reach_56 (by decide) ?_
      refine aw_zastore (by decide) (by first | exact ms1 | exact ms2 | exact ms3 | exact ms4 | exact ms5 | exact ms6 | exact ms7 | exact ms8 | exact ms9 | exact ms10 | exact ms11 | exact ms12) (vp_in_nI hj20 (by decide)) dX7_reach_57 ?_
      simp (disch := omega) only [zu_up, zup_in, zup_in0, zput_at, zput_a0, zput_zput, zup_eq, zup_ne, va_up_up, nI_clamp]
      rw [show upd (mRchI (G 1) p H i) j 1 = mRchI (G 1) p H (i + 1) by show _ = upd (mRchI (G 1) p H i) (G 1 (23 * p + (20 + i))).toNatClampNeg 1; rw [ej, nI_clamp (show j < 2 ^ 31 by omega)]]
      refine aw_iinc_4 (v := 1) (by decide) dX7_reach_58 ?_
      refine aw_goto (tgt := 30) dX7_reach_61 (by decide) ?_
      rw [nI_1]
      exact ih (c2 - (i + 1)) (by omega) (i + 1) p k c2 H hp hc2 h19 hj (by omega) rfl hk
  have L2 : ∀ (m k : Nat) (o3 o4 : Option Value), k ≤ c → c - k = m → AW mX7_reach X (zMQ mX7_reach X (none) sh (zput F μ 13 (va_up G 12 (mRch (G 1) t (G 12)))) P) 2 [some (.ref μ), some (.int (nI t)), some (.int (nI k)), o3, o4] [] ρ sh (zput F μ 13 (va_up G 12 (it (mRchS (G 1) t) k (G 12)))) P 0 0 := by
    intro m
    induction m using Nat.strongRecOn with
    | _ m ih =>
    intro k o3 o4 hk hm
    refine aw_iload_2 dX7_reach_2 ?_
    refine aw_aload_0 dX7_reach_3 ?_
    refine aw_iload_1 dX7_reach_4 ?_
    refine aw_bipush (v := 8) dX7_reach_5 (by decide) ?_
    refine aw_run (zRun_V (c_X7_of (t := t) (k := 8) hM zVw.put (by omega)) gX7_reach_X7_of q_X7_of rfl (by decide) rfl ms0 rfl rfl (Nat.le_of_ble_eq_true rfl) dX7_reach_7 ⟨Nat.le_refl _, Nat.le_refl _⟩) ?_
    try simp (disch := omega) only [zu_up, zup_in, zup_in0, zput_at, zput_a0, zput_zput, zup_eq, zup_ne, va_up_up, nI_clamp]
    rw [h8]
    refine aw_icmp_ge (tgt := 70) dX7_reach_10 (by decide) (fun c10 => ?_) (fun c10 => ?_)
    · exact aw_return rfl dX7_reach_70 ⟨Nat.zero_le _, Nat.zero_le _⟩ rfl rfl (by unfold mRch; rw [h8, nI_clamp (by omega), ← zend hk (by omega) c10]) rfl
    · have hlt : k < c := zlt hk (by omega) c10
      obtain ⟨p, hp, ep⟩ := hin k hlt
      refine aw_aload_0 dX7_reach_13 ?_
      refine aw_iload_1 dX7_reach_14 ?_
      refine aw_iload_2 dX7_reach_15 ?_
      refine aw_run (zRun_V (c_X7_ingredientOf (t := t) (k := k) hM zVw.put (by omega)) gX7_reach_X7_ingredientOf q_X7_ingredientOf rfl (by decide) rfl ms0 rfl rfl (Nat.le_of_ble_eq_true rfl) dX7_reach_16 ⟨Nat.le_refl _, Nat.le_refl _⟩) ?_
      try simp (disch := omega) only [zu_up, zup_in, zup_in0, zput_at, zput_a0, zput_zput, zup_eq, zup_ne, va_up_up, nI_clamp]
      rw [ep]
      refine aw_istore_3 dX7_reach_19 ?_
      refine aw_aload_0 dX7_reach_20 ?_
      refine aw_getR fX7_28 (fun _ _ => rfl) mp28 hinX7 (by decide +kernel : Cond.fieldLink RX7 50 RX7 (TX7 28).2.1 (TX7 28).2.2.1 ∈ wsX7_reach) ms0 dX7_reach_21 ?_
      refine aw_iload_3 dX7_reach_24 ?_
      refine aw_iconst (v := 1) dX7_reach_25 (by decide) ?_
      refine aw_zastore (by decide) (by first | exact ms1 | exact ms2 | exact ms3 | exact ms4 | exact ms5 | exact ms6 | exact ms7 | exact ms8 | exact ms9 | exact ms10 | exact ms11 | exact ms12) (vp_in_nI hp (by decide)) dX7_reach_26 ?_
      simp (disch := omega) only [zu_up, zup_in, zup_in0, zput_at, zput_a0, zput_zput, zup_eq, zup_ne, va_up_up, nI_clamp]
      refine aw_iconst (v := 0) dX7_reach_27 (by decide) ?_
      refine aw_istore_4 dX7_reach_28 ?_
      obtain ⟨-, ⟨c2, hc2, h19, hj⟩, -⟩ := hok p hp
      refine L30 _ 0 p k c2 (upd (it (mRchS (G 1) t) k (G 12)) p 1) hp hc2 h19 hj (Nat.zero_le _) rfl (fun o4 => ?_)
      refine aw_iinc_2 (v := 1) (by decide) dX7_reach_64 ?_
      refine aw_goto (tgt := 2) dX7_reach_67 (by decide) ?_
      rw [nI_1]
      have e9 : mRchI (G 1) p (upd (it (mRchS (G 1) t) k (G 12)) p 1) c2 = it (mRchS (G 1) t) (k + 1) (G 12) := by
        show _ = mRchS (G 1) t k _
        unfold mRchS
        rw [ep, nI_clamp (show p < 2 ^ 31 by omega), h19, nI_clamp (show c2 < 2 ^ 31 by omega)]
      rw [e9]
      exact ih (c - (k + 1)) (by omega) (k + 1) _ _ (by omega) rfl
  refine aw_iconst (v := 0) dX7_reach_0 (by decide) ?_
  refine aw_istore_2 dX7_reach_1 ?_
  refine aw_cF (F' := zput F μ 13 (va_up G 12 (it (mRchS (G 1) t) 0 (G 12)))) (by rw [show it (mRchS (G 1) t) 0 (G 12) = G 12 from rfl, va_up_same]) ?_
  exact L2 _ 0 _ _ (Nat.zero_le _) rfl
