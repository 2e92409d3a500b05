/-! ===== 32.md3: makeBegun, wishNow ===== -/
def mMore (G : Nat → Nat → Int32) (d a k : Nat) : Nat → Nat → Int32 := mTake (va_up G 8 (upd (G 8) d (nI (k + 1)))) (d + 1) (G 1 (23 * a + (9 + 2 * k))).toNatClampNeg (G 1 (23 * a + (9 + 2 * k + 1)) * G 7 d)
def mEnd0 (G : Nat → Nat → Int32) (d a : Nat) : Nat → Nat → Int32 := mCome G a (G 1 (23 * a + 7) * G 7 d) 3
def mEnd1 (G : Nat → Nat → Int32) (d a : Nat) : Nat → Nat → Int32 := va_up (mEnd0 G d a) 1 (upd (mEnd0 G d a 1) 461 (mEnd0 G d a 1 461 + G 7 d))
def mEnd2 (G : Nat → Nat → Int32) (d a : Nat) : Nat → Nat → Int32 := mUse (mEnd1 G d a) a (G 9 d)
def mEnd (G : Nat → Nat → Int32) (d a : Nat) : Nat → Nat → Int32 := va_up (mEnd2 G d a) 0 (upd (mEnd2 G d a 0) 14 (nI d))
def mStep (G : Nat → Nat → Int32) : Nat → Nat → Int32 := if G 1 (23 * (G 6 ((G 0 14).toNatClampNeg - 1)).toNatClampNeg + 8) ≤ G 8 ((G 0 14).toNatClampNeg - 1) then mEnd G ((G 0 14).toNatClampNeg - 1) (G 6 ((G 0 14).toNatClampNeg - 1)).toNatClampNeg else mMore G ((G 0 14).toNatClampNeg - 1) (G 6 ((G 0 14).toNatClampNeg - 1)).toNatClampNeg (G 8 ((G 0 14).toNatClampNeg - 1)).toNatClampNeg
abbrev mLive (G : Nat → Nat → Int32) : Prop := ¬ G 0 14 ≤ 0 ∧ G 0 16 = 0
def mLoop (_ : Nat) (G : Nat → Nat → Int32) : Nat → Nat → Int32 := if mLive G then mStep G else G
def mVal (G : Nat → Nat → Int32) : Prop := ∃ d a k, d < 15 ∧ a < 20 ∧ k < 6 ∧ G 0 14 = nI (d + 1) ∧ G 6 d = nI a ∧ G 8 d = nI k ∧ mOk (G 1)
theorem mStep_more {G : Nat → Nat → Int32} {d a k : Nat} (hd : d < 15) (ha : a < 20) (hk : k < 6) (h14 : G 0 14 = nI (d + 1)) (h6 : G 6 d = nI a) (h8 : G 8 d = nI k) (c : ¬ G 1 (23 * a + 8) ≤ nI k) : mStep G = mMore G d a k := by
  unfold mStep
  rw [h14, nI_clamp (show d + 1 < 2 ^ 31 by omega), Nat.add_sub_cancel, h6, nI_clamp (show a < 2 ^ 31 by omega), h8, nI_clamp (show k < 2 ^ 31 by omega), if_neg c]
theorem mStep_end {G : Nat → Nat → Int32} {d a k : Nat} (hd : d < 15) (ha : a < 20) (h14 : G 0 14 = nI (d + 1)) (h6 : G 6 d = nI a) (h8 : G 8 d = nI k) (c : G 1 (23 * a + 8) ≤ nI k) : mStep G = mEnd G d a := by
  unfold mStep
  rw [h14, nI_clamp (show d + 1 < 2 ^ 31 by omega), Nat.add_sub_cancel, h6, nI_clamp (show a < 2 ^ 31 by omega), h8, if_pos c]
theorem mEnd1_pres {G : Nat → Nat → Int32} {d a : Nat} : mPres G (mEnd1 G d a) := (mCome_pres (by decide) (by decide)).trans (mPres.w1 (mStat_up (by decide)))

abbrev mX7_makeBegun : ZM := (cX7_makeBegun, RX7, wsX7_makeBegun, 6, 0, 0, none, 3, yX7_makeBegun.name)
set_option maxHeartbeats 1000000 in
set_option maxRecDepth 100000 in
theorem c_X7_makeBegun {sh : zSh} {F : Nat → Nat → Int32} {P : Nat → Nat → Option Nat} {μ : Nat} {G : Nat → Nat → Int32} {N : Nat} (hM : zMd sh P μ) (hG : zVw F μ 13 G) (hv : ∀ i, i < N → mLive (it mLoop i G) → mVal (it mLoop i G)) (hN : ¬ mLive (it mLoop N G)) : zMet yX7_makeBegun wsX7_makeBegun (6) (0) (0) [.ref μ] sh F P (none) sh (zput F μ 13 (it mLoop N G)) P := by
  refine zMet.of (by decide) rfl (Nat.le_of_ble_eq_true rfl) (by simp [Value.category]) ?_
  intro X ρ
  show AW mX7_makeBegun X (zMQ mX7_makeBegun X (none) sh (zput F μ 13 (it mLoop N G)) P) 0 [some (.ref μ), none, none] [] ρ sh F P 0 0
  have hinX7 : ∀ w ∈ u_ws RX7 TX7 29, w ∈ wsX7_makeBegun := by decide +kernel
  obtain ⟨ms0, ⟨mp0, mp1, mp3, mp5, mp9, mp10, mp11, mp12, mp13, mp17, mp21, mp28⟩, ms1, ms2, ms3, ms4, ms5, ms6, ms7, ms8, ms9, ms10, ms11, ms12⟩ := id hM
  refine aw_cF (F' := zput F μ 13 G) (zput_view hG).symm ?_
  have L0 : ∀ (m i : Nat) (G' : Nat → Nat → Int32) (o1 o2 : Option Value), i ≤ N → N - i = m → it mLoop i G = G' → AW mX7_makeBegun X (zMQ mX7_makeBegun X (none) sh (zput F μ 13 (it mLoop N G)) P) 0 [some (.ref μ), o1, o2] [] ρ sh (zput F μ 13 G') P 0 0 := by
    intro m
    induction m using Nat.strongRecOn with
    | _ m ih =>
    intro i G' o1 o2 hi hm hst
    refine aw_aload_0 dX7_makeBegun_0 ?_
    refine aw_getI fX7_14 hinX7 (by decide +kernel : Cond.fieldLink RX7 91 RX7 (TX7 14).2.1 (TX7 14).2.2.1 ∈ wsX7_makeBegun) ms0 dX7_makeBegun_1 ?_
    try simp (disch := omega) only [zu_up, zup_in, zup_in0, zput_at, zput_a0, zput_zput, zup_eq, zup_ne, va_up_up]
    refine aw_if_le (tgt := 171) dX7_makeBegun_4 (by decide) (fun c4 => ?_) (fun c4 => ?_)
    · exact aw_return rfl dX7_makeBegun_171 ⟨Nat.zero_le _, Nat.zero_le _⟩ rfl rfl (by rw [it_stick (f := mLoop) (p := fun s => ¬ mLive s) (fun i s h => if_neg h) (i := i) (by rw [hst]; unfold mLive; simp [c4]) N hi, hst]) rfl
    · refine aw_aload_0 dX7_makeBegun_7 ?_
      refine aw_getZ fX7_16 hinX7 (by decide +kernel : Cond.fieldLink RX7 80 RX7 (TX7 16).2.1 (TX7 16).2.2.1 ∈ wsX7_makeBegun) ms0 dX7_makeBegun_8 ?_
      try simp (disch := omega) only [zu_up, zup_in, zup_in0, zput_at, zput_a0, zput_zput, zup_eq, zup_ne, va_up_up]
      refine aw_if_ne (tgt := 171) dX7_makeBegun_11 (by decide) (fun c11 => ?_) (fun c11 => ?_)
      · exact aw_return rfl dX7_makeBegun_171 ⟨Nat.zero_le _, Nat.zero_le _⟩ rfl rfl (by rw [it_stick (f := mLoop) (p := fun s => ¬ mLive s) (fun i s h => if_neg h) (i := i) (by rw [hst]; unfold mLive; simp [c4, c11]) N hi, hst]) rfl
      · have hl : mLive G' := ⟨c4, c11⟩
        have hlt : i < N := by
          rcases Nat.lt_or_ge i N with h | h
          · exact h
          · exact absurd (show mLive (it mLoop N G) by rw [show N = i by omega, hst]; exact hl) hN
        obtain ⟨d, a, k, hd, ha, hk, h14, h6, h8, hok⟩ := hst ▸ hv i hlt (hst.symm ▸ hl)
        refine aw_aload_0 dX7_makeBegun_14 ?_
        refine aw_getI fX7_14 hinX7 (by decide +kernel : Cond.fieldLink RX7 91 RX7 (TX7 14).2.1 (TX7 14).2.2.1 ∈ wsX7_makeBegun) ms0 dX7_makeBegun_15 ?_
        try simp (disch := omega) only [zu_up, zup_in, zup_in0, zput_at, zput_a0, zput_zput, zup_eq, zup_ne, va_up_up]
        rw [h14]
        refine aw_iconst (v := 1) dX7_makeBegun_18 (by decide) ?_
        refine aw_isub dX7_makeBegun_19 ?_
        rw [show nI (d + 1) - 1 = nI d from pk_sub (a := d + 1) (b := 1) (by omega)]
        refine aw_istore_1 dX7_makeBegun_20 ?_
        refine aw_aload_0 dX7_makeBegun_21 ?_
        refine aw_getR fX7_12 (fun _ _ => rfl) mp12 hinX7 (by decide +kernel : Cond.fieldLink RX7 38 RX7 (TX7 12).2.1 (TX7 12).2.2.1 ∈ wsX7_makeBegun) ms0 dX7_makeBegun_22 ?_
        refine aw_iload_1 dX7_makeBegun_25 ?_
        refine aw_iaload (by first | exact ms1 | exact ms2 | exact ms3 | exact ms4 | exact ms5 | exact ms6 | exact ms7 | exact ms8 | exact ms9 | exact ms10 | exact ms11 | exact ms12) (vp_in_nI (show d < 16 by omega) (by decide)) dX7_makeBegun_26 ?_
        try simp (disch := omega) only [zu_up, zup_in, zup_in0, zput_at, zput_a0, zput_zput, zup_eq, zup_ne, va_up_up, nI_clamp]
        rw [h8]
        refine aw_aload_0 dX7_makeBegun_27 ?_
        refine aw_aload_0 dX7_makeBegun_28 ?_
        refine aw_getR fX7_10 (fun _ _ => rfl) mp10 hinX7 (by decide +kernel : Cond.fieldLink RX7 32 RX7 (TX7 10).2.1 (TX7 10).2.2.1 ∈ wsX7_makeBegun) ms0 dX7_makeBegun_29 ?_
        refine aw_iload_1 dX7_makeBegun_32 ?_
        refine aw_iaload (by first | exact ms1 | exact ms2 | exact ms3 | exact ms4 | exact ms5 | exact ms6 | exact ms7 | exact ms8 | exact ms9 | exact ms10 | exact ms11 | exact ms12) (vp_in_nI (show d < 16 by omega) (by decide)) dX7_makeBegun_33 ?_
        try simp (disch := omega) only [zu_up, zup_in, zup_in0, zput_at, zput_a0, zput_zput, zup_eq, zup_ne, va_up_up, nI_clamp]
        rw [h6]
        refine aw_bipush (v := 8) dX7_makeBegun_34 (by decide) ?_
        refine aw_run (zRun_V (c_X7_of (t := a) (k := 8) hM zVw.put (by omega)) gX7_makeBegun_X7_of q_X7_of rfl (by decide) rfl ms0 rfl rfl (Nat.le_of_ble_eq_true rfl) dX7_makeBegun_36 ⟨Nat.le_refl _, Nat.le_refl _⟩) ?_
        try simp (disch := omega) only [zu_up, zup_in, zup_in0, zput_at, zput_a0, zput_zput, zup_eq, zup_ne, va_up_up]
        refine aw_icmp_ge (tgt := 95) dX7_makeBegun_39 (by decide) (fun c39 => ?_) (fun c39 => ?_)
        · have e7 : mEnd0 G' d a 7 = G' 7 := (mCome_pres (by decide) (by decide)).1 7 (by decide)
          have e9 : mEnd1 G' d a 9 = G' 9 := mEnd1_pres.1 9 (by decide)
          have e6 : mEnd1 G' d a 6 = G' 6 := mEnd1_pres.1 6 (by decide)
          have e14 : mEnd2 G' d a 0 14 = nI (d + 1) := ((mEnd1_pres.trans mUse_pres).2.1 14 (by decide)).trans h14
          refine aw_aload_0 dX7_makeBegun_95 ?_
          refine aw_aload_0 dX7_makeBegun_96 ?_
          refine aw_getR fX7_10 (fun _ _ => rfl) mp10 hinX7 (by decide +kernel : Cond.fieldLink RX7 32 RX7 (TX7 10).2.1 (TX7 10).2.2.1 ∈ wsX7_makeBegun) ms0 dX7_makeBegun_97 ?_
          refine aw_iload_1 dX7_makeBegun_100 ?_
          refine aw_iaload (by first | exact ms1 | exact ms2 | exact ms3 | exact ms4 | exact ms5 | exact ms6 | exact ms7 | exact ms8 | exact ms9 | exact ms10 | exact ms11 | exact ms12) (vp_in_nI (show d < 16 by omega) (by decide)) dX7_makeBegun_101 ?_
          try simp (disch := omega) only [zu_up, zup_in, zup_in0, zput_at, zput_a0, zput_zput, zup_eq, zup_ne, va_up_up, nI_clamp]
          rw [h6]
          refine aw_aload_0 dX7_makeBegun_102 ?_
          refine aw_aload_0 dX7_makeBegun_103 ?_
          refine aw_getR fX7_10 (fun _ _ => rfl) mp10 hinX7 (by decide +kernel : Cond.fieldLink RX7 32 RX7 (TX7 10).2.1 (TX7 10).2.2.1 ∈ wsX7_makeBegun) ms0 dX7_makeBegun_104 ?_
          refine aw_iload_1 dX7_makeBegun_107 ?_
          refine aw_iaload (by first | exact ms1 | exact ms2 | exact ms3 | exact ms4 | exact ms5 | exact ms6 | exact ms7 | exact ms8 | exact ms9 | exact ms10 | exact ms11 | exact ms12) (vp_in_nI (show d < 16 by omega) (by decide)) dX7_makeBegun_108 ?_
          try simp (disch := omega) only [zu_up, zup_in, zup_in0, zput_at, zput_a0, zput_zput, zup_eq, zup_ne, va_up_up, nI_clamp]
          rw [h6]
          refine aw_bipush (v := 7) dX7_makeBegun_109 (by decide) ?_
          refine aw_run (zRun_V (c_X7_of (t := a) (k := 7) hM zVw.put (by omega)) gX7_makeBegun_X7_of q_X7_of rfl (by decide) rfl ms0 rfl rfl (Nat.le_of_ble_eq_true rfl) dX7_makeBegun_111 ⟨Nat.le_refl _, Nat.le_refl _⟩) ?_
          try simp (disch := omega) only [zu_up, zup_in, zup_in0, zput_at, zput_a0, zput_zput, zup_eq, zup_ne, va_up_up, nI_clamp]
          refine aw_aload_0 dX7_makeBegun_114 ?_
          refine aw_getR fX7_11 (fun _ _ => rfl) mp11 hinX7 (by decide +kernel : Cond.fieldLink RX7 35 RX7 (TX7 11).2.1 (TX7 11).2.2.1 ∈ wsX7_makeBegun) ms0 dX7_makeBegun_115 ?_
          refine aw_iload_1 dX7_makeBegun_118 ?_
          refine aw_iaload (by first | exact ms1 | exact ms2 | exact ms3 | exact ms4 | exact ms5 | exact ms6 | exact ms7 | exact ms8 | exact ms9 | exact ms10 | exact ms11 | exact ms12) (vp_in_nI (show d < 16 by omega) (by decide)) dX7_makeBegun_119 ?_
          try simp (disch := omega) only [zu_up, zup_in, zup_in0, zput_at, zput_a0, zput_zput, zup_eq, zup_ne, va_up_up, nI_clamp]
          refine aw_imul dX7_makeBegun_120 ?_
          refine aw_iconst (v := 3) dX7_makeBegun_121 (by decide) ?_
          refine aw_runv (zRun_V (c_X7_come (t := a) (k := 3) hM zVw.put ha (by omega) (Or.inl hl.2)) gX7_makeBegun_X7_come q_X7_come rfl (by decide) rfl ms0 rfl rfl (Nat.le_of_ble_eq_true rfl) dX7_makeBegun_122 ⟨Nat.le_refl _, Nat.le_refl _⟩) ?_
          rw [zput_zput, show mCome G' a (G' 1 (23 * a + 7) * G' 7 d) 3 = mEnd0 G' d a from rfl]
          refine aw_aload_0 dX7_makeBegun_125 ?_
          refine aw_getR fX7_0 (fun _ _ => rfl) mp0 hinX7 (by decide +kernel : Cond.fieldLink RX7 7 RX7 (TX7 0).2.1 (TX7 0).2.2.1 ∈ wsX7_makeBegun) ms0 dX7_makeBegun_126 ?_
          refine aw_sipush (v := 461) dX7_makeBegun_129 (by decide) ?_
          refine aw_dup2 rfl rfl dX7_makeBegun_132 ?_
          refine aw_iaload (by first | exact ms1 | exact ms2 | exact ms3 | exact ms4 | exact ms5 | exact ms6 | exact ms7 | exact ms8 | exact ms9 | exact ms10 | exact ms11 | exact ms12) (show vp_in (nI 461) 462 from vp_in_nI (by decide) (by decide)) dX7_makeBegun_133 ?_
          rw [show (461 : Int32).toNatClampNeg = 461 from by decide]
          try simp (disch := omega) only [zu_up, zup_in, zup_in0, zput_at, zput_a0, zput_zput, zup_eq, zup_ne, va_up_up, nI_clamp]
          refine aw_aload_0 dX7_makeBegun_134 ?_
          refine aw_getR fX7_11 (fun _ _ => rfl) mp11 hinX7 (by decide +kernel : Cond.fieldLink RX7 35 RX7 (TX7 11).2.1 (TX7 11).2.2.1 ∈ wsX7_makeBegun) ms0 dX7_makeBegun_135 ?_
          refine aw_iload_1 dX7_makeBegun_138 ?_
          refine aw_iaload (by first | exact ms1 | exact ms2 | exact ms3 | exact ms4 | exact ms5 | exact ms6 | exact ms7 | exact ms8 | exact ms9 | exact ms10 | exact ms11 | exact ms12) (vp_in_nI (show d < 16 by omega) (by decide)) dX7_makeBegun_139 ?_
          try simp (disch := omega) only [zu_up, zup_in, zup_in0, zput_at, zput_a0, zput_zput, zup_eq, zup_ne, va_up_up, nI_clamp]
          rw [e7]
          refine aw_iadd dX7_makeBegun_140 ?_
          refine aw_iastore (by first | exact ms1 | exact ms2 | exact ms3 | exact ms4 | exact ms5 | exact ms6 | exact ms7 | exact ms8 | exact ms9 | exact ms10 | exact ms11 | exact ms12) (show vp_in (nI 461) 462 from vp_in_nI (by decide) (by decide)) dX7_makeBegun_141 ?_
          rw [show (461 : Int32).toNatClampNeg = 461 from by decide]
          try simp (disch := omega) only [zu_up, zup_in, zup_in0, zput_at, zput_a0, zput_zput, zup_eq, zup_ne, va_up_up, nI_clamp]
          rw [show va_up (mEnd0 G' d a) 1 (upd (mEnd0 G' d a 1) 461 (mEnd0 G' d a 1 461 + G' 7 d)) = mEnd1 G' d a from rfl]
          refine aw_aload_0 dX7_makeBegun_142 ?_
          refine aw_aload_0 dX7_makeBegun_143 ?_
          refine aw_getR fX7_10 (fun _ _ => rfl) mp10 hinX7 (by decide +kernel : Cond.fieldLink RX7 32 RX7 (TX7 10).2.1 (TX7 10).2.2.1 ∈ wsX7_makeBegun) ms0 dX7_makeBegun_144 ?_
          refine aw_iload_1 dX7_makeBegun_147 ?_
          refine aw_iaload (by first | exact ms1 | exact ms2 | exact ms3 | exact ms4 | exact ms5 | exact ms6 | exact ms7 | exact ms8 | exact ms9 | exact ms10 | exact ms11 | exact ms12) (vp_in_nI (show d < 16 by omega) (by decide)) dX7_makeBegun_148 ?_
          try simp (disch := omega) only [zu_up, zup_in, zup_in0, zput_at, zput_a0, zput_zput, zup_eq, zup_ne, va_up_up, nI_clamp]
          rw [e6, h6]
          refine aw_aload_0 dX7_makeBegun_149 ?_
          refine aw_getR fX7_13 (fun _ _ => rfl) mp13 hinX7 (by decide +kernel : Cond.fieldLink RX7 41 RX7 (TX7 13).2.1 (TX7 13).2.2.1 ∈ wsX7_makeBegun) ms0 dX7_makeBegun_150 ?_
          refine aw_iload_1 dX7_makeBegun_153 ?_
          refine aw_iaload (by first | exact ms1 | exact ms2 | exact ms3 | exact ms4 | exact ms5 | exact ms6 | exact ms7 | exact ms8 | exact ms9 | exact ms10 | exact ms11 | exact ms12) (vp_in_nI (show d < 16 by omega) (by decide)) dX7_makeBegun_154 ?_
          try simp (disch := omega) only [zu_up, zup_in, zup_in0, zput_at, zput_a0, zput_zput, zup_eq, zup_ne, va_up_up, nI_clamp]
          rw [e9]
          refine aw_runv (zRun_V (c_X7_useUp (t := a) hM zVw.put ha (by exact mVes_stat mEnd1_pres.2.2.2 ha (hok a ha).2.2) (by exact mEnd1_pres.2.2.1 (Or.inl hl.2))) gX7_makeBegun_X7_useUp q_X7_useUp rfl (by decide) rfl ms0 rfl rfl (Nat.le_of_ble_eq_true rfl) dX7_makeBegun_155 ⟨Nat.le_refl _, Nat.le_refl _⟩) ?_
          rw [zput_zput, show mUse (mEnd1 G' d a) a (G' 9 d) = mEnd2 G' d a from rfl]
          refine aw_aload_0 dX7_makeBegun_158 ?_
          refine aw_dup rfl dX7_makeBegun_159 ?_
          refine aw_getI fX7_14 hinX7 (by decide +kernel : Cond.fieldLink RX7 91 RX7 (TX7 14).2.1 (TX7 14).2.2.1 ∈ wsX7_makeBegun) ms0 dX7_makeBegun_160 ?_
          try simp (disch := omega) only [zu_up, zup_in, zup_in0, zput_at, zput_a0, zput_zput, zup_eq, zup_ne, va_up_up]
          rw [e14]
          refine aw_iconst (v := 1) dX7_makeBegun_163 (by decide) ?_
          refine aw_isub dX7_makeBegun_164 ?_
          rw [show nI (d + 1) - 1 = nI d from pk_sub (a := d + 1) (b := 1) (by omega)]
          refine aw_putI fX7_14 rfl hinX7 (by decide +kernel : Cond.fieldLink RX7 91 RX7 (TX7 14).2.1 (TX7 14).2.2.1 ∈ wsX7_makeBegun) ms0 dX7_makeBegun_165 ?_
          try (simp (disch := omega) only [zu_up, zup_in, zup_in0, zput_at, zput_a0, zput_zput, zup_eq, zup_ne, va_up_up]; rw [show va_up (mEnd2 G' d a) 0 (upd (mEnd2 G' d a 0) 14 (nI d)) = mEnd G' d a from rfl])
          refine aw_goto (tgt := 0) dX7_makeBegun_168 (by decide) ?_
          exact ih (N - (i + 1)) (by omega) (i + 1) (mEnd G' d a) _ _ (by omega) rfl (by show mLoop i (it _ i _) = _; rw [hst]; exact (if_pos hl).trans (mStep_end hd ha h14 h6 h8 c39))
        · obtain ⟨⟨c, hc, hc8, hin⟩, -, -⟩ := hok a ha
          have hkc : k < c := by
            rw [hc8] at c39
            exact Classical.not_not.mp (fun h => c39 ((nI_leI (by omega) (by omega)).mpr (by omega)))
          obtain ⟨j, hj20, ej⟩ := hin k hkc
          refine aw_aload_0 dX7_makeBegun_42 ?_
          refine aw_getR fX7_12 (fun _ _ => rfl) mp12 hinX7 (by decide +kernel : Cond.fieldLink RX7 38 RX7 (TX7 12).2.1 (TX7 12).2.2.1 ∈ wsX7_makeBegun) ms0 dX7_makeBegun_43 ?_
          refine aw_iload_1 dX7_makeBegun_46 ?_
          refine aw_iaload (by first | exact ms1 | exact ms2 | exact ms3 | exact ms4 | exact ms5 | exact ms6 | exact ms7 | exact ms8 | exact ms9 | exact ms10 | exact ms11 | exact ms12) (vp_in_nI (show d < 16 by omega) (by decide)) dX7_makeBegun_47 ?_
          try simp (disch := omega) only [zu_up, zup_in, zup_in0, zput_at, zput_a0, zput_zput, zup_eq, zup_ne, va_up_up, nI_clamp]
          rw [h8]
          refine aw_istore_2 dX7_makeBegun_48 ?_
          refine aw_aload_0 dX7_makeBegun_49 ?_
          refine aw_getR fX7_12 (fun _ _ => rfl) mp12 hinX7 (by decide +kernel : Cond.fieldLink RX7 38 RX7 (TX7 12).2.1 (TX7 12).2.2.1 ∈ wsX7_makeBegun) ms0 dX7_makeBegun_50 ?_
          refine aw_iload_1 dX7_makeBegun_53 ?_
          refine aw_dup2 rfl rfl dX7_makeBegun_54 ?_
          refine aw_iaload (by first | exact ms1 | exact ms2 | exact ms3 | exact ms4 | exact ms5 | exact ms6 | exact ms7 | exact ms8 | exact ms9 | exact ms10 | exact ms11 | exact ms12) (vp_in_nI (show d < 16 by omega) (by decide)) dX7_makeBegun_55 ?_
          try simp (disch := omega) only [zu_up, zup_in, zup_in0, zput_at, zput_a0, zput_zput, zup_eq, zup_ne, va_up_up, nI_clamp]
          rw [h8]
          refine aw_iconst (v := 1) dX7_makeBegun_56 (by decide) ?_
          refine aw_iadd dX7_makeBegun_57 ?_
          rw [nI_1]
          refine aw_iastore (by first | exact ms1 | exact ms2 | exact ms3 | exact ms4 | exact ms5 | exact ms6 | exact ms7 | exact ms8 | exact ms9 | exact ms10 | exact ms11 | exact ms12) (vp_in_nI (show d < 16 by omega) (by decide)) dX7_makeBegun_58 ?_
          try simp (disch := omega) only [zu_up, zup_in, zup_in0, zput_at, zput_a0, zput_zput, zup_eq, zup_ne, va_up_up, nI_clamp]
          refine aw_aload_0 dX7_makeBegun_59 ?_
          refine aw_aload_0 dX7_makeBegun_60 ?_
          refine aw_aload_0 dX7_makeBegun_61 ?_
          refine aw_getR fX7_10 (fun _ _ => rfl) mp10 hinX7 (by decide +kernel : Cond.fieldLink RX7 32 RX7 (TX7 10).2.1 (TX7 10).2.2.1 ∈ wsX7_makeBegun) ms0 dX7_makeBegun_62 ?_
          refine aw_iload_1 dX7_makeBegun_65 ?_
          refine aw_iaload (by first | exact ms1 | exact ms2 | exact ms3 | exact ms4 | exact ms5 | exact ms6 | exact ms7 | exact ms8 | exact ms9 | exact ms10 | exact ms11 | exact ms12) (vp_in_nI (show d < 16 by omega) (by decide)) dX7_makeBegun_66 ?_
          try simp (disch := omega) only [zu_up, zup_in, zup_in0, zput_at, zput_a0, zput_zput, zup_eq, zup_ne, va_up_up, nI_clamp]
          rw [h6]
          refine aw_iload_2 dX7_makeBegun_67 ?_
          refine aw_run (zRun_V (c_X7_ingredientOf (t := a) (k := k) hM zVw.put (by omega)) gX7_makeBegun_X7_ingredientOf q_X7_ingredientOf rfl (by decide) rfl ms0 rfl rfl (Nat.le_of_ble_eq_true rfl) dX7_makeBegun_68 ⟨Nat.le_refl _, Nat.le_refl _⟩) ?_
          try simp (disch := omega) only [zu_up, zup_in, zup_in0, zput_at, zput_a0, zput_zput, zup_eq, zup_ne, va_up_up, nI_clamp]
          rw [ej]
          refine aw_aload_0 dX7_makeBegun_71 ?_
          refine aw_aload_0 dX7_makeBegun_72 ?_
          refine aw_getR fX7_10 (fun _ _ => rfl) mp10 hinX7 (by decide +kernel : Cond.fieldLink RX7 32 RX7 (TX7 10).2.1 (TX7 10).2.2.1 ∈ wsX7_makeBegun) ms0 dX7_makeBegun_73 ?_
          refine aw_iload_1 dX7_makeBegun_76 ?_
          refine aw_iaload (by first | exact ms1 | exact ms2 | exact ms3 | exact ms4 | exact ms5 | exact ms6 | exact ms7 | exact ms8 | exact ms9 | exact ms10 | exact ms11 | exact ms12) (vp_in_nI (show d < 16 by omega) (by decide)) dX7_makeBegun_77 ?_
          try simp (disch := omega) only [zu_up, zup_in, zup_in0, zput_at, zput_a0, zput_zput, zup_eq, zup_ne, va_up_up, nI_clamp]
          rw [h6]
          refine aw_iload_2 dX7_makeBegun_78 ?_
          refine aw_run (zRun_V (c_X7_amountOf (t := a) (k := k) hM zVw.put (by omega)) gX7_makeBegun_X7_amountOf q_X7_amountOf rfl (by decide) rfl ms0 rfl rfl (Nat.le_of_ble_eq_true rfl) dX7_makeBegun_79 ⟨Nat.le_refl _, Nat.le_refl _⟩) ?_
          try simp (disch := omega) only [zu_up, zup_in, zup_in0, zput_at, zput_a0, zput_zput, zup_eq, zup_ne, va_up_up, nI_clamp]
          refine aw_aload_0 dX7_makeBegun_82 ?_
          refine aw_getR fX7_11 (fun _ _ => rfl) mp11 hinX7 (by decide +kernel : Cond.fieldLink RX7 35 RX7 (TX7 11).2.1 (TX7 11).2.2.1 ∈ wsX7_makeBegun) ms0 dX7_makeBegun_83 ?_
          refine aw_iload_1 dX7_makeBegun_86 ?_
          refine aw_iaload (by first | exact ms1 | exact ms2 | exact ms3 | exact ms4 | exact ms5 | exact ms6 | exact ms7 | exact ms8 | exact ms9 | exact ms10 | exact ms11 | exact ms12) (vp_in_nI (show d < 16 by omega) (by decide)) dX7_makeBegun_87 ?_
          try simp (disch := omega) only [zu_up, zup_in, zup_in0, zput_at, zput_a0, zput_zput, zup_eq, zup_ne, va_up_up, nI_clamp]
          refine aw_imul dX7_makeBegun_88 ?_
          refine aw_runv (zRun_V (c_X7_take (t := j) (d := d + 1) hM zVw.put hj20 (by rw [zup_ne (by decide)]; exact hok) (by rw [zup_ne (by decide)]; exact Or.inl hl.2) (by omega) (by rw [zup_ne (by decide)]; exact h14)) gX7_makeBegun_X7_take q_X7_take rfl (by decide) rfl ms0 rfl rfl (Nat.le_of_ble_eq_true rfl) dX7_makeBegun_89 ⟨Nat.le_refl _, Nat.le_refl _⟩) ?_
          rw [zput_zput, show mTake (va_up G' 8 (upd (G' 8) d (nI (k + 1)))) (d + 1) j (G' 1 (23 * a + (9 + 2 * k + 1)) * G' 7 d) = mMore G' d a k by unfold mMore; rw [ej, nI_clamp (show j < 2 ^ 31 by omega)]]
          refine aw_goto (tgt := 168) dX7_makeBegun_92 (by decide) ?_
          try (simp (disch := omega) only [zu_up, zup_in, zup_in0, zput_at, zput_a0, zput_zput, zup_eq, zup_ne, va_up_up]; rw [show va_up (mEnd2 G' d a) 0 (upd (mEnd2 G' d a 0) 14 (nI d)) = mEnd G' d a from rfl])
          refine aw_goto (tgt := 0) dX7_makeBegun_168 (by decide) ?_
          exact ih (N - (i + 1)) (by omega) (i + 1) (mMore G' d a k) _ _ (by omega) rfl (by show mLoop i (it _ i _) = _; rw [hst]; exact (if_pos hl).trans (mStep_more hd ha hk h14 h6 h8 c39))
  exact L0 _ 0 _ _ _ (Nat.zero_le _) rfl rfl
