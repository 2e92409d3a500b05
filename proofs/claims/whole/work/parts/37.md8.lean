/-! ===== 37.md8: the model's ranks ===== -/
def mMax (r m : Int32) : Int32 := if r ≤ m then m else r
def mRkI (w R : Nat → Int32) (p : Nat) (m : Int32) : Nat → Int32 := fun n => it (fun i m => mMax (R (w (23 * p + (20 + i))).toNatClampNeg) m) n m
def mRkS (w R : Nat → Int32) (t k : Nat) (m : Int32) : Int32 := mRkI w R (w (23 * t + (9 + 2 * k))).toNatClampNeg (mMax (R (w (23 * t + (9 + 2 * k))).toNatClampNeg) m) (w (23 * (w (23 * t + (9 + 2 * k))).toNatClampNeg + 19)).toNatClampNeg
def mRk (w R : Nat → Int32) (t : Nat) : Int32 := it (mRkS w R t) (w (23 * t + 8)).toNatClampNeg 0
def mRank (w R : Nat → Int32) (t : Nat) : Int32 := if mMade w t = 0 then 0 else mRk w R t + 1
def mRnd (w R : Nat → Int32) : Nat → Nat → Int32 := fun n => it (fun t R => upd R t (mRank w R t)) n R
def mRanks (w R : Nat → Int32) : Nat → Nat → Int32 := fun n => it (fun _ R => mRnd w R 20) n (cFill 20 0 R)
def mBadRank (R : Nat → Int32) : Nat → Bool := anyLt (fun t => !decide (R t ≤ 8))
theorem cFill_s {k : Nat} {v : Int32} {f : Nat → Int32} : upd (cFill k v f) k v = cFill (k + 1) v f := by
  funext j
  unfold cFill
  by_cases h : j = k
  · subst h
    rw [upd_eq, if_pos (by omega)]
  · rw [upd_ne h]
    by_cases h2 : j < k
    · rw [if_pos h2, if_pos (by omega)]
    · rw [if_neg h2, if_neg (by omega)]

abbrev mX7_rankBy : ZM := (cX7_rankBy, RX7, wsX7_rankBy, 3, 0, 0, (some .int), 7, yX7_rankBy.name)
set_option maxHeartbeats 1000000 in
set_option maxRecDepth 100000 in
theorem c_X7_rankBy {sh : zSh} {F : Nat → Nat → Int32} {P : Nat → Nat → Option Nat} {μ : Nat} {G : Nat → Nat → Int32} {t : Nat} (hM : zMd sh P μ) (hG : zVw F μ 13 G) (ht : t < 20) (hok : mOk (G 1)) : zMet yX7_rankBy wsX7_rankBy (3) (0) (0) [.ref μ, .int (nI t)] sh F P (some (.int (mRank (G 1) (G 5) t))) sh F P := by
  refine zMet.of (by decide) rfl (Nat.le_of_ble_eq_true rfl) (by simp [Value.category]) ?_
  intro X ρ
  show AW mX7_rankBy X (zMQ mX7_rankBy X (some (.int (mRank (G 1) (G 5) t))) sh F P) 0 [some (.ref μ), some (.int (nI t)), none, none, none, none, none] [] ρ sh F P 0 0
  have hinX7 : ∀ w ∈ u_ws RX7 TX7 29, w ∈ wsX7_rankBy := by decide +kernel
  obtain ⟨ms0, ⟨mp0, mp1, mp3, mp5, mp9, mp10, mp11, mp12, mp13, mp17, mp21, mp28⟩, ms1, ms2, ms3, ms4, ms5, ms6, ms7, ms8, ms9, ms10, ms11, ms12⟩ := id hM
  refine aw_cF (F' := zput F μ 13 G) (zput_view hG).symm ?_
  obtain ⟨⟨c, hc, h8, hin⟩, -, hvv⟩ := hok t ht
  have L49 : ∀ (m i p k c2 : Nat) (x : Int32) (o6 : Option Value), p < 20 → c2 ≤ 3 → G 1 (23 * p + 19) = nI c2 → (∀ k, k < c2 → ∃ j, j < 20 ∧ G 1 (23 * p + (20 + k)) = nI j) → i ≤ c2 → c2 - i = m → (∀ o5 o6 : Option Value, AW mX7_rankBy X (zMQ mX7_rankBy X (some (.int (mRank (G 1) (G 5) t))) sh F P) 104 [some (.ref μ), some (.int (nI t)), some (.int (mRkI (G 1) (G 5) p x c2)), some (.int (nI k)), some (.int (nI p)), o5, o6] [] ρ sh (zput F μ 13 G) P 0 0) → AW mX7_rankBy X (zMQ mX7_rankBy X (some (.int (mRank (G 1) (G 5) t))) sh F P) 49 [some (.ref μ), some (.int (nI t)), some (.int (mRkI (G 1) (G 5) p x i)), some (.int (nI k)), some (.int (nI p)), some (.int (nI i)), o6] [] ρ sh (zput F μ 13 G) P 0 0 := by
    intro m
    induction m using Nat.strongRecOn with
    | _ m ih =>
    intro i p k c2 x o6 hp hc2 h19 hj hi hm hk
    refine aw_iload_5 dX7_rankBy_49 ?_
    refine aw_aload_0 dX7_rankBy_51 ?_
    refine aw_iload_4 dX7_rankBy_52 ?_
    refine aw_bipush (v := 19) dX7_rankBy_54 (by decide) ?_
    refine aw_run (zRun_V (c_X7_of (t := p) (k := 19) hM zVw.put (by omega)) gX7_rankBy_X7_of q_X7_of rfl (by decide) rfl ms0 rfl rfl (Nat.le_of_ble_eq_true rfl) dX7_rankBy_56 ⟨Nat.le_refl _, Nat.le_refl _⟩) ?_
    rw [h19]
    refine aw_icmp_ge (tgt := 104) dX7_rankBy_59 (by decide) (fun c59 => ?_) (fun c59 => ?_)
    · rw [zend hi (by omega) c59]
      exact hk _ _
    · have hlt : i < c2 := zlt hi (by omega) c59
      obtain ⟨j, hj20, ej⟩ := hj i hlt
      refine aw_aload_0 dX7_rankBy_62 ?_
      refine aw_iload_4 dX7_rankBy_63 ?_
      refine aw_bipush (v := 20) dX7_rankBy_65 (by decide) ?_
      refine aw_iload_5 dX7_rankBy_67 ?_
      refine aw_iadd dX7_rankBy_69 ?_
      rw [m20]
      refine aw_run (zRun_V (c_X7_of (t := p) (k := 20 + i) hM zVw.put (by omega)) gX7_rankBy_X7_of q_X7_of rfl (by decide) rfl ms0 rfl rfl (Nat.le_of_ble_eq_true rfl) dX7_rankBy_70 ⟨Nat.le_refl _, Nat.le_refl _⟩) ?_
      rw [ej]
      refine aw_istore_6 dX7_rankBy_73 ?_
      refine aw_aload_0 dX7_rankBy_75 ?_
      refine aw_getR fX7_9 (fun _ _ => rfl) mp9 hinX7 (by decide +kernel : Cond.fieldLink RX7 29 RX7 (TX7 9).2.1 (TX7 9).2.2.1 ∈ wsX7_rankBy) ms0 dX7_rankBy_76 ?_
      refine aw_iload_6 dX7_rankBy_79 ?_
      refine aw_iaload (by first | exact ms1 | exact ms2 | exact ms3 | exact ms4 | exact ms5 | exact ms6 | exact ms7 | exact ms8 | exact ms9 | exact ms10 | exact ms11 | exact ms12) (vp_in_nI hj20 (by decide)) dX7_rankBy_81 ?_
      try simp (disch := omega) only [zu_up, zup_in, zup_in0, zput_at, zput_a0, zput_zput, zup_eq, zup_ne, va_up_up, nI_clamp]
      refine aw_iload_2 dX7_rankBy_82 ?_
      refine aw_icmp_le (tgt := 96) dX7_rankBy_83 (by decide) (fun c83 => ?_) (fun c83 => ?_)
      · refine aw_iload_2 dX7_rankBy_96 ?_
        refine aw_top (x' := mRkI (G 1) (G 5) p x (i + 1)) (by show mMax (G 5 (G 1 (23 * p + (20 + i))).toNatClampNeg) (mRkI (G 1) (G 5) p x i) = _; rw [ej, nI_clamp (show j < 2 ^ 31 by omega)]; unfold mMax; first | exact if_pos c83 | exact if_neg c83) ?_
        refine aw_istore_2 dX7_rankBy_97 ?_
        refine aw_iinc_5 (v := 1) (by decide) dX7_rankBy_98 ?_
        refine aw_goto (tgt := 49) dX7_rankBy_101 (by decide) ?_
        rw [nI_1]
        exact ih (c2 - (i + 1)) (by omega) (i + 1) p k c2 x _ hp hc2 h19 hj (by omega) rfl hk
      · refine aw_aload_0 dX7_rankBy_86 ?_
        refine aw_getR fX7_9 (fun _ _ => rfl) mp9 hinX7 (by decide +kernel : Cond.fieldLink RX7 29 RX7 (TX7 9).2.1 (TX7 9).2.2.1 ∈ wsX7_rankBy) ms0 dX7_rankBy_87 ?_
        refine aw_iload_6 dX7_rankBy_90 ?_
        refine aw_iaload (by first | exact ms1 | exact ms2 | exact ms3 | exact ms4 | exact ms5 | exact ms6 | exact ms7 | exact ms8 | exact ms9 | exact ms10 | exact ms11 | exact ms12) (vp_in_nI hj20 (by decide)) dX7_rankBy_92 ?_
        try simp (disch := omega) only [zu_up, zup_in, zup_in0, zput_at, zput_a0, zput_zput, zup_eq, zup_ne, va_up_up, nI_clamp]
        refine aw_goto (tgt := 97) dX7_rankBy_93 (by decide) ?_
        refine aw_top (x' := mRkI (G 1) (G 5) p x (i + 1)) (by show mMax (G 5 (G 1 (23 * p + (20 + i))).toNatClampNeg) (mRkI (G 1) (G 5) p x i) = _; rw [ej, nI_clamp (show j < 2 ^ 31 by omega)]; unfold mMax; first | exact if_pos c83 | exact if_neg c83) ?_
        refine aw_istore_2 dX7_rankBy_97 ?_
        refine aw_iinc_5 (v := 1) (by decide) dX7_rankBy_98 ?_
        refine aw_goto (tgt := 49) dX7_rankBy_101 (by decide) ?_
        rw [nI_1]
        exact ih (c2 - (i + 1)) (by omega) (i + 1) p k c2 x _ hp hc2 h19 hj (by omega) rfl hk
  have L4 : ∀ (m k : Nat) (o4 o5 o6 : Option Value), k ≤ c → c - k = m → AW mX7_rankBy X (zMQ mX7_rankBy X (some (.int (mRank (G 1) (G 5) t))) sh F P) 4 [some (.ref μ), some (.int (nI t)), some (.int (it (mRkS (G 1) (G 5) t) k 0)), some (.int (nI k)), o4, o5, o6] [] ρ sh (zput F μ 13 G) P 0 0 := by
    intro m
    induction m using Nat.strongRecOn with
    | _ m ih =>
    intro k o4 o5 o6 hk hm
    refine aw_iload_3 dX7_rankBy_4 ?_
    refine aw_aload_0 dX7_rankBy_5 ?_
    refine aw_iload_1 dX7_rankBy_6 ?_
    refine aw_bipush (v := 8) dX7_rankBy_7 (by decide) ?_
    refine aw_run (zRun_V (c_X7_of (t := t) (k := 8) hM zVw.put (by omega)) gX7_rankBy_X7_of q_X7_of rfl (by decide) rfl ms0 rfl rfl (Nat.le_of_ble_eq_true rfl) dX7_rankBy_9 ⟨Nat.le_refl _, Nat.le_refl _⟩) ?_
    rw [h8]
    refine aw_icmp_ge (tgt := 110) dX7_rankBy_12 (by decide) (fun c12 => ?_) (fun c12 => ?_)
    · have hE : it (mRkS (G 1) (G 5) t) k 0 = mRk (G 1) (G 5) t := by
        unfold mRk
        rw [h8, nI_clamp (by omega), ← zend hk (by omega) c12]
      rw [hE]
      refine aw_aload_0 dX7_rankBy_110 ?_
      refine aw_iload_1 dX7_rankBy_111 ?_
      refine aw_run (zRun_V (c_X7_isMade (t := t) hM zVw.put ht) gX7_rankBy_X7_isMade q_X7_isMade rfl (by decide) rfl ms0 rfl rfl (Nat.le_of_ble_eq_true rfl) dX7_rankBy_112 ⟨Nat.le_refl _, Nat.le_refl _⟩) ?_
      refine aw_if_eq (tgt := 124) dX7_rankBy_115 (by decide) (fun c115 => ?_) (fun c115 => ?_)
      · refine aw_iconst (v := 0) dX7_rankBy_124 (by decide) ?_
        exact aw_ireturn rfl dX7_rankBy_125 ⟨Nat.zero_le _, Nat.zero_le _⟩ (by unfold mRank; first | rw [if_pos c115] | rw [if_neg c115]) rfl (zput_view hG) rfl
      · refine aw_iload_2 dX7_rankBy_118 ?_
        refine aw_iconst (v := 1) dX7_rankBy_119 (by decide) ?_
        refine aw_iadd dX7_rankBy_120 ?_
        refine aw_goto (tgt := 125) dX7_rankBy_121 (by decide) ?_
        exact aw_ireturn rfl dX7_rankBy_125 ⟨Nat.zero_le _, Nat.zero_le _⟩ (by unfold mRank; first | rw [if_pos c115] | rw [if_neg c115]) rfl (zput_view hG) rfl
    · have hlt : k < c := zlt hk (by omega) c12
      obtain ⟨p, hp, ep⟩ := hin k hlt
      refine aw_aload_0 dX7_rankBy_15 ?_
      refine aw_iload_1 dX7_rankBy_16 ?_
      refine aw_iload_3 dX7_rankBy_17 ?_
      refine aw_run (zRun_V (c_X7_ingredientOf (t := t) (k := k) hM zVw.put (by omega)) gX7_rankBy_X7_ingredientOf q_X7_ingredientOf rfl (by decide) rfl ms0 rfl rfl (Nat.le_of_ble_eq_true rfl) dX7_rankBy_18 ⟨Nat.le_refl _, Nat.le_refl _⟩) ?_
      rw [ep]
      refine aw_istore_4 dX7_rankBy_21 ?_
      refine aw_aload_0 dX7_rankBy_23 ?_
      refine aw_getR fX7_9 (fun _ _ => rfl) mp9 hinX7 (by decide +kernel : Cond.fieldLink RX7 29 RX7 (TX7 9).2.1 (TX7 9).2.2.1 ∈ wsX7_rankBy) ms0 dX7_rankBy_24 ?_
      refine aw_iload_4 dX7_rankBy_27 ?_
      refine aw_iaload (by first | exact ms1 | exact ms2 | exact ms3 | exact ms4 | exact ms5 | exact ms6 | exact ms7 | exact ms8 | exact ms9 | exact ms10 | exact ms11 | exact ms12) (vp_in_nI hp (by decide)) dX7_rankBy_29 ?_
      try simp (disch := omega) only [zu_up, zup_in, zup_in0, zput_at, zput_a0, zput_zput, zup_eq, zup_ne, va_up_up, nI_clamp]
      refine aw_iload_2 dX7_rankBy_30 ?_
      refine aw_icmp_le (tgt := 44) dX7_rankBy_31 (by decide) (fun c31 => ?_) (fun c31 => ?_)
      · refine aw_iload_2 dX7_rankBy_44 ?_
        refine aw_top (x' := mMax (G 5 p) (it (mRkS (G 1) (G 5) t) k 0)) (by unfold mMax; first | exact if_pos c31 | exact if_neg c31) ?_
        refine aw_istore_2 dX7_rankBy_45 ?_
        refine aw_iconst (v := 0) dX7_rankBy_46 (by decide) ?_
        refine aw_istore_5 dX7_rankBy_47 ?_
        obtain ⟨-, ⟨c2, hc2, h19, hj⟩, -⟩ := hok p hp
        refine L49 _ 0 p k c2 (mMax (G 5 p) (it (mRkS (G 1) (G 5) t) k 0)) _ hp hc2 h19 hj (Nat.zero_le _) rfl (fun o5 o6 => ?_)
        refine aw_iinc_3 (v := 1) (by decide) dX7_rankBy_104 ?_
        refine aw_goto (tgt := 4) dX7_rankBy_107 (by decide) ?_
        rw [nI_1]
        have e9 : mRkI (G 1) (G 5) p (mMax (G 5 p) (it (mRkS (G 1) (G 5) t) k 0)) c2 = it (mRkS (G 1) (G 5) t) (k + 1) 0 := by
          show _ = mRkS (G 1) (G 5) t k _
          unfold mRkS
          rw [ep, nI_clamp (show p < 2 ^ 31 by omega), h19, nI_clamp (show c2 < 2 ^ 31 by omega)]
        rw [e9]
        exact ih (c - (k + 1)) (by omega) (k + 1) _ _ _ (by omega) rfl
      · refine aw_aload_0 dX7_rankBy_34 ?_
        refine aw_getR fX7_9 (fun _ _ => rfl) mp9 hinX7 (by decide +kernel : Cond.fieldLink RX7 29 RX7 (TX7 9).2.1 (TX7 9).2.2.1 ∈ wsX7_rankBy) ms0 dX7_rankBy_35 ?_
        refine aw_iload_4 dX7_rankBy_38 ?_
        refine aw_iaload (by first | exact ms1 | exact ms2 | exact ms3 | exact ms4 | exact ms5 | exact ms6 | exact ms7 | exact ms8 | exact ms9 | exact ms10 | exact ms11 | exact ms12) (vp_in_nI hp (by decide)) dX7_rankBy_40 ?_
        try simp (disch := omega) only [zu_up, zup_in, zup_in0, zput_at, zput_a0, zput_zput, zup_eq, zup_ne, va_up_up, nI_clamp]
        refine aw_goto (tgt := 45) dX7_rankBy_41 (by decide) ?_
        refine aw_top (x' := mMax (G 5 p) (it (mRkS (G 1) (G 5) t) k 0)) (by unfold mMax; first | exact if_pos c31 | exact if_neg c31) ?_
        refine aw_istore_2 dX7_rankBy_45 ?_
        refine aw_iconst (v := 0) dX7_rankBy_46 (by decide) ?_
        refine aw_istore_5 dX7_rankBy_47 ?_
        obtain ⟨-, ⟨c2, hc2, h19, hj⟩, -⟩ := hok p hp
        refine L49 _ 0 p k c2 (mMax (G 5 p) (it (mRkS (G 1) (G 5) t) k 0)) _ hp hc2 h19 hj (Nat.zero_le _) rfl (fun o5 o6 => ?_)
        refine aw_iinc_3 (v := 1) (by decide) dX7_rankBy_104 ?_
        refine aw_goto (tgt := 4) dX7_rankBy_107 (by decide) ?_
        rw [nI_1]
        have e9 : mRkI (G 1) (G 5) p (mMax (G 5 p) (it (mRkS (G 1) (G 5) t) k 0)) c2 = it (mRkS (G 1) (G 5) t) (k + 1) 0 := by
          show _ = mRkS (G 1) (G 5) t k _
          unfold mRkS
          rw [ep, nI_clamp (show p < 2 ^ 31 by omega), h19, nI_clamp (show c2 < 2 ^ 31 by omega)]
        rw [e9]
        exact ih (c - (k + 1)) (by omega) (k + 1) _ _ _ (by omega) rfl
  refine aw_iconst (v := 0) dX7_rankBy_0 (by decide) ?_
  refine aw_istore_2 dX7_rankBy_1 ?_
  refine aw_iconst (v := 0) dX7_rankBy_2 (by decide) ?_
  refine aw_istore_3 dX7_rankBy_3 ?_
  exact L4 _ 0 _ _ _ (Nat.zero_le _) rfl

abbrev mX7_areRanks : ZM := (cX7_areRanks, RX7, wsX7_areRanks, 4, 0, 0, (some .boolean), 3, yX7_areRanks.name)
set_option maxHeartbeats 1000000 in
set_option maxRecDepth 100000 in
theorem c_X7_areRanks {sh : zSh} {F : Nat → Nat → Int32} {P : Nat → Nat → Option Nat} {μ : Nat} {G : Nat → Nat → Int32} (hM : zMd sh P μ) (hG : zVw F μ 13 G) (hok : mOk (G 1)) : zMet yX7_areRanks wsX7_areRanks (4) (0) (0) [.ref μ] sh F P (some (.int (if mBadRank (mRanks (G 1) (G 5) 12) 20 = true then 0 else 1))) sh (zput F μ 13 (va_up G 5 (mRanks (G 1) (G 5) 12))) P := by
  refine zMet.of (by decide) rfl (Nat.le_of_ble_eq_true rfl) (by simp [Value.category]) ?_
  intro X ρ
  show AW mX7_areRanks X (zMQ mX7_areRanks X (some (.int (if mBadRank (mRanks (G 1) (G 5) 12) 20 = true then 0 else 1))) sh (zput F μ 13 (va_up G 5 (mRanks (G 1) (G 5) 12))) P) 0 [some (.ref μ), none, none] [] ρ sh F P 0 0
  have hinX7 : ∀ w ∈ u_ws RX7 TX7 29, w ∈ wsX7_areRanks := by decide +kernel
  obtain ⟨ms0, ⟨mp0, mp1, mp3, mp5, mp9, mp10, mp11, mp12, mp13, mp17, mp21, mp28⟩, ms1, ms2, ms3, ms4, ms5, ms6, ms7, ms8, ms9, ms10, ms11, ms12⟩ := id hM
  refine aw_cF (F' := zput F μ 13 G) (zput_view hG).symm ?_
  have L62 : ∀ (m k : Nat) (o2 : Option Value), k ≤ 20 → 20 - k = m → mBadRank (mRanks (G 1) (G 5) 12) k = false → AW mX7_areRanks X (zMQ mX7_areRanks X (some (.int (if mBadRank (mRanks (G 1) (G 5) 12) 20 = true then 0 else 1))) sh (zput F μ 13 (va_up G 5 (mRanks (G 1) (G 5) 12))) P) 62 [some (.ref μ), some (.int (nI k)), o2] [] ρ sh (zput F μ 13 (va_up G 5 (mRanks (G 1) (G 5) 12))) P 0 0 := by
    intro m
    induction m using Nat.strongRecOn with
    | _ m ih =>
    intro k o2 hk hm hn
    refine aw_iload_1 dX7_areRanks_62 ?_
    refine aw_bipush (v := 20) dX7_areRanks_63 (by decide) ?_
    refine aw_icmp_ge (tgt := 87) dX7_areRanks_65 (by decide) (fun c65 => ?_) (fun c65 => ?_)
    · refine aw_iconst (v := 1) dX7_areRanks_87 (by decide) ?_
      exact aw_zreturn rfl dX7_areRanks_88 ⟨Nat.zero_le _, Nat.zero_le _⟩ (by decide) (by rw [zend (n := 20) hk (by decide) c65] at hn; rw [hn]; rfl) rfl rfl rfl
    · have hlt : k < 20 := zlt (n := 20) hk (by decide) c65
      refine aw_aload_0 dX7_areRanks_68 ?_
      refine aw_getR fX7_9 (fun _ _ => rfl) mp9 hinX7 (by decide +kernel : Cond.fieldLink RX7 29 RX7 (TX7 9).2.1 (TX7 9).2.2.1 ∈ wsX7_areRanks) ms0 dX7_areRanks_69 ?_
      refine aw_iload_1 dX7_areRanks_72 ?_
      refine aw_iaload (by first | exact ms1 | exact ms2 | exact ms3 | exact ms4 | exact ms5 | exact ms6 | exact ms7 | exact ms8 | exact ms9 | exact ms10 | exact ms11 | exact ms12) (vp_in_nI hlt (by decide)) dX7_areRanks_73 ?_
      try simp (disch := omega) only [zu_up, zup_in, zup_in0, zput_at, zput_a0, zput_zput, zup_eq, zup_ne, va_up_up, nI_clamp]
      refine aw_bipush (v := 8) dX7_areRanks_74 (by decide) ?_
      refine aw_icmp_le (tgt := 81) dX7_areRanks_76 (by decide) (fun c76 => ?_) (fun c76 => ?_)
      · refine aw_iinc_1 (v := 1) (by decide) dX7_areRanks_81 ?_
        refine aw_goto (tgt := 62) dX7_areRanks_84 (by decide) ?_
        rw [nI_1]
        exact ih (20 - (k + 1)) (by omega) (k + 1) _ (by omega) rfl (by unfold mBadRank at hn ⊢; simp [anyLt, hn, c76])
      · refine aw_iconst (v := 0) dX7_areRanks_79 (by decide) ?_
        exact aw_zreturn rfl dX7_areRanks_80 ⟨Nat.zero_le _, Nat.zero_le _⟩ (by decide) (by rw [show mBadRank (mRanks (G 1) (G 5) 12) 20 = true from anyLt_true hlt (by simp [c76])]; rfl) rfl rfl rfl
  have L31 : ∀ (m k r : Nat) (R : Nat → Int32), k ≤ 20 → 20 - k = m → (∀ o2 : Option Value, AW mX7_areRanks X (zMQ mX7_areRanks X (some (.int (if mBadRank (mRanks (G 1) (G 5) 12) 20 = true then 0 else 1))) sh (zput F μ 13 (va_up G 5 (mRanks (G 1) (G 5) 12))) P) 54 [some (.ref μ), some (.int (nI r)), o2] [] ρ sh (zput F μ 13 (va_up G 5 (mRnd (G 1) R 20))) P 0 0) → AW mX7_areRanks X (zMQ mX7_areRanks X (some (.int (if mBadRank (mRanks (G 1) (G 5) 12) 20 = true then 0 else 1))) sh (zput F μ 13 (va_up G 5 (mRanks (G 1) (G 5) 12))) P) 31 [some (.ref μ), some (.int (nI r)), some (.int (nI k))] [] ρ sh (zput F μ 13 (va_up G 5 (mRnd (G 1) R k))) P 0 0 := by
    intro m
    induction m using Nat.strongRecOn with
    | _ m ih =>
    intro k r R hk hm hc
    refine aw_iload_2 dX7_areRanks_31 ?_
    refine aw_bipush (v := 20) dX7_areRanks_32 (by decide) ?_
    refine aw_icmp_ge (tgt := 54) dX7_areRanks_34 (by decide) (fun c34 => ?_) (fun c34 => ?_)
    · rw [zend (n := 20) hk (by decide) c34]
      exact hc _
    · have hlt : k < 20 := zlt (n := 20) hk (by decide) c34
      refine aw_aload_0 dX7_areRanks_37 ?_
      refine aw_getR fX7_9 (fun _ _ => rfl) mp9 hinX7 (by decide +kernel : Cond.fieldLink RX7 29 RX7 (TX7 9).2.1 (TX7 9).2.2.1 ∈ wsX7_areRanks) ms0 dX7_areRanks_38 ?_
      refine aw_iload_2 dX7_areRanks_41 ?_
      refine aw_aload_0 dX7_areRanks_42 ?_
      refine aw_iload_2 dX7_areRanks_43 ?_
      refine aw_run (zRun_V (c_X7_rankBy (t := k) hM zVw.put hlt (by rw [zup_ne (by decide)]; exact hok)) gX7_areRanks_X7_rankBy q_X7_rankBy rfl (by decide) rfl ms0 rfl rfl (Nat.le_of_ble_eq_true rfl) dX7_areRanks_44 ⟨Nat.le_refl _, Nat.le_refl _⟩) ?_
      try simp (disch := omega) only [zu_up, zup_in, zup_in0, zput_at, zput_a0, zput_zput, zup_eq, zup_ne, va_up_up, nI_clamp]
      refine aw_iastore (by first | exact ms1 | exact ms2 | exact ms3 | exact ms4 | exact ms5 | exact ms6 | exact ms7 | exact ms8 | exact ms9 | exact ms10 | exact ms11 | exact ms12) (vp_in_nI hlt (by decide)) dX7_areRanks_47 ?_
      simp (disch := omega) only [zu_up, zup_in, zup_in0, zput_at, zput_a0, zput_zput, zup_eq, zup_ne, va_up_up, nI_clamp]
      refine aw_iinc_2 (v := 1) (by decide) dX7_areRanks_48 ?_
      refine aw_goto (tgt := 31) dX7_areRanks_51 (by decide) ?_
      rw [nI_1]
      exact ih (20 - (k + 1)) (by omega) (k + 1) r R (by omega) rfl hc
  have L23 : ∀ (m r : Nat) (o2 : Option Value), r ≤ 12 → 12 - r = m → AW mX7_areRanks X (zMQ mX7_areRanks X (some (.int (if mBadRank (mRanks (G 1) (G 5) 12) 20 = true then 0 else 1))) sh (zput F μ 13 (va_up G 5 (mRanks (G 1) (G 5) 12))) P) 23 [some (.ref μ), some (.int (nI r)), o2] [] ρ sh (zput F μ 13 (va_up G 5 (mRanks (G 1) (G 5) r))) P 0 0 := by
    intro m
    induction m using Nat.strongRecOn with
    | _ m ih =>
    intro r o2 hr hm
    refine aw_iload_1 dX7_areRanks_23 ?_
    refine aw_bipush (v := 12) dX7_areRanks_24 (by decide) ?_
    refine aw_icmp_ge (tgt := 60) dX7_areRanks_26 (by decide) (fun c26 => ?_) (fun c26 => ?_)
    · refine aw_iconst (v := 0) dX7_areRanks_60 (by decide) ?_
      refine aw_istore_1 dX7_areRanks_61 ?_
      rw [show r = 12 from zend (n := 12) hr (by decide) c26]
      exact L62 _ 0 _ (Nat.zero_le _) rfl rfl
    · have hl12 : r < 12 := zlt (n := 12) hr (by decide) c26
      refine aw_iconst (v := 0) dX7_areRanks_29 (by decide) ?_
      refine aw_istore_2 dX7_areRanks_30 ?_
      refine L31 _ 0 r (mRanks (G 1) (G 5) r) (Nat.zero_le _) rfl (fun o2 => ?_)
      refine aw_iinc_1 (v := 1) (by decide) dX7_areRanks_54 ?_
      refine aw_goto (tgt := 23) dX7_areRanks_57 (by decide) ?_
      rw [nI_1]
      exact ih (12 - (r + 1)) (by omega) (r + 1) _ (by omega) rfl
  have L2 : ∀ (m k : Nat) (o2 : Option Value), k ≤ 20 → 20 - k = m → AW mX7_areRanks X (zMQ mX7_areRanks X (some (.int (if mBadRank (mRanks (G 1) (G 5) 12) 20 = true then 0 else 1))) sh (zput F μ 13 (va_up G 5 (mRanks (G 1) (G 5) 12))) P) 2 [some (.ref μ), some (.int (nI k)), o2] [] ρ sh (zput F μ 13 (va_up G 5 (cFill k 0 (G 5)))) P 0 0 := by
    intro m
    induction m using Nat.strongRecOn with
    | _ m ih =>
    intro k o2 hk hm
    refine aw_iload_1 dX7_areRanks_2 ?_
    refine aw_bipush (v := 20) dX7_areRanks_3 (by decide) ?_
    refine aw_icmp_ge (tgt := 21) dX7_areRanks_5 (by decide) (fun c5 => ?_) (fun c5 => ?_)
    · refine aw_iconst (v := 0) dX7_areRanks_21 (by decide) ?_
      refine aw_istore_1 dX7_areRanks_22 ?_
      rw [zend (n := 20) hk (by decide) c5]
      exact L23 _ 0 _ (Nat.zero_le _) rfl
    · have hlt : k < 20 := zlt (n := 20) hk (by decide) c5
      refine aw_aload_0 dX7_areRanks_8 ?_
      refine aw_getR fX7_9 (fun _ _ => rfl) mp9 hinX7 (by decide +kernel : Cond.fieldLink RX7 29 RX7 (TX7 9).2.1 (TX7 9).2.2.1 ∈ wsX7_areRanks) ms0 dX7_areRanks_9 ?_
      refine aw_iload_1 dX7_areRanks_12 ?_
      refine aw_iconst (v := 0) dX7_areRanks_13 (by decide) ?_
      refine aw_iastore (by first | exact ms1 | exact ms2 | exact ms3 | exact ms4 | exact ms5 | exact ms6 | exact ms7 | exact ms8 | exact ms9 | exact ms10 | exact ms11 | exact ms12) (vp_in_nI hlt (by decide)) dX7_areRanks_14 ?_
      simp (disch := omega) only [zu_up, zup_in, zup_in0, zput_at, zput_a0, zput_zput, zup_eq, zup_ne, va_up_up, nI_clamp]
      rw [cFill_s]
      refine aw_iinc_1 (v := 1) (by decide) dX7_areRanks_15 ?_
      refine aw_goto (tgt := 2) dX7_areRanks_18 (by decide) ?_
      rw [nI_1]
      exact ih (20 - (k + 1)) (by omega) (k + 1) _ (by omega) rfl
  refine aw_iconst (v := 0) dX7_areRanks_0 (by decide) ?_
  refine aw_istore_1 dX7_areRanks_1 ?_
  refine aw_cF (F' := zput F μ 13 (va_up G 5 (cFill 0 0 (G 5)))) (by rw [show cFill 0 0 (G 5) = G 5 from rfl, va_up_same]) ?_
  exact L2 _ 0 _ (Nat.zero_le _) rfl
