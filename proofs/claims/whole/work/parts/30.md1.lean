/-! ===== 30.md1: the model's own methods: its numbers, and what is taken and made ===== -/
/-- the model's cells: the object at μ, its rows behind it -/
def zMd (sh : zSh) (P : Nat → Nat → Option Nat) (μ : Nat) : Prop := sh μ = some (.inl 7) ∧ (P μ 0 = some (μ + 1) ∧ P μ 1 = some (μ + 2) ∧ P μ 3 = some (μ + 3) ∧ P μ 5 = some (μ + 4) ∧ P μ 9 = some (μ + 5) ∧ P μ 10 = some (μ + 6) ∧ P μ 11 = some (μ + 7) ∧ P μ 12 = some (μ + 8) ∧ P μ 13 = some (μ + 9) ∧ P μ 17 = some (μ + 10) ∧ P μ 21 = some (μ + 11) ∧ P μ 28 = some (μ + 12)) ∧ sh (μ + 1) = some (.inr (0, 462)) ∧ sh (μ + 2) = some (.inr (0, 3696)) ∧ sh (μ + 3) = some (.inr (0, 924)) ∧ sh (μ + 4) = some (.inr (0, 60)) ∧ sh (μ + 5) = some (.inr (0, 20)) ∧ sh (μ + 6) = some (.inr (0, 16)) ∧ sh (μ + 7) = some (.inr (0, 16)) ∧ sh (μ + 8) = some (.inr (0, 16)) ∧ sh (μ + 9) = some (.inr (0, 16)) ∧ sh (μ + 10) = some (.inr (0, 462)) ∧ sh (μ + 11) = some (.inr (0, 10)) ∧ sh (μ + 12) = some (.inr (1, 20))
def mIn (a b c : Int32) : Int32 := if a < b then 0 else if c < a then 0 else 1
theorem mIn_z {a b c : Int32} : mIn a b c = 0 ∨ mIn a b c = 1 := by
  unfold mIn
  split
  · exact Or.inl rfl
  · split
    · exact Or.inl rfl
    · exact Or.inr rfl
/-- a fact kept in a box -/
theorem zBox.mk {p : Prop} (h : p) : zBox p := ⟨h, trivial⟩
def mMade (w : Nat → Int32) (t : Nat) : Int32 := if w (23 * t + 7) ≤ 0 then 0 else 1
theorem m23 (t k : Nat) : (23 : Int32) * nI t + nI k = nI (23 * t + k) := by
  rw [show (23 : Int32) = nI 23 from rfl, pk_mul, nI_add]
theorem m2 (k : Nat) : (9 : Int32) + 2 * nI k = nI (9 + 2 * k) := by
  rw [show (2 : Int32) = nI 2 from rfl, pk_mul, show (9 : Int32) = nI 9 from rfl, nI_add]
def mWcome (w : Nat → Int32) (t : Nat) (n : Int32) (k : Nat) : Nat → Int32 := upd (upd w (23 * t + 0) (w (23 * t + 0) + n)) (23 * t + k) (upd w (23 * t + 0) (w (23 * t + 0) + n) (23 * t + k) + n)
def mSetF (g : Nat → Int32) (p : Prop) [Decidable p] : Nat → Int32 := if p then upd g 16 1 else g
def mCome (G : Nat → Nat → Int32) (t : Nat) (n : Int32) (k : Nat) : Nat → Nat → Int32 := va_up (va_up G 1 (mWcome (G 1) t n k)) 0 (mSetF (G 0) (99999 < mWcome (G 1) t n k (23 * t + 0)))
def mWuse (w : Nat → Int32) (t : Nat) (n : Int32) : Nat → Int32 := upd (upd w (23 * t + 0) (w (23 * t + 0) - n)) (23 * t + 4) (upd w (23 * t + 0) (w (23 * t + 0) - n) (23 * t + 4) + n)
def mUse (G : Nat → Nat → Int32) (t : Nat) (n : Int32) : Nat → Nat → Int32 := if mWuse (G 1) t n (23 * t + 1) = -9 then va_up G 1 (mWuse (G 1) t n) else mCome (va_up G 1 (mWuse (G 1) t n)) (mWuse (G 1) t n (23 * t + 1)).toNatClampNeg n 5
def mGath (G : Nat → Nat → Int32) (t : Nat) (n : Int32) : Nat → Nat → Int32 := va_up (mCome G t n 2) 1 (upd (mCome G t n 2 1) 460 (mCome G t n 2 1 460 + n))
def mVes (w : Nat → Int32) (t : Nat) : Prop := w (23 * t + 1) = -9 ∨ ∃ v, v < 20 ∧ w (23 * t + 1) = nI v
theorem mSetF_or {g : Nat → Int32} {p : Prop} [Decidable p] (hz : g 16 = 0 ∨ g 16 = 1) : upd g 16 (g 16 ||| (if p then 1 else 0)) = mSetF g p := by
  unfold mSetF
  by_cases h : p
  · rw [if_pos h, if_pos h]
    rcases hz with hz | hz <;> rw [hz] <;> rfl
  · rw [if_neg h, if_neg h]
    rcases hz with hz | hz
    · rw [hz]
      funext j
      by_cases hj : j = 16
      · subst hj
        simp [upd, hz]
      · simp [upd, hj]
    · rw [hz]
      funext j
      by_cases hj : j = 16
      · subst hj
        simp [upd, hz]
      · simp [upd, hj]
theorem mSetF_z {g : Nat → Int32} {p : Prop} [Decidable p] (hz : g 16 = 0 ∨ g 16 = 1) : mSetF g p 16 = 0 ∨ mSetF g p 16 = 1 := by
  unfold mSetF
  by_cases h : p
  · rw [if_pos h]
    exact Or.inr (by simp [upd])
  · rw [if_neg h]
    exact hz
theorem mor_z {x : Int32} (h : x = 0 ∨ x = 1) {y : Int32} (h2 : y = 0 ∨ y = 1) : x ||| y = 0 ∨ x ||| y = 1 := by
  rcases h with rfl | rfl <;> rcases h2 with rfl | rfl <;> decide

abbrev mX7_isIn : ZM := (cX7_isIn, RX7, wsX7_isIn, 1, 0, 0, (some .boolean), 3, yX7_isIn.name)
set_option maxHeartbeats 1000000 in
set_option maxRecDepth 100000 in
theorem c_X7_isIn {sh : zSh} {F : Nat → Nat → Int32} {P : Nat → Nat → Option Nat} {a b c : Int32}  : zMet yX7_isIn wsX7_isIn (1) (0) (0) [.int a, .int b, .int c] sh F P (some (.int (mIn a b c))) sh F P := by
  refine zMet.of (by decide) rfl (Nat.le_of_ble_eq_true rfl) (by simp [Value.category]) ?_
  intro X ρ
  show AW mX7_isIn X (zMQ mX7_isIn X (some (.int (mIn a b c))) sh F P) 0 [some (.int a), some (.int b), some (.int c)] [] ρ sh F P 0 0
  refine aw_iload_0 dX7_isIn_0 ?_
  refine aw_iload_1 dX7_isIn_1 ?_
  refine aw_icmp_lt (tgt := 14) dX7_isIn_2 (by decide) (fun c2 => ?_) (fun c2 => ?_)
  · refine aw_iconst (v := 0) dX7_isIn_14 (by decide) ?_
    exact aw_zreturn rfl dX7_isIn_15 ⟨Nat.zero_le _, Nat.zero_le _⟩ (by decide) (by first | rfl | simp [mIn, c2]) rfl rfl rfl
  · refine aw_iload_0 dX7_isIn_5 ?_
    refine aw_iload_2 dX7_isIn_6 ?_
    refine aw_icmp_gt (tgt := 14) dX7_isIn_7 (by decide) (fun c7 => ?_) (fun c7 => ?_)
    · refine aw_iconst (v := 0) dX7_isIn_14 (by decide) ?_
      exact aw_zreturn rfl dX7_isIn_15 ⟨Nat.zero_le _, Nat.zero_le _⟩ (by decide) (by first | rfl | simp [mIn, c2, c7]) rfl rfl rfl
    · refine aw_iconst (v := 1) dX7_isIn_10 (by decide) ?_
      refine aw_goto (tgt := 15) dX7_isIn_11 (by decide) ?_
      exact aw_zreturn rfl dX7_isIn_15 ⟨Nat.zero_le _, Nat.zero_le _⟩ (by decide) (by first | rfl | simp [mIn, c2, c7]) rfl rfl rfl

abbrev mX7_isThing : ZM := (cX7_isThing, RX7, wsX7_isThing, 2, 0, 0, (some .boolean), 1, yX7_isThing.name)
set_option maxHeartbeats 1000000 in
set_option maxRecDepth 100000 in
theorem c_X7_isThing {sh : zSh} {F : Nat → Nat → Int32} {P : Nat → Nat → Option Nat} {t : Int32}  : zMet yX7_isThing wsX7_isThing (2) (0) (0) [.int t] sh F P (some (.int (mIn t 0 19))) sh F P := by
  refine zMet.of (by decide) rfl (Nat.le_of_ble_eq_true rfl) (by simp [Value.category]) ?_
  intro X ρ
  show AW mX7_isThing X (zMQ mX7_isThing X (some (.int (mIn t 0 19))) sh F P) 0 [some (.int t)] [] ρ sh F P 0 0
  refine aw_iload_0 dX7_isThing_0 ?_
  refine aw_iconst (v := 0) dX7_isThing_1 (by decide) ?_
  refine aw_bipush (v := 19) dX7_isThing_2 (by decide) ?_
  refine aw_run (zRun_S (c_X7_isIn ) (Or.inl gX7_isThing_X7_isIn) q_X7_isIn (by decide) rfl rfl (Nat.le_of_ble_eq_true rfl) dX7_isThing_4 ⟨Nat.le_refl _, Nat.le_refl _⟩) ?_
  exact aw_zreturn rfl dX7_isThing_7 ⟨Nat.zero_le _, Nat.zero_le _⟩ mIn_z (by first | rfl | simp []) rfl rfl rfl

abbrev mX7_isImage : ZM := (cX7_isImage, RX7, wsX7_isImage, 2, 0, 0, (some .boolean), 1, yX7_isImage.name)
set_option maxHeartbeats 1000000 in
set_option maxRecDepth 100000 in
theorem c_X7_isImage {sh : zSh} {F : Nat → Nat → Int32} {P : Nat → Nat → Option Nat} {t : Int32}  : zMet yX7_isImage wsX7_isImage (2) (0) (0) [.int t] sh F P (some (.int (mIn t 0 1))) sh F P := by
  refine zMet.of (by decide) rfl (Nat.le_of_ble_eq_true rfl) (by simp [Value.category]) ?_
  intro X ρ
  show AW mX7_isImage X (zMQ mX7_isImage X (some (.int (mIn t 0 1))) sh F P) 0 [some (.int t)] [] ρ sh F P 0 0
  refine aw_iload_0 dX7_isImage_0 ?_
  refine aw_iconst (v := 0) dX7_isImage_1 (by decide) ?_
  refine aw_iconst (v := 1) dX7_isImage_2 (by decide) ?_
  refine aw_run (zRun_S (c_X7_isIn ) (Or.inl gX7_isImage_X7_isIn) q_X7_isIn (by decide) rfl rfl (Nat.le_of_ble_eq_true rfl) dX7_isImage_3 ⟨Nat.le_refl _, Nat.le_refl _⟩) ?_
  exact aw_zreturn rfl dX7_isImage_6 ⟨Nat.zero_le _, Nat.zero_le _⟩ mIn_z (by first | rfl | simp []) rfl rfl rfl

abbrev mX7_of : ZM := (cX7_of, RX7, wsX7_of, 1, 0, 0, (some .int), 3, yX7_of.name)
set_option maxHeartbeats 1000000 in
set_option maxRecDepth 100000 in
theorem c_X7_of {sh : zSh} {F : Nat → Nat → Int32} {P : Nat → Nat → Option Nat} {μ : Nat} {G : Nat → Nat → Int32} {t k : Nat} (hM : zMd sh P μ) (hG : zVw F μ 13 G) (hi : 23 * t + k < 462) : zMet yX7_of wsX7_of (1) (0) (0) [.ref μ, .int (nI t), .int (nI k)] sh F P (some (.int (G 1 (23 * t + k)))) sh F P := by
  refine zMet.of (by decide) rfl (Nat.le_of_ble_eq_true rfl) (by simp [Value.category]) ?_
  intro X ρ
  show AW mX7_of X (zMQ mX7_of X (some (.int (G 1 (23 * t + k)))) sh F P) 0 [some (.ref μ), some (.int (nI t)), some (.int (nI k))] [] ρ sh F P 0 0
  have hinX7 : ∀ w ∈ u_ws RX7 TX7 29, w ∈ wsX7_of := by decide +kernel
  obtain ⟨ms0, ⟨mp0, mp1, mp3, mp5, mp9, mp10, mp11, mp12, mp13, mp17, mp21, mp28⟩, ms1, ms2, ms3, ms4, ms5, ms6, ms7, ms8, ms9, ms10, ms11, ms12⟩ := id hM
  refine aw_cF (F' := zput F μ 13 G) (zput_view hG).symm ?_
  refine aw_aload_0 dX7_of_0 ?_
  refine aw_getR fX7_0 (fun _ _ => rfl) mp0 hinX7 (by decide +kernel : Cond.fieldLink RX7 7 RX7 (TX7 0).2.1 (TX7 0).2.2.1 ∈ wsX7_of) ms0 dX7_of_1 ?_
  refine aw_bipush (v := 23) dX7_of_4 (by decide) ?_
  refine aw_iload_1 dX7_of_6 ?_
  refine aw_imul dX7_of_7 ?_
  refine aw_iload_2 dX7_of_8 ?_
  refine aw_iadd dX7_of_9 ?_
  refine aw_iaload (by first | exact ms1 | exact ms2 | exact ms3 | exact ms4 | exact ms5 | exact ms6 | exact ms7 | exact ms8 | exact ms9 | exact ms10 | exact ms11 | exact ms12) (by rw [m23]; exact vp_in_nI (by omega) (by decide)) dX7_of_10 ?_
  rw [m23, nI_clamp (by omega), zput_at (by decide)]
  exact aw_ireturn rfl dX7_of_11 ⟨Nat.zero_le _, Nat.zero_le _⟩ rfl rfl (zput_view hG) rfl

abbrev mX7_put : ZM := (cX7_put, RX7, wsX7_put, 1, 0, 0, none, 4, yX7_put.name)
set_option maxHeartbeats 1000000 in
set_option maxRecDepth 100000 in
theorem c_X7_put {sh : zSh} {F : Nat → Nat → Int32} {P : Nat → Nat → Option Nat} {μ : Nat} {G : Nat → Nat → Int32} {t k : Nat} {v : Int32} (hM : zMd sh P μ) (hG : zVw F μ 13 G) (hi : 23 * t + k < 462) : zMet yX7_put wsX7_put (1) (0) (0) [.ref μ, .int (nI t), .int (nI k), .int v] sh F P (none) sh (zput F μ 13 (va_up G 1 (upd (G 1) (23 * t + k) v))) P := by
  refine zMet.of (by decide) rfl (Nat.le_of_ble_eq_true rfl) (by simp [Value.category]) ?_
  intro X ρ
  show AW mX7_put X (zMQ mX7_put X (none) sh (zput F μ 13 (va_up G 1 (upd (G 1) (23 * t + k) v))) P) 0 [some (.ref μ), some (.int (nI t)), some (.int (nI k)), some (.int v)] [] ρ sh F P 0 0
  have hinX7 : ∀ w ∈ u_ws RX7 TX7 29, w ∈ wsX7_put := by decide +kernel
  obtain ⟨ms0, ⟨mp0, mp1, mp3, mp5, mp9, mp10, mp11, mp12, mp13, mp17, mp21, mp28⟩, ms1, ms2, ms3, ms4, ms5, ms6, ms7, ms8, ms9, ms10, ms11, ms12⟩ := id hM
  refine aw_cF (F' := zput F μ 13 G) (zput_view hG).symm ?_
  refine aw_aload_0 dX7_put_0 ?_
  refine aw_getR fX7_0 (fun _ _ => rfl) mp0 hinX7 (by decide +kernel : Cond.fieldLink RX7 7 RX7 (TX7 0).2.1 (TX7 0).2.2.1 ∈ wsX7_put) ms0 dX7_put_1 ?_
  refine aw_bipush (v := 23) dX7_put_4 (by decide) ?_
  refine aw_iload_1 dX7_put_6 ?_
  refine aw_imul dX7_put_7 ?_
  refine aw_iload_2 dX7_put_8 ?_
  refine aw_iadd dX7_put_9 ?_
  refine aw_iload_3 dX7_put_10 ?_
  refine aw_iastore (by first | exact ms1 | exact ms2 | exact ms3 | exact ms4 | exact ms5 | exact ms6 | exact ms7 | exact ms8 | exact ms9 | exact ms10 | exact ms11 | exact ms12) (by rw [m23]; exact vp_in_nI (by omega) (by decide)) dX7_put_11 ?_
  rw [m23, nI_clamp (by omega)]
  try simp (disch := omega) only [zu_up, zup_in, zup_in0, zput_at, zput_a0, zput_zput, zup_eq, zup_ne, va_up_up]
  exact aw_return rfl dX7_put_12 ⟨Nat.zero_le _, Nat.zero_le _⟩ rfl rfl rfl rfl

abbrev mX7_isMade : ZM := (cX7_isMade, RX7, wsX7_isMade, 2, 0, 0, (some .boolean), 2, yX7_isMade.name)
set_option maxHeartbeats 1000000 in
set_option maxRecDepth 100000 in
theorem c_X7_isMade {sh : zSh} {F : Nat → Nat → Int32} {P : Nat → Nat → Option Nat} {μ : Nat} {G : Nat → Nat → Int32} {t : Nat} (hM : zMd sh P μ) (hG : zVw F μ 13 G) (ht : t < 20) : zMet yX7_isMade wsX7_isMade (2) (0) (0) [.ref μ, .int (nI t)] sh F P (some (.int (mMade (G 1) t))) sh F P := by
  refine zMet.of (by decide) rfl (Nat.le_of_ble_eq_true rfl) (by simp [Value.category]) ?_
  intro X ρ
  show AW mX7_isMade X (zMQ mX7_isMade X (some (.int (mMade (G 1) t))) sh F P) 0 [some (.ref μ), some (.int (nI t))] [] ρ sh F P 0 0
  obtain ⟨ms0, ⟨mp0, mp1, mp3, mp5, mp9, mp10, mp11, mp12, mp13, mp17, mp21, mp28⟩, ms1, ms2, ms3, ms4, ms5, ms6, ms7, ms8, ms9, ms10, ms11, ms12⟩ := id hM
  refine aw_cF (F' := zput F μ 13 G) (zput_view hG).symm ?_
  refine aw_aload_0 dX7_isMade_0 ?_
  refine aw_iload_1 dX7_isMade_1 ?_
  refine aw_bipush (v := 7) dX7_isMade_2 (by decide) ?_
  refine aw_run (zRun_V (c_X7_of (t := t) (k := 7) hM zVw.put (by omega)) gX7_isMade_X7_of q_X7_of rfl (by decide) rfl ms0 rfl rfl (Nat.le_of_ble_eq_true rfl) dX7_isMade_4 ⟨Nat.le_refl _, Nat.le_refl _⟩) ?_
  refine aw_if_le (tgt := 14) dX7_isMade_7 (by decide) (fun c7 => ?_) (fun c7 => ?_)
  · refine aw_iconst (v := 0) dX7_isMade_14 (by decide) ?_
    exact aw_zreturn rfl dX7_isMade_15 ⟨Nat.zero_le _, Nat.zero_le _⟩ (by decide) (by unfold mMade; first | rw [if_pos c7] | rw [if_neg c7]) rfl (zput_view hG) rfl
  · refine aw_iconst (v := 1) dX7_isMade_10 (by decide) ?_
    refine aw_goto (tgt := 15) dX7_isMade_11 (by decide) ?_
    exact aw_zreturn rfl dX7_isMade_15 ⟨Nat.zero_le _, Nat.zero_le _⟩ (by decide) (by unfold mMade; first | rw [if_pos c7] | rw [if_neg c7]) rfl (zput_view hG) rfl

abbrev mX7_ingredientOf : ZM := (cX7_ingredientOf, RX7, wsX7_ingredientOf, 2, 0, 0, (some .int), 3, yX7_ingredientOf.name)
set_option maxHeartbeats 1000000 in
set_option maxRecDepth 100000 in
theorem c_X7_ingredientOf {sh : zSh} {F : Nat → Nat → Int32} {P : Nat → Nat → Option Nat} {μ : Nat} {G : Nat → Nat → Int32} {t k : Nat} (hM : zMd sh P μ) (hG : zVw F μ 13 G) (hi : 23 * t + (9 + 2 * k) < 462) : zMet yX7_ingredientOf wsX7_ingredientOf (2) (0) (0) [.ref μ, .int (nI t), .int (nI k)] sh F P (some (.int (G 1 (23 * t + (9 + 2 * k))))) sh F P := by
  refine zMet.of (by decide) rfl (Nat.le_of_ble_eq_true rfl) (by simp [Value.category]) ?_
  intro X ρ
  show AW mX7_ingredientOf X (zMQ mX7_ingredientOf X (some (.int (G 1 (23 * t + (9 + 2 * k))))) sh F P) 0 [some (.ref μ), some (.int (nI t)), some (.int (nI k))] [] ρ sh F P 0 0
  obtain ⟨ms0, ⟨mp0, mp1, mp3, mp5, mp9, mp10, mp11, mp12, mp13, mp17, mp21, mp28⟩, ms1, ms2, ms3, ms4, ms5, ms6, ms7, ms8, ms9, ms10, ms11, ms12⟩ := id hM
  refine aw_cF (F' := zput F μ 13 G) (zput_view hG).symm ?_
  refine aw_aload_0 dX7_ingredientOf_0 ?_
  refine aw_iload_1 dX7_ingredientOf_1 ?_
  refine aw_bipush (v := 9) dX7_ingredientOf_2 (by decide) ?_
  refine aw_iconst (v := 2) dX7_ingredientOf_4 (by decide) ?_
  refine aw_iload_2 dX7_ingredientOf_5 ?_
  refine aw_imul dX7_ingredientOf_6 ?_
  refine aw_iadd dX7_ingredientOf_7 ?_
  rw [m2]
  refine aw_run (zRun_V (c_X7_of (t := t) (k := 9 + 2 * k) hM zVw.put (by omega)) gX7_ingredientOf_X7_of q_X7_of rfl (by decide) rfl ms0 rfl rfl (Nat.le_of_ble_eq_true rfl) dX7_ingredientOf_8 ⟨Nat.le_refl _, Nat.le_refl _⟩) ?_
  exact aw_ireturn rfl dX7_ingredientOf_11 ⟨Nat.zero_le _, Nat.zero_le _⟩ rfl rfl (zput_view hG) rfl

abbrev mX7_amountOf : ZM := (cX7_amountOf, RX7, wsX7_amountOf, 2, 0, 0, (some .int), 3, yX7_amountOf.name)
set_option maxHeartbeats 1000000 in
set_option maxRecDepth 100000 in
theorem c_X7_amountOf {sh : zSh} {F : Nat → Nat → Int32} {P : Nat → Nat → Option Nat} {μ : Nat} {G : Nat → Nat → Int32} {t k : Nat} (hM : zMd sh P μ) (hG : zVw F μ 13 G) (hi : 23 * t + (9 + 2 * k + 1) < 462) : zMet yX7_amountOf wsX7_amountOf (2) (0) (0) [.ref μ, .int (nI t), .int (nI k)] sh F P (some (.int (G 1 (23 * t + (9 + 2 * k + 1))))) sh F P := by
  refine zMet.of (by decide) rfl (Nat.le_of_ble_eq_true rfl) (by simp [Value.category]) ?_
  intro X ρ
  show AW mX7_amountOf X (zMQ mX7_amountOf X (some (.int (G 1 (23 * t + (9 + 2 * k + 1))))) sh F P) 0 [some (.ref μ), some (.int (nI t)), some (.int (nI k))] [] ρ sh F P 0 0
  obtain ⟨ms0, ⟨mp0, mp1, mp3, mp5, mp9, mp10, mp11, mp12, mp13, mp17, mp21, mp28⟩, ms1, ms2, ms3, ms4, ms5, ms6, ms7, ms8, ms9, ms10, ms11, ms12⟩ := id hM
  refine aw_cF (F' := zput F μ 13 G) (zput_view hG).symm ?_
  refine aw_aload_0 dX7_amountOf_0 ?_
  refine aw_iload_1 dX7_amountOf_1 ?_
  refine aw_bipush (v := 9) dX7_amountOf_2 (by decide) ?_
  refine aw_iconst (v := 2) dX7_amountOf_4 (by decide) ?_
  refine aw_iload_2 dX7_amountOf_5 ?_
  refine aw_imul dX7_amountOf_6 ?_
  refine aw_iadd dX7_amountOf_7 ?_
  refine aw_iconst (v := 1) dX7_amountOf_8 (by decide) ?_
  refine aw_iadd dX7_amountOf_9 ?_
  rw [m2, nI_1]
  refine aw_run (zRun_V (c_X7_of (t := t) (k := 9 + 2 * k + 1) hM zVw.put (by omega)) gX7_amountOf_X7_of q_X7_of rfl (by decide) rfl ms0 rfl rfl (Nat.le_of_ble_eq_true rfl) dX7_amountOf_10 ⟨Nat.le_refl _, Nat.le_refl _⟩) ?_
  exact aw_ireturn rfl dX7_amountOf_13 ⟨Nat.zero_le _, Nat.zero_le _⟩ rfl rfl (zput_view hG) rfl

abbrev mX7_come : ZM := (cX7_come, RX7, wsX7_come, 2, 0, 0, none, 4, yX7_come.name)
set_option maxHeartbeats 1000000 in
set_option maxRecDepth 100000 in
theorem c_X7_come {sh : zSh} {F : Nat → Nat → Int32} {P : Nat → Nat → Option Nat} {μ : Nat} {G : Nat → Nat → Int32} {t k : Nat} {n : Int32} (hM : zMd sh P μ) (hG : zVw F μ 13 G) (ht : t < 20) (hi : 23 * t + k < 462) (hz : G 0 16 = 0 ∨ G 0 16 = 1) : zMet yX7_come wsX7_come (2) (0) (0) [.ref μ, .int (nI t), .int n, .int (nI k)] sh F P (none) sh (zput F μ 13 (mCome G t n k)) P := by
  refine zMet.of (by decide) rfl (Nat.le_of_ble_eq_true rfl) (by simp [Value.category]) ?_
  intro X ρ
  show AW mX7_come X (zMQ mX7_come X (none) sh (zput F μ 13 (mCome G t n k)) P) 0 [some (.ref μ), some (.int (nI t)), some (.int n), some (.int (nI k))] [] ρ sh F P 0 0
  have hinX7 : ∀ w ∈ u_ws RX7 TX7 29, w ∈ wsX7_come := by decide +kernel
  obtain ⟨ms0, ⟨mp0, mp1, mp3, mp5, mp9, mp10, mp11, mp12, mp13, mp17, mp21, mp28⟩, ms1, ms2, ms3, ms4, ms5, ms6, ms7, ms8, ms9, ms10, ms11, ms12⟩ := id hM
  refine aw_cF (F' := zput F μ 13 G) (zput_view hG).symm ?_
  refine aw_aload_0 dX7_come_0 ?_
  refine aw_iload_1 dX7_come_1 ?_
  refine aw_iconst (v := 0) dX7_come_2 (by decide) ?_
  refine aw_aload_0 dX7_come_3 ?_
  refine aw_iload_1 dX7_come_4 ?_
  refine aw_iconst (v := 0) dX7_come_5 (by decide) ?_
  refine aw_run (zRun_V (c_X7_of (t := t) (k := 0) hM zVw.put (by omega)) gX7_come_X7_of q_X7_of rfl (by decide) rfl ms0 rfl rfl (Nat.le_of_ble_eq_true rfl) dX7_come_6 ⟨Nat.le_refl _, Nat.le_refl _⟩) ?_
  try simp (disch := omega) only [zu_up, zup_in, zup_in0, zput_at, zput_a0, zput_zput, zup_eq, zup_ne, va_up_up]
  refine aw_iload_2 dX7_come_9 ?_
  refine aw_iadd dX7_come_10 ?_
  refine aw_runv (zRun_V (c_X7_put (t := t) (k := 0) hM zVw.put (by omega)) gX7_come_X7_put q_X7_put rfl (by decide) rfl ms0 rfl rfl (Nat.le_of_ble_eq_true rfl) dX7_come_11 ⟨Nat.le_refl _, Nat.le_refl _⟩) ?_
  try simp (disch := omega) only [zu_up, zup_in, zup_in0, zput_at, zput_a0, zput_zput, zup_eq, zup_ne, va_up_up]
  refine aw_aload_0 dX7_come_14 ?_
  refine aw_iload_1 dX7_come_15 ?_
  refine aw_iload_3 dX7_come_16 ?_
  refine aw_aload_0 dX7_come_17 ?_
  refine aw_iload_1 dX7_come_18 ?_
  refine aw_iload_3 dX7_come_19 ?_
  refine aw_run (zRun_V (c_X7_of (t := t) (k := k) hM zVw.put (by omega)) gX7_come_X7_of q_X7_of rfl (by decide) rfl ms0 rfl rfl (Nat.le_of_ble_eq_true rfl) dX7_come_20 ⟨Nat.le_refl _, Nat.le_refl _⟩) ?_
  try simp (disch := omega) only [zu_up, zup_in, zup_in0, zput_at, zput_a0, zput_zput, zup_eq, zup_ne, va_up_up]
  refine aw_iload_2 dX7_come_23 ?_
  refine aw_iadd dX7_come_24 ?_
  refine aw_runv (zRun_V (c_X7_put (t := t) (k := k) hM zVw.put (by omega)) gX7_come_X7_put q_X7_put rfl (by decide) rfl ms0 rfl rfl (Nat.le_of_ble_eq_true rfl) dX7_come_25 ⟨Nat.le_refl _, Nat.le_refl _⟩) ?_
  try simp (disch := omega) only [zu_up, zup_in, zup_in0, zput_at, zput_a0, zput_zput, zup_eq, zup_ne, va_up_up]
  refine aw_aload_0 dX7_come_28 ?_
  refine aw_dup rfl dX7_come_29 ?_
  refine aw_getZ fX7_16 hinX7 (by decide +kernel : Cond.fieldLink RX7 80 RX7 (TX7 16).2.1 (TX7 16).2.2.1 ∈ wsX7_come) ms0 dX7_come_30 ?_
  try simp (disch := omega) only [zu_up, zup_in, zup_in0, zput_at, zput_a0, zput_zput, zup_eq, zup_ne, va_up_up]
  refine aw_aload_0 dX7_come_33 ?_
  refine aw_iload_1 dX7_come_34 ?_
  refine aw_iconst (v := 0) dX7_come_35 (by decide) ?_
  refine aw_run (zRun_V (c_X7_of (t := t) (k := 0) hM zVw.put (by omega)) gX7_come_X7_of q_X7_of rfl (by decide) rfl ms0 rfl rfl (Nat.le_of_ble_eq_true rfl) dX7_come_36 ⟨Nat.le_refl _, Nat.le_refl _⟩) ?_
  try simp (disch := omega) only [zu_up, zup_in, zup_in0, zput_at, zput_a0, zput_zput, zup_eq, zup_ne, va_up_up]
  refine aw_ldc (v := 99999) (by decide +kernel : Cond.constant RX7 84 99999 ∈ wsX7_come) dX7_come_39 ?_
  refine aw_icmp_le (tgt := 48) dX7_come_41 (by decide) (fun c41 => ?_) (fun c41 => ?_)
  · refine aw_iconst (v := 0) dX7_come_48 (by decide) ?_
    refine aw_ior dX7_come_49 ?_
    refine aw_top (x' := G 0 16 ||| (if 99999 < mWcome (G 1) t n k (23 * t + 0) then 1 else 0)) (by first | rw [if_pos (show 99999 < mWcome (G 1) t n k (23 * t + 0) from Int32.not_le.mp c41)] | rw [if_neg (show ¬ 99999 < mWcome (G 1) t n k (23 * t + 0) from Int32.not_lt.mpr c41)]) ?_
    refine aw_putZ (mor_z hz (by split <;> simp)) fX7_16 rfl hinX7 (by decide +kernel : Cond.fieldLink RX7 80 RX7 (TX7 16).2.1 (TX7 16).2.2.1 ∈ wsX7_come) ms0 dX7_come_50 ?_
    exact aw_return rfl dX7_come_53 ⟨Nat.zero_le _, Nat.zero_le _⟩ rfl rfl (by simp (disch := omega) only [zu_up, zup_in, zup_in0, zput_at, zput_a0, zput_zput, zup_eq, zup_ne, va_up_up]; unfold mCome; rw [mSetF_or hz]; rfl) rfl
  · refine aw_iconst (v := 1) dX7_come_44 (by decide) ?_
    refine aw_goto (tgt := 49) dX7_come_45 (by decide) ?_
    refine aw_ior dX7_come_49 ?_
    refine aw_top (x' := G 0 16 ||| (if 99999 < mWcome (G 1) t n k (23 * t + 0) then 1 else 0)) (by first | rw [if_pos (show 99999 < mWcome (G 1) t n k (23 * t + 0) from Int32.not_le.mp c41)] | rw [if_neg (show ¬ 99999 < mWcome (G 1) t n k (23 * t + 0) from Int32.not_lt.mpr c41)]) ?_
    refine aw_putZ (mor_z hz (by split <;> simp)) fX7_16 rfl hinX7 (by decide +kernel : Cond.fieldLink RX7 80 RX7 (TX7 16).2.1 (TX7 16).2.2.1 ∈ wsX7_come) ms0 dX7_come_50 ?_
    exact aw_return rfl dX7_come_53 ⟨Nat.zero_le _, Nat.zero_le _⟩ rfl rfl (by simp (disch := omega) only [zu_up, zup_in, zup_in0, zput_at, zput_a0, zput_zput, zup_eq, zup_ne, va_up_up]; unfold mCome; rw [mSetF_or hz]; rfl) rfl

theorem mWuse_ves {w : Nat → Int32} {t : Nat} {n : Int32} : mWuse w t n (23 * t + 1) = w (23 * t + 1) := by
  unfold mWuse
  rw [show upd (upd w (23 * t + 0) (w (23 * t + 0) - n)) (23 * t + 4) (upd w (23 * t + 0) (w (23 * t + 0) - n) (23 * t + 4) + n) (23 * t + 1) = upd w (23 * t + 0) (w (23 * t + 0) - n) (23 * t + 1) from if_neg (by omega)]
  exact if_neg (by omega)

abbrev mX7_useUp : ZM := (cX7_useUp, RX7, wsX7_useUp, 3, 0, 0, none, 3, yX7_useUp.name)
set_option maxHeartbeats 1000000 in
set_option maxRecDepth 100000 in
theorem c_X7_useUp {sh : zSh} {F : Nat → Nat → Int32} {P : Nat → Nat → Option Nat} {μ : Nat} {G : Nat → Nat → Int32} {t : Nat} {n : Int32} (hM : zMd sh P μ) (hG : zVw F μ 13 G) (ht : t < 20) (hv : mVes (G 1) t) (hz : G 0 16 = 0 ∨ G 0 16 = 1) : zMet yX7_useUp wsX7_useUp (3) (0) (0) [.ref μ, .int (nI t), .int n] sh F P (none) sh (zput F μ 13 (mUse G t n)) P := by
  refine zMet.of (by decide) rfl (Nat.le_of_ble_eq_true rfl) (by simp [Value.category]) ?_
  intro X ρ
  show AW mX7_useUp X (zMQ mX7_useUp X (none) sh (zput F μ 13 (mUse G t n)) P) 0 [some (.ref μ), some (.int (nI t)), some (.int n)] [] ρ sh F P 0 0
  obtain ⟨ms0, ⟨mp0, mp1, mp3, mp5, mp9, mp10, mp11, mp12, mp13, mp17, mp21, mp28⟩, ms1, ms2, ms3, ms4, ms5, ms6, ms7, ms8, ms9, ms10, ms11, ms12⟩ := id hM
  refine aw_cF (F' := zput F μ 13 G) (zput_view hG).symm ?_
  refine aw_aload_0 dX7_useUp_0 ?_
  refine aw_iload_1 dX7_useUp_1 ?_
  refine aw_iconst (v := 0) dX7_useUp_2 (by decide) ?_
  refine aw_aload_0 dX7_useUp_3 ?_
  refine aw_iload_1 dX7_useUp_4 ?_
  refine aw_iconst (v := 0) dX7_useUp_5 (by decide) ?_
  refine aw_run (zRun_V (c_X7_of (t := t) (k := 0) hM zVw.put (by omega)) gX7_useUp_X7_of q_X7_of rfl (by decide) rfl ms0 rfl rfl (Nat.le_of_ble_eq_true rfl) dX7_useUp_6 ⟨Nat.le_refl _, Nat.le_refl _⟩) ?_
  try simp (disch := omega) only [zu_up, zup_in, zup_in0, zput_at, zput_a0, zput_zput, zup_eq, zup_ne, va_up_up]
  refine aw_iload_2 dX7_useUp_9 ?_
  refine aw_isub dX7_useUp_10 ?_
  refine aw_runv (zRun_V (c_X7_put (t := t) (k := 0) hM zVw.put (by omega)) gX7_useUp_X7_put q_X7_put rfl (by decide) rfl ms0 rfl rfl (Nat.le_of_ble_eq_true rfl) dX7_useUp_11 ⟨Nat.le_refl _, Nat.le_refl _⟩) ?_
  try simp (disch := omega) only [zu_up, zup_in, zup_in0, zput_at, zput_a0, zput_zput, zup_eq, zup_ne, va_up_up]
  refine aw_aload_0 dX7_useUp_14 ?_
  refine aw_iload_1 dX7_useUp_15 ?_
  refine aw_iconst (v := 4) dX7_useUp_16 (by decide) ?_
  refine aw_aload_0 dX7_useUp_17 ?_
  refine aw_iload_1 dX7_useUp_18 ?_
  refine aw_iconst (v := 4) dX7_useUp_19 (by decide) ?_
  refine aw_run (zRun_V (c_X7_of (t := t) (k := 4) hM zVw.put (by omega)) gX7_useUp_X7_of q_X7_of rfl (by decide) rfl ms0 rfl rfl (Nat.le_of_ble_eq_true rfl) dX7_useUp_20 ⟨Nat.le_refl _, Nat.le_refl _⟩) ?_
  try simp (disch := omega) only [zu_up, zup_in, zup_in0, zput_at, zput_a0, zput_zput, zup_eq, zup_ne, va_up_up]
  refine aw_iload_2 dX7_useUp_23 ?_
  refine aw_iadd dX7_useUp_24 ?_
  refine aw_runv (zRun_V (c_X7_put (t := t) (k := 4) hM zVw.put (by omega)) gX7_useUp_X7_put q_X7_put rfl (by decide) rfl ms0 rfl rfl (Nat.le_of_ble_eq_true rfl) dX7_useUp_25 ⟨Nat.le_refl _, Nat.le_refl _⟩) ?_
  try simp (disch := omega) only [zu_up, zup_in, zup_in0, zput_at, zput_a0, zput_zput, zup_eq, zup_ne, va_up_up]
  rw [show upd (upd (G 1) (23 * t + 0) (G 1 (23 * t + 0) - n)) (23 * t + 4) (upd (G 1) (23 * t + 0) (G 1 (23 * t + 0) - n) (23 * t + 4) + n) = mWuse (G 1) t n from rfl]
  refine aw_aload_0 dX7_useUp_28 ?_
  refine aw_iload_1 dX7_useUp_29 ?_
  refine aw_iconst (v := 1) dX7_useUp_30 (by decide) ?_
  refine aw_run (zRun_V (c_X7_of (t := t) (k := 1) hM zVw.put (by omega)) gX7_useUp_X7_of q_X7_of rfl (by decide) rfl ms0 rfl rfl (Nat.le_of_ble_eq_true rfl) dX7_useUp_31 ⟨Nat.le_refl _, Nat.le_refl _⟩) ?_
  try simp (disch := omega) only [zu_up, zup_in, zup_in0, zput_at, zput_a0, zput_zput, zup_eq, zup_ne, va_up_up]
  refine aw_bipush (v := (-9)) dX7_useUp_34 (by decide) ?_
  refine aw_icmp_eq (tgt := 51) dX7_useUp_36 (by decide) (fun c36 => ?_) (fun c36 => ?_)
  · exact aw_return rfl dX7_useUp_51 ⟨Nat.zero_le _, Nat.zero_le _⟩ rfl rfl (by unfold mUse; first | (rw [if_pos c36]; done) | (rw [if_neg c36, zput_zput, show mWuse (G 1) t n (23 * t + 1) = nI v from mWuse_ves.trans hv, nI_clamp (by omega)])) rfl
  · obtain ⟨v, hv20, hv⟩ := hv.resolve_left (fun h => c36 (mWuse_ves.trans h))
    refine aw_aload_0 dX7_useUp_39 ?_
    refine aw_aload_0 dX7_useUp_40 ?_
    refine aw_iload_1 dX7_useUp_41 ?_
    refine aw_iconst (v := 1) dX7_useUp_42 (by decide) ?_
    refine aw_run (zRun_V (c_X7_of (t := t) (k := 1) hM zVw.put (by omega)) gX7_useUp_X7_of q_X7_of rfl (by decide) rfl ms0 rfl rfl (Nat.le_of_ble_eq_true rfl) dX7_useUp_43 ⟨Nat.le_refl _, Nat.le_refl _⟩) ?_
    try simp (disch := omega) only [zu_up, zup_in, zup_in0, zput_at, zput_a0, zput_zput, zup_eq, zup_ne, va_up_up]
    rw [show mWuse (G 1) t n (23 * t + 1) = nI v from mWuse_ves.trans hv]
    refine aw_iload_2 dX7_useUp_46 ?_
    refine aw_iconst (v := 5) dX7_useUp_47 (by decide) ?_
    refine aw_runv (zRun_V (c_X7_come (t := v) (k := 5) hM zVw.put hv20 (by omega) (by rw [zup_ne (by decide)]; exact hz)) gX7_useUp_X7_come q_X7_come rfl (by decide) rfl ms0 rfl rfl (Nat.le_of_ble_eq_true rfl) dX7_useUp_48 ⟨Nat.le_refl _, Nat.le_refl _⟩) ?_
    exact aw_return rfl dX7_useUp_51 ⟨Nat.zero_le _, Nat.zero_le _⟩ rfl rfl (by unfold mUse; first | (rw [if_pos c36]; done) | (rw [if_neg c36, zput_zput, show mWuse (G 1) t n (23 * t + 1) = nI v from mWuse_ves.trans hv, nI_clamp (by omega)])) rfl

abbrev mX7_gatherNow : ZM := (cX7_gatherNow, RX7, wsX7_gatherNow, 3, 0, 0, none, 3, yX7_gatherNow.name)
set_option maxHeartbeats 1000000 in
set_option maxRecDepth 100000 in
theorem c_X7_gatherNow {sh : zSh} {F : Nat → Nat → Int32} {P : Nat → Nat → Option Nat} {μ : Nat} {G : Nat → Nat → Int32} {t : Nat} {n : Int32} (hM : zMd sh P μ) (hG : zVw F μ 13 G) (ht : t < 20) (hz : G 0 16 = 0 ∨ G 0 16 = 1) : zMet yX7_gatherNow wsX7_gatherNow (3) (0) (0) [.ref μ, .int (nI t), .int n] sh F P (none) sh (zput F μ 13 (mGath G t n)) P := by
  refine zMet.of (by decide) rfl (Nat.le_of_ble_eq_true rfl) (by simp [Value.category]) ?_
  intro X ρ
  show AW mX7_gatherNow X (zMQ mX7_gatherNow X (none) sh (zput F μ 13 (mGath G t n)) P) 0 [some (.ref μ), some (.int (nI t)), some (.int n)] [] ρ sh F P 0 0
  have hinX7 : ∀ w ∈ u_ws RX7 TX7 29, w ∈ wsX7_gatherNow := by decide +kernel
  obtain ⟨ms0, ⟨mp0, mp1, mp3, mp5, mp9, mp10, mp11, mp12, mp13, mp17, mp21, mp28⟩, ms1, ms2, ms3, ms4, ms5, ms6, ms7, ms8, ms9, ms10, ms11, ms12⟩ := id hM
  refine aw_cF (F' := zput F μ 13 G) (zput_view hG).symm ?_
  refine aw_aload_0 dX7_gatherNow_0 ?_
  refine aw_iload_1 dX7_gatherNow_1 ?_
  refine aw_iload_2 dX7_gatherNow_2 ?_
  refine aw_iconst (v := 2) dX7_gatherNow_3 (by decide) ?_
  refine aw_runv (zRun_V (c_X7_come (t := t) (k := 2) hM zVw.put ht (by omega) hz) gX7_gatherNow_X7_come q_X7_come rfl (by decide) rfl ms0 rfl rfl (Nat.le_of_ble_eq_true rfl) dX7_gatherNow_4 ⟨Nat.le_refl _, Nat.le_refl _⟩) ?_
  rw [zput_zput]
  refine aw_aload_0 dX7_gatherNow_7 ?_
  refine aw_getR fX7_0 (fun _ _ => rfl) mp0 hinX7 (by decide +kernel : Cond.fieldLink RX7 7 RX7 (TX7 0).2.1 (TX7 0).2.2.1 ∈ wsX7_gatherNow) ms0 dX7_gatherNow_8 ?_
  refine aw_sipush (v := 460) dX7_gatherNow_11 (by decide) ?_
  refine aw_dup2 rfl rfl dX7_gatherNow_14 ?_
  refine aw_iaload (by first | exact ms1 | exact ms2 | exact ms3 | exact ms4 | exact ms5 | exact ms6 | exact ms7 | exact ms8 | exact ms9 | exact ms10 | exact ms11 | exact ms12) (show vp_in (nI 460) 462 from vp_in_nI (by decide) (by decide)) dX7_gatherNow_15 ?_
  refine aw_iload_2 dX7_gatherNow_16 ?_
  refine aw_iadd dX7_gatherNow_17 ?_
  refine aw_iastore (by first | exact ms1 | exact ms2 | exact ms3 | exact ms4 | exact ms5 | exact ms6 | exact ms7 | exact ms8 | exact ms9 | exact ms10 | exact ms11 | exact ms12) (show vp_in (nI 460) 462 from vp_in_nI (by decide) (by decide)) dX7_gatherNow_18 ?_
  exact aw_return rfl dX7_gatherNow_19 ⟨Nat.zero_le _, Nat.zero_le _⟩ rfl rfl (by rw [show (460 : Int32).toNatClampNeg = 460 from by decide]; simp (disch := omega) only [zu_up, zup_in, zup_in0, zput_at, zput_a0, zput_zput, zup_eq, zup_ne, va_up_up]; rfl) rfl

abbrev mX7_batchesFor : ZM := (cX7_batchesFor, RX7, wsX7_batchesFor, 2, 0, 0, (some .int), 3, yX7_batchesFor.name)
set_option maxHeartbeats 1000000 in
set_option maxRecDepth 100000 in
theorem c_X7_batchesFor {sh : zSh} {F : Nat → Nat → Int32} {P : Nat → Nat → Option Nat} {μ : Nat} {G : Nat → Nat → Int32} {t : Nat} {n : Int32} (hM : zMd sh P μ) (hG : zVw F μ 13 G) (ht : t < 20) (hy : ¬ G 1 (23 * t + 7) = 0) : zMet yX7_batchesFor wsX7_batchesFor (2) (0) (0) [.ref μ, .int (nI t), .int n] sh F P (some (.int ((n + G 1 (23 * t + 7) - 1) / G 1 (23 * t + 7)))) sh F P := by
  refine zMet.of (by decide) rfl (Nat.le_of_ble_eq_true rfl) (by simp [Value.category]) ?_
  intro X ρ
  show AW mX7_batchesFor X (zMQ mX7_batchesFor X (some (.int ((n + G 1 (23 * t + 7) - 1) / G 1 (23 * t + 7)))) sh F P) 0 [some (.ref μ), some (.int (nI t)), some (.int n)] [] ρ sh F P 0 0
  obtain ⟨ms0, ⟨mp0, mp1, mp3, mp5, mp9, mp10, mp11, mp12, mp13, mp17, mp21, mp28⟩, ms1, ms2, ms3, ms4, ms5, ms6, ms7, ms8, ms9, ms10, ms11, ms12⟩ := id hM
  refine aw_cF (F' := zput F μ 13 G) (zput_view hG).symm ?_
  refine aw_iload_2 dX7_batchesFor_0 ?_
  refine aw_aload_0 dX7_batchesFor_1 ?_
  refine aw_iload_1 dX7_batchesFor_2 ?_
  refine aw_bipush (v := 7) dX7_batchesFor_3 (by decide) ?_
  refine aw_run (zRun_V (c_X7_of (t := t) (k := 7) hM zVw.put (by omega)) gX7_batchesFor_X7_of q_X7_of rfl (by decide) rfl ms0 rfl rfl (Nat.le_of_ble_eq_true rfl) dX7_batchesFor_5 ⟨Nat.le_refl _, Nat.le_refl _⟩) ?_
  refine aw_iadd dX7_batchesFor_8 ?_
  refine aw_iconst (v := 1) dX7_batchesFor_9 (by decide) ?_
  refine aw_isub dX7_batchesFor_10 ?_
  refine aw_aload_0 dX7_batchesFor_11 ?_
  refine aw_iload_1 dX7_batchesFor_12 ?_
  refine aw_bipush (v := 7) dX7_batchesFor_13 (by decide) ?_
  refine aw_run (zRun_V (c_X7_of (t := t) (k := 7) hM zVw.put (by omega)) gX7_batchesFor_X7_of q_X7_of rfl (by decide) rfl ms0 rfl rfl (Nat.le_of_ble_eq_true rfl) dX7_batchesFor_15 ⟨Nat.le_refl _, Nat.le_refl _⟩) ?_
  refine aw_idiv hy dX7_batchesFor_18 ?_
  exact aw_ireturn rfl dX7_batchesFor_19 ⟨Nat.zero_le _, Nat.zero_le _⟩ rfl rfl (zput_view hG) rfl

/-- how many are taken from the store -/
def mTk (w : Nat → Int32) (t : Nat) (n : Int32) : Int32 := if n ≤ w (23 * t + 0) then n else w (23 * t + 0)
def mBegin (G : Nat → Nat → Int32) (d : Nat) (t n u : Int32) : Nat → Nat → Int32 := va_up (va_up (va_up (va_up (va_up (va_up G 0 (mSetF (upd (G 0) 15 (G 0 15 + n)) (500 < G 0 15 + n))) 6 (upd (G 6) d t)) 7 (upd (G 7) d n)) 8 (upd (G 8) d 0)) 9 (upd (G 9) d u)) 0 (upd (mSetF (upd (G 0) 15 (G 0 15 + n)) (500 < G 0 15 + n)) 14 (nI (d + 1)))

abbrev mX7_fromStore : ZM := (cX7_fromStore, RX7, wsX7_fromStore, 4, 0, 0, (some .int), 4, yX7_fromStore.name)
set_option maxHeartbeats 1000000 in
set_option maxRecDepth 100000 in
theorem c_X7_fromStore {sh : zSh} {F : Nat → Nat → Int32} {P : Nat → Nat → Option Nat} {μ : Nat} {G : Nat → Nat → Int32} {t : Nat} {n : Int32} (hM : zMd sh P μ) (hG : zVw F μ 13 G) (ht : t < 20) (hv : mVes (G 1) t) (hz : G 0 16 = 0 ∨ G 0 16 = 1) : zMet yX7_fromStore wsX7_fromStore (4) (0) (0) [.ref μ, .int (nI t), .int n] sh F P (some (.int (n - mTk (G 1) t n))) sh (zput F μ 13 (mUse G t (mTk (G 1) t n))) P := by
  refine zMet.of (by decide) rfl (Nat.le_of_ble_eq_true rfl) (by simp [Value.category]) ?_
  intro X ρ
  show AW mX7_fromStore X (zMQ mX7_fromStore X (some (.int (n - mTk (G 1) t n))) sh (zput F μ 13 (mUse G t (mTk (G 1) t n))) P) 0 [some (.ref μ), some (.int (nI t)), some (.int n), none] [] ρ sh F P 0 0
  obtain ⟨ms0, ⟨mp0, mp1, mp3, mp5, mp9, mp10, mp11, mp12, mp13, mp17, mp21, mp28⟩, ms1, ms2, ms3, ms4, ms5, ms6, ms7, ms8, ms9, ms10, ms11, ms12⟩ := id hM
  refine aw_cF (F' := zput F μ 13 G) (zput_view hG).symm ?_
  refine aw_aload_0 dX7_fromStore_0 ?_
  refine aw_iload_1 dX7_fromStore_1 ?_
  refine aw_iconst (v := 0) dX7_fromStore_2 (by decide) ?_
  refine aw_run (zRun_V (c_X7_of (t := t) (k := 0) hM zVw.put (by omega)) gX7_fromStore_X7_of q_X7_of rfl (by decide) rfl ms0 rfl rfl (Nat.le_of_ble_eq_true rfl) dX7_fromStore_3 ⟨Nat.le_refl _, Nat.le_refl _⟩) ?_
  refine aw_iload_2 dX7_fromStore_6 ?_
  refine aw_icmp_ge (tgt := 19) dX7_fromStore_7 (by decide) (fun c7 => ?_) (fun c7 => ?_)
  · refine aw_iload_2 dX7_fromStore_19 ?_
    refine aw_top (x' := mTk (G 1) t n) (by unfold mTk; first | rw [if_pos c7] | rw [if_neg c7]) ?_
    refine aw_istore_3 dX7_fromStore_20 ?_
    refine aw_aload_0 dX7_fromStore_21 ?_
    refine aw_iload_1 dX7_fromStore_22 ?_
    refine aw_iload_3 dX7_fromStore_23 ?_
    refine aw_runv (zRun_V (c_X7_useUp (t := t) hM zVw.put (by omega) hv hz) gX7_fromStore_X7_useUp q_X7_useUp rfl (by decide) rfl ms0 rfl rfl (Nat.le_of_ble_eq_true rfl) dX7_fromStore_24 ⟨Nat.le_refl _, Nat.le_refl _⟩) ?_
    refine aw_iload_2 dX7_fromStore_27 ?_
    refine aw_iload_3 dX7_fromStore_28 ?_
    refine aw_isub dX7_fromStore_29 ?_
    exact aw_ireturn rfl dX7_fromStore_30 ⟨Nat.zero_le _, Nat.zero_le _⟩ rfl rfl (by rw [zput_zput]) rfl
  · refine aw_aload_0 dX7_fromStore_10 ?_
    refine aw_iload_1 dX7_fromStore_11 ?_
    refine aw_iconst (v := 0) dX7_fromStore_12 (by decide) ?_
    refine aw_run (zRun_V (c_X7_of (t := t) (k := 0) hM zVw.put (by omega)) gX7_fromStore_X7_of q_X7_of rfl (by decide) rfl ms0 rfl rfl (Nat.le_of_ble_eq_true rfl) dX7_fromStore_13 ⟨Nat.le_refl _, Nat.le_refl _⟩) ?_
    refine aw_goto (tgt := 20) dX7_fromStore_16 (by decide) ?_
    refine aw_top (x' := mTk (G 1) t n) (by unfold mTk; first | rw [if_pos c7] | rw [if_neg c7]) ?_
    refine aw_istore_3 dX7_fromStore_20 ?_
    refine aw_aload_0 dX7_fromStore_21 ?_
    refine aw_iload_1 dX7_fromStore_22 ?_
    refine aw_iload_3 dX7_fromStore_23 ?_
    refine aw_runv (zRun_V (c_X7_useUp (t := t) hM zVw.put (by omega) hv hz) gX7_fromStore_X7_useUp q_X7_useUp rfl (by decide) rfl ms0 rfl rfl (Nat.le_of_ble_eq_true rfl) dX7_fromStore_24 ⟨Nat.le_refl _, Nat.le_refl _⟩) ?_
    refine aw_iload_2 dX7_fromStore_27 ?_
    refine aw_iload_3 dX7_fromStore_28 ?_
    refine aw_isub dX7_fromStore_29 ?_
    exact aw_ireturn rfl dX7_fromStore_30 ⟨Nat.zero_le _, Nat.zero_le _⟩ rfl rfl (by rw [zput_zput]) rfl

abbrev mX7_begin : ZM := (cX7_begin, RX7, wsX7_begin, 1, 0, 0, none, 4, yX7_begin.name)
set_option maxHeartbeats 1000000 in
set_option maxRecDepth 100000 in
theorem c_X7_begin {sh : zSh} {F : Nat → Nat → Int32} {P : Nat → Nat → Option Nat} {μ : Nat} {G : Nat → Nat → Int32} {t n u : Int32} {d : Nat} (hM : zMd sh P μ) (hG : zVw F μ 13 G) (hd : d < 16) (hd2 : G 0 14 = nI d) (hz : G 0 16 = 0 ∨ G 0 16 = 1) : zMet yX7_begin wsX7_begin (1) (0) (0) [.ref μ, .int t, .int n, .int u] sh F P (none) sh (zput F μ 13 (mBegin G d t n u)) P := by
  refine zMet.of (by decide) rfl (Nat.le_of_ble_eq_true rfl) (by simp [Value.category]) ?_
  intro X ρ
  show AW mX7_begin X (zMQ mX7_begin X (none) sh (zput F μ 13 (mBegin G d t n u)) P) 0 [some (.ref μ), some (.int t), some (.int n), some (.int u)] [] ρ sh F P 0 0
  have hinX7 : ∀ w ∈ u_ws RX7 TX7 29, w ∈ wsX7_begin := by decide +kernel
  obtain ⟨ms0, ⟨mp0, mp1, mp3, mp5, mp9, mp10, mp11, mp12, mp13, mp17, mp21, mp28⟩, ms1, ms2, ms3, ms4, ms5, ms6, ms7, ms8, ms9, ms10, ms11, ms12⟩ := id hM
  have hd14 : mSetF (upd (G 0) 15 (G 0 15 + n)) (500 < G 0 15 + n) 14 = nI d := by
    unfold mSetF
    split <;> simp [upd, hd2]
  refine aw_cF (F' := zput F μ 13 G) (zput_view hG).symm ?_
  refine aw_aload_0 dX7_begin_0 ?_
  refine aw_dup rfl dX7_begin_1 ?_
  refine aw_getI fX7_15 hinX7 (by decide +kernel : Cond.fieldLink RX7 88 RX7 (TX7 15).2.1 (TX7 15).2.2.1 ∈ wsX7_begin) ms0 dX7_begin_2 ?_
  refine aw_iload_2 dX7_begin_5 ?_
  refine aw_iadd dX7_begin_6 ?_
  try simp (disch := omega) only [zu_up, zup_in, zup_in0, zput_at, zput_a0, zput_zput, zup_eq, zup_ne, va_up_up]
  refine aw_putI fX7_15 rfl hinX7 (by decide +kernel : Cond.fieldLink RX7 88 RX7 (TX7 15).2.1 (TX7 15).2.2.1 ∈ wsX7_begin) ms0 dX7_begin_7 ?_
  try simp (disch := omega) only [zu_up, zup_in, zup_in0, zput_at, zput_a0, zput_zput, zup_eq, zup_ne, va_up_up]
  refine aw_aload_0 dX7_begin_10 ?_
  refine aw_dup rfl dX7_begin_11 ?_
  try simp (disch := omega) only [zu_up, zup_in, zup_in0, zput_at, zput_a0, zput_zput, zup_eq, zup_ne, va_up_up]
  refine aw_getZ fX7_16 hinX7 (by decide +kernel : Cond.fieldLink RX7 80 RX7 (TX7 16).2.1 (TX7 16).2.2.1 ∈ wsX7_begin) ms0 dX7_begin_12 ?_
  try simp (disch := omega) only [zu_up, zup_in, zup_in0, zput_at, zput_a0, zput_zput, zup_eq, zup_ne, va_up_up]
  refine aw_aload_0 dX7_begin_15 ?_
  refine aw_getI fX7_15 hinX7 (by decide +kernel : Cond.fieldLink RX7 88 RX7 (TX7 15).2.1 (TX7 15).2.2.1 ∈ wsX7_begin) ms0 dX7_begin_16 ?_
  try simp (disch := omega) only [zu_up, zup_in, zup_in0, zput_at, zput_a0, zput_zput, zup_eq, zup_ne, va_up_up]
  rw [show upd (G 0) 15 (G 0 15 + n) 15 = G 0 15 + n by simp [upd]]
  refine aw_sipush (v := 500) dX7_begin_19 (by decide) ?_
  refine aw_icmp_le (tgt := 29) dX7_begin_22 (by decide) (fun c22 => ?_) (fun c22 => ?_)
  · refine aw_iconst (v := 0) dX7_begin_29 (by decide) ?_
    refine aw_ior dX7_begin_30 ?_
    refine aw_top (x' := G 0 16 ||| (if 500 < G 0 15 + n then 1 else 0)) (by rw [show upd (G 0) 15 (G 0 15 + n) 16 = G 0 16 by simp [upd]]; first | rw [if_pos (Int32.not_le.mp c22)] | rw [if_neg (Int32.not_lt.mpr c22)]) ?_
    refine aw_putZ (mor_z hz (by split <;> simp)) fX7_16 rfl hinX7 (by decide +kernel : Cond.fieldLink RX7 80 RX7 (TX7 16).2.1 (TX7 16).2.2.1 ∈ wsX7_begin) ms0 dX7_begin_31 ?_
    try simp (disch := omega) only [zu_up, zup_in, zup_in0, zput_at, zput_a0, zput_zput, zup_eq, zup_ne, va_up_up]
    rw [show upd (upd (G 0) 15 (G 0 15 + n)) 16 (G 0 16 ||| (if 500 < G 0 15 + n then 1 else 0)) = mSetF (upd (G 0) 15 (G 0 15 + n)) (500 < G 0 15 + n) by rw [← mSetF_or (g := upd (G 0) 15 (G 0 15 + n)) (by simpa [upd] using hz)]; simp [upd]]
    refine aw_aload_0 dX7_begin_34 ?_
    refine aw_getR fX7_10 (fun _ _ => rfl) mp10 hinX7 (by decide +kernel : Cond.fieldLink RX7 32 RX7 (TX7 10).2.1 (TX7 10).2.2.1 ∈ wsX7_begin) ms0 dX7_begin_35 ?_
    refine aw_aload_0 dX7_begin_38 ?_
    refine aw_getI fX7_14 hinX7 (by decide +kernel : Cond.fieldLink RX7 91 RX7 (TX7 14).2.1 (TX7 14).2.2.1 ∈ wsX7_begin) ms0 dX7_begin_39 ?_
    try simp (disch := omega) only [zu_up, zup_in, zup_in0, zput_at, zput_a0, zput_zput, zup_eq, zup_ne, va_up_up]
    rw [hd14]
    refine aw_iload_1 dX7_begin_42 ?_
    refine aw_iastore (by first | exact ms1 | exact ms2 | exact ms3 | exact ms4 | exact ms5 | exact ms6 | exact ms7 | exact ms8 | exact ms9 | exact ms10 | exact ms11 | exact ms12) (vp_in_nI hd (by decide)) dX7_begin_43 ?_
    refine aw_aload_0 dX7_begin_44 ?_
    refine aw_getR fX7_11 (fun _ _ => rfl) mp11 hinX7 (by decide +kernel : Cond.fieldLink RX7 35 RX7 (TX7 11).2.1 (TX7 11).2.2.1 ∈ wsX7_begin) ms0 dX7_begin_45 ?_
    refine aw_aload_0 dX7_begin_48 ?_
    refine aw_getI fX7_14 hinX7 (by decide +kernel : Cond.fieldLink RX7 91 RX7 (TX7 14).2.1 (TX7 14).2.2.1 ∈ wsX7_begin) ms0 dX7_begin_49 ?_
    try simp (disch := omega) only [zu_up, zup_in, zup_in0, zput_at, zput_a0, zput_zput, zup_eq, zup_ne, va_up_up]
    rw [hd14]
    refine aw_iload_2 dX7_begin_52 ?_
    refine aw_iastore (by first | exact ms1 | exact ms2 | exact ms3 | exact ms4 | exact ms5 | exact ms6 | exact ms7 | exact ms8 | exact ms9 | exact ms10 | exact ms11 | exact ms12) (vp_in_nI hd (by decide)) dX7_begin_53 ?_
    refine aw_aload_0 dX7_begin_54 ?_
    refine aw_getR fX7_12 (fun _ _ => rfl) mp12 hinX7 (by decide +kernel : Cond.fieldLink RX7 38 RX7 (TX7 12).2.1 (TX7 12).2.2.1 ∈ wsX7_begin) ms0 dX7_begin_55 ?_
    refine aw_aload_0 dX7_begin_58 ?_
    refine aw_getI fX7_14 hinX7 (by decide +kernel : Cond.fieldLink RX7 91 RX7 (TX7 14).2.1 (TX7 14).2.2.1 ∈ wsX7_begin) ms0 dX7_begin_59 ?_
    try simp (disch := omega) only [zu_up, zup_in, zup_in0, zput_at, zput_a0, zput_zput, zup_eq, zup_ne, va_up_up]
    rw [hd14]
    refine aw_iconst (v := 0) dX7_begin_62 (by decide) ?_
    refine aw_iastore (by first | exact ms1 | exact ms2 | exact ms3 | exact ms4 | exact ms5 | exact ms6 | exact ms7 | exact ms8 | exact ms9 | exact ms10 | exact ms11 | exact ms12) (vp_in_nI hd (by decide)) dX7_begin_63 ?_
    refine aw_aload_0 dX7_begin_64 ?_
    refine aw_getR fX7_13 (fun _ _ => rfl) mp13 hinX7 (by decide +kernel : Cond.fieldLink RX7 41 RX7 (TX7 13).2.1 (TX7 13).2.2.1 ∈ wsX7_begin) ms0 dX7_begin_65 ?_
    refine aw_aload_0 dX7_begin_68 ?_
    refine aw_getI fX7_14 hinX7 (by decide +kernel : Cond.fieldLink RX7 91 RX7 (TX7 14).2.1 (TX7 14).2.2.1 ∈ wsX7_begin) ms0 dX7_begin_69 ?_
    try simp (disch := omega) only [zu_up, zup_in, zup_in0, zput_at, zput_a0, zput_zput, zup_eq, zup_ne, va_up_up]
    rw [hd14]
    refine aw_iload_3 dX7_begin_72 ?_
    refine aw_iastore (by first | exact ms1 | exact ms2 | exact ms3 | exact ms4 | exact ms5 | exact ms6 | exact ms7 | exact ms8 | exact ms9 | exact ms10 | exact ms11 | exact ms12) (vp_in_nI hd (by decide)) dX7_begin_73 ?_
    refine aw_aload_0 dX7_begin_74 ?_
    refine aw_dup rfl dX7_begin_75 ?_
    refine aw_getI fX7_14 hinX7 (by decide +kernel : Cond.fieldLink RX7 91 RX7 (TX7 14).2.1 (TX7 14).2.2.1 ∈ wsX7_begin) ms0 dX7_begin_76 ?_
    try simp (disch := omega) only [zu_up, zup_in, zup_in0, zput_at, zput_a0, zput_zput, zup_eq, zup_ne, va_up_up]
    rw [hd14]
    refine aw_iconst (v := 1) dX7_begin_79 (by decide) ?_
    refine aw_iadd dX7_begin_80 ?_
    rw [nI_1]
    refine aw_putI fX7_14 rfl hinX7 (by decide +kernel : Cond.fieldLink RX7 91 RX7 (TX7 14).2.1 (TX7 14).2.2.1 ∈ wsX7_begin) ms0 dX7_begin_81 ?_
    exact aw_return rfl dX7_begin_84 ⟨Nat.zero_le _, Nat.zero_le _⟩ rfl rfl (by unfold mBegin; simp (disch := omega) only [zu_up, zup_in, zup_in0, zput_at, zput_a0, zput_zput, zup_eq, zup_ne, va_up_up, nI_clamp (show d < 2 ^ 31 by omega)]) rfl
  · refine aw_iconst (v := 1) dX7_begin_25 (by decide) ?_
    refine aw_goto (tgt := 30) dX7_begin_26 (by decide) ?_
    refine aw_ior dX7_begin_30 ?_
    refine aw_top (x' := G 0 16 ||| (if 500 < G 0 15 + n then 1 else 0)) (by rw [show upd (G 0) 15 (G 0 15 + n) 16 = G 0 16 by simp [upd]]; first | rw [if_pos (Int32.not_le.mp c22)] | rw [if_neg (Int32.not_lt.mpr c22)]) ?_
    refine aw_putZ (mor_z hz (by split <;> simp)) fX7_16 rfl hinX7 (by decide +kernel : Cond.fieldLink RX7 80 RX7 (TX7 16).2.1 (TX7 16).2.2.1 ∈ wsX7_begin) ms0 dX7_begin_31 ?_
    try simp (disch := omega) only [zu_up, zup_in, zup_in0, zput_at, zput_a0, zput_zput, zup_eq, zup_ne, va_up_up]
    rw [show upd (upd (G 0) 15 (G 0 15 + n)) 16 (G 0 16 ||| (if 500 < G 0 15 + n then 1 else 0)) = mSetF (upd (G 0) 15 (G 0 15 + n)) (500 < G 0 15 + n) by rw [← mSetF_or (g := upd (G 0) 15 (G 0 15 + n)) (by simpa [upd] using hz)]; simp [upd]]
    refine aw_aload_0 dX7_begin_34 ?_
    refine aw_getR fX7_10 (fun _ _ => rfl) mp10 hinX7 (by decide +kernel : Cond.fieldLink RX7 32 RX7 (TX7 10).2.1 (TX7 10).2.2.1 ∈ wsX7_begin) ms0 dX7_begin_35 ?_
    refine aw_aload_0 dX7_begin_38 ?_
    refine aw_getI fX7_14 hinX7 (by decide +kernel : Cond.fieldLink RX7 91 RX7 (TX7 14).2.1 (TX7 14).2.2.1 ∈ wsX7_begin) ms0 dX7_begin_39 ?_
    try simp (disch := omega) only [zu_up, zup_in, zup_in0, zput_at, zput_a0, zput_zput, zup_eq, zup_ne, va_up_up]
    rw [hd14]
    refine aw_iload_1 dX7_begin_42 ?_
    refine aw_iastore (by first | exact ms1 | exact ms2 | exact ms3 | exact ms4 | exact ms5 | exact ms6 | exact ms7 | exact ms8 | exact ms9 | exact ms10 | exact ms11 | exact ms12) (vp_in_nI hd (by decide)) dX7_begin_43 ?_
    refine aw_aload_0 dX7_begin_44 ?_
    refine aw_getR fX7_11 (fun _ _ => rfl) mp11 hinX7 (by decide +kernel : Cond.fieldLink RX7 35 RX7 (TX7 11).2.1 (TX7 11).2.2.1 ∈ wsX7_begin) ms0 dX7_begin_45 ?_
    refine aw_aload_0 dX7_begin_48 ?_
    refine aw_getI fX7_14 hinX7 (by decide +kernel : Cond.fieldLink RX7 91 RX7 (TX7 14).2.1 (TX7 14).2.2.1 ∈ wsX7_begin) ms0 dX7_begin_49 ?_
    try simp (disch := omega) only [zu_up, zup_in, zup_in0, zput_at, zput_a0, zput_zput, zup_eq, zup_ne, va_up_up]
    rw [hd14]
    refine aw_iload_2 dX7_begin_52 ?_
    refine aw_iastore (by first | exact ms1 | exact ms2 | exact ms3 | exact ms4 | exact ms5 | exact ms6 | exact ms7 | exact ms8 | exact ms9 | exact ms10 | exact ms11 | exact ms12) (vp_in_nI hd (by decide)) dX7_begin_53 ?_
    refine aw_aload_0 dX7_begin_54 ?_
    refine aw_getR fX7_12 (fun _ _ => rfl) mp12 hinX7 (by decide +kernel : Cond.fieldLink RX7 38 RX7 (TX7 12).2.1 (TX7 12).2.2.1 ∈ wsX7_begin) ms0 dX7_begin_55 ?_
    refine aw_aload_0 dX7_begin_58 ?_
    refine aw_getI fX7_14 hinX7 (by decide +kernel : Cond.fieldLink RX7 91 RX7 (TX7 14).2.1 (TX7 14).2.2.1 ∈ wsX7_begin) ms0 dX7_begin_59 ?_
    try simp (disch := omega) only [zu_up, zup_in, zup_in0, zput_at, zput_a0, zput_zput, zup_eq, zup_ne, va_up_up]
    rw [hd14]
    refine aw_iconst (v := 0) dX7_begin_62 (by decide) ?_
    refine aw_iastore (by first | exact ms1 | exact ms2 | exact ms3 | exact ms4 | exact ms5 | exact ms6 | exact ms7 | exact ms8 | exact ms9 | exact ms10 | exact ms11 | exact ms12) (vp_in_nI hd (by decide)) dX7_begin_63 ?_
    refine aw_aload_0 dX7_begin_64 ?_
    refine aw_getR fX7_13 (fun _ _ => rfl) mp13 hinX7 (by decide +kernel : Cond.fieldLink RX7 41 RX7 (TX7 13).2.1 (TX7 13).2.2.1 ∈ wsX7_begin) ms0 dX7_begin_65 ?_
    refine aw_aload_0 dX7_begin_68 ?_
    refine aw_getI fX7_14 hinX7 (by decide +kernel : Cond.fieldLink RX7 91 RX7 (TX7 14).2.1 (TX7 14).2.2.1 ∈ wsX7_begin) ms0 dX7_begin_69 ?_
    try simp (disch := omega) only [zu_up, zup_in, zup_in0, zput_at, zput_a0, zput_zput, zup_eq, zup_ne, va_up_up]
    rw [hd14]
    refine aw_iload_3 dX7_begin_72 ?_
    refine aw_iastore (by first | exact ms1 | exact ms2 | exact ms3 | exact ms4 | exact ms5 | exact ms6 | exact ms7 | exact ms8 | exact ms9 | exact ms10 | exact ms11 | exact ms12) (vp_in_nI hd (by decide)) dX7_begin_73 ?_
    refine aw_aload_0 dX7_begin_74 ?_
    refine aw_dup rfl dX7_begin_75 ?_
    refine aw_getI fX7_14 hinX7 (by decide +kernel : Cond.fieldLink RX7 91 RX7 (TX7 14).2.1 (TX7 14).2.2.1 ∈ wsX7_begin) ms0 dX7_begin_76 ?_
    try simp (disch := omega) only [zu_up, zup_in, zup_in0, zput_at, zput_a0, zput_zput, zup_eq, zup_ne, va_up_up]
    rw [hd14]
    refine aw_iconst (v := 1) dX7_begin_79 (by decide) ?_
    refine aw_iadd dX7_begin_80 ?_
    rw [nI_1]
    refine aw_putI fX7_14 rfl hinX7 (by decide +kernel : Cond.fieldLink RX7 91 RX7 (TX7 14).2.1 (TX7 14).2.2.1 ∈ wsX7_begin) ms0 dX7_begin_81 ?_
    exact aw_return rfl dX7_begin_84 ⟨Nat.zero_le _, Nat.zero_le _⟩ rfl rfl (by unfold mBegin; simp (disch := omega) only [zu_up, zup_in, zup_in0, zput_at, zput_a0, zput_zput, zup_eq, zup_ne, va_up_up, nI_clamp (show d < 2 ^ 31 by omega)]) rfl
