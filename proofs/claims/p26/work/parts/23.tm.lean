
abbrev mX6_wipe : ZM := (cX6_wipe, RX6, wsX6_wipe, 1, 0, 0, (some .int), 2, yX6_wipe.name)
set_option maxHeartbeats 1000000 in
set_option maxRecDepth 100000 in
theorem c_X6_wipe {sh : zSh} {F : Nat → Nat → Int32} {P : Nat → Nat → Option Nat} {χ : Nat} (hY : zSys sh P χ) : zMet yX6_wipe wsX6_wipe (1) (0) (0) [.ref χ] sh F P (some (.int (F χ 8))) sh (zu F χ 8 0) P := by
  refine zMet.of (by decide) rfl (Nat.le_of_ble_eq_true rfl) (by simp [Value.category]) ?_
  intro X ρ
  show AW mX6_wipe X (zMQ mX6_wipe X (some (.int (F χ 8))) sh (zu F χ 8 0) P) 0 [some (.ref χ), none] [] ρ sh F P 0 0
  have hinX6 : ∀ w ∈ u_ws RX6 TX6 11, w ∈ wsX6_wipe := by decide +kernel
  obtain ⟨⟨ts, tp0, tp1, tp2, tp3, tp4, tp5, tp6, tp7, ti, tx⟩, hB, hD, hS, hW, hH, hR, hPl, hIm⟩ := id hY
  have hb0 := hB.1
  have hd0 := hD.1
  obtain ⟨hs0, ⟨sp0, sp1, sp2, sp3, sp4, sp5⟩, sh1, sh2, sh3, sh4, sh5, sh6⟩ := id hS
  have hw0 := hW.1
  have hh0 := hH.1
  have hr0 := hR.1
  refine aw_aload_0 dX6_wipe_0 ?_
  refine aw_getI fX6_8 hinX6 (by decide +kernel : Cond.fieldLink RX6 57 RX6 (TX6 8).2.1 (TX6 8).2.2.1 ∈ wsX6_wipe) (by assumption) dX6_wipe_1 ?_
  refine aw_istore_1 dX6_wipe_4 ?_
  refine aw_aload_0 dX6_wipe_5 ?_
  refine aw_iconst (v := 0) dX6_wipe_6 (by decide) ?_
  refine aw_putI fX6_8 rfl hinX6 (by decide +kernel : Cond.fieldLink RX6 57 RX6 (TX6 8).2.1 (TX6 8).2.2.1 ∈ wsX6_wipe) (by assumption) dX6_wipe_7 ?_
  refine aw_iload_1 dX6_wipe_10 ?_
  exact aw_ireturn rfl dX6_wipe_11 ⟨Nat.zero_le _, Nat.zero_le _⟩ (by first | rfl | simp []) rfl rfl rfl

def xWrite (c l : Int32) : Int32 := if c < 32 then -1 else if c ≤ 126 then (if l < 60 then 0 else -3) else -1
theorem aw_absurd {M : ZM} {X : ZX} {Q : State → Prop} {pc : Nat} {ls : List (Option Value)} {st : List Value} {ρ : Nat → Nat} {sh : zSh} {F : Nat → Nat → Int32} {P : Nat → Nat → Option Nat} {k n : Nat} {a b : Int32} (h : a ≠ b) (e : a = b) : AW M X Q pc ls st ρ sh F P k n := absurd e h

abbrev mX6_write : ZM := (cX6_write, RX6, wsX6_write, 2, 0, 0, (some .int), 2, yX6_write.name)
set_option maxHeartbeats 1000000 in
set_option maxRecDepth 100000 in
theorem c_X6_write_e {sh : zSh} {F : Nat → Nat → Int32} {P : Nat → Nat → Option Nat} {χ : Nat} {c : Int32} (hY : zSys sh P χ) (h : xWrite c (F χ 8) ≠ 0) : zMet yX6_write wsX6_write (2) (0) (0) [.ref χ, .int c] sh F P (some (.int (xWrite c (F χ 8)))) sh F P := by
  refine zMet.of (by decide) rfl (Nat.le_of_ble_eq_true rfl) (by simp [Value.category]) ?_
  intro X ρ
  show AW mX6_write X (zMQ mX6_write X (some (.int (xWrite c (F χ 8)))) sh F P) 0 [some (.ref χ), some (.int c)] [] ρ sh F P 0 0
  have hinX6 : ∀ w ∈ u_ws RX6 TX6 11, w ∈ wsX6_write := by decide +kernel
  obtain ⟨⟨ts, tp0, tp1, tp2, tp3, tp4, tp5, tp6, tp7, ti, tx⟩, hB, hD, hS, hW, hH, hR, hPl, hIm⟩ := id hY
  have hb0 := hB.1
  have hd0 := hD.1
  obtain ⟨hs0, ⟨sp0, sp1, sp2, sp3, sp4, sp5⟩, sh1, sh2, sh3, sh4, sh5, sh6⟩ := id hS
  have hw0 := hW.1
  have hh0 := hH.1
  have hr0 := hR.1
  refine aw_iload_1 dX6_write_0 ?_
  refine aw_bipush (v := 32) dX6_write_1 (by decide) ?_
  refine aw_icmp_lt (tgt := 12) dX6_write_3 (by decide) (fun c3 => ?_) (fun c3 => ?_)
  · refine aw_iconst (v := (-1)) dX6_write_12 (by decide) ?_
    exact aw_ireturn rfl dX6_write_13 ⟨Nat.zero_le _, Nat.zero_le _⟩ (by simp only [xWrite, c3]; try simp [c3]) rfl rfl rfl
  · refine aw_iload_1 dX6_write_6 ?_
    refine aw_bipush (v := 126) dX6_write_7 (by decide) ?_
    refine aw_icmp_le (tgt := 14) dX6_write_9 (by decide) (fun c9 => ?_) (fun c9 => ?_)
    · refine aw_aload_0 dX6_write_14 ?_
      refine aw_getI fX6_8 hinX6 (by decide +kernel : Cond.fieldLink RX6 57 RX6 (TX6 8).2.1 (TX6 8).2.2.1 ∈ wsX6_write) (by assumption) dX6_write_15 ?_
      refine aw_bipush (v := 60) dX6_write_18 (by decide) ?_
      refine aw_icmp_lt (tgt := 26) dX6_write_20 (by decide) (fun c20 => ?_) (fun c20 => ?_)
      · exact aw_absurd h (by simp only [xWrite, c3, c9, c20]; try simp [c3, c9, c20])
      · refine aw_bipush (v := (-3)) dX6_write_23 (by decide) ?_
        exact aw_ireturn rfl dX6_write_25 ⟨Nat.zero_le _, Nat.zero_le _⟩ (by simp only [xWrite, c3, c9, c20]; try simp [c3, c9, c20]) rfl rfl rfl
    · refine aw_iconst (v := (-1)) dX6_write_12 (by decide) ?_
      exact aw_ireturn rfl dX6_write_13 ⟨Nat.zero_le _, Nat.zero_le _⟩ (by simp only [xWrite, c3, c9]; try simp [c3, c9]) rfl rfl rfl

set_option maxHeartbeats 1000000 in
set_option maxRecDepth 100000 in
theorem c_X6_write_o {sh : zSh} {F : Nat → Nat → Int32} {P : Nat → Nat → Option Nat} {χ : Nat} {c : Int32} (hY : zSys sh P χ) (h : xWrite c (F χ 8) = 0) : zMet yX6_write wsX6_write (2) (0) (0) [.ref χ, .int c] sh F P (some (.int (F χ 8 + 1))) sh (zu (va_up F (χ + 40) (cPut 60 (F (χ + 40)) (F χ 8) c)) χ 8 (F χ 8 + 1)) P := by
  refine zMet.of (by decide) rfl (Nat.le_of_ble_eq_true rfl) (by simp [Value.category]) ?_
  intro X ρ
  show AW mX6_write X (zMQ mX6_write X (some (.int (F χ 8 + 1))) sh (zu (va_up F (χ + 40) (cPut 60 (F (χ + 40)) (F χ 8) c)) χ 8 (F χ 8 + 1)) P) 0 [some (.ref χ), some (.int c)] [] ρ sh F P 0 0
  have hinX6 : ∀ w ∈ u_ws RX6 TX6 11, w ∈ wsX6_write := by decide +kernel
  obtain ⟨⟨ts, tp0, tp1, tp2, tp3, tp4, tp5, tp6, tp7, ti, tx⟩, hB, hD, hS, hW, hH, hR, hPl, hIm⟩ := id hY
  have hb0 := hB.1
  have hd0 := hD.1
  obtain ⟨hs0, ⟨sp0, sp1, sp2, sp3, sp4, sp5⟩, sh1, sh2, sh3, sh4, sh5, sh6⟩ := id hS
  have hw0 := hW.1
  have hh0 := hH.1
  have hr0 := hR.1
  refine aw_iload_1 dX6_write_0 ?_
  refine aw_bipush (v := 32) dX6_write_1 (by decide) ?_
  refine aw_icmp_lt (tgt := 12) dX6_write_3 (by decide) (fun c3 => ?_) (fun c3 => ?_)
  · exact aw_absurd (a := xWrite c (F χ 8)) (b := 0) (by simp only [xWrite, c3]; try simp [c3]) h
  · refine aw_iload_1 dX6_write_6 ?_
    refine aw_bipush (v := 126) dX6_write_7 (by decide) ?_
    refine aw_icmp_le (tgt := 14) dX6_write_9 (by decide) (fun c9 => ?_) (fun c9 => ?_)
    · refine aw_aload_0 dX6_write_14 ?_
      refine aw_getI fX6_8 hinX6 (by decide +kernel : Cond.fieldLink RX6 57 RX6 (TX6 8).2.1 (TX6 8).2.2.1 ∈ wsX6_write) (by assumption) dX6_write_15 ?_
      refine aw_bipush (v := 60) dX6_write_18 (by decide) ?_
      refine aw_icmp_lt (tgt := 26) dX6_write_20 (by decide) (fun c20 => ?_) (fun c20 => ?_)
      · refine aw_aload_0 dX6_write_26 ?_
        refine aw_getR fX6_7 (fun _ _ => rfl) (by assumption) hinX6 (by decide +kernel : Cond.fieldLink RX6 53 RX6 (TX6 7).2.1 (TX6 7).2.2.1 ∈ wsX6_write) (by assumption) dX6_write_27 ?_
        refine aw_aload_0 dX6_write_30 ?_
        refine aw_getI fX6_8 hinX6 (by decide +kernel : Cond.fieldLink RX6 57 RX6 (TX6 8).2.1 (TX6 8).2.2.1 ∈ wsX6_write) (by assumption) dX6_write_31 ?_
        refine aw_iload_1 dX6_write_34 ?_
        refine aw_runv (zRun_S (c_X6_put (by assumption) (by decide)) (Or.inl gX6_write_X6_put) q_X6_put (by decide) rfl rfl (Nat.le_of_ble_eq_true rfl) dX6_write_35 ⟨Nat.le_refl _, Nat.le_refl _⟩) ?_
        refine aw_aload_0 dX6_write_38 ?_
        refine aw_dup rfl dX6_write_39 ?_
        refine aw_getI fX6_8 hinX6 (by decide +kernel : Cond.fieldLink RX6 57 RX6 (TX6 8).2.1 (TX6 8).2.2.1 ∈ wsX6_write) (by assumption) dX6_write_40 ?_
        rw [zup_ne (show χ ≠ χ + 40 by omega)]
        refine aw_iconst (v := 1) dX6_write_43 (by decide) ?_
        refine aw_iadd dX6_write_44 ?_
        refine aw_putI fX6_8 rfl hinX6 (by decide +kernel : Cond.fieldLink RX6 57 RX6 (TX6 8).2.1 (TX6 8).2.2.1 ∈ wsX6_write) (by assumption) dX6_write_45 ?_
        refine aw_aload_0 dX6_write_48 ?_
        refine aw_getI fX6_8 hinX6 (by decide +kernel : Cond.fieldLink RX6 57 RX6 (TX6 8).2.1 (TX6 8).2.2.1 ∈ wsX6_write) (by assumption) dX6_write_49 ?_
        rw [zu_up, zup_eq]
        exact aw_ireturn rfl dX6_write_52 ⟨Nat.zero_le _, Nat.zero_le _⟩ (by simp [upd]) rfl (by rfl) rfl
      · exact aw_absurd (a := xWrite c (F χ 8)) (b := 0) (by simp only [xWrite, c3, c9, c20]; try simp [c3, c9, c20]) h
    · exact aw_absurd (a := xWrite c (F χ 8)) (b := 0) (by simp only [xWrite, c3, c9]; try simp [c3, c9]) h

abbrev mX6_isNeeded : ZM := (cX6_isNeeded, RX6, wsX6_isNeeded, 5, 0, 0, (some .int), 3, yX6_isNeeded.name)
set_option maxHeartbeats 1000000 in
set_option maxRecDepth 100000 in
theorem c_X6_isNeeded {sh : zSh} {F : Nat → Nat → Int32} {P : Nat → Nat → Option Nat} {χ : Nat} {t u : Int32} (hY : zSys sh P χ) : zMet yX6_isNeeded wsX6_isNeeded (5) (0) (0) [.ref χ, .int t, .int u] sh F P (some (.int (if cIsThing t = 0 then -1 else if cIsThing u = 0 then -1 else if cHasBit (bAll (zsub F (χ + 1)) u) t = 0 then 0 else 1))) sh F P := by
  refine zMet.of (by decide) rfl (Nat.le_of_ble_eq_true rfl) (by simp [Value.category]) ?_
  intro X ρ
  show AW mX6_isNeeded X (zMQ mX6_isNeeded X (some (.int (if cIsThing t = 0 then -1 else if cIsThing u = 0 then -1 else if cHasBit (bAll (zsub F (χ + 1)) u) t = 0 then 0 else 1))) sh F P) 0 [some (.ref χ), some (.int t), some (.int u)] [] ρ sh F P 0 0
  have hinX6 : ∀ w ∈ u_ws RX6 TX6 11, w ∈ wsX6_isNeeded := by decide +kernel
  obtain ⟨⟨ts, tp0, tp1, tp2, tp3, tp4, tp5, tp6, tp7, ti, tx⟩, hB, hD, hS, hW, hH, hR, hPl, hIm⟩ := id hY
  have hb0 := hB.1
  have hd0 := hD.1
  obtain ⟨hs0, ⟨sp0, sp1, sp2, sp3, sp4, sp5⟩, sh1, sh2, sh3, sh4, sh5, sh6⟩ := id hS
  have hw0 := hW.1
  have hh0 := hH.1
  have hr0 := hR.1
  refine aw_iload_1 dX6_isNeeded_0 ?_
  refine aw_run (zRun_S (c_X6_isThing ) (Or.inl gX6_isNeeded_X6_isThing) q_X6_isThing (by decide) rfl rfl (Nat.le_of_ble_eq_true rfl) dX6_isNeeded_1 ⟨Nat.le_refl _, Nat.le_refl _⟩) ?_
  refine aw_if_eq (tgt := 14) dX6_isNeeded_4 (by decide) (fun c4 => ?_) (fun c4 => ?_)
  · refine aw_iconst (v := (-1)) dX6_isNeeded_14 (by decide) ?_
    exact aw_ireturn rfl dX6_isNeeded_15 ⟨Nat.zero_le _, Nat.zero_le _⟩ (by simp only [c4]; try simp [c4]) rfl rfl rfl
  · refine aw_iload_2 dX6_isNeeded_7 ?_
    refine aw_run (zRun_S (c_X6_isThing ) (Or.inl gX6_isNeeded_X6_isThing) q_X6_isThing (by decide) rfl rfl (Nat.le_of_ble_eq_true rfl) dX6_isNeeded_8 ⟨Nat.le_refl _, Nat.le_refl _⟩) ?_
    refine aw_if_ne (tgt := 16) dX6_isNeeded_11 (by decide) (fun c11 => ?_) (fun c11 => ?_)
    · refine aw_aload_0 dX6_isNeeded_16 ?_
      refine aw_getR fX6_0 (fun _ _ => rfl) (by assumption) hinX6 (by decide +kernel : Cond.fieldLink RX6 10 RX6 (TX6 0).2.1 (TX6 0).2.2.1 ∈ wsX6_isNeeded) (by assumption) dX6_isNeeded_17 ?_
      refine aw_iload_2 dX6_isNeeded_20 ?_
      refine aw_run (zRun_V (c_X0_allNeedsOf (by assumption)) gX6_isNeeded_X0_allNeedsOf q_X0_allNeedsOf rfl (by decide) rfl (by assumption) rfl rfl (Nat.le_of_ble_eq_true rfl) dX6_isNeeded_21 ⟨Nat.le_refl _, Nat.le_refl _⟩) ?_
      refine aw_iload_1 dX6_isNeeded_24 ?_
      refine aw_run (zRun_S (c_X6_hasBit ) (Or.inl gX6_isNeeded_X6_hasBit) q_X6_hasBit (by decide) rfl rfl (Nat.le_of_ble_eq_true rfl) dX6_isNeeded_25 ⟨Nat.le_refl _, Nat.le_refl _⟩) ?_
      refine aw_if_eq (tgt := 35) dX6_isNeeded_28 (by decide) (fun c28 => ?_) (fun c28 => ?_)
      · refine aw_iconst (v := 0) dX6_isNeeded_35 (by decide) ?_
        exact aw_ireturn rfl dX6_isNeeded_36 ⟨Nat.zero_le _, Nat.zero_le _⟩ (by simp only [c4, c11, c28]; try simp [c4, c11, c28]) rfl rfl rfl
      · refine aw_iconst (v := 1) dX6_isNeeded_31 (by decide) ?_
        refine aw_goto (tgt := 36) dX6_isNeeded_32 (by decide) ?_
        exact aw_ireturn rfl dX6_isNeeded_36 ⟨Nat.zero_le _, Nat.zero_le _⟩ (by simp only [c4, c11, c28]; try simp [c4, c11, c28]) rfl rfl rfl
    · refine aw_iconst (v := (-1)) dX6_isNeeded_14 (by decide) ?_
      exact aw_ireturn rfl dX6_isNeeded_15 ⟨Nat.zero_le _, Nat.zero_le _⟩ (by simp only [c4, c11]; try simp [c4, c11]) rfl rfl rfl

abbrev mX6_ingredient : ZM := (cX6_ingredient, RX6, wsX6_ingredient, 3, 0, 0, (some .int), 4, yX6_ingredient.name)
set_option maxHeartbeats 1000000 in
set_option maxRecDepth 100000 in
theorem c_X6_ingredient {sh : zSh} {F : Nat → Nat → Int32} {P : Nat → Nat → Option Nat} {χ : Nat} {t k w : Int32} (hY : zSys sh P χ) : zMet yX6_ingredient wsX6_ingredient (3) (0) (0) [.ref χ, .int t, .int k, .int w] sh F P (some (.int (if cIsThing t = 0 then -1 else if k < 0 then -1 else if w < 0 then -1 else if w ≤ 1 then (if k < bIngs (zsub F (χ + 1)) t then (if w = 0 then bIng (zsub F (χ + 1)) t k else bAmt (zsub F (χ + 1)) t k) else -9) else -1))) sh F P := by
  refine zMet.of (by decide) rfl (Nat.le_of_ble_eq_true rfl) (by simp [Value.category]) ?_
  intro X ρ
  show AW mX6_ingredient X (zMQ mX6_ingredient X (some (.int (if cIsThing t = 0 then -1 else if k < 0 then -1 else if w < 0 then -1 else if w ≤ 1 then (if k < bIngs (zsub F (χ + 1)) t then (if w = 0 then bIng (zsub F (χ + 1)) t k else bAmt (zsub F (χ + 1)) t k) else -9) else -1))) sh F P) 0 [some (.ref χ), some (.int t), some (.int k), some (.int w)] [] ρ sh F P 0 0
  have hinX6 : ∀ w ∈ u_ws RX6 TX6 11, w ∈ wsX6_ingredient := by decide +kernel
  obtain ⟨⟨ts, tp0, tp1, tp2, tp3, tp4, tp5, tp6, tp7, ti, tx⟩, hB, hD, hS, hW, hH, hR, hPl, hIm⟩ := id hY
  have hb0 := hB.1
  have hd0 := hD.1
  obtain ⟨hs0, ⟨sp0, sp1, sp2, sp3, sp4, sp5⟩, sh1, sh2, sh3, sh4, sh5, sh6⟩ := id hS
  have hw0 := hW.1
  have hh0 := hH.1
  have hr0 := hR.1
  refine aw_iload_1 dX6_ingredient_0 ?_
  refine aw_run (zRun_S (c_X6_isThing ) (Or.inl gX6_ingredient_X6_isThing) q_X6_isThing (by decide) rfl rfl (Nat.le_of_ble_eq_true rfl) dX6_ingredient_1 ⟨Nat.le_refl _, Nat.le_refl _⟩) ?_
  refine aw_if_eq (tgt := 20) dX6_ingredient_4 (by decide) (fun c4 => ?_) (fun c4 => ?_)
  · refine aw_iconst (v := (-1)) dX6_ingredient_20 (by decide) ?_
    exact aw_ireturn rfl dX6_ingredient_21 ⟨Nat.zero_le _, Nat.zero_le _⟩ (by simp [c4, Int32.not_lt.mpr, Int32.not_le.mpr, Int32.not_lt, Int32.not_le]; try simp_all) rfl rfl rfl
  · refine aw_iload_2 dX6_ingredient_7 ?_
    refine aw_if_lt (tgt := 20) dX6_ingredient_8 (by decide) (fun c8 => ?_) (fun c8 => ?_)
    · refine aw_iconst (v := (-1)) dX6_ingredient_20 (by decide) ?_
      exact aw_ireturn rfl dX6_ingredient_21 ⟨Nat.zero_le _, Nat.zero_le _⟩ (by simp [c4, c8, Int32.not_lt.mpr, Int32.not_le.mpr, Int32.not_lt, Int32.not_le]; try simp_all) rfl rfl rfl
    · refine aw_iload_3 dX6_ingredient_11 ?_
      refine aw_if_lt (tgt := 20) dX6_ingredient_12 (by decide) (fun c12 => ?_) (fun c12 => ?_)
      · refine aw_iconst (v := (-1)) dX6_ingredient_20 (by decide) ?_
        exact aw_ireturn rfl dX6_ingredient_21 ⟨Nat.zero_le _, Nat.zero_le _⟩ (by simp [c4, c8, c12, Int32.not_lt.mpr, Int32.not_le.mpr, Int32.not_lt, Int32.not_le]; try simp_all) rfl rfl rfl
      · refine aw_iload_3 dX6_ingredient_15 ?_
        refine aw_iconst (v := 1) dX6_ingredient_16 (by decide) ?_
        refine aw_icmp_le (tgt := 22) dX6_ingredient_17 (by decide) (fun c17 => ?_) (fun c17 => ?_)
        · refine aw_iload_2 dX6_ingredient_22 ?_
          refine aw_aload_0 dX6_ingredient_23 ?_
          refine aw_getR fX6_0 (fun _ _ => rfl) (by assumption) hinX6 (by decide +kernel : Cond.fieldLink RX6 10 RX6 (TX6 0).2.1 (TX6 0).2.2.1 ∈ wsX6_ingredient) (by assumption) dX6_ingredient_24 ?_
          refine aw_iload_1 dX6_ingredient_27 ?_
          refine aw_run (zRun_V (c_X0_ingredientsOf (by assumption)) gX6_ingredient_X0_ingredientsOf q_X0_ingredientsOf rfl (by decide) rfl (by assumption) rfl rfl (Nat.le_of_ble_eq_true rfl) dX6_ingredient_28 ⟨Nat.le_refl _, Nat.le_refl _⟩) ?_
          refine aw_icmp_lt (tgt := 37) dX6_ingredient_31 (by decide) (fun c31 => ?_) (fun c31 => ?_)
          · refine aw_iload_3 dX6_ingredient_37 ?_
            refine aw_if_ne (tgt := 53) dX6_ingredient_38 (by decide) (fun c38 => ?_) (fun c38 => ?_)
            · refine aw_aload_0 dX6_ingredient_53 ?_
              refine aw_getR fX6_0 (fun _ _ => rfl) (by assumption) hinX6 (by decide +kernel : Cond.fieldLink RX6 10 RX6 (TX6 0).2.1 (TX6 0).2.2.1 ∈ wsX6_ingredient) (by assumption) dX6_ingredient_54 ?_
              refine aw_iload_1 dX6_ingredient_57 ?_
              refine aw_iload_2 dX6_ingredient_58 ?_
              refine aw_run (zRun_V (c_X0_amountAt (by assumption)) gX6_ingredient_X0_amountAt q_X0_amountAt rfl (by decide) rfl (by assumption) rfl rfl (Nat.le_of_ble_eq_true rfl) dX6_ingredient_59 ⟨Nat.le_refl _, Nat.le_refl _⟩) ?_
              exact aw_ireturn rfl dX6_ingredient_62 ⟨Nat.zero_le _, Nat.zero_le _⟩ (by simp [c4, c8, c12, c17, c31, c38, Int32.not_lt.mpr, Int32.not_le.mpr, Int32.not_lt, Int32.not_le]; try simp_all) rfl rfl rfl
            · refine aw_aload_0 dX6_ingredient_41 ?_
              refine aw_getR fX6_0 (fun _ _ => rfl) (by assumption) hinX6 (by decide +kernel : Cond.fieldLink RX6 10 RX6 (TX6 0).2.1 (TX6 0).2.2.1 ∈ wsX6_ingredient) (by assumption) dX6_ingredient_42 ?_
              refine aw_iload_1 dX6_ingredient_45 ?_
              refine aw_iload_2 dX6_ingredient_46 ?_
              refine aw_run (zRun_V (c_X0_ingredientAt (by assumption)) gX6_ingredient_X0_ingredientAt q_X0_ingredientAt rfl (by decide) rfl (by assumption) rfl rfl (Nat.le_of_ble_eq_true rfl) dX6_ingredient_47 ⟨Nat.le_refl _, Nat.le_refl _⟩) ?_
              refine aw_goto (tgt := 62) dX6_ingredient_50 (by decide) ?_
              exact aw_ireturn rfl dX6_ingredient_62 ⟨Nat.zero_le _, Nat.zero_le _⟩ (by simp [c4, c8, c12, c17, c31, c38, Int32.not_lt.mpr, Int32.not_le.mpr, Int32.not_lt, Int32.not_le]; try simp_all) rfl rfl rfl
          · refine aw_bipush (v := (-9)) dX6_ingredient_34 (by decide) ?_
            exact aw_ireturn rfl dX6_ingredient_36 ⟨Nat.zero_le _, Nat.zero_le _⟩ (by simp [c4, c8, c12, c17, c31, Int32.not_lt.mpr, Int32.not_le.mpr, Int32.not_lt, Int32.not_le]; try simp_all) rfl rfl rfl
        · refine aw_iconst (v := (-1)) dX6_ingredient_20 (by decide) ?_
          exact aw_ireturn rfl dX6_ingredient_21 ⟨Nat.zero_le _, Nat.zero_le _⟩ (by simp [c4, c8, c12, c17, Int32.not_lt.mpr, Int32.not_le.mpr, Int32.not_lt, Int32.not_le]; try simp_all) rfl rfl rfl

abbrev mX6_substitute : ZM := (cX6_substitute, RX6, wsX6_substitute, 3, 0, 0, (some .int), 3, yX6_substitute.name)
set_option maxHeartbeats 1000000 in
set_option maxRecDepth 100000 in
theorem c_X6_substitute {sh : zSh} {F : Nat → Nat → Int32} {P : Nat → Nat → Option Nat} {χ : Nat} {t k : Int32} (hY : zSys sh P χ) : zMet yX6_substitute wsX6_substitute (3) (0) (0) [.ref χ, .int t, .int k] sh F P (some (.int (if cIsThing t = 0 then -1 else if 0 ≤ k then (if bSubs (zsub F (χ + 1)) t ≤ k then -9 else bSub (zsub F (χ + 1)) t k) else -1))) sh F P := by
  refine zMet.of (by decide) rfl (Nat.le_of_ble_eq_true rfl) (by simp [Value.category]) ?_
  intro X ρ
  show AW mX6_substitute X (zMQ mX6_substitute X (some (.int (if cIsThing t = 0 then -1 else if 0 ≤ k then (if bSubs (zsub F (χ + 1)) t ≤ k then -9 else bSub (zsub F (χ + 1)) t k) else -1))) sh F P) 0 [some (.ref χ), some (.int t), some (.int k)] [] ρ sh F P 0 0
  have hinX6 : ∀ w ∈ u_ws RX6 TX6 11, w ∈ wsX6_substitute := by decide +kernel
  obtain ⟨⟨ts, tp0, tp1, tp2, tp3, tp4, tp5, tp6, tp7, ti, tx⟩, hB, hD, hS, hW, hH, hR, hPl, hIm⟩ := id hY
  have hb0 := hB.1
  have hd0 := hD.1
  obtain ⟨hs0, ⟨sp0, sp1, sp2, sp3, sp4, sp5⟩, sh1, sh2, sh3, sh4, sh5, sh6⟩ := id hS
  have hw0 := hW.1
  have hh0 := hH.1
  have hr0 := hR.1
  refine aw_iload_1 dX6_substitute_0 ?_
  refine aw_run (zRun_S (c_X6_isThing ) (Or.inl gX6_substitute_X6_isThing) q_X6_isThing (by decide) rfl rfl (Nat.le_of_ble_eq_true rfl) dX6_substitute_1 ⟨Nat.le_refl _, Nat.le_refl _⟩) ?_
  refine aw_if_eq (tgt := 11) dX6_substitute_4 (by decide) (fun c4 => ?_) (fun c4 => ?_)
  · refine aw_iconst (v := (-1)) dX6_substitute_11 (by decide) ?_
    exact aw_ireturn rfl dX6_substitute_12 ⟨Nat.zero_le _, Nat.zero_le _⟩ (by simp only [c4]; try simp [c4, Int32.not_lt, Int32.not_le]) rfl rfl rfl
  · refine aw_iload_2 dX6_substitute_7 ?_
    refine aw_if_ge (tgt := 13) dX6_substitute_8 (by decide) (fun c8 => ?_) (fun c8 => ?_)
    · refine aw_iload_2 dX6_substitute_13 ?_
      refine aw_aload_0 dX6_substitute_14 ?_
      refine aw_getR fX6_0 (fun _ _ => rfl) (by assumption) hinX6 (by decide +kernel : Cond.fieldLink RX6 10 RX6 (TX6 0).2.1 (TX6 0).2.2.1 ∈ wsX6_substitute) (by assumption) dX6_substitute_15 ?_
      refine aw_iload_1 dX6_substitute_18 ?_
      refine aw_run (zRun_V (c_X0_substitutesOf (by assumption)) gX6_substitute_X0_substitutesOf q_X0_substitutesOf rfl (by decide) rfl (by assumption) rfl rfl (Nat.le_of_ble_eq_true rfl) dX6_substitute_19 ⟨Nat.le_refl _, Nat.le_refl _⟩) ?_
      refine aw_icmp_ge (tgt := 37) dX6_substitute_22 (by decide) (fun c22 => ?_) (fun c22 => ?_)
      · refine aw_bipush (v := (-9)) dX6_substitute_37 (by decide) ?_
        exact aw_ireturn rfl dX6_substitute_39 ⟨Nat.zero_le _, Nat.zero_le _⟩ (by simp only [c4, c8, c22]; try simp [c4, c8, c22, Int32.not_lt, Int32.not_le]) rfl rfl rfl
      · refine aw_aload_0 dX6_substitute_25 ?_
        refine aw_getR fX6_0 (fun _ _ => rfl) (by assumption) hinX6 (by decide +kernel : Cond.fieldLink RX6 10 RX6 (TX6 0).2.1 (TX6 0).2.2.1 ∈ wsX6_substitute) (by assumption) dX6_substitute_26 ?_
        refine aw_iload_1 dX6_substitute_29 ?_
        refine aw_iload_2 dX6_substitute_30 ?_
        refine aw_run (zRun_V (c_X0_substituteAt (by assumption)) gX6_substitute_X0_substituteAt q_X0_substituteAt rfl (by decide) rfl (by assumption) rfl rfl (Nat.le_of_ble_eq_true rfl) dX6_substitute_31 ⟨Nat.le_refl _, Nat.le_refl _⟩) ?_
        refine aw_goto (tgt := 39) dX6_substitute_34 (by decide) ?_
        exact aw_ireturn rfl dX6_substitute_39 ⟨Nat.zero_le _, Nat.zero_le _⟩ (by simp only [c4, c8, c22]; try simp [c4, c8, c22, Int32.not_lt, Int32.not_le]) rfl rfl rfl
    · refine aw_iconst (v := (-1)) dX6_substitute_11 (by decide) ?_
      exact aw_ireturn rfl dX6_substitute_12 ⟨Nat.zero_le _, Nat.zero_le _⟩ (by simp only [c4, c8]; try simp [c4, c8, Int32.not_lt, Int32.not_le]) rfl rfl rfl

abbrev mX6_told : ZM := (cX6_told, RX6, wsX6_told, 5, 0, 0, (some .int), 2, yX6_told.name)
set_option maxHeartbeats 1000000 in
set_option maxRecDepth 100000 in
theorem c_X6_told_1 {sh : zSh} {F : Nat → Nat → Int32} {P : Nat → Nat → Option Nat} {χ : Nat} (hY : zSys sh P χ) : zMet yX6_told wsX6_told (5) (0) (0) [.ref χ, .int 1] sh F P (some (.int (cSum (F (χ + 20)) 20))) sh F P := by
  refine zMet.of (by decide) rfl (Nat.le_of_ble_eq_true rfl) (by simp [Value.category]) ?_
  intro X ρ
  show AW mX6_told X (zMQ mX6_told X (some (.int (cSum (F (χ + 20)) 20))) sh F P) 0 [some (.ref χ), some (.int 1)] [] ρ sh F P 0 0
  have hinX6 : ∀ w ∈ u_ws RX6 TX6 11, w ∈ wsX6_told := by decide +kernel
  have hinX4 : ∀ w ∈ u_ws RX4 TX4 7, w ∈ wsX6_told := by decide +kernel
  obtain ⟨⟨ts, tp0, tp1, tp2, tp3, tp4, tp5, tp6, tp7, ti, tx⟩, hB, hD, hS, hW, hH, hR, hPl, hIm⟩ := id hY
  have hb0 := hB.1
  have hd0 := hD.1
  obtain ⟨hs0, ⟨sp0, sp1, sp2, sp3, sp4, sp5⟩, sh1, sh2, sh3, sh4, sh5, sh6⟩ := id hS
  have hw0 := hW.1
  have hh0 := hH.1
  have hr0 := hR.1
  refine aw_iload_1 dX6_told_0 ?_
  refine aw_tableIn (off := 55) (tgt := 56) dX6_told_1 (by decide) (by decide) (by decide) (by decide) ?_
  refine aw_aload_0 dX6_told_56 ?_
  refine aw_getR fX6_2 (fun _ _ => rfl) (by assumption) hinX6 (by decide +kernel : Cond.fieldLink RX6 22 RX6 (TX6 2).2.1 (TX6 2).2.2.1 ∈ wsX6_told) (by assumption) dX6_told_57 ?_
  refine aw_getRN (q := 0) fX4_0 (fun _ _ => rfl) (by assumption) hinX4 rfl (by assumption) dX6_told_60 ?_
  refine aw_run (zRun_S (c_X6_sum (by assumption) (by decide)) (Or.inl gX6_told_X6_sum) q_X6_sum (by decide) rfl rfl (Nat.le_of_ble_eq_true rfl) dX6_told_63 ⟨Nat.le_refl _, Nat.le_refl _⟩) ?_
  exact aw_ireturn rfl dX6_told_66 ⟨Nat.zero_le _, Nat.zero_le _⟩ (by first | rfl | simp []) rfl rfl rfl

set_option maxHeartbeats 1000000 in
set_option maxRecDepth 100000 in
theorem c_X6_told_2 {sh : zSh} {F : Nat → Nat → Int32} {P : Nat → Nat → Option Nat} {χ : Nat} (hY : zSys sh P χ) : zMet yX6_told wsX6_told (5) (0) (0) [.ref χ, .int 2] sh F P (some (.int (cSum (F (χ + 21)) 20))) sh F P := by
  refine zMet.of (by decide) rfl (Nat.le_of_ble_eq_true rfl) (by simp [Value.category]) ?_
  intro X ρ
  show AW mX6_told X (zMQ mX6_told X (some (.int (cSum (F (χ + 21)) 20))) sh F P) 0 [some (.ref χ), some (.int 2)] [] ρ sh F P 0 0
  have hinX6 : ∀ w ∈ u_ws RX6 TX6 11, w ∈ wsX6_told := by decide +kernel
  have hinX4 : ∀ w ∈ u_ws RX4 TX4 7, w ∈ wsX6_told := by decide +kernel
  obtain ⟨⟨ts, tp0, tp1, tp2, tp3, tp4, tp5, tp6, tp7, ti, tx⟩, hB, hD, hS, hW, hH, hR, hPl, hIm⟩ := id hY
  have hb0 := hB.1
  have hd0 := hD.1
  obtain ⟨hs0, ⟨sp0, sp1, sp2, sp3, sp4, sp5⟩, sh1, sh2, sh3, sh4, sh5, sh6⟩ := id hS
  have hw0 := hW.1
  have hh0 := hH.1
  have hr0 := hR.1
  refine aw_iload_1 dX6_told_0 ?_
  refine aw_tableIn (off := 66) (tgt := 67) dX6_told_1 (by decide) (by decide) (by decide) (by decide) ?_
  refine aw_aload_0 dX6_told_67 ?_
  refine aw_getR fX6_2 (fun _ _ => rfl) (by assumption) hinX6 (by decide +kernel : Cond.fieldLink RX6 22 RX6 (TX6 2).2.1 (TX6 2).2.2.1 ∈ wsX6_told) (by assumption) dX6_told_68 ?_
  refine aw_getRN (q := 2) fX4_1 (fun _ _ => rfl) (by assumption) hinX4 rfl (by assumption) dX6_told_71 ?_
  refine aw_run (zRun_S (c_X6_sum (by assumption) (by decide)) (Or.inl gX6_told_X6_sum) q_X6_sum (by decide) rfl rfl (Nat.le_of_ble_eq_true rfl) dX6_told_74 ⟨Nat.le_refl _, Nat.le_refl _⟩) ?_
  exact aw_ireturn rfl dX6_told_77 ⟨Nat.zero_le _, Nat.zero_le _⟩ (by first | rfl | simp []) rfl rfl rfl

set_option maxHeartbeats 1000000 in
set_option maxRecDepth 100000 in
theorem c_X6_told_3 {sh : zSh} {F : Nat → Nat → Int32} {P : Nat → Nat → Option Nat} {χ : Nat} (hY : zSys sh P χ) : zMet yX6_told wsX6_told (5) (0) (0) [.ref χ, .int 3] sh F P (some (.int (F (χ + 19) 6))) sh F P := by
  refine zMet.of (by decide) rfl (Nat.le_of_ble_eq_true rfl) (by simp [Value.category]) ?_
  intro X ρ
  show AW mX6_told X (zMQ mX6_told X (some (.int (F (χ + 19) 6))) sh F P) 0 [some (.ref χ), some (.int 3)] [] ρ sh F P 0 0
  have hinX6 : ∀ w ∈ u_ws RX6 TX6 11, w ∈ wsX6_told := by decide +kernel
  have hinX4 : ∀ w ∈ u_ws RX4 TX4 7, w ∈ wsX6_told := by decide +kernel
  obtain ⟨⟨ts, tp0, tp1, tp2, tp3, tp4, tp5, tp6, tp7, ti, tx⟩, hB, hD, hS, hW, hH, hR, hPl, hIm⟩ := id hY
  have hb0 := hB.1
  have hd0 := hD.1
  obtain ⟨hs0, ⟨sp0, sp1, sp2, sp3, sp4, sp5⟩, sh1, sh2, sh3, sh4, sh5, sh6⟩ := id hS
  have hw0 := hW.1
  have hh0 := hH.1
  have hr0 := hR.1
  refine aw_iload_1 dX6_told_0 ?_
  refine aw_tableIn (off := 77) (tgt := 78) dX6_told_1 (by decide) (by decide) (by decide) (by decide) ?_
  refine aw_aload_0 dX6_told_78 ?_
  refine aw_getR fX6_2 (fun _ _ => rfl) (by assumption) hinX6 (by decide +kernel : Cond.fieldLink RX6 22 RX6 (TX6 2).2.1 (TX6 2).2.2.1 ∈ wsX6_told) (by assumption) dX6_told_79 ?_
  refine aw_getIN (q := 3) fX4_6 hinX4 rfl (by assumption) dX6_told_82 ?_
  exact aw_ireturn rfl dX6_told_85 ⟨Nat.zero_le _, Nat.zero_le _⟩ (by first | rfl | simp []) rfl rfl rfl

set_option maxHeartbeats 1000000 in
set_option maxRecDepth 100000 in
theorem c_X6_told_4 {sh : zSh} {F : Nat → Nat → Int32} {P : Nat → Nat → Option Nat} {χ : Nat} (hY : zSys sh P χ) : zMet yX6_told wsX6_told (5) (0) (0) [.ref χ, .int 4] sh F P (some (.int (bGreatest (zsub F (χ + 1))))) sh F P := by
  refine zMet.of (by decide) rfl (Nat.le_of_ble_eq_true rfl) (by simp [Value.category]) ?_
  intro X ρ
  show AW mX6_told X (zMQ mX6_told X (some (.int (bGreatest (zsub F (χ + 1))))) sh F P) 0 [some (.ref χ), some (.int 4)] [] ρ sh F P 0 0
  have hinX6 : ∀ w ∈ u_ws RX6 TX6 11, w ∈ wsX6_told := by decide +kernel
  have hinX4 : ∀ w ∈ u_ws RX4 TX4 7, w ∈ wsX6_told := by decide +kernel
  obtain ⟨⟨ts, tp0, tp1, tp2, tp3, tp4, tp5, tp6, tp7, ti, tx⟩, hB, hD, hS, hW, hH, hR, hPl, hIm⟩ := id hY
  have hb0 := hB.1
  have hd0 := hD.1
  obtain ⟨hs0, ⟨sp0, sp1, sp2, sp3, sp4, sp5⟩, sh1, sh2, sh3, sh4, sh5, sh6⟩ := id hS
  have hw0 := hW.1
  have hh0 := hH.1
  have hr0 := hR.1
  refine aw_iload_1 dX6_told_0 ?_
  refine aw_tableIn (off := 85) (tgt := 86) dX6_told_1 (by decide) (by decide) (by decide) (by decide) ?_
  refine aw_aload_0 dX6_told_86 ?_
  refine aw_getR fX6_0 (fun _ _ => rfl) (by assumption) hinX6 (by decide +kernel : Cond.fieldLink RX6 10 RX6 (TX6 0).2.1 (TX6 0).2.2.1 ∈ wsX6_told) (by assumption) dX6_told_87 ?_
  refine aw_run (zRun_V (c_X0_greatestRank (by assumption)) gX6_told_X0_greatestRank q_X0_greatestRank rfl (by decide) rfl (by assumption) rfl rfl (Nat.le_of_ble_eq_true rfl) dX6_told_90 ⟨Nat.le_refl _, Nat.le_refl _⟩) ?_
  exact aw_ireturn rfl dX6_told_93 ⟨Nat.zero_le _, Nat.zero_le _⟩ (by first | rfl | simp []) rfl rfl rfl

set_option maxHeartbeats 1000000 in
set_option maxRecDepth 100000 in
theorem c_X6_told_5 {sh : zSh} {F : Nat → Nat → Int32} {P : Nat → Nat → Option Nat} {χ : Nat} (hY : zSys sh P χ) : zMet yX6_told wsX6_told (5) (0) (0) [.ref χ, .int 5] sh F P (some (.int (bMadeSet (zsub F (χ + 1))))) sh F P := by
  refine zMet.of (by decide) rfl (Nat.le_of_ble_eq_true rfl) (by simp [Value.category]) ?_
  intro X ρ
  show AW mX6_told X (zMQ mX6_told X (some (.int (bMadeSet (zsub F (χ + 1))))) sh F P) 0 [some (.ref χ), some (.int 5)] [] ρ sh F P 0 0
  have hinX6 : ∀ w ∈ u_ws RX6 TX6 11, w ∈ wsX6_told := by decide +kernel
  have hinX4 : ∀ w ∈ u_ws RX4 TX4 7, w ∈ wsX6_told := by decide +kernel
  obtain ⟨⟨ts, tp0, tp1, tp2, tp3, tp4, tp5, tp6, tp7, ti, tx⟩, hB, hD, hS, hW, hH, hR, hPl, hIm⟩ := id hY
  have hb0 := hB.1
  have hd0 := hD.1
  obtain ⟨hs0, ⟨sp0, sp1, sp2, sp3, sp4, sp5⟩, sh1, sh2, sh3, sh4, sh5, sh6⟩ := id hS
  have hw0 := hW.1
  have hh0 := hH.1
  have hr0 := hR.1
  refine aw_iload_1 dX6_told_0 ?_
  refine aw_tableIn (off := 93) (tgt := 94) dX6_told_1 (by decide) (by decide) (by decide) (by decide) ?_
  refine aw_aload_0 dX6_told_94 ?_
  refine aw_getR fX6_0 (fun _ _ => rfl) (by assumption) hinX6 (by decide +kernel : Cond.fieldLink RX6 10 RX6 (TX6 0).2.1 (TX6 0).2.2.1 ∈ wsX6_told) (by assumption) dX6_told_95 ?_
  refine aw_run (zRun_V (c_X0_madeThings (by assumption)) gX6_told_X0_madeThings q_X0_madeThings rfl (by decide) rfl (by assumption) rfl rfl (Nat.le_of_ble_eq_true rfl) dX6_told_98 ⟨Nat.le_refl _, Nat.le_refl _⟩) ?_
  exact aw_ireturn rfl dX6_told_101 ⟨Nat.zero_le _, Nat.zero_le _⟩ (by first | rfl | simp []) rfl rfl rfl

set_option maxHeartbeats 1000000 in
set_option maxRecDepth 100000 in
theorem c_X6_told_6 {sh : zSh} {F : Nat → Nat → Int32} {P : Nat → Nat → Option Nat} {χ : Nat} (hY : zSys sh P χ) : zMet yX6_told wsX6_told (5) (0) (0) [.ref χ, .int 6] sh F P (some (.int (F χ 8))) sh F P := by
  refine zMet.of (by decide) rfl (Nat.le_of_ble_eq_true rfl) (by simp [Value.category]) ?_
  intro X ρ
  show AW mX6_told X (zMQ mX6_told X (some (.int (F χ 8))) sh F P) 0 [some (.ref χ), some (.int 6)] [] ρ sh F P 0 0
  have hinX6 : ∀ w ∈ u_ws RX6 TX6 11, w ∈ wsX6_told := by decide +kernel
  have hinX4 : ∀ w ∈ u_ws RX4 TX4 7, w ∈ wsX6_told := by decide +kernel
  obtain ⟨⟨ts, tp0, tp1, tp2, tp3, tp4, tp5, tp6, tp7, ti, tx⟩, hB, hD, hS, hW, hH, hR, hPl, hIm⟩ := id hY
  have hb0 := hB.1
  have hd0 := hD.1
  obtain ⟨hs0, ⟨sp0, sp1, sp2, sp3, sp4, sp5⟩, sh1, sh2, sh3, sh4, sh5, sh6⟩ := id hS
  have hw0 := hW.1
  have hh0 := hH.1
  have hr0 := hR.1
  refine aw_iload_1 dX6_told_0 ?_
  refine aw_tableIn (off := 101) (tgt := 102) dX6_told_1 (by decide) (by decide) (by decide) (by decide) ?_
  refine aw_aload_0 dX6_told_102 ?_
  refine aw_getI fX6_8 hinX6 (by decide +kernel : Cond.fieldLink RX6 57 RX6 (TX6 8).2.1 (TX6 8).2.2.1 ∈ wsX6_told) (by assumption) dX6_told_103 ?_
  exact aw_ireturn rfl dX6_told_106 ⟨Nat.zero_le _, Nat.zero_le _⟩ (by first | rfl | simp []) rfl rfl rfl

set_option maxHeartbeats 1000000 in
set_option maxRecDepth 100000 in
theorem c_X6_told_7 {sh : zSh} {F : Nat → Nat → Int32} {P : Nat → Nat → Option Nat} {χ : Nat} (hY : zSys sh P χ) : zMet yX6_told wsX6_told (5) (0) (0) [.ref χ, .int 7] sh F P (some (.int (F (χ + 34) 2))) sh F P := by
  refine zMet.of (by decide) rfl (Nat.le_of_ble_eq_true rfl) (by simp [Value.category]) ?_
  intro X ρ
  show AW mX6_told X (zMQ mX6_told X (some (.int (F (χ + 34) 2))) sh F P) 0 [some (.ref χ), some (.int 7)] [] ρ sh F P 0 0
  have hinX6 : ∀ w ∈ u_ws RX6 TX6 11, w ∈ wsX6_told := by decide +kernel
  have hinX4 : ∀ w ∈ u_ws RX4 TX4 7, w ∈ wsX6_told := by decide +kernel
  obtain ⟨⟨ts, tp0, tp1, tp2, tp3, tp4, tp5, tp6, tp7, ti, tx⟩, hB, hD, hS, hW, hH, hR, hPl, hIm⟩ := id hY
  have hb0 := hB.1
  have hd0 := hD.1
  obtain ⟨hs0, ⟨sp0, sp1, sp2, sp3, sp4, sp5⟩, sh1, sh2, sh3, sh4, sh5, sh6⟩ := id hS
  have hw0 := hW.1
  have hh0 := hH.1
  have hr0 := hR.1
  refine aw_iload_1 dX6_told_0 ?_
  refine aw_tableIn (off := 106) (tgt := 107) dX6_told_1 (by decide) (by decide) (by decide) (by decide) ?_
  refine aw_aload_0 dX6_told_107 ?_
  refine aw_getR fX6_4 (fun _ _ => rfl) (by assumption) hinX6 (by decide +kernel : Cond.fieldLink RX6 36 RX6 (TX6 4).2.1 (TX6 4).2.2.1 ∈ wsX6_told) (by assumption) dX6_told_108 ?_
  refine aw_run (zRun_V (c_X1_size hH) gX6_told_X1_size q_X1_size rfl (by decide) rfl (by assumption) rfl rfl (Nat.le_of_ble_eq_true rfl) dX6_told_111 ⟨Nat.le_refl _, Nat.le_refl _⟩) ?_
  exact aw_ireturn rfl dX6_told_114 ⟨Nat.zero_le _, Nat.zero_le _⟩ (by first | rfl | simp []) rfl rfl rfl

set_option maxHeartbeats 1000000 in
set_option maxRecDepth 100000 in
theorem c_X6_told_x {sh : zSh} {F : Nat → Nat → Int32} {P : Nat → Nat → Option Nat} {χ : Nat} {k : Int32} (hY : zSys sh P χ) (h : k.toInt < 0 ∨ 7 < k.toInt) : zMet yX6_told wsX6_told (5) (0) (0) [.ref χ, .int k] sh F P (some (.int (-1))) sh F P := by
  refine zMet.of (by decide) rfl (Nat.le_of_ble_eq_true rfl) (by simp [Value.category]) ?_
  intro X ρ
  show AW mX6_told X (zMQ mX6_told X (some (.int (-1))) sh F P) 0 [some (.ref χ), some (.int k)] [] ρ sh F P 0 0
  have hinX6 : ∀ w ∈ u_ws RX6 TX6 11, w ∈ wsX6_told := by decide +kernel
  have hinX4 : ∀ w ∈ u_ws RX4 TX4 7, w ∈ wsX6_told := by decide +kernel
  obtain ⟨⟨ts, tp0, tp1, tp2, tp3, tp4, tp5, tp6, tp7, ti, tx⟩, hB, hD, hS, hW, hH, hR, hPl, hIm⟩ := id hY
  have hb0 := hB.1
  have hd0 := hD.1
  obtain ⟨hs0, ⟨sp0, sp1, sp2, sp3, sp4, sp5⟩, sh1, sh2, sh3, sh4, sh5, sh6⟩ := id hS
  have hw0 := hW.1
  have hh0 := hH.1
  have hr0 := hR.1
  refine aw_iload_1 dX6_told_0 ?_
  refine aw_tableOut (tgt := 115) dX6_told_1 h (by decide) ?_
  refine aw_iconst (v := (-1)) dX6_told_115 (by decide) ?_
  exact aw_ireturn rfl dX6_told_116 ⟨Nat.zero_le _, Nat.zero_le _⟩ (by first | rfl | simp []) rfl rfl rfl

abbrev mX6_thing : ZM := (cX6_thing, RX6, wsX6_thing, 3, 0, 0, (some .int), 3, yX6_thing.name)
set_option maxHeartbeats 1000000 in
set_option maxRecDepth 100000 in
theorem c_X6_thing_0 {sh : zSh} {F : Nat → Nat → Int32} {P : Nat → Nat → Option Nat} {χ : Nat} {t : Int32} (hY : zSys sh P χ) (ht : ¬ cIsThing t = 0) : zMet yX6_thing wsX6_thing (3) (0) (0) [.ref χ, .int t, .int 0] sh F P (some (.int (cAt 20 (F (χ + 20)) t))) sh F P := by
  refine zMet.of (by decide) rfl (Nat.le_of_ble_eq_true rfl) (by simp [Value.category]) ?_
  intro X ρ
  show AW mX6_thing X (zMQ mX6_thing X (some (.int (cAt 20 (F (χ + 20)) t))) sh F P) 0 [some (.ref χ), some (.int t), some (.int 0)] [] ρ sh F P 0 0
  have hinX6 : ∀ w ∈ u_ws RX6 TX6 11, w ∈ wsX6_thing := by decide +kernel
  have hinX4 : ∀ w ∈ u_ws RX4 TX4 7, w ∈ wsX6_thing := by decide +kernel
  obtain ⟨⟨ts, tp0, tp1, tp2, tp3, tp4, tp5, tp6, tp7, ti, tx⟩, hB, hD, hS, hW, hH, hR, hPl, hIm⟩ := id hY
  have hb0 := hB.1
  have hd0 := hD.1
  obtain ⟨hs0, ⟨sp0, sp1, sp2, sp3, sp4, sp5⟩, sh1, sh2, sh3, sh4, sh5, sh6⟩ := id hS
  have hw0 := hW.1
  have hh0 := hH.1
  have hr0 := hR.1
  refine aw_iload_1 dX6_thing_0 ?_
  refine aw_run (zRun_S (c_X6_isThing ) (Or.inl gX6_thing_X6_isThing) q_X6_isThing (by decide) rfl rfl (Nat.le_of_ble_eq_true rfl) dX6_thing_1 ⟨Nat.le_refl _, Nat.le_refl _⟩) ?_
  refine aw_if_ne (tgt := 9) dX6_thing_4 (by decide) (fun c4 => ?_) (fun c4 => absurd c4 ht)
  refine aw_iload_2 dX6_thing_9 ?_
  refine aw_tableIn (off := 58) (tgt := 68) dX6_thing_10 (by decide) (by decide) (by decide) (by decide) ?_
  refine aw_aload_0 dX6_thing_68 ?_
  refine aw_getR fX6_2 (fun _ _ => rfl) (by assumption) hinX6 (by decide +kernel : Cond.fieldLink RX6 22 RX6 (TX6 2).2.1 (TX6 2).2.2.1 ∈ wsX6_thing) (by assumption) dX6_thing_69 ?_
  refine aw_getRN (q := 0) fX4_0 (fun _ _ => rfl) (by assumption) hinX4 rfl (by assumption) dX6_thing_72 ?_
  refine aw_iload_1 dX6_thing_75 ?_
  refine aw_run (zRun_S (c_X6_at (by assumption) (by decide)) (Or.inl gX6_thing_X6_at) q_X6_at (by decide) rfl rfl (Nat.le_of_ble_eq_true rfl) dX6_thing_76 ⟨Nat.le_refl _, Nat.le_refl _⟩) ?_
  exact aw_ireturn rfl dX6_thing_79 ⟨Nat.zero_le _, Nat.zero_le _⟩ (by first | rfl | (first | rw [if_pos c97] | rw [if_neg c97]) | (first | rw [if_pos c122] | rw [if_neg c122])) rfl rfl rfl

set_option maxHeartbeats 1000000 in
set_option maxRecDepth 100000 in
theorem c_X6_thing_1 {sh : zSh} {F : Nat → Nat → Int32} {P : Nat → Nat → Option Nat} {χ : Nat} {t : Int32} (hY : zSys sh P χ) (ht : ¬ cIsThing t = 0) : zMet yX6_thing wsX6_thing (3) (0) (0) [.ref χ, .int t, .int 1] sh F P (some (.int (bRank (zsub F (χ + 1)) t))) sh F P := by
  refine zMet.of (by decide) rfl (Nat.le_of_ble_eq_true rfl) (by simp [Value.category]) ?_
  intro X ρ
  show AW mX6_thing X (zMQ mX6_thing X (some (.int (bRank (zsub F (χ + 1)) t))) sh F P) 0 [some (.ref χ), some (.int t), some (.int 1)] [] ρ sh F P 0 0
  have hinX6 : ∀ w ∈ u_ws RX6 TX6 11, w ∈ wsX6_thing := by decide +kernel
  have hinX4 : ∀ w ∈ u_ws RX4 TX4 7, w ∈ wsX6_thing := by decide +kernel
  obtain ⟨⟨ts, tp0, tp1, tp2, tp3, tp4, tp5, tp6, tp7, ti, tx⟩, hB, hD, hS, hW, hH, hR, hPl, hIm⟩ := id hY
  have hb0 := hB.1
  have hd0 := hD.1
  obtain ⟨hs0, ⟨sp0, sp1, sp2, sp3, sp4, sp5⟩, sh1, sh2, sh3, sh4, sh5, sh6⟩ := id hS
  have hw0 := hW.1
  have hh0 := hH.1
  have hr0 := hR.1
  refine aw_iload_1 dX6_thing_0 ?_
  refine aw_run (zRun_S (c_X6_isThing ) (Or.inl gX6_thing_X6_isThing) q_X6_isThing (by decide) rfl rfl (Nat.le_of_ble_eq_true rfl) dX6_thing_1 ⟨Nat.le_refl _, Nat.le_refl _⟩) ?_
  refine aw_if_ne (tgt := 9) dX6_thing_4 (by decide) (fun c4 => ?_) (fun c4 => absurd c4 ht)
  refine aw_iload_2 dX6_thing_9 ?_
  refine aw_tableIn (off := 70) (tgt := 80) dX6_thing_10 (by decide) (by decide) (by decide) (by decide) ?_
  refine aw_aload_0 dX6_thing_80 ?_
  refine aw_getR fX6_0 (fun _ _ => rfl) (by assumption) hinX6 (by decide +kernel : Cond.fieldLink RX6 10 RX6 (TX6 0).2.1 (TX6 0).2.2.1 ∈ wsX6_thing) (by assumption) dX6_thing_81 ?_
  refine aw_iload_1 dX6_thing_84 ?_
  refine aw_run (zRun_V (c_X0_rankOf (by assumption)) gX6_thing_X0_rankOf q_X0_rankOf rfl (by decide) rfl (by assumption) rfl rfl (Nat.le_of_ble_eq_true rfl) dX6_thing_85 ⟨Nat.le_refl _, Nat.le_refl _⟩) ?_
  exact aw_ireturn rfl dX6_thing_88 ⟨Nat.zero_le _, Nat.zero_le _⟩ (by first | rfl | (first | rw [if_pos c97] | rw [if_neg c97]) | (first | rw [if_pos c122] | rw [if_neg c122])) rfl rfl rfl

set_option maxHeartbeats 1000000 in
set_option maxRecDepth 100000 in
theorem c_X6_thing_2 {sh : zSh} {F : Nat → Nat → Int32} {P : Nat → Nat → Option Nat} {χ : Nat} {t : Int32} (hY : zSys sh P χ) (ht : ¬ cIsThing t = 0) : zMet yX6_thing wsX6_thing (3) (0) (0) [.ref χ, .int t, .int 2] sh F P (some (.int (if bMade (zsub F (χ + 1)) t = 0 then -9 else bYield (zsub F (χ + 1)) t))) sh F P := by
  refine zMet.of (by decide) rfl (Nat.le_of_ble_eq_true rfl) (by simp [Value.category]) ?_
  intro X ρ
  show AW mX6_thing X (zMQ mX6_thing X (some (.int (if bMade (zsub F (χ + 1)) t = 0 then -9 else bYield (zsub F (χ + 1)) t))) sh F P) 0 [some (.ref χ), some (.int t), some (.int 2)] [] ρ sh F P 0 0
  have hinX6 : ∀ w ∈ u_ws RX6 TX6 11, w ∈ wsX6_thing := by decide +kernel
  have hinX4 : ∀ w ∈ u_ws RX4 TX4 7, w ∈ wsX6_thing := by decide +kernel
  obtain ⟨⟨ts, tp0, tp1, tp2, tp3, tp4, tp5, tp6, tp7, ti, tx⟩, hB, hD, hS, hW, hH, hR, hPl, hIm⟩ := id hY
  have hb0 := hB.1
  have hd0 := hD.1
  obtain ⟨hs0, ⟨sp0, sp1, sp2, sp3, sp4, sp5⟩, sh1, sh2, sh3, sh4, sh5, sh6⟩ := id hS
  have hw0 := hW.1
  have hh0 := hH.1
  have hr0 := hR.1
  refine aw_iload_1 dX6_thing_0 ?_
  refine aw_run (zRun_S (c_X6_isThing ) (Or.inl gX6_thing_X6_isThing) q_X6_isThing (by decide) rfl rfl (Nat.le_of_ble_eq_true rfl) dX6_thing_1 ⟨Nat.le_refl _, Nat.le_refl _⟩) ?_
  refine aw_if_ne (tgt := 9) dX6_thing_4 (by decide) (fun c4 => ?_) (fun c4 => absurd c4 ht)
  refine aw_iload_2 dX6_thing_9 ?_
  refine aw_tableIn (off := 79) (tgt := 89) dX6_thing_10 (by decide) (by decide) (by decide) (by decide) ?_
  refine aw_aload_0 dX6_thing_89 ?_
  refine aw_getR fX6_0 (fun _ _ => rfl) (by assumption) hinX6 (by decide +kernel : Cond.fieldLink RX6 10 RX6 (TX6 0).2.1 (TX6 0).2.2.1 ∈ wsX6_thing) (by assumption) dX6_thing_90 ?_
  refine aw_iload_1 dX6_thing_93 ?_
  refine aw_run (zRun_V (c_X0_isMade (by assumption)) gX6_thing_X0_isMade q_X0_isMade rfl (by decide) rfl (by assumption) rfl rfl (Nat.le_of_ble_eq_true rfl) dX6_thing_94 ⟨Nat.le_refl _, Nat.le_refl _⟩) ?_
  refine aw_if_eq (tgt := 111) dX6_thing_97 (by decide) (fun c97 => ?_) (fun c97 => ?_)
  · refine aw_bipush (v := (-9)) dX6_thing_111 (by decide) ?_
    exact aw_ireturn rfl dX6_thing_113 ⟨Nat.zero_le _, Nat.zero_le _⟩ (by first | rfl | (first | rw [if_pos c97] | rw [if_neg c97]) | (first | rw [if_pos c122] | rw [if_neg c122])) rfl rfl rfl
  · refine aw_aload_0 dX6_thing_100 ?_
    refine aw_getR fX6_0 (fun _ _ => rfl) (by assumption) hinX6 (by decide +kernel : Cond.fieldLink RX6 10 RX6 (TX6 0).2.1 (TX6 0).2.2.1 ∈ wsX6_thing) (by assumption) dX6_thing_101 ?_
    refine aw_iload_1 dX6_thing_104 ?_
    refine aw_run (zRun_V (c_X0_yieldOf (by assumption)) gX6_thing_X0_yieldOf q_X0_yieldOf rfl (by decide) rfl (by assumption) rfl rfl (Nat.le_of_ble_eq_true rfl) dX6_thing_105 ⟨Nat.le_refl _, Nat.le_refl _⟩) ?_
    refine aw_goto (tgt := 113) dX6_thing_108 (by decide) ?_
    exact aw_ireturn rfl dX6_thing_113 ⟨Nat.zero_le _, Nat.zero_le _⟩ (by first | rfl | (first | rw [if_pos c97] | rw [if_neg c97]) | (first | rw [if_pos c122] | rw [if_neg c122])) rfl rfl rfl

set_option maxHeartbeats 1000000 in
set_option maxRecDepth 100000 in
theorem c_X6_thing_3 {sh : zSh} {F : Nat → Nat → Int32} {P : Nat → Nat → Option Nat} {χ : Nat} {t : Int32} (hY : zSys sh P χ) (ht : ¬ cIsThing t = 0) : zMet yX6_thing wsX6_thing (3) (0) (0) [.ref χ, .int t, .int 3] sh F P (some (.int (if bMade (zsub F (χ + 1)) t = 0 then -9 else bIngs (zsub F (χ + 1)) t))) sh F P := by
  refine zMet.of (by decide) rfl (Nat.le_of_ble_eq_true rfl) (by simp [Value.category]) ?_
  intro X ρ
  show AW mX6_thing X (zMQ mX6_thing X (some (.int (if bMade (zsub F (χ + 1)) t = 0 then -9 else bIngs (zsub F (χ + 1)) t))) sh F P) 0 [some (.ref χ), some (.int t), some (.int 3)] [] ρ sh F P 0 0
  have hinX6 : ∀ w ∈ u_ws RX6 TX6 11, w ∈ wsX6_thing := by decide +kernel
  have hinX4 : ∀ w ∈ u_ws RX4 TX4 7, w ∈ wsX6_thing := by decide +kernel
  obtain ⟨⟨ts, tp0, tp1, tp2, tp3, tp4, tp5, tp6, tp7, ti, tx⟩, hB, hD, hS, hW, hH, hR, hPl, hIm⟩ := id hY
  have hb0 := hB.1
  have hd0 := hD.1
  obtain ⟨hs0, ⟨sp0, sp1, sp2, sp3, sp4, sp5⟩, sh1, sh2, sh3, sh4, sh5, sh6⟩ := id hS
  have hw0 := hW.1
  have hh0 := hH.1
  have hr0 := hR.1
  refine aw_iload_1 dX6_thing_0 ?_
  refine aw_run (zRun_S (c_X6_isThing ) (Or.inl gX6_thing_X6_isThing) q_X6_isThing (by decide) rfl rfl (Nat.le_of_ble_eq_true rfl) dX6_thing_1 ⟨Nat.le_refl _, Nat.le_refl _⟩) ?_
  refine aw_if_ne (tgt := 9) dX6_thing_4 (by decide) (fun c4 => ?_) (fun c4 => absurd c4 ht)
  refine aw_iload_2 dX6_thing_9 ?_
  refine aw_tableIn (off := 104) (tgt := 114) dX6_thing_10 (by decide) (by decide) (by decide) (by decide) ?_
  refine aw_aload_0 dX6_thing_114 ?_
  refine aw_getR fX6_0 (fun _ _ => rfl) (by assumption) hinX6 (by decide +kernel : Cond.fieldLink RX6 10 RX6 (TX6 0).2.1 (TX6 0).2.2.1 ∈ wsX6_thing) (by assumption) dX6_thing_115 ?_
  refine aw_iload_1 dX6_thing_118 ?_
  refine aw_run (zRun_V (c_X0_isMade (by assumption)) gX6_thing_X0_isMade q_X0_isMade rfl (by decide) rfl (by assumption) rfl rfl (Nat.le_of_ble_eq_true rfl) dX6_thing_119 ⟨Nat.le_refl _, Nat.le_refl _⟩) ?_
  refine aw_if_eq (tgt := 136) dX6_thing_122 (by decide) (fun c122 => ?_) (fun c122 => ?_)
  · refine aw_bipush (v := (-9)) dX6_thing_136 (by decide) ?_
    exact aw_ireturn rfl dX6_thing_138 ⟨Nat.zero_le _, Nat.zero_le _⟩ (by first | rfl | (first | rw [if_pos c97] | rw [if_neg c97]) | (first | rw [if_pos c122] | rw [if_neg c122])) rfl rfl rfl
  · refine aw_aload_0 dX6_thing_125 ?_
    refine aw_getR fX6_0 (fun _ _ => rfl) (by assumption) hinX6 (by decide +kernel : Cond.fieldLink RX6 10 RX6 (TX6 0).2.1 (TX6 0).2.2.1 ∈ wsX6_thing) (by assumption) dX6_thing_126 ?_
    refine aw_iload_1 dX6_thing_129 ?_
    refine aw_run (zRun_V (c_X0_ingredientsOf (by assumption)) gX6_thing_X0_ingredientsOf q_X0_ingredientsOf rfl (by decide) rfl (by assumption) rfl rfl (Nat.le_of_ble_eq_true rfl) dX6_thing_130 ⟨Nat.le_refl _, Nat.le_refl _⟩) ?_
    refine aw_goto (tgt := 138) dX6_thing_133 (by decide) ?_
    exact aw_ireturn rfl dX6_thing_138 ⟨Nat.zero_le _, Nat.zero_le _⟩ (by first | rfl | (first | rw [if_pos c97] | rw [if_neg c97]) | (first | rw [if_pos c122] | rw [if_neg c122])) rfl rfl rfl

set_option maxHeartbeats 1000000 in
set_option maxRecDepth 100000 in
theorem c_X6_thing_4 {sh : zSh} {F : Nat → Nat → Int32} {P : Nat → Nat → Option Nat} {χ : Nat} {t : Int32} (hY : zSys sh P χ) (ht : ¬ cIsThing t = 0) : zMet yX6_thing wsX6_thing (3) (0) (0) [.ref χ, .int t, .int 4] sh F P (some (.int (bVes (zsub F (χ + 1)) t))) sh F P := by
  refine zMet.of (by decide) rfl (Nat.le_of_ble_eq_true rfl) (by simp [Value.category]) ?_
  intro X ρ
  show AW mX6_thing X (zMQ mX6_thing X (some (.int (bVes (zsub F (χ + 1)) t))) sh F P) 0 [some (.ref χ), some (.int t), some (.int 4)] [] ρ sh F P 0 0
  have hinX6 : ∀ w ∈ u_ws RX6 TX6 11, w ∈ wsX6_thing := by decide +kernel
  have hinX4 : ∀ w ∈ u_ws RX4 TX4 7, w ∈ wsX6_thing := by decide +kernel
  obtain ⟨⟨ts, tp0, tp1, tp2, tp3, tp4, tp5, tp6, tp7, ti, tx⟩, hB, hD, hS, hW, hH, hR, hPl, hIm⟩ := id hY
  have hb0 := hB.1
  have hd0 := hD.1
  obtain ⟨hs0, ⟨sp0, sp1, sp2, sp3, sp4, sp5⟩, sh1, sh2, sh3, sh4, sh5, sh6⟩ := id hS
  have hw0 := hW.1
  have hh0 := hH.1
  have hr0 := hR.1
  refine aw_iload_1 dX6_thing_0 ?_
  refine aw_run (zRun_S (c_X6_isThing ) (Or.inl gX6_thing_X6_isThing) q_X6_isThing (by decide) rfl rfl (Nat.le_of_ble_eq_true rfl) dX6_thing_1 ⟨Nat.le_refl _, Nat.le_refl _⟩) ?_
  refine aw_if_ne (tgt := 9) dX6_thing_4 (by decide) (fun c4 => ?_) (fun c4 => absurd c4 ht)
  refine aw_iload_2 dX6_thing_9 ?_
  refine aw_tableIn (off := 129) (tgt := 139) dX6_thing_10 (by decide) (by decide) (by decide) (by decide) ?_
  refine aw_aload_0 dX6_thing_139 ?_
  refine aw_getR fX6_0 (fun _ _ => rfl) (by assumption) hinX6 (by decide +kernel : Cond.fieldLink RX6 10 RX6 (TX6 0).2.1 (TX6 0).2.2.1 ∈ wsX6_thing) (by assumption) dX6_thing_140 ?_
  refine aw_iload_1 dX6_thing_143 ?_
  refine aw_run (zRun_V (c_X0_vesselOf (by assumption)) gX6_thing_X0_vesselOf q_X0_vesselOf rfl (by decide) rfl (by assumption) rfl rfl (Nat.le_of_ble_eq_true rfl) dX6_thing_144 ⟨Nat.le_refl _, Nat.le_refl _⟩) ?_
  exact aw_ireturn rfl dX6_thing_147 ⟨Nat.zero_le _, Nat.zero_le _⟩ (by first | rfl | (first | rw [if_pos c97] | rw [if_neg c97]) | (first | rw [if_pos c122] | rw [if_neg c122])) rfl rfl rfl

set_option maxHeartbeats 1000000 in
set_option maxRecDepth 100000 in
theorem c_X6_thing_5 {sh : zSh} {F : Nat → Nat → Int32} {P : Nat → Nat → Option Nat} {χ : Nat} {t : Int32} (hY : zSys sh P χ) (ht : ¬ cIsThing t = 0) : zMet yX6_thing wsX6_thing (3) (0) (0) [.ref χ, .int t, .int 5] sh F P (some (.int (bSubs (zsub F (χ + 1)) t))) sh F P := by
  refine zMet.of (by decide) rfl (Nat.le_of_ble_eq_true rfl) (by simp [Value.category]) ?_
  intro X ρ
  show AW mX6_thing X (zMQ mX6_thing X (some (.int (bSubs (zsub F (χ + 1)) t))) sh F P) 0 [some (.ref χ), some (.int t), some (.int 5)] [] ρ sh F P 0 0
  have hinX6 : ∀ w ∈ u_ws RX6 TX6 11, w ∈ wsX6_thing := by decide +kernel
  have hinX4 : ∀ w ∈ u_ws RX4 TX4 7, w ∈ wsX6_thing := by decide +kernel
  obtain ⟨⟨ts, tp0, tp1, tp2, tp3, tp4, tp5, tp6, tp7, ti, tx⟩, hB, hD, hS, hW, hH, hR, hPl, hIm⟩ := id hY
  have hb0 := hB.1
  have hd0 := hD.1
  obtain ⟨hs0, ⟨sp0, sp1, sp2, sp3, sp4, sp5⟩, sh1, sh2, sh3, sh4, sh5, sh6⟩ := id hS
  have hw0 := hW.1
  have hh0 := hH.1
  have hr0 := hR.1
  refine aw_iload_1 dX6_thing_0 ?_
  refine aw_run (zRun_S (c_X6_isThing ) (Or.inl gX6_thing_X6_isThing) q_X6_isThing (by decide) rfl rfl (Nat.le_of_ble_eq_true rfl) dX6_thing_1 ⟨Nat.le_refl _, Nat.le_refl _⟩) ?_
  refine aw_if_ne (tgt := 9) dX6_thing_4 (by decide) (fun c4 => ?_) (fun c4 => absurd c4 ht)
  refine aw_iload_2 dX6_thing_9 ?_
  refine aw_tableIn (off := 138) (tgt := 148) dX6_thing_10 (by decide) (by decide) (by decide) (by decide) ?_
  refine aw_aload_0 dX6_thing_148 ?_
  refine aw_getR fX6_0 (fun _ _ => rfl) (by assumption) hinX6 (by decide +kernel : Cond.fieldLink RX6 10 RX6 (TX6 0).2.1 (TX6 0).2.2.1 ∈ wsX6_thing) (by assumption) dX6_thing_149 ?_
  refine aw_iload_1 dX6_thing_152 ?_
  refine aw_run (zRun_V (c_X0_substitutesOf (by assumption)) gX6_thing_X0_substitutesOf q_X0_substitutesOf rfl (by decide) rfl (by assumption) rfl rfl (Nat.le_of_ble_eq_true rfl) dX6_thing_153 ⟨Nat.le_refl _, Nat.le_refl _⟩) ?_
  exact aw_ireturn rfl dX6_thing_156 ⟨Nat.zero_le _, Nat.zero_le _⟩ (by first | rfl | (first | rw [if_pos c97] | rw [if_neg c97]) | (first | rw [if_pos c122] | rw [if_neg c122])) rfl rfl rfl

set_option maxHeartbeats 1000000 in
set_option maxRecDepth 100000 in
theorem c_X6_thing_6 {sh : zSh} {F : Nat → Nat → Int32} {P : Nat → Nat → Option Nat} {χ : Nat} {t : Int32} (hY : zSys sh P χ) (ht : ¬ cIsThing t = 0) : zMet yX6_thing wsX6_thing (3) (0) (0) [.ref χ, .int t, .int 6] sh F P (some (.int (cAt 20 (F (χ + 21)) t))) sh F P := by
  refine zMet.of (by decide) rfl (Nat.le_of_ble_eq_true rfl) (by simp [Value.category]) ?_
  intro X ρ
  show AW mX6_thing X (zMQ mX6_thing X (some (.int (cAt 20 (F (χ + 21)) t))) sh F P) 0 [some (.ref χ), some (.int t), some (.int 6)] [] ρ sh F P 0 0
  have hinX6 : ∀ w ∈ u_ws RX6 TX6 11, w ∈ wsX6_thing := by decide +kernel
  have hinX4 : ∀ w ∈ u_ws RX4 TX4 7, w ∈ wsX6_thing := by decide +kernel
  obtain ⟨⟨ts, tp0, tp1, tp2, tp3, tp4, tp5, tp6, tp7, ti, tx⟩, hB, hD, hS, hW, hH, hR, hPl, hIm⟩ := id hY
  have hb0 := hB.1
  have hd0 := hD.1
  obtain ⟨hs0, ⟨sp0, sp1, sp2, sp3, sp4, sp5⟩, sh1, sh2, sh3, sh4, sh5, sh6⟩ := id hS
  have hw0 := hW.1
  have hh0 := hH.1
  have hr0 := hR.1
  refine aw_iload_1 dX6_thing_0 ?_
  refine aw_run (zRun_S (c_X6_isThing ) (Or.inl gX6_thing_X6_isThing) q_X6_isThing (by decide) rfl rfl (Nat.le_of_ble_eq_true rfl) dX6_thing_1 ⟨Nat.le_refl _, Nat.le_refl _⟩) ?_
  refine aw_if_ne (tgt := 9) dX6_thing_4 (by decide) (fun c4 => ?_) (fun c4 => absurd c4 ht)
  refine aw_iload_2 dX6_thing_9 ?_
  refine aw_tableIn (off := 147) (tgt := 157) dX6_thing_10 (by decide) (by decide) (by decide) (by decide) ?_
  refine aw_aload_0 dX6_thing_157 ?_
  refine aw_getR fX6_2 (fun _ _ => rfl) (by assumption) hinX6 (by decide +kernel : Cond.fieldLink RX6 22 RX6 (TX6 2).2.1 (TX6 2).2.2.1 ∈ wsX6_thing) (by assumption) dX6_thing_158 ?_
  refine aw_getRN (q := 2) fX4_1 (fun _ _ => rfl) (by assumption) hinX4 rfl (by assumption) dX6_thing_161 ?_
  refine aw_iload_1 dX6_thing_164 ?_
  refine aw_run (zRun_S (c_X6_at (by assumption) (by decide)) (Or.inl gX6_thing_X6_at) q_X6_at (by decide) rfl rfl (Nat.le_of_ble_eq_true rfl) dX6_thing_165 ⟨Nat.le_refl _, Nat.le_refl _⟩) ?_
  exact aw_ireturn rfl dX6_thing_168 ⟨Nat.zero_le _, Nat.zero_le _⟩ (by first | rfl | (first | rw [if_pos c97] | rw [if_neg c97]) | (first | rw [if_pos c122] | rw [if_neg c122])) rfl rfl rfl

set_option maxHeartbeats 1000000 in
set_option maxRecDepth 100000 in
theorem c_X6_thing_7 {sh : zSh} {F : Nat → Nat → Int32} {P : Nat → Nat → Option Nat} {χ : Nat} {t : Int32} (hY : zSys sh P χ) (ht : ¬ cIsThing t = 0) : zMet yX6_thing wsX6_thing (3) (0) (0) [.ref χ, .int t, .int 7] sh F P (some (.int (cAt 20 (F (χ + 22)) t))) sh F P := by
  refine zMet.of (by decide) rfl (Nat.le_of_ble_eq_true rfl) (by simp [Value.category]) ?_
  intro X ρ
  show AW mX6_thing X (zMQ mX6_thing X (some (.int (cAt 20 (F (χ + 22)) t))) sh F P) 0 [some (.ref χ), some (.int t), some (.int 7)] [] ρ sh F P 0 0
  have hinX6 : ∀ w ∈ u_ws RX6 TX6 11, w ∈ wsX6_thing := by decide +kernel
  have hinX4 : ∀ w ∈ u_ws RX4 TX4 7, w ∈ wsX6_thing := by decide +kernel
  obtain ⟨⟨ts, tp0, tp1, tp2, tp3, tp4, tp5, tp6, tp7, ti, tx⟩, hB, hD, hS, hW, hH, hR, hPl, hIm⟩ := id hY
  have hb0 := hB.1
  have hd0 := hD.1
  obtain ⟨hs0, ⟨sp0, sp1, sp2, sp3, sp4, sp5⟩, sh1, sh2, sh3, sh4, sh5, sh6⟩ := id hS
  have hw0 := hW.1
  have hh0 := hH.1
  have hr0 := hR.1
  refine aw_iload_1 dX6_thing_0 ?_
  refine aw_run (zRun_S (c_X6_isThing ) (Or.inl gX6_thing_X6_isThing) q_X6_isThing (by decide) rfl rfl (Nat.le_of_ble_eq_true rfl) dX6_thing_1 ⟨Nat.le_refl _, Nat.le_refl _⟩) ?_
  refine aw_if_ne (tgt := 9) dX6_thing_4 (by decide) (fun c4 => ?_) (fun c4 => absurd c4 ht)
  refine aw_iload_2 dX6_thing_9 ?_
  refine aw_tableIn (off := 159) (tgt := 169) dX6_thing_10 (by decide) (by decide) (by decide) (by decide) ?_
  refine aw_aload_0 dX6_thing_169 ?_
  refine aw_getR fX6_2 (fun _ _ => rfl) (by assumption) hinX6 (by decide +kernel : Cond.fieldLink RX6 22 RX6 (TX6 2).2.1 (TX6 2).2.2.1 ∈ wsX6_thing) (by assumption) dX6_thing_170 ?_
  refine aw_getRN (q := 4) fX4_2 (fun _ _ => rfl) (by assumption) hinX4 rfl (by assumption) dX6_thing_173 ?_
  refine aw_iload_1 dX6_thing_176 ?_
  refine aw_run (zRun_S (c_X6_at (by assumption) (by decide)) (Or.inl gX6_thing_X6_at) q_X6_at (by decide) rfl rfl (Nat.le_of_ble_eq_true rfl) dX6_thing_177 ⟨Nat.le_refl _, Nat.le_refl _⟩) ?_
  exact aw_ireturn rfl dX6_thing_180 ⟨Nat.zero_le _, Nat.zero_le _⟩ (by first | rfl | (first | rw [if_pos c97] | rw [if_neg c97]) | (first | rw [if_pos c122] | rw [if_neg c122])) rfl rfl rfl

set_option maxHeartbeats 1000000 in
set_option maxRecDepth 100000 in
theorem c_X6_thing_8 {sh : zSh} {F : Nat → Nat → Int32} {P : Nat → Nat → Option Nat} {χ : Nat} {t : Int32} (hY : zSys sh P χ) (ht : ¬ cIsThing t = 0) : zMet yX6_thing wsX6_thing (3) (0) (0) [.ref χ, .int t, .int 8] sh F P (some (.int (cAt 20 (F (χ + 23)) t))) sh F P := by
  refine zMet.of (by decide) rfl (Nat.le_of_ble_eq_true rfl) (by simp [Value.category]) ?_
  intro X ρ
  show AW mX6_thing X (zMQ mX6_thing X (some (.int (cAt 20 (F (χ + 23)) t))) sh F P) 0 [some (.ref χ), some (.int t), some (.int 8)] [] ρ sh F P 0 0
  have hinX6 : ∀ w ∈ u_ws RX6 TX6 11, w ∈ wsX6_thing := by decide +kernel
  have hinX4 : ∀ w ∈ u_ws RX4 TX4 7, w ∈ wsX6_thing := by decide +kernel
  obtain ⟨⟨ts, tp0, tp1, tp2, tp3, tp4, tp5, tp6, tp7, ti, tx⟩, hB, hD, hS, hW, hH, hR, hPl, hIm⟩ := id hY
  have hb0 := hB.1
  have hd0 := hD.1
  obtain ⟨hs0, ⟨sp0, sp1, sp2, sp3, sp4, sp5⟩, sh1, sh2, sh3, sh4, sh5, sh6⟩ := id hS
  have hw0 := hW.1
  have hh0 := hH.1
  have hr0 := hR.1
  refine aw_iload_1 dX6_thing_0 ?_
  refine aw_run (zRun_S (c_X6_isThing ) (Or.inl gX6_thing_X6_isThing) q_X6_isThing (by decide) rfl rfl (Nat.le_of_ble_eq_true rfl) dX6_thing_1 ⟨Nat.le_refl _, Nat.le_refl _⟩) ?_
  refine aw_if_ne (tgt := 9) dX6_thing_4 (by decide) (fun c4 => ?_) (fun c4 => absurd c4 ht)
  refine aw_iload_2 dX6_thing_9 ?_
  refine aw_tableIn (off := 171) (tgt := 181) dX6_thing_10 (by decide) (by decide) (by decide) (by decide) ?_
  refine aw_aload_0 dX6_thing_181 ?_
  refine aw_getR fX6_2 (fun _ _ => rfl) (by assumption) hinX6 (by decide +kernel : Cond.fieldLink RX6 22 RX6 (TX6 2).2.1 (TX6 2).2.2.1 ∈ wsX6_thing) (by assumption) dX6_thing_182 ?_
  refine aw_getRN (q := 5) fX4_3 (fun _ _ => rfl) (by assumption) hinX4 rfl (by assumption) dX6_thing_185 ?_
  refine aw_iload_1 dX6_thing_188 ?_
  refine aw_run (zRun_S (c_X6_at (by assumption) (by decide)) (Or.inl gX6_thing_X6_at) q_X6_at (by decide) rfl rfl (Nat.le_of_ble_eq_true rfl) dX6_thing_189 ⟨Nat.le_refl _, Nat.le_refl _⟩) ?_
  exact aw_ireturn rfl dX6_thing_192 ⟨Nat.zero_le _, Nat.zero_le _⟩ (by first | rfl | (first | rw [if_pos c97] | rw [if_neg c97]) | (first | rw [if_pos c122] | rw [if_neg c122])) rfl rfl rfl

set_option maxHeartbeats 1000000 in
set_option maxRecDepth 100000 in
theorem c_X6_thing_9 {sh : zSh} {F : Nat → Nat → Int32} {P : Nat → Nat → Option Nat} {χ : Nat} {t : Int32} (hY : zSys sh P χ) (ht : ¬ cIsThing t = 0) : zMet yX6_thing wsX6_thing (3) (0) (0) [.ref χ, .int t, .int 9] sh F P (some (.int (cAt 20 (F (χ + 24)) t))) sh F P := by
  refine zMet.of (by decide) rfl (Nat.le_of_ble_eq_true rfl) (by simp [Value.category]) ?_
  intro X ρ
  show AW mX6_thing X (zMQ mX6_thing X (some (.int (cAt 20 (F (χ + 24)) t))) sh F P) 0 [some (.ref χ), some (.int t), some (.int 9)] [] ρ sh F P 0 0
  have hinX6 : ∀ w ∈ u_ws RX6 TX6 11, w ∈ wsX6_thing := by decide +kernel
  have hinX4 : ∀ w ∈ u_ws RX4 TX4 7, w ∈ wsX6_thing := by decide +kernel
  obtain ⟨⟨ts, tp0, tp1, tp2, tp3, tp4, tp5, tp6, tp7, ti, tx⟩, hB, hD, hS, hW, hH, hR, hPl, hIm⟩ := id hY
  have hb0 := hB.1
  have hd0 := hD.1
  obtain ⟨hs0, ⟨sp0, sp1, sp2, sp3, sp4, sp5⟩, sh1, sh2, sh3, sh4, sh5, sh6⟩ := id hS
  have hw0 := hW.1
  have hh0 := hH.1
  have hr0 := hR.1
  refine aw_iload_1 dX6_thing_0 ?_
  refine aw_run (zRun_S (c_X6_isThing ) (Or.inl gX6_thing_X6_isThing) q_X6_isThing (by decide) rfl rfl (Nat.le_of_ble_eq_true rfl) dX6_thing_1 ⟨Nat.le_refl _, Nat.le_refl _⟩) ?_
  refine aw_if_ne (tgt := 9) dX6_thing_4 (by decide) (fun c4 => ?_) (fun c4 => absurd c4 ht)
  refine aw_iload_2 dX6_thing_9 ?_
  refine aw_tableIn (off := 183) (tgt := 193) dX6_thing_10 (by decide) (by decide) (by decide) (by decide) ?_
  refine aw_aload_0 dX6_thing_193 ?_
  refine aw_getR fX6_2 (fun _ _ => rfl) (by assumption) hinX6 (by decide +kernel : Cond.fieldLink RX6 22 RX6 (TX6 2).2.1 (TX6 2).2.2.1 ∈ wsX6_thing) (by assumption) dX6_thing_194 ?_
  refine aw_getRN (q := 6) fX4_4 (fun _ _ => rfl) (by assumption) hinX4 rfl (by assumption) dX6_thing_197 ?_
  refine aw_iload_1 dX6_thing_200 ?_
  refine aw_run (zRun_S (c_X6_at (by assumption) (by decide)) (Or.inl gX6_thing_X6_at) q_X6_at (by decide) rfl rfl (Nat.le_of_ble_eq_true rfl) dX6_thing_201 ⟨Nat.le_refl _, Nat.le_refl _⟩) ?_
  exact aw_ireturn rfl dX6_thing_204 ⟨Nat.zero_le _, Nat.zero_le _⟩ (by first | rfl | (first | rw [if_pos c97] | rw [if_neg c97]) | (first | rw [if_pos c122] | rw [if_neg c122])) rfl rfl rfl

set_option maxHeartbeats 1000000 in
set_option maxRecDepth 100000 in
theorem c_X6_thing_10 {sh : zSh} {F : Nat → Nat → Int32} {P : Nat → Nat → Option Nat} {χ : Nat} {t : Int32} (hY : zSys sh P χ) (ht : ¬ cIsThing t = 0) : zMet yX6_thing wsX6_thing (3) (0) (0) [.ref χ, .int t, .int 10] sh F P (some (.int (cAt 20 (F (χ + 25)) t))) sh F P := by
  refine zMet.of (by decide) rfl (Nat.le_of_ble_eq_true rfl) (by simp [Value.category]) ?_
  intro X ρ
  show AW mX6_thing X (zMQ mX6_thing X (some (.int (cAt 20 (F (χ + 25)) t))) sh F P) 0 [some (.ref χ), some (.int t), some (.int 10)] [] ρ sh F P 0 0
  have hinX6 : ∀ w ∈ u_ws RX6 TX6 11, w ∈ wsX6_thing := by decide +kernel
  have hinX4 : ∀ w ∈ u_ws RX4 TX4 7, w ∈ wsX6_thing := by decide +kernel
  obtain ⟨⟨ts, tp0, tp1, tp2, tp3, tp4, tp5, tp6, tp7, ti, tx⟩, hB, hD, hS, hW, hH, hR, hPl, hIm⟩ := id hY
  have hb0 := hB.1
  have hd0 := hD.1
  obtain ⟨hs0, ⟨sp0, sp1, sp2, sp3, sp4, sp5⟩, sh1, sh2, sh3, sh4, sh5, sh6⟩ := id hS
  have hw0 := hW.1
  have hh0 := hH.1
  have hr0 := hR.1
  refine aw_iload_1 dX6_thing_0 ?_
  refine aw_run (zRun_S (c_X6_isThing ) (Or.inl gX6_thing_X6_isThing) q_X6_isThing (by decide) rfl rfl (Nat.le_of_ble_eq_true rfl) dX6_thing_1 ⟨Nat.le_refl _, Nat.le_refl _⟩) ?_
  refine aw_if_ne (tgt := 9) dX6_thing_4 (by decide) (fun c4 => ?_) (fun c4 => absurd c4 ht)
  refine aw_iload_2 dX6_thing_9 ?_
  refine aw_tableIn (off := 195) (tgt := 205) dX6_thing_10 (by decide) (by decide) (by decide) (by decide) ?_
  refine aw_aload_0 dX6_thing_205 ?_
  refine aw_getR fX6_2 (fun _ _ => rfl) (by assumption) hinX6 (by decide +kernel : Cond.fieldLink RX6 22 RX6 (TX6 2).2.1 (TX6 2).2.2.1 ∈ wsX6_thing) (by assumption) dX6_thing_206 ?_
  refine aw_getRN (q := 1) fX4_5 (fun _ _ => rfl) (by assumption) hinX4 rfl (by assumption) dX6_thing_209 ?_
  refine aw_iload_1 dX6_thing_212 ?_
  refine aw_run (zRun_S (c_X6_at (by assumption) (by decide)) (Or.inl gX6_thing_X6_at) q_X6_at (by decide) rfl rfl (Nat.le_of_ble_eq_true rfl) dX6_thing_213 ⟨Nat.le_refl _, Nat.le_refl _⟩) ?_
  exact aw_ireturn rfl dX6_thing_216 ⟨Nat.zero_le _, Nat.zero_le _⟩ (by first | rfl | (first | rw [if_pos c97] | rw [if_neg c97]) | (first | rw [if_pos c122] | rw [if_neg c122])) rfl rfl rfl

set_option maxHeartbeats 1000000 in
set_option maxRecDepth 100000 in
theorem c_X6_thing_x {sh : zSh} {F : Nat → Nat → Int32} {P : Nat → Nat → Option Nat} {χ : Nat} {t k : Int32} (hY : zSys sh P χ) (ht : ¬ cIsThing t = 0) (h : k.toInt < 0 ∨ 10 < k.toInt) : zMet yX6_thing wsX6_thing (3) (0) (0) [.ref χ, .int t, .int k] sh F P (some (.int (-1))) sh F P := by
  refine zMet.of (by decide) rfl (Nat.le_of_ble_eq_true rfl) (by simp [Value.category]) ?_
  intro X ρ
  show AW mX6_thing X (zMQ mX6_thing X (some (.int (-1))) sh F P) 0 [some (.ref χ), some (.int t), some (.int k)] [] ρ sh F P 0 0
  have hinX6 : ∀ w ∈ u_ws RX6 TX6 11, w ∈ wsX6_thing := by decide +kernel
  have hinX4 : ∀ w ∈ u_ws RX4 TX4 7, w ∈ wsX6_thing := by decide +kernel
  obtain ⟨⟨ts, tp0, tp1, tp2, tp3, tp4, tp5, tp6, tp7, ti, tx⟩, hB, hD, hS, hW, hH, hR, hPl, hIm⟩ := id hY
  have hb0 := hB.1
  have hd0 := hD.1
  obtain ⟨hs0, ⟨sp0, sp1, sp2, sp3, sp4, sp5⟩, sh1, sh2, sh3, sh4, sh5, sh6⟩ := id hS
  have hw0 := hW.1
  have hh0 := hH.1
  have hr0 := hR.1
  refine aw_iload_1 dX6_thing_0 ?_
  refine aw_run (zRun_S (c_X6_isThing ) (Or.inl gX6_thing_X6_isThing) q_X6_isThing (by decide) rfl rfl (Nat.le_of_ble_eq_true rfl) dX6_thing_1 ⟨Nat.le_refl _, Nat.le_refl _⟩) ?_
  refine aw_if_ne (tgt := 9) dX6_thing_4 (by decide) (fun c4 => ?_) (fun c4 => absurd c4 ht)
  refine aw_iload_2 dX6_thing_9 ?_
  refine aw_tableOut (tgt := 217) dX6_thing_10 h (by decide) ?_
  refine aw_iconst (v := (-1)) dX6_thing_217 (by decide) ?_
  exact aw_ireturn rfl dX6_thing_218 ⟨Nat.zero_le _, Nat.zero_le _⟩ (by first | rfl | simp [c4]) rfl rfl rfl

set_option maxHeartbeats 1000000 in
set_option maxRecDepth 100000 in
theorem c_X6_thing_b {sh : zSh} {F : Nat → Nat → Int32} {P : Nat → Nat → Option Nat} {χ : Nat} {t k : Int32} (hY : zSys sh P χ) (ht : cIsThing t = 0) : zMet yX6_thing wsX6_thing (3) (0) (0) [.ref χ, .int t, .int k] sh F P (some (.int (-1))) sh F P := by
  refine zMet.of (by decide) rfl (Nat.le_of_ble_eq_true rfl) (by simp [Value.category]) ?_
  intro X ρ
  show AW mX6_thing X (zMQ mX6_thing X (some (.int (-1))) sh F P) 0 [some (.ref χ), some (.int t), some (.int k)] [] ρ sh F P 0 0
  have hinX6 : ∀ w ∈ u_ws RX6 TX6 11, w ∈ wsX6_thing := by decide +kernel
  have hinX4 : ∀ w ∈ u_ws RX4 TX4 7, w ∈ wsX6_thing := by decide +kernel
  obtain ⟨⟨ts, tp0, tp1, tp2, tp3, tp4, tp5, tp6, tp7, ti, tx⟩, hB, hD, hS, hW, hH, hR, hPl, hIm⟩ := id hY
  have hb0 := hB.1
  have hd0 := hD.1
  obtain ⟨hs0, ⟨sp0, sp1, sp2, sp3, sp4, sp5⟩, sh1, sh2, sh3, sh4, sh5, sh6⟩ := id hS
  have hw0 := hW.1
  have hh0 := hH.1
  have hr0 := hR.1
  refine aw_iload_1 dX6_thing_0 ?_
  refine aw_run (zRun_S (c_X6_isThing ) (Or.inl gX6_thing_X6_isThing) q_X6_isThing (by decide) rfl rfl (Nat.le_of_ble_eq_true rfl) dX6_thing_1 ⟨Nat.le_refl _, Nat.le_refl _⟩) ?_
  refine aw_if_ne (tgt := 9) dX6_thing_4 (by decide) (fun c4 => absurd c4 (fun h => h ht)) (fun c4 => ?_)
  refine aw_iconst (v := (-1)) dX6_thing_7 (by decide) ?_
  exact aw_ireturn rfl dX6_thing_8 ⟨Nat.zero_le _, Nat.zero_le _⟩ (by first | rfl | simp [c4]) rfl rfl rfl

