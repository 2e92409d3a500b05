/-! ===== 25.tm3: the wishes ===== -/
def tBeg (F : Nat → Nat → Int32) (χ : Nat) (g : Int32) : Nat → Nat → Int32 := wBegin (zsub F (χ + 26)) (zsub F (χ + 19)) g
def tFul (F : Nat → Nat → Int32) (χ : Nat) (t n : Int32) : Nat → Nat → Int32 := wFul (zsub F (χ + 1)) (tBeg F χ 1) t n
def tRun (F : Nat → Nat → Int32) (χ : Nat) (t c : Int32) : Nat → Nat → Int32 := wRun (zsub F (χ + 1)) 9 t c (tBeg F χ 1)
def xWish (t n f : Int32) : Int32 := if cIsThing t = 0 then -1 else if cIsWished n = 0 then -1 else if f = 0 then 0 else -3
def xMake (t n m f : Int32) : Int32 := if cIsThing t = 0 then -1 else if n < 1 then -1 else if n ≤ 99 then (if m = 0 then -2 else if f = 0 then 0 else -3) else -1
/-- the memory after acceptWorks, the works being as W tells -/
def tAcc (F : Nat → Nat → Int32) (P : Nat → Nat → Option Nat) (χ o s : Nat) (W : Nat → Nat → Int32) : Nat → Nat → Int32 := zput (tF (zput F (χ + 26) 8 W) P χ o s) (χ + 19) 7 (sCopy (zsub (tF (zput F (χ + 26) 8 W) P χ o s) (χ + 19)) (zsub (tF (zput F (χ + 26) 8 W) P χ o s) (χ + 27)))

abbrev mX6_wish : ZM := (cX6_wish, RX6, wsX6_wish, 42, 0, 0, (some .int), 3, yX6_wish.name)
set_option maxHeartbeats 1000000 in
set_option maxRecDepth 100000 in
theorem c_X6_wish_b {sh : zSh} {F : Nat → Nat → Int32} {P : Nat → Nat → Option Nat} {χ : Nat} {t n : Int32} (hY : zSys sh P χ) (h : cIsThing t = 0 ∨ cIsWished n = 0) : zMet yX6_wish wsX6_wish (42) (0) (0) [.ref χ, .int t, .int n] sh F P (some (.int (-1))) sh F P := by
  refine zMet.of (by decide) rfl (Nat.le_of_ble_eq_true rfl) (by simp [Value.category]) ?_
  intro X ρ
  show AW mX6_wish X (zMQ mX6_wish X (some (.int (-1))) sh F P) 0 [some (.ref χ), some (.int t), some (.int n)] [] ρ sh F P 0 0
  have hinX6 : ∀ w ∈ u_ws RX6 TX6 11, w ∈ wsX6_wish := by decide +kernel
  obtain ⟨⟨ts, tp0, tp1, tp2, tp3, tp4, tp5, tp6, tp7, ti, tx⟩, hB, hD, hS, hW, hH, hR, hPl, hIm⟩ := id hY
  have hb0 := hB.1
  have hd0 := hD.1
  obtain ⟨hs0, ⟨sp0, sp1, sp2, sp3, sp4, sp5⟩, sh1, sh2, sh3, sh4, sh5, sh6⟩ := id hS
  have hw0 := hW.1
  have hh0 := hH.1
  have hr0 := hR.1
  have wp0 := hW.2.1
  have hwb := hW.st
  refine aw_iload_1 dX6_wish_0 ?_
  refine aw_run (zRun_S (c_X6_isThing ) (Or.inl gX6_wish_X6_isThing) q_X6_isThing (by decide) rfl rfl (Nat.le_of_ble_eq_true rfl) dX6_wish_1 ⟨Nat.le_refl _, Nat.le_refl _⟩) ?_
  refine aw_if_eq (tgt := 14) dX6_wish_4 (by decide) (fun c4 => ?_) (fun c4 => ?_)
  · refine aw_iconst (v := (-1)) dX6_wish_14 (by decide) ?_
    exact aw_ireturn rfl dX6_wish_15 ⟨Nat.zero_le _, Nat.zero_le _⟩ (by first | rfl | simp [c4]) rfl rfl rfl
  · refine aw_iload_2 dX6_wish_7 ?_
    refine aw_run (zRun_S (c_X6_isWished ) (Or.inl gX6_wish_X6_isWished) q_X6_isWished (by decide) rfl rfl (Nat.le_of_ble_eq_true rfl) dX6_wish_8 ⟨Nat.le_refl _, Nat.le_refl _⟩) ?_
    refine aw_if_ne (tgt := 16) dX6_wish_11 (by decide) (fun c11 => ?_) (fun c11 => ?_)
    · exact absurd h (by simp [c4, c11])
    · refine aw_iconst (v := (-1)) dX6_wish_14 (by decide) ?_
      exact aw_ireturn rfl dX6_wish_15 ⟨Nat.zero_le _, Nat.zero_le _⟩ (by first | rfl | simp [c4, c11]) rfl rfl rfl

set_option maxHeartbeats 1000000 in
set_option maxRecDepth 100000 in
theorem c_X6_wish_f {sh : zSh} {F : Nat → Nat → Int32} {P : Nat → Nat → Option Nat} {χ : Nat} {t n : Int32} (hY : zSys sh P χ) (ht : ¬ cIsThing t = 0) (hn : ¬ cIsWished n = 0) (h : ¬ tFul F χ t n 0 2 = 0) : zMet yX6_wish wsX6_wish (42) (0) (0) [.ref χ, .int t, .int n] sh F P (some (.int (-3))) sh (zput F (χ + 26) 8 (tFul F χ t n)) P := by
  refine zMet.of (by decide) rfl (Nat.le_of_ble_eq_true rfl) (by simp [Value.category]) ?_
  intro X ρ
  show AW mX6_wish X (zMQ mX6_wish X (some (.int (-3))) sh (zput F (χ + 26) 8 (tFul F χ t n)) P) 0 [some (.ref χ), some (.int t), some (.int n)] [] ρ sh F P 0 0
  have hinX6 : ∀ w ∈ u_ws RX6 TX6 11, w ∈ wsX6_wish := by decide +kernel
  obtain ⟨⟨ts, tp0, tp1, tp2, tp3, tp4, tp5, tp6, tp7, ti, tx⟩, hB, hD, hS, hW, hH, hR, hPl, hIm⟩ := id hY
  have hb0 := hB.1
  have hd0 := hD.1
  obtain ⟨hs0, ⟨sp0, sp1, sp2, sp3, sp4, sp5⟩, sh1, sh2, sh3, sh4, sh5, sh6⟩ := id hS
  have hw0 := hW.1
  have hh0 := hH.1
  have hr0 := hR.1
  have wp0 := hW.2.1
  have hwb := hW.st
  refine aw_iload_1 dX6_wish_0 ?_
  refine aw_run (zRun_S (c_X6_isThing ) (Or.inl gX6_wish_X6_isThing) q_X6_isThing (by decide) rfl rfl (Nat.le_of_ble_eq_true rfl) dX6_wish_1 ⟨Nat.le_refl _, Nat.le_refl _⟩) ?_
  refine aw_if_eq (tgt := 14) dX6_wish_4 (by decide) (fun c4 => absurd c4 ht) (fun c4 => ?_)
  refine aw_iload_2 dX6_wish_7 ?_
  refine aw_run (zRun_S (c_X6_isWished ) (Or.inl gX6_wish_X6_isWished) q_X6_isWished (by decide) rfl rfl (Nat.le_of_ble_eq_true rfl) dX6_wish_8 ⟨Nat.le_refl _, Nat.le_refl _⟩) ?_
  refine aw_if_ne (tgt := 16) dX6_wish_11 (by decide) (fun c11 => ?_) (fun c11 => absurd c11 hn)
  refine aw_aload_0 dX6_wish_16 ?_
  refine aw_getR fX6_3 (fun _ _ => rfl) (by assumption) hinX6 (by decide +kernel : Cond.fieldLink RX6 29 RX6 (TX6 3).2.1 (TX6 3).2.2.1 ∈ wsX6_wish) (by assumption) dX6_wish_17 ?_
  refine aw_aload_0 dX6_wish_20 ?_
  refine aw_getR fX6_2 (fun _ _ => rfl) (by assumption) hinX6 (by decide +kernel : Cond.fieldLink RX6 22 RX6 (TX6 2).2.1 (TX6 2).2.2.1 ∈ wsX6_wish) (by assumption) dX6_wish_21 ?_
  refine aw_iconst (v := 1) dX6_wish_24 (by decide) ?_
  refine aw_runv (zRun_V (c_X5_begin hW zVw.self hS zVw.self (by omega) (Or.inr rfl)) gX6_wish_X5_begin q_X5_begin rfl (by decide) rfl (by assumption) rfl rfl (Nat.le_of_ble_eq_true rfl) dX6_wish_25 ⟨Nat.le_refl _, Nat.le_refl _⟩) ?_
  refine aw_aload_0 dX6_wish_28 ?_
  refine aw_getR fX6_3 (fun _ _ => rfl) (by assumption) hinX6 (by decide +kernel : Cond.fieldLink RX6 29 RX6 (TX6 3).2.1 (TX6 3).2.2.1 ∈ wsX6_wish) (by assumption) dX6_wish_29 ?_
  refine aw_aload_0 dX6_wish_32 ?_
  refine aw_getR fX6_0 (fun _ _ => rfl) (by assumption) hinX6 (by decide +kernel : Cond.fieldLink RX6 10 RX6 (TX6 0).2.1 (TX6 0).2.2.1 ∈ wsX6_wish) (by assumption) dX6_wish_33 ?_
  refine aw_iload_1 dX6_wish_36 ?_
  refine aw_iload_2 dX6_wish_37 ?_
  refine aw_run (zRun_V (c_X5_fulfil hW zVw.put hB (zVw.self.out (by omega)) (by omega)) gX6_wish_X5_fulfil q_X5_fulfil rfl (by decide) rfl (by assumption) rfl rfl (Nat.le_of_ble_eq_true rfl) dX6_wish_38 ⟨Nat.le_refl _, Nat.le_refl _⟩) ?_
  rw [zput_zput, show wFul (zsub F (χ + 1)) (wBegin (zsub F (χ + 26)) (zsub F (χ + 19)) 1) t n = tFul F χ t n from rfl]
  refine aw_if_ne (tgt := 47) dX6_wish_41 (by decide) (fun c41 => ?_) (fun c41 => ?_)
  · exact absurd (by simpa using c41) h
  · refine aw_bipush (v := (-3)) dX6_wish_44 (by decide) ?_
    exact aw_ireturn rfl dX6_wish_46 ⟨Nat.zero_le _, Nat.zero_le _⟩ (by first | rfl | simp [c4, c11, c41]) rfl rfl rfl

abbrev m1X6_wish : ZM := (cX6_wish, RX6, wsX6_wish, 42, 17, 497, (some .int), 3, yX6_wish.name)

set_option maxHeartbeats 1000000 in
set_option maxRecDepth 100000 in
theorem c_X6_wish_o {sh : zSh} {F : Nat → Nat → Int32} {P : Nat → Nat → Option Nat} {χ : Nat} {o s : Nat} {t n : Int32} (hY : zSys sh P χ) (ho : o < 8) (hs : s ≤ 8) (h1 : F (χ + 34) 1 = nI o) (h2 : F (χ + 34) 2 = nI s) (ht : ¬ cIsThing t = 0) (hn : ¬ cIsWished n = 0) (h : tFul F χ t n 0 2 = 0) : zMet yX6_wish wsX6_wish (42) (17) (497) [.ref χ, .int t, .int n] sh F P (some (.int (tFul F χ t n 0 4))) (tS sh P χ ((o + s) % 8)) (tAcc F P χ o s (tFul F χ t n)) (tP P χ ((o + s) % 8)) := by
  refine zMet.of (by decide) rfl (Nat.le_of_ble_eq_true rfl) (by simp [Value.category]) ?_
  intro X ρ
  show AW m1X6_wish X (zMQ m1X6_wish X (some (.int (tFul F χ t n 0 4))) (tS sh P χ ((o + s) % 8)) (tAcc F P χ o s (tFul F χ t n)) (tP P χ ((o + s) % 8))) 0 [some (.ref χ), some (.int t), some (.int n)] [] ρ sh F P 0 0
  have hinX6 : ∀ w ∈ u_ws RX6 TX6 11, w ∈ wsX6_wish := by decide +kernel
  obtain ⟨⟨ts, tp0, tp1, tp2, tp3, tp4, tp5, tp6, tp7, ti, tx⟩, hB, hD, hS, hW, hH, hR, hPl, hIm⟩ := id hY
  have hb0 := hB.1
  have hd0 := hD.1
  obtain ⟨hs0, ⟨sp0, sp1, sp2, sp3, sp4, sp5⟩, sh1, sh2, sh3, sh4, sh5, sh6⟩ := id hS
  have hw0 := hW.1
  have hh0 := hH.1
  have hr0 := hR.1
  have wp0 := hW.2.1
  have hwb := hW.st
  refine aw_iload_1 dX6_wish_0 ?_
  refine aw_run (zRun_S (c_X6_isThing ) (Or.inl gX6_wish_X6_isThing) q_X6_isThing (by decide) rfl rfl (Nat.le_of_ble_eq_true rfl) dX6_wish_1 ⟨by decide, by decide⟩) ?_
  refine aw_if_eq (tgt := 14) dX6_wish_4 (by decide) (fun c4 => absurd c4 ht) (fun c4 => ?_)
  refine aw_iload_2 dX6_wish_7 ?_
  refine aw_run (zRun_S (c_X6_isWished ) (Or.inl gX6_wish_X6_isWished) q_X6_isWished (by decide) rfl rfl (Nat.le_of_ble_eq_true rfl) dX6_wish_8 ⟨by decide, by decide⟩) ?_
  refine aw_if_ne (tgt := 16) dX6_wish_11 (by decide) (fun c11 => ?_) (fun c11 => absurd c11 hn)
  refine aw_aload_0 dX6_wish_16 ?_
  refine aw_getR fX6_3 (fun _ _ => rfl) (by assumption) hinX6 (by decide +kernel : Cond.fieldLink RX6 29 RX6 (TX6 3).2.1 (TX6 3).2.2.1 ∈ wsX6_wish) (by assumption) dX6_wish_17 ?_
  refine aw_aload_0 dX6_wish_20 ?_
  refine aw_getR fX6_2 (fun _ _ => rfl) (by assumption) hinX6 (by decide +kernel : Cond.fieldLink RX6 22 RX6 (TX6 2).2.1 (TX6 2).2.2.1 ∈ wsX6_wish) (by assumption) dX6_wish_21 ?_
  refine aw_iconst (v := 1) dX6_wish_24 (by decide) ?_
  refine aw_runv (zRun_V (c_X5_begin hW zVw.self hS zVw.self (by omega) (Or.inr rfl)) gX6_wish_X5_begin q_X5_begin rfl (by decide) rfl (by assumption) rfl rfl (Nat.le_of_ble_eq_true rfl) dX6_wish_25 ⟨by decide, by decide⟩) ?_
  refine aw_aload_0 dX6_wish_28 ?_
  refine aw_getR fX6_3 (fun _ _ => rfl) (by assumption) hinX6 (by decide +kernel : Cond.fieldLink RX6 29 RX6 (TX6 3).2.1 (TX6 3).2.2.1 ∈ wsX6_wish) (by assumption) dX6_wish_29 ?_
  refine aw_aload_0 dX6_wish_32 ?_
  refine aw_getR fX6_0 (fun _ _ => rfl) (by assumption) hinX6 (by decide +kernel : Cond.fieldLink RX6 10 RX6 (TX6 0).2.1 (TX6 0).2.2.1 ∈ wsX6_wish) (by assumption) dX6_wish_33 ?_
  refine aw_iload_1 dX6_wish_36 ?_
  refine aw_iload_2 dX6_wish_37 ?_
  refine aw_run (zRun_V (c_X5_fulfil hW zVw.put hB (zVw.self.out (by omega)) (by omega)) gX6_wish_X5_fulfil q_X5_fulfil rfl (by decide) rfl (by assumption) rfl rfl (Nat.le_of_ble_eq_true rfl) dX6_wish_38 ⟨by decide, by decide⟩) ?_
  rw [zput_zput, show wFul (zsub F (χ + 1)) (wBegin (zsub F (χ + 26)) (zsub F (χ + 19)) 1) t n = tFul F χ t n from rfl]
  refine aw_if_ne (tgt := 47) dX6_wish_41 (by decide) (fun c41 => ?_) (fun c41 => ?_)
  · refine aw_aload_0 dX6_wish_47 ?_
    refine aw_runA (zRun_V (c_X6_acceptWorks hY ho hs (by rw [zput_ne (by omega)]; exact h1) (by rw [zput_ne (by omega)]; exact h2)) gX6_wish_X6_acceptWorks q_X6_acceptWorks rfl (by decide) rfl (by assumption) rfl rfl (Nat.le_of_ble_eq_true rfl) dX6_wish_48 ⟨by decide, by decide⟩) (by refine ⟨fun j hj => ?_, fun j hj => ?_⟩ <;> (left; simp at hj <;> (first | (rcases hj with hj | hj | hj) | (rcases hj with hj | hj) | skip) <;> (try rw [hj]) <;> (first | (rw [ts]; simp) | (rw [hb0]; simp) | (rw [hs0]; simp) | (rw [hh0]; simp) | (rw [hw0]; simp)))) (fun ρ => ?_)
    exact aw_ireturn rfl dX6_wish_51 (by decide) (by rw [zput_a0 (by decide)]) rfl rfl rfl
  · exact absurd h (by simpa using c41)

abbrev mX6_make : ZM := (cX6_make, RX6, wsX6_make, 42, 0, 0, (some .int), 3, yX6_make.name)
set_option maxHeartbeats 1000000 in
set_option maxRecDepth 100000 in
theorem c_X6_make_b {sh : zSh} {F : Nat → Nat → Int32} {P : Nat → Nat → Option Nat} {χ : Nat} {t n : Int32} (hY : zSys sh P χ) (h : cIsThing t = 0 ∨ n < 1 ∨ 99 < n) : zMet yX6_make wsX6_make (42) (0) (0) [.ref χ, .int t, .int n] sh F P (some (.int (-1))) sh F P := by
  refine zMet.of (by decide) rfl (Nat.le_of_ble_eq_true rfl) (by simp [Value.category]) ?_
  intro X ρ
  show AW mX6_make X (zMQ mX6_make X (some (.int (-1))) sh F P) 0 [some (.ref χ), some (.int t), some (.int n)] [] ρ sh F P 0 0
  have hinX6 : ∀ w ∈ u_ws RX6 TX6 11, w ∈ wsX6_make := by decide +kernel
  obtain ⟨⟨ts, tp0, tp1, tp2, tp3, tp4, tp5, tp6, tp7, ti, tx⟩, hB, hD, hS, hW, hH, hR, hPl, hIm⟩ := id hY
  have hb0 := hB.1
  have hd0 := hD.1
  obtain ⟨hs0, ⟨sp0, sp1, sp2, sp3, sp4, sp5⟩, sh1, sh2, sh3, sh4, sh5, sh6⟩ := id hS
  have hw0 := hW.1
  have hh0 := hH.1
  have hr0 := hR.1
  have wp0 := hW.2.1
  have hwb := hW.st
  refine aw_iload_1 dX6_make_0 ?_
  refine aw_run (zRun_S (c_X6_isThing ) (Or.inl gX6_make_X6_isThing) q_X6_isThing (by decide) rfl rfl (Nat.le_of_ble_eq_true rfl) dX6_make_1 ⟨Nat.le_refl _, Nat.le_refl _⟩) ?_
  refine aw_if_eq (tgt := 18) dX6_make_4 (by decide) (fun c4 => ?_) (fun c4 => ?_)
  · refine aw_iconst (v := (-1)) dX6_make_18 (by decide) ?_
    exact aw_ireturn rfl dX6_make_19 ⟨Nat.zero_le _, Nat.zero_le _⟩ (by first | rfl | simp [c4]) rfl rfl rfl
  · refine aw_iload_2 dX6_make_7 ?_
    refine aw_iconst (v := 1) dX6_make_8 (by decide) ?_
    refine aw_icmp_lt (tgt := 18) dX6_make_9 (by decide) (fun c9 => ?_) (fun c9 => ?_)
    · refine aw_iconst (v := (-1)) dX6_make_18 (by decide) ?_
      exact aw_ireturn rfl dX6_make_19 ⟨Nat.zero_le _, Nat.zero_le _⟩ (by first | rfl | simp [c4, c9]) rfl rfl rfl
    · refine aw_iload_2 dX6_make_12 ?_
      refine aw_bipush (v := 99) dX6_make_13 (by decide) ?_
      refine aw_icmp_le (tgt := 20) dX6_make_15 (by decide) (fun c15 => ?_) (fun c15 => ?_)
      · exact absurd h (by simp [c4, c9, c15, Int32.not_lt.mpr c15])
      · refine aw_iconst (v := (-1)) dX6_make_18 (by decide) ?_
        exact aw_ireturn rfl dX6_make_19 ⟨Nat.zero_le _, Nat.zero_le _⟩ (by first | rfl | simp [c4, c9, c15]) rfl rfl rfl

set_option maxHeartbeats 1000000 in
set_option maxRecDepth 100000 in
theorem c_X6_make_n {sh : zSh} {F : Nat → Nat → Int32} {P : Nat → Nat → Option Nat} {χ : Nat} {t n : Int32} (hY : zSys sh P χ) (ht : ¬ cIsThing t = 0) (h1 : ¬ n < 1) (h2 : n ≤ 99) (h : bMade (zsub F (χ + 1)) t = 0) : zMet yX6_make wsX6_make (42) (0) (0) [.ref χ, .int t, .int n] sh F P (some (.int (-2))) sh F P := by
  refine zMet.of (by decide) rfl (Nat.le_of_ble_eq_true rfl) (by simp [Value.category]) ?_
  intro X ρ
  show AW mX6_make X (zMQ mX6_make X (some (.int (-2))) sh F P) 0 [some (.ref χ), some (.int t), some (.int n)] [] ρ sh F P 0 0
  have hinX6 : ∀ w ∈ u_ws RX6 TX6 11, w ∈ wsX6_make := by decide +kernel
  obtain ⟨⟨ts, tp0, tp1, tp2, tp3, tp4, tp5, tp6, tp7, ti, tx⟩, hB, hD, hS, hW, hH, hR, hPl, hIm⟩ := id hY
  have hb0 := hB.1
  have hd0 := hD.1
  obtain ⟨hs0, ⟨sp0, sp1, sp2, sp3, sp4, sp5⟩, sh1, sh2, sh3, sh4, sh5, sh6⟩ := id hS
  have hw0 := hW.1
  have hh0 := hH.1
  have hr0 := hR.1
  have wp0 := hW.2.1
  have hwb := hW.st
  refine aw_iload_1 dX6_make_0 ?_
  refine aw_run (zRun_S (c_X6_isThing ) (Or.inl gX6_make_X6_isThing) q_X6_isThing (by decide) rfl rfl (Nat.le_of_ble_eq_true rfl) dX6_make_1 ⟨Nat.le_refl _, Nat.le_refl _⟩) ?_
  refine aw_if_eq (tgt := 18) dX6_make_4 (by decide) (fun c4 => absurd c4 ht) (fun c4 => ?_)
  refine aw_iload_2 dX6_make_7 ?_
  refine aw_iconst (v := 1) dX6_make_8 (by decide) ?_
  refine aw_icmp_lt (tgt := 18) dX6_make_9 (by decide) (fun c9 => absurd c9 h1) (fun c9 => ?_)
  refine aw_iload_2 dX6_make_12 ?_
  refine aw_bipush (v := 99) dX6_make_13 (by decide) ?_
  refine aw_icmp_le (tgt := 20) dX6_make_15 (by decide) (fun c15 => ?_) (fun c15 => absurd h2 c15)
  refine aw_aload_0 dX6_make_20 ?_
  refine aw_getR fX6_0 (fun _ _ => rfl) (by assumption) hinX6 (by decide +kernel : Cond.fieldLink RX6 10 RX6 (TX6 0).2.1 (TX6 0).2.2.1 ∈ wsX6_make) (by assumption) dX6_make_21 ?_
  refine aw_iload_1 dX6_make_24 ?_
  refine aw_run (zRun_V (c_X0_isMade (by assumption)) gX6_make_X0_isMade q_X0_isMade rfl (by decide) rfl (by assumption) rfl rfl (Nat.le_of_ble_eq_true rfl) dX6_make_25 ⟨Nat.le_refl _, Nat.le_refl _⟩) ?_
  refine aw_if_ne (tgt := 34) dX6_make_28 (by decide) (fun c28 => ?_) (fun c28 => ?_)
  · exact absurd h (by assumption)
  · refine aw_bipush (v := (-2)) dX6_make_31 (by decide) ?_
    exact aw_ireturn rfl dX6_make_33 ⟨Nat.zero_le _, Nat.zero_le _⟩ (by first | rfl | simp [c4, c9, c15, c28]) rfl rfl rfl

set_option maxHeartbeats 1000000 in
set_option maxRecDepth 100000 in
theorem c_X6_make_f {sh : zSh} {F : Nat → Nat → Int32} {P : Nat → Nat → Option Nat} {χ : Nat} {t n : Int32} (hY : zSys sh P χ) (ht : ¬ cIsThing t = 0) (h1 : ¬ n < 1) (h2 : n ≤ 99) (hm : ¬ bMade (zsub F (χ + 1)) t = 0) (h : ¬ tRun F χ t n 0 2 = 0) : zMet yX6_make wsX6_make (42) (0) (0) [.ref χ, .int t, .int n] sh F P (some (.int (-3))) sh (zput F (χ + 26) 8 (tRun F χ t n)) P := by
  refine zMet.of (by decide) rfl (Nat.le_of_ble_eq_true rfl) (by simp [Value.category]) ?_
  intro X ρ
  show AW mX6_make X (zMQ mX6_make X (some (.int (-3))) sh (zput F (χ + 26) 8 (tRun F χ t n)) P) 0 [some (.ref χ), some (.int t), some (.int n)] [] ρ sh F P 0 0
  have hinX6 : ∀ w ∈ u_ws RX6 TX6 11, w ∈ wsX6_make := by decide +kernel
  obtain ⟨⟨ts, tp0, tp1, tp2, tp3, tp4, tp5, tp6, tp7, ti, tx⟩, hB, hD, hS, hW, hH, hR, hPl, hIm⟩ := id hY
  have hb0 := hB.1
  have hd0 := hD.1
  obtain ⟨hs0, ⟨sp0, sp1, sp2, sp3, sp4, sp5⟩, sh1, sh2, sh3, sh4, sh5, sh6⟩ := id hS
  have hw0 := hW.1
  have hh0 := hH.1
  have hr0 := hR.1
  have wp0 := hW.2.1
  have hwb := hW.st
  refine aw_iload_1 dX6_make_0 ?_
  refine aw_run (zRun_S (c_X6_isThing ) (Or.inl gX6_make_X6_isThing) q_X6_isThing (by decide) rfl rfl (Nat.le_of_ble_eq_true rfl) dX6_make_1 ⟨Nat.le_refl _, Nat.le_refl _⟩) ?_
  refine aw_if_eq (tgt := 18) dX6_make_4 (by decide) (fun c4 => absurd c4 ht) (fun c4 => ?_)
  refine aw_iload_2 dX6_make_7 ?_
  refine aw_iconst (v := 1) dX6_make_8 (by decide) ?_
  refine aw_icmp_lt (tgt := 18) dX6_make_9 (by decide) (fun c9 => absurd c9 h1) (fun c9 => ?_)
  refine aw_iload_2 dX6_make_12 ?_
  refine aw_bipush (v := 99) dX6_make_13 (by decide) ?_
  refine aw_icmp_le (tgt := 20) dX6_make_15 (by decide) (fun c15 => ?_) (fun c15 => absurd h2 c15)
  refine aw_aload_0 dX6_make_20 ?_
  refine aw_getR fX6_0 (fun _ _ => rfl) (by assumption) hinX6 (by decide +kernel : Cond.fieldLink RX6 10 RX6 (TX6 0).2.1 (TX6 0).2.2.1 ∈ wsX6_make) (by assumption) dX6_make_21 ?_
  refine aw_iload_1 dX6_make_24 ?_
  refine aw_run (zRun_V (c_X0_isMade (by assumption)) gX6_make_X0_isMade q_X0_isMade rfl (by decide) rfl (by assumption) rfl rfl (Nat.le_of_ble_eq_true rfl) dX6_make_25 ⟨Nat.le_refl _, Nat.le_refl _⟩) ?_
  refine aw_if_ne (tgt := 34) dX6_make_28 (by decide) (fun c28 => ?_) (fun c28 => absurd c28 hm)
  refine aw_aload_0 dX6_make_34 ?_
  refine aw_getR fX6_3 (fun _ _ => rfl) (by assumption) hinX6 (by decide +kernel : Cond.fieldLink RX6 29 RX6 (TX6 3).2.1 (TX6 3).2.2.1 ∈ wsX6_make) (by assumption) dX6_make_35 ?_
  refine aw_aload_0 dX6_make_38 ?_
  refine aw_getR fX6_2 (fun _ _ => rfl) (by assumption) hinX6 (by decide +kernel : Cond.fieldLink RX6 22 RX6 (TX6 2).2.1 (TX6 2).2.2.1 ∈ wsX6_make) (by assumption) dX6_make_39 ?_
  refine aw_iconst (v := 1) dX6_make_42 (by decide) ?_
  refine aw_runv (zRun_V (c_X5_begin hW zVw.self hS zVw.self (by omega) (Or.inr rfl)) gX6_make_X5_begin q_X5_begin rfl (by decide) rfl (by assumption) rfl rfl (Nat.le_of_ble_eq_true rfl) dX6_make_43 ⟨Nat.le_refl _, Nat.le_refl _⟩) ?_
  refine aw_aload_0 dX6_make_46 ?_
  refine aw_getR fX6_3 (fun _ _ => rfl) (by assumption) hinX6 (by decide +kernel : Cond.fieldLink RX6 29 RX6 (TX6 3).2.1 (TX6 3).2.2.1 ∈ wsX6_make) (by assumption) dX6_make_47 ?_
  refine aw_aload_0 dX6_make_50 ?_
  refine aw_getR fX6_0 (fun _ _ => rfl) (by assumption) hinX6 (by decide +kernel : Cond.fieldLink RX6 10 RX6 (TX6 0).2.1 (TX6 0).2.2.1 ∈ wsX6_make) (by assumption) dX6_make_51 ?_
  refine aw_iload_1 dX6_make_54 ?_
  refine aw_iload_2 dX6_make_55 ?_
  refine aw_run (zRun_V (c_X5_runAll hW zVw.put hB (zVw.self.out (by omega)) (by omega)) gX6_make_X5_runAll q_X5_runAll rfl (by decide) rfl (by assumption) rfl rfl (Nat.le_of_ble_eq_true rfl) dX6_make_56 ⟨Nat.le_refl _, Nat.le_refl _⟩) ?_
  rw [zput_zput, show wRun (zsub F (χ + 1)) 9 t n (wBegin (zsub F (χ + 26)) (zsub F (χ + 19)) 1) = tRun F χ t n from rfl]
  refine aw_if_ne (tgt := 65) dX6_make_59 (by decide) (fun c59 => ?_) (fun c59 => ?_)
  · exact absurd (by simpa using c59) h
  · refine aw_bipush (v := (-3)) dX6_make_62 (by decide) ?_
    exact aw_ireturn rfl dX6_make_64 ⟨Nat.zero_le _, Nat.zero_le _⟩ (by first | rfl | simp [c4, c9, c15, c28, c59]) rfl rfl rfl

abbrev m1X6_make : ZM := (cX6_make, RX6, wsX6_make, 42, 17, 497, (some .int), 3, yX6_make.name)

set_option maxHeartbeats 1000000 in
set_option maxRecDepth 100000 in
theorem c_X6_make_o {sh : zSh} {F : Nat → Nat → Int32} {P : Nat → Nat → Option Nat} {χ : Nat} {o s : Nat} {t n : Int32} (hY : zSys sh P χ) (ho : o < 8) (hs : s ≤ 8) (i1 : F (χ + 34) 1 = nI o) (i2 : F (χ + 34) 2 = nI s) (ht : ¬ cIsThing t = 0) (h1 : ¬ n < 1) (h2 : n ≤ 99) (hm : ¬ bMade (zsub F (χ + 1)) t = 0) (h : tRun F χ t n 0 2 = 0) : zMet yX6_make wsX6_make (42) (17) (497) [.ref χ, .int t, .int n] sh F P (some (.int (tRun F χ t n 0 4))) (tS sh P χ ((o + s) % 8)) (tAcc F P χ o s (tRun F χ t n)) (tP P χ ((o + s) % 8)) := by
  refine zMet.of (by decide) rfl (Nat.le_of_ble_eq_true rfl) (by simp [Value.category]) ?_
  intro X ρ
  show AW m1X6_make X (zMQ m1X6_make X (some (.int (tRun F χ t n 0 4))) (tS sh P χ ((o + s) % 8)) (tAcc F P χ o s (tRun F χ t n)) (tP P χ ((o + s) % 8))) 0 [some (.ref χ), some (.int t), some (.int n)] [] ρ sh F P 0 0
  have hinX6 : ∀ w ∈ u_ws RX6 TX6 11, w ∈ wsX6_make := by decide +kernel
  obtain ⟨⟨ts, tp0, tp1, tp2, tp3, tp4, tp5, tp6, tp7, ti, tx⟩, hB, hD, hS, hW, hH, hR, hPl, hIm⟩ := id hY
  have hb0 := hB.1
  have hd0 := hD.1
  obtain ⟨hs0, ⟨sp0, sp1, sp2, sp3, sp4, sp5⟩, sh1, sh2, sh3, sh4, sh5, sh6⟩ := id hS
  have hw0 := hW.1
  have hh0 := hH.1
  have hr0 := hR.1
  have wp0 := hW.2.1
  have hwb := hW.st
  refine aw_iload_1 dX6_make_0 ?_
  refine aw_run (zRun_S (c_X6_isThing ) (Or.inl gX6_make_X6_isThing) q_X6_isThing (by decide) rfl rfl (Nat.le_of_ble_eq_true rfl) dX6_make_1 ⟨by decide, by decide⟩) ?_
  refine aw_if_eq (tgt := 18) dX6_make_4 (by decide) (fun c4 => absurd c4 ht) (fun c4 => ?_)
  refine aw_iload_2 dX6_make_7 ?_
  refine aw_iconst (v := 1) dX6_make_8 (by decide) ?_
  refine aw_icmp_lt (tgt := 18) dX6_make_9 (by decide) (fun c9 => absurd c9 h1) (fun c9 => ?_)
  refine aw_iload_2 dX6_make_12 ?_
  refine aw_bipush (v := 99) dX6_make_13 (by decide) ?_
  refine aw_icmp_le (tgt := 20) dX6_make_15 (by decide) (fun c15 => ?_) (fun c15 => absurd h2 c15)
  refine aw_aload_0 dX6_make_20 ?_
  refine aw_getR fX6_0 (fun _ _ => rfl) (by assumption) hinX6 (by decide +kernel : Cond.fieldLink RX6 10 RX6 (TX6 0).2.1 (TX6 0).2.2.1 ∈ wsX6_make) (by assumption) dX6_make_21 ?_
  refine aw_iload_1 dX6_make_24 ?_
  refine aw_run (zRun_V (c_X0_isMade (by assumption)) gX6_make_X0_isMade q_X0_isMade rfl (by decide) rfl (by assumption) rfl rfl (Nat.le_of_ble_eq_true rfl) dX6_make_25 ⟨by decide, by decide⟩) ?_
  refine aw_if_ne (tgt := 34) dX6_make_28 (by decide) (fun c28 => ?_) (fun c28 => absurd c28 hm)
  refine aw_aload_0 dX6_make_34 ?_
  refine aw_getR fX6_3 (fun _ _ => rfl) (by assumption) hinX6 (by decide +kernel : Cond.fieldLink RX6 29 RX6 (TX6 3).2.1 (TX6 3).2.2.1 ∈ wsX6_make) (by assumption) dX6_make_35 ?_
  refine aw_aload_0 dX6_make_38 ?_
  refine aw_getR fX6_2 (fun _ _ => rfl) (by assumption) hinX6 (by decide +kernel : Cond.fieldLink RX6 22 RX6 (TX6 2).2.1 (TX6 2).2.2.1 ∈ wsX6_make) (by assumption) dX6_make_39 ?_
  refine aw_iconst (v := 1) dX6_make_42 (by decide) ?_
  refine aw_runv (zRun_V (c_X5_begin hW zVw.self hS zVw.self (by omega) (Or.inr rfl)) gX6_make_X5_begin q_X5_begin rfl (by decide) rfl (by assumption) rfl rfl (Nat.le_of_ble_eq_true rfl) dX6_make_43 ⟨by decide, by decide⟩) ?_
  refine aw_aload_0 dX6_make_46 ?_
  refine aw_getR fX6_3 (fun _ _ => rfl) (by assumption) hinX6 (by decide +kernel : Cond.fieldLink RX6 29 RX6 (TX6 3).2.1 (TX6 3).2.2.1 ∈ wsX6_make) (by assumption) dX6_make_47 ?_
  refine aw_aload_0 dX6_make_50 ?_
  refine aw_getR fX6_0 (fun _ _ => rfl) (by assumption) hinX6 (by decide +kernel : Cond.fieldLink RX6 10 RX6 (TX6 0).2.1 (TX6 0).2.2.1 ∈ wsX6_make) (by assumption) dX6_make_51 ?_
  refine aw_iload_1 dX6_make_54 ?_
  refine aw_iload_2 dX6_make_55 ?_
  refine aw_run (zRun_V (c_X5_runAll hW zVw.put hB (zVw.self.out (by omega)) (by omega)) gX6_make_X5_runAll q_X5_runAll rfl (by decide) rfl (by assumption) rfl rfl (Nat.le_of_ble_eq_true rfl) dX6_make_56 ⟨by decide, by decide⟩) ?_
  rw [zput_zput, show wRun (zsub F (χ + 1)) 9 t n (wBegin (zsub F (χ + 26)) (zsub F (χ + 19)) 1) = tRun F χ t n from rfl]
  refine aw_if_ne (tgt := 65) dX6_make_59 (by decide) (fun c59 => ?_) (fun c59 => ?_)
  · refine aw_aload_0 dX6_make_65 ?_
    refine aw_runA (zRun_V (c_X6_acceptWorks hY ho hs (by rw [zput_ne (by omega)]; exact i1) (by rw [zput_ne (by omega)]; exact i2)) gX6_make_X6_acceptWorks q_X6_acceptWorks rfl (by decide) rfl (by assumption) rfl rfl (Nat.le_of_ble_eq_true rfl) dX6_make_66 ⟨by decide, by decide⟩) (by refine ⟨fun j hj => ?_, fun j hj => ?_⟩ <;> (left; simp at hj <;> (first | (rcases hj with hj | hj | hj) | (rcases hj with hj | hj) | skip) <;> (try rw [hj]) <;> (first | (rw [ts]; simp) | (rw [hb0]; simp) | (rw [hs0]; simp) | (rw [hh0]; simp) | (rw [hw0]; simp)))) (fun ρ => ?_)
    exact aw_ireturn rfl dX6_make_69 (by decide) (by rw [zput_a0 (by decide)]) rfl rfl rfl
  · exact absurd h (by simpa using c59)

abbrev mX6_gather : ZM := (cX6_gather, RX6, wsX6_gather, 42, 0, 0, (some .int), 4, yX6_gather.name)
set_option maxHeartbeats 1000000 in
set_option maxRecDepth 100000 in
theorem c_X6_gather_b {sh : zSh} {F : Nat → Nat → Int32} {P : Nat → Nat → Option Nat} {χ : Nat} {t n u : Int32} (hY : zSys sh P χ) (h : cIsThing t = 0 ∨ cIsWished n = 0 ∨ (u ≠ -9 ∧ cIsThing u = 0)) : zMet yX6_gather wsX6_gather (42) (0) (0) [.ref χ, .int t, .int n, .int u] sh F P (some (.int (-1))) sh F P := by
  refine zMet.of (by decide) rfl (Nat.le_of_ble_eq_true rfl) (by simp [Value.category]) ?_
  intro X ρ
  show AW mX6_gather X (zMQ mX6_gather X (some (.int (-1))) sh F P) 0 [some (.ref χ), some (.int t), some (.int n), some (.int u)] [] ρ sh F P 0 0
  have hinX6 : ∀ w ∈ u_ws RX6 TX6 11, w ∈ wsX6_gather := by decide +kernel
  have hinX5 : ∀ w ∈ u_ws RX5 TX5 5, w ∈ wsX6_gather := by decide +kernel
  have hinX4 : ∀ w ∈ u_ws RX4 TX4 7, w ∈ wsX6_gather := by decide +kernel
  obtain ⟨⟨ts, tp0, tp1, tp2, tp3, tp4, tp5, tp6, tp7, ti, tx⟩, hB, hD, hS, hW, hH, hR, hPl, hIm⟩ := id hY
  have hb0 := hB.1
  have hd0 := hD.1
  obtain ⟨hs0, ⟨sp0, sp1, sp2, sp3, sp4, sp5⟩, sh1, sh2, sh3, sh4, sh5, sh6⟩ := id hS
  have hw0 := hW.1
  have hh0 := hH.1
  have hr0 := hR.1
  have wp0 := hW.2.1
  have hwb := hW.st
  refine aw_iload_1 dX6_gather_0 ?_
  refine aw_run (zRun_S (c_X6_isThing ) (Or.inl gX6_gather_X6_isThing) q_X6_isThing (by decide) rfl rfl (Nat.le_of_ble_eq_true rfl) dX6_gather_1 ⟨Nat.le_refl _, Nat.le_refl _⟩) ?_
  refine aw_if_eq (tgt := 27) dX6_gather_4 (by decide) (fun c4 => ?_) (fun c4 => ?_)
  · refine aw_iconst (v := (-1)) dX6_gather_27 (by decide) ?_
    exact aw_ireturn rfl dX6_gather_28 ⟨Nat.zero_le _, Nat.zero_le _⟩ (by first | rfl | simp [c4]) rfl rfl rfl
  · refine aw_iload_2 dX6_gather_7 ?_
    refine aw_run (zRun_S (c_X6_isWished ) (Or.inl gX6_gather_X6_isWished) q_X6_isWished (by decide) rfl rfl (Nat.le_of_ble_eq_true rfl) dX6_gather_8 ⟨Nat.le_refl _, Nat.le_refl _⟩) ?_
    refine aw_if_eq (tgt := 27) dX6_gather_11 (by decide) (fun c11 => ?_) (fun c11 => ?_)
    · refine aw_iconst (v := (-1)) dX6_gather_27 (by decide) ?_
      exact aw_ireturn rfl dX6_gather_28 ⟨Nat.zero_le _, Nat.zero_le _⟩ (by first | rfl | simp [c4, c11]) rfl rfl rfl
    · refine aw_iload_3 dX6_gather_14 ?_
      refine aw_bipush (v := (-9)) dX6_gather_15 (by decide) ?_
      refine aw_icmp_eq (tgt := 29) dX6_gather_17 (by decide) (fun c17 => ?_) (fun c17 => ?_)
      · exact absurd h (by simp [c4, c11, c17])
      · refine aw_iload_3 dX6_gather_20 ?_
        refine aw_run (zRun_S (c_X6_isThing ) (Or.inl gX6_gather_X6_isThing) q_X6_isThing (by decide) rfl rfl (Nat.le_of_ble_eq_true rfl) dX6_gather_21 ⟨Nat.le_refl _, Nat.le_refl _⟩) ?_
        refine aw_if_ne (tgt := 29) dX6_gather_24 (by decide) (fun c24 => ?_) (fun c24 => ?_)
        · exact absurd h (by simp [c4, c11, c17, c24])
        · refine aw_iconst (v := (-1)) dX6_gather_27 (by decide) ?_
          exact aw_ireturn rfl dX6_gather_28 ⟨Nat.zero_le _, Nat.zero_le _⟩ (by first | rfl | simp [c4, c11, c17, c24]) rfl rfl rfl

set_option maxHeartbeats 1000000 in
set_option maxRecDepth 100000 in
theorem c_X6_gather_f {sh : zSh} {F : Nat → Nat → Int32} {P : Nat → Nat → Option Nat} {χ : Nat} {t n u : Int32} (hY : zSys sh P χ) (ht : ¬ cIsThing t = 0) (hn : ¬ cIsWished n = 0) (hu : u ≠ -9 → ¬ cIsThing u = 0) (h : ¬ tFul F χ t n 0 2 = 0) : zMet yX6_gather wsX6_gather (42) (0) (0) [.ref χ, .int t, .int n, .int u] sh F P (some (.int (-3))) sh (zput F (χ + 26) 8 (tFul F χ t n)) P := by
  refine zMet.of (by decide) rfl (Nat.le_of_ble_eq_true rfl) (by simp [Value.category]) ?_
  intro X ρ
  show AW mX6_gather X (zMQ mX6_gather X (some (.int (-3))) sh (zput F (χ + 26) 8 (tFul F χ t n)) P) 0 [some (.ref χ), some (.int t), some (.int n), some (.int u)] [] ρ sh F P 0 0
  have hinX6 : ∀ w ∈ u_ws RX6 TX6 11, w ∈ wsX6_gather := by decide +kernel
  have hinX5 : ∀ w ∈ u_ws RX5 TX5 5, w ∈ wsX6_gather := by decide +kernel
  have hinX4 : ∀ w ∈ u_ws RX4 TX4 7, w ∈ wsX6_gather := by decide +kernel
  obtain ⟨⟨ts, tp0, tp1, tp2, tp3, tp4, tp5, tp6, tp7, ti, tx⟩, hB, hD, hS, hW, hH, hR, hPl, hIm⟩ := id hY
  have hb0 := hB.1
  have hd0 := hD.1
  obtain ⟨hs0, ⟨sp0, sp1, sp2, sp3, sp4, sp5⟩, sh1, sh2, sh3, sh4, sh5, sh6⟩ := id hS
  have hw0 := hW.1
  have hh0 := hH.1
  have hr0 := hR.1
  have wp0 := hW.2.1
  have hwb := hW.st
  refine aw_iload_1 dX6_gather_0 ?_
  refine aw_run (zRun_S (c_X6_isThing ) (Or.inl gX6_gather_X6_isThing) q_X6_isThing (by decide) rfl rfl (Nat.le_of_ble_eq_true rfl) dX6_gather_1 ⟨Nat.le_refl _, Nat.le_refl _⟩) ?_
  refine aw_if_eq (tgt := 27) dX6_gather_4 (by decide) (fun c4 => absurd c4 ht) (fun c4 => ?_)
  refine aw_iload_2 dX6_gather_7 ?_
  refine aw_run (zRun_S (c_X6_isWished ) (Or.inl gX6_gather_X6_isWished) q_X6_isWished (by decide) rfl rfl (Nat.le_of_ble_eq_true rfl) dX6_gather_8 ⟨Nat.le_refl _, Nat.le_refl _⟩) ?_
  refine aw_if_eq (tgt := 27) dX6_gather_11 (by decide) (fun c11 => absurd c11 hn) (fun c11 => ?_)
  refine aw_iload_3 dX6_gather_14 ?_
  refine aw_bipush (v := (-9)) dX6_gather_15 (by decide) ?_
  refine aw_icmp_eq (tgt := 29) dX6_gather_17 (by decide) (fun c17 => ?_) (fun c17 => ?_)
  · refine aw_aload_0 dX6_gather_29 ?_
    refine aw_getR fX6_3 (fun _ _ => rfl) (by assumption) hinX6 (by decide +kernel : Cond.fieldLink RX6 29 RX6 (TX6 3).2.1 (TX6 3).2.2.1 ∈ wsX6_gather) (by assumption) dX6_gather_30 ?_
    refine aw_aload_0 dX6_gather_33 ?_
    refine aw_getR fX6_2 (fun _ _ => rfl) (by assumption) hinX6 (by decide +kernel : Cond.fieldLink RX6 22 RX6 (TX6 2).2.1 (TX6 2).2.2.1 ∈ wsX6_gather) (by assumption) dX6_gather_34 ?_
    refine aw_iconst (v := 1) dX6_gather_37 (by decide) ?_
    refine aw_runv (zRun_V (c_X5_begin hW zVw.self hS zVw.self (by omega) (Or.inr rfl)) gX6_gather_X5_begin q_X5_begin rfl (by decide) rfl (by assumption) rfl rfl (Nat.le_of_ble_eq_true rfl) dX6_gather_38 ⟨Nat.le_refl _, Nat.le_refl _⟩) ?_
    refine aw_aload_0 dX6_gather_41 ?_
    refine aw_getR fX6_3 (fun _ _ => rfl) (by assumption) hinX6 (by decide +kernel : Cond.fieldLink RX6 29 RX6 (TX6 3).2.1 (TX6 3).2.2.1 ∈ wsX6_gather) (by assumption) dX6_gather_42 ?_
    refine aw_aload_0 dX6_gather_45 ?_
    refine aw_getR fX6_0 (fun _ _ => rfl) (by assumption) hinX6 (by decide +kernel : Cond.fieldLink RX6 10 RX6 (TX6 0).2.1 (TX6 0).2.2.1 ∈ wsX6_gather) (by assumption) dX6_gather_46 ?_
    refine aw_iload_1 dX6_gather_49 ?_
    refine aw_iload_2 dX6_gather_50 ?_
    refine aw_run (zRun_V (c_X5_fulfil hW zVw.put hB (zVw.self.out (by omega)) (by omega)) gX6_gather_X5_fulfil q_X5_fulfil rfl (by decide) rfl (by assumption) rfl rfl (Nat.le_of_ble_eq_true rfl) dX6_gather_51 ⟨Nat.le_refl _, Nat.le_refl _⟩) ?_
    rw [zput_zput, show wFul (zsub F (χ + 1)) (wBegin (zsub F (χ + 26)) (zsub F (χ + 19)) 1) t n = tFul F χ t n from rfl]
    refine aw_if_ne (tgt := 60) dX6_gather_54 (by decide) (fun c54 => ?_) (fun c54 => ?_)
    · exact absurd (by simpa using c54) h
    · refine aw_bipush (v := (-3)) dX6_gather_57 (by decide) ?_
      exact aw_ireturn rfl dX6_gather_59 ⟨Nat.zero_le _, Nat.zero_le _⟩ (by first | rfl | simp [c4, c11, c17, c54]) rfl rfl rfl
  · refine aw_iload_3 dX6_gather_20 ?_
    refine aw_run (zRun_S (c_X6_isThing ) (Or.inl gX6_gather_X6_isThing) q_X6_isThing (by decide) rfl rfl (Nat.le_of_ble_eq_true rfl) dX6_gather_21 ⟨Nat.le_refl _, Nat.le_refl _⟩) ?_
    refine aw_if_ne (tgt := 29) dX6_gather_24 (by decide) (fun c24 => ?_) (fun c24 => ?_)
    · refine aw_aload_0 dX6_gather_29 ?_
      refine aw_getR fX6_3 (fun _ _ => rfl) (by assumption) hinX6 (by decide +kernel : Cond.fieldLink RX6 29 RX6 (TX6 3).2.1 (TX6 3).2.2.1 ∈ wsX6_gather) (by assumption) dX6_gather_30 ?_
      refine aw_aload_0 dX6_gather_33 ?_
      refine aw_getR fX6_2 (fun _ _ => rfl) (by assumption) hinX6 (by decide +kernel : Cond.fieldLink RX6 22 RX6 (TX6 2).2.1 (TX6 2).2.2.1 ∈ wsX6_gather) (by assumption) dX6_gather_34 ?_
      refine aw_iconst (v := 1) dX6_gather_37 (by decide) ?_
      refine aw_runv (zRun_V (c_X5_begin hW zVw.self hS zVw.self (by omega) (Or.inr rfl)) gX6_gather_X5_begin q_X5_begin rfl (by decide) rfl (by assumption) rfl rfl (Nat.le_of_ble_eq_true rfl) dX6_gather_38 ⟨Nat.le_refl _, Nat.le_refl _⟩) ?_
      refine aw_aload_0 dX6_gather_41 ?_
      refine aw_getR fX6_3 (fun _ _ => rfl) (by assumption) hinX6 (by decide +kernel : Cond.fieldLink RX6 29 RX6 (TX6 3).2.1 (TX6 3).2.2.1 ∈ wsX6_gather) (by assumption) dX6_gather_42 ?_
      refine aw_aload_0 dX6_gather_45 ?_
      refine aw_getR fX6_0 (fun _ _ => rfl) (by assumption) hinX6 (by decide +kernel : Cond.fieldLink RX6 10 RX6 (TX6 0).2.1 (TX6 0).2.2.1 ∈ wsX6_gather) (by assumption) dX6_gather_46 ?_
      refine aw_iload_1 dX6_gather_49 ?_
      refine aw_iload_2 dX6_gather_50 ?_
      refine aw_run (zRun_V (c_X5_fulfil hW zVw.put hB (zVw.self.out (by omega)) (by omega)) gX6_gather_X5_fulfil q_X5_fulfil rfl (by decide) rfl (by assumption) rfl rfl (Nat.le_of_ble_eq_true rfl) dX6_gather_51 ⟨Nat.le_refl _, Nat.le_refl _⟩) ?_
      rw [zput_zput, show wFul (zsub F (χ + 1)) (wBegin (zsub F (χ + 26)) (zsub F (χ + 19)) 1) t n = tFul F χ t n from rfl]
      refine aw_if_ne (tgt := 60) dX6_gather_54 (by decide) (fun c54 => ?_) (fun c54 => ?_)
      · exact absurd (by simpa using c54) h
      · refine aw_bipush (v := (-3)) dX6_gather_57 (by decide) ?_
        exact aw_ireturn rfl dX6_gather_59 ⟨Nat.zero_le _, Nat.zero_le _⟩ (by first | rfl | simp [c4, c11, c17, c24, c54]) rfl rfl rfl
    · exact absurd c24 (hu c17)

set_option maxHeartbeats 1000000 in
set_option maxRecDepth 100000 in
theorem c_X6_gather_o {sh : zSh} {F : Nat → Nat → Int32} {P : Nat → Nat → Option Nat} {χ : Nat} {t n u : Int32} (hY : zSys sh P χ) (ht : ¬ cIsThing t = 0) (hn : ¬ cIsWished n = 0) (hu : u ≠ -9 → ¬ cIsThing u = 0) (h : tFul F χ t n 0 2 = 0) : zMet yX6_gather wsX6_gather (42) (0) (0) [.ref χ, .int t, .int n, .int u] sh F P (some (.int (if u = -9 then tFul F χ t n 0 4 else cAt 20 (tFul F χ t n 3) u - cAt 20 (F (χ + 21)) u))) sh (zput F (χ + 26) 8 (tFul F χ t n)) P := by
  refine zMet.of (by decide) rfl (Nat.le_of_ble_eq_true rfl) (by simp [Value.category]) ?_
  intro X ρ
  show AW mX6_gather X (zMQ mX6_gather X (some (.int (if u = -9 then tFul F χ t n 0 4 else cAt 20 (tFul F χ t n 3) u - cAt 20 (F (χ + 21)) u))) sh (zput F (χ + 26) 8 (tFul F χ t n)) P) 0 [some (.ref χ), some (.int t), some (.int n), some (.int u)] [] ρ sh F P 0 0
  have hinX6 : ∀ w ∈ u_ws RX6 TX6 11, w ∈ wsX6_gather := by decide +kernel
  have hinX5 : ∀ w ∈ u_ws RX5 TX5 5, w ∈ wsX6_gather := by decide +kernel
  have hinX4 : ∀ w ∈ u_ws RX4 TX4 7, w ∈ wsX6_gather := by decide +kernel
  obtain ⟨⟨ts, tp0, tp1, tp2, tp3, tp4, tp5, tp6, tp7, ti, tx⟩, hB, hD, hS, hW, hH, hR, hPl, hIm⟩ := id hY
  have hb0 := hB.1
  have hd0 := hD.1
  obtain ⟨hs0, ⟨sp0, sp1, sp2, sp3, sp4, sp5⟩, sh1, sh2, sh3, sh4, sh5, sh6⟩ := id hS
  have hw0 := hW.1
  have hh0 := hH.1
  have hr0 := hR.1
  have wp0 := hW.2.1
  have hwb := hW.st
  obtain ⟨ws0, wp0', ws1, ⟨bp0, bp1, bp2, bp3, bp4, bp5⟩, ws2, ws3, ws4, ws5, ws6, ws7⟩ := id hW
  refine aw_iload_1 dX6_gather_0 ?_
  refine aw_run (zRun_S (c_X6_isThing ) (Or.inl gX6_gather_X6_isThing) q_X6_isThing (by decide) rfl rfl (Nat.le_of_ble_eq_true rfl) dX6_gather_1 ⟨Nat.le_refl _, Nat.le_refl _⟩) ?_
  refine aw_if_eq (tgt := 27) dX6_gather_4 (by decide) (fun c4 => absurd c4 ht) (fun c4 => ?_)
  refine aw_iload_2 dX6_gather_7 ?_
  refine aw_run (zRun_S (c_X6_isWished ) (Or.inl gX6_gather_X6_isWished) q_X6_isWished (by decide) rfl rfl (Nat.le_of_ble_eq_true rfl) dX6_gather_8 ⟨Nat.le_refl _, Nat.le_refl _⟩) ?_
  refine aw_if_eq (tgt := 27) dX6_gather_11 (by decide) (fun c11 => absurd c11 hn) (fun c11 => ?_)
  refine aw_iload_3 dX6_gather_14 ?_
  refine aw_bipush (v := (-9)) dX6_gather_15 (by decide) ?_
  refine aw_icmp_eq (tgt := 29) dX6_gather_17 (by decide) (fun c17 => ?_) (fun c17 => ?_)
  · refine aw_aload_0 dX6_gather_29 ?_
    refine aw_getR fX6_3 (fun _ _ => rfl) (by assumption) hinX6 (by decide +kernel : Cond.fieldLink RX6 29 RX6 (TX6 3).2.1 (TX6 3).2.2.1 ∈ wsX6_gather) (by assumption) dX6_gather_30 ?_
    refine aw_aload_0 dX6_gather_33 ?_
    refine aw_getR fX6_2 (fun _ _ => rfl) (by assumption) hinX6 (by decide +kernel : Cond.fieldLink RX6 22 RX6 (TX6 2).2.1 (TX6 2).2.2.1 ∈ wsX6_gather) (by assumption) dX6_gather_34 ?_
    refine aw_iconst (v := 1) dX6_gather_37 (by decide) ?_
    refine aw_runv (zRun_V (c_X5_begin hW zVw.self hS zVw.self (by omega) (Or.inr rfl)) gX6_gather_X5_begin q_X5_begin rfl (by decide) rfl (by assumption) rfl rfl (Nat.le_of_ble_eq_true rfl) dX6_gather_38 ⟨Nat.le_refl _, Nat.le_refl _⟩) ?_
    refine aw_aload_0 dX6_gather_41 ?_
    refine aw_getR fX6_3 (fun _ _ => rfl) (by assumption) hinX6 (by decide +kernel : Cond.fieldLink RX6 29 RX6 (TX6 3).2.1 (TX6 3).2.2.1 ∈ wsX6_gather) (by assumption) dX6_gather_42 ?_
    refine aw_aload_0 dX6_gather_45 ?_
    refine aw_getR fX6_0 (fun _ _ => rfl) (by assumption) hinX6 (by decide +kernel : Cond.fieldLink RX6 10 RX6 (TX6 0).2.1 (TX6 0).2.2.1 ∈ wsX6_gather) (by assumption) dX6_gather_46 ?_
    refine aw_iload_1 dX6_gather_49 ?_
    refine aw_iload_2 dX6_gather_50 ?_
    refine aw_run (zRun_V (c_X5_fulfil hW zVw.put hB (zVw.self.out (by omega)) (by omega)) gX6_gather_X5_fulfil q_X5_fulfil rfl (by decide) rfl (by assumption) rfl rfl (Nat.le_of_ble_eq_true rfl) dX6_gather_51 ⟨Nat.le_refl _, Nat.le_refl _⟩) ?_
    rw [zput_zput, show wFul (zsub F (χ + 1)) (wBegin (zsub F (χ + 26)) (zsub F (χ + 19)) 1) t n = tFul F χ t n from rfl]
    refine aw_if_ne (tgt := 60) dX6_gather_54 (by decide) (fun c54 => ?_) (fun c54 => ?_)
    · refine aw_iload_3 dX6_gather_60 ?_
      refine aw_bipush (v := (-9)) dX6_gather_61 (by decide) ?_
      refine aw_icmp_ne (tgt := 74) dX6_gather_63 (by decide) (fun c63 => ?_) (fun c63 => ?_)
      · refine aw_aload_0 dX6_gather_74 ?_
        refine aw_getR fX6_3 (fun _ _ => rfl) (by assumption) hinX6 (by decide +kernel : Cond.fieldLink RX6 29 RX6 (TX6 3).2.1 (TX6 3).2.2.1 ∈ wsX6_gather) (by assumption) dX6_gather_75 ?_
        refine aw_getRN (q := 7) fX5_0 (fun _ _ => rfl) (by assumption) hinX5 rfl (by assumption) dX6_gather_78 ?_
        refine aw_getRN (q := 2) fX4_1 (fun _ _ => rfl) (by assumption) hinX4 rfl (by assumption) dX6_gather_81 ?_
        refine aw_iload_3 dX6_gather_84 ?_
        refine aw_run (zRun_S (c_X6_at (by assumption) (by decide)) (Or.inl gX6_gather_X6_at) q_X6_at (by decide) rfl rfl (Nat.le_of_ble_eq_true rfl) dX6_gather_85 ⟨Nat.le_refl _, Nat.le_refl _⟩) ?_
        refine aw_aload_0 dX6_gather_88 ?_
        refine aw_getR fX6_2 (fun _ _ => rfl) (by assumption) hinX6 (by decide +kernel : Cond.fieldLink RX6 22 RX6 (TX6 2).2.1 (TX6 2).2.2.1 ∈ wsX6_gather) (by assumption) dX6_gather_89 ?_
        refine aw_getRN (q := 2) fX4_1 (fun _ _ => rfl) (by assumption) hinX4 rfl (by assumption) dX6_gather_92 ?_
        refine aw_iload_3 dX6_gather_95 ?_
        refine aw_run (zRun_S (c_X6_at (by assumption) (by decide)) (Or.inl gX6_gather_X6_at) q_X6_at (by decide) rfl rfl (Nat.le_of_ble_eq_true rfl) dX6_gather_96 ⟨Nat.le_refl _, Nat.le_refl _⟩) ?_
        refine aw_isub dX6_gather_99 ?_
        exact aw_ireturn rfl dX6_gather_100 ⟨Nat.zero_le _, Nat.zero_le _⟩ (by rw [if_neg c63, show χ + 26 + 1 + 2 = χ + 26 + 3 from rfl, zput_at (by decide), zput_ne (by omega)]) rfl rfl rfl
      · refine aw_aload_0 dX6_gather_66 ?_
        refine aw_getR fX6_3 (fun _ _ => rfl) (by assumption) hinX6 (by decide +kernel : Cond.fieldLink RX6 29 RX6 (TX6 3).2.1 (TX6 3).2.2.1 ∈ wsX6_gather) (by assumption) dX6_gather_67 ?_
        refine aw_run (zRun_V (c_X5_gathered hW zVw.put) gX6_gather_X5_gathered q_X5_gathered rfl (by decide) rfl (by assumption) rfl rfl (Nat.le_of_ble_eq_true rfl) dX6_gather_70 ⟨Nat.le_refl _, Nat.le_refl _⟩) ?_
        exact aw_ireturn rfl dX6_gather_73 ⟨Nat.zero_le _, Nat.zero_le _⟩ (by rw [if_pos c63]) rfl rfl rfl
    · exact absurd h (by simpa using c54)
  · refine aw_iload_3 dX6_gather_20 ?_
    refine aw_run (zRun_S (c_X6_isThing ) (Or.inl gX6_gather_X6_isThing) q_X6_isThing (by decide) rfl rfl (Nat.le_of_ble_eq_true rfl) dX6_gather_21 ⟨Nat.le_refl _, Nat.le_refl _⟩) ?_
    refine aw_if_ne (tgt := 29) dX6_gather_24 (by decide) (fun c24 => ?_) (fun c24 => ?_)
    · refine aw_aload_0 dX6_gather_29 ?_
      refine aw_getR fX6_3 (fun _ _ => rfl) (by assumption) hinX6 (by decide +kernel : Cond.fieldLink RX6 29 RX6 (TX6 3).2.1 (TX6 3).2.2.1 ∈ wsX6_gather) (by assumption) dX6_gather_30 ?_
      refine aw_aload_0 dX6_gather_33 ?_
      refine aw_getR fX6_2 (fun _ _ => rfl) (by assumption) hinX6 (by decide +kernel : Cond.fieldLink RX6 22 RX6 (TX6 2).2.1 (TX6 2).2.2.1 ∈ wsX6_gather) (by assumption) dX6_gather_34 ?_
      refine aw_iconst (v := 1) dX6_gather_37 (by decide) ?_
      refine aw_runv (zRun_V (c_X5_begin hW zVw.self hS zVw.self (by omega) (Or.inr rfl)) gX6_gather_X5_begin q_X5_begin rfl (by decide) rfl (by assumption) rfl rfl (Nat.le_of_ble_eq_true rfl) dX6_gather_38 ⟨Nat.le_refl _, Nat.le_refl _⟩) ?_
      refine aw_aload_0 dX6_gather_41 ?_
      refine aw_getR fX6_3 (fun _ _ => rfl) (by assumption) hinX6 (by decide +kernel : Cond.fieldLink RX6 29 RX6 (TX6 3).2.1 (TX6 3).2.2.1 ∈ wsX6_gather) (by assumption) dX6_gather_42 ?_
      refine aw_aload_0 dX6_gather_45 ?_
      refine aw_getR fX6_0 (fun _ _ => rfl) (by assumption) hinX6 (by decide +kernel : Cond.fieldLink RX6 10 RX6 (TX6 0).2.1 (TX6 0).2.2.1 ∈ wsX6_gather) (by assumption) dX6_gather_46 ?_
      refine aw_iload_1 dX6_gather_49 ?_
      refine aw_iload_2 dX6_gather_50 ?_
      refine aw_run (zRun_V (c_X5_fulfil hW zVw.put hB (zVw.self.out (by omega)) (by omega)) gX6_gather_X5_fulfil q_X5_fulfil rfl (by decide) rfl (by assumption) rfl rfl (Nat.le_of_ble_eq_true rfl) dX6_gather_51 ⟨Nat.le_refl _, Nat.le_refl _⟩) ?_
      rw [zput_zput, show wFul (zsub F (χ + 1)) (wBegin (zsub F (χ + 26)) (zsub F (χ + 19)) 1) t n = tFul F χ t n from rfl]
      refine aw_if_ne (tgt := 60) dX6_gather_54 (by decide) (fun c54 => ?_) (fun c54 => ?_)
      · refine aw_iload_3 dX6_gather_60 ?_
        refine aw_bipush (v := (-9)) dX6_gather_61 (by decide) ?_
        refine aw_icmp_ne (tgt := 74) dX6_gather_63 (by decide) (fun c63 => ?_) (fun c63 => ?_)
        · refine aw_aload_0 dX6_gather_74 ?_
          refine aw_getR fX6_3 (fun _ _ => rfl) (by assumption) hinX6 (by decide +kernel : Cond.fieldLink RX6 29 RX6 (TX6 3).2.1 (TX6 3).2.2.1 ∈ wsX6_gather) (by assumption) dX6_gather_75 ?_
          refine aw_getRN (q := 7) fX5_0 (fun _ _ => rfl) (by assumption) hinX5 rfl (by assumption) dX6_gather_78 ?_
          refine aw_getRN (q := 2) fX4_1 (fun _ _ => rfl) (by assumption) hinX4 rfl (by assumption) dX6_gather_81 ?_
          refine aw_iload_3 dX6_gather_84 ?_
          refine aw_run (zRun_S (c_X6_at (by assumption) (by decide)) (Or.inl gX6_gather_X6_at) q_X6_at (by decide) rfl rfl (Nat.le_of_ble_eq_true rfl) dX6_gather_85 ⟨Nat.le_refl _, Nat.le_refl _⟩) ?_
          refine aw_aload_0 dX6_gather_88 ?_
          refine aw_getR fX6_2 (fun _ _ => rfl) (by assumption) hinX6 (by decide +kernel : Cond.fieldLink RX6 22 RX6 (TX6 2).2.1 (TX6 2).2.2.1 ∈ wsX6_gather) (by assumption) dX6_gather_89 ?_
          refine aw_getRN (q := 2) fX4_1 (fun _ _ => rfl) (by assumption) hinX4 rfl (by assumption) dX6_gather_92 ?_
          refine aw_iload_3 dX6_gather_95 ?_
          refine aw_run (zRun_S (c_X6_at (by assumption) (by decide)) (Or.inl gX6_gather_X6_at) q_X6_at (by decide) rfl rfl (Nat.le_of_ble_eq_true rfl) dX6_gather_96 ⟨Nat.le_refl _, Nat.le_refl _⟩) ?_
          refine aw_isub dX6_gather_99 ?_
          exact aw_ireturn rfl dX6_gather_100 ⟨Nat.zero_le _, Nat.zero_le _⟩ (by rw [if_neg c63, show χ + 26 + 1 + 2 = χ + 26 + 3 from rfl, zput_at (by decide), zput_ne (by omega)]) rfl rfl rfl
        · refine aw_aload_0 dX6_gather_66 ?_
          refine aw_getR fX6_3 (fun _ _ => rfl) (by assumption) hinX6 (by decide +kernel : Cond.fieldLink RX6 29 RX6 (TX6 3).2.1 (TX6 3).2.2.1 ∈ wsX6_gather) (by assumption) dX6_gather_67 ?_
          refine aw_run (zRun_V (c_X5_gathered hW zVw.put) gX6_gather_X5_gathered q_X5_gathered rfl (by decide) rfl (by assumption) rfl rfl (Nat.le_of_ble_eq_true rfl) dX6_gather_70 ⟨Nat.le_refl _, Nat.le_refl _⟩) ?_
          exact aw_ireturn rfl dX6_gather_73 ⟨Nat.zero_le _, Nat.zero_le _⟩ (by rw [if_pos c63]) rfl rfl rfl
      · exact absurd h (by simpa using c54)
    · exact absurd c24 (hu c17)

