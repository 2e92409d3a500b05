/-! ===== 26.tm4: canHave, bestGift, keep, back ===== -/
def cMin (x y : Int32) : Int32 := if y < x then y else x
def hvIt (B S : Nat → Nat → Int32) (t : Int32) : Nat → (Nat → Nat → Int32) → Option Int32 × (Nat → Nat → Int32)
  | 0, W => (none, W)
  | b + 1, W => if wRun B 9 t (nI (b + 1)) (wBegin W S 0) 0 2 = 0 then (some (nI (b + 1)), wRun B 9 t (nI (b + 1)) (wBegin W S 0)) else hvIt B S t b (wRun B 9 t (nI (b + 1)) (wBegin W S 0))
def hvRes (th y : Int32) : Option Int32 → Int32
  | none => th
  | some b => cMin (th + y * b) 999
def tThere (F : Nat → Nat → Int32) (χ : Nat) (t : Int32) : Int32 := cMin (cAt 20 (F (χ + 20)) t) 999
def tMost (F : Nat → Nat → Int32) (χ : Nat) (t : Int32) : Int32 := cMin (cDivUp (999 - tThere F χ t) (bYield (zsub F (χ + 1)) t)) 500
def tHv (F : Nat → Nat → Int32) (χ : Nat) (t : Int32) : Option Int32 × (Nat → Nat → Int32) := hvIt (zsub F (χ + 1)) (zsub F (χ + 19)) t (tMost F χ t).toNatClampNeg (zsub F (χ + 26))
def bgRec (W S : Nat → Nat → Int32) (i : Nat) : Nat → Nat → Int32 := va_up (wBegin W S 1) 2 (cAdd 20 (wBegin W S 1 2) (nI i) 1)
def bgStep (B S : Nat → Nat → Int32) (t n : Int32) (i : Nat) (s : Int32 × Int32 × (Nat → Nat → Int32)) : Int32 × Int32 × (Nat → Nat → Int32) :=
  if 99999 < cAt 20 (bgRec s.2.2 S i 2) (nI i) then (s.1, s.2.1, bgRec s.2.2 S i)
  else if wFul B (bgRec s.2.2 S i) t n 0 2 = 0 then (if s.1 ≤ wFul B (bgRec s.2.2 S i) t n 0 4 then (s.1, s.2.1, wFul B (bgRec s.2.2 S i) t n) else (wFul B (bgRec s.2.2 S i) t n 0 4, nI i, wFul B (bgRec s.2.2 S i) t n))
  else (s.1, s.2.1, wFul B (bgRec s.2.2 S i) t n)
def tBg (F : Nat → Nat → Int32) (χ : Nat) (t n : Int32) : Int32 × Int32 × (Nat → Nat → Int32) := it (bgStep (zsub F (χ + 1)) (zsub F (χ + 19)) t n) 20 (tFul F χ t n 0 4, -9, tFul F χ t n)
theorem z01 {p : Prop} [Decidable p] (h : (if p then (0 : Int32) else 1) = 0) : p := by
  by_cases hp : p
  · exact hp
  · rw [if_neg hp] at h
    exact absurd h (by decide)
theorem z01n {p : Prop} [Decidable p] (h : ¬ (if p then (0 : Int32) else 1) = 0) : ¬ p := fun hp => h (if_pos hp)
theorem z10 {p : Prop} [Decidable p] (h : (if p then (1 : Int32) else 0) = 0) : ¬ p := fun hp => absurd ((if_pos hp).symm.trans h) (by decide)
theorem z10n {p : Prop} [Decidable p] (h : ¬ (if p then (1 : Int32) else 0) = 0) : p := by
  by_cases hp : p
  · exact hp
  · exact absurd (if_neg hp) h
theorem zc0 {c : Int32} (h : c ≤ 0) : c.toNatClampNeg = 0 := by
  have h1 := Int32.le_iff_toInt_le.mp h
  have h2 : (0 : Int32).toInt = 0 := by decide
  have : c.toInt ≤ 0 := by omega
  show c.toInt.toNat = 0
  omega
theorem zcs {c : Int32} (h : ¬ c ≤ 0) : ∃ k, c = nI (k + 1) ∧ k + 1 < 2 ^ 31 := by
  have h1 : ¬ c < 0 := fun h2 => h (Int32.le_of_lt h2)
  obtain ⟨j, hj, rfl⟩ := nI_of h1
  cases j with
  | zero => exact absurd (by decide : (nI 0 : Int32) ≤ 0) h
  | succ k => exact ⟨k, rfl, hj⟩
theorem nI_dec (k : Nat) (h : k + 1 < 2 ^ 31) : nI (k + 1) + -1 = nI k := by
  have := pk_sub (a := k + 1) (b := 1) (by omega)
  rw [show (-1 : Int32) = -nI 1 by decide, ← Int32.sub_eq_add_neg]
  exact this
theorem bMadeSet_v {F : Nat → Nat → Int32} {β : Nat} {B : Nat → Nat → Int32} (h : zVw F β 9 B) : bMadeSet (zsub F β) = bMadeSet B := by
  unfold bMadeSet
  simp only [bMade_v h]

abbrev mX6_canHave : ZM := (cX6_canHave, RX6, wsX6_canHave, 42, 0, 0, (some .int), 6, yX6_canHave.name)
set_option maxHeartbeats 1000000 in
set_option maxRecDepth 100000 in
theorem c_X6_canHave_b {sh : zSh} {F : Nat → Nat → Int32} {P : Nat → Nat → Option Nat} {χ : Nat} {t : Int32} (hY : zSys sh P χ) (h : cIsThing t = 0) : zMet yX6_canHave wsX6_canHave (42) (0) (0) [.ref χ, .int t] sh F P (some (.int (-1))) sh F P := by
  refine zMet.of (by decide) rfl (Nat.le_of_ble_eq_true rfl) (by simp [Value.category]) ?_
  intro X ρ
  show AW mX6_canHave X (zMQ mX6_canHave X (some (.int (-1))) sh F P) 0 [some (.ref χ), some (.int t), none, none, none, none] [] ρ sh F P 0 0
  have hinX6 : ∀ w ∈ u_ws RX6 TX6 11, w ∈ wsX6_canHave := by decide +kernel
  have hinX4 : ∀ w ∈ u_ws RX4 TX4 7, w ∈ wsX6_canHave := by decide +kernel
  obtain ⟨⟨ts, tp0, tp1, tp2, tp3, tp4, tp5, tp6, tp7, ti, tx⟩, hB, hD, hS, hW, hH, hR, hPl, hIm⟩ := id hY
  have hb0 := hB.1
  have hd0 := hD.1
  obtain ⟨hs0, ⟨sp0, sp1, sp2, sp3, sp4, sp5⟩, sh1, sh2, sh3, sh4, sh5, sh6⟩ := id hS
  have hw0 := hW.1
  have hh0 := hH.1
  have hr0 := hR.1
  have wp0 := hW.2.1
  have hwb := hW.st
  refine aw_iload_1 dX6_canHave_0 ?_
  refine aw_run (zRun_S (c_X6_isThing ) (Or.inl gX6_canHave_X6_isThing) q_X6_isThing (by decide) rfl rfl (Nat.le_of_ble_eq_true rfl) dX6_canHave_1 ⟨Nat.le_refl _, Nat.le_refl _⟩) ?_
  refine aw_if_ne (tgt := 9) dX6_canHave_4 (by decide) (fun c4 => ?_) (fun c4 => ?_)
  · exact absurd h c4
  · refine aw_iconst (v := (-1)) dX6_canHave_7 (by decide) ?_
    exact aw_ireturn rfl dX6_canHave_8 ⟨Nat.zero_le _, Nat.zero_le _⟩ (by first | rfl | simp [c4]) rfl rfl rfl

set_option maxHeartbeats 1000000 in
set_option maxRecDepth 100000 in
theorem c_X6_canHave_n {sh : zSh} {F : Nat → Nat → Int32} {P : Nat → Nat → Option Nat} {χ : Nat} {t : Int32} (hY : zSys sh P χ) (ht : ¬ cIsThing t = 0) (h : bYield (zsub F (χ + 1)) t < 1) : zMet yX6_canHave wsX6_canHave (42) (0) (0) [.ref χ, .int t] sh F P (some (.int (tThere F χ t))) sh F P := by
  refine zMet.of (by decide) rfl (Nat.le_of_ble_eq_true rfl) (by simp [Value.category]) ?_
  intro X ρ
  show AW mX6_canHave X (zMQ mX6_canHave X (some (.int (tThere F χ t))) sh F P) 0 [some (.ref χ), some (.int t), none, none, none, none] [] ρ sh F P 0 0
  have hinX6 : ∀ w ∈ u_ws RX6 TX6 11, w ∈ wsX6_canHave := by decide +kernel
  have hinX4 : ∀ w ∈ u_ws RX4 TX4 7, w ∈ wsX6_canHave := by decide +kernel
  obtain ⟨⟨ts, tp0, tp1, tp2, tp3, tp4, tp5, tp6, tp7, ti, tx⟩, hB, hD, hS, hW, hH, hR, hPl, hIm⟩ := id hY
  have hb0 := hB.1
  have hd0 := hD.1
  obtain ⟨hs0, ⟨sp0, sp1, sp2, sp3, sp4, sp5⟩, sh1, sh2, sh3, sh4, sh5, sh6⟩ := id hS
  have hw0 := hW.1
  have hh0 := hH.1
  have hr0 := hR.1
  have wp0 := hW.2.1
  have hwb := hW.st
  refine aw_iload_1 dX6_canHave_0 ?_
  refine aw_run (zRun_S (c_X6_isThing ) (Or.inl gX6_canHave_X6_isThing) q_X6_isThing (by decide) rfl rfl (Nat.le_of_ble_eq_true rfl) dX6_canHave_1 ⟨Nat.le_refl _, Nat.le_refl _⟩) ?_
  refine aw_if_ne (tgt := 9) dX6_canHave_4 (by decide) (fun c4 => ?_) (fun c4 => absurd c4 ht)
  refine aw_aload_0 dX6_canHave_9 ?_
  refine aw_getR fX6_2 (fun _ _ => rfl) (by assumption) hinX6 (by decide +kernel : Cond.fieldLink RX6 22 RX6 (TX6 2).2.1 (TX6 2).2.2.1 ∈ wsX6_canHave) (by assumption) dX6_canHave_10 ?_
  refine aw_getRN (q := 0) fX4_0 (fun _ _ => rfl) (by assumption) hinX4 rfl (by assumption) dX6_canHave_13 ?_
  refine aw_iload_1 dX6_canHave_16 ?_
  refine aw_run (zRun_S (c_X6_at (by assumption) (by decide)) (Or.inl gX6_canHave_X6_at) q_X6_at (by decide) rfl rfl (Nat.le_of_ble_eq_true rfl) dX6_canHave_17 ⟨Nat.le_refl _, Nat.le_refl _⟩) ?_
  refine aw_sipush (v := 999) dX6_canHave_20 (by decide) ?_
  refine aw_min (by decide +kernel : Cond.methodLink RX6 231 Lib.Math.min.name ∈ wsX6_canHave) (by decide +kernel : Cond.static Lib.Math.min.name ∈ wsX6_canHave) (by decide +kernel : Cond.initialized "java/lang/Math" ∈ wsX6_canHave) (by decide +kernel : Cond.code Lib.Math.min.name Lib.Math.min.code 2 (some .int) ∈ wsX6_canHave) (Nat.le_of_ble_eq_true rfl) ⟨Nat.zero_le _, Nat.zero_le _⟩ dX6_canHave_23 ?_
  rw [show (if 999 < cAt 20 (F (χ + 20)) t then 999 else cAt 20 (F (χ + 20)) t) = tThere F χ t from rfl]
  refine aw_istore_2 dX6_canHave_26 ?_
  refine aw_aload_0 dX6_canHave_27 ?_
  refine aw_getR fX6_0 (fun _ _ => rfl) (by assumption) hinX6 (by decide +kernel : Cond.fieldLink RX6 10 RX6 (TX6 0).2.1 (TX6 0).2.2.1 ∈ wsX6_canHave) (by assumption) dX6_canHave_28 ?_
  refine aw_iload_1 dX6_canHave_31 ?_
  refine aw_run (zRun_V (c_X0_yieldOf (by assumption)) gX6_canHave_X0_yieldOf q_X0_yieldOf rfl (by decide) rfl (by assumption) rfl rfl (Nat.le_of_ble_eq_true rfl) dX6_canHave_32 ⟨Nat.le_refl _, Nat.le_refl _⟩) ?_
  refine aw_istore_3 dX6_canHave_35 ?_
  refine aw_iload_3 dX6_canHave_36 ?_
  refine aw_iconst (v := 1) dX6_canHave_37 (by decide) ?_
  refine aw_icmp_ge (tgt := 43) dX6_canHave_38 (by decide) (fun c38 => ?_) (fun c38 => ?_)
  · exact absurd h (Int32.not_lt.mpr c38)
  · refine aw_iload_2 dX6_canHave_41 ?_
    exact aw_ireturn rfl dX6_canHave_42 ⟨Nat.zero_le _, Nat.zero_le _⟩ (by first | rfl | simp [c4, c38]) rfl rfl rfl

set_option maxHeartbeats 1000000 in
set_option maxRecDepth 100000 in
theorem c_X6_canHave_o {sh : zSh} {F : Nat → Nat → Int32} {P : Nat → Nat → Option Nat} {χ : Nat} {t : Int32} (hY : zSys sh P χ) (ht : ¬ cIsThing t = 0) (h : ¬ bYield (zsub F (χ + 1)) t < 1) : zMet yX6_canHave wsX6_canHave (42) (0) (0) [.ref χ, .int t] sh F P (some (.int (hvRes (tThere F χ t) (bYield (zsub F (χ + 1)) t) (tHv F χ t).1))) sh (zput F (χ + 26) 8 (tHv F χ t).2) P := by
  refine zMet.of (by decide) rfl (Nat.le_of_ble_eq_true rfl) (by simp [Value.category]) ?_
  intro X ρ
  show AW mX6_canHave X (zMQ mX6_canHave X (some (.int (hvRes (tThere F χ t) (bYield (zsub F (χ + 1)) t) (tHv F χ t).1))) sh (zput F (χ + 26) 8 (tHv F χ t).2) P) 0 [some (.ref χ), some (.int t), none, none, none, none] [] ρ sh F P 0 0
  have hinX6 : ∀ w ∈ u_ws RX6 TX6 11, w ∈ wsX6_canHave := by decide +kernel
  have hinX4 : ∀ w ∈ u_ws RX4 TX4 7, w ∈ wsX6_canHave := by decide +kernel
  obtain ⟨⟨ts, tp0, tp1, tp2, tp3, tp4, tp5, tp6, tp7, ti, tx⟩, hB, hD, hS, hW, hH, hR, hPl, hIm⟩ := id hY
  have hb0 := hB.1
  have hd0 := hD.1
  obtain ⟨hs0, ⟨sp0, sp1, sp2, sp3, sp4, sp5⟩, sh1, sh2, sh3, sh4, sh5, sh6⟩ := id hS
  have hw0 := hW.1
  have hh0 := hH.1
  have hr0 := hR.1
  have wp0 := hW.2.1
  have hwb := hW.st
  have L64 : ∀ (m : Nat) (c : Int32) (W' : Nat → Nat → Int32), c.toNatClampNeg = m → tHv F χ t = hvIt (zsub F (χ + 1)) (zsub F (χ + 19)) t m W' → AW mX6_canHave X (zMQ mX6_canHave X (some (.int (hvRes (tThere F χ t) (bYield (zsub F (χ + 1)) t) (tHv F χ t).1))) sh (zput F (χ + 26) 8 (tHv F χ t).2) P) 64 [some (.ref χ), some (.int t), some (.int (tThere F χ t)), some (.int (bYield (zsub F (χ + 1)) t)), some (.int (tMost F χ t)), some (.int c)] [] ρ sh (zput F (χ + 26) 8 W') P 0 0 := by
    intro m
    induction m using Nat.strongRecOn with
    | _ m ih =>
    intro c W' hm hst
    refine aw_iload_5 dX6_canHave_64 ?_
    refine aw_if_le (tgt := 117) dX6_canHave_66 (by decide) (fun c66 => ?_) (fun c66 => ?_)
    · refine aw_iload_2 dX6_canHave_117 ?_
      exact aw_ireturn rfl dX6_canHave_118 ⟨Nat.zero_le _, Nat.zero_le _⟩ (by rw [zc0 c66] at hm; subst hm; rw [hst]; rfl) rfl (by rw [zc0 c66] at hm; subst hm; rw [hst]; rfl) rfl
    · obtain ⟨k, rfl, hk⟩ := zcs c66
      rw [nI_clamp hk] at hm
      subst hm
      refine aw_aload_0 dX6_canHave_69 ?_
      refine aw_getR fX6_3 (fun _ _ => rfl) (by assumption) hinX6 (by decide +kernel : Cond.fieldLink RX6 29 RX6 (TX6 3).2.1 (TX6 3).2.2.1 ∈ wsX6_canHave) (by assumption) dX6_canHave_70 ?_
      refine aw_aload_0 dX6_canHave_73 ?_
      refine aw_getR fX6_2 (fun _ _ => rfl) (by assumption) hinX6 (by decide +kernel : Cond.fieldLink RX6 22 RX6 (TX6 2).2.1 (TX6 2).2.2.1 ∈ wsX6_canHave) (by assumption) dX6_canHave_74 ?_
      refine aw_iconst (v := 0) dX6_canHave_77 (by decide) ?_
      refine aw_runv (zRun_V (c_X5_begin hW zVw.put hS (zVw.self.out (by omega)) (by omega) (Or.inl rfl)) gX6_canHave_X5_begin q_X5_begin rfl (by decide) rfl (by assumption) rfl rfl (Nat.le_of_ble_eq_true rfl) dX6_canHave_78 ⟨Nat.le_refl _, Nat.le_refl _⟩) ?_
      rw [zput_zput]
      refine aw_aload_0 dX6_canHave_81 ?_
      refine aw_getR fX6_3 (fun _ _ => rfl) (by assumption) hinX6 (by decide +kernel : Cond.fieldLink RX6 29 RX6 (TX6 3).2.1 (TX6 3).2.2.1 ∈ wsX6_canHave) (by assumption) dX6_canHave_82 ?_
      refine aw_aload_0 dX6_canHave_85 ?_
      refine aw_getR fX6_0 (fun _ _ => rfl) (by assumption) hinX6 (by decide +kernel : Cond.fieldLink RX6 10 RX6 (TX6 0).2.1 (TX6 0).2.2.1 ∈ wsX6_canHave) (by assumption) dX6_canHave_86 ?_
      refine aw_iload_1 dX6_canHave_89 ?_
      refine aw_iload_5 dX6_canHave_90 ?_
      refine aw_run (zRun_V (c_X5_runAll hW zVw.put hB (zVw.self.out (by omega)) (by omega)) gX6_canHave_X5_runAll q_X5_runAll rfl (by decide) rfl (by assumption) rfl rfl (Nat.le_of_ble_eq_true rfl) dX6_canHave_92 ⟨Nat.le_refl _, Nat.le_refl _⟩) ?_
      rw [zput_zput]
      refine aw_if_eq (tgt := 111) dX6_canHave_95 (by decide) (fun c95 => ?_) (fun c95 => ?_)
      · refine aw_iinc_5 (v := (-1)) (by decide) dX6_canHave_111 ?_
        refine aw_goto (tgt := 64) dX6_canHave_114 (by decide) ?_
        rw [nI_dec _ hk]
        exact ih k (by omega) _ _ (nI_clamp (by omega)) (by rw [hst]; exact if_neg (z10 c95))
      · refine aw_iload_2 dX6_canHave_98 ?_
        refine aw_iload_3 dX6_canHave_99 ?_
        refine aw_iload_5 dX6_canHave_100 ?_
        refine aw_imul dX6_canHave_102 ?_
        refine aw_iadd dX6_canHave_103 ?_
        refine aw_sipush (v := 999) dX6_canHave_104 (by decide) ?_
        refine aw_min (by decide +kernel : Cond.methodLink RX6 231 Lib.Math.min.name ∈ wsX6_canHave) (by decide +kernel : Cond.static Lib.Math.min.name ∈ wsX6_canHave) (by decide +kernel : Cond.initialized "java/lang/Math" ∈ wsX6_canHave) (by decide +kernel : Cond.code Lib.Math.min.name Lib.Math.min.code 2 (some .int) ∈ wsX6_canHave) (Nat.le_of_ble_eq_true rfl) ⟨Nat.zero_le _, Nat.zero_le _⟩ dX6_canHave_107 ?_
        exact aw_ireturn rfl dX6_canHave_110 ⟨Nat.zero_le _, Nat.zero_le _⟩ (by rw [hst]; unfold hvIt; rw [if_pos (z10n c95)]; rfl) rfl (by rw [hst]; unfold hvIt; rw [if_pos (z10n c95)]) rfl
  refine aw_iload_1 dX6_canHave_0 ?_
  refine aw_run (zRun_S (c_X6_isThing ) (Or.inl gX6_canHave_X6_isThing) q_X6_isThing (by decide) rfl rfl (Nat.le_of_ble_eq_true rfl) dX6_canHave_1 ⟨Nat.le_refl _, Nat.le_refl _⟩) ?_
  refine aw_if_ne (tgt := 9) dX6_canHave_4 (by decide) (fun c4 => ?_) (fun c4 => absurd c4 ht)
  refine aw_aload_0 dX6_canHave_9 ?_
  refine aw_getR fX6_2 (fun _ _ => rfl) (by assumption) hinX6 (by decide +kernel : Cond.fieldLink RX6 22 RX6 (TX6 2).2.1 (TX6 2).2.2.1 ∈ wsX6_canHave) (by assumption) dX6_canHave_10 ?_
  refine aw_getRN (q := 0) fX4_0 (fun _ _ => rfl) (by assumption) hinX4 rfl (by assumption) dX6_canHave_13 ?_
  refine aw_iload_1 dX6_canHave_16 ?_
  refine aw_run (zRun_S (c_X6_at (by assumption) (by decide)) (Or.inl gX6_canHave_X6_at) q_X6_at (by decide) rfl rfl (Nat.le_of_ble_eq_true rfl) dX6_canHave_17 ⟨Nat.le_refl _, Nat.le_refl _⟩) ?_
  refine aw_sipush (v := 999) dX6_canHave_20 (by decide) ?_
  refine aw_min (by decide +kernel : Cond.methodLink RX6 231 Lib.Math.min.name ∈ wsX6_canHave) (by decide +kernel : Cond.static Lib.Math.min.name ∈ wsX6_canHave) (by decide +kernel : Cond.initialized "java/lang/Math" ∈ wsX6_canHave) (by decide +kernel : Cond.code Lib.Math.min.name Lib.Math.min.code 2 (some .int) ∈ wsX6_canHave) (Nat.le_of_ble_eq_true rfl) ⟨Nat.zero_le _, Nat.zero_le _⟩ dX6_canHave_23 ?_
  rw [show (if 999 < cAt 20 (F (χ + 20)) t then 999 else cAt 20 (F (χ + 20)) t) = tThere F χ t from rfl]
  refine aw_istore_2 dX6_canHave_26 ?_
  refine aw_aload_0 dX6_canHave_27 ?_
  refine aw_getR fX6_0 (fun _ _ => rfl) (by assumption) hinX6 (by decide +kernel : Cond.fieldLink RX6 10 RX6 (TX6 0).2.1 (TX6 0).2.2.1 ∈ wsX6_canHave) (by assumption) dX6_canHave_28 ?_
  refine aw_iload_1 dX6_canHave_31 ?_
  refine aw_run (zRun_V (c_X0_yieldOf (by assumption)) gX6_canHave_X0_yieldOf q_X0_yieldOf rfl (by decide) rfl (by assumption) rfl rfl (Nat.le_of_ble_eq_true rfl) dX6_canHave_32 ⟨Nat.le_refl _, Nat.le_refl _⟩) ?_
  refine aw_istore_3 dX6_canHave_35 ?_
  refine aw_iload_3 dX6_canHave_36 ?_
  refine aw_iconst (v := 1) dX6_canHave_37 (by decide) ?_
  refine aw_icmp_ge (tgt := 43) dX6_canHave_38 (by decide) (fun c38 => ?_) (fun c38 => ?_)
  · refine aw_sipush (v := 999) dX6_canHave_43 (by decide) ?_
    refine aw_iload_2 dX6_canHave_46 ?_
    refine aw_isub dX6_canHave_47 ?_
    refine aw_iload_3 dX6_canHave_48 ?_
    refine aw_run (zRun_S (c_X6_divideUp ) (Or.inl gX6_canHave_X6_divideUp) q_X6_divideUp (by decide) rfl rfl (Nat.le_of_ble_eq_true rfl) dX6_canHave_49 ⟨Nat.le_refl _, Nat.le_refl _⟩) ?_
    refine aw_sipush (v := 500) dX6_canHave_52 (by decide) ?_
    refine aw_min (by decide +kernel : Cond.methodLink RX6 231 Lib.Math.min.name ∈ wsX6_canHave) (by decide +kernel : Cond.static Lib.Math.min.name ∈ wsX6_canHave) (by decide +kernel : Cond.initialized "java/lang/Math" ∈ wsX6_canHave) (by decide +kernel : Cond.code Lib.Math.min.name Lib.Math.min.code 2 (some .int) ∈ wsX6_canHave) (Nat.le_of_ble_eq_true rfl) ⟨Nat.zero_le _, Nat.zero_le _⟩ dX6_canHave_55 ?_
    rw [show (if 500 < cDivUp (999 - tThere F χ t) (bYield (zsub F (χ + 1)) t) then 500 else cDivUp (999 - tThere F χ t) (bYield (zsub F (χ + 1)) t)) = tMost F χ t from rfl]
    refine aw_istore_4 dX6_canHave_58 ?_
    refine aw_iload_4 dX6_canHave_60 ?_
    refine aw_istore_5 dX6_canHave_62 ?_
    refine aw_cF (F' := zput F (χ + 26) 8 (zsub F (χ + 26))) zput_id.symm ?_
    exact L64 _ _ _ rfl rfl
  · exact absurd (Int32.not_le.mp c38) h

abbrev mX6_bestGift : ZM := (cX6_bestGift, RX6, wsX6_bestGift, 42, 0, 0, (some .int), 6, yX6_bestGift.name)
set_option maxHeartbeats 1000000 in
set_option maxRecDepth 100000 in
theorem c_X6_bestGift_b {sh : zSh} {F : Nat → Nat → Int32} {P : Nat → Nat → Option Nat} {χ : Nat} {t n : Int32} (hY : zSys sh P χ) (h : cIsThing t = 0 ∨ cIsWished n = 0) : zMet yX6_bestGift wsX6_bestGift (42) (0) (0) [.ref χ, .int t, .int n] sh F P (some (.int (-1))) sh F P := by
  refine zMet.of (by decide) rfl (Nat.le_of_ble_eq_true rfl) (by simp [Value.category]) ?_
  intro X ρ
  show AW mX6_bestGift X (zMQ mX6_bestGift X (some (.int (-1))) sh F P) 0 [some (.ref χ), some (.int t), some (.int n), none, none, none] [] ρ sh F P 0 0
  have hinX6 : ∀ w ∈ u_ws RX6 TX6 11, w ∈ wsX6_bestGift := by decide +kernel
  obtain ⟨⟨ts, tp0, tp1, tp2, tp3, tp4, tp5, tp6, tp7, ti, tx⟩, hB, hD, hS, hW, hH, hR, hPl, hIm⟩ := id hY
  have hb0 := hB.1
  have hd0 := hD.1
  obtain ⟨hs0, ⟨sp0, sp1, sp2, sp3, sp4, sp5⟩, sh1, sh2, sh3, sh4, sh5, sh6⟩ := id hS
  have hw0 := hW.1
  have hh0 := hH.1
  have hr0 := hR.1
  have wp0 := hW.2.1
  have hwb := hW.st
  refine aw_iload_1 dX6_bestGift_0 ?_
  refine aw_run (zRun_S (c_X6_isThing ) (Or.inl gX6_bestGift_X6_isThing) q_X6_isThing (by decide) rfl rfl (Nat.le_of_ble_eq_true rfl) dX6_bestGift_1 ⟨Nat.le_refl _, Nat.le_refl _⟩) ?_
  refine aw_if_eq (tgt := 14) dX6_bestGift_4 (by decide) (fun c4 => ?_) (fun c4 => ?_)
  · refine aw_iconst (v := (-1)) dX6_bestGift_14 (by decide) ?_
    exact aw_ireturn rfl dX6_bestGift_15 ⟨Nat.zero_le _, Nat.zero_le _⟩ (by first | rfl | simp [c4]) rfl rfl rfl
  · refine aw_iload_2 dX6_bestGift_7 ?_
    refine aw_run (zRun_S (c_X6_isWished ) (Or.inl gX6_bestGift_X6_isWished) q_X6_isWished (by decide) rfl rfl (Nat.le_of_ble_eq_true rfl) dX6_bestGift_8 ⟨Nat.le_refl _, Nat.le_refl _⟩) ?_
    refine aw_if_ne (tgt := 16) dX6_bestGift_11 (by decide) (fun c11 => ?_) (fun c11 => ?_)
    · exact absurd h (by simp [c4, c11])
    · refine aw_iconst (v := (-1)) dX6_bestGift_14 (by decide) ?_
      exact aw_ireturn rfl dX6_bestGift_15 ⟨Nat.zero_le _, Nat.zero_le _⟩ (by first | rfl | simp [c4, c11]) rfl rfl rfl

set_option maxHeartbeats 1000000 in
set_option maxRecDepth 100000 in
theorem c_X6_bestGift_f {sh : zSh} {F : Nat → Nat → Int32} {P : Nat → Nat → Option Nat} {χ : Nat} {t n : Int32} (hY : zSys sh P χ) (ht : ¬ cIsThing t = 0) (hn : ¬ cIsWished n = 0) (h : ¬ tFul F χ t n 0 2 = 0) : zMet yX6_bestGift wsX6_bestGift (42) (0) (0) [.ref χ, .int t, .int n] sh F P (some (.int (-3))) sh (zput F (χ + 26) 8 (tFul F χ t n)) P := by
  refine zMet.of (by decide) rfl (Nat.le_of_ble_eq_true rfl) (by simp [Value.category]) ?_
  intro X ρ
  show AW mX6_bestGift X (zMQ mX6_bestGift X (some (.int (-3))) sh (zput F (χ + 26) 8 (tFul F χ t n)) P) 0 [some (.ref χ), some (.int t), some (.int n), none, none, none] [] ρ sh F P 0 0
  have hinX6 : ∀ w ∈ u_ws RX6 TX6 11, w ∈ wsX6_bestGift := by decide +kernel
  obtain ⟨⟨ts, tp0, tp1, tp2, tp3, tp4, tp5, tp6, tp7, ti, tx⟩, hB, hD, hS, hW, hH, hR, hPl, hIm⟩ := id hY
  have hb0 := hB.1
  have hd0 := hD.1
  obtain ⟨hs0, ⟨sp0, sp1, sp2, sp3, sp4, sp5⟩, sh1, sh2, sh3, sh4, sh5, sh6⟩ := id hS
  have hw0 := hW.1
  have hh0 := hH.1
  have hr0 := hR.1
  have wp0 := hW.2.1
  have hwb := hW.st
  refine aw_iload_1 dX6_bestGift_0 ?_
  refine aw_run (zRun_S (c_X6_isThing ) (Or.inl gX6_bestGift_X6_isThing) q_X6_isThing (by decide) rfl rfl (Nat.le_of_ble_eq_true rfl) dX6_bestGift_1 ⟨Nat.le_refl _, Nat.le_refl _⟩) ?_
  refine aw_if_eq (tgt := 14) dX6_bestGift_4 (by decide) (fun c4 => absurd c4 ht) (fun c4 => ?_)
  refine aw_iload_2 dX6_bestGift_7 ?_
  refine aw_run (zRun_S (c_X6_isWished ) (Or.inl gX6_bestGift_X6_isWished) q_X6_isWished (by decide) rfl rfl (Nat.le_of_ble_eq_true rfl) dX6_bestGift_8 ⟨Nat.le_refl _, Nat.le_refl _⟩) ?_
  refine aw_if_ne (tgt := 16) dX6_bestGift_11 (by decide) (fun c11 => ?_) (fun c11 => absurd c11 hn)
  refine aw_aload_0 dX6_bestGift_16 ?_
  refine aw_getR fX6_3 (fun _ _ => rfl) (by assumption) hinX6 (by decide +kernel : Cond.fieldLink RX6 29 RX6 (TX6 3).2.1 (TX6 3).2.2.1 ∈ wsX6_bestGift) (by assumption) dX6_bestGift_17 ?_
  refine aw_aload_0 dX6_bestGift_20 ?_
  refine aw_getR fX6_2 (fun _ _ => rfl) (by assumption) hinX6 (by decide +kernel : Cond.fieldLink RX6 22 RX6 (TX6 2).2.1 (TX6 2).2.2.1 ∈ wsX6_bestGift) (by assumption) dX6_bestGift_21 ?_
  refine aw_iconst (v := 1) dX6_bestGift_24 (by decide) ?_
  refine aw_runv (zRun_V (c_X5_begin hW zVw.self hS zVw.self (by omega) (Or.inr rfl)) gX6_bestGift_X5_begin q_X5_begin rfl (by decide) rfl (by assumption) rfl rfl (Nat.le_of_ble_eq_true rfl) dX6_bestGift_25 ⟨Nat.le_refl _, Nat.le_refl _⟩) ?_
  refine aw_aload_0 dX6_bestGift_28 ?_
  refine aw_getR fX6_3 (fun _ _ => rfl) (by assumption) hinX6 (by decide +kernel : Cond.fieldLink RX6 29 RX6 (TX6 3).2.1 (TX6 3).2.2.1 ∈ wsX6_bestGift) (by assumption) dX6_bestGift_29 ?_
  refine aw_aload_0 dX6_bestGift_32 ?_
  refine aw_getR fX6_0 (fun _ _ => rfl) (by assumption) hinX6 (by decide +kernel : Cond.fieldLink RX6 10 RX6 (TX6 0).2.1 (TX6 0).2.2.1 ∈ wsX6_bestGift) (by assumption) dX6_bestGift_33 ?_
  refine aw_iload_1 dX6_bestGift_36 ?_
  refine aw_iload_2 dX6_bestGift_37 ?_
  refine aw_run (zRun_V (c_X5_fulfil hW zVw.put hB (zVw.self.out (by omega)) (by omega)) gX6_bestGift_X5_fulfil q_X5_fulfil rfl (by decide) rfl (by assumption) rfl rfl (Nat.le_of_ble_eq_true rfl) dX6_bestGift_38 ⟨Nat.le_refl _, Nat.le_refl _⟩) ?_
  rw [zput_zput, show wFul (zsub F (χ + 1)) (wBegin (zsub F (χ + 26)) (zsub F (χ + 19)) 1) t n = tFul F χ t n from rfl]
  refine aw_if_ne (tgt := 47) dX6_bestGift_41 (by decide) (fun c41 => ?_) (fun c41 => ?_)
  · exact absurd (by simpa using c41) h
  · refine aw_bipush (v := (-3)) dX6_bestGift_44 (by decide) ?_
    exact aw_ireturn rfl dX6_bestGift_46 ⟨Nat.zero_le _, Nat.zero_le _⟩ (by first | rfl | simp [c4, c11, c41]) rfl rfl rfl

set_option maxHeartbeats 1000000 in
set_option maxRecDepth 100000 in
theorem c_X6_bestGift_o {sh : zSh} {F : Nat → Nat → Int32} {P : Nat → Nat → Option Nat} {χ : Nat} {t n : Int32} (hY : zSys sh P χ) (ht : ¬ cIsThing t = 0) (hn : ¬ cIsWished n = 0) (h : tFul F χ t n 0 2 = 0) : zMet yX6_bestGift wsX6_bestGift (42) (0) (0) [.ref χ, .int t, .int n] sh F P (some (.int (tBg F χ t n).2.1)) sh (zput F (χ + 26) 8 (tBg F χ t n).2.2) P := by
  refine zMet.of (by decide) rfl (Nat.le_of_ble_eq_true rfl) (by simp [Value.category]) ?_
  intro X ρ
  show AW mX6_bestGift X (zMQ mX6_bestGift X (some (.int (tBg F χ t n).2.1)) sh (zput F (χ + 26) 8 (tBg F χ t n).2.2) P) 0 [some (.ref χ), some (.int t), some (.int n), none, none, none] [] ρ sh F P 0 0
  have hinX6 : ∀ w ∈ u_ws RX6 TX6 11, w ∈ wsX6_bestGift := by decide +kernel
  obtain ⟨⟨ts, tp0, tp1, tp2, tp3, tp4, tp5, tp6, tp7, ti, tx⟩, hB, hD, hS, hW, hH, hR, hPl, hIm⟩ := id hY
  have hb0 := hB.1
  have hd0 := hD.1
  obtain ⟨hs0, ⟨sp0, sp1, sp2, sp3, sp4, sp5⟩, sh1, sh2, sh3, sh4, sh5, sh6⟩ := id hS
  have hw0 := hW.1
  have hh0 := hH.1
  have hr0 := hR.1
  have wp0 := hW.2.1
  have hwb := hW.st
  have L62 : ∀ (m i : Nat) (l b : Int32) (W' : Nat → Nat → Int32), i ≤ 20 → 20 - i = m → it (bgStep (zsub F (χ + 1)) (zsub F (χ + 19)) t n) i (tFul F χ t n 0 4, -9, tFul F χ t n) = (l, b, W') → AW mX6_bestGift X (zMQ mX6_bestGift X (some (.int (tBg F χ t n).2.1)) sh (zput F (χ + 26) 8 (tBg F χ t n).2.2) P) 62 [some (.ref χ), some (.int t), some (.int n), some (.int l), some (.int b), some (.int (nI i))] [] ρ sh (zput F (χ + 26) 8 W') P 0 0 := by
    intro m
    induction m using Nat.strongRecOn with
    | _ m ih =>
    intro i l b W' hi hm hst
    refine aw_iload_5 dX6_bestGift_62 ?_
    refine aw_bipush (v := 20) dX6_bestGift_64 (by decide) ?_
    refine aw_icmp_ge (tgt := 138) dX6_bestGift_66 (by decide) (fun c66 => ?_) (fun c66 => ?_)
    · refine aw_iload_4 dX6_bestGift_138 ?_
      exact aw_ireturn rfl dX6_bestGift_140 ⟨Nat.zero_le _, Nat.zero_le _⟩ (by rw [zend (n := 20) hi (by decide) c66] at hst; unfold tBg; rw [hst]) rfl (by rw [zend (n := 20) hi (by decide) c66] at hst; unfold tBg; rw [hst]) rfl
    · have hlt : i < 20 := zlt (n := 20) hi (by decide) c66
      refine aw_aload_0 dX6_bestGift_69 ?_
      refine aw_getR fX6_3 (fun _ _ => rfl) (by assumption) hinX6 (by decide +kernel : Cond.fieldLink RX6 29 RX6 (TX6 3).2.1 (TX6 3).2.2.1 ∈ wsX6_bestGift) (by assumption) dX6_bestGift_70 ?_
      refine aw_aload_0 dX6_bestGift_73 ?_
      refine aw_getR fX6_2 (fun _ _ => rfl) (by assumption) hinX6 (by decide +kernel : Cond.fieldLink RX6 22 RX6 (TX6 2).2.1 (TX6 2).2.2.1 ∈ wsX6_bestGift) (by assumption) dX6_bestGift_74 ?_
      refine aw_iconst (v := 1) dX6_bestGift_77 (by decide) ?_
      refine aw_runv (zRun_V (c_X5_begin hW zVw.put hS (zVw.self.out (by omega)) (by omega) (Or.inr rfl)) gX6_bestGift_X5_begin q_X5_begin rfl (by decide) rfl (by assumption) rfl rfl (Nat.le_of_ble_eq_true rfl) dX6_bestGift_78 ⟨Nat.le_refl _, Nat.le_refl _⟩) ?_
      rw [zput_zput]
      refine aw_aload_0 dX6_bestGift_81 ?_
      refine aw_getR fX6_3 (fun _ _ => rfl) (by assumption) hinX6 (by decide +kernel : Cond.fieldLink RX6 29 RX6 (TX6 3).2.1 (TX6 3).2.2.1 ∈ wsX6_bestGift) (by assumption) dX6_bestGift_82 ?_
      refine aw_iload_5 dX6_bestGift_85 ?_
      refine aw_run (zRun_V (c_X5_receive hW zVw.put) gX6_bestGift_X5_receive q_X5_receive rfl (by decide) rfl (by assumption) rfl rfl (Nat.le_of_ble_eq_true rfl) dX6_bestGift_87 ⟨Nat.le_refl _, Nat.le_refl _⟩) ?_
      rw [zput_zput, show va_up (wBegin W' (zsub F (χ + 19)) 1) 2 (cAdd 20 (wBegin W' (zsub F (χ + 19)) 1 2) (nI i) 1) = bgRec W' (zsub F (χ + 19)) i from rfl, show cAdd 20 (wBegin W' (zsub F (χ + 19)) 1 2) (nI i) 1 = bgRec W' (zsub F (χ + 19)) i 2 from rfl]
      refine aw_if_eq (tgt := 132) dX6_bestGift_90 (by decide) (fun c90 => ?_) (fun c90 => ?_)
      · refine aw_iinc_5 (v := 1) (by decide) dX6_bestGift_132 ?_
        refine aw_goto (tgt := 62) dX6_bestGift_135 (by decide) ?_
        rw [nI_1]
        exact ih (20 - (i + 1)) (by omega) (i + 1) _ _ _ (by omega) rfl (by show bgStep (zsub F (χ + 1)) (zsub F (χ + 19)) t n i (it _ i _) = _; rw [hst]; unfold bgStep; rw [if_pos (z01 c90)])
      · refine aw_aload_0 dX6_bestGift_93 ?_
        refine aw_getR fX6_3 (fun _ _ => rfl) (by assumption) hinX6 (by decide +kernel : Cond.fieldLink RX6 29 RX6 (TX6 3).2.1 (TX6 3).2.2.1 ∈ wsX6_bestGift) (by assumption) dX6_bestGift_94 ?_
        refine aw_aload_0 dX6_bestGift_97 ?_
        refine aw_getR fX6_0 (fun _ _ => rfl) (by assumption) hinX6 (by decide +kernel : Cond.fieldLink RX6 10 RX6 (TX6 0).2.1 (TX6 0).2.2.1 ∈ wsX6_bestGift) (by assumption) dX6_bestGift_98 ?_
        refine aw_iload_1 dX6_bestGift_101 ?_
        refine aw_iload_2 dX6_bestGift_102 ?_
        refine aw_run (zRun_V (c_X5_fulfil hW zVw.put hB (zVw.self.out (by omega)) (by omega)) gX6_bestGift_X5_fulfil q_X5_fulfil rfl (by decide) rfl (by assumption) rfl rfl (Nat.le_of_ble_eq_true rfl) dX6_bestGift_103 ⟨Nat.le_refl _, Nat.le_refl _⟩) ?_
        rw [zput_zput]
        refine aw_if_eq (tgt := 132) dX6_bestGift_106 (by decide) (fun c106 => ?_) (fun c106 => ?_)
        · refine aw_iinc_5 (v := 1) (by decide) dX6_bestGift_132 ?_
          refine aw_goto (tgt := 62) dX6_bestGift_135 (by decide) ?_
          rw [nI_1]
          exact ih (20 - (i + 1)) (by omega) (i + 1) _ _ _ (by omega) rfl (by show bgStep (zsub F (χ + 1)) (zsub F (χ + 19)) t n i (it _ i _) = _; rw [hst]; unfold bgStep; rw [if_neg (z01n c90), if_neg (z10 c106)])
        · refine aw_aload_0 dX6_bestGift_109 ?_
          refine aw_getR fX6_3 (fun _ _ => rfl) (by assumption) hinX6 (by decide +kernel : Cond.fieldLink RX6 29 RX6 (TX6 3).2.1 (TX6 3).2.2.1 ∈ wsX6_bestGift) (by assumption) dX6_bestGift_110 ?_
          refine aw_run (zRun_V (c_X5_gathered hW zVw.put) gX6_bestGift_X5_gathered q_X5_gathered rfl (by decide) rfl (by assumption) rfl rfl (Nat.le_of_ble_eq_true rfl) dX6_bestGift_113 ⟨Nat.le_refl _, Nat.le_refl _⟩) ?_
          refine aw_iload_3 dX6_bestGift_116 ?_
          refine aw_icmp_ge (tgt := 132) dX6_bestGift_117 (by decide) (fun c117 => ?_) (fun c117 => ?_)
          · refine aw_iinc_5 (v := 1) (by decide) dX6_bestGift_132 ?_
            refine aw_goto (tgt := 62) dX6_bestGift_135 (by decide) ?_
            rw [nI_1]
            exact ih (20 - (i + 1)) (by omega) (i + 1) _ _ _ (by omega) rfl (by show bgStep (zsub F (χ + 1)) (zsub F (χ + 19)) t n i (it _ i _) = _; rw [hst]; unfold bgStep; rw [if_neg (z01n c90), if_pos (z10n c106), if_pos c117])
          · refine aw_aload_0 dX6_bestGift_120 ?_
            refine aw_getR fX6_3 (fun _ _ => rfl) (by assumption) hinX6 (by decide +kernel : Cond.fieldLink RX6 29 RX6 (TX6 3).2.1 (TX6 3).2.2.1 ∈ wsX6_bestGift) (by assumption) dX6_bestGift_121 ?_
            refine aw_run (zRun_V (c_X5_gathered hW zVw.put) gX6_bestGift_X5_gathered q_X5_gathered rfl (by decide) rfl (by assumption) rfl rfl (Nat.le_of_ble_eq_true rfl) dX6_bestGift_124 ⟨Nat.le_refl _, Nat.le_refl _⟩) ?_
            refine aw_istore_3 dX6_bestGift_127 ?_
            refine aw_iload_5 dX6_bestGift_128 ?_
            refine aw_istore_4 dX6_bestGift_130 ?_
            refine aw_iinc_5 (v := 1) (by decide) dX6_bestGift_132 ?_
            refine aw_goto (tgt := 62) dX6_bestGift_135 (by decide) ?_
            rw [nI_1]
            exact ih (20 - (i + 1)) (by omega) (i + 1) _ _ _ (by omega) rfl (by show bgStep (zsub F (χ + 1)) (zsub F (χ + 19)) t n i (it _ i _) = _; rw [hst]; unfold bgStep; rw [if_neg (z01n c90), if_pos (z10n c106), if_neg c117])
  refine aw_iload_1 dX6_bestGift_0 ?_
  refine aw_run (zRun_S (c_X6_isThing ) (Or.inl gX6_bestGift_X6_isThing) q_X6_isThing (by decide) rfl rfl (Nat.le_of_ble_eq_true rfl) dX6_bestGift_1 ⟨Nat.le_refl _, Nat.le_refl _⟩) ?_
  refine aw_if_eq (tgt := 14) dX6_bestGift_4 (by decide) (fun c4 => absurd c4 ht) (fun c4 => ?_)
  refine aw_iload_2 dX6_bestGift_7 ?_
  refine aw_run (zRun_S (c_X6_isWished ) (Or.inl gX6_bestGift_X6_isWished) q_X6_isWished (by decide) rfl rfl (Nat.le_of_ble_eq_true rfl) dX6_bestGift_8 ⟨Nat.le_refl _, Nat.le_refl _⟩) ?_
  refine aw_if_ne (tgt := 16) dX6_bestGift_11 (by decide) (fun c11 => ?_) (fun c11 => absurd c11 hn)
  refine aw_aload_0 dX6_bestGift_16 ?_
  refine aw_getR fX6_3 (fun _ _ => rfl) (by assumption) hinX6 (by decide +kernel : Cond.fieldLink RX6 29 RX6 (TX6 3).2.1 (TX6 3).2.2.1 ∈ wsX6_bestGift) (by assumption) dX6_bestGift_17 ?_
  refine aw_aload_0 dX6_bestGift_20 ?_
  refine aw_getR fX6_2 (fun _ _ => rfl) (by assumption) hinX6 (by decide +kernel : Cond.fieldLink RX6 22 RX6 (TX6 2).2.1 (TX6 2).2.2.1 ∈ wsX6_bestGift) (by assumption) dX6_bestGift_21 ?_
  refine aw_iconst (v := 1) dX6_bestGift_24 (by decide) ?_
  refine aw_runv (zRun_V (c_X5_begin hW zVw.self hS zVw.self (by omega) (Or.inr rfl)) gX6_bestGift_X5_begin q_X5_begin rfl (by decide) rfl (by assumption) rfl rfl (Nat.le_of_ble_eq_true rfl) dX6_bestGift_25 ⟨Nat.le_refl _, Nat.le_refl _⟩) ?_
  refine aw_aload_0 dX6_bestGift_28 ?_
  refine aw_getR fX6_3 (fun _ _ => rfl) (by assumption) hinX6 (by decide +kernel : Cond.fieldLink RX6 29 RX6 (TX6 3).2.1 (TX6 3).2.2.1 ∈ wsX6_bestGift) (by assumption) dX6_bestGift_29 ?_
  refine aw_aload_0 dX6_bestGift_32 ?_
  refine aw_getR fX6_0 (fun _ _ => rfl) (by assumption) hinX6 (by decide +kernel : Cond.fieldLink RX6 10 RX6 (TX6 0).2.1 (TX6 0).2.2.1 ∈ wsX6_bestGift) (by assumption) dX6_bestGift_33 ?_
  refine aw_iload_1 dX6_bestGift_36 ?_
  refine aw_iload_2 dX6_bestGift_37 ?_
  refine aw_run (zRun_V (c_X5_fulfil hW zVw.put hB (zVw.self.out (by omega)) (by omega)) gX6_bestGift_X5_fulfil q_X5_fulfil rfl (by decide) rfl (by assumption) rfl rfl (Nat.le_of_ble_eq_true rfl) dX6_bestGift_38 ⟨Nat.le_refl _, Nat.le_refl _⟩) ?_
  rw [zput_zput, show wFul (zsub F (χ + 1)) (wBegin (zsub F (χ + 26)) (zsub F (χ + 19)) 1) t n = tFul F χ t n from rfl]
  refine aw_if_ne (tgt := 47) dX6_bestGift_41 (by decide) (fun c41 => ?_) (fun c41 => ?_)
  · refine aw_aload_0 dX6_bestGift_47 ?_
    refine aw_getR fX6_3 (fun _ _ => rfl) (by assumption) hinX6 (by decide +kernel : Cond.fieldLink RX6 29 RX6 (TX6 3).2.1 (TX6 3).2.2.1 ∈ wsX6_bestGift) (by assumption) dX6_bestGift_48 ?_
    refine aw_run (zRun_V (c_X5_gathered hW zVw.put) gX6_bestGift_X5_gathered q_X5_gathered rfl (by decide) rfl (by assumption) rfl rfl (Nat.le_of_ble_eq_true rfl) dX6_bestGift_51 ⟨Nat.le_refl _, Nat.le_refl _⟩) ?_
    refine aw_istore_3 dX6_bestGift_54 ?_
    refine aw_bipush (v := (-9)) dX6_bestGift_55 (by decide) ?_
    refine aw_istore_4 dX6_bestGift_57 ?_
    refine aw_iconst (v := 0) dX6_bestGift_59 (by decide) ?_
    refine aw_istore_5 dX6_bestGift_60 ?_
    exact L62 _ 0 _ _ _ (Nat.zero_le _) rfl rfl
  · exact absurd h (by simpa using c41)

abbrev mX6_keep : ZM := (cX6_keep, RX6, wsX6_keep, 5, 0, 0, (some .int), 2, yX6_keep.name)
set_option maxHeartbeats 1000000 in
set_option maxRecDepth 100000 in
theorem c_X6_keep_b {sh : zSh} {F : Nat → Nat → Int32} {P : Nat → Nat → Option Nat} {χ : Nat} {k : Int32} (hY : zSys sh P χ) (h : k < 0 ∨ 2 ≤ k) : zMet yX6_keep wsX6_keep (5) (0) (0) [.ref χ, .int k] sh F P (some (.int (-1))) sh F P := by
  refine zMet.of (by decide) rfl (Nat.le_of_ble_eq_true rfl) (by simp [Value.category]) ?_
  intro X ρ
  show AW mX6_keep X (zMQ mX6_keep X (some (.int (-1))) sh F P) 0 [some (.ref χ), some (.int k)] [] ρ sh F P 0 0
  have hinX6 : ∀ w ∈ u_ws RX6 TX6 11, w ∈ wsX6_keep := by decide +kernel
  obtain ⟨⟨ts, tp0, tp1, tp2, tp3, tp4, tp5, tp6, tp7, ti, tx⟩, hB, hD, hS, hW, hH, hR, hPl, hIm⟩ := id hY
  have hb0 := hB.1
  have hd0 := hD.1
  obtain ⟨hs0, ⟨sp0, sp1, sp2, sp3, sp4, sp5⟩, sh1, sh2, sh3, sh4, sh5, sh6⟩ := id hS
  have hw0 := hW.1
  have hh0 := hH.1
  have hr0 := hR.1
  have wp0 := hW.2.1
  have hwb := hW.st
  refine aw_iload_1 dX6_keep_0 ?_
  refine aw_if_lt (tgt := 13) dX6_keep_1 (by decide) (fun c1 => ?_) (fun c1 => ?_)
  · refine aw_iconst (v := (-1)) dX6_keep_13 (by decide) ?_
    exact aw_ireturn rfl dX6_keep_14 ⟨Nat.zero_le _, Nat.zero_le _⟩ (by first | rfl | simp [c1]) rfl rfl rfl
  · refine aw_iload_1 dX6_keep_4 ?_
    refine aw_aload_0 dX6_keep_5 ?_
    refine aw_getR fX6_5 (fun _ _ => rfl) (by assumption) hinX6 (by decide +kernel : Cond.fieldLink RX6 42 RX6 (TX6 5).2.1 (TX6 5).2.2.1 ∈ wsX6_keep) (by assumption) dX6_keep_6 ?_
    refine aw_alen (t := 2) (v := nI _) (by decide) (by assumption) rfl dX6_keep_9 ?_
    refine aw_icmp_lt (tgt := 15) dX6_keep_10 (by decide) (fun c10 => ?_) (fun c10 => ?_)
    · exact h.elim (fun h => absurd h c1) (fun h => absurd c10 (Int32.not_lt.mpr h))
    · refine aw_iconst (v := (-1)) dX6_keep_13 (by decide) ?_
      exact aw_ireturn rfl dX6_keep_14 ⟨Nat.zero_le _, Nat.zero_le _⟩ (by first | rfl | simp [c1, c10]) rfl rfl rfl

abbrev m1X6_keep : ZM := (cX6_keep, RX6, wsX6_keep, 5, 17, 497, (some .int), 2, yX6_keep.name)

theorem nI_nn {p : Nat} (h : p < 2 ^ 31) : ¬ nI p < 0 := by
  intro h2
  have h3 : (nI p).toInt < 0 := by simpa using Int32.lt_iff_toInt_lt.mp h2
  rw [nI_toInt h] at h3
  omega

set_option maxHeartbeats 1000000 in
set_option maxRecDepth 100000 in
theorem c_X6_keep_o {sh : zSh} {F : Nat → Nat → Int32} {P : Nat → Nat → Option Nat} {χ : Nat} {p : Nat} (hY : zSys sh P χ) (hp : p < 2) : zMet yX6_keep wsX6_keep (5) (17) (497) [.ref χ, .int (nI p)] sh F P (some (.int (cBits (bMadeSet (zsub F (χ + 1)))))) (remSh sh P (χ + 36) p (χ + 195 + 17 * p)) (holdF (remF0 F P (χ + 36) p (χ + 195 + 17 * p)) (χ + 195 + 17 * p) (χ + 1) (χ + 19)) (remP P (χ + 36) p (χ + 195 + 17 * p)) := by
  refine zMet.of (by decide) rfl (Nat.le_of_ble_eq_true rfl) (by simp [Value.category]) ?_
  intro X ρ
  show AW m1X6_keep X (zMQ m1X6_keep X (some (.int (cBits (bMadeSet (zsub F (χ + 1)))))) (remSh sh P (χ + 36) p (χ + 195 + 17 * p)) (holdF (remF0 F P (χ + 36) p (χ + 195 + 17 * p)) (χ + 195 + 17 * p) (χ + 1) (χ + 19)) (remP P (χ + 36) p (χ + 195 + 17 * p))) 0 [some (.ref χ), some (.int (nI p))] [] ρ sh F P 0 0
  have hinX6 : ∀ w ∈ u_ws RX6 TX6 11, w ∈ wsX6_keep := by decide +kernel
  obtain ⟨⟨ts, tp0, tp1, tp2, tp3, tp4, tp5, tp6, tp7, ti, tx⟩, hB, hD, hS, hW, hH, hR, hPl, hIm⟩ := id hY
  have hb0 := hB.1
  have hd0 := hD.1
  obtain ⟨hs0, ⟨sp0, sp1, sp2, sp3, sp4, sp5⟩, sh1, sh2, sh3, sh4, sh5, sh6⟩ := id hS
  have hw0 := hW.1
  have hh0 := hH.1
  have hr0 := hR.1
  have wp0 := hW.2.1
  have hwb := hW.st
  refine aw_iload_1 dX6_keep_0 ?_
  refine aw_if_lt (tgt := 13) dX6_keep_1 (by decide) (fun c1 => absurd c1 (nI_nn (by omega))) (fun c1 => ?_)
  refine aw_iload_1 dX6_keep_4 ?_
  refine aw_aload_0 dX6_keep_5 ?_
  refine aw_getR fX6_5 (fun _ _ => rfl) (by assumption) hinX6 (by decide +kernel : Cond.fieldLink RX6 42 RX6 (TX6 5).2.1 (TX6 5).2.2.1 ∈ wsX6_keep) (by assumption) dX6_keep_6 ?_
  refine aw_alen (t := 2) (v := nI _) (by decide) (by assumption) rfl dX6_keep_9 ?_
  refine aw_icmp_lt (tgt := 15) dX6_keep_10 (by decide) (fun c10 => ?_) (fun c10 => absurd (by rw [show (2 : Nat) = 2 from rfl]; exact (nI_ltI (by omega) (by decide)).mpr hp) c10)
  refine aw_aload_0 dX6_keep_15 ?_
  refine aw_getR fX6_5 (fun _ _ => rfl) (by assumption) hinX6 (by decide +kernel : Cond.fieldLink RX6 42 RX6 (TX6 5).2.1 (TX6 5).2.2.1 ∈ wsX6_keep) (by assumption) dX6_keep_16 ?_
  refine aw_iload_1 dX6_keep_19 ?_
  refine aw_runA (zRun_S (c_X6_roomAt ti (by decide) hp (hIm p hp) (by omega)) (Or.inl gX6_keep_X6_roomAt) q_X6_roomAt (by decide) rfl rfl (Nat.le_of_ble_eq_true rfl) dX6_keep_20 ⟨by decide, by decide⟩) (by refine ⟨fun j hj => ?_, fun j hj => ?_⟩ <;> (left; simp at hj <;> (first | (rcases hj with hj | hj | hj) | (rcases hj with hj | hj) | skip) <;> (try rw [hj]) <;> (first | (rw [ts]; simp) | (rw [hb0]; simp) | (rw [hs0]; simp) | (rw [hh0]; simp) | (rw [hw0]; simp)))) (fun ρ => ?_)
  obtain ⟨⟨ts, tp0, tp1, tp2, tp3, tp4, tp5, tp6, tp7, ti, tx⟩, hB, hD, hS, hW, hH, hR, hPl, hIm⟩ := id (hY.img hp)
  have hb0 := hB.1
  have hd0 := hD.1
  obtain ⟨hs0, ⟨sp0, sp1, sp2, sp3, sp4, sp5⟩, sh1, sh2, sh3, sh4, sh5, sh6⟩ := id hS
  have hw0 := hW.1
  have hh0 := hH.1
  have hr0 := hR.1
  have wp0 := hW.2.1
  have hwb := hW.st
  have hq := ((hY.2.2.2.2.2.2.2.2 p hp).sta (by omega))
  have hq0 := hq.1.1
  refine aw_aload_0 dX6_keep_23 ?_
  refine aw_getR fX6_0 (fun _ _ => rfl) (by assumption) hinX6 (by decide +kernel : Cond.fieldLink RX6 10 RX6 (TX6 0).2.1 (TX6 0).2.2.1 ∈ wsX6_keep) (by assumption) dX6_keep_24 ?_
  refine aw_aload_0 dX6_keep_27 ?_
  refine aw_getR fX6_2 (fun _ _ => rfl) (by assumption) hinX6 (by decide +kernel : Cond.fieldLink RX6 22 RX6 (TX6 2).2.1 (TX6 2).2.2.1 ∈ wsX6_keep) (by assumption) dX6_keep_28 ?_
  refine aw_runv (zRun_V (c_X3_hold hq.1 hB hS (by omega) (by omega) (by omega)) gX6_keep_X3_hold q_X3_hold rfl (by decide) rfl (by assumption) rfl rfl (Nat.le_of_ble_eq_true rfl) dX6_keep_31 ⟨by decide, by decide⟩) ?_
  refine aw_aload_0 dX6_keep_34 ?_
  refine aw_getR fX6_0 (fun _ _ => rfl) (by assumption) hinX6 (by decide +kernel : Cond.fieldLink RX6 10 RX6 (TX6 0).2.1 (TX6 0).2.2.1 ∈ wsX6_keep) (by assumption) dX6_keep_35 ?_
  refine aw_run (zRun_V (c_X0_recipes (by assumption)) gX6_keep_X0_recipes q_X0_recipes rfl (by decide) rfl (by assumption) rfl rfl (Nat.le_of_ble_eq_true rfl) dX6_keep_38 ⟨by decide, by decide⟩) ?_
  exact aw_ireturn rfl dX6_keep_41 (by decide) (by rw [bMadeSet_v (B := zsub F (χ + 1)) (fun j hj => (zput_ne (by omega)).trans ((zput_ne (by omega)).trans (remF0_ne (by omega))))]) rfl rfl rfl

abbrev mX6_back : ZM := (cX6_back, RX6, wsX6_back, 6, 0, 0, (some .int), 3, yX6_back.name)
set_option maxHeartbeats 1000000 in
set_option maxRecDepth 100000 in
theorem c_X6_back_b {sh : zSh} {F : Nat → Nat → Int32} {P : Nat → Nat → Option Nat} {χ : Nat} {k : Int32} (hY : zSys sh P χ) (h : k < 0 ∨ 2 ≤ k) : zMet yX6_back wsX6_back (6) (0) (0) [.ref χ, .int k] sh F P (some (.int (-1))) sh F P := by
  refine zMet.of (by decide) rfl (Nat.le_of_ble_eq_true rfl) (by simp [Value.category]) ?_
  intro X ρ
  show AW mX6_back X (zMQ mX6_back X (some (.int (-1))) sh F P) 0 [some (.ref χ), some (.int k), none] [] ρ sh F P 0 0
  have hinX6 : ∀ w ∈ u_ws RX6 TX6 11, w ∈ wsX6_back := by decide +kernel
  obtain ⟨⟨ts, tp0, tp1, tp2, tp3, tp4, tp5, tp6, tp7, ti, tx⟩, hB, hD, hS, hW, hH, hR, hPl, hIm⟩ := id hY
  have hb0 := hB.1
  have hd0 := hD.1
  obtain ⟨hs0, ⟨sp0, sp1, sp2, sp3, sp4, sp5⟩, sh1, sh2, sh3, sh4, sh5, sh6⟩ := id hS
  have hw0 := hW.1
  have hh0 := hH.1
  have hr0 := hR.1
  have wp0 := hW.2.1
  have hwb := hW.st
  refine aw_iload_1 dX6_back_0 ?_
  refine aw_if_lt (tgt := 13) dX6_back_1 (by decide) (fun c1 => ?_) (fun c1 => ?_)
  · refine aw_iconst (v := (-1)) dX6_back_13 (by decide) ?_
    exact aw_ireturn rfl dX6_back_14 ⟨Nat.zero_le _, Nat.zero_le _⟩ (by first | rfl | simp [c1]) rfl rfl rfl
  · refine aw_iload_1 dX6_back_4 ?_
    refine aw_aload_0 dX6_back_5 ?_
    refine aw_getR fX6_5 (fun _ _ => rfl) (by assumption) hinX6 (by decide +kernel : Cond.fieldLink RX6 42 RX6 (TX6 5).2.1 (TX6 5).2.2.1 ∈ wsX6_back) (by assumption) dX6_back_6 ?_
    refine aw_alen (t := 2) (v := nI _) (by decide) (by assumption) rfl dX6_back_9 ?_
    refine aw_icmp_lt (tgt := 15) dX6_back_10 (by decide) (fun c10 => ?_) (fun c10 => ?_)
    · exact h.elim (fun h => absurd h c1) (fun h => absurd c10 (Int32.not_lt.mpr h))
    · refine aw_iconst (v := (-1)) dX6_back_13 (by decide) ?_
      exact aw_ireturn rfl dX6_back_14 ⟨Nat.zero_le _, Nat.zero_le _⟩ (by first | rfl | simp [c1, c10]) rfl rfl rfl

set_option maxHeartbeats 1000000 in
set_option maxRecDepth 100000 in
theorem c_X6_back_n {sh : zSh} {F : Nat → Nat → Int32} {P : Nat → Nat → Option Nat} {χ : Nat} {p : Nat} (hY : zSys sh P χ) (hp : p < 2) (h : P (χ + 36) p = none) : zMet yX6_back wsX6_back (6) (0) (0) [.ref χ, .int (nI p)] sh F P (some (.int (-2))) sh F P := by
  refine zMet.of (by decide) rfl (Nat.le_of_ble_eq_true rfl) (by simp [Value.category]) ?_
  intro X ρ
  show AW mX6_back X (zMQ mX6_back X (some (.int (-2))) sh F P) 0 [some (.ref χ), some (.int (nI p)), none] [] ρ sh F P 0 0
  have hinX6 : ∀ w ∈ u_ws RX6 TX6 11, w ∈ wsX6_back := by decide +kernel
  obtain ⟨⟨ts, tp0, tp1, tp2, tp3, tp4, tp5, tp6, tp7, ti, tx⟩, hB, hD, hS, hW, hH, hR, hPl, hIm⟩ := id hY
  have hb0 := hB.1
  have hd0 := hD.1
  obtain ⟨hs0, ⟨sp0, sp1, sp2, sp3, sp4, sp5⟩, sh1, sh2, sh3, sh4, sh5, sh6⟩ := id hS
  have hw0 := hW.1
  have hh0 := hH.1
  have hr0 := hR.1
  have wp0 := hW.2.1
  have hwb := hW.st
  refine aw_iload_1 dX6_back_0 ?_
  refine aw_if_lt (tgt := 13) dX6_back_1 (by decide) (fun c1 => absurd c1 (nI_nn (by omega))) (fun c1 => ?_)
  refine aw_iload_1 dX6_back_4 ?_
  refine aw_aload_0 dX6_back_5 ?_
  refine aw_getR fX6_5 (fun _ _ => rfl) (by assumption) hinX6 (by decide +kernel : Cond.fieldLink RX6 42 RX6 (TX6 5).2.1 (TX6 5).2.2.1 ∈ wsX6_back) (by assumption) dX6_back_6 ?_
  refine aw_alen (t := 2) (v := nI _) (by decide) (by assumption) rfl dX6_back_9 ?_
  refine aw_icmp_lt (tgt := 15) dX6_back_10 (by decide) (fun c10 => ?_) (fun c10 => absurd (by rw [show (2 : Nat) = 2 from rfl]; exact (nI_ltI (by omega) (by decide)).mpr hp) c10)
  refine aw_aload_0 dX6_back_15 ?_
  refine aw_getR fX6_5 (fun _ _ => rfl) (by assumption) hinX6 (by decide +kernel : Cond.fieldLink RX6 42 RX6 (TX6 5).2.1 (TX6 5).2.2.1 ∈ wsX6_back) (by assumption) dX6_back_16 ?_
  refine aw_iload_1 dX6_back_19 ?_
  refine aw_run (zRun_S (c_X6_stateAt_n ti (by decide) hp h) (Or.inl gX6_back_X6_stateAt) q_X6_stateAt (by decide) rfl rfl (Nat.le_of_ble_eq_true rfl) dX6_back_20 ⟨Nat.le_refl _, Nat.le_refl _⟩) ?_
  refine aw_astore_2N dX6_back_23 ?_
  refine aw_aload_2N dX6_back_24 ?_
  refine aw_ifnonnullN dX6_back_25 ?_
  refine aw_bipush (v := (-2)) dX6_back_28 (by decide) ?_
  exact aw_ireturn rfl dX6_back_30 ⟨Nat.zero_le _, Nat.zero_le _⟩ (by first | rfl | simp [c1, c10]) rfl rfl rfl

abbrev m1X6_back : ZM := (cX6_back, RX6, wsX6_back, 6, 17, 497, (some .int), 3, yX6_back.name)

set_option maxHeartbeats 1000000 in
set_option maxRecDepth 100000 in
theorem c_X6_back_o {sh : zSh} {F : Nat → Nat → Int32} {P : Nat → Nat → Option Nat} {χ : Nat} {o s p : Nat} (hY : zSys sh P χ) (ho : o < 8) (hs : s ≤ 8) (h1 : F (χ + 34) 1 = nI o) (h2 : F (χ + 34) 2 = nI s) (hp : p < 2) (h : P (χ + 36) p ≠ none) : zMet yX6_back wsX6_back (6) (17) (497) [.ref χ, .int (nI p)] sh F P (some (.int (cBits (bMadeSet (zsub (layF (tF F P χ o s) (χ + 195 + 17 * p) (χ + 1) (χ + 19)) (χ + 1)))))) (tS sh P χ ((o + s) % 8)) (layF (tF F P χ o s) (χ + 195 + 17 * p) (χ + 1) (χ + 19)) (tP P χ ((o + s) % 8)) := by
  refine zMet.of (by decide) rfl (Nat.le_of_ble_eq_true rfl) (by simp [Value.category]) ?_
  intro X ρ
  show AW m1X6_back X (zMQ m1X6_back X (some (.int (cBits (bMadeSet (zsub (layF (tF F P χ o s) (χ + 195 + 17 * p) (χ + 1) (χ + 19)) (χ + 1)))))) (tS sh P χ ((o + s) % 8)) (layF (tF F P χ o s) (χ + 195 + 17 * p) (χ + 1) (χ + 19)) (tP P χ ((o + s) % 8))) 0 [some (.ref χ), some (.int (nI p)), none] [] ρ sh F P 0 0
  have hinX6 : ∀ w ∈ u_ws RX6 TX6 11, w ∈ wsX6_back := by decide +kernel
  obtain ⟨⟨ts, tp0, tp1, tp2, tp3, tp4, tp5, tp6, tp7, ti, tx⟩, hB, hD, hS, hW, hH, hR, hPl, hIm⟩ := id hY
  have hb0 := hB.1
  have hd0 := hD.1
  obtain ⟨hs0, ⟨sp0, sp1, sp2, sp3, sp4, sp5⟩, sh1, sh2, sh3, sh4, sh5, sh6⟩ := id hS
  have hw0 := hW.1
  have hh0 := hH.1
  have hr0 := hR.1
  have wp0 := hW.2.1
  have hwb := hW.st
  have hi0 : P (χ + 36) p = some (χ + 195 + 17 * p) := ((hIm p hp).resolve_right (fun h2 => h h2.1)).1
  refine aw_iload_1 dX6_back_0 ?_
  refine aw_if_lt (tgt := 13) dX6_back_1 (by decide) (fun c1 => absurd c1 (nI_nn (by omega))) (fun c1 => ?_)
  refine aw_iload_1 dX6_back_4 ?_
  refine aw_aload_0 dX6_back_5 ?_
  refine aw_getR fX6_5 (fun _ _ => rfl) (by assumption) hinX6 (by decide +kernel : Cond.fieldLink RX6 42 RX6 (TX6 5).2.1 (TX6 5).2.2.1 ∈ wsX6_back) (by assumption) dX6_back_6 ?_
  refine aw_alen (t := 2) (v := nI _) (by decide) (by assumption) rfl dX6_back_9 ?_
  refine aw_icmp_lt (tgt := 15) dX6_back_10 (by decide) (fun c10 => ?_) (fun c10 => absurd (by rw [show (2 : Nat) = 2 from rfl]; exact (nI_ltI (by omega) (by decide)).mpr hp) c10)
  refine aw_aload_0 dX6_back_15 ?_
  refine aw_getR fX6_5 (fun _ _ => rfl) (by assumption) hinX6 (by decide +kernel : Cond.fieldLink RX6 42 RX6 (TX6 5).2.1 (TX6 5).2.2.1 ∈ wsX6_back) (by assumption) dX6_back_16 ?_
  refine aw_iload_1 dX6_back_19 ?_
  refine aw_run (zRun_S (c_X6_stateAt_s ti (by decide) hp hi0) (Or.inl gX6_back_X6_stateAt) q_X6_stateAt (by decide) rfl rfl (Nat.le_of_ble_eq_true rfl) dX6_back_20 ⟨by decide, by decide⟩) ?_
  refine aw_astore_2 dX6_back_23 ?_
  refine aw_aload_2 dX6_back_24 ?_
  refine aw_ifnonnull (tgt := 31) dX6_back_25 (by decide) ?_
  refine aw_aload_0 dX6_back_31 ?_
  refine aw_getR fX6_4 (fun _ _ => rfl) (by assumption) hinX6 (by decide +kernel : Cond.fieldLink RX6 36 RX6 (TX6 4).2.1 (TX6 4).2.2.1 ∈ wsX6_back) (by assumption) dX6_back_32 ?_
  refine aw_aload_0 dX6_back_35 ?_
  refine aw_getR fX6_0 (fun _ _ => rfl) (by assumption) hinX6 (by decide +kernel : Cond.fieldLink RX6 10 RX6 (TX6 0).2.1 (TX6 0).2.2.1 ∈ wsX6_back) (by assumption) dX6_back_36 ?_
  refine aw_aload_0 dX6_back_39 ?_
  refine aw_getR fX6_2 (fun _ _ => rfl) (by assumption) hinX6 (by decide +kernel : Cond.fieldLink RX6 22 RX6 (TX6 2).2.1 (TX6 2).2.2.1 ∈ wsX6_back) (by assumption) dX6_back_40 ?_
  refine aw_runAv (zRun_V (c_rem hY ho hs h1 h2) gX6_back_X1_remember q_X1_remember rfl (by decide) rfl (by assumption) rfl rfl (Nat.le_of_ble_eq_true rfl) dX6_back_43 ⟨by decide, by decide⟩) (by have hi1 := ((hIm p hp).resolve_right (fun h2 => h h2.1)).2.1; refine ⟨fun j hj => ?_, fun j hj => ?_⟩ <;> (left; simp at hj <;> (first | (rcases hj with hj | hj | hj) | (rcases hj with hj | hj) | skip) <;> (try rw [hj]) <;> (first | (rw [ts]; simp) | (rw [hb0]; simp) | (rw [hs0]; simp) | (rw [hh0]; simp) | (rw [hi1]; simp)))) (fun ρ => ?_)
  have hYT := hY.trm (a := o + s)
  have hq : zSta (tS sh P χ ((o + s) % 8)) (tP P χ ((o + s) % 8)) (χ + 195 + 17 * p) := ((hYT.2.2.2.2.2.2.2.2 p hp).resolve_right (fun h2 => by have h3 := h2.1; rw [show tP P χ ((o + s) % 8) (χ + 36) = P (χ + 36) from (by unfold tP; exact remP_ne (by omega) (by omega))] at h3; exact h h3)).2
  generalize tS sh P χ ((o + s) % 8) = sT at hYT hq ⊢
  generalize tP P χ ((o + s) % 8) = pT at hYT hq ⊢
  obtain ⟨⟨ts, tp0, tp1, tp2, tp3, tp4, tp5, tp6, tp7, ti, tx⟩, hB, hD, hS, hW, hH, hR, hPl, hIm⟩ := id hYT
  have hb0 := hB.1
  have hd0 := hD.1
  obtain ⟨hs0, ⟨sp0, sp1, sp2, sp3, sp4, sp5⟩, sh1, sh2, sh3, sh4, sh5, sh6⟩ := id hS
  have hw0 := hW.1
  have hh0 := hH.1
  have hr0 := hR.1
  have wp0 := hW.2.1
  have hwb := hW.st
  have hq0 := hq.1
  refine aw_aload_2 dX6_back_46 ?_
  refine aw_aload_0 dX6_back_47 ?_
  refine aw_getR fX6_0 (fun _ _ => rfl) (by assumption) hinX6 (by decide +kernel : Cond.fieldLink RX6 10 RX6 (TX6 0).2.1 (TX6 0).2.2.1 ∈ wsX6_back) (by assumption) dX6_back_48 ?_
  refine aw_aload_0 dX6_back_51 ?_
  refine aw_getR fX6_2 (fun _ _ => rfl) (by assumption) hinX6 (by decide +kernel : Cond.fieldLink RX6 22 RX6 (TX6 2).2.1 (TX6 2).2.2.1 ∈ wsX6_back) (by assumption) dX6_back_52 ?_
  refine aw_runv (zRun_V (c_X3_layOut hq hB hS (by omega) (by omega) (by omega)) gX6_back_X3_layOut q_X3_layOut rfl (by decide) rfl (by assumption) rfl rfl (Nat.le_of_ble_eq_true rfl) dX6_back_55 ⟨by decide, by decide⟩) ?_
  refine aw_aload_0 dX6_back_58 ?_
  refine aw_getR fX6_0 (fun _ _ => rfl) (by assumption) hinX6 (by decide +kernel : Cond.fieldLink RX6 10 RX6 (TX6 0).2.1 (TX6 0).2.2.1 ∈ wsX6_back) (by assumption) dX6_back_59 ?_
  refine aw_run (zRun_V (c_X0_recipes (by assumption)) gX6_back_X0_recipes q_X0_recipes rfl (by decide) rfl (by assumption) rfl rfl (Nat.le_of_ble_eq_true rfl) dX6_back_62 ⟨by decide, by decide⟩) ?_
  exact aw_ireturn rfl dX6_back_65 (by decide) (by first | rfl | simp [c1, c10]) rfl rfl rfl

