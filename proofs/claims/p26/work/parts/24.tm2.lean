/-! ===== 24.tm2: ThingMaker's methods that change: bring, vessel, undo, acceptWorks; the counting of bits ===== -/
def zus (x y : Int32) : Int32 := (x.toUInt32 >>> (y.toUInt32 &&& Int32.toUInt32 31)).toInt32
def cB1 (v : Int32) : Int32 := v - (zus v 1 &&& 1431655765)
def cB2 (v : Int32) : Int32 := (v &&& 858993459) + (zus v 2 &&& 858993459)
def cB3 (v : Int32) : Int32 := (v + zus v 4) &&& 252645135
def cB4 (v : Int32) : Int32 := v + zus v 8
def cB5 (v : Int32) : Int32 := v + zus v 16
def cBits (v : Int32) : Int32 := cB5 (cB4 (cB3 (cB2 (cB1 v)))) &&& 63
/-- the memory after 'remember' -/
def tS (sh : zSh) (P : Nat → Nat → Option Nat) (χ p : Nat) : zSh := remSh sh P (χ + 35) p (χ + 59 + 17 * p)
def tP (P : Nat → Nat → Option Nat) (χ p : Nat) : Nat → Nat → Option Nat := remP P (χ + 35) p (χ + 59 + 17 * p)
def tF (F : Nat → Nat → Int32) (P : Nat → Nat → Option Nat) (χ o s : Nat) : Nat → Nat → Int32 := remF F P (χ + 34) (χ + 1) (χ + 19) o s (χ + 59 + 17 * ((o + s) % 8))
theorem tF_ne {F : Nat → Nat → Int32} {P : Nat → Nat → Option Nat} {χ o s i : Nat} (h : i < χ + 59) (hη : i ≠ χ + 34) : tF F P χ o s i = F i := by unfold tF; exact remF_ne (by omega) hη
theorem tF_j {F : Nat → Nat → Int32} {P : Nat → Nat → Option Nat} {χ o s j : Nat} (h : j < 59) (hη : j ≠ 34) : tF F P χ o s (χ + j) = F (χ + j) := tF_ne (by omega) (by omega)
theorem zSys.tr {sh : zSh} {P : Nat → Nat → Option Nat} {χ p : Nat} (h : zSys sh P χ) (hp : p < 8) : zSys (tS sh P χ p) (tP P χ p) χ := by unfold tS tP; exact h.rem hp
theorem zSys.trm {sh : zSh} {P : Nat → Nat → Option Nat} {χ a : Nat} (h : zSys sh P χ) : zSys (tS sh P χ (a % 8)) (tP P χ (a % 8)) χ := by unfold tS tP; exact h.rem (Nat.mod_lt _ (by decide))
theorem c_rem {sh : zSh} {F : Nat → Nat → Int32} {P : Nat → Nat → Option Nat} {χ o s : Nat} (hY : zSys sh P χ) (ho : o < 8) (hs : s ≤ 8) (h1 : F (χ + 34) 1 = nI o) (h2 : F (χ + 34) 2 = nI s) : zMet yX1_remember wsX1_remember 5 17 497 [.ref (χ + 34), .ref (χ + 1), .ref (χ + 19)] sh F P none (tS sh P χ ((o + s) % 8)) (tF F P χ o s) (tP P χ ((o + s) % 8)) := by
  unfold tS tP tF
  exact c_X1_remember hY.2.2.2.2.2.1 ho hs h1 h2 (hY.2.2.2.2.2.2.2.1 _ (Nat.mod_lt _ (by decide))) hY.2.1 hY.2.2.2.1 (by omega) (by omega) (by omega) (by omega) (by omega) (by omega)
theorem tF_B {F : Nat → Nat → Int32} {P : Nat → Nat → Option Nat} {χ o s : Nat} : zVw (tF F P χ o s) (χ + 1) 9 (zsub F (χ + 1)) := fun j hj => tF_ne (by omega) (by omega)
theorem tF_S {F : Nat → Nat → Int32} {P : Nat → Nat → Option Nat} {χ o s : Nat} : zVw (tF F P χ o s) (χ + 19) 7 (zsub F (χ + 19)) := fun j hj => tF_ne (by omega) (by omega)

abbrev mJ6_bitCount_0f7a4 : ZM := (cJ6_bitCount_0f7a4, RJ6, wsJ6_bitCount_0f7a4, 1, 0, 0, (some .int), 1, yJ6_bitCount_0f7a4.name)
set_option maxHeartbeats 1000000 in
set_option maxRecDepth 100000 in
theorem c_J6_bitCount_0f7a4 {sh : zSh} {F : Nat → Nat → Int32} {P : Nat → Nat → Option Nat} {v : Int32}  : zMet yJ6_bitCount_0f7a4 wsJ6_bitCount_0f7a4 (1) (0) (0) [.int v] sh F P (some (.int (cBits v))) sh F P := by
  refine zMet.of (by decide) rfl (Nat.le_of_ble_eq_true rfl) (by simp [Value.category]) ?_
  intro X ρ
  show AW mJ6_bitCount_0f7a4 X (zMQ mJ6_bitCount_0f7a4 X (some (.int (cBits v))) sh F P) 0 [some (.int v)] [] ρ sh F P 0 0
  refine aw_iload_0 dJ6_bitCount_0f7a4_0 ?_
  refine aw_iload_0 dJ6_bitCount_0f7a4_1 ?_
  refine aw_iconst (v := 1) dJ6_bitCount_0f7a4_2 (by decide) ?_
  refine aw_iushr dJ6_bitCount_0f7a4_3 ?_
  refine aw_ldcw (v := 1431655765) (by decide +kernel) dJ6_bitCount_0f7a4_4 ?_
  refine aw_iand dJ6_bitCount_0f7a4_7 ?_
  refine aw_isub dJ6_bitCount_0f7a4_8 ?_
  refine aw_istore_0 dJ6_bitCount_0f7a4_9 ?_
  refine aw_iload_0 dJ6_bitCount_0f7a4_10 ?_
  refine aw_ldcw (v := 858993459) (by decide +kernel) dJ6_bitCount_0f7a4_11 ?_
  refine aw_iand dJ6_bitCount_0f7a4_14 ?_
  refine aw_iload_0 dJ6_bitCount_0f7a4_15 ?_
  refine aw_iconst (v := 2) dJ6_bitCount_0f7a4_16 (by decide) ?_
  refine aw_iushr dJ6_bitCount_0f7a4_17 ?_
  refine aw_ldcw (v := 858993459) (by decide +kernel) dJ6_bitCount_0f7a4_18 ?_
  refine aw_iand dJ6_bitCount_0f7a4_21 ?_
  refine aw_iadd dJ6_bitCount_0f7a4_22 ?_
  refine aw_istore_0 dJ6_bitCount_0f7a4_23 ?_
  refine aw_iload_0 dJ6_bitCount_0f7a4_24 ?_
  refine aw_iload_0 dJ6_bitCount_0f7a4_25 ?_
  refine aw_iconst (v := 4) dJ6_bitCount_0f7a4_26 (by decide) ?_
  refine aw_iushr dJ6_bitCount_0f7a4_27 ?_
  refine aw_iadd dJ6_bitCount_0f7a4_28 ?_
  refine aw_ldcw (v := 252645135) (by decide +kernel) dJ6_bitCount_0f7a4_29 ?_
  refine aw_iand dJ6_bitCount_0f7a4_32 ?_
  refine aw_istore_0 dJ6_bitCount_0f7a4_33 ?_
  refine aw_iload_0 dJ6_bitCount_0f7a4_34 ?_
  refine aw_iload_0 dJ6_bitCount_0f7a4_35 ?_
  refine aw_bipush (v := 8) dJ6_bitCount_0f7a4_36 (by decide) ?_
  refine aw_iushr dJ6_bitCount_0f7a4_38 ?_
  refine aw_iadd dJ6_bitCount_0f7a4_39 ?_
  refine aw_istore_0 dJ6_bitCount_0f7a4_40 ?_
  refine aw_iload_0 dJ6_bitCount_0f7a4_41 ?_
  refine aw_iload_0 dJ6_bitCount_0f7a4_42 ?_
  refine aw_bipush (v := 16) dJ6_bitCount_0f7a4_43 (by decide) ?_
  refine aw_iushr dJ6_bitCount_0f7a4_45 ?_
  refine aw_iadd dJ6_bitCount_0f7a4_46 ?_
  refine aw_istore_0 dJ6_bitCount_0f7a4_47 ?_
  refine aw_iload_0 dJ6_bitCount_0f7a4_48 ?_
  refine aw_bipush (v := 63) dJ6_bitCount_0f7a4_49 (by decide) ?_
  refine aw_iand dJ6_bitCount_0f7a4_51 ?_
  exact aw_ireturn rfl dJ6_bitCount_0f7a4_52 ⟨Nat.zero_le _, Nat.zero_le _⟩ (by first | rfl | simp []) rfl rfl rfl

abbrev mX0_recipes : ZM := (cX0_recipes, RX0, wsX0_recipes, 4, 0, 0, (some .int), 1, yX0_recipes.name)
set_option maxHeartbeats 1000000 in
set_option maxRecDepth 100000 in
theorem c_X0_recipes {sh : zSh} {F : Nat → Nat → Int32} {P : Nat → Nat → Option Nat} {β : Nat} (hB : zBk sh P β) : zMet yX0_recipes wsX0_recipes (4) (0) (0) [.ref β] sh F P (some (.int (cBits (bMadeSet (zsub F β))))) sh F P := by
  refine zMet.of (by decide) rfl (Nat.le_of_ble_eq_true rfl) (by simp [Value.category]) ?_
  intro X ρ
  show AW mX0_recipes X (zMQ mX0_recipes X (some (.int (cBits (bMadeSet (zsub F β))))) sh F P) 0 [some (.ref β)] [] ρ sh F P 0 0
  obtain ⟨hs, ⟨p0, p1, p2, p3, p4, p5, p6, p7⟩, s1, s2, s3, s4, s5, s6, s7, s8⟩ := id hB
  refine aw_aload_0 dX0_recipes_0 ?_
  refine aw_run (zRun_V (c_X0_madeThings (by assumption)) gX0_recipes_X0_madeThings q_X0_madeThings rfl (by decide) rfl (by assumption) rfl rfl (Nat.le_of_ble_eq_true rfl) dX0_recipes_1 ⟨Nat.le_refl _, Nat.le_refl _⟩) ?_
  refine aw_run (zRun_S (c_J6_bitCount_0f7a4 ) (Or.inl gX0_recipes_J6_bitCount_0f7a4) q_J6_bitCount_0f7a4 (by decide) rfl rfl (Nat.le_of_ble_eq_true rfl) dX0_recipes_4 ⟨Nat.le_refl _, Nat.le_refl _⟩) ?_
  exact aw_ireturn rfl dX0_recipes_7 ⟨Nat.zero_le _, Nat.zero_le _⟩ (by first | rfl | simp []) rfl rfl rfl

set_option maxHeartbeats 1000000 in
set_option maxRecDepth 100000 in
theorem c_X6_told_0 {sh : zSh} {F : Nat → Nat → Int32} {P : Nat → Nat → Option Nat} {χ : Nat} (hY : zSys sh P χ) : zMet yX6_told wsX6_told (5) (0) (0) [.ref χ, .int 0] sh F P (some (.int (cBits (bMadeSet (zsub F (χ + 1)))))) sh F P := by
  refine zMet.of (by decide) rfl (Nat.le_of_ble_eq_true rfl) (by simp [Value.category]) ?_
  intro X ρ
  show AW mX6_told X (zMQ mX6_told X (some (.int (cBits (bMadeSet (zsub F (χ + 1)))))) sh F P) 0 [some (.ref χ), some (.int 0)] [] ρ sh F P 0 0
  have hinX6 : ∀ w ∈ u_ws RX6 TX6 11, w ∈ wsX6_told := by decide +kernel
  have hinX4 : ∀ w ∈ u_ws RX4 TX4 7, w ∈ wsX6_told := by decide +kernel
  obtain ⟨⟨ts, tp0, tp1, tp2, tp3, tp4, tp5, tp6, tp7, ti, tx⟩, hB, hD, hS, hW, hH, hR, hPl, hIm⟩ := id hY
  have hb0 := hB.1
  have hd0 := hD.1
  obtain ⟨hs0, ⟨sp0, sp1, sp2, sp3, sp4, sp5⟩, sh1, sh2, sh3, sh4, sh5, sh6⟩ := id hS
  have hw0 := hW.1
  have hh0 := hH.1
  have hr0 := hR.1
  have wp0 := hW.2.1
  have hwb := hW.st
  refine aw_iload_1 dX6_told_0 ?_
  refine aw_tableIn (off := 47) (tgt := 48) dX6_told_1 (by decide) (by decide) (by decide) (by decide) ?_
  refine aw_aload_0 dX6_told_48 ?_
  refine aw_getR fX6_0 (fun _ _ => rfl) (by assumption) hinX6 (by decide +kernel : Cond.fieldLink RX6 10 RX6 (TX6 0).2.1 (TX6 0).2.2.1 ∈ wsX6_told) (by assumption) dX6_told_49 ?_
  refine aw_run (zRun_V (c_X0_recipes (by assumption)) gX6_told_X0_recipes q_X0_recipes rfl (by decide) rfl (by assumption) rfl rfl (Nat.le_of_ble_eq_true rfl) dX6_told_52 ⟨Nat.le_refl _, Nat.le_refl _⟩) ?_
  exact aw_ireturn rfl dX6_told_55 ⟨Nat.zero_le _, Nat.zero_le _⟩ (by first | rfl | simp []) rfl rfl rfl

def cMx0 (x : Int32) : Int32 := if x < 0 then 0 else x
def xBring (t a b : Int32) : Int32 := if cIsThing t = 0 then -1 else if a < -9999 then -1 else if a ≤ 9999 then (if cMx0 (b + a) ≤ 99999 then 0 else -3) else -1
def xVes (t v bv : Int32) (iv : Bool) : Int32 := if v = -9 then (if cIsThing t = 0 then -1 else if t = v then -1 else 0) else (if cIsThing t = 0 then -1 else if cIsThing v = 0 then -1 else if t = v then -1 else if bv = -9 then (if iv = true then -2 else 0) else -2)

abbrev mX6_bring : ZM := (cX6_bring, RX6, wsX6_bring, 6, 0, 0, (some .int), 5, yX6_bring.name)
set_option maxHeartbeats 1000000 in
set_option maxRecDepth 100000 in
theorem c_X6_bring_e {sh : zSh} {F : Nat → Nat → Int32} {P : Nat → Nat → Option Nat} {χ : Nat} {t a : Int32} (hY : zSys sh P χ) (h : xBring t a (cAt 20 (F (χ + 20)) t) ≠ 0) : zMet yX6_bring wsX6_bring (6) (0) (0) [.ref χ, .int t, .int a] sh F P (some (.int (xBring t a (cAt 20 (F (χ + 20)) t)))) sh F P := by
  refine zMet.of (by decide) rfl (Nat.le_of_ble_eq_true rfl) (by simp [Value.category]) ?_
  intro X ρ
  show AW mX6_bring X (zMQ mX6_bring X (some (.int (xBring t a (cAt 20 (F (χ + 20)) t)))) sh F P) 0 [some (.ref χ), some (.int t), some (.int a), none, none] [] ρ sh F P 0 0
  have hinX6 : ∀ w ∈ u_ws RX6 TX6 11, w ∈ wsX6_bring := by decide +kernel
  have hinX4 : ∀ w ∈ u_ws RX4 TX4 7, w ∈ wsX6_bring := by decide +kernel
  obtain ⟨⟨ts, tp0, tp1, tp2, tp3, tp4, tp5, tp6, tp7, ti, tx⟩, hB, hD, hS, hW, hH, hR, hPl, hIm⟩ := id hY
  have hb0 := hB.1
  have hd0 := hD.1
  obtain ⟨hs0, ⟨sp0, sp1, sp2, sp3, sp4, sp5⟩, sh1, sh2, sh3, sh4, sh5, sh6⟩ := id hS
  have hw0 := hW.1
  have hh0 := hH.1
  have hr0 := hR.1
  have wp0 := hW.2.1
  have hwb := hW.st
  refine aw_iload_1 dX6_bring_0 ?_
  refine aw_run (zRun_S (c_X6_isThing ) (Or.inl gX6_bring_X6_isThing) q_X6_isThing (by decide) rfl rfl (Nat.le_of_ble_eq_true rfl) dX6_bring_1 ⟨Nat.le_refl _, Nat.le_refl _⟩) ?_
  refine aw_if_eq (tgt := 21) dX6_bring_4 (by decide) (fun c4 => ?_) (fun c4 => ?_)
  · refine aw_iconst (v := (-1)) dX6_bring_21 (by decide) ?_
    exact aw_ireturn rfl dX6_bring_22 ⟨Nat.zero_le _, Nat.zero_le _⟩ (by simp only [xBring, c4]; (try simp [c4]); (try simpa using c62); (try simpa [c3] using c32)) rfl rfl rfl
  · refine aw_iload_2 dX6_bring_7 ?_
    refine aw_sipush (v := (-9999)) dX6_bring_8 (by decide) ?_
    refine aw_icmp_lt (tgt := 21) dX6_bring_11 (by decide) (fun c11 => ?_) (fun c11 => ?_)
    · refine aw_iconst (v := (-1)) dX6_bring_21 (by decide) ?_
      exact aw_ireturn rfl dX6_bring_22 ⟨Nat.zero_le _, Nat.zero_le _⟩ (by simp only [xBring, c4, c11]; (try simp [c4, c11]); (try simpa using c62); (try simpa [c3] using c32)) rfl rfl rfl
    · refine aw_iload_2 dX6_bring_14 ?_
      refine aw_sipush (v := 9999) dX6_bring_15 (by decide) ?_
      refine aw_icmp_le (tgt := 23) dX6_bring_18 (by decide) (fun c18 => ?_) (fun c18 => ?_)
      · refine aw_aload_0 dX6_bring_23 ?_
        refine aw_getR fX6_2 (fun _ _ => rfl) (by assumption) hinX6 (by decide +kernel : Cond.fieldLink RX6 22 RX6 (TX6 2).2.1 (TX6 2).2.2.1 ∈ wsX6_bring) (by assumption) dX6_bring_24 ?_
        refine aw_getRN (q := 0) fX4_0 (fun _ _ => rfl) (by assumption) hinX4 rfl (by assumption) dX6_bring_27 ?_
        refine aw_iload_1 dX6_bring_30 ?_
        refine aw_run (zRun_S (c_X6_at (by assumption) (by decide)) (Or.inl gX6_bring_X6_at) q_X6_at (by decide) rfl rfl (Nat.le_of_ble_eq_true rfl) dX6_bring_31 ⟨Nat.le_refl _, Nat.le_refl _⟩) ?_
        refine aw_istore_3 dX6_bring_34 ?_
        refine aw_iload_3 dX6_bring_35 ?_
        refine aw_iload_2 dX6_bring_36 ?_
        refine aw_iadd dX6_bring_37 ?_
        refine aw_iconst (v := 0) dX6_bring_38 (by decide) ?_
        refine aw_max (by decide +kernel : Cond.methodLink RX6 144 Lib.Math.max.name ∈ wsX6_bring) (by decide +kernel : Cond.static Lib.Math.max.name ∈ wsX6_bring) (by decide +kernel : Cond.initialized "java/lang/Math" ∈ wsX6_bring) (by decide +kernel : Cond.code Lib.Math.max.name Lib.Math.max.code 2 (some .int) ∈ wsX6_bring) (Nat.le_of_ble_eq_true rfl) ⟨Nat.zero_le _, Nat.zero_le _⟩ dX6_bring_39 ?_
        refine aw_istore_4 dX6_bring_42 ?_
        rw [show (if (cAt 20 (F (χ + 20)) t) + a < 0 then 0 else (cAt 20 (F (χ + 20)) t) + a) = cMx0 ((cAt 20 (F (χ + 20)) t) + a) from rfl]
        refine aw_iload_4 dX6_bring_44 ?_
        refine aw_ldc (v := 99999) (by decide +kernel : Cond.constant RX6 149 99999 ∈ wsX6_bring) dX6_bring_46 ?_
        refine aw_icmp_le (tgt := 54) dX6_bring_48 (by decide) (fun c48 => ?_) (fun c48 => ?_)
        · exact aw_absurd h (by simp only [xBring, c4, c11, c18, c48]; (try simp [c4, c11, c18, c48]); (try simpa using c62); (try simpa [c3] using c32))
        · refine aw_bipush (v := (-3)) dX6_bring_51 (by decide) ?_
          exact aw_ireturn rfl dX6_bring_53 ⟨Nat.zero_le _, Nat.zero_le _⟩ (by simp only [xBring, c4, c11, c18, c48]; (try simp [c4, c11, c18, c48]); (try simpa using c62); (try simpa [c3] using c32)) rfl rfl rfl
      · refine aw_iconst (v := (-1)) dX6_bring_21 (by decide) ?_
        exact aw_ireturn rfl dX6_bring_22 ⟨Nat.zero_le _, Nat.zero_le _⟩ (by simp only [xBring, c4, c11, c18]; (try simp [c4, c11, c18]); (try simpa using c62); (try simpa [c3] using c32)) rfl rfl rfl

abbrev m1X6_bring : ZM := (cX6_bring, RX6, wsX6_bring, 6, 17, 497, (some .int), 5, yX6_bring.name)

set_option maxHeartbeats 1000000 in
set_option maxRecDepth 100000 in
theorem c_X6_bring_o {sh : zSh} {F : Nat → Nat → Int32} {P : Nat → Nat → Option Nat} {χ : Nat} {o s : Nat} {t a : Int32} (hY : zSys sh P χ) (ho : o < 8) (hs : s ≤ 8) (h1 : F (χ + 34) 1 = nI o) (h2 : F (χ + 34) 2 = nI s) (h : xBring t a (cAt 20 (F (χ + 20)) t) = 0) : zMet yX6_bring wsX6_bring (6) (17) (497) [.ref χ, .int t, .int a] sh F P (some (.int (cMx0 ((cAt 20 (F (χ + 20)) t) + a)))) (tS sh P χ ((o + s) % 8)) (va_up (va_up (tF F P χ o s) (χ + 20) (cAdd 20 (F (χ + 20)) t (cMx0 ((cAt 20 (F (χ + 20)) t) + a) - (cAt 20 (F (χ + 20)) t)))) (χ + 25) (cAdd 20 (F (χ + 25)) t (cMx0 ((cAt 20 (F (χ + 20)) t) + a) - (cAt 20 (F (χ + 20)) t)))) (tP P χ ((o + s) % 8)) := by
  refine zMet.of (by decide) rfl (Nat.le_of_ble_eq_true rfl) (by simp [Value.category]) ?_
  intro X ρ
  show AW m1X6_bring X (zMQ m1X6_bring X (some (.int (cMx0 ((cAt 20 (F (χ + 20)) t) + a)))) (tS sh P χ ((o + s) % 8)) (va_up (va_up (tF F P χ o s) (χ + 20) (cAdd 20 (F (χ + 20)) t (cMx0 ((cAt 20 (F (χ + 20)) t) + a) - (cAt 20 (F (χ + 20)) t)))) (χ + 25) (cAdd 20 (F (χ + 25)) t (cMx0 ((cAt 20 (F (χ + 20)) t) + a) - (cAt 20 (F (χ + 20)) t)))) (tP P χ ((o + s) % 8))) 0 [some (.ref χ), some (.int t), some (.int a), none, none] [] ρ sh F P 0 0
  have hinX6 : ∀ w ∈ u_ws RX6 TX6 11, w ∈ wsX6_bring := by decide +kernel
  have hinX4 : ∀ w ∈ u_ws RX4 TX4 7, w ∈ wsX6_bring := by decide +kernel
  obtain ⟨⟨ts, tp0, tp1, tp2, tp3, tp4, tp5, tp6, tp7, ti, tx⟩, hB, hD, hS, hW, hH, hR, hPl, hIm⟩ := id hY
  have hb0 := hB.1
  have hd0 := hD.1
  obtain ⟨hs0, ⟨sp0, sp1, sp2, sp3, sp4, sp5⟩, sh1, sh2, sh3, sh4, sh5, sh6⟩ := id hS
  have hw0 := hW.1
  have hh0 := hH.1
  have hr0 := hR.1
  have wp0 := hW.2.1
  have hwb := hW.st
  refine aw_iload_1 dX6_bring_0 ?_
  refine aw_run (zRun_S (c_X6_isThing ) (Or.inl gX6_bring_X6_isThing) q_X6_isThing (by decide) rfl rfl (Nat.le_of_ble_eq_true rfl) dX6_bring_1 ⟨by decide, by decide⟩) ?_
  refine aw_if_eq (tgt := 21) dX6_bring_4 (by decide) (fun c4 => ?_) (fun c4 => ?_)
  · exact aw_absurd (a := xBring t a (cAt 20 (F (χ + 20)) t)) (b := 0) (by simp only [xBring, c4]; (try simp [c4]); (try simpa using c62); (try simpa [c3] using c32)) h
  · refine aw_iload_2 dX6_bring_7 ?_
    refine aw_sipush (v := (-9999)) dX6_bring_8 (by decide) ?_
    refine aw_icmp_lt (tgt := 21) dX6_bring_11 (by decide) (fun c11 => ?_) (fun c11 => ?_)
    · exact aw_absurd (a := xBring t a (cAt 20 (F (χ + 20)) t)) (b := 0) (by simp only [xBring, c4, c11]; (try simp [c4, c11]); (try simpa using c62); (try simpa [c3] using c32)) h
    · refine aw_iload_2 dX6_bring_14 ?_
      refine aw_sipush (v := 9999) dX6_bring_15 (by decide) ?_
      refine aw_icmp_le (tgt := 23) dX6_bring_18 (by decide) (fun c18 => ?_) (fun c18 => ?_)
      · refine aw_aload_0 dX6_bring_23 ?_
        refine aw_getR fX6_2 (fun _ _ => rfl) (by assumption) hinX6 (by decide +kernel : Cond.fieldLink RX6 22 RX6 (TX6 2).2.1 (TX6 2).2.2.1 ∈ wsX6_bring) (by assumption) dX6_bring_24 ?_
        refine aw_getRN (q := 0) fX4_0 (fun _ _ => rfl) (by assumption) hinX4 rfl (by assumption) dX6_bring_27 ?_
        refine aw_iload_1 dX6_bring_30 ?_
        refine aw_run (zRun_S (c_X6_at (by assumption) (by decide)) (Or.inl gX6_bring_X6_at) q_X6_at (by decide) rfl rfl (Nat.le_of_ble_eq_true rfl) dX6_bring_31 ⟨by decide, by decide⟩) ?_
        refine aw_istore_3 dX6_bring_34 ?_
        refine aw_iload_3 dX6_bring_35 ?_
        refine aw_iload_2 dX6_bring_36 ?_
        refine aw_iadd dX6_bring_37 ?_
        refine aw_iconst (v := 0) dX6_bring_38 (by decide) ?_
        refine aw_max (by decide +kernel : Cond.methodLink RX6 144 Lib.Math.max.name ∈ wsX6_bring) (by decide +kernel : Cond.static Lib.Math.max.name ∈ wsX6_bring) (by decide +kernel : Cond.initialized "java/lang/Math" ∈ wsX6_bring) (by decide +kernel : Cond.code Lib.Math.max.name Lib.Math.max.code 2 (some .int) ∈ wsX6_bring) (Nat.le_of_ble_eq_true rfl) ⟨Nat.zero_le _, Nat.zero_le _⟩ dX6_bring_39 ?_
        refine aw_istore_4 dX6_bring_42 ?_
        rw [show (if (cAt 20 (F (χ + 20)) t) + a < 0 then 0 else (cAt 20 (F (χ + 20)) t) + a) = cMx0 ((cAt 20 (F (χ + 20)) t) + a) from rfl]
        refine aw_iload_4 dX6_bring_44 ?_
        refine aw_ldc (v := 99999) (by decide +kernel : Cond.constant RX6 149 99999 ∈ wsX6_bring) dX6_bring_46 ?_
        refine aw_icmp_le (tgt := 54) dX6_bring_48 (by decide) (fun c48 => ?_) (fun c48 => ?_)
        · refine aw_aload_0 dX6_bring_54 ?_
          refine aw_getR fX6_4 (fun _ _ => rfl) (by assumption) hinX6 (by decide +kernel : Cond.fieldLink RX6 36 RX6 (TX6 4).2.1 (TX6 4).2.2.1 ∈ wsX6_bring) (by assumption) dX6_bring_55 ?_
          refine aw_aload_0 dX6_bring_58 ?_
          refine aw_getR fX6_0 (fun _ _ => rfl) (by assumption) hinX6 (by decide +kernel : Cond.fieldLink RX6 10 RX6 (TX6 0).2.1 (TX6 0).2.2.1 ∈ wsX6_bring) (by assumption) dX6_bring_59 ?_
          refine aw_aload_0 dX6_bring_62 ?_
          refine aw_getR fX6_2 (fun _ _ => rfl) (by assumption) hinX6 (by decide +kernel : Cond.fieldLink RX6 22 RX6 (TX6 2).2.1 (TX6 2).2.2.1 ∈ wsX6_bring) (by assumption) dX6_bring_63 ?_
          refine aw_runAv (zRun_V (c_rem hY ho hs h1 h2) gX6_bring_X1_remember q_X1_remember rfl (by decide) rfl (by assumption) rfl rfl (Nat.le_of_ble_eq_true rfl) dX6_bring_66 ⟨by decide, by decide⟩) (by refine ⟨fun j hj => ?_, fun j hj => ?_⟩ <;> (left; simp at hj <;> (first | (rcases hj with hj | hj | hj) | (rcases hj with hj | hj) | skip) <;> (try rw [hj]) <;> (first | (rw [ts]; simp) | (rw [hb0]; simp) | (rw [hs0]; simp) | (rw [hh0]; simp) | (rw [hw0]; simp)))) (fun ρ => ?_)
          have hYT := hY.trm (a := o + s)
          generalize tS sh P χ ((o + s) % 8) = sT at hYT  ⊢
          generalize tP P χ ((o + s) % 8) = pT at hYT  ⊢
          obtain ⟨⟨ts, tp0, tp1, tp2, tp3, tp4, tp5, tp6, tp7, ti, tx⟩, hB, hD, hS, hW, hH, hR, hPl, hIm⟩ := id hYT
          have hb0 := hB.1
          have hd0 := hD.1
          obtain ⟨hs0, ⟨sp0, sp1, sp2, sp3, sp4, sp5⟩, sh1, sh2, sh3, sh4, sh5, sh6⟩ := id hS
          have hw0 := hW.1
          have hh0 := hH.1
          have hr0 := hR.1
          have wp0 := hW.2.1
          have hwb := hW.st
          refine aw_aload_0 dX6_bring_69 ?_
          refine aw_getR fX6_2 (fun _ _ => rfl) (by assumption) hinX6 (by decide +kernel : Cond.fieldLink RX6 22 RX6 (TX6 2).2.1 (TX6 2).2.2.1 ∈ wsX6_bring) (by assumption) dX6_bring_70 ?_
          refine aw_getRN (q := 0) fX4_0 (fun _ _ => rfl) (by assumption) hinX4 rfl (by assumption) dX6_bring_73 ?_
          refine aw_iload_1 dX6_bring_76 ?_
          refine aw_iload_4 dX6_bring_77 ?_
          refine aw_iload_3 dX6_bring_79 ?_
          refine aw_isub dX6_bring_80 ?_
          refine aw_runv (zRun_S (c_X6_add (by assumption) (by decide)) (Or.inl gX6_bring_X6_add) q_X6_add (by decide) rfl rfl (Nat.le_of_ble_eq_true rfl) dX6_bring_81 ⟨by decide, by decide⟩) ?_
          refine aw_aload_0 dX6_bring_84 ?_
          refine aw_getR fX6_2 (fun _ _ => rfl) (by assumption) hinX6 (by decide +kernel : Cond.fieldLink RX6 22 RX6 (TX6 2).2.1 (TX6 2).2.2.1 ∈ wsX6_bring) (by assumption) dX6_bring_85 ?_
          refine aw_getRN (q := 1) fX4_5 (fun _ _ => rfl) (by assumption) hinX4 rfl (by assumption) dX6_bring_88 ?_
          refine aw_iload_1 dX6_bring_91 ?_
          refine aw_iload_4 dX6_bring_92 ?_
          refine aw_iload_3 dX6_bring_94 ?_
          refine aw_isub dX6_bring_95 ?_
          refine aw_runv (zRun_S (c_X6_add (by assumption) (by decide)) (Or.inl gX6_bring_X6_add) q_X6_add (by decide) rfl rfl (Nat.le_of_ble_eq_true rfl) dX6_bring_96 ⟨by decide, by decide⟩) ?_
          refine aw_iload_4 dX6_bring_99 ?_
          exact aw_ireturn rfl dX6_bring_101 (by decide) rfl rfl (by rw [zup_ne (show χ + 19 + 6 ≠ χ + 19 + 1 by omega), show (tF F P χ o s) (χ + 19 + 6) = F (χ + 25) from tF_j (j := 25) (by decide) (by decide), show (tF F P χ o s) (χ + 19 + 1) = F (χ + 20) from tF_j (j := 20) (by decide) (by decide)]) rfl
        · exact aw_absurd (a := xBring t a (cAt 20 (F (χ + 20)) t)) (b := 0) (by simp only [xBring, c4, c11, c18, c48]; (try simp [c4, c11, c18, c48]); (try simpa using c62); (try simpa [c3] using c32)) h
      · exact aw_absurd (a := xBring t a (cAt 20 (F (χ + 20)) t)) (b := 0) (by simp only [xBring, c4, c11, c18]; (try simp [c4, c11, c18]); (try simpa using c62); (try simpa [c3] using c32)) h

abbrev mX6_vessel : ZM := (cX6_vessel, RX6, wsX6_vessel, 6, 0, 0, (some .int), 5, yX6_vessel.name)
set_option maxHeartbeats 1000000 in
set_option maxRecDepth 100000 in
theorem c_X6_vessel_e {sh : zSh} {F : Nat → Nat → Int32} {P : Nat → Nat → Option Nat} {χ : Nat} {t v : Int32} (hY : zSys sh P χ) (h : xVes t v (bVes (zsub F (χ + 1)) v) (bIsVes (zsub F (χ + 1)) t) ≠ 0) : zMet yX6_vessel wsX6_vessel (6) (0) (0) [.ref χ, .int t, .int v] sh F P (some (.int (xVes t v (bVes (zsub F (χ + 1)) v) (bIsVes (zsub F (χ + 1)) t)))) sh F P := by
  refine zMet.of (by decide) rfl (Nat.le_of_ble_eq_true rfl) (by simp [Value.category]) ?_
  intro X ρ
  show AW mX6_vessel X (zMQ mX6_vessel X (some (.int (xVes t v (bVes (zsub F (χ + 1)) v) (bIsVes (zsub F (χ + 1)) t)))) sh F P) 0 [some (.ref χ), some (.int t), some (.int v), none, none] [] ρ sh F P 0 0
  have hinX6 : ∀ w ∈ u_ws RX6 TX6 11, w ∈ wsX6_vessel := by decide +kernel
  obtain ⟨⟨ts, tp0, tp1, tp2, tp3, tp4, tp5, tp6, tp7, ti, tx⟩, hB, hD, hS, hW, hH, hR, hPl, hIm⟩ := id hY
  have hb0 := hB.1
  have hd0 := hD.1
  obtain ⟨hs0, ⟨sp0, sp1, sp2, sp3, sp4, sp5⟩, sh1, sh2, sh3, sh4, sh5, sh6⟩ := id hS
  have hw0 := hW.1
  have hh0 := hH.1
  have hr0 := hR.1
  have wp0 := hW.2.1
  have hwb := hW.st
  refine aw_iload_2 dX6_vessel_0 ?_
  refine aw_bipush (v := (-9)) dX6_vessel_1 (by decide) ?_
  refine aw_icmp_ne (tgt := 10) dX6_vessel_3 (by decide) (fun c3 => ?_) (fun c3 => ?_)
  · refine aw_iconst (v := 0) dX6_vessel_10 (by decide) ?_
    refine aw_istore_3 dX6_vessel_11 ?_
    refine aw_iload_1 dX6_vessel_12 ?_
    refine aw_run (zRun_S (c_X6_isThing ) (Or.inl gX6_vessel_X6_isThing) q_X6_isThing (by decide) rfl rfl (Nat.le_of_ble_eq_true rfl) dX6_vessel_13 ⟨Nat.le_refl _, Nat.le_refl _⟩) ?_
    refine aw_if_eq (tgt := 35) dX6_vessel_16 (by decide) (fun c16 => ?_) (fun c16 => ?_)
    · refine aw_iconst (v := (-1)) dX6_vessel_35 (by decide) ?_
      exact aw_ireturn rfl dX6_vessel_36 ⟨Nat.zero_le _, Nat.zero_le _⟩ (by simp only [xVes, c3, c16]; (try simp [c3, c16]); (try simpa using c62); (try simpa [c3] using c32)) rfl rfl rfl
    · refine aw_iload_3 dX6_vessel_19 ?_
      refine aw_if_ne (tgt := 30) dX6_vessel_20 (by decide) (fun c20 => absurd c20 (fun h => h rfl)) (fun c20 => ?_)
      refine aw_iload_2 dX6_vessel_23 ?_
      refine aw_run (zRun_S (c_X6_isThing ) (Or.inl gX6_vessel_X6_isThing) q_X6_isThing (by decide) rfl rfl (Nat.le_of_ble_eq_true rfl) dX6_vessel_24 ⟨Nat.le_refl _, Nat.le_refl _⟩) ?_
      refine aw_if_eq (tgt := 35) dX6_vessel_27 (by decide) (fun c27 => ?_) (fun c27 => ?_)
      · refine aw_iconst (v := (-1)) dX6_vessel_35 (by decide) ?_
        exact aw_ireturn rfl dX6_vessel_36 ⟨Nat.zero_le _, Nat.zero_le _⟩ (by simp only [xVes, c3, c16, c20, c27]; (try simp [c3, c16, c20, c27]); (try simpa using c62); (try simpa [c3] using c32)) rfl rfl rfl
      · refine aw_iload_1 dX6_vessel_30 ?_
        refine aw_iload_2 dX6_vessel_31 ?_
        refine aw_icmp_ne (tgt := 37) dX6_vessel_32 (by decide) (fun c32 => ?_) (fun c32 => ?_)
        · refine aw_iload_3 dX6_vessel_37 ?_
          refine aw_if_ne (tgt := 68) dX6_vessel_38 (by decide) (fun c38 => absurd c38 (fun h => h rfl)) (fun c38 => ?_)
          refine aw_aload_0 dX6_vessel_41 ?_
          refine aw_getR fX6_0 (fun _ _ => rfl) (by assumption) hinX6 (by decide +kernel : Cond.fieldLink RX6 10 RX6 (TX6 0).2.1 (TX6 0).2.2.1 ∈ wsX6_vessel) (by assumption) dX6_vessel_42 ?_
          refine aw_iload_2 dX6_vessel_45 ?_
          refine aw_run (zRun_V (c_X0_vesselOf (by assumption)) gX6_vessel_X0_vesselOf q_X0_vesselOf rfl (by decide) rfl (by assumption) rfl rfl (Nat.le_of_ble_eq_true rfl) dX6_vessel_46 ⟨Nat.le_refl _, Nat.le_refl _⟩) ?_
          refine aw_bipush (v := (-9)) dX6_vessel_49 (by decide) ?_
          refine aw_icmp_ne (tgt := 65) dX6_vessel_51 (by decide) (fun c51 => ?_) (fun c51 => ?_)
          · refine aw_bipush (v := (-2)) dX6_vessel_65 (by decide) ?_
            exact aw_ireturn rfl dX6_vessel_67 ⟨Nat.zero_le _, Nat.zero_le _⟩ (by simp only [xVes, c3, c16, c20, c27, c32, c38, c51]; (try simp [c3, c16, c20, c27, c32, c38, c51]); (try simpa using c62); (try simpa [c3] using c32)) rfl rfl rfl
          · refine aw_aload_0 dX6_vessel_54 ?_
            refine aw_getR fX6_0 (fun _ _ => rfl) (by assumption) hinX6 (by decide +kernel : Cond.fieldLink RX6 10 RX6 (TX6 0).2.1 (TX6 0).2.2.1 ∈ wsX6_vessel) (by assumption) dX6_vessel_55 ?_
            refine aw_iload_1 dX6_vessel_58 ?_
            refine aw_run (zRun_V (c_X0_isVessel (by assumption)) gX6_vessel_X0_isVessel q_X0_isVessel rfl (by decide) rfl (by assumption) rfl rfl (Nat.le_of_ble_eq_true rfl) dX6_vessel_59 ⟨Nat.le_refl _, Nat.le_refl _⟩) ?_
            refine aw_if_eq (tgt := 68) dX6_vessel_62 (by decide) (fun c62 => ?_) (fun c62 => ?_)
            · exact aw_absurd h (by simp only [xVes, c3, c16, c20, c27, c32, c38, c51, c62]; (try simp [c3, c16, c20, c27, c32, c38, c51, c62]); (try simpa using c62); (try simpa [c3] using c32))
            · refine aw_bipush (v := (-2)) dX6_vessel_65 (by decide) ?_
              exact aw_ireturn rfl dX6_vessel_67 ⟨Nat.zero_le _, Nat.zero_le _⟩ (by simp only [xVes, c3, c16, c20, c27, c32, c38, c51, c62]; (try simp [c3, c16, c20, c27, c32, c38, c51, c62]); (try simpa using c62); (try simpa [c3] using c32)) rfl rfl rfl
        · refine aw_iconst (v := (-1)) dX6_vessel_35 (by decide) ?_
          exact aw_ireturn rfl dX6_vessel_36 ⟨Nat.zero_le _, Nat.zero_le _⟩ (by simp only [xVes, c3, c16, c20, c27, c32]; (try simp [c3, c16, c20, c27, c32]); (try simpa using c62); (try simpa [c3] using c32)) rfl rfl rfl
  · refine aw_iconst (v := 1) dX6_vessel_6 (by decide) ?_
    refine aw_goto (tgt := 11) dX6_vessel_7 (by decide) ?_
    refine aw_istore_3 dX6_vessel_11 ?_
    refine aw_iload_1 dX6_vessel_12 ?_
    refine aw_run (zRun_S (c_X6_isThing ) (Or.inl gX6_vessel_X6_isThing) q_X6_isThing (by decide) rfl rfl (Nat.le_of_ble_eq_true rfl) dX6_vessel_13 ⟨Nat.le_refl _, Nat.le_refl _⟩) ?_
    refine aw_if_eq (tgt := 35) dX6_vessel_16 (by decide) (fun c16 => ?_) (fun c16 => ?_)
    · refine aw_iconst (v := (-1)) dX6_vessel_35 (by decide) ?_
      exact aw_ireturn rfl dX6_vessel_36 ⟨Nat.zero_le _, Nat.zero_le _⟩ (by simp only [xVes, c3, c16]; (try simp [c3, c16]); (try simpa using c62); (try simpa [c3] using c32)) rfl rfl rfl
    · refine aw_iload_3 dX6_vessel_19 ?_
      refine aw_if_ne (tgt := 30) dX6_vessel_20 (by decide) (fun c20 => ?_) (fun c20 => absurd c20 (by decide))
      refine aw_iload_1 dX6_vessel_30 ?_
      refine aw_iload_2 dX6_vessel_31 ?_
      refine aw_icmp_ne (tgt := 37) dX6_vessel_32 (by decide) (fun c32 => ?_) (fun c32 => ?_)
      · refine aw_iload_3 dX6_vessel_37 ?_
        refine aw_if_ne (tgt := 68) dX6_vessel_38 (by decide) (fun c38 => ?_) (fun c38 => absurd c38 (by decide))
        exact aw_absurd h (by simp only [xVes, c3, c16, c20, c32, c38]; (try simp [c3, c16, c20, c32, c38]); (try simpa using c62); (try simpa [c3] using c32))
      · refine aw_iconst (v := (-1)) dX6_vessel_35 (by decide) ?_
        exact aw_ireturn rfl dX6_vessel_36 ⟨Nat.zero_le _, Nat.zero_le _⟩ (by simp only [xVes, c3, c16, c20, c32]; (try simp [c3, c16, c20, c32]); (try simpa using c62); (try simpa [c3] using c32)) rfl rfl rfl

abbrev m1X6_vessel : ZM := (cX6_vessel, RX6, wsX6_vessel, 6, 17, 497, (some .int), 5, yX6_vessel.name)

set_option maxHeartbeats 1000000 in
set_option maxRecDepth 100000 in
theorem c_X6_vessel_o {sh : zSh} {F : Nat → Nat → Int32} {P : Nat → Nat → Option Nat} {χ : Nat} {o s : Nat} {t v : Int32} (hY : zSys sh P χ) (ho : o < 8) (hs : s ≤ 8) (h1 : F (χ + 34) 1 = nI o) (h2 : F (χ + 34) 2 = nI s) (h : xVes t v (bVes (zsub F (χ + 1)) v) (bIsVes (zsub F (χ + 1)) t) = 0) : zMet yX6_vessel wsX6_vessel (6) (17) (497) [.ref χ, .int t, .int v] sh F P (some (.int (bVes (zsub F (χ + 1)) t))) (tS sh P χ ((o + s) % 8)) (va_up (tF F P χ o s) (χ + 8) (cPut 20 (F (χ + 8)) t v)) (tP P χ ((o + s) % 8)) := by
  refine zMet.of (by decide) rfl (Nat.le_of_ble_eq_true rfl) (by simp [Value.category]) ?_
  intro X ρ
  show AW m1X6_vessel X (zMQ m1X6_vessel X (some (.int (bVes (zsub F (χ + 1)) t))) (tS sh P χ ((o + s) % 8)) (va_up (tF F P χ o s) (χ + 8) (cPut 20 (F (χ + 8)) t v)) (tP P χ ((o + s) % 8))) 0 [some (.ref χ), some (.int t), some (.int v), none, none] [] ρ sh F P 0 0
  have hinX6 : ∀ w ∈ u_ws RX6 TX6 11, w ∈ wsX6_vessel := by decide +kernel
  obtain ⟨⟨ts, tp0, tp1, tp2, tp3, tp4, tp5, tp6, tp7, ti, tx⟩, hB, hD, hS, hW, hH, hR, hPl, hIm⟩ := id hY
  have hb0 := hB.1
  have hd0 := hD.1
  obtain ⟨hs0, ⟨sp0, sp1, sp2, sp3, sp4, sp5⟩, sh1, sh2, sh3, sh4, sh5, sh6⟩ := id hS
  have hw0 := hW.1
  have hh0 := hH.1
  have hr0 := hR.1
  have wp0 := hW.2.1
  have hwb := hW.st
  refine aw_iload_2 dX6_vessel_0 ?_
  refine aw_bipush (v := (-9)) dX6_vessel_1 (by decide) ?_
  refine aw_icmp_ne (tgt := 10) dX6_vessel_3 (by decide) (fun c3 => ?_) (fun c3 => ?_)
  · refine aw_iconst (v := 0) dX6_vessel_10 (by decide) ?_
    refine aw_istore_3 dX6_vessel_11 ?_
    refine aw_iload_1 dX6_vessel_12 ?_
    refine aw_run (zRun_S (c_X6_isThing ) (Or.inl gX6_vessel_X6_isThing) q_X6_isThing (by decide) rfl rfl (Nat.le_of_ble_eq_true rfl) dX6_vessel_13 ⟨by decide, by decide⟩) ?_
    refine aw_if_eq (tgt := 35) dX6_vessel_16 (by decide) (fun c16 => ?_) (fun c16 => ?_)
    · exact aw_absurd (a := xVes t v (bVes (zsub F (χ + 1)) v) (bIsVes (zsub F (χ + 1)) t)) (b := 0) (by simp only [xVes, c3, c16]; (try simp [c3, c16]); (try simpa using c62); (try simpa [c3] using c32)) h
    · refine aw_iload_3 dX6_vessel_19 ?_
      refine aw_if_ne (tgt := 30) dX6_vessel_20 (by decide) (fun c20 => absurd c20 (fun h => h rfl)) (fun c20 => ?_)
      refine aw_iload_2 dX6_vessel_23 ?_
      refine aw_run (zRun_S (c_X6_isThing ) (Or.inl gX6_vessel_X6_isThing) q_X6_isThing (by decide) rfl rfl (Nat.le_of_ble_eq_true rfl) dX6_vessel_24 ⟨by decide, by decide⟩) ?_
      refine aw_if_eq (tgt := 35) dX6_vessel_27 (by decide) (fun c27 => ?_) (fun c27 => ?_)
      · exact aw_absurd (a := xVes t v (bVes (zsub F (χ + 1)) v) (bIsVes (zsub F (χ + 1)) t)) (b := 0) (by simp only [xVes, c3, c16, c20, c27]; (try simp [c3, c16, c20, c27]); (try simpa using c62); (try simpa [c3] using c32)) h
      · refine aw_iload_1 dX6_vessel_30 ?_
        refine aw_iload_2 dX6_vessel_31 ?_
        refine aw_icmp_ne (tgt := 37) dX6_vessel_32 (by decide) (fun c32 => ?_) (fun c32 => ?_)
        · refine aw_iload_3 dX6_vessel_37 ?_
          refine aw_if_ne (tgt := 68) dX6_vessel_38 (by decide) (fun c38 => absurd c38 (fun h => h rfl)) (fun c38 => ?_)
          refine aw_aload_0 dX6_vessel_41 ?_
          refine aw_getR fX6_0 (fun _ _ => rfl) (by assumption) hinX6 (by decide +kernel : Cond.fieldLink RX6 10 RX6 (TX6 0).2.1 (TX6 0).2.2.1 ∈ wsX6_vessel) (by assumption) dX6_vessel_42 ?_
          refine aw_iload_2 dX6_vessel_45 ?_
          refine aw_run (zRun_V (c_X0_vesselOf (by assumption)) gX6_vessel_X0_vesselOf q_X0_vesselOf rfl (by decide) rfl (by assumption) rfl rfl (Nat.le_of_ble_eq_true rfl) dX6_vessel_46 ⟨by decide, by decide⟩) ?_
          refine aw_bipush (v := (-9)) dX6_vessel_49 (by decide) ?_
          refine aw_icmp_ne (tgt := 65) dX6_vessel_51 (by decide) (fun c51 => ?_) (fun c51 => ?_)
          · exact aw_absurd (a := xVes t v (bVes (zsub F (χ + 1)) v) (bIsVes (zsub F (χ + 1)) t)) (b := 0) (by simp only [xVes, c3, c16, c20, c27, c32, c38, c51]; (try simp [c3, c16, c20, c27, c32, c38, c51]); (try simpa using c62); (try simpa [c3] using c32)) h
          · refine aw_aload_0 dX6_vessel_54 ?_
            refine aw_getR fX6_0 (fun _ _ => rfl) (by assumption) hinX6 (by decide +kernel : Cond.fieldLink RX6 10 RX6 (TX6 0).2.1 (TX6 0).2.2.1 ∈ wsX6_vessel) (by assumption) dX6_vessel_55 ?_
            refine aw_iload_1 dX6_vessel_58 ?_
            refine aw_run (zRun_V (c_X0_isVessel (by assumption)) gX6_vessel_X0_isVessel q_X0_isVessel rfl (by decide) rfl (by assumption) rfl rfl (Nat.le_of_ble_eq_true rfl) dX6_vessel_59 ⟨by decide, by decide⟩) ?_
            refine aw_if_eq (tgt := 68) dX6_vessel_62 (by decide) (fun c62 => ?_) (fun c62 => ?_)
            · refine aw_aload_0 dX6_vessel_68 ?_
              refine aw_getR fX6_4 (fun _ _ => rfl) (by assumption) hinX6 (by decide +kernel : Cond.fieldLink RX6 36 RX6 (TX6 4).2.1 (TX6 4).2.2.1 ∈ wsX6_vessel) (by assumption) dX6_vessel_69 ?_
              refine aw_aload_0 dX6_vessel_72 ?_
              refine aw_getR fX6_0 (fun _ _ => rfl) (by assumption) hinX6 (by decide +kernel : Cond.fieldLink RX6 10 RX6 (TX6 0).2.1 (TX6 0).2.2.1 ∈ wsX6_vessel) (by assumption) dX6_vessel_73 ?_
              refine aw_aload_0 dX6_vessel_76 ?_
              refine aw_getR fX6_2 (fun _ _ => rfl) (by assumption) hinX6 (by decide +kernel : Cond.fieldLink RX6 22 RX6 (TX6 2).2.1 (TX6 2).2.2.1 ∈ wsX6_vessel) (by assumption) dX6_vessel_77 ?_
              refine aw_runAv (zRun_V (c_rem hY ho hs h1 h2) gX6_vessel_X1_remember q_X1_remember rfl (by decide) rfl (by assumption) rfl rfl (Nat.le_of_ble_eq_true rfl) dX6_vessel_80 ⟨by decide, by decide⟩) (by refine ⟨fun j hj => ?_, fun j hj => ?_⟩ <;> (left; simp at hj <;> (first | (rcases hj with hj | hj | hj) | (rcases hj with hj | hj) | skip) <;> (try rw [hj]) <;> (first | (rw [ts]; simp) | (rw [hb0]; simp) | (rw [hs0]; simp) | (rw [hh0]; simp) | (rw [hw0]; simp)))) (fun ρ => ?_)
              have hYT := hY.trm (a := o + s)
              generalize tS sh P χ ((o + s) % 8) = sT at hYT  ⊢
              generalize tP P χ ((o + s) % 8) = pT at hYT  ⊢
              obtain ⟨⟨ts, tp0, tp1, tp2, tp3, tp4, tp5, tp6, tp7, ti, tx⟩, hB, hD, hS, hW, hH, hR, hPl, hIm⟩ := id hYT
              have hb0 := hB.1
              have hd0 := hD.1
              obtain ⟨hs0, ⟨sp0, sp1, sp2, sp3, sp4, sp5⟩, sh1, sh2, sh3, sh4, sh5, sh6⟩ := id hS
              have hw0 := hW.1
              have hh0 := hH.1
              have hr0 := hR.1
              have wp0 := hW.2.1
              have hwb := hW.st
              refine aw_aload_0 dX6_vessel_83 ?_
              refine aw_getR fX6_0 (fun _ _ => rfl) (by assumption) hinX6 (by decide +kernel : Cond.fieldLink RX6 10 RX6 (TX6 0).2.1 (TX6 0).2.2.1 ∈ wsX6_vessel) (by assumption) dX6_vessel_84 ?_
              refine aw_iload_1 dX6_vessel_87 ?_
              refine aw_run (zRun_V (c_X0_vesselOf (by assumption)) gX6_vessel_X0_vesselOf q_X0_vesselOf rfl (by decide) rfl (by assumption) rfl rfl (Nat.le_of_ble_eq_true rfl) dX6_vessel_88 ⟨by decide, by decide⟩) ?_
              refine aw_istore_4 dX6_vessel_91 ?_
              refine aw_aload_0 dX6_vessel_93 ?_
              refine aw_getR fX6_0 (fun _ _ => rfl) (by assumption) hinX6 (by decide +kernel : Cond.fieldLink RX6 10 RX6 (TX6 0).2.1 (TX6 0).2.2.1 ∈ wsX6_vessel) (by assumption) dX6_vessel_94 ?_
              refine aw_iload_1 dX6_vessel_97 ?_
              refine aw_iload_2 dX6_vessel_98 ?_
              refine aw_runv (zRun_V (c_X0_setVessel (by assumption)) gX6_vessel_X0_setVessel q_X0_setVessel rfl (by decide) rfl (by assumption) rfl rfl (Nat.le_of_ble_eq_true rfl) dX6_vessel_99 ⟨by decide, by decide⟩) ?_
              refine aw_iload_4 dX6_vessel_102 ?_
              exact aw_ireturn rfl dX6_vessel_104 (by decide) (by rw [bVes_v tF_B]) rfl (by rw [show (tF F P χ o s) (χ + 1 + 7) = F (χ + 8) from tF_j (j := 8) (by decide) (by decide)]) rfl
            · exact aw_absurd (a := xVes t v (bVes (zsub F (χ + 1)) v) (bIsVes (zsub F (χ + 1)) t)) (b := 0) (by simp only [xVes, c3, c16, c20, c27, c32, c38, c51, c62]; (try simp [c3, c16, c20, c27, c32, c38, c51, c62]); (try simpa using c62); (try simpa [c3] using c32)) h
        · exact aw_absurd (a := xVes t v (bVes (zsub F (χ + 1)) v) (bIsVes (zsub F (χ + 1)) t)) (b := 0) (by simp only [xVes, c3, c16, c20, c27, c32]; (try simp [c3, c16, c20, c27, c32]); (try simpa using c62); (try simpa [c3] using c32)) h
  · refine aw_iconst (v := 1) dX6_vessel_6 (by decide) ?_
    refine aw_goto (tgt := 11) dX6_vessel_7 (by decide) ?_
    refine aw_istore_3 dX6_vessel_11 ?_
    refine aw_iload_1 dX6_vessel_12 ?_
    refine aw_run (zRun_S (c_X6_isThing ) (Or.inl gX6_vessel_X6_isThing) q_X6_isThing (by decide) rfl rfl (Nat.le_of_ble_eq_true rfl) dX6_vessel_13 ⟨by decide, by decide⟩) ?_
    refine aw_if_eq (tgt := 35) dX6_vessel_16 (by decide) (fun c16 => ?_) (fun c16 => ?_)
    · exact aw_absurd (a := xVes t v (bVes (zsub F (χ + 1)) v) (bIsVes (zsub F (χ + 1)) t)) (b := 0) (by simp only [xVes, c3, c16]; (try simp [c3, c16]); (try simpa using c62); (try simpa [c3] using c32)) h
    · refine aw_iload_3 dX6_vessel_19 ?_
      refine aw_if_ne (tgt := 30) dX6_vessel_20 (by decide) (fun c20 => ?_) (fun c20 => absurd c20 (by decide))
      refine aw_iload_1 dX6_vessel_30 ?_
      refine aw_iload_2 dX6_vessel_31 ?_
      refine aw_icmp_ne (tgt := 37) dX6_vessel_32 (by decide) (fun c32 => ?_) (fun c32 => ?_)
      · refine aw_iload_3 dX6_vessel_37 ?_
        refine aw_if_ne (tgt := 68) dX6_vessel_38 (by decide) (fun c38 => ?_) (fun c38 => absurd c38 (by decide))
        refine aw_aload_0 dX6_vessel_68 ?_
        refine aw_getR fX6_4 (fun _ _ => rfl) (by assumption) hinX6 (by decide +kernel : Cond.fieldLink RX6 36 RX6 (TX6 4).2.1 (TX6 4).2.2.1 ∈ wsX6_vessel) (by assumption) dX6_vessel_69 ?_
        refine aw_aload_0 dX6_vessel_72 ?_
        refine aw_getR fX6_0 (fun _ _ => rfl) (by assumption) hinX6 (by decide +kernel : Cond.fieldLink RX6 10 RX6 (TX6 0).2.1 (TX6 0).2.2.1 ∈ wsX6_vessel) (by assumption) dX6_vessel_73 ?_
        refine aw_aload_0 dX6_vessel_76 ?_
        refine aw_getR fX6_2 (fun _ _ => rfl) (by assumption) hinX6 (by decide +kernel : Cond.fieldLink RX6 22 RX6 (TX6 2).2.1 (TX6 2).2.2.1 ∈ wsX6_vessel) (by assumption) dX6_vessel_77 ?_
        refine aw_runAv (zRun_V (c_rem hY ho hs h1 h2) gX6_vessel_X1_remember q_X1_remember rfl (by decide) rfl (by assumption) rfl rfl (Nat.le_of_ble_eq_true rfl) dX6_vessel_80 ⟨by decide, by decide⟩) (by refine ⟨fun j hj => ?_, fun j hj => ?_⟩ <;> (left; simp at hj <;> (first | (rcases hj with hj | hj | hj) | (rcases hj with hj | hj) | skip) <;> (try rw [hj]) <;> (first | (rw [ts]; simp) | (rw [hb0]; simp) | (rw [hs0]; simp) | (rw [hh0]; simp) | (rw [hw0]; simp)))) (fun ρ => ?_)
        have hYT := hY.trm (a := o + s)
        generalize tS sh P χ ((o + s) % 8) = sT at hYT  ⊢
        generalize tP P χ ((o + s) % 8) = pT at hYT  ⊢
        obtain ⟨⟨ts, tp0, tp1, tp2, tp3, tp4, tp5, tp6, tp7, ti, tx⟩, hB, hD, hS, hW, hH, hR, hPl, hIm⟩ := id hYT
        have hb0 := hB.1
        have hd0 := hD.1
        obtain ⟨hs0, ⟨sp0, sp1, sp2, sp3, sp4, sp5⟩, sh1, sh2, sh3, sh4, sh5, sh6⟩ := id hS
        have hw0 := hW.1
        have hh0 := hH.1
        have hr0 := hR.1
        have wp0 := hW.2.1
        have hwb := hW.st
        refine aw_aload_0 dX6_vessel_83 ?_
        refine aw_getR fX6_0 (fun _ _ => rfl) (by assumption) hinX6 (by decide +kernel : Cond.fieldLink RX6 10 RX6 (TX6 0).2.1 (TX6 0).2.2.1 ∈ wsX6_vessel) (by assumption) dX6_vessel_84 ?_
        refine aw_iload_1 dX6_vessel_87 ?_
        refine aw_run (zRun_V (c_X0_vesselOf (by assumption)) gX6_vessel_X0_vesselOf q_X0_vesselOf rfl (by decide) rfl (by assumption) rfl rfl (Nat.le_of_ble_eq_true rfl) dX6_vessel_88 ⟨by decide, by decide⟩) ?_
        refine aw_istore_4 dX6_vessel_91 ?_
        refine aw_aload_0 dX6_vessel_93 ?_
        refine aw_getR fX6_0 (fun _ _ => rfl) (by assumption) hinX6 (by decide +kernel : Cond.fieldLink RX6 10 RX6 (TX6 0).2.1 (TX6 0).2.2.1 ∈ wsX6_vessel) (by assumption) dX6_vessel_94 ?_
        refine aw_iload_1 dX6_vessel_97 ?_
        refine aw_iload_2 dX6_vessel_98 ?_
        refine aw_runv (zRun_V (c_X0_setVessel (by assumption)) gX6_vessel_X0_setVessel q_X0_setVessel rfl (by decide) rfl (by assumption) rfl rfl (Nat.le_of_ble_eq_true rfl) dX6_vessel_99 ⟨by decide, by decide⟩) ?_
        refine aw_iload_4 dX6_vessel_102 ?_
        exact aw_ireturn rfl dX6_vessel_104 (by decide) (by rw [bVes_v tF_B]) rfl (by rw [show (tF F P χ o s) (χ + 1 + 7) = F (χ + 8) from tF_j (j := 8) (by decide) (by decide)]) rfl
      · exact aw_absurd (a := xVes t v (bVes (zsub F (χ + 1)) v) (bIsVes (zsub F (χ + 1)) t)) (b := 0) (by simp only [xVes, c3, c16, c20, c32]; (try simp [c3, c16, c20, c32]); (try simpa using c62); (try simpa [c3] using c32)) h

abbrev mX6_undo : ZM := (cX6_undo, RX6, wsX6_undo, 6, 0, 0, (some .int), 1, yX6_undo.name)
set_option maxHeartbeats 1000000 in
set_option maxRecDepth 100000 in
theorem c_X6_undo_e {sh : zSh} {F : Nat → Nat → Int32} {P : Nat → Nat → Option Nat} {χ : Nat} (hY : zSys sh P χ) (h : F (χ + 34) 2 < 1) : zMet yX6_undo wsX6_undo (6) (0) (0) [.ref χ] sh F P (some (.int (-2))) sh F P := by
  refine zMet.of (by decide) rfl (Nat.le_of_ble_eq_true rfl) (by simp [Value.category]) ?_
  intro X ρ
  show AW mX6_undo X (zMQ mX6_undo X (some (.int (-2))) sh F P) 0 [some (.ref χ)] [] ρ sh F P 0 0
  have hinX6 : ∀ w ∈ u_ws RX6 TX6 11, w ∈ wsX6_undo := by decide +kernel
  obtain ⟨⟨ts, tp0, tp1, tp2, tp3, tp4, tp5, tp6, tp7, ti, tx⟩, hB, hD, hS, hW, hH, hR, hPl, hIm⟩ := id hY
  have hb0 := hB.1
  have hd0 := hD.1
  obtain ⟨hs0, ⟨sp0, sp1, sp2, sp3, sp4, sp5⟩, sh1, sh2, sh3, sh4, sh5, sh6⟩ := id hS
  have hw0 := hW.1
  have hh0 := hH.1
  have hr0 := hR.1
  have wp0 := hW.2.1
  have hwb := hW.st
  refine aw_aload_0 dX6_undo_0 ?_
  refine aw_getR fX6_4 (fun _ _ => rfl) (by assumption) hinX6 (by decide +kernel : Cond.fieldLink RX6 36 RX6 (TX6 4).2.1 (TX6 4).2.2.1 ∈ wsX6_undo) (by assumption) dX6_undo_1 ?_
  refine aw_run (zRun_V (c_X1_size hH) gX6_undo_X1_size q_X1_size rfl (by decide) rfl (by assumption) rfl rfl (Nat.le_of_ble_eq_true rfl) dX6_undo_4 ⟨Nat.le_refl _, Nat.le_refl _⟩) ?_
  refine aw_iconst (v := 1) dX6_undo_7 (by decide) ?_
  refine aw_icmp_ge (tgt := 14) dX6_undo_8 (by decide) (fun c8 => absurd c8 (Int32.not_le.mpr h)) (fun c8 => ?_)
  refine aw_bipush (v := (-2)) dX6_undo_11 (by decide) ?_
  exact aw_ireturn rfl dX6_undo_13 ⟨Nat.zero_le _, Nat.zero_le _⟩ (by first | rfl | simp [c8]) rfl rfl rfl

set_option maxHeartbeats 1000000 in
set_option maxRecDepth 100000 in
theorem c_X6_undo_o {sh : zSh} {F : Nat → Nat → Int32} {P : Nat → Nat → Option Nat} {χ : Nat} {o s : Nat} (hY : zSys sh P χ) (ho : o < 8) (hs : s ≤ 8) (h1 : F (χ + 34) 1 = nI o) (h2 : F (χ + 34) 2 = nI s) (hs1 : 1 ≤ s) (hk : P (χ + 35) ((o + (s - 1)) % 8) ≠ none) : zMet yX6_undo wsX6_undo (6) (0) (0) [.ref χ] sh F P (some (.int (nI (s - 1)))) sh (layF (va_up F (χ + 34) (upd (F (χ + 34)) 2 (nI (s - 1)))) (χ + 59 + 17 * ((o + (s - 1)) % 8)) (χ + 1) (χ + 19)) P := by
  refine zMet.of (by decide) rfl (Nat.le_of_ble_eq_true rfl) (by simp [Value.category]) ?_
  intro X ρ
  show AW mX6_undo X (zMQ mX6_undo X (some (.int (nI (s - 1)))) sh (layF (va_up F (χ + 34) (upd (F (χ + 34)) 2 (nI (s - 1)))) (χ + 59 + 17 * ((o + (s - 1)) % 8)) (χ + 1) (χ + 19)) P) 0 [some (.ref χ)] [] ρ sh F P 0 0
  have hinX6 : ∀ w ∈ u_ws RX6 TX6 11, w ∈ wsX6_undo := by decide +kernel
  obtain ⟨⟨ts, tp0, tp1, tp2, tp3, tp4, tp5, tp6, tp7, ti, tx⟩, hB, hD, hS, hW, hH, hR, hPl, hIm⟩ := id hY
  have hb0 := hB.1
  have hd0 := hD.1
  obtain ⟨hs0, ⟨sp0, sp1, sp2, sp3, sp4, sp5⟩, sh1, sh2, sh3, sh4, sh5, sh6⟩ := id hS
  have hw0 := hW.1
  have hh0 := hH.1
  have hr0 := hR.1
  have wp0 := hW.2.1
  have hwb := hW.st
  have hq : P (χ + 35) ((o + (s - 1)) % 8) = some (χ + 59 + 17 * ((o + (s - 1)) % 8)) ∧ zSta sh P (χ + 59 + 17 * ((o + (s - 1)) % 8)) := (hPl _ (Nat.mod_lt _ (by decide))).resolve_right (fun h => hk h.1)
  refine aw_aload_0 dX6_undo_0 ?_
  refine aw_getR fX6_4 (fun _ _ => rfl) (by assumption) hinX6 (by decide +kernel : Cond.fieldLink RX6 36 RX6 (TX6 4).2.1 (TX6 4).2.2.1 ∈ wsX6_undo) (by assumption) dX6_undo_1 ?_
  refine aw_run (zRun_V (c_X1_size hH) gX6_undo_X1_size q_X1_size rfl (by decide) rfl (by assumption) rfl rfl (Nat.le_of_ble_eq_true rfl) dX6_undo_4 ⟨Nat.le_refl _, Nat.le_refl _⟩) ?_
  refine aw_iconst (v := 1) dX6_undo_7 (by decide) ?_
  refine aw_icmp_ge (tgt := 14) dX6_undo_8 (by decide) (fun c8 => ?_) (fun c8 => absurd (by rw [h2]; exact nI_le hs1 (by omega)) c8)
  refine aw_aload_0 dX6_undo_14 ?_
  refine aw_getR fX6_4 (fun _ _ => rfl) (by assumption) hinX6 (by decide +kernel : Cond.fieldLink RX6 36 RX6 (TX6 4).2.1 (TX6 4).2.2.1 ∈ wsX6_undo) (by assumption) dX6_undo_15 ?_
  refine aw_aload_0 dX6_undo_18 ?_
  refine aw_getR fX6_0 (fun _ _ => rfl) (by assumption) hinX6 (by decide +kernel : Cond.fieldLink RX6 10 RX6 (TX6 0).2.1 (TX6 0).2.2.1 ∈ wsX6_undo) (by assumption) dX6_undo_19 ?_
  refine aw_aload_0 dX6_undo_22 ?_
  refine aw_getR fX6_2 (fun _ _ => rfl) (by assumption) hinX6 (by decide +kernel : Cond.fieldLink RX6 22 RX6 (TX6 2).2.1 (TX6 2).2.2.1 ∈ wsX6_undo) (by assumption) dX6_undo_23 ?_
  refine aw_runv (zRun_V (c_X1_restore hH ho hs hs1 h1 h2 hq.1 hq.2 hB hS (by omega) (by omega) (by omega) (by omega) (by omega) (by omega)) gX6_undo_X1_restore q_X1_restore rfl (by decide) rfl (by assumption) rfl rfl (Nat.le_of_ble_eq_true rfl) dX6_undo_26 ⟨Nat.le_refl _, Nat.le_refl _⟩) ?_
  refine aw_aload_0 dX6_undo_29 ?_
  refine aw_getR fX6_4 (fun _ _ => rfl) (by assumption) hinX6 (by decide +kernel : Cond.fieldLink RX6 36 RX6 (TX6 4).2.1 (TX6 4).2.2.1 ∈ wsX6_undo) (by assumption) dX6_undo_30 ?_
  refine aw_run (zRun_V (c_X1_size hH) gX6_undo_X1_size q_X1_size rfl (by decide) rfl (by assumption) rfl rfl (Nat.le_of_ble_eq_true rfl) dX6_undo_33 ⟨Nat.le_refl _, Nat.le_refl _⟩) ?_
  exact aw_ireturn rfl dX6_undo_36 ⟨Nat.zero_le _, Nat.zero_le _⟩ (by unfold layF; rw [zput_ne (by omega), zput_ne (by omega), zup_eq]; rfl) rfl rfl rfl

abbrev mX6_acceptWorks : ZM := (cX6_acceptWorks, RX6, wsX6_acceptWorks, 6, 17, 497, (some .int), 1, yX6_acceptWorks.name)
set_option maxHeartbeats 1000000 in
set_option maxRecDepth 100000 in
theorem c_X6_acceptWorks {sh : zSh} {F : Nat → Nat → Int32} {P : Nat → Nat → Option Nat} {χ : Nat} {o s : Nat} (hY : zSys sh P χ) (ho : o < 8) (hs : s ≤ 8) (h1 : F (χ + 34) 1 = nI o) (h2 : F (χ + 34) 2 = nI s) : zMet yX6_acceptWorks wsX6_acceptWorks (6) (17) (497) [.ref χ] sh F P (some (.int (F (χ + 26) 4))) (tS sh P χ ((o + s) % 8)) (zput (tF F P χ o s) (χ + 19) 7 (sCopy (zsub (tF F P χ o s) (χ + 19)) (zsub (tF F P χ o s) (χ + 27)))) (tP P χ ((o + s) % 8)) := by
  refine zMet.of (by decide) rfl (Nat.le_of_ble_eq_true rfl) (by simp [Value.category]) ?_
  intro X ρ
  show AW mX6_acceptWorks X (zMQ mX6_acceptWorks X (some (.int (F (χ + 26) 4))) (tS sh P χ ((o + s) % 8)) (zput (tF F P χ o s) (χ + 19) 7 (sCopy (zsub (tF F P χ o s) (χ + 19)) (zsub (tF F P χ o s) (χ + 27)))) (tP P χ ((o + s) % 8))) 0 [some (.ref χ)] [] ρ sh F P 0 0
  have hinX6 : ∀ w ∈ u_ws RX6 TX6 11, w ∈ wsX6_acceptWorks := by decide +kernel
  have hinX5 : ∀ w ∈ u_ws RX5 TX5 5, w ∈ wsX6_acceptWorks := by decide +kernel
  obtain ⟨⟨ts, tp0, tp1, tp2, tp3, tp4, tp5, tp6, tp7, ti, tx⟩, hB, hD, hS, hW, hH, hR, hPl, hIm⟩ := id hY
  have hb0 := hB.1
  have hd0 := hD.1
  obtain ⟨hs0, ⟨sp0, sp1, sp2, sp3, sp4, sp5⟩, sh1, sh2, sh3, sh4, sh5, sh6⟩ := id hS
  have hw0 := hW.1
  have hh0 := hH.1
  have hr0 := hR.1
  have wp0 := hW.2.1
  have hwb := hW.st
  refine aw_aload_0 dX6_acceptWorks_0 ?_
  refine aw_getR fX6_4 (fun _ _ => rfl) (by assumption) hinX6 (by decide +kernel : Cond.fieldLink RX6 36 RX6 (TX6 4).2.1 (TX6 4).2.2.1 ∈ wsX6_acceptWorks) (by assumption) dX6_acceptWorks_1 ?_
  refine aw_aload_0 dX6_acceptWorks_4 ?_
  refine aw_getR fX6_0 (fun _ _ => rfl) (by assumption) hinX6 (by decide +kernel : Cond.fieldLink RX6 10 RX6 (TX6 0).2.1 (TX6 0).2.2.1 ∈ wsX6_acceptWorks) (by assumption) dX6_acceptWorks_5 ?_
  refine aw_aload_0 dX6_acceptWorks_8 ?_
  refine aw_getR fX6_2 (fun _ _ => rfl) (by assumption) hinX6 (by decide +kernel : Cond.fieldLink RX6 22 RX6 (TX6 2).2.1 (TX6 2).2.2.1 ∈ wsX6_acceptWorks) (by assumption) dX6_acceptWorks_9 ?_
  refine aw_runAv (zRun_V (c_rem hY ho hs h1 h2) gX6_acceptWorks_X1_remember q_X1_remember rfl (by decide) rfl (by assumption) rfl rfl (Nat.le_of_ble_eq_true rfl) dX6_acceptWorks_12 ⟨by decide, by decide⟩) (by refine ⟨fun j hj => ?_, fun j hj => ?_⟩ <;> (left; simp at hj <;> (first | (rcases hj with hj | hj | hj) | (rcases hj with hj | hj) | skip) <;> (try rw [hj]) <;> (first | (rw [ts]; simp) | (rw [hb0]; simp) | (rw [hs0]; simp) | (rw [hh0]; simp) | (rw [hw0]; simp)))) (fun ρ => ?_)
  have hYT := hY.trm (a := o + s)
  generalize tS sh P χ ((o + s) % 8) = sT at hYT  ⊢
  generalize tP P χ ((o + s) % 8) = pT at hYT  ⊢
  obtain ⟨⟨ts, tp0, tp1, tp2, tp3, tp4, tp5, tp6, tp7, ti, tx⟩, hB, hD, hS, hW, hH, hR, hPl, hIm⟩ := id hYT
  have hb0 := hB.1
  have hd0 := hD.1
  obtain ⟨hs0, ⟨sp0, sp1, sp2, sp3, sp4, sp5⟩, sh1, sh2, sh3, sh4, sh5, sh6⟩ := id hS
  have hw0 := hW.1
  have hh0 := hH.1
  have hr0 := hR.1
  have wp0 := hW.2.1
  have hwb := hW.st
  refine aw_aload_0 dX6_acceptWorks_15 ?_
  refine aw_getR fX6_2 (fun _ _ => rfl) (by assumption) hinX6 (by decide +kernel : Cond.fieldLink RX6 22 RX6 (TX6 2).2.1 (TX6 2).2.2.1 ∈ wsX6_acceptWorks) (by assumption) dX6_acceptWorks_16 ?_
  refine aw_aload_0 dX6_acceptWorks_19 ?_
  refine aw_getR fX6_3 (fun _ _ => rfl) (by assumption) hinX6 (by decide +kernel : Cond.fieldLink RX6 29 RX6 (TX6 3).2.1 (TX6 3).2.2.1 ∈ wsX6_acceptWorks) (by assumption) dX6_acceptWorks_20 ?_
  refine aw_getRN (q := 7) fX5_0 (fun _ _ => rfl) (by assumption) hinX5 rfl (by assumption) dX6_acceptWorks_23 ?_
  refine aw_runv (zRun_V (c_X4_copyFrom hS hwb (by omega)) gX6_acceptWorks_X4_copyFrom q_X4_copyFrom rfl (by decide) rfl (by assumption) rfl rfl (Nat.le_of_ble_eq_true rfl) dX6_acceptWorks_26 ⟨by decide, by decide⟩) ?_
  refine aw_aload_0 dX6_acceptWorks_29 ?_
  refine aw_getR fX6_3 (fun _ _ => rfl) (by assumption) hinX6 (by decide +kernel : Cond.fieldLink RX6 29 RX6 (TX6 3).2.1 (TX6 3).2.2.1 ∈ wsX6_acceptWorks) (by assumption) dX6_acceptWorks_30 ?_
  refine aw_run (zRun_V (c_X5_gathered hW zVw.self) gX6_acceptWorks_X5_gathered q_X5_gathered rfl (by decide) rfl (by assumption) rfl rfl (Nat.le_of_ble_eq_true rfl) dX6_acceptWorks_33 ⟨by decide, by decide⟩) ?_
  exact aw_ireturn rfl dX6_acceptWorks_36 (by decide) (by rw [show zsub (zput (tF F P χ o s) (χ + 19) 7 (sCopy (zsub (tF F P χ o s) (χ + 19)) (zsub (tF F P χ o s) (χ + 27)))) (χ + 26) 0 = F (χ + 26) from (zput_ne (by omega)).trans (tF_j (j := 26) (by decide) (by decide))]) rfl rfl rfl

