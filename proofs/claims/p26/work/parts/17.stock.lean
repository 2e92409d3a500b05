/-! ===== 17.stock: Stock.copyFrom, Works' entries, State.hold, layOut ===== -/
/-- a stock's memory, laid as another's: 0 its object (place 6 the batches), 1..6 its rows -/
def sCopy (S G : Nat → Nat → Int32) : Nat → Nat → Int32 := va_up (va_up (va_up (va_up (va_up (va_up (va_up S 1 (cCopy 20 (G 1) (S 1))) 2 (cCopy 20 (G 2) (S 2))) 3 (cCopy 20 (G 3) (S 3))) 4 (cCopy 20 (G 4) (S 4))) 5 (cCopy 20 (G 5) (S 5))) 6 (cCopy 20 (G 6) (S 6))) 0 (upd (S 0) 6 (G 0 6))
theorem zup_comm {α : Type} {F : Nat → α} {a b : Nat} {x y : α} (h : a ≠ b) : va_up (va_up F a x) b y = va_up (va_up F b y) a x := by
  funext j
  by_cases h1 : j = a
  · subst h1
    rw [zup_eq, zup_ne h, zup_eq]
  · by_cases h2 : j = b
    · subst h2
      rw [zup_eq, zup_ne h1, zup_eq]
    · rw [zup_ne h2, zup_ne h1, zup_ne h1, zup_ne h2]
theorem zput_up0 {F : Nat → Nat → Int32} {b n : Nat} {B : Nat → Nat → Int32} {x : Nat → Int32} (h : 0 < n) : zput F b n (va_up B 0 x) = va_up (zput F b n B) b x := zput_up (j := 0) h

abbrev mX4_copyFrom : ZM := (cX4_copyFrom, RX4, wsX4_copyFrom, 3, 0, 0, none, 2, yX4_copyFrom.name)
set_option maxHeartbeats 1000000 in
set_option maxRecDepth 100000 in
theorem c_X4_copyFrom {sh : zSh} {F : Nat → Nat → Int32} {P : Nat → Nat → Option Nat} {σ τ : Nat} (hS : zSt sh P σ) (hT : zSt sh P τ) (hd : σ + 7 ≤ τ ∨ τ + 7 ≤ σ) : zMet yX4_copyFrom wsX4_copyFrom (3) (0) (0) [.ref σ, .ref τ] sh F P (none) sh (zput F σ 7 (sCopy (zsub F σ) (zsub F τ))) P := by
  refine zMet.of (by decide) rfl (Nat.le_of_ble_eq_true rfl) (by simp [Value.category]) ?_
  intro X ρ
  show AW mX4_copyFrom X (zMQ mX4_copyFrom X (none) sh (zput F σ 7 (sCopy (zsub F σ) (zsub F τ))) P) 0 [some (.ref σ), some (.ref τ)] [] ρ sh F P 0 0
  have hinX4 : ∀ w ∈ u_ws RX4 TX4 7, w ∈ wsX4_copyFrom := by decide +kernel
  obtain ⟨hs, ⟨p0, p1, p2, p3, p4, p5⟩, s1, s2, s3, s4, s5, s6⟩ := id hS
  obtain ⟨ht, ⟨r0, r1, r2, r3, r4, r5⟩, t1, t2, t3, t4, t5, t6⟩ := id hT
  refine aw_aload_1 dX4_copyFrom_0 ?_
  refine aw_getR fX4_0 (fun _ _ => rfl) (by assumption) hinX4 (by decide +kernel : Cond.fieldLink RX4 9 RX4 (TX4 0).2.1 (TX4 0).2.2.1 ∈ wsX4_copyFrom) (by assumption) dX4_copyFrom_1 ?_
  refine aw_aload_0 dX4_copyFrom_4 ?_
  refine aw_getR fX4_0 (fun _ _ => rfl) (by assumption) hinX4 (by decide +kernel : Cond.fieldLink RX4 9 RX4 (TX4 0).2.1 (TX4 0).2.2.1 ∈ wsX4_copyFrom) (by assumption) dX4_copyFrom_5 ?_
  refine aw_runv (zRun_SN (qn := 15) (c_X6_copy (by assumption) (by assumption) (by decide)) gX4_copyFrom_X6_copy_n30 rfl (by decide +kernel : Cond.static yX6_copy ∈ wsX4_copyFrom) (by decide +kernel : Cond.initialized yX6_copy.cls ∈ wsX4_copyFrom) q_X6_copy (by decide) rfl rfl (Nat.le_of_ble_eq_true rfl) dX4_copyFrom_8 ⟨Nat.le_refl _, Nat.le_refl _⟩) ?_
  refine aw_aload_1 dX4_copyFrom_11 ?_
  refine aw_getR fX4_1 (fun _ _ => rfl) (by assumption) hinX4 (by decide +kernel : Cond.fieldLink RX4 15 RX4 (TX4 1).2.1 (TX4 1).2.2.1 ∈ wsX4_copyFrom) (by assumption) dX4_copyFrom_12 ?_
  refine aw_aload_0 dX4_copyFrom_15 ?_
  refine aw_getR fX4_1 (fun _ _ => rfl) (by assumption) hinX4 (by decide +kernel : Cond.fieldLink RX4 15 RX4 (TX4 1).2.1 (TX4 1).2.2.1 ∈ wsX4_copyFrom) (by assumption) dX4_copyFrom_16 ?_
  refine aw_runv (zRun_SN (qn := 15) (c_X6_copy (by assumption) (by assumption) (by decide)) gX4_copyFrom_X6_copy_n30 rfl (by decide +kernel : Cond.static yX6_copy ∈ wsX4_copyFrom) (by decide +kernel : Cond.initialized yX6_copy.cls ∈ wsX4_copyFrom) q_X6_copy (by decide) rfl rfl (Nat.le_of_ble_eq_true rfl) dX4_copyFrom_19 ⟨Nat.le_refl _, Nat.le_refl _⟩) ?_
  refine aw_aload_1 dX4_copyFrom_22 ?_
  refine aw_getR fX4_2 (fun _ _ => rfl) (by assumption) hinX4 (by decide +kernel : Cond.fieldLink RX4 18 RX4 (TX4 2).2.1 (TX4 2).2.2.1 ∈ wsX4_copyFrom) (by assumption) dX4_copyFrom_23 ?_
  refine aw_aload_0 dX4_copyFrom_26 ?_
  refine aw_getR fX4_2 (fun _ _ => rfl) (by assumption) hinX4 (by decide +kernel : Cond.fieldLink RX4 18 RX4 (TX4 2).2.1 (TX4 2).2.2.1 ∈ wsX4_copyFrom) (by assumption) dX4_copyFrom_27 ?_
  refine aw_runv (zRun_SN (qn := 15) (c_X6_copy (by assumption) (by assumption) (by decide)) gX4_copyFrom_X6_copy_n30 rfl (by decide +kernel : Cond.static yX6_copy ∈ wsX4_copyFrom) (by decide +kernel : Cond.initialized yX6_copy.cls ∈ wsX4_copyFrom) q_X6_copy (by decide) rfl rfl (Nat.le_of_ble_eq_true rfl) dX4_copyFrom_30 ⟨Nat.le_refl _, Nat.le_refl _⟩) ?_
  refine aw_aload_1 dX4_copyFrom_33 ?_
  refine aw_getR fX4_3 (fun _ _ => rfl) (by assumption) hinX4 (by decide +kernel : Cond.fieldLink RX4 21 RX4 (TX4 3).2.1 (TX4 3).2.2.1 ∈ wsX4_copyFrom) (by assumption) dX4_copyFrom_34 ?_
  refine aw_aload_0 dX4_copyFrom_37 ?_
  refine aw_getR fX4_3 (fun _ _ => rfl) (by assumption) hinX4 (by decide +kernel : Cond.fieldLink RX4 21 RX4 (TX4 3).2.1 (TX4 3).2.2.1 ∈ wsX4_copyFrom) (by assumption) dX4_copyFrom_38 ?_
  refine aw_runv (zRun_SN (qn := 15) (c_X6_copy (by assumption) (by assumption) (by decide)) gX4_copyFrom_X6_copy_n30 rfl (by decide +kernel : Cond.static yX6_copy ∈ wsX4_copyFrom) (by decide +kernel : Cond.initialized yX6_copy.cls ∈ wsX4_copyFrom) q_X6_copy (by decide) rfl rfl (Nat.le_of_ble_eq_true rfl) dX4_copyFrom_41 ⟨Nat.le_refl _, Nat.le_refl _⟩) ?_
  refine aw_aload_1 dX4_copyFrom_44 ?_
  refine aw_getR fX4_4 (fun _ _ => rfl) (by assumption) hinX4 (by decide +kernel : Cond.fieldLink RX4 24 RX4 (TX4 4).2.1 (TX4 4).2.2.1 ∈ wsX4_copyFrom) (by assumption) dX4_copyFrom_45 ?_
  refine aw_aload_0 dX4_copyFrom_48 ?_
  refine aw_getR fX4_4 (fun _ _ => rfl) (by assumption) hinX4 (by decide +kernel : Cond.fieldLink RX4 24 RX4 (TX4 4).2.1 (TX4 4).2.2.1 ∈ wsX4_copyFrom) (by assumption) dX4_copyFrom_49 ?_
  refine aw_runv (zRun_SN (qn := 15) (c_X6_copy (by assumption) (by assumption) (by decide)) gX4_copyFrom_X6_copy_n30 rfl (by decide +kernel : Cond.static yX6_copy ∈ wsX4_copyFrom) (by decide +kernel : Cond.initialized yX6_copy.cls ∈ wsX4_copyFrom) q_X6_copy (by decide) rfl rfl (Nat.le_of_ble_eq_true rfl) dX4_copyFrom_52 ⟨Nat.le_refl _, Nat.le_refl _⟩) ?_
  refine aw_aload_1 dX4_copyFrom_55 ?_
  refine aw_getR fX4_5 (fun _ _ => rfl) (by assumption) hinX4 (by decide +kernel : Cond.fieldLink RX4 27 RX4 (TX4 5).2.1 (TX4 5).2.2.1 ∈ wsX4_copyFrom) (by assumption) dX4_copyFrom_56 ?_
  refine aw_aload_0 dX4_copyFrom_59 ?_
  refine aw_getR fX4_5 (fun _ _ => rfl) (by assumption) hinX4 (by decide +kernel : Cond.fieldLink RX4 27 RX4 (TX4 5).2.1 (TX4 5).2.2.1 ∈ wsX4_copyFrom) (by assumption) dX4_copyFrom_60 ?_
  refine aw_runv (zRun_SN (qn := 15) (c_X6_copy (by assumption) (by assumption) (by decide)) gX4_copyFrom_X6_copy_n30 rfl (by decide +kernel : Cond.static yX6_copy ∈ wsX4_copyFrom) (by decide +kernel : Cond.initialized yX6_copy.cls ∈ wsX4_copyFrom) q_X6_copy (by decide) rfl rfl (Nat.le_of_ble_eq_true rfl) dX4_copyFrom_63 ⟨Nat.le_refl _, Nat.le_refl _⟩) ?_
  refine aw_aload_0 dX4_copyFrom_66 ?_
  refine aw_aload_1 dX4_copyFrom_67 ?_
  refine aw_getI fX4_6 hinX4 (by decide +kernel : Cond.fieldLink RX4 34 RX4 (TX4 6).2.1 (TX4 6).2.2.1 ∈ wsX4_copyFrom) (by assumption) dX4_copyFrom_68 ?_
  refine aw_putI fX4_6 rfl hinX4 (by decide +kernel : Cond.fieldLink RX4 34 RX4 (TX4 6).2.1 (TX4 6).2.2.1 ∈ wsX4_copyFrom) (by assumption) dX4_copyFrom_71 ?_
  exact aw_return rfl dX4_copyFrom_74 ⟨Nat.zero_le _, Nat.zero_le _⟩ rfl rfl (by unfold sCopy; simp (disch := omega) only [zup_ne, zup_eq, zput_up0, zput_up, zput_id, zput_at, zput_ne, zsub_up, zu_up]; rfl) rfl

def zSta (sh : zSh) (P : Nat → Nat → Option Nat) (τ : Nat) : Prop := sh τ = some (.inl 3) ∧ P τ 0 = some (τ + 1) ∧ P τ 1 = some (τ + 10) ∧ zBk sh P (τ + 1) ∧ zSt sh P (τ + 10)
theorem zput_ext {F : Nat → Nat → Int32} {b n : Nat} {B C : Nat → Nat → Int32} (h : ∀ j, j < n → B j = C j) : zput F b n B = zput F b n C := by
  funext i
  by_cases e : b ≤ i ∧ i < b + n
  · simp only [zput, if_pos e]
    exact h _ (by omega)
  · simp only [zput, if_neg e]
theorem sCopy_j {S S' G G' : Nat → Nat → Int32} (h : ∀ j, j < 7 → S j = S' j) (g : ∀ j, j < 7 → G j = G' j) : ∀ j, j < 7 → sCopy S G j = sCopy S' G' j := by
  intro j hj
  have hs : ∀ {a : Nat} {x : Nat → Int32} {A A' : Nat → Nat → Int32}, (∀ j, j < 7 → A j = A' j) → ∀ j, j < 7 → va_up A a x j = va_up A' a x j := by
    intro a x A A' hA j hj
    by_cases e : j = a
    · subst e
      rw [zup_eq, zup_eq]
    · rw [zup_ne e, zup_ne e, hA j hj]
  unfold sCopy
  rw [h 0 (by decide), h 1 (by decide), h 2 (by decide), h 3 (by decide), h 4 (by decide), h 5 (by decide), h 6 (by decide), g 0 (by decide), g 1 (by decide), g 2 (by decide), g 3 (by decide), g 4 (by decide), g 5 (by decide), g 6 (by decide)]
  exact hs (hs (hs (hs (hs (hs (hs h)))))) j hj
theorem sCopy_v {F : Nat → Nat → Int32} {b : Nat} {S S' G G' : Nat → Nat → Int32} (h : ∀ j, j < 7 → S j = S' j) (g : ∀ j, j < 7 → G j = G' j) : zput F b 7 (sCopy S G) = zput F b 7 (sCopy S' G') := zput_ext (sCopy_j h g)
theorem bCopy_j {S S' G G' : Nat → Nat → Int32} (h : ∀ j, j < 9 → S j = S' j) (g : ∀ j, j < 9 → G j = G' j) : ∀ j, j < 9 → bCopy S G j = bCopy S' G' j := by
  intro j hj
  have hs : ∀ {a : Nat} {x : Nat → Int32} {A A' : Nat → Nat → Int32}, (∀ j, j < 9 → A j = A' j) → ∀ j, j < 9 → va_up A a x j = va_up A' a x j := by
    intro a x A A' hA j hj
    by_cases e : j = a
    · subst e
      rw [zup_eq, zup_eq]
    · rw [zup_ne e, zup_ne e, hA j hj]
  unfold bCopy
  rw [h 1 (by decide), h 2 (by decide), h 3 (by decide), h 4 (by decide), h 5 (by decide), h 6 (by decide), h 7 (by decide), h 8 (by decide), g 1 (by decide), g 2 (by decide), g 3 (by decide), g 4 (by decide), g 5 (by decide), g 6 (by decide), g 7 (by decide), g 8 (by decide)]
  exact hs (hs (hs (hs (hs (hs (hs (hs h))))))) j hj
theorem bCopy_v {F : Nat → Nat → Int32} {b : Nat} {S S' G G' : Nat → Nat → Int32} (h : ∀ j, j < 9 → S j = S' j) (g : ∀ j, j < 9 → G j = G' j) : zput F b 9 (bCopy S G) = zput F b 9 (bCopy S' G') := zput_ext (bCopy_j h g)
theorem zWk.st2 {sh : zSh} {P : Nat → Nat → Option Nat} {ω : Nat} (h : zWk sh P ω) : sh (ω + 1) = some (.inl 4) := h.2.2.1
def wBegin (W S : Nat → Nat → Int32) (g : Int32) : Nat → Nat → Int32 := va_up (zput W 1 7 (sCopy (zsub W 1) S)) 0 (upd (upd (upd (upd (W 0) 1 g) 2 0) 3 0) 4 0)

abbrev mX3_hold : ZM := (cX3_hold, RX3, wsX3_hold, 4, 0, 0, none, 3, yX3_hold.name)
set_option maxHeartbeats 1000000 in
set_option maxRecDepth 100000 in
theorem c_X3_hold {sh : zSh} {F : Nat → Nat → Int32} {P : Nat → Nat → Option Nat} {τ β σ : Nat} (hA : zSta sh P τ) (hB : zBk sh P β) (hS : zSt sh P σ) (h1 : τ + 17 ≤ β ∨ β + 9 ≤ τ) (h2 : τ + 17 ≤ σ ∨ σ + 7 ≤ τ) (h3 : β + 9 ≤ σ ∨ σ + 7 ≤ β) : zMet yX3_hold wsX3_hold (4) (0) (0) [.ref τ, .ref β, .ref σ] sh F P (none) sh (zput (zput F (τ + 1) 9 (bCopy (zsub F (τ + 1)) (zsub F β))) (τ + 10) 7 (sCopy (zsub F (τ + 10)) (zsub F σ))) P := by
  refine zMet.of (by decide) rfl (Nat.le_of_ble_eq_true rfl) (by simp [Value.category]) ?_
  intro X ρ
  show AW mX3_hold X (zMQ mX3_hold X (none) sh (zput (zput F (τ + 1) 9 (bCopy (zsub F (τ + 1)) (zsub F β))) (τ + 10) 7 (sCopy (zsub F (τ + 10)) (zsub F σ))) P) 0 [some (.ref τ), some (.ref β), some (.ref σ)] [] ρ sh F P 0 0
  have hinX3 : ∀ w ∈ u_ws RX3 TX3 2, w ∈ wsX3_hold := by decide +kernel
  obtain ⟨as0, ap0, ap1, hB1, hS1⟩ := id hA
  have hb0 := hB.1
  have hb1 := hB1.1
  have hs0 := hS.1
  have hs1 := hS1.1
  refine aw_aload_0 dX3_hold_0 ?_
  refine aw_getR fX3_0 (fun _ _ => rfl) (by assumption) hinX3 (by decide +kernel : Cond.fieldLink RX3 10 RX3 (TX3 0).2.1 (TX3 0).2.2.1 ∈ wsX3_hold) (by assumption) dX3_hold_1 ?_
  refine aw_aload_1 dX3_hold_4 ?_
  refine aw_runv (zRun_V (c_X0_copyFrom (by assumption) (by assumption) (by omega)) gX3_hold_X0_copyFrom q_X0_copyFrom rfl (by decide) rfl (by assumption) rfl rfl (Nat.le_of_ble_eq_true rfl) dX3_hold_5 ⟨Nat.le_refl _, Nat.le_refl _⟩) ?_
  refine aw_aload_0 dX3_hold_8 ?_
  refine aw_getR fX3_1 (fun _ _ => rfl) (by assumption) hinX3 (by decide +kernel : Cond.fieldLink RX3 19 RX3 (TX3 1).2.1 (TX3 1).2.2.1 ∈ wsX3_hold) (by assumption) dX3_hold_9 ?_
  refine aw_aload_2 dX3_hold_12 ?_
  refine aw_runv (zRun_V (c_X4_copyFrom (by assumption) (by assumption) (by omega)) gX3_hold_X4_copyFrom q_X4_copyFrom rfl (by decide) rfl (by assumption) rfl rfl (Nat.le_of_ble_eq_true rfl) dX3_hold_13 ⟨Nat.le_refl _, Nat.le_refl _⟩) ?_
  exact aw_return rfl dX3_hold_16 ⟨Nat.zero_le _, Nat.zero_le _⟩ rfl rfl (by rw [sCopy_v (S' := zsub F (τ + 10)) (G' := zsub F σ) (fun j hj => by unfold zsub; rw [zput_ne (by omega)]) (fun j hj => by unfold zsub; rw [zput_ne (by omega)])]) rfl

abbrev mX3_layOut : ZM := (cX3_layOut, RX3, wsX3_layOut, 4, 0, 0, none, 3, yX3_layOut.name)
set_option maxHeartbeats 1000000 in
set_option maxRecDepth 100000 in
theorem c_X3_layOut {sh : zSh} {F : Nat → Nat → Int32} {P : Nat → Nat → Option Nat} {τ β σ : Nat} (hA : zSta sh P τ) (hB : zBk sh P β) (hS : zSt sh P σ) (h1 : τ + 17 ≤ β ∨ β + 9 ≤ τ) (h2 : τ + 17 ≤ σ ∨ σ + 7 ≤ τ) (h3 : β + 9 ≤ σ ∨ σ + 7 ≤ β) : zMet yX3_layOut wsX3_layOut (4) (0) (0) [.ref τ, .ref β, .ref σ] sh F P (none) sh (zput (zput F β 9 (bCopy (zsub F β) (zsub F (τ + 1)))) σ 7 (sCopy (zsub F σ) (zsub F (τ + 10)))) P := by
  refine zMet.of (by decide) rfl (Nat.le_of_ble_eq_true rfl) (by simp [Value.category]) ?_
  intro X ρ
  show AW mX3_layOut X (zMQ mX3_layOut X (none) sh (zput (zput F β 9 (bCopy (zsub F β) (zsub F (τ + 1)))) σ 7 (sCopy (zsub F σ) (zsub F (τ + 10)))) P) 0 [some (.ref τ), some (.ref β), some (.ref σ)] [] ρ sh F P 0 0
  have hinX3 : ∀ w ∈ u_ws RX3 TX3 2, w ∈ wsX3_layOut := by decide +kernel
  obtain ⟨as0, ap0, ap1, hB1, hS1⟩ := id hA
  have hb0 := hB.1
  have hb1 := hB1.1
  have hs0 := hS.1
  have hs1 := hS1.1
  refine aw_aload_1 dX3_layOut_0 ?_
  refine aw_aload_0 dX3_layOut_1 ?_
  refine aw_getR fX3_0 (fun _ _ => rfl) (by assumption) hinX3 (by decide +kernel : Cond.fieldLink RX3 10 RX3 (TX3 0).2.1 (TX3 0).2.2.1 ∈ wsX3_layOut) (by assumption) dX3_layOut_2 ?_
  refine aw_runv (zRun_V (c_X0_copyFrom (by assumption) (by assumption) (by omega)) gX3_layOut_X0_copyFrom q_X0_copyFrom rfl (by decide) rfl (by assumption) rfl rfl (Nat.le_of_ble_eq_true rfl) dX3_layOut_5 ⟨Nat.le_refl _, Nat.le_refl _⟩) ?_
  refine aw_aload_2 dX3_layOut_8 ?_
  refine aw_aload_0 dX3_layOut_9 ?_
  refine aw_getR fX3_1 (fun _ _ => rfl) (by assumption) hinX3 (by decide +kernel : Cond.fieldLink RX3 19 RX3 (TX3 1).2.1 (TX3 1).2.2.1 ∈ wsX3_layOut) (by assumption) dX3_layOut_10 ?_
  refine aw_runv (zRun_V (c_X4_copyFrom (by assumption) (by assumption) (by omega)) gX3_layOut_X4_copyFrom q_X4_copyFrom rfl (by decide) rfl (by assumption) rfl rfl (Nat.le_of_ble_eq_true rfl) dX3_layOut_13 ⟨Nat.le_refl _, Nat.le_refl _⟩) ?_
  exact aw_return rfl dX3_layOut_16 ⟨Nat.zero_le _, Nat.zero_le _⟩ rfl rfl (by rw [sCopy_v (S' := zsub F σ) (G' := zsub F (τ + 10)) (fun j hj => by unfold zsub; rw [zput_ne (by omega)]) (fun j hj => by unfold zsub; rw [zput_ne (by omega)])]) rfl

abbrev mX5_begin : ZM := (cX5_begin, RX5, wsX5_begin, 4, 0, 0, none, 3, yX5_begin.name)
set_option maxHeartbeats 1000000 in
set_option maxRecDepth 100000 in
theorem c_X5_begin {sh : zSh} {F : Nat → Nat → Int32} {P : Nat → Nat → Option Nat} {ω : Nat} {W : Nat → Nat → Int32} {σ : Nat} {S : Nat → Nat → Int32} {g : Int32} (hW : zWk sh P ω) (hV : zVw F ω 8 W) (hS : zSt sh P σ) (hSv : zVw F σ 7 S) (hd : ω + 8 ≤ σ ∨ σ + 7 ≤ ω) (hg : g = 0 ∨ g = 1) : zMet yX5_begin wsX5_begin (4) (0) (0) [.ref ω, .ref σ, .int g] sh F P (none) sh (zput F ω 8 (wBegin W S g)) P := by
  refine zMet.of (by decide) rfl (Nat.le_of_ble_eq_true rfl) (by simp [Value.category]) ?_
  intro X ρ
  show AW mX5_begin X (zMQ mX5_begin X (none) sh (zput F ω 8 (wBegin W S g)) P) 0 [some (.ref ω), some (.ref σ), some (.int g)] [] ρ sh F P 0 0
  have hinX5 : ∀ w ∈ u_ws RX5 TX5 5, w ∈ wsX5_begin := by decide +kernel
  obtain ⟨ws0, wp0, ws1, ⟨bp0, bp1, bp2, bp3, bp4, bp5⟩, ws2, ws3, ws4, ws5, ws6, ws7⟩ := id hW
  refine aw_aload_0 dX5_begin_0 ?_
  refine aw_getR fX5_0 (fun _ _ => rfl) (by assumption) hinX5 (by decide +kernel : Cond.fieldLink RX5 12 RX5 (TX5 0).2.1 (TX5 0).2.2.1 ∈ wsX5_begin) (by assumption) dX5_begin_1 ?_
  refine aw_aload_1 dX5_begin_4 ?_
  refine aw_runv (zRun_V (c_X4_copyFrom hW.st hS (by omega)) gX5_begin_X4_copyFrom q_X4_copyFrom rfl (by decide) rfl (by assumption) rfl rfl (Nat.le_of_ble_eq_true rfl) dX5_begin_5 ⟨Nat.le_refl _, Nat.le_refl _⟩) ?_
  refine aw_cF (F' := zput F ω 8 (zput W 1 7 (sCopy (zsub W 1) S))) ?_ ?_
  · rw [sCopy_v (S := zsub F (ω + 1)) (G := zsub F σ) (S' := zsub W 1) (G' := S) (fun j hj => by unfold zsub; rw [show ω + 1 + j = ω + (1 + j) by omega]; exact hV (1 + j) (by omega)) (fun j hj => hSv j hj)]
    funext i
    by_cases e1 : i = ω
    · subst e1
      rw [zput_ne (by omega), zput_a0 (by decide), zput_ne (by omega)]
      exact hV 0 (by decide)
    · by_cases e : ω ≤ i ∧ i < ω + 8
      · obtain ⟨j, rfl⟩ : ∃ j, i = ω + 1 + j := ⟨i - (ω + 1), by omega⟩
        rw [zput_at (by omega), show ω + 1 + j = ω + (1 + j) by omega, zput_at (by omega), zput_at (by omega)]
      · rw [zput_ne (by omega), zput_ne (by omega)]
  refine aw_aload_0 dX5_begin_8 ?_
  refine aw_iload_2 dX5_begin_9 ?_
  refine aw_putZ hg fX5_1 rfl hinX5 (by decide +kernel : Cond.fieldLink RX5 22 RX5 (TX5 1).2.1 (TX5 1).2.2.1 ∈ wsX5_begin) (by assumption) dX5_begin_10 ?_
  try simp (disch := omega) only [zu_up, zup_in, zup_in0, zput_at, zput_a0, zput_zput]
  refine aw_aload_0 dX5_begin_13 ?_
  refine aw_iconst (v := 0) dX5_begin_14 (by decide) ?_
  refine aw_putZ (by decide) fX5_2 rfl hinX5 (by decide +kernel : Cond.fieldLink RX5 26 RX5 (TX5 2).2.1 (TX5 2).2.2.1 ∈ wsX5_begin) (by assumption) dX5_begin_15 ?_
  try simp (disch := omega) only [zu_up, zup_in, zup_in0, zput_at, zput_a0, zput_zput]
  refine aw_aload_0 dX5_begin_18 ?_
  refine aw_iconst (v := 0) dX5_begin_19 (by decide) ?_
  refine aw_putI fX5_3 rfl hinX5 (by decide +kernel : Cond.fieldLink RX5 29 RX5 (TX5 3).2.1 (TX5 3).2.2.1 ∈ wsX5_begin) (by assumption) dX5_begin_20 ?_
  try simp (disch := omega) only [zu_up, zup_in, zup_in0, zput_at, zput_a0, zput_zput]
  refine aw_aload_0 dX5_begin_23 ?_
  refine aw_iconst (v := 0) dX5_begin_24 (by decide) ?_
  refine aw_putI fX5_4 rfl hinX5 (by decide +kernel : Cond.fieldLink RX5 33 RX5 (TX5 4).2.1 (TX5 4).2.2.1 ∈ wsX5_begin) (by assumption) dX5_begin_25 ?_
  try simp (disch := omega) only [zu_up, zup_in, zup_in0, zput_at, zput_a0, zput_zput]
  exact aw_return rfl dX5_begin_28 ⟨Nat.zero_le _, Nat.zero_le _⟩ rfl rfl (by unfold wBegin; rw [va_up_up, va_up_up, va_up_up, zup_eq, zup_eq, zup_eq, zput_ne (show 0 < 1 ∨ 1 + 7 ≤ 0 by omega)]) rfl

def wFul (B W : Nat → Nat → Int32) (t n : Int32) : Nat → Nat → Int32 := if n - cAt 20 (W 2) t ≤ 0 then W else wProv (wRun B 9) B t (n - cAt 20 (W 2) t) W

abbrev mX5_fulfil : ZM := (cX5_fulfil, RX5, wsX5_fulfil, 40, 0, 0, (some .boolean), 5, yX5_fulfil.name)
set_option maxHeartbeats 1000000 in
set_option maxRecDepth 100000 in
theorem c_X5_fulfil {sh : zSh} {F : Nat → Nat → Int32} {P : Nat → Nat → Option Nat} {ω : Nat} {W : Nat → Nat → Int32} {β : Nat} {B : Nat → Nat → Int32} {t n : Int32} (hW : zWk sh P ω) (hV : zVw F ω 8 W) (hB : zBk sh P β) (hBv : zVw F β 9 B) (hd : ω + 8 ≤ β ∨ β + 9 ≤ ω) : zMet yX5_fulfil wsX5_fulfil (40) (0) (0) [.ref ω, .ref β, .int t, .int n] sh F P (some (.int (if wFul B W t n 0 2 = 0 then 1 else 0))) sh (zput F ω 8 (wFul B W t n)) P := by
  refine zMet.of (by decide) rfl (Nat.le_of_ble_eq_true rfl) (by simp [Value.category]) ?_
  intro X ρ
  show AW mX5_fulfil X (zMQ mX5_fulfil X (some (.int (if wFul B W t n 0 2 = 0 then 1 else 0))) sh (zput F ω 8 (wFul B W t n)) P) 0 [some (.ref ω), some (.ref β), some (.int t), some (.int n), none] [] ρ sh F P 0 0
  have hinX5 : ∀ w ∈ u_ws RX5 TX5 5, w ∈ wsX5_fulfil := by decide +kernel
  have hinX4 : ∀ w ∈ u_ws RX4 TX4 7, w ∈ wsX5_fulfil := by decide +kernel
  obtain ⟨ws0, wp0, ws1, ⟨bp0, bp1, bp2, bp3, bp4, bp5⟩, ws2, ws3, ws4, ws5, ws6, ws7⟩ := id hW
  refine aw_cF (F' := zput F ω 8 W) (zput_view hV).symm ?_
  refine aw_iload_3 dX5_fulfil_0 ?_
  refine aw_aload_0 dX5_fulfil_1 ?_
  refine aw_getR fX5_0 (fun _ _ => rfl) (by assumption) hinX5 (by decide +kernel : Cond.fieldLink RX5 12 RX5 (TX5 0).2.1 (TX5 0).2.2.1 ∈ wsX5_fulfil) (by assumption) dX5_fulfil_2 ?_
  refine aw_getRN (q := 19) fX4_0 (fun _ _ => rfl) (by assumption) hinX4 rfl (by assumption) dX5_fulfil_5 ?_
  refine aw_iload_2 dX5_fulfil_8 ?_
  refine aw_run (zRun_SN (qn := 18) (c_X6_at (by assumption) (by decide)) gX5_fulfil_X6_at_n44 rfl (by decide +kernel : Cond.static yX6_at ∈ wsX5_fulfil) (by decide +kernel : Cond.initialized yX6_at.cls ∈ wsX5_fulfil) q_X6_at (by decide) rfl rfl (Nat.le_of_ble_eq_true rfl) dX5_fulfil_9 ⟨Nat.le_refl _, Nat.le_refl _⟩) ?_
  try simp (disch := omega) only [zu_up, zup_in, zup_in0, zput_at, zput_a0, zput_zput]
  refine aw_isub dX5_fulfil_12 ?_
  refine aw_istore_4 dX5_fulfil_13 ?_
  refine aw_iload_4 dX5_fulfil_15 ?_
  refine aw_if_le (tgt := 29) dX5_fulfil_17 (by decide) (fun c17 => ?_) (fun c17 => ?_)
  · try rw [zput_zput]
    refine aw_cF (F' := zput F ω 8 (wFul B W t n)) (by unfold wFul; (first | rw [if_pos c17] | rw [if_neg c17])) ?_
    refine aw_aload_0 dX5_fulfil_29 ?_
    refine aw_getZ fX5_2 hinX5 (by decide +kernel : Cond.fieldLink RX5 26 RX5 (TX5 2).2.1 (TX5 2).2.2.1 ∈ wsX5_fulfil) (by assumption) dX5_fulfil_30 ?_
    try simp (disch := omega) only [zu_up, zup_in, zup_in0, zput_at, zput_a0, zput_zput]
    refine aw_if_ne (tgt := 40) dX5_fulfil_33 (by decide) (fun c33 => ?_) (fun c33 => ?_)
    · refine aw_iconst (v := 0) dX5_fulfil_40 (by decide) ?_
      exact aw_zreturn rfl dX5_fulfil_41 ⟨Nat.zero_le _, Nat.zero_le _⟩ (by decide) (by first | rw [if_pos c33] | rw [if_neg c33]) rfl rfl rfl
    · refine aw_iconst (v := 1) dX5_fulfil_36 (by decide) ?_
      refine aw_goto (tgt := 41) dX5_fulfil_37 (by decide) ?_
      exact aw_zreturn rfl dX5_fulfil_41 ⟨Nat.zero_le _, Nat.zero_le _⟩ (by decide) (by first | rw [if_pos c33] | rw [if_neg c33]) rfl rfl rfl
  · refine aw_aload_0 dX5_fulfil_20 ?_
    refine aw_aload_1 dX5_fulfil_21 ?_
    refine aw_iload_2 dX5_fulfil_22 ?_
    refine aw_iload_4 dX5_fulfil_23 ?_
    refine aw_iconst (v := 0) dX5_fulfil_25 (by decide) ?_
    refine aw_runv (zRun_V (c_X5_provide0 hW hB hd zVw.put (by first | exact hBv | exact hBv.out (by omega))) gX5_fulfil_X5_provide q_X5_provide rfl (by decide) rfl (by assumption) rfl rfl (Nat.le_of_ble_eq_true rfl) dX5_fulfil_26 ⟨Nat.le_refl _, Nat.le_refl _⟩) ?_
    try rw [zput_zput]
    refine aw_cF (F' := zput F ω 8 (wFul B W t n)) (by unfold wFul; (first | rw [if_pos c17] | rw [if_neg c17])) ?_
    refine aw_aload_0 dX5_fulfil_29 ?_
    refine aw_getZ fX5_2 hinX5 (by decide +kernel : Cond.fieldLink RX5 26 RX5 (TX5 2).2.1 (TX5 2).2.2.1 ∈ wsX5_fulfil) (by assumption) dX5_fulfil_30 ?_
    try simp (disch := omega) only [zu_up, zup_in, zup_in0, zput_at, zput_a0, zput_zput]
    refine aw_if_ne (tgt := 40) dX5_fulfil_33 (by decide) (fun c33 => ?_) (fun c33 => ?_)
    · refine aw_iconst (v := 0) dX5_fulfil_40 (by decide) ?_
      exact aw_zreturn rfl dX5_fulfil_41 ⟨Nat.zero_le _, Nat.zero_le _⟩ (by decide) (by first | rw [if_pos c33] | rw [if_neg c33]) rfl rfl rfl
    · refine aw_iconst (v := 1) dX5_fulfil_36 (by decide) ?_
      refine aw_goto (tgt := 41) dX5_fulfil_37 (by decide) ?_
      exact aw_zreturn rfl dX5_fulfil_41 ⟨Nat.zero_le _, Nat.zero_le _⟩ (by decide) (by first | rw [if_pos c33] | rw [if_neg c33]) rfl rfl rfl

abbrev mX5_runAll : ZM := (cX5_runAll, RX5, wsX5_runAll, 40, 0, 0, (some .boolean), 4, yX5_runAll.name)
set_option maxHeartbeats 1000000 in
set_option maxRecDepth 100000 in
theorem c_X5_runAll {sh : zSh} {F : Nat → Nat → Int32} {P : Nat → Nat → Option Nat} {ω : Nat} {W : Nat → Nat → Int32} {β : Nat} {B : Nat → Nat → Int32} {t c : Int32} (hW : zWk sh P ω) (hV : zVw F ω 8 W) (hB : zBk sh P β) (hBv : zVw F β 9 B) (hd : ω + 8 ≤ β ∨ β + 9 ≤ ω) : zMet yX5_runAll wsX5_runAll (40) (0) (0) [.ref ω, .ref β, .int t, .int c] sh F P (some (.int (if wRun B 9 t c W 0 2 = 0 then 1 else 0))) sh (zput F ω 8 (wRun B 9 t c W)) P := by
  refine zMet.of (by decide) rfl (Nat.le_of_ble_eq_true rfl) (by simp [Value.category]) ?_
  intro X ρ
  show AW mX5_runAll X (zMQ mX5_runAll X (some (.int (if wRun B 9 t c W 0 2 = 0 then 1 else 0))) sh (zput F ω 8 (wRun B 9 t c W)) P) 0 [some (.ref ω), some (.ref β), some (.int t), some (.int c)] [] ρ sh F P 0 0
  have hinX5 : ∀ w ∈ u_ws RX5 TX5 5, w ∈ wsX5_runAll := by decide +kernel
  obtain ⟨ws0, wp0, ws1, ⟨bp0, bp1, bp2, bp3, bp4, bp5⟩, ws2, ws3, ws4, ws5, ws6, ws7⟩ := id hW
  refine aw_cF (F' := zput F ω 8 W) (zput_view hV).symm ?_
  refine aw_aload_0 dX5_runAll_0 ?_
  refine aw_aload_1 dX5_runAll_1 ?_
  refine aw_iload_2 dX5_runAll_2 ?_
  refine aw_iload_3 dX5_runAll_3 ?_
  refine aw_iconst (v := 0) dX5_runAll_4 (by decide) ?_
  refine aw_runv (zRun_V (c_X5_run hW hB hd 9 0 rfl zVw.put (by first | exact hBv | exact hBv.out (by omega))) gX5_runAll_X5_run q_X5_run rfl (by decide) rfl (by assumption) rfl rfl (Nat.le_of_ble_eq_true rfl) dX5_runAll_5 ⟨Nat.le_refl _, Nat.le_refl _⟩) ?_
  rw [zput_zput]
  refine aw_aload_0 dX5_runAll_8 ?_
  refine aw_getZ fX5_2 hinX5 (by decide +kernel : Cond.fieldLink RX5 26 RX5 (TX5 2).2.1 (TX5 2).2.2.1 ∈ wsX5_runAll) (by assumption) dX5_runAll_9 ?_
  try simp (disch := omega) only [zu_up, zup_in, zup_in0, zput_at, zput_a0, zput_zput]
  refine aw_if_ne (tgt := 19) dX5_runAll_12 (by decide) (fun c12 => ?_) (fun c12 => ?_)
  · refine aw_iconst (v := 0) dX5_runAll_19 (by decide) ?_
    exact aw_zreturn rfl dX5_runAll_20 ⟨Nat.zero_le _, Nat.zero_le _⟩ (by decide) (by first | rw [if_pos c12] | rw [if_neg c12]) rfl rfl rfl
  · refine aw_iconst (v := 1) dX5_runAll_15 (by decide) ?_
    refine aw_goto (tgt := 20) dX5_runAll_16 (by decide) ?_
    exact aw_zreturn rfl dX5_runAll_20 ⟨Nat.zero_le _, Nat.zero_le _⟩ (by decide) (by first | rw [if_pos c12] | rw [if_neg c12]) rfl rfl rfl

