/-! ===== 18.init: constructors; a window of shapes, of references, of numbers ===== -/
theorem zrefs_new {sh : zSh} {i : Nat} {k : Nat ⊕ (Nat × Nat)} {ls : List (Option Value)} {st : List Value} (h1 : ∀ j, some (Value.ref j) ∈ ls → j ≠ i) (h2 : ∀ j, Value.ref j ∈ st → j ≠ i) (hi : sh i = none) : zrefs sh (va_up sh i (some k)) ls st :=
  ⟨fun j hj => by rw [zup_ne (h1 j hj)]; by_cases h : sh j = none <;> simp [h], fun j hj => by rw [zup_ne (h2 j hj)]; by_cases h : sh j = none <;> simp [h]⟩
/-- a window laid anew, of anything -/
def zwin {α : Type} (F : Nat → α) (b n : Nat) (B : Nat → α) : Nat → α := fun i => if b ≤ i ∧ i < b + n then B (i - b) else F i
theorem zwin_at {α : Type} {F : Nat → α} {b n j : Nat} {B : Nat → α} (h : j < n) : zwin F b n B (b + j) = B j := by
  have e : b ≤ b + j ∧ b + j < b + n := ⟨by omega, by omega⟩
  have e2 : b + j - b = j := by omega
  simp only [zwin, if_pos e, e2]
theorem zwin_ne {α : Type} {F : Nat → α} {b n i : Nat} {B : Nat → α} (h : i < b ∨ b + n ≤ i) : zwin F b n B i = F i := by
  have e : ¬ (b ≤ i ∧ i < b + n) := by omega
  simp only [zwin, if_neg e]
theorem zwin_of {α : Type} {F G : Nat → α} {b n : Nat} {B : Nat → α} (h1 : ∀ j, j < n → G (b + j) = B j) (h2 : ∀ i, i < b ∨ b + n ≤ i → G i = F i) : G = zwin F b n B := by
  funext i
  by_cases e : b ≤ i ∧ i < b + n
  · obtain ⟨j, rfl⟩ : ∃ j, i = b + j := ⟨i - b, by omega⟩
    rw [zwin_at (by omega)]
    exact h1 j (by omega)
  · rw [zwin_ne (by omega)]
    exact h2 i (by omega)
def bkSh : zSh := fun j => match j with
  | 0 => some (.inl 0)
  | 1 => some (.inr (0, 20))
  | 2 => some (.inr (0, 20))
  | 3 => some (.inr (0, 100))
  | 4 => some (.inr (0, 100))
  | 5 => some (.inr (0, 20))
  | 6 => some (.inr (0, 60))
  | 7 => some (.inr (0, 20))
  | 8 => some (.inr (0, 20))
  | _ => none
def bkP (β : Nat) : Nat → Nat → Option Nat := fun j k => if j = 0 ∧ k < 8 then some (β + 1 + k) else none
def bkF : Nat → Nat → Int32 := fun j => if j = 7 then cFill 20 (-9) (fun _ => 0) else fun _ => 0
def skSh : zSh := fun j => match j with
  | 0 => some (.inl 4)
  | 1 => some (.inr (0, 20))
  | 2 => some (.inr (0, 20))
  | 3 => some (.inr (0, 20))
  | 4 => some (.inr (0, 20))
  | 5 => some (.inr (0, 20))
  | 6 => some (.inr (0, 20))
  | _ => none
def skP (σ : Nat) : Nat → Nat → Option Nat := fun j k => if j = 0 ∧ k < 6 then some (σ + 1 + k) else none
def zZero : Nat → Nat → Int32 := fun _ _ => 0
theorem zlt9 {p : Nat → Prop} (h0 : p 0) (h1 : p 1) (h2 : p 2) (h3 : p 3) (h4 : p 4) (h5 : p 5) (h6 : p 6) (h7 : p 7) (h8 : p 8) : ∀ j, j < 9 → p j := by
  intro j hj
  rcases (show j = 0 ∨ j = 1 ∨ j = 2 ∨ j = 3 ∨ j = 4 ∨ j = 5 ∨ j = 6 ∨ j = 7 ∨ j = 8 by omega) with rfl | rfl | rfl | rfl | rfl | rfl | rfl | rfl | rfl <;> assumption
theorem zlt7 {p : Nat → Prop} (h0 : p 0) (h1 : p 1) (h2 : p 2) (h3 : p 3) (h4 : p 4) (h5 : p 5) (h6 : p 6) : ∀ j, j < 7 → p j := by
  intro j hj
  rcases (show j = 0 ∨ j = 1 ∨ j = 2 ∨ j = 3 ∨ j = 4 ∨ j = 5 ∨ j = 6 by omega) with rfl | rfl | rfl | rfl | rfl | rfl | rfl <;> assumption

theorem zuP_eq {P : Nat → Nat → Option Nat} {i k : Nat} {x : Option Nat} : zuP P i k x i = va_up (P i) k x := by simp [zuP]
theorem zuP_ne {P : Nat → Nat → Option Nat} {i j k : Nat} {x : Option Nat} (h : j ≠ i) : zuP P i k x j = P j := by simp [zuP, h]
theorem bkP_0 (β : Nat) : va_up (va_up (va_up (va_up (va_up (va_up (va_up (va_up (fun _ : Nat => (none : Option Nat)) 0 (some (β + 1))) 1 (some (β + 2))) 2 (some (β + 3))) 3 (some (β + 4))) 4 (some (β + 5))) 5 (some (β + 6))) 6 (some (β + 7))) 7 (some (β + 8)) = bkP β 0 := by
  funext k
  rcases (show k = 0 ∨ k = 1 ∨ k = 2 ∨ k = 3 ∨ k = 4 ∨ k = 5 ∨ k = 6 ∨ k = 7 ∨ 8 ≤ k by omega) with rfl | rfl | rfl | rfl | rfl | rfl | rfl | rfl | h
  · simp [va_up, bkP]
  · simp [va_up, bkP]
  · simp [va_up, bkP]
  · simp [va_up, bkP]
  · simp [va_up, bkP]
  · simp [va_up, bkP]
  · simp [va_up, bkP]
  · simp [va_up, bkP]
  · have h2 : ¬ k < 8 := by omega
    simp only [va_up, bkP]
    rw [if_neg (by omega), if_neg (by omega), if_neg (by omega), if_neg (by omega), if_neg (by omega), if_neg (by omega), if_neg (by omega), if_neg (by omega), if_neg (by omega)]
theorem skP_0 (σ : Nat) : va_up (va_up (va_up (va_up (va_up (va_up (fun _ : Nat => (none : Option Nat)) 0 (some (σ + 1))) 1 (some (σ + 2))) 2 (some (σ + 3))) 3 (some (σ + 4))) 4 (some (σ + 5))) 5 (some (σ + 6)) = skP σ 0 := by
  funext k
  rcases (show k = 0 ∨ k = 1 ∨ k = 2 ∨ k = 3 ∨ k = 4 ∨ k = 5 ∨ 6 ≤ k by omega) with rfl | rfl | rfl | rfl | rfl | rfl | h
  · simp [va_up, skP]
  · simp [va_up, skP]
  · simp [va_up, skP]
  · simp [va_up, skP]
  · simp [va_up, skP]
  · simp [va_up, skP]
  · simp only [va_up, skP]
    rw [if_neg (by omega), if_neg (by omega), if_neg (by omega), if_neg (by omega), if_neg (by omega), if_neg (by omega), if_neg (by omega)]
theorem cFill_0 : cFill 20 (-9) (fun _ => 0) = bkF 7 := rfl

abbrev mX0_init : ZM := (cX0_init, RX0, wsX0_init, 2, 8, 360, none, 1, yX0_init.name)
set_option maxHeartbeats 1000000 in
set_option maxRecDepth 100000 in
theorem c_X0_init {sh : zSh} {F : Nat → Nat → Int32} {P : Nat → Nat → Option Nat} {β : Nat} (hs : sh β = some (.inl 0)) (hfree : ∀ j, 0 < j → j < 9 → sh (β + j) = none) (hF : F β = fun _ => 0) (hP : P β = fun _ => none) : zMet yX0_init wsX0_init (2) (8) (360) [.ref β] sh F P (none) (zwin sh β 9 bkSh) (zwin F β 9 bkF) (zwin P β 9 (bkP β)) := by
  refine zMet.of (by decide) rfl (Nat.le_of_ble_eq_true rfl) (by simp [Value.category]) ?_
  intro X ρ
  show AW mX0_init X (zMQ mX0_init X (none) (zwin sh β 9 bkSh) (zwin F β 9 bkF) (zwin P β 9 (bkP β))) 0 [some (.ref β)] [] ρ sh F P 0 0
  have hinX0 : ∀ w ∈ u_ws RX0 TX0 8, w ∈ wsX0_init := by decide +kernel
  refine aw_aload_0 dX0_init_0 ?_
  refine aw_objInit (by decide +kernel) (by decide +kernel) (by decide +kernel) dX0_init_1 (by simp [Value.category]) ?_
  refine aw_aload_0 dX0_init_4 ?_
  refine aw_bipush (v := 20) dX0_init_5 (by decide) ?_
  refine aw_newI (i := β + 1) (N := 20) (by decide +kernel : Cond.arrayClass .int ∈ wsX0_init) (by decide) (by decide) (by decide) (by simp (disch := omega) only [zup_ne, hfree]) (zrefs_new (by simp; try omega) (by simp; try omega) (by simp (disch := omega) only [zup_ne, hfree])) (by decide) dX0_init_7 (fun ρ => ?_)
  refine aw_putF fX0_0 (fun _ _ => rfl) (fun _ => rfl) (fun _ => rfl) rfl rfl rfl (by simp (disch := omega) [zup_eq]) hinX0 (by decide +kernel : Cond.fieldLink RX0 9 RX0 (TX0 0).2.1 (TX0 0).2.2.1 ∈ wsX0_init) (by simp (disch := omega) only [zup_ne, zup_eq, hs]) dX0_init_9 ?_
  refine aw_aload_0 dX0_init_12 ?_
  refine aw_bipush (v := 20) dX0_init_13 (by decide) ?_
  refine aw_newI (i := β + 2) (N := 20) (by decide +kernel : Cond.arrayClass .int ∈ wsX0_init) (by decide) (by decide) (by decide) (by simp (disch := omega) only [zup_ne, hfree]) (zrefs_new (by simp; try omega) (by simp; try omega) (by simp (disch := omega) only [zup_ne, hfree])) (by decide) dX0_init_15 (fun ρ => ?_)
  refine aw_putF fX0_1 (fun _ _ => rfl) (fun _ => rfl) (fun _ => rfl) rfl rfl rfl (by simp (disch := omega) [zup_eq]) hinX0 (by decide +kernel : Cond.fieldLink RX0 15 RX0 (TX0 1).2.1 (TX0 1).2.2.1 ∈ wsX0_init) (by simp (disch := omega) only [zup_ne, zup_eq, hs]) dX0_init_17 ?_
  refine aw_aload_0 dX0_init_20 ?_
  refine aw_bipush (v := 100) dX0_init_21 (by decide) ?_
  refine aw_newI (i := β + 3) (N := 100) (by decide +kernel : Cond.arrayClass .int ∈ wsX0_init) (by decide) (by decide) (by decide) (by simp (disch := omega) only [zup_ne, hfree]) (zrefs_new (by simp; try omega) (by simp; try omega) (by simp (disch := omega) only [zup_ne, hfree])) (by decide) dX0_init_23 (fun ρ => ?_)
  refine aw_putF fX0_2 (fun _ _ => rfl) (fun _ => rfl) (fun _ => rfl) rfl rfl rfl (by simp (disch := omega) [zup_eq]) hinX0 (by decide +kernel : Cond.fieldLink RX0 18 RX0 (TX0 2).2.1 (TX0 2).2.2.1 ∈ wsX0_init) (by simp (disch := omega) only [zup_ne, zup_eq, hs]) dX0_init_25 ?_
  refine aw_aload_0 dX0_init_28 ?_
  refine aw_bipush (v := 100) dX0_init_29 (by decide) ?_
  refine aw_newI (i := β + 4) (N := 100) (by decide +kernel : Cond.arrayClass .int ∈ wsX0_init) (by decide) (by decide) (by decide) (by simp (disch := omega) only [zup_ne, hfree]) (zrefs_new (by simp; try omega) (by simp; try omega) (by simp (disch := omega) only [zup_ne, hfree])) (by decide) dX0_init_31 (fun ρ => ?_)
  refine aw_putF fX0_3 (fun _ _ => rfl) (fun _ => rfl) (fun _ => rfl) rfl rfl rfl (by simp (disch := omega) [zup_eq]) hinX0 (by decide +kernel : Cond.fieldLink RX0 21 RX0 (TX0 3).2.1 (TX0 3).2.2.1 ∈ wsX0_init) (by simp (disch := omega) only [zup_ne, zup_eq, hs]) dX0_init_33 ?_
  refine aw_aload_0 dX0_init_36 ?_
  refine aw_bipush (v := 20) dX0_init_37 (by decide) ?_
  refine aw_newI (i := β + 5) (N := 20) (by decide +kernel : Cond.arrayClass .int ∈ wsX0_init) (by decide) (by decide) (by decide) (by simp (disch := omega) only [zup_ne, hfree]) (zrefs_new (by simp; try omega) (by simp; try omega) (by simp (disch := omega) only [zup_ne, hfree])) (by decide) dX0_init_39 (fun ρ => ?_)
  refine aw_putF fX0_4 (fun _ _ => rfl) (fun _ => rfl) (fun _ => rfl) rfl rfl rfl (by simp (disch := omega) [zup_eq]) hinX0 (by decide +kernel : Cond.fieldLink RX0 24 RX0 (TX0 4).2.1 (TX0 4).2.2.1 ∈ wsX0_init) (by simp (disch := omega) only [zup_ne, zup_eq, hs]) dX0_init_41 ?_
  refine aw_aload_0 dX0_init_44 ?_
  refine aw_bipush (v := 60) dX0_init_45 (by decide) ?_
  refine aw_newI (i := β + 6) (N := 60) (by decide +kernel : Cond.arrayClass .int ∈ wsX0_init) (by decide) (by decide) (by decide) (by simp (disch := omega) only [zup_ne, hfree]) (zrefs_new (by simp; try omega) (by simp; try omega) (by simp (disch := omega) only [zup_ne, hfree])) (by decide) dX0_init_47 (fun ρ => ?_)
  refine aw_putF fX0_5 (fun _ _ => rfl) (fun _ => rfl) (fun _ => rfl) rfl rfl rfl (by simp (disch := omega) [zup_eq]) hinX0 (by decide +kernel : Cond.fieldLink RX0 27 RX0 (TX0 5).2.1 (TX0 5).2.2.1 ∈ wsX0_init) (by simp (disch := omega) only [zup_ne, zup_eq, hs]) dX0_init_49 ?_
  refine aw_aload_0 dX0_init_52 ?_
  refine aw_bipush (v := 20) dX0_init_53 (by decide) ?_
  refine aw_newI (i := β + 7) (N := 20) (by decide +kernel : Cond.arrayClass .int ∈ wsX0_init) (by decide) (by decide) (by decide) (by simp (disch := omega) only [zup_ne, hfree]) (zrefs_new (by simp; try omega) (by simp; try omega) (by simp (disch := omega) only [zup_ne, hfree])) (by decide) dX0_init_55 (fun ρ => ?_)
  refine aw_putF fX0_6 (fun _ _ => rfl) (fun _ => rfl) (fun _ => rfl) rfl rfl rfl (by simp (disch := omega) [zup_eq]) hinX0 (by decide +kernel : Cond.fieldLink RX0 30 RX0 (TX0 6).2.1 (TX0 6).2.2.1 ∈ wsX0_init) (by simp (disch := omega) only [zup_ne, zup_eq, hs]) dX0_init_57 ?_
  refine aw_aload_0 dX0_init_60 ?_
  refine aw_bipush (v := 20) dX0_init_61 (by decide) ?_
  refine aw_newI (i := β + 8) (N := 20) (by decide +kernel : Cond.arrayClass .int ∈ wsX0_init) (by decide) (by decide) (by decide) (by simp (disch := omega) only [zup_ne, hfree]) (zrefs_new (by simp; try omega) (by simp; try omega) (by simp (disch := omega) only [zup_ne, hfree])) (by decide) dX0_init_63 (fun ρ => ?_)
  refine aw_putF fX0_7 (fun _ _ => rfl) (fun _ => rfl) (fun _ => rfl) rfl rfl rfl (by simp (disch := omega) [zup_eq]) hinX0 (by decide +kernel : Cond.fieldLink RX0 33 RX0 (TX0 7).2.1 (TX0 7).2.2.1 ∈ wsX0_init) (by simp (disch := omega) only [zup_ne, zup_eq, hs]) dX0_init_65 ?_
  refine aw_aload_0 dX0_init_68 ?_
  refine aw_getR (j := β + 7) fX0_6 (fun _ _ => rfl) (by simp (disch := omega) only [zup_ne, zuP_ne, zuP_eq, zup_eq]) hinX0 (by decide +kernel : Cond.fieldLink RX0 30 RX0 (TX0 6).2.1 (TX0 6).2.2.1 ∈ wsX0_init) (by simp (disch := omega) only [zup_ne, zup_eq, hs]) dX0_init_69 ?_
  refine aw_bipush (v := (-9)) dX0_init_72 (by decide) ?_
  refine aw_runv (zRun_S (c_J7_fill_53178 (n := 20) (by simp (disch := omega) only [zup_ne, zup_eq]) (by decide)) (Or.inl gX0_init_J7_fill_53178) q_J7_fill_53178 (by decide) rfl rfl (Nat.le_of_ble_eq_true rfl) dX0_init_74 (by decide)) ?_
  exact aw_return rfl dX0_init_77 (by decide) rfl (zwin_of (zlt9 (by simp (disch := omega) only [Nat.add_zero, zup_ne, zup_eq, zuP_ne, zuP_eq, hs, hF, hP, cFill_0, bkSh]; try rfl) (by simp (disch := omega) only [Nat.add_zero, zup_ne, zup_eq, zuP_ne, zuP_eq, hs, hF, hP, cFill_0, bkSh]; try rfl) (by simp (disch := omega) only [Nat.add_zero, zup_ne, zup_eq, zuP_ne, zuP_eq, hs, hF, hP, cFill_0, bkSh]; try rfl) (by simp (disch := omega) only [Nat.add_zero, zup_ne, zup_eq, zuP_ne, zuP_eq, hs, hF, hP, cFill_0, bkSh]; try rfl) (by simp (disch := omega) only [Nat.add_zero, zup_ne, zup_eq, zuP_ne, zuP_eq, hs, hF, hP, cFill_0, bkSh]; try rfl) (by simp (disch := omega) only [Nat.add_zero, zup_ne, zup_eq, zuP_ne, zuP_eq, hs, hF, hP, cFill_0, bkSh]; try rfl) (by simp (disch := omega) only [Nat.add_zero, zup_ne, zup_eq, zuP_ne, zuP_eq, hs, hF, hP, cFill_0, bkSh]; try rfl) (by simp (disch := omega) only [Nat.add_zero, zup_ne, zup_eq, zuP_ne, zuP_eq, hs, hF, hP, cFill_0, bkSh]; try rfl) (by simp (disch := omega) only [Nat.add_zero, zup_ne, zup_eq, zuP_ne, zuP_eq, hs, hF, hP, cFill_0, bkSh]; try rfl)) (fun i hi => by simp (disch := omega) only [zup_ne, zuP_ne])) (zwin_of (zlt9 (by simp (disch := omega) only [Nat.add_zero, zup_ne, zup_eq, zuP_ne, zuP_eq, hs, hF, hP, cFill_0, Nat.add_zero]; try rfl) (by simp (disch := omega) only [Nat.add_zero, zup_ne, zup_eq, zuP_ne, zuP_eq, hs, hF, hP, cFill_0, Nat.add_zero]; try rfl) (by simp (disch := omega) only [Nat.add_zero, zup_ne, zup_eq, zuP_ne, zuP_eq, hs, hF, hP, cFill_0, Nat.add_zero]; try rfl) (by simp (disch := omega) only [Nat.add_zero, zup_ne, zup_eq, zuP_ne, zuP_eq, hs, hF, hP, cFill_0, Nat.add_zero]; try rfl) (by simp (disch := omega) only [Nat.add_zero, zup_ne, zup_eq, zuP_ne, zuP_eq, hs, hF, hP, cFill_0, Nat.add_zero]; try rfl) (by simp (disch := omega) only [Nat.add_zero, zup_ne, zup_eq, zuP_ne, zuP_eq, hs, hF, hP, cFill_0, Nat.add_zero]; try rfl) (by simp (disch := omega) only [Nat.add_zero, zup_ne, zup_eq, zuP_ne, zuP_eq, hs, hF, hP, cFill_0, Nat.add_zero]; try rfl) (by simp (disch := omega) only [Nat.add_zero, zup_ne, zup_eq, zuP_ne, zuP_eq, hs, hF, hP, cFill_0, Nat.add_zero]; try rfl) (by simp (disch := omega) only [Nat.add_zero, zup_ne, zup_eq, zuP_ne, zuP_eq, hs, hF, hP, cFill_0, Nat.add_zero]; try rfl)) (fun i hi => by simp (disch := omega) only [zup_ne, zuP_ne])) (zwin_of (zlt9 (by simp (disch := omega) only [Nat.add_zero, zup_ne, zup_eq, zuP_ne, zuP_eq, hs, hF, hP, cFill_0, Nat.add_zero, bkP_0]; try rfl) (by simp (disch := omega) only [Nat.add_zero, zup_ne, zup_eq, zuP_ne, zuP_eq, hs, hF, hP, cFill_0, Nat.add_zero, bkP_0]; try rfl) (by simp (disch := omega) only [Nat.add_zero, zup_ne, zup_eq, zuP_ne, zuP_eq, hs, hF, hP, cFill_0, Nat.add_zero, bkP_0]; try rfl) (by simp (disch := omega) only [Nat.add_zero, zup_ne, zup_eq, zuP_ne, zuP_eq, hs, hF, hP, cFill_0, Nat.add_zero, bkP_0]; try rfl) (by simp (disch := omega) only [Nat.add_zero, zup_ne, zup_eq, zuP_ne, zuP_eq, hs, hF, hP, cFill_0, Nat.add_zero, bkP_0]; try rfl) (by simp (disch := omega) only [Nat.add_zero, zup_ne, zup_eq, zuP_ne, zuP_eq, hs, hF, hP, cFill_0, Nat.add_zero, bkP_0]; try rfl) (by simp (disch := omega) only [Nat.add_zero, zup_ne, zup_eq, zuP_ne, zuP_eq, hs, hF, hP, cFill_0, Nat.add_zero, bkP_0]; try rfl) (by simp (disch := omega) only [Nat.add_zero, zup_ne, zup_eq, zuP_ne, zuP_eq, hs, hF, hP, cFill_0, Nat.add_zero, bkP_0]; try rfl) (by simp (disch := omega) only [Nat.add_zero, zup_ne, zup_eq, zuP_ne, zuP_eq, hs, hF, hP, cFill_0, Nat.add_zero, bkP_0]; try rfl)) (fun i hi => by simp (disch := omega) only [zup_ne, zuP_ne]))

abbrev mX4_init : ZM := (cX4_init, RX4, wsX4_init, 1, 6, 120, none, 1, yX4_init.name)
set_option maxHeartbeats 1000000 in
set_option maxRecDepth 100000 in
theorem c_X4_init {sh : zSh} {F : Nat → Nat → Int32} {P : Nat → Nat → Option Nat} {σ : Nat} (hs : sh σ = some (.inl 4)) (hfree : ∀ j, 0 < j → j < 7 → sh (σ + j) = none) (hF : F σ = fun _ => 0) (hP : P σ = fun _ => none) : zMet yX4_init wsX4_init (1) (6) (120) [.ref σ] sh F P (none) (zwin sh σ 7 skSh) (zwin F σ 7 zZero) (zwin P σ 7 (skP σ)) := by
  refine zMet.of (by decide) rfl (Nat.le_of_ble_eq_true rfl) (by simp [Value.category]) ?_
  intro X ρ
  show AW mX4_init X (zMQ mX4_init X (none) (zwin sh σ 7 skSh) (zwin F σ 7 zZero) (zwin P σ 7 (skP σ))) 0 [some (.ref σ)] [] ρ sh F P 0 0
  have hinX4 : ∀ w ∈ u_ws RX4 TX4 7, w ∈ wsX4_init := by decide +kernel
  refine aw_aload_0 dX4_init_0 ?_
  refine aw_objInit (by decide +kernel) (by decide +kernel) (by decide +kernel) dX4_init_1 (by simp [Value.category]) ?_
  refine aw_aload_0 dX4_init_4 ?_
  refine aw_bipush (v := 20) dX4_init_5 (by decide) ?_
  refine aw_newI (i := σ + 1) (N := 20) (by decide +kernel : Cond.arrayClass .int ∈ wsX4_init) (by decide) (by decide) (by decide) (by simp (disch := omega) only [zup_ne, hfree]) (zrefs_new (by simp; try omega) (by simp; try omega) (by simp (disch := omega) only [zup_ne, hfree])) (by decide) dX4_init_7 (fun ρ => ?_)
  refine aw_putF fX4_0 (fun _ _ => rfl) (fun _ => rfl) (fun _ => rfl) rfl rfl rfl (by simp (disch := omega) [zup_eq]) hinX4 (by decide +kernel : Cond.fieldLink RX4 9 RX4 (TX4 0).2.1 (TX4 0).2.2.1 ∈ wsX4_init) (by simp (disch := omega) only [zup_ne, zup_eq, hs]) dX4_init_9 ?_
  refine aw_aload_0 dX4_init_12 ?_
  refine aw_bipush (v := 20) dX4_init_13 (by decide) ?_
  refine aw_newI (i := σ + 2) (N := 20) (by decide +kernel : Cond.arrayClass .int ∈ wsX4_init) (by decide) (by decide) (by decide) (by simp (disch := omega) only [zup_ne, hfree]) (zrefs_new (by simp; try omega) (by simp; try omega) (by simp (disch := omega) only [zup_ne, hfree])) (by decide) dX4_init_15 (fun ρ => ?_)
  refine aw_putF fX4_1 (fun _ _ => rfl) (fun _ => rfl) (fun _ => rfl) rfl rfl rfl (by simp (disch := omega) [zup_eq]) hinX4 (by decide +kernel : Cond.fieldLink RX4 15 RX4 (TX4 1).2.1 (TX4 1).2.2.1 ∈ wsX4_init) (by simp (disch := omega) only [zup_ne, zup_eq, hs]) dX4_init_17 ?_
  refine aw_aload_0 dX4_init_20 ?_
  refine aw_bipush (v := 20) dX4_init_21 (by decide) ?_
  refine aw_newI (i := σ + 3) (N := 20) (by decide +kernel : Cond.arrayClass .int ∈ wsX4_init) (by decide) (by decide) (by decide) (by simp (disch := omega) only [zup_ne, hfree]) (zrefs_new (by simp; try omega) (by simp; try omega) (by simp (disch := omega) only [zup_ne, hfree])) (by decide) dX4_init_23 (fun ρ => ?_)
  refine aw_putF fX4_2 (fun _ _ => rfl) (fun _ => rfl) (fun _ => rfl) rfl rfl rfl (by simp (disch := omega) [zup_eq]) hinX4 (by decide +kernel : Cond.fieldLink RX4 18 RX4 (TX4 2).2.1 (TX4 2).2.2.1 ∈ wsX4_init) (by simp (disch := omega) only [zup_ne, zup_eq, hs]) dX4_init_25 ?_
  refine aw_aload_0 dX4_init_28 ?_
  refine aw_bipush (v := 20) dX4_init_29 (by decide) ?_
  refine aw_newI (i := σ + 4) (N := 20) (by decide +kernel : Cond.arrayClass .int ∈ wsX4_init) (by decide) (by decide) (by decide) (by simp (disch := omega) only [zup_ne, hfree]) (zrefs_new (by simp; try omega) (by simp; try omega) (by simp (disch := omega) only [zup_ne, hfree])) (by decide) dX4_init_31 (fun ρ => ?_)
  refine aw_putF fX4_3 (fun _ _ => rfl) (fun _ => rfl) (fun _ => rfl) rfl rfl rfl (by simp (disch := omega) [zup_eq]) hinX4 (by decide +kernel : Cond.fieldLink RX4 21 RX4 (TX4 3).2.1 (TX4 3).2.2.1 ∈ wsX4_init) (by simp (disch := omega) only [zup_ne, zup_eq, hs]) dX4_init_33 ?_
  refine aw_aload_0 dX4_init_36 ?_
  refine aw_bipush (v := 20) dX4_init_37 (by decide) ?_
  refine aw_newI (i := σ + 5) (N := 20) (by decide +kernel : Cond.arrayClass .int ∈ wsX4_init) (by decide) (by decide) (by decide) (by simp (disch := omega) only [zup_ne, hfree]) (zrefs_new (by simp; try omega) (by simp; try omega) (by simp (disch := omega) only [zup_ne, hfree])) (by decide) dX4_init_39 (fun ρ => ?_)
  refine aw_putF fX4_4 (fun _ _ => rfl) (fun _ => rfl) (fun _ => rfl) rfl rfl rfl (by simp (disch := omega) [zup_eq]) hinX4 (by decide +kernel : Cond.fieldLink RX4 24 RX4 (TX4 4).2.1 (TX4 4).2.2.1 ∈ wsX4_init) (by simp (disch := omega) only [zup_ne, zup_eq, hs]) dX4_init_41 ?_
  refine aw_aload_0 dX4_init_44 ?_
  refine aw_bipush (v := 20) dX4_init_45 (by decide) ?_
  refine aw_newI (i := σ + 6) (N := 20) (by decide +kernel : Cond.arrayClass .int ∈ wsX4_init) (by decide) (by decide) (by decide) (by simp (disch := omega) only [zup_ne, hfree]) (zrefs_new (by simp; try omega) (by simp; try omega) (by simp (disch := omega) only [zup_ne, hfree])) (by decide) dX4_init_47 (fun ρ => ?_)
  refine aw_putF fX4_5 (fun _ _ => rfl) (fun _ => rfl) (fun _ => rfl) rfl rfl rfl (by simp (disch := omega) [zup_eq]) hinX4 (by decide +kernel : Cond.fieldLink RX4 27 RX4 (TX4 5).2.1 (TX4 5).2.2.1 ∈ wsX4_init) (by simp (disch := omega) only [zup_ne, zup_eq, hs]) dX4_init_49 ?_
  exact aw_return rfl dX4_init_52 (by decide) rfl (zwin_of (zlt7 (by simp (disch := omega) only [Nat.add_zero, zup_ne, zup_eq, zuP_ne, zuP_eq, hs, hF, hP, cFill_0, skSh]; try rfl) (by simp (disch := omega) only [Nat.add_zero, zup_ne, zup_eq, zuP_ne, zuP_eq, hs, hF, hP, cFill_0, skSh]; try rfl) (by simp (disch := omega) only [Nat.add_zero, zup_ne, zup_eq, zuP_ne, zuP_eq, hs, hF, hP, cFill_0, skSh]; try rfl) (by simp (disch := omega) only [Nat.add_zero, zup_ne, zup_eq, zuP_ne, zuP_eq, hs, hF, hP, cFill_0, skSh]; try rfl) (by simp (disch := omega) only [Nat.add_zero, zup_ne, zup_eq, zuP_ne, zuP_eq, hs, hF, hP, cFill_0, skSh]; try rfl) (by simp (disch := omega) only [Nat.add_zero, zup_ne, zup_eq, zuP_ne, zuP_eq, hs, hF, hP, cFill_0, skSh]; try rfl) (by simp (disch := omega) only [Nat.add_zero, zup_ne, zup_eq, zuP_ne, zuP_eq, hs, hF, hP, cFill_0, skSh]; try rfl)) (fun i hi => by simp (disch := omega) only [zup_ne, zuP_ne])) (zwin_of (zlt7 (by simp (disch := omega) only [Nat.add_zero, zup_ne, zup_eq, zuP_ne, zuP_eq, hs, hF, hP, cFill_0, zZero]; try rfl) (by simp (disch := omega) only [Nat.add_zero, zup_ne, zup_eq, zuP_ne, zuP_eq, hs, hF, hP, cFill_0, zZero]; try rfl) (by simp (disch := omega) only [Nat.add_zero, zup_ne, zup_eq, zuP_ne, zuP_eq, hs, hF, hP, cFill_0, zZero]; try rfl) (by simp (disch := omega) only [Nat.add_zero, zup_ne, zup_eq, zuP_ne, zuP_eq, hs, hF, hP, cFill_0, zZero]; try rfl) (by simp (disch := omega) only [Nat.add_zero, zup_ne, zup_eq, zuP_ne, zuP_eq, hs, hF, hP, cFill_0, zZero]; try rfl) (by simp (disch := omega) only [Nat.add_zero, zup_ne, zup_eq, zuP_ne, zuP_eq, hs, hF, hP, cFill_0, zZero]; try rfl) (by simp (disch := omega) only [Nat.add_zero, zup_ne, zup_eq, zuP_ne, zuP_eq, hs, hF, hP, cFill_0, zZero]; try rfl)) (fun i hi => by simp (disch := omega) only [zup_ne, zuP_ne])) (zwin_of (zlt7 (by simp (disch := omega) only [Nat.add_zero, zup_ne, zup_eq, zuP_ne, zuP_eq, hs, hF, hP, cFill_0, Nat.add_zero, skP_0]; try rfl) (by simp (disch := omega) only [Nat.add_zero, zup_ne, zup_eq, zuP_ne, zuP_eq, hs, hF, hP, cFill_0, Nat.add_zero, skP_0]; try rfl) (by simp (disch := omega) only [Nat.add_zero, zup_ne, zup_eq, zuP_ne, zuP_eq, hs, hF, hP, cFill_0, Nat.add_zero, skP_0]; try rfl) (by simp (disch := omega) only [Nat.add_zero, zup_ne, zup_eq, zuP_ne, zuP_eq, hs, hF, hP, cFill_0, Nat.add_zero, skP_0]; try rfl) (by simp (disch := omega) only [Nat.add_zero, zup_ne, zup_eq, zuP_ne, zuP_eq, hs, hF, hP, cFill_0, Nat.add_zero, skP_0]; try rfl) (by simp (disch := omega) only [Nat.add_zero, zup_ne, zup_eq, zuP_ne, zuP_eq, hs, hF, hP, cFill_0, Nat.add_zero, skP_0]; try rfl) (by simp (disch := omega) only [Nat.add_zero, zup_ne, zup_eq, zuP_ne, zuP_eq, hs, hF, hP, cFill_0, Nat.add_zero, skP_0]; try rfl)) (fun i hi => by simp (disch := omega) only [zup_ne, zuP_ne]))

