/-! ===== 19.init2: constructors of State, Works, History, Reader; floorMod; History ===== -/
theorem z17 {p : Nat → Prop} (h0 : p 0) (h1 : ∀ q, q < 9 → p (1 + q)) (h2 : ∀ q, q < 7 → p (10 + q)) : ∀ j, j < 17 → p j := by
  intro j hj
  rcases Nat.lt_or_ge j 1 with h | h
  · have : j = 0 := by omega
    rw [this]; exact h0
  · rcases Nat.lt_or_ge j 10 with g | g
    · have e := h1 (j - 1) (by omega)
      rwa [show 1 + (j - 1) = j by omega] at e
    · have e := h2 (j - 10) (by omega)
      rwa [show 10 + (j - 10) = j by omega] at e
theorem z8 {p : Nat → Prop} (h0 : p 0) (h1 : ∀ q, q < 7 → p (1 + q)) : ∀ j, j < 8 → p j := by
  intro j hj
  rcases Nat.lt_or_ge j 1 with h | h
  · have : j = 0 := by omega
    rw [this]; exact h0
  · have e := h1 (j - 1) (by omega)
    rwa [show 1 + (j - 1) = j by omega] at e
def z17f {α : Type} (a : α) (B C : Nat → α) : Nat → α := fun j => if j = 0 then a else if j < 10 then B (j - 1) else C (j - 10)
theorem z17f_0 {α : Type} {a : α} {B C : Nat → α} : z17f a B C 0 = a := rfl
theorem z17f_1 {α : Type} {a : α} {B C : Nat → α} {q : Nat} (h : q < 9) : z17f a B C (1 + q) = B q := by
  simp only [z17f]
  rw [if_neg (by omega), if_pos (by omega), show 1 + q - 1 = q by omega]
theorem z17f_2 {α : Type} {a : α} {B C : Nat → α} {q : Nat} : z17f a B C (10 + q) = C q := by
  simp only [z17f]
  rw [if_neg (by omega), if_neg (by omega), show 10 + q - 10 = q by omega]
def z8f {α : Type} (a : α) (B : Nat → α) : Nat → α := fun j => if j = 0 then a else B (j - 1)
theorem z8f_1 {α : Type} {a : α} {B : Nat → α} {q : Nat} : z8f a B (1 + q) = B q := by
  simp only [z8f]
  rw [if_neg (by omega), show 1 + q - 1 = q by omega]
def stSh : zSh := z17f (some (.inl 3)) bkSh skSh
def stF : Nat → Nat → Int32 := z17f (fun _ => 0) bkF zZero
def stP (τ : Nat) : Nat → Nat → Option Nat := z17f (va_up (va_up (fun _ => none) 0 (some (τ + 1))) 1 (some (τ + 10))) (bkP (τ + 1)) (skP (τ + 10))
def wkSh : zSh := z8f (some (.inl 5)) skSh
def wkP (ω : Nat) : Nat → Nat → Option Nat := z8f (va_up (fun _ => none) 0 (some (ω + 1))) (skP (ω + 1))
theorem zwin_a0 {α : Type} {F : Nat → α} {b n : Nat} {B : Nat → α} (h : 0 < n) : zwin F b n B b = B 0 := zwin_at (j := 0) h
theorem zsh17 {sh : zSh} {τ : Nat} {a b : Option (Nat ⊕ (Nat × Nat))} {B C : zSh} {x : Option (Nat ⊕ (Nat × Nat))} (hs : sh τ = x) : zwin (va_up (zwin (va_up sh (τ + 1) a) (τ + 1) 9 B) (τ + 10) b) (τ + 10) 7 C = zwin sh τ 17 (z17f x B C) := by
  refine zwin_of (z17 ?_ (fun q hq => ?_) (fun q hq => ?_)) (fun i hi => ?_)
  · simp (disch := omega) only [Nat.add_zero, zwin_ne, zup_ne, hs, z17f_0]
  · rw [show τ + (1 + q) = τ + 1 + q by omega]
    simp (disch := omega) only [zwin_ne, zup_ne, zwin_at, z17f_1]
  · rw [show τ + (10 + q) = τ + 10 + q by omega]
    simp (disch := omega) only [zwin_at, z17f_2]
  · simp (disch := omega) only [zwin_ne, zup_ne]
theorem zF17 {F : Nat → Nat → Int32} {τ : Nat} {a b : Nat → Int32} {B C : Nat → Nat → Int32} {x : Nat → Int32} (hs : F τ = x) : zwin (va_up (zwin (va_up F (τ + 1) a) (τ + 1) 9 B) (τ + 10) b) (τ + 10) 7 C = zwin F τ 17 (z17f x B C) := by
  refine zwin_of (z17 ?_ (fun q hq => ?_) (fun q hq => ?_)) (fun i hi => ?_)
  · simp (disch := omega) only [Nat.add_zero, zwin_ne, zup_ne, hs, z17f_0]
  · rw [show τ + (1 + q) = τ + 1 + q by omega]
    simp (disch := omega) only [zwin_ne, zup_ne, zwin_at, z17f_1]
  · rw [show τ + (10 + q) = τ + 10 + q by omega]
    simp (disch := omega) only [zwin_at, z17f_2]
  · simp (disch := omega) only [zwin_ne, zup_ne]

abbrev mX3_init : ZM := (cX3_init, RX3, wsX3_init, 3, 16, 495, none, 1, yX3_init.name)
set_option maxHeartbeats 1000000 in
set_option maxRecDepth 100000 in
theorem c_X3_init {sh : zSh} {F : Nat → Nat → Int32} {P : Nat → Nat → Option Nat} {τ : Nat} (hs : sh τ = some (.inl 3)) (hfree : ∀ j, 0 < j → j < 17 → sh (τ + j) = none) (hF : F τ = fun _ => 0) (hP : P τ = fun _ => none) : zMet yX3_init wsX3_init (3) (16) (495) [.ref τ] sh F P (none) (zwin sh τ 17 stSh) (zwin F τ 17 stF) (zwin P τ 17 (stP τ)) := by
  refine zMet.of (by decide) rfl (Nat.le_of_ble_eq_true rfl) (by simp [Value.category]) ?_
  intro X ρ
  show AW mX3_init X (zMQ mX3_init X (none) (zwin sh τ 17 stSh) (zwin F τ 17 stF) (zwin P τ 17 (stP τ))) 0 [some (.ref τ)] [] ρ sh F P 0 0
  have hinX3 : ∀ w ∈ u_ws RX3 TX3 2, w ∈ wsX3_init := by decide +kernel
  refine aw_aload_0 dX3_init_0 ?_
  refine aw_objInit (by decide +kernel) (by decide +kernel) (by decide +kernel) dX3_init_1 (by simp [Value.category]) ?_
  refine aw_aload_0 dX3_init_4 ?_
  refine aw_new (i := τ + 1) (C := RX0) (T := TX0) (N := 8) (ci := 0) rfl rfl tyX0_ok (by decide) (by decide +kernel) (by decide +kernel : Cond.classLink RX3 7 RX0 ∈ wsX3_init) (by decide +kernel : Cond.instantiable RX0 8 ∈ wsX3_init) (by decide +kernel : Cond.initialized RX0 ∈ wsX3_init) (by simp (disch := omega) only [zup_ne, zwin_ne, hfree]) (zrefs_new (by simp; try omega) (by simp; try omega) (by simp (disch := omega) only [zup_ne, zwin_ne, hfree])) ⟨by decide, by decide⟩ dX3_init_5 (fun ρ => ?_)
  refine aw_dup rfl dX3_init_8 ?_
  refine aw_runAv (zRun_I (c_X0_init (by simp (disch := omega) only [zup_eq]) (fun j hj1 hj2 => by simp (disch := omega) only [zup_ne, zwin_ne]; exact (by rw [show τ + 1 + j = τ + (1 + j) by omega]; exact hfree (1 + j) (by omega) (by omega))) (by simp only [zup_eq]) (by simp only [zup_eq])) gX3_init_X0_init (by decide +kernel) (by decide +kernel) (by decide +kernel) rfl q_X0_init (by decide) rfl rfl (Nat.le_of_ble_eq_true rfl) dX3_init_9 ⟨by decide, by decide⟩) (by refine ⟨fun j hj => ?_, fun j hj => ?_⟩ <;> (left; simp at hj; (first | rw [hj] | (rcases hj with hj | hj <;> rw [hj])) <;> simp (disch := omega) only [zup_eq, zup_ne, zwin_ne, hs, ne_eq, not_false_eq_true, reduceCtorEq])) (fun ρ => ?_)
  refine aw_putF fX3_0 (fun _ _ => rfl) (fun _ => rfl) (fun _ => rfl) rfl rfl rfl (by simp (disch := omega) [zup_eq, zup_ne, zwin_ne, zwin_a0, bkSh, skSh]) hinX3 (by decide +kernel : Cond.fieldLink RX3 10 RX3 (TX3 0).2.1 (TX3 0).2.2.1 ∈ wsX3_init) (by simp (disch := omega) only [zup_ne, zup_eq, zwin_ne, zwin_at, zwin_a0, hs]; try rfl) dX3_init_12 ?_
  refine aw_aload_0 dX3_init_15 ?_
  refine aw_new (i := τ + 10) (C := RX4) (T := TX4) (N := 7) (ci := 4) rfl rfl tyX4_ok (by decide) (by decide +kernel) (by decide +kernel : Cond.classLink RX3 16 RX4 ∈ wsX3_init) (by decide +kernel : Cond.instantiable RX4 7 ∈ wsX3_init) (by decide +kernel : Cond.initialized RX4 ∈ wsX3_init) (by simp (disch := omega) only [zup_ne, zwin_ne, hfree]) (zrefs_new (by simp; try omega) (by simp; try omega) (by simp (disch := omega) only [zup_ne, zwin_ne, hfree])) ⟨by decide, by decide⟩ dX3_init_16 (fun ρ => ?_)
  refine aw_dup rfl dX3_init_19 ?_
  refine aw_runAv (zRun_IN (qn := 14) (c_X4_init (by simp (disch := omega) only [zup_eq]) (fun j hj1 hj2 => by simp (disch := omega) only [zup_ne, zwin_ne]; exact (by rw [show τ + 10 + j = τ + (10 + j) by omega]; exact hfree (10 + j) (by omega) (by omega))) (by simp only [zup_eq]) (by simp only [zup_eq])) gX3_init_X4_init_n18 rfl (by decide +kernel) (by decide +kernel) rfl q_X4_init (by decide) rfl rfl (Nat.le_of_ble_eq_true rfl) dX3_init_20 ⟨by decide, by decide⟩) (by refine ⟨fun j hj => ?_, fun j hj => ?_⟩ <;> (left; simp at hj; (first | rw [hj] | (rcases hj with hj | hj <;> rw [hj])) <;> simp (disch := omega) only [zup_eq, zup_ne, zwin_ne, hs, ne_eq, not_false_eq_true, reduceCtorEq])) (fun ρ => ?_)
  refine aw_putF fX3_1 (fun _ _ => rfl) (fun _ => rfl) (fun _ => rfl) rfl rfl rfl (by simp (disch := omega) [zup_eq, zup_ne, zwin_ne, zwin_a0, bkSh, skSh]) hinX3 (by decide +kernel : Cond.fieldLink RX3 19 RX3 (TX3 1).2.1 (TX3 1).2.2.1 ∈ wsX3_init) (by simp (disch := omega) only [zup_ne, zup_eq, zwin_ne, zwin_at, zwin_a0, hs]; try rfl) dX3_init_23 ?_
  exact aw_return rfl dX3_init_26 (by decide) rfl (zsh17 hs) (zF17 hF) (zwin_of (z17 (by simp (disch := omega) only [Nat.add_zero, zuP_eq, zuP_ne, zup_ne, zwin_ne, hP]; rfl) (fun q hq => by rw [show τ + (1 + q) = τ + 1 + q by omega]; simp (disch := omega) only [zuP_ne, zup_ne, zwin_ne, zwin_at]; exact (z17f_1 hq).symm) (fun q hq => by rw [show τ + (10 + q) = τ + 10 + q by omega]; simp (disch := omega) only [zuP_ne, zup_ne, zwin_ne, zwin_at]; exact z17f_2.symm)) (fun i hi => by simp (disch := omega) only [zuP_ne, zup_ne, zwin_ne]))

abbrev mX5_init : ZM := (cX5_init, RX5, wsX5_init, 2, 7, 127, none, 1, yX5_init.name)
set_option maxHeartbeats 1000000 in
set_option maxRecDepth 100000 in
theorem c_X5_init {sh : zSh} {F : Nat → Nat → Int32} {P : Nat → Nat → Option Nat} {ω : Nat} (hs : sh ω = some (.inl 5)) (hfree : ∀ j, 0 < j → j < 8 → sh (ω + j) = none) (hF : F ω = fun _ => 0) (hP : P ω = fun _ => none) : zMet yX5_init wsX5_init (2) (7) (127) [.ref ω] sh F P (none) (zwin sh ω 8 wkSh) (zwin F ω 8 zZero) (zwin P ω 8 (wkP ω)) := by
  refine zMet.of (by decide) rfl (Nat.le_of_ble_eq_true rfl) (by simp [Value.category]) ?_
  intro X ρ
  show AW mX5_init X (zMQ mX5_init X (none) (zwin sh ω 8 wkSh) (zwin F ω 8 zZero) (zwin P ω 8 (wkP ω))) 0 [some (.ref ω)] [] ρ sh F P 0 0
  have hinX5 : ∀ w ∈ u_ws RX5 TX5 5, w ∈ wsX5_init := by decide +kernel
  refine aw_aload_0 dX5_init_0 ?_
  refine aw_objInit (by decide +kernel) (by decide +kernel) (by decide +kernel) dX5_init_1 (by simp [Value.category]) ?_
  refine aw_aload_0 dX5_init_4 ?_
  refine aw_new (i := ω + 1) (C := RX4) (T := TX4) (N := 7) (ci := 4) rfl rfl tyX4_ok (by decide) (by decide +kernel) (by decide +kernel : Cond.classLink RX5 9 RX4 ∈ wsX5_init) (by decide +kernel : Cond.instantiable RX4 7 ∈ wsX5_init) (by decide +kernel : Cond.initialized RX4 ∈ wsX5_init) (by simp (disch := omega) only [zup_ne, zwin_ne, hfree]) (zrefs_new (by simp; try omega) (by simp; try omega) (by simp (disch := omega) only [zup_ne, zwin_ne, hfree])) ⟨by decide, by decide⟩ dX5_init_5 (fun ρ => ?_)
  refine aw_dup rfl dX5_init_8 ?_
  refine aw_runAv (zRun_IN (qn := 16) (c_X4_init (by simp (disch := omega) only [zup_eq]) (fun j hj1 hj2 => by simp (disch := omega) only [zup_ne, zwin_ne]; exact (by rw [show ω + 1 + j = ω + (1 + j) by omega]; exact hfree (1 + j) (by omega) (by omega))) (by simp only [zup_eq]) (by simp only [zup_eq])) gX5_init_X4_init_n11 rfl (by decide +kernel) (by decide +kernel) rfl q_X4_init (by decide) rfl rfl (Nat.le_of_ble_eq_true rfl) dX5_init_9 ⟨by decide, by decide⟩) (by refine ⟨fun j hj => ?_, fun j hj => ?_⟩ <;> (left; simp at hj; (first | rw [hj] | (rcases hj with hj | hj <;> rw [hj])) <;> simp (disch := omega) only [zup_eq, zup_ne, zwin_ne, hs, ne_eq, not_false_eq_true, reduceCtorEq])) (fun ρ => ?_)
  refine aw_putF fX5_0 (fun _ _ => rfl) (fun _ => rfl) (fun _ => rfl) rfl rfl rfl (by simp (disch := omega) [zup_eq, zup_ne, zwin_ne, zwin_a0, bkSh, skSh]) hinX5 (by decide +kernel : Cond.fieldLink RX5 12 RX5 (TX5 0).2.1 (TX5 0).2.2.1 ∈ wsX5_init) (by simp (disch := omega) only [zup_ne, zup_eq, zwin_ne, zwin_at, zwin_a0, hs]; try rfl) dX5_init_12 ?_
  exact aw_return rfl dX5_init_15 (by decide) rfl (zwin_of (z8 (by simp (disch := omega) only [Nat.add_zero, zup_ne, zwin_ne, hs]; rfl) (fun q hq => by rw [show ω + (1 + q) = ω + 1 + q by omega]; simp (disch := omega) only [zwin_at]; exact z8f_1.symm)) (fun i hi => by simp (disch := omega) only [zup_ne, zwin_ne])) (zwin_of (z8 (by simp (disch := omega) only [Nat.add_zero, zup_ne, zwin_ne, hF]; rfl) (fun q hq => by rw [show ω + (1 + q) = ω + 1 + q by omega]; simp (disch := omega) only [zwin_at]; rfl)) (fun i hi => by simp (disch := omega) only [zup_ne, zwin_ne])) (zwin_of (z8 (by simp (disch := omega) only [Nat.add_zero, zuP_eq, zup_ne, zwin_ne, hP]; rfl) (fun q hq => by rw [show ω + (1 + q) = ω + 1 + q by omega]; simp (disch := omega) only [zuP_ne, zwin_at]; exact z8f_1.symm)) (fun i hi => by simp (disch := omega) only [zuP_ne, zup_ne, zwin_ne]))

abbrev mX1_init : ZM := (cX1_init, RX1, wsX1_init, 1, 1, 8, none, 1, yX1_init.name)
set_option maxHeartbeats 1000000 in
set_option maxRecDepth 100000 in
theorem c_X1_init {sh : zSh} {F : Nat → Nat → Int32} {P : Nat → Nat → Option Nat} {η : Nat} (hs : sh η = some (.inl 1)) (hfree : sh (η + 1) = none) : zMet yX1_init wsX1_init (1) (1) (8) [.ref η] sh F P (none) (va_up sh (η + 1) (some (.inr (2, 8)))) (va_up F (η + 1) (fun _ => 0)) (zuP (va_up P (η + 1) (fun _ => none)) η 0 (some (η + 1))) := by
  refine zMet.of (by decide) rfl (Nat.le_of_ble_eq_true rfl) (by simp [Value.category]) ?_
  intro X ρ
  show AW mX1_init X (zMQ mX1_init X (none) (va_up sh (η + 1) (some (.inr (2, 8)))) (va_up F (η + 1) (fun _ => 0)) (zuP (va_up P (η + 1) (fun _ => none)) η 0 (some (η + 1)))) 0 [some (.ref η)] [] ρ sh F P 0 0
  have hinX1 : ∀ w ∈ u_ws RX1 TX1 3, w ∈ wsX1_init := by decide +kernel
  refine aw_aload_0 dX1_init_0 ?_
  refine aw_objInit (by decide +kernel) (by decide +kernel) (by decide +kernel) dX1_init_1 (by simp [Value.category]) ?_
  refine aw_aload_0 dX1_init_4 ?_
  refine aw_bipush (v := 8) dX1_init_5 (by decide) ?_
  refine aw_newS (i := η + 1) (N := 8) (by decide +kernel : Cond.classLink RX1 9 RX3 ∈ wsX1_init) (by decide) (by decide) (by decide) hfree (zrefs_new (by simp) (by simp) hfree) (by decide) dX1_init_7 (fun ρ => ?_)
  refine aw_putF fX1_0 (fun _ _ => rfl) (fun _ => rfl) (fun _ => rfl) rfl rfl rfl (by simp (disch := omega) [zup_eq, zup_ne, zwin_ne, zwin_a0, bkSh, skSh]) hinX1 (by decide +kernel : Cond.fieldLink RX1 11 RX1 (TX1 0).2.1 (TX1 0).2.2.1 ∈ wsX1_init) (by simp (disch := omega) only [zup_ne, zup_eq, zwin_ne, zwin_at, zwin_a0, hs]; try rfl) dX1_init_10 ?_
  exact aw_return rfl dX1_init_13 (by decide) rfl rfl rfl rfl

abbrev mX2_init : ZM := (cX2_init, RX2, wsX2_init, 1, 2, 10, none, 1, yX2_init.name)
set_option maxHeartbeats 1000000 in
set_option maxRecDepth 100000 in
theorem c_X2_init {sh : zSh} {F : Nat → Nat → Int32} {P : Nat → Nat → Option Nat} {r : Nat} (hs : sh r = some (.inl 2)) (hf1 : sh (r + 1) = none) (hf2 : sh (r + 2) = none) : zMet yX2_init wsX2_init (1) (2) (10) [.ref r] sh F P (none) (va_up (va_up sh (r + 1) (some (.inr (0, 5)))) (r + 2) (some (.inr (0, 5)))) (va_up (va_up F (r + 1) (fun _ => 0)) (r + 2) (fun _ => 0)) (zuP (va_up (zuP (va_up P (r + 1) (fun _ => none)) r 0 (some (r + 1))) (r + 2) (fun _ => none)) r 1 (some (r + 2))) := by
  refine zMet.of (by decide) rfl (Nat.le_of_ble_eq_true rfl) (by simp [Value.category]) ?_
  intro X ρ
  show AW mX2_init X (zMQ mX2_init X (none) (va_up (va_up sh (r + 1) (some (.inr (0, 5)))) (r + 2) (some (.inr (0, 5)))) (va_up (va_up F (r + 1) (fun _ => 0)) (r + 2) (fun _ => 0)) (zuP (va_up (zuP (va_up P (r + 1) (fun _ => none)) r 0 (some (r + 1))) (r + 2) (fun _ => none)) r 1 (some (r + 2)))) 0 [some (.ref r)] [] ρ sh F P 0 0
  have hinX2 : ∀ w ∈ u_ws RX2 TX2 8, w ∈ wsX2_init := by decide +kernel
  refine aw_aload_0 dX2_init_0 ?_
  refine aw_objInit (by decide +kernel) (by decide +kernel) (by decide +kernel) dX2_init_1 (by simp [Value.category]) ?_
  refine aw_aload_0 dX2_init_4 ?_
  refine aw_iconst (v := 5) dX2_init_5 (by decide) ?_
  refine aw_newI (i := r + 1) (N := 5) (by decide +kernel : Cond.arrayClass .int ∈ wsX2_init) (by decide) (by decide) (by decide) (by simp (disch := omega) only [zup_ne, hf1, hf2]) (zrefs_new (by simp) (by simp) (by simp (disch := omega) only [zup_ne, hf1, hf2])) (by decide) dX2_init_6 (fun ρ => ?_)
  refine aw_putF fX2_0 (fun _ _ => rfl) (fun _ => rfl) (fun _ => rfl) rfl rfl rfl (by simp (disch := omega) [zup_eq, zup_ne, zwin_ne, zwin_a0, bkSh, skSh]) hinX2 (by decide +kernel : Cond.fieldLink RX2 9 RX2 (TX2 0).2.1 (TX2 0).2.2.1 ∈ wsX2_init) (by simp (disch := omega) only [zup_ne, zup_eq, zwin_ne, zwin_at, zwin_a0, hs]; try rfl) dX2_init_8 ?_
  refine aw_aload_0 dX2_init_11 ?_
  refine aw_iconst (v := 5) dX2_init_12 (by decide) ?_
  refine aw_newI (i := r + 2) (N := 5) (by decide +kernel : Cond.arrayClass .int ∈ wsX2_init) (by decide) (by decide) (by decide) (by simp (disch := omega) only [zup_ne, hf1, hf2]) (zrefs_new (by simp) (by simp) (by simp (disch := omega) only [zup_ne, hf1, hf2])) (by decide) dX2_init_13 (fun ρ => ?_)
  refine aw_putF fX2_1 (fun _ _ => rfl) (fun _ => rfl) (fun _ => rfl) rfl rfl rfl (by simp (disch := omega) [zup_eq, zup_ne, zwin_ne, zwin_a0, bkSh, skSh]) hinX2 (by decide +kernel : Cond.fieldLink RX2 15 RX2 (TX2 1).2.1 (TX2 1).2.2.1 ∈ wsX2_init) (by simp (disch := omega) only [zup_ne, zup_eq, zwin_ne, zwin_at, zwin_a0, hs]; try rfl) dX2_init_15 ?_
  exact aw_return rfl dX2_init_18 (by decide) rfl rfl rfl rfl

theorem Met_ofWF {l : Launch} {y : MethodName} {ws ws' : List Cond} {rm : Room} {Pc : Array Value → State → Prop} {Qc : Array Value → State → Outcome → State → Prop} {mc ms : Nat} {free : Addr → Prop} {cc : ByteArray} {maxL : Nat} {ret : Option FieldType}
    (hy : plainFor y = true) (hw : ws = Cond.code y cc maxL ret :: ws')
    (body : ∀ p e s m args below meth c s₁, BodyLoose p l y (headSpec ws rm) cc maxL ret e s m args below meth c s₁ → c.maxLocals = maxL → Pc args s →
      W p l e (headSpec ws rm).room s m args below meth c s.heap [] 0 0 (MQ below Qc args s mc ms free) (entryFrame m args maxL)) : Met l y ws rm Pc Qc mc ms free := by
  refine MetFree.of_bodySF (code := cc) (maxLocals := maxL) (ret := ret) hy ?_ ?_
  · intro args s m h hn
    obtain ⟨meth, c, h1, h2, h3, h4, h5, h6, -, -⟩ := Cond.code_spec hn (atoms_spec (ws := ws) h _ (by rw [hw]; exact List.mem_cons_self))
    exact ⟨meth, c, h1, h2, h3, h4, h5, h6⟩
  · intro p e s m args below meth c s₁ B hml hP _
    have hh0 : s₁.heap = s.heap := by rw [B.state]; rfl
    obtain ⟨t, a1, o, b1, b2, b3⟩ := body p e s m args below meth c s₁ B hml hP s₁ hh0 (Stand.of_body B)
    exact ⟨t, o, a1, b1, b2, ⟨b3.1, b3.2⟩⟩
theorem zMet.ofF {y : MethodName} {ws ws' : List Cond} {cc : ByteArray} {maxL h mc ms : Nat} {ret : Option FieldType} {as : List Value} {sh sh' : zSh} {F F' : Nat → Nat → Int32} {P P' : Nat → Nat → Option Nat} {r : Option Value}
    (hy : plainFor y = true) (hw : ws = Cond.code y cc maxL ret :: ws') (hlen : as.length ≤ maxL) (hc1 : ∀ v ∈ as, v.category = 1)
    (body : ∀ (X : ZX) (ρ : Nat → Nat), AW (cc, y.cls, ws, h, mc, ms, ret, maxL, y.name) X (zMQ (cc, y.cls, ws, h, mc, ms, ret, maxL, y.name) X r sh' F' P') 0 (as.map some ++ List.replicate (maxL - as.length) none) [] ρ sh F P 0 0) : zMet y ws h mc ms as sh F P r sh' F' P' := by
  intro l D cs ρ sz
  refine Met_ofWF (cc := cc) (maxL := maxL) (ret := ret) hy hw ?_
  intro p e s m args below meth c s₁ B hml hv
  obtain ⟨rfl, hsz, hR, hK⟩ := hv
  subst hsz
  have hc1' : ∀ v ∈ as.map (zV ρ), v.category = 1 := by
    intro v hv
    obtain ⟨u, hu, rfl⟩ := List.mem_map.mp hv
    rw [zV_cat]
    exact hc1 u hu
  have hl := lv_entry (as.map (zV ρ)) (n := maxL) (by rw [zlg_len _ hc1', List.length_map]; exact hlen)
  rw [lg_entry_eq]
  generalize (lg_sl (as.map (zV ρ)) ++ List.replicate (maxL - (lg_sl (as.map (zV ρ))).length) Slot.unset).toArray = lsA at hl ⊢
  have key := body (p, l, e, (headSpec ws (zrm h mc ms)).room, s, m, (as.map (zV ρ)).toArray, below, meth, c, D, cs, ρ, sh) ρ
    ⟨B.exec, B.bytes, hml, findClass_of_methodNamed B.named, atoms_spec (ws := ws) B.pre, B.notSynchronized, B.returns, rfl, hK, (name_of_methodNamed B.named B.method).1⟩ zExt.refl
    (by show (as.map some ++ List.replicate (maxL - as.length) none).length = maxL; simp; omega) s.heap [] lsA (hR.weaken (fun i hi _ => Or.inl ⟨i, hi, rfl⟩)) va_S.rf
    ⟨by rw [hl.1]; simp; omega, hl.2.1, fun i v hv => by
      have hi : as[i]? = some v := by
        by_cases h2 : i < as.length
        · rw [List.getElem?_append_left (by simpa using h2), List.getElem?_map] at hv
          cases hx : as[i]? with
          | none => rw [hx] at hv; cases hv
          | some u => rw [hx] at hv; cases hv; rfl
        · rw [List.getElem?_append_right (by simp; omega)] at hv
          have := List.eq_of_mem_replicate (List.mem_of_getElem? hv)
          cases this
      refine ⟨?_, hc1 v (List.mem_of_getElem? hi)⟩
      have := hl.2.2 _ (zargs_mem (as.map (zV ρ)) 0 hc1' i (zV ρ v) (by rw [List.getElem?_map, hi]; rfl))
      simpa using this⟩
  exact key
def cMod (x y : Int32) : Int32 := if 0 ≤ x ^^^ y then x - x / y * y else if x - x / y * y = 0 then x - x / y * y else x - x / y * y + y

abbrev mJ9_floorMod_7cf53 : ZM := (cJ9_floorMod_7cf53, RJ9, wsJ9_floorMod_7cf53, 1, 0, 0, (some .int), 3, yJ9_floorMod_7cf53.name)
set_option maxHeartbeats 1000000 in
set_option maxRecDepth 100000 in
theorem c_J9_floorMod_7cf53 {sh : zSh} {F : Nat → Nat → Int32} {P : Nat → Nat → Option Nat} {x y : Int32} (hy : ¬ y = 0) : zMet yJ9_floorMod_7cf53 wsJ9_floorMod_7cf53 (1) (0) (0) [.int x, .int y] sh F P (some (.int (cMod x y))) sh F P := by
  refine zMet.ofF (by decide +kernel) rfl (Nat.le_of_ble_eq_true rfl) (by simp [Value.category]) ?_
  intro X ρ
  show AW mJ9_floorMod_7cf53 X (zMQ mJ9_floorMod_7cf53 X (some (.int (cMod x y))) sh F P) 0 [some (.int x), some (.int y), none] [] ρ sh F P 0 0
  refine aw_iload_0 dJ9_floorMod_7cf53_0 ?_
  refine aw_iload_1 dJ9_floorMod_7cf53_1 ?_
  refine aw_irem (by assumption) dJ9_floorMod_7cf53_2 ?_
  refine aw_istore_2 dJ9_floorMod_7cf53_3 ?_
  refine aw_iload_0 dJ9_floorMod_7cf53_4 ?_
  refine aw_iload_1 dJ9_floorMod_7cf53_5 ?_
  refine aw_ixor dJ9_floorMod_7cf53_6 ?_
  refine aw_if_ge (tgt := 18) dJ9_floorMod_7cf53_7 (by decide) (fun c7 => ?_) (fun c7 => ?_)
  · refine aw_iload_2 dJ9_floorMod_7cf53_18 ?_
    exact aw_ireturn rfl dJ9_floorMod_7cf53_19 ⟨Nat.zero_le _, Nat.zero_le _⟩ (by first | rfl | simp [cMod, c7]) rfl rfl rfl
  · refine aw_iload_2 dJ9_floorMod_7cf53_10 ?_
    refine aw_if_eq (tgt := 18) dJ9_floorMod_7cf53_11 (by decide) (fun c11 => ?_) (fun c11 => ?_)
    · refine aw_iload_2 dJ9_floorMod_7cf53_18 ?_
      exact aw_ireturn rfl dJ9_floorMod_7cf53_19 ⟨Nat.zero_le _, Nat.zero_le _⟩ (by first | rfl | simp [cMod, c7, c11]) rfl rfl rfl
    · refine aw_iload_2 dJ9_floorMod_7cf53_14 ?_
      refine aw_iload_1 dJ9_floorMod_7cf53_15 ?_
      refine aw_iadd dJ9_floorMod_7cf53_16 ?_
      exact aw_ireturn rfl dJ9_floorMod_7cf53_17 ⟨Nat.zero_le _, Nat.zero_le _⟩ (by first | rfl | simp [cMod, c7, c11]) rfl rfl rfl

def zHi (sh : zSh) (P : Nat → Nat → Option Nat) (η : Nat) : Prop := sh η = some (.inl 1) ∧ P η 0 = some (η + 1) ∧ sh (η + 1) = some (.inr (2, 8))

abbrev mX1_size : ZM := (cX1_size, RX1, wsX1_size, 1, 0, 0, (some .int), 1, yX1_size.name)
set_option maxHeartbeats 1000000 in
set_option maxRecDepth 100000 in
theorem c_X1_size {sh : zSh} {F : Nat → Nat → Int32} {P : Nat → Nat → Option Nat} {η : Nat} (hH : zHi sh P η) : zMet yX1_size wsX1_size (1) (0) (0) [.ref η] sh F P (some (.int (F η 2))) sh F P := by
  refine zMet.of (by decide) rfl (Nat.le_of_ble_eq_true rfl) (by simp [Value.category]) ?_
  intro X ρ
  show AW mX1_size X (zMQ mX1_size X (some (.int (F η 2))) sh F P) 0 [some (.ref η)] [] ρ sh F P 0 0
  have hinX1 : ∀ w ∈ u_ws RX1 TX1 3, w ∈ wsX1_size := by decide +kernel
  obtain ⟨hs0, hp0, hs1⟩ := id hH
  refine aw_aload_0 dX1_size_0 ?_
  refine aw_getI fX1_2 hinX1 (by decide +kernel : Cond.fieldLink RX1 17 RX1 (TX1 2).2.1 (TX1 2).2.2.1 ∈ wsX1_size) (by assumption) dX1_size_1 ?_
  exact aw_ireturn rfl dX1_size_4 ⟨Nat.zero_le _, Nat.zero_le _⟩ (by first | rfl | simp []) rfl rfl rfl

abbrev mX1_placeOf : ZM := (cX1_placeOf, RX1, wsX1_placeOf, 2, 0, 0, (some .int), 2, yX1_placeOf.name)
set_option maxHeartbeats 1000000 in
set_option maxRecDepth 100000 in
theorem c_X1_placeOf {sh : zSh} {F : Nat → Nat → Int32} {P : Nat → Nat → Option Nat} {η : Nat} {k : Int32} (hH : zHi sh P η) : zMet yX1_placeOf wsX1_placeOf (2) (0) (0) [.ref η, .int k] sh F P (some (.int (cMod (F η 1 + k) 8))) sh F P := by
  refine zMet.of (by decide) rfl (Nat.le_of_ble_eq_true rfl) (by simp [Value.category]) ?_
  intro X ρ
  show AW mX1_placeOf X (zMQ mX1_placeOf X (some (.int (cMod (F η 1 + k) 8))) sh F P) 0 [some (.ref η), some (.int k)] [] ρ sh F P 0 0
  have hinX1 : ∀ w ∈ u_ws RX1 TX1 3, w ∈ wsX1_placeOf := by decide +kernel
  obtain ⟨hs0, hp0, hs1⟩ := id hH
  refine aw_aload_0 dX1_placeOf_0 ?_
  refine aw_getI fX1_1 hinX1 (by decide +kernel : Cond.fieldLink RX1 25 RX1 (TX1 1).2.1 (TX1 1).2.2.1 ∈ wsX1_placeOf) (by assumption) dX1_placeOf_1 ?_
  refine aw_iload_1 dX1_placeOf_4 ?_
  refine aw_iadd dX1_placeOf_5 ?_
  refine aw_bipush (v := 8) dX1_placeOf_6 (by decide) ?_
  refine aw_run (zRun_S (c_J9_floorMod_7cf53 (by decide)) (Or.inl gX1_placeOf_J9_floorMod_7cf53) q_J9_floorMod_7cf53 (by decide) rfl rfl (Nat.le_of_ble_eq_true rfl) dX1_placeOf_8 ⟨Nat.le_refl _, Nat.le_refl _⟩) ?_
  exact aw_ireturn rfl dX1_placeOf_11 ⟨Nat.zero_le _, Nat.zero_le _⟩ (by first | rfl | simp []) rfl rfl rfl

abbrev mX6_stateAt : ZM := (cX6_stateAt, RX6, wsX6_stateAt, 1, 0, 0, (some (.object "ThingMaker$State")), 2, yX6_stateAt.name)
set_option maxHeartbeats 1000000 in
set_option maxRecDepth 100000 in
theorem c_X6_stateAt_s {sh : zSh} {F : Nat → Nat → Int32} {P : Nat → Nat → Option Nat} {s n i j : Nat} (hs : sh s = some (.inr (2, n))) (hn : n < 2 ^ 31) (hi : i < n) (hp : P s i = some j) : zMet yX6_stateAt wsX6_stateAt (1) (0) (0) [.ref s, .int (nI i)] sh F P (some (.ref j)) sh F P := by
  refine zMet.of (by decide) rfl (Nat.le_of_ble_eq_true rfl) (by simp [Value.category]) ?_
  intro X ρ
  show AW mX6_stateAt X (zMQ mX6_stateAt X (some (.ref j)) sh F P) 0 [some (.ref s), some (.int (nI i))] [] ρ sh F P 0 0
  refine aw_iload_1 dX6_stateAt_0 ?_
  refine aw_if_lt (tgt := 16) dX6_stateAt_1 (by decide) (fun c1 => absurd c1 (nI_pos (by omega))) (fun c1 => ?_)
  refine aw_iload_1 dX6_stateAt_4 ?_
  refine aw_aload_0 dX6_stateAt_5 ?_
  refine aw_alen (t := 2) (v := nI _) (by decide) (by assumption) rfl dX6_stateAt_6 ?_
  refine aw_icmp_ge (tgt := 16) dX6_stateAt_7 (by decide) (fun c7 => absurd c7 (nI_ge hi hn)) (fun c7 => ?_)
  refine aw_aload_0 dX6_stateAt_10 ?_
  refine aw_iload_1 dX6_stateAt_11 ?_
  refine aw_aaload (j := j) hs (vp_in_nI hi hn) (by rw [nI_clamp (by omega)]; exact hp) dX6_stateAt_12 ?_
  refine aw_goto (tgt := 17) dX6_stateAt_13 (by decide) ?_
  exact aw_areturn rfl (Or.inr ⟨_, rfl⟩) dX6_stateAt_17 ⟨Nat.zero_le _, Nat.zero_le _⟩ (by first | rfl | simp []) rfl rfl rfl

set_option maxHeartbeats 1000000 in
set_option maxRecDepth 100000 in
theorem c_X6_stateAt_n {sh : zSh} {F : Nat → Nat → Int32} {P : Nat → Nat → Option Nat} {s n i : Nat} (hs : sh s = some (.inr (2, n))) (hn : n < 2 ^ 31) (hi : i < n) (hp : P s i = none) : zMet yX6_stateAt wsX6_stateAt (1) (0) (0) [.ref s, .int (nI i)] sh F P (some .null) sh F P := by
  refine zMet.of (by decide) rfl (Nat.le_of_ble_eq_true rfl) (by simp [Value.category]) ?_
  intro X ρ
  show AW mX6_stateAt X (zMQ mX6_stateAt X (some .null) sh F P) 0 [some (.ref s), some (.int (nI i))] [] ρ sh F P 0 0
  refine aw_iload_1 dX6_stateAt_0 ?_
  refine aw_if_lt (tgt := 16) dX6_stateAt_1 (by decide) (fun c1 => absurd c1 (nI_pos (by omega))) (fun c1 => ?_)
  refine aw_iload_1 dX6_stateAt_4 ?_
  refine aw_aload_0 dX6_stateAt_5 ?_
  refine aw_alen (t := 2) (v := nI _) (by decide) (by assumption) rfl dX6_stateAt_6 ?_
  refine aw_icmp_ge (tgt := 16) dX6_stateAt_7 (by decide) (fun c7 => absurd c7 (nI_ge hi hn)) (fun c7 => ?_)
  refine aw_aload_0 dX6_stateAt_10 ?_
  refine aw_iload_1 dX6_stateAt_11 ?_
  refine aw_aaloadN hs (vp_in_nI hi hn) (by rw [nI_clamp (by omega)]; exact hp) dX6_stateAt_12 ?_
  refine aw_goto (tgt := 17) dX6_stateAt_13 (by decide) ?_
  exact aw_areturn rfl (Or.inl rfl) dX6_stateAt_17 ⟨Nat.zero_le _, Nat.zero_le _⟩ (by first | rfl | simp []) rfl rfl rfl

abbrev mX6_roomAt : ZM := (cX6_roomAt, RX6, wsX6_roomAt, 4, 17, 497, (some (.object "ThingMaker$State")), 4, yX6_roomAt.name)
set_option maxHeartbeats 1000000 in
set_option maxRecDepth 100000 in
theorem c_X6_roomAt_s {sh : zSh} {F : Nat → Nat → Int32} {P : Nat → Nat → Option Nat} {s n i j : Nat} (hs : sh s = some (.inr (2, n))) (hn : n < 2 ^ 31) (hi : i < n) (hp : P s i = some j) : zMet yX6_roomAt wsX6_roomAt (4) (17) (497) [.ref s, .int (nI i)] sh F P (some (.ref j)) sh F P := by
  refine zMet.of (by decide) rfl (Nat.le_of_ble_eq_true rfl) (by simp [Value.category]) ?_
  intro X ρ
  show AW mX6_roomAt X (zMQ mX6_roomAt X (some (.ref j)) sh F P) 0 [some (.ref s), some (.int (nI i)), none, none] [] ρ sh F P 0 0
  refine aw_aload_0 dX6_roomAt_0 ?_
  refine aw_iload_1 dX6_roomAt_1 ?_
  refine aw_run (zRun_S (c_X6_stateAt_s hs hn hi hp) (Or.inl gX6_roomAt_X6_stateAt) q_X6_stateAt (by decide) rfl rfl (Nat.le_of_ble_eq_true rfl) dX6_roomAt_2 ⟨by decide, by decide⟩) ?_
  refine aw_astore_2 dX6_roomAt_5 ?_
  refine aw_aload_2 dX6_roomAt_6 ?_
  refine aw_ifnull dX6_roomAt_7 ?_
  refine aw_aload_2 dX6_roomAt_10 ?_
  exact aw_areturn rfl (Or.inr ⟨_, rfl⟩) dX6_roomAt_11 (by decide) (by first | rfl | simp []) rfl rfl rfl

set_option maxHeartbeats 1000000 in
set_option maxRecDepth 100000 in
theorem c_X6_roomAt_n {sh : zSh} {F : Nat → Nat → Int32} {P : Nat → Nat → Option Nat} {s n i τ : Nat} (hs : sh s = some (.inr (2, n))) (hn : n < 2 ^ 31) (hi : i < n) (hp : P s i = none) (hf : ∀ j, j < 17 → sh (τ + j) = none) (hsw : s < τ ∨ τ + 17 ≤ s) : zMet yX6_roomAt wsX6_roomAt (4) (17) (497) [.ref s, .int (nI i)] sh F P (some (.ref τ)) (zwin sh τ 17 stSh) (zwin F τ 17 stF) (zuP (zwin P τ 17 (stP τ)) s i (some τ)) := by
  refine zMet.of (by decide) rfl (Nat.le_of_ble_eq_true rfl) (by simp [Value.category]) ?_
  intro X ρ
  show AW mX6_roomAt X (zMQ mX6_roomAt X (some (.ref τ)) (zwin sh τ 17 stSh) (zwin F τ 17 stF) (zuP (zwin P τ 17 (stP τ)) s i (some τ))) 0 [some (.ref s), some (.int (nI i)), none, none] [] ρ sh F P 0 0
  have hf0 : sh τ = none := hf 0 (by decide)
  have hsτ : s ≠ τ := by omega
  refine aw_aload_0 dX6_roomAt_0 ?_
  refine aw_iload_1 dX6_roomAt_1 ?_
  refine aw_run (zRun_S (c_X6_stateAt_n hs hn hi hp) (Or.inl gX6_roomAt_X6_stateAt) q_X6_stateAt (by decide) rfl rfl (Nat.le_of_ble_eq_true rfl) dX6_roomAt_2 ⟨by decide, by decide⟩) ?_
  refine aw_astore_2N dX6_roomAt_5 ?_
  refine aw_aload_2N dX6_roomAt_6 ?_
  refine aw_ifnullN (tgt := 12) dX6_roomAt_7 (by decide) ?_
  refine aw_new (i := τ) (C := RX3) (T := TX3) (N := 2) (ci := 3) rfl rfl tyX3_ok (by decide) (by decide +kernel) (by decide +kernel : Cond.classLink RX6 40 RX3 ∈ wsX6_roomAt) (by decide +kernel : Cond.instantiable RX3 2 ∈ wsX6_roomAt) (by decide +kernel : Cond.initialized RX3 ∈ wsX6_roomAt) hf0 (zrefs_new (fun j hj => by simp at hj; rw [hj]; exact hsτ) (by simp) hf0) ⟨by decide, by decide⟩ dX6_roomAt_12 (fun ρ => ?_)
  refine aw_dup rfl dX6_roomAt_15 ?_
  refine aw_runAv (zRun_IN (qn := 1) (c_X3_init (by simp only [zup_eq]) (fun j hj1 hj2 => by rw [zup_ne (by omega)]; exact hf j hj2) (by simp only [zup_eq]) (by simp only [zup_eq])) gX6_roomAt_X3_init_n256 rfl (by decide +kernel) (by decide +kernel) rfl q_X3_init (by decide) rfl rfl (Nat.le_of_ble_eq_true rfl) dX6_roomAt_16 ⟨by decide, by decide⟩) (by refine ⟨fun j hj => ?_, fun j hj => ?_⟩ <;> (left; simp at hj; rw [hj]; simp (disch := omega) only [zup_eq, zup_ne, hs, ne_eq, not_false_eq_true, reduceCtorEq]))  (fun ρ => ?_)
  refine aw_astore_3 dX6_roomAt_19 ?_
  refine aw_iload_1 dX6_roomAt_20 ?_
  refine aw_if_lt (tgt := 34) dX6_roomAt_21 (by decide) (fun c21 => absurd c21 (nI_pos (by omega))) (fun c21 => ?_)
  refine aw_iload_1 dX6_roomAt_24 ?_
  refine aw_aload_0 dX6_roomAt_25 ?_
  refine aw_alen (t := 2) (v := nI _) (by decide) (by simp (disch := omega) only [zup_ne, zwin_ne]; exact hs) rfl dX6_roomAt_26 ?_
  refine aw_icmp_ge (tgt := 34) dX6_roomAt_27 (by decide) (fun c27 => absurd c27 (nI_ge hi hn)) (fun c27 => ?_)
  refine aw_aload_0 dX6_roomAt_30 ?_
  refine aw_iload_1 dX6_roomAt_31 ?_
  refine aw_aload_3 dX6_roomAt_32 ?_
  refine aw_aastore (by simp (disch := omega) only [zup_ne, zwin_ne]; exact hs) (by simp (disch := omega) only [zwin_a0, zup_eq]; rfl) (vp_in_nI hi hn) dX6_roomAt_33 ?_
  refine aw_aload_3 dX6_roomAt_34 ?_
  exact aw_areturn rfl (Or.inr ⟨_, rfl⟩) dX6_roomAt_35 (by decide) rfl (zwin_of (fun j hj => zwin_at hj) (fun i hi => by rw [zwin_ne hi, zup_ne (by omega)])) (zwin_of (fun j hj => zwin_at hj) (fun i hi => by rw [zwin_ne hi, zup_ne (by omega)])) (by rw [nI_clamp (by omega)]; exact congrArg (fun P => zuP P s i (some τ)) (zwin_of (fun j hj => zwin_at hj) (fun i hi => by rw [zwin_ne hi, zup_ne (by omega)])))

