/-! ===== 21.reader: ThingMaker$RecipeReader; R 0 its object (2 made, 3 yielded, 4 count, 5 kind, 6 place of the fault, 7 place), R 1, R 2 its rows; T the text ===== -/
def rSet (R : Nat → Nat → Int32) (k : Nat) (v : Int32) : Nat → Nat → Int32 := va_up R 0 (upd (R 0) k v)
def rTell (R : Nat → Nat → Int32) (k w : Int32) : Nat → Nat → Int32 := if R 0 5 = 0 then rSet (rSet R 5 k) 6 w else R
def rSkip (T : Nat → Int32) (len : Int32) : Nat → Int32 → Int32
  | 0, p => p
  | n + 1, p => if len ≤ p then p else if cAt 60 T p = 32 then rSkip T len n (p + 1) else p
def rSk (T : Nat → Int32) (len : Int32) (R : Nat → Nat → Int32) : Nat → Nat → Int32 := rSet R 7 (rSkip T len 61 (R 0 7))
def rDig (T : Nat → Int32) (len i : Int32) : Int32 := if len ≤ i then 0 else if cAt 60 T i < 48 then 0 else if 57 < cAt 60 T i then 0 else 1
def rInc (R : Nat → Nat → Int32) : Nat → Nat → Int32 := rSet R 7 (R 0 7 + 1)
def rLetV (T : Nat → Int32) (len : Int32) (R : Nat → Nat → Int32) : Int32 := cAt 60 T (rSk T len R 0 7) - 97
def rLet (T : Nat → Int32) (len : Int32) (R : Nat → Nat → Int32) : Nat → Nat → Int32 :=
  rInc (if rSk T len R 0 7 < len then (if cIsThing (rLetV T len R) = 0 then rTell (rSk T len R) 1 (rSk T len R 0 7) else rSk T len R) else rTell (rSk T len R) 4 len)
def rSign (T : Nat → Int32) (len s : Int32) (R : Nat → Nat → Int32) : Nat → Nat → Int32 :=
  rInc (if rSk T len R 0 7 < len then (if cAt 60 T (rSk T len R 0 7) = s then rSk T len R else rTell (rSk T len R) 1 (rSk T len R 0 7)) else rTell (rSk T len R) 4 len)
/-- the number after one digit at the place p -/
def rN1 (T : Nat → Int32) (p : Int32) : Int32 := cAt 60 T p - 48
/-- the number, and the memory, behind the second digit, if there is one -/
def rN2 (T : Nat → Int32) (len : Int32) (R : Nat → Nat → Int32) : Int32 × (Nat → Nat → Int32) :=
  if rDig T len (rInc R 0 7) = 0 then (rN1 T (R 0 7), rInc R) else (rN1 T (R 0 7) * 10 + cAt 60 T (rInc R 0 7) - 48, rInc (rInc R))
def rN3 (T : Nat → Int32) (len : Int32) (R : Nat → Nat → Int32) : Nat → Nat → Int32 :=
  if rDig T len ((rN2 T len R).2 0 7) = 0 then
    (if (rN2 T len R).1 < 1 then rTell (rN2 T len R).2 2 (R 0 7) else if (rN2 T len R).1 ≤ 20 then (rN2 T len R).2 else rTell (rN2 T len R).2 2 (R 0 7))
  else rTell (rN2 T len R).2 1 ((rN2 T len R).2 0 7)
def rNum (T : Nat → Int32) (len : Int32) (R : Nat → Nat → Int32) : Nat → Nat → Int32 := if rDig T len (rSk T len R 0 7) = 0 then rSk T len R else rN3 T len (rSk T len R)
def rNumV (T : Nat → Int32) (len : Int32) (R : Nat → Nat → Int32) : Int32 := if rDig T len (rSk T len R 0 7) = 0 then 1 else (rN2 T len (rSk T len R)).1
def rList (R : Nat → Nat → Int32) (t : Int32) : Bool := anyLt (fun i => cAt 5 (R 1) (nI i) == t) (R 0 4).toNatClampNeg
def rAdd (R : Nat → Nat → Int32) (t a : Int32) : Nat → Nat → Int32 :=
  rSet (va_up (va_up R 1 (cPut 5 (R 1) (R 0 4) t)) 2 (cPut 5 (R 2) (R 0 4) a)) 4 (R 0 4 + 1)
def rIng0 (T : Nat → Int32) (len : Int32) (R : Nat → Nat → Int32) : Nat → Nat → Int32 := rLet T len (rNum T len R)
def rIng (T : Nat → Int32) (len : Int32) (R : Nat → Nat → Int32) : Nat → Nat → Int32 :=
  if rIng0 T len R 0 5 = 0 then
    (if 5 ≤ rIng0 T len R 0 4 then rTell (rIng0 T len R) 3 (rIng0 T len R 0 7 - 1)
     else if rList (rIng0 T len R) (rLetV T len (rNum T len R)) = true then rTell (rIng0 T len R) 3 (rIng0 T len R 0 7 - 1)
     else rAdd (rIng0 T len R) (rLetV T len (rNum T len R)) (rNumV T len R))
  else rIng0 T len R
def rMoreV (T : Nat → Int32) (len : Int32) (R : Nat → Nat → Int32) : Int32 := if rSk T len R 0 5 = 0 then (if len ≤ rSk T len R 0 7 then 0 else 1) else 0
def rStep (T : Nat → Int32) (len : Int32) (_ : Nat) (s : (Nat → Nat → Int32) × Bool) : (Nat → Nat → Int32) × Bool :=
  if s.2 = true then s else if rMoreV T len s.1 = 0 then (rSk T len s.1, true) else (rIng T len (rSign T len 43 (rSk T len s.1)), false)
def rRead0 (T : Nat → Int32) (len : Int32) (R : Nat → Nat → Int32) : Nat → Nat → Int32 :=
  let R1 := rSet (rSet (rSet (rSet R 7 0) 4 0) 5 0) 6 0
  let R2 := rSet (rLet T len R1) 2 (rLetV T len R1)
  let R3 := rSet (rNum T len R2) 3 (rNumV T len R2)
  rIng T len (rSign T len 61 R3)
def rRead (T : Nat → Int32) (len : Int32) (R : Nat → Nat → Int32) : Nat → Nat → Int32 := (it (rStep T len) 5 (rRead0 T len R, false)).1
theorem upd_self (f : Nat → Int32) (k : Nat) : upd f k (f k) = f := by
  funext j
  by_cases h : j = k
  · subst h
    simp [upd]
  · simp [upd, h]
theorem rSet_self (R : Nat → Nat → Int32) (k : Nat) : rSet R k (R 0 k) = R := by
  unfold rSet
  rw [upd_self, va_up_same]
theorem rSet_set (R : Nat → Nat → Int32) (k : Nat) (v w : Int32) : rSet (rSet R k v) k w = rSet R k w := by
  unfold rSet
  rw [va_up_up, zup_eq]
  congr 1
  funext j
  by_cases h : j = k <;> simp [upd, h]
theorem rInc_f (R : Nat → Nat → Int32) : va_up R 0 (upd (R 0) 7 (R 0 7 + 1)) = rInc R := rfl
theorem rSet_at (R : Nat → Nat → Int32) (k : Nat) (v : Int32) : rSet R k v 0 k = v := by simp [rSet, va_up, upd]
theorem rInc_set (R : Nat → Nat → Int32) (v : Int32) : rInc (rSet R 7 v) = rSet R 7 (v + 1) := by
  unfold rInc
  rw [rSet_set, rSet_at]

abbrev mX2_tellFault : ZM := (cX2_tellFault, RX2, wsX2_tellFault, 1, 0, 0, none, 3, yX2_tellFault.name)
set_option maxHeartbeats 1000000 in
set_option maxRecDepth 100000 in
theorem c_X2_tellFault {sh : zSh} {F : Nat → Nat → Int32} {P : Nat → Nat → Option Nat} {r : Nat} {R : Nat → Nat → Int32} {k w : Int32} (hR : zRd sh P r) (hV : zVw F r 3 R) : zMet yX2_tellFault wsX2_tellFault (1) (0) (0) [.ref r, .int k, .int w] sh F P (none) sh (zput F r 3 (rTell R k w)) P := by
  refine zMet.of (by decide) rfl (Nat.le_of_ble_eq_true rfl) (by simp [Value.category]) ?_
  intro X ρ
  show AW mX2_tellFault X (zMQ mX2_tellFault X (none) sh (zput F r 3 (rTell R k w)) P) 0 [some (.ref r), some (.int k), some (.int w)] [] ρ sh F P 0 0
  have hinX2 : ∀ w ∈ u_ws RX2 TX2 8, w ∈ wsX2_tellFault := by decide +kernel
  obtain ⟨hs0, ⟨hp0, hp1⟩, hs1, hs2⟩ := id hR
  refine aw_cF (F' := zput F r 3 R) (zput_view hV).symm ?_
  refine aw_aload_0 dX2_tellFault_0 ?_
  refine aw_getI fX2_5 hinX2 (by decide +kernel : Cond.fieldLink RX2 25 RX2 (TX2 5).2.1 (TX2 5).2.2.1 ∈ wsX2_tellFault) (by assumption) dX2_tellFault_1 ?_
  try simp (disch := omega) only [zu_up, zup_in, zup_in0, zput_at, zput_a0, zput_zput, zput_ne, rInc_f]
  refine aw_if_ne (tgt := 17) dX2_tellFault_4 (by decide) (fun c4 => ?_) (fun c4 => ?_)
  · try simp (disch := omega) only [zu_up, zup_in, zup_in0, zput_at, zput_a0, zput_zput, zput_ne, rInc_f]
    exact aw_return rfl dX2_tellFault_17 ⟨Nat.zero_le _, Nat.zero_le _⟩ rfl rfl (by unfold rTell; (first | rw [if_pos c4] | rw [if_neg c4]); try rfl) rfl
  · refine aw_aload_0 dX2_tellFault_7 ?_
    refine aw_iload_1 dX2_tellFault_8 ?_
    refine aw_putI fX2_5 rfl hinX2 (by decide +kernel : Cond.fieldLink RX2 25 RX2 (TX2 5).2.1 (TX2 5).2.2.1 ∈ wsX2_tellFault) (by assumption) dX2_tellFault_9 ?_
    try simp (disch := omega) only [zu_up, zup_in, zup_in0, zput_at, zput_a0, zput_zput, zput_ne, rInc_f]
    refine aw_aload_0 dX2_tellFault_12 ?_
    refine aw_iload_2 dX2_tellFault_13 ?_
    refine aw_putI fX2_6 rfl hinX2 (by decide +kernel : Cond.fieldLink RX2 28 RX2 (TX2 6).2.1 (TX2 6).2.2.1 ∈ wsX2_tellFault) (by assumption) dX2_tellFault_14 ?_
    try simp (disch := omega) only [zu_up, zup_in, zup_in0, zput_at, zput_a0, zput_zput, zput_ne, rInc_f]
    exact aw_return rfl dX2_tellFault_17 ⟨Nat.zero_le _, Nat.zero_le _⟩ rfl rfl (by unfold rTell; (first | rw [if_pos c4] | rw [if_neg c4]); try rfl) rfl

abbrev mX2_isDigit : ZM := (cX2_isDigit, RX2, wsX2_isDigit, 2, 0, 0, (some .boolean), 4, yX2_isDigit.name)
set_option maxHeartbeats 1000000 in
set_option maxRecDepth 100000 in
theorem c_X2_isDigit {sh : zSh} {F : Nat → Nat → Int32} {P : Nat → Nat → Option Nat} {r x : Nat} {len i : Int32} (hR : zRd sh P r) (hx : sh x = some (.inr (0, 60))) : zMet yX2_isDigit wsX2_isDigit (2) (0) (0) [.ref r, .ref x, .int len, .int i] sh F P (some (.int (rDig (F x) len i))) sh F P := by
  refine zMet.of (by decide) rfl (Nat.le_of_ble_eq_true rfl) (by simp [Value.category]) ?_
  intro X ρ
  show AW mX2_isDigit X (zMQ mX2_isDigit X (some (.int (rDig (F x) len i))) sh F P) 0 [some (.ref r), some (.ref x), some (.int len), some (.int i)] [] ρ sh F P 0 0
  obtain ⟨hs0, ⟨hp0, hp1⟩, hs1, hs2⟩ := id hR
  refine aw_iload_3 dX2_isDigit_0 ?_
  refine aw_iload_2 dX2_isDigit_1 ?_
  refine aw_icmp_ge (tgt := 29) dX2_isDigit_2 (by decide) (fun c2 => ?_) (fun c2 => ?_)
  · refine aw_iconst (v := 0) dX2_isDigit_29 (by decide) ?_
    exact aw_zreturn rfl dX2_isDigit_30 ⟨Nat.zero_le _, Nat.zero_le _⟩ (by decide) (by first | rfl | simp [rDig, c2]) rfl rfl rfl
  · refine aw_aload_1 dX2_isDigit_5 ?_
    refine aw_iload_3 dX2_isDigit_6 ?_
    refine aw_run (zRun_SN (qn := 12) (c_X6_at (by assumption) (by decide)) gX2_isDigit_X6_at_n70 rfl (by decide +kernel : Cond.static yX6_at ∈ wsX2_isDigit) (by decide +kernel : Cond.initialized yX6_at.cls ∈ wsX2_isDigit) q_X6_at (by decide) rfl rfl (Nat.le_of_ble_eq_true rfl) dX2_isDigit_7 ⟨Nat.le_refl _, Nat.le_refl _⟩) ?_
    refine aw_bipush (v := 48) dX2_isDigit_10 (by decide) ?_
    refine aw_icmp_lt (tgt := 29) dX2_isDigit_12 (by decide) (fun c12 => ?_) (fun c12 => ?_)
    · refine aw_iconst (v := 0) dX2_isDigit_29 (by decide) ?_
      exact aw_zreturn rfl dX2_isDigit_30 ⟨Nat.zero_le _, Nat.zero_le _⟩ (by decide) (by first | rfl | simp [rDig, c2, c12]) rfl rfl rfl
    · refine aw_aload_1 dX2_isDigit_15 ?_
      refine aw_iload_3 dX2_isDigit_16 ?_
      refine aw_run (zRun_SN (qn := 12) (c_X6_at (by assumption) (by decide)) gX2_isDigit_X6_at_n70 rfl (by decide +kernel : Cond.static yX6_at ∈ wsX2_isDigit) (by decide +kernel : Cond.initialized yX6_at.cls ∈ wsX2_isDigit) q_X6_at (by decide) rfl rfl (Nat.le_of_ble_eq_true rfl) dX2_isDigit_17 ⟨Nat.le_refl _, Nat.le_refl _⟩) ?_
      refine aw_bipush (v := 57) dX2_isDigit_20 (by decide) ?_
      refine aw_icmp_gt (tgt := 29) dX2_isDigit_22 (by decide) (fun c22 => ?_) (fun c22 => ?_)
      · refine aw_iconst (v := 0) dX2_isDigit_29 (by decide) ?_
        exact aw_zreturn rfl dX2_isDigit_30 ⟨Nat.zero_le _, Nat.zero_le _⟩ (by decide) (by first | rfl | simp [rDig, c2, c12, c22]) rfl rfl rfl
      · refine aw_iconst (v := 1) dX2_isDigit_25 (by decide) ?_
        refine aw_goto (tgt := 30) dX2_isDigit_26 (by decide) ?_
        exact aw_zreturn rfl dX2_isDigit_30 ⟨Nat.zero_le _, Nat.zero_le _⟩ (by decide) (by first | rfl | simp [rDig, c2, c12, c22]) rfl rfl rfl

abbrev mX2_skipBlanks : ZM := (cX2_skipBlanks, RX2, wsX2_skipBlanks, 2, 0, 0, none, 3, yX2_skipBlanks.name)
set_option maxHeartbeats 1000000 in
set_option maxRecDepth 100000 in
theorem c_X2_skipBlanks {sh : zSh} {F : Nat → Nat → Int32} {P : Nat → Nat → Option Nat} {r x : Nat} {R : Nat → Nat → Int32} {len : Int32} {i : Nat} (hR : zRd sh P r) (hV : zVw F r 3 R) (hx : sh x = some (.inr (0, 60))) (hd : x < r ∨ r + 3 ≤ x) (hi : R 0 7 = nI i) (hi2 : i < 2 ^ 30) : zMet yX2_skipBlanks wsX2_skipBlanks (2) (0) (0) [.ref r, .ref x, .int len] sh F P (none) sh (zput F r 3 (rSk (F x) len R)) P := by
  refine zMet.of (by decide) rfl (Nat.le_of_ble_eq_true rfl) (by simp [Value.category]) ?_
  intro X ρ
  show AW mX2_skipBlanks X (zMQ mX2_skipBlanks X (none) sh (zput F r 3 (rSk (F x) len R)) P) 0 [some (.ref r), some (.ref x), some (.int len)] [] ρ sh F P 0 0
  have hinX2 : ∀ w ∈ u_ws RX2 TX2 8, w ∈ wsX2_skipBlanks := by decide +kernel
  obtain ⟨hs0, ⟨hp0, hp1⟩, hs1, hs2⟩ := id hR
  refine aw_cF (F' := zput F r 3 R) (zput_view hV).symm ?_
  have L0 : ∀ (n j : Nat), 60 - j < n → j < 2 ^ 30 + 61 → rSkip (F x) len 61 (R 0 7) = rSkip (F x) len n (nI j) → AW mX2_skipBlanks X (zMQ mX2_skipBlanks X (none) sh (zput F r 3 (rSk (F x) len R)) P) 0 [some (.ref r), some (.ref x), some (.int len)] [] ρ sh (zput F r 3 (rSet R 7 (nI j))) P 0 0 := by
    intro n
    induction n with
    | zero => intro j h1; omega
    | succ n ih =>
    intro j hn hj2 hq
    refine aw_aload_0 dX2_skipBlanks_0 ?_
    refine aw_getI fX2_7 hinX2 (by decide +kernel : Cond.fieldLink RX2 18 RX2 (TX2 7).2.1 (TX2 7).2.2.1 ∈ wsX2_skipBlanks) (by assumption) dX2_skipBlanks_1 ?_
    try simp (disch := omega) only [zu_up, zup_in, zup_in0, zput_at, zput_a0, zput_zput, zput_ne, rInc_f]
    rw [rSet_at]
    refine aw_iload_2 dX2_skipBlanks_4 ?_
    refine aw_icmp_ge (tgt := 34) dX2_skipBlanks_5 (by decide) (fun c5 => ?_) (fun c5 => ?_)
    · exact aw_return rfl dX2_skipBlanks_34 ⟨Nat.zero_le _, Nat.zero_le _⟩ rfl rfl (by unfold rSk; rw [hq]; show _ = zput F r 3 (rSet R 7 (if len ≤ nI j then _ else if cAt 60 (F x) (nI j) = 32 then _ else _)); first | rw [if_pos c5] | rw [if_neg c5, if_neg c18]) rfl
    · refine aw_aload_1 dX2_skipBlanks_8 ?_
      refine aw_aload_0 dX2_skipBlanks_9 ?_
      refine aw_getI fX2_7 hinX2 (by decide +kernel : Cond.fieldLink RX2 18 RX2 (TX2 7).2.1 (TX2 7).2.2.1 ∈ wsX2_skipBlanks) (by assumption) dX2_skipBlanks_10 ?_
      try simp (disch := omega) only [zu_up, zup_in, zup_in0, zput_at, zput_a0, zput_zput, zput_ne, rInc_f]
      rw [rSet_at]
      refine aw_run (zRun_SN (qn := 12) (c_X6_at (by assumption) (by decide)) gX2_skipBlanks_X6_at_n70 rfl (by decide +kernel : Cond.static yX6_at ∈ wsX2_skipBlanks) (by decide +kernel : Cond.initialized yX6_at.cls ∈ wsX2_skipBlanks) q_X6_at (by decide) rfl rfl (Nat.le_of_ble_eq_true rfl) dX2_skipBlanks_13 ⟨Nat.le_refl _, Nat.le_refl _⟩) ?_
      try simp (disch := omega) only [zu_up, zup_in, zup_in0, zput_at, zput_a0, zput_zput, zput_ne, rInc_f]
      refine aw_bipush (v := 32) dX2_skipBlanks_16 (by decide) ?_
      refine aw_icmp_ne (tgt := 34) dX2_skipBlanks_18 (by decide) (fun c18 => ?_) (fun c18 => ?_)
      · exact aw_return rfl dX2_skipBlanks_34 ⟨Nat.zero_le _, Nat.zero_le _⟩ rfl rfl (by unfold rSk; rw [hq]; show _ = zput F r 3 (rSet R 7 (if len ≤ nI j then _ else if cAt 60 (F x) (nI j) = 32 then _ else _)); first | rw [if_pos c5] | rw [if_neg c5, if_neg c18]) rfl
      · refine aw_aload_0 dX2_skipBlanks_21 ?_
        refine aw_dup rfl dX2_skipBlanks_22 ?_
        refine aw_getI fX2_7 hinX2 (by decide +kernel : Cond.fieldLink RX2 18 RX2 (TX2 7).2.1 (TX2 7).2.2.1 ∈ wsX2_skipBlanks) (by assumption) dX2_skipBlanks_23 ?_
        refine aw_iconst (v := 1) dX2_skipBlanks_26 (by decide) ?_
        refine aw_iadd dX2_skipBlanks_27 ?_
        refine aw_putI fX2_7 rfl hinX2 (by decide +kernel : Cond.fieldLink RX2 18 RX2 (TX2 7).2.1 (TX2 7).2.2.1 ∈ wsX2_skipBlanks) (by assumption) dX2_skipBlanks_28 ?_
        try simp (disch := omega) only [zu_up, zup_in, zup_in0, zput_at, zput_a0, zput_zput, zput_ne, rInc_f]
        refine aw_goto (tgt := 0) dX2_skipBlanks_31 (by decide) ?_
        rw [rInc_set, nI_1]
        have hj : j < 60 := by
          rcases Nat.lt_or_ge j 60 with h | h
          · exact h
          · rw [cAt, if_neg (nI_pos (by omega)), if_pos (nI_le h (by omega))] at c18
            exact absurd c18 (by decide)
        exact ih (j + 1) (by omega) (by omega) (by rw [hq]; show (if len ≤ nI j then _ else _) = _; rw [if_neg c5, if_pos c18, nI_1])
  refine aw_cF (F' := zput F r 3 (rSet R 7 (nI i))) (by rw [← hi, rSet_self]) ?_
  exact L0 61 i (by omega) (by omega) (by rw [hi])

theorem rSkip_nat (T : Nat → Int32) (len : Int32) : ∀ n i, ∃ j, rSkip T len n (nI i) = nI j ∧ i ≤ j ∧ j ≤ i + n := by
  intro n
  induction n with
  | zero => exact fun i => ⟨i, rfl, Nat.le_refl _, Nat.le_refl _⟩
  | succ n ih =>
    intro i
    unfold rSkip
    split
    · exact ⟨i, rfl, Nat.le_refl _, by omega⟩
    · split
      · rw [nI_1]
        obtain ⟨j, h1, h2, h3⟩ := ih (i + 1)
        exact ⟨j, h1, by omega, by omega⟩
      · exact ⟨i, rfl, Nat.le_refl _, by omega⟩
/-- the place is a small number -/
def rOk (R : Nat → Nat → Int32) (b : Nat) : Prop := ∃ i, R 0 7 = nI i ∧ i ≤ b
theorem rOk.mono {R : Nat → Nat → Int32} {b c : Nat} (h : rOk R b) (hc : b ≤ c) : rOk R c := by
  obtain ⟨i, h1, h2⟩ := h
  exact ⟨i, h1, by omega⟩
theorem rSet_ne (R : Nat → Nat → Int32) {k j : Nat} (v : Int32) (h : j ≠ k) : rSet R k v 0 j = R 0 j := by simp [rSet, va_up, upd, h]
theorem rTell_7 (R : Nat → Nat → Int32) (k w : Int32) : rTell R k w 0 7 = R 0 7 := by
  unfold rTell
  split
  · rw [rSet_ne _ _ (by decide), rSet_ne _ _ (by decide)]
  · rfl
theorem rOk.tell {R : Nat → Nat → Int32} {b : Nat} {k w : Int32} (h : rOk R b) : rOk (rTell R k w) b := by
  unfold rOk
  rw [rTell_7]
  exact h
theorem rOk.set {R : Nat → Nat → Int32} {b k : Nat} {v : Int32} (h : rOk R b) (hk : 7 ≠ k) : rOk (rSet R k v) b := by
  unfold rOk
  rw [rSet_ne _ _ hk]
  exact h
theorem rOk.sk {R : Nat → Nat → Int32} {b : Nat} {T : Nat → Int32} {len : Int32} (h : rOk R b) : rOk (rSk T len R) (b + 61) := by
  obtain ⟨i, h1, h2⟩ := h
  obtain ⟨j, h3, h4, h5⟩ := rSkip_nat T len 61 i
  exact ⟨j, by unfold rSk; rw [rSet_at, h1, h3], by omega⟩
theorem rOk.inc {R : Nat → Nat → Int32} {b : Nat} (h : rOk R b) : rOk (rInc R) (b + 1) := by
  obtain ⟨i, h1, h2⟩ := h
  exact ⟨i + 1, by unfold rInc; rw [rSet_at, h1, nI_1], by omega⟩
theorem rOk.let' {R : Nat → Nat → Int32} {b : Nat} {T : Nat → Int32} {len : Int32} (h : rOk R b) : rOk (rLet T len R) (b + 64) := by
  unfold rLet
  refine (rOk.inc (b := b + 61) ?_).mono (by omega)
  split
  · split
    · exact h.sk.tell
    · exact h.sk
  · exact h.sk.tell
theorem rOk.sign {R : Nat → Nat → Int32} {b : Nat} {T : Nat → Int32} {len s : Int32} (h : rOk R b) : rOk (rSign T len s R) (b + 64) := by
  unfold rSign
  refine (rOk.inc (b := b + 61) ?_).mono (by omega)
  split
  · split
    · exact h.sk
    · exact h.sk.tell
  · exact h.sk.tell
theorem rOk.n2 {R : Nat → Nat → Int32} {b : Nat} {T : Nat → Int32} {len : Int32} (h : rOk R b) : rOk (rN2 T len R).2 (b + 2) := by
  unfold rN2
  split
  · exact h.inc.mono (by omega)
  · exact h.inc.inc
theorem rOk.num {R : Nat → Nat → Int32} {b : Nat} {T : Nat → Int32} {len : Int32} (h : rOk R b) : rOk (rNum T len R) (b + 64) := by
  unfold rNum rN3
  split
  · exact h.sk.mono (by omega)
  · split
    · split
      · exact (h.sk.n2.tell).mono (by omega)
      · split
        · exact (h.sk.n2).mono (by omega)
        · exact (h.sk.n2.tell).mono (by omega)
    · exact (h.sk.n2.tell).mono (by omega)
theorem rOk.add {R : Nat → Nat → Int32} {b : Nat} {t a : Int32} (h : rOk R b) : rOk (rAdd R t a) b := by
  unfold rAdd
  refine rOk.set ?_ (by decide)
  unfold rOk
  rw [zup_ne (by decide), zup_ne (by decide)]
  exact h
theorem rOk.ing {R : Nat → Nat → Int32} {b : Nat} {T : Nat → Int32} {len : Int32} (h : rOk R b) : rOk (rIng T len R) (b + 128) := by
  have h0 : rOk (rIng0 T len R) (b + 128) := h.num.let'
  unfold rIng
  split
  · split
    · exact h0.tell
    · split
      · exact h0.tell
      · exact h0.add
  · exact h0

theorem c_X2_skip {sh : zSh} {F : Nat → Nat → Int32} {P : Nat → Nat → Option Nat} {r x : Nat} {R : Nat → Nat → Int32} {len : Int32} (hR : zRd sh P r) (hV : zVw F r 3 R) (hx : sh x = some (.inr (0, 60))) (hd : x < r ∨ r + 3 ≤ x) {b : Nat} (hok : rOk R b) (hb : b < 2 ^ 29) : zMet yX2_skipBlanks wsX2_skipBlanks 2 0 0 [.ref r, .ref x, .int len] sh F P none sh (zput F r 3 (rSk (F x) len R)) P := by
  obtain ⟨i, h1, h2⟩ := hok
  exact c_X2_skipBlanks hR hV hx hd h1 (by omega)
theorem zVw.outx {F : Nat → Nat → Int32} {r n x : Nat} {R : Nat → Nat → Int32} (hd : x < r ∨ r + n ≤ x) : zput F r n R x = F x := zput_ne hd

abbrev mX2_readLetter : ZM := (cX2_readLetter, RX2, wsX2_readLetter, 3, 0, 0, (some .int), 4, yX2_readLetter.name)
set_option maxHeartbeats 1000000 in
set_option maxRecDepth 100000 in
theorem c_X2_readLetter {sh : zSh} {F : Nat → Nat → Int32} {P : Nat → Nat → Option Nat} {r x : Nat} {R : Nat → Nat → Int32} {len : Int32} (hR : zRd sh P r) (hV : zVw F r 3 R) (hx : sh x = some (.inr (0, 60))) (hd : x < r ∨ r + 3 ≤ x) {b : Nat} (hok : rOk R b) (hb : b < 2 ^ 29) : zMet yX2_readLetter wsX2_readLetter (3) (0) (0) [.ref r, .ref x, .int len] sh F P (some (.int (rLetV (F x) len R))) sh (zput F r 3 (rLet (F x) len R)) P := by
  refine zMet.of (by decide) rfl (Nat.le_of_ble_eq_true rfl) (by simp [Value.category]) ?_
  intro X ρ
  show AW mX2_readLetter X (zMQ mX2_readLetter X (some (.int (rLetV (F x) len R))) sh (zput F r 3 (rLet (F x) len R)) P) 0 [some (.ref r), some (.ref x), some (.int len), none] [] ρ sh F P 0 0
  have hinX2 : ∀ w ∈ u_ws RX2 TX2 8, w ∈ wsX2_readLetter := by decide +kernel
  obtain ⟨hs0, ⟨hp0, hp1⟩, hs1, hs2⟩ := id hR
  refine aw_cF (F' := zput F r 3 R) (zput_view hV).symm ?_
  refine aw_aload_0 dX2_readLetter_0 ?_
  refine aw_aload_1 dX2_readLetter_1 ?_
  refine aw_iload_2 dX2_readLetter_2 ?_
  refine aw_runv (zRun_V (c_X2_skip hR zVw.put hx hd hok hb) gX2_readLetter_X2_skipBlanks q_X2_skipBlanks rfl (by decide) rfl (by assumption) rfl rfl (Nat.le_of_ble_eq_true rfl) dX2_readLetter_3 ⟨Nat.le_refl _, Nat.le_refl _⟩) ?_
  try simp (disch := omega) only [zu_up, zup_in, zup_in0, zput_at, zput_a0, zput_zput, zput_ne, rInc_f]
  refine aw_aload_1 dX2_readLetter_6 ?_
  refine aw_aload_0 dX2_readLetter_7 ?_
  refine aw_getI fX2_7 hinX2 (by decide +kernel : Cond.fieldLink RX2 18 RX2 (TX2 7).2.1 (TX2 7).2.2.1 ∈ wsX2_readLetter) (by assumption) dX2_readLetter_8 ?_
  try simp (disch := omega) only [zu_up, zup_in, zup_in0, zput_at, zput_a0, zput_zput, zput_ne, rInc_f]
  refine aw_run (zRun_SN (qn := 12) (c_X6_at (by assumption) (by decide)) gX2_readLetter_X6_at_n70 rfl (by decide +kernel : Cond.static yX6_at ∈ wsX2_readLetter) (by decide +kernel : Cond.initialized yX6_at.cls ∈ wsX2_readLetter) q_X6_at (by decide) rfl rfl (Nat.le_of_ble_eq_true rfl) dX2_readLetter_11 ⟨Nat.le_refl _, Nat.le_refl _⟩) ?_
  try simp (disch := omega) only [zu_up, zup_in, zup_in0, zput_at, zput_a0, zput_zput, zput_ne, rInc_f]
  refine aw_bipush (v := 97) dX2_readLetter_14 (by decide) ?_
  refine aw_isub dX2_readLetter_16 ?_
  rw [show cAt 60 (F x) (rSk (F x) len R 0 7) - 97 = rLetV (F x) len R from rfl]
  refine aw_istore_3 dX2_readLetter_17 ?_
  refine aw_aload_0 dX2_readLetter_18 ?_
  refine aw_getI fX2_7 hinX2 (by decide +kernel : Cond.fieldLink RX2 18 RX2 (TX2 7).2.1 (TX2 7).2.2.1 ∈ wsX2_readLetter) (by assumption) dX2_readLetter_19 ?_
  try simp (disch := omega) only [zu_up, zup_in, zup_in0, zput_at, zput_a0, zput_zput, zput_ne, rInc_f]
  refine aw_iload_2 dX2_readLetter_22 ?_
  refine aw_icmp_lt (tgt := 35) dX2_readLetter_23 (by decide) (fun c23 => ?_) (fun c23 => ?_)
  · refine aw_iload_3 dX2_readLetter_35 ?_
    refine aw_run (zRun_SN (qn := 13) (c_X6_isThing ) gX2_readLetter_X6_isThing_n73 rfl (by decide +kernel : Cond.static yX6_isThing ∈ wsX2_readLetter) (by decide +kernel : Cond.initialized yX6_isThing.cls ∈ wsX2_readLetter) q_X6_isThing (by decide) rfl rfl (Nat.le_of_ble_eq_true rfl) dX2_readLetter_36 ⟨Nat.le_refl _, Nat.le_refl _⟩) ?_
    refine aw_if_ne (tgt := 51) dX2_readLetter_39 (by decide) (fun c39 => ?_) (fun c39 => ?_)
    · try simp (disch := omega) only [zu_up, zup_in, zup_in0, zput_at, zput_a0, zput_zput, zput_ne, rInc_f]
      refine aw_cF (F' := zput F r 3 (if rSk (F x) len R 0 7 < len then (if cIsThing (rLetV (F x) len R) = 0 then rTell (rSk (F x) len R) 1 (rSk (F x) len R 0 7) else rSk (F x) len R) else rTell (rSk (F x) len R) 4 len)) (by first | rw [if_neg c23] | (rw [if_pos c23]; first | rw [if_pos c39] | rw [if_neg c39])) ?_
      refine aw_aload_0 dX2_readLetter_51 ?_
      refine aw_dup rfl dX2_readLetter_52 ?_
      refine aw_getI fX2_7 hinX2 (by decide +kernel : Cond.fieldLink RX2 18 RX2 (TX2 7).2.1 (TX2 7).2.2.1 ∈ wsX2_readLetter) (by assumption) dX2_readLetter_53 ?_
      try simp (disch := omega) only [zu_up, zup_in, zup_in0, zput_at, zput_a0, zput_zput, zput_ne, rInc_f]
      refine aw_iconst (v := 1) dX2_readLetter_56 (by decide) ?_
      refine aw_iadd dX2_readLetter_57 ?_
      refine aw_putI fX2_7 rfl hinX2 (by decide +kernel : Cond.fieldLink RX2 18 RX2 (TX2 7).2.1 (TX2 7).2.2.1 ∈ wsX2_readLetter) (by assumption) dX2_readLetter_58 ?_
      try simp (disch := omega) only [zu_up, zup_in, zup_in0, zput_at, zput_a0, zput_zput, zput_ne, rInc_f]
      refine aw_iload_3 dX2_readLetter_61 ?_
      exact aw_ireturn rfl dX2_readLetter_62 ⟨Nat.zero_le _, Nat.zero_le _⟩ rfl rfl rfl rfl
    · refine aw_aload_0 dX2_readLetter_42 ?_
      refine aw_iconst (v := 1) dX2_readLetter_43 (by decide) ?_
      refine aw_aload_0 dX2_readLetter_44 ?_
      refine aw_getI fX2_7 hinX2 (by decide +kernel : Cond.fieldLink RX2 18 RX2 (TX2 7).2.1 (TX2 7).2.2.1 ∈ wsX2_readLetter) (by assumption) dX2_readLetter_45 ?_
      try simp (disch := omega) only [zu_up, zup_in, zup_in0, zput_at, zput_a0, zput_zput, zput_ne, rInc_f]
      refine aw_runv (zRun_V (c_X2_tellFault hR zVw.put) gX2_readLetter_X2_tellFault q_X2_tellFault rfl (by decide) rfl (by assumption) rfl rfl (Nat.le_of_ble_eq_true rfl) dX2_readLetter_48 ⟨Nat.le_refl _, Nat.le_refl _⟩) ?_
      try simp (disch := omega) only [zu_up, zup_in, zup_in0, zput_at, zput_a0, zput_zput, zput_ne, rInc_f]
      refine aw_cF (F' := zput F r 3 (if rSk (F x) len R 0 7 < len then (if cIsThing (rLetV (F x) len R) = 0 then rTell (rSk (F x) len R) 1 (rSk (F x) len R 0 7) else rSk (F x) len R) else rTell (rSk (F x) len R) 4 len)) (by first | rw [if_neg c23] | (rw [if_pos c23]; first | rw [if_pos c39] | rw [if_neg c39])) ?_
      refine aw_aload_0 dX2_readLetter_51 ?_
      refine aw_dup rfl dX2_readLetter_52 ?_
      refine aw_getI fX2_7 hinX2 (by decide +kernel : Cond.fieldLink RX2 18 RX2 (TX2 7).2.1 (TX2 7).2.2.1 ∈ wsX2_readLetter) (by assumption) dX2_readLetter_53 ?_
      try simp (disch := omega) only [zu_up, zup_in, zup_in0, zput_at, zput_a0, zput_zput, zput_ne, rInc_f]
      refine aw_iconst (v := 1) dX2_readLetter_56 (by decide) ?_
      refine aw_iadd dX2_readLetter_57 ?_
      refine aw_putI fX2_7 rfl hinX2 (by decide +kernel : Cond.fieldLink RX2 18 RX2 (TX2 7).2.1 (TX2 7).2.2.1 ∈ wsX2_readLetter) (by assumption) dX2_readLetter_58 ?_
      try simp (disch := omega) only [zu_up, zup_in, zup_in0, zput_at, zput_a0, zput_zput, zput_ne, rInc_f]
      refine aw_iload_3 dX2_readLetter_61 ?_
      exact aw_ireturn rfl dX2_readLetter_62 ⟨Nat.zero_le _, Nat.zero_le _⟩ rfl rfl rfl rfl
  · refine aw_aload_0 dX2_readLetter_26 ?_
    refine aw_iconst (v := 4) dX2_readLetter_27 (by decide) ?_
    refine aw_iload_2 dX2_readLetter_28 ?_
    refine aw_runv (zRun_V (c_X2_tellFault hR zVw.put) gX2_readLetter_X2_tellFault q_X2_tellFault rfl (by decide) rfl (by assumption) rfl rfl (Nat.le_of_ble_eq_true rfl) dX2_readLetter_29 ⟨Nat.le_refl _, Nat.le_refl _⟩) ?_
    refine aw_goto (tgt := 51) dX2_readLetter_32 (by decide) ?_
    try simp (disch := omega) only [zu_up, zup_in, zup_in0, zput_at, zput_a0, zput_zput, zput_ne, rInc_f]
    refine aw_cF (F' := zput F r 3 (if rSk (F x) len R 0 7 < len then (if cIsThing (rLetV (F x) len R) = 0 then rTell (rSk (F x) len R) 1 (rSk (F x) len R 0 7) else rSk (F x) len R) else rTell (rSk (F x) len R) 4 len)) (by first | rw [if_neg c23] | (rw [if_pos c23]; first | rw [if_pos c39] | rw [if_neg c39])) ?_
    refine aw_aload_0 dX2_readLetter_51 ?_
    refine aw_dup rfl dX2_readLetter_52 ?_
    refine aw_getI fX2_7 hinX2 (by decide +kernel : Cond.fieldLink RX2 18 RX2 (TX2 7).2.1 (TX2 7).2.2.1 ∈ wsX2_readLetter) (by assumption) dX2_readLetter_53 ?_
    try simp (disch := omega) only [zu_up, zup_in, zup_in0, zput_at, zput_a0, zput_zput, zput_ne, rInc_f]
    refine aw_iconst (v := 1) dX2_readLetter_56 (by decide) ?_
    refine aw_iadd dX2_readLetter_57 ?_
    refine aw_putI fX2_7 rfl hinX2 (by decide +kernel : Cond.fieldLink RX2 18 RX2 (TX2 7).2.1 (TX2 7).2.2.1 ∈ wsX2_readLetter) (by assumption) dX2_readLetter_58 ?_
    try simp (disch := omega) only [zu_up, zup_in, zup_in0, zput_at, zput_a0, zput_zput, zput_ne, rInc_f]
    refine aw_iload_3 dX2_readLetter_61 ?_
    exact aw_ireturn rfl dX2_readLetter_62 ⟨Nat.zero_le _, Nat.zero_le _⟩ rfl rfl rfl rfl

abbrev mX2_readSign : ZM := (cX2_readSign, RX2, wsX2_readSign, 3, 0, 0, none, 4, yX2_readSign.name)
set_option maxHeartbeats 1000000 in
set_option maxRecDepth 100000 in
theorem c_X2_readSign {sh : zSh} {F : Nat → Nat → Int32} {P : Nat → Nat → Option Nat} {r x : Nat} {R : Nat → Nat → Int32} {len : Int32} {s : Int32} (hR : zRd sh P r) (hV : zVw F r 3 R) (hx : sh x = some (.inr (0, 60))) (hd : x < r ∨ r + 3 ≤ x) {b : Nat} (hok : rOk R b) (hb : b < 2 ^ 29) : zMet yX2_readSign wsX2_readSign (3) (0) (0) [.ref r, .ref x, .int len, .int s] sh F P (none) sh (zput F r 3 (rSign (F x) len s R)) P := by
  refine zMet.of (by decide) rfl (Nat.le_of_ble_eq_true rfl) (by simp [Value.category]) ?_
  intro X ρ
  show AW mX2_readSign X (zMQ mX2_readSign X (none) sh (zput F r 3 (rSign (F x) len s R)) P) 0 [some (.ref r), some (.ref x), some (.int len), some (.int s)] [] ρ sh F P 0 0
  have hinX2 : ∀ w ∈ u_ws RX2 TX2 8, w ∈ wsX2_readSign := by decide +kernel
  obtain ⟨hs0, ⟨hp0, hp1⟩, hs1, hs2⟩ := id hR
  refine aw_cF (F' := zput F r 3 R) (zput_view hV).symm ?_
  refine aw_aload_0 dX2_readSign_0 ?_
  refine aw_aload_1 dX2_readSign_1 ?_
  refine aw_iload_2 dX2_readSign_2 ?_
  refine aw_runv (zRun_V (c_X2_skip hR zVw.put hx hd hok hb) gX2_readSign_X2_skipBlanks q_X2_skipBlanks rfl (by decide) rfl (by assumption) rfl rfl (Nat.le_of_ble_eq_true rfl) dX2_readSign_3 ⟨Nat.le_refl _, Nat.le_refl _⟩) ?_
  try simp (disch := omega) only [zu_up, zup_in, zup_in0, zput_at, zput_a0, zput_zput, zput_ne, rInc_f]
  refine aw_aload_0 dX2_readSign_6 ?_
  refine aw_getI fX2_7 hinX2 (by decide +kernel : Cond.fieldLink RX2 18 RX2 (TX2 7).2.1 (TX2 7).2.2.1 ∈ wsX2_readSign) (by assumption) dX2_readSign_7 ?_
  try simp (disch := omega) only [zu_up, zup_in, zup_in0, zput_at, zput_a0, zput_zput, zput_ne, rInc_f]
  refine aw_iload_2 dX2_readSign_10 ?_
  refine aw_icmp_lt (tgt := 23) dX2_readSign_11 (by decide) (fun c11 => ?_) (fun c11 => ?_)
  · refine aw_aload_1 dX2_readSign_23 ?_
    refine aw_aload_0 dX2_readSign_24 ?_
    refine aw_getI fX2_7 hinX2 (by decide +kernel : Cond.fieldLink RX2 18 RX2 (TX2 7).2.1 (TX2 7).2.2.1 ∈ wsX2_readSign) (by assumption) dX2_readSign_25 ?_
    try simp (disch := omega) only [zu_up, zup_in, zup_in0, zput_at, zput_a0, zput_zput, zput_ne, rInc_f]
    refine aw_run (zRun_SN (qn := 12) (c_X6_at (by assumption) (by decide)) gX2_readSign_X6_at_n70 rfl (by decide +kernel : Cond.static yX6_at ∈ wsX2_readSign) (by decide +kernel : Cond.initialized yX6_at.cls ∈ wsX2_readSign) q_X6_at (by decide) rfl rfl (Nat.le_of_ble_eq_true rfl) dX2_readSign_28 ⟨Nat.le_refl _, Nat.le_refl _⟩) ?_
    try simp (disch := omega) only [zu_up, zup_in, zup_in0, zput_at, zput_a0, zput_zput, zput_ne, rInc_f]
    refine aw_iload_3 dX2_readSign_31 ?_
    refine aw_icmp_eq (tgt := 44) dX2_readSign_32 (by decide) (fun c32 => ?_) (fun c32 => ?_)
    · try simp (disch := omega) only [zu_up, zup_in, zup_in0, zput_at, zput_a0, zput_zput, zput_ne, rInc_f]
      refine aw_cF (F' := zput F r 3 (if rSk (F x) len R 0 7 < len then (if cAt 60 (F x) (rSk (F x) len R 0 7) = s then rSk (F x) len R else rTell (rSk (F x) len R) 1 (rSk (F x) len R 0 7)) else rTell (rSk (F x) len R) 4 len)) (by first | rw [if_neg c11] | (rw [if_pos c11]; first | rw [if_pos c32] | rw [if_neg c32])) ?_
      refine aw_aload_0 dX2_readSign_44 ?_
      refine aw_dup rfl dX2_readSign_45 ?_
      refine aw_getI fX2_7 hinX2 (by decide +kernel : Cond.fieldLink RX2 18 RX2 (TX2 7).2.1 (TX2 7).2.2.1 ∈ wsX2_readSign) (by assumption) dX2_readSign_46 ?_
      try simp (disch := omega) only [zu_up, zup_in, zup_in0, zput_at, zput_a0, zput_zput, zput_ne, rInc_f]
      refine aw_iconst (v := 1) dX2_readSign_49 (by decide) ?_
      refine aw_iadd dX2_readSign_50 ?_
      refine aw_putI fX2_7 rfl hinX2 (by decide +kernel : Cond.fieldLink RX2 18 RX2 (TX2 7).2.1 (TX2 7).2.2.1 ∈ wsX2_readSign) (by assumption) dX2_readSign_51 ?_
      try simp (disch := omega) only [zu_up, zup_in, zup_in0, zput_at, zput_a0, zput_zput, zput_ne, rInc_f]
      exact aw_return rfl dX2_readSign_54 ⟨Nat.zero_le _, Nat.zero_le _⟩ rfl rfl rfl rfl
    · refine aw_aload_0 dX2_readSign_35 ?_
      refine aw_iconst (v := 1) dX2_readSign_36 (by decide) ?_
      refine aw_aload_0 dX2_readSign_37 ?_
      refine aw_getI fX2_7 hinX2 (by decide +kernel : Cond.fieldLink RX2 18 RX2 (TX2 7).2.1 (TX2 7).2.2.1 ∈ wsX2_readSign) (by assumption) dX2_readSign_38 ?_
      try simp (disch := omega) only [zu_up, zup_in, zup_in0, zput_at, zput_a0, zput_zput, zput_ne, rInc_f]
      refine aw_runv (zRun_V (c_X2_tellFault hR zVw.put) gX2_readSign_X2_tellFault q_X2_tellFault rfl (by decide) rfl (by assumption) rfl rfl (Nat.le_of_ble_eq_true rfl) dX2_readSign_41 ⟨Nat.le_refl _, Nat.le_refl _⟩) ?_
      try simp (disch := omega) only [zu_up, zup_in, zup_in0, zput_at, zput_a0, zput_zput, zput_ne, rInc_f]
      refine aw_cF (F' := zput F r 3 (if rSk (F x) len R 0 7 < len then (if cAt 60 (F x) (rSk (F x) len R 0 7) = s then rSk (F x) len R else rTell (rSk (F x) len R) 1 (rSk (F x) len R 0 7)) else rTell (rSk (F x) len R) 4 len)) (by first | rw [if_neg c11] | (rw [if_pos c11]; first | rw [if_pos c32] | rw [if_neg c32])) ?_
      refine aw_aload_0 dX2_readSign_44 ?_
      refine aw_dup rfl dX2_readSign_45 ?_
      refine aw_getI fX2_7 hinX2 (by decide +kernel : Cond.fieldLink RX2 18 RX2 (TX2 7).2.1 (TX2 7).2.2.1 ∈ wsX2_readSign) (by assumption) dX2_readSign_46 ?_
      try simp (disch := omega) only [zu_up, zup_in, zup_in0, zput_at, zput_a0, zput_zput, zput_ne, rInc_f]
      refine aw_iconst (v := 1) dX2_readSign_49 (by decide) ?_
      refine aw_iadd dX2_readSign_50 ?_
      refine aw_putI fX2_7 rfl hinX2 (by decide +kernel : Cond.fieldLink RX2 18 RX2 (TX2 7).2.1 (TX2 7).2.2.1 ∈ wsX2_readSign) (by assumption) dX2_readSign_51 ?_
      try simp (disch := omega) only [zu_up, zup_in, zup_in0, zput_at, zput_a0, zput_zput, zput_ne, rInc_f]
      exact aw_return rfl dX2_readSign_54 ⟨Nat.zero_le _, Nat.zero_le _⟩ rfl rfl rfl rfl
  · refine aw_aload_0 dX2_readSign_14 ?_
    refine aw_iconst (v := 4) dX2_readSign_15 (by decide) ?_
    refine aw_iload_2 dX2_readSign_16 ?_
    refine aw_runv (zRun_V (c_X2_tellFault hR zVw.put) gX2_readSign_X2_tellFault q_X2_tellFault rfl (by decide) rfl (by assumption) rfl rfl (Nat.le_of_ble_eq_true rfl) dX2_readSign_17 ⟨Nat.le_refl _, Nat.le_refl _⟩) ?_
    refine aw_goto (tgt := 44) dX2_readSign_20 (by decide) ?_
    try simp (disch := omega) only [zu_up, zup_in, zup_in0, zput_at, zput_a0, zput_zput, zput_ne, rInc_f]
    refine aw_cF (F' := zput F r 3 (if rSk (F x) len R 0 7 < len then (if cAt 60 (F x) (rSk (F x) len R 0 7) = s then rSk (F x) len R else rTell (rSk (F x) len R) 1 (rSk (F x) len R 0 7)) else rTell (rSk (F x) len R) 4 len)) (by first | rw [if_neg c11] | (rw [if_pos c11]; first | rw [if_pos c32] | rw [if_neg c32])) ?_
    refine aw_aload_0 dX2_readSign_44 ?_
    refine aw_dup rfl dX2_readSign_45 ?_
    refine aw_getI fX2_7 hinX2 (by decide +kernel : Cond.fieldLink RX2 18 RX2 (TX2 7).2.1 (TX2 7).2.2.1 ∈ wsX2_readSign) (by assumption) dX2_readSign_46 ?_
    try simp (disch := omega) only [zu_up, zup_in, zup_in0, zput_at, zput_a0, zput_zput, zput_ne, rInc_f]
    refine aw_iconst (v := 1) dX2_readSign_49 (by decide) ?_
    refine aw_iadd dX2_readSign_50 ?_
    refine aw_putI fX2_7 rfl hinX2 (by decide +kernel : Cond.fieldLink RX2 18 RX2 (TX2 7).2.1 (TX2 7).2.2.1 ∈ wsX2_readSign) (by assumption) dX2_readSign_51 ?_
    try simp (disch := omega) only [zu_up, zup_in, zup_in0, zput_at, zput_a0, zput_zput, zput_ne, rInc_f]
    exact aw_return rfl dX2_readSign_54 ⟨Nat.zero_le _, Nat.zero_le _⟩ rfl rfl rfl rfl

abbrev mX2_isListed : ZM := (cX2_isListed, RX2, wsX2_isListed, 2, 0, 0, (some .boolean), 3, yX2_isListed.name)
set_option maxHeartbeats 1000000 in
set_option maxRecDepth 100000 in
theorem c_X2_isListed {sh : zSh} {F : Nat → Nat → Int32} {P : Nat → Nat → Option Nat} {r : Nat} {R : Nat → Nat → Int32} {t : Int32} (hR : zRd sh P r) (hV : zVw F r 3 R) : zMet yX2_isListed wsX2_isListed (2) (0) (0) [.ref r, .int t] sh F P (some (.int (if rList R t = true then 1 else 0))) sh F P := by
  refine zMet.of (by decide) rfl (Nat.le_of_ble_eq_true rfl) (by simp [Value.category]) ?_
  intro X ρ
  show AW mX2_isListed X (zMQ mX2_isListed X (some (.int (if rList R t = true then 1 else 0))) sh F P) 0 [some (.ref r), some (.int t), none] [] ρ sh F P 0 0
  have hinX2 : ∀ w ∈ u_ws RX2 TX2 8, w ∈ wsX2_isListed := by decide +kernel
  obtain ⟨hs0, ⟨hp0, hp1⟩, hs1, hs2⟩ := id hR
  have v0 : F r = R 0 := hV 0 (by decide)
  have v1 : F (r + 1) = R 1 := hV 1 (by decide)
  have L2 : ∀ (m i : Nat), i ≤ (R 0 4).toNatClampNeg → (R 0 4).toNatClampNeg - i = m → anyLt (fun i => cAt 5 (R 1) (nI i) == t) i = false → AW mX2_isListed X (zMQ mX2_isListed X (some (.int (if rList R t = true then 1 else 0))) sh F P) 2 [some (.ref r), some (.int t), some (.int (nI i))] [] ρ sh F P 0 0 := by
    intro m
    induction m using Nat.strongRecOn with
    | _ m ih =>
    intro i hi hm hn
    refine aw_iload_2 dX2_isListed_2 ?_
    refine aw_aload_0 dX2_isListed_3 ?_
    refine aw_getI fX2_4 hinX2 (by decide +kernel : Cond.fieldLink RX2 22 RX2 (TX2 4).2.1 (TX2 4).2.2.1 ∈ wsX2_isListed) (by assumption) dX2_isListed_4 ?_
    rw [v0]
    refine aw_icmp_ge (tgt := 30) dX2_isListed_7 (by decide) (fun c7 => ?_) (fun c7 => ?_)
    · refine aw_iconst (v := 0) dX2_isListed_30 (by decide) ?_
      exact aw_zreturn rfl dX2_isListed_31 ⟨Nat.zero_le _, Nat.zero_le _⟩ (by decide) (by rw [zcle hi c7] at hn; rw [show rList R t = false from hn]; rfl) rfl rfl rfl
    · have hlt := zclt hi c7
      refine aw_aload_0 dX2_isListed_10 ?_
      refine aw_getR fX2_0 (fun _ _ => rfl) (by assumption) hinX2 (by decide +kernel : Cond.fieldLink RX2 9 RX2 (TX2 0).2.1 (TX2 0).2.2.1 ∈ wsX2_isListed) (by assumption) dX2_isListed_11 ?_
      refine aw_iload_2 dX2_isListed_14 ?_
      refine aw_run (zRun_SN (qn := 12) (c_X6_at (by assumption) (by decide)) gX2_isListed_X6_at_n70 rfl (by decide +kernel : Cond.static yX6_at ∈ wsX2_isListed) (by decide +kernel : Cond.initialized yX6_at.cls ∈ wsX2_isListed) q_X6_at (by decide) rfl rfl (Nat.le_of_ble_eq_true rfl) dX2_isListed_15 ⟨Nat.le_refl _, Nat.le_refl _⟩) ?_
      rw [v1]
      refine aw_iload_1 dX2_isListed_18 ?_
      refine aw_icmp_ne (tgt := 24) dX2_isListed_19 (by decide) (fun c19 => ?_) (fun c19 => ?_)
      · refine aw_iinc_2 (v := 1) (by decide) dX2_isListed_24 ?_
        refine aw_goto (tgt := 2) dX2_isListed_27 (by decide) ?_
        rw [nI_1]
        exact ih (_ - (i + 1)) (by omega) (i + 1) (by omega) rfl (by simp [anyLt, hn, c19])
      · refine aw_iconst (v := 1) dX2_isListed_22 (by decide) ?_
        exact aw_zreturn rfl dX2_isListed_23 ⟨Nat.zero_le _, Nat.zero_le _⟩ (by decide) (by rw [show rList R t = true from anyLt_true hlt (by simpa using c19)]; rfl) rfl rfl rfl
  refine aw_iconst (v := 0) dX2_isListed_0 (by decide) ?_
  refine aw_istore_2 dX2_isListed_1 ?_
  exact L2 _ 0 (Nat.zero_le _) rfl rfl

abbrev mX2_readNumber : ZM := (cX2_readNumber, RX2, wsX2_readNumber, 3, 0, 0, (some .int), 5, yX2_readNumber.name)
set_option maxHeartbeats 1000000 in
set_option maxRecDepth 100000 in
theorem c_X2_readNumber {sh : zSh} {F : Nat → Nat → Int32} {P : Nat → Nat → Option Nat} {r x : Nat} {R : Nat → Nat → Int32} {len : Int32} (hR : zRd sh P r) (hV : zVw F r 3 R) (hx : sh x = some (.inr (0, 60))) (hd : x < r ∨ r + 3 ≤ x) {b : Nat} (hok : rOk R b) (hb : b < 2 ^ 29) : zMet yX2_readNumber wsX2_readNumber (3) (0) (0) [.ref r, .ref x, .int len] sh F P (some (.int (rNumV (F x) len R))) sh (zput F r 3 (rNum (F x) len R)) P := by
  refine zMet.of (by decide) rfl (Nat.le_of_ble_eq_true rfl) (by simp [Value.category]) ?_
  intro X ρ
  show AW mX2_readNumber X (zMQ mX2_readNumber X (some (.int (rNumV (F x) len R))) sh (zput F r 3 (rNum (F x) len R)) P) 0 [some (.ref r), some (.ref x), some (.int len), none, none] [] ρ sh F P 0 0
  have hinX2 : ∀ w ∈ u_ws RX2 TX2 8, w ∈ wsX2_readNumber := by decide +kernel
  obtain ⟨hs0, ⟨hp0, hp1⟩, hs1, hs2⟩ := id hR
  refine aw_cF (F' := zput F r 3 R) (zput_view hV).symm ?_
  have L91 : ∀ (v : Int32) (R' : Nat → Nat → Int32), (v, R') = (rN2 (F x) len (rSk (F x) len R)) → ¬ rDig (F x) len (rSk (F x) len R 0 7) = 0 → AW mX2_readNumber X (zMQ mX2_readNumber X (some (.int (rNumV (F x) len R))) sh (zput F r 3 (rNum (F x) len R)) P) 91 [some (.ref r), some (.ref x), some (.int len), some (.int ((rSk (F x) len R) 0 7)), some (.int v)] [] ρ sh (zput F r 3 R') P 0 0 := by
    intro v R' hv hg
    have hv1 : (rN2 (F x) len (rSk (F x) len R)).1 = v := by rw [← hv]
    have hv2 : (rN2 (F x) len (rSk (F x) len R)).2 = R' := by rw [← hv]
    try simp (disch := omega) only [zu_up, zup_in, zup_in0, zput_at, zput_a0, zput_zput, zput_ne, rInc_f]
    refine aw_aload_0 dX2_readNumber_91 ?_
    refine aw_aload_1 dX2_readNumber_92 ?_
    refine aw_iload_2 dX2_readNumber_93 ?_
    refine aw_aload_0 dX2_readNumber_94 ?_
    refine aw_getI fX2_7 hinX2 (by decide +kernel : Cond.fieldLink RX2 18 RX2 (TX2 7).2.1 (TX2 7).2.2.1 ∈ wsX2_readNumber) (by assumption) dX2_readNumber_95 ?_
    try simp (disch := omega) only [zu_up, zup_in, zup_in0, zput_at, zput_a0, zput_zput, zput_ne, rInc_f]
    refine aw_run (zRun_V (c_X2_isDigit hR hx) gX2_readNumber_X2_isDigit q_X2_isDigit rfl (by decide) rfl (by assumption) rfl rfl (Nat.le_of_ble_eq_true rfl) dX2_readNumber_98 ⟨Nat.le_refl _, Nat.le_refl _⟩) ?_
    try simp (disch := omega) only [zu_up, zup_in, zup_in0, zput_at, zput_a0, zput_zput, zput_ne, rInc_f]
    refine aw_if_eq (tgt := 116) dX2_readNumber_101 (by decide) (fun c101 => ?_) (fun c101 => ?_)
    · refine aw_iload_4 dX2_readNumber_116 ?_
      refine aw_iconst (v := 1) dX2_readNumber_118 (by decide) ?_
      refine aw_icmp_lt (tgt := 129) dX2_readNumber_119 (by decide) (fun c119 => ?_) (fun c119 => ?_)
      · refine aw_aload_0 dX2_readNumber_129 ?_
        refine aw_iconst (v := 2) dX2_readNumber_130 (by decide) ?_
        refine aw_iload_3 dX2_readNumber_131 ?_
        refine aw_runv (zRun_V (c_X2_tellFault hR zVw.put) gX2_readNumber_X2_tellFault q_X2_tellFault rfl (by decide) rfl (by assumption) rfl rfl (Nat.le_of_ble_eq_true rfl) dX2_readNumber_132 ⟨Nat.le_refl _, Nat.le_refl _⟩) ?_
        try simp (disch := omega) only [zu_up, zup_in, zup_in0, zput_at, zput_a0, zput_zput, zput_ne, rInc_f]
        refine aw_iload_4 dX2_readNumber_135 ?_
        exact aw_ireturn rfl dX2_readNumber_137 ⟨Nat.zero_le _, Nat.zero_le _⟩ (by unfold rNumV; rw [if_neg hg, hv1]) rfl (by unfold rNum; rw [if_neg hg]; unfold rN3; rw [hv1, hv2]; first | rw [if_pos c101, if_pos c119] | rw [if_pos c101, if_neg c119, if_pos c126] | rw [if_pos c101, if_neg c119, if_neg c126] | rw [if_neg c101]) rfl
      · refine aw_iload_4 dX2_readNumber_122 ?_
        refine aw_bipush (v := 20) dX2_readNumber_124 (by decide) ?_
        refine aw_icmp_le (tgt := 135) dX2_readNumber_126 (by decide) (fun c126 => ?_) (fun c126 => ?_)
        · try simp (disch := omega) only [zu_up, zup_in, zup_in0, zput_at, zput_a0, zput_zput, zput_ne, rInc_f]
          refine aw_iload_4 dX2_readNumber_135 ?_
          exact aw_ireturn rfl dX2_readNumber_137 ⟨Nat.zero_le _, Nat.zero_le _⟩ (by unfold rNumV; rw [if_neg hg, hv1]) rfl (by unfold rNum; rw [if_neg hg]; unfold rN3; rw [hv1, hv2]; first | rw [if_pos c101, if_pos c119] | rw [if_pos c101, if_neg c119, if_pos c126] | rw [if_pos c101, if_neg c119, if_neg c126] | rw [if_neg c101]) rfl
        · refine aw_aload_0 dX2_readNumber_129 ?_
          refine aw_iconst (v := 2) dX2_readNumber_130 (by decide) ?_
          refine aw_iload_3 dX2_readNumber_131 ?_
          refine aw_runv (zRun_V (c_X2_tellFault hR zVw.put) gX2_readNumber_X2_tellFault q_X2_tellFault rfl (by decide) rfl (by assumption) rfl rfl (Nat.le_of_ble_eq_true rfl) dX2_readNumber_132 ⟨Nat.le_refl _, Nat.le_refl _⟩) ?_
          try simp (disch := omega) only [zu_up, zup_in, zup_in0, zput_at, zput_a0, zput_zput, zput_ne, rInc_f]
          refine aw_iload_4 dX2_readNumber_135 ?_
          exact aw_ireturn rfl dX2_readNumber_137 ⟨Nat.zero_le _, Nat.zero_le _⟩ (by unfold rNumV; rw [if_neg hg, hv1]) rfl (by unfold rNum; rw [if_neg hg]; unfold rN3; rw [hv1, hv2]; first | rw [if_pos c101, if_pos c119] | rw [if_pos c101, if_neg c119, if_pos c126] | rw [if_pos c101, if_neg c119, if_neg c126] | rw [if_neg c101]) rfl
    · refine aw_aload_0 dX2_readNumber_104 ?_
      refine aw_iconst (v := 1) dX2_readNumber_105 (by decide) ?_
      refine aw_aload_0 dX2_readNumber_106 ?_
      refine aw_getI fX2_7 hinX2 (by decide +kernel : Cond.fieldLink RX2 18 RX2 (TX2 7).2.1 (TX2 7).2.2.1 ∈ wsX2_readNumber) (by assumption) dX2_readNumber_107 ?_
      try simp (disch := omega) only [zu_up, zup_in, zup_in0, zput_at, zput_a0, zput_zput, zput_ne, rInc_f]
      refine aw_runv (zRun_V (c_X2_tellFault hR zVw.put) gX2_readNumber_X2_tellFault q_X2_tellFault rfl (by decide) rfl (by assumption) rfl rfl (Nat.le_of_ble_eq_true rfl) dX2_readNumber_110 ⟨Nat.le_refl _, Nat.le_refl _⟩) ?_
      refine aw_goto (tgt := 135) dX2_readNumber_113 (by decide) ?_
      try simp (disch := omega) only [zu_up, zup_in, zup_in0, zput_at, zput_a0, zput_zput, zput_ne, rInc_f]
      refine aw_iload_4 dX2_readNumber_135 ?_
      exact aw_ireturn rfl dX2_readNumber_137 ⟨Nat.zero_le _, Nat.zero_le _⟩ (by unfold rNumV; rw [if_neg hg, hv1]) rfl (by unfold rNum; rw [if_neg hg]; unfold rN3; rw [hv1, hv2]; first | rw [if_pos c101, if_pos c119] | rw [if_pos c101, if_neg c119, if_pos c126] | rw [if_pos c101, if_neg c119, if_neg c126] | rw [if_neg c101]) rfl
  refine aw_aload_0 dX2_readNumber_0 ?_
  refine aw_aload_1 dX2_readNumber_1 ?_
  refine aw_iload_2 dX2_readNumber_2 ?_
  refine aw_runv (zRun_V (c_X2_skip hR zVw.put hx hd hok hb) gX2_readNumber_X2_skipBlanks q_X2_skipBlanks rfl (by decide) rfl (by assumption) rfl rfl (Nat.le_of_ble_eq_true rfl) dX2_readNumber_3 ⟨Nat.le_refl _, Nat.le_refl _⟩) ?_
  try simp (disch := omega) only [zu_up, zup_in, zup_in0, zput_at, zput_a0, zput_zput, zput_ne, rInc_f]
  refine aw_aload_0 dX2_readNumber_6 ?_
  refine aw_aload_1 dX2_readNumber_7 ?_
  refine aw_iload_2 dX2_readNumber_8 ?_
  refine aw_aload_0 dX2_readNumber_9 ?_
  refine aw_getI fX2_7 hinX2 (by decide +kernel : Cond.fieldLink RX2 18 RX2 (TX2 7).2.1 (TX2 7).2.2.1 ∈ wsX2_readNumber) (by assumption) dX2_readNumber_10 ?_
  try simp (disch := omega) only [zu_up, zup_in, zup_in0, zput_at, zput_a0, zput_zput, zput_ne, rInc_f]
  refine aw_run (zRun_V (c_X2_isDigit hR hx) gX2_readNumber_X2_isDigit q_X2_isDigit rfl (by decide) rfl (by assumption) rfl rfl (Nat.le_of_ble_eq_true rfl) dX2_readNumber_13 ⟨Nat.le_refl _, Nat.le_refl _⟩) ?_
  try simp (disch := omega) only [zu_up, zup_in, zup_in0, zput_at, zput_a0, zput_zput, zput_ne, rInc_f]
  refine aw_if_ne (tgt := 21) dX2_readNumber_16 (by decide) (fun c16 => ?_) (fun c16 => ?_)
  · refine aw_aload_0 dX2_readNumber_21 ?_
    refine aw_getI fX2_7 hinX2 (by decide +kernel : Cond.fieldLink RX2 18 RX2 (TX2 7).2.1 (TX2 7).2.2.1 ∈ wsX2_readNumber) (by assumption) dX2_readNumber_22 ?_
    try simp (disch := omega) only [zu_up, zup_in, zup_in0, zput_at, zput_a0, zput_zput, zput_ne, rInc_f]
    refine aw_istore_3 dX2_readNumber_25 ?_
    refine aw_aload_1 dX2_readNumber_26 ?_
    refine aw_aload_0 dX2_readNumber_27 ?_
    refine aw_getI fX2_7 hinX2 (by decide +kernel : Cond.fieldLink RX2 18 RX2 (TX2 7).2.1 (TX2 7).2.2.1 ∈ wsX2_readNumber) (by assumption) dX2_readNumber_28 ?_
    try simp (disch := omega) only [zu_up, zup_in, zup_in0, zput_at, zput_a0, zput_zput, zput_ne, rInc_f]
    refine aw_run (zRun_SN (qn := 12) (c_X6_at (by assumption) (by decide)) gX2_readNumber_X6_at_n70 rfl (by decide +kernel : Cond.static yX6_at ∈ wsX2_readNumber) (by decide +kernel : Cond.initialized yX6_at.cls ∈ wsX2_readNumber) q_X6_at (by decide) rfl rfl (Nat.le_of_ble_eq_true rfl) dX2_readNumber_31 ⟨Nat.le_refl _, Nat.le_refl _⟩) ?_
    try simp (disch := omega) only [zu_up, zup_in, zup_in0, zput_at, zput_a0, zput_zput, zput_ne, rInc_f]
    refine aw_bipush (v := 48) dX2_readNumber_34 (by decide) ?_
    refine aw_isub dX2_readNumber_36 ?_
    refine aw_istore_4 dX2_readNumber_37 ?_
    refine aw_aload_0 dX2_readNumber_39 ?_
    refine aw_dup rfl dX2_readNumber_40 ?_
    refine aw_getI fX2_7 hinX2 (by decide +kernel : Cond.fieldLink RX2 18 RX2 (TX2 7).2.1 (TX2 7).2.2.1 ∈ wsX2_readNumber) (by assumption) dX2_readNumber_41 ?_
    try simp (disch := omega) only [zu_up, zup_in, zup_in0, zput_at, zput_a0, zput_zput, zput_ne, rInc_f]
    refine aw_iconst (v := 1) dX2_readNumber_44 (by decide) ?_
    refine aw_iadd dX2_readNumber_45 ?_
    refine aw_putI fX2_7 rfl hinX2 (by decide +kernel : Cond.fieldLink RX2 18 RX2 (TX2 7).2.1 (TX2 7).2.2.1 ∈ wsX2_readNumber) (by assumption) dX2_readNumber_46 ?_
    try simp (disch := omega) only [zu_up, zup_in, zup_in0, zput_at, zput_a0, zput_zput, zput_ne, rInc_f]
    refine aw_aload_0 dX2_readNumber_49 ?_
    refine aw_aload_1 dX2_readNumber_50 ?_
    refine aw_iload_2 dX2_readNumber_51 ?_
    refine aw_aload_0 dX2_readNumber_52 ?_
    refine aw_getI fX2_7 hinX2 (by decide +kernel : Cond.fieldLink RX2 18 RX2 (TX2 7).2.1 (TX2 7).2.2.1 ∈ wsX2_readNumber) (by assumption) dX2_readNumber_53 ?_
    try simp (disch := omega) only [zu_up, zup_in, zup_in0, zput_at, zput_a0, zput_zput, zput_ne, rInc_f]
    refine aw_run (zRun_V (c_X2_isDigit hR hx) gX2_readNumber_X2_isDigit q_X2_isDigit rfl (by decide) rfl (by assumption) rfl rfl (Nat.le_of_ble_eq_true rfl) dX2_readNumber_56 ⟨Nat.le_refl _, Nat.le_refl _⟩) ?_
    try simp (disch := omega) only [zu_up, zup_in, zup_in0, zput_at, zput_a0, zput_zput, zput_ne, rInc_f]
    refine aw_if_eq (tgt := 91) dX2_readNumber_59 (by decide) (fun c59 => ?_) (fun c59 => ?_)
    · try simp (disch := omega) only [zu_up, zup_in, zup_in0, zput_at, zput_a0, zput_zput, zput_ne, rInc_f]
      exact L91 _ _ (by unfold rN2; first | (rw [if_pos c59]; try rfl) | (rw [if_neg c59]; try rfl)) c16
    · refine aw_iload_4 dX2_readNumber_62 ?_
      refine aw_bipush (v := 10) dX2_readNumber_64 (by decide) ?_
      refine aw_imul dX2_readNumber_66 ?_
      refine aw_aload_1 dX2_readNumber_67 ?_
      refine aw_aload_0 dX2_readNumber_68 ?_
      refine aw_getI fX2_7 hinX2 (by decide +kernel : Cond.fieldLink RX2 18 RX2 (TX2 7).2.1 (TX2 7).2.2.1 ∈ wsX2_readNumber) (by assumption) dX2_readNumber_69 ?_
      try simp (disch := omega) only [zu_up, zup_in, zup_in0, zput_at, zput_a0, zput_zput, zput_ne, rInc_f]
      refine aw_run (zRun_SN (qn := 12) (c_X6_at (by assumption) (by decide)) gX2_readNumber_X6_at_n70 rfl (by decide +kernel : Cond.static yX6_at ∈ wsX2_readNumber) (by decide +kernel : Cond.initialized yX6_at.cls ∈ wsX2_readNumber) q_X6_at (by decide) rfl rfl (Nat.le_of_ble_eq_true rfl) dX2_readNumber_72 ⟨Nat.le_refl _, Nat.le_refl _⟩) ?_
      try simp (disch := omega) only [zu_up, zup_in, zup_in0, zput_at, zput_a0, zput_zput, zput_ne, rInc_f]
      refine aw_iadd dX2_readNumber_75 ?_
      refine aw_bipush (v := 48) dX2_readNumber_76 (by decide) ?_
      refine aw_isub dX2_readNumber_78 ?_
      refine aw_istore_4 dX2_readNumber_79 ?_
      refine aw_aload_0 dX2_readNumber_81 ?_
      refine aw_dup rfl dX2_readNumber_82 ?_
      refine aw_getI fX2_7 hinX2 (by decide +kernel : Cond.fieldLink RX2 18 RX2 (TX2 7).2.1 (TX2 7).2.2.1 ∈ wsX2_readNumber) (by assumption) dX2_readNumber_83 ?_
      try simp (disch := omega) only [zu_up, zup_in, zup_in0, zput_at, zput_a0, zput_zput, zput_ne, rInc_f]
      refine aw_iconst (v := 1) dX2_readNumber_86 (by decide) ?_
      refine aw_iadd dX2_readNumber_87 ?_
      refine aw_putI fX2_7 rfl hinX2 (by decide +kernel : Cond.fieldLink RX2 18 RX2 (TX2 7).2.1 (TX2 7).2.2.1 ∈ wsX2_readNumber) (by assumption) dX2_readNumber_88 ?_
      try simp (disch := omega) only [zu_up, zup_in, zup_in0, zput_at, zput_a0, zput_zput, zput_ne, rInc_f]
      exact L91 _ _ (by unfold rN2; first | (rw [if_pos c59]; try rfl) | (rw [if_neg c59]; try rfl)) c16
  · refine aw_iconst (v := 1) dX2_readNumber_19 (by decide) ?_
    exact aw_ireturn rfl dX2_readNumber_20 ⟨Nat.zero_le _, Nat.zero_le _⟩ (by unfold rNumV; rw [if_pos c16]) rfl (by unfold rNum; rw [if_pos c16]) rfl

abbrev mX2_readIngredient : ZM := (cX2_readIngredient, RX2, wsX2_readIngredient, 4, 0, 0, none, 5, yX2_readIngredient.name)
set_option maxHeartbeats 1000000 in
set_option maxRecDepth 100000 in
theorem c_X2_readIngredient {sh : zSh} {F : Nat → Nat → Int32} {P : Nat → Nat → Option Nat} {r x : Nat} {R : Nat → Nat → Int32} {len : Int32} (hR : zRd sh P r) (hV : zVw F r 3 R) (hx : sh x = some (.inr (0, 60))) (hd : x < r ∨ r + 3 ≤ x) {b : Nat} (hok : rOk R b) (hb : b < 2 ^ 28) : zMet yX2_readIngredient wsX2_readIngredient (4) (0) (0) [.ref r, .ref x, .int len] sh F P (none) sh (zput F r 3 (rIng (F x) len R)) P := by
  refine zMet.of (by decide) rfl (Nat.le_of_ble_eq_true rfl) (by simp [Value.category]) ?_
  intro X ρ
  show AW mX2_readIngredient X (zMQ mX2_readIngredient X (none) sh (zput F r 3 (rIng (F x) len R)) P) 0 [some (.ref r), some (.ref x), some (.int len), none, none] [] ρ sh F P 0 0
  have hinX2 : ∀ w ∈ u_ws RX2 TX2 8, w ∈ wsX2_readIngredient := by decide +kernel
  obtain ⟨hs0, ⟨hp0, hp1⟩, hs1, hs2⟩ := id hR
  refine aw_cF (F' := zput F r 3 R) (zput_view hV).symm ?_
  refine aw_aload_0 dX2_readIngredient_0 ?_
  refine aw_aload_1 dX2_readIngredient_1 ?_
  refine aw_iload_2 dX2_readIngredient_2 ?_
  refine aw_run (zRun_V (c_X2_readNumber hR zVw.put hx hd hok (by omega)) gX2_readIngredient_X2_readNumber q_X2_readNumber rfl (by decide) rfl (by assumption) rfl rfl (Nat.le_of_ble_eq_true rfl) dX2_readIngredient_3 ⟨Nat.le_refl _, Nat.le_refl _⟩) ?_
  try simp (disch := omega) only [zu_up, zup_in, zup_in0, zput_at, zput_a0, zput_zput, zput_ne, rInc_f]
  refine aw_istore_3 dX2_readIngredient_6 ?_
  refine aw_aload_0 dX2_readIngredient_7 ?_
  refine aw_aload_1 dX2_readIngredient_8 ?_
  refine aw_iload_2 dX2_readIngredient_9 ?_
  refine aw_run (zRun_V (c_X2_readLetter hR zVw.put hx hd (hok.num (T := F x) (len := len)) (by omega)) gX2_readIngredient_X2_readLetter q_X2_readLetter rfl (by decide) rfl (by assumption) rfl rfl (Nat.le_of_ble_eq_true rfl) dX2_readIngredient_10 ⟨Nat.le_refl _, Nat.le_refl _⟩) ?_
  try simp (disch := omega) only [zu_up, zup_in, zup_in0, zput_at, zput_a0, zput_zput, zput_ne, rInc_f]
  rw [show rLet (F x) len (rNum (F x) len R) = rIng0 (F x) len R from rfl]
  refine aw_istore_4 dX2_readIngredient_13 ?_
  refine aw_aload_0 dX2_readIngredient_15 ?_
  refine aw_getI fX2_5 hinX2 (by decide +kernel : Cond.fieldLink RX2 25 RX2 (TX2 5).2.1 (TX2 5).2.2.1 ∈ wsX2_readIngredient) (by assumption) dX2_readIngredient_16 ?_
  try simp (disch := omega) only [zu_up, zup_in, zup_in0, zput_at, zput_a0, zput_zput, zput_ne, rInc_f]
  refine aw_if_eq (tgt := 23) dX2_readIngredient_19 (by decide) (fun c19 => ?_) (fun c19 => ?_)
  · refine aw_aload_0 dX2_readIngredient_23 ?_
    refine aw_getI fX2_4 hinX2 (by decide +kernel : Cond.fieldLink RX2 22 RX2 (TX2 4).2.1 (TX2 4).2.2.1 ∈ wsX2_readIngredient) (by assumption) dX2_readIngredient_24 ?_
    try simp (disch := omega) only [zu_up, zup_in, zup_in0, zput_at, zput_a0, zput_zput, zput_ne, rInc_f]
    refine aw_iconst (v := 5) dX2_readIngredient_27 (by decide) ?_
    refine aw_icmp_ge (tgt := 40) dX2_readIngredient_28 (by decide) (fun c28 => ?_) (fun c28 => ?_)
    · refine aw_aload_0 dX2_readIngredient_40 ?_
      refine aw_iconst (v := 3) dX2_readIngredient_41 (by decide) ?_
      refine aw_aload_0 dX2_readIngredient_42 ?_
      refine aw_getI fX2_7 hinX2 (by decide +kernel : Cond.fieldLink RX2 18 RX2 (TX2 7).2.1 (TX2 7).2.2.1 ∈ wsX2_readIngredient) (by assumption) dX2_readIngredient_43 ?_
      try simp (disch := omega) only [zu_up, zup_in, zup_in0, zput_at, zput_a0, zput_zput, zput_ne, rInc_f]
      refine aw_iconst (v := 1) dX2_readIngredient_46 (by decide) ?_
      refine aw_isub dX2_readIngredient_47 ?_
      refine aw_runv (zRun_V (c_X2_tellFault hR zVw.put) gX2_readIngredient_X2_tellFault q_X2_tellFault rfl (by decide) rfl (by assumption) rfl rfl (Nat.le_of_ble_eq_true rfl) dX2_readIngredient_48 ⟨Nat.le_refl _, Nat.le_refl _⟩) ?_
      try simp (disch := omega) only [zu_up, zup_in, zup_in0, zput_at, zput_a0, zput_zput, zput_ne, rInc_f]
      exact aw_return rfl dX2_readIngredient_51 ⟨Nat.zero_le _, Nat.zero_le _⟩ rfl rfl (by unfold rIng; rw [if_pos c19]; first | rw [if_pos c28] | (rw [if_neg c28, if_pos]; exact Classical.not_not.mp (fun h => c37 (if_neg h)))) rfl
    · refine aw_aload_0 dX2_readIngredient_31 ?_
      refine aw_iload_4 dX2_readIngredient_32 ?_
      refine aw_run (zRun_V (c_X2_isListed hR zVw.put) gX2_readIngredient_X2_isListed q_X2_isListed rfl (by decide) rfl (by assumption) rfl rfl (Nat.le_of_ble_eq_true rfl) dX2_readIngredient_34 ⟨Nat.le_refl _, Nat.le_refl _⟩) ?_
      refine aw_if_eq (tgt := 52) dX2_readIngredient_37 (by decide) (fun c37 => ?_) (fun c37 => ?_)
      · refine aw_aload_0 dX2_readIngredient_52 ?_
        refine aw_getR fX2_0 (fun _ _ => rfl) (by assumption) hinX2 (by decide +kernel : Cond.fieldLink RX2 9 RX2 (TX2 0).2.1 (TX2 0).2.2.1 ∈ wsX2_readIngredient) (by assumption) dX2_readIngredient_53 ?_
        refine aw_aload_0 dX2_readIngredient_56 ?_
        refine aw_getI fX2_4 hinX2 (by decide +kernel : Cond.fieldLink RX2 22 RX2 (TX2 4).2.1 (TX2 4).2.2.1 ∈ wsX2_readIngredient) (by assumption) dX2_readIngredient_57 ?_
        try simp (disch := omega) only [zu_up, zup_in, zup_in0, zput_at, zput_a0, zput_zput, zput_ne, rInc_f]
        refine aw_iload_4 dX2_readIngredient_60 ?_
        refine aw_runv (zRun_SN (qn := 11) (c_X6_put (by assumption) (by decide)) gX2_readIngredient_X6_put_n67 rfl (by decide +kernel : Cond.static yX6_put ∈ wsX2_readIngredient) (by decide +kernel : Cond.initialized yX6_put.cls ∈ wsX2_readIngredient) q_X6_put (by decide) rfl rfl (Nat.le_of_ble_eq_true rfl) dX2_readIngredient_62 ⟨Nat.le_refl _, Nat.le_refl _⟩) ?_
        try simp (disch := omega) only [zu_up, zup_in, zup_in0, zput_at, zput_a0, zput_zput, zput_ne, rInc_f]
        refine aw_aload_0 dX2_readIngredient_65 ?_
        refine aw_getR fX2_1 (fun _ _ => rfl) (by assumption) hinX2 (by decide +kernel : Cond.fieldLink RX2 15 RX2 (TX2 1).2.1 (TX2 1).2.2.1 ∈ wsX2_readIngredient) (by assumption) dX2_readIngredient_66 ?_
        refine aw_aload_0 dX2_readIngredient_69 ?_
        refine aw_getI fX2_4 hinX2 (by decide +kernel : Cond.fieldLink RX2 22 RX2 (TX2 4).2.1 (TX2 4).2.2.1 ∈ wsX2_readIngredient) (by assumption) dX2_readIngredient_70 ?_
        try simp (disch := omega) only [zu_up, zup_in, zup_in0, zput_at, zput_a0, zput_zput, zput_ne, rInc_f]
        refine aw_iload_3 dX2_readIngredient_73 ?_
        refine aw_runv (zRun_SN (qn := 11) (c_X6_put (by assumption) (by decide)) gX2_readIngredient_X6_put_n67 rfl (by decide +kernel : Cond.static yX6_put ∈ wsX2_readIngredient) (by decide +kernel : Cond.initialized yX6_put.cls ∈ wsX2_readIngredient) q_X6_put (by decide) rfl rfl (Nat.le_of_ble_eq_true rfl) dX2_readIngredient_74 ⟨Nat.le_refl _, Nat.le_refl _⟩) ?_
        try simp (disch := omega) only [zu_up, zup_in, zup_in0, zput_at, zput_a0, zput_zput, zput_ne, rInc_f]
        refine aw_aload_0 dX2_readIngredient_77 ?_
        refine aw_dup rfl dX2_readIngredient_78 ?_
        refine aw_getI fX2_4 hinX2 (by decide +kernel : Cond.fieldLink RX2 22 RX2 (TX2 4).2.1 (TX2 4).2.2.1 ∈ wsX2_readIngredient) (by assumption) dX2_readIngredient_79 ?_
        try simp (disch := omega) only [zu_up, zup_in, zup_in0, zput_at, zput_a0, zput_zput, zput_ne, rInc_f]
        refine aw_iconst (v := 1) dX2_readIngredient_82 (by decide) ?_
        refine aw_iadd dX2_readIngredient_83 ?_
        refine aw_putI fX2_4 rfl hinX2 (by decide +kernel : Cond.fieldLink RX2 22 RX2 (TX2 4).2.1 (TX2 4).2.2.1 ∈ wsX2_readIngredient) (by assumption) dX2_readIngredient_84 ?_
        try simp (disch := omega) only [zu_up, zup_in, zup_in0, zput_at, zput_a0, zput_zput, zput_ne, rInc_f]
        exact aw_return rfl dX2_readIngredient_87 ⟨Nat.zero_le _, Nat.zero_le _⟩ rfl rfl (by unfold rIng; rw [if_pos c19, if_neg c28, if_neg (by intro h; rw [if_pos h] at c37; exact absurd c37 (by decide))]; rfl) rfl
      · refine aw_aload_0 dX2_readIngredient_40 ?_
        refine aw_iconst (v := 3) dX2_readIngredient_41 (by decide) ?_
        refine aw_aload_0 dX2_readIngredient_42 ?_
        refine aw_getI fX2_7 hinX2 (by decide +kernel : Cond.fieldLink RX2 18 RX2 (TX2 7).2.1 (TX2 7).2.2.1 ∈ wsX2_readIngredient) (by assumption) dX2_readIngredient_43 ?_
        try simp (disch := omega) only [zu_up, zup_in, zup_in0, zput_at, zput_a0, zput_zput, zput_ne, rInc_f]
        refine aw_iconst (v := 1) dX2_readIngredient_46 (by decide) ?_
        refine aw_isub dX2_readIngredient_47 ?_
        refine aw_runv (zRun_V (c_X2_tellFault hR zVw.put) gX2_readIngredient_X2_tellFault q_X2_tellFault rfl (by decide) rfl (by assumption) rfl rfl (Nat.le_of_ble_eq_true rfl) dX2_readIngredient_48 ⟨Nat.le_refl _, Nat.le_refl _⟩) ?_
        try simp (disch := omega) only [zu_up, zup_in, zup_in0, zput_at, zput_a0, zput_zput, zput_ne, rInc_f]
        exact aw_return rfl dX2_readIngredient_51 ⟨Nat.zero_le _, Nat.zero_le _⟩ rfl rfl (by unfold rIng; rw [if_pos c19]; first | rw [if_pos c28] | (rw [if_neg c28, if_pos]; exact Classical.not_not.mp (fun h => c37 (if_neg h)))) rfl
  · exact aw_return rfl dX2_readIngredient_22 ⟨Nat.zero_le _, Nat.zero_le _⟩ rfl rfl (by unfold rIng; rw [if_neg c19]) rfl

abbrev mX2_isMore : ZM := (cX2_isMore, RX2, wsX2_isMore, 3, 0, 0, (some .boolean), 3, yX2_isMore.name)
set_option maxHeartbeats 1000000 in
set_option maxRecDepth 100000 in
theorem c_X2_isMore {sh : zSh} {F : Nat → Nat → Int32} {P : Nat → Nat → Option Nat} {r x : Nat} {R : Nat → Nat → Int32} {len : Int32} (hR : zRd sh P r) (hV : zVw F r 3 R) (hx : sh x = some (.inr (0, 60))) (hd : x < r ∨ r + 3 ≤ x) {b : Nat} (hok : rOk R b) (hb : b < 2 ^ 29) : zMet yX2_isMore wsX2_isMore (3) (0) (0) [.ref r, .ref x, .int len] sh F P (some (.int (rMoreV (F x) len R))) sh (zput F r 3 (rSk (F x) len R)) P := by
  refine zMet.of (by decide) rfl (Nat.le_of_ble_eq_true rfl) (by simp [Value.category]) ?_
  intro X ρ
  show AW mX2_isMore X (zMQ mX2_isMore X (some (.int (rMoreV (F x) len R))) sh (zput F r 3 (rSk (F x) len R)) P) 0 [some (.ref r), some (.ref x), some (.int len)] [] ρ sh F P 0 0
  have hinX2 : ∀ w ∈ u_ws RX2 TX2 8, w ∈ wsX2_isMore := by decide +kernel
  obtain ⟨hs0, ⟨hp0, hp1⟩, hs1, hs2⟩ := id hR
  refine aw_cF (F' := zput F r 3 R) (zput_view hV).symm ?_
  refine aw_aload_0 dX2_isMore_0 ?_
  refine aw_aload_1 dX2_isMore_1 ?_
  refine aw_iload_2 dX2_isMore_2 ?_
  refine aw_runv (zRun_V (c_X2_skip hR zVw.put hx hd hok hb) gX2_isMore_X2_skipBlanks q_X2_skipBlanks rfl (by decide) rfl (by assumption) rfl rfl (Nat.le_of_ble_eq_true rfl) dX2_isMore_3 ⟨Nat.le_refl _, Nat.le_refl _⟩) ?_
  try simp (disch := omega) only [zu_up, zup_in, zup_in0, zput_at, zput_a0, zput_zput, zput_ne, rInc_f]
  refine aw_aload_0 dX2_isMore_6 ?_
  refine aw_getI fX2_5 hinX2 (by decide +kernel : Cond.fieldLink RX2 25 RX2 (TX2 5).2.1 (TX2 5).2.2.1 ∈ wsX2_isMore) (by assumption) dX2_isMore_7 ?_
  try simp (disch := omega) only [zu_up, zup_in, zup_in0, zput_at, zput_a0, zput_zput, zput_ne, rInc_f]
  refine aw_if_ne (tgt := 25) dX2_isMore_10 (by decide) (fun c10 => ?_) (fun c10 => ?_)
  · refine aw_iconst (v := 0) dX2_isMore_25 (by decide) ?_
    exact aw_zreturn rfl dX2_isMore_26 ⟨Nat.zero_le _, Nat.zero_le _⟩ (by decide) (by unfold rMoreV; first | rw [if_neg c10] | (rw [if_pos c10]; first | rw [if_pos c18] | rw [if_neg c18])) rfl rfl rfl
  · refine aw_aload_0 dX2_isMore_13 ?_
    refine aw_getI fX2_7 hinX2 (by decide +kernel : Cond.fieldLink RX2 18 RX2 (TX2 7).2.1 (TX2 7).2.2.1 ∈ wsX2_isMore) (by assumption) dX2_isMore_14 ?_
    try simp (disch := omega) only [zu_up, zup_in, zup_in0, zput_at, zput_a0, zput_zput, zput_ne, rInc_f]
    refine aw_iload_2 dX2_isMore_17 ?_
    refine aw_icmp_ge (tgt := 25) dX2_isMore_18 (by decide) (fun c18 => ?_) (fun c18 => ?_)
    · refine aw_iconst (v := 0) dX2_isMore_25 (by decide) ?_
      exact aw_zreturn rfl dX2_isMore_26 ⟨Nat.zero_le _, Nat.zero_le _⟩ (by decide) (by unfold rMoreV; first | rw [if_neg c10] | (rw [if_pos c10]; first | rw [if_pos c18] | rw [if_neg c18])) rfl rfl rfl
    · refine aw_iconst (v := 1) dX2_isMore_21 (by decide) ?_
      refine aw_goto (tgt := 26) dX2_isMore_22 (by decide) ?_
      exact aw_zreturn rfl dX2_isMore_26 ⟨Nat.zero_le _, Nat.zero_le _⟩ (by decide) (by unfold rMoreV; first | rw [if_neg c10] | (rw [if_pos c10]; first | rw [if_pos c18] | rw [if_neg c18])) rfl rfl rfl

