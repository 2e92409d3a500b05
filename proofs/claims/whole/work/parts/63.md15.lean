/-! ===== 63.md15: the model's reader ===== -/
def qSet (G : Nat → Nat → Int32) (k : Nat) (v : Int32) : Nat → Nat → Int32 := va_up G 0 (upd (G 0) k v)
def qMark (G : Nat → Nat → Int32) (a b : Int32) : Nat → Nat → Int32 := qSet (qSet G 22 a) 23 b
def qIsNum (G : Nat → Nat → Int32) : Int32 := if G 0 24 = 2 then 1 else if G 0 24 = 5 then 1 else 0
def qEndV (G : Nat → Nat → Int32) : Int32 := if qIsNum G = 0 then 1 else if mIn (G 0 25) 1 20 = 0 then 0 else 1
def qEnd (G : Nat → Nat → Int32) : Nat → Nat → Int32 := if qIsNum G = 0 then G else if mIn (G 0 25) 1 20 = 0 then qMark G 2 (G 0 27) else qSet (qSet G 19 (if G 0 24 = 2 then G 0 25 else G 0 19)) 24 (G 0 24 + 1)
def qDig0 (G : Nat → Nat → Int32) (k : Nat) : Nat → Nat → Int32 := qSet (qSet (qSet (qSet G 24 (G 0 24 + 1)) 25 (G 4 k - 48)) 26 1) 27 (nI k)
def qDig (G : Nat → Nat → Int32) (k : Nat) : Nat → Nat → Int32 := if G 0 24 = 1 then qDig0 G k else if G 0 24 = 4 then qDig0 G k else if qIsNum G = 0 then qMark G 1 (nI k) else if G 0 26 = 1 then qSet (qSet G 25 (10 * G 0 25 + G 4 k - 48)) 26 2 else qMark G 1 (nI k)
def qThere (G : Nat → Nat → Int32) (t : Int32) (c : Nat) : Nat → Int32 := fun n => it (fun i x => x ||| (if G 11 (2 * i) = t then 1 else 0)) n (if nI c = 5 then 1 else 0)
def qIng1 (G : Nat → Nat → Int32) (t a : Int32) (c : Nat) : Nat → Nat → Int32 := qSet (qSet (va_up G 11 (upd (upd (G 11) (2 * c) t) (2 * c + 1) a)) 20 (nI (c + 1))) 24 7
def qIng (G : Nat → Nat → Int32) (t a z : Int32) (c : Nat) : Nat → Nat → Int32 := if qThere G t c c = 0 then qIng1 G t a c else qMark G 3 z
def qLet (G : Nat → Nat → Int32) (k : Nat) : Int32 := mIn (G 4 k) 97 116
def qO3 (E : Nat → Nat → Int32) (k : Nat) : Nat → Nat → Int32 := if E 0 24 = 7 then (if E 4 k = 43 then qSet E 24 4 else qMark E 1 (nI k)) else qMark E 1 (nI k)
def qO2 (E : Nat → Nat → Int32) (k c : Nat) : Nat → Nat → Int32 := if E 0 24 = 4 then (if qLet E k = 0 then qO3 E k else qIng E (E 4 k - 97) 1 (nI k) c) else if E 0 24 = 6 then (if qLet E k = 0 then qO3 E k else qIng E (E 4 k - 97) (E 0 25) (nI k) c) else qO3 E k
def qO1 (E : Nat → Nat → Int32) (k c : Nat) : Nat → Nat → Int32 := if E 0 24 = 1 then (if E 4 k = 61 then qSet E 24 4 else qO2 E k c) else if E 0 24 = 3 then (if E 4 k = 61 then qSet E 24 4 else qO2 E k c) else qO2 E k c
def qO0 (E : Nat → Nat → Int32) (k c : Nat) : Nat → Nat → Int32 := if E 0 24 = 0 then (if qLet E k = 0 then qO1 E k c else qSet (qSet E 18 (E 4 k - 97)) 24 1) else qO1 E k c
def qOth (G : Nat → Nat → Int32) (k c : Nat) : Nat → Nat → Int32 := if qEndV G = 0 then qEnd G else if G 4 k = 32 then qEnd G else qO0 (qEnd G) k c
def qInit (G : Nat → Nat → Int32) : Nat → Nat → Int32 := qSet (qSet (qSet (qMark G (-9) (-9)) 19 1) 20 0) 24 0
def qStep (k : Nat) (G : Nat → Nat → Int32) : Nat → Nat → Int32 := if G 0 22 = -9 then (if mIn (G 4 k) 48 57 = 0 then qOth G k (G 0 20).toNatClampNeg else qDig G k) else G
def qFin (G : Nat → Nat → Int32) : Nat → Nat → Int32 := if G 0 22 = -9 then (if qEndV G = 0 then qEnd G else if qEnd G 0 24 = 7 then qEnd G else qMark (qEnd G) 4 (G 0 6)) else G
def qRead (G : Nat → Nat → Int32) (L : Nat) : Nat → Nat → Int32 := qFin (it qStep L (qInit G))
theorem qSet_j {G : Nat → Nat → Int32} {k j : Nat} {v : Int32} (h : j ≠ 0) : qSet G k v j = G j := zup_ne h
theorem qSet_k {G : Nat → Nat → Int32} {k : Nat} {v : Int32} : qSet G k v 0 k = v := by
  unfold qSet
  rw [zup_eq, upd_eq]
theorem qSet_n {G : Nat → Nat → Int32} {k i : Nat} {v : Int32} (h : i ≠ k) : qSet G k v 0 i = G 0 i := by
  unfold qSet
  rw [zup_eq, upd_ne h]
theorem qMark_j {G : Nat → Nat → Int32} {j : Nat} {a b : Int32} (h : j ≠ 0) : qMark G a b j = G j := by
  unfold qMark
  rw [qSet_j h, qSet_j h]
theorem qMark_n {G : Nat → Nat → Int32} {i : Nat} {a b : Int32} (h : i ≠ 22) (h2 : i ≠ 23) : qMark G a b 0 i = G 0 i := by
  unfold qMark
  rw [qSet_n h2, qSet_n h]
theorem qEnd_j {G : Nat → Nat → Int32} {j : Nat} (h : j ≠ 0) : qEnd G j = G j := by
  unfold qEnd
  split
  · rfl
  · split
    · exact qMark_j h
    · rw [qSet_j h, qSet_j h]
theorem qEnd_n {G : Nat → Nat → Int32} {i : Nat} (h : i < 19 ∨ i = 20 ∨ i = 25 ∨ i = 26 ∨ i = 27) : qEnd G 0 i = G 0 i := by
  unfold qEnd
  split
  · rfl
  · split
    · exact qMark_n (by omega) (by omega)
    · rw [qSet_n (by omega), qSet_n (by omega)]
theorem mOr_0 {x y : Int32} (hy : y = 0 ∨ y = 1) (h : x = 0 ∨ x = 1) : x ||| y = 0 ↔ (x = 0 ∧ y = 0) := by
  rcases hy with rfl | rfl <;> rcases h with rfl | rfl <;> decide
theorem qThere_z {G : Nat → Nat → Int32} {t : Int32} {c : Nat} : ∀ n, qThere G t c n = 0 ∨ qThere G t c n = 1 := by
  intro n
  unfold qThere
  induction n with
  | zero =>
    show (if nI c = 5 then (1 : Int32) else 0) = 0 ∨ _
    by_cases h : nI c = 5
    · rw [if_pos h]
      exact Or.inr rfl
    · rw [if_neg h]
      exact Or.inl rfl
  | succ n ih =>
    rw [it_s]
    exact mor_z ih (by split <;> simp)
theorem qThere_0 {G : Nat → Nat → Int32} {t : Int32} {c : Nat} : ∀ n, qThere G t c n = 0 ↔ (¬ nI c = 5 ∧ ∀ i, i < n → ¬ G 11 (2 * i) = t) := by
  intro n
  induction n with
  | zero =>
    show (if nI c = 5 then (1 : Int32) else 0) = 0 ↔ _
    by_cases h : nI c = 5
    · rw [if_pos h]
      exact ⟨fun h => absurd h (by decide), fun h2 => absurd h h2.1⟩
    · rw [if_neg h]
      exact ⟨fun _ => ⟨h, fun i hi => absurd hi (Nat.not_lt_zero i)⟩, fun _ => rfl⟩
  | succ n ih =>
    have e : qThere G t c (n + 1) = qThere G t c n ||| (if G 11 (2 * n) = t then 1 else 0) := rfl
    rw [e, mOr_0 (by split <;> simp) (qThere_z n), ih]
    constructor
    · rintro ⟨⟨h1, h2⟩, h3⟩
      refine ⟨h1, fun i hi => ?_⟩
      by_cases e : i = n
      · subst e
        intro h4
        rw [if_pos h4] at h3
        exact absurd h3 (by decide)
      · exact h2 i (by omega)
    · rintro ⟨h1, h2⟩
      exact ⟨⟨h1, fun i hi => h2 i (by omega)⟩, if_neg (h2 n (by omega))⟩
theorem qThere_lt {G : Nat → Nat → Int32} {t : Int32} {c n : Nat} (hc : c ≤ 5) (h : qThere G t c n = 0) : c < 5 := by
  have := ((qThere_0 n).mp h).1
  rcases Nat.lt_or_ge c 5 with h2 | h2
  · exact h2
  · exact absurd (by rw [show c = 5 by omega]; rfl) this
/-- what the reader's steps keep -/
def qI (G0 G : Nat → Nat → Int32) : Prop := (∀ j, j ≠ 0 → j ≠ 11 → G j = G0 j) ∧ (∀ i, i < 18 → G 0 i = G0 0 i) ∧ ∃ c, c ≤ 5 ∧ G 0 20 = nI c
theorem qI.set {G0 G : Nat → Nat → Int32} {k : Nat} {v : Int32} (h : qI G0 G) (hk : 18 ≤ k) (h20 : k ≠ 20) : qI G0 (qSet G k v) := by
  obtain ⟨h1, h2, c, hc, h3⟩ := h
  exact ⟨fun j hj hj2 => (qSet_j hj).trans (h1 j hj hj2), fun i hi => (qSet_n (by omega)).trans (h2 i hi), c, hc, (qSet_n (Ne.symm h20)).trans h3⟩
theorem qI.mark {G0 G : Nat → Nat → Int32} {a b : Int32} (h : qI G0 G) : qI G0 (qMark G a b) := (h.set (by decide) (by decide)).set (by decide) (by decide)
theorem qI.end {G0 G : Nat → Nat → Int32} (h : qI G0 G) : qI G0 (qEnd G) := by
  unfold qEnd
  split
  · exact h
  · split
    · exact h.mark
    · exact (h.set (by decide) (by decide)).set (by decide) (by decide)
theorem qI.dig {G0 G : Nat → Nat → Int32} {k : Nat} (h : qI G0 G) : qI G0 (qDig G k) := by
  have h0 : qI G0 (qDig0 G k) := (((h.set (by decide) (by decide)).set (by decide) (by decide)).set (by decide) (by decide)).set (by decide) (by decide)
  unfold qDig
  split
  · exact h0
  · split
    · exact h0
    · split
      · exact h.mark
      · split
        · exact (h.set (by decide) (by decide)).set (by decide) (by decide)
        · exact h.mark
theorem qI.ing {G0 G : Nat → Nat → Int32} {t a z : Int32} {c : Nat} (h : qI G0 G) (hc : c ≤ 5) : qI G0 (qIng G t a z c) := by
  unfold qIng
  split
  · rename_i h0
    have := qThere_lt hc h0
    obtain ⟨h1, h2, -⟩ := h
    unfold qIng1
    refine ⟨fun j hj hj2 => ?_, fun i hi => ?_, c + 1, by omega, ?_⟩
    · rw [qSet_j hj, qSet_j hj, zup_ne hj2]
      exact h1 j hj hj2
    · rw [qSet_n (by omega), qSet_n (by omega), zup_ne (by decide)]
      exact h2 i hi
    · rw [qSet_n (by decide), qSet_k]
  · exact h.mark
theorem qI.o0 {G0 E : Nat → Nat → Int32} {k c : Nat} (h : qI G0 E) (hc : c ≤ 5) : qI G0 (qO0 E k c) := by
  have h3 : qI G0 (qO3 E k) := by
    unfold qO3
    split
    · split
      · exact h.set (by decide) (by decide)
      · exact h.mark
    · exact h.mark
  have h2 : qI G0 (qO2 E k c) := by
    unfold qO2
    split
    · split
      · exact h3
      · exact h.ing hc
    · split
      · split
        · exact h3
        · exact h.ing hc
      · exact h3
  have h1 : qI G0 (qO1 E k c) := by
    unfold qO1
    split
    · split
      · exact h.set (by decide) (by decide)
      · exact h2
    · split
      · split
        · exact h.set (by decide) (by decide)
        · exact h2
      · exact h2
  unfold qO0
  split
  · split
    · exact h1
    · exact (h.set (by decide) (by decide)).set (by decide) (by decide)
  · exact h1
theorem qI.oth {G0 G : Nat → Nat → Int32} {k c : Nat} (h : qI G0 G) (hc : c ≤ 5) : qI G0 (qOth G k c) := by
  unfold qOth
  split
  · exact h.end
  · split
    · exact h.end
    · exact h.end.o0 hc
theorem qI.step {G0 G : Nat → Nat → Int32} {k : Nat} (h : qI G0 G) : qI G0 (qStep k G) := by
  unfold qStep
  split
  · split
    · obtain ⟨c, hc, h20⟩ := h.2.2
      rw [h20, nI_clamp (by omega)]
      exact h.oth hc
    · exact h.dig
  · exact h
theorem qI.init {G : Nat → Nat → Int32} : qI G (qInit G) := by
  unfold qInit
  refine ⟨fun j hj _ => ?_, fun i hi => ?_, 0, by decide, ?_⟩
  · rw [qSet_j hj, qSet_j hj, qSet_j hj, qMark_j hj]
  · rw [qSet_n (by omega), qSet_n (by omega), qSet_n (by omega), qMark_n (by omega) (by omega)]
  · rw [qSet_n (by decide), qSet_k]
    rfl
theorem qI.it {G : Nat → Nat → Int32} : ∀ n, qI G (it qStep n (qInit G)) := by
  intro n
  induction n with
  | zero => exact qI.init
  | succ n ih => exact ih.step
theorem qStep_stick {G : Nat → Nat → Int32} {k : Nat} (h : ¬ G 0 22 = -9) : qStep k G = G := if_neg h
theorem qI.fin {G0 G : Nat → Nat → Int32} (h : qI G0 G) : qI G0 (qFin G) := by
  unfold qFin
  split
  · split
    · exact h.end
    · split
      · exact h.end
      · exact h.end.mark
  · exact h

abbrev mX7_mark : ZM := (cX7_mark, RX7, wsX7_mark, 1, 0, 0, none, 3, yX7_mark.name)
set_option maxHeartbeats 1000000 in
set_option maxRecDepth 100000 in
theorem c_X7_mark {sh : zSh} {F : Nat → Nat → Int32} {P : Nat → Nat → Option Nat} {μ : Nat} {G : Nat → Nat → Int32} {a b : Int32} (hM : zMd sh P μ) (hG : zVw F μ 13 G) : zMet yX7_mark wsX7_mark (1) (0) (0) [.ref μ, .int a, .int b] sh F P (none) sh (zput F μ 13 (qMark G a b)) P := by
  refine zMet.of (by decide) rfl (Nat.le_of_ble_eq_true rfl) (by simp [Value.category]) ?_
  intro X ρ
  show AW mX7_mark X (zMQ mX7_mark X (none) sh (zput F μ 13 (qMark G a b)) P) 0 [some (.ref μ), some (.int a), some (.int b)] [] ρ sh F P 0 0
  have hinX7 : ∀ w ∈ u_ws RX7 TX7 29, w ∈ wsX7_mark := by decide +kernel
  obtain ⟨ms0, ⟨mp0, mp1, mp3, mp5, mp9, mp10, mp11, mp12, mp13, mp17, mp21, mp28⟩, ms1, ms2, ms3, ms4, ms5, ms6, ms7, ms8, ms9, ms10, ms11, ms12⟩ := id hM
  refine aw_cF (F' := zput F μ 13 G) (zput_view hG).symm ?_
  refine aw_aload_0 dX7_mark_0 ?_
  refine aw_iload_1 dX7_mark_1 ?_
  refine aw_putI fX7_22 rfl hinX7 (by decide +kernel : Cond.fieldLink RX7 141 RX7 (TX7 22).2.1 (TX7 22).2.2.1 ∈ wsX7_mark) ms0 dX7_mark_2 ?_
  refine aw_aload_0 dX7_mark_5 ?_
  refine aw_iload_2 dX7_mark_6 ?_
  try simp (disch := omega) only [zu_up, zup_in, zup_in0, zput_at, zput_a0, zput_zput, zup_eq, zup_ne, va_up_up, nI_clamp]
  refine aw_putI fX7_23 rfl hinX7 (by decide +kernel : Cond.fieldLink RX7 144 RX7 (TX7 23).2.1 (TX7 23).2.2.1 ∈ wsX7_mark) ms0 dX7_mark_7 ?_
  try simp (disch := omega) only [zu_up, zup_in, zup_in0, zput_at, zput_a0, zput_zput, zup_eq, zup_ne, va_up_up, nI_clamp]
  exact aw_return rfl dX7_mark_10 ⟨Nat.zero_le _, Nat.zero_le _⟩ rfl rfl (by unfold qMark qSet; simp (disch := omega) only [zup_eq, zup_ne, va_up_up, upd_ne, upd_eq]) rfl

abbrev mX7_isNumber : ZM := (cX7_isNumber, RX7, wsX7_isNumber, 1, 0, 0, (some .boolean), 1, yX7_isNumber.name)
set_option maxHeartbeats 1000000 in
set_option maxRecDepth 100000 in
theorem c_X7_isNumber {sh : zSh} {F : Nat → Nat → Int32} {P : Nat → Nat → Option Nat} {μ : Nat} {G : Nat → Nat → Int32} (hM : zMd sh P μ) (hG : zVw F μ 13 G) : zMet yX7_isNumber wsX7_isNumber (1) (0) (0) [.ref μ] sh F P (some (.int (qIsNum G))) sh F P := by
  refine zMet.of (by decide) rfl (Nat.le_of_ble_eq_true rfl) (by simp [Value.category]) ?_
  intro X ρ
  show AW mX7_isNumber X (zMQ mX7_isNumber X (some (.int (qIsNum G))) sh F P) 0 [some (.ref μ)] [] ρ sh F P 0 0
  have hinX7 : ∀ w ∈ u_ws RX7 TX7 29, w ∈ wsX7_isNumber := by decide +kernel
  obtain ⟨ms0, ⟨mp0, mp1, mp3, mp5, mp9, mp10, mp11, mp12, mp13, mp17, mp21, mp28⟩, ms1, ms2, ms3, ms4, ms5, ms6, ms7, ms8, ms9, ms10, ms11, ms12⟩ := id hM
  refine aw_cF (F' := zput F μ 13 G) (zput_view hG).symm ?_
  refine aw_aload_0 dX7_isNumber_0 ?_
  refine aw_getI fX7_24 hinX7 (by decide +kernel : Cond.fieldLink RX7 147 RX7 (TX7 24).2.1 (TX7 24).2.2.1 ∈ wsX7_isNumber) ms0 dX7_isNumber_1 ?_
  refine aw_iconst (v := 2) dX7_isNumber_4 (by decide) ?_
  try simp (disch := omega) only [zu_up, zup_in, zup_in0, zput_at, zput_a0, zput_zput, zup_eq, zup_ne, va_up_up, nI_clamp]
  refine aw_icmp_eq (tgt := 16) dX7_isNumber_5 (by decide) (fun c5 => ?_) (fun c5 => ?_)
  · refine aw_iconst (v := 1) dX7_isNumber_16 (by decide) ?_
    refine aw_goto (tgt := 21) dX7_isNumber_17 (by decide) ?_
    exact aw_zreturn rfl dX7_isNumber_21 ⟨Nat.zero_le _, Nat.zero_le _⟩ (by decide) (by unfold qIsNum; first | rw [if_pos c5] | rw [if_neg c5, if_pos c13] | rw [if_neg c5, if_neg c13]) rfl (zput_view hG) rfl
  · refine aw_aload_0 dX7_isNumber_8 ?_
    refine aw_getI fX7_24 hinX7 (by decide +kernel : Cond.fieldLink RX7 147 RX7 (TX7 24).2.1 (TX7 24).2.2.1 ∈ wsX7_isNumber) ms0 dX7_isNumber_9 ?_
    refine aw_iconst (v := 5) dX7_isNumber_12 (by decide) ?_
    try simp (disch := omega) only [zu_up, zup_in, zup_in0, zput_at, zput_a0, zput_zput, zup_eq, zup_ne, va_up_up, nI_clamp]
    refine aw_icmp_ne (tgt := 20) dX7_isNumber_13 (by decide) (fun c13 => ?_) (fun c13 => ?_)
    · refine aw_iconst (v := 0) dX7_isNumber_20 (by decide) ?_
      exact aw_zreturn rfl dX7_isNumber_21 ⟨Nat.zero_le _, Nat.zero_le _⟩ (by decide) (by unfold qIsNum; first | rw [if_pos c5] | rw [if_neg c5, if_pos c13] | rw [if_neg c5, if_neg c13]) rfl (zput_view hG) rfl
    · refine aw_iconst (v := 1) dX7_isNumber_16 (by decide) ?_
      refine aw_goto (tgt := 21) dX7_isNumber_17 (by decide) ?_
      exact aw_zreturn rfl dX7_isNumber_21 ⟨Nat.zero_le _, Nat.zero_le _⟩ (by decide) (by unfold qIsNum; first | rw [if_pos c5] | rw [if_neg c5, if_pos c13] | rw [if_neg c5, if_neg c13]) rfl (zput_view hG) rfl

abbrev mX7_endsWell : ZM := (cX7_endsWell, RX7, wsX7_endsWell, 2, 0, 0, (some .boolean), 1, yX7_endsWell.name)
set_option maxHeartbeats 1000000 in
set_option maxRecDepth 100000 in
theorem c_X7_endsWell {sh : zSh} {F : Nat → Nat → Int32} {P : Nat → Nat → Option Nat} {μ : Nat} {G : Nat → Nat → Int32} (hM : zMd sh P μ) (hG : zVw F μ 13 G) : zMet yX7_endsWell wsX7_endsWell (2) (0) (0) [.ref μ] sh F P (some (.int (qEndV G))) sh (zput F μ 13 (qEnd G)) P := by
  refine zMet.of (by decide) rfl (Nat.le_of_ble_eq_true rfl) (by simp [Value.category]) ?_
  intro X ρ
  show AW mX7_endsWell X (zMQ mX7_endsWell X (some (.int (qEndV G))) sh (zput F μ 13 (qEnd G)) P) 0 [some (.ref μ)] [] ρ sh F P 0 0
  have hinX7 : ∀ w ∈ u_ws RX7 TX7 29, w ∈ wsX7_endsWell := by decide +kernel
  obtain ⟨ms0, ⟨mp0, mp1, mp3, mp5, mp9, mp10, mp11, mp12, mp13, mp17, mp21, mp28⟩, ms1, ms2, ms3, ms4, ms5, ms6, ms7, ms8, ms9, ms10, ms11, ms12⟩ := id hM
  refine aw_cF (F' := zput F μ 13 G) (zput_view hG).symm ?_
  refine aw_aload_0 dX7_endsWell_0 ?_
  refine aw_run (zRun_V (c_X7_isNumber hM zVw.put) gX7_endsWell_X7_isNumber q_X7_isNumber rfl (by decide) rfl ms0 rfl rfl (Nat.le_of_ble_eq_true rfl) dX7_endsWell_1 ⟨Nat.le_refl _, Nat.le_refl _⟩) ?_
  refine aw_if_eq (tgt := 64) dX7_endsWell_4 (by decide) (fun c4 => ?_) (fun c4 => ?_)
  · try simp (disch := omega) only [zu_up, zup_in, zup_in0, zput_at, zput_a0, zput_zput, zup_eq, zup_ne, va_up_up, nI_clamp]
    refine aw_iconst (v := 1) dX7_endsWell_64 (by decide) ?_
    exact aw_zreturn rfl dX7_endsWell_65 ⟨Nat.zero_le _, Nat.zero_le _⟩ (by decide) (by unfold qEndV; first | rw [if_pos c4] | rw [if_neg c4, if_neg c17]) rfl (by unfold qEnd; first | rw [if_pos c4] | (rw [if_neg c4, if_neg c17, if_pos c37]; unfold qSet; simp (disch := omega) only [zup_eq, zup_ne, va_up_up, upd_ne, upd_eq]) | (rw [if_neg c4, if_neg c17, if_neg c37]; unfold qSet; simp (disch := omega) only [zup_eq, zup_ne, va_up_up, upd_ne, upd_eq])) rfl
  · refine aw_aload_0 dX7_endsWell_7 ?_
    refine aw_getI fX7_25 hinX7 (by decide +kernel : Cond.fieldLink RX7 154 RX7 (TX7 25).2.1 (TX7 25).2.2.1 ∈ wsX7_endsWell) ms0 dX7_endsWell_8 ?_
    try simp (disch := omega) only [zu_up, zup_in, zup_in0, zput_at, zput_a0, zput_zput, zup_eq, zup_ne, va_up_up, nI_clamp]
    refine aw_iconst (v := 1) dX7_endsWell_11 (by decide) ?_
    refine aw_bipush (v := 20) dX7_endsWell_12 (by decide) ?_
    refine aw_run (zRun_S (c_X7_isIn ) (Or.inl gX7_endsWell_X7_isIn) q_X7_isIn (by decide) rfl rfl (Nat.le_of_ble_eq_true rfl) dX7_endsWell_14 ⟨Nat.le_refl _, Nat.le_refl _⟩) ?_
    refine aw_if_ne (tgt := 31) dX7_endsWell_17 (by decide) (fun c17 => ?_) (fun c17 => ?_)
    · refine aw_aload_0 dX7_endsWell_31 ?_
      refine aw_aload_0 dX7_endsWell_32 ?_
      refine aw_getI fX7_24 hinX7 (by decide +kernel : Cond.fieldLink RX7 147 RX7 (TX7 24).2.1 (TX7 24).2.2.1 ∈ wsX7_endsWell) ms0 dX7_endsWell_33 ?_
      refine aw_iconst (v := 2) dX7_endsWell_36 (by decide) ?_
      try simp (disch := omega) only [zu_up, zup_in, zup_in0, zput_at, zput_a0, zput_zput, zup_eq, zup_ne, va_up_up, nI_clamp]
      refine aw_icmp_ne (tgt := 47) dX7_endsWell_37 (by decide) (fun c37 => ?_) (fun c37 => ?_)
      · refine aw_aload_0 dX7_endsWell_47 ?_
        refine aw_getI fX7_19 hinX7 (by decide +kernel : Cond.fieldLink RX7 163 RX7 (TX7 19).2.1 (TX7 19).2.2.1 ∈ wsX7_endsWell) ms0 dX7_endsWell_48 ?_
        try simp (disch := omega) only [zu_up, zup_in, zup_in0, zput_at, zput_a0, zput_zput, zup_eq, zup_ne, va_up_up, nI_clamp]
        refine aw_putI fX7_19 rfl hinX7 (by decide +kernel : Cond.fieldLink RX7 163 RX7 (TX7 19).2.1 (TX7 19).2.2.1 ∈ wsX7_endsWell) ms0 dX7_endsWell_51 ?_
        try simp (disch := omega) only [zu_up, zup_in, zup_in0, zput_at, zput_a0, zput_zput, zup_eq, zup_ne, va_up_up, nI_clamp]
        refine aw_aload_0 dX7_endsWell_54 ?_
        refine aw_dup rfl dX7_endsWell_55 ?_
        refine aw_getI fX7_24 hinX7 (by decide +kernel : Cond.fieldLink RX7 147 RX7 (TX7 24).2.1 (TX7 24).2.2.1 ∈ wsX7_endsWell) ms0 dX7_endsWell_56 ?_
        try simp (disch := omega) only [zu_up, zup_in, zup_in0, zput_at, zput_a0, zput_zput, zup_eq, zup_ne, va_up_up, nI_clamp]
        refine aw_iconst (v := 1) dX7_endsWell_59 (by decide) ?_
        refine aw_iadd dX7_endsWell_60 ?_
        refine aw_putI fX7_24 rfl hinX7 (by decide +kernel : Cond.fieldLink RX7 147 RX7 (TX7 24).2.1 (TX7 24).2.2.1 ∈ wsX7_endsWell) ms0 dX7_endsWell_61 ?_
        try simp (disch := omega) only [zu_up, zup_in, zup_in0, zput_at, zput_a0, zput_zput, zup_eq, zup_ne, va_up_up, nI_clamp]
        refine aw_iconst (v := 1) dX7_endsWell_64 (by decide) ?_
        exact aw_zreturn rfl dX7_endsWell_65 ⟨Nat.zero_le _, Nat.zero_le _⟩ (by decide) (by unfold qEndV; first | rw [if_pos c4] | rw [if_neg c4, if_neg c17]) rfl (by unfold qEnd; first | rw [if_pos c4] | (rw [if_neg c4, if_neg c17, if_pos c37]; unfold qSet; simp (disch := omega) only [zup_eq, zup_ne, va_up_up, upd_ne, upd_eq]) | (rw [if_neg c4, if_neg c17, if_neg c37]; unfold qSet; simp (disch := omega) only [zup_eq, zup_ne, va_up_up, upd_ne, upd_eq])) rfl
      · refine aw_aload_0 dX7_endsWell_40 ?_
        refine aw_getI fX7_25 hinX7 (by decide +kernel : Cond.fieldLink RX7 154 RX7 (TX7 25).2.1 (TX7 25).2.2.1 ∈ wsX7_endsWell) ms0 dX7_endsWell_41 ?_
        try simp (disch := omega) only [zu_up, zup_in, zup_in0, zput_at, zput_a0, zput_zput, zup_eq, zup_ne, va_up_up, nI_clamp]
        refine aw_goto (tgt := 51) dX7_endsWell_44 (by decide) ?_
        try simp (disch := omega) only [zu_up, zup_in, zup_in0, zput_at, zput_a0, zput_zput, zup_eq, zup_ne, va_up_up, nI_clamp]
        refine aw_putI fX7_19 rfl hinX7 (by decide +kernel : Cond.fieldLink RX7 163 RX7 (TX7 19).2.1 (TX7 19).2.2.1 ∈ wsX7_endsWell) ms0 dX7_endsWell_51 ?_
        try simp (disch := omega) only [zu_up, zup_in, zup_in0, zput_at, zput_a0, zput_zput, zup_eq, zup_ne, va_up_up, nI_clamp]
        refine aw_aload_0 dX7_endsWell_54 ?_
        refine aw_dup rfl dX7_endsWell_55 ?_
        refine aw_getI fX7_24 hinX7 (by decide +kernel : Cond.fieldLink RX7 147 RX7 (TX7 24).2.1 (TX7 24).2.2.1 ∈ wsX7_endsWell) ms0 dX7_endsWell_56 ?_
        try simp (disch := omega) only [zu_up, zup_in, zup_in0, zput_at, zput_a0, zput_zput, zup_eq, zup_ne, va_up_up, nI_clamp]
        refine aw_iconst (v := 1) dX7_endsWell_59 (by decide) ?_
        refine aw_iadd dX7_endsWell_60 ?_
        refine aw_putI fX7_24 rfl hinX7 (by decide +kernel : Cond.fieldLink RX7 147 RX7 (TX7 24).2.1 (TX7 24).2.2.1 ∈ wsX7_endsWell) ms0 dX7_endsWell_61 ?_
        try simp (disch := omega) only [zu_up, zup_in, zup_in0, zput_at, zput_a0, zput_zput, zup_eq, zup_ne, va_up_up, nI_clamp]
        refine aw_iconst (v := 1) dX7_endsWell_64 (by decide) ?_
        exact aw_zreturn rfl dX7_endsWell_65 ⟨Nat.zero_le _, Nat.zero_le _⟩ (by decide) (by unfold qEndV; first | rw [if_pos c4] | rw [if_neg c4, if_neg c17]) rfl (by unfold qEnd; first | rw [if_pos c4] | (rw [if_neg c4, if_neg c17, if_pos c37]; unfold qSet; simp (disch := omega) only [zup_eq, zup_ne, va_up_up, upd_ne, upd_eq]) | (rw [if_neg c4, if_neg c17, if_neg c37]; unfold qSet; simp (disch := omega) only [zup_eq, zup_ne, va_up_up, upd_ne, upd_eq])) rfl
    · refine aw_aload_0 dX7_endsWell_20 ?_
      refine aw_iconst (v := 2) dX7_endsWell_21 (by decide) ?_
      refine aw_aload_0 dX7_endsWell_22 ?_
      refine aw_getI fX7_27 hinX7 (by decide +kernel : Cond.fieldLink RX7 157 RX7 (TX7 27).2.1 (TX7 27).2.2.1 ∈ wsX7_endsWell) ms0 dX7_endsWell_23 ?_
      try simp (disch := omega) only [zu_up, zup_in, zup_in0, zput_at, zput_a0, zput_zput, zup_eq, zup_ne, va_up_up, nI_clamp]
      refine aw_runv (zRun_V (c_X7_mark hM zVw.put) gX7_endsWell_X7_mark q_X7_mark rfl (by decide) rfl ms0 rfl rfl (Nat.le_of_ble_eq_true rfl) dX7_endsWell_26 ⟨Nat.le_refl _, Nat.le_refl _⟩) ?_
      rw [zput_zput]
      refine aw_iconst (v := 0) dX7_endsWell_29 (by decide) ?_
      exact aw_zreturn rfl dX7_endsWell_30 ⟨Nat.zero_le _, Nat.zero_le _⟩ (by decide) (by unfold qEndV; rw [if_neg c4, if_pos c17]) rfl (by unfold qEnd; rw [if_neg c4, if_pos c17]) rfl

abbrev mX7_readDigit : ZM := (cX7_readDigit, RX7, wsX7_readDigit, 2, 0, 0, none, 2, yX7_readDigit.name)
set_option maxHeartbeats 1000000 in
set_option maxRecDepth 100000 in
theorem c_X7_readDigit {sh : zSh} {F : Nat → Nat → Int32} {P : Nat → Nat → Option Nat} {μ : Nat} {G : Nat → Nat → Int32} {k : Nat} (hM : zMd sh P μ) (hG : zVw F μ 13 G) (hk : k < 60) : zMet yX7_readDigit wsX7_readDigit (2) (0) (0) [.ref μ, .int (nI k)] sh F P (none) sh (zput F μ 13 (qDig G k)) P := by
  refine zMet.of (by decide) rfl (Nat.le_of_ble_eq_true rfl) (by simp [Value.category]) ?_
  intro X ρ
  show AW mX7_readDigit X (zMQ mX7_readDigit X (none) sh (zput F μ 13 (qDig G k)) P) 0 [some (.ref μ), some (.int (nI k))] [] ρ sh F P 0 0
  have hinX7 : ∀ w ∈ u_ws RX7 TX7 29, w ∈ wsX7_readDigit := by decide +kernel
  obtain ⟨ms0, ⟨mp0, mp1, mp3, mp5, mp9, mp10, mp11, mp12, mp13, mp17, mp21, mp28⟩, ms1, ms2, ms3, ms4, ms5, ms6, ms7, ms8, ms9, ms10, ms11, ms12⟩ := id hM
  refine aw_cF (F' := zput F μ 13 G) (zput_view hG).symm ?_
  refine aw_aload_0 dX7_readDigit_0 ?_
  refine aw_getI fX7_24 hinX7 (by decide +kernel : Cond.fieldLink RX7 147 RX7 (TX7 24).2.1 (TX7 24).2.2.1 ∈ wsX7_readDigit) ms0 dX7_readDigit_1 ?_
  refine aw_iconst (v := 1) dX7_readDigit_4 (by decide) ?_
  try simp (disch := omega) only [zu_up, zup_in, zup_in0, zput_at, zput_a0, zput_zput, zup_eq, zup_ne, va_up_up, nI_clamp]
  refine aw_icmp_eq (tgt := 16) dX7_readDigit_5 (by decide) (fun c5 => ?_) (fun c5 => ?_)
  · refine aw_aload_0 dX7_readDigit_16 ?_
    refine aw_dup rfl dX7_readDigit_17 ?_
    refine aw_getI fX7_24 hinX7 (by decide +kernel : Cond.fieldLink RX7 147 RX7 (TX7 24).2.1 (TX7 24).2.2.1 ∈ wsX7_readDigit) ms0 dX7_readDigit_18 ?_
    try simp (disch := omega) only [zu_up, zup_in, zup_in0, zput_at, zput_a0, zput_zput, zup_eq, zup_ne, va_up_up, nI_clamp]
    refine aw_iconst (v := 1) dX7_readDigit_21 (by decide) ?_
    refine aw_iadd dX7_readDigit_22 ?_
    refine aw_putI fX7_24 rfl hinX7 (by decide +kernel : Cond.fieldLink RX7 147 RX7 (TX7 24).2.1 (TX7 24).2.2.1 ∈ wsX7_readDigit) ms0 dX7_readDigit_23 ?_
    try simp (disch := omega) only [zu_up, zup_in, zup_in0, zput_at, zput_a0, zput_zput, zup_eq, zup_ne, va_up_up, nI_clamp]
    refine aw_aload_0 dX7_readDigit_26 ?_
    refine aw_aload_0 dX7_readDigit_27 ?_
    refine aw_getR fX7_5 (fun _ _ => rfl) mp5 hinX7 (by decide +kernel : Cond.fieldLink RX7 19 RX7 (TX7 5).2.1 (TX7 5).2.2.1 ∈ wsX7_readDigit) ms0 dX7_readDigit_28 ?_
    refine aw_iload_1 dX7_readDigit_31 ?_
    refine aw_iaload (by first | exact ms1 | exact ms2 | exact ms3 | exact ms4 | exact ms5 | exact ms6 | exact ms7 | exact ms8 | exact ms9 | exact ms10 | exact ms11 | exact ms12) (vp_in_nI hk (by decide)) dX7_readDigit_32 ?_
    try simp (disch := omega) only [zu_up, zup_in, zup_in0, zput_at, zput_a0, zput_zput, zup_eq, zup_ne, va_up_up, nI_clamp]
    refine aw_bipush (v := 48) dX7_readDigit_33 (by decide) ?_
    refine aw_isub dX7_readDigit_35 ?_
    refine aw_putI fX7_25 rfl hinX7 (by decide +kernel : Cond.fieldLink RX7 154 RX7 (TX7 25).2.1 (TX7 25).2.2.1 ∈ wsX7_readDigit) ms0 dX7_readDigit_36 ?_
    try simp (disch := omega) only [zu_up, zup_in, zup_in0, zput_at, zput_a0, zput_zput, zup_eq, zup_ne, va_up_up, nI_clamp]
    refine aw_aload_0 dX7_readDigit_39 ?_
    refine aw_iconst (v := 1) dX7_readDigit_40 (by decide) ?_
    refine aw_putI fX7_26 rfl hinX7 (by decide +kernel : Cond.fieldLink RX7 166 RX7 (TX7 26).2.1 (TX7 26).2.2.1 ∈ wsX7_readDigit) ms0 dX7_readDigit_41 ?_
    try simp (disch := omega) only [zu_up, zup_in, zup_in0, zput_at, zput_a0, zput_zput, zup_eq, zup_ne, va_up_up, nI_clamp]
    refine aw_aload_0 dX7_readDigit_44 ?_
    refine aw_iload_1 dX7_readDigit_45 ?_
    refine aw_putI fX7_27 rfl hinX7 (by decide +kernel : Cond.fieldLink RX7 157 RX7 (TX7 27).2.1 (TX7 27).2.2.1 ∈ wsX7_readDigit) ms0 dX7_readDigit_46 ?_
    try simp (disch := omega) only [zu_up, zup_in, zup_in0, zput_at, zput_a0, zput_zput, zup_eq, zup_ne, va_up_up, nI_clamp]
    refine aw_goto (tgt := 102) dX7_readDigit_49 (by decide) ?_
    try rw [zput_zput]
    exact aw_return rfl dX7_readDigit_102 ⟨Nat.zero_le _, Nat.zero_le _⟩ rfl rfl (by unfold qDig; first | (rw [if_pos c5]; unfold qDig0 qSet; simp (disch := omega) only [zup_eq, zup_ne, va_up_up, upd_ne, upd_eq]) | (rw [if_neg c5, if_pos c13]; unfold qDig0 qSet; simp (disch := omega) only [zup_eq, zup_ne, va_up_up, upd_ne, upd_eq]) | (rw [if_neg c5, if_neg c13, if_pos c56]; done) | (rw [if_neg c5, if_neg c13, if_neg c56, if_neg c64]; done) | (rw [if_neg c5, if_neg c13, if_neg c56, if_pos c64]; unfold qSet; simp (disch := omega) only [zup_eq, zup_ne, va_up_up, upd_ne, upd_eq])) rfl
  · refine aw_aload_0 dX7_readDigit_8 ?_
    refine aw_getI fX7_24 hinX7 (by decide +kernel : Cond.fieldLink RX7 147 RX7 (TX7 24).2.1 (TX7 24).2.2.1 ∈ wsX7_readDigit) ms0 dX7_readDigit_9 ?_
    refine aw_iconst (v := 4) dX7_readDigit_12 (by decide) ?_
    try simp (disch := omega) only [zu_up, zup_in, zup_in0, zput_at, zput_a0, zput_zput, zup_eq, zup_ne, va_up_up, nI_clamp]
    refine aw_icmp_ne (tgt := 52) dX7_readDigit_13 (by decide) (fun c13 => ?_) (fun c13 => ?_)
    · refine aw_aload_0 dX7_readDigit_52 ?_
      refine aw_run (zRun_V (c_X7_isNumber hM zVw.put) gX7_readDigit_X7_isNumber q_X7_isNumber rfl (by decide) rfl ms0 rfl rfl (Nat.le_of_ble_eq_true rfl) dX7_readDigit_53 ⟨Nat.le_refl _, Nat.le_refl _⟩) ?_
      refine aw_if_eq (tgt := 96) dX7_readDigit_56 (by decide) (fun c56 => ?_) (fun c56 => ?_)
      · refine aw_aload_0 dX7_readDigit_96 ?_
        refine aw_iconst (v := 1) dX7_readDigit_97 (by decide) ?_
        refine aw_iload_1 dX7_readDigit_98 ?_
        refine aw_runv (zRun_V (c_X7_mark hM zVw.put) gX7_readDigit_X7_mark q_X7_mark rfl (by decide) rfl ms0 rfl rfl (Nat.le_of_ble_eq_true rfl) dX7_readDigit_99 ⟨Nat.le_refl _, Nat.le_refl _⟩) ?_
        try rw [zput_zput]
        exact aw_return rfl dX7_readDigit_102 ⟨Nat.zero_le _, Nat.zero_le _⟩ rfl rfl (by unfold qDig; first | (rw [if_pos c5]; unfold qDig0 qSet; simp (disch := omega) only [zup_eq, zup_ne, va_up_up, upd_ne, upd_eq]) | (rw [if_neg c5, if_pos c13]; unfold qDig0 qSet; simp (disch := omega) only [zup_eq, zup_ne, va_up_up, upd_ne, upd_eq]) | (rw [if_neg c5, if_neg c13, if_pos c56]; done) | (rw [if_neg c5, if_neg c13, if_neg c56, if_neg c64]; done) | (rw [if_neg c5, if_neg c13, if_neg c56, if_pos c64]; unfold qSet; simp (disch := omega) only [zup_eq, zup_ne, va_up_up, upd_ne, upd_eq])) rfl
      · refine aw_aload_0 dX7_readDigit_59 ?_
        refine aw_getI fX7_26 hinX7 (by decide +kernel : Cond.fieldLink RX7 166 RX7 (TX7 26).2.1 (TX7 26).2.2.1 ∈ wsX7_readDigit) ms0 dX7_readDigit_60 ?_
        try simp (disch := omega) only [zu_up, zup_in, zup_in0, zput_at, zput_a0, zput_zput, zup_eq, zup_ne, va_up_up, nI_clamp]
        refine aw_iconst (v := 1) dX7_readDigit_63 (by decide) ?_
        refine aw_icmp_ne (tgt := 96) dX7_readDigit_64 (by decide) (fun c64 => ?_) (fun c64 => ?_)
        · refine aw_aload_0 dX7_readDigit_96 ?_
          refine aw_iconst (v := 1) dX7_readDigit_97 (by decide) ?_
          refine aw_iload_1 dX7_readDigit_98 ?_
          refine aw_runv (zRun_V (c_X7_mark hM zVw.put) gX7_readDigit_X7_mark q_X7_mark rfl (by decide) rfl ms0 rfl rfl (Nat.le_of_ble_eq_true rfl) dX7_readDigit_99 ⟨Nat.le_refl _, Nat.le_refl _⟩) ?_
          try rw [zput_zput]
          exact aw_return rfl dX7_readDigit_102 ⟨Nat.zero_le _, Nat.zero_le _⟩ rfl rfl (by unfold qDig; first | (rw [if_pos c5]; unfold qDig0 qSet; simp (disch := omega) only [zup_eq, zup_ne, va_up_up, upd_ne, upd_eq]) | (rw [if_neg c5, if_pos c13]; unfold qDig0 qSet; simp (disch := omega) only [zup_eq, zup_ne, va_up_up, upd_ne, upd_eq]) | (rw [if_neg c5, if_neg c13, if_pos c56]; done) | (rw [if_neg c5, if_neg c13, if_neg c56, if_neg c64]; done) | (rw [if_neg c5, if_neg c13, if_neg c56, if_pos c64]; unfold qSet; simp (disch := omega) only [zup_eq, zup_ne, va_up_up, upd_ne, upd_eq])) rfl
        · refine aw_aload_0 dX7_readDigit_67 ?_
          refine aw_bipush (v := 10) dX7_readDigit_68 (by decide) ?_
          refine aw_aload_0 dX7_readDigit_70 ?_
          refine aw_getI fX7_25 hinX7 (by decide +kernel : Cond.fieldLink RX7 154 RX7 (TX7 25).2.1 (TX7 25).2.2.1 ∈ wsX7_readDigit) ms0 dX7_readDigit_71 ?_
          try simp (disch := omega) only [zu_up, zup_in, zup_in0, zput_at, zput_a0, zput_zput, zup_eq, zup_ne, va_up_up, nI_clamp]
          refine aw_imul dX7_readDigit_74 ?_
          refine aw_aload_0 dX7_readDigit_75 ?_
          refine aw_getR fX7_5 (fun _ _ => rfl) mp5 hinX7 (by decide +kernel : Cond.fieldLink RX7 19 RX7 (TX7 5).2.1 (TX7 5).2.2.1 ∈ wsX7_readDigit) ms0 dX7_readDigit_76 ?_
          refine aw_iload_1 dX7_readDigit_79 ?_
          refine aw_iaload (by first | exact ms1 | exact ms2 | exact ms3 | exact ms4 | exact ms5 | exact ms6 | exact ms7 | exact ms8 | exact ms9 | exact ms10 | exact ms11 | exact ms12) (vp_in_nI hk (by decide)) dX7_readDigit_80 ?_
          try simp (disch := omega) only [zu_up, zup_in, zup_in0, zput_at, zput_a0, zput_zput, zup_eq, zup_ne, va_up_up, nI_clamp]
          refine aw_iadd dX7_readDigit_81 ?_
          refine aw_bipush (v := 48) dX7_readDigit_82 (by decide) ?_
          refine aw_isub dX7_readDigit_84 ?_
          refine aw_putI fX7_25 rfl hinX7 (by decide +kernel : Cond.fieldLink RX7 154 RX7 (TX7 25).2.1 (TX7 25).2.2.1 ∈ wsX7_readDigit) ms0 dX7_readDigit_85 ?_
          try simp (disch := omega) only [zu_up, zup_in, zup_in0, zput_at, zput_a0, zput_zput, zup_eq, zup_ne, va_up_up, nI_clamp]
          refine aw_aload_0 dX7_readDigit_88 ?_
          refine aw_iconst (v := 2) dX7_readDigit_89 (by decide) ?_
          refine aw_putI fX7_26 rfl hinX7 (by decide +kernel : Cond.fieldLink RX7 166 RX7 (TX7 26).2.1 (TX7 26).2.2.1 ∈ wsX7_readDigit) ms0 dX7_readDigit_90 ?_
          try simp (disch := omega) only [zu_up, zup_in, zup_in0, zput_at, zput_a0, zput_zput, zup_eq, zup_ne, va_up_up, nI_clamp]
          refine aw_goto (tgt := 102) dX7_readDigit_93 (by decide) ?_
          try rw [zput_zput]
          exact aw_return rfl dX7_readDigit_102 ⟨Nat.zero_le _, Nat.zero_le _⟩ rfl rfl (by unfold qDig; first | (rw [if_pos c5]; unfold qDig0 qSet; simp (disch := omega) only [zup_eq, zup_ne, va_up_up, upd_ne, upd_eq]) | (rw [if_neg c5, if_pos c13]; unfold qDig0 qSet; simp (disch := omega) only [zup_eq, zup_ne, va_up_up, upd_ne, upd_eq]) | (rw [if_neg c5, if_neg c13, if_pos c56]; done) | (rw [if_neg c5, if_neg c13, if_neg c56, if_neg c64]; done) | (rw [if_neg c5, if_neg c13, if_neg c56, if_pos c64]; unfold qSet; simp (disch := omega) only [zup_eq, zup_ne, va_up_up, upd_ne, upd_eq])) rfl
    · refine aw_aload_0 dX7_readDigit_16 ?_
      refine aw_dup rfl dX7_readDigit_17 ?_
      refine aw_getI fX7_24 hinX7 (by decide +kernel : Cond.fieldLink RX7 147 RX7 (TX7 24).2.1 (TX7 24).2.2.1 ∈ wsX7_readDigit) ms0 dX7_readDigit_18 ?_
      try simp (disch := omega) only [zu_up, zup_in, zup_in0, zput_at, zput_a0, zput_zput, zup_eq, zup_ne, va_up_up, nI_clamp]
      refine aw_iconst (v := 1) dX7_readDigit_21 (by decide) ?_
      refine aw_iadd dX7_readDigit_22 ?_
      refine aw_putI fX7_24 rfl hinX7 (by decide +kernel : Cond.fieldLink RX7 147 RX7 (TX7 24).2.1 (TX7 24).2.2.1 ∈ wsX7_readDigit) ms0 dX7_readDigit_23 ?_
      try simp (disch := omega) only [zu_up, zup_in, zup_in0, zput_at, zput_a0, zput_zput, zup_eq, zup_ne, va_up_up, nI_clamp]
      refine aw_aload_0 dX7_readDigit_26 ?_
      refine aw_aload_0 dX7_readDigit_27 ?_
      refine aw_getR fX7_5 (fun _ _ => rfl) mp5 hinX7 (by decide +kernel : Cond.fieldLink RX7 19 RX7 (TX7 5).2.1 (TX7 5).2.2.1 ∈ wsX7_readDigit) ms0 dX7_readDigit_28 ?_
      refine aw_iload_1 dX7_readDigit_31 ?_
      refine aw_iaload (by first | exact ms1 | exact ms2 | exact ms3 | exact ms4 | exact ms5 | exact ms6 | exact ms7 | exact ms8 | exact ms9 | exact ms10 | exact ms11 | exact ms12) (vp_in_nI hk (by decide)) dX7_readDigit_32 ?_
      try simp (disch := omega) only [zu_up, zup_in, zup_in0, zput_at, zput_a0, zput_zput, zup_eq, zup_ne, va_up_up, nI_clamp]
      refine aw_bipush (v := 48) dX7_readDigit_33 (by decide) ?_
      refine aw_isub dX7_readDigit_35 ?_
      refine aw_putI fX7_25 rfl hinX7 (by decide +kernel : Cond.fieldLink RX7 154 RX7 (TX7 25).2.1 (TX7 25).2.2.1 ∈ wsX7_readDigit) ms0 dX7_readDigit_36 ?_
      try simp (disch := omega) only [zu_up, zup_in, zup_in0, zput_at, zput_a0, zput_zput, zup_eq, zup_ne, va_up_up, nI_clamp]
      refine aw_aload_0 dX7_readDigit_39 ?_
      refine aw_iconst (v := 1) dX7_readDigit_40 (by decide) ?_
      refine aw_putI fX7_26 rfl hinX7 (by decide +kernel : Cond.fieldLink RX7 166 RX7 (TX7 26).2.1 (TX7 26).2.2.1 ∈ wsX7_readDigit) ms0 dX7_readDigit_41 ?_
      try simp (disch := omega) only [zu_up, zup_in, zup_in0, zput_at, zput_a0, zput_zput, zup_eq, zup_ne, va_up_up, nI_clamp]
      refine aw_aload_0 dX7_readDigit_44 ?_
      refine aw_iload_1 dX7_readDigit_45 ?_
      refine aw_putI fX7_27 rfl hinX7 (by decide +kernel : Cond.fieldLink RX7 157 RX7 (TX7 27).2.1 (TX7 27).2.2.1 ∈ wsX7_readDigit) ms0 dX7_readDigit_46 ?_
      try simp (disch := omega) only [zu_up, zup_in, zup_in0, zput_at, zput_a0, zput_zput, zup_eq, zup_ne, va_up_up, nI_clamp]
      refine aw_goto (tgt := 102) dX7_readDigit_49 (by decide) ?_
      try rw [zput_zput]
      exact aw_return rfl dX7_readDigit_102 ⟨Nat.zero_le _, Nat.zero_le _⟩ rfl rfl (by unfold qDig; first | (rw [if_pos c5]; unfold qDig0 qSet; simp (disch := omega) only [zup_eq, zup_ne, va_up_up, upd_ne, upd_eq]) | (rw [if_neg c5, if_pos c13]; unfold qDig0 qSet; simp (disch := omega) only [zup_eq, zup_ne, va_up_up, upd_ne, upd_eq]) | (rw [if_neg c5, if_neg c13, if_pos c56]; done) | (rw [if_neg c5, if_neg c13, if_neg c56, if_neg c64]; done) | (rw [if_neg c5, if_neg c13, if_neg c56, if_pos c64]; unfold qSet; simp (disch := omega) only [zup_eq, zup_ne, va_up_up, upd_ne, upd_eq])) rfl

abbrev mX7_readIngredient : ZM := (cX7_readIngredient, RX7, wsX7_readIngredient, 2, 0, 0, none, 6, yX7_readIngredient.name)
set_option maxHeartbeats 1000000 in
set_option maxRecDepth 100000 in
theorem c_X7_readIngredient {sh : zSh} {F : Nat → Nat → Int32} {P : Nat → Nat → Option Nat} {μ : Nat} {G : Nat → Nat → Int32} {t a z : Int32} {c : Nat} (hM : zMd sh P μ) (hG : zVw F μ 13 G) (hc : c ≤ 5) (h20 : G 0 20 = nI c) : zMet yX7_readIngredient wsX7_readIngredient (2) (0) (0) [.ref μ, .int t, .int a, .int z] sh F P (none) sh (zput F μ 13 (qIng G t a z c)) P := by
  refine zMet.of (by decide) rfl (Nat.le_of_ble_eq_true rfl) (by simp [Value.category]) ?_
  intro X ρ
  show AW mX7_readIngredient X (zMQ mX7_readIngredient X (none) sh (zput F μ 13 (qIng G t a z c)) P) 0 [some (.ref μ), some (.int t), some (.int a), some (.int z), none, none] [] ρ sh F P 0 0
  have hinX7 : ∀ w ∈ u_ws RX7 TX7 29, w ∈ wsX7_readIngredient := by decide +kernel
  obtain ⟨ms0, ⟨mp0, mp1, mp3, mp5, mp9, mp10, mp11, mp12, mp13, mp17, mp21, mp28⟩, ms1, ms2, ms3, ms4, ms5, ms6, ms7, ms8, ms9, ms10, ms11, ms12⟩ := id hM
  refine aw_cF (F' := zput F μ 13 G) (zput_view hG).symm ?_
  have L18 : ∀ (m i : Nat), i ≤ c → c - i = m → AW mX7_readIngredient X (zMQ mX7_readIngredient X (none) sh (zput F μ 13 (qIng G t a z c)) P) 18 [some (.ref μ), some (.int t), some (.int a), some (.int z), some (.int (qThere G t c i)), some (.int (nI i))] [] ρ sh (zput F μ 13 G) P 0 0 := by
    intro m
    induction m using Nat.strongRecOn with
    | _ m ih =>
    intro i hi hm
    refine aw_iload_5 dX7_readIngredient_18 ?_
    refine aw_aload_0 dX7_readIngredient_20 ?_
    refine aw_getI fX7_20 hinX7 (by decide +kernel : Cond.fieldLink RX7 169 RX7 (TX7 20).2.1 (TX7 20).2.2.1 ∈ wsX7_readIngredient) ms0 dX7_readIngredient_21 ?_
    try simp (disch := omega) only [zu_up, zup_in, zup_in0, zput_at, zput_a0, zput_zput, zup_eq, zup_ne, va_up_up, nI_clamp]
    rw [h20]
    refine aw_icmp_ge (tgt := 56) dX7_readIngredient_24 (by decide) (fun c24 => ?_) (fun c24 => ?_)
    · rw [zend hi (by omega) c24]
      refine aw_iload_4 dX7_readIngredient_56 ?_
      refine aw_if_eq (tgt := 68) dX7_readIngredient_58 (by decide) (fun c58 => ?_) (fun c58 => ?_)
      · have hlt5 := qThere_lt hc c58
        refine aw_aload_0 dX7_readIngredient_68 ?_
        refine aw_getR fX7_21 (fun _ _ => rfl) mp21 hinX7 (by decide +kernel : Cond.fieldLink RX7 47 RX7 (TX7 21).2.1 (TX7 21).2.2.1 ∈ wsX7_readIngredient) ms0 dX7_readIngredient_69 ?_
        refine aw_iconst (v := 2) dX7_readIngredient_72 (by decide) ?_
        refine aw_aload_0 dX7_readIngredient_73 ?_
        refine aw_getI fX7_20 hinX7 (by decide +kernel : Cond.fieldLink RX7 169 RX7 (TX7 20).2.1 (TX7 20).2.2.1 ∈ wsX7_readIngredient) ms0 dX7_readIngredient_74 ?_
        try simp (disch := omega) only [zu_up, zup_in, zup_in0, zput_at, zput_a0, zput_zput, zup_eq, zup_ne, va_up_up, nI_clamp]
        rw [h20]
        refine aw_imul dX7_readIngredient_77 ?_
        rw [show (2 : Int32) = nI 2 from rfl, pk_mul]
        refine aw_iload_1 dX7_readIngredient_78 ?_
        refine aw_iastore (by first | exact ms1 | exact ms2 | exact ms3 | exact ms4 | exact ms5 | exact ms6 | exact ms7 | exact ms8 | exact ms9 | exact ms10 | exact ms11 | exact ms12) (vp_in_nI (show 2 * c < 10 by omega) (by decide)) dX7_readIngredient_79 ?_
        simp (disch := omega) only [zu_up, zup_in, zup_in0, zput_at, zput_a0, zput_zput, zup_eq, zup_ne, va_up_up, nI_clamp]
        refine aw_aload_0 dX7_readIngredient_80 ?_
        refine aw_getR fX7_21 (fun _ _ => rfl) mp21 hinX7 (by decide +kernel : Cond.fieldLink RX7 47 RX7 (TX7 21).2.1 (TX7 21).2.2.1 ∈ wsX7_readIngredient) ms0 dX7_readIngredient_81 ?_
        refine aw_iconst (v := 2) dX7_readIngredient_84 (by decide) ?_
        refine aw_aload_0 dX7_readIngredient_85 ?_
        refine aw_getI fX7_20 hinX7 (by decide +kernel : Cond.fieldLink RX7 169 RX7 (TX7 20).2.1 (TX7 20).2.2.1 ∈ wsX7_readIngredient) ms0 dX7_readIngredient_86 ?_
        try simp (disch := omega) only [zu_up, zup_in, zup_in0, zput_at, zput_a0, zput_zput, zup_eq, zup_ne, va_up_up, nI_clamp]
        rw [h20]
        refine aw_imul dX7_readIngredient_89 ?_
        rw [show (2 : Int32) = nI 2 from rfl, pk_mul]
        refine aw_iconst (v := 1) dX7_readIngredient_90 (by decide) ?_
        refine aw_iadd dX7_readIngredient_91 ?_
        rw [nI_1]
        refine aw_iload_2 dX7_readIngredient_92 ?_
        refine aw_iastore (by first | exact ms1 | exact ms2 | exact ms3 | exact ms4 | exact ms5 | exact ms6 | exact ms7 | exact ms8 | exact ms9 | exact ms10 | exact ms11 | exact ms12) (vp_in_nI (show 2 * c + 1 < 10 by omega) (by decide)) dX7_readIngredient_93 ?_
        simp (disch := omega) only [zu_up, zup_in, zup_in0, zput_at, zput_a0, zput_zput, zup_eq, zup_ne, va_up_up, nI_clamp]
        refine aw_aload_0 dX7_readIngredient_94 ?_
        refine aw_dup rfl dX7_readIngredient_95 ?_
        refine aw_getI fX7_20 hinX7 (by decide +kernel : Cond.fieldLink RX7 169 RX7 (TX7 20).2.1 (TX7 20).2.2.1 ∈ wsX7_readIngredient) ms0 dX7_readIngredient_96 ?_
        try simp (disch := omega) only [zu_up, zup_in, zup_in0, zput_at, zput_a0, zput_zput, zup_eq, zup_ne, va_up_up, nI_clamp]
        rw [h20]
        refine aw_iconst (v := 1) dX7_readIngredient_99 (by decide) ?_
        refine aw_iadd dX7_readIngredient_100 ?_
        rw [nI_1]
        refine aw_putI fX7_20 rfl hinX7 (by decide +kernel : Cond.fieldLink RX7 169 RX7 (TX7 20).2.1 (TX7 20).2.2.1 ∈ wsX7_readIngredient) ms0 dX7_readIngredient_101 ?_
        try simp (disch := omega) only [zu_up, zup_in, zup_in0, zput_at, zput_a0, zput_zput, zup_eq, zup_ne, va_up_up, nI_clamp]
        refine aw_aload_0 dX7_readIngredient_104 ?_
        refine aw_bipush (v := 7) dX7_readIngredient_105 (by decide) ?_
        refine aw_putI fX7_24 rfl hinX7 (by decide +kernel : Cond.fieldLink RX7 147 RX7 (TX7 24).2.1 (TX7 24).2.2.1 ∈ wsX7_readIngredient) ms0 dX7_readIngredient_107 ?_
        try simp (disch := omega) only [zu_up, zup_in, zup_in0, zput_at, zput_a0, zput_zput, zup_eq, zup_ne, va_up_up, nI_clamp]
        exact aw_return rfl dX7_readIngredient_110 ⟨Nat.zero_le _, Nat.zero_le _⟩ rfl rfl (by unfold qIng qIng1; rw [if_pos c58]; unfold qSet; simp (disch := omega) only [zup_eq, zup_ne, va_up_up, upd_ne, upd_eq]) rfl
      · refine aw_aload_0 dX7_readIngredient_61 ?_
        refine aw_iconst (v := 3) dX7_readIngredient_62 (by decide) ?_
        refine aw_iload_3 dX7_readIngredient_63 ?_
        refine aw_runv (zRun_V (c_X7_mark hM zVw.put) gX7_readIngredient_X7_mark q_X7_mark rfl (by decide) rfl ms0 rfl rfl (Nat.le_of_ble_eq_true rfl) dX7_readIngredient_64 ⟨Nat.le_refl _, Nat.le_refl _⟩) ?_
        rw [zput_zput]
        exact aw_return rfl dX7_readIngredient_67 ⟨Nat.zero_le _, Nat.zero_le _⟩ rfl rfl (by unfold qIng; rw [if_neg c58]) rfl
    · have hlt : i < c := zlt hi (by omega) c24
      refine aw_iload_4 dX7_readIngredient_27 ?_
      refine aw_aload_0 dX7_readIngredient_29 ?_
      refine aw_getR fX7_21 (fun _ _ => rfl) mp21 hinX7 (by decide +kernel : Cond.fieldLink RX7 47 RX7 (TX7 21).2.1 (TX7 21).2.2.1 ∈ wsX7_readIngredient) ms0 dX7_readIngredient_30 ?_
      refine aw_iconst (v := 2) dX7_readIngredient_33 (by decide) ?_
      refine aw_iload_5 dX7_readIngredient_34 ?_
      refine aw_imul dX7_readIngredient_36 ?_
      rw [show (2 : Int32) = nI 2 from rfl, pk_mul]
      refine aw_iaload (by first | exact ms1 | exact ms2 | exact ms3 | exact ms4 | exact ms5 | exact ms6 | exact ms7 | exact ms8 | exact ms9 | exact ms10 | exact ms11 | exact ms12) (vp_in_nI (show 2 * i < 10 by omega) (by decide)) dX7_readIngredient_37 ?_
      try simp (disch := omega) only [zu_up, zup_in, zup_in0, zput_at, zput_a0, zput_zput, zup_eq, zup_ne, va_up_up, nI_clamp]
      refine aw_iload_1 dX7_readIngredient_38 ?_
      refine aw_icmp_ne (tgt := 46) dX7_readIngredient_39 (by decide) (fun c39 => ?_) (fun c39 => ?_)
      · refine aw_iconst (v := 0) dX7_readIngredient_46 (by decide) ?_
        refine aw_top (x' := if G 11 (2 * i) = t then 1 else 0) (by first | exact if_pos c39 | exact if_neg c39) ?_
        refine aw_ior dX7_readIngredient_47 ?_
        rw [show qThere G t c i ||| (if G 11 (2 * i) = t then 1 else 0) = qThere G t c (i + 1) from rfl]
        refine aw_istore_4 dX7_readIngredient_48 ?_
        refine aw_iinc_5 (v := 1) (by decide) dX7_readIngredient_50 ?_
        refine aw_goto (tgt := 18) dX7_readIngredient_53 (by decide) ?_
        rw [nI_1]
        exact ih (c - (i + 1)) (by omega) (i + 1) (by omega) rfl
      · refine aw_iconst (v := 1) dX7_readIngredient_42 (by decide) ?_
        refine aw_goto (tgt := 47) dX7_readIngredient_43 (by decide) ?_
        refine aw_top (x' := if G 11 (2 * i) = t then 1 else 0) (by first | exact if_pos c39 | exact if_neg c39) ?_
        refine aw_ior dX7_readIngredient_47 ?_
        rw [show qThere G t c i ||| (if G 11 (2 * i) = t then 1 else 0) = qThere G t c (i + 1) from rfl]
        refine aw_istore_4 dX7_readIngredient_48 ?_
        refine aw_iinc_5 (v := 1) (by decide) dX7_readIngredient_50 ?_
        refine aw_goto (tgt := 18) dX7_readIngredient_53 (by decide) ?_
        rw [nI_1]
        exact ih (c - (i + 1)) (by omega) (i + 1) (by omega) rfl
  refine aw_aload_0 dX7_readIngredient_0 ?_
  refine aw_getI fX7_20 hinX7 (by decide +kernel : Cond.fieldLink RX7 169 RX7 (TX7 20).2.1 (TX7 20).2.2.1 ∈ wsX7_readIngredient) ms0 dX7_readIngredient_1 ?_
  refine aw_iconst (v := 5) dX7_readIngredient_4 (by decide) ?_
  try simp (disch := omega) only [zu_up, zup_in, zup_in0, zput_at, zput_a0, zput_zput, zup_eq, zup_ne, va_up_up, nI_clamp]
  rw [h20]
  refine aw_icmp_ne (tgt := 12) dX7_readIngredient_5 (by decide) (fun c5 => ?_) (fun c5 => ?_)
  · refine aw_iconst (v := 0) dX7_readIngredient_12 (by decide) ?_
    refine aw_top (x' := qThere G t c 0) (by show (if nI c = 5 then (1 : Int32) else 0) = _; first | exact if_pos c5 | exact if_neg c5) ?_
    refine aw_istore_4 dX7_readIngredient_13 ?_
    refine aw_iconst (v := 0) dX7_readIngredient_15 (by decide) ?_
    refine aw_istore_5 dX7_readIngredient_16 ?_
    exact L18 _ 0 (Nat.zero_le _) rfl
  · refine aw_iconst (v := 1) dX7_readIngredient_8 (by decide) ?_
    refine aw_goto (tgt := 13) dX7_readIngredient_9 (by decide) ?_
    refine aw_top (x' := qThere G t c 0) (by show (if nI c = 5 then (1 : Int32) else 0) = _; first | exact if_pos c5 | exact if_neg c5) ?_
    refine aw_istore_4 dX7_readIngredient_13 ?_
    refine aw_iconst (v := 0) dX7_readIngredient_15 (by decide) ?_
    refine aw_istore_5 dX7_readIngredient_16 ?_
    exact L18 _ 0 (Nat.zero_le _) rfl

abbrev mX7_readOther : ZM := (cX7_readOther, RX7, wsX7_readOther, 3, 0, 0, none, 4, yX7_readOther.name)
set_option maxHeartbeats 1000000 in
set_option maxRecDepth 100000 in
theorem c_X7_readOther {sh : zSh} {F : Nat → Nat → Int32} {P : Nat → Nat → Option Nat} {μ : Nat} {G : Nat → Nat → Int32} {k c : Nat} (hM : zMd sh P μ) (hG : zVw F μ 13 G) (hk : k < 60) (hc : c ≤ 5) (h20 : G 0 20 = nI c) : zMet yX7_readOther wsX7_readOther (3) (0) (0) [.ref μ, .int (nI k)] sh F P (none) sh (zput F μ 13 (qOth G k c)) P := by
  refine zMet.of (by decide) rfl (Nat.le_of_ble_eq_true rfl) (by simp [Value.category]) ?_
  intro X ρ
  show AW mX7_readOther X (zMQ mX7_readOther X (none) sh (zput F μ 13 (qOth G k c)) P) 0 [some (.ref μ), some (.int (nI k)), none, none] [] ρ sh F P 0 0
  have hinX7 : ∀ w ∈ u_ws RX7 TX7 29, w ∈ wsX7_readOther := by decide +kernel
  obtain ⟨ms0, ⟨mp0, mp1, mp3, mp5, mp9, mp10, mp11, mp12, mp13, mp17, mp21, mp28⟩, ms1, ms2, ms3, ms4, ms5, ms6, ms7, ms8, ms9, ms10, ms11, ms12⟩ := id hM
  have e4 : qEnd G 4 = G 4 := qEnd_j (by decide)
  have eL : qLet (qEnd G) k = qLet G k := by unfold qLet; rw [e4]
  refine aw_cF (F' := zput F μ 13 G) (zput_view hG).symm ?_
  have L137 : zBox (qOth G k c = qO3 (qEnd G) k) → AW mX7_readOther X (zMQ mX7_readOther X (none) sh (zput F μ 13 (qOth G k c)) P) 137 [some (.ref μ), some (.int (nI k)), some (.int (G 4 k)), some (.int (qLet G k))] [] ρ sh (zput F μ 13 (qEnd G)) P 0 0 := by
    intro hq
    refine aw_aload_0 dX7_readOther_137 ?_
    refine aw_getI fX7_24 hinX7 (by decide +kernel : Cond.fieldLink RX7 147 RX7 (TX7 24).2.1 (TX7 24).2.2.1 ∈ wsX7_readOther) ms0 dX7_readOther_138 ?_
    refine aw_bipush (v := 7) dX7_readOther_141 (by decide) ?_
    try simp (disch := omega) only [zu_up, zup_in, zup_in0, zput_at, zput_a0, zput_zput, zup_eq, zup_ne, va_up_up, nI_clamp]
    refine aw_icmp_ne (tgt := 160) dX7_readOther_143 (by decide) (fun c143 => ?_) (fun c143 => ?_)
    · refine aw_aload_0 dX7_readOther_160 ?_
      refine aw_iconst (v := 1) dX7_readOther_161 (by decide) ?_
      refine aw_iload_1 dX7_readOther_162 ?_
      refine aw_runv (zRun_V (c_X7_mark hM zVw.put) gX7_readOther_X7_mark q_X7_mark rfl (by decide) rfl ms0 rfl rfl (Nat.le_of_ble_eq_true rfl) dX7_readOther_163 ⟨Nat.le_refl _, Nat.le_refl _⟩) ?_
      try rw [zput_zput]
      exact aw_return rfl dX7_readOther_166 ⟨Nat.zero_le _, Nat.zero_le _⟩ rfl rfl (by first | (rw [hq.out]; unfold qO3; rw [e4]; first | (rw [if_neg c143]; done) | (rw [if_pos c143, if_neg c149]; done) | (rw [if_pos c143, if_pos c149]; unfold qSet; simp (disch := omega) only [zup_eq, zup_ne, va_up_up, upd_ne, upd_eq])) | (rw [hq.out]; unfold qO2; rw [eL, e4]; first | (rw [if_pos c92, if_neg c105]; first | done | exact absurd (c92.symm.trans c119) (by decide)) | (rw [if_neg c92, if_pos c101, if_neg c105]; first | done | exact absurd c101 c119)) | (rw [hq.out]; unfold qO1; rw [e4]; first | (rw [if_pos c62, if_pos c76]; unfold qSet; simp (disch := omega) only [zup_eq, zup_ne, va_up_up, upd_ne, upd_eq]) | (rw [if_neg c62, if_pos c70, if_pos c76]; unfold qSet; simp (disch := omega) only [zup_eq, zup_ne, va_up_up, upd_ne, upd_eq])) | (unfold qOth qO0; rw [if_neg c11, if_neg c17, eL, if_pos c34, if_neg c38, e4]; unfold qSet; simp (disch := omega) only [zup_eq, zup_ne, va_up_up, upd_ne, upd_eq])) rfl
    · refine aw_iload_2 dX7_readOther_146 ?_
      refine aw_bipush (v := 43) dX7_readOther_147 (by decide) ?_
      refine aw_icmp_ne (tgt := 160) dX7_readOther_149 (by decide) (fun c149 => ?_) (fun c149 => ?_)
      · refine aw_aload_0 dX7_readOther_160 ?_
        refine aw_iconst (v := 1) dX7_readOther_161 (by decide) ?_
        refine aw_iload_1 dX7_readOther_162 ?_
        refine aw_runv (zRun_V (c_X7_mark hM zVw.put) gX7_readOther_X7_mark q_X7_mark rfl (by decide) rfl ms0 rfl rfl (Nat.le_of_ble_eq_true rfl) dX7_readOther_163 ⟨Nat.le_refl _, Nat.le_refl _⟩) ?_
        try rw [zput_zput]
        exact aw_return rfl dX7_readOther_166 ⟨Nat.zero_le _, Nat.zero_le _⟩ rfl rfl (by first | (rw [hq.out]; unfold qO3; rw [e4]; first | (rw [if_neg c143]; done) | (rw [if_pos c143, if_neg c149]; done) | (rw [if_pos c143, if_pos c149]; unfold qSet; simp (disch := omega) only [zup_eq, zup_ne, va_up_up, upd_ne, upd_eq])) | (rw [hq.out]; unfold qO2; rw [eL, e4]; first | (rw [if_pos c92, if_neg c105]; first | done | exact absurd (c92.symm.trans c119) (by decide)) | (rw [if_neg c92, if_pos c101, if_neg c105]; first | done | exact absurd c101 c119)) | (rw [hq.out]; unfold qO1; rw [e4]; first | (rw [if_pos c62, if_pos c76]; unfold qSet; simp (disch := omega) only [zup_eq, zup_ne, va_up_up, upd_ne, upd_eq]) | (rw [if_neg c62, if_pos c70, if_pos c76]; unfold qSet; simp (disch := omega) only [zup_eq, zup_ne, va_up_up, upd_ne, upd_eq])) | (unfold qOth qO0; rw [if_neg c11, if_neg c17, eL, if_pos c34, if_neg c38, e4]; unfold qSet; simp (disch := omega) only [zup_eq, zup_ne, va_up_up, upd_ne, upd_eq])) rfl
      · refine aw_aload_0 dX7_readOther_152 ?_
        refine aw_iconst (v := 4) dX7_readOther_153 (by decide) ?_
        refine aw_putI fX7_24 rfl hinX7 (by decide +kernel : Cond.fieldLink RX7 147 RX7 (TX7 24).2.1 (TX7 24).2.2.1 ∈ wsX7_readOther) ms0 dX7_readOther_154 ?_
        try simp (disch := omega) only [zu_up, zup_in, zup_in0, zput_at, zput_a0, zput_zput, zup_eq, zup_ne, va_up_up, nI_clamp]
        refine aw_goto (tgt := 166) dX7_readOther_157 (by decide) ?_
        try rw [zput_zput]
        exact aw_return rfl dX7_readOther_166 ⟨Nat.zero_le _, Nat.zero_le _⟩ rfl rfl (by first | (rw [hq.out]; unfold qO3; rw [e4]; first | (rw [if_neg c143]; done) | (rw [if_pos c143, if_neg c149]; done) | (rw [if_pos c143, if_pos c149]; unfold qSet; simp (disch := omega) only [zup_eq, zup_ne, va_up_up, upd_ne, upd_eq])) | (rw [hq.out]; unfold qO2; rw [eL, e4]; first | (rw [if_pos c92, if_neg c105]; first | done | exact absurd (c92.symm.trans c119) (by decide)) | (rw [if_neg c92, if_pos c101, if_neg c105]; first | done | exact absurd c101 c119)) | (rw [hq.out]; unfold qO1; rw [e4]; first | (rw [if_pos c62, if_pos c76]; unfold qSet; simp (disch := omega) only [zup_eq, zup_ne, va_up_up, upd_ne, upd_eq]) | (rw [if_neg c62, if_pos c70, if_pos c76]; unfold qSet; simp (disch := omega) only [zup_eq, zup_ne, va_up_up, upd_ne, upd_eq])) | (unfold qOth qO0; rw [if_neg c11, if_neg c17, eL, if_pos c34, if_neg c38, e4]; unfold qSet; simp (disch := omega) only [zup_eq, zup_ne, va_up_up, upd_ne, upd_eq])) rfl
  have L87 : zBox (qOth G k c = qO2 (qEnd G) k c) → AW mX7_readOther X (zMQ mX7_readOther X (none) sh (zput F μ 13 (qOth G k c)) P) 87 [some (.ref μ), some (.int (nI k)), some (.int (G 4 k)), some (.int (qLet G k))] [] ρ sh (zput F μ 13 (qEnd G)) P 0 0 := by
    intro hq
    refine aw_aload_0 dX7_readOther_87 ?_
    refine aw_getI fX7_24 hinX7 (by decide +kernel : Cond.fieldLink RX7 147 RX7 (TX7 24).2.1 (TX7 24).2.2.1 ∈ wsX7_readOther) ms0 dX7_readOther_88 ?_
    refine aw_iconst (v := 4) dX7_readOther_91 (by decide) ?_
    try simp (disch := omega) only [zu_up, zup_in, zup_in0, zput_at, zput_a0, zput_zput, zup_eq, zup_ne, va_up_up, nI_clamp]
    refine aw_icmp_eq (tgt := 104) dX7_readOther_92 (by decide) (fun c92 => ?_) (fun c92 => ?_)
    · refine aw_iload_3 dX7_readOther_104 ?_
      refine aw_if_eq (tgt := 137) dX7_readOther_105 (by decide) (fun c105 => ?_) (fun c105 => ?_)
      · exact L137 (zBox.mk (hq.out.trans (by unfold qO2; rw [eL]; first | rw [if_pos c92, if_pos c105] | rw [if_neg c92, if_pos c101, if_pos c105] | rw [if_neg c92, if_neg c101])))
      · refine aw_aload_0 dX7_readOther_108 ?_
        refine aw_iload_2 dX7_readOther_109 ?_
        refine aw_bipush (v := 97) dX7_readOther_110 (by decide) ?_
        refine aw_isub dX7_readOther_112 ?_
        refine aw_aload_0 dX7_readOther_113 ?_
        refine aw_getI fX7_24 hinX7 (by decide +kernel : Cond.fieldLink RX7 147 RX7 (TX7 24).2.1 (TX7 24).2.2.1 ∈ wsX7_readOther) ms0 dX7_readOther_114 ?_
        refine aw_bipush (v := 6) dX7_readOther_117 (by decide) ?_
        try simp (disch := omega) only [zu_up, zup_in, zup_in0, zput_at, zput_a0, zput_zput, zup_eq, zup_ne, va_up_up, nI_clamp]
        refine aw_icmp_ne (tgt := 129) dX7_readOther_119 (by decide) (fun c119 => ?_) (fun c119 => ?_)
        · refine aw_iconst (v := 1) dX7_readOther_129 (by decide) ?_
          refine aw_iload_1 dX7_readOther_130 ?_
          refine aw_runv (zRun_V (c_X7_readIngredient (G := qEnd G) (c := c) hM zVw.put hc (by rw [qEnd_n (by decide)]; exact h20)) gX7_readOther_X7_readIngredient q_X7_readIngredient rfl (by decide) rfl ms0 rfl rfl (Nat.le_of_ble_eq_true rfl) dX7_readOther_131 ⟨Nat.le_refl _, Nat.le_refl _⟩) ?_
          rw [zput_zput]
          refine aw_goto (tgt := 166) dX7_readOther_134 (by decide) ?_
          try rw [zput_zput]
          exact aw_return rfl dX7_readOther_166 ⟨Nat.zero_le _, Nat.zero_le _⟩ rfl rfl (by first | (rw [hq.out]; unfold qO3; rw [e4]; first | (rw [if_neg c143]; done) | (rw [if_pos c143, if_neg c149]; done) | (rw [if_pos c143, if_pos c149]; unfold qSet; simp (disch := omega) only [zup_eq, zup_ne, va_up_up, upd_ne, upd_eq])) | (rw [hq.out]; unfold qO2; rw [eL, e4]; first | (rw [if_pos c92, if_neg c105]; first | done | exact absurd (c92.symm.trans c119) (by decide)) | (rw [if_neg c92, if_pos c101, if_neg c105]; first | done | exact absurd c101 c119)) | (rw [hq.out]; unfold qO1; rw [e4]; first | (rw [if_pos c62, if_pos c76]; unfold qSet; simp (disch := omega) only [zup_eq, zup_ne, va_up_up, upd_ne, upd_eq]) | (rw [if_neg c62, if_pos c70, if_pos c76]; unfold qSet; simp (disch := omega) only [zup_eq, zup_ne, va_up_up, upd_ne, upd_eq])) | (unfold qOth qO0; rw [if_neg c11, if_neg c17, eL, if_pos c34, if_neg c38, e4]; unfold qSet; simp (disch := omega) only [zup_eq, zup_ne, va_up_up, upd_ne, upd_eq])) rfl
        · refine aw_aload_0 dX7_readOther_122 ?_
          refine aw_getI fX7_25 hinX7 (by decide +kernel : Cond.fieldLink RX7 154 RX7 (TX7 25).2.1 (TX7 25).2.2.1 ∈ wsX7_readOther) ms0 dX7_readOther_123 ?_
          try simp (disch := omega) only [zu_up, zup_in, zup_in0, zput_at, zput_a0, zput_zput, zup_eq, zup_ne, va_up_up, nI_clamp]
          refine aw_goto (tgt := 130) dX7_readOther_126 (by decide) ?_
          refine aw_iload_1 dX7_readOther_130 ?_
          refine aw_runv (zRun_V (c_X7_readIngredient (G := qEnd G) (c := c) hM zVw.put hc (by rw [qEnd_n (by decide)]; exact h20)) gX7_readOther_X7_readIngredient q_X7_readIngredient rfl (by decide) rfl ms0 rfl rfl (Nat.le_of_ble_eq_true rfl) dX7_readOther_131 ⟨Nat.le_refl _, Nat.le_refl _⟩) ?_
          rw [zput_zput]
          refine aw_goto (tgt := 166) dX7_readOther_134 (by decide) ?_
          try rw [zput_zput]
          exact aw_return rfl dX7_readOther_166 ⟨Nat.zero_le _, Nat.zero_le _⟩ rfl rfl (by first | (rw [hq.out]; unfold qO3; rw [e4]; first | (rw [if_neg c143]; done) | (rw [if_pos c143, if_neg c149]; done) | (rw [if_pos c143, if_pos c149]; unfold qSet; simp (disch := omega) only [zup_eq, zup_ne, va_up_up, upd_ne, upd_eq])) | (rw [hq.out]; unfold qO2; rw [eL, e4]; first | (rw [if_pos c92, if_neg c105]; first | done | exact absurd (c92.symm.trans c119) (by decide)) | (rw [if_neg c92, if_pos c101, if_neg c105]; first | done | exact absurd c101 c119)) | (rw [hq.out]; unfold qO1; rw [e4]; first | (rw [if_pos c62, if_pos c76]; unfold qSet; simp (disch := omega) only [zup_eq, zup_ne, va_up_up, upd_ne, upd_eq]) | (rw [if_neg c62, if_pos c70, if_pos c76]; unfold qSet; simp (disch := omega) only [zup_eq, zup_ne, va_up_up, upd_ne, upd_eq])) | (unfold qOth qO0; rw [if_neg c11, if_neg c17, eL, if_pos c34, if_neg c38, e4]; unfold qSet; simp (disch := omega) only [zup_eq, zup_ne, va_up_up, upd_ne, upd_eq])) rfl
    · refine aw_aload_0 dX7_readOther_95 ?_
      refine aw_getI fX7_24 hinX7 (by decide +kernel : Cond.fieldLink RX7 147 RX7 (TX7 24).2.1 (TX7 24).2.2.1 ∈ wsX7_readOther) ms0 dX7_readOther_96 ?_
      refine aw_bipush (v := 6) dX7_readOther_99 (by decide) ?_
      try simp (disch := omega) only [zu_up, zup_in, zup_in0, zput_at, zput_a0, zput_zput, zup_eq, zup_ne, va_up_up, nI_clamp]
      refine aw_icmp_ne (tgt := 137) dX7_readOther_101 (by decide) (fun c101 => ?_) (fun c101 => ?_)
      · exact L137 (zBox.mk (hq.out.trans (by unfold qO2; rw [eL]; first | rw [if_pos c92, if_pos c105] | rw [if_neg c92, if_pos c101, if_pos c105] | rw [if_neg c92, if_neg c101])))
      · refine aw_iload_3 dX7_readOther_104 ?_
        refine aw_if_eq (tgt := 137) dX7_readOther_105 (by decide) (fun c105 => ?_) (fun c105 => ?_)
        · exact L137 (zBox.mk (hq.out.trans (by unfold qO2; rw [eL]; first | rw [if_pos c92, if_pos c105] | rw [if_neg c92, if_pos c101, if_pos c105] | rw [if_neg c92, if_neg c101])))
        · refine aw_aload_0 dX7_readOther_108 ?_
          refine aw_iload_2 dX7_readOther_109 ?_
          refine aw_bipush (v := 97) dX7_readOther_110 (by decide) ?_
          refine aw_isub dX7_readOther_112 ?_
          refine aw_aload_0 dX7_readOther_113 ?_
          refine aw_getI fX7_24 hinX7 (by decide +kernel : Cond.fieldLink RX7 147 RX7 (TX7 24).2.1 (TX7 24).2.2.1 ∈ wsX7_readOther) ms0 dX7_readOther_114 ?_
          refine aw_bipush (v := 6) dX7_readOther_117 (by decide) ?_
          try simp (disch := omega) only [zu_up, zup_in, zup_in0, zput_at, zput_a0, zput_zput, zup_eq, zup_ne, va_up_up, nI_clamp]
          refine aw_icmp_ne (tgt := 129) dX7_readOther_119 (by decide) (fun c119 => ?_) (fun c119 => ?_)
          · refine aw_iconst (v := 1) dX7_readOther_129 (by decide) ?_
            refine aw_iload_1 dX7_readOther_130 ?_
            refine aw_runv (zRun_V (c_X7_readIngredient (G := qEnd G) (c := c) hM zVw.put hc (by rw [qEnd_n (by decide)]; exact h20)) gX7_readOther_X7_readIngredient q_X7_readIngredient rfl (by decide) rfl ms0 rfl rfl (Nat.le_of_ble_eq_true rfl) dX7_readOther_131 ⟨Nat.le_refl _, Nat.le_refl _⟩) ?_
            rw [zput_zput]
            refine aw_goto (tgt := 166) dX7_readOther_134 (by decide) ?_
            try rw [zput_zput]
            exact aw_return rfl dX7_readOther_166 ⟨Nat.zero_le _, Nat.zero_le _⟩ rfl rfl (by first | (rw [hq.out]; unfold qO3; rw [e4]; first | (rw [if_neg c143]; done) | (rw [if_pos c143, if_neg c149]; done) | (rw [if_pos c143, if_pos c149]; unfold qSet; simp (disch := omega) only [zup_eq, zup_ne, va_up_up, upd_ne, upd_eq])) | (rw [hq.out]; unfold qO2; rw [eL, e4]; first | (rw [if_pos c92, if_neg c105]; first | done | exact absurd (c92.symm.trans c119) (by decide)) | (rw [if_neg c92, if_pos c101, if_neg c105]; first | done | exact absurd c101 c119)) | (rw [hq.out]; unfold qO1; rw [e4]; first | (rw [if_pos c62, if_pos c76]; unfold qSet; simp (disch := omega) only [zup_eq, zup_ne, va_up_up, upd_ne, upd_eq]) | (rw [if_neg c62, if_pos c70, if_pos c76]; unfold qSet; simp (disch := omega) only [zup_eq, zup_ne, va_up_up, upd_ne, upd_eq])) | (unfold qOth qO0; rw [if_neg c11, if_neg c17, eL, if_pos c34, if_neg c38, e4]; unfold qSet; simp (disch := omega) only [zup_eq, zup_ne, va_up_up, upd_ne, upd_eq])) rfl
          · refine aw_aload_0 dX7_readOther_122 ?_
            refine aw_getI fX7_25 hinX7 (by decide +kernel : Cond.fieldLink RX7 154 RX7 (TX7 25).2.1 (TX7 25).2.2.1 ∈ wsX7_readOther) ms0 dX7_readOther_123 ?_
            try simp (disch := omega) only [zu_up, zup_in, zup_in0, zput_at, zput_a0, zput_zput, zup_eq, zup_ne, va_up_up, nI_clamp]
            refine aw_goto (tgt := 130) dX7_readOther_126 (by decide) ?_
            refine aw_iload_1 dX7_readOther_130 ?_
            refine aw_runv (zRun_V (c_X7_readIngredient (G := qEnd G) (c := c) hM zVw.put hc (by rw [qEnd_n (by decide)]; exact h20)) gX7_readOther_X7_readIngredient q_X7_readIngredient rfl (by decide) rfl ms0 rfl rfl (Nat.le_of_ble_eq_true rfl) dX7_readOther_131 ⟨Nat.le_refl _, Nat.le_refl _⟩) ?_
            rw [zput_zput]
            refine aw_goto (tgt := 166) dX7_readOther_134 (by decide) ?_
            try rw [zput_zput]
            exact aw_return rfl dX7_readOther_166 ⟨Nat.zero_le _, Nat.zero_le _⟩ rfl rfl (by first | (rw [hq.out]; unfold qO3; rw [e4]; first | (rw [if_neg c143]; done) | (rw [if_pos c143, if_neg c149]; done) | (rw [if_pos c143, if_pos c149]; unfold qSet; simp (disch := omega) only [zup_eq, zup_ne, va_up_up, upd_ne, upd_eq])) | (rw [hq.out]; unfold qO2; rw [eL, e4]; first | (rw [if_pos c92, if_neg c105]; first | done | exact absurd (c92.symm.trans c119) (by decide)) | (rw [if_neg c92, if_pos c101, if_neg c105]; first | done | exact absurd c101 c119)) | (rw [hq.out]; unfold qO1; rw [e4]; first | (rw [if_pos c62, if_pos c76]; unfold qSet; simp (disch := omega) only [zup_eq, zup_ne, va_up_up, upd_ne, upd_eq]) | (rw [if_neg c62, if_pos c70, if_pos c76]; unfold qSet; simp (disch := omega) only [zup_eq, zup_ne, va_up_up, upd_ne, upd_eq])) | (unfold qOth qO0; rw [if_neg c11, if_neg c17, eL, if_pos c34, if_neg c38, e4]; unfold qSet; simp (disch := omega) only [zup_eq, zup_ne, va_up_up, upd_ne, upd_eq])) rfl
  have L57 : zBox (qOth G k c = qO1 (qEnd G) k c) → AW mX7_readOther X (zMQ mX7_readOther X (none) sh (zput F μ 13 (qOth G k c)) P) 57 [some (.ref μ), some (.int (nI k)), some (.int (G 4 k)), some (.int (qLet G k))] [] ρ sh (zput F μ 13 (qEnd G)) P 0 0 := by
    intro hq
    refine aw_aload_0 dX7_readOther_57 ?_
    refine aw_getI fX7_24 hinX7 (by decide +kernel : Cond.fieldLink RX7 147 RX7 (TX7 24).2.1 (TX7 24).2.2.1 ∈ wsX7_readOther) ms0 dX7_readOther_58 ?_
    refine aw_iconst (v := 1) dX7_readOther_61 (by decide) ?_
    try simp (disch := omega) only [zu_up, zup_in, zup_in0, zput_at, zput_a0, zput_zput, zup_eq, zup_ne, va_up_up, nI_clamp]
    refine aw_icmp_eq (tgt := 73) dX7_readOther_62 (by decide) (fun c62 => ?_) (fun c62 => ?_)
    · refine aw_iload_2 dX7_readOther_73 ?_
      refine aw_bipush (v := 61) dX7_readOther_74 (by decide) ?_
      refine aw_icmp_ne (tgt := 87) dX7_readOther_76 (by decide) (fun c76 => ?_) (fun c76 => ?_)
      · exact L87 (zBox.mk (hq.out.trans (by unfold qO1; rw [e4]; first | rw [if_pos c62, if_neg c76] | rw [if_neg c62, if_pos c70, if_neg c76] | rw [if_neg c62, if_neg c70])))
      · refine aw_aload_0 dX7_readOther_79 ?_
        refine aw_iconst (v := 4) dX7_readOther_80 (by decide) ?_
        refine aw_putI fX7_24 rfl hinX7 (by decide +kernel : Cond.fieldLink RX7 147 RX7 (TX7 24).2.1 (TX7 24).2.2.1 ∈ wsX7_readOther) ms0 dX7_readOther_81 ?_
        try simp (disch := omega) only [zu_up, zup_in, zup_in0, zput_at, zput_a0, zput_zput, zup_eq, zup_ne, va_up_up, nI_clamp]
        refine aw_goto (tgt := 166) dX7_readOther_84 (by decide) ?_
        try rw [zput_zput]
        exact aw_return rfl dX7_readOther_166 ⟨Nat.zero_le _, Nat.zero_le _⟩ rfl rfl (by first | (rw [hq.out]; unfold qO3; rw [e4]; first | (rw [if_neg c143]; done) | (rw [if_pos c143, if_neg c149]; done) | (rw [if_pos c143, if_pos c149]; unfold qSet; simp (disch := omega) only [zup_eq, zup_ne, va_up_up, upd_ne, upd_eq])) | (rw [hq.out]; unfold qO2; rw [eL, e4]; first | (rw [if_pos c92, if_neg c105]; first | done | exact absurd (c92.symm.trans c119) (by decide)) | (rw [if_neg c92, if_pos c101, if_neg c105]; first | done | exact absurd c101 c119)) | (rw [hq.out]; unfold qO1; rw [e4]; first | (rw [if_pos c62, if_pos c76]; unfold qSet; simp (disch := omega) only [zup_eq, zup_ne, va_up_up, upd_ne, upd_eq]) | (rw [if_neg c62, if_pos c70, if_pos c76]; unfold qSet; simp (disch := omega) only [zup_eq, zup_ne, va_up_up, upd_ne, upd_eq])) | (unfold qOth qO0; rw [if_neg c11, if_neg c17, eL, if_pos c34, if_neg c38, e4]; unfold qSet; simp (disch := omega) only [zup_eq, zup_ne, va_up_up, upd_ne, upd_eq])) rfl
    · refine aw_aload_0 dX7_readOther_65 ?_
      refine aw_getI fX7_24 hinX7 (by decide +kernel : Cond.fieldLink RX7 147 RX7 (TX7 24).2.1 (TX7 24).2.2.1 ∈ wsX7_readOther) ms0 dX7_readOther_66 ?_
      refine aw_iconst (v := 3) dX7_readOther_69 (by decide) ?_
      try simp (disch := omega) only [zu_up, zup_in, zup_in0, zput_at, zput_a0, zput_zput, zup_eq, zup_ne, va_up_up, nI_clamp]
      refine aw_icmp_ne (tgt := 87) dX7_readOther_70 (by decide) (fun c70 => ?_) (fun c70 => ?_)
      · exact L87 (zBox.mk (hq.out.trans (by unfold qO1; rw [e4]; first | rw [if_pos c62, if_neg c76] | rw [if_neg c62, if_pos c70, if_neg c76] | rw [if_neg c62, if_neg c70])))
      · refine aw_iload_2 dX7_readOther_73 ?_
        refine aw_bipush (v := 61) dX7_readOther_74 (by decide) ?_
        refine aw_icmp_ne (tgt := 87) dX7_readOther_76 (by decide) (fun c76 => ?_) (fun c76 => ?_)
        · exact L87 (zBox.mk (hq.out.trans (by unfold qO1; rw [e4]; first | rw [if_pos c62, if_neg c76] | rw [if_neg c62, if_pos c70, if_neg c76] | rw [if_neg c62, if_neg c70])))
        · refine aw_aload_0 dX7_readOther_79 ?_
          refine aw_iconst (v := 4) dX7_readOther_80 (by decide) ?_
          refine aw_putI fX7_24 rfl hinX7 (by decide +kernel : Cond.fieldLink RX7 147 RX7 (TX7 24).2.1 (TX7 24).2.2.1 ∈ wsX7_readOther) ms0 dX7_readOther_81 ?_
          try simp (disch := omega) only [zu_up, zup_in, zup_in0, zput_at, zput_a0, zput_zput, zup_eq, zup_ne, va_up_up, nI_clamp]
          refine aw_goto (tgt := 166) dX7_readOther_84 (by decide) ?_
          try rw [zput_zput]
          exact aw_return rfl dX7_readOther_166 ⟨Nat.zero_le _, Nat.zero_le _⟩ rfl rfl (by first | (rw [hq.out]; unfold qO3; rw [e4]; first | (rw [if_neg c143]; done) | (rw [if_pos c143, if_neg c149]; done) | (rw [if_pos c143, if_pos c149]; unfold qSet; simp (disch := omega) only [zup_eq, zup_ne, va_up_up, upd_ne, upd_eq])) | (rw [hq.out]; unfold qO2; rw [eL, e4]; first | (rw [if_pos c92, if_neg c105]; first | done | exact absurd (c92.symm.trans c119) (by decide)) | (rw [if_neg c92, if_pos c101, if_neg c105]; first | done | exact absurd c101 c119)) | (rw [hq.out]; unfold qO1; rw [e4]; first | (rw [if_pos c62, if_pos c76]; unfold qSet; simp (disch := omega) only [zup_eq, zup_ne, va_up_up, upd_ne, upd_eq]) | (rw [if_neg c62, if_pos c70, if_pos c76]; unfold qSet; simp (disch := omega) only [zup_eq, zup_ne, va_up_up, upd_ne, upd_eq])) | (unfold qOth qO0; rw [if_neg c11, if_neg c17, eL, if_pos c34, if_neg c38, e4]; unfold qSet; simp (disch := omega) only [zup_eq, zup_ne, va_up_up, upd_ne, upd_eq])) rfl
  refine aw_aload_0 dX7_readOther_0 ?_
  refine aw_getR fX7_5 (fun _ _ => rfl) mp5 hinX7 (by decide +kernel : Cond.fieldLink RX7 19 RX7 (TX7 5).2.1 (TX7 5).2.2.1 ∈ wsX7_readOther) ms0 dX7_readOther_1 ?_
  refine aw_iload_1 dX7_readOther_4 ?_
  refine aw_iaload (by first | exact ms1 | exact ms2 | exact ms3 | exact ms4 | exact ms5 | exact ms6 | exact ms7 | exact ms8 | exact ms9 | exact ms10 | exact ms11 | exact ms12) (vp_in_nI hk (by decide)) dX7_readOther_5 ?_
  try simp (disch := omega) only [zu_up, zup_in, zup_in0, zput_at, zput_a0, zput_zput, zup_eq, zup_ne, va_up_up, nI_clamp]
  refine aw_istore_2 dX7_readOther_6 ?_
  refine aw_aload_0 dX7_readOther_7 ?_
  refine aw_run (zRun_V (c_X7_endsWell hM zVw.put) gX7_readOther_X7_endsWell q_X7_endsWell rfl (by decide) rfl ms0 rfl rfl (Nat.le_of_ble_eq_true rfl) dX7_readOther_8 ⟨Nat.le_refl _, Nat.le_refl _⟩) ?_
  rw [zput_zput]
  refine aw_if_eq (tgt := 20) dX7_readOther_11 (by decide) (fun c11 => ?_) (fun c11 => ?_)
  · exact aw_return rfl dX7_readOther_20 ⟨Nat.zero_le _, Nat.zero_le _⟩ rfl rfl (by unfold qOth; first | rw [if_pos c11] | rw [if_neg c11, if_pos c17]) rfl
  · refine aw_iload_2 dX7_readOther_14 ?_
    refine aw_bipush (v := 32) dX7_readOther_15 (by decide) ?_
    refine aw_icmp_ne (tgt := 21) dX7_readOther_17 (by decide) (fun c17 => ?_) (fun c17 => ?_)
    · refine aw_iload_2 dX7_readOther_21 ?_
      refine aw_bipush (v := 97) dX7_readOther_22 (by decide) ?_
      refine aw_bipush (v := 116) dX7_readOther_24 (by decide) ?_
      refine aw_run (zRun_S (c_X7_isIn ) (Or.inl gX7_readOther_X7_isIn) q_X7_isIn (by decide) rfl rfl (Nat.le_of_ble_eq_true rfl) dX7_readOther_26 ⟨Nat.le_refl _, Nat.le_refl _⟩) ?_
      rw [show mIn (G 4 k) 97 116 = qLet G k from rfl]
      refine aw_istore_3 dX7_readOther_29 ?_
      refine aw_aload_0 dX7_readOther_30 ?_
      refine aw_getI fX7_24 hinX7 (by decide +kernel : Cond.fieldLink RX7 147 RX7 (TX7 24).2.1 (TX7 24).2.2.1 ∈ wsX7_readOther) ms0 dX7_readOther_31 ?_
      try simp (disch := omega) only [zu_up, zup_in, zup_in0, zput_at, zput_a0, zput_zput, zup_eq, zup_ne, va_up_up, nI_clamp]
      refine aw_if_ne (tgt := 57) dX7_readOther_34 (by decide) (fun c34 => ?_) (fun c34 => ?_)
      · exact L57 (zBox.mk (by unfold qOth qO0; rw [if_neg c11, if_neg c17, eL]; first | rw [if_pos c34, if_pos c38] | rw [if_neg c34]))
      · refine aw_iload_3 dX7_readOther_37 ?_
        refine aw_if_eq (tgt := 57) dX7_readOther_38 (by decide) (fun c38 => ?_) (fun c38 => ?_)
        · exact L57 (zBox.mk (by unfold qOth qO0; rw [if_neg c11, if_neg c17, eL]; first | rw [if_pos c34, if_pos c38] | rw [if_neg c34]))
        · refine aw_aload_0 dX7_readOther_41 ?_
          refine aw_iload_2 dX7_readOther_42 ?_
          refine aw_bipush (v := 97) dX7_readOther_43 (by decide) ?_
          refine aw_isub dX7_readOther_45 ?_
          refine aw_putI fX7_18 rfl hinX7 (by decide +kernel : Cond.fieldLink RX7 175 RX7 (TX7 18).2.1 (TX7 18).2.2.1 ∈ wsX7_readOther) ms0 dX7_readOther_46 ?_
          try simp (disch := omega) only [zu_up, zup_in, zup_in0, zput_at, zput_a0, zput_zput, zup_eq, zup_ne, va_up_up, nI_clamp]
          refine aw_aload_0 dX7_readOther_49 ?_
          refine aw_iconst (v := 1) dX7_readOther_50 (by decide) ?_
          refine aw_putI fX7_24 rfl hinX7 (by decide +kernel : Cond.fieldLink RX7 147 RX7 (TX7 24).2.1 (TX7 24).2.2.1 ∈ wsX7_readOther) ms0 dX7_readOther_51 ?_
          try simp (disch := omega) only [zu_up, zup_in, zup_in0, zput_at, zput_a0, zput_zput, zup_eq, zup_ne, va_up_up, nI_clamp]
          refine aw_goto (tgt := 166) dX7_readOther_54 (by decide) ?_
          try rw [zput_zput]
          exact aw_return rfl dX7_readOther_166 ⟨Nat.zero_le _, Nat.zero_le _⟩ rfl rfl (by first | (rw [hq.out]; unfold qO3; rw [e4]; first | (rw [if_neg c143]; done) | (rw [if_pos c143, if_neg c149]; done) | (rw [if_pos c143, if_pos c149]; unfold qSet; simp (disch := omega) only [zup_eq, zup_ne, va_up_up, upd_ne, upd_eq])) | (rw [hq.out]; unfold qO2; rw [eL, e4]; first | (rw [if_pos c92, if_neg c105]; first | done | exact absurd (c92.symm.trans c119) (by decide)) | (rw [if_neg c92, if_pos c101, if_neg c105]; first | done | exact absurd c101 c119)) | (rw [hq.out]; unfold qO1; rw [e4]; first | (rw [if_pos c62, if_pos c76]; unfold qSet; simp (disch := omega) only [zup_eq, zup_ne, va_up_up, upd_ne, upd_eq]) | (rw [if_neg c62, if_pos c70, if_pos c76]; unfold qSet; simp (disch := omega) only [zup_eq, zup_ne, va_up_up, upd_ne, upd_eq])) | (unfold qOth qO0; rw [if_neg c11, if_neg c17, eL, if_pos c34, if_neg c38, e4]; unfold qSet; simp (disch := omega) only [zup_eq, zup_ne, va_up_up, upd_ne, upd_eq])) rfl
    · exact aw_return rfl dX7_readOther_20 ⟨Nat.zero_le _, Nat.zero_le _⟩ rfl rfl (by unfold qOth; first | rw [if_pos c11] | rw [if_neg c11, if_pos c17]) rfl

abbrev mX7_readText : ZM := (cX7_readText, RX7, wsX7_readText, 4, 0, 0, none, 2, yX7_readText.name)
set_option maxHeartbeats 1000000 in
set_option maxRecDepth 100000 in
theorem c_X7_readText {sh : zSh} {F : Nat → Nat → Int32} {P : Nat → Nat → Option Nat} {μ : Nat} {G : Nat → Nat → Int32} {L : Nat} {R : Nat → Nat → Int32} (hM : zMd sh P μ) (hG : zVw F μ 13 G) (hL : L ≤ 60) (h6 : G 0 6 = nI L) (eR : zBox (qRead G L = R)) : zMet yX7_readText wsX7_readText (4) (0) (0) [.ref μ] sh F P (none) sh (zput F μ 13 (R)) P := by
  refine zMet.of (by decide) rfl (Nat.le_of_ble_eq_true rfl) (by simp [Value.category]) ?_
  intro X ρ
  show AW mX7_readText X (zMQ mX7_readText X (none) sh (zput F μ 13 (R)) P) 0 [some (.ref μ), none] [] ρ sh F P 0 0
  have hinX7 : ∀ w ∈ u_ws RX7 TX7 29, w ∈ wsX7_readText := by decide +kernel
  obtain ⟨ms0, ⟨mp0, mp1, mp3, mp5, mp9, mp10, mp11, mp12, mp13, mp17, mp21, mp28⟩, ms1, ms2, ms3, ms4, ms5, ms6, ms7, ms8, ms9, ms10, ms11, ms12⟩ := id hM
  refine aw_cF (F' := zput F μ 13 G) (zput_view hG).symm ?_
  have L77 : ∀ (G' : Nat → Nat → Int32) (o1 : Option Value), zBox (it qStep L (qInit G) = G') → AW mX7_readText X (zMQ mX7_readText X (none) sh (zput F μ 13 (R)) P) 77 [some (.ref μ), o1] [] ρ sh (zput F μ 13 G') P 0 0 := by
    intro G' o1 hst
    have hi := hst.out ▸ qI.it (G := G) L
    have h6' : G' 0 6 = nI L := (hi.2.1 6 (by decide)).trans h6
    have eR2 := eR.out
    unfold qRead at eR2
    rw [hst.out] at eR2
    refine aw_aload_0 dX7_readText_77 ?_
    refine aw_getI fX7_22 hinX7 (by decide +kernel : Cond.fieldLink RX7 141 RX7 (TX7 22).2.1 (TX7 22).2.2.1 ∈ wsX7_readText) ms0 dX7_readText_78 ?_
    refine aw_bipush (v := (-9)) dX7_readText_81 (by decide) ?_
    try simp (disch := omega) only [zu_up, zup_in, zup_in0, zput_at, zput_a0, zput_zput, zup_eq, zup_ne, va_up_up, nI_clamp]
    refine aw_icmp_ne (tgt := 111) dX7_readText_83 (by decide) (fun c83 => ?_) (fun c83 => ?_)
    · try rw [zput_zput]
      exact aw_return rfl dX7_readText_111 ⟨Nat.zero_le _, Nat.zero_le _⟩ rfl rfl (by rw [← eR2]; unfold qFin; first | (rw [if_neg c83]; done) | (rw [if_pos c83, if_pos c90]; done) | (rw [if_pos c83, if_neg c90, if_pos c99]; done) | (rw [if_pos c83, if_neg c90, if_neg c99, h6']; done)) rfl
    · refine aw_aload_0 dX7_readText_86 ?_
      refine aw_run (zRun_V (c_X7_endsWell hM zVw.put) gX7_readText_X7_endsWell q_X7_endsWell rfl (by decide) rfl ms0 rfl rfl (Nat.le_of_ble_eq_true rfl) dX7_readText_87 ⟨Nat.le_refl _, Nat.le_refl _⟩) ?_
      rw [zput_zput]
      refine aw_if_eq (tgt := 111) dX7_readText_90 (by decide) (fun c90 => ?_) (fun c90 => ?_)
      · try rw [zput_zput]
        exact aw_return rfl dX7_readText_111 ⟨Nat.zero_le _, Nat.zero_le _⟩ rfl rfl (by rw [← eR2]; unfold qFin; first | (rw [if_neg c83]; done) | (rw [if_pos c83, if_pos c90]; done) | (rw [if_pos c83, if_neg c90, if_pos c99]; done) | (rw [if_pos c83, if_neg c90, if_neg c99, h6']; done)) rfl
      · refine aw_aload_0 dX7_readText_93 ?_
        refine aw_getI fX7_24 hinX7 (by decide +kernel : Cond.fieldLink RX7 147 RX7 (TX7 24).2.1 (TX7 24).2.2.1 ∈ wsX7_readText) ms0 dX7_readText_94 ?_
        refine aw_bipush (v := 7) dX7_readText_97 (by decide) ?_
        try simp (disch := omega) only [zu_up, zup_in, zup_in0, zput_at, zput_a0, zput_zput, zup_eq, zup_ne, va_up_up, nI_clamp]
        refine aw_icmp_eq (tgt := 111) dX7_readText_99 (by decide) (fun c99 => ?_) (fun c99 => ?_)
        · try rw [zput_zput]
          exact aw_return rfl dX7_readText_111 ⟨Nat.zero_le _, Nat.zero_le _⟩ rfl rfl (by rw [← eR2]; unfold qFin; first | (rw [if_neg c83]; done) | (rw [if_pos c83, if_pos c90]; done) | (rw [if_pos c83, if_neg c90, if_pos c99]; done) | (rw [if_pos c83, if_neg c90, if_neg c99, h6']; done)) rfl
        · refine aw_aload_0 dX7_readText_102 ?_
          refine aw_iconst (v := 4) dX7_readText_103 (by decide) ?_
          refine aw_aload_0 dX7_readText_104 ?_
          refine aw_getI fX7_6 hinX7 (by decide +kernel : Cond.fieldLink RX7 181 RX7 (TX7 6).2.1 (TX7 6).2.2.1 ∈ wsX7_readText) ms0 dX7_readText_105 ?_
          try simp (disch := omega) only [zu_up, zup_in, zup_in0, zput_at, zput_a0, zput_zput, zup_eq, zup_ne, va_up_up, nI_clamp]
          rw [qEnd_n (by decide), h6']
          refine aw_runv (zRun_V (c_X7_mark hM zVw.put) gX7_readText_X7_mark q_X7_mark rfl (by decide) rfl ms0 rfl rfl (Nat.le_of_ble_eq_true rfl) dX7_readText_108 ⟨Nat.le_refl _, Nat.le_refl _⟩) ?_
          try rw [zput_zput]
          exact aw_return rfl dX7_readText_111 ⟨Nat.zero_le _, Nat.zero_le _⟩ rfl rfl (by rw [← eR2]; unfold qFin; first | (rw [if_neg c83]; done) | (rw [if_pos c83, if_pos c90]; done) | (rw [if_pos c83, if_neg c90, if_pos c99]; done) | (rw [if_pos c83, if_neg c90, if_neg c99, h6']; done)) rfl
  have L25 : ∀ (m k : Nat) (G' : Nat → Nat → Int32), zBox (it qStep k (qInit G) = G') → k ≤ L → L - k = m → AW mX7_readText X (zMQ mX7_readText X (none) sh (zput F μ 13 (R)) P) 25 [some (.ref μ), some (.int (nI k))] [] ρ sh (zput F μ 13 G') P 0 0 := by
    intro m
    induction m using Nat.strongRecOn with
    | _ m ih =>
    intro k G' hst hk hm
    refine aw_iload_1 dX7_readText_25 ?_
    refine aw_aload_0 dX7_readText_26 ?_
    refine aw_getI fX7_6 hinX7 (by decide +kernel : Cond.fieldLink RX7 181 RX7 (TX7 6).2.1 (TX7 6).2.2.1 ∈ wsX7_readText) ms0 dX7_readText_27 ?_
    have hi := hst.out ▸ qI.it (G := G) k
    have h6' : G' 0 6 = nI L := (hi.2.1 6 (by decide)).trans h6
    obtain ⟨c, hc, h20⟩ := hi.2.2
    try simp (disch := omega) only [zu_up, zup_in, zup_in0, zput_at, zput_a0, zput_zput, zup_eq, zup_ne, va_up_up, nI_clamp]
    rw [h6']
    refine aw_icmp_ge (tgt := 77) dX7_readText_30 (by decide) (fun c30 => ?_) (fun c30 => ?_)
    · exact L77 G' _ (zBox.mk (by first | (rw [← zend hk (by omega) c30]; exact hst.out) | (rw [← hst.out] at c39 ⊢; exact it_stick (f := qStep) (p := fun s => ¬ s 0 22 = -9) (fun i s h => qStep_stick h) (i := k) c39 L (by omega))))
    · have hlt : k < L := zlt hk (by omega) c30
      refine aw_aload_0 dX7_readText_33 ?_
      refine aw_getI fX7_22 hinX7 (by decide +kernel : Cond.fieldLink RX7 141 RX7 (TX7 22).2.1 (TX7 22).2.2.1 ∈ wsX7_readText) ms0 dX7_readText_34 ?_
      refine aw_bipush (v := (-9)) dX7_readText_37 (by decide) ?_
      try simp (disch := omega) only [zu_up, zup_in, zup_in0, zput_at, zput_a0, zput_zput, zup_eq, zup_ne, va_up_up, nI_clamp]
      refine aw_icmp_ne (tgt := 77) dX7_readText_39 (by decide) (fun c39 => ?_) (fun c39 => ?_)
      · exact L77 G' _ (zBox.mk (by first | (rw [← zend hk (by omega) c30]; exact hst.out) | (rw [← hst.out] at c39 ⊢; exact it_stick (f := qStep) (p := fun s => ¬ s 0 22 = -9) (fun i s h => qStep_stick h) (i := k) c39 L (by omega))))
      · refine aw_aload_0 dX7_readText_42 ?_
        refine aw_getR fX7_5 (fun _ _ => rfl) mp5 hinX7 (by decide +kernel : Cond.fieldLink RX7 19 RX7 (TX7 5).2.1 (TX7 5).2.2.1 ∈ wsX7_readText) ms0 dX7_readText_43 ?_
        refine aw_iload_1 dX7_readText_46 ?_
        refine aw_iaload (by first | exact ms1 | exact ms2 | exact ms3 | exact ms4 | exact ms5 | exact ms6 | exact ms7 | exact ms8 | exact ms9 | exact ms10 | exact ms11 | exact ms12) (vp_in_nI (show k < 60 by omega) (by decide)) dX7_readText_47 ?_
        try simp (disch := omega) only [zu_up, zup_in, zup_in0, zput_at, zput_a0, zput_zput, zup_eq, zup_ne, va_up_up, nI_clamp]
        refine aw_bipush (v := 48) dX7_readText_48 (by decide) ?_
        refine aw_bipush (v := 57) dX7_readText_50 (by decide) ?_
        refine aw_run (zRun_S (c_X7_isIn ) (Or.inl gX7_readText_X7_isIn) q_X7_isIn (by decide) rfl rfl (Nat.le_of_ble_eq_true rfl) dX7_readText_52 ⟨Nat.le_refl _, Nat.le_refl _⟩) ?_
        refine aw_if_eq (tgt := 66) dX7_readText_55 (by decide) (fun c55 => ?_) (fun c55 => ?_)
        · refine aw_aload_0 dX7_readText_66 ?_
          refine aw_iload_1 dX7_readText_67 ?_
          refine aw_runv (zRun_V (c_X7_readOther (k := k) (c := c) hM zVw.put (by omega) hc h20) gX7_readText_X7_readOther q_X7_readOther rfl (by decide) rfl ms0 rfl rfl (Nat.le_of_ble_eq_true rfl) dX7_readText_68 ⟨Nat.le_refl _, Nat.le_refl _⟩) ?_
          refine aw_iinc_1 (v := 1) (by decide) dX7_readText_71 ?_
          refine aw_goto (tgt := 25) dX7_readText_74 (by decide) ?_
          rw [nI_1, zput_zput]
          exact ih (L - (k + 1)) (by omega) (k + 1) _ (zBox.mk (by show qStep k (it qStep k (qInit G)) = _; rw [hst.out]; unfold qStep; rw [if_pos c39, if_pos c55, h20, nI_clamp (show c < 2 ^ 31 by omega)])) (by omega) rfl
        · refine aw_aload_0 dX7_readText_58 ?_
          refine aw_iload_1 dX7_readText_59 ?_
          refine aw_runv (zRun_V (c_X7_readDigit (k := k) hM zVw.put (by omega)) gX7_readText_X7_readDigit q_X7_readDigit rfl (by decide) rfl ms0 rfl rfl (Nat.le_of_ble_eq_true rfl) dX7_readText_60 ⟨Nat.le_refl _, Nat.le_refl _⟩) ?_
          refine aw_goto (tgt := 71) dX7_readText_63 (by decide) ?_
          refine aw_iinc_1 (v := 1) (by decide) dX7_readText_71 ?_
          refine aw_goto (tgt := 25) dX7_readText_74 (by decide) ?_
          rw [nI_1, zput_zput]
          exact ih (L - (k + 1)) (by omega) (k + 1) _ (zBox.mk (by show qStep k (it qStep k (qInit G)) = _; rw [hst.out]; unfold qStep; rw [if_pos c39, if_neg c55])) (by omega) rfl
  refine aw_aload_0 dX7_readText_0 ?_
  refine aw_bipush (v := (-9)) dX7_readText_1 (by decide) ?_
  refine aw_bipush (v := (-9)) dX7_readText_3 (by decide) ?_
  refine aw_runv (zRun_V (c_X7_mark hM zVw.put) gX7_readText_X7_mark q_X7_mark rfl (by decide) rfl ms0 rfl rfl (Nat.le_of_ble_eq_true rfl) dX7_readText_5 ⟨Nat.le_refl _, Nat.le_refl _⟩) ?_
  rw [zput_zput]
  refine aw_aload_0 dX7_readText_8 ?_
  refine aw_iconst (v := 1) dX7_readText_9 (by decide) ?_
  refine aw_putI fX7_19 rfl hinX7 (by decide +kernel : Cond.fieldLink RX7 163 RX7 (TX7 19).2.1 (TX7 19).2.2.1 ∈ wsX7_readText) ms0 dX7_readText_10 ?_
  try simp (disch := omega) only [zu_up, zup_in, zup_in0, zput_at, zput_a0, zput_zput, zup_eq, zup_ne, va_up_up, nI_clamp]
  refine aw_aload_0 dX7_readText_13 ?_
  refine aw_iconst (v := 0) dX7_readText_14 (by decide) ?_
  refine aw_putI fX7_20 rfl hinX7 (by decide +kernel : Cond.fieldLink RX7 169 RX7 (TX7 20).2.1 (TX7 20).2.2.1 ∈ wsX7_readText) ms0 dX7_readText_15 ?_
  try simp (disch := omega) only [zu_up, zup_in, zup_in0, zput_at, zput_a0, zput_zput, zup_eq, zup_ne, va_up_up, nI_clamp]
  refine aw_aload_0 dX7_readText_18 ?_
  refine aw_iconst (v := 0) dX7_readText_19 (by decide) ?_
  refine aw_putI fX7_24 rfl hinX7 (by decide +kernel : Cond.fieldLink RX7 147 RX7 (TX7 24).2.1 (TX7 24).2.2.1 ∈ wsX7_readText) ms0 dX7_readText_20 ?_
  try simp (disch := omega) only [zu_up, zup_in, zup_in0, zput_at, zput_a0, zput_zput, zup_eq, zup_ne, va_up_up, nI_clamp]
  refine aw_iconst (v := 0) dX7_readText_23 (by decide) ?_
  refine aw_istore_1 dX7_readText_24 ?_
  refine aw_cF (F' := zput F μ 13 (qInit G)) (by unfold qInit qSet; simp (disch := omega) only [zup_eq, zup_ne, va_up_up, upd_ne, upd_eq]) ?_
  exact L25 _ 0 _ (zBox.mk rfl) (Nat.zero_le _) rfl
