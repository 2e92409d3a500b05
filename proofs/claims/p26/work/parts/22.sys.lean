/-! ===== 22.sys: RecipeReader.read; the shape of the whole system ===== -/
theorem rRead_stick (T : Nat → Int32) (len : Int32) (k : Nat) (s : (Nat → Nat → Int32) × Bool) (h : s.2 = true) : rStep T len k s = s := by
  unfold rStep
  rw [if_pos h]
theorem rOk.rd0 {R : Nat → Nat → Int32} {T : Nat → Int32} {len : Int32} : rOk (rRead0 T len R) 400 := by
  unfold rRead0
  have h0 : rOk (rSet (rSet (rSet (rSet R 7 0) 4 0) 5 0) 6 0) 0 := by
    refine rOk.set (rOk.set (rOk.set ?_ (by decide)) (by decide)) (by decide)
    exact ⟨0, by rw [rSet_at]; rfl, Nat.le_refl _⟩
  exact ((((h0.let' (T := T) (len := len)).set (by decide)).num.set (by decide)).sign.ing).mono (by omega)

abbrev mX2_read : ZM := (cX2_read, RX2, wsX2_read, 5, 0, 0, none, 4, yX2_read.name)
set_option maxHeartbeats 1000000 in
set_option maxRecDepth 100000 in
theorem c_X2_read {sh : zSh} {F : Nat → Nat → Int32} {P : Nat → Nat → Option Nat} {r x : Nat} {R : Nat → Nat → Int32} {len : Int32} (hR : zRd sh P r) (hV : zVw F r 3 R) (hx : sh x = some (.inr (0, 60))) (hd : x < r ∨ r + 3 ≤ x) : zMet yX2_read wsX2_read (5) (0) (0) [.ref r, .ref x, .int len] sh F P (none) sh (zput F r 3 (rRead (F x) len R)) P := by
  refine zMet.of (by decide) rfl (Nat.le_of_ble_eq_true rfl) (by simp [Value.category]) ?_
  intro X ρ
  show AW mX2_read X (zMQ mX2_read X (none) sh (zput F r 3 (rRead (F x) len R)) P) 0 [some (.ref r), some (.ref x), some (.int len), none] [] ρ sh F P 0 0
  have hinX2 : ∀ w ∈ u_ws RX2 TX2 8, w ∈ wsX2_read := by decide +kernel
  obtain ⟨hs0, ⟨hp0, hp1⟩, hs1, hs2⟩ := id hR
  refine aw_cF (F' := zput F r 3 R) (zput_view hV).symm ?_
  have L56 : ∀ (m k : Nat) (R' : Nat → Nat → Int32), k ≤ 5 → 5 - k = m → it (rStep (F x) len) k (rRead0 (F x) len R, false) = (R', false) → rOk R' (400 + 400 * k) → AW mX2_read X (zMQ mX2_read X (none) sh (zput F r 3 (rRead (F x) len R)) P) 56 [some (.ref r), some (.ref x), some (.int len), some (.int (nI k))] [] ρ sh (zput F r 3 R') P 0 0 := by
    intro m
    induction m using Nat.strongRecOn with
    | _ m ih =>
    intro k R' hk hm hst hb
    refine aw_iload_3 dX2_read_56 ?_
    refine aw_iconst (v := 5) dX2_read_57 (by decide) ?_
    refine aw_icmp_ge (tgt := 90) dX2_read_58 (by decide) (fun c58 => ?_) (fun c58 => ?_)
    · exact aw_return rfl dX2_read_90 ⟨Nat.zero_le _, Nat.zero_le _⟩ rfl rfl (by unfold rRead; first | (rw [show it (rStep (F x) len) 5 (rRead0 (F x) len R, false) = (rSk (F x) len R', true) from by rw [it_stick (p := fun s => s.2 = true) (rRead_stick (F x) len) (i := k + 1) (by show (rStep (F x) len k (it _ k _)).2 = true; rw [hst]; unfold rStep; rw [if_neg (by simp), if_pos c67]) 5 (by omega)]; show rStep (F x) len k (it _ k _) = _; rw [hst]; unfold rStep; rw [if_neg (by simp), if_pos c67]]) | (rw [← zend (n := 5) hk (by decide) c58, hst])) rfl
    · have hlt : k < 5 := zlt (n := 5) hk (by decide) c58
      refine aw_aload_0 dX2_read_61 ?_
      refine aw_aload_1 dX2_read_62 ?_
      refine aw_iload_2 dX2_read_63 ?_
      refine aw_run (zRun_V (c_X2_isMore hR zVw.put hx hd hb (by omega)) gX2_read_X2_isMore q_X2_isMore rfl (by decide) rfl (by assumption) rfl rfl (Nat.le_of_ble_eq_true rfl) dX2_read_64 ⟨Nat.le_refl _, Nat.le_refl _⟩) ?_
      try simp (disch := omega) only [zu_up, zup_in, zup_in0, zput_at, zput_a0, zput_zput, zput_ne, rInc_f]
      refine aw_if_eq (tgt := 90) dX2_read_67 (by decide) (fun c67 => ?_) (fun c67 => ?_)
      · exact aw_return rfl dX2_read_90 ⟨Nat.zero_le _, Nat.zero_le _⟩ rfl rfl (by unfold rRead; first | (rw [show it (rStep (F x) len) 5 (rRead0 (F x) len R, false) = (rSk (F x) len R', true) from by rw [it_stick (p := fun s => s.2 = true) (rRead_stick (F x) len) (i := k + 1) (by show (rStep (F x) len k (it _ k _)).2 = true; rw [hst]; unfold rStep; rw [if_neg (by simp), if_pos c67]) 5 (by omega)]; show rStep (F x) len k (it _ k _) = _; rw [hst]; unfold rStep; rw [if_neg (by simp), if_pos c67]]) | (rw [← zend (n := 5) hk (by decide) c58, hst])) rfl
      · refine aw_aload_0 dX2_read_70 ?_
        refine aw_aload_1 dX2_read_71 ?_
        refine aw_iload_2 dX2_read_72 ?_
        refine aw_bipush (v := 43) dX2_read_73 (by decide) ?_
        refine aw_runv (zRun_V (c_X2_readSign hR zVw.put hx hd hb.sk (by omega)) gX2_read_X2_readSign q_X2_readSign rfl (by decide) rfl (by assumption) rfl rfl (Nat.le_of_ble_eq_true rfl) dX2_read_75 ⟨Nat.le_refl _, Nat.le_refl _⟩) ?_
        try simp (disch := omega) only [zu_up, zup_in, zup_in0, zput_at, zput_a0, zput_zput, zput_ne, rInc_f]
        refine aw_aload_0 dX2_read_78 ?_
        refine aw_aload_1 dX2_read_79 ?_
        refine aw_iload_2 dX2_read_80 ?_
        refine aw_runv (zRun_V (c_X2_readIngredient hR zVw.put hx hd hb.sk.sign (by omega)) gX2_read_X2_readIngredient q_X2_readIngredient rfl (by decide) rfl (by assumption) rfl rfl (Nat.le_of_ble_eq_true rfl) dX2_read_81 ⟨Nat.le_refl _, Nat.le_refl _⟩) ?_
        try simp (disch := omega) only [zu_up, zup_in, zup_in0, zput_at, zput_a0, zput_zput, zput_ne, rInc_f]
        refine aw_iinc_3 (v := 1) (by decide) dX2_read_84 ?_
        refine aw_goto (tgt := 56) dX2_read_87 (by decide) ?_
        rw [nI_1]
        exact ih (5 - (k + 1)) (by omega) (k + 1) _ (by omega) rfl (by show rStep (F x) len k (it _ k _) = _; rw [hst]; unfold rStep; rw [if_neg (by simp), if_neg c67]) (hb.sk.sign.ing.mono (by omega))
  refine aw_aload_0 dX2_read_0 ?_
  refine aw_iconst (v := 0) dX2_read_1 (by decide) ?_
  refine aw_putI fX2_7 rfl hinX2 (by decide +kernel : Cond.fieldLink RX2 18 RX2 (TX2 7).2.1 (TX2 7).2.2.1 ∈ wsX2_read) (by assumption) dX2_read_2 ?_
  try simp (disch := omega) only [zu_up, zup_in, zup_in0, zput_at, zput_a0, zput_zput, zput_ne, rInc_f]
  refine aw_aload_0 dX2_read_5 ?_
  refine aw_iconst (v := 0) dX2_read_6 (by decide) ?_
  refine aw_putI fX2_4 rfl hinX2 (by decide +kernel : Cond.fieldLink RX2 22 RX2 (TX2 4).2.1 (TX2 4).2.2.1 ∈ wsX2_read) (by assumption) dX2_read_7 ?_
  try simp (disch := omega) only [zu_up, zup_in, zup_in0, zput_at, zput_a0, zput_zput, zput_ne, rInc_f]
  refine aw_aload_0 dX2_read_10 ?_
  refine aw_iconst (v := 0) dX2_read_11 (by decide) ?_
  refine aw_putI fX2_5 rfl hinX2 (by decide +kernel : Cond.fieldLink RX2 25 RX2 (TX2 5).2.1 (TX2 5).2.2.1 ∈ wsX2_read) (by assumption) dX2_read_12 ?_
  try simp (disch := omega) only [zu_up, zup_in, zup_in0, zput_at, zput_a0, zput_zput, zput_ne, rInc_f]
  refine aw_aload_0 dX2_read_15 ?_
  refine aw_iconst (v := 0) dX2_read_16 (by decide) ?_
  refine aw_putI fX2_6 rfl hinX2 (by decide +kernel : Cond.fieldLink RX2 28 RX2 (TX2 6).2.1 (TX2 6).2.2.1 ∈ wsX2_read) (by assumption) dX2_read_17 ?_
  try simp (disch := omega) only [zu_up, zup_in, zup_in0, zput_at, zput_a0, zput_zput, zput_ne, rInc_f]
  have h0 : rOk (rSet (rSet (rSet (rSet R 7 0) 4 0) 5 0) 6 0) 0 := rOk.set (rOk.set (rOk.set ⟨0, by rw [rSet_at]; rfl, Nat.le_refl _⟩ (by decide)) (by decide)) (by decide)
  refine aw_cF (F' := zput F r 3 (rSet (rSet (rSet (rSet R 7 0) 4 0) 5 0) 6 0)) rfl ?_
  refine aw_aload_0 dX2_read_20 ?_
  refine aw_aload_0 dX2_read_21 ?_
  refine aw_aload_1 dX2_read_22 ?_
  refine aw_iload_2 dX2_read_23 ?_
  refine aw_run (zRun_V (c_X2_readLetter (b := 0) hR zVw.put hx hd h0 (by omega)) gX2_read_X2_readLetter q_X2_readLetter rfl (by decide) rfl (by assumption) rfl rfl (Nat.le_of_ble_eq_true rfl) dX2_read_24 ⟨Nat.le_refl _, Nat.le_refl _⟩) ?_
  try simp (disch := omega) only [zu_up, zup_in, zup_in0, zput_at, zput_a0, zput_zput, zput_ne, rInc_f]
  refine aw_putI fX2_2 rfl hinX2 (by decide +kernel : Cond.fieldLink RX2 35 RX2 (TX2 2).2.1 (TX2 2).2.2.1 ∈ wsX2_read) (by assumption) dX2_read_27 ?_
  try simp (disch := omega) only [zu_up, zup_in, zup_in0, zput_at, zput_a0, zput_zput, zput_ne, rInc_f]
  have h1 := rOk.set (k := 2) (v := rLetV (F x) len (rSet (rSet (rSet (rSet R 7 0) 4 0) 5 0) 6 0)) (h0.let' (T := F x) (len := len)) (by decide)
  refine aw_cF (F' := zput F r 3 (rSet (rLet (F x) len (rSet (rSet (rSet (rSet R 7 0) 4 0) 5 0) 6 0)) 2 (rLetV (F x) len (rSet (rSet (rSet (rSet R 7 0) 4 0) 5 0) 6 0)))) rfl ?_
  refine aw_aload_0 dX2_read_30 ?_
  refine aw_aload_0 dX2_read_31 ?_
  refine aw_aload_1 dX2_read_32 ?_
  refine aw_iload_2 dX2_read_33 ?_
  refine aw_run (zRun_V (c_X2_readNumber (b := 64) hR zVw.put hx hd h1 (by omega)) gX2_read_X2_readNumber q_X2_readNumber rfl (by decide) rfl (by assumption) rfl rfl (Nat.le_of_ble_eq_true rfl) dX2_read_34 ⟨Nat.le_refl _, Nat.le_refl _⟩) ?_
  try simp (disch := omega) only [zu_up, zup_in, zup_in0, zput_at, zput_a0, zput_zput, zput_ne, rInc_f]
  refine aw_putI fX2_3 rfl hinX2 (by decide +kernel : Cond.fieldLink RX2 41 RX2 (TX2 3).2.1 (TX2 3).2.2.1 ∈ wsX2_read) (by assumption) dX2_read_37 ?_
  try simp (disch := omega) only [zu_up, zup_in, zup_in0, zput_at, zput_a0, zput_zput, zput_ne, rInc_f]
  have h2 := rOk.set (k := 3) (v := rNumV (F x) len (rSet (rLet (F x) len (rSet (rSet (rSet (rSet R 7 0) 4 0) 5 0) 6 0)) 2 (rLetV (F x) len (rSet (rSet (rSet (rSet R 7 0) 4 0) 5 0) 6 0)))) (h1.num (T := F x) (len := len)) (by decide)
  refine aw_cF (F' := zput F r 3 (rSet (rNum (F x) len (rSet (rLet (F x) len (rSet (rSet (rSet (rSet R 7 0) 4 0) 5 0) 6 0)) 2 (rLetV (F x) len (rSet (rSet (rSet (rSet R 7 0) 4 0) 5 0) 6 0)))) 3 (rNumV (F x) len (rSet (rLet (F x) len (rSet (rSet (rSet (rSet R 7 0) 4 0) 5 0) 6 0)) 2 (rLetV (F x) len (rSet (rSet (rSet (rSet R 7 0) 4 0) 5 0) 6 0)))))) rfl ?_
  refine aw_aload_0 dX2_read_40 ?_
  refine aw_aload_1 dX2_read_41 ?_
  refine aw_iload_2 dX2_read_42 ?_
  refine aw_bipush (v := 61) dX2_read_43 (by decide) ?_
  refine aw_runv (zRun_V (c_X2_readSign (b := 128) hR zVw.put hx hd h2 (by omega)) gX2_read_X2_readSign q_X2_readSign rfl (by decide) rfl (by assumption) rfl rfl (Nat.le_of_ble_eq_true rfl) dX2_read_45 ⟨Nat.le_refl _, Nat.le_refl _⟩) ?_
  try simp (disch := omega) only [zu_up, zup_in, zup_in0, zput_at, zput_a0, zput_zput, zput_ne, rInc_f]
  have h3 := h2.sign (T := F x) (len := len) (s := 61)
  refine aw_aload_0 dX2_read_48 ?_
  refine aw_aload_1 dX2_read_49 ?_
  refine aw_iload_2 dX2_read_50 ?_
  refine aw_runv (zRun_V (c_X2_readIngredient (b := 192) hR zVw.put hx hd h3 (by omega)) gX2_read_X2_readIngredient q_X2_readIngredient rfl (by decide) rfl (by assumption) rfl rfl (Nat.le_of_ble_eq_true rfl) dX2_read_51 ⟨Nat.le_refl _, Nat.le_refl _⟩) ?_
  try simp (disch := omega) only [zu_up, zup_in, zup_in0, zput_at, zput_a0, zput_zput, zput_ne, rInc_f]
  refine aw_cF (F' := zput F r 3 (rRead0 (F x) len R)) rfl ?_
  refine aw_iconst (v := 0) dX2_read_54 (by decide) ?_
  refine aw_istore_3 dX2_read_55 ?_
  exact L56 _ 0 _ (Nat.zero_le _) rfl rfl rOk.rd0

def zTm (sh : zSh) (P : Nat → Nat → Option Nat) (χ : Nat) : Prop := sh χ = some (.inl 6) ∧ P χ 0 = some (χ + 1) ∧ P χ 1 = some (χ + 10) ∧ P χ 2 = some (χ + 19) ∧ P χ 3 = some (χ + 26) ∧ P χ 4 = some (χ + 34) ∧ P χ 5 = some (χ + 36) ∧ P χ 6 = some (χ + 37) ∧ P χ 7 = some (χ + 40) ∧ sh (χ + 36) = some (.inr (2, 2)) ∧ sh (χ + 40) = some (.inr (0, 60))
/-- the shape of the system: ThingMaker at χ, its parts behind it, the kept states from χ + 59 on, the images from χ + 195 on -/
def zSys (sh : zSh) (P : Nat → Nat → Option Nat) (χ : Nat) : Prop := zTm sh P χ ∧ zBk sh P (χ + 1) ∧ zBk sh P (χ + 10) ∧ zSt sh P (χ + 19) ∧ zWk sh P (χ + 26) ∧ zHi sh P (χ + 34) ∧ zRd sh P (χ + 37) ∧ (∀ p, p < 8 → zPl sh P (χ + 35) p (χ + 59 + 17 * p)) ∧ ∀ p, p < 2 → zPl sh P (χ + 36) p (χ + 195 + 17 * p)
theorem zPl.keep {sh sh' : zSh} {P P' : Nat → Nat → Option Nat} {s p τ : Nat} (h : zPl sh P s p τ) (h0 : P' s p = P s p) (h1 : ∀ j, j < 17 → sh' (τ + j) = sh (τ + j)) (h2 : P' τ = P τ) (h3 : P' (τ + 1) = P (τ + 1)) (h4 : P' (τ + 10) = P (τ + 10)) : zPl sh' P' s p τ := by
  rcases h with ⟨a, b⟩ | ⟨a, b⟩
  · exact Or.inl ⟨h0.trans a, b.keep h1 h2 h3 h4⟩
  · exact Or.inr ⟨h0.trans a, fun j hj => (h1 j hj).trans (b j hj)⟩
theorem zSys.to {sh sh' : zSh} {P P' : Nat → Nat → Option Nat} {χ : Nat} (h : zSys sh P χ) (h1 : ∀ j, j < 59 → sh' (χ + j) = sh (χ + j)) (h2 : ∀ j, j < 59 → j ≠ 35 → j ≠ 36 → P' (χ + j) = P (χ + j))
    (h3 : ∀ p, p < 8 → zPl sh' P' (χ + 35) p (χ + 59 + 17 * p)) (h4 : ∀ p, p < 2 → zPl sh' P' (χ + 36) p (χ + 195 + 17 * p)) : zSys sh' P' χ := by
  obtain ⟨⟨ts, tp0, tp1, tp2, tp3, tp4, tp5, tp6, tp7, ti, tx⟩, hB, hD, hS, hW, hH, hR, -, -⟩ := h
  have e0 : P' χ = P χ := h2 0 (by decide) (by decide) (by decide)
  have add : ∀ a j, a + j < 59 → sh' (χ + a + j) = sh (χ + a + j) := fun a j hj => by rw [Nat.add_assoc]; exact h1 (a + j) hj
  refine ⟨⟨(h1 0 (by decide)).trans ts, by rw [e0]; exact tp0, by rw [e0]; exact tp1, by rw [e0]; exact tp2, by rw [e0]; exact tp3, by rw [e0]; exact tp4, by rw [e0]; exact tp5, by rw [e0]; exact tp6, by rw [e0]; exact tp7, (h1 36 (by decide)).trans ti, (h1 40 (by decide)).trans tx⟩, hB.keep (fun j hj => add 1 j (by omega)) (h2 1 (by decide) (by decide) (by decide)), hD.keep (fun j hj => add 10 j (by omega)) (h2 10 (by decide) (by decide) (by decide)), hS.keep (fun j hj => add 19 j (by omega)) (h2 19 (by decide) (by decide) (by decide)), ?_, ?_, ?_, h3, h4⟩
  · obtain ⟨a0, b0, a1, b1, a2, a3, a4, a5, a6, a7⟩ := hW
    have e1 : P' (χ + 26 + 1) = P (χ + 26 + 1) := h2 27 (by decide) (by decide) (by decide)
    exact ⟨(add 26 0 (by decide)).trans a0, by rw [h2 26 (by decide) (by decide) (by decide)]; exact b0, (add 26 1 (by decide)).trans a1, by rw [e1]; exact b1, (add 26 2 (by decide)).trans a2, (add 26 3 (by decide)).trans a3, (add 26 4 (by decide)).trans a4, (add 26 5 (by decide)).trans a5, (add 26 6 (by decide)).trans a6, (add 26 7 (by decide)).trans a7⟩
  · obtain ⟨a0, b0, a1⟩ := hH
    exact ⟨(add 34 0 (by decide)).trans a0, by rw [h2 34 (by decide) (by decide) (by decide)]; exact b0, (add 34 1 (by decide)).trans a1⟩
  · obtain ⟨a0, ⟨b0, b1⟩, a1, a2⟩ := hR
    have e1 : P' (χ + 37) = P (χ + 37) := h2 37 (by decide) (by decide) (by decide)
    exact ⟨(add 37 0 (by decide)).trans a0, by rw [e1]; exact ⟨b0, b1⟩, (add 37 1 (by decide)).trans a1, (add 37 2 (by decide)).trans a2⟩
theorem zSys.rem {sh : zSh} {P : Nat → Nat → Option Nat} {χ p : Nat} (h : zSys sh P χ) (hp : p < 8) : zSys (remSh sh P (χ + 35) p (χ + 59 + 17 * p)) (remP P (χ + 35) p (χ + 59 + 17 * p)) χ := by
  refine h.to (fun j hj => remSh_ne (by omega)) (fun j hj h1 h2 => remP_ne (by omega) (by omega)) (fun q hq => ?_) (fun q hq => ?_)
  · by_cases hqp : q = p
    · subst hqp
      have := (h.2.2.2.2.2.2.2.1 q hq).sta (by omega)
      exact Or.inl ⟨this.2, this.1⟩
    · exact (h.2.2.2.2.2.2.2.1 q hq).keep (remP_s (by omega) hqp) (fun j hj => remSh_ne (by omega)) (remP_ne (by omega) (by omega)) (remP_ne (by omega) (by omega)) (remP_ne (by omega) (by omega))
  · exact (h.2.2.2.2.2.2.2.2 q hq).keep (by rw [remP_ne (by omega) (by omega)]) (fun j hj => remSh_ne (by omega)) (remP_ne (by omega) (by omega)) (remP_ne (by omega) (by omega)) (remP_ne (by omega) (by omega))
theorem zSys.img {sh : zSh} {P : Nat → Nat → Option Nat} {χ p : Nat} (h : zSys sh P χ) (hp : p < 2) : zSys (remSh sh P (χ + 36) p (χ + 195 + 17 * p)) (remP P (χ + 36) p (χ + 195 + 17 * p)) χ := by
  refine h.to (fun j hj => remSh_ne (by omega)) (fun j hj h1 h2 => remP_ne (by omega) (by omega)) (fun q hq => ?_) (fun q hq => ?_)
  · exact (h.2.2.2.2.2.2.2.1 q hq).keep (by rw [remP_ne (by omega) (by omega)]) (fun j hj => remSh_ne (by omega)) (remP_ne (by omega) (by omega)) (remP_ne (by omega) (by omega)) (remP_ne (by omega) (by omega))
  · by_cases hqp : q = p
    · subst hqp
      have := (h.2.2.2.2.2.2.2.2 q hq).sta (by omega)
      exact Or.inl ⟨this.2, this.1⟩
    · exact (h.2.2.2.2.2.2.2.2 q hq).keep (remP_s (by omega) hqp) (fun j hj => remSh_ne (by omega)) (remP_ne (by omega) (by omega)) (remP_ne (by omega) (by omega)) (remP_ne (by omega) (by omega))
theorem remF_ne {F : Nat → Nat → Int32} {P : Nat → Nat → Option Nat} {η β σ o s τ i : Nat} (h : i < τ ∨ τ + 17 ≤ i) (hη : i ≠ η) : remF F P η β σ o s τ i = F i := by
  unfold remF holdF
  rw [zput_ne (by omega), zput_ne (by omega), remF0_ne (by omega), histF_ne hη]

