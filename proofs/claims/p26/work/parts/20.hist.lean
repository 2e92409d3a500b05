/-! ===== 20.hist: History.remember, restore ===== -/
theorem cMod8 : ∀ a, a < 17 → cMod (nI a) 8 = nI (a % 8) := by decide
def remSh (sh : zSh) (P : Nat → Nat → Option Nat) (s p τ : Nat) : zSh := if P s p = none then zwin sh τ 17 stSh else sh
def remP (P : Nat → Nat → Option Nat) (s p τ : Nat) : Nat → Nat → Option Nat := if P s p = none then zuP (zwin P τ 17 (stP τ)) s p (some τ) else P
def remF0 (F : Nat → Nat → Int32) (P : Nat → Nat → Option Nat) (s p τ : Nat) : Nat → Nat → Int32 := if P s p = none then zwin F τ 17 stF else F
/-- a place for a state: it is there, or free -/
def zPl (sh : zSh) (P : Nat → Nat → Option Nat) (s p τ : Nat) : Prop := (P s p = some τ ∧ zSta sh P τ) ∨ (P s p = none ∧ ∀ j, j < 17 → sh (τ + j) = none)
theorem remSh_ne {sh : zSh} {P : Nat → Nat → Option Nat} {s p τ i : Nat} (h : i < τ ∨ τ + 17 ≤ i) : remSh sh P s p τ i = sh i := by
  unfold remSh
  split
  · exact zwin_ne h
  · rfl
theorem remP_ne {P : Nat → Nat → Option Nat} {s p τ i : Nat} (h : i < τ ∨ τ + 17 ≤ i) (hs : i ≠ s) : remP P s p τ i = P i := by
  unfold remP
  split
  · rw [zuP_ne hs, zwin_ne h]
  · rfl
theorem remP_s {P : Nat → Nat → Option Nat} {s p τ k : Nat} (h : s < τ ∨ τ + 17 ≤ s) (hk : k ≠ p) : remP P s p τ s k = P s k := by
  unfold remP
  split
  · rw [zuP_eq, zup_ne hk, zwin_ne h]
  · rfl
theorem remF0_ne {F : Nat → Nat → Int32} {P : Nat → Nat → Option Nat} {s p τ i : Nat} (h : i < τ ∨ τ + 17 ≤ i) : remF0 F P s p τ i = F i := by
  unfold remF0
  split
  · exact zwin_ne h
  · rfl
theorem zBk.keep {sh sh' : zSh} {P P' : Nat → Nat → Option Nat} {β : Nat} (h : zBk sh P β) (h1 : ∀ j, j < 9 → sh' (β + j) = sh (β + j)) (h2 : P' β = P β) : zBk sh' P' β := by
  obtain ⟨a0, b, a1, a2, a3, a4, a5, a6, a7, a8⟩ := h
  refine ⟨(h1 0 (by decide)).trans a0, by rw [h2]; exact b, (h1 1 (by decide)).trans a1, (h1 2 (by decide)).trans a2, (h1 3 (by decide)).trans a3, (h1 4 (by decide)).trans a4, (h1 5 (by decide)).trans a5, (h1 6 (by decide)).trans a6, (h1 7 (by decide)).trans a7, (h1 8 (by decide)).trans a8⟩
theorem zSt.keep {sh sh' : zSh} {P P' : Nat → Nat → Option Nat} {σ : Nat} (h : zSt sh P σ) (h1 : ∀ j, j < 7 → sh' (σ + j) = sh (σ + j)) (h2 : P' σ = P σ) : zSt sh' P' σ := by
  obtain ⟨a0, b, a1, a2, a3, a4, a5, a6⟩ := h
  refine ⟨(h1 0 (by decide)).trans a0, by rw [h2]; exact b, (h1 1 (by decide)).trans a1, (h1 2 (by decide)).trans a2, (h1 3 (by decide)).trans a3, (h1 4 (by decide)).trans a4, (h1 5 (by decide)).trans a5, (h1 6 (by decide)).trans a6⟩
theorem zSta.keep {sh sh' : zSh} {P P' : Nat → Nat → Option Nat} {τ : Nat} (h : zSta sh P τ) (h1 : ∀ j, j < 17 → sh' (τ + j) = sh (τ + j)) (h2 : P' τ = P τ) (h3 : P' (τ + 1) = P (τ + 1)) (h4 : P' (τ + 10) = P (τ + 10)) : zSta sh' P' τ := by
  obtain ⟨a0, b0, b1, hb, hs⟩ := h
  refine ⟨(h1 0 (by decide)).trans a0, by rw [h2]; exact b0, by rw [h2]; exact b1, hb.keep (fun j hj => ?_) h3, hs.keep (fun j hj => ?_) h4⟩
  · have := h1 (1 + j) (by omega)
    rwa [show τ + (1 + j) = τ + 1 + j by omega] at this
  · have := h1 (10 + j) (by omega)
    rwa [show τ + (10 + j) = τ + 10 + j by omega] at this
theorem zBk.new {sh : zSh} {P : Nat → Nat → Option Nat} {β : Nat} (h1 : ∀ j, j < 9 → sh (β + j) = bkSh j) (h2 : P β = bkP β 0) : zBk sh P β := by
  refine ⟨h1 0 (by decide), ?_, h1 1 (by decide), h1 2 (by decide), h1 3 (by decide), h1 4 (by decide), h1 5 (by decide), h1 6 (by decide), h1 7 (by decide), h1 8 (by decide)⟩
  rw [h2]
  exact ⟨rfl, rfl, rfl, rfl, rfl, rfl, rfl, rfl⟩
theorem zSt.new {sh : zSh} {P : Nat → Nat → Option Nat} {σ : Nat} (h1 : ∀ j, j < 7 → sh (σ + j) = skSh j) (h2 : P σ = skP σ 0) : zSt sh P σ := by
  refine ⟨h1 0 (by decide), ?_, h1 1 (by decide), h1 2 (by decide), h1 3 (by decide), h1 4 (by decide), h1 5 (by decide), h1 6 (by decide)⟩
  rw [h2]
  exact ⟨rfl, rfl, rfl, rfl, rfl, rfl⟩
theorem zSta.new {sh : zSh} {P : Nat → Nat → Option Nat} {s p τ : Nat} (hs : s < τ ∨ τ + 17 ≤ s) : zSta (zwin sh τ 17 stSh) (zuP (zwin P τ 17 (stP τ)) s p (some τ)) τ := by
  have e0 : zuP (zwin P τ 17 (stP τ)) s p (some τ) τ = stP τ 0 := by rw [zuP_ne (by omega), zwin_a0 (by decide)]
  have e1 : zuP (zwin P τ 17 (stP τ)) s p (some τ) (τ + 1) = bkP (τ + 1) 0 := by
    rw [zuP_ne (by omega), zwin_at (by decide)]
    exact z17f_1 (q := 0) (by decide)
  have e2 : zuP (zwin P τ 17 (stP τ)) s p (some τ) (τ + 10) = skP (τ + 10) 0 := by
    rw [zuP_ne (by omega), zwin_at (by decide)]
    exact z17f_2 (q := 0)
  refine ⟨(zwin_a0 (by decide)).trans rfl, by rw [e0]; rfl, by rw [e0]; rfl, zBk.new (fun j hj => ?_) e1, zSt.new (fun j hj => ?_) e2⟩
  · rw [show τ + 1 + j = τ + (1 + j) by omega, zwin_at (by omega)]
    exact z17f_1 hj
  · rw [show τ + 10 + j = τ + (10 + j) by omega, zwin_at (by omega)]
    exact z17f_2
theorem zPl.sta {sh : zSh} {P : Nat → Nat → Option Nat} {s p τ : Nat} (h : zPl sh P s p τ) (hs : s < τ ∨ τ + 17 ≤ s) : zSta (remSh sh P s p τ) (remP P s p τ) τ ∧ remP P s p τ s p = some τ := by
  unfold remSh remP
  rcases h with ⟨h1, h2⟩ | ⟨h1, h2⟩
  · have hc : ¬ P s p = none := by rw [h1]; simp
    rw [if_neg hc, if_neg hc]
    exact ⟨h2, h1⟩
  · rw [if_pos h1, if_pos h1]
    exact ⟨zSta.new hs, by rw [zuP_eq, zup_eq]⟩
theorem c_X6_roomAt {sh : zSh} {F : Nat → Nat → Int32} {P : Nat → Nat → Option Nat} {s n i τ : Nat} (hs : sh s = some (.inr (2, n))) (hn : n < 2 ^ 31) (hi : i < n) (hp : zPl sh P s i τ) (hsw : s < τ ∨ τ + 17 ≤ s) : zMet yX6_roomAt wsX6_roomAt 4 17 497 [.ref s, .int (nI i)] sh F P (some (.ref τ)) (remSh sh P s i τ) (remF0 F P s i τ) (remP P s i τ) := by
  unfold remSh remF0 remP
  rcases hp with ⟨h1, h2⟩ | ⟨h1, h2⟩
  · have hc : ¬ P s i = none := by rw [h1]; simp
    rw [if_neg hc, if_neg hc, if_neg hc]
    exact c_X6_roomAt_s hs hn hi h1
  · rw [if_pos h1, if_pos h1, if_pos h1]
    exact c_X6_roomAt_n hs hn hi h1 h2 hsw
def histF (F : Nat → Nat → Int32) (η o s : Nat) : Nat → Nat → Int32 := if s < 8 then va_up F η (upd (F η) 2 (nI s + 1)) else va_up F η (upd (F η) 1 (nI ((o + 1) % 8)))
theorem histF_ne {F : Nat → Nat → Int32} {η o s i : Nat} (h : i ≠ η) : histF F η o s i = F i := by
  unfold histF
  split <;> exact zup_ne h
/-- what hold lays, from memory F: the state's block at τ, the book at β, the stock at σ -/
def holdF (F : Nat → Nat → Int32) (τ β σ : Nat) : Nat → Nat → Int32 := zput (zput F (τ + 1) 9 (bCopy (zsub F (τ + 1)) (zsub F β))) (τ + 10) 7 (sCopy (zsub F (τ + 10)) (zsub F σ))
def layF (F : Nat → Nat → Int32) (τ β σ : Nat) : Nat → Nat → Int32 := zput (zput F β 9 (bCopy (zsub F β) (zsub F (τ + 1)))) σ 7 (sCopy (zsub F σ) (zsub F (τ + 10)))
def remF (F : Nat → Nat → Int32) (P : Nat → Nat → Option Nat) (η β σ o s τ : Nat) : Nat → Nat → Int32 := holdF (remF0 (histF F η o s) P (η + 1) ((o + s) % 8) τ) τ β σ

abbrev mX1_remember : ZM := (cX1_remember, RX1, wsX1_remember, 5, 17, 497, none, 4, yX1_remember.name)
set_option maxHeartbeats 1000000 in
set_option maxRecDepth 100000 in
theorem c_X1_remember {sh : zSh} {F : Nat → Nat → Int32} {P : Nat → Nat → Option Nat} {η β σ τ o s : Nat} (hH : zHi sh P η) (ho : o < 8) (hs : s ≤ 8) (h1 : F η 1 = nI o) (h2 : F η 2 = nI s) (hpl : zPl sh P (η + 1) ((o + s) % 8) τ) (hB : zBk sh P β) (hS : zSt sh P σ) (d1 : η + 2 ≤ τ ∨ τ + 17 ≤ η) (d2 : β + 9 ≤ τ ∨ τ + 17 ≤ β) (d3 : σ + 7 ≤ τ ∨ τ + 17 ≤ σ) (d4 : β + 9 ≤ σ ∨ σ + 7 ≤ β) (d5 : η + 2 ≤ β ∨ β + 9 ≤ η) (d6 : η + 2 ≤ σ ∨ σ + 7 ≤ η) : zMet yX1_remember wsX1_remember (5) (17) (497) [.ref η, .ref β, .ref σ] sh F P (none) (remSh sh P (η + 1) ((o + s) % 8) τ) (remF F P η β σ o s τ) (remP P (η + 1) ((o + s) % 8) τ) := by
  refine zMet.of (by decide) rfl (Nat.le_of_ble_eq_true rfl) (by simp [Value.category]) ?_
  intro X ρ
  show AW mX1_remember X (zMQ mX1_remember X (none) (remSh sh P (η + 1) ((o + s) % 8) τ) (remF F P η β σ o s τ) (remP P (η + 1) ((o + s) % 8) τ)) 0 [some (.ref η), some (.ref β), some (.ref σ), none] [] ρ sh F P 0 0
  have hinX1 : ∀ w ∈ u_ws RX1 TX1 3, w ∈ wsX1_remember := by decide +kernel
  obtain ⟨hs0, hp0, hs1⟩ := id hH
  have hps := hpl.sta (by omega)
  have hsτ := hps.1.1
  refine aw_aload_0 dX1_remember_0 ?_
  refine aw_aload_0 dX1_remember_1 ?_
  refine aw_getI fX1_2 hinX1 (by decide +kernel : Cond.fieldLink RX1 17 RX1 (TX1 2).2.1 (TX1 2).2.2.1 ∈ wsX1_remember) (by assumption) dX1_remember_2 ?_
  rw [h2]
  refine aw_run (zRun_V (c_X1_placeOf (by assumption)) gX1_remember_X1_placeOf q_X1_placeOf rfl (by decide) rfl (by assumption) rfl rfl (Nat.le_of_ble_eq_true rfl) dX1_remember_5 ⟨by decide, by decide⟩) ?_
  rw [h1, nI_add, cMod8 _ (by omega)]
  refine aw_istore_3 dX1_remember_8 ?_
  refine aw_aload_0 dX1_remember_9 ?_
  refine aw_getI fX1_2 hinX1 (by decide +kernel : Cond.fieldLink RX1 17 RX1 (TX1 2).2.1 (TX1 2).2.2.1 ∈ wsX1_remember) (by assumption) dX1_remember_10 ?_
  rw [h2]
  refine aw_bipush (v := 8) dX1_remember_13 (by decide) ?_
  refine aw_icmp_ge (tgt := 31) dX1_remember_15 (by decide) (fun c15 => ?_) (fun c15 => ?_)
  · refine aw_aload_0 dX1_remember_31 ?_
    refine aw_aload_0 dX1_remember_32 ?_
    refine aw_iconst (v := 1) dX1_remember_33 (by decide) ?_
    refine aw_run (zRun_V (c_X1_placeOf (by assumption)) gX1_remember_X1_placeOf q_X1_placeOf rfl (by decide) rfl (by assumption) rfl rfl (Nat.le_of_ble_eq_true rfl) dX1_remember_34 ⟨by decide, by decide⟩) ?_
    rw [h1, nI_1, cMod8 _ (by omega)]
    refine aw_putI fX1_1 rfl hinX1 (by decide +kernel : Cond.fieldLink RX1 25 RX1 (TX1 1).2.1 (TX1 1).2.2.1 ∈ wsX1_remember) (by assumption) dX1_remember_37 ?_
    refine aw_cF (F' := histF F η o s) (by unfold histF; first | rw [if_pos (by rcases Nat.lt_or_ge s 8 with h | h; exact h; exact absurd (nI_le h (by omega)) c15)]; rfl | rw [if_neg (by have := (nI_leI (a := 8) (b := s) (by decide) (by omega)).mp c15; omega)]; rfl) ?_
    refine aw_aload_0 dX1_remember_40 ?_
    refine aw_getR fX1_0 (fun _ _ => rfl) (by assumption) hinX1 (by decide +kernel : Cond.fieldLink RX1 11 RX1 (TX1 0).2.1 (TX1 0).2.2.1 ∈ wsX1_remember) (by assumption) dX1_remember_41 ?_
    refine aw_iload_3 dX1_remember_44 ?_
    refine aw_runA (zRun_SN (qn := 9) (c_X6_roomAt hs1 (by decide) (Nat.mod_lt _ (by decide)) hpl (by omega)) gX1_remember_X6_roomAt_n28 rfl (by decide +kernel : Cond.static yX6_roomAt ∈ wsX1_remember) (by decide +kernel : Cond.initialized yX6_roomAt.cls ∈ wsX1_remember) q_X6_roomAt (by decide) rfl rfl (Nat.le_of_ble_eq_true rfl) dX1_remember_45 ⟨by decide, by decide⟩) (by refine ⟨fun j hj => ?_, fun j hj => ?_⟩ <;> (left; simp at hj <;> (first | (rcases hj with hj | hj | hj) | skip) <;> (rw [hj]; first | exact (by rw [hs0]; simp) | exact (by rw [hB.1]; simp) | exact (by rw [hS.1]; simp)))) (fun ρ => ?_)
    refine aw_aload_1 dX1_remember_48 ?_
    refine aw_aload_2 dX1_remember_49 ?_
    refine aw_runv (zRun_V (c_X3_hold hps.1 (hB.keep (fun j hj => remSh_ne (by omega)) (remP_ne (by omega) (by omega))) (hS.keep (fun j hj => remSh_ne (by omega)) (remP_ne (by omega) (by omega))) (by omega) (by omega) (by omega)) gX1_remember_X3_hold q_X3_hold rfl (by decide) rfl (by assumption) rfl rfl (Nat.le_of_ble_eq_true rfl) dX1_remember_50 ⟨by decide, by decide⟩) ?_
    exact aw_return rfl dX1_remember_53 (by decide) rfl rfl rfl rfl
  · refine aw_aload_0 dX1_remember_18 ?_
    refine aw_dup rfl dX1_remember_19 ?_
    refine aw_getI fX1_2 hinX1 (by decide +kernel : Cond.fieldLink RX1 17 RX1 (TX1 2).2.1 (TX1 2).2.2.1 ∈ wsX1_remember) (by assumption) dX1_remember_20 ?_
    rw [h2]
    refine aw_iconst (v := 1) dX1_remember_23 (by decide) ?_
    refine aw_iadd dX1_remember_24 ?_
    refine aw_putI fX1_2 rfl hinX1 (by decide +kernel : Cond.fieldLink RX1 17 RX1 (TX1 2).2.1 (TX1 2).2.2.1 ∈ wsX1_remember) (by assumption) dX1_remember_25 ?_
    refine aw_goto (tgt := 40) dX1_remember_28 (by decide) ?_
    refine aw_cF (F' := histF F η o s) (by unfold histF; first | rw [if_pos (by rcases Nat.lt_or_ge s 8 with h | h; exact h; exact absurd (nI_le h (by omega)) c15)]; rfl | rw [if_neg (by have := (nI_leI (a := 8) (b := s) (by decide) (by omega)).mp c15; omega)]; rfl) ?_
    refine aw_aload_0 dX1_remember_40 ?_
    refine aw_getR fX1_0 (fun _ _ => rfl) (by assumption) hinX1 (by decide +kernel : Cond.fieldLink RX1 11 RX1 (TX1 0).2.1 (TX1 0).2.2.1 ∈ wsX1_remember) (by assumption) dX1_remember_41 ?_
    refine aw_iload_3 dX1_remember_44 ?_
    refine aw_runA (zRun_SN (qn := 9) (c_X6_roomAt hs1 (by decide) (Nat.mod_lt _ (by decide)) hpl (by omega)) gX1_remember_X6_roomAt_n28 rfl (by decide +kernel : Cond.static yX6_roomAt ∈ wsX1_remember) (by decide +kernel : Cond.initialized yX6_roomAt.cls ∈ wsX1_remember) q_X6_roomAt (by decide) rfl rfl (Nat.le_of_ble_eq_true rfl) dX1_remember_45 ⟨by decide, by decide⟩) (by refine ⟨fun j hj => ?_, fun j hj => ?_⟩ <;> (left; simp at hj <;> (first | (rcases hj with hj | hj | hj) | skip) <;> (rw [hj]; first | exact (by rw [hs0]; simp) | exact (by rw [hB.1]; simp) | exact (by rw [hS.1]; simp)))) (fun ρ => ?_)
    refine aw_aload_1 dX1_remember_48 ?_
    refine aw_aload_2 dX1_remember_49 ?_
    refine aw_runv (zRun_V (c_X3_hold hps.1 (hB.keep (fun j hj => remSh_ne (by omega)) (remP_ne (by omega) (by omega))) (hS.keep (fun j hj => remSh_ne (by omega)) (remP_ne (by omega) (by omega))) (by omega) (by omega) (by omega)) gX1_remember_X3_hold q_X3_hold rfl (by decide) rfl (by assumption) rfl rfl (Nat.le_of_ble_eq_true rfl) dX1_remember_50 ⟨by decide, by decide⟩) ?_
    exact aw_return rfl dX1_remember_53 (by decide) rfl rfl rfl rfl

abbrev mX1_restore : ZM := (cX1_restore, RX1, wsX1_restore, 5, 0, 0, none, 4, yX1_restore.name)
set_option maxHeartbeats 1000000 in
set_option maxRecDepth 100000 in
theorem c_X1_restore {sh : zSh} {F : Nat → Nat → Int32} {P : Nat → Nat → Option Nat} {η β σ τ o s : Nat} (hH : zHi sh P η) (ho : o < 8) (hs : s ≤ 8) (hs1' : 1 ≤ s) (h1 : F η 1 = nI o) (h2 : F η 2 = nI s) (hpl : P (η + 1) ((o + (s - 1)) % 8) = some τ) (hA : zSta sh P τ) (hB : zBk sh P β) (hS : zSt sh P σ) (d1 : η + 2 ≤ τ ∨ τ + 17 ≤ η) (d2 : β + 9 ≤ τ ∨ τ + 17 ≤ β) (d3 : σ + 7 ≤ τ ∨ τ + 17 ≤ σ) (d4 : β + 9 ≤ σ ∨ σ + 7 ≤ β) (d5 : η + 2 ≤ β ∨ β + 9 ≤ η) (d6 : η + 2 ≤ σ ∨ σ + 7 ≤ η) : zMet yX1_restore wsX1_restore (5) (0) (0) [.ref η, .ref β, .ref σ] sh F P (none) sh (layF (va_up F η (upd (F η) 2 (nI (s - 1)))) τ β σ) P := by
  refine zMet.of (by decide) rfl (Nat.le_of_ble_eq_true rfl) (by simp [Value.category]) ?_
  intro X ρ
  show AW mX1_restore X (zMQ mX1_restore X (none) sh (layF (va_up F η (upd (F η) 2 (nI (s - 1)))) τ β σ) P) 0 [some (.ref η), some (.ref β), some (.ref σ), none] [] ρ sh F P 0 0
  have hinX1 : ∀ w ∈ u_ws RX1 TX1 3, w ∈ wsX1_restore := by decide +kernel
  obtain ⟨hs0, hp0, hs1⟩ := id hH
  have hsτ := hA.1
  refine aw_aload_0 dX1_restore_0 ?_
  refine aw_getI fX1_2 hinX1 (by decide +kernel : Cond.fieldLink RX1 17 RX1 (TX1 2).2.1 (TX1 2).2.2.1 ∈ wsX1_restore) (by assumption) dX1_restore_1 ?_
  rw [h2]
  refine aw_iconst (v := 1) dX1_restore_4 (by decide) ?_
  refine aw_icmp_ge (tgt := 9) dX1_restore_5 (by decide) (fun c5 => ?_) (fun c5 => absurd (nI_le hs1' (by omega)) c5)
  refine aw_aload_0 dX1_restore_9 ?_
  refine aw_dup rfl dX1_restore_10 ?_
  refine aw_getI fX1_2 hinX1 (by decide +kernel : Cond.fieldLink RX1 17 RX1 (TX1 2).2.1 (TX1 2).2.2.1 ∈ wsX1_restore) (by assumption) dX1_restore_11 ?_
  rw [h2]
  refine aw_iconst (v := 1) dX1_restore_14 (by decide) ?_
  refine aw_isub dX1_restore_15 ?_
  rw [show nI s - 1 = nI (s - 1) from pk_sub (a := s) (b := 1) hs1']
  refine aw_putI fX1_2 rfl hinX1 (by decide +kernel : Cond.fieldLink RX1 17 RX1 (TX1 2).2.1 (TX1 2).2.2.1 ∈ wsX1_restore) (by assumption) dX1_restore_16 ?_
  refine aw_aload_0 dX1_restore_19 ?_
  refine aw_getR fX1_0 (fun _ _ => rfl) (by assumption) hinX1 (by decide +kernel : Cond.fieldLink RX1 11 RX1 (TX1 0).2.1 (TX1 0).2.2.1 ∈ wsX1_restore) (by assumption) dX1_restore_20 ?_
  refine aw_aload_0 dX1_restore_23 ?_
  refine aw_aload_0 dX1_restore_24 ?_
  refine aw_getI fX1_2 hinX1 (by decide +kernel : Cond.fieldLink RX1 17 RX1 (TX1 2).2.1 (TX1 2).2.2.1 ∈ wsX1_restore) (by assumption) dX1_restore_25 ?_
  rw [zu_up, zup_eq]
  refine aw_run (zRun_V (c_X1_placeOf (by assumption)) gX1_restore_X1_placeOf q_X1_placeOf rfl (by decide) rfl (by assumption) rfl rfl (Nat.le_of_ble_eq_true rfl) dX1_restore_28 ⟨Nat.le_refl _, Nat.le_refl _⟩) ?_
  rw [zup_eq, show upd (F η) 2 (nI (s - 1)) 1 = nI o by simp [upd, h1], show upd (F η) 2 (nI (s - 1)) 2 = nI (s - 1) by simp [upd], nI_add, cMod8 _ (by omega)]
  refine aw_run (zRun_SN (qn := 10) (c_X6_stateAt_s hs1 (by decide) (Nat.mod_lt _ (by decide)) hpl) gX1_restore_X6_stateAt_n36 rfl (by decide +kernel : Cond.static yX6_stateAt ∈ wsX1_restore) (by decide +kernel : Cond.initialized yX6_stateAt.cls ∈ wsX1_restore) q_X6_stateAt (by decide) rfl rfl (Nat.le_of_ble_eq_true rfl) dX1_restore_31 ⟨Nat.le_refl _, Nat.le_refl _⟩) ?_
  refine aw_astore_3 dX1_restore_34 ?_
  refine aw_aload_3 dX1_restore_35 ?_
  refine aw_ifnull dX1_restore_36 ?_
  refine aw_aload_3 dX1_restore_39 ?_
  refine aw_aload_1 dX1_restore_40 ?_
  refine aw_aload_2 dX1_restore_41 ?_
  refine aw_runv (zRun_V (c_X3_layOut hA hB hS (by omega) (by omega) (by omega)) gX1_restore_X3_layOut q_X3_layOut rfl (by decide) rfl (by assumption) rfl rfl (Nat.le_of_ble_eq_true rfl) dX1_restore_42 ⟨Nat.le_refl _, Nat.le_refl _⟩) ?_
  exact aw_return rfl dX1_restore_45 ⟨Nat.zero_le _, Nat.zero_le _⟩ rfl rfl rfl rfl

