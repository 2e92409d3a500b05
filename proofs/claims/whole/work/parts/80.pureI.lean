/-! ===== 80.pureI: share, and the beginning ===== -/
theorem k_share {N χ : Nat} {sh : zSh} {F : Nat → Nat → Int32} {P : Nat → Nat → Option Nat} (h : LI N sh F P χ) (hN : N ≤ 100000000) : ∃ f : UInt32, f.toNat % 2147483648 ≤ 2139095040 ∧ zMet yX6_share wsX6_share 2 0 0 [.ref χ] sh F P (some (.float f)) sh F P ∧ zMet yX7_share wsX7_share 2 0 0 [.ref (χ + 41)] sh F P (some (.float f)) sh F P := by
  obtain ⟨hY, hMd, G, hV, hE⟩ := h
  obtain ⟨cx, hrn, hrk, hsk, hwm, ⟨M, hM, eM⟩, g, hg, eg⟩ := hE.1
  have e1 : cSum (F (χ + 21)) 20 = nI g := hsk.2.2.trans eg
  have e2 : mSumM (G 1) 20 = nI M := (eSumM (S := F (χ + 22)) (w := G 1) (fun t ht => hsk.1 3 t (by decide) (by decide) ht)).symm.trans eM
  exact ⟨_, eShare_nn (g := g) (m := g + M) (by omega), c_X6_share hY e1 eM (by omega), c_X7_share hMd hV eg e2 (by omega)⟩
theorem LI.more {N N' χ : Nat} {sh : zSh} {F : Nat → Nat → Int32} {P : Nat → Nat → Option Nat} (h : LI N sh F P χ) (hN : N ≤ N') : LI N' sh F P χ := by
  obtain ⟨hY, hMd, G, hV, hE⟩ := h
  exact ⟨hY, hMd, G, hV, hE.ask eKeep.refl eQ.refl hN⟩
/-! the beginning: ThingMaker at 1, the model at 42 -/
def sh1 : zSh := va_up (fun _ => none) 1 (some (.inl 6))
def sh2 : zSh := va_up (iSh sh1 1) 42 (some (.inl 7))
def sh3 : zSh := jSh sh2 42
def F0z : Nat → Nat → Int32 := fun _ _ => 0
def F1z : Nat → Nat → Int32 := va_up F0z 1 (fun _ => 0)
def F2z : Nat → Nat → Int32 := va_up (iF F1z 1) 42 (fun _ => 0)
def F3z : Nat → Nat → Int32 := zput (jF F2z 42) 42 13 (jG 20)
def P0z : Nat → Nat → Option Nat := fun _ _ => none
def P1z : Nat → Nat → Option Nat := va_up P0z 1 (fun _ => none)
def P2z : Nat → Nat → Option Nat := va_up (iP P1z 1) 42 (fun _ => none)
def P3z : Nat → Nat → Option Nat := jP P2z 42
theorem sh3_out {i : Nat} (h : 60 ≤ i) : sh3 i = none := by
  unfold sh3 jSh sh2 iSh sh1
  simp (disch := omega) only [zup_ne, zwin_ne]
theorem jW_at : ∀ k i, it (fun t w => upd w (23 * t + 1) (-9)) k (fun _ => (0 : Int32)) i = if i % 23 = 1 ∧ i < 23 * k then -9 else 0 := by
  intro k
  induction k with
  | zero =>
    intro i
    rw [it_zero, if_neg (by omega)]
  | succ k ih =>
    intro i
    rw [it_s]
    by_cases e : i = 23 * k + 1
    · subst e
      rw [upd_eq, if_pos (by omega)]
    · rw [upd_ne e, ih]
      by_cases c : i % 23 = 1 ∧ i < 23 * k
      · rw [if_pos c, if_pos (by omega)]
      · rw [if_neg c, if_neg (by omega)]
theorem jG_1 : jG 20 1 = it (fun t w => upd w (23 * t + 1) (-9)) 20 (fun _ => (0 : Int32)) := by
  unfold jG
  rw [zup_eq]
theorem jG_0 {q : Nat} : jG 20 0 q = upd (upd (fun _ => 0) 7 (-9)) 8 (-9) q := by
  unfold jG
  rw [zup_ne (by decide), zup_eq]
theorem jG_z {i : Nat} (h : i % 23 ≠ 1 ∨ 460 ≤ i) : jG 20 1 i = 0 := by rw [jG_1, jW_at, if_neg (by omega)]
theorem jG_v {t : Nat} (h : t < 20) : jG 20 1 (23 * t + 1) = -9 := by rw [jG_1, jW_at, if_pos (by omega)]
theorem z_sys : zSys sh3 P3z 1 := by
  refine ⟨⟨rfl, rfl, rfl, rfl, rfl, rfl, rfl, rfl, rfl, rfl, rfl⟩, ⟨rfl, ⟨rfl, rfl, rfl, rfl, rfl, rfl, rfl, rfl⟩, rfl, rfl, rfl, rfl, rfl, rfl, rfl, rfl⟩, ⟨rfl, ⟨rfl, rfl, rfl, rfl, rfl, rfl, rfl, rfl⟩, rfl, rfl, rfl, rfl, rfl, rfl, rfl, rfl⟩, ⟨rfl, ⟨rfl, rfl, rfl, rfl, rfl, rfl⟩, rfl, rfl, rfl, rfl, rfl, rfl⟩, ⟨rfl, rfl, rfl, ⟨rfl, rfl, rfl, rfl, rfl, rfl⟩, rfl, rfl, rfl, rfl, rfl, rfl⟩, ⟨rfl, rfl, rfl⟩, ⟨rfl, ⟨rfl, rfl⟩, rfl, rfl⟩, fun p hp => Or.inr ⟨rfl, fun j hj => sh3_out (by omega)⟩, fun p hp => Or.inr ⟨rfl, fun j hj => sh3_out (by omega)⟩⟩
theorem z_begin : LI 0 sh3 F3z P3z 1 ∧ sh3 0 = none := by
  refine ⟨⟨z_sys, jMd rfl, jG 20, fun j hj => zput_at hj, ?_⟩, rfl⟩
  have y0 : ∀ t, t < 20 → eWy (jG 20 1) t = 0 := fun t ht => by unfold eWy; rw [jG_z (by omega)]; rfl
  have c0 : ∀ t, t < 20 → eWc (jG 20 1) t = 0 := fun t ht => by unfold eWc; rw [jG_z (by omega)]; rfl
  have s0 : ∀ t, t < 20 → eWs (jG 20 1) t = 0 := fun t ht => by unfold eWs; rw [jG_z (by omega)]; rfl
  have r0 : ∀ t, t < 20 → nRs (jG 20 1) 12 t = 0 := fun t ht => by
    rw [nRs_at ht]
    unfold nRk
    rw [if_pos (y0 t ht)]
  have bz : ∀ j, 1 ≤ j → j ≤ 8 → j ≠ 7 → zsub F3z 2 j = fun _ => 0 := fun j h1 h8 h7 => by
    have : j = 1 ∨ j = 2 ∨ j = 3 ∨ j = 4 ∨ j = 5 ∨ j = 6 ∨ j = 8 := by omega
    rcases this with rfl | rfl | rfl | rfl | rfl | rfl | rfl <;> rfl
  have b7 : zsub F3z 2 7 = cFill 20 (-9) (fun _ => 0) := rfl
  have sz : ∀ j, j ≤ 6 → zsub F3z 20 j = fun _ => 0 := fun j h6 => by
    have : j = 0 ∨ j = 1 ∨ j = 2 ∨ j = 3 ∨ j = 4 ∨ j = 5 ∨ j = 6 := by omega
    rcases this with rfl | rfl | rfl | rfl | rfl | rfl | rfl <;> rfl
  refine ⟨⟨⟨fun t ht => ?_, fun t ht => ?_⟩, fun t ht => ?_, fun t ht hy => absurd (y0 t ht) hy, ⟨fun j t h1 h6 ht => ?_, ?_, ?_⟩, fun t ht => ⟨0, by decide, jG_z (by omega)⟩, ⟨0, Nat.le_refl _, ?_⟩, 0, Nat.le_refl _, jG_z (by decide)⟩, ⟨0, 0, by decide, by decide, rfl, rfl, ?_, fun k hk => absurd hk (Nat.not_lt_zero _)⟩, fun p hp => ⟨⟨fun _ => rfl, fun _ => ?_⟩, fun hn => absurd rfl hn⟩, ⟨0, rfl, by decide, ?_, fun i hi => absurd hi (Nat.not_lt_zero _)⟩, Or.inl ⟨rfl, ?_, ?_⟩⟩
  · refine ⟨⟨by rw [y0 t ht]; exact jG_z (by omega), by rw [y0 t ht]; decide⟩, ⟨by rw [c0 t ht]; exact jG_z (by omega), by rw [c0 t ht]; decide⟩, fun _ => c0 t ht, ⟨by rw [s0 t ht]; exact jG_z (by omega), by rw [s0 t ht]; decide⟩, fun k hk => ?_, fun k hk => ?_, Or.inl (jG_v ht)⟩
    · rw [c0 t ht] at hk
      exact absurd hk (Nat.not_lt_zero _)
    · rw [s0 t ht] at hk
      exact absurd hk (Nat.not_lt_zero _)
  · refine ⟨?_, ?_, ?_, ?_, fun k hk => ?_, fun k hk => ?_⟩
    · show zsub F3z 2 7 t = _
      rw [b7, jG_v ht]
      exact if_pos ht
    · show zsub F3z 2 1 t = _
      rw [bz 1 (by decide) (by decide) (by decide), jG_z (by omega)]
    · show zsub F3z 2 2 t = _
      rw [bz 2 (by decide) (by decide) (by decide), jG_z (by omega)]
    · show zsub F3z 2 5 t = _
      rw [bz 5 (by decide) (by decide) (by decide), jG_z (by omega)]
    · rw [c0 t ht] at hk
      exact absurd hk (Nat.not_lt_zero _)
    · rw [s0 t ht] at hk
      exact absurd hk (Nat.not_lt_zero _)
  · rw [r0 t ht]
    show zsub F3z 2 8 t = _ ∧ _
    rw [bz 8 (by decide) (by decide) (by decide)]
    exact ⟨rfl, by decide⟩
  · show zsub F3z 20 j t = _
    have e1 : eOff (j + 1) ≠ 1 := by unfold eOff; split <;> omega
    have e2 := eOff_le (show j + 1 ≤ 7 by omega)
    rw [sz j h6, jG_z (by omega)]
  · show zsub F3z 20 0 6 = _
    rw [sz 0 (by decide), jG_z (by decide)]
  · show cSum (zsub F3z 20 2) 20 = _
    rw [sz 2 (by decide), jG_z (by decide)]
    rfl
  · show cSum (zsub F3z 20 3) 20 = _
    rw [sz 3 (by decide)]
    rfl
  · rw [jG_0]
    rfl
  · rw [jG_0]
    have : p = 0 ∨ p = 1 := by omega
    rcases this with rfl | rfl <;> decide
  · rw [jG_0]
    rfl
  · rw [jG_0]
    rfl
  · rw [jG_0]
    rfl
