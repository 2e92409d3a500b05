/-! ===== 41.wacc: the accounts of a thing in a making ===== -/
/-- what of a thing in the store came neither by gathering nor by batches nor as a vessel, had nothing been used -/
def wDl (V : Nat → Nat → Int32) (t : Nat) : Int32 := V 2 t - V 3 t - V 4 t + V 5 t - V 6 t
theorem wDl_add3 (a b c d e n : Int32) : (a + n) - (b + n) - c + d - e = a - b - c + d - e := by grind
theorem wDl_add4 (a b c d e n : Int32) : (a + n) - b - (c + n) + d - e = a - b - c + d - e := by grind
theorem wDl_add6 (a b c d e n : Int32) : (a + n) - b - c + d - (e + n) = a - b - c + d - e := by grind
theorem wDl_use (a b c d e n : Int32) : (a + -n) - b - c + (d + n) - e = a - b - c + d - e := by grind
theorem wDl_come {V : Nat → Nat → Int32} {j : Nat} (hj : j = 3 ∨ j = 4 ∨ j = 6) (i n : Int32) (t : Nat) : wDl (wCome V j i n) t = wDl V t ∧ wCome V j i n 7 = V 7 := by
  have h0 : ∀ x : Nat → Int32, ∀ t, wDl (va_up V 0 x) t = wDl V t := fun x t => by
    unfold wDl
    simp (disch := omega) only [zup_ne]
  have key : ∀ W : Nat → Nat → Int32, (∀ k, k ≠ 0 → W k = va_up (va_up V 2 (cAdd 20 (V 2) i n)) j (cAdd 20 (V j) i n) k) → wDl W t = wDl V t ∧ W 7 = V 7 := by
    intro W hW
    unfold wDl
    rw [hW 2 (by decide), hW 3 (by decide), hW 4 (by decide), hW 5 (by decide), hW 6 (by decide), hW 7 (by decide)]
    rcases pIx (n := 20) (by decide) i with ⟨-, a, -⟩ | ⟨q, hq, rfl⟩
    · rw [a, a]
      rcases hj with rfl | rfl | rfl
      all_goals simp (disch := omega) only [zup_ne, zup_eq, and_self]
    · rw [eAdd hq (by decide), eAdd hq (by decide)]
      by_cases e : t = q
      · subst e
        rcases hj with rfl | rfl | rfl
        all_goals simp (disch := omega) only [zup_ne, zup_eq, upd_eq, and_true]
        · exact wDl_add3 _ _ _ _ _ _
        · exact wDl_add4 _ _ _ _ _ _
        · exact wDl_add6 _ _ _ _ _ _
      · rcases hj with rfl | rfl | rfl
        all_goals simp (disch := omega) only [zup_ne, zup_eq, upd_ne e, and_self]
  unfold wCome
  split
  · exact key _ fun _ _ => rfl
  · exact key _ fun k hk => zup_ne hk
theorem wDl_use0 {V : Nat → Nat → Int32} (i n : Int32) (t : Nat) : wDl (wUse0 V i n) t = wDl V t ∧ wUse0 V i n 7 = V 7 := by
  unfold wDl wUse0
  simp (disch := omega) only [zup_ne, zup_eq, and_true]
  rcases pIx (n := 20) (by decide) i with ⟨-, a, -⟩ | ⟨q, hq, rfl⟩
  · rw [a, a]
  · rw [eAdd hq (by decide), eAdd hq (by decide)]
    by_cases e : t = q
    · subst e
      rw [upd_eq, upd_eq]
      exact wDl_use _ _ _ _ _ _
    · rw [upd_ne e, upd_ne e]
theorem wDl_obj {V W : Nat → Nat → Int32} (h : ∀ k, 2 ≤ k → W k = V k) (t : Nat) : wDl W t = wDl V t ∧ W 7 = V 7 := by
  unfold wDl
  rw [h 2 (by decide), h 3 (by decide), h 4 (by decide), h 5 (by decide), h 6 (by decide), h 7 (by decide)]
  exact ⟨rfl, rfl⟩
def wSm (V W : Nat → Nat → Int32) : Prop := (∀ t, wDl W t = wDl V t) ∧ W 7 = V 7
theorem wSm.of {V W : Nat → Nat → Int32} (h : ∀ t, wDl W t = wDl V t ∧ W 7 = V 7) : wSm V W := ⟨fun t => (h t).1, (h 0).2⟩
theorem wSm.trans {V W U : Nat → Nat → Int32} (h : wSm V W) (g : wSm W U) : wSm V U := ⟨fun t => (g.1 t).trans (h.1 t), g.2.trans h.2⟩
theorem wSm.use {B V : Nat → Nat → Int32} (i n : Int32) : wSm V (wUse B V i n) := by
  unfold wUse
  split
  · exact wSm.of fun t => wDl_use0 i _ t
  · exact (wSm.of fun t => wDl_use0 i (wN V i n) t).trans (wSm.of fun t => wDl_come (by omega) _ _ t)
theorem wSm.col {V : Nat → Nat → Int32} (i n : Int32) : wSm V (wCol V i n) := by
  have h1 : wSm V (wCol0 V n) := by
    refine wSm.of fun t => wDl_obj (fun k hk => ?_) t
    unfold wCol0 wColF
    split
    · rw [zup_ne (by omega), zup_ne (by omega)]
    · rw [zup_ne (by omega)]
  unfold wCol
  exact h1.trans (wSm.of fun t => wDl_come (by omega) _ _ t)
theorem wSm.done {B V : Nat → Nat → Int32} (i c : Int32) : wSm V (wDone B i c V) := by
  unfold wDone
  split
  · exact (wSm.of fun t => wDl_come (j := 4) (by omega) i (bYield B i * c) t).trans (wSm.of fun t => wDl_obj (fun k hk => zup_ne (by omega)) t)
  · exact wSm.of fun t => ⟨rfl, rfl⟩
theorem wSm.run {B V0 : Nat → Nat → Int32} (f : Nat) (t c : Int32) : wSm V0 (wRun B f t c V0) := by
  have h := wStr (B := B) (R := fun V V' => V' = V ∧ wSm V0 V) (fun V V' h => by rw [h.1]; exact ⟨rfl, rfl, fun _ _ => rfl⟩)
    (fun V V' t n h => ⟨by rw [h.1], h.2.trans (wSm.use t n)⟩) (fun V V' t n h => ⟨by rw [h.1], h.2.trans (wSm.col t n)⟩)
    (fun V V' c h => ⟨by rw [h.1], h.2.trans (wSm.of fun t => wDl_obj (fun k hk => by unfold wBat; rw [zup_ne (by omega)]) t)⟩)
    (fun V V' h => ⟨by rw [h.1], h.2.trans (wSm.of fun t => wDl_obj (fun k hk => by unfold wFail; rw [zup_ne (by omega)]) t)⟩)
    (fun V V' t c h => ⟨by rw [h.1], h.2.trans (wSm.done t c)⟩) f t c V0 V0 ⟨rfl, wSm.of fun t => ⟨rfl, rfl⟩⟩
  exact h.2
theorem wSm.ful {B V : Nat → Nat → Int32} (t n : Int32) : wSm V (wFul B V t n) := by
  unfold wFul wProv
  split
  · exact wSm.of fun t => ⟨rfl, rfl⟩
  · split
    · exact wSm.col _ _
    · exact wSm.run _ _ _
