/-! ===== 12.book: ThingMaker$Book, by program ===== -/
def it {σ : Type} (f : Nat → σ → σ) : Nat → σ → σ
  | 0, s => s
  | n + 1, s => f n (it f n s)
def anyLt (p : Nat → Bool) : Nat → Bool
  | 0 => false
  | n + 1 => anyLt p n || p n
theorem anyLt_true {p : Nat → Bool} {n i : Nat} (h : i < n) (hp : p i = true) : anyLt p n = true := by
  induction n with
  | zero => omega
  | succ n ih =>
    rcases Nat.lt_or_ge i n with h2 | h2
    · simp [anyLt, ih h2]
    · have : i = n := by omega
      subst this
      simp [anyLt, hp]
theorem zcl_lt (c : Int32) : c.toNatClampNeg < 2 ^ 31 := by
  by_cases h : c < 0
  · have : c.toInt < 0 := by simpa using Int32.lt_iff_toInt_lt.mp h
    have h2 : c.toNatClampNeg = 0 := by
      show c.toInt.toNat = 0
      omega
    omega
  · obtain ⟨j, hj, rfl⟩ := nI_of h
    rw [nI_clamp hj]
    exact hj
theorem zcle {c : Int32} {i : Nat} (hi : i ≤ c.toNatClampNeg) (h : c ≤ nI i) : i = c.toNatClampNeg := by
  by_cases h0 : c < 0
  · have : c.toInt < 0 := by simpa using Int32.lt_iff_toInt_lt.mp h0
    have h2 : c.toNatClampNeg = 0 := by
      show c.toInt.toNat = 0
      omega
    omega
  · obtain ⟨j, hj, rfl⟩ := nI_of h0
    rw [nI_clamp hj] at hi ⊢
    exact zend hi hj h
theorem zclt {c : Int32} {i : Nat} (hi : i ≤ c.toNatClampNeg) (h : ¬ c ≤ nI i) : i < c.toNatClampNeg := by
  by_cases h0 : c < 0
  · exfalso
    have h1 : c.toInt < 0 := by simpa using Int32.lt_iff_toInt_lt.mp h0
    have h2 : c.toNatClampNeg = 0 := by
      show c.toInt.toNat = 0
      omega
    have h3 : i = 0 := by omega
    subst h3
    exact h (Int32.le_iff_toInt_le.mpr (by rw [nI_toInt (by omega)]; omega))
  · obtain ⟨j, hj, rfl⟩ := nI_of h0
    rw [nI_clamp hj] at hi ⊢
    exact zlt hi hj h
/-- a book's cells: the object at β, its rows behind it -/
def zBk (sh : zSh) (P : Nat → Nat → Option Nat) (β : Nat) : Prop := sh β = some (.inl 0) ∧ (P β 0 = some (β + 1) ∧ P β 1 = some (β + 2) ∧ P β 2 = some (β + 3) ∧ P β 3 = some (β + 4) ∧ P β 4 = some (β + 5) ∧ P β 5 = some (β + 6) ∧ P β 6 = some (β + 7) ∧ P β 7 = some (β + 8)) ∧ sh (β + 1) = some (.inr (0, 20)) ∧ sh (β + 2) = some (.inr (0, 20)) ∧ sh (β + 3) = some (.inr (0, 100)) ∧ sh (β + 4) = some (.inr (0, 100)) ∧ sh (β + 5) = some (.inr (0, 20)) ∧ sh (β + 6) = some (.inr (0, 60)) ∧ sh (β + 7) = some (.inr (0, 20)) ∧ sh (β + 8) = some (.inr (0, 20))
/-! what a book tells, from its rows: B j is the row at β + j -/
def bYield (B : Nat → Nat → Int32) (t : Int32) : Int32 := cAt 20 (B 1) t
def bMade (B : Nat → Nat → Int32) (t : Int32) : Int32 := if bYield B t ≤ 0 then 0 else 1
def bIngs (B : Nat → Nat → Int32) (t : Int32) : Int32 := cAt 20 (B 2) t
def bIng (B : Nat → Nat → Int32) (t k : Int32) : Int32 := cAt 100 (B 3) (t * 5 + k)
def bAmt (B : Nat → Nat → Int32) (t k : Int32) : Int32 := cAt 100 (B 4) (t * 5 + k)
def bSubs (B : Nat → Nat → Int32) (t : Int32) : Int32 := cAt 20 (B 5) t
def bSub (B : Nat → Nat → Int32) (t k : Int32) : Int32 := cAt 60 (B 6) (t * 3 + k)
def bVes (B : Nat → Nat → Int32) (t : Int32) : Int32 := cAt 20 (B 7) t
def bRank (B : Nat → Nat → Int32) (t : Int32) : Int32 := cAt 20 (B 8) t
/-- a part of the memory, from an id on -/
def zsub (F : Nat → Nat → Int32) (b : Nat) : Nat → Nat → Int32 := fun j => F (b + j)
def cMax (x y : Int32) : Int32 := if x < y then y else x
def bMadeSet (B : Nat → Nat → Int32) : Int32 := it (fun i s => if bMade B (nI i) = 0 then s else s ||| ((1 : Int32) <<< (nI i &&& 31))) 20 0
def bGreatest (B : Nat → Nat → Int32) : Int32 := it (fun i g => cMax g (bRank B (nI i))) 20 0
def bGri (B : Nat → Nat → Int32) (s : Int32) : Int32 := it (fun i g => if cHasBit s (nI i) = 0 then g else cMax g (bRank B (nI i))) 20 0
def bNeedsS (B : Nat → Nat → Int32) (p : Int32) (s : Int32) : Int32 := it (fun j s => s ||| ((1 : Int32) <<< (bSub B p (nI j) &&& 31))) (bSubs B p).toNatClampNeg s
def bNeeds (B : Nat → Nat → Int32) (t : Int32) : Int32 := it (fun k s => bNeedsS B (bIng B t (nI k)) (s ||| ((1 : Int32) <<< (bIng B t (nI k) &&& 31)))) (bIngs B t).toNatClampNeg 0
def bWider (B : Nat → Nat → Int32) (s : Int32) : Int32 := it (fun i w => if cHasBit s (nI i) = 0 then w else w ||| bNeeds B (nI i)) 20 s
def bAll (B : Nat → Nat → Int32) (t : Int32) : Int32 := it (fun _ s => bWider B s) 20 (bNeeds B t)
def bHasSub (B : Nat → Nat → Int32) (t s : Int32) : Bool := anyLt (fun i => bSub B t (nI i) == s) (bSubs B t).toNatClampNeg
def bIsVes (B : Nat → Nat → Int32) (t : Int32) : Bool := anyLt (fun i => bVes B (nI i) == t) 20
def cFill (n : Nat) (v : Int32) (f : Nat → Int32) : Nat → Int32 := fun k => if k < n then v else f k

abbrev mX0_yieldOf : ZM := (cX0_yieldOf, RX0, wsX0_yieldOf, 2, 0, 0, (some .int), 2, yX0_yieldOf.name)
set_option maxHeartbeats 4000000 in
set_option maxRecDepth 100000 in
theorem c_X0_yieldOf {sh : zSh} {F : Nat → Nat → Int32} {P : Nat → Nat → Option Nat} {β : Nat} {t : Int32} (hB : zBk sh P β) : zMet yX0_yieldOf wsX0_yieldOf (2) (0) (0) [.ref β, .int t] sh F P (some (.int (bYield (zsub F β) t))) sh F P := by
  refine zMet.of (by decide) rfl (Nat.le_of_ble_eq_true rfl) (by simp [Value.category]) ?_
  intro X ρ
  show AW mX0_yieldOf X (zMQ mX0_yieldOf X (some (.int (bYield (zsub F β) t))) sh F P) 0 [some (.ref β), some (.int t)] [] ρ sh F P 0 0
  have hinX0 : ∀ w ∈ u_ws RX0 TX0 8, w ∈ wsX0_yieldOf := by decide +kernel
  obtain ⟨hs, ⟨p0, p1, p2, p3, p4, p5, p6, p7⟩, s1, s2, s3, s4, s5, s6, s7, s8⟩ := id hB
  refine aw_aload_0 dX0_yieldOf_0 ?_
  refine aw_getR fX0_0 (fun _ _ => rfl) (by assumption) hinX0 (by decide +kernel) (by assumption) dX0_yieldOf_1 ?_
  refine aw_iload_1 dX0_yieldOf_4 ?_
  refine aw_run (zRun_SN (qn := 7) (c_X6_at (by assumption) (by decide)) gX0_yieldOf_X6_at_n46 rfl (by decide +kernel) (by decide +kernel) q_X6_at (by decide) rfl rfl (Nat.le_of_ble_eq_true rfl) dX0_yieldOf_5 ⟨Nat.le_refl _, Nat.le_refl _⟩) ?_
  exact aw_ireturn rfl dX0_yieldOf_8 ⟨Nat.zero_le _, Nat.zero_le _⟩ (by first | rfl | simp []) rfl rfl rfl

abbrev mX0_ingredientsOf : ZM := (cX0_ingredientsOf, RX0, wsX0_ingredientsOf, 2, 0, 0, (some .int), 2, yX0_ingredientsOf.name)
set_option maxHeartbeats 4000000 in
set_option maxRecDepth 100000 in
theorem c_X0_ingredientsOf {sh : zSh} {F : Nat → Nat → Int32} {P : Nat → Nat → Option Nat} {β : Nat} {t : Int32} (hB : zBk sh P β) : zMet yX0_ingredientsOf wsX0_ingredientsOf (2) (0) (0) [.ref β, .int t] sh F P (some (.int (bIngs (zsub F β) t))) sh F P := by
  refine zMet.of (by decide) rfl (Nat.le_of_ble_eq_true rfl) (by simp [Value.category]) ?_
  intro X ρ
  show AW mX0_ingredientsOf X (zMQ mX0_ingredientsOf X (some (.int (bIngs (zsub F β) t))) sh F P) 0 [some (.ref β), some (.int t)] [] ρ sh F P 0 0
  have hinX0 : ∀ w ∈ u_ws RX0 TX0 8, w ∈ wsX0_ingredientsOf := by decide +kernel
  obtain ⟨hs, ⟨p0, p1, p2, p3, p4, p5, p6, p7⟩, s1, s2, s3, s4, s5, s6, s7, s8⟩ := id hB
  refine aw_aload_0 dX0_ingredientsOf_0 ?_
  refine aw_getR fX0_1 (fun _ _ => rfl) (by assumption) hinX0 (by decide +kernel) (by assumption) dX0_ingredientsOf_1 ?_
  refine aw_iload_1 dX0_ingredientsOf_4 ?_
  refine aw_run (zRun_SN (qn := 7) (c_X6_at (by assumption) (by decide)) gX0_ingredientsOf_X6_at_n46 rfl (by decide +kernel) (by decide +kernel) q_X6_at (by decide) rfl rfl (Nat.le_of_ble_eq_true rfl) dX0_ingredientsOf_5 ⟨Nat.le_refl _, Nat.le_refl _⟩) ?_
  exact aw_ireturn rfl dX0_ingredientsOf_8 ⟨Nat.zero_le _, Nat.zero_le _⟩ (by first | rfl | simp []) rfl rfl rfl

abbrev mX0_substitutesOf : ZM := (cX0_substitutesOf, RX0, wsX0_substitutesOf, 2, 0, 0, (some .int), 2, yX0_substitutesOf.name)
set_option maxHeartbeats 4000000 in
set_option maxRecDepth 100000 in
theorem c_X0_substitutesOf {sh : zSh} {F : Nat → Nat → Int32} {P : Nat → Nat → Option Nat} {β : Nat} {t : Int32} (hB : zBk sh P β) : zMet yX0_substitutesOf wsX0_substitutesOf (2) (0) (0) [.ref β, .int t] sh F P (some (.int (bSubs (zsub F β) t))) sh F P := by
  refine zMet.of (by decide) rfl (Nat.le_of_ble_eq_true rfl) (by simp [Value.category]) ?_
  intro X ρ
  show AW mX0_substitutesOf X (zMQ mX0_substitutesOf X (some (.int (bSubs (zsub F β) t))) sh F P) 0 [some (.ref β), some (.int t)] [] ρ sh F P 0 0
  have hinX0 : ∀ w ∈ u_ws RX0 TX0 8, w ∈ wsX0_substitutesOf := by decide +kernel
  obtain ⟨hs, ⟨p0, p1, p2, p3, p4, p5, p6, p7⟩, s1, s2, s3, s4, s5, s6, s7, s8⟩ := id hB
  refine aw_aload_0 dX0_substitutesOf_0 ?_
  refine aw_getR fX0_4 (fun _ _ => rfl) (by assumption) hinX0 (by decide +kernel) (by assumption) dX0_substitutesOf_1 ?_
  refine aw_iload_1 dX0_substitutesOf_4 ?_
  refine aw_run (zRun_SN (qn := 7) (c_X6_at (by assumption) (by decide)) gX0_substitutesOf_X6_at_n46 rfl (by decide +kernel) (by decide +kernel) q_X6_at (by decide) rfl rfl (Nat.le_of_ble_eq_true rfl) dX0_substitutesOf_5 ⟨Nat.le_refl _, Nat.le_refl _⟩) ?_
  exact aw_ireturn rfl dX0_substitutesOf_8 ⟨Nat.zero_le _, Nat.zero_le _⟩ (by first | rfl | simp []) rfl rfl rfl

abbrev mX0_vesselOf : ZM := (cX0_vesselOf, RX0, wsX0_vesselOf, 2, 0, 0, (some .int), 2, yX0_vesselOf.name)
set_option maxHeartbeats 4000000 in
set_option maxRecDepth 100000 in
theorem c_X0_vesselOf {sh : zSh} {F : Nat → Nat → Int32} {P : Nat → Nat → Option Nat} {β : Nat} {t : Int32} (hB : zBk sh P β) : zMet yX0_vesselOf wsX0_vesselOf (2) (0) (0) [.ref β, .int t] sh F P (some (.int (bVes (zsub F β) t))) sh F P := by
  refine zMet.of (by decide) rfl (Nat.le_of_ble_eq_true rfl) (by simp [Value.category]) ?_
  intro X ρ
  show AW mX0_vesselOf X (zMQ mX0_vesselOf X (some (.int (bVes (zsub F β) t))) sh F P) 0 [some (.ref β), some (.int t)] [] ρ sh F P 0 0
  have hinX0 : ∀ w ∈ u_ws RX0 TX0 8, w ∈ wsX0_vesselOf := by decide +kernel
  obtain ⟨hs, ⟨p0, p1, p2, p3, p4, p5, p6, p7⟩, s1, s2, s3, s4, s5, s6, s7, s8⟩ := id hB
  refine aw_aload_0 dX0_vesselOf_0 ?_
  refine aw_getR fX0_6 (fun _ _ => rfl) (by assumption) hinX0 (by decide +kernel) (by assumption) dX0_vesselOf_1 ?_
  refine aw_iload_1 dX0_vesselOf_4 ?_
  refine aw_run (zRun_SN (qn := 7) (c_X6_at (by assumption) (by decide)) gX0_vesselOf_X6_at_n46 rfl (by decide +kernel) (by decide +kernel) q_X6_at (by decide) rfl rfl (Nat.le_of_ble_eq_true rfl) dX0_vesselOf_5 ⟨Nat.le_refl _, Nat.le_refl _⟩) ?_
  exact aw_ireturn rfl dX0_vesselOf_8 ⟨Nat.zero_le _, Nat.zero_le _⟩ (by first | rfl | simp []) rfl rfl rfl

abbrev mX0_rankOf : ZM := (cX0_rankOf, RX0, wsX0_rankOf, 2, 0, 0, (some .int), 2, yX0_rankOf.name)
set_option maxHeartbeats 4000000 in
set_option maxRecDepth 100000 in
theorem c_X0_rankOf {sh : zSh} {F : Nat → Nat → Int32} {P : Nat → Nat → Option Nat} {β : Nat} {t : Int32} (hB : zBk sh P β) : zMet yX0_rankOf wsX0_rankOf (2) (0) (0) [.ref β, .int t] sh F P (some (.int (bRank (zsub F β) t))) sh F P := by
  refine zMet.of (by decide) rfl (Nat.le_of_ble_eq_true rfl) (by simp [Value.category]) ?_
  intro X ρ
  show AW mX0_rankOf X (zMQ mX0_rankOf X (some (.int (bRank (zsub F β) t))) sh F P) 0 [some (.ref β), some (.int t)] [] ρ sh F P 0 0
  have hinX0 : ∀ w ∈ u_ws RX0 TX0 8, w ∈ wsX0_rankOf := by decide +kernel
  obtain ⟨hs, ⟨p0, p1, p2, p3, p4, p5, p6, p7⟩, s1, s2, s3, s4, s5, s6, s7, s8⟩ := id hB
  refine aw_aload_0 dX0_rankOf_0 ?_
  refine aw_getR fX0_7 (fun _ _ => rfl) (by assumption) hinX0 (by decide +kernel) (by assumption) dX0_rankOf_1 ?_
  refine aw_iload_1 dX0_rankOf_4 ?_
  refine aw_run (zRun_SN (qn := 7) (c_X6_at (by assumption) (by decide)) gX0_rankOf_X6_at_n46 rfl (by decide +kernel) (by decide +kernel) q_X6_at (by decide) rfl rfl (Nat.le_of_ble_eq_true rfl) dX0_rankOf_5 ⟨Nat.le_refl _, Nat.le_refl _⟩) ?_
  exact aw_ireturn rfl dX0_rankOf_8 ⟨Nat.zero_le _, Nat.zero_le _⟩ (by first | rfl | simp []) rfl rfl rfl

abbrev mX0_ingredientAt : ZM := (cX0_ingredientAt, RX0, wsX0_ingredientAt, 2, 0, 0, (some .int), 3, yX0_ingredientAt.name)
set_option maxHeartbeats 4000000 in
set_option maxRecDepth 100000 in
theorem c_X0_ingredientAt {sh : zSh} {F : Nat → Nat → Int32} {P : Nat → Nat → Option Nat} {β : Nat} {t k : Int32} (hB : zBk sh P β) : zMet yX0_ingredientAt wsX0_ingredientAt (2) (0) (0) [.ref β, .int t, .int k] sh F P (some (.int (bIng (zsub F β) t k))) sh F P := by
  refine zMet.of (by decide) rfl (Nat.le_of_ble_eq_true rfl) (by simp [Value.category]) ?_
  intro X ρ
  show AW mX0_ingredientAt X (zMQ mX0_ingredientAt X (some (.int (bIng (zsub F β) t k))) sh F P) 0 [some (.ref β), some (.int t), some (.int k)] [] ρ sh F P 0 0
  have hinX0 : ∀ w ∈ u_ws RX0 TX0 8, w ∈ wsX0_ingredientAt := by decide +kernel
  obtain ⟨hs, ⟨p0, p1, p2, p3, p4, p5, p6, p7⟩, s1, s2, s3, s4, s5, s6, s7, s8⟩ := id hB
  refine aw_aload_0 dX0_ingredientAt_0 ?_
  refine aw_getR fX0_2 (fun _ _ => rfl) (by assumption) hinX0 (by decide +kernel) (by assumption) dX0_ingredientAt_1 ?_
  refine aw_iload_1 dX0_ingredientAt_4 ?_
  refine aw_iconst (v := 5) dX0_ingredientAt_5 (by decide) ?_
  refine aw_imul dX0_ingredientAt_6 ?_
  refine aw_iload_2 dX0_ingredientAt_7 ?_
  refine aw_iadd dX0_ingredientAt_8 ?_
  refine aw_run (zRun_SN (qn := 7) (c_X6_at (by assumption) (by decide)) gX0_ingredientAt_X6_at_n46 rfl (by decide +kernel) (by decide +kernel) q_X6_at (by decide) rfl rfl (Nat.le_of_ble_eq_true rfl) dX0_ingredientAt_9 ⟨Nat.le_refl _, Nat.le_refl _⟩) ?_
  exact aw_ireturn rfl dX0_ingredientAt_12 ⟨Nat.zero_le _, Nat.zero_le _⟩ (by first | rfl | simp []) rfl rfl rfl

abbrev mX0_amountAt : ZM := (cX0_amountAt, RX0, wsX0_amountAt, 2, 0, 0, (some .int), 3, yX0_amountAt.name)
set_option maxHeartbeats 4000000 in
set_option maxRecDepth 100000 in
theorem c_X0_amountAt {sh : zSh} {F : Nat → Nat → Int32} {P : Nat → Nat → Option Nat} {β : Nat} {t k : Int32} (hB : zBk sh P β) : zMet yX0_amountAt wsX0_amountAt (2) (0) (0) [.ref β, .int t, .int k] sh F P (some (.int (bAmt (zsub F β) t k))) sh F P := by
  refine zMet.of (by decide) rfl (Nat.le_of_ble_eq_true rfl) (by simp [Value.category]) ?_
  intro X ρ
  show AW mX0_amountAt X (zMQ mX0_amountAt X (some (.int (bAmt (zsub F β) t k))) sh F P) 0 [some (.ref β), some (.int t), some (.int k)] [] ρ sh F P 0 0
  have hinX0 : ∀ w ∈ u_ws RX0 TX0 8, w ∈ wsX0_amountAt := by decide +kernel
  obtain ⟨hs, ⟨p0, p1, p2, p3, p4, p5, p6, p7⟩, s1, s2, s3, s4, s5, s6, s7, s8⟩ := id hB
  refine aw_aload_0 dX0_amountAt_0 ?_
  refine aw_getR fX0_3 (fun _ _ => rfl) (by assumption) hinX0 (by decide +kernel) (by assumption) dX0_amountAt_1 ?_
  refine aw_iload_1 dX0_amountAt_4 ?_
  refine aw_iconst (v := 5) dX0_amountAt_5 (by decide) ?_
  refine aw_imul dX0_amountAt_6 ?_
  refine aw_iload_2 dX0_amountAt_7 ?_
  refine aw_iadd dX0_amountAt_8 ?_
  refine aw_run (zRun_SN (qn := 7) (c_X6_at (by assumption) (by decide)) gX0_amountAt_X6_at_n46 rfl (by decide +kernel) (by decide +kernel) q_X6_at (by decide) rfl rfl (Nat.le_of_ble_eq_true rfl) dX0_amountAt_9 ⟨Nat.le_refl _, Nat.le_refl _⟩) ?_
  exact aw_ireturn rfl dX0_amountAt_12 ⟨Nat.zero_le _, Nat.zero_le _⟩ (by first | rfl | simp []) rfl rfl rfl

abbrev mX0_substituteAt : ZM := (cX0_substituteAt, RX0, wsX0_substituteAt, 2, 0, 0, (some .int), 3, yX0_substituteAt.name)
set_option maxHeartbeats 4000000 in
set_option maxRecDepth 100000 in
theorem c_X0_substituteAt {sh : zSh} {F : Nat → Nat → Int32} {P : Nat → Nat → Option Nat} {β : Nat} {t k : Int32} (hB : zBk sh P β) : zMet yX0_substituteAt wsX0_substituteAt (2) (0) (0) [.ref β, .int t, .int k] sh F P (some (.int (bSub (zsub F β) t k))) sh F P := by
  refine zMet.of (by decide) rfl (Nat.le_of_ble_eq_true rfl) (by simp [Value.category]) ?_
  intro X ρ
  show AW mX0_substituteAt X (zMQ mX0_substituteAt X (some (.int (bSub (zsub F β) t k))) sh F P) 0 [some (.ref β), some (.int t), some (.int k)] [] ρ sh F P 0 0
  have hinX0 : ∀ w ∈ u_ws RX0 TX0 8, w ∈ wsX0_substituteAt := by decide +kernel
  obtain ⟨hs, ⟨p0, p1, p2, p3, p4, p5, p6, p7⟩, s1, s2, s3, s4, s5, s6, s7, s8⟩ := id hB
  refine aw_aload_0 dX0_substituteAt_0 ?_
  refine aw_getR fX0_5 (fun _ _ => rfl) (by assumption) hinX0 (by decide +kernel) (by assumption) dX0_substituteAt_1 ?_
  refine aw_iload_1 dX0_substituteAt_4 ?_
  refine aw_iconst (v := 3) dX0_substituteAt_5 (by decide) ?_
  refine aw_imul dX0_substituteAt_6 ?_
  refine aw_iload_2 dX0_substituteAt_7 ?_
  refine aw_iadd dX0_substituteAt_8 ?_
  refine aw_run (zRun_SN (qn := 7) (c_X6_at (by assumption) (by decide)) gX0_substituteAt_X6_at_n46 rfl (by decide +kernel) (by decide +kernel) q_X6_at (by decide) rfl rfl (Nat.le_of_ble_eq_true rfl) dX0_substituteAt_9 ⟨Nat.le_refl _, Nat.le_refl _⟩) ?_
  exact aw_ireturn rfl dX0_substituteAt_12 ⟨Nat.zero_le _, Nat.zero_le _⟩ (by first | rfl | simp []) rfl rfl rfl

abbrev mX0_isMade : ZM := (cX0_isMade, RX0, wsX0_isMade, 2, 0, 0, (some .boolean), 2, yX0_isMade.name)
set_option maxHeartbeats 4000000 in
set_option maxRecDepth 100000 in
theorem c_X0_isMade {sh : zSh} {F : Nat → Nat → Int32} {P : Nat → Nat → Option Nat} {β : Nat} {t : Int32} (hB : zBk sh P β) : zMet yX0_isMade wsX0_isMade (2) (0) (0) [.ref β, .int t] sh F P (some (.int (bMade (zsub F β) t))) sh F P := by
  refine zMet.of (by decide) rfl (Nat.le_of_ble_eq_true rfl) (by simp [Value.category]) ?_
  intro X ρ
  show AW mX0_isMade X (zMQ mX0_isMade X (some (.int (bMade (zsub F β) t))) sh F P) 0 [some (.ref β), some (.int t)] [] ρ sh F P 0 0
  have hinX0 : ∀ w ∈ u_ws RX0 TX0 8, w ∈ wsX0_isMade := by decide +kernel
  obtain ⟨hs, ⟨p0, p1, p2, p3, p4, p5, p6, p7⟩, s1, s2, s3, s4, s5, s6, s7, s8⟩ := id hB
  refine aw_aload_0 dX0_isMade_0 ?_
  refine aw_getR fX0_0 (fun _ _ => rfl) (by assumption) hinX0 (by decide +kernel) (by assumption) dX0_isMade_1 ?_
  refine aw_iload_1 dX0_isMade_4 ?_
  refine aw_run (zRun_SN (qn := 7) (c_X6_at (by assumption) (by decide)) gX0_isMade_X6_at_n46 rfl (by decide +kernel) (by decide +kernel) q_X6_at (by decide) rfl rfl (Nat.le_of_ble_eq_true rfl) dX0_isMade_5 ⟨Nat.le_refl _, Nat.le_refl _⟩) ?_
  refine aw_if_le (tgt := 15) dX0_isMade_8 (by decide) (fun c8 => ?_) (fun c8 => ?_)
  · refine aw_iconst (v := 0) dX0_isMade_15 (by decide) ?_
    exact aw_zreturn rfl dX0_isMade_16 ⟨Nat.zero_le _, Nat.zero_le _⟩ (by decide) (by first | rfl | simp [bMade, bYield, zsub, c8]) rfl rfl rfl
  · refine aw_iconst (v := 1) dX0_isMade_11 (by decide) ?_
    refine aw_goto (tgt := 16) dX0_isMade_12 (by decide) ?_
    exact aw_zreturn rfl dX0_isMade_16 ⟨Nat.zero_le _, Nat.zero_le _⟩ (by decide) (by first | rfl | simp [bMade, bYield, zsub, c8]) rfl rfl rfl

abbrev mX0_madeThings : ZM := (cX0_madeThings, RX0, wsX0_madeThings, 3, 0, 0, (some .int), 3, yX0_madeThings.name)
set_option maxHeartbeats 4000000 in
set_option maxRecDepth 100000 in
theorem c_X0_madeThings {sh : zSh} {F : Nat → Nat → Int32} {P : Nat → Nat → Option Nat} {β : Nat} (hB : zBk sh P β) : zMet yX0_madeThings wsX0_madeThings (3) (0) (0) [.ref β] sh F P (some (.int (bMadeSet (zsub F β)))) sh F P := by
  refine zMet.of (by decide) rfl (Nat.le_of_ble_eq_true rfl) (by simp [Value.category]) ?_
  intro X ρ
  show AW mX0_madeThings X (zMQ mX0_madeThings X (some (.int (bMadeSet (zsub F β)))) sh F P) 0 [some (.ref β), none, none] [] ρ sh F P 0 0
  obtain ⟨hs, ⟨p0, p1, p2, p3, p4, p5, p6, p7⟩, s1, s2, s3, s4, s5, s6, s7, s8⟩ := id hB
  have L4 : ∀ (m i : Nat), i ≤ 20 → 20 - i = m → AW mX0_madeThings X (zMQ mX0_madeThings X (some (.int (bMadeSet (zsub F β)))) sh F P) 4 [some (.ref β), some (.int (it (fun i s => if bMade (zsub F β) (nI i) = 0 then s else s ||| ((1 : Int32) <<< (nI i &&& 31))) i 0)), some (.int (nI i))] [] ρ sh F P 0 0 := by
    intro m
    induction m using Nat.strongRecOn with
    | _ m ih =>
    intro i hi hm
    refine aw_iload_2 dX0_madeThings_4 ?_
    refine aw_bipush (v := 20) dX0_madeThings_5 (by decide) ?_
    refine aw_icmp_ge (tgt := 30) dX0_madeThings_7 (by decide) (fun c7 => ?_) (fun c7 => ?_)
    · refine aw_iload_1 dX0_madeThings_30 ?_
      exact aw_ireturn rfl dX0_madeThings_31 ⟨Nat.zero_le _, Nat.zero_le _⟩ (by rw [zend (n := 20) hi (by decide) c7]; rfl) rfl rfl rfl
    · have hlt : i < 20 := zlt (n := 20) hi (by decide) c7
      refine aw_aload_0 dX0_madeThings_10 ?_
      refine aw_iload_2 dX0_madeThings_11 ?_
      refine aw_run (zRun_V (c_X0_isMade (by assumption)) gX0_madeThings_X0_isMade q_X0_isMade rfl (by decide) rfl (by assumption) rfl rfl (Nat.le_of_ble_eq_true rfl) dX0_madeThings_12 ⟨Nat.le_refl _, Nat.le_refl _⟩) ?_
      refine aw_if_eq (tgt := 24) dX0_madeThings_15 (by decide) (fun c15 => ?_) (fun c15 => ?_)
      · refine aw_iinc_2 (v := 1) (by decide) dX0_madeThings_24 ?_
        refine aw_goto (tgt := 4) dX0_madeThings_27 (by decide) ?_
        rw [nI_1]
        have h9 := ih (20 - (i + 1)) (by omega) (i + 1) (by omega) rfl
        simp only [it, c15, if_pos, if_neg, not_false_eq_true, ite_true, ite_false] at h9
        exact h9
      · refine aw_iload_1 dX0_madeThings_18 ?_
        refine aw_iconst (v := 1) dX0_madeThings_19 (by decide) ?_
        refine aw_iload_2 dX0_madeThings_20 ?_
        refine aw_ishl dX0_madeThings_21 ?_
        refine aw_ior dX0_madeThings_22 ?_
        refine aw_istore_1 dX0_madeThings_23 ?_
        refine aw_iinc_2 (v := 1) (by decide) dX0_madeThings_24 ?_
        refine aw_goto (tgt := 4) dX0_madeThings_27 (by decide) ?_
        rw [nI_1]
        have h9 := ih (20 - (i + 1)) (by omega) (i + 1) (by omega) rfl
        simp only [it, c15, if_pos, if_neg, not_false_eq_true, ite_true, ite_false] at h9
        exact h9
  refine aw_iconst (v := 0) dX0_madeThings_0 (by decide) ?_
  refine aw_istore_1 dX0_madeThings_1 ?_
  refine aw_iconst (v := 0) dX0_madeThings_2 (by decide) ?_
  refine aw_istore_2 dX0_madeThings_3 ?_
  exact L4 _ 0 (Nat.zero_le _) rfl

abbrev mX0_greatestRank : ZM := (cX0_greatestRank, RX0, wsX0_greatestRank, 3, 0, 0, (some .int), 3, yX0_greatestRank.name)
set_option maxHeartbeats 4000000 in
set_option maxRecDepth 100000 in
theorem c_X0_greatestRank {sh : zSh} {F : Nat → Nat → Int32} {P : Nat → Nat → Option Nat} {β : Nat} (hB : zBk sh P β) : zMet yX0_greatestRank wsX0_greatestRank (3) (0) (0) [.ref β] sh F P (some (.int (bGreatest (zsub F β)))) sh F P := by
  refine zMet.of (by decide) rfl (Nat.le_of_ble_eq_true rfl) (by simp [Value.category]) ?_
  intro X ρ
  show AW mX0_greatestRank X (zMQ mX0_greatestRank X (some (.int (bGreatest (zsub F β)))) sh F P) 0 [some (.ref β), none, none] [] ρ sh F P 0 0
  obtain ⟨hs, ⟨p0, p1, p2, p3, p4, p5, p6, p7⟩, s1, s2, s3, s4, s5, s6, s7, s8⟩ := id hB
  have L4 : ∀ (m i : Nat), i ≤ 20 → 20 - i = m → AW mX0_greatestRank X (zMQ mX0_greatestRank X (some (.int (bGreatest (zsub F β)))) sh F P) 4 [some (.ref β), some (.int (it (fun i g => cMax g (bRank (zsub F β) (nI i))) i 0)), some (.int (nI i))] [] ρ sh F P 0 0 := by
    intro m
    induction m using Nat.strongRecOn with
    | _ m ih =>
    intro i hi hm
    refine aw_iload_2 dX0_greatestRank_4 ?_
    refine aw_bipush (v := 20) dX0_greatestRank_5 (by decide) ?_
    refine aw_icmp_ge (tgt := 26) dX0_greatestRank_7 (by decide) (fun c7 => ?_) (fun c7 => ?_)
    · refine aw_iload_1 dX0_greatestRank_26 ?_
      exact aw_ireturn rfl dX0_greatestRank_27 ⟨Nat.zero_le _, Nat.zero_le _⟩ (by rw [zend (n := 20) hi (by decide) c7]; rfl) rfl rfl rfl
    · have hlt : i < 20 := zlt (n := 20) hi (by decide) c7
      refine aw_iload_1 dX0_greatestRank_10 ?_
      refine aw_aload_0 dX0_greatestRank_11 ?_
      refine aw_iload_2 dX0_greatestRank_12 ?_
      refine aw_run (zRun_V (c_X0_rankOf (by assumption)) gX0_greatestRank_X0_rankOf q_X0_rankOf rfl (by decide) rfl (by assumption) rfl rfl (Nat.le_of_ble_eq_true rfl) dX0_greatestRank_13 ⟨Nat.le_refl _, Nat.le_refl _⟩) ?_
      refine aw_max (by decide +kernel) (by decide +kernel) (by decide +kernel) (by decide +kernel) (Nat.le_of_ble_eq_true rfl) ⟨Nat.zero_le _, Nat.zero_le _⟩ dX0_greatestRank_16 ?_
      refine aw_istore_1 dX0_greatestRank_19 ?_
      refine aw_iinc_2 (v := 1) (by decide) dX0_greatestRank_20 ?_
      refine aw_goto (tgt := 4) dX0_greatestRank_23 (by decide) ?_
      rw [nI_1]
      exact ih (20 - (i + 1)) (by omega) (i + 1) (by omega) rfl
  refine aw_iconst (v := 0) dX0_greatestRank_0 (by decide) ?_
  refine aw_istore_1 dX0_greatestRank_1 ?_
  refine aw_iconst (v := 0) dX0_greatestRank_2 (by decide) ?_
  refine aw_istore_2 dX0_greatestRank_3 ?_
  exact L4 _ 0 (Nat.zero_le _) rfl

abbrev mX0_greatestRankIn : ZM := (cX0_greatestRankIn, RX0, wsX0_greatestRankIn, 3, 0, 0, (some .int), 4, yX0_greatestRankIn.name)
set_option maxHeartbeats 4000000 in
set_option maxRecDepth 100000 in
theorem c_X0_greatestRankIn {sh : zSh} {F : Nat → Nat → Int32} {P : Nat → Nat → Option Nat} {β : Nat} {t : Int32} (hB : zBk sh P β) : zMet yX0_greatestRankIn wsX0_greatestRankIn (3) (0) (0) [.ref β, .int t] sh F P (some (.int (bGri (zsub F β) t))) sh F P := by
  refine zMet.of (by decide) rfl (Nat.le_of_ble_eq_true rfl) (by simp [Value.category]) ?_
  intro X ρ
  show AW mX0_greatestRankIn X (zMQ mX0_greatestRankIn X (some (.int (bGri (zsub F β) t))) sh F P) 0 [some (.ref β), some (.int t), none, none] [] ρ sh F P 0 0
  obtain ⟨hs, ⟨p0, p1, p2, p3, p4, p5, p6, p7⟩, s1, s2, s3, s4, s5, s6, s7, s8⟩ := id hB
  have L4 : ∀ (m i : Nat), i ≤ 20 → 20 - i = m → AW mX0_greatestRankIn X (zMQ mX0_greatestRankIn X (some (.int (bGri (zsub F β) t))) sh F P) 4 [some (.ref β), some (.int t), some (.int (it (fun i g => if cHasBit t (nI i) = 0 then g else cMax g (bRank (zsub F β) (nI i))) i 0)), some (.int (nI i))] [] ρ sh F P 0 0 := by
    intro m
    induction m using Nat.strongRecOn with
    | _ m ih =>
    intro i hi hm
    refine aw_iload_3 dX0_greatestRankIn_4 ?_
    refine aw_bipush (v := 20) dX0_greatestRankIn_5 (by decide) ?_
    refine aw_icmp_ge (tgt := 34) dX0_greatestRankIn_7 (by decide) (fun c7 => ?_) (fun c7 => ?_)
    · refine aw_iload_2 dX0_greatestRankIn_34 ?_
      exact aw_ireturn rfl dX0_greatestRankIn_35 ⟨Nat.zero_le _, Nat.zero_le _⟩ (by rw [zend (n := 20) hi (by decide) c7]; rfl) rfl rfl rfl
    · have hlt : i < 20 := zlt (n := 20) hi (by decide) c7
      refine aw_iload_1 dX0_greatestRankIn_10 ?_
      refine aw_iload_3 dX0_greatestRankIn_11 ?_
      refine aw_run (zRun_SN (qn := 5) (c_X6_hasBit ) gX0_greatestRankIn_X6_hasBit_n106 rfl (by decide +kernel) (by decide +kernel) q_X6_hasBit (by decide) rfl rfl (Nat.le_of_ble_eq_true rfl) dX0_greatestRankIn_12 ⟨Nat.le_refl _, Nat.le_refl _⟩) ?_
      refine aw_if_eq (tgt := 28) dX0_greatestRankIn_15 (by decide) (fun c15 => ?_) (fun c15 => ?_)
      · refine aw_iinc_3 (v := 1) (by decide) dX0_greatestRankIn_28 ?_
        refine aw_goto (tgt := 4) dX0_greatestRankIn_31 (by decide) ?_
        rw [nI_1]
        have h9 := ih (20 - (i + 1)) (by omega) (i + 1) (by omega) rfl
        simp only [it, c15, if_pos, if_neg, not_false_eq_true, ite_true, ite_false] at h9
        exact h9
      · refine aw_iload_2 dX0_greatestRankIn_18 ?_
        refine aw_aload_0 dX0_greatestRankIn_19 ?_
        refine aw_iload_3 dX0_greatestRankIn_20 ?_
        refine aw_run (zRun_V (c_X0_rankOf (by assumption)) gX0_greatestRankIn_X0_rankOf q_X0_rankOf rfl (by decide) rfl (by assumption) rfl rfl (Nat.le_of_ble_eq_true rfl) dX0_greatestRankIn_21 ⟨Nat.le_refl _, Nat.le_refl _⟩) ?_
        refine aw_max (by decide +kernel) (by decide +kernel) (by decide +kernel) (by decide +kernel) (Nat.le_of_ble_eq_true rfl) ⟨Nat.zero_le _, Nat.zero_le _⟩ dX0_greatestRankIn_24 ?_
        refine aw_istore_2 dX0_greatestRankIn_27 ?_
        refine aw_iinc_3 (v := 1) (by decide) dX0_greatestRankIn_28 ?_
        refine aw_goto (tgt := 4) dX0_greatestRankIn_31 (by decide) ?_
        rw [nI_1]
        have h9 := ih (20 - (i + 1)) (by omega) (i + 1) (by omega) rfl
        simp only [it, c15, if_pos, if_neg, not_false_eq_true, ite_true, ite_false] at h9
        exact h9
  refine aw_iconst (v := 0) dX0_greatestRankIn_0 (by decide) ?_
  refine aw_istore_2 dX0_greatestRankIn_1 ?_
  refine aw_iconst (v := 0) dX0_greatestRankIn_2 (by decide) ?_
  refine aw_istore_3 dX0_greatestRankIn_3 ?_
  exact L4 _ 0 (Nat.zero_le _) rfl

abbrev mX0_hasSubstitute : ZM := (cX0_hasSubstitute, RX0, wsX0_hasSubstitute, 3, 0, 0, (some .boolean), 5, yX0_hasSubstitute.name)
set_option maxHeartbeats 4000000 in
set_option maxRecDepth 100000 in
theorem c_X0_hasSubstitute {sh : zSh} {F : Nat → Nat → Int32} {P : Nat → Nat → Option Nat} {β : Nat} {t u : Int32} (hB : zBk sh P β) : zMet yX0_hasSubstitute wsX0_hasSubstitute (3) (0) (0) [.ref β, .int t, .int u] sh F P (some (.int (if bHasSub (zsub F β) t u = true then 1 else 0))) sh F P := by
  refine zMet.of (by decide) rfl (Nat.le_of_ble_eq_true rfl) (by simp [Value.category]) ?_
  intro X ρ
  show AW mX0_hasSubstitute X (zMQ mX0_hasSubstitute X (some (.int (if bHasSub (zsub F β) t u = true then 1 else 0))) sh F P) 0 [some (.ref β), some (.int t), some (.int u), none, none] [] ρ sh F P 0 0
  obtain ⟨hs, ⟨p0, p1, p2, p3, p4, p5, p6, p7⟩, s1, s2, s3, s4, s5, s6, s7, s8⟩ := id hB
  have L9 : ∀ (m i : Nat), i ≤ (bSubs (zsub F β) t).toNatClampNeg → (bSubs (zsub F β) t).toNatClampNeg - i = m → anyLt (fun i => bSub (zsub F β) t (nI i) == u) i = false → AW mX0_hasSubstitute X (zMQ mX0_hasSubstitute X (some (.int (if bHasSub (zsub F β) t u = true then 1 else 0))) sh F P) 9 [some (.ref β), some (.int t), some (.int u), some (.int (bSubs (zsub F β) t)), some (.int (nI i))] [] ρ sh F P 0 0 := by
    intro m
    induction m using Nat.strongRecOn with
    | _ m ih =>
    intro i hi hm hn
    refine aw_iload_4 dX0_hasSubstitute_9 ?_
    refine aw_iload_3 dX0_hasSubstitute_11 ?_
    refine aw_icmp_ge (tgt := 34) dX0_hasSubstitute_12 (by decide) (fun c12 => ?_) (fun c12 => ?_)
    · refine aw_iconst (v := 0) dX0_hasSubstitute_34 (by decide) ?_
      exact aw_zreturn rfl dX0_hasSubstitute_35 ⟨Nat.zero_le _, Nat.zero_le _⟩ (by decide) (by rw [zcle hi c12] at hn; rw [show bHasSub (zsub F β) t u = false from hn]; rfl) rfl rfl rfl
    · have hlt := zclt hi c12
      refine aw_aload_0 dX0_hasSubstitute_15 ?_
      refine aw_iload_1 dX0_hasSubstitute_16 ?_
      refine aw_iload_4 dX0_hasSubstitute_17 ?_
      refine aw_run (zRun_V (c_X0_substituteAt (by assumption)) gX0_hasSubstitute_X0_substituteAt q_X0_substituteAt rfl (by decide) rfl (by assumption) rfl rfl (Nat.le_of_ble_eq_true rfl) dX0_hasSubstitute_19 ⟨Nat.le_refl _, Nat.le_refl _⟩) ?_
      refine aw_iload_2 dX0_hasSubstitute_22 ?_
      refine aw_icmp_ne (tgt := 28) dX0_hasSubstitute_23 (by decide) (fun c23 => ?_) (fun c23 => ?_)
      · refine aw_iinc_4 (v := 1) (by decide) dX0_hasSubstitute_28 ?_
        refine aw_goto (tgt := 9) dX0_hasSubstitute_31 (by decide) ?_
        rw [nI_1]
        exact ih (_ - (i + 1)) (by omega) (i + 1) (by omega) rfl (by simp [anyLt, hn, c23])
      · refine aw_iconst (v := 1) dX0_hasSubstitute_26 (by decide) ?_
        exact aw_zreturn rfl dX0_hasSubstitute_27 ⟨Nat.zero_le _, Nat.zero_le _⟩ (by decide) (by rw [show bHasSub (zsub F β) t u = true from anyLt_true hlt (by simpa using c23)]; rfl) rfl rfl rfl
  refine aw_aload_0 dX0_hasSubstitute_0 ?_
  refine aw_iload_1 dX0_hasSubstitute_1 ?_
  refine aw_run (zRun_V (c_X0_substitutesOf (by assumption)) gX0_hasSubstitute_X0_substitutesOf q_X0_substitutesOf rfl (by decide) rfl (by assumption) rfl rfl (Nat.le_of_ble_eq_true rfl) dX0_hasSubstitute_2 ⟨Nat.le_refl _, Nat.le_refl _⟩) ?_
  refine aw_istore_3 dX0_hasSubstitute_5 ?_
  refine aw_iconst (v := 0) dX0_hasSubstitute_6 (by decide) ?_
  refine aw_istore_4 dX0_hasSubstitute_7 ?_
  exact L9 _ 0 (Nat.zero_le _) rfl rfl

abbrev mX0_isVessel : ZM := (cX0_isVessel, RX0, wsX0_isVessel, 3, 0, 0, (some .boolean), 3, yX0_isVessel.name)
set_option maxHeartbeats 4000000 in
set_option maxRecDepth 100000 in
theorem c_X0_isVessel {sh : zSh} {F : Nat → Nat → Int32} {P : Nat → Nat → Option Nat} {β : Nat} {t : Int32} (hB : zBk sh P β) : zMet yX0_isVessel wsX0_isVessel (3) (0) (0) [.ref β, .int t] sh F P (some (.int (if bIsVes (zsub F β) t = true then 1 else 0))) sh F P := by
  refine zMet.of (by decide) rfl (Nat.le_of_ble_eq_true rfl) (by simp [Value.category]) ?_
  intro X ρ
  show AW mX0_isVessel X (zMQ mX0_isVessel X (some (.int (if bIsVes (zsub F β) t = true then 1 else 0))) sh F P) 0 [some (.ref β), some (.int t), none] [] ρ sh F P 0 0
  obtain ⟨hs, ⟨p0, p1, p2, p3, p4, p5, p6, p7⟩, s1, s2, s3, s4, s5, s6, s7, s8⟩ := id hB
  have L2 : ∀ (m i : Nat), i ≤ 20 → 20 - i = m → anyLt (fun i => bVes (zsub F β) (nI i) == t) i = false → AW mX0_isVessel X (zMQ mX0_isVessel X (some (.int (if bIsVes (zsub F β) t = true then 1 else 0))) sh F P) 2 [some (.ref β), some (.int t), some (.int (nI i))] [] ρ sh F P 0 0 := by
    intro m
    induction m using Nat.strongRecOn with
    | _ m ih =>
    intro i hi hm hn
    refine aw_iload_2 dX0_isVessel_2 ?_
    refine aw_bipush (v := 20) dX0_isVessel_3 (by decide) ?_
    refine aw_icmp_ge (tgt := 25) dX0_isVessel_5 (by decide) (fun c5 => ?_) (fun c5 => ?_)
    · refine aw_iconst (v := 0) dX0_isVessel_25 (by decide) ?_
      exact aw_zreturn rfl dX0_isVessel_26 ⟨Nat.zero_le _, Nat.zero_le _⟩ (by decide) (by rw [zend (n := 20) hi (by decide) c5] at hn; rw [show bIsVes (zsub F β) t = false from hn]; rfl) rfl rfl rfl
    · have hlt : i < 20 := zlt (n := 20) hi (by decide) c5
      refine aw_aload_0 dX0_isVessel_8 ?_
      refine aw_iload_2 dX0_isVessel_9 ?_
      refine aw_run (zRun_V (c_X0_vesselOf (by assumption)) gX0_isVessel_X0_vesselOf q_X0_vesselOf rfl (by decide) rfl (by assumption) rfl rfl (Nat.le_of_ble_eq_true rfl) dX0_isVessel_10 ⟨Nat.le_refl _, Nat.le_refl _⟩) ?_
      refine aw_iload_1 dX0_isVessel_13 ?_
      refine aw_icmp_ne (tgt := 19) dX0_isVessel_14 (by decide) (fun c14 => ?_) (fun c14 => ?_)
      · refine aw_iinc_2 (v := 1) (by decide) dX0_isVessel_19 ?_
        refine aw_goto (tgt := 2) dX0_isVessel_22 (by decide) ?_
        rw [nI_1]
        exact ih (20 - (i + 1)) (by omega) (i + 1) (by omega) rfl (by simp [anyLt, hn, c14])
      · refine aw_iconst (v := 1) dX0_isVessel_17 (by decide) ?_
        exact aw_zreturn rfl dX0_isVessel_18 ⟨Nat.zero_le _, Nat.zero_le _⟩ (by decide) (by rw [show bIsVes (zsub F β) t = true from anyLt_true hlt (by simpa using c14)]; rfl) rfl rfl rfl
  refine aw_iconst (v := 0) dX0_isVessel_0 (by decide) ?_
  refine aw_istore_2 dX0_isVessel_1 ?_
  exact L2 _ 0 (Nat.zero_le _) rfl rfl

abbrev mX0_needsOf : ZM := (cX0_needsOf, RX0, wsX0_needsOf, 3, 0, 0, (some .int), 8, yX0_needsOf.name)
set_option maxHeartbeats 4000000 in
set_option maxRecDepth 100000 in
theorem c_X0_needsOf {sh : zSh} {F : Nat → Nat → Int32} {P : Nat → Nat → Option Nat} {β : Nat} {t : Int32} (hB : zBk sh P β) : zMet yX0_needsOf wsX0_needsOf (3) (0) (0) [.ref β, .int t] sh F P (some (.int (bNeeds (zsub F β) t))) sh F P := by
  refine zMet.of (by decide) rfl (Nat.le_of_ble_eq_true rfl) (by simp [Value.category]) ?_
  intro X ρ
  show AW mX0_needsOf X (zMQ mX0_needsOf X (some (.int (bNeeds (zsub F β) t))) sh F P) 0 [some (.ref β), some (.int t), none, none, none, none, none, none] [] ρ sh F P 0 0
  obtain ⟨hs, ⟨p0, p1, p2, p3, p4, p5, p6, p7⟩, s1, s2, s3, s4, s5, s6, s7, s8⟩ := id hB
  have L44 : ∀ (m j : Nat) (p s : Int32) (i : Nat), j ≤ (bSubs (zsub F β) p).toNatClampNeg → (bSubs (zsub F β) p).toNatClampNeg - j = m → (∀ o7 : Option Value, AW mX0_needsOf X (zMQ mX0_needsOf X (some (.int (bNeeds (zsub F β) t))) sh F P) 70 [some (.ref β), some (.int t), some (.int (bNeedsS (zsub F β) p s)), some (.int (bIngs (zsub F β) t)), some (.int (nI i)), some (.int p), some (.int (bSubs (zsub F β) p)), o7] [] ρ sh F P 0 0) → AW mX0_needsOf X (zMQ mX0_needsOf X (some (.int (bNeeds (zsub F β) t))) sh F P) 44 [some (.ref β), some (.int t), some (.int (it (fun j s => s ||| ((1 : Int32) <<< (bSub (zsub F β) p (nI j) &&& 31))) j s)), some (.int (bIngs (zsub F β) t)), some (.int (nI i)), some (.int p), some (.int (bSubs (zsub F β) p)), some (.int (nI j))] [] ρ sh F P 0 0 := by
    intro m
    induction m using Nat.strongRecOn with
    | _ m ih =>
    intro j p s i hj hm hk
    refine aw_iload_7 dX0_needsOf_44 ?_
    refine aw_iload_6 dX0_needsOf_46 ?_
    refine aw_icmp_ge (tgt := 70) dX0_needsOf_48 (by decide) (fun c48 => ?_) (fun c48 => ?_)
    · have hj2 := zcle hj c48
      subst hj2
      exact hk _
    · have hlt := zclt hj c48
      refine aw_iload_2 dX0_needsOf_51 ?_
      refine aw_iconst (v := 1) dX0_needsOf_52 (by decide) ?_
      refine aw_aload_0 dX0_needsOf_53 ?_
      refine aw_iload_5 dX0_needsOf_54 ?_
      refine aw_iload_7 dX0_needsOf_56 ?_
      refine aw_run (zRun_V (c_X0_substituteAt (by assumption)) gX0_needsOf_X0_substituteAt q_X0_substituteAt rfl (by decide) rfl (by assumption) rfl rfl (Nat.le_of_ble_eq_true rfl) dX0_needsOf_58 ⟨Nat.le_refl _, Nat.le_refl _⟩) ?_
      refine aw_ishl dX0_needsOf_61 ?_
      refine aw_ior dX0_needsOf_62 ?_
      refine aw_istore_2 dX0_needsOf_63 ?_
      refine aw_iinc_7 (v := 1) (by decide) dX0_needsOf_64 ?_
      refine aw_goto (tgt := 44) dX0_needsOf_67 (by decide) ?_
      rw [nI_1]
      exact ih (_ - (j + 1)) (by omega) (j + 1) p s i (by omega) rfl hk
  have L11 : ∀ (m i : Nat) (o5 o6 o7 : Option Value), i ≤ (bIngs (zsub F β) t).toNatClampNeg → (bIngs (zsub F β) t).toNatClampNeg - i = m → AW mX0_needsOf X (zMQ mX0_needsOf X (some (.int (bNeeds (zsub F β) t))) sh F P) 11 [some (.ref β), some (.int t), some (.int (it (fun k s => bNeedsS (zsub F β) (bIng (zsub F β) t (nI k)) (s ||| ((1 : Int32) <<< (bIng (zsub F β) t (nI k) &&& 31)))) i 0)), some (.int (bIngs (zsub F β) t)), some (.int (nI i)), o5, o6, o7] [] ρ sh F P 0 0 := by
    intro m
    induction m using Nat.strongRecOn with
    | _ m ih =>
    intro i o5 o6 o7 hi hm
    refine aw_iload_4 dX0_needsOf_11 ?_
    refine aw_iload_3 dX0_needsOf_13 ?_
    refine aw_icmp_ge (tgt := 76) dX0_needsOf_14 (by decide) (fun c14 => ?_) (fun c14 => ?_)
    · refine aw_iload_2 dX0_needsOf_76 ?_
      exact aw_ireturn rfl dX0_needsOf_77 ⟨Nat.zero_le _, Nat.zero_le _⟩ (by rw [zcle hi c14]; rfl) rfl rfl rfl
    · have hlt := zclt hi c14
      refine aw_aload_0 dX0_needsOf_17 ?_
      refine aw_iload_1 dX0_needsOf_18 ?_
      refine aw_iload_4 dX0_needsOf_19 ?_
      refine aw_run (zRun_V (c_X0_ingredientAt (by assumption)) gX0_needsOf_X0_ingredientAt q_X0_ingredientAt rfl (by decide) rfl (by assumption) rfl rfl (Nat.le_of_ble_eq_true rfl) dX0_needsOf_21 ⟨Nat.le_refl _, Nat.le_refl _⟩) ?_
      refine aw_istore_5 dX0_needsOf_24 ?_
      refine aw_iload_2 dX0_needsOf_26 ?_
      refine aw_iconst (v := 1) dX0_needsOf_27 (by decide) ?_
      refine aw_iload_5 dX0_needsOf_28 ?_
      refine aw_ishl dX0_needsOf_30 ?_
      refine aw_ior dX0_needsOf_31 ?_
      refine aw_istore_2 dX0_needsOf_32 ?_
      refine aw_aload_0 dX0_needsOf_33 ?_
      refine aw_iload_5 dX0_needsOf_34 ?_
      refine aw_run (zRun_V (c_X0_substitutesOf (by assumption)) gX0_needsOf_X0_substitutesOf q_X0_substitutesOf rfl (by decide) rfl (by assumption) rfl rfl (Nat.le_of_ble_eq_true rfl) dX0_needsOf_36 ⟨Nat.le_refl _, Nat.le_refl _⟩) ?_
      refine aw_istore_6 dX0_needsOf_39 ?_
      refine aw_iconst (v := 0) dX0_needsOf_41 (by decide) ?_
      refine aw_istore_7 dX0_needsOf_42 ?_
      refine L44 _ 0 _ _ i (Nat.zero_le _) rfl (fun o7 => ?_)
      refine aw_iinc_4 (v := 1) (by decide) dX0_needsOf_70 ?_
      refine aw_goto (tgt := 11) dX0_needsOf_73 (by decide) ?_
      rw [nI_1]
      exact ih (_ - (i + 1)) (by omega) (i + 1) _ _ _ (by omega) rfl
  refine aw_iconst (v := 0) dX0_needsOf_0 (by decide) ?_
  refine aw_istore_2 dX0_needsOf_1 ?_
  refine aw_aload_0 dX0_needsOf_2 ?_
  refine aw_iload_1 dX0_needsOf_3 ?_
  refine aw_run (zRun_V (c_X0_ingredientsOf (by assumption)) gX0_needsOf_X0_ingredientsOf q_X0_ingredientsOf rfl (by decide) rfl (by assumption) rfl rfl (Nat.le_of_ble_eq_true rfl) dX0_needsOf_4 ⟨Nat.le_refl _, Nat.le_refl _⟩) ?_
  refine aw_istore_3 dX0_needsOf_7 ?_
  refine aw_iconst (v := 0) dX0_needsOf_8 (by decide) ?_
  refine aw_istore_4 dX0_needsOf_9 ?_
  exact L11 _ 0 _ _ _ (Nat.zero_le _) rfl

theorem it_fix {σ : Type} {f : σ → σ} {s : σ} {i : Nat} (h : f (it (fun _ s => f s) i s) = it (fun _ s => f s) i s) : ∀ n, i ≤ n → it (fun _ s => f s) n s = it (fun _ s => f s) i s := by
  intro n
  induction n with
  | zero =>
    intro hi
    have : i = 0 := by omega
    rw [this]
  | succ n ih =>
    intro hi
    rcases Nat.lt_or_ge i (n + 1) with h2 | h2
    · have := ih (by omega)
      show f (it (fun _ s => f s) n s) = _
      rw [this, h]
    · have : i = n + 1 := by omega
      rw [this]

abbrev mX0_allNeedsOf : ZM := (cX0_allNeedsOf, RX0, wsX0_allNeedsOf, 4, 0, 0, (some .int), 6, yX0_allNeedsOf.name)
set_option maxHeartbeats 4000000 in
set_option maxRecDepth 100000 in
theorem c_X0_allNeedsOf {sh : zSh} {F : Nat → Nat → Int32} {P : Nat → Nat → Option Nat} {β : Nat} {t : Int32} (hB : zBk sh P β) : zMet yX0_allNeedsOf wsX0_allNeedsOf (4) (0) (0) [.ref β, .int t] sh F P (some (.int (bAll (zsub F β) t))) sh F P := by
  refine zMet.of (by decide) rfl (Nat.le_of_ble_eq_true rfl) (by simp [Value.category]) ?_
  intro X ρ
  show AW mX0_allNeedsOf X (zMQ mX0_allNeedsOf X (some (.int (bAll (zsub F β) t))) sh F P) 0 [some (.ref β), some (.int t), none, none, none, none] [] ρ sh F P 0 0
  obtain ⟨hs, ⟨p0, p1, p2, p3, p4, p5, p6, p7⟩, s1, s2, s3, s4, s5, s6, s7, s8⟩ := id hB
  have L20 : ∀ (m j : Nat) (s : Int32) (i : Nat), j ≤ 20 → 20 - j = m → (∀ o5 : Option Value, AW mX0_allNeedsOf X (zMQ mX0_allNeedsOf X (some (.int (bAll (zsub F β) t))) sh F P) 53 [some (.ref β), some (.int t), some (.int s), some (.int (nI i)), some (.int (bWider (zsub F β) s)), o5] [] ρ sh F P 0 0) → AW mX0_allNeedsOf X (zMQ mX0_allNeedsOf X (some (.int (bAll (zsub F β) t))) sh F P) 20 [some (.ref β), some (.int t), some (.int s), some (.int (nI i)), some (.int (it (fun i w => if cHasBit s (nI i) = 0 then w else w ||| bNeeds (zsub F β) (nI i)) j s)), some (.int (nI j))] [] ρ sh F P 0 0 := by
    intro m
    induction m using Nat.strongRecOn with
    | _ m ih =>
    intro j s i hj hm hk
    refine aw_iload_5 dX0_allNeedsOf_20 ?_
    refine aw_bipush (v := 20) dX0_allNeedsOf_22 (by decide) ?_
    refine aw_icmp_ge (tgt := 53) dX0_allNeedsOf_24 (by decide) (fun c24 => ?_) (fun c24 => ?_)
    · have hj2 := zend (n := 20) hj (by decide) c24
      subst hj2
      exact hk _
    · have hlt : j < 20 := zlt (n := 20) hj (by decide) c24
      refine aw_iload_2 dX0_allNeedsOf_27 ?_
      refine aw_iload_5 dX0_allNeedsOf_28 ?_
      refine aw_run (zRun_SN (qn := 5) (c_X6_hasBit ) gX0_allNeedsOf_X6_hasBit_n106 rfl (by decide +kernel) (by decide +kernel) q_X6_hasBit (by decide) rfl rfl (Nat.le_of_ble_eq_true rfl) dX0_allNeedsOf_30 ⟨Nat.le_refl _, Nat.le_refl _⟩) ?_
      refine aw_if_eq (tgt := 47) dX0_allNeedsOf_33 (by decide) (fun c33 => ?_) (fun c33 => ?_)
      · refine aw_iinc_5 (v := 1) (by decide) dX0_allNeedsOf_47 ?_
        refine aw_goto (tgt := 20) dX0_allNeedsOf_50 (by decide) ?_
        rw [nI_1]
        have h9 := ih (20 - (j + 1)) (by omega) (j + 1) s i (by omega) rfl hk
        simp only [it, c33, if_pos, if_neg, not_false_eq_true, ite_true, ite_false] at h9
        exact h9
      · refine aw_iload_4 dX0_allNeedsOf_36 ?_
        refine aw_aload_0 dX0_allNeedsOf_38 ?_
        refine aw_iload_5 dX0_allNeedsOf_39 ?_
        refine aw_run (zRun_V (c_X0_needsOf (by assumption)) gX0_allNeedsOf_X0_needsOf q_X0_needsOf rfl (by decide) rfl (by assumption) rfl rfl (Nat.le_of_ble_eq_true rfl) dX0_allNeedsOf_41 ⟨Nat.le_refl _, Nat.le_refl _⟩) ?_
        refine aw_ior dX0_allNeedsOf_44 ?_
        refine aw_istore_4 dX0_allNeedsOf_45 ?_
        refine aw_iinc_5 (v := 1) (by decide) dX0_allNeedsOf_47 ?_
        refine aw_goto (tgt := 20) dX0_allNeedsOf_50 (by decide) ?_
        rw [nI_1]
        have h9 := ih (20 - (j + 1)) (by omega) (j + 1) s i (by omega) rfl hk
        simp only [it, c33, if_pos, if_neg, not_false_eq_true, ite_true, ite_false] at h9
        exact h9
  have L8 : ∀ (m i : Nat) (o4 o5 : Option Value), i ≤ 20 → 20 - i = m → AW mX0_allNeedsOf X (zMQ mX0_allNeedsOf X (some (.int (bAll (zsub F β) t))) sh F P) 8 [some (.ref β), some (.int t), some (.int (it (fun _ s => bWider (zsub F β) s) i (bNeeds (zsub F β) t))), some (.int (nI i)), o4, o5] [] ρ sh F P 0 0 := by
    intro m
    induction m using Nat.strongRecOn with
    | _ m ih =>
    intro i o4 o5 hi hm
    refine aw_iload_3 dX0_allNeedsOf_8 ?_
    refine aw_bipush (v := 20) dX0_allNeedsOf_9 (by decide) ?_
    refine aw_icmp_ge (tgt := 70) dX0_allNeedsOf_11 (by decide) (fun c11 => ?_) (fun c11 => ?_)
    · refine aw_iload_2 dX0_allNeedsOf_70 ?_
      exact aw_ireturn rfl dX0_allNeedsOf_71 ⟨Nat.zero_le _, Nat.zero_le _⟩ (by rw [zend (n := 20) hi (by decide) c11]; rfl) rfl rfl rfl
    · have hlt : i < 20 := zlt (n := 20) hi (by decide) c11
      refine aw_iload_2 dX0_allNeedsOf_14 ?_
      refine aw_istore_4 dX0_allNeedsOf_15 ?_
      refine aw_iconst (v := 0) dX0_allNeedsOf_17 (by decide) ?_
      refine aw_istore_5 dX0_allNeedsOf_18 ?_
      refine L20 _ 0 _ i (Nat.zero_le _) rfl (fun o5 => ?_)
      refine aw_iload_4 dX0_allNeedsOf_53 ?_
      refine aw_iload_2 dX0_allNeedsOf_55 ?_
      refine aw_icmp_ne (tgt := 61) dX0_allNeedsOf_56 (by decide) (fun c56 => ?_) (fun c56 => ?_)
      · refine aw_iload_4 dX0_allNeedsOf_61 ?_
        refine aw_istore_2 dX0_allNeedsOf_63 ?_
        refine aw_iinc_3 (v := 1) (by decide) dX0_allNeedsOf_64 ?_
        refine aw_goto (tgt := 8) dX0_allNeedsOf_67 (by decide) ?_
        rw [nI_1]
        exact ih (20 - (i + 1)) (by omega) (i + 1) _ _ (by omega) rfl
      · refine aw_iload_2 dX0_allNeedsOf_59 ?_
        exact aw_ireturn rfl dX0_allNeedsOf_60 ⟨Nat.zero_le _, Nat.zero_le _⟩ (by rw [bAll, it_fix c56 20 hi]) rfl rfl rfl
  refine aw_aload_0 dX0_allNeedsOf_0 ?_
  refine aw_iload_1 dX0_allNeedsOf_1 ?_
  refine aw_run (zRun_V (c_X0_needsOf (by assumption)) gX0_allNeedsOf_X0_needsOf q_X0_needsOf rfl (by decide) rfl (by assumption) rfl rfl (Nat.le_of_ble_eq_true rfl) dX0_allNeedsOf_2 ⟨Nat.le_refl _, Nat.le_refl _⟩) ?_
  refine aw_istore_2 dX0_allNeedsOf_5 ?_
  refine aw_iconst (v := 0) dX0_allNeedsOf_6 (by decide) ?_
  refine aw_istore_3 dX0_allNeedsOf_7 ?_
  exact L8 _ 0 _ _ (Nat.zero_le _) rfl

