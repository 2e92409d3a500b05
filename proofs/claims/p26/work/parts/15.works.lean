/-! ===== 15.works: ThingMaker$Works, by program; W is the memory behind ω (0 the works, 1 the bench, 2..7 its rows) ===== -/
def zVw (F : Nat → Nat → Int32) (b n : Nat) (W : Nat → Nat → Int32) : Prop := ∀ j, j < n → F (b + j) = W j
theorem zput_view {F : Nat → Nat → Int32} {b n : Nat} {W : Nat → Nat → Int32} (h : zVw F b n W) : zput F b n W = F := by
  funext i
  by_cases e : b ≤ i ∧ i < b + n
  · have e2 : b + (i - b) = i := by omega
    simp only [zput, if_pos e]
    rw [← h (i - b) (by omega), e2]
  · simp only [zput, if_neg e]
theorem zput_a0 {F : Nat → Nat → Int32} {b n : Nat} {B : Nat → Nat → Int32} (h : 0 < n) : zput F b n B b = B 0 := zput_at (j := 0) h
theorem zup_in {F : Nat → Nat → Int32} {b n j : Nat} {B : Nat → Nat → Int32} {x : Nat → Int32} (h : j < n) : va_up (zput F b n B) (b + j) x = zput F b n (va_up B j x) := (zput_up h).symm
theorem zup_in0 {F : Nat → Nat → Int32} {b n : Nat} {B : Nat → Nat → Int32} {x : Nat → Int32} (h : 0 < n) : va_up (zput F b n B) b x = zput F b n (va_up B 0 x) := (zput_up (j := 0) h).symm
theorem zVw.put {F : Nat → Nat → Int32} {b n : Nat} {W : Nat → Nat → Int32} : zVw (zput F b n W) b n W := fun _ h => zput_at h
theorem zVw.out {F : Nat → Nat → Int32} {b n c m : Nat} {B W : Nat → Nat → Int32} (h : zVw F c m B) (hd : b + n ≤ c ∨ c + m ≤ b) : zVw (zput F b n W) c m B := fun j hj => by
  rw [zput_ne (by omega)]
  exact h j hj
theorem zVw.up {F : Nat → Nat → Int32} {a c m : Nat} {B : Nat → Nat → Int32} {x : Nat → Int32} (h : zVw F c m B) (hd : a < c ∨ c + m ≤ a) : zVw (va_up F a x) c m B := fun j hj => by
  rw [zup_ne (by omega)]
  exact h j hj
theorem zVw.upin {F : Nat → Nat → Int32} {b n j : Nat} {B : Nat → Nat → Int32} {x : Nat → Int32} (h : zVw F b n B) : zVw (va_up F (b + j) x) b n (va_up B j x) := fun i hi => by
  by_cases e : i = j
  · subst e
    rw [zup_eq, zup_eq]
  · rw [zup_ne (by omega), zup_ne e]
    exact h i hi
theorem zVw.self {F : Nat → Nat → Int32} {b n : Nat} : zVw F b n (zsub F b) := fun _ _ => rfl

theorem bYield_v {F : Nat → Nat → Int32} {β : Nat} {B : Nat → Nat → Int32} (h : zVw F β 9 B) {t : Int32} : bYield (zsub F β) t = bYield B t := by
  unfold bYield zsub
  rw [h 1 (by decide)]
theorem v_X0_yieldOf {sh : zSh} {F : Nat → Nat → Int32} {P : Nat → Nat → Option Nat} {β : Nat} {B : Nat → Nat → Int32} {t : Int32} (hB : zBk sh P β) (h : zVw F β 9 B) : zMet yX0_yieldOf wsX0_yieldOf 2 0 0 [.ref β, .int t] sh F P (some (.int (bYield B t))) sh F P := by
  rw [← bYield_v h]
  exact c_X0_yieldOf hB

theorem bIngs_v {F : Nat → Nat → Int32} {β : Nat} {B : Nat → Nat → Int32} (h : zVw F β 9 B) {t : Int32} : bIngs (zsub F β) t = bIngs B t := by
  unfold bIngs zsub
  rw [h 2 (by decide)]
theorem v_X0_ingredientsOf {sh : zSh} {F : Nat → Nat → Int32} {P : Nat → Nat → Option Nat} {β : Nat} {B : Nat → Nat → Int32} {t : Int32} (hB : zBk sh P β) (h : zVw F β 9 B) : zMet yX0_ingredientsOf wsX0_ingredientsOf 2 0 0 [.ref β, .int t] sh F P (some (.int (bIngs B t))) sh F P := by
  rw [← bIngs_v h]
  exact c_X0_ingredientsOf hB

theorem bSubs_v {F : Nat → Nat → Int32} {β : Nat} {B : Nat → Nat → Int32} (h : zVw F β 9 B) {t : Int32} : bSubs (zsub F β) t = bSubs B t := by
  unfold bSubs zsub
  rw [h 5 (by decide)]
theorem v_X0_substitutesOf {sh : zSh} {F : Nat → Nat → Int32} {P : Nat → Nat → Option Nat} {β : Nat} {B : Nat → Nat → Int32} {t : Int32} (hB : zBk sh P β) (h : zVw F β 9 B) : zMet yX0_substitutesOf wsX0_substitutesOf 2 0 0 [.ref β, .int t] sh F P (some (.int (bSubs B t))) sh F P := by
  rw [← bSubs_v h]
  exact c_X0_substitutesOf hB

theorem bVes_v {F : Nat → Nat → Int32} {β : Nat} {B : Nat → Nat → Int32} (h : zVw F β 9 B) {t : Int32} : bVes (zsub F β) t = bVes B t := by
  unfold bVes zsub
  rw [h 7 (by decide)]
theorem v_X0_vesselOf {sh : zSh} {F : Nat → Nat → Int32} {P : Nat → Nat → Option Nat} {β : Nat} {B : Nat → Nat → Int32} {t : Int32} (hB : zBk sh P β) (h : zVw F β 9 B) : zMet yX0_vesselOf wsX0_vesselOf 2 0 0 [.ref β, .int t] sh F P (some (.int (bVes B t))) sh F P := by
  rw [← bVes_v h]
  exact c_X0_vesselOf hB

theorem bRank_v {F : Nat → Nat → Int32} {β : Nat} {B : Nat → Nat → Int32} (h : zVw F β 9 B) {t : Int32} : bRank (zsub F β) t = bRank B t := by
  unfold bRank zsub
  rw [h 8 (by decide)]
theorem v_X0_rankOf {sh : zSh} {F : Nat → Nat → Int32} {P : Nat → Nat → Option Nat} {β : Nat} {B : Nat → Nat → Int32} {t : Int32} (hB : zBk sh P β) (h : zVw F β 9 B) : zMet yX0_rankOf wsX0_rankOf 2 0 0 [.ref β, .int t] sh F P (some (.int (bRank B t))) sh F P := by
  rw [← bRank_v h]
  exact c_X0_rankOf hB

theorem bIng_v {F : Nat → Nat → Int32} {β : Nat} {B : Nat → Nat → Int32} (h : zVw F β 9 B) {t k : Int32} : bIng (zsub F β) t k = bIng B t k := by
  unfold bIng zsub
  rw [h 3 (by decide)]
theorem v_X0_ingredientAt {sh : zSh} {F : Nat → Nat → Int32} {P : Nat → Nat → Option Nat} {β : Nat} {B : Nat → Nat → Int32} {t k : Int32} (hB : zBk sh P β) (h : zVw F β 9 B) : zMet yX0_ingredientAt wsX0_ingredientAt 2 0 0 [.ref β, .int t, .int k] sh F P (some (.int (bIng B t k))) sh F P := by
  rw [← bIng_v h]
  exact c_X0_ingredientAt hB

theorem bAmt_v {F : Nat → Nat → Int32} {β : Nat} {B : Nat → Nat → Int32} (h : zVw F β 9 B) {t k : Int32} : bAmt (zsub F β) t k = bAmt B t k := by
  unfold bAmt zsub
  rw [h 4 (by decide)]
theorem v_X0_amountAt {sh : zSh} {F : Nat → Nat → Int32} {P : Nat → Nat → Option Nat} {β : Nat} {B : Nat → Nat → Int32} {t k : Int32} (hB : zBk sh P β) (h : zVw F β 9 B) : zMet yX0_amountAt wsX0_amountAt 2 0 0 [.ref β, .int t, .int k] sh F P (some (.int (bAmt B t k))) sh F P := by
  rw [← bAmt_v h]
  exact c_X0_amountAt hB

theorem bSub_v {F : Nat → Nat → Int32} {β : Nat} {B : Nat → Nat → Int32} (h : zVw F β 9 B) {t k : Int32} : bSub (zsub F β) t k = bSub B t k := by
  unfold bSub zsub
  rw [h 6 (by decide)]
theorem v_X0_substituteAt {sh : zSh} {F : Nat → Nat → Int32} {P : Nat → Nat → Option Nat} {β : Nat} {B : Nat → Nat → Int32} {t k : Int32} (hB : zBk sh P β) (h : zVw F β 9 B) : zMet yX0_substituteAt wsX0_substituteAt 2 0 0 [.ref β, .int t, .int k] sh F P (some (.int (bSub B t k))) sh F P := by
  rw [← bSub_v h]
  exact c_X0_substituteAt hB

theorem bMade_v {F : Nat → Nat → Int32} {β : Nat} {B : Nat → Nat → Int32} (h : zVw F β 9 B) {t : Int32} : bMade (zsub F β) t = bMade B t := by
  unfold bMade
  rw [bYield_v h]
theorem v_X0_isMade {sh : zSh} {F : Nat → Nat → Int32} {P : Nat → Nat → Option Nat} {β : Nat} {B : Nat → Nat → Int32} {t : Int32} (hB : zBk sh P β) (h : zVw F β 9 B) : zMet yX0_isMade wsX0_isMade 2 0 0 [.ref β, .int t] sh F P (some (.int (bMade B t))) sh F P := by
  rw [← bMade_v h]
  exact c_X0_isMade hB
def zSt (sh : zSh) (P : Nat → Nat → Option Nat) (σ : Nat) : Prop := sh σ = some (.inl 4) ∧ (P σ 0 = some (σ + 1) ∧ P σ 1 = some (σ + 2) ∧ P σ 2 = some (σ + 3) ∧ P σ 3 = some (σ + 4) ∧ P σ 4 = some (σ + 5) ∧ P σ 5 = some (σ + 6)) ∧ sh (σ + 1) = some (.inr (0, 20)) ∧ sh (σ + 2) = some (.inr (0, 20)) ∧ sh (σ + 3) = some (.inr (0, 20)) ∧ sh (σ + 4) = some (.inr (0, 20)) ∧ sh (σ + 5) = some (.inr (0, 20)) ∧ sh (σ + 6) = some (.inr (0, 20))
def zWk (sh : zSh) (P : Nat → Nat → Option Nat) (ω : Nat) : Prop := sh ω = some (.inl 5) ∧ P ω 0 = some (ω + 1) ∧ sh (ω + 1) = some (.inl 4) ∧ (P (ω + 1) 0 = some (ω + 2) ∧ P (ω + 1) 1 = some (ω + 3) ∧ P (ω + 1) 2 = some (ω + 4) ∧ P (ω + 1) 3 = some (ω + 5) ∧ P (ω + 1) 4 = some (ω + 6) ∧ P (ω + 1) 5 = some (ω + 7)) ∧ sh (ω + 2) = some (.inr (0, 20)) ∧ sh (ω + 3) = some (.inr (0, 20)) ∧ sh (ω + 4) = some (.inr (0, 20)) ∧ sh (ω + 5) = some (.inr (0, 20)) ∧ sh (ω + 6) = some (.inr (0, 20)) ∧ sh (ω + 7) = some (.inr (0, 20))
theorem zWk.st {sh : zSh} {P : Nat → Nat → Option Nat} {ω : Nat} (h : zWk sh P ω) : zSt sh P (ω + 1) := ⟨h.2.2.1, h.2.2.2.1, h.2.2.2.2⟩
def wCome (W : Nat → Nat → Int32) (j : Nat) (t n : Int32) : Nat → Nat → Int32 :=
  if cAt 20 (cAdd 20 (W 2) t n) t ≤ 99999 then va_up (va_up W 2 (cAdd 20 (W 2) t n)) j (cAdd 20 (W j) t n)
  else va_up (va_up (va_up W 2 (cAdd 20 (W 2) t n)) j (cAdd 20 (W j) t n)) 0 (upd (W 0) 2 1)
def wN (W : Nat → Nat → Int32) (t w : Int32) : Int32 := if cAt 20 (W 2) t < w then cAt 20 (W 2) t else w
def wUse0 (W : Nat → Nat → Int32) (t n : Int32) : Nat → Nat → Int32 := va_up (va_up W 2 (cAdd 20 (W 2) t (-n))) 5 (cAdd 20 (W 5) t n)
def wUse (B W : Nat → Nat → Int32) (t w : Int32) : Nat → Nat → Int32 := if bVes B t = -9 then wUse0 W t (wN W t w) else wCome (wUse0 W t (wN W t w)) 6 (bVes B t) (wN W t w)
def wColF (W : Nat → Nat → Int32) : Nat → Nat → Int32 := if W 0 1 = 0 then va_up W 0 (upd (W 0) 2 1) else W
def wCol0 (W : Nat → Nat → Int32) (n : Int32) : Nat → Nat → Int32 := va_up (wColF W) 0 (upd (wColF W 0) 4 (wColF W 0 4 + n))
def wCol (W : Nat → Nat → Int32) (t n : Int32) : Nat → Nat → Int32 := wCome (wCol0 W n) 3 t n
def fstLt (p : Nat → Bool) : Nat → Option Nat
  | 0 => none
  | n + 1 => match fstLt p n with
    | some i => some i
    | none => if p n = true then some n else none
theorem fstLt_hit {p : Nat → Bool} {n i : Nat} (h : fstLt p i = none) (hp : p i = true) (hi : i < n) : fstLt p n = some i := by
  induction n with
  | zero => omega
  | succ n ih =>
    rcases Nat.lt_or_ge i n with h2 | h2
    · simp [fstLt, ih h2]
    · have : i = n := by omega
      subst this
      simp [fstLt, h, hp]
def bStand (B : Nat → Nat → Int32) (t : Int32) : Int32 := if bMade B t = 0 then (match fstLt (fun i => !decide (bMade B (bSub B t (nI i)) = 0)) (bSubs B t).toNatClampNeg with
  | some i => bSub B t (nI i)
  | none => t) else t

abbrev mX5_gathered : ZM := (cX5_gathered, RX5, wsX5_gathered, 1, 0, 0, (some .int), 1, yX5_gathered.name)
set_option maxHeartbeats 1000000 in
set_option maxRecDepth 100000 in
theorem c_X5_gathered {sh : zSh} {F : Nat → Nat → Int32} {P : Nat → Nat → Option Nat} {ω : Nat} {W : Nat → Nat → Int32} (hW : zWk sh P ω) (hV : zVw F ω 8 W) : zMet yX5_gathered wsX5_gathered (1) (0) (0) [.ref ω] sh F P (some (.int (W 0 4))) sh F P := by
  refine zMet.of (by decide) rfl (Nat.le_of_ble_eq_true rfl) (by simp [Value.category]) ?_
  intro X ρ
  show AW mX5_gathered X (zMQ mX5_gathered X (some (.int (W 0 4))) sh F P) 0 [some (.ref ω)] [] ρ sh F P 0 0
  have hinX5 : ∀ w ∈ u_ws RX5 TX5 5, w ∈ wsX5_gathered := by decide +kernel
  obtain ⟨ws0, wp0, ws1, ⟨bp0, bp1, bp2, bp3, bp4, bp5⟩, ws2, ws3, ws4, ws5, ws6, ws7⟩ := id hW
  refine aw_cF (F' := zput F ω 8 W) (zput_view hV).symm ?_
  refine aw_aload_0 dX5_gathered_0 ?_
  refine aw_getI fX5_4 hinX5 (by decide +kernel) (by assumption) dX5_gathered_1 ?_
  try simp (disch := omega) only [zu_up, zup_in, zup_in0, zput_at, zput_a0, zput_zput]
  exact aw_ireturn rfl dX5_gathered_4 ⟨Nat.zero_le _, Nat.zero_le _⟩ rfl rfl (zput_view hV) rfl

abbrev mX5_comeIn : ZM := (cX5_comeIn, RX5, wsX5_comeIn, 2, 0, 0, none, 4, yX5_comeIn.name)
set_option maxHeartbeats 1000000 in
set_option maxRecDepth 100000 in
theorem c_X5_comeIn {sh : zSh} {F : Nat → Nat → Int32} {P : Nat → Nat → Option Nat} {ω : Nat} {W : Nat → Nat → Int32} {j : Nat} {t n : Int32} (hW : zWk sh P ω) (hV : zVw F ω 8 W) (hj : 2 < j ∧ j < 8) : zMet yX5_comeIn wsX5_comeIn (2) (0) (0) [.ref ω, .int t, .int n, .ref (ω + j)] sh F P (none) sh (zput F ω 8 (wCome W j t n)) P := by
  refine zMet.of (by decide) rfl (Nat.le_of_ble_eq_true rfl) (by simp [Value.category]) ?_
  intro X ρ
  show AW mX5_comeIn X (zMQ mX5_comeIn X (none) sh (zput F ω 8 (wCome W j t n)) P) 0 [some (.ref ω), some (.int t), some (.int n), some (.ref (ω + j))] [] ρ sh F P 0 0
  have hinX5 : ∀ w ∈ u_ws RX5 TX5 5, w ∈ wsX5_comeIn := by decide +kernel
  have hinX4 : ∀ w ∈ u_ws RX4 TX4 7, w ∈ wsX5_comeIn := by decide +kernel
  obtain ⟨ws0, wp0, ws1, ⟨bp0, bp1, bp2, bp3, bp4, bp5⟩, ws2, ws3, ws4, ws5, ws6, ws7⟩ := id hW
  refine aw_cF (F' := zput F ω 8 W) (zput_view hV).symm ?_
  have wsj : sh (ω + j) = some (.inr (0, 20)) := by
    rcases (show j = 3 ∨ j = 4 ∨ j = 5 ∨ j = 6 ∨ j = 7 by omega) with rfl | rfl | rfl | rfl | rfl <;> assumption
  have n2j : 2 ≠ j := by omega
  have nj2 : j ≠ 2 := by omega
  have n0j : 0 ≠ j := by omega
  refine aw_aload_0 dX5_comeIn_0 ?_
  refine aw_getR fX5_0 (fun _ _ => rfl) (by assumption) hinX5 (by decide +kernel) (by assumption) dX5_comeIn_1 ?_
  refine aw_getRN (q := 19) fX4_0 (fun _ _ => rfl) (by assumption) hinX4 rfl (by assumption) dX5_comeIn_4 ?_
  refine aw_iload_1 dX5_comeIn_7 ?_
  refine aw_iload_2 dX5_comeIn_8 ?_
  refine aw_runv (zRun_SN (qn := 17) (c_X6_add (by assumption) (by decide)) gX5_comeIn_X6_add_n40 rfl (by decide +kernel) (by decide +kernel) q_X6_add (by decide) rfl rfl (Nat.le_of_ble_eq_true rfl) dX5_comeIn_9 ⟨Nat.le_refl _, Nat.le_refl _⟩) ?_
  try simp (disch := omega) only [zu_up, zup_in, zup_in0, zput_at, zput_a0, zput_zput]
  refine aw_aload_3 dX5_comeIn_12 ?_
  refine aw_iload_1 dX5_comeIn_13 ?_
  refine aw_iload_2 dX5_comeIn_14 ?_
  refine aw_runv (zRun_SN (qn := 17) (c_X6_add (by assumption) (by decide)) gX5_comeIn_X6_add_n40 rfl (by decide +kernel) (by decide +kernel) q_X6_add (by decide) rfl rfl (Nat.le_of_ble_eq_true rfl) dX5_comeIn_15 ⟨Nat.le_refl _, Nat.le_refl _⟩) ?_
  try simp (disch := omega) only [zu_up, zup_in, zup_in0, zput_at, zput_a0, zput_zput]
  rw [zup_ne nj2]
  refine aw_aload_0 dX5_comeIn_18 ?_
  refine aw_getR fX5_0 (fun _ _ => rfl) (by assumption) hinX5 (by decide +kernel) (by assumption) dX5_comeIn_19 ?_
  refine aw_getRN (q := 19) fX4_0 (fun _ _ => rfl) (by assumption) hinX4 rfl (by assumption) dX5_comeIn_22 ?_
  refine aw_iload_1 dX5_comeIn_25 ?_
  refine aw_run (zRun_SN (qn := 18) (c_X6_at (by assumption) (by decide)) gX5_comeIn_X6_at_n44 rfl (by decide +kernel) (by decide +kernel) q_X6_at (by decide) rfl rfl (Nat.le_of_ble_eq_true rfl) dX5_comeIn_26 ⟨Nat.le_refl _, Nat.le_refl _⟩) ?_
  try simp (disch := omega) only [zu_up, zup_in, zup_in0, zput_at, zput_a0, zput_zput]
  rw [zup_ne n2j, zup_eq]
  refine aw_ldc (v := 99999) (by decide +kernel) dX5_comeIn_29 ?_
  refine aw_icmp_le (tgt := 39) dX5_comeIn_31 (by decide) (fun c31 => ?_) (fun c31 => ?_)
  · exact aw_return rfl dX5_comeIn_39 ⟨Nat.zero_le _, Nat.zero_le _⟩ rfl rfl (by unfold wCome; (first | rw [if_pos c31] | rw [if_neg c31]); try (simp (disch := omega) only [zu_up, zup_in, zup_in0, zput_at, zput_a0, zput_zput]; rw [zup_ne n0j, zup_ne (by decide)])) rfl
  · refine aw_aload_0 dX5_comeIn_34 ?_
    refine aw_iconst (v := 1) dX5_comeIn_35 (by decide) ?_
    refine aw_putZ (by decide) fX5_2 rfl hinX5 (by decide +kernel) (by assumption) dX5_comeIn_36 ?_
    exact aw_return rfl dX5_comeIn_39 ⟨Nat.zero_le _, Nat.zero_le _⟩ rfl rfl (by unfold wCome; (first | rw [if_pos c31] | rw [if_neg c31]); try (simp (disch := omega) only [zu_up, zup_in, zup_in0, zput_at, zput_a0, zput_zput]; rw [zup_ne n0j, zup_ne (by decide)])) rfl

abbrev mX5_useUp : ZM := (cX5_useUp, RX5, wsX5_useUp, 3, 0, 0, (some .int), 6, yX5_useUp.name)
set_option maxHeartbeats 1000000 in
set_option maxRecDepth 100000 in
theorem c_X5_useUp {sh : zSh} {F : Nat → Nat → Int32} {P : Nat → Nat → Option Nat} {ω : Nat} {W : Nat → Nat → Int32} {β : Nat} {B : Nat → Nat → Int32} {t w : Int32} (hW : zWk sh P ω) (hV : zVw F ω 8 W) (hB : zBk sh P β) (hBv : zVw F β 9 B) (hd : ω + 8 ≤ β ∨ β + 9 ≤ ω) : zMet yX5_useUp wsX5_useUp (3) (0) (0) [.ref ω, .ref β, .int t, .int w] sh F P (some (.int (wN W t w))) sh (zput F ω 8 (wUse B W t w)) P := by
  refine zMet.of (by decide) rfl (Nat.le_of_ble_eq_true rfl) (by simp [Value.category]) ?_
  intro X ρ
  show AW mX5_useUp X (zMQ mX5_useUp X (some (.int (wN W t w))) sh (zput F ω 8 (wUse B W t w)) P) 0 [some (.ref ω), some (.ref β), some (.int t), some (.int w), none, none] [] ρ sh F P 0 0
  have hinX5 : ∀ w ∈ u_ws RX5 TX5 5, w ∈ wsX5_useUp := by decide +kernel
  have hinX4 : ∀ w ∈ u_ws RX4 TX4 7, w ∈ wsX5_useUp := by decide +kernel
  obtain ⟨ws0, wp0, ws1, ⟨bp0, bp1, bp2, bp3, bp4, bp5⟩, ws2, ws3, ws4, ws5, ws6, ws7⟩ := id hW
  refine aw_cF (F' := zput F ω 8 W) (zput_view hV).symm ?_
  have hbs := hB.1
  refine aw_iload_3 dX5_useUp_0 ?_
  refine aw_aload_0 dX5_useUp_1 ?_
  refine aw_getR fX5_0 (fun _ _ => rfl) (by assumption) hinX5 (by decide +kernel) (by assumption) dX5_useUp_2 ?_
  refine aw_getRN (q := 19) fX4_0 (fun _ _ => rfl) (by assumption) hinX4 rfl (by assumption) dX5_useUp_5 ?_
  refine aw_iload_2 dX5_useUp_8 ?_
  refine aw_run (zRun_SN (qn := 18) (c_X6_at (by assumption) (by decide)) gX5_useUp_X6_at_n44 rfl (by decide +kernel) (by decide +kernel) q_X6_at (by decide) rfl rfl (Nat.le_of_ble_eq_true rfl) dX5_useUp_9 ⟨Nat.le_refl _, Nat.le_refl _⟩) ?_
  try simp (disch := omega) only [zu_up, zup_in, zup_in0, zput_at, zput_a0, zput_zput]
  refine aw_min (by decide +kernel) (by decide +kernel) (by decide +kernel) (by decide +kernel) (Nat.le_of_ble_eq_true rfl) ⟨Nat.zero_le _, Nat.zero_le _⟩ dX5_useUp_12 ?_
  rw [show (if cAt 20 (W 2) t < w then cAt 20 (W 2) t else w) = wN W t w from rfl]
  refine aw_istore_4 dX5_useUp_15 ?_
  refine aw_aload_0 dX5_useUp_17 ?_
  refine aw_getR fX5_0 (fun _ _ => rfl) (by assumption) hinX5 (by decide +kernel) (by assumption) dX5_useUp_18 ?_
  refine aw_getRN (q := 19) fX4_0 (fun _ _ => rfl) (by assumption) hinX4 rfl (by assumption) dX5_useUp_21 ?_
  refine aw_iload_2 dX5_useUp_24 ?_
  refine aw_iload_4 dX5_useUp_25 ?_
  refine aw_ineg dX5_useUp_27 ?_
  refine aw_runv (zRun_SN (qn := 17) (c_X6_add (by assumption) (by decide)) gX5_useUp_X6_add_n40 rfl (by decide +kernel) (by decide +kernel) q_X6_add (by decide) rfl rfl (Nat.le_of_ble_eq_true rfl) dX5_useUp_28 ⟨Nat.le_refl _, Nat.le_refl _⟩) ?_
  try simp (disch := omega) only [zu_up, zup_in, zup_in0, zput_at, zput_a0, zput_zput]
  refine aw_aload_0 dX5_useUp_31 ?_
  refine aw_getR fX5_0 (fun _ _ => rfl) (by assumption) hinX5 (by decide +kernel) (by assumption) dX5_useUp_32 ?_
  refine aw_getRN (q := 16) fX4_3 (fun _ _ => rfl) (by assumption) hinX4 rfl (by assumption) dX5_useUp_35 ?_
  refine aw_iload_2 dX5_useUp_38 ?_
  refine aw_iload_4 dX5_useUp_39 ?_
  refine aw_runv (zRun_SN (qn := 17) (c_X6_add (by assumption) (by decide)) gX5_useUp_X6_add_n40 rfl (by decide +kernel) (by decide +kernel) q_X6_add (by decide) rfl rfl (Nat.le_of_ble_eq_true rfl) dX5_useUp_41 ⟨Nat.le_refl _, Nat.le_refl _⟩) ?_
  try simp (disch := omega) only [zu_up, zup_in, zup_in0, zput_at, zput_a0, zput_zput]
  rw [zup_ne (show (5 : Nat) ≠ 2 by decide)]
  rw [show va_up (va_up W 2 (cAdd 20 (W 2) t (-wN W t w))) 5 (cAdd 20 (W 5) t (wN W t w)) = wUse0 W t (wN W t w) from rfl]
  refine aw_aload_1 dX5_useUp_44 ?_
  refine aw_iload_2 dX5_useUp_45 ?_
  refine aw_run (zRun_V (v_X0_vesselOf hB (by first | exact hBv | exact hBv.out (by omega))) gX5_useUp_X0_vesselOf q_X0_vesselOf rfl (by decide) rfl (by assumption) rfl rfl (Nat.le_of_ble_eq_true rfl) dX5_useUp_46 ⟨Nat.le_refl _, Nat.le_refl _⟩) ?_
  refine aw_istore_5 dX5_useUp_49 ?_
  refine aw_iload_5 dX5_useUp_51 ?_
  refine aw_bipush (v := (-9)) dX5_useUp_53 (by decide) ?_
  refine aw_icmp_eq (tgt := 73) dX5_useUp_55 (by decide) (fun c55 => ?_) (fun c55 => ?_)
  · try rw [zput_zput]
    refine aw_iload_4 dX5_useUp_73 ?_
    exact aw_ireturn rfl dX5_useUp_75 ⟨Nat.zero_le _, Nat.zero_le _⟩ rfl rfl (by unfold wUse; (first | rw [if_pos c55] | rw [if_neg c55])) rfl
  · refine aw_aload_0 dX5_useUp_58 ?_
    refine aw_iload_5 dX5_useUp_59 ?_
    refine aw_iload_4 dX5_useUp_61 ?_
    refine aw_aload_0 dX5_useUp_63 ?_
    refine aw_getR fX5_0 (fun _ _ => rfl) (by assumption) hinX5 (by decide +kernel) (by assumption) dX5_useUp_64 ?_
    refine aw_getRN (q := 17) fX4_4 (fun _ _ => rfl) (by assumption) hinX4 rfl (by assumption) dX5_useUp_67 ?_
    refine aw_runv (zRun_V (c_X5_comeIn (j := 6) hW zVw.put (by decide)) gX5_useUp_X5_comeIn q_X5_comeIn rfl (by decide) rfl (by assumption) rfl rfl (Nat.le_of_ble_eq_true rfl) dX5_useUp_70 ⟨Nat.le_refl _, Nat.le_refl _⟩) ?_
    try rw [zput_zput]
    refine aw_iload_4 dX5_useUp_73 ?_
    exact aw_ireturn rfl dX5_useUp_75 ⟨Nat.zero_le _, Nat.zero_le _⟩ rfl rfl (by unfold wUse; (first | rw [if_pos c55] | rw [if_neg c55])) rfl

abbrev mX5_collect : ZM := (cX5_collect, RX5, wsX5_collect, 3, 0, 0, none, 3, yX5_collect.name)
set_option maxHeartbeats 1000000 in
set_option maxRecDepth 100000 in
theorem c_X5_collect {sh : zSh} {F : Nat → Nat → Int32} {P : Nat → Nat → Option Nat} {ω : Nat} {W : Nat → Nat → Int32} {t n : Int32} (hW : zWk sh P ω) (hV : zVw F ω 8 W) : zMet yX5_collect wsX5_collect (3) (0) (0) [.ref ω, .int t, .int n] sh F P (none) sh (zput F ω 8 (wCol W t n)) P := by
  refine zMet.of (by decide) rfl (Nat.le_of_ble_eq_true rfl) (by simp [Value.category]) ?_
  intro X ρ
  show AW mX5_collect X (zMQ mX5_collect X (none) sh (zput F ω 8 (wCol W t n)) P) 0 [some (.ref ω), some (.int t), some (.int n)] [] ρ sh F P 0 0
  have hinX5 : ∀ w ∈ u_ws RX5 TX5 5, w ∈ wsX5_collect := by decide +kernel
  have hinX4 : ∀ w ∈ u_ws RX4 TX4 7, w ∈ wsX5_collect := by decide +kernel
  obtain ⟨ws0, wp0, ws1, ⟨bp0, bp1, bp2, bp3, bp4, bp5⟩, ws2, ws3, ws4, ws5, ws6, ws7⟩ := id hW
  refine aw_cF (F' := zput F ω 8 W) (zput_view hV).symm ?_
  refine aw_aload_0 dX5_collect_0 ?_
  refine aw_getZ fX5_1 hinX5 (by decide +kernel) (by assumption) dX5_collect_1 ?_
  try simp (disch := omega) only [zu_up, zup_in, zup_in0, zput_at, zput_a0, zput_zput]
  refine aw_if_ne (tgt := 12) dX5_collect_4 (by decide) (fun c4 => ?_) (fun c4 => ?_)
  · try simp (disch := omega) only [zu_up, zup_in, zup_in0, zput_at, zput_a0, zput_zput]
    refine aw_cF (F' := zput F ω 8 (wColF W)) (by unfold wColF; (first | rw [if_pos c4] | rw [if_neg c4])) ?_
    refine aw_aload_0 dX5_collect_12 ?_
    refine aw_dup rfl dX5_collect_13 ?_
    refine aw_getI fX5_4 hinX5 (by decide +kernel) (by assumption) dX5_collect_14 ?_
    try simp (disch := omega) only [zu_up, zup_in, zup_in0, zput_at, zput_a0, zput_zput]
    refine aw_iload_2 dX5_collect_17 ?_
    refine aw_iadd dX5_collect_18 ?_
    refine aw_putI fX5_4 rfl hinX5 (by decide +kernel) (by assumption) dX5_collect_19 ?_
    try simp (disch := omega) only [zu_up, zup_in, zup_in0, zput_at, zput_a0, zput_zput]
    refine aw_aload_0 dX5_collect_22 ?_
    refine aw_iload_1 dX5_collect_23 ?_
    refine aw_iload_2 dX5_collect_24 ?_
    refine aw_aload_0 dX5_collect_25 ?_
    refine aw_getR fX5_0 (fun _ _ => rfl) (by assumption) hinX5 (by decide +kernel) (by assumption) dX5_collect_26 ?_
    refine aw_getRN (q := 18) fX4_1 (fun _ _ => rfl) (by assumption) hinX4 rfl (by assumption) dX5_collect_29 ?_
    refine aw_runv (zRun_V (c_X5_comeIn (j := 3) hW zVw.put (by decide)) gX5_collect_X5_comeIn q_X5_comeIn rfl (by decide) rfl (by assumption) rfl rfl (Nat.le_of_ble_eq_true rfl) dX5_collect_32 ⟨Nat.le_refl _, Nat.le_refl _⟩) ?_
    exact aw_return rfl dX5_collect_35 ⟨Nat.zero_le _, Nat.zero_le _⟩ rfl rfl (by rw [zput_zput]; rfl) rfl
  · refine aw_aload_0 dX5_collect_7 ?_
    refine aw_iconst (v := 1) dX5_collect_8 (by decide) ?_
    refine aw_putZ (by decide) fX5_2 rfl hinX5 (by decide +kernel) (by assumption) dX5_collect_9 ?_
    try simp (disch := omega) only [zu_up, zup_in, zup_in0, zput_at, zput_a0, zput_zput]
    refine aw_cF (F' := zput F ω 8 (wColF W)) (by unfold wColF; (first | rw [if_pos c4] | rw [if_neg c4])) ?_
    refine aw_aload_0 dX5_collect_12 ?_
    refine aw_dup rfl dX5_collect_13 ?_
    refine aw_getI fX5_4 hinX5 (by decide +kernel) (by assumption) dX5_collect_14 ?_
    try simp (disch := omega) only [zu_up, zup_in, zup_in0, zput_at, zput_a0, zput_zput]
    refine aw_iload_2 dX5_collect_17 ?_
    refine aw_iadd dX5_collect_18 ?_
    refine aw_putI fX5_4 rfl hinX5 (by decide +kernel) (by assumption) dX5_collect_19 ?_
    try simp (disch := omega) only [zu_up, zup_in, zup_in0, zput_at, zput_a0, zput_zput]
    refine aw_aload_0 dX5_collect_22 ?_
    refine aw_iload_1 dX5_collect_23 ?_
    refine aw_iload_2 dX5_collect_24 ?_
    refine aw_aload_0 dX5_collect_25 ?_
    refine aw_getR fX5_0 (fun _ _ => rfl) (by assumption) hinX5 (by decide +kernel) (by assumption) dX5_collect_26 ?_
    refine aw_getRN (q := 18) fX4_1 (fun _ _ => rfl) (by assumption) hinX4 rfl (by assumption) dX5_collect_29 ?_
    refine aw_runv (zRun_V (c_X5_comeIn (j := 3) hW zVw.put (by decide)) gX5_collect_X5_comeIn q_X5_comeIn rfl (by decide) rfl (by assumption) rfl rfl (Nat.le_of_ble_eq_true rfl) dX5_collect_32 ⟨Nat.le_refl _, Nat.le_refl _⟩) ?_
    exact aw_return rfl dX5_collect_35 ⟨Nat.zero_le _, Nat.zero_le _⟩ rfl rfl (by rw [zput_zput]; rfl) rfl

abbrev mX5_receive : ZM := (cX5_receive, RX5, wsX5_receive, 2, 0, 0, (some .boolean), 2, yX5_receive.name)
set_option maxHeartbeats 1000000 in
set_option maxRecDepth 100000 in
theorem c_X5_receive {sh : zSh} {F : Nat → Nat → Int32} {P : Nat → Nat → Option Nat} {ω : Nat} {W : Nat → Nat → Int32} {t : Int32} (hW : zWk sh P ω) (hV : zVw F ω 8 W) : zMet yX5_receive wsX5_receive (2) (0) (0) [.ref ω, .int t] sh F P (some (.int (if 99999 < cAt 20 (cAdd 20 (W 2) t 1) t then 0 else 1))) sh (zput F ω 8 (va_up W 2 (cAdd 20 (W 2) t 1))) P := by
  refine zMet.of (by decide) rfl (Nat.le_of_ble_eq_true rfl) (by simp [Value.category]) ?_
  intro X ρ
  show AW mX5_receive X (zMQ mX5_receive X (some (.int (if 99999 < cAt 20 (cAdd 20 (W 2) t 1) t then 0 else 1))) sh (zput F ω 8 (va_up W 2 (cAdd 20 (W 2) t 1))) P) 0 [some (.ref ω), some (.int t)] [] ρ sh F P 0 0
  have hinX5 : ∀ w ∈ u_ws RX5 TX5 5, w ∈ wsX5_receive := by decide +kernel
  have hinX4 : ∀ w ∈ u_ws RX4 TX4 7, w ∈ wsX5_receive := by decide +kernel
  obtain ⟨ws0, wp0, ws1, ⟨bp0, bp1, bp2, bp3, bp4, bp5⟩, ws2, ws3, ws4, ws5, ws6, ws7⟩ := id hW
  refine aw_cF (F' := zput F ω 8 W) (zput_view hV).symm ?_
  refine aw_aload_0 dX5_receive_0 ?_
  refine aw_getR fX5_0 (fun _ _ => rfl) (by assumption) hinX5 (by decide +kernel) (by assumption) dX5_receive_1 ?_
  refine aw_getRN (q := 19) fX4_0 (fun _ _ => rfl) (by assumption) hinX4 rfl (by assumption) dX5_receive_4 ?_
  refine aw_iload_1 dX5_receive_7 ?_
  refine aw_iconst (v := 1) dX5_receive_8 (by decide) ?_
  refine aw_runv (zRun_SN (qn := 17) (c_X6_add (by assumption) (by decide)) gX5_receive_X6_add_n40 rfl (by decide +kernel) (by decide +kernel) q_X6_add (by decide) rfl rfl (Nat.le_of_ble_eq_true rfl) dX5_receive_9 ⟨Nat.le_refl _, Nat.le_refl _⟩) ?_
  try simp (disch := omega) only [zu_up, zup_in, zup_in0, zput_at, zput_a0, zput_zput]
  refine aw_aload_0 dX5_receive_12 ?_
  refine aw_getR fX5_0 (fun _ _ => rfl) (by assumption) hinX5 (by decide +kernel) (by assumption) dX5_receive_13 ?_
  refine aw_getRN (q := 19) fX4_0 (fun _ _ => rfl) (by assumption) hinX4 rfl (by assumption) dX5_receive_16 ?_
  refine aw_iload_1 dX5_receive_19 ?_
  refine aw_run (zRun_SN (qn := 18) (c_X6_at (by assumption) (by decide)) gX5_receive_X6_at_n44 rfl (by decide +kernel) (by decide +kernel) q_X6_at (by decide) rfl rfl (Nat.le_of_ble_eq_true rfl) dX5_receive_20 ⟨Nat.le_refl _, Nat.le_refl _⟩) ?_
  try simp (disch := omega) only [zu_up, zup_in, zup_in0, zput_at, zput_a0, zput_zput]
  rw [zup_eq]
  refine aw_ldc (v := 99999) (by decide +kernel) dX5_receive_23 ?_
  refine aw_icmp_gt (tgt := 32) dX5_receive_25 (by decide) (fun c25 => ?_) (fun c25 => ?_)
  · refine aw_iconst (v := 0) dX5_receive_32 (by decide) ?_
    exact aw_zreturn rfl dX5_receive_33 ⟨Nat.zero_le _, Nat.zero_le _⟩ (by decide) (by first | rw [if_pos c25] | rw [if_neg c25]) rfl rfl rfl
  · refine aw_iconst (v := 1) dX5_receive_28 (by decide) ?_
    refine aw_goto (tgt := 33) dX5_receive_29 (by decide) ?_
    exact aw_zreturn rfl dX5_receive_33 ⟨Nat.zero_le _, Nat.zero_le _⟩ (by decide) (by first | rw [if_pos c25] | rw [if_neg c25]) rfl rfl rfl

abbrev mX5_standIn : ZM := (cX5_standIn, RX5, wsX5_standIn, 3, 0, 0, (some .int), 5, yX5_standIn.name)
set_option maxHeartbeats 1000000 in
set_option maxRecDepth 100000 in
theorem c_X5_standIn {sh : zSh} {F : Nat → Nat → Int32} {P : Nat → Nat → Option Nat} {ω : Nat} {W : Nat → Nat → Int32} {β : Nat} {B : Nat → Nat → Int32} {t : Int32} (hW : zWk sh P ω) (hV : zVw F ω 8 W) (hB : zBk sh P β) (hBv : zVw F β 9 B) (hd : ω + 8 ≤ β ∨ β + 9 ≤ ω) : zMet yX5_standIn wsX5_standIn (3) (0) (0) [.ref ω, .ref β, .int t] sh F P (some (.int (bStand B t))) sh F P := by
  refine zMet.of (by decide) rfl (Nat.le_of_ble_eq_true rfl) (by simp [Value.category]) ?_
  intro X ρ
  show AW mX5_standIn X (zMQ mX5_standIn X (some (.int (bStand B t))) sh F P) 0 [some (.ref ω), some (.ref β), some (.int t), none, none] [] ρ sh F P 0 0
  have hbs := hB.1
  have L19 : ∀ (m i : Nat), i ≤ (bSubs B t).toNatClampNeg → (bSubs B t).toNatClampNeg - i = m → bMade B t = 0 → fstLt (fun i => !decide (bMade B (bSub B t (nI i)) = 0)) i = none → AW mX5_standIn X (zMQ mX5_standIn X (some (.int (bStand B t))) sh F P) 19 [some (.ref ω), some (.ref β), some (.int t), some (.int (bSubs B t)), some (.int (nI i))] [] ρ sh F P 0 0 := by
    intro m
    induction m using Nat.strongRecOn with
    | _ m ih =>
    intro i hi hm h0 hn
    refine aw_iload_4 dX5_standIn_19 ?_
    refine aw_iload_3 dX5_standIn_21 ?_
    refine aw_icmp_ge (tgt := 53) dX5_standIn_22 (by decide) (fun c22 => ?_) (fun c22 => ?_)
    · refine aw_iload_2 dX5_standIn_53 ?_
      exact aw_ireturn rfl dX5_standIn_54 ⟨Nat.zero_le _, Nat.zero_le _⟩ (by rw [zcle hi c22] at hn; unfold bStand; rw [if_pos h0, hn]) rfl rfl rfl
    · have hlt := zclt hi c22
      refine aw_aload_1 dX5_standIn_25 ?_
      refine aw_aload_1 dX5_standIn_26 ?_
      refine aw_iload_2 dX5_standIn_27 ?_
      refine aw_iload_4 dX5_standIn_28 ?_
      refine aw_run (zRun_V (v_X0_substituteAt hB (by first | exact hBv | exact hBv.out (by omega))) gX5_standIn_X0_substituteAt q_X0_substituteAt rfl (by decide) rfl (by assumption) rfl rfl (Nat.le_of_ble_eq_true rfl) dX5_standIn_30 ⟨Nat.le_refl _, Nat.le_refl _⟩) ?_
      refine aw_run (zRun_V (v_X0_isMade hB (by first | exact hBv | exact hBv.out (by omega))) gX5_standIn_X0_isMade q_X0_isMade rfl (by decide) rfl (by assumption) rfl rfl (Nat.le_of_ble_eq_true rfl) dX5_standIn_33 ⟨Nat.le_refl _, Nat.le_refl _⟩) ?_
      refine aw_if_eq (tgt := 47) dX5_standIn_36 (by decide) (fun c36 => ?_) (fun c36 => ?_)
      · refine aw_iinc_4 (v := 1) (by decide) dX5_standIn_47 ?_
        refine aw_goto (tgt := 19) dX5_standIn_50 (by decide) ?_
        rw [nI_1]
        exact ih (_ - (i + 1)) (by omega) (i + 1) (by omega) rfl h0 (by simp [fstLt, hn, c36])
      · refine aw_aload_1 dX5_standIn_39 ?_
        refine aw_iload_2 dX5_standIn_40 ?_
        refine aw_iload_4 dX5_standIn_41 ?_
        refine aw_run (zRun_V (v_X0_substituteAt hB (by first | exact hBv | exact hBv.out (by omega))) gX5_standIn_X0_substituteAt q_X0_substituteAt rfl (by decide) rfl (by assumption) rfl rfl (Nat.le_of_ble_eq_true rfl) dX5_standIn_43 ⟨Nat.le_refl _, Nat.le_refl _⟩) ?_
        exact aw_ireturn rfl dX5_standIn_46 ⟨Nat.zero_le _, Nat.zero_le _⟩ (by unfold bStand; rw [if_pos h0, fstLt_hit hn (by simp [c36]) hlt]) rfl rfl rfl
  refine aw_aload_1 dX5_standIn_0 ?_
  refine aw_iload_2 dX5_standIn_1 ?_
  refine aw_run (zRun_V (v_X0_isMade hB (by first | exact hBv | exact hBv.out (by omega))) gX5_standIn_X0_isMade q_X0_isMade rfl (by decide) rfl (by assumption) rfl rfl (Nat.le_of_ble_eq_true rfl) dX5_standIn_2 ⟨Nat.le_refl _, Nat.le_refl _⟩) ?_
  refine aw_if_eq (tgt := 10) dX5_standIn_5 (by decide) (fun c5 => ?_) (fun c5 => ?_)
  · refine aw_aload_1 dX5_standIn_10 ?_
    refine aw_iload_2 dX5_standIn_11 ?_
    refine aw_run (zRun_V (v_X0_substitutesOf hB (by first | exact hBv | exact hBv.out (by omega))) gX5_standIn_X0_substitutesOf q_X0_substitutesOf rfl (by decide) rfl (by assumption) rfl rfl (Nat.le_of_ble_eq_true rfl) dX5_standIn_12 ⟨Nat.le_refl _, Nat.le_refl _⟩) ?_
    refine aw_istore_3 dX5_standIn_15 ?_
    refine aw_iconst (v := 0) dX5_standIn_16 (by decide) ?_
    refine aw_istore_4 dX5_standIn_17 ?_
    exact L19 _ 0 (Nat.zero_le _) rfl c5 rfl
  · refine aw_iload_2 dX5_standIn_8 ?_
    exact aw_ireturn rfl dX5_standIn_9 ⟨Nat.zero_le _, Nat.zero_le _⟩ (by unfold bStand; rw [if_neg c5]) rfl rfl rfl

