/-! ===== 27.tm5: recipe, forget, allow, forbid ===== -/
def zEq (n : Nat) (A B : Nat → Nat → Int32) : Prop := ∀ j, j < n → A j = B j
theorem zEq.up {n a : Nat} {A B : Nat → Nat → Int32} {x y : Nat → Int32} (h : zEq n A B) (e : x = y) : zEq n (va_up A a x) (va_up B a y) := fun j hj => by
  subst e
  by_cases h1 : j = a
  · subst h1
    rw [zup_eq, zup_eq]
  · rw [zup_ne h1, zup_ne h1]
    exact h j hj
theorem it_rel {σ τ : Type} {R : σ → τ → Prop} {f : Nat → σ → σ} {g : Nat → τ → τ} (h : ∀ i s t, R s t → R (f i s) (g i t)) {s : σ} {t : τ} (h0 : R s t) : ∀ n, R (it f n s) (it g n t)
  | 0 => h0
  | n + 1 => h n _ _ (it_rel h h0 n)
/-- a fact kept in a box: nothing looks into it by chance -/
def zBox (p : Prop) : Prop := p ∧ True
theorem zBox.out {p : Prop} (h : zBox p) : p := h.1
section ZE
variable {A B : Nat → Nat → Int32}
theorem bYield_e (h : zEq 9 A B) (t : Int32) : bYield A t = bYield B t := by unfold bYield; rw [h 1 (by decide)]
theorem bMade_e (h : zEq 9 A B) (t : Int32) : bMade A t = bMade B t := by unfold bMade; rw [bYield_e h]
theorem bIngs_e (h : zEq 9 A B) (t : Int32) : bIngs A t = bIngs B t := by unfold bIngs; rw [h 2 (by decide)]
theorem bIng_e (h : zEq 9 A B) (t k : Int32) : bIng A t k = bIng B t k := by unfold bIng; rw [h 3 (by decide)]
theorem bAmt_e (h : zEq 9 A B) (t k : Int32) : bAmt A t k = bAmt B t k := by unfold bAmt; rw [h 4 (by decide)]
theorem bSubs_e (h : zEq 9 A B) (t : Int32) : bSubs A t = bSubs B t := by unfold bSubs; rw [h 5 (by decide)]
theorem bSub_e (h : zEq 9 A B) (t k : Int32) : bSub A t k = bSub B t k := by unfold bSub; rw [h 6 (by decide)]
theorem bVes_e (h : zEq 9 A B) (t : Int32) : bVes A t = bVes B t := by unfold bVes; rw [h 7 (by decide)]
theorem bRank_e (h : zEq 9 A B) (t : Int32) : bRank A t = bRank B t := by unfold bRank; rw [h 8 (by decide)]
theorem bMadeSet_e (h : zEq 9 A B) : bMadeSet A = bMadeSet B := by unfold bMadeSet; simp only [bMade_e h]
theorem bGreatest_e (h : zEq 9 A B) : bGreatest A = bGreatest B := by unfold bGreatest; simp only [bRank_e h]
theorem bGri_e (h : zEq 9 A B) (s : Int32) : bGri A s = bGri B s := by unfold bGri; simp only [bRank_e h]
theorem bNeedsS_e (h : zEq 9 A B) (p s : Int32) : bNeedsS A p s = bNeedsS B p s := by unfold bNeedsS; simp only [bSub_e h, bSubs_e h]
theorem bNeeds_e (h : zEq 9 A B) (t : Int32) : bNeeds A t = bNeeds B t := by unfold bNeeds; simp only [bIng_e h, bIngs_e h, bNeedsS_e h]
theorem bWider_e (h : zEq 9 A B) (s : Int32) : bWider A s = bWider B s := by unfold bWider; simp only [bNeeds_e h]
theorem bAll_e (h : zEq 9 A B) (t : Int32) : bAll A t = bAll B t := by unfold bAll; simp only [bNeeds_e h, bWider_e h]
theorem bHasSub_e (h : zEq 9 A B) (t s : Int32) : bHasSub A t s = bHasSub B t s := by unfold bHasSub; simp only [bSub_e h, bSubs_e h]
theorem bIsVes_e (h : zEq 9 A B) (t : Int32) : bIsVes A t = bIsVes B t := by unfold bIsVes; simp only [bVes_e h]
theorem frRank_e (h : zEq 9 A B) (i : Nat) : frRank A i = frRank B i := by unfold frRank; rw [bMade_e h, bNeeds_e h, bGri_e h]
theorem frStep_e (h : zEq 9 A B) (i : Nat) (s : (Nat → Int32) × Int32 × Bool) : frStep A i s = frStep B i s := by unfold frStep; rw [frRank_e (h.up rfl)]
theorem frRound_e (h : zEq 9 A B) (i : Nat) (s : (Nat → Int32) × Option Bool) : frRound A i s = frRound B i s := by
  have e : frStep A = frStep B := by funext i s; exact frStep_e h i s
  unfold frRound
  rw [e]
theorem bFind_e (h : zEq 9 A B) : bFind A = bFind B := by
  have e : frRound A = frRound B := by funext i s; exact frRound_e h i s
  unfold bFind
  rw [e, h 8 (by decide)]
theorem bFindOk_e (h : zEq 9 A B) : bFindOk A = bFindOk B := by unfold bFindOk; rw [bFind_e h]
theorem bStrike_e (h : zEq 9 A B) (t : Int32) : zEq 9 (bStrike A t) (bStrike B t) := by
  unfold bStrike
  rw [h 1 (by decide), h 2 (by decide)]
  exact (h.up rfl).up rfl
theorem bAddSub_e (h : zEq 9 A B) (t s : Int32) : zEq 9 (bAddSub A t s) (bAddSub B t s) := by
  unfold bAddSub
  rw [h 5 (by decide), h 6 (by decide), bSubs_e h]
  exact (h.up rfl).up rfl
theorem bRem_e (h : zEq 9 A B) (t k : Int32) : zEq 9 (bRem A t k) (bRem B t k) := by
  unfold bRem
  rw [bSubs_e h]
  have h2 : zEq 9 (it (bRemS t k) (bSubs B t - 1 - k).toNatClampNeg A) (it (bRemS t k) (bSubs B t - 1 - k).toNatClampNeg B) := it_rel (R := zEq 9) (fun i s s' hs => by
    unfold bRemS
    rw [hs 6 (by decide), bSub_e hs]
    exact hs.up rfl) h _
  exact h2.up (by rw [h2 5 (by decide)])
theorem bLay_e (h : zEq 9 A B) {R R' : Nat → Nat → Int32} (hr : zEq 3 R R') : zEq 9 (bLay A R) (bLay B R') := by
  unfold bLay
  rw [h 1 (by decide), h 2 (by decide), hr 0 (by decide)]
  refine it_rel (R := zEq 9) (fun i s s' hs => ?_) ((h.up rfl).up rfl) 5
  unfold bLayS
  rw [hs 3 (by decide), hs 4 (by decide), hr 0 (by decide), hr 1 (by decide), hr 2 (by decide)]
  exact (hs.up rfl).up rfl
end ZE
/-- a book with its ranks found anew -/
def tFind (D : Nat → Nat → Int32) : Nat → Nat → Int32 := va_up D 8 (bFind D).1
theorem tFind_e {A B : Nat → Nat → Int32} (h : zEq 9 A B) : zEq 9 (tFind A) (tFind B) := by
  unfold tFind
  rw [bFind_e h]
  exact h.up rfl
section ZV
variable {sh : zSh} {F : Nat → Nat → Int32} {P : Nat → Nat → Option Nat} {β : Nat} {B : Nat → Nat → Int32}
theorem v_X0_findRanks (hB : zBk sh P β) (h : zVw F β 9 B) : zMet yX0_findRanks wsX0_findRanks 4 0 0 [.ref β] sh F P (some (.int (bFindOk B))) sh (zput F β 9 (tFind B)) P := by
  have h2 := c_X0_findRanks (F := F) hB
  have h3 : zEq 9 (zsub F β) B := h
  rw [bFindOk_e h3, bFind_e h3] at h2
  have e : va_up F (β + 8) (bFind B).1 = zput F β 9 (tFind B) := by
    unfold tFind
    rw [zput_up (by decide), zput_view h]
  rw [e] at h2
  exact h2
theorem v_X0_copyFrom {γ : Nat} {G : Nat → Nat → Int32} (hB : zBk sh P β) (hG : zBk sh P γ) (hd : β + 9 ≤ γ ∨ γ + 9 ≤ β) (h : zVw F β 9 B) (hg : zVw F γ 9 G) : zMet yX0_copyFrom wsX0_copyFrom 3 0 0 [.ref β, .ref γ] sh F P none sh (zput F β 9 (bCopy B G)) P := by
  have h2 := c_X0_copyFrom (F := F) hB hG hd
  rw [bCopy_v (S := zsub F β) (G := zsub F γ) (S' := B) (G' := G) h hg] at h2
  exact h2
theorem v_X0_lay {r : Nat} {R : Nat → Nat → Int32} (hB : zBk sh P β) (hR : zRd sh P r) (hd : β + 9 ≤ r ∨ r + 3 ≤ β) (h : zVw F β 9 B) (hr : zVw F r 3 R) : zMet yX0_lay wsX0_lay 2 0 0 [.ref β, .ref r] sh F P none sh (zput F β 9 (bLay B R)) P := by
  have h2 := c_X0_lay (F := F) hB hR hd
  rw [zput_ext (bLay_e (A := zsub F β) (B := B) h (R := zsub F r) (R' := R) hr)] at h2
  exact h2
theorem v_X0_strike {t : Int32} (hB : zBk sh P β) (h : zVw F β 9 B) : zMet yX0_strike wsX0_strike 2 0 0 [.ref β, .int t] sh F P none sh (zput F β 9 (bStrike B t)) P := by
  have h2 := c_X0_strike (F := F) (t := t) hB
  rw [zput_ext (bStrike_e (A := zsub F β) (B := B) h t)] at h2
  exact h2
theorem v_X0_addSubstitute {t u : Int32} (hB : zBk sh P β) (h : zVw F β 9 B) : zMet yX0_addSubstitute wsX0_addSubstitute 3 0 0 [.ref β, .int t, .int u] sh F P none sh (zput F β 9 (bAddSub B t u)) P := by
  have h2 := c_X0_addSubstitute (F := F) (t := t) (u := u) hB
  rw [zput_ext (bAddSub_e (A := zsub F β) (B := B) h t u)] at h2
  exact h2
theorem v_X0_removeSubstitute {t k : Int32} (hB : zBk sh P β) (h : zVw F β 9 B) (hk0 : ¬ k < 0) (hk1 : ¬ bSubs B t ≤ k) : zMet yX0_removeSubstitute wsX0_removeSubstitute 3 0 0 [.ref β, .int t, .int k] sh F P none sh (zput F β 9 (bRem B t k)) P := by
  have h2 := c_X0_removeSubstitute (F := F) (t := t) (k := k) hB hk0 (by rw [bSubs_e (A := zsub F β) (B := B) h]; exact hk1)
  rw [zput_ext (bRem_e (A := zsub F β) (B := B) h t k)] at h2
  exact h2
theorem v_X0_hasSubstitute {t u : Int32} (hB : zBk sh P β) (h : zVw F β 9 B) : zMet yX0_hasSubstitute wsX0_hasSubstitute 3 0 0 [.ref β, .int t, .int u] sh F P (some (.int (if bHasSub B t u = true then 1 else 0))) sh F P := by
  rw [← bHasSub_e (A := zsub F β) h]
  exact c_X0_hasSubstitute hB
end ZV
def tLen (F : Nat → Nat → Int32) (χ : Nat) : Nat → Nat → Int32 := rRead (F (χ + 40)) (F χ 8) (zsub F (χ + 37))
def tDraft (F : Nat → Nat → Int32) (χ : Nat) : Nat → Nat → Int32 := bLay (bCopy (zsub F (χ + 10)) (zsub F (χ + 1))) (tLen F χ)
def tAdd (F : Nat → Nat → Int32) (χ : Nat) (t u : Int32) : Nat → Nat → Int32 := bAddSub (bCopy (zsub F (χ + 10)) (zsub F (χ + 1))) t u

abbrev mX6_recipe : ZM := (cX6_recipe, RX6, wsX6_recipe, 6, 0, 0, (some .int), 1, yX6_recipe.name)
set_option maxHeartbeats 1000000 in
set_option maxRecDepth 100000 in
theorem c_X6_recipe_f {sh : zSh} {F : Nat → Nat → Int32} {P : Nat → Nat → Option Nat} {χ : Nat} {R : Nat → Nat → Int32} (hY : zSys sh P χ) (eR : zBox (tLen F χ = R)) (h : R 0 5 ≠ 0) : zMet yX6_recipe wsX6_recipe (6) (0) (0) [.ref χ] sh F P (some (.int (-2))) sh (zu (zu (zput F (χ + 37) 3 R) χ 9 (R 0 5)) χ 10 (R 0 6)) P := by
  refine zMet.of (by decide) rfl (Nat.le_of_ble_eq_true rfl) (by simp [Value.category]) ?_
  intro X ρ
  show AW mX6_recipe X (zMQ mX6_recipe X (some (.int (-2))) sh (zu (zu (zput F (χ + 37) 3 R) χ 9 (R 0 5)) χ 10 (R 0 6)) P) 0 [some (.ref χ)] [] ρ sh F P 0 0
  have hinX6 : ∀ w ∈ u_ws RX6 TX6 11, w ∈ wsX6_recipe := by decide +kernel
  have hinX2 : ∀ w ∈ u_ws RX2 TX2 8, w ∈ wsX6_recipe := by decide +kernel
  obtain ⟨⟨ts, tp0, tp1, tp2, tp3, tp4, tp5, tp6, tp7, ti, tx⟩, hB, hD, hS, hW, hH, hR, hPl, hIm⟩ := id hY
  have hb0 := hB.1
  have hd0 := hD.1
  obtain ⟨hs0, ⟨sp0, sp1, sp2, sp3, sp4, sp5⟩, sh1, sh2, sh3, sh4, sh5, sh6⟩ := id hS
  have hw0 := hW.1
  have hh0 := hH.1
  have hr0 := hR.1
  have wp0 := hW.2.1
  have hwb := hW.st
  refine aw_aload_0 dX6_recipe_0 ?_
  refine aw_getR fX6_6 (fun _ _ => rfl) (by assumption) hinX6 (by decide +kernel : Cond.fieldLink RX6 49 RX6 (TX6 6).2.1 (TX6 6).2.2.1 ∈ wsX6_recipe) (by assumption) dX6_recipe_1 ?_
  refine aw_aload_0 dX6_recipe_4 ?_
  refine aw_getR fX6_7 (fun _ _ => rfl) (by assumption) hinX6 (by decide +kernel : Cond.fieldLink RX6 53 RX6 (TX6 7).2.1 (TX6 7).2.2.1 ∈ wsX6_recipe) (by assumption) dX6_recipe_5 ?_
  refine aw_aload_0 dX6_recipe_8 ?_
  refine aw_getI fX6_8 hinX6 (by decide +kernel : Cond.fieldLink RX6 57 RX6 (TX6 8).2.1 (TX6 8).2.2.1 ∈ wsX6_recipe) (by assumption) dX6_recipe_9 ?_
  refine aw_runv (zRun_V (c_X2_read hR zVw.self tx (by omega)) gX6_recipe_X2_read q_X2_read rfl (by decide) rfl (by assumption) rfl rfl (Nat.le_of_ble_eq_true rfl) dX6_recipe_12 ⟨Nat.le_refl _, Nat.le_refl _⟩) ?_
  rw [show rRead (F (χ + 40)) (F χ 8) (zsub F (χ + 37)) = R from eR.out]
  refine aw_aload_0 dX6_recipe_15 ?_
  refine aw_getR fX6_6 (fun _ _ => rfl) (by assumption) hinX6 (by decide +kernel : Cond.fieldLink RX6 49 RX6 (TX6 6).2.1 (TX6 6).2.2.1 ∈ wsX6_recipe) (by assumption) dX6_recipe_16 ?_
  refine aw_getIN (q := 8) fX2_5 hinX2 rfl (by assumption) dX6_recipe_19 ?_
  rw [zput_a0 (by decide)]
  refine aw_if_eq (tgt := 50) dX6_recipe_22 (by decide) (fun c22 => ?_) (fun c22 => ?_)
  · exact absurd (by simpa using c22) h
  · refine aw_aload_0 dX6_recipe_25 ?_
    refine aw_aload_0 dX6_recipe_26 ?_
    refine aw_getR fX6_6 (fun _ _ => rfl) (by assumption) hinX6 (by decide +kernel : Cond.fieldLink RX6 49 RX6 (TX6 6).2.1 (TX6 6).2.2.1 ∈ wsX6_recipe) (by assumption) dX6_recipe_27 ?_
    refine aw_getIN (q := 8) fX2_5 hinX2 rfl (by assumption) dX6_recipe_30 ?_
    rw [zput_a0 (by decide)]
    refine aw_putI fX6_9 rfl hinX6 (by decide +kernel : Cond.fieldLink RX6 61 RX6 (TX6 9).2.1 (TX6 9).2.2.1 ∈ wsX6_recipe) (by assumption) dX6_recipe_33 ?_
    refine aw_aload_0 dX6_recipe_36 ?_
    refine aw_aload_0 dX6_recipe_37 ?_
    refine aw_getR fX6_6 (fun _ _ => rfl) (by assumption) hinX6 (by decide +kernel : Cond.fieldLink RX6 49 RX6 (TX6 6).2.1 (TX6 6).2.2.1 ∈ wsX6_recipe) (by assumption) dX6_recipe_38 ?_
    refine aw_getIN (q := 9) fX2_6 hinX2 rfl (by assumption) dX6_recipe_41 ?_
    rw [show zu (zput F (χ + 37) 3 R) χ 9 (R 0 5) (χ + 37) 6 = R 0 6 by simp (disch := omega) only [zu_up, zup_ne, zput_a0]]
    refine aw_putI fX6_10 rfl hinX6 (by decide +kernel : Cond.fieldLink RX6 64 RX6 (TX6 10).2.1 (TX6 10).2.2.1 ∈ wsX6_recipe) (by assumption) dX6_recipe_44 ?_
    refine aw_bipush (v := (-2)) dX6_recipe_47 (by decide) ?_
    exact aw_ireturn rfl dX6_recipe_49 ⟨Nat.zero_le _, Nat.zero_le _⟩ (by first | rfl | simp [c22]) rfl rfl rfl

set_option maxHeartbeats 1000000 in
set_option maxRecDepth 100000 in
theorem c_X6_recipe_g {sh : zSh} {F : Nat → Nat → Int32} {P : Nat → Nat → Option Nat} {χ : Nat} {R D V : Nat → Nat → Int32} {w : Int32} (hY : zSys sh P χ) (eR : zBox (tLen F χ = R)) (eD : zBox (bLay (bCopy (zsub F (χ + 10)) (zsub F (χ + 1))) R = D)) (eV : zBox (tFind D = V)) (ew : zBox (bFindOk D = w)) (h0 : R 0 5 = 0) (h : w = 0) : zMet yX6_recipe wsX6_recipe (6) (0) (0) [.ref χ] sh F P (some (.int (-2))) sh (zput (zput F (χ + 37) 3 R) (χ + 10) 9 V) P := by
  refine zMet.of (by decide) rfl (Nat.le_of_ble_eq_true rfl) (by simp [Value.category]) ?_
  intro X ρ
  show AW mX6_recipe X (zMQ mX6_recipe X (some (.int (-2))) sh (zput (zput F (χ + 37) 3 R) (χ + 10) 9 V) P) 0 [some (.ref χ)] [] ρ sh F P 0 0
  have hinX6 : ∀ w ∈ u_ws RX6 TX6 11, w ∈ wsX6_recipe := by decide +kernel
  have hinX2 : ∀ w ∈ u_ws RX2 TX2 8, w ∈ wsX6_recipe := by decide +kernel
  obtain ⟨⟨ts, tp0, tp1, tp2, tp3, tp4, tp5, tp6, tp7, ti, tx⟩, hB, hD, hS, hW, hH, hR, hPl, hIm⟩ := id hY
  have hb0 := hB.1
  have hd0 := hD.1
  obtain ⟨hs0, ⟨sp0, sp1, sp2, sp3, sp4, sp5⟩, sh1, sh2, sh3, sh4, sh5, sh6⟩ := id hS
  have hw0 := hW.1
  have hh0 := hH.1
  have hr0 := hR.1
  have wp0 := hW.2.1
  have hwb := hW.st
  refine aw_aload_0 dX6_recipe_0 ?_
  refine aw_getR fX6_6 (fun _ _ => rfl) (by assumption) hinX6 (by decide +kernel : Cond.fieldLink RX6 49 RX6 (TX6 6).2.1 (TX6 6).2.2.1 ∈ wsX6_recipe) (by assumption) dX6_recipe_1 ?_
  refine aw_aload_0 dX6_recipe_4 ?_
  refine aw_getR fX6_7 (fun _ _ => rfl) (by assumption) hinX6 (by decide +kernel : Cond.fieldLink RX6 53 RX6 (TX6 7).2.1 (TX6 7).2.2.1 ∈ wsX6_recipe) (by assumption) dX6_recipe_5 ?_
  refine aw_aload_0 dX6_recipe_8 ?_
  refine aw_getI fX6_8 hinX6 (by decide +kernel : Cond.fieldLink RX6 57 RX6 (TX6 8).2.1 (TX6 8).2.2.1 ∈ wsX6_recipe) (by assumption) dX6_recipe_9 ?_
  refine aw_runv (zRun_V (c_X2_read hR zVw.self tx (by omega)) gX6_recipe_X2_read q_X2_read rfl (by decide) rfl (by assumption) rfl rfl (Nat.le_of_ble_eq_true rfl) dX6_recipe_12 ⟨Nat.le_refl _, Nat.le_refl _⟩) ?_
  rw [show rRead (F (χ + 40)) (F χ 8) (zsub F (χ + 37)) = R from eR.out]
  refine aw_aload_0 dX6_recipe_15 ?_
  refine aw_getR fX6_6 (fun _ _ => rfl) (by assumption) hinX6 (by decide +kernel : Cond.fieldLink RX6 49 RX6 (TX6 6).2.1 (TX6 6).2.2.1 ∈ wsX6_recipe) (by assumption) dX6_recipe_16 ?_
  refine aw_getIN (q := 8) fX2_5 hinX2 rfl (by assumption) dX6_recipe_19 ?_
  rw [zput_a0 (by decide)]
  refine aw_if_eq (tgt := 50) dX6_recipe_22 (by decide) (fun c22 => ?_) (fun c22 => absurd h0 c22)
  refine aw_aload_0 dX6_recipe_50 ?_
  refine aw_getR fX6_1 (fun _ _ => rfl) (by assumption) hinX6 (by decide +kernel : Cond.fieldLink RX6 16 RX6 (TX6 1).2.1 (TX6 1).2.2.1 ∈ wsX6_recipe) (by assumption) dX6_recipe_51 ?_
  refine aw_aload_0 dX6_recipe_54 ?_
  refine aw_getR fX6_0 (fun _ _ => rfl) (by assumption) hinX6 (by decide +kernel : Cond.fieldLink RX6 10 RX6 (TX6 0).2.1 (TX6 0).2.2.1 ∈ wsX6_recipe) (by assumption) dX6_recipe_55 ?_
  refine aw_runv (zRun_V (v_X0_copyFrom hD hB (by omega) (zVw.self.out (by omega)) (zVw.self.out (by omega))) gX6_recipe_X0_copyFrom q_X0_copyFrom rfl (by decide) rfl (by assumption) rfl rfl (Nat.le_of_ble_eq_true rfl) dX6_recipe_58 ⟨Nat.le_refl _, Nat.le_refl _⟩) ?_
  refine aw_aload_0 dX6_recipe_61 ?_
  refine aw_getR fX6_1 (fun _ _ => rfl) (by assumption) hinX6 (by decide +kernel : Cond.fieldLink RX6 16 RX6 (TX6 1).2.1 (TX6 1).2.2.1 ∈ wsX6_recipe) (by assumption) dX6_recipe_62 ?_
  refine aw_aload_0 dX6_recipe_65 ?_
  refine aw_getR fX6_6 (fun _ _ => rfl) (by assumption) hinX6 (by decide +kernel : Cond.fieldLink RX6 49 RX6 (TX6 6).2.1 (TX6 6).2.2.1 ∈ wsX6_recipe) (by assumption) dX6_recipe_66 ?_
  refine aw_runv (zRun_V (v_X0_lay hD hR (by omega) zVw.put (zVw.put.out (by omega))) gX6_recipe_X0_lay q_X0_lay rfl (by decide) rfl (by assumption) rfl rfl (Nat.le_of_ble_eq_true rfl) dX6_recipe_69 ⟨Nat.le_refl _, Nat.le_refl _⟩) ?_
  rw [zput_zput, eD.out]
  refine aw_aload_0 dX6_recipe_72 ?_
  refine aw_getR fX6_1 (fun _ _ => rfl) (by assumption) hinX6 (by decide +kernel : Cond.fieldLink RX6 16 RX6 (TX6 1).2.1 (TX6 1).2.2.1 ∈ wsX6_recipe) (by assumption) dX6_recipe_73 ?_
  refine aw_run (zRun_V (v_X0_findRanks hD zVw.put) gX6_recipe_X0_findRanks q_X0_findRanks rfl (by decide) rfl (by assumption) rfl rfl (Nat.le_of_ble_eq_true rfl) dX6_recipe_76 ⟨Nat.le_refl _, Nat.le_refl _⟩) ?_
  rw [zput_zput, eV.out, ew.out]
  refine aw_if_ne (tgt := 85) dX6_recipe_79 (by decide) (fun c79 => ?_) (fun c79 => ?_)
  · exact absurd h c79
  · refine aw_bipush (v := (-2)) dX6_recipe_82 (by decide) ?_
    exact aw_ireturn rfl dX6_recipe_84 ⟨Nat.zero_le _, Nat.zero_le _⟩ (by first | rfl | simp [c22, c79]) rfl rfl rfl

abbrev m1X6_recipe : ZM := (cX6_recipe, RX6, wsX6_recipe, 6, 17, 497, (some .int), 1, yX6_recipe.name)

set_option maxHeartbeats 1000000 in
set_option maxRecDepth 100000 in
theorem c_X6_recipe_o {sh : zSh} {F : Nat → Nat → Int32} {P : Nat → Nat → Option Nat} {χ : Nat} {R D V : Nat → Nat → Int32} {w : Int32} {o s : Nat} (hY : zSys sh P χ) (ho : o < 8) (hs : s ≤ 8) (h1 : F (χ + 34) 1 = nI o) (h2 : F (χ + 34) 2 = nI s) (eR : zBox (tLen F χ = R)) (eD : zBox (bLay (bCopy (zsub F (χ + 10)) (zsub F (χ + 1))) R = D)) (eV : zBox (tFind D = V)) (ew : zBox (bFindOk D = w)) (h0 : R 0 5 = 0) (h : ¬ w = 0) : zMet yX6_recipe wsX6_recipe (6) (17) (497) [.ref χ] sh F P (some (.int (bRank (bCopy (zsub F (χ + 1)) V) (R 0 2)))) (tS sh P χ ((o + s) % 8)) (zput (tF (zput (zput F (χ + 37) 3 R) (χ + 10) 9 V) P χ o s) (χ + 1) 9 (bCopy (zsub F (χ + 1)) V)) (tP P χ ((o + s) % 8)) := by
  refine zMet.of (by decide) rfl (Nat.le_of_ble_eq_true rfl) (by simp [Value.category]) ?_
  intro X ρ
  show AW m1X6_recipe X (zMQ m1X6_recipe X (some (.int (bRank (bCopy (zsub F (χ + 1)) V) (R 0 2)))) (tS sh P χ ((o + s) % 8)) (zput (tF (zput (zput F (χ + 37) 3 R) (χ + 10) 9 V) P χ o s) (χ + 1) 9 (bCopy (zsub F (χ + 1)) V)) (tP P χ ((o + s) % 8))) 0 [some (.ref χ)] [] ρ sh F P 0 0
  have hinX6 : ∀ w ∈ u_ws RX6 TX6 11, w ∈ wsX6_recipe := by decide +kernel
  have hinX2 : ∀ w ∈ u_ws RX2 TX2 8, w ∈ wsX6_recipe := by decide +kernel
  obtain ⟨⟨ts, tp0, tp1, tp2, tp3, tp4, tp5, tp6, tp7, ti, tx⟩, hB, hD, hS, hW, hH, hR, hPl, hIm⟩ := id hY
  have hb0 := hB.1
  have hd0 := hD.1
  obtain ⟨hs0, ⟨sp0, sp1, sp2, sp3, sp4, sp5⟩, sh1, sh2, sh3, sh4, sh5, sh6⟩ := id hS
  have hw0 := hW.1
  have hh0 := hH.1
  have hr0 := hR.1
  have wp0 := hW.2.1
  have hwb := hW.st
  refine aw_aload_0 dX6_recipe_0 ?_
  refine aw_getR fX6_6 (fun _ _ => rfl) (by assumption) hinX6 (by decide +kernel : Cond.fieldLink RX6 49 RX6 (TX6 6).2.1 (TX6 6).2.2.1 ∈ wsX6_recipe) (by assumption) dX6_recipe_1 ?_
  refine aw_aload_0 dX6_recipe_4 ?_
  refine aw_getR fX6_7 (fun _ _ => rfl) (by assumption) hinX6 (by decide +kernel : Cond.fieldLink RX6 53 RX6 (TX6 7).2.1 (TX6 7).2.2.1 ∈ wsX6_recipe) (by assumption) dX6_recipe_5 ?_
  refine aw_aload_0 dX6_recipe_8 ?_
  refine aw_getI fX6_8 hinX6 (by decide +kernel : Cond.fieldLink RX6 57 RX6 (TX6 8).2.1 (TX6 8).2.2.1 ∈ wsX6_recipe) (by assumption) dX6_recipe_9 ?_
  refine aw_runv (zRun_V (c_X2_read hR zVw.self tx (by omega)) gX6_recipe_X2_read q_X2_read rfl (by decide) rfl (by assumption) rfl rfl (Nat.le_of_ble_eq_true rfl) dX6_recipe_12 ⟨by decide, by decide⟩) ?_
  rw [show rRead (F (χ + 40)) (F χ 8) (zsub F (χ + 37)) = R from eR.out]
  refine aw_aload_0 dX6_recipe_15 ?_
  refine aw_getR fX6_6 (fun _ _ => rfl) (by assumption) hinX6 (by decide +kernel : Cond.fieldLink RX6 49 RX6 (TX6 6).2.1 (TX6 6).2.2.1 ∈ wsX6_recipe) (by assumption) dX6_recipe_16 ?_
  refine aw_getIN (q := 8) fX2_5 hinX2 rfl (by assumption) dX6_recipe_19 ?_
  rw [zput_a0 (by decide)]
  refine aw_if_eq (tgt := 50) dX6_recipe_22 (by decide) (fun c22 => ?_) (fun c22 => absurd h0 c22)
  refine aw_aload_0 dX6_recipe_50 ?_
  refine aw_getR fX6_1 (fun _ _ => rfl) (by assumption) hinX6 (by decide +kernel : Cond.fieldLink RX6 16 RX6 (TX6 1).2.1 (TX6 1).2.2.1 ∈ wsX6_recipe) (by assumption) dX6_recipe_51 ?_
  refine aw_aload_0 dX6_recipe_54 ?_
  refine aw_getR fX6_0 (fun _ _ => rfl) (by assumption) hinX6 (by decide +kernel : Cond.fieldLink RX6 10 RX6 (TX6 0).2.1 (TX6 0).2.2.1 ∈ wsX6_recipe) (by assumption) dX6_recipe_55 ?_
  refine aw_runv (zRun_V (v_X0_copyFrom hD hB (by omega) (zVw.self.out (by omega)) (zVw.self.out (by omega))) gX6_recipe_X0_copyFrom q_X0_copyFrom rfl (by decide) rfl (by assumption) rfl rfl (Nat.le_of_ble_eq_true rfl) dX6_recipe_58 ⟨by decide, by decide⟩) ?_
  refine aw_aload_0 dX6_recipe_61 ?_
  refine aw_getR fX6_1 (fun _ _ => rfl) (by assumption) hinX6 (by decide +kernel : Cond.fieldLink RX6 16 RX6 (TX6 1).2.1 (TX6 1).2.2.1 ∈ wsX6_recipe) (by assumption) dX6_recipe_62 ?_
  refine aw_aload_0 dX6_recipe_65 ?_
  refine aw_getR fX6_6 (fun _ _ => rfl) (by assumption) hinX6 (by decide +kernel : Cond.fieldLink RX6 49 RX6 (TX6 6).2.1 (TX6 6).2.2.1 ∈ wsX6_recipe) (by assumption) dX6_recipe_66 ?_
  refine aw_runv (zRun_V (v_X0_lay hD hR (by omega) zVw.put (zVw.put.out (by omega))) gX6_recipe_X0_lay q_X0_lay rfl (by decide) rfl (by assumption) rfl rfl (Nat.le_of_ble_eq_true rfl) dX6_recipe_69 ⟨by decide, by decide⟩) ?_
  rw [zput_zput, eD.out]
  refine aw_aload_0 dX6_recipe_72 ?_
  refine aw_getR fX6_1 (fun _ _ => rfl) (by assumption) hinX6 (by decide +kernel : Cond.fieldLink RX6 16 RX6 (TX6 1).2.1 (TX6 1).2.2.1 ∈ wsX6_recipe) (by assumption) dX6_recipe_73 ?_
  refine aw_run (zRun_V (v_X0_findRanks hD zVw.put) gX6_recipe_X0_findRanks q_X0_findRanks rfl (by decide) rfl (by assumption) rfl rfl (Nat.le_of_ble_eq_true rfl) dX6_recipe_76 ⟨by decide, by decide⟩) ?_
  rw [zput_zput, eV.out, ew.out]
  refine aw_if_ne (tgt := 85) dX6_recipe_79 (by decide) (fun c79 => ?_) (fun c79 => ?_)
  · refine aw_aload_0 dX6_recipe_85 ?_
    refine aw_getR fX6_4 (fun _ _ => rfl) (by assumption) hinX6 (by decide +kernel : Cond.fieldLink RX6 36 RX6 (TX6 4).2.1 (TX6 4).2.2.1 ∈ wsX6_recipe) (by assumption) dX6_recipe_86 ?_
    refine aw_aload_0 dX6_recipe_89 ?_
    refine aw_getR fX6_0 (fun _ _ => rfl) (by assumption) hinX6 (by decide +kernel : Cond.fieldLink RX6 10 RX6 (TX6 0).2.1 (TX6 0).2.2.1 ∈ wsX6_recipe) (by assumption) dX6_recipe_90 ?_
    refine aw_aload_0 dX6_recipe_93 ?_
    refine aw_getR fX6_2 (fun _ _ => rfl) (by assumption) hinX6 (by decide +kernel : Cond.fieldLink RX6 22 RX6 (TX6 2).2.1 (TX6 2).2.2.1 ∈ wsX6_recipe) (by assumption) dX6_recipe_94 ?_
    refine aw_runAv (zRun_V (c_rem hY ho hs (by rw [zput_ne (by omega), zput_ne (by omega)]; exact h1) (by rw [zput_ne (by omega), zput_ne (by omega)]; exact h2)) gX6_recipe_X1_remember q_X1_remember rfl (by decide) rfl (by assumption) rfl rfl (Nat.le_of_ble_eq_true rfl) dX6_recipe_97 ⟨by decide, by decide⟩) (by refine ⟨fun j hj => ?_, fun j hj => ?_⟩ <;> (left; simp at hj <;> (first | (rcases hj with hj | hj | hj) | (rcases hj with hj | hj) | skip) <;> (try rw [hj]) <;> (first | (rw [ts]; simp) | (rw [hb0]; simp) | (rw [hs0]; simp) | (rw [hh0]; simp) | (rw [hw0]; simp)))) (fun ρ => ?_)
    have hYT := hY.trm (a := o + s)
    generalize tS sh P χ ((o + s) % 8) = sT at hYT  ⊢
    generalize tP P χ ((o + s) % 8) = pT at hYT  ⊢
    obtain ⟨⟨ts, tp0, tp1, tp2, tp3, tp4, tp5, tp6, tp7, ti, tx⟩, hB, hD, hS, hW, hH, hR, hPl, hIm⟩ := id hYT
    have hb0 := hB.1
    have hd0 := hD.1
    obtain ⟨hs0, ⟨sp0, sp1, sp2, sp3, sp4, sp5⟩, sh1, sh2, sh3, sh4, sh5, sh6⟩ := id hS
    have hw0 := hW.1
    have hh0 := hH.1
    have hr0 := hR.1
    have wp0 := hW.2.1
    have hwb := hW.st
    refine aw_aload_0 dX6_recipe_100 ?_
    refine aw_getR fX6_0 (fun _ _ => rfl) (by assumption) hinX6 (by decide +kernel : Cond.fieldLink RX6 10 RX6 (TX6 0).2.1 (TX6 0).2.2.1 ∈ wsX6_recipe) (by assumption) dX6_recipe_101 ?_
    refine aw_aload_0 dX6_recipe_104 ?_
    refine aw_getR fX6_1 (fun _ _ => rfl) (by assumption) hinX6 (by decide +kernel : Cond.fieldLink RX6 16 RX6 (TX6 1).2.1 (TX6 1).2.2.1 ∈ wsX6_recipe) (by assumption) dX6_recipe_105 ?_
    refine aw_runv (zRun_V (v_X0_copyFrom (B := zsub F (χ + 1)) (G := V) hB hD (by omega) (fun j hj => (tF_ne (by omega) (by omega)).trans ((zput_ne (by omega)).trans (zput_ne (by omega)))) (fun j hj => (tF_ne (by omega) (by omega)).trans (zput_at (by omega)))) gX6_recipe_X0_copyFrom q_X0_copyFrom rfl (by decide) rfl (by assumption) rfl rfl (Nat.le_of_ble_eq_true rfl) dX6_recipe_108 ⟨by decide, by decide⟩) ?_
    refine aw_aload_0 dX6_recipe_111 ?_
    refine aw_getR fX6_0 (fun _ _ => rfl) (by assumption) hinX6 (by decide +kernel : Cond.fieldLink RX6 10 RX6 (TX6 0).2.1 (TX6 0).2.2.1 ∈ wsX6_recipe) (by assumption) dX6_recipe_112 ?_
    refine aw_aload_0 dX6_recipe_115 ?_
    refine aw_getR fX6_6 (fun _ _ => rfl) (by assumption) hinX6 (by decide +kernel : Cond.fieldLink RX6 49 RX6 (TX6 6).2.1 (TX6 6).2.2.1 ∈ wsX6_recipe) (by assumption) dX6_recipe_116 ?_
    refine aw_getIN (q := 10) fX2_2 hinX2 rfl (by assumption) dX6_recipe_119 ?_
    rw [show zput (tF (zput (zput F (χ + 37) 3 R) (χ + 10) 9 V) P χ o s) (χ + 1) 9 (bCopy (zsub F (χ + 1)) V) (χ + 37) 2 = R 0 2 from by rw [zput_ne (by omega), tF_ne (by omega) (by omega), zput_ne (by omega), zput_a0 (by decide)]]
    refine aw_run (zRun_V (v_X0_rankOf hB zVw.put) gX6_recipe_X0_rankOf q_X0_rankOf rfl (by decide) rfl (by assumption) rfl rfl (Nat.le_of_ble_eq_true rfl) dX6_recipe_122 ⟨by decide, by decide⟩) ?_
    exact aw_ireturn rfl dX6_recipe_125 (by decide) (by first | rfl | simp [c22, c79]) rfl rfl rfl
  · exact absurd c79 h

abbrev mX6_forget : ZM := (cX6_forget, RX6, wsX6_forget, 6, 0, 0, (some .int), 3, yX6_forget.name)
set_option maxHeartbeats 1000000 in
set_option maxRecDepth 100000 in
theorem c_X6_forget_b {sh : zSh} {F : Nat → Nat → Int32} {P : Nat → Nat → Option Nat} {χ : Nat} {t : Int32} (hY : zSys sh P χ) (h : cIsThing t = 0) : zMet yX6_forget wsX6_forget (6) (0) (0) [.ref χ, .int t] sh F P (some (.int (-1))) sh F P := by
  refine zMet.of (by decide) rfl (Nat.le_of_ble_eq_true rfl) (by simp [Value.category]) ?_
  intro X ρ
  show AW mX6_forget X (zMQ mX6_forget X (some (.int (-1))) sh F P) 0 [some (.ref χ), some (.int t), none] [] ρ sh F P 0 0
  have hinX6 : ∀ w ∈ u_ws RX6 TX6 11, w ∈ wsX6_forget := by decide +kernel
  obtain ⟨⟨ts, tp0, tp1, tp2, tp3, tp4, tp5, tp6, tp7, ti, tx⟩, hB, hD, hS, hW, hH, hR, hPl, hIm⟩ := id hY
  have hb0 := hB.1
  have hd0 := hD.1
  obtain ⟨hs0, ⟨sp0, sp1, sp2, sp3, sp4, sp5⟩, sh1, sh2, sh3, sh4, sh5, sh6⟩ := id hS
  have hw0 := hW.1
  have hh0 := hH.1
  have hr0 := hR.1
  have wp0 := hW.2.1
  have hwb := hW.st
  refine aw_iload_1 dX6_forget_0 ?_
  refine aw_run (zRun_S (c_X6_isThing ) (Or.inl gX6_forget_X6_isThing) q_X6_isThing (by decide) rfl rfl (Nat.le_of_ble_eq_true rfl) dX6_forget_1 ⟨Nat.le_refl _, Nat.le_refl _⟩) ?_
  refine aw_if_ne (tgt := 9) dX6_forget_4 (by decide) (fun c4 => ?_) (fun c4 => ?_)
  · exact absurd h c4
  · refine aw_iconst (v := (-1)) dX6_forget_7 (by decide) ?_
    exact aw_ireturn rfl dX6_forget_8 ⟨Nat.zero_le _, Nat.zero_le _⟩ (by first | rfl | simp [c4]) rfl rfl rfl

set_option maxHeartbeats 1000000 in
set_option maxRecDepth 100000 in
theorem c_X6_forget_n {sh : zSh} {F : Nat → Nat → Int32} {P : Nat → Nat → Option Nat} {χ : Nat} {t : Int32} (hY : zSys sh P χ) (ht : ¬ cIsThing t = 0) (h : bMade (zsub F (χ + 1)) t = 0) : zMet yX6_forget wsX6_forget (6) (0) (0) [.ref χ, .int t] sh F P (some (.int (-2))) sh F P := by
  refine zMet.of (by decide) rfl (Nat.le_of_ble_eq_true rfl) (by simp [Value.category]) ?_
  intro X ρ
  show AW mX6_forget X (zMQ mX6_forget X (some (.int (-2))) sh F P) 0 [some (.ref χ), some (.int t), none] [] ρ sh F P 0 0
  have hinX6 : ∀ w ∈ u_ws RX6 TX6 11, w ∈ wsX6_forget := by decide +kernel
  obtain ⟨⟨ts, tp0, tp1, tp2, tp3, tp4, tp5, tp6, tp7, ti, tx⟩, hB, hD, hS, hW, hH, hR, hPl, hIm⟩ := id hY
  have hb0 := hB.1
  have hd0 := hD.1
  obtain ⟨hs0, ⟨sp0, sp1, sp2, sp3, sp4, sp5⟩, sh1, sh2, sh3, sh4, sh5, sh6⟩ := id hS
  have hw0 := hW.1
  have hh0 := hH.1
  have hr0 := hR.1
  have wp0 := hW.2.1
  have hwb := hW.st
  refine aw_iload_1 dX6_forget_0 ?_
  refine aw_run (zRun_S (c_X6_isThing ) (Or.inl gX6_forget_X6_isThing) q_X6_isThing (by decide) rfl rfl (Nat.le_of_ble_eq_true rfl) dX6_forget_1 ⟨Nat.le_refl _, Nat.le_refl _⟩) ?_
  refine aw_if_ne (tgt := 9) dX6_forget_4 (by decide) (fun c4 => ?_) (fun c4 => absurd c4 ht)
  refine aw_aload_0 dX6_forget_9 ?_
  refine aw_getR fX6_0 (fun _ _ => rfl) (by assumption) hinX6 (by decide +kernel : Cond.fieldLink RX6 10 RX6 (TX6 0).2.1 (TX6 0).2.2.1 ∈ wsX6_forget) (by assumption) dX6_forget_10 ?_
  refine aw_iload_1 dX6_forget_13 ?_
  refine aw_run (zRun_V (c_X0_isMade (by assumption)) gX6_forget_X0_isMade q_X0_isMade rfl (by decide) rfl (by assumption) rfl rfl (Nat.le_of_ble_eq_true rfl) dX6_forget_14 ⟨Nat.le_refl _, Nat.le_refl _⟩) ?_
  refine aw_if_ne (tgt := 23) dX6_forget_17 (by decide) (fun c17 => ?_) (fun c17 => ?_)
  · exact absurd h c17
  · refine aw_bipush (v := (-2)) dX6_forget_20 (by decide) ?_
    exact aw_ireturn rfl dX6_forget_22 ⟨Nat.zero_le _, Nat.zero_le _⟩ (by first | rfl | simp [c4, c17]) rfl rfl rfl

abbrev m1X6_forget : ZM := (cX6_forget, RX6, wsX6_forget, 6, 17, 497, (some .int), 3, yX6_forget.name)

set_option maxHeartbeats 1000000 in
set_option maxRecDepth 100000 in
theorem c_X6_forget_o {sh : zSh} {F : Nat → Nat → Int32} {P : Nat → Nat → Option Nat} {χ : Nat} {o s : Nat} {t : Int32} (hY : zSys sh P χ) (ho : o < 8) (hs : s ≤ 8) (h1 : F (χ + 34) 1 = nI o) (h2 : F (χ + 34) 2 = nI s) (ht : ¬ cIsThing t = 0) (h : ¬ bMade (zsub F (χ + 1)) t = 0) : zMet yX6_forget wsX6_forget (6) (17) (497) [.ref χ, .int t] sh F P (some (.int (bYield (zsub F (χ + 1)) t))) (tS sh P χ ((o + s) % 8)) (zput (tF F P χ o s) (χ + 1) 9 (tFind (bStrike (zsub F (χ + 1)) t))) (tP P χ ((o + s) % 8)) := by
  refine zMet.of (by decide) rfl (Nat.le_of_ble_eq_true rfl) (by simp [Value.category]) ?_
  intro X ρ
  show AW m1X6_forget X (zMQ m1X6_forget X (some (.int (bYield (zsub F (χ + 1)) t))) (tS sh P χ ((o + s) % 8)) (zput (tF F P χ o s) (χ + 1) 9 (tFind (bStrike (zsub F (χ + 1)) t))) (tP P χ ((o + s) % 8))) 0 [some (.ref χ), some (.int t), none] [] ρ sh F P 0 0
  have hinX6 : ∀ w ∈ u_ws RX6 TX6 11, w ∈ wsX6_forget := by decide +kernel
  obtain ⟨⟨ts, tp0, tp1, tp2, tp3, tp4, tp5, tp6, tp7, ti, tx⟩, hB, hD, hS, hW, hH, hR, hPl, hIm⟩ := id hY
  have hb0 := hB.1
  have hd0 := hD.1
  obtain ⟨hs0, ⟨sp0, sp1, sp2, sp3, sp4, sp5⟩, sh1, sh2, sh3, sh4, sh5, sh6⟩ := id hS
  have hw0 := hW.1
  have hh0 := hH.1
  have hr0 := hR.1
  have wp0 := hW.2.1
  have hwb := hW.st
  refine aw_iload_1 dX6_forget_0 ?_
  refine aw_run (zRun_S (c_X6_isThing ) (Or.inl gX6_forget_X6_isThing) q_X6_isThing (by decide) rfl rfl (Nat.le_of_ble_eq_true rfl) dX6_forget_1 ⟨by decide, by decide⟩) ?_
  refine aw_if_ne (tgt := 9) dX6_forget_4 (by decide) (fun c4 => ?_) (fun c4 => absurd c4 ht)
  refine aw_aload_0 dX6_forget_9 ?_
  refine aw_getR fX6_0 (fun _ _ => rfl) (by assumption) hinX6 (by decide +kernel : Cond.fieldLink RX6 10 RX6 (TX6 0).2.1 (TX6 0).2.2.1 ∈ wsX6_forget) (by assumption) dX6_forget_10 ?_
  refine aw_iload_1 dX6_forget_13 ?_
  refine aw_run (zRun_V (c_X0_isMade (by assumption)) gX6_forget_X0_isMade q_X0_isMade rfl (by decide) rfl (by assumption) rfl rfl (Nat.le_of_ble_eq_true rfl) dX6_forget_14 ⟨by decide, by decide⟩) ?_
  refine aw_if_ne (tgt := 23) dX6_forget_17 (by decide) (fun c17 => ?_) (fun c17 => absurd c17 h)
  refine aw_aload_0 dX6_forget_23 ?_
  refine aw_getR fX6_4 (fun _ _ => rfl) (by assumption) hinX6 (by decide +kernel : Cond.fieldLink RX6 36 RX6 (TX6 4).2.1 (TX6 4).2.2.1 ∈ wsX6_forget) (by assumption) dX6_forget_24 ?_
  refine aw_aload_0 dX6_forget_27 ?_
  refine aw_getR fX6_0 (fun _ _ => rfl) (by assumption) hinX6 (by decide +kernel : Cond.fieldLink RX6 10 RX6 (TX6 0).2.1 (TX6 0).2.2.1 ∈ wsX6_forget) (by assumption) dX6_forget_28 ?_
  refine aw_aload_0 dX6_forget_31 ?_
  refine aw_getR fX6_2 (fun _ _ => rfl) (by assumption) hinX6 (by decide +kernel : Cond.fieldLink RX6 22 RX6 (TX6 2).2.1 (TX6 2).2.2.1 ∈ wsX6_forget) (by assumption) dX6_forget_32 ?_
  refine aw_runAv (zRun_V (c_rem hY ho hs h1 h2) gX6_forget_X1_remember q_X1_remember rfl (by decide) rfl (by assumption) rfl rfl (Nat.le_of_ble_eq_true rfl) dX6_forget_35 ⟨by decide, by decide⟩) (by refine ⟨fun j hj => ?_, fun j hj => ?_⟩ <;> (left; simp at hj <;> (first | (rcases hj with hj | hj | hj) | (rcases hj with hj | hj) | skip) <;> (try rw [hj]) <;> (first | (rw [ts]; simp) | (rw [hb0]; simp) | (rw [hs0]; simp) | (rw [hh0]; simp) | (rw [hw0]; simp)))) (fun ρ => ?_)
  have hYT := hY.trm (a := o + s)
  generalize tS sh P χ ((o + s) % 8) = sT at hYT  ⊢
  generalize tP P χ ((o + s) % 8) = pT at hYT  ⊢
  obtain ⟨⟨ts, tp0, tp1, tp2, tp3, tp4, tp5, tp6, tp7, ti, tx⟩, hB, hD, hS, hW, hH, hR, hPl, hIm⟩ := id hYT
  have hb0 := hB.1
  have hd0 := hD.1
  obtain ⟨hs0, ⟨sp0, sp1, sp2, sp3, sp4, sp5⟩, sh1, sh2, sh3, sh4, sh5, sh6⟩ := id hS
  have hw0 := hW.1
  have hh0 := hH.1
  have hr0 := hR.1
  have wp0 := hW.2.1
  have hwb := hW.st
  refine aw_aload_0 dX6_forget_38 ?_
  refine aw_getR fX6_0 (fun _ _ => rfl) (by assumption) hinX6 (by decide +kernel : Cond.fieldLink RX6 10 RX6 (TX6 0).2.1 (TX6 0).2.2.1 ∈ wsX6_forget) (by assumption) dX6_forget_39 ?_
  refine aw_iload_1 dX6_forget_42 ?_
  refine aw_run (zRun_V (v_X0_yieldOf hB tF_B) gX6_forget_X0_yieldOf q_X0_yieldOf rfl (by decide) rfl (by assumption) rfl rfl (Nat.le_of_ble_eq_true rfl) dX6_forget_43 ⟨by decide, by decide⟩) ?_
  refine aw_istore_2 dX6_forget_46 ?_
  refine aw_aload_0 dX6_forget_47 ?_
  refine aw_getR fX6_0 (fun _ _ => rfl) (by assumption) hinX6 (by decide +kernel : Cond.fieldLink RX6 10 RX6 (TX6 0).2.1 (TX6 0).2.2.1 ∈ wsX6_forget) (by assumption) dX6_forget_48 ?_
  refine aw_iload_1 dX6_forget_51 ?_
  refine aw_runv (zRun_V (v_X0_strike hB tF_B) gX6_forget_X0_strike q_X0_strike rfl (by decide) rfl (by assumption) rfl rfl (Nat.le_of_ble_eq_true rfl) dX6_forget_52 ⟨by decide, by decide⟩) ?_
  refine aw_aload_0 dX6_forget_55 ?_
  refine aw_getR fX6_0 (fun _ _ => rfl) (by assumption) hinX6 (by decide +kernel : Cond.fieldLink RX6 10 RX6 (TX6 0).2.1 (TX6 0).2.2.1 ∈ wsX6_forget) (by assumption) dX6_forget_56 ?_
  refine aw_run (zRun_V (v_X0_findRanks hB zVw.put) gX6_forget_X0_findRanks q_X0_findRanks rfl (by decide) rfl (by assumption) rfl rfl (Nat.le_of_ble_eq_true rfl) dX6_forget_59 ⟨by decide, by decide⟩) ?_
  rw [zput_zput]
  refine aw_pop rfl dX6_forget_62 ?_
  refine aw_iload_2 dX6_forget_63 ?_
  exact aw_ireturn rfl dX6_forget_64 (by decide) (by first | rfl | simp [c4, c17]) rfl rfl rfl

abbrev mX6_allow : ZM := (cX6_allow, RX6, wsX6_allow, 6, 0, 0, (some .int), 3, yX6_allow.name)
set_option maxHeartbeats 1000000 in
set_option maxRecDepth 100000 in
theorem c_X6_allow_b {sh : zSh} {F : Nat → Nat → Int32} {P : Nat → Nat → Option Nat} {χ : Nat} {t u : Int32} (hY : zSys sh P χ) (h : cIsThing t = 0 ∨ cIsThing u = 0 ∨ t = u) : zMet yX6_allow wsX6_allow (6) (0) (0) [.ref χ, .int t, .int u] sh F P (some (.int (-1))) sh F P := by
  refine zMet.of (by decide) rfl (Nat.le_of_ble_eq_true rfl) (by simp [Value.category]) ?_
  intro X ρ
  show AW mX6_allow X (zMQ mX6_allow X (some (.int (-1))) sh F P) 0 [some (.ref χ), some (.int t), some (.int u)] [] ρ sh F P 0 0
  have hinX6 : ∀ w ∈ u_ws RX6 TX6 11, w ∈ wsX6_allow := by decide +kernel
  obtain ⟨⟨ts, tp0, tp1, tp2, tp3, tp4, tp5, tp6, tp7, ti, tx⟩, hB, hD, hS, hW, hH, hR, hPl, hIm⟩ := id hY
  have hb0 := hB.1
  have hd0 := hD.1
  obtain ⟨hs0, ⟨sp0, sp1, sp2, sp3, sp4, sp5⟩, sh1, sh2, sh3, sh4, sh5, sh6⟩ := id hS
  have hw0 := hW.1
  have hh0 := hH.1
  have hr0 := hR.1
  have wp0 := hW.2.1
  have hwb := hW.st
  refine aw_iload_1 dX6_allow_0 ?_
  refine aw_run (zRun_S (c_X6_isThing ) (Or.inl gX6_allow_X6_isThing) q_X6_isThing (by decide) rfl rfl (Nat.le_of_ble_eq_true rfl) dX6_allow_1 ⟨Nat.le_refl _, Nat.le_refl _⟩) ?_
  refine aw_if_eq (tgt := 19) dX6_allow_4 (by decide) (fun c4 => ?_) (fun c4 => ?_)
  · refine aw_iconst (v := (-1)) dX6_allow_19 (by decide) ?_
    exact aw_ireturn rfl dX6_allow_20 ⟨Nat.zero_le _, Nat.zero_le _⟩ (by first | rfl | simp [c4]) rfl rfl rfl
  · refine aw_iload_2 dX6_allow_7 ?_
    refine aw_run (zRun_S (c_X6_isThing ) (Or.inl gX6_allow_X6_isThing) q_X6_isThing (by decide) rfl rfl (Nat.le_of_ble_eq_true rfl) dX6_allow_8 ⟨Nat.le_refl _, Nat.le_refl _⟩) ?_
    refine aw_if_eq (tgt := 19) dX6_allow_11 (by decide) (fun c11 => ?_) (fun c11 => ?_)
    · refine aw_iconst (v := (-1)) dX6_allow_19 (by decide) ?_
      exact aw_ireturn rfl dX6_allow_20 ⟨Nat.zero_le _, Nat.zero_le _⟩ (by first | rfl | simp [c4, c11]) rfl rfl rfl
    · refine aw_iload_1 dX6_allow_14 ?_
      refine aw_iload_2 dX6_allow_15 ?_
      refine aw_icmp_ne (tgt := 21) dX6_allow_16 (by decide) (fun c16 => ?_) (fun c16 => ?_)
      · exact absurd h (by simp [c4, c11, c16])
      · refine aw_iconst (v := (-1)) dX6_allow_19 (by decide) ?_
        exact aw_ireturn rfl dX6_allow_20 ⟨Nat.zero_le _, Nat.zero_le _⟩ (by first | rfl | simp [c4, c11, c16]) rfl rfl rfl

set_option maxHeartbeats 1000000 in
set_option maxRecDepth 100000 in
theorem c_X6_allow_h {sh : zSh} {F : Nat → Nat → Int32} {P : Nat → Nat → Option Nat} {χ : Nat} {t u : Int32} (hY : zSys sh P χ) (ht : ¬ cIsThing t = 0) (hu : ¬ cIsThing u = 0) (hn : t ≠ u) (h : bHasSub (zsub F (χ + 1)) t u = true) : zMet yX6_allow wsX6_allow (6) (0) (0) [.ref χ, .int t, .int u] sh F P (some (.int (-2))) sh F P := by
  refine zMet.of (by decide) rfl (Nat.le_of_ble_eq_true rfl) (by simp [Value.category]) ?_
  intro X ρ
  show AW mX6_allow X (zMQ mX6_allow X (some (.int (-2))) sh F P) 0 [some (.ref χ), some (.int t), some (.int u)] [] ρ sh F P 0 0
  have hinX6 : ∀ w ∈ u_ws RX6 TX6 11, w ∈ wsX6_allow := by decide +kernel
  obtain ⟨⟨ts, tp0, tp1, tp2, tp3, tp4, tp5, tp6, tp7, ti, tx⟩, hB, hD, hS, hW, hH, hR, hPl, hIm⟩ := id hY
  have hb0 := hB.1
  have hd0 := hD.1
  obtain ⟨hs0, ⟨sp0, sp1, sp2, sp3, sp4, sp5⟩, sh1, sh2, sh3, sh4, sh5, sh6⟩ := id hS
  have hw0 := hW.1
  have hh0 := hH.1
  have hr0 := hR.1
  have wp0 := hW.2.1
  have hwb := hW.st
  refine aw_iload_1 dX6_allow_0 ?_
  refine aw_run (zRun_S (c_X6_isThing ) (Or.inl gX6_allow_X6_isThing) q_X6_isThing (by decide) rfl rfl (Nat.le_of_ble_eq_true rfl) dX6_allow_1 ⟨Nat.le_refl _, Nat.le_refl _⟩) ?_
  refine aw_if_eq (tgt := 19) dX6_allow_4 (by decide) (fun c4 => absurd c4 ht) (fun c4 => ?_)
  refine aw_iload_2 dX6_allow_7 ?_
  refine aw_run (zRun_S (c_X6_isThing ) (Or.inl gX6_allow_X6_isThing) q_X6_isThing (by decide) rfl rfl (Nat.le_of_ble_eq_true rfl) dX6_allow_8 ⟨Nat.le_refl _, Nat.le_refl _⟩) ?_
  refine aw_if_eq (tgt := 19) dX6_allow_11 (by decide) (fun c11 => absurd c11 hu) (fun c11 => ?_)
  refine aw_iload_1 dX6_allow_14 ?_
  refine aw_iload_2 dX6_allow_15 ?_
  refine aw_icmp_ne (tgt := 21) dX6_allow_16 (by decide) (fun c16 => ?_) (fun c16 => absurd c16 hn)
  refine aw_aload_0 dX6_allow_21 ?_
  refine aw_getR fX6_0 (fun _ _ => rfl) (by assumption) hinX6 (by decide +kernel : Cond.fieldLink RX6 10 RX6 (TX6 0).2.1 (TX6 0).2.2.1 ∈ wsX6_allow) (by assumption) dX6_allow_22 ?_
  refine aw_iload_1 dX6_allow_25 ?_
  refine aw_iload_2 dX6_allow_26 ?_
  refine aw_run (zRun_V (c_X0_hasSubstitute (by assumption)) gX6_allow_X0_hasSubstitute q_X0_hasSubstitute rfl (by decide) rfl (by assumption) rfl rfl (Nat.le_of_ble_eq_true rfl) dX6_allow_27 ⟨Nat.le_refl _, Nat.le_refl _⟩) ?_
  refine aw_if_eq (tgt := 36) dX6_allow_30 (by decide) (fun c30 => ?_) (fun c30 => ?_)
  · exact absurd h (z10 c30)
  · refine aw_bipush (v := (-2)) dX6_allow_33 (by decide) ?_
    exact aw_ireturn rfl dX6_allow_35 ⟨Nat.zero_le _, Nat.zero_le _⟩ (by first | rfl | simp [c4, c11, c16, c30]) rfl rfl rfl

set_option maxHeartbeats 1000000 in
set_option maxRecDepth 100000 in
theorem c_X6_allow_f {sh : zSh} {F : Nat → Nat → Int32} {P : Nat → Nat → Option Nat} {χ : Nat} {t u : Int32} (hY : zSys sh P χ) (ht : ¬ cIsThing t = 0) (hu : ¬ cIsThing u = 0) (hn : t ≠ u) (hh : ¬ bHasSub (zsub F (χ + 1)) t u = true) (h : ¬ bSubs (zsub F (χ + 1)) t < 3) : zMet yX6_allow wsX6_allow (6) (0) (0) [.ref χ, .int t, .int u] sh F P (some (.int (-3))) sh F P := by
  refine zMet.of (by decide) rfl (Nat.le_of_ble_eq_true rfl) (by simp [Value.category]) ?_
  intro X ρ
  show AW mX6_allow X (zMQ mX6_allow X (some (.int (-3))) sh F P) 0 [some (.ref χ), some (.int t), some (.int u)] [] ρ sh F P 0 0
  have hinX6 : ∀ w ∈ u_ws RX6 TX6 11, w ∈ wsX6_allow := by decide +kernel
  obtain ⟨⟨ts, tp0, tp1, tp2, tp3, tp4, tp5, tp6, tp7, ti, tx⟩, hB, hD, hS, hW, hH, hR, hPl, hIm⟩ := id hY
  have hb0 := hB.1
  have hd0 := hD.1
  obtain ⟨hs0, ⟨sp0, sp1, sp2, sp3, sp4, sp5⟩, sh1, sh2, sh3, sh4, sh5, sh6⟩ := id hS
  have hw0 := hW.1
  have hh0 := hH.1
  have hr0 := hR.1
  have wp0 := hW.2.1
  have hwb := hW.st
  refine aw_iload_1 dX6_allow_0 ?_
  refine aw_run (zRun_S (c_X6_isThing ) (Or.inl gX6_allow_X6_isThing) q_X6_isThing (by decide) rfl rfl (Nat.le_of_ble_eq_true rfl) dX6_allow_1 ⟨Nat.le_refl _, Nat.le_refl _⟩) ?_
  refine aw_if_eq (tgt := 19) dX6_allow_4 (by decide) (fun c4 => absurd c4 ht) (fun c4 => ?_)
  refine aw_iload_2 dX6_allow_7 ?_
  refine aw_run (zRun_S (c_X6_isThing ) (Or.inl gX6_allow_X6_isThing) q_X6_isThing (by decide) rfl rfl (Nat.le_of_ble_eq_true rfl) dX6_allow_8 ⟨Nat.le_refl _, Nat.le_refl _⟩) ?_
  refine aw_if_eq (tgt := 19) dX6_allow_11 (by decide) (fun c11 => absurd c11 hu) (fun c11 => ?_)
  refine aw_iload_1 dX6_allow_14 ?_
  refine aw_iload_2 dX6_allow_15 ?_
  refine aw_icmp_ne (tgt := 21) dX6_allow_16 (by decide) (fun c16 => ?_) (fun c16 => absurd c16 hn)
  refine aw_aload_0 dX6_allow_21 ?_
  refine aw_getR fX6_0 (fun _ _ => rfl) (by assumption) hinX6 (by decide +kernel : Cond.fieldLink RX6 10 RX6 (TX6 0).2.1 (TX6 0).2.2.1 ∈ wsX6_allow) (by assumption) dX6_allow_22 ?_
  refine aw_iload_1 dX6_allow_25 ?_
  refine aw_iload_2 dX6_allow_26 ?_
  refine aw_run (zRun_V (c_X0_hasSubstitute (by assumption)) gX6_allow_X0_hasSubstitute q_X0_hasSubstitute rfl (by decide) rfl (by assumption) rfl rfl (Nat.le_of_ble_eq_true rfl) dX6_allow_27 ⟨Nat.le_refl _, Nat.le_refl _⟩) ?_
  refine aw_if_eq (tgt := 36) dX6_allow_30 (by decide) (fun c30 => ?_) (fun c30 => ?_)
  · refine aw_aload_0 dX6_allow_36 ?_
    refine aw_getR fX6_0 (fun _ _ => rfl) (by assumption) hinX6 (by decide +kernel : Cond.fieldLink RX6 10 RX6 (TX6 0).2.1 (TX6 0).2.2.1 ∈ wsX6_allow) (by assumption) dX6_allow_37 ?_
    refine aw_iload_1 dX6_allow_40 ?_
    refine aw_run (zRun_V (c_X0_substitutesOf (by assumption)) gX6_allow_X0_substitutesOf q_X0_substitutesOf rfl (by decide) rfl (by assumption) rfl rfl (Nat.le_of_ble_eq_true rfl) dX6_allow_41 ⟨Nat.le_refl _, Nat.le_refl _⟩) ?_
    refine aw_iconst (v := 3) dX6_allow_44 (by decide) ?_
    refine aw_icmp_lt (tgt := 51) dX6_allow_45 (by decide) (fun c45 => ?_) (fun c45 => ?_)
    · exact absurd c45 h
    · refine aw_bipush (v := (-3)) dX6_allow_48 (by decide) ?_
      exact aw_ireturn rfl dX6_allow_50 ⟨Nat.zero_le _, Nat.zero_le _⟩ (by first | rfl | simp [c4, c11, c16, c30, c45]) rfl rfl rfl
  · exact absurd (z10n c30) hh

set_option maxHeartbeats 1000000 in
set_option maxRecDepth 100000 in
theorem c_X6_allow_g {sh : zSh} {F : Nat → Nat → Int32} {P : Nat → Nat → Option Nat} {χ : Nat} {D V : Nat → Nat → Int32} {w : Int32} {t u : Int32} (hY : zSys sh P χ) (ht : ¬ cIsThing t = 0) (hu : ¬ cIsThing u = 0) (hn : t ≠ u) (eD : zBox (tAdd F χ t u = D)) (eV : zBox (tFind D = V)) (ew : zBox (bFindOk D = w)) (hh : ¬ bHasSub (zsub F (χ + 1)) t u = true) (hs : bSubs (zsub F (χ + 1)) t < 3) (h : w = 0) : zMet yX6_allow wsX6_allow (6) (0) (0) [.ref χ, .int t, .int u] sh F P (some (.int (-2))) sh (zput F (χ + 10) 9 V) P := by
  refine zMet.of (by decide) rfl (Nat.le_of_ble_eq_true rfl) (by simp [Value.category]) ?_
  intro X ρ
  show AW mX6_allow X (zMQ mX6_allow X (some (.int (-2))) sh (zput F (χ + 10) 9 V) P) 0 [some (.ref χ), some (.int t), some (.int u)] [] ρ sh F P 0 0
  have hinX6 : ∀ w ∈ u_ws RX6 TX6 11, w ∈ wsX6_allow := by decide +kernel
  obtain ⟨⟨ts, tp0, tp1, tp2, tp3, tp4, tp5, tp6, tp7, ti, tx⟩, hB, hD, hS, hW, hH, hR, hPl, hIm⟩ := id hY
  have hb0 := hB.1
  have hd0 := hD.1
  obtain ⟨hs0, ⟨sp0, sp1, sp2, sp3, sp4, sp5⟩, sh1, sh2, sh3, sh4, sh5, sh6⟩ := id hS
  have hw0 := hW.1
  have hh0 := hH.1
  have hr0 := hR.1
  have wp0 := hW.2.1
  have hwb := hW.st
  refine aw_iload_1 dX6_allow_0 ?_
  refine aw_run (zRun_S (c_X6_isThing ) (Or.inl gX6_allow_X6_isThing) q_X6_isThing (by decide) rfl rfl (Nat.le_of_ble_eq_true rfl) dX6_allow_1 ⟨Nat.le_refl _, Nat.le_refl _⟩) ?_
  refine aw_if_eq (tgt := 19) dX6_allow_4 (by decide) (fun c4 => absurd c4 ht) (fun c4 => ?_)
  refine aw_iload_2 dX6_allow_7 ?_
  refine aw_run (zRun_S (c_X6_isThing ) (Or.inl gX6_allow_X6_isThing) q_X6_isThing (by decide) rfl rfl (Nat.le_of_ble_eq_true rfl) dX6_allow_8 ⟨Nat.le_refl _, Nat.le_refl _⟩) ?_
  refine aw_if_eq (tgt := 19) dX6_allow_11 (by decide) (fun c11 => absurd c11 hu) (fun c11 => ?_)
  refine aw_iload_1 dX6_allow_14 ?_
  refine aw_iload_2 dX6_allow_15 ?_
  refine aw_icmp_ne (tgt := 21) dX6_allow_16 (by decide) (fun c16 => ?_) (fun c16 => absurd c16 hn)
  refine aw_aload_0 dX6_allow_21 ?_
  refine aw_getR fX6_0 (fun _ _ => rfl) (by assumption) hinX6 (by decide +kernel : Cond.fieldLink RX6 10 RX6 (TX6 0).2.1 (TX6 0).2.2.1 ∈ wsX6_allow) (by assumption) dX6_allow_22 ?_
  refine aw_iload_1 dX6_allow_25 ?_
  refine aw_iload_2 dX6_allow_26 ?_
  refine aw_run (zRun_V (c_X0_hasSubstitute (by assumption)) gX6_allow_X0_hasSubstitute q_X0_hasSubstitute rfl (by decide) rfl (by assumption) rfl rfl (Nat.le_of_ble_eq_true rfl) dX6_allow_27 ⟨Nat.le_refl _, Nat.le_refl _⟩) ?_
  refine aw_if_eq (tgt := 36) dX6_allow_30 (by decide) (fun c30 => ?_) (fun c30 => ?_)
  · refine aw_aload_0 dX6_allow_36 ?_
    refine aw_getR fX6_0 (fun _ _ => rfl) (by assumption) hinX6 (by decide +kernel : Cond.fieldLink RX6 10 RX6 (TX6 0).2.1 (TX6 0).2.2.1 ∈ wsX6_allow) (by assumption) dX6_allow_37 ?_
    refine aw_iload_1 dX6_allow_40 ?_
    refine aw_run (zRun_V (c_X0_substitutesOf (by assumption)) gX6_allow_X0_substitutesOf q_X0_substitutesOf rfl (by decide) rfl (by assumption) rfl rfl (Nat.le_of_ble_eq_true rfl) dX6_allow_41 ⟨Nat.le_refl _, Nat.le_refl _⟩) ?_
    refine aw_iconst (v := 3) dX6_allow_44 (by decide) ?_
    refine aw_icmp_lt (tgt := 51) dX6_allow_45 (by decide) (fun c45 => ?_) (fun c45 => absurd hs c45)
    refine aw_aload_0 dX6_allow_51 ?_
    refine aw_getR fX6_1 (fun _ _ => rfl) (by assumption) hinX6 (by decide +kernel : Cond.fieldLink RX6 16 RX6 (TX6 1).2.1 (TX6 1).2.2.1 ∈ wsX6_allow) (by assumption) dX6_allow_52 ?_
    refine aw_aload_0 dX6_allow_55 ?_
    refine aw_getR fX6_0 (fun _ _ => rfl) (by assumption) hinX6 (by decide +kernel : Cond.fieldLink RX6 10 RX6 (TX6 0).2.1 (TX6 0).2.2.1 ∈ wsX6_allow) (by assumption) dX6_allow_56 ?_
    refine aw_runv (zRun_V (v_X0_copyFrom hD hB (by omega) zVw.self zVw.self) gX6_allow_X0_copyFrom q_X0_copyFrom rfl (by decide) rfl (by assumption) rfl rfl (Nat.le_of_ble_eq_true rfl) dX6_allow_59 ⟨Nat.le_refl _, Nat.le_refl _⟩) ?_
    refine aw_aload_0 dX6_allow_62 ?_
    refine aw_getR fX6_1 (fun _ _ => rfl) (by assumption) hinX6 (by decide +kernel : Cond.fieldLink RX6 16 RX6 (TX6 1).2.1 (TX6 1).2.2.1 ∈ wsX6_allow) (by assumption) dX6_allow_63 ?_
    refine aw_iload_1 dX6_allow_66 ?_
    refine aw_iload_2 dX6_allow_67 ?_
    refine aw_runv (zRun_V (v_X0_addSubstitute hD zVw.put) gX6_allow_X0_addSubstitute q_X0_addSubstitute rfl (by decide) rfl (by assumption) rfl rfl (Nat.le_of_ble_eq_true rfl) dX6_allow_68 ⟨Nat.le_refl _, Nat.le_refl _⟩) ?_
    rw [zput_zput, show bAddSub (bCopy (zsub F (χ + 10)) (zsub F (χ + 1))) t u = D from eD.out]
    refine aw_aload_0 dX6_allow_71 ?_
    refine aw_getR fX6_1 (fun _ _ => rfl) (by assumption) hinX6 (by decide +kernel : Cond.fieldLink RX6 16 RX6 (TX6 1).2.1 (TX6 1).2.2.1 ∈ wsX6_allow) (by assumption) dX6_allow_72 ?_
    refine aw_run (zRun_V (v_X0_findRanks hD zVw.put) gX6_allow_X0_findRanks q_X0_findRanks rfl (by decide) rfl (by assumption) rfl rfl (Nat.le_of_ble_eq_true rfl) dX6_allow_75 ⟨Nat.le_refl _, Nat.le_refl _⟩) ?_
    rw [zput_zput, eV.out, ew.out]
    refine aw_if_ne (tgt := 84) dX6_allow_78 (by decide) (fun c78 => ?_) (fun c78 => ?_)
    · exact absurd h c78
    · refine aw_bipush (v := (-2)) dX6_allow_81 (by decide) ?_
      exact aw_ireturn rfl dX6_allow_83 ⟨Nat.zero_le _, Nat.zero_le _⟩ (by first | rfl | simp [c4, c11, c16, c30, c45, c78]) rfl rfl rfl
  · exact absurd (z10n c30) hh

abbrev m1X6_allow : ZM := (cX6_allow, RX6, wsX6_allow, 6, 17, 497, (some .int), 3, yX6_allow.name)

set_option maxHeartbeats 1000000 in
set_option maxRecDepth 100000 in
theorem c_X6_allow_o {sh : zSh} {F : Nat → Nat → Int32} {P : Nat → Nat → Option Nat} {χ : Nat} {D V : Nat → Nat → Int32} {w : Int32} {o s : Nat} {t u : Int32} (hY : zSys sh P χ) (ho : o < 8) (hs : s ≤ 8) (h1 : F (χ + 34) 1 = nI o) (h2 : F (χ + 34) 2 = nI s) (ht : ¬ cIsThing t = 0) (hu : ¬ cIsThing u = 0) (hn : t ≠ u) (eD : zBox (tAdd F χ t u = D)) (eV : zBox (tFind D = V)) (ew : zBox (bFindOk D = w)) (hh : ¬ bHasSub (zsub F (χ + 1)) t u = true) (hs3 : bSubs (zsub F (χ + 1)) t < 3) (h : ¬ w = 0) : zMet yX6_allow wsX6_allow (6) (17) (497) [.ref χ, .int t, .int u] sh F P (some (.int (bSubs (bCopy (zsub F (χ + 1)) V) t))) (tS sh P χ ((o + s) % 8)) (zput (tF (zput F (χ + 10) 9 V) P χ o s) (χ + 1) 9 (bCopy (zsub F (χ + 1)) V)) (tP P χ ((o + s) % 8)) := by
  refine zMet.of (by decide) rfl (Nat.le_of_ble_eq_true rfl) (by simp [Value.category]) ?_
  intro X ρ
  show AW m1X6_allow X (zMQ m1X6_allow X (some (.int (bSubs (bCopy (zsub F (χ + 1)) V) t))) (tS sh P χ ((o + s) % 8)) (zput (tF (zput F (χ + 10) 9 V) P χ o s) (χ + 1) 9 (bCopy (zsub F (χ + 1)) V)) (tP P χ ((o + s) % 8))) 0 [some (.ref χ), some (.int t), some (.int u)] [] ρ sh F P 0 0
  have hinX6 : ∀ w ∈ u_ws RX6 TX6 11, w ∈ wsX6_allow := by decide +kernel
  obtain ⟨⟨ts, tp0, tp1, tp2, tp3, tp4, tp5, tp6, tp7, ti, tx⟩, hB, hD, hS, hW, hH, hR, hPl, hIm⟩ := id hY
  have hb0 := hB.1
  have hd0 := hD.1
  obtain ⟨hs0, ⟨sp0, sp1, sp2, sp3, sp4, sp5⟩, sh1, sh2, sh3, sh4, sh5, sh6⟩ := id hS
  have hw0 := hW.1
  have hh0 := hH.1
  have hr0 := hR.1
  have wp0 := hW.2.1
  have hwb := hW.st
  refine aw_iload_1 dX6_allow_0 ?_
  refine aw_run (zRun_S (c_X6_isThing ) (Or.inl gX6_allow_X6_isThing) q_X6_isThing (by decide) rfl rfl (Nat.le_of_ble_eq_true rfl) dX6_allow_1 ⟨by decide, by decide⟩) ?_
  refine aw_if_eq (tgt := 19) dX6_allow_4 (by decide) (fun c4 => absurd c4 ht) (fun c4 => ?_)
  refine aw_iload_2 dX6_allow_7 ?_
  refine aw_run (zRun_S (c_X6_isThing ) (Or.inl gX6_allow_X6_isThing) q_X6_isThing (by decide) rfl rfl (Nat.le_of_ble_eq_true rfl) dX6_allow_8 ⟨by decide, by decide⟩) ?_
  refine aw_if_eq (tgt := 19) dX6_allow_11 (by decide) (fun c11 => absurd c11 hu) (fun c11 => ?_)
  refine aw_iload_1 dX6_allow_14 ?_
  refine aw_iload_2 dX6_allow_15 ?_
  refine aw_icmp_ne (tgt := 21) dX6_allow_16 (by decide) (fun c16 => ?_) (fun c16 => absurd c16 hn)
  refine aw_aload_0 dX6_allow_21 ?_
  refine aw_getR fX6_0 (fun _ _ => rfl) (by assumption) hinX6 (by decide +kernel : Cond.fieldLink RX6 10 RX6 (TX6 0).2.1 (TX6 0).2.2.1 ∈ wsX6_allow) (by assumption) dX6_allow_22 ?_
  refine aw_iload_1 dX6_allow_25 ?_
  refine aw_iload_2 dX6_allow_26 ?_
  refine aw_run (zRun_V (c_X0_hasSubstitute (by assumption)) gX6_allow_X0_hasSubstitute q_X0_hasSubstitute rfl (by decide) rfl (by assumption) rfl rfl (Nat.le_of_ble_eq_true rfl) dX6_allow_27 ⟨by decide, by decide⟩) ?_
  refine aw_if_eq (tgt := 36) dX6_allow_30 (by decide) (fun c30 => ?_) (fun c30 => ?_)
  · refine aw_aload_0 dX6_allow_36 ?_
    refine aw_getR fX6_0 (fun _ _ => rfl) (by assumption) hinX6 (by decide +kernel : Cond.fieldLink RX6 10 RX6 (TX6 0).2.1 (TX6 0).2.2.1 ∈ wsX6_allow) (by assumption) dX6_allow_37 ?_
    refine aw_iload_1 dX6_allow_40 ?_
    refine aw_run (zRun_V (c_X0_substitutesOf (by assumption)) gX6_allow_X0_substitutesOf q_X0_substitutesOf rfl (by decide) rfl (by assumption) rfl rfl (Nat.le_of_ble_eq_true rfl) dX6_allow_41 ⟨by decide, by decide⟩) ?_
    refine aw_iconst (v := 3) dX6_allow_44 (by decide) ?_
    refine aw_icmp_lt (tgt := 51) dX6_allow_45 (by decide) (fun c45 => ?_) (fun c45 => absurd hs3 c45)
    refine aw_aload_0 dX6_allow_51 ?_
    refine aw_getR fX6_1 (fun _ _ => rfl) (by assumption) hinX6 (by decide +kernel : Cond.fieldLink RX6 16 RX6 (TX6 1).2.1 (TX6 1).2.2.1 ∈ wsX6_allow) (by assumption) dX6_allow_52 ?_
    refine aw_aload_0 dX6_allow_55 ?_
    refine aw_getR fX6_0 (fun _ _ => rfl) (by assumption) hinX6 (by decide +kernel : Cond.fieldLink RX6 10 RX6 (TX6 0).2.1 (TX6 0).2.2.1 ∈ wsX6_allow) (by assumption) dX6_allow_56 ?_
    refine aw_runv (zRun_V (v_X0_copyFrom hD hB (by omega) zVw.self zVw.self) gX6_allow_X0_copyFrom q_X0_copyFrom rfl (by decide) rfl (by assumption) rfl rfl (Nat.le_of_ble_eq_true rfl) dX6_allow_59 ⟨by decide, by decide⟩) ?_
    refine aw_aload_0 dX6_allow_62 ?_
    refine aw_getR fX6_1 (fun _ _ => rfl) (by assumption) hinX6 (by decide +kernel : Cond.fieldLink RX6 16 RX6 (TX6 1).2.1 (TX6 1).2.2.1 ∈ wsX6_allow) (by assumption) dX6_allow_63 ?_
    refine aw_iload_1 dX6_allow_66 ?_
    refine aw_iload_2 dX6_allow_67 ?_
    refine aw_runv (zRun_V (v_X0_addSubstitute hD zVw.put) gX6_allow_X0_addSubstitute q_X0_addSubstitute rfl (by decide) rfl (by assumption) rfl rfl (Nat.le_of_ble_eq_true rfl) dX6_allow_68 ⟨by decide, by decide⟩) ?_
    rw [zput_zput, show bAddSub (bCopy (zsub F (χ + 10)) (zsub F (χ + 1))) t u = D from eD.out]
    refine aw_aload_0 dX6_allow_71 ?_
    refine aw_getR fX6_1 (fun _ _ => rfl) (by assumption) hinX6 (by decide +kernel : Cond.fieldLink RX6 16 RX6 (TX6 1).2.1 (TX6 1).2.2.1 ∈ wsX6_allow) (by assumption) dX6_allow_72 ?_
    refine aw_run (zRun_V (v_X0_findRanks hD zVw.put) gX6_allow_X0_findRanks q_X0_findRanks rfl (by decide) rfl (by assumption) rfl rfl (Nat.le_of_ble_eq_true rfl) dX6_allow_75 ⟨by decide, by decide⟩) ?_
    rw [zput_zput, eV.out, ew.out]
    refine aw_if_ne (tgt := 84) dX6_allow_78 (by decide) (fun c78 => ?_) (fun c78 => ?_)
    · refine aw_aload_0 dX6_allow_84 ?_
      refine aw_getR fX6_4 (fun _ _ => rfl) (by assumption) hinX6 (by decide +kernel : Cond.fieldLink RX6 36 RX6 (TX6 4).2.1 (TX6 4).2.2.1 ∈ wsX6_allow) (by assumption) dX6_allow_85 ?_
      refine aw_aload_0 dX6_allow_88 ?_
      refine aw_getR fX6_0 (fun _ _ => rfl) (by assumption) hinX6 (by decide +kernel : Cond.fieldLink RX6 10 RX6 (TX6 0).2.1 (TX6 0).2.2.1 ∈ wsX6_allow) (by assumption) dX6_allow_89 ?_
      refine aw_aload_0 dX6_allow_92 ?_
      refine aw_getR fX6_2 (fun _ _ => rfl) (by assumption) hinX6 (by decide +kernel : Cond.fieldLink RX6 22 RX6 (TX6 2).2.1 (TX6 2).2.2.1 ∈ wsX6_allow) (by assumption) dX6_allow_93 ?_
      refine aw_runAv (zRun_V (c_rem hY ho hs (by rw [zput_ne (by omega)]; exact h1) (by rw [zput_ne (by omega)]; exact h2)) gX6_allow_X1_remember q_X1_remember rfl (by decide) rfl (by assumption) rfl rfl (Nat.le_of_ble_eq_true rfl) dX6_allow_96 ⟨by decide, by decide⟩) (by refine ⟨fun j hj => ?_, fun j hj => ?_⟩ <;> (left; simp at hj <;> (first | (rcases hj with hj | hj | hj) | (rcases hj with hj | hj) | skip) <;> (try rw [hj]) <;> (first | (rw [ts]; simp) | (rw [hb0]; simp) | (rw [hs0]; simp) | (rw [hh0]; simp) | (rw [hw0]; simp)))) (fun ρ => ?_)
      have hYT := hY.trm (a := o + s)
      generalize tS sh P χ ((o + s) % 8) = sT at hYT  ⊢
      generalize tP P χ ((o + s) % 8) = pT at hYT  ⊢
      obtain ⟨⟨ts, tp0, tp1, tp2, tp3, tp4, tp5, tp6, tp7, ti, tx⟩, hB, hD, hS, hW, hH, hR, hPl, hIm⟩ := id hYT
      have hb0 := hB.1
      have hd0 := hD.1
      obtain ⟨hs0, ⟨sp0, sp1, sp2, sp3, sp4, sp5⟩, sh1, sh2, sh3, sh4, sh5, sh6⟩ := id hS
      have hw0 := hW.1
      have hh0 := hH.1
      have hr0 := hR.1
      have wp0 := hW.2.1
      have hwb := hW.st
      refine aw_aload_0 dX6_allow_99 ?_
      refine aw_getR fX6_0 (fun _ _ => rfl) (by assumption) hinX6 (by decide +kernel : Cond.fieldLink RX6 10 RX6 (TX6 0).2.1 (TX6 0).2.2.1 ∈ wsX6_allow) (by assumption) dX6_allow_100 ?_
      refine aw_aload_0 dX6_allow_103 ?_
      refine aw_getR fX6_1 (fun _ _ => rfl) (by assumption) hinX6 (by decide +kernel : Cond.fieldLink RX6 16 RX6 (TX6 1).2.1 (TX6 1).2.2.1 ∈ wsX6_allow) (by assumption) dX6_allow_104 ?_
      refine aw_runv (zRun_V (v_X0_copyFrom (B := zsub F (χ + 1)) (G := V) hB hD (by omega) (fun j hj => (tF_ne (by omega) (by omega)).trans (zput_ne (by omega))) (fun j hj => (tF_ne (by omega) (by omega)).trans (zput_at (by omega)))) gX6_allow_X0_copyFrom q_X0_copyFrom rfl (by decide) rfl (by assumption) rfl rfl (Nat.le_of_ble_eq_true rfl) dX6_allow_107 ⟨by decide, by decide⟩) ?_
      refine aw_aload_0 dX6_allow_110 ?_
      refine aw_getR fX6_0 (fun _ _ => rfl) (by assumption) hinX6 (by decide +kernel : Cond.fieldLink RX6 10 RX6 (TX6 0).2.1 (TX6 0).2.2.1 ∈ wsX6_allow) (by assumption) dX6_allow_111 ?_
      refine aw_iload_1 dX6_allow_114 ?_
      refine aw_run (zRun_V (v_X0_substitutesOf hB zVw.put) gX6_allow_X0_substitutesOf q_X0_substitutesOf rfl (by decide) rfl (by assumption) rfl rfl (Nat.le_of_ble_eq_true rfl) dX6_allow_115 ⟨by decide, by decide⟩) ?_
      exact aw_ireturn rfl dX6_allow_118 (by decide) (by first | rfl | simp [c4, c11, c16, c30, c45, c78]) rfl rfl rfl
    · exact absurd c78 h
  · exact absurd (z10n c30) hh

abbrev mX6_forbid : ZM := (cX6_forbid, RX6, wsX6_forbid, 6, 0, 0, (some .int), 4, yX6_forbid.name)
set_option maxHeartbeats 1000000 in
set_option maxRecDepth 100000 in
theorem c_X6_forbid_b {sh : zSh} {F : Nat → Nat → Int32} {P : Nat → Nat → Option Nat} {χ : Nat} {t k : Int32} (hY : zSys sh P χ) (h : cIsThing t = 0 ∨ k < 0 ∨ ¬ k < bSubs (zsub F (χ + 1)) t) : zMet yX6_forbid wsX6_forbid (6) (0) (0) [.ref χ, .int t, .int k] sh F P (some (.int (-1))) sh F P := by
  refine zMet.of (by decide) rfl (Nat.le_of_ble_eq_true rfl) (by simp [Value.category]) ?_
  intro X ρ
  show AW mX6_forbid X (zMQ mX6_forbid X (some (.int (-1))) sh F P) 0 [some (.ref χ), some (.int t), some (.int k), none] [] ρ sh F P 0 0
  have hinX6 : ∀ w ∈ u_ws RX6 TX6 11, w ∈ wsX6_forbid := by decide +kernel
  obtain ⟨⟨ts, tp0, tp1, tp2, tp3, tp4, tp5, tp6, tp7, ti, tx⟩, hB, hD, hS, hW, hH, hR, hPl, hIm⟩ := id hY
  have hb0 := hB.1
  have hd0 := hD.1
  obtain ⟨hs0, ⟨sp0, sp1, sp2, sp3, sp4, sp5⟩, sh1, sh2, sh3, sh4, sh5, sh6⟩ := id hS
  have hw0 := hW.1
  have hh0 := hH.1
  have hr0 := hR.1
  have wp0 := hW.2.1
  have hwb := hW.st
  refine aw_iload_1 dX6_forbid_0 ?_
  refine aw_run (zRun_S (c_X6_isThing ) (Or.inl gX6_forbid_X6_isThing) q_X6_isThing (by decide) rfl rfl (Nat.le_of_ble_eq_true rfl) dX6_forbid_1 ⟨Nat.le_refl _, Nat.le_refl _⟩) ?_
  refine aw_if_eq (tgt := 23) dX6_forbid_4 (by decide) (fun c4 => ?_) (fun c4 => ?_)
  · refine aw_iconst (v := (-1)) dX6_forbid_23 (by decide) ?_
    exact aw_ireturn rfl dX6_forbid_24 ⟨Nat.zero_le _, Nat.zero_le _⟩ (by first | rfl | simp [c4]) rfl rfl rfl
  · refine aw_iload_2 dX6_forbid_7 ?_
    refine aw_if_lt (tgt := 23) dX6_forbid_8 (by decide) (fun c8 => ?_) (fun c8 => ?_)
    · refine aw_iconst (v := (-1)) dX6_forbid_23 (by decide) ?_
      exact aw_ireturn rfl dX6_forbid_24 ⟨Nat.zero_le _, Nat.zero_le _⟩ (by first | rfl | simp [c4, c8]) rfl rfl rfl
    · refine aw_iload_2 dX6_forbid_11 ?_
      refine aw_aload_0 dX6_forbid_12 ?_
      refine aw_getR fX6_0 (fun _ _ => rfl) (by assumption) hinX6 (by decide +kernel : Cond.fieldLink RX6 10 RX6 (TX6 0).2.1 (TX6 0).2.2.1 ∈ wsX6_forbid) (by assumption) dX6_forbid_13 ?_
      refine aw_iload_1 dX6_forbid_16 ?_
      refine aw_run (zRun_V (c_X0_substitutesOf (by assumption)) gX6_forbid_X0_substitutesOf q_X0_substitutesOf rfl (by decide) rfl (by assumption) rfl rfl (Nat.le_of_ble_eq_true rfl) dX6_forbid_17 ⟨Nat.le_refl _, Nat.le_refl _⟩) ?_
      refine aw_icmp_lt (tgt := 25) dX6_forbid_20 (by decide) (fun c20 => ?_) (fun c20 => ?_)
      · exact absurd h (by simp only [c4, c8, c20]; simp)
      · refine aw_iconst (v := (-1)) dX6_forbid_23 (by decide) ?_
        exact aw_ireturn rfl dX6_forbid_24 ⟨Nat.zero_le _, Nat.zero_le _⟩ (by first | rfl | simp [c4, c8, c20]) rfl rfl rfl

abbrev m1X6_forbid : ZM := (cX6_forbid, RX6, wsX6_forbid, 6, 17, 497, (some .int), 4, yX6_forbid.name)

set_option maxHeartbeats 1000000 in
set_option maxRecDepth 100000 in
theorem c_X6_forbid_o {sh : zSh} {F : Nat → Nat → Int32} {P : Nat → Nat → Option Nat} {χ : Nat} {o s : Nat} {t k : Int32} (hY : zSys sh P χ) (ho : o < 8) (hs : s ≤ 8) (h1 : F (χ + 34) 1 = nI o) (h2 : F (χ + 34) 2 = nI s) (ht : ¬ cIsThing t = 0) (hk : ¬ k < 0) (h : k < bSubs (zsub F (χ + 1)) t) : zMet yX6_forbid wsX6_forbid (6) (17) (497) [.ref χ, .int t, .int k] sh F P (some (.int (bSub (zsub F (χ + 1)) t k))) (tS sh P χ ((o + s) % 8)) (zput (tF F P χ o s) (χ + 1) 9 (tFind (bRem (zsub F (χ + 1)) t k))) (tP P χ ((o + s) % 8)) := by
  refine zMet.of (by decide) rfl (Nat.le_of_ble_eq_true rfl) (by simp [Value.category]) ?_
  intro X ρ
  show AW m1X6_forbid X (zMQ m1X6_forbid X (some (.int (bSub (zsub F (χ + 1)) t k))) (tS sh P χ ((o + s) % 8)) (zput (tF F P χ o s) (χ + 1) 9 (tFind (bRem (zsub F (χ + 1)) t k))) (tP P χ ((o + s) % 8))) 0 [some (.ref χ), some (.int t), some (.int k), none] [] ρ sh F P 0 0
  have hinX6 : ∀ w ∈ u_ws RX6 TX6 11, w ∈ wsX6_forbid := by decide +kernel
  obtain ⟨⟨ts, tp0, tp1, tp2, tp3, tp4, tp5, tp6, tp7, ti, tx⟩, hB, hD, hS, hW, hH, hR, hPl, hIm⟩ := id hY
  have hb0 := hB.1
  have hd0 := hD.1
  obtain ⟨hs0, ⟨sp0, sp1, sp2, sp3, sp4, sp5⟩, sh1, sh2, sh3, sh4, sh5, sh6⟩ := id hS
  have hw0 := hW.1
  have hh0 := hH.1
  have hr0 := hR.1
  have wp0 := hW.2.1
  have hwb := hW.st
  refine aw_iload_1 dX6_forbid_0 ?_
  refine aw_run (zRun_S (c_X6_isThing ) (Or.inl gX6_forbid_X6_isThing) q_X6_isThing (by decide) rfl rfl (Nat.le_of_ble_eq_true rfl) dX6_forbid_1 ⟨by decide, by decide⟩) ?_
  refine aw_if_eq (tgt := 23) dX6_forbid_4 (by decide) (fun c4 => absurd c4 ht) (fun c4 => ?_)
  refine aw_iload_2 dX6_forbid_7 ?_
  refine aw_if_lt (tgt := 23) dX6_forbid_8 (by decide) (fun c8 => absurd c8 hk) (fun c8 => ?_)
  refine aw_iload_2 dX6_forbid_11 ?_
  refine aw_aload_0 dX6_forbid_12 ?_
  refine aw_getR fX6_0 (fun _ _ => rfl) (by assumption) hinX6 (by decide +kernel : Cond.fieldLink RX6 10 RX6 (TX6 0).2.1 (TX6 0).2.2.1 ∈ wsX6_forbid) (by assumption) dX6_forbid_13 ?_
  refine aw_iload_1 dX6_forbid_16 ?_
  refine aw_run (zRun_V (c_X0_substitutesOf (by assumption)) gX6_forbid_X0_substitutesOf q_X0_substitutesOf rfl (by decide) rfl (by assumption) rfl rfl (Nat.le_of_ble_eq_true rfl) dX6_forbid_17 ⟨by decide, by decide⟩) ?_
  refine aw_icmp_lt (tgt := 25) dX6_forbid_20 (by decide) (fun c20 => ?_) (fun c20 => absurd h c20)
  refine aw_aload_0 dX6_forbid_25 ?_
  refine aw_getR fX6_4 (fun _ _ => rfl) (by assumption) hinX6 (by decide +kernel : Cond.fieldLink RX6 36 RX6 (TX6 4).2.1 (TX6 4).2.2.1 ∈ wsX6_forbid) (by assumption) dX6_forbid_26 ?_
  refine aw_aload_0 dX6_forbid_29 ?_
  refine aw_getR fX6_0 (fun _ _ => rfl) (by assumption) hinX6 (by decide +kernel : Cond.fieldLink RX6 10 RX6 (TX6 0).2.1 (TX6 0).2.2.1 ∈ wsX6_forbid) (by assumption) dX6_forbid_30 ?_
  refine aw_aload_0 dX6_forbid_33 ?_
  refine aw_getR fX6_2 (fun _ _ => rfl) (by assumption) hinX6 (by decide +kernel : Cond.fieldLink RX6 22 RX6 (TX6 2).2.1 (TX6 2).2.2.1 ∈ wsX6_forbid) (by assumption) dX6_forbid_34 ?_
  refine aw_runAv (zRun_V (c_rem hY ho hs h1 h2) gX6_forbid_X1_remember q_X1_remember rfl (by decide) rfl (by assumption) rfl rfl (Nat.le_of_ble_eq_true rfl) dX6_forbid_37 ⟨by decide, by decide⟩) (by refine ⟨fun j hj => ?_, fun j hj => ?_⟩ <;> (left; simp at hj <;> (first | (rcases hj with hj | hj | hj) | (rcases hj with hj | hj) | skip) <;> (try rw [hj]) <;> (first | (rw [ts]; simp) | (rw [hb0]; simp) | (rw [hs0]; simp) | (rw [hh0]; simp) | (rw [hw0]; simp)))) (fun ρ => ?_)
  have hYT := hY.trm (a := o + s)
  generalize tS sh P χ ((o + s) % 8) = sT at hYT  ⊢
  generalize tP P χ ((o + s) % 8) = pT at hYT  ⊢
  obtain ⟨⟨ts, tp0, tp1, tp2, tp3, tp4, tp5, tp6, tp7, ti, tx⟩, hB, hD, hS, hW, hH, hR, hPl, hIm⟩ := id hYT
  have hb0 := hB.1
  have hd0 := hD.1
  obtain ⟨hs0, ⟨sp0, sp1, sp2, sp3, sp4, sp5⟩, sh1, sh2, sh3, sh4, sh5, sh6⟩ := id hS
  have hw0 := hW.1
  have hh0 := hH.1
  have hr0 := hR.1
  have wp0 := hW.2.1
  have hwb := hW.st
  refine aw_aload_0 dX6_forbid_40 ?_
  refine aw_getR fX6_0 (fun _ _ => rfl) (by assumption) hinX6 (by decide +kernel : Cond.fieldLink RX6 10 RX6 (TX6 0).2.1 (TX6 0).2.2.1 ∈ wsX6_forbid) (by assumption) dX6_forbid_41 ?_
  refine aw_iload_1 dX6_forbid_44 ?_
  refine aw_iload_2 dX6_forbid_45 ?_
  refine aw_run (zRun_V (v_X0_substituteAt hB tF_B) gX6_forbid_X0_substituteAt q_X0_substituteAt rfl (by decide) rfl (by assumption) rfl rfl (Nat.le_of_ble_eq_true rfl) dX6_forbid_46 ⟨by decide, by decide⟩) ?_
  refine aw_istore_3 dX6_forbid_49 ?_
  refine aw_aload_0 dX6_forbid_50 ?_
  refine aw_getR fX6_0 (fun _ _ => rfl) (by assumption) hinX6 (by decide +kernel : Cond.fieldLink RX6 10 RX6 (TX6 0).2.1 (TX6 0).2.2.1 ∈ wsX6_forbid) (by assumption) dX6_forbid_51 ?_
  refine aw_iload_1 dX6_forbid_54 ?_
  refine aw_iload_2 dX6_forbid_55 ?_
  refine aw_runv (zRun_V (v_X0_removeSubstitute hB tF_B hk (Int32.not_le.mpr h)) gX6_forbid_X0_removeSubstitute q_X0_removeSubstitute rfl (by decide) rfl (by assumption) rfl rfl (Nat.le_of_ble_eq_true rfl) dX6_forbid_56 ⟨by decide, by decide⟩) ?_
  refine aw_aload_0 dX6_forbid_59 ?_
  refine aw_getR fX6_0 (fun _ _ => rfl) (by assumption) hinX6 (by decide +kernel : Cond.fieldLink RX6 10 RX6 (TX6 0).2.1 (TX6 0).2.2.1 ∈ wsX6_forbid) (by assumption) dX6_forbid_60 ?_
  refine aw_run (zRun_V (v_X0_findRanks hB zVw.put) gX6_forbid_X0_findRanks q_X0_findRanks rfl (by decide) rfl (by assumption) rfl rfl (Nat.le_of_ble_eq_true rfl) dX6_forbid_63 ⟨by decide, by decide⟩) ?_
  rw [zput_zput]
  refine aw_pop rfl dX6_forbid_66 ?_
  refine aw_iload_3 dX6_forbid_67 ?_
  exact aw_ireturn rfl dX6_forbid_68 (by decide) (by first | rfl | simp [c4, c8, c20]) rfl rfl rfl

