/-! ===== 72.law3: the accounts, by the law ===== -/
def pIs (w : Nat → Int32) (t : Nat) : Nat := if eWy w t = 0 then 0 else 1
def pSet (B : pM) (n : Nat) : Int32 := it (fun i s => if bMade B (nI i) = 0 then s else s ||| ((1 : Int32) <<< (nI i &&& 31))) n 0
def pMx (B : pM) (n : Nat) : Int32 := it (fun i g => cMax g (bRank B (nI i))) n 0
section ACC
variable {v : pV} {N : Nat} {w : Nat → Int32} {k : Nat}
theorem pIs_2 (h : bInv (pvB v) w) (hk : k < 20) : (pTh v k 2 ≤ 0 → nI (pIs w k) = 0) ∧ ((¬ pTh v k 2 ≤ 0) → nI (pIs w k) = 1) := by
  show ((if bMade (pvB v) (nI k) = 0 then -9 else bYield (pvB v) (nI k)) ≤ 0 → _) ∧ _
  unfold pIs
  have e : pTh v k 2 = if bMade (pvB v) (nI k) = 0 then -9 else bYield (pvB v) (nI k) := rfl
  rw [e, h.1.made hk, h.1.yield hk]
  have := (h.1.1 k hk).1.2
  by_cases c : eWy w k = 0
  · rw [if_pos c, if_pos rfl, if_pos c]
    exact ⟨fun _ => rfl, fun h => absurd (by decide) h⟩
  · rw [if_neg c, if_neg (by decide), if_neg c]
    exact ⟨fun h => absurd h (nI_nle (by omega) (by omega)), fun _ => rfl⟩
theorem pIs_1 (h : bInv (pvB v) w) (hk : k < 20) : (pTh v k 1 ≤ 0 → nI (pIs w k) = 0) ∧ ((¬ pTh v k 1 ≤ 0) → nI (pIs w k) = 1) := by
  have e : pTh v k 1 = nI (nRs w 12 k) := h.rank hk
  have h8 := (h.2.1 k hk).2
  rw [e]
  unfold pIs
  have hf := h.fix hk
  unfold nRk at hf
  by_cases c : eWy w k = 0
  · rw [if_pos c] at hf ⊢
    rw [hf]
    exact ⟨fun _ => rfl, fun h => absurd (by decide) h⟩
  · rw [if_neg c] at hf ⊢
    exact ⟨fun h => absurd h (nI_nle (by omega) (by omega)), fun _ => rfl⟩
theorem pIs_3 (h : bInv (pvB v) w) (hk : k < 20) : (pTh v k 3 ≤ 0 → nI (pIs w k) = 0) ∧ ((¬ pTh v k 3 ≤ 0) → nI (pIs w k) = 1) := by
  have e : pTh v k 3 = if bMade (pvB v) (nI k) = 0 then -9 else bIngs (pvB v) (nI k) := rfl
  unfold pIs
  rw [e, h.1.made hk, h.1.ings hk]
  have := (h.1.1 k hk).2.1.2
  by_cases c : eWy w k = 0
  · rw [if_pos c, if_pos rfl, if_pos c]
    exact ⟨fun _ => rfl, fun h => absurd (by decide) h⟩
  · rw [if_neg c, if_neg (by decide), if_neg c]
    have := h.2.2.2.1 k hk c
    exact ⟨fun h => absurd h (nI_nle (by omega) (by omega)), fun _ => rfl⟩
theorem pAcc_id (h : sOk (pvS v) N) (hk : k < 20) : pTh v k 0 = pTh v k 6 + pTh v k 7 + pTh v k 9 + pTh v k 10 - pTh v k 8 := by
  have := h.2.1 k hk
  show pvS v 1 k = pvS v 2 k + pvS v 3 k + pvS v 5 k + pvS v 6 k - pvS v 4 k
  rw [← this]
  generalize pvS v 1 k = a, pvS v 2 k = b, pvS v 3 k = c, pvS v 4 k = d, pvS v 5 k = e
  grind
theorem pAcc_rg (h : sOk (pvS v) N) (hk : k < 20) : ¬ pTh v k 0 < 0 ∧ ¬ 99999 < pTh v k 0 := by
  obtain ⟨a, ha, e⟩ := h.1 k hk
  have e' : pTh v k 0 = nI a := e
  rw [e']
  exact ⟨nI_pos (by omega), nI_nlt (a := 99999) ha (by decide)⟩
theorem pVes (h : bInv (pvB v) w) (hk : k < 20) : pTh v k 4 = -9 ∨ ∃ u, u < 20 ∧ u ≠ k ∧ pTh v k 4 = nI u ∧ pTh v u 4 = -9 := h.ves hk
theorem pVes_k (h : bInv (pvB v) w) (hk : k < 20) : ¬ pTh v k 4 = nI k := by
  rcases pVes h hk with e | ⟨u, hu, hne, e, -⟩
  · rw [e]
    intro e2
    have := nI_pos (n := k) (by omega)
    rw [← e2] at this
    exact this (by decide)
  · rw [e]
    exact fun e2 => hne ((nI_eq (by omega) (by omega)).mp e2)
theorem pSet_s {B : pM} {n : Nat} : pSet B (n + 1) = if bMade B (nI n) = 0 then pSet B n else pSet B n ||| ((1 : Int32) <<< (nI n &&& 31)) := rfl
theorem pMx_s {B : pM} {n : Nat} : pMx B (n + 1) = cMax (pMx B n) (bRank B (nI n)) := rfl
theorem pIs_m (h : bInv (pvB v) w) (hk : k < 20) : bMade (pvB v) (nI k) = nI (pIs w k) := by
  rw [h.1.made hk]
  unfold pIs
  split <;> rfl
end ACC

abbrev mL_areAccounts : ZM := (cL_areAccounts, RL, wsL_areAccounts, 6, 0, 0, (some .boolean), 12, yL_areAccounts.name)
set_option maxHeartbeats 1000000 in
set_option maxRecDepth 100000 in
theorem c_L_areAccounts {sh : zSh} {F : Nat → Nat → Int32} {P : Nat → Nat → Option Nat} {χ N : Nat} {v : pV} {w : Nat → Int32} (hL : pLI sh F P χ v) (hB : bInv (pvB v) w) (hS : sOk (pvS v) N) (hN : N ≤ 100000000) : zMet yL_areAccounts wsL_areAccounts (6) (0) (0) [.ref χ] sh F P (some (.int 1)) sh F P := by
  refine zMet.of (by decide) rfl (Nat.le_of_ble_eq_true rfl) (by simp [Value.category]) ?_
  intro X ρ
  show AW mL_areAccounts X (zMQ mL_areAccounts X (some (.int 1)) sh F P) 0 [some (.ref χ), none, none, none, none, none, none, none, none, none, none, none] [] ρ sh F P 0 0
  have hs := hL.1.1.1
  obtain ⟨g, M, hg, hM, hb⟩ : ∃ g M, cSum (pvS v 2) 20 = nI g ∧ cSum (pvS v 3) 20 = nI M ∧ g + M < 2147483648 := by
    obtain ⟨-, -, g, M, h3, h4, h5⟩ := hS
    exact ⟨g, M, h3, h4, by omega⟩
  have hsh : FP.fcmp (eShare (nI g) (nI (g + M))) (eShare (nI g) (nI (g + M))) = some .eq := fCmp32 (eShare_nn hb)
  obtain ⟨mx, hmx, emx⟩ := eGreatN hB 20 (Nat.le_refl _)
  have L18 : ∀ (m k : Nat) (o8 o9 o10 o11 : Option Value), k ≤ 20 → 20 - k = m → AW mL_areAccounts X (zMQ mL_areAccounts X (some (.int 1)) sh F P) 18 [some (.ref χ), some (.int (cSum (pvS v 1) k)), some (.int (cSum (pvS v 2) k)), some (.int (cSum (pvS v 3) k)), some (.int (nI (eCntN (pIs w) k))), some (.int (pSet (pvB v) k)), some (.int (pMx (pvB v) k)), some (.int (nI k)), o8, o9, o10, o11] [] ρ sh F P 0 0 := by
    intro m
    induction m using Nat.strongRecOn with
    | _ m ih =>
    intro k o8 o9 o10 o11 hk hm
    refine aw_iload_7 dL_areAccounts_18 ?_
    refine aw_bipush (v := 20) dL_areAccounts_20 (by decide) ?_
    refine aw_icmp_ge (tgt := 305) dL_areAccounts_22 (by decide) (fun c22 => ?_) (fun c22 => ?_)
    · have hk20 := zend (n := 20) hk (by decide) c22
      subst hk20
      refine aw_aload_0 dL_areAccounts_305 ?_
      refine aw_iconst (v := 0) dL_areAccounts_306 (by decide) ?_
      refine aw_run (zRun_V (a_told (w := 0) hL (by decide)) gL_areAccounts_X6_told q_X6_told rfl (by decide) rfl hs rfl rfl (Nat.le_of_ble_eq_true rfl) dL_areAccounts_307 ⟨Nat.le_refl _, Nat.le_refl _⟩) ?_
      refine aw_iload_4 dL_areAccounts_310 ?_
      refine aw_icmp_ne (tgt := 375) dL_areAccounts_312 (by decide) (fun c312 => absurd c312 (fun e => e (eMadeC hB.1))) (fun c312 => ?_)
      refine aw_aload_0 dL_areAccounts_315 ?_
      refine aw_iconst (v := 1) dL_areAccounts_316 (by decide) ?_
      refine aw_run (zRun_V (a_told (w := 1) hL (by decide)) gL_areAccounts_X6_told q_X6_told rfl (by decide) rfl hs rfl rfl (Nat.le_of_ble_eq_true rfl) dL_areAccounts_317 ⟨Nat.le_refl _, Nat.le_refl _⟩) ?_
      refine aw_iload_1 dL_areAccounts_320 ?_
      refine aw_icmp_ne (tgt := 375) dL_areAccounts_321 (by decide) (fun c321 => absurd c321 (fun e => e rfl)) (fun c321 => ?_)
      refine aw_aload_0 dL_areAccounts_324 ?_
      refine aw_iconst (v := 2) dL_areAccounts_325 (by decide) ?_
      refine aw_run (zRun_V (a_told (w := 2) hL (by decide)) gL_areAccounts_X6_told q_X6_told rfl (by decide) rfl hs rfl rfl (Nat.le_of_ble_eq_true rfl) dL_areAccounts_326 ⟨Nat.le_refl _, Nat.le_refl _⟩) ?_
      refine aw_iload_2 dL_areAccounts_329 ?_
      refine aw_icmp_ne (tgt := 375) dL_areAccounts_330 (by decide) (fun c330 => absurd c330 (fun e => e rfl)) (fun c330 => ?_)
      refine aw_aload_0 dL_areAccounts_333 ?_
      refine aw_iconst (v := 4) dL_areAccounts_334 (by decide) ?_
      refine aw_run (zRun_V (a_told (w := 4) hL (by decide)) gL_areAccounts_X6_told q_X6_told rfl (by decide) rfl hs rfl rfl (Nat.le_of_ble_eq_true rfl) dL_areAccounts_335 ⟨Nat.le_refl _, Nat.le_refl _⟩) ?_
      refine aw_iload_6 dL_areAccounts_338 ?_
      refine aw_icmp_ne (tgt := 375) dL_areAccounts_340 (by decide) (fun c340 => absurd c340 (fun e => e rfl)) (fun c340 => ?_)
      refine aw_aload_0 dL_areAccounts_343 ?_
      refine aw_iconst (v := 5) dL_areAccounts_344 (by decide) ?_
      refine aw_run (zRun_V (a_told (w := 5) hL (by decide)) gL_areAccounts_X6_told q_X6_told rfl (by decide) rfl hs rfl rfl (Nat.le_of_ble_eq_true rfl) dL_areAccounts_345 ⟨Nat.le_refl _, Nat.le_refl _⟩) ?_
      refine aw_iload_5 dL_areAccounts_348 ?_
      refine aw_icmp_ne (tgt := 375) dL_areAccounts_350 (by decide) (fun c350 => absurd c350 (fun e => e rfl)) (fun c350 => ?_)
      refine aw_iload_6 dL_areAccounts_353 ?_
      refine aw_bipush (v := 8) dL_areAccounts_355 (by decide) ?_
      refine aw_icmp_gt (tgt := 375) dL_areAccounts_357 (by decide) (fun c357 => absurd c357 (show ¬ 8 < pMx (pvB v) 20 from (by rw [show pMx (pvB v) 20 = nI mx from emx]; exact nI_nlt (a := 8) hmx (by decide)))) (fun c357 => ?_)
      refine aw_aload_0 dL_areAccounts_360 ?_
      refine aw_bipush (v := 20) dL_areAccounts_361 (by decide) ?_
      refine aw_iconst (v := 0) dL_areAccounts_363 (by decide) ?_
      refine aw_run (zRun_V (a_thingX hL) gL_areAccounts_X6_thing q_X6_thing rfl (by decide) rfl hs rfl rfl (Nat.le_of_ble_eq_true rfl) dL_areAccounts_364 ⟨Nat.le_refl _, Nat.le_refl _⟩) ?_
      refine aw_iconst (v := (-1)) dL_areAccounts_367 (by decide) ?_
      refine aw_icmp_ne (tgt := 375) dL_areAccounts_368 (by decide) (fun c368 => absurd c368 (fun e => e rfl)) (fun c368 => ?_)
      refine aw_iconst (v := 1) dL_areAccounts_371 (by decide) ?_
      refine aw_goto (tgt := 376) dL_areAccounts_372 (by decide) ?_
      refine aw_istore_7 dL_areAccounts_376 ?_
      refine aw_iload_7 dL_areAccounts_378 ?_
      refine aw_if_eq (tgt := 412) dL_areAccounts_380 (by decide) (fun c380 => absurd c380 (by decide)) (fun c380 => ?_)
      refine aw_aload_0 dL_areAccounts_383 ?_
      refine aw_run (zRun_V (a_share hL hg hM hb) gL_areAccounts_X6_share q_X6_share rfl (by decide) rfl hs rfl rfl (Nat.le_of_ble_eq_true rfl) dL_areAccounts_384 ⟨Nat.le_refl _, Nat.le_refl _⟩) ?_
      rw [hg, hM]
      refine aw_iload_2 dL_areAccounts_387 ?_
      refine aw_iload_3 dL_areAccounts_388 ?_
      refine aw_iadd dL_areAccounts_389 ?_
      rw [nI_add]
      refine aw_if_ne (tgt := 397) dL_areAccounts_390 (by decide) (fun c390 => ?_) (fun c390 => ?_)
      · refine aw_iload_2 dL_areAccounts_397 ?_
        refine aw_i2f dL_areAccounts_398 ?_
        refine aw_iload_2 dL_areAccounts_399 ?_
        refine aw_iload_3 dL_areAccounts_400 ?_
        refine aw_iadd dL_areAccounts_401 ?_
        rw [nI_add]
        refine aw_i2f dL_areAccounts_402 ?_
        refine aw_fdiv (fShare_n c390 hb) dL_areAccounts_403 ?_
        first | rw [show FP.fdiv (FP.i2f (nI g)) (FP.i2f (nI (g + M))) = eShare (nI g) (nI (g + M)) from (by unfold eShare; rw [if_neg c390])] | rw [show FP.fconst0 = eShare (nI g) (nI (g + M)) from (by unfold eShare; rw [if_pos c390])]
        refine aw_fcmp dL_areAccounts_404 ?_
        rw [hsh]
        refine aw_if_ne (tgt := 412) dL_areAccounts_405 (by decide) (fun c405 => absurd c405 (fun e => e rfl)) (fun c405 => ?_)
        refine aw_iconst (v := 1) dL_areAccounts_408 (by decide) ?_
        refine aw_goto (tgt := 413) dL_areAccounts_409 (by decide) ?_
        exact aw_zreturn rfl dL_areAccounts_413 ⟨Nat.zero_le _, Nat.zero_le _⟩ (by decide) rfl rfl rfl rfl
      · refine aw_fconst0 dL_areAccounts_393 ?_
        refine aw_goto (tgt := 404) dL_areAccounts_394 (by decide) ?_
        first | rw [show FP.fdiv (FP.i2f (nI g)) (FP.i2f (nI (g + M))) = eShare (nI g) (nI (g + M)) from (by unfold eShare; rw [if_neg c390])] | rw [show FP.fconst0 = eShare (nI g) (nI (g + M)) from (by unfold eShare; rw [if_pos c390])]
        refine aw_fcmp dL_areAccounts_404 ?_
        rw [hsh]
        refine aw_if_ne (tgt := 412) dL_areAccounts_405 (by decide) (fun c405 => absurd c405 (fun e => e rfl)) (fun c405 => ?_)
        refine aw_iconst (v := 1) dL_areAccounts_408 (by decide) ?_
        refine aw_goto (tgt := 413) dL_areAccounts_409 (by decide) ?_
        exact aw_zreturn rfl dL_areAccounts_413 ⟨Nat.zero_le _, Nat.zero_le _⟩ (by decide) rfl rfl rfl rfl
    · have hlt : k < 20 := zlt (n := 20) hk (by decide) c22
      obtain ⟨i20, i21⟩ := pIs_2 hB hlt
      obtain ⟨i10, i11⟩ := pIs_1 hB hlt
      obtain ⟨i30, i31⟩ := pIs_3 hB hlt
      have hves := pVes hB hlt
      refine aw_aload_0 dL_areAccounts_25 ?_
      refine aw_iload_7 dL_areAccounts_26 ?_
      refine aw_iconst (v := 0) dL_areAccounts_28 (by decide) ?_
      refine aw_run (zRun_V (a_thing (w := 0) hL hlt (by decide)) gL_areAccounts_X6_thing q_X6_thing rfl (by decide) rfl hs rfl rfl (Nat.le_of_ble_eq_true rfl) dL_areAccounts_29 ⟨Nat.le_refl _, Nat.le_refl _⟩) ?_
      refine aw_istore_8 dL_areAccounts_32 ?_
      refine aw_aload_0 dL_areAccounts_34 ?_
      refine aw_iload_7 dL_areAccounts_35 ?_
      refine aw_iconst (v := 2) dL_areAccounts_37 (by decide) ?_
      have M49 : AW mL_areAccounts X (zMQ mL_areAccounts X (some (.int 1)) sh F P) 49 [some (.ref χ), some (.int (cSum (pvS v 1) k)), some (.int (cSum (pvS v 2) k)), some (.int (cSum (pvS v 3) k)), some (.int (nI (eCntN (pIs w) k))), some (.int (pSet (pvB v) k)), some (.int (pMx (pvB v) k)), some (.int (nI k)), some (.int (pTh v k 0)), o9, o10, o11] [.int (nI (pIs w k))] ρ sh F P 0 0 := by
        refine aw_istore_9 dL_areAccounts_49 ?_
        refine aw_iload_1 dL_areAccounts_51 ?_
        refine aw_iload_8 dL_areAccounts_52 ?_
        refine aw_iadd dL_areAccounts_54 ?_
        show AW _ _ _ 55 _ [.int (cSum (pvS v 1) (k + 1))] _ _ _ _ _ _
        refine aw_istore_1 dL_areAccounts_55 ?_
        refine aw_iload_2 dL_areAccounts_56 ?_
        refine aw_aload_0 dL_areAccounts_57 ?_
        refine aw_iload_7 dL_areAccounts_58 ?_
        refine aw_bipush (v := 6) dL_areAccounts_60 (by decide) ?_
        refine aw_run (zRun_V (a_thing (w := 6) hL hlt (by decide)) gL_areAccounts_X6_thing q_X6_thing rfl (by decide) rfl hs rfl rfl (Nat.le_of_ble_eq_true rfl) dL_areAccounts_62 ⟨Nat.le_refl _, Nat.le_refl _⟩) ?_
        refine aw_iadd dL_areAccounts_65 ?_
        show AW _ _ _ 66 _ [.int (cSum (pvS v 2) (k + 1))] _ _ _ _ _ _
        refine aw_istore_2 dL_areAccounts_66 ?_
        refine aw_iload_3 dL_areAccounts_67 ?_
        refine aw_aload_0 dL_areAccounts_68 ?_
        refine aw_iload_7 dL_areAccounts_69 ?_
        refine aw_bipush (v := 7) dL_areAccounts_71 (by decide) ?_
        refine aw_run (zRun_V (a_thing (w := 7) hL hlt (by decide)) gL_areAccounts_X6_thing q_X6_thing rfl (by decide) rfl hs rfl rfl (Nat.le_of_ble_eq_true rfl) dL_areAccounts_73 ⟨Nat.le_refl _, Nat.le_refl _⟩) ?_
        refine aw_iadd dL_areAccounts_76 ?_
        show AW _ _ _ 77 _ [.int (cSum (pvS v 3) (k + 1))] _ _ _ _ _ _
        refine aw_istore_3 dL_areAccounts_77 ?_
        refine aw_iload_9 dL_areAccounts_78 ?_
        have M92 : AW mL_areAccounts X (zMQ mL_areAccounts X (some (.int 1)) sh F P) 92 [some (.ref χ), some (.int (cSum (pvS v 1) (k + 1))), some (.int (cSum (pvS v 2) (k + 1))), some (.int (cSum (pvS v 3) (k + 1))), some (.int (nI (eCntN (pIs w) k))), some (.int (pSet (pvB v) k)), some (.int (pMx (pvB v) k)), some (.int (nI k)), some (.int (pTh v k 0)), some (.int (nI (pIs w k))), o10, o11] [.int (nI (eCntN (pIs w) (k + 1)))] ρ sh F P 0 0 := by
          refine aw_istore_4 dL_areAccounts_92 ?_
          refine aw_iload_9 dL_areAccounts_94 ?_
          have M111 : AW mL_areAccounts X (zMQ mL_areAccounts X (some (.int 1)) sh F P) 111 [some (.ref χ), some (.int (cSum (pvS v 1) (k + 1))), some (.int (cSum (pvS v 2) (k + 1))), some (.int (cSum (pvS v 3) (k + 1))), some (.int (nI (eCntN (pIs w) (k + 1)))), some (.int (pSet (pvB v) k)), some (.int (pMx (pvB v) k)), some (.int (nI k)), some (.int (pTh v k 0)), some (.int (nI (pIs w k))), o10, o11] [.int (pSet (pvB v) (k + 1))] ρ sh F P 0 0 := by
            refine aw_istore_5 dL_areAccounts_111 ?_
            refine aw_aload_0 dL_areAccounts_113 ?_
            refine aw_iload_7 dL_areAccounts_114 ?_
            refine aw_iconst (v := 1) dL_areAccounts_116 (by decide) ?_
            refine aw_run (zRun_V (a_thing (w := 1) hL hlt (by decide)) gL_areAccounts_X6_thing q_X6_thing rfl (by decide) rfl hs rfl rfl (Nat.le_of_ble_eq_true rfl) dL_areAccounts_117 ⟨Nat.le_refl _, Nat.le_refl _⟩) ?_
            refine aw_iload_6 dL_areAccounts_120 ?_
            have M137 : AW mL_areAccounts X (zMQ mL_areAccounts X (some (.int 1)) sh F P) 137 [some (.ref χ), some (.int (cSum (pvS v 1) (k + 1))), some (.int (cSum (pvS v 2) (k + 1))), some (.int (cSum (pvS v 3) (k + 1))), some (.int (nI (eCntN (pIs w) (k + 1)))), some (.int (pSet (pvB v) (k + 1))), some (.int (pMx (pvB v) k)), some (.int (nI k)), some (.int (pTh v k 0)), some (.int (nI (pIs w k))), o10, o11] [.int (pMx (pvB v) (k + 1))] ρ sh F P 0 0 := by
              refine aw_istore_6 dL_areAccounts_137 ?_
              refine aw_iload_8 dL_areAccounts_139 ?_
              refine aw_aload_0 dL_areAccounts_141 ?_
              refine aw_iload_7 dL_areAccounts_142 ?_
              refine aw_bipush (v := 6) dL_areAccounts_144 (by decide) ?_
              refine aw_run (zRun_V (a_thing (w := 6) hL hlt (by decide)) gL_areAccounts_X6_thing q_X6_thing rfl (by decide) rfl hs rfl rfl (Nat.le_of_ble_eq_true rfl) dL_areAccounts_146 ⟨Nat.le_refl _, Nat.le_refl _⟩) ?_
              refine aw_aload_0 dL_areAccounts_149 ?_
              refine aw_iload_7 dL_areAccounts_150 ?_
              refine aw_bipush (v := 7) dL_areAccounts_152 (by decide) ?_
              refine aw_run (zRun_V (a_thing (w := 7) hL hlt (by decide)) gL_areAccounts_X6_thing q_X6_thing rfl (by decide) rfl hs rfl rfl (Nat.le_of_ble_eq_true rfl) dL_areAccounts_154 ⟨Nat.le_refl _, Nat.le_refl _⟩) ?_
              refine aw_iadd dL_areAccounts_157 ?_
              refine aw_aload_0 dL_areAccounts_158 ?_
              refine aw_iload_7 dL_areAccounts_159 ?_
              refine aw_bipush (v := 9) dL_areAccounts_161 (by decide) ?_
              refine aw_run (zRun_V (a_thing (w := 9) hL hlt (by decide)) gL_areAccounts_X6_thing q_X6_thing rfl (by decide) rfl hs rfl rfl (Nat.le_of_ble_eq_true rfl) dL_areAccounts_163 ⟨Nat.le_refl _, Nat.le_refl _⟩) ?_
              refine aw_iadd dL_areAccounts_166 ?_
              refine aw_aload_0 dL_areAccounts_167 ?_
              refine aw_iload_7 dL_areAccounts_168 ?_
              refine aw_bipush (v := 10) dL_areAccounts_170 (by decide) ?_
              refine aw_run (zRun_V (a_thing (w := 10) hL hlt (by decide)) gL_areAccounts_X6_thing q_X6_thing rfl (by decide) rfl hs rfl rfl (Nat.le_of_ble_eq_true rfl) dL_areAccounts_172 ⟨Nat.le_refl _, Nat.le_refl _⟩) ?_
              refine aw_iadd dL_areAccounts_175 ?_
              refine aw_aload_0 dL_areAccounts_176 ?_
              refine aw_iload_7 dL_areAccounts_177 ?_
              refine aw_bipush (v := 8) dL_areAccounts_179 (by decide) ?_
              refine aw_run (zRun_V (a_thing (w := 8) hL hlt (by decide)) gL_areAccounts_X6_thing q_X6_thing rfl (by decide) rfl hs rfl rfl (Nat.le_of_ble_eq_true rfl) dL_areAccounts_181 ⟨Nat.le_refl _, Nat.le_refl _⟩) ?_
              refine aw_isub dL_areAccounts_184 ?_
              refine aw_icmp_ne (tgt := 244) dL_areAccounts_185 (by decide) (fun c185 => absurd c185 (fun e => e (pAcc_id hS hlt))) (fun c185 => ?_)
              refine aw_iload_8 dL_areAccounts_188 ?_
              refine aw_if_lt (tgt := 244) dL_areAccounts_190 (by decide) (fun c190 => absurd c190 (pAcc_rg hS hlt).1) (fun c190 => ?_)
              refine aw_iload_8 dL_areAccounts_193 ?_
              refine aw_ldc (v := 99999) (by decide +kernel : Cond.constant RL 68 99999 ∈ wsL_areAccounts) dL_areAccounts_195 ?_
              refine aw_icmp_gt (tgt := 244) dL_areAccounts_197 (by decide) (fun c197 => absurd c197 (pAcc_rg hS hlt).2) (fun c197 => ?_)
              refine aw_iload_9 dL_areAccounts_200 ?_
              refine aw_aload_0 dL_areAccounts_202 ?_
              refine aw_iload_7 dL_areAccounts_203 ?_
              refine aw_iconst (v := 1) dL_areAccounts_205 (by decide) ?_
              refine aw_run (zRun_V (a_thing (w := 1) hL hlt (by decide)) gL_areAccounts_X6_thing q_X6_thing rfl (by decide) rfl hs rfl rfl (Nat.le_of_ble_eq_true rfl) dL_areAccounts_206 ⟨Nat.le_refl _, Nat.le_refl _⟩) ?_
              have M217 : AW mL_areAccounts X (zMQ mL_areAccounts X (some (.int 1)) sh F P) 217 [some (.ref χ), some (.int (cSum (pvS v 1) (k + 1))), some (.int (cSum (pvS v 2) (k + 1))), some (.int (cSum (pvS v 3) (k + 1))), some (.int (nI (eCntN (pIs w) (k + 1)))), some (.int (pSet (pvB v) (k + 1))), some (.int (pMx (pvB v) (k + 1))), some (.int (nI k)), some (.int (pTh v k 0)), some (.int (nI (pIs w k))), o10, o11] [.int (nI (pIs w k)), .int (nI (pIs w k))] ρ sh F P 0 0 := by
                refine aw_icmp_ne (tgt := 244) dL_areAccounts_217 (by decide) (fun c217 => absurd c217 (fun e => e rfl)) (fun c217 => ?_)
                refine aw_iload_9 dL_areAccounts_220 ?_
                refine aw_aload_0 dL_areAccounts_222 ?_
                refine aw_iload_7 dL_areAccounts_223 ?_
                refine aw_iconst (v := 3) dL_areAccounts_225 (by decide) ?_
                refine aw_run (zRun_V (a_thing (w := 3) hL hlt (by decide)) gL_areAccounts_X6_thing q_X6_thing rfl (by decide) rfl hs rfl rfl (Nat.le_of_ble_eq_true rfl) dL_areAccounts_226 ⟨Nat.le_refl _, Nat.le_refl _⟩) ?_
                have M237 : AW mL_areAccounts X (zMQ mL_areAccounts X (some (.int 1)) sh F P) 237 [some (.ref χ), some (.int (cSum (pvS v 1) (k + 1))), some (.int (cSum (pvS v 2) (k + 1))), some (.int (cSum (pvS v 3) (k + 1))), some (.int (nI (eCntN (pIs w) (k + 1)))), some (.int (pSet (pvB v) (k + 1))), some (.int (pMx (pvB v) (k + 1))), some (.int (nI k)), some (.int (pTh v k 0)), some (.int (nI (pIs w k))), o10, o11] [.int (nI (pIs w k)), .int (nI (pIs w k))] ρ sh F P 0 0 := by
                  refine aw_icmp_ne (tgt := 244) dL_areAccounts_237 (by decide) (fun c237 => absurd c237 (fun e => e rfl)) (fun c237 => ?_)
                  refine aw_iconst (v := 1) dL_areAccounts_240 (by decide) ?_
                  refine aw_goto (tgt := 245) dL_areAccounts_241 (by decide) ?_
                  refine aw_istore_10 dL_areAccounts_245 ?_
                  refine aw_aload_0 dL_areAccounts_247 ?_
                  refine aw_iload_7 dL_areAccounts_248 ?_
                  refine aw_iconst (v := 4) dL_areAccounts_250 (by decide) ?_
                  refine aw_run (zRun_V (a_thing (w := 4) hL hlt (by decide)) gL_areAccounts_X6_thing q_X6_thing rfl (by decide) rfl hs rfl rfl (Nat.le_of_ble_eq_true rfl) dL_areAccounts_251 ⟨Nat.le_refl _, Nat.le_refl _⟩) ?_
                  refine aw_istore_11 dL_areAccounts_254 ?_
                  refine aw_iload_10 dL_areAccounts_256 ?_
                  refine aw_if_eq (tgt := 289) dL_areAccounts_258 (by decide) (fun c258 => absurd c258 (by decide)) (fun c258 => ?_)
                  refine aw_iload_11 dL_areAccounts_261 ?_
                  refine aw_iload_7 dL_areAccounts_263 ?_
                  refine aw_icmp_eq (tgt := 289) dL_areAccounts_265 (by decide) (fun c265 => absurd c265 (pVes_k hB hlt)) (fun c265 => ?_)
                  have M290 : AW mL_areAccounts X (zMQ mL_areAccounts X (some (.int 1)) sh F P) 290 [some (.ref χ), some (.int (cSum (pvS v 1) (k + 1))), some (.int (cSum (pvS v 2) (k + 1))), some (.int (cSum (pvS v 3) (k + 1))), some (.int (nI (eCntN (pIs w) (k + 1)))), some (.int (pSet (pvB v) (k + 1))), some (.int (pMx (pvB v) (k + 1))), some (.int (nI k)), some (.int (pTh v k 0)), some (.int (nI (pIs w k))), some (.int 1), some (.int (pTh v k 4))] [.int 1] ρ sh F P 0 0 := by
                    refine aw_istore_10 dL_areAccounts_290 ?_
                    refine aw_iload_10 dL_areAccounts_292 ?_
                    refine aw_if_ne (tgt := 299) dL_areAccounts_294 (by decide) (fun c294 => ?_) (fun c294 => absurd c294 (by decide))
                    refine aw_iinc_7 (v := 1) (by decide) dL_areAccounts_299 ?_
                    refine aw_goto (tgt := 18) dL_areAccounts_302 (by decide) ?_
                    rw [nI_1]
                    exact ih (20 - (k + 1)) (by omega) (k + 1) _ _ _ _ (by omega) rfl
                  refine aw_iload_11 dL_areAccounts_268 ?_
                  refine aw_if_lt (tgt := 285) dL_areAccounts_270 (by decide) (fun c270 => ?_) (fun c270 => ?_)
                  · refine aw_iconst (v := 1) dL_areAccounts_285 (by decide) ?_
                    refine aw_goto (tgt := 290) dL_areAccounts_286 (by decide) ?_
                    exact M290
                  · obtain ⟨u, hu, hne, eu, eu9⟩ := hves.resolve_left (fun e => c270 (by rw [e]; decide))
                    refine aw_aload_0 dL_areAccounts_273 ?_
                    refine aw_iload_11 dL_areAccounts_274 ?_
                    refine aw_top (x' := nI u) eu.symm ?_
                    refine aw_iconst (v := 4) dL_areAccounts_276 (by decide) ?_
                    refine aw_run (zRun_V (a_thing (w := 4) hL hu (by decide)) gL_areAccounts_X6_thing q_X6_thing rfl (by decide) rfl hs rfl rfl (Nat.le_of_ble_eq_true rfl) dL_areAccounts_277 ⟨Nat.le_refl _, Nat.le_refl _⟩) ?_
                    refine aw_bipush (v := (-9)) dL_areAccounts_280 (by decide) ?_
                    refine aw_icmp_ne (tgt := 289) dL_areAccounts_282 (by decide) (fun c282 => absurd c282 (fun e => e eu9)) (fun c282 => ?_)
                    refine aw_iconst (v := 1) dL_areAccounts_285 (by decide) ?_
                    refine aw_goto (tgt := 290) dL_areAccounts_286 (by decide) ?_
                    exact M290
                refine aw_if_le (tgt := 236) dL_areAccounts_229 (by decide) (fun c229 => ?_) (fun c229 => ?_)
                · refine aw_iconst (v := 0) dL_areAccounts_236 (by decide) ?_
                  refine aw_top (x' := nI (pIs w k)) (by first | exact i30 c229 | exact i31 c229) ?_
                  exact M237
                · refine aw_iconst (v := 1) dL_areAccounts_232 (by decide) ?_
                  refine aw_goto (tgt := 237) dL_areAccounts_233 (by decide) ?_
                  refine aw_top (x' := nI (pIs w k)) (by first | exact i30 c229 | exact i31 c229) ?_
                  exact M237
              refine aw_if_le (tgt := 216) dL_areAccounts_209 (by decide) (fun c209 => ?_) (fun c209 => ?_)
              · refine aw_iconst (v := 0) dL_areAccounts_216 (by decide) ?_
                refine aw_top (x' := nI (pIs w k)) (by first | exact i10 c209 | exact i11 c209) ?_
                exact M217
              · refine aw_iconst (v := 1) dL_areAccounts_212 (by decide) ?_
                refine aw_goto (tgt := 217) dL_areAccounts_213 (by decide) ?_
                refine aw_top (x' := nI (pIs w k)) (by first | exact i10 c209 | exact i11 c209) ?_
                exact M217
            refine aw_icmp_le (tgt := 135) dL_areAccounts_122 (by decide) (fun c122 => ?_) (fun c122 => ?_)
            · refine aw_iload_6 dL_areAccounts_135 ?_
              refine aw_top (x' := pMx (pvB v) (k + 1)) (by rw [pMx_s]; unfold cMax; first | exact if_neg (Int32.not_lt.mpr c122) | exact if_pos (Int32.not_le.mp c122)) ?_
              exact M137
            · refine aw_aload_0 dL_areAccounts_125 ?_
              refine aw_iload_7 dL_areAccounts_126 ?_
              refine aw_iconst (v := 1) dL_areAccounts_128 (by decide) ?_
              refine aw_run (zRun_V (a_thing (w := 1) hL hlt (by decide)) gL_areAccounts_X6_thing q_X6_thing rfl (by decide) rfl hs rfl rfl (Nat.le_of_ble_eq_true rfl) dL_areAccounts_129 ⟨Nat.le_refl _, Nat.le_refl _⟩) ?_
              refine aw_goto (tgt := 137) dL_areAccounts_132 (by decide) ?_
              refine aw_top (x' := pMx (pvB v) (k + 1)) (by rw [pMx_s]; unfold cMax; first | exact if_neg (Int32.not_lt.mpr c122) | exact if_pos (Int32.not_le.mp c122)) ?_
              exact M137
          refine aw_if_eq (tgt := 109) dL_areAccounts_96 (by decide) (fun c96 => ?_) (fun c96 => ?_)
          · refine aw_iload_5 dL_areAccounts_109 ?_
            refine aw_top (x' := pSet (pvB v) (k + 1)) (by rw [pSet_s, pIs_m hB hlt]; first | rw [if_pos c96] | rw [if_neg c96]) ?_
            exact M111
          · refine aw_iload_5 dL_areAccounts_99 ?_
            refine aw_iconst (v := 1) dL_areAccounts_101 (by decide) ?_
            refine aw_iload_7 dL_areAccounts_102 ?_
            refine aw_ishl dL_areAccounts_104 ?_
            refine aw_ior dL_areAccounts_105 ?_
            refine aw_goto (tgt := 111) dL_areAccounts_106 (by decide) ?_
            refine aw_top (x' := pSet (pvB v) (k + 1)) (by rw [pSet_s, pIs_m hB hlt]; first | rw [if_pos c96] | rw [if_neg c96]) ?_
            exact M111
        refine aw_if_eq (tgt := 90) dL_areAccounts_80 (by decide) (fun c80 => ?_) (fun c80 => ?_)
        · refine aw_iload_4 dL_areAccounts_90 ?_
          refine aw_top (x' := nI (eCntN (pIs w) (k + 1))) (by show nI (eCntN (pIs w) k + pIs w k) = _; rw [← nI_add]; first | rw [c80, Int32.add_zero] | (rw [show nI (pIs w k) = 1 from (by unfold pIs at c80 ⊢; split at c80; exact absurd rfl c80; rename_i h; rw [if_neg h]; rfl)])) ?_
          exact M92
        · refine aw_iload_4 dL_areAccounts_83 ?_
          refine aw_iconst (v := 1) dL_areAccounts_85 (by decide) ?_
          refine aw_iadd dL_areAccounts_86 ?_
          refine aw_goto (tgt := 92) dL_areAccounts_87 (by decide) ?_
          refine aw_top (x' := nI (eCntN (pIs w) (k + 1))) (by show nI (eCntN (pIs w) k + pIs w k) = _; rw [← nI_add]; first | rw [c80, Int32.add_zero] | (rw [show nI (pIs w k) = 1 from (by unfold pIs at c80 ⊢; split at c80; exact absurd rfl c80; rename_i h; rw [if_neg h]; rfl)])) ?_
          exact M92
      refine aw_run (zRun_V (a_thing (w := 2) hL hlt (by decide)) gL_areAccounts_X6_thing q_X6_thing rfl (by decide) rfl hs rfl rfl (Nat.le_of_ble_eq_true rfl) dL_areAccounts_38 ⟨Nat.le_refl _, Nat.le_refl _⟩) ?_
      refine aw_if_le (tgt := 48) dL_areAccounts_41 (by decide) (fun c41 => ?_) (fun c41 => ?_)
      · refine aw_iconst (v := 0) dL_areAccounts_48 (by decide) ?_
        refine aw_top (x' := nI (pIs w k)) (by first | exact i20 c41 | exact i21 c41) ?_
        exact M49
      · refine aw_iconst (v := 1) dL_areAccounts_44 (by decide) ?_
        refine aw_goto (tgt := 49) dL_areAccounts_45 (by decide) ?_
        refine aw_top (x' := nI (pIs w k)) (by first | exact i20 c41 | exact i21 c41) ?_
        exact M49
  refine aw_iconst (v := 0) dL_areAccounts_0 (by decide) ?_
  refine aw_istore_1 dL_areAccounts_1 ?_
  refine aw_iconst (v := 0) dL_areAccounts_2 (by decide) ?_
  refine aw_istore_2 dL_areAccounts_3 ?_
  refine aw_iconst (v := 0) dL_areAccounts_4 (by decide) ?_
  refine aw_istore_3 dL_areAccounts_5 ?_
  refine aw_iconst (v := 0) dL_areAccounts_6 (by decide) ?_
  refine aw_istore_4 dL_areAccounts_7 ?_
  refine aw_iconst (v := 0) dL_areAccounts_9 (by decide) ?_
  refine aw_istore_5 dL_areAccounts_10 ?_
  refine aw_iconst (v := 0) dL_areAccounts_12 (by decide) ?_
  refine aw_istore_6 dL_areAccounts_13 ?_
  refine aw_iconst (v := 0) dL_areAccounts_15 (by decide) ?_
  refine aw_istore_7 dL_areAccounts_16 ?_
  exact L18 _ 0 _ _ _ _ (Nat.zero_le _) rfl

