/-! ===== 16.run: the recursion of run, take and provide ===== -/
def wSubStep (B : Nat → Nat → Int32) (t : Int32) (j : Nat) (s : Int32 × (Nat → Nat → Int32)) : Int32 × (Nat → Nat → Int32) := if s.1 ≤ 0 then s else (s.1 - wN s.2 (bSub B t (nI j)) s.1, wUse B s.2 (bSub B t (nI j)) s.1)
theorem wSub_stick (B : Nat → Nat → Int32) (t : Int32) (j : Nat) (s : Int32 × (Nat → Nat → Int32)) (h : s.1 ≤ 0) : wSubStep B t j s = s := by
  unfold wSubStep
  rw [if_pos h]
def wSubs (B W : Nat → Nat → Int32) (t n : Int32) : Int32 × (Nat → Nat → Int32) := it (wSubStep B t) (bSubs B t).toNatClampNeg (n - wN W t n, wUse B W t n)
def wTake (prov : Int32 → Int32 → (Nat → Nat → Int32) → (Nat → Nat → Int32)) (B W : Nat → Nat → Int32) (t n : Int32) : Nat → Nat → Int32 :=
  if (wSubs B W t n).1 ≤ 0 then (wSubs B W t n).2
  else if (wSubs B W t n).2 0 2 = 0 then wUse B (prov (bStand B t) (wSubs B W t n).1 (wSubs B W t n).2) (bStand B t) (wSubs B W t n).1
  else (wSubs B W t n).2
def wProv (run : Int32 → Int32 → (Nat → Nat → Int32) → (Nat → Nat → Int32)) (B : Nat → Nat → Int32) (t m : Int32) (W : Nat → Nat → Int32) : Nat → Nat → Int32 := if bMade B t = 0 then wCol W t m else run t (cDivUp m (bYield B t)) W
def wBat (W : Nat → Nat → Int32) (c : Int32) : Nat → Nat → Int32 := va_up W 0 (upd (W 0) 3 (W 0 3 + c))
def wFail (W : Nat → Nat → Int32) : Nat → Nat → Int32 := va_up W 0 (upd (W 0) 2 1)
def wRunStep (run : Int32 → Int32 → (Nat → Nat → Int32) → (Nat → Nat → Int32)) (B : Nat → Nat → Int32) (t c : Int32) (k : Nat) (W : Nat → Nat → Int32) : Nat → Nat → Int32 := if W 0 2 = 0 then wTake (wProv run B) B W (bIng B t (nI k)) (bAmt B t (nI k) * c) else W
def wDone (B : Nat → Nat → Int32) (t c : Int32) (W : Nat → Nat → Int32) : Nat → Nat → Int32 := if W 0 2 = 0 then va_up (wCome W 4 t (bYield B t * c)) 1 (upd (wCome W 4 t (bYield B t * c) 1) 6 (wCome W 4 t (bYield B t * c) 1 6 + c)) else W
def wRun (B : Nat → Nat → Int32) : Nat → Int32 → Int32 → (Nat → Nat → Int32) → (Nat → Nat → Int32)
  | 0, _, c, W => wFail (wBat W c)
  | f + 1, t, c, W => wDone B t c (it (wRunStep (wRun B f) B t c) (bIngs B t).toNatClampNeg (if 500 < wBat W c 0 3 then wFail (wBat W c) else wBat W c))
theorem wFail_2 (W : Nat → Nat → Int32) : ¬ wFail W 0 2 = 0 := by simp [wFail, va_up, upd]
theorem wRun_stick (run : Int32 → Int32 → (Nat → Nat → Int32) → (Nat → Nat → Int32)) (B : Nat → Nat → Int32) (t c : Int32) (k : Nat) (W : Nat → Nat → Int32) (h : W 0 2 ≠ 0) : wRunStep run B t c k W = W := by
  unfold wRunStep
  rw [if_neg h]

abbrev mX5_provide (f : Nat) : ZM := (cX5_provide, RX5, wsX5_provide, 3 * f + 6, 0, 0, none, 5, yX5_provide.name)
set_option maxHeartbeats 1000000 in
set_option maxRecDepth 100000 in
theorem c_X5_provide {f d : Nat} {sh : zSh} {F : Nat → Nat → Int32} {P : Nat → Nat → Option Nat} {ω : Nat} {W : Nat → Nat → Int32} {β : Nat} {B : Nat → Nat → Int32} {t m : Int32} (hW : zWk sh P ω) (hV : zVw F ω 8 W) (hB : zBk sh P β) (hBv : zVw F β 9 B) (hd : ω + 8 ≤ β ∨ β + 9 ≤ ω) (ihR : ∀ {F W : Nat → Nat → Int32} {t c : Int32}, zVw F ω 8 W → zVw F β 9 B → zMet yX5_run wsX5_run (3 * f + 5) 0 0 [.ref ω, .ref β, .int t, .int c, .int (nI d)] sh F P none sh (zput F ω 8 (wRun B f t c W)) P) : zMet yX5_provide wsX5_provide (3 * f + 6) (0) (0) [.ref ω, .ref β, .int t, .int m, .int (nI d)] sh F P (none) sh (zput F ω 8 (wProv (wRun B f) B t m W)) P := by
  refine zMet.of (by decide) rfl (Nat.le_of_ble_eq_true rfl) (by simp [Value.category]) ?_
  intro X ρ
  show AW (mX5_provide f) X (zMQ (mX5_provide f) X (none) sh (zput F ω 8 (wProv (wRun B f) B t m W)) P) 0 [some (.ref ω), some (.ref β), some (.int t), some (.int m), some (.int (nI d))] [] ρ sh F P 0 0
  obtain ⟨ws0, wp0, ws1, ⟨bp0, bp1, bp2, bp3, bp4, bp5⟩, ws2, ws3, ws4, ws5, ws6, ws7⟩ := id hW
  have hbs := hB.1
  refine aw_cF (F' := zput F ω 8 W) (zput_view hV).symm ?_
  refine aw_aload_1 dX5_provide_0 ?_
  refine aw_iload_2 dX5_provide_1 ?_
  refine aw_run (zRun_V (v_X0_isMade hB (by first | exact hBv | exact hBv.out (by omega))) gX5_provide_X0_isMade q_X0_isMade rfl (by show _ < 3 * f + 6; omega) rfl (by assumption) rfl rfl (Nat.le_of_ble_eq_true rfl) dX5_provide_2 ⟨Nat.le_refl _, Nat.le_refl _⟩) ?_
  refine aw_if_eq (tgt := 28) dX5_provide_5 (by decide) (fun c5 => ?_) (fun c5 => ?_)
  · refine aw_aload_0 dX5_provide_28 ?_
    refine aw_iload_2 dX5_provide_29 ?_
    refine aw_iload_3 dX5_provide_30 ?_
    refine aw_runv (zRun_V (c_X5_collect hW zVw.put) gX5_provide_X5_collect q_X5_collect rfl (by show _ < 3 * f + 6; omega) rfl (by assumption) rfl rfl (Nat.le_of_ble_eq_true rfl) dX5_provide_31 ⟨Nat.le_refl _, Nat.le_refl _⟩) ?_
    exact aw_return rfl dX5_provide_34 ⟨Nat.zero_le _, Nat.zero_le _⟩ rfl rfl (by rw [zput_zput]; unfold wProv; (first | rw [if_pos c5] | rw [if_neg c5])) rfl
  · refine aw_aload_0 dX5_provide_8 ?_
    refine aw_aload_1 dX5_provide_9 ?_
    refine aw_iload_2 dX5_provide_10 ?_
    refine aw_iload_3 dX5_provide_11 ?_
    refine aw_aload_1 dX5_provide_12 ?_
    refine aw_iload_2 dX5_provide_13 ?_
    refine aw_run (zRun_V (v_X0_yieldOf hB (by first | exact hBv | exact hBv.out (by omega))) gX5_provide_X0_yieldOf q_X0_yieldOf rfl (by show _ < 3 * f + 6; omega) rfl (by assumption) rfl rfl (Nat.le_of_ble_eq_true rfl) dX5_provide_14 ⟨Nat.le_refl _, Nat.le_refl _⟩) ?_
    refine aw_run (zRun_SN (qn := 19) (c_X6_divideUp ) gX5_provide_X6_divideUp_n66 rfl (by decide +kernel : Cond.static yX6_divideUp ∈ wsX5_provide) (by decide +kernel : Cond.initialized yX6_divideUp.cls ∈ wsX5_provide) q_X6_divideUp (by show _ < 3 * f + 6; omega) rfl rfl (Nat.le_of_ble_eq_true rfl) dX5_provide_17 ⟨Nat.le_refl _, Nat.le_refl _⟩) ?_
    refine aw_iload_4 dX5_provide_20 ?_
    refine aw_runv (zRun_V (ihR zVw.put (by first | exact hBv | exact hBv.out (by omega))) gX5_provide_X5_run q_X5_run rfl (by show _ < 3 * f + 6; omega) rfl (by assumption) rfl rfl (Nat.le_of_ble_eq_true rfl) dX5_provide_22 ⟨Nat.le_refl _, Nat.le_refl _⟩) ?_
    refine aw_goto (tgt := 34) dX5_provide_25 (by decide) ?_
    exact aw_return rfl dX5_provide_34 ⟨Nat.zero_le _, Nat.zero_le _⟩ rfl rfl (by rw [zput_zput]; unfold wProv; (first | rw [if_pos c5] | rw [if_neg c5])) rfl

abbrev mX5_take (f : Nat) : ZM := (cX5_take, RX5, wsX5_take, 3 * f + 7, 0, 0, none, 8, yX5_take.name)
set_option maxHeartbeats 1000000 in
set_option maxRecDepth 100000 in
theorem c_X5_take {f d : Nat} {sh : zSh} {F : Nat → Nat → Int32} {P : Nat → Nat → Option Nat} {ω : Nat} {W : Nat → Nat → Int32} {β : Nat} {B : Nat → Nat → Int32} {t n : Int32} (hW : zWk sh P ω) (hV : zVw F ω 8 W) (hB : zBk sh P β) (hBv : zVw F β 9 B) (hd : ω + 8 ≤ β ∨ β + 9 ≤ ω) (ihP : ∀ {F W : Nat → Nat → Int32} {t m : Int32}, zVw F ω 8 W → zVw F β 9 B → zMet yX5_provide wsX5_provide (3 * f + 6) 0 0 [.ref ω, .ref β, .int t, .int m, .int (nI (d + 1))] sh F P none sh (zput F ω 8 (wProv (wRun B f) B t m W)) P) : zMet yX5_take wsX5_take (3 * f + 7) (0) (0) [.ref ω, .ref β, .int t, .int n, .int (nI d)] sh F P (none) sh (zput F ω 8 (wTake (wProv (wRun B f) B) B W t n)) P := by
  refine zMet.of (by decide) rfl (Nat.le_of_ble_eq_true rfl) (by simp [Value.category]) ?_
  intro X ρ
  show AW (mX5_take f) X (zMQ (mX5_take f) X (none) sh (zput F ω 8 (wTake (wProv (wRun B f) B) B W t n)) P) 0 [some (.ref ω), some (.ref β), some (.int t), some (.int n), some (.int (nI d)), none, none, none] [] ρ sh F P 0 0
  have hinX5 : ∀ w ∈ u_ws RX5 TX5 5, w ∈ wsX5_take := by decide +kernel
  obtain ⟨ws0, wp0, ws1, ⟨bp0, bp1, bp2, bp3, bp4, bp5⟩, ws2, ws3, ws4, ws5, ws6, ws7⟩ := id hW
  have hbs := hB.1
  refine aw_cF (F' := zput F ω 8 W) (zput_view hV).symm ?_
  have L21 : ∀ (m j : Nat) (m' : Int32) (W' : Nat → Nat → Int32), j ≤ (bSubs B t).toNatClampNeg → (bSubs B t).toNatClampNeg - j = m → it (wSubStep B t) j (n - wN W t n, wUse B W t n) = (m', W') → (∀ o7 : Option Value, AW (mX5_take f) X (zMQ (mX5_take f) X (none) sh (zput F ω 8 (wTake (wProv (wRun B f) B) B W t n)) P) 58 [some (.ref ω), some (.ref β), some (.int t), some (.int n), some (.int (nI d)), some (.int (wSubs B W t n).1), some (.int (bSubs B t)), o7] [] ρ sh (zput F ω 8 (wSubs B W t n).2) P 0 0) → AW (mX5_take f) X (zMQ (mX5_take f) X (none) sh (zput F ω 8 (wTake (wProv (wRun B f) B) B W t n)) P) 21 [some (.ref ω), some (.ref β), some (.int t), some (.int n), some (.int (nI d)), some (.int m'), some (.int (bSubs B t)), some (.int (nI j))] [] ρ sh (zput F ω 8 W') P 0 0 := by
    intro m
    induction m using Nat.strongRecOn with
    | _ m ih =>
    intro j m' W' hj hm hst hk
    refine aw_iload_7 dX5_take_21 ?_
    refine aw_iload_6 dX5_take_23 ?_
    refine aw_icmp_ge (tgt := 58) dX5_take_25 (by decide) (fun c25 => ?_) (fun c25 => ?_)
    · first | (rw [show wSubs B W t n = (m', W') from by unfold wSubs; rw [it_stick (p := fun s => s.1 ≤ 0) (wSub_stick B t) (i := j) (by rw [hst]; exact c30) _ hj, hst]] at hk; exact hk _) | (rw [show wSubs B W t n = (m', W') from by unfold wSubs; rw [← zcle hj c25]; exact hst] at hk; exact hk _)
    · have hlt := zclt hj c25
      refine aw_iload_5 dX5_take_28 ?_
      refine aw_if_le (tgt := 58) dX5_take_30 (by decide) (fun c30 => ?_) (fun c30 => ?_)
      · first | (rw [show wSubs B W t n = (m', W') from by unfold wSubs; rw [it_stick (p := fun s => s.1 ≤ 0) (wSub_stick B t) (i := j) (by rw [hst]; exact c30) _ hj, hst]] at hk; exact hk _) | (rw [show wSubs B W t n = (m', W') from by unfold wSubs; rw [← zcle hj c25]; exact hst] at hk; exact hk _)
      · refine aw_iload_5 dX5_take_33 ?_
        refine aw_aload_0 dX5_take_35 ?_
        refine aw_aload_1 dX5_take_36 ?_
        refine aw_aload_1 dX5_take_37 ?_
        refine aw_iload_2 dX5_take_38 ?_
        refine aw_iload_7 dX5_take_39 ?_
        refine aw_run (zRun_V (v_X0_substituteAt hB (by first | exact hBv | exact hBv.out (by omega))) gX5_take_X0_substituteAt q_X0_substituteAt rfl (by show _ < 3 * f + 7; omega) rfl (by assumption) rfl rfl (Nat.le_of_ble_eq_true rfl) dX5_take_41 ⟨Nat.le_refl _, Nat.le_refl _⟩) ?_
        refine aw_iload_5 dX5_take_44 ?_
        refine aw_run (zRun_V (c_X5_useUp hW zVw.put hB (by first | exact hBv | exact hBv.out (by omega)) hd) gX5_take_X5_useUp q_X5_useUp rfl (by show _ < 3 * f + 7; omega) rfl (by assumption) rfl rfl (Nat.le_of_ble_eq_true rfl) dX5_take_46 ⟨Nat.le_refl _, Nat.le_refl _⟩) ?_
        rw [zput_zput]
        refine aw_isub dX5_take_49 ?_
        refine aw_istore_5 dX5_take_50 ?_
        refine aw_iinc_7 (v := 1) (by decide) dX5_take_52 ?_
        refine aw_goto (tgt := 21) dX5_take_55 (by decide) ?_
        rw [nI_1]
        exact ih (_ - (j + 1)) (by omega) (j + 1) _ _ (by omega) rfl (by show wSubStep B t j (it _ j _) = _; rw [hst]; unfold wSubStep; rw [if_neg c30]) hk
  refine aw_iload_3 dX5_take_0 ?_
  refine aw_aload_0 dX5_take_1 ?_
  refine aw_aload_1 dX5_take_2 ?_
  refine aw_iload_2 dX5_take_3 ?_
  refine aw_iload_3 dX5_take_4 ?_
  refine aw_run (zRun_V (c_X5_useUp hW zVw.put hB (by first | exact hBv | exact hBv.out (by omega)) hd) gX5_take_X5_useUp q_X5_useUp rfl (by show _ < 3 * f + 7; omega) rfl (by assumption) rfl rfl (Nat.le_of_ble_eq_true rfl) dX5_take_5 ⟨Nat.le_refl _, Nat.le_refl _⟩) ?_
  rw [zput_zput]
  refine aw_isub dX5_take_8 ?_
  refine aw_istore_5 dX5_take_9 ?_
  refine aw_aload_1 dX5_take_11 ?_
  refine aw_iload_2 dX5_take_12 ?_
  refine aw_run (zRun_V (v_X0_substitutesOf hB (by first | exact hBv | exact hBv.out (by omega))) gX5_take_X0_substitutesOf q_X0_substitutesOf rfl (by show _ < 3 * f + 7; omega) rfl (by assumption) rfl rfl (Nat.le_of_ble_eq_true rfl) dX5_take_13 ⟨Nat.le_refl _, Nat.le_refl _⟩) ?_
  refine aw_istore_6 dX5_take_16 ?_
  refine aw_iconst (v := 0) dX5_take_18 (by decide) ?_
  refine aw_istore_7 dX5_take_19 ?_
  refine L21 _ 0 _ _ (Nat.zero_le _) rfl rfl (fun o7 => ?_)
  refine aw_iload_5 dX5_take_58 ?_
  refine aw_if_le (tgt := 101) dX5_take_60 (by decide) (fun c60 => ?_) (fun c60 => ?_)
  · exact aw_return rfl dX5_take_101 ⟨Nat.zero_le _, Nat.zero_le _⟩ rfl rfl (by unfold wTake; first | rw [if_pos c60] | rw [if_neg c60, if_pos c67] | rw [if_neg c60, if_neg c67]) rfl
  · refine aw_aload_0 dX5_take_63 ?_
    refine aw_getZ fX5_2 hinX5 (by decide +kernel : Cond.fieldLink RX5 26 RX5 (TX5 2).2.1 (TX5 2).2.2.1 ∈ wsX5_take) (by assumption) dX5_take_64 ?_
    rw [zput_a0 (by decide)]
    refine aw_if_ne (tgt := 101) dX5_take_67 (by decide) (fun c67 => ?_) (fun c67 => ?_)
    · exact aw_return rfl dX5_take_101 ⟨Nat.zero_le _, Nat.zero_le _⟩ rfl rfl (by unfold wTake; first | rw [if_pos c60] | rw [if_neg c60, if_pos c67] | rw [if_neg c60, if_neg c67]) rfl
    · refine aw_aload_0 dX5_take_70 ?_
      refine aw_aload_1 dX5_take_71 ?_
      refine aw_iload_2 dX5_take_72 ?_
      refine aw_run (zRun_V (c_X5_standIn hW zVw.put hB (by first | exact hBv | exact hBv.out (by omega)) hd) gX5_take_X5_standIn q_X5_standIn rfl (by show _ < 3 * f + 7; omega) rfl (by assumption) rfl rfl (Nat.le_of_ble_eq_true rfl) dX5_take_73 ⟨Nat.le_refl _, Nat.le_refl _⟩) ?_
      refine aw_istore_7 dX5_take_76 ?_
      refine aw_aload_0 dX5_take_78 ?_
      refine aw_aload_1 dX5_take_79 ?_
      refine aw_iload_7 dX5_take_80 ?_
      refine aw_iload_5 dX5_take_82 ?_
      refine aw_iload_4 dX5_take_84 ?_
      refine aw_iconst (v := 1) dX5_take_86 (by decide) ?_
      refine aw_iadd dX5_take_87 ?_
      rw [nI_1]
      refine aw_runv (zRun_V (ihP zVw.put (by first | exact hBv | exact hBv.out (by omega))) gX5_take_X5_provide q_X5_provide rfl (by show _ < 3 * f + 7; omega) rfl (by assumption) rfl rfl (Nat.le_of_ble_eq_true rfl) dX5_take_88 ⟨Nat.le_refl _, Nat.le_refl _⟩) ?_
      rw [zput_zput]
      refine aw_aload_0 dX5_take_91 ?_
      refine aw_aload_1 dX5_take_92 ?_
      refine aw_iload_7 dX5_take_93 ?_
      refine aw_iload_5 dX5_take_95 ?_
      refine aw_run (zRun_V (c_X5_useUp hW zVw.put hB (by first | exact hBv | exact hBv.out (by omega)) hd) gX5_take_X5_useUp q_X5_useUp rfl (by show _ < 3 * f + 7; omega) rfl (by assumption) rfl rfl (Nat.le_of_ble_eq_true rfl) dX5_take_97 ⟨Nat.le_refl _, Nat.le_refl _⟩) ?_
      rw [zput_zput]
      refine aw_pop rfl dX5_take_100 ?_
      exact aw_return rfl dX5_take_101 ⟨Nat.zero_le _, Nat.zero_le _⟩ rfl rfl (by unfold wTake; first | rw [if_pos c60] | rw [if_neg c60, if_pos c67] | rw [if_neg c60, if_neg c67]) rfl

abbrev mX5_run (f : Nat) : ZM := (cX5_run, RX5, wsX5_run, 3 * f + 5, 0, 0, none, 7, yX5_run.name)
set_option maxHeartbeats 1000000 in
set_option maxRecDepth 100000 in
theorem c_X5_run0 {sh : zSh} {F : Nat → Nat → Int32} {P : Nat → Nat → Option Nat} {ω : Nat} {W : Nat → Nat → Int32} {β : Nat} {B : Nat → Nat → Int32} {t c : Int32} (hW : zWk sh P ω) (hV : zVw F ω 8 W) (hB : zBk sh P β) (hBv : zVw F β 9 B) (hd : ω + 8 ≤ β ∨ β + 9 ≤ ω) : zMet yX5_run wsX5_run (3 * 0 + 5) (0) (0) [.ref ω, .ref β, .int t, .int c, .int (nI 9)] sh F P (none) sh (zput F ω 8 (wRun B 0 t c W)) P := by
  refine zMet.of (by decide) rfl (Nat.le_of_ble_eq_true rfl) (by simp [Value.category]) ?_
  intro X ρ
  show AW (mX5_run 0) X (zMQ (mX5_run 0) X (none) sh (zput F ω 8 (wRun B 0 t c W)) P) 0 [some (.ref ω), some (.ref β), some (.int t), some (.int c), some (.int (nI 9)), none, none] [] ρ sh F P 0 0
  have hinX5 : ∀ w ∈ u_ws RX5 TX5 5, w ∈ wsX5_run := by decide +kernel
  have hinX4 : ∀ w ∈ u_ws RX4 TX4 7, w ∈ wsX5_run := by decide +kernel
  obtain ⟨ws0, wp0, ws1, ⟨bp0, bp1, bp2, bp3, bp4, bp5⟩, ws2, ws3, ws4, ws5, ws6, ws7⟩ := id hW
  have hbs := hB.1
  refine aw_cF (F' := zput F ω 8 W) (zput_view hV).symm ?_
  refine aw_aload_0 dX5_run_0 ?_
  refine aw_dup rfl dX5_run_1 ?_
  try simp (disch := omega) only [zu_up, zup_in, zup_in0, zput_at, zput_a0, zput_zput]
  refine aw_getI fX5_3 hinX5 (by decide +kernel : Cond.fieldLink RX5 29 RX5 (TX5 3).2.1 (TX5 3).2.2.1 ∈ wsX5_run) (by assumption) dX5_run_2 ?_
  refine aw_iload_3 dX5_run_5 ?_
  refine aw_iadd dX5_run_6 ?_
  refine aw_putI fX5_3 rfl hinX5 (by decide +kernel : Cond.fieldLink RX5 29 RX5 (TX5 3).2.1 (TX5 3).2.2.1 ∈ wsX5_run) (by assumption) dX5_run_7 ?_
  try simp (disch := omega) only [zu_up, zup_in, zup_in0, zput_at, zput_a0, zput_zput]
  refine aw_aload_0 dX5_run_10 ?_
  refine aw_getI fX5_3 hinX5 (by decide +kernel : Cond.fieldLink RX5 29 RX5 (TX5 3).2.1 (TX5 3).2.2.1 ∈ wsX5_run) (by assumption) dX5_run_11 ?_
  try simp (disch := omega) only [zu_up, zup_in, zup_in0, zput_at, zput_a0, zput_zput]
  refine aw_sipush (v := 500) dX5_run_14 (by decide) ?_
  refine aw_icmp_gt (tgt := 27) dX5_run_17 (by decide) (fun c17 => ?_) (fun c17 => ?_)
  · refine aw_aload_0 dX5_run_27 ?_
    refine aw_iconst (v := 1) dX5_run_28 (by decide) ?_
    refine aw_putZ (by decide) fX5_2 rfl hinX5 (by decide +kernel : Cond.fieldLink RX5 26 RX5 (TX5 2).2.1 (TX5 2).2.2.1 ∈ wsX5_run) (by assumption) dX5_run_29 ?_
    try simp (disch := omega) only [zu_up, zup_in, zup_in0, zput_at, zput_a0, zput_zput]
    rw [show va_up (va_up W 0 (upd (W 0) 3 (W 0 3 + c))) 0 (upd (va_up W 0 (upd (W 0) 3 (W 0 3 + c)) 0) 2 1) = wRun B 0 t c W from rfl]
    refine aw_aload_1 dX5_run_32 ?_
    refine aw_iload_2 dX5_run_33 ?_
    refine aw_run (zRun_V (v_X0_ingredientsOf hB (by first | exact hBv | exact hBv.out (by omega))) gX5_run_X0_ingredientsOf q_X0_ingredientsOf rfl (by decide) rfl (by assumption) rfl rfl (Nat.le_of_ble_eq_true rfl) dX5_run_34 ⟨Nat.le_refl _, Nat.le_refl _⟩) ?_
    refine aw_istore_5 dX5_run_37 ?_
    refine aw_iconst (v := 0) dX5_run_39 (by decide) ?_
    refine aw_istore_6 dX5_run_40 ?_
    refine aw_iload_6 dX5_run_42 ?_
    refine aw_iload_5 dX5_run_44 ?_
    refine aw_icmp_ge (tgt := 85) dX5_run_46 (by decide) (fun c46 => ?_) (fun c46 => ?_)
    · refine aw_aload_0 dX5_run_85 ?_
      refine aw_getZ fX5_2 hinX5 (by decide +kernel : Cond.fieldLink RX5 26 RX5 (TX5 2).2.1 (TX5 2).2.2.1 ∈ wsX5_run) (by assumption) dX5_run_86 ?_
      try simp (disch := omega) only [zu_up, zup_in, zup_in0, zput_at, zput_a0, zput_zput]
      refine aw_if_ne (tgt := 124) dX5_run_89 (by decide) (fun c89 => ?_) (fun c89 => absurd c89 (wFail_2 (wBat W c)))
      exact aw_return rfl dX5_run_124 ⟨Nat.zero_le _, Nat.zero_le _⟩ rfl rfl rfl rfl
    · refine aw_aload_0 dX5_run_49 ?_
      refine aw_getZ fX5_2 hinX5 (by decide +kernel : Cond.fieldLink RX5 26 RX5 (TX5 2).2.1 (TX5 2).2.2.1 ∈ wsX5_run) (by assumption) dX5_run_50 ?_
      try simp (disch := omega) only [zu_up, zup_in, zup_in0, zput_at, zput_a0, zput_zput]
      refine aw_if_ne (tgt := 85) dX5_run_53 (by decide) (fun c53 => ?_) (fun c53 => absurd c53 (wFail_2 (wBat W c)))
      refine aw_aload_0 dX5_run_85 ?_
      refine aw_getZ fX5_2 hinX5 (by decide +kernel : Cond.fieldLink RX5 26 RX5 (TX5 2).2.1 (TX5 2).2.2.1 ∈ wsX5_run) (by assumption) dX5_run_86 ?_
      try simp (disch := omega) only [zu_up, zup_in, zup_in0, zput_at, zput_a0, zput_zput]
      refine aw_if_ne (tgt := 124) dX5_run_89 (by decide) (fun c89 => ?_) (fun c89 => absurd c89 (wFail_2 (wBat W c)))
      exact aw_return rfl dX5_run_124 ⟨Nat.zero_le _, Nat.zero_le _⟩ rfl rfl rfl rfl
  · refine aw_iload_4 dX5_run_20 ?_
    refine aw_bipush (v := 8) dX5_run_22 (by decide) ?_
    refine aw_icmp_le (tgt := 32) dX5_run_24 (by decide) (fun c24 => absurd c24 (by decide)) (fun c24 => ?_)
    refine aw_aload_0 dX5_run_27 ?_
    refine aw_iconst (v := 1) dX5_run_28 (by decide) ?_
    refine aw_putZ (by decide) fX5_2 rfl hinX5 (by decide +kernel : Cond.fieldLink RX5 26 RX5 (TX5 2).2.1 (TX5 2).2.2.1 ∈ wsX5_run) (by assumption) dX5_run_29 ?_
    try simp (disch := omega) only [zu_up, zup_in, zup_in0, zput_at, zput_a0, zput_zput]
    rw [show va_up (va_up W 0 (upd (W 0) 3 (W 0 3 + c))) 0 (upd (va_up W 0 (upd (W 0) 3 (W 0 3 + c)) 0) 2 1) = wRun B 0 t c W from rfl]
    refine aw_aload_1 dX5_run_32 ?_
    refine aw_iload_2 dX5_run_33 ?_
    refine aw_run (zRun_V (v_X0_ingredientsOf hB (by first | exact hBv | exact hBv.out (by omega))) gX5_run_X0_ingredientsOf q_X0_ingredientsOf rfl (by decide) rfl (by assumption) rfl rfl (Nat.le_of_ble_eq_true rfl) dX5_run_34 ⟨Nat.le_refl _, Nat.le_refl _⟩) ?_
    refine aw_istore_5 dX5_run_37 ?_
    refine aw_iconst (v := 0) dX5_run_39 (by decide) ?_
    refine aw_istore_6 dX5_run_40 ?_
    refine aw_iload_6 dX5_run_42 ?_
    refine aw_iload_5 dX5_run_44 ?_
    refine aw_icmp_ge (tgt := 85) dX5_run_46 (by decide) (fun c46 => ?_) (fun c46 => ?_)
    · refine aw_aload_0 dX5_run_85 ?_
      refine aw_getZ fX5_2 hinX5 (by decide +kernel : Cond.fieldLink RX5 26 RX5 (TX5 2).2.1 (TX5 2).2.2.1 ∈ wsX5_run) (by assumption) dX5_run_86 ?_
      try simp (disch := omega) only [zu_up, zup_in, zup_in0, zput_at, zput_a0, zput_zput]
      refine aw_if_ne (tgt := 124) dX5_run_89 (by decide) (fun c89 => ?_) (fun c89 => absurd c89 (wFail_2 (wBat W c)))
      exact aw_return rfl dX5_run_124 ⟨Nat.zero_le _, Nat.zero_le _⟩ rfl rfl rfl rfl
    · refine aw_aload_0 dX5_run_49 ?_
      refine aw_getZ fX5_2 hinX5 (by decide +kernel : Cond.fieldLink RX5 26 RX5 (TX5 2).2.1 (TX5 2).2.2.1 ∈ wsX5_run) (by assumption) dX5_run_50 ?_
      try simp (disch := omega) only [zu_up, zup_in, zup_in0, zput_at, zput_a0, zput_zput]
      refine aw_if_ne (tgt := 85) dX5_run_53 (by decide) (fun c53 => ?_) (fun c53 => absurd c53 (wFail_2 (wBat W c)))
      refine aw_aload_0 dX5_run_85 ?_
      refine aw_getZ fX5_2 hinX5 (by decide +kernel : Cond.fieldLink RX5 26 RX5 (TX5 2).2.1 (TX5 2).2.2.1 ∈ wsX5_run) (by assumption) dX5_run_86 ?_
      try simp (disch := omega) only [zu_up, zup_in, zup_in0, zput_at, zput_a0, zput_zput]
      refine aw_if_ne (tgt := 124) dX5_run_89 (by decide) (fun c89 => ?_) (fun c89 => absurd c89 (wFail_2 (wBat W c)))
      exact aw_return rfl dX5_run_124 ⟨Nat.zero_le _, Nat.zero_le _⟩ rfl rfl rfl rfl

set_option maxHeartbeats 1000000 in
set_option maxRecDepth 100000 in
theorem c_X5_runS {f d : Nat} {sh : zSh} {F : Nat → Nat → Int32} {P : Nat → Nat → Option Nat} {ω : Nat} {W : Nat → Nat → Int32} {β : Nat} {B : Nat → Nat → Int32} {t c : Int32} (hW : zWk sh P ω) (hV : zVw F ω 8 W) (hB : zBk sh P β) (hBv : zVw F β 9 B) (hd : ω + 8 ≤ β ∨ β + 9 ≤ ω) (hf : d ≤ 8) (ihT : ∀ {F W : Nat → Nat → Int32} {t n : Int32}, zVw F ω 8 W → zVw F β 9 B → zMet yX5_take wsX5_take (3 * f + 7) 0 0 [.ref ω, .ref β, .int t, .int n, .int (nI d)] sh F P none sh (zput F ω 8 (wTake (wProv (wRun B f) B) B W t n)) P) : zMet yX5_run wsX5_run (3 * (f + 1) + 5) (0) (0) [.ref ω, .ref β, .int t, .int c, .int (nI d)] sh F P (none) sh (zput F ω 8 (wRun B (f + 1) t c W)) P := by
  refine zMet.of (by decide) rfl (Nat.le_of_ble_eq_true rfl) (by simp [Value.category]) ?_
  intro X ρ
  show AW (mX5_run (f + 1)) X (zMQ (mX5_run (f + 1)) X (none) sh (zput F ω 8 (wRun B (f + 1) t c W)) P) 0 [some (.ref ω), some (.ref β), some (.int t), some (.int c), some (.int (nI d)), none, none] [] ρ sh F P 0 0
  have hinX5 : ∀ w ∈ u_ws RX5 TX5 5, w ∈ wsX5_run := by decide +kernel
  have hinX4 : ∀ w ∈ u_ws RX4 TX4 7, w ∈ wsX5_run := by decide +kernel
  obtain ⟨ws0, wp0, ws1, ⟨bp0, bp1, bp2, bp3, bp4, bp5⟩, ws2, ws3, ws4, ws5, ws6, ws7⟩ := id hW
  have hbs := hB.1
  refine aw_cF (F' := zput F ω 8 W) (zput_view hV).symm ?_
  have L42 : ∀ (m k : Nat) (W' : Nat → Nat → Int32), k ≤ (bIngs B t).toNatClampNeg → (bIngs B t).toNatClampNeg - k = m → it (wRunStep (wRun B f) B t c) k (if 500 < wBat W c 0 3 then wFail (wBat W c) else wBat W c) = W' → (∀ o6 : Option Value, AW (mX5_run (f + 1)) X (zMQ (mX5_run (f + 1)) X (none) sh (zput F ω 8 (wRun B (f + 1) t c W)) P) 85 [some (.ref ω), some (.ref β), some (.int t), some (.int c), some (.int (nI d)), some (.int (bIngs B t)), o6] [] ρ sh (zput F ω 8 (it (wRunStep (wRun B f) B t c) (bIngs B t).toNatClampNeg (if 500 < wBat W c 0 3 then wFail (wBat W c) else wBat W c))) P 0 0) → AW (mX5_run (f + 1)) X (zMQ (mX5_run (f + 1)) X (none) sh (zput F ω 8 (wRun B (f + 1) t c W)) P) 42 [some (.ref ω), some (.ref β), some (.int t), some (.int c), some (.int (nI d)), some (.int (bIngs B t)), some (.int (nI k))] [] ρ sh (zput F ω 8 W') P 0 0 := by
    intro m
    induction m using Nat.strongRecOn with
    | _ m ih =>
    intro k W' hk hm hst hc
    refine aw_iload_6 dX5_run_42 ?_
    refine aw_iload_5 dX5_run_44 ?_
    refine aw_icmp_ge (tgt := 85) dX5_run_46 (by decide) (fun c46 => ?_) (fun c46 => ?_)
    · first | (rw [show (it (wRunStep (wRun B f) B t c) (bIngs B t).toNatClampNeg (if 500 < wBat W c 0 3 then wFail (wBat W c) else wBat W c)) = W' from by rw [it_stick (p := fun W => W 0 2 ≠ 0) (wRun_stick (wRun B f) B t c) (i := k) (by rw [hst]; exact c53) _ hk, hst]] at hc; exact hc _) | (rw [show (it (wRunStep (wRun B f) B t c) (bIngs B t).toNatClampNeg (if 500 < wBat W c 0 3 then wFail (wBat W c) else wBat W c)) = W' from by rw [← zcle hk c46]; exact hst] at hc; exact hc _)
    · have hlt := zclt hk c46
      refine aw_aload_0 dX5_run_49 ?_
      refine aw_getZ fX5_2 hinX5 (by decide +kernel : Cond.fieldLink RX5 26 RX5 (TX5 2).2.1 (TX5 2).2.2.1 ∈ wsX5_run) (by assumption) dX5_run_50 ?_
      try simp (disch := omega) only [zu_up, zup_in, zup_in0, zput_at, zput_a0, zput_zput]
      refine aw_if_ne (tgt := 85) dX5_run_53 (by decide) (fun c53 => ?_) (fun c53 => ?_)
      · first | (rw [show (it (wRunStep (wRun B f) B t c) (bIngs B t).toNatClampNeg (if 500 < wBat W c 0 3 then wFail (wBat W c) else wBat W c)) = W' from by rw [it_stick (p := fun W => W 0 2 ≠ 0) (wRun_stick (wRun B f) B t c) (i := k) (by rw [hst]; exact c53) _ hk, hst]] at hc; exact hc _) | (rw [show (it (wRunStep (wRun B f) B t c) (bIngs B t).toNatClampNeg (if 500 < wBat W c 0 3 then wFail (wBat W c) else wBat W c)) = W' from by rw [← zcle hk c46]; exact hst] at hc; exact hc _)
      · refine aw_aload_0 dX5_run_56 ?_
        refine aw_aload_1 dX5_run_57 ?_
        refine aw_aload_1 dX5_run_58 ?_
        refine aw_iload_2 dX5_run_59 ?_
        refine aw_iload_6 dX5_run_60 ?_
        refine aw_run (zRun_V (v_X0_ingredientAt hB (by first | exact hBv | exact hBv.out (by omega))) gX5_run_X0_ingredientAt q_X0_ingredientAt rfl (by show _ < 3 * (f + 1) + 5; omega) rfl (by assumption) rfl rfl (Nat.le_of_ble_eq_true rfl) dX5_run_62 ⟨Nat.le_refl _, Nat.le_refl _⟩) ?_
        refine aw_aload_1 dX5_run_65 ?_
        refine aw_iload_2 dX5_run_66 ?_
        refine aw_iload_6 dX5_run_67 ?_
        refine aw_run (zRun_V (v_X0_amountAt hB (by first | exact hBv | exact hBv.out (by omega))) gX5_run_X0_amountAt q_X0_amountAt rfl (by show _ < 3 * (f + 1) + 5; omega) rfl (by assumption) rfl rfl (Nat.le_of_ble_eq_true rfl) dX5_run_69 ⟨Nat.le_refl _, Nat.le_refl _⟩) ?_
        refine aw_iload_3 dX5_run_72 ?_
        refine aw_imul dX5_run_73 ?_
        refine aw_iload_4 dX5_run_74 ?_
        refine aw_runv (zRun_V (ihT zVw.put (by first | exact hBv | exact hBv.out (by omega))) gX5_run_X5_take q_X5_take rfl (by show _ < 3 * (f + 1) + 5; omega) rfl (by assumption) rfl rfl (Nat.le_of_ble_eq_true rfl) dX5_run_76 ⟨Nat.le_refl _, Nat.le_refl _⟩) ?_
        refine aw_iinc_6 (v := 1) (by decide) dX5_run_79 ?_
        refine aw_goto (tgt := 42) dX5_run_82 (by decide) ?_
        rw [nI_1, zput_zput]
        exact ih (_ - (k + 1)) (by omega) (k + 1) _ (by omega) rfl (by show wRunStep (wRun B f) B t c k (it _ k _) = _; rw [hst]; unfold wRunStep; rw [if_pos c53]) hc
  refine aw_aload_0 dX5_run_0 ?_
  refine aw_dup rfl dX5_run_1 ?_
  try simp (disch := omega) only [zu_up, zup_in, zup_in0, zput_at, zput_a0, zput_zput]
  refine aw_getI fX5_3 hinX5 (by decide +kernel : Cond.fieldLink RX5 29 RX5 (TX5 3).2.1 (TX5 3).2.2.1 ∈ wsX5_run) (by assumption) dX5_run_2 ?_
  refine aw_iload_3 dX5_run_5 ?_
  refine aw_iadd dX5_run_6 ?_
  refine aw_putI fX5_3 rfl hinX5 (by decide +kernel : Cond.fieldLink RX5 29 RX5 (TX5 3).2.1 (TX5 3).2.2.1 ∈ wsX5_run) (by assumption) dX5_run_7 ?_
  try simp (disch := omega) only [zu_up, zup_in, zup_in0, zput_at, zput_a0, zput_zput]
  refine aw_aload_0 dX5_run_10 ?_
  refine aw_getI fX5_3 hinX5 (by decide +kernel : Cond.fieldLink RX5 29 RX5 (TX5 3).2.1 (TX5 3).2.2.1 ∈ wsX5_run) (by assumption) dX5_run_11 ?_
  try simp (disch := omega) only [zu_up, zup_in, zup_in0, zput_at, zput_a0, zput_zput]
  refine aw_sipush (v := 500) dX5_run_14 (by decide) ?_
  refine aw_icmp_gt (tgt := 27) dX5_run_17 (by decide) (fun c17 => ?_) (fun c17 => ?_)
  · refine aw_aload_0 dX5_run_27 ?_
    refine aw_iconst (v := 1) dX5_run_28 (by decide) ?_
    refine aw_putZ (by decide) fX5_2 rfl hinX5 (by decide +kernel : Cond.fieldLink RX5 26 RX5 (TX5 2).2.1 (TX5 2).2.2.1 ∈ wsX5_run) (by assumption) dX5_run_29 ?_
    try simp (disch := omega) only [zu_up, zup_in, zup_in0, zput_at, zput_a0, zput_zput]
    refine aw_cF (F' := zput F ω 8 (if 500 < wBat W c 0 3 then wFail (wBat W c) else wBat W c)) (by first | exact congrArg (zput F ω 8) (if_pos (show 500 < wBat W c 0 3 from c17)).symm | exact congrArg (zput F ω 8) (if_neg (show ¬ 500 < wBat W c 0 3 from c17)).symm) ?_
    refine aw_aload_1 dX5_run_32 ?_
    refine aw_iload_2 dX5_run_33 ?_
    refine aw_run (zRun_V (v_X0_ingredientsOf hB (by first | exact hBv | exact hBv.out (by omega))) gX5_run_X0_ingredientsOf q_X0_ingredientsOf rfl (by show _ < 3 * (f + 1) + 5; omega) rfl (by assumption) rfl rfl (Nat.le_of_ble_eq_true rfl) dX5_run_34 ⟨Nat.le_refl _, Nat.le_refl _⟩) ?_
    refine aw_istore_5 dX5_run_37 ?_
    refine aw_iconst (v := 0) dX5_run_39 (by decide) ?_
    refine aw_istore_6 dX5_run_40 ?_
    refine L42 _ 0 _ (Nat.zero_le _) rfl rfl (fun o6 => ?_)
    refine aw_aload_0 dX5_run_85 ?_
    refine aw_getZ fX5_2 hinX5 (by decide +kernel : Cond.fieldLink RX5 26 RX5 (TX5 2).2.1 (TX5 2).2.2.1 ∈ wsX5_run) (by assumption) dX5_run_86 ?_
    try simp (disch := omega) only [zu_up, zup_in, zup_in0, zput_at, zput_a0, zput_zput]
    refine aw_if_ne (tgt := 124) dX5_run_89 (by decide) (fun c89 => ?_) (fun c89 => ?_)
    · try simp (disch := omega) only [zu_up, zup_in, zup_in0, zput_at, zput_a0, zput_zput]
      exact aw_return rfl dX5_run_124 ⟨Nat.zero_le _, Nat.zero_le _⟩ rfl rfl (by show _ = zput F ω 8 (wDone B t c (it (wRunStep (wRun B f) B t c) (bIngs B t).toNatClampNeg (if 500 < wBat W c 0 3 then wFail (wBat W c) else wBat W c))); unfold wDone; (first | rw [if_pos c89] | rw [if_neg c89])) rfl
    · refine aw_aload_0 dX5_run_92 ?_
      refine aw_iload_2 dX5_run_93 ?_
      refine aw_aload_1 dX5_run_94 ?_
      refine aw_iload_2 dX5_run_95 ?_
      refine aw_run (zRun_V (v_X0_yieldOf hB (by first | exact hBv | exact hBv.out (by omega))) gX5_run_X0_yieldOf q_X0_yieldOf rfl (by show _ < 3 * (f + 1) + 5; omega) rfl (by assumption) rfl rfl (Nat.le_of_ble_eq_true rfl) dX5_run_96 ⟨Nat.le_refl _, Nat.le_refl _⟩) ?_
      refine aw_iload_3 dX5_run_99 ?_
      refine aw_imul dX5_run_100 ?_
      refine aw_aload_0 dX5_run_101 ?_
      refine aw_getR fX5_0 (fun _ _ => rfl) (by assumption) hinX5 (by decide +kernel : Cond.fieldLink RX5 12 RX5 (TX5 0).2.1 (TX5 0).2.2.1 ∈ wsX5_run) (by assumption) dX5_run_102 ?_
      refine aw_getRN (q := 20) fX4_2 (fun _ _ => rfl) (by assumption) hinX4 rfl (by assumption) dX5_run_105 ?_
      refine aw_runv (zRun_V (c_X5_comeIn (j := 4) hW zVw.put (by decide)) gX5_run_X5_comeIn q_X5_comeIn rfl (by show _ < 3 * (f + 1) + 5; omega) rfl (by assumption) rfl rfl (Nat.le_of_ble_eq_true rfl) dX5_run_108 ⟨Nat.le_refl _, Nat.le_refl _⟩) ?_
      rw [zput_zput]
      refine aw_aload_0 dX5_run_111 ?_
      refine aw_getR fX5_0 (fun _ _ => rfl) (by assumption) hinX5 (by decide +kernel : Cond.fieldLink RX5 12 RX5 (TX5 0).2.1 (TX5 0).2.2.1 ∈ wsX5_run) (by assumption) dX5_run_112 ?_
      refine aw_dup rfl dX5_run_115 ?_
      refine aw_getIN (q := 21) fX4_6 hinX4 rfl (by assumption) dX5_run_116 ?_
      try simp (disch := omega) only [zu_up, zup_in, zup_in0, zput_at, zput_a0, zput_zput]
      refine aw_iload_3 dX5_run_119 ?_
      refine aw_iadd dX5_run_120 ?_
      refine aw_putIN (q := 21) fX4_6 rfl hinX4 rfl (by assumption) dX5_run_121 ?_
      try simp (disch := omega) only [zu_up, zup_in, zup_in0, zput_at, zput_a0, zput_zput]
      exact aw_return rfl dX5_run_124 ⟨Nat.zero_le _, Nat.zero_le _⟩ rfl rfl (by show _ = zput F ω 8 (wDone B t c (it (wRunStep (wRun B f) B t c) (bIngs B t).toNatClampNeg (if 500 < wBat W c 0 3 then wFail (wBat W c) else wBat W c))); unfold wDone; (first | rw [if_pos c89] | rw [if_neg c89])) rfl
  · refine aw_iload_4 dX5_run_20 ?_
    refine aw_bipush (v := 8) dX5_run_22 (by decide) ?_
    refine aw_icmp_le (tgt := 32) dX5_run_24 (by decide) (fun c24 => ?_) (fun c24 => absurd ((nI_leI (a := d) (b := 8) (by omega) (by decide)).mpr hf) c24)
    try simp (disch := omega) only [zu_up, zup_in, zup_in0, zput_at, zput_a0, zput_zput]
    refine aw_cF (F' := zput F ω 8 (if 500 < wBat W c 0 3 then wFail (wBat W c) else wBat W c)) (by first | exact congrArg (zput F ω 8) (if_pos (show 500 < wBat W c 0 3 from c17)).symm | exact congrArg (zput F ω 8) (if_neg (show ¬ 500 < wBat W c 0 3 from c17)).symm) ?_
    refine aw_aload_1 dX5_run_32 ?_
    refine aw_iload_2 dX5_run_33 ?_
    refine aw_run (zRun_V (v_X0_ingredientsOf hB (by first | exact hBv | exact hBv.out (by omega))) gX5_run_X0_ingredientsOf q_X0_ingredientsOf rfl (by show _ < 3 * (f + 1) + 5; omega) rfl (by assumption) rfl rfl (Nat.le_of_ble_eq_true rfl) dX5_run_34 ⟨Nat.le_refl _, Nat.le_refl _⟩) ?_
    refine aw_istore_5 dX5_run_37 ?_
    refine aw_iconst (v := 0) dX5_run_39 (by decide) ?_
    refine aw_istore_6 dX5_run_40 ?_
    refine L42 _ 0 _ (Nat.zero_le _) rfl rfl (fun o6 => ?_)
    refine aw_aload_0 dX5_run_85 ?_
    refine aw_getZ fX5_2 hinX5 (by decide +kernel : Cond.fieldLink RX5 26 RX5 (TX5 2).2.1 (TX5 2).2.2.1 ∈ wsX5_run) (by assumption) dX5_run_86 ?_
    try simp (disch := omega) only [zu_up, zup_in, zup_in0, zput_at, zput_a0, zput_zput]
    refine aw_if_ne (tgt := 124) dX5_run_89 (by decide) (fun c89 => ?_) (fun c89 => ?_)
    · try simp (disch := omega) only [zu_up, zup_in, zup_in0, zput_at, zput_a0, zput_zput]
      exact aw_return rfl dX5_run_124 ⟨Nat.zero_le _, Nat.zero_le _⟩ rfl rfl (by show _ = zput F ω 8 (wDone B t c (it (wRunStep (wRun B f) B t c) (bIngs B t).toNatClampNeg (if 500 < wBat W c 0 3 then wFail (wBat W c) else wBat W c))); unfold wDone; (first | rw [if_pos c89] | rw [if_neg c89])) rfl
    · refine aw_aload_0 dX5_run_92 ?_
      refine aw_iload_2 dX5_run_93 ?_
      refine aw_aload_1 dX5_run_94 ?_
      refine aw_iload_2 dX5_run_95 ?_
      refine aw_run (zRun_V (v_X0_yieldOf hB (by first | exact hBv | exact hBv.out (by omega))) gX5_run_X0_yieldOf q_X0_yieldOf rfl (by show _ < 3 * (f + 1) + 5; omega) rfl (by assumption) rfl rfl (Nat.le_of_ble_eq_true rfl) dX5_run_96 ⟨Nat.le_refl _, Nat.le_refl _⟩) ?_
      refine aw_iload_3 dX5_run_99 ?_
      refine aw_imul dX5_run_100 ?_
      refine aw_aload_0 dX5_run_101 ?_
      refine aw_getR fX5_0 (fun _ _ => rfl) (by assumption) hinX5 (by decide +kernel : Cond.fieldLink RX5 12 RX5 (TX5 0).2.1 (TX5 0).2.2.1 ∈ wsX5_run) (by assumption) dX5_run_102 ?_
      refine aw_getRN (q := 20) fX4_2 (fun _ _ => rfl) (by assumption) hinX4 rfl (by assumption) dX5_run_105 ?_
      refine aw_runv (zRun_V (c_X5_comeIn (j := 4) hW zVw.put (by decide)) gX5_run_X5_comeIn q_X5_comeIn rfl (by show _ < 3 * (f + 1) + 5; omega) rfl (by assumption) rfl rfl (Nat.le_of_ble_eq_true rfl) dX5_run_108 ⟨Nat.le_refl _, Nat.le_refl _⟩) ?_
      rw [zput_zput]
      refine aw_aload_0 dX5_run_111 ?_
      refine aw_getR fX5_0 (fun _ _ => rfl) (by assumption) hinX5 (by decide +kernel : Cond.fieldLink RX5 12 RX5 (TX5 0).2.1 (TX5 0).2.2.1 ∈ wsX5_run) (by assumption) dX5_run_112 ?_
      refine aw_dup rfl dX5_run_115 ?_
      refine aw_getIN (q := 21) fX4_6 hinX4 rfl (by assumption) dX5_run_116 ?_
      try simp (disch := omega) only [zu_up, zup_in, zup_in0, zput_at, zput_a0, zput_zput]
      refine aw_iload_3 dX5_run_119 ?_
      refine aw_iadd dX5_run_120 ?_
      refine aw_putIN (q := 21) fX4_6 rfl hinX4 rfl (by assumption) dX5_run_121 ?_
      try simp (disch := omega) only [zu_up, zup_in, zup_in0, zput_at, zput_a0, zput_zput]
      exact aw_return rfl dX5_run_124 ⟨Nat.zero_le _, Nat.zero_le _⟩ rfl rfl (by show _ = zput F ω 8 (wDone B t c (it (wRunStep (wRun B f) B t c) (bIngs B t).toNatClampNeg (if 500 < wBat W c 0 3 then wFail (wBat W c) else wBat W c))); unfold wDone; (first | rw [if_pos c89] | rw [if_neg c89])) rfl

/-- the recursion, closed: with f levels left, at depth 9 - f -/
theorem c_X5_run {sh : zSh} {P : Nat → Nat → Option Nat} {ω β : Nat} {B : Nat → Nat → Int32} (hW : zWk sh P ω) (hB : zBk sh P β) (hd : ω + 8 ≤ β ∨ β + 9 ≤ ω) : ∀ (f d : Nat), d + f = 9 → ∀ {F W : Nat → Nat → Int32} {t c : Int32}, zVw F ω 8 W → zVw F β 9 B → zMet yX5_run wsX5_run (3 * f + 5) 0 0 [.ref ω, .ref β, .int t, .int c, .int (nI d)] sh F P none sh (zput F ω 8 (wRun B f t c W)) P := by
  intro f
  induction f with
  | zero =>
    intro d hf F W t c hV hBv
    have : d = 9 := by omega
    subst this
    exact c_X5_run0 hW hV hB hBv hd
  | succ f ih =>
    intro d hf F W t c hV hBv
    refine c_X5_runS hW hV hB hBv hd (by omega) ?_
    intro F W t n hV hBv
    refine c_X5_take hW hV hB hBv hd ?_
    intro F W t m hV hBv
    exact c_X5_provide hW hV hB hBv hd (fun hV hBv => ih (d + 1) (by omega) hV hBv)
theorem c_X5_provide0 {sh : zSh} {P : Nat → Nat → Option Nat} {ω β : Nat} {B : Nat → Nat → Int32} (hW : zWk sh P ω) (hB : zBk sh P β) (hd : ω + 8 ≤ β ∨ β + 9 ≤ ω) {F W : Nat → Nat → Int32} {t m : Int32} (hV : zVw F ω 8 W) (hBv : zVw F β 9 B) : zMet yX5_provide wsX5_provide (3 * 9 + 6) 0 0 [.ref ω, .ref β, .int t, .int m, .int (nI 0)] sh F P none sh (zput F ω 8 (wProv (wRun B 9) B t m W)) P :=
  c_X5_provide hW hV hB hBv hd (fun hV hBv => c_X5_run hW hB hd 9 0 rfl hV hBv)

