/-! ===== 65.md16: recipe of the model, share of both, the model's constructor ===== -/
section AWF
variable {M : ZM} {X : ZX} {Q : State → Prop} {pc : Nat} {ls : List (Option Value)} {st : List Value} {ρ : Nat → Nat} {sh sh' : zSh} {F F' : Nat → Nat → Int32} {P P' : Nat → Nat → Option Nat} {k n : Nat} {r : Option Value}
theorem aw_fconst0 (hd : decode M.1 pc = .ok (.fconst 0, 1)) (kk : AW M X Q (pc + 1) ls (.float FP.fconst0 :: st) ρ sh F P k n) : AW M X Q pc ls st ρ sh F P k n := fun ok e el H locs lsA r hS hl => lv_fconst0 ok.1 ok.2.1 hd (kk ok e el H locs lsA r hS hl)
theorem aw_i2f {x : Int32} (hd : decode M.1 pc = .ok (.i2f, 1)) (kk : AW M X Q (pc + 1) ls (.float (FP.i2f x) :: st) ρ sh F P k n) : AW M X Q pc ls (.int x :: st) ρ sh F P k n := fun ok e el H locs lsA r hS hl => lv_i2f ok.1 ok.2.1 hd (kk ok e el H locs lsA r hS hl)
theorem aw_fdiv {x y : UInt32} (hne : vf_n32 (FP.fdiv x y)) (hd : decode M.1 pc = .ok (.fdiv, 1)) (kk : AW M X Q (pc + 1) ls (.float (FP.fdiv x y) :: st) ρ sh F P k n) : AW M X Q pc ls (.float y :: .float x :: st) ρ sh F P k n := fun ok e el H locs lsA r hS hl => lv_fdiv ok.1 ok.2.1 hd hne (kk ok e el H locs lsA r hS hl)
theorem aw_freturn {v : UInt32} (hret : M.2.2.2.2.2.2.1 = some .float) (hd : decode M.1 pc = .ok (.freturn, 1)) (hk : k ≤ M.2.2.2.2.1 ∧ n ≤ M.2.2.2.2.2.1) (hr : some (.float v) = r) (hsh : sh = sh') (hF : F = F') (hP : P = P') : AW M X (zMQ M X r sh' F' P') pc ls [.float v] ρ sh F P k n := by
  subst hr; subst hsh; subst hF; subst hP
  intro ok e el H locs lsA rr hS hl
  exact W.widen hk.1 hk.2 (W.fret ok.1 ok.2.1 (by rw [ok.2.2.2.2.2.2.1, hret]) (fun t ht hW => ⟨⟨ρ, rfl, e, by rw [ht]; exact rr⟩, hS.F ht⟩) hS.2.2 hd ok.2.2.2.2.2.1)
end AWF
theorem fShare_n {g m : Nat} (h0 : ¬ nI m = 0) (hm : m < 2 ^ 31) : vf_n32 (FP.fdiv (FP.i2f (nI g)) (FP.i2f (nI m))) := by
  refine vfn32 (fDiv_nn ?_ hm)
  rcases Nat.eq_zero_or_pos m with h | h
  · exact absurd (by rw [h]; rfl) h0
  · exact h
theorem nI_le0 {m : Nat} (h : nI m ≤ 0) (hm : m < 2 ^ 31) : nI m = 0 := by
  have := z0m h hm
  rw [this]
  rfl
def mSumM (w : Nat → Int32) : Nat → Int32 := fun n => it (fun t x => x + w (23 * t + 3)) n 0
def qLay (w : Nat → Int32) (R : Nat → Nat → Int32) (a : Nat) : Nat → Nat → Int32 := fun n => it (fun k w => upd w (23 * a + (9 + k)) (R 11 k)) n (upd (upd w (23 * a + 7) (R 0 19)) (23 * a + 8) (R 0 20))
theorem mRemember_0 {G : Nat → Nat → Int32} {p q : Nat} (h : q ≠ 2) : mRemember G p 0 q = G 0 q := by
  unfold mRemember
  split
  · unfold mRem mShift
    simp (disch := omega) only [zup_eq, zup_ne, upd_ne]
  · unfold mRem
    simp (disch := omega) only [zup_eq, zup_ne, upd_ne]
theorem mDone_0 {G : Nat → Nat → Int32} {p q : Nat} (h : q ≠ 2) : mDone G p 0 q = G 0 q := by
  unfold mDone mRest mSwap
  rw [zup_ne (by decide), mRemember_0 h]
  simp (disch := omega) only [zup_ne]
theorem mDone_5 {G : Nat → Nat → Int32} {p : Nat} : mDone G p 5 = G 5 := by
  unfold mDone mRest mSwap
  rw [zup_ne (by decide), mRemember_1 (by decide) (by decide)]
  simp (disch := omega) only [zup_ne]

abbrev mX7_recipe : ZM := (cX7_recipe, RX7, wsX7_recipe, 5, 0, 0, (some .int), 2, yX7_recipe.name)
set_option maxHeartbeats 1000000 in
set_option maxRecDepth 100000 in
theorem c_X7_recipe_f {sh : zSh} {F : Nat → Nat → Int32} {P : Nat → Nat → Option Nat} {μ : Nat} {G : Nat → Nat → Int32} {L : Nat} {R : Nat → Nat → Int32} (hM : zMd sh P μ) (hG : zVw F μ 13 G) (hL : L ≤ 60) (h6 : G 0 6 = nI L) (eR : zBox (qRead G L = R)) (h : ¬ R 0 22 = -9) : zMet yX7_recipe wsX7_recipe (5) (0) (0) [.ref μ] sh F P (some (.int (-2))) sh (zput F μ 13 (qSet (qSet R 7 (R 0 22)) 8 (R 0 23))) P := by
  refine zMet.of (by decide) rfl (Nat.le_of_ble_eq_true rfl) (by simp [Value.category]) ?_
  intro X ρ
  show AW mX7_recipe X (zMQ mX7_recipe X (some (.int (-2))) sh (zput F μ 13 (qSet (qSet R 7 (R 0 22)) 8 (R 0 23))) P) 0 [some (.ref μ), none] [] ρ sh F P 0 0
  have hinX7 : ∀ w ∈ u_ws RX7 TX7 29, w ∈ wsX7_recipe := by decide +kernel
  obtain ⟨ms0, ⟨mp0, mp1, mp3, mp5, mp9, mp10, mp11, mp12, mp13, mp17, mp21, mp28⟩, ms1, ms2, ms3, ms4, ms5, ms6, ms7, ms8, ms9, ms10, ms11, ms12⟩ := id hM
  refine aw_cF (F' := zput F μ 13 G) (zput_view hG).symm ?_
  refine aw_aload_0 dX7_recipe_0 ?_
  refine aw_runv (zRun_V (c_X7_readText (L := L) (R := R) hM zVw.put hL h6 eR) gX7_recipe_X7_readText q_X7_readText rfl (by decide) rfl ms0 rfl rfl (Nat.le_of_ble_eq_true rfl) dX7_recipe_1 ⟨Nat.le_refl _, Nat.le_refl _⟩) ?_
  rw [zput_zput]
  refine aw_aload_0 dX7_recipe_4 ?_
  refine aw_getI fX7_22 hinX7 (by decide +kernel : Cond.fieldLink RX7 141 RX7 (TX7 22).2.1 (TX7 22).2.2.1 ∈ wsX7_recipe) ms0 dX7_recipe_5 ?_
  try simp (disch := omega) only [zu_up, zup_in, zup_in0, zput_at, zput_a0, zput_zput, zup_eq, zup_ne, va_up_up, nI_clamp]
  refine aw_bipush (v := (-9)) dX7_recipe_8 (by decide) ?_
  refine aw_icmp_eq (tgt := 32) dX7_recipe_10 (by decide) (fun c10 => absurd c10 h) (fun c10 => ?_)
  refine aw_aload_0 dX7_recipe_13 ?_
  refine aw_aload_0 dX7_recipe_14 ?_
  refine aw_getI fX7_22 hinX7 (by decide +kernel : Cond.fieldLink RX7 141 RX7 (TX7 22).2.1 (TX7 22).2.2.1 ∈ wsX7_recipe) ms0 dX7_recipe_15 ?_
  try simp (disch := omega) only [zu_up, zup_in, zup_in0, zput_at, zput_a0, zput_zput, zup_eq, zup_ne, va_up_up, nI_clamp]
  refine aw_putI fX7_7 rfl hinX7 (by decide +kernel : Cond.fieldLink RX7 22 RX7 (TX7 7).2.1 (TX7 7).2.2.1 ∈ wsX7_recipe) ms0 dX7_recipe_18 ?_
  try simp (disch := omega) only [zu_up, zup_in, zup_in0, zput_at, zput_a0, zput_zput, zup_eq, zup_ne, va_up_up, nI_clamp]
  refine aw_aload_0 dX7_recipe_21 ?_
  refine aw_aload_0 dX7_recipe_22 ?_
  refine aw_getI fX7_23 hinX7 (by decide +kernel : Cond.fieldLink RX7 144 RX7 (TX7 23).2.1 (TX7 23).2.2.1 ∈ wsX7_recipe) ms0 dX7_recipe_23 ?_
  try simp (disch := omega) only [zu_up, zup_in, zup_in0, zput_at, zput_a0, zput_zput, zup_eq, zup_ne, va_up_up, nI_clamp]
  refine aw_putI fX7_8 rfl hinX7 (by decide +kernel : Cond.fieldLink RX7 26 RX7 (TX7 8).2.1 (TX7 8).2.2.1 ∈ wsX7_recipe) ms0 dX7_recipe_26 ?_
  try simp (disch := omega) only [zu_up, zup_in, zup_in0, zput_at, zput_a0, zput_zput, zup_eq, zup_ne, va_up_up, nI_clamp]
  refine aw_bipush (v := (-2)) dX7_recipe_29 (by decide) ?_
  exact aw_ireturn rfl dX7_recipe_31 ⟨Nat.zero_le _, Nat.zero_le _⟩ rfl rfl (by unfold qSet; simp (disch := omega) only [zup_eq, zup_ne, va_up_up, upd_ne, upd_eq]) rfl

set_option maxHeartbeats 1000000 in
set_option maxRecDepth 100000 in
theorem c_X7_recipe_g {sh : zSh} {F : Nat → Nat → Int32} {P : Nat → Nat → Option Nat} {μ : Nat} {G : Nat → Nat → Int32} {L a c : Nat} {R H V : Nat → Nat → Int32} {w : Bool} (hM : zMd sh P μ) (hG : zVw F μ 13 G) (hL : L ≤ 60) (h6 : G 0 6 = nI L) (eR : zBox (qRead G L = R)) (h0 : R 0 22 = -9) (ha : a < 20) (h18 : R 0 18 = nI a) (hc : c ≤ 5) (h20 : R 0 20 = nI c) (eH : zBox (va_up (mHold R) 1 (qLay (R 1) R a (2 * c)) = H)) (eV : zBox (va_up H 5 (mRanks (H 1) (H 5) 12) = V)) (ew : zBox (mBadRank (mRanks (H 1) (H 5) 12) 20 = w)) (hok : mOk (H 1)) (h : w = true) : zMet yX7_recipe wsX7_recipe (5) (0) (0) [.ref μ] sh F P (some (.int (-2))) sh (zput F μ 13 (mRest V)) P := by
  refine zMet.of (by decide) rfl (Nat.le_of_ble_eq_true rfl) (by simp [Value.category]) ?_
  intro X ρ
  show AW mX7_recipe X (zMQ mX7_recipe X (some (.int (-2))) sh (zput F μ 13 (mRest V)) P) 0 [some (.ref μ), none] [] ρ sh F P 0 0
  have hinX7 : ∀ w ∈ u_ws RX7 TX7 29, w ∈ wsX7_recipe := by decide +kernel
  obtain ⟨ms0, ⟨mp0, mp1, mp3, mp5, mp9, mp10, mp11, mp12, mp13, mp17, mp21, mp28⟩, ms1, ms2, ms3, ms4, ms5, ms6, ms7, ms8, ms9, ms10, ms11, ms12⟩ := id hM
  refine aw_cF (F' := zput F μ 13 G) (zput_view hG).symm ?_
  have L66 : ∀ (m k : Nat), k ≤ 2 * c → 2 * c - k = m → AW mX7_recipe X (zMQ mX7_recipe X (some (.int (-2))) sh (zput F μ 13 (mRest V)) P) 66 [some (.ref μ), some (.int (nI k))] [] ρ sh (zput F μ 13 (va_up (va_up R 10 (cCopy 462 (R 1) (R 10))) 1 (qLay (R 1) R a k))) P 0 0 := by
    intro m
    induction m using Nat.strongRecOn with
    | _ m ih =>
    intro k hk hm
    refine aw_iload_1 dX7_recipe_66 ?_
    refine aw_iconst (v := 2) dX7_recipe_67 (by decide) ?_
    refine aw_aload_0 dX7_recipe_68 ?_
    refine aw_getI fX7_20 hinX7 (by decide +kernel : Cond.fieldLink RX7 169 RX7 (TX7 20).2.1 (TX7 20).2.2.1 ∈ wsX7_recipe) ms0 dX7_recipe_69 ?_
    try simp (disch := omega) only [zu_up, zup_in, zup_in0, zput_at, zput_a0, zput_zput, zup_eq, zup_ne, va_up_up, nI_clamp]
    rw [h20]
    refine aw_imul dX7_recipe_72 ?_
    rw [show (2 : Int32) = nI 2 from rfl, pk_mul]
    refine aw_icmp_ge (tgt := 100) dX7_recipe_73 (by decide) (fun c73 => ?_) (fun c73 => ?_)
    · rw [zend hk (by omega) c73]
      refine aw_cF (F' := zput F μ 13 H) (by rw [← eH.out]; rfl) ?_
      refine aw_aload_0 dX7_recipe_100 ?_
      refine aw_run (zRun_V (c_X7_areRanks (G := H) hM zVw.put hok) gX7_recipe_X7_areRanks q_X7_areRanks rfl (by decide) rfl ms0 rfl rfl (Nat.le_of_ble_eq_true rfl) dX7_recipe_101 ⟨Nat.le_refl _, Nat.le_refl _⟩) ?_
      rw [zput_zput, eV.out, ew.out]
      refine aw_if_ne (tgt := 114) dX7_recipe_104 (by decide) (fun c104 => absurd c104 (fun e => e (by rw [h]; rfl))) (fun c104 => ?_)
      refine aw_aload_0 dX7_recipe_107 ?_
      refine aw_runv (zRun_V (c_X7_restore hM zVw.put) gX7_recipe_X7_restore q_X7_restore rfl (by decide) rfl ms0 rfl rfl (Nat.le_of_ble_eq_true rfl) dX7_recipe_108 ⟨Nat.le_refl _, Nat.le_refl _⟩) ?_
      rw [zput_zput]
      refine aw_bipush (v := (-2)) dX7_recipe_111 (by decide) ?_
      exact aw_ireturn rfl dX7_recipe_113 ⟨Nat.zero_le _, Nat.zero_le _⟩ rfl rfl rfl rfl
    · have hlt : k < 2 * c := zlt hk (by omega) c73
      refine aw_aload_0 dX7_recipe_76 ?_
      refine aw_aload_0 dX7_recipe_77 ?_
      refine aw_getI fX7_18 hinX7 (by decide +kernel : Cond.fieldLink RX7 175 RX7 (TX7 18).2.1 (TX7 18).2.2.1 ∈ wsX7_recipe) ms0 dX7_recipe_78 ?_
      try simp (disch := omega) only [zu_up, zup_in, zup_in0, zput_at, zput_a0, zput_zput, zup_eq, zup_ne, va_up_up, nI_clamp]
      rw [h18]
      refine aw_bipush (v := 9) dX7_recipe_81 (by decide) ?_
      refine aw_iload_1 dX7_recipe_83 ?_
      refine aw_iadd dX7_recipe_84 ?_
      rw [show (9 : Int32) = nI 9 from rfl, nI_add]
      refine aw_aload_0 dX7_recipe_85 ?_
      refine aw_getR fX7_21 (fun _ _ => rfl) mp21 hinX7 (by decide +kernel : Cond.fieldLink RX7 47 RX7 (TX7 21).2.1 (TX7 21).2.2.1 ∈ wsX7_recipe) ms0 dX7_recipe_86 ?_
      refine aw_iload_1 dX7_recipe_89 ?_
      refine aw_iaload (by first | exact ms1 | exact ms2 | exact ms3 | exact ms4 | exact ms5 | exact ms6 | exact ms7 | exact ms8 | exact ms9 | exact ms10 | exact ms11 | exact ms12) (vp_in_nI (show k < 10 by omega) (by decide)) dX7_recipe_90 ?_
      try simp (disch := omega) only [zu_up, zup_in, zup_in0, zput_at, zput_a0, zput_zput, zup_eq, zup_ne, va_up_up, nI_clamp]
      refine aw_runv (zRun_V (c_X7_put (t := a) (k := 9 + k) hM zVw.put (by omega)) gX7_recipe_X7_put q_X7_put rfl (by decide) rfl ms0 rfl rfl (Nat.le_of_ble_eq_true rfl) dX7_recipe_91 ⟨Nat.le_refl _, Nat.le_refl _⟩) ?_
      refine aw_iinc_1 (v := 1) (by decide) dX7_recipe_94 ?_
      refine aw_goto (tgt := 66) dX7_recipe_97 (by decide) ?_
      rw [nI_1, zput_zput]
      refine aw_cF (F' := zput F μ 13 (va_up (va_up R 10 (cCopy 462 (R 1) (R 10))) 1 (qLay (R 1) R a (k + 1)))) (by show _ = zput F μ 13 (va_up (va_up R 10 (cCopy 462 (R 1) (R 10))) 1 (upd (qLay (R 1) R a k) (23 * a + (9 + k)) (R 11 k))); simp (disch := omega) only [zup_eq, zup_ne, va_up_up, upd_ne, upd_eq]) ?_
      exact ih (2 * c - (k + 1)) (by omega) (k + 1) (by omega) rfl
  refine aw_aload_0 dX7_recipe_0 ?_
  refine aw_runv (zRun_V (c_X7_readText (L := L) (R := R) hM zVw.put hL h6 eR) gX7_recipe_X7_readText q_X7_readText rfl (by decide) rfl ms0 rfl rfl (Nat.le_of_ble_eq_true rfl) dX7_recipe_1 ⟨Nat.le_refl _, Nat.le_refl _⟩) ?_
  rw [zput_zput]
  refine aw_aload_0 dX7_recipe_4 ?_
  refine aw_getI fX7_22 hinX7 (by decide +kernel : Cond.fieldLink RX7 141 RX7 (TX7 22).2.1 (TX7 22).2.2.1 ∈ wsX7_recipe) ms0 dX7_recipe_5 ?_
  try simp (disch := omega) only [zu_up, zup_in, zup_in0, zput_at, zput_a0, zput_zput, zup_eq, zup_ne, va_up_up, nI_clamp]
  refine aw_bipush (v := (-9)) dX7_recipe_8 (by decide) ?_
  refine aw_icmp_eq (tgt := 32) dX7_recipe_10 (by decide) (fun c10 => ?_) (fun c10 => absurd h0 c10)
  refine aw_aload_0 dX7_recipe_32 ?_
  refine aw_runv (zRun_V (c_X7_hold hM zVw.put) gX7_recipe_X7_hold q_X7_hold rfl (by decide) rfl ms0 rfl rfl (Nat.le_of_ble_eq_true rfl) dX7_recipe_33 ⟨Nat.le_refl _, Nat.le_refl _⟩) ?_
  rw [zput_zput]
  refine aw_cF (F' := zput F μ 13 (va_up R 10 (cCopy 462 (R 1) (R 10)))) rfl ?_
  refine aw_aload_0 dX7_recipe_36 ?_
  refine aw_aload_0 dX7_recipe_37 ?_
  refine aw_getI fX7_18 hinX7 (by decide +kernel : Cond.fieldLink RX7 175 RX7 (TX7 18).2.1 (TX7 18).2.2.1 ∈ wsX7_recipe) ms0 dX7_recipe_38 ?_
  try simp (disch := omega) only [zu_up, zup_in, zup_in0, zput_at, zput_a0, zput_zput, zup_eq, zup_ne, va_up_up, nI_clamp]
  rw [h18]
  refine aw_bipush (v := 7) dX7_recipe_41 (by decide) ?_
  refine aw_aload_0 dX7_recipe_43 ?_
  refine aw_getI fX7_19 hinX7 (by decide +kernel : Cond.fieldLink RX7 163 RX7 (TX7 19).2.1 (TX7 19).2.2.1 ∈ wsX7_recipe) ms0 dX7_recipe_44 ?_
  try simp (disch := omega) only [zu_up, zup_in, zup_in0, zput_at, zput_a0, zput_zput, zup_eq, zup_ne, va_up_up, nI_clamp]
  refine aw_runv (zRun_V (c_X7_put (t := a) (k := 7) hM zVw.put (by omega)) gX7_recipe_X7_put q_X7_put rfl (by decide) rfl ms0 rfl rfl (Nat.le_of_ble_eq_true rfl) dX7_recipe_47 ⟨Nat.le_refl _, Nat.le_refl _⟩) ?_
  rw [zput_zput]
  refine aw_aload_0 dX7_recipe_50 ?_
  refine aw_aload_0 dX7_recipe_51 ?_
  refine aw_getI fX7_18 hinX7 (by decide +kernel : Cond.fieldLink RX7 175 RX7 (TX7 18).2.1 (TX7 18).2.2.1 ∈ wsX7_recipe) ms0 dX7_recipe_52 ?_
  try simp (disch := omega) only [zu_up, zup_in, zup_in0, zput_at, zput_a0, zput_zput, zup_eq, zup_ne, va_up_up, nI_clamp]
  rw [h18]
  refine aw_bipush (v := 8) dX7_recipe_55 (by decide) ?_
  refine aw_aload_0 dX7_recipe_57 ?_
  refine aw_getI fX7_20 hinX7 (by decide +kernel : Cond.fieldLink RX7 169 RX7 (TX7 20).2.1 (TX7 20).2.2.1 ∈ wsX7_recipe) ms0 dX7_recipe_58 ?_
  try simp (disch := omega) only [zu_up, zup_in, zup_in0, zput_at, zput_a0, zput_zput, zup_eq, zup_ne, va_up_up, nI_clamp]
  refine aw_runv (zRun_V (c_X7_put (t := a) (k := 8) hM zVw.put (by omega)) gX7_recipe_X7_put q_X7_put rfl (by decide) rfl ms0 rfl rfl (Nat.le_of_ble_eq_true rfl) dX7_recipe_61 ⟨Nat.le_refl _, Nat.le_refl _⟩) ?_
  refine aw_iconst (v := 0) dX7_recipe_64 (by decide) ?_
  refine aw_istore_1 dX7_recipe_65 ?_
  rw [zput_zput]
  refine aw_cF (F' := zput F μ 13 (va_up (va_up R 10 (cCopy 462 (R 1) (R 10))) 1 (qLay (R 1) R a 0))) (by show _ = zput F μ 13 (va_up (va_up R 10 (cCopy 462 (R 1) (R 10))) 1 (upd (upd (R 1) (23 * a + 7) (R 0 19)) (23 * a + 8) (R 0 20))); simp (disch := omega) only [zup_eq, zup_ne, va_up_up, upd_ne, upd_eq]) ?_
  exact L66 _ 0 (Nat.zero_le _) rfl

set_option maxHeartbeats 1000000 in
set_option maxRecDepth 100000 in
theorem c_X7_recipe_o {sh : zSh} {F : Nat → Nat → Int32} {P : Nat → Nat → Option Nat} {μ : Nat} {G : Nat → Nat → Int32} {L a c p : Nat} {R H V : Nat → Nat → Int32} {w : Bool} (hM : zMd sh P μ) (hG : zVw F μ 13 G) (hL : L ≤ 60) (h6 : G 0 6 = nI L) (eR : zBox (qRead G L = R)) (h0 : R 0 22 = -9) (ha : a < 20) (h18 : R 0 18 = nI a) (hc : c ≤ 5) (h20 : R 0 20 = nI c) (eH : zBox (va_up (mHold R) 1 (qLay (R 1) R a (2 * c)) = H)) (eV : zBox (va_up H 5 (mRanks (H 1) (H 5) 12) = V)) (ew : zBox (mBadRank (mRanks (H 1) (H 5) 12) 20 = w)) (hok : mOk (H 1)) (h : w = false) (hp : p ≤ 8) (h2 : V 0 2 = nI p) (hv18 : V 0 18 = nI a) : zMet yX7_recipe wsX7_recipe (5) (0) (0) [.ref μ] sh F P (some (.int (V 5 a))) sh (zput F μ 13 (mDone (va_up V 0 (upd (V 0) 16 0)) p)) P := by
  refine zMet.of (by decide) rfl (Nat.le_of_ble_eq_true rfl) (by simp [Value.category]) ?_
  intro X ρ
  show AW mX7_recipe X (zMQ mX7_recipe X (some (.int (V 5 a))) sh (zput F μ 13 (mDone (va_up V 0 (upd (V 0) 16 0)) p)) P) 0 [some (.ref μ), none] [] ρ sh F P 0 0
  have hinX7 : ∀ w ∈ u_ws RX7 TX7 29, w ∈ wsX7_recipe := by decide +kernel
  obtain ⟨ms0, ⟨mp0, mp1, mp3, mp5, mp9, mp10, mp11, mp12, mp13, mp17, mp21, mp28⟩, ms1, ms2, ms3, ms4, ms5, ms6, ms7, ms8, ms9, ms10, ms11, ms12⟩ := id hM
  refine aw_cF (F' := zput F μ 13 G) (zput_view hG).symm ?_
  have L66 : ∀ (m k : Nat), k ≤ 2 * c → 2 * c - k = m → AW mX7_recipe X (zMQ mX7_recipe X (some (.int (V 5 a))) sh (zput F μ 13 (mDone (va_up V 0 (upd (V 0) 16 0)) p)) P) 66 [some (.ref μ), some (.int (nI k))] [] ρ sh (zput F μ 13 (va_up (va_up R 10 (cCopy 462 (R 1) (R 10))) 1 (qLay (R 1) R a k))) P 0 0 := by
    intro m
    induction m using Nat.strongRecOn with
    | _ m ih =>
    intro k hk hm
    refine aw_iload_1 dX7_recipe_66 ?_
    refine aw_iconst (v := 2) dX7_recipe_67 (by decide) ?_
    refine aw_aload_0 dX7_recipe_68 ?_
    refine aw_getI fX7_20 hinX7 (by decide +kernel : Cond.fieldLink RX7 169 RX7 (TX7 20).2.1 (TX7 20).2.2.1 ∈ wsX7_recipe) ms0 dX7_recipe_69 ?_
    try simp (disch := omega) only [zu_up, zup_in, zup_in0, zput_at, zput_a0, zput_zput, zup_eq, zup_ne, va_up_up, nI_clamp]
    rw [h20]
    refine aw_imul dX7_recipe_72 ?_
    rw [show (2 : Int32) = nI 2 from rfl, pk_mul]
    refine aw_icmp_ge (tgt := 100) dX7_recipe_73 (by decide) (fun c73 => ?_) (fun c73 => ?_)
    · rw [zend hk (by omega) c73]
      refine aw_cF (F' := zput F μ 13 H) (by rw [← eH.out]; rfl) ?_
      refine aw_aload_0 dX7_recipe_100 ?_
      refine aw_run (zRun_V (c_X7_areRanks (G := H) hM zVw.put hok) gX7_recipe_X7_areRanks q_X7_areRanks rfl (by decide) rfl ms0 rfl rfl (Nat.le_of_ble_eq_true rfl) dX7_recipe_101 ⟨Nat.le_refl _, Nat.le_refl _⟩) ?_
      rw [zput_zput, eV.out, ew.out]
      refine aw_if_ne (tgt := 114) dX7_recipe_104 (by decide) (fun c104 => ?_) (fun c104 => absurd c104 (by rw [h]; decide))
      refine aw_aload_0 dX7_recipe_114 ?_
      refine aw_iconst (v := 0) dX7_recipe_115 (by decide) ?_
      refine aw_putZ (by decide) fX7_16 rfl hinX7 (by decide +kernel : Cond.fieldLink RX7 80 RX7 (TX7 16).2.1 (TX7 16).2.2.1 ∈ wsX7_recipe) ms0 dX7_recipe_116 ?_
      simp (disch := omega) only [zu_up, zup_in, zup_in0, zput_at, zput_a0, zput_zput, zup_eq, zup_ne, va_up_up, nI_clamp]
      refine aw_aload_0 dX7_recipe_119 ?_
      refine aw_run (zRun_V (c_X7_endMaking_o (p := p) hM zVw.put (by rw [zup_eq, upd_eq]) hp (by rw [zup_eq, upd_ne (by decide)]; exact h2)) gX7_recipe_X7_endMaking q_X7_endMaking rfl (by decide) rfl ms0 rfl rfl (Nat.le_of_ble_eq_true rfl) dX7_recipe_120 ⟨Nat.le_refl _, Nat.le_refl _⟩) ?_
      rw [zput_zput]
      refine aw_istore_1 dX7_recipe_123 ?_
      refine aw_aload_0 dX7_recipe_124 ?_
      refine aw_getR fX7_9 (fun _ _ => rfl) mp9 hinX7 (by decide +kernel : Cond.fieldLink RX7 29 RX7 (TX7 9).2.1 (TX7 9).2.2.1 ∈ wsX7_recipe) ms0 dX7_recipe_125 ?_
      refine aw_aload_0 dX7_recipe_128 ?_
      refine aw_getI fX7_18 hinX7 (by decide +kernel : Cond.fieldLink RX7 175 RX7 (TX7 18).2.1 (TX7 18).2.2.1 ∈ wsX7_recipe) ms0 dX7_recipe_129 ?_
      try simp (disch := omega) only [zu_up, zup_in, zup_in0, zput_at, zput_a0, zput_zput, zup_eq, zup_ne, va_up_up, nI_clamp]
      rw [mDone_0 (by decide), zup_eq, upd_ne (by decide), hv18]
      refine aw_iaload (by first | exact ms1 | exact ms2 | exact ms3 | exact ms4 | exact ms5 | exact ms6 | exact ms7 | exact ms8 | exact ms9 | exact ms10 | exact ms11 | exact ms12) (vp_in_nI ha (by decide)) dX7_recipe_132 ?_
      try simp (disch := omega) only [zu_up, zup_in, zup_in0, zput_at, zput_a0, zput_zput, zup_eq, zup_ne, va_up_up, nI_clamp]
      rw [mDone_5, zup_ne (by decide)]
      exact aw_ireturn rfl dX7_recipe_133 ⟨Nat.zero_le _, Nat.zero_le _⟩ rfl rfl rfl rfl
    · have hlt : k < 2 * c := zlt hk (by omega) c73
      refine aw_aload_0 dX7_recipe_76 ?_
      refine aw_aload_0 dX7_recipe_77 ?_
      refine aw_getI fX7_18 hinX7 (by decide +kernel : Cond.fieldLink RX7 175 RX7 (TX7 18).2.1 (TX7 18).2.2.1 ∈ wsX7_recipe) ms0 dX7_recipe_78 ?_
      try simp (disch := omega) only [zu_up, zup_in, zup_in0, zput_at, zput_a0, zput_zput, zup_eq, zup_ne, va_up_up, nI_clamp]
      rw [h18]
      refine aw_bipush (v := 9) dX7_recipe_81 (by decide) ?_
      refine aw_iload_1 dX7_recipe_83 ?_
      refine aw_iadd dX7_recipe_84 ?_
      rw [show (9 : Int32) = nI 9 from rfl, nI_add]
      refine aw_aload_0 dX7_recipe_85 ?_
      refine aw_getR fX7_21 (fun _ _ => rfl) mp21 hinX7 (by decide +kernel : Cond.fieldLink RX7 47 RX7 (TX7 21).2.1 (TX7 21).2.2.1 ∈ wsX7_recipe) ms0 dX7_recipe_86 ?_
      refine aw_iload_1 dX7_recipe_89 ?_
      refine aw_iaload (by first | exact ms1 | exact ms2 | exact ms3 | exact ms4 | exact ms5 | exact ms6 | exact ms7 | exact ms8 | exact ms9 | exact ms10 | exact ms11 | exact ms12) (vp_in_nI (show k < 10 by omega) (by decide)) dX7_recipe_90 ?_
      try simp (disch := omega) only [zu_up, zup_in, zup_in0, zput_at, zput_a0, zput_zput, zup_eq, zup_ne, va_up_up, nI_clamp]
      refine aw_runv (zRun_V (c_X7_put (t := a) (k := 9 + k) hM zVw.put (by omega)) gX7_recipe_X7_put q_X7_put rfl (by decide) rfl ms0 rfl rfl (Nat.le_of_ble_eq_true rfl) dX7_recipe_91 ⟨Nat.le_refl _, Nat.le_refl _⟩) ?_
      refine aw_iinc_1 (v := 1) (by decide) dX7_recipe_94 ?_
      refine aw_goto (tgt := 66) dX7_recipe_97 (by decide) ?_
      rw [nI_1, zput_zput]
      refine aw_cF (F' := zput F μ 13 (va_up (va_up R 10 (cCopy 462 (R 1) (R 10))) 1 (qLay (R 1) R a (k + 1)))) (by show _ = zput F μ 13 (va_up (va_up R 10 (cCopy 462 (R 1) (R 10))) 1 (upd (qLay (R 1) R a k) (23 * a + (9 + k)) (R 11 k))); simp (disch := omega) only [zup_eq, zup_ne, va_up_up, upd_ne, upd_eq]) ?_
      exact ih (2 * c - (k + 1)) (by omega) (k + 1) (by omega) rfl
  refine aw_aload_0 dX7_recipe_0 ?_
  refine aw_runv (zRun_V (c_X7_readText (L := L) (R := R) hM zVw.put hL h6 eR) gX7_recipe_X7_readText q_X7_readText rfl (by decide) rfl ms0 rfl rfl (Nat.le_of_ble_eq_true rfl) dX7_recipe_1 ⟨Nat.le_refl _, Nat.le_refl _⟩) ?_
  rw [zput_zput]
  refine aw_aload_0 dX7_recipe_4 ?_
  refine aw_getI fX7_22 hinX7 (by decide +kernel : Cond.fieldLink RX7 141 RX7 (TX7 22).2.1 (TX7 22).2.2.1 ∈ wsX7_recipe) ms0 dX7_recipe_5 ?_
  try simp (disch := omega) only [zu_up, zup_in, zup_in0, zput_at, zput_a0, zput_zput, zup_eq, zup_ne, va_up_up, nI_clamp]
  refine aw_bipush (v := (-9)) dX7_recipe_8 (by decide) ?_
  refine aw_icmp_eq (tgt := 32) dX7_recipe_10 (by decide) (fun c10 => ?_) (fun c10 => absurd h0 c10)
  refine aw_aload_0 dX7_recipe_32 ?_
  refine aw_runv (zRun_V (c_X7_hold hM zVw.put) gX7_recipe_X7_hold q_X7_hold rfl (by decide) rfl ms0 rfl rfl (Nat.le_of_ble_eq_true rfl) dX7_recipe_33 ⟨Nat.le_refl _, Nat.le_refl _⟩) ?_
  rw [zput_zput]
  refine aw_cF (F' := zput F μ 13 (va_up R 10 (cCopy 462 (R 1) (R 10)))) rfl ?_
  refine aw_aload_0 dX7_recipe_36 ?_
  refine aw_aload_0 dX7_recipe_37 ?_
  refine aw_getI fX7_18 hinX7 (by decide +kernel : Cond.fieldLink RX7 175 RX7 (TX7 18).2.1 (TX7 18).2.2.1 ∈ wsX7_recipe) ms0 dX7_recipe_38 ?_
  try simp (disch := omega) only [zu_up, zup_in, zup_in0, zput_at, zput_a0, zput_zput, zup_eq, zup_ne, va_up_up, nI_clamp]
  rw [h18]
  refine aw_bipush (v := 7) dX7_recipe_41 (by decide) ?_
  refine aw_aload_0 dX7_recipe_43 ?_
  refine aw_getI fX7_19 hinX7 (by decide +kernel : Cond.fieldLink RX7 163 RX7 (TX7 19).2.1 (TX7 19).2.2.1 ∈ wsX7_recipe) ms0 dX7_recipe_44 ?_
  try simp (disch := omega) only [zu_up, zup_in, zup_in0, zput_at, zput_a0, zput_zput, zup_eq, zup_ne, va_up_up, nI_clamp]
  refine aw_runv (zRun_V (c_X7_put (t := a) (k := 7) hM zVw.put (by omega)) gX7_recipe_X7_put q_X7_put rfl (by decide) rfl ms0 rfl rfl (Nat.le_of_ble_eq_true rfl) dX7_recipe_47 ⟨Nat.le_refl _, Nat.le_refl _⟩) ?_
  rw [zput_zput]
  refine aw_aload_0 dX7_recipe_50 ?_
  refine aw_aload_0 dX7_recipe_51 ?_
  refine aw_getI fX7_18 hinX7 (by decide +kernel : Cond.fieldLink RX7 175 RX7 (TX7 18).2.1 (TX7 18).2.2.1 ∈ wsX7_recipe) ms0 dX7_recipe_52 ?_
  try simp (disch := omega) only [zu_up, zup_in, zup_in0, zput_at, zput_a0, zput_zput, zup_eq, zup_ne, va_up_up, nI_clamp]
  rw [h18]
  refine aw_bipush (v := 8) dX7_recipe_55 (by decide) ?_
  refine aw_aload_0 dX7_recipe_57 ?_
  refine aw_getI fX7_20 hinX7 (by decide +kernel : Cond.fieldLink RX7 169 RX7 (TX7 20).2.1 (TX7 20).2.2.1 ∈ wsX7_recipe) ms0 dX7_recipe_58 ?_
  try simp (disch := omega) only [zu_up, zup_in, zup_in0, zput_at, zput_a0, zput_zput, zup_eq, zup_ne, va_up_up, nI_clamp]
  refine aw_runv (zRun_V (c_X7_put (t := a) (k := 8) hM zVw.put (by omega)) gX7_recipe_X7_put q_X7_put rfl (by decide) rfl ms0 rfl rfl (Nat.le_of_ble_eq_true rfl) dX7_recipe_61 ⟨Nat.le_refl _, Nat.le_refl _⟩) ?_
  refine aw_iconst (v := 0) dX7_recipe_64 (by decide) ?_
  refine aw_istore_1 dX7_recipe_65 ?_
  rw [zput_zput]
  refine aw_cF (F' := zput F μ 13 (va_up (va_up R 10 (cCopy 462 (R 1) (R 10))) 1 (qLay (R 1) R a 0))) (by show _ = zput F μ 13 (va_up (va_up R 10 (cCopy 462 (R 1) (R 10))) 1 (upd (upd (R 1) (23 * a + 7) (R 0 19)) (23 * a + 8) (R 0 20))); simp (disch := omega) only [zup_eq, zup_ne, va_up_up, upd_ne, upd_eq]) ?_
  exact L66 _ 0 (Nat.zero_le _) rfl

abbrev mX7_share : ZM := (cX7_share, RX7, wsX7_share, 2, 0, 0, (some .float), 3, yX7_share.name)
set_option maxHeartbeats 1000000 in
set_option maxRecDepth 100000 in
theorem c_X7_share {sh : zSh} {F : Nat → Nat → Int32} {P : Nat → Nat → Option Nat} {μ : Nat} {G : Nat → Nat → Int32} {g s : Nat} (hM : zMd sh P μ) (hG : zVw F μ 13 G) (hg : G 1 460 = nI g) (hs : mSumM (G 1) 20 = nI s) (hb : g + s < 2147483648) : zMet yX7_share wsX7_share (2) (0) (0) [.ref μ] sh F P (some (.float (eShare (nI g) (nI (g + s))))) sh F P := by
  refine zMet.of (by decide) rfl (Nat.le_of_ble_eq_true rfl) (by simp [Value.category]) ?_
  intro X ρ
  show AW mX7_share X (zMQ mX7_share X (some (.float (eShare (nI g) (nI (g + s))))) sh F P) 0 [some (.ref μ), none, none] [] ρ sh F P 0 0
  have hinX7 : ∀ w ∈ u_ws RX7 TX7 29, w ∈ wsX7_share := by decide +kernel
  obtain ⟨ms0, ⟨mp0, mp1, mp3, mp5, mp9, mp10, mp11, mp12, mp13, mp17, mp21, mp28⟩, ms1, ms2, ms3, ms4, ms5, ms6, ms7, ms8, ms9, ms10, ms11, ms12⟩ := id hM
  refine aw_cF (F' := zput F μ 13 G) (zput_view hG).symm ?_
  have L4 : ∀ (m k : Nat), k ≤ 20 → 20 - k = m → AW mX7_share X (zMQ mX7_share X (some (.float (eShare (nI g) (nI (g + s))))) sh F P) 4 [some (.ref μ), some (.int (mSumM (G 1) k)), some (.int (nI k))] [] ρ sh (zput F μ 13 G) P 0 0 := by
    intro m
    induction m using Nat.strongRecOn with
    | _ m ih =>
    intro k hk hm
    refine aw_iload_2 dX7_share_4 ?_
    refine aw_bipush (v := 20) dX7_share_5 (by decide) ?_
    refine aw_icmp_ge (tgt := 25) dX7_share_7 (by decide) (fun c7 => ?_) (fun c7 => ?_)
    · rw [zend (n := 20) hk (by decide) c7]
      refine aw_iload_1 dX7_share_25 ?_
      refine aw_aload_0 dX7_share_26 ?_
      refine aw_getR fX7_0 (fun _ _ => rfl) mp0 hinX7 (by decide +kernel : Cond.fieldLink RX7 7 RX7 (TX7 0).2.1 (TX7 0).2.2.1 ∈ wsX7_share) ms0 dX7_share_27 ?_
      refine aw_sipush (v := 460) dX7_share_30 (by decide) ?_
      refine aw_iaload (by first | exact ms1 | exact ms2 | exact ms3 | exact ms4 | exact ms5 | exact ms6 | exact ms7 | exact ms8 | exact ms9 | exact ms10 | exact ms11 | exact ms12) (show vp_in (nI 460) 462 from vp_in_nI (by decide) (by decide)) dX7_share_33 ?_
      rw [show (460 : Int32).toNatClampNeg = 460 from by decide]
      try simp (disch := omega) only [zu_up, zup_in, zup_in0, zput_at, zput_a0, zput_zput, zup_eq, zup_ne, va_up_up, nI_clamp]
      rw [hg, hs]
      refine aw_iadd dX7_share_34 ?_
      rw [nI_add, Nat.add_comm s g]
      refine aw_istore_2 dX7_share_35 ?_
      refine aw_iload_2 dX7_share_36 ?_
      refine aw_if_ne (tgt := 44) dX7_share_37 (by decide) (fun c37 => ?_) (fun c37 => ?_)
      · refine aw_aload_0 dX7_share_44 ?_
        refine aw_getR fX7_0 (fun _ _ => rfl) mp0 hinX7 (by decide +kernel : Cond.fieldLink RX7 7 RX7 (TX7 0).2.1 (TX7 0).2.2.1 ∈ wsX7_share) ms0 dX7_share_45 ?_
        refine aw_sipush (v := 460) dX7_share_48 (by decide) ?_
        refine aw_iaload (by first | exact ms1 | exact ms2 | exact ms3 | exact ms4 | exact ms5 | exact ms6 | exact ms7 | exact ms8 | exact ms9 | exact ms10 | exact ms11 | exact ms12) (show vp_in (nI 460) 462 from vp_in_nI (by decide) (by decide)) dX7_share_51 ?_
        rw [show (460 : Int32).toNatClampNeg = 460 from by decide]
        try simp (disch := omega) only [zu_up, zup_in, zup_in0, zput_at, zput_a0, zput_zput, zup_eq, zup_ne, va_up_up, nI_clamp]
        rw [hg]
        refine aw_i2f dX7_share_52 ?_
        refine aw_iload_2 dX7_share_53 ?_
        refine aw_i2f dX7_share_54 ?_
        refine aw_fdiv (fShare_n c37 hb) dX7_share_55 ?_
        exact aw_freturn rfl dX7_share_56 ⟨Nat.zero_le _, Nat.zero_le _⟩ (by unfold eShare; first | (rw [if_pos c37]; done) | (rw [if_neg c37]; done)) rfl (zput_view hG) rfl
      · refine aw_fconst0 dX7_share_40 ?_
        refine aw_goto (tgt := 56) dX7_share_41 (by decide) ?_
        exact aw_freturn rfl dX7_share_56 ⟨Nat.zero_le _, Nat.zero_le _⟩ (by unfold eShare; first | (rw [if_pos c37]; done) | (rw [if_neg c37]; done)) rfl (zput_view hG) rfl
    · have hlt : k < 20 := zlt (n := 20) hk (by decide) c7
      refine aw_iload_1 dX7_share_10 ?_
      refine aw_aload_0 dX7_share_11 ?_
      refine aw_iload_2 dX7_share_12 ?_
      refine aw_iconst (v := 3) dX7_share_13 (by decide) ?_
      refine aw_run (zRun_V (c_X7_of (t := k) (k := 3) hM zVw.put (by omega)) gX7_share_X7_of q_X7_of rfl (by decide) rfl ms0 rfl rfl (Nat.le_of_ble_eq_true rfl) dX7_share_14 ⟨Nat.le_refl _, Nat.le_refl _⟩) ?_
      refine aw_iadd dX7_share_17 ?_
      rw [show mSumM (G 1) k + G 1 (23 * k + 3) = mSumM (G 1) (k + 1) from rfl]
      refine aw_istore_1 dX7_share_18 ?_
      refine aw_iinc_2 (v := 1) (by decide) dX7_share_19 ?_
      refine aw_goto (tgt := 4) dX7_share_22 (by decide) ?_
      rw [nI_1]
      exact ih (20 - (k + 1)) (by omega) (k + 1) (by omega) rfl
  refine aw_iconst (v := 0) dX7_share_0 (by decide) ?_
  refine aw_istore_1 dX7_share_1 ?_
  refine aw_iconst (v := 0) dX7_share_2 (by decide) ?_
  refine aw_istore_2 dX7_share_3 ?_
  exact L4 _ 0 (Nat.zero_le _) rfl

abbrev mX6_share : ZM := (cX6_share, RX6, wsX6_share, 2, 0, 0, (some .float), 3, yX6_share.name)
set_option maxHeartbeats 1000000 in
set_option maxRecDepth 100000 in
theorem c_X6_share {sh : zSh} {F : Nat → Nat → Int32} {P : Nat → Nat → Option Nat} {χ : Nat} {g s : Nat} (hY : zSys sh P χ) (hg : cSum (F (χ + 21)) 20 = nI g) (hs : cSum (F (χ + 22)) 20 = nI s) (hb : g + s < 2147483648) : zMet yX6_share wsX6_share (2) (0) (0) [.ref χ] sh F P (some (.float (eShare (nI g) (nI (g + s))))) sh F P := by
  refine zMet.of (by decide) rfl (Nat.le_of_ble_eq_true rfl) (by simp [Value.category]) ?_
  intro X ρ
  show AW mX6_share X (zMQ mX6_share X (some (.float (eShare (nI g) (nI (g + s))))) sh F P) 0 [some (.ref χ), none, none] [] ρ sh F P 0 0
  have hinX6 : ∀ w ∈ u_ws RX6 TX6 11, w ∈ wsX6_share := by decide +kernel
  have hinX4 : ∀ w ∈ u_ws RX4 TX4 7, w ∈ wsX6_share := by decide +kernel
  obtain ⟨⟨ts, tp0, tp1, tp2, tp3, tp4, tp5, tp6, tp7, ti, tx⟩, hB, hD, hS, hW, hH, hR, hPl, hIm⟩ := id hY
  have hb0 := hB.1
  have hd0 := hD.1
  obtain ⟨hs0, ⟨sp0, sp1, sp2, sp3, sp4, sp5⟩, sh1, sh2, sh3, sh4, sh5, sh6⟩ := id hS
  have hw0 := hW.1
  have hh0 := hH.1
  have hr0 := hR.1
  refine aw_aload_0 dX6_share_0 ?_
  refine aw_getR fX6_2 (fun _ _ => rfl) (by assumption) hinX6 (by decide +kernel : Cond.fieldLink RX6 22 RX6 (TX6 2).2.1 (TX6 2).2.2.1 ∈ wsX6_share) (by assumption) dX6_share_1 ?_
  refine aw_getRN (q := 2) fX4_1 (fun _ _ => rfl) (by assumption) hinX4 rfl (by assumption) dX6_share_4 ?_
  refine aw_run (zRun_S (c_X6_sum (by assumption) (by decide)) (Or.inl gX6_share_X6_sum) q_X6_sum (by decide) rfl rfl (Nat.le_of_ble_eq_true rfl) dX6_share_7 ⟨Nat.le_refl _, Nat.le_refl _⟩) ?_
  rw [hg]
  refine aw_istore_1 dX6_share_10 ?_
  refine aw_iload_1 dX6_share_11 ?_
  refine aw_aload_0 dX6_share_12 ?_
  refine aw_getR fX6_2 (fun _ _ => rfl) (by assumption) hinX6 (by decide +kernel : Cond.fieldLink RX6 22 RX6 (TX6 2).2.1 (TX6 2).2.2.1 ∈ wsX6_share) (by assumption) dX6_share_13 ?_
  refine aw_getRN (q := 4) fX4_2 (fun _ _ => rfl) (by assumption) hinX4 rfl (by assumption) dX6_share_16 ?_
  refine aw_run (zRun_S (c_X6_sum (by assumption) (by decide)) (Or.inl gX6_share_X6_sum) q_X6_sum (by decide) rfl rfl (Nat.le_of_ble_eq_true rfl) dX6_share_19 ⟨Nat.le_refl _, Nat.le_refl _⟩) ?_
  rw [hs]
  refine aw_iadd dX6_share_22 ?_
  rw [nI_add]
  refine aw_istore_2 dX6_share_23 ?_
  refine aw_iload_2 dX6_share_24 ?_
  refine aw_if_gt (tgt := 30) dX6_share_25 (by decide) (fun c25 => ?_) (fun c25 => ?_)
  · refine aw_iload_1 dX6_share_30 ?_
    refine aw_i2f dX6_share_31 ?_
    refine aw_iload_2 dX6_share_32 ?_
    refine aw_i2f dX6_share_33 ?_
    refine aw_fdiv (fShare_n (fun e => absurd c25 (by rw [e]; decide)) hb) dX6_share_34 ?_
    exact aw_freturn rfl dX6_share_35 ⟨Nat.zero_le _, Nat.zero_le _⟩ (by unfold eShare; rw [if_neg (fun e => absurd c25 (by rw [e]; decide))]) rfl rfl rfl
  · refine aw_fconst0 dX6_share_28 ?_
    exact aw_freturn rfl dX6_share_29 ⟨Nat.zero_le _, Nat.zero_le _⟩ (by unfold eShare; rw [if_pos (nI_le0 (by first | exact Int32.not_lt.mp c25 | exact c25) hb)]) rfl rfl rfl

def jSh (sh : zSh) (μ : Nat) : zSh := va_up (va_up (va_up (va_up (va_up (va_up (va_up (va_up (va_up (va_up (va_up (va_up (sh) (μ + 1) (some (.inr (0, 462)))) (μ + 2) (some (.inr (0, 3696)))) (μ + 3) (some (.inr (0, 924)))) (μ + 4) (some (.inr (0, 60)))) (μ + 5) (some (.inr (0, 20)))) (μ + 6) (some (.inr (0, 16)))) (μ + 7) (some (.inr (0, 16)))) (μ + 8) (some (.inr (0, 16)))) (μ + 9) (some (.inr (0, 16)))) (μ + 10) (some (.inr (0, 462)))) (μ + 11) (some (.inr (0, 10)))) (μ + 12) (some (.inr (1, 20)))
def jF (F : Nat → Nat → Int32) (μ : Nat) : Nat → Nat → Int32 := va_up (va_up (va_up (va_up (va_up (va_up (va_up (va_up (zu (zu (va_up (va_up (va_up (va_up (F) (μ + 1) (fun _ => 0)) (μ + 2) (fun _ => 0)) (μ + 3) (fun _ => 0)) (μ + 4) (fun _ => 0)) μ 7 (-9)) μ 8 (-9)) (μ + 5) (fun _ => 0)) (μ + 6) (fun _ => 0)) (μ + 7) (fun _ => 0)) (μ + 8) (fun _ => 0)) (μ + 9) (fun _ => 0)) (μ + 10) (fun _ => 0)) (μ + 11) (fun _ => 0)) (μ + 12) (fun _ => 0)
def jP (P : Nat → Nat → Option Nat) (μ : Nat) : Nat → Nat → Option Nat := zuP (va_up (zuP (va_up (zuP (va_up (zuP (va_up (zuP (va_up (zuP (va_up (zuP (va_up (zuP (va_up (zuP (va_up (zuP (va_up (zuP (va_up (zuP (va_up (P) (μ + 1) (fun _ => none)) μ 0 (some (μ + 1))) (μ + 2) (fun _ => none)) μ 1 (some (μ + 2))) (μ + 3) (fun _ => none)) μ 3 (some (μ + 3))) (μ + 4) (fun _ => none)) μ 5 (some (μ + 4))) (μ + 5) (fun _ => none)) μ 9 (some (μ + 5))) (μ + 6) (fun _ => none)) μ 10 (some (μ + 6))) (μ + 7) (fun _ => none)) μ 11 (some (μ + 7))) (μ + 8) (fun _ => none)) μ 12 (some (μ + 8))) (μ + 9) (fun _ => none)) μ 13 (some (μ + 9))) (μ + 10) (fun _ => none)) μ 17 (some (μ + 10))) (μ + 11) (fun _ => none)) μ 21 (some (μ + 11))) (μ + 12) (fun _ => none)) μ 28 (some (μ + 12))
def jG (k : Nat) : Nat → Nat → Int32 := va_up (va_up zZero 0 (upd (upd (fun _ => 0) 7 (-9)) 8 (-9))) 1 (it (fun t w => upd w (23 * t + 1) (-9)) k (fun _ => 0))
theorem zu_eq {F : Nat → Nat → Int32} {i k : Nat} {x : Int32} : zu F i k x i = upd (F i) k x := by
  rw [zu_up, zup_eq]
theorem zu_ne {F : Nat → Nat → Int32} {i j k : Nat} {x : Int32} (h : j ≠ i) : zu F i k x j = F j := by
  rw [zu_up, zup_ne h]
theorem jMd {sh : zSh} {P : Nat → Nat → Option Nat} {μ : Nat} (hs : sh μ = some (.inl 7)) : zMd (jSh sh μ) (jP P μ) μ := by
  unfold jSh jP
  refine ⟨by simp (disch := omega) only [zup_ne, hs], ⟨?_, ?_, ?_, ?_, ?_, ?_, ?_, ?_, ?_, ?_, ?_, ?_⟩, ?_, ?_, ?_, ?_, ?_, ?_, ?_, ?_, ?_, ?_, ?_, ?_⟩
  all_goals simp (disch := omega) only [zup_ne, zup_eq, zuP_eq, zuP_ne]
theorem jVw {F : Nat → Nat → Int32} {μ : Nat} (hF : F μ = fun _ => 0) : zVw (jF F μ) μ 13 (jG 0) := by
  intro j hj
  unfold jF jG
  have : j = 0 ∨ j = 1 ∨ j = 2 ∨ j = 3 ∨ j = 4 ∨ j = 5 ∨ j = 6 ∨ j = 7 ∨ j = 8 ∨ j = 9 ∨ j = 10 ∨ j = 11 ∨ j = 12 := by omega
  rcases this with rfl | rfl | rfl | rfl | rfl | rfl | rfl | rfl | rfl | rfl | rfl | rfl | rfl
  all_goals simp (disch := omega) only [zup_ne, zup_eq, zu_eq, zu_ne, Nat.add_zero, hF]
  all_goals rfl

abbrev mX7_init : ZM := (cX7_init, RX7, wsX7_init, 2, 12, 5718, none, 2, yX7_init.name)
set_option maxHeartbeats 1000000 in
set_option maxRecDepth 100000 in
theorem c_X7_init {sh : zSh} {F : Nat → Nat → Int32} {P : Nat → Nat → Option Nat} {μ : Nat} (hs : sh μ = some (.inl 7)) (hfree : ∀ j, 0 < j → j < 13 → sh (μ + j) = none) (hF : F μ = fun _ => 0) (hP : P μ = fun _ => none) : zMet yX7_init wsX7_init (2) (12) (5718) [.ref μ] sh F P (none) (jSh sh μ) (zput (jF F μ) μ 13 (jG 20)) (jP P μ) := by
  refine zMet.of (by decide) rfl (Nat.le_of_ble_eq_true rfl) (by simp [Value.category]) ?_
  intro X ρ
  show AW mX7_init X (zMQ mX7_init X (none) (jSh sh μ) (zput (jF F μ) μ 13 (jG 20)) (jP P μ)) 0 [some (.ref μ), none] [] ρ sh F P 0 0
  have hinX7 : ∀ w ∈ u_ws RX7 TX7 29, w ∈ wsX7_init := by decide +kernel
  have hMd := jMd (P := P) hs
  have L118 : ∀ (m k : Nat) (ρ : Nat → Nat), k ≤ 20 → 20 - k = m → AW mX7_init X (zMQ mX7_init X (none) (jSh sh μ) (zput (jF F μ) μ 13 (jG 20)) (jP P μ)) 118 [some (.ref μ), some (.int (nI k))] [] ρ (jSh sh μ) (zput (jF F μ) μ 13 (jG k)) (jP P μ) 12 5718 := by
    intro m
    induction m using Nat.strongRecOn with
    | _ m ih =>
    intro k ρ hk hm
    refine aw_iload_1 dX7_init_118 ?_
    refine aw_bipush (v := 20) dX7_init_119 (by decide) ?_
    refine aw_icmp_ge (tgt := 138) dX7_init_121 (by decide) (fun c121 => ?_) (fun c121 => ?_)
    · exact aw_return rfl dX7_init_138 (by decide) rfl rfl (by rw [zend (n := 20) hk (by decide) c121]) rfl
    · have hlt : k < 20 := zlt (n := 20) hk (by decide) c121
      refine aw_aload_0 dX7_init_124 ?_
      refine aw_iload_1 dX7_init_125 ?_
      refine aw_iconst (v := 1) dX7_init_126 (by decide) ?_
      refine aw_bipush (v := (-9)) dX7_init_127 (by decide) ?_
      refine aw_runv (zRun_V (c_X7_put (t := k) (k := 1) hMd zVw.put (by omega)) gX7_init_X7_put q_X7_put rfl (by decide) rfl hMd.1 rfl rfl (Nat.le_of_ble_eq_true rfl) dX7_init_129 ⟨by decide, by decide⟩) ?_
      refine aw_iinc_1 (v := 1) (by decide) dX7_init_132 ?_
      refine aw_goto (tgt := 118) dX7_init_135 (by decide) ?_
      rw [nI_1, zput_zput]
      refine aw_cF (F' := zput (jF F μ) μ 13 (jG (k + 1))) (by unfold jG; rw [zup_eq, va_up_up]; rfl) ?_
      exact ih (20 - (k + 1)) (by omega) (k + 1) _ (by omega) rfl
  refine aw_aload_0 dX7_init_0 ?_
  refine aw_objInit (by decide +kernel) (by decide +kernel) (by decide +kernel) dX7_init_1 (by simp [Value.category]) ?_
  refine aw_aload_0 dX7_init_4 ?_
  refine aw_sipush (v := 462) dX7_init_5 (by decide) ?_
  refine aw_newI (i := μ + 1) (N := 462) (by decide +kernel : Cond.arrayClass .int ∈ wsX7_init) (by decide) (by decide) (by decide) (by simp (disch := omega) only [zup_ne, hfree]) (zrefs_new (by simp; try omega) (by simp; try omega) (by simp (disch := omega) only [zup_ne, hfree])) (by decide) dX7_init_8 (fun ρ => ?_)
  refine aw_putF fX7_0 (fun _ _ => rfl) (fun _ => rfl) (fun _ => rfl) rfl rfl rfl (by simp (disch := omega) [zup_eq]) hinX7 (by decide +kernel : Cond.fieldLink RX7 7 RX7 (TX7 0).2.1 (TX7 0).2.2.1 ∈ wsX7_init) (by simp (disch := omega) only [zup_ne, zup_eq, hs]) dX7_init_10 ?_
  refine aw_aload_0 dX7_init_13 ?_
  refine aw_sipush (v := 3696) dX7_init_14 (by decide) ?_
  refine aw_newI (i := μ + 2) (N := 3696) (by decide +kernel : Cond.arrayClass .int ∈ wsX7_init) (by decide) (by decide) (by decide) (by simp (disch := omega) only [zup_ne, hfree]) (zrefs_new (by simp; try omega) (by simp; try omega) (by simp (disch := omega) only [zup_ne, hfree])) (by decide) dX7_init_17 (fun ρ => ?_)
  refine aw_putF fX7_1 (fun _ _ => rfl) (fun _ => rfl) (fun _ => rfl) rfl rfl rfl (by simp (disch := omega) [zup_eq]) hinX7 (by decide +kernel : Cond.fieldLink RX7 13 RX7 (TX7 1).2.1 (TX7 1).2.2.1 ∈ wsX7_init) (by simp (disch := omega) only [zup_ne, zup_eq, hs]) dX7_init_19 ?_
  refine aw_aload_0 dX7_init_22 ?_
  refine aw_sipush (v := 924) dX7_init_23 (by decide) ?_
  refine aw_newI (i := μ + 3) (N := 924) (by decide +kernel : Cond.arrayClass .int ∈ wsX7_init) (by decide) (by decide) (by decide) (by simp (disch := omega) only [zup_ne, hfree]) (zrefs_new (by simp; try omega) (by simp; try omega) (by simp (disch := omega) only [zup_ne, hfree])) (by decide) dX7_init_26 (fun ρ => ?_)
  refine aw_putF fX7_3 (fun _ _ => rfl) (fun _ => rfl) (fun _ => rfl) rfl rfl rfl (by simp (disch := omega) [zup_eq]) hinX7 (by decide +kernel : Cond.fieldLink RX7 16 RX7 (TX7 3).2.1 (TX7 3).2.2.1 ∈ wsX7_init) (by simp (disch := omega) only [zup_ne, zup_eq, hs]) dX7_init_28 ?_
  refine aw_aload_0 dX7_init_31 ?_
  refine aw_bipush (v := 60) dX7_init_32 (by decide) ?_
  refine aw_newI (i := μ + 4) (N := 60) (by decide +kernel : Cond.arrayClass .int ∈ wsX7_init) (by decide) (by decide) (by decide) (by simp (disch := omega) only [zup_ne, hfree]) (zrefs_new (by simp; try omega) (by simp; try omega) (by simp (disch := omega) only [zup_ne, hfree])) (by decide) dX7_init_34 (fun ρ => ?_)
  refine aw_putF fX7_5 (fun _ _ => rfl) (fun _ => rfl) (fun _ => rfl) rfl rfl rfl (by simp (disch := omega) [zup_eq]) hinX7 (by decide +kernel : Cond.fieldLink RX7 19 RX7 (TX7 5).2.1 (TX7 5).2.2.1 ∈ wsX7_init) (by simp (disch := omega) only [zup_ne, zup_eq, hs]) dX7_init_36 ?_
  refine aw_aload_0 dX7_init_39 ?_
  refine aw_bipush (v := (-9)) dX7_init_40 (by decide) ?_
  refine aw_putI fX7_7 rfl hinX7 (by decide +kernel : Cond.fieldLink RX7 22 RX7 (TX7 7).2.1 (TX7 7).2.2.1 ∈ wsX7_init) (by simp (disch := omega) only [zup_ne, zup_eq, hs]) dX7_init_42 ?_
  refine aw_aload_0 dX7_init_45 ?_
  refine aw_bipush (v := (-9)) dX7_init_46 (by decide) ?_
  refine aw_putI fX7_8 rfl hinX7 (by decide +kernel : Cond.fieldLink RX7 26 RX7 (TX7 8).2.1 (TX7 8).2.2.1 ∈ wsX7_init) (by simp (disch := omega) only [zup_ne, zup_eq, hs]) dX7_init_48 ?_
  refine aw_aload_0 dX7_init_51 ?_
  refine aw_bipush (v := 20) dX7_init_52 (by decide) ?_
  refine aw_newI (i := μ + 5) (N := 20) (by decide +kernel : Cond.arrayClass .int ∈ wsX7_init) (by decide) (by decide) (by decide) (by simp (disch := omega) only [zup_ne, hfree]) (zrefs_new (by simp; try omega) (by simp; try omega) (by simp (disch := omega) only [zup_ne, hfree])) (by decide) dX7_init_54 (fun ρ => ?_)
  refine aw_putF fX7_9 (fun _ _ => rfl) (fun _ => rfl) (fun _ => rfl) rfl rfl rfl (by simp (disch := omega) [zup_eq]) hinX7 (by decide +kernel : Cond.fieldLink RX7 29 RX7 (TX7 9).2.1 (TX7 9).2.2.1 ∈ wsX7_init) (by simp (disch := omega) only [zup_ne, zup_eq, hs]) dX7_init_56 ?_
  refine aw_aload_0 dX7_init_59 ?_
  refine aw_bipush (v := 16) dX7_init_60 (by decide) ?_
  refine aw_newI (i := μ + 6) (N := 16) (by decide +kernel : Cond.arrayClass .int ∈ wsX7_init) (by decide) (by decide) (by decide) (by simp (disch := omega) only [zup_ne, hfree]) (zrefs_new (by simp; try omega) (by simp; try omega) (by simp (disch := omega) only [zup_ne, hfree])) (by decide) dX7_init_62 (fun ρ => ?_)
  refine aw_putF fX7_10 (fun _ _ => rfl) (fun _ => rfl) (fun _ => rfl) rfl rfl rfl (by simp (disch := omega) [zup_eq]) hinX7 (by decide +kernel : Cond.fieldLink RX7 32 RX7 (TX7 10).2.1 (TX7 10).2.2.1 ∈ wsX7_init) (by simp (disch := omega) only [zup_ne, zup_eq, hs]) dX7_init_64 ?_
  refine aw_aload_0 dX7_init_67 ?_
  refine aw_bipush (v := 16) dX7_init_68 (by decide) ?_
  refine aw_newI (i := μ + 7) (N := 16) (by decide +kernel : Cond.arrayClass .int ∈ wsX7_init) (by decide) (by decide) (by decide) (by simp (disch := omega) only [zup_ne, hfree]) (zrefs_new (by simp; try omega) (by simp; try omega) (by simp (disch := omega) only [zup_ne, hfree])) (by decide) dX7_init_70 (fun ρ => ?_)
  refine aw_putF fX7_11 (fun _ _ => rfl) (fun _ => rfl) (fun _ => rfl) rfl rfl rfl (by simp (disch := omega) [zup_eq]) hinX7 (by decide +kernel : Cond.fieldLink RX7 35 RX7 (TX7 11).2.1 (TX7 11).2.2.1 ∈ wsX7_init) (by simp (disch := omega) only [zup_ne, zup_eq, hs]) dX7_init_72 ?_
  refine aw_aload_0 dX7_init_75 ?_
  refine aw_bipush (v := 16) dX7_init_76 (by decide) ?_
  refine aw_newI (i := μ + 8) (N := 16) (by decide +kernel : Cond.arrayClass .int ∈ wsX7_init) (by decide) (by decide) (by decide) (by simp (disch := omega) only [zup_ne, hfree]) (zrefs_new (by simp; try omega) (by simp; try omega) (by simp (disch := omega) only [zup_ne, hfree])) (by decide) dX7_init_78 (fun ρ => ?_)
  refine aw_putF fX7_12 (fun _ _ => rfl) (fun _ => rfl) (fun _ => rfl) rfl rfl rfl (by simp (disch := omega) [zup_eq]) hinX7 (by decide +kernel : Cond.fieldLink RX7 38 RX7 (TX7 12).2.1 (TX7 12).2.2.1 ∈ wsX7_init) (by simp (disch := omega) only [zup_ne, zup_eq, hs]) dX7_init_80 ?_
  refine aw_aload_0 dX7_init_83 ?_
  refine aw_bipush (v := 16) dX7_init_84 (by decide) ?_
  refine aw_newI (i := μ + 9) (N := 16) (by decide +kernel : Cond.arrayClass .int ∈ wsX7_init) (by decide) (by decide) (by decide) (by simp (disch := omega) only [zup_ne, hfree]) (zrefs_new (by simp; try omega) (by simp; try omega) (by simp (disch := omega) only [zup_ne, hfree])) (by decide) dX7_init_86 (fun ρ => ?_)
  refine aw_putF fX7_13 (fun _ _ => rfl) (fun _ => rfl) (fun _ => rfl) rfl rfl rfl (by simp (disch := omega) [zup_eq]) hinX7 (by decide +kernel : Cond.fieldLink RX7 41 RX7 (TX7 13).2.1 (TX7 13).2.2.1 ∈ wsX7_init) (by simp (disch := omega) only [zup_ne, zup_eq, hs]) dX7_init_88 ?_
  refine aw_aload_0 dX7_init_91 ?_
  refine aw_sipush (v := 462) dX7_init_92 (by decide) ?_
  refine aw_newI (i := μ + 10) (N := 462) (by decide +kernel : Cond.arrayClass .int ∈ wsX7_init) (by decide) (by decide) (by decide) (by simp (disch := omega) only [zup_ne, hfree]) (zrefs_new (by simp; try omega) (by simp; try omega) (by simp (disch := omega) only [zup_ne, hfree])) (by decide) dX7_init_95 (fun ρ => ?_)
  refine aw_putF fX7_17 (fun _ _ => rfl) (fun _ => rfl) (fun _ => rfl) rfl rfl rfl (by simp (disch := omega) [zup_eq]) hinX7 (by decide +kernel : Cond.fieldLink RX7 44 RX7 (TX7 17).2.1 (TX7 17).2.2.1 ∈ wsX7_init) (by simp (disch := omega) only [zup_ne, zup_eq, hs]) dX7_init_97 ?_
  refine aw_aload_0 dX7_init_100 ?_
  refine aw_bipush (v := 10) dX7_init_101 (by decide) ?_
  refine aw_newI (i := μ + 11) (N := 10) (by decide +kernel : Cond.arrayClass .int ∈ wsX7_init) (by decide) (by decide) (by decide) (by simp (disch := omega) only [zup_ne, hfree]) (zrefs_new (by simp; try omega) (by simp; try omega) (by simp (disch := omega) only [zup_ne, hfree])) (by decide) dX7_init_103 (fun ρ => ?_)
  refine aw_putF fX7_21 (fun _ _ => rfl) (fun _ => rfl) (fun _ => rfl) rfl rfl rfl (by simp (disch := omega) [zup_eq]) hinX7 (by decide +kernel : Cond.fieldLink RX7 47 RX7 (TX7 21).2.1 (TX7 21).2.2.1 ∈ wsX7_init) (by simp (disch := omega) only [zup_ne, zup_eq, hs]) dX7_init_105 ?_
  refine aw_aload_0 dX7_init_108 ?_
  refine aw_bipush (v := 20) dX7_init_109 (by decide) ?_
  refine aw_newZ (i := μ + 12) (N := 20) (by decide +kernel : Cond.arrayClass .boolean ∈ wsX7_init) (by decide) (by decide) (by decide) (by simp (disch := omega) only [zup_ne, hfree]) (zrefs_new (by simp; try omega) (by simp; try omega) (by simp (disch := omega) only [zup_ne, hfree])) (by decide) dX7_init_111 (fun ρ => ?_)
  refine aw_putF fX7_28 (fun _ _ => rfl) (fun _ => rfl) (fun _ => rfl) rfl rfl rfl (by simp (disch := omega) [zup_eq]) hinX7 (by decide +kernel : Cond.fieldLink RX7 50 RX7 (TX7 28).2.1 (TX7 28).2.2.1 ∈ wsX7_init) (by simp (disch := omega) only [zup_ne, zup_eq, hs]) dX7_init_113 ?_
  refine aw_iconst (v := 0) dX7_init_116 (by decide) ?_
  refine aw_istore_1 dX7_init_117 ?_
  refine aw_cF (F' := zput (jF F μ) μ 13 (jG 0)) (zput_view (jVw hF)).symm ?_
  exact L118 _ 0 _ (Nat.zero_le _) rfl
