/-! ===== 31.md2: take, makeBegun: the model's stack of what is begun ===== -/
/-- what the moves of the store leave as it is -/
def mStat (w w' : Nat → Int32) : Prop := ∀ t k, t < 20 → k < 23 → (k = 1 ∨ 6 ≤ k) → w' (23 * t + k) = w (23 * t + k)
def mOk (w : Nat → Int32) : Prop := ∀ t, t < 20 → (∃ c, c ≤ 5 ∧ w (23 * t + 8) = nI c ∧ ∀ k, k < c → ∃ i, i < 20 ∧ w (23 * t + (9 + 2 * k)) = nI i) ∧ (∃ c, c ≤ 3 ∧ w (23 * t + 19) = nI c ∧ ∀ k, k < c → ∃ j, j < 20 ∧ w (23 * t + (20 + k)) = nI j) ∧ mVes w t
theorem mOk.stat {w w' : Nat → Int32} (h : mOk w) (e : mStat w w') : mOk w' := by
  intro t ht
  obtain ⟨⟨c, hc, h8, hi⟩, ⟨c2, hc2, h19, hj⟩, hv⟩ := h t ht
  refine ⟨⟨c, hc, by rw [e t 8 ht (by decide) (by decide)]; exact h8, fun k hk => ?_⟩, ⟨c2, hc2, by rw [e t 19 ht (by decide) (by decide)]; exact h19, fun k hk => ?_⟩, ?_⟩
  · rw [e t _ ht (by omega) (by omega)]
    exact hi k hk
  · rw [e t _ ht (by omega) (by omega)]
    exact hj k hk
  · unfold mVes
    rw [e t 1 ht (by decide) (by decide)]
    exact hv
def mPres (G G' : Nat → Nat → Int32) : Prop := (∀ j, 2 ≤ j → G' j = G j) ∧ (∀ q, q ≠ 16 → G' 0 q = G 0 q) ∧ ((G 0 16 = 0 ∨ G 0 16 = 1) → (G' 0 16 = 0 ∨ G' 0 16 = 1)) ∧ mStat (G 1) (G' 1)
theorem mPres.refl {G : Nat → Nat → Int32} : mPres G G := ⟨fun _ _ => rfl, fun _ _ => rfl, fun h => h, fun _ _ _ _ _ => rfl⟩
theorem mPres.trans {A B C : Nat → Nat → Int32} (h : mPres A B) (g : mPres B C) : mPres A C := ⟨fun j hj => (g.1 j hj).trans (h.1 j hj), fun q hq => (g.2.1 q hq).trans (h.2.1 q hq), fun z => g.2.2.1 (h.2.2.1 z), fun t k ht hk hs => (g.2.2.2 t k ht hk hs).trans (h.2.2.2 t k ht hk hs)⟩
theorem upd_ne {f : Nat → Int32} {i j : Nat} {v : Int32} (h : j ≠ i) : upd f i v j = f j := if_neg h
theorem upd_eq {f : Nat → Int32} {i : Nat} {v : Int32} : upd f i v i = v := if_pos rfl
theorem mSetF_ne {g : Nat → Int32} {p : Prop} [Decidable p] {q : Nat} (h : q ≠ 16) : mSetF g p q = g q := by
  unfold mSetF
  split
  · exact upd_ne h
  · rfl
theorem mPres.w1 {G : Nat → Nat → Int32} {w : Nat → Int32} (h : mStat (G 1) w) : mPres G (va_up G 1 w) := ⟨fun j hj => zup_ne (by omega), fun q _ => by rw [zup_ne (by decide)], fun z => by rw [zup_ne (by decide)]; exact z, by rw [zup_eq]; exact h⟩
theorem mWcome_stat {w : Nat → Int32} {t k : Nat} {n : Int32} (hk : k < 23) (h2 : k ≠ 1 ∧ k < 6) : mStat w (mWcome w t n k) := by
  intro t' k' ht' hk' hs
  unfold mWcome
  rw [upd_ne (by omega), upd_ne (by omega)]
theorem mWuse_stat {w : Nat → Int32} {t : Nat} {n : Int32} : mStat w (mWuse w t n) := by
  intro t' k' ht' hk' hs
  unfold mWuse
  rw [upd_ne (by omega), upd_ne (by omega)]
theorem mCome_pres {G : Nat → Nat → Int32} {t k : Nat} {n : Int32} (hk : k < 23) (h2 : k ≠ 1 ∧ k < 6) : mPres G (mCome G t n k) := by
  unfold mCome
  refine ⟨fun j hj => by rw [zup_ne (by omega), zup_ne (by omega)], fun q hq => by rw [zup_eq, mSetF_ne hq], fun z => by rw [zup_eq]; exact mSetF_z z, ?_⟩
  rw [zup_ne (by decide), zup_eq]
  exact mWcome_stat hk h2
theorem mUse_pres {G : Nat → Nat → Int32} {t : Nat} {n : Int32} : mPres G (mUse G t n) := by
  unfold mUse
  split
  · exact mPres.w1 mWuse_stat
  · exact (mPres.w1 mWuse_stat).trans (mCome_pres (by decide) (by decide))
theorem mStat_up {w : Nat → Int32} {i : Nat} {v : Int32} (h : 460 ≤ i) : mStat w (upd w i v) := fun t k ht hk _ => upd_ne (by omega)
theorem mGath_pres {G : Nat → Nat → Int32} {t : Nat} {n : Int32} : mPres G (mGath G t n) := by
  unfold mGath
  exact (mCome_pres (by decide) (by decide)).trans (mPres.w1 (mStat_up (by decide)))
def mTakeS (t k : Nat) (s : Int32 × Int32 × (Nat → Nat → Int32)) : Int32 × Int32 × (Nat → Nat → Int32) :=
  (s.1 - mTk (s.2.2 1) (s.2.2 1 (23 * t + (20 + k))).toNatClampNeg s.1,
   (if s.2.1 = -9 then (if mMade (mUse s.2.2 (s.2.2 1 (23 * t + (20 + k))).toNatClampNeg (mTk (s.2.2 1) (s.2.2 1 (23 * t + (20 + k))).toNatClampNeg s.1) 1) (s.2.2 1 (23 * t + (20 + k))).toNatClampNeg = 0 then s.2.1 else s.2.2 1 (23 * t + (20 + k))) else s.2.1),
   mUse s.2.2 (s.2.2 1 (23 * t + (20 + k))).toNatClampNeg (mTk (s.2.2 1) (s.2.2 1 (23 * t + (20 + k))).toNatClampNeg s.1))
def mTake0 (G : Nat → Nat → Int32) (t : Nat) (n : Int32) : Int32 × Int32 × (Nat → Nat → Int32) := (n - mTk (G 1) t n, (if mMade (mUse G t (mTk (G 1) t n) 1) t = 0 then -9 else nI t), mUse G t (mTk (G 1) t n))
def mTakeE (G : Nat → Nat → Int32) (t : Nat) (n : Int32) : Int32 × Int32 × (Nat → Nat → Int32) := it (mTakeS t) (G 1 (23 * t + 19)).toNatClampNeg (mTake0 G t n)
def mFor (w : Nat → Int32) (t : Nat) (n : Int32) : Int32 := (n + w (23 * t + 7) - 1) / w (23 * t + 7)
def mTake (G : Nat → Nat → Int32) (d : Nat) (t : Nat) (n : Int32) : Nat → Nat → Int32 :=
  if (mTakeE G t n).1 ≤ 0 then (mTakeE G t n).2.2
  else if (mTakeE G t n).2.1 = -9 then mUse (mGath (mTakeE G t n).2.2 t (mTakeE G t n).1) t (mTakeE G t n).1
  else mBegin (mTakeE G t n).2.2 d (mTakeE G t n).2.1 (mFor ((mTakeE G t n).2.2 1) (mTakeE G t n).2.1.toNatClampNeg (mTakeE G t n).1) (mTakeE G t n).1
/-- the state of the loop of take: what stays, and what is to be made -/
def mTakeI (G : Nat → Nat → Int32) (s : Int32 × Int32 × (Nat → Nat → Int32)) : Prop := mPres G s.2.2 ∧ (s.2.1 = -9 ∨ ∃ v, v < 20 ∧ s.2.1 = nI v ∧ ¬ mMade (G 1) v = 0)
theorem mMade_stat {w w' : Nat → Int32} (h : mStat w w') {t : Nat} (ht : t < 20) : mMade w' t = mMade w t := by
  unfold mMade
  rw [h t 7 ht (by decide) (by decide)]
theorem mVes_stat {w w' : Nat → Int32} (h : mStat w w') {t : Nat} (ht : t < 20) (v : mVes w t) : mVes w' t := by
  unfold mVes
  rw [h t 1 ht (by decide) (by decide)]
  exact v
theorem mTakeI.init {G : Nat → Nat → Int32} {t : Nat} {n : Int32} (ht : t < 20) : mTakeI G (mTake0 G t n) := by
  refine ⟨mUse_pres, ?_⟩
  unfold mTake0
  by_cases h : mMade (mUse G t (mTk (G 1) t n) 1) t = 0
  · exact Or.inl (if_pos h)
  · exact Or.inr ⟨t, ht, if_neg h, by rw [← mMade_stat (mUse_pres (G := G) (t := t) (n := mTk (G 1) t n)).2.2.2 ht]; exact h⟩
theorem mTakeI.step {G : Nat → Nat → Int32} {t k : Nat} {s : Int32 × Int32 × (Nat → Nat → Int32)} (h : mTakeI G s) (ht : t < 20) (hk : k < 3) (hj : ∃ j, j < 20 ∧ G 1 (23 * t + (20 + k)) = nI j) : mTakeI G (mTakeS t k s) := by
  obtain ⟨h1, h2⟩ := h
  obtain ⟨j, hj, ej⟩ := hj
  have e : s.2.2 1 (23 * t + (20 + k)) = nI j := (h1.2.2.2 t (20 + k) ht (by omega) (by omega)).trans ej
  refine ⟨h1.trans mUse_pres, ?_⟩
  unfold mTakeS
  rw [e, nI_clamp (by omega)]
  by_cases h9 : s.2.1 = -9
  · rw [if_pos h9]
    by_cases hm : mMade (mUse s.2.2 j (mTk (s.2.2 1) j s.1) 1) j = 0
    · rw [if_pos hm]
      exact Or.inl h9
    · rw [if_neg hm]
      exact Or.inr ⟨j, hj, rfl, by rw [← mMade_stat (h1.trans (mUse_pres (t := j) (n := mTk (s.2.2 1) j s.1))).2.2.2 hj]; exact hm⟩
  · rw [if_neg h9]
    exact h2

theorem mMade_y {w w' : Nat → Int32} (e : mStat w w') {v : Nat} (hv : v < 20) (h : ¬ mMade w v = 0) : ¬ w' (23 * v + 7) = 0 := by
  intro h0
  rw [e v 7 hv (by decide) (by decide)] at h0
  apply h
  unfold mMade
  rw [h0]
  rfl
theorem m20 (k : Nat) : (20 : Int32) + nI k = nI (20 + k) := by rw [show (20 : Int32) = nI 20 from rfl, nI_add]

abbrev mX7_take : ZM := (cX7_take, RX7, wsX7_take, 5, 0, 0, none, 7, yX7_take.name)
set_option maxHeartbeats 1000000 in
set_option maxRecDepth 100000 in
theorem c_X7_take {sh : zSh} {F : Nat → Nat → Int32} {P : Nat → Nat → Option Nat} {μ : Nat} {G : Nat → Nat → Int32} {t d : Nat} {n : Int32} (hM : zMd sh P μ) (hG : zVw F μ 13 G) (ht : t < 20) (hok : mOk (G 1)) (hz : G 0 16 = 0 ∨ G 0 16 = 1) (hd : d < 16) (hd2 : G 0 14 = nI d) : zMet yX7_take wsX7_take (5) (0) (0) [.ref μ, .int (nI t), .int n] sh F P (none) sh (zput F μ 13 (mTake G d t n)) P := by
  refine zMet.of (by decide) rfl (Nat.le_of_ble_eq_true rfl) (by simp [Value.category]) ?_
  intro X ρ
  show AW mX7_take X (zMQ mX7_take X (none) sh (zput F μ 13 (mTake G d t n)) P) 0 [some (.ref μ), some (.int (nI t)), some (.int n), none, none, none, none] [] ρ sh F P 0 0
  obtain ⟨ms0, ⟨mp0, mp1, mp3, mp5, mp9, mp10, mp11, mp12, mp13, mp17, mp21, mp28⟩, ms1, ms2, ms3, ms4, ms5, ms6, ms7, ms8, ms9, ms10, ms11, ms12⟩ := id hM
  refine aw_cF (F' := zput F μ 13 G) (zput_view hG).symm ?_
  obtain ⟨-, ⟨c, hc, h19, hj⟩, hv⟩ := hok t ht
  have L26 : ∀ (m k : Nat) (mi md : Int32) (G' : Nat → Nat → Int32) (o6 : Option Value), k ≤ c → c - k = m → it (mTakeS t) k (mTake0 G t n) = (mi, md, G') → mTakeI G (mi, md, G') → AW mX7_take X (zMQ mX7_take X (none) sh (zput F μ 13 (mTake G d t n)) P) 26 [some (.ref μ), some (.int (nI t)), some (.int n), some (.int mi), some (.int md), some (.int (nI k)), o6] [] ρ sh (zput F μ 13 G') P 0 0 := by
    intro m
    induction m using Nat.strongRecOn with
    | _ m ih =>
    intro k mi md G' o6 hk hm hst hI
    refine aw_iload_5 dX7_take_26 ?_
    refine aw_aload_0 dX7_take_28 ?_
    refine aw_iload_1 dX7_take_29 ?_
    refine aw_bipush (v := 19) dX7_take_30 (by decide) ?_
    refine aw_run (zRun_V (c_X7_of (t := t) (k := 19) hM zVw.put (by omega)) gX7_take_X7_of q_X7_of rfl (by decide) rfl ms0 rfl rfl (Nat.le_of_ble_eq_true rfl) dX7_take_32 ⟨Nat.le_refl _, Nat.le_refl _⟩) ?_
    have hs : mStat (G 1) (G' 1) := hI.1.2.2.2
    rw [hs t 19 ht (by decide) (by decide), h19]
    refine aw_icmp_ge (tgt := 89) dX7_take_35 (by decide) (fun c35 => ?_) (fun c35 => ?_)
    · have hE : mTakeE G t n = (mi, md, G') := by
        unfold mTakeE
        rw [h19, nI_clamp (by omega), ← zend hk (by omega) c35]
        exact hst
      refine aw_iload_3 dX7_take_89 ?_
      refine aw_if_le (tgt := 117) dX7_take_90 (by decide) (fun c90 => ?_) (fun c90 => ?_)
      · refine aw_iload_3 dX7_take_117 ?_
        refine aw_if_le (tgt := 133) dX7_take_118 (by decide) (fun c118 => ?_) (fun c118 => absurd c90 c118)
        try rw [zput_zput]
        exact aw_return rfl dX7_take_133 ⟨Nat.zero_le _, Nat.zero_le _⟩ rfl rfl (by unfold mTake; rw [hE]; first | (rw [if_pos c90]; done) | (rw [if_neg c90, if_pos c97]; done) | (rw [if_neg c90, if_neg c97, nI_clamp (show v < 2 ^ 31 by omega)]; rfl)) rfl
      · refine aw_iload_4 dX7_take_93 ?_
        refine aw_bipush (v := (-9)) dX7_take_95 (by decide) ?_
        refine aw_icmp_eq (tgt := 117) dX7_take_97 (by decide) (fun c97 => ?_) (fun c97 => ?_)
        · refine aw_iload_3 dX7_take_117 ?_
          refine aw_if_le (tgt := 133) dX7_take_118 (by decide) (fun c118 => absurd c118 c90) (fun c118 => ?_)
          refine aw_aload_0 dX7_take_121 ?_
          refine aw_iload_1 dX7_take_122 ?_
          refine aw_iload_3 dX7_take_123 ?_
          refine aw_runv (zRun_V (c_X7_gatherNow (t := t) hM zVw.put ht (by exact hI.1.2.2.1 hz)) gX7_take_X7_gatherNow q_X7_gatherNow rfl (by decide) rfl ms0 rfl rfl (Nat.le_of_ble_eq_true rfl) dX7_take_124 ⟨Nat.le_refl _, Nat.le_refl _⟩) ?_
          rw [zput_zput]
          refine aw_aload_0 dX7_take_127 ?_
          refine aw_iload_1 dX7_take_128 ?_
          refine aw_iload_3 dX7_take_129 ?_
          refine aw_runv (zRun_V (c_X7_useUp (t := t) hM zVw.put ht (by exact mVes_stat (hI.1.trans mGath_pres).2.2.2 ht hv) (by exact (hI.1.trans mGath_pres).2.2.1 hz)) gX7_take_X7_useUp q_X7_useUp rfl (by decide) rfl ms0 rfl rfl (Nat.le_of_ble_eq_true rfl) dX7_take_130 ⟨Nat.le_refl _, Nat.le_refl _⟩) ?_
          try rw [zput_zput]
          exact aw_return rfl dX7_take_133 ⟨Nat.zero_le _, Nat.zero_le _⟩ rfl rfl (by unfold mTake; rw [hE]; first | (rw [if_pos c90]; done) | (rw [if_neg c90, if_pos c97]; done) | (rw [if_neg c90, if_neg c97, nI_clamp (show v < 2 ^ 31 by omega)]; rfl)) rfl
        · obtain ⟨v, hv20, hmd, hmv⟩ := hI.2.resolve_left c97
          have hmd : md = nI v := hmd
          subst hmd
          refine aw_aload_0 dX7_take_100 ?_
          refine aw_iload_4 dX7_take_101 ?_
          refine aw_aload_0 dX7_take_103 ?_
          refine aw_iload_4 dX7_take_104 ?_
          refine aw_iload_3 dX7_take_106 ?_
          refine aw_run (zRun_V (c_X7_batchesFor (t := v) hM zVw.put hv20 (mMade_y hI.1.2.2.2 hv20 hmv)) gX7_take_X7_batchesFor q_X7_batchesFor rfl (by decide) rfl ms0 rfl rfl (Nat.le_of_ble_eq_true rfl) dX7_take_107 ⟨Nat.le_refl _, Nat.le_refl _⟩) ?_
          refine aw_iload_3 dX7_take_110 ?_
          refine aw_runv (zRun_V (c_X7_begin (d := d) hM zVw.put hd ((hI.1.2.1 14 (by decide)).trans hd2) (by exact hI.1.2.2.1 hz)) gX7_take_X7_begin q_X7_begin rfl (by decide) rfl ms0 rfl rfl (Nat.le_of_ble_eq_true rfl) dX7_take_111 ⟨Nat.le_refl _, Nat.le_refl _⟩) ?_
          refine aw_goto (tgt := 133) dX7_take_114 (by decide) ?_
          try rw [zput_zput]
          exact aw_return rfl dX7_take_133 ⟨Nat.zero_le _, Nat.zero_le _⟩ rfl rfl (by unfold mTake; rw [hE]; first | (rw [if_pos c90]; done) | (rw [if_neg c90, if_pos c97]; done) | (rw [if_neg c90, if_neg c97, nI_clamp (show v < 2 ^ 31 by omega)]; rfl)) rfl
    · have hlt : k < c := zlt hk (by omega) c35
      obtain ⟨j, hj20, ej⟩ := hj k hlt
      have e : G' 1 (23 * t + (20 + k)) = nI j := (hs t (20 + k) ht (by omega) (by omega)).trans ej
      refine aw_aload_0 dX7_take_38 ?_
      refine aw_iload_1 dX7_take_39 ?_
      refine aw_bipush (v := 20) dX7_take_40 (by decide) ?_
      refine aw_iload_5 dX7_take_42 ?_
      refine aw_iadd dX7_take_44 ?_
      rw [m20]
      refine aw_run (zRun_V (c_X7_of (t := t) (k := 20 + k) hM zVw.put (by omega)) gX7_take_X7_of q_X7_of rfl (by decide) rfl ms0 rfl rfl (Nat.le_of_ble_eq_true rfl) dX7_take_45 ⟨Nat.le_refl _, Nat.le_refl _⟩) ?_
      rw [e]
      refine aw_istore_6 dX7_take_48 ?_
      refine aw_aload_0 dX7_take_50 ?_
      refine aw_iload_6 dX7_take_51 ?_
      refine aw_iload_3 dX7_take_53 ?_
      refine aw_run (zRun_V (c_X7_fromStore (t := j) hM zVw.put hj20 (mVes_stat hs hj20 (hok j hj20).2.2) (by exact hI.1.2.2.1 hz)) gX7_take_X7_fromStore q_X7_fromStore rfl (by decide) rfl ms0 rfl rfl (Nat.le_of_ble_eq_true rfl) dX7_take_54 ⟨Nat.le_refl _, Nat.le_refl _⟩) ?_
      rw [zput_zput]
      refine aw_istore_3 dX7_take_57 ?_
      refine aw_iload_4 dX7_take_58 ?_
      refine aw_bipush (v := (-9)) dX7_take_60 (by decide) ?_
      refine aw_icmp_ne (tgt := 79) dX7_take_62 (by decide) (fun c62 => ?_) (fun c62 => ?_)
      · refine aw_iload_4 dX7_take_79 ?_
        refine aw_istore_4 dX7_take_81 ?_
        refine aw_iinc_5 (v := 1) (by decide) dX7_take_83 ?_
        refine aw_goto (tgt := 26) dX7_take_86 (by decide) ?_
        rw [nI_1]
        have hq : mTakeS t k (mi, md, G') = (mi - mTk (G' 1) j mi, md, mUse G' j (mTk (G' 1) j mi)) := by
          simp only [mTakeS, e, nI_clamp (show j < 2 ^ 31 by omega)]
          rw [if_neg c62]
        exact ih (c - (k + 1)) (by omega) (k + 1) _ _ _ _ (by omega) rfl (by show mTakeS t k (it _ k _) = _; rw [hst]; exact hq) (hq ▸ hI.step ht (by omega) ⟨j, hj20, ej⟩)
      · refine aw_aload_0 dX7_take_65 ?_
        refine aw_iload_6 dX7_take_66 ?_
        refine aw_run (zRun_V (c_X7_isMade (t := j) hM zVw.put hj20) gX7_take_X7_isMade q_X7_isMade rfl (by decide) rfl ms0 rfl rfl (Nat.le_of_ble_eq_true rfl) dX7_take_68 ⟨Nat.le_refl _, Nat.le_refl _⟩) ?_
        obtain ⟨mm, hmm⟩ : ∃ mm, zBox (mMade (mUse G' j (mTk (G' 1) j mi) 1) j = mm) := ⟨_, zBox.mk rfl⟩
        rw [hmm.out]
        refine aw_if_eq (tgt := 79) dX7_take_71 (by decide) (fun c71 => ?_) (fun c71 => ?_)
        · refine aw_iload_4 dX7_take_79 ?_
          refine aw_istore_4 dX7_take_81 ?_
          refine aw_iinc_5 (v := 1) (by decide) dX7_take_83 ?_
          refine aw_goto (tgt := 26) dX7_take_86 (by decide) ?_
          rw [nI_1]
          have hq : mTakeS t k (mi, md, G') = (mi - mTk (G' 1) j mi, md, mUse G' j (mTk (G' 1) j mi)) := by
            simp only [mTakeS, e, nI_clamp (show j < 2 ^ 31 by omega)]
            rw [if_pos c62, hmm.out, if_pos c71]
          exact ih (c - (k + 1)) (by omega) (k + 1) _ _ _ _ (by omega) rfl (by show mTakeS t k (it _ k _) = _; rw [hst]; exact hq) (hq ▸ hI.step ht (by omega) ⟨j, hj20, ej⟩)
        · refine aw_iload_6 dX7_take_74 ?_
          refine aw_goto (tgt := 81) dX7_take_76 (by decide) ?_
          refine aw_istore_4 dX7_take_81 ?_
          refine aw_iinc_5 (v := 1) (by decide) dX7_take_83 ?_
          refine aw_goto (tgt := 26) dX7_take_86 (by decide) ?_
          rw [nI_1]
          have hq : mTakeS t k (mi, md, G') = (mi - mTk (G' 1) j mi, nI j, mUse G' j (mTk (G' 1) j mi)) := by
            simp only [mTakeS, e, nI_clamp (show j < 2 ^ 31 by omega)]
            rw [if_pos c62, hmm.out, if_neg c71]
          exact ih (c - (k + 1)) (by omega) (k + 1) _ _ _ _ (by omega) rfl (by show mTakeS t k (it _ k _) = _; rw [hst]; exact hq) (hq ▸ hI.step ht (by omega) ⟨j, hj20, ej⟩)
  refine aw_aload_0 dX7_take_0 ?_
  refine aw_iload_1 dX7_take_1 ?_
  refine aw_iload_2 dX7_take_2 ?_
  refine aw_run (zRun_V (c_X7_fromStore (t := t) hM zVw.put ht hv hz) gX7_take_X7_fromStore q_X7_fromStore rfl (by decide) rfl ms0 rfl rfl (Nat.le_of_ble_eq_true rfl) dX7_take_3 ⟨Nat.le_refl _, Nat.le_refl _⟩) ?_
  rw [zput_zput]
  refine aw_istore_3 dX7_take_6 ?_
  refine aw_aload_0 dX7_take_7 ?_
  refine aw_iload_1 dX7_take_8 ?_
  refine aw_run (zRun_V (c_X7_isMade (t := t) hM zVw.put ht) gX7_take_X7_isMade q_X7_isMade rfl (by decide) rfl ms0 rfl rfl (Nat.le_of_ble_eq_true rfl) dX7_take_9 ⟨Nat.le_refl _, Nat.le_refl _⟩) ?_
  obtain ⟨mm, hmm⟩ : ∃ mm, zBox (mMade (mUse G t (mTk (G 1) t n) 1) t = mm) := ⟨_, zBox.mk rfl⟩
  rw [hmm.out]
  refine aw_if_eq (tgt := 19) dX7_take_12 (by decide) (fun c12 => ?_) (fun c12 => ?_)
  · refine aw_bipush (v := (-9)) dX7_take_19 (by decide) ?_
    refine aw_top (x' := (mTake0 G t n).2.1) (by unfold mTake0; rw [hmm.out]; first | exact if_pos c12 | exact if_neg c12) ?_
    refine aw_istore_4 dX7_take_21 ?_
    refine aw_iconst (v := 0) dX7_take_23 (by decide) ?_
    refine aw_istore_5 dX7_take_24 ?_
    exact L26 _ 0 _ _ _ _ (Nat.zero_le _) rfl rfl (mTakeI.init ht)
  · refine aw_iload_1 dX7_take_15 ?_
    refine aw_goto (tgt := 21) dX7_take_16 (by decide) ?_
    refine aw_top (x' := (mTake0 G t n).2.1) (by unfold mTake0; rw [hmm.out]; first | exact if_pos c12 | exact if_neg c12) ?_
    refine aw_istore_4 dX7_take_21 ?_
    refine aw_iconst (v := 0) dX7_take_23 (by decide) ?_
    refine aw_istore_5 dX7_take_24 ?_
    exact L26 _ 0 _ _ _ _ (Nat.zero_le _) rfl rfl (mTakeI.init ht)
