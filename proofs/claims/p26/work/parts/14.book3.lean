/-! ===== 14.book3: removeSubstitute, findRanks, recipes ===== -/
theorem zkk {k c : Int32} (h0 : ¬ k < 0) (h1 : ¬ c ≤ k) : ∃ a b : Nat, a < b ∧ b < 2 ^ 31 ∧ k = nI a ∧ c = nI b := by
  obtain ⟨a, ha, rfl⟩ := nI_of h0
  have hc : ¬ c < 0 := by
    intro h
    have h2 : c.toInt < 0 := by simpa using Int32.lt_iff_toInt_lt.mp h
    exact h1 (Int32.le_iff_toInt_le.mpr (by rw [nI_toInt ha]; omega))
  obtain ⟨b, hb, rfl⟩ := nI_of hc
  refine ⟨a, b, ?_, hb, rfl, rfl⟩
  rcases Nat.lt_or_ge a b with h | h
  · exact h
  · exact absurd ((nI_leI hb ha).mpr h) h1

abbrev mX0_removeSubstitute : ZM := (cX0_removeSubstitute, RX0, wsX0_removeSubstitute, 3, 0, 0, none, 5, yX0_removeSubstitute.name)
set_option maxHeartbeats 1000000 in
set_option maxRecDepth 100000 in
theorem c_X0_removeSubstitute {sh : zSh} {F : Nat → Nat → Int32} {P : Nat → Nat → Option Nat} {β : Nat} {t k : Int32} (hB : zBk sh P β) (hk0 : ¬ k < 0) (hk1 : ¬ bSubs (zsub F β) t ≤ k) : zMet yX0_removeSubstitute wsX0_removeSubstitute (3) (0) (0) [.ref β, .int t, .int k] sh F P (none) sh (zput F β 9 (bRem (zsub F β) t k)) P := by
  refine zMet.of (by decide) rfl (Nat.le_of_ble_eq_true rfl) (by simp [Value.category]) ?_
  intro X ρ
  show AW mX0_removeSubstitute X (zMQ mX0_removeSubstitute X (none) sh (zput F β 9 (bRem (zsub F β) t k)) P) 0 [some (.ref β), some (.int t), some (.int k), none, none] [] ρ sh F P 0 0
  have hinX0 : ∀ w ∈ u_ws RX0 TX0 8, w ∈ wsX0_removeSubstitute := by decide +kernel
  obtain ⟨hs, ⟨p0, p1, p2, p3, p4, p5, p6, p7⟩, s1, s2, s3, s4, s5, s6, s7, s8⟩ := id hB
  obtain ⟨a, b, hab, hb, ea, eb⟩ := zkk hk0 hk1
  have eb1 : bSubs (zsub F β) t - 1 = nI (b - 1) := by
    rw [eb]
    exact pk_sub (a := b) (b := 1) (by omega)
  have en : (bSubs (zsub F β) t - 1 - k).toNatClampNeg = b - 1 - a := by
    rw [eb1, ea, pk_sub (by omega), nI_clamp (by omega)]
  have ek : ∀ i, k + nI i = nI (a + i) := fun i => by rw [ea, nI_add]
  have L11 : ∀ (m i : Nat), i ≤ b - 1 - a → b - 1 - a - i = m → AW mX0_removeSubstitute X (zMQ mX0_removeSubstitute X (none) sh (zput F β 9 (bRem (zsub F β) t k)) P) 11 [some (.ref β), some (.int t), some (.int k), some (.int (bSubs (zsub F β) t - 1)), some (.int (k + nI i))] [] ρ sh (zput F β 9 (it (bRemS t k) i (zsub F β))) P 0 0 := by
    intro m
    induction m using Nat.strongRecOn with
    | _ m ih =>
    intro i hi hm
    refine aw_iload_4 dX0_removeSubstitute_11 ?_
    refine aw_iload_3 dX0_removeSubstitute_13 ?_
    refine aw_icmp_ge (tgt := 45) dX0_removeSubstitute_14 (by decide) (fun c14 => ?_) (fun c14 => ?_)
    · refine aw_aload_0 dX0_removeSubstitute_45 ?_
      refine aw_getR fX0_4 (fun _ _ => rfl) (by assumption) hinX0 (by decide +kernel) (by assumption) dX0_removeSubstitute_46 ?_
      refine aw_iload_1 dX0_removeSubstitute_49 ?_
      refine aw_iload_3 dX0_removeSubstitute_50 ?_
      refine aw_runv (zRun_SN (qn := 8) (c_X6_put (by assumption) (by decide)) gX0_removeSubstitute_X6_put_n82 rfl (by decide +kernel) (by decide +kernel) q_X6_put (by decide) rfl rfl (Nat.le_of_ble_eq_true rfl) dX0_removeSubstitute_51 ⟨Nat.le_refl _, Nat.le_refl _⟩) ?_
      exact aw_return rfl dX0_removeSubstitute_54 ⟨Nat.zero_le _, Nat.zero_le _⟩ rfl rfl (by rw [ek, eb1] at c14; rw [show i = b - 1 - a from (zend (i := i) (n := b - 1 - a) hi (by omega) (by rcases Nat.lt_or_ge i (b - 1 - a) with h | h; exact absurd c14 (nI_ge (by omega) (by omega)); exact nI_le h (by omega))), ← en]; unfold bRem; simp (disch := omega) only [zup_ne, zup_eq, zput_up, zput_id, zput_at, zput_ne, zsub_up]) rfl
    · have hlt : i < b - 1 - a := by
        rw [ek, eb1] at c14
        rcases Nat.lt_or_ge i (b - 1 - a) with h | h
        · exact h
        · exact absurd (nI_le (by omega) (by omega)) c14
      refine aw_aload_0 dX0_removeSubstitute_17 ?_
      refine aw_getR fX0_5 (fun _ _ => rfl) (by assumption) hinX0 (by decide +kernel) (by assumption) dX0_removeSubstitute_18 ?_
      refine aw_iload_1 dX0_removeSubstitute_21 ?_
      refine aw_iconst (v := 3) dX0_removeSubstitute_22 (by decide) ?_
      refine aw_imul dX0_removeSubstitute_23 ?_
      refine aw_iload_4 dX0_removeSubstitute_24 ?_
      refine aw_iadd dX0_removeSubstitute_26 ?_
      refine aw_aload_0 dX0_removeSubstitute_27 ?_
      refine aw_iload_1 dX0_removeSubstitute_28 ?_
      refine aw_iload_4 dX0_removeSubstitute_29 ?_
      refine aw_iconst (v := 1) dX0_removeSubstitute_31 (by decide) ?_
      refine aw_iadd dX0_removeSubstitute_32 ?_
      refine aw_run (zRun_V (c_X0_substituteAt (by assumption)) gX0_removeSubstitute_X0_substituteAt q_X0_substituteAt rfl (by decide) rfl (by assumption) rfl rfl (Nat.le_of_ble_eq_true rfl) dX0_removeSubstitute_33 ⟨Nat.le_refl _, Nat.le_refl _⟩) ?_
      refine aw_runv (zRun_SN (qn := 8) (c_X6_put (by assumption) (by decide)) gX0_removeSubstitute_X6_put_n82 rfl (by decide +kernel) (by decide +kernel) q_X6_put (by decide) rfl rfl (Nat.le_of_ble_eq_true rfl) dX0_removeSubstitute_36 ⟨Nat.le_refl _, Nat.le_refl _⟩) ?_
      refine aw_iinc_4 (v := 1) (by decide) dX0_removeSubstitute_39 ?_
      refine aw_goto (tgt := 11) dX0_removeSubstitute_42 (by decide) ?_
      rw [show k + nI i + 1 = k + nI (i + 1) by rw [ek, ek, nI_1]; rfl]
      refine aw_cF ?_ (ih (b - 1 - a - (i + 1)) (by omega) (i + 1) (by omega) rfl)
      show _ = zput F β 9 (bRemS t k i (it (bRemS t k) i (zsub F β)))
      unfold bRemS bSub zsub
      simp (disch := omega) only [zup_ne, zup_eq, zput_up, zput_id, zput_at, zput_ne, zsub_up]
  refine aw_aload_0 dX0_removeSubstitute_0 ?_
  refine aw_iload_1 dX0_removeSubstitute_1 ?_
  refine aw_run (zRun_V (c_X0_substitutesOf (by assumption)) gX0_removeSubstitute_X0_substitutesOf q_X0_substitutesOf rfl (by decide) rfl (by assumption) rfl rfl (Nat.le_of_ble_eq_true rfl) dX0_removeSubstitute_2 ⟨Nat.le_refl _, Nat.le_refl _⟩) ?_
  refine aw_iconst (v := 1) dX0_removeSubstitute_5 (by decide) ?_
  refine aw_isub dX0_removeSubstitute_6 ?_
  refine aw_istore_3 dX0_removeSubstitute_7 ?_
  refine aw_iload_2 dX0_removeSubstitute_8 ?_
  refine aw_istore_4 dX0_removeSubstitute_9 ?_
  have h9 := L11 _ 0 (Nat.zero_le _) rfl
  rw [show k + nI 0 = k by rw [ek 0, ea]; rfl] at h9
  refine aw_cF ?_ h9
  exact zput_id.symm

theorem fr_next {B : Nat → Nat → Int32} {r0 r : Nat → Int32} {g : Int32} {j : Nat} (hst : it (frStep B) j (r0, 0, false) = (r, g, false)) : it (frStep B) (j + 1) (r0, 0, false) = frStep B j (r, g, false) := by
  show frStep B j (it (frStep B) j (r0, 0, false)) = _
  rw [hst]
theorem fr_keep {B : Nat → Nat → Int32} {r0 r : Nat → Int32} {g : Int32} {j : Nat} (hst : it (frStep B) j (r0, 0, false) = (r, g, false)) (h1 : frRank (va_up B 8 r) j ≤ 8) (h2 : frRank (va_up B 8 r) j = cAt 20 r (nI j)) : it (frStep B) (j + 1) (r0, 0, false) = (r, g, false) := by
  rw [fr_next hst]
  unfold frStep
  rw [if_neg (by simp), if_pos h1, if_pos h2]
theorem fr_set {B : Nat → Nat → Int32} {r0 r : Nat → Int32} {g : Int32} {j : Nat} (hst : it (frStep B) j (r0, 0, false) = (r, g, false)) (h1 : frRank (va_up B 8 r) j ≤ 8) (h2 : ¬ frRank (va_up B 8 r) j = cAt 20 r (nI j)) : it (frStep B) (j + 1) (r0, 0, false) = (cPut 20 r (nI j) (frRank (va_up B 8 r) j), 1, false) := by
  rw [fr_next hst]
  unfold frStep
  rw [if_neg (by simp), if_pos h1, if_neg h2]
theorem fr_fail {B : Nat → Nat → Int32} {r0 r : Nat → Int32} {g : Int32} {j : Nat} (hst : it (frStep B) j (r0, 0, false) = (r, g, false)) (hj : j < 20) (h1 : ¬ frRank (va_up B 8 r) j ≤ 8) : it (frStep B) 20 (r0, 0, false) = (r, g, true) := by
  have e : it (frStep B) (j + 1) (r0, 0, false) = (r, g, true) := by
    rw [fr_next hst]
    unfold frStep
    rw [if_neg (by simp), if_neg h1]
  rw [it_stick (p := fun s => s.2.2 = true) (frStep_stick B) (i := j + 1) (by rw [e]) 20 (by omega), e]
theorem fo_next {B : Nat → Nat → Int32} {r : Nat → Int32} {i : Nat} (hst : it (frRound B) i (cFill 20 0 (B 8), none) = (r, none)) : it (frRound B) (i + 1) (cFill 20 0 (B 8), none) = frRound B i (r, none) := by
  show frRound B i (it (frRound B) i _) = _
  rw [hst]
theorem fo_fail {B : Nat → Nat → Int32} {r r' : Nat → Int32} {g' : Int32} {i : Nat} (hst : it (frRound B) i (cFill 20 0 (B 8), none) = (r, none)) (hi : i < 10) (hq : it (frStep B) 20 (r, 0, false) = (r', g', true)) : bFind B = (r', some false) := by
  have e : it (frRound B) (i + 1) (cFill 20 0 (B 8), none) = (r', some false) := by
    rw [fo_next hst]
    unfold frRound
    simp only [hq, if_pos]
  unfold bFind
  rw [it_stick (p := fun s => s.2 ≠ none) (frRound_stick B) (i := i + 1) (by rw [e]; exact fun h => by cases h) 10 (by omega), e]
theorem fo_done {B : Nat → Nat → Int32} {r r' : Nat → Int32} {g' : Int32} {i : Nat} (hst : it (frRound B) i (cFill 20 0 (B 8), none) = (r, none)) (hi : i < 10) (hq : it (frStep B) 20 (r, 0, false) = (r', g', false)) (hg : g' = 0) : bFind B = (r', some true) := by
  have e : it (frRound B) (i + 1) (cFill 20 0 (B 8), none) = (r', some true) := by
    rw [fo_next hst]
    unfold frRound
    simp [hq, hg]
  unfold bFind
  rw [it_stick (p := fun s => s.2 ≠ none) (frRound_stick B) (i := i + 1) (by rw [e]; exact fun h => by cases h) 10 (by omega), e]
theorem fo_more {B : Nat → Nat → Int32} {r r' : Nat → Int32} {g' : Int32} {i : Nat} (hst : it (frRound B) i (cFill 20 0 (B 8), none) = (r, none)) (hq : it (frStep B) 20 (r, 0, false) = (r', g', false)) (hg : ¬ g' = 0) : it (frRound B) (i + 1) (cFill 20 0 (B 8), none) = (r', none) := by
  rw [fo_next hst]
  unfold frRound
  simp [hq, hg]
theorem zlt1 {i n : Nat} (hi : i ≤ n + 1) (hn : n + 1 < 2 ^ 31) (c : ¬ nI n < nI i) : i < n + 1 := by
  rcases Nat.lt_or_ge i (n + 1) with h | h
  · exact h
  · exact absurd ((nI_ltI (by omega) (by omega)).mpr (by omega)) c
theorem zend1 {i n : Nat} (hi : i ≤ n + 1) (hn : n + 1 < 2 ^ 31) (c : nI n < nI i) : i = n + 1 := by
  have := (nI_ltI (by omega) (by omega)).mp c
  omega
theorem va_up_up {α : Type} {F : Nat → α} {a : Nat} {x y : α} : va_up (va_up F a x) a y = va_up F a y := by
  funext j
  by_cases h : j = a
  · simp [va_up, h]
  · simp [va_up, h]

abbrev mX0_findRanks : ZM := (cX0_findRanks, RX0, wsX0_findRanks, 4, 0, 0, (some .boolean), 5, yX0_findRanks.name)
set_option maxHeartbeats 1000000 in
set_option maxRecDepth 100000 in
theorem c_X0_findRanks {sh : zSh} {F : Nat → Nat → Int32} {P : Nat → Nat → Option Nat} {β : Nat} (hB : zBk sh P β) : zMet yX0_findRanks wsX0_findRanks (4) (0) (0) [.ref β] sh F P (some (.int (bFindOk (zsub F β)))) sh (va_up F (β + 8) (bFind (zsub F β)).1) P := by
  refine zMet.of (by decide) rfl (Nat.le_of_ble_eq_true rfl) (by simp [Value.category]) ?_
  intro X ρ
  show AW mX0_findRanks X (zMQ mX0_findRanks X (some (.int (bFindOk (zsub F β)))) sh (va_up F (β + 8) (bFind (zsub F β)).1) P) 0 [some (.ref β), none, none, none, none] [] ρ sh F P 0 0
  have hinX0 : ∀ w ∈ u_ws RX0 TX0 8, w ∈ wsX0_findRanks := by decide +kernel
  obtain ⟨hs, ⟨p0, p1, p2, p3, p4, p5, p6, p7⟩, s1, s2, s3, s4, s5, s6, s7, s8⟩ := id hB
  have L20 : ∀ (m j : Nat) (r0 r : Nat → Int32) (g : Int32) (rd : Nat) (o4 : Option Value), j ≤ 20 → 20 - j = m → it (frStep (zsub F β)) j (r0, 0, false) = (r, g, false) → (∀ (r' : Nat → Int32) (g' : Int32) (o3 o4 : Option Value), it (frStep (zsub F β)) 20 (r0, 0, false) = (r', g', false) → AW mX0_findRanks X (zMQ mX0_findRanks X (some (.int (bFindOk (zsub F β)))) sh (va_up F (β + 8) (bFind (zsub F β)).1) P) 88 [some (.ref β), some (.int (nI rd)), some (.int g'), o3, o4] [] ρ sh (va_up F (β + 8) r') P 0 0) → (∀ (r' : Nat → Int32) (g' : Int32) (o3 o4 : Option Value), it (frStep (zsub F β)) 20 (r0, 0, false) = (r', g', true) → AW mX0_findRanks X (zMQ mX0_findRanks X (some (.int (bFindOk (zsub F β)))) sh (va_up F (β + 8) (bFind (zsub F β)).1) P) 58 [some (.ref β), some (.int (nI rd)), some (.int g'), o3, o4] [] ρ sh (va_up F (β + 8) r') P 0 0) → AW mX0_findRanks X (zMQ mX0_findRanks X (some (.int (bFindOk (zsub F β)))) sh (va_up F (β + 8) (bFind (zsub F β)).1) P) 20 [some (.ref β), some (.int (nI rd)), some (.int g), some (.int (nI j)), o4] [] ρ sh (va_up F (β + 8) r) P 0 0 := by
    intro m
    induction m using Nat.strongRecOn with
    | _ m ih =>
    intro j r0 r g rd o4 hj hm hst hk hf
    refine aw_iload_3 dX0_findRanks_20 ?_
    refine aw_bipush (v := 20) dX0_findRanks_21 (by decide) ?_
    refine aw_icmp_ge (tgt := 88) dX0_findRanks_23 (by decide) (fun c23 => ?_) (fun c23 => ?_)
    · have hj2 := zend (n := 20) hj (by decide) c23
      subst hj2
      exact hk _ _ _ _ hst
    · have hlt : j < 20 := zlt (n := 20) hj (by decide) c23
      refine aw_aload_0 dX0_findRanks_26 ?_
      refine aw_iload_3 dX0_findRanks_27 ?_
      refine aw_run (zRun_V (c_X0_isMade (by assumption)) gX0_findRanks_X0_isMade q_X0_isMade rfl (by decide) rfl (by assumption) rfl rfl (Nat.le_of_ble_eq_true rfl) dX0_findRanks_28 ⟨Nat.le_refl _, Nat.le_refl _⟩) ?_
      refine aw_if_eq (tgt := 48) dX0_findRanks_31 (by decide) (fun c31 => ?_) (fun c31 => ?_)
      · refine aw_iconst (v := 0) dX0_findRanks_48 (by decide) ?_
        refine aw_top (x' := frRank (va_up (zsub F β) 8 r) j) (by unfold frRank; rw [← zsub_up]; first | rw [if_pos c31] | rw [if_neg c31]) ?_
        refine aw_istore_4 dX0_findRanks_49 ?_
        refine aw_iload_4 dX0_findRanks_51 ?_
        refine aw_bipush (v := 8) dX0_findRanks_53 (by decide) ?_
        refine aw_icmp_le (tgt := 60) dX0_findRanks_55 (by decide) (fun c55 => ?_) (fun c55 => ?_)
        · refine aw_iload_4 dX0_findRanks_60 ?_
          refine aw_aload_0 dX0_findRanks_62 ?_
          refine aw_iload_3 dX0_findRanks_63 ?_
          refine aw_run (zRun_V (c_X0_rankOf (by assumption)) gX0_findRanks_X0_rankOf q_X0_rankOf rfl (by decide) rfl (by assumption) rfl rfl (Nat.le_of_ble_eq_true rfl) dX0_findRanks_64 ⟨Nat.le_refl _, Nat.le_refl _⟩) ?_
          rw [show bRank (zsub (va_up F (β + 8) r) β) (nI j) = cAt 20 r (nI j) from by unfold bRank zsub; rw [zup_eq]]
          refine aw_icmp_eq (tgt := 82) dX0_findRanks_67 (by decide) (fun c67 => ?_) (fun c67 => ?_)
          · refine aw_iinc_3 (v := 1) (by decide) dX0_findRanks_82 ?_
            refine aw_goto (tgt := 20) dX0_findRanks_85 (by decide) ?_
            rw [nI_1]
            exact ih (20 - (j + 1)) (by omega) (j + 1) r0 r g rd _ (by omega) rfl (fr_keep hst c55 c67) hk hf
          · refine aw_aload_0 dX0_findRanks_70 ?_
            refine aw_getR fX0_7 (fun _ _ => rfl) (by assumption) hinX0 (by decide +kernel) (by assumption) dX0_findRanks_71 ?_
            refine aw_iload_3 dX0_findRanks_74 ?_
            refine aw_iload_4 dX0_findRanks_75 ?_
            refine aw_runv (zRun_SN (qn := 8) (c_X6_put (by assumption) (by decide)) gX0_findRanks_X6_put_n82 rfl (by decide +kernel) (by decide +kernel) q_X6_put (by decide) rfl rfl (Nat.le_of_ble_eq_true rfl) dX0_findRanks_77 ⟨Nat.le_refl _, Nat.le_refl _⟩) ?_
            refine aw_iconst (v := 1) dX0_findRanks_80 (by decide) ?_
            refine aw_istore_2 dX0_findRanks_81 ?_
            refine aw_iinc_3 (v := 1) (by decide) dX0_findRanks_82 ?_
            refine aw_goto (tgt := 20) dX0_findRanks_85 (by decide) ?_
            rw [nI_1, va_up_up, zup_eq]
            exact ih (20 - (j + 1)) (by omega) (j + 1) r0 _ 1 rd _ (by omega) rfl (fr_set hst c55 c67) hk hf
        · exact hf r g _ _ (fr_fail hst hlt c55)
      · refine aw_iconst (v := 1) dX0_findRanks_34 (by decide) ?_
        refine aw_aload_0 dX0_findRanks_35 ?_
        refine aw_aload_0 dX0_findRanks_36 ?_
        refine aw_iload_3 dX0_findRanks_37 ?_
        refine aw_run (zRun_V (c_X0_needsOf (by assumption)) gX0_findRanks_X0_needsOf q_X0_needsOf rfl (by decide) rfl (by assumption) rfl rfl (Nat.le_of_ble_eq_true rfl) dX0_findRanks_38 ⟨Nat.le_refl _, Nat.le_refl _⟩) ?_
        refine aw_run (zRun_V (c_X0_greatestRankIn (by assumption)) gX0_findRanks_X0_greatestRankIn q_X0_greatestRankIn rfl (by decide) rfl (by assumption) rfl rfl (Nat.le_of_ble_eq_true rfl) dX0_findRanks_41 ⟨Nat.le_refl _, Nat.le_refl _⟩) ?_
        refine aw_iadd dX0_findRanks_44 ?_
        refine aw_goto (tgt := 49) dX0_findRanks_45 (by decide) ?_
        refine aw_top (x' := frRank (va_up (zsub F β) 8 r) j) (by unfold frRank; rw [← zsub_up]; first | rw [if_pos c31] | rw [if_neg c31]) ?_
        refine aw_istore_4 dX0_findRanks_49 ?_
        refine aw_iload_4 dX0_findRanks_51 ?_
        refine aw_bipush (v := 8) dX0_findRanks_53 (by decide) ?_
        refine aw_icmp_le (tgt := 60) dX0_findRanks_55 (by decide) (fun c55 => ?_) (fun c55 => ?_)
        · refine aw_iload_4 dX0_findRanks_60 ?_
          refine aw_aload_0 dX0_findRanks_62 ?_
          refine aw_iload_3 dX0_findRanks_63 ?_
          refine aw_run (zRun_V (c_X0_rankOf (by assumption)) gX0_findRanks_X0_rankOf q_X0_rankOf rfl (by decide) rfl (by assumption) rfl rfl (Nat.le_of_ble_eq_true rfl) dX0_findRanks_64 ⟨Nat.le_refl _, Nat.le_refl _⟩) ?_
          rw [show bRank (zsub (va_up F (β + 8) r) β) (nI j) = cAt 20 r (nI j) from by unfold bRank zsub; rw [zup_eq]]
          refine aw_icmp_eq (tgt := 82) dX0_findRanks_67 (by decide) (fun c67 => ?_) (fun c67 => ?_)
          · refine aw_iinc_3 (v := 1) (by decide) dX0_findRanks_82 ?_
            refine aw_goto (tgt := 20) dX0_findRanks_85 (by decide) ?_
            rw [nI_1]
            exact ih (20 - (j + 1)) (by omega) (j + 1) r0 r g rd _ (by omega) rfl (fr_keep hst c55 c67) hk hf
          · refine aw_aload_0 dX0_findRanks_70 ?_
            refine aw_getR fX0_7 (fun _ _ => rfl) (by assumption) hinX0 (by decide +kernel) (by assumption) dX0_findRanks_71 ?_
            refine aw_iload_3 dX0_findRanks_74 ?_
            refine aw_iload_4 dX0_findRanks_75 ?_
            refine aw_runv (zRun_SN (qn := 8) (c_X6_put (by assumption) (by decide)) gX0_findRanks_X6_put_n82 rfl (by decide +kernel) (by decide +kernel) q_X6_put (by decide) rfl rfl (Nat.le_of_ble_eq_true rfl) dX0_findRanks_77 ⟨Nat.le_refl _, Nat.le_refl _⟩) ?_
            refine aw_iconst (v := 1) dX0_findRanks_80 (by decide) ?_
            refine aw_istore_2 dX0_findRanks_81 ?_
            refine aw_iinc_3 (v := 1) (by decide) dX0_findRanks_82 ?_
            refine aw_goto (tgt := 20) dX0_findRanks_85 (by decide) ?_
            rw [nI_1, va_up_up, zup_eq]
            exact ih (20 - (j + 1)) (by omega) (j + 1) r0 _ 1 rd _ (by omega) rfl (fr_set hst c55 c67) hk hf
        · exact hf r g _ _ (fr_fail hst hlt c55)
  have L10 : ∀ (m i : Nat) (r : Nat → Int32) (o2 o3 o4 : Option Value), i ≤ 10 → 10 - i = m → it (frRound (zsub F β)) i (cFill 20 0 (zsub F β 8), none) = (r, none) → AW mX0_findRanks X (zMQ mX0_findRanks X (some (.int (bFindOk (zsub F β)))) sh (va_up F (β + 8) (bFind (zsub F β)).1) P) 10 [some (.ref β), some (.int (nI i)), o2, o3, o4] [] ρ sh (va_up F (β + 8) r) P 0 0 := by
    intro m
    induction m using Nat.strongRecOn with
    | _ m ih =>
    intro i r o2 o3 o4 hi hm hst
    refine aw_iload_1 dX0_findRanks_10 ?_
    refine aw_bipush (v := 9) dX0_findRanks_11 (by decide) ?_
    refine aw_icmp_gt (tgt := 100) dX0_findRanks_13 (by decide) (fun c13 => ?_) (fun c13 => ?_)
    · refine aw_iconst (v := 0) dX0_findRanks_100 (by decide) ?_
      exact aw_zreturn rfl dX0_findRanks_101 ⟨Nat.zero_le _, Nat.zero_le _⟩ (by decide) (by have hi2 := zend1 (n := 9) hi (by decide) c13; subst hi2; rw [bFindOk, show bFind (zsub F β) = (r, none) from hst]; rfl) rfl (by have hi2 := zend1 (n := 9) hi (by decide) c13; subst hi2; rw [show bFind (zsub F β) = (r, none) from hst]) rfl
    · have hlt : i < 10 := zlt1 (n := 9) hi (by decide) c13
      refine aw_iconst (v := 0) dX0_findRanks_16 (by decide) ?_
      refine aw_istore_2 dX0_findRanks_17 ?_
      refine aw_iconst (v := 0) dX0_findRanks_18 (by decide) ?_
      refine aw_istore_3 dX0_findRanks_19 ?_
      refine L20 _ 0 r r 0 i _ (Nat.zero_le _) rfl rfl (fun r' g' o3 o4 hq => ?_) (fun r' g' o3 o4 hq => ?_)
      · refine aw_iload_2 dX0_findRanks_88 ?_
        refine aw_if_ne (tgt := 94) dX0_findRanks_89 (by decide) (fun c89 => ?_) (fun c89 => ?_)
        · refine aw_iinc_1 (v := 1) (by decide) dX0_findRanks_94 ?_
          refine aw_goto (tgt := 10) dX0_findRanks_97 (by decide) ?_
          rw [nI_1]
          exact ih (10 - (i + 1)) (by omega) (i + 1) r' _ _ _ (by omega) rfl (fo_more hst hq c89)
        · refine aw_iconst (v := 1) dX0_findRanks_92 (by decide) ?_
          exact aw_zreturn rfl dX0_findRanks_93 ⟨Nat.zero_le _, Nat.zero_le _⟩ (by decide) (by rw [bFindOk, fo_done hst hlt hq c89]; rfl) rfl (by rw [fo_done hst hlt hq c89]) rfl
      · refine aw_iconst (v := 0) dX0_findRanks_58 (by decide) ?_
        exact aw_zreturn rfl dX0_findRanks_59 ⟨Nat.zero_le _, Nat.zero_le _⟩ (by decide) (by rw [bFindOk, fo_fail hst hlt hq]; rfl) rfl (by rw [fo_fail hst hlt hq]) rfl
  refine aw_aload_0 dX0_findRanks_0 ?_
  refine aw_getR fX0_7 (fun _ _ => rfl) (by assumption) hinX0 (by decide +kernel) (by assumption) dX0_findRanks_1 ?_
  refine aw_iconst (v := 0) dX0_findRanks_4 (by decide) ?_
  refine aw_runv (zRun_S (c_J7_fill_53178 (by assumption) (by decide)) (Or.inl gX0_findRanks_J7_fill_53178) q_J7_fill_53178 (by decide) rfl rfl (Nat.le_of_ble_eq_true rfl) dX0_findRanks_5 ⟨Nat.le_refl _, Nat.le_refl _⟩) ?_
  refine aw_iconst (v := 0) dX0_findRanks_8 (by decide) ?_
  refine aw_istore_1 dX0_findRanks_9 ?_
  exact L10 _ 0 _ _ _ _ (Nat.zero_le _) rfl rfl

