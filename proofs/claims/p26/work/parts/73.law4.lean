/-! ===== 73.law4: the ranks, by the law ===== -/
def pIg (v : pV) (t k w : Nat) : Int32 := if nI k < bIngs (pvB v) (nI t) then (if w = 0 then bIng (pvB v) (nI t) (nI k) else bAmt (pvB v) (nI t) (nI k)) else -9
def pSb (v : pV) (t k : Nat) : Int32 := if bSubs (pvB v) (nI t) ≤ nI k then -9 else bSub (pvB v) (nI t) (nI k)
theorem a_ingr {v : pV} {sh : zSh} {F : pM} {P : Nat → Nat → Option Nat} {χ : Nat} (hL : pLI sh F P χ v) {t k : Nat} (ht : t < 20) (hk : k < 5) (w : Nat) (hw : w < 2) : zMet yX6_ingredient wsX6_ingredient 3 0 0 [.ref χ, .int (nI t), .int (nI k), .int (nI w)] sh F P (some (.int (pIg v t k w))) sh F P := a_ingredient hL ht hk hw
theorem a_subst {v : pV} {sh : zSh} {F : pM} {P : Nat → Nat → Option Nat} {χ : Nat} (hL : pLI sh F P χ v) {t k : Nat} (ht : t < 20) (hk : k < 2 ^ 31) : zMet yX6_substitute wsX6_substitute 3 0 0 [.ref χ, .int (nI t), .int (nI k)] sh F P (some (.int (pSb v t k))) sh F P := a_substitute hL ht hk
def pRin (w : Nat → Int32) (t k r : Nat) : Prop := r ≤ 9 ∧ (∀ k', k' < k → k' < eWc w t → nRs w 12 (eWi w t k') + 1 ≤ r ∧ ∀ i, i < eWs w (eWi w t k') → nRs w 12 (eWb w (eWi w t k') i) + 1 ≤ r) ∧ (r = 0 ∨ ∃ j, eNd w t j ∧ r = nRs w 12 j + 1)
section RKL
variable {v : pV} {w : Nat → Int32} {t k i r j : Nat}
theorem pRin.mono (h : pRin w t k r) (hj : eNd w t j) (h8 : nRs w 12 j ≤ 8) : pRin w t k (max r (nRs w 12 j + 1)) := by
  obtain ⟨h1, h2, h3⟩ := h
  refine ⟨by omega, fun k' a b => ⟨Nat.le_trans (h2 k' a b).1 (Nat.le_max_left _ _), fun i hi => Nat.le_trans ((h2 k' a b).2 i hi) (Nat.le_max_left _ _)⟩, ?_⟩
  rcases Nat.le_total r (nRs w 12 j + 1) with e | e
  · rw [Nat.max_eq_right e]
    exact Or.inr ⟨j, hj, rfl⟩
  · rw [Nat.max_eq_left e]
    exact h3
theorem pIg0 (h : bInv (pvB v) w) (ht : t < 20) (hk : k < 5) : (k < eWc w t ∧ eWi w t k < 20 ∧ pIg v t k 0 = nI (eWi w t k)) ∨ (eWc w t ≤ k ∧ pIg v t k 0 = -9) := by
  have h5 := (h.1.1 t ht).2.1.2
  unfold pIg
  rw [h.1.ings ht, if_pos (show (0 : Nat) = 0 from rfl)]
  by_cases c : k < eWc w t
  · rw [if_pos (nI_lt c (by omega)), h.1.ing ht c]
    exact Or.inl ⟨c, ((h.1.1 t ht).2.2.2.2.1 k c).2.1, rfl⟩
  · rw [if_neg (nI_nlt (by omega) (by omega))]
    exact Or.inr ⟨by omega, rfl⟩
theorem pIg1 (h : bInv (pvB v) w) (ht : t < 20) (hc : k < eWc w t) : ¬ pIg v t k 1 ≤ 0 := by
  have h5 := (h.1.1 t ht).2.1.2
  unfold pIg
  rw [h.1.ings ht, if_neg (show ¬ (1 : Nat) = 0 by decide), if_pos (nI_lt hc (by omega)), h.1.amt ht hc]
  obtain ⟨-, -, -, a, b⟩ := (h.1.1 t ht).2.2.2.2.1 k hc
  exact nI_nle (by omega) (by omega)
theorem pSb1 (h : bInv (pvB v) w) (ht : t < 20) (hc : i < eWs w t) : pSb v t i = nI (eWb w t i) ∧ eWb w t i < 20 := by
  have h5 := (h.1.1 t ht).2.2.2.1.2
  unfold pSb
  rw [h.1.subs ht, if_neg (nI_ge hc (by omega)), h.1.sub ht hc]
  exact ⟨rfl, ((h.1.1 t ht).2.2.2.2.2.1 i hc).2⟩
theorem pSb0 (h : bInv (pvB v) w) (ht : t < 20) : pSb v t (eWs w t) = -9 := by
  have h5 := (h.1.1 t ht).2.2.2.1.2
  unfold pSb
  rw [h.1.subs ht, if_pos (nI_le (Nat.le_refl _) (by omega))]
theorem pTh3 (h : bInv (pvB v) w) (ht : t < 20) (hc : k < eWc w t) : pTh v t 3 = nI (eWc w t) := by
  have e : pTh v t 3 = if bMade (pvB v) (nI t) = 0 then -9 else bIngs (pvB v) (nI t) := rfl
  rw [e, h.1.made ht, h.1.ings ht]
  by_cases c : eWy w t = 0
  · have := (h.1.1 t ht).2.2.1 c
    omega
  · rw [if_neg c, if_neg (by decide)]
theorem pNd_lt (h : bInv (pvB v) w) (ht : t < 20) (hj : eNd w t j) : nRs w 12 j < nRs w 12 t := by
  obtain ⟨k, hk, e⟩ := hj
  have hy : eWy w t ≠ 0 := fun c => by
    have := (h.1.1 t ht).2.2.1 c
    omega
  obtain ⟨-, -, h3⟩ := h.2.2.1 t ht hy
  rcases e with e | ⟨i, hi, e⟩
  · rw [← e]
    exact (h3 k hk).1
  · rw [← e]
    exact (h3 k hk).2 i hi
theorem pRin.next (h : pRin w t k r) (h1 : nRs w 12 (eWi w t k) + 1 ≤ r) (h2 : ∀ i, i < eWs w (eWi w t k) → nRs w 12 (eWb w (eWi w t k) i) + 1 ≤ r) : pRin w t (k + 1) r := by
  refine ⟨h.1, fun k' a b => ?_, h.2.2⟩
  by_cases e : k' = k
  · subst e
    exact ⟨h1, h2⟩
  · exact h.2.1 k' (by omega) b
theorem pRin.skip (h : pRin w t k r) (hc : eWc w t ≤ k) : pRin w t (k + 1) r := ⟨h.1, fun k' a b => h.2.1 k' (by omega) b, h.2.2⟩
theorem pRin.end (h : pRin w t 5 r) (hB : bInv (pvB v) w) (ht : t < 20) : nRs w 12 t = r := by
  have h5 := (hB.1.1 t ht).2.1.2
  refine hB.isRank ht (fun j hj => ?_) h.2.2
  obtain ⟨k, hk, e⟩ := hj
  obtain ⟨a, b⟩ := h.2.1 k (by omega) hk
  rcases e with e | ⟨i, hi, e⟩
  · rw [← e]
    exact a
  · rw [← e]
    exact b i hi
theorem pBel {f : Nat → Nat} (h : ∀ i', i' < i → f i' + 1 ≤ r) : ∀ i', i' < i + 1 → f i' + 1 ≤ max r (f i + 1) := by
  intro i' h2
  by_cases e : i' = i
  · subst e
    exact Nat.le_max_right _ _
  · exact Nat.le_trans (h i' (by omega)) (Nat.le_max_left _ _)
theorem pMaxL {a : Nat} (c : nI a < nI r) (ha : a < 20) (hr : r < 20) : nI (max r (a + 1)) = nI r := by
  refine congrArg nI (Nat.max_eq_left ?_)
  refine Nat.succ_le_of_lt (Nat.lt_of_not_le fun q => ?_)
  exact nI_nlt q (by omega) c
theorem pMaxR {a : Nat} (c : ¬ nI a < nI r) (ha : a < 20) (hr : r < 20) : nI (max r (a + 1)) = nI a + 1 := by
  rw [nI_1]
  refine congrArg nI (Nat.max_eq_right ?_)
  refine Nat.le_succ_of_le (Nat.le_of_not_lt fun q => c ?_)
  exact nI_lt q (by omega)
end RKL

abbrev mL_isRanked : ZM := (cL_isRanked, RL, wsL_isRanked, 6, 0, 0, (some .boolean), 8, yL_isRanked.name)
set_option maxHeartbeats 1000000 in
set_option maxRecDepth 100000 in
theorem c_L_isRanked {sh : zSh} {F : Nat → Nat → Int32} {P : Nat → Nat → Option Nat} {χ t : Nat} {v : pV} {w : Nat → Int32} (hL : pLI sh F P χ v) (hB : bInv (pvB v) w) (ht : t < 20) : zMet yL_isRanked wsL_isRanked (6) (0) (0) [.ref χ, .int (nI t)] sh F P (some (.int 1)) sh F P := by
  refine zMet.of (by decide) rfl (Nat.le_of_ble_eq_true rfl) (by simp [Value.category]) ?_
  intro X ρ
  show AW mL_isRanked X (zMQ mL_isRanked X (some (.int 1)) sh F P) 0 [some (.ref χ), some (.int (nI t)), none, none, none, none, none, none] [] ρ sh F P 0 0
  have hs := hL.1.1.1
  have L4 : ∀ (m k r : Nat) (o4 o5 o6 o7 : Option Value), k ≤ 5 → 5 - k = m → pRin w t k r → AW mL_isRanked X (zMQ mL_isRanked X (some (.int 1)) sh F P) 4 [some (.ref χ), some (.int (nI t)), some (.int (nI r)), some (.int (nI k)), o4, o5, o6, o7] [] ρ sh F P 0 0 := by
    intro m
    induction m using Nat.strongRecOn with
    | _ m ih =>
    intro k r o4 o5 o6 o7 hk hm hI
    refine aw_iload_3 dL_isRanked_4 ?_
    refine aw_iconst (v := 5) dL_isRanked_5 (by decide) ?_
    refine aw_icmp_ge (tgt := 195) dL_isRanked_6 (by decide) (fun c6 => ?_) (fun c6 => ?_)
    · have hk5 := zend (n := 5) hk (by decide) c6
      subst hk5
      have hrk := hI.end hB ht
      have hs3 := (hB.1.1 _ ht).2.2.2.1.2
      refine aw_aload_0 dL_isRanked_195 ?_
      refine aw_iload_1 dL_isRanked_196 ?_
      refine aw_iconst (v := 1) dL_isRanked_197 (by decide) ?_
      refine aw_run (zRun_V (a_thing (w := 1) hL ht (by decide)) gL_isRanked_X6_thing q_X6_thing rfl (by decide) rfl hs rfl rfl (Nat.le_of_ble_eq_true rfl) dL_isRanked_198 ⟨Nat.le_refl _, Nat.le_refl _⟩) ?_
      refine aw_iload_2 dL_isRanked_201 ?_
      refine aw_icmp_ne (tgt := 234) dL_isRanked_202 (by decide) (fun c202 => absurd c202 (fun e => e ((hB.rank ht).trans (by rw [hrk])))) (fun c202 => ?_)
      refine aw_aload_0 dL_isRanked_205 ?_
      refine aw_iload_1 dL_isRanked_206 ?_
      refine aw_iload_1 dL_isRanked_207 ?_
      refine aw_run (zRun_V (a_isNeeded hL ht ht) gL_isRanked_X6_isNeeded q_X6_isNeeded rfl (by decide) rfl hs rfl rfl (Nat.le_of_ble_eq_true rfl) dL_isRanked_208 ⟨Nat.le_refl _, Nat.le_refl _⟩) ?_
      refine aw_if_ne (tgt := 234) dL_isRanked_211 (by decide) (fun c211 => absurd c211 (fun e => e (if_pos (hB.need0 ht ht (Nat.le_refl _))))) (fun c211 => ?_)
      refine aw_aload_0 dL_isRanked_214 ?_
      refine aw_iload_1 dL_isRanked_215 ?_
      refine aw_aload_0 dL_isRanked_216 ?_
      refine aw_iload_1 dL_isRanked_217 ?_
      refine aw_iconst (v := 5) dL_isRanked_218 (by decide) ?_
      refine aw_run (zRun_V (a_thing (w := 5) hL ht (by decide)) gL_isRanked_X6_thing q_X6_thing rfl (by decide) rfl hs rfl rfl (Nat.le_of_ble_eq_true rfl) dL_isRanked_219 ⟨Nat.le_refl _, Nat.le_refl _⟩) ?_
      refine aw_top (x' := nI (eWs w t)) (hB.1.subs ht).symm ?_
      refine aw_run (zRun_V (a_subst hL ht (by omega)) gL_isRanked_X6_substitute q_X6_substitute rfl (by decide) rfl hs rfl rfl (Nat.le_of_ble_eq_true rfl) dL_isRanked_222 ⟨Nat.le_refl _, Nat.le_refl _⟩) ?_
      refine aw_bipush (v := (-9)) dL_isRanked_225 (by decide) ?_
      refine aw_icmp_ne (tgt := 234) dL_isRanked_227 (by decide) (fun c227 => absurd c227 (fun e => e (pSb0 hB ht))) (fun c227 => ?_)
      refine aw_iconst (v := 1) dL_isRanked_230 (by decide) ?_
      refine aw_goto (tgt := 235) dL_isRanked_231 (by decide) ?_
      exact aw_zreturn rfl dL_isRanked_235 ⟨Nat.zero_le _, Nat.zero_le _⟩ (by decide) rfl rfl rfl rfl
    · have hlt : k < 5 := zlt (n := 5) hk (by decide) c6
      have hx := pIg0 hB ht hlt
      refine aw_aload_0 dL_isRanked_9 ?_
      refine aw_iload_1 dL_isRanked_10 ?_
      refine aw_iload_3 dL_isRanked_11 ?_
      refine aw_iconst (v := 0) dL_isRanked_12 (by decide) ?_
      refine aw_run (zRun_V (a_ingr hL ht hlt 0 (by decide)) gL_isRanked_X6_ingredient q_X6_ingredient rfl (by decide) rfl hs rfl rfl (Nat.le_of_ble_eq_true rfl) dL_isRanked_13 ⟨Nat.le_refl _, Nat.le_refl _⟩) ?_
      generalize pIg v t k 0 = x at hx ⊢
      refine aw_istore_4 dL_isRanked_16 ?_
      refine aw_iload_4 dL_isRanked_18 ?_
      refine aw_if_lt (tgt := 189) dL_isRanked_20 (by decide) (fun c20 => ?_) (fun c20 => ?_)
      · refine aw_iinc_3 (v := 1) (by decide) dL_isRanked_189 ?_
        refine aw_goto (tgt := 4) dL_isRanked_192 (by decide) ?_
        obtain ⟨hc, -⟩ := hx.resolve_left (fun h => by rw [h.2.2] at c20; exact nI_pos (by omega) c20)
        rw [nI_1]
        exact ih (5 - (k + 1)) (by omega) (k + 1) _ _ _ _ _ (by omega) rfl (hI.skip hc)
      · obtain ⟨hc, hits, rfl⟩ := hx.resolve_right (fun h => c20 (by rw [h.2]; decide))
        have hnd : eNd w t (eWi w t k) := ⟨k, hc, Or.inl rfl⟩
        have hr8 := (hB.2.1 _ hits).2
        have hr9 := hI.1
        have hnl := pNd_lt hB ht hnd
        refine aw_aload_0 dL_isRanked_23 ?_
        refine aw_iload_4 dL_isRanked_24 ?_
        refine aw_iconst (v := 1) dL_isRanked_26 (by decide) ?_
        have M47 : AW mL_isRanked X (zMQ mL_isRanked X (some (.int 1)) sh F P) 47 [some (.ref χ), some (.int (nI t)), some (.int (nI r)), some (.int (nI k)), some (.int (nI (eWi w t k))), o5, o6, o7] [.int (nI (max r (nRs w 12 (eWi w t k) + 1)))] ρ sh F P 0 0 := by
          refine aw_istore_2 dL_isRanked_47 ?_
          refine aw_aload_0 dL_isRanked_48 ?_
          refine aw_iload_4 dL_isRanked_49 ?_
          refine aw_iload_1 dL_isRanked_51 ?_
          refine aw_run (zRun_V (a_isNeeded hL hits ht) gL_isRanked_X6_isNeeded q_X6_isNeeded rfl (by decide) rfl hs rfl rfl (Nat.le_of_ble_eq_true rfl) dL_isRanked_52 ⟨Nat.le_refl _, Nat.le_refl _⟩) ?_
          refine aw_iconst (v := 1) dL_isRanked_55 (by decide) ?_
          refine aw_icmp_ne (tgt := 83) dL_isRanked_56 (by decide) (fun c56 => absurd c56 (fun e => e (if_neg (hB.need1 ht hits hnd)))) (fun c56 => ?_)
          refine aw_aload_0 dL_isRanked_59 ?_
          refine aw_iload_1 dL_isRanked_60 ?_
          refine aw_iload_4 dL_isRanked_61 ?_
          refine aw_run (zRun_V (a_isNeeded hL ht hits) gL_isRanked_X6_isNeeded q_X6_isNeeded rfl (by decide) rfl hs rfl rfl (Nat.le_of_ble_eq_true rfl) dL_isRanked_63 ⟨Nat.le_refl _, Nat.le_refl _⟩) ?_
          refine aw_if_ne (tgt := 83) dL_isRanked_66 (by decide) (fun c66 => absurd c66 (fun e => e (if_pos (hB.need0 hits ht (by omega))))) (fun c66 => ?_)
          refine aw_aload_0 dL_isRanked_69 ?_
          refine aw_iload_1 dL_isRanked_70 ?_
          refine aw_iload_3 dL_isRanked_71 ?_
          refine aw_iconst (v := 1) dL_isRanked_72 (by decide) ?_
          refine aw_run (zRun_V (a_ingr hL ht hlt 1 (by decide)) gL_isRanked_X6_ingredient q_X6_ingredient rfl (by decide) rfl hs rfl rfl (Nat.le_of_ble_eq_true rfl) dL_isRanked_73 ⟨Nat.le_refl _, Nat.le_refl _⟩) ?_
          refine aw_if_le (tgt := 83) dL_isRanked_76 (by decide) (fun c76 => absurd c76 (pIg1 hB ht hc)) (fun c76 => ?_)
          refine aw_iconst (v := 1) dL_isRanked_79 (by decide) ?_
          refine aw_goto (tgt := 84) dL_isRanked_80 (by decide) ?_
          have M89 : ∀ (m i r : Nat) (o7 : Option Value), i ≤ eWs w (eWi w t k) → eWs w (eWi w t k) - i = m → pRin w t k r → nRs w 12 (eWi w t k) + 1 ≤ r → (∀ i', i' < i → nRs w 12 (eWb w (eWi w t k) i') + 1 ≤ r) → AW mL_isRanked X (zMQ mL_isRanked X (some (.int 1)) sh F P) 89 [some (.ref χ), some (.int (nI t)), some (.int (nI r)), some (.int (nI k)), some (.int (nI (eWi w t k))), some (.int 1), some (.int (nI i)), o7] [] ρ sh F P 0 0 := by
            intro m
            induction m using Nat.strongRecOn with
            | _ m ih2 =>
            intro i r o7 hi hm2 hI2 hr1 hr2
            refine aw_iload_6 dL_isRanked_89 ?_
            refine aw_aload_0 dL_isRanked_91 ?_
            refine aw_iload_4 dL_isRanked_92 ?_
            refine aw_iconst (v := 5) dL_isRanked_94 (by decide) ?_
            refine aw_run (zRun_V (a_thing (w := 5) hL hits (by decide)) gL_isRanked_X6_thing q_X6_thing rfl (by decide) rfl hs rfl rfl (Nat.le_of_ble_eq_true rfl) dL_isRanked_95 ⟨Nat.le_refl _, Nat.le_refl _⟩) ?_
            have hs3 := (hB.1.1 _ hits).2.2.2.1.2
            refine aw_top (x' := nI (eWs w (eWi w t k))) (hB.1.subs hits).symm ?_
            refine aw_icmp_ge (tgt := 172) dL_isRanked_98 (by decide) (fun c98 => ?_) (fun c98 => ?_)
            · refine aw_iload_5 dL_isRanked_172 ?_
              refine aw_if_eq (tgt := 187) dL_isRanked_174 (by decide) (fun c174 => absurd c174 (by decide)) (fun c174 => ?_)
              refine aw_iload_3 dL_isRanked_177 ?_
              refine aw_aload_0 dL_isRanked_178 ?_
              refine aw_iload_1 dL_isRanked_179 ?_
              refine aw_iconst (v := 3) dL_isRanked_180 (by decide) ?_
              refine aw_run (zRun_V (a_thing (w := 3) hL ht (by decide)) gL_isRanked_X6_thing q_X6_thing rfl (by decide) rfl hs rfl rfl (Nat.le_of_ble_eq_true rfl) dL_isRanked_181 ⟨Nat.le_refl _, Nat.le_refl _⟩) ?_
              refine aw_icmp_lt (tgt := 189) dL_isRanked_184 (by decide) (fun c184 => ?_) (fun c184 => absurd (by rw [pTh3 hB ht hc]; exact nI_lt hc (by have := (hB.1.1 t ht).2.1.2; omega)) c184)
              refine aw_iinc_3 (v := 1) (by decide) dL_isRanked_189 ?_
              refine aw_goto (tgt := 4) dL_isRanked_192 (by decide) ?_
              rw [nI_1]
              exact ih (5 - (k + 1)) (by omega) (k + 1) _ _ _ _ _ (by omega) rfl (hI2.next hr1 (by rw [← zend hi (by omega) c98]; exact hr2))
            · have hil : i < eWs w (eWi w t k) := zlt hi (by omega) c98
              obtain ⟨esb, hsub⟩ := pSb1 hB hits hil
              have hnd2 : eNd w t (eWb w (eWi w t k) i) := ⟨k, hc, Or.inr ⟨i, hil, rfl⟩⟩
              have hr82 := (hB.2.1 _ hsub).2
              have hr92 := hI2.1
              have hnl2 := pNd_lt hB ht hnd2
              refine aw_aload_0 dL_isRanked_101 ?_
              refine aw_iload_4 dL_isRanked_102 ?_
              refine aw_iload_6 dL_isRanked_104 ?_
              refine aw_run (zRun_V (a_subst hL hits (by omega)) gL_isRanked_X6_substitute q_X6_substitute rfl (by decide) rfl hs rfl rfl (Nat.le_of_ble_eq_true rfl) dL_isRanked_106 ⟨Nat.le_refl _, Nat.le_refl _⟩) ?_
              refine aw_top (x' := nI (eWb w (eWi w t k) i)) esb.symm ?_
              refine aw_istore_7 dL_isRanked_109 ?_
              refine aw_aload_0 dL_isRanked_111 ?_
              refine aw_iload_7 dL_isRanked_112 ?_
              refine aw_iconst (v := 1) dL_isRanked_114 (by decide) ?_
              have M135 : AW mL_isRanked X (zMQ mL_isRanked X (some (.int 1)) sh F P) 135 [some (.ref χ), some (.int (nI t)), some (.int (nI r)), some (.int (nI k)), some (.int (nI (eWi w t k))), some (.int 1), some (.int (nI i)), some (.int (nI (eWb w (eWi w t k) i)))] [.int (nI (max r (nRs w 12 (eWb w (eWi w t k) i) + 1)))] ρ sh F P 0 0 := by
                refine aw_istore_2 dL_isRanked_135 ?_
                refine aw_iload_5 dL_isRanked_136 ?_
                refine aw_if_eq (tgt := 163) dL_isRanked_138 (by decide) (fun c138 => absurd c138 (by decide)) (fun c138 => ?_)
                refine aw_iload_7 dL_isRanked_141 ?_
                refine aw_iload_4 dL_isRanked_143 ?_
                refine aw_icmp_eq (tgt := 163) dL_isRanked_145 (by decide) (fun c145 => absurd c145 (fun e => hB.2.2.2.2.2 _ hits i hil ((nI_eq (by omega) (by omega)).mp e))) (fun c145 => ?_)
                refine aw_aload_0 dL_isRanked_148 ?_
                refine aw_iload_7 dL_isRanked_149 ?_
                refine aw_iload_1 dL_isRanked_151 ?_
                refine aw_run (zRun_V (a_isNeeded hL hsub ht) gL_isRanked_X6_isNeeded q_X6_isNeeded rfl (by decide) rfl hs rfl rfl (Nat.le_of_ble_eq_true rfl) dL_isRanked_152 ⟨Nat.le_refl _, Nat.le_refl _⟩) ?_
                refine aw_iconst (v := 1) dL_isRanked_155 (by decide) ?_
                refine aw_icmp_ne (tgt := 163) dL_isRanked_156 (by decide) (fun c156 => absurd c156 (fun e => e (if_neg (hB.need1 ht hsub hnd2)))) (fun c156 => ?_)
                refine aw_iconst (v := 1) dL_isRanked_159 (by decide) ?_
                refine aw_goto (tgt := 164) dL_isRanked_160 (by decide) ?_
                refine aw_istore_5 dL_isRanked_164 ?_
                refine aw_iinc_6 (v := 1) (by decide) dL_isRanked_166 ?_
                refine aw_goto (tgt := 89) dL_isRanked_169 (by decide) ?_
                rw [nI_1]
                exact ih2 (eWs w (eWi w t k) - (i + 1)) (by omega) (i + 1) _ _ (by omega) rfl (hI2.mono hnd2 hr82) (Nat.le_trans hr1 (Nat.le_max_left _ _)) (pBel (f := fun i' => nRs w 12 (eWb w (eWi w t k) i')) hr2)
              refine aw_run (zRun_V (a_thing (w := 1) hL hsub (by decide)) gL_isRanked_X6_thing q_X6_thing rfl (by decide) rfl hs rfl rfl (Nat.le_of_ble_eq_true rfl) dL_isRanked_115 ⟨Nat.le_refl _, Nat.le_refl _⟩) ?_
              refine aw_top (x' := nI (nRs w 12 (eWb w (eWi w t k) i))) (hB.rank hsub).symm ?_
              refine aw_iload_2 dL_isRanked_118 ?_
              refine aw_icmp_lt (tgt := 134) dL_isRanked_119 (by decide) (fun c119 => ?_) (fun c119 => ?_)
              · refine aw_iload_2 dL_isRanked_134 ?_
                refine aw_top (x' := nI (max r (nRs w 12 (eWb w (eWi w t k) i) + 1))) (by first | exact pMaxL c119 (by omega) (by omega) | exact pMaxR c119 (by omega) (by omega)) ?_
                exact M135
              · refine aw_aload_0 dL_isRanked_122 ?_
                refine aw_iload_7 dL_isRanked_123 ?_
                refine aw_iconst (v := 1) dL_isRanked_125 (by decide) ?_
                refine aw_run (zRun_V (a_thing (w := 1) hL hsub (by decide)) gL_isRanked_X6_thing q_X6_thing rfl (by decide) rfl hs rfl rfl (Nat.le_of_ble_eq_true rfl) dL_isRanked_126 ⟨Nat.le_refl _, Nat.le_refl _⟩) ?_
                refine aw_top (x' := nI (nRs w 12 (eWb w (eWi w t k) i))) (hB.rank hsub).symm ?_
                refine aw_iconst (v := 1) dL_isRanked_129 (by decide) ?_
                refine aw_iadd dL_isRanked_130 ?_
                refine aw_goto (tgt := 135) dL_isRanked_131 (by decide) ?_
                refine aw_top (x' := nI (max r (nRs w 12 (eWb w (eWi w t k) i) + 1))) (by first | exact pMaxL c119 (by omega) (by omega) | exact pMaxR c119 (by omega) (by omega)) ?_
                exact M135
          refine aw_istore_5 dL_isRanked_84 ?_
          refine aw_iconst (v := 0) dL_isRanked_86 (by decide) ?_
          refine aw_istore_6 dL_isRanked_87 ?_
          exact M89 _ 0 _ _ (Nat.zero_le _) rfl (hI.mono hnd hr8) (Nat.le_max_right _ _) (fun i' h => absurd h (Nat.not_lt_zero _))
        refine aw_run (zRun_V (a_thing (w := 1) hL hits (by decide)) gL_isRanked_X6_thing q_X6_thing rfl (by decide) rfl hs rfl rfl (Nat.le_of_ble_eq_true rfl) dL_isRanked_27 ⟨Nat.le_refl _, Nat.le_refl _⟩) ?_
        refine aw_top (x' := nI (nRs w 12 (eWi w t k))) (hB.rank hits).symm ?_
        refine aw_iload_2 dL_isRanked_30 ?_
        refine aw_icmp_lt (tgt := 46) dL_isRanked_31 (by decide) (fun c31 => ?_) (fun c31 => ?_)
        · refine aw_iload_2 dL_isRanked_46 ?_
          refine aw_top (x' := nI (max r (nRs w 12 (eWi w t k) + 1))) (by first | exact pMaxL c31 (by omega) (by omega) | exact pMaxR c31 (by omega) (by omega)) ?_
          exact M47
        · refine aw_aload_0 dL_isRanked_34 ?_
          refine aw_iload_4 dL_isRanked_35 ?_
          refine aw_iconst (v := 1) dL_isRanked_37 (by decide) ?_
          refine aw_run (zRun_V (a_thing (w := 1) hL hits (by decide)) gL_isRanked_X6_thing q_X6_thing rfl (by decide) rfl hs rfl rfl (Nat.le_of_ble_eq_true rfl) dL_isRanked_38 ⟨Nat.le_refl _, Nat.le_refl _⟩) ?_
          refine aw_top (x' := nI (nRs w 12 (eWi w t k))) (hB.rank hits).symm ?_
          refine aw_iconst (v := 1) dL_isRanked_41 (by decide) ?_
          refine aw_iadd dL_isRanked_42 ?_
          refine aw_goto (tgt := 47) dL_isRanked_43 (by decide) ?_
          refine aw_top (x' := nI (max r (nRs w 12 (eWi w t k) + 1))) (by first | exact pMaxL c31 (by omega) (by omega) | exact pMaxR c31 (by omega) (by omega)) ?_
          exact M47
  refine aw_iconst (v := 0) dL_isRanked_0 (by decide) ?_
  refine aw_istore_2 dL_isRanked_1 ?_
  refine aw_iconst (v := 0) dL_isRanked_2 (by decide) ?_
  refine aw_istore_3 dL_isRanked_3 ?_
  exact L4 _ 0 0 _ _ _ _ (by decide) rfl ⟨by decide, fun k' a _ => absurd a (Nat.not_lt_zero _), Or.inl rfl⟩

