/-! ===== 76.law6: isWish, by the law ===== -/

abbrev mL_isWish : ZM := (cL_isWish, RL, wsL_isWish, 43, 36, 1034, (some .boolean), 12, yL_isWish.name)
set_option maxHeartbeats 1000000 in
set_option maxRecDepth 100000 in
theorem c_L_isWish_f {sh : zSh} {F : Nat → Nat → Int32} {P : Nat → Nat → Option Nat} {χ t n N e1 e2 : Nat} {v : pV} (hL : pLI sh F P χ v) (hI : pInv v N) (ht : t < 20) (h1 : 1 ≤ n) (hn : n ≤ 998) (hw : ¬ pW (pvB v) (pvS v) (nI t) (nI n) 0 2 = 0) : zMetE yL_isWish wsL_isWish (43) (36) (1034) [.ref χ, .int (nI t), .int (nI n)] sh F P (pEnd χ e1 e2 v sh F P) := by
  refine zMetE.of (by decide) rfl (Nat.le_of_ble_eq_true rfl) (by simp [Value.category]) ?_
  intro X ρ
  show AW mL_isWish X (zMQE mL_isWish X (pEnd χ e1 e2 v sh F P)) 0 [some (.ref χ), some (.int (nI t)), some (.int (nI n)), none, none, none, none, none, none, none, none, none] [] ρ sh F P 0 0
  have hs := hL.1.1.1
  obtain ⟨F1, q1, m1⟩ := a_gather (u := -9) hL ht h1 (by omega) (Or.inl rfl)
  have eg : pGt (pvB v) (pvS v) (nI t) (nI n) (-9) = -3 := if_neg hw
  rw [eg] at m1
  have hL1 := hL.q q1
  obtain ⟨gf, F2, q2, m2, hgf, -⟩ := a_bestGift hL1 ht h1 (by omega)
  have hgf := hgf hw
  subst hgf
  have hL2 := hL1.q q2
  have q0 := tFul_q hL2.2.2 (nI t) (nI n)
  have m3 := c_X6_wish_f (F := F2) hL2.1 (thg ht) (wsh h1 (by omega)) (by rw [q0.1 2 (by decide) (by decide)]; exact hw)
  have hL3 := hL2.q (pQ.put (χ := χ) (W := tFul F2 χ (nI t) (nI n)))
  refine aw_aload_0 dL_isWish_0 ?_
  refine aw_iload_1 dL_isWish_1 ?_
  refine aw_iload_2 dL_isWish_2 ?_
  refine aw_bipush (v := (-9)) dL_isWish_3 (by decide) ?_
  refine aw_run (zRun_V m1 gL_isWish_X6_gather q_X6_gather rfl (by decide) rfl hs rfl rfl (Nat.le_of_ble_eq_true rfl) dL_isWish_5 ⟨by show _ ≤ 36; omega, by show _ ≤ 1034; omega⟩) ?_
  refine aw_istore_3 dL_isWish_8 ?_
  refine aw_aload_0 dL_isWish_9 ?_
  refine aw_iload_1 dL_isWish_10 ?_
  refine aw_iload_2 dL_isWish_11 ?_
  refine aw_run (zRun_V m2 gL_isWish_X6_bestGift q_X6_bestGift rfl (by decide) rfl hs rfl rfl (Nat.le_of_ble_eq_true rfl) dL_isWish_12 ⟨by show _ ≤ 36; omega, by show _ ≤ 1034; omega⟩) ?_
  refine aw_istore_4 dL_isWish_15 ?_
  refine aw_aload_0 dL_isWish_17 ?_
  refine aw_iconst (v := 2) dL_isWish_18 (by decide) ?_
  refine aw_run (zRun_V (a_told (w := 2) hL2 (by decide)) gL_isWish_X6_told q_X6_told rfl (by decide) rfl hs rfl rfl (Nat.le_of_ble_eq_true rfl) dL_isWish_19 ⟨by show _ ≤ 36; omega, by show _ ≤ 1034; omega⟩) ?_
  refine aw_istore_5 dL_isWish_22 ?_
  refine aw_aload_0 dL_isWish_24 ?_
  refine aw_iload_1 dL_isWish_25 ?_
  refine aw_iconst (v := 0) dL_isWish_26 (by decide) ?_
  refine aw_run (zRun_V (a_thing (w := 0) hL2 ht (by decide)) gL_isWish_X6_thing q_X6_thing rfl (by decide) rfl hs rfl rfl (Nat.le_of_ble_eq_true rfl) dL_isWish_27 ⟨by show _ ≤ 36; omega, by show _ ≤ 1034; omega⟩) ?_
  refine aw_istore_6 dL_isWish_30 ?_
  refine aw_iload_3 dL_isWish_32 ?_
  refine aw_bipush (v := (-3)) dL_isWish_33 (by decide) ?_
  refine aw_icmp_ne (tgt := 72) dL_isWish_35 (by decide) (fun c35 => absurd c35 (fun e => e rfl)) (fun c35 => ?_)
  refine aw_iload_4 dL_isWish_38 ?_
  refine aw_bipush (v := (-3)) dL_isWish_40 (by decide) ?_
  refine aw_icmp_ne (tgt := 70) dL_isWish_42 (by decide) (fun c42 => absurd c42 (fun e => e rfl)) (fun c42 => ?_)
  refine aw_aload_0 dL_isWish_45 ?_
  refine aw_iload_1 dL_isWish_46 ?_
  refine aw_iload_2 dL_isWish_47 ?_
  refine aw_run (zRun_V m3 gL_isWish_X6_wish q_X6_wish rfl (by decide) rfl hs rfl rfl (Nat.le_of_ble_eq_true rfl) dL_isWish_48 ⟨by show _ ≤ 36; omega, by show _ ≤ 1034; omega⟩) ?_
  refine aw_bipush (v := (-3)) dL_isWish_51 (by decide) ?_
  refine aw_icmp_ne (tgt := 70) dL_isWish_53 (by decide) (fun c53 => absurd c53 (fun e => e rfl)) (fun c53 => ?_)
  refine aw_aload_0 dL_isWish_56 ?_
  refine aw_iconst (v := 2) dL_isWish_57 (by decide) ?_
  refine aw_run (zRun_V (a_told (w := 2) hL3 (by decide)) gL_isWish_X6_told q_X6_told rfl (by decide) rfl hs rfl rfl (Nat.le_of_ble_eq_true rfl) dL_isWish_58 ⟨by show _ ≤ 36; omega, by show _ ≤ 1034; omega⟩) ?_
  refine aw_iload_5 dL_isWish_61 ?_
  refine aw_icmp_ne (tgt := 70) dL_isWish_63 (by decide) (fun c63 => absurd c63 (fun e => e rfl)) (fun c63 => ?_)
  refine aw_iconst (v := 1) dL_isWish_66 (by decide) ?_
  refine aw_goto (tgt := 71) dL_isWish_67 (by decide) ?_
  exact aw_zreturnE rfl dL_isWish_71 ⟨Nat.zero_le _, Nat.zero_le _⟩ (by decide) ⟨rfl, hL3, (((pOb.refl.q q1).q q2).q pQ.put)⟩

set_option maxHeartbeats 1000000 in
set_option maxRecDepth 100000 in
theorem c_L_isWish_o {sh : zSh} {F : Nat → Nat → Int32} {P : Nat → Nat → Option Nat} {χ t n N e1 e2 : Nat} {v : pV} (hL : pLI sh F P χ v) (hI : pInv v N) (ht : t < 20) (h1 : 1 ≤ n) (hn : n ≤ 998) (hw : pW (pvB v) (pvS v) (nI t) (nI n) 0 2 = 0) (f1 : sh e1 = none) (f2 : sh e2 = none) (o1 : e1 < χ ∨ χ + 229 ≤ e1) (o2 : e2 < χ ∨ χ + 229 ≤ e2) (h12 : e1 ≠ e2) : zMetE yL_isWish wsL_isWish (43) (36) (1034) [.ref χ, .int (nI t), .int (nI n)] sh F P (pEnd χ e1 e2 v sh F P) := by
  refine zMetE.of (by decide) rfl (Nat.le_of_ble_eq_true rfl) (by simp [Value.category]) ?_
  intro X ρ
  show AW mL_isWish X (zMQE mL_isWish X (pEnd χ e1 e2 v sh F P)) 0 [some (.ref χ), some (.int (nI t)), some (.int (nI n)), none, none, none, none, none, none, none, none, none] [] ρ sh F P 0 0
  have hs := hL.1.1.1
  obtain ⟨⟨w, hB⟩, hS, hX⟩ := id hI
  obtain ⟨g, a0, a, hg, e4, ea0, ha0, ea, hna, ha, hsame, esum, esum1⟩ := pW_ok hB hS ht (show n ≤ 1000 by omega) hw
  obtain ⟨F1, q1, m1⟩ := a_gather (u := -9) hL ht h1 (by omega) (Or.inl rfl)
  have eg : pGt (pvB v) (pvS v) (nI t) (nI n) (-9) = nI g := by rw [← e4]; unfold pGt; rw [if_pos hw, if_pos rfl]
  rw [eg] at m1
  have hL1 := hL.q q1
  obtain ⟨gf, F2, q2, m2, -, hgf⟩ := a_bestGift hL1 ht h1 (by omega)
  obtain ⟨W0, hgf⟩ := hgf hw
  have hgift := pGift (W := W0) hB hS ht (show n ≤ 1000 by omega) hg
  rw [e4] at hgf
  rw [← hgf] at hgift
  have hL2 := hL1.q q2
  have hst : ¬ pvS v 1 t < nI n → pTh (v.1, pS1 (pvB v) (pvS v) (nI t) (nI n), v.2.2) t 0 = pvS v 1 t := by
    intro h
    rw [ea0] at h ⊢
    exact ea.trans (hsame (Nat.le_of_not_lt fun q => h (nI_lt q (by omega))))
  have L170 : ∀ (x9 : Option Value) (x10 : Option Value) (ρ1 : Nat → Nat) (sh1 : zSh) (F1 : pM) (P1 : Nat → Nat → Option Nat) (k1 n1 : Nat), k1 ≤ 18 → n1 ≤ 517 → (∀ j, ¬ some (.ref j) = x9) → (∀ j, ¬ some (.ref j) = x10) → pLI sh1 F1 P1 χ v → sh1 e1 = some (.inr (0, 20)) → (∀ k, k < 20 → F1 e1 k = pEa (pvB v) (pvS v) (nI t) (nI n) k) → pOb χ e1 e2 sh F P sh1 F1 P1 → sh1 e2 = none → AW mL_isWish X (zMQE mL_isWish X (pEnd χ e1 e2 v sh F P)) 170 [some (.ref χ), some (.int (nI t)), some (.int (nI n)), some (.int (nI g)), some (.int gf), some (.int (cSum (pvS v 2) 20)), some (.int (pvS v 1 t)), some (.ref e1), some (.int (nI g)), x9, x10, none] [] ρ1 sh1 F1 P1 k1 n1 := by
    intro x9 x10 ρ1 sh1 F1 P1 k1 n1 hk1 hn1 h9x h10x hL5 g1 hA hO g2
    refine aw_bipush (v := 20) dL_isWish_170 (by decide) ?_
    refine aw_newI (i := e2) (N := 20) (by decide +kernel : Cond.arrayClass .int ∈ wsL_isWish) (by decide) (by decide) (by decide) g2 (zrefs_new (by intro j hj; simp [h9x, h10x] at hj; rcases hj with hj | hj; exact fun e => absurd (show χ = e2 from hj.symm.trans e) (by omega); exact fun e => absurd (show e1 = e2 from hj.symm.trans e) h12) (by intro j hj; simp at hj) g2) ⟨by show _ ≤ 36; omega, by show _ ≤ 1034; omega⟩ dL_isWish_172 (fun ρ2 => ?_)
    refine aw_astore_9 dL_isWish_174 ?_
    have M179 : ∀ (m i : Nat) (x10 : Option Value) (F2 : pM), i ≤ 20 → 20 - i = m → pLI (va_up sh1 e2 (some (.inr (0, 20)))) F2 (va_up P1 e2 fun _ => none) χ v → (∀ k, k < 20 → F2 e1 k = pEa (pvB v) (pvS v) (nI t) (nI n) k) → (∀ k, k < i → F2 e2 k = pvS v 2 k) → pOb χ e1 e2 sh F P (va_up sh1 e2 (some (.inr (0, 20)))) F2 (va_up P1 e2 fun _ => none) → AW mL_isWish X (zMQE mL_isWish X (pEnd χ e1 e2 v sh F P)) 179 [some (.ref χ), some (.int (nI t)), some (.int (nI n)), some (.int (nI g)), some (.int gf), some (.int (cSum (pvS v 2) 20)), some (.int (pvS v 1 t)), some (.ref e1), some (.int (nI g)), some (.ref e2), some (.int (nI i)), none] [] ρ2 (va_up sh1 e2 (some (.inr (0, 20)))) F2 (va_up P1 e2 fun _ => none) (k1 + 1) (n1 + 20) := by
      intro m
      induction m using Nat.strongRecOn with
      | _ m ih2 =>
      intro i x10 F2 hi hm hL6 hA hA2 hO
      have hs6 := hL6.1.1.1
      have he1 : (va_up sh1 e2 (some (.inr (0, 20)))) e1 = some (.inr (0, 20)) := by rw [zup_ne h12]; exact g1
      have he2 : (va_up sh1 e2 (some (.inr (0, 20)))) e2 = some (.inr (0, 20)) := zup_eq
      refine aw_iload_10 dL_isWish_179 ?_
      refine aw_bipush (v := 20) dL_isWish_181 (by decide) ?_
      refine aw_icmp_ge (tgt := 205) dL_isWish_183 (by decide) (fun c183 => ?_) (fun c183 => ?_)
      · have hi20 := zend (n := 20) hi (by decide) c183
        subst hi20
        obtain ⟨sh3, F3, P3, mw, hLw, hfw, hTw⟩ := p_wishT ht h1 (show n ≤ 999 by omega) hw _ _ _ _ hL6
        rw [e4] at mw
        have hL7 : pLI sh3 F3 P3 χ (v.1, pS1 (pvB v) (pvS v) (nI t) (nI n), v.2.2) := hLw
        have hs7 := hL7.1.1.1
        have he13 : sh3 e1 = some (.inr (0, 20)) := by rw [(hfw e1 o1).1]; exact he1
        have he23 : sh3 e2 = some (.inr (0, 20)) := by rw [(hfw e2 o2).1]; exact he2
        refine aw_iload_8 dL_isWish_205 ?_
        refine aw_iload_3 dL_isWish_207 ?_
        refine aw_icmp_ne (tgt := 264) dL_isWish_208 (by decide) (fun c208 => absurd c208 (fun e => e rfl)) (fun c208 => ?_)
        refine aw_aload_0 dL_isWish_211 ?_
        refine aw_iload_1 dL_isWish_212 ?_
        refine aw_iload_2 dL_isWish_213 ?_
        refine aw_runA (zRun_V mw gL_isWish_X6_wish q_X6_wish rfl (by decide) rfl hs6 rfl rfl (Nat.le_of_ble_eq_true rfl) dL_isWish_214 ⟨by show _ ≤ 36; omega, by show _ ≤ 1034; omega⟩) ⟨fun j hj => by simp at hj; rcases hj with rfl | rfl | rfl <;> exact Or.inl (by simp [hs6, he1, he2]), fun j hj => by cases hj⟩ (fun ρ => ?_)
        refine aw_iload_3 dL_isWish_217 ?_
        refine aw_icmp_ne (tgt := 264) dL_isWish_218 (by decide) (fun c218 => absurd c218 (fun e => e rfl)) (fun c218 => ?_)
        refine aw_aload_0 dL_isWish_221 ?_
        refine aw_iconst (v := 2) dL_isWish_222 (by decide) ?_
        refine aw_run (zRun_V (a_told (w := 2) hL7 (by decide)) gL_isWish_X6_told q_X6_told rfl (by decide) rfl hs7 rfl rfl (Nat.le_of_ble_eq_true rfl) dL_isWish_223 ⟨by show _ ≤ 36; omega, by show _ ≤ 1034; omega⟩) ?_
        refine aw_iload_5 dL_isWish_226 ?_
        refine aw_iload_3 dL_isWish_228 ?_
        refine aw_iadd dL_isWish_229 ?_
        refine aw_icmp_ne (tgt := 264) dL_isWish_230 (by decide) (fun c230 => absurd c230 (fun e => e esum1)) (fun c230 => ?_)
        refine aw_aload_0 dL_isWish_233 ?_
        refine aw_iload_1 dL_isWish_234 ?_
        refine aw_iconst (v := 0) dL_isWish_235 (by decide) ?_
        refine aw_run (zRun_V (a_thing (w := 0) hL7 ht (by decide)) gL_isWish_X6_thing q_X6_thing rfl (by decide) rfl hs7 rfl rfl (Nat.le_of_ble_eq_true rfl) dL_isWish_236 ⟨by show _ ≤ 36; omega, by show _ ≤ 1034; omega⟩) ?_
        refine aw_iload_2 dL_isWish_239 ?_
        refine aw_icmp_lt (tgt := 264) dL_isWish_240 (by decide) (fun c240 => absurd c240 (by rw [show pTh (v.1, pS1 (pvB v) (pvS v) (nI t) (nI n), v.2.2) t 0 = nI a from ea]; exact nI_nlt hna (by omega))) (fun c240 => ?_)
        have M265 : AW mL_isWish X (zMQE mL_isWish X (pEnd χ e1 e2 v sh F P)) 265 [some (.ref χ), some (.int (nI t)), some (.int (nI n)), some (.int (nI g)), some (.int gf), some (.int (cSum (pvS v 2) 20)), some (.int (pvS v 1 t)), some (.ref e1), some (.int (nI g)), some (.ref e2), some (.int (nI 20)), none] [.int 1] ρ sh3 F3 P3 (k1 + 1 + 17) (n1 + 20 + 497) := by
          refine aw_istore_10 dL_isWish_265 ?_
          have M270 : ∀ (m i : Nat), i ≤ 20 → 20 - i = m → AW mL_isWish X (zMQE mL_isWish X (pEnd χ e1 e2 v sh F P)) 270 [some (.ref χ), some (.int (nI t)), some (.int (nI n)), some (.int (nI g)), some (.int gf), some (.int (cSum (pvS v 2) 20)), some (.int (pvS v 1 t)), some (.ref e1), some (.int (nI g)), some (.ref e2), some (.int 1), some (.int (nI i))] [] ρ sh3 F3 P3 (k1 + 1 + 17) (n1 + 20 + 497) := by
            intro m
            induction m using Nat.strongRecOn with
            | _ m ih3 =>
            intro i hi hm
            refine aw_iload_11 dL_isWish_270 ?_
            refine aw_bipush (v := 20) dL_isWish_272 (by decide) ?_
            refine aw_icmp_ge (tgt := 317) dL_isWish_274 (by decide) (fun c274 => ?_) (fun c274 => ?_)
            · refine aw_iload_10 dL_isWish_317 ?_
              refine aw_if_eq (tgt := 354) dL_isWish_319 (by decide) (fun c319 => absurd c319 (by decide)) (fun c319 => ?_)
              obtain ⟨F8, q8, mh⟩ := a_gather (u := -9) hL7 ht h1 (by omega) (Or.inl rfl)
              have egh : pGt (pvB (v.1, pS1 (pvB v) (pvS v) (nI t) (nI n), v.2.2)) (pvS (v.1, pS1 (pvB v) (pvS v) (nI t) (nI n), v.2.2)) (nI t) (nI n) (-9) = 0 := pGt_9.trans (pGat_had ht ea ha hna).2
              rw [egh] at mh
              obtain ⟨zv, F9, hzv, mv, hL9, hfv⟩ := p_undo (v := v) (hL7.q q8) (hTw.q q8) rfl rfl pOut.acc
              have hO9 := ((hO.fr hfw).q q8).fr hfv
              refine aw_aload_0 dL_isWish_322 ?_
              refine aw_iload_1 dL_isWish_323 ?_
              refine aw_iload_2 dL_isWish_324 ?_
              refine aw_bipush (v := (-9)) dL_isWish_325 (by decide) ?_
              refine aw_run (zRun_V mh gL_isWish_X6_gather q_X6_gather rfl (by decide) rfl hs7 rfl rfl (Nat.le_of_ble_eq_true rfl) dL_isWish_327 ⟨by show _ ≤ 36; omega, by show _ ≤ 1034; omega⟩) ?_
              refine aw_if_ne (tgt := 354) dL_isWish_330 (by decide) (fun c330 => absurd c330 (fun e => e rfl)) (fun c330 => ?_)
              refine aw_aload_0 dL_isWish_333 ?_
              refine aw_run (zRun_V mv gL_isWish_X6_undo q_X6_undo rfl (by decide) rfl hs7 rfl rfl (Nat.le_of_ble_eq_true rfl) dL_isWish_334 ⟨by show _ ≤ 36; omega, by show _ ≤ 1034; omega⟩) ?_
              refine aw_if_lt (tgt := 354) dL_isWish_337 (by decide) (fun c337 => absurd c337 hzv) (fun c337 => ?_)
              refine aw_aload_0 dL_isWish_340 ?_
              refine aw_iconst (v := 2) dL_isWish_341 (by decide) ?_
              refine aw_run (zRun_V (a_told (w := 2) hL9 (by decide)) gL_isWish_X6_told q_X6_told rfl (by decide) rfl hs7 rfl rfl (Nat.le_of_ble_eq_true rfl) dL_isWish_342 ⟨by show _ ≤ 36; omega, by show _ ≤ 1034; omega⟩) ?_
              refine aw_iload_5 dL_isWish_345 ?_
              refine aw_icmp_ne (tgt := 354) dL_isWish_347 (by decide) (fun c347 => absurd c347 (fun e => e rfl)) (fun c347 => ?_)
              refine aw_iconst (v := 1) dL_isWish_350 (by decide) ?_
              refine aw_goto (tgt := 355) dL_isWish_351 (by decide) ?_
              exact aw_zreturnE rfl dL_isWish_355 ⟨by show _ ≤ 36; omega, by show _ ≤ 1034; omega⟩ (by decide) ⟨rfl, hL9, hO9⟩
            · refine aw_iload_10 dL_isWish_277 ?_
              refine aw_if_eq (tgt := 308) dL_isWish_279 (by decide) (fun c279 => absurd c279 (by decide)) (fun c279 => ?_)
              have hlt : i < 20 := zlt (n := 20) hi (by decide) c274
              refine aw_aload_0 dL_isWish_282 ?_
              refine aw_iload_11 dL_isWish_283 ?_
              refine aw_bipush (v := 6) dL_isWish_285 (by decide) ?_
              refine aw_run (zRun_V (a_thing (w := 6) hL7 hlt (by decide)) gL_isWish_X6_thing q_X6_thing rfl (by decide) rfl hs7 rfl rfl (Nat.le_of_ble_eq_true rfl) dL_isWish_287 ⟨by show _ ≤ 36; omega, by show _ ≤ 1034; omega⟩) ?_
              refine aw_aload_9 dL_isWish_290 ?_
              refine aw_iload_11 dL_isWish_292 ?_
              refine aw_iaload he23 (pArI hlt) dL_isWish_294 ?_
              refine aw_top (x' := pvS v 2 i) (by rw [nI_cl (by omega), (hfw e2 o2).2.1]; exact (hA2 i hlt).symm) ?_
              refine aw_aload_7 dL_isWish_295 ?_
              refine aw_iload_11 dL_isWish_297 ?_
              refine aw_iaload he13 (pArI hlt) dL_isWish_299 ?_
              refine aw_top (x' := pEa (pvB v) (pvS v) (nI t) (nI n) i) (by rw [nI_cl (by omega), (hfw e1 o1).2.1]; exact (hA i hlt).symm) ?_
              refine aw_iadd dL_isWish_300 ?_
              have hsum : pTh (v.1, pS1 (pvB v) (pvS v) (nI t) (nI n), v.2.2) i 6 = pvS v 2 i + pEa (pvB v) (pvS v) (nI t) (nI n) i := by
                show pS1 (pvB v) (pvS v) (nI t) (nI n) 2 i = _
                rw [pS1_2 hlt]
                unfold pEa
                generalize pW (pvB v) (pvS v) (nI t) (nI n) 3 i = x, pvS v 2 i = y
                grind
              refine aw_icmp_ne (tgt := 308) dL_isWish_301 (by decide) (fun c301 => absurd c301 (fun e => e hsum)) (fun c301 => ?_)
              refine aw_iconst (v := 1) dL_isWish_304 (by decide) ?_
              refine aw_goto (tgt := 309) dL_isWish_305 (by decide) ?_
              refine aw_istore_10 dL_isWish_309 ?_
              refine aw_iinc_11 (v := 1) (by decide) dL_isWish_311 ?_
              refine aw_goto (tgt := 270) dL_isWish_314 (by decide) ?_
              rw [nI_1]
              exact ih3 (20 - (i + 1)) (by omega) (i + 1) (by omega) rfl
          refine aw_iconst (v := 0) dL_isWish_267 (by decide) ?_
          refine aw_istore_11 dL_isWish_268 ?_
          exact M270 _ 0 (Nat.zero_le _) rfl
        refine aw_iload_6 dL_isWish_243 ?_
        refine aw_iload_2 dL_isWish_245 ?_
        refine aw_icmp_lt (tgt := 260) dL_isWish_246 (by decide) (fun c246 => ?_) (fun c246 => ?_)
        · refine aw_iconst (v := 1) dL_isWish_260 (by decide) ?_
          refine aw_goto (tgt := 265) dL_isWish_261 (by decide) ?_
          exact M265
        · refine aw_aload_0 dL_isWish_249 ?_
          refine aw_iload_1 dL_isWish_250 ?_
          refine aw_iconst (v := 0) dL_isWish_251 (by decide) ?_
          refine aw_run (zRun_V (a_thing (w := 0) hL7 ht (by decide)) gL_isWish_X6_thing q_X6_thing rfl (by decide) rfl hs7 rfl rfl (Nat.le_of_ble_eq_true rfl) dL_isWish_252 ⟨by show _ ≤ 36; omega, by show _ ≤ 1034; omega⟩) ?_
          refine aw_iload_6 dL_isWish_255 ?_
          refine aw_icmp_ne (tgt := 264) dL_isWish_257 (by decide) (fun c257 => absurd c257 (fun e => e (hst c246))) (fun c257 => ?_)
          refine aw_iconst (v := 1) dL_isWish_260 (by decide) ?_
          refine aw_goto (tgt := 265) dL_isWish_261 (by decide) ?_
          exact M265
      · have hlt : i < 20 := zlt (n := 20) hi (by decide) c183
        refine aw_aload_9 dL_isWish_186 ?_
        refine aw_iload_10 dL_isWish_188 ?_
        refine aw_aload_0 dL_isWish_190 ?_
        refine aw_iload_10 dL_isWish_191 ?_
        refine aw_bipush (v := 6) dL_isWish_193 (by decide) ?_
        refine aw_run (zRun_V (a_thing (w := 6) hL6 hlt (by decide)) gL_isWish_X6_thing q_X6_thing rfl (by decide) rfl hs6 rfl rfl (Nat.le_of_ble_eq_true rfl) dL_isWish_195 ⟨by show _ ≤ 36; omega, by show _ ≤ 1034; omega⟩) ?_
        refine aw_iastore he2 (pArI hlt) dL_isWish_198 ?_
        refine aw_iinc_10 (v := 1) (by decide) dL_isWish_199 ?_
        refine aw_goto (tgt := 179) dL_isWish_202 (by decide) ?_
        rw [nI_1]
        exact ih2 (20 - (i + 1)) (by omega) (i + 1) none _ (by omega) rfl (hL6.st o2 _ _) (fun k hk => by rw [zu_ne h12]; exact hA k hk) (pArr (f := pvS v 2) (by omega) hA2 rfl) (hO.s2)
    refine aw_iconst (v := 0) dL_isWish_176 (by decide) ?_
    refine aw_istore_10 dL_isWish_177 ?_
    exact M179 _ 0 none _ (Nat.zero_le _) rfl (hL5.new o2 (some (.inr (0, 20))) (fun _ => 0) (fun _ => none)) (fun k hk => by rw [zup_ne h12]; exact hA k hk) pArr0 hO.n2
  have L84 : ∀ (m i : Nat) (F4 : pM) (ρ1 : Nat → Nat), i ≤ 20 → 20 - i = m → pLI (va_up sh e1 (some (.inr (0, 20)))) F4 (va_up P e1 fun _ => none) χ v → (∀ k, k < i → F4 e1 k = pEa (pvB v) (pvS v) (nI t) (nI n) k) → pOb χ e1 e2 sh F P (va_up sh e1 (some (.inr (0, 20)))) F4 (va_up P e1 fun _ => none) → AW mL_isWish X (zMQE mL_isWish X (pEnd χ e1 e2 v sh F P)) 84 [some (.ref χ), some (.int (nI t)), some (.int (nI n)), some (.int (nI g)), some (.int gf), some (.int (cSum (pvS v 2) 20)), some (.int (pvS v 1 t)), some (.ref e1), some (.int (cSum (pEa (pvB v) (pvS v) (nI t) (nI n)) i)), some (.int (nI i)), none, none] [] ρ1 (va_up sh e1 (some (.inr (0, 20)))) F4 (va_up P e1 fun _ => none) 1 20 := by
    intro m
    induction m using Nat.strongRecOn with
    | _ m ih =>
    intro i F4 ρ1 hi hm hL4 hA hO
    have hs4 := hL4.1.1.1
    have hse1 : va_up sh e1 (some (.inr (0, 20))) e1 = some (.inr (0, 20)) := zup_eq
    have hse := hse1
    refine aw_iload_9 dL_isWish_84 ?_
    refine aw_bipush (v := 20) dL_isWish_86 (by decide) ?_
    refine aw_icmp_ge (tgt := 120) dL_isWish_88 (by decide) (fun c88 => ?_) (fun c88 => ?_)
    · have hi20 := zend (n := 20) hi (by decide) c88
      subst hi20
      rw [esum]
      refine aw_iload_4 dL_isWish_120 ?_
      refine aw_if_lt (tgt := 170) dL_isWish_122 (by decide) (fun c122 => ?_) (fun c122 => ?_)
      · exact L170 _ _ _ _ _ _ _ _ (by omega) (by omega) (by simp) (by simp) hL4 zup_eq hA hO (by rw [zup_ne (Ne.symm h12)]; exact f2)
      · obtain ⟨i2, b, l, hi2, egf, hb1, hb, ebr, egl, hlg⟩ := hgift.resolve_left (fun e => c122 (by rw [e]; decide))
        have hS2 := hS
        obtain ⟨shb, Fb, Pb, mb, hLb, hfb, hTb⟩ := p_bring1 hi2 hb ebr _ _ _ _ hL4
        obtain ⟨Fg, qg, mg⟩ := a_gather (u := -9) hLb ht h1 (by omega) (Or.inl rfl)
        have hLg := hLb.q qg
        have hsb := hLb.1.1.1
        have egg : pGt (pvB (v.1, pBr (pvS v) (nI i2) 1, v.2.2)) (pvS (v.1, pBr (pvS v) (nI i2) 1, v.2.2)) (nI t) (nI n) (-9) = nI l := pGt_9.trans egl
        rw [egg] at mg
        obtain ⟨zu1, Fu, hzu, mu, hLu, hfu⟩ := p_undo (v := v) hLg (hTb.q qg) rfl rfl pOut.br
        refine aw_aload_0 dL_isWish_125 ?_
        refine aw_iload_4 dL_isWish_126 ?_
        refine aw_top (x' := nI i2) egf.symm ?_
        refine aw_iconst (v := 1) dL_isWish_128 (by decide) ?_
        refine aw_runA (zRun_V mb gL_isWish_X6_bring q_X6_bring rfl (by decide) rfl hs4 rfl rfl (Nat.le_of_ble_eq_true rfl) dL_isWish_129 ⟨by show _ ≤ 36; omega, by show _ ≤ 1034; omega⟩) ⟨fun j hj => by simp at hj; rcases hj with rfl | rfl <;> exact Or.inl (by simp [hs4, hse1]), fun j hj => by cases hj⟩ (fun ρ => ?_)
        refine aw_istore_9 dL_isWish_132 ?_
        refine aw_aload_0 dL_isWish_134 ?_
        refine aw_iload_1 dL_isWish_135 ?_
        refine aw_iload_2 dL_isWish_136 ?_
        refine aw_bipush (v := (-9)) dL_isWish_137 (by decide) ?_
        refine aw_run (zRun_V mg gL_isWish_X6_gather q_X6_gather rfl (by decide) rfl hsb rfl rfl (Nat.le_of_ble_eq_true rfl) dL_isWish_139 ⟨by show _ ≤ 36; omega, by show _ ≤ 1034; omega⟩) ?_
        refine aw_istore_10 dL_isWish_142 ?_
        refine aw_iload_9 dL_isWish_144 ?_
        refine aw_iconst (v := 1) dL_isWish_146 (by decide) ?_
        refine aw_icmp_lt (tgt := 168) dL_isWish_147 (by decide) (fun c147 => absurd c147 (nI_nlt hb1 (by omega))) (fun c147 => ?_)
        refine aw_iload_10 dL_isWish_150 ?_
        refine aw_if_lt (tgt := 168) dL_isWish_152 (by decide) (fun c152 => absurd c152 (nI_pos (by omega))) (fun c152 => ?_)
        refine aw_iload_10 dL_isWish_155 ?_
        refine aw_iload_3 dL_isWish_157 ?_
        refine aw_icmp_ge (tgt := 168) dL_isWish_158 (by decide) (fun c158 => absurd c158 (nI_ge hlg (by omega))) (fun c158 => ?_)
        refine aw_aload_0 dL_isWish_161 ?_
        refine aw_run (zRun_V mu gL_isWish_X6_undo q_X6_undo rfl (by decide) rfl hsb rfl rfl (Nat.le_of_ble_eq_true rfl) dL_isWish_162 ⟨by show _ ≤ 36; omega, by show _ ≤ 1034; omega⟩) ?_
        refine aw_if_ge (tgt := 170) dL_isWish_165 (by decide) (fun c165 => ?_) (fun c165 => absurd (Int32.not_lt.mp hzu) c165)
        exact L170 _ _ _ _ _ _ _ _ (by omega) (by omega) (by simp) (by simp) hLu (by rw [(hfb e1 o1).1]; exact zup_eq) (fun k hk => by rw [(hfu e1 o1).2.1, qg e1 (by omega), (hfb e1 o1).2.1]; exact hA k hk) (((hO.fr hfb).q qg).fr hfu) (by rw [(hfb e2 o2).1, zup_ne (Ne.symm h12)]; exact f2)
    · have hlt : i < 20 := zlt (n := 20) hi (by decide) c88
      refine aw_aload_7 dL_isWish_91 ?_
      refine aw_iload_9 dL_isWish_93 ?_
      refine aw_aload_0 dL_isWish_95 ?_
      refine aw_iload_1 dL_isWish_96 ?_
      refine aw_iload_2 dL_isWish_97 ?_
      refine aw_iload_9 dL_isWish_98 ?_
      obtain ⟨F5, q5, m5⟩ := a_gather (u := nI i) hL4 ht h1 (by omega) (Or.inr ⟨i, hlt, rfl⟩)
      refine aw_run (zRun_V m5 gL_isWish_X6_gather q_X6_gather rfl (by decide) rfl hs4 rfl rfl (Nat.le_of_ble_eq_true rfl) dL_isWish_100 ⟨by show _ ≤ 36; omega, by show _ ≤ 1034; omega⟩) ?_
      refine aw_top (x' := pEa (pvB v) (pvS v) (nI t) (nI n) i) (pGt_k hlt hw).symm ?_
      refine aw_iastore hse1 (pArI hlt) dL_isWish_103 ?_
      refine aw_iload_8 dL_isWish_104 ?_
      refine aw_aload_7 dL_isWish_106 ?_
      refine aw_iload_9 dL_isWish_108 ?_
      refine aw_iaload hse1 (pArI hlt) dL_isWish_110 ?_
      refine aw_top (x' := pEa (pvB v) (pvS v) (nI t) (nI n) i) (by rw [nI_cl (by omega)]; exact (pArr (f := pEa (pvB v) (pvS v) (nI t) (nI n)) (show i < 2 ^ 31 by omega) hA (q5 e1 (by omega)) i (Nat.lt_succ_self i) |>.symm.trans (by rw [nI_cl (by omega)])) ) ?_
      refine aw_iadd dL_isWish_111 ?_
      refine aw_istore_8 dL_isWish_112 ?_
      refine aw_iinc_9 (v := 1) (by decide) dL_isWish_114 ?_
      refine aw_goto (tgt := 84) dL_isWish_117 (by decide) ?_
      rw [nI_1]
      exact ih (20 - (i + 1)) (by omega) (i + 1) _ _ (by omega) rfl ((hL4.q q5).st o1 _ _) (pArr (f := pEa (pvB v) (pvS v) (nI t) (nI n)) (by omega) hA (q5 e1 (by omega))) ((hO.q q5).s1)
  refine aw_aload_0 dL_isWish_0 ?_
  refine aw_iload_1 dL_isWish_1 ?_
  refine aw_iload_2 dL_isWish_2 ?_
  refine aw_bipush (v := (-9)) dL_isWish_3 (by decide) ?_
  refine aw_run (zRun_V m1 gL_isWish_X6_gather q_X6_gather rfl (by decide) rfl hs rfl rfl (Nat.le_of_ble_eq_true rfl) dL_isWish_5 ⟨by show _ ≤ 36; omega, by show _ ≤ 1034; omega⟩) ?_
  refine aw_istore_3 dL_isWish_8 ?_
  refine aw_aload_0 dL_isWish_9 ?_
  refine aw_iload_1 dL_isWish_10 ?_
  refine aw_iload_2 dL_isWish_11 ?_
  refine aw_run (zRun_V m2 gL_isWish_X6_bestGift q_X6_bestGift rfl (by decide) rfl hs rfl rfl (Nat.le_of_ble_eq_true rfl) dL_isWish_12 ⟨by show _ ≤ 36; omega, by show _ ≤ 1034; omega⟩) ?_
  refine aw_istore_4 dL_isWish_15 ?_
  refine aw_aload_0 dL_isWish_17 ?_
  refine aw_iconst (v := 2) dL_isWish_18 (by decide) ?_
  refine aw_run (zRun_V (a_told (w := 2) hL2 (by decide)) gL_isWish_X6_told q_X6_told rfl (by decide) rfl hs rfl rfl (Nat.le_of_ble_eq_true rfl) dL_isWish_19 ⟨by show _ ≤ 36; omega, by show _ ≤ 1034; omega⟩) ?_
  refine aw_istore_5 dL_isWish_22 ?_
  refine aw_aload_0 dL_isWish_24 ?_
  refine aw_iload_1 dL_isWish_25 ?_
  refine aw_iconst (v := 0) dL_isWish_26 (by decide) ?_
  refine aw_run (zRun_V (a_thing (w := 0) hL2 ht (by decide)) gL_isWish_X6_thing q_X6_thing rfl (by decide) rfl hs rfl rfl (Nat.le_of_ble_eq_true rfl) dL_isWish_27 ⟨by show _ ≤ 36; omega, by show _ ≤ 1034; omega⟩) ?_
  refine aw_istore_6 dL_isWish_30 ?_
  refine aw_iload_3 dL_isWish_32 ?_
  refine aw_bipush (v := (-3)) dL_isWish_33 (by decide) ?_
  refine aw_icmp_ne (tgt := 72) dL_isWish_35 (by decide) (fun c35 => ?_) (fun c35 => absurd c35 (fun e => absurd (show nI g < 0 by rw [e]; decide) (nI_pos (by omega))))
  refine aw_bipush (v := 20) dL_isWish_72 (by decide) ?_
  refine aw_newI (i := e1) (N := 20) (by decide +kernel : Cond.arrayClass .int ∈ wsL_isWish) (by decide) (by decide) (by decide) f1 (zrefs_new (by intro j hj; simp at hj; exact fun e => absurd (show χ = e1 from hj.symm.trans e) (by omega)) (by intro j hj; simp at hj) f1) ⟨by show _ ≤ 36; omega, by show _ ≤ 1034; omega⟩ dL_isWish_74 (fun ρ1 => ?_)
  have hL3 := hL2.new o1 (some (.inr (0, 20))) (fun _ => 0) (fun _ => none)
  refine aw_astore_7 dL_isWish_76 ?_
  refine aw_iconst (v := 0) dL_isWish_78 (by decide) ?_
  refine aw_istore_8 dL_isWish_79 ?_
  refine aw_iconst (v := 0) dL_isWish_81 (by decide) ?_
  refine aw_istore_9 dL_isWish_82 ?_
  exact L84 _ 0 _ _ (Nat.zero_le _) rfl hL3 pArr0 (((pOb.refl.q q1).q q2).n1)

