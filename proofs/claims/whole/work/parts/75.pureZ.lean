/-! ===== 75.pureZ: one call on both sides: a change ===== -/
theorem eCall.push {N χ o s : Nat} {yX yM : MethodName} {wX wM : List Cond} {hX hM : Nat} {as : List Value} {sh : zSh} {F F0 F1 : Nat → Nat → Int32} {P : Nat → Nat → Option Nat} {G G1 : Nat → Nat → Int32} {z : Int32}
    (hY : zSys sh P χ) (hMd : zMd sh P (χ + 41)) (hV : zVw F (χ + 41) 13 G) (hE : eX N F P χ G) (ho : o < 8) (hs : s ≤ 8) (f1 : F (χ + 34) 1 = nI o) (f2 : F (χ + 34) 2 = nI s)
    (e0 : eKeep χ F F0) (e0' : ∀ j, 40 < j → j < 59 → F0 (χ + j) = F (χ + j)) (hout : ∀ i, i < χ + 1 ∨ (χ + 10 ≤ i ∧ i < χ + 19) ∨ χ + 26 ≤ i → F1 i = tF F0 P χ o s i)
    (hG : mPsh G G1 s) (g3 : G1 3 = G 3) (g4 : G1 4 = G 4) (g0 : ∀ q, q = 4 ∨ q = 6 ∨ q = 7 ∨ q = 8 → G1 0 q = G 0 q)
    (hst : eSt (zsub F1 (χ + 1)) (zsub F1 (χ + 19)) (G1 1) (N + 60000))
    (m1 : zMet yX wX hX 17 497 (.ref χ :: as) sh F P (some (.int z)) (tS sh P χ ((o + s) % 8)) F1 (tP P χ ((o + s) % 8)))
    (m2 : zMd (tS sh P χ ((o + s) % 8)) (tP P χ ((o + s) % 8)) (χ + 41) → zVw F1 (χ + 41) 13 G → zMet yM wM hM 0 0 (.ref (χ + 41) :: as) (tS sh P χ ((o + s) % 8)) F1 (tP P χ ((o + s) % 8)) (some (.int z)) (tS sh P χ ((o + s) % 8)) (zput F1 (χ + 41) 13 G1) (tP P χ ((o + s) % 8))) : eCall N χ yX wX hX yM wM hM as sh F P := by
  have hτ : χ + 59 ≤ χ + 59 + 17 * ((o + s) % 8) := by omega
  have hs' : ∀ j, j < χ + 54 → tS sh P χ ((o + s) % 8) j = sh j := fun j hj => by
    unfold tS
    exact remSh_ne (by omega)
  have hP' : tP P χ ((o + s) % 8) (χ + 41) = P (χ + 41) := by
    unfold tP
    exact remP_ne (by omega) (by omega)
  have hMd' : zMd (tS sh P χ ((o + s) % 8)) (tP P χ ((o + s) % 8)) (χ + 41) := hMd.keep (fun j hj => hs' _ (by omega)) hP'
  have hV' : zVw F1 (χ + 41) 13 G := fun j hj => by
    rw [Nat.add_assoc, hout _ (by omega), tF_j (by omega) (by omega), e0' _ (by omega) (by omega), ← Nat.add_assoc]
    exact hV j hj
  have hp := hE.push (F1 := F1) hY ho hs f1 f2 e0 (fun k hk => by
    rw [hout χ (by omega), tF_ne (by omega) (by omega)]
    exact e0.1 k hk) (by rw [hout _ (by omega), tF_j (by decide) (by decide), e0.2 40 (by omega)]) (hout _ (by omega)) (fun j hj => hout _ (by omega)) hG g3 g4 g0 hst (by omega)
  exact ⟨z, 17, 497, _, F1, _, _, Nat.le_refl _, Nat.le_refl _, m1, m2 hMd' hV', hs', hY.trm, hMd', G1, fun j hj => zput_at hj, hp.ask (eKeep.put (Or.inr (Or.inr (Or.inr ⟨by decide, by decide⟩)))) eQ.refl (Nat.le_refl _)⟩
theorem mRemember_m {G : Nat → Nat → Int32} {p : Nat} : mRemember G p 1 = G 1 ∧ mRemember G p 3 = G 3 ∧ mRemember G p 4 = G 4 := ⟨mRemember_1 (by decide) (by decide), mRemember_1 (by decide) (by decide), mRemember_1 (by decide) (by decide)⟩
/-- as mPsh.rem, with a new row -/
theorem mPsh.up {G : Nat → Nat → Int32} {s : Nat} {x : Nat → Int32} (hs : s ≤ 8) : mPsh G (va_up (mRemember G s) 1 x) s := by
  obtain ⟨a, b⟩ := mPsh.rem (G := G) hs
  refine ⟨by rw [zup_ne (by decide)]; exact a, fun k j hj hk => ?_⟩
  rw [zup_ne (by decide)]
  exact b k j hj hk
theorem eRem_0 {G : Nat → Nat → Int32} {s : Nat} {x : Nat → Int32} : va_up (mRemember G s) 1 x 3 = G 3 ∧ va_up (mRemember G s) 1 x 4 = G 4 ∧ ∀ q, q = 4 ∨ q = 6 ∨ q = 7 ∨ q = 8 → va_up (mRemember G s) 1 x 0 q = G 0 q := by
  refine ⟨by rw [zup_ne (by decide)]; exact mRemember_m.2.1, by rw [zup_ne (by decide)]; exact mRemember_m.2.2, fun q hq => ?_⟩
  rw [zup_ne (by decide)]
  exact mRemember_0 (by omega)
theorem eSt.b7 {B B' S S' : Nat → Nat → Int32} {w w' : Nat → Int32} {N N' : Nat} (h : eSt B S w N) (e : mB7 w w') (hvs : ∀ t, t < 20 → mVes w' t) (hB : ∀ j, 1 ≤ j → j ≤ 8 → j ≠ 7 → B' j = B j) (h7 : ∀ t, t < 20 → B' 7 t = w' (23 * t + 1))
    (hS : eSk S' w') (hW : eWm w') (hM : ∃ M, M ≤ N' ∧ cSum (S' 3) 20 = nI M) (hg : ∃ g, g ≤ N' ∧ w' 460 = nI g) : eSt B' S' w' N' := by
  obtain ⟨h1, h2, h3, -⟩ := h
  have er := nRs_to h1.1 e 12
  refine ⟨h1.b7 e hvs (fun j a b => hB j a (by omega) (by omega)) h7, fun t ht => ?_, ?_, hS, hW, hM, hg⟩
  · rw [er, hB 8 (by decide) (by decide) (by decide)]
    exact h2 t ht
  · rw [er]
    exact h3.b7 h1.1 e
section ECH
variable {N χ : Nat} {sh : zSh} {F : Nat → Nat → Int32} {P : Nat → Nat → Option Nat}
theorem mIsVes_e {B : Nat → Nat → Int32} {w : Nat → Int32} (cx : eCx B w) (v : Int32) : mIsVes w v 20 = bIsVes B v := by
  have h : ∀ n, n ≤ 20 → mIsVes w v n = anyLt (fun i => bVes B (nI i) == v) n := by
    intro n
    induction n with
    | zero => exact fun _ => rfl
    | succ n ih =>
      intro hn
      show (mIsVes w v n || (w (23 * n + 1) == v)) = (anyLt (fun i => bVes B (nI i) == v) n || (bVes B (nI n) == v))
      rw [ih (by omega), cx.ves (show n < 20 by omega)]
  exact h 20 (Nat.le_refl _)
theorem k_vessel (h : LI N sh F P χ) (t v : Int32) : eCall N χ yX6_vessel wsX6_vessel 6 yX7_vessel wsX7_vessel 3 [.int t, .int v] sh F P := by
  obtain ⟨hY, hMd, G, hV, hE⟩ := id h
  obtain ⟨o, s, ho, hs, f1, f2, g2⟩ := hE.ring
  obtain ⟨cx, hrn, hrk, hsk, hwm, ⟨M, hM, eM⟩, g, hg, eg⟩ := id hE.1
  -- what a change does
  have chg : ∀ (a : Nat) (v : Int32), a < 20 → eVs v → xVes (nI a) v (bVes (zsub F (χ + 1)) v) (bIsVes (zsub F (χ + 1)) (nI a)) = 0 →
      (∀ {sh' : zSh} {F' : Nat → Nat → Int32} {P' : Nat → Nat → Option Nat}, zMd sh' P' (χ + 41) → zVw F' (χ + 41) 13 G → zMet yX7_vessel wsX7_vessel 3 0 0 [.ref (χ + 41), .int (nI a), .int v] sh' F' P' (some (.int (G 1 (23 * a + 1)))) sh' (zput F' (χ + 41) 13 (mPut (mRemember G s) (23 * a + 1) v)) P') → eCall N χ yX6_vessel wsX6_vessel 6 yX7_vessel wsX7_vessel 3 [.int (nI a), .int v] sh F P := by
    intro a v ha hv hx m2
    have m1 := c_X6_vessel_o (F := F) hY ho hs f1 f2 hx
    rw [cx.ves ha, ePut ha (by decide)] at m1
    have em : mPut (mRemember G s) (23 * a + 1) v = va_up (mRemember G s) 1 (upd (G 1) (23 * a + 1) v) := by
      unfold mPut
      rw [mRemember_m.1]
    rw [em] at m2
    obtain ⟨r3, r4, r0⟩ := eRem_0 (G := G) (s := s) (x := upd (G 1) (23 * a + 1) v)
    refine eCall.push hY hMd hV hE ho hs f1 f2 eKeep.refl (fun _ _ _ => rfl) (fun i hi => zup_ne (by omega)) (mPsh.up hs) r3 r4 r0 ?_ m1 m2
    rw [zup_eq]
    have b7 : mB7 (G 1) (upd (G 1) (23 * a + 1) v) := fun t k ht hk h7 => upd_ne (by omega)
    refine hE.1.b7 b7 (fun t ht => ?_) (fun j h1 h8 hj => ?_) (fun t ht => ?_) ⟨fun j t h1 h6 ht => ?_, ?_, ?_⟩ (fun t ht => ?_) ⟨M, by omega, ?_⟩ ⟨g, by omega, by rw [upd_ne (by omega)]; exact eg⟩
    · by_cases e : t = a
      · subst e
        unfold mVes
        rw [upd_eq]
        exact hv
      · have := (cx.1 t ht).2.2.2.2.2.2
        unfold mVes at this ⊢
        rw [upd_ne (by omega)]
        exact this
    · show va_up (tF F P χ o s) (χ + 8) _ (χ + 1 + j) = F (χ + 1 + j)
      rw [zup_ne (by omega), Nat.add_assoc, tF_j (by omega) (by omega)]
    · show va_up (tF F P χ o s) (χ + 8) _ (χ + 8) t = _
      rw [zup_eq]
      by_cases e : t = a
      · subst e
        rw [upd_eq, upd_eq]
      · rw [upd_ne e, upd_ne (by omega)]
        exact (cx.2 t ht).1
    · show va_up (tF F P χ o s) (χ + 8) _ (χ + 19 + j) t = _
      have := eOff_le (show j + 1 ≤ 7 by omega)
      have h1' : eOff (j + 1) ≠ 1 := by unfold eOff; split <;> omega
      rw [zup_ne (by omega), Nat.add_assoc, tF_j (by omega) (by omega), upd_ne (by omega), ← Nat.add_assoc]
      exact hsk.1 j t h1 h6 ht
    · show va_up (tF F P χ o s) (χ + 8) _ (χ + 19) 6 = _
      rw [zup_ne (by omega), tF_j (by decide) (by decide), upd_ne (by omega)]
      exact hsk.2.1
    · show cSum (va_up (tF F P χ o s) (χ + 8) _ (χ + 21)) 20 = _
      rw [zup_ne (by omega), tF_j (by decide) (by decide), upd_ne (by omega)]
      exact hsk.2.2
    · obtain ⟨x, hx1, hx2⟩ := hwm t ht
      exact ⟨x, hx1, by rw [upd_ne (by omega)]; exact hx2⟩
    · show cSum (va_up (tF F P χ o s) (χ + 8) _ (χ + 22)) 20 = _
      rw [zup_ne (by omega), tF_j (by decide) (by decide)]
      exact eM
  rcases eThg t with ⟨ht, ht'⟩ | ⟨a, ha, rfl, ht, ht'⟩
  · have e : xVes t v (bVes (zsub F (χ + 1)) v) (bIsVes (zsub F (χ + 1)) t) = -1 := by
      unfold xVes
      rw [if_pos ht, if_pos ht]
      split <;> rfl
    have m1 := c_X6_vessel_e (F := F) hY (t := t) (v := v) (by rw [e]; decide)
    rw [e] at m1
    exact eCall.ask0 h m1 (c_X7_vessel_b hMd hV (Or.inl ht'))
  by_cases hv9 : v = -9
  · subst hv9
    have hne : ¬ nI a = -9 := fun e => absurd (show nI a < 0 by rw [e]; decide) (nI_nn (by omega))
    exact chg a (-9) ha (Or.inl rfl) (by unfold xVes; rw [if_pos rfl, if_neg ht, if_neg hne]) (fun hm hv => c_X7_vessel_n hm hv ha hs g2)
  rcases eThg v with ⟨hv, hv'⟩ | ⟨b, hb, rfl, hv, hv'⟩
  · have e : xVes (nI a) v (bVes (zsub F (χ + 1)) v) (bIsVes (zsub F (χ + 1)) (nI a)) = -1 := by
      unfold xVes
      rw [if_neg hv9, if_neg ht, if_pos hv]
    have m1 := c_X6_vessel_e (F := F) hY (t := nI a) (v := v) (by rw [e]; decide)
    rw [e] at m1
    exact eCall.ask0 h m1 (c_X7_vessel_b hMd hV (Or.inr (Or.inl ⟨hv9, hv'⟩)))
  by_cases hab : nI a = nI b
  · have e : xVes (nI a) (nI b) (bVes (zsub F (χ + 1)) (nI b)) (bIsVes (zsub F (χ + 1)) (nI a)) = -1 := by
      unfold xVes
      rw [if_neg hv9, if_neg ht, if_neg hv, if_pos hab]
    have m1 := c_X6_vessel_e (F := F) hY (t := nI a) (v := nI b) (by rw [e]; decide)
    rw [e] at m1
    exact eCall.ask0 h m1 (c_X7_vessel_b hMd hV (Or.inr (Or.inr hab)))
  · have e0 : xVes (nI a) (nI b) (bVes (zsub F (χ + 1)) (nI b)) (bIsVes (zsub F (χ + 1)) (nI a)) = if G 1 (23 * b + 1) = -9 then (if mIsVes (G 1) (nI a) 20 = true then -2 else 0) else -2 := by
      unfold xVes
      rw [if_neg hv9, if_neg ht, if_neg hv, if_neg hab, cx.ves hb, mIsVes_e cx]
    by_cases c1 : G 1 (23 * b + 1) = -9
    · by_cases c2 : mIsVes (G 1) (nI a) 20 = true
      · rw [if_pos c1, if_pos c2] at e0
        have m1 := c_X6_vessel_e (F := F) hY (t := nI a) (v := nI b) (by rw [e0]; decide)
        rw [e0] at m1
        exact eCall.ask0 h m1 (c_X7_vessel_s hMd hV ha hb hab (Or.inr c2))
      · rw [if_pos c1, if_neg c2] at e0
        exact chg a (nI b) ha (Or.inr ⟨b, hb, rfl⟩) e0 (fun hm hv => c_X7_vessel_o hm hv ha hb hab c1 c2 hs g2)
    · rw [if_neg c1] at e0
      have m1 := c_X6_vessel_e (F := F) hY (t := nI a) (v := nI b) (by rw [e0]; decide)
      rw [e0] at m1
      exact eCall.ask0 h m1 (c_X7_vessel_s hMd hV ha hb hab (Or.inl c1))
theorem k_back (h : LI N sh F P χ) (k : Int32) : eCall N χ yX6_back wsX6_back 6 yX7_back wsX7_back 4 [.int k] sh F P := by
  obtain ⟨hY, hMd, G, hV, hE⟩ := id h
  obtain ⟨o, s, ho, hs, f1, f2, g2⟩ := hE.ring
  rcases mIn_of (x := k) 0 1 (by decide) (by decide) with ⟨h0, h2⟩ | ⟨p, -, hp, rfl, hk⟩
  · have hx : k < 0 ∨ 2 ≤ k := by
      rcases pk_ix k (n := 2) (by decide) with q | q | ⟨j, hj, rfl⟩
      · exact Or.inl q
      · exact Or.inr q
      · rcases h2 with h2 | h2
        · exact Or.inl h2
        · exact absurd h2 (nI_nlt (a := 1) (b := j) (by omega) (by decide))
    exact eCall.ask0 h (c_X6_back_b hY hx) (c_X7_back_b hMd hV h0)
  · have hp2 : p < 2 := by omega
    obtain ⟨i1, i2⟩ := hE.2.2.1 p hp2
    by_cases c : P (χ + 36) p = none
    · exact eCall.ask0 h (c_X6_back_n hY hp2 c) (c_X7_back_n hMd hV hp2 (i1.mpr c))
    · have m1 := c_X6_back_o (F := F) hY ho hs f1 f2 hp2 c
      obtain ⟨l1, l2, l3⟩ := eLay (F0 := tF F P χ o s) (χ := χ) (τ := χ + 195 + 17 * p)
      generalize layF (tF F P χ o s) (χ + 195 + 17 * p) (χ + 1) (χ + 19) = F1 at m1 l1 l2 l3
      obtain ⟨r3, r4, r0⟩ := eRem_0 (G := G) (s := s) (x := cCopy 462 (fun j => G 3 (462 * p + j)) (G 1))
      have hst : eSt (zsub F1 (χ + 1)) (zsub F1 (χ + 19)) (cCopy 462 (fun j => G 3 (462 * p + j)) (G 1)) (N + 60000) := by
        refine (i2 c).to ((eBeq.of fun j a b => ?_).trans l1) ((eSeq.of fun j a => ?_).trans l2) (fun i hi => cCopy_in hi) (by omega)
        · show tF F P χ o s (χ + 195 + 17 * p + 1 + j) = F (χ + 195 + 17 * p + 1 + j)
          exact tF_out (by unfold eTau; omega) (by omega)
        · show tF F P χ o s (χ + 195 + 17 * p + 10 + j) = F (χ + 195 + 17 * p + 10 + j)
          exact tF_out (by unfold eTau; omega) (by omega)
      rw [eRecipes hst.1] at m1
      exact eCall.push hY hMd hV hE ho hs f1 f2 eKeep.refl (fun _ _ _ => rfl) l3 (mPsh.up hs) r3 r4 r0 (by rw [zup_eq]; exact hst) m1 (fun hm hv => c_X7_back_o hm hv hp2 (fun e => c (i1.mp e)) hs g2)
end ECH
