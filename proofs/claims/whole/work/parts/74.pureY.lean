/-! ===== 74.pureY: one call on both sides: what would be, the text, images, a step back ===== -/
theorem eX.gen {N N' χ : Nat} {F F' : Nat → Nat → Int32} {P : Nat → Nat → Option Nat} {G G' : Nat → Nat → Int32} (h : eX N F P χ G) (hk : ∀ j, (1 ≤ j ∧ j ≤ 9) ∨ (19 ≤ j ∧ j ≤ 25) ∨ j = 34 ∨ 59 ≤ j → F' (χ + j) = F (χ + j))
    (q1 : ∀ i, i < 462 → G' 1 i = G 1 i) (q2 : G' 2 = G 2) (q3 : G' 3 = G 3) (q02 : G' 0 2 = G 0 2) (q04 : G' 0 4 = G 0 4) (hT : ∃ L, F' χ 8 = nI L ∧ eTx (F' (χ + 40)) L G')
    (hf : F' χ 9 = 0 ∧ G' 0 7 = -9 ∧ G' 0 8 = -9 ∨ F' χ 9 ≠ 0 ∧ G' 0 7 = F' χ 9 ∧ G' 0 8 = F' χ 10) (hN : N ≤ N') : eX N' F' P χ G' := by
  obtain ⟨h1, ⟨o, s, ho, hs, f1, f2, g2, hks⟩, hi, -, -⟩ := h
  refine ⟨h1.to (eBeq.of fun j a b => ?_) (eSeq.of fun j a => ?_) q1 hN, ⟨o, s, ho, hs, ?_, ?_, q02.trans g2, fun k hkk => ⟨(hks k hkk).1, (hks k hkk).2.to (eBeq.of fun j a b => ?_) (eSeq.of fun j a => ?_) (fun i _ => by rw [q2]) hN⟩⟩, fun p hp => ⟨by rw [q04]; exact (hi p hp).1, fun hn => ((hi p hp).2 hn).to (eBeq.of fun j a b => ?_) (eSeq.of fun j a => ?_) (fun i _ => by rw [q3]) hN⟩, hT, hf⟩
  · show F' (χ + 1 + j) = F (χ + 1 + j)
    rw [Nat.add_assoc]
    exact hk _ (by omega)
  · show F' (χ + 19 + j) = F (χ + 19 + j)
    rw [Nat.add_assoc]
    exact hk _ (by omega)
  · rw [hk 34 (by omega)]
    exact f1
  · rw [hk 34 (by omega)]
    exact f2
  · show F' (eTau χ ((o + k) % 8) + 1 + j) = F (eTau χ ((o + k) % 8) + 1 + j)
    unfold eTau
    rw [show χ + 59 + 17 * ((o + k) % 8) + 1 + j = χ + (59 + 17 * ((o + k) % 8) + 1 + j) by omega]
    exact hk _ (by omega)
  · show F' (eTau χ ((o + k) % 8) + 10 + j) = F (eTau χ ((o + k) % 8) + 10 + j)
    unfold eTau
    rw [show χ + 59 + 17 * ((o + k) % 8) + 10 + j = χ + (59 + 17 * ((o + k) % 8) + 10 + j) by omega]
    exact hk _ (by omega)
  · show F' (χ + 195 + 17 * p + 1 + j) = F (χ + 195 + 17 * p + 1 + j)
    rw [show χ + 195 + 17 * p + 1 + j = χ + (195 + 17 * p + 1 + j) by omega]
    exact hk _ (by omega)
  · show F' (χ + 195 + 17 * p + 10 + j) = F (χ + 195 + 17 * p + 10 + j)
    rw [show χ + 195 + 17 * p + 10 + j = χ + (195 + 17 * p + 10 + j) by omega]
    exact hk _ (by omega)
/-- no change of the parts, but the relation is given -/
theorem eCall.set {N χ : Nat} {yX yM : MethodName} {wX wM : List Cond} {hX hM : Nat} {as : List Value} {sh : zSh} {F F' : Nat → Nat → Int32} {P : Nat → Nat → Option Nat} {G' : Nat → Nat → Int32} {z : Int32}
    (hY : zSys sh P χ) (hMd : zMd sh P (χ + 41)) (hE : eX (N + 60000) F' P χ G') (m1 : zMet yX wX hX 0 0 (.ref χ :: as) sh F P (some (.int z)) sh F' P) (m2 : zMet yM wM hM 0 0 (.ref (χ + 41) :: as) sh F' P (some (.int z)) sh (zput F' (χ + 41) 13 G') P) : eCall N χ yX wX hX yM wM hM as sh F P :=
  ⟨z, 0, 0, sh, F', _, P, Nat.zero_le _, Nat.zero_le _, m1, m2, fun _ _ => rfl, hY, hMd, G', fun j hj => zput_at hj, hE.ask (eKeep.put (Or.inr (Or.inr (Or.inr ⟨by decide, by decide⟩)))) eQ.refl (Nat.le_refl _)⟩
theorem zVw.off {F W : Nat → Nat → Int32} {χ b n : Nat} {G : Nat → Nat → Int32} (h : zVw F (χ + 41) 13 G) (hb : χ + b + n ≤ χ + 41) : zVw (zput F (χ + b) n W) (χ + 41) 13 G := fun j hj => by
  rw [zput_ne (by omega)]
  exact h j hj
theorem zMd.keep {sh sh' : zSh} {P P' : Nat → Nat → Option Nat} {μ : Nat} (h : zMd sh P μ) (h1 : ∀ j, j < 13 → sh' (μ + j) = sh (μ + j)) (h2 : P' μ = P μ) : zMd sh' P' μ := by
  have e0 : sh' μ = sh μ := h1 0 (by decide)
  unfold zMd at h ⊢
  rw [h2, e0, h1 1 (by decide), h1 2 (by decide), h1 3 (by decide), h1 4 (by decide), h1 5 (by decide), h1 6 (by decide), h1 7 (by decide), h1 8 (by decide), h1 9 (by decide), h1 10 (by decide), h1 11 (by decide), h1 12 (by decide)]
  exact h
section EASK2
variable {N χ : Nat} {sh : zSh} {F : Nat → Nat → Int32} {P : Nat → Nat → Option Nat}
theorem k_gather (h : LI N sh F P χ) (t n u : Int32) : eCall N χ yX6_gather wsX6_gather 42 yX7_gather wsX7_gather 9 [.int t, .int n, .int u] sh F P := by
  obtain ⟨hY, hMd, G, hV, hE⟩ := id h
  obtain ⟨M, hM, hA⟩ := hE.1.all
  rcases eThg t with ⟨ht, ht'⟩ | ⟨a, ha, rfl, ht, ht'⟩
  · exact eCall.ask0 h (c_X6_gather_b hY (Or.inl ht)) (c_X7_gather_b hMd hV (Or.inl ht'))
  rcases eWsh n with ⟨hn, hn'⟩ | ⟨b, b1, hb, rfl, hn, hn'⟩
  · exact eCall.ask0 h (c_X6_gather_b hY (Or.inr (Or.inl hn))) (c_X7_gather_b hMd hV (Or.inr (Or.inl hn')))
  obtain ⟨hH, hQ⟩ := eHd.hold (G := G)
  obtain ⟨w1, w2, w3, w4⟩ := eTry (W := zsub F (χ + 26)) hA hH ha (show b ≤ 100000 by omega)
  have hk : eKeep χ F (zput F (χ + 26) 8 (tFul F χ (nI a) (nI b))) := eKeep.put (Or.inr (Or.inl ⟨by decide, by decide⟩))
  have hV' : zVw (zput F (χ + 26) 8 (tFul F χ (nI a) (nI b))) (χ + 41) 13 G := hV.off (by omega)
  by_cases hu : u = -9
  · subst hu
    have hu' : (-9 : Int32) ≠ -9 → ¬ cIsThing (-9) = 0 := fun h => absurd rfl h
    have m2 := c_X7_gather_n (F := zput F (χ + 26) 8 (tFul F χ (nI a) (nI b))) hMd hV' ha hn' w1 ⟨rfl, trivial⟩
    rcases w4 with ⟨v1, v2, v3⟩ | ⟨g, g1, v1, v2, v3, v4, v5⟩
    · have m1 := c_X6_gather_f (F := F) hY ht hn hu' v1
      rw [show mTryV (mWish eNu (mHold G) a (nI b)) 460 = -3 from v3] at m2
      exact eCall.ask hY hMd hE hk (hQ.trans w3) m1 m2
    · have m1 := c_X6_gather_o (F := F) hY ht hn hu' v1
      rw [if_pos rfl, show tFul F χ (nI a) (nI b) 0 4 = nI g from v3] at m1
      rw [show mTryV (mWish eNu (mHold G) a (nI b)) 460 = nI g from v4] at m2
      exact eCall.ask hY hMd hE hk (hQ.trans w3) m1 m2
  · rcases eThg u with ⟨hx, hx'⟩ | ⟨c, hc, rfl, hx, hx'⟩
    · exact eCall.ask0 h (c_X6_gather_b hY (Or.inr (Or.inr ⟨hu, hx⟩))) (c_X7_gather_b hMd hV (Or.inr (Or.inr ⟨hu, hx'⟩)))
    · have m2 := c_X7_gather_t (F := zput F (χ + 26) 8 (tFul F χ (nI a) (nI b))) (u := c) hMd hV' ha hn' w1 ⟨rfl, trivial⟩ hc
      rcases w4 with ⟨v1, v2, v3⟩ | ⟨g, g1, v1, v2, v3, v4, v5⟩
      · have m1 := c_X6_gather_f (F := F) hY ht hn (fun _ => hx) v1
        rw [show mTryV (mWish eNu (mHold G) a (nI b)) (23 * c + 2) = -3 from if_neg v2] at m2
        exact eCall.ask hY hMd hE hk (hQ.trans w3) m1 m2
      · have m1 := c_X6_gather_o (F := F) hY ht hn (fun _ => hx) v1
        rw [if_neg hu, eAt hc (by decide), eAt hc (by decide)] at m1
        rw [v5 c hc] at m2
        exact eCall.ask hY hMd hE hk (hQ.trans w3) m1 m2
theorem k_canHave (h : LI N sh F P χ) (t : Int32) : eCall N χ yX6_canHave wsX6_canHave 42 yX7_canHave wsX7_canHave 9 [.int t] sh F P := by
  obtain ⟨hY, hMd, G, hV, hE⟩ := id h
  obtain ⟨M, hM, hA⟩ := hE.1.all
  rcases eThg t with ⟨ht, ht'⟩ | ⟨a, ha, rfl, ht, ht'⟩
  · exact eCall.ask0 h (c_X6_canHave_b hY ht) (c_X7_canHave_b hMd hV ht')
  obtain ⟨w1, w2, w3, w4⟩ := eCanHave (W := zsub F (χ + 26)) hA ha
  by_cases c : bYield (zsub F (χ + 1)) (nI a) < 1
  · have m1 := c_X6_canHave_n (F := F) hY ht c
    rw [show tThere F χ (nI a) = _ from w3 c] at m1
    exact eCall.ask hY hMd hE eKeep.refl w2 m1 (c_X7_canHave_o hMd hV ha w1)
  · have m1 := c_X6_canHave_o (F := F) hY ht c
    rw [show hvRes (tThere F χ (nI a)) (bYield (zsub F (χ + 1)) (nI a)) (tHv F χ (nI a)).1 = _ from w4 c] at m1
    exact eCall.ask hY hMd hE (eKeep.put (Or.inr (Or.inl ⟨by decide, by decide⟩))) w2 m1 (c_X7_canHave_o hMd (hV.off (by omega)) ha w1)
theorem k_bestGift (h : LI N sh F P χ) (t n : Int32) : eCall N χ yX6_bestGift wsX6_bestGift 42 yX7_bestGift wsX7_bestGift 9 [.int t, .int n] sh F P := by
  obtain ⟨hY, hMd, G, hV, hE⟩ := id h
  obtain ⟨M, hM, hA⟩ := hE.1.all
  rcases eThg t with ⟨ht, ht'⟩ | ⟨a, ha, rfl, ht, ht'⟩
  · exact eCall.ask0 h (c_X6_bestGift_b hY (Or.inl ht)) (c_X7_bestGift_b hMd hV (Or.inl ht'))
  rcases eWsh n with ⟨hn, hn'⟩ | ⟨b, b1, hb, rfl, hn, hn'⟩
  · exact eCall.ask0 h (c_X6_bestGift_b hY (Or.inr hn)) (c_X7_bestGift_b hMd hV (Or.inr hn'))
  obtain ⟨w1, w2, w3⟩ := eBestGift (W := zsub F (χ + 26)) hA ha hb
  rcases w3 with ⟨v1, v2⟩ | ⟨v1, v2, v3, v4, v5⟩
  · exact eCall.ask hY hMd hE (eKeep.put (Or.inr (Or.inl ⟨by decide, by decide⟩))) w2 (c_X6_bestGift_f (F := F) hY ht hn v1) (c_X7_bestGift_f hMd (hV.off (by omega)) ha hn' w1 ⟨v2, trivial⟩)
  · have m1 := c_X6_bestGift_o (F := F) hY ht hn v1
    rw [show (tBg F χ (nI a) (nI b)).2.1 = _ from v5] at m1
    exact eCall.ask hY hMd hE (eKeep.put (Or.inr (Or.inl ⟨by decide, by decide⟩))) v4 m1 (c_X7_bestGift_o hMd (hV.off (by omega)) ha hn' w1 ⟨v2, trivial⟩ v3)
theorem k_wipe (h : LI N sh F P χ) : eCall N χ yX6_wipe wsX6_wipe 1 yX7_wipe wsX7_wipe 1 [] sh F P := by
  obtain ⟨hY, hMd, G, hV, hE⟩ := id h
  obtain ⟨-, -, -, ⟨L, f8, hL⟩, hf⟩ := id hE
  have m1 := c_X6_wipe (F := F) hY
  rw [f8, ← hL.2.1] at m1
  have hV' : zVw (zu F χ 8 0) (χ + 41) 13 G := fun j hj => by
    unfold zu
    rw [if_neg (by omega)]
    exact hV j hj
  have z0 : zu F χ 8 0 χ = upd (F χ) 8 0 := if_pos rfl
  have zj : ∀ j, 1 ≤ j → zu F χ 8 0 (χ + j) = F (χ + j) := fun j hj => if_neg (by omega)
  refine eCall.set hY hMd (hE.gen (fun j hj => zj j (by omega)) (fun i _ => by simp (disch := omega) only [zup_ne, zup_eq, upd_ne, upd_eq]) (by simp (disch := omega) only [zup_ne, zup_eq, upd_ne, upd_eq]) (by simp (disch := omega) only [zup_ne, zup_eq, upd_ne, upd_eq]) (by simp (disch := omega) only [zup_ne, zup_eq, upd_ne, upd_eq]) (by simp (disch := omega) only [zup_ne, zup_eq, upd_ne, upd_eq]) ⟨0, by rw [z0, upd_eq]; rfl, by decide, by simp (disch := omega) only [zup_ne, zup_eq, upd_ne, upd_eq]; rfl, fun i hi => absurd hi (Nat.not_lt_zero _)⟩ ?_ (by omega)) m1 (c_X7_wipe hMd hV')
  rw [z0]
  simp (disch := omega) only [zup_ne, zup_eq, upd_ne, upd_eq]
  exact hf
theorem k_write (h : LI N sh F P χ) (c : Int32) : eCall N χ yX6_write wsX6_write 2 yX7_write wsX7_write 2 [.int c] sh F P := by
  obtain ⟨hY, hMd, G, hV, hE⟩ := id h
  obtain ⟨-, -, -, ⟨L, f8, hL⟩, hf⟩ := id hE
  have hL60 := hL.1
  rcases mIn_of (x := c) 32 126 (by decide) (by decide) with ⟨h0, h2⟩ | ⟨b, b1, b2, rfl, hc⟩
  · have e : xWrite c (F χ 8) = -1 := by
      unfold xWrite
      by_cases h3 : c < 32
      · rw [if_pos h3]
      · rcases h2 with h2 | h2
        · exact absurd h2 h3
        · rw [if_neg h3, if_neg (show ¬ c ≤ 126 from Int32.not_le.mpr h2)]
    have m1 := c_X6_write_e (F := F) hY (c := c) (by rw [e]; decide)
    rw [e] at m1
    exact eCall.ask0 h m1 (c_X7_write_b hMd hV h0)
  · have e0 : xWrite (nI b) (nI L) = if nI L < 60 then 0 else -3 := by
      unfold xWrite
      rw [if_neg (show ¬ nI b < 32 from nI_nlt (b := 32) b1 (by omega)), if_pos (show nI b ≤ 126 from nI_le (b := 126) b2 (by decide))]
    rcases Nat.lt_or_ge L 60 with hlt | hge
    · rw [if_pos (show nI L < 60 from nI_lt (b := 60) hlt (by decide))] at e0
      have m1 := c_X6_write_o (F := F) hY (c := nI b) (by rw [f8]; exact e0)
      rw [f8, nI_1, ePut hlt (by decide)] at m1
      have z0 : zu (va_up F (χ + 40) (upd (F (χ + 40)) L (nI b))) χ 8 (nI (L + 1)) χ = upd (F χ) 8 (nI (L + 1)) := by
        unfold zu
        rw [if_pos rfl, zup_ne (by omega)]
      have z40 : zu (va_up F (χ + 40) (upd (F (χ + 40)) L (nI b))) χ 8 (nI (L + 1)) (χ + 40) = upd (F (χ + 40)) L (nI b) := by
        unfold zu
        rw [if_neg (by omega), zup_eq]
      have zj : ∀ j, 1 ≤ j → j ≠ 40 → zu (va_up F (χ + 40) (upd (F (χ + 40)) L (nI b))) χ 8 (nI (L + 1)) (χ + j) = F (χ + j) := fun j hj h4 => by
        unfold zu
        rw [if_neg (by omega), zup_ne (by omega)]
      generalize zu (va_up F (χ + 40) (upd (F (χ + 40)) L (nI b))) χ 8 (nI (L + 1)) = F' at m1 z0 z40 zj
      have hV' : zVw F' (χ + 41) 13 G := fun j hj => by
        rw [Nat.add_assoc, zj _ (by omega) (by omega), ← Nat.add_assoc]
        exact hV j hj
      refine eCall.set hY hMd (hE.gen (fun j hj => zj j (by omega) (by omega)) (fun i _ => by simp (disch := omega) only [zup_ne, zup_eq, upd_ne, upd_eq]) (by simp (disch := omega) only [zup_ne, zup_eq, upd_ne, upd_eq]) (by simp (disch := omega) only [zup_ne, zup_eq, upd_ne, upd_eq]) (by simp (disch := omega) only [zup_ne, zup_eq, upd_ne, upd_eq]) (by simp (disch := omega) only [zup_ne, zup_eq, upd_ne, upd_eq]) ⟨L + 1, by rw [z0, upd_eq], by omega, by simp (disch := omega) only [zup_ne, zup_eq, upd_ne, upd_eq], fun i hi => ?_⟩ ?_ (by omega)) m1 (c_X7_write_o hMd hV' hc hlt hL.2.1)
      · rw [z40]
        simp (disch := omega) only [zup_ne, zup_eq, upd_ne, upd_eq]
        by_cases ei : i = L
        · subst ei
          rw [upd_eq, upd_eq]
          exact ⟨rfl, b, b1, b2, rfl⟩
        · rw [upd_ne ei, upd_ne ei]
          exact hL.2.2 i (by omega)
      · rw [z0]
        simp (disch := omega) only [zup_ne, zup_eq, upd_ne, upd_eq]
        exact hf
    · rw [if_neg (show ¬ nI L < 60 from nI_nlt (b := 60) hge (by omega))] at e0
      have m1 := c_X6_write_e (F := F) hY (c := nI b) (by rw [f8, e0]; decide)
      rw [f8, e0] at m1
      exact eCall.ask0 h m1 (c_X7_write_f hMd hV hc (by rw [hL.2.1, show L = 60 by omega]; rfl))
theorem k_undo (h : LI N sh F P χ) : eCall N χ yX6_undo wsX6_undo 6 yX7_undo wsX7_undo 1 [] sh F P := by
  obtain ⟨hY, hMd, G, hV, hE⟩ := id h
  obtain ⟨o, s, ho, hs, f1, f2, g2⟩ := hE.ring
  rcases Nat.lt_or_ge s 1 with h0 | h1
  · have e0 : s = 0 := by omega
    subst e0
    exact eCall.ask0 h (c_X6_undo_e hY (by rw [f2]; decide)) (c_X7_undo_n hMd hV (by rw [g2]; rfl))
  · obtain ⟨q1, q2⟩ := hE.pop ho hs f1 f2 h1
    have m1 := c_X6_undo_o (F := F) hY ho hs f1 f2 h1 q1
    have l3 := (eLay (F0 := va_up F (χ + 34) (upd (F (χ + 34)) 2 (nI (s - 1)))) (χ := χ) (τ := χ + 59 + 17 * ((o + (s - 1)) % 8))).2.2
    generalize layF (va_up F (χ + 34) (upd (F (χ + 34)) 2 (nI (s - 1)))) (χ + 59 + 17 * ((o + (s - 1)) % 8)) (χ + 1) (χ + 19) = F' at m1 q2 l3
    have hV' : zVw F' (χ + 41) 13 G := fun j hj => by
      rw [l3 _ (by omega), zup_ne (by omega)]
      exact hV j hj
    exact eCall.set hY hMd (q2.ask eKeep.refl eQ.refl (by omega)) m1 (c_X7_undo_o hMd hV' (q := s - 1) (by omega) (by rw [g2, show s - 1 + 1 = s by omega]))
theorem k_keep (h : LI N sh F P χ) (k : Int32) : eCall N χ yX6_keep wsX6_keep 5 yX7_keep wsX7_keep 4 [.int k] sh F P := by
  obtain ⟨hY, hMd, G, hV, hE⟩ := id h
  obtain ⟨cx, -⟩ := id hE.1
  rcases mIn_of (x := k) 0 1 (by decide) (by decide) with ⟨h0, h2⟩ | ⟨p, -, hp, rfl, hk⟩
  · have hx : k < 0 ∨ 2 ≤ k := by
      rcases pk_ix k (n := 2) (by decide) with q | q | ⟨j, hj, rfl⟩
      · exact Or.inl q
      · exact Or.inr q
      · rcases h2 with h2 | h2
        · exact Or.inl h2
        · exact absurd h2 (nI_nlt (a := 1) (b := j) (by omega) (by decide))
    exact eCall.ask0 h (c_X6_keep_b hY hx) (c_X7_keep_b hMd hV h0)
  · have hp2 : p < 2 := by omega
    have m1 := c_X6_keep_o (F := F) hY hp2
    rw [eRecipes cx] at m1
    have q := hE.keep hY hp2
    have hF : ∀ i, i < χ + 195 + 17 * p ∨ χ + 195 + 17 * p + 17 ≤ i → holdF (remF0 F P (χ + 36) p (χ + 195 + 17 * p)) (χ + 195 + 17 * p) (χ + 1) (χ + 19) i = F i := fun i hi => by
      unfold holdF
      rw [zput_ne (by omega), zput_ne (by omega), remF0_ne hi]
    have hs' : ∀ j, j < χ + 54 → remSh sh P (χ + 36) p (χ + 195 + 17 * p) j = sh j := fun j hj => remSh_ne (by omega)
    have hP' : remP P (χ + 36) p (χ + 195 + 17 * p) (χ + 41) = P (χ + 41) := remP_ne (by omega) (by omega)
    have hY' := hY.img hp2
    generalize holdF (remF0 F P (χ + 36) p (χ + 195 + 17 * p)) (χ + 195 + 17 * p) (χ + 1) (χ + 19) = F' at m1 q hF
    generalize remP P (χ + 36) p (χ + 195 + 17 * p) = P' at m1 q hP' hY'
    generalize remSh sh P (χ + 36) p (χ + 195 + 17 * p) = sh' at m1 hs' hY'
    have hMd' : zMd sh' P' (χ + 41) := hMd.keep (fun j hj => hs' _ (by omega)) hP'
    have hV' : zVw F' (χ + 41) 13 G := fun j hj => by
      rw [hF _ (by omega)]
      exact hV j hj
    exact ⟨_, 17, 497, sh', F', _, P', Nat.le_refl _, Nat.le_refl _, m1, c_X7_keep_o hMd' hV' hp2, hs', hY', hMd', _, fun j hj => zput_at hj, q.ask (eKeep.put (Or.inr (Or.inr (Or.inr ⟨by decide, by decide⟩)))) eQ.refl (by omega)⟩
end EASK2
