/-! ===== 76.pureA: wish, make, bring: both sides ===== -/
theorem eSt.acc {B S S' : Nat → Nat → Int32} {w : Nat → Int32} {N : Nat} (h : eSt B S w N) {V W : Nat → Nat → Int32} (e : mStat w (V 1)) {bt g M' : Nat} (hN : eN (w 460) 1 W bt g M') (hT : eT (w 460) W V) (hg : g ≤ 50999) (hM : M' ≤ N + 60000)
    (hS : ∀ j t, 1 ≤ j → j ≤ 6 → t < 20 → S' j t = W (j + 1) t) (hS0 : S' 0 6 = W 1 6) : eSt B S' (V 1) (N + 60000) := by
  obtain ⟨cx, hrn, hrk, -, -, -, g0, hg0, eg0⟩ := h
  have er := nRs_to cx.1 (mB7.of e) 12
  obtain ⟨n1, n2, n3, n4, n5, n6, n7, n8⟩ := hN
  obtain ⟨t1, t3, t2, t6, t4⟩ := hT
  refine ⟨cx.to e, fun t ht => by rw [er]; exact hrn t ht, by rw [er]; exact hrk.to cx.1 e, ⟨fun j t h1 h6 ht => (hS j t h1 h6 ht).trans (t1 (j + 1) t (by omega) (by omega) ht), hS0.trans t6, ?_⟩, fun t ht => ?_, ⟨M', hM, ?_⟩, g0 + g, by omega, ?_⟩
  · rw [eSum_eq (S' := S' 2) (S := W 3) (fun t ht => hS 2 t (by decide) (by decide) ht), n8, t4, n6]
  · obtain ⟨a, ha, ea⟩ := n3 t ht
    exact ⟨a, ha, (t1 2 t (by decide) (by decide) ht).symm.trans ea⟩
  · rw [eSum_eq (S' := S' 3) (S := W 4) (fun t ht => hS 3 t (by decide) (by decide) ht), n7]
  · rw [t4, n6, eg0, nI_add]
section EACC
variable {N χ : Nat} {sh : zSh} {F : Nat → Nat → Int32} {P : Nat → Nat → Option Nat}
/-- a making that is kept -/
theorem eAccept {yX yM : MethodName} {wX wM : List Cond} {hX hM : Nat} {as : List Value} {G V W : Nat → Nat → Int32} {o s bt g M' : Nat}
    (hY : zSys sh P χ) (hMd : zMd sh P (χ + 41)) (hV : zVw F (χ + 41) 13 G) (hE : eX N F P χ G) (ho : o < 8) (hs : s ≤ 8) (f1 : F (χ + 34) 1 = nI o) (f2 : F (χ + 34) 2 = nI s) (hK : eK 0 (mHold G) V)
    (hN : eN (G 1 460) 1 W bt g M') (hT : eT (G 1 460) W V) (hg : g ≤ 50999) (hMM : M' ≤ N + 60000)
    (m1 : zMet yX wX hX 17 497 (.ref χ :: as) sh F P (some (.int (W 0 4))) (tS sh P χ ((o + s) % 8)) (tAcc F P χ o s W) (tP P χ ((o + s) % 8)))
    (m2 : V 0 2 = G 0 2 → zMd (tS sh P χ ((o + s) % 8)) (tP P χ ((o + s) % 8)) (χ + 41) → zVw (tAcc F P χ o s W) (χ + 41) 13 G → zMet yM wM hM 0 0 (.ref (χ + 41) :: as) (tS sh P χ ((o + s) % 8)) (tAcc F P χ o s W) (tP P χ ((o + s) % 8)) (some (.int (V 1 460 - V 10 460))) (tS sh P χ ((o + s) % 8)) (zput (tAcc F P χ o s W) (χ + 41) 13 (mDone V s)) (tP P χ ((o + s) % 8))) : eCall N χ yX wX hX yM wM hM as sh F P := by
  have k1 : ∀ j, j ≠ 0 → j ≠ 1 → j ≠ 10 → (j < 6 ∨ 9 < j) → V j = G j := fun j h0 h1 h10 h6 => (hK.1 j h0 h1 h6).trans (zup_ne h10)
  have k10 : ∀ i, i < 462 → V 10 i = G 1 i := fun i hi => by
    rw [hK.1 10 (by decide) (by decide) (by decide)]
    unfold mHold
    rw [zup_eq]
    exact cCopy_in hi
  have k0 : ∀ q, q ≠ 14 → q ≠ 15 → q ≠ 16 → V 0 q = G 0 q := fun q a b c => (hK.2.1 q a b c).trans (by unfold mHold; rw [zup_ne (by decide)])
  have e1 : mHold G 1 = G 1 := zup_ne (by decide)
  have ev : V 1 460 - V 10 460 = W 0 4 := by
    rw [hT.2.2.2.2, k10 460 (by decide)]
    exact eSub_id _ _
  rw [ev] at m2
  have e0 : eKeep χ F (zput F (χ + 26) 8 W) := eKeep.put (Or.inr (Or.inl ⟨by decide, by decide⟩))
  have hz : ∀ j, j < 8 → tF (zput F (χ + 26) 8 W) P χ o s (χ + 26 + j) = W j := fun j hj => by
    rw [Nat.add_assoc, tF_j (by omega) (by omega), ← Nat.add_assoc, zput_at hj]
  have aS : ∀ j, j < 7 → zsub (tAcc F P χ o s W) (χ + 19) j = sCopy (zsub (tF (zput F (χ + 26) 8 W) P χ o s) (χ + 19)) (zsub (tF (zput F (χ + 26) 8 W) P χ o s) (χ + 27)) j := fun j hj => by
    show tAcc F P χ o s W (χ + 19 + j) = _
    unfold tAcc
    rw [zput_at hj]
  have aO : ∀ i, i < χ + 19 ∨ χ + 26 ≤ i → tAcc F P χ o s W i = tF (zput F (χ + 26) 8 W) P χ o s i := fun i hi => by
    unfold tAcc
    rw [zput_ne (by omega)]
  generalize tAcc F P χ o s W = F1 at m1 m2 aS aO
  refine eCall.push hY hMd hV hE ho hs f1 f2 e0 (fun j h1 h2 => zput_ne (by omega)) (fun i hi => aO i (by omega)) (mPsh.done hs k10 (k1 2 (by decide) (by decide) (by decide) (by decide))) ?_ ?_ (fun q hq => ?_) ?_ m1 (m2 (k0 2 (by decide) (by decide) (by decide)))
  · rw [mDone_j (by decide) (by decide) (by decide) (by decide)]
    exact k1 3 (by decide) (by decide) (by decide) (by decide)
  · rw [mDone_j (by decide) (by decide) (by decide) (by decide)]
    exact k1 4 (by decide) (by decide) (by decide) (by decide)
  · rw [mDone_0 (by omega)]
    exact k0 q (by omega) (by omega) (by omega)
  · have hst := hE.1.acc (S' := zsub F1 (χ + 19)) (V := V) (W := W) (by have := hK.2.2.2; rw [e1] at this; exact this) hN hT hg hMM (fun j t h1 h6 ht => ?_) ?_
    · refine hst.to (eBeq.of fun j a b => ?_) eSeq.refl (fun i hi => mDone_1 hi) (Nat.le_refl _)
      show F1 (χ + 1 + j) = F (χ + 1 + j)
      rw [aO _ (by omega), Nat.add_assoc, tF_j (by omega) (by omega)]
      exact zput_ne (by omega)
    · rw [aS j (by omega), eCopyS_j h1 h6 ht]
      show tF _ P χ o s (χ + 27 + j) t = _
      rw [show χ + 27 + j = χ + 26 + (j + 1) by omega, hz _ (by omega)]
    · rw [aS 0 (by decide), eCopyS_0, upd_eq]
      show tF _ P χ o s (χ + 27) 6 = _
      rw [show χ + 27 = χ + 26 + 1 by omega, hz 1 (by decide)]
theorem k_wish (h : LI N sh F P χ) (t n : Int32) : eCall N χ yX6_wish wsX6_wish 42 yX7_wish wsX7_wish 8 [.int t, .int n] sh F P := by
  obtain ⟨hY, hMd, G, hV, hE⟩ := id h
  obtain ⟨M, hM, cx, hrk, hsk, hwm, eM⟩ := hE.1.all
  obtain ⟨o, s, ho, hs, f1, f2, g2⟩ := hE.ring
  rcases eThg t with ⟨ht, ht'⟩ | ⟨a, ha, rfl, ht, ht'⟩
  · exact eCall.ask0 h (c_X6_wish_b hY (Or.inl ht)) (c_X7_wish_b hMd hV (Or.inl ht'))
  rcases eWsh n with ⟨hn, hn'⟩ | ⟨b, b1, hb, rfl, hn, hn'⟩
  · exact eCall.ask0 h (c_X6_wish_b hY (Or.inr hn)) (c_X7_wish_b hMd hV (Or.inr hn'))
  obtain ⟨hH, hQ⟩ := eHd.hold (G := G)
  have e1 : mHold G 1 = G 1 := zup_ne (by decide)
  obtain ⟨w1, w2, w3⟩ := eWish (W := zsub F (χ + 26)) (G := mHold G) (n := b) (M := M) (S := zsub F (χ + 19)) (B := zsub F (χ + 1)) (r := nRs (G 1) 12) (by rw [e1]; exact cx) (by rw [e1]; exact hrk) (by rw [e1]; exact hsk) (by rw [e1]; exact hwm) eM ha (by omega)
  have hq := (eRestH hH w2).2
  rw [e1] at w3
  rcases w3 with ⟨v1, v2⟩ | ⟨bt, g, M', hN, hT, hg, hM1, hM2⟩
  · exact eCall.ask hY hMd hE (eKeep.put (Or.inr (Or.inl ⟨by decide, by decide⟩))) (hQ.trans hq) (c_X6_wish_f (F := F) hY ht hn v1) (c_X7_wish_f (p := 0) hMd (hV.off (by omega)) ha hn' w1 ⟨rfl, trivial⟩ v2)
  · have b5 := hN.2.2.2.2.1
    exact eAccept hY hMd hV hE ho hs f1 f2 w2 hN hT (by omega) (by omega) (c_X6_wish_o (F := F) hY ho hs f1 f2 ht hn hN.2.1) (fun v2 hm hv => c_X7_wish_o hm hv ha hn' w1 ⟨rfl, trivial⟩ (by rw [← hT.2.2.1]; exact hN.2.1) hs (v2.trans g2))
theorem k_make (h : LI N sh F P χ) (t n : Int32) : eCall N χ yX6_make wsX6_make 42 yX7_make wsX7_make 7 [.int t, .int n] sh F P := by
  obtain ⟨hY, hMd, G, hV, hE⟩ := id h
  obtain ⟨M, hM, cx, hrk, hsk, hwm, eM⟩ := hE.1.all
  obtain ⟨o, s, ho, hs, f1, f2, g2⟩ := hE.ring
  rcases eThg t with ⟨ht, ht'⟩ | ⟨a, ha, rfl, ht, ht'⟩
  · exact eCall.ask0 h (c_X6_make_b hY (Or.inl ht)) (c_X7_make_b hMd hV (Or.inl ht'))
  rcases eBat n with ⟨hn, hn'⟩ | ⟨b, b1, hb, rfl, hn1, hn2, hn'⟩
  · exact eCall.ask0 h (c_X6_make_b hY (Or.inr hn)) (c_X7_make_b hMd hV (Or.inr hn'))
  by_cases hy : eWy (G 1) a = 0
  · exact eCall.ask0 h (c_X6_make_n hY ht hn1 hn2 (by rw [cx.made ha, if_pos hy])) (c_X7_make_n hMd hV ha hn' (by rw [cx.1.made ha, if_pos hy]))
  have hm1 : ¬ bMade (zsub F (χ + 1)) (nI a) = 0 := by rw [cx.made ha, if_neg hy]; decide
  have hm2 : ¬ mMade (G 1) a = 0 := by rw [cx.1.made ha, if_neg hy]; decide
  obtain ⟨hH, hQ⟩ := eHd.hold (G := G)
  have e1 : mHold G 1 = G 1 := zup_ne (by decide)
  obtain ⟨w1, w2, w3⟩ := eMaking (W := zsub F (χ + 26)) (G := mHold G) (b := b) (M := M) (S := zsub F (χ + 19)) (B := zsub F (χ + 1)) (r := nRs (G 1) 12) (by rw [e1]; exact cx) (by rw [e1]; exact hrk) (by rw [e1]; exact hsk) (by rw [e1]; exact hwm) eM ha (by rw [e1]; exact hy) (by omega)
  have hq := (eRestH hH w2).2
  rw [e1] at w3
  rcases w3 with ⟨v1, v2⟩ | ⟨bt, g, M', hN, hT, hg, hM1, hM2⟩
  · exact eCall.ask hY hMd hE (eKeep.put (Or.inr (Or.inl ⟨by decide, by decide⟩))) (hQ.trans hq) (c_X6_make_f (F := F) hY ht hn1 hn2 hm1 v1) (c_X7_make_f (p := 0) hMd (hV.off (by omega)) ha hn' hm2 w1 ⟨rfl, trivial⟩ v2)
  · have b5 := hN.2.2.2.2.1
    exact eAccept hY hMd hV hE ho hs f1 f2 w2 hN hT (by omega) (by omega) (c_X6_make_o (F := F) hY ho hs f1 f2 ht hn1 hn2 hm1 hN.2.1) (fun v2 hm hv => c_X7_make_o hm hv ha hn' hm2 w1 ⟨rfl, trivial⟩ (by rw [← hT.2.2.1]; exact hN.2.1) hs (v2.trans g2))
theorem k_bring (h : LI N sh F P χ) (t a : Int32) : eCall N χ yX6_bring wsX6_bring 6 yX7_bring wsX7_bring 3 [.int t, .int a] sh F P := by
  obtain ⟨hY, hMd, G, hV, hE⟩ := id h
  obtain ⟨cx, hrn, hrk, hsk, hwm, ⟨M, hM, eM⟩, g, hg, eg⟩ := id hE.1
  obtain ⟨o, s, ho, hs, f1, f2, g2⟩ := hE.ring
  rcases eThg t with ⟨ht, ht'⟩ | ⟨b, hb, rfl, ht, ht'⟩
  · have e : xBring t a (cAt 20 (F (χ + 20)) t) = -1 := by unfold xBring; rw [if_pos ht]
    have m1 := c_X6_bring_e (F := F) hY (t := t) (a := a) (by rw [e]; decide)
    rw [e] at m1
    exact eCall.ask0 h m1 (c_X7_bring_b hMd hV (Or.inl ht'))
  obtain ⟨x, hx, ex⟩ := hwm b hb
  have eA : cAt 20 (F (χ + 20)) (nI b) = G 1 (23 * b + 0) := (eAt hb (by decide)).trans (hsk.1 1 b (by decide) (by decide) hb)
  have eA0 : F (χ + 20) b = G 1 (23 * b + 0) := hsk.1 1 b (by decide) (by decide) hb
  by_cases ha1 : a < -9999
  · have e : xBring (nI b) a (cAt 20 (F (χ + 20)) (nI b)) = -1 := by unfold xBring; rw [if_neg ht, if_pos ha1]
    have m1 := c_X6_bring_e (F := F) hY (t := nI b) (a := a) (by rw [e]; decide)
    rw [e] at m1
    exact eCall.ask0 h m1 (c_X7_bring_b hMd hV (Or.inr (by unfold mIn; rw [if_pos ha1])))
  by_cases ha2 : a ≤ 9999
  · have hin : ¬ mIn a (-9999) 9999 = 0 := by
      unfold mIn
      rw [if_neg ha1, if_neg (Int32.not_lt.mpr ha2)]
      decide
    have e0 : xBring (nI b) a (cAt 20 (F (χ + 20)) (nI b)) = if cMx0 (G 1 (23 * b + 0) + a) ≤ 99999 then 0 else -3 := by
      unfold xBring
      rw [if_neg ht, if_neg ha1, if_pos ha2, eA]
    have hle : cMx0 (G 1 (23 * b + 0) + a) ≤ 99999 ↔ G 1 (23 * b + 0) + a ≤ 99999 := by
      unfold cMx0
      by_cases c : G 1 (23 * b + 0) + a < 0
      · rw [if_pos c]
        exact ⟨fun _ => Int32.le_of_lt (Int32.lt_of_lt_of_le c (by decide)), fun _ => by decide⟩
      · rw [if_neg c]
    by_cases c : G 1 (23 * b + 0) + a ≤ 99999
    · rw [if_pos (hle.mpr c)] at e0
      have m1 := c_X6_bring_o (F := F) hY ho hs f1 f2 (t := nI b) (a := a) e0
      -- the new amount, and what is brought
      obtain ⟨y, hy, ey⟩ : ∃ y, y ≤ 99999 ∧ cMx0 (G 1 (23 * b + 0) + a) = nI y := by
        unfold cMx0
        by_cases c0 : G 1 (23 * b + 0) + a < 0
        · rw [if_pos c0]
          exact ⟨0, by decide, rfl⟩
        · rw [if_neg c0]
          exact nI_of2 (M := 99999) (n := 99999) (by decide) c0 c
      have eW : G 1 (23 * b + 0) + mBrA (G 1) b a = nI y := by
        rw [← ey]
        unfold mBrA cMx0
        by_cases c0 : G 1 (23 * b + 0) + a < 0
        · rw [if_pos c0, if_pos c0]
          rw [← Int32.sub_eq_add_neg, Int32.sub_self]
        · rw [if_neg c0, if_neg c0]
      have eD : cMx0 (G 1 (23 * b + 0) + a) - G 1 (23 * b + 0) = mBrA (G 1) b a := by
        rw [ey, ← eW]
        exact eSub_id _ _
      rw [eA, eD, eAdd hb (by decide), eAdd hb (by decide), eA0, eW, ey] at m1
      have m2 := fun {sh' : zSh} {F' : Nat → Nat → Int32} {P' : Nat → Nat → Option Nat} (hm : zMd sh' P' (χ + 41)) (hv : zVw F' (χ + 41) 13 G) => c_X7_bring_o (t := b) (a := a) hm hv hb hin c hs g2
      rw [eW] at m2
      obtain ⟨r3, r4, r0⟩ := eRem_0 (G := G) (s := s) (x := mWbr (G 1) b a)
      have fO : ∀ i, i ≠ χ + 20 → i ≠ χ + 25 → va_up (va_up (tF F P χ o s) (χ + 20) (upd (F (χ + 20)) b (nI y))) (χ + 25) (upd (F (χ + 25)) b (F (χ + 25) b + mBrA (G 1) b a)) i = tF F P χ o s i := fun i h1 h2 => by rw [zup_ne h2, zup_ne h1]
      have f20 : va_up (va_up (tF F P χ o s) (χ + 20) (upd (F (χ + 20)) b (nI y))) (χ + 25) (upd (F (χ + 25)) b (F (χ + 25) b + mBrA (G 1) b a)) (χ + 20) = upd (F (χ + 20)) b (nI y) := by rw [zup_ne (by omega), zup_eq]
      have f25 : va_up (va_up (tF F P χ o s) (χ + 20) (upd (F (χ + 20)) b (nI y))) (χ + 25) (upd (F (χ + 25)) b (F (χ + 25) b + mBrA (G 1) b a)) (χ + 25) = upd (F (χ + 25)) b (F (χ + 25) b + mBrA (G 1) b a) := zup_eq
      generalize va_up (va_up (tF F P χ o s) (χ + 20) (upd (F (χ + 20)) b (nI y))) (χ + 25) (upd (F (χ + 25)) b (F (χ + 25) b + mBrA (G 1) b a)) = F1 at m1 fO f20 f25
      have w6 : mWbr (G 1) b a (23 * b + 6) = G 1 (23 * b + 6) + mBrA (G 1) b a := by
        unfold mWbr
        rw [upd_eq, upd_ne (by omega)]
      have wn : ∀ i, i ≠ 23 * b + 0 → i ≠ 23 * b + 6 → mWbr (G 1) b a i = G 1 i := fun i h1 h2 => by
        unfold mWbr
        rw [upd_ne h2, upd_ne h1]
      have w0 : mWbr (G 1) b a (23 * b + 0) = nI y := mWbr_0.trans eW
      refine eCall.push hY hMd hV hE ho hs f1 f2 eKeep.refl (fun _ _ _ => rfl) (fun i hi => fO i (by omega) (by omega)) (mPsh.up hs) r3 r4 r0 ?_ m1 m2
      rw [zup_eq]
      generalize mWbr (G 1) b a = w' at w6 wn w0
      refine hE.1.b7 (fun t k ht hk h7 => wn _ (by omega) (by omega)) (fun t ht => ?_) (fun j h1 h8 hj => ?_) (fun t ht => ?_) ⟨fun j t h1 h6 ht => ?_, ?_, ?_⟩ (fun t ht => ?_) ⟨M, by omega, ?_⟩ ⟨g, by omega, by rw [wn _ (by omega) (by omega)]; exact eg⟩
      · have := (cx.1 t ht).2.2.2.2.2.2
        unfold mVes at this ⊢
        rw [wn _ (by omega) (by omega)]
        exact this
      · show F1 (χ + 1 + j) = F (χ + 1 + j)
        rw [fO _ (by omega) (by omega), Nat.add_assoc, tF_j (by omega) (by omega)]
      · show F1 (χ + 1 + 7) t = _
        rw [fO _ (by omega) (by omega), Nat.add_assoc, tF_j (by omega) (by omega), wn _ (by omega) (by omega)]
        exact (cx.2 t ht).1
      · show F1 (χ + 19 + j) t = _
        by_cases j1 : j = 1
        · subst j1
          rw [show χ + 19 + 1 = χ + 20 from rfl, f20, show eOff (1 + 1) = 0 from rfl]
          by_cases e : t = b
          · subst e
            rw [upd_eq, w0]
          · rw [upd_ne e, wn _ (by omega) (by omega)]
            exact hsk.1 1 t (by decide) (by decide) ht
        · by_cases j6 : j = 6
          · subst j6
            rw [show χ + 19 + 6 = χ + 25 from rfl, f25, show eOff (6 + 1) = 6 from rfl]
            by_cases e : t = b
            · subst e
              rw [upd_eq, w6]
              exact congrArg (· + mBrA (G 1) t a) (hsk.1 6 t (by decide) (by decide) hb)
            · rw [upd_ne e, wn _ (by omega) (by omega)]
              exact hsk.1 6 t (by decide) (by decide) ht
          · have ho6 : eOff (j + 1) = j := by unfold eOff; rw [if_neg (by omega)]; rfl
            rw [fO _ (by omega) (by omega), Nat.add_assoc, tF_j (by omega) (by omega), ← Nat.add_assoc, wn _ (by omega) (by omega)]
            exact hsk.1 j t h1 h6 ht
      · show F1 (χ + 19) 6 = _
        rw [fO _ (by omega) (by omega), tF_j (by decide) (by decide), wn _ (by omega) (by omega)]
        exact hsk.2.1
      · show cSum (F1 (χ + 21)) 20 = _
        rw [fO _ (by omega) (by omega), tF_j (by decide) (by decide), wn _ (by omega) (by omega)]
        exact hsk.2.2
      · by_cases e : t = b
        · subst e
          exact ⟨y, hy, w0⟩
        · obtain ⟨x', hx', ex'⟩ := hwm t ht
          exact ⟨x', hx', by rw [wn _ (by omega) (by omega)]; exact ex'⟩
      · show cSum (F1 (χ + 22)) 20 = _
        rw [fO _ (by omega) (by omega), tF_j (by decide) (by decide)]
        exact eM
    · rw [if_neg (fun q => c (hle.mp q))] at e0
      have m1 := c_X6_bring_e (F := F) hY (t := nI b) (a := a) (by rw [e0]; decide)
      rw [e0] at m1
      exact eCall.ask0 h m1 (c_X7_bring_f hMd hV hb hin c)
  · have e : xBring (nI b) a (cAt 20 (F (χ + 20)) (nI b)) = -1 := by unfold xBring; rw [if_neg ht, if_neg ha1, if_neg ha2]
    have m1 := c_X6_bring_e (F := F) hY (t := nI b) (a := a) (by rw [e]; decide)
    rw [e] at m1
    exact eCall.ask0 h m1 (c_X7_bring_b hMd hV (Or.inr (by unfold mIn; rw [if_neg ha1, if_pos (Int32.not_le.mp ha2)])))
end EACC
