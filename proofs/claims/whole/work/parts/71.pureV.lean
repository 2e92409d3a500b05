/-! ===== 71.pureV: the relation of both sides ===== -/
def bN (j : Nat) : Nat := if j = 3 ∨ j = 4 then 100 else if j = 6 then 60 else 20
def eBeq (B B' : Nat → Nat → Int32) : Prop := ∀ j t, 1 ≤ j → j ≤ 8 → t < bN j → B' j t = B j t
def eSeq (S S' : Nat → Nat → Int32) : Prop := (∀ j t, 1 ≤ j → j ≤ 6 → t < 20 → S' j t = S j t) ∧ S' 0 6 = S 0 6
theorem eBeq.refl {B : Nat → Nat → Int32} : eBeq B B := fun _ _ _ _ _ => rfl
theorem eSeq.refl {S : Nat → Nat → Int32} : eSeq S S := ⟨fun _ _ _ _ _ => rfl, rfl⟩
theorem eBeq.trans {A B C : Nat → Nat → Int32} (h : eBeq A B) (g : eBeq B C) : eBeq A C := fun j t a b c => (g j t a b c).trans (h j t a b c)
theorem eSeq.trans {A B C : Nat → Nat → Int32} (h : eSeq A B) (g : eSeq B C) : eSeq A C := ⟨fun j t a b c => (g.1 j t a b c).trans (h.1 j t a b c), g.2.trans h.2⟩
theorem eBeq.of {B B' : Nat → Nat → Int32} (h : ∀ j, 1 ≤ j → j ≤ 8 → B' j = B j) : eBeq B B' := fun j t a b _ => by rw [h j a b]
theorem eSeq.of {S S' : Nat → Nat → Int32} (h : ∀ j, j ≤ 6 → S' j = S j) : eSeq S S' := ⟨fun j t a b _ => by rw [h j b], by rw [h 0 (by decide)]⟩
theorem eBeq.copy {B G : Nat → Nat → Int32} : eBeq G (bCopy B G) := by
  intro j t h1 h8 ht
  have : j = 1 ∨ j = 2 ∨ j = 3 ∨ j = 4 ∨ j = 5 ∨ j = 6 ∨ j = 7 ∨ j = 8 := by omega
  unfold bCopy
  rcases this with rfl | rfl | rfl | rfl | rfl | rfl | rfl | rfl
  all_goals simp (disch := omega) only [zup_ne, zup_eq, upd_ne, upd_eq]
  all_goals exact cCopy_in ht
theorem eSeq.copy {S G : Nat → Nat → Int32} : eSeq G (sCopy S G) := ⟨fun j t h1 h6 ht => eCopyS_j h1 h6 ht, by rw [eCopyS_0, upd_eq]⟩
/-- one state of both sides: the book B, the stock S, the model's row w -/
def eSt (B S : Nat → Nat → Int32) (w : Nat → Int32) (N : Nat) : Prop := eCx B w ∧ (∀ t, t < 20 → B 8 t = nI (nRs w 12 t) ∧ nRs w 12 t ≤ 8) ∧ eRk w (nRs w 12) ∧ eSk S w ∧ eWm w ∧ (∃ M, M ≤ N ∧ cSum (S 3) 20 = nI M) ∧ ∃ g, g ≤ N ∧ w 460 = nI g
theorem eBk.beq {B B' : Nat → Nat → Int32} {w : Nat → Int32} (h : eBk B w) (hv : eVal w) (e : eBeq B B') : eBk B' w := by
  intro t ht
  obtain ⟨h1, h2, h3, h4, h5, h6⟩ := h t ht
  obtain ⟨-, ⟨-, c5⟩, -, ⟨-, s3⟩, -⟩ := hv t ht
  refine ⟨(e 7 t (by decide) (by decide) ht).trans h1, (e 1 t (by decide) (by decide) ht).trans h2, (e 2 t (by decide) (by decide) ht).trans h3, (e 5 t (by decide) (by decide) ht).trans h4, fun k hk => ⟨(e 3 (t * 5 + k) (by decide) (by decide) (show _ < 100 by omega)).trans (h5 k hk).1, (e 4 (t * 5 + k) (by decide) (by decide) (show _ < 100 by omega)).trans (h5 k hk).2⟩, fun k hk => (e 6 (t * 3 + k) (by decide) (by decide) (show _ < 60 by omega)).trans (h6 k hk)⟩
/-- the recipes and the substitutes are the same -/
def mB7 (w w' : Nat → Int32) : Prop := ∀ t k, t < 20 → k < 23 → 7 ≤ k → w' (23 * t + k) = w (23 * t + k)
theorem mB7.of {w w' : Nat → Int32} (e : mStat w w') : mB7 w w' := fun t k ht hk h7 => e t k ht hk (by omega)
theorem eW_b7 {w w' : Nat → Int32} {t : Nat} (e : mB7 w w') (ht : t < 20) : eWy w' t = eWy w t ∧ eWc w' t = eWc w t ∧ eWs w' t = eWs w t ∧ (∀ k, k < 5 → eWi w' t k = eWi w t k ∧ eWa w' t k = eWa w t k) ∧ ∀ k, k < 3 → eWb w' t k = eWb w t k := by
  unfold eWy eWc eWs eWi eWa eWb
  refine ⟨by rw [e t 7 ht (by decide) (by decide)], by rw [e t 8 ht (by decide) (by decide)], by rw [e t 19 ht (by decide) (by decide)], fun k hk => ⟨by rw [e t (9 + 2 * k) ht (by omega) (by omega)], by rw [e t (9 + 2 * k + 1) ht (by omega) (by omega)]⟩, fun k hk => by rw [e t (20 + k) ht (by omega) (by omega)]⟩
theorem eVal.b7 {w w' : Nat → Int32} (h : eVal w) (e : mB7 w w') (hvs : ∀ t, t < 20 → mVes w' t) : eVal w' := by
  intro t ht
  obtain ⟨h7, h8, hz, h19, hi, hs, hv⟩ := h t ht
  obtain ⟨e7, e8, e19, ei, es⟩ := eW_b7 e ht
  rw [e7, e8, e19]
  refine ⟨⟨by rw [e t 7 ht (by decide) (by decide)]; exact h7.1, h7.2⟩, ⟨by rw [e t 8 ht (by decide) (by decide)]; exact h8.1, h8.2⟩, hz, ⟨by rw [e t 19 ht (by decide) (by decide)]; exact h19.1, h19.2⟩, fun k hk => ?_, fun k hk => ?_, hvs t ht⟩
  · rw [(ei k (by omega)).1, (ei k (by omega)).2, e t (9 + 2 * k) ht (by omega) (by omega), show 23 * t + (9 + 2 * k + 1) = 23 * t + (9 + 2 * k + 1) from rfl, e t (9 + 2 * k + 1) ht (by omega) (by omega)]
    exact hi k hk
  · rw [es k (by omega), e t (20 + k) ht (by omega) (by omega)]
    exact hs k hk
theorem eCx.b7 {B B' : Nat → Nat → Int32} {w w' : Nat → Int32} (h : eCx B w) (e : mB7 w w') (hvs : ∀ t, t < 20 → mVes w' t) (hB : ∀ j, 1 ≤ j → j ≤ 6 → B' j = B j) (h7 : ∀ t, t < 20 → B' 7 t = w' (23 * t + 1)) : eCx B' w' := by
  refine ⟨h.1.b7 e hvs, fun t ht => ?_⟩
  obtain ⟨e7, e8, e19, ei, es⟩ := eW_b7 e ht
  obtain ⟨b7, b1, b2, b5, b3, b6⟩ := h.2 t ht
  have h8 := (h.1 t ht).2.1.2
  have h19 := (h.1 t ht).2.2.2.1.2
  rw [e8, e19, hB 1 (by decide) (by decide), hB 2 (by decide) (by decide), hB 3 (by decide) (by decide), hB 4 (by decide) (by decide), hB 5 (by decide) (by decide), hB 6 (by decide) (by decide)]
  refine ⟨h7 t ht, by rw [e t 7 ht (by decide) (by decide)]; exact b1, by rw [e t 8 ht (by decide) (by decide)]; exact b2, by rw [e t 19 ht (by decide) (by decide)]; exact b5, fun k hk => ?_, fun k hk => ?_⟩
  · rw [e t (9 + 2 * k) ht (by omega) (by omega), e t (9 + 2 * k + 1) ht (by omega) (by omega)]
    exact b3 k hk
  · rw [e t (20 + k) ht (by omega) (by omega)]
    exact b6 k hk
theorem eRk.b7 {w w' : Nat → Int32} {r : Nat → Nat} (h : eRk w r) (hv : eVal w) (e : mB7 w w') : eRk w' r := by
  intro t ht hy
  obtain ⟨e7, e8, e19, ei, es⟩ := eW_b7 e ht
  have h8 := (hv t ht).2.1.2
  obtain ⟨r1, r8, hr⟩ := h t ht (by rw [← e7]; exact hy)
  refine ⟨r1, r8, fun k hk => ?_⟩
  rw [e8] at hk
  have hi20 := ((hv t ht).2.2.2.2.1 k hk).2.1
  obtain ⟨e7', e8', e19', ei', es'⟩ := eW_b7 e hi20
  have h19 := (hv _ hi20).2.2.2.1.2
  rw [(ei k (by omega)).1]
  refine ⟨(hr k hk).1, fun i hi => ?_⟩
  rw [e19'] at hi
  rw [es' i (by omega)]
  exact (hr k hk).2 i hi
theorem nMx_to {w w' : Nat → Int32} (hv : eVal w) (e : mB7 w w') {R : Nat → Nat} {t : Nat} (ht : t < 20) : nMx w' R t = nMx w R t := by
  obtain ⟨h1, h2, h3, h4, h5⟩ := eW_b7 e ht
  obtain ⟨-, ⟨-, c5⟩, -, -, hi, -⟩ := hv t ht
  have hin : ∀ k m, k < eWc w t → it (fun i m => max (R (eWb w' (eWi w' t k) i)) m) (eWs w' (eWi w' t k)) m = it (fun i m => max (R (eWb w (eWi w t k) i)) m) (eWs w (eWi w t k)) m := by
    intro k m hk
    have ek := (h4 k (by omega)).1
    rw [ek]
    obtain ⟨g1, g2, g3, g4, g5⟩ := eW_b7 e (hi k hk).2.1
    obtain ⟨-, -, -, ⟨-, s3⟩, -, -⟩ := hv _ (hi k hk).2.1
    rw [g3]
    have : ∀ n, n ≤ eWs w (eWi w t k) → it (fun i m => max (R (eWb w' (eWi w t k) i)) m) n m = it (fun i m => max (R (eWb w (eWi w t k) i)) m) n m := by
      intro n
      induction n with
      | zero => exact fun _ => by rw [it_zero, it_zero]
      | succ n ih =>
        intro hn
        rw [it_s, it_s, ih (by omega)]
        rw [g5 n (by omega)]
    exact this _ (Nat.le_refl _)
  unfold nMx
  rw [h2]
  have : ∀ n, n ≤ eWc w t → it (fun k m => it (fun i m => max (R (eWb w' (eWi w' t k) i)) m) (eWs w' (eWi w' t k)) (max (R (eWi w' t k)) m)) n 0 = it (fun k m => it (fun i m => max (R (eWb w (eWi w t k) i)) m) (eWs w (eWi w t k)) (max (R (eWi w t k)) m)) n 0 := by
    intro n
    induction n with
    | zero => exact fun _ => by rw [it_zero, it_zero]
    | succ n ih =>
      intro hn
      rw [it_s, it_s, ih (by omega)]
      show it (fun i m => max (R (eWb w' (eWi w' t n) i)) m) (eWs w' (eWi w' t n)) (max (R (eWi w' t n)) _) = it (fun i m => max (R (eWb w (eWi w t n) i)) m) (eWs w (eWi w t n)) (max (R (eWi w t n)) _)
      rw [hin n _ (by omega), (h4 n (by omega)).1]
  exact this _ (Nat.le_refl _)
theorem nRk_to {w w' : Nat → Int32} (hv : eVal w) (e : mB7 w w') {R : Nat → Nat} {t : Nat} (ht : t < 20) : nRk w' R t = nRk w R t := by
  unfold nRk
  rw [(eW_b7 e ht).1, nMx_to hv e ht]
theorem nRnd_z {w : Nat → Int32} {R : Nat → Nat} : nRnd w R 0 = R := rfl
theorem nRs_z {w : Nat → Int32} : nRs w 0 = fun _ => 0 := rfl
theorem nRnd_to {w w' : Nat → Int32} (hv : eVal w) (e : mB7 w w') {R : Nat → Nat} : ∀ n, n ≤ 20 → nRnd w' R n = nRnd w R n := by
  intro n
  induction n with
  | zero => exact fun _ => nRnd_z.trans nRnd_z.symm
  | succ n ih =>
    intro hn
    rw [nRnd_s, nRnd_s, ih (by omega), nRk_to hv e (by omega)]
theorem nRs_to {w w' : Nat → Int32} (hv : eVal w) (e : mB7 w w') : ∀ n, nRs w' n = nRs w n := by
  intro n
  induction n with
  | zero => exact nRs_z.trans nRs_z.symm
  | succ n ih => rw [nRs_s, nRs_s, ih, nRnd_to hv e 20 (Nat.le_refl _)]
theorem eSum_eq {S S' : Nat → Int32} (h : ∀ t, t < 20 → S' t = S t) : cSum S' 20 = cSum S 20 := eSum_congr 20 h
theorem eSk.seq {S S' : Nat → Nat → Int32} {w : Nat → Int32} (h : eSk S w) (e : eSeq S S') : eSk S' w :=
  ⟨fun j t h1 h6 ht => (e.1 j t h1 h6 ht).trans (h.1 j t h1 h6 ht), e.2.trans h.2.1, (eSum_eq fun t ht => e.1 2 t (by decide) (by decide) ht).trans h.2.2⟩
theorem eSt.to {B B' S S' : Nat → Nat → Int32} {w w' : Nat → Int32} {N N' : Nat} (h : eSt B S w N) (hB : eBeq B B') (hS : eSeq S S') (hw : ∀ i, i < 462 → w' i = w i) (hN : N ≤ N') : eSt B' S' w' N' := by
  obtain ⟨h1, h2, h3, h4, h5, ⟨M, h6, h7⟩, g, h8, h9⟩ := h
  have e := mStat_of hw
  have er := nRs_to h1.1 (mB7.of e) 12
  refine ⟨(eCx.to ⟨h1.1, h1.2.beq h1.1 hB⟩ e), fun t ht => ?_, ?_, (h4.seq hS).to hw, h5.to hw, ⟨M, by omega, (eSum_eq fun t ht => hS.1 3 t (by decide) (by decide) ht).trans h7⟩, g, by omega, (hw 460 (by decide)).trans h9⟩
  · rw [er]
    exact ⟨(hB 8 t (by decide) (by decide) ht).trans (h2 t ht).1, (h2 t ht).2⟩
  · rw [er]
    exact h3.to h1.1 e
theorem eSt.all {B S : Nat → Nat → Int32} {w : Nat → Int32} {N : Nat} (h : eSt B S w N) : ∃ M, M ≤ N ∧ eAll B S w (nRs w 12) M := by
  obtain ⟨h1, h2, h3, h4, h5, ⟨M, h6, h7⟩, -⟩ := h
  exact ⟨M, h6, h1, h3, h4, h5, h7⟩
/-- the place of a state of the ring -/
def eTau (χ p : Nat) : Nat := χ + 59 + 17 * p
/-- the class's memory F, P at χ, and the model's G -/
def eX (N : Nat) (F : Nat → Nat → Int32) (P : Nat → Nat → Option Nat) (χ : Nat) (G : Nat → Nat → Int32) : Prop :=
  eSt (zsub F (χ + 1)) (zsub F (χ + 19)) (G 1) N ∧
  (∃ o s, o < 8 ∧ s ≤ 8 ∧ F (χ + 34) 1 = nI o ∧ F (χ + 34) 2 = nI s ∧ G 0 2 = nI s ∧ ∀ k, k < s → P (χ + 35) ((o + k) % 8) ≠ none ∧ eSt (zsub F (eTau χ ((o + k) % 8) + 1)) (zsub F (eTau χ ((o + k) % 8) + 10)) (fun j => G 2 (462 * k + j)) N) ∧
  (∀ p, p < 2 → ((G 0 4 >>> (nI p &&& 31)) &&& 1 = 0 ↔ P (χ + 36) p = none) ∧ (P (χ + 36) p ≠ none → eSt (zsub F (χ + 195 + 17 * p + 1)) (zsub F (χ + 195 + 17 * p + 10)) (fun j => G 3 (462 * p + j)) N)) ∧
  (∃ L, F χ 8 = nI L ∧ eTx (F (χ + 40)) L G) ∧
  (F χ 9 = 0 ∧ G 0 7 = -9 ∧ G 0 8 = -9 ∨ F χ 9 ≠ 0 ∧ G 0 7 = F χ 9 ∧ G 0 8 = F χ 10)
/-- the class keeps what the relation speaks of -/
def eKeep (χ : Nat) (F F' : Nat → Nat → Int32) : Prop := (∀ k, k = 8 ∨ k = 9 ∨ k = 10 → F' χ k = F χ k) ∧ ∀ j, (1 ≤ j ∧ j ≤ 9) ∨ (19 ≤ j ∧ j ≤ 25) ∨ j = 34 ∨ j = 40 ∨ 59 ≤ j → F' (χ + j) = F (χ + j)
theorem eKeep.refl {χ : Nat} {F : Nat → Nat → Int32} : eKeep χ F F := ⟨fun _ _ => rfl, fun _ _ => rfl⟩
theorem eKeep.put {χ b n : Nat} {F W : Nat → Nat → Int32} (h : (10 ≤ b ∧ b + n ≤ 19) ∨ (26 ≤ b ∧ b + n ≤ 34) ∨ (37 ≤ b ∧ b + n ≤ 40) ∨ (41 ≤ b ∧ b + n ≤ 59)) : eKeep χ F (zput F (χ + b) n W) := by
  refine ⟨fun k hk => ?_, fun j hj => ?_⟩
  · rw [zput_ne (by omega)]
  · rw [zput_ne (by omega)]
theorem eKeep.trans {χ : Nat} {A B C : Nat → Nat → Int32} (h : eKeep χ A B) (g : eKeep χ B C) : eKeep χ A C := ⟨fun k hk => (g.1 k hk).trans (h.1 k hk), fun j hj => (g.2 j hj).trans (h.2 j hj)⟩
theorem eTx.q {T : Nat → Int32} {L : Nat} {G G' : Nat → Nat → Int32} (h : eTx T L G) (e6 : G' 0 6 = G 0 6) (e4 : G' 4 = G 4) : eTx T L G' := ⟨h.1, e6.trans h.2.1, fun i hi => by rw [e4]; exact h.2.2 i hi⟩
theorem eX.ask {N N' χ : Nat} {F F' : Nat → Nat → Int32} {P : Nat → Nat → Option Nat} {G G' : Nat → Nat → Int32} (h : eX N F P χ G) (hF : eKeep χ F F') (hG : eQ G G') (hN : N ≤ N') : eX N' F' P χ G' := by
  obtain ⟨h1, ⟨o, s, ho, hs, f1, f2, g2, hk⟩, hi, ⟨L, f8, hL⟩, hf⟩ := h
  obtain ⟨q1, q2, q3, q4, q0⟩ := hG
  refine ⟨h1.to (eBeq.of fun j a b => ?_) (eSeq.of fun j a => ?_) q1 hN, ⟨o, s, ho, hs, ?_, ?_, (q0 2 (by decide)).trans g2, fun k hks => ⟨(hk k hks).1, (hk k hks).2.to (eBeq.of fun j a b => ?_) (eSeq.of fun j a => ?_) (fun i _ => by rw [q2]) hN⟩⟩, fun p hp => ⟨by rw [q0 4 (by decide)]; exact (hi p hp).1, fun hn => ((hi p hp).2 hn).to (eBeq.of fun j a b => ?_) (eSeq.of fun j a => ?_) (fun i _ => by rw [q3]) hN⟩, ⟨L, (hF.1 8 (by omega)).trans f8, ?_⟩, ?_⟩
  · show F' (χ + 1 + j) = F (χ + 1 + j)
    rw [Nat.add_assoc]
    exact hF.2 _ (by omega)
  · show F' (χ + 19 + j) = F (χ + 19 + j)
    rw [Nat.add_assoc]
    exact hF.2 _ (by omega)
  · rw [hF.2 34 (by omega)]
    exact f1
  · rw [hF.2 34 (by omega)]
    exact f2
  · show F' (eTau χ ((o + k) % 8) + 1 + j) = F (eTau χ ((o + k) % 8) + 1 + j)
    unfold eTau
    rw [show χ + 59 + 17 * ((o + k) % 8) + 1 + j = χ + (59 + 17 * ((o + k) % 8) + 1 + j) by omega]
    exact hF.2 _ (by omega)
  · show F' (eTau χ ((o + k) % 8) + 10 + j) = F (eTau χ ((o + k) % 8) + 10 + j)
    unfold eTau
    rw [show χ + 59 + 17 * ((o + k) % 8) + 10 + j = χ + (59 + 17 * ((o + k) % 8) + 10 + j) by omega]
    exact hF.2 _ (by omega)
  · show F' (χ + 195 + 17 * p + 1 + j) = F (χ + 195 + 17 * p + 1 + j)
    rw [show χ + 195 + 17 * p + 1 + j = χ + (195 + 17 * p + 1 + j) by omega]
    exact hF.2 _ (by omega)
  · show F' (χ + 195 + 17 * p + 10 + j) = F (χ + 195 + 17 * p + 10 + j)
    rw [show χ + 195 + 17 * p + 10 + j = χ + (195 + 17 * p + 10 + j) by omega]
    exact hF.2 _ (by omega)
  · rw [hF.2 40 (by omega)]
    exact hL.q (q0 6 (by decide)) q4
  · rw [hF.1 9 (by omega), hF.1 10 (by omega), q0 7 (by decide), q0 8 (by decide)]
    exact hf
/-- the model has remembered its row -/
def mPsh (G G' : Nat → Nat → Int32) (s : Nat) : Prop := G' 0 2 = nI (if s < 8 then s + 1 else 8) ∧ ∀ k j, j < 462 → k < (if s < 8 then s + 1 else 8) → G' 2 (462 * k + j) = if s < 8 then (if k = s then G 1 j else G 2 (462 * k + j)) else if k = 7 then G 1 j else G 2 (462 * (k + 1) + j)
theorem mPsh.rem {G : Nat → Nat → Int32} {s : Nat} (hs : s ≤ 8) : mPsh G (mRemember G s) s := by
  unfold mRemember
  by_cases c : s < 8
  · rw [if_neg (by omega)]
    unfold mPsh mRem
    rw [if_pos c]
    refine ⟨by simp (disch := omega) only [zup_ne, zup_eq, upd_ne, upd_eq], fun k j hj hk => ?_⟩
    rw [if_pos c]
    simp (disch := omega) only [zup_ne, zup_eq, upd_ne, upd_eq]
    unfold mPastIn
    by_cases e : k = s
    · subst e
      rw [if_pos (by omega), if_pos rfl]
      exact congrArg (G 1) (by omega)
    · rw [if_neg (by omega), if_neg e]
  · have e8 : s = 8 := by omega
    subst e8
    unfold mPsh mRem mShift
    rw [if_pos rfl, if_neg (by decide)]
    refine ⟨by simp (disch := omega) only [zup_ne, zup_eq, upd_ne, upd_eq], fun k j hj hk => ?_⟩
    rw [if_neg (by decide)]
    simp (disch := omega) only [zup_ne, zup_eq, upd_ne, upd_eq]
    unfold mPastIn cShift
    by_cases e : k = 7
    · subst e
      rw [if_pos (by omega), if_pos rfl]
      exact congrArg (G 1) (by omega)
    · rw [if_neg (by omega), if_neg e, if_pos (by omega), show 462 * k + j + 462 = 462 * (k + 1) + j by omega]
theorem mPsh.done {V : Nat → Nat → Int32} {G : Nat → Nat → Int32} {s : Nat} (hs : s ≤ 8) (h10 : ∀ i, i < 462 → V 10 i = G 1 i) (h2 : V 2 = G 2) : mPsh G (mDone V s) s := by
  have h := mPsh.rem (G := mSwap V) hs
  have e2 : mDone V s 2 = mRemember (mSwap V) s 2 := mRest_j (by decide)
  have e0 : mDone V s 0 = mRemember (mSwap V) s 0 := mRest_j (by decide)
  have s1 : ∀ j, j < 462 → mSwap V 1 j = G 1 j := fun j hj => by
    rw [← h10 j hj]
    unfold mSwap
    simp (disch := omega) only [zup_ne, zup_eq, upd_ne, upd_eq]
    first | exact cCopy_in hj | rfl
  have s2 : mSwap V 2 = G 2 := by
    rw [← h2]
    unfold mSwap
    simp (disch := omega) only [zup_ne, zup_eq, upd_ne, upd_eq]
  refine ⟨by rw [e0]; exact h.1, fun k j hj hk => ?_⟩
  rw [e2, h.2 k j hj hk, s1 j hj, s2]
theorem mDone_1 {V : Nat → Nat → Int32} {s i : Nat} (hi : i < 462) : mDone V s 1 i = V 1 i := by
  unfold mDone
  rw [mRest_at hi, mRemember_1 (by decide) (by decide)]
  unfold mSwap
  simp (disch := omega) only [zup_ne, zup_eq, upd_ne, upd_eq]
  first | exact cCopy_in hi | rfl
theorem mDone_j {V : Nat → Nat → Int32} {s j : Nat} (h0 : j ≠ 0) (h1 : j ≠ 1) (h2 : j ≠ 2) (h10 : j ≠ 10) : mDone V s j = V j := by
  unfold mDone
  rw [mRest_j h1, mRemember_1 h0 h2]
  unfold mSwap
  simp (disch := omega) only [zup_ne, zup_eq, upd_ne, upd_eq]
