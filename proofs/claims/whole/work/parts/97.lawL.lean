/-! ===== 97.lawL: the law's case of doubles, and its loop ===== -/
section LLOOP
variable {nm : String} {X : ZX} {Q : State → Prop} {ρ : Nat → Nat} {sh : zSh} {F : Nat → Nat → Int32} {P : Nat → Nat → Option Nat} {k n N L i : Nat} {xs : Nat → Int32}
set_option maxRecDepth 20000 in
theorem lwc_share (hX : lwX X L xs) (hi : i + 4 ≤ L) (hL : LI N sh F P 1) (hN : N ≤ 100000000) (h0 : sh 0 = none) (hk : k + 17 ≤ 600000) (hn : n + 497 ≤ 7302250) (next : lwNext nm X Q N i k n) : AW (lwM nm) X Q 611 (lwL i) [] ρ sh F P k n := by
  obtain ⟨a1, a42⟩ := hL.at1
  obtain ⟨f, hf, m1, m2⟩ := k_share hL hN
  refine aw_aload_1 dL_law_611 ?_
  refine aw_run (zRun_V m1 gL_law_X6_share q_X6_share rfl (show (2 : Nat) < 1398 by decide) (T := TX6) (N := 11) (ci := 6) rfl a1 rfl rfl (Nat.le_of_ble_eq_true rfl) dL_law_612 ⟨(show k + 0 ≤ 600000 by omega), (show n + 0 ≤ 7302250 by omega)⟩) ?_
  intro ok e el H locs lsA rr hS hl
  have hd := fF2d_nn hf
  generalize hx : FP.f2d f = x at hd
  have nn : vf_n64 (FP.f2d f) := by rw [hx]; exact vfn64 hd
  refine lv_f2d ok.1 ok.2.1 dL_law_615 nn ?_
  rw [hx]
  refine lv_dstore ok.1 ok.2.1 (lv' := [(4, .double x), (0, .ref (ρ 0)), (1, .ref (ρ 1)), (2, .ref (ρ 42)), (3, .int (nI i))]) dL_law_616 (zL_has hl) (Nat.le_of_ble_eq_true rfl) rfl (fun ls1 h1 => ?_)
  refine lv_aload_n ok.1 ok.2.1 dL_law_618 rfl (h1.2.2 (2, .ref (ρ 42)) (by simp)) ?_
  obtain ⟨a, hr⟩ := (zRun_V (M := lwM nm) (X := X) (ρ := ρ) (k := k) (n := n) (st := [.ref 42]) (rest := []) m2 gL_law_X7_share q_X7_share rfl (show (2 : Nat) < 1398 by decide) (T := TX7) (N := 29) (ci := 7) rfl a42 rfl rfl (Nat.le_of_ble_eq_true rfl) dL_law_619 ⟨(show k + 0 ≤ 600000 by omega), (show n + 0 ≤ 7302250 by omega)⟩) ok H locs ls1 h1.1 rr
  refine zcall hr hS (fun i hi => rr.inA hi) (fun ρ' H1 locs1 he hR hS1 => ?_)
  have hρ := he.same
  subst hρ
  refine lv_f2d (x := f) (rest := []) ok.1 ok.2.1 dL_law_622 nn ?_
  rw [hx]
  refine lv_dstore ok.1 ok.2.1 (lv' := [(6, .double x), (4, .double x), (0, .ref (ρ' 0)), (1, .ref (ρ' 1)), (2, .ref (ρ' 42)), (3, .int (nI i))]) dL_law_623 h1 (Nat.le_of_ble_eq_true rfl) rfl (fun ls2 h2 => ?_)
  refine lv_dload ok.1 ok.2.1 dL_law_625 (h2.2.2 (4, .double x) (by simp)) ?_
  refine lv_dload ok.1 ok.2.1 dL_law_627 (h2.2.2 (6, .double x) (by simp)) ?_
  refine lv_dcmp ok.1 ok.2.1 dL_law_629 ?_
  rw [fCmp_eq hd]
  refine lv_if_eq ok.1 ok.2.1 (tgt := 651) dL_law_630 (by decide) (fun _ => ?_) (fun h => absurd rfl h)
  refine lv_goto ok.1 ok.2.1 (tgt := 799) dL_law_651 (by decide) ?_
  refine next ρ' sh F P 0 0 (Nat.zero_le _) (Nat.zero_le _) (hL.more (by omega)) h0 ok e el H1 locs1 ls2 hR hS1 ⟨h2.1, h2.2.1, fun j v hj => ?_⟩
  have hj8 : j < 8 := (List.getElem?_eq_some_iff.mp hj).1
  have hjj : j = 0 ∨ j = 1 ∨ j = 2 ∨ j = 3 ∨ j = 4 ∨ j = 5 ∨ j = 6 ∨ j = 7 := by omega
  rcases hjj with rfl | rfl | rfl | rfl | rfl | rfl | rfl | rfl
  · cases hj
    exact ⟨h2.2.2 (0, .ref (ρ' 0)) (by simp), rfl⟩
  · cases hj
    exact ⟨h2.2.2 (1, .ref (ρ' 1)) (by simp), rfl⟩
  · cases hj
    exact ⟨h2.2.2 (2, .ref (ρ' 42)) (by simp), rfl⟩
  · cases hj
    exact ⟨h2.2.2 (3, .int (nI i)) (by simp), rfl⟩
  · cases hj
  · cases hj
  · cases hj
  · cases hj
set_option maxRecDepth 20000 in
theorem lw_loop (hX : lwX X L xs) (exit : ∀ (ρ : Nat → Nat) (sh : zSh) (F : Nat → Nat → Int32) (P : Nat → Nat → Option Nat) (k n i : Nat), k ≤ 600000 → n ≤ 7302250 → AW (lwM nm) X Q 805 (lwL i) [] ρ sh F P k n) :
    ∀ m i k n N sh F P ρ, L < i + 4 * m + 4 → i ≤ 4096 → k + 17 * m ≤ 500000 → n + 497 * m ≤ 7000000 → N + 60000 * m ≤ 100000000 → LI N sh F P 1 → sh 0 = none → AW (lwM nm) X Q 18 (lwL i) [] ρ sh F P k n := by
  intro m
  induction m with
  | zero =>
    intro i k n N sh F P ρ hm hi4 hk hn hN hL h0
    have hL2 := hX.2.2.2
    refine aw_iload_3 dL_law_18 ?_
    refine aw_aload_0 dL_law_19 ?_
    refine aw_slen hX h0 dL_law_20 ?_
    refine aw_iconst (v := 4) dL_law_21 (by decide) ?_
    refine aw_isub dL_law_22 ?_
    refine aw_icmp_gt (tgt := 805) dL_law_23 (by decide) (fun _ => exit _ _ _ _ _ _ _ (by omega) (by omega)) (fun c => absurd ?_ c)
    rcases Nat.lt_or_ge L 4 with q | q
    · exact Int32.lt_of_lt_of_le (pk_sneg (b := 4) (by decide) q) (nI_pos' (by omega))
    · rw [show nI L - 4 = nI (L - 4) from pk_sub (b := 4) q]
      exact nI_lt (by omega) (by omega)
  | succ m ih =>
    intro i k n N sh F P ρ hm hi4 hk hn hN hL h0
    have hL2 := hX.2.2.2
    refine aw_iload_3 dL_law_18 ?_
    refine aw_aload_0 dL_law_19 ?_
    refine aw_slen hX h0 dL_law_20 ?_
    refine aw_iconst (v := 4) dL_law_21 (by decide) ?_
    refine aw_isub dL_law_22 ?_
    refine aw_icmp_gt (tgt := 805) dL_law_23 (by decide) (fun _ => exit _ _ _ _ _ _ _ (by omega) (by omega)) (fun c => ?_)
    have hi : i + 4 ≤ L := by
      rcases Nat.lt_or_ge L 4 with q | q
      · exact absurd (Int32.lt_of_lt_of_le (pk_sneg (b := 4) (by decide) q) (nI_pos' (by omega))) c
      · rcases Nat.lt_or_ge L (i + 4) with q2 | q2
        · rw [show nI L - 4 = nI (L - 4) from pk_sub (b := 4) q] at c
          exact absurd (nI_lt (by omega) (by omega)) c
        · exact q2
    refine aw_aload_0 dL_law_26 ?_
    refine aw_iload_3 dL_law_27 ?_
    refine aw_scr hX h0 (by omega) dL_law_28 ?_
    refine aw_bipush (v := 31) dL_law_29 (by decide) ?_
    refine aw_iand dL_law_31 ?_
    have hk1 : k + 17 ≤ 600000 := by omega
    have hn1 : n + 497 ≤ 7302250 := by omega
    have next : lwNext nm X Q N i k n := fun ρ2 sh2 F2 P2 mc ms b1 b2 hL3 h02 => by
      refine aw_iinc_3 (v := 4) (by decide) dL_law_799 ?_
      refine aw_goto (tgt := 18) dL_law_802 (by decide) ?_
      rw [show nI i + 4 = nI (i + 4) from nI_add i 4]
      exact ih (i + 4) (k + mc) (n + ms) (N + 60000) sh2 F2 P2 ρ2 (by omega) (by omega) (by omega) (by omega) (by omega) hL3 h02
    obtain ⟨j, hj, e⟩ := pk_andE (xs i) (m := 31) 5 (by decide)
    rw [e]
    have hjj : j = 0 ∨ j = 1 ∨ j = 2 ∨ j = 3 ∨ j = 4 ∨ j = 5 ∨ j = 6 ∨ j = 7 ∨ j = 8 ∨ j = 9 ∨ j = 10 ∨ j = 11 ∨ j = 12 ∨ j = 13 ∨ j = 14 ∨ j = 15 ∨ j = 16 ∨ j = 17 ∨ j = 18 ∨ j = 19 ∨ j = 20 ∨ j = 21 ∨ j = 22 ∨ 22 < j := by omega
    rcases hjj with rfl | rfl | rfl | rfl | rfl | rfl | rfl | rfl | rfl | rfl | rfl | rfl | rfl | rfl | rfl | rfl | rfl | rfl | rfl | rfl | rfl | rfl | rfl | hj
    · refine aw_tableIn (off := 108) (tgt := 140) dL_law_32 (by decide) (by decide) (by decide) (by decide) ?_
      exact lwc_recipe hX hi hL h0 hk1 hn1 next
    · refine aw_tableIn (off := 121) (tgt := 153) dL_law_32 (by decide) (by decide) (by decide) (by decide) ?_
      exact lwc_forget hX hi hL h0 hk1 hn1 next
    · refine aw_tableIn (off := 144) (tgt := 176) dL_law_32 (by decide) (by decide) (by decide) (by decide) ?_
      exact lwc_allow hX hi hL h0 hk1 hn1 next
    · refine aw_tableIn (off := 177) (tgt := 209) dL_law_32 (by decide) (by decide) (by decide) (by decide) ?_
      exact lwc_forbid hX hi hL h0 hk1 hn1 next
    · refine aw_tableIn (off := 210) (tgt := 242) dL_law_32 (by decide) (by decide) (by decide) (by decide) ?_
      exact lwc_vessel hX hi hL h0 hk1 hn1 next
    · refine aw_tableIn (off := 243) (tgt := 275) dL_law_32 (by decide) (by decide) (by decide) (by decide) ?_
      exact lwc_bring hX hi hL h0 hk1 hn1 next
    · refine aw_tableIn (off := 276) (tgt := 308) dL_law_32 (by decide) (by decide) (by decide) (by decide) ?_
      exact lwc_wish hX hi hL h0 hk1 hn1 next
    · refine aw_tableIn (off := 309) (tgt := 341) dL_law_32 (by decide) (by decide) (by decide) (by decide) ?_
      exact lwc_make hX hi hL h0 hk1 hn1 next
    · refine aw_tableIn (off := 342) (tgt := 374) dL_law_32 (by decide) (by decide) (by decide) (by decide) ?_
      exact lwc_undo hX hi hL h0 hk1 hn1 next
    · refine aw_tableIn (off := 355) (tgt := 387) dL_law_32 (by decide) (by decide) (by decide) (by decide) ?_
      exact lwc_write hX hi hL h0 hk1 hn1 next
    · refine aw_tableIn (off := 378) (tgt := 410) dL_law_32 (by decide) (by decide) (by decide) (by decide) ?_
      exact lwc_wipe hX hi hL h0 hk1 hn1 next
    · refine aw_tableIn (off := 391) (tgt := 423) dL_law_32 (by decide) (by decide) (by decide) (by decide) ?_
      exact lwc_fault hX hi hL h0 hk1 hn1 next
    · refine aw_tableIn (off := 414) (tgt := 446) dL_law_32 (by decide) (by decide) (by decide) (by decide) ?_
      exact lwc_told hX hi hL h0 hk1 hn1 next
    · refine aw_tableIn (off := 437) (tgt := 469) dL_law_32 (by decide) (by decide) (by decide) (by decide) ?_
      exact lwc_thing hX hi hL h0 hk1 hn1 next
    · refine aw_tableIn (off := 470) (tgt := 502) dL_law_32 (by decide) (by decide) (by decide) (by decide) ?_
      exact lwc_ingredient hX hi hL h0 hk1 hn1 next
    · refine aw_tableIn (off := 513) (tgt := 545) dL_law_32 (by decide) (by decide) (by decide) (by decide) ?_
      exact lwc_substitute hX hi hL h0 hk1 hn1 next
    · refine aw_tableIn (off := 546) (tgt := 578) dL_law_32 (by decide) (by decide) (by decide) (by decide) ?_
      exact lwc_isNeeded hX hi hL h0 hk1 hn1 next
    · refine aw_tableIn (off := 579) (tgt := 611) dL_law_32 (by decide) (by decide) (by decide) (by decide) ?_
      exact lwc_share hX hi hL (by omega) h0 hk1 hn1 next
    · refine aw_tableIn (off := 622) (tgt := 654) dL_law_32 (by decide) (by decide) (by decide) (by decide) ?_
      exact lwc_gather hX hi hL h0 hk1 hn1 next
    · refine aw_tableIn (off := 665) (tgt := 697) dL_law_32 (by decide) (by decide) (by decide) (by decide) ?_
      exact lwc_canHave hX hi hL h0 hk1 hn1 next
    · refine aw_tableIn (off := 688) (tgt := 720) dL_law_32 (by decide) (by decide) (by decide) (by decide) ?_
      exact lwc_bestGift hX hi hL h0 hk1 hn1 next
    · refine aw_tableIn (off := 721) (tgt := 753) dL_law_32 (by decide) (by decide) (by decide) (by decide) ?_
      exact lwc_keep hX hi hL h0 hk1 hn1 next
    · refine aw_tableIn (off := 744) (tgt := 776) dL_law_32 (by decide) (by decide) (by decide) (by decide) ?_
      exact lwc_back hX hi hL h0 hk1 hn1 next
    · refine aw_tableOut (tgt := 799) dL_law_32 (Or.inr (by rw [nI_toInt (by omega)]; omega)) (by decide) ?_
      exact next ρ sh F P 0 0 (Nat.zero_le _) (Nat.zero_le _) (hL.more (by omega)) h0
end LLOOP
