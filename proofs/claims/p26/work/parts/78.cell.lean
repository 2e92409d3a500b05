/-! ===== 78.cell: the script, and the law's method that reads it ===== -/
/-- the script, at the id 0 that stands for no cell of ours -/
def lwX (X : ZX) (L : Nat) (xs : Nat → Int32) : Prop := va_X (zxr X 0) L xs (zxs X) (zxs X).heap ∧ zxr X 0 < (zxs X).heap.size ∧ (∀ i, zxh X i ≠ none → zxr X i ≠ zxr X 0) ∧ L ≤ 260
theorem lwX.nA {X : ZX} {L : Nat} {xs : Nat → Int32} (h : lwX X L xs) : ¬ zAx X (zxr X 0) := by
  rintro (⟨i, hi, e⟩ | hq)
  · exact h.2.2.1 i hi e
  · exact absurd h.2.1 (Nat.not_lt.mpr hq)
theorem lwX.r0 {X : ZX} {ρ : Nat → Nat} {sh : zSh} (e : zExt (zxr X) (zxh X) ρ sh) (h0 : sh 0 = none) : ρ 0 = zxr X 0 := by
  by_cases c : ρ 0 = zxr X 0
  · exact c
  · exact absurd h0 (e.1 0 c).2
section LROWS
variable {M : ZM} {X : ZX} {Q : State → Prop} {pc : Nat} {ls : List (Option Value)} {st : List Value} {ρ : Nat → Nat} {sh : zSh} {F : Nat → Nat → Int32} {P : Nat → Nat → Option Nat} {k n : Nat} {L : Nat} {xs : Nat → Int32}
theorem aw_scr {i : Nat} (hX : lwX X L xs) (h0 : sh 0 = none) (hi : i < L) (hd : decode M.1 pc = .ok (.iaload, 1)) (kk : AW M X Q (pc + 1) ls (.int (xs i) :: st) ρ sh F P k n) : AW M X Q pc ls (.int (nI i) :: .ref 0 :: st) ρ sh F P k n := by
  intro ok e el H locs lsA rr hS hl
  have e0 := lwX.r0 e h0
  have hL := hX.2.2.2
  have hin : vp_in (nI i) L := zin (by omega) (nI_pos (by omega)) (nI_ge hi (by omega))
  have key := va_sld (rest := st.map (zV ρ)) (ls := lsA) (l := zxl X) (e := zxe X) (R := zxR X) (m := zxm X) (args := zxa X) (below := zxb X) (meth := zxt X) (cells := k) (slots := n) (Q := Q) ok.1 ok.2.1 hX.1 hX.2.1 hX.nA hS hin hd (by
    have h := kk ok e el H locs lsA rr hS hl
    rw [nI_cl (by omega)]
    exact h)
  rw [← e0] at key
  exact key
theorem aw_slen (hX : lwX X L xs) (h0 : sh 0 = none) (hd : decode M.1 pc = .ok (.arraylength, 1)) (kk : AW M X Q (pc + 1) ls (.int (nI L) :: st) ρ sh F P k n) : AW M X Q pc ls (.ref 0 :: st) ρ sh F P k n := by
  intro ok e el H locs lsA rr hS hl
  have e0 := lwX.r0 e h0
  have key := va_slen (rest := st.map (zV ρ)) (ls := lsA) (l := zxl X) (e := zxe X) (R := zxR X) (m := zxm X) (args := zxa X) (below := zxb X) (meth := zxt X) (cells := k) (slots := n) (Q := Q) ok.1 ok.2.1 hX.1 hX.2.1 hX.nA hS hd (kk ok e el H locs lsA rr hS hl)
  rw [← e0] at key
  exact key
end LROWS
def zPreS (D : va_G) (cs : ClassId × ClassId × ClassId) (ρ : Nat → Nat) (sh : zSh) (F : Nat → Nat → Int32) (P : Nat → Nat → Option Nat) (sz L : Nat) (xs : Nat → Int32) : State → Prop :=
  fun U => zPre D cs ρ sh F P sz U ∧ va_X (ρ 0) L xs U U.heap ∧ ρ 0 < U.heap.size ∧ ∀ i, sh i ≠ none → ρ i ≠ ρ 0
theorem zPreS_blind {av : List Value} {D : va_G} {cs : ClassId × ClassId × ClassId} {ρ : Nat → Nat} {sh : zSh} {F : Nat → Nat → Int32} {P : Nat → Nat → Option Nat} {sz L : Nat} {xs : Nat → Int32} : FrameBlind (va_Pc av (zPreS D cs ρ sh F P sz L xs)) :=
  fun a U g mk q => ⟨q.1, ⟨q.2.1.1, q.2.1.2.1, zK.same (U := U.calling g mk a) q.2.1.2.2 rfl⟩, q.2.2.1, q.2.2.2⟩
def zMetS (y : MethodName) (ws : List Cond) (h : Nat) (as : List Value) (sh : zSh) (F : Nat → Nat → Int32) (P : Nat → Nat → Option Nat) (L : Nat) (xs : Nat → Int32) (r : Option Value) : Prop :=
  ∀ (l : Launch) (D : va_G) (cs : ClassId × ClassId × ClassId) (ρ : Nat → Nat) (sz : Nat), Met l y ws (zrm h 0 0) (va_Pc (as.map (zV ρ)) (zPreS D cs ρ sh F P sz L xs)) (zPost D cs ρ sh sz r sh F P) 0 0 (zA ρ sh sz)
theorem zMetS.of {y : MethodName} {ws ws' : List Cond} {cc : ByteArray} {maxL h : Nat} {ret : Option FieldType} {as : List Value} {sh : zSh} {F : Nat → Nat → Int32} {P : Nat → Nat → Option Nat} {L : Nat} {xs : Nat → Int32} {r : Option Value} (hL : L ≤ 260)
    (hy : plainName y.cls = true) (hw : ws = Cond.code y cc maxL ret :: ws') (hlen : as.length ≤ maxL) (hc1 : ∀ v ∈ as, v.category = 1)
    (body : ∀ (X : ZX) (ρ : Nat → Nat), lwX X L xs → AW (cc, y.cls, ws, h, 0, 0, ret, maxL, y.name) X (zMQ (cc, y.cls, ws, h, 0, 0, ret, maxL, y.name) X r sh F P) 0 (as.map some ++ List.replicate (maxL - as.length) none) [] ρ sh F P 0 0) : zMetS y ws h as sh F P L xs r := by
  intro l D cs ρ sz
  refine Met.ofW (cc := cc) (maxL := maxL) (ret := ret) hy hw ?_
  intro p e s m args below meth c s₁ B hml hv
  obtain ⟨rfl, ⟨hsz, hR, hK⟩, hx, hx2, hx3⟩ := hv
  subst hsz
  have hc1' : ∀ v ∈ as.map (zV ρ), v.category = 1 := by
    intro v hv
    obtain ⟨u, hu, rfl⟩ := List.mem_map.mp hv
    rw [zV_cat]
    exact hc1 u hu
  have hl := lv_entry (as.map (zV ρ)) (n := maxL) (by rw [zlg_len _ hc1', List.length_map]; exact hlen)
  rw [lg_entry_eq]
  generalize (lg_sl (as.map (zV ρ)) ++ List.replicate (maxL - (lg_sl (as.map (zV ρ))).length) Slot.unset).toArray = lsA at hl ⊢
  have key := body (p, l, e, (headSpec ws (zrm h 0 0)).room, s, m, (as.map (zV ρ)).toArray, below, meth, c, D, cs, ρ, sh) ρ ⟨hx, hx2, hx3, hL⟩
    ⟨B.exec, B.bytes, hml, findClass_of_methodNamed B.named, atoms_spec (ws := ws) B.pre, B.notSynchronized, B.returns, rfl, hK, (name_of_methodNamed B.named B.method).1⟩ zExt.refl
    (by show (as.map some ++ List.replicate (maxL - as.length) none).length = maxL; simp; omega) s.heap [] lsA (hR.weaken (fun i hi _ => Or.inl ⟨i, hi, rfl⟩)) va_S.rf
    ⟨by rw [hl.1]; simp; omega, hl.2.1, fun i v hv => by
      have hi : as[i]? = some v := by
        by_cases h2 : i < as.length
        · rw [List.getElem?_append_left (by simpa using h2), List.getElem?_map] at hv
          cases hx : as[i]? with
          | none => rw [hx] at hv; cases hv
          | some u => rw [hx] at hv; cases hv; rfl
        · rw [List.getElem?_append_right (by simp; omega)] at hv
          have := List.eq_of_mem_replicate (List.mem_of_getElem? hv)
          cases this
      refine ⟨?_, hc1 v (List.mem_of_getElem? hi)⟩
      have := hl.2.2 _ (zargs_mem (as.map (zV ρ)) 0 hc1' i (zV ρ v) (by rw [List.getElem?_map, hi]; rfl))
      simpa using this⟩
  exact key
def pCl (L : Nat) (xs : Nat → Int32) (i : Nat) : Int32 := if nI L ≤ nI i then 747796405 * (nI i + 1) else xs i
abbrev mL_cell : ZM := (cL_cell, RL, wsL_cell, 1, 0, 0, (some .int), 2, yL_cell.name)
theorem c_L_cell {sh : zSh} {F : Nat → Nat → Int32} {P : Nat → Nat → Option Nat} {L i : Nat} {xs : Nat → Int32} (hL : L ≤ 260) (h0 : sh 0 = none) (hi : i < 2 ^ 31) : zMetS yL_cell wsL_cell 1 [.ref 0, .int (nI i)] sh F P L xs (some (.int (pCl L xs i))) := by
  refine zMetS.of hL (by decide) rfl (Nat.le_of_ble_eq_true rfl) (by simp [Value.category]) ?_
  intro X ρ hX
  show AW mL_cell X (zMQ mL_cell X (some (.int (pCl L xs i))) sh F P) 0 [some (.ref 0), some (.int (nI i))] [] ρ sh F P 0 0
  refine aw_iload_1 dL_cell_0 ?_
  refine aw_aload_0 dL_cell_1 ?_
  refine aw_slen hX h0 dL_cell_2 ?_
  refine aw_icmp_ge (tgt := 12) dL_cell_3 (by decide) (fun c3 => ?_) (fun c3 => ?_)
  · refine aw_ldc (v := 747796405) (by decide +kernel : Cond.constant RL 7 747796405 ∈ wsL_cell) dL_cell_12 ?_
    refine aw_iload_1 dL_cell_14 ?_
    refine aw_iconst (v := 1) dL_cell_15 (by decide) ?_
    refine aw_iadd dL_cell_16 ?_
    refine aw_imul dL_cell_17 ?_
    exact aw_ireturn rfl dL_cell_18 ⟨Nat.zero_le _, Nat.zero_le _⟩ (by unfold pCl; rw [if_pos c3]) rfl rfl rfl
  · have hlt : i < L := by
      rcases Nat.lt_or_ge i L with h | h
      · exact h
      · exact absurd (nI_le h hi) c3
    refine aw_aload_0 dL_cell_6 ?_
    refine aw_iload_1 dL_cell_7 ?_
    refine aw_scr hX h0 hlt dL_cell_8 ?_
    refine aw_goto (tgt := 18) dL_cell_9 (by decide) ?_
    exact aw_ireturn rfl dL_cell_18 ⟨Nat.zero_le _, Nat.zero_le _⟩ (by unfold pCl; rw [if_neg c3]) rfl rfl rfl
section LCELL
variable {M : ZM} {X : ZX} {Q : State → Prop} {pc : Nat} {ls : List (Option Value)} {st : List Value} {ρ : Nat → Nat} {sh : zSh} {F : Nat → Nat → Int32} {P : Nat → Nat → Option Nat} {k n : Nat} {L i : Nat} {xs : Nat → Int32}
theorem aw_cell (hX : lwX X L xs) (h0 : sh 0 = none) (hi : i < 2 ^ 31) (hG : GoodIn M.2.2.1 (va_wsS M.2.1 96 yL_cell wsL_cell)) (hh : 1 < M.2.2.2.1) (hrest : (st.map fun v => v.category).sum ≤ 8) (hd : decode M.1 pc = .ok (.invokestatic 96, 3)) (hk : k ≤ M.2.2.2.2.1 ∧ n ≤ M.2.2.2.2.2.1)
    (kk : AW M X Q (pc + 3) ls (.int (pCl L xs i) :: st) ρ sh F P k n) : AW M X Q pc ls (.int (nI i) :: .ref 0 :: st) ρ sh F P k n := by
  intro ok e el H locs lsA rr hS hl
  have e0 := lwX.r0 e h0
  obtain ⟨⟨bytes, maxL, w', hw, hmL⟩, hdy⟩ := q_L_cell
  have cw : CallB (zxR X) (zxs X) (zxa X) M.2.1 96 yL_cell bytes maxL (some .int) wsL_cell (zrm 1 0 0) 0 0 2 ∧ (Cond.static yL_cell).before (zxa X) (zxs X) = true := va_cwS 2 ok.2.2.2.2.1 hG hw rfl rfl hdy (by rw [ok.2.2.2.2.2.2.2.1]; exact zroom hh hmL)
  have hr := va_runS (e := zxe X) (below := zxb X) (meth := zxt X) (As := [Value.ref 0, .int (nI i)].map (zV ρ)) (rest := st.map (zV ρ)) (g := F0 (zxm X) pc lsA ((.int (nI i) :: .ref 0 :: st).map (zV ρ))) ⟨ok.1, ok.2.1, ok.2.2.1, ok.2.2.2.1, ok.2.2.2.2.1⟩ (c_L_cell (F := F) (P := P) (xs := xs) hX.2.2.2 h0 hi (zxl X) (zxD X) (zxC X) ρ H.size) cw
    ⟨zPreS_blind, fun U hU hW => ⟨rfl, ⟨by rw [hU], by rw [hU]; exact rr.weaken (fun _ _ _ => trivial), ok.2.2.2.2.2.2.2.2.1.warm hW⟩, by
      rw [hU, e0]
      exact (hX.1.kept (hS.2.1 _ hX.2.1 hX.nA)).moved hW.alike, by rw [hU, e0]; exact Nat.lt_of_lt_of_le hX.2.1 hS.1, fun j hj h => hX.nA (by rw [← e0, ← h]; exact rr.inA hj)⟩⟩ (H := H) (locs := locs) (cells := k) (slots := n) rfl rfl (hl.1.trans el) rfl (lv_room (by rw [zcat]; exact hrest)) hd (by rw [ok.2.2.2.2.2.2.2.1]; exact hk)
  refine zcall hr hS (fun i hi => rr.inA hi) (fun ρ' H1 locs1 he hR hS1 => ?_)
  have hρ := he.same
  subst hρ
  exact kk ok e el H1 locs1 lsA hR hS1 hl
end LCELL
