/-! ===== 95.lawR: the law's own rows ===== -/
abbrev lwM (nm : String) : ZM := (cL_law, RL, lw_tbl, 1398, 600000, 7302250, some .boolean, 8, nm)
/-- the script, at the id 0 that stands for no cell of ours -/
def lwX (X : ZX) (L : Nat) (xs : Nat → Int32) : Prop := va_X (zxr X 0) L xs (zxs X) (zxs X).heap ∧ zxr X 0 < (zxs X).heap.size ∧ (∀ i, zxh X i = none) ∧ L ≤ 2048
theorem lwX.nA {X : ZX} {L : Nat} {xs : Nat → Int32} (h : lwX X L xs) : ¬ zAx X (zxr X 0) := by
  rintro (⟨i, hi, -⟩ | hq)
  · exact hi (h.2.2.1 i)
  · exact absurd h.2.1 (Nat.not_lt.mpr hq)
theorem lwX.r0 {X : ZX} {L : Nat} {xs : Nat → Int32} {ρ : Nat → Nat} {sh : zSh} (e : zExt (zxr X) (zxh X) ρ sh) (h0 : sh 0 = none) : ρ 0 = zxr X 0 := by
  by_cases c : ρ 0 = zxr X 0
  · exact c
  · exact absurd h0 (e.1 0 c).2
section LROWS
variable {M : ZM} {X : ZX} {Q : State → Prop} {pc : Nat} {ls : List (Option Value)} {st : List Value} {ρ : Nat → Nat} {sh : zSh} {F : Nat → Nat → Int32} {P : Nat → Nat → Option Nat} {k n : Nat} {L : Nat} {xs : Nat → Int32}
theorem aw_scr {i : Nat} (hX : lwX X L xs) (h0 : sh 0 = none) (hi : i < L) (hd : decode M.1 pc = .ok (.iaload, 1)) (kk : AW M X Q (pc + 1) ls (.int (xs i) :: st) ρ sh F P k n) : AW M X Q pc ls (.int (nI i) :: .ref 0 :: st) ρ sh F P k n := by
  intro ok e el H locs lsA rr hS hl
  have e0 := lwX.r0 (L := L) (xs := xs) e h0
  have hL := hX.2.2.2
  have hin : vp_in (nI i) L := nI_in hi (by omega)
  have key := va_sld (rest := st.map (zV ρ)) (ls := lsA) (l := zxl X) (e := zxe X) (R := zxR X) (m := zxm X) (args := zxa X) (below := zxb X) (meth := zxt X) (cells := k) (slots := n) (Q := Q) ok.1 ok.2.1 hX.1 hX.2.1 hX.nA hS hin hd (by
    have h := kk ok e el H locs lsA rr hS hl
    rw [nI_clamp (by omega)]
    exact h)
  rw [← e0] at key
  exact key
theorem aw_slen (hX : lwX X L xs) (h0 : sh 0 = none) (hd : decode M.1 pc = .ok (.arraylength, 1)) (kk : AW M X Q (pc + 1) ls (.int (nI L) :: st) ρ sh F P k n) : AW M X Q pc ls (.ref 0 :: st) ρ sh F P k n := by
  intro ok e el H locs lsA rr hS hl
  have e0 := lwX.r0 (L := L) (xs := xs) e h0
  have key := va_slen (rest := st.map (zV ρ)) (ls := lsA) (l := zxl X) (e := zxe X) (R := zxR X) (m := zxm X) (args := zxa X) (below := zxb X) (meth := zxt X) (cells := k) (slots := n) (Q := Q) ok.1 ok.2.1 hX.1 hX.2.1 hX.nA hS hd (kk ok e el H locs lsA rr hS hl)
  rw [← e0] at key
  exact key
/-- the law's locals -/
abbrev lwL (i : Nat) : List (Option Value) := [some (.ref 0), some (.ref 1), some (.ref 42), some (.int (nI i)), none, none, none, none]
theorem aw_arg {i : Nat} (j : Nat) (hX : lwX X L xs) (h0 : sh 0 = none) (hi : i + j < L) (d0 : decode M.1 pc = .ok (.aload_n 0, 1)) (d1 : decode M.1 (pc + 1) = .ok (.iload_n 3, 1)) {z : Int} (d2 : decode M.1 (pc + 1 + 1) = .ok (.iconst z, 1)) (hz : Int32.ofInt z = nI j) (d3 : decode M.1 (pc + 1 + 1 + 1) = .ok (.iadd, 1)) (d4 : decode M.1 (pc + 1 + 1 + 1 + 1) = .ok (.iaload, 1))
    (kk : AW M X Q (pc + 1 + 1 + 1 + 1 + 1) (lwL i) (.int (xs (i + j)) :: st) ρ sh F P k n) : AW M X Q pc (lwL i) st ρ sh F P k n := by
  refine aw_aload_0 d0 ?_
  refine aw_iload_3 d1 ?_
  refine aw_iconst d2 hz ?_
  refine aw_iadd d3 ?_
  rw [nI_add]
  exact aw_scr hX h0 hi d4 kk
theorem lw_refs {sh' : zSh} {i : Nat} {st : List Value} (h1 : sh 1 ≠ none) (h42 : sh 42 ≠ none) (h0 : sh' 0 = none) (hst : ∀ j, Value.ref j ∈ st → j = 0 ∨ j = 1 ∨ j = 42) : zrefs sh sh' (lwL i) st := by
  have key : ∀ j, j = 0 ∨ j = 1 ∨ j = 42 → sh j ≠ none ∨ sh' j = none := by
    rintro j (rfl | rfl | rfl)
    · exact Or.inr h0
    · exact Or.inl h1
    · exact Or.inl h42
  refine ⟨fun j hj => key j ?_, fun j hj => key j (hst j hj)⟩
  simp at hj
  omega
end LROWS
theorem LI.at1 {N : Nat} {sh : zSh} {F : Nat → Nat → Int32} {P : Nat → Nat → Option Nat} (h : LI N sh F P 1) : sh 1 = some (.inl 6) ∧ sh 42 = some (.inl 7) := ⟨h.1.1.1, h.2.1.1⟩
