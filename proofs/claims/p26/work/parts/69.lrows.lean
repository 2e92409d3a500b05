/-! ===== 69.lrows: rows that the law alone wants ===== -/
section LRX
variable {M : ZM} {X : ZX} {Q : State → Prop} {pc : Nat} {ls : List (Option Value)} {st : List Value} {ρ : Nat → Nat} {sh : zSh} {F : Nat → Nat → Int32} {P : Nat → Nat → Option Nat} {k n : Nat}
theorem aw_aload_g {i : Nat} {x : Nat} (hv : ls[i]? = some (some (.ref x))) (hd : decode M.1 pc = .ok (.aload i, 2)) (kk : AW M X Q (pc + 2) ls (.ref x :: st) ρ sh F P k n) : AW M X Q pc ls st ρ sh F P k n := fun ok e el H locs lsA r hS hl => lv_aload ok.1 ok.2.1 hd (hl.2.2 i _ hv).1 (kk ok e el H locs lsA r hS hl)
theorem aw_astore_g {i : Nat} {x : Nat} (hn : i < ls.length) (hd : decode M.1 pc = .ok (.astore i, 2)) (kk : AW M X Q (pc + 2) (ls.set i (some (.ref x))) st ρ sh F P k n) : AW M X Q pc ls (.ref x :: st) ρ sh F P k n := fun ok e el H locs lsA r hS hl => lv_astore ok.1 ok.2.1 hd (zL_has hl) hn rfl (fun ls' h => kk ok e (by rw [List.length_set]; exact el) H locs ls' r hS (zL_back (v := .ref x) hl h rfl))
theorem aw_fcmp {x y : UInt32} {op : CmpOp} (hd : decode M.1 pc = .ok (.fcmp op, 1)) (kk : AW M X Q (pc + 1) ls (.int (Op.cmpValue (FP.fcmp x y) op) :: st) ρ sh F P k n) : AW M X Q pc ls (.float y :: .float x :: st) ρ sh F P k n := fun ok e el H locs lsA r hS hl => lv_fcmp ok.1 ok.2.1 hd (kk ok e el H locs lsA r hS hl)
end LRX
section LPOS
variable {M : ZM} {X : ZX} {Q : State → Prop} {pc : Nat} {st : List Value} {ρ : Nat → Nat} {sh : zSh} {F : Nat → Nat → Int32} {P : Nat → Nat → Option Nat} {k n : Nat}
theorem aw_aload_7 {a0 a1 a2 a3 a4 a5 a6 : Option Value} {tl : List (Option Value)} {x : Nat} (hd : decode M.1 pc = .ok (.aload 7, 2)) (kk : AW M X Q (pc + 2) (a0 :: a1 :: a2 :: a3 :: a4 :: a5 :: a6 :: some (.ref x) :: tl) (.ref x :: st) ρ sh F P k n) : AW M X Q pc (a0 :: a1 :: a2 :: a3 :: a4 :: a5 :: a6 :: some (.ref x) :: tl) st ρ sh F P k n := aw_aload_g rfl hd kk
theorem aw_astore_7 {a0 a1 a2 a3 a4 a5 a6 : Option Value} {tl : List (Option Value)} {b : Option Value} {x : Nat} (hd : decode M.1 pc = .ok (.astore 7, 2)) (kk : AW M X Q (pc + 2) (a0 :: a1 :: a2 :: a3 :: a4 :: a5 :: a6 :: some (.ref x) :: tl) st ρ sh F P k n) : AW M X Q pc (a0 :: a1 :: a2 :: a3 :: a4 :: a5 :: a6 :: b :: tl) (.ref x :: st) ρ sh F P k n := aw_astore_g (by simp) hd kk
theorem aw_aload_9 {a0 a1 a2 a3 a4 a5 a6 a7 a8 : Option Value} {tl : List (Option Value)} {x : Nat} (hd : decode M.1 pc = .ok (.aload 9, 2)) (kk : AW M X Q (pc + 2) (a0 :: a1 :: a2 :: a3 :: a4 :: a5 :: a6 :: a7 :: a8 :: some (.ref x) :: tl) (.ref x :: st) ρ sh F P k n) : AW M X Q pc (a0 :: a1 :: a2 :: a3 :: a4 :: a5 :: a6 :: a7 :: a8 :: some (.ref x) :: tl) st ρ sh F P k n := aw_aload_g rfl hd kk
theorem aw_astore_9 {a0 a1 a2 a3 a4 a5 a6 a7 a8 : Option Value} {tl : List (Option Value)} {b : Option Value} {x : Nat} (hd : decode M.1 pc = .ok (.astore 9, 2)) (kk : AW M X Q (pc + 2) (a0 :: a1 :: a2 :: a3 :: a4 :: a5 :: a6 :: a7 :: a8 :: some (.ref x) :: tl) st ρ sh F P k n) : AW M X Q pc (a0 :: a1 :: a2 :: a3 :: a4 :: a5 :: a6 :: a7 :: a8 :: b :: tl) (.ref x :: st) ρ sh F P k n := aw_astore_g (by simp) hd kk
end LPOS
theorem fCmp32 {x : UInt32} (h : x.toNat % 2147483648 ≤ 2139095040) : FP.fcmp x x = some .eq := by
  have hd := fDec_nn h
  show FP.Core.order (FP.Core.decode FP.Core.b32 x.toNat) (FP.Core.decode FP.Core.b32 x.toNat) = _
  generalize FP.Core.decode FP.Core.b32 x.toNat = d at hd ⊢
  cases d with
  | nan => exact absurd rfl hd
  | inf s =>
    show some (compare _ _) = _
    rw [Std.compare_self]
  | fin s c q =>
    show some (compare _ _) = _
    rw [Std.compare_self]
set_option maxRecDepth 20000 in
theorem q_L_cell : zCal yL_cell wsL_cell 2 (some .int) := ⟨⟨cL_cell, 2, _, rfl, by decide⟩, by decide, by decide, by decide +kernel⟩
set_option maxRecDepth 20000 in
theorem q_L_low : zCal yL_low wsL_low 2 (some .int) := ⟨⟨cL_low, 2, _, rfl, by decide⟩, by decide, by decide, by decide +kernel⟩
set_option maxRecDepth 20000 in
theorem q_L_number : zCal yL_number wsL_number 2 (some .int) := ⟨⟨cL_number, 3, _, rfl, by decide⟩, by decide, by decide, by decide +kernel⟩
set_option maxRecDepth 20000 in
theorem q_L_recipe : zCal yL_recipe wsL_recipe 3 (some .int) := ⟨⟨cL_recipe, 7, _, rfl, by decide⟩, by decide, by decide, by decide +kernel⟩
set_option maxRecDepth 20000 in
theorem q_L_change : zCal yL_change wsL_change 3 (some .int) := ⟨⟨cL_change, 4, _, rfl, by decide⟩, by decide, by decide, by decide +kernel⟩
set_option maxRecDepth 20000 in
theorem q_L_areAccounts : zCal yL_areAccounts wsL_areAccounts 1 (some .boolean) := ⟨⟨cL_areAccounts, 12, _, rfl, by decide⟩, by decide, by decide, by decide +kernel⟩
set_option maxRecDepth 20000 in
theorem q_L_isRanked : zCal yL_isRanked wsL_isRanked 2 (some .boolean) := ⟨⟨cL_isRanked, 8, _, rfl, by decide⟩, by decide, by decide, by decide +kernel⟩
set_option maxRecDepth 20000 in
theorem q_L_isWish : zCal yL_isWish wsL_isWish 3 (some .boolean) := ⟨⟨cL_isWish, 12, _, rfl, by decide⟩, by decide, by decide, by decide +kernel⟩
set_option maxRecDepth 20000 in
theorem q_L_canHave : zCal yL_canHave wsL_canHave 2 (some .boolean) := ⟨⟨cL_canHave, 4, _, rfl, by decide⟩, by decide, by decide, by decide +kernel⟩
set_option maxRecDepth 20000 in
theorem q_L_areAlike : zCal yL_areAlike wsL_areAlike 2 (some .boolean) := ⟨⟨cL_areAlike, 5, _, rfl, by decide⟩, by decide, by decide, by decide +kernel⟩
