/-! ===== 50.rcong: the reader sees its own three rows alone ===== -/
section RC
variable {T : Nat → Int32} {len : Int32} {R R' : Nat → Nat → Int32}
theorem rSet_c (h : zEq 3 R R') (k : Nat) {v v' : Int32} (e : v = v') : zEq 3 (rSet R k v) (rSet R' k v') := by
  subst e
  unfold rSet
  rw [h 0 (by decide)]
  exact h.up rfl
theorem rTell_c (h : zEq 3 R R') {k k' w w' : Int32} (e : k = k') (e2 : w = w') : zEq 3 (rTell R k w) (rTell R' k' w') := by
  unfold rTell
  rw [h 0 (by decide)]
  split
  · exact rSet_c (rSet_c h 5 e) 6 e2
  · exact h
theorem rSk_c (h : zEq 3 R R') : zEq 3 (rSk T len R) (rSk T len R') := by
  unfold rSk
  exact rSet_c h 7 (by rw [h 0 (by decide)])
theorem rInc_c (h : zEq 3 R R') : zEq 3 (rInc R) (rInc R') := by
  unfold rInc
  exact rSet_c h 7 (by rw [h 0 (by decide)])
theorem rLetV_c (h : zEq 3 R R') : rLetV T len R = rLetV T len R' := by
  unfold rLetV
  rw [rSk_c h 0 (by decide)]
theorem rLet_c (h : zEq 3 R R') : zEq 3 (rLet T len R) (rLet T len R') := by
  unfold rLet
  rw [rSk_c h 0 (by decide), rLetV_c h]
  refine rInc_c ?_
  split
  · split
    · exact rTell_c (rSk_c h) rfl rfl
    · exact rSk_c h
  · exact rTell_c (rSk_c h) rfl rfl
theorem rSign_c (h : zEq 3 R R') (s : Int32) : zEq 3 (rSign T len s R) (rSign T len s R') := by
  unfold rSign
  rw [rSk_c h 0 (by decide)]
  refine rInc_c ?_
  split
  · split
    · exact rSk_c h
    · exact rTell_c (rSk_c h) rfl rfl
  · exact rTell_c (rSk_c h) rfl rfl
theorem rN2_c (h : zEq 3 R R') : (rN2 T len R).1 = (rN2 T len R').1 ∧ zEq 3 (rN2 T len R).2 (rN2 T len R').2 := by
  unfold rN2
  rw [rInc_c h 0 (by decide), h 0 (by decide)]
  split
  · exact ⟨rfl, rInc_c h⟩
  · exact ⟨rfl, rInc_c (rInc_c h)⟩
theorem rN3_c (h : zEq 3 R R') : zEq 3 (rN3 T len R) (rN3 T len R') := by
  obtain ⟨e, g⟩ := rN2_c (T := T) (len := len) h
  unfold rN3
  rw [g 0 (by decide), e, h 0 (by decide)]
  split
  · split
    · exact rTell_c g rfl rfl
    · split
      · exact g
      · exact rTell_c g rfl rfl
  · exact rTell_c g rfl rfl
theorem rNum_c (h : zEq 3 R R') : zEq 3 (rNum T len R) (rNum T len R') ∧ rNumV T len R = rNumV T len R' := by
  have g := rSk_c (T := T) (len := len) h
  unfold rNum rNumV
  rw [g 0 (by decide), (rN2_c g).1]
  refine ⟨?_, rfl⟩
  split
  · exact g
  · exact rN3_c g
theorem rIng_c (h : zEq 3 R R') : zEq 3 (rIng T len R) (rIng T len R') := by
  obtain ⟨n1, n2⟩ := rNum_c (T := T) (len := len) h
  have g : zEq 3 (rIng0 T len R) (rIng0 T len R') := by
    unfold rIng0
    exact rLet_c n1
  have hl : ∀ t, rList (rIng0 T len R) t = rList (rIng0 T len R') t := fun t => by
    unfold rList
    rw [g 0 (by decide), g 1 (by decide)]
  have ha : ∀ t a, zEq 3 (rAdd (rIng0 T len R) t a) (rAdd (rIng0 T len R') t a) := fun t a => by
    unfold rAdd
    rw [g 0 (by decide), g 1 (by decide), g 2 (by decide)]
    exact rSet_c ((g.up rfl).up rfl) 4 rfl
  unfold rIng
  rw [g 0 (by decide), hl, rLetV_c n1, n2]
  split
  · split
    · exact rTell_c g rfl rfl
    · split
      · exact rTell_c g rfl rfl
      · exact ha _ _
  · exact g
theorem rRead_c (h : zEq 3 R R') : zEq 3 (rRead T len R) (rRead T len R') := by
  have h0 : zEq 3 (rRead0 T len R) (rRead0 T len R') := by
    have h1 : zEq 3 (rSet (rSet (rSet (rSet R 7 0) 4 0) 5 0) 6 0) (rSet (rSet (rSet (rSet R' 7 0) 4 0) 5 0) 6 0) := rSet_c (rSet_c (rSet_c (rSet_c h 7 rfl) 4 rfl) 5 rfl) 6 rfl
    have h2 := rSet_c (rLet_c (T := T) (len := len) h1) 2 (rLetV_c (T := T) (len := len) h1)
    obtain ⟨n1, n2⟩ := rNum_c (T := T) (len := len) h2
    exact rIng_c (rSign_c (rSet_c n1 3 n2) 61)
  unfold rRead
  have := it_rel (R := fun s s' : (Nat → Nat → Int32) × Bool => s.2 = s'.2 ∧ zEq 3 s.1 s'.1) (f := rStep T len) (g := rStep T len) (fun i s s' hs => by
    obtain ⟨e, z⟩ := hs
    have hm : rMoreV T len s.1 = rMoreV T len s'.1 := by
      unfold rMoreV
      rw [rSk_c z 0 (by decide)]
    unfold rStep
    rw [e, hm]
    split
    · rename_i c
      exact ⟨e, z⟩
    · split
      · exact ⟨rfl, rSk_c z⟩
      · exact ⟨rfl, rIng_c (rSign_c (rSk_c z) 43)⟩) (s := (rRead0 T len R, false)) (t := (rRead0 T len R', false)) ⟨rfl, h0⟩ 5
  exact this.2
end RC
