/-! ===== 06.calls: calls, ends, beginnings, new cells over AW ===== -/
theorem zR.inA {D : va_G} {cs : ClassId × ClassId × ClassId} {ρ : Nat → Nat} {sh : zSh} {F : Nat → Nat → Int32} {P : Nat → Nat → Option Nat} {A : Nat → Prop} {H : Heap} (h : zR D cs ρ sh F P A H) {i : Nat} (hi : sh i ≠ none) : A (ρ i) := by
  obtain ⟨L, h1, h2, h3, h4, h5⟩ := h
  obtain ⟨q0, hq⟩ := List.getElem?_of_mem ((h2 i).mpr hi)
  have := h4.2 q0 (zg cs ρ sh F P i) (by rw [List.getElem?_map, hq]; rfl)
  exact this
theorem zPre_blind {av : List Value} {D : va_G} {cs : ClassId × ClassId × ClassId} {ρ : Nat → Nat} {sh : zSh} {F : Nat → Nat → Int32} {P : Nat → Nat → Option Nat} {sz : Nat} : FrameBlind (va_Pc av (zPre D cs ρ sh F P sz)) :=
  fun a U g mk q => ⟨q.1, q.2.1, q.2.2.1, zK.same (U := U.calling g mk a) q.2.2.2 rfl⟩
section ZCALL
variable {M : ZM} {X : ZX} {Q : State → Prop} {pc : Nat} {ls : List (Option Value)} {st : List Value} {ρ : Nat → Nat} {sh : zSh} {F : Nat → Nat → Int32} {P : Nat → Nat → Option Nat} {k n : Nat}
theorem zcall {r : Option Value} {sh' : zSh} {F' : Nat → Nat → Int32} {P' : Nat → Nat → Option Nat} {mc ms : Nat} {a : Array Value} {H : Heap} {locs : List Loc} {lsA : Array Slot} {st0 rest : List Value}
    (hr : va_Run (zxp X) (zxl X) (zxe X) (zxR X) (zxs X) (zxm X) (zxa X) (zxb X) (zxt X) (zxc X) H locs k n mc ms (F0 (zxm X) pc lsA st0) rest (zPost (zxD X) (zxC X) ρ sh H.size r sh' F' P' a) (zA ρ sh H.size))
    (hS : va_S (zAx X) (zxs X).heap H locs) (hAx : ∀ i, sh i ≠ none → zAx X (ρ i))
    (kk : ∀ (ρ' : Nat → Nat) (H1 : Heap) (locs1 : List Loc), zExt ρ sh ρ' sh' → zR (zxD X) (zxC X) ρ' sh' F' P' (zAx X) H1 → va_S (zAx X) (zxs X).heap H1 locs1 → W (zxp X) (zxl X) (zxe X) (zxR X) (zxs X) (zxm X) (zxa X) (zxb X) (zxt X) (zxc X) H1 locs1 (k + mc) (n + ms) Q (F0 (zxm X) (pc + 3) lsA ((r.map (zV ρ')).toList ++ rest))) :
    W (zxp X) (zxl X) (zxe X) (zxR X) (zxs X) (zxm X) (zxa X) (zxb X) (zxt X) (zxc X) H locs k n Q (F0 (zxm X) pc lsA st0) := by
  intro T hT X1
  obtain ⟨v, st₀, t, T', L, h0, X2, hL, e1, e2, ⟨⟨ρ', hv, he, hR⟩, hz, hk⟩, stp⟩ := hr T hT X1
  cases hv
  rw [h0] at hz hk
  have hA : ∀ q, zA ρ sh H.size q → zAx X q := by
    intro q hq
    rcases hq with ⟨i, h1, rfl⟩ | h1
    · exact hAx i h1
    · exact Or.inr (Nat.le_trans hS.1 h1)
  obtain ⟨t2, a1, b1⟩ := kk ρ' T'.heap (locs ++ L) he (by rw [e1]; exact hR.weaken (fun i _ h => hA _ h)) ⟨Nat.le_trans hS.1 (by rw [e1]; exact hz), fun q h1 h2 => by
      rw [e1, hk q (Nat.lt_of_lt_of_le h1 hS.1) (fun z => h2 (hA q z))]
      exact hS.2.1 q h1 h2, fun q hq => by
      rcases List.mem_append.mp hq with h | h
      · exact hS.2.2 q h
      · exact hA _ (hL q h)⟩ T' rfl X2
  exact ⟨t2, stp t2 a1, b1⟩
/-- the refs that are in hand are no new cells -/
def zrefs (sh sh' : zSh) (ls : List (Option Value)) (st : List Value) : Prop := (∀ j, some (Value.ref j) ∈ ls → sh j ≠ none ∨ sh' j = none) ∧ ∀ j, Value.ref j ∈ st → sh j ≠ none ∨ sh' j = none
theorem zrefs.same {ls : List (Option Value)} {st : List Value} : zrefs sh sh ls st := ⟨fun j _ => by by_cases h : sh j = none <;> simp [h], fun j _ => by by_cases h : sh j = none <;> simp [h]⟩
theorem zExt.at {ρ ρ' : Nat → Nat} {sh sh' : zSh} (h : zExt ρ sh ρ' sh') {j : Nat} (hj : sh j ≠ none ∨ sh' j = none) : ρ' j = ρ j := by
  by_cases e : ρ' j = ρ j
  · exact e
  · obtain ⟨h1, h2⟩ := h.1 j e
    rcases hj with h3 | h3
    · exact absurd h1 h3
    · exact absurd h3 h2
/-- what a call needs, whatever its kind: the run -/
def zRun (M : ZM) (X : ZX) (pc : Nat) (st rest : List Value) (ρ : Nat → Nat) (sh : zSh) (F : Nat → Nat → Int32) (P : Nat → Nat → Option Nat) (k n mc ms : Nat) (r : Option Value) (sh' : zSh) (F' : Nat → Nat → Int32) (P' : Nat → Nat → Option Nat) : Prop :=
  zok M X → ∀ (H : Heap) (locs : List Loc) (lsA : Array Slot), lsA.size = M.2.2.2.2.2.2.2.1 → zR (zxD X) (zxC X) ρ sh F P (zAx X) H → ∃ a, va_Run (zxp X) (zxl X) (zxe X) (zxR X) (zxs X) (zxm X) (zxa X) (zxb X) (zxt X) (zxc X) H locs k n mc ms (F0 (zxm X) pc lsA (st.map (zV ρ))) (rest.map (zV ρ)) (zPost (zxD X) (zxC X) ρ sh H.size r sh' F' P' a) (zA ρ sh H.size)
theorem aw_runA {rest : List Value} {mc ms : Nat} {v : Value} {sh' : zSh} {F' : Nat → Nat → Int32} {P' : Nat → Nat → Option Nat} (hr : zRun M X pc st rest ρ sh F P k n mc ms (some v) sh' F' P') (href : zrefs sh sh' ls rest)
    (kk : ∀ ρ', AW M X Q (pc + 3) ls (v :: rest) ρ' sh' F' P' (k + mc) (n + ms)) : AW M X Q pc ls st ρ sh F P k n := by
  intro ok e el H locs lsA rr hS hl
  obtain ⟨a, hr⟩ := hr ok H locs lsA (hl.1.trans el) rr
  refine zcall hr hS (fun i hi => rr.inA hi) (fun ρ' H1 locs1 he hR hS1 => ?_)
  have h := kk ρ' ok (e.trans he) el H1 locs1 lsA hR hS1 (zL_ext hl (fun j hj => he.at (href.1 j hj)))
  have h2 : (v :: rest).map (zV ρ') = ((some v).map (zV ρ')).toList ++ rest.map (zV ρ) := by
    rw [List.map_cons, zst_ext (fun j hj => he.at (href.2 j hj))]
    rfl
  rw [h2] at h
  exact h
theorem aw_runAv {rest : List Value} {mc ms : Nat} {sh' : zSh} {F' : Nat → Nat → Int32} {P' : Nat → Nat → Option Nat} (hr : zRun M X pc st rest ρ sh F P k n mc ms none sh' F' P') (href : zrefs sh sh' ls rest)
    (kk : ∀ ρ', AW M X Q (pc + 3) ls rest ρ' sh' F' P' (k + mc) (n + ms)) : AW M X Q pc ls st ρ sh F P k n := by
  intro ok e el H locs lsA rr hS hl
  obtain ⟨a, hr⟩ := hr ok H locs lsA (hl.1.trans el) rr
  refine zcall hr hS (fun i hi => rr.inA hi) (fun ρ' H1 locs1 he hR hS1 => ?_)
  have h := kk ρ' ok (e.trans he) el H1 locs1 lsA hR hS1 (zL_ext hl (fun j hj => he.at (href.1 j hj)))
  rw [zst_ext (fun j hj => he.at (href.2 j hj))] at h
  exact h
/-- a call that makes nothing and answers -/
theorem aw_run {rest : List Value} {v : Value} {F' : Nat → Nat → Int32} (hr : zRun M X pc st rest ρ sh F P k n 0 0 (some v) sh F' P)
    (kk : AW M X Q (pc + 3) ls (v :: rest) ρ sh F' P k n) : AW M X Q pc ls st ρ sh F P k n := by
  intro ok e el H locs lsA rr hS hl
  obtain ⟨a, hr⟩ := hr ok H locs lsA (hl.1.trans el) rr
  refine zcall hr hS (fun i hi => rr.inA hi) (fun ρ' H1 locs1 he hR hS1 => ?_)
  have hρ := he.same
  subst hρ
  exact kk ok e el H1 locs1 lsA hR hS1 hl
theorem aw_runv {rest : List Value} {F' : Nat → Nat → Int32} (hr : zRun M X pc st rest ρ sh F P k n 0 0 none sh F' P)
    (kk : AW M X Q (pc + 3) ls rest ρ sh F' P k n) : AW M X Q pc ls st ρ sh F P k n := by
  intro ok e el H locs lsA rr hS hl
  obtain ⟨a, hr⟩ := hr ok H locs lsA (hl.1.trans el) rr
  refine zcall hr hS (fun i hi => rr.inA hi) (fun ρ' H1 locs1 he hR hS1 => ?_)
  have hρ := he.same
  subst hρ
  exact kk ok e el H1 locs1 lsA hR hS1 hl
theorem zroom {hc h mc ms Mc Ms maxL : Nat} (hh : hc < h) (hm : maxL ≤ 41) : (zrm hc mc ms).frames + 1 ≤ (zrm h Mc Ms).frames ∧ 8 + (maxL + 11) + (zrm hc mc ms).locals ≤ (zrm h Mc Ms).locals := by
  simp only [zrm]
  omega
theorem zcat (ρ : Nat → Nat) (l : List Value) : ((l.map (zV ρ)).map fun v => v.category).sum = (l.map fun v => v.category).sum := by
  rw [List.map_map]
  congr 2
  funext v
  exact zV_cat ρ v
variable {y : MethodName} {w : List Cond} {hc mc ms na index : Nat} {ret : Option FieldType} {as rest : List Value} {r : Option Value} {sh' : zSh} {F' : Nat → Nat → Int32} {P' : Nat → Nat → Option Nat}
theorem zRun_V {C : String} {T : u_T} {N ci b : Nat} (hM : zMet y w hc mc ms (.ref b :: as) sh F P r sh' F' P') (hG : GoodIn M.2.2.1 (wsV M.2.1 index C y w)) (hq : zCal y w na ret) (hcl : y.cls = C) (hh : hc < M.2.2.2.1) (hC : vwCl[ci]? = some (C, T, N)) (hsh : sh b = some (.inl ci)) (hna : as.length = na)
    (hst : st = as.reverse ++ .ref b :: rest) (hrest : (rest.map fun v => v.category).sum ≤ 8) (hd : decode M.1 pc = .ok (.invokevirtual index, 3)) (hk : k + mc ≤ M.2.2.2.2.1 ∧ n + ms ≤ M.2.2.2.2.2.1) : zRun M X pc st rest ρ sh F P k n mc ms r sh' F' P' := by
  intro ok H locs lsA hz rr
  obtain ⟨⟨bytes, maxL, w', hw, hmL⟩, hdy⟩ := hq
  obtain ⟨L, q0, h1, h2, h3, h4, h5, h6⟩ := rr.place hsh
  refine ⟨_, va_runV (As := as.map (zV ρ)) (rest := rest.map (zV ρ)) (b := ρ b) (C := C) ⟨ok.1, ok.2.1, ok.2.2.1, ok.2.2.2.1, ok.2.2.2.2.1⟩ (hM (zxl X) (zxD X) (zxC X) ρ H.size) (cwV na ok.2.2.2.2.1 hG hw rfl rfl ⟨hcl, hdy⟩ (by rw [ok.2.2.2.2.2.2.2.1]; exact zroom hh hmL)) ⟨zPre_blind, va_recv ok.2.2.2.2.2.2.2.2.1.1 h3 hC h6, fun U hU hW => ⟨rfl, by rw [hU], by rw [hU]; exact rr.weaken (fun _ _ _ => trivial), ok.2.2.2.2.2.2.2.2.1.warm hW⟩⟩ rfl (by rw [List.length_map]; exact hna) hz (by subst hst; show List.map (zV ρ) (as.reverse ++ .ref b :: rest) = _; rw [List.map_append, List.map_cons, List.map_reverse]; rfl) (lv_room (by rw [zcat]; exact hrest)) hd (by rw [ok.2.2.2.2.2.2.2.1]; exact hk)⟩
theorem zRun_S (hM : zMet y w hc mc ms as sh F P r sh' F' P') (hG : GoodIn M.2.2.1 (va_wsS M.2.1 index y w) ∨ (y.cls = M.2.1 ∧ GoodIn M.2.2.1 (wsS M.2.1 index y w))) (hq : zCal y w na ret) (hh : hc < M.2.2.2.1) (hna : as.length = na)
    (hst : st = as.reverse ++ rest) (hrest : (rest.map fun v => v.category).sum ≤ 8) (hd : decode M.1 pc = .ok (.invokestatic index, 3)) (hk : k + mc ≤ M.2.2.2.2.1 ∧ n + ms ≤ M.2.2.2.2.2.1) : zRun M X pc st rest ρ sh F P k n mc ms r sh' F' P' := by
  intro ok H locs lsA hz rr
  obtain ⟨⟨bytes, maxL, w', hw, hmL⟩, hdy⟩ := hq
  have cw : CallB (zxR X) (zxs X) (zxa X) M.2.1 index y bytes maxL ret w (zrm hc mc ms) mc ms na ∧ (Cond.static y).before (zxa X) (zxs X) = true := by
    rcases hG with hG | ⟨hcl, hG⟩
    · exact va_cwS na ok.2.2.2.2.1 hG hw rfl rfl hdy (by rw [ok.2.2.2.2.2.2.2.1]; exact zroom hh hmL)
    · exact cwS na ok.2.2.2.2.1 hG hw rfl rfl ⟨hcl, hdy⟩ (by rw [ok.2.2.2.2.2.2.2.1]; exact zroom hh hmL)
  refine ⟨_, va_runS (As := as.map (zV ρ)) (rest := rest.map (zV ρ)) ⟨ok.1, ok.2.1, ok.2.2.1, ok.2.2.2.1, ok.2.2.2.2.1⟩ (hM (zxl X) (zxD X) (zxC X) ρ H.size) cw ⟨zPre_blind, fun U hU hW => ⟨rfl, by rw [hU], by rw [hU]; exact rr.weaken (fun _ _ _ => trivial), ok.2.2.2.2.2.2.2.2.1.warm hW⟩⟩ rfl (by rw [List.length_map]; exact hna) hz (by subst hst; show List.map (zV ρ) (as.reverse ++ rest) = _; rw [List.map_append, List.map_reverse]) (lv_room (by rw [zcat]; exact hrest)) hd (by rw [ok.2.2.2.2.2.2.2.1]; exact hk)⟩
theorem zRun_SN {qn : Nat} (hM : zMet y w hc mc ms as sh F P r sh' F' P') (hG : GoodIn M.2.2.1 w) (hn : zNM[qn]? = some (M.2.1, index, y, RX6)) (hstat : Cond.static y ∈ M.2.2.1) (hini : Cond.initialized y.cls ∈ M.2.2.1) (hq : zCal y w na ret) (hh : hc < M.2.2.2.1) (hna : as.length = na)
    (hst : st = as.reverse ++ rest) (hrest : (rest.map fun v => v.category).sum ≤ 8) (hd : decode M.1 pc = .ok (.invokestatic index, 3)) (hk : k + mc ≤ M.2.2.2.2.1 ∧ n + ms ≤ M.2.2.2.2.2.1) : zRun M X pc st rest ρ sh F P k n mc ms r sh' F' P' := by
  intro ok H locs lsA hz rr
  obtain ⟨⟨bytes, maxL, w', hw, hmL⟩, hdy⟩ := hq
  refine ⟨_, va_runSN (As := as.map (zV ρ)) (rest := rest.map (zV ρ)) (host := RX6) ⟨ok.1, ok.2.1, ok.2.2.1, ok.2.2.2.1, ok.2.2.2.2.1⟩ (hM (zxl X) (zxD X) (zxC X) ρ H.size) ⟨va_cnB na ok.2.2.2.2.1 hG hw rfl rfl (ok.2.2.2.2.2.2.2.2.1.2.1 _ (List.mem_of_getElem? hn)) (ok.2.2.2.2.1 _ hini) hdy (by rw [ok.2.2.2.2.2.2.2.1]; exact zroom hh hmL), ok.2.2.2.2.1 _ hstat, trivial⟩ ⟨zPre_blind, fun U hU hW => ⟨rfl, by rw [hU], by rw [hU]; exact rr.weaken (fun _ _ _ => trivial), ok.2.2.2.2.2.2.2.2.1.warm hW⟩⟩ rfl (by rw [List.length_map]; exact hna) hz (by subst hst; show List.map (zV ρ) (as.reverse ++ rest) = _; rw [List.map_append, List.map_reverse]) (lv_room (by rw [zcat]; exact hrest)) hd (by rw [ok.2.2.2.2.2.2.2.1]; exact hk)⟩
theorem zRun_I {b : Nat} (hM : zMet y w hc mc ms (.ref b :: as) sh F P r sh' F' P') (hG : GoodIn M.2.2.1 w) (hini : Cond.initialized y.cls ∈ M.2.2.1) (hlink : Cond.methodLink M.2.1 index y ∈ M.2.2.1) (hinst : Cond.instanceMethod y ∈ M.2.2.1) (hnm : y.name = "<init>") (hq : zCal y w na none) (hh : hc < M.2.2.2.1) (hna : as.length = na)
    (hst : st = as.reverse ++ .ref b :: rest) (hrest : (rest.map fun v => v.category).sum ≤ 8) (hd : decode M.1 pc = .ok (.invokespecial index, 3)) (hk : k + mc ≤ M.2.2.2.2.1 ∧ n + ms ≤ M.2.2.2.2.2.1) : zRun M X pc st rest ρ sh F P k n mc ms r sh' F' P' := by
  intro ok H locs lsA hz rr
  obtain ⟨⟨bytes, maxL, w', hw, hmL⟩, hdy⟩ := hq
  refine ⟨_, va_runI (As := as.map (zV ρ)) (rest := rest.map (zV ρ)) (b := ρ b) ⟨ok.1, ok.2.1, ok.2.2.1, ok.2.2.2.1, ok.2.2.2.2.1⟩ (hM (zxl X) (zxD X) (zxC X) ρ H.size) (cwI na ok.2.2.2.2.1 hG hw rfl rfl (ok.2.2.2.2.1 _ hini) (ok.2.2.2.2.1 _ hlink) (ok.2.2.2.2.1 _ hinst) hnm hdy (by rw [ok.2.2.2.2.2.2.2.1]; exact zroom hh hmL)) ⟨zPre_blind, fun U hU hW => ⟨rfl, by rw [hU], by rw [hU]; exact rr.weaken (fun _ _ _ => trivial), ok.2.2.2.2.2.2.2.2.1.warm hW⟩⟩ rfl (by rw [List.length_map]; exact hna) hz (by subst hst; show List.map (zV ρ) (as.reverse ++ .ref b :: rest) = _; rw [List.map_append, List.map_cons, List.map_reverse]; rfl) (lv_room (by rw [zcat]; exact hrest)) hd (by rw [ok.2.2.2.2.2.2.2.1]; exact hk)⟩
theorem zRun_IN {b qn : Nat} (hM : zMet y w hc mc ms (.ref b :: as) sh F P r sh' F' P') (hG : GoodIn M.2.2.1 w) (hn : zNM[qn]? = some (M.2.1, index, y, RX6)) (hini : Cond.initialized y.cls ∈ M.2.2.1) (hinst : Cond.instanceMethod y ∈ M.2.2.1) (hnm : y.name = "<init>") (hq : zCal y w na none) (hh : hc < M.2.2.2.1) (hna : as.length = na)
    (hst : st = as.reverse ++ .ref b :: rest) (hrest : (rest.map fun v => v.category).sum ≤ 8) (hd : decode M.1 pc = .ok (.invokespecial index, 3)) (hk : k + mc ≤ M.2.2.2.2.1 ∧ n + ms ≤ M.2.2.2.2.2.1) : zRun M X pc st rest ρ sh F P k n mc ms r sh' F' P' := by
  intro ok H locs lsA hz rr
  obtain ⟨⟨bytes, maxL, w', hw, hmL⟩, hdy⟩ := hq
  refine ⟨_, va_runIN (As := as.map (zV ρ)) (rest := rest.map (zV ρ)) (b := ρ b) (host := RX6) ⟨ok.1, ok.2.1, ok.2.2.1, ok.2.2.2.1, ok.2.2.2.2.1⟩ (hM (zxl X) (zxD X) (zxC X) ρ H.size) ⟨va_cnB na ok.2.2.2.2.1 hG hw rfl rfl (ok.2.2.2.2.2.2.2.2.1.2.1 _ (List.mem_of_getElem? hn)) (ok.2.2.2.2.1 _ hini) hdy (by rw [ok.2.2.2.2.2.2.2.1]; exact zroom hh hmL), hnm, ok.2.2.2.2.1 _ hinst⟩ ⟨zPre_blind, fun U hU hW => ⟨rfl, by rw [hU], by rw [hU]; exact rr.weaken (fun _ _ _ => trivial), ok.2.2.2.2.2.2.2.2.1.warm hW⟩⟩ rfl (by rw [List.length_map]; exact hna) hz (by subst hst; show List.map (zV ρ) (as.reverse ++ .ref b :: rest) = _; rw [List.map_append, List.map_cons, List.map_reverse]; rfl) (lv_room (by rw [zcat]; exact hrest)) hd (by rw [ok.2.2.2.2.2.2.2.1]; exact hk)⟩
theorem aw_objInit {idx b : Nat} {rest : List Value} (hlink : Cond.methodLink M.2.1 idx Lib.objectInit ∈ M.2.2.1) (hinst : Cond.instanceMethod Lib.objectInit ∈ M.2.2.1) (hcode : Cond.code Lib.objectInit ⟨#[0xb1]⟩ 1 none ∈ M.2.2.1) (hd : decode M.1 pc = .ok (.invokespecial idx, 3)) (hrest : (rest.map fun v => v.category).sum ≤ 8)
    (kk : AW M X Q (pc + 3) ls rest ρ sh F P k n) : AW M X Q pc ls (.ref b :: rest) ρ sh F P k n := by
  intro ok e el H locs lsA rr hS hl
  exact W.objInit ok.1 ok.2.1 ok.2.2.2.1 (ok.2.2.2.2.1 _ hlink) (ok.2.2.2.2.1 _ hinst) (ok.2.2.2.2.1 _ hcode) (g := F0 (zxm X) pc lsA ((Value.ref b :: rest).map (zV ρ))) rfl ((hl.1.trans el).trans ok.2.2.1.symm) (a := ρ b) (rest := rest.map (zV ρ)) rfl hd (by rw [ok.2.2.2.2.2.2.2.1]; simp [zrm]) (by have h0 := lv_room (pc := pc) (ls := lsA) (rest := (Value.ref b :: rest).map (zV ρ)) (m := zxm X) (st := rest.map (zV ρ)) (by rw [zcat]; exact hrest); rw [ok.2.2.2.2.2.2.2.1]; simp only [zrm]; omega) (kk ok e el H locs lsA rr hS hl)
theorem aw_min {x y : Int32} {rest : List Value} (hlink : Cond.methodLink M.2.1 index Lib.Math.min.name ∈ M.2.2.1) (hstat : Cond.static Lib.Math.min.name ∈ M.2.2.1) (hini : Cond.initialized "java/lang/Math" ∈ M.2.2.1) (hcode : Cond.code Lib.Math.min.name Lib.Math.min.code 2 (some .int) ∈ M.2.2.1) (hrest : (rest.map fun v => v.category).sum ≤ 8) (hk : k ≤ M.2.2.2.2.1 ∧ n ≤ M.2.2.2.2.2.1) (hd : decode M.1 pc = .ok (.invokestatic index, 3))
    (kk : AW M X Q (pc + 3) ls (.int (if y < x then y else x) :: rest) ρ sh F P k n) : AW M X Q pc ls (.int y :: .int x :: rest) ρ sh F P k n := by
  intro ok e el H locs lsA rr hS hl
  refine va_mmin ok.1 ok.2.1 (ok.2.2.1.trans (hl.1.trans el).symm) ok.2.2.2.1 (ok.2.2.2.2.1 _ hlink) (ok.2.2.2.2.1 _ hstat) (ok.2.2.2.2.1 _ hini) (ok.2.2.2.2.1 _ hcode) (by rw [ok.2.2.2.2.2.2.2.1]; simp [zrm]) (by rw [ok.2.2.2.2.2.2.2.1, zcat]; simp only [zrm]; omega) (by rw [ok.2.2.2.2.2.2.2.1]; exact hk.1) (by rw [ok.2.2.2.2.2.2.2.1]; exact hk.2) hd (kk ok e el H locs lsA rr hS hl)
theorem aw_max {x y : Int32} {rest : List Value} (hlink : Cond.methodLink M.2.1 index Lib.Math.max.name ∈ M.2.2.1) (hstat : Cond.static Lib.Math.max.name ∈ M.2.2.1) (hini : Cond.initialized "java/lang/Math" ∈ M.2.2.1) (hcode : Cond.code Lib.Math.max.name Lib.Math.max.code 2 (some .int) ∈ M.2.2.1) (hrest : (rest.map fun v => v.category).sum ≤ 8) (hk : k ≤ M.2.2.2.2.1 ∧ n ≤ M.2.2.2.2.2.1) (hd : decode M.1 pc = .ok (.invokestatic index, 3))
    (kk : AW M X Q (pc + 3) ls (.int (if x < y then y else x) :: rest) ρ sh F P k n) : AW M X Q pc ls (.int y :: .int x :: rest) ρ sh F P k n := by
  intro ok e el H locs lsA rr hS hl
  refine va_mmax ok.1 ok.2.1 (ok.2.2.1.trans (hl.1.trans el).symm) ok.2.2.2.1 (ok.2.2.2.2.1 _ hlink) (ok.2.2.2.2.1 _ hstat) (ok.2.2.2.2.1 _ hini) (ok.2.2.2.2.1 _ hcode) (by rw [ok.2.2.2.2.2.2.2.1]; simp [zrm]) (by rw [ok.2.2.2.2.2.2.2.1, zcat]; simp only [zrm]; omega) (by rw [ok.2.2.2.2.2.2.2.1]; exact hk.1) (by rw [ok.2.2.2.2.2.2.2.1]; exact hk.2) hd (kk ok e el H locs lsA rr hS hl)
/-- System.arraycopy of numbers between two arrays -/
theorem aw_copy {a b n0 n1 : Nat} {sp dp z : Int32} {rest : List Value} (hlink : Cond.methodLink M.2.1 index arraycopyName ∈ M.2.2.1) (hnat : Cond.native arraycopyName ∈ M.2.2.1) (hstat : Cond.static arraycopyName ∈ M.2.2.1) (hini : Cond.initialized "java/lang/System" ∈ M.2.2.1) (ha : sh a = some (.inr (0, n0))) (hb : sh b = some (.inr (0, n1)))
    (h1 : ¬ sp < 0) (h2 : ¬ dp < 0) (h3 : ¬ z < 0) (h4 : sp.toNatClampNeg + z.toNatClampNeg ≤ n0) (h5 : dp.toNatClampNeg + z.toNatClampNeg ≤ n1) (hrest : (rest.map fun v => v.category).sum ≤ 8) (hd : decode M.1 pc = .ok (.invokestatic index, 3))
    (kk : AW M X Q (pc + 3) ls rest ρ sh (va_up F b (va_cpy (F a) (F b) sp.toNatClampNeg dp.toNatClampNeg z.toNatClampNeg)) P k n) : AW M X Q pc ls (.int z :: .int dp :: .ref b :: .int sp :: .ref a :: rest) ρ sh F P k n := by
  intro ok e el H locs lsA r hS hl
  obtain ⟨L, q0, g1, g2, g3, g4, g5, g6⟩ := r.place ha
  obtain ⟨q1, hq1⟩ := List.getElem?_of_mem ((g2 b).mpr (by rw [hb]; exact fun e => by cases e))
  have g7 : (L.map (zg (zxC X) ρ sh F P))[q1]? = some (ρ b, zE (zxC X) ρ (.inr (0, n1)) (F b) (P b)) := by
    rw [List.getElem?_map, hq1]
    simp [zg, hb]
  have hf : 1 ≤ (zxR X).frames := by rw [ok.2.2.2.2.2.2.2.1]; simp [zrm]
  have hw7 : nativeFrameWords "java/lang/System" "arraycopy" 5 ≤ 7 := by decide
  have hlo : ((rest.map (zV ρ)).map fun v => v.category).sum + (nativeFrameWords "java/lang/System" "arraycopy" 5 + 11) ≤ (zxR X).locals := by
    rw [ok.2.2.2.2.2.2.2.1, zcat]
    simp only [zrm]
    omega
  exact va_copyi ok.1 ok.2.1 (ok.2.2.1.trans (hl.1.trans el).symm) ok.2.2.2.1 (ok.2.2.2.2.1 _ hlink) (ok.2.2.2.2.1 _ hnat) (ok.2.2.2.2.1 _ hstat) (ok.2.2.2.2.1 _ hini) ok.2.2.2.2.2.2.2.2.1.1 g3 g4 hS q0 q1 0 0 (c0 := (zxC X).1) (c1 := (zxC X).1) (n0 := n0) (n1 := n1) (f := F a) (g := F b) (ty := .int) g6 g7 rfl rfl rfl h1 h2 h3 h4 h5 (fun _ _ => rfl) hf hlo hd (fun H1 locs1 hP hD hS => kk ok e el H1 locs1 lsA (zR.put g1 g2 hq1 hb hP hD (by simp [zE, va_up]) (fun j hj => ⟨by simp [va_up, hj], rfl⟩) r.closed) hS hl)
end ZCALL
section ZEND
variable {M : ZM} {X : ZX} {Q : State → Prop} {pc : Nat} {ls : List (Option Value)} {st : List Value} {ρ : Nat → Nat} {sh sh' : zSh} {F F' : Nat → Nat → Int32} {P P' : Nat → Nat → Option Nat} {k n : Nat} {r : Option Value}
theorem aw_ireturn {v : Int32} (hret : M.2.2.2.2.2.2.1 = some .int) (hd : decode M.1 pc = .ok (.ireturn, 1)) (hk : k ≤ M.2.2.2.2.1 ∧ n ≤ M.2.2.2.2.2.1) (hr : some (.int v) = r) (hsh : sh = sh') (hF : F = F') (hP : P = P') : AW M X (zMQ M X r sh' F' P') pc ls [.int v] ρ sh F P k n := by
  subst hr; subst hsh; subst hF; subst hP
  intro ok e el H locs lsA rr hS hl
  exact W.widen hk.1 hk.2 (W.iret ok.1 ok.2.1 (by rw [ok.2.2.2.2.2.2.1, hret]) (fun t ht hW => ⟨⟨ρ, rfl, e, by rw [ht]; exact rr⟩, hS.F ht⟩) hS.2.2 hd ok.2.2.2.2.2.1)
theorem aw_zreturn {v : Int32} (hret : M.2.2.2.2.2.2.1 = some .boolean) (hd : decode M.1 pc = .ok (.ireturn, 1)) (hk : k ≤ M.2.2.2.2.1 ∧ n ≤ M.2.2.2.2.2.1) (hv : v = 0 ∨ v = 1) (hr : some (.int v) = r) (hsh : sh = sh') (hF : F = F') (hP : P = P') : AW M X (zMQ M X r sh' F' P') pc ls [.int v] ρ sh F P k n := by
  subst hr; subst hsh; subst hF; subst hP
  intro ok e el H locs lsA rr hS hl
  exact W.widen hk.1 hk.2 (W.zret (ty := .boolean) ok.1 ok.2.1 (by rw [ok.2.2.2.2.2.2.1, hret]) (by rcases hv with rfl | rfl <;> rfl) (fun t ht hW => ⟨⟨ρ, rfl, e, by rw [ht]; exact rr⟩, hS.F ht⟩) hS.2.2 hd ok.2.2.2.2.2.1)
theorem aw_return (hret : M.2.2.2.2.2.2.1 = none) (hd : decode M.1 pc = .ok (.return_, 1)) (hk : k ≤ M.2.2.2.2.1 ∧ n ≤ M.2.2.2.2.2.1) (hr : none = r) (hsh : sh = sh') (hF : F = F') (hP : P = P') : AW M X (zMQ M X r sh' F' P') pc ls [] ρ sh F P k n := by
  subst hr; subst hsh; subst hF; subst hP
  intro ok e el H locs lsA rr hS hl
  exact W.widen hk.1 hk.2 (W.vret ok.1 ok.2.1 (by rw [ok.2.2.2.2.2.2.1, hret]) (fun t ht hW => ⟨⟨ρ, rfl, e, by rw [ht]; exact rr⟩, hS.F ht⟩) hS.2.2 hd ok.2.2.2.2.2.1)
theorem aw_areturn {v : Value} {C : String} (hret : M.2.2.2.2.2.2.1 = some (.object C)) (hv : v = .null ∨ ∃ j, v = .ref j) (hd : decode M.1 pc = .ok (.areturn, 1)) (hk : k ≤ M.2.2.2.2.1 ∧ n ≤ M.2.2.2.2.2.1) (hr : some v = r) (hsh : sh = sh') (hF : F = F') (hP : P = P') : AW M X (zMQ M X r sh' F' P') pc ls [v] ρ sh F P k n := by
  subst hr; subst hsh; subst hF; subst hP
  intro ok e el H locs lsA rr hS hl
  exact W.widen hk.1 hk.2 (W.aret (v := zV ρ v) ok.1 ok.2.1 (by rw [ok.2.2.2.2.2.2.1, hret]) (Or.inl ⟨C, rfl⟩) (hv.elim (fun h => Or.inl (by rw [h]; rfl)) (fun ⟨j, h⟩ => Or.inr ⟨ρ j, by rw [h]; rfl⟩)) (fun t ht hW => ⟨⟨ρ, rfl, e, by rw [ht]; exact rr⟩, hS.F ht⟩) hS.2.2 hd ok.2.2.2.2.2.1)
end ZEND
theorem zargs_mem : ∀ (vs : List Value) (i : Nat), (∀ v ∈ vs, v.category = 1) → ∀ (j : Nat) (v : Value), vs[j]? = some v → (i + j, v) ∈ lv_args i vs
  | [], _, _, j, v, h => by simp at h
  | u :: vs, i, hc, j, v, h => by
    have hu : u.category = 1 := hc u List.mem_cons_self
    simp only [lv_args, hu]
    cases j with
    | zero =>
      simp at h
      subst h
      exact List.mem_cons_self
    | succ j =>
      have := zargs_mem vs (i + 1) (fun v hv => hc v (List.mem_cons_of_mem _ hv)) j v (by simpa using h)
      refine List.mem_cons_of_mem _ ?_
      have e : i + (j + 1) = i + 1 + j := by omega
      rw [e]
      simpa using this
theorem zlg_len : ∀ (vs : List Value), (∀ v ∈ vs, v.category = 1) → (lg_sl vs).length = vs.length
  | [], _ => rfl
  | u :: vs, hc => by
    have hu : u.category = 1 := hc u List.mem_cons_self
    have := zlg_len vs (fun v hv => hc v (List.mem_cons_of_mem _ hv))
    simp only [lg_sl, List.flatMap_cons, List.length_append, List.length_cons] at this ⊢
    simp [hu, this]
    try omega
theorem zMet.of {y : MethodName} {ws ws' : List Cond} {cc : ByteArray} {maxL h mc ms : Nat} {ret : Option FieldType} {as : List Value} {sh sh' : zSh} {F F' : Nat → Nat → Int32} {P P' : Nat → Nat → Option Nat} {r : Option Value}
    (hy : plainName y.cls = true) (hw : ws = Cond.code y cc maxL ret :: ws') (hlen : as.length ≤ maxL) (hc1 : ∀ v ∈ as, v.category = 1)
    (body : ∀ (X : ZX) (ρ : Nat → Nat), AW (cc, y.cls, ws, h, mc, ms, ret, maxL, y.name) X (zMQ (cc, y.cls, ws, h, mc, ms, ret, maxL, y.name) X r sh' F' P') 0 (as.map some ++ List.replicate (maxL - as.length) none) [] ρ sh F P 0 0) : zMet y ws h mc ms as sh F P r sh' F' P' := by
  intro l D cs ρ sz
  refine Met.ofW (cc := cc) (maxL := maxL) (ret := ret) hy hw ?_
  intro p e s m args below meth c s₁ B hml hv
  obtain ⟨rfl, hsz, hR, hK⟩ := hv
  subst hsz
  have hc1' : ∀ v ∈ as.map (zV ρ), v.category = 1 := by
    intro v hv
    obtain ⟨u, hu, rfl⟩ := List.mem_map.mp hv
    rw [zV_cat]
    exact hc1 u hu
  have hl := lv_entry (as.map (zV ρ)) (n := maxL) (by rw [zlg_len _ hc1', List.length_map]; exact hlen)
  rw [lg_entry_eq]
  generalize (lg_sl (as.map (zV ρ)) ++ List.replicate (maxL - (lg_sl (as.map (zV ρ))).length) Slot.unset).toArray = lsA at hl ⊢
  have key := body (p, l, e, (headSpec ws (zrm h mc ms)).room, s, m, (as.map (zV ρ)).toArray, below, meth, c, D, cs, ρ, sh) ρ
    ⟨B.exec, B.bytes, hml, findClass_of_methodNamed B.named, atoms_spec (ws := ws) B.pre, B.notSynchronized, B.returns, rfl, hK, (name_of_methodNamed B.named B.method).1⟩ zExt.refl
    (by show (as.map some ++ List.replicate (maxL - as.length) none).length = maxL; simp; omega) s.heap [] lsA (hR.weaken (fun i hi _ => Or.inl ⟨i, hi, rfl⟩)) va_S.rf
    ⟨by rw [hl.1]; simp; omega, hl.2.1, fun i v hv => by
      have hi : as[i]? = some v := by
        by_cases h2 : i < as.length
        · rw [List.getElem?_append_left (by simpa using h2), List.getElem?_map] at hv
          cases hx : as[i]? with
          | none => rw [hx] at hv; cases hv
          | some u => rw [hx] at hv; cases hv; rfl
        · rw [List.getElem?_append_right (by simp; omega)] at hv
          have := List.eq_of_mem_replicate (List.mem_of_getElem? hv)
          cases this
      refine ⟨?_, hc1 v (List.mem_of_getElem? hi)⟩
      have := hl.2.2 _ (zargs_mem (as.map (zV ρ)) 0 hc1' i (zV ρ v) (by rw [List.getElem?_map, hi]; rfl))
      simpa using this⟩
  exact key
/-! new cells -/
theorem zE_ext {cs : ClassId × ClassId × ClassId} {ρ ρ' : Nat → Nat} {k : Nat ⊕ (Nat × Nat)} {f : Nat → Int32} {p : Nat → Option Nat} (h : ∀ x, (p x).map ρ' = (p x).map ρ) : zE cs ρ' k f p = zE cs ρ k f p := by
  unfold zE
  split <;> simp [h]
theorem zR.push {D : va_G} {cs : ClassId × ClassId × ClassId} {ρ : Nat → Nat} {sh : zSh} {F : Nat → Nat → Int32} {P : Nat → Nat → Option Nat} {A : Nat → Prop} {H1 : Heap} {L : List Nat} {q i : Nat} {e : va_E} {k : Nat ⊕ (Nat × Nat)} {f : Nat → Int32}
    (h1 : L.Nodup) (h2 : ∀ i, i ∈ L ↔ sh i ≠ none) (hc : ∀ i j b, sh i ≠ none → P i j = some b → sh b ≠ none) (hi : sh i = none) (hP : va_P D vwCl (L.map (zg cs ρ sh F P) ++ [(q, e)]) H1) (hD : va_D A (L.map (zg cs ρ sh F P) ++ [(q, e)]))
    (he : zE cs ρ k f (fun _ => none) = e) : zR D cs (va_up ρ i q) (va_up sh i (some k)) (va_up F i f) (va_up P i (fun _ => none)) A H1 := by
  have hiL : i ∉ L := fun h => (h2 i).mp h hi
  have hg : (L ++ [i]).map (zg cs (va_up ρ i q) (va_up sh i (some k)) (va_up F i f) (va_up P i (fun _ => none))) = L.map (zg cs ρ sh F P) ++ [(q, e)] := by
    rw [List.map_append]
    congr 1
    · refine List.map_congr_left fun j hj => ?_
      have hji : j ≠ i := fun h => hiL (h ▸ hj)
      simp only [zg, va_up, if_neg hji]
      congr 1
      refine zE_ext fun x => ?_
      cases hx : P j x with
      | none => rfl
      | some b =>
        have hb := hc j x b ((h2 j).mp hj) hx
        have hbi : b ≠ i := fun h => hb (h ▸ hi)
        simp [va_up, hbi]
    · simp only [List.map_cons, List.map_nil, zg, va_up, if_pos, Option.getD_some]
      rw [zE_ext (ρ := ρ) (ρ' := va_up ρ i q) (fun x => rfl), he]
  refine ⟨L ++ [i], ?_, fun j => ?_, by rw [hg]; exact hP, by rw [hg]; exact hD, fun a b c ha hb => ?_⟩
  · exact List.nodup_append.mpr ⟨h1, by simp, fun a ha b hb => by simp at hb; subst hb; exact fun h => hiL (h ▸ ha)⟩
  · by_cases hj : j = i
    · subst hj
      simp [va_up]
    · simp [va_up, hj, h2]
  · by_cases ha' : a = i
    · subst ha'
      simp [va_up] at hb
    · simp only [va_up, if_neg ha'] at ha hb
      have := hc a b c ha hb
      by_cases hci : c = i
      · subst hci
        simp [va_up]
      · simp [va_up, hci, this]
theorem zExt.push {ρ : Nat → Nat} {sh : zSh} {i q : Nat} {k : Nat ⊕ (Nat × Nat)} (hi : sh i = none) : zExt ρ sh (va_up ρ i q) (va_up sh i (some k)) := by
  refine ⟨fun j hj => ?_, fun j hj => ?_⟩
  · by_cases h : j = i
    · subst h
      exact ⟨hi, by simp [va_up]⟩
    · simp [va_up, h] at hj
  · have h : j ≠ i := fun h => hj (h ▸ hi)
    simp [va_up, h]
section ZNEW
variable {M : ZM} {X : ZX} {Q : State → Prop} {pc : Nat} {ls : List (Option Value)} {st : List Value} {ρ : Nat → Nat} {sh : zSh} {F : Nat → Nat → Int32} {P : Nat → Nat → Option Nat} {k n : Nat}
theorem zfin {k' n' pc' : Nat} {i q : Nat} {kd : Nat ⊕ (Nat × Nat)} {f : Nat → Int32} {H1 : Heap} {locs : List Loc} {lsA : Array Slot} (ok : zok M X) (e : zExt (zxr X) (zxh X) ρ sh) (el : ls.length = M.2.2.2.2.2.2.2.1) (hi : sh i = none) (href : zrefs sh (va_up sh i (some kd)) ls st) (hl : zL lsA ρ ls) (hS : va_S (zAx X) (zxs X).heap H1 locs)
    (hR : zR (zxD X) (zxC X) (va_up ρ i q) (va_up sh i (some kd)) (va_up F i f) (va_up P i (fun _ => none)) (zAx X) H1) (kk : ∀ ρ, AW M X Q pc' ls (.ref i :: st) ρ (va_up sh i (some kd)) (va_up F i f) (va_up P i (fun _ => none)) k' n') :
    W (zxp X) (zxl X) (zxe X) (zxR X) (zxs X) (zxm X) (zxa X) (zxb X) (zxt X) (zxc X) H1 locs k' n' Q (F0 (zxm X) pc' lsA (.ref q :: st.map (zV ρ))) := by
  have he : zExt ρ sh (va_up ρ i q) (va_up sh i (some kd)) := zExt.push hi
  have h := kk (va_up ρ i q) ok (e.trans he) el H1 locs lsA hR hS (zL_ext hl (fun j hj => he.at (href.1 j hj)))
  rw [List.map_cons, zst_ext (fun j hj => he.at (href.2 j hj))] at h
  have h2 : zV (va_up ρ i q) (.ref i) = .ref q := by simp [zV, va_up]
  rw [h2] at h
  exact h
theorem aw_new {C : String} {T : u_T} {N ci index : Nat} (i : Nat) (hc : vwCl[ci]? = some (C, T, N)) (hN : zN ci = N) (hty : ∀ k, k < N → parseFieldDescriptor (T k).2.2.1 = some (zT ci k)) (hdf : ∀ j, j < N → defaultValue (zT ci j) = zfld (zT ci j) 0 none) (hin : ∀ w ∈ u_ws C T N, w ∈ M.2.2.1) (hcl : Cond.classLink M.2.1 index C ∈ M.2.2.1) (hins : Cond.instantiable C N ∈ M.2.2.1) (hini : Cond.initialized C ∈ M.2.2.1)
    (hi : sh i = none) (href : zrefs sh (va_up sh i (some (.inl ci))) ls st) (hk : k + 1 ≤ M.2.2.2.2.1 ∧ n + N ≤ M.2.2.2.2.2.1) (hd : decode M.1 pc = .ok (.new index, 3)) (kk : ∀ ρ, AW M X Q (pc + 3) ls (.ref i :: st) ρ (va_up sh i (some (.inl ci))) (va_up F i (fun _ => 0)) (va_up P i (fun _ => none)) (k + 1) (n + N)) : AW M X Q pc ls st ρ sh F P k n := by
  intro ok e el H locs lsA r hS hl
  obtain ⟨L, h1, h2, h3, h4, h5⟩ := r
  refine va_new (fs := (List.range (zN ci)).map (fun j => zfld (zT ci j) 0 none)) ok.1 ok.2.1 ok.2.2.2.2.1 hin (zT ci) hty ok.2.2.2.1 (ok.2.2.2.2.1 _ hcl) (ok.2.2.2.2.1 _ hins) (ok.2.2.2.2.1 _ hini) ok.2.2.2.2.2.2.2.2.1.1 h3 h4 hS (fun q hq => Or.inr hq) hc (fun j hj => ?_) (by rw [ok.2.2.2.2.2.2.2.1]; exact hk.1) (by rw [ok.2.2.2.2.2.2.2.1]; exact hk.2) hd (fun q H1 hP hD hS1 => zfin ok e el hi href hl hS1 (zR.push h1 h2 h5 hi hP hD rfl) kk)
  rw [hdf j hj]
  simp [vp_V, hN, hj]
theorem aw_newI {z : Int32} {N : Nat} (i : Nat) (hw : Cond.arrayClass .int ∈ M.2.2.1) (hz : ¬ z < 0) (hN : z.toNatClampNeg = N) (hsm : N * 4 ≤ 536870912) (hi : sh i = none) (href : zrefs sh (va_up sh i (some (.inr (0, N)))) ls st) (hk : k + 1 ≤ M.2.2.2.2.1 ∧ n + N ≤ M.2.2.2.2.2.1) (hd : decode M.1 pc = .ok (.newarray .int, 2))
    (kk : ∀ ρ, AW M X Q (pc + 2) ls (.ref i :: st) ρ (va_up sh i (some (.inr (0, N)))) (va_up F i (fun _ => 0)) (va_up P i (fun _ => none)) (k + 1) (n + N)) : AW M X Q pc ls (.int z :: st) ρ sh F P k n := by
  intro ok e el H locs lsA r hS hl
  obtain ⟨L, h1, h2, h3, h4, h5⟩ := r
  refine va_newa (atype := .int) (ty := .int) (a0 := (N, .inl (fun _ => 0))) ok.1 ok.2.1 (ok.2.2.2.2.1 _ hw) rfl ok.2.2.2.2.2.2.2.2.1.1 h3 h4 hS (fun q hq => Or.inr hq) (fun cA => rfl) hz hN hsm (by rw [ok.2.2.2.2.2.2.2.1]; exact hk.1) (by rw [ok.2.2.2.2.2.2.2.1]; exact hk.2) hd (fun q cA H1 hK1 hP hD hS1 => zfin ok e el hi href hl hS1 (zR.push h1 h2 h5 hi hP hD ?_) kk)
  have e1 : (zxs X).vm.findClass ("[" ++ FieldType.int.toString) = some cA := (hK1.2 3 _ rfl).2
  have e2 : (zxs X).vm.findClass ("[" ++ FieldType.int.toString) = some (zxC X).1 := (ok.2.2.2.2.2.2.2.2.1.1.2 0 _ rfl).2
  have e3 : cA = (zxC X).1 := Option.some.inj (e1.symm.trans e2)
  rw [e3]
  rfl
theorem aw_newS {z : Int32} {N index : Nat} (i : Nat) (hcl : Cond.classLink M.2.1 index RX3 ∈ M.2.2.1) (hz : ¬ z < 0) (hN : z.toNatClampNeg = N) (hsm : N * 4 ≤ 536870912) (hi : sh i = none) (href : zrefs sh (va_up sh i (some (.inr (2, N)))) ls st) (hk : k + 1 ≤ M.2.2.2.2.1 ∧ n + N ≤ M.2.2.2.2.2.1) (hd : decode M.1 pc = .ok (.anewarray index, 3))
    (kk : ∀ ρ, AW M X Q (pc + 3) ls (.ref i :: st) ρ (va_up sh i (some (.inr (2, N)))) (va_up F i (fun _ => 0)) (va_up P i (fun _ => none)) (k + 1) (n + N)) : AW M X Q pc ls (.int z :: st) ρ sh F P k n := by
  intro ok e el H locs lsA r hS hl
  obtain ⟨L, h1, h2, h3, h4, h5⟩ := r
  refine va_newq (C := RX3) ok.1 ok.2.1 ok.2.2.2.1 (ok.2.2.2.2.1 _ hcl) ok.2.2.2.2.2.2.2.2.1.2.2.2 ok.2.2.2.2.2.2.2.2.1.1 h3 h4 hS (fun q hq => Or.inr hq) hz hN hsm (by rw [ok.2.2.2.2.2.2.2.1]; exact hk.1) (by rw [ok.2.2.2.2.2.2.2.1]; exact hk.2) hd (fun q cA H1 hK1 hP hD hS1 => zfin ok e el hi href hl hS1 (zR.push h1 h2 h5 hi hP hD ?_) kk)
  obtain ⟨_, _, _, _, _, e1⟩ := (hK1.2 3 (cA, .object RX3) rfl).2
  obtain ⟨_, _, _, _, _, e2⟩ := (ok.2.2.2.2.2.2.2.2.1.1.2 2 _ rfl).2
  have e3 : cA = (zxC X).2.2 := Option.some.inj (e1.symm.trans e2)
  rw [e3]
  rfl
end ZNEW

