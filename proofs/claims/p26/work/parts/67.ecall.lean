/-! ===== 67.ecall: contracts whose end is only described; the script ===== -/
abbrev zPo : Type := Option Value → zSh → (Nat → Nat → Int32) → (Nat → Nat → Option Nat) → Prop
def zPostE (D : va_G) (cs : ClassId × ClassId × ClassId) (ρ : Nat → Nat) (sh : zSh) (sz : Nat) (Po : zPo) : Array Value → State → Outcome → State → Prop :=
  fun a st oc t => ∃ r sh' F' P', Po r sh' F' P' ∧ zPost D cs ρ sh sz r sh' F' P' a st oc t
def zMetE (y : MethodName) (ws : List Cond) (h mc ms : Nat) (as : List Value) (sh : zSh) (F : Nat → Nat → Int32) (P : Nat → Nat → Option Nat) (Po : zPo) : Prop :=
  ∀ (l : Launch) (D : va_G) (cs : ClassId × ClassId × ClassId) (ρ : Nat → Nat) (sz : Nat), Met l y ws (zrm h mc ms) (va_Pc (as.map (zV ρ)) (zPre D cs ρ sh F P sz)) (zPostE D cs ρ sh sz Po) mc ms (zA ρ sh sz)
def zMQE (M : ZM) (X : ZX) (Po : zPo) : State → Prop :=
  MQ (zxb X) (zPostE (zxD X) (zxC X) (zxr X) (zxh X) (zxs X).heap.size Po) (zxa X) (zxs X) M.2.2.2.2.1 M.2.2.2.2.2.1 (zAx X)
section ZEE
variable {M : ZM} {X : ZX} {Q : State → Prop} {pc : Nat} {ls : List (Option Value)} {st : List Value} {ρ : Nat → Nat} {sh : zSh} {F : Nat → Nat → Int32} {P : Nat → Nat → Option Nat} {k n : Nat}
theorem aw_zreturnE {v : Int32} {Po : zPo} (hret : M.2.2.2.2.2.2.1 = some .boolean) (hd : decode M.1 pc = .ok (.ireturn, 1)) (hk : k ≤ M.2.2.2.2.1 ∧ n ≤ M.2.2.2.2.2.1) (hv : v = 0 ∨ v = 1) (hP : Po (some (.int v)) sh F P) : AW M X (zMQE M X Po) pc ls [.int v] ρ sh F P k n := by
  intro ok e el H locs lsA rr hS hl
  exact W.widen hk.1 hk.2 (W.zret (ty := .boolean) ok.1 ok.2.1 (by rw [ok.2.2.2.2.2.2.1, hret]) (by rcases hv with rfl | rfl <;> rfl) (fun t ht hW => ⟨some (.int v), sh, F, P, hP, ⟨ρ, rfl, e, by rw [ht]; exact rr⟩, hS.F ht⟩) hS.2.2 hd ok.2.2.2.2.2.1)
theorem zcallE {Po : zPo} {mc ms : Nat} {a : Array Value} {H : Heap} {locs : List Loc} {lsA : Array Slot} {st0 rest : List Value}
    (hr : va_Run (zxp X) (zxl X) (zxe X) (zxR X) (zxs X) (zxm X) (zxa X) (zxb X) (zxt X) (zxc X) H locs k n mc ms (F0 (zxm X) pc lsA st0) rest (zPostE (zxD X) (zxC X) ρ sh H.size Po a) (zA ρ sh H.size))
    (hS : va_S (zAx X) (zxs X).heap H locs) (hAx : ∀ i, sh i ≠ none → zAx X (ρ i))
    (kk : ∀ (r : Option Value) (sh' : zSh) (F' : Nat → Nat → Int32) (P' : Nat → Nat → Option Nat) (ρ' : Nat → Nat) (H1 : Heap) (locs1 : List Loc), Po r sh' F' P' → zExt ρ sh ρ' sh' → zR (zxD X) (zxC X) ρ' sh' F' P' (zAx X) H1 → va_S (zAx X) (zxs X).heap H1 locs1 → W (zxp X) (zxl X) (zxe X) (zxR X) (zxs X) (zxm X) (zxa X) (zxb X) (zxt X) (zxc X) H1 locs1 (k + mc) (n + ms) Q (F0 (zxm X) (pc + 3) lsA ((r.map (zV ρ')).toList ++ rest))) :
    W (zxp X) (zxl X) (zxe X) (zxR X) (zxs X) (zxm X) (zxa X) (zxb X) (zxt X) (zxc X) H locs k n Q (F0 (zxm X) pc lsA st0) := by
  intro T hT X1
  obtain ⟨v, st₀, t, T', L, h0, X2, hL, e1, e2, ⟨r, sh', F', P', hPo, ⟨ρ', hv, he, hR⟩, hz, hk⟩, stp⟩ := hr T hT X1
  cases hv
  rw [h0] at hz hk
  have hA : ∀ q, zA ρ sh H.size q → zAx X q := by
    intro q hq
    rcases hq with ⟨i, h1, rfl⟩ | h1
    · exact hAx i h1
    · exact Or.inr (Nat.le_trans hS.1 h1)
  obtain ⟨t2, a1, b1⟩ := kk r sh' F' P' ρ' T'.heap (locs ++ L) hPo he (by rw [e1]; exact hR.weaken (fun i _ h => hA _ h)) ⟨Nat.le_trans hS.1 (by rw [e1]; exact hz), fun q h1 h2 => by
      rw [e1, hk q (Nat.lt_of_lt_of_le h1 hS.1) (fun z => h2 (hA q z))]
      exact hS.2.1 q h1 h2, fun q hq => by
      rcases List.mem_append.mp hq with h | h
      · exact hS.2.2 q h
      · exact hA _ (hL q h)⟩ T' rfl X2
  exact ⟨t2, stp t2 a1, b1⟩
def zRunE (M : ZM) (X : ZX) (pc : Nat) (st rest : List Value) (ρ : Nat → Nat) (sh : zSh) (F : Nat → Nat → Int32) (P : Nat → Nat → Option Nat) (k n mc ms : Nat) (Po : zPo) : Prop :=
  zok M X → ∀ (H : Heap) (locs : List Loc) (lsA : Array Slot), lsA.size = M.2.2.2.2.2.2.2.1 → zR (zxD X) (zxC X) ρ sh F P (zAx X) H → ∃ a, va_Run (zxp X) (zxl X) (zxe X) (zxR X) (zxs X) (zxm X) (zxa X) (zxb X) (zxt X) (zxc X) H locs k n mc ms (F0 (zxm X) pc lsA (st.map (zV ρ))) (rest.map (zV ρ)) (zPostE (zxD X) (zxC X) ρ sh H.size Po a) (zA ρ sh H.size)
theorem aw_runE {rest : List Value} {mc ms : Nat} {Po : zPo} (hr : zRunE M X pc st rest ρ sh F P k n mc ms Po) (h1 : ∀ j, some (Value.ref j) ∈ ls → sh j ≠ none) (h2 : ∀ j, Value.ref j ∈ rest → sh j ≠ none) (hn : ∀ sh' F' P', ¬ Po none sh' F' P')
    (kk : ∀ v ρ' sh' F' P', Po (some v) sh' F' P' → zExt ρ sh ρ' sh' → AW M X Q (pc + 3) ls (v :: rest) ρ' sh' F' P' (k + mc) (n + ms)) : AW M X Q pc ls st ρ sh F P k n := by
  intro ok e el H locs lsA rr hS hl
  obtain ⟨a, hr⟩ := hr ok H locs lsA (hl.1.trans el) rr
  refine zcallE hr hS (fun i hi => rr.inA hi) (fun r sh' F' P' ρ' H1 locs1 hP he hR hS1 => ?_)
  cases r with
  | none => exact absurd hP (hn sh' F' P')
  | some v =>
    have h := kk v ρ' sh' F' P' hP he ok (e.trans he) el H1 locs1 lsA hR hS1 (zL_ext hl (fun j hj => he.at (Or.inl (h1 j hj))))
    have h2 : (v :: rest).map (zV ρ') = ((some v).map (zV ρ')).toList ++ rest.map (zV ρ) := by
      rw [List.map_cons, zst_ext (fun j hj => he.at (Or.inl (h2 j hj)))]
      rfl
    rw [h2] at h
    exact h
variable {y : MethodName} {w : List Cond} {hc mc ms na index : Nat} {ret : Option FieldType} {as rest : List Value} {Po : zPo}
theorem zRun_SE (hM : zMetE y w hc mc ms as sh F P Po) (hG : GoodIn M.2.2.1 (va_wsS M.2.1 index y w)) (hq : zCal y w na ret) (hh : hc < M.2.2.2.1) (hna : as.length = na)
    (hst : st = as.reverse ++ rest) (hrest : (rest.map fun v => v.category).sum ≤ 8) (hd : decode M.1 pc = .ok (.invokestatic index, 3)) (hk : k + mc ≤ M.2.2.2.2.1 ∧ n + ms ≤ M.2.2.2.2.2.1) : zRunE M X pc st rest ρ sh F P k n mc ms Po := by
  intro ok H locs lsA hz rr
  obtain ⟨⟨bytes, maxL, w', hw, hmL⟩, hdy⟩ := hq
  have cw : CallB (zxR X) (zxs X) (zxa X) M.2.1 index y bytes maxL ret w (zrm hc mc ms) mc ms na ∧ (Cond.static y).before (zxa X) (zxs X) = true := va_cwS na ok.2.2.2.2.1 hG hw rfl rfl hdy (by rw [ok.2.2.2.2.2.2.2.1]; exact zroom hh hmL)
  refine ⟨_, va_runS (As := as.map (zV ρ)) (rest := rest.map (zV ρ)) ⟨ok.1, ok.2.1, ok.2.2.1, ok.2.2.2.1, ok.2.2.2.2.1⟩ (hM (zxl X) (zxD X) (zxC X) ρ H.size) cw ⟨zPre_blind, fun U hU hW => ⟨rfl, by rw [hU], by rw [hU]; exact rr.weaken (fun _ _ _ => trivial), ok.2.2.2.2.2.2.2.2.1.warm hW⟩⟩ rfl (by rw [List.length_map]; exact hna) hz (by subst hst; show List.map (zV ρ) (as.reverse ++ rest) = _; rw [List.map_append, List.map_reverse]) (lv_room (by rw [zcat]; exact hrest)) hd (by rw [ok.2.2.2.2.2.2.2.1]; exact hk)⟩
end ZEE
theorem zMetE.of {y : MethodName} {ws ws' : List Cond} {cc : ByteArray} {maxL h mc ms : Nat} {ret : Option FieldType} {as : List Value} {sh : zSh} {F : Nat → Nat → Int32} {P : Nat → Nat → Option Nat} {Po : zPo}
    (hy : plainName y.cls = true) (hw : ws = Cond.code y cc maxL ret :: ws') (hlen : as.length ≤ maxL) (hc1 : ∀ v ∈ as, v.category = 1)
    (body : ∀ (X : ZX) (ρ : Nat → Nat), AW (cc, y.cls, ws, h, mc, ms, ret, maxL, y.name) X (zMQE (cc, y.cls, ws, h, mc, ms, ret, maxL, y.name) X Po) 0 (as.map some ++ List.replicate (maxL - as.length) none) [] ρ sh F P 0 0) : zMetE y ws h mc ms as sh F P Po := by
  intro l D cs ρ sz
  refine Met.ofW (cc := cc) (maxL := maxL) (ret := ret) hy hw ?_
  intro p e s m args below meth c s₁ B hml hv
  obtain ⟨rfl, hsz, hR, hK⟩ := hv
  subst hsz
  have hc1' : ∀ v ∈ as.map (zV ρ), v.category = 1 := by
    intro v hv
    obtain ⟨u, hu, rfl⟩ := List.mem_map.mp hv
    rw [zV_cat]
    exact hc1 u hu
  have hl := lv_entry (as.map (zV ρ)) (n := maxL) (by rw [zlg_len _ hc1', List.length_map]; exact hlen)
  rw [lg_entry_eq]
  generalize (lg_sl (as.map (zV ρ)) ++ List.replicate (maxL - (lg_sl (as.map (zV ρ))).length) Slot.unset).toArray = lsA at hl ⊢
  have key := body (p, l, e, (headSpec ws (zrm h mc ms)).room, s, m, (as.map (zV ρ)).toArray, below, meth, c, D, cs, ρ, sh) ρ
    ⟨B.exec, B.bytes, hml, findClass_of_methodNamed B.named, atoms_spec (ws := ws) B.pre, B.notSynchronized, B.returns, rfl, hK, (name_of_methodNamed B.named B.method).1⟩ zExt.refl
    (by show (as.map some ++ List.replicate (maxL - as.length) none).length = maxL; simp; omega) s.heap [] lsA (hR.weaken (fun i hi _ => Or.inl ⟨i, hi, rfl⟩)) va_S.rf
    ⟨by rw [hl.1]; simp; omega, hl.2.1, fun i v hv => by
      have hi : as[i]? = some v := by
        by_cases h2 : i < as.length
        · rw [List.getElem?_append_left (by simpa using h2), List.getElem?_map] at hv
          cases hx : as[i]? with
          | none => rw [hx] at hv; cases hv
          | some u => rw [hx] at hv; cases hv; rfl
        · rw [List.getElem?_append_right (by simp; omega)] at hv
          have := List.eq_of_mem_replicate (List.mem_of_getElem? hv)
          cases this
      refine ⟨?_, hc1 v (List.mem_of_getElem? hi)⟩
      have := hl.2.2 _ (zargs_mem (as.map (zV ρ)) 0 hc1' i (zV ρ v) (by rw [List.getElem?_map, hi]; rfl))
      simpa using this⟩
  exact key
