/-! ===== 96.lawC: the law's cases ===== -/
section LCASE
variable {nm : String} {X : ZX} {Q : State → Prop} {ρ : Nat → Nat} {sh : zSh} {F : Nat → Nat → Int32} {P : Nat → Nat → Option Nat} {k n N L i : Nat} {xs : Nat → Int32}
/-- what comes behind a case -/
def lwNext (nm : String) (X : ZX) (Q : State → Prop) (N i : Nat) (k n : Nat) : Prop := ∀ (ρ : Nat → Nat) (sh : zSh) (F : Nat → Nat → Int32) (P : Nat → Nat → Option Nat) (mc ms : Nat), mc ≤ 17 → ms ≤ 497 → LI (N + 60000) sh F P 1 → sh 0 = none → AW (lwM nm) X Q 799 (lwL i) [] ρ sh F P (k + mc) (n + ms)
set_option maxRecDepth 20000 in
theorem lwc_recipe (hX : lwX X L xs) (hi : i + 4 ≤ L) (hL : LI N sh F P 1) (h0 : sh 0 = none) (hk : k + 17 ≤ 600000) (hn : n + 497 ≤ 7302250) (next : lwNext nm X Q N i k n) : AW (lwM nm) X Q 140 (lwL i) [] ρ sh F P k n := by
  obtain ⟨a1, a42⟩ := hL.at1
  have n1 : sh 1 ≠ none := fun e => by rw [a1] at e; cases e
  have n42 : sh 42 ≠ none := fun e => by rw [a42] at e; cases e
  obtain ⟨z, mc, ms, sh2, F2, F3, P2, b1, b2, m1, m2, hs, hL2⟩ := k_recipe hL 
  have h02 : sh2 0 = none := (hs 0 (by decide)).trans h0
  have a42b := hL2.at1.2
  refine aw_aload_1 dL_law_140 ?_
  refine aw_runA (zRun_V m1 gL_law_X6_recipe q_X6_recipe rfl (show (6 : Nat) < 1398 by decide) (T := TX6) (N := 11) (ci := 6) rfl a1 rfl rfl (Nat.le_of_ble_eq_true rfl) dL_law_141 ⟨(show k + mc ≤ 600000 by omega), (show n + ms ≤ 7302250 by omega)⟩) (lw_refs n1 n42 h02 (fun j hj => by cases hj)) (fun ρ2 => ?_)
  refine aw_aload_2 dL_law_144 ?_
  refine aw_run (zRun_V m2 gL_law_X7_recipe q_X7_recipe rfl (show (5 : Nat) < 1398 by decide) (T := TX7) (N := 29) (ci := 7) rfl a42b rfl rfl (Nat.le_of_ble_eq_true rfl) dL_law_145 ⟨(show k + mc + 0 ≤ 600000 by omega), (show n + ms + 0 ≤ 7302250 by omega)⟩) ?_
  exact aw_icmp_eq (tgt := 799) dL_law_148 (by decide) (fun _ => next ρ2 sh2 F3 P2 mc ms b1 b2 hL2 h02) (fun c => absurd rfl c)
set_option maxRecDepth 20000 in
theorem lwc_forget (hX : lwX X L xs) (hi : i + 4 ≤ L) (hL : LI N sh F P 1) (h0 : sh 0 = none) (hk : k + 17 ≤ 600000) (hn : n + 497 ≤ 7302250) (next : lwNext nm X Q N i k n) : AW (lwM nm) X Q 153 (lwL i) [] ρ sh F P k n := by
  obtain ⟨a1, a42⟩ := hL.at1
  have n1 : sh 1 ≠ none := fun e => by rw [a1] at e; cases e
  have n42 : sh 42 ≠ none := fun e => by rw [a42] at e; cases e
  obtain ⟨z, mc, ms, sh2, F2, F3, P2, b1, b2, m1, m2, hs, hL2⟩ := k_forget hL (xs (i + 1))
  have h02 : sh2 0 = none := (hs 0 (by decide)).trans h0
  have a42b := hL2.at1.2
  refine aw_aload_1 dL_law_153 ?_
  refine aw_arg 1 hX h0 (by omega) dL_law_154 dL_law_155 dL_law_156 (by decide) dL_law_157 dL_law_158 ?_
  refine aw_runA (zRun_V m1 gL_law_X6_forget q_X6_forget rfl (show (6 : Nat) < 1398 by decide) (T := TX6) (N := 11) (ci := 6) rfl a1 rfl rfl (Nat.le_of_ble_eq_true rfl) dL_law_159 ⟨(show k + mc ≤ 600000 by omega), (show n + ms ≤ 7302250 by omega)⟩) (lw_refs n1 n42 h02 (fun j hj => by cases hj)) (fun ρ2 => ?_)
  refine aw_aload_2 dL_law_162 ?_
  refine aw_arg 1 hX h02 (by omega) dL_law_163 dL_law_164 dL_law_165 (by decide) dL_law_166 dL_law_167 ?_
  refine aw_run (zRun_V m2 gL_law_X7_forget q_X7_forget rfl (show (3 : Nat) < 1398 by decide) (T := TX7) (N := 29) (ci := 7) rfl a42b rfl rfl (Nat.le_of_ble_eq_true rfl) dL_law_168 ⟨(show k + mc + 0 ≤ 600000 by omega), (show n + ms + 0 ≤ 7302250 by omega)⟩) ?_
  exact aw_icmp_eq (tgt := 799) dL_law_171 (by decide) (fun _ => next ρ2 sh2 F3 P2 mc ms b1 b2 hL2 h02) (fun c => absurd rfl c)
set_option maxRecDepth 20000 in
theorem lwc_allow (hX : lwX X L xs) (hi : i + 4 ≤ L) (hL : LI N sh F P 1) (h0 : sh 0 = none) (hk : k + 17 ≤ 600000) (hn : n + 497 ≤ 7302250) (next : lwNext nm X Q N i k n) : AW (lwM nm) X Q 176 (lwL i) [] ρ sh F P k n := by
  obtain ⟨a1, a42⟩ := hL.at1
  have n1 : sh 1 ≠ none := fun e => by rw [a1] at e; cases e
  have n42 : sh 42 ≠ none := fun e => by rw [a42] at e; cases e
  obtain ⟨z, mc, ms, sh2, F2, F3, P2, b1, b2, m1, m2, hs, hL2⟩ := k_allow hL (xs (i + 1)) (xs (i + 2))
  have h02 : sh2 0 = none := (hs 0 (by decide)).trans h0
  have a42b := hL2.at1.2
  refine aw_aload_1 dL_law_176 ?_
  refine aw_arg 1 hX h0 (by omega) dL_law_177 dL_law_178 dL_law_179 (by decide) dL_law_180 dL_law_181 ?_
  refine aw_arg 2 hX h0 (by omega) dL_law_182 dL_law_183 dL_law_184 (by decide) dL_law_185 dL_law_186 ?_
  refine aw_runA (zRun_V m1 gL_law_X6_allow q_X6_allow rfl (show (6 : Nat) < 1398 by decide) (T := TX6) (N := 11) (ci := 6) rfl a1 rfl rfl (Nat.le_of_ble_eq_true rfl) dL_law_187 ⟨(show k + mc ≤ 600000 by omega), (show n + ms ≤ 7302250 by omega)⟩) (lw_refs n1 n42 h02 (fun j hj => by cases hj)) (fun ρ2 => ?_)
  refine aw_aload_2 dL_law_190 ?_
  refine aw_arg 1 hX h02 (by omega) dL_law_191 dL_law_192 dL_law_193 (by decide) dL_law_194 dL_law_195 ?_
  refine aw_arg 2 hX h02 (by omega) dL_law_196 dL_law_197 dL_law_198 (by decide) dL_law_199 dL_law_200 ?_
  refine aw_run (zRun_V m2 gL_law_X7_allow q_X7_allow rfl (show (5 : Nat) < 1398 by decide) (T := TX7) (N := 29) (ci := 7) rfl a42b rfl rfl (Nat.le_of_ble_eq_true rfl) dL_law_201 ⟨(show k + mc + 0 ≤ 600000 by omega), (show n + ms + 0 ≤ 7302250 by omega)⟩) ?_
  exact aw_icmp_eq (tgt := 799) dL_law_204 (by decide) (fun _ => next ρ2 sh2 F3 P2 mc ms b1 b2 hL2 h02) (fun c => absurd rfl c)
set_option maxRecDepth 20000 in
theorem lwc_forbid (hX : lwX X L xs) (hi : i + 4 ≤ L) (hL : LI N sh F P 1) (h0 : sh 0 = none) (hk : k + 17 ≤ 600000) (hn : n + 497 ≤ 7302250) (next : lwNext nm X Q N i k n) : AW (lwM nm) X Q 209 (lwL i) [] ρ sh F P k n := by
  obtain ⟨a1, a42⟩ := hL.at1
  have n1 : sh 1 ≠ none := fun e => by rw [a1] at e; cases e
  have n42 : sh 42 ≠ none := fun e => by rw [a42] at e; cases e
  obtain ⟨z, mc, ms, sh2, F2, F3, P2, b1, b2, m1, m2, hs, hL2⟩ := k_forbid hL (xs (i + 1)) (xs (i + 2))
  have h02 : sh2 0 = none := (hs 0 (by decide)).trans h0
  have a42b := hL2.at1.2
  refine aw_aload_1 dL_law_209 ?_
  refine aw_arg 1 hX h0 (by omega) dL_law_210 dL_law_211 dL_law_212 (by decide) dL_law_213 dL_law_214 ?_
  refine aw_arg 2 hX h0 (by omega) dL_law_215 dL_law_216 dL_law_217 (by decide) dL_law_218 dL_law_219 ?_
  refine aw_runA (zRun_V m1 gL_law_X6_forbid q_X6_forbid rfl (show (6 : Nat) < 1398 by decide) (T := TX6) (N := 11) (ci := 6) rfl a1 rfl rfl (Nat.le_of_ble_eq_true rfl) dL_law_220 ⟨(show k + mc ≤ 600000 by omega), (show n + ms ≤ 7302250 by omega)⟩) (lw_refs n1 n42 h02 (fun j hj => by cases hj)) (fun ρ2 => ?_)
  refine aw_aload_2 dL_law_223 ?_
  refine aw_arg 1 hX h02 (by omega) dL_law_224 dL_law_225 dL_law_226 (by decide) dL_law_227 dL_law_228 ?_
  refine aw_arg 2 hX h02 (by omega) dL_law_229 dL_law_230 dL_law_231 (by decide) dL_law_232 dL_law_233 ?_
  refine aw_run (zRun_V m2 gL_law_X7_forbid q_X7_forbid rfl (show (3 : Nat) < 1398 by decide) (T := TX7) (N := 29) (ci := 7) rfl a42b rfl rfl (Nat.le_of_ble_eq_true rfl) dL_law_234 ⟨(show k + mc + 0 ≤ 600000 by omega), (show n + ms + 0 ≤ 7302250 by omega)⟩) ?_
  exact aw_icmp_eq (tgt := 799) dL_law_237 (by decide) (fun _ => next ρ2 sh2 F3 P2 mc ms b1 b2 hL2 h02) (fun c => absurd rfl c)
set_option maxRecDepth 20000 in
theorem lwc_vessel (hX : lwX X L xs) (hi : i + 4 ≤ L) (hL : LI N sh F P 1) (h0 : sh 0 = none) (hk : k + 17 ≤ 600000) (hn : n + 497 ≤ 7302250) (next : lwNext nm X Q N i k n) : AW (lwM nm) X Q 242 (lwL i) [] ρ sh F P k n := by
  obtain ⟨a1, a42⟩ := hL.at1
  have n1 : sh 1 ≠ none := fun e => by rw [a1] at e; cases e
  have n42 : sh 42 ≠ none := fun e => by rw [a42] at e; cases e
  obtain ⟨z, mc, ms, sh2, F2, F3, P2, b1, b2, m1, m2, hs, hL2⟩ := k_vessel hL (xs (i + 1)) (xs (i + 2))
  have h02 : sh2 0 = none := (hs 0 (by decide)).trans h0
  have a42b := hL2.at1.2
  refine aw_aload_1 dL_law_242 ?_
  refine aw_arg 1 hX h0 (by omega) dL_law_243 dL_law_244 dL_law_245 (by decide) dL_law_246 dL_law_247 ?_
  refine aw_arg 2 hX h0 (by omega) dL_law_248 dL_law_249 dL_law_250 (by decide) dL_law_251 dL_law_252 ?_
  refine aw_runA (zRun_V m1 gL_law_X6_vessel q_X6_vessel rfl (show (6 : Nat) < 1398 by decide) (T := TX6) (N := 11) (ci := 6) rfl a1 rfl rfl (Nat.le_of_ble_eq_true rfl) dL_law_253 ⟨(show k + mc ≤ 600000 by omega), (show n + ms ≤ 7302250 by omega)⟩) (lw_refs n1 n42 h02 (fun j hj => by cases hj)) (fun ρ2 => ?_)
  refine aw_aload_2 dL_law_256 ?_
  refine aw_arg 1 hX h02 (by omega) dL_law_257 dL_law_258 dL_law_259 (by decide) dL_law_260 dL_law_261 ?_
  refine aw_arg 2 hX h02 (by omega) dL_law_262 dL_law_263 dL_law_264 (by decide) dL_law_265 dL_law_266 ?_
  refine aw_run (zRun_V m2 gL_law_X7_vessel q_X7_vessel rfl (show (3 : Nat) < 1398 by decide) (T := TX7) (N := 29) (ci := 7) rfl a42b rfl rfl (Nat.le_of_ble_eq_true rfl) dL_law_267 ⟨(show k + mc + 0 ≤ 600000 by omega), (show n + ms + 0 ≤ 7302250 by omega)⟩) ?_
  exact aw_icmp_eq (tgt := 799) dL_law_270 (by decide) (fun _ => next ρ2 sh2 F3 P2 mc ms b1 b2 hL2 h02) (fun c => absurd rfl c)
set_option maxRecDepth 20000 in
theorem lwc_bring (hX : lwX X L xs) (hi : i + 4 ≤ L) (hL : LI N sh F P 1) (h0 : sh 0 = none) (hk : k + 17 ≤ 600000) (hn : n + 497 ≤ 7302250) (next : lwNext nm X Q N i k n) : AW (lwM nm) X Q 275 (lwL i) [] ρ sh F P k n := by
  obtain ⟨a1, a42⟩ := hL.at1
  have n1 : sh 1 ≠ none := fun e => by rw [a1] at e; cases e
  have n42 : sh 42 ≠ none := fun e => by rw [a42] at e; cases e
  obtain ⟨z, mc, ms, sh2, F2, F3, P2, b1, b2, m1, m2, hs, hL2⟩ := k_bring hL (xs (i + 1)) (xs (i + 2))
  have h02 : sh2 0 = none := (hs 0 (by decide)).trans h0
  have a42b := hL2.at1.2
  refine aw_aload_1 dL_law_275 ?_
  refine aw_arg 1 hX h0 (by omega) dL_law_276 dL_law_277 dL_law_278 (by decide) dL_law_279 dL_law_280 ?_
  refine aw_arg 2 hX h0 (by omega) dL_law_281 dL_law_282 dL_law_283 (by decide) dL_law_284 dL_law_285 ?_
  refine aw_runA (zRun_V m1 gL_law_X6_bring q_X6_bring rfl (show (6 : Nat) < 1398 by decide) (T := TX6) (N := 11) (ci := 6) rfl a1 rfl rfl (Nat.le_of_ble_eq_true rfl) dL_law_286 ⟨(show k + mc ≤ 600000 by omega), (show n + ms ≤ 7302250 by omega)⟩) (lw_refs n1 n42 h02 (fun j hj => by cases hj)) (fun ρ2 => ?_)
  refine aw_aload_2 dL_law_289 ?_
  refine aw_arg 1 hX h02 (by omega) dL_law_290 dL_law_291 dL_law_292 (by decide) dL_law_293 dL_law_294 ?_
  refine aw_arg 2 hX h02 (by omega) dL_law_295 dL_law_296 dL_law_297 (by decide) dL_law_298 dL_law_299 ?_
  refine aw_run (zRun_V m2 gL_law_X7_bring q_X7_bring rfl (show (3 : Nat) < 1398 by decide) (T := TX7) (N := 29) (ci := 7) rfl a42b rfl rfl (Nat.le_of_ble_eq_true rfl) dL_law_300 ⟨(show k + mc + 0 ≤ 600000 by omega), (show n + ms + 0 ≤ 7302250 by omega)⟩) ?_
  exact aw_icmp_eq (tgt := 799) dL_law_303 (by decide) (fun _ => next ρ2 sh2 F3 P2 mc ms b1 b2 hL2 h02) (fun c => absurd rfl c)
set_option maxRecDepth 20000 in
theorem lwc_wish (hX : lwX X L xs) (hi : i + 4 ≤ L) (hL : LI N sh F P 1) (h0 : sh 0 = none) (hk : k + 17 ≤ 600000) (hn : n + 497 ≤ 7302250) (next : lwNext nm X Q N i k n) : AW (lwM nm) X Q 308 (lwL i) [] ρ sh F P k n := by
  obtain ⟨a1, a42⟩ := hL.at1
  have n1 : sh 1 ≠ none := fun e => by rw [a1] at e; cases e
  have n42 : sh 42 ≠ none := fun e => by rw [a42] at e; cases e
  obtain ⟨z, mc, ms, sh2, F2, F3, P2, b1, b2, m1, m2, hs, hL2⟩ := k_wish hL (xs (i + 1)) (xs (i + 2))
  have h02 : sh2 0 = none := (hs 0 (by decide)).trans h0
  have a42b := hL2.at1.2
  refine aw_aload_1 dL_law_308 ?_
  refine aw_arg 1 hX h0 (by omega) dL_law_309 dL_law_310 dL_law_311 (by decide) dL_law_312 dL_law_313 ?_
  refine aw_arg 2 hX h0 (by omega) dL_law_314 dL_law_315 dL_law_316 (by decide) dL_law_317 dL_law_318 ?_
  refine aw_runA (zRun_V m1 gL_law_X6_wish q_X6_wish rfl (show (42 : Nat) < 1398 by decide) (T := TX6) (N := 11) (ci := 6) rfl a1 rfl rfl (Nat.le_of_ble_eq_true rfl) dL_law_319 ⟨(show k + mc ≤ 600000 by omega), (show n + ms ≤ 7302250 by omega)⟩) (lw_refs n1 n42 h02 (fun j hj => by cases hj)) (fun ρ2 => ?_)
  refine aw_aload_2 dL_law_322 ?_
  refine aw_arg 1 hX h02 (by omega) dL_law_323 dL_law_324 dL_law_325 (by decide) dL_law_326 dL_law_327 ?_
  refine aw_arg 2 hX h02 (by omega) dL_law_328 dL_law_329 dL_law_330 (by decide) dL_law_331 dL_law_332 ?_
  refine aw_run (zRun_V m2 gL_law_X7_wish q_X7_wish rfl (show (8 : Nat) < 1398 by decide) (T := TX7) (N := 29) (ci := 7) rfl a42b rfl rfl (Nat.le_of_ble_eq_true rfl) dL_law_333 ⟨(show k + mc + 0 ≤ 600000 by omega), (show n + ms + 0 ≤ 7302250 by omega)⟩) ?_
  exact aw_icmp_eq (tgt := 799) dL_law_336 (by decide) (fun _ => next ρ2 sh2 F3 P2 mc ms b1 b2 hL2 h02) (fun c => absurd rfl c)
set_option maxRecDepth 20000 in
theorem lwc_make (hX : lwX X L xs) (hi : i + 4 ≤ L) (hL : LI N sh F P 1) (h0 : sh 0 = none) (hk : k + 17 ≤ 600000) (hn : n + 497 ≤ 7302250) (next : lwNext nm X Q N i k n) : AW (lwM nm) X Q 341 (lwL i) [] ρ sh F P k n := by
  obtain ⟨a1, a42⟩ := hL.at1
  have n1 : sh 1 ≠ none := fun e => by rw [a1] at e; cases e
  have n42 : sh 42 ≠ none := fun e => by rw [a42] at e; cases e
  obtain ⟨z, mc, ms, sh2, F2, F3, P2, b1, b2, m1, m2, hs, hL2⟩ := k_make hL (xs (i + 1)) (xs (i + 2))
  have h02 : sh2 0 = none := (hs 0 (by decide)).trans h0
  have a42b := hL2.at1.2
  refine aw_aload_1 dL_law_341 ?_
  refine aw_arg 1 hX h0 (by omega) dL_law_342 dL_law_343 dL_law_344 (by decide) dL_law_345 dL_law_346 ?_
  refine aw_arg 2 hX h0 (by omega) dL_law_347 dL_law_348 dL_law_349 (by decide) dL_law_350 dL_law_351 ?_
  refine aw_runA (zRun_V m1 gL_law_X6_make q_X6_make rfl (show (42 : Nat) < 1398 by decide) (T := TX6) (N := 11) (ci := 6) rfl a1 rfl rfl (Nat.le_of_ble_eq_true rfl) dL_law_352 ⟨(show k + mc ≤ 600000 by omega), (show n + ms ≤ 7302250 by omega)⟩) (lw_refs n1 n42 h02 (fun j hj => by cases hj)) (fun ρ2 => ?_)
  refine aw_aload_2 dL_law_355 ?_
  refine aw_arg 1 hX h02 (by omega) dL_law_356 dL_law_357 dL_law_358 (by decide) dL_law_359 dL_law_360 ?_
  refine aw_arg 2 hX h02 (by omega) dL_law_361 dL_law_362 dL_law_363 (by decide) dL_law_364 dL_law_365 ?_
  refine aw_run (zRun_V m2 gL_law_X7_make q_X7_make rfl (show (7 : Nat) < 1398 by decide) (T := TX7) (N := 29) (ci := 7) rfl a42b rfl rfl (Nat.le_of_ble_eq_true rfl) dL_law_366 ⟨(show k + mc + 0 ≤ 600000 by omega), (show n + ms + 0 ≤ 7302250 by omega)⟩) ?_
  exact aw_icmp_eq (tgt := 799) dL_law_369 (by decide) (fun _ => next ρ2 sh2 F3 P2 mc ms b1 b2 hL2 h02) (fun c => absurd rfl c)
set_option maxRecDepth 20000 in
theorem lwc_undo (hX : lwX X L xs) (hi : i + 4 ≤ L) (hL : LI N sh F P 1) (h0 : sh 0 = none) (hk : k + 17 ≤ 600000) (hn : n + 497 ≤ 7302250) (next : lwNext nm X Q N i k n) : AW (lwM nm) X Q 374 (lwL i) [] ρ sh F P k n := by
  obtain ⟨a1, a42⟩ := hL.at1
  have n1 : sh 1 ≠ none := fun e => by rw [a1] at e; cases e
  have n42 : sh 42 ≠ none := fun e => by rw [a42] at e; cases e
  obtain ⟨z, mc, ms, sh2, F2, F3, P2, b1, b2, m1, m2, hs, hL2⟩ := k_undo hL 
  have h02 : sh2 0 = none := (hs 0 (by decide)).trans h0
  have a42b := hL2.at1.2
  refine aw_aload_1 dL_law_374 ?_
  refine aw_runA (zRun_V m1 gL_law_X6_undo q_X6_undo rfl (show (6 : Nat) < 1398 by decide) (T := TX6) (N := 11) (ci := 6) rfl a1 rfl rfl (Nat.le_of_ble_eq_true rfl) dL_law_375 ⟨(show k + mc ≤ 600000 by omega), (show n + ms ≤ 7302250 by omega)⟩) (lw_refs n1 n42 h02 (fun j hj => by cases hj)) (fun ρ2 => ?_)
  refine aw_aload_2 dL_law_378 ?_
  refine aw_run (zRun_V m2 gL_law_X7_undo q_X7_undo rfl (show (1 : Nat) < 1398 by decide) (T := TX7) (N := 29) (ci := 7) rfl a42b rfl rfl (Nat.le_of_ble_eq_true rfl) dL_law_379 ⟨(show k + mc + 0 ≤ 600000 by omega), (show n + ms + 0 ≤ 7302250 by omega)⟩) ?_
  exact aw_icmp_eq (tgt := 799) dL_law_382 (by decide) (fun _ => next ρ2 sh2 F3 P2 mc ms b1 b2 hL2 h02) (fun c => absurd rfl c)
set_option maxRecDepth 20000 in
theorem lwc_write (hX : lwX X L xs) (hi : i + 4 ≤ L) (hL : LI N sh F P 1) (h0 : sh 0 = none) (hk : k + 17 ≤ 600000) (hn : n + 497 ≤ 7302250) (next : lwNext nm X Q N i k n) : AW (lwM nm) X Q 387 (lwL i) [] ρ sh F P k n := by
  obtain ⟨a1, a42⟩ := hL.at1
  have n1 : sh 1 ≠ none := fun e => by rw [a1] at e; cases e
  have n42 : sh 42 ≠ none := fun e => by rw [a42] at e; cases e
  obtain ⟨z, mc, ms, sh2, F2, F3, P2, b1, b2, m1, m2, hs, hL2⟩ := k_write hL (xs (i + 1))
  have h02 : sh2 0 = none := (hs 0 (by decide)).trans h0
  have a42b := hL2.at1.2
  refine aw_aload_1 dL_law_387 ?_
  refine aw_arg 1 hX h0 (by omega) dL_law_388 dL_law_389 dL_law_390 (by decide) dL_law_391 dL_law_392 ?_
  refine aw_runA (zRun_V m1 gL_law_X6_write q_X6_write rfl (show (2 : Nat) < 1398 by decide) (T := TX6) (N := 11) (ci := 6) rfl a1 rfl rfl (Nat.le_of_ble_eq_true rfl) dL_law_393 ⟨(show k + mc ≤ 600000 by omega), (show n + ms ≤ 7302250 by omega)⟩) (lw_refs n1 n42 h02 (fun j hj => by cases hj)) (fun ρ2 => ?_)
  refine aw_aload_2 dL_law_396 ?_
  refine aw_arg 1 hX h02 (by omega) dL_law_397 dL_law_398 dL_law_399 (by decide) dL_law_400 dL_law_401 ?_
  refine aw_run (zRun_V m2 gL_law_X7_write q_X7_write rfl (show (2 : Nat) < 1398 by decide) (T := TX7) (N := 29) (ci := 7) rfl a42b rfl rfl (Nat.le_of_ble_eq_true rfl) dL_law_402 ⟨(show k + mc + 0 ≤ 600000 by omega), (show n + ms + 0 ≤ 7302250 by omega)⟩) ?_
  exact aw_icmp_eq (tgt := 799) dL_law_405 (by decide) (fun _ => next ρ2 sh2 F3 P2 mc ms b1 b2 hL2 h02) (fun c => absurd rfl c)
set_option maxRecDepth 20000 in
theorem lwc_wipe (hX : lwX X L xs) (hi : i + 4 ≤ L) (hL : LI N sh F P 1) (h0 : sh 0 = none) (hk : k + 17 ≤ 600000) (hn : n + 497 ≤ 7302250) (next : lwNext nm X Q N i k n) : AW (lwM nm) X Q 410 (lwL i) [] ρ sh F P k n := by
  obtain ⟨a1, a42⟩ := hL.at1
  have n1 : sh 1 ≠ none := fun e => by rw [a1] at e; cases e
  have n42 : sh 42 ≠ none := fun e => by rw [a42] at e; cases e
  obtain ⟨z, mc, ms, sh2, F2, F3, P2, b1, b2, m1, m2, hs, hL2⟩ := k_wipe hL 
  have h02 : sh2 0 = none := (hs 0 (by decide)).trans h0
  have a42b := hL2.at1.2
  refine aw_aload_1 dL_law_410 ?_
  refine aw_runA (zRun_V m1 gL_law_X6_wipe q_X6_wipe rfl (show (1 : Nat) < 1398 by decide) (T := TX6) (N := 11) (ci := 6) rfl a1 rfl rfl (Nat.le_of_ble_eq_true rfl) dL_law_411 ⟨(show k + mc ≤ 600000 by omega), (show n + ms ≤ 7302250 by omega)⟩) (lw_refs n1 n42 h02 (fun j hj => by cases hj)) (fun ρ2 => ?_)
  refine aw_aload_2 dL_law_414 ?_
  refine aw_run (zRun_V m2 gL_law_X7_wipe q_X7_wipe rfl (show (1 : Nat) < 1398 by decide) (T := TX7) (N := 29) (ci := 7) rfl a42b rfl rfl (Nat.le_of_ble_eq_true rfl) dL_law_415 ⟨(show k + mc + 0 ≤ 600000 by omega), (show n + ms + 0 ≤ 7302250 by omega)⟩) ?_
  exact aw_icmp_eq (tgt := 799) dL_law_418 (by decide) (fun _ => next ρ2 sh2 F3 P2 mc ms b1 b2 hL2 h02) (fun c => absurd rfl c)
set_option maxRecDepth 20000 in
theorem lwc_fault (hX : lwX X L xs) (hi : i + 4 ≤ L) (hL : LI N sh F P 1) (h0 : sh 0 = none) (hk : k + 17 ≤ 600000) (hn : n + 497 ≤ 7302250) (next : lwNext nm X Q N i k n) : AW (lwM nm) X Q 423 (lwL i) [] ρ sh F P k n := by
  obtain ⟨a1, a42⟩ := hL.at1
  have n1 : sh 1 ≠ none := fun e => by rw [a1] at e; cases e
  have n42 : sh 42 ≠ none := fun e => by rw [a42] at e; cases e
  obtain ⟨z, mc, ms, sh2, F2, F3, P2, b1, b2, m1, m2, hs, hL2⟩ := k_fault hL (xs (i + 1))
  have h02 : sh2 0 = none := (hs 0 (by decide)).trans h0
  have a42b := hL2.at1.2
  refine aw_aload_1 dL_law_423 ?_
  refine aw_arg 1 hX h0 (by omega) dL_law_424 dL_law_425 dL_law_426 (by decide) dL_law_427 dL_law_428 ?_
  refine aw_runA (zRun_V m1 gL_law_X6_fault q_X6_fault rfl (show (1 : Nat) < 1398 by decide) (T := TX6) (N := 11) (ci := 6) rfl a1 rfl rfl (Nat.le_of_ble_eq_true rfl) dL_law_429 ⟨(show k + mc ≤ 600000 by omega), (show n + ms ≤ 7302250 by omega)⟩) (lw_refs n1 n42 h02 (fun j hj => by cases hj)) (fun ρ2 => ?_)
  refine aw_aload_2 dL_law_432 ?_
  refine aw_arg 1 hX h02 (by omega) dL_law_433 dL_law_434 dL_law_435 (by decide) dL_law_436 dL_law_437 ?_
  refine aw_run (zRun_V m2 gL_law_X7_fault q_X7_fault rfl (show (1 : Nat) < 1398 by decide) (T := TX7) (N := 29) (ci := 7) rfl a42b rfl rfl (Nat.le_of_ble_eq_true rfl) dL_law_438 ⟨(show k + mc + 0 ≤ 600000 by omega), (show n + ms + 0 ≤ 7302250 by omega)⟩) ?_
  exact aw_icmp_eq (tgt := 799) dL_law_441 (by decide) (fun _ => next ρ2 sh2 F3 P2 mc ms b1 b2 hL2 h02) (fun c => absurd rfl c)
set_option maxRecDepth 20000 in
theorem lwc_told (hX : lwX X L xs) (hi : i + 4 ≤ L) (hL : LI N sh F P 1) (h0 : sh 0 = none) (hk : k + 17 ≤ 600000) (hn : n + 497 ≤ 7302250) (next : lwNext nm X Q N i k n) : AW (lwM nm) X Q 446 (lwL i) [] ρ sh F P k n := by
  obtain ⟨a1, a42⟩ := hL.at1
  have n1 : sh 1 ≠ none := fun e => by rw [a1] at e; cases e
  have n42 : sh 42 ≠ none := fun e => by rw [a42] at e; cases e
  obtain ⟨z, mc, ms, sh2, F2, F3, P2, b1, b2, m1, m2, hs, hL2⟩ := k_told hL (xs (i + 1))
  have h02 : sh2 0 = none := (hs 0 (by decide)).trans h0
  have a42b := hL2.at1.2
  refine aw_aload_1 dL_law_446 ?_
  refine aw_arg 1 hX h0 (by omega) dL_law_447 dL_law_448 dL_law_449 (by decide) dL_law_450 dL_law_451 ?_
  refine aw_runA (zRun_V m1 gL_law_X6_told q_X6_told rfl (show (5 : Nat) < 1398 by decide) (T := TX6) (N := 11) (ci := 6) rfl a1 rfl rfl (Nat.le_of_ble_eq_true rfl) dL_law_452 ⟨(show k + mc ≤ 600000 by omega), (show n + ms ≤ 7302250 by omega)⟩) (lw_refs n1 n42 h02 (fun j hj => by cases hj)) (fun ρ2 => ?_)
  refine aw_aload_2 dL_law_455 ?_
  refine aw_arg 1 hX h02 (by omega) dL_law_456 dL_law_457 dL_law_458 (by decide) dL_law_459 dL_law_460 ?_
  refine aw_run (zRun_V m2 gL_law_X7_told q_X7_told rfl (show (6 : Nat) < 1398 by decide) (T := TX7) (N := 29) (ci := 7) rfl a42b rfl rfl (Nat.le_of_ble_eq_true rfl) dL_law_461 ⟨(show k + mc + 0 ≤ 600000 by omega), (show n + ms + 0 ≤ 7302250 by omega)⟩) ?_
  exact aw_icmp_eq (tgt := 799) dL_law_464 (by decide) (fun _ => next ρ2 sh2 F3 P2 mc ms b1 b2 hL2 h02) (fun c => absurd rfl c)
set_option maxRecDepth 20000 in
theorem lwc_thing (hX : lwX X L xs) (hi : i + 4 ≤ L) (hL : LI N sh F P 1) (h0 : sh 0 = none) (hk : k + 17 ≤ 600000) (hn : n + 497 ≤ 7302250) (next : lwNext nm X Q N i k n) : AW (lwM nm) X Q 469 (lwL i) [] ρ sh F P k n := by
  obtain ⟨a1, a42⟩ := hL.at1
  have n1 : sh 1 ≠ none := fun e => by rw [a1] at e; cases e
  have n42 : sh 42 ≠ none := fun e => by rw [a42] at e; cases e
  obtain ⟨z, mc, ms, sh2, F2, F3, P2, b1, b2, m1, m2, hs, hL2⟩ := k_thing hL (xs (i + 1)) (xs (i + 2))
  have h02 : sh2 0 = none := (hs 0 (by decide)).trans h0
  have a42b := hL2.at1.2
  refine aw_aload_1 dL_law_469 ?_
  refine aw_arg 1 hX h0 (by omega) dL_law_470 dL_law_471 dL_law_472 (by decide) dL_law_473 dL_law_474 ?_
  refine aw_arg 2 hX h0 (by omega) dL_law_475 dL_law_476 dL_law_477 (by decide) dL_law_478 dL_law_479 ?_
  refine aw_runA (zRun_V m1 gL_law_X6_thing q_X6_thing rfl (show (3 : Nat) < 1398 by decide) (T := TX6) (N := 11) (ci := 6) rfl a1 rfl rfl (Nat.le_of_ble_eq_true rfl) dL_law_480 ⟨(show k + mc ≤ 600000 by omega), (show n + ms ≤ 7302250 by omega)⟩) (lw_refs n1 n42 h02 (fun j hj => by cases hj)) (fun ρ2 => ?_)
  refine aw_aload_2 dL_law_483 ?_
  refine aw_arg 1 hX h02 (by omega) dL_law_484 dL_law_485 dL_law_486 (by decide) dL_law_487 dL_law_488 ?_
  refine aw_arg 2 hX h02 (by omega) dL_law_489 dL_law_490 dL_law_491 (by decide) dL_law_492 dL_law_493 ?_
  refine aw_run (zRun_V m2 gL_law_X7_thing q_X7_thing rfl (show (5 : Nat) < 1398 by decide) (T := TX7) (N := 29) (ci := 7) rfl a42b rfl rfl (Nat.le_of_ble_eq_true rfl) dL_law_494 ⟨(show k + mc + 0 ≤ 600000 by omega), (show n + ms + 0 ≤ 7302250 by omega)⟩) ?_
  exact aw_icmp_eq (tgt := 799) dL_law_497 (by decide) (fun _ => next ρ2 sh2 F3 P2 mc ms b1 b2 hL2 h02) (fun c => absurd rfl c)
set_option maxRecDepth 20000 in
theorem lwc_ingredient (hX : lwX X L xs) (hi : i + 4 ≤ L) (hL : LI N sh F P 1) (h0 : sh 0 = none) (hk : k + 17 ≤ 600000) (hn : n + 497 ≤ 7302250) (next : lwNext nm X Q N i k n) : AW (lwM nm) X Q 502 (lwL i) [] ρ sh F P k n := by
  obtain ⟨a1, a42⟩ := hL.at1
  have n1 : sh 1 ≠ none := fun e => by rw [a1] at e; cases e
  have n42 : sh 42 ≠ none := fun e => by rw [a42] at e; cases e
  obtain ⟨z, mc, ms, sh2, F2, F3, P2, b1, b2, m1, m2, hs, hL2⟩ := k_ingredient hL (xs (i + 1)) (xs (i + 2)) (xs (i + 3))
  have h02 : sh2 0 = none := (hs 0 (by decide)).trans h0
  have a42b := hL2.at1.2
  refine aw_aload_1 dL_law_502 ?_
  refine aw_arg 1 hX h0 (by omega) dL_law_503 dL_law_504 dL_law_505 (by decide) dL_law_506 dL_law_507 ?_
  refine aw_arg 2 hX h0 (by omega) dL_law_508 dL_law_509 dL_law_510 (by decide) dL_law_511 dL_law_512 ?_
  refine aw_arg 3 hX h0 (by omega) dL_law_513 dL_law_514 dL_law_515 (by decide) dL_law_516 dL_law_517 ?_
  refine aw_runA (zRun_V m1 gL_law_X6_ingredient q_X6_ingredient rfl (show (3 : Nat) < 1398 by decide) (T := TX6) (N := 11) (ci := 6) rfl a1 rfl rfl (Nat.le_of_ble_eq_true rfl) dL_law_518 ⟨(show k + mc ≤ 600000 by omega), (show n + ms ≤ 7302250 by omega)⟩) (lw_refs n1 n42 h02 (fun j hj => by cases hj)) (fun ρ2 => ?_)
  refine aw_aload_2 dL_law_521 ?_
  refine aw_arg 1 hX h02 (by omega) dL_law_522 dL_law_523 dL_law_524 (by decide) dL_law_525 dL_law_526 ?_
  refine aw_arg 2 hX h02 (by omega) dL_law_527 dL_law_528 dL_law_529 (by decide) dL_law_530 dL_law_531 ?_
  refine aw_arg 3 hX h02 (by omega) dL_law_532 dL_law_533 dL_law_534 (by decide) dL_law_535 dL_law_536 ?_
  refine aw_run (zRun_V m2 gL_law_X7_ingredient q_X7_ingredient rfl (show (3 : Nat) < 1398 by decide) (T := TX7) (N := 29) (ci := 7) rfl a42b rfl rfl (Nat.le_of_ble_eq_true rfl) dL_law_537 ⟨(show k + mc + 0 ≤ 600000 by omega), (show n + ms + 0 ≤ 7302250 by omega)⟩) ?_
  exact aw_icmp_eq (tgt := 799) dL_law_540 (by decide) (fun _ => next ρ2 sh2 F3 P2 mc ms b1 b2 hL2 h02) (fun c => absurd rfl c)
set_option maxRecDepth 20000 in
theorem lwc_substitute (hX : lwX X L xs) (hi : i + 4 ≤ L) (hL : LI N sh F P 1) (h0 : sh 0 = none) (hk : k + 17 ≤ 600000) (hn : n + 497 ≤ 7302250) (next : lwNext nm X Q N i k n) : AW (lwM nm) X Q 545 (lwL i) [] ρ sh F P k n := by
  obtain ⟨a1, a42⟩ := hL.at1
  have n1 : sh 1 ≠ none := fun e => by rw [a1] at e; cases e
  have n42 : sh 42 ≠ none := fun e => by rw [a42] at e; cases e
  obtain ⟨z, mc, ms, sh2, F2, F3, P2, b1, b2, m1, m2, hs, hL2⟩ := k_substitute hL (xs (i + 1)) (xs (i + 2))
  have h02 : sh2 0 = none := (hs 0 (by decide)).trans h0
  have a42b := hL2.at1.2
  refine aw_aload_1 dL_law_545 ?_
  refine aw_arg 1 hX h0 (by omega) dL_law_546 dL_law_547 dL_law_548 (by decide) dL_law_549 dL_law_550 ?_
  refine aw_arg 2 hX h0 (by omega) dL_law_551 dL_law_552 dL_law_553 (by decide) dL_law_554 dL_law_555 ?_
  refine aw_runA (zRun_V m1 gL_law_X6_substitute q_X6_substitute rfl (show (3 : Nat) < 1398 by decide) (T := TX6) (N := 11) (ci := 6) rfl a1 rfl rfl (Nat.le_of_ble_eq_true rfl) dL_law_556 ⟨(show k + mc ≤ 600000 by omega), (show n + ms ≤ 7302250 by omega)⟩) (lw_refs n1 n42 h02 (fun j hj => by cases hj)) (fun ρ2 => ?_)
  refine aw_aload_2 dL_law_559 ?_
  refine aw_arg 1 hX h02 (by omega) dL_law_560 dL_law_561 dL_law_562 (by decide) dL_law_563 dL_law_564 ?_
  refine aw_arg 2 hX h02 (by omega) dL_law_565 dL_law_566 dL_law_567 (by decide) dL_law_568 dL_law_569 ?_
  refine aw_run (zRun_V m2 gL_law_X7_substitute q_X7_substitute rfl (show (3 : Nat) < 1398 by decide) (T := TX7) (N := 29) (ci := 7) rfl a42b rfl rfl (Nat.le_of_ble_eq_true rfl) dL_law_570 ⟨(show k + mc + 0 ≤ 600000 by omega), (show n + ms + 0 ≤ 7302250 by omega)⟩) ?_
  exact aw_icmp_eq (tgt := 799) dL_law_573 (by decide) (fun _ => next ρ2 sh2 F3 P2 mc ms b1 b2 hL2 h02) (fun c => absurd rfl c)
set_option maxRecDepth 20000 in
theorem lwc_isNeeded (hX : lwX X L xs) (hi : i + 4 ≤ L) (hL : LI N sh F P 1) (h0 : sh 0 = none) (hk : k + 17 ≤ 600000) (hn : n + 497 ≤ 7302250) (next : lwNext nm X Q N i k n) : AW (lwM nm) X Q 578 (lwL i) [] ρ sh F P k n := by
  obtain ⟨a1, a42⟩ := hL.at1
  have n1 : sh 1 ≠ none := fun e => by rw [a1] at e; cases e
  have n42 : sh 42 ≠ none := fun e => by rw [a42] at e; cases e
  obtain ⟨z, mc, ms, sh2, F2, F3, P2, b1, b2, m1, m2, hs, hL2⟩ := k_isNeeded hL (xs (i + 1)) (xs (i + 2))
  have h02 : sh2 0 = none := (hs 0 (by decide)).trans h0
  have a42b := hL2.at1.2
  refine aw_aload_1 dL_law_578 ?_
  refine aw_arg 1 hX h0 (by omega) dL_law_579 dL_law_580 dL_law_581 (by decide) dL_law_582 dL_law_583 ?_
  refine aw_arg 2 hX h0 (by omega) dL_law_584 dL_law_585 dL_law_586 (by decide) dL_law_587 dL_law_588 ?_
  refine aw_runA (zRun_V m1 gL_law_X6_isNeeded q_X6_isNeeded rfl (show (5 : Nat) < 1398 by decide) (T := TX6) (N := 11) (ci := 6) rfl a1 rfl rfl (Nat.le_of_ble_eq_true rfl) dL_law_589 ⟨(show k + mc ≤ 600000 by omega), (show n + ms ≤ 7302250 by omega)⟩) (lw_refs n1 n42 h02 (fun j hj => by cases hj)) (fun ρ2 => ?_)
  refine aw_aload_2 dL_law_592 ?_
  refine aw_arg 1 hX h02 (by omega) dL_law_593 dL_law_594 dL_law_595 (by decide) dL_law_596 dL_law_597 ?_
  refine aw_arg 2 hX h02 (by omega) dL_law_598 dL_law_599 dL_law_600 (by decide) dL_law_601 dL_law_602 ?_
  refine aw_run (zRun_V m2 gL_law_X7_isNeeded q_X7_isNeeded rfl (show (4 : Nat) < 1398 by decide) (T := TX7) (N := 29) (ci := 7) rfl a42b rfl rfl (Nat.le_of_ble_eq_true rfl) dL_law_603 ⟨(show k + mc + 0 ≤ 600000 by omega), (show n + ms + 0 ≤ 7302250 by omega)⟩) ?_
  exact aw_icmp_eq (tgt := 799) dL_law_606 (by decide) (fun _ => next ρ2 sh2 F3 P2 mc ms b1 b2 hL2 h02) (fun c => absurd rfl c)
set_option maxRecDepth 20000 in
theorem lwc_gather (hX : lwX X L xs) (hi : i + 4 ≤ L) (hL : LI N sh F P 1) (h0 : sh 0 = none) (hk : k + 17 ≤ 600000) (hn : n + 497 ≤ 7302250) (next : lwNext nm X Q N i k n) : AW (lwM nm) X Q 654 (lwL i) [] ρ sh F P k n := by
  obtain ⟨a1, a42⟩ := hL.at1
  have n1 : sh 1 ≠ none := fun e => by rw [a1] at e; cases e
  have n42 : sh 42 ≠ none := fun e => by rw [a42] at e; cases e
  obtain ⟨z, mc, ms, sh2, F2, F3, P2, b1, b2, m1, m2, hs, hL2⟩ := k_gather hL (xs (i + 1)) (xs (i + 2)) (xs (i + 3))
  have h02 : sh2 0 = none := (hs 0 (by decide)).trans h0
  have a42b := hL2.at1.2
  refine aw_aload_1 dL_law_654 ?_
  refine aw_arg 1 hX h0 (by omega) dL_law_655 dL_law_656 dL_law_657 (by decide) dL_law_658 dL_law_659 ?_
  refine aw_arg 2 hX h0 (by omega) dL_law_660 dL_law_661 dL_law_662 (by decide) dL_law_663 dL_law_664 ?_
  refine aw_arg 3 hX h0 (by omega) dL_law_665 dL_law_666 dL_law_667 (by decide) dL_law_668 dL_law_669 ?_
  refine aw_runA (zRun_V m1 gL_law_X6_gather q_X6_gather rfl (show (42 : Nat) < 1398 by decide) (T := TX6) (N := 11) (ci := 6) rfl a1 rfl rfl (Nat.le_of_ble_eq_true rfl) dL_law_670 ⟨(show k + mc ≤ 600000 by omega), (show n + ms ≤ 7302250 by omega)⟩) (lw_refs n1 n42 h02 (fun j hj => by cases hj)) (fun ρ2 => ?_)
  refine aw_aload_2 dL_law_673 ?_
  refine aw_arg 1 hX h02 (by omega) dL_law_674 dL_law_675 dL_law_676 (by decide) dL_law_677 dL_law_678 ?_
  refine aw_arg 2 hX h02 (by omega) dL_law_679 dL_law_680 dL_law_681 (by decide) dL_law_682 dL_law_683 ?_
  refine aw_arg 3 hX h02 (by omega) dL_law_684 dL_law_685 dL_law_686 (by decide) dL_law_687 dL_law_688 ?_
  refine aw_run (zRun_V m2 gL_law_X7_gather q_X7_gather rfl (show (9 : Nat) < 1398 by decide) (T := TX7) (N := 29) (ci := 7) rfl a42b rfl rfl (Nat.le_of_ble_eq_true rfl) dL_law_689 ⟨(show k + mc + 0 ≤ 600000 by omega), (show n + ms + 0 ≤ 7302250 by omega)⟩) ?_
  exact aw_icmp_eq (tgt := 799) dL_law_692 (by decide) (fun _ => next ρ2 sh2 F3 P2 mc ms b1 b2 hL2 h02) (fun c => absurd rfl c)
set_option maxRecDepth 20000 in
theorem lwc_canHave (hX : lwX X L xs) (hi : i + 4 ≤ L) (hL : LI N sh F P 1) (h0 : sh 0 = none) (hk : k + 17 ≤ 600000) (hn : n + 497 ≤ 7302250) (next : lwNext nm X Q N i k n) : AW (lwM nm) X Q 697 (lwL i) [] ρ sh F P k n := by
  obtain ⟨a1, a42⟩ := hL.at1
  have n1 : sh 1 ≠ none := fun e => by rw [a1] at e; cases e
  have n42 : sh 42 ≠ none := fun e => by rw [a42] at e; cases e
  obtain ⟨z, mc, ms, sh2, F2, F3, P2, b1, b2, m1, m2, hs, hL2⟩ := k_canHave hL (xs (i + 1))
  have h02 : sh2 0 = none := (hs 0 (by decide)).trans h0
  have a42b := hL2.at1.2
  refine aw_aload_1 dL_law_697 ?_
  refine aw_arg 1 hX h0 (by omega) dL_law_698 dL_law_699 dL_law_700 (by decide) dL_law_701 dL_law_702 ?_
  refine aw_runA (zRun_V m1 gL_law_X6_canHave q_X6_canHave rfl (show (42 : Nat) < 1398 by decide) (T := TX6) (N := 11) (ci := 6) rfl a1 rfl rfl (Nat.le_of_ble_eq_true rfl) dL_law_703 ⟨(show k + mc ≤ 600000 by omega), (show n + ms ≤ 7302250 by omega)⟩) (lw_refs n1 n42 h02 (fun j hj => by cases hj)) (fun ρ2 => ?_)
  refine aw_aload_2 dL_law_706 ?_
  refine aw_arg 1 hX h02 (by omega) dL_law_707 dL_law_708 dL_law_709 (by decide) dL_law_710 dL_law_711 ?_
  refine aw_run (zRun_V m2 gL_law_X7_canHave q_X7_canHave rfl (show (9 : Nat) < 1398 by decide) (T := TX7) (N := 29) (ci := 7) rfl a42b rfl rfl (Nat.le_of_ble_eq_true rfl) dL_law_712 ⟨(show k + mc + 0 ≤ 600000 by omega), (show n + ms + 0 ≤ 7302250 by omega)⟩) ?_
  exact aw_icmp_eq (tgt := 799) dL_law_715 (by decide) (fun _ => next ρ2 sh2 F3 P2 mc ms b1 b2 hL2 h02) (fun c => absurd rfl c)
set_option maxRecDepth 20000 in
theorem lwc_bestGift (hX : lwX X L xs) (hi : i + 4 ≤ L) (hL : LI N sh F P 1) (h0 : sh 0 = none) (hk : k + 17 ≤ 600000) (hn : n + 497 ≤ 7302250) (next : lwNext nm X Q N i k n) : AW (lwM nm) X Q 720 (lwL i) [] ρ sh F P k n := by
  obtain ⟨a1, a42⟩ := hL.at1
  have n1 : sh 1 ≠ none := fun e => by rw [a1] at e; cases e
  have n42 : sh 42 ≠ none := fun e => by rw [a42] at e; cases e
  obtain ⟨z, mc, ms, sh2, F2, F3, P2, b1, b2, m1, m2, hs, hL2⟩ := k_bestGift hL (xs (i + 1)) (xs (i + 2))
  have h02 : sh2 0 = none := (hs 0 (by decide)).trans h0
  have a42b := hL2.at1.2
  refine aw_aload_1 dL_law_720 ?_
  refine aw_arg 1 hX h0 (by omega) dL_law_721 dL_law_722 dL_law_723 (by decide) dL_law_724 dL_law_725 ?_
  refine aw_arg 2 hX h0 (by omega) dL_law_726 dL_law_727 dL_law_728 (by decide) dL_law_729 dL_law_730 ?_
  refine aw_runA (zRun_V m1 gL_law_X6_bestGift q_X6_bestGift rfl (show (42 : Nat) < 1398 by decide) (T := TX6) (N := 11) (ci := 6) rfl a1 rfl rfl (Nat.le_of_ble_eq_true rfl) dL_law_731 ⟨(show k + mc ≤ 600000 by omega), (show n + ms ≤ 7302250 by omega)⟩) (lw_refs n1 n42 h02 (fun j hj => by cases hj)) (fun ρ2 => ?_)
  refine aw_aload_2 dL_law_734 ?_
  refine aw_arg 1 hX h02 (by omega) dL_law_735 dL_law_736 dL_law_737 (by decide) dL_law_738 dL_law_739 ?_
  refine aw_arg 2 hX h02 (by omega) dL_law_740 dL_law_741 dL_law_742 (by decide) dL_law_743 dL_law_744 ?_
  refine aw_run (zRun_V m2 gL_law_X7_bestGift q_X7_bestGift rfl (show (9 : Nat) < 1398 by decide) (T := TX7) (N := 29) (ci := 7) rfl a42b rfl rfl (Nat.le_of_ble_eq_true rfl) dL_law_745 ⟨(show k + mc + 0 ≤ 600000 by omega), (show n + ms + 0 ≤ 7302250 by omega)⟩) ?_
  exact aw_icmp_eq (tgt := 799) dL_law_748 (by decide) (fun _ => next ρ2 sh2 F3 P2 mc ms b1 b2 hL2 h02) (fun c => absurd rfl c)
set_option maxRecDepth 20000 in
theorem lwc_keep (hX : lwX X L xs) (hi : i + 4 ≤ L) (hL : LI N sh F P 1) (h0 : sh 0 = none) (hk : k + 17 ≤ 600000) (hn : n + 497 ≤ 7302250) (next : lwNext nm X Q N i k n) : AW (lwM nm) X Q 753 (lwL i) [] ρ sh F P k n := by
  obtain ⟨a1, a42⟩ := hL.at1
  have n1 : sh 1 ≠ none := fun e => by rw [a1] at e; cases e
  have n42 : sh 42 ≠ none := fun e => by rw [a42] at e; cases e
  obtain ⟨z, mc, ms, sh2, F2, F3, P2, b1, b2, m1, m2, hs, hL2⟩ := k_keep hL (xs (i + 1))
  have h02 : sh2 0 = none := (hs 0 (by decide)).trans h0
  have a42b := hL2.at1.2
  refine aw_aload_1 dL_law_753 ?_
  refine aw_arg 1 hX h0 (by omega) dL_law_754 dL_law_755 dL_law_756 (by decide) dL_law_757 dL_law_758 ?_
  refine aw_runA (zRun_V m1 gL_law_X6_keep q_X6_keep rfl (show (5 : Nat) < 1398 by decide) (T := TX6) (N := 11) (ci := 6) rfl a1 rfl rfl (Nat.le_of_ble_eq_true rfl) dL_law_759 ⟨(show k + mc ≤ 600000 by omega), (show n + ms ≤ 7302250 by omega)⟩) (lw_refs n1 n42 h02 (fun j hj => by cases hj)) (fun ρ2 => ?_)
  refine aw_aload_2 dL_law_762 ?_
  refine aw_arg 1 hX h02 (by omega) dL_law_763 dL_law_764 dL_law_765 (by decide) dL_law_766 dL_law_767 ?_
  refine aw_run (zRun_V m2 gL_law_X7_keep q_X7_keep rfl (show (4 : Nat) < 1398 by decide) (T := TX7) (N := 29) (ci := 7) rfl a42b rfl rfl (Nat.le_of_ble_eq_true rfl) dL_law_768 ⟨(show k + mc + 0 ≤ 600000 by omega), (show n + ms + 0 ≤ 7302250 by omega)⟩) ?_
  exact aw_icmp_eq (tgt := 799) dL_law_771 (by decide) (fun _ => next ρ2 sh2 F3 P2 mc ms b1 b2 hL2 h02) (fun c => absurd rfl c)
set_option maxRecDepth 20000 in
theorem lwc_back (hX : lwX X L xs) (hi : i + 4 ≤ L) (hL : LI N sh F P 1) (h0 : sh 0 = none) (hk : k + 17 ≤ 600000) (hn : n + 497 ≤ 7302250) (next : lwNext nm X Q N i k n) : AW (lwM nm) X Q 776 (lwL i) [] ρ sh F P k n := by
  obtain ⟨a1, a42⟩ := hL.at1
  have n1 : sh 1 ≠ none := fun e => by rw [a1] at e; cases e
  have n42 : sh 42 ≠ none := fun e => by rw [a42] at e; cases e
  obtain ⟨z, mc, ms, sh2, F2, F3, P2, b1, b2, m1, m2, hs, hL2⟩ := k_back hL (xs (i + 1))
  have h02 : sh2 0 = none := (hs 0 (by decide)).trans h0
  have a42b := hL2.at1.2
  refine aw_aload_1 dL_law_776 ?_
  refine aw_arg 1 hX h0 (by omega) dL_law_777 dL_law_778 dL_law_779 (by decide) dL_law_780 dL_law_781 ?_
  refine aw_runA (zRun_V m1 gL_law_X6_back q_X6_back rfl (show (6 : Nat) < 1398 by decide) (T := TX6) (N := 11) (ci := 6) rfl a1 rfl rfl (Nat.le_of_ble_eq_true rfl) dL_law_782 ⟨(show k + mc ≤ 600000 by omega), (show n + ms ≤ 7302250 by omega)⟩) (lw_refs n1 n42 h02 (fun j hj => by cases hj)) (fun ρ2 => ?_)
  refine aw_aload_2 dL_law_785 ?_
  refine aw_arg 1 hX h02 (by omega) dL_law_786 dL_law_787 dL_law_788 (by decide) dL_law_789 dL_law_790 ?_
  refine aw_run (zRun_V m2 gL_law_X7_back q_X7_back rfl (show (4 : Nat) < 1398 by decide) (T := TX7) (N := 29) (ci := 7) rfl a42b rfl rfl (Nat.le_of_ble_eq_true rfl) dL_law_791 ⟨(show k + mc + 0 ≤ 600000 by omega), (show n + ms + 0 ≤ 7302250 by omega)⟩) ?_
  exact aw_icmp_eq (tgt := 799) dL_law_794 (by decide) (fun _ => next ρ2 sh2 F3 P2 mc ms b1 b2 hL2 h02) (fun c => absurd rfl c)
end LCASE
