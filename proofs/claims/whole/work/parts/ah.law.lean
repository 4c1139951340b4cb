/-! ===== the law's cases ===== -/
section GLAW
variable {J : JT} {P : RT} {L i : Nat} {xs : Nat → Int32}
/-- the rule for an element of the script -/
def gScr (J : JT) (L : Nat) (xs : Nat → Int32) : Prop := ∀ (pc nx j : Nat) (x : Int32) (ls : GL) (st : List Value) (h : GH) (e : GE), decode cL_law pc = .ok (.iaload, 1) → pc + 1 = nx → x = nI j → j < L → J nx ls (.int (xs j) :: st) h e → J pc ls (.int x :: .ref 1000300 :: st) h e
def gSln (J : JT) (L : Nat) : Prop := ∀ (pc nx : Nat) (ls : GL) (st : List Value) (h : GH) (e : GE), decode cL_law pc = .ok (.arraylength, 1) → pc + 1 = nx → J nx ls (.int (nI L) :: st) h e → J pc ls (.ref 1000300 :: st) h e
theorem glcmp (x : Int64) : lg_cmp x x = 0 := by
  unfold lg_cmp
  have h : ¬ x < x := by rw [Int64.lt_iff_toInt_lt]; omega
  simp [h]
set_option maxHeartbeats 4000000 in
theorem lo_0 (hJ : gCl RL cL_law (some .boolean) false (gRuns 60) J P) (hs : gScr J L xs) (hi : 6 * i + 6 ≤ L) (next : ∀ h, gSim h → J 1461 [some (.ref 1000300), some (.ref 0), some (.ref 99), some (.int (nI (6 * i)))] [] h (130, 0, 0, false)) {h : GH} (hM : gSim h) : J 208 [some (.ref 1000300), some (.ref 0), some (.ref 99), some (.int (nI (6 * i)))] [] h (130, 0, 0, false) := by
  obtain ⟨R, N, hQ, hS, hI⟩ := hM
  obtain ⟨k, sn, a1, a2, a3, a4, a5, -, -⟩ := hI.k
  have hsy : ∀ r, r < 6 → ∀ c ∈ R (5 + 2 * r), gsy c := fun r hr => (a5 r hr).sy a2.2
  have hne : ∀ r, r < 6 → 1 ≤ (R (5 + 2 * r)).length := fun r hr => (a5 r hr).1
  have hcn : ∀ r, r < 6 → gcn (R (5 + 2 * r)) := fun r hr => (a5 r hr).2.2.2.1
  refine j_p (nx := 209) hJ dL_law_208 rfl rfl ?_
  refine j_p (nx := 210) hJ dL_law_209 rfl rfl ?_
  refine j_p (nx := 211) hJ dL_law_210 rfl rfl ?_
  refine j_c (nx := 212) hJ dL_law_211 rfl gk_iconst_1 ?_
  refine j_p (nx := 213) hJ dL_law_212 rfl rfl ?_
  rw [show (1 : Int32) = nI 1 from rfl, gadd]
  refine hs 213 214 (6 * i + 1) _ _ _ _ _ dL_law_213 rfl rfl (by omega) ?_
  refine j_cv (nx := 217) hJ dL_law_214 rfl (r_reset (fl := false) (d := 0) hQ  _) mL_13 hQ.1.1 kX5_reset rfl (gle8 rfl) (fun o h1 hp => ?_)
  obtain ⟨rfl, hC⟩ := hp
  have hS1 := hS.mv hC.fr
  have h99 : ∃ M1 p1 t1, h1 99 = some (gO M1 p1 t1) := by obtain ⟨A9, E9, M9, p9, t9, hP9, -⟩ := id hS1; exact ⟨_, _, _, hP9.1.1⟩
  obtain ⟨M1, p1, t1, h99⟩ := h99
  refine j_p (nx := 218) hJ dL_law_217 rfl rfl ?_
  refine j_p (nx := 219) hJ dL_law_218 rfl rfl ?_
  refine j_p (nx := 220) hJ dL_law_219 rfl rfl ?_
  refine j_c (nx := 221) hJ dL_law_220 rfl gk_iconst_1 ?_
  refine j_p (nx := 222) hJ dL_law_221 rfl rfl ?_
  rw [show (1 : Int32) = nI 1 from rfl, gadd]
  refine hs 222 223 (6 * i + 1) _ _ _ _ _ dL_law_222 rfl rfl (by omega) ?_
  refine j_cv (nx := 226) hJ dL_law_223 rfl (r6_reset (d := 0) hS1  _) mL_17 h99 kX6_reset rfl (gle8 rfl) (fun o h2 hp => ?_)
  obtain ⟨rfl, hS2⟩ := hp
  refine j_ic_eq (nx := 229) (tgt := 1461) hJ dL_law_226 rfl (by decide) (fun _ => next h2 ?_) (fun q => absurd rfl q)
  exact gSim.step hC hS2 (i_reset hI _)
set_option maxHeartbeats 4000000 in
theorem lo_1 (hJ : gCl RL cL_law (some .boolean) false (gRuns 60) J P) (hs : gScr J L xs) (hi : 6 * i + 6 ≤ L) (next : ∀ h, gSim h → J 1461 [some (.ref 1000300), some (.ref 0), some (.ref 99), some (.int (nI (6 * i)))] [] h (130, 0, 0, false)) {h : GH} (hM : gSim h) : J 231 [some (.ref 1000300), some (.ref 0), some (.ref 99), some (.int (nI (6 * i)))] [] h (130, 0, 0, false) := by
  obtain ⟨R, N, hQ, hS, hI⟩ := hM
  obtain ⟨k, sn, a1, a2, a3, a4, a5, -, -⟩ := hI.k
  have hsy : ∀ r, r < 6 → ∀ c ∈ R (5 + 2 * r), gsy c := fun r hr => (a5 r hr).sy a2.2
  have hne : ∀ r, r < 6 → 1 ≤ (R (5 + 2 * r)).length := fun r hr => (a5 r hr).1
  have hcn : ∀ r, r < 6 → gcn (R (5 + 2 * r)) := fun r hr => (a5 r hr).2.2.2.1
  refine j_p (nx := 232) hJ dL_law_231 rfl rfl ?_
  refine j_cv (nx := 235) hJ dL_law_232 rfl (r_letters (fl := false) (d := 0) hQ ) mL_18 hQ.1.1 kX5_letters rfl (gle8 rfl) (fun o h1 hp => ?_)
  obtain ⟨rfl, hC⟩ := hp
  have hS1 := hS.mv hC.fr
  have h99 : ∃ M1 p1 t1, h1 99 = some (gO M1 p1 t1) := by obtain ⟨A9, E9, M9, p9, t9, hP9, -⟩ := id hS1; exact ⟨_, _, _, hP9.1.1⟩
  obtain ⟨M1, p1, t1, h99⟩ := h99
  refine j_p (nx := 236) hJ dL_law_235 rfl rfl ?_
  refine j_cv (nx := 239) hJ dL_law_236 rfl (r6_letters (d := 0) hS1 ) mL_22 h99 kX6_letters rfl (gle8 rfl) (fun o h2 hp => ?_)
  obtain ⟨rfl, hS2⟩ := hp
  refine j_ic_eq (nx := 242) (tgt := 1461) hJ dL_law_239 rfl (by decide) (fun _ => next h2 ?_) (fun q => absurd rfl q)
  exact gSim.step hC hS2 hI
set_option maxHeartbeats 4000000 in
theorem lo_2 (hJ : gCl RL cL_law (some .boolean) false (gRuns 60) J P) (hs : gScr J L xs) (hi : 6 * i + 6 ≤ L) (next : ∀ h, gSim h → J 1461 [some (.ref 1000300), some (.ref 0), some (.ref 99), some (.int (nI (6 * i)))] [] h (130, 0, 0, false)) {h : GH} (hM : gSim h) : J 244 [some (.ref 1000300), some (.ref 0), some (.ref 99), some (.int (nI (6 * i)))] [] h (130, 0, 0, false) := by
  obtain ⟨R, N, hQ, hS, hI⟩ := hM
  obtain ⟨k, sn, a1, a2, a3, a4, a5, -, -⟩ := hI.k
  have hsy : ∀ r, r < 6 → ∀ c ∈ R (5 + 2 * r), gsy c := fun r hr => (a5 r hr).sy a2.2
  have hne : ∀ r, r < 6 → 1 ≤ (R (5 + 2 * r)).length := fun r hr => (a5 r hr).1
  have hcn : ∀ r, r < 6 → gcn (R (5 + 2 * r)) := fun r hr => (a5 r hr).2.2.2.1
  refine j_p (nx := 245) hJ dL_law_244 rfl rfl ?_
  refine j_p (nx := 246) hJ dL_law_245 rfl rfl ?_
  refine j_p (nx := 247) hJ dL_law_246 rfl rfl ?_
  refine j_c (nx := 248) hJ dL_law_247 rfl gk_iconst_1 ?_
  refine j_p (nx := 249) hJ dL_law_248 rfl rfl ?_
  rw [show (1 : Int32) = nI 1 from rfl, gadd]
  refine hs 249 250 (6 * i + 1) _ _ _ _ _ dL_law_249 rfl rfl (by omega) ?_
  refine j_p (nx := 251) hJ dL_law_250 rfl rfl ?_
  refine j_p (nx := 252) hJ dL_law_251 rfl rfl ?_
  refine j_c (nx := 253) hJ dL_law_252 rfl gk_iconst_2 ?_
  refine j_p (nx := 254) hJ dL_law_253 rfl rfl ?_
  rw [show (2 : Int32) = nI 2 from rfl, gadd]
  refine hs 254 255 (6 * i + 2) _ _ _ _ _ dL_law_254 rfl rfl (by omega) ?_
  refine j_cv (nx := 258) hJ dL_law_255 rfl (r_append (fl := false) (d := 0) hQ  _ _) mL_23 hQ.1.1 kX5_append rfl (gle8 rfl) (fun o h1 hp => ?_)
  obtain ⟨rfl, hC⟩ := hp
  have hS1 := hS.mv hC.fr
  have h99 : ∃ M1 p1 t1, h1 99 = some (gO M1 p1 t1) := by obtain ⟨A9, E9, M9, p9, t9, hP9, -⟩ := id hS1; exact ⟨_, _, _, hP9.1.1⟩
  obtain ⟨M1, p1, t1, h99⟩ := h99
  refine j_p (nx := 259) hJ dL_law_258 rfl rfl ?_
  refine j_p (nx := 260) hJ dL_law_259 rfl rfl ?_
  refine j_p (nx := 261) hJ dL_law_260 rfl rfl ?_
  refine j_c (nx := 262) hJ dL_law_261 rfl gk_iconst_1 ?_
  refine j_p (nx := 263) hJ dL_law_262 rfl rfl ?_
  rw [show (1 : Int32) = nI 1 from rfl, gadd]
  refine hs 263 264 (6 * i + 1) _ _ _ _ _ dL_law_263 rfl rfl (by omega) ?_
  refine j_p (nx := 265) hJ dL_law_264 rfl rfl ?_
  refine j_p (nx := 266) hJ dL_law_265 rfl rfl ?_
  refine j_c (nx := 267) hJ dL_law_266 rfl gk_iconst_2 ?_
  refine j_p (nx := 268) hJ dL_law_267 rfl rfl ?_
  rw [show (2 : Int32) = nI 2 from rfl, gadd]
  refine hs 268 269 (6 * i + 2) _ _ _ _ _ dL_law_268 rfl rfl (by omega) ?_
  refine j_cv (nx := 272) hJ dL_law_269 rfl (r6_append (d := 0) hS1  _ _) mL_27 h99 kX6_append rfl (gle8 rfl) (fun o h2 hp => ?_)
  obtain ⟨rfl, hS2⟩ := hp
  refine j_ic_eq (nx := 275) (tgt := 1461) hJ dL_law_272 rfl (by decide) (fun _ => next h2 ?_) (fun q => absurd rfl q)
  exact gSim.step hC hS2 (i_append hI _ _)
set_option maxHeartbeats 4000000 in
theorem lo_3 (hJ : gCl RL cL_law (some .boolean) false (gRuns 60) J P) (hs : gScr J L xs) (hi : 6 * i + 6 ≤ L) (next : ∀ h, gSim h → J 1461 [some (.ref 1000300), some (.ref 0), some (.ref 99), some (.int (nI (6 * i)))] [] h (130, 0, 0, false)) {h : GH} (hM : gSim h) : J 277 [some (.ref 1000300), some (.ref 0), some (.ref 99), some (.int (nI (6 * i)))] [] h (130, 0, 0, false) := by
  obtain ⟨R, N, hQ, hS, hI⟩ := hM
  obtain ⟨k, sn, a1, a2, a3, a4, a5, -, -⟩ := hI.k
  have hsy : ∀ r, r < 6 → ∀ c ∈ R (5 + 2 * r), gsy c := fun r hr => (a5 r hr).sy a2.2
  have hne : ∀ r, r < 6 → 1 ≤ (R (5 + 2 * r)).length := fun r hr => (a5 r hr).1
  have hcn : ∀ r, r < 6 → gcn (R (5 + 2 * r)) := fun r hr => (a5 r hr).2.2.2.1
  refine j_p (nx := 278) hJ dL_law_277 rfl rfl ?_
  refine j_cv (nx := 281) hJ dL_law_278 rfl (r_clearInput (fl := false) (d := 0) hQ ) mL_28 hQ.1.1 kX5_clearInput rfl (gle8 rfl) (fun o h1 hp => ?_)
  obtain ⟨rfl, hC⟩ := hp
  have hS1 := hS.mv hC.fr
  have h99 : ∃ M1 p1 t1, h1 99 = some (gO M1 p1 t1) := by obtain ⟨A9, E9, M9, p9, t9, hP9, -⟩ := id hS1; exact ⟨_, _, _, hP9.1.1⟩
  obtain ⟨M1, p1, t1, h99⟩ := h99
  refine j_p (nx := 282) hJ dL_law_281 rfl rfl ?_
  refine j_cv (nx := 285) hJ dL_law_282 rfl (r6_clearInput (d := 0) hS1 ) mL_31 h99 kX6_clearInput rfl (gle8 rfl) (fun o h2 hp => ?_)
  obtain ⟨rfl, hS2⟩ := hp
  refine j_ic_eq (nx := 288) (tgt := 1461) hJ dL_law_285 rfl (by decide) (fun _ => next h2 ?_) (fun q => absurd rfl q)
  exact gSim.step hC hS2 (hI.u73 (Nat.zero_le _))
set_option maxHeartbeats 4000000 in
theorem lo_4 (hJ : gCl RL cL_law (some .boolean) false (gRuns 60) J P) (hs : gScr J L xs) (hi : 6 * i + 6 ≤ L) (next : ∀ h, gSim h → J 1461 [some (.ref 1000300), some (.ref 0), some (.ref 99), some (.int (nI (6 * i)))] [] h (130, 0, 0, false)) {h : GH} (hM : gSim h) : J 290 [some (.ref 1000300), some (.ref 0), some (.ref 99), some (.int (nI (6 * i)))] [] h (130, 0, 0, false) := by
  obtain ⟨R, N, hQ, hS, hI⟩ := hM
  obtain ⟨k, sn, a1, a2, a3, a4, a5, -, -⟩ := hI.k
  have hsy : ∀ r, r < 6 → ∀ c ∈ R (5 + 2 * r), gsy c := fun r hr => (a5 r hr).sy a2.2
  have hne : ∀ r, r < 6 → 1 ≤ (R (5 + 2 * r)).length := fun r hr => (a5 r hr).1
  have hcn : ∀ r, r < 6 → gcn (R (5 + 2 * r)) := fun r hr => (a5 r hr).2.2.2.1
  refine j_p (nx := 291) hJ dL_law_290 rfl rfl ?_
  refine j_p (nx := 292) hJ dL_law_291 rfl rfl ?_
  refine j_p (nx := 293) hJ dL_law_292 rfl rfl ?_
  refine j_c (nx := 294) hJ dL_law_293 rfl gk_iconst_1 ?_
  refine j_p (nx := 295) hJ dL_law_294 rfl rfl ?_
  rw [show (1 : Int32) = nI 1 from rfl, gadd]
  refine hs 295 296 (6 * i + 1) _ _ _ _ _ dL_law_295 rfl rfl (by omega) ?_
  refine j_cv (nx := 299) hJ dL_law_296 rfl (r_setPattern (fl := false) (d := 0) hQ  _) mL_32 hQ.1.1 kX5_setPattern rfl (gle8 rfl) (fun o h1 hp => ?_)
  obtain ⟨rfl, hC⟩ := hp
  have hS1 := hS.mv hC.fr
  have h99 : ∃ M1 p1 t1, h1 99 = some (gO M1 p1 t1) := by obtain ⟨A9, E9, M9, p9, t9, hP9, -⟩ := id hS1; exact ⟨_, _, _, hP9.1.1⟩
  obtain ⟨M1, p1, t1, h99⟩ := h99
  refine j_p (nx := 300) hJ dL_law_299 rfl rfl ?_
  refine j_p (nx := 301) hJ dL_law_300 rfl rfl ?_
  refine j_p (nx := 302) hJ dL_law_301 rfl rfl ?_
  refine j_c (nx := 303) hJ dL_law_302 rfl gk_iconst_1 ?_
  refine j_p (nx := 304) hJ dL_law_303 rfl rfl ?_
  rw [show (1 : Int32) = nI 1 from rfl, gadd]
  refine hs 304 305 (6 * i + 1) _ _ _ _ _ dL_law_304 rfl rfl (by omega) ?_
  refine j_cv (nx := 308) hJ dL_law_305 rfl (r6_setPattern (d := 0) hS1 hI _) mL_35 h99 kX6_setPattern rfl (gle8 rfl) (fun o h2 hp => ?_)
  obtain ⟨rfl, hS2⟩ := hp
  refine j_ic_eq (nx := 311) (tgt := 1461) hJ dL_law_308 rfl (by decide) (fun _ => next h2 ?_) (fun q => absurd rfl q)
  exact gSim.step hC hS2 (i_setPattern hI _)
set_option maxHeartbeats 4000000 in
theorem lo_5 (hJ : gCl RL cL_law (some .boolean) false (gRuns 60) J P) (hs : gScr J L xs) (hi : 6 * i + 6 ≤ L) (next : ∀ h, gSim h → J 1461 [some (.ref 1000300), some (.ref 0), some (.ref 99), some (.int (nI (6 * i)))] [] h (130, 0, 0, false)) {h : GH} (hM : gSim h) : J 313 [some (.ref 1000300), some (.ref 0), some (.ref 99), some (.int (nI (6 * i)))] [] h (130, 0, 0, false) := by
  obtain ⟨R, N, hQ, hS, hI⟩ := hM
  obtain ⟨k, sn, a1, a2, a3, a4, a5, -, -⟩ := hI.k
  have hsy : ∀ r, r < 6 → ∀ c ∈ R (5 + 2 * r), gsy c := fun r hr => (a5 r hr).sy a2.2
  have hne : ∀ r, r < 6 → 1 ≤ (R (5 + 2 * r)).length := fun r hr => (a5 r hr).1
  have hcn : ∀ r, r < 6 → gcn (R (5 + 2 * r)) := fun r hr => (a5 r hr).2.2.2.1
  refine j_p (nx := 314) hJ dL_law_313 rfl rfl ?_
  refine j_p (nx := 315) hJ dL_law_314 rfl rfl ?_
  refine j_p (nx := 316) hJ dL_law_315 rfl rfl ?_
  refine j_c (nx := 317) hJ dL_law_316 rfl gk_iconst_1 ?_
  refine j_p (nx := 318) hJ dL_law_317 rfl rfl ?_
  rw [show (1 : Int32) = nI 1 from rfl, gadd]
  refine hs 318 319 (6 * i + 1) _ _ _ _ _ dL_law_318 rfl rfl (by omega) ?_
  refine j_p (nx := 320) hJ dL_law_319 rfl rfl ?_
  refine j_p (nx := 321) hJ dL_law_320 rfl rfl ?_
  refine j_c (nx := 322) hJ dL_law_321 rfl gk_iconst_2 ?_
  refine j_p (nx := 323) hJ dL_law_322 rfl rfl ?_
  rw [show (2 : Int32) = nI 2 from rfl, gadd]
  refine hs 323 324 (6 * i + 2) _ _ _ _ _ dL_law_323 rfl rfl (by omega) ?_
  refine j_cv (nx := 327) hJ dL_law_324 rfl (r_copy (fl := false) (d := 0) hQ  _ _) mL_36 hQ.1.1 kX5_copy rfl (gle8 rfl) (fun o h1 hp => ?_)
  obtain ⟨rfl, hC⟩ := hp
  have hS1 := hS.mv hC.fr
  have h99 : ∃ M1 p1 t1, h1 99 = some (gO M1 p1 t1) := by obtain ⟨A9, E9, M9, p9, t9, hP9, -⟩ := id hS1; exact ⟨_, _, _, hP9.1.1⟩
  obtain ⟨M1, p1, t1, h99⟩ := h99
  refine j_p (nx := 328) hJ dL_law_327 rfl rfl ?_
  refine j_p (nx := 329) hJ dL_law_328 rfl rfl ?_
  refine j_p (nx := 330) hJ dL_law_329 rfl rfl ?_
  refine j_c (nx := 331) hJ dL_law_330 rfl gk_iconst_1 ?_
  refine j_p (nx := 332) hJ dL_law_331 rfl rfl ?_
  rw [show (1 : Int32) = nI 1 from rfl, gadd]
  refine hs 332 333 (6 * i + 1) _ _ _ _ _ dL_law_332 rfl rfl (by omega) ?_
  refine j_p (nx := 334) hJ dL_law_333 rfl rfl ?_
  refine j_p (nx := 335) hJ dL_law_334 rfl rfl ?_
  refine j_c (nx := 336) hJ dL_law_335 rfl gk_iconst_2 ?_
  refine j_p (nx := 337) hJ dL_law_336 rfl rfl ?_
  rw [show (2 : Int32) = nI 2 from rfl, gadd]
  refine hs 337 338 (6 * i + 2) _ _ _ _ _ dL_law_337 rfl rfl (by omega) ?_
  refine j_cv (nx := 341) hJ dL_law_338 rfl (r6_copy (d := 0) hS1 hI _ _) mL_39 h99 kX6_copy rfl (gle8 rfl) (fun o h2 hp => ?_)
  obtain ⟨rfl, hS2⟩ := hp
  refine j_ic_eq (nx := 344) (tgt := 1461) hJ dL_law_341 rfl (by decide) (fun _ => next h2 ?_) (fun q => absurd rfl q)
  exact gSim.step hC hS2 (i_copy hI _ _)
set_option maxHeartbeats 4000000 in
theorem lo_6 (hJ : gCl RL cL_law (some .boolean) false (gRuns 60) J P) (hs : gScr J L xs) (hi : 6 * i + 6 ≤ L) (next : ∀ h, gSim h → J 1461 [some (.ref 1000300), some (.ref 0), some (.ref 99), some (.int (nI (6 * i)))] [] h (130, 0, 0, false)) {h : GH} (hM : gSim h) : J 346 [some (.ref 1000300), some (.ref 0), some (.ref 99), some (.int (nI (6 * i)))] [] h (130, 0, 0, false) := by
  obtain ⟨R, N, hQ, hS, hI⟩ := hM
  obtain ⟨k, sn, a1, a2, a3, a4, a5, -, -⟩ := hI.k
  have hsy : ∀ r, r < 6 → ∀ c ∈ R (5 + 2 * r), gsy c := fun r hr => (a5 r hr).sy a2.2
  have hne : ∀ r, r < 6 → 1 ≤ (R (5 + 2 * r)).length := fun r hr => (a5 r hr).1
  have hcn : ∀ r, r < 6 → gcn (R (5 + 2 * r)) := fun r hr => (a5 r hr).2.2.2.1
  refine j_p (nx := 347) hJ dL_law_346 rfl rfl ?_
  refine j_p (nx := 348) hJ dL_law_347 rfl rfl ?_
  refine j_p (nx := 349) hJ dL_law_348 rfl rfl ?_
  refine j_c (nx := 350) hJ dL_law_349 rfl gk_iconst_1 ?_
  refine j_p (nx := 351) hJ dL_law_350 rfl rfl ?_
  rw [show (1 : Int32) = nI 1 from rfl, gadd]
  refine hs 351 352 (6 * i + 1) _ _ _ _ _ dL_law_351 rfl rfl (by omega) ?_
  refine j_cv (nx := 355) hJ dL_law_352 rfl (r_length (fl := false) (d := 0) hQ  _) mL_40 hQ.1.1 kX5_length rfl (gle8 rfl) (fun o h1 hp => ?_)
  obtain ⟨rfl, hC⟩ := hp
  have hS1 := hS.mv hC.fr
  have h99 : ∃ M1 p1 t1, h1 99 = some (gO M1 p1 t1) := by obtain ⟨A9, E9, M9, p9, t9, hP9, -⟩ := id hS1; exact ⟨_, _, _, hP9.1.1⟩
  obtain ⟨M1, p1, t1, h99⟩ := h99
  refine j_p (nx := 356) hJ dL_law_355 rfl rfl ?_
  refine j_p (nx := 357) hJ dL_law_356 rfl rfl ?_
  refine j_p (nx := 358) hJ dL_law_357 rfl rfl ?_
  refine j_c (nx := 359) hJ dL_law_358 rfl gk_iconst_1 ?_
  refine j_p (nx := 360) hJ dL_law_359 rfl rfl ?_
  rw [show (1 : Int32) = nI 1 from rfl, gadd]
  refine hs 360 361 (6 * i + 1) _ _ _ _ _ dL_law_360 rfl rfl (by omega) ?_
  refine j_cv (nx := 364) hJ dL_law_361 rfl (r6_length (d := 0) hS1 hI _) mL_43 h99 kX6_length rfl (gle8 rfl) (fun o h2 hp => ?_)
  obtain ⟨rfl, hS2⟩ := hp
  refine j_ic_eq (nx := 367) (tgt := 1461) hJ dL_law_364 rfl (by decide) (fun _ => next h2 ?_) (fun q => absurd rfl q)
  exact gSim.step hC hS2 hI
set_option maxHeartbeats 4000000 in
theorem lo_7 (hJ : gCl RL cL_law (some .boolean) false (gRuns 60) J P) (hs : gScr J L xs) (hi : 6 * i + 6 ≤ L) (next : ∀ h, gSim h → J 1461 [some (.ref 1000300), some (.ref 0), some (.ref 99), some (.int (nI (6 * i)))] [] h (130, 0, 0, false)) {h : GH} (hM : gSim h) : J 369 [some (.ref 1000300), some (.ref 0), some (.ref 99), some (.int (nI (6 * i)))] [] h (130, 0, 0, false) := by
  obtain ⟨R, N, hQ, hS, hI⟩ := hM
  obtain ⟨k, sn, a1, a2, a3, a4, a5, -, -⟩ := hI.k
  have hsy : ∀ r, r < 6 → ∀ c ∈ R (5 + 2 * r), gsy c := fun r hr => (a5 r hr).sy a2.2
  have hne : ∀ r, r < 6 → 1 ≤ (R (5 + 2 * r)).length := fun r hr => (a5 r hr).1
  have hcn : ∀ r, r < 6 → gcn (R (5 + 2 * r)) := fun r hr => (a5 r hr).2.2.2.1
  refine j_p (nx := 370) hJ dL_law_369 rfl rfl ?_
  refine j_p (nx := 371) hJ dL_law_370 rfl rfl ?_
  refine j_p (nx := 372) hJ dL_law_371 rfl rfl ?_
  refine j_c (nx := 373) hJ dL_law_372 rfl gk_iconst_1 ?_
  refine j_p (nx := 374) hJ dL_law_373 rfl rfl ?_
  rw [show (1 : Int32) = nI 1 from rfl, gadd]
  refine hs 374 375 (6 * i + 1) _ _ _ _ _ dL_law_374 rfl rfl (by omega) ?_
  refine j_p (nx := 376) hJ dL_law_375 rfl rfl ?_
  refine j_p (nx := 377) hJ dL_law_376 rfl rfl ?_
  refine j_c (nx := 378) hJ dL_law_377 rfl gk_iconst_2 ?_
  refine j_p (nx := 379) hJ dL_law_378 rfl rfl ?_
  rw [show (2 : Int32) = nI 2 from rfl, gadd]
  refine hs 379 380 (6 * i + 2) _ _ _ _ _ dL_law_379 rfl rfl (by omega) ?_
  refine j_cv (nx := 383) hJ dL_law_380 rfl (r_symbol (fl := false) (d := 0) hQ  _ _) mL_44 hQ.1.1 kX5_symbol rfl (gle8 rfl) (fun o h1 hp => ?_)
  obtain ⟨rfl, hC⟩ := hp
  have hS1 := hS.mv hC.fr
  have h99 : ∃ M1 p1 t1, h1 99 = some (gO M1 p1 t1) := by obtain ⟨A9, E9, M9, p9, t9, hP9, -⟩ := id hS1; exact ⟨_, _, _, hP9.1.1⟩
  obtain ⟨M1, p1, t1, h99⟩ := h99
  refine j_p (nx := 384) hJ dL_law_383 rfl rfl ?_
  refine j_p (nx := 385) hJ dL_law_384 rfl rfl ?_
  refine j_p (nx := 386) hJ dL_law_385 rfl rfl ?_
  refine j_c (nx := 387) hJ dL_law_386 rfl gk_iconst_1 ?_
  refine j_p (nx := 388) hJ dL_law_387 rfl rfl ?_
  rw [show (1 : Int32) = nI 1 from rfl, gadd]
  refine hs 388 389 (6 * i + 1) _ _ _ _ _ dL_law_388 rfl rfl (by omega) ?_
  refine j_p (nx := 390) hJ dL_law_389 rfl rfl ?_
  refine j_p (nx := 391) hJ dL_law_390 rfl rfl ?_
  refine j_c (nx := 392) hJ dL_law_391 rfl gk_iconst_2 ?_
  refine j_p (nx := 393) hJ dL_law_392 rfl rfl ?_
  rw [show (2 : Int32) = nI 2 from rfl, gadd]
  refine hs 393 394 (6 * i + 2) _ _ _ _ _ dL_law_393 rfl rfl (by omega) ?_
  refine j_cv (nx := 397) hJ dL_law_394 rfl (r6_symbol (d := 0) hS1 hI _ _) mL_47 h99 kX6_symbol rfl (gle8 rfl) (fun o h2 hp => ?_)
  obtain ⟨rfl, hS2⟩ := hp
  refine j_ic_eq (nx := 400) (tgt := 1461) hJ dL_law_397 rfl (by decide) (fun _ => next h2 ?_) (fun q => absurd rfl q)
  exact gSim.step hC hS2 hI
set_option maxHeartbeats 4000000 in
theorem lo_8 (hJ : gCl RL cL_law (some .boolean) false (gRuns 60) J P) (hs : gScr J L xs) (hi : 6 * i + 6 ≤ L) (next : ∀ h, gSim h → J 1461 [some (.ref 1000300), some (.ref 0), some (.ref 99), some (.int (nI (6 * i)))] [] h (130, 0, 0, false)) {h : GH} (hM : gSim h) : J 402 [some (.ref 1000300), some (.ref 0), some (.ref 99), some (.int (nI (6 * i)))] [] h (130, 0, 0, false) := by
  obtain ⟨R, N, hQ, hS, hI⟩ := hM
  obtain ⟨k, sn, a1, a2, a3, a4, a5, -, -⟩ := hI.k
  have hsy : ∀ r, r < 6 → ∀ c ∈ R (5 + 2 * r), gsy c := fun r hr => (a5 r hr).sy a2.2
  have hne : ∀ r, r < 6 → 1 ≤ (R (5 + 2 * r)).length := fun r hr => (a5 r hr).1
  have hcn : ∀ r, r < 6 → gcn (R (5 + 2 * r)) := fun r hr => (a5 r hr).2.2.2.1
  refine j_p (nx := 403) hJ dL_law_402 rfl rfl ?_
  refine j_p (nx := 404) hJ dL_law_403 rfl rfl ?_
  refine j_p (nx := 405) hJ dL_law_404 rfl rfl ?_
  refine j_c (nx := 406) hJ dL_law_405 rfl gk_iconst_1 ?_
  refine j_p (nx := 407) hJ dL_law_406 rfl rfl ?_
  rw [show (1 : Int32) = nI 1 from rfl, gadd]
  refine hs 407 408 (6 * i + 1) _ _ _ _ _ dL_law_407 rfl rfl (by omega) ?_
  refine j_cv (nx := 411) hJ dL_law_408 rfl (r_variableCount (fl := false) (d := 0) hQ  _) mL_48 hQ.1.1 kX5_variableCount rfl (gle8 rfl) (fun o h1 hp => ?_)
  obtain ⟨rfl, hC⟩ := hp
  have hS1 := hS.mv hC.fr
  have h99 : ∃ M1 p1 t1, h1 99 = some (gO M1 p1 t1) := by obtain ⟨A9, E9, M9, p9, t9, hP9, -⟩ := id hS1; exact ⟨_, _, _, hP9.1.1⟩
  obtain ⟨M1, p1, t1, h99⟩ := h99
  refine j_p (nx := 412) hJ dL_law_411 rfl rfl ?_
  refine j_p (nx := 413) hJ dL_law_412 rfl rfl ?_
  refine j_p (nx := 414) hJ dL_law_413 rfl rfl ?_
  refine j_c (nx := 415) hJ dL_law_414 rfl gk_iconst_1 ?_
  refine j_p (nx := 416) hJ dL_law_415 rfl rfl ?_
  rw [show (1 : Int32) = nI 1 from rfl, gadd]
  refine hs 416 417 (6 * i + 1) _ _ _ _ _ dL_law_416 rfl rfl (by omega) ?_
  refine j_cv (nx := 420) hJ dL_law_417 rfl (r6_variableCount (d := 0) hS1 hI _) mL_51 h99 kX6_variableCount rfl (gle8 rfl) (fun o h2 hp => ?_)
  obtain ⟨rfl, hS2⟩ := hp
  refine j_ic_eq (nx := 423) (tgt := 1461) hJ dL_law_420 rfl (by decide) (fun _ => next h2 ?_) (fun q => absurd rfl q)
  exact gSim.step hC hS2 hI
set_option maxHeartbeats 4000000 in
theorem lo_9 (hJ : gCl RL cL_law (some .boolean) false (gRuns 60) J P) (hs : gScr J L xs) (hi : 6 * i + 6 ≤ L) (next : ∀ h, gSim h → J 1461 [some (.ref 1000300), some (.ref 0), some (.ref 99), some (.int (nI (6 * i)))] [] h (130, 0, 0, false)) {h : GH} (hM : gSim h) : J 425 [some (.ref 1000300), some (.ref 0), some (.ref 99), some (.int (nI (6 * i)))] [] h (130, 0, 0, false) := by
  obtain ⟨R, N, hQ, hS, hI⟩ := hM
  obtain ⟨k, sn, a1, a2, a3, a4, a5, -, -⟩ := hI.k
  have hsy : ∀ r, r < 6 → ∀ c ∈ R (5 + 2 * r), gsy c := fun r hr => (a5 r hr).sy a2.2
  have hne : ∀ r, r < 6 → 1 ≤ (R (5 + 2 * r)).length := fun r hr => (a5 r hr).1
  have hcn : ∀ r, r < 6 → gcn (R (5 + 2 * r)) := fun r hr => (a5 r hr).2.2.2.1
  refine j_p (nx := 426) hJ dL_law_425 rfl rfl ?_
  refine j_p (nx := 427) hJ dL_law_426 rfl rfl ?_
  refine j_p (nx := 428) hJ dL_law_427 rfl rfl ?_
  refine j_c (nx := 429) hJ dL_law_428 rfl gk_iconst_1 ?_
  refine j_p (nx := 430) hJ dL_law_429 rfl rfl ?_
  rw [show (1 : Int32) = nI 1 from rfl, gadd]
  refine hs 430 431 (6 * i + 1) _ _ _ _ _ dL_law_430 rfl rfl (by omega) ?_
  refine j_p (nx := 432) hJ dL_law_431 rfl rfl ?_
  refine j_p (nx := 433) hJ dL_law_432 rfl rfl ?_
  refine j_c (nx := 434) hJ dL_law_433 rfl gk_iconst_2 ?_
  refine j_p (nx := 435) hJ dL_law_434 rfl rfl ?_
  rw [show (2 : Int32) = nI 2 from rfl, gadd]
  refine hs 435 436 (6 * i + 2) _ _ _ _ _ dL_law_435 rfl rfl (by omega) ?_
  refine j_cv (nx := 439) hJ dL_law_436 rfl (r_occurrences (fl := false) (d := 0) hQ  _ _) mL_52 hQ.1.1 kX5_occurrences rfl (gle8 rfl) (fun o h1 hp => ?_)
  obtain ⟨rfl, hC⟩ := hp
  have hS1 := hS.mv hC.fr
  have h99 : ∃ M1 p1 t1, h1 99 = some (gO M1 p1 t1) := by obtain ⟨A9, E9, M9, p9, t9, hP9, -⟩ := id hS1; exact ⟨_, _, _, hP9.1.1⟩
  obtain ⟨M1, p1, t1, h99⟩ := h99
  refine j_p (nx := 440) hJ dL_law_439 rfl rfl ?_
  refine j_p (nx := 441) hJ dL_law_440 rfl rfl ?_
  refine j_p (nx := 442) hJ dL_law_441 rfl rfl ?_
  refine j_c (nx := 443) hJ dL_law_442 rfl gk_iconst_1 ?_
  refine j_p (nx := 444) hJ dL_law_443 rfl rfl ?_
  rw [show (1 : Int32) = nI 1 from rfl, gadd]
  refine hs 444 445 (6 * i + 1) _ _ _ _ _ dL_law_444 rfl rfl (by omega) ?_
  refine j_p (nx := 446) hJ dL_law_445 rfl rfl ?_
  refine j_p (nx := 447) hJ dL_law_446 rfl rfl ?_
  refine j_c (nx := 448) hJ dL_law_447 rfl gk_iconst_2 ?_
  refine j_p (nx := 449) hJ dL_law_448 rfl rfl ?_
  rw [show (2 : Int32) = nI 2 from rfl, gadd]
  refine hs 449 450 (6 * i + 2) _ _ _ _ _ dL_law_449 rfl rfl (by omega) ?_
  refine j_cv (nx := 453) hJ dL_law_450 rfl (r6_occurrences (d := 0) hS1 hI _ _) mL_55 h99 kX6_occurrences rfl (gle8 rfl) (fun o h2 hp => ?_)
  obtain ⟨rfl, hS2⟩ := hp
  refine j_ic_eq (nx := 456) (tgt := 1461) hJ dL_law_453 rfl (by decide) (fun _ => next h2 ?_) (fun q => absurd rfl q)
  exact gSim.step hC hS2 hI
set_option maxHeartbeats 4000000 in
theorem lo_10 (hJ : gCl RL cL_law (some .boolean) false (gRuns 60) J P) (hs : gScr J L xs) (hi : 6 * i + 6 ≤ L) (next : ∀ h, gSim h → J 1461 [some (.ref 1000300), some (.ref 0), some (.ref 99), some (.int (nI (6 * i)))] [] h (130, 0, 0, false)) {h : GH} (hM : gSim h) : J 458 [some (.ref 1000300), some (.ref 0), some (.ref 99), some (.int (nI (6 * i)))] [] h (130, 0, 0, false) := by
  obtain ⟨R, N, hQ, hS, hI⟩ := hM
  obtain ⟨k, sn, a1, a2, a3, a4, a5, -, -⟩ := hI.k
  have hsy : ∀ r, r < 6 → ∀ c ∈ R (5 + 2 * r), gsy c := fun r hr => (a5 r hr).sy a2.2
  have hne : ∀ r, r < 6 → 1 ≤ (R (5 + 2 * r)).length := fun r hr => (a5 r hr).1
  have hcn : ∀ r, r < 6 → gcn (R (5 + 2 * r)) := fun r hr => (a5 r hr).2.2.2.1
  refine j_p (nx := 459) hJ dL_law_458 rfl rfl ?_
  refine j_p (nx := 460) hJ dL_law_459 rfl rfl ?_
  refine j_p (nx := 461) hJ dL_law_460 rfl rfl ?_
  refine j_c (nx := 462) hJ dL_law_461 rfl gk_iconst_1 ?_
  refine j_p (nx := 463) hJ dL_law_462 rfl rfl ?_
  rw [show (1 : Int32) = nI 1 from rfl, gadd]
  refine hs 463 464 (6 * i + 1) _ _ _ _ _ dL_law_463 rfl rfl (by omega) ?_
  refine j_p (nx := 465) hJ dL_law_464 rfl rfl ?_
  refine j_p (nx := 466) hJ dL_law_465 rfl rfl ?_
  refine j_c (nx := 467) hJ dL_law_466 rfl gk_iconst_2 ?_
  refine j_p (nx := 468) hJ dL_law_467 rfl rfl ?_
  rw [show (2 : Int32) = nI 2 from rfl, gadd]
  refine hs 468 469 (6 * i + 2) _ _ _ _ _ dL_law_468 rfl rfl (by omega) ?_
  refine j_cv (nx := 472) hJ dL_law_469 rfl (r_compareQuality (fl := false) (d := 0) hQ  _ _) mL_56 hQ.1.1 kX5_compareQuality rfl (gle8 rfl) (fun o h1 hp => ?_)
  obtain ⟨rfl, hC⟩ := hp
  have hS1 := hS.mv hC.fr
  have h99 : ∃ M1 p1 t1, h1 99 = some (gO M1 p1 t1) := by obtain ⟨A9, E9, M9, p9, t9, hP9, -⟩ := id hS1; exact ⟨_, _, _, hP9.1.1⟩
  obtain ⟨M1, p1, t1, h99⟩ := h99
  refine j_p (nx := 473) hJ dL_law_472 rfl rfl ?_
  refine j_p (nx := 474) hJ dL_law_473 rfl rfl ?_
  refine j_p (nx := 475) hJ dL_law_474 rfl rfl ?_
  refine j_c (nx := 476) hJ dL_law_475 rfl gk_iconst_1 ?_
  refine j_p (nx := 477) hJ dL_law_476 rfl rfl ?_
  rw [show (1 : Int32) = nI 1 from rfl, gadd]
  refine hs 477 478 (6 * i + 1) _ _ _ _ _ dL_law_477 rfl rfl (by omega) ?_
  refine j_p (nx := 479) hJ dL_law_478 rfl rfl ?_
  refine j_p (nx := 480) hJ dL_law_479 rfl rfl ?_
  refine j_c (nx := 481) hJ dL_law_480 rfl gk_iconst_2 ?_
  refine j_p (nx := 482) hJ dL_law_481 rfl rfl ?_
  rw [show (2 : Int32) = nI 2 from rfl, gadd]
  refine hs 482 483 (6 * i + 2) _ _ _ _ _ dL_law_482 rfl rfl (by omega) ?_
  refine j_cv (nx := 486) hJ dL_law_483 rfl (r6_compareQuality (d := 0) hS1 hI _ _) mL_59 h99 kX6_compareQuality rfl (gle8 rfl) (fun o h2 hp => ?_)
  obtain ⟨rfl, hS2⟩ := hp
  refine j_ic_eq (nx := 489) (tgt := 1461) hJ dL_law_486 rfl (by decide) (fun _ => next h2 ?_) (fun q => absurd rfl q)
  exact gSim.step hC hS2 hI
set_option maxHeartbeats 4000000 in
theorem lo_11 (hJ : gCl RL cL_law (some .boolean) false (gRuns 60) J P) (hs : gScr J L xs) (hi : 6 * i + 6 ≤ L) (next : ∀ h, gSim h → J 1461 [some (.ref 1000300), some (.ref 0), some (.ref 99), some (.int (nI (6 * i)))] [] h (130, 0, 0, false)) {h : GH} (hM : gSim h) : J 491 [some (.ref 1000300), some (.ref 0), some (.ref 99), some (.int (nI (6 * i)))] [] h (130, 0, 0, false) := by
  obtain ⟨R, N, hQ, hS, hI⟩ := hM
  obtain ⟨k, sn, a1, a2, a3, a4, a5, -, -⟩ := hI.k
  have hsy : ∀ r, r < 6 → ∀ c ∈ R (5 + 2 * r), gsy c := fun r hr => (a5 r hr).sy a2.2
  have hne : ∀ r, r < 6 → 1 ≤ (R (5 + 2 * r)).length := fun r hr => (a5 r hr).1
  have hcn : ∀ r, r < 6 → gcn (R (5 + 2 * r)) := fun r hr => (a5 r hr).2.2.2.1
  refine j_p (nx := 492) hJ dL_law_491 rfl rfl ?_
  refine j_p (nx := 493) hJ dL_law_492 rfl rfl ?_
  refine j_p (nx := 494) hJ dL_law_493 rfl rfl ?_
  refine j_c (nx := 495) hJ dL_law_494 rfl gk_iconst_1 ?_
  refine j_p (nx := 496) hJ dL_law_495 rfl rfl ?_
  rw [show (1 : Int32) = nI 1 from rfl, gadd]
  refine hs 496 497 (6 * i + 1) _ _ _ _ _ dL_law_496 rfl rfl (by omega) ?_
  refine j_p (nx := 498) hJ dL_law_497 rfl rfl ?_
  refine j_p (nx := 499) hJ dL_law_498 rfl rfl ?_
  refine j_c (nx := 500) hJ dL_law_499 rfl gk_iconst_2 ?_
  refine j_p (nx := 501) hJ dL_law_500 rfl rfl ?_
  rw [show (2 : Int32) = nI 2 from rfl, gadd]
  refine hs 501 502 (6 * i + 2) _ _ _ _ _ dL_law_501 rfl rfl (by omega) ?_
  refine j_p (nx := 503) hJ dL_law_502 rfl rfl ?_
  refine j_p (nx := 504) hJ dL_law_503 rfl rfl ?_
  refine j_c (nx := 505) hJ dL_law_504 rfl gk_iconst_3 ?_
  refine j_p (nx := 506) hJ dL_law_505 rfl rfl ?_
  rw [show (3 : Int32) = nI 3 from rfl, gadd]
  refine hs 506 507 (6 * i + 3) _ _ _ _ _ dL_law_506 rfl rfl (by omega) ?_
  refine j_cv (nx := 510) hJ dL_law_507 rfl (r_replace (fl := false) (d := 0) hQ  _ _ _) mL_60 hQ.1.1 kX5_replace rfl (gle8 rfl) (fun o h1 hp => ?_)
  obtain ⟨rfl, hC⟩ := hp
  have hS1 := hS.mv hC.fr
  have h99 : ∃ M1 p1 t1, h1 99 = some (gO M1 p1 t1) := by obtain ⟨A9, E9, M9, p9, t9, hP9, -⟩ := id hS1; exact ⟨_, _, _, hP9.1.1⟩
  obtain ⟨M1, p1, t1, h99⟩ := h99
  refine j_p (nx := 511) hJ dL_law_510 rfl rfl ?_
  refine j_p (nx := 512) hJ dL_law_511 rfl rfl ?_
  refine j_p (nx := 513) hJ dL_law_512 rfl rfl ?_
  refine j_c (nx := 514) hJ dL_law_513 rfl gk_iconst_1 ?_
  refine j_p (nx := 515) hJ dL_law_514 rfl rfl ?_
  rw [show (1 : Int32) = nI 1 from rfl, gadd]
  refine hs 515 516 (6 * i + 1) _ _ _ _ _ dL_law_515 rfl rfl (by omega) ?_
  refine j_p (nx := 517) hJ dL_law_516 rfl rfl ?_
  refine j_p (nx := 518) hJ dL_law_517 rfl rfl ?_
  refine j_c (nx := 519) hJ dL_law_518 rfl gk_iconst_2 ?_
  refine j_p (nx := 520) hJ dL_law_519 rfl rfl ?_
  rw [show (2 : Int32) = nI 2 from rfl, gadd]
  refine hs 520 521 (6 * i + 2) _ _ _ _ _ dL_law_520 rfl rfl (by omega) ?_
  refine j_p (nx := 522) hJ dL_law_521 rfl rfl ?_
  refine j_p (nx := 523) hJ dL_law_522 rfl rfl ?_
  refine j_c (nx := 524) hJ dL_law_523 rfl gk_iconst_3 ?_
  refine j_p (nx := 525) hJ dL_law_524 rfl rfl ?_
  rw [show (3 : Int32) = nI 3 from rfl, gadd]
  refine hs 525 526 (6 * i + 3) _ _ _ _ _ dL_law_525 rfl rfl (by omega) ?_
  refine j_cv (nx := 529) hJ dL_law_526 rfl (r6_replace (d := 0) hS1 hI _ _ _) mL_64 h99 kX6_replace rfl (gle8 rfl) (fun o h2 hp => ?_)
  obtain ⟨rfl, hS2⟩ := hp
  refine j_ic_eq (nx := 532) (tgt := 1461) hJ dL_law_529 rfl (by decide) (fun _ => next h2 ?_) (fun q => absurd rfl q)
  exact gSim.step hC hS2 (i_replace hI _ _ _)
set_option maxHeartbeats 4000000 in
theorem lo_12 (hJ : gCl RL cL_law (some .boolean) false (gRuns 60) J P) (hs : gScr J L xs) (hi : 6 * i + 6 ≤ L) (next : ∀ h, gSim h → J 1461 [some (.ref 1000300), some (.ref 0), some (.ref 99), some (.int (nI (6 * i)))] [] h (130, 0, 0, false)) {h : GH} (hM : gSim h) : J 534 [some (.ref 1000300), some (.ref 0), some (.ref 99), some (.int (nI (6 * i)))] [] h (130, 0, 0, false) := by
  obtain ⟨R, N, hQ, hS, hI⟩ := hM
  obtain ⟨k, sn, a1, a2, a3, a4, a5, -, -⟩ := hI.k
  have hsy : ∀ r, r < 6 → ∀ c ∈ R (5 + 2 * r), gsy c := fun r hr => (a5 r hr).sy a2.2
  have hne : ∀ r, r < 6 → 1 ≤ (R (5 + 2 * r)).length := fun r hr => (a5 r hr).1
  have hcn : ∀ r, r < 6 → gcn (R (5 + 2 * r)) := fun r hr => (a5 r hr).2.2.2.1
  refine j_p (nx := 535) hJ dL_law_534 rfl rfl ?_
  refine j_p (nx := 536) hJ dL_law_535 rfl rfl ?_
  refine j_p (nx := 537) hJ dL_law_536 rfl rfl ?_
  refine j_c (nx := 538) hJ dL_law_537 rfl gk_iconst_1 ?_
  refine j_p (nx := 539) hJ dL_law_538 rfl rfl ?_
  rw [show (1 : Int32) = nI 1 from rfl, gadd]
  refine hs 539 540 (6 * i + 1) _ _ _ _ _ dL_law_539 rfl rfl (by omega) ?_
  refine j_p (nx := 541) hJ dL_law_540 rfl rfl ?_
  refine j_p (nx := 542) hJ dL_law_541 rfl rfl ?_
  refine j_c (nx := 543) hJ dL_law_542 rfl gk_iconst_2 ?_
  refine j_p (nx := 544) hJ dL_law_543 rfl rfl ?_
  rw [show (2 : Int32) = nI 2 from rfl, gadd]
  refine hs 544 545 (6 * i + 2) _ _ _ _ _ dL_law_544 rfl rfl (by omega) ?_
  refine j_p (nx := 546) hJ dL_law_545 rfl rfl ?_
  refine j_p (nx := 547) hJ dL_law_546 rfl rfl ?_
  refine j_c (nx := 548) hJ dL_law_547 rfl gk_iconst_3 ?_
  refine j_p (nx := 549) hJ dL_law_548 rfl rfl ?_
  rw [show (3 : Int32) = nI 3 from rfl, gadd]
  refine hs 549 550 (6 * i + 3) _ _ _ _ _ dL_law_549 rfl rfl (by omega) ?_
  refine j_cv (nx := 553) hJ dL_law_550 rfl (r_merge (fl := false) (d := 0) hQ  _ _ _) mL_65 hQ.1.1 kX5_merge rfl (gle8 rfl) (fun o h1 hp => ?_)
  obtain ⟨rfl, hC⟩ := hp
  have hS1 := hS.mv hC.fr
  have h99 : ∃ M1 p1 t1, h1 99 = some (gO M1 p1 t1) := by obtain ⟨A9, E9, M9, p9, t9, hP9, -⟩ := id hS1; exact ⟨_, _, _, hP9.1.1⟩
  obtain ⟨M1, p1, t1, h99⟩ := h99
  refine j_p (nx := 554) hJ dL_law_553 rfl rfl ?_
  refine j_p (nx := 555) hJ dL_law_554 rfl rfl ?_
  refine j_p (nx := 556) hJ dL_law_555 rfl rfl ?_
  refine j_c (nx := 557) hJ dL_law_556 rfl gk_iconst_1 ?_
  refine j_p (nx := 558) hJ dL_law_557 rfl rfl ?_
  rw [show (1 : Int32) = nI 1 from rfl, gadd]
  refine hs 558 559 (6 * i + 1) _ _ _ _ _ dL_law_558 rfl rfl (by omega) ?_
  refine j_p (nx := 560) hJ dL_law_559 rfl rfl ?_
  refine j_p (nx := 561) hJ dL_law_560 rfl rfl ?_
  refine j_c (nx := 562) hJ dL_law_561 rfl gk_iconst_2 ?_
  refine j_p (nx := 563) hJ dL_law_562 rfl rfl ?_
  rw [show (2 : Int32) = nI 2 from rfl, gadd]
  refine hs 563 564 (6 * i + 2) _ _ _ _ _ dL_law_563 rfl rfl (by omega) ?_
  refine j_p (nx := 565) hJ dL_law_564 rfl rfl ?_
  refine j_p (nx := 566) hJ dL_law_565 rfl rfl ?_
  refine j_c (nx := 567) hJ dL_law_566 rfl gk_iconst_3 ?_
  refine j_p (nx := 568) hJ dL_law_567 rfl rfl ?_
  rw [show (3 : Int32) = nI 3 from rfl, gadd]
  refine hs 568 569 (6 * i + 3) _ _ _ _ _ dL_law_568 rfl rfl (by omega) ?_
  refine j_cv (nx := 572) hJ dL_law_569 rfl (r6_merge (d := 0) hS1 hI _ _ _) mL_68 h99 kX6_merge rfl (gle8 rfl) (fun o h2 hp => ?_)
  obtain ⟨rfl, hS2⟩ := hp
  refine j_ic_eq (nx := 575) (tgt := 1461) hJ dL_law_572 rfl (by decide) (fun _ => next h2 ?_) (fun q => absurd rfl q)
  exact gSim.step hC hS2 (i_merge hI _ _ _)
set_option maxHeartbeats 4000000 in
theorem lo_13 (hJ : gCl RL cL_law (some .boolean) false (gRuns 60) J P) (hs : gScr J L xs) (hi : 6 * i + 6 ≤ L) (next : ∀ h, gSim h → J 1461 [some (.ref 1000300), some (.ref 0), some (.ref 99), some (.int (nI (6 * i)))] [] h (130, 0, 0, false)) {h : GH} (hM : gSim h) : J 577 [some (.ref 1000300), some (.ref 0), some (.ref 99), some (.int (nI (6 * i)))] [] h (130, 0, 0, false) := by
  obtain ⟨R, N, hQ, hS, hI⟩ := hM
  obtain ⟨k, sn, a1, a2, a3, a4, a5, -, -⟩ := hI.k
  have hsy : ∀ r, r < 6 → ∀ c ∈ R (5 + 2 * r), gsy c := fun r hr => (a5 r hr).sy a2.2
  have hne : ∀ r, r < 6 → 1 ≤ (R (5 + 2 * r)).length := fun r hr => (a5 r hr).1
  have hcn : ∀ r, r < 6 → gcn (R (5 + 2 * r)) := fun r hr => (a5 r hr).2.2.2.1
  refine j_p (nx := 578) hJ dL_law_577 rfl rfl ?_
  refine j_p (nx := 579) hJ dL_law_578 rfl rfl ?_
  refine j_p (nx := 580) hJ dL_law_579 rfl rfl ?_
  refine j_c (nx := 581) hJ dL_law_580 rfl gk_iconst_1 ?_
  refine j_p (nx := 582) hJ dL_law_581 rfl rfl ?_
  rw [show (1 : Int32) = nI 1 from rfl, gadd]
  refine hs 582 583 (6 * i + 1) _ _ _ _ _ dL_law_582 rfl rfl (by omega) ?_
  refine j_p (nx := 584) hJ dL_law_583 rfl rfl ?_
  refine j_p (nx := 585) hJ dL_law_584 rfl rfl ?_
  refine j_c (nx := 586) hJ dL_law_585 rfl gk_iconst_2 ?_
  refine j_p (nx := 587) hJ dL_law_586 rfl rfl ?_
  rw [show (2 : Int32) = nI 2 from rfl, gadd]
  refine hs 587 588 (6 * i + 2) _ _ _ _ _ dL_law_587 rfl rfl (by omega) ?_
  refine j_cv (nx := 591) hJ dL_law_588 rfl (r_split (fl := false) (d := 0) hQ  _ _) mL_69 hQ.1.1 kX5_split rfl (gle8 rfl) (fun o h1 hp => ?_)
  obtain ⟨rfl, hC⟩ := hp
  have hS1 := hS.mv hC.fr
  have h99 : ∃ M1 p1 t1, h1 99 = some (gO M1 p1 t1) := by obtain ⟨A9, E9, M9, p9, t9, hP9, -⟩ := id hS1; exact ⟨_, _, _, hP9.1.1⟩
  obtain ⟨M1, p1, t1, h99⟩ := h99
  refine j_p (nx := 592) hJ dL_law_591 rfl rfl ?_
  refine j_p (nx := 593) hJ dL_law_592 rfl rfl ?_
  refine j_p (nx := 594) hJ dL_law_593 rfl rfl ?_
  refine j_c (nx := 595) hJ dL_law_594 rfl gk_iconst_1 ?_
  refine j_p (nx := 596) hJ dL_law_595 rfl rfl ?_
  rw [show (1 : Int32) = nI 1 from rfl, gadd]
  refine hs 596 597 (6 * i + 1) _ _ _ _ _ dL_law_596 rfl rfl (by omega) ?_
  refine j_p (nx := 598) hJ dL_law_597 rfl rfl ?_
  refine j_p (nx := 599) hJ dL_law_598 rfl rfl ?_
  refine j_c (nx := 600) hJ dL_law_599 rfl gk_iconst_2 ?_
  refine j_p (nx := 601) hJ dL_law_600 rfl rfl ?_
  rw [show (2 : Int32) = nI 2 from rfl, gadd]
  refine hs 601 602 (6 * i + 2) _ _ _ _ _ dL_law_601 rfl rfl (by omega) ?_
  refine j_cv (nx := 605) hJ dL_law_602 rfl (r6_split (d := 0) hS1 hI _ _) mL_72 h99 kX6_split rfl (gle8 rfl) (fun o h2 hp => ?_)
  obtain ⟨rfl, hS2⟩ := hp
  refine j_ic_eq (nx := 608) (tgt := 1461) hJ dL_law_605 rfl (by decide) (fun _ => next h2 ?_) (fun q => absurd rfl q)
  exact gSim.step hC hS2 (i_split hI _ _)
set_option maxHeartbeats 4000000 in
theorem lo_14 (hJ : gCl RL cL_law (some .boolean) false (gRuns 60) J P) (hs : gScr J L xs) (hi : 6 * i + 6 ≤ L) (next : ∀ h, gSim h → J 1461 [some (.ref 1000300), some (.ref 0), some (.ref 99), some (.int (nI (6 * i)))] [] h (130, 0, 0, false)) {h : GH} (hM : gSim h) : J 610 [some (.ref 1000300), some (.ref 0), some (.ref 99), some (.int (nI (6 * i)))] [] h (130, 0, 0, false) := by
  obtain ⟨R, N, hQ, hS, hI⟩ := hM
  obtain ⟨k, sn, a1, a2, a3, a4, a5, -, -⟩ := hI.k
  have hsy : ∀ r, r < 6 → ∀ c ∈ R (5 + 2 * r), gsy c := fun r hr => (a5 r hr).sy a2.2
  have hne : ∀ r, r < 6 → 1 ≤ (R (5 + 2 * r)).length := fun r hr => (a5 r hr).1
  have hcn : ∀ r, r < 6 → gcn (R (5 + 2 * r)) := fun r hr => (a5 r hr).2.2.2.1
  refine j_p (nx := 611) hJ dL_law_610 rfl rfl ?_
  refine j_p (nx := 612) hJ dL_law_611 rfl rfl ?_
  refine j_p (nx := 613) hJ dL_law_612 rfl rfl ?_
  refine j_c (nx := 614) hJ dL_law_613 rfl gk_iconst_1 ?_
  refine j_p (nx := 615) hJ dL_law_614 rfl rfl ?_
  rw [show (1 : Int32) = nI 1 from rfl, gadd]
  refine hs 615 616 (6 * i + 1) _ _ _ _ _ dL_law_615 rfl rfl (by omega) ?_
  refine j_cv (nx := 619) hJ dL_law_616 rfl (r_transform (fl := false) (d := 0) hQ hne _) mL_73 hQ.1.1 kX5_transform rfl (gle8 rfl) (fun o h1 hp => ?_)
  obtain ⟨rfl, hC⟩ := hp
  have hS1 := hS.mv hC.fr
  have h99 : ∃ M1 p1 t1, h1 99 = some (gO M1 p1 t1) := by obtain ⟨A9, E9, M9, p9, t9, hP9, -⟩ := id hS1; exact ⟨_, _, _, hP9.1.1⟩
  obtain ⟨M1, p1, t1, h99⟩ := h99
  refine j_p (nx := 620) hJ dL_law_619 rfl rfl ?_
  refine j_p (nx := 621) hJ dL_law_620 rfl rfl ?_
  refine j_p (nx := 622) hJ dL_law_621 rfl rfl ?_
  refine j_c (nx := 623) hJ dL_law_622 rfl gk_iconst_1 ?_
  refine j_p (nx := 624) hJ dL_law_623 rfl rfl ?_
  rw [show (1 : Int32) = nI 1 from rfl, gadd]
  refine hs 624 625 (6 * i + 1) _ _ _ _ _ dL_law_624 rfl rfl (by omega) ?_
  refine j_cv (nx := 628) hJ dL_law_625 rfl (r6_transform (d := 0) hS1 hI _) mL_76 h99 kX6_transform rfl (gle8 rfl) (fun o h2 hp => ?_)
  obtain ⟨rfl, hS2⟩ := hp
  refine j_ic_eq (nx := 631) (tgt := 1461) hJ dL_law_628 rfl (by decide) (fun _ => next h2 ?_) (fun q => absurd rfl q)
  exact gSim.step hC hS2 (i_transform hI _)
set_option maxHeartbeats 4000000 in
theorem lo_15 (hJ : gCl RL cL_law (some .boolean) false (gRuns 60) J P) (hs : gScr J L xs) (hi : 6 * i + 6 ≤ L) (next : ∀ h, gSim h → J 1461 [some (.ref 1000300), some (.ref 0), some (.ref 99), some (.int (nI (6 * i)))] [] h (130, 0, 0, false)) {h : GH} (hM : gSim h) : J 633 [some (.ref 1000300), some (.ref 0), some (.ref 99), some (.int (nI (6 * i)))] [] h (130, 0, 0, false) := by
  obtain ⟨R, N, hQ, hS, hI⟩ := hM
  obtain ⟨k, sn, a1, a2, a3, a4, a5, -, -⟩ := hI.k
  have hsy : ∀ r, r < 6 → ∀ c ∈ R (5 + 2 * r), gsy c := fun r hr => (a5 r hr).sy a2.2
  have hne : ∀ r, r < 6 → 1 ≤ (R (5 + 2 * r)).length := fun r hr => (a5 r hr).1
  have hcn : ∀ r, r < 6 → gcn (R (5 + 2 * r)) := fun r hr => (a5 r hr).2.2.2.1
  refine j_p (nx := 634) hJ dL_law_633 rfl rfl ?_
  refine j_p (nx := 635) hJ dL_law_634 rfl rfl ?_
  refine j_p (nx := 636) hJ dL_law_635 rfl rfl ?_
  refine j_c (nx := 637) hJ dL_law_636 rfl gk_iconst_1 ?_
  refine j_p (nx := 638) hJ dL_law_637 rfl rfl ?_
  rw [show (1 : Int32) = nI 1 from rfl, gadd]
  refine hs 638 639 (6 * i + 1) _ _ _ _ _ dL_law_638 rfl rfl (by omega) ?_
  refine j_p (nx := 640) hJ dL_law_639 rfl rfl ?_
  refine j_p (nx := 641) hJ dL_law_640 rfl rfl ?_
  refine j_c (nx := 642) hJ dL_law_641 rfl gk_iconst_2 ?_
  refine j_p (nx := 643) hJ dL_law_642 rfl rfl ?_
  rw [show (2 : Int32) = nI 2 from rfl, gadd]
  refine hs 643 644 (6 * i + 2) _ _ _ _ _ dL_law_643 rfl rfl (by omega) ?_
  refine j_cv (nx := 647) hJ dL_law_644 rfl (r_matches (fl := false) (d := 0) hQ hsy _ _) mL_77 hQ.1.1 kX5_matches rfl (gle8 rfl) (fun o h1 hp => ?_)
  obtain ⟨rfl, hC⟩ := hp
  have hS1 := hS.mv hC.fr
  have h99 : ∃ M1 p1 t1, h1 99 = some (gO M1 p1 t1) := by obtain ⟨A9, E9, M9, p9, t9, hP9, -⟩ := id hS1; exact ⟨_, _, _, hP9.1.1⟩
  obtain ⟨M1, p1, t1, h99⟩ := h99
  refine j_p (nx := 648) hJ dL_law_647 rfl rfl ?_
  refine j_p (nx := 649) hJ dL_law_648 rfl rfl ?_
  refine j_p (nx := 650) hJ dL_law_649 rfl rfl ?_
  refine j_c (nx := 651) hJ dL_law_650 rfl gk_iconst_1 ?_
  refine j_p (nx := 652) hJ dL_law_651 rfl rfl ?_
  rw [show (1 : Int32) = nI 1 from rfl, gadd]
  refine hs 652 653 (6 * i + 1) _ _ _ _ _ dL_law_652 rfl rfl (by omega) ?_
  refine j_p (nx := 654) hJ dL_law_653 rfl rfl ?_
  refine j_p (nx := 655) hJ dL_law_654 rfl rfl ?_
  refine j_c (nx := 656) hJ dL_law_655 rfl gk_iconst_2 ?_
  refine j_p (nx := 657) hJ dL_law_656 rfl rfl ?_
  rw [show (2 : Int32) = nI 2 from rfl, gadd]
  refine hs 657 658 (6 * i + 2) _ _ _ _ _ dL_law_657 rfl rfl (by omega) ?_
  refine j_cv (nx := 661) hJ dL_law_658 rfl (r6_matches (d := 0) hS1 hI _ _) mL_80 h99 kX6_matches rfl (gle8 rfl) (fun o h2 hp => ?_)
  obtain ⟨rfl, hS2⟩ := hp
  refine j_ic_eq (nx := 664) (tgt := 1461) hJ dL_law_661 rfl (by decide) (fun _ => next h2 ?_) (fun q => absurd rfl q)
  exact gSim.step hC hS2 (hI.u73 (Nat.zero_le _))
set_option maxHeartbeats 4000000 in
theorem lo_16 (hJ : gCl RL cL_law (some .boolean) false (gRuns 60) J P) (hs : gScr J L xs) (hi : 6 * i + 6 ≤ L) (next : ∀ h, gSim h → J 1461 [some (.ref 1000300), some (.ref 0), some (.ref 99), some (.int (nI (6 * i)))] [] h (130, 0, 0, false)) {h : GH} (hM : gSim h) : J 666 [some (.ref 1000300), some (.ref 0), some (.ref 99), some (.int (nI (6 * i)))] [] h (130, 0, 0, false) := by
  obtain ⟨R, N, hQ, hS, hI⟩ := hM
  obtain ⟨k, sn, a1, a2, a3, a4, a5, -, -⟩ := hI.k
  have hsy : ∀ r, r < 6 → ∀ c ∈ R (5 + 2 * r), gsy c := fun r hr => (a5 r hr).sy a2.2
  have hne : ∀ r, r < 6 → 1 ≤ (R (5 + 2 * r)).length := fun r hr => (a5 r hr).1
  have hcn : ∀ r, r < 6 → gcn (R (5 + 2 * r)) := fun r hr => (a5 r hr).2.2.2.1
  refine j_p (nx := 667) hJ dL_law_666 rfl rfl ?_
  refine j_p (nx := 668) hJ dL_law_667 rfl rfl ?_
  refine j_p (nx := 669) hJ dL_law_668 rfl rfl ?_
  refine j_c (nx := 670) hJ dL_law_669 rfl gk_iconst_1 ?_
  refine j_p (nx := 671) hJ dL_law_670 rfl rfl ?_
  rw [show (1 : Int32) = nI 1 from rfl, gadd]
  refine hs 671 672 (6 * i + 1) _ _ _ _ _ dL_law_671 rfl rfl (by omega) ?_
  refine j_p (nx := 673) hJ dL_law_672 rfl rfl ?_
  refine j_p (nx := 674) hJ dL_law_673 rfl rfl ?_
  refine j_c (nx := 675) hJ dL_law_674 rfl gk_iconst_2 ?_
  refine j_p (nx := 676) hJ dL_law_675 rfl rfl ?_
  rw [show (2 : Int32) = nI 2 from rfl, gadd]
  refine hs 676 677 (6 * i + 2) _ _ _ _ _ dL_law_676 rfl rfl (by omega) ?_
  refine j_cv (nx := 680) hJ dL_law_677 rfl (r_matchCount (fl := false) (d := 0) hQ hsy _ _) mL_81 hQ.1.1 kX5_matchCount rfl (gle8 rfl) (fun o h1 hp => ?_)
  obtain ⟨rfl, hC⟩ := hp
  have hS1 := hS.mv hC.fr
  have h99 : ∃ M1 p1 t1, h1 99 = some (gO M1 p1 t1) := by obtain ⟨A9, E9, M9, p9, t9, hP9, -⟩ := id hS1; exact ⟨_, _, _, hP9.1.1⟩
  obtain ⟨M1, p1, t1, h99⟩ := h99
  refine j_p (nx := 681) hJ dL_law_680 rfl rfl ?_
  refine j_p (nx := 682) hJ dL_law_681 rfl rfl ?_
  refine j_p (nx := 683) hJ dL_law_682 rfl rfl ?_
  refine j_c (nx := 684) hJ dL_law_683 rfl gk_iconst_1 ?_
  refine j_p (nx := 685) hJ dL_law_684 rfl rfl ?_
  rw [show (1 : Int32) = nI 1 from rfl, gadd]
  refine hs 685 686 (6 * i + 1) _ _ _ _ _ dL_law_685 rfl rfl (by omega) ?_
  refine j_p (nx := 687) hJ dL_law_686 rfl rfl ?_
  refine j_p (nx := 688) hJ dL_law_687 rfl rfl ?_
  refine j_c (nx := 689) hJ dL_law_688 rfl gk_iconst_2 ?_
  refine j_p (nx := 690) hJ dL_law_689 rfl rfl ?_
  rw [show (2 : Int32) = nI 2 from rfl, gadd]
  refine hs 690 691 (6 * i + 2) _ _ _ _ _ dL_law_690 rfl rfl (by omega) ?_
  refine j_cv (nx := 694) hJ dL_law_691 rfl (r6_matchCount (d := 0) hS1 hI _ _) mL_84 h99 kX6_matchCount rfl (gle8 rfl) (fun o h2 hp => ?_)
  obtain ⟨rfl, hS2⟩ := hp
  refine j_ic_eq (nx := 697) (tgt := 1461) hJ dL_law_694 rfl (by decide) (fun _ => next h2 ?_) (fun q => absurd rfl q)
  exact gSim.step hC hS2 (hI.u73 (Nat.zero_le _))
set_option maxHeartbeats 4000000 in
theorem lo_17 (hJ : gCl RL cL_law (some .boolean) false (gRuns 60) J P) (hs : gScr J L xs) (hi : 6 * i + 6 ≤ L) (next : ∀ h, gSim h → J 1461 [some (.ref 1000300), some (.ref 0), some (.ref 99), some (.int (nI (6 * i)))] [] h (130, 0, 0, false)) {h : GH} (hM : gSim h) : J 699 [some (.ref 1000300), some (.ref 0), some (.ref 99), some (.int (nI (6 * i)))] [] h (130, 0, 0, false) := by
  obtain ⟨R, N, hQ, hS, hI⟩ := hM
  obtain ⟨k, sn, a1, a2, a3, a4, a5, -, -⟩ := hI.k
  have hsy : ∀ r, r < 6 → ∀ c ∈ R (5 + 2 * r), gsy c := fun r hr => (a5 r hr).sy a2.2
  have hne : ∀ r, r < 6 → 1 ≤ (R (5 + 2 * r)).length := fun r hr => (a5 r hr).1
  have hcn : ∀ r, r < 6 → gcn (R (5 + 2 * r)) := fun r hr => (a5 r hr).2.2.2.1
  refine j_p (nx := 700) hJ dL_law_699 rfl rfl ?_
  refine j_p (nx := 701) hJ dL_law_700 rfl rfl ?_
  refine j_p (nx := 702) hJ dL_law_701 rfl rfl ?_
  refine j_c (nx := 703) hJ dL_law_702 rfl gk_iconst_1 ?_
  refine j_p (nx := 704) hJ dL_law_703 rfl rfl ?_
  rw [show (1 : Int32) = nI 1 from rfl, gadd]
  refine hs 704 705 (6 * i + 1) _ _ _ _ _ dL_law_704 rfl rfl (by omega) ?_
  refine j_p (nx := 706) hJ dL_law_705 rfl rfl ?_
  refine j_p (nx := 707) hJ dL_law_706 rfl rfl ?_
  refine j_c (nx := 708) hJ dL_law_707 rfl gk_iconst_2 ?_
  refine j_p (nx := 709) hJ dL_law_708 rfl rfl ?_
  rw [show (2 : Int32) = nI 2 from rfl, gadd]
  refine hs 709 710 (6 * i + 2) _ _ _ _ _ dL_law_709 rfl rfl (by omega) ?_
  refine j_cv (nx := 713) hJ dL_law_710 rfl (r_match (fl := false) (d := 0) hQ hsy hcn _ _) mL_85 hQ.1.1 kX5_match rfl (gle8 rfl) (fun o h1 hp => ?_)
  obtain ⟨rfl, hC⟩ := hp
  have hS1 := hS.mv hC.fr
  have h99 : ∃ M1 p1 t1, h1 99 = some (gO M1 p1 t1) := by obtain ⟨A9, E9, M9, p9, t9, hP9, -⟩ := id hS1; exact ⟨_, _, _, hP9.1.1⟩
  obtain ⟨M1, p1, t1, h99⟩ := h99
  refine j_p (nx := 714) hJ dL_law_713 rfl rfl ?_
  refine j_p (nx := 715) hJ dL_law_714 rfl rfl ?_
  refine j_p (nx := 716) hJ dL_law_715 rfl rfl ?_
  refine j_c (nx := 717) hJ dL_law_716 rfl gk_iconst_1 ?_
  refine j_p (nx := 718) hJ dL_law_717 rfl rfl ?_
  rw [show (1 : Int32) = nI 1 from rfl, gadd]
  refine hs 718 719 (6 * i + 1) _ _ _ _ _ dL_law_718 rfl rfl (by omega) ?_
  refine j_p (nx := 720) hJ dL_law_719 rfl rfl ?_
  refine j_p (nx := 721) hJ dL_law_720 rfl rfl ?_
  refine j_c (nx := 722) hJ dL_law_721 rfl gk_iconst_2 ?_
  refine j_p (nx := 723) hJ dL_law_722 rfl rfl ?_
  rw [show (2 : Int32) = nI 2 from rfl, gadd]
  refine hs 723 724 (6 * i + 2) _ _ _ _ _ dL_law_723 rfl rfl (by omega) ?_
  refine j_cv (nx := 727) hJ dL_law_724 rfl (r6_match_ (d := 0) hS1 hI _ _) mL_88 h99 kX6_match_ rfl (gle8 rfl) (fun o h2 hp => ?_)
  obtain ⟨rfl, hS2⟩ := hp
  refine j_ic_eq (nx := 730) (tgt := 1461) hJ dL_law_727 rfl (by decide) (fun _ => next h2 ?_) (fun q => absurd rfl q)
  exact gSim.step hC hS2 (i_match hI _ _)
set_option maxHeartbeats 4000000 in
theorem lo_18 (hJ : gCl RL cL_law (some .boolean) false (gRuns 60) J P) (hs : gScr J L xs) (hi : 6 * i + 6 ≤ L) (next : ∀ h, gSim h → J 1461 [some (.ref 1000300), some (.ref 0), some (.ref 99), some (.int (nI (6 * i)))] [] h (130, 0, 0, false)) {h : GH} (hM : gSim h) : J 732 [some (.ref 1000300), some (.ref 0), some (.ref 99), some (.int (nI (6 * i)))] [] h (130, 0, 0, false) := by
  obtain ⟨R, N, hQ, hS, hI⟩ := hM
  obtain ⟨k, sn, a1, a2, a3, a4, a5, -, -⟩ := hI.k
  have hsy : ∀ r, r < 6 → ∀ c ∈ R (5 + 2 * r), gsy c := fun r hr => (a5 r hr).sy a2.2
  have hne : ∀ r, r < 6 → 1 ≤ (R (5 + 2 * r)).length := fun r hr => (a5 r hr).1
  have hcn : ∀ r, r < 6 → gcn (R (5 + 2 * r)) := fun r hr => (a5 r hr).2.2.2.1
  refine j_p (nx := 733) hJ dL_law_732 rfl rfl ?_
  refine j_p (nx := 734) hJ dL_law_733 rfl rfl ?_
  refine j_p (nx := 735) hJ dL_law_734 rfl rfl ?_
  refine j_c (nx := 736) hJ dL_law_735 rfl gk_iconst_1 ?_
  refine j_p (nx := 737) hJ dL_law_736 rfl rfl ?_
  rw [show (1 : Int32) = nI 1 from rfl, gadd]
  refine hs 737 738 (6 * i + 1) _ _ _ _ _ dL_law_737 rfl rfl (by omega) ?_
  refine j_cv (nx := 741) hJ dL_law_738 rfl (r_setImage (fl := false) (d := 0) hQ  _) mL_89 hQ.1.1 kX5_setImage rfl (gle8 rfl) (fun o h1 hp => ?_)
  obtain ⟨rfl, hC⟩ := hp
  have hS1 := hS.mv hC.fr
  have h99 : ∃ M1 p1 t1, h1 99 = some (gO M1 p1 t1) := by obtain ⟨A9, E9, M9, p9, t9, hP9, -⟩ := id hS1; exact ⟨_, _, _, hP9.1.1⟩
  obtain ⟨M1, p1, t1, h99⟩ := h99
  refine j_p (nx := 742) hJ dL_law_741 rfl rfl ?_
  refine j_p (nx := 743) hJ dL_law_742 rfl rfl ?_
  refine j_p (nx := 744) hJ dL_law_743 rfl rfl ?_
  refine j_c (nx := 745) hJ dL_law_744 rfl gk_iconst_1 ?_
  refine j_p (nx := 746) hJ dL_law_745 rfl rfl ?_
  rw [show (1 : Int32) = nI 1 from rfl, gadd]
  refine hs 746 747 (6 * i + 1) _ _ _ _ _ dL_law_746 rfl rfl (by omega) ?_
  refine j_cv (nx := 750) hJ dL_law_747 rfl (r6_setImage (d := 0) hS1 hI _) mL_92 h99 kX6_setImage rfl (gle8 rfl) (fun o h2 hp => ?_)
  obtain ⟨rfl, hS2⟩ := hp
  refine j_ic_eq (nx := 753) (tgt := 1461) hJ dL_law_750 rfl (by decide) (fun _ => next h2 ?_) (fun q => absurd rfl q)
  exact gSim.step hC hS2 (i_setImage hI _)
set_option maxHeartbeats 4000000 in
theorem lo_19 (hJ : gCl RL cL_law (some .boolean) false (gRuns 60) J P) (hs : gScr J L xs) (hi : 6 * i + 6 ≤ L) (next : ∀ h, gSim h → J 1461 [some (.ref 1000300), some (.ref 0), some (.ref 99), some (.int (nI (6 * i)))] [] h (130, 0, 0, false)) {h : GH} (hM : gSim h) : J 755 [some (.ref 1000300), some (.ref 0), some (.ref 99), some (.int (nI (6 * i)))] [] h (130, 0, 0, false) := by
  obtain ⟨R, N, hQ, hS, hI⟩ := hM
  obtain ⟨k, sn, a1, a2, a3, a4, a5, -, -⟩ := hI.k
  have hsy : ∀ r, r < 6 → ∀ c ∈ R (5 + 2 * r), gsy c := fun r hr => (a5 r hr).sy a2.2
  have hne : ∀ r, r < 6 → 1 ≤ (R (5 + 2 * r)).length := fun r hr => (a5 r hr).1
  have hcn : ∀ r, r < 6 → gcn (R (5 + 2 * r)) := fun r hr => (a5 r hr).2.2.2.1
  refine j_p (nx := 756) hJ dL_law_755 rfl rfl ?_
  refine j_p (nx := 757) hJ dL_law_756 rfl rfl ?_
  refine j_p (nx := 758) hJ dL_law_757 rfl rfl ?_
  refine j_c (nx := 759) hJ dL_law_758 rfl gk_iconst_1 ?_
  refine j_p (nx := 760) hJ dL_law_759 rfl rfl ?_
  rw [show (1 : Int32) = nI 1 from rfl, gadd]
  refine hs 760 761 (6 * i + 1) _ _ _ _ _ dL_law_760 rfl rfl (by omega) ?_
  refine j_p (nx := 762) hJ dL_law_761 rfl rfl ?_
  refine j_p (nx := 763) hJ dL_law_762 rfl rfl ?_
  refine j_c (nx := 764) hJ dL_law_763 rfl gk_iconst_2 ?_
  refine j_p (nx := 765) hJ dL_law_764 rfl rfl ?_
  rw [show (2 : Int32) = nI 2 from rfl, gadd]
  refine hs 765 766 (6 * i + 2) _ _ _ _ _ dL_law_765 rfl rfl (by omega) ?_
  refine j_cv (nx := 769) hJ dL_law_766 rfl (r_imageLetter (fl := false) (d := 0) hQ  _ _) mL_93 hQ.1.1 kX5_imageLetter rfl (gle8 rfl) (fun o h1 hp => ?_)
  obtain ⟨rfl, hC⟩ := hp
  have hS1 := hS.mv hC.fr
  have h99 : ∃ M1 p1 t1, h1 99 = some (gO M1 p1 t1) := by obtain ⟨A9, E9, M9, p9, t9, hP9, -⟩ := id hS1; exact ⟨_, _, _, hP9.1.1⟩
  obtain ⟨M1, p1, t1, h99⟩ := h99
  refine j_p (nx := 770) hJ dL_law_769 rfl rfl ?_
  refine j_p (nx := 771) hJ dL_law_770 rfl rfl ?_
  refine j_p (nx := 772) hJ dL_law_771 rfl rfl ?_
  refine j_c (nx := 773) hJ dL_law_772 rfl gk_iconst_1 ?_
  refine j_p (nx := 774) hJ dL_law_773 rfl rfl ?_
  rw [show (1 : Int32) = nI 1 from rfl, gadd]
  refine hs 774 775 (6 * i + 1) _ _ _ _ _ dL_law_774 rfl rfl (by omega) ?_
  refine j_p (nx := 776) hJ dL_law_775 rfl rfl ?_
  refine j_p (nx := 777) hJ dL_law_776 rfl rfl ?_
  refine j_c (nx := 778) hJ dL_law_777 rfl gk_iconst_2 ?_
  refine j_p (nx := 779) hJ dL_law_778 rfl rfl ?_
  rw [show (2 : Int32) = nI 2 from rfl, gadd]
  refine hs 779 780 (6 * i + 2) _ _ _ _ _ dL_law_779 rfl rfl (by omega) ?_
  refine j_cv (nx := 783) hJ dL_law_780 rfl (r6_imageLetter (d := 0) hS1 hI _ _) mL_96 h99 kX6_imageLetter rfl (gle8 rfl) (fun o h2 hp => ?_)
  obtain ⟨rfl, hS2⟩ := hp
  refine j_ic_eq (nx := 786) (tgt := 1461) hJ dL_law_783 rfl (by decide) (fun _ => next h2 ?_) (fun q => absurd rfl q)
  exact gSim.step hC hS2 hI
set_option maxHeartbeats 4000000 in
theorem lo_20 (hJ : gCl RL cL_law (some .boolean) false (gRuns 60) J P) (hs : gScr J L xs) (hi : 6 * i + 6 ≤ L) (next : ∀ h, gSim h → J 1461 [some (.ref 1000300), some (.ref 0), some (.ref 99), some (.int (nI (6 * i)))] [] h (130, 0, 0, false)) {h : GH} (hM : gSim h) : J 788 [some (.ref 1000300), some (.ref 0), some (.ref 99), some (.int (nI (6 * i)))] [] h (130, 0, 0, false) := by
  obtain ⟨R, N, hQ, hS, hI⟩ := hM
  obtain ⟨k, sn, a1, a2, a3, a4, a5, -, -⟩ := hI.k
  have hsy : ∀ r, r < 6 → ∀ c ∈ R (5 + 2 * r), gsy c := fun r hr => (a5 r hr).sy a2.2
  have hne : ∀ r, r < 6 → 1 ≤ (R (5 + 2 * r)).length := fun r hr => (a5 r hr).1
  have hcn : ∀ r, r < 6 → gcn (R (5 + 2 * r)) := fun r hr => (a5 r hr).2.2.2.1
  refine j_p (nx := 789) hJ dL_law_788 rfl rfl ?_
  refine j_p (nx := 790) hJ dL_law_789 rfl rfl ?_
  refine j_p (nx := 791) hJ dL_law_790 rfl rfl ?_
  refine j_c (nx := 792) hJ dL_law_791 rfl gk_iconst_1 ?_
  refine j_p (nx := 793) hJ dL_law_792 rfl rfl ?_
  rw [show (1 : Int32) = nI 1 from rfl, gadd]
  refine hs 793 794 (6 * i + 1) _ _ _ _ _ dL_law_793 rfl rfl (by omega) ?_
  refine j_cv (nx := 797) hJ dL_law_794 rfl (r_addProduced (fl := false) (d := 0) hQ hsy a3 a4 _) mL_97 hQ.1.1 kX5_addProduced rfl (gle8 rfl) (fun o h1 hp => ?_)
  obtain ⟨rfl, hC⟩ := hp
  have hS1 := hS.mv hC.fr
  have h99 : ∃ M1 p1 t1, h1 99 = some (gO M1 p1 t1) := by obtain ⟨A9, E9, M9, p9, t9, hP9, -⟩ := id hS1; exact ⟨_, _, _, hP9.1.1⟩
  obtain ⟨M1, p1, t1, h99⟩ := h99
  refine j_p (nx := 798) hJ dL_law_797 rfl rfl ?_
  refine j_p (nx := 799) hJ dL_law_798 rfl rfl ?_
  refine j_p (nx := 800) hJ dL_law_799 rfl rfl ?_
  refine j_c (nx := 801) hJ dL_law_800 rfl gk_iconst_1 ?_
  refine j_p (nx := 802) hJ dL_law_801 rfl rfl ?_
  rw [show (1 : Int32) = nI 1 from rfl, gadd]
  refine hs 802 803 (6 * i + 1) _ _ _ _ _ dL_law_802 rfl rfl (by omega) ?_
  refine j_cv (nx := 806) hJ dL_law_803 rfl (r6_addProduced (d := 0) hS1 hI _) mL_100 h99 kX6_addProduced rfl (gle8 rfl) (fun o h2 hp => ?_)
  obtain ⟨rfl, hS2⟩ := hp
  refine j_ic_eq (nx := 809) (tgt := 1461) hJ dL_law_806 rfl (by decide) (fun _ => next h2 ?_) (fun q => absurd rfl q)
  exact gSim.step hC hS2 (i_addProduced hI _)
set_option maxHeartbeats 4000000 in
theorem lo_21 (hJ : gCl RL cL_law (some .boolean) false (gRuns 60) J P) (hs : gScr J L xs) (hi : 6 * i + 6 ≤ L) (next : ∀ h, gSim h → J 1461 [some (.ref 1000300), some (.ref 0), some (.ref 99), some (.int (nI (6 * i)))] [] h (130, 0, 0, false)) {h : GH} (hM : gSim h) : J 811 [some (.ref 1000300), some (.ref 0), some (.ref 99), some (.int (nI (6 * i)))] [] h (130, 0, 0, false) := by
  obtain ⟨R, N, hQ, hS, hI⟩ := hM
  obtain ⟨k, sn, a1, a2, a3, a4, a5, -, -⟩ := hI.k
  have hsy : ∀ r, r < 6 → ∀ c ∈ R (5 + 2 * r), gsy c := fun r hr => (a5 r hr).sy a2.2
  have hne : ∀ r, r < 6 → 1 ≤ (R (5 + 2 * r)).length := fun r hr => (a5 r hr).1
  have hcn : ∀ r, r < 6 → gcn (R (5 + 2 * r)) := fun r hr => (a5 r hr).2.2.2.1
  refine j_p (nx := 812) hJ dL_law_811 rfl rfl ?_
  refine j_cv (nx := 815) hJ dL_law_812 rfl (r_addWord (fl := false) (d := 0) hQ a3 a4) mL_101 hQ.1.1 kX5_addWord rfl (gle8 rfl) (fun o h1 hp => ?_)
  obtain ⟨rfl, hC⟩ := hp
  have hS1 := hS.mv hC.fr
  have h99 : ∃ M1 p1 t1, h1 99 = some (gO M1 p1 t1) := by obtain ⟨A9, E9, M9, p9, t9, hP9, -⟩ := id hS1; exact ⟨_, _, _, hP9.1.1⟩
  obtain ⟨M1, p1, t1, h99⟩ := h99
  refine j_p (nx := 816) hJ dL_law_815 rfl rfl ?_
  refine j_cv (nx := 819) hJ dL_law_816 rfl (r6_addWord (d := 0) hS1 hI) mL_104 h99 kX6_addWord rfl (gle8 rfl) (fun o h2 hp => ?_)
  obtain ⟨rfl, hS2⟩ := hp
  refine j_ic_eq (nx := 822) (tgt := 1461) hJ dL_law_819 rfl (by decide) (fun _ => next h2 ?_) (fun q => absurd rfl q)
  exact gSim.step hC hS2 (i_addWord hI)
set_option maxHeartbeats 4000000 in
theorem lo_22 (hJ : gCl RL cL_law (some .boolean) false (gRuns 60) J P) (hs : gScr J L xs) (hi : 6 * i + 6 ≤ L) (next : ∀ h, gSim h → J 1461 [some (.ref 1000300), some (.ref 0), some (.ref 99), some (.int (nI (6 * i)))] [] h (130, 0, 0, false)) {h : GH} (hM : gSim h) : J 824 [some (.ref 1000300), some (.ref 0), some (.ref 99), some (.int (nI (6 * i)))] [] h (130, 0, 0, false) := by
  obtain ⟨R, N, hQ, hS, hI⟩ := hM
  obtain ⟨k, sn, a1, a2, a3, a4, a5, -, -⟩ := hI.k
  have hsy : ∀ r, r < 6 → ∀ c ∈ R (5 + 2 * r), gsy c := fun r hr => (a5 r hr).sy a2.2
  have hne : ∀ r, r < 6 → 1 ≤ (R (5 + 2 * r)).length := fun r hr => (a5 r hr).1
  have hcn : ∀ r, r < 6 → gcn (R (5 + 2 * r)) := fun r hr => (a5 r hr).2.2.2.1
  refine j_p (nx := 825) hJ dL_law_824 rfl rfl ?_
  refine j_p (nx := 826) hJ dL_law_825 rfl rfl ?_
  refine j_p (nx := 827) hJ dL_law_826 rfl rfl ?_
  refine j_c (nx := 828) hJ dL_law_827 rfl gk_iconst_1 ?_
  refine j_p (nx := 829) hJ dL_law_828 rfl rfl ?_
  rw [show (1 : Int32) = nI 1 from rfl, gadd]
  refine hs 829 830 (6 * i + 1) _ _ _ _ _ dL_law_829 rfl rfl (by omega) ?_
  refine j_cv (nx := 833) hJ dL_law_830 rfl (r_removeWord (fl := false) (d := 0) hQ a3 a4 _) mL_105 hQ.1.1 kX5_removeWord rfl (gle8 rfl) (fun o h1 hp => ?_)
  obtain ⟨rfl, hC⟩ := hp
  have hS1 := hS.mv hC.fr
  have h99 : ∃ M1 p1 t1, h1 99 = some (gO M1 p1 t1) := by obtain ⟨A9, E9, M9, p9, t9, hP9, -⟩ := id hS1; exact ⟨_, _, _, hP9.1.1⟩
  obtain ⟨M1, p1, t1, h99⟩ := h99
  refine j_p (nx := 834) hJ dL_law_833 rfl rfl ?_
  refine j_p (nx := 835) hJ dL_law_834 rfl rfl ?_
  refine j_p (nx := 836) hJ dL_law_835 rfl rfl ?_
  refine j_c (nx := 837) hJ dL_law_836 rfl gk_iconst_1 ?_
  refine j_p (nx := 838) hJ dL_law_837 rfl rfl ?_
  rw [show (1 : Int32) = nI 1 from rfl, gadd]
  refine hs 838 839 (6 * i + 1) _ _ _ _ _ dL_law_838 rfl rfl (by omega) ?_
  refine j_cv (nx := 842) hJ dL_law_839 rfl (r6_removeWord (d := 0) hS1 hI _) mL_108 h99 kX6_removeWord rfl (gle8 rfl) (fun o h2 hp => ?_)
  obtain ⟨rfl, hS2⟩ := hp
  refine j_ic_eq (nx := 845) (tgt := 1461) hJ dL_law_842 rfl (by decide) (fun _ => next h2 ?_) (fun q => absurd rfl q)
  exact gSim.step hC hS2 (i_removeWord hI _)
set_option maxHeartbeats 4000000 in
theorem lo_23 (hJ : gCl RL cL_law (some .boolean) false (gRuns 60) J P) (hs : gScr J L xs) (hi : 6 * i + 6 ≤ L) (next : ∀ h, gSim h → J 1461 [some (.ref 1000300), some (.ref 0), some (.ref 99), some (.int (nI (6 * i)))] [] h (130, 0, 0, false)) {h : GH} (hM : gSim h) : J 847 [some (.ref 1000300), some (.ref 0), some (.ref 99), some (.int (nI (6 * i)))] [] h (130, 0, 0, false) := by
  obtain ⟨R, N, hQ, hS, hI⟩ := hM
  obtain ⟨k, sn, a1, a2, a3, a4, a5, -, -⟩ := hI.k
  have hsy : ∀ r, r < 6 → ∀ c ∈ R (5 + 2 * r), gsy c := fun r hr => (a5 r hr).sy a2.2
  have hne : ∀ r, r < 6 → 1 ≤ (R (5 + 2 * r)).length := fun r hr => (a5 r hr).1
  have hcn : ∀ r, r < 6 → gcn (R (5 + 2 * r)) := fun r hr => (a5 r hr).2.2.2.1
  refine j_p (nx := 848) hJ dL_law_847 rfl rfl ?_
  refine j_cv (nx := 851) hJ dL_law_848 rfl (r_sampleSize (fl := false) (d := 0) hQ ) mL_109 hQ.1.1 kX5_sampleSize rfl (gle8 rfl) (fun o h1 hp => ?_)
  obtain ⟨rfl, hC⟩ := hp
  have hS1 := hS.mv hC.fr
  have h99 : ∃ M1 p1 t1, h1 99 = some (gO M1 p1 t1) := by obtain ⟨A9, E9, M9, p9, t9, hP9, -⟩ := id hS1; exact ⟨_, _, _, hP9.1.1⟩
  obtain ⟨M1, p1, t1, h99⟩ := h99
  refine j_p (nx := 852) hJ dL_law_851 rfl rfl ?_
  refine j_cv (nx := 855) hJ dL_law_852 rfl (r6_sampleSize (d := 0) hS1 ) mL_112 h99 kX6_sampleSize rfl (gle8 rfl) (fun o h2 hp => ?_)
  obtain ⟨rfl, hS2⟩ := hp
  refine j_ic_eq (nx := 858) (tgt := 1461) hJ dL_law_855 rfl (by decide) (fun _ => next h2 ?_) (fun q => absurd rfl q)
  exact gSim.step hC hS2 hI
set_option maxHeartbeats 4000000 in
theorem lo_24 (hJ : gCl RL cL_law (some .boolean) false (gRuns 60) J P) (hs : gScr J L xs) (hi : 6 * i + 6 ≤ L) (next : ∀ h, gSim h → J 1461 [some (.ref 1000300), some (.ref 0), some (.ref 99), some (.int (nI (6 * i)))] [] h (130, 0, 0, false)) {h : GH} (hM : gSim h) : J 860 [some (.ref 1000300), some (.ref 0), some (.ref 99), some (.int (nI (6 * i)))] [] h (130, 0, 0, false) := by
  obtain ⟨R, N, hQ, hS, hI⟩ := hM
  obtain ⟨k, sn, a1, a2, a3, a4, a5, -, -⟩ := hI.k
  have hsy : ∀ r, r < 6 → ∀ c ∈ R (5 + 2 * r), gsy c := fun r hr => (a5 r hr).sy a2.2
  have hne : ∀ r, r < 6 → 1 ≤ (R (5 + 2 * r)).length := fun r hr => (a5 r hr).1
  have hcn : ∀ r, r < 6 → gcn (R (5 + 2 * r)) := fun r hr => (a5 r hr).2.2.2.1
  refine j_p (nx := 861) hJ dL_law_860 rfl rfl ?_
  refine j_p (nx := 862) hJ dL_law_861 rfl rfl ?_
  refine j_p (nx := 863) hJ dL_law_862 rfl rfl ?_
  refine j_c (nx := 864) hJ dL_law_863 rfl gk_iconst_1 ?_
  refine j_p (nx := 865) hJ dL_law_864 rfl rfl ?_
  rw [show (1 : Int32) = nI 1 from rfl, gadd]
  refine hs 865 866 (6 * i + 1) _ _ _ _ _ dL_law_865 rfl rfl (by omega) ?_
  refine j_cv (nx := 869) hJ dL_law_866 rfl (r_sampleCode (fl := false) (d := 0) hQ a3 a4 _) mL_113 hQ.1.1 kX5_sampleCode rfl (gle8 rfl) (fun o h1 hp => ?_)
  obtain ⟨rfl, hC⟩ := hp
  have hS1 := hS.mv hC.fr
  have h99 : ∃ M1 p1 t1, h1 99 = some (gO M1 p1 t1) := by obtain ⟨A9, E9, M9, p9, t9, hP9, -⟩ := id hS1; exact ⟨_, _, _, hP9.1.1⟩
  obtain ⟨M1, p1, t1, h99⟩ := h99
  refine j_p (nx := 870) hJ dL_law_869 rfl rfl ?_
  refine j_p (nx := 871) hJ dL_law_870 rfl rfl ?_
  refine j_p (nx := 872) hJ dL_law_871 rfl rfl ?_
  refine j_c (nx := 873) hJ dL_law_872 rfl gk_iconst_1 ?_
  refine j_p (nx := 874) hJ dL_law_873 rfl rfl ?_
  rw [show (1 : Int32) = nI 1 from rfl, gadd]
  refine hs 874 875 (6 * i + 1) _ _ _ _ _ dL_law_874 rfl rfl (by omega) ?_
  refine j_cv (nx := 878) hJ dL_law_875 rfl (r6_sampleCode (d := 0) hS1 hI _) mL_117 h99 kX6_sampleCode rfl (gle8 rfl) (fun o h2 hp => ?_)
  obtain ⟨rfl, hS2⟩ := hp
  refine j_p (nx := 879) hJ dL_law_878 rfl rfl ?_
  rw [glcmp]
  refine j_if_eq (nx := 882) (tgt := 1461) hJ dL_law_879 rfl (by decide) (fun _ => next h2 ?_) (fun q => absurd rfl q)
  exact gSim.step hC hS2 hI
set_option maxHeartbeats 4000000 in
theorem lo_25 (hJ : gCl RL cL_law (some .boolean) false (gRuns 60) J P) (hs : gScr J L xs) (hi : 6 * i + 6 ≤ L) (next : ∀ h, gSim h → J 1461 [some (.ref 1000300), some (.ref 0), some (.ref 99), some (.int (nI (6 * i)))] [] h (130, 0, 0, false)) {h : GH} (hM : gSim h) : J 884 [some (.ref 1000300), some (.ref 0), some (.ref 99), some (.int (nI (6 * i)))] [] h (130, 0, 0, false) := by
  obtain ⟨R, N, hQ, hS, hI⟩ := hM
  obtain ⟨k, sn, a1, a2, a3, a4, a5, -, -⟩ := hI.k
  have hsy : ∀ r, r < 6 → ∀ c ∈ R (5 + 2 * r), gsy c := fun r hr => (a5 r hr).sy a2.2
  have hne : ∀ r, r < 6 → 1 ≤ (R (5 + 2 * r)).length := fun r hr => (a5 r hr).1
  have hcn : ∀ r, r < 6 → gcn (R (5 + 2 * r)) := fun r hr => (a5 r hr).2.2.2.1
  refine j_p (nx := 885) hJ dL_law_884 rfl rfl ?_
  refine j_p (nx := 886) hJ dL_law_885 rfl rfl ?_
  refine j_p (nx := 887) hJ dL_law_886 rfl rfl ?_
  refine j_c (nx := 888) hJ dL_law_887 rfl gk_iconst_1 ?_
  refine j_p (nx := 889) hJ dL_law_888 rfl rfl ?_
  rw [show (1 : Int32) = nI 1 from rfl, gadd]
  refine hs 889 890 (6 * i + 1) _ _ _ _ _ dL_law_889 rfl rfl (by omega) ?_
  refine j_p (nx := 891) hJ dL_law_890 rfl rfl ?_
  refine j_p (nx := 892) hJ dL_law_891 rfl rfl ?_
  refine j_c (nx := 893) hJ dL_law_892 rfl gk_iconst_2 ?_
  refine j_p (nx := 894) hJ dL_law_893 rfl rfl ?_
  rw [show (2 : Int32) = nI 2 from rfl, gadd]
  refine hs 894 895 (6 * i + 2) _ _ _ _ _ dL_law_894 rfl rfl (by omega) ?_
  refine j_cv (nx := 898) hJ dL_law_895 rfl (r_firstMisfit (fl := false) (d := 0) hQ hsy a3 a4 _ _) mL_118 hQ.1.1 kX5_firstMisfit rfl (gle8 rfl) (fun o h1 hp => ?_)
  obtain ⟨rfl, hC⟩ := hp
  have hS1 := hS.mv hC.fr
  have h99 : ∃ M1 p1 t1, h1 99 = some (gO M1 p1 t1) := by obtain ⟨A9, E9, M9, p9, t9, hP9, -⟩ := id hS1; exact ⟨_, _, _, hP9.1.1⟩
  obtain ⟨M1, p1, t1, h99⟩ := h99
  refine j_p (nx := 899) hJ dL_law_898 rfl rfl ?_
  refine j_p (nx := 900) hJ dL_law_899 rfl rfl ?_
  refine j_p (nx := 901) hJ dL_law_900 rfl rfl ?_
  refine j_c (nx := 902) hJ dL_law_901 rfl gk_iconst_1 ?_
  refine j_p (nx := 903) hJ dL_law_902 rfl rfl ?_
  rw [show (1 : Int32) = nI 1 from rfl, gadd]
  refine hs 903 904 (6 * i + 1) _ _ _ _ _ dL_law_903 rfl rfl (by omega) ?_
  refine j_p (nx := 905) hJ dL_law_904 rfl rfl ?_
  refine j_p (nx := 906) hJ dL_law_905 rfl rfl ?_
  refine j_c (nx := 907) hJ dL_law_906 rfl gk_iconst_2 ?_
  refine j_p (nx := 908) hJ dL_law_907 rfl rfl ?_
  rw [show (2 : Int32) = nI 2 from rfl, gadd]
  refine hs 908 909 (6 * i + 2) _ _ _ _ _ dL_law_908 rfl rfl (by omega) ?_
  refine j_cv (nx := 912) hJ dL_law_909 rfl (r6_firstMisfit (d := 0) hS1 hI _ _) mL_121 h99 kX6_firstMisfit rfl (gle8 rfl) (fun o h2 hp => ?_)
  obtain ⟨rfl, hS2⟩ := hp
  refine j_ic_eq (nx := 915) (tgt := 1461) hJ dL_law_912 rfl (by decide) (fun _ => next h2 ?_) (fun q => absurd rfl q)
  exact gSim.step hC hS2 hI
set_option maxHeartbeats 4000000 in
theorem lo_26 (hJ : gCl RL cL_law (some .boolean) false (gRuns 60) J P) (hs : gScr J L xs) (hi : 6 * i + 6 ≤ L) (next : ∀ h, gSim h → J 1461 [some (.ref 1000300), some (.ref 0), some (.ref 99), some (.int (nI (6 * i)))] [] h (130, 0, 0, false)) {h : GH} (hM : gSim h) : J 917 [some (.ref 1000300), some (.ref 0), some (.ref 99), some (.int (nI (6 * i)))] [] h (130, 0, 0, false) := by
  obtain ⟨R, N, hQ, hS, hI⟩ := hM
  obtain ⟨k, sn, a1, a2, a3, a4, a5, -, -⟩ := hI.k
  have hsy : ∀ r, r < 6 → ∀ c ∈ R (5 + 2 * r), gsy c := fun r hr => (a5 r hr).sy a2.2
  have hne : ∀ r, r < 6 → 1 ≤ (R (5 + 2 * r)).length := fun r hr => (a5 r hr).1
  have hcn : ∀ r, r < 6 → gcn (R (5 + 2 * r)) := fun r hr => (a5 r hr).2.2.2.1
  refine j_p (nx := 918) hJ dL_law_917 rfl rfl ?_
  refine j_p (nx := 919) hJ dL_law_918 rfl rfl ?_
  refine j_p (nx := 920) hJ dL_law_919 rfl rfl ?_
  refine j_c (nx := 921) hJ dL_law_920 rfl gk_iconst_1 ?_
  refine j_p (nx := 922) hJ dL_law_921 rfl rfl ?_
  rw [show (1 : Int32) = nI 1 from rfl, gadd]
  refine hs 922 923 (6 * i + 1) _ _ _ _ _ dL_law_922 rfl rfl (by omega) ?_
  refine j_p (nx := 924) hJ dL_law_923 rfl rfl ?_
  refine j_p (nx := 925) hJ dL_law_924 rfl rfl ?_
  refine j_c (nx := 926) hJ dL_law_925 rfl gk_iconst_2 ?_
  refine j_p (nx := 927) hJ dL_law_926 rfl rfl ?_
  rw [show (2 : Int32) = nI 2 from rfl, gadd]
  refine hs 927 928 (6 * i + 2) _ _ _ _ _ dL_law_927 rfl rfl (by omega) ?_
  refine j_p (nx := 929) hJ dL_law_928 rfl rfl ?_
  refine j_p (nx := 930) hJ dL_law_929 rfl rfl ?_
  refine j_c (nx := 931) hJ dL_law_930 rfl gk_iconst_3 ?_
  refine j_p (nx := 932) hJ dL_law_931 rfl rfl ?_
  rw [show (3 : Int32) = nI 3 from rfl, gadd]
  refine hs 932 933 (6 * i + 3) _ _ _ _ _ dL_law_932 rfl rfl (by omega) ?_
  refine j_cv (nx := 936) hJ dL_law_933 rfl (r_isMoreGeneral (fl := false) (d := 0) hQ hsy _ _ _) mL_122 hQ.1.1 kX5_isMoreGeneral rfl (gle8 rfl) (fun o h1 hp => ?_)
  obtain ⟨rfl, hC⟩ := hp
  have hS1 := hS.mv hC.fr
  have h99 : ∃ M1 p1 t1, h1 99 = some (gO M1 p1 t1) := by obtain ⟨A9, E9, M9, p9, t9, hP9, -⟩ := id hS1; exact ⟨_, _, _, hP9.1.1⟩
  obtain ⟨M1, p1, t1, h99⟩ := h99
  refine j_p (nx := 937) hJ dL_law_936 rfl rfl ?_
  refine j_p (nx := 938) hJ dL_law_937 rfl rfl ?_
  refine j_p (nx := 939) hJ dL_law_938 rfl rfl ?_
  refine j_c (nx := 940) hJ dL_law_939 rfl gk_iconst_1 ?_
  refine j_p (nx := 941) hJ dL_law_940 rfl rfl ?_
  rw [show (1 : Int32) = nI 1 from rfl, gadd]
  refine hs 941 942 (6 * i + 1) _ _ _ _ _ dL_law_941 rfl rfl (by omega) ?_
  refine j_p (nx := 943) hJ dL_law_942 rfl rfl ?_
  refine j_p (nx := 944) hJ dL_law_943 rfl rfl ?_
  refine j_c (nx := 945) hJ dL_law_944 rfl gk_iconst_2 ?_
  refine j_p (nx := 946) hJ dL_law_945 rfl rfl ?_
  rw [show (2 : Int32) = nI 2 from rfl, gadd]
  refine hs 946 947 (6 * i + 2) _ _ _ _ _ dL_law_946 rfl rfl (by omega) ?_
  refine j_p (nx := 948) hJ dL_law_947 rfl rfl ?_
  refine j_p (nx := 949) hJ dL_law_948 rfl rfl ?_
  refine j_c (nx := 950) hJ dL_law_949 rfl gk_iconst_3 ?_
  refine j_p (nx := 951) hJ dL_law_950 rfl rfl ?_
  rw [show (3 : Int32) = nI 3 from rfl, gadd]
  refine hs 951 952 (6 * i + 3) _ _ _ _ _ dL_law_951 rfl rfl (by omega) ?_
  refine j_cv (nx := 955) hJ dL_law_952 rfl (r6_isMoreGeneral (d := 0) hS1 hI _ _ _) mL_125 h99 kX6_isMoreGeneral rfl (gle8 rfl) (fun o h2 hp => ?_)
  obtain ⟨rfl, hS2⟩ := hp
  refine j_ic_eq (nx := 958) (tgt := 1461) hJ dL_law_955 rfl (by decide) (fun _ => next h2 ?_) (fun q => absurd rfl q)
  exact gSim.step hC hS2 hI
set_option maxHeartbeats 4000000 in
theorem lo_27 (hJ : gCl RL cL_law (some .boolean) false (gRuns 60) J P) (hs : gScr J L xs) (hi : 6 * i + 6 ≤ L) (next : ∀ h, gSim h → J 1461 [some (.ref 1000300), some (.ref 0), some (.ref 99), some (.int (nI (6 * i)))] [] h (130, 0, 0, false)) {h : GH} (hM : gSim h) : J 960 [some (.ref 1000300), some (.ref 0), some (.ref 99), some (.int (nI (6 * i)))] [] h (130, 0, 0, false) := by
  obtain ⟨R, N, hQ, hS, hI⟩ := hM
  obtain ⟨k, sn, a1, a2, a3, a4, a5, -, -⟩ := hI.k
  have hsy : ∀ r, r < 6 → ∀ c ∈ R (5 + 2 * r), gsy c := fun r hr => (a5 r hr).sy a2.2
  have hne : ∀ r, r < 6 → 1 ≤ (R (5 + 2 * r)).length := fun r hr => (a5 r hr).1
  have hcn : ∀ r, r < 6 → gcn (R (5 + 2 * r)) := fun r hr => (a5 r hr).2.2.2.1
  refine j_p (nx := 961) hJ dL_law_960 rfl rfl ?_
  refine j_p (nx := 962) hJ dL_law_961 rfl rfl ?_
  refine j_p (nx := 963) hJ dL_law_962 rfl rfl ?_
  refine j_c (nx := 964) hJ dL_law_963 rfl gk_iconst_1 ?_
  refine j_p (nx := 965) hJ dL_law_964 rfl rfl ?_
  rw [show (1 : Int32) = nI 1 from rfl, gadd]
  refine hs 965 966 (6 * i + 1) _ _ _ _ _ dL_law_965 rfl rfl (by omega) ?_
  refine j_p (nx := 967) hJ dL_law_966 rfl rfl ?_
  refine j_p (nx := 968) hJ dL_law_967 rfl rfl ?_
  refine j_c (nx := 969) hJ dL_law_968 rfl gk_iconst_2 ?_
  refine j_p (nx := 970) hJ dL_law_969 rfl rfl ?_
  rw [show (2 : Int32) = nI 2 from rfl, gadd]
  refine hs 970 971 (6 * i + 2) _ _ _ _ _ dL_law_970 rfl rfl (by omega) ?_
  refine j_p (nx := 972) hJ dL_law_971 rfl rfl ?_
  refine j_p (nx := 973) hJ dL_law_972 rfl rfl ?_
  refine j_c (nx := 974) hJ dL_law_973 rfl gk_iconst_3 ?_
  refine j_p (nx := 975) hJ dL_law_974 rfl rfl ?_
  rw [show (3 : Int32) = nI 3 from rfl, gadd]
  refine hs 975 976 (6 * i + 3) _ _ _ _ _ dL_law_975 rfl rfl (by omega) ?_
  refine j_cv (nx := 979) hJ dL_law_976 rfl (r_chainBreak (fl := false) (d := 0) hQ hsy _ _ _) mL_126 hQ.1.1 kX5_chainBreak rfl (gle8 rfl) (fun o h1 hp => ?_)
  obtain ⟨rfl, hC⟩ := hp
  have hS1 := hS.mv hC.fr
  have h99 : ∃ M1 p1 t1, h1 99 = some (gO M1 p1 t1) := by obtain ⟨A9, E9, M9, p9, t9, hP9, -⟩ := id hS1; exact ⟨_, _, _, hP9.1.1⟩
  obtain ⟨M1, p1, t1, h99⟩ := h99
  refine j_p (nx := 980) hJ dL_law_979 rfl rfl ?_
  refine j_p (nx := 981) hJ dL_law_980 rfl rfl ?_
  refine j_p (nx := 982) hJ dL_law_981 rfl rfl ?_
  refine j_c (nx := 983) hJ dL_law_982 rfl gk_iconst_1 ?_
  refine j_p (nx := 984) hJ dL_law_983 rfl rfl ?_
  rw [show (1 : Int32) = nI 1 from rfl, gadd]
  refine hs 984 985 (6 * i + 1) _ _ _ _ _ dL_law_984 rfl rfl (by omega) ?_
  refine j_p (nx := 986) hJ dL_law_985 rfl rfl ?_
  refine j_p (nx := 987) hJ dL_law_986 rfl rfl ?_
  refine j_c (nx := 988) hJ dL_law_987 rfl gk_iconst_2 ?_
  refine j_p (nx := 989) hJ dL_law_988 rfl rfl ?_
  rw [show (2 : Int32) = nI 2 from rfl, gadd]
  refine hs 989 990 (6 * i + 2) _ _ _ _ _ dL_law_989 rfl rfl (by omega) ?_
  refine j_p (nx := 991) hJ dL_law_990 rfl rfl ?_
  refine j_p (nx := 992) hJ dL_law_991 rfl rfl ?_
  refine j_c (nx := 993) hJ dL_law_992 rfl gk_iconst_3 ?_
  refine j_p (nx := 994) hJ dL_law_993 rfl rfl ?_
  rw [show (3 : Int32) = nI 3 from rfl, gadd]
  refine hs 994 995 (6 * i + 3) _ _ _ _ _ dL_law_994 rfl rfl (by omega) ?_
  refine j_cv (nx := 998) hJ dL_law_995 rfl (r6_chainBreak (d := 0) hS1 hI _ _ _) mL_129 h99 kX6_chainBreak rfl (gle8 rfl) (fun o h2 hp => ?_)
  obtain ⟨rfl, hS2⟩ := hp
  refine j_ic_eq (nx := 1001) (tgt := 1461) hJ dL_law_998 rfl (by decide) (fun _ => next h2 ?_) (fun q => absurd rfl q)
  exact gSim.step hC hS2 hI
set_option maxHeartbeats 4000000 in
theorem lo_28 (hJ : gCl RL cL_law (some .boolean) false (gRuns 60) J P) (hs : gScr J L xs) (hi : 6 * i + 6 ≤ L) (next : ∀ h, gSim h → J 1461 [some (.ref 1000300), some (.ref 0), some (.ref 99), some (.int (nI (6 * i)))] [] h (130, 0, 0, false)) {h : GH} (hM : gSim h) : J 1003 [some (.ref 1000300), some (.ref 0), some (.ref 99), some (.int (nI (6 * i)))] [] h (130, 0, 0, false) := by
  obtain ⟨R, N, hQ, hS, hI⟩ := hM
  obtain ⟨k, sn, a1, a2, a3, a4, a5, -, -⟩ := hI.k
  have hsy : ∀ r, r < 6 → ∀ c ∈ R (5 + 2 * r), gsy c := fun r hr => (a5 r hr).sy a2.2
  have hne : ∀ r, r < 6 → 1 ≤ (R (5 + 2 * r)).length := fun r hr => (a5 r hr).1
  have hcn : ∀ r, r < 6 → gcn (R (5 + 2 * r)) := fun r hr => (a5 r hr).2.2.2.1
  refine j_p (nx := 1004) hJ dL_law_1003 rfl rfl ?_
  refine j_p (nx := 1005) hJ dL_law_1004 rfl rfl ?_
  refine j_p (nx := 1006) hJ dL_law_1005 rfl rfl ?_
  refine j_c (nx := 1007) hJ dL_law_1006 rfl gk_iconst_1 ?_
  refine j_p (nx := 1008) hJ dL_law_1007 rfl rfl ?_
  rw [show (1 : Int32) = nI 1 from rfl, gadd]
  refine hs 1008 1009 (6 * i + 1) _ _ _ _ _ dL_law_1008 rfl rfl (by omega) ?_
  refine j_p (nx := 1010) hJ dL_law_1009 rfl rfl ?_
  refine j_p (nx := 1011) hJ dL_law_1010 rfl rfl ?_
  refine j_c (nx := 1012) hJ dL_law_1011 rfl gk_iconst_2 ?_
  refine j_p (nx := 1013) hJ dL_law_1012 rfl rfl ?_
  rw [show (2 : Int32) = nI 2 from rfl, gadd]
  refine hs 1013 1014 (6 * i + 2) _ _ _ _ _ dL_law_1013 rfl rfl (by omega) ?_
  refine j_p (nx := 1015) hJ dL_law_1014 rfl rfl ?_
  refine j_p (nx := 1016) hJ dL_law_1015 rfl rfl ?_
  refine j_c (nx := 1017) hJ dL_law_1016 rfl gk_iconst_3 ?_
  refine j_p (nx := 1018) hJ dL_law_1017 rfl rfl ?_
  rw [show (3 : Int32) = nI 3 from rfl, gadd]
  refine hs 1018 1019 (6 * i + 3) _ _ _ _ _ dL_law_1018 rfl rfl (by omega) ?_
  refine j_cv (nx := 1022) hJ dL_law_1019 rfl (r_findPattern (fl := false) (d := 0) hQ a1 a2.2 a3 a4 _ _ _) mL_130 hQ.1.1 kX5_findPattern rfl (gle8 rfl) (fun o h1 hp => ?_)
  obtain ⟨rfl, hC⟩ := hp
  have hS1 := hS.mv hC.fr
  have h99 : ∃ M1 p1 t1, h1 99 = some (gO M1 p1 t1) := by obtain ⟨A9, E9, M9, p9, t9, hP9, -⟩ := id hS1; exact ⟨_, _, _, hP9.1.1⟩
  obtain ⟨M1, p1, t1, h99⟩ := h99
  refine j_p (nx := 1023) hJ dL_law_1022 rfl rfl ?_
  refine j_p (nx := 1024) hJ dL_law_1023 rfl rfl ?_
  refine j_p (nx := 1025) hJ dL_law_1024 rfl rfl ?_
  refine j_c (nx := 1026) hJ dL_law_1025 rfl gk_iconst_1 ?_
  refine j_p (nx := 1027) hJ dL_law_1026 rfl rfl ?_
  rw [show (1 : Int32) = nI 1 from rfl, gadd]
  refine hs 1027 1028 (6 * i + 1) _ _ _ _ _ dL_law_1027 rfl rfl (by omega) ?_
  refine j_p (nx := 1029) hJ dL_law_1028 rfl rfl ?_
  refine j_p (nx := 1030) hJ dL_law_1029 rfl rfl ?_
  refine j_c (nx := 1031) hJ dL_law_1030 rfl gk_iconst_2 ?_
  refine j_p (nx := 1032) hJ dL_law_1031 rfl rfl ?_
  rw [show (2 : Int32) = nI 2 from rfl, gadd]
  refine hs 1032 1033 (6 * i + 2) _ _ _ _ _ dL_law_1032 rfl rfl (by omega) ?_
  refine j_p (nx := 1034) hJ dL_law_1033 rfl rfl ?_
  refine j_p (nx := 1035) hJ dL_law_1034 rfl rfl ?_
  refine j_c (nx := 1036) hJ dL_law_1035 rfl gk_iconst_3 ?_
  refine j_p (nx := 1037) hJ dL_law_1036 rfl rfl ?_
  rw [show (3 : Int32) = nI 3 from rfl, gadd]
  refine hs 1037 1038 (6 * i + 3) _ _ _ _ _ dL_law_1037 rfl rfl (by omega) ?_
  refine j_cv (nx := 1041) hJ dL_law_1038 rfl (r6_findPattern (d := 0) hS1 hI _ _ _) mL_133 h99 kX6_findPattern rfl (gle8 rfl) (fun o h2 hp => ?_)
  obtain ⟨rfl, hS2⟩ := hp
  refine j_ic_eq (nx := 1044) (tgt := 1461) hJ dL_law_1041 rfl (by decide) (fun _ => next h2 ?_) (fun q => absurd rfl q)
  exact gSim.step hC hS2 (i_findPattern hI _ _ _)
set_option maxHeartbeats 4000000 in
theorem lo_29 (hJ : gCl RL cL_law (some .boolean) false (gRuns 60) J P) (hs : gScr J L xs) (hi : 6 * i + 6 ≤ L) (next : ∀ h, gSim h → J 1461 [some (.ref 1000300), some (.ref 0), some (.ref 99), some (.int (nI (6 * i)))] [] h (130, 0, 0, false)) {h : GH} (hM : gSim h) : J 1046 [some (.ref 1000300), some (.ref 0), some (.ref 99), some (.int (nI (6 * i)))] [] h (130, 0, 0, false) := by
  obtain ⟨R, N, hQ, hS, hI⟩ := hM
  obtain ⟨k, sn, a1, a2, a3, a4, a5, -, -⟩ := hI.k
  have hsy : ∀ r, r < 6 → ∀ c ∈ R (5 + 2 * r), gsy c := fun r hr => (a5 r hr).sy a2.2
  have hne : ∀ r, r < 6 → 1 ≤ (R (5 + 2 * r)).length := fun r hr => (a5 r hr).1
  have hcn : ∀ r, r < 6 → gcn (R (5 + 2 * r)) := fun r hr => (a5 r hr).2.2.2.1
  refine j_p (nx := 1047) hJ dL_law_1046 rfl rfl ?_
  refine j_p (nx := 1048) hJ dL_law_1047 rfl rfl ?_
  refine j_p (nx := 1049) hJ dL_law_1048 rfl rfl ?_
  refine j_c (nx := 1050) hJ dL_law_1049 rfl gk_iconst_1 ?_
  refine j_p (nx := 1051) hJ dL_law_1050 rfl rfl ?_
  rw [show (1 : Int32) = nI 1 from rfl, gadd]
  refine hs 1051 1052 (6 * i + 1) _ _ _ _ _ dL_law_1051 rfl rfl (by omega) ?_
  refine j_cv (nx := 1055) hJ dL_law_1052 rfl (r_findOneVariable (fl := false) (d := 0) hQ a1 a2.2 a3 a4 _) mL_134 hQ.1.1 kX5_findOneVariable rfl (gle8 rfl) (fun o h1 hp => ?_)
  obtain ⟨rfl, hC⟩ := hp
  have hS1 := hS.mv hC.fr
  have h99 : ∃ M1 p1 t1, h1 99 = some (gO M1 p1 t1) := by obtain ⟨A9, E9, M9, p9, t9, hP9, -⟩ := id hS1; exact ⟨_, _, _, hP9.1.1⟩
  obtain ⟨M1, p1, t1, h99⟩ := h99
  refine j_p (nx := 1056) hJ dL_law_1055 rfl rfl ?_
  refine j_p (nx := 1057) hJ dL_law_1056 rfl rfl ?_
  refine j_p (nx := 1058) hJ dL_law_1057 rfl rfl ?_
  refine j_c (nx := 1059) hJ dL_law_1058 rfl gk_iconst_1 ?_
  refine j_p (nx := 1060) hJ dL_law_1059 rfl rfl ?_
  rw [show (1 : Int32) = nI 1 from rfl, gadd]
  refine hs 1060 1061 (6 * i + 1) _ _ _ _ _ dL_law_1060 rfl rfl (by omega) ?_
  refine j_cv (nx := 1064) hJ dL_law_1061 rfl (r6_findOneVariable (d := 0) hS1 hI _) mL_137 h99 kX6_findOneVariable rfl (gle8 rfl) (fun o h2 hp => ?_)
  obtain ⟨rfl, hS2⟩ := hp
  refine j_ic_eq (nx := 1067) (tgt := 1461) hJ dL_law_1064 rfl (by decide) (fun _ => next h2 ?_) (fun q => absurd rfl q)
  exact gSim.step hC hS2 (i_findOneVariable hI _)
set_option maxHeartbeats 4000000 in
theorem lo_30 (hJ : gCl RL cL_law (some .boolean) false (gRuns 60) J P) (hs : gScr J L xs) (hi : 6 * i + 6 ≤ L) (next : ∀ h, gSim h → J 1461 [some (.ref 1000300), some (.ref 0), some (.ref 99), some (.int (nI (6 * i)))] [] h (130, 0, 0, false)) {h : GH} (hM : gSim h) : J 1069 [some (.ref 1000300), some (.ref 0), some (.ref 99), some (.int (nI (6 * i)))] [] h (130, 0, 0, false) := by
  obtain ⟨R, N, hQ, hS, hI⟩ := hM
  obtain ⟨k, sn, a1, a2, a3, a4, a5, -, -⟩ := hI.k
  have hsy : ∀ r, r < 6 → ∀ c ∈ R (5 + 2 * r), gsy c := fun r hr => (a5 r hr).sy a2.2
  have hne : ∀ r, r < 6 → 1 ≤ (R (5 + 2 * r)).length := fun r hr => (a5 r hr).1
  have hcn : ∀ r, r < 6 → gcn (R (5 + 2 * r)) := fun r hr => (a5 r hr).2.2.2.1
  refine j_p (nx := 1070) hJ dL_law_1069 rfl rfl ?_
  refine j_p (nx := 1071) hJ dL_law_1070 rfl rfl ?_
  refine j_p (nx := 1072) hJ dL_law_1071 rfl rfl ?_
  refine j_c (nx := 1073) hJ dL_law_1072 rfl gk_iconst_1 ?_
  refine j_p (nx := 1074) hJ dL_law_1073 rfl rfl ?_
  rw [show (1 : Int32) = nI 1 from rfl, gadd]
  refine hs 1074 1075 (6 * i + 1) _ _ _ _ _ dL_law_1074 rfl rfl (by omega) ?_
  refine j_p (nx := 1076) hJ dL_law_1075 rfl rfl ?_
  refine j_p (nx := 1077) hJ dL_law_1076 rfl rfl ?_
  refine j_c (nx := 1078) hJ dL_law_1077 rfl gk_iconst_2 ?_
  refine j_p (nx := 1079) hJ dL_law_1078 rfl rfl ?_
  rw [show (2 : Int32) = nI 2 from rfl, gadd]
  refine hs 1079 1080 (6 * i + 2) _ _ _ _ _ dL_law_1079 rfl rfl (by omega) ?_
  refine j_p (nx := 1081) hJ dL_law_1080 rfl rfl ?_
  refine j_p (nx := 1082) hJ dL_law_1081 rfl rfl ?_
  refine j_c (nx := 1083) hJ dL_law_1082 rfl gk_iconst_3 ?_
  refine j_p (nx := 1084) hJ dL_law_1083 rfl rfl ?_
  rw [show (3 : Int32) = nI 3 from rfl, gadd]
  refine hs 1084 1085 (6 * i + 3) _ _ _ _ _ dL_law_1084 rfl rfl (by omega) ?_
  refine j_cv (nx := 1088) hJ dL_law_1085 rfl (r_countWords (fl := false) (d := 0) hQ hsy a1 a2.2 _ _ _) mL_138 hQ.1.1 kX5_countWords rfl (gle8 rfl) (fun o h1 hp => ?_)
  obtain ⟨rfl, hC⟩ := hp
  have hS1 := hS.mv hC.fr
  have h99 : ∃ M1 p1 t1, h1 99 = some (gO M1 p1 t1) := by obtain ⟨A9, E9, M9, p9, t9, hP9, -⟩ := id hS1; exact ⟨_, _, _, hP9.1.1⟩
  obtain ⟨M1, p1, t1, h99⟩ := h99
  refine j_p (nx := 1089) hJ dL_law_1088 rfl rfl ?_
  refine j_p (nx := 1090) hJ dL_law_1089 rfl rfl ?_
  refine j_p (nx := 1091) hJ dL_law_1090 rfl rfl ?_
  refine j_c (nx := 1092) hJ dL_law_1091 rfl gk_iconst_1 ?_
  refine j_p (nx := 1093) hJ dL_law_1092 rfl rfl ?_
  rw [show (1 : Int32) = nI 1 from rfl, gadd]
  refine hs 1093 1094 (6 * i + 1) _ _ _ _ _ dL_law_1093 rfl rfl (by omega) ?_
  refine j_p (nx := 1095) hJ dL_law_1094 rfl rfl ?_
  refine j_p (nx := 1096) hJ dL_law_1095 rfl rfl ?_
  refine j_c (nx := 1097) hJ dL_law_1096 rfl gk_iconst_2 ?_
  refine j_p (nx := 1098) hJ dL_law_1097 rfl rfl ?_
  rw [show (2 : Int32) = nI 2 from rfl, gadd]
  refine hs 1098 1099 (6 * i + 2) _ _ _ _ _ dL_law_1098 rfl rfl (by omega) ?_
  refine j_p (nx := 1100) hJ dL_law_1099 rfl rfl ?_
  refine j_p (nx := 1101) hJ dL_law_1100 rfl rfl ?_
  refine j_c (nx := 1102) hJ dL_law_1101 rfl gk_iconst_3 ?_
  refine j_p (nx := 1103) hJ dL_law_1102 rfl rfl ?_
  rw [show (3 : Int32) = nI 3 from rfl, gadd]
  refine hs 1103 1104 (6 * i + 3) _ _ _ _ _ dL_law_1103 rfl rfl (by omega) ?_
  refine j_cv (nx := 1107) hJ dL_law_1104 rfl (r6_countWords (d := 0) hS1 hI _ _ _) mL_141 h99 kX6_countWords rfl (gle8 rfl) (fun o h2 hp => ?_)
  obtain ⟨rfl, hS2⟩ := hp
  refine j_ic_eq (nx := 1110) (tgt := 1461) hJ dL_law_1107 rfl (by decide) (fun _ => next h2 ?_) (fun q => absurd rfl q)
  exact gSim.step hC hS2 hI
set_option maxHeartbeats 4000000 in
theorem lo_31 (hJ : gCl RL cL_law (some .boolean) false (gRuns 60) J P) (hs : gScr J L xs) (hi : 6 * i + 6 ≤ L) (next : ∀ h, gSim h → J 1461 [some (.ref 1000300), some (.ref 0), some (.ref 99), some (.int (nI (6 * i)))] [] h (130, 0, 0, false)) {h : GH} (hM : gSim h) : J 1112 [some (.ref 1000300), some (.ref 0), some (.ref 99), some (.int (nI (6 * i)))] [] h (130, 0, 0, false) := by
  obtain ⟨R, N, hQ, hS, hI⟩ := hM
  obtain ⟨k, sn, a1, a2, a3, a4, a5, -, -⟩ := hI.k
  have hsy : ∀ r, r < 6 → ∀ c ∈ R (5 + 2 * r), gsy c := fun r hr => (a5 r hr).sy a2.2
  have hne : ∀ r, r < 6 → 1 ≤ (R (5 + 2 * r)).length := fun r hr => (a5 r hr).1
  have hcn : ∀ r, r < 6 → gcn (R (5 + 2 * r)) := fun r hr => (a5 r hr).2.2.2.1
  refine j_p (nx := 1113) hJ dL_law_1112 rfl rfl ?_
  refine j_p (nx := 1114) hJ dL_law_1113 rfl rfl ?_
  refine j_p (nx := 1115) hJ dL_law_1114 rfl rfl ?_
  refine j_c (nx := 1116) hJ dL_law_1115 rfl gk_iconst_1 ?_
  refine j_p (nx := 1117) hJ dL_law_1116 rfl rfl ?_
  rw [show (1 : Int32) = nI 1 from rfl, gadd]
  refine hs 1117 1118 (6 * i + 1) _ _ _ _ _ dL_law_1117 rfl rfl (by omega) ?_
  refine j_p (nx := 1119) hJ dL_law_1118 rfl rfl ?_
  refine j_p (nx := 1120) hJ dL_law_1119 rfl rfl ?_
  refine j_c (nx := 1121) hJ dL_law_1120 rfl gk_iconst_2 ?_
  refine j_p (nx := 1122) hJ dL_law_1121 rfl rfl ?_
  rw [show (2 : Int32) = nI 2 from rfl, gadd]
  refine hs 1122 1123 (6 * i + 2) _ _ _ _ _ dL_law_1122 rfl rfl (by omega) ?_
  refine j_p (nx := 1124) hJ dL_law_1123 rfl rfl ?_
  refine j_p (nx := 1125) hJ dL_law_1124 rfl rfl ?_
  refine j_c (nx := 1126) hJ dL_law_1125 rfl gk_iconst_3 ?_
  refine j_p (nx := 1127) hJ dL_law_1126 rfl rfl ?_
  rw [show (3 : Int32) = nI 3 from rfl, gadd]
  refine hs 1127 1128 (6 * i + 3) _ _ _ _ _ dL_law_1127 rfl rfl (by omega) ?_
  refine j_p (nx := 1129) hJ dL_law_1128 rfl rfl ?_
  refine j_p (nx := 1130) hJ dL_law_1129 rfl rfl ?_
  refine j_c (nx := 1131) hJ dL_law_1130 rfl gk_iconst_4 ?_
  refine j_p (nx := 1132) hJ dL_law_1131 rfl rfl ?_
  rw [show (4 : Int32) = nI 4 from rfl, gadd]
  refine hs 1132 1133 (6 * i + 4) _ _ _ _ _ dL_law_1132 rfl rfl (by omega) ?_
  refine j_cv (nx := 1136) hJ dL_law_1133 rfl (r_difference (fl := false) (d := 0) hQ hsy a1 a2.2 _ _ _ _) mL_142 hQ.1.1 kX5_difference rfl (gle8 rfl) (fun o h1 hp => ?_)
  obtain ⟨rfl, hC⟩ := hp
  have hS1 := hS.mv hC.fr
  have h99 : ∃ M1 p1 t1, h1 99 = some (gO M1 p1 t1) := by obtain ⟨A9, E9, M9, p9, t9, hP9, -⟩ := id hS1; exact ⟨_, _, _, hP9.1.1⟩
  obtain ⟨M1, p1, t1, h99⟩ := h99
  refine j_p (nx := 1137) hJ dL_law_1136 rfl rfl ?_
  refine j_p (nx := 1138) hJ dL_law_1137 rfl rfl ?_
  refine j_p (nx := 1139) hJ dL_law_1138 rfl rfl ?_
  refine j_c (nx := 1140) hJ dL_law_1139 rfl gk_iconst_1 ?_
  refine j_p (nx := 1141) hJ dL_law_1140 rfl rfl ?_
  rw [show (1 : Int32) = nI 1 from rfl, gadd]
  refine hs 1141 1142 (6 * i + 1) _ _ _ _ _ dL_law_1141 rfl rfl (by omega) ?_
  refine j_p (nx := 1143) hJ dL_law_1142 rfl rfl ?_
  refine j_p (nx := 1144) hJ dL_law_1143 rfl rfl ?_
  refine j_c (nx := 1145) hJ dL_law_1144 rfl gk_iconst_2 ?_
  refine j_p (nx := 1146) hJ dL_law_1145 rfl rfl ?_
  rw [show (2 : Int32) = nI 2 from rfl, gadd]
  refine hs 1146 1147 (6 * i + 2) _ _ _ _ _ dL_law_1146 rfl rfl (by omega) ?_
  refine j_p (nx := 1148) hJ dL_law_1147 rfl rfl ?_
  refine j_p (nx := 1149) hJ dL_law_1148 rfl rfl ?_
  refine j_c (nx := 1150) hJ dL_law_1149 rfl gk_iconst_3 ?_
  refine j_p (nx := 1151) hJ dL_law_1150 rfl rfl ?_
  rw [show (3 : Int32) = nI 3 from rfl, gadd]
  refine hs 1151 1152 (6 * i + 3) _ _ _ _ _ dL_law_1151 rfl rfl (by omega) ?_
  refine j_p (nx := 1153) hJ dL_law_1152 rfl rfl ?_
  refine j_p (nx := 1154) hJ dL_law_1153 rfl rfl ?_
  refine j_c (nx := 1155) hJ dL_law_1154 rfl gk_iconst_4 ?_
  refine j_p (nx := 1156) hJ dL_law_1155 rfl rfl ?_
  rw [show (4 : Int32) = nI 4 from rfl, gadd]
  refine hs 1156 1157 (6 * i + 4) _ _ _ _ _ dL_law_1156 rfl rfl (by omega) ?_
  refine j_cv (nx := 1160) hJ dL_law_1157 rfl (r6_difference (d := 0) hS1 hI _ _ _ _) mL_146 h99 kX6_difference rfl (gle8 rfl) (fun o h2 hp => ?_)
  obtain ⟨rfl, hS2⟩ := hp
  refine j_p (nx := 1161) hJ dL_law_1160 rfl rfl ?_
  rw [glcmp]
  refine j_if_eq (nx := 1164) (tgt := 1461) hJ dL_law_1161 rfl (by decide) (fun _ => next h2 ?_) (fun q => absurd rfl q)
  exact gSim.step hC hS2 hI
set_option maxHeartbeats 4000000 in
theorem lo_32 (hJ : gCl RL cL_law (some .boolean) false (gRuns 60) J P) (hs : gScr J L xs) (hi : 6 * i + 6 ≤ L) (next : ∀ h, gSim h → J 1461 [some (.ref 1000300), some (.ref 0), some (.ref 99), some (.int (nI (6 * i)))] [] h (130, 0, 0, false)) {h : GH} (hM : gSim h) : J 1166 [some (.ref 1000300), some (.ref 0), some (.ref 99), some (.int (nI (6 * i)))] [] h (130, 0, 0, false) := by
  obtain ⟨R, N, hQ, hS, hI⟩ := hM
  obtain ⟨k, sn, a1, a2, a3, a4, a5, -, -⟩ := hI.k
  have hsy : ∀ r, r < 6 → ∀ c ∈ R (5 + 2 * r), gsy c := fun r hr => (a5 r hr).sy a2.2
  have hne : ∀ r, r < 6 → 1 ≤ (R (5 + 2 * r)).length := fun r hr => (a5 r hr).1
  have hcn : ∀ r, r < 6 → gcn (R (5 + 2 * r)) := fun r hr => (a5 r hr).2.2.2.1
  refine j_p (nx := 1167) hJ dL_law_1166 rfl rfl ?_
  refine j_p (nx := 1168) hJ dL_law_1167 rfl rfl ?_
  refine j_p (nx := 1169) hJ dL_law_1168 rfl rfl ?_
  refine j_c (nx := 1170) hJ dL_law_1169 rfl gk_iconst_1 ?_
  refine j_p (nx := 1171) hJ dL_law_1170 rfl rfl ?_
  rw [show (1 : Int32) = nI 1 from rfl, gadd]
  refine hs 1171 1172 (6 * i + 1) _ _ _ _ _ dL_law_1171 rfl rfl (by omega) ?_
  refine j_p (nx := 1173) hJ dL_law_1172 rfl rfl ?_
  refine j_p (nx := 1174) hJ dL_law_1173 rfl rfl ?_
  refine j_c (nx := 1175) hJ dL_law_1174 rfl gk_iconst_2 ?_
  refine j_p (nx := 1176) hJ dL_law_1175 rfl rfl ?_
  rw [show (2 : Int32) = nI 2 from rfl, gadd]
  refine hs 1176 1177 (6 * i + 2) _ _ _ _ _ dL_law_1176 rfl rfl (by omega) ?_
  refine j_p (nx := 1178) hJ dL_law_1177 rfl rfl ?_
  refine j_p (nx := 1179) hJ dL_law_1178 rfl rfl ?_
  refine j_c (nx := 1180) hJ dL_law_1179 rfl gk_iconst_3 ?_
  refine j_p (nx := 1181) hJ dL_law_1180 rfl rfl ?_
  rw [show (3 : Int32) = nI 3 from rfl, gadd]
  refine hs 1181 1182 (6 * i + 3) _ _ _ _ _ dL_law_1181 rfl rfl (by omega) ?_
  refine j_cv (nx := 1185) hJ dL_law_1182 rfl (r_allocate (fl := false) (d := 0) hQ  _ _ _) mL_147 hQ.1.1 kX5_allocate rfl (gle8 rfl) (fun o h1 hp => ?_)
  obtain ⟨rfl, hC⟩ := hp
  have hS1 := hS.mv hC.fr
  have h99 : ∃ M1 p1 t1, h1 99 = some (gO M1 p1 t1) := by obtain ⟨A9, E9, M9, p9, t9, hP9, -⟩ := id hS1; exact ⟨_, _, _, hP9.1.1⟩
  obtain ⟨M1, p1, t1, h99⟩ := h99
  refine j_p (nx := 1186) hJ dL_law_1185 rfl rfl ?_
  refine j_p (nx := 1187) hJ dL_law_1186 rfl rfl ?_
  refine j_p (nx := 1188) hJ dL_law_1187 rfl rfl ?_
  refine j_c (nx := 1189) hJ dL_law_1188 rfl gk_iconst_1 ?_
  refine j_p (nx := 1190) hJ dL_law_1189 rfl rfl ?_
  rw [show (1 : Int32) = nI 1 from rfl, gadd]
  refine hs 1190 1191 (6 * i + 1) _ _ _ _ _ dL_law_1190 rfl rfl (by omega) ?_
  refine j_p (nx := 1192) hJ dL_law_1191 rfl rfl ?_
  refine j_p (nx := 1193) hJ dL_law_1192 rfl rfl ?_
  refine j_c (nx := 1194) hJ dL_law_1193 rfl gk_iconst_2 ?_
  refine j_p (nx := 1195) hJ dL_law_1194 rfl rfl ?_
  rw [show (2 : Int32) = nI 2 from rfl, gadd]
  refine hs 1195 1196 (6 * i + 2) _ _ _ _ _ dL_law_1195 rfl rfl (by omega) ?_
  refine j_p (nx := 1197) hJ dL_law_1196 rfl rfl ?_
  refine j_p (nx := 1198) hJ dL_law_1197 rfl rfl ?_
  refine j_c (nx := 1199) hJ dL_law_1198 rfl gk_iconst_3 ?_
  refine j_p (nx := 1200) hJ dL_law_1199 rfl rfl ?_
  rw [show (3 : Int32) = nI 3 from rfl, gadd]
  refine hs 1200 1201 (6 * i + 3) _ _ _ _ _ dL_law_1200 rfl rfl (by omega) ?_
  refine j_cv (nx := 1204) hJ dL_law_1201 rfl (r6_allocate (d := 0) hS1 hI _ _ _) mL_150 h99 kX6_allocate rfl (gle8 rfl) (fun o h2 hp => ?_)
  obtain ⟨rfl, hS2⟩ := hp
  refine j_ic_eq (nx := 1207) (tgt := 1461) hJ dL_law_1204 rfl (by decide) (fun _ => next h2 ?_) (fun q => absurd rfl q)
  exact gSim.step hC hS2 (i_allocate hI _ _ _)
set_option maxHeartbeats 4000000 in
theorem lo_33 (hJ : gCl RL cL_law (some .boolean) false (gRuns 60) J P) (hs : gScr J L xs) (hi : 6 * i + 6 ≤ L) (next : ∀ h, gSim h → J 1461 [some (.ref 1000300), some (.ref 0), some (.ref 99), some (.int (nI (6 * i)))] [] h (130, 0, 0, false)) {h : GH} (hM : gSim h) : J 1209 [some (.ref 1000300), some (.ref 0), some (.ref 99), some (.int (nI (6 * i)))] [] h (130, 0, 0, false) := by
  obtain ⟨R, N, hQ, hS, hI⟩ := hM
  obtain ⟨k, sn, a1, a2, a3, a4, a5, -, -⟩ := hI.k
  have hsy : ∀ r, r < 6 → ∀ c ∈ R (5 + 2 * r), gsy c := fun r hr => (a5 r hr).sy a2.2
  have hne : ∀ r, r < 6 → 1 ≤ (R (5 + 2 * r)).length := fun r hr => (a5 r hr).1
  have hcn : ∀ r, r < 6 → gcn (R (5 + 2 * r)) := fun r hr => (a5 r hr).2.2.2.1
  refine j_p (nx := 1210) hJ dL_law_1209 rfl rfl ?_
  refine j_p (nx := 1211) hJ dL_law_1210 rfl rfl ?_
  refine j_p (nx := 1212) hJ dL_law_1211 rfl rfl ?_
  refine j_c (nx := 1213) hJ dL_law_1212 rfl gk_iconst_1 ?_
  refine j_p (nx := 1214) hJ dL_law_1213 rfl rfl ?_
  rw [show (1 : Int32) = nI 1 from rfl, gadd]
  refine hs 1214 1215 (6 * i + 1) _ _ _ _ _ dL_law_1214 rfl rfl (by omega) ?_
  refine j_cv (nx := 1218) hJ dL_law_1215 rfl (r_release (fl := false) (d := 0) hQ  _) mL_151 hQ.1.1 kX5_release rfl (gle8 rfl) (fun o h1 hp => ?_)
  obtain ⟨rfl, hC⟩ := hp
  have hS1 := hS.mv hC.fr
  have h99 : ∃ M1 p1 t1, h1 99 = some (gO M1 p1 t1) := by obtain ⟨A9, E9, M9, p9, t9, hP9, -⟩ := id hS1; exact ⟨_, _, _, hP9.1.1⟩
  obtain ⟨M1, p1, t1, h99⟩ := h99
  refine j_p (nx := 1219) hJ dL_law_1218 rfl rfl ?_
  refine j_p (nx := 1220) hJ dL_law_1219 rfl rfl ?_
  refine j_p (nx := 1221) hJ dL_law_1220 rfl rfl ?_
  refine j_c (nx := 1222) hJ dL_law_1221 rfl gk_iconst_1 ?_
  refine j_p (nx := 1223) hJ dL_law_1222 rfl rfl ?_
  rw [show (1 : Int32) = nI 1 from rfl, gadd]
  refine hs 1223 1224 (6 * i + 1) _ _ _ _ _ dL_law_1223 rfl rfl (by omega) ?_
  refine j_cv (nx := 1227) hJ dL_law_1224 rfl (r6_release (d := 0) hS1 hI _) mL_154 h99 kX6_release rfl (gle8 rfl) (fun o h2 hp => ?_)
  obtain ⟨rfl, hS2⟩ := hp
  refine j_ic_eq (nx := 1230) (tgt := 1461) hJ dL_law_1227 rfl (by decide) (fun _ => next h2 ?_) (fun q => absurd rfl q)
  exact gSim.step hC hS2 (i_release hI _)
set_option maxHeartbeats 4000000 in
theorem lo_34 (hJ : gCl RL cL_law (some .boolean) false (gRuns 60) J P) (hs : gScr J L xs) (hi : 6 * i + 6 ≤ L) (next : ∀ h, gSim h → J 1461 [some (.ref 1000300), some (.ref 0), some (.ref 99), some (.int (nI (6 * i)))] [] h (130, 0, 0, false)) {h : GH} (hM : gSim h) : J 1232 [some (.ref 1000300), some (.ref 0), some (.ref 99), some (.int (nI (6 * i)))] [] h (130, 0, 0, false) := by
  obtain ⟨R, N, hQ, hS, hI⟩ := hM
  obtain ⟨k, sn, a1, a2, a3, a4, a5, -, -⟩ := hI.k
  have hsy : ∀ r, r < 6 → ∀ c ∈ R (5 + 2 * r), gsy c := fun r hr => (a5 r hr).sy a2.2
  have hne : ∀ r, r < 6 → 1 ≤ (R (5 + 2 * r)).length := fun r hr => (a5 r hr).1
  have hcn : ∀ r, r < 6 → gcn (R (5 + 2 * r)) := fun r hr => (a5 r hr).2.2.2.1
  refine j_p (nx := 1233) hJ dL_law_1232 rfl rfl ?_
  refine j_p (nx := 1234) hJ dL_law_1233 rfl rfl ?_
  refine j_p (nx := 1235) hJ dL_law_1234 rfl rfl ?_
  refine j_c (nx := 1236) hJ dL_law_1235 rfl gk_iconst_1 ?_
  refine j_p (nx := 1237) hJ dL_law_1236 rfl rfl ?_
  rw [show (1 : Int32) = nI 1 from rfl, gadd]
  refine hs 1237 1238 (6 * i + 1) _ _ _ _ _ dL_law_1237 rfl rfl (by omega) ?_
  refine j_p (nx := 1239) hJ dL_law_1238 rfl rfl ?_
  refine j_p (nx := 1240) hJ dL_law_1239 rfl rfl ?_
  refine j_c (nx := 1241) hJ dL_law_1240 rfl gk_iconst_2 ?_
  refine j_p (nx := 1242) hJ dL_law_1241 rfl rfl ?_
  rw [show (2 : Int32) = nI 2 from rfl, gadd]
  refine hs 1242 1243 (6 * i + 2) _ _ _ _ _ dL_law_1242 rfl rfl (by omega) ?_
  refine j_p (nx := 1244) hJ dL_law_1243 rfl rfl ?_
  refine j_p (nx := 1245) hJ dL_law_1244 rfl rfl ?_
  refine j_c (nx := 1246) hJ dL_law_1245 rfl gk_iconst_3 ?_
  refine j_p (nx := 1247) hJ dL_law_1246 rfl rfl ?_
  rw [show (3 : Int32) = nI 3 from rfl, gadd]
  refine hs 1247 1248 (6 * i + 3) _ _ _ _ _ dL_law_1247 rfl rfl (by omega) ?_
  refine j_p (nx := 1249) hJ dL_law_1248 rfl rfl ?_
  refine j_c (nx := 1251) hJ dL_law_1249 rfl gk_bipush_32 ?_
  refine j_p (nx := 1252) hJ dL_law_1251 rfl rfl ?_
  refine j_p (nx := 1253) hJ dL_law_1252 rfl rfl ?_
  refine j_p (nx := 1254) hJ dL_law_1253 rfl rfl ?_
  refine j_c (nx := 1255) hJ dL_law_1254 rfl gk_iconst_4 ?_
  refine j_p (nx := 1256) hJ dL_law_1255 rfl rfl ?_
  rw [show (4 : Int32) = nI 4 from rfl, gadd]
  refine hs 1256 1257 (6 * i + 4) _ _ _ _ _ dL_law_1256 rfl rfl (by omega) ?_
  refine j_p (nx := 1258) hJ dL_law_1257 rfl rfl ?_
  refine j_ldc2 (nx := 1261) hJ dL_law_1258 rfl qL_155 ?_
  refine j_p (nx := 1262) hJ dL_law_1261 rfl rfl ?_
  refine j_p (nx := 1263) hJ dL_law_1262 rfl rfl ?_
  refine j_cv (nx := 1266) hJ dL_law_1263 rfl (r_putElement (fl := false) (d := 0) hQ  _ _ _) mL_157 hQ.1.1 kX5_putElement rfl (gle8 rfl) (fun o h1 hp => ?_)
  obtain ⟨rfl, hC⟩ := hp
  have hS1 := hS.mv hC.fr
  have h99 : ∃ M1 p1 t1, h1 99 = some (gO M1 p1 t1) := by obtain ⟨A9, E9, M9, p9, t9, hP9, -⟩ := id hS1; exact ⟨_, _, _, hP9.1.1⟩
  obtain ⟨M1, p1, t1, h99⟩ := h99
  refine j_p (nx := 1267) hJ dL_law_1266 rfl rfl ?_
  refine j_p (nx := 1268) hJ dL_law_1267 rfl rfl ?_
  refine j_p (nx := 1269) hJ dL_law_1268 rfl rfl ?_
  refine j_c (nx := 1270) hJ dL_law_1269 rfl gk_iconst_1 ?_
  refine j_p (nx := 1271) hJ dL_law_1270 rfl rfl ?_
  rw [show (1 : Int32) = nI 1 from rfl, gadd]
  refine hs 1271 1272 (6 * i + 1) _ _ _ _ _ dL_law_1271 rfl rfl (by omega) ?_
  refine j_p (nx := 1273) hJ dL_law_1272 rfl rfl ?_
  refine j_p (nx := 1274) hJ dL_law_1273 rfl rfl ?_
  refine j_c (nx := 1275) hJ dL_law_1274 rfl gk_iconst_2 ?_
  refine j_p (nx := 1276) hJ dL_law_1275 rfl rfl ?_
  rw [show (2 : Int32) = nI 2 from rfl, gadd]
  refine hs 1276 1277 (6 * i + 2) _ _ _ _ _ dL_law_1276 rfl rfl (by omega) ?_
  refine j_p (nx := 1278) hJ dL_law_1277 rfl rfl ?_
  refine j_p (nx := 1279) hJ dL_law_1278 rfl rfl ?_
  refine j_c (nx := 1280) hJ dL_law_1279 rfl gk_iconst_3 ?_
  refine j_p (nx := 1281) hJ dL_law_1280 rfl rfl ?_
  rw [show (3 : Int32) = nI 3 from rfl, gadd]
  refine hs 1281 1282 (6 * i + 3) _ _ _ _ _ dL_law_1281 rfl rfl (by omega) ?_
  refine j_p (nx := 1283) hJ dL_law_1282 rfl rfl ?_
  refine j_c (nx := 1285) hJ dL_law_1283 rfl gk_bipush_32 ?_
  refine j_p (nx := 1286) hJ dL_law_1285 rfl rfl ?_
  refine j_p (nx := 1287) hJ dL_law_1286 rfl rfl ?_
  refine j_p (nx := 1288) hJ dL_law_1287 rfl rfl ?_
  refine j_c (nx := 1289) hJ dL_law_1288 rfl gk_iconst_4 ?_
  refine j_p (nx := 1290) hJ dL_law_1289 rfl rfl ?_
  rw [show (4 : Int32) = nI 4 from rfl, gadd]
  refine hs 1290 1291 (6 * i + 4) _ _ _ _ _ dL_law_1290 rfl rfl (by omega) ?_
  refine j_p (nx := 1292) hJ dL_law_1291 rfl rfl ?_
  refine j_ldc2 (nx := 1295) hJ dL_law_1292 rfl qL_155 ?_
  refine j_p (nx := 1296) hJ dL_law_1295 rfl rfl ?_
  refine j_p (nx := 1297) hJ dL_law_1296 rfl rfl ?_
  refine j_cv (nx := 1300) hJ dL_law_1297 rfl (r6_putElement (d := 0) hS1 hI _ _ _) mL_161 h99 kX6_putElement rfl (gle8 rfl) (fun o h2 hp => ?_)
  obtain ⟨rfl, hS2⟩ := hp
  refine j_ic_eq (nx := 1303) (tgt := 1461) hJ dL_law_1300 rfl (by decide) (fun _ => next h2 ?_) (fun q => absurd rfl q)
  exact gSim.step hC hS2 (i_putElement hI _ _ _)
set_option maxHeartbeats 4000000 in
theorem lo_35 (hJ : gCl RL cL_law (some .boolean) false (gRuns 60) J P) (hs : gScr J L xs) (hi : 6 * i + 6 ≤ L) (next : ∀ h, gSim h → J 1461 [some (.ref 1000300), some (.ref 0), some (.ref 99), some (.int (nI (6 * i)))] [] h (130, 0, 0, false)) {h : GH} (hM : gSim h) : J 1305 [some (.ref 1000300), some (.ref 0), some (.ref 99), some (.int (nI (6 * i)))] [] h (130, 0, 0, false) := by
  obtain ⟨R, N, hQ, hS, hI⟩ := hM
  obtain ⟨k, sn, a1, a2, a3, a4, a5, -, -⟩ := hI.k
  have hsy : ∀ r, r < 6 → ∀ c ∈ R (5 + 2 * r), gsy c := fun r hr => (a5 r hr).sy a2.2
  have hne : ∀ r, r < 6 → 1 ≤ (R (5 + 2 * r)).length := fun r hr => (a5 r hr).1
  have hcn : ∀ r, r < 6 → gcn (R (5 + 2 * r)) := fun r hr => (a5 r hr).2.2.2.1
  refine j_p (nx := 1306) hJ dL_law_1305 rfl rfl ?_
  refine j_p (nx := 1307) hJ dL_law_1306 rfl rfl ?_
  refine j_p (nx := 1308) hJ dL_law_1307 rfl rfl ?_
  refine j_c (nx := 1309) hJ dL_law_1308 rfl gk_iconst_1 ?_
  refine j_p (nx := 1310) hJ dL_law_1309 rfl rfl ?_
  rw [show (1 : Int32) = nI 1 from rfl, gadd]
  refine hs 1310 1311 (6 * i + 1) _ _ _ _ _ dL_law_1310 rfl rfl (by omega) ?_
  refine j_p (nx := 1312) hJ dL_law_1311 rfl rfl ?_
  refine j_p (nx := 1313) hJ dL_law_1312 rfl rfl ?_
  refine j_c (nx := 1314) hJ dL_law_1313 rfl gk_iconst_2 ?_
  refine j_p (nx := 1315) hJ dL_law_1314 rfl rfl ?_
  rw [show (2 : Int32) = nI 2 from rfl, gadd]
  refine hs 1315 1316 (6 * i + 2) _ _ _ _ _ dL_law_1315 rfl rfl (by omega) ?_
  refine j_cv (nx := 1319) hJ dL_law_1316 rfl (r_element (fl := false) (d := 0) hQ  _ _) mL_162 hQ.1.1 kX5_element rfl (gle8 rfl) (fun o h1 hp => ?_)
  obtain ⟨rfl, hC⟩ := hp
  have hS1 := hS.mv hC.fr
  have h99 : ∃ M1 p1 t1, h1 99 = some (gO M1 p1 t1) := by obtain ⟨A9, E9, M9, p9, t9, hP9, -⟩ := id hS1; exact ⟨_, _, _, hP9.1.1⟩
  obtain ⟨M1, p1, t1, h99⟩ := h99
  refine j_p (nx := 1320) hJ dL_law_1319 rfl rfl ?_
  refine j_p (nx := 1321) hJ dL_law_1320 rfl rfl ?_
  refine j_p (nx := 1322) hJ dL_law_1321 rfl rfl ?_
  refine j_c (nx := 1323) hJ dL_law_1322 rfl gk_iconst_1 ?_
  refine j_p (nx := 1324) hJ dL_law_1323 rfl rfl ?_
  rw [show (1 : Int32) = nI 1 from rfl, gadd]
  refine hs 1324 1325 (6 * i + 1) _ _ _ _ _ dL_law_1324 rfl rfl (by omega) ?_
  refine j_p (nx := 1326) hJ dL_law_1325 rfl rfl ?_
  refine j_p (nx := 1327) hJ dL_law_1326 rfl rfl ?_
  refine j_c (nx := 1328) hJ dL_law_1327 rfl gk_iconst_2 ?_
  refine j_p (nx := 1329) hJ dL_law_1328 rfl rfl ?_
  rw [show (2 : Int32) = nI 2 from rfl, gadd]
  refine hs 1329 1330 (6 * i + 2) _ _ _ _ _ dL_law_1329 rfl rfl (by omega) ?_
  refine j_cv (nx := 1333) hJ dL_law_1330 rfl (r6_element (d := 0) hS1 hI _ _) mL_166 h99 kX6_element rfl (gle8 rfl) (fun o h2 hp => ?_)
  obtain ⟨rfl, hS2⟩ := hp
  refine j_p (nx := 1334) hJ dL_law_1333 rfl rfl ?_
  rw [glcmp]
  refine j_if_eq (nx := 1337) (tgt := 1461) hJ dL_law_1334 rfl (by decide) (fun _ => next h2 ?_) (fun q => absurd rfl q)
  exact gSim.step hC hS2 hI
set_option maxHeartbeats 4000000 in
theorem lo_36 (hJ : gCl RL cL_law (some .boolean) false (gRuns 60) J P) (hs : gScr J L xs) (hi : 6 * i + 6 ≤ L) (next : ∀ h, gSim h → J 1461 [some (.ref 1000300), some (.ref 0), some (.ref 99), some (.int (nI (6 * i)))] [] h (130, 0, 0, false)) {h : GH} (hM : gSim h) : J 1339 [some (.ref 1000300), some (.ref 0), some (.ref 99), some (.int (nI (6 * i)))] [] h (130, 0, 0, false) := by
  obtain ⟨R, N, hQ, hS, hI⟩ := hM
  obtain ⟨k, sn, a1, a2, a3, a4, a5, -, -⟩ := hI.k
  have hsy : ∀ r, r < 6 → ∀ c ∈ R (5 + 2 * r), gsy c := fun r hr => (a5 r hr).sy a2.2
  have hne : ∀ r, r < 6 → 1 ≤ (R (5 + 2 * r)).length := fun r hr => (a5 r hr).1
  have hcn : ∀ r, r < 6 → gcn (R (5 + 2 * r)) := fun r hr => (a5 r hr).2.2.2.1
  refine j_p (nx := 1340) hJ dL_law_1339 rfl rfl ?_
  refine j_p (nx := 1341) hJ dL_law_1340 rfl rfl ?_
  refine j_p (nx := 1342) hJ dL_law_1341 rfl rfl ?_
  refine j_c (nx := 1343) hJ dL_law_1342 rfl gk_iconst_1 ?_
  refine j_p (nx := 1344) hJ dL_law_1343 rfl rfl ?_
  rw [show (1 : Int32) = nI 1 from rfl, gadd]
  refine hs 1344 1345 (6 * i + 1) _ _ _ _ _ dL_law_1344 rfl rfl (by omega) ?_
  refine j_p (nx := 1346) hJ dL_law_1345 rfl rfl ?_
  refine j_p (nx := 1347) hJ dL_law_1346 rfl rfl ?_
  refine j_c (nx := 1348) hJ dL_law_1347 rfl gk_iconst_2 ?_
  refine j_p (nx := 1349) hJ dL_law_1348 rfl rfl ?_
  rw [show (2 : Int32) = nI 2 from rfl, gadd]
  refine hs 1349 1350 (6 * i + 2) _ _ _ _ _ dL_law_1349 rfl rfl (by omega) ?_
  refine j_p (nx := 1351) hJ dL_law_1350 rfl rfl ?_
  refine j_p (nx := 1352) hJ dL_law_1351 rfl rfl ?_
  refine j_c (nx := 1353) hJ dL_law_1352 rfl gk_iconst_3 ?_
  refine j_p (nx := 1354) hJ dL_law_1353 rfl rfl ?_
  rw [show (3 : Int32) = nI 3 from rfl, gadd]
  refine hs 1354 1355 (6 * i + 3) _ _ _ _ _ dL_law_1354 rfl rfl (by omega) ?_
  refine j_p (nx := 1356) hJ dL_law_1355 rfl rfl ?_
  refine j_p (nx := 1357) hJ dL_law_1356 rfl rfl ?_
  refine j_c (nx := 1358) hJ dL_law_1357 rfl gk_iconst_4 ?_
  refine j_p (nx := 1359) hJ dL_law_1358 rfl rfl ?_
  rw [show (4 : Int32) = nI 4 from rfl, gadd]
  refine hs 1359 1360 (6 * i + 4) _ _ _ _ _ dL_law_1359 rfl rfl (by omega) ?_
  refine j_p (nx := 1361) hJ dL_law_1360 rfl rfl ?_
  refine j_p (nx := 1362) hJ dL_law_1361 rfl rfl ?_
  refine j_c (nx := 1363) hJ dL_law_1362 rfl gk_iconst_5 ?_
  refine j_p (nx := 1364) hJ dL_law_1363 rfl rfl ?_
  rw [show (5 : Int32) = nI 5 from rfl, gadd]
  refine hs 1364 1365 (6 * i + 5) _ _ _ _ _ dL_law_1364 rfl rfl (by omega) ?_
  refine j_cv (nx := 1368) hJ dL_law_1365 rfl (r_copyElements (d := 0) hQ  _ _ _ _ _) mL_167 hQ.1.1 kX5_copyElements rfl (gle8 rfl) (fun o h1 hp => ?_)
  obtain ⟨rfl, hC⟩ := hp
  have hS1 := hS.mv hC.fr
  have h99 : ∃ M1 p1 t1, h1 99 = some (gO M1 p1 t1) := by obtain ⟨A9, E9, M9, p9, t9, hP9, -⟩ := id hS1; exact ⟨_, _, _, hP9.1.1⟩
  obtain ⟨M1, p1, t1, h99⟩ := h99
  refine j_p (nx := 1369) hJ dL_law_1368 rfl rfl ?_
  refine j_p (nx := 1370) hJ dL_law_1369 rfl rfl ?_
  refine j_p (nx := 1371) hJ dL_law_1370 rfl rfl ?_
  refine j_c (nx := 1372) hJ dL_law_1371 rfl gk_iconst_1 ?_
  refine j_p (nx := 1373) hJ dL_law_1372 rfl rfl ?_
  rw [show (1 : Int32) = nI 1 from rfl, gadd]
  refine hs 1373 1374 (6 * i + 1) _ _ _ _ _ dL_law_1373 rfl rfl (by omega) ?_
  refine j_p (nx := 1375) hJ dL_law_1374 rfl rfl ?_
  refine j_p (nx := 1376) hJ dL_law_1375 rfl rfl ?_
  refine j_c (nx := 1377) hJ dL_law_1376 rfl gk_iconst_2 ?_
  refine j_p (nx := 1378) hJ dL_law_1377 rfl rfl ?_
  rw [show (2 : Int32) = nI 2 from rfl, gadd]
  refine hs 1378 1379 (6 * i + 2) _ _ _ _ _ dL_law_1378 rfl rfl (by omega) ?_
  refine j_p (nx := 1380) hJ dL_law_1379 rfl rfl ?_
  refine j_p (nx := 1381) hJ dL_law_1380 rfl rfl ?_
  refine j_c (nx := 1382) hJ dL_law_1381 rfl gk_iconst_3 ?_
  refine j_p (nx := 1383) hJ dL_law_1382 rfl rfl ?_
  rw [show (3 : Int32) = nI 3 from rfl, gadd]
  refine hs 1383 1384 (6 * i + 3) _ _ _ _ _ dL_law_1383 rfl rfl (by omega) ?_
  refine j_p (nx := 1385) hJ dL_law_1384 rfl rfl ?_
  refine j_p (nx := 1386) hJ dL_law_1385 rfl rfl ?_
  refine j_c (nx := 1387) hJ dL_law_1386 rfl gk_iconst_4 ?_
  refine j_p (nx := 1388) hJ dL_law_1387 rfl rfl ?_
  rw [show (4 : Int32) = nI 4 from rfl, gadd]
  refine hs 1388 1389 (6 * i + 4) _ _ _ _ _ dL_law_1388 rfl rfl (by omega) ?_
  refine j_p (nx := 1390) hJ dL_law_1389 rfl rfl ?_
  refine j_p (nx := 1391) hJ dL_law_1390 rfl rfl ?_
  refine j_c (nx := 1392) hJ dL_law_1391 rfl gk_iconst_5 ?_
  refine j_p (nx := 1393) hJ dL_law_1392 rfl rfl ?_
  rw [show (5 : Int32) = nI 5 from rfl, gadd]
  refine hs 1393 1394 (6 * i + 5) _ _ _ _ _ dL_law_1393 rfl rfl (by omega) ?_
  refine j_cv (nx := 1397) hJ dL_law_1394 rfl (r6_copyElements (d := 0) hS1 hI _ _ _ _ _) mL_171 h99 kX6_copyElements rfl (gle8 rfl) (fun o h2 hp => ?_)
  obtain ⟨rfl, hS2⟩ := hp
  refine j_ic_eq (nx := 1400) (tgt := 1461) hJ dL_law_1397 rfl (by decide) (fun _ => next h2 ?_) (fun q => absurd rfl q)
  exact gSim.step hC hS2 (i_copyElements hI _ _ _ _ _)
set_option maxHeartbeats 4000000 in
theorem lo_37 (hJ : gCl RL cL_law (some .boolean) false (gRuns 60) J P) (hs : gScr J L xs) (hi : 6 * i + 6 ≤ L) (next : ∀ h, gSim h → J 1461 [some (.ref 1000300), some (.ref 0), some (.ref 99), some (.int (nI (6 * i)))] [] h (130, 0, 0, false)) {h : GH} (hM : gSim h) : J 1402 [some (.ref 1000300), some (.ref 0), some (.ref 99), some (.int (nI (6 * i)))] [] h (130, 0, 0, false) := by
  obtain ⟨R, N, hQ, hS, hI⟩ := hM
  obtain ⟨k, sn, a1, a2, a3, a4, a5, -, -⟩ := hI.k
  have hsy : ∀ r, r < 6 → ∀ c ∈ R (5 + 2 * r), gsy c := fun r hr => (a5 r hr).sy a2.2
  have hne : ∀ r, r < 6 → 1 ≤ (R (5 + 2 * r)).length := fun r hr => (a5 r hr).1
  have hcn : ∀ r, r < 6 → gcn (R (5 + 2 * r)) := fun r hr => (a5 r hr).2.2.2.1
  refine j_p (nx := 1403) hJ dL_law_1402 rfl rfl ?_
  refine j_p (nx := 1404) hJ dL_law_1403 rfl rfl ?_
  refine j_p (nx := 1405) hJ dL_law_1404 rfl rfl ?_
  refine j_c (nx := 1406) hJ dL_law_1405 rfl gk_iconst_1 ?_
  refine j_p (nx := 1407) hJ dL_law_1406 rfl rfl ?_
  rw [show (1 : Int32) = nI 1 from rfl, gadd]
  refine hs 1407 1408 (6 * i + 1) _ _ _ _ _ dL_law_1407 rfl rfl (by omega) ?_
  refine j_p (nx := 1409) hJ dL_law_1408 rfl rfl ?_
  refine j_p (nx := 1410) hJ dL_law_1409 rfl rfl ?_
  refine j_c (nx := 1411) hJ dL_law_1410 rfl gk_iconst_2 ?_
  refine j_p (nx := 1412) hJ dL_law_1411 rfl rfl ?_
  rw [show (2 : Int32) = nI 2 from rfl, gadd]
  refine hs 1412 1413 (6 * i + 2) _ _ _ _ _ dL_law_1412 rfl rfl (by omega) ?_
  refine j_cv (nx := 1416) hJ dL_law_1413 rfl (r_loadPattern (fl := false) (d := 0) hQ  _ _) mL_172 hQ.1.1 kX5_loadPattern rfl (gle8 rfl) (fun o h1 hp => ?_)
  obtain ⟨rfl, hC⟩ := hp
  have hS1 := hS.mv hC.fr
  have h99 : ∃ M1 p1 t1, h1 99 = some (gO M1 p1 t1) := by obtain ⟨A9, E9, M9, p9, t9, hP9, -⟩ := id hS1; exact ⟨_, _, _, hP9.1.1⟩
  obtain ⟨M1, p1, t1, h99⟩ := h99
  refine j_p (nx := 1417) hJ dL_law_1416 rfl rfl ?_
  refine j_p (nx := 1418) hJ dL_law_1417 rfl rfl ?_
  refine j_p (nx := 1419) hJ dL_law_1418 rfl rfl ?_
  refine j_c (nx := 1420) hJ dL_law_1419 rfl gk_iconst_1 ?_
  refine j_p (nx := 1421) hJ dL_law_1420 rfl rfl ?_
  rw [show (1 : Int32) = nI 1 from rfl, gadd]
  refine hs 1421 1422 (6 * i + 1) _ _ _ _ _ dL_law_1421 rfl rfl (by omega) ?_
  refine j_p (nx := 1423) hJ dL_law_1422 rfl rfl ?_
  refine j_p (nx := 1424) hJ dL_law_1423 rfl rfl ?_
  refine j_c (nx := 1425) hJ dL_law_1424 rfl gk_iconst_2 ?_
  refine j_p (nx := 1426) hJ dL_law_1425 rfl rfl ?_
  rw [show (2 : Int32) = nI 2 from rfl, gadd]
  refine hs 1426 1427 (6 * i + 2) _ _ _ _ _ dL_law_1426 rfl rfl (by omega) ?_
  refine j_cv (nx := 1430) hJ dL_law_1427 rfl (r6_loadPattern (d := 0) hS1 hI _ _) mL_175 h99 kX6_loadPattern rfl (gle8 rfl) (fun o h2 hp => ?_)
  obtain ⟨rfl, hS2⟩ := hp
  refine j_ic_eq (nx := 1433) (tgt := 1461) hJ dL_law_1430 rfl (by decide) (fun _ => next h2 ?_) (fun q => absurd rfl q)
  exact gSim.step hC hS2 (i_loadPattern hI _ _)
set_option maxHeartbeats 4000000 in
theorem lo_38 (hJ : gCl RL cL_law (some .boolean) false (gRuns 60) J P) (hs : gScr J L xs) (hi : 6 * i + 6 ≤ L) (next : ∀ h, gSim h → J 1461 [some (.ref 1000300), some (.ref 0), some (.ref 99), some (.int (nI (6 * i)))] [] h (130, 0, 0, false)) {h : GH} (hM : gSim h) : J 1435 [some (.ref 1000300), some (.ref 0), some (.ref 99), some (.int (nI (6 * i)))] [] h (130, 0, 0, false) := by
  obtain ⟨R, N, hQ, hS, hI⟩ := hM
  obtain ⟨k, sn, a1, a2, a3, a4, a5, -, -⟩ := hI.k
  have hsy : ∀ r, r < 6 → ∀ c ∈ R (5 + 2 * r), gsy c := fun r hr => (a5 r hr).sy a2.2
  have hne : ∀ r, r < 6 → 1 ≤ (R (5 + 2 * r)).length := fun r hr => (a5 r hr).1
  have hcn : ∀ r, r < 6 → gcn (R (5 + 2 * r)) := fun r hr => (a5 r hr).2.2.2.1
  refine j_p (nx := 1436) hJ dL_law_1435 rfl rfl ?_
  refine j_cv (nx := 1439) hJ dL_law_1436 rfl (r_snapshot (fl := false) (d := 0) hQ ) mL_176 hQ.1.1 kX5_snapshot rfl (gle8 rfl) (fun o h1 hp => ?_)
  obtain ⟨rfl, hC⟩ := hp
  have hS1 := hS.mv hC.fr
  have h99 : ∃ M1 p1 t1, h1 99 = some (gO M1 p1 t1) := by obtain ⟨A9, E9, M9, p9, t9, hP9, -⟩ := id hS1; exact ⟨_, _, _, hP9.1.1⟩
  obtain ⟨M1, p1, t1, h99⟩ := h99
  refine j_p (nx := 1440) hJ dL_law_1439 rfl rfl ?_
  refine j_cv (nx := 1443) hJ dL_law_1440 rfl (r6_snapshot (d := 0) hS1 hI) mL_179 h99 kX6_snapshot rfl (gle8 rfl) (fun o h2 hp => ?_)
  obtain ⟨rfl, hS2⟩ := hp
  refine j_ic_eq (nx := 1446) (tgt := 1461) hJ dL_law_1443 rfl (by decide) (fun _ => next h2 ?_) (fun q => absurd rfl q)
  exact gSim.step hC hS2 (i_snapshot hI)
set_option maxHeartbeats 4000000 in
theorem lo_39 (hJ : gCl RL cL_law (some .boolean) false (gRuns 60) J P) (hs : gScr J L xs) (hi : 6 * i + 6 ≤ L) (next : ∀ h, gSim h → J 1461 [some (.ref 1000300), some (.ref 0), some (.ref 99), some (.int (nI (6 * i)))] [] h (130, 0, 0, false)) {h : GH} (hM : gSim h) : J 1448 [some (.ref 1000300), some (.ref 0), some (.ref 99), some (.int (nI (6 * i)))] [] h (130, 0, 0, false) := by
  obtain ⟨R, N, hQ, hS, hI⟩ := hM
  obtain ⟨k, sn, a1, a2, a3, a4, a5, -, -⟩ := hI.k
  have hsy : ∀ r, r < 6 → ∀ c ∈ R (5 + 2 * r), gsy c := fun r hr => (a5 r hr).sy a2.2
  have hne : ∀ r, r < 6 → 1 ≤ (R (5 + 2 * r)).length := fun r hr => (a5 r hr).1
  have hcn : ∀ r, r < 6 → gcn (R (5 + 2 * r)) := fun r hr => (a5 r hr).2.2.2.1
  refine j_p (nx := 1449) hJ dL_law_1448 rfl rfl ?_
  refine j_cv (nx := 1452) hJ dL_law_1449 rfl (r_restore (fl := false) (d := 0) hQ ) mL_180 hQ.1.1 kX5_restore rfl (gle8 rfl) (fun o h1 hp => ?_)
  obtain ⟨rfl, hC⟩ := hp
  have hS1 := hS.mv hC.fr
  have h99 : ∃ M1 p1 t1, h1 99 = some (gO M1 p1 t1) := by obtain ⟨A9, E9, M9, p9, t9, hP9, -⟩ := id hS1; exact ⟨_, _, _, hP9.1.1⟩
  obtain ⟨M1, p1, t1, h99⟩ := h99
  refine j_p (nx := 1453) hJ dL_law_1452 rfl rfl ?_
  refine j_cv (nx := 1456) hJ dL_law_1453 rfl (r6_restore (d := 0) hS1 hI) mL_183 h99 kX6_restore rfl (gle8 rfl) (fun o h2 hp => ?_)
  obtain ⟨rfl, hS2⟩ := hp
  refine j_ic_eq (nx := 1459) (tgt := 1461) hJ dL_law_1456 rfl (by decide) (fun _ => next h2 ?_) (fun q => absurd rfl q)
  exact gSim.step hC hS2 (i_restore hI)
end GLAW
