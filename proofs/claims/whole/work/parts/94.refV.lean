def ghn : List Int32 → Int64
  | [] => 0
  | y :: ys => 4 * ghn ys + y.toInt64 + 1
theorem gsy_cast {y : Int32} (h : gsy y) : (y + 1).toInt64 = y.toInt64 + 1 := by
  have key : ∀ k, k < 14 → (nI k + 1).toInt64 = (nI k).toInt64 + 1 := by decide
  have e := gnat h.1
  rw [e]
  exact key _ (by have := h.2; have := h.1; omega)
theorem gwc_hn : ∀ (l : List Int32) (c w : Int64), (∀ y ∈ l, gsy y) → (l.foldl (fun p y => (p.1 + (y + 1).toInt64 * p.2, p.2 * 4)) (c, w)).1 = c + w * ghn l
  | [], c, w, _ => by
    show c = c + w * 0
    rw [Int64.mul_zero, Int64.add_zero]
  | y :: ys, c, w, h => by
    rw [List.foldl_cons, gwc_hn ys _ _ (fun z hz => h z (List.mem_cons_of_mem _ hz)), ghn, gsy_cast (h y (List.mem_cons_self ..))]
    show c + (y.toInt64 + 1) * w + w * 4 * ghn ys = c + w * (4 * ghn ys + y.toInt64 + 1)
    rw [Int64.mul_add, Int64.mul_add, Int64.mul_comm (y.toInt64 + 1) w, Int64.mul_add, Int64.mul_assoc w 4 (ghn ys)]
    rw [Int64.add_assoc c, Int64.add_comm _ (w * (4 * ghn ys)), ← Int64.add_assoc (w * (4 * ghn ys))]
theorem gwc_eq {l : List Int32} (h : ∀ y ∈ l, gsy y) : (gwc l).1 = ghn l := by
  unfold gwc
  rw [gwc_hn l 0 1 h, Int64.one_mul, Int64.zero_add]
theorem gdec1 (x : Int32) : x + Int32.ofInt (-1) = x - 1 := by rw [show Int32.ofInt (-1) = -1 by decide, Int32.sub_eq_add_neg]
set_option maxHeartbeats 4000000 in
theorem r6_code {d : Nat} {h : GH} {a n9 p : Nat} {f : Nat → Int32} {l : List Int32} (ha : h a = some (gia n9 f)) (hS : gSt f p l) (hn : p + l.length ≤ n9) (hn9 : n9 ≤ 1000) : gR false (d + 1) yX6_codeOf_ [.ref a, .int (nI p), .int (nI l.length)] h (.long (ghn l)) := by
  refine gN.of MX6_codeOf_ (Nat.le_of_ble_eq_true rfl) (fun J n hJ => ?_)
  show J 0 [some (.ref a), some (.int (nI p)), some (.int (nI l.length)), none, none, none] [] h (n, 0, 0, false)
  have loop : ∀ j, j ≤ l.length → J 7 [some (.ref a), some (.int (nI p)), some (.int (nI l.length)), some (.long (ghn (l.drop j))), none, some (.int (nI j - 1))] [] h (n, 0, 0, false) := by
    intro j
    induction j with
    | zero =>
      intro _
      refine j_p (nx := 9) hJ dX6_codeOf__7 rfl rfl ?_
      refine j_if_lt (nx := 12) (tgt := 34) hJ dX6_codeOf__9 rfl (by decide) (fun c9 => ?_) (fun c9 => absurd c9 (fun q => q (by decide)))
      refine j_p (nx := 35) hJ dX6_codeOf__34 rfl rfl ?_
      exact j_lret hJ dX6_codeOf__35 ⟨rfl, rfl⟩
    | succ j ih =>
      intro hj
      rw [show nI (j + 1) - 1 = nI j from gsub (b := 1) (by omega)]
      refine j_p (nx := 9) hJ dX6_codeOf__7 rfl rfl ?_
      refine j_if_lt (nx := 12) (tgt := 34) hJ dX6_codeOf__9 rfl (by decide) (fun c9 => absurd c9 (by rw [gcz0, nI_toInt (by omega)]; omega)) (fun c9 => ?_)
      refine j_ldc2 (nx := 15) hJ dX6_codeOf__12 rfl qX6_239 ?_
      refine j_p (nx := 16) hJ dX6_codeOf__15 rfl rfl ?_
      refine j_p (nx := 17) hJ dX6_codeOf__16 rfl rfl ?_
      refine j_p (nx := 18) hJ dX6_codeOf__17 rfl rfl ?_
      refine j_p (nx := 19) hJ dX6_codeOf__18 rfl rfl ?_
      refine j_p (nx := 21) hJ dX6_codeOf__19 rfl rfl ?_
      refine j_p (nx := 22) hJ dX6_codeOf__21 rfl rfl ?_
      rw [gadd]
      refine j_iald (j := p + j) (nx := 23) hJ dX6_codeOf__22 rfl ha rfl (by omega) (by omega) ?_
      rw [hS.get (show j < l.length by omega)]
      refine j_p (nx := 24) hJ dX6_codeOf__23 rfl rfl ?_
      refine j_p (nx := 25) hJ dX6_codeOf__24 rfl rfl ?_
      refine j_lc (nx := 26) (v := 1) hJ dX6_codeOf__25 rfl (by decide) ?_
      refine j_p (nx := 27) hJ dX6_codeOf__26 rfl rfl ?_
      refine j_p (nx := 28) hJ dX6_codeOf__27 rfl rfl ?_
      refine j_inc (nx := 31) hJ dX6_codeOf__28 rfl rfl (gdec1 _) rfl ?_
      refine j_go (tgt := 7) hJ dX6_codeOf__31 (by decide) ?_
      have hr := ih (by omega)
      rw [gdropD (show j < l.length by omega), ghn] at hr
      exact hr
  refine j_lc (nx := 1) (v := 0) hJ dX6_codeOf__0 rfl (by decide) ?_
  refine j_p (nx := 2) hJ dX6_codeOf__1 rfl rfl ?_
  refine j_p (nx := 3) hJ dX6_codeOf__2 rfl rfl ?_
  refine j_c (nx := 4) hJ dX6_codeOf__3 rfl gk_iconst_1 ?_
  refine j_p (nx := 5) hJ dX6_codeOf__4 rfl rfl ?_
  refine j_p (nx := 7) hJ dX6_codeOf__5 rfl rfl ?_
  have hl := loop l.length (Nat.le_refl _)
  rw [List.drop_length] at hl
  exact hl
set_option maxHeartbeats 4000000 in
theorem r6_sampleCode {d : Nat} {h0 h : GH} {R : Nat → List Int32} {N : Nat → Int32} (hS : gRS h0 h R N) (hI : gInv R N) (x : Int32) : gN false (d + 60) yX6_sampleCode [.ref 99, .int x] h (fun o h' => o = some (.long (s_sampleCode R N x)) ∧ gRS h0 h' R N) := by
  obtain ⟨A, E, M, pv, tv, hP, hG⟩ := hS
  have g0 := hG.1.1
  have g9 := hG.1.2.2.1
  obtain ⟨⟨k, ss, hk1, hk3, hss1, hss6, hpt, him, hsm⟩, hI2, hI3, hI4, hI5⟩ := hI
  have egs := gss_nI hss1 hss6
  refine gN.of MX6_sampleCode (Nat.le_of_ble_eq_true rfl) (fun J n hJ => ?_)
  show J 0 [some (.ref 99), some (.int x)] [] h (n, 0, 0, false)
  by_cases hx : gbt x ss = true
  · obtain ⟨r, rfl, hr⟩ := gbt_spec hx
    have hw := hG.2.2.2.1 r (by omega) (by omega)
    have hw8 := hw.2.1
    have hwsy : ∀ y ∈ (R (25 + 2 * r)), gsy y := fun y hy => by have := (hsm r (by omega) hr).2 y hy; exact ⟨this.1, by omega⟩
    refine j_p (nx := 1) hJ dX6_sampleCode_0 rfl rfl ?_
    refine j_p (nx := 2) hJ dX6_sampleCode_1 rfl rfl ?_
    refine j_cvR (nx := 5) hJ dX6_sampleCode_2 rfl (r6_isInSample (d := d + 57) hP hG hss1 hss6 _) mX6_236 hP.1.1 kX6_isInSample rfl (gle8 rfl) ?_
    rw [show gbt _ ss = true from hx]
    refine j_if_eq (nx := 8) (tgt := 28) hJ dX6_sampleCode_5 rfl (by decide) (fun c5 => absurd c5 (by decide)) (fun c5 => ?_)
    refine j_p (nx := 9) hJ dX6_sampleCode_8 rfl rfl ?_
    refine j_get (nx := 12) hJ dX6_sampleCode_9 rfl fX6_22 hP.1.1 (by rfl) ?_
    refine j_c (nx := 14) hJ dX6_sampleCode_12 rfl gk_bipush_8 ?_
    refine j_p (nx := 15) hJ dX6_sampleCode_14 rfl rfl ?_
    refine j_p (nx := 16) hJ dX6_sampleCode_15 rfl rfl ?_
    rw [show (8 : Int32) = nI 8 from rfl, gmul]
    refine j_p (nx := 17) hJ dX6_sampleCode_16 rfl rfl ?_
    refine j_get (nx := 20) hJ dX6_sampleCode_17 rfl fX6_25 hP.1.1 (by rfl) ?_
    refine j_p (nx := 21) hJ dX6_sampleCode_20 rfl rfl ?_
    refine j_iald (j := r) (nx := 22) hJ dX6_sampleCode_21 rfl (show h 103 = some (gia 6 (A 103)) from hP.a 103 (by unfold gia'; omega)) rfl (by omega) (by decide) ?_
    rw [hw.1]
    refine j_csR (nx := 25) hJ dX6_sampleCode_22 rfl (r6_code (d := d + 58) (show h 102 = some (gia 48 (A 102)) from hP.a 102 (by unfold gia'; omega)) hw.2.2 (by omega) (by omega)) mX6_241 rfl (gle8 rfl) ?_
    refine j_go (tgt := 31) hJ dX6_sampleCode_25 (by decide) ?_
    have e : s_sampleCode R N (nI r) = ghn (R (25 + 2 * r)) := by unfold s_sampleCode; rw [egs, if_pos hx, nI_toInt (by omega)]; exact gwc_eq hwsy
    exact j_lret hJ dX6_sampleCode_31 ⟨by rw [e], ⟨A, E, M, pv, tv, hP, hG⟩⟩
  · refine j_p (nx := 1) hJ dX6_sampleCode_0 rfl rfl ?_
    refine j_p (nx := 2) hJ dX6_sampleCode_1 rfl rfl ?_
    refine j_cvR (nx := 5) hJ dX6_sampleCode_2 rfl (r6_isInSample (d := d + 57) hP hG hss1 hss6 _) mX6_236 hP.1.1 kX6_isInSample rfl (gle8 rfl) ?_
    rw [show gbt _ ss = false from Bool.eq_false_iff.mpr hx]
    refine j_if_eq (nx := 8) (tgt := 28) hJ dX6_sampleCode_5 rfl (by decide) (fun c5 => ?_) (fun c5 => absurd c5 (by decide))
    refine j_ldc2 (nx := 31) hJ dX6_sampleCode_28 rfl qX6_244 ?_
    have e : s_sampleCode R N x = -9223372036854775808 := by unfold s_sampleCode; rw [egs]; exact if_neg hx
    exact j_lret hJ dX6_sampleCode_31 ⟨by rw [e], ⟨A, E, M, pv, tv, hP, hG⟩⟩
