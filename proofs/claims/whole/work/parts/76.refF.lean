set_option maxHeartbeats 4000000 in
theorem r6_copy {d : Nat} {h0 h : GH} {R : Nat → List Int32} {N : Nat → Int32} (hS : gRS h0 h R N) (hI : gInv R N) (x y : Int32) : gN false (d + 60) yX6_copy [.ref 99, .int x, .int y] h (fun o h' => o = some (.int (s_copy R N x y).1) ∧ gRS h0 h' (s_copy R N x y).2.1 (s_copy R N x y).2.2) := by
  obtain ⟨A, E, M, pv, tv, hP, hG⟩ := hS
  have g0 := hG.1.1
  have g9 := hG.1.2.2.1
  obtain ⟨⟨k, ss, hk1, hk3, hss1, hss6, hpt, him, hsm⟩, hI2, hI3, hI4, hI5⟩ := hI
  refine gN.of MX6_copy (Nat.le_of_ble_eq_true rfl) (fun J n hJ => ?_)
  show J 0 [some (.ref 99), some (.int x), some (.int y)] [] h (n, 0, 0, false)
  by_cases hx : gbt x 6 = true
  · obtain ⟨r, rfl, hr⟩ := gbt_spec hx
    have egr := gr_nI (r := r) (by omega)
    have hl := hG.2.1 r hr
    have hl8 := hl.2.1
    have hpr := hpt r hr
    by_cases hy : gbt y 6 = true
    · obtain ⟨s, rfl, hs⟩ := gbt_spec hy
      have egs := gr_nI (r := s) (by omega)
      have hls := hG.2.1 s hs
      have hls8 := hls.2.1
      refine j_p (nx := 1) hJ dX6_copy_0 rfl rfl ?_
      refine j_csR (nx := 4) hJ dX6_copy_1 rfl (r6_isRegister (fl := false) (d := d + 57) _) mX6_139 rfl (gle8 rfl) ?_
      rw [show gbt _ 6 = true from hx]
      refine j_if_eq (nx := 7) (tgt := 14) hJ dX6_copy_4 rfl (by decide) (fun c4 => absurd c4 (by decide)) (fun c4 => ?_)
      refine j_p (nx := 8) hJ dX6_copy_7 rfl rfl ?_
      refine j_csR (nx := 11) hJ dX6_copy_8 rfl (r6_isRegister (fl := false) (d := d + 57) _) mX6_139 rfl (gle8 rfl) ?_
      rw [show gbt _ 6 = true from hy]
      refine j_if_ne (nx := 14) (tgt := 17) hJ dX6_copy_11 rfl (by decide) (fun c11 => ?_) (fun c11 => absurd c11 (by decide))
      refine j_p (nx := 18) hJ dX6_copy_17 rfl rfl ?_
      refine j_get (nx := 21) hJ dX6_copy_18 rfl fX6_15 hP.1.1 (by rfl) ?_
      refine j_c (nx := 23) hJ dX6_copy_21 rfl gk_bipush_8 ?_
      refine j_p (nx := 24) hJ dX6_copy_23 rfl rfl ?_
      refine j_p (nx := 25) hJ dX6_copy_24 rfl rfl ?_
      rw [show (8 : Int32) = nI 8 from rfl, gmul]
      refine j_p (nx := 26) hJ dX6_copy_25 rfl rfl ?_
      refine j_get (nx := 29) hJ dX6_copy_26 rfl fX6_15 hP.1.1 (by rfl) ?_
      refine j_c (nx := 31) hJ dX6_copy_29 rfl gk_bipush_8 ?_
      refine j_p (nx := 32) hJ dX6_copy_31 rfl rfl ?_
      refine j_p (nx := 33) hJ dX6_copy_32 rfl rfl ?_
      rw [show (8 : Int32) = nI 8 from rfl, gmul]
      refine j_c (nx := 35) hJ dX6_copy_33 rfl gk_bipush_8 ?_
      refine j_acp (nx := 38) hJ (8 * s) (8 * r) 8 dX6_copy_35 rfl mX6_125 (gle8 rfl) (show h 100 = some (gia 48 (A 100)) from hP.a 100 (by unfold gia'; omega)) (show h 100 = some (gia 48 (A 100)) from hP.a 100 (by unfold gia'; omega)) rfl rfl rfl (by omega) (by omega) (by decide) (by decide) ?_
      have hP1 := hP.arr (a := 100) (by unfold gia'; omega) (va_cpy (A 100) (A 100) (8 * s) (8 * r) 8)
      refine j_p (nx := 39) hJ dX6_copy_38 rfl rfl ?_
      refine j_get (nx := 42) hJ dX6_copy_39 rfl fX6_19 hP1.1.1 (by rfl) ?_
      refine j_p (nx := 43) hJ dX6_copy_42 rfl rfl ?_
      refine j_p (nx := 44) hJ dX6_copy_43 rfl rfl ?_
      refine j_get (nx := 47) hJ dX6_copy_44 rfl fX6_19 hP1.1.1 (by rfl) ?_
      refine j_p (nx := 48) hJ dX6_copy_47 rfl rfl ?_
      refine j_iald (j := s) (nx := 49) hJ dX6_copy_48 rfl (show (gup h 100 (gia 48 (va_cpy (A 100) (A 100) (8 * s) (8 * r) 8))) 101 = some (gia 6 ((gU A 100 (va_cpy (A 100) (A 100) (8 * s) (8 * r) 8)) 101)) from hP1.a 101 (by unfold gia'; omega)) rfl (by omega) (by decide) ?_
      rw [show (gU A 100 (va_cpy (A 100) (A 100) (8 * s) (8 * r) 8)) 101 s = nI (R (5 + 2 * s)).length from hls.1]
      refine j_iast (j := r) (nx := 50) hJ dX6_copy_49 rfl (show (gup h 100 (gia 48 (va_cpy (A 100) (A 100) (8 * s) (8 * r) 8))) 101 = some (gia 6 ((gU A 100 (va_cpy (A 100) (A 100) (8 * s) (8 * r) 8)) 101)) from hP1.a 101 (by unfold gia'; omega)) rfl (by omega) (by decide) ?_
      have hP2 := hP1.arr (a := 101) (by unfold gia'; omega) (upd ((gU A 100 (va_cpy (A 100) (A 100) (8 * s) (8 * r) 8)) 101) (r) (nI (R (5 + 2 * s)).length))
      refine j_p (nx := 51) hJ dX6_copy_50 rfl rfl ?_
      refine j_get (nx := 54) hJ dX6_copy_51 rfl fX6_19 hP2.1.1 (by rfl) ?_
      refine j_p (nx := 55) hJ dX6_copy_54 rfl rfl ?_
      refine j_iald (j := r) (nx := 56) hJ dX6_copy_55 rfl (show (gup (gup h 100 (gia 48 (va_cpy (A 100) (A 100) (8 * s) (8 * r) 8))) 101 (gia 6 (upd (A 101) r (nI (R (5 + 2 * s)).length)))) 101 = some (gia 6 ((gU (gU A 100 (va_cpy (A 100) (A 100) (8 * s) (8 * r) 8)) 101 (upd (A 101) r (nI (R (5 + 2 * s)).length))) 101)) from hP2.a 101 (by unfold gia'; omega)) rfl (by omega) (by decide) ?_
      rw [show (gU (gU A 100 (va_cpy (A 100) (A 100) (8 * s) (8 * r) 8)) 101 (upd (A 101) r (nI (R (5 + 2 * s)).length))) 101 r = nI (R (5 + 2 * s)).length from by rw [gU_s]; simp [upd]]
      have e : s_copy R N (nI r) (nI s) = (nI (R (5 + 2 * s)).length, gU R (5 + 2 * r) (R (5 + 2 * s)), N) := by unfold s_copy; rw [if_pos ⟨hx, hy⟩, egr, egs]
      refine j_iret hJ dX6_copy_56 ⟨by rw [e], ?_⟩
      rw [e]
      refine ⟨_, _, _, _, _, hP2, hG.pat hr ⟨?_, hls8, gSt.of (fun i hi => ?_)⟩ (fun i hi => ?_) (fun i hi => ?_) (fun a p1 p2 _ => ?_)⟩
      · rw [gU_s]; simp [upd]
      · rw [gU_n _ _ (by omega), gU_s]; unfold va_cpy; rw [if_pos ⟨by omega, by omega⟩, show 8 * s + (8 * r + i - 8 * r) = 8 * s + i by omega]; exact hls.2.2.get hi
      · rw [gU_n _ _ (by omega), gU_s]; unfold va_cpy; rw [if_neg (by omega)]
      · rw [gU_s]; simp only [upd]; rw [if_neg hi]; rfl
      · rw [gU_n _ _ p2, gU_n _ _ p1]
    · refine j_p (nx := 1) hJ dX6_copy_0 rfl rfl ?_
      refine j_csR (nx := 4) hJ dX6_copy_1 rfl (r6_isRegister (fl := false) (d := d + 57) _) mX6_139 rfl (gle8 rfl) ?_
      rw [show gbt _ 6 = true from hx]
      refine j_if_eq (nx := 7) (tgt := 14) hJ dX6_copy_4 rfl (by decide) (fun c4 => absurd c4 (by decide)) (fun c4 => ?_)
      refine j_p (nx := 8) hJ dX6_copy_7 rfl rfl ?_
      refine j_csR (nx := 11) hJ dX6_copy_8 rfl (r6_isRegister (fl := false) (d := d + 57) _) mX6_139 rfl (gle8 rfl) ?_
      rw [show gbt _ 6 = false from Bool.eq_false_iff.mpr hy]
      refine j_if_ne (nx := 14) (tgt := 17) hJ dX6_copy_11 rfl (by decide) (fun c11 => absurd c11 (by decide)) (fun c11 => ?_)
      refine j_c (nx := 16) hJ dX6_copy_14 rfl gk_bipush_m2 ?_
      have e : s_copy R N (nI r) y = (-2, R, N) := if_neg (fun q => hy q.2)
      exact j_iret hJ dX6_copy_16 ⟨by rw [e], by rw [e]; exact ⟨A, E, M, pv, tv, hP, hG⟩⟩
  · refine j_p (nx := 1) hJ dX6_copy_0 rfl rfl ?_
    refine j_csR (nx := 4) hJ dX6_copy_1 rfl (r6_isRegister (fl := false) (d := d + 57) _) mX6_139 rfl (gle8 rfl) ?_
    rw [show gbt _ 6 = false from Bool.eq_false_iff.mpr hx]
    refine j_if_eq (nx := 7) (tgt := 14) hJ dX6_copy_4 rfl (by decide) (fun c4 => ?_) (fun c4 => absurd c4 (by decide))
    refine j_c (nx := 16) hJ dX6_copy_14 rfl gk_bipush_m2 ?_
    have e : s_copy R N x y = (-2, R, N) := if_neg (fun q => hx q.1)
    exact j_iret hJ dX6_copy_16 ⟨by rw [e], by rw [e]; exact ⟨A, E, M, pv, tv, hP, hG⟩⟩
set_option maxHeartbeats 4000000 in
theorem r6_length {d : Nat} {h0 h : GH} {R : Nat → List Int32} {N : Nat → Int32} (hS : gRS h0 h R N) (hI : gInv R N) (x : Int32) : gN false (d + 60) yX6_length [.ref 99, .int x] h (fun o h' => o = some (.int (s_length R x)) ∧ gRS h0 h' R N) := by
  obtain ⟨A, E, M, pv, tv, hP, hG⟩ := hS
  have g0 := hG.1.1
  have g9 := hG.1.2.2.1
  obtain ⟨⟨k, ss, hk1, hk3, hss1, hss6, hpt, him, hsm⟩, hI2, hI3, hI4, hI5⟩ := hI
  refine gN.of MX6_length (Nat.le_of_ble_eq_true rfl) (fun J n hJ => ?_)
  show J 0 [some (.ref 99), some (.int x)] [] h (n, 0, 0, false)
  by_cases hx : gbt x 6 = true
  · obtain ⟨r, rfl, hr⟩ := gbt_spec hx
    have egr := gr_nI (r := r) (by omega)
    have hl := hG.2.1 r hr
    have hl8 := hl.2.1
    have hpr := hpt r hr
    refine j_p (nx := 1) hJ dX6_length_0 rfl rfl ?_
    refine j_csR (nx := 4) hJ dX6_length_1 rfl (r6_isRegister (fl := false) (d := d + 57) _) mX6_139 rfl (gle8 rfl) ?_
    rw [show gbt _ 6 = true from hx]
    refine j_if_eq (nx := 7) (tgt := 16) hJ dX6_length_4 rfl (by decide) (fun c4 => absurd c4 (by decide)) (fun c4 => ?_)
    refine j_p (nx := 8) hJ dX6_length_7 rfl rfl ?_
    refine j_get (nx := 11) hJ dX6_length_8 rfl fX6_19 hP.1.1 (by rfl) ?_
    refine j_p (nx := 12) hJ dX6_length_11 rfl rfl ?_
    refine j_iald (j := r) (nx := 13) hJ dX6_length_12 rfl (show h 101 = some (gia 6 (A 101)) from hP.a 101 (by unfold gia'; omega)) rfl (by omega) (by decide) ?_
    rw [hl.1]
    refine j_go (tgt := 18) hJ dX6_length_13 (by decide) ?_
    have e : s_length R (nI r) = nI (R (5 + 2 * r)).length := by unfold s_length; rw [if_pos hx, egr]
    exact j_iret hJ dX6_length_18 ⟨by rw [e], ⟨A, E, M, pv, tv, hP, hG⟩⟩
  · refine j_p (nx := 1) hJ dX6_length_0 rfl rfl ?_
    refine j_csR (nx := 4) hJ dX6_length_1 rfl (r6_isRegister (fl := false) (d := d + 57) _) mX6_139 rfl (gle8 rfl) ?_
    rw [show gbt _ 6 = false from Bool.eq_false_iff.mpr hx]
    refine j_if_eq (nx := 7) (tgt := 16) hJ dX6_length_4 rfl (by decide) (fun c4 => ?_) (fun c4 => absurd c4 (by decide))
    refine j_c (nx := 18) hJ dX6_length_16 rfl gk_bipush_m2 ?_
    have e : s_length R x = -2 := if_neg hx
    exact j_iret hJ dX6_length_18 ⟨by rw [e], ⟨A, E, M, pv, tv, hP, hG⟩⟩
set_option maxHeartbeats 4000000 in
theorem r6_symbol {d : Nat} {h0 h : GH} {R : Nat → List Int32} {N : Nat → Int32} (hS : gRS h0 h R N) (hI : gInv R N) (x p : Int32) : gN false (d + 60) yX6_symbol [.ref 99, .int x, .int p] h (fun o h' => o = some (.int (s_symbol R x p)) ∧ gRS h0 h' R N) := by
  obtain ⟨A, E, M, pv, tv, hP, hG⟩ := hS
  have g0 := hG.1.1
  have g9 := hG.1.2.2.1
  obtain ⟨⟨k, ss, hk1, hk3, hss1, hss6, hpt, him, hsm⟩, hI2, hI3, hI4, hI5⟩ := hI
  refine gN.of MX6_symbol (Nat.le_of_ble_eq_true rfl) (fun J n hJ => ?_)
  show J 0 [some (.ref 99), some (.int x), some (.int p)] [] h (n, 0, 0, false)
  by_cases hx : gbt x 6 = true
  · obtain ⟨r, rfl, hr⟩ := gbt_spec hx
    have egr := gr_nI (r := r) (by omega)
    have hl := hG.2.1 r hr
    have hl8 := hl.2.1
    have hpr := hpt r hr
    refine j_p (nx := 1) hJ dX6_symbol_0 rfl rfl ?_
    refine j_csR (nx := 4) hJ dX6_symbol_1 rfl (r6_isRegister (fl := false) (d := d + 57) _) mX6_139 rfl (gle8 rfl) ?_
    rw [show gbt _ 6 = true from hx]
    refine j_if_ne (nx := 7) (tgt := 10) hJ dX6_symbol_4 rfl (by decide) (fun c4 => ?_) (fun c4 => absurd c4 (by decide))
    refine j_p (nx := 11) hJ dX6_symbol_10 rfl rfl ?_
    refine j_c (nx := 12) hJ dX6_symbol_11 rfl gk_iconst_0 ?_
    refine j_p (nx := 13) hJ dX6_symbol_12 rfl rfl ?_
    refine j_get (nx := 16) hJ dX6_symbol_13 rfl fX6_19 hP.1.1 (by rfl) ?_
    refine j_p (nx := 17) hJ dX6_symbol_16 rfl rfl ?_
    refine j_iald (j := r) (nx := 18) hJ dX6_symbol_17 rfl (show h 101 = some (gia 6 (A 101)) from hP.a 101 (by unfold gia'; omega)) rfl (by omega) (by decide) ?_
    rw [hl.1]
    refine j_c (nx := 19) hJ dX6_symbol_18 rfl gk_iconst_1 ?_
    refine j_p (nx := 20) hJ dX6_symbol_19 rfl rfl ?_
    refine j_csR (nx := 23) hJ dX6_symbol_20 rfl (r6_in (fl := false) (d := d + 58) p 0 (nI (R (5 + 2 * r)).length - 1)) mX6_101 rfl (gle8 rfl) ?_
    rw [gin_ix (by omega)]
    refine j_if_eq (nx := 26) (tgt := 40) hJ dX6_symbol_23 rfl (by decide) (fun c23 => ?_) (fun c23 => ?_)
    · refine j_c (nx := 42) hJ dX6_symbol_40 rfl gk_bipush_m6 ?_
      rw [gb_f] at c23
      have e : s_symbol R (nI r) p = -6 := by unfold s_symbol; rw [if_pos hx, egr, if_pos (gat_f c23)]
      exact j_iret hJ dX6_symbol_42 ⟨by rw [e], ⟨A, E, M, pv, tv, hP, hG⟩⟩
    · rw [gb_t] at c23
      obtain ⟨j, rfl, hj, hgat⟩ := gix_spec c23
      refine j_p (nx := 27) hJ dX6_symbol_26 rfl rfl ?_
      refine j_get (nx := 30) hJ dX6_symbol_27 rfl fX6_15 hP.1.1 (by rfl) ?_
      refine j_c (nx := 32) hJ dX6_symbol_30 rfl gk_bipush_8 ?_
      refine j_p (nx := 33) hJ dX6_symbol_32 rfl rfl ?_
      refine j_p (nx := 34) hJ dX6_symbol_33 rfl rfl ?_
      rw [show (8 : Int32) = nI 8 from rfl, gmul]
      refine j_p (nx := 35) hJ dX6_symbol_34 rfl rfl ?_
      refine j_p (nx := 36) hJ dX6_symbol_35 rfl rfl ?_
      rw [gadd]
      refine j_iald (j := 8 * r + j) (nx := 37) hJ dX6_symbol_36 rfl (show h 100 = some (gia 48 (A 100)) from hP.a 100 (by unfold gia'; omega)) rfl (by omega) (by decide) ?_
      rw [hl.2.2.get hj]
      refine j_go (tgt := 42) hJ dX6_symbol_37 (by decide) ?_
      have hne : ¬ (R (5 + 2 * r)).getD j (-1) = -1 := fun q => by have := (hpr.sy hk3.2 _ (ggetD_mem hj)).1; rw [q] at this; exact absurd this (by decide)
      have e : s_symbol R (nI r) (nI j) = (R (5 + 2 * r)).getD j (-1) := by unfold s_symbol; rw [if_pos hx, egr, hgat, if_neg hne]
      exact j_iret hJ dX6_symbol_42 ⟨by rw [e], ⟨A, E, M, pv, tv, hP, hG⟩⟩
  · refine j_p (nx := 1) hJ dX6_symbol_0 rfl rfl ?_
    refine j_csR (nx := 4) hJ dX6_symbol_1 rfl (r6_isRegister (fl := false) (d := d + 57) _) mX6_139 rfl (gle8 rfl) ?_
    rw [show gbt _ 6 = false from Bool.eq_false_iff.mpr hx]
    refine j_if_ne (nx := 7) (tgt := 10) hJ dX6_symbol_4 rfl (by decide) (fun c4 => absurd c4 (by decide)) (fun c4 => ?_)
    refine j_c (nx := 9) hJ dX6_symbol_7 rfl gk_bipush_m2 ?_
    have e : s_symbol R x p = -2 := if_neg hx
    exact j_iret hJ dX6_symbol_9 ⟨by rw [e], ⟨A, E, M, pv, tv, hP, hG⟩⟩
set_option maxHeartbeats 4000000 in
theorem r6_variables {d : Nat} {h0 h : GH} {A : Nat → Nat → Int32} {E : Nat → Nat → Int64} {M : Nat → Int32} {pv tv : Value} (hP : gP h0 h A E M pv tv) {r : Nat} (hr : r < 6) {l : List Int32} (hl : gSl (A 100) (A 101) r l) : gR false (d + 3) yX6_variables [.ref 99, .int (nI r)] h (.int (nI (gvc l))) := by
  have hl8 := hl.2.1
  refine gN.of MX6_variables (Nat.le_of_ble_eq_true rfl) (fun J n hJ => ?_)
  show J 0 [some (.ref 99), some (.int (nI r))] [] h (n, 0, 0, false)
  refine j_p (nx := 1) hJ dX6_variables_0 rfl rfl ?_
  refine j_get (nx := 4) hJ dX6_variables_1 rfl fX6_15 hP.1.1 (by rfl) ?_
  refine j_c (nx := 6) hJ dX6_variables_4 rfl gk_bipush_8 ?_
  refine j_p (nx := 7) hJ dX6_variables_6 rfl rfl ?_
  refine j_p (nx := 8) hJ dX6_variables_7 rfl rfl ?_
  rw [show (8 : Int32) = nI 8 from rfl, gmul]
  refine j_p (nx := 9) hJ dX6_variables_8 rfl rfl ?_
  refine j_get (nx := 12) hJ dX6_variables_9 rfl fX6_19 hP.1.1 (by rfl) ?_
  refine j_p (nx := 13) hJ dX6_variables_12 rfl rfl ?_
  refine j_iald (j := r) (nx := 14) hJ dX6_variables_13 rfl (show h 101 = some (gia 6 (A 101)) from hP.a 101 (by unfold gia'; omega)) rfl (by omega) (by decide) ?_
  rw [hl.1]
  refine j_csR (nx := 17) hJ dX6_variables_14 rfl (r6_variablesIn (fl := false) (d := d) (show h 100 = some (gia 48 (A 100)) from hP.a 100 (by unfold gia'; omega)) hl.2.2 (by omega) (by omega)) mX6_150 rfl (gle8 rfl) ?_
  exact j_iret hJ dX6_variables_17 ⟨rfl, rfl⟩
set_option maxHeartbeats 4000000 in
theorem r6_variableCount {d : Nat} {h0 h : GH} {R : Nat → List Int32} {N : Nat → Int32} (hS : gRS h0 h R N) (hI : gInv R N) (x : Int32) : gN false (d + 60) yX6_variableCount [.ref 99, .int x] h (fun o h' => o = some (.int (s_variableCount R x)) ∧ gRS h0 h' R N) := by
  obtain ⟨A, E, M, pv, tv, hP, hG⟩ := hS
  have g0 := hG.1.1
  have g9 := hG.1.2.2.1
  obtain ⟨⟨k, ss, hk1, hk3, hss1, hss6, hpt, him, hsm⟩, hI2, hI3, hI4, hI5⟩ := hI
  refine gN.of MX6_variableCount (Nat.le_of_ble_eq_true rfl) (fun J n hJ => ?_)
  show J 0 [some (.ref 99), some (.int x)] [] h (n, 0, 0, false)
  by_cases hx : gbt x 6 = true
  · obtain ⟨r, rfl, hr⟩ := gbt_spec hx
    have egr := gr_nI (r := r) (by omega)
    have hl := hG.2.1 r hr
    have hl8 := hl.2.1
    have hpr := hpt r hr
    refine j_p (nx := 1) hJ dX6_variableCount_0 rfl rfl ?_
    refine j_csR (nx := 4) hJ dX6_variableCount_1 rfl (r6_isRegister (fl := false) (d := d + 57) _) mX6_139 rfl (gle8 rfl) ?_
    rw [show gbt _ 6 = true from hx]
    refine j_if_eq (nx := 7) (tgt := 15) hJ dX6_variableCount_4 rfl (by decide) (fun c4 => absurd c4 (by decide)) (fun c4 => ?_)
    refine j_p (nx := 8) hJ dX6_variableCount_7 rfl rfl ?_
    refine j_p (nx := 9) hJ dX6_variableCount_8 rfl rfl ?_
    refine j_cvR (nx := 12) hJ dX6_variableCount_9 rfl (r6_variables (d := d + 56) hP hr hl) mX6_154 hP.1.1 kX6_variables rfl (gle8 rfl) ?_
    refine j_go (tgt := 17) hJ dX6_variableCount_12 (by decide) ?_
    have e : s_variableCount R (nI r) = nI (gvc (R (5 + 2 * r))) := by unfold s_variableCount; rw [if_pos hx, egr, gvar_nv (hpr.sy hk3.2), gvc_nv (hpr.sy hk3.2) hpr.2.2.2.1]
    exact j_iret hJ dX6_variableCount_17 ⟨by rw [e], ⟨A, E, M, pv, tv, hP, hG⟩⟩
  · refine j_p (nx := 1) hJ dX6_variableCount_0 rfl rfl ?_
    refine j_csR (nx := 4) hJ dX6_variableCount_1 rfl (r6_isRegister (fl := false) (d := d + 57) _) mX6_139 rfl (gle8 rfl) ?_
    rw [show gbt _ 6 = false from Bool.eq_false_iff.mpr hx]
    refine j_if_eq (nx := 7) (tgt := 15) hJ dX6_variableCount_4 rfl (by decide) (fun c4 => ?_) (fun c4 => absurd c4 (by decide))
    refine j_c (nx := 17) hJ dX6_variableCount_15 rfl gk_bipush_m2 ?_
    have e : s_variableCount R x = -2 := if_neg hx
    exact j_iret hJ dX6_variableCount_17 ⟨by rw [e], ⟨A, E, M, pv, tv, hP, hG⟩⟩
def goc (l : List Int32) (v : Int32) : Int32 := if gbt v 4 = true then gcnt (10 + v) l else 0
theorem goc_0 {l : List Int32} (hl : l.length ≤ 1000) {v : Int32} : goc l v = 0 ↔ ghv l v = false := by
  unfold goc ghv
  have hc := List.count_le_length (a := 10 + v) (l := l)
  by_cases h : gbt v 4 = true
  · rw [if_pos h, h, gcnt_nat, gz0 (by omega)]
    have hz : (0 < nI (l.count (10 + v))) ↔ 0 < l.count (10 + v) := gnlt (a := 0) (by omega) (by omega)
    simp only [Bool.true_and, decide_eq_false_iff_not, hz]
    omega
  · rw [if_neg h, Bool.eq_false_iff.mpr h]
    simp
set_option maxHeartbeats 4000000 in
theorem r6_occurs {d : Nat} {h0 h : GH} {A : Nat → Nat → Int32} {E : Nat → Nat → Int64} {M : Nat → Int32} {pv tv : Value} (hP : gP h0 h A E M pv tv) {r : Nat} (hr : r < 6) {l : List Int32} (hl : gSl (A 100) (A 101) r l) (v : Int32) : gR false (d + 2) yX6_occurs [.ref 99, .int (nI r), .int v] h (.int (goc l v)) := by
  have hl8 := hl.2.1
  refine gN.of MX6_occurs (Nat.le_of_ble_eq_true rfl) (fun J n hJ => ?_)
  show J 0 [some (.ref 99), some (.int (nI r)), some (.int v)] [] h (n, 0, 0, false)
  refine j_p (nx := 1) hJ dX6_occurs_0 rfl rfl ?_
  refine j_c (nx := 2) hJ dX6_occurs_1 rfl gk_iconst_0 ?_
  refine j_c (nx := 3) hJ dX6_occurs_2 rfl gk_iconst_3 ?_
  refine j_csR (nx := 6) hJ dX6_occurs_3 rfl (r6_in (fl := false) (d := d) v 0 3) mX6_101 rfl (gle8 rfl) ?_
  rw [show gin v 0 3 = gbt v 4 from gin_bt v 3 (by omega)]
  refine j_if_eq (nx := 9) (tgt := 33) hJ dX6_occurs_6 rfl (by decide) (fun c6 => ?_) (fun c6 => ?_)
  · refine j_c (nx := 34) hJ dX6_occurs_33 rfl gk_iconst_0 ?_
    rw [gb_f] at c6
    have e : goc l v = 0 := if_neg (by rw [c6]; decide)
    exact j_iret hJ dX6_occurs_34 ⟨by rw [e], rfl⟩
  · refine j_c (nx := 11) hJ dX6_occurs_9 rfl gk_bipush_10 ?_
    refine j_p (nx := 12) hJ dX6_occurs_11 rfl rfl ?_
    refine j_p (nx := 13) hJ dX6_occurs_12 rfl rfl ?_
    refine j_p (nx := 14) hJ dX6_occurs_13 rfl rfl ?_
    refine j_get (nx := 17) hJ dX6_occurs_14 rfl fX6_15 hP.1.1 (by rfl) ?_
    refine j_c (nx := 19) hJ dX6_occurs_17 rfl gk_bipush_8 ?_
    refine j_p (nx := 20) hJ dX6_occurs_19 rfl rfl ?_
    refine j_p (nx := 21) hJ dX6_occurs_20 rfl rfl ?_
    rw [show (8 : Int32) = nI 8 from rfl, gmul]
    refine j_p (nx := 22) hJ dX6_occurs_21 rfl rfl ?_
    refine j_get (nx := 25) hJ dX6_occurs_22 rfl fX6_19 hP.1.1 (by rfl) ?_
    refine j_p (nx := 26) hJ dX6_occurs_25 rfl rfl ?_
    refine j_iald (j := r) (nx := 27) hJ dX6_occurs_26 rfl (show h 101 = some (gia 6 (A 101)) from hP.a 101 (by unfold gia'; omega)) rfl (by omega) (by decide) ?_
    rw [hl.1]
    refine j_csR (nx := 30) hJ dX6_occurs_27 rfl (r6_countOf (fl := false) (d := d) (show h 100 = some (gia 48 (A 100)) from hP.a 100 (by unfold gia'; omega)) hl.2.2 (by omega) (by omega) (10 + v)) mX6_146 rfl (gle8 rfl) ?_
    refine j_go (tgt := 34) hJ dX6_occurs_30 (by decide) ?_
    rw [gb_t] at c6
    have e : goc l v = gcnt (10 + v) l := if_pos c6
    exact j_iret hJ dX6_occurs_34 ⟨by rw [e], rfl⟩
set_option maxHeartbeats 4000000 in
theorem r6_occurrences {d : Nat} {h0 h : GH} {R : Nat → List Int32} {N : Nat → Int32} (hS : gRS h0 h R N) (hI : gInv R N) (x v : Int32) : gN false (d + 60) yX6_occurrences [.ref 99, .int x, .int v] h (fun o h' => o = some (.int (s_occurrences R x v)) ∧ gRS h0 h' R N) := by
  obtain ⟨A, E, M, pv, tv, hP, hG⟩ := hS
  have g0 := hG.1.1
  have g9 := hG.1.2.2.1
  obtain ⟨⟨k, ss, hk1, hk3, hss1, hss6, hpt, him, hsm⟩, hI2, hI3, hI4, hI5⟩ := hI
  refine gN.of MX6_occurrences (Nat.le_of_ble_eq_true rfl) (fun J n hJ => ?_)
  show J 0 [some (.ref 99), some (.int x), some (.int v), none] [] h (n, 0, 0, false)
  by_cases hx : gbt x 6 = true
  · obtain ⟨r, rfl, hr⟩ := gbt_spec hx
    have egr := gr_nI (r := r) (by omega)
    have hl := hG.2.1 r hr
    have hl8 := hl.2.1
    have hpr := hpt r hr
    refine j_p (nx := 1) hJ dX6_occurrences_0 rfl rfl ?_
    refine j_csR (nx := 4) hJ dX6_occurrences_1 rfl (r6_isRegister (fl := false) (d := d + 57) _) mX6_139 rfl (gle8 rfl) ?_
    rw [show gbt _ 6 = true from hx]
    refine j_if_ne (nx := 7) (tgt := 10) hJ dX6_occurrences_4 rfl (by decide) (fun c4 => ?_) (fun c4 => absurd c4 (by decide))
    refine j_p (nx := 11) hJ dX6_occurrences_10 rfl rfl ?_
    refine j_p (nx := 12) hJ dX6_occurrences_11 rfl rfl ?_
    refine j_p (nx := 13) hJ dX6_occurrences_12 rfl rfl ?_
    refine j_cvR (nx := 16) hJ dX6_occurrences_13 rfl (r6_occurs (d := d + 57) hP hr hl v) mX6_157 hP.1.1 kX6_occurs rfl (gle8 rfl) ?_
    refine j_p (nx := 17) hJ dX6_occurrences_16 rfl rfl ?_
    refine j_p (nx := 18) hJ dX6_occurrences_17 rfl rfl ?_
    refine j_if_ne (nx := 21) (tgt := 26) hJ dX6_occurrences_18 rfl (by decide) (fun c18 => ?_) (fun c18 => ?_)
    · refine j_p (nx := 27) hJ dX6_occurrences_26 rfl rfl ?_
      rw [goc_0 (by omega), Bool.not_eq_false] at c18
      have hgv : gbt v 4 = true := by unfold ghv at c18; exact (Bool.and_eq_true_iff.mp c18).1
      have e : s_occurrences R (nI r) v = goc (R (5 + 2 * r)) v := by unfold s_occurrences goc; rw [if_pos hx, egr, if_pos c18, if_pos hgv]
      exact j_iret hJ dX6_occurrences_27 ⟨by rw [e], ⟨A, E, M, pv, tv, hP, hG⟩⟩
    · refine j_c (nx := 23) hJ dX6_occurrences_21 rfl gk_bipush_m3 ?_
      refine j_go (tgt := 27) hJ dX6_occurrences_23 (by decide) ?_
      rw [goc_0 (by omega)] at c18
      have e : s_occurrences R (nI r) v = -3 := by unfold s_occurrences; rw [if_pos hx, egr, if_neg (by rw [c18]; decide)]
      exact j_iret hJ dX6_occurrences_27 ⟨by rw [e], ⟨A, E, M, pv, tv, hP, hG⟩⟩
  · refine j_p (nx := 1) hJ dX6_occurrences_0 rfl rfl ?_
    refine j_csR (nx := 4) hJ dX6_occurrences_1 rfl (r6_isRegister (fl := false) (d := d + 57) _) mX6_139 rfl (gle8 rfl) ?_
    rw [show gbt _ 6 = false from Bool.eq_false_iff.mpr hx]
    refine j_if_ne (nx := 7) (tgt := 10) hJ dX6_occurrences_4 rfl (by decide) (fun c4 => absurd c4 (by decide)) (fun c4 => ?_)
    refine j_c (nx := 9) hJ dX6_occurrences_7 rfl gk_bipush_m2 ?_
    have e : s_occurrences R x v = -2 := if_neg hx
    exact j_iret hJ dX6_occurrences_9 ⟨by rw [e], ⟨A, E, M, pv, tv, hP, hG⟩⟩
def glx : List Int32 → List Int32 → Int32 → Int32
  | x :: xs, y :: ys, v => if v = 0 then glx xs ys (y - x) else v
  | _, _, v => v
theorem glx_nz {v : Int32} (h : ¬ v = 0) : ∀ a b : List Int32, glx a b v = v
  | [], _ => by simp [glx]
  | _ :: _, [] => by simp [glx]
  | _ :: _, _ :: _ => by rw [glx, if_neg h]
def gbet (a b : List Int32) : Int32 := if gltr a - gltr b = 0 then glx a b (nI (gvc b) - nI (gvc a)) else gltr a - gltr b
set_option maxHeartbeats 4000000 in
theorem r6_better {d : Nat} {h : GH} {ra na pa rb nb pb : Nat} {f g : Nat → Int32} {a b : List Int32} (ha : h ra = some (gia na f)) (hSa : gSt f pa a) (hna : pa + a.length ≤ na) (hn1 : na ≤ 1000) (hb : h rb = some (gia nb g)) (hSb : gSt g pb b) (hnb : pb + b.length ≤ nb) (hn2 : nb ≤ 1000) (hab : a.length = b.length) : gR false (d + 3) yX6_better [.ref ra, .int (nI pa), .ref rb, .int (nI pb), .int (nI a.length)] h (.int (gbet a b)) := by
  refine gN.of MX6_better (Nat.le_of_ble_eq_true rfl) (fun J n hJ => ?_)
  show J 0 [some (.ref ra), some (.int (nI pa)), some (.ref rb), some (.int (nI pb)), some (.int (nI a.length)), none, none, none] [] h (n, 0, 0, false)
  refine j_p (nx := 1) hJ dX6_better_0 rfl rfl ?_
  refine j_p (nx := 2) hJ dX6_better_1 rfl rfl ?_
  refine j_p (nx := 4) hJ dX6_better_2 rfl rfl ?_
  refine j_csR (nx := 7) hJ dX6_better_4 rfl (r6_lettersIn (fl := false) (d := d + 1) ha hSa hna hn1) mX6_160 rfl (gle8 rfl) ?_
  refine j_p (nx := 8) hJ dX6_better_7 rfl rfl ?_
  refine j_p (nx := 9) hJ dX6_better_8 rfl rfl ?_
  refine j_p (nx := 11) hJ dX6_better_9 rfl rfl ?_
  rw [hab]
  refine j_csR (nx := 14) hJ dX6_better_11 rfl (r6_lettersIn (fl := false) (d := d + 1) hb hSb hnb hn2) mX6_160 rfl (gle8 rfl) ?_
  rw [← hab]
  refine j_p (nx := 15) hJ dX6_better_14 rfl rfl ?_
  refine j_p (nx := 17) hJ dX6_better_15 rfl rfl ?_
  refine j_p (nx := 19) hJ dX6_better_17 rfl rfl ?_
  refine j_if_eq (nx := 22) (tgt := 25) hJ dX6_better_19 rfl (by decide) (fun c19 => ?_) (fun c19 => ?_)
  · refine j_p (nx := 26) hJ dX6_better_25 rfl rfl ?_
    refine j_p (nx := 27) hJ dX6_better_26 rfl rfl ?_
    refine j_p (nx := 29) hJ dX6_better_27 rfl rfl ?_
    rw [hab]
    refine j_csR (nx := 32) hJ dX6_better_29 rfl (r6_variablesIn (fl := false) (d := d) hb hSb hnb hn2) mX6_150 rfl (gle8 rfl) ?_
    rw [← hab]
    refine j_p (nx := 33) hJ dX6_better_32 rfl rfl ?_
    refine j_p (nx := 34) hJ dX6_better_33 rfl rfl ?_
    refine j_p (nx := 36) hJ dX6_better_34 rfl rfl ?_
    refine j_csR (nx := 39) hJ dX6_better_36 rfl (r6_variablesIn (fl := false) (d := d) ha hSa hna hn1) mX6_150 rfl (gle8 rfl) ?_
    refine j_p (nx := 40) hJ dX6_better_39 rfl rfl ?_
    refine j_p (nx := 42) hJ dX6_better_40 rfl rfl ?_
    refine j_c (nx := 43) hJ dX6_better_42 rfl gk_iconst_0 ?_
    refine j_p (nx := 45) hJ dX6_better_43 rfl rfl ?_
    have e0 : gbet a b = glx a b (nI (gvc b) - nI (gvc a)) := if_pos c19
    have loop : ∀ i, i ≤ a.length → ∀ v : Int32, glx a b (nI (gvc b) - nI (gvc a)) = glx (a.drop i) (b.drop i) v → J 45 [some (.ref ra), some (.int (nI pa)), some (.ref rb), some (.int (nI pb)), some (.int (nI a.length)), some (.int (gltr a - gltr b)), some (.int v), some (.int (nI i))] [] h (n, 0, 0, false) := by
      refine gloop _ _ (fun i hi ih v hg => ?_)
      refine j_p (nx := 47) hJ dX6_better_45 rfl rfl ?_
      refine j_p (nx := 49) hJ dX6_better_47 rfl rfl ?_
      refine j_ic_ge (nx := 52) (tgt := 78) hJ dX6_better_49 rfl (by decide) (fun c49 => ?_) (fun c49 => ?_)
      · refine j_p (nx := 80) hJ dX6_better_78 rfl rfl ?_
        first | (rw [gnle (by omega) (by omega)] at c49) | skip
        have e : glx a b (nI (gvc b) - nI (gvc a)) = v := by rw [hg]; first | exact glx_nz c54 _ _ | (rw [List.drop_eq_nil_of_le (by omega)]; simp [glx])
        exact j_iret hJ dX6_better_80 ⟨by rw [e0, e], rfl⟩
      · rw [gnle (by omega) (by omega)] at c49
        have hil : i < a.length := by omega
        refine j_p (nx := 54) hJ dX6_better_52 rfl rfl ?_
        refine j_if_ne (nx := 57) (tgt := 78) hJ dX6_better_54 rfl (by decide) (fun c54 => ?_) (fun c54 => ?_)
        · refine j_p (nx := 80) hJ dX6_better_78 rfl rfl ?_
          first | (rw [gnle (by omega) (by omega)] at c49) | skip
          have e : glx a b (nI (gvc b) - nI (gvc a)) = v := by rw [hg]; first | exact glx_nz c54 _ _ | (rw [List.drop_eq_nil_of_le (by omega)]; simp [glx])
          exact j_iret hJ dX6_better_80 ⟨by rw [e0, e], rfl⟩
        · rw [gdropD hil, gdropD (l := b) (by omega)] at hg
          have hg : _ = if v = 0 then _ else v := hg
          rw [if_pos c54] at hg
          refine j_p (nx := 58) hJ dX6_better_57 rfl rfl ?_
          refine j_p (nx := 59) hJ dX6_better_58 rfl rfl ?_
          refine j_p (nx := 61) hJ dX6_better_59 rfl rfl ?_
          refine j_p (nx := 62) hJ dX6_better_61 rfl rfl ?_
          rw [gadd]
          refine j_iald (j := pb + i) (nx := 63) hJ dX6_better_62 rfl hb rfl (by omega) (by omega) ?_
          rw [hSb.get (by omega)]
          refine j_p (nx := 64) hJ dX6_better_63 rfl rfl ?_
          refine j_p (nx := 65) hJ dX6_better_64 rfl rfl ?_
          refine j_p (nx := 67) hJ dX6_better_65 rfl rfl ?_
          refine j_p (nx := 68) hJ dX6_better_67 rfl rfl ?_
          rw [gadd]
          refine j_iald (j := pa + i) (nx := 69) hJ dX6_better_68 rfl ha rfl (by omega) (by omega) ?_
          rw [hSa.get hil]
          refine j_p (nx := 70) hJ dX6_better_69 rfl rfl ?_
          refine j_p (nx := 72) hJ dX6_better_70 rfl rfl ?_
          refine j_inc (nx := 75) hJ dX6_better_72 rfl rfl (gi1 i) rfl ?_
          refine j_go (tgt := 45) hJ dX6_better_75 (by decide) ?_
          exact ih hil _ hg
    exact loop 0 (Nat.zero_le _) _ rfl
  · refine j_p (nx := 24) hJ dX6_better_22 rfl rfl ?_
    have e0 : gbet a b = gltr a - gltr b := if_neg c19
    exact j_iret hJ dX6_better_24 ⟨by rw [e0], rfl⟩
