theorem gcan_len (l : List Int32) : (gcan l).length = l.length := gcanS_len _ _
set_option maxHeartbeats 4000000 in
theorem r_store {fl : Bool} {d : Nat} {h0 h : GH} {R : Nat → List Int32} {N : Nat → Int32} (hQ : gQ h0 h R N) {r : Nat} (hr : r < 6) {q : Nat} (hq : gisR q) (hq1 : q ≠ 73) (hq2 : q < 88) : gN fl (d + 3) yX5_store [.ref 0, .int (nI r), .ref q] h (fun o h' => o = some (.int (nI (R q).length)) ∧ gQ h0 h' (gU R (5 + 2 * r) (R q)) N) := by
  have q0 := hQ.1.1
  have q1 := hQ.1.2.1.1
  have q2 := hQ.1.2.1.2.1
  have q3 := hQ.1.2.1.2.2.1
  have q4 := hQ.1.2.1.2.2.2
  have q75 := hQ.1.2.2.2.1
  have q80 := hQ.1.2.2.2.2.2.1.1
  obtain ⟨_, _, _, _, _, _, q76x⟩ := id hQ.1.2.2.2.2.2.2.1
  have q76 := q76x.1
  have hW := hQ.r8 hq hq1 hq2
  have hWr := hW.2.2.2.1
  refine gN.of MX5_store (Nat.le_of_ble_eq_true rfl) (fun J n hJ => ?_)
  show J 0 [some (.ref 0), some (.int (nI r)), some (.ref q)] [] h (n, 0, 0, fl)
  by_cases hne : q = 5 + 2 * r
  · subst hne
    refine j_p (nx := 1) hJ dX5_store_0 rfl rfl ?_
    refine j_get (nx := 4) hJ dX5_store_1 rfl fX5_12 (by repeat (first | assumption | exact gup_same _ _ _ | rw [gup_ne _ _ (by first | decide | assumption | omega)])) (by rfl) ?_
    refine j_get (nx := 7) hJ dX5_store_4 rfl fX5_119 (by repeat (first | assumption | exact gup_same _ _ _ | rw [gup_ne _ _ (by first | decide | assumption | omega)])) (by rfl) ?_
    refine j_p (nx := 8) hJ dX5_store_7 rfl rfl ?_
    refine j_aald (j := r) (nx := 9) hJ dX5_store_8 rfl q2 rfl (by omega) (by decide) (by decide) rfl ?_
    have hR := hQ.r8 (r := 5 + 2 * r) (by unfold gisR; omega) (by omega) (by omega)
    have hRr := hR.2.2.2.1
    refine j_p (nx := 10) hJ dX5_store_9 rfl rfl ?_
    refine j_cv (nx := 13) hJ dX5_store_10 rfl (r_setToSelf (fl := fl) (d := d) hR) mX5_143 (by repeat (first | assumption | exact gup_same _ _ _ | rw [gup_ne _ _ (by first | decide | assumption | omega)])) kX2_setTo rfl (gle8 rfl) (fun o h2 hp => ?_)
    obtain ⟨rfl, hR2, hF2⟩ := hp
    have hQ2 := hQ.row8 (r := 5 + 2 * r) (by unfold gisR; omega) (by omega) (by omega) hR2 hF2
    have hq2 := hQ2.r (r := 5 + 2 * r) hq
    have hq2r := hq2.2.2.2.1
    rw [gU_s] at hq2r
    refine j_p (nx := 14) hJ dX5_store_13 rfl rfl ?_
    refine j_get (nx := 17) hJ dX5_store_14 rfl fX5_68 (by repeat (first | assumption | exact gup_same _ _ _ | rw [gup_ne _ _ (by first | decide | assumption | omega)])) (by rfl) ?_
    exact j_iret hJ dX5_store_17 ⟨rfl, hQ2⟩
  · have hq9 := hq
    unfold gisR at hq9
    refine j_p (nx := 1) hJ dX5_store_0 rfl rfl ?_
    refine j_get (nx := 4) hJ dX5_store_1 rfl fX5_12 (by repeat (first | assumption | exact gup_same _ _ _ | rw [gup_ne _ _ (by first | decide | assumption | omega)])) (by rfl) ?_
    refine j_get (nx := 7) hJ dX5_store_4 rfl fX5_119 (by repeat (first | assumption | exact gup_same _ _ _ | rw [gup_ne _ _ (by first | decide | assumption | omega)])) (by rfl) ?_
    refine j_p (nx := 8) hJ dX5_store_7 rfl rfl ?_
    refine j_aald (j := r) (nx := 9) hJ dX5_store_8 rfl q2 rfl (by omega) (by decide) (by decide) rfl ?_
    have hR := hQ.r8 (r := 5 + 2 * r) (by unfold gisR; omega) (by omega) (by omega)
    have hRr := hR.2.2.2.1
    refine j_p (nx := 10) hJ dX5_store_9 rfl rfl ?_
    refine j_cv (nx := 13) hJ dX5_store_10 rfl (r_setTo (fl := fl) (d := d) hR hW ⟨by omega, by omega, by omega, by omega⟩ hW.2.1) mX5_143 (by repeat (first | assumption | exact gup_same _ _ _ | rw [gup_ne _ _ (by first | decide | assumption | omega)])) kX2_setTo rfl (gle8 rfl) (fun o h2 hp => ?_)
    obtain ⟨rfl, hR2, hF2⟩ := hp
    have hQ2 := hQ.row8 (r := 5 + 2 * r) (by unfold gisR; omega) (by omega) (by omega) hR2 hF2
    have hq2 := hQ2.r (r := q) hq
    have hq2r := hq2.2.2.2.1
    rw [gU_n _ _ hne] at hq2r
    refine j_p (nx := 14) hJ dX5_store_13 rfl rfl ?_
    refine j_get (nx := 17) hJ dX5_store_14 rfl fX5_68 (by repeat (first | assumption | exact gup_same _ _ _ | rw [gup_ne _ _ (by first | decide | assumption | omega)])) (by rfl) ?_
    exact j_iret hJ dX5_store_17 ⟨rfl, hQ2⟩
set_option maxHeartbeats 4000000 in
theorem r_setPattern {fl : Bool} {d : Nat} {h0 h : GH} {R : Nat → List Int32} {N : Nat → Int32} (hQ : gQ h0 h R N) (x : Int32) : gN fl (d + 60) yX5_setPattern [.ref 0, .int x] h (fun o h' => o = some (.int (s_setPattern R N x).1) ∧ gC h0 h' (s_setPattern R N x).2.1 (s_setPattern R N x).2.2) := by
  have q0 := hQ.1.1
  have q1 := hQ.1.2.1.1
  have q2 := hQ.1.2.1.2.1
  have q3 := hQ.1.2.1.2.2.1
  have q4 := hQ.1.2.1.2.2.2
  have q75 := hQ.1.2.2.2.1
  have q80 := hQ.1.2.2.2.2.2.1.1
  obtain ⟨_, _, _, _, _, _, q76x⟩ := id hQ.1.2.2.2.2.2.2.1
  have q76 := q76x.1
  refine gN.of MX5_setPattern (Nat.le_of_ble_eq_true rfl) (fun J n hJ => ?_)
  show J 0 [some (.ref 0), some (.int x), none] [] h (n, 0, 0, fl)
  by_cases hx : gbt x 6 = true
  · obtain ⟨r, rfl, hr⟩ := gbt_spec hx
    have egr := gr_nI (r := r) (by omega)
    refine j_p (nx := 1) hJ dX5_setPattern_0 rfl rfl ?_
    refine j_cv (nx := 4) hJ dX5_setPattern_1 rfl (r_takePattern (fl := fl) (d := d + 52) hQ) mX5_108 (by repeat (first | assumption | exact gup_same _ _ _ | rw [gup_ne _ _ (by first | decide | assumption | omega)])) kX5_takePattern rfl (gle8 rfl) (fun o h1 hp => ?_)
    obtain ⟨rfl, l, hQ1, hl⟩ := hp
    have q01 := hQ1.1.1
    refine j_p (nx := 5) hJ dX5_setPattern_4 rfl rfl ?_
    refine j_p (nx := 6) hJ dX5_setPattern_5 rfl rfl ?_
    refine j_csR (nx := 9) hJ dX5_setPattern_6 rfl (r_isRegister (fl := fl) (d := d + 58) _) mX5_112 rfl (gle8 rfl) ?_
    rw [show gbt _ 6 = true from hx]
    refine j_if_ne (nx := 12) (tgt := 15) hJ dX5_setPattern_9 rfl (by decide) (fun c9 => ?_) (fun c9 => absurd c9 (by decide))
    refine j_p (nx := 16) hJ dX5_setPattern_15 rfl rfl ?_
    refine j_if_ne (nx := 19) (tgt := 22) hJ dX5_setPattern_16 rfl (by decide) (fun c16 => ?_) (fun c16 => ?_)
    rotate_left
    · have hg := gsome_f c16
      have e : s_setPattern R N (nI r) = (-5, gU R 73 [], N) := by unfold s_setPattern; rw [if_pos hx, hg]
      refine j_c (nx := 21) hJ dX5_setPattern_19 rfl gk_bipush_m5 ?_
      exact j_iret hJ dX5_setPattern_21 ⟨by rw [e], by rw [e]; exact hQ1.cc (fun a p1 p2 p3 => by simp [gU, p1, p2, p3]) (fun _ _ => rfl)⟩
    obtain ⟨y, hg⟩ := gsome_t c16
    have hly := hl y hg
    subst hly
    refine j_p (nx := 23) hJ dX5_setPattern_22 rfl rfl ?_
    refine j_p (nx := 24) hJ dX5_setPattern_23 rfl rfl ?_
    refine j_p (nx := 25) hJ dX5_setPattern_24 rfl rfl ?_
    refine j_get (nx := 28) hJ dX5_setPattern_25 rfl fX5_54 (by repeat (first | assumption | exact gup_same _ _ _ | rw [gup_ne _ _ (by first | decide | assumption | omega)])) (by rfl) ?_
    refine j_cv (nx := 31) hJ dX5_setPattern_28 rfl (r_store (fl := fl) (d := d + 56) hQ1 hr (q := 83) (by unfold gisR; omega) (by omega) (by omega)) mX5_115 (by repeat (first | assumption | exact gup_same _ _ _ | rw [gup_ne _ _ (by first | decide | assumption | omega)])) kX5_store rfl (gle8 rfl) (fun o h2 hp => ?_)
    obtain ⟨rfl, hQ2⟩ := hp
    have e : s_setPattern R N (nI r) = (nI l.length, gU (gU R 73 []) (5 + 2 * r) l, N) := by unfold s_setPattern; rw [if_pos hx, hg, egr]
    exact j_iret hJ dX5_setPattern_31 ⟨by rw [e]; rfl, by rw [e]; exact hQ2.cc (fun a p1 p2 p3 => by simp [gU, p1, p2, p3]) (fun _ _ => rfl)⟩
  · refine j_p (nx := 1) hJ dX5_setPattern_0 rfl rfl ?_
    refine j_cv (nx := 4) hJ dX5_setPattern_1 rfl (r_takePattern (fl := fl) (d := d + 52) hQ) mX5_108 (by repeat (first | assumption | exact gup_same _ _ _ | rw [gup_ne _ _ (by first | decide | assumption | omega)])) kX5_takePattern rfl (gle8 rfl) (fun o h1 hp => ?_)
    obtain ⟨rfl, l, hQ1, hl⟩ := hp
    have q01 := hQ1.1.1
    refine j_p (nx := 5) hJ dX5_setPattern_4 rfl rfl ?_
    refine j_p (nx := 6) hJ dX5_setPattern_5 rfl rfl ?_
    refine j_csR (nx := 9) hJ dX5_setPattern_6 rfl (r_isRegister (fl := fl) (d := d + 58) _) mX5_112 rfl (gle8 rfl) ?_
    rw [show gbt _ 6 = false from Bool.eq_false_iff.mpr hx]
    refine j_if_ne (nx := 12) (tgt := 15) hJ dX5_setPattern_9 rfl (by decide) (fun c9 => absurd c9 (by decide)) (fun c9 => ?_)
    refine j_c (nx := 14) hJ dX5_setPattern_12 rfl gk_bipush_m2 ?_
    have e : s_setPattern R N x = (-2, gU R 73 [], N) := if_neg hx
    exact j_iret hJ dX5_setPattern_14 ⟨by rw [e], by rw [e]; exact hQ1.cc (fun a p1 p2 p3 => by simp [gU, p1, p2, p3]) (fun _ _ => rfl)⟩
set_option maxHeartbeats 4000000 in
theorem r_copy {fl : Bool} {d : Nat} {h0 h : GH} {R : Nat → List Int32} {N : Nat → Int32} (hQ : gQ h0 h R N) (x y : Int32) : gN fl (d + 60) yX5_copy [.ref 0, .int x, .int y] h (fun o h' => o = some (.int (s_copy R N x y).1) ∧ gC h0 h' (s_copy R N x y).2.1 (s_copy R N x y).2.2) := by
  have q0 := hQ.1.1
  have q1 := hQ.1.2.1.1
  have q2 := hQ.1.2.1.2.1
  have q3 := hQ.1.2.1.2.2.1
  have q4 := hQ.1.2.1.2.2.2
  have q75 := hQ.1.2.2.2.1
  have q80 := hQ.1.2.2.2.2.2.1.1
  obtain ⟨_, _, _, _, _, _, q76x⟩ := id hQ.1.2.2.2.2.2.2.1
  have q76 := q76x.1
  refine gN.of MX5_copy (Nat.le_of_ble_eq_true rfl) (fun J n hJ => ?_)
  show J 0 [some (.ref 0), some (.int x), some (.int y)] [] h (n, 0, 0, fl)
  by_cases hx : gbt x 6 = true
  · obtain ⟨r, rfl, hr⟩ := gbt_spec hx
    have egr := gr_nI (r := r) (by omega)
    by_cases hy : gbt y 6 = true
    · obtain ⟨s, rfl, hs⟩ := gbt_spec hy
      have egs := gr_nI (r := s) (by omega)
      refine j_p (nx := 1) hJ dX5_copy_0 rfl rfl ?_
      refine j_csR (nx := 4) hJ dX5_copy_1 rfl (r_isRegister (fl := fl) (d := d + 58) _) mX5_112 rfl (gle8 rfl) ?_
      rw [show gbt _ 6 = true from hx]
      refine j_if_eq (nx := 7) (tgt := 14) hJ dX5_copy_4 rfl (by decide) (fun c4 => absurd c4 (by decide)) (fun c4 => ?_)
      refine j_p (nx := 8) hJ dX5_copy_7 rfl rfl ?_
      refine j_csR (nx := 11) hJ dX5_copy_8 rfl (r_isRegister (fl := fl) (d := d + 58) _) mX5_112 rfl (gle8 rfl) ?_
      rw [show gbt _ 6 = true from hy]
      refine j_if_ne (nx := 14) (tgt := 17) hJ dX5_copy_11 rfl (by decide) (fun c11 => ?_) (fun c11 => absurd c11 (by decide))
      refine j_p (nx := 18) hJ dX5_copy_17 rfl rfl ?_
      refine j_p (nx := 19) hJ dX5_copy_18 rfl rfl ?_
      refine j_p (nx := 20) hJ dX5_copy_19 rfl rfl ?_
      refine j_get (nx := 23) hJ dX5_copy_20 rfl fX5_12 (by repeat (first | assumption | exact gup_same _ _ _ | rw [gup_ne _ _ (by first | decide | assumption | omega)])) (by rfl) ?_
      refine j_get (nx := 26) hJ dX5_copy_23 rfl fX5_119 (by repeat (first | assumption | exact gup_same _ _ _ | rw [gup_ne _ _ (by first | decide | assumption | omega)])) (by rfl) ?_
      refine j_p (nx := 27) hJ dX5_copy_26 rfl rfl ?_
      refine j_aald (j := s) (nx := 28) hJ dX5_copy_27 rfl q2 rfl (by omega) (by decide) (by decide) rfl ?_
      have hS := hQ.r8 (r := 5 + 2 * s) (by unfold gisR; omega) (by omega) (by omega)
      have hSr := hS.2.2.2.1
      refine j_cv (nx := 31) hJ dX5_copy_28 rfl (r_store (fl := fl) (d := d + 56) hQ hr (q := 5 + 2 * s) (by unfold gisR; omega) (by omega) (by omega)) mX5_115 (by repeat (first | assumption | exact gup_same _ _ _ | rw [gup_ne _ _ (by first | decide | assumption | omega)])) kX5_store rfl (gle8 rfl) (fun o h2 hp => ?_)
      obtain ⟨rfl, hQ2⟩ := hp
      have e : s_copy R N (nI r) (nI s) = (nI (R (5 + 2 * s)).length, gU R (5 + 2 * r) (R (5 + 2 * s)), N) := by unfold s_copy; rw [if_pos ⟨hx, hy⟩, egr, egs]
      exact j_iret hJ dX5_copy_31 ⟨by rw [e], by rw [e]; exact hQ2.c⟩
    · refine j_p (nx := 1) hJ dX5_copy_0 rfl rfl ?_
      refine j_csR (nx := 4) hJ dX5_copy_1 rfl (r_isRegister (fl := fl) (d := d + 58) _) mX5_112 rfl (gle8 rfl) ?_
      rw [show gbt _ 6 = true from hx]
      refine j_if_eq (nx := 7) (tgt := 14) hJ dX5_copy_4 rfl (by decide) (fun c4 => absurd c4 (by decide)) (fun c4 => ?_)
      refine j_p (nx := 8) hJ dX5_copy_7 rfl rfl ?_
      refine j_csR (nx := 11) hJ dX5_copy_8 rfl (r_isRegister (fl := fl) (d := d + 58) _) mX5_112 rfl (gle8 rfl) ?_
      rw [show gbt _ 6 = false from Bool.eq_false_iff.mpr hy]
      refine j_if_ne (nx := 14) (tgt := 17) hJ dX5_copy_11 rfl (by decide) (fun c11 => absurd c11 (by decide)) (fun c11 => ?_)
      refine j_c (nx := 16) hJ dX5_copy_14 rfl gk_bipush_m2 ?_
      have e : s_copy R N (nI r) y = (-2, R, N) := if_neg (fun q => hy q.2)
      exact j_iret hJ dX5_copy_16 ⟨by rw [e], by rw [e]; exact hQ.c⟩
  · refine j_p (nx := 1) hJ dX5_copy_0 rfl rfl ?_
    refine j_csR (nx := 4) hJ dX5_copy_1 rfl (r_isRegister (fl := fl) (d := d + 58) _) mX5_112 rfl (gle8 rfl) ?_
    rw [show gbt _ 6 = false from Bool.eq_false_iff.mpr hx]
    refine j_if_eq (nx := 7) (tgt := 14) hJ dX5_copy_4 rfl (by decide) (fun c4 => ?_) (fun c4 => absurd c4 (by decide))
    refine j_c (nx := 16) hJ dX5_copy_14 rfl gk_bipush_m2 ?_
    have e : s_copy R N x y = (-2, R, N) := if_neg (fun q => hx q.1)
    exact j_iret hJ dX5_copy_16 ⟨by rw [e], by rw [e]; exact hQ.c⟩
set_option maxHeartbeats 4000000 in
theorem r_length {fl : Bool} {d : Nat} {h0 h : GH} {R : Nat → List Int32} {N : Nat → Int32} (hQ : gQ h0 h R N) (x : Int32) : gN fl (d + 60) yX5_length [.ref 0, .int x] h (fun o h' => o = some (.int (s_length R x)) ∧ gC h0 h' R N) := by
  have q0 := hQ.1.1
  have q1 := hQ.1.2.1.1
  have q2 := hQ.1.2.1.2.1
  have q3 := hQ.1.2.1.2.2.1
  have q4 := hQ.1.2.1.2.2.2
  have q75 := hQ.1.2.2.2.1
  have q80 := hQ.1.2.2.2.2.2.1.1
  obtain ⟨_, _, _, _, _, _, q76x⟩ := id hQ.1.2.2.2.2.2.2.1
  have q76 := q76x.1
  refine gN.of MX5_length (Nat.le_of_ble_eq_true rfl) (fun J n hJ => ?_)
  show J 0 [some (.ref 0), some (.int x)] [] h (n, 0, 0, fl)
  by_cases hx : gbt x 6 = true
  · obtain ⟨r, rfl, hr⟩ := gbt_spec hx
    have egr := gr_nI (r := r) (by omega)
    refine j_p (nx := 1) hJ dX5_length_0 rfl rfl ?_
    refine j_csR (nx := 4) hJ dX5_length_1 rfl (r_isRegister (fl := fl) (d := d + 58) _) mX5_112 rfl (gle8 rfl) ?_
    rw [show gbt _ 6 = true from hx]
    refine j_if_eq (nx := 7) (tgt := 22) hJ dX5_length_4 rfl (by decide) (fun c4 => absurd c4 (by decide)) (fun c4 => ?_)
    refine j_p (nx := 8) hJ dX5_length_7 rfl rfl ?_
    refine j_get (nx := 11) hJ dX5_length_8 rfl fX5_12 (by repeat (first | assumption | exact gup_same _ _ _ | rw [gup_ne _ _ (by first | decide | assumption | omega)])) (by rfl) ?_
    refine j_get (nx := 14) hJ dX5_length_11 rfl fX5_119 (by repeat (first | assumption | exact gup_same _ _ _ | rw [gup_ne _ _ (by first | decide | assumption | omega)])) (by rfl) ?_
    refine j_p (nx := 15) hJ dX5_length_14 rfl rfl ?_
    refine j_aald (j := r) (nx := 16) hJ dX5_length_15 rfl q2 rfl (by omega) (by decide) (by decide) rfl ?_
    have hR := hQ.r8 (r := 5 + 2 * r) (by unfold gisR; omega) (by omega) (by omega)
    have hRr := hR.2.2.2.1
    refine j_get (nx := 19) hJ dX5_length_16 rfl fX5_68 (by repeat (first | assumption | exact gup_same _ _ _ | rw [gup_ne _ _ (by first | decide | assumption | omega)])) (by rfl) ?_
    refine j_go (tgt := 24) hJ dX5_length_19 (by decide) ?_
    have e : s_length R (nI r) = nI (R (5 + 2 * r)).length := by unfold s_length; rw [if_pos hx, egr]
    exact j_iret hJ dX5_length_24 ⟨by rw [e], hQ.c⟩
  · refine j_p (nx := 1) hJ dX5_length_0 rfl rfl ?_
    refine j_csR (nx := 4) hJ dX5_length_1 rfl (r_isRegister (fl := fl) (d := d + 58) _) mX5_112 rfl (gle8 rfl) ?_
    rw [show gbt _ 6 = false from Bool.eq_false_iff.mpr hx]
    refine j_if_eq (nx := 7) (tgt := 22) hJ dX5_length_4 rfl (by decide) (fun c4 => ?_) (fun c4 => absurd c4 (by decide))
    refine j_c (nx := 24) hJ dX5_length_22 rfl gk_bipush_m2 ?_
    have e : s_length R x = -2 := if_neg hx
    exact j_iret hJ dX5_length_24 ⟨by rw [e], hQ.c⟩
set_option maxHeartbeats 4000000 in
theorem r_symbol {fl : Bool} {d : Nat} {h0 h : GH} {R : Nat → List Int32} {N : Nat → Int32} (hQ : gQ h0 h R N) (x p : Int32) : gN fl (d + 60) yX5_symbol [.ref 0, .int x, .int p] h (fun o h' => o = some (.int (s_symbol R x p)) ∧ gC h0 h' R N) := by
  have q0 := hQ.1.1
  have q1 := hQ.1.2.1.1
  have q2 := hQ.1.2.1.2.1
  have q3 := hQ.1.2.1.2.2.1
  have q4 := hQ.1.2.1.2.2.2
  have q75 := hQ.1.2.2.2.1
  have q80 := hQ.1.2.2.2.2.2.1.1
  obtain ⟨_, _, _, _, _, _, q76x⟩ := id hQ.1.2.2.2.2.2.2.1
  have q76 := q76x.1
  refine gN.of MX5_symbol (Nat.le_of_ble_eq_true rfl) (fun J n hJ => ?_)
  show J 0 [some (.ref 0), some (.int x), some (.int p), none] [] h (n, 0, 0, fl)
  by_cases hx : gbt x 6 = true
  · obtain ⟨r, rfl, hr⟩ := gbt_spec hx
    have egr := gr_nI (r := r) (by omega)
    refine j_p (nx := 1) hJ dX5_symbol_0 rfl rfl ?_
    refine j_csR (nx := 4) hJ dX5_symbol_1 rfl (r_isRegister (fl := fl) (d := d + 58) _) mX5_112 rfl (gle8 rfl) ?_
    rw [show gbt _ 6 = true from hx]
    refine j_if_ne (nx := 7) (tgt := 10) hJ dX5_symbol_4 rfl (by decide) (fun c4 => ?_) (fun c4 => absurd c4 (by decide))
    refine j_p (nx := 11) hJ dX5_symbol_10 rfl rfl ?_
    refine j_get (nx := 14) hJ dX5_symbol_11 rfl fX5_12 (by repeat (first | assumption | exact gup_same _ _ _ | rw [gup_ne _ _ (by first | decide | assumption | omega)])) (by rfl) ?_
    refine j_get (nx := 17) hJ dX5_symbol_14 rfl fX5_119 (by repeat (first | assumption | exact gup_same _ _ _ | rw [gup_ne _ _ (by first | decide | assumption | omega)])) (by rfl) ?_
    refine j_p (nx := 18) hJ dX5_symbol_17 rfl rfl ?_
    refine j_aald (j := r) (nx := 19) hJ dX5_symbol_18 rfl q2 rfl (by omega) (by decide) (by decide) rfl ?_
    have hR := hQ.r8 (r := 5 + 2 * r) (by unfold gisR; omega) (by omega) (by omega)
    have hRr := hR.2.2.2.1
    refine j_p (nx := 20) hJ dX5_symbol_19 rfl rfl ?_
    refine j_cvR (nx := 23) hJ dX5_symbol_20 rfl (r_at (fl := fl) (d := d + 58) hR p) mX5_92 (by repeat (first | assumption | exact gup_same _ _ _ | rw [gup_ne _ _ (by first | decide | assumption | omega)])) kX2_at rfl (gle8 rfl) ?_
    refine j_p (nx := 24) hJ dX5_symbol_23 rfl rfl ?_
    refine j_p (nx := 25) hJ dX5_symbol_24 rfl rfl ?_
    refine j_c (nx := 26) hJ dX5_symbol_25 rfl gk_iconst_m1 ?_
    refine j_ic_ne (nx := 29) (tgt := 34) hJ dX5_symbol_26 rfl (by decide) (fun c26 => ?_) (fun c26 => ?_)
    · refine j_p (nx := 35) hJ dX5_symbol_34 rfl rfl ?_
      have e : s_symbol R (nI r) p = gat (R (5 + 2 * r)) p := by unfold s_symbol; rw [if_pos hx, egr, if_neg c26]
      exact j_iret hJ dX5_symbol_35 ⟨by rw [e], hQ.c⟩
    · refine j_c (nx := 31) hJ dX5_symbol_29 rfl gk_bipush_m6 ?_
      refine j_go (tgt := 35) hJ dX5_symbol_31 (by decide) ?_
      have e : s_symbol R (nI r) p = -6 := by unfold s_symbol; rw [if_pos hx, egr, if_pos c26]
      exact j_iret hJ dX5_symbol_35 ⟨by rw [e], hQ.c⟩
  · refine j_p (nx := 1) hJ dX5_symbol_0 rfl rfl ?_
    refine j_csR (nx := 4) hJ dX5_symbol_1 rfl (r_isRegister (fl := fl) (d := d + 58) _) mX5_112 rfl (gle8 rfl) ?_
    rw [show gbt _ 6 = false from Bool.eq_false_iff.mpr hx]
    refine j_if_ne (nx := 7) (tgt := 10) hJ dX5_symbol_4 rfl (by decide) (fun c4 => absurd c4 (by decide)) (fun c4 => ?_)
    refine j_c (nx := 9) hJ dX5_symbol_7 rfl gk_bipush_m2 ?_
    have e : s_symbol R x p = -2 := if_neg hx
    exact j_iret hJ dX5_symbol_9 ⟨by rw [e], hQ.c⟩
set_option maxHeartbeats 4000000 in
theorem r_variableCount {fl : Bool} {d : Nat} {h0 h : GH} {R : Nat → List Int32} {N : Nat → Int32} (hQ : gQ h0 h R N) (x : Int32) : gN fl (d + 60) yX5_variableCount [.ref 0, .int x] h (fun o h' => o = some (.int (s_variableCount R x)) ∧ gC h0 h' R N) := by
  have q0 := hQ.1.1
  have q1 := hQ.1.2.1.1
  have q2 := hQ.1.2.1.2.1
  have q3 := hQ.1.2.1.2.2.1
  have q4 := hQ.1.2.1.2.2.2
  have q75 := hQ.1.2.2.2.1
  have q80 := hQ.1.2.2.2.2.2.1.1
  obtain ⟨_, _, _, _, _, _, q76x⟩ := id hQ.1.2.2.2.2.2.2.1
  have q76 := q76x.1
  refine gN.of MX5_variableCount (Nat.le_of_ble_eq_true rfl) (fun J n hJ => ?_)
  show J 0 [some (.ref 0), some (.int x)] [] h (n, 0, 0, fl)
  by_cases hx : gbt x 6 = true
  · obtain ⟨r, rfl, hr⟩ := gbt_spec hx
    have egr := gr_nI (r := r) (by omega)
    refine j_p (nx := 1) hJ dX5_variableCount_0 rfl rfl ?_
    refine j_csR (nx := 4) hJ dX5_variableCount_1 rfl (r_isRegister (fl := fl) (d := d + 58) _) mX5_112 rfl (gle8 rfl) ?_
    rw [show gbt _ 6 = true from hx]
    refine j_if_eq (nx := 7) (tgt := 22) hJ dX5_variableCount_4 rfl (by decide) (fun c4 => absurd c4 (by decide)) (fun c4 => ?_)
    refine j_p (nx := 8) hJ dX5_variableCount_7 rfl rfl ?_
    refine j_get (nx := 11) hJ dX5_variableCount_8 rfl fX5_12 (by repeat (first | assumption | exact gup_same _ _ _ | rw [gup_ne _ _ (by first | decide | assumption | omega)])) (by rfl) ?_
    refine j_get (nx := 14) hJ dX5_variableCount_11 rfl fX5_119 (by repeat (first | assumption | exact gup_same _ _ _ | rw [gup_ne _ _ (by first | decide | assumption | omega)])) (by rfl) ?_
    refine j_p (nx := 15) hJ dX5_variableCount_14 rfl rfl ?_
    refine j_aald (j := r) (nx := 16) hJ dX5_variableCount_15 rfl q2 rfl (by omega) (by decide) (by decide) rfl ?_
    have hR := hQ.r8 (r := 5 + 2 * r) (by unfold gisR; omega) (by omega) (by omega)
    have hRr := hR.2.2.2.1
    refine j_cvR (nx := 19) hJ dX5_variableCount_16 rfl (r_variablesIn (fl := fl) (d := d + 57) hR) mX5_123 (by repeat (first | assumption | exact gup_same _ _ _ | rw [gup_ne _ _ (by first | decide | assumption | omega)])) kX2_variablesIn rfl (gle8 rfl) ?_
    refine j_go (tgt := 24) hJ dX5_variableCount_19 (by decide) ?_
    have e : s_variableCount R (nI r) = gvar (R (5 + 2 * r)) := by unfold s_variableCount; rw [if_pos hx, egr]
    exact j_iret hJ dX5_variableCount_24 ⟨by rw [e], hQ.c⟩
  · refine j_p (nx := 1) hJ dX5_variableCount_0 rfl rfl ?_
    refine j_csR (nx := 4) hJ dX5_variableCount_1 rfl (r_isRegister (fl := fl) (d := d + 58) _) mX5_112 rfl (gle8 rfl) ?_
    rw [show gbt _ 6 = false from Bool.eq_false_iff.mpr hx]
    refine j_if_eq (nx := 7) (tgt := 22) hJ dX5_variableCount_4 rfl (by decide) (fun c4 => ?_) (fun c4 => absurd c4 (by decide))
    refine j_c (nx := 24) hJ dX5_variableCount_22 rfl gk_bipush_m2 ?_
    have e : s_variableCount R x = -2 := if_neg hx
    exact j_iret hJ dX5_variableCount_24 ⟨by rw [e], hQ.c⟩
set_option maxHeartbeats 4000000 in
theorem r_hasVariable {fl : Bool} {d : Nat} {h0 h : GH} {R : Nat → List Int32} {N : Nat → Int32} (hQ : gQ h0 h R N) {r : Nat} (hr : r < 6) (v : Int32) : gR fl (d + 3) yX5_hasVariable [.ref 0, .int (nI r), .int v] h (.int (gb (ghv (R (5 + 2 * r)) v))) := by
  have q0 := hQ.1.1
  have q1 := hQ.1.2.1.1
  have q2 := hQ.1.2.1.2.1
  have q3 := hQ.1.2.1.2.2.1
  have q4 := hQ.1.2.1.2.2.2
  have q75 := hQ.1.2.2.2.1
  have q80 := hQ.1.2.2.2.2.2.1.1
  obtain ⟨_, _, _, _, _, _, q76x⟩ := id hQ.1.2.2.2.2.2.2.1
  have q76 := q76x.1
  refine gN.of MX5_hasVariable (Nat.le_of_ble_eq_true rfl) (fun J n hJ => ?_)
  show J 0 [some (.ref 0), some (.int (nI r)), some (.int v)] [] h (n, 0, 0, fl)
  refine j_p (nx := 1) hJ dX5_hasVariable_0 rfl rfl ?_
  refine j_csR (nx := 4) hJ dX5_hasVariable_1 rfl (r_isVariable (fl := fl) (d := d + 1) v) mX5_147 rfl (gle8 rfl) ?_
  refine j_if_eq (nx := 7) (tgt := 30) hJ dX5_hasVariable_4 rfl (by decide) (fun c4 => ?_) (fun c4 => ?_)
  · refine j_c (nx := 31) hJ dX5_hasVariable_30 rfl gk_iconst_0 ?_
    first | rw [gb_f] at c4 | skip
    have e : ghv (R (5 + 2 * r)) v = false := by unfold ghv; first | (rw [c4]; rfl) | (rw [decide_eq_false (by rw [Int32.le_iff_toInt_le] at c23; rw [Int32.lt_iff_toInt_lt]; omega)]; simp)
    exact j_zret hJ _ dX5_hasVariable_31 (by rw [e]; rfl) ⟨rfl, rfl⟩
  · refine j_p (nx := 8) hJ dX5_hasVariable_7 rfl rfl ?_
    refine j_get (nx := 11) hJ dX5_hasVariable_8 rfl fX5_12 (by repeat (first | assumption | exact gup_same _ _ _ | rw [gup_ne _ _ (by first | decide | assumption | omega)])) (by rfl) ?_
    refine j_get (nx := 14) hJ dX5_hasVariable_11 rfl fX5_119 (by repeat (first | assumption | exact gup_same _ _ _ | rw [gup_ne _ _ (by first | decide | assumption | omega)])) (by rfl) ?_
    refine j_p (nx := 15) hJ dX5_hasVariable_14 rfl rfl ?_
    refine j_aald (j := r) (nx := 16) hJ dX5_hasVariable_15 rfl q2 rfl (by omega) (by decide) (by decide) rfl ?_
    have hR := hQ.r8 (r := 5 + 2 * r) (by unfold gisR; omega) (by omega) (by omega)
    have hRr := hR.2.2.2.1
    refine j_c (nx := 18) hJ dX5_hasVariable_16 rfl gk_bipush_10 ?_
    refine j_p (nx := 19) hJ dX5_hasVariable_18 rfl rfl ?_
    refine j_p (nx := 20) hJ dX5_hasVariable_19 rfl rfl ?_
    refine j_cvR (nx := 23) hJ dX5_hasVariable_20 rfl (r_countOf (fl := fl) (d := d) hR (10 + v)) mX5_130 (by repeat (first | assumption | exact gup_same _ _ _ | rw [gup_ne _ _ (by first | decide | assumption | omega)])) kX2_countOf rfl (gle8 rfl) ?_
    refine j_if_le (nx := 26) (tgt := 30) hJ dX5_hasVariable_23 rfl (by decide) (fun c23 => ?_) (fun c23 => ?_)
    · refine j_c (nx := 31) hJ dX5_hasVariable_30 rfl gk_iconst_0 ?_
      first | rw [gb_f] at c4 | skip
      have e : ghv (R (5 + 2 * r)) v = false := by unfold ghv; first | (rw [c4]; rfl) | (rw [decide_eq_false (by rw [Int32.le_iff_toInt_le] at c23; rw [Int32.lt_iff_toInt_lt]; omega)]; simp)
      exact j_zret hJ _ dX5_hasVariable_31 (by rw [e]; rfl) ⟨rfl, rfl⟩
    · refine j_c (nx := 27) hJ dX5_hasVariable_26 rfl gk_iconst_1 ?_
      refine j_go (tgt := 31) hJ dX5_hasVariable_27 (by decide) ?_
      rw [gb_t] at c4
      have e : ghv (R (5 + 2 * r)) v = true := by unfold ghv; rw [c4, decide_eq_true (by rw [Int32.le_iff_toInt_le] at c23; rw [Int32.lt_iff_toInt_lt]; omega)]; rfl
      exact j_zret hJ _ dX5_hasVariable_31 (by rw [e]; rfl) ⟨rfl, rfl⟩
set_option maxHeartbeats 4000000 in
theorem r_occurrences {fl : Bool} {d : Nat} {h0 h : GH} {R : Nat → List Int32} {N : Nat → Int32} (hQ : gQ h0 h R N) (x v : Int32) : gN fl (d + 60) yX5_occurrences [.ref 0, .int x, .int v] h (fun o h' => o = some (.int (s_occurrences R x v)) ∧ gC h0 h' R N) := by
  have q0 := hQ.1.1
  have q1 := hQ.1.2.1.1
  have q2 := hQ.1.2.1.2.1
  have q3 := hQ.1.2.1.2.2.1
  have q4 := hQ.1.2.1.2.2.2
  have q75 := hQ.1.2.2.2.1
  have q80 := hQ.1.2.2.2.2.2.1.1
  obtain ⟨_, _, _, _, _, _, q76x⟩ := id hQ.1.2.2.2.2.2.2.1
  have q76 := q76x.1
  refine gN.of MX5_occurrences (Nat.le_of_ble_eq_true rfl) (fun J n hJ => ?_)
  show J 0 [some (.ref 0), some (.int x), some (.int v)] [] h (n, 0, 0, fl)
  by_cases hx : gbt x 6 = true
  · obtain ⟨r, rfl, hr⟩ := gbt_spec hx
    have egr := gr_nI (r := r) (by omega)
    refine j_p (nx := 1) hJ dX5_occurrences_0 rfl rfl ?_
    refine j_csR (nx := 4) hJ dX5_occurrences_1 rfl (r_isRegister (fl := fl) (d := d + 58) _) mX5_112 rfl (gle8 rfl) ?_
    rw [show gbt _ 6 = true from hx]
    refine j_if_ne (nx := 7) (tgt := 10) hJ dX5_occurrences_4 rfl (by decide) (fun c4 => ?_) (fun c4 => absurd c4 (by decide))
    refine j_p (nx := 11) hJ dX5_occurrences_10 rfl rfl ?_
    refine j_p (nx := 12) hJ dX5_occurrences_11 rfl rfl ?_
    refine j_p (nx := 13) hJ dX5_occurrences_12 rfl rfl ?_
    refine j_cvR (nx := 16) hJ dX5_occurrences_13 rfl (r_hasVariable (fl := fl) (d := d + 56) hQ hr v) mX5_126 (by repeat (first | assumption | exact gup_same _ _ _ | rw [gup_ne _ _ (by first | decide | assumption | omega)])) kX5_hasVariable rfl (gle8 rfl) ?_
    refine j_if_ne (nx := 19) (tgt := 22) hJ dX5_occurrences_16 rfl (by decide) (fun c16 => ?_) (fun c16 => ?_)
    · refine j_p (nx := 23) hJ dX5_occurrences_22 rfl rfl ?_
      refine j_get (nx := 26) hJ dX5_occurrences_23 rfl fX5_12 (by repeat (first | assumption | exact gup_same _ _ _ | rw [gup_ne _ _ (by first | decide | assumption | omega)])) (by rfl) ?_
      refine j_get (nx := 29) hJ dX5_occurrences_26 rfl fX5_119 (by repeat (first | assumption | exact gup_same _ _ _ | rw [gup_ne _ _ (by first | decide | assumption | omega)])) (by rfl) ?_
      refine j_p (nx := 30) hJ dX5_occurrences_29 rfl rfl ?_
      refine j_aald (j := r) (nx := 31) hJ dX5_occurrences_30 rfl q2 rfl (by omega) (by decide) (by decide) rfl ?_
      have hR := hQ.r8 (r := 5 + 2 * r) (by unfold gisR; omega) (by omega) (by omega)
      have hRr := hR.2.2.2.1
      refine j_c (nx := 33) hJ dX5_occurrences_31 rfl gk_bipush_10 ?_
      refine j_p (nx := 34) hJ dX5_occurrences_33 rfl rfl ?_
      refine j_p (nx := 35) hJ dX5_occurrences_34 rfl rfl ?_
      refine j_cvR (nx := 38) hJ dX5_occurrences_35 rfl (r_countOf (fl := fl) (d := d + 57) hR (10 + v)) mX5_130 (by repeat (first | assumption | exact gup_same _ _ _ | rw [gup_ne _ _ (by first | decide | assumption | omega)])) kX2_countOf rfl (gle8 rfl) ?_
      rw [gb_t] at c16
      have e : s_occurrences R (nI r) v = gcnt (10 + v) (R (5 + 2 * r)) := by unfold s_occurrences; rw [if_pos hx, egr, if_pos c16]
      exact j_iret hJ dX5_occurrences_38 ⟨by rw [e], hQ.c⟩
    · refine j_c (nx := 21) hJ dX5_occurrences_19 rfl gk_bipush_m3 ?_
      rw [gb_f] at c16
      have e : s_occurrences R (nI r) v = -3 := by unfold s_occurrences; rw [if_pos hx, egr, if_neg (by rw [c16]; decide)]
      exact j_iret hJ dX5_occurrences_21 ⟨by rw [e], hQ.c⟩
  · refine j_p (nx := 1) hJ dX5_occurrences_0 rfl rfl ?_
    refine j_csR (nx := 4) hJ dX5_occurrences_1 rfl (r_isRegister (fl := fl) (d := d + 58) _) mX5_112 rfl (gle8 rfl) ?_
    rw [show gbt _ 6 = false from Bool.eq_false_iff.mpr hx]
    refine j_if_ne (nx := 7) (tgt := 10) hJ dX5_occurrences_4 rfl (by decide) (fun c4 => absurd c4 (by decide)) (fun c4 => ?_)
    refine j_c (nx := 9) hJ dX5_occurrences_7 rfl gk_bipush_m2 ?_
    have e : s_occurrences R x v = -2 := if_neg hx
    exact j_iret hJ dX5_occurrences_9 ⟨by rw [e], hQ.c⟩
