def gkk (N : Nat → Int32) : Nat := (N 1).toInt.toNat
theorem gkk_nI {N : Nat → Int32} {s : Nat} (h : N 1 = nI s) (hs : s ≤ 3) : gkk N = s := by unfold gkk; rw [h, nI_toInt (by omega)]; rfl
def s_findPattern (R : Nat → List Int32) (N : Nat → Int32) (x z md : Int32) : Int32 × (Nat → List Int32) × (Nat → Int32) := if gbt x 6 = true then (if (1 ≤ z.toInt ∧ z.toInt ≤ 5) ∧ gmd md = true then (match gFB (fun i => R (25 + 2 * i)) (gss N) md (gkk N) z.toInt.toNat with
  | some l => (gltr l, gU R (gr x) l, N)
  | none => (-6, R, N)) else (-1, R, N)) else (-2, R, N)
def s_findOneVariable (R : Nat → List Int32) (N : Nat → Int32) (x : Int32) : Int32 × (Nat → List Int32) × (Nat → Int32) := if gbt x 6 = true then (match gFX (fun i => R (25 + 2 * i)) (gss N) (gkk N) with
  | some l => (nI l.length, gU R (gr x) l, N)
  | none => (-6, R, N)) else (-2, R, N)
set_option maxHeartbeats 4000000 in
theorem r_firstMisfit {fl : Bool} {d : Nat} {h0 h : GH} {R : Nat → List Int32} {N : Nat → Int32} (hQ : gQ h0 h R N) (hsy : ∀ r, r < 6 → ∀ c ∈ R (5 + 2 * r), gsy c) {ss : Nat} (hs : N 2 = nI ss) (hss : ss ≤ 6) (x md : Int32) : gN fl (d + 60) yX5_firstMisfit [.ref 0, .int x, .int md] h (fun o h' => o = some (.int (s_firstMisfit R N x md)) ∧ gC h0 h' R N) := by
  have egs := gss_nI hs hss
  refine gN.of MX5_firstMisfit (Nat.le_of_ble_eq_true rfl) (fun J n hJ => ?_)
  show J 0 [some (.ref 0), some (.int x), some (.int md), none] [] h (n, 0, 0, fl)
  by_cases hx : gbt x 6 = true
  · obtain ⟨r, rfl, hr⟩ := gbt_spec hx
    have egr := gr_nI (r := r) (by omega)
    by_cases hm : gmd md = true
    · refine j_p (nx := 1) hJ dX5_firstMisfit_0 rfl rfl ?_
      refine j_csR (nx := 4) hJ dX5_firstMisfit_1 rfl (r_isRegister (fl := fl) (d := d + 58) _) mX5_112 rfl (gle8 rfl) ?_
      rw [show gbt _ 6 = true from hx]
      refine j_if_ne (nx := 7) (tgt := 10) hJ dX5_firstMisfit_4 rfl (by decide) (fun c4 => ?_) (fun c4 => absurd c4 (by decide))
      refine j_p (nx := 11) hJ dX5_firstMisfit_10 rfl rfl ?_
      refine j_csR (nx := 14) hJ dX5_firstMisfit_11 rfl (r_isMode (fl := fl) (d := d + 58) _) mX5_218 rfl (gle8 rfl) ?_
      rw [show gmd _ = true from hm]
      refine j_if_ne (nx := 17) (tgt := 19) hJ dX5_firstMisfit_14 rfl (by decide) (fun c14 => ?_) (fun c14 => absurd c14 (by decide))
      refine j_c (nx := 20) hJ dX5_firstMisfit_19 rfl gk_iconst_0 ?_
      refine j_p (nx := 21) hJ dX5_firstMisfit_20 rfl rfl ?_
      have e : s_firstMisfit R N (nI r) md = gfd ss (fun i => !gMB (R (5 + 2 * r)) (R (25 + 2 * i)) md 0 0) 0 := by unfold s_firstMisfit; rw [if_pos hx, if_pos hm, egr, egs]
      have loop : ∀ i, i ≤ ss → ∀ h1 : GH, gQ h0 h1 R N → (∀ j, j < i → (fun i => !gMB (R (5 + 2 * r)) (R (25 + 2 * i)) md 0 0) j = false) → J 21 [some (.ref 0), some (.int (nI r)), some (.int md), some (.int (nI i))] [] h1 (n, 0, 0, fl) := by
        refine gloop _ _ (fun i hi ih h1 hQ1 hno => ?_)
        have q01 := hQ1.1.1
        have q11 := hQ1.1.2.1.1
        have q21 := hQ1.1.2.1.2.1
        have q31 := hQ1.1.2.1.2.2.1
        have q41 := hQ1.1.2.1.2.2.2
        have q751 := hQ1.1.2.2.2.1
        have q801 := hQ1.1.2.2.2.2.2.1.1
        obtain ⟨_, _, _, _, _, _, q76x1⟩ := id hQ1.1.2.2.2.2.2.2.1
        have q761 := q76x1.1
        rw [hs] at q11
        refine j_p (nx := 22) hJ dX5_firstMisfit_21 rfl rfl ?_
        refine j_p (nx := 23) hJ dX5_firstMisfit_22 rfl rfl ?_
        refine j_get (nx := 26) hJ dX5_firstMisfit_23 rfl fX5_12 (by repeat (first | assumption | exact gup_same _ _ _ | rw [gup_ne _ _ (by first | decide | assumption | omega)])) (by rfl) ?_
        refine j_get (nx := 29) hJ dX5_firstMisfit_26 rfl fX5_230 (by repeat (first | assumption | exact gup_same _ _ _ | rw [gup_ne _ _ (by first | decide | assumption | omega)])) (by rfl) ?_
        refine j_ic_ge (nx := 32) (tgt := 75) hJ dX5_firstMisfit_29 rfl (by decide) (fun c29 => ?_) (fun c29 => ?_)
        · refine j_c (nx := 77) hJ dX5_firstMisfit_75 rfl gk_bipush_m6 ?_
          rw [gnle (by omega) (by omega)] at c29
          have e9 : gfd ss (fun i => !gMB (R (5 + 2 * r)) (R (25 + 2 * i)) md 0 0) 0 = -6 := gfd_n (fun j hj => hno j (by omega))
          exact j_iret hJ dX5_firstMisfit_77 ⟨by rw [e, e9], hQ1.c⟩
        · rw [gnle (by omega) (by omega)] at c29
          have hil : i < ss := by omega
          refine j_p (nx := 33) hJ dX5_firstMisfit_32 rfl rfl ?_
          refine j_c (nx := 35) hJ dX5_firstMisfit_33 rfl gk_bipush_6 ?_
          refine j_ic_ge (nx := 38) (tgt := 75) hJ dX5_firstMisfit_35 rfl (by decide) (fun c35 => absurd c35 (by rw [show (6 : Int32) = nI 6 from rfl, gnle (by omega) (by omega)]; omega)) (fun c35 => ?_)
          refine j_p (nx := 39) hJ dX5_firstMisfit_38 rfl rfl ?_
          refine j_get (nx := 42) hJ dX5_firstMisfit_39 rfl fX5_43 (by repeat (first | assumption | exact gup_same _ _ _ | rw [gup_ne _ _ (by first | decide | assumption | omega)])) (by rfl) ?_
          refine j_p (nx := 43) hJ dX5_firstMisfit_42 rfl rfl ?_
          refine j_get (nx := 46) hJ dX5_firstMisfit_43 rfl fX5_12 (by repeat (first | assumption | exact gup_same _ _ _ | rw [gup_ne _ _ (by first | decide | assumption | omega)])) (by rfl) ?_
          refine j_get (nx := 49) hJ dX5_firstMisfit_46 rfl fX5_119 (by repeat (first | assumption | exact gup_same _ _ _ | rw [gup_ne _ _ (by first | decide | assumption | omega)])) (by rfl) ?_
          refine j_p (nx := 50) hJ dX5_firstMisfit_49 rfl rfl ?_
          refine j_aald (j := r) (nx := 51) hJ dX5_firstMisfit_50 rfl q21 rfl (by omega) (by decide) (by decide) rfl ?_
          have hP1 := hQ1.r8 (r := 5 + 2 * r) (by unfold gisR; omega) (by omega) (by omega)
          have hP1r := hP1.2.2.2.1
          refine j_p (nx := 52) hJ dX5_firstMisfit_51 rfl rfl ?_
          refine j_get (nx := 55) hJ dX5_firstMisfit_52 rfl fX5_12 (by repeat (first | assumption | exact gup_same _ _ _ | rw [gup_ne _ _ (by first | decide | assumption | omega)])) (by rfl) ?_
          refine j_get (nx := 58) hJ dX5_firstMisfit_55 rfl fX5_233 (by repeat (first | assumption | exact gup_same _ _ _ | rw [gup_ne _ _ (by first | decide | assumption | omega)])) (by rfl) ?_
          refine j_p (nx := 59) hJ dX5_firstMisfit_58 rfl rfl ?_
          refine j_aald (j := i) (nx := 60) hJ dX5_firstMisfit_59 rfl q41 rfl (by omega) (by decide) (by decide) rfl ?_
          have hT1 := hQ1.r8 (r := 25 + 2 * i) (by unfold gisR; omega) (by omega) (by omega)
          have hT1r := hT1.2.2.2.1
          refine j_p (nx := 61) hJ dX5_firstMisfit_60 rfl rfl ?_
          refine j_cv (nx := 64) hJ dX5_firstMisfit_61 rfl (r_isMatch (fl := fl) (d := d + 38) md hQ1.1.2.2.2.2.2.2.1 hP1 hT1 (by unfold gOm; omega) (by unfold gOm; omega) (by unfold gOm; omega) (by unfold gOm; omega) (hsy r (by omega)) hP1.2.1 (Nat.le_trans hT1.2.1 (by omega))) mX5_198 (by repeat (first | assumption | exact gup_same _ _ _ | rw [gup_ne _ _ (by first | decide | assumption | omega)])) kX1_isMatch rfl (gle8 rfl) (fun o h2 hp => ?_)
          obtain ⟨rfl, hX2, hF2, -⟩ := hp
          have hQ2 := hQ1.mat hX2 hF2
          refine j_if_ne (nx := 67) (tgt := 69) hJ dX5_firstMisfit_64 rfl (by decide) (fun c64 => ?_) (fun c64 => ?_)
          · rw [gb_t] at c64
            refine j_inc (nx := 72) hJ dX5_firstMisfit_69 rfl rfl (gi1 i) rfl ?_
            refine j_go (tgt := 21) hJ dX5_firstMisfit_72 (by decide) ?_
            refine ih hil h2 hQ2 (fun j hj => ?_)
            by_cases e : j = i
            · subst e; show (!_) = false; rw [c64]; rfl
            · exact hno j (by omega)
          · refine j_p (nx := 68) hJ dX5_firstMisfit_67 rfl rfl ?_
            rw [gb_f] at c64
            have e9 : gfd ss (fun i => !gMB (R (5 + 2 * r)) (R (25 + 2 * i)) md 0 0) 0 = nI (0 + i) := gfd_s hno hil (by show (!_) = true; rw [c64]; rfl)
            rw [Nat.zero_add] at e9
            exact j_iret hJ dX5_firstMisfit_68 ⟨by rw [e, e9], hQ2.c⟩
      exact loop 0 (Nat.zero_le _) h hQ (fun j hj => by omega)
    · refine j_p (nx := 1) hJ dX5_firstMisfit_0 rfl rfl ?_
      refine j_csR (nx := 4) hJ dX5_firstMisfit_1 rfl (r_isRegister (fl := fl) (d := d + 58) _) mX5_112 rfl (gle8 rfl) ?_
      rw [show gbt _ 6 = true from hx]
      refine j_if_ne (nx := 7) (tgt := 10) hJ dX5_firstMisfit_4 rfl (by decide) (fun c4 => ?_) (fun c4 => absurd c4 (by decide))
      refine j_p (nx := 11) hJ dX5_firstMisfit_10 rfl rfl ?_
      refine j_csR (nx := 14) hJ dX5_firstMisfit_11 rfl (r_isMode (fl := fl) (d := d + 58) _) mX5_218 rfl (gle8 rfl) ?_
      rw [show gmd _ = false from Bool.eq_false_iff.mpr hm]
      refine j_if_ne (nx := 17) (tgt := 19) hJ dX5_firstMisfit_14 rfl (by decide) (fun c14 => absurd c14 (by decide)) (fun c14 => ?_)
      refine j_c (nx := 18) hJ dX5_firstMisfit_17 rfl gk_iconst_m1 ?_
      have e : s_firstMisfit R N (nI r) md = -1 := by unfold s_firstMisfit; rw [if_pos hx, if_neg hm]
      exact j_iret hJ dX5_firstMisfit_18 ⟨by rw [e], hQ.c⟩
  · refine j_p (nx := 1) hJ dX5_firstMisfit_0 rfl rfl ?_
    refine j_csR (nx := 4) hJ dX5_firstMisfit_1 rfl (r_isRegister (fl := fl) (d := d + 58) _) mX5_112 rfl (gle8 rfl) ?_
    rw [show gbt _ 6 = false from Bool.eq_false_iff.mpr hx]
    refine j_if_ne (nx := 7) (tgt := 10) hJ dX5_firstMisfit_4 rfl (by decide) (fun c4 => absurd c4 (by decide)) (fun c4 => ?_)
    refine j_c (nx := 9) hJ dX5_firstMisfit_7 rfl gk_bipush_m2 ?_
    have e : s_firstMisfit R N x md = -2 := if_neg hx
    exact j_iret hJ dX5_firstMisfit_9 ⟨by rw [e], hQ.c⟩
set_option maxHeartbeats 4000000 in
theorem r_isAsGeneral {fl : Bool} {d : Nat} {h0 h : GH} {R : Nat → List Int32} {N : Nat → Int32} (hQ : gQ h0 h R N) (hsy : ∀ r, r < 6 → ∀ c ∈ R (5 + 2 * r), gsy c) {a b : Nat} (ha : a < 6) (hb : b < 6) (md : Int32) : gN fl (d + 22) yX5_isAsGeneral [.ref 0, .int (nI a), .int (nI b), .int md] h (fun o h' => o = some (.int (gb (gMB (R (5 + 2 * a)) (R (5 + 2 * b)) md 0 0))) ∧ gQ h0 h' R N) := by
  have q0 := hQ.1.1
  have q1 := hQ.1.2.1.1
  have q2 := hQ.1.2.1.2.1
  have q3 := hQ.1.2.1.2.2.1
  have q4 := hQ.1.2.1.2.2.2
  have q75 := hQ.1.2.2.2.1
  have q80 := hQ.1.2.2.2.2.2.1.1
  obtain ⟨_, _, _, _, _, _, q76x⟩ := id hQ.1.2.2.2.2.2.2.1
  have q76 := q76x.1
  refine gN.of MX5_isAsGeneral (Nat.le_of_ble_eq_true rfl) (fun J n hJ => ?_)
  show J 0 [some (.ref 0), some (.int (nI a)), some (.int (nI b)), some (.int md)] [] h (n, 0, 0, fl)
  refine j_p (nx := 1) hJ dX5_isAsGeneral_0 rfl rfl ?_
  refine j_get (nx := 4) hJ dX5_isAsGeneral_1 rfl fX5_43 (by repeat (first | assumption | exact gup_same _ _ _ | rw [gup_ne _ _ (by first | decide | assumption | omega)])) (by rfl) ?_
  refine j_p (nx := 5) hJ dX5_isAsGeneral_4 rfl rfl ?_
  refine j_get (nx := 8) hJ dX5_isAsGeneral_5 rfl fX5_12 (by repeat (first | assumption | exact gup_same _ _ _ | rw [gup_ne _ _ (by first | decide | assumption | omega)])) (by rfl) ?_
  refine j_get (nx := 11) hJ dX5_isAsGeneral_8 rfl fX5_119 (by repeat (first | assumption | exact gup_same _ _ _ | rw [gup_ne _ _ (by first | decide | assumption | omega)])) (by rfl) ?_
  refine j_p (nx := 12) hJ dX5_isAsGeneral_11 rfl rfl ?_
  refine j_aald (j := a) (nx := 13) hJ dX5_isAsGeneral_12 rfl q2 rfl (by omega) (by decide) (by decide) rfl ?_
  have hP := hQ.r8 (r := 5 + 2 * a) (by unfold gisR; omega) (by omega) (by omega)
  have hPr := hP.2.2.2.1
  refine j_p (nx := 14) hJ dX5_isAsGeneral_13 rfl rfl ?_
  refine j_get (nx := 17) hJ dX5_isAsGeneral_14 rfl fX5_12 (by repeat (first | assumption | exact gup_same _ _ _ | rw [gup_ne _ _ (by first | decide | assumption | omega)])) (by rfl) ?_
  refine j_get (nx := 20) hJ dX5_isAsGeneral_17 rfl fX5_119 (by repeat (first | assumption | exact gup_same _ _ _ | rw [gup_ne _ _ (by first | decide | assumption | omega)])) (by rfl) ?_
  refine j_p (nx := 21) hJ dX5_isAsGeneral_20 rfl rfl ?_
  refine j_aald (j := b) (nx := 22) hJ dX5_isAsGeneral_21 rfl q2 rfl (by omega) (by decide) (by decide) rfl ?_
  have hT := hQ.r8 (r := 5 + 2 * b) (by unfold gisR; omega) (by omega) (by omega)
  have hTr := hT.2.2.2.1
  refine j_p (nx := 23) hJ dX5_isAsGeneral_22 rfl rfl ?_
  refine j_cv (nx := 26) hJ dX5_isAsGeneral_23 rfl (r_isMatch (fl := fl) (d := d) md hQ.1.2.2.2.2.2.2.1 hP hT (by unfold gOm; omega) (by unfold gOm; omega) (by unfold gOm; omega) (by unfold gOm; omega) (hsy a (by omega)) hP.2.1 (Nat.le_trans hT.2.1 (by omega))) mX5_198 (by repeat (first | assumption | exact gup_same _ _ _ | rw [gup_ne _ _ (by first | decide | assumption | omega)])) kX1_isMatch rfl (gle8 rfl) (fun o h2 hp => ?_)
  obtain ⟨rfl, hX2, hF2, -⟩ := hp
  exact j_zret hJ _ dX5_isAsGeneral_26 rfl ⟨rfl, hQ.mat hX2 hF2⟩
set_option maxHeartbeats 4000000 in
theorem r_isMoreGeneral {fl : Bool} {d : Nat} {h0 h : GH} {R : Nat → List Int32} {N : Nat → Int32} (hQ : gQ h0 h R N) (hsy : ∀ r, r < 6 → ∀ c ∈ R (5 + 2 * r), gsy c) (x y md : Int32) : gN fl (d + 60) yX5_isMoreGeneral [.ref 0, .int x, .int y, .int md] h (fun o h' => o = some (.int (s_isMoreGeneral R x y md)) ∧ gC h0 h' R N) := by
  have q0 := hQ.1.1
  have q1 := hQ.1.2.1.1
  have q2 := hQ.1.2.1.2.1
  have q3 := hQ.1.2.1.2.2.1
  have q4 := hQ.1.2.1.2.2.2
  have q75 := hQ.1.2.2.2.1
  have q80 := hQ.1.2.2.2.2.2.1.1
  obtain ⟨_, _, _, _, _, _, q76x⟩ := id hQ.1.2.2.2.2.2.2.1
  have q76 := q76x.1
  refine gN.of MX5_isMoreGeneral (Nat.le_of_ble_eq_true rfl) (fun J n hJ => ?_)
  show J 0 [some (.ref 0), some (.int x), some (.int y), some (.int md)] [] h (n, 0, 0, fl)
  by_cases hx : gbt x 6 = true
  · obtain ⟨r, rfl, hr⟩ := gbt_spec hx
    have egr := gr_nI (r := r) (by omega)
    by_cases hy : gbt y 6 = true
    · obtain ⟨s, rfl, hs⟩ := gbt_spec hy
      have egs := gr_nI (r := s) (by omega)
      by_cases hm : gmd md = true
      · refine j_p (nx := 1) hJ dX5_isMoreGeneral_0 rfl rfl ?_
        refine j_csR (nx := 4) hJ dX5_isMoreGeneral_1 rfl (r_isRegister (fl := fl) (d := d + 58) _) mX5_112 rfl (gle8 rfl) ?_
        rw [show gbt _ 6 = true from hx]
        refine j_if_eq (nx := 7) (tgt := 14) hJ dX5_isMoreGeneral_4 rfl (by decide) (fun c4 => absurd c4 (by decide)) (fun c4 => ?_)
        refine j_p (nx := 8) hJ dX5_isMoreGeneral_7 rfl rfl ?_
        refine j_csR (nx := 11) hJ dX5_isMoreGeneral_8 rfl (r_isRegister (fl := fl) (d := d + 58) _) mX5_112 rfl (gle8 rfl) ?_
        rw [show gbt _ 6 = true from hy]
        refine j_if_ne (nx := 14) (tgt := 17) hJ dX5_isMoreGeneral_11 rfl (by decide) (fun c11 => ?_) (fun c11 => absurd c11 (by decide))
        refine j_p (nx := 18) hJ dX5_isMoreGeneral_17 rfl rfl ?_
        refine j_csR (nx := 21) hJ dX5_isMoreGeneral_18 rfl (r_isMode (fl := fl) (d := d + 58) _) mX5_218 rfl (gle8 rfl) ?_
        rw [show gmd _ = true from hm]
        refine j_if_ne (nx := 24) (tgt := 26) hJ dX5_isMoreGeneral_21 rfl (by decide) (fun c21 => ?_) (fun c21 => absurd c21 (by decide))
        refine j_p (nx := 27) hJ dX5_isMoreGeneral_26 rfl rfl ?_
        refine j_p (nx := 28) hJ dX5_isMoreGeneral_27 rfl rfl ?_
        refine j_p (nx := 29) hJ dX5_isMoreGeneral_28 rfl rfl ?_
        refine j_p (nx := 30) hJ dX5_isMoreGeneral_29 rfl rfl ?_
        refine j_cv (nx := 33) hJ dX5_isMoreGeneral_30 rfl (r_isAsGeneral (fl := fl) (d := d + 37) hQ hsy hr hs md) mX5_245 (by repeat (first | assumption | exact gup_same _ _ _ | rw [gup_ne _ _ (by first | decide | assumption | omega)])) kX5_isAsGeneral rfl (gle8 rfl) (fun o h2 hp => ?_)
        obtain ⟨rfl, hQ2⟩ := hp
        refine j_if_eq (nx := 36) (tgt := 40) hJ dX5_isMoreGeneral_33 rfl (by decide) (fun c33 => ?_) (fun c33 => ?_)
        · refine j_c (nx := 41) hJ dX5_isMoreGeneral_40 rfl gk_iconst_0 ?_
          rw [gb_f] at c33
          have e : s_isMoreGeneral R (nI r) (nI s) md = 0 := by unfold s_isMoreGeneral; rw [if_pos ⟨hx, hy⟩, if_pos hm, egr, egs, c33]; rfl
          exact j_iret hJ dX5_isMoreGeneral_41 ⟨by rw [e], hQ2.c⟩
        · refine j_c (nx := 37) hJ dX5_isMoreGeneral_36 rfl gk_iconst_1 ?_
          refine j_go (tgt := 41) hJ dX5_isMoreGeneral_37 (by decide) ?_
          rw [gb_t] at c33
          have e : s_isMoreGeneral R (nI r) (nI s) md = 1 := by unfold s_isMoreGeneral; rw [if_pos ⟨hx, hy⟩, if_pos hm, egr, egs, c33]; rfl
          exact j_iret hJ dX5_isMoreGeneral_41 ⟨by rw [e], hQ2.c⟩
      · refine j_p (nx := 1) hJ dX5_isMoreGeneral_0 rfl rfl ?_
        refine j_csR (nx := 4) hJ dX5_isMoreGeneral_1 rfl (r_isRegister (fl := fl) (d := d + 58) _) mX5_112 rfl (gle8 rfl) ?_
        rw [show gbt _ 6 = true from hx]
        refine j_if_eq (nx := 7) (tgt := 14) hJ dX5_isMoreGeneral_4 rfl (by decide) (fun c4 => absurd c4 (by decide)) (fun c4 => ?_)
        refine j_p (nx := 8) hJ dX5_isMoreGeneral_7 rfl rfl ?_
        refine j_csR (nx := 11) hJ dX5_isMoreGeneral_8 rfl (r_isRegister (fl := fl) (d := d + 58) _) mX5_112 rfl (gle8 rfl) ?_
        rw [show gbt _ 6 = true from hy]
        refine j_if_ne (nx := 14) (tgt := 17) hJ dX5_isMoreGeneral_11 rfl (by decide) (fun c11 => ?_) (fun c11 => absurd c11 (by decide))
        refine j_p (nx := 18) hJ dX5_isMoreGeneral_17 rfl rfl ?_
        refine j_csR (nx := 21) hJ dX5_isMoreGeneral_18 rfl (r_isMode (fl := fl) (d := d + 58) _) mX5_218 rfl (gle8 rfl) ?_
        rw [show gmd _ = false from Bool.eq_false_iff.mpr hm]
        refine j_if_ne (nx := 24) (tgt := 26) hJ dX5_isMoreGeneral_21 rfl (by decide) (fun c21 => absurd c21 (by decide)) (fun c21 => ?_)
        refine j_c (nx := 25) hJ dX5_isMoreGeneral_24 rfl gk_iconst_m1 ?_
        have e : s_isMoreGeneral R (nI r) (nI s) md = -1 := by unfold s_isMoreGeneral; rw [if_pos ⟨hx, hy⟩, if_neg hm]
        exact j_iret hJ dX5_isMoreGeneral_25 ⟨by rw [e], hQ.c⟩
    · refine j_p (nx := 1) hJ dX5_isMoreGeneral_0 rfl rfl ?_
      refine j_csR (nx := 4) hJ dX5_isMoreGeneral_1 rfl (r_isRegister (fl := fl) (d := d + 58) _) mX5_112 rfl (gle8 rfl) ?_
      rw [show gbt _ 6 = true from hx]
      refine j_if_eq (nx := 7) (tgt := 14) hJ dX5_isMoreGeneral_4 rfl (by decide) (fun c4 => absurd c4 (by decide)) (fun c4 => ?_)
      refine j_p (nx := 8) hJ dX5_isMoreGeneral_7 rfl rfl ?_
      refine j_csR (nx := 11) hJ dX5_isMoreGeneral_8 rfl (r_isRegister (fl := fl) (d := d + 58) _) mX5_112 rfl (gle8 rfl) ?_
      rw [show gbt _ 6 = false from Bool.eq_false_iff.mpr hy]
      refine j_if_ne (nx := 14) (tgt := 17) hJ dX5_isMoreGeneral_11 rfl (by decide) (fun c11 => absurd c11 (by decide)) (fun c11 => ?_)
      refine j_c (nx := 16) hJ dX5_isMoreGeneral_14 rfl gk_bipush_m2 ?_
      have e : s_isMoreGeneral R (nI r) y md = -2 := if_neg (fun q => hy q.2)
      exact j_iret hJ dX5_isMoreGeneral_16 ⟨by rw [e], hQ.c⟩
  · refine j_p (nx := 1) hJ dX5_isMoreGeneral_0 rfl rfl ?_
    refine j_csR (nx := 4) hJ dX5_isMoreGeneral_1 rfl (r_isRegister (fl := fl) (d := d + 58) _) mX5_112 rfl (gle8 rfl) ?_
    rw [show gbt _ 6 = false from Bool.eq_false_iff.mpr hx]
    refine j_if_eq (nx := 7) (tgt := 14) hJ dX5_isMoreGeneral_4 rfl (by decide) (fun c4 => ?_) (fun c4 => absurd c4 (by decide))
    refine j_c (nx := 16) hJ dX5_isMoreGeneral_14 rfl gk_bipush_m2 ?_
    have e : s_isMoreGeneral R x y md = -2 := if_neg (fun q => hx q.1)
    exact j_iret hJ dX5_isMoreGeneral_16 ⟨by rw [e], hQ.c⟩
set_option maxHeartbeats 4000000 in
theorem r_chainBreak {fl : Bool} {d : Nat} {h0 h : GH} {R : Nat → List Int32} {N : Nat → Int32} (hQ : gQ h0 h R N) (hsy : ∀ r, r < 6 → ∀ c ∈ R (5 + 2 * r), gsy c) (x y md : Int32) : gN fl (d + 60) yX5_chainBreak [.ref 0, .int x, .int y, .int md] h (fun o h' => o = some (.int (s_chainBreak R x y md)) ∧ gC h0 h' R N) := by
  have q0 := hQ.1.1
  have q1 := hQ.1.2.1.1
  have q2 := hQ.1.2.1.2.1
  have q3 := hQ.1.2.1.2.2.1
  have q4 := hQ.1.2.1.2.2.2
  have q75 := hQ.1.2.2.2.1
  have q80 := hQ.1.2.2.2.2.2.1.1
  obtain ⟨_, _, _, _, _, _, q76x⟩ := id hQ.1.2.2.2.2.2.2.1
  have q76 := q76x.1
  refine gN.of MX5_chainBreak (Nat.le_of_ble_eq_true rfl) (fun J n hJ => ?_)
  show J 0 [some (.ref 0), some (.int x), some (.int y), some (.int md), none] [] h (n, 0, 0, fl)
  by_cases hx : gbt x 6 = true
  · obtain ⟨r, rfl, hr⟩ := gbt_spec hx
    have egr := gr_nI (r := r) (by omega)
    by_cases hy : gbt y 6 = true
    · obtain ⟨s, rfl, hs⟩ := gbt_spec hy
      have egs := gr_nI (r := s) (by omega)
      by_cases hm : nI r ≤ nI s ∧ gmd md = true
      · refine j_p (nx := 1) hJ dX5_chainBreak_0 rfl rfl ?_
        refine j_csR (nx := 4) hJ dX5_chainBreak_1 rfl (r_isRegister (fl := fl) (d := d + 58) _) mX5_112 rfl (gle8 rfl) ?_
        rw [show gbt _ 6 = true from hx]
        refine j_if_eq (nx := 7) (tgt := 14) hJ dX5_chainBreak_4 rfl (by decide) (fun c4 => absurd c4 (by decide)) (fun c4 => ?_)
        refine j_p (nx := 8) hJ dX5_chainBreak_7 rfl rfl ?_
        refine j_csR (nx := 11) hJ dX5_chainBreak_8 rfl (r_isRegister (fl := fl) (d := d + 58) _) mX5_112 rfl (gle8 rfl) ?_
        rw [show gbt _ 6 = true from hy]
        refine j_if_ne (nx := 14) (tgt := 17) hJ dX5_chainBreak_11 rfl (by decide) (fun c11 => ?_) (fun c11 => absurd c11 (by decide))
        refine j_p (nx := 18) hJ dX5_chainBreak_17 rfl rfl ?_
        refine j_p (nx := 19) hJ dX5_chainBreak_18 rfl rfl ?_
        refine j_ic_lt (nx := 22) (tgt := 29) hJ dX5_chainBreak_19 rfl (by decide) (fun c19 => absurd c19 (by have := hm.1; rw [Int32.le_iff_toInt_le] at this; rw [Int32.lt_iff_toInt_lt]; omega)) (fun c19 => ?_)
        refine j_p (nx := 23) hJ dX5_chainBreak_22 rfl rfl ?_
        refine j_csR (nx := 26) hJ dX5_chainBreak_23 rfl (r_isMode (fl := fl) (d := d + 58) _) mX5_218 rfl (gle8 rfl) ?_
        rw [show gmd _ = true from hm.2]
        refine j_if_ne (nx := 29) (tgt := 31) hJ dX5_chainBreak_26 rfl (by decide) (fun c26 => ?_) (fun c26 => absurd c26 (by decide))
        refine j_p (nx := 32) hJ dX5_chainBreak_31 rfl rfl ?_
        refine j_p (nx := 34) hJ dX5_chainBreak_32 rfl rfl ?_
        have hrs := hm.1
        rw [gnle (by omega) (by omega)] at hrs
        have e : s_chainBreak R (nI r) (nI s) md = gfd (s - r) (fun i => !gMB (R (5 + 2 * r + 2 * i)) (R (5 + 2 * r + 2 * i + 2)) md 0 0 || gMB (R (5 + 2 * r + 2 * i + 2)) (R (5 + 2 * r + 2 * i)) md 0 0) r := by unfold s_chainBreak; rw [if_pos ⟨hx, hy⟩, if_pos hm, egr, nI_toInt (by omega), nI_toInt (by omega)]; rfl
        have loop : ∀ i, i ≤ s - r → ∀ h1 : GH, gQ h0 h1 R N → (∀ j, j < i → (fun i => !gMB (R (5 + 2 * r + 2 * i)) (R (5 + 2 * r + 2 * i + 2)) md 0 0 || gMB (R (5 + 2 * r + 2 * i + 2)) (R (5 + 2 * r + 2 * i)) md 0 0) j = false) → J 34 [some (.ref 0), some (.int (nI r)), some (.int (nI s)), some (.int md), some (.int (nI (r + i)))] [] h1 (n, 0, 0, fl) := by
          refine gloop _ _ (fun i hi ih h1 hQ1 hno => ?_)
          have q01 := hQ1.1.1
          refine j_p (nx := 36) hJ dX5_chainBreak_34 rfl rfl ?_
          refine j_p (nx := 37) hJ dX5_chainBreak_36 rfl rfl ?_
          refine j_ic_ge (nx := 40) (tgt := 77) hJ dX5_chainBreak_37 rfl (by decide) (fun c37 => ?_) (fun c37 => ?_)
          · refine j_c (nx := 79) hJ dX5_chainBreak_77 rfl gk_bipush_m6 ?_
            rw [gnle (by omega) (by omega)] at c37
            have e9 : gfd (s - r) (fun i => !gMB (R (5 + 2 * r + 2 * i)) (R (5 + 2 * r + 2 * i + 2)) md 0 0 || gMB (R (5 + 2 * r + 2 * i + 2)) (R (5 + 2 * r + 2 * i)) md 0 0) r = -6 := gfd_n (fun j hj => hno j (by omega))
            exact j_iret hJ dX5_chainBreak_79 ⟨by rw [e, e9], hQ1.c⟩
          · rw [gnle (by omega) (by omega)] at c37
            have hil : i < s - r := by omega
            refine j_p (nx := 41) hJ dX5_chainBreak_40 rfl rfl ?_
            refine j_p (nx := 43) hJ dX5_chainBreak_41 rfl rfl ?_
            refine j_p (nx := 45) hJ dX5_chainBreak_43 rfl rfl ?_
            refine j_c (nx := 46) hJ dX5_chainBreak_45 rfl gk_iconst_1 ?_
            refine j_p (nx := 47) hJ dX5_chainBreak_46 rfl rfl ?_
            rw [show nI (r + i) + 1 = nI (r + i + 1) from (nI_succ _).symm]
            refine j_p (nx := 48) hJ dX5_chainBreak_47 rfl rfl ?_
            refine j_cv (nx := 51) hJ dX5_chainBreak_48 rfl (r_isAsGeneral (fl := fl) (d := d + 37) hQ1 hsy (a := r + i) (b := r + i + 1) (by omega) (by omega) md) mX5_245 (by repeat (first | assumption | exact gup_same _ _ _ | rw [gup_ne _ _ (by first | decide | assumption | omega)])) kX5_isAsGeneral rfl (gle8 rfl) (fun o h2 hp => ?_)
            obtain ⟨rfl, hQ2⟩ := hp
            rw [show 5 + 2 * (r + i) = 5 + 2 * r + 2 * i by omega, show 5 + 2 * (r + i + 1) = 5 + 2 * r + 2 * i + 2 by omega]
            have q02 := hQ2.1.1
            refine j_if_eq (nx := 54) (tgt := 68) hJ dX5_chainBreak_51 rfl (by decide) (fun c51 => ?_) (fun c51 => ?_)
            · refine j_p (nx := 70) hJ dX5_chainBreak_68 rfl rfl ?_
              first | rw [gb_f] at c51 | skip
              first | rw [gb_t] at c65 | skip
              have e9 : gfd (s - r) (fun i => !gMB (R (5 + 2 * r + 2 * i)) (R (5 + 2 * r + 2 * i + 2)) md 0 0 || gMB (R (5 + 2 * r + 2 * i + 2)) (R (5 + 2 * r + 2 * i)) md 0 0) r = nI (r + i) := gfd_s hno hil (by show (!_ || _) = true; first | (rw [c51]; rfl) | (rw [c65]; simp))
              exact j_iret hJ dX5_chainBreak_70 ⟨by rw [e, e9], by first | exact hQ3.c | exact hQ2.c⟩
            · refine j_p (nx := 55) hJ dX5_chainBreak_54 rfl rfl ?_
              refine j_p (nx := 57) hJ dX5_chainBreak_55 rfl rfl ?_
              refine j_c (nx := 58) hJ dX5_chainBreak_57 rfl gk_iconst_1 ?_
              refine j_p (nx := 59) hJ dX5_chainBreak_58 rfl rfl ?_
              rw [show nI (r + i) + 1 = nI (r + i + 1) from (nI_succ _).symm]
              refine j_p (nx := 61) hJ dX5_chainBreak_59 rfl rfl ?_
              refine j_p (nx := 62) hJ dX5_chainBreak_61 rfl rfl ?_
              refine j_cv (nx := 65) hJ dX5_chainBreak_62 rfl (r_isAsGeneral (fl := fl) (d := d + 37) hQ2 hsy (a := r + i + 1) (b := r + i) (by omega) (by omega) md) mX5_245 (by repeat (first | assumption | exact gup_same _ _ _ | rw [gup_ne _ _ (by first | decide | assumption | omega)])) kX5_isAsGeneral rfl (gle8 rfl) (fun o h3 hp => ?_)
              obtain ⟨rfl, hQ3⟩ := hp
              rw [show 5 + 2 * (r + i + 1) = 5 + 2 * r + 2 * i + 2 by omega, show 5 + 2 * (r + i) = 5 + 2 * r + 2 * i by omega]
              refine j_if_eq (nx := 68) (tgt := 71) hJ dX5_chainBreak_65 rfl (by decide) (fun c65 => ?_) (fun c65 => ?_)
              · rw [gb_t] at c51
                rw [gb_f] at c65
                refine j_inc (nx := 74) hJ dX5_chainBreak_71 rfl rfl (gi1 _) rfl ?_
                refine j_go (tgt := 34) hJ dX5_chainBreak_74 (by decide) ?_
                refine ih hil h3 hQ3 (fun j hj => ?_)
                by_cases e : j = i
                · subst e; show (!_ || _) = false; rw [c51, c65]; rfl
                · exact hno j (by omega)
              · refine j_p (nx := 70) hJ dX5_chainBreak_68 rfl rfl ?_
                first | rw [gb_f] at c51 | skip
                first | rw [gb_t] at c65 | skip
                have e9 : gfd (s - r) (fun i => !gMB (R (5 + 2 * r + 2 * i)) (R (5 + 2 * r + 2 * i + 2)) md 0 0 || gMB (R (5 + 2 * r + 2 * i + 2)) (R (5 + 2 * r + 2 * i)) md 0 0) r = nI (r + i) := gfd_s hno hil (by show (!_ || _) = true; first | (rw [c51]; rfl) | (rw [c65]; simp))
                exact j_iret hJ dX5_chainBreak_70 ⟨by rw [e, e9], by first | exact hQ3.c | exact hQ2.c⟩
        exact loop 0 (Nat.zero_le _) h hQ (fun j hj => by omega)
      · refine j_p (nx := 1) hJ dX5_chainBreak_0 rfl rfl ?_
        refine j_csR (nx := 4) hJ dX5_chainBreak_1 rfl (r_isRegister (fl := fl) (d := d + 58) _) mX5_112 rfl (gle8 rfl) ?_
        rw [show gbt _ 6 = true from hx]
        refine j_if_eq (nx := 7) (tgt := 14) hJ dX5_chainBreak_4 rfl (by decide) (fun c4 => absurd c4 (by decide)) (fun c4 => ?_)
        refine j_p (nx := 8) hJ dX5_chainBreak_7 rfl rfl ?_
        refine j_csR (nx := 11) hJ dX5_chainBreak_8 rfl (r_isRegister (fl := fl) (d := d + 58) _) mX5_112 rfl (gle8 rfl) ?_
        rw [show gbt _ 6 = true from hy]
        refine j_if_ne (nx := 14) (tgt := 17) hJ dX5_chainBreak_11 rfl (by decide) (fun c11 => ?_) (fun c11 => absurd c11 (by decide))
        refine j_p (nx := 18) hJ dX5_chainBreak_17 rfl rfl ?_
        refine j_p (nx := 19) hJ dX5_chainBreak_18 rfl rfl ?_
        refine j_ic_lt (nx := 22) (tgt := 29) hJ dX5_chainBreak_19 rfl (by decide) (fun c19 => ?_) (fun c19 => ?_)
        · refine j_c (nx := 30) hJ dX5_chainBreak_29 rfl gk_iconst_m1 ?_
          have e : s_chainBreak R (nI r) (nI s) md = -1 := by unfold s_chainBreak; rw [if_pos ⟨hx, hy⟩, if_neg hm]
          exact j_iret hJ dX5_chainBreak_30 ⟨by rw [e], hQ.c⟩
        · refine j_p (nx := 23) hJ dX5_chainBreak_22 rfl rfl ?_
          refine j_csR (nx := 26) hJ dX5_chainBreak_23 rfl (r_isMode (fl := fl) (d := d + 58) md) mX5_218 rfl (gle8 rfl) ?_
          refine j_if_ne (nx := 29) (tgt := 31) hJ dX5_chainBreak_26 rfl (by decide) (fun c26 => ?_) (fun c26 => ?_)
          · rw [gb_t] at c26
            exact absurd ⟨by rw [Int32.lt_iff_toInt_lt] at c19; rw [Int32.le_iff_toInt_le]; omega, c26⟩ hm
          · refine j_c (nx := 30) hJ dX5_chainBreak_29 rfl gk_iconst_m1 ?_
            have e : s_chainBreak R (nI r) (nI s) md = -1 := by unfold s_chainBreak; rw [if_pos ⟨hx, hy⟩, if_neg hm]
            exact j_iret hJ dX5_chainBreak_30 ⟨by rw [e], hQ.c⟩
    · refine j_p (nx := 1) hJ dX5_chainBreak_0 rfl rfl ?_
      refine j_csR (nx := 4) hJ dX5_chainBreak_1 rfl (r_isRegister (fl := fl) (d := d + 58) _) mX5_112 rfl (gle8 rfl) ?_
      rw [show gbt _ 6 = true from hx]
      refine j_if_eq (nx := 7) (tgt := 14) hJ dX5_chainBreak_4 rfl (by decide) (fun c4 => absurd c4 (by decide)) (fun c4 => ?_)
      refine j_p (nx := 8) hJ dX5_chainBreak_7 rfl rfl ?_
      refine j_csR (nx := 11) hJ dX5_chainBreak_8 rfl (r_isRegister (fl := fl) (d := d + 58) _) mX5_112 rfl (gle8 rfl) ?_
      rw [show gbt _ 6 = false from Bool.eq_false_iff.mpr hy]
      refine j_if_ne (nx := 14) (tgt := 17) hJ dX5_chainBreak_11 rfl (by decide) (fun c11 => absurd c11 (by decide)) (fun c11 => ?_)
      refine j_c (nx := 16) hJ dX5_chainBreak_14 rfl gk_bipush_m2 ?_
      have e : s_chainBreak R (nI r) y md = -2 := if_neg (fun q => hy q.2)
      exact j_iret hJ dX5_chainBreak_16 ⟨by rw [e], hQ.c⟩
  · refine j_p (nx := 1) hJ dX5_chainBreak_0 rfl rfl ?_
    refine j_csR (nx := 4) hJ dX5_chainBreak_1 rfl (r_isRegister (fl := fl) (d := d + 58) _) mX5_112 rfl (gle8 rfl) ?_
    rw [show gbt _ 6 = false from Bool.eq_false_iff.mpr hx]
    refine j_if_eq (nx := 7) (tgt := 14) hJ dX5_chainBreak_4 rfl (by decide) (fun c4 => ?_) (fun c4 => absurd c4 (by decide))
    refine j_c (nx := 16) hJ dX5_chainBreak_14 rfl gk_bipush_m2 ?_
    have e : s_chainBreak R x y md = -2 := if_neg (fun q => hx q.1)
    exact j_iret hJ dX5_chainBreak_16 ⟨by rw [e], hQ.c⟩
set_option maxHeartbeats 4000000 in
theorem r_findPattern {fl : Bool} {d : Nat} {h0 h : GH} {R : Nat → List Int32} {N : Nat → Int32} (hQ : gQ h0 h R N) {k : Nat} (hk : N 1 = nI k) (hk3 : k ≤ 3) {ss : Nat} (hs : N 2 = nI ss) (hss : ss ≤ 6) (x z md : Int32) : gN fl (d + 60) yX5_findPattern [.ref 0, .int x, .int z, .int md] h (fun o h' => o = some (.int (s_findPattern R N x z md).1) ∧ gC h0 h' (s_findPattern R N x z md).2.1 (s_findPattern R N x z md).2.2) := by
  have q0 := hQ.1.1
  have q1 := hQ.1.2.1.1
  have q2 := hQ.1.2.1.2.1
  have q3 := hQ.1.2.1.2.2.1
  have q4 := hQ.1.2.1.2.2.2
  have q75 := hQ.1.2.2.2.1
  have q80 := hQ.1.2.2.2.2.2.1.1
  obtain ⟨_, _, _, _, _, _, q76x⟩ := id hQ.1.2.2.2.2.2.2.1
  have q76 := q76x.1
  have egs := gss_nI hs hss
  have egk := gkk_nI hk hk3
  refine gN.of MX5_findPattern (Nat.le_of_ble_eq_true rfl) (fun J n hJ => ?_)
  show J 0 [some (.ref 0), some (.int x), some (.int z), some (.int md)] [] h (n, 0, 0, fl)
  by_cases hx : gbt x 6 = true
  · obtain ⟨r, rfl, hr⟩ := gbt_spec hx
    have egr := gr_nI (r := r) (by omega)
    by_cases hm : (1 ≤ z.toInt ∧ z.toInt ≤ 5) ∧ gmd md = true
    · obtain ⟨zn, hzn⟩ : ∃ zn, z.toInt.toNat = zn := ⟨_, rfl⟩
      have hz := gnat (x := z) (by omega)
      rw [hzn] at hz
      rw [hz]
      refine j_p (nx := 1) hJ dX5_findPattern_0 rfl rfl ?_
      refine j_csR (nx := 4) hJ dX5_findPattern_1 rfl (r_isRegister (fl := fl) (d := d + 58) _) mX5_112 rfl (gle8 rfl) ?_
      rw [show gbt _ 6 = true from hx]
      refine j_if_ne (nx := 7) (tgt := 10) hJ dX5_findPattern_4 rfl (by decide) (fun c4 => ?_) (fun c4 => absurd c4 (by decide))
      refine j_p (nx := 11) hJ dX5_findPattern_10 rfl rfl ?_
      refine j_c (nx := 12) hJ dX5_findPattern_11 rfl gk_iconst_1 ?_
      refine j_ic_lt (nx := 15) (tgt := 27) hJ dX5_findPattern_12 rfl (by decide) (fun c12 => absurd c12 (by rw [Int32.lt_iff_toInt_lt, show (1 : Int32).toInt = 1 by decide, ← hz]; omega)) (fun c12 => ?_)
      refine j_p (nx := 16) hJ dX5_findPattern_15 rfl rfl ?_
      refine j_c (nx := 17) hJ dX5_findPattern_16 rfl gk_iconst_5 ?_
      refine j_ic_gt (nx := 20) (tgt := 27) hJ dX5_findPattern_17 rfl (by decide) (fun c17 => absurd c17 (by rw [Int32.lt_iff_toInt_lt, show (5 : Int32).toInt = 5 by decide, ← hz]; omega)) (fun c17 => ?_)
      refine j_p (nx := 21) hJ dX5_findPattern_20 rfl rfl ?_
      refine j_csR (nx := 24) hJ dX5_findPattern_21 rfl (r_isMode (fl := fl) (d := d + 58) _) mX5_218 rfl (gle8 rfl) ?_
      rw [show gmd _ = true from hm.2]
      refine j_if_ne (nx := 27) (tgt := 29) hJ dX5_findPattern_24 rfl (by decide) (fun c24 => ?_) (fun c24 => absurd c24 (by decide))
      have e0 : s_findPattern R N (nI r) z md = match gFB (fun i => R (25 + 2 * i)) ss md k zn with | some l => (gltr l, gU R (5 + 2 * r) l, N) | none => (-6, R, N) := by unfold s_findPattern; rw [if_pos hx, if_pos hm, egr, egs, egk, hzn]
      obtain ⟨g, V, hS⟩ := hQ.sv hk hs
      refine j_p (nx := 30) hJ dX5_findPattern_29 rfl rfl ?_
      refine j_get (nx := 33) hJ dX5_findPattern_30 rfl fX5_50 (by repeat (first | assumption | exact gup_same _ _ _ | rw [gup_ne _ _ (by first | decide | assumption | omega)])) (by rfl) ?_
      refine j_p (nx := 34) hJ dX5_findPattern_33 rfl rfl ?_
      refine j_get (nx := 37) hJ dX5_findPattern_34 rfl fX5_12 (by repeat (first | assumption | exact gup_same _ _ _ | rw [gup_ne _ _ (by first | decide | assumption | omega)])) (by rfl) ?_
      refine j_p (nx := 38) hJ dX5_findPattern_37 rfl rfl ?_
      refine j_p (nx := 39) hJ dX5_findPattern_38 rfl rfl ?_
      refine j_cv (nx := 42) hJ dX5_findPattern_39 rfl (r_findBest (fl := fl) (d := d + 19) hS hss hk3 md (gn := zn) (by omega)) mX5_249 (by repeat (first | assumption | exact gup_same _ _ _ | rw [gup_ne _ _ (by first | decide | assumption | omega)])) kX3_findBest rfl (gle8 rfl) (fun o h2 hp => ?_)
      obtain ⟨rfl, ⟨V', hS2⟩, hF2⟩ := hp
      have hQ2 := hQ.ofSv hS2 hF2
      refine j_if_ne (nx := 45) (tgt := 48) hJ dX5_findPattern_42 rfl (by decide) (fun c42 => ?_) (fun c42 => ?_)
      rotate_left
      · have hg := gsome_f c42
        rw [hg] at e0
        refine j_c (nx := 47) hJ dX5_findPattern_45 rfl gk_bipush_m6 ?_
        exact j_iret hJ dX5_findPattern_47 ⟨by rw [e0], by rw [e0]; exact hQ2.cc (fun a p1 p2 p3 => by simp [gU, p1, p2, p3]) (fun i hi => by rw [gU_n _ _ (by omega), gU_n _ _ (by omega), gU_n _ _ (by omega)])⟩
      obtain ⟨l, hg⟩ := gsome_t c42
      rw [hg] at e0 hQ2
      have hQ2 : gQ h0 h2 (gU R 81 l) _ := hQ2
      have q02 := hQ2.1.1
      have q802 := hQ2.1.2.2.2.2.2.1.1
      refine j_p (nx := 49) hJ dX5_findPattern_48 rfl rfl ?_
      refine j_p (nx := 50) hJ dX5_findPattern_49 rfl rfl ?_
      refine j_p (nx := 51) hJ dX5_findPattern_50 rfl rfl ?_
      refine j_get (nx := 54) hJ dX5_findPattern_51 rfl fX5_50 (by repeat (first | assumption | exact gup_same _ _ _ | rw [gup_ne _ _ (by first | decide | assumption | omega)])) (by rfl) ?_
      refine j_get (nx := 57) hJ dX5_findPattern_54 rfl fX5_253 (by repeat (first | assumption | exact gup_same _ _ _ | rw [gup_ne _ _ (by first | decide | assumption | omega)])) (by rfl) ?_
      refine j_cv (nx := 60) hJ dX5_findPattern_57 rfl (r_store (fl := fl) (d := d + 56) hQ2 hr (q := 81) (by unfold gisR; omega) (by omega) (by omega)) mX5_115 (by repeat (first | assumption | exact gup_same _ _ _ | rw [gup_ne _ _ (by first | decide | assumption | omega)])) kX5_store rfl (gle8 rfl) (fun o h3 hp => ?_)
      obtain ⟨rfl, hQ3⟩ := hp
      have q03 := hQ3.1.1
      have q803 := hQ3.1.2.2.2.2.2.1.1
      have hC3 := hQ3.r8 (r := 81) (by unfold gisR; omega) (by omega) (by omega)
      have hC3r := hC3.2.2.2.1
      refine j_p (nx := 61) hJ dX5_findPattern_60 rfl rfl ?_
      refine j_p (nx := 62) hJ dX5_findPattern_61 rfl rfl ?_
      refine j_get (nx := 65) hJ dX5_findPattern_62 rfl fX5_50 (by repeat (first | assumption | exact gup_same _ _ _ | rw [gup_ne _ _ (by first | decide | assumption | omega)])) (by rfl) ?_
      refine j_get (nx := 68) hJ dX5_findPattern_65 rfl fX5_253 (by repeat (first | assumption | exact gup_same _ _ _ | rw [gup_ne _ _ (by first | decide | assumption | omega)])) (by rfl) ?_
      refine j_cvR (nx := 71) hJ dX5_findPattern_68 rfl (r_letterCount (fl := fl) (d := d + 57) hC3) mX5_85 (by repeat (first | assumption | exact gup_same _ _ _ | rw [gup_ne _ _ (by first | decide | assumption | omega)])) kX2_letterCount rfl (gle8 rfl) ?_
      rw [gU_n _ _ (show (81 : Nat) ≠ 5 + 2 * r by omega), gU_s]
      exact j_iret hJ dX5_findPattern_71 ⟨by rw [e0], by rw [e0]; exact hQ3.cc (fun a p1 p2 p3 => by simp [gU, p1, p2, p3]) (fun i hi => by rw [gU_n _ _ (by omega), gU_n _ _ (by omega), gU_n _ _ (by omega)])⟩
    · refine j_p (nx := 1) hJ dX5_findPattern_0 rfl rfl ?_
      refine j_csR (nx := 4) hJ dX5_findPattern_1 rfl (r_isRegister (fl := fl) (d := d + 58) _) mX5_112 rfl (gle8 rfl) ?_
      rw [show gbt _ 6 = true from hx]
      refine j_if_ne (nx := 7) (tgt := 10) hJ dX5_findPattern_4 rfl (by decide) (fun c4 => ?_) (fun c4 => absurd c4 (by decide))
      refine j_p (nx := 11) hJ dX5_findPattern_10 rfl rfl ?_
      refine j_c (nx := 12) hJ dX5_findPattern_11 rfl gk_iconst_1 ?_
      refine j_ic_lt (nx := 15) (tgt := 27) hJ dX5_findPattern_12 rfl (by decide) (fun c12 => ?_) (fun c12 => ?_)
      · refine j_c (nx := 28) hJ dX5_findPattern_27 rfl gk_iconst_m1 ?_
        have e : s_findPattern R N (nI r) z md = (-1, R, N) := by unfold s_findPattern; rw [if_pos hx, if_neg hm]
        exact j_iret hJ dX5_findPattern_28 ⟨by rw [e], by rw [e]; exact hQ.c⟩
      · refine j_p (nx := 16) hJ dX5_findPattern_15 rfl rfl ?_
        refine j_c (nx := 17) hJ dX5_findPattern_16 rfl gk_iconst_5 ?_
        refine j_ic_gt (nx := 20) (tgt := 27) hJ dX5_findPattern_17 rfl (by decide) (fun c17 => ?_) (fun c17 => ?_)
        · refine j_c (nx := 28) hJ dX5_findPattern_27 rfl gk_iconst_m1 ?_
          have e : s_findPattern R N (nI r) z md = (-1, R, N) := by unfold s_findPattern; rw [if_pos hx, if_neg hm]
          exact j_iret hJ dX5_findPattern_28 ⟨by rw [e], by rw [e]; exact hQ.c⟩
        · refine j_p (nx := 21) hJ dX5_findPattern_20 rfl rfl ?_
          refine j_csR (nx := 24) hJ dX5_findPattern_21 rfl (r_isMode (fl := fl) (d := d + 58) md) mX5_218 rfl (gle8 rfl) ?_
          refine j_if_ne (nx := 27) (tgt := 29) hJ dX5_findPattern_24 rfl (by decide) (fun c24 => ?_) (fun c24 => ?_)
          · rw [gb_t] at c24
            first | rw [Int32.lt_iff_toInt_lt, show (1 : Int32).toInt = 1 by decide] at c12 | skip
            first | rw [Int32.lt_iff_toInt_lt, show (5 : Int32).toInt = 5 by decide] at c17 | skip
            exact absurd ⟨⟨by omega, by omega⟩, c24⟩ hm
          · refine j_c (nx := 28) hJ dX5_findPattern_27 rfl gk_iconst_m1 ?_
            have e : s_findPattern R N (nI r) z md = (-1, R, N) := by unfold s_findPattern; rw [if_pos hx, if_neg hm]
            exact j_iret hJ dX5_findPattern_28 ⟨by rw [e], by rw [e]; exact hQ.c⟩
  · refine j_p (nx := 1) hJ dX5_findPattern_0 rfl rfl ?_
    refine j_csR (nx := 4) hJ dX5_findPattern_1 rfl (r_isRegister (fl := fl) (d := d + 58) _) mX5_112 rfl (gle8 rfl) ?_
    rw [show gbt _ 6 = false from Bool.eq_false_iff.mpr hx]
    refine j_if_ne (nx := 7) (tgt := 10) hJ dX5_findPattern_4 rfl (by decide) (fun c4 => absurd c4 (by decide)) (fun c4 => ?_)
    refine j_c (nx := 9) hJ dX5_findPattern_7 rfl gk_bipush_m2 ?_
    have e : s_findPattern R N x z md = (-2, R, N) := if_neg hx
    exact j_iret hJ dX5_findPattern_9 ⟨by rw [e], by rw [e]; exact hQ.c⟩
set_option maxHeartbeats 4000000 in
theorem r_findOneVariable {fl : Bool} {d : Nat} {h0 h : GH} {R : Nat → List Int32} {N : Nat → Int32} (hQ : gQ h0 h R N) {k : Nat} (hk : N 1 = nI k) (hk3 : k ≤ 3) {ss : Nat} (hs : N 2 = nI ss) (hss : ss ≤ 6) (x : Int32) : gN fl (d + 60) yX5_findOneVariable [.ref 0, .int x] h (fun o h' => o = some (.int (s_findOneVariable R N x).1) ∧ gC h0 h' (s_findOneVariable R N x).2.1 (s_findOneVariable R N x).2.2) := by
  have q0 := hQ.1.1
  have q1 := hQ.1.2.1.1
  have q2 := hQ.1.2.1.2.1
  have q3 := hQ.1.2.1.2.2.1
  have q4 := hQ.1.2.1.2.2.2
  have q75 := hQ.1.2.2.2.1
  have q80 := hQ.1.2.2.2.2.2.1.1
  obtain ⟨_, _, _, _, _, _, q76x⟩ := id hQ.1.2.2.2.2.2.2.1
  have q76 := q76x.1
  have egs := gss_nI hs hss
  have egk := gkk_nI hk hk3
  refine gN.of MX5_findOneVariable (Nat.le_of_ble_eq_true rfl) (fun J n hJ => ?_)
  show J 0 [some (.ref 0), some (.int x)] [] h (n, 0, 0, fl)
  by_cases hx : gbt x 6 = true
  · obtain ⟨r, rfl, hr⟩ := gbt_spec hx
    have egr := gr_nI (r := r) (by omega)
    refine j_p (nx := 1) hJ dX5_findOneVariable_0 rfl rfl ?_
    refine j_csR (nx := 4) hJ dX5_findOneVariable_1 rfl (r_isRegister (fl := fl) (d := d + 58) _) mX5_112 rfl (gle8 rfl) ?_
    rw [show gbt _ 6 = true from hx]
    refine j_if_ne (nx := 7) (tgt := 10) hJ dX5_findOneVariable_4 rfl (by decide) (fun c4 => ?_) (fun c4 => absurd c4 (by decide))
    have e0 : s_findOneVariable R N (nI r) = match gFX (fun i => R (25 + 2 * i)) ss k with | some l => (nI l.length, gU R (5 + 2 * r) l, N) | none => (-6, R, N) := by unfold s_findOneVariable; rw [if_pos hx, egr, egs, egk]
    obtain ⟨g, V, hS⟩ := hQ.sv hk hs
    refine j_p (nx := 11) hJ dX5_findOneVariable_10 rfl rfl ?_
    refine j_get (nx := 14) hJ dX5_findOneVariable_11 rfl fX5_50 (by repeat (first | assumption | exact gup_same _ _ _ | rw [gup_ne _ _ (by first | decide | assumption | omega)])) (by rfl) ?_
    refine j_p (nx := 15) hJ dX5_findOneVariable_14 rfl rfl ?_
    refine j_get (nx := 18) hJ dX5_findOneVariable_15 rfl fX5_12 (by repeat (first | assumption | exact gup_same _ _ _ | rw [gup_ne _ _ (by first | decide | assumption | omega)])) (by rfl) ?_
    refine j_cv (nx := 21) hJ dX5_findOneVariable_18 rfl (r_findLongestOfX (fl := fl) (d := d + 19) hS hss hk3) mX5_256 (by repeat (first | assumption | exact gup_same _ _ _ | rw [gup_ne _ _ (by first | decide | assumption | omega)])) kX3_findLongestOfX rfl (gle8 rfl) (fun o h2 hp => ?_)
    obtain ⟨rfl, ⟨g2, V', hS2⟩, hF2⟩ := hp
    have hQ2 := hQ.ofSv hS2 hF2
    refine j_if_eq (nx := 24) (tgt := 39) hJ dX5_findOneVariable_21 rfl (by decide) (fun c21 => ?_) (fun c21 => ?_)
    · have hg := gsome_f c21
      rw [hg] at e0
      refine j_c (nx := 41) hJ dX5_findOneVariable_39 rfl gk_bipush_m6 ?_
      exact j_iret hJ dX5_findOneVariable_41 ⟨by rw [e0], by rw [e0]; exact hQ2.cc (fun a p1 p2 p3 => by simp [gU, p1, p2, p3]) (fun i hi => by rw [gU_n _ _ (by omega), gU_n _ _ (by omega), gU_n _ _ (by omega)])⟩
    obtain ⟨l, hg⟩ := gsome_t c21
    rw [hg] at e0 hQ2
    have hQ2 : gQ h0 h2 (gU R 81 l) _ := hQ2
    have q02 := hQ2.1.1
    have q802 := hQ2.1.2.2.2.2.2.1.1
    refine j_p (nx := 25) hJ dX5_findOneVariable_24 rfl rfl ?_
    refine j_p (nx := 26) hJ dX5_findOneVariable_25 rfl rfl ?_
    refine j_p (nx := 27) hJ dX5_findOneVariable_26 rfl rfl ?_
    refine j_get (nx := 30) hJ dX5_findOneVariable_27 rfl fX5_50 (by repeat (first | assumption | exact gup_same _ _ _ | rw [gup_ne _ _ (by first | decide | assumption | omega)])) (by rfl) ?_
    refine j_get (nx := 33) hJ dX5_findOneVariable_30 rfl fX5_253 (by repeat (first | assumption | exact gup_same _ _ _ | rw [gup_ne _ _ (by first | decide | assumption | omega)])) (by rfl) ?_
    refine j_cv (nx := 36) hJ dX5_findOneVariable_33 rfl (r_store (fl := fl) (d := d + 56) hQ2 hr (q := 81) (by unfold gisR; omega) (by omega) (by omega)) mX5_115 (by repeat (first | assumption | exact gup_same _ _ _ | rw [gup_ne _ _ (by first | decide | assumption | omega)])) kX5_store rfl (gle8 rfl) (fun o h3 hp => ?_)
    obtain ⟨rfl, hQ3⟩ := hp
    refine j_go (tgt := 41) hJ dX5_findOneVariable_36 (by decide) ?_
    exact j_iret hJ dX5_findOneVariable_41 ⟨by rw [e0, gU_s], by rw [e0]; exact hQ3.cc (fun a p1 p2 p3 => by simp [gU, p1, p2, p3]) (fun i hi => by rw [gU_n _ _ (by omega), gU_n _ _ (by omega), gU_n _ _ (by omega)])⟩
  · refine j_p (nx := 1) hJ dX5_findOneVariable_0 rfl rfl ?_
    refine j_csR (nx := 4) hJ dX5_findOneVariable_1 rfl (r_isRegister (fl := fl) (d := d + 58) _) mX5_112 rfl (gle8 rfl) ?_
    rw [show gbt _ 6 = false from Bool.eq_false_iff.mpr hx]
    refine j_if_ne (nx := 7) (tgt := 10) hJ dX5_findOneVariable_4 rfl (by decide) (fun c4 => absurd c4 (by decide)) (fun c4 => ?_)
    refine j_c (nx := 9) hJ dX5_findOneVariable_7 rfl gk_bipush_m2 ?_
    have e : s_findOneVariable R N x = (-2, R, N) := if_neg hx
    exact j_iret hJ dX5_findOneVariable_9 ⟨by rw [e], by rw [e]; exact hQ.c⟩
