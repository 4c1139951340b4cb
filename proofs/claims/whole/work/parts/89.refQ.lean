theorem gb1 {b : Bool} : gb b = 1 ↔ b = true := by cases b <;> decide
/-- only the matching's own cells differ -/
def gFx (A A' : Nat → Nat → Int32) (M M' : Nat → Int32) : Prop := (∀ a, a ≠ 109 → a ≠ 110 → a ≠ 111 → a ≠ 112 → A' a = A a) ∧ ∀ i, i ≠ 14 → i ≠ 15 → i ≠ 17 → i ≠ 21 → i ≠ 22 → i ≠ 23 → M' i = M i
theorem gFx.rf {A : Nat → Nat → Int32} {M : Nat → Int32} : gFx A A M M := ⟨fun _ _ _ _ _ => rfl, fun _ _ _ _ _ _ _ => rfl⟩
theorem gFx.tr {A A1 A2 : Nat → Nat → Int32} {M M1 M2 : Nat → Int32} (h : gFx A A1 M M1) (g : gFx A1 A2 M1 M2) : gFx A A2 M M2 := ⟨fun a p1 p2 p3 p4 => (g.1 a p1 p2 p3 p4).trans (h.1 a p1 p2 p3 p4), fun i p1 p2 p3 p4 p5 p6 => (g.2 i p1 p2 p3 p4 p5 p6).trans (h.2 i p1 p2 p3 p4 p5 p6)⟩
theorem gG.fx {A A' : Nat → Nat → Int32} {E : Nat → Nat → Int64} {M M' : Nat → Int32} {R : Nat → List Int32} {N : Nat → Int32} (hG : gG A E M R N) (h : gFx A A' M M') : gG A' E M' R N :=
  hG.scr (fun a ha => h.1 a (by omega) (by omega) (by omega) (by omega)) rfl ⟨h.2 0 (by omega) (by omega) (by omega) (by omega) (by omega) (by omega), h.2 5 (by omega) (by omega) (by omega) (by omega) (by omega) (by omega), h.2 9 (by omega) (by omega) (by omega) (by omega) (by omega) (by omega), h.2 33 (by omega) (by omega) (by omega) (by omega) (by omega) (by omega), h.2 34 (by omega) (by omega) (by omega) (by omega) (by omega) (by omega), h.2 35 (by omega) (by omega) (by omega) (by omega) (by omega) (by omega)⟩
set_option maxHeartbeats 4000000 in
theorem r6_misfit {d : Nat} {h0 h : GH} {A : Nat → Nat → Int32} {E : Nat → Nat → Int64} {M : Nat → Int32} {pv tv : Value} (hP : gP h0 h A E M pv tv) {R : Nat → List Int32} {N : Nat → Int32} (hG : gG A E M R N) {ss : Nat} (hs : N 2 = nI ss) (hss : ss ≤ 6) {pa po : Nat} {p : List Int32} (xpa : gia' pa) (xpn : pa < 109 ∨ 112 < pa) (xsp : gSt (A pa) po p) (xpl : po + p.length ≤ gasz pa) (xsy : ∀ c ∈ p, gsy c) {md : Int32} (hmd : gmd md = true) : gN false (d + 9) yX6_misfit [.ref 99, .ref pa, .int (nI po), .int (nI p.length), .int md] h (fun o h' => o = some (.int (gfd ss (fun i => decide (gsol p (R (25 + 2 * i)) md = [])) 0)) ∧ ∃ A' M' pv' tv', gP h0 h' A' E M' pv' tv' ∧ gFx A A' M M') := by
  have egs := gss_nI hs hss
  refine gN.of MX6_misfit (Nat.le_of_ble_eq_true rfl) (fun J n hJ => ?_)
  show J 0 [some (.ref 99), some (.ref pa), some (.int (nI po)), some (.int (nI p.length)), some (.int md), none] [] h (n, 0, 0, false)
  have loop : ∀ i, i ≤ ss → ∀ (h1 : GH) (A1 : Nat → Nat → Int32) (M1 : Nat → Int32) (pv1 tv1 : Value), gP h0 h1 A1 E M1 pv1 tv1 → gG A1 E M1 R N → gFx A A1 M M1 → (∀ j, j < i → (fun i => decide (gsol p (R (25 + 2 * i)) md = [])) j = false) → J 3 [some (.ref 99), some (.ref pa), some (.int (nI po)), some (.int (nI p.length)), some (.int md), some (.int (nI i))] [] h1 (n, 0, 0, false) := by
    refine gloop _ _ (fun i hi ih h1 A1 M1 pv1 tv1 hP1 hG1 hfx hno => ?_)
    refine j_p (nx := 5) hJ dX6_misfit_3 rfl rfl ?_
    refine j_p (nx := 6) hJ dX6_misfit_5 rfl rfl ?_
    refine j_get (nx := 9) hJ dX6_misfit_6 rfl fX6_98 hP1.1.1 (by rfl) ?_
    rw [hG1.1.2.1.trans hs]
    refine j_ic_ge (nx := 12) (tgt := 50) hJ dX6_misfit_9 rfl (by decide) (fun c9 => ?_) (fun c9 => ?_)
    · refine j_c (nx := 52) hJ dX6_misfit_50 rfl gk_bipush_m6 ?_
      rw [gnle (by omega) (by omega)] at c9
      have e9 : gfd ss (fun i => decide (gsol p (R (25 + 2 * i)) md = [])) 0 = -6 := gfd_n (fun j hj => hno j (by omega))
      exact j_iret hJ dX6_misfit_52 ⟨by rw [e9], A1, M1, _, _, hP1, hfx⟩
    · rw [gnle (by omega) (by omega)] at c9
      have hil : i < ss := by omega
      have hw := hG1.2.2.2.1 i (by omega) (by omega)
      have hw8 := hw.2.1
      refine j_p (nx := 13) hJ dX6_misfit_12 rfl rfl ?_
      refine j_p (nx := 14) hJ dX6_misfit_13 rfl rfl ?_
      refine j_p (nx := 15) hJ dX6_misfit_14 rfl rfl ?_
      refine j_p (nx := 16) hJ dX6_misfit_15 rfl rfl ?_
      refine j_p (nx := 17) hJ dX6_misfit_16 rfl rfl ?_
      refine j_get (nx := 20) hJ dX6_misfit_17 rfl fX6_22 hP1.1.1 (by rfl) ?_
      refine j_c (nx := 22) hJ dX6_misfit_20 rfl gk_bipush_8 ?_
      refine j_p (nx := 24) hJ dX6_misfit_22 rfl rfl ?_
      refine j_p (nx := 25) hJ dX6_misfit_24 rfl rfl ?_
      rw [show (8 : Int32) = nI 8 from rfl, gmul]
      refine j_p (nx := 26) hJ dX6_misfit_25 rfl rfl ?_
      refine j_get (nx := 29) hJ dX6_misfit_26 rfl fX6_25 hP1.1.1 (by rfl) ?_
      refine j_p (nx := 31) hJ dX6_misfit_29 rfl rfl ?_
      refine j_iald (j := i) (nx := 32) hJ dX6_misfit_31 rfl (show h1 103 = some (gia 6 (A1 103)) from hP1.a 103 (by unfold gia'; omega)) rfl (by omega) (by decide) ?_
      rw [hw.1]
      refine j_p (nx := 34) hJ dX6_misfit_32 rfl rfl ?_
      refine j_c (nx := 35) hJ dX6_misfit_34 rfl gk_iconst_1 ?_
      refine j_cv (nx := 38) hJ dX6_misfit_35 rfl (r6_matchP (d := d) hP1 (pa := pa) (po := po) (ta := 102) (tq := 8 * i) (p := p) (t := R (25 + 2 * i)) xpa (by unfold gia'; omega) xpn (by omega) (by rw [hfx.1 pa (by omega) (by omega) (by omega) (by omega)]; exact xsp) hw.2.2 xpl (by show 8 * i + _ ≤ 48; omega) xsy hmd (mst := 1) (by omega) (by omega)) mX6_217 hP1.1.1 kX6_match rfl (gle8 rfl) (fun o h2 hp => ?_)
      obtain ⟨rfl, A2, M2, hP2, k1, k2, -⟩ := hp
      rw [gmin1s]
      refine j_if_ne (nx := 41) (tgt := 44) hJ dX6_misfit_38 rfl (by decide) (fun c38 => ?_) (fun c38 => ?_)
      · rw [gb_t] at c38
        replace c38 := of_decide_eq_true c38
        refine j_inc (nx := 47) hJ dX6_misfit_44 rfl rfl (gi1 i) rfl ?_
        refine j_go (tgt := 3) hJ dX6_misfit_47 (by decide) ?_
        refine ih hil h2 A2 M2 _ _ hP2 (hG1.fx ⟨k1, k2⟩) (hfx.tr ⟨k1, k2⟩) (fun j hj => ?_)
        by_cases e : j = i
        · subst e; exact decide_eq_false c38
        · exact hno j (by omega)
      · refine j_p (nx := 43) hJ dX6_misfit_41 rfl rfl ?_
        rw [gb_f] at c38
        replace c38 := of_decide_eq_false c38
        have e9 : gfd ss (fun i => decide (gsol p (R (25 + 2 * i)) md = [])) 0 = nI (0 + i) := gfd_s hno hil (decide_eq_true (Classical.not_not.mp c38))
        rw [Nat.zero_add] at e9
        exact j_iret hJ dX6_misfit_43 ⟨by rw [e9], A2, M2, _, _, hP2, hfx.tr ⟨k1, k2⟩⟩
  refine j_c (nx := 1) hJ dX6_misfit_0 rfl gk_iconst_0 ?_
  refine j_p (nx := 3) hJ dX6_misfit_1 rfl rfl ?_
  exact loop 0 (Nat.zero_le _) h A M pv tv hP hG gFx.rf (fun j hj => by omega)
set_option maxHeartbeats 4000000 in
theorem r6_firstMisfit {d : Nat} {h0 h : GH} {R : Nat → List Int32} {N : Nat → Int32} (hS : gRS h0 h R N) (hI : gInv R N) (x md : Int32) : gN false (d + 60) yX6_firstMisfit [.ref 99, .int x, .int md] h (fun o h' => o = some (.int (s_firstMisfit R N x md)) ∧ gRS h0 h' R N) := by
  obtain ⟨A, E, M, pv, tv, hP, hG⟩ := hS
  have g0 := hG.1.1
  have g9 := hG.1.2.2.1
  obtain ⟨⟨k, ss, hk1, hk3, hss1, hss6, hpt, him, hsm⟩, hI2, hI3, hI4, hI5⟩ := hI
  have egs := gss_nI hss1 hss6
  refine gN.of MX6_firstMisfit (Nat.le_of_ble_eq_true rfl) (fun J n hJ => ?_)
  show J 0 [some (.ref 99), some (.int x), some (.int md)] [] h (n, 0, 0, false)
  by_cases hx : gbt x 6 = true
  · obtain ⟨r, rfl, hr⟩ := gbt_spec hx
    have egr := gr_nI (r := r) (by omega)
    have hl := hG.2.1 r hr
    have hl8 := hl.2.1
    have hpr := hpt r hr
    have hpr : gPt k (R (5 + 2 * r)) := hpr
    by_cases hm : gmd md = true
    · refine j_p (nx := 1) hJ dX6_firstMisfit_0 rfl rfl ?_
      refine j_csR (nx := 4) hJ dX6_firstMisfit_1 rfl (r6_isRegister (fl := false) (d := d + 57) _) mX6_139 rfl (gle8 rfl) ?_
      rw [show gbt _ 6 = true from hx]
      refine j_if_ne (nx := 7) (tgt := 10) hJ dX6_firstMisfit_4 rfl (by decide) (fun c4 => ?_) (fun c4 => absurd c4 (by decide))
      refine j_p (nx := 11) hJ dX6_firstMisfit_10 rfl rfl ?_
      refine j_csR (nx := 14) hJ dX6_firstMisfit_11 rfl (r6_isMode (fl := false) (d := d + 57) _) mX6_221 rfl (gle8 rfl) ?_
      rw [show gmd _ = true from hm]
      refine j_if_eq (nx := 17) (tgt := 39) hJ dX6_firstMisfit_14 rfl (by decide) (fun c14 => absurd c14 (by decide)) (fun c14 => ?_)
      refine j_p (nx := 18) hJ dX6_firstMisfit_17 rfl rfl ?_
      refine j_p (nx := 19) hJ dX6_firstMisfit_18 rfl rfl ?_
      refine j_get (nx := 22) hJ dX6_firstMisfit_19 rfl fX6_15 hP.1.1 (by rfl) ?_
      refine j_c (nx := 24) hJ dX6_firstMisfit_22 rfl gk_bipush_8 ?_
      refine j_p (nx := 25) hJ dX6_firstMisfit_24 rfl rfl ?_
      refine j_p (nx := 26) hJ dX6_firstMisfit_25 rfl rfl ?_
      rw [show (8 : Int32) = nI 8 from rfl, gmul]
      refine j_p (nx := 27) hJ dX6_firstMisfit_26 rfl rfl ?_
      refine j_get (nx := 30) hJ dX6_firstMisfit_27 rfl fX6_19 hP.1.1 (by rfl) ?_
      refine j_p (nx := 31) hJ dX6_firstMisfit_30 rfl rfl ?_
      refine j_iald (j := r) (nx := 32) hJ dX6_firstMisfit_31 rfl (show h 101 = some (gia 6 (A 101)) from hP.a 101 (by unfold gia'; omega)) rfl (by omega) (by decide) ?_
      rw [hl.1]
      refine j_p (nx := 33) hJ dX6_firstMisfit_32 rfl rfl ?_
      refine j_cv (nx := 36) hJ dX6_firstMisfit_33 rfl (r6_misfit (d := d + 50) hP hG hss1 hss6 (pa := 100) (po := 8 * r) (p := (R (5 + 2 * r))) (by unfold gia'; omega) (by omega) hl.2.2 (by show 8 * r + _ ≤ 48; omega) (hpr.sy hk3.2) hm) mX6_246 hP.1.1 kX6_misfit rfl (gle8 rfl) (fun o h1 hp => ?_)
      obtain ⟨rfl, A1, M1, pv1, tv1, hP1, hfx⟩ := hp
      refine j_go (tgt := 40) hJ dX6_firstMisfit_36 (by decide) ?_
      have e : s_firstMisfit R N (nI r) md = gfd ss (fun i => decide (gsol (R (5 + 2 * r)) (R (25 + 2 * i)) md = [])) 0 := by
        unfold s_firstMisfit
        rw [if_pos hx, if_pos hm, egr, egs]
        congr 1
        funext i
        rw [gMB_sol (hpr.sy hk3.2) hpr.2.2.2.2]
        by_cases q : gsol (R (5 + 2 * r)) (R (25 + 2 * i)) md = [] <;> simp [q]
      exact j_iret hJ dX6_firstMisfit_40 ⟨by rw [e], _, _, _, _, _, hP1, hG.fx hfx⟩
    · refine j_p (nx := 1) hJ dX6_firstMisfit_0 rfl rfl ?_
      refine j_csR (nx := 4) hJ dX6_firstMisfit_1 rfl (r6_isRegister (fl := false) (d := d + 57) _) mX6_139 rfl (gle8 rfl) ?_
      rw [show gbt _ 6 = true from hx]
      refine j_if_ne (nx := 7) (tgt := 10) hJ dX6_firstMisfit_4 rfl (by decide) (fun c4 => ?_) (fun c4 => absurd c4 (by decide))
      refine j_p (nx := 11) hJ dX6_firstMisfit_10 rfl rfl ?_
      refine j_csR (nx := 14) hJ dX6_firstMisfit_11 rfl (r6_isMode (fl := false) (d := d + 57) _) mX6_221 rfl (gle8 rfl) ?_
      rw [show gmd _ = false from Bool.eq_false_iff.mpr hm]
      refine j_if_eq (nx := 17) (tgt := 39) hJ dX6_firstMisfit_14 rfl (by decide) (fun c14 => ?_) (fun c14 => absurd c14 (by decide))
      refine j_c (nx := 40) hJ dX6_firstMisfit_39 rfl gk_iconst_m1 ?_
      have e : s_firstMisfit R N (nI r) md = -1 := by unfold s_firstMisfit; rw [if_pos hx, if_neg hm]
      exact j_iret hJ dX6_firstMisfit_40 ⟨by rw [e], ⟨A, E, M, pv, tv, hP, hG⟩⟩
  · refine j_p (nx := 1) hJ dX6_firstMisfit_0 rfl rfl ?_
    refine j_csR (nx := 4) hJ dX6_firstMisfit_1 rfl (r6_isRegister (fl := false) (d := d + 57) _) mX6_139 rfl (gle8 rfl) ?_
    rw [show gbt _ 6 = false from Bool.eq_false_iff.mpr hx]
    refine j_if_ne (nx := 7) (tgt := 10) hJ dX6_firstMisfit_4 rfl (by decide) (fun c4 => absurd c4 (by decide)) (fun c4 => ?_)
    refine j_c (nx := 9) hJ dX6_firstMisfit_7 rfl gk_bipush_m2 ?_
    have e : s_firstMisfit R N x md = -2 := if_neg hx
    exact j_iret hJ dX6_firstMisfit_9 ⟨by rw [e], ⟨A, E, M, pv, tv, hP, hG⟩⟩
set_option maxHeartbeats 4000000 in
theorem r6_covers {d : Nat} {h0 h : GH} {A : Nat → Nat → Int32} {E : Nat → Nat → Int64} {M : Nat → Int32} {pv tv : Value} (hP : gP h0 h A E M pv tv) {R : Nat → List Int32} {N : Nat → Int32} (hG : gG A E M R N) {k a b : Nat} (hk3 : k ≤ 3) (hpt : ∀ r, r < 6 → gPt k (R (5 + 2 * r))) (ha : a < 6) (hb : b < 6) {md : Int32} (hmd : gmd md = true) : gN false (d + 9) yX6_covers [.ref 99, .int (nI a), .int (nI b), .int md] h (fun o h' => o = some (.int (gb (gMB (R (5 + 2 * a)) (R (5 + 2 * b)) md 0 0))) ∧ gRS h0 h' R N) := by
  have hl := hG.2.1 a ha
  have hl8 := hl.2.1
  have hls := hG.2.1 b hb
  have hls8 := hls.2.1
  refine gN.of MX6_covers (Nat.le_of_ble_eq_true rfl) (fun J n hJ => ?_)
  show J 0 [some (.ref 99), some (.int (nI a)), some (.int (nI b)), some (.int md)] [] h (n, 0, 0, false)
  refine j_p (nx := 1) hJ dX6_covers_0 rfl rfl ?_
  refine j_p (nx := 2) hJ dX6_covers_1 rfl rfl ?_
  refine j_get (nx := 5) hJ dX6_covers_2 rfl fX6_15 hP.1.1 (by rfl) ?_
  refine j_c (nx := 7) hJ dX6_covers_5 rfl gk_bipush_8 ?_
  refine j_p (nx := 8) hJ dX6_covers_7 rfl rfl ?_
  refine j_p (nx := 9) hJ dX6_covers_8 rfl rfl ?_
  rw [show (8 : Int32) = nI 8 from rfl, gmul]
  refine j_p (nx := 10) hJ dX6_covers_9 rfl rfl ?_
  refine j_get (nx := 13) hJ dX6_covers_10 rfl fX6_19 hP.1.1 (by rfl) ?_
  refine j_p (nx := 14) hJ dX6_covers_13 rfl rfl ?_
  refine j_iald (j := a) (nx := 15) hJ dX6_covers_14 rfl (show h 101 = some (gia 6 (A 101)) from hP.a 101 (by unfold gia'; omega)) rfl (by omega) (by decide) ?_
  rw [hl.1]
  refine j_p (nx := 16) hJ dX6_covers_15 rfl rfl ?_
  refine j_get (nx := 19) hJ dX6_covers_16 rfl fX6_15 hP.1.1 (by rfl) ?_
  refine j_c (nx := 21) hJ dX6_covers_19 rfl gk_bipush_8 ?_
  refine j_p (nx := 22) hJ dX6_covers_21 rfl rfl ?_
  refine j_p (nx := 23) hJ dX6_covers_22 rfl rfl ?_
  rw [show (8 : Int32) = nI 8 from rfl, gmul]
  refine j_p (nx := 24) hJ dX6_covers_23 rfl rfl ?_
  refine j_get (nx := 27) hJ dX6_covers_24 rfl fX6_19 hP.1.1 (by rfl) ?_
  refine j_p (nx := 28) hJ dX6_covers_27 rfl rfl ?_
  refine j_iald (j := b) (nx := 29) hJ dX6_covers_28 rfl (show h 101 = some (gia 6 (A 101)) from hP.a 101 (by unfold gia'; omega)) rfl (by omega) (by decide) ?_
  rw [hls.1]
  refine j_p (nx := 30) hJ dX6_covers_29 rfl rfl ?_
  refine j_c (nx := 31) hJ dX6_covers_30 rfl gk_iconst_1 ?_
  refine j_cv (nx := 34) hJ dX6_covers_31 rfl (r6_matchP (d := d) hP (pa := 100) (po := 8 * a) (ta := 100) (tq := 8 * b) (p := R (5 + 2 * a)) (t := R (5 + 2 * b)) (by unfold gia'; omega) (by unfold gia'; omega) (by omega) (by omega) hl.2.2 hls.2.2 (by show 8 * a + _ ≤ 48; omega) (by show 8 * b + _ ≤ 48; omega) ((hpt a ha).sy hk3) hmd (mst := 1) (by omega) (by omega)) mX6_217 hP.1.1 kX6_match rfl (gle8 rfl) (fun o h2 hp => ?_)
  obtain ⟨rfl, A2, M2, hP2, k1, k2, -⟩ := hp
  rw [gmin1s, ← gMB_sol ((hpt a ha).sy hk3) (hpt a ha).2.2.2.2]
  refine j_c (nx := 35) hJ dX6_covers_34 rfl gk_iconst_1 ?_
  refine j_ic_ne (nx := 38) (tgt := 42) hJ dX6_covers_35 rfl (by decide) (fun c35 => ?_) (fun c35 => ?_)
  · refine j_c (nx := 43) hJ dX6_covers_42 rfl gk_iconst_0 ?_
    have e : gMB (R (5 + 2 * a)) (R (5 + 2 * b)) md 0 0 = false := Bool.eq_false_iff.mpr (fun q => c35 (gb1.mpr q))
    exact j_zret hJ false dX6_covers_43 rfl ⟨by rw [e], _, _, _, _, _, hP2, hG.fx ⟨k1, k2⟩⟩
  · refine j_c (nx := 39) hJ dX6_covers_38 rfl gk_iconst_1 ?_
    refine j_go (tgt := 43) hJ dX6_covers_39 (by decide) ?_
    have e : gMB (R (5 + 2 * a)) (R (5 + 2 * b)) md 0 0 = true := gb1.mp c35
    exact j_zret hJ true dX6_covers_43 rfl ⟨by rw [e], _, _, _, _, _, hP2, hG.fx ⟨k1, k2⟩⟩
set_option maxHeartbeats 4000000 in
theorem r6_isMoreGeneral {d : Nat} {h0 h : GH} {R : Nat → List Int32} {N : Nat → Int32} (hS : gRS h0 h R N) (hI : gInv R N) (x y md : Int32) : gN false (d + 60) yX6_isMoreGeneral [.ref 99, .int x, .int y, .int md] h (fun o h' => o = some (.int (s_isMoreGeneral R x y md)) ∧ gRS h0 h' R N) := by
  obtain ⟨A, E, M, pv, tv, hP, hG⟩ := hS
  have g0 := hG.1.1
  have g9 := hG.1.2.2.1
  obtain ⟨⟨k, ss, hk1, hk3, hss1, hss6, hpt, him, hsm⟩, hI2, hI3, hI4, hI5⟩ := hI
  refine gN.of MX6_isMoreGeneral (Nat.le_of_ble_eq_true rfl) (fun J n hJ => ?_)
  show J 0 [some (.ref 99), some (.int x), some (.int y), some (.int md)] [] h (n, 0, 0, false)
  by_cases hx : gbt x 6 = true
  · obtain ⟨r, rfl, hr⟩ := gbt_spec hx
    have egr := gr_nI (r := r) (by omega)
    have hl := hG.2.1 r hr
    have hl8 := hl.2.1
    have hpr := hpt r hr
    by_cases hy : gbt y 6 = true
    · obtain ⟨s, rfl, hs⟩ := gbt_spec hy
      have egs := gr_nI (r := s) (by omega)
      have hls := hG.2.1 s hs
      have hls8 := hls.2.1
      by_cases hm : gmd md = true
      · refine j_p (nx := 1) hJ dX6_isMoreGeneral_0 rfl rfl ?_
        refine j_csR (nx := 4) hJ dX6_isMoreGeneral_1 rfl (r6_isRegister (fl := false) (d := d + 57) _) mX6_139 rfl (gle8 rfl) ?_
        rw [show gbt _ 6 = true from hx]
        refine j_if_eq (nx := 7) (tgt := 14) hJ dX6_isMoreGeneral_4 rfl (by decide) (fun c4 => absurd c4 (by decide)) (fun c4 => ?_)
        refine j_p (nx := 8) hJ dX6_isMoreGeneral_7 rfl rfl ?_
        refine j_csR (nx := 11) hJ dX6_isMoreGeneral_8 rfl (r6_isRegister (fl := false) (d := d + 57) _) mX6_139 rfl (gle8 rfl) ?_
        rw [show gbt _ 6 = true from hy]
        refine j_if_ne (nx := 14) (tgt := 17) hJ dX6_isMoreGeneral_11 rfl (by decide) (fun c11 => ?_) (fun c11 => absurd c11 (by decide))
        refine j_p (nx := 18) hJ dX6_isMoreGeneral_17 rfl rfl ?_
        refine j_csR (nx := 21) hJ dX6_isMoreGeneral_18 rfl (r6_isMode (fl := false) (d := d + 57) _) mX6_221 rfl (gle8 rfl) ?_
        rw [show gmd _ = true from hm]
        refine j_if_ne (nx := 24) (tgt := 28) hJ dX6_isMoreGeneral_21 rfl (by decide) (fun c21 => ?_) (fun c21 => absurd c21 (by decide))
        refine j_p (nx := 29) hJ dX6_isMoreGeneral_28 rfl rfl ?_
        refine j_p (nx := 30) hJ dX6_isMoreGeneral_29 rfl rfl ?_
        refine j_p (nx := 31) hJ dX6_isMoreGeneral_30 rfl rfl ?_
        refine j_p (nx := 32) hJ dX6_isMoreGeneral_31 rfl rfl ?_
        refine j_cv (nx := 35) hJ dX6_isMoreGeneral_32 rfl (r6_covers (d := d + 50) hP hG hk3.2 hpt (a := r) (b := s) (by omega) (by omega) hm) mX6_250 hP.1.1 kX6_covers rfl (gle8 rfl) (fun o h1 hp => ?_)
        obtain ⟨rfl, hS1⟩ := hp
        refine j_if_eq (nx := 38) (tgt := 42) hJ dX6_isMoreGeneral_35 rfl (by decide) (fun c35 => ?_) (fun c35 => ?_)
        · refine j_c (nx := 43) hJ dX6_isMoreGeneral_42 rfl gk_iconst_0 ?_
          rw [gb_f] at c35
          have e : s_isMoreGeneral R (nI r) (nI s) md = 0 := by unfold s_isMoreGeneral; rw [if_pos ⟨hx, hy⟩, if_pos hm, egr, egs, c35]; rfl
          exact j_iret hJ dX6_isMoreGeneral_43 ⟨by rw [e], hS1⟩
        · refine j_c (nx := 39) hJ dX6_isMoreGeneral_38 rfl gk_iconst_1 ?_
          refine j_go (tgt := 43) hJ dX6_isMoreGeneral_39 (by decide) ?_
          rw [gb_t] at c35
          have e : s_isMoreGeneral R (nI r) (nI s) md = 1 := by unfold s_isMoreGeneral; rw [if_pos ⟨hx, hy⟩, if_pos hm, egr, egs, c35]; rfl
          exact j_iret hJ dX6_isMoreGeneral_43 ⟨by rw [e], hS1⟩
      · refine j_p (nx := 1) hJ dX6_isMoreGeneral_0 rfl rfl ?_
        refine j_csR (nx := 4) hJ dX6_isMoreGeneral_1 rfl (r6_isRegister (fl := false) (d := d + 57) _) mX6_139 rfl (gle8 rfl) ?_
        rw [show gbt _ 6 = true from hx]
        refine j_if_eq (nx := 7) (tgt := 14) hJ dX6_isMoreGeneral_4 rfl (by decide) (fun c4 => absurd c4 (by decide)) (fun c4 => ?_)
        refine j_p (nx := 8) hJ dX6_isMoreGeneral_7 rfl rfl ?_
        refine j_csR (nx := 11) hJ dX6_isMoreGeneral_8 rfl (r6_isRegister (fl := false) (d := d + 57) _) mX6_139 rfl (gle8 rfl) ?_
        rw [show gbt _ 6 = true from hy]
        refine j_if_ne (nx := 14) (tgt := 17) hJ dX6_isMoreGeneral_11 rfl (by decide) (fun c11 => ?_) (fun c11 => absurd c11 (by decide))
        refine j_p (nx := 18) hJ dX6_isMoreGeneral_17 rfl rfl ?_
        refine j_csR (nx := 21) hJ dX6_isMoreGeneral_18 rfl (r6_isMode (fl := false) (d := d + 57) _) mX6_221 rfl (gle8 rfl) ?_
        rw [show gmd _ = false from Bool.eq_false_iff.mpr hm]
        refine j_if_ne (nx := 24) (tgt := 28) hJ dX6_isMoreGeneral_21 rfl (by decide) (fun c21 => absurd c21 (by decide)) (fun c21 => ?_)
        refine j_c (nx := 25) hJ dX6_isMoreGeneral_24 rfl gk_iconst_m1 ?_
        refine j_go (tgt := 43) hJ dX6_isMoreGeneral_25 (by decide) ?_
        have e : s_isMoreGeneral R (nI r) (nI s) md = -1 := by unfold s_isMoreGeneral; rw [if_pos ⟨hx, hy⟩, if_neg hm]
        exact j_iret hJ dX6_isMoreGeneral_43 ⟨by rw [e], ⟨A, E, M, pv, tv, hP, hG⟩⟩
    · refine j_p (nx := 1) hJ dX6_isMoreGeneral_0 rfl rfl ?_
      refine j_csR (nx := 4) hJ dX6_isMoreGeneral_1 rfl (r6_isRegister (fl := false) (d := d + 57) _) mX6_139 rfl (gle8 rfl) ?_
      rw [show gbt _ 6 = true from hx]
      refine j_if_eq (nx := 7) (tgt := 14) hJ dX6_isMoreGeneral_4 rfl (by decide) (fun c4 => absurd c4 (by decide)) (fun c4 => ?_)
      refine j_p (nx := 8) hJ dX6_isMoreGeneral_7 rfl rfl ?_
      refine j_csR (nx := 11) hJ dX6_isMoreGeneral_8 rfl (r6_isRegister (fl := false) (d := d + 57) _) mX6_139 rfl (gle8 rfl) ?_
      rw [show gbt _ 6 = false from Bool.eq_false_iff.mpr hy]
      refine j_if_ne (nx := 14) (tgt := 17) hJ dX6_isMoreGeneral_11 rfl (by decide) (fun c11 => absurd c11 (by decide)) (fun c11 => ?_)
      refine j_c (nx := 16) hJ dX6_isMoreGeneral_14 rfl gk_bipush_m2 ?_
      have e : s_isMoreGeneral R (nI r) y md = -2 := if_neg (fun q => hy q.2)
      exact j_iret hJ dX6_isMoreGeneral_16 ⟨by rw [e], ⟨A, E, M, pv, tv, hP, hG⟩⟩
  · refine j_p (nx := 1) hJ dX6_isMoreGeneral_0 rfl rfl ?_
    refine j_csR (nx := 4) hJ dX6_isMoreGeneral_1 rfl (r6_isRegister (fl := false) (d := d + 57) _) mX6_139 rfl (gle8 rfl) ?_
    rw [show gbt _ 6 = false from Bool.eq_false_iff.mpr hx]
    refine j_if_eq (nx := 7) (tgt := 14) hJ dX6_isMoreGeneral_4 rfl (by decide) (fun c4 => ?_) (fun c4 => absurd c4 (by decide))
    refine j_c (nx := 16) hJ dX6_isMoreGeneral_14 rfl gk_bipush_m2 ?_
    have e : s_isMoreGeneral R x y md = -2 := if_neg (fun q => hx q.1)
    exact j_iret hJ dX6_isMoreGeneral_16 ⟨by rw [e], ⟨A, E, M, pv, tv, hP, hG⟩⟩
set_option maxHeartbeats 4000000 in
theorem r6_chainBreak {d : Nat} {h0 h : GH} {R : Nat → List Int32} {N : Nat → Int32} (hS : gRS h0 h R N) (hI : gInv R N) (x y md : Int32) : gN false (d + 60) yX6_chainBreak [.ref 99, .int x, .int y, .int md] h (fun o h' => o = some (.int (s_chainBreak R x y md)) ∧ gRS h0 h' R N) := by
  obtain ⟨A, E, M, pv, tv, hP, hG⟩ := hS
  have g0 := hG.1.1
  have g9 := hG.1.2.2.1
  obtain ⟨⟨k, ss, hk1, hk3, hss1, hss6, hpt, him, hsm⟩, hI2, hI3, hI4, hI5⟩ := hI
  refine gN.of MX6_chainBreak (Nat.le_of_ble_eq_true rfl) (fun J n hJ => ?_)
  show J 0 [some (.ref 99), some (.int x), some (.int y), some (.int md), none] [] h (n, 0, 0, false)
  by_cases hx : gbt x 6 = true
  · obtain ⟨r, rfl, hr⟩ := gbt_spec hx
    have egr := gr_nI (r := r) (by omega)
    have hl := hG.2.1 r hr
    have hl8 := hl.2.1
    have hpr := hpt r hr
    by_cases hy : gbt y 6 = true
    · obtain ⟨s, rfl, hs⟩ := gbt_spec hy
      have egs := gr_nI (r := s) (by omega)
      have hls := hG.2.1 s hs
      have hls8 := hls.2.1
      by_cases hm : nI r ≤ nI s ∧ gmd md = true
      · refine j_p (nx := 1) hJ dX6_chainBreak_0 rfl rfl ?_
        refine j_csR (nx := 4) hJ dX6_chainBreak_1 rfl (r6_isRegister (fl := false) (d := d + 57) _) mX6_139 rfl (gle8 rfl) ?_
        rw [show gbt _ 6 = true from hx]
        refine j_if_eq (nx := 7) (tgt := 14) hJ dX6_chainBreak_4 rfl (by decide) (fun c4 => absurd c4 (by decide)) (fun c4 => ?_)
        refine j_p (nx := 8) hJ dX6_chainBreak_7 rfl rfl ?_
        refine j_csR (nx := 11) hJ dX6_chainBreak_8 rfl (r6_isRegister (fl := false) (d := d + 57) _) mX6_139 rfl (gle8 rfl) ?_
        rw [show gbt _ 6 = true from hy]
        refine j_if_ne (nx := 14) (tgt := 17) hJ dX6_chainBreak_11 rfl (by decide) (fun c11 => ?_) (fun c11 => absurd c11 (by decide))
        refine j_p (nx := 18) hJ dX6_chainBreak_17 rfl rfl ?_
        refine j_p (nx := 19) hJ dX6_chainBreak_18 rfl rfl ?_
        refine j_ic_lt (nx := 22) (tgt := 29) hJ dX6_chainBreak_19 rfl (by decide) (fun c19 => absurd c19 (by have := hm.1; rw [Int32.le_iff_toInt_le] at this; rw [Int32.lt_iff_toInt_lt]; omega)) (fun c19 => ?_)
        refine j_p (nx := 23) hJ dX6_chainBreak_22 rfl rfl ?_
        refine j_csR (nx := 26) hJ dX6_chainBreak_23 rfl (r6_isMode (fl := false) (d := d + 57) _) mX6_221 rfl (gle8 rfl) ?_
        rw [show gmd _ = true from hm.2]
        refine j_if_ne (nx := 29) (tgt := 31) hJ dX6_chainBreak_26 rfl (by decide) (fun c26 => ?_) (fun c26 => absurd c26 (by decide))
        refine j_p (nx := 32) hJ dX6_chainBreak_31 rfl rfl ?_
        refine j_p (nx := 34) hJ dX6_chainBreak_32 rfl rfl ?_
        have hrs := hm.1
        rw [gnle (by omega) (by omega)] at hrs
        have e : s_chainBreak R (nI r) (nI s) md = gfd (s - r) (fun i => !gMB (R (5 + 2 * r + 2 * i)) (R (5 + 2 * r + 2 * i + 2)) md 0 0 || gMB (R (5 + 2 * r + 2 * i + 2)) (R (5 + 2 * r + 2 * i)) md 0 0) r := by unfold s_chainBreak; rw [if_pos ⟨hx, hy⟩, if_pos hm, egr, nI_toInt (by omega), nI_toInt (by omega)]; rfl
        have loop : ∀ i, i ≤ s - r → ∀ h1 : GH, gRS h0 h1 R N → (∀ j, j < i → (fun i => !gMB (R (5 + 2 * r + 2 * i)) (R (5 + 2 * r + 2 * i + 2)) md 0 0 || gMB (R (5 + 2 * r + 2 * i + 2)) (R (5 + 2 * r + 2 * i)) md 0 0) j = false) → J 34 [some (.ref 99), some (.int (nI r)), some (.int (nI s)), some (.int md), some (.int (nI (r + i)))] [] h1 (n, 0, 0, false) := by
          refine gloop _ _ (fun i hi ih h1 hS1 hno => ?_)
          refine j_p (nx := 36) hJ dX6_chainBreak_34 rfl rfl ?_
          refine j_p (nx := 37) hJ dX6_chainBreak_36 rfl rfl ?_
          refine j_ic_ge (nx := 40) (tgt := 77) hJ dX6_chainBreak_37 rfl (by decide) (fun c37 => ?_) (fun c37 => ?_)
          · refine j_c (nx := 79) hJ dX6_chainBreak_77 rfl gk_bipush_m6 ?_
            rw [gnle (by omega) (by omega)] at c37
            have e9 : gfd (s - r) (fun i => !gMB (R (5 + 2 * r + 2 * i)) (R (5 + 2 * r + 2 * i + 2)) md 0 0 || gMB (R (5 + 2 * r + 2 * i + 2)) (R (5 + 2 * r + 2 * i)) md 0 0) r = -6 := gfd_n (fun j hj => hno j (by omega))
            exact j_iret hJ dX6_chainBreak_79 ⟨by rw [e, e9], hS1⟩
          · rw [gnle (by omega) (by omega)] at c37
            have hil : i < s - r := by omega
            obtain ⟨A1, E1, M1, pv1, tv1, hP1, hG1⟩ := id hS1
            refine j_p (nx := 41) hJ dX6_chainBreak_40 rfl rfl ?_
            refine j_p (nx := 43) hJ dX6_chainBreak_41 rfl rfl ?_
            refine j_p (nx := 45) hJ dX6_chainBreak_43 rfl rfl ?_
            refine j_c (nx := 46) hJ dX6_chainBreak_45 rfl gk_iconst_1 ?_
            refine j_p (nx := 47) hJ dX6_chainBreak_46 rfl rfl ?_
            rw [show nI (r + i) + 1 = nI (r + i + 1) from (nI_succ _).symm]
            refine j_p (nx := 48) hJ dX6_chainBreak_47 rfl rfl ?_
            refine j_cv (nx := 51) hJ dX6_chainBreak_48 rfl (r6_covers (d := d + 50) hP1 hG1 hk3.2 hpt (a := r + i) (b := r + i + 1) (by omega) (by omega) hm.2) mX6_250 hP1.1.1 kX6_covers rfl (gle8 rfl) (fun o h2 hp => ?_)
            obtain ⟨rfl, hS2⟩ := hp
            rw [show 5 + 2 * (r + i) = 5 + 2 * r + 2 * i by omega, show 5 + 2 * (r + i + 1) = 5 + 2 * r + 2 * i + 2 by omega]
            obtain ⟨A2, E2, M2, pv2, tv2, hP2, hG2⟩ := id hS2
            refine j_if_eq (nx := 54) (tgt := 68) hJ dX6_chainBreak_51 rfl (by decide) (fun c51 => ?_) (fun c51 => ?_)
            · refine j_p (nx := 70) hJ dX6_chainBreak_68 rfl rfl ?_
              first | rw [gb_f] at c51 | skip
              first | rw [gb_t] at c65 | skip
              have e9 : gfd (s - r) (fun i => !gMB (R (5 + 2 * r + 2 * i)) (R (5 + 2 * r + 2 * i + 2)) md 0 0 || gMB (R (5 + 2 * r + 2 * i + 2)) (R (5 + 2 * r + 2 * i)) md 0 0) r = nI (r + i) := gfd_s hno hil (by show (!_ || _) = true; first | (rw [c51]; rfl) | (rw [c65]; simp))
              exact j_iret hJ dX6_chainBreak_70 ⟨by rw [e, e9], by first | exact hS3 | exact hS2⟩
            · refine j_p (nx := 55) hJ dX6_chainBreak_54 rfl rfl ?_
              refine j_p (nx := 57) hJ dX6_chainBreak_55 rfl rfl ?_
              refine j_c (nx := 58) hJ dX6_chainBreak_57 rfl gk_iconst_1 ?_
              refine j_p (nx := 59) hJ dX6_chainBreak_58 rfl rfl ?_
              rw [show nI (r + i) + 1 = nI (r + i + 1) from (nI_succ _).symm]
              refine j_p (nx := 61) hJ dX6_chainBreak_59 rfl rfl ?_
              refine j_p (nx := 62) hJ dX6_chainBreak_61 rfl rfl ?_
              refine j_cv (nx := 65) hJ dX6_chainBreak_62 rfl (r6_covers (d := d + 50) hP2 hG2 hk3.2 hpt (a := r + i + 1) (b := r + i) (by omega) (by omega) hm.2) mX6_250 hP2.1.1 kX6_covers rfl (gle8 rfl) (fun o h3 hp => ?_)
              obtain ⟨rfl, hS3⟩ := hp
              rw [show 5 + 2 * (r + i + 1) = 5 + 2 * r + 2 * i + 2 by omega, show 5 + 2 * (r + i) = 5 + 2 * r + 2 * i by omega]
              refine j_if_eq (nx := 68) (tgt := 71) hJ dX6_chainBreak_65 rfl (by decide) (fun c65 => ?_) (fun c65 => ?_)
              · rw [gb_t] at c51
                rw [gb_f] at c65
                refine j_inc (nx := 74) hJ dX6_chainBreak_71 rfl rfl (gi1 _) rfl ?_
                refine j_go (tgt := 34) hJ dX6_chainBreak_74 (by decide) ?_
                refine ih hil h3 hS3 (fun j hj => ?_)
                by_cases e : j = i
                · subst e; show (!_ || _) = false; rw [c51, c65]; rfl
                · exact hno j (by omega)
              · refine j_p (nx := 70) hJ dX6_chainBreak_68 rfl rfl ?_
                first | rw [gb_f] at c51 | skip
                first | rw [gb_t] at c65 | skip
                have e9 : gfd (s - r) (fun i => !gMB (R (5 + 2 * r + 2 * i)) (R (5 + 2 * r + 2 * i + 2)) md 0 0 || gMB (R (5 + 2 * r + 2 * i + 2)) (R (5 + 2 * r + 2 * i)) md 0 0) r = nI (r + i) := gfd_s hno hil (by show (!_ || _) = true; first | (rw [c51]; rfl) | (rw [c65]; simp))
                exact j_iret hJ dX6_chainBreak_70 ⟨by rw [e, e9], by first | exact hS3 | exact hS2⟩
        exact loop 0 (Nat.zero_le _) h ⟨A, E, M, pv, tv, hP, hG⟩ (fun j hj => by omega)
      · refine j_p (nx := 1) hJ dX6_chainBreak_0 rfl rfl ?_
        refine j_csR (nx := 4) hJ dX6_chainBreak_1 rfl (r6_isRegister (fl := false) (d := d + 57) _) mX6_139 rfl (gle8 rfl) ?_
        rw [show gbt _ 6 = true from hx]
        refine j_if_eq (nx := 7) (tgt := 14) hJ dX6_chainBreak_4 rfl (by decide) (fun c4 => absurd c4 (by decide)) (fun c4 => ?_)
        refine j_p (nx := 8) hJ dX6_chainBreak_7 rfl rfl ?_
        refine j_csR (nx := 11) hJ dX6_chainBreak_8 rfl (r6_isRegister (fl := false) (d := d + 57) _) mX6_139 rfl (gle8 rfl) ?_
        rw [show gbt _ 6 = true from hy]
        refine j_if_ne (nx := 14) (tgt := 17) hJ dX6_chainBreak_11 rfl (by decide) (fun c11 => ?_) (fun c11 => absurd c11 (by decide))
        refine j_p (nx := 18) hJ dX6_chainBreak_17 rfl rfl ?_
        refine j_p (nx := 19) hJ dX6_chainBreak_18 rfl rfl ?_
        refine j_ic_lt (nx := 22) (tgt := 29) hJ dX6_chainBreak_19 rfl (by decide) (fun c19 => ?_) (fun c19 => ?_)
        · refine j_c (nx := 30) hJ dX6_chainBreak_29 rfl gk_iconst_m1 ?_
          have e : s_chainBreak R (nI r) (nI s) md = -1 := by unfold s_chainBreak; rw [if_pos ⟨hx, hy⟩, if_neg hm]
          exact j_iret hJ dX6_chainBreak_30 ⟨by rw [e], ⟨A, E, M, pv, tv, hP, hG⟩⟩
        · refine j_p (nx := 23) hJ dX6_chainBreak_22 rfl rfl ?_
          refine j_csR (nx := 26) hJ dX6_chainBreak_23 rfl (r6_isMode (fl := false) (d := d + 57) md) mX6_221 rfl (gle8 rfl) ?_
          refine j_if_ne (nx := 29) (tgt := 31) hJ dX6_chainBreak_26 rfl (by decide) (fun c26 => ?_) (fun c26 => ?_)
          · rw [gb_t] at c26
            exact absurd ⟨by rw [Int32.lt_iff_toInt_lt] at c19; rw [Int32.le_iff_toInt_le]; omega, c26⟩ hm
          · refine j_c (nx := 30) hJ dX6_chainBreak_29 rfl gk_iconst_m1 ?_
            have e : s_chainBreak R (nI r) (nI s) md = -1 := by unfold s_chainBreak; rw [if_pos ⟨hx, hy⟩, if_neg hm]
            exact j_iret hJ dX6_chainBreak_30 ⟨by rw [e], ⟨A, E, M, pv, tv, hP, hG⟩⟩
    · refine j_p (nx := 1) hJ dX6_chainBreak_0 rfl rfl ?_
      refine j_csR (nx := 4) hJ dX6_chainBreak_1 rfl (r6_isRegister (fl := false) (d := d + 57) _) mX6_139 rfl (gle8 rfl) ?_
      rw [show gbt _ 6 = true from hx]
      refine j_if_eq (nx := 7) (tgt := 14) hJ dX6_chainBreak_4 rfl (by decide) (fun c4 => absurd c4 (by decide)) (fun c4 => ?_)
      refine j_p (nx := 8) hJ dX6_chainBreak_7 rfl rfl ?_
      refine j_csR (nx := 11) hJ dX6_chainBreak_8 rfl (r6_isRegister (fl := false) (d := d + 57) _) mX6_139 rfl (gle8 rfl) ?_
      rw [show gbt _ 6 = false from Bool.eq_false_iff.mpr hy]
      refine j_if_ne (nx := 14) (tgt := 17) hJ dX6_chainBreak_11 rfl (by decide) (fun c11 => absurd c11 (by decide)) (fun c11 => ?_)
      refine j_c (nx := 16) hJ dX6_chainBreak_14 rfl gk_bipush_m2 ?_
      have e : s_chainBreak R (nI r) y md = -2 := if_neg (fun q => hy q.2)
      exact j_iret hJ dX6_chainBreak_16 ⟨by rw [e], ⟨A, E, M, pv, tv, hP, hG⟩⟩
  · refine j_p (nx := 1) hJ dX6_chainBreak_0 rfl rfl ?_
    refine j_csR (nx := 4) hJ dX6_chainBreak_1 rfl (r6_isRegister (fl := false) (d := d + 57) _) mX6_139 rfl (gle8 rfl) ?_
    rw [show gbt _ 6 = false from Bool.eq_false_iff.mpr hx]
    refine j_if_eq (nx := 7) (tgt := 14) hJ dX6_chainBreak_4 rfl (by decide) (fun c4 => ?_) (fun c4 => absurd c4 (by decide))
    refine j_c (nx := 16) hJ dX6_chainBreak_14 rfl gk_bipush_m2 ?_
    have e : s_chainBreak R x y md = -2 := if_neg (fun q => hx q.1)
    exact j_iret hJ dX6_chainBreak_16 ⟨by rw [e], ⟨A, E, M, pv, tv, hP, hG⟩⟩
