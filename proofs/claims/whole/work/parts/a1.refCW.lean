set_option maxHeartbeats 4000000 in
theorem r6_countWords {d : Nat} {h0 h : GH} {R : Nat → List Int32} {N : Nat → Int32} (hS : gRS h0 h R N) (hI : gInv R N) (x md z : Int32) : gN false (d + 60) yX6_countWords [.ref 99, .int x, .int md, .int z] h (fun o h' => o = some (.int (s_countWords R N x md z)) ∧ gRS h0 h' R N) := by
  obtain ⟨A, E, M, pv, tv, hP, hG⟩ := hS
  have g0 := hG.1.1
  have g9 := hG.1.2.2.1
  obtain ⟨⟨k, ss, hk1, hk3, hss1, hss6, hpt, him, hsm⟩, hI2, hI3, hI4, hI5⟩ := hI
  refine gN.of MX6_countWords (Nat.le_of_ble_eq_true rfl) (fun J n hJ => ?_)
  show J 0 [some (.ref 99), some (.int x), some (.int md), some (.int z), none, none] [] h (n, 0, 0, false)
  by_cases hx : gbt x 6 = true
  · obtain ⟨r, rfl, hr⟩ := gbt_spec hx
    have egr := gr_nI (r := r) (by omega)
    have hl := hG.2.1 r hr
    have hl8 := hl.2.1
    have hpr := hpt r hr
    have hpr : gPt k (R (5 + 2 * r)) := hpr
    by_cases hm : gmd md = true ∧ 0 ≤ z.toInt ∧ z.toInt ≤ 6
    · obtain ⟨zn, hzn⟩ : ∃ zn, z.toInt.toNat = zn := ⟨_, rfl⟩
      have hz := gnat (x := z) (by omega)
      rw [hzn] at hz
      have hz6 : zn ≤ 6 := by omega
      rw [hz]
      refine j_p (nx := 1) hJ dX6_countWords_0 rfl rfl ?_
      refine j_csR (nx := 4) hJ dX6_countWords_1 rfl (r6_isRegister (fl := false) (d := d + 57) _) mX6_139 rfl (gle8 rfl) ?_
      rw [show gbt _ 6 = true from hx]
      refine j_if_ne (nx := 7) (tgt := 10) hJ dX6_countWords_4 rfl (by decide) (fun c4 => ?_) (fun c4 => absurd c4 (by decide))
      refine j_p (nx := 11) hJ dX6_countWords_10 rfl rfl ?_
      refine j_csR (nx := 14) hJ dX6_countWords_11 rfl (r6_isMode (fl := false) (d := d + 57) _) mX6_221 rfl (gle8 rfl) ?_
      rw [show gmd _ = true from hm.1]
      refine j_if_eq (nx := 17) (tgt := 27) hJ dX6_countWords_14 rfl (by decide) (fun c14 => absurd c14 (by decide)) (fun c14 => ?_)
      refine j_p (nx := 18) hJ dX6_countWords_17 rfl rfl ?_
      refine j_c (nx := 19) hJ dX6_countWords_18 rfl gk_iconst_0 ?_
      refine j_c (nx := 21) hJ dX6_countWords_19 rfl gk_bipush_6 ?_
      refine j_csR (nx := 24) hJ dX6_countWords_21 rfl (r6_in (fl := false) (d := d + 58) _ 0 6) mX6_101 rfl (gle8 rfl) ?_
      rw [show gin (nI zn) 0 6 = true from decide_eq_true (by rw [show (6 : Int32) = nI 6 from rfl, show (0 : Int32) = nI 0 from rfl, gnle (by omega) (by omega), gnle (by omega) (by omega)]; omega)]
      refine j_if_ne (nx := 27) (tgt := 29) hJ dX6_countWords_24 rfl (by decide) (fun c24 => ?_) (fun c24 => absurd c24 (by decide))
      refine j_p (nx := 30) hJ dX6_countWords_29 rfl rfl ?_
      refine j_cv (nx := 33) hJ dX6_countWords_30 rfl (r6_firstWord (d := d + 58) hP) mX6_264 hP.1.1 kX6_firstWord rfl (gle8 rfl) (fun o h1 hp => ?_)
      obtain ⟨rfl, f, hP1, hz0⟩ := hp
      refine j_c (nx := 34) hJ dX6_countWords_33 rfl gk_iconst_0 ?_
      refine j_p (nx := 36) hJ dX6_countWords_34 rfl rfl ?_
      refine j_c (nx := 37) hJ dX6_countWords_36 rfl gk_iconst_1 ?_
      refine j_p (nx := 39) hJ dX6_countWords_37 rfl rfl ?_
      have e : s_countWords R N (nI r) md z = nI (gct (k ^ zn) (fun i => gMB (R (5 + 2 * r)) (gpr (nI k) zn i) md 0 0)) := by unfold s_countWords; rw [if_pos hx, if_pos hm, egr, gkk_nI hk1 hk3.2, hzn, hk1]
      have hpos : 0 < k ^ zn := Nat.pow_pos (by omega)
      have loop : ∀ i, i ≤ k ^ zn → i < k ^ zn → ∀ (h1 : GH) (A1 : Nat → Nat → Int32) (M1 : Nat → Int32) (pv1 tv1 : Value), gP h0 h1 A1 E M1 pv1 tv1 → gG A1 E M1 R N → gSt (A1 115) 0 (gpr (nI k) zn i) → J 39 [some (.ref 99), some (.int (nI r)), some (.int md), some (.int (nI zn)), some (.int (nI (gct i (fun i => gMB (R (5 + 2 * r)) (gpr (nI k) zn i) md 0 0)))), some (.int 1)] [] h1 (n, 0, 0, false) := by
        refine gloop _ _ (fun i hi ih hil h1 A1 M1 pv1 tv1 hP1 hG1 hst => ?_)
        refine j_p (nx := 41) hJ dX6_countWords_39 rfl rfl ?_
        refine j_if_eq (nx := 44) (tgt := 74) hJ dX6_countWords_41 rfl (by decide) (fun c41 => absurd c41 (by decide)) (fun c41 => ?_)
        refine j_p (nx := 46) hJ dX6_countWords_44 rfl rfl ?_
        refine j_p (nx := 47) hJ dX6_countWords_46 rfl rfl ?_
        refine j_p (nx := 48) hJ dX6_countWords_47 rfl rfl ?_
        refine j_p (nx := 49) hJ dX6_countWords_48 rfl rfl ?_
        refine j_p (nx := 50) hJ dX6_countWords_49 rfl rfl ?_
        have hl1 := hG1.2.1 r hr
        have hge := r6_generates (d := d + 50) hP1 hr (p := (R (5 + 2 * r))) (t := (gpr (nI k) zn i)) hl1 hst (by rw [gpr_len]; omega) (hpr.sy hk3.2) hpr.2.2.2.2 hm.1
        rw [gpr_len] at hge
        refine j_cv (nx := 53) hJ dX6_countWords_50 rfl hge mX6_267 hP1.1.1 kX6_generates rfl (gle8 rfl) (fun o h2 hp => ?_)
        obtain ⟨rfl, A2, M2, pv2, tv2, hP2, hfx⟩ := hp
        have hG2 := hG1.fx hfx
        refine j_if_eq (nx := 56) (tgt := 60) hJ dX6_countWords_53 rfl (by decide) (fun c53 => ?_) (fun c53 => ?_)
        · refine j_c (nx := 61) hJ dX6_countWords_60 rfl gk_iconst_0 ?_
          rw [gb_f] at c53
          refine j_p (nx := 62) hJ dX6_countWords_61 rfl rfl ?_
          rw [show nI (gct i (fun i => gMB (R (5 + 2 * r)) (gpr (nI k) zn i) md 0 0)) + 0 = nI (gct (i + 1) (fun i => gMB (R (5 + 2 * r)) (gpr (nI k) zn i) md 0 0)) from by rw [gct_s, if_neg (by show ¬ gMB _ _ _ _ _ = true; rw [c53]; decide)]; exact Int32.add_zero _]
          refine j_p (nx := 64) hJ dX6_countWords_62 rfl rfl ?_
          refine j_p (nx := 65) hJ dX6_countWords_64 rfl rfl ?_
          refine j_p (nx := 66) hJ dX6_countWords_65 rfl rfl ?_
          have hnx := r6_nextWord (d := d + 58) hP2 (k := k) ((hG2.1.1).trans hk1) hk3.2 (w := (gpr (nI k) zn i)) (by rw [gpr_len]; omega) (by rw [hfx.1 115 (by omega) (by omega) (by omega) (by omega)]; exact hst) (fun j hj => (gpr_val hk3.1 hk3.2 i hil).1 j (by rw [gpr_len] at hj; exact hj))
          rw [gpr_len, gpr_wr hk3.1 hk3.2 hil] at hnx
          refine j_cv (nx := 69) hJ dX6_countWords_66 rfl hnx mX6_270 hP2.1.1 kX6_nextWord rfl (gle8 rfl) (fun o h3 hp => ?_)
          obtain ⟨rfl, f2, hP3, hst3⟩ := hp
          have hG3 : gG (gU A2 115 f2) E M2 R N := hG2.scr (fun a ha => gU_n _ _ (by omega)) rfl ⟨rfl, rfl, rfl, rfl, rfl, rfl⟩
          refine j_p (nx := 71) hJ dX6_countWords_69 rfl rfl ?_
          refine j_go (tgt := 39) hJ dX6_countWords_71 (by decide) ?_
          by_cases hlast : i + 1 < k ^ zn
          · rw [decide_eq_true hlast]
            exact ih hil hlast _ _ _ _ _ hP3 hG3 (by rw [gU_s, gpr, gpr_len]; exact hst3)
          · rw [decide_eq_false hlast]
            refine j_p (nx := 41) hJ dX6_countWords_39 rfl rfl ?_
            refine j_if_eq (nx := 44) (tgt := 74) hJ dX6_countWords_41 rfl (by decide) (fun c41 => ?_) (fun c41 => absurd rfl c41)
            refine j_p (nx := 76) hJ dX6_countWords_74 rfl rfl ?_
            have e0 : i + 1 = k ^ zn := by omega
            exact j_iret hJ dX6_countWords_76 ⟨by rw [e, e0], _, _, _, _, _, hP3, hG3⟩
        · refine j_c (nx := 57) hJ dX6_countWords_56 rfl gk_iconst_1 ?_
          refine j_go (tgt := 61) hJ dX6_countWords_57 (by decide) ?_
          rw [gb_t] at c53
          refine j_p (nx := 62) hJ dX6_countWords_61 rfl rfl ?_
          rw [show nI (gct i (fun i => gMB (R (5 + 2 * r)) (gpr (nI k) zn i) md 0 0)) + 1 = nI (gct (i + 1) (fun i => gMB (R (5 + 2 * r)) (gpr (nI k) zn i) md 0 0)) from by rw [gct_s, if_pos (show gMB _ _ _ _ _ = true from c53)]; exact (nI_succ _).symm]
          refine j_p (nx := 64) hJ dX6_countWords_62 rfl rfl ?_
          refine j_p (nx := 65) hJ dX6_countWords_64 rfl rfl ?_
          refine j_p (nx := 66) hJ dX6_countWords_65 rfl rfl ?_
          have hnx := r6_nextWord (d := d + 58) hP2 (k := k) ((hG2.1.1).trans hk1) hk3.2 (w := (gpr (nI k) zn i)) (by rw [gpr_len]; omega) (by rw [hfx.1 115 (by omega) (by omega) (by omega) (by omega)]; exact hst) (fun j hj => (gpr_val hk3.1 hk3.2 i hil).1 j (by rw [gpr_len] at hj; exact hj))
          rw [gpr_len, gpr_wr hk3.1 hk3.2 hil] at hnx
          refine j_cv (nx := 69) hJ dX6_countWords_66 rfl hnx mX6_270 hP2.1.1 kX6_nextWord rfl (gle8 rfl) (fun o h3 hp => ?_)
          obtain ⟨rfl, f2, hP3, hst3⟩ := hp
          have hG3 : gG (gU A2 115 f2) E M2 R N := hG2.scr (fun a ha => gU_n _ _ (by omega)) rfl ⟨rfl, rfl, rfl, rfl, rfl, rfl⟩
          refine j_p (nx := 71) hJ dX6_countWords_69 rfl rfl ?_
          refine j_go (tgt := 39) hJ dX6_countWords_71 (by decide) ?_
          by_cases hlast : i + 1 < k ^ zn
          · rw [decide_eq_true hlast]
            exact ih hil hlast _ _ _ _ _ hP3 hG3 (by rw [gU_s, gpr, gpr_len]; exact hst3)
          · rw [decide_eq_false hlast]
            refine j_p (nx := 41) hJ dX6_countWords_39 rfl rfl ?_
            refine j_if_eq (nx := 44) (tgt := 74) hJ dX6_countWords_41 rfl (by decide) (fun c41 => ?_) (fun c41 => absurd rfl c41)
            refine j_p (nx := 76) hJ dX6_countWords_74 rfl rfl ?_
            have e0 : i + 1 = k ^ zn := by omega
            exact j_iret hJ dX6_countWords_76 ⟨by rw [e, e0], _, _, _, _, _, hP3, hG3⟩
      refine loop 0 (Nat.zero_le _) hpos _ _ _ _ _ hP1 (hG.scr (fun a ha => gU_n _ _ (by omega)) rfl ⟨rfl, rfl, rfl, rfl, rfl, rfl⟩) (gSt.of (fun j hj => ?_))
      rw [gpr_len] at hj
      rw [gU_s, Nat.zero_add, hz0 j (by omega), gpr, List.getD_eq_getElem?_getD, List.getElem?_replicate, if_pos hj]; rfl
    · refine j_p (nx := 1) hJ dX6_countWords_0 rfl rfl ?_
      refine j_csR (nx := 4) hJ dX6_countWords_1 rfl (r6_isRegister (fl := false) (d := d + 57) _) mX6_139 rfl (gle8 rfl) ?_
      rw [show gbt _ 6 = true from hx]
      refine j_if_ne (nx := 7) (tgt := 10) hJ dX6_countWords_4 rfl (by decide) (fun c4 => ?_) (fun c4 => absurd c4 (by decide))
      refine j_p (nx := 11) hJ dX6_countWords_10 rfl rfl ?_
      refine j_csR (nx := 14) hJ dX6_countWords_11 rfl (r6_isMode (fl := false) (d := d + 57) md) mX6_221 rfl (gle8 rfl) ?_
      refine j_if_eq (nx := 17) (tgt := 27) hJ dX6_countWords_14 rfl (by decide) (fun c14 => ?_) (fun c14 => ?_)
      · refine j_c (nx := 28) hJ dX6_countWords_27 rfl gk_iconst_m1 ?_
        have e : s_countWords R N (nI r) md z = -1 := by unfold s_countWords; rw [if_pos hx, if_neg hm]
        exact j_iret hJ dX6_countWords_28 ⟨by rw [e], ⟨A, E, M, pv, tv, hP, hG⟩⟩
      · refine j_p (nx := 18) hJ dX6_countWords_17 rfl rfl ?_
        refine j_c (nx := 19) hJ dX6_countWords_18 rfl gk_iconst_0 ?_
        refine j_c (nx := 21) hJ dX6_countWords_19 rfl gk_bipush_6 ?_
        refine j_csR (nx := 24) hJ dX6_countWords_21 rfl (r6_in (fl := false) (d := d + 58) z 0 6) mX6_101 rfl (gle8 rfl) ?_
        refine j_if_ne (nx := 27) (tgt := 29) hJ dX6_countWords_24 rfl (by decide) (fun c24 => ?_) (fun c24 => ?_)
        · rw [gb_t] at c14 c24
          have u := of_decide_eq_true c24
          rw [Int32.le_iff_toInt_le, Int32.le_iff_toInt_le, show (0 : Int32).toInt = 0 by decide, show (6 : Int32).toInt = 6 by decide] at u
          exact absurd ⟨c14, u⟩ hm
        · refine j_c (nx := 28) hJ dX6_countWords_27 rfl gk_iconst_m1 ?_
          have e : s_countWords R N (nI r) md z = -1 := by unfold s_countWords; rw [if_pos hx, if_neg hm]
          exact j_iret hJ dX6_countWords_28 ⟨by rw [e], ⟨A, E, M, pv, tv, hP, hG⟩⟩
  · refine j_p (nx := 1) hJ dX6_countWords_0 rfl rfl ?_
    refine j_csR (nx := 4) hJ dX6_countWords_1 rfl (r6_isRegister (fl := false) (d := d + 57) _) mX6_139 rfl (gle8 rfl) ?_
    rw [show gbt _ 6 = false from Bool.eq_false_iff.mpr hx]
    refine j_if_ne (nx := 7) (tgt := 10) hJ dX6_countWords_4 rfl (by decide) (fun c4 => absurd c4 (by decide)) (fun c4 => ?_)
    refine j_c (nx := 9) hJ dX6_countWords_7 rfl gk_bipush_m2 ?_
    have e : s_countWords R N x md z = -2 := if_neg hx
    exact j_iret hJ dX6_countWords_9 ⟨by rw [e], ⟨A, E, M, pv, tv, hP, hG⟩⟩
