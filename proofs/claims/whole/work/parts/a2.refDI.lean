set_option maxHeartbeats 4000000 in
theorem r6_difference {d : Nat} {h0 h : GH} {R : Nat → List Int32} {N : Nat → Int32} (hS : gRS h0 h R N) (hI : gInv R N) (x y md z : Int32) : gN false (d + 60) yX6_difference [.ref 99, .int x, .int y, .int md, .int z] h (fun o h' => o = some (.long (s_difference R N x y md z)) ∧ gRS h0 h' R N) := by
  obtain ⟨A, E, M, pv, tv, hP, hG⟩ := hS
  have g0 := hG.1.1
  have g9 := hG.1.2.2.1
  obtain ⟨⟨k, ss, hk1, hk3, hss1, hss6, hpt, him, hsm⟩, hI2, hI3, hI4, hI5⟩ := hI
  refine gN.of MX6_difference (Nat.le_of_ble_eq_true rfl) (fun J n hJ => ?_)
  show J 0 [some (.ref 99), some (.int x), some (.int y), some (.int md), some (.int z), none, none] [] h (n, 0, 0, false)
  by_cases hm : (gbt x 6 = true ∧ gbt y 6 = true) ∧ gmd md = true ∧ 0 ≤ z.toInt ∧ z.toInt ≤ 6
  · have hx := hm.1.1
    have hy := hm.1.2
    obtain ⟨r, rfl, hr⟩ := gbt_spec hx
    have egr := gr_nI (r := r) (by omega)
    have hl := hG.2.1 r hr
    have hl8 := hl.2.1
    have hpr := hpt r hr
    have hpr : gPt k (R (5 + 2 * r)) := hpr
    obtain ⟨s, rfl, hs⟩ := gbt_spec hy
    have egs := gr_nI (r := s) (by omega)
    have hls := hG.2.1 s hs
    have hls8 := hls.2.1
    have hps : gPt k (R (5 + 2 * s)) := hpt s hs
    obtain ⟨zn, hzn⟩ : ∃ zn, z.toInt.toNat = zn := ⟨_, rfl⟩
    have hz := gnat (x := z) (by omega)
    rw [hzn] at hz
    have hz6 : zn ≤ 6 := by omega
    rw [hz]
    refine j_p (nx := 1) hJ dX6_difference_0 rfl rfl ?_
    refine j_csR (nx := 4) hJ dX6_difference_1 rfl (r6_isRegister (fl := false) (d := d + 57) _) mX6_139 rfl (gle8 rfl) ?_
    rw [show gbt _ 6 = true from hx]
    refine j_if_eq (nx := 7) (tgt := 32) hJ dX6_difference_4 rfl (by decide) (fun c4 => absurd c4 (by decide)) (fun c4 => ?_)
    refine j_p (nx := 8) hJ dX6_difference_7 rfl rfl ?_
    refine j_csR (nx := 11) hJ dX6_difference_8 rfl (r6_isRegister (fl := false) (d := d + 57) _) mX6_139 rfl (gle8 rfl) ?_
    rw [show gbt _ 6 = true from hy]
    refine j_if_eq (nx := 14) (tgt := 32) hJ dX6_difference_11 rfl (by decide) (fun c11 => absurd c11 (by decide)) (fun c11 => ?_)
    refine j_p (nx := 15) hJ dX6_difference_14 rfl rfl ?_
    refine j_csR (nx := 18) hJ dX6_difference_15 rfl (r6_isMode (fl := false) (d := d + 57) _) mX6_221 rfl (gle8 rfl) ?_
    rw [show gmd _ = true from hm.2.1]
    refine j_if_eq (nx := 21) (tgt := 32) hJ dX6_difference_18 rfl (by decide) (fun c18 => absurd c18 (by decide)) (fun c18 => ?_)
    refine j_p (nx := 23) hJ dX6_difference_21 rfl rfl ?_
    refine j_c (nx := 24) hJ dX6_difference_23 rfl gk_iconst_0 ?_
    refine j_c (nx := 26) hJ dX6_difference_24 rfl gk_bipush_6 ?_
    refine j_csR (nx := 29) hJ dX6_difference_26 rfl (r6_in (fl := false) (d := d + 58) _ 0 6) mX6_101 rfl (gle8 rfl) ?_
    rw [show gin (nI zn) 0 6 = true from decide_eq_true (by rw [show (6 : Int32) = nI 6 from rfl, show (0 : Int32) = nI 0 from rfl, gnle (by omega) (by omega), gnle (by omega) (by omega)]; omega)]
    refine j_if_ne (nx := 32) (tgt := 36) hJ dX6_difference_29 rfl (by decide) (fun c29 => ?_) (fun c29 => absurd c29 (by decide))
    refine j_c (nx := 37) hJ dX6_difference_36 rfl gk_iconst_0 ?_
    refine j_p (nx := 39) hJ dX6_difference_37 rfl rfl ?_
    have e : s_difference R N (nI r) (nI s) md z = ((List.range (zn + 1)).findSome? (fun n => (gdf (R (5 + 2 * r)) (R (5 + 2 * s)) (nI k) md (k ^ n) n).map (fun i => (gwc (gpr (nI k) n i)).1))).getD (-9223372036854775808) := by unfold s_difference; rw [if_pos hm, egr, egs, gkk_nI hk1 hk3.2, hzn, hk1]
    have loop : ∀ q, q ≤ zn + 1 → ∀ (h1 : GH) (A1 : Nat → Nat → Int32) (M1 : Nat → Int32) (pv1 tv1 : Value) (w6 : Option Value), gP h0 h1 A1 E M1 pv1 tv1 → gG A1 E M1 R N → (∀ j, j < q → (fun n => (gdf (R (5 + 2 * r)) (R (5 + 2 * s)) (nI k) md (k ^ n) n).map (fun i => (gwc (gpr (nI k) n i)).1)) j = none) → J 39 [some (.ref 99), some (.int (nI r)), some (.int (nI s)), some (.int md), some (.int (nI zn)), some (.int (nI q)), w6] [] h1 (n, 0, 0, false) := by
      refine gloop _ _ (fun q hq ih h1 A0 M0 pv0 tv0 w6 hP0 hG0 hno => ?_)
      refine j_p (nx := 41) hJ dX6_difference_39 rfl rfl ?_
      refine j_p (nx := 43) hJ dX6_difference_41 rfl rfl ?_
      refine j_ic_gt (nx := 46) (tgt := 108) hJ dX6_difference_43 rfl (by decide) (fun c43 => ?_) (fun c43 => ?_)
      · refine j_ldc2 (nx := 111) hJ dX6_difference_108 rfl qX6_244 ?_
        rw [gnlt (by omega) (by omega)] at c43
        have e9 : (List.range (zn + 1)).findSome? (fun n => (gdf (R (5 + 2 * r)) (R (5 + 2 * s)) (nI k) md (k ^ n) n).map (fun i => (gwc (gpr (nI k) n i)).1)) = none := gfs_n (fun j hj => hno j (by omega))
        exact j_lret hJ dX6_difference_111 ⟨by rw [e, e9]; rfl, _, _, _, _, _, hP0, hG0⟩
      · rw [gnlt (by omega) (by omega)] at c43
        have hqz : q < zn + 1 := by omega
        refine j_p (nx := 47) hJ dX6_difference_46 rfl rfl ?_
        refine j_cv (nx := 50) hJ dX6_difference_47 rfl (r6_firstWord (d := d + 58) hP0) mX6_264 hP0.1.1 kX6_firstWord rfl (gle8 rfl) (fun o g1 hp => ?_)
        obtain ⟨rfl, f, hPf, hz0⟩ := hp
        refine j_c (nx := 51) hJ dX6_difference_50 rfl gk_iconst_1 ?_
        refine j_p (nx := 53) hJ dX6_difference_51 rfl rfl ?_
        have hpos : 0 < k ^ q := Nat.pow_pos (by omega)
        have inner : ∀ i, i ≤ k ^ q → i < k ^ q → ∀ (h1 : GH) (A1 : Nat → Nat → Int32) (M1 : Nat → Int32) (pv1 tv1 : Value), gP h0 h1 A1 E M1 pv1 tv1 → gG A1 E M1 R N → gSt (A1 115) 0 (gpr (nI k) q i) → (∀ j, j < i → (fun i => gMB (R (5 + 2 * r)) (gpr (nI k) q i) md 0 0 && !gMB (R (5 + 2 * s)) (gpr (nI k) q i) md 0 0) j = false) → J 53 [some (.ref 99), some (.int (nI r)), some (.int (nI s)), some (.int md), some (.int (nI zn)), some (.int (nI q)), some (.int 1)] [] h1 (n, 0, 0, false) := by
          refine gloop _ _ (fun i hi ihi hil h1 A1 M1 pv1 tv1 hP1 hG1 hst hnoi => ?_)
          refine j_p (nx := 55) hJ dX6_difference_53 rfl rfl ?_
          refine j_if_eq (nx := 58) (tgt := 102) hJ dX6_difference_55 rfl (by decide) (fun c55 => absurd c55 (by decide)) (fun c55 => ?_)
          refine j_p (nx := 59) hJ dX6_difference_58 rfl rfl ?_
          refine j_p (nx := 60) hJ dX6_difference_59 rfl rfl ?_
          refine j_p (nx := 61) hJ dX6_difference_60 rfl rfl ?_
          refine j_p (nx := 63) hJ dX6_difference_61 rfl rfl ?_
          have hge2 := r6_generates (d := d + 50) hP1 hr (p := (R (5 + 2 * r))) (t := (gpr (nI k) q i)) (hG1.2.1 r hr) hst (by rw [gpr_len]; omega) (hpr.sy hk3.2) hpr.2.2.2.2 hm.2.1
          rw [gpr_len] at hge2
          refine j_cv (nx := 66) hJ dX6_difference_63 rfl hge2 mX6_267 hP1.1.1 kX6_generates rfl (gle8 rfl) (fun o h2 hp => ?_)
          obtain ⟨rfl, A2, M2, pv2, tv2, hP2, hfx2⟩ := hp
          have hG2 := hG1.fx hfx2
          have hst2 : gSt (A2 115) 0 (gpr (nI k) q i) := by rw [hfx2.1 115 (by omega) (by omega) (by omega) (by omega)]; exact hst
          refine j_if_eq (nx := 69) (tgt := 91) hJ dX6_difference_66 rfl (by decide) (fun c66 => ?_) (fun c66 => ?_)
          · rw [gb_f] at c66
            refine j_p (nx := 92) hJ dX6_difference_91 rfl rfl ?_
            refine j_p (nx := 94) hJ dX6_difference_92 rfl rfl ?_
            have hnx := r6_nextWord (d := d + 58) hP2 (k := k) (hG2.1.1.trans hk1) hk3.2 (w := (gpr (nI k) q i)) (by rw [gpr_len]; omega) hst2 (fun j hj => (gpr_val hk3.1 hk3.2 i hil).1 j (by rw [gpr_len] at hj; exact hj))
            rw [gpr_len, gpr_wr hk3.1 hk3.2 hil] at hnx
            refine j_cv (nx := 97) hJ dX6_difference_94 rfl hnx mX6_270 hP2.1.1 kX6_nextWord rfl (gle8 rfl) (fun o h9 hp => ?_)
            obtain ⟨rfl, f9, hP9, hst9⟩ := hp
            have hG9 := hG2.scr (E' := E) (fun a ha => gU_n (r := 115) _ f9 (by omega)) rfl ⟨rfl, rfl, rfl, rfl, rfl, rfl⟩
            refine j_p (nx := 99) hJ dX6_difference_97 rfl rfl ?_
            refine j_go (tgt := 53) hJ dX6_difference_99 (by decide) ?_
            have hno2 : ∀ j, j < i + 1 → (fun i => gMB (R (5 + 2 * r)) (gpr (nI k) q i) md 0 0 && !gMB (R (5 + 2 * s)) (gpr (nI k) q i) md 0 0) j = false := fun j hj => by
              by_cases e2 : j = i
              · subst e2; show (_ && !_) = false; rw [c66]; rfl
              · exact hnoi j (by omega)
            by_cases hlast : i + 1 < k ^ q
            · rw [decide_eq_true hlast]
              exact ihi hil hlast _ _ _ _ _ hP9 hG9 (by rw [gU_s, gpr, gpr_len]; exact hst9) hno2
            · rw [decide_eq_false hlast]
              refine j_p (nx := 55) hJ dX6_difference_53 rfl rfl ?_
              refine j_if_eq (nx := 58) (tgt := 102) hJ dX6_difference_55 rfl (by decide) (fun c55 => ?_) (fun c55 => absurd rfl c55)
              refine j_inc (nx := 105) hJ dX6_difference_102 rfl rfl (gi1 q) rfl ?_
              refine j_go (tgt := 39) hJ dX6_difference_105 (by decide) ?_
              refine ih hqz _ _ _ _ _ _ hP9 hG9 (fun j hj => ?_)
              by_cases e2 : j = q
              · subst e2; show Option.map _ _ = none; rw [show gdf (R (5 + 2 * r)) (R (5 + 2 * s)) (nI k) md (k ^ j) j = none from gfnd_n (fun u hu => hno2 u (by omega))]; rfl
              · exact hno j (by omega)
          rw [gb_t] at c66
          refine j_p (nx := 70) hJ dX6_difference_69 rfl rfl ?_
          refine j_p (nx := 71) hJ dX6_difference_70 rfl rfl ?_
          refine j_p (nx := 72) hJ dX6_difference_71 rfl rfl ?_
          refine j_p (nx := 74) hJ dX6_difference_72 rfl rfl ?_
          have hge3 := r6_generates (d := d + 50) hP2 hs (p := (R (5 + 2 * s))) (t := (gpr (nI k) q i)) (hG2.2.1 s hs) hst2 (by rw [gpr_len]; omega) (hps.sy hk3.2) hps.2.2.2.2 hm.2.1
          rw [gpr_len] at hge3
          refine j_cv (nx := 77) hJ dX6_difference_74 rfl hge3 mX6_267 hP2.1.1 kX6_generates rfl (gle8 rfl) (fun o h3 hp => ?_)
          obtain ⟨rfl, A3, M3, pv3, tv3, hP3, hfx3⟩ := hp
          have hG3 := hG2.fx hfx3
          have hst3 : gSt (A3 115) 0 (gpr (nI k) q i) := by rw [hfx3.1 115 (by omega) (by omega) (by omega) (by omega)]; exact hst2
          refine j_if_ne (nx := 80) (tgt := 91) hJ dX6_difference_77 rfl (by decide) (fun c77 => ?_) (fun c77 => ?_)
          · rw [gb_t] at c77
            refine j_p (nx := 92) hJ dX6_difference_91 rfl rfl ?_
            refine j_p (nx := 94) hJ dX6_difference_92 rfl rfl ?_
            have hnx := r6_nextWord (d := d + 58) hP3 (k := k) (hG3.1.1.trans hk1) hk3.2 (w := (gpr (nI k) q i)) (by rw [gpr_len]; omega) hst3 (fun j hj => (gpr_val hk3.1 hk3.2 i hil).1 j (by rw [gpr_len] at hj; exact hj))
            rw [gpr_len, gpr_wr hk3.1 hk3.2 hil] at hnx
            refine j_cv (nx := 97) hJ dX6_difference_94 rfl hnx mX6_270 hP3.1.1 kX6_nextWord rfl (gle8 rfl) (fun o h9 hp => ?_)
            obtain ⟨rfl, f9, hP9, hst9⟩ := hp
            have hG9 := hG3.scr (E' := E) (fun a ha => gU_n (r := 115) _ f9 (by omega)) rfl ⟨rfl, rfl, rfl, rfl, rfl, rfl⟩
            refine j_p (nx := 99) hJ dX6_difference_97 rfl rfl ?_
            refine j_go (tgt := 53) hJ dX6_difference_99 (by decide) ?_
            have hno2 : ∀ j, j < i + 1 → (fun i => gMB (R (5 + 2 * r)) (gpr (nI k) q i) md 0 0 && !gMB (R (5 + 2 * s)) (gpr (nI k) q i) md 0 0) j = false := fun j hj => by
              by_cases e2 : j = i
              · subst e2; show (_ && !_) = false; rw [c77]; simp
              · exact hnoi j (by omega)
            by_cases hlast : i + 1 < k ^ q
            · rw [decide_eq_true hlast]
              exact ihi hil hlast _ _ _ _ _ hP9 hG9 (by rw [gU_s, gpr, gpr_len]; exact hst9) hno2
            · rw [decide_eq_false hlast]
              refine j_p (nx := 55) hJ dX6_difference_53 rfl rfl ?_
              refine j_if_eq (nx := 58) (tgt := 102) hJ dX6_difference_55 rfl (by decide) (fun c55 => ?_) (fun c55 => absurd rfl c55)
              refine j_inc (nx := 105) hJ dX6_difference_102 rfl rfl (gi1 q) rfl ?_
              refine j_go (tgt := 39) hJ dX6_difference_105 (by decide) ?_
              refine ih hqz _ _ _ _ _ _ hP9 hG9 (fun j hj => ?_)
              by_cases e2 : j = q
              · subst e2; show Option.map _ _ = none; rw [show gdf (R (5 + 2 * r)) (R (5 + 2 * s)) (nI k) md (k ^ j) j = none from gfnd_n (fun u hu => hno2 u (by omega))]; rfl
              · exact hno j (by omega)
          rw [gb_f] at c77
          refine j_p (nx := 81) hJ dX6_difference_80 rfl rfl ?_
          refine j_get (nx := 84) hJ dX6_difference_81 rfl fX6_61 hP3.1.1 (by rfl) ?_
          refine j_c (nx := 85) hJ dX6_difference_84 rfl gk_iconst_0 ?_
          refine j_p (nx := 87) hJ dX6_difference_85 rfl rfl ?_
          have hco := r6_code (d := d + 58) (show h3 115 = some (gia 8 (A3 115)) from hP3.a 115 (by unfold gia'; omega)) hst3 (by rw [gpr_len]; omega) (by omega)
          rw [gpr_len] at hco
          refine j_csR (nx := 90) hJ dX6_difference_87 rfl hco mX6_241 rfl (gle8 rfl) ?_
          have hsyw : ∀ y ∈ (gpr (nI k) q i), gsy y := gallD (P := gsy) (fun j hj => by obtain ⟨u, hu, huk⟩ := (gpr_val hk3.1 hk3.2 i hil).1 j (by rw [gpr_len] at hj; exact hj); rw [hu]; exact gsy_nI (by omega))
          have e9 : (List.range (zn + 1)).findSome? (fun n => (gdf (R (5 + 2 * r)) (R (5 + 2 * s)) (nI k) md (k ^ n) n).map (fun i => (gwc (gpr (nI k) n i)).1)) = some (gwc (gpr (nI k) q i)).1 := gfs_s hno hqz (by show Option.map _ _ = _; rw [show gdf (R (5 + 2 * r)) (R (5 + 2 * s)) (nI k) md (k ^ q) q = some i from gfnd_s hnoi hil (by show (_ && !_) = true; rw [c66, c77]; rfl)]; rfl)
          exact j_lret hJ dX6_difference_90 ⟨by rw [e, e9, gwc_eq hsyw]; rfl, _, _, _, _, _, hP3, hG3⟩
        refine inner 0 (Nat.zero_le _) hpos _ _ _ _ _ hPf (hG0.scr (fun a ha => gU_n _ _ (by omega)) rfl ⟨rfl, rfl, rfl, rfl, rfl, rfl⟩) (gSt.of (fun j hj => ?_)) (fun j hj => by omega)
        rw [gpr_len] at hj
        rw [gU_s, Nat.zero_add, hz0 j (by omega), gpr, List.getD_eq_getElem?_getD, List.getElem?_replicate, if_pos hj]; rfl
    exact loop 0 (Nat.zero_le _) h A M pv tv none hP hG (fun j hj => by omega)
  · refine j_p (nx := 1) hJ dX6_difference_0 rfl rfl ?_
    refine j_csR (nx := 4) hJ dX6_difference_1 rfl (r6_isRegister (fl := false) (d := d + 57) x) mX6_139 rfl (gle8 rfl) ?_
    refine j_if_eq (nx := 7) (tgt := 32) hJ dX6_difference_4 rfl (by decide) (fun c4 => ?_) (fun c4 => ?_)
    · refine j_ldc2 (nx := 35) hJ dX6_difference_32 rfl qX6_244 ?_
      have e : s_difference R N x y md z = -9223372036854775808 := if_neg hm
      exact j_lret hJ dX6_difference_35 ⟨by rw [e], ⟨A, E, M, pv, tv, hP, hG⟩⟩
    · refine j_p (nx := 8) hJ dX6_difference_7 rfl rfl ?_
      refine j_csR (nx := 11) hJ dX6_difference_8 rfl (r6_isRegister (fl := false) (d := d + 57) y) mX6_139 rfl (gle8 rfl) ?_
      refine j_if_eq (nx := 14) (tgt := 32) hJ dX6_difference_11 rfl (by decide) (fun c11 => ?_) (fun c11 => ?_)
      · refine j_ldc2 (nx := 35) hJ dX6_difference_32 rfl qX6_244 ?_
        have e : s_difference R N x y md z = -9223372036854775808 := if_neg hm
        exact j_lret hJ dX6_difference_35 ⟨by rw [e], ⟨A, E, M, pv, tv, hP, hG⟩⟩
      · refine j_p (nx := 15) hJ dX6_difference_14 rfl rfl ?_
        refine j_csR (nx := 18) hJ dX6_difference_15 rfl (r6_isMode (fl := false) (d := d + 57) md) mX6_221 rfl (gle8 rfl) ?_
        refine j_if_eq (nx := 21) (tgt := 32) hJ dX6_difference_18 rfl (by decide) (fun c18 => ?_) (fun c18 => ?_)
        · refine j_ldc2 (nx := 35) hJ dX6_difference_32 rfl qX6_244 ?_
          have e : s_difference R N x y md z = -9223372036854775808 := if_neg hm
          exact j_lret hJ dX6_difference_35 ⟨by rw [e], ⟨A, E, M, pv, tv, hP, hG⟩⟩
        · refine j_p (nx := 23) hJ dX6_difference_21 rfl rfl ?_
          refine j_c (nx := 24) hJ dX6_difference_23 rfl gk_iconst_0 ?_
          refine j_c (nx := 26) hJ dX6_difference_24 rfl gk_bipush_6 ?_
          refine j_csR (nx := 29) hJ dX6_difference_26 rfl (r6_in (fl := false) (d := d + 58) z 0 6) mX6_101 rfl (gle8 rfl) ?_
          refine j_if_ne (nx := 32) (tgt := 36) hJ dX6_difference_29 rfl (by decide) (fun c29 => ?_) (fun c29 => ?_)
          · rw [gb_t] at c4 c11 c18 c29
            have u := of_decide_eq_true c29
            rw [Int32.le_iff_toInt_le, Int32.le_iff_toInt_le, show (0 : Int32).toInt = 0 by decide, show (6 : Int32).toInt = 6 by decide] at u
            exact absurd ⟨⟨c4, c11⟩, c18, u⟩ hm
          · refine j_ldc2 (nx := 35) hJ dX6_difference_32 rfl qX6_244 ?_
            have e : s_difference R N x y md z = -9223372036854775808 := if_neg hm
            exact j_lret hJ dX6_difference_35 ⟨by rw [e], ⟨A, E, M, pv, tv, hP, hG⟩⟩
