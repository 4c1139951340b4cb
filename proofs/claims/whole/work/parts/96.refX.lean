theorem gpt_n {k1 : Int32} {l : List Int32} (h : ¬ (l.length ≤ 8 ∧ 1 ≤ l.length ∧ ∀ c ∈ l, gcode k1 c ≠ -1)) : gpt k1 l = none := by
  cases hg : gpt k1 l with
  | none => rfl
  | some x => obtain ⟨-, h1, h2, h3⟩ := gpt_v hg; exact absurd ⟨h1, h2, h3⟩ h
theorem gpt_s {k1 : Int32} {l : List Int32} (h1 : l.length ≤ 8) (h2 : 1 ≤ l.length) (h3 : ∀ c ∈ l, gcode k1 c ≠ -1) : gpt k1 l = some (gcan (l.map (gcode k1))) := by
  unfold gpt grd
  rw [if_pos ⟨h1, h3⟩]
  show (if (l.map (gcode k1)).length < 1 then none else some _) = _
  rw [List.length_map, if_neg (by omega)]
theorem gcast (v : Int32) : v.toInt64.toInt32 = v := by simp
set_option maxHeartbeats 4000000 in
theorem r6_loadPattern {d : Nat} {h0 h : GH} {R : Nat → List Int32} {N : Nat → Int32} (hS : gRS h0 h R N) (hI : gInv R N) (x y : Int32) : gN false (d + 60) yX6_loadPattern [.ref 99, .int x, .int y] h (fun o h' => o = some (.int (s_loadPattern R N x y).1) ∧ gRS h0 h' (s_loadPattern R N x y).2.1 (s_loadPattern R N x y).2.2) := by
  obtain ⟨A, E, M, pv, tv, hP, hG⟩ := hS
  have g0 := hG.1.1
  have g9 := hG.1.2.2.1
  obtain ⟨⟨k, ss, hk1, hk3, hss1, hss6, hpt, him, hsm⟩, hI2, hI3, hI4, hI5⟩ := hI
  refine gN.of MX6_loadPattern (Nat.le_of_ble_eq_true rfl) (fun J n hJ => ?_)
  show J 0 [some (.ref 99), some (.int x), some (.int y), none] [] h (n, 0, 0, false)
  by_cases hx : gbt x 6 = true
  · obtain ⟨r, rfl, hr⟩ := gbt_spec hx
    have egr := gr_nI (r := r) (by omega)
    have hl := hG.2.1 r hr
    have hl8 := hl.2.1
    have hpr := hpt r hr
    by_cases hy : gbt y 4 = true
    · obtain ⟨s, rfl, hs⟩ := gbt_spec hy
      have ege2 := ge_nI (r := s) (by omega)
      have egt2 := gt_nI (r := s) (by omega)
      have hyy := hG.2.2.2.2.1 s hs
      have hty := gty (hI5 s hs).1
      refine j_p (nx := 1) hJ dX6_loadPattern_0 rfl rfl ?_
      refine j_csR (nx := 4) hJ dX6_loadPattern_1 rfl (r6_isRegister (fl := false) (d := d + 57) _) mX6_139 rfl (gle8 rfl) ?_
      rw [show gbt _ 6 = true from hx]
      refine j_if_ne (nx := 7) (tgt := 10) hJ dX6_loadPattern_4 rfl (by decide) (fun c4 => ?_) (fun c4 => absurd c4 (by decide))
      refine j_p (nx := 11) hJ dX6_loadPattern_10 rfl rfl ?_
      refine j_csR (nx := 14) hJ dX6_loadPattern_11 rfl (r6_isSlot (fl := false) (d := d + 57) _) mX6_273 rfl (gle8 rfl) ?_
      rw [show gbt _ 4 = true from hy]
      refine j_if_ne (nx := 17) (tgt := 19) hJ dX6_loadPattern_14 rfl (by decide) (fun c14 => ?_) (fun c14 => absurd c14 (by decide))
      refine j_p (nx := 20) hJ dX6_loadPattern_19 rfl rfl ?_
      refine j_get (nx := 23) hJ dX6_loadPattern_20 rfl fX6_64 hP.1.1 (by rfl) ?_
      refine j_p (nx := 24) hJ dX6_loadPattern_23 rfl rfl ?_
      refine j_iald (j := s) (nx := 25) hJ dX6_loadPattern_24 rfl (show h 116 = some (gia 4 (A 116)) from hP.a 116 (by unfold gia'; omega)) rfl (by omega) (by decide) ?_
      rw [hyy.1]
      refine j_if_ge (nx := 28) (tgt := 31) hJ dX6_loadPattern_25 rfl (by decide) (fun c25 => ?_) (fun c25 => ?_)
      · have hne : ¬ (N (87 + 3 * s)) = -1 := hty.mp c25
        obtain ⟨y1, y2, y3⟩ := hyy.2 hne
        refine j_p (nx := 32) hJ dX6_loadPattern_31 rfl rfl ?_
        refine j_get (nx := 35) hJ dX6_loadPattern_32 rfl fX6_64 hP.1.1 (by rfl) ?_
        refine j_p (nx := 36) hJ dX6_loadPattern_35 rfl rfl ?_
        refine j_iald (j := s) (nx := 37) hJ dX6_loadPattern_36 rfl (show h 116 = some (gia 4 (A 116)) from hP.a 116 (by unfold gia'; omega)) rfl (by omega) (by decide) ?_
        rw [hyy.1]
        refine j_c (nx := 38) hJ dX6_loadPattern_37 rfl gk_iconst_1 ?_
        refine j_ic_eq (nx := 41) (tgt := 44) hJ dX6_loadPattern_38 rfl (by decide) (fun c38 => ?_) (fun c38 => ?_)
        · refine j_p (nx := 45) hJ dX6_loadPattern_44 rfl rfl ?_
          refine j_get (nx := 48) hJ dX6_loadPattern_45 rfl fX6_67 hP.1.1 (by rfl) ?_
          refine j_p (nx := 49) hJ dX6_loadPattern_48 rfl rfl ?_
          refine j_iald (j := s) (nx := 50) hJ dX6_loadPattern_49 rfl (show h 117 = some (gia 4 (A 117)) from hP.a 117 (by unfold gia'; omega)) rfl (by omega) (by decide) ?_
          rw [show A 117 s = nI (R (88 + 3 * s)).length from y1]
          refine j_c (nx := 51) hJ dX6_loadPattern_50 rfl gk_iconst_1 ?_
          refine j_c (nx := 53) hJ dX6_loadPattern_51 rfl gk_bipush_8 ?_
          refine j_csR (nx := 56) hJ dX6_loadPattern_53 rfl (r6_in (fl := false) (d := d + 58) (nI (R (88 + 3 * s)).length) 1 8) mX6_101 rfl (gle8 rfl) ?_
          refine j_if_ne (nx := 59) (tgt := 62) hJ dX6_loadPattern_56 rfl (by decide) (fun c56 => ?_) (fun c56 => ?_)
          · refine j_c (nx := 63) hJ dX6_loadPattern_62 rfl gk_iconst_0 ?_
            refine j_p (nx := 64) hJ dX6_loadPattern_63 rfl rfl ?_
            rw [gb_t] at c56
            have u := of_decide_eq_true c56
            rw [show (1 : Int32) = nI 1 from rfl, show (8 : Int32) = nI 8 from rfl, gnle (by omega) (by omega), gnle (by omega) (by omega)] at u
            obtain ⟨hl1s, hl8s⟩ := u
            have loop : ∀ i, i ≤ (R (88 + 3 * s)).length → ∀ (h1 : GH) (f : Nat → Int32), gP h0 h1 (gU A 107 f) E M pv tv → gSt f 0 (((R (88 + 3 * s)).take i).map (gcode (N 1))) → (∀ j, j < i → gcode (N 1) ((R (88 + 3 * s)).getD j (-1)) ≠ -1) → J 64 [some (.ref 99), some (.int (nI r)), some (.int (nI s)), some (.int (nI i))] [] h1 (n, 0, 0, false) := by
              refine gloop _ _ (fun i hi ih h1 f hP1 hf hgd => ?_)
              refine j_p (nx := 65) hJ dX6_loadPattern_64 rfl rfl ?_
              refine j_p (nx := 66) hJ dX6_loadPattern_65 rfl rfl ?_
              refine j_get (nx := 69) hJ dX6_loadPattern_66 rfl fX6_67 hP1.1.1 (by rfl) ?_
              refine j_p (nx := 70) hJ dX6_loadPattern_69 rfl rfl ?_
              refine j_iald (j := s) (nx := 71) hJ dX6_loadPattern_70 rfl (show h1 117 = some (gia 4 ((gU A 107 f) 117)) from hP1.a 117 (by unfold gia'; omega)) rfl (by omega) (by decide) ?_
              rw [show (gU A 107 f) 117 s = nI (R (88 + 3 * s)).length from y1]
              refine j_ic_ge (nx := 74) (tgt := 114) hJ dX6_loadPattern_71 rfl (by decide) (fun c71 => ?_) (fun c71 => ?_)
              · rw [gnle (by omega) (by omega)] at c71
                have e0 : i = (R (88 + 3 * s)).length := by omega
                subst e0
                rw [List.take_length] at hf
                have hall := gallD (P := fun c => gcode (N 1) c ≠ -1) (l := (R (88 + 3 * s))) (fun j hj => hgd j hj)
                have hg := gpt_s hl8s hl1s hall
                have hsym : ∀ c ∈ (R (88 + 3 * s)).map (gcode (N 1)), gsy c := fun c hc => by
                  obtain ⟨z, hz, rfl⟩ := List.mem_map.mp hc
                  exact ((gcode_sy hk1 hk3.2 z).resolve_left (hall z hz)).sy hk3.2
                refine j_p (nx := 115) hJ dX6_loadPattern_114 rfl rfl ?_
                refine j_p (nx := 116) hJ dX6_loadPattern_115 rfl rfl ?_
                refine j_get (nx := 119) hJ dX6_loadPattern_116 rfl fX6_67 hP1.1.1 (by rfl) ?_
                refine j_p (nx := 120) hJ dX6_loadPattern_119 rfl rfl ?_
                refine j_iald (j := s) (nx := 121) hJ dX6_loadPattern_120 rfl (show h1 117 = some (gia 4 ((gU A 107 f) 117)) from hP1.a 117 (by unfold gia'; omega)) rfl (by omega) (by decide) ?_
                rw [show (gU A 107 f) 117 s = nI (R (88 + 3 * s)).length from y1]
                refine j_put (nx := 124) hJ dX6_loadPattern_121 rfl fX6_112 (zX6_11 _) hP1.1.1 (Nat.le_of_ble_eq_true rfl) ?_
                change J 124 _ _ (gup h1 99 (gO (gU M 11 (nI (R (88 + 3 * s)).length)) pv tv)) _
                have hP2 := hP1.fld (gU M 11 (nI (R (88 + 3 * s)).length)) pv tv
                refine j_p (nx := 125) hJ dX6_loadPattern_124 rfl rfl ?_
                refine j_p (nx := 126) hJ dX6_loadPattern_125 rfl rfl ?_
                refine j_cv (nx := 129) hJ dX6_loadPattern_126 rfl (r6_store (d := d + 57) hP2 hr (l := (R (88 + 3 * s)).map (gcode (N 1))) (by rw [List.length_map]; rfl) (by rw [List.length_map]; omega) hf hsym) mX6_143 hP2.1.1 kX6_store rfl (gle8 rfl) (fun o h3 hp => ?_)
                obtain ⟨rfl, A2, hP3, k1, k2, k3, k4⟩ := hp
                have e : s_loadPattern R N (nI r) (nI s) = (nI (gcan ((R (88 + 3 * s)).map (gcode (N 1)))).length, gU R (5 + 2 * r) (gcan ((R (88 + 3 * s)).map (gcode (N 1)))), N) := by unfold s_loadPattern; rw [if_pos hx, if_pos hy, egt2, if_neg hne, if_pos c38, ege2, hg, egr]
                refine j_iret hJ dX6_loadPattern_129 ⟨by rw [e, gcan_len], ?_⟩
                rw [e]
                exact ⟨_, _, _, _, _, hP3, (hG.scr (A' := gU A 107 f) (M' := gU M 11 (nI (R (88 + 3 * s)).length)) (fun a ha => gU_n _ _ (by omega)) rfl ⟨rfl, rfl, rfl, rfl, rfl, rfl⟩).pat hr k1 k2 k3 (fun a p1 p2 p3 => k4 a p1 p2 (by omega))⟩
              · rw [gnle (by omega) (by omega)] at c71
                have hil : i < (R (88 + 3 * s)).length := by omega
                refine j_p (nx := 75) hJ dX6_loadPattern_74 rfl rfl ?_
                refine j_get (nx := 78) hJ dX6_loadPattern_75 rfl fX6_37 hP1.1.1 (by rfl) ?_
                refine j_p (nx := 79) hJ dX6_loadPattern_78 rfl rfl ?_
                refine j_p (nx := 80) hJ dX6_loadPattern_79 rfl rfl ?_
                refine j_p (nx := 81) hJ dX6_loadPattern_80 rfl rfl ?_
                refine j_get (nx := 84) hJ dX6_loadPattern_81 rfl fX6_70 hP1.1.1 (by rfl) ?_
                refine j_c (nx := 86) hJ dX6_loadPattern_84 rfl gk_bipush_40 ?_
                refine j_p (nx := 87) hJ dX6_loadPattern_86 rfl rfl ?_
                refine j_p (nx := 88) hJ dX6_loadPattern_87 rfl rfl ?_
                rw [show (40 : Int32) = nI 40 from rfl, gmul]
                refine j_p (nx := 89) hJ dX6_loadPattern_88 rfl rfl ?_
                refine j_p (nx := 90) hJ dX6_loadPattern_89 rfl rfl ?_
                rw [gadd]
                refine j_lald (j := 40 * s + i) (nx := 91) hJ dX6_loadPattern_90 rfl hP1.1.2.2.1 rfl (by omega) (by decide) ?_
                rw [(show E 118 (40 * s + i) = ((R (88 + 3 * s)).getD i (-1)).toInt64 from by rw [List.getD_eq_getElem?_getD, List.getElem?_eq_getElem hil]; exact y3 i _ (List.getElem?_eq_getElem hil))]
                refine j_p (nx := 92) hJ dX6_loadPattern_91 rfl rfl ?_
                rw [gcast]
                refine j_cvR (nx := 95) hJ dX6_loadPattern_92 rfl (r6_codeOf (d := d + 57) hP1 (g0.trans hk1) hk3.2 _) mX6_108 hP1.1.1 kX6_codeOf rfl (gle8 rfl) ?_
                rw [g0]
                refine j_iast (j := i) (nx := 96) hJ dX6_loadPattern_95 rfl (show h1 107 = some (gia 8 f) from hP1.a 107 (by unfold gia'; omega)) rfl (by omega) (by decide) ?_
                have hP2 : gP h0 (gup h1 107 (gia 8 (upd f i (gcode (N 1) ((R (88 + 3 * s)).getD i (-1)))))) (gU A 107 (upd f i (gcode (N 1) ((R (88 + 3 * s)).getD i (-1))))) E M pv tv := (hP1.arr (a := 107) (by unfold gia'; omega) _).uu
                refine j_p (nx := 97) hJ dX6_loadPattern_96 rfl rfl ?_
                refine j_get (nx := 100) hJ dX6_loadPattern_97 rfl fX6_37 hP2.1.1 (by rfl) ?_
                refine j_p (nx := 101) hJ dX6_loadPattern_100 rfl rfl ?_
                refine j_iald (j := i) (nx := 102) hJ dX6_loadPattern_101 rfl (show (gup h1 107 (gia 8 (upd f i (gcode (N 1) ((R (88 + 3 * s)).getD i (-1)))))) 107 = some (gia 8 ((gU A 107 (upd f i (gcode (N 1) ((R (88 + 3 * s)).getD i (-1))))) 107)) from hP2.a 107 (by unfold gia'; omega)) rfl (by omega) (by decide) ?_
                rw [show (gU A 107 (upd f i (gcode (N 1) ((R (88 + 3 * s)).getD i (-1))))) 107 i = (gcode (N 1) ((R (88 + 3 * s)).getD i (-1))) from by rw [gU_s]; simp [upd]]
                refine j_if_ge (nx := 105) (tgt := 108) hJ dX6_loadPattern_102 rfl (by decide) (fun c102 => ?_) (fun c102 => ?_)
                · refine j_inc (nx := 111) hJ dX6_loadPattern_108 rfl rfl (gi1 i) rfl ?_
                  refine j_go (tgt := 64) hJ dX6_loadPattern_111 (by decide) ?_
                  refine ih hil _ _ hP2 ?_ (fun j hj => ?_)
                  · rw [gtake_s hil, List.map_append]
                    have := gst_up (c := (gcode (N 1) ((R (88 + 3 * s)).getD i (-1)))) hf (i := i) (by rw [List.length_map, List.length_take]; omega)
                    rw [Nat.zero_add] at this
                    exact this
                  · by_cases e : j = i
                    · subst e; intro q; rw [q] at c102; exact absurd c102 (by decide)
                    · exact hgd j (by omega)
                · refine j_c (nx := 107) hJ dX6_loadPattern_105 rfl gk_bipush_m5 ?_
                  have hbad : (gcode (N 1) ((R (88 + 3 * s)).getD i (-1))) = -1 := (gcode_sy hk1 hk3.2 _).resolve_right (fun q => c102 (by have := (q.sy hk3.2).1; rw [Int32.le_iff_toInt_le, Int32.toInt_zero]; exact this))
                  have hg := gpt_n (k1 := N 1) (l := (R (88 + 3 * s))) (fun q => q.2.2 _ (ggetD_mem hil) hbad)
                  have e : s_loadPattern R N (nI r) (nI s) = (-5, R, N) := by unfold s_loadPattern; rw [if_pos hx, if_pos hy, egt2, if_neg hne, if_pos c38, ege2, hg]
                  exact j_iret hJ dX6_loadPattern_107 ⟨by rw [e], by rw [e]; exact ⟨_, _, _, _, _, hP2, hG.scr (fun a ha => gU_n _ _ (by omega)) rfl ⟨rfl, rfl, rfl, rfl, rfl, rfl⟩⟩⟩
            exact loop 0 (Nat.zero_le _) h (A 107) (hP.rw (gU_self A 107) (fun _ => rfl) (fun _ => rfl)) (fun j v hv => by cases hv) (fun j hj => by omega)
          · refine j_c (nx := 61) hJ dX6_loadPattern_59 rfl gk_bipush_m5 ?_
            rw [gb_f] at c56
            have hg := gpt_n (k1 := N 1) (l := (R (88 + 3 * s))) (fun q => of_decide_eq_false c56 (by rw [show (1 : Int32) = nI 1 from rfl, show (8 : Int32) = nI 8 from rfl, gnle (by omega) (by omega), gnle (by omega) (by omega)]; exact ⟨q.2.1, q.1⟩))
            have e : s_loadPattern R N (nI r) (nI s) = (-5, R, N) := by unfold s_loadPattern; rw [if_pos hx, if_pos hy, egt2, if_neg hne, if_pos c38, ege2, hg]
            exact j_iret hJ dX6_loadPattern_61 ⟨by rw [e], by rw [e]; exact ⟨A, E, M, pv, tv, hP, hG⟩⟩
        · refine j_c (nx := 43) hJ dX6_loadPattern_41 rfl gk_bipush_m12 ?_
          have e : s_loadPattern R N (nI r) (nI s) = (-12, R, N) := by unfold s_loadPattern; rw [if_pos hx, if_pos hy, egt2, if_neg hne, if_neg c38]
          exact j_iret hJ dX6_loadPattern_43 ⟨by rw [e], by rw [e]; exact ⟨A, E, M, pv, tv, hP, hG⟩⟩
      · refine j_c (nx := 30) hJ dX6_loadPattern_28 rfl gk_bipush_m11 ?_
        have hq : (N (87 + 3 * s)) = -1 := Classical.not_not.mp (fun q => c25 (hty.mpr q))
        have e : s_loadPattern R N (nI r) (nI s) = (-11, R, N) := by unfold s_loadPattern; rw [if_pos hx, if_pos hy, egt2, if_pos hq]
        exact j_iret hJ dX6_loadPattern_30 ⟨by rw [e], by rw [e]; exact ⟨A, E, M, pv, tv, hP, hG⟩⟩
    · refine j_p (nx := 1) hJ dX6_loadPattern_0 rfl rfl ?_
      refine j_csR (nx := 4) hJ dX6_loadPattern_1 rfl (r6_isRegister (fl := false) (d := d + 57) _) mX6_139 rfl (gle8 rfl) ?_
      rw [show gbt _ 6 = true from hx]
      refine j_if_ne (nx := 7) (tgt := 10) hJ dX6_loadPattern_4 rfl (by decide) (fun c4 => ?_) (fun c4 => absurd c4 (by decide))
      refine j_p (nx := 11) hJ dX6_loadPattern_10 rfl rfl ?_
      refine j_csR (nx := 14) hJ dX6_loadPattern_11 rfl (r6_isSlot (fl := false) (d := d + 57) _) mX6_273 rfl (gle8 rfl) ?_
      rw [show gbt _ 4 = false from Bool.eq_false_iff.mpr hy]
      refine j_if_ne (nx := 17) (tgt := 19) hJ dX6_loadPattern_14 rfl (by decide) (fun c14 => absurd c14 (by decide)) (fun c14 => ?_)
      refine j_c (nx := 18) hJ dX6_loadPattern_17 rfl gk_iconst_m1 ?_
      have e : s_loadPattern R N (nI r) y = (-1, R, N) := by unfold s_loadPattern; rw [if_pos hx, if_neg hy]
      exact j_iret hJ dX6_loadPattern_18 ⟨by rw [e], by rw [e]; exact ⟨A, E, M, pv, tv, hP, hG⟩⟩
  · refine j_p (nx := 1) hJ dX6_loadPattern_0 rfl rfl ?_
    refine j_csR (nx := 4) hJ dX6_loadPattern_1 rfl (r6_isRegister (fl := false) (d := d + 57) _) mX6_139 rfl (gle8 rfl) ?_
    rw [show gbt _ 6 = false from Bool.eq_false_iff.mpr hx]
    refine j_if_ne (nx := 7) (tgt := 10) hJ dX6_loadPattern_4 rfl (by decide) (fun c4 => absurd c4 (by decide)) (fun c4 => ?_)
    refine j_c (nx := 9) hJ dX6_loadPattern_7 rfl gk_bipush_m2 ?_
    have e : s_loadPattern R N x y = (-2, R, N) := if_neg hx
    exact j_iret hJ dX6_loadPattern_9 ⟨by rw [e], by rw [e]; exact ⟨A, E, M, pv, tv, hP, hG⟩⟩
