theorem gmap_get (g : Int32 → Int32) {l : List Int32} {i : Nat} (h : i < l.length) : (l.map g).getD i (-1) = g (l.getD i (-1)) := by
  rw [List.getD_eq_getElem?_getD, List.getElem?_map, List.getElem?_eq_getElem h, List.getD_eq_getElem?_getD, List.getElem?_eq_getElem h]; rfl
theorem grev_get {l : List Int32} {i : Nat} (h : i < l.length) : l.reverse.getD i (-1) = l.getD (l.length - 1 - i) (-1) := by
  rw [List.getD_eq_getElem?_getD, List.getElem?_reverse h, List.getD_eq_getElem?_getD]
theorem gdl_get {l : List Int32} {i : Nat} (h : i < l.length - 1) : l.dropLast.getD i (-1) = l.getD i (-1) := by
  rw [List.dropLast_eq_take, List.getD_eq_getElem?_getD, List.getElem?_take_of_lt h, List.getD_eq_getElem?_getD]
theorem gsw_val {y : Int32} (hs : gsy y) (h : ¬ (2 : Int32) ≤ y) : (1 : Int32) - y = if y = 0 then 1 else if y = 1 then 0 else y := by
  rw [Int32.le_iff_toInt_le, show (2 : Int32).toInt = 2 by decide] at h
  have h0 := hs.1
  rcases (show y.toInt = ((0 : Nat) : Int) ∨ y.toInt = ((1 : Nat) : Int) by omega) with e | e
  · have := gsy_eq (by decide) e; subst this; decide
  · have := gsy_eq (by decide) e; subst this; decide
theorem gsw_keep {y : Int32} (h : (2 : Int32) ≤ y) : y = if y = 0 then 1 else if y = 1 then 0 else y := by
  rw [if_neg (fun q => by rw [q] at h; exact absurd h (by decide)), if_neg (fun q => by rw [q] at h; exact absurd h (by decide))]
theorem gcol_v {y : Int32} (hs : gsy y) (h : (10 : Int32) ≤ y) : (10 : Int32) = if 10 ≤ y ∧ y ≤ 13 then 10 else y := by
  rw [if_pos ⟨h, by have := hs.2; rw [Int32.le_iff_toInt_le, show (13 : Int32).toInt = 13 by decide]; omega⟩]
theorem gcol_l {y : Int32} (h : ¬ (10 : Int32) ≤ y) : y = if 10 ≤ y ∧ y ≤ 13 then 10 else y := by rw [if_neg (fun q => h q.1)]
theorem gfor_l {y : Int32} (hs : gsy y) (h : ¬ (10 : Int32) ≤ y) : (10 : Int32) = if 0 ≤ y ∧ y ≤ 9 then 10 else y := by
  rw [Int32.le_iff_toInt_le, show (10 : Int32).toInt = 10 by decide] at h
  have := hs.1
  rw [if_pos ⟨by rw [Int32.le_iff_toInt_le, Int32.toInt_zero]; omega, by rw [Int32.le_iff_toInt_le, show (9 : Int32).toInt = 9 by decide]; omega⟩]
theorem gfor_v {y : Int32} (h : (10 : Int32) ≤ y) : y = if 0 ≤ y ∧ y ≤ 9 then 10 else y := by
  rw [if_neg (fun q => by rw [Int32.le_iff_toInt_le] at h; have q2 := q.2; rw [Int32.le_iff_toInt_le] at q2; have h1 : (10 : Int32).toInt = 10 := rfl; have h2 : (9 : Int32).toInt = 9 := rfl; omega)]
theorem gmapsy {l : List Int32} {g : Int32 → Int32} (h : ∀ c ∈ l, gsy c) (hg : ∀ y, gsy y → gsy (g y)) : ∀ c ∈ l.map g, gsy c := fun c hc => by
  obtain ⟨y, hy, rfl⟩ := List.mem_map.mp hc
  exact hg y (h y hy)
set_option maxHeartbeats 4000000 in
theorem r6_transform {d : Nat} {h0 h : GH} {R : Nat → List Int32} {N : Nat → Int32} (hS : gRS h0 h R N) (hI : gInv R N) (x : Int32) : gN false (d + 60) yX6_transform [.ref 99, .int x] h (fun o h' => o = some (.int (s_transform R N x).1) ∧ gRS h0 h' (s_transform R N x).2.1 (s_transform R N x).2.2) := by
  obtain ⟨A, E, M, pv, tv, hP, hG⟩ := hS
  have g0 := hG.1.1
  have g9 := hG.1.2.2.1
  obtain ⟨⟨k, ss, hk1, hk3, hss1, hss6, hpt, him, hsm⟩, hI2, hI3, hI4, hI5⟩ := hI
  refine gN.of MX6_transform (Nat.le_of_ble_eq_true rfl) (fun J n hJ => ?_)
  show J 0 [some (.ref 99), some (.int x), none, none, none, none, none] [] h (n, 0, 0, false)
  refine j_p (nx := 1) hJ dX6_transform_0 rfl rfl ?_
  refine j_ldcS (nx := 3) (i := 0) (tx := "reverse") hJ dX6_transform_1 rfl (by decide +kernel) ?_
  refine j_cvR (nx := 6) hJ dX6_transform_3 rfl (r6_inputIs (d := d + 53) hP hG (i := 0) (by omega)) mX6_173 hP.1.1 kX6_inputIs rfl (gle8 rfl) ?_
  refine j_if_eq (nx := 9) (tgt := 13) hJ dX6_transform_6 rfl (by decide) (fun c6 => ?_) (fun c6 => ?_)
  · refine j_p (nx := 14) hJ dX6_transform_13 rfl rfl ?_
    refine j_ldcS (nx := 16) (i := 1) (tx := "swap") hJ dX6_transform_14 rfl (by decide +kernel) ?_
    refine j_cvR (nx := 19) hJ dX6_transform_16 rfl (r6_inputIs (d := d + 53) hP hG (i := 1) (by omega)) mX6_173 hP.1.1 kX6_inputIs rfl (gle8 rfl) ?_
    refine j_if_eq (nx := 22) (tgt := 26) hJ dX6_transform_19 rfl (by decide) (fun c19 => ?_) (fun c19 => ?_)
    · refine j_p (nx := 27) hJ dX6_transform_26 rfl rfl ?_
      refine j_ldcS (nx := 29) (i := 2) (tx := "drop") hJ dX6_transform_27 rfl (by decide +kernel) ?_
      refine j_cvR (nx := 32) hJ dX6_transform_29 rfl (r6_inputIs (d := d + 53) hP hG (i := 2) (by omega)) mX6_173 hP.1.1 kX6_inputIs rfl (gle8 rfl) ?_
      refine j_if_eq (nx := 35) (tgt := 39) hJ dX6_transform_32 rfl (by decide) (fun c32 => ?_) (fun c32 => ?_)
      · refine j_p (nx := 40) hJ dX6_transform_39 rfl rfl ?_
        refine j_ldcS (nx := 42) (i := 3) (tx := "collapse") hJ dX6_transform_40 rfl (by decide +kernel) ?_
        refine j_cvR (nx := 45) hJ dX6_transform_42 rfl (r6_inputIs (d := d + 53) hP hG (i := 3) (by omega)) mX6_173 hP.1.1 kX6_inputIs rfl (gle8 rfl) ?_
        refine j_if_eq (nx := 48) (tgt := 52) hJ dX6_transform_45 rfl (by decide) (fun c45 => ?_) (fun c45 => ?_)
        · refine j_p (nx := 53) hJ dX6_transform_52 rfl rfl ?_
          refine j_ldcS (nx := 55) (i := 4) (tx := "forget") hJ dX6_transform_53 rfl (by decide +kernel) ?_
          refine j_cvR (nx := 58) hJ dX6_transform_55 rfl (r6_inputIs (d := d + 53) hP hG (i := 4) (by omega)) mX6_173 hP.1.1 kX6_inputIs rfl (gle8 rfl) ?_
          refine j_if_eq (nx := 61) (tgt := 65) hJ dX6_transform_58 rfl (by decide) (fun c58 => ?_) (fun c58 => ?_)
          · refine j_c (nx := 66) hJ dX6_transform_65 rfl gk_iconst_m1 ?_
            rw [gb_f] at c6
            rw [gb_f] at c19
            rw [gb_f] at c32
            rw [gb_f] at c45
            rw [gb_f] at c58
            replace c6 := of_decide_eq_false c6
            replace c19 := of_decide_eq_false c19
            replace c32 := of_decide_eq_false c32
            replace c45 := of_decide_eq_false c45
            replace c58 := of_decide_eq_false c58
            by_cases hx : gbt x 6 = true
            · obtain ⟨r, rfl, hr⟩ := gbt_spec hx
              have egr := gr_nI (r := r) (by omega)
              have hl := hG.2.1 r hr
              have hl8 := hl.2.1
              have hpr := hpt r hr
              refine j_p (nx := 67) hJ dX6_transform_66 rfl rfl ?_
              refine j_p (nx := 68) hJ dX6_transform_67 rfl rfl ?_
              refine j_c (nx := 69) hJ dX6_transform_68 rfl gk_iconst_0 ?_
              refine j_put (nx := 72) hJ dX6_transform_69 rfl fX6_105 (zX6_9 _) hP.1.1 (Nat.le_of_ble_eq_true rfl) ?_
              change J 72 _ _ (gup h 99 (gO (gU M 9 (0)) pv tv)) _
              have hP1 := hP.fld (gU M 9 (0)) pv tv
              refine j_p (nx := 73) hJ dX6_transform_72 rfl rfl ?_
              refine j_csR (nx := 76) hJ dX6_transform_73 rfl (r6_isRegister (fl := false) (d := d + 57) _) mX6_139 rfl (gle8 rfl) ?_
              rw [show gbt _ 6 = true from hx]
              refine j_if_ne (nx := 79) (tgt := 82) hJ dX6_transform_76 rfl (by decide) (fun c76 => ?_) (fun c76 => absurd c76 (by decide))
              refine j_p (nx := 83) hJ dX6_transform_82 rfl rfl ?_
              refine j_if_ge (nx := 86) (tgt := 89) hJ dX6_transform_83 rfl (by decide) (fun c83 => absurd c83 (by decide)) (fun _ => ?_)
              refine j_c (nx := 88) hJ dX6_transform_86 rfl gk_bipush_m5 ?_
              have e : s_transform R N (nI r) = (-5, gU R 73 [], N) := by
                have e1 : gtf (N 1) (R 73) (R (5 + 2 * r)) = none := by unfold gtf; rw [if_neg c6, if_neg c19, if_neg c32, if_neg c45, if_neg c58]
                unfold s_transform
                rw [if_pos hx, egr, e1]
              exact j_iret hJ dX6_transform_88 ⟨by rw [e], by rw [e]; exact ⟨_, _, _, _, _, hP1, hG.inp (l := []) (by show 0 ≤ 20; omega) rfl (fun i v hv => by cases hv) ⟨rfl, rfl, rfl, rfl, rfl⟩ (fun a _ _ => rfl)⟩⟩
            · refine j_p (nx := 67) hJ dX6_transform_66 rfl rfl ?_
              refine j_p (nx := 68) hJ dX6_transform_67 rfl rfl ?_
              refine j_c (nx := 69) hJ dX6_transform_68 rfl gk_iconst_0 ?_
              refine j_put (nx := 72) hJ dX6_transform_69 rfl fX6_105 (zX6_9 _) hP.1.1 (Nat.le_of_ble_eq_true rfl) ?_
              change J 72 _ _ (gup h 99 (gO (gU M 9 (0)) pv tv)) _
              have hP1 := hP.fld (gU M 9 (0)) pv tv
              refine j_p (nx := 73) hJ dX6_transform_72 rfl rfl ?_
              refine j_csR (nx := 76) hJ dX6_transform_73 rfl (r6_isRegister (fl := false) (d := d + 57) _) mX6_139 rfl (gle8 rfl) ?_
              rw [show gbt _ 6 = false from Bool.eq_false_iff.mpr hx]
              refine j_if_ne (nx := 79) (tgt := 82) hJ dX6_transform_76 rfl (by decide) (fun c76 => absurd c76 (by decide)) (fun c76 => ?_)
              refine j_c (nx := 81) hJ dX6_transform_79 rfl gk_bipush_m2 ?_
              have e : s_transform R N x = (-2, gU R 73 [], N) := if_neg hx
              exact j_iret hJ dX6_transform_81 ⟨by rw [e], by rw [e]; exact ⟨_, _, _, _, _, hP1, hG.inp (l := []) (by show 0 ≤ 20; omega) rfl (fun i v hv => by cases hv) ⟨rfl, rfl, rfl, rfl, rfl⟩ (fun a _ _ => rfl)⟩⟩
          · refine j_c (nx := 62) hJ dX6_transform_61 rfl gk_iconst_4 ?_
            refine j_go (tgt := 66) hJ dX6_transform_62 (by decide) ?_
            rw [gb_f] at c6
            rw [gb_f] at c19
            rw [gb_f] at c32
            rw [gb_f] at c45
            replace c6 := of_decide_eq_false c6
            replace c19 := of_decide_eq_false c19
            replace c32 := of_decide_eq_false c32
            replace c45 := of_decide_eq_false c45
            rw [gb_t] at c58
            replace c58 := of_decide_eq_true c58
            by_cases hx : gbt x 6 = true
            · obtain ⟨r, rfl, hr⟩ := gbt_spec hx
              have egr := gr_nI (r := r) (by omega)
              have hl := hG.2.1 r hr
              have hl8 := hl.2.1
              have hpr := hpt r hr
              have hpr : gPt k (R (5 + 2 * r)) := hpr
              have hLL : ((R (5 + 2 * r)).map (fun y => if 0 ≤ y ∧ y ≤ 9 then 10 else y)).length = (R (5 + 2 * r)).length := by rw [List.length_map]
              have hml : (gU (gU M 9 0) 11 (nI (R (5 + 2 * r)).length)) 11 = nI ((R (5 + 2 * r)).map (fun y => if 0 ≤ y ∧ y ≤ 9 then 10 else y)).length := by rw [hLL]; rfl
              have hsyl : ∀ c ∈ ((R (5 + 2 * r)).map (fun y => if 0 ≤ y ∧ y ≤ 9 then 10 else y)), gsy c := gmapsy (hpr.sy hk3.2) (fun y hy => by split; exact gsy_nI (x := 10) (by omega); exact hy)
              have hne := hpr.1
              have e : s_transform R N (nI r) = (nI (gcan ((R (5 + 2 * r)).map (fun y => if 0 ≤ y ∧ y ≤ 9 then 10 else y))).length, gU (gU R (5 + 2 * r) (gcan ((R (5 + 2 * r)).map (fun y => if 0 ≤ y ∧ y ≤ 9 then 10 else y)))) 73 [], N) := by
                have e1 : gtf (N 1) (R 73) (R (5 + 2 * r)) = some ((R (5 + 2 * r)).map (fun y => if 0 ≤ y ∧ y ≤ 9 then 10 else y)) := by unfold gtf; rw [if_neg c6, if_neg c19, if_neg c32, if_neg c45, if_pos c58]
                unfold s_transform
                rw [if_pos hx, egr, e1]
              have loop : ∀ i, i ≤ ((R (5 + 2 * r)).map (fun y => if 0 ≤ y ∧ y ≤ 9 then 10 else y)).length → ∀ (h1 : GH) (f : Nat → Int32) (w5 w6 : Option Value), gP h0 h1 (gU A 107 f) E (gU (gU M 9 0) 11 (nI (R (5 + 2 * r)).length)) pv tv → gSt f 0 (((R (5 + 2 * r)).map (fun y => if 0 ≤ y ∧ y ≤ 9 then 10 else y)).take i) → J 120 [some (.ref 99), some (.int (nI r)), some (.int 4), some (.int (nI (R (5 + 2 * r)).length)), some (.int (nI i)), w5, w6] [] h1 (n, 0, 0, false) := by
                refine gloop _ _ (fun i hi ih h1 f w5 w6 hP1 hf => ?_)
                refine j_p (nx := 122) hJ dX6_transform_120 rfl rfl ?_
                refine j_p (nx := 123) hJ dX6_transform_122 rfl rfl ?_
                refine j_get (nx := 126) hJ dX6_transform_123 rfl fX6_112 hP1.1.1 (by rfl) ?_
                rw [show (gU (gU M 9 0) 11 (nI (R (5 + 2 * r)).length)) 11 = nI ((R (5 + 2 * r)).map (fun y => if 0 ≤ y ∧ y ≤ 9 then 10 else y)).length from hml]
                refine j_ic_ge (nx := 129) (tgt := 237) hJ dX6_transform_126 rfl (by decide) (fun c126 => ?_) (fun c126 => ?_)
                · rw [gnle (by omega) (by omega)] at c126
                  have e0 : i = ((R (5 + 2 * r)).map (fun y => if 0 ≤ y ∧ y ≤ 9 then 10 else y)).length := by omega
                  subst e0
                  rw [List.take_length] at hf
                  refine j_p (nx := 238) hJ dX6_transform_237 rfl rfl ?_
                  refine j_p (nx := 239) hJ dX6_transform_238 rfl rfl ?_
                  refine j_cv (nx := 242) hJ dX6_transform_239 rfl (r6_store (d := d + 57) hP1 hr (l := ((R (5 + 2 * r)).map (fun y => if 0 ≤ y ∧ y ≤ 9 then 10 else y))) hml (by omega) hf hsyl) mX6_143 hP1.1.1 kX6_store rfl (gle8 rfl) (fun o h3 hp => ?_)
                  obtain ⟨rfl, A2, hP2, k1, k2, k3, k4⟩ := hp
                  refine j_iret hJ dX6_transform_242 ⟨by rw [e, gcan_len], ?_⟩
                  rw [e]
                  have hG9 : gG (gU A 107 f) E (gU (gU M 9 0) 11 (nI (R (5 + 2 * r)).length)) (gU R 73 []) N := hG.inp (l := []) (by show 0 ≤ 20; omega) rfl (fun i v hv => by cases hv) ⟨rfl, rfl, rfl, rfl, rfl⟩ (fun a _ p => gU_n _ _ (by omega))
                  have hG8 := hG9.pat hr k1 k2 k3 (fun a p1 p2 p3 => k4 a p1 p2 (by omega))
                  exact ⟨_, _, _, _, _, hP2, hG8.rwR (fun a => by simp only [gU]; split; (next q => rw [if_neg (by omega)]); rfl)⟩
                · rw [gnle (by omega) (by omega)] at c126
                  have hil : i < ((R (5 + 2 * r)).map (fun y => if 0 ≤ y ∧ y ≤ 9 then 10 else y)).length := by omega
                  have hsyy : gsy ((R (5 + 2 * r)).getD i (-1)) := hpr.sy hk3.2 _ (ggetD_mem (by omega))
                  refine j_p (nx := 130) hJ dX6_transform_129 rfl rfl ?_
                  refine j_get (nx := 133) hJ dX6_transform_130 rfl fX6_15 hP1.1.1 (by rfl) ?_
                  refine j_c (nx := 135) hJ dX6_transform_133 rfl gk_bipush_8 ?_
                  refine j_p (nx := 136) hJ dX6_transform_135 rfl rfl ?_
                  refine j_p (nx := 137) hJ dX6_transform_136 rfl rfl ?_
                  rw [show (8 : Int32) = nI 8 from rfl, gmul]
                  refine j_p (nx := 138) hJ dX6_transform_137 rfl rfl ?_
                  refine j_if_ne (nx := 141) (tgt := 150) hJ dX6_transform_138 rfl (by decide) (fun _ => ?_) (fun c138 => absurd c138 (by decide))
                  refine j_p (nx := 152) hJ dX6_transform_150 rfl rfl ?_
                  refine j_p (nx := 153) hJ dX6_transform_152 rfl rfl ?_
                  rw [gadd]
                  refine j_iald (j := 8 * r + i) (nx := 154) hJ dX6_transform_153 rfl (show h1 100 = some (gia 48 ((gU A 107 f) 100)) from hP1.a 100 (by unfold gia'; omega)) rfl (by omega) (by decide) ?_
                  rw [show (gU A 107 f) 100 (8 * r + i) = ((R (5 + 2 * r)).getD i (-1)) from hl.2.2.get (by omega)]
                  refine j_p (nx := 156) hJ dX6_transform_154 rfl rfl ?_
                  refine j_p (nx := 158) hJ dX6_transform_156 rfl rfl ?_
                  refine j_c (nx := 160) hJ dX6_transform_158 rfl gk_bipush_10 ?_
                  refine j_ic_ge (nx := 163) (tgt := 167) hJ dX6_transform_160 rfl (by decide) (fun c160 => ?_) (fun c160 => ?_)
                  · refine j_c (nx := 168) hJ dX6_transform_167 rfl gk_iconst_0 ?_
                    refine j_p (nx := 170) hJ dX6_transform_168 rfl rfl ?_
                    refine j_p (nx := 171) hJ dX6_transform_170 rfl rfl ?_
                    refine j_c (nx := 172) hJ dX6_transform_171 rfl gk_iconst_1 ?_
                    refine j_ic_ne (nx := 175) (tgt := 198) hJ dX6_transform_172 rfl (by decide) (fun _ => ?_) (fun c172 => absurd c172 (by decide))
                    refine j_p (nx := 199) hJ dX6_transform_198 rfl rfl ?_
                    refine j_c (nx := 200) hJ dX6_transform_199 rfl gk_iconst_3 ?_
                    refine j_ic_ne (nx := 203) (tgt := 208) hJ dX6_transform_200 rfl (by decide) (fun _ => ?_) (fun c200 => absurd c200 (by decide))
                    refine j_p (nx := 209) hJ dX6_transform_208 rfl rfl ?_
                    refine j_c (nx := 210) hJ dX6_transform_209 rfl gk_iconst_4 ?_
                    refine j_ic_ne (nx := 213) (tgt := 222) hJ dX6_transform_210 rfl (by decide) (fun c210 => absurd c210 (by decide)) (fun _ => ?_)
                    refine j_p (nx := 215) hJ dX6_transform_213 rfl rfl ?_
                    refine j_if_eq (nx := 218) (tgt := 222) hJ dX6_transform_215 rfl (by decide) (fun _ => ?_) (fun c215 => absurd c215 (by decide))
                    refine j_p (nx := 223) hJ dX6_transform_222 rfl rfl ?_
                    refine j_get (nx := 226) hJ dX6_transform_223 rfl fX6_37 hP1.1.1 (by rfl) ?_
                    refine j_p (nx := 228) hJ dX6_transform_226 rfl rfl ?_
                    refine j_p (nx := 230) hJ dX6_transform_228 rfl rfl ?_
                    refine j_iast (j := i) (nx := 231) hJ dX6_transform_230 rfl (show h1 107 = some (gia 8 f) from hP1.a 107 (by unfold gia'; omega)) rfl (by omega) (by decide) ?_
                    refine j_inc (nx := 234) hJ dX6_transform_231 rfl rfl (gi1 i) rfl ?_
                    refine j_go (tgt := 120) hJ dX6_transform_234 (by decide) ?_
                    exact ih (by omega) _ _ _ _ ((hP1.arr (a := 107) (by unfold gia'; omega) (upd f i _)).uu) (gst_up2 hf (by omega) (by rw [gmap_get _ (by omega)]; first | exact gfor_l hsyy c160 | exact gfor_v c160))
                  · refine j_c (nx := 164) hJ dX6_transform_163 rfl gk_iconst_1 ?_
                    refine j_go (tgt := 168) hJ dX6_transform_164 (by decide) ?_
                    refine j_p (nx := 170) hJ dX6_transform_168 rfl rfl ?_
                    refine j_p (nx := 171) hJ dX6_transform_170 rfl rfl ?_
                    refine j_c (nx := 172) hJ dX6_transform_171 rfl gk_iconst_1 ?_
                    refine j_ic_ne (nx := 175) (tgt := 198) hJ dX6_transform_172 rfl (by decide) (fun _ => ?_) (fun c172 => absurd c172 (by decide))
                    refine j_p (nx := 199) hJ dX6_transform_198 rfl rfl ?_
                    refine j_c (nx := 200) hJ dX6_transform_199 rfl gk_iconst_3 ?_
                    refine j_ic_ne (nx := 203) (tgt := 208) hJ dX6_transform_200 rfl (by decide) (fun _ => ?_) (fun c200 => absurd c200 (by decide))
                    refine j_p (nx := 209) hJ dX6_transform_208 rfl rfl ?_
                    refine j_c (nx := 210) hJ dX6_transform_209 rfl gk_iconst_4 ?_
                    refine j_ic_ne (nx := 213) (tgt := 222) hJ dX6_transform_210 rfl (by decide) (fun c210 => absurd c210 (by decide)) (fun _ => ?_)
                    refine j_p (nx := 215) hJ dX6_transform_213 rfl rfl ?_
                    refine j_if_eq (nx := 218) (tgt := 222) hJ dX6_transform_215 rfl (by decide) (fun c215 => absurd c215 (by decide)) (fun _ => ?_)
                    refine j_c (nx := 220) hJ dX6_transform_218 rfl gk_bipush_10 ?_
                    refine j_p (nx := 222) hJ dX6_transform_220 rfl rfl ?_
                    refine j_p (nx := 223) hJ dX6_transform_222 rfl rfl ?_
                    refine j_get (nx := 226) hJ dX6_transform_223 rfl fX6_37 hP1.1.1 (by rfl) ?_
                    refine j_p (nx := 228) hJ dX6_transform_226 rfl rfl ?_
                    refine j_p (nx := 230) hJ dX6_transform_228 rfl rfl ?_
                    refine j_iast (j := i) (nx := 231) hJ dX6_transform_230 rfl (show h1 107 = some (gia 8 f) from hP1.a 107 (by unfold gia'; omega)) rfl (by omega) (by decide) ?_
                    refine j_inc (nx := 234) hJ dX6_transform_231 rfl rfl (gi1 i) rfl ?_
                    refine j_go (tgt := 120) hJ dX6_transform_234 (by decide) ?_
                    exact ih (by omega) _ _ _ _ ((hP1.arr (a := 107) (by unfold gia'; omega) (upd f i _)).uu) (gst_up2 hf (by omega) (by rw [gmap_get _ (by omega)]; first | exact gfor_l hsyy c160 | exact gfor_v c160))
              refine j_p (nx := 67) hJ dX6_transform_66 rfl rfl ?_
              refine j_p (nx := 68) hJ dX6_transform_67 rfl rfl ?_
              refine j_c (nx := 69) hJ dX6_transform_68 rfl gk_iconst_0 ?_
              refine j_put (nx := 72) hJ dX6_transform_69 rfl fX6_105 (zX6_9 _) hP.1.1 (Nat.le_of_ble_eq_true rfl) ?_
              change J 72 _ _ (gup h 99 (gO (gU M 9 (0)) pv tv)) _
              have hP1 := hP.fld (gU M 9 (0)) pv tv
              refine j_p (nx := 73) hJ dX6_transform_72 rfl rfl ?_
              refine j_csR (nx := 76) hJ dX6_transform_73 rfl (r6_isRegister (fl := false) (d := d + 57) _) mX6_139 rfl (gle8 rfl) ?_
              rw [show gbt _ 6 = true from hx]
              refine j_if_ne (nx := 79) (tgt := 82) hJ dX6_transform_76 rfl (by decide) (fun c76 => ?_) (fun c76 => absurd c76 (by decide))
              refine j_p (nx := 83) hJ dX6_transform_82 rfl rfl ?_
              refine j_if_ge (nx := 86) (tgt := 89) hJ dX6_transform_83 rfl (by decide) (fun _ => ?_) (fun c83 => absurd c83 (by decide))
              refine j_p (nx := 90) hJ dX6_transform_89 rfl rfl ?_
              refine j_get (nx := 93) hJ dX6_transform_90 rfl fX6_19 hP1.1.1 (by rfl) ?_
              refine j_p (nx := 94) hJ dX6_transform_93 rfl rfl ?_
              refine j_iald (j := r) (nx := 95) hJ dX6_transform_94 rfl (show (gup h 99 (gO (gU M 9 0) pv tv)) 101 = some (gia 6 (A 101)) from hP1.a 101 (by unfold gia'; omega)) rfl (by omega) (by decide) ?_
              rw [hl.1]
              refine j_p (nx := 96) hJ dX6_transform_95 rfl rfl ?_
              refine j_p (nx := 97) hJ dX6_transform_96 rfl rfl ?_
              refine j_p (nx := 98) hJ dX6_transform_97 rfl rfl ?_
              refine j_c (nx := 99) hJ dX6_transform_98 rfl gk_iconst_2 ?_
              refine j_ic_ne (nx := 102) (tgt := 113) hJ dX6_transform_99 rfl (by decide) (fun _ => ?_) (fun c99 => absurd c99 (by decide))
              refine j_p (nx := 114) hJ dX6_transform_113 rfl rfl ?_
              refine j_put (nx := 117) hJ dX6_transform_114 rfl fX6_112 (zX6_11 _) hP1.1.1 (Nat.le_of_ble_eq_true rfl) ?_
              change J 117 _ _ (gup (gup h 99 (gO (gU M 9 0) pv tv)) 99 (gO (gU (gU M 9 0) 11 (nI (R (5 + 2 * r)).length)) pv tv)) _
              have hP2 := hP1.fld (gU (gU M 9 0) 11 (nI (R (5 + 2 * r)).length)) pv tv
              refine j_c (nx := 118) hJ dX6_transform_117 rfl gk_iconst_0 ?_
              refine j_p (nx := 120) hJ dX6_transform_118 rfl rfl ?_
              exact loop 0 (Nat.zero_le _) _ (A 107) none none (hP2.rw (gU_self A 107) (fun _ => rfl) (fun _ => rfl)) (fun j v hv => by cases hv)
            · refine j_p (nx := 67) hJ dX6_transform_66 rfl rfl ?_
              refine j_p (nx := 68) hJ dX6_transform_67 rfl rfl ?_
              refine j_c (nx := 69) hJ dX6_transform_68 rfl gk_iconst_0 ?_
              refine j_put (nx := 72) hJ dX6_transform_69 rfl fX6_105 (zX6_9 _) hP.1.1 (Nat.le_of_ble_eq_true rfl) ?_
              change J 72 _ _ (gup h 99 (gO (gU M 9 (0)) pv tv)) _
              have hP1 := hP.fld (gU M 9 (0)) pv tv
              refine j_p (nx := 73) hJ dX6_transform_72 rfl rfl ?_
              refine j_csR (nx := 76) hJ dX6_transform_73 rfl (r6_isRegister (fl := false) (d := d + 57) _) mX6_139 rfl (gle8 rfl) ?_
              rw [show gbt _ 6 = false from Bool.eq_false_iff.mpr hx]
              refine j_if_ne (nx := 79) (tgt := 82) hJ dX6_transform_76 rfl (by decide) (fun c76 => absurd c76 (by decide)) (fun c76 => ?_)
              refine j_c (nx := 81) hJ dX6_transform_79 rfl gk_bipush_m2 ?_
              have e : s_transform R N x = (-2, gU R 73 [], N) := if_neg hx
              exact j_iret hJ dX6_transform_81 ⟨by rw [e], by rw [e]; exact ⟨_, _, _, _, _, hP1, hG.inp (l := []) (by show 0 ≤ 20; omega) rfl (fun i v hv => by cases hv) ⟨rfl, rfl, rfl, rfl, rfl⟩ (fun a _ _ => rfl)⟩⟩
        · refine j_c (nx := 49) hJ dX6_transform_48 rfl gk_iconst_3 ?_
          refine j_go (tgt := 66) hJ dX6_transform_49 (by decide) ?_
          rw [gb_f] at c6
          rw [gb_f] at c19
          rw [gb_f] at c32
          replace c6 := of_decide_eq_false c6
          replace c19 := of_decide_eq_false c19
          replace c32 := of_decide_eq_false c32
          rw [gb_t] at c45
          replace c45 := of_decide_eq_true c45
          by_cases hx : gbt x 6 = true
          · obtain ⟨r, rfl, hr⟩ := gbt_spec hx
            have egr := gr_nI (r := r) (by omega)
            have hl := hG.2.1 r hr
            have hl8 := hl.2.1
            have hpr := hpt r hr
            have hpr : gPt k (R (5 + 2 * r)) := hpr
            have hLL : ((R (5 + 2 * r)).map (fun y => if 10 ≤ y ∧ y ≤ 13 then 10 else y)).length = (R (5 + 2 * r)).length := by rw [List.length_map]
            have hml : (gU (gU M 9 0) 11 (nI (R (5 + 2 * r)).length)) 11 = nI ((R (5 + 2 * r)).map (fun y => if 10 ≤ y ∧ y ≤ 13 then 10 else y)).length := by rw [hLL]; rfl
            have hsyl : ∀ c ∈ ((R (5 + 2 * r)).map (fun y => if 10 ≤ y ∧ y ≤ 13 then 10 else y)), gsy c := gmapsy (hpr.sy hk3.2) (fun y hy => by split; exact gsy_nI (x := 10) (by omega); exact hy)
            have hne := hpr.1
            have e : s_transform R N (nI r) = (nI (gcan ((R (5 + 2 * r)).map (fun y => if 10 ≤ y ∧ y ≤ 13 then 10 else y))).length, gU (gU R (5 + 2 * r) (gcan ((R (5 + 2 * r)).map (fun y => if 10 ≤ y ∧ y ≤ 13 then 10 else y)))) 73 [], N) := by
              have e1 : gtf (N 1) (R 73) (R (5 + 2 * r)) = some ((R (5 + 2 * r)).map (fun y => if 10 ≤ y ∧ y ≤ 13 then 10 else y)) := by unfold gtf; rw [if_neg c6, if_neg c19, if_neg c32, if_pos c45]
              unfold s_transform
              rw [if_pos hx, egr, e1]
            have loop : ∀ i, i ≤ ((R (5 + 2 * r)).map (fun y => if 10 ≤ y ∧ y ≤ 13 then 10 else y)).length → ∀ (h1 : GH) (f : Nat → Int32) (w5 w6 : Option Value), gP h0 h1 (gU A 107 f) E (gU (gU M 9 0) 11 (nI (R (5 + 2 * r)).length)) pv tv → gSt f 0 (((R (5 + 2 * r)).map (fun y => if 10 ≤ y ∧ y ≤ 13 then 10 else y)).take i) → J 120 [some (.ref 99), some (.int (nI r)), some (.int 3), some (.int (nI (R (5 + 2 * r)).length)), some (.int (nI i)), w5, w6] [] h1 (n, 0, 0, false) := by
              refine gloop _ _ (fun i hi ih h1 f w5 w6 hP1 hf => ?_)
              refine j_p (nx := 122) hJ dX6_transform_120 rfl rfl ?_
              refine j_p (nx := 123) hJ dX6_transform_122 rfl rfl ?_
              refine j_get (nx := 126) hJ dX6_transform_123 rfl fX6_112 hP1.1.1 (by rfl) ?_
              rw [show (gU (gU M 9 0) 11 (nI (R (5 + 2 * r)).length)) 11 = nI ((R (5 + 2 * r)).map (fun y => if 10 ≤ y ∧ y ≤ 13 then 10 else y)).length from hml]
              refine j_ic_ge (nx := 129) (tgt := 237) hJ dX6_transform_126 rfl (by decide) (fun c126 => ?_) (fun c126 => ?_)
              · rw [gnle (by omega) (by omega)] at c126
                have e0 : i = ((R (5 + 2 * r)).map (fun y => if 10 ≤ y ∧ y ≤ 13 then 10 else y)).length := by omega
                subst e0
                rw [List.take_length] at hf
                refine j_p (nx := 238) hJ dX6_transform_237 rfl rfl ?_
                refine j_p (nx := 239) hJ dX6_transform_238 rfl rfl ?_
                refine j_cv (nx := 242) hJ dX6_transform_239 rfl (r6_store (d := d + 57) hP1 hr (l := ((R (5 + 2 * r)).map (fun y => if 10 ≤ y ∧ y ≤ 13 then 10 else y))) hml (by omega) hf hsyl) mX6_143 hP1.1.1 kX6_store rfl (gle8 rfl) (fun o h3 hp => ?_)
                obtain ⟨rfl, A2, hP2, k1, k2, k3, k4⟩ := hp
                refine j_iret hJ dX6_transform_242 ⟨by rw [e, gcan_len], ?_⟩
                rw [e]
                have hG9 : gG (gU A 107 f) E (gU (gU M 9 0) 11 (nI (R (5 + 2 * r)).length)) (gU R 73 []) N := hG.inp (l := []) (by show 0 ≤ 20; omega) rfl (fun i v hv => by cases hv) ⟨rfl, rfl, rfl, rfl, rfl⟩ (fun a _ p => gU_n _ _ (by omega))
                have hG8 := hG9.pat hr k1 k2 k3 (fun a p1 p2 p3 => k4 a p1 p2 (by omega))
                exact ⟨_, _, _, _, _, hP2, hG8.rwR (fun a => by simp only [gU]; split; (next q => rw [if_neg (by omega)]); rfl)⟩
              · rw [gnle (by omega) (by omega)] at c126
                have hil : i < ((R (5 + 2 * r)).map (fun y => if 10 ≤ y ∧ y ≤ 13 then 10 else y)).length := by omega
                have hsyy : gsy ((R (5 + 2 * r)).getD i (-1)) := hpr.sy hk3.2 _ (ggetD_mem (by omega))
                refine j_p (nx := 130) hJ dX6_transform_129 rfl rfl ?_
                refine j_get (nx := 133) hJ dX6_transform_130 rfl fX6_15 hP1.1.1 (by rfl) ?_
                refine j_c (nx := 135) hJ dX6_transform_133 rfl gk_bipush_8 ?_
                refine j_p (nx := 136) hJ dX6_transform_135 rfl rfl ?_
                refine j_p (nx := 137) hJ dX6_transform_136 rfl rfl ?_
                rw [show (8 : Int32) = nI 8 from rfl, gmul]
                refine j_p (nx := 138) hJ dX6_transform_137 rfl rfl ?_
                refine j_if_ne (nx := 141) (tgt := 150) hJ dX6_transform_138 rfl (by decide) (fun _ => ?_) (fun c138 => absurd c138 (by decide))
                refine j_p (nx := 152) hJ dX6_transform_150 rfl rfl ?_
                refine j_p (nx := 153) hJ dX6_transform_152 rfl rfl ?_
                rw [gadd]
                refine j_iald (j := 8 * r + i) (nx := 154) hJ dX6_transform_153 rfl (show h1 100 = some (gia 48 ((gU A 107 f) 100)) from hP1.a 100 (by unfold gia'; omega)) rfl (by omega) (by decide) ?_
                rw [show (gU A 107 f) 100 (8 * r + i) = ((R (5 + 2 * r)).getD i (-1)) from hl.2.2.get (by omega)]
                refine j_p (nx := 156) hJ dX6_transform_154 rfl rfl ?_
                refine j_p (nx := 158) hJ dX6_transform_156 rfl rfl ?_
                refine j_c (nx := 160) hJ dX6_transform_158 rfl gk_bipush_10 ?_
                refine j_ic_ge (nx := 163) (tgt := 167) hJ dX6_transform_160 rfl (by decide) (fun c160 => ?_) (fun c160 => ?_)
                · refine j_c (nx := 168) hJ dX6_transform_167 rfl gk_iconst_0 ?_
                  refine j_p (nx := 170) hJ dX6_transform_168 rfl rfl ?_
                  refine j_p (nx := 171) hJ dX6_transform_170 rfl rfl ?_
                  refine j_c (nx := 172) hJ dX6_transform_171 rfl gk_iconst_1 ?_
                  refine j_ic_ne (nx := 175) (tgt := 198) hJ dX6_transform_172 rfl (by decide) (fun _ => ?_) (fun c172 => absurd c172 (by decide))
                  refine j_p (nx := 199) hJ dX6_transform_198 rfl rfl ?_
                  refine j_c (nx := 200) hJ dX6_transform_199 rfl gk_iconst_3 ?_
                  refine j_ic_ne (nx := 203) (tgt := 208) hJ dX6_transform_200 rfl (by decide) (fun c200 => absurd c200 (by decide)) (fun _ => ?_)
                  refine j_p (nx := 205) hJ dX6_transform_203 rfl rfl ?_
                  refine j_if_eq (nx := 208) (tgt := 218) hJ dX6_transform_205 rfl (by decide) (fun _ => ?_) (fun c205 => absurd c205 (by decide))
                  refine j_c (nx := 220) hJ dX6_transform_218 rfl gk_bipush_10 ?_
                  refine j_p (nx := 222) hJ dX6_transform_220 rfl rfl ?_
                  refine j_p (nx := 223) hJ dX6_transform_222 rfl rfl ?_
                  refine j_get (nx := 226) hJ dX6_transform_223 rfl fX6_37 hP1.1.1 (by rfl) ?_
                  refine j_p (nx := 228) hJ dX6_transform_226 rfl rfl ?_
                  refine j_p (nx := 230) hJ dX6_transform_228 rfl rfl ?_
                  refine j_iast (j := i) (nx := 231) hJ dX6_transform_230 rfl (show h1 107 = some (gia 8 f) from hP1.a 107 (by unfold gia'; omega)) rfl (by omega) (by decide) ?_
                  refine j_inc (nx := 234) hJ dX6_transform_231 rfl rfl (gi1 i) rfl ?_
                  refine j_go (tgt := 120) hJ dX6_transform_234 (by decide) ?_
                  exact ih (by omega) _ _ _ _ ((hP1.arr (a := 107) (by unfold gia'; omega) (upd f i _)).uu) (gst_up2 hf (by omega) (by rw [gmap_get _ (by omega)]; first | exact gcol_v hsyy c160 | exact gcol_l c160))
                · refine j_c (nx := 164) hJ dX6_transform_163 rfl gk_iconst_1 ?_
                  refine j_go (tgt := 168) hJ dX6_transform_164 (by decide) ?_
                  refine j_p (nx := 170) hJ dX6_transform_168 rfl rfl ?_
                  refine j_p (nx := 171) hJ dX6_transform_170 rfl rfl ?_
                  refine j_c (nx := 172) hJ dX6_transform_171 rfl gk_iconst_1 ?_
                  refine j_ic_ne (nx := 175) (tgt := 198) hJ dX6_transform_172 rfl (by decide) (fun _ => ?_) (fun c172 => absurd c172 (by decide))
                  refine j_p (nx := 199) hJ dX6_transform_198 rfl rfl ?_
                  refine j_c (nx := 200) hJ dX6_transform_199 rfl gk_iconst_3 ?_
                  refine j_ic_ne (nx := 203) (tgt := 208) hJ dX6_transform_200 rfl (by decide) (fun c200 => absurd c200 (by decide)) (fun _ => ?_)
                  refine j_p (nx := 205) hJ dX6_transform_203 rfl rfl ?_
                  refine j_if_eq (nx := 208) (tgt := 218) hJ dX6_transform_205 rfl (by decide) (fun c205 => absurd c205 (by decide)) (fun _ => ?_)
                  refine j_p (nx := 209) hJ dX6_transform_208 rfl rfl ?_
                  refine j_c (nx := 210) hJ dX6_transform_209 rfl gk_iconst_4 ?_
                  refine j_ic_ne (nx := 213) (tgt := 222) hJ dX6_transform_210 rfl (by decide) (fun _ => ?_) (fun c210 => absurd c210 (by decide))
                  refine j_p (nx := 223) hJ dX6_transform_222 rfl rfl ?_
                  refine j_get (nx := 226) hJ dX6_transform_223 rfl fX6_37 hP1.1.1 (by rfl) ?_
                  refine j_p (nx := 228) hJ dX6_transform_226 rfl rfl ?_
                  refine j_p (nx := 230) hJ dX6_transform_228 rfl rfl ?_
                  refine j_iast (j := i) (nx := 231) hJ dX6_transform_230 rfl (show h1 107 = some (gia 8 f) from hP1.a 107 (by unfold gia'; omega)) rfl (by omega) (by decide) ?_
                  refine j_inc (nx := 234) hJ dX6_transform_231 rfl rfl (gi1 i) rfl ?_
                  refine j_go (tgt := 120) hJ dX6_transform_234 (by decide) ?_
                  exact ih (by omega) _ _ _ _ ((hP1.arr (a := 107) (by unfold gia'; omega) (upd f i _)).uu) (gst_up2 hf (by omega) (by rw [gmap_get _ (by omega)]; first | exact gcol_v hsyy c160 | exact gcol_l c160))
            refine j_p (nx := 67) hJ dX6_transform_66 rfl rfl ?_
            refine j_p (nx := 68) hJ dX6_transform_67 rfl rfl ?_
            refine j_c (nx := 69) hJ dX6_transform_68 rfl gk_iconst_0 ?_
            refine j_put (nx := 72) hJ dX6_transform_69 rfl fX6_105 (zX6_9 _) hP.1.1 (Nat.le_of_ble_eq_true rfl) ?_
            change J 72 _ _ (gup h 99 (gO (gU M 9 (0)) pv tv)) _
            have hP1 := hP.fld (gU M 9 (0)) pv tv
            refine j_p (nx := 73) hJ dX6_transform_72 rfl rfl ?_
            refine j_csR (nx := 76) hJ dX6_transform_73 rfl (r6_isRegister (fl := false) (d := d + 57) _) mX6_139 rfl (gle8 rfl) ?_
            rw [show gbt _ 6 = true from hx]
            refine j_if_ne (nx := 79) (tgt := 82) hJ dX6_transform_76 rfl (by decide) (fun c76 => ?_) (fun c76 => absurd c76 (by decide))
            refine j_p (nx := 83) hJ dX6_transform_82 rfl rfl ?_
            refine j_if_ge (nx := 86) (tgt := 89) hJ dX6_transform_83 rfl (by decide) (fun _ => ?_) (fun c83 => absurd c83 (by decide))
            refine j_p (nx := 90) hJ dX6_transform_89 rfl rfl ?_
            refine j_get (nx := 93) hJ dX6_transform_90 rfl fX6_19 hP1.1.1 (by rfl) ?_
            refine j_p (nx := 94) hJ dX6_transform_93 rfl rfl ?_
            refine j_iald (j := r) (nx := 95) hJ dX6_transform_94 rfl (show (gup h 99 (gO (gU M 9 0) pv tv)) 101 = some (gia 6 (A 101)) from hP1.a 101 (by unfold gia'; omega)) rfl (by omega) (by decide) ?_
            rw [hl.1]
            refine j_p (nx := 96) hJ dX6_transform_95 rfl rfl ?_
            refine j_p (nx := 97) hJ dX6_transform_96 rfl rfl ?_
            refine j_p (nx := 98) hJ dX6_transform_97 rfl rfl ?_
            refine j_c (nx := 99) hJ dX6_transform_98 rfl gk_iconst_2 ?_
            refine j_ic_ne (nx := 102) (tgt := 113) hJ dX6_transform_99 rfl (by decide) (fun _ => ?_) (fun c99 => absurd c99 (by decide))
            refine j_p (nx := 114) hJ dX6_transform_113 rfl rfl ?_
            refine j_put (nx := 117) hJ dX6_transform_114 rfl fX6_112 (zX6_11 _) hP1.1.1 (Nat.le_of_ble_eq_true rfl) ?_
            change J 117 _ _ (gup (gup h 99 (gO (gU M 9 0) pv tv)) 99 (gO (gU (gU M 9 0) 11 (nI (R (5 + 2 * r)).length)) pv tv)) _
            have hP2 := hP1.fld (gU (gU M 9 0) 11 (nI (R (5 + 2 * r)).length)) pv tv
            refine j_c (nx := 118) hJ dX6_transform_117 rfl gk_iconst_0 ?_
            refine j_p (nx := 120) hJ dX6_transform_118 rfl rfl ?_
            exact loop 0 (Nat.zero_le _) _ (A 107) none none (hP2.rw (gU_self A 107) (fun _ => rfl) (fun _ => rfl)) (fun j v hv => by cases hv)
          · refine j_p (nx := 67) hJ dX6_transform_66 rfl rfl ?_
            refine j_p (nx := 68) hJ dX6_transform_67 rfl rfl ?_
            refine j_c (nx := 69) hJ dX6_transform_68 rfl gk_iconst_0 ?_
            refine j_put (nx := 72) hJ dX6_transform_69 rfl fX6_105 (zX6_9 _) hP.1.1 (Nat.le_of_ble_eq_true rfl) ?_
            change J 72 _ _ (gup h 99 (gO (gU M 9 (0)) pv tv)) _
            have hP1 := hP.fld (gU M 9 (0)) pv tv
            refine j_p (nx := 73) hJ dX6_transform_72 rfl rfl ?_
            refine j_csR (nx := 76) hJ dX6_transform_73 rfl (r6_isRegister (fl := false) (d := d + 57) _) mX6_139 rfl (gle8 rfl) ?_
            rw [show gbt _ 6 = false from Bool.eq_false_iff.mpr hx]
            refine j_if_ne (nx := 79) (tgt := 82) hJ dX6_transform_76 rfl (by decide) (fun c76 => absurd c76 (by decide)) (fun c76 => ?_)
            refine j_c (nx := 81) hJ dX6_transform_79 rfl gk_bipush_m2 ?_
            have e : s_transform R N x = (-2, gU R 73 [], N) := if_neg hx
            exact j_iret hJ dX6_transform_81 ⟨by rw [e], by rw [e]; exact ⟨_, _, _, _, _, hP1, hG.inp (l := []) (by show 0 ≤ 20; omega) rfl (fun i v hv => by cases hv) ⟨rfl, rfl, rfl, rfl, rfl⟩ (fun a _ _ => rfl)⟩⟩
      · refine j_c (nx := 36) hJ dX6_transform_35 rfl gk_iconst_2 ?_
        refine j_go (tgt := 66) hJ dX6_transform_36 (by decide) ?_
        rw [gb_f] at c6
        rw [gb_f] at c19
        replace c6 := of_decide_eq_false c6
        replace c19 := of_decide_eq_false c19
        rw [gb_t] at c32
        replace c32 := of_decide_eq_true c32
        by_cases hx : gbt x 6 = true
        · obtain ⟨r, rfl, hr⟩ := gbt_spec hx
          have egr := gr_nI (r := r) (by omega)
          have hl := hG.2.1 r hr
          have hl8 := hl.2.1
          have hpr := hpt r hr
          by_cases hex : 1 < (R (5 + 2 * r)).length
          · have hpr : gPt k (R (5 + 2 * r)) := hpr
            have hLL : ((R (5 + 2 * r)).dropLast).length = (R (5 + 2 * r)).length - 1 := by rw [List.length_dropLast]
            have hml : (gU (gU M 9 0) 11 (nI ((R (5 + 2 * r)).length - 1))) 11 = nI ((R (5 + 2 * r)).dropLast).length := by rw [hLL]; rfl
            have hsyl : ∀ c ∈ ((R (5 + 2 * r)).dropLast), gsy c := fun c hc => hpr.sy hk3.2 c (List.dropLast_subset _ hc)
            have hne := hpr.1
            have e : s_transform R N (nI r) = (nI (gcan ((R (5 + 2 * r)).dropLast)).length, gU (gU R (5 + 2 * r) (gcan ((R (5 + 2 * r)).dropLast))) 73 [], N) := by
              have e1 : gtf (N 1) (R 73) (R (5 + 2 * r)) = some ((R (5 + 2 * r)).dropLast) := by unfold gtf; rw [if_neg c6, if_neg c19, if_pos c32, if_pos hex]
              unfold s_transform
              rw [if_pos hx, egr, e1]
            have loop : ∀ i, i ≤ ((R (5 + 2 * r)).dropLast).length → ∀ (h1 : GH) (f : Nat → Int32) (w5 w6 : Option Value), gP h0 h1 (gU A 107 f) E (gU (gU M 9 0) 11 (nI ((R (5 + 2 * r)).length - 1))) pv tv → gSt f 0 (((R (5 + 2 * r)).dropLast).take i) → J 120 [some (.ref 99), some (.int (nI r)), some (.int 2), some (.int (nI (R (5 + 2 * r)).length)), some (.int (nI i)), w5, w6] [] h1 (n, 0, 0, false) := by
              refine gloop _ _ (fun i hi ih h1 f w5 w6 hP1 hf => ?_)
              refine j_p (nx := 122) hJ dX6_transform_120 rfl rfl ?_
              refine j_p (nx := 123) hJ dX6_transform_122 rfl rfl ?_
              refine j_get (nx := 126) hJ dX6_transform_123 rfl fX6_112 hP1.1.1 (by rfl) ?_
              rw [show (gU (gU M 9 0) 11 (nI ((R (5 + 2 * r)).length - 1))) 11 = nI ((R (5 + 2 * r)).dropLast).length from hml]
              refine j_ic_ge (nx := 129) (tgt := 237) hJ dX6_transform_126 rfl (by decide) (fun c126 => ?_) (fun c126 => ?_)
              · rw [gnle (by omega) (by omega)] at c126
                have e0 : i = ((R (5 + 2 * r)).dropLast).length := by omega
                subst e0
                rw [List.take_length] at hf
                refine j_p (nx := 238) hJ dX6_transform_237 rfl rfl ?_
                refine j_p (nx := 239) hJ dX6_transform_238 rfl rfl ?_
                refine j_cv (nx := 242) hJ dX6_transform_239 rfl (r6_store (d := d + 57) hP1 hr (l := ((R (5 + 2 * r)).dropLast)) hml (by omega) hf hsyl) mX6_143 hP1.1.1 kX6_store rfl (gle8 rfl) (fun o h3 hp => ?_)
                obtain ⟨rfl, A2, hP2, k1, k2, k3, k4⟩ := hp
                refine j_iret hJ dX6_transform_242 ⟨by rw [e, gcan_len], ?_⟩
                rw [e]
                have hG9 : gG (gU A 107 f) E (gU (gU M 9 0) 11 (nI ((R (5 + 2 * r)).length - 1))) (gU R 73 []) N := hG.inp (l := []) (by show 0 ≤ 20; omega) rfl (fun i v hv => by cases hv) ⟨rfl, rfl, rfl, rfl, rfl⟩ (fun a _ p => gU_n _ _ (by omega))
                have hG8 := hG9.pat hr k1 k2 k3 (fun a p1 p2 p3 => k4 a p1 p2 (by omega))
                exact ⟨_, _, _, _, _, hP2, hG8.rwR (fun a => by simp only [gU]; split; (next q => rw [if_neg (by omega)]); rfl)⟩
              · rw [gnle (by omega) (by omega)] at c126
                have hil : i < ((R (5 + 2 * r)).dropLast).length := by omega
                have hsyy : gsy ((R (5 + 2 * r)).getD i (-1)) := hpr.sy hk3.2 _ (ggetD_mem (by omega))
                refine j_p (nx := 130) hJ dX6_transform_129 rfl rfl ?_
                refine j_get (nx := 133) hJ dX6_transform_130 rfl fX6_15 hP1.1.1 (by rfl) ?_
                refine j_c (nx := 135) hJ dX6_transform_133 rfl gk_bipush_8 ?_
                refine j_p (nx := 136) hJ dX6_transform_135 rfl rfl ?_
                refine j_p (nx := 137) hJ dX6_transform_136 rfl rfl ?_
                rw [show (8 : Int32) = nI 8 from rfl, gmul]
                refine j_p (nx := 138) hJ dX6_transform_137 rfl rfl ?_
                refine j_if_ne (nx := 141) (tgt := 150) hJ dX6_transform_138 rfl (by decide) (fun _ => ?_) (fun c138 => absurd c138 (by decide))
                refine j_p (nx := 152) hJ dX6_transform_150 rfl rfl ?_
                refine j_p (nx := 153) hJ dX6_transform_152 rfl rfl ?_
                rw [gadd]
                refine j_iald (j := 8 * r + i) (nx := 154) hJ dX6_transform_153 rfl (show h1 100 = some (gia 48 ((gU A 107 f) 100)) from hP1.a 100 (by unfold gia'; omega)) rfl (by omega) (by decide) ?_
                rw [show (gU A 107 f) 100 (8 * r + i) = ((R (5 + 2 * r)).getD i (-1)) from hl.2.2.get (by omega)]
                refine j_p (nx := 156) hJ dX6_transform_154 rfl rfl ?_
                refine j_p (nx := 158) hJ dX6_transform_156 rfl rfl ?_
                refine j_c (nx := 160) hJ dX6_transform_158 rfl gk_bipush_10 ?_
                refine j_ic_ge (nx := 163) (tgt := 167) hJ dX6_transform_160 rfl (by decide) (fun c160 => ?_) (fun c160 => ?_)
                · refine j_c (nx := 168) hJ dX6_transform_167 rfl gk_iconst_0 ?_
                  refine j_p (nx := 170) hJ dX6_transform_168 rfl rfl ?_
                  refine j_p (nx := 171) hJ dX6_transform_170 rfl rfl ?_
                  refine j_c (nx := 172) hJ dX6_transform_171 rfl gk_iconst_1 ?_
                  refine j_ic_ne (nx := 175) (tgt := 198) hJ dX6_transform_172 rfl (by decide) (fun _ => ?_) (fun c172 => absurd c172 (by decide))
                  refine j_p (nx := 199) hJ dX6_transform_198 rfl rfl ?_
                  refine j_c (nx := 200) hJ dX6_transform_199 rfl gk_iconst_3 ?_
                  refine j_ic_ne (nx := 203) (tgt := 208) hJ dX6_transform_200 rfl (by decide) (fun _ => ?_) (fun c200 => absurd c200 (by decide))
                  refine j_p (nx := 209) hJ dX6_transform_208 rfl rfl ?_
                  refine j_c (nx := 210) hJ dX6_transform_209 rfl gk_iconst_4 ?_
                  refine j_ic_ne (nx := 213) (tgt := 222) hJ dX6_transform_210 rfl (by decide) (fun _ => ?_) (fun c210 => absurd c210 (by decide))
                  refine j_p (nx := 223) hJ dX6_transform_222 rfl rfl ?_
                  refine j_get (nx := 226) hJ dX6_transform_223 rfl fX6_37 hP1.1.1 (by rfl) ?_
                  refine j_p (nx := 228) hJ dX6_transform_226 rfl rfl ?_
                  refine j_p (nx := 230) hJ dX6_transform_228 rfl rfl ?_
                  refine j_iast (j := i) (nx := 231) hJ dX6_transform_230 rfl (show h1 107 = some (gia 8 f) from hP1.a 107 (by unfold gia'; omega)) rfl (by omega) (by decide) ?_
                  refine j_inc (nx := 234) hJ dX6_transform_231 rfl rfl (gi1 i) rfl ?_
                  refine j_go (tgt := 120) hJ dX6_transform_234 (by decide) ?_
                  exact ih (by omega) _ _ _ _ ((hP1.arr (a := 107) (by unfold gia'; omega) (upd f i _)).uu) (gst_up2 hf (by omega) ((gdl_get (by omega)).symm))
                · refine j_c (nx := 164) hJ dX6_transform_163 rfl gk_iconst_1 ?_
                  refine j_go (tgt := 168) hJ dX6_transform_164 (by decide) ?_
                  refine j_p (nx := 170) hJ dX6_transform_168 rfl rfl ?_
                  refine j_p (nx := 171) hJ dX6_transform_170 rfl rfl ?_
                  refine j_c (nx := 172) hJ dX6_transform_171 rfl gk_iconst_1 ?_
                  refine j_ic_ne (nx := 175) (tgt := 198) hJ dX6_transform_172 rfl (by decide) (fun _ => ?_) (fun c172 => absurd c172 (by decide))
                  refine j_p (nx := 199) hJ dX6_transform_198 rfl rfl ?_
                  refine j_c (nx := 200) hJ dX6_transform_199 rfl gk_iconst_3 ?_
                  refine j_ic_ne (nx := 203) (tgt := 208) hJ dX6_transform_200 rfl (by decide) (fun _ => ?_) (fun c200 => absurd c200 (by decide))
                  refine j_p (nx := 209) hJ dX6_transform_208 rfl rfl ?_
                  refine j_c (nx := 210) hJ dX6_transform_209 rfl gk_iconst_4 ?_
                  refine j_ic_ne (nx := 213) (tgt := 222) hJ dX6_transform_210 rfl (by decide) (fun _ => ?_) (fun c210 => absurd c210 (by decide))
                  refine j_p (nx := 223) hJ dX6_transform_222 rfl rfl ?_
                  refine j_get (nx := 226) hJ dX6_transform_223 rfl fX6_37 hP1.1.1 (by rfl) ?_
                  refine j_p (nx := 228) hJ dX6_transform_226 rfl rfl ?_
                  refine j_p (nx := 230) hJ dX6_transform_228 rfl rfl ?_
                  refine j_iast (j := i) (nx := 231) hJ dX6_transform_230 rfl (show h1 107 = some (gia 8 f) from hP1.a 107 (by unfold gia'; omega)) rfl (by omega) (by decide) ?_
                  refine j_inc (nx := 234) hJ dX6_transform_231 rfl rfl (gi1 i) rfl ?_
                  refine j_go (tgt := 120) hJ dX6_transform_234 (by decide) ?_
                  exact ih (by omega) _ _ _ _ ((hP1.arr (a := 107) (by unfold gia'; omega) (upd f i _)).uu) (gst_up2 hf (by omega) ((gdl_get (by omega)).symm))
            refine j_p (nx := 67) hJ dX6_transform_66 rfl rfl ?_
            refine j_p (nx := 68) hJ dX6_transform_67 rfl rfl ?_
            refine j_c (nx := 69) hJ dX6_transform_68 rfl gk_iconst_0 ?_
            refine j_put (nx := 72) hJ dX6_transform_69 rfl fX6_105 (zX6_9 _) hP.1.1 (Nat.le_of_ble_eq_true rfl) ?_
            change J 72 _ _ (gup h 99 (gO (gU M 9 (0)) pv tv)) _
            have hP1 := hP.fld (gU M 9 (0)) pv tv
            refine j_p (nx := 73) hJ dX6_transform_72 rfl rfl ?_
            refine j_csR (nx := 76) hJ dX6_transform_73 rfl (r6_isRegister (fl := false) (d := d + 57) _) mX6_139 rfl (gle8 rfl) ?_
            rw [show gbt _ 6 = true from hx]
            refine j_if_ne (nx := 79) (tgt := 82) hJ dX6_transform_76 rfl (by decide) (fun c76 => ?_) (fun c76 => absurd c76 (by decide))
            refine j_p (nx := 83) hJ dX6_transform_82 rfl rfl ?_
            refine j_if_ge (nx := 86) (tgt := 89) hJ dX6_transform_83 rfl (by decide) (fun _ => ?_) (fun c83 => absurd c83 (by decide))
            refine j_p (nx := 90) hJ dX6_transform_89 rfl rfl ?_
            refine j_get (nx := 93) hJ dX6_transform_90 rfl fX6_19 hP1.1.1 (by rfl) ?_
            refine j_p (nx := 94) hJ dX6_transform_93 rfl rfl ?_
            refine j_iald (j := r) (nx := 95) hJ dX6_transform_94 rfl (show (gup h 99 (gO (gU M 9 0) pv tv)) 101 = some (gia 6 (A 101)) from hP1.a 101 (by unfold gia'; omega)) rfl (by omega) (by decide) ?_
            rw [hl.1]
            refine j_p (nx := 96) hJ dX6_transform_95 rfl rfl ?_
            refine j_p (nx := 97) hJ dX6_transform_96 rfl rfl ?_
            refine j_p (nx := 98) hJ dX6_transform_97 rfl rfl ?_
            refine j_c (nx := 99) hJ dX6_transform_98 rfl gk_iconst_2 ?_
            refine j_ic_ne (nx := 102) (tgt := 113) hJ dX6_transform_99 rfl (by decide) (fun c99 => absurd c99 (by decide)) (fun _ => ?_)
            refine j_p (nx := 103) hJ dX6_transform_102 rfl rfl ?_
            refine j_c (nx := 104) hJ dX6_transform_103 rfl gk_iconst_1 ?_
            refine j_ic_le (nx := 107) (tgt := 113) hJ dX6_transform_104 rfl (by decide) (fun c104 => absurd c104 (by rw [show (1 : Int32) = nI 1 from rfl, gnle (by omega) (by omega)]; omega)) (fun c104 => ?_)
            refine j_p (nx := 108) hJ dX6_transform_107 rfl rfl ?_
            refine j_c (nx := 109) hJ dX6_transform_108 rfl gk_iconst_1 ?_
            refine j_p (nx := 110) hJ dX6_transform_109 rfl rfl ?_
            rw [show nI (R (5 + 2 * r)).length - 1 = nI ((R (5 + 2 * r)).length - 1) from gsub (b := 1) (by omega)]
            refine j_go (tgt := 114) hJ dX6_transform_110 (by decide) ?_
            refine j_put (nx := 117) hJ dX6_transform_114 rfl fX6_112 (zX6_11 _) hP1.1.1 (Nat.le_of_ble_eq_true rfl) ?_
            change J 117 _ _ (gup (gup h 99 (gO (gU M 9 0) pv tv)) 99 (gO (gU (gU M 9 0) 11 (nI ((R (5 + 2 * r)).length - 1))) pv tv)) _
            have hP2 := hP1.fld (gU (gU M 9 0) 11 (nI ((R (5 + 2 * r)).length - 1))) pv tv
            refine j_c (nx := 118) hJ dX6_transform_117 rfl gk_iconst_0 ?_
            refine j_p (nx := 120) hJ dX6_transform_118 rfl rfl ?_
            exact loop 0 (Nat.zero_le _) _ (A 107) none none (hP2.rw (gU_self A 107) (fun _ => rfl) (fun _ => rfl)) (fun j v hv => by cases hv)
          · have hpr : gPt k (R (5 + 2 * r)) := hpr
            have hLL : (R (5 + 2 * r)).length = (R (5 + 2 * r)).length := rfl
            have hml : (gU (gU M 9 0) 11 (nI (R (5 + 2 * r)).length)) 11 = nI (R (5 + 2 * r)).length := by rw [hLL]; rfl
            have hsyl : ∀ c ∈ (R (5 + 2 * r)), gsy c := hpr.sy hk3.2
            have hne := hpr.1
            have e : s_transform R N (nI r) = (nI (gcan (R (5 + 2 * r))).length, gU (gU R (5 + 2 * r) (gcan (R (5 + 2 * r)))) 73 [], N) := by
              have e1 : gtf (N 1) (R 73) (R (5 + 2 * r)) = some (R (5 + 2 * r)) := by unfold gtf; rw [if_neg c6, if_neg c19, if_pos c32, if_neg hex]
              unfold s_transform
              rw [if_pos hx, egr, e1]
            have loop : ∀ i, i ≤ (R (5 + 2 * r)).length → ∀ (h1 : GH) (f : Nat → Int32) (w5 w6 : Option Value), gP h0 h1 (gU A 107 f) E (gU (gU M 9 0) 11 (nI (R (5 + 2 * r)).length)) pv tv → gSt f 0 ((R (5 + 2 * r)).take i) → J 120 [some (.ref 99), some (.int (nI r)), some (.int 2), some (.int (nI (R (5 + 2 * r)).length)), some (.int (nI i)), w5, w6] [] h1 (n, 0, 0, false) := by
              refine gloop _ _ (fun i hi ih h1 f w5 w6 hP1 hf => ?_)
              refine j_p (nx := 122) hJ dX6_transform_120 rfl rfl ?_
              refine j_p (nx := 123) hJ dX6_transform_122 rfl rfl ?_
              refine j_get (nx := 126) hJ dX6_transform_123 rfl fX6_112 hP1.1.1 (by rfl) ?_
              rw [show (gU (gU M 9 0) 11 (nI (R (5 + 2 * r)).length)) 11 = nI (R (5 + 2 * r)).length from hml]
              refine j_ic_ge (nx := 129) (tgt := 237) hJ dX6_transform_126 rfl (by decide) (fun c126 => ?_) (fun c126 => ?_)
              · rw [gnle (by omega) (by omega)] at c126
                have e0 : i = (R (5 + 2 * r)).length := by omega
                subst e0
                rw [List.take_length] at hf
                refine j_p (nx := 238) hJ dX6_transform_237 rfl rfl ?_
                refine j_p (nx := 239) hJ dX6_transform_238 rfl rfl ?_
                refine j_cv (nx := 242) hJ dX6_transform_239 rfl (r6_store (d := d + 57) hP1 hr (l := (R (5 + 2 * r))) hml (by omega) hf hsyl) mX6_143 hP1.1.1 kX6_store rfl (gle8 rfl) (fun o h3 hp => ?_)
                obtain ⟨rfl, A2, hP2, k1, k2, k3, k4⟩ := hp
                refine j_iret hJ dX6_transform_242 ⟨by rw [e, gcan_len], ?_⟩
                rw [e]
                have hG9 : gG (gU A 107 f) E (gU (gU M 9 0) 11 (nI (R (5 + 2 * r)).length)) (gU R 73 []) N := hG.inp (l := []) (by show 0 ≤ 20; omega) rfl (fun i v hv => by cases hv) ⟨rfl, rfl, rfl, rfl, rfl⟩ (fun a _ p => gU_n _ _ (by omega))
                have hG8 := hG9.pat hr k1 k2 k3 (fun a p1 p2 p3 => k4 a p1 p2 (by omega))
                exact ⟨_, _, _, _, _, hP2, hG8.rwR (fun a => by simp only [gU]; split; (next q => rw [if_neg (by omega)]); rfl)⟩
              · rw [gnle (by omega) (by omega)] at c126
                have hil : i < (R (5 + 2 * r)).length := by omega
                have hsyy : gsy ((R (5 + 2 * r)).getD i (-1)) := hpr.sy hk3.2 _ (ggetD_mem (by omega))
                refine j_p (nx := 130) hJ dX6_transform_129 rfl rfl ?_
                refine j_get (nx := 133) hJ dX6_transform_130 rfl fX6_15 hP1.1.1 (by rfl) ?_
                refine j_c (nx := 135) hJ dX6_transform_133 rfl gk_bipush_8 ?_
                refine j_p (nx := 136) hJ dX6_transform_135 rfl rfl ?_
                refine j_p (nx := 137) hJ dX6_transform_136 rfl rfl ?_
                rw [show (8 : Int32) = nI 8 from rfl, gmul]
                refine j_p (nx := 138) hJ dX6_transform_137 rfl rfl ?_
                refine j_if_ne (nx := 141) (tgt := 150) hJ dX6_transform_138 rfl (by decide) (fun _ => ?_) (fun c138 => absurd c138 (by decide))
                refine j_p (nx := 152) hJ dX6_transform_150 rfl rfl ?_
                refine j_p (nx := 153) hJ dX6_transform_152 rfl rfl ?_
                rw [gadd]
                refine j_iald (j := 8 * r + i) (nx := 154) hJ dX6_transform_153 rfl (show h1 100 = some (gia 48 ((gU A 107 f) 100)) from hP1.a 100 (by unfold gia'; omega)) rfl (by omega) (by decide) ?_
                rw [show (gU A 107 f) 100 (8 * r + i) = ((R (5 + 2 * r)).getD i (-1)) from hl.2.2.get (by omega)]
                refine j_p (nx := 156) hJ dX6_transform_154 rfl rfl ?_
                refine j_p (nx := 158) hJ dX6_transform_156 rfl rfl ?_
                refine j_c (nx := 160) hJ dX6_transform_158 rfl gk_bipush_10 ?_
                refine j_ic_ge (nx := 163) (tgt := 167) hJ dX6_transform_160 rfl (by decide) (fun c160 => ?_) (fun c160 => ?_)
                · refine j_c (nx := 168) hJ dX6_transform_167 rfl gk_iconst_0 ?_
                  refine j_p (nx := 170) hJ dX6_transform_168 rfl rfl ?_
                  refine j_p (nx := 171) hJ dX6_transform_170 rfl rfl ?_
                  refine j_c (nx := 172) hJ dX6_transform_171 rfl gk_iconst_1 ?_
                  refine j_ic_ne (nx := 175) (tgt := 198) hJ dX6_transform_172 rfl (by decide) (fun _ => ?_) (fun c172 => absurd c172 (by decide))
                  refine j_p (nx := 199) hJ dX6_transform_198 rfl rfl ?_
                  refine j_c (nx := 200) hJ dX6_transform_199 rfl gk_iconst_3 ?_
                  refine j_ic_ne (nx := 203) (tgt := 208) hJ dX6_transform_200 rfl (by decide) (fun _ => ?_) (fun c200 => absurd c200 (by decide))
                  refine j_p (nx := 209) hJ dX6_transform_208 rfl rfl ?_
                  refine j_c (nx := 210) hJ dX6_transform_209 rfl gk_iconst_4 ?_
                  refine j_ic_ne (nx := 213) (tgt := 222) hJ dX6_transform_210 rfl (by decide) (fun _ => ?_) (fun c210 => absurd c210 (by decide))
                  refine j_p (nx := 223) hJ dX6_transform_222 rfl rfl ?_
                  refine j_get (nx := 226) hJ dX6_transform_223 rfl fX6_37 hP1.1.1 (by rfl) ?_
                  refine j_p (nx := 228) hJ dX6_transform_226 rfl rfl ?_
                  refine j_p (nx := 230) hJ dX6_transform_228 rfl rfl ?_
                  refine j_iast (j := i) (nx := 231) hJ dX6_transform_230 rfl (show h1 107 = some (gia 8 f) from hP1.a 107 (by unfold gia'; omega)) rfl (by omega) (by decide) ?_
                  refine j_inc (nx := 234) hJ dX6_transform_231 rfl rfl (gi1 i) rfl ?_
                  refine j_go (tgt := 120) hJ dX6_transform_234 (by decide) ?_
                  exact ih (by omega) _ _ _ _ ((hP1.arr (a := 107) (by unfold gia'; omega) (upd f i _)).uu) (gst_up2 hf (by omega) (rfl))
                · refine j_c (nx := 164) hJ dX6_transform_163 rfl gk_iconst_1 ?_
                  refine j_go (tgt := 168) hJ dX6_transform_164 (by decide) ?_
                  refine j_p (nx := 170) hJ dX6_transform_168 rfl rfl ?_
                  refine j_p (nx := 171) hJ dX6_transform_170 rfl rfl ?_
                  refine j_c (nx := 172) hJ dX6_transform_171 rfl gk_iconst_1 ?_
                  refine j_ic_ne (nx := 175) (tgt := 198) hJ dX6_transform_172 rfl (by decide) (fun _ => ?_) (fun c172 => absurd c172 (by decide))
                  refine j_p (nx := 199) hJ dX6_transform_198 rfl rfl ?_
                  refine j_c (nx := 200) hJ dX6_transform_199 rfl gk_iconst_3 ?_
                  refine j_ic_ne (nx := 203) (tgt := 208) hJ dX6_transform_200 rfl (by decide) (fun _ => ?_) (fun c200 => absurd c200 (by decide))
                  refine j_p (nx := 209) hJ dX6_transform_208 rfl rfl ?_
                  refine j_c (nx := 210) hJ dX6_transform_209 rfl gk_iconst_4 ?_
                  refine j_ic_ne (nx := 213) (tgt := 222) hJ dX6_transform_210 rfl (by decide) (fun _ => ?_) (fun c210 => absurd c210 (by decide))
                  refine j_p (nx := 223) hJ dX6_transform_222 rfl rfl ?_
                  refine j_get (nx := 226) hJ dX6_transform_223 rfl fX6_37 hP1.1.1 (by rfl) ?_
                  refine j_p (nx := 228) hJ dX6_transform_226 rfl rfl ?_
                  refine j_p (nx := 230) hJ dX6_transform_228 rfl rfl ?_
                  refine j_iast (j := i) (nx := 231) hJ dX6_transform_230 rfl (show h1 107 = some (gia 8 f) from hP1.a 107 (by unfold gia'; omega)) rfl (by omega) (by decide) ?_
                  refine j_inc (nx := 234) hJ dX6_transform_231 rfl rfl (gi1 i) rfl ?_
                  refine j_go (tgt := 120) hJ dX6_transform_234 (by decide) ?_
                  exact ih (by omega) _ _ _ _ ((hP1.arr (a := 107) (by unfold gia'; omega) (upd f i _)).uu) (gst_up2 hf (by omega) (rfl))
            refine j_p (nx := 67) hJ dX6_transform_66 rfl rfl ?_
            refine j_p (nx := 68) hJ dX6_transform_67 rfl rfl ?_
            refine j_c (nx := 69) hJ dX6_transform_68 rfl gk_iconst_0 ?_
            refine j_put (nx := 72) hJ dX6_transform_69 rfl fX6_105 (zX6_9 _) hP.1.1 (Nat.le_of_ble_eq_true rfl) ?_
            change J 72 _ _ (gup h 99 (gO (gU M 9 (0)) pv tv)) _
            have hP1 := hP.fld (gU M 9 (0)) pv tv
            refine j_p (nx := 73) hJ dX6_transform_72 rfl rfl ?_
            refine j_csR (nx := 76) hJ dX6_transform_73 rfl (r6_isRegister (fl := false) (d := d + 57) _) mX6_139 rfl (gle8 rfl) ?_
            rw [show gbt _ 6 = true from hx]
            refine j_if_ne (nx := 79) (tgt := 82) hJ dX6_transform_76 rfl (by decide) (fun c76 => ?_) (fun c76 => absurd c76 (by decide))
            refine j_p (nx := 83) hJ dX6_transform_82 rfl rfl ?_
            refine j_if_ge (nx := 86) (tgt := 89) hJ dX6_transform_83 rfl (by decide) (fun _ => ?_) (fun c83 => absurd c83 (by decide))
            refine j_p (nx := 90) hJ dX6_transform_89 rfl rfl ?_
            refine j_get (nx := 93) hJ dX6_transform_90 rfl fX6_19 hP1.1.1 (by rfl) ?_
            refine j_p (nx := 94) hJ dX6_transform_93 rfl rfl ?_
            refine j_iald (j := r) (nx := 95) hJ dX6_transform_94 rfl (show (gup h 99 (gO (gU M 9 0) pv tv)) 101 = some (gia 6 (A 101)) from hP1.a 101 (by unfold gia'; omega)) rfl (by omega) (by decide) ?_
            rw [hl.1]
            refine j_p (nx := 96) hJ dX6_transform_95 rfl rfl ?_
            refine j_p (nx := 97) hJ dX6_transform_96 rfl rfl ?_
            refine j_p (nx := 98) hJ dX6_transform_97 rfl rfl ?_
            refine j_c (nx := 99) hJ dX6_transform_98 rfl gk_iconst_2 ?_
            refine j_ic_ne (nx := 102) (tgt := 113) hJ dX6_transform_99 rfl (by decide) (fun c99 => absurd c99 (by decide)) (fun _ => ?_)
            refine j_p (nx := 103) hJ dX6_transform_102 rfl rfl ?_
            refine j_c (nx := 104) hJ dX6_transform_103 rfl gk_iconst_1 ?_
            refine j_ic_le (nx := 107) (tgt := 113) hJ dX6_transform_104 rfl (by decide) (fun c104 => ?_) (fun c104 => absurd c104 (fun q => q (by rw [show (1 : Int32) = nI 1 from rfl, gnle (by omega) (by omega)]; omega)))
            refine j_p (nx := 114) hJ dX6_transform_113 rfl rfl ?_
            refine j_put (nx := 117) hJ dX6_transform_114 rfl fX6_112 (zX6_11 _) hP1.1.1 (Nat.le_of_ble_eq_true rfl) ?_
            change J 117 _ _ (gup (gup h 99 (gO (gU M 9 0) pv tv)) 99 (gO (gU (gU M 9 0) 11 (nI (R (5 + 2 * r)).length)) pv tv)) _
            have hP2 := hP1.fld (gU (gU M 9 0) 11 (nI (R (5 + 2 * r)).length)) pv tv
            refine j_c (nx := 118) hJ dX6_transform_117 rfl gk_iconst_0 ?_
            refine j_p (nx := 120) hJ dX6_transform_118 rfl rfl ?_
            exact loop 0 (Nat.zero_le _) _ (A 107) none none (hP2.rw (gU_self A 107) (fun _ => rfl) (fun _ => rfl)) (fun j v hv => by cases hv)
        · refine j_p (nx := 67) hJ dX6_transform_66 rfl rfl ?_
          refine j_p (nx := 68) hJ dX6_transform_67 rfl rfl ?_
          refine j_c (nx := 69) hJ dX6_transform_68 rfl gk_iconst_0 ?_
          refine j_put (nx := 72) hJ dX6_transform_69 rfl fX6_105 (zX6_9 _) hP.1.1 (Nat.le_of_ble_eq_true rfl) ?_
          change J 72 _ _ (gup h 99 (gO (gU M 9 (0)) pv tv)) _
          have hP1 := hP.fld (gU M 9 (0)) pv tv
          refine j_p (nx := 73) hJ dX6_transform_72 rfl rfl ?_
          refine j_csR (nx := 76) hJ dX6_transform_73 rfl (r6_isRegister (fl := false) (d := d + 57) _) mX6_139 rfl (gle8 rfl) ?_
          rw [show gbt _ 6 = false from Bool.eq_false_iff.mpr hx]
          refine j_if_ne (nx := 79) (tgt := 82) hJ dX6_transform_76 rfl (by decide) (fun c76 => absurd c76 (by decide)) (fun c76 => ?_)
          refine j_c (nx := 81) hJ dX6_transform_79 rfl gk_bipush_m2 ?_
          have e : s_transform R N x = (-2, gU R 73 [], N) := if_neg hx
          exact j_iret hJ dX6_transform_81 ⟨by rw [e], by rw [e]; exact ⟨_, _, _, _, _, hP1, hG.inp (l := []) (by show 0 ≤ 20; omega) rfl (fun i v hv => by cases hv) ⟨rfl, rfl, rfl, rfl, rfl⟩ (fun a _ _ => rfl)⟩⟩
    · refine j_c (nx := 23) hJ dX6_transform_22 rfl gk_iconst_1 ?_
      refine j_go (tgt := 66) hJ dX6_transform_23 (by decide) ?_
      rw [gb_f] at c6
      replace c6 := of_decide_eq_false c6
      rw [gb_t] at c19
      replace c19 := of_decide_eq_true c19
      by_cases hx : gbt x 6 = true
      · obtain ⟨r, rfl, hr⟩ := gbt_spec hx
        have egr := gr_nI (r := r) (by omega)
        have hl := hG.2.1 r hr
        have hl8 := hl.2.1
        have hpr := hpt r hr
        by_cases hex : 1 < N 1
        · have hpr : gPt k (R (5 + 2 * r)) := hpr
          have hLL : ((R (5 + 2 * r)).map (fun y => if y = 0 then 1 else if y = 1 then 0 else y)).length = (R (5 + 2 * r)).length := by rw [List.length_map]
          have hml : (gU (gU M 9 0) 11 (nI (R (5 + 2 * r)).length)) 11 = nI ((R (5 + 2 * r)).map (fun y => if y = 0 then 1 else if y = 1 then 0 else y)).length := by rw [hLL]; rfl
          have hsyl : ∀ c ∈ ((R (5 + 2 * r)).map (fun y => if y = 0 then 1 else if y = 1 then 0 else y)), gsy c := gmapsy (hpr.sy hk3.2) (fun y hy => by split; exact gsy_nI (x := 1) (by omega); split; exact gsy_nI (x := 0) (by omega); exact hy)
          have hne := hpr.1
          have e : s_transform R N (nI r) = (nI (gcan ((R (5 + 2 * r)).map (fun y => if y = 0 then 1 else if y = 1 then 0 else y))).length, gU (gU R (5 + 2 * r) (gcan ((R (5 + 2 * r)).map (fun y => if y = 0 then 1 else if y = 1 then 0 else y)))) 73 [], N) := by
            have e1 : gtf (N 1) (R 73) (R (5 + 2 * r)) = some ((R (5 + 2 * r)).map (fun y => if y = 0 then 1 else if y = 1 then 0 else y)) := by unfold gtf; rw [if_neg c6, if_pos c19, if_pos hex]
            unfold s_transform
            rw [if_pos hx, egr, e1]
          have loop : ∀ i, i ≤ ((R (5 + 2 * r)).map (fun y => if y = 0 then 1 else if y = 1 then 0 else y)).length → ∀ (h1 : GH) (f : Nat → Int32) (w5 w6 : Option Value), gP h0 h1 (gU A 107 f) E (gU (gU M 9 0) 11 (nI (R (5 + 2 * r)).length)) pv tv → gSt f 0 (((R (5 + 2 * r)).map (fun y => if y = 0 then 1 else if y = 1 then 0 else y)).take i) → J 120 [some (.ref 99), some (.int (nI r)), some (.int 1), some (.int (nI (R (5 + 2 * r)).length)), some (.int (nI i)), w5, w6] [] h1 (n, 0, 0, false) := by
            refine gloop _ _ (fun i hi ih h1 f w5 w6 hP1 hf => ?_)
            refine j_p (nx := 122) hJ dX6_transform_120 rfl rfl ?_
            refine j_p (nx := 123) hJ dX6_transform_122 rfl rfl ?_
            refine j_get (nx := 126) hJ dX6_transform_123 rfl fX6_112 hP1.1.1 (by rfl) ?_
            rw [show (gU (gU M 9 0) 11 (nI (R (5 + 2 * r)).length)) 11 = nI ((R (5 + 2 * r)).map (fun y => if y = 0 then 1 else if y = 1 then 0 else y)).length from hml]
            refine j_ic_ge (nx := 129) (tgt := 237) hJ dX6_transform_126 rfl (by decide) (fun c126 => ?_) (fun c126 => ?_)
            · rw [gnle (by omega) (by omega)] at c126
              have e0 : i = ((R (5 + 2 * r)).map (fun y => if y = 0 then 1 else if y = 1 then 0 else y)).length := by omega
              subst e0
              rw [List.take_length] at hf
              refine j_p (nx := 238) hJ dX6_transform_237 rfl rfl ?_
              refine j_p (nx := 239) hJ dX6_transform_238 rfl rfl ?_
              refine j_cv (nx := 242) hJ dX6_transform_239 rfl (r6_store (d := d + 57) hP1 hr (l := ((R (5 + 2 * r)).map (fun y => if y = 0 then 1 else if y = 1 then 0 else y))) hml (by omega) hf hsyl) mX6_143 hP1.1.1 kX6_store rfl (gle8 rfl) (fun o h3 hp => ?_)
              obtain ⟨rfl, A2, hP2, k1, k2, k3, k4⟩ := hp
              refine j_iret hJ dX6_transform_242 ⟨by rw [e, gcan_len], ?_⟩
              rw [e]
              have hG9 : gG (gU A 107 f) E (gU (gU M 9 0) 11 (nI (R (5 + 2 * r)).length)) (gU R 73 []) N := hG.inp (l := []) (by show 0 ≤ 20; omega) rfl (fun i v hv => by cases hv) ⟨rfl, rfl, rfl, rfl, rfl⟩ (fun a _ p => gU_n _ _ (by omega))
              have hG8 := hG9.pat hr k1 k2 k3 (fun a p1 p2 p3 => k4 a p1 p2 (by omega))
              exact ⟨_, _, _, _, _, hP2, hG8.rwR (fun a => by simp only [gU]; split; (next q => rw [if_neg (by omega)]); rfl)⟩
            · rw [gnle (by omega) (by omega)] at c126
              have hil : i < ((R (5 + 2 * r)).map (fun y => if y = 0 then 1 else if y = 1 then 0 else y)).length := by omega
              have hsyy : gsy ((R (5 + 2 * r)).getD i (-1)) := hpr.sy hk3.2 _ (ggetD_mem (by omega))
              refine j_p (nx := 130) hJ dX6_transform_129 rfl rfl ?_
              refine j_get (nx := 133) hJ dX6_transform_130 rfl fX6_15 hP1.1.1 (by rfl) ?_
              refine j_c (nx := 135) hJ dX6_transform_133 rfl gk_bipush_8 ?_
              refine j_p (nx := 136) hJ dX6_transform_135 rfl rfl ?_
              refine j_p (nx := 137) hJ dX6_transform_136 rfl rfl ?_
              rw [show (8 : Int32) = nI 8 from rfl, gmul]
              refine j_p (nx := 138) hJ dX6_transform_137 rfl rfl ?_
              refine j_if_ne (nx := 141) (tgt := 150) hJ dX6_transform_138 rfl (by decide) (fun _ => ?_) (fun c138 => absurd c138 (by decide))
              refine j_p (nx := 152) hJ dX6_transform_150 rfl rfl ?_
              refine j_p (nx := 153) hJ dX6_transform_152 rfl rfl ?_
              rw [gadd]
              refine j_iald (j := 8 * r + i) (nx := 154) hJ dX6_transform_153 rfl (show h1 100 = some (gia 48 ((gU A 107 f) 100)) from hP1.a 100 (by unfold gia'; omega)) rfl (by omega) (by decide) ?_
              rw [show (gU A 107 f) 100 (8 * r + i) = ((R (5 + 2 * r)).getD i (-1)) from hl.2.2.get (by omega)]
              refine j_p (nx := 156) hJ dX6_transform_154 rfl rfl ?_
              refine j_p (nx := 158) hJ dX6_transform_156 rfl rfl ?_
              refine j_c (nx := 160) hJ dX6_transform_158 rfl gk_bipush_10 ?_
              refine j_ic_ge (nx := 163) (tgt := 167) hJ dX6_transform_160 rfl (by decide) (fun c160 => ?_) (fun c160 => ?_)
              · refine j_c (nx := 168) hJ dX6_transform_167 rfl gk_iconst_0 ?_
                refine j_p (nx := 170) hJ dX6_transform_168 rfl rfl ?_
                refine j_p (nx := 171) hJ dX6_transform_170 rfl rfl ?_
                refine j_c (nx := 172) hJ dX6_transform_171 rfl gk_iconst_1 ?_
                refine j_ic_ne (nx := 175) (tgt := 198) hJ dX6_transform_172 rfl (by decide) (fun c172 => absurd c172 (by decide)) (fun _ => ?_)
                refine j_p (nx := 176) hJ dX6_transform_175 rfl rfl ?_
                refine j_get (nx := 179) hJ dX6_transform_176 rfl fX6_9 hP1.1.1 (by rfl) ?_
                rw [show (gU (gU M 9 0) 11 (nI (R (5 + 2 * r)).length)) 0 = N 1 from g0]
                refine j_c (nx := 180) hJ dX6_transform_179 rfl gk_iconst_1 ?_
                refine j_ic_le (nx := 183) (tgt := 198) hJ dX6_transform_180 rfl (by decide) (fun c180 => ?_) (fun c180 => ?_)
                · refine j_p (nx := 199) hJ dX6_transform_198 rfl rfl ?_
                  refine j_c (nx := 200) hJ dX6_transform_199 rfl gk_iconst_3 ?_
                  refine j_ic_ne (nx := 203) (tgt := 208) hJ dX6_transform_200 rfl (by decide) (fun _ => ?_) (fun c200 => absurd c200 (by decide))
                  refine j_p (nx := 209) hJ dX6_transform_208 rfl rfl ?_
                  refine j_c (nx := 210) hJ dX6_transform_209 rfl gk_iconst_4 ?_
                  refine j_ic_ne (nx := 213) (tgt := 222) hJ dX6_transform_210 rfl (by decide) (fun _ => ?_) (fun c210 => absurd c210 (by decide))
                  refine j_p (nx := 223) hJ dX6_transform_222 rfl rfl ?_
                  refine j_get (nx := 226) hJ dX6_transform_223 rfl fX6_37 hP1.1.1 (by rfl) ?_
                  refine j_p (nx := 228) hJ dX6_transform_226 rfl rfl ?_
                  refine j_p (nx := 230) hJ dX6_transform_228 rfl rfl ?_
                  refine j_iast (j := i) (nx := 231) hJ dX6_transform_230 rfl (show h1 107 = some (gia 8 f) from hP1.a 107 (by unfold gia'; omega)) rfl (by omega) (by decide) ?_
                  refine j_inc (nx := 234) hJ dX6_transform_231 rfl rfl (gi1 i) rfl ?_
                  refine j_go (tgt := 120) hJ dX6_transform_234 (by decide) ?_
                  exact ih (by omega) _ _ _ _ ((hP1.arr (a := 107) (by unfold gia'; omega) (upd f i _)).uu) (gst_up2 hf (by omega) (by rw [gmap_get _ (by omega)]; first | exact gsw_val hsyy c186 | exact gsw_keep c186 | exact absurd hex (by rw [Int32.le_iff_toInt_le] at c180; rw [Int32.lt_iff_toInt_lt]; omega)))
                · refine j_p (nx := 185) hJ dX6_transform_183 rfl rfl ?_
                  refine j_c (nx := 186) hJ dX6_transform_185 rfl gk_iconst_2 ?_
                  refine j_ic_ge (nx := 189) (tgt := 198) hJ dX6_transform_186 rfl (by decide) (fun c186 => ?_) (fun c186 => ?_)
                  · refine j_p (nx := 199) hJ dX6_transform_198 rfl rfl ?_
                    refine j_c (nx := 200) hJ dX6_transform_199 rfl gk_iconst_3 ?_
                    refine j_ic_ne (nx := 203) (tgt := 208) hJ dX6_transform_200 rfl (by decide) (fun _ => ?_) (fun c200 => absurd c200 (by decide))
                    refine j_p (nx := 209) hJ dX6_transform_208 rfl rfl ?_
                    refine j_c (nx := 210) hJ dX6_transform_209 rfl gk_iconst_4 ?_
                    refine j_ic_ne (nx := 213) (tgt := 222) hJ dX6_transform_210 rfl (by decide) (fun _ => ?_) (fun c210 => absurd c210 (by decide))
                    refine j_p (nx := 223) hJ dX6_transform_222 rfl rfl ?_
                    refine j_get (nx := 226) hJ dX6_transform_223 rfl fX6_37 hP1.1.1 (by rfl) ?_
                    refine j_p (nx := 228) hJ dX6_transform_226 rfl rfl ?_
                    refine j_p (nx := 230) hJ dX6_transform_228 rfl rfl ?_
                    refine j_iast (j := i) (nx := 231) hJ dX6_transform_230 rfl (show h1 107 = some (gia 8 f) from hP1.a 107 (by unfold gia'; omega)) rfl (by omega) (by decide) ?_
                    refine j_inc (nx := 234) hJ dX6_transform_231 rfl rfl (gi1 i) rfl ?_
                    refine j_go (tgt := 120) hJ dX6_transform_234 (by decide) ?_
                    exact ih (by omega) _ _ _ _ ((hP1.arr (a := 107) (by unfold gia'; omega) (upd f i _)).uu) (gst_up2 hf (by omega) (by rw [gmap_get _ (by omega)]; first | exact gsw_val hsyy c186 | exact gsw_keep c186 | exact absurd hex (by rw [Int32.le_iff_toInt_le] at c180; rw [Int32.lt_iff_toInt_lt]; omega)))
                  · refine j_c (nx := 190) hJ dX6_transform_189 rfl gk_iconst_1 ?_
                    refine j_p (nx := 192) hJ dX6_transform_190 rfl rfl ?_
                    refine j_p (nx := 193) hJ dX6_transform_192 rfl rfl ?_
                    refine j_p (nx := 195) hJ dX6_transform_193 rfl rfl ?_
                    refine j_go (tgt := 222) hJ dX6_transform_195 (by decide) ?_
                    refine j_p (nx := 223) hJ dX6_transform_222 rfl rfl ?_
                    refine j_get (nx := 226) hJ dX6_transform_223 rfl fX6_37 hP1.1.1 (by rfl) ?_
                    refine j_p (nx := 228) hJ dX6_transform_226 rfl rfl ?_
                    refine j_p (nx := 230) hJ dX6_transform_228 rfl rfl ?_
                    refine j_iast (j := i) (nx := 231) hJ dX6_transform_230 rfl (show h1 107 = some (gia 8 f) from hP1.a 107 (by unfold gia'; omega)) rfl (by omega) (by decide) ?_
                    refine j_inc (nx := 234) hJ dX6_transform_231 rfl rfl (gi1 i) rfl ?_
                    refine j_go (tgt := 120) hJ dX6_transform_234 (by decide) ?_
                    exact ih (by omega) _ _ _ _ ((hP1.arr (a := 107) (by unfold gia'; omega) (upd f i _)).uu) (gst_up2 hf (by omega) (by rw [gmap_get _ (by omega)]; first | exact gsw_val hsyy c186 | exact gsw_keep c186 | exact absurd hex (by rw [Int32.le_iff_toInt_le] at c180; rw [Int32.lt_iff_toInt_lt]; omega)))
              · refine j_c (nx := 164) hJ dX6_transform_163 rfl gk_iconst_1 ?_
                refine j_go (tgt := 168) hJ dX6_transform_164 (by decide) ?_
                refine j_p (nx := 170) hJ dX6_transform_168 rfl rfl ?_
                refine j_p (nx := 171) hJ dX6_transform_170 rfl rfl ?_
                refine j_c (nx := 172) hJ dX6_transform_171 rfl gk_iconst_1 ?_
                refine j_ic_ne (nx := 175) (tgt := 198) hJ dX6_transform_172 rfl (by decide) (fun c172 => absurd c172 (by decide)) (fun _ => ?_)
                refine j_p (nx := 176) hJ dX6_transform_175 rfl rfl ?_
                refine j_get (nx := 179) hJ dX6_transform_176 rfl fX6_9 hP1.1.1 (by rfl) ?_
                rw [show (gU (gU M 9 0) 11 (nI (R (5 + 2 * r)).length)) 0 = N 1 from g0]
                refine j_c (nx := 180) hJ dX6_transform_179 rfl gk_iconst_1 ?_
                refine j_ic_le (nx := 183) (tgt := 198) hJ dX6_transform_180 rfl (by decide) (fun c180 => ?_) (fun c180 => ?_)
                · refine j_p (nx := 199) hJ dX6_transform_198 rfl rfl ?_
                  refine j_c (nx := 200) hJ dX6_transform_199 rfl gk_iconst_3 ?_
                  refine j_ic_ne (nx := 203) (tgt := 208) hJ dX6_transform_200 rfl (by decide) (fun _ => ?_) (fun c200 => absurd c200 (by decide))
                  refine j_p (nx := 209) hJ dX6_transform_208 rfl rfl ?_
                  refine j_c (nx := 210) hJ dX6_transform_209 rfl gk_iconst_4 ?_
                  refine j_ic_ne (nx := 213) (tgt := 222) hJ dX6_transform_210 rfl (by decide) (fun _ => ?_) (fun c210 => absurd c210 (by decide))
                  refine j_p (nx := 223) hJ dX6_transform_222 rfl rfl ?_
                  refine j_get (nx := 226) hJ dX6_transform_223 rfl fX6_37 hP1.1.1 (by rfl) ?_
                  refine j_p (nx := 228) hJ dX6_transform_226 rfl rfl ?_
                  refine j_p (nx := 230) hJ dX6_transform_228 rfl rfl ?_
                  refine j_iast (j := i) (nx := 231) hJ dX6_transform_230 rfl (show h1 107 = some (gia 8 f) from hP1.a 107 (by unfold gia'; omega)) rfl (by omega) (by decide) ?_
                  refine j_inc (nx := 234) hJ dX6_transform_231 rfl rfl (gi1 i) rfl ?_
                  refine j_go (tgt := 120) hJ dX6_transform_234 (by decide) ?_
                  exact ih (by omega) _ _ _ _ ((hP1.arr (a := 107) (by unfold gia'; omega) (upd f i _)).uu) (gst_up2 hf (by omega) (by rw [gmap_get _ (by omega)]; first | exact gsw_val hsyy c186 | exact gsw_keep c186 | exact absurd hex (by rw [Int32.le_iff_toInt_le] at c180; rw [Int32.lt_iff_toInt_lt]; omega)))
                · refine j_p (nx := 185) hJ dX6_transform_183 rfl rfl ?_
                  refine j_c (nx := 186) hJ dX6_transform_185 rfl gk_iconst_2 ?_
                  refine j_ic_ge (nx := 189) (tgt := 198) hJ dX6_transform_186 rfl (by decide) (fun c186 => ?_) (fun c186 => ?_)
                  · refine j_p (nx := 199) hJ dX6_transform_198 rfl rfl ?_
                    refine j_c (nx := 200) hJ dX6_transform_199 rfl gk_iconst_3 ?_
                    refine j_ic_ne (nx := 203) (tgt := 208) hJ dX6_transform_200 rfl (by decide) (fun _ => ?_) (fun c200 => absurd c200 (by decide))
                    refine j_p (nx := 209) hJ dX6_transform_208 rfl rfl ?_
                    refine j_c (nx := 210) hJ dX6_transform_209 rfl gk_iconst_4 ?_
                    refine j_ic_ne (nx := 213) (tgt := 222) hJ dX6_transform_210 rfl (by decide) (fun _ => ?_) (fun c210 => absurd c210 (by decide))
                    refine j_p (nx := 223) hJ dX6_transform_222 rfl rfl ?_
                    refine j_get (nx := 226) hJ dX6_transform_223 rfl fX6_37 hP1.1.1 (by rfl) ?_
                    refine j_p (nx := 228) hJ dX6_transform_226 rfl rfl ?_
                    refine j_p (nx := 230) hJ dX6_transform_228 rfl rfl ?_
                    refine j_iast (j := i) (nx := 231) hJ dX6_transform_230 rfl (show h1 107 = some (gia 8 f) from hP1.a 107 (by unfold gia'; omega)) rfl (by omega) (by decide) ?_
                    refine j_inc (nx := 234) hJ dX6_transform_231 rfl rfl (gi1 i) rfl ?_
                    refine j_go (tgt := 120) hJ dX6_transform_234 (by decide) ?_
                    exact ih (by omega) _ _ _ _ ((hP1.arr (a := 107) (by unfold gia'; omega) (upd f i _)).uu) (gst_up2 hf (by omega) (by rw [gmap_get _ (by omega)]; first | exact gsw_val hsyy c186 | exact gsw_keep c186 | exact absurd hex (by rw [Int32.le_iff_toInt_le] at c180; rw [Int32.lt_iff_toInt_lt]; omega)))
                  · refine j_c (nx := 190) hJ dX6_transform_189 rfl gk_iconst_1 ?_
                    refine j_p (nx := 192) hJ dX6_transform_190 rfl rfl ?_
                    refine j_p (nx := 193) hJ dX6_transform_192 rfl rfl ?_
                    refine j_p (nx := 195) hJ dX6_transform_193 rfl rfl ?_
                    refine j_go (tgt := 222) hJ dX6_transform_195 (by decide) ?_
                    refine j_p (nx := 223) hJ dX6_transform_222 rfl rfl ?_
                    refine j_get (nx := 226) hJ dX6_transform_223 rfl fX6_37 hP1.1.1 (by rfl) ?_
                    refine j_p (nx := 228) hJ dX6_transform_226 rfl rfl ?_
                    refine j_p (nx := 230) hJ dX6_transform_228 rfl rfl ?_
                    refine j_iast (j := i) (nx := 231) hJ dX6_transform_230 rfl (show h1 107 = some (gia 8 f) from hP1.a 107 (by unfold gia'; omega)) rfl (by omega) (by decide) ?_
                    refine j_inc (nx := 234) hJ dX6_transform_231 rfl rfl (gi1 i) rfl ?_
                    refine j_go (tgt := 120) hJ dX6_transform_234 (by decide) ?_
                    exact ih (by omega) _ _ _ _ ((hP1.arr (a := 107) (by unfold gia'; omega) (upd f i _)).uu) (gst_up2 hf (by omega) (by rw [gmap_get _ (by omega)]; first | exact gsw_val hsyy c186 | exact gsw_keep c186 | exact absurd hex (by rw [Int32.le_iff_toInt_le] at c180; rw [Int32.lt_iff_toInt_lt]; omega)))
          refine j_p (nx := 67) hJ dX6_transform_66 rfl rfl ?_
          refine j_p (nx := 68) hJ dX6_transform_67 rfl rfl ?_
          refine j_c (nx := 69) hJ dX6_transform_68 rfl gk_iconst_0 ?_
          refine j_put (nx := 72) hJ dX6_transform_69 rfl fX6_105 (zX6_9 _) hP.1.1 (Nat.le_of_ble_eq_true rfl) ?_
          change J 72 _ _ (gup h 99 (gO (gU M 9 (0)) pv tv)) _
          have hP1 := hP.fld (gU M 9 (0)) pv tv
          refine j_p (nx := 73) hJ dX6_transform_72 rfl rfl ?_
          refine j_csR (nx := 76) hJ dX6_transform_73 rfl (r6_isRegister (fl := false) (d := d + 57) _) mX6_139 rfl (gle8 rfl) ?_
          rw [show gbt _ 6 = true from hx]
          refine j_if_ne (nx := 79) (tgt := 82) hJ dX6_transform_76 rfl (by decide) (fun c76 => ?_) (fun c76 => absurd c76 (by decide))
          refine j_p (nx := 83) hJ dX6_transform_82 rfl rfl ?_
          refine j_if_ge (nx := 86) (tgt := 89) hJ dX6_transform_83 rfl (by decide) (fun _ => ?_) (fun c83 => absurd c83 (by decide))
          refine j_p (nx := 90) hJ dX6_transform_89 rfl rfl ?_
          refine j_get (nx := 93) hJ dX6_transform_90 rfl fX6_19 hP1.1.1 (by rfl) ?_
          refine j_p (nx := 94) hJ dX6_transform_93 rfl rfl ?_
          refine j_iald (j := r) (nx := 95) hJ dX6_transform_94 rfl (show (gup h 99 (gO (gU M 9 0) pv tv)) 101 = some (gia 6 (A 101)) from hP1.a 101 (by unfold gia'; omega)) rfl (by omega) (by decide) ?_
          rw [hl.1]
          refine j_p (nx := 96) hJ dX6_transform_95 rfl rfl ?_
          refine j_p (nx := 97) hJ dX6_transform_96 rfl rfl ?_
          refine j_p (nx := 98) hJ dX6_transform_97 rfl rfl ?_
          refine j_c (nx := 99) hJ dX6_transform_98 rfl gk_iconst_2 ?_
          refine j_ic_ne (nx := 102) (tgt := 113) hJ dX6_transform_99 rfl (by decide) (fun _ => ?_) (fun c99 => absurd c99 (by decide))
          refine j_p (nx := 114) hJ dX6_transform_113 rfl rfl ?_
          refine j_put (nx := 117) hJ dX6_transform_114 rfl fX6_112 (zX6_11 _) hP1.1.1 (Nat.le_of_ble_eq_true rfl) ?_
          change J 117 _ _ (gup (gup h 99 (gO (gU M 9 0) pv tv)) 99 (gO (gU (gU M 9 0) 11 (nI (R (5 + 2 * r)).length)) pv tv)) _
          have hP2 := hP1.fld (gU (gU M 9 0) 11 (nI (R (5 + 2 * r)).length)) pv tv
          refine j_c (nx := 118) hJ dX6_transform_117 rfl gk_iconst_0 ?_
          refine j_p (nx := 120) hJ dX6_transform_118 rfl rfl ?_
          exact loop 0 (Nat.zero_le _) _ (A 107) none none (hP2.rw (gU_self A 107) (fun _ => rfl) (fun _ => rfl)) (fun j v hv => by cases hv)
        · have hpr : gPt k (R (5 + 2 * r)) := hpr
          have hLL : (R (5 + 2 * r)).length = (R (5 + 2 * r)).length := rfl
          have hml : (gU (gU M 9 0) 11 (nI (R (5 + 2 * r)).length)) 11 = nI (R (5 + 2 * r)).length := by rw [hLL]; rfl
          have hsyl : ∀ c ∈ (R (5 + 2 * r)), gsy c := hpr.sy hk3.2
          have hne := hpr.1
          have e : s_transform R N (nI r) = (nI (gcan (R (5 + 2 * r))).length, gU (gU R (5 + 2 * r) (gcan (R (5 + 2 * r)))) 73 [], N) := by
            have e1 : gtf (N 1) (R 73) (R (5 + 2 * r)) = some (R (5 + 2 * r)) := by unfold gtf; rw [if_neg c6, if_pos c19, if_neg hex]
            unfold s_transform
            rw [if_pos hx, egr, e1]
          have loop : ∀ i, i ≤ (R (5 + 2 * r)).length → ∀ (h1 : GH) (f : Nat → Int32) (w5 w6 : Option Value), gP h0 h1 (gU A 107 f) E (gU (gU M 9 0) 11 (nI (R (5 + 2 * r)).length)) pv tv → gSt f 0 ((R (5 + 2 * r)).take i) → J 120 [some (.ref 99), some (.int (nI r)), some (.int 1), some (.int (nI (R (5 + 2 * r)).length)), some (.int (nI i)), w5, w6] [] h1 (n, 0, 0, false) := by
            refine gloop _ _ (fun i hi ih h1 f w5 w6 hP1 hf => ?_)
            refine j_p (nx := 122) hJ dX6_transform_120 rfl rfl ?_
            refine j_p (nx := 123) hJ dX6_transform_122 rfl rfl ?_
            refine j_get (nx := 126) hJ dX6_transform_123 rfl fX6_112 hP1.1.1 (by rfl) ?_
            rw [show (gU (gU M 9 0) 11 (nI (R (5 + 2 * r)).length)) 11 = nI (R (5 + 2 * r)).length from hml]
            refine j_ic_ge (nx := 129) (tgt := 237) hJ dX6_transform_126 rfl (by decide) (fun c126 => ?_) (fun c126 => ?_)
            · rw [gnle (by omega) (by omega)] at c126
              have e0 : i = (R (5 + 2 * r)).length := by omega
              subst e0
              rw [List.take_length] at hf
              refine j_p (nx := 238) hJ dX6_transform_237 rfl rfl ?_
              refine j_p (nx := 239) hJ dX6_transform_238 rfl rfl ?_
              refine j_cv (nx := 242) hJ dX6_transform_239 rfl (r6_store (d := d + 57) hP1 hr (l := (R (5 + 2 * r))) hml (by omega) hf hsyl) mX6_143 hP1.1.1 kX6_store rfl (gle8 rfl) (fun o h3 hp => ?_)
              obtain ⟨rfl, A2, hP2, k1, k2, k3, k4⟩ := hp
              refine j_iret hJ dX6_transform_242 ⟨by rw [e, gcan_len], ?_⟩
              rw [e]
              have hG9 : gG (gU A 107 f) E (gU (gU M 9 0) 11 (nI (R (5 + 2 * r)).length)) (gU R 73 []) N := hG.inp (l := []) (by show 0 ≤ 20; omega) rfl (fun i v hv => by cases hv) ⟨rfl, rfl, rfl, rfl, rfl⟩ (fun a _ p => gU_n _ _ (by omega))
              have hG8 := hG9.pat hr k1 k2 k3 (fun a p1 p2 p3 => k4 a p1 p2 (by omega))
              exact ⟨_, _, _, _, _, hP2, hG8.rwR (fun a => by simp only [gU]; split; (next q => rw [if_neg (by omega)]); rfl)⟩
            · rw [gnle (by omega) (by omega)] at c126
              have hil : i < (R (5 + 2 * r)).length := by omega
              have hsyy : gsy ((R (5 + 2 * r)).getD i (-1)) := hpr.sy hk3.2 _ (ggetD_mem (by omega))
              refine j_p (nx := 130) hJ dX6_transform_129 rfl rfl ?_
              refine j_get (nx := 133) hJ dX6_transform_130 rfl fX6_15 hP1.1.1 (by rfl) ?_
              refine j_c (nx := 135) hJ dX6_transform_133 rfl gk_bipush_8 ?_
              refine j_p (nx := 136) hJ dX6_transform_135 rfl rfl ?_
              refine j_p (nx := 137) hJ dX6_transform_136 rfl rfl ?_
              rw [show (8 : Int32) = nI 8 from rfl, gmul]
              refine j_p (nx := 138) hJ dX6_transform_137 rfl rfl ?_
              refine j_if_ne (nx := 141) (tgt := 150) hJ dX6_transform_138 rfl (by decide) (fun _ => ?_) (fun c138 => absurd c138 (by decide))
              refine j_p (nx := 152) hJ dX6_transform_150 rfl rfl ?_
              refine j_p (nx := 153) hJ dX6_transform_152 rfl rfl ?_
              rw [gadd]
              refine j_iald (j := 8 * r + i) (nx := 154) hJ dX6_transform_153 rfl (show h1 100 = some (gia 48 ((gU A 107 f) 100)) from hP1.a 100 (by unfold gia'; omega)) rfl (by omega) (by decide) ?_
              rw [show (gU A 107 f) 100 (8 * r + i) = ((R (5 + 2 * r)).getD i (-1)) from hl.2.2.get (by omega)]
              refine j_p (nx := 156) hJ dX6_transform_154 rfl rfl ?_
              refine j_p (nx := 158) hJ dX6_transform_156 rfl rfl ?_
              refine j_c (nx := 160) hJ dX6_transform_158 rfl gk_bipush_10 ?_
              refine j_ic_ge (nx := 163) (tgt := 167) hJ dX6_transform_160 rfl (by decide) (fun c160 => ?_) (fun c160 => ?_)
              · refine j_c (nx := 168) hJ dX6_transform_167 rfl gk_iconst_0 ?_
                refine j_p (nx := 170) hJ dX6_transform_168 rfl rfl ?_
                refine j_p (nx := 171) hJ dX6_transform_170 rfl rfl ?_
                refine j_c (nx := 172) hJ dX6_transform_171 rfl gk_iconst_1 ?_
                refine j_ic_ne (nx := 175) (tgt := 198) hJ dX6_transform_172 rfl (by decide) (fun c172 => absurd c172 (by decide)) (fun _ => ?_)
                refine j_p (nx := 176) hJ dX6_transform_175 rfl rfl ?_
                refine j_get (nx := 179) hJ dX6_transform_176 rfl fX6_9 hP1.1.1 (by rfl) ?_
                rw [show (gU (gU M 9 0) 11 (nI (R (5 + 2 * r)).length)) 0 = N 1 from g0]
                refine j_c (nx := 180) hJ dX6_transform_179 rfl gk_iconst_1 ?_
                refine j_ic_le (nx := 183) (tgt := 198) hJ dX6_transform_180 rfl (by decide) (fun c180 => ?_) (fun c180 => ?_)
                · refine j_p (nx := 199) hJ dX6_transform_198 rfl rfl ?_
                  refine j_c (nx := 200) hJ dX6_transform_199 rfl gk_iconst_3 ?_
                  refine j_ic_ne (nx := 203) (tgt := 208) hJ dX6_transform_200 rfl (by decide) (fun _ => ?_) (fun c200 => absurd c200 (by decide))
                  refine j_p (nx := 209) hJ dX6_transform_208 rfl rfl ?_
                  refine j_c (nx := 210) hJ dX6_transform_209 rfl gk_iconst_4 ?_
                  refine j_ic_ne (nx := 213) (tgt := 222) hJ dX6_transform_210 rfl (by decide) (fun _ => ?_) (fun c210 => absurd c210 (by decide))
                  refine j_p (nx := 223) hJ dX6_transform_222 rfl rfl ?_
                  refine j_get (nx := 226) hJ dX6_transform_223 rfl fX6_37 hP1.1.1 (by rfl) ?_
                  refine j_p (nx := 228) hJ dX6_transform_226 rfl rfl ?_
                  refine j_p (nx := 230) hJ dX6_transform_228 rfl rfl ?_
                  refine j_iast (j := i) (nx := 231) hJ dX6_transform_230 rfl (show h1 107 = some (gia 8 f) from hP1.a 107 (by unfold gia'; omega)) rfl (by omega) (by decide) ?_
                  refine j_inc (nx := 234) hJ dX6_transform_231 rfl rfl (gi1 i) rfl ?_
                  refine j_go (tgt := 120) hJ dX6_transform_234 (by decide) ?_
                  exact ih (by omega) _ _ _ _ ((hP1.arr (a := 107) (by unfold gia'; omega) (upd f i _)).uu) (gst_up2 hf (by omega) (by first | rfl | exact absurd (by rw [Int32.le_iff_toInt_le] at c180; rw [Int32.lt_iff_toInt_lt]; omega) hex))
                · refine j_p (nx := 185) hJ dX6_transform_183 rfl rfl ?_
                  refine j_c (nx := 186) hJ dX6_transform_185 rfl gk_iconst_2 ?_
                  refine j_ic_ge (nx := 189) (tgt := 198) hJ dX6_transform_186 rfl (by decide) (fun c186 => ?_) (fun c186 => ?_)
                  · refine j_p (nx := 199) hJ dX6_transform_198 rfl rfl ?_
                    refine j_c (nx := 200) hJ dX6_transform_199 rfl gk_iconst_3 ?_
                    refine j_ic_ne (nx := 203) (tgt := 208) hJ dX6_transform_200 rfl (by decide) (fun _ => ?_) (fun c200 => absurd c200 (by decide))
                    refine j_p (nx := 209) hJ dX6_transform_208 rfl rfl ?_
                    refine j_c (nx := 210) hJ dX6_transform_209 rfl gk_iconst_4 ?_
                    refine j_ic_ne (nx := 213) (tgt := 222) hJ dX6_transform_210 rfl (by decide) (fun _ => ?_) (fun c210 => absurd c210 (by decide))
                    refine j_p (nx := 223) hJ dX6_transform_222 rfl rfl ?_
                    refine j_get (nx := 226) hJ dX6_transform_223 rfl fX6_37 hP1.1.1 (by rfl) ?_
                    refine j_p (nx := 228) hJ dX6_transform_226 rfl rfl ?_
                    refine j_p (nx := 230) hJ dX6_transform_228 rfl rfl ?_
                    refine j_iast (j := i) (nx := 231) hJ dX6_transform_230 rfl (show h1 107 = some (gia 8 f) from hP1.a 107 (by unfold gia'; omega)) rfl (by omega) (by decide) ?_
                    refine j_inc (nx := 234) hJ dX6_transform_231 rfl rfl (gi1 i) rfl ?_
                    refine j_go (tgt := 120) hJ dX6_transform_234 (by decide) ?_
                    exact ih (by omega) _ _ _ _ ((hP1.arr (a := 107) (by unfold gia'; omega) (upd f i _)).uu) (gst_up2 hf (by omega) (by first | rfl | exact absurd (by rw [Int32.le_iff_toInt_le] at c180; rw [Int32.lt_iff_toInt_lt]; omega) hex))
                  · refine j_c (nx := 190) hJ dX6_transform_189 rfl gk_iconst_1 ?_
                    refine j_p (nx := 192) hJ dX6_transform_190 rfl rfl ?_
                    refine j_p (nx := 193) hJ dX6_transform_192 rfl rfl ?_
                    refine j_p (nx := 195) hJ dX6_transform_193 rfl rfl ?_
                    refine j_go (tgt := 222) hJ dX6_transform_195 (by decide) ?_
                    refine j_p (nx := 223) hJ dX6_transform_222 rfl rfl ?_
                    refine j_get (nx := 226) hJ dX6_transform_223 rfl fX6_37 hP1.1.1 (by rfl) ?_
                    refine j_p (nx := 228) hJ dX6_transform_226 rfl rfl ?_
                    refine j_p (nx := 230) hJ dX6_transform_228 rfl rfl ?_
                    refine j_iast (j := i) (nx := 231) hJ dX6_transform_230 rfl (show h1 107 = some (gia 8 f) from hP1.a 107 (by unfold gia'; omega)) rfl (by omega) (by decide) ?_
                    refine j_inc (nx := 234) hJ dX6_transform_231 rfl rfl (gi1 i) rfl ?_
                    refine j_go (tgt := 120) hJ dX6_transform_234 (by decide) ?_
                    exact ih (by omega) _ _ _ _ ((hP1.arr (a := 107) (by unfold gia'; omega) (upd f i _)).uu) (gst_up2 hf (by omega) (by first | rfl | exact absurd (by rw [Int32.le_iff_toInt_le] at c180; rw [Int32.lt_iff_toInt_lt]; omega) hex))
              · refine j_c (nx := 164) hJ dX6_transform_163 rfl gk_iconst_1 ?_
                refine j_go (tgt := 168) hJ dX6_transform_164 (by decide) ?_
                refine j_p (nx := 170) hJ dX6_transform_168 rfl rfl ?_
                refine j_p (nx := 171) hJ dX6_transform_170 rfl rfl ?_
                refine j_c (nx := 172) hJ dX6_transform_171 rfl gk_iconst_1 ?_
                refine j_ic_ne (nx := 175) (tgt := 198) hJ dX6_transform_172 rfl (by decide) (fun c172 => absurd c172 (by decide)) (fun _ => ?_)
                refine j_p (nx := 176) hJ dX6_transform_175 rfl rfl ?_
                refine j_get (nx := 179) hJ dX6_transform_176 rfl fX6_9 hP1.1.1 (by rfl) ?_
                rw [show (gU (gU M 9 0) 11 (nI (R (5 + 2 * r)).length)) 0 = N 1 from g0]
                refine j_c (nx := 180) hJ dX6_transform_179 rfl gk_iconst_1 ?_
                refine j_ic_le (nx := 183) (tgt := 198) hJ dX6_transform_180 rfl (by decide) (fun c180 => ?_) (fun c180 => ?_)
                · refine j_p (nx := 199) hJ dX6_transform_198 rfl rfl ?_
                  refine j_c (nx := 200) hJ dX6_transform_199 rfl gk_iconst_3 ?_
                  refine j_ic_ne (nx := 203) (tgt := 208) hJ dX6_transform_200 rfl (by decide) (fun _ => ?_) (fun c200 => absurd c200 (by decide))
                  refine j_p (nx := 209) hJ dX6_transform_208 rfl rfl ?_
                  refine j_c (nx := 210) hJ dX6_transform_209 rfl gk_iconst_4 ?_
                  refine j_ic_ne (nx := 213) (tgt := 222) hJ dX6_transform_210 rfl (by decide) (fun _ => ?_) (fun c210 => absurd c210 (by decide))
                  refine j_p (nx := 223) hJ dX6_transform_222 rfl rfl ?_
                  refine j_get (nx := 226) hJ dX6_transform_223 rfl fX6_37 hP1.1.1 (by rfl) ?_
                  refine j_p (nx := 228) hJ dX6_transform_226 rfl rfl ?_
                  refine j_p (nx := 230) hJ dX6_transform_228 rfl rfl ?_
                  refine j_iast (j := i) (nx := 231) hJ dX6_transform_230 rfl (show h1 107 = some (gia 8 f) from hP1.a 107 (by unfold gia'; omega)) rfl (by omega) (by decide) ?_
                  refine j_inc (nx := 234) hJ dX6_transform_231 rfl rfl (gi1 i) rfl ?_
                  refine j_go (tgt := 120) hJ dX6_transform_234 (by decide) ?_
                  exact ih (by omega) _ _ _ _ ((hP1.arr (a := 107) (by unfold gia'; omega) (upd f i _)).uu) (gst_up2 hf (by omega) (by first | rfl | exact absurd (by rw [Int32.le_iff_toInt_le] at c180; rw [Int32.lt_iff_toInt_lt]; omega) hex))
                · refine j_p (nx := 185) hJ dX6_transform_183 rfl rfl ?_
                  refine j_c (nx := 186) hJ dX6_transform_185 rfl gk_iconst_2 ?_
                  refine j_ic_ge (nx := 189) (tgt := 198) hJ dX6_transform_186 rfl (by decide) (fun c186 => ?_) (fun c186 => ?_)
                  · refine j_p (nx := 199) hJ dX6_transform_198 rfl rfl ?_
                    refine j_c (nx := 200) hJ dX6_transform_199 rfl gk_iconst_3 ?_
                    refine j_ic_ne (nx := 203) (tgt := 208) hJ dX6_transform_200 rfl (by decide) (fun _ => ?_) (fun c200 => absurd c200 (by decide))
                    refine j_p (nx := 209) hJ dX6_transform_208 rfl rfl ?_
                    refine j_c (nx := 210) hJ dX6_transform_209 rfl gk_iconst_4 ?_
                    refine j_ic_ne (nx := 213) (tgt := 222) hJ dX6_transform_210 rfl (by decide) (fun _ => ?_) (fun c210 => absurd c210 (by decide))
                    refine j_p (nx := 223) hJ dX6_transform_222 rfl rfl ?_
                    refine j_get (nx := 226) hJ dX6_transform_223 rfl fX6_37 hP1.1.1 (by rfl) ?_
                    refine j_p (nx := 228) hJ dX6_transform_226 rfl rfl ?_
                    refine j_p (nx := 230) hJ dX6_transform_228 rfl rfl ?_
                    refine j_iast (j := i) (nx := 231) hJ dX6_transform_230 rfl (show h1 107 = some (gia 8 f) from hP1.a 107 (by unfold gia'; omega)) rfl (by omega) (by decide) ?_
                    refine j_inc (nx := 234) hJ dX6_transform_231 rfl rfl (gi1 i) rfl ?_
                    refine j_go (tgt := 120) hJ dX6_transform_234 (by decide) ?_
                    exact ih (by omega) _ _ _ _ ((hP1.arr (a := 107) (by unfold gia'; omega) (upd f i _)).uu) (gst_up2 hf (by omega) (by first | rfl | exact absurd (by rw [Int32.le_iff_toInt_le] at c180; rw [Int32.lt_iff_toInt_lt]; omega) hex))
                  · refine j_c (nx := 190) hJ dX6_transform_189 rfl gk_iconst_1 ?_
                    refine j_p (nx := 192) hJ dX6_transform_190 rfl rfl ?_
                    refine j_p (nx := 193) hJ dX6_transform_192 rfl rfl ?_
                    refine j_p (nx := 195) hJ dX6_transform_193 rfl rfl ?_
                    refine j_go (tgt := 222) hJ dX6_transform_195 (by decide) ?_
                    refine j_p (nx := 223) hJ dX6_transform_222 rfl rfl ?_
                    refine j_get (nx := 226) hJ dX6_transform_223 rfl fX6_37 hP1.1.1 (by rfl) ?_
                    refine j_p (nx := 228) hJ dX6_transform_226 rfl rfl ?_
                    refine j_p (nx := 230) hJ dX6_transform_228 rfl rfl ?_
                    refine j_iast (j := i) (nx := 231) hJ dX6_transform_230 rfl (show h1 107 = some (gia 8 f) from hP1.a 107 (by unfold gia'; omega)) rfl (by omega) (by decide) ?_
                    refine j_inc (nx := 234) hJ dX6_transform_231 rfl rfl (gi1 i) rfl ?_
                    refine j_go (tgt := 120) hJ dX6_transform_234 (by decide) ?_
                    exact ih (by omega) _ _ _ _ ((hP1.arr (a := 107) (by unfold gia'; omega) (upd f i _)).uu) (gst_up2 hf (by omega) (by first | rfl | exact absurd (by rw [Int32.le_iff_toInt_le] at c180; rw [Int32.lt_iff_toInt_lt]; omega) hex))
          refine j_p (nx := 67) hJ dX6_transform_66 rfl rfl ?_
          refine j_p (nx := 68) hJ dX6_transform_67 rfl rfl ?_
          refine j_c (nx := 69) hJ dX6_transform_68 rfl gk_iconst_0 ?_
          refine j_put (nx := 72) hJ dX6_transform_69 rfl fX6_105 (zX6_9 _) hP.1.1 (Nat.le_of_ble_eq_true rfl) ?_
          change J 72 _ _ (gup h 99 (gO (gU M 9 (0)) pv tv)) _
          have hP1 := hP.fld (gU M 9 (0)) pv tv
          refine j_p (nx := 73) hJ dX6_transform_72 rfl rfl ?_
          refine j_csR (nx := 76) hJ dX6_transform_73 rfl (r6_isRegister (fl := false) (d := d + 57) _) mX6_139 rfl (gle8 rfl) ?_
          rw [show gbt _ 6 = true from hx]
          refine j_if_ne (nx := 79) (tgt := 82) hJ dX6_transform_76 rfl (by decide) (fun c76 => ?_) (fun c76 => absurd c76 (by decide))
          refine j_p (nx := 83) hJ dX6_transform_82 rfl rfl ?_
          refine j_if_ge (nx := 86) (tgt := 89) hJ dX6_transform_83 rfl (by decide) (fun _ => ?_) (fun c83 => absurd c83 (by decide))
          refine j_p (nx := 90) hJ dX6_transform_89 rfl rfl ?_
          refine j_get (nx := 93) hJ dX6_transform_90 rfl fX6_19 hP1.1.1 (by rfl) ?_
          refine j_p (nx := 94) hJ dX6_transform_93 rfl rfl ?_
          refine j_iald (j := r) (nx := 95) hJ dX6_transform_94 rfl (show (gup h 99 (gO (gU M 9 0) pv tv)) 101 = some (gia 6 (A 101)) from hP1.a 101 (by unfold gia'; omega)) rfl (by omega) (by decide) ?_
          rw [hl.1]
          refine j_p (nx := 96) hJ dX6_transform_95 rfl rfl ?_
          refine j_p (nx := 97) hJ dX6_transform_96 rfl rfl ?_
          refine j_p (nx := 98) hJ dX6_transform_97 rfl rfl ?_
          refine j_c (nx := 99) hJ dX6_transform_98 rfl gk_iconst_2 ?_
          refine j_ic_ne (nx := 102) (tgt := 113) hJ dX6_transform_99 rfl (by decide) (fun _ => ?_) (fun c99 => absurd c99 (by decide))
          refine j_p (nx := 114) hJ dX6_transform_113 rfl rfl ?_
          refine j_put (nx := 117) hJ dX6_transform_114 rfl fX6_112 (zX6_11 _) hP1.1.1 (Nat.le_of_ble_eq_true rfl) ?_
          change J 117 _ _ (gup (gup h 99 (gO (gU M 9 0) pv tv)) 99 (gO (gU (gU M 9 0) 11 (nI (R (5 + 2 * r)).length)) pv tv)) _
          have hP2 := hP1.fld (gU (gU M 9 0) 11 (nI (R (5 + 2 * r)).length)) pv tv
          refine j_c (nx := 118) hJ dX6_transform_117 rfl gk_iconst_0 ?_
          refine j_p (nx := 120) hJ dX6_transform_118 rfl rfl ?_
          exact loop 0 (Nat.zero_le _) _ (A 107) none none (hP2.rw (gU_self A 107) (fun _ => rfl) (fun _ => rfl)) (fun j v hv => by cases hv)
      · refine j_p (nx := 67) hJ dX6_transform_66 rfl rfl ?_
        refine j_p (nx := 68) hJ dX6_transform_67 rfl rfl ?_
        refine j_c (nx := 69) hJ dX6_transform_68 rfl gk_iconst_0 ?_
        refine j_put (nx := 72) hJ dX6_transform_69 rfl fX6_105 (zX6_9 _) hP.1.1 (Nat.le_of_ble_eq_true rfl) ?_
        change J 72 _ _ (gup h 99 (gO (gU M 9 (0)) pv tv)) _
        have hP1 := hP.fld (gU M 9 (0)) pv tv
        refine j_p (nx := 73) hJ dX6_transform_72 rfl rfl ?_
        refine j_csR (nx := 76) hJ dX6_transform_73 rfl (r6_isRegister (fl := false) (d := d + 57) _) mX6_139 rfl (gle8 rfl) ?_
        rw [show gbt _ 6 = false from Bool.eq_false_iff.mpr hx]
        refine j_if_ne (nx := 79) (tgt := 82) hJ dX6_transform_76 rfl (by decide) (fun c76 => absurd c76 (by decide)) (fun c76 => ?_)
        refine j_c (nx := 81) hJ dX6_transform_79 rfl gk_bipush_m2 ?_
        have e : s_transform R N x = (-2, gU R 73 [], N) := if_neg hx
        exact j_iret hJ dX6_transform_81 ⟨by rw [e], by rw [e]; exact ⟨_, _, _, _, _, hP1, hG.inp (l := []) (by show 0 ≤ 20; omega) rfl (fun i v hv => by cases hv) ⟨rfl, rfl, rfl, rfl, rfl⟩ (fun a _ _ => rfl)⟩⟩
  · refine j_c (nx := 10) hJ dX6_transform_9 rfl gk_iconst_0 ?_
    refine j_go (tgt := 66) hJ dX6_transform_10 (by decide) ?_
    rw [gb_t] at c6
    replace c6 := of_decide_eq_true c6
    by_cases hx : gbt x 6 = true
    · obtain ⟨r, rfl, hr⟩ := gbt_spec hx
      have egr := gr_nI (r := r) (by omega)
      have hl := hG.2.1 r hr
      have hl8 := hl.2.1
      have hpr := hpt r hr
      have hpr : gPt k (R (5 + 2 * r)) := hpr
      have hLL : ((R (5 + 2 * r)).reverse).length = (R (5 + 2 * r)).length := by rw [List.length_reverse]
      have hml : (gU (gU M 9 0) 11 (nI (R (5 + 2 * r)).length)) 11 = nI ((R (5 + 2 * r)).reverse).length := by rw [hLL]; rfl
      have hsyl : ∀ c ∈ ((R (5 + 2 * r)).reverse), gsy c := fun c hc => hpr.sy hk3.2 c (List.mem_reverse.mp hc)
      have hne := hpr.1
      have e : s_transform R N (nI r) = (nI (gcan ((R (5 + 2 * r)).reverse)).length, gU (gU R (5 + 2 * r) (gcan ((R (5 + 2 * r)).reverse))) 73 [], N) := by
        have e1 : gtf (N 1) (R 73) (R (5 + 2 * r)) = some ((R (5 + 2 * r)).reverse) := by unfold gtf; rw [if_pos c6]
        unfold s_transform
        rw [if_pos hx, egr, e1]
      have loop : ∀ i, i ≤ ((R (5 + 2 * r)).reverse).length → ∀ (h1 : GH) (f : Nat → Int32) (w5 w6 : Option Value), gP h0 h1 (gU A 107 f) E (gU (gU M 9 0) 11 (nI (R (5 + 2 * r)).length)) pv tv → gSt f 0 (((R (5 + 2 * r)).reverse).take i) → J 120 [some (.ref 99), some (.int (nI r)), some (.int 0), some (.int (nI (R (5 + 2 * r)).length)), some (.int (nI i)), w5, w6] [] h1 (n, 0, 0, false) := by
        refine gloop _ _ (fun i hi ih h1 f w5 w6 hP1 hf => ?_)
        refine j_p (nx := 122) hJ dX6_transform_120 rfl rfl ?_
        refine j_p (nx := 123) hJ dX6_transform_122 rfl rfl ?_
        refine j_get (nx := 126) hJ dX6_transform_123 rfl fX6_112 hP1.1.1 (by rfl) ?_
        rw [show (gU (gU M 9 0) 11 (nI (R (5 + 2 * r)).length)) 11 = nI ((R (5 + 2 * r)).reverse).length from hml]
        refine j_ic_ge (nx := 129) (tgt := 237) hJ dX6_transform_126 rfl (by decide) (fun c126 => ?_) (fun c126 => ?_)
        · rw [gnle (by omega) (by omega)] at c126
          have e0 : i = ((R (5 + 2 * r)).reverse).length := by omega
          subst e0
          rw [List.take_length] at hf
          refine j_p (nx := 238) hJ dX6_transform_237 rfl rfl ?_
          refine j_p (nx := 239) hJ dX6_transform_238 rfl rfl ?_
          refine j_cv (nx := 242) hJ dX6_transform_239 rfl (r6_store (d := d + 57) hP1 hr (l := ((R (5 + 2 * r)).reverse)) hml (by omega) hf hsyl) mX6_143 hP1.1.1 kX6_store rfl (gle8 rfl) (fun o h3 hp => ?_)
          obtain ⟨rfl, A2, hP2, k1, k2, k3, k4⟩ := hp
          refine j_iret hJ dX6_transform_242 ⟨by rw [e, gcan_len], ?_⟩
          rw [e]
          have hG9 : gG (gU A 107 f) E (gU (gU M 9 0) 11 (nI (R (5 + 2 * r)).length)) (gU R 73 []) N := hG.inp (l := []) (by show 0 ≤ 20; omega) rfl (fun i v hv => by cases hv) ⟨rfl, rfl, rfl, rfl, rfl⟩ (fun a _ p => gU_n _ _ (by omega))
          have hG8 := hG9.pat hr k1 k2 k3 (fun a p1 p2 p3 => k4 a p1 p2 (by omega))
          exact ⟨_, _, _, _, _, hP2, hG8.rwR (fun a => by simp only [gU]; split; (next q => rw [if_neg (by omega)]); rfl)⟩
        · rw [gnle (by omega) (by omega)] at c126
          have hil : i < ((R (5 + 2 * r)).reverse).length := by omega
          have hsyy : gsy ((R (5 + 2 * r)).getD ((R (5 + 2 * r)).length - 1 - i) (-1)) := hpr.sy hk3.2 _ (ggetD_mem (by omega))
          refine j_p (nx := 130) hJ dX6_transform_129 rfl rfl ?_
          refine j_get (nx := 133) hJ dX6_transform_130 rfl fX6_15 hP1.1.1 (by rfl) ?_
          refine j_c (nx := 135) hJ dX6_transform_133 rfl gk_bipush_8 ?_
          refine j_p (nx := 136) hJ dX6_transform_135 rfl rfl ?_
          refine j_p (nx := 137) hJ dX6_transform_136 rfl rfl ?_
          rw [show (8 : Int32) = nI 8 from rfl, gmul]
          refine j_p (nx := 138) hJ dX6_transform_137 rfl rfl ?_
          refine j_if_ne (nx := 141) (tgt := 150) hJ dX6_transform_138 rfl (by decide) (fun c138 => absurd c138 (by decide)) (fun _ => ?_)
          refine j_p (nx := 142) hJ dX6_transform_141 rfl rfl ?_
          refine j_c (nx := 143) hJ dX6_transform_142 rfl gk_iconst_1 ?_
          refine j_p (nx := 144) hJ dX6_transform_143 rfl rfl ?_
          rw [show nI (R (5 + 2 * r)).length - 1 = nI ((R (5 + 2 * r)).length - 1) from gsub (b := 1) (by omega)]
          refine j_p (nx := 146) hJ dX6_transform_144 rfl rfl ?_
          refine j_p (nx := 147) hJ dX6_transform_146 rfl rfl ?_
          rw [gsub (by omega)]
          refine j_go (tgt := 152) hJ dX6_transform_147 (by decide) ?_
          refine j_p (nx := 153) hJ dX6_transform_152 rfl rfl ?_
          rw [gadd]
          refine j_iald (j := 8 * r + ((R (5 + 2 * r)).length - 1 - i)) (nx := 154) hJ dX6_transform_153 rfl (show h1 100 = some (gia 48 ((gU A 107 f) 100)) from hP1.a 100 (by unfold gia'; omega)) rfl (by omega) (by decide) ?_
          rw [show (gU A 107 f) 100 (8 * r + ((R (5 + 2 * r)).length - 1 - i)) = ((R (5 + 2 * r)).getD ((R (5 + 2 * r)).length - 1 - i) (-1)) from hl.2.2.get (by omega)]
          refine j_p (nx := 156) hJ dX6_transform_154 rfl rfl ?_
          refine j_p (nx := 158) hJ dX6_transform_156 rfl rfl ?_
          refine j_c (nx := 160) hJ dX6_transform_158 rfl gk_bipush_10 ?_
          refine j_ic_ge (nx := 163) (tgt := 167) hJ dX6_transform_160 rfl (by decide) (fun c160 => ?_) (fun c160 => ?_)
          · refine j_c (nx := 168) hJ dX6_transform_167 rfl gk_iconst_0 ?_
            refine j_p (nx := 170) hJ dX6_transform_168 rfl rfl ?_
            refine j_p (nx := 171) hJ dX6_transform_170 rfl rfl ?_
            refine j_c (nx := 172) hJ dX6_transform_171 rfl gk_iconst_1 ?_
            refine j_ic_ne (nx := 175) (tgt := 198) hJ dX6_transform_172 rfl (by decide) (fun _ => ?_) (fun c172 => absurd c172 (by decide))
            refine j_p (nx := 199) hJ dX6_transform_198 rfl rfl ?_
            refine j_c (nx := 200) hJ dX6_transform_199 rfl gk_iconst_3 ?_
            refine j_ic_ne (nx := 203) (tgt := 208) hJ dX6_transform_200 rfl (by decide) (fun _ => ?_) (fun c200 => absurd c200 (by decide))
            refine j_p (nx := 209) hJ dX6_transform_208 rfl rfl ?_
            refine j_c (nx := 210) hJ dX6_transform_209 rfl gk_iconst_4 ?_
            refine j_ic_ne (nx := 213) (tgt := 222) hJ dX6_transform_210 rfl (by decide) (fun _ => ?_) (fun c210 => absurd c210 (by decide))
            refine j_p (nx := 223) hJ dX6_transform_222 rfl rfl ?_
            refine j_get (nx := 226) hJ dX6_transform_223 rfl fX6_37 hP1.1.1 (by rfl) ?_
            refine j_p (nx := 228) hJ dX6_transform_226 rfl rfl ?_
            refine j_p (nx := 230) hJ dX6_transform_228 rfl rfl ?_
            refine j_iast (j := i) (nx := 231) hJ dX6_transform_230 rfl (show h1 107 = some (gia 8 f) from hP1.a 107 (by unfold gia'; omega)) rfl (by omega) (by decide) ?_
            refine j_inc (nx := 234) hJ dX6_transform_231 rfl rfl (gi1 i) rfl ?_
            refine j_go (tgt := 120) hJ dX6_transform_234 (by decide) ?_
            exact ih (by omega) _ _ _ _ ((hP1.arr (a := 107) (by unfold gia'; omega) (upd f i _)).uu) (gst_up2 hf (by omega) ((grev_get (by omega)).symm))
          · refine j_c (nx := 164) hJ dX6_transform_163 rfl gk_iconst_1 ?_
            refine j_go (tgt := 168) hJ dX6_transform_164 (by decide) ?_
            refine j_p (nx := 170) hJ dX6_transform_168 rfl rfl ?_
            refine j_p (nx := 171) hJ dX6_transform_170 rfl rfl ?_
            refine j_c (nx := 172) hJ dX6_transform_171 rfl gk_iconst_1 ?_
            refine j_ic_ne (nx := 175) (tgt := 198) hJ dX6_transform_172 rfl (by decide) (fun _ => ?_) (fun c172 => absurd c172 (by decide))
            refine j_p (nx := 199) hJ dX6_transform_198 rfl rfl ?_
            refine j_c (nx := 200) hJ dX6_transform_199 rfl gk_iconst_3 ?_
            refine j_ic_ne (nx := 203) (tgt := 208) hJ dX6_transform_200 rfl (by decide) (fun _ => ?_) (fun c200 => absurd c200 (by decide))
            refine j_p (nx := 209) hJ dX6_transform_208 rfl rfl ?_
            refine j_c (nx := 210) hJ dX6_transform_209 rfl gk_iconst_4 ?_
            refine j_ic_ne (nx := 213) (tgt := 222) hJ dX6_transform_210 rfl (by decide) (fun _ => ?_) (fun c210 => absurd c210 (by decide))
            refine j_p (nx := 223) hJ dX6_transform_222 rfl rfl ?_
            refine j_get (nx := 226) hJ dX6_transform_223 rfl fX6_37 hP1.1.1 (by rfl) ?_
            refine j_p (nx := 228) hJ dX6_transform_226 rfl rfl ?_
            refine j_p (nx := 230) hJ dX6_transform_228 rfl rfl ?_
            refine j_iast (j := i) (nx := 231) hJ dX6_transform_230 rfl (show h1 107 = some (gia 8 f) from hP1.a 107 (by unfold gia'; omega)) rfl (by omega) (by decide) ?_
            refine j_inc (nx := 234) hJ dX6_transform_231 rfl rfl (gi1 i) rfl ?_
            refine j_go (tgt := 120) hJ dX6_transform_234 (by decide) ?_
            exact ih (by omega) _ _ _ _ ((hP1.arr (a := 107) (by unfold gia'; omega) (upd f i _)).uu) (gst_up2 hf (by omega) ((grev_get (by omega)).symm))
      refine j_p (nx := 67) hJ dX6_transform_66 rfl rfl ?_
      refine j_p (nx := 68) hJ dX6_transform_67 rfl rfl ?_
      refine j_c (nx := 69) hJ dX6_transform_68 rfl gk_iconst_0 ?_
      refine j_put (nx := 72) hJ dX6_transform_69 rfl fX6_105 (zX6_9 _) hP.1.1 (Nat.le_of_ble_eq_true rfl) ?_
      change J 72 _ _ (gup h 99 (gO (gU M 9 (0)) pv tv)) _
      have hP1 := hP.fld (gU M 9 (0)) pv tv
      refine j_p (nx := 73) hJ dX6_transform_72 rfl rfl ?_
      refine j_csR (nx := 76) hJ dX6_transform_73 rfl (r6_isRegister (fl := false) (d := d + 57) _) mX6_139 rfl (gle8 rfl) ?_
      rw [show gbt _ 6 = true from hx]
      refine j_if_ne (nx := 79) (tgt := 82) hJ dX6_transform_76 rfl (by decide) (fun c76 => ?_) (fun c76 => absurd c76 (by decide))
      refine j_p (nx := 83) hJ dX6_transform_82 rfl rfl ?_
      refine j_if_ge (nx := 86) (tgt := 89) hJ dX6_transform_83 rfl (by decide) (fun _ => ?_) (fun c83 => absurd c83 (by decide))
      refine j_p (nx := 90) hJ dX6_transform_89 rfl rfl ?_
      refine j_get (nx := 93) hJ dX6_transform_90 rfl fX6_19 hP1.1.1 (by rfl) ?_
      refine j_p (nx := 94) hJ dX6_transform_93 rfl rfl ?_
      refine j_iald (j := r) (nx := 95) hJ dX6_transform_94 rfl (show (gup h 99 (gO (gU M 9 0) pv tv)) 101 = some (gia 6 (A 101)) from hP1.a 101 (by unfold gia'; omega)) rfl (by omega) (by decide) ?_
      rw [hl.1]
      refine j_p (nx := 96) hJ dX6_transform_95 rfl rfl ?_
      refine j_p (nx := 97) hJ dX6_transform_96 rfl rfl ?_
      refine j_p (nx := 98) hJ dX6_transform_97 rfl rfl ?_
      refine j_c (nx := 99) hJ dX6_transform_98 rfl gk_iconst_2 ?_
      refine j_ic_ne (nx := 102) (tgt := 113) hJ dX6_transform_99 rfl (by decide) (fun _ => ?_) (fun c99 => absurd c99 (by decide))
      refine j_p (nx := 114) hJ dX6_transform_113 rfl rfl ?_
      refine j_put (nx := 117) hJ dX6_transform_114 rfl fX6_112 (zX6_11 _) hP1.1.1 (Nat.le_of_ble_eq_true rfl) ?_
      change J 117 _ _ (gup (gup h 99 (gO (gU M 9 0) pv tv)) 99 (gO (gU (gU M 9 0) 11 (nI (R (5 + 2 * r)).length)) pv tv)) _
      have hP2 := hP1.fld (gU (gU M 9 0) 11 (nI (R (5 + 2 * r)).length)) pv tv
      refine j_c (nx := 118) hJ dX6_transform_117 rfl gk_iconst_0 ?_
      refine j_p (nx := 120) hJ dX6_transform_118 rfl rfl ?_
      exact loop 0 (Nat.zero_le _) _ (A 107) none none (hP2.rw (gU_self A 107) (fun _ => rfl) (fun _ => rfl)) (fun j v hv => by cases hv)
    · refine j_p (nx := 67) hJ dX6_transform_66 rfl rfl ?_
      refine j_p (nx := 68) hJ dX6_transform_67 rfl rfl ?_
      refine j_c (nx := 69) hJ dX6_transform_68 rfl gk_iconst_0 ?_
      refine j_put (nx := 72) hJ dX6_transform_69 rfl fX6_105 (zX6_9 _) hP.1.1 (Nat.le_of_ble_eq_true rfl) ?_
      change J 72 _ _ (gup h 99 (gO (gU M 9 (0)) pv tv)) _
      have hP1 := hP.fld (gU M 9 (0)) pv tv
      refine j_p (nx := 73) hJ dX6_transform_72 rfl rfl ?_
      refine j_csR (nx := 76) hJ dX6_transform_73 rfl (r6_isRegister (fl := false) (d := d + 57) _) mX6_139 rfl (gle8 rfl) ?_
      rw [show gbt _ 6 = false from Bool.eq_false_iff.mpr hx]
      refine j_if_ne (nx := 79) (tgt := 82) hJ dX6_transform_76 rfl (by decide) (fun c76 => absurd c76 (by decide)) (fun c76 => ?_)
      refine j_c (nx := 81) hJ dX6_transform_79 rfl gk_bipush_m2 ?_
      have e : s_transform R N x = (-2, gU R 73 [], N) := if_neg hx
      exact j_iret hJ dX6_transform_81 ⟨by rw [e], by rw [e]; exact ⟨_, _, _, _, _, hP1, hG.inp (l := []) (by show 0 ≤ 20; omega) rfl (fun i v hv => by cases hv) ⟨rfl, rfl, rfl, rfl, rfl⟩ (fun a _ _ => rfl)⟩⟩
