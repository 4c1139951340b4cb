set_option maxHeartbeats 4000000 in
theorem r6_copyElements {d : Nat} {h0 h : GH} {R : Nat → List Int32} {N : Nat → Int32} (hS : gRS h0 h R N) (hI : gInv R N) (x i y j c : Int32) : gN false (d + 60) yX6_copyElements [.ref 99, .int x, .int i, .int y, .int j, .int c] h (fun o h' => o = some (.int (s_copyElements R N x i y j c).1) ∧ gRS h0 h' (s_copyElements R N x i y j c).2.1 (s_copyElements R N x i y j c).2.2) := by
  obtain ⟨A, E, M, pv, tv, hP, hG⟩ := hS
  have g0 := hG.1.1
  have g9 := hG.1.2.2.1
  obtain ⟨⟨k, ss, hk1, hk3, hss1, hss6, hpt, him, hsm⟩, hI2, hI3, hI4, hI5⟩ := hI
  refine gN.of MX6_copyElements (Nat.le_of_ble_eq_true rfl) (fun J n hJ => ?_)
  show J 0 [some (.ref 99), some (.int x), some (.int i), some (.int y), some (.int j), some (.int c), none] [] h (n, 0, 0, false)
  by_cases hx : gbt x 4 = true
  · obtain ⟨r, rfl, hr⟩ := gbt_spec hx
    have ege := ge_nI (r := r) (by omega)
    have egt := gt_nI (r := r) (by omega)
    have hyr := hG.2.2.2.2.1 r hr
    have htr := gty (hI5 r hr).1
    by_cases hy : gbt y 4 = true
    · obtain ⟨s, rfl, hs⟩ := gbt_spec hy
      have ege2 := ge_nI (r := s) (by omega)
      have egt2 := gt_nI (r := s) (by omega)
      have hys := hG.2.2.2.2.1 s hs
      have hts := gty (hI5 s hs).1
      by_cases hrg : gRng (R (88 + 3 * r)).length i c = true ∧ gRng (R (88 + 3 * s)).length j c = true
      · refine j_p (nx := 1) hJ dX6_copyElements_0 rfl rfl ?_
        refine j_csR (nx := 4) hJ dX6_copyElements_1 rfl (r6_isSlot (fl := false) (d := d + 57) _) mX6_273 rfl (gle8 rfl) ?_
        rw [show gbt _ 4 = true from hx]
        refine j_if_eq (nx := 7) (tgt := 14) hJ dX6_copyElements_4 rfl (by decide) (fun c4 => absurd c4 (by decide)) (fun c4 => ?_)
        refine j_p (nx := 8) hJ dX6_copyElements_7 rfl rfl ?_
        refine j_csR (nx := 11) hJ dX6_copyElements_8 rfl (r6_isSlot (fl := false) (d := d + 57) _) mX6_273 rfl (gle8 rfl) ?_
        rw [show gbt _ 4 = true from hy]
        refine j_if_ne (nx := 14) (tgt := 16) hJ dX6_copyElements_11 rfl (by decide) (fun c11 => ?_) (fun c11 => absurd c11 (by decide))
        refine j_p (nx := 17) hJ dX6_copyElements_16 rfl rfl ?_
        refine j_get (nx := 20) hJ dX6_copyElements_17 rfl fX6_64 hP.1.1 (by rfl) ?_
        refine j_p (nx := 21) hJ dX6_copyElements_20 rfl rfl ?_
        refine j_iald (j := r) (nx := 22) hJ dX6_copyElements_21 rfl (show h 116 = some (gia 4 (A 116)) from hP.a 116 (by unfold gia'; omega)) rfl (by omega) (by decide) ?_
        rw [hyr.1]
        refine j_if_lt (nx := 25) (tgt := 34) hJ dX6_copyElements_22 rfl (by decide) (fun c22 => ?_) (fun c22 => ?_)
        · refine j_c (nx := 36) hJ dX6_copyElements_34 rfl gk_bipush_m11 ?_
          have e : s_copyElements R N (nI r) i (nI s) j c = (-11, R, N) := by unfold s_copyElements; rw [if_pos ⟨hx, hy⟩, egt, egt2, if_pos (by first | exact Or.inl (Classical.not_not.mp (fun q => absurd (htr.mpr q) (by rw [Int32.lt_iff_toInt_lt] at c22; rw [Int32.le_iff_toInt_le]; omega))) | exact Or.inr (Classical.not_not.mp (fun q => c31 (hts.mpr q))))]
          exact j_iret hJ dX6_copyElements_36 ⟨by rw [e], by rw [e]; exact ⟨A, E, M, pv, tv, hP, hG⟩⟩
        · refine j_p (nx := 26) hJ dX6_copyElements_25 rfl rfl ?_
          refine j_get (nx := 29) hJ dX6_copyElements_26 rfl fX6_64 hP.1.1 (by rfl) ?_
          refine j_p (nx := 30) hJ dX6_copyElements_29 rfl rfl ?_
          refine j_iald (j := s) (nx := 31) hJ dX6_copyElements_30 rfl (show h 116 = some (gia 4 (A 116)) from hP.a 116 (by unfold gia'; omega)) rfl (by omega) (by decide) ?_
          rw [hys.1]
          refine j_if_ge (nx := 34) (tgt := 37) hJ dX6_copyElements_31 rfl (by decide) (fun c31 => ?_) (fun c31 => ?_)
          · have hnr : ¬ (N (87 + 3 * r)) = -1 := htr.mp (by rw [Int32.lt_iff_toInt_lt] at c22; rw [Int32.le_iff_toInt_le]; omega)
            have hns : ¬ (N (87 + 3 * s)) = -1 := hts.mp c31
            obtain ⟨y1, y2, y3⟩ := hyr.2 hnr
            obtain ⟨z1, z2, z3⟩ := hys.2 hns
            refine j_p (nx := 38) hJ dX6_copyElements_37 rfl rfl ?_
            refine j_get (nx := 41) hJ dX6_copyElements_38 rfl fX6_64 hP.1.1 (by rfl) ?_
            refine j_p (nx := 42) hJ dX6_copyElements_41 rfl rfl ?_
            refine j_iald (j := r) (nx := 43) hJ dX6_copyElements_42 rfl (show h 116 = some (gia 4 (A 116)) from hP.a 116 (by unfold gia'; omega)) rfl (by omega) (by decide) ?_
            rw [hyr.1]
            refine j_p (nx := 44) hJ dX6_copyElements_43 rfl rfl ?_
            refine j_get (nx := 47) hJ dX6_copyElements_44 rfl fX6_64 hP.1.1 (by rfl) ?_
            refine j_p (nx := 48) hJ dX6_copyElements_47 rfl rfl ?_
            refine j_iald (j := s) (nx := 49) hJ dX6_copyElements_48 rfl (show h 116 = some (gia 4 (A 116)) from hP.a 116 (by unfold gia'; omega)) rfl (by omega) (by decide) ?_
            rw [hys.1]
            refine j_ic_eq (nx := 52) (tgt := 55) hJ dX6_copyElements_49 rfl (by decide) (fun c49 => ?_) (fun c49 => ?_)
            · obtain ⟨i1, c1, rfl, rfl, hic⟩ := gRng_spec hrg.1
              obtain ⟨j1, c2, rfl, hc2, hjc⟩ := gRng_spec hrg.2
              have hc12 : c1 = c2 := (gneq (by omega) (by omega)).mp hc2
              subst hc12
              refine j_p (nx := 56) hJ dX6_copyElements_55 rfl rfl ?_
              refine j_if_lt (nx := 59) (tgt := 96) hJ dX6_copyElements_56 rfl (by decide) (fun c56 => absurd c56 (by rw [gcz0, nI_toInt (by omega)]; omega)) (fun c56 => ?_)
              refine j_p (nx := 61) hJ dX6_copyElements_59 rfl rfl ?_
              refine j_if_lt (nx := 64) (tgt := 96) hJ dX6_copyElements_61 rfl (by decide) (fun c61 => absurd c61 (by rw [gcz0, nI_toInt (by omega)]; omega)) (fun c61 => ?_)
              refine j_p (nx := 66) hJ dX6_copyElements_64 rfl rfl ?_
              refine j_if_lt (nx := 69) (tgt := 96) hJ dX6_copyElements_66 rfl (by decide) (fun c66 => absurd c66 (by rw [gcz0, nI_toInt (by omega)]; omega)) (fun c66 => ?_)
              refine j_p (nx := 70) hJ dX6_copyElements_69 rfl rfl ?_
              refine j_p (nx := 71) hJ dX6_copyElements_70 rfl rfl ?_
              refine j_get (nx := 74) hJ dX6_copyElements_71 rfl fX6_67 hP.1.1 (by rfl) ?_
              refine j_p (nx := 75) hJ dX6_copyElements_74 rfl rfl ?_
              refine j_iald (j := r) (nx := 76) hJ dX6_copyElements_75 rfl (show h 117 = some (gia 4 (A 117)) from hP.a 117 (by unfold gia'; omega)) rfl (by omega) (by decide) ?_
              rw [y1]
              refine j_p (nx := 78) hJ dX6_copyElements_76 rfl rfl ?_
              refine j_p (nx := 79) hJ dX6_copyElements_78 rfl rfl ?_
              refine j_ic_gt (nx := 82) (tgt := 96) hJ dX6_copyElements_79 rfl (by decide) (fun c79 => absurd c79 (by rw [Int32.lt_iff_toInt_lt, gsl2 (by omega) (by omega), nI_toInt (by omega)]; omega)) (fun c79 => ?_)
              refine j_p (nx := 84) hJ dX6_copyElements_82 rfl rfl ?_
              refine j_p (nx := 85) hJ dX6_copyElements_84 rfl rfl ?_
              refine j_get (nx := 88) hJ dX6_copyElements_85 rfl fX6_67 hP.1.1 (by rfl) ?_
              refine j_p (nx := 89) hJ dX6_copyElements_88 rfl rfl ?_
              refine j_iald (j := s) (nx := 90) hJ dX6_copyElements_89 rfl (show h 117 = some (gia 4 (A 117)) from hP.a 117 (by unfold gia'; omega)) rfl (by omega) (by decide) ?_
              rw [z1]
              refine j_p (nx := 92) hJ dX6_copyElements_90 rfl rfl ?_
              refine j_p (nx := 93) hJ dX6_copyElements_92 rfl rfl ?_
              refine j_ic_le (nx := 96) (tgt := 99) hJ dX6_copyElements_93 rfl (by decide) (fun c93 => ?_) (fun c93 => absurd c93 (fun q => q (by rw [Int32.le_iff_toInt_le, gsl2 (by omega) (by omega), nI_toInt (by omega)]; omega)))
              refine j_c (nx := 100) hJ dX6_copyElements_99 rfl gk_iconst_0 ?_
              refine j_p (nx := 102) hJ dX6_copyElements_100 rfl rfl ?_
              have loop2 : ∀ q, q ≤ c1 → ∀ (h1 : GH) (E1 : Nat → Nat → Int64), gP h0 h1 A E1 M pv tv → (∀ u, u < c1 → E1 119 u = E 118 (40 * r + i1 + u)) → (∀ u, u < q → E1 118 (40 * s + j1 + u) = E 118 (40 * r + i1 + u)) → (∀ w, (w < 40 * s + j1 ∨ 40 * s + j1 + c1 ≤ w) → E1 118 w = E 118 w) → J 139 [some (.ref 99), some (.int (nI r)), some (.int (nI i1)), some (.int (nI s)), some (.int (nI j1)), some (.int (nI c1)), some (.int (nI q))] [] h1 (n, 0, 0, false) := by
                refine gloop _ _ (fun q hq ih h1 E1 hP1 hca hdn hot => ?_)
                refine j_p (nx := 141) hJ dX6_copyElements_139 rfl rfl ?_
                refine j_p (nx := 143) hJ dX6_copyElements_141 rfl rfl ?_
                refine j_ic_ge (nx := 146) (tgt := 174) hJ dX6_copyElements_143 rfl (by decide) (fun c143 => ?_) (fun c143 => ?_)
                · refine j_p (nx := 176) hJ dX6_copyElements_174 rfl rfl ?_
                  rw [gnle (by omega) (by omega)] at c143
                  have e0 : q = c1 := by omega
                  subst e0
                  have e : s_copyElements R N (nI r) (nI i1) (nI s) (nI j1) (nI q) = (nI q, gU R (88 + 3 * s) (gcpl (R (88 + 3 * r)) (R (88 + 3 * s)) i1 j1 q), N) := by unfold s_copyElements; rw [if_pos ⟨hx, hy⟩, egt, egt2, if_neg (fun q => q.elim hnr hns), if_pos c49, ege, ege2, if_pos hrg, nI_toInt (by omega), nI_toInt (by omega), nI_toInt (by omega)]; rfl
                  refine j_iret hJ dX6_copyElements_176 ⟨by rw [e], ?_⟩
                  rw [e]
                  have hlen : (gcpl (R (88 + 3 * r)) (R (88 + 3 * s)) i1 j1 q).length = (R (88 + 3 * s)).length := by unfold gcpl; simp
                  refine ⟨_, _, _, _, _, hP1, (hG.slt (A' := A) (E' := E1) hs (T := (N (87 + 3 * s))) (l := gcpl (R (88 + 3 * r)) (R (88 + 3 * s)) i1 j1 q) (fun k hk => ?_) (fun k hk hk2 => rfl) (fun _ => ⟨by rw [hlen]; exact z1, by rw [hlen]; exact z2, fun j2 v2 hv2 => ?_⟩) (fun w hw => hot w (by omega)) (fun a _ _ _ => rfl)).rwN (fun a => (gU_self N (87 + 3 * s) a).symm)⟩
                  · by_cases e2 : k = s
                    · rw [if_pos e2, e2]; exact hys.1
                    · rw [if_neg e2]
                  · have hj2 := (List.getElem?_eq_some_iff.mp hv2).1
                    rw [hlen] at hj2
                    unfold gcpl at hv2
                    rw [List.getElem?_map, List.getElem?_range hj2] at hv2
                    simp only [Option.map_some, Option.some.injEq] at hv2
                    by_cases e2 : j1 ≤ j2 ∧ j2 < j1 + q
                    · rw [if_pos e2] at hv2
                      have h3 := hdn (j2 - j1) (by omega)
                      rw [show 40 * s + j1 + (j2 - j1) = 40 * s + j2 by omega, show 40 * r + i1 + (j2 - j1) = 40 * r + (i1 + (j2 - j1)) by omega] at h3
                      rw [h3, ← hv2, List.getD_eq_getElem?_getD, List.getElem?_eq_getElem (by omega)]
                      exact y3 _ _ (List.getElem?_eq_getElem (by omega))
                    · rw [if_neg e2] at hv2
                      rw [hot (40 * s + j2) (by omega), ← hv2, List.getD_eq_getElem?_getD, List.getElem?_eq_getElem hj2]
                      exact z3 _ _ (List.getElem?_eq_getElem hj2)
                · rw [gnle (by omega) (by omega)] at c143
                  have hil : q < c1 := by omega
                  refine j_p (nx := 147) hJ dX6_copyElements_146 rfl rfl ?_
                  refine j_get (nx := 150) hJ dX6_copyElements_147 rfl fX6_70 hP1.1.1 (by rfl) ?_
                  refine j_c (nx := 152) hJ dX6_copyElements_150 rfl gk_bipush_40 ?_
                  refine j_p (nx := 153) hJ dX6_copyElements_152 rfl rfl ?_
                  refine j_p (nx := 154) hJ dX6_copyElements_153 rfl rfl ?_
                  rw [show (40 : Int32) = nI 40 from rfl, gmul]
                  refine j_p (nx := 156) hJ dX6_copyElements_154 rfl rfl ?_
                  refine j_p (nx := 157) hJ dX6_copyElements_156 rfl rfl ?_
                  rw [gadd]
                  refine j_p (nx := 159) hJ dX6_copyElements_157 rfl rfl ?_
                  refine j_p (nx := 160) hJ dX6_copyElements_159 rfl rfl ?_
                  rw [gadd]
                  refine j_p (nx := 161) hJ dX6_copyElements_160 rfl rfl ?_
                  refine j_get (nx := 164) hJ dX6_copyElements_161 rfl fX6_74 hP1.1.1 (by rfl) ?_
                  refine j_p (nx := 166) hJ dX6_copyElements_164 rfl rfl ?_
                  refine j_lald (j := q) (nx := 167) hJ dX6_copyElements_166 rfl hP1.1.2.2.2 rfl (by omega) (by decide) ?_
                  rw [hca q hil]
                  refine j_last (j := 40 * s + j1 + q) (nx := 168) hJ dX6_copyElements_167 rfl hP1.1.2.2.1 rfl (by omega) (by decide) ?_
                  have hP2 := hP1.el (vp_updL (E1 118) (40 * s + j1 + q) (E 118 (40 * r + i1 + q)))
                  refine j_inc (nx := 171) hJ dX6_copyElements_168 rfl rfl (gi1 q) rfl ?_
                  refine j_go (tgt := 139) hJ dX6_copyElements_171 (by decide) ?_
                  refine ih hil _ _ hP2 hca (fun u hu => ?_) (fun w hw => ?_)
                  · rw [gU_s]
                    unfold vp_updL
                    by_cases e : u = q
                    · rw [if_pos (by omega), e]
                    · rw [if_neg (by omega)]; exact hdn u (by omega)
                  · rw [gU_s]
                    unfold vp_updL
                    rw [if_neg (by omega)]; exact hot w (by omega)
              have loop1 : ∀ q, q ≤ c1 → ∀ (h1 : GH) (E1 : Nat → Nat → Int64), gP h0 h1 A E1 M pv tv → E1 118 = E 118 → (∀ u, u < q → E1 119 u = E 118 (40 * r + i1 + u)) → J 102 [some (.ref 99), some (.int (nI r)), some (.int (nI i1)), some (.int (nI s)), some (.int (nI j1)), some (.int (nI c1)), some (.int (nI q))] [] h1 (n, 0, 0, false) := by
                refine gloop _ _ (fun q hq ih h1 E1 hP1 hE1 hca => ?_)
                refine j_p (nx := 104) hJ dX6_copyElements_102 rfl rfl ?_
                refine j_p (nx := 106) hJ dX6_copyElements_104 rfl rfl ?_
                refine j_ic_ge (nx := 109) (tgt := 136) hJ dX6_copyElements_106 rfl (by decide) (fun c106 => ?_) (fun c106 => ?_)
                · refine j_c (nx := 137) hJ dX6_copyElements_136 rfl gk_iconst_0 ?_
                  refine j_p (nx := 139) hJ dX6_copyElements_137 rfl rfl ?_
                  rw [gnle (by omega) (by omega)] at c106
                  exact loop2 0 (Nat.zero_le _) h1 E1 hP1 (fun u hu => hca u (by omega)) (fun u hu => by omega) (fun w _ => by rw [hE1])
                · rw [gnle (by omega) (by omega)] at c106
                  have hil : q < c1 := by omega
                  refine j_p (nx := 110) hJ dX6_copyElements_109 rfl rfl ?_
                  refine j_get (nx := 113) hJ dX6_copyElements_110 rfl fX6_74 hP1.1.1 (by rfl) ?_
                  refine j_p (nx := 115) hJ dX6_copyElements_113 rfl rfl ?_
                  refine j_p (nx := 116) hJ dX6_copyElements_115 rfl rfl ?_
                  refine j_get (nx := 119) hJ dX6_copyElements_116 rfl fX6_70 hP1.1.1 (by rfl) ?_
                  refine j_c (nx := 121) hJ dX6_copyElements_119 rfl gk_bipush_40 ?_
                  refine j_p (nx := 122) hJ dX6_copyElements_121 rfl rfl ?_
                  refine j_p (nx := 123) hJ dX6_copyElements_122 rfl rfl ?_
                  rw [show (40 : Int32) = nI 40 from rfl, gmul]
                  refine j_p (nx := 124) hJ dX6_copyElements_123 rfl rfl ?_
                  refine j_p (nx := 125) hJ dX6_copyElements_124 rfl rfl ?_
                  rw [gadd]
                  refine j_p (nx := 127) hJ dX6_copyElements_125 rfl rfl ?_
                  refine j_p (nx := 128) hJ dX6_copyElements_127 rfl rfl ?_
                  rw [gadd]
                  refine j_lald (j := 40 * r + i1 + q) (nx := 129) hJ dX6_copyElements_128 rfl hP1.1.2.2.1 rfl (by omega) (by decide) ?_
                  refine j_last (j := q) (nx := 130) hJ dX6_copyElements_129 rfl hP1.1.2.2.2 rfl (by omega) (by decide) ?_
                  have hP2 := hP1.ca (vp_updL (E1 119) q (E1 118 (40 * r + i1 + q)))
                  refine j_inc (nx := 133) hJ dX6_copyElements_130 rfl rfl (gi1 q) rfl ?_
                  refine j_go (tgt := 102) hJ dX6_copyElements_133 (by decide) ?_
                  refine ih hil _ _ hP2 hE1 (fun u hu => ?_)
                  rw [gU_s]
                  unfold vp_updL
                  by_cases e : u = q
                  · rw [if_pos e, e, hE1]
                  · rw [if_neg e]; exact hca u (by omega)
              exact loop1 0 (Nat.zero_le _) h E hP rfl (fun u hu => by omega)
            · refine j_c (nx := 54) hJ dX6_copyElements_52 rfl gk_bipush_m12 ?_
              have e : s_copyElements R N (nI r) i (nI s) j c = (-12, R, N) := by unfold s_copyElements; rw [if_pos ⟨hx, hy⟩, egt, egt2, if_neg (fun q => q.elim hnr hns), if_neg c49]
              exact j_iret hJ dX6_copyElements_54 ⟨by rw [e], by rw [e]; exact ⟨A, E, M, pv, tv, hP, hG⟩⟩
          · refine j_c (nx := 36) hJ dX6_copyElements_34 rfl gk_bipush_m11 ?_
            have e : s_copyElements R N (nI r) i (nI s) j c = (-11, R, N) := by unfold s_copyElements; rw [if_pos ⟨hx, hy⟩, egt, egt2, if_pos (by first | exact Or.inl (Classical.not_not.mp (fun q => absurd (htr.mpr q) (by rw [Int32.lt_iff_toInt_lt] at c22; rw [Int32.le_iff_toInt_le]; omega))) | exact Or.inr (Classical.not_not.mp (fun q => c31 (hts.mpr q))))]
            exact j_iret hJ dX6_copyElements_36 ⟨by rw [e], by rw [e]; exact ⟨A, E, M, pv, tv, hP, hG⟩⟩
      · refine j_p (nx := 1) hJ dX6_copyElements_0 rfl rfl ?_
        refine j_csR (nx := 4) hJ dX6_copyElements_1 rfl (r6_isSlot (fl := false) (d := d + 57) _) mX6_273 rfl (gle8 rfl) ?_
        rw [show gbt _ 4 = true from hx]
        refine j_if_eq (nx := 7) (tgt := 14) hJ dX6_copyElements_4 rfl (by decide) (fun c4 => absurd c4 (by decide)) (fun c4 => ?_)
        refine j_p (nx := 8) hJ dX6_copyElements_7 rfl rfl ?_
        refine j_csR (nx := 11) hJ dX6_copyElements_8 rfl (r6_isSlot (fl := false) (d := d + 57) _) mX6_273 rfl (gle8 rfl) ?_
        rw [show gbt _ 4 = true from hy]
        refine j_if_ne (nx := 14) (tgt := 16) hJ dX6_copyElements_11 rfl (by decide) (fun c11 => ?_) (fun c11 => absurd c11 (by decide))
        refine j_p (nx := 17) hJ dX6_copyElements_16 rfl rfl ?_
        refine j_get (nx := 20) hJ dX6_copyElements_17 rfl fX6_64 hP.1.1 (by rfl) ?_
        refine j_p (nx := 21) hJ dX6_copyElements_20 rfl rfl ?_
        refine j_iald (j := r) (nx := 22) hJ dX6_copyElements_21 rfl (show h 116 = some (gia 4 (A 116)) from hP.a 116 (by unfold gia'; omega)) rfl (by omega) (by decide) ?_
        rw [hyr.1]
        refine j_if_lt (nx := 25) (tgt := 34) hJ dX6_copyElements_22 rfl (by decide) (fun c22 => ?_) (fun c22 => ?_)
        · refine j_c (nx := 36) hJ dX6_copyElements_34 rfl gk_bipush_m11 ?_
          have e : s_copyElements R N (nI r) i (nI s) j c = (-11, R, N) := by unfold s_copyElements; rw [if_pos ⟨hx, hy⟩, egt, egt2, if_pos (by first | exact Or.inl (Classical.not_not.mp (fun q => absurd (htr.mpr q) (by rw [Int32.lt_iff_toInt_lt] at c22; rw [Int32.le_iff_toInt_le]; omega))) | exact Or.inr (Classical.not_not.mp (fun q => c31 (hts.mpr q))))]
          exact j_iret hJ dX6_copyElements_36 ⟨by rw [e], by rw [e]; exact ⟨A, E, M, pv, tv, hP, hG⟩⟩
        · refine j_p (nx := 26) hJ dX6_copyElements_25 rfl rfl ?_
          refine j_get (nx := 29) hJ dX6_copyElements_26 rfl fX6_64 hP.1.1 (by rfl) ?_
          refine j_p (nx := 30) hJ dX6_copyElements_29 rfl rfl ?_
          refine j_iald (j := s) (nx := 31) hJ dX6_copyElements_30 rfl (show h 116 = some (gia 4 (A 116)) from hP.a 116 (by unfold gia'; omega)) rfl (by omega) (by decide) ?_
          rw [hys.1]
          refine j_if_ge (nx := 34) (tgt := 37) hJ dX6_copyElements_31 rfl (by decide) (fun c31 => ?_) (fun c31 => ?_)
          · have hnr : ¬ (N (87 + 3 * r)) = -1 := htr.mp (by rw [Int32.lt_iff_toInt_lt] at c22; rw [Int32.le_iff_toInt_le]; omega)
            have hns : ¬ (N (87 + 3 * s)) = -1 := hts.mp c31
            obtain ⟨y1, y2, y3⟩ := hyr.2 hnr
            obtain ⟨z1, z2, z3⟩ := hys.2 hns
            refine j_p (nx := 38) hJ dX6_copyElements_37 rfl rfl ?_
            refine j_get (nx := 41) hJ dX6_copyElements_38 rfl fX6_64 hP.1.1 (by rfl) ?_
            refine j_p (nx := 42) hJ dX6_copyElements_41 rfl rfl ?_
            refine j_iald (j := r) (nx := 43) hJ dX6_copyElements_42 rfl (show h 116 = some (gia 4 (A 116)) from hP.a 116 (by unfold gia'; omega)) rfl (by omega) (by decide) ?_
            rw [hyr.1]
            refine j_p (nx := 44) hJ dX6_copyElements_43 rfl rfl ?_
            refine j_get (nx := 47) hJ dX6_copyElements_44 rfl fX6_64 hP.1.1 (by rfl) ?_
            refine j_p (nx := 48) hJ dX6_copyElements_47 rfl rfl ?_
            refine j_iald (j := s) (nx := 49) hJ dX6_copyElements_48 rfl (show h 116 = some (gia 4 (A 116)) from hP.a 116 (by unfold gia'; omega)) rfl (by omega) (by decide) ?_
            rw [hys.1]
            refine j_ic_eq (nx := 52) (tgt := 55) hJ dX6_copyElements_49 rfl (by decide) (fun c49 => ?_) (fun c49 => ?_)
            · refine j_p (nx := 56) hJ dX6_copyElements_55 rfl rfl ?_
              refine j_if_lt (nx := 59) (tgt := 96) hJ dX6_copyElements_56 rfl (by decide) (fun c56 => ?_) (fun c56 => ?_)
              · refine j_c (nx := 98) hJ dX6_copyElements_96 rfl gk_bipush_m13 ?_
                have e : s_copyElements R N (nI r) i (nI s) j c = (-13, R, N) := by unfold s_copyElements; rw [if_pos ⟨hx, hy⟩, egt, egt2, if_neg (fun q => q.elim hnr hns), if_pos c49, ege, ege2, if_neg hrg]
                exact j_iret hJ dX6_copyElements_98 ⟨by rw [e], by rw [e]; exact ⟨A, E, M, pv, tv, hP, hG⟩⟩
              · refine j_p (nx := 61) hJ dX6_copyElements_59 rfl rfl ?_
                refine j_if_lt (nx := 64) (tgt := 96) hJ dX6_copyElements_61 rfl (by decide) (fun c61 => ?_) (fun c61 => ?_)
                · refine j_c (nx := 98) hJ dX6_copyElements_96 rfl gk_bipush_m13 ?_
                  have e : s_copyElements R N (nI r) i (nI s) j c = (-13, R, N) := by unfold s_copyElements; rw [if_pos ⟨hx, hy⟩, egt, egt2, if_neg (fun q => q.elim hnr hns), if_pos c49, ege, ege2, if_neg hrg]
                  exact j_iret hJ dX6_copyElements_98 ⟨by rw [e], by rw [e]; exact ⟨A, E, M, pv, tv, hP, hG⟩⟩
                · refine j_p (nx := 66) hJ dX6_copyElements_64 rfl rfl ?_
                  refine j_if_lt (nx := 69) (tgt := 96) hJ dX6_copyElements_66 rfl (by decide) (fun c66 => ?_) (fun c66 => ?_)
                  · refine j_c (nx := 98) hJ dX6_copyElements_96 rfl gk_bipush_m13 ?_
                    have e : s_copyElements R N (nI r) i (nI s) j c = (-13, R, N) := by unfold s_copyElements; rw [if_pos ⟨hx, hy⟩, egt, egt2, if_neg (fun q => q.elim hnr hns), if_pos c49, ege, ege2, if_neg hrg]
                    exact j_iret hJ dX6_copyElements_98 ⟨by rw [e], by rw [e]; exact ⟨A, E, M, pv, tv, hP, hG⟩⟩
                  · refine j_p (nx := 70) hJ dX6_copyElements_69 rfl rfl ?_
                    refine j_p (nx := 71) hJ dX6_copyElements_70 rfl rfl ?_
                    refine j_get (nx := 74) hJ dX6_copyElements_71 rfl fX6_67 hP.1.1 (by rfl) ?_
                    refine j_p (nx := 75) hJ dX6_copyElements_74 rfl rfl ?_
                    refine j_iald (j := r) (nx := 76) hJ dX6_copyElements_75 rfl (show h 117 = some (gia 4 (A 117)) from hP.a 117 (by unfold gia'; omega)) rfl (by omega) (by decide) ?_
                    rw [y1]
                    refine j_p (nx := 78) hJ dX6_copyElements_76 rfl rfl ?_
                    refine j_p (nx := 79) hJ dX6_copyElements_78 rfl rfl ?_
                    refine j_ic_gt (nx := 82) (tgt := 96) hJ dX6_copyElements_79 rfl (by decide) (fun c79 => ?_) (fun c79 => ?_)
                    · refine j_c (nx := 98) hJ dX6_copyElements_96 rfl gk_bipush_m13 ?_
                      have e : s_copyElements R N (nI r) i (nI s) j c = (-13, R, N) := by unfold s_copyElements; rw [if_pos ⟨hx, hy⟩, egt, egt2, if_neg (fun q => q.elim hnr hns), if_pos c49, ege, ege2, if_neg hrg]
                      exact j_iret hJ dX6_copyElements_98 ⟨by rw [e], by rw [e]; exact ⟨A, E, M, pv, tv, hP, hG⟩⟩
                    · refine j_p (nx := 84) hJ dX6_copyElements_82 rfl rfl ?_
                      refine j_p (nx := 85) hJ dX6_copyElements_84 rfl rfl ?_
                      refine j_get (nx := 88) hJ dX6_copyElements_85 rfl fX6_67 hP.1.1 (by rfl) ?_
                      refine j_p (nx := 89) hJ dX6_copyElements_88 rfl rfl ?_
                      refine j_iald (j := s) (nx := 90) hJ dX6_copyElements_89 rfl (show h 117 = some (gia 4 (A 117)) from hP.a 117 (by unfold gia'; omega)) rfl (by omega) (by decide) ?_
                      rw [z1]
                      refine j_p (nx := 92) hJ dX6_copyElements_90 rfl rfl ?_
                      refine j_p (nx := 93) hJ dX6_copyElements_92 rfl rfl ?_
                      refine j_ic_le (nx := 96) (tgt := 99) hJ dX6_copyElements_93 rfl (by decide) (fun c93 => ?_) (fun c93 => ?_)
                      · refine j_c (nx := 100) hJ dX6_copyElements_99 rfl gk_iconst_0 ?_
                        refine j_p (nx := 102) hJ dX6_copyElements_100 rfl rfl ?_
                        have hsb : ∀ n9 : Nat, n9 ≤ 40 → 0 ≤ c.toInt → (nI n9 - c).toInt = (n9 : Int) - c.toInt := fun n9 h9 hc => by have hb := c.toInt_lt; simp at hb; rw [Int32.toInt_sub, nI_toInt (by omega), Int.bmod_eq_of_le] <;> (try simp) <;> omega
                        first | rw [gcz0] at c56 | skip
                        first | rw [gcz0] at c61 | skip
                        first | rw [gcz0] at c66 | skip
                        first | rw [Int32.lt_iff_toInt_lt, hsb _ y2 (by omega)] at c79 | skip
                        first | rw [Int32.le_iff_toInt_le, hsb _ z2 (by omega)] at c93 | skip
                        exact absurd ⟨decide_eq_true ⟨by omega, by omega, by omega⟩, decide_eq_true ⟨by omega, by omega, by omega⟩⟩ hrg
                      · refine j_c (nx := 98) hJ dX6_copyElements_96 rfl gk_bipush_m13 ?_
                        have e : s_copyElements R N (nI r) i (nI s) j c = (-13, R, N) := by unfold s_copyElements; rw [if_pos ⟨hx, hy⟩, egt, egt2, if_neg (fun q => q.elim hnr hns), if_pos c49, ege, ege2, if_neg hrg]
                        exact j_iret hJ dX6_copyElements_98 ⟨by rw [e], by rw [e]; exact ⟨A, E, M, pv, tv, hP, hG⟩⟩
            · refine j_c (nx := 54) hJ dX6_copyElements_52 rfl gk_bipush_m12 ?_
              have e : s_copyElements R N (nI r) i (nI s) j c = (-12, R, N) := by unfold s_copyElements; rw [if_pos ⟨hx, hy⟩, egt, egt2, if_neg (fun q => q.elim hnr hns), if_neg c49]
              exact j_iret hJ dX6_copyElements_54 ⟨by rw [e], by rw [e]; exact ⟨A, E, M, pv, tv, hP, hG⟩⟩
          · refine j_c (nx := 36) hJ dX6_copyElements_34 rfl gk_bipush_m11 ?_
            have e : s_copyElements R N (nI r) i (nI s) j c = (-11, R, N) := by unfold s_copyElements; rw [if_pos ⟨hx, hy⟩, egt, egt2, if_pos (by first | exact Or.inl (Classical.not_not.mp (fun q => absurd (htr.mpr q) (by rw [Int32.lt_iff_toInt_lt] at c22; rw [Int32.le_iff_toInt_le]; omega))) | exact Or.inr (Classical.not_not.mp (fun q => c31 (hts.mpr q))))]
            exact j_iret hJ dX6_copyElements_36 ⟨by rw [e], by rw [e]; exact ⟨A, E, M, pv, tv, hP, hG⟩⟩
    · refine j_p (nx := 1) hJ dX6_copyElements_0 rfl rfl ?_
      refine j_csR (nx := 4) hJ dX6_copyElements_1 rfl (r6_isSlot (fl := false) (d := d + 57) _) mX6_273 rfl (gle8 rfl) ?_
      rw [show gbt _ 4 = true from hx]
      refine j_if_eq (nx := 7) (tgt := 14) hJ dX6_copyElements_4 rfl (by decide) (fun c4 => absurd c4 (by decide)) (fun c4 => ?_)
      refine j_p (nx := 8) hJ dX6_copyElements_7 rfl rfl ?_
      refine j_csR (nx := 11) hJ dX6_copyElements_8 rfl (r6_isSlot (fl := false) (d := d + 57) _) mX6_273 rfl (gle8 rfl) ?_
      rw [show gbt _ 4 = false from Bool.eq_false_iff.mpr hy]
      refine j_if_ne (nx := 14) (tgt := 16) hJ dX6_copyElements_11 rfl (by decide) (fun c11 => absurd c11 (by decide)) (fun c11 => ?_)
      refine j_c (nx := 15) hJ dX6_copyElements_14 rfl gk_iconst_m1 ?_
      have e : s_copyElements R N (nI r) i y j c = (-1, R, N) := if_neg (fun q => hy q.2)
      exact j_iret hJ dX6_copyElements_15 ⟨by rw [e], by rw [e]; exact ⟨A, E, M, pv, tv, hP, hG⟩⟩
  · refine j_p (nx := 1) hJ dX6_copyElements_0 rfl rfl ?_
    refine j_csR (nx := 4) hJ dX6_copyElements_1 rfl (r6_isSlot (fl := false) (d := d + 57) _) mX6_273 rfl (gle8 rfl) ?_
    rw [show gbt _ 4 = false from Bool.eq_false_iff.mpr hx]
    refine j_if_eq (nx := 7) (tgt := 14) hJ dX6_copyElements_4 rfl (by decide) (fun c4 => ?_) (fun c4 => absurd c4 (by decide))
    refine j_c (nx := 15) hJ dX6_copyElements_14 rfl gk_iconst_m1 ?_
    have e : s_copyElements R N x i y j c = (-1, R, N) := if_neg (fun q => hx q.1)
    exact j_iret hJ dX6_copyElements_15 ⟨by rw [e], by rw [e]; exact ⟨A, E, M, pv, tv, hP, hG⟩⟩
