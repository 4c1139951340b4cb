theorem gone_envS {h : GH} {env : GV} {L spare nv lim : Nat} {us : Nat → Nat} (hl : 1 ≤ lim) (hM : gMatS h env L spare nv us) : gMatS h (if [env].length < lim then env else [env].getD (lim - 1) env) L spare nv us := by
  split
  · exact hM
  · next q =>
    have : lim = 1 := by simp only [List.length_cons, List.length_nil] at q; omega
    subst this; exact hM
set_option maxHeartbeats 4000000 in
theorem r_countS {fl : Bool} {rp qp cp rt qt ct : Nat} {p t : List Int32} {L spare nv : Nat} {us : Nat → Nat} (o1 : gOffS rp) (o2 : gOffS qp) (o3 : gOffS rt) (o4 : gOffS qt) (hL : L ≤ 1) (hsp : spare < 2 ^ 31) (hnv : nv ≤ 4) (hsy : ∀ c ∈ p, gsy c) (hus : ∀ c v, c ∈ p → gvo c = some v → 1 ≤ us v ∧ v < nv ∧ us v ≤ 100) : ∀ (ps : List Int32) (D0 : Nat), gCntOKS fl (D0 + 2 * ps.length + 3) rp qp cp rt qt ct p t L spare nv us ps := by
  intro ps
  induction ps with
    | nil =>
      intro D0 h pos a s lim env hM hP hT hdrop hpos ha hs hlim0 hlim henv
      obtain ⟨h76, fs, fz, fu, h77, h78, h79, hfu, hen⟩ := id hM
      obtain ⟨-, hpl, hpc, hrp, -⟩ := id hP
      obtain ⟨-, -, -, hrt, -⟩ := id hT
      have hpe : p.length ≤ pos := by
        apply Classical.byContradiction
        intro q
        rw [List.drop_eq_getElem_cons (by omega)] at hdrop
        cases hdrop
      refine gN.of MX1_count (Nat.le_of_ble_eq_true rfl) (fun J n hJ => ?_)
      show J 0 [some (.ref 126), some (.ref rp), some (.int (nI pos)), some (.ref rt), some (.int (nI a)), some (.int (nI s)), some (.int (nI lim)), none, none, none, none] [] h (n, 0, 0, fl)
      refine j_p (nx := 1) hJ dX1_count_0 rfl rfl ?_
      refine j_p (nx := 2) hJ dX1_count_1 rfl rfl ?_
      refine j_get (nx := 5) hJ dX1_count_2 rfl fX1_25 (by assumption) (by rfl) ?_
      refine j_ic_lt (nx := 8) (tgt := 23) hJ dX1_count_5 rfl (by decide) (fun c5 => absurd c5 (by rw [gnlt (by omega) (by omega)]; omega)) (fun c5 => ?_)
      refine j_p (nx := 10) hJ dX1_count_8 rfl rfl ?_
      refine j_p (nx := 11) hJ dX1_count_10 rfl rfl ?_
      refine j_get (nx := 14) hJ dX1_count_11 rfl fX1_35 (by assumption) (by rfl) ?_
      refine j_ic_gt (nx := 17) (tgt := 21) hJ dX1_count_14 rfl (by decide) (fun c14 => ?_) (fun c14 => ?_)
      · refine j_c (nx := 22) hJ dX1_count_21 rfl gk_iconst_0 ?_
        rw [gnlt hsp (by omega)] at c14
        have e9 : gE t L spare nv us [] a s env = [] := if_neg (by omega)
        exact j_iret hJ dX1_count_22 ⟨by rw [e9]; show _ = some (Value.int (nI (min lim 0))); rw [Nat.min_eq_right (by omega)]; rfl, by rw [e9, if_pos (by show 0 < lim; omega)]; exact hM, gFr.rf⟩
      · refine j_c (nx := 18) hJ dX1_count_17 rfl gk_iconst_1 ?_
        refine j_go (tgt := 22) hJ dX1_count_18 (by decide) ?_
        rw [gnlt hsp (by omega)] at c14
        have e9 : gE t L spare nv us [] a s env = [env] := if_pos (by omega)
        exact j_iret hJ dX1_count_22 ⟨by rw [e9]; show _ = some (Value.int (nI (min lim 1))); rw [Nat.min_eq_right hlim0]; rfl, by rw [e9]; exact gone_envS hlim0 hM, gFr.rf⟩
    | cons c ps ih =>
      intro D0 h pos a s lim env hM hP hT hdrop hpos ha hs hlim0 hlim henv
      obtain ⟨h76, fs, fz, fu, h77, h78, h79, hfu, hen⟩ := id hM
      obtain ⟨-, hpl, hpc, hrp, -⟩ := id hP
      obtain ⟨-, -, -, hrt, -⟩ := id hT
      have hdr := gdrop_get hdrop
      rw [List.length_cons] at ha
      show gN fl (D0 + 2 * ps.length + 3 + 1 + 1) _ _ _ _
      cases hvo : gvo c with
      | none =>
        refine gN.of MX1_count (Nat.le_of_ble_eq_true rfl) (fun J n hJ => ?_)
        show J 0 [some (.ref 126), some (.ref rp), some (.int (nI pos)), some (.ref rt), some (.int (nI a)), some (.int (nI s)), some (.int (nI lim)), none, none, none, none] [] h (n, 0, 0, fl)
        refine j_p (nx := 1) hJ dX1_count_0 rfl rfl ?_
        refine j_p (nx := 2) hJ dX1_count_1 rfl rfl ?_
        refine j_get (nx := 5) hJ dX1_count_2 rfl fX1_25 (by assumption) (by rfl) ?_
        refine j_ic_lt (nx := 8) (tgt := 23) hJ dX1_count_5 rfl (by decide) (fun c5 => ?_) (fun c5 => absurd c5 (fun q => q ((gnlt (by omega) (by omega)).mpr hdr.1)))
        refine j_p (nx := 24) hJ dX1_count_23 rfl rfl ?_
        refine j_p (nx := 25) hJ dX1_count_24 rfl rfl ?_
        refine j_cvR (nx := 28) hJ dX1_count_25 rfl (r_at (fl := fl) (d := D0 + 2 * ps.length + 3) hP (nI pos)) mX1_55 (by assumption) kX2_at rfl (gle8 rfl) ?_
        rw [gat_nI (by omega), hdr.2.1]
        refine j_p (nx := 30) hJ dX1_count_28 rfl rfl ?_
        refine j_p (nx := 32) hJ dX1_count_30 rfl rfl ?_
        refine j_c (nx := 34) hJ dX1_count_32 rfl gk_bipush_10 ?_
        refine j_p (nx := 35) hJ dX1_count_34 rfl rfl ?_
        refine j_p (nx := 37) hJ dX1_count_35 rfl rfl ?_
        refine j_p (nx := 39) hJ dX1_count_37 rfl rfl ?_
        refine j_csNR (nx := 42) hJ dX1_count_39 rfl (r_isVariable (fl := fl) (d := D0 + 2 * ps.length + 3) (c - 10)) mX1_52 rfl (gle8 rfl) ?_
        rw [gvo_var (hsy c hdr.2.2.2), hvo]
        refine j_if_ne (nx := 45) (tgt := 90) hJ dX1_count_42 rfl (by decide) (fun c42 => absurd c42 (fun q => q rfl)) (fun c42 => ?_)
        refine j_p (nx := 46) hJ dX1_count_45 rfl rfl ?_
        refine j_p (nx := 48) hJ dX1_count_46 rfl rfl ?_
        refine j_cvR (nx := 51) hJ dX1_count_48 rfl (r_at (fl := fl) (d := D0 + 2 * ps.length + 3) hT (nI a)) mX1_55 (by assumption) kX2_at rfl (gle8 rfl) ?_
        rw [gat_nI (by omega)]
        refine j_p (nx := 53) hJ dX1_count_51 rfl rfl ?_
        refine j_ic_ne (nx := 56) (tgt := 60) hJ dX1_count_53 rfl (by decide) (fun c53 => ?_) (fun c53 => ?_)
        · refine j_c (nx := 61) hJ dX1_count_60 rfl gk_iconst_0 ?_
          refine j_p (nx := 63) hJ dX1_count_61 rfl rfl ?_
          refine j_p (nx := 65) hJ dX1_count_63 rfl rfl ?_
          refine j_if_eq (nx := 68) (tgt := 88) hJ dX1_count_65 rfl (by decide) (fun _ => ?_) (fun c65 => absurd c65 (by decide))
          refine j_c (nx := 89) hJ dX1_count_88 rfl gk_iconst_0 ?_
          have e9 : gE t L spare nv us (c :: ps) a s env = [] := by simp only [gE, hvo]; rw [if_neg c53]
          exact j_iret hJ dX1_count_89 ⟨by rw [e9]; show _ = some (Value.int (nI (min lim 0))); rw [Nat.min_eq_right (by omega)]; rfl, by rw [e9, if_pos (by show 0 < lim; omega)]; exact hM, gFr.rf⟩
        · refine j_c (nx := 57) hJ dX1_count_56 rfl gk_iconst_1 ?_
          refine j_go (tgt := 61) hJ dX1_count_57 (by decide) ?_
          refine j_p (nx := 63) hJ dX1_count_61 rfl rfl ?_
          refine j_p (nx := 65) hJ dX1_count_63 rfl rfl ?_
          refine j_if_eq (nx := 68) (tgt := 88) hJ dX1_count_65 rfl (by decide) (fun c65 => absurd c65 (by decide)) (fun _ => ?_)
          refine j_p (nx := 69) hJ dX1_count_68 rfl rfl ?_
          refine j_p (nx := 70) hJ dX1_count_69 rfl rfl ?_
          refine j_p (nx := 71) hJ dX1_count_70 rfl rfl ?_
          refine j_c (nx := 72) hJ dX1_count_71 rfl gk_iconst_1 ?_
          refine j_p (nx := 73) hJ dX1_count_72 rfl rfl ?_
          rw [show nI pos + 1 = nI (pos + 1) from (nI_succ pos).symm]
          refine j_p (nx := 74) hJ dX1_count_73 rfl rfl ?_
          refine j_p (nx := 76) hJ dX1_count_74 rfl rfl ?_
          refine j_c (nx := 77) hJ dX1_count_76 rfl gk_iconst_1 ?_
          refine j_p (nx := 78) hJ dX1_count_77 rfl rfl ?_
          rw [show nI a + 1 = nI (a + 1) from (nI_succ a).symm]
          refine j_p (nx := 80) hJ dX1_count_78 rfl rfl ?_
          refine j_p (nx := 82) hJ dX1_count_80 rfl rfl ?_
          have hc := ih (D0 + 1) h (pos + 1) (a + 1) s lim env hM hP hT hdr.2.2.1 (by omega) (by omega) hs hlim0 hlim henv
          rw [show D0 + 1 + 2 * ps.length + 3 = D0 + 2 * ps.length + 3 + 1 by omega] at hc
          refine j_cv (nx := 85) hJ dX1_count_82 rfl (hc) mX1_42 (by assumption) kX1_count rfl (gle8 rfl) (fun o h2 hp => ?_)
          obtain ⟨rfl, hM2, hF2⟩ := hp
          refine j_go (tgt := 89) hJ dX1_count_85 (by decide) ?_
          have e9 : gE t L spare nv us (c :: ps) a s env = gE t L spare nv us ps (a + 1) s env := by simp only [gE, hvo]; rw [if_pos c53]
          exact j_iret hJ dX1_count_89 ⟨by rw [e9], by rw [e9]; exact hM2, hF2⟩
      | some v =>
        obtain ⟨hv4, hcv, -⟩ := gvo_some hvo
        cases hev : env v with
        | none =>
          refine gN.of MX1_count (Nat.le_of_ble_eq_true rfl) (fun J n hJ => ?_)
          show J 0 [some (.ref 126), some (.ref rp), some (.int (nI pos)), some (.ref rt), some (.int (nI a)), some (.int (nI s)), some (.int (nI lim)), none, none, none, none] [] h (n, 0, 0, fl)
          refine j_p (nx := 1) hJ dX1_count_0 rfl rfl ?_
          refine j_p (nx := 2) hJ dX1_count_1 rfl rfl ?_
          refine j_get (nx := 5) hJ dX1_count_2 rfl fX1_25 (by assumption) (by rfl) ?_
          refine j_ic_lt (nx := 8) (tgt := 23) hJ dX1_count_5 rfl (by decide) (fun c5 => ?_) (fun c5 => absurd c5 (fun q => q ((gnlt (by omega) (by omega)).mpr hdr.1)))
          refine j_p (nx := 24) hJ dX1_count_23 rfl rfl ?_
          refine j_p (nx := 25) hJ dX1_count_24 rfl rfl ?_
          refine j_cvR (nx := 28) hJ dX1_count_25 rfl (r_at (fl := fl) (d := D0 + 2 * ps.length + 3) hP (nI pos)) mX1_55 (by assumption) kX2_at rfl (gle8 rfl) ?_
          rw [gat_nI (by omega), hdr.2.1]
          refine j_p (nx := 30) hJ dX1_count_28 rfl rfl ?_
          refine j_p (nx := 32) hJ dX1_count_30 rfl rfl ?_
          refine j_c (nx := 34) hJ dX1_count_32 rfl gk_bipush_10 ?_
          refine j_p (nx := 35) hJ dX1_count_34 rfl rfl ?_
          refine j_p (nx := 37) hJ dX1_count_35 rfl rfl ?_
          refine j_p (nx := 39) hJ dX1_count_37 rfl rfl ?_
          refine j_csNR (nx := 42) hJ dX1_count_39 rfl (r_isVariable (fl := fl) (d := D0 + 2 * ps.length + 3) (c - 10)) mX1_52 rfl (gle8 rfl) ?_
          rw [gvo_var (hsy c hdr.2.2.2), hvo]
          refine j_if_ne (nx := 45) (tgt := 90) hJ dX1_count_42 rfl (by decide) (fun c42 => ?_) (fun c42 => absurd c42 ((by show ¬ (1:Int32) = 0; decide)))
          rw [hcv]
          refine j_p (nx := 91) hJ dX1_count_90 rfl rfl ?_
          refine j_get (nx := 94) hJ dX1_count_91 rfl fX1_15 (by assumption) (by rfl) ?_
          refine j_p (nx := 96) hJ dX1_count_94 rfl rfl ?_
          refine j_iald (j := v) (nx := 97) hJ dX1_count_96 rfl h78 rfl hv4 (by decide) ?_
          rw [(hen v hv4).1 hev]
          refine j_p (nx := 99) hJ dX1_count_97 rfl rfl ?_
          refine j_p (nx := 101) hJ dX1_count_99 rfl rfl ?_
          refine j_c (nx := 102) hJ dX1_count_101 rfl gk_iconst_m1 ?_
          refine j_ic_ne (nx := 105) (tgt := 119) hJ dX1_count_102 rfl (by decide) (fun c102 => absurd c102 (fun q => q rfl)) (fun c102 => ?_)
          refine j_p (nx := 106) hJ dX1_count_105 rfl rfl ?_
          refine j_p (nx := 107) hJ dX1_count_106 rfl rfl ?_
          refine j_p (nx := 108) hJ dX1_count_107 rfl rfl ?_
          refine j_p (nx := 109) hJ dX1_count_108 rfl rfl ?_
          refine j_p (nx := 111) hJ dX1_count_109 rfl rfl ?_
          refine j_p (nx := 113) hJ dX1_count_111 rfl rfl ?_
          refine j_p (nx := 115) hJ dX1_count_113 rfl rfl ?_
          refine j_cv (nx := 118) hJ dX1_count_115 rfl (r_countBindingsS o1 o2 o3 o4 hL hsp hnv hsy hus (ih D0) ⟨D0 + 2 * ps.length + 1, rfl⟩ hvo hev hM hP hT hdrop ha hs hlim0 hlim henv) mX1_74 (by assumption) kX1_countBindings rfl (gle8 rfl) (fun o h2 hp => ?_)
          obtain ⟨rfl, hM2, hF2⟩ := hp
          exact j_iret hJ dX1_count_118 ⟨rfl, hM2, hF2⟩
        | some bz =>
          obtain ⟨b, z⟩ := bz
          obtain ⟨hz2, hb2⟩ := henv v b z hev
          refine gN.of MX1_count (Nat.le_of_ble_eq_true rfl) (fun J n hJ => ?_)
          show J 0 [some (.ref 126), some (.ref rp), some (.int (nI pos)), some (.ref rt), some (.int (nI a)), some (.int (nI s)), some (.int (nI lim)), none, none, none, none] [] h (n, 0, 0, fl)
          refine j_p (nx := 1) hJ dX1_count_0 rfl rfl ?_
          refine j_p (nx := 2) hJ dX1_count_1 rfl rfl ?_
          refine j_get (nx := 5) hJ dX1_count_2 rfl fX1_25 (by assumption) (by rfl) ?_
          refine j_ic_lt (nx := 8) (tgt := 23) hJ dX1_count_5 rfl (by decide) (fun c5 => ?_) (fun c5 => absurd c5 (fun q => q ((gnlt (by omega) (by omega)).mpr hdr.1)))
          refine j_p (nx := 24) hJ dX1_count_23 rfl rfl ?_
          refine j_p (nx := 25) hJ dX1_count_24 rfl rfl ?_
          refine j_cvR (nx := 28) hJ dX1_count_25 rfl (r_at (fl := fl) (d := D0 + 2 * ps.length + 3) hP (nI pos)) mX1_55 (by assumption) kX2_at rfl (gle8 rfl) ?_
          rw [gat_nI (by omega), hdr.2.1]
          refine j_p (nx := 30) hJ dX1_count_28 rfl rfl ?_
          refine j_p (nx := 32) hJ dX1_count_30 rfl rfl ?_
          refine j_c (nx := 34) hJ dX1_count_32 rfl gk_bipush_10 ?_
          refine j_p (nx := 35) hJ dX1_count_34 rfl rfl ?_
          refine j_p (nx := 37) hJ dX1_count_35 rfl rfl ?_
          refine j_p (nx := 39) hJ dX1_count_37 rfl rfl ?_
          refine j_csNR (nx := 42) hJ dX1_count_39 rfl (r_isVariable (fl := fl) (d := D0 + 2 * ps.length + 3) (c - 10)) mX1_52 rfl (gle8 rfl) ?_
          rw [gvo_var (hsy c hdr.2.2.2), hvo]
          refine j_if_ne (nx := 45) (tgt := 90) hJ dX1_count_42 rfl (by decide) (fun c42 => ?_) (fun c42 => absurd c42 ((by show ¬ (1:Int32) = 0; decide)))
          rw [hcv]
          refine j_p (nx := 91) hJ dX1_count_90 rfl rfl ?_
          refine j_get (nx := 94) hJ dX1_count_91 rfl fX1_15 (by assumption) (by rfl) ?_
          refine j_p (nx := 96) hJ dX1_count_94 rfl rfl ?_
          refine j_iald (j := v) (nx := 97) hJ dX1_count_96 rfl h78 rfl hv4 (by decide) ?_
          rw [((hen v hv4).2 b z hev).1]
          refine j_p (nx := 99) hJ dX1_count_97 rfl rfl ?_
          refine j_p (nx := 101) hJ dX1_count_99 rfl rfl ?_
          refine j_c (nx := 102) hJ dX1_count_101 rfl gk_iconst_m1 ?_
          refine j_ic_ne (nx := 105) (tgt := 119) hJ dX1_count_102 rfl (by decide) (fun c102 => ?_) (fun c102 => absurd c102 (gnm1 (by omega)))
          refine j_p (nx := 120) hJ dX1_count_119 rfl rfl ?_
          refine j_p (nx := 121) hJ dX1_count_120 rfl rfl ?_
          refine j_get (nx := 124) hJ dX1_count_121 rfl fX1_9 (by assumption) (by rfl) ?_
          refine j_p (nx := 126) hJ dX1_count_124 rfl rfl ?_
          refine j_iald (j := v) (nx := 127) hJ dX1_count_126 rfl h77 rfl hv4 (by decide) ?_
          rw [((hen v hv4).2 b z hev).2]
          refine j_p (nx := 129) hJ dX1_count_127 rfl rfl ?_
          refine j_p (nx := 131) hJ dX1_count_129 rfl rfl ?_
          refine j_csR (nx := 134) hJ dX1_count_131 rfl (r_isSame (fl := fl) (d := D0 + 2 * ps.length + 2) hT (x := b) (y := a) (z := z) (by omega) (by omega) (by omega)) mX1_77 rfl (gle8 rfl) ?_
          refine j_p (nx := 136) hJ dX1_count_134 rfl rfl ?_
          refine j_p (nx := 138) hJ dX1_count_136 rfl rfl ?_
          refine j_if_eq (nx := 141) (tgt := 162) hJ dX1_count_138 rfl (by decide) (fun c138 => ?_) (fun c138 => ?_)
          · refine j_c (nx := 163) hJ dX1_count_162 rfl gk_iconst_0 ?_
            rw [gb_f] at c138
            have e9 : gE t L spare nv us (c :: ps) a s env = [] := by simp only [gE, hvo, hev]; rw [if_neg (by rw [c138]; decide)]
            exact j_iret hJ dX1_count_163 ⟨by rw [e9]; show _ = some (Value.int (nI (min lim 0))); rw [Nat.min_eq_right (by omega)]; rfl, by rw [e9, if_pos (by show 0 < lim; omega)]; exact hM, gFr.rf⟩
          · refine j_p (nx := 142) hJ dX1_count_141 rfl rfl ?_
            refine j_p (nx := 143) hJ dX1_count_142 rfl rfl ?_
            refine j_p (nx := 144) hJ dX1_count_143 rfl rfl ?_
            refine j_c (nx := 145) hJ dX1_count_144 rfl gk_iconst_1 ?_
            refine j_p (nx := 146) hJ dX1_count_145 rfl rfl ?_
            rw [show nI pos + 1 = nI (pos + 1) from (nI_succ pos).symm]
            refine j_p (nx := 147) hJ dX1_count_146 rfl rfl ?_
            refine j_p (nx := 149) hJ dX1_count_147 rfl rfl ?_
            refine j_p (nx := 151) hJ dX1_count_149 rfl rfl ?_
            refine j_p (nx := 152) hJ dX1_count_151 rfl rfl ?_
            rw [gadd]
            refine j_p (nx := 154) hJ dX1_count_152 rfl rfl ?_
            refine j_p (nx := 156) hJ dX1_count_154 rfl rfl ?_
            have hc := ih (D0 + 1) h (pos + 1) (a + z) s lim env hM hP hT hdr.2.2.1 (by omega) (by omega) hs hlim0 hlim henv
            rw [show D0 + 1 + 2 * ps.length + 3 = D0 + 2 * ps.length + 3 + 1 by omega] at hc
            refine j_cv (nx := 159) hJ dX1_count_156 rfl (hc) mX1_42 (by assumption) kX1_count rfl (gle8 rfl) (fun o h2 hp => ?_)
            obtain ⟨rfl, hM2, hF2⟩ := hp
            refine j_go (tgt := 163) hJ dX1_count_159 (by decide) ?_
            rw [gb_t] at c138
            have e9 : gE t L spare nv us (c :: ps) a s env = gE t L spare nv us ps (a + z) s env := by simp only [gE, hvo, hev]; rw [if_pos c138]
            exact j_iret hJ dX1_count_163 ⟨by rw [e9], by rw [e9]; exact hM2, hF2⟩
