theorem gst_up2 {f : Nat → Int32} {i : Nat} {m : List Int32} {x : Int32} (h : gSt f 0 (m.take i)) (hi : i < m.length) (hx : x = m.getD i (-1)) : gSt (upd f i x) 0 (m.take (i + 1)) := by
  rw [gtake_s hi, ← hx]
  have := gst_up (c := x) h (i := i) (by rw [List.length_take]; omega)
  rw [Nat.zero_add] at this
  exact this
theorem gst_up3 {f : Nat → Int32} {n : Nat} {m : List Int32} {x : Int32} (h : gSt f 0 m) (hn : n = m.length) : gSt (upd f n x) 0 (m ++ [x]) := by
  have := gst_up (c := x) h (i := n) hn
  rw [Nat.zero_add] at this
  exact this
theorem gP.mm {h0 h : GH} {A : Nat → Nat → Int32} {E : Nat → Nat → Int64} {M : Nat → Int32} {pv tv : Value} {i : Nat} {x y : Int32} (hP : gP h0 h A E (gU (gU M i x) i y) pv tv) : gP h0 h A E (gU M i y) pv tv := hP.rw (fun _ => rfl) (fun _ => rfl) (fun a => by simp only [gU]; split <;> rfl)
set_option maxHeartbeats 4000000 in
theorem r6_split {d : Nat} {h0 h : GH} {R : Nat → List Int32} {N : Nat → Int32} (hS : gRS h0 h R N) (hI : gInv R N) (x v : Int32) : gN false (d + 60) yX6_split [.ref 99, .int x, .int v] h (fun o h' => o = some (.int (s_split R N x v).1) ∧ gRS h0 h' (s_split R N x v).2.1 (s_split R N x v).2.2) := by
  obtain ⟨A, E, M, pv, tv, hP, hG⟩ := hS
  have g0 := hG.1.1
  have g9 := hG.1.2.2.1
  obtain ⟨⟨k, ss, hk1, hk3, hss1, hss6, hpt, him, hsm⟩, hI2, hI3, hI4, hI5⟩ := hI
  refine gN.of MX6_split (Nat.le_of_ble_eq_true rfl) (fun J n hJ => ?_)
  show J 0 [some (.ref 99), some (.int x), some (.int v), none, none, none] [] h (n, 0, 0, false)
  by_cases hx : gbt x 6 = true
  · obtain ⟨r, rfl, hr⟩ := gbt_spec hx
    have egr := gr_nI (r := r) (by omega)
    have hl := hG.2.1 r hr
    have hl8 := hl.2.1
    have hpr := hpt r hr
    refine j_p (nx := 1) hJ dX6_split_0 rfl rfl ?_
    refine j_csR (nx := 4) hJ dX6_split_1 rfl (r6_isRegister (fl := false) (d := d + 57) _) mX6_139 rfl (gle8 rfl) ?_
    rw [show gbt _ 6 = true from hx]
    refine j_if_ne (nx := 7) (tgt := 10) hJ dX6_split_4 rfl (by decide) (fun c4 => ?_) (fun c4 => absurd c4 (by decide))
    refine j_p (nx := 11) hJ dX6_split_10 rfl rfl ?_
    refine j_p (nx := 12) hJ dX6_split_11 rfl rfl ?_
    refine j_p (nx := 13) hJ dX6_split_12 rfl rfl ?_
    refine j_cvR (nx := 16) hJ dX6_split_13 rfl (r6_occurs (d := d + 57) hP hr hl v) mX6_157 hP.1.1 kX6_occurs rfl (gle8 rfl) ?_
    refine j_p (nx := 17) hJ dX6_split_16 rfl rfl ?_
    refine j_p (nx := 18) hJ dX6_split_17 rfl rfl ?_
    refine j_if_ne (nx := 21) (tgt := 24) hJ dX6_split_18 rfl (by decide) (fun c18 => ?_) (fun c18 => ?_)
    · rw [goc_0 (by omega), Bool.not_eq_false] at c18
      have hgv4 : gbt v 4 = true := by unfold ghv at c18; exact (Bool.and_eq_true_iff.mp c18).1
      have hoc : goc (R (5 + 2 * r)) v = gcnt (10 + v) (R (5 + 2 * r)) := if_pos hgv4
      have hgv : gvar (R (5 + 2 * r)) = nI (gvc (R (5 + 2 * r))) := by rw [gvar_nv (hpr.sy hk3.2), gvc_nv (hpr.sy hk3.2) hpr.2.2.2.1]
      have hvc4 : gvc (R (5 + 2 * r)) ≤ 4 := by rw [gvc_nv (hpr.sy hk3.2) hpr.2.2.2.1]; exact gnv_le _
      refine j_p (nx := 25) hJ dX6_split_24 rfl rfl ?_
      refine j_p (nx := 26) hJ dX6_split_25 rfl rfl ?_
      refine j_cvR (nx := 29) hJ dX6_split_26 rfl (r6_variables (d := d + 56) hP hr hl) mX6_154 hP.1.1 kX6_variables rfl (gle8 rfl) ?_
      refine j_c (nx := 30) hJ dX6_split_29 rfl gk_iconst_4 ?_
      refine j_ic_eq (nx := 33) (tgt := 46) hJ dX6_split_30 rfl (by decide) (fun c30 => ?_) (fun c30 => ?_)
      · refine j_c (nx := 48) hJ dX6_split_46 rfl gk_bipush_m4 ?_
        have e : s_split R N (nI r) v = (-4, R, N) := by unfold s_split; rw [if_pos hx, egr, if_pos c18, hgv, if_pos (by first | exact Or.inl (by rw [c30]; exact Int32.le_refl _) | (refine Or.inr ?_; rw [← hoc]; exact c43))]
        exact j_iret hJ dX6_split_48 ⟨by rw [e], by rw [e]; exact ⟨A, E, M, pv, tv, hP, hG⟩⟩
      · refine j_p (nx := 34) hJ dX6_split_33 rfl rfl ?_
        refine j_get (nx := 37) hJ dX6_split_34 rfl fX6_19 hP.1.1 (by rfl) ?_
        refine j_p (nx := 38) hJ dX6_split_37 rfl rfl ?_
        refine j_iald (j := r) (nx := 39) hJ dX6_split_38 rfl (show h 101 = some (gia 6 (A 101)) from hP.a 101 (by unfold gia'; omega)) rfl (by omega) (by decide) ?_
        rw [hl.1]
        refine j_p (nx := 40) hJ dX6_split_39 rfl rfl ?_
        refine j_p (nx := 41) hJ dX6_split_40 rfl rfl ?_
        refine j_c (nx := 43) hJ dX6_split_41 rfl gk_bipush_8 ?_
        refine j_ic_le (nx := 46) (tgt := 49) hJ dX6_split_43 rfl (by decide) (fun c43 => ?_) (fun c43 => ?_)
        · rw [hoc] at c43
          have hvc3 : gvc (R (5 + 2 * r)) < 4 := by
            apply Classical.byContradiction
            intro q
            exact c30 (by rw [show gvc (R (5 + 2 * r)) = 4 by omega]; rfl)
          have e : s_split R N (nI r) v = (nI (gcan (gspl (10 + v) (10 + nI (gvc (R (5 + 2 * r)))) (R (5 + 2 * r)))).length, gU R (5 + 2 * r) (gcan (gspl (10 + v) (10 + nI (gvc (R (5 + 2 * r)))) (R (5 + 2 * r)))), N) := by
            unfold s_split
            rw [if_pos hx, egr, if_pos c18, hgv, if_neg (fun q => q.elim (fun z => by rw [show (4 : Int32) = nI 4 from rfl, gnle (by omega) (by omega)] at z; omega) (fun z => z c43))]
          have hsl : (gspl (10 + v) (10 + nI (gvc (R (5 + 2 * r)))) (R (5 + 2 * r))).length ≤ 8 := by
            rw [gcnt_nat, gadd, show (8 : Int32) = nI 8 from rfl, gnle (by have := List.count_le_length (a := 10 + v) (l := (R (5 + 2 * r))); omega) (by omega)] at c43
            rw [gspl_len]; exact c43
          have hsys : ∀ c ∈ gspl (10 + v) (10 + nI (gvc (R (5 + 2 * r)))) (R (5 + 2 * r)), gsy c := fun c hc => by
            obtain ⟨y, hy, hc⟩ := List.mem_flatMap.mp hc
            have hyy := hpr.sy hk3.2 y hy
            split at hc
            · rcases List.mem_cons.mp hc with q | q
              · rw [q]; exact hyy
              · rw [List.mem_singleton.mp q, show (10 : Int32) = nI 10 from rfl, gadd]; exact gsy_nI (by omega)
            · rw [List.mem_singleton.mp hc]; exact hyy
          refine j_c (nx := 51) hJ dX6_split_49 rfl gk_bipush_10 ?_
          refine j_p (nx := 52) hJ dX6_split_51 rfl rfl ?_
          refine j_p (nx := 53) hJ dX6_split_52 rfl rfl ?_
          refine j_cvR (nx := 56) hJ dX6_split_53 rfl (r6_variables (d := d + 56) hP hr hl) mX6_154 hP.1.1 kX6_variables rfl (gle8 rfl) ?_
          refine j_p (nx := 57) hJ dX6_split_56 rfl rfl ?_
          refine j_p (nx := 59) hJ dX6_split_57 rfl rfl ?_
          refine j_p (nx := 60) hJ dX6_split_59 rfl rfl ?_
          refine j_c (nx := 61) hJ dX6_split_60 rfl gk_iconst_0 ?_
          refine j_put (nx := 64) hJ dX6_split_61 rfl fX6_112 (zX6_11 _) hP.1.1 (Nat.le_of_ble_eq_true rfl) ?_
          change J 64 _ _ (gup h 99 (gO (gU M 11 (0)) pv tv)) _
          have hP0 := hP.fld (gU M 11 (0)) pv tv
          refine j_c (nx := 66) hJ dX6_split_64 rfl gk_bipush_8 ?_
          refine j_p (nx := 67) hJ dX6_split_66 rfl rfl ?_
          refine j_p (nx := 68) hJ dX6_split_67 rfl rfl ?_
          rw [show (8 : Int32) = nI 8 from rfl, gmul]
          refine j_p (nx := 70) hJ dX6_split_68 rfl rfl ?_
          have loop : ∀ i, i ≤ (R (5 + 2 * r)).length → ∀ (h1 : GH) (f : Nat → Int32), gP h0 h1 (gU A 107 f) E (gU M 11 (nI (gspl (10 + v) (10 + nI (gvc (R (5 + 2 * r)))) ((R (5 + 2 * r)).take i)).length)) pv tv → gSt f 0 (gspl (10 + v) (10 + nI (gvc (R (5 + 2 * r)))) ((R (5 + 2 * r)).take i)) → J 70 [some (.ref 99), some (.int (nI r)), some (.int v), some (.int (goc (R (5 + 2 * r)) v)), some (.int (10 + nI (gvc (R (5 + 2 * r))))), some (.int (nI (8 * r + i)))] [] h1 (n, 0, 0, false) := by
            refine gloop _ _ (fun i hi ih h1 f hP1 hf => ?_)
            refine j_p (nx := 72) hJ dX6_split_70 rfl rfl ?_
            refine j_c (nx := 74) hJ dX6_split_72 rfl gk_bipush_8 ?_
            refine j_p (nx := 75) hJ dX6_split_74 rfl rfl ?_
            refine j_p (nx := 76) hJ dX6_split_75 rfl rfl ?_
            rw [show (8 : Int32) = nI 8 from rfl, gmul]
            refine j_p (nx := 77) hJ dX6_split_76 rfl rfl ?_
            refine j_get (nx := 80) hJ dX6_split_77 rfl fX6_19 hP1.1.1 (by rfl) ?_
            refine j_p (nx := 81) hJ dX6_split_80 rfl rfl ?_
            refine j_iald (j := r) (nx := 82) hJ dX6_split_81 rfl (show h1 101 = some (gia 6 ((gU A 107 f) 101)) from hP1.a 101 (by unfold gia'; omega)) rfl (by omega) (by decide) ?_
            rw [show (gU A 107 f) 101 r = nI (R (5 + 2 * r)).length from hl.1]
            refine j_p (nx := 83) hJ dX6_split_82 rfl rfl ?_
            rw [gadd]
            refine j_ic_ge (nx := 86) (tgt := 153) hJ dX6_split_83 rfl (by decide) (fun c83 => ?_) (fun c83 => ?_)
            · rw [gnle (by omega) (by omega)] at c83
              have e0 : i = (R (5 + 2 * r)).length := by omega
              subst e0
              rw [List.take_length] at hP1 hf
              refine j_p (nx := 154) hJ dX6_split_153 rfl rfl ?_
              refine j_p (nx := 155) hJ dX6_split_154 rfl rfl ?_
              refine j_cv (nx := 158) hJ dX6_split_155 rfl (r6_store (d := d + 57) hP1 hr (l := gspl (10 + v) (10 + nI (gvc (R (5 + 2 * r)))) (R (5 + 2 * r))) (gU_s _ _ _) hsl hf hsys) mX6_143 hP1.1.1 kX6_store rfl (gle8 rfl) (fun o h3 hp => ?_)
              obtain ⟨rfl, A2, hP2, k1, k2, k3, k4⟩ := hp
              refine j_iret hJ dX6_split_158 ⟨by rw [e, gcan_len], ?_⟩
              rw [e]
              exact ⟨_, _, _, _, _, hP2, (hG.scr (A' := gU A 107 f) (M' := gU M 11 (nI (gspl (10 + v) (10 + nI (gvc (R (5 + 2 * r)))) (R (5 + 2 * r))).length)) (fun a ha => gU_n _ _ (by omega)) rfl ⟨rfl, rfl, rfl, rfl, rfl, rfl⟩).pat hr k1 k2 k3 (fun a p1 p2 p3 => k4 a p1 p2 (by omega))⟩
            · rw [gnle (by omega) (by omega)] at c83
              have hil : i < (R (5 + 2 * r)).length := by omega
              have hk1 := gspl_k (c := 10 + v) (f := 10 + nI (gvc (R (5 + 2 * r)))) hil
              have hk2 := Nat.le_trans (gspl_le (10 + v) (10 + nI (gvc (R (5 + 2 * r)))) (R (5 + 2 * r)) (i + 1)) hsl
              rw [hk1, List.length_append] at hk2
              have hlt : (gspl (10 + v) (10 + nI (gvc (R (5 + 2 * r)))) ((R (5 + 2 * r)).take i)).length < 8 := by split at hk2 <;> simp at hk2 <;> omega
              refine j_p (nx := 87) hJ dX6_split_86 rfl rfl ?_
              refine j_get (nx := 90) hJ dX6_split_87 rfl fX6_37 hP1.1.1 (by rfl) ?_
              refine j_p (nx := 91) hJ dX6_split_90 rfl rfl ?_
              refine j_get (nx := 94) hJ dX6_split_91 rfl fX6_112 hP1.1.1 (by rfl) ?_
              rw [show gU M 11 (nI (gspl (10 + v) (10 + nI (gvc (R (5 + 2 * r)))) ((R (5 + 2 * r)).take i)).length) 11 = nI (gspl (10 + v) (10 + nI (gvc (R (5 + 2 * r)))) ((R (5 + 2 * r)).take i)).length from gU_s _ _ _]
              refine j_p (nx := 95) hJ dX6_split_94 rfl rfl ?_
              refine j_get (nx := 98) hJ dX6_split_95 rfl fX6_15 hP1.1.1 (by rfl) ?_
              refine j_p (nx := 100) hJ dX6_split_98 rfl rfl ?_
              refine j_iald (j := 8 * r + i) (nx := 101) hJ dX6_split_100 rfl (show h1 100 = some (gia 48 ((gU A 107 f) 100)) from hP1.a 100 (by unfold gia'; omega)) rfl (by omega) (by decide) ?_
              rw [show (gU A 107 f) 100 (8 * r + i) = ((R (5 + 2 * r)).getD i (-1)) from hl.2.2.get hil]
              refine j_iast (j := (gspl (10 + v) (10 + nI (gvc (R (5 + 2 * r)))) ((R (5 + 2 * r)).take i)).length) (nx := 102) hJ dX6_split_101 rfl (show h1 107 = some (gia 8 f) from hP1.a 107 (by unfold gia'; omega)) rfl hlt (by decide) ?_
              have hP2 : gP h0 (gup h1 107 (gia 8 (upd f (gspl (10 + v) (10 + nI (gvc (R (5 + 2 * r)))) ((R (5 + 2 * r)).take i)).length ((R (5 + 2 * r)).getD i (-1))))) (gU A 107 (upd f (gspl (10 + v) (10 + nI (gvc (R (5 + 2 * r)))) ((R (5 + 2 * r)).take i)).length ((R (5 + 2 * r)).getD i (-1)))) E (gU M 11 (nI (gspl (10 + v) (10 + nI (gvc (R (5 + 2 * r)))) ((R (5 + 2 * r)).take i)).length)) pv tv := (hP1.arr (a := 107) (by unfold gia'; omega) _).uu
              refine j_p (nx := 103) hJ dX6_split_102 rfl rfl ?_
              refine j_p (nx := 104) hJ dX6_split_103 rfl rfl ?_
              refine j_get (nx := 107) hJ dX6_split_104 rfl fX6_112 hP2.1.1 (by rfl) ?_
              rw [show gU M 11 (nI (gspl (10 + v) (10 + nI (gvc (R (5 + 2 * r)))) ((R (5 + 2 * r)).take i)).length) 11 = nI (gspl (10 + v) (10 + nI (gvc (R (5 + 2 * r)))) ((R (5 + 2 * r)).take i)).length from gU_s _ _ _]
              refine j_c (nx := 108) hJ dX6_split_107 rfl gk_iconst_1 ?_
              refine j_p (nx := 109) hJ dX6_split_108 rfl rfl ?_
              rw [show nI (gspl (10 + v) (10 + nI (gvc (R (5 + 2 * r)))) ((R (5 + 2 * r)).take i)).length + 1 = nI ((gspl (10 + v) (10 + nI (gvc (R (5 + 2 * r)))) ((R (5 + 2 * r)).take i)).length + 1) from (nI_succ _).symm]
              refine j_put (nx := 112) hJ dX6_split_109 rfl fX6_112 (zX6_11 _) hP2.1.1 (Nat.le_of_ble_eq_true rfl) ?_
              change J 112 _ _ (gup (gup h1 107 (gia 8 (upd f (gspl (10 + v) (10 + nI (gvc (R (5 + 2 * r)))) ((R (5 + 2 * r)).take i)).length ((R (5 + 2 * r)).getD i (-1))))) 99 (gO (gU M 11 (nI ((gspl (10 + v) (10 + nI (gvc (R (5 + 2 * r)))) ((R (5 + 2 * r)).take i)).length + 1))) pv tv)) _
              have hP3 : gP h0 (gup (gup h1 107 (gia 8 (upd f (gspl (10 + v) (10 + nI (gvc (R (5 + 2 * r)))) ((R (5 + 2 * r)).take i)).length ((R (5 + 2 * r)).getD i (-1))))) 99 (gO (gU M 11 (nI ((gspl (10 + v) (10 + nI (gvc (R (5 + 2 * r)))) ((R (5 + 2 * r)).take i)).length + 1))) pv tv)) (gU A 107 (upd f (gspl (10 + v) (10 + nI (gvc (R (5 + 2 * r)))) ((R (5 + 2 * r)).take i)).length ((R (5 + 2 * r)).getD i (-1)))) E (gU M 11 (nI ((gspl (10 + v) (10 + nI (gvc (R (5 + 2 * r)))) ((R (5 + 2 * r)).take i)).length + 1))) pv tv := hP2.fld _ pv tv
              refine j_p (nx := 113) hJ dX6_split_112 rfl rfl ?_
              refine j_get (nx := 116) hJ dX6_split_113 rfl fX6_15 hP3.1.1 (by rfl) ?_
              refine j_p (nx := 118) hJ dX6_split_116 rfl rfl ?_
              refine j_iald (j := 8 * r + i) (nx := 119) hJ dX6_split_118 rfl (show (gup (gup h1 107 (gia 8 (upd f (gspl (10 + v) (10 + nI (gvc (R (5 + 2 * r)))) ((R (5 + 2 * r)).take i)).length ((R (5 + 2 * r)).getD i (-1))))) 99 (gO (gU M 11 (nI ((gspl (10 + v) (10 + nI (gvc (R (5 + 2 * r)))) ((R (5 + 2 * r)).take i)).length + 1))) pv tv)) 100 = some (gia 48 ((gU A 107 (upd f (gspl (10 + v) (10 + nI (gvc (R (5 + 2 * r)))) ((R (5 + 2 * r)).take i)).length ((R (5 + 2 * r)).getD i (-1)))) 100)) from hP3.a 100 (by unfold gia'; omega)) rfl (by omega) (by decide) ?_
              rw [show (gU A 107 (upd f (gspl (10 + v) (10 + nI (gvc (R (5 + 2 * r)))) ((R (5 + 2 * r)).take i)).length ((R (5 + 2 * r)).getD i (-1)))) 100 (8 * r + i) = ((R (5 + 2 * r)).getD i (-1)) from hl.2.2.get hil]
              refine j_c (nx := 121) hJ dX6_split_119 rfl gk_bipush_10 ?_
              refine j_p (nx := 122) hJ dX6_split_121 rfl rfl ?_
              refine j_p (nx := 123) hJ dX6_split_122 rfl rfl ?_
              refine j_ic_ne (nx := 126) (tgt := 147) hJ dX6_split_123 rfl (by decide) (fun c123 => ?_) (fun c123 => ?_)
              · rw [if_neg c123] at hk1 hk2
                refine j_inc (nx := 150) hJ dX6_split_147 rfl rfl (gi1 _) rfl ?_
                refine j_go (tgt := 70) hJ dX6_split_150 (by decide) ?_
                refine ih hil _ (upd f (gspl (10 + v) (10 + nI (gvc (R (5 + 2 * r)))) ((R (5 + 2 * r)).take i)).length ((R (5 + 2 * r)).getD i (-1))) ?_ ?_
                · rw [hk1, List.length_append]; exact hP3
                · rw [hk1]; exact gst_up3 hf rfl
              rw [if_pos c123] at hk1 hk2
              simp at hk2
              refine j_p (nx := 127) hJ dX6_split_126 rfl rfl ?_
              refine j_get (nx := 130) hJ dX6_split_127 rfl fX6_37 hP3.1.1 (by rfl) ?_
              refine j_p (nx := 131) hJ dX6_split_130 rfl rfl ?_
              refine j_get (nx := 134) hJ dX6_split_131 rfl fX6_112 hP3.1.1 (by rfl) ?_
              rw [show gU M 11 (nI ((gspl (10 + v) (10 + nI (gvc (R (5 + 2 * r)))) ((R (5 + 2 * r)).take i)).length + 1)) 11 = nI ((gspl (10 + v) (10 + nI (gvc (R (5 + 2 * r)))) ((R (5 + 2 * r)).take i)).length + 1) from gU_s _ _ _]
              refine j_p (nx := 136) hJ dX6_split_134 rfl rfl ?_
              refine j_iast (j := (gspl (10 + v) (10 + nI (gvc (R (5 + 2 * r)))) ((R (5 + 2 * r)).take i)).length + 1) (nx := 137) hJ dX6_split_136 rfl (show (gup (gup h1 107 (gia 8 (upd f (gspl (10 + v) (10 + nI (gvc (R (5 + 2 * r)))) ((R (5 + 2 * r)).take i)).length ((R (5 + 2 * r)).getD i (-1))))) 99 (gO (gU M 11 (nI ((gspl (10 + v) (10 + nI (gvc (R (5 + 2 * r)))) ((R (5 + 2 * r)).take i)).length + 1))) pv tv)) 107 = some (gia 8 (upd f (gspl (10 + v) (10 + nI (gvc (R (5 + 2 * r)))) ((R (5 + 2 * r)).take i)).length ((R (5 + 2 * r)).getD i (-1)))) from hP3.a 107 (by unfold gia'; omega)) rfl (by omega) (by decide) ?_
              have hP4 : gP h0 (gup (gup (gup h1 107 (gia 8 (upd f (gspl (10 + v) (10 + nI (gvc (R (5 + 2 * r)))) ((R (5 + 2 * r)).take i)).length ((R (5 + 2 * r)).getD i (-1))))) 99 (gO (gU M 11 (nI ((gspl (10 + v) (10 + nI (gvc (R (5 + 2 * r)))) ((R (5 + 2 * r)).take i)).length + 1))) pv tv)) 107 (gia 8 (upd (upd f (gspl (10 + v) (10 + nI (gvc (R (5 + 2 * r)))) ((R (5 + 2 * r)).take i)).length ((R (5 + 2 * r)).getD i (-1))) ((gspl (10 + v) (10 + nI (gvc (R (5 + 2 * r)))) ((R (5 + 2 * r)).take i)).length + 1) (10 + nI (gvc (R (5 + 2 * r))))))) (gU A 107 (upd (upd f (gspl (10 + v) (10 + nI (gvc (R (5 + 2 * r)))) ((R (5 + 2 * r)).take i)).length ((R (5 + 2 * r)).getD i (-1))) ((gspl (10 + v) (10 + nI (gvc (R (5 + 2 * r)))) ((R (5 + 2 * r)).take i)).length + 1) (10 + nI (gvc (R (5 + 2 * r)))))) E (gU M 11 (nI ((gspl (10 + v) (10 + nI (gvc (R (5 + 2 * r)))) ((R (5 + 2 * r)).take i)).length + 1))) pv tv := (hP3.arr (a := 107) (by unfold gia'; omega) _).uu
              refine j_p (nx := 138) hJ dX6_split_137 rfl rfl ?_
              refine j_p (nx := 139) hJ dX6_split_138 rfl rfl ?_
              refine j_get (nx := 142) hJ dX6_split_139 rfl fX6_112 hP4.1.1 (by rfl) ?_
              rw [show gU M 11 (nI ((gspl (10 + v) (10 + nI (gvc (R (5 + 2 * r)))) ((R (5 + 2 * r)).take i)).length + 1)) 11 = nI ((gspl (10 + v) (10 + nI (gvc (R (5 + 2 * r)))) ((R (5 + 2 * r)).take i)).length + 1) from gU_s _ _ _]
              refine j_c (nx := 143) hJ dX6_split_142 rfl gk_iconst_1 ?_
              refine j_p (nx := 144) hJ dX6_split_143 rfl rfl ?_
              rw [show nI ((gspl (10 + v) (10 + nI (gvc (R (5 + 2 * r)))) ((R (5 + 2 * r)).take i)).length + 1) + 1 = nI ((gspl (10 + v) (10 + nI (gvc (R (5 + 2 * r)))) ((R (5 + 2 * r)).take i)).length + 1 + 1) from (nI_succ _).symm]
              refine j_put (nx := 147) hJ dX6_split_144 rfl fX6_112 (zX6_11 _) hP4.1.1 (Nat.le_of_ble_eq_true rfl) ?_
              change J 147 _ _ (gup (gup (gup (gup h1 107 (gia 8 (upd f (gspl (10 + v) (10 + nI (gvc (R (5 + 2 * r)))) ((R (5 + 2 * r)).take i)).length ((R (5 + 2 * r)).getD i (-1))))) 99 (gO (gU M 11 (nI ((gspl (10 + v) (10 + nI (gvc (R (5 + 2 * r)))) ((R (5 + 2 * r)).take i)).length + 1))) pv tv)) 107 (gia 8 (upd (upd f (gspl (10 + v) (10 + nI (gvc (R (5 + 2 * r)))) ((R (5 + 2 * r)).take i)).length ((R (5 + 2 * r)).getD i (-1))) ((gspl (10 + v) (10 + nI (gvc (R (5 + 2 * r)))) ((R (5 + 2 * r)).take i)).length + 1) (10 + nI (gvc (R (5 + 2 * r))))))) 99 (gO (gU M 11 (nI ((gspl (10 + v) (10 + nI (gvc (R (5 + 2 * r)))) ((R (5 + 2 * r)).take i)).length + 1 + 1))) pv tv)) _
              have hP5 : gP h0 (gup (gup (gup (gup h1 107 (gia 8 (upd f (gspl (10 + v) (10 + nI (gvc (R (5 + 2 * r)))) ((R (5 + 2 * r)).take i)).length ((R (5 + 2 * r)).getD i (-1))))) 99 (gO (gU M 11 (nI ((gspl (10 + v) (10 + nI (gvc (R (5 + 2 * r)))) ((R (5 + 2 * r)).take i)).length + 1))) pv tv)) 107 (gia 8 (upd (upd f (gspl (10 + v) (10 + nI (gvc (R (5 + 2 * r)))) ((R (5 + 2 * r)).take i)).length ((R (5 + 2 * r)).getD i (-1))) ((gspl (10 + v) (10 + nI (gvc (R (5 + 2 * r)))) ((R (5 + 2 * r)).take i)).length + 1) (10 + nI (gvc (R (5 + 2 * r))))))) 99 (gO (gU M 11 (nI ((gspl (10 + v) (10 + nI (gvc (R (5 + 2 * r)))) ((R (5 + 2 * r)).take i)).length + 1 + 1))) pv tv)) (gU A 107 (upd (upd f (gspl (10 + v) (10 + nI (gvc (R (5 + 2 * r)))) ((R (5 + 2 * r)).take i)).length ((R (5 + 2 * r)).getD i (-1))) ((gspl (10 + v) (10 + nI (gvc (R (5 + 2 * r)))) ((R (5 + 2 * r)).take i)).length + 1) (10 + nI (gvc (R (5 + 2 * r)))))) E (gU M 11 (nI ((gspl (10 + v) (10 + nI (gvc (R (5 + 2 * r)))) ((R (5 + 2 * r)).take i)).length + 1 + 1))) pv tv := hP4.fld _ pv tv
              refine j_inc (nx := 150) hJ dX6_split_147 rfl rfl (gi1 _) rfl ?_
              refine j_go (tgt := 70) hJ dX6_split_150 (by decide) ?_
              refine ih hil _ (upd (upd f (gspl (10 + v) (10 + nI (gvc (R (5 + 2 * r)))) ((R (5 + 2 * r)).take i)).length ((R (5 + 2 * r)).getD i (-1))) ((gspl (10 + v) (10 + nI (gvc (R (5 + 2 * r)))) ((R (5 + 2 * r)).take i)).length + 1) (10 + nI (gvc (R (5 + 2 * r))))) ?_ ?_
              · rw [hk1, List.length_append]; exact hP5
              · rw [hk1, show (gspl (10 + v) (10 + nI (gvc (R (5 + 2 * r)))) ((R (5 + 2 * r)).take i)) ++ [((R (5 + 2 * r)).getD i (-1)), (10 + nI (gvc (R (5 + 2 * r))))] = ((gspl (10 + v) (10 + nI (gvc (R (5 + 2 * r)))) ((R (5 + 2 * r)).take i)) ++ [((R (5 + 2 * r)).getD i (-1))]) ++ [(10 + nI (gvc (R (5 + 2 * r))))] by simp]
                exact gst_up3 (gst_up3 hf rfl) (by rw [List.length_append]; rfl)
          exact loop 0 (Nat.zero_le _) _ (A 107) (hP0.rw (gU_self A 107) (fun _ => rfl) (fun _ => rfl)) (fun j v hv => by cases hv)
        · refine j_c (nx := 48) hJ dX6_split_46 rfl gk_bipush_m4 ?_
          have e : s_split R N (nI r) v = (-4, R, N) := by unfold s_split; rw [if_pos hx, egr, if_pos c18, hgv, if_pos (by first | exact Or.inl (by rw [c30]; exact Int32.le_refl _) | (refine Or.inr ?_; rw [← hoc]; exact c43))]
          exact j_iret hJ dX6_split_48 ⟨by rw [e], by rw [e]; exact ⟨A, E, M, pv, tv, hP, hG⟩⟩
    · refine j_c (nx := 23) hJ dX6_split_21 rfl gk_bipush_m3 ?_
      rw [goc_0 (by omega)] at c18
      have e : s_split R N (nI r) v = (-3, R, N) := by unfold s_split; rw [if_pos hx, egr, if_neg (by rw [c18]; decide)]
      exact j_iret hJ dX6_split_23 ⟨by rw [e], by rw [e]; exact ⟨A, E, M, pv, tv, hP, hG⟩⟩
  · refine j_p (nx := 1) hJ dX6_split_0 rfl rfl ?_
    refine j_csR (nx := 4) hJ dX6_split_1 rfl (r6_isRegister (fl := false) (d := d + 57) _) mX6_139 rfl (gle8 rfl) ?_
    rw [show gbt _ 6 = false from Bool.eq_false_iff.mpr hx]
    refine j_if_ne (nx := 7) (tgt := 10) hJ dX6_split_4 rfl (by decide) (fun c4 => absurd c4 (by decide)) (fun c4 => ?_)
    refine j_c (nx := 9) hJ dX6_split_7 rfl gk_bipush_m2 ?_
    have e : s_split R N x v = (-2, R, N) := if_neg hx
    exact j_iret hJ dX6_split_9 ⟨by rw [e], by rw [e]; exact ⟨A, E, M, pv, tv, hP, hG⟩⟩
