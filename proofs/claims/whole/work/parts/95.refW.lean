set_option maxHeartbeats 4000000 in
theorem r6_removeWord {d : Nat} {h0 h : GH} {R : Nat → List Int32} {N : Nat → Int32} (hS : gRS h0 h R N) (hI : gInv R N) (x : Int32) : gN false (d + 60) yX6_removeWord [.ref 99, .int x] h (fun o h' => o = some (.int (s_removeWord R N x).1) ∧ gRS h0 h' (s_removeWord R N x).2.1 (s_removeWord R N x).2.2) := by
  obtain ⟨A, E, M, pv, tv, hP, hG⟩ := hS
  have g0 := hG.1.1
  have g9 := hG.1.2.2.1
  obtain ⟨⟨k, ss, hk1, hk3, hss1, hss6, hpt, him, hsm⟩, hI2, hI3, hI4, hI5⟩ := hI
  have g5 : M 5 = nI ss := hG.1.2.1.trans hss1
  have egs := gss_nI hss1 hss6
  refine gN.of MX6_removeWord (Nat.le_of_ble_eq_true rfl) (fun J n hJ => ?_)
  show J 0 [some (.ref 99), some (.int x), none] [] h (n, 0, 0, false)
  by_cases hx : gbt x ss = true
  · obtain ⟨r, rfl, hr⟩ := gbt_spec hx
    refine j_p (nx := 1) hJ dX6_removeWord_0 rfl rfl ?_
    refine j_p (nx := 2) hJ dX6_removeWord_1 rfl rfl ?_
    refine j_cvR (nx := 5) hJ dX6_removeWord_2 rfl (r6_isInSample (d := d + 57) hP hG hss1 hss6 _) mX6_236 hP.1.1 kX6_isInSample rfl (gle8 rfl) ?_
    rw [show gbt _ ss = true from hx]
    refine j_if_ne (nx := 8) (tgt := 11) hJ dX6_removeWord_5 rfl (by decide) (fun c5 => ?_) (fun c5 => absurd c5 (by decide))
    refine j_p (nx := 12) hJ dX6_removeWord_11 rfl rfl ?_
    refine j_c (nx := 13) hJ dX6_removeWord_12 rfl gk_iconst_1 ?_
    refine j_p (nx := 14) hJ dX6_removeWord_13 rfl rfl ?_
    rw [show nI r + 1 = nI (r + 0 + 1) from (nI_succ r).symm]
    refine j_p (nx := 15) hJ dX6_removeWord_14 rfl rfl ?_
    have e : s_removeWord R N (nI r) = (nI (ss - 1), gUr R r ss, gU N 2 (nI (ss - 1))) := by unfold s_removeWord; rw [egs, if_pos hx, nI_toInt (by omega)]; rfl
    have loop : ∀ i, i ≤ ss - 1 - r → ∀ (h1 : GH) (A1 : Nat → Nat → Int32), gP h0 h1 A1 E M pv tv → (∀ u, u < ss → gSl (A1 102) (A1 103) u (gUr R r (r + i + 1) (25 + 2 * u))) → (∀ a, a ≠ 102 → a ≠ 103 → A1 a = A a) → J 15 [some (.ref 99), some (.int (nI r)), some (.int (nI (r + i + 1)))] [] h1 (n, 0, 0, false) := by
      refine gloop _ _ (fun i hi ih h1 A1 hP1 hsl hA1 => ?_)
      refine j_p (nx := 16) hJ dX6_removeWord_15 rfl rfl ?_
      refine j_p (nx := 17) hJ dX6_removeWord_16 rfl rfl ?_
      refine j_get (nx := 20) hJ dX6_removeWord_17 rfl fX6_98 hP1.1.1 (by rfl) ?_
      rw [g5]
      refine j_ic_ge (nx := 23) (tgt := 66) hJ dX6_removeWord_20 rfl (by decide) (fun c20 => ?_) (fun c20 => ?_)
      · rw [gnle (by omega) (by omega)] at c20
        have e0 : r + i + 1 = ss := by omega
        rw [e0] at hsl
        refine j_p (nx := 67) hJ dX6_removeWord_66 rfl rfl ?_
        refine j_p (nx := 68) hJ dX6_removeWord_67 rfl rfl ?_
        refine j_get (nx := 71) hJ dX6_removeWord_68 rfl fX6_98 hP1.1.1 (by rfl) ?_
        rw [g5]
        refine j_c (nx := 72) hJ dX6_removeWord_71 rfl gk_iconst_1 ?_
        refine j_p (nx := 73) hJ dX6_removeWord_72 rfl rfl ?_
        rw [show nI ss - 1 = nI (ss - 1) from gsub (b := 1) (by omega)]
        refine j_put (nx := 76) hJ dX6_removeWord_73 rfl fX6_98 (zX6_5 _) hP1.1.1 (Nat.le_of_ble_eq_true rfl) ?_
        change J 76 _ _ (gup h1 99 (gO (gU M 5 (nI (ss - 1))) pv tv)) _
        have hP2 := hP1.fld (gU M 5 (nI (ss - 1))) pv tv
        refine j_p (nx := 77) hJ dX6_removeWord_76 rfl rfl ?_
        refine j_get (nx := 80) hJ dX6_removeWord_77 rfl fX6_98 hP2.1.1 (by rfl) ?_
        refine j_iret hJ dX6_removeWord_80 ⟨by rw [e]; rfl, ?_⟩
        rw [e]
        change gRS h0 _ (gUr R r ss) (gU N 2 (nI (ss - 1)))
        have hn : ∀ a, (a < 25 ∨ 37 ≤ a) → gUr R r ss a = R a := fun a ha => if_neg (by omega)
        have egs2 : gss (gU N 2 (nI (ss - 1))) = ss - 1 := gss_nI (gU_s _ _ _) (by omega)
        obtain ⟨⟨a1, a2, a3, a4, a5, a6⟩, b, c, d9, e9, f9⟩ := hG
        refine ⟨A1, E, _, pv, tv, hP2, ⟨a1, rfl, ?_, a4, ?_, ?_⟩, fun u hu => ?_, fun u hu => ?_, fun u hu hu2 => hsl u (by omega), fun u hu => ?_, fun q => ?_⟩
        · rw [hn 73 (by omega)]; exact a3
        · rw [hn 73 (by omega)]; exact a5
        · rw [hn 73 (by omega), hA1 106 (by omega) (by omega)]; exact a6
        · rw [hn _ (by omega), hA1 100 (by omega) (by omega), hA1 101 (by omega) (by omega)]; exact b u hu
        · rw [hn _ (by omega), hA1 104 (by omega) (by omega), hA1 105 (by omega) (by omega)]; exact c u hu
        · rw [hn _ (by omega), hA1 116 (by omega) (by omega), hA1 117 (by omega) (by omega), gU_n _ _ (by omega)]; exact e9 u hu
        · obtain ⟨f1, f2, f3, f4, f5⟩ := f9 q
          refine ⟨f1, f2, fun s hs => ?_, fun v hv => ?_, fun w hw hw2 => ?_⟩
          · rw [hn _ (by omega), hA1 120 (by omega) (by omega), hA1 121 (by omega) (by omega)]; exact f3 s hs
          · rw [hn _ (by omega), hA1 124 (by omega) (by omega), hA1 125 (by omega) (by omega)]; exact f4 v hv
          · rw [hn _ (by omega), hA1 122 (by omega) (by omega), hA1 123 (by omega) (by omega)]; exact f5 w hw hw2
      · rw [gnle (by omega) (by omega)] at c20
        have hil : r + i + 1 < ss := by omega
        refine j_p (nx := 24) hJ dX6_removeWord_23 rfl rfl ?_
        refine j_get (nx := 27) hJ dX6_removeWord_24 rfl fX6_22 hP1.1.1 (by rfl) ?_
        refine j_c (nx := 29) hJ dX6_removeWord_27 rfl gk_bipush_8 ?_
        refine j_p (nx := 30) hJ dX6_removeWord_29 rfl rfl ?_
        refine j_p (nx := 31) hJ dX6_removeWord_30 rfl rfl ?_
        rw [show (8 : Int32) = nI 8 from rfl, gmul]
        refine j_p (nx := 32) hJ dX6_removeWord_31 rfl rfl ?_
        refine j_get (nx := 35) hJ dX6_removeWord_32 rfl fX6_22 hP1.1.1 (by rfl) ?_
        refine j_c (nx := 37) hJ dX6_removeWord_35 rfl gk_bipush_8 ?_
        refine j_p (nx := 38) hJ dX6_removeWord_37 rfl rfl ?_
        refine j_c (nx := 39) hJ dX6_removeWord_38 rfl gk_iconst_1 ?_
        refine j_p (nx := 40) hJ dX6_removeWord_39 rfl rfl ?_
        rw [show nI (r + i + 1) - 1 = nI (r + i) from gsub (b := 1) (by omega)]
        refine j_p (nx := 41) hJ dX6_removeWord_40 rfl rfl ?_
        rw [show (8 : Int32) = nI 8 from rfl, gmul]
        refine j_c (nx := 43) hJ dX6_removeWord_41 rfl gk_bipush_8 ?_
        refine j_acp (nx := 46) hJ (8 * (r + i + 1)) (8 * (r + i)) 8 dX6_removeWord_43 rfl mX6_125 (gle8 rfl) (show h1 102 = some (gia 48 (A1 102)) from hP1.a 102 (by unfold gia'; omega)) (show h1 102 = some (gia 48 (A1 102)) from hP1.a 102 (by unfold gia'; omega)) rfl rfl rfl (by omega) (by omega) (by decide) (by decide) ?_
        have hP2 := hP1.arr (a := 102) (by unfold gia'; omega) (va_cpy (A1 102) (A1 102) (8 * (r + i + 1)) (8 * (r + i)) 8)
        refine j_p (nx := 47) hJ dX6_removeWord_46 rfl rfl ?_
        refine j_get (nx := 50) hJ dX6_removeWord_47 rfl fX6_25 hP2.1.1 (by rfl) ?_
        refine j_p (nx := 51) hJ dX6_removeWord_50 rfl rfl ?_
        refine j_c (nx := 52) hJ dX6_removeWord_51 rfl gk_iconst_1 ?_
        refine j_p (nx := 53) hJ dX6_removeWord_52 rfl rfl ?_
        rw [show nI (r + i + 1) - 1 = nI (r + i) from gsub (b := 1) (by omega)]
        refine j_p (nx := 54) hJ dX6_removeWord_53 rfl rfl ?_
        refine j_get (nx := 57) hJ dX6_removeWord_54 rfl fX6_25 hP2.1.1 (by rfl) ?_
        refine j_p (nx := 58) hJ dX6_removeWord_57 rfl rfl ?_
        refine j_iald (j := r + i + 1) (nx := 59) hJ dX6_removeWord_58 rfl (show (gup h1 102 (gia 48 (va_cpy (A1 102) (A1 102) (8 * (r + i + 1)) (8 * (r + i)) 8))) 103 = some (gia 6 (A1 103)) from hP2.a 103 (by unfold gia'; omega)) rfl (by omega) (by decide) ?_
        refine j_iast (j := r + i) (nx := 60) hJ dX6_removeWord_59 rfl (show (gup h1 102 (gia 48 (va_cpy (A1 102) (A1 102) (8 * (r + i + 1)) (8 * (r + i)) 8))) 103 = some (gia 6 (A1 103)) from hP2.a 103 (by unfold gia'; omega)) rfl (by omega) (by decide) ?_
        have hP3 := hP2.arr (a := 103) (by unfold gia'; omega) (upd (A1 103) (r + i) (A1 103 (r + i + 1)))
        refine j_inc (nx := 63) hJ dX6_removeWord_60 rfl rfl (gi1 _) rfl ?_
        refine j_go (tgt := 15) hJ dX6_removeWord_63 (by decide) ?_
        refine ih (by omega) _ (gU (gU A1 102 (va_cpy (A1 102) (A1 102) (8 * (r + i + 1)) (8 * (r + i)) 8)) 103 (upd (A1 103) (r + i) (A1 103 (r + i + 1)))) hP3 (fun u hu => ?_) (fun a p1 p2 => (gU_n _ _ p2).trans ((gU_n _ _ p1).trans (hA1 a p1 p2)))
        have h102 : (gU (gU A1 102 (va_cpy (A1 102) (A1 102) (8 * (r + i + 1)) (8 * (r + i)) 8)) 103 (upd (A1 103) (r + i) (A1 103 (r + i + 1)))) 102 = (va_cpy (A1 102) (A1 102) (8 * (r + i + 1)) (8 * (r + i)) 8) := rfl
        have h103 : (gU (gU A1 102 (va_cpy (A1 102) (A1 102) (8 * (r + i + 1)) (8 * (r + i)) 8)) 103 (upd (A1 103) (r + i) (A1 103 (r + i + 1)))) 103 = upd (A1 103) (r + i) (A1 103 (r + i + 1)) := rfl
        rw [h102, h103]
        by_cases e1 : u = r + i
        · subst e1
          have hw := hsl (r + i + 1) (by omega)
          have eR : gUr R r (r + i + 1) (25 + 2 * (r + i + 1)) = gUr R r (r + (i + 1) + 1) (25 + 2 * (r + i)) := by
            unfold gUr
            rw [if_neg (by omega), if_pos ⟨by omega, by omega⟩, show 25 + 2 * (r + i) + 2 = 25 + 2 * (r + i + 1) by omega]
          rw [eR] at hw
          refine ⟨by simp [upd]; exact hw.1, hw.2.1, gSt.of (fun j hj => ?_)⟩
          have := hw.2.1
          unfold va_cpy
          rw [if_pos ⟨by omega, by omega⟩, show 8 * (r + i + 1) + (8 * (r + i) + j - 8 * (r + i)) = 8 * (r + i + 1) + j by omega]
          exact hw.2.2.get hj
        · have hw := hsl u hu
          have eR : gUr R r (r + i + 1) (25 + 2 * u) = gUr R r (r + (i + 1) + 1) (25 + 2 * u) := by
            unfold gUr
            by_cases q : 25 + 2 * r ≤ 25 + 2 * u ∧ 25 + 2 * u + 2 < 25 + 2 * (r + i + 1)
            · rw [if_pos q, if_pos ⟨q.1, by omega⟩]
            · rw [if_neg q, if_neg (by omega)]
          rw [eR] at hw
          exact hw.keep (fun j h1 h2 => gcpy_out (by omega)) (by simp only [upd]; rw [if_neg e1])
    exact loop 0 (Nat.zero_le _) h A hP (fun u hu => by rw [show gUr R r (r + 0 + 1) (25 + 2 * u) = R (25 + 2 * u) from if_neg (by omega)]; exact hG.2.2.2.1 u (by omega) (by omega)) (fun _ _ _ => rfl)
  · refine j_p (nx := 1) hJ dX6_removeWord_0 rfl rfl ?_
    refine j_p (nx := 2) hJ dX6_removeWord_1 rfl rfl ?_
    refine j_cvR (nx := 5) hJ dX6_removeWord_2 rfl (r6_isInSample (d := d + 57) hP hG hss1 hss6 _) mX6_236 hP.1.1 kX6_isInSample rfl (gle8 rfl) ?_
    rw [show gbt _ ss = false from Bool.eq_false_iff.mpr hx]
    refine j_if_ne (nx := 8) (tgt := 11) hJ dX6_removeWord_5 rfl (by decide) (fun c5 => absurd c5 (by decide)) (fun c5 => ?_)
    refine j_c (nx := 10) hJ dX6_removeWord_8 rfl gk_bipush_m6 ?_
    have e : s_removeWord R N x = (-6, R, N) := by unfold s_removeWord; rw [egs]; exact if_neg hx
    exact j_iret hJ dX6_removeWord_10 ⟨by rw [e], by rw [e]; exact ⟨A, E, M, pv, tv, hP, hG⟩⟩
