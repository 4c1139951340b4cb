theorem gG.smp {A A' : Nat → Nat → Int32} {E : Nat → Nat → Int64} {M M' : Nat → Int32} {R : Nat → List Int32} {N : Nat → Int32} (hG : gG A E M R N) {r : Nat} (hs : N 2 = nI r) (hr : r < 6) {l : List Int32} (hl : gSl (A' 102) (A' 103) r l) (h102 : ∀ i, (i < 8 * r ∨ 8 * r + 8 ≤ i) → A' 102 i = A 102 i) (h103 : ∀ i, i ≠ r → A' 103 i = A 103 i) (hA : ∀ a, a ≠ 102 → a ≠ 103 → (a ≤ 106 ∨ a = 116 ∨ a = 117 ∨ 120 ≤ a) → A' a = A a) (hM : M' 0 = M 0 ∧ M' 5 = nI (r + 1) ∧ M' 9 = M 9 ∧ M' 33 = M 33 ∧ M' 34 = M 34 ∧ M' 35 = M 35) : gG A' E M' (gU R (25 + 2 * r) l) (gU N 2 (nI (r + 1))) := by
  obtain ⟨⟨a1, a2, a3, a4, a5, a6⟩, b, c, d, e, f⟩ := hG
  have e1 : gss N = r := gss_nI hs (by omega)
  have e2 : gss (gU N 2 (nI (r + 1))) = r + 1 := gss_nI (gU_s _ _ _) (by omega)
  refine ⟨⟨hM.1.trans a1, hM.2.1, by rw [gU_n _ _ (by omega)]; exact hM.2.2.1.trans a3, hM.2.2.2.1.trans a4, by rw [gU_n _ _ (by omega)]; exact a5, by rw [gU_n _ _ (by omega), hA 106 (by omega) (by omega) (by omega)]; exact a6⟩, fun s hs => ?_, fun v hv => ?_, fun w hw hw2 => ?_, fun i hi => ?_, fun q => ?_⟩
  · rw [gU_n _ _ (by omega), hA 100 (by omega) (by omega) (by omega), hA 101 (by omega) (by omega) (by omega)]; exact b s hs
  · rw [gU_n _ _ (by omega), hA 104 (by omega) (by omega) (by omega), hA 105 (by omega) (by omega) (by omega)]; exact c v hv
  · by_cases e9 : w = r
    · subst e9; rw [gU_s]; exact hl
    · rw [gU_n _ _ (by omega)]
      exact (d w hw (by omega)).keep (fun i h1 h2 => h102 i (by omega)) (h103 w e9)
  · rw [gU_n _ _ (by omega), hA 116 (by omega) (by omega) (by omega), hA 117 (by omega) (by omega) (by omega), gU_n _ _ (by omega)]; exact e i hi
  · obtain ⟨f1, f2, f3, f4, f5⟩ := f q
    refine ⟨hM.2.2.2.2.1.trans f1, hM.2.2.2.2.2.trans f2, fun s hs => ?_, fun v hv => ?_, fun w hw hw2 => ?_⟩
    · rw [gU_n _ _ (by omega), hA 120 (by omega) (by omega) (by omega), hA 121 (by omega) (by omega) (by omega)]; exact f3 s hs
    · rw [gU_n _ _ (by omega), hA 124 (by omega) (by omega) (by omega), hA 125 (by omega) (by omega) (by omega)]; exact f4 v hv
    · rw [gU_n _ _ (by omega), hA 122 (by omega) (by omega) (by omega), hA 123 (by omega) (by omega) (by omega)]; exact f5 w hw hw2
set_option maxHeartbeats 4000000 in
theorem r6_addToSample {d : Nat} {h0 h : GH} {A : Nat → Nat → Int32} {E : Nat → Nat → Int64} {M : Nat → Int32} {pv tv : Value} (hP : gP h0 h A E M pv tv) {R : Nat → List Int32} {N : Nat → Int32} (hG : gG A E M R N) {ss : Nat} (hs : N 2 = nI ss) (hss : ss < 6) {t : List Int32} (hM : M 11 = nI t.length) (h8 : t.length ≤ 8) (hst : gSt (A 107) 0 t) : gN false (d + 1) yX6_addToSample [.ref 99] h (fun o h' => o = some (.int (nI (ss + 1))) ∧ gRS h0 h' (gU R (25 + 2 * ss) t) (gU N 2 (nI (ss + 1)))) := by
  have g5 : M 5 = nI ss := hG.1.2.1.trans hs
  refine gN.of MX6_addToSample (Nat.le_of_ble_eq_true rfl) (fun J n hJ => ?_)
  show J 0 [some (.ref 99)] [] h (n, 0, 0, false)
  refine j_p (nx := 1) hJ dX6_addToSample_0 rfl rfl ?_
  refine j_get (nx := 4) hJ dX6_addToSample_1 rfl fX6_37 hP.1.1 (by rfl) ?_
  refine j_c (nx := 5) hJ dX6_addToSample_4 rfl gk_iconst_0 ?_
  refine j_p (nx := 6) hJ dX6_addToSample_5 rfl rfl ?_
  refine j_get (nx := 9) hJ dX6_addToSample_6 rfl fX6_22 hP.1.1 (by rfl) ?_
  refine j_c (nx := 11) hJ dX6_addToSample_9 rfl gk_bipush_8 ?_
  refine j_p (nx := 12) hJ dX6_addToSample_11 rfl rfl ?_
  refine j_get (nx := 15) hJ dX6_addToSample_12 rfl fX6_98 hP.1.1 (by rfl) ?_
  rw [g5]
  refine j_p (nx := 16) hJ dX6_addToSample_15 rfl rfl ?_
  rw [show (8 : Int32) = nI 8 from rfl, gmul]
  refine j_p (nx := 17) hJ dX6_addToSample_16 rfl rfl ?_
  refine j_get (nx := 20) hJ dX6_addToSample_17 rfl fX6_112 hP.1.1 (by rfl) ?_
  rw [hM]
  refine j_acp (nx := 23) hJ 0 (8 * ss) t.length dX6_addToSample_20 rfl mX6_125 (gle8 rfl) (show h 107 = some (gia 8 (A 107)) from hP.a 107 (by unfold gia'; omega)) (show h 102 = some (gia 48 (A 102)) from hP.a 102 (by unfold gia'; omega)) rfl rfl rfl (by omega) (by omega) (by decide) (by decide) ?_
  have hP1 := hP.arr (a := 102) (by unfold gia'; omega) (va_cpy (A 107) (A 102) 0 (8 * ss) t.length)
  refine j_p (nx := 24) hJ dX6_addToSample_23 rfl rfl ?_
  refine j_get (nx := 27) hJ dX6_addToSample_24 rfl fX6_25 hP1.1.1 (by rfl) ?_
  refine j_p (nx := 28) hJ dX6_addToSample_27 rfl rfl ?_
  refine j_get (nx := 31) hJ dX6_addToSample_28 rfl fX6_98 hP1.1.1 (by rfl) ?_
  rw [g5]
  refine j_p (nx := 32) hJ dX6_addToSample_31 rfl rfl ?_
  refine j_get (nx := 35) hJ dX6_addToSample_32 rfl fX6_112 hP1.1.1 (by rfl) ?_
  rw [hM]
  refine j_iast (j := ss) (nx := 36) hJ dX6_addToSample_35 rfl (show (gup h 102 (gia 48 (va_cpy (A 107) (A 102) 0 (8 * ss) t.length))) 103 = some (gia 6 ((gU A 102 (va_cpy (A 107) (A 102) 0 (8 * ss) t.length)) 103)) from hP1.a 103 (by unfold gia'; omega)) rfl (by omega) (by decide) ?_
  have hP2 := hP1.arr (a := 103) (by unfold gia'; omega) (upd ((gU A 102 (va_cpy (A 107) (A 102) 0 (8 * ss) t.length)) 103) (ss) (nI t.length))
  refine j_p (nx := 37) hJ dX6_addToSample_36 rfl rfl ?_
  refine j_p (nx := 38) hJ dX6_addToSample_37 rfl rfl ?_
  refine j_get (nx := 41) hJ dX6_addToSample_38 rfl fX6_98 hP2.1.1 (by rfl) ?_
  rw [g5]
  refine j_c (nx := 42) hJ dX6_addToSample_41 rfl gk_iconst_1 ?_
  refine j_p (nx := 43) hJ dX6_addToSample_42 rfl rfl ?_
  rw [show nI ss + 1 = nI (ss + 1) from (nI_succ ss).symm]
  refine j_put (nx := 46) hJ dX6_addToSample_43 rfl fX6_98 (zX6_5 _) hP2.1.1 (Nat.le_of_ble_eq_true rfl) ?_
  change J 46 _ _ (gup (gup (gup h 102 (gia 48 (va_cpy (A 107) (A 102) 0 (8 * ss) t.length))) 103 (gia 6 (upd (A 103) ss (nI t.length)))) 99 (gO (gU M 5 (nI (ss + 1))) pv tv)) _
  have hP3 := hP2.fld (gU M 5 (nI (ss + 1))) pv tv
  refine j_p (nx := 47) hJ dX6_addToSample_46 rfl rfl ?_
  refine j_get (nx := 50) hJ dX6_addToSample_47 rfl fX6_98 hP3.1.1 (by rfl) ?_
  refine j_iret hJ dX6_addToSample_50 ⟨rfl, _, _, _, _, _, hP3, hG.smp hs hss ⟨?_, h8, ?_⟩ (fun i hi => ?_) (fun i hi => ?_) (fun a p1 p2 _ => ?_) ⟨rfl, rfl, rfl, rfl, rfl, rfl⟩⟩
  · rw [gU_s]; simp [upd]
  · rw [gU_n _ _ (by omega), gU_s]; exact gcpy_st hst
  · rw [gU_n _ _ (by omega), gU_s, gcpy_out (by omega)]
  · rw [gU_s]; simp only [upd]; rw [if_neg hi]; rfl
  · rw [gU_n _ _ p2, gU_n _ _ p1]
set_option maxHeartbeats 4000000 in
theorem r6_addWord {d : Nat} {h0 h : GH} {R : Nat → List Int32} {N : Nat → Int32} (hS : gRS h0 h R N) (hI : gInv R N) : gN false (d + 60) yX6_addWord [.ref 99] h (fun o h' => o = some (.int (s_addWord R N).1) ∧ gRS h0 h' (s_addWord R N).2.1 (s_addWord R N).2.2) := by
  obtain ⟨A, E, M, pv, tv, hP, hG⟩ := hS
  have g0 := hG.1.1
  have g9 := hG.1.2.2.1
  obtain ⟨⟨k, ss, hk1, hk3, hss1, hss6, hpt, him, hsm⟩, hI2, hI3, hI4, hI5⟩ := hI
  have g5 : M 5 = nI ss := hG.1.2.1.trans hss1
  have egs := gss_nI hss1 hss6
  refine gN.of MX6_addWord (Nat.le_of_ble_eq_true rfl) (fun J n hJ => ?_)
  show J 0 [some (.ref 99)] [] h (n, 0, 0, false)
  refine j_p (nx := 1) hJ dX6_addWord_0 rfl rfl ?_
  refine j_c (nx := 2) hJ dX6_addWord_1 rfl gk_iconst_0 ?_
  refine j_cv (nx := 5) hJ dX6_addWord_2 rfl (r6_takeInput (d := d + 56) hP hG (g0.trans hk1) hk3.2 false) mX6_135 hP.1.1 kX6_takeInput rfl (gle8 rfl) (fun o h1 hp => ?_)
  obtain ⟨rfl, f, hP1, hf⟩ := hp
  rw [gtk_f (g0.trans hk1) hk3.2] at hf ⊢
  rw [g0] at hf ⊢
  have hG1 : gG (gU A 107 f) E (gU (gU M 11 (nI (R 73).length)) 9 0) (gU R 73 []) N := hG.inp (l := []) (by show 0 ≤ 20; omega) rfl (fun i v hv => by cases hv) ⟨rfl, rfl, rfl, rfl, rfl⟩ (fun a _ p => gU_n _ _ (by omega))
  refine j_if_ne (nx := 8) (tgt := 11) hJ dX6_addWord_5 rfl (by decide) (fun c5 => ?_) (fun c5 => ?_)
  rotate_left
  · have hg := gsome_f c5
    have e : s_addWord R N = (-5, gU R 73 [], N) := by unfold s_addWord; rw [hg]
    refine j_c (nx := 10) hJ dX6_addWord_8 rfl gk_bipush_m5 ?_
    exact j_iret hJ dX6_addWord_10 ⟨by rw [e], by rw [e]; exact ⟨_, _, _, _, _, hP1, hG1⟩⟩
  obtain ⟨t, hg⟩ := gsome_t c5
  obtain ⟨ht1, ht2, ht3, ht4⟩ := gwd_v hg
  have hst := hf (by rw [hg]; rfl)
  rw [← ht1] at hst
  have htl : t.length = (R 73).length := by rw [ht1, List.length_map]
  refine j_p (nx := 12) hJ dX6_addWord_11 rfl rfl ?_
  refine j_get (nx := 15) hJ dX6_addWord_12 rfl fX6_98 hP1.1.1 (by rfl) ?_
  rw [show (gU (gU M 11 (nI (R 73).length)) 9 0) 5 = nI ss from g5]
  refine j_c (nx := 17) hJ dX6_addWord_15 rfl gk_bipush_6 ?_
  refine j_ic_ne (nx := 20) (tgt := 25) hJ dX6_addWord_17 rfl (by decide) (fun c17 => ?_) (fun c17 => ?_)
  · rw [show (6 : Int32) = nI 6 from rfl, gneq (by omega) (by omega)] at c17
    refine j_p (nx := 26) hJ dX6_addWord_25 rfl rfl ?_
    refine j_cv (nx := 29) hJ dX6_addWord_26 rfl (r6_addToSample (d := d + 58) hP1 hG1 hss1 (by omega) (t := t) (by show nI _ = _; rw [htl]) (by omega) (by rw [gU_s]; exact hst)) mX6_233 hP1.1.1 kX6_addToSample rfl (gle8 rfl) (fun o h2 hp => ?_)
    obtain ⟨rfl, hS2⟩ := hp
    have e : s_addWord R N = (nI (ss + 1), gU (gU R 73 []) (25 + 2 * ss) t, gU N 2 (nI (ss + 1))) := by unfold s_addWord; rw [hg]; show s_add _ _ _ = _; unfold s_add; rw [egs]; exact if_pos (by omega)
    exact j_iret hJ dX6_addWord_29 ⟨by rw [e], by rw [e]; exact hS2⟩
  · refine j_c (nx := 22) hJ dX6_addWord_20 rfl gk_bipush_m4 ?_
    refine j_go (tgt := 29) hJ dX6_addWord_22 (by decide) ?_
    rw [show (6 : Int32) = nI 6 from rfl, gneq (by omega) (by omega)] at c17
    have e : s_addWord R N = (-4, gU R 73 [], N) := by unfold s_addWord; rw [hg]; show s_add _ _ _ = _; unfold s_add; rw [egs]; exact if_neg (by omega)
    exact j_iret hJ dX6_addWord_29 ⟨by rw [e], by rw [e]; exact ⟨_, _, _, _, _, hP1, hG1⟩⟩
set_option maxHeartbeats 4000000 in
theorem r6_sampleSize {d : Nat} {h0 h : GH} {R : Nat → List Int32} {N : Nat → Int32} (hS : gRS h0 h R N) : gN false (d + 60) yX6_sampleSize [.ref 99] h (fun o h' => o = some (.int (N 2)) ∧ gRS h0 h' R N) := by
  obtain ⟨A, E, M, pv, tv, hP, hG⟩ := hS
  refine gN.of MX6_sampleSize (Nat.le_of_ble_eq_true rfl) (fun J n hJ => ?_)
  show J 0 [some (.ref 99)] [] h (n, 0, 0, false)
  refine j_p (nx := 1) hJ dX6_sampleSize_0 rfl rfl ?_
  refine j_get (nx := 4) hJ dX6_sampleSize_1 rfl fX6_98 hP.1.1 (by rfl) ?_
  exact j_iret hJ dX6_sampleSize_4 ⟨congrArg (fun z => some (Value.int z)) hG.1.2.1, A, E, M, pv, tv, hP, hG⟩
theorem gin_n {n : Nat} (h : n ≤ 1000) (p : Int32) : gin p 0 (nI n - 1) = gbt p n := by
  unfold gin gbt
  congr 1
  rw [Int32.le_iff_toInt_le, Int32.le_iff_toInt_le, Int32.toInt_zero, show (nI n - 1 : Int32).toInt = (n : Int) - 1 from gsl2 (b := 1) h (by omega)]
  apply propext
  omega
set_option maxHeartbeats 4000000 in
theorem r6_isInSample {d : Nat} {h0 h : GH} {A : Nat → Nat → Int32} {E : Nat → Nat → Int64} {M : Nat → Int32} {pv tv : Value} (hP : gP h0 h A E M pv tv) {R : Nat → List Int32} {N : Nat → Int32} (hG : gG A E M R N) {ss : Nat} (hs : N 2 = nI ss) (hss : ss ≤ 6) (x : Int32) : gR false (d + 2) yX6_isInSample [.ref 99, .int x] h (.int (gb (gbt x ss))) := by
  have g5 : M 5 = nI ss := hG.1.2.1.trans hs
  refine gN.of MX6_isInSample (Nat.le_of_ble_eq_true rfl) (fun J n hJ => ?_)
  show J 0 [some (.ref 99), some (.int x)] [] h (n, 0, 0, false)
  refine j_p (nx := 1) hJ dX6_isInSample_0 rfl rfl ?_
  refine j_c (nx := 2) hJ dX6_isInSample_1 rfl gk_iconst_0 ?_
  refine j_p (nx := 3) hJ dX6_isInSample_2 rfl rfl ?_
  refine j_get (nx := 6) hJ dX6_isInSample_3 rfl fX6_98 hP.1.1 (by rfl) ?_
  rw [g5]
  refine j_c (nx := 7) hJ dX6_isInSample_6 rfl gk_iconst_1 ?_
  refine j_p (nx := 8) hJ dX6_isInSample_7 rfl rfl ?_
  refine j_csR (nx := 11) hJ dX6_isInSample_8 rfl (r6_in (fl := false) (d := d) x 0 (nI ss - 1)) mX6_101 rfl (gle8 rfl) ?_
  rw [gin_n (by omega)]
  exact j_zret hJ _ dX6_isInSample_11 rfl ⟨rfl, rfl⟩
