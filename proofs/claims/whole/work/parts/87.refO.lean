theorem gG.img {A A' : Nat → Nat → Int32} {E : Nat → Nat → Int64} {M : Nat → Int32} {R : Nat → List Int32} {N : Nat → Int32} (hG : gG A E M R N) {r : Nat} (hr : r < 4) {l : List Int32} (hl : gSl (A' 104) (A' 105) r l) (h104 : ∀ i, (i < 8 * r ∨ 8 * r + 8 ≤ i) → A' 104 i = A 104 i) (h105 : ∀ i, i ≠ r → A' 105 i = A 105 i) (hA : ∀ a, a ≠ 104 → a ≠ 105 → (a ≤ 106 ∨ a = 116 ∨ a = 117 ∨ 120 ≤ a) → A' a = A a) : gG A' E M (gU R (17 + 2 * r) l) N := by
  obtain ⟨⟨a1, a2, a3, a4, a5, a6⟩, b, c, d, e, f⟩ := hG
  refine ⟨⟨a1, a2, by rw [gU_n _ _ (by omega)]; exact a3, a4, by rw [gU_n _ _ (by omega)]; exact a5, by rw [gU_n _ _ (by omega), hA 106 (by omega) (by omega) (by omega)]; exact a6⟩, fun s hs => ?_, fun v hv => ?_, fun w hw hw2 => ?_, fun i hi => ?_, fun q => ?_⟩
  · rw [gU_n _ _ (by omega), hA 100 (by omega) (by omega) (by omega), hA 101 (by omega) (by omega) (by omega)]; exact b s hs
  · by_cases e9 : v = r
    · subst e9; rw [gU_s]; exact hl
    · rw [gU_n _ _ (by omega)]
      exact (c v hv).keep (fun i h1 h2 => h104 i (by omega)) (h105 v e9)
  · rw [gU_n _ _ (by omega), hA 102 (by omega) (by omega) (by omega), hA 103 (by omega) (by omega) (by omega)]; exact d w hw hw2
  · rw [gU_n _ _ (by omega), hA 116 (by omega) (by omega) (by omega), hA 117 (by omega) (by omega) (by omega)]; exact e i hi
  · obtain ⟨f1, f2, f3, f4, f5⟩ := f q
    refine ⟨f1, f2, fun s hs => ?_, fun v hv => ?_, fun w hw hw2 => ?_⟩
    · rw [gU_n _ _ (by omega), hA 120 (by omega) (by omega) (by omega), hA 121 (by omega) (by omega) (by omega)]; exact f3 s hs
    · rw [gU_n _ _ (by omega), hA 124 (by omega) (by omega) (by omega), hA 125 (by omega) (by omega) (by omega)]; exact f4 v hv
    · rw [gU_n _ _ (by omega), hA 122 (by omega) (by omega) (by omega), hA 123 (by omega) (by omega) (by omega)]; exact f5 w hw hw2
theorem gcpy_st {f g : Nat → Int32} {t : List Int32} {s o : Nat} (h : gSt f s t) : gSt (va_cpy f g s o t.length) o t := gSt.of (fun i hi => by
  unfold va_cpy
  rw [if_pos ⟨by omega, by omega⟩, show s + (o + i - o) = s + i by omega]
  exact h.get hi)
theorem gcpy_out {f g : Nat → Int32} {s o n i : Nat} (h : i < o ∨ o + n ≤ i) : va_cpy f g s o n i = g i := by
  unfold va_cpy
  rw [if_neg (by omega)]
set_option maxHeartbeats 4000000 in
theorem r6_setImage {d : Nat} {h0 h : GH} {R : Nat → List Int32} {N : Nat → Int32} (hS : gRS h0 h R N) (hI : gInv R N) (x : Int32) : gN false (d + 60) yX6_setImage [.ref 99, .int x] h (fun o h' => o = some (.int (s_setImage R N x).1) ∧ gRS h0 h' (s_setImage R N x).2.1 (s_setImage R N x).2.2) := by
  obtain ⟨A, E, M, pv, tv, hP, hG⟩ := hS
  have g0 := hG.1.1
  have g9 := hG.1.2.2.1
  obtain ⟨⟨k, ss, hk1, hk3, hss1, hss6, hpt, him, hsm⟩, hI2, hI3, hI4, hI5⟩ := hI
  refine gN.of MX6_setImage (Nat.le_of_ble_eq_true rfl) (fun J n hJ => ?_)
  show J 0 [some (.ref 99), some (.int x), none] [] h (n, 0, 0, false)
  by_cases hx : gbt x 4 = true
  · obtain ⟨r, rfl, hr⟩ := gbt_spec hx
    have egi := gi_nI (r := r) (by omega)
    have hl := hG.2.2.1 r hr
    have hl8 := hl.2.1
    refine j_p (nx := 1) hJ dX6_setImage_0 rfl rfl ?_
    refine j_c (nx := 2) hJ dX6_setImage_1 rfl gk_iconst_0 ?_
    refine j_cv (nx := 5) hJ dX6_setImage_2 rfl (r6_takeInput (d := d + 56) hP hG (g0.trans hk1) hk3.2 false) mX6_135 hP.1.1 kX6_takeInput rfl (gle8 rfl) (fun o h1 hp => ?_)
    obtain ⟨rfl, f, hP1, hf⟩ := hp
    rw [gtk_f (g0.trans hk1) hk3.2] at hf ⊢
    rw [g0] at hf ⊢
    have hG1 : gG (gU A 107 f) E (gU (gU M 11 (nI (R 73).length)) 9 0) (gU R 73 []) N := hG.inp (l := []) (by show 0 ≤ 20; omega) rfl (fun i v hv => by cases hv) ⟨rfl, rfl, rfl, rfl, rfl⟩ (fun a _ p => gU_n _ _ (by omega))
    refine j_p (nx := 6) hJ dX6_setImage_5 rfl rfl ?_
    refine j_p (nx := 7) hJ dX6_setImage_6 rfl rfl ?_
    refine j_c (nx := 8) hJ dX6_setImage_7 rfl gk_iconst_0 ?_
    refine j_c (nx := 9) hJ dX6_setImage_8 rfl gk_iconst_3 ?_
    refine j_csR (nx := 12) hJ dX6_setImage_9 rfl (r6_in (fl := false) (d := d + 58) _ 0 3) mX6_101 rfl (gle8 rfl) ?_
    rw [show gin _ 0 3 = true from (gin_bt _ 3 (by omega)).trans hx]
    refine j_if_ne (nx := 15) (tgt := 18) hJ dX6_setImage_12 rfl (by decide) (fun c12 => ?_) (fun c12 => absurd c12 (by decide))
    refine j_p (nx := 19) hJ dX6_setImage_18 rfl rfl ?_
    refine j_if_ne (nx := 22) (tgt := 25) hJ dX6_setImage_19 rfl (by decide) (fun c19 => ?_) (fun c19 => ?_)
    rotate_left
    · have hg := gsome_f c19
      have e : s_setImage R N (nI r) = (-5, gU R 73 [], N) := by unfold s_setImage; rw [if_pos hx, hg]
      refine j_c (nx := 24) hJ dX6_setImage_22 rfl gk_bipush_m5 ?_
      exact j_iret hJ dX6_setImage_24 ⟨by rw [e], by rw [e]; exact ⟨_, _, _, _, _, hP1, hG1⟩⟩
    obtain ⟨t, hg⟩ := gsome_t c19
    obtain ⟨ht1, ht2, ht3, ht4⟩ := gwd_v hg
    have hst := hf (by rw [hg]; rfl)
    rw [← ht1] at hst
    have htl : t.length = (R 73).length := by rw [ht1, List.length_map]
    have hM11 : (gU (gU M 11 (nI (R 73).length)) 9 0) 11 = nI t.length := by rw [htl]; rfl
    refine j_p (nx := 26) hJ dX6_setImage_25 rfl rfl ?_
    refine j_get (nx := 29) hJ dX6_setImage_26 rfl fX6_37 hP1.1.1 (by rfl) ?_
    refine j_c (nx := 30) hJ dX6_setImage_29 rfl gk_iconst_0 ?_
    refine j_p (nx := 31) hJ dX6_setImage_30 rfl rfl ?_
    refine j_get (nx := 34) hJ dX6_setImage_31 rfl fX6_28 hP1.1.1 (by rfl) ?_
    refine j_c (nx := 36) hJ dX6_setImage_34 rfl gk_bipush_8 ?_
    refine j_p (nx := 37) hJ dX6_setImage_36 rfl rfl ?_
    refine j_p (nx := 38) hJ dX6_setImage_37 rfl rfl ?_
    rw [show (8 : Int32) = nI 8 from rfl, gmul]
    refine j_p (nx := 39) hJ dX6_setImage_38 rfl rfl ?_
    refine j_get (nx := 42) hJ dX6_setImage_39 rfl fX6_112 hP1.1.1 (by rfl) ?_
    rw [hM11]
    refine j_acp (nx := 45) hJ 0 (8 * r) t.length dX6_setImage_42 rfl mX6_125 (gle8 rfl) (show h1 107 = some (gia 8 f) from hP1.a 107 (by unfold gia'; omega)) (show h1 104 = some (gia 32 (A 104)) from hP1.a 104 (by unfold gia'; omega)) rfl rfl rfl (by omega) (by omega) (by decide) (by decide) ?_
    have hP2 := hP1.arr (a := 104) (by unfold gia'; omega) (va_cpy f (A 104) 0 (8 * r) t.length)
    refine j_p (nx := 46) hJ dX6_setImage_45 rfl rfl ?_
    refine j_get (nx := 49) hJ dX6_setImage_46 rfl fX6_31 hP2.1.1 (by rfl) ?_
    refine j_p (nx := 50) hJ dX6_setImage_49 rfl rfl ?_
    refine j_p (nx := 51) hJ dX6_setImage_50 rfl rfl ?_
    refine j_get (nx := 54) hJ dX6_setImage_51 rfl fX6_112 hP2.1.1 (by rfl) ?_
    rw [hM11]
    refine j_iast (j := r) (nx := 55) hJ dX6_setImage_54 rfl (show (gup h1 104 (gia 32 (va_cpy f (A 104) 0 (8 * r) t.length))) 105 = some (gia 4 ((gU (gU A 107 f) 104 (va_cpy f (A 104) 0 (8 * r) t.length)) 105)) from hP2.a 105 (by unfold gia'; omega)) rfl (by omega) (by decide) ?_
    have hP3 := hP2.arr (a := 105) (by unfold gia'; omega) (upd ((gU (gU A 107 f) 104 (va_cpy f (A 104) 0 (8 * r) t.length)) 105) (r) (nI t.length))
    refine j_p (nx := 56) hJ dX6_setImage_55 rfl rfl ?_
    refine j_get (nx := 59) hJ dX6_setImage_56 rfl fX6_112 hP3.1.1 (by rfl) ?_
    rw [hM11]
    have e : s_setImage R N (nI r) = (nI t.length, gU (gU R 73 []) (17 + 2 * r) t, N) := by unfold s_setImage; rw [if_pos hx, hg, egi]
    refine j_iret hJ dX6_setImage_59 ⟨by rw [e], ?_⟩
    rw [e]
    refine ⟨_, _, _, _, _, hP3, hG1.img hr ⟨?_, by omega, ?_⟩ (fun i hi => ?_) (fun i hi => ?_) (fun a p1 p2 _ => ?_)⟩
    · rw [gU_s]; simp [upd]
    · rw [gU_n _ _ (by omega), gU_s]; exact gcpy_st hst
    · rw [gU_n _ _ (by omega), gU_s, gcpy_out (by omega)]; rfl
    · rw [gU_s]; simp only [upd]; rw [if_neg hi]; rfl
    · rw [gU_n _ _ p2, gU_n _ _ p1]
  · refine j_p (nx := 1) hJ dX6_setImage_0 rfl rfl ?_
    refine j_c (nx := 2) hJ dX6_setImage_1 rfl gk_iconst_0 ?_
    refine j_cv (nx := 5) hJ dX6_setImage_2 rfl (r6_takeInput (d := d + 56) hP hG (g0.trans hk1) hk3.2 false) mX6_135 hP.1.1 kX6_takeInput rfl (gle8 rfl) (fun o h1 hp => ?_)
    obtain ⟨rfl, f, hP1, hf⟩ := hp
    rw [gtk_f (g0.trans hk1) hk3.2] at hf ⊢
    rw [g0] at hf ⊢
    have hG1 : gG (gU A 107 f) E (gU (gU M 11 (nI (R 73).length)) 9 0) (gU R 73 []) N := hG.inp (l := []) (by show 0 ≤ 20; omega) rfl (fun i v hv => by cases hv) ⟨rfl, rfl, rfl, rfl, rfl⟩ (fun a _ p => gU_n _ _ (by omega))
    refine j_p (nx := 6) hJ dX6_setImage_5 rfl rfl ?_
    refine j_p (nx := 7) hJ dX6_setImage_6 rfl rfl ?_
    refine j_c (nx := 8) hJ dX6_setImage_7 rfl gk_iconst_0 ?_
    refine j_c (nx := 9) hJ dX6_setImage_8 rfl gk_iconst_3 ?_
    refine j_csR (nx := 12) hJ dX6_setImage_9 rfl (r6_in (fl := false) (d := d + 58) _ 0 3) mX6_101 rfl (gle8 rfl) ?_
    rw [show gin _ 0 3 = false from (gin_bt _ 3 (by omega)).trans (Bool.eq_false_iff.mpr hx)]
    refine j_if_ne (nx := 15) (tgt := 18) hJ dX6_setImage_12 rfl (by decide) (fun c12 => absurd c12 (by decide)) (fun c12 => ?_)
    refine j_c (nx := 17) hJ dX6_setImage_15 rfl gk_bipush_m3 ?_
    have e : s_setImage R N x = (-3, gU R 73 [], N) := if_neg hx
    exact j_iret hJ dX6_setImage_17 ⟨by rw [e], by rw [e]; exact ⟨_, _, _, _, _, hP1, hG1⟩⟩
set_option maxHeartbeats 4000000 in
theorem r6_imageLetter {d : Nat} {h0 h : GH} {R : Nat → List Int32} {N : Nat → Int32} (hS : gRS h0 h R N) (hI : gInv R N) (x p : Int32) : gN false (d + 60) yX6_imageLetter [.ref 99, .int x, .int p] h (fun o h' => o = some (.int (s_imageLetter R x p)) ∧ gRS h0 h' R N) := by
  obtain ⟨A, E, M, pv, tv, hP, hG⟩ := hS
  have g0 := hG.1.1
  have g9 := hG.1.2.2.1
  obtain ⟨⟨k, ss, hk1, hk3, hss1, hss6, hpt, him, hsm⟩, hI2, hI3, hI4, hI5⟩ := hI
  refine gN.of MX6_imageLetter (Nat.le_of_ble_eq_true rfl) (fun J n hJ => ?_)
  show J 0 [some (.ref 99), some (.int x), some (.int p)] [] h (n, 0, 0, false)
  by_cases hx : gbt x 4 = true
  · obtain ⟨r, rfl, hr⟩ := gbt_spec hx
    have egi := gi_nI (r := r) (by omega)
    have hl := hG.2.2.1 r hr
    have hl8 := hl.2.1
    refine j_p (nx := 1) hJ dX6_imageLetter_0 rfl rfl ?_
    refine j_c (nx := 2) hJ dX6_imageLetter_1 rfl gk_iconst_0 ?_
    refine j_c (nx := 3) hJ dX6_imageLetter_2 rfl gk_iconst_3 ?_
    refine j_csR (nx := 6) hJ dX6_imageLetter_3 rfl (r6_in (fl := false) (d := d + 58) _ 0 3) mX6_101 rfl (gle8 rfl) ?_
    rw [show gin _ 0 3 = true from (gin_bt _ 3 (by omega)).trans hx]
    refine j_if_ne (nx := 9) (tgt := 12) hJ dX6_imageLetter_6 rfl (by decide) (fun c6 => ?_) (fun c6 => absurd c6 (by decide))
    refine j_p (nx := 13) hJ dX6_imageLetter_12 rfl rfl ?_
    refine j_c (nx := 14) hJ dX6_imageLetter_13 rfl gk_iconst_0 ?_
    refine j_p (nx := 15) hJ dX6_imageLetter_14 rfl rfl ?_
    refine j_get (nx := 18) hJ dX6_imageLetter_15 rfl fX6_31 hP.1.1 (by rfl) ?_
    refine j_p (nx := 19) hJ dX6_imageLetter_18 rfl rfl ?_
    refine j_iald (j := r) (nx := 20) hJ dX6_imageLetter_19 rfl (show h 105 = some (gia 4 (A 105)) from hP.a 105 (by unfold gia'; omega)) rfl (by omega) (by decide) ?_
    rw [hl.1]
    refine j_c (nx := 21) hJ dX6_imageLetter_20 rfl gk_iconst_1 ?_
    refine j_p (nx := 22) hJ dX6_imageLetter_21 rfl rfl ?_
    refine j_csR (nx := 25) hJ dX6_imageLetter_22 rfl (r6_in (fl := false) (d := d + 58) p 0 (nI (R (17 + 2 * r)).length - 1)) mX6_101 rfl (gle8 rfl) ?_
    rw [gin_ix (by omega)]
    refine j_if_eq (nx := 28) (tgt := 42) hJ dX6_imageLetter_25 rfl (by decide) (fun c25 => ?_) (fun c25 => ?_)
    · refine j_c (nx := 44) hJ dX6_imageLetter_42 rfl gk_bipush_m6 ?_
      rw [gb_f] at c25
      have e : s_imageLetter R (nI r) p = -6 := by unfold s_imageLetter; rw [if_pos hx, egi, if_pos (gat_f c25)]
      exact j_iret hJ dX6_imageLetter_44 ⟨by rw [e], ⟨A, E, M, pv, tv, hP, hG⟩⟩
    · rw [gb_t] at c25
      obtain ⟨j, rfl, hj, hgat⟩ := gix_spec c25
      refine j_p (nx := 29) hJ dX6_imageLetter_28 rfl rfl ?_
      refine j_get (nx := 32) hJ dX6_imageLetter_29 rfl fX6_28 hP.1.1 (by rfl) ?_
      refine j_c (nx := 34) hJ dX6_imageLetter_32 rfl gk_bipush_8 ?_
      refine j_p (nx := 35) hJ dX6_imageLetter_34 rfl rfl ?_
      refine j_p (nx := 36) hJ dX6_imageLetter_35 rfl rfl ?_
      rw [show (8 : Int32) = nI 8 from rfl, gmul]
      refine j_p (nx := 37) hJ dX6_imageLetter_36 rfl rfl ?_
      refine j_p (nx := 38) hJ dX6_imageLetter_37 rfl rfl ?_
      rw [gadd]
      refine j_iald (j := 8 * r + j) (nx := 39) hJ dX6_imageLetter_38 rfl (show h 104 = some (gia 32 (A 104)) from hP.a 104 (by unfold gia'; omega)) rfl (by omega) (by decide) ?_
      rw [hl.2.2.get hj]
      refine j_go (tgt := 44) hJ dX6_imageLetter_39 (by decide) ?_
      have hne : ¬ (R (17 + 2 * r)).getD j (-1) = -1 := fun q => by have := ((him r hr).2 _ (ggetD_mem hj)).1; rw [q] at this; exact absurd this (by decide)
      have e : s_imageLetter R (nI r) (nI j) = (R (17 + 2 * r)).getD j (-1) := by unfold s_imageLetter; rw [if_pos hx, egi, hgat, if_neg hne]
      exact j_iret hJ dX6_imageLetter_44 ⟨by rw [e], ⟨A, E, M, pv, tv, hP, hG⟩⟩
  · refine j_p (nx := 1) hJ dX6_imageLetter_0 rfl rfl ?_
    refine j_c (nx := 2) hJ dX6_imageLetter_1 rfl gk_iconst_0 ?_
    refine j_c (nx := 3) hJ dX6_imageLetter_2 rfl gk_iconst_3 ?_
    refine j_csR (nx := 6) hJ dX6_imageLetter_3 rfl (r6_in (fl := false) (d := d + 58) _ 0 3) mX6_101 rfl (gle8 rfl) ?_
    rw [show gin _ 0 3 = false from (gin_bt _ 3 (by omega)).trans (Bool.eq_false_iff.mpr hx)]
    refine j_if_ne (nx := 9) (tgt := 12) hJ dX6_imageLetter_6 rfl (by decide) (fun c6 => absurd c6 (by decide)) (fun c6 => ?_)
    refine j_c (nx := 11) hJ dX6_imageLetter_9 rfl gk_bipush_m3 ?_
    have e : s_imageLetter R x p = -3 := if_neg hx
    exact j_iret hJ dX6_imageLetter_11 ⟨by rw [e], ⟨A, E, M, pv, tv, hP, hG⟩⟩
