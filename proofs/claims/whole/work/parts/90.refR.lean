theorem gG.slt {A A' : Nat → Nat → Int32} {E E' : Nat → Nat → Int64} {M : Nat → Int32} {R : Nat → List Int32} {N : Nat → Int32} (hG : gG A E M R N) {r : Nat} (hr : r < 4) {T : Int32} {l : List Int32} (h116 : ∀ k, k < 4 → A' 116 k = if k = r then T else A 116 k) (h117 : ∀ k, k < 4 → k ≠ r → A' 117 k = A 117 k) (hT : T ≠ -1 → A' 117 r = nI l.length ∧ l.length ≤ 40 ∧ ∀ (j : Nat) (v : Int32), l[j]? = some v → E' 118 (40 * r + j) = v.toInt64) (hE : ∀ x, (x < 40 * r ∨ 40 * r + 40 ≤ x) → E' 118 x = E 118 x) (hA : ∀ a, a ≠ 116 → a ≠ 117 → (a ≤ 106 ∨ 120 ≤ a) → A' a = A a) : gG A' E' M (gU R (88 + 3 * r) l) (gU N (87 + 3 * r) T) := by
  obtain ⟨⟨a1, a2, a3, a4, a5, a6⟩, b, c, d, e, f⟩ := hG
  refine ⟨⟨by rw [gU_n _ _ (by omega)]; exact a1, by rw [gU_n _ _ (by omega)]; exact a2, by rw [gU_n _ _ (by omega)]; exact a3, by rw [gU_n _ _ (by omega)]; exact a4, by rw [gU_n _ _ (by omega)]; exact a5, by rw [gU_n _ _ (by omega), hA 106 (by omega) (by omega) (by omega)]; exact a6⟩, fun s hs => ?_, fun v hv => ?_, fun w hw hw2 => ?_, fun i hi => ?_, fun q => ?_⟩
  · rw [gU_n _ _ (by omega), hA 100 (by omega) (by omega) (by omega), hA 101 (by omega) (by omega) (by omega)]; exact b s hs
  · rw [gU_n _ _ (by omega), hA 104 (by omega) (by omega) (by omega), hA 105 (by omega) (by omega) (by omega)]; exact c v hv
  · rw [gU_n _ _ (by omega), hA 102 (by omega) (by omega) (by omega), hA 103 (by omega) (by omega) (by omega)]
    exact d w hw (by unfold gss at hw2 ⊢; rw [gU_n _ _ (by omega)] at hw2; exact hw2)
  · by_cases e9 : i = r
    · subst e9
      rw [gU_s, gU_s, h116 i hi, if_pos rfl]
      exact ⟨rfl, hT⟩
    · rw [gU_n _ _ (by omega), gU_n _ _ (by omega), h116 i hi, if_neg e9, h117 i hi e9]
      obtain ⟨e1, e2⟩ := e i hi
      refine ⟨e1, fun q => ?_⟩
      obtain ⟨e3, e4, e5⟩ := e2 q
      refine ⟨e3, e4, fun j v hv => ?_⟩
      have hj := (List.getElem?_eq_some_iff.mp hv).1
      rw [hE _ (by omega)]; exact e5 j v hv
  · rw [gU_n _ _ (by omega)] at q
    obtain ⟨f1, f2, f3, f4, f5⟩ := f q
    refine ⟨by rw [gU_n _ _ (by omega)]; exact f1, by rw [gU_n _ _ (by omega)]; exact f2, fun s hs => ?_, fun v hv => ?_, fun w hw hw2 => ?_⟩
    · rw [gU_n _ _ (by omega), hA 120 (by omega) (by omega) (by omega), hA 121 (by omega) (by omega) (by omega)]; exact f3 s hs
    · rw [gU_n _ _ (by omega), hA 124 (by omega) (by omega) (by omega), hA 125 (by omega) (by omega) (by omega)]; exact f4 v hv
    · rw [gU_n _ _ (by omega)] at hw2
      rw [gU_n _ _ (by omega), hA 122 (by omega) (by omega) (by omega), hA 123 (by omega) (by omega) (by omega)]; exact f5 w hw hw2
theorem gty {T : Int32} (h : T = -1 ∨ gbt T 4 = true) : (0 ≤ T) ↔ ¬ T = -1 := by
  rcases h with h | h
  · rw [h]; decide
  · obtain ⟨k, rfl, hk⟩ := gbt_spec h
    rw [Int32.le_iff_toInt_le, Int32.toInt_zero, nI_toInt (by omega)]
    exact ⟨fun _ => gnm1 (by omega), fun _ => by omega⟩
set_option maxHeartbeats 4000000 in
theorem r6_release {d : Nat} {h0 h : GH} {R : Nat → List Int32} {N : Nat → Int32} (hS : gRS h0 h R N) (hI : gInv R N) (x : Int32) : gN false (d + 60) yX6_release [.ref 99, .int x] h (fun o h' => o = some (.int (s_release R N x).1) ∧ gRS h0 h' (s_release R N x).2.1 (s_release R N x).2.2) := by
  obtain ⟨A, E, M, pv, tv, hP, hG⟩ := hS
  have g0 := hG.1.1
  have g9 := hG.1.2.2.1
  obtain ⟨⟨k, ss, hk1, hk3, hss1, hss6, hpt, him, hsm⟩, hI2, hI3, hI4, hI5⟩ := hI
  refine gN.of MX6_release (Nat.le_of_ble_eq_true rfl) (fun J n hJ => ?_)
  show J 0 [some (.ref 99), some (.int x), none] [] h (n, 0, 0, false)
  by_cases hx : gbt x 4 = true
  · obtain ⟨r, rfl, hr⟩ := gbt_spec hx
    have ege := ge_nI (r := r) (by omega)
    have egt := gt_nI (r := r) (by omega)
    have hy := hG.2.2.2.2.1 r hr
    have hty := gty (hI5 r hr).1
    refine j_p (nx := 1) hJ dX6_release_0 rfl rfl ?_
    refine j_csR (nx := 4) hJ dX6_release_1 rfl (r6_isSlot (fl := false) (d := d + 57) _) mX6_273 rfl (gle8 rfl) ?_
    rw [show gbt _ 4 = true from hx]
    refine j_if_ne (nx := 7) (tgt := 9) hJ dX6_release_4 rfl (by decide) (fun c4 => ?_) (fun c4 => absurd c4 (by decide))
    refine j_p (nx := 10) hJ dX6_release_9 rfl rfl ?_
    refine j_get (nx := 13) hJ dX6_release_10 rfl fX6_64 hP.1.1 (by rfl) ?_
    refine j_p (nx := 14) hJ dX6_release_13 rfl rfl ?_
    refine j_iald (j := r) (nx := 15) hJ dX6_release_14 rfl (show h 116 = some (gia 4 (A 116)) from hP.a 116 (by unfold gia'; omega)) rfl (by omega) (by decide) ?_
    rw [hy.1]
    refine j_if_ge (nx := 18) (tgt := 22) hJ dX6_release_15 rfl (by decide) (fun c15 => ?_) (fun c15 => ?_)
    · refine j_c (nx := 23) hJ dX6_release_22 rfl gk_iconst_1 ?_
      refine j_p (nx := 24) hJ dX6_release_23 rfl rfl ?_
      refine j_p (nx := 25) hJ dX6_release_24 rfl rfl ?_
      refine j_get (nx := 28) hJ dX6_release_25 rfl fX6_64 hP.1.1 (by rfl) ?_
      refine j_p (nx := 29) hJ dX6_release_28 rfl rfl ?_
      refine j_c (nx := 30) hJ dX6_release_29 rfl gk_iconst_m1 ?_
      refine j_iast (j := r) (nx := 31) hJ dX6_release_30 rfl (show h 116 = some (gia 4 (A 116)) from hP.a 116 (by unfold gia'; omega)) rfl (by omega) (by decide) ?_
      have hP1 := hP.arr (a := 116) (by unfold gia'; omega) (upd (A 116) (r) (-1))
      refine j_p (nx := 32) hJ dX6_release_31 rfl rfl ?_
      have e : s_release R N (nI r) = (1, R, gU N (87 + 3 * r) (-1)) := by unfold s_release; rw [if_pos hx, egt, if_neg (hty.mp c15)]
      refine j_iret hJ dX6_release_32 ⟨by rw [e], ?_⟩
      rw [e]
      refine ⟨_, _, _, _, _, hP1, (hG.slt (A' := gU A 116 (upd (A 116) r (-1))) (E' := E) hr (T := -1) (l := (R (88 + 3 * r))) (fun k hk => ?_) (fun k hk hk2 => rfl) (fun q => absurd rfl q) (fun _ _ => rfl) (fun a p1 p2 _ => gU_n _ _ p1)).rwR (fun a => (gU_self R (88 + 3 * r) a).symm)⟩
      rw [gU_s]; rfl
    · refine j_c (nx := 19) hJ dX6_release_18 rfl gk_iconst_0 ?_
      refine j_go (tgt := 23) hJ dX6_release_19 (by decide) ?_
      refine j_p (nx := 24) hJ dX6_release_23 rfl rfl ?_
      refine j_p (nx := 25) hJ dX6_release_24 rfl rfl ?_
      refine j_get (nx := 28) hJ dX6_release_25 rfl fX6_64 hP.1.1 (by rfl) ?_
      refine j_p (nx := 29) hJ dX6_release_28 rfl rfl ?_
      refine j_c (nx := 30) hJ dX6_release_29 rfl gk_iconst_m1 ?_
      refine j_iast (j := r) (nx := 31) hJ dX6_release_30 rfl (show h 116 = some (gia 4 (A 116)) from hP.a 116 (by unfold gia'; omega)) rfl (by omega) (by decide) ?_
      have hP1 := hP.arr (a := 116) (by unfold gia'; omega) (upd (A 116) (r) (-1))
      refine j_p (nx := 32) hJ dX6_release_31 rfl rfl ?_
      have e : s_release R N (nI r) = (0, R, gU N (87 + 3 * r) (-1)) := by unfold s_release; rw [if_pos hx, egt, if_pos (Classical.not_not.mp (fun q => c15 (hty.mpr q)))]
      refine j_iret hJ dX6_release_32 ⟨by rw [e], ?_⟩
      rw [e]
      refine ⟨_, _, _, _, _, hP1, (hG.slt (A' := gU A 116 (upd (A 116) r (-1))) (E' := E) hr (T := -1) (l := (R (88 + 3 * r))) (fun k hk => ?_) (fun k hk hk2 => rfl) (fun q => absurd rfl q) (fun _ _ => rfl) (fun a p1 p2 _ => gU_n _ _ p1)).rwR (fun a => (gU_self R (88 + 3 * r) a).symm)⟩
      rw [gU_s]; rfl
  · refine j_p (nx := 1) hJ dX6_release_0 rfl rfl ?_
    refine j_csR (nx := 4) hJ dX6_release_1 rfl (r6_isSlot (fl := false) (d := d + 57) _) mX6_273 rfl (gle8 rfl) ?_
    rw [show gbt _ 4 = false from Bool.eq_false_iff.mpr hx]
    refine j_if_ne (nx := 7) (tgt := 9) hJ dX6_release_4 rfl (by decide) (fun c4 => absurd c4 (by decide)) (fun c4 => ?_)
    refine j_c (nx := 8) hJ dX6_release_7 rfl gk_iconst_m1 ?_
    have e : s_release R N x = (-1, R, N) := if_neg hx
    exact j_iret hJ dX6_release_8 ⟨by rw [e], by rw [e]; exact ⟨A, E, M, pv, tv, hP, hG⟩⟩
set_option maxHeartbeats 4000000 in
theorem r6_element {d : Nat} {h0 h : GH} {R : Nat → List Int32} {N : Nat → Int32} (hS : gRS h0 h R N) (hI : gInv R N) (x i : Int32) : gN false (d + 60) yX6_element [.ref 99, .int x, .int i] h (fun o h' => o = some (.long (s_element R N x i)) ∧ gRS h0 h' R N) := by
  obtain ⟨A, E, M, pv, tv, hP, hG⟩ := hS
  have g0 := hG.1.1
  have g9 := hG.1.2.2.1
  obtain ⟨⟨k, ss, hk1, hk3, hss1, hss6, hpt, him, hsm⟩, hI2, hI3, hI4, hI5⟩ := hI
  refine gN.of MX6_element (Nat.le_of_ble_eq_true rfl) (fun J n hJ => ?_)
  show J 0 [some (.ref 99), some (.int x), some (.int i)] [] h (n, 0, 0, false)
  by_cases hx : gbt x 4 = true
  · obtain ⟨r, rfl, hr⟩ := gbt_spec hx
    have ege := ge_nI (r := r) (by omega)
    have egt := gt_nI (r := r) (by omega)
    have hy := hG.2.2.2.2.1 r hr
    have hty := gty (hI5 r hr).1
    refine j_p (nx := 1) hJ dX6_element_0 rfl rfl ?_
    refine j_csR (nx := 4) hJ dX6_element_1 rfl (r6_isSlot (fl := false) (d := d + 57) _) mX6_273 rfl (gle8 rfl) ?_
    rw [show gbt _ 4 = true from hx]
    refine j_if_eq (nx := 7) (tgt := 32) hJ dX6_element_4 rfl (by decide) (fun c4 => absurd c4 (by decide)) (fun c4 => ?_)
    refine j_p (nx := 8) hJ dX6_element_7 rfl rfl ?_
    refine j_get (nx := 11) hJ dX6_element_8 rfl fX6_64 hP.1.1 (by rfl) ?_
    refine j_p (nx := 12) hJ dX6_element_11 rfl rfl ?_
    refine j_iald (j := r) (nx := 13) hJ dX6_element_12 rfl (show h 116 = some (gia 4 (A 116)) from hP.a 116 (by unfold gia'; omega)) rfl (by omega) (by decide) ?_
    rw [hy.1]
    refine j_if_lt (nx := 16) (tgt := 32) hJ dX6_element_13 rfl (by decide) (fun c13 => ?_) (fun c13 => ?_)
    · refine j_ldc2 (nx := 35) hJ dX6_element_32 rfl qX6_244 ?_
      have e : s_element R N (nI r) i = -9223372036854775808 := by
        unfold s_element
        rw [egt, ege]
        by_cases q : (N (87 + 3 * r)) = -1
        · rw [if_neg (fun z => z.2 q)]
        · first
          | (rw [if_pos ⟨hx, q⟩, if_neg (by rw [gb_f] at c29; rw [c29]; decide)])
          | exact absurd (hty.mpr q) (by rw [Int32.lt_iff_toInt_lt] at c13; rw [Int32.le_iff_toInt_le]; omega)
      exact j_lret hJ dX6_element_35 ⟨by rw [e], ⟨A, E, M, pv, tv, hP, hG⟩⟩
    · have hne : ¬ (N (87 + 3 * r)) = -1 := hty.mp (by rw [Int32.lt_iff_toInt_lt] at c13; rw [Int32.le_iff_toInt_le]; omega)
      obtain ⟨y1, y2, y3⟩ := hy.2 hne
      refine j_p (nx := 17) hJ dX6_element_16 rfl rfl ?_
      refine j_c (nx := 18) hJ dX6_element_17 rfl gk_iconst_0 ?_
      refine j_p (nx := 19) hJ dX6_element_18 rfl rfl ?_
      refine j_get (nx := 22) hJ dX6_element_19 rfl fX6_67 hP.1.1 (by rfl) ?_
      refine j_p (nx := 23) hJ dX6_element_22 rfl rfl ?_
      refine j_iald (j := r) (nx := 24) hJ dX6_element_23 rfl (show h 117 = some (gia 4 (A 117)) from hP.a 117 (by unfold gia'; omega)) rfl (by omega) (by decide) ?_
      rw [y1]
      refine j_c (nx := 25) hJ dX6_element_24 rfl gk_iconst_1 ?_
      refine j_p (nx := 26) hJ dX6_element_25 rfl rfl ?_
      refine j_csR (nx := 29) hJ dX6_element_26 rfl (r6_in (fl := false) (d := d + 58) i 0 (nI (R (88 + 3 * r)).length - 1)) mX6_101 rfl (gle8 rfl) ?_
      rw [gin_ix (by omega)]
      refine j_if_ne (nx := 32) (tgt := 36) hJ dX6_element_29 rfl (by decide) (fun c29 => ?_) (fun c29 => ?_)
      · rw [gb_t] at c29
        obtain ⟨j, rfl, hj, hgat⟩ := gix_spec c29
        refine j_p (nx := 37) hJ dX6_element_36 rfl rfl ?_
        refine j_get (nx := 40) hJ dX6_element_37 rfl fX6_70 hP.1.1 (by rfl) ?_
        refine j_c (nx := 42) hJ dX6_element_40 rfl gk_bipush_40 ?_
        refine j_p (nx := 43) hJ dX6_element_42 rfl rfl ?_
        refine j_p (nx := 44) hJ dX6_element_43 rfl rfl ?_
        rw [show (40 : Int32) = nI 40 from rfl, gmul]
        refine j_p (nx := 45) hJ dX6_element_44 rfl rfl ?_
        refine j_p (nx := 46) hJ dX6_element_45 rfl rfl ?_
        rw [gadd]
        refine j_lald (j := 40 * r + j) (nx := 47) hJ dX6_element_46 rfl hP.1.2.2.1 rfl (by omega) (by decide) ?_
        rw [y3 j _ (List.getElem?_eq_getElem hj)]
        have e : s_element R N (nI r) (nI j) = ((R (88 + 3 * r))[j]).toInt64 := by unfold s_element; rw [egt, ege, if_pos ⟨hx, hne⟩, if_pos c29, hgat, List.getD_eq_getElem?_getD, List.getElem?_eq_getElem hj]; rfl
        exact j_lret hJ dX6_element_47 ⟨by rw [e], ⟨A, E, M, pv, tv, hP, hG⟩⟩
      · refine j_ldc2 (nx := 35) hJ dX6_element_32 rfl qX6_244 ?_
        have e : s_element R N (nI r) i = -9223372036854775808 := by
          unfold s_element
          rw [egt, ege]
          by_cases q : (N (87 + 3 * r)) = -1
          · rw [if_neg (fun z => z.2 q)]
          · first
            | (rw [if_pos ⟨hx, q⟩, if_neg (by rw [gb_f] at c29; rw [c29]; decide)])
            | exact absurd (hty.mpr q) (by rw [Int32.lt_iff_toInt_lt] at c13; rw [Int32.le_iff_toInt_le]; omega)
        exact j_lret hJ dX6_element_35 ⟨by rw [e], ⟨A, E, M, pv, tv, hP, hG⟩⟩
  · refine j_p (nx := 1) hJ dX6_element_0 rfl rfl ?_
    refine j_csR (nx := 4) hJ dX6_element_1 rfl (r6_isSlot (fl := false) (d := d + 57) _) mX6_273 rfl (gle8 rfl) ?_
    rw [show gbt _ 4 = false from Bool.eq_false_iff.mpr hx]
    refine j_if_eq (nx := 7) (tgt := 32) hJ dX6_element_4 rfl (by decide) (fun c4 => ?_) (fun c4 => absurd c4 (by decide))
    refine j_ldc2 (nx := 35) hJ dX6_element_32 rfl qX6_244 ?_
    have e : s_element R N x i = -9223372036854775808 := if_neg (fun q => hx q.1)
    exact j_lret hJ dX6_element_35 ⟨by rw [e], ⟨A, E, M, pv, tv, hP, hG⟩⟩
set_option maxHeartbeats 4000000 in
theorem r6_narrowed {d : Nat} {h : GH} (v : Int64) (t : Int32) : gR false (d + 1) yX6_narrowed [.int t, .long v] h (.long (gnar v t).toInt64) := by
  refine gN.of MX6_narrowed (Nat.le_of_ble_eq_true rfl) (fun J n hJ => ?_)
  show J 0 [some (.int t), some (.long v), none] [] h (n, 0, 0, false)
  by_cases e0 : t = 0
  · subst e0
    refine j_p (nx := 1) hJ dX6_narrowed_0 rfl rfl ?_
    refine j_tbI (tgt := 28) hJ dX6_narrowed_1 (by decide) (by decide) rfl (by decide) ?_
    refine j_p (nx := 29) hJ dX6_narrowed_28 rfl rfl ?_
    refine j_p (nx := 30) hJ dX6_narrowed_29 rfl rfl ?_
    refine j_p (nx := 31) hJ dX6_narrowed_30 rfl rfl ?_
    refine j_p (nx := 32) hJ dX6_narrowed_31 rfl rfl ?_
    exact j_lret hJ dX6_narrowed_32 ⟨rfl, rfl⟩
  by_cases e1 : t = 1
  · subst e1
    refine j_p (nx := 1) hJ dX6_narrowed_0 rfl rfl ?_
    refine j_tbI (tgt := 33) hJ dX6_narrowed_1 (by decide) (by decide) rfl (by decide) ?_
    refine j_p (nx := 34) hJ dX6_narrowed_33 rfl rfl ?_
    refine j_p (nx := 35) hJ dX6_narrowed_34 rfl rfl ?_
    refine j_p (nx := 36) hJ dX6_narrowed_35 rfl rfl ?_
    refine j_p (nx := 37) hJ dX6_narrowed_36 rfl rfl ?_
    exact j_lret hJ dX6_narrowed_37 ⟨rfl, rfl⟩
  by_cases e2 : t = 2
  · subst e2
    refine j_p (nx := 1) hJ dX6_narrowed_0 rfl rfl ?_
    refine j_tbI (tgt := 38) hJ dX6_narrowed_1 (by decide) (by decide) rfl (by decide) ?_
    refine j_p (nx := 39) hJ dX6_narrowed_38 rfl rfl ?_
    refine j_p (nx := 40) hJ dX6_narrowed_39 rfl rfl ?_
    refine j_p (nx := 41) hJ dX6_narrowed_40 rfl rfl ?_
    exact j_lret hJ dX6_narrowed_41 ⟨rfl, rfl⟩
  have hout : t.toInt < 0 ∨ 2 < t.toInt := by
    apply Classical.byContradiction
    intro q
    rcases (show t.toInt = 0 ∨ t.toInt = 1 ∨ t.toInt = 2 by omega) with u | u | u
    · exact e0 (Int32.toInt_inj.mp u)
    · exact e1 (Int32.toInt_inj.mp u)
    · exact e2 (Int32.toInt_inj.mp u)
  refine j_p (nx := 1) hJ dX6_narrowed_0 rfl rfl ?_
  refine j_tbO (tgt := 42) hJ dX6_narrowed_1 hout (by decide) ?_
  refine j_p (nx := 43) hJ dX6_narrowed_42 rfl rfl ?_
  refine j_lc (nx := 44) (v := 0) hJ dX6_narrowed_43 rfl (by decide) ?_
  refine j_p (nx := 45) hJ dX6_narrowed_44 rfl rfl ?_
  refine j_if_eq (nx := 48) (tgt := 52) hJ dX6_narrowed_45 rfl (by decide) (fun c45 => ?_) (fun c45 => ?_)
  · refine j_lc (nx := 53) (v := 0) hJ dX6_narrowed_52 rfl (by decide) ?_
    rw [lg_cmp_eq] at c45
    by_cases q : v = 0
    · have e : gnar v t = 0 := by unfold gnar; rw [if_neg e0, if_neg e1, if_neg e2, if_pos q]
      first | exact j_lret hJ dX6_narrowed_53 ⟨by rw [e]; rfl, rfl⟩ | exact absurd q c45
    · have e : gnar v t = 1 := by unfold gnar; rw [if_neg e0, if_neg e1, if_neg e2, if_neg q]
      first | exact j_lret hJ dX6_narrowed_53 ⟨by rw [e]; rfl, rfl⟩ | exact absurd c45 q
  · refine j_lc (nx := 49) (v := 1) hJ dX6_narrowed_48 rfl (by decide) ?_
    refine j_go (tgt := 53) hJ dX6_narrowed_49 (by decide) ?_
    rw [lg_cmp_eq] at c45
    by_cases q : v = 0
    · have e : gnar v t = 0 := by unfold gnar; rw [if_neg e0, if_neg e1, if_neg e2, if_pos q]
      first | exact j_lret hJ dX6_narrowed_53 ⟨by rw [e]; rfl, rfl⟩ | exact absurd q c45
    · have e : gnar v t = 1 := by unfold gnar; rw [if_neg e0, if_neg e1, if_neg e2, if_neg q]
      first | exact j_lret hJ dX6_narrowed_53 ⟨by rw [e]; rfl, rfl⟩ | exact absurd c45 q
