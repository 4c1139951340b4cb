theorem gG.rwN {A : Nat → Nat → Int32} {E : Nat → Nat → Int64} {M : Nat → Int32} {R : Nat → List Int32} {N N' : Nat → Int32} (hG : gG A E M R N) (e : ∀ a, N a = N' a) : gG A E M R N' := by rw [← funext e]; exact hG
set_option maxHeartbeats 4000000 in
theorem r6_putElement {d : Nat} {h0 h : GH} {R : Nat → List Int32} {N : Nat → Int32} (hS : gRS h0 h R N) (hI : gInv R N) (x i : Int32) (v : Int64) : gN false (d + 60) yX6_putElement [.ref 99, .int x, .int i, .long v] h (fun o h' => o = some (.int (s_putElement R N x i v).1) ∧ gRS h0 h' (s_putElement R N x i v).2.1 (s_putElement R N x i v).2.2) := by
  obtain ⟨A, E, M, pv, tv, hP, hG⟩ := hS
  have g0 := hG.1.1
  have g9 := hG.1.2.2.1
  obtain ⟨⟨k, ss, hk1, hk3, hss1, hss6, hpt, him, hsm⟩, hI2, hI3, hI4, hI5⟩ := hI
  refine gN.of MX6_putElement (Nat.le_of_ble_eq_true rfl) (fun J n hJ => ?_)
  show J 0 [some (.ref 99), some (.int x), some (.int i), some (.long v), none] [] h (n, 0, 0, false)
  by_cases hx : gbt x 4 = true
  · obtain ⟨r, rfl, hr⟩ := gbt_spec hx
    have ege := ge_nI (r := r) (by omega)
    have egt := gt_nI (r := r) (by omega)
    have hy := hG.2.2.2.2.1 r hr
    have hty := gty (hI5 r hr).1
    refine j_p (nx := 1) hJ dX6_putElement_0 rfl rfl ?_
    refine j_csR (nx := 4) hJ dX6_putElement_1 rfl (r6_isSlot (fl := false) (d := d + 57) _) mX6_273 rfl (gle8 rfl) ?_
    rw [show gbt _ 4 = true from hx]
    refine j_if_ne (nx := 7) (tgt := 9) hJ dX6_putElement_4 rfl (by decide) (fun c4 => ?_) (fun c4 => absurd c4 (by decide))
    refine j_p (nx := 10) hJ dX6_putElement_9 rfl rfl ?_
    refine j_get (nx := 13) hJ dX6_putElement_10 rfl fX6_64 hP.1.1 (by rfl) ?_
    refine j_p (nx := 14) hJ dX6_putElement_13 rfl rfl ?_
    refine j_iald (j := r) (nx := 15) hJ dX6_putElement_14 rfl (show h 116 = some (gia 4 (A 116)) from hP.a 116 (by unfold gia'; omega)) rfl (by omega) (by decide) ?_
    rw [hy.1]
    refine j_if_ge (nx := 18) (tgt := 21) hJ dX6_putElement_15 rfl (by decide) (fun c15 => ?_) (fun c15 => ?_)
    · have hne : ¬ (N (87 + 3 * r)) = -1 := hty.mp c15
      obtain ⟨y1, y2, y3⟩ := hy.2 hne
      refine j_p (nx := 22) hJ dX6_putElement_21 rfl rfl ?_
      refine j_c (nx := 23) hJ dX6_putElement_22 rfl gk_iconst_0 ?_
      refine j_p (nx := 24) hJ dX6_putElement_23 rfl rfl ?_
      refine j_get (nx := 27) hJ dX6_putElement_24 rfl fX6_67 hP.1.1 (by rfl) ?_
      refine j_p (nx := 28) hJ dX6_putElement_27 rfl rfl ?_
      refine j_iald (j := r) (nx := 29) hJ dX6_putElement_28 rfl (show h 117 = some (gia 4 (A 117)) from hP.a 117 (by unfold gia'; omega)) rfl (by omega) (by decide) ?_
      rw [y1]
      refine j_c (nx := 30) hJ dX6_putElement_29 rfl gk_iconst_1 ?_
      refine j_p (nx := 31) hJ dX6_putElement_30 rfl rfl ?_
      refine j_csR (nx := 34) hJ dX6_putElement_31 rfl (r6_in (fl := false) (d := d + 58) i 0 (nI (R (88 + 3 * r)).length - 1)) mX6_101 rfl (gle8 rfl) ?_
      rw [gin_ix (by omega)]
      refine j_if_ne (nx := 37) (tgt := 40) hJ dX6_putElement_34 rfl (by decide) (fun c34 => ?_) (fun c34 => ?_)
      · rw [gb_t] at c34
        obtain ⟨j, rfl, hj, -⟩ := gix_spec c34
        refine j_p (nx := 41) hJ dX6_putElement_40 rfl rfl ?_
        refine j_get (nx := 44) hJ dX6_putElement_41 rfl fX6_70 hP.1.1 (by rfl) ?_
        refine j_c (nx := 46) hJ dX6_putElement_44 rfl gk_bipush_40 ?_
        refine j_p (nx := 47) hJ dX6_putElement_46 rfl rfl ?_
        refine j_p (nx := 48) hJ dX6_putElement_47 rfl rfl ?_
        rw [show (40 : Int32) = nI 40 from rfl, gmul]
        refine j_p (nx := 49) hJ dX6_putElement_48 rfl rfl ?_
        refine j_p (nx := 50) hJ dX6_putElement_49 rfl rfl ?_
        rw [gadd]
        refine j_p (nx := 51) hJ dX6_putElement_50 rfl rfl ?_
        refine j_get (nx := 54) hJ dX6_putElement_51 rfl fX6_64 hP.1.1 (by rfl) ?_
        refine j_p (nx := 55) hJ dX6_putElement_54 rfl rfl ?_
        refine j_iald (j := r) (nx := 56) hJ dX6_putElement_55 rfl (show h 116 = some (gia 4 (A 116)) from hP.a 116 (by unfold gia'; omega)) rfl (by omega) (by decide) ?_
        rw [hy.1]
        refine j_p (nx := 57) hJ dX6_putElement_56 rfl rfl ?_
        refine j_csR (nx := 60) hJ dX6_putElement_57 rfl (r6_narrowed (d := d + 58) v (N (87 + 3 * r))) mX6_276 rfl (gle8 rfl) ?_
        refine j_last (j := 40 * r + j) (nx := 61) hJ dX6_putElement_60 rfl hP.1.2.2.1 rfl (by omega) (by decide) ?_
        have hP1 := hP.el (vp_updL (E 118) (40 * r + j) ((gnar v (N (87 + 3 * r)))).toInt64)
        refine j_c (nx := 62) hJ dX6_putElement_61 rfl gk_iconst_1 ?_
        have e : s_putElement R N (nI r) (nI j) v = (1, gU R (88 + 3 * r) ((R (88 + 3 * r)).set j (gnar v (N (87 + 3 * r)))), N) := by unfold s_putElement; rw [if_pos hx, egt, ege, if_neg hne, if_pos c34, nI_toInt (by omega)]; rfl
        refine j_iret hJ dX6_putElement_62 ⟨by rw [e], ?_⟩
        rw [e]
        refine ⟨_, _, _, _, _, hP1, (hG.slt (A' := A) (E' := gU E 118 (vp_updL (E 118) (40 * r + j) ((gnar v (N (87 + 3 * r)))).toInt64)) hr (T := (N (87 + 3 * r))) (l := (R (88 + 3 * r)).set j (gnar v (N (87 + 3 * r)))) (fun k hk => ?_) (fun k hk hk2 => rfl) (fun q => ⟨by rw [List.length_set]; exact y1, by rw [List.length_set]; exact y2, fun j2 v2 hv2 => ?_⟩) (fun z hz => ?_) (fun a _ _ _ => rfl)).rwN (fun a => (gU_self N (87 + 3 * r) a).symm)⟩
        · by_cases q : k = r
          · rw [if_pos q, q]; exact hy.1
          · rw [if_neg q]
        · rw [gU_s]
          unfold vp_updL
          by_cases q2 : j2 = j
          · subst q2
            rw [if_pos rfl]
            rw [List.getElem?_set_self hj] at hv2
            rw [Option.some.inj hv2]
          · rw [if_neg (by omega)]
            rw [List.getElem?_set_ne (by omega)] at hv2
            exact y3 j2 v2 hv2
        · rw [gU_s]
          unfold vp_updL
          rw [if_neg (by omega)]
      · refine j_c (nx := 39) hJ dX6_putElement_37 rfl gk_bipush_m13 ?_
        rw [gb_f] at c34
        have e : s_putElement R N (nI r) i v = (-13, R, N) := by unfold s_putElement; rw [if_pos hx, egt, ege, if_neg hne, if_neg (by rw [c34]; decide)]
        exact j_iret hJ dX6_putElement_39 ⟨by rw [e], by rw [e]; exact ⟨A, E, M, pv, tv, hP, hG⟩⟩
    · refine j_c (nx := 20) hJ dX6_putElement_18 rfl gk_bipush_m11 ?_
      have hq : (N (87 + 3 * r)) = -1 := Classical.not_not.mp (fun q => c15 (hty.mpr q))
      have e : s_putElement R N (nI r) i v = (-11, R, N) := by unfold s_putElement; rw [if_pos hx, egt, if_pos hq]
      exact j_iret hJ dX6_putElement_20 ⟨by rw [e], by rw [e]; exact ⟨A, E, M, pv, tv, hP, hG⟩⟩
  · refine j_p (nx := 1) hJ dX6_putElement_0 rfl rfl ?_
    refine j_csR (nx := 4) hJ dX6_putElement_1 rfl (r6_isSlot (fl := false) (d := d + 57) _) mX6_273 rfl (gle8 rfl) ?_
    rw [show gbt _ 4 = false from Bool.eq_false_iff.mpr hx]
    refine j_if_ne (nx := 7) (tgt := 9) hJ dX6_putElement_4 rfl (by decide) (fun c4 => absurd c4 (by decide)) (fun c4 => ?_)
    refine j_c (nx := 8) hJ dX6_putElement_7 rfl gk_iconst_m1 ?_
    have e : s_putElement R N x i v = (-1, R, N) := if_neg hx
    exact j_iret hJ dX6_putElement_8 ⟨by rw [e], by rw [e]; exact ⟨A, E, M, pv, tv, hP, hG⟩⟩
set_option maxHeartbeats 4000000 in
theorem r6_allocate {d : Nat} {h0 h : GH} {R : Nat → List Int32} {N : Nat → Int32} (hS : gRS h0 h R N) (hI : gInv R N) (x t z : Int32) : gN false (d + 60) yX6_allocate [.ref 99, .int x, .int t, .int z] h (fun o h' => o = some (.int (s_allocate R N x t z).1) ∧ gRS h0 h' (s_allocate R N x t z).2.1 (s_allocate R N x t z).2.2) := by
  obtain ⟨A, E, M, pv, tv, hP, hG⟩ := hS
  have g0 := hG.1.1
  have g9 := hG.1.2.2.1
  obtain ⟨⟨k, ss, hk1, hk3, hss1, hss6, hpt, him, hsm⟩, hI2, hI3, hI4, hI5⟩ := hI
  refine gN.of MX6_allocate (Nat.le_of_ble_eq_true rfl) (fun J n hJ => ?_)
  show J 0 [some (.ref 99), some (.int x), some (.int t), some (.int z), none] [] h (n, 0, 0, false)
  by_cases hm : gbt x 4 = true ∧ (0 ≤ t.toInt ∧ t.toInt ≤ 3) ∧ z.toInt ≤ 40
  · have hx := hm.1
    obtain ⟨r, rfl, hr⟩ := gbt_spec hx
    have ege := ge_nI (r := r) (by omega)
    have egt := gt_nI (r := r) (by omega)
    have hy := hG.2.2.2.2.1 r hr
    have hty := gty (hI5 r hr).1
    by_cases hz : z.toInt < 0
    · refine j_p (nx := 1) hJ dX6_allocate_0 rfl rfl ?_
      refine j_csR (nx := 4) hJ dX6_allocate_1 rfl (r6_isSlot (fl := false) (d := d + 57) _) mX6_273 rfl (gle8 rfl) ?_
      rw [show gbt _ 4 = true from hx]
      refine j_if_eq (nx := 7) (tgt := 22) hJ dX6_allocate_4 rfl (by decide) (fun c4 => absurd c4 (by decide)) (fun c4 => ?_)
      refine j_p (nx := 8) hJ dX6_allocate_7 rfl rfl ?_
      refine j_c (nx := 9) hJ dX6_allocate_8 rfl gk_iconst_0 ?_
      refine j_c (nx := 10) hJ dX6_allocate_9 rfl gk_iconst_3 ?_
      refine j_csR (nx := 13) hJ dX6_allocate_10 rfl (r6_in (fl := false) (d := d + 58) t 0 3) mX6_101 rfl (gle8 rfl) ?_
      rw [show gin t 0 3 = true from decide_eq_true (by rw [Int32.le_iff_toInt_le, Int32.le_iff_toInt_le, show (0 : Int32).toInt = 0 by decide, show (3 : Int32).toInt = 3 by decide]; omega)]
      refine j_if_eq (nx := 16) (tgt := 22) hJ dX6_allocate_13 rfl (by decide) (fun c13 => absurd c13 (by decide)) (fun c13 => ?_)
      refine j_p (nx := 17) hJ dX6_allocate_16 rfl rfl ?_
      refine j_c (nx := 19) hJ dX6_allocate_17 rfl gk_bipush_40 ?_
      refine j_ic_le (nx := 22) (tgt := 24) hJ dX6_allocate_19 rfl (by decide) (fun c19 => ?_) (fun c19 => absurd c19 (fun q => q (by rw [Int32.le_iff_toInt_le, show (40 : Int32).toInt = 40 by decide]; omega)))
      refine j_p (nx := 25) hJ dX6_allocate_24 rfl rfl ?_
      refine j_if_ge (nx := 28) (tgt := 31) hJ dX6_allocate_25 rfl (by decide) (fun c25 => absurd c25 (by rw [Int32.le_iff_toInt_le, Int32.toInt_zero]; omega)) (fun c25 => ?_)
      refine j_c (nx := 30) hJ dX6_allocate_28 rfl gk_bipush_m14 ?_
      have e : s_allocate R N (nI r) t z = (-14, R, N) := by unfold s_allocate; rw [if_pos hm, if_pos hz]
      exact j_iret hJ dX6_allocate_30 ⟨by rw [e], by rw [e]; exact ⟨A, E, M, pv, tv, hP, hG⟩⟩
    · obtain ⟨zn, hzn⟩ : ∃ zn, z.toInt.toNat = zn := ⟨_, rfl⟩
      have hzz := gnat (x := z) (by omega)
      rw [hzn] at hzz
      refine j_p (nx := 1) hJ dX6_allocate_0 rfl rfl ?_
      refine j_csR (nx := 4) hJ dX6_allocate_1 rfl (r6_isSlot (fl := false) (d := d + 57) _) mX6_273 rfl (gle8 rfl) ?_
      rw [show gbt _ 4 = true from hx]
      refine j_if_eq (nx := 7) (tgt := 22) hJ dX6_allocate_4 rfl (by decide) (fun c4 => absurd c4 (by decide)) (fun c4 => ?_)
      refine j_p (nx := 8) hJ dX6_allocate_7 rfl rfl ?_
      refine j_c (nx := 9) hJ dX6_allocate_8 rfl gk_iconst_0 ?_
      refine j_c (nx := 10) hJ dX6_allocate_9 rfl gk_iconst_3 ?_
      refine j_csR (nx := 13) hJ dX6_allocate_10 rfl (r6_in (fl := false) (d := d + 58) t 0 3) mX6_101 rfl (gle8 rfl) ?_
      rw [show gin t 0 3 = true from decide_eq_true (by rw [Int32.le_iff_toInt_le, Int32.le_iff_toInt_le, show (0 : Int32).toInt = 0 by decide, show (3 : Int32).toInt = 3 by decide]; omega)]
      refine j_if_eq (nx := 16) (tgt := 22) hJ dX6_allocate_13 rfl (by decide) (fun c13 => absurd c13 (by decide)) (fun c13 => ?_)
      refine j_p (nx := 17) hJ dX6_allocate_16 rfl rfl ?_
      refine j_c (nx := 19) hJ dX6_allocate_17 rfl gk_bipush_40 ?_
      refine j_ic_le (nx := 22) (tgt := 24) hJ dX6_allocate_19 rfl (by decide) (fun c19 => ?_) (fun c19 => absurd c19 (fun q => q (by rw [Int32.le_iff_toInt_le, show (40 : Int32).toInt = 40 by decide]; omega)))
      refine j_p (nx := 25) hJ dX6_allocate_24 rfl rfl ?_
      refine j_if_ge (nx := 28) (tgt := 31) hJ dX6_allocate_25 rfl (by decide) (fun c25 => ?_) (fun c25 => absurd c25 (fun q => q (by rw [Int32.le_iff_toInt_le, Int32.toInt_zero]; omega)))
      refine j_p (nx := 32) hJ dX6_allocate_31 rfl rfl ?_
      refine j_get (nx := 35) hJ dX6_allocate_32 rfl fX6_64 hP.1.1 (by rfl) ?_
      refine j_p (nx := 36) hJ dX6_allocate_35 rfl rfl ?_
      refine j_p (nx := 37) hJ dX6_allocate_36 rfl rfl ?_
      refine j_iast (j := r) (nx := 38) hJ dX6_allocate_37 rfl (show h 116 = some (gia 4 (A 116)) from hP.a 116 (by unfold gia'; omega)) rfl (by omega) (by decide) ?_
      have hP1 := hP.arr (a := 116) (by unfold gia'; omega) (upd (A 116) (r) (t))
      refine j_p (nx := 39) hJ dX6_allocate_38 rfl rfl ?_
      refine j_get (nx := 42) hJ dX6_allocate_39 rfl fX6_67 hP1.1.1 (by rfl) ?_
      refine j_p (nx := 43) hJ dX6_allocate_42 rfl rfl ?_
      refine j_p (nx := 44) hJ dX6_allocate_43 rfl rfl ?_
      refine j_iast (j := r) (nx := 45) hJ dX6_allocate_44 rfl (show (gup h 116 (gia 4 (upd (A 116) r t))) 117 = some (gia 4 ((gU A 116 (upd (A 116) r t)) 117)) from hP1.a 117 (by unfold gia'; omega)) rfl (by omega) (by decide) ?_
      have hP2 := hP1.arr (a := 117) (by unfold gia'; omega) (upd ((gU A 116 (upd (A 116) r t)) 117) (r) (z))
      refine j_c (nx := 46) hJ dX6_allocate_45 rfl gk_iconst_0 ?_
      refine j_p (nx := 48) hJ dX6_allocate_46 rfl rfl ?_
      have loop : ∀ i, i ≤ 40 → ∀ (h1 : GH) (E1 : Nat → Nat → Int64), gP h0 h1 (gU (gU A 116 (upd (A 116) r t)) 117 (upd (A 117) r z)) E1 M pv tv → (∀ j, j < i → E1 118 (40 * r + j) = 0) → (∀ y, (y < 40 * r ∨ 40 * r + 40 ≤ y) → E1 118 y = E 118 y) → J 48 [some (.ref 99), some (.int (nI r)), some (.int t), some (.int z), some (.int (nI i))] [] h1 (n, 0, 0, false) := by
        refine gloop _ _ (fun i hi ih h1 E1 hQ1 hz1 hz2 => ?_)
        refine j_p (nx := 50) hJ dX6_allocate_48 rfl rfl ?_
        refine j_c (nx := 52) hJ dX6_allocate_50 rfl gk_bipush_40 ?_
        refine j_ic_ge (nx := 55) (tgt := 74) hJ dX6_allocate_52 rfl (by decide) (fun c52 => ?_) (fun c52 => ?_)
        · refine j_p (nx := 75) hJ dX6_allocate_74 rfl rfl ?_
          rw [show (40 : Int32) = nI 40 from rfl, gnle (by omega) (by omega)] at c52
          have e : s_allocate R N (nI r) t z = (z, gU R (88 + 3 * r) (List.replicate zn 0), gU N (87 + 3 * r) t) := by unfold s_allocate; rw [if_pos hm, if_neg hz, ege, egt, hzn]
          refine j_iret hJ dX6_allocate_75 ⟨by rw [e], ?_⟩
          rw [e]
          refine ⟨_, _, _, _, _, hQ1, hG.slt (A' := (gU (gU A 116 (upd (A 116) r t)) 117 (upd (A 117) r z))) (E' := E1) hr (T := t) (l := List.replicate zn 0) (fun k hk => rfl) (fun k hk hk2 => if_neg hk2) (fun q => ⟨?_, by rw [List.length_replicate]; omega, fun j2 v2 hv2 => ?_⟩) hz2 (fun a p1 p2 _ => (gU_n _ _ p2).trans (gU_n _ _ p1))⟩
          · rw [gU_s, List.length_replicate, ← hzz]; simp [upd]
          · have hj2 := (List.getElem?_eq_some_iff.mp hv2).1
            rw [List.length_replicate] at hj2
            rw [List.getElem?_replicate, if_pos hj2] at hv2
            rw [hz1 j2 (by omega), ← Option.some.inj hv2]; rfl
        · rw [show (40 : Int32) = nI 40 from rfl, gnle (by omega) (by omega)] at c52
          have hil : i < 40 := by omega
          refine j_p (nx := 56) hJ dX6_allocate_55 rfl rfl ?_
          refine j_get (nx := 59) hJ dX6_allocate_56 rfl fX6_70 hQ1.1.1 (by rfl) ?_
          refine j_c (nx := 61) hJ dX6_allocate_59 rfl gk_bipush_40 ?_
          refine j_p (nx := 62) hJ dX6_allocate_61 rfl rfl ?_
          refine j_p (nx := 63) hJ dX6_allocate_62 rfl rfl ?_
          rw [show (40 : Int32) = nI 40 from rfl, gmul]
          refine j_p (nx := 65) hJ dX6_allocate_63 rfl rfl ?_
          refine j_p (nx := 66) hJ dX6_allocate_65 rfl rfl ?_
          rw [gadd]
          refine j_lc (nx := 67) (v := 0) hJ dX6_allocate_66 rfl (by decide) ?_
          refine j_last (j := 40 * r + i) (nx := 68) hJ dX6_allocate_67 rfl hQ1.1.2.2.1 rfl (by omega) (by decide) ?_
          have hQ2 := hQ1.el (vp_updL (E1 118) (40 * r + i) 0)
          refine j_inc (nx := 71) hJ dX6_allocate_68 rfl rfl (gi1 i) rfl ?_
          refine j_go (tgt := 48) hJ dX6_allocate_71 (by decide) ?_
          refine ih hil _ _ hQ2 (fun j hj => ?_) (fun y hy => ?_)
          · rw [gU_s]
            unfold vp_updL
            by_cases q : j = i
            · rw [if_pos (by omega)]
            · rw [if_neg (by omega)]; exact hz1 j (by omega)
          · rw [gU_s]
            unfold vp_updL
            rw [if_neg (by omega)]; exact hz2 y hy
      exact loop 0 (Nat.zero_le _) _ E hP2 (fun j hj => by omega) (fun _ _ => rfl)
  · refine j_p (nx := 1) hJ dX6_allocate_0 rfl rfl ?_
    refine j_csR (nx := 4) hJ dX6_allocate_1 rfl (r6_isSlot (fl := false) (d := d + 57) x) mX6_273 rfl (gle8 rfl) ?_
    refine j_if_eq (nx := 7) (tgt := 22) hJ dX6_allocate_4 rfl (by decide) (fun c4 => ?_) (fun c4 => ?_)
    · refine j_c (nx := 23) hJ dX6_allocate_22 rfl gk_iconst_m1 ?_
      have e : s_allocate R N x t z = (-1, R, N) := if_neg hm
      exact j_iret hJ dX6_allocate_23 ⟨by rw [e], by rw [e]; exact ⟨A, E, M, pv, tv, hP, hG⟩⟩
    · refine j_p (nx := 8) hJ dX6_allocate_7 rfl rfl ?_
      refine j_c (nx := 9) hJ dX6_allocate_8 rfl gk_iconst_0 ?_
      refine j_c (nx := 10) hJ dX6_allocate_9 rfl gk_iconst_3 ?_
      refine j_csR (nx := 13) hJ dX6_allocate_10 rfl (r6_in (fl := false) (d := d + 58) t 0 3) mX6_101 rfl (gle8 rfl) ?_
      refine j_if_eq (nx := 16) (tgt := 22) hJ dX6_allocate_13 rfl (by decide) (fun c13 => ?_) (fun c13 => ?_)
      · refine j_c (nx := 23) hJ dX6_allocate_22 rfl gk_iconst_m1 ?_
        have e : s_allocate R N x t z = (-1, R, N) := if_neg hm
        exact j_iret hJ dX6_allocate_23 ⟨by rw [e], by rw [e]; exact ⟨A, E, M, pv, tv, hP, hG⟩⟩
      · refine j_p (nx := 17) hJ dX6_allocate_16 rfl rfl ?_
        refine j_c (nx := 19) hJ dX6_allocate_17 rfl gk_bipush_40 ?_
        refine j_ic_le (nx := 22) (tgt := 24) hJ dX6_allocate_19 rfl (by decide) (fun c19 => ?_) (fun c19 => ?_)
        · rw [gb_t] at c4 c13
          have u := of_decide_eq_true c13
          rw [Int32.le_iff_toInt_le, Int32.le_iff_toInt_le, show (0 : Int32).toInt = 0 by decide, show (3 : Int32).toInt = 3 by decide] at u
          rw [Int32.le_iff_toInt_le, show (40 : Int32).toInt = 40 by decide] at c19
          exact absurd ⟨c4, u, c19⟩ hm
        · refine j_c (nx := 23) hJ dX6_allocate_22 rfl gk_iconst_m1 ?_
          have e : s_allocate R N x t z = (-1, R, N) := if_neg hm
          exact j_iret hJ dX6_allocate_23 ⟨by rw [e], by rw [e]; exact ⟨A, E, M, pv, tv, hP, hG⟩⟩
