theorem gSl.eq {f f' g g' : Nat → Int32} {r n n2 : Nat} {l : List Int32} (h : gSl f g r l) (hf : ∀ i, i < n → f' i = f i) (hg : ∀ i, i < n2 → g' i = g i) (h1 : 8 * r + 8 ≤ n) (h2 : r < n2) : gSl f' g' r l := h.keep (fun i _ hi => hf i (by omega)) (hg r h2)
set_option maxHeartbeats 4000000 in
theorem r6_snapshot {d : Nat} {h0 h : GH} {R : Nat → List Int32} {N : Nat → Int32} (hS : gRS h0 h R N) (hI : gInv R N) : gN false (d + 60) yX6_snapshot [.ref 99] h (fun o h' => o = some (.int (s_snapshot R N).1) ∧ gRS h0 h' (s_snapshot R N).2.1 (s_snapshot R N).2.2) := by
  obtain ⟨A, E, M, pv, tv, hP, hG⟩ := hS
  obtain ⟨⟨a1, a2, a3, a4, a5, a6⟩, b, c, d9, e9, f9⟩ := id hG
  obtain ⟨⟨k, ss, hk1, hk3, hss1, hss6, hpt, him, hsm⟩, hI2, hI3, hI4, hI5⟩ := hI
  refine gN.of MX6_snapshot (Nat.le_of_ble_eq_true rfl) (fun J n hJ => ?_)
  show J 0 [some (.ref 99)] [] h (n, 0, 0, false)
  refine j_p (nx := 1) hJ dX6_snapshot_0 rfl rfl ?_
  refine j_c (nx := 2) hJ dX6_snapshot_1 rfl gk_iconst_1 ?_
  refine j_cv (nx := 5) hJ dX6_snapshot_2 rfl (r6_carryAll1 (d := d + 57) hP) mX6_284 hP.1.1 kX6_carryAll rfl (gle8 rfl) (fun o h1 hp => ?_)
  obtain ⟨rfl, A1, hP1, ⟨q1, q2, q3, q4, q5, q6⟩, fr⟩ := hp
  refine j_p (nx := 6) hJ dX6_snapshot_5 rfl rfl ?_
  refine j_p (nx := 7) hJ dX6_snapshot_6 rfl rfl ?_
  refine j_get (nx := 10) hJ dX6_snapshot_7 rfl fX6_9 hP1.1.1 (by rfl) ?_
  refine j_put (nx := 13) hJ dX6_snapshot_10 rfl fX6_288 (zX6_34 _) hP1.1.1 (Nat.le_of_ble_eq_true rfl) ?_
  change J 13 _ _ (gup _ 99 (gO (gU M 34 (M 0)) pv tv)) _
  have hP2 := hP1.fld (gU M 34 (M 0)) pv tv
  generalize gup _ 99 (gO (gU M 34 (M 0)) pv tv) = g34 at hP2 ⊢
  refine j_p (nx := 14) hJ dX6_snapshot_13 rfl rfl ?_
  refine j_p (nx := 15) hJ dX6_snapshot_14 rfl rfl ?_
  refine j_get (nx := 18) hJ dX6_snapshot_15 rfl fX6_98 hP2.1.1 (by rfl) ?_
  refine j_put (nx := 21) hJ dX6_snapshot_18 rfl fX6_291 (zX6_35 _) hP2.1.1 (Nat.le_of_ble_eq_true rfl) ?_
  change J 21 _ _ (gup _ 99 (gO (gU (gU M 34 (M 0)) 35 (M 5)) pv tv)) _
  have hP3 := hP2.fld (gU (gU M 34 (M 0)) 35 (M 5)) pv tv
  generalize gup _ 99 (gO (gU (gU M 34 (M 0)) 35 (M 5)) pv tv) = g35 at hP3 ⊢
  refine j_p (nx := 22) hJ dX6_snapshot_21 rfl rfl ?_
  refine j_c (nx := 23) hJ dX6_snapshot_22 rfl gk_iconst_1 ?_
  refine j_put (nx := 26) hJ dX6_snapshot_23 rfl fX6_294 (zX6_33 true) hP3.1.1 (Nat.le_of_ble_eq_true rfl) ?_
  change J 26 _ _ (gup _ 99 (gO (gU (gU (gU M 34 (M 0)) 35 (M 5)) 33 (1)) pv tv)) _
  have hP4 := hP3.fld (gU (gU (gU M 34 (M 0)) 35 (M 5)) 33 (1)) pv tv
  generalize gup _ 99 (gO (gU (gU (gU M 34 (M 0)) 35 (M 5)) 33 (1)) pv tv) = g33 at hP4 ⊢
  refine j_p (nx := 27) hJ dX6_snapshot_26 rfl rfl ?_
  refine j_get (nx := 30) hJ dX6_snapshot_27 rfl fX6_98 hP4.1.1 (by rfl) ?_
  refine j_iret hJ dX6_snapshot_30 ⟨congrArg (fun z => some (Value.int z)) a2, A1, E, _, pv, tv, hP4, ?_⟩
  change gG A1 E _ (gUb R 37 (fun i => R (5 + 2 * i)) (fun i => R (17 + 2 * i)) (fun i => R (25 + 2 * i))) (gU (gU (gU N 37 (N 1)) 38 (N 2)) 0 1)
  refine ⟨⟨a1, a2, ?_, rfl, ?_, ?_⟩, fun r hr => ?_, fun v hv => ?_, fun w hw hw2 => ?_, fun i hi => ?_, fun q => ⟨a1, a2, fun r hr => ?_, fun v hv => ?_, fun w hw hw2 => ?_⟩⟩
  · rw [gUb_n (by omega)]; exact a3
  · rw [gUb_n (by omega)]; exact a5
  · rw [gUb_n (by omega), fr 106 (by omega) (by omega) (by omega) (by omega) (by omega) (by omega)]; exact a6
  · rw [gUb_n (by omega), fr 100 (by omega) (by omega) (by omega) (by omega) (by omega) (by omega), fr 101 (by omega) (by omega) (by omega) (by omega) (by omega) (by omega)]; exact b r hr
  · rw [gUb_n (by omega), fr 104 (by omega) (by omega) (by omega) (by omega) (by omega) (by omega), fr 105 (by omega) (by omega) (by omega) (by omega) (by omega) (by omega)]; exact c v hv
  · rw [gUb_n (by omega), fr 102 (by omega) (by omega) (by omega) (by omega) (by omega) (by omega), fr 103 (by omega) (by omega) (by omega) (by omega) (by omega) (by omega)]; exact d9 w hw hw2
  · rw [gUb_n (by omega), fr 116 (by omega) (by omega) (by omega) (by omega) (by omega) (by omega), fr 117 (by omega) (by omega) (by omega) (by omega) (by omega) (by omega), gU_n _ _ (by omega), gU_n _ _ (by omega), gU_n _ _ (by omega)]; exact e9 i hi
  · rw [show 41 + 2 * r = 37 + 4 + 2 * r by omega, gUb_p hr]; exact (b r hr).eq q1 q2 (by omega) hr
  · rw [show 53 + 2 * v = 37 + 16 + 2 * v by omega, gUb_i hv]; exact (c v hv).eq q5 q6 (by omega) hv
  · rw [show 61 + 2 * w = 37 + 24 + 2 * w by omega, gUb_w hw]; exact (d9 w hw hw2).eq q3 q4 (by omega) hw
set_option maxHeartbeats 4000000 in
theorem r6_restore {d : Nat} {h0 h : GH} {R : Nat → List Int32} {N : Nat → Int32} (hS : gRS h0 h R N) (hI : gInv R N) : gN false (d + 60) yX6_restore [.ref 99] h (fun o h' => o = some (.int (s_restore R N).1) ∧ gRS h0 h' (s_restore R N).2.1 (s_restore R N).2.2) := by
  obtain ⟨A, E, M, pv, tv, hP, hG⟩ := hS
  obtain ⟨⟨a1, a2, a3, a4, a5, a6⟩, b, c, d9, e9, f9⟩ := id hG
  obtain ⟨⟨k, ss, hk1, hk3, hss1, hss6, hpt, him, hsm⟩, hI2, hI3, hI4, hI5⟩ := hI
  refine gN.of MX6_restore (Nat.le_of_ble_eq_true rfl) (fun J n hJ => ?_)
  show J 0 [some (.ref 99)] [] h (n, 0, 0, false)
  refine j_p (nx := 1) hJ dX6_restore_0 rfl rfl ?_
  refine j_get (nx := 4) hJ dX6_restore_1 rfl fX6_294 hP.1.1 (by rfl) ?_
  refine j_if_ne (nx := 7) (tgt := 10) hJ dX6_restore_4 rfl (by decide) (fun c4 => ?_) (fun c4 => ?_)
  · have hN0 : ¬ N 0 = 0 := fun q => c4 (a4.trans q)
    obtain ⟨f1, f2, f3, f4, f5⟩ := f9 hN0
    refine j_p (nx := 11) hJ dX6_restore_10 rfl rfl ?_
    refine j_c (nx := 12) hJ dX6_restore_11 rfl gk_iconst_0 ?_
    refine j_cv (nx := 15) hJ dX6_restore_12 rfl (r6_carryAll0 (d := d + 57) hP) mX6_284 hP.1.1 kX6_carryAll rfl (gle8 rfl) (fun o h1 hp => ?_)
    obtain ⟨rfl, A1, hP1, ⟨q1, q2, q3, q4, q5, q6⟩, fr⟩ := hp
    refine j_p (nx := 16) hJ dX6_restore_15 rfl rfl ?_
    refine j_p (nx := 17) hJ dX6_restore_16 rfl rfl ?_
    refine j_get (nx := 20) hJ dX6_restore_17 rfl fX6_288 hP1.1.1 (by rfl) ?_
    refine j_put (nx := 23) hJ dX6_restore_20 rfl fX6_9 (zX6_0 _) hP1.1.1 (Nat.le_of_ble_eq_true rfl) ?_
    change J 23 _ _ (gup _ 99 (gO (gU M 0 (M 34)) pv tv)) _
    have hP2 := hP1.fld (gU M 0 (M 34)) pv tv
    generalize gup _ 99 (gO (gU M 0 (M 34)) pv tv) = g0 at hP2 ⊢
    refine j_p (nx := 24) hJ dX6_restore_23 rfl rfl ?_
    refine j_p (nx := 25) hJ dX6_restore_24 rfl rfl ?_
    refine j_get (nx := 28) hJ dX6_restore_25 rfl fX6_291 hP2.1.1 (by rfl) ?_
    refine j_put (nx := 31) hJ dX6_restore_28 rfl fX6_98 (zX6_5 _) hP2.1.1 (Nat.le_of_ble_eq_true rfl) ?_
    change J 31 _ _ (gup _ 99 (gO (gU (gU M 0 (M 34)) 5 (M 35)) pv tv)) _
    have hP3 := hP2.fld (gU (gU M 0 (M 34)) 5 (M 35)) pv tv
    generalize gup _ 99 (gO (gU (gU M 0 (M 34)) 5 (M 35)) pv tv) = g5 at hP3 ⊢
    refine j_p (nx := 32) hJ dX6_restore_31 rfl rfl ?_
    refine j_get (nx := 35) hJ dX6_restore_32 rfl fX6_98 hP3.1.1 (by rfl) ?_
    have e : s_restore R N = (N 38, gUb R 1 (fun i => R (41 + 2 * i)) (fun i => R (53 + 2 * i)) (fun i => R (61 + 2 * i)), gU (gU N 1 (N 37)) 2 (N 38)) := if_neg hN0
    refine j_iret hJ dX6_restore_35 ⟨by rw [e]; exact congrArg (fun z => some (Value.int z)) f2, ?_⟩
    rw [e]
    change gRS h0 _ (gUb R 1 (fun i => R (41 + 2 * i)) (fun i => R (53 + 2 * i)) (fun i => R (61 + 2 * i))) (gU (gU N 1 (N 37)) 2 (N 38))
    refine ⟨A1, E, _, pv, tv, hP3, ⟨f1, f2, ?_, a4, ?_, ?_⟩, fun r hr => ?_, fun v hv => ?_, fun w hw hw2 => ?_, fun i hi => ?_, fun q => ⟨f1, f2, fun r hr => ?_, fun v hv => ?_, fun w hw hw2 => ?_⟩⟩
    · rw [gUb_n (by omega)]; exact a3
    · rw [gUb_n (by omega)]; exact a5
    · rw [gUb_n (by omega), fr 106 (by omega) (by omega) (by omega) (by omega) (by omega) (by omega)]; exact a6
    · rw [show 5 + 2 * r = 1 + 4 + 2 * r by omega, gUb_p hr]; exact (f3 r hr).eq q1 q2 (by omega) hr
    · rw [show 17 + 2 * v = 1 + 16 + 2 * v by omega, gUb_i hv]; exact (f4 v hv).eq q5 q6 (by omega) hv
    · rw [show 25 + 2 * w = 1 + 24 + 2 * w by omega, gUb_w hw]; exact (f5 w hw hw2).eq q3 q4 (by omega) hw
    · rw [gUb_n (by omega), fr 116 (by omega) (by omega) (by omega) (by omega) (by omega) (by omega), fr 117 (by omega) (by omega) (by omega) (by omega) (by omega) (by omega), gU_n _ _ (by omega), gU_n _ _ (by omega)]; exact e9 i hi
    · rw [gUb_n (by omega), fr 120 (by omega) (by omega) (by omega) (by omega) (by omega) (by omega), fr 121 (by omega) (by omega) (by omega) (by omega) (by omega) (by omega)]; exact f3 r hr
    · rw [gUb_n (by omega), fr 124 (by omega) (by omega) (by omega) (by omega) (by omega) (by omega), fr 125 (by omega) (by omega) (by omega) (by omega) (by omega) (by omega)]; exact f4 v hv
    · rw [gUb_n (by omega), fr 122 (by omega) (by omega) (by omega) (by omega) (by omega) (by omega), fr 123 (by omega) (by omega) (by omega) (by omega) (by omega) (by omega)]; exact f5 w hw hw2
  · refine j_c (nx := 9) hJ dX6_restore_7 rfl gk_bipush_m6 ?_
    have e : s_restore R N = (-6, R, N) := if_pos (a4.symm.trans c4)
    exact j_iret hJ dX6_restore_9 ⟨by rw [e], by rw [e]; exact ⟨A, E, M, pv, tv, hP, hG⟩⟩
