theorem gUb_n {R : Nat → List Int32} {b : Nat} {P I W : Nat → List Int32} {a : Nat} (h : a < b + 4 ∨ b + 36 ≤ a) : gUb R b P I W a = R a := by
  unfold gUb
  rw [if_neg (by omega), if_neg (by omega), if_neg (by omega)]
theorem gUb_p {R : Nat → List Int32} {b : Nat} {P I W : Nat → List Int32} {i : Nat} (h : i < 6) : gUb R b P I W (b + 4 + 2 * i) = P i := by
  unfold gUb
  rw [if_pos (by omega), show (b + 4 + 2 * i - b - 4) / 2 = i by omega]
theorem gUb_i {R : Nat → List Int32} {b : Nat} {P I W : Nat → List Int32} {i : Nat} (h : i < 4) : gUb R b P I W (b + 16 + 2 * i) = I i := by
  unfold gUb
  rw [if_neg (by omega), if_pos (by omega), show (b + 16 + 2 * i - b - 16) / 2 = i by omega]
theorem gUb_w {R : Nat → List Int32} {b : Nat} {P I W : Nat → List Int32} {i : Nat} (h : i < 6) : gUb R b P I W (b + 24 + 2 * i) = W i := by
  unfold gUb
  rw [if_neg (by omega), if_neg (by omega), if_pos (by omega), show (b + 24 + 2 * i - b - 24) / 2 = i by omega]
theorem gSl_1 {f g : Nat → Int32} {r : Nat} {x : Int32} (h1 : f (8 * r) = x) (h2 : g r = 1) : gSl f g r [x] := by
  refine ⟨h2, by show 1 ≤ 8; omega, fun i v hv => ?_⟩
  cases i with
  | zero => cases hv; exact h1
  | succ i => cases hv
set_option maxHeartbeats 4000000 in
theorem r6_reset {d : Nat} {h0 h : GH} {R : Nat → List Int32} {N : Nat → Int32} (hS : gRS h0 h R N) (x : Int32) : gN false (d + 60) yX6_reset [.ref 99, .int x] h (fun o h' => o = some (.int (s_reset R N x).1) ∧ gRS h0 h' (s_reset R N x).2.1 (s_reset R N x).2.2) := by
  obtain ⟨A, E, M, pv, tv, hP, hG⟩ := hS
  have g0 := hG.1.1
  have g5 := hG.1.2.1
  have g9 := hG.1.2.2.1
  have g33 := hG.1.2.2.2.1
  have g20 := hG.1.2.2.2.2.1
  have g106 := hG.1.2.2.2.2.2
  refine gN.of MX6_reset (Nat.le_of_ble_eq_true rfl) (fun J n hJ => ?_)
  show J 0 [some (.ref 99), some (.int x), none] [] h (n, 0, 0, false)
  refine j_p (nx := 1) hJ dX6_reset_0 rfl rfl ?_
  refine j_c (nx := 2) hJ dX6_reset_1 rfl gk_iconst_1 ?_
  refine j_c (nx := 3) hJ dX6_reset_2 rfl gk_iconst_3 ?_
  refine j_csR (nx := 6) hJ dX6_reset_3 rfl (r6_in (fl := false) (d := d + 58) x 1 3) mX6_101 rfl (gle8 rfl) ?_
  refine j_if_ne (nx := 9) (tgt := 11) hJ dX6_reset_6 rfl (by decide) (fun c6 => ?_) (fun c6 => ?_)
  · refine j_p (nx := 12) hJ dX6_reset_11 rfl rfl ?_
    refine j_get (nx := 15) hJ dX6_reset_12 rfl fX6_9 hP.1.1 (by rfl) ?_
    refine j_p (nx := 16) hJ dX6_reset_15 rfl rfl ?_
    refine j_p (nx := 17) hJ dX6_reset_16 rfl rfl ?_
    refine j_p (nx := 18) hJ dX6_reset_17 rfl rfl ?_
    refine j_put (nx := 21) hJ dX6_reset_18 rfl fX6_9 (zX6_0 _) hP.1.1 (Nat.le_of_ble_eq_true rfl) ?_
    change J 21 _ _ (gup h 99 (gO (gU M 0 (x)) pv tv)) _
    have hP1 := hP.fld (gU M 0 (x)) pv tv
    refine j_p (nx := 22) hJ dX6_reset_21 rfl rfl ?_
    refine j_cv (nx := 25) hJ dX6_reset_22 rfl (r6_clear (d := d + 58) hP1) mX6_95 hP1.1.1 kX6_clear rfl (gle8 rfl) (fun o h2 hp => ?_)
    obtain ⟨rfl, A1, hP2, k1, k2, k3⟩ := hp
    refine j_p (nx := 26) hJ dX6_reset_25 rfl rfl ?_
    rw [gb_t] at c6
    have hx := of_decide_eq_true c6
    rw [Int32.le_iff_toInt_le, Int32.le_iff_toInt_le, show (1 : Int32).toInt = 1 by decide, show (3 : Int32).toInt = 3 by decide] at hx
    have e : s_reset R N x = (N 1, gUb R 1 (fun _ => [10]) (fun _ => [0]) (fun i => R (25 + 2 * i)), gU (gU N 1 x) 2 0) := if_pos hx
    refine j_iret hJ dX6_reset_26 ⟨by rw [e]; exact congrArg (fun z => some (Value.int z)) g0, ?_⟩
    rw [e]
    change gRS h0 _ (gUb R 1 (fun _ => [10]) (fun _ => [0]) (fun i => R (25 + 2 * i))) (gU (gU N 1 x) 2 0)
    refine ⟨A1, E, _, pv, tv, hP2, ⟨rfl, rfl, ?_, ?_, ?_, ?_⟩, fun r hr => ?_, fun v hv => ?_, fun w hw hw2 => ?_, fun i hi => ?_, fun q => ?_⟩
    · rw [gUb_n (by omega)]; exact g9
    · exact g33
    · rw [gUb_n (by omega)]; exact g20
    · rw [gUb_n (by omega), k3 106 (by omega) (by omega) (by omega) (by omega)]; exact g106
    · rw [show 5 + 2 * r = 1 + 4 + 2 * r by omega, gUb_p hr]; exact gSl_1 (k1 r hr).1 (k1 r hr).2
    · rw [show 17 + 2 * v = 1 + 16 + 2 * v by omega, gUb_i hv]; exact gSl_1 (k2 v hv).1 (k2 v hv).2
    · exact absurd hw2 (by show ¬ w < 0; omega)
    · rw [gUb_n (by omega), k3 116 (by omega) (by omega) (by omega) (by omega), k3 117 (by omega) (by omega) (by omega) (by omega), gU_n _ _ (by omega), gU_n _ _ (by omega)]; exact hG.2.2.2.2.1 i hi
    · obtain ⟨f1, f2, f3, f4, f5⟩ := hG.2.2.2.2.2 q
      refine ⟨f1, f2, fun s hs => ?_, fun v hv => ?_, fun w hw hw2 => ?_⟩
      · rw [gUb_n (by omega), k3 120 (by omega) (by omega) (by omega) (by omega), k3 121 (by omega) (by omega) (by omega) (by omega)]; exact f3 s hs
      · rw [gUb_n (by omega), k3 124 (by omega) (by omega) (by omega) (by omega), k3 125 (by omega) (by omega) (by omega) (by omega)]; exact f4 v hv
      · rw [gUb_n (by omega), k3 122 (by omega) (by omega) (by omega) (by omega), k3 123 (by omega) (by omega) (by omega) (by omega)]; exact f5 w hw hw2
  · refine j_c (nx := 10) hJ dX6_reset_9 rfl gk_iconst_m1 ?_
    rw [gb_f] at c6
    have e : s_reset R N x = (-1, R, N) := if_neg (fun q => of_decide_eq_false c6 (by rw [Int32.le_iff_toInt_le, Int32.le_iff_toInt_le, show (1 : Int32).toInt = 1 by decide, show (3 : Int32).toInt = 3 by decide]; exact q))
    exact j_iret hJ dX6_reset_10 ⟨by rw [e], by rw [e]; exact ⟨A, E, M, pv, tv, hP, hG⟩⟩
set_option maxHeartbeats 4000000 in
theorem r6_letters {d : Nat} {h0 h : GH} {R : Nat → List Int32} {N : Nat → Int32} (hS : gRS h0 h R N) : gN false (d + 60) yX6_letters [.ref 99] h (fun o h' => o = some (.int (N 1)) ∧ gRS h0 h' R N) := by
  obtain ⟨A, E, M, pv, tv, hP, hG⟩ := hS
  have g0 := hG.1.1
  have g5 := hG.1.2.1
  have g9 := hG.1.2.2.1
  have g33 := hG.1.2.2.2.1
  have g20 := hG.1.2.2.2.2.1
  have g106 := hG.1.2.2.2.2.2
  refine gN.of MX6_letters (Nat.le_of_ble_eq_true rfl) (fun J n hJ => ?_)
  show J 0 [some (.ref 99)] [] h (n, 0, 0, false)
  refine j_p (nx := 1) hJ dX6_letters_0 rfl rfl ?_
  refine j_get (nx := 4) hJ dX6_letters_1 rfl fX6_9 hP.1.1 (by rfl) ?_
  exact j_iret hJ dX6_letters_4 ⟨congrArg (fun z => some (Value.int z)) g0, A, E, M, pv, tv, hP, hG⟩
theorem gG.rwR {A : Nat → Nat → Int32} {E : Nat → Nat → Int64} {M : Nat → Int32} {R R' : Nat → List Int32} {N : Nat → Int32} (hG : gG A E M R N) (e : ∀ a, R a = R' a) : gG A E M R' N := by rw [← funext e]; exact hG
theorem gapp_st {f : Nat → Int32} {l : List Int32} {i : Nat} {y : Int32} (h : gSt f 0 (l ++ List.replicate i y)) (x : Int32) (hxy : x = y := by rfl) : gSt (upd f (l.length + i) x) 0 (l ++ List.replicate (i + 1) y) := by
  rw [List.replicate_succ', ← List.append_assoc]
  intro j v hv
  have hl : (l ++ List.replicate i y).length = l.length + i := by simp
  have hj := (List.getElem?_eq_some_iff.mp hv).1
  rw [List.length_append, hl] at hj
  rw [Nat.zero_add]
  unfold upd
  by_cases e : j = l.length + i
  · rw [if_pos e]
    rw [List.getElem?_append_right (by omega), hl, e, Nat.sub_self] at hv
    cases hv
    exact hxy
  · rw [if_neg e]
    rw [List.getElem?_append_left (by rw [hl]; simp at hj; omega)] at hv
    have := h j v hv
    rwa [Nat.zero_add] at this
set_option maxHeartbeats 4000000 in
theorem r6_append {d : Nat} {h0 h : GH} {R : Nat → List Int32} {N : Nat → Int32} (hS : gRS h0 h R N) (x c : Int32) : gN false (d + 60) yX6_append [.ref 99, .int x, .int c] h (fun o h' => o = some (.int (s_append R N x c).1) ∧ gRS h0 h' (s_append R N x c).2.1 (s_append R N x c).2.2) := by
  obtain ⟨A, E, M, pv, tv, hP, hG⟩ := hS
  have g0 := hG.1.1
  have g5 := hG.1.2.1
  have g9 := hG.1.2.2.1
  have g33 := hG.1.2.2.2.1
  have g20 := hG.1.2.2.2.2.1
  have g106 := hG.1.2.2.2.2.2
  refine gN.of MX6_append (Nat.le_of_ble_eq_true rfl) (fun J n hJ => ?_)
  show J 0 [some (.ref 99), some (.int x), some (.int c), none] [] h (n, 0, 0, false)
  by_cases hx : (0 ≤ x.toInt ∧ x.toInt ≤ 127) ∧ 1 ≤ c.toInt ∧ c.toInt ≤ 20
  · have hc := gnat (x := c) (by omega)
    have hcz : c.toInt.toNat ≤ 20 := by omega
    obtain ⟨cn, hcn⟩ : ∃ cn, c.toInt.toNat = cn := ⟨_, rfl⟩
    rw [hcn] at hc hcz
    rw [hc]
    refine j_p (nx := 1) hJ dX6_append_0 rfl rfl ?_
    refine j_c (nx := 2) hJ dX6_append_1 rfl gk_iconst_0 ?_
    refine j_c (nx := 4) hJ dX6_append_2 rfl gk_bipush_127 ?_
    refine j_csR (nx := 7) hJ dX6_append_4 rfl (r6_in (fl := false) (d := d + 58) x 0 127) mX6_101 rfl (gle8 rfl) ?_
    rw [show gin x 0 127 = true from decide_eq_true (by rw [Int32.le_iff_toInt_le, Int32.le_iff_toInt_le, show (0 : Int32).toInt = 0 by decide, show (127 : Int32).toInt = 127 by decide]; omega)]
    refine j_if_eq (nx := 10) (tgt := 20) hJ dX6_append_7 rfl (by decide) (fun c7 => absurd c7 (by decide)) (fun c7 => ?_)
    refine j_p (nx := 11) hJ dX6_append_10 rfl rfl ?_
    refine j_c (nx := 12) hJ dX6_append_11 rfl gk_iconst_1 ?_
    refine j_c (nx := 14) hJ dX6_append_12 rfl gk_bipush_20 ?_
    rw [← hc]
    refine j_csR (nx := 17) hJ dX6_append_14 rfl (r6_in (fl := false) (d := d + 58) c 1 20) mX6_101 rfl (gle8 rfl) ?_
    rw [show gin c 1 20 = true from decide_eq_true (by rw [Int32.le_iff_toInt_le, Int32.le_iff_toInt_le, show (1 : Int32).toInt = 1 by decide, show (20 : Int32).toInt = 20 by decide]; omega)]
    rw [hc]
    refine j_if_ne (nx := 20) (tgt := 22) hJ dX6_append_17 rfl (by decide) (fun c17 => ?_) (fun c17 => absurd c17 (by decide))
    refine j_p (nx := 23) hJ dX6_append_22 rfl rfl ?_
    refine j_get (nx := 26) hJ dX6_append_23 rfl fX6_105 hP.1.1 (by rfl) ?_
    rw [g9]
    refine j_p (nx := 27) hJ dX6_append_26 rfl rfl ?_
    refine j_p (nx := 28) hJ dX6_append_27 rfl rfl ?_
    rw [gadd]
    refine j_c (nx := 30) hJ dX6_append_28 rfl gk_bipush_20 ?_
    refine j_ic_le (nx := 33) (tgt := 36) hJ dX6_append_30 rfl (by decide) (fun c30 => ?_) (fun c30 => ?_)
    · rw [show (20 : Int32) = nI 20 from rfl, gnle (by omega) (by omega)] at c30
      have e : s_append R N x c = (nI ((R 73).length + cn), gU R 73 (R 73 ++ List.replicate cn x), N) := by
        unfold s_append
        rw [if_pos hx, hcn, if_neg (by omega)]
      have loop : ∀ i, i ≤ cn → ∀ h1 : GH, gRS h0 h1 (gU R 73 (R 73 ++ List.replicate i x)) N → J 38 [some (.ref 99), some (.int x), some (.int (nI cn)), some (.int (nI i))] [] h1 (n, 0, 0, false) := by
        refine gloop _ _ (fun i hi ih h1 hS1 => ?_)
        obtain ⟨A1, E1, M1, pv1, tv1, hP1, hG1⟩ := hS1
        have g91 := hG1.1.2.2.1
        rw [gU_s, List.length_append, List.length_replicate] at g91
        have hs1 := hG1.1.2.2.2.2.2
        rw [gU_s] at hs1
        refine j_p (nx := 39) hJ dX6_append_38 rfl rfl ?_
        refine j_p (nx := 40) hJ dX6_append_39 rfl rfl ?_
        refine j_ic_ge (nx := 43) (tgt := 69) hJ dX6_append_40 rfl (by decide) (fun c40 => ?_) (fun c40 => ?_)
        · refine j_p (nx := 70) hJ dX6_append_69 rfl rfl ?_
          refine j_get (nx := 73) hJ dX6_append_70 rfl fX6_105 hP1.1.1 (by rfl) ?_
          rw [g91]
          rw [gnle (by omega) (by omega)] at c40
          have e0 : i = cn := by omega
          subst e0
          exact j_iret hJ dX6_append_73 ⟨by rw [e], by rw [e]; exact ⟨_, _, _, _, _, hP1, hG1⟩⟩
        · rw [gnle (by omega) (by omega)] at c40
          have hil : i < cn := by omega
          refine j_p (nx := 44) hJ dX6_append_43 rfl rfl ?_
          refine j_get (nx := 47) hJ dX6_append_44 rfl fX6_34 hP1.1.1 (by rfl) ?_
          refine j_p (nx := 48) hJ dX6_append_47 rfl rfl ?_
          refine j_get (nx := 51) hJ dX6_append_48 rfl fX6_105 hP1.1.1 (by rfl) ?_
          rw [g91]
          refine j_p (nx := 52) hJ dX6_append_51 rfl rfl ?_
          refine j_iast (j := (R 73).length + i) (nx := 53) hJ dX6_append_52 rfl (show h1 106 = some (gia 20 (A1 106)) from hP1.a 106 (by unfold gia'; omega)) rfl (by omega) (by decide) ?_
          have hP2 := hP1.arr (a := 106) (by unfold gia'; omega) (upd (A1 106) ((R 73).length + i) (x))
          refine j_p (nx := 54) hJ dX6_append_53 rfl rfl ?_
          refine j_p (nx := 55) hJ dX6_append_54 rfl rfl ?_
          refine j_get (nx := 58) hJ dX6_append_55 rfl fX6_105 hP2.1.1 (by rfl) ?_
          rw [g91]
          refine j_c (nx := 59) hJ dX6_append_58 rfl gk_iconst_1 ?_
          refine j_p (nx := 60) hJ dX6_append_59 rfl rfl ?_
          rw [show nI ((R 73).length + i) + 1 = nI ((R 73).length + i + 1) from (nI_succ _).symm]
          refine j_put (nx := 63) hJ dX6_append_60 rfl fX6_105 (zX6_9 _) hP2.1.1 (Nat.le_of_ble_eq_true rfl) ?_
          change J 63 _ _ (gup _ 99 (gO (gU M1 9 (nI ((R 73).length + i + 1))) pv1 tv1)) _
          have hP3 := hP2.fld (gU M1 9 (nI ((R 73).length + i + 1))) pv1 tv1
          refine j_inc (nx := 66) hJ dX6_append_63 rfl rfl (gi1 i) rfl ?_
          refine j_go (tgt := 38) hJ dX6_append_66 (by decide) ?_
          refine ih hil _ ⟨_, _, _, _, _, hP3, ?_⟩
          have hz := hG1.inp (A' := gU A1 106 (upd (A1 106) ((R 73).length + i) x)) (M' := gU M1 9 (nI ((R 73).length + i + 1))) (l := R 73 ++ List.replicate (i + 1) x) (by rw [List.length_append, List.length_replicate]; omega) (by rw [gU_s, List.length_append, List.length_replicate]; rfl) (by rw [gU_s]; exact gapp_st hs1 x) ⟨rfl, rfl, rfl, rfl, rfl⟩ (fun a p _ => gU_n _ _ p)
          exact hz.rwR (fun a => by simp only [gU]; split <;> rfl)
      refine j_c (nx := 37) hJ dX6_append_36 rfl gk_iconst_0 ?_
      refine j_p (nx := 38) hJ dX6_append_37 rfl rfl ?_
      exact loop 0 (Nat.zero_le _) h ⟨A, E, M, pv, tv, hP, hG.rwR (fun a => by unfold gU; split; (next q => rw [q]; simp); rfl)⟩
    · refine j_c (nx := 35) hJ dX6_append_33 rfl gk_bipush_m4 ?_
      rw [show (20 : Int32) = nI 20 from rfl, gnle (by omega) (by omega)] at c30
      have e : s_append R N x c = (-4, R, N) := by
        unfold s_append
        rw [if_pos hx, hcn, if_pos (by omega)]
      exact j_iret hJ dX6_append_35 ⟨by rw [e], by rw [e]; exact ⟨A, E, M, pv, tv, hP, hG⟩⟩
  · refine j_p (nx := 1) hJ dX6_append_0 rfl rfl ?_
    refine j_c (nx := 2) hJ dX6_append_1 rfl gk_iconst_0 ?_
    refine j_c (nx := 4) hJ dX6_append_2 rfl gk_bipush_127 ?_
    refine j_csR (nx := 7) hJ dX6_append_4 rfl (r6_in (fl := false) (d := d + 58) x 0 127) mX6_101 rfl (gle8 rfl) ?_
    refine j_if_eq (nx := 10) (tgt := 20) hJ dX6_append_7 rfl (by decide) (fun c7 => ?_) (fun c7 => ?_)
    · refine j_c (nx := 21) hJ dX6_append_20 rfl gk_iconst_m1 ?_
      have e : s_append R N x c = (-1, R, N) := if_neg hx
      exact j_iret hJ dX6_append_21 ⟨by rw [e], by rw [e]; exact ⟨A, E, M, pv, tv, hP, hG⟩⟩
    · refine j_p (nx := 11) hJ dX6_append_10 rfl rfl ?_
      refine j_c (nx := 12) hJ dX6_append_11 rfl gk_iconst_1 ?_
      refine j_c (nx := 14) hJ dX6_append_12 rfl gk_bipush_20 ?_
      refine j_csR (nx := 17) hJ dX6_append_14 rfl (r6_in (fl := false) (d := d + 58) c 1 20) mX6_101 rfl (gle8 rfl) ?_
      refine j_if_ne (nx := 20) (tgt := 22) hJ dX6_append_17 rfl (by decide) (fun c17 => ?_) (fun c17 => ?_)
      · rw [gb_t] at c7 c17
        have u := of_decide_eq_true c7
        have w := of_decide_eq_true c17
        rw [Int32.le_iff_toInt_le, Int32.le_iff_toInt_le, show (0 : Int32).toInt = 0 by decide, show (127 : Int32).toInt = 127 by decide] at u
        rw [Int32.le_iff_toInt_le, Int32.le_iff_toInt_le, show (1 : Int32).toInt = 1 by decide, show (20 : Int32).toInt = 20 by decide] at w
        exact absurd ⟨u, w⟩ hx
      · refine j_c (nx := 21) hJ dX6_append_20 rfl gk_iconst_m1 ?_
        have e : s_append R N x c = (-1, R, N) := if_neg hx
        exact j_iret hJ dX6_append_21 ⟨by rw [e], by rw [e]; exact ⟨A, E, M, pv, tv, hP, hG⟩⟩
set_option maxHeartbeats 4000000 in
theorem r6_clearInput {d : Nat} {h0 h : GH} {R : Nat → List Int32} {N : Nat → Int32} (hS : gRS h0 h R N) : gN false (d + 60) yX6_clearInput [.ref 99] h (fun o h' => o = some (.int (nI (R 73).length)) ∧ gRS h0 h' (gU R 73 []) N) := by
  obtain ⟨A, E, M, pv, tv, hP, hG⟩ := hS
  have g0 := hG.1.1
  have g5 := hG.1.2.1
  have g9 := hG.1.2.2.1
  have g33 := hG.1.2.2.2.1
  have g20 := hG.1.2.2.2.2.1
  have g106 := hG.1.2.2.2.2.2
  refine gN.of MX6_clearInput (Nat.le_of_ble_eq_true rfl) (fun J n hJ => ?_)
  show J 0 [some (.ref 99), none] [] h (n, 0, 0, false)
  refine j_p (nx := 1) hJ dX6_clearInput_0 rfl rfl ?_
  refine j_get (nx := 4) hJ dX6_clearInput_1 rfl fX6_105 hP.1.1 (by rfl) ?_
  rw [g9]
  refine j_p (nx := 5) hJ dX6_clearInput_4 rfl rfl ?_
  refine j_p (nx := 6) hJ dX6_clearInput_5 rfl rfl ?_
  refine j_c (nx := 7) hJ dX6_clearInput_6 rfl gk_iconst_0 ?_
  refine j_put (nx := 10) hJ dX6_clearInput_7 rfl fX6_105 (zX6_9 _) hP.1.1 (Nat.le_of_ble_eq_true rfl) ?_
  change J 10 _ _ (gup h 99 (gO (gU M 9 (0)) pv tv)) _
  have hP1 := hP.fld (gU M 9 (0)) pv tv
  refine j_p (nx := 11) hJ dX6_clearInput_10 rfl rfl ?_
  exact j_iret hJ dX6_clearInput_11 ⟨rfl, _, _, _, _, _, hP1, hG.inp (l := []) (by show 0 ≤ 20; omega) rfl (fun i v hv => by cases hv) ⟨rfl, rfl, rfl, rfl, rfl⟩ (fun a _ _ => rfl)⟩
