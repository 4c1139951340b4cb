set_option maxHeartbeats 4000000 in
theorem r6_takeWord {d : Nat} {h0 h : GH} {A : Nat → Nat → Int32} {E : Nat → Nat → Int64} {M : Nat → Int32} {pv tv : Value} (hP : gP h0 h A E M pv tv) {R : Nat → List Int32} {N : Nat → Int32} (hG : gG A E M R N) {k : Nat} (hk1 : N 1 = nI k) (hk3 : k ≤ 3) (x md : Int32) : gN false (d + 4) yX6_takeWord [.ref 99, .int x, .int md] h (fun o h' => o = some (.int (grf x md (gwd (N 1) (R 73)).isSome)) ∧ ∃ f, gP h0 h' (gU A 107 f) E (gU (gU M 11 (nI (R 73).length)) 9 0) pv tv ∧ ((gwd (N 1) (R 73)).isSome = true → gSt f 0 ((R 73).map (gcode (N 1))))) := by
  have g0 := hG.1.1
  refine gN.of MX6_takeWord (Nat.le_of_ble_eq_true rfl) (fun J n hJ => ?_)
  show J 0 [some (.ref 99), some (.int x), some (.int md), none] [] h (n, 0, 0, false)
  refine j_p (nx := 1) hJ dX6_takeWord_0 rfl rfl ?_
  refine j_c (nx := 2) hJ dX6_takeWord_1 rfl gk_iconst_0 ?_
  refine j_cv (nx := 5) hJ dX6_takeWord_2 rfl (r6_takeInput (d := d) hP hG (g0.trans hk1) hk3 false) mX6_135 hP.1.1 kX6_takeInput rfl (gle8 rfl) (fun o h1 hp => ?_)
  obtain ⟨rfl, f, hP1, hf⟩ := hp
  rw [gtk_f (g0.trans hk1) hk3] at hf ⊢
  rw [g0] at hf ⊢
  refine j_p (nx := 6) hJ dX6_takeWord_5 rfl rfl ?_
  refine j_p (nx := 7) hJ dX6_takeWord_6 rfl rfl ?_
  refine j_csR (nx := 10) hJ dX6_takeWord_7 rfl (r6_isRegister (fl := false) (d := d + 1) x) mX6_139 rfl (gle8 rfl) ?_
  refine j_if_ne (nx := 13) (tgt := 18) hJ dX6_takeWord_10 rfl (by decide) (fun c10 => ?_) (fun c10 => ?_)
  · refine j_p (nx := 19) hJ dX6_takeWord_18 rfl rfl ?_
    refine j_csR (nx := 22) hJ dX6_takeWord_19 rfl (r6_isMode (fl := false) (d := d + 1) md) mX6_221 rfl (gle8 rfl) ?_
    refine j_if_ne (nx := 25) (tgt := 29) hJ dX6_takeWord_22 rfl (by decide) (fun c22 => ?_) (fun c22 => ?_)
    · refine j_p (nx := 30) hJ dX6_takeWord_29 rfl rfl ?_
      refine j_if_eq (nx := 33) (tgt := 37) hJ dX6_takeWord_30 rfl (by decide) (fun c30 => ?_) (fun c30 => ?_)
      · refine j_c (nx := 39) hJ dX6_takeWord_37 rfl gk_bipush_m5 ?_
        rw [gb_t] at c10 c22
        rw [gb_f] at c30
        have e : grf x md (gwd (N 1) (R 73)).isSome = -5 := by unfold grf; rw [if_pos c10, if_pos c22, if_neg (by rw [c30]; decide)]
        exact j_iret hJ dX6_takeWord_39 ⟨by rw [e], f, hP1, hf⟩
      · refine j_c (nx := 34) hJ dX6_takeWord_33 rfl gk_iconst_0 ?_
        refine j_go (tgt := 39) hJ dX6_takeWord_34 (by decide) ?_
        rw [gb_t] at c10 c22 c30
        have e : grf x md (gwd (N 1) (R 73)).isSome = 0 := by unfold grf; rw [if_pos c10, if_pos c22, if_pos c30]
        exact j_iret hJ dX6_takeWord_39 ⟨by rw [e], f, hP1, hf⟩
    · refine j_c (nx := 26) hJ dX6_takeWord_25 rfl gk_iconst_m1 ?_
      refine j_go (tgt := 39) hJ dX6_takeWord_26 (by decide) ?_
      rw [gb_t] at c10
      rw [gb_f] at c22
      have e : grf x md (gwd (N 1) (R 73)).isSome = -1 := by unfold grf; rw [if_pos c10, if_neg (by rw [c22]; decide)]
      exact j_iret hJ dX6_takeWord_39 ⟨by rw [e], f, hP1, hf⟩
  · refine j_c (nx := 15) hJ dX6_takeWord_13 rfl gk_bipush_m2 ?_
    refine j_go (tgt := 39) hJ dX6_takeWord_15 (by decide) ?_
    rw [gb_f] at c10
    have e : grf x md (gwd (N 1) (R 73)).isSome = -2 := if_neg (by rw [c10]; decide)
    exact j_iret hJ dX6_takeWord_39 ⟨by rw [e], f, hP1, hf⟩
set_option maxHeartbeats 4000000 in
theorem r6_matchesOf {d : Nat} {h0 h : GH} {A : Nat → Nat → Int32} {E : Nat → Nat → Int64} {M : Nat → Int32} {pv tv : Value} (hP : gP h0 h A E M pv tv) {r : Nat} (hr : r < 6) {p t : List Int32} (hl : gSl (A 100) (A 101) r p) (ht : gSt (A 107) 0 t) (ht8 : t.length ≤ 8) (hM : M 11 = nI t.length) (hsy : ∀ c ∈ p, gsy c) {md : Int32} (hmd : gmd md = true) {mst : Nat} (hm1 : 1 ≤ mst) (hm31 : mst < 2 ^ 31) : gN false (d + 9) yX6_matchesOf [.ref 99, .int (nI r), .int md, .int (nI mst)] h (fun o h' => o = some (.int (nI (min mst (gsol p t md).length))) ∧ ∃ A' M', gP h0 h' A' E M' (.ref 100) (.ref 107) ∧ (∀ a, a ≠ 109 → a ≠ 110 → a ≠ 111 → a ≠ 112 → A' a = A a) ∧ (∀ i, i ≠ 14 → i ≠ 15 → i ≠ 17 → i ≠ 21 → i ≠ 22 → i ≠ 23 → M' i = M i) ∧ (gsol p t md ≠ [] → ∀ u, u < 4 → A' 111 u = nI (((gsol p t md).headD (fun _ => 0)) u))) := by
  have hl8 := hl.2.1
  refine gN.of MX6_matchesOf (Nat.le_of_ble_eq_true rfl) (fun J n hJ => ?_)
  show J 0 [some (.ref 99), some (.int (nI r)), some (.int md), some (.int (nI mst))] [] h (n, 0, 0, false)
  refine j_p (nx := 1) hJ dX6_matchesOf_0 rfl rfl ?_
  refine j_p (nx := 2) hJ dX6_matchesOf_1 rfl rfl ?_
  refine j_get (nx := 5) hJ dX6_matchesOf_2 rfl fX6_15 hP.1.1 (by rfl) ?_
  refine j_c (nx := 7) hJ dX6_matchesOf_5 rfl gk_bipush_8 ?_
  refine j_p (nx := 8) hJ dX6_matchesOf_7 rfl rfl ?_
  refine j_p (nx := 9) hJ dX6_matchesOf_8 rfl rfl ?_
  rw [show (8 : Int32) = nI 8 from rfl, gmul]
  refine j_p (nx := 10) hJ dX6_matchesOf_9 rfl rfl ?_
  refine j_get (nx := 13) hJ dX6_matchesOf_10 rfl fX6_19 hP.1.1 (by rfl) ?_
  refine j_p (nx := 14) hJ dX6_matchesOf_13 rfl rfl ?_
  refine j_iald (j := r) (nx := 15) hJ dX6_matchesOf_14 rfl (show h 101 = some (gia 6 (A 101)) from hP.a 101 (by unfold gia'; omega)) rfl (by omega) (by decide) ?_
  rw [hl.1]
  refine j_p (nx := 16) hJ dX6_matchesOf_15 rfl rfl ?_
  refine j_get (nx := 19) hJ dX6_matchesOf_16 rfl fX6_37 hP.1.1 (by rfl) ?_
  refine j_c (nx := 20) hJ dX6_matchesOf_19 rfl gk_iconst_0 ?_
  refine j_p (nx := 21) hJ dX6_matchesOf_20 rfl rfl ?_
  refine j_get (nx := 24) hJ dX6_matchesOf_21 rfl fX6_112 hP.1.1 (by rfl) ?_
  rw [hM]
  refine j_p (nx := 25) hJ dX6_matchesOf_24 rfl rfl ?_
  refine j_p (nx := 26) hJ dX6_matchesOf_25 rfl rfl ?_
  refine j_cv (nx := 29) hJ dX6_matchesOf_26 rfl (r6_matchP (d := d) hP (pa := 100) (po := 8 * r) (ta := 107) (tq := 0) (p := p) (t := t) (by unfold gia'; omega) (by unfold gia'; omega) (by omega) (by omega) hl.2.2 ht (by show 8 * r + p.length ≤ 48; omega) (by show 0 + t.length ≤ 8; omega) hsy hmd hm1 hm31) mX6_217 hP.1.1 kX6_match rfl (gle8 rfl) (fun o h1 hp => ?_)
  obtain ⟨rfl, hq⟩ := hp
  exact j_iret hJ dX6_matchesOf_29 ⟨rfl, hq⟩
theorem grf_neg {x md : Int32} {w : Bool} : grf x md w < 0 ∨ grf x md w = 0 := by
  unfold grf
  split
  · split
    · split
      · exact Or.inr rfl
      · exact Or.inl (by decide)
    · exact Or.inl (by decide)
  · exact Or.inl (by decide)
theorem gmin1s {α : Type} (l : List α) : nI (min 1 l.length) = gb (decide (l ≠ [])) := by
  cases l with
  | nil => rfl
  | cons a l =>
    rw [List.length_cons, Nat.min_eq_left (by omega), decide_eq_true (by simp)]; rfl
set_option maxHeartbeats 4000000 in
theorem r6_matches {d : Nat} {h0 h : GH} {R : Nat → List Int32} {N : Nat → Int32} (hS : gRS h0 h R N) (hI : gInv R N) (x md : Int32) : gN false (d + 60) yX6_matches [.ref 99, .int x, .int md] h (fun o h' => o = some (.int (s_matches R N x md)) ∧ gRS h0 h' (gU R 73 []) N) := by
  obtain ⟨A, E, M, pv, tv, hP, hG⟩ := hS
  have g0 := hG.1.1
  have g9 := hG.1.2.2.1
  obtain ⟨⟨k, ss, hk1, hk3, hss1, hss6, hpt, him, hsm⟩, hI2, hI3, hI4, hI5⟩ := hI
  refine gN.of MX6_matches (Nat.le_of_ble_eq_true rfl) (fun J n hJ => ?_)
  show J 0 [some (.ref 99), some (.int x), some (.int md), none] [] h (n, 0, 0, false)
  refine j_p (nx := 1) hJ dX6_matches_0 rfl rfl ?_
  refine j_p (nx := 2) hJ dX6_matches_1 rfl rfl ?_
  refine j_p (nx := 3) hJ dX6_matches_2 rfl rfl ?_
  refine j_cv (nx := 6) hJ dX6_matches_3 rfl (r6_takeWord (d := d + 55) hP hG hk1 hk3.2 x md) mX6_224 hP.1.1 kX6_takeWord rfl (gle8 rfl) (fun o h1 hp => ?_)
  obtain ⟨rfl, f, hP1, hf⟩ := hp
  have hG1 : gG (gU A 107 f) E (gU (gU M 11 (nI (R 73).length)) 9 0) (gU R 73 []) N := hG.inp (l := []) (by show 0 ≤ 20; omega) rfl (fun i v hv => by cases hv) ⟨rfl, rfl, rfl, rfl, rfl⟩ (fun a _ p => gU_n _ _ (by omega))
  refine j_p (nx := 7) hJ dX6_matches_6 rfl rfl ?_
  refine j_p (nx := 8) hJ dX6_matches_7 rfl rfl ?_
  refine j_if_ge (nx := 11) (tgt := 15) hJ dX6_matches_8 rfl (by decide) (fun c8 => ?_) (fun c8 => ?_)
  · have hz0 : grf x md (gwd (N 1) (R 73)).isSome = 0 := grf_neg.resolve_left (fun q => by rw [Int32.lt_iff_toInt_lt] at q; rw [Int32.le_iff_toInt_le] at c8; omega)
    obtain ⟨hx, hmd, hw⟩ := grf_0 hz0
    obtain ⟨t, hg⟩ := gisSome_some hw
    obtain ⟨ht1, ht2, ht3, ht4⟩ := gwd_v hg
    have hst := hf hw
    rw [← ht1] at hst
    have htl : t.length = (R 73).length := by rw [ht1, List.length_map]
    have hxx := hx
    obtain ⟨r, rfl, hr⟩ := gbt_spec hxx
    have egr := gr_nI (r := r) (by omega)
    have hl := hG.2.1 r hr
    have hpr : gPt k (R (5 + 2 * r)) := hpt r hr
    have hps := hpr.sy hk3.2
    refine j_p (nx := 16) hJ dX6_matches_15 rfl rfl ?_
    refine j_p (nx := 17) hJ dX6_matches_16 rfl rfl ?_
    refine j_p (nx := 18) hJ dX6_matches_17 rfl rfl ?_
    refine j_c (nx := 19) hJ dX6_matches_18 rfl gk_iconst_1 ?_
    refine j_cv (nx := 22) hJ dX6_matches_19 rfl (r6_matchesOf (d := d + 50) hP1 hr (p := (R (5 + 2 * r))) (t := t) hl hst (by omega) (by show nI _ = _; rw [htl]) hps hmd (mst := 1) (by omega) (by omega)) mX6_227 hP1.1.1 kX6_matchesOf rfl (gle8 rfl) (fun o h2 hp => ?_)
    obtain ⟨rfl, A2, M3, hP2, k1, k2, k3⟩ := hp
    have hG2 := hG1.scr (A' := A2) (M' := M3) (E' := E) (fun a ha => k1 a (by omega) (by omega) (by omega) (by omega)) rfl ⟨k2 0 (by omega) (by omega) (by omega) (by omega) (by omega) (by omega), k2 5 (by omega) (by omega) (by omega) (by omega) (by omega) (by omega), k2 9 (by omega) (by omega) (by omega) (by omega) (by omega) (by omega), k2 33 (by omega) (by omega) (by omega) (by omega) (by omega) (by omega), k2 34 (by omega) (by omega) (by omega) (by omega) (by omega) (by omega), k2 35 (by omega) (by omega) (by omega) (by omega) (by omega) (by omega)⟩
    have e : s_matches R N (nI r) md = gb (gMB (R (5 + 2 * r)) t md 0 0) := by unfold s_matches; rw [if_pos hz0, hg, egr]
    refine j_iret hJ dX6_matches_22 ⟨?_, _, _, _, _, _, hP2, hG2⟩
    rw [e, gMB_sol hps hpr.2.2.2.2, ← gmin1s]
  · refine j_p (nx := 12) hJ dX6_matches_11 rfl rfl ?_
    refine j_go (tgt := 22) hJ dX6_matches_12 (by decide) ?_
    have hz9 : ¬ grf x md (gwd (N 1) (R 73)).isSome = 0 := fun q => by rw [q] at c8; exact absurd c8 (by decide)
    have e : s_matches R N x md = grf x md (gwd (N 1) (R 73)).isSome := if_neg hz9
    exact j_iret hJ dX6_matches_22 ⟨by rw [e], _, _, _, _, _, hP1, hG1⟩
set_option maxHeartbeats 4000000 in
theorem r6_matchCount {d : Nat} {h0 h : GH} {R : Nat → List Int32} {N : Nat → Int32} (hS : gRS h0 h R N) (hI : gInv R N) (x md : Int32) : gN false (d + 60) yX6_matchCount [.ref 99, .int x, .int md] h (fun o h' => o = some (.int (s_matchCount R N x md)) ∧ gRS h0 h' (gU R 73 []) N) := by
  obtain ⟨A, E, M, pv, tv, hP, hG⟩ := hS
  have g0 := hG.1.1
  have g9 := hG.1.2.2.1
  obtain ⟨⟨k, ss, hk1, hk3, hss1, hss6, hpt, him, hsm⟩, hI2, hI3, hI4, hI5⟩ := hI
  refine gN.of MX6_matchCount (Nat.le_of_ble_eq_true rfl) (fun J n hJ => ?_)
  show J 0 [some (.ref 99), some (.int x), some (.int md), none] [] h (n, 0, 0, false)
  refine j_p (nx := 1) hJ dX6_matchCount_0 rfl rfl ?_
  refine j_p (nx := 2) hJ dX6_matchCount_1 rfl rfl ?_
  refine j_p (nx := 3) hJ dX6_matchCount_2 rfl rfl ?_
  refine j_cv (nx := 6) hJ dX6_matchCount_3 rfl (r6_takeWord (d := d + 55) hP hG hk1 hk3.2 x md) mX6_224 hP.1.1 kX6_takeWord rfl (gle8 rfl) (fun o h1 hp => ?_)
  obtain ⟨rfl, f, hP1, hf⟩ := hp
  have hG1 : gG (gU A 107 f) E (gU (gU M 11 (nI (R 73).length)) 9 0) (gU R 73 []) N := hG.inp (l := []) (by show 0 ≤ 20; omega) rfl (fun i v hv => by cases hv) ⟨rfl, rfl, rfl, rfl, rfl⟩ (fun a _ p => gU_n _ _ (by omega))
  refine j_p (nx := 7) hJ dX6_matchCount_6 rfl rfl ?_
  refine j_p (nx := 8) hJ dX6_matchCount_7 rfl rfl ?_
  refine j_if_ge (nx := 11) (tgt := 15) hJ dX6_matchCount_8 rfl (by decide) (fun c8 => ?_) (fun c8 => ?_)
  · have hz0 : grf x md (gwd (N 1) (R 73)).isSome = 0 := grf_neg.resolve_left (fun q => by rw [Int32.lt_iff_toInt_lt] at q; rw [Int32.le_iff_toInt_le] at c8; omega)
    obtain ⟨hx, hmd, hw⟩ := grf_0 hz0
    obtain ⟨t, hg⟩ := gisSome_some hw
    obtain ⟨ht1, ht2, ht3, ht4⟩ := gwd_v hg
    have hst := hf hw
    rw [← ht1] at hst
    have htl : t.length = (R 73).length := by rw [ht1, List.length_map]
    have hxx := hx
    obtain ⟨r, rfl, hr⟩ := gbt_spec hxx
    have egr := gr_nI (r := r) (by omega)
    have hl := hG.2.1 r hr
    have hpr : gPt k (R (5 + 2 * r)) := hpt r hr
    have hps := hpr.sy hk3.2
    refine j_p (nx := 16) hJ dX6_matchCount_15 rfl rfl ?_
    refine j_p (nx := 17) hJ dX6_matchCount_16 rfl rfl ?_
    refine j_p (nx := 18) hJ dX6_matchCount_17 rfl rfl ?_
    refine j_ldc (nx := 20) hJ dX6_matchCount_18 rfl qX6_232 ?_
    refine j_cv (nx := 23) hJ dX6_matchCount_20 rfl (r6_matchesOf (d := d + 50) hP1 hr (p := (R (5 + 2 * r))) (t := t) hl hst (by omega) (by show nI _ = _; rw [htl]) hps hmd (mst := 2147483647) (by omega) (by omega)) mX6_227 hP1.1.1 kX6_matchesOf rfl (gle8 rfl) (fun o h2 hp => ?_)
    obtain ⟨rfl, A2, M3, hP2, k1, k2, k3⟩ := hp
    have hG2 := hG1.scr (A' := A2) (M' := M3) (E' := E) (fun a ha => k1 a (by omega) (by omega) (by omega) (by omega)) rfl ⟨k2 0 (by omega) (by omega) (by omega) (by omega) (by omega) (by omega), k2 5 (by omega) (by omega) (by omega) (by omega) (by omega) (by omega), k2 9 (by omega) (by omega) (by omega) (by omega) (by omega) (by omega), k2 33 (by omega) (by omega) (by omega) (by omega) (by omega) (by omega), k2 34 (by omega) (by omega) (by omega) (by omega) (by omega) (by omega), k2 35 (by omega) (by omega) (by omega) (by omega) (by omega) (by omega)⟩
    have e : s_matchCount R N (nI r) md = nI (gCA (R (5 + 2 * r)) t md) := by unfold s_matchCount; rw [if_pos hz0, hg, egr]
    refine j_iret hJ dX6_matchCount_23 ⟨?_, _, _, _, _, _, hP2, hG2⟩
    rw [e, gCA_sol hps hpr.2.2.2.2]
  · refine j_p (nx := 12) hJ dX6_matchCount_11 rfl rfl ?_
    refine j_go (tgt := 23) hJ dX6_matchCount_12 (by decide) ?_
    have hz9 : ¬ grf x md (gwd (N 1) (R 73)).isSome = 0 := fun q => by rw [q] at c8; exact absurd c8 (by decide)
    have e : s_matchCount R N x md = grf x md (gwd (N 1) (R 73)).isSome := if_neg hz9
    exact j_iret hJ dX6_matchCount_23 ⟨by rw [e], _, _, _, _, _, hP1, hG1⟩
