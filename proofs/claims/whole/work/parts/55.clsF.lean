def grf (x md : Int32) (w : Bool) : Int32 := if gbt x 6 = true then (if gmd md = true then (if w = true then 0 else -5) else -1) else -2
def s_matches (R : Nat → List Int32) (N : Nat → Int32) (x md : Int32) : Int32 := if grf x md (gwd (N 1) (R 73)).isSome = 0 then (match gwd (N 1) (R 73) with
  | some t => gb (gMB (R (gr x)) t md 0 0)
  | none => 0) else grf x md (gwd (N 1) (R 73)).isSome
def s_matchCount (R : Nat → List Int32) (N : Nat → Int32) (x md : Int32) : Int32 := if grf x md (gwd (N 1) (R 73)).isSome = 0 then (match gwd (N 1) (R 73) with
  | some t => nI (gCA (R (gr x)) t md)
  | none => 0) else grf x md (gwd (N 1) (R 73)).isSome
theorem grf_0 {x md : Int32} {w : Bool} (h : grf x md w = 0) : gbt x 6 = true ∧ gmd md = true ∧ w = true := by
  unfold grf at h
  split at h
  · split at h
    · split at h
      · next a b c => exact ⟨a, b, c⟩
      · exact absurd h (by decide)
    · exact absurd h (by decide)
  · exact absurd h (by decide)
theorem gisSome_some {α : Type} {o : Option α} (h : o.isSome = true) : ∃ x, o = some x := by
  cases o with
  | none => cases h
  | some x => exact ⟨x, rfl⟩
def gimg (t : List Int32) (env : GV) (v : Nat) : List Int32 := match env v with
  | some bz => (List.range bz.2).map (fun i => t.getD (bz.1 + i) (-1))
  | none => []
def gUi (R : Nat → List Int32) (t : List Int32) (env : GV) (k : Nat) : Nat → List Int32 := fun a => if a % 2 = 1 ∧ 17 ≤ a ∧ a < 17 + 2 * k then gimg t env ((a - 17) / 2) else R a
def genv (p t : List Int32) (md : Int32) : GV := (gEs p t (gL md) 0 (t.length - gned (gL md) p)).headD gV0
def s_match (R : Nat → List Int32) (N : Nat → Int32) (x md : Int32) : Int32 × (Nat → List Int32) × (Nat → Int32) := if grf x md (gwd (N 1) (R 73)).isSome = 0 then (match gwd (N 1) (R 73) with
  | some t => if gMB (R (gr x)) t md 0 0 = true then (if 0 < gnv (R (gr x)) then nI (gimg t (genv (R (gr x)) t md) 0).length else 0, gUi (gU R 73 []) t (genv (R (gr x)) t md) (gnv (R (gr x))), N) else (-6, gU R 73 [], N)
  | none => (0, R, N)) else (grf x md (gwd (N 1) (R 73)).isSome, gU R 73 [], N)
def gi (v : Int32) : Nat := 17 + 2 * v.toInt.toNat
theorem gi_nI {r : Nat} (h : r < 2 ^ 31) : gi (nI r) = 17 + 2 * r := by unfold gi; rw [nI_toInt h]; rfl
def s_setImage (R : Nat → List Int32) (N : Nat → Int32) (v : Int32) : Int32 × (Nat → List Int32) × (Nat → Int32) := if gbt v 4 = true then (match gwd (N 1) (R 73) with
  | some t => (nI t.length, gU (gU R 73 []) (gi v) t, N)
  | none => (-5, gU R 73 [], N)) else (-3, gU R 73 [], N)
def s_imageLetter (R : Nat → List Int32) (v p : Int32) : Int32 := if gbt v 4 = true then (if gat (R (gi v)) p = -1 then -6 else gat (R (gi v)) p) else -3
set_option maxHeartbeats 4000000 in
theorem r_refusal {fl : Bool} {d : Nat} {h : GH} (x md : Int32) (w : Bool) : gR fl (d + 2) yX5_refusalOfMatching [.int x, .int md, .int (gb w)] h (.int (grf x md w)) := by
  refine gN.of MX5_refusalOfMatching (Nat.le_of_ble_eq_true rfl) (fun J n hJ => ?_)
  show J 0 [some (.int x), some (.int md), some (.int (gb w))] [] h (n, 0, 0, fl)
  refine j_p (nx := 1) hJ dX5_refusalOfMatching_0 rfl rfl ?_
  refine j_csR (nx := 4) hJ dX5_refusalOfMatching_1 rfl (r_isRegister (fl := fl) (d := d) x) mX5_112 rfl (gle8 rfl) ?_
  refine j_if_ne (nx := 7) (tgt := 10) hJ dX5_refusalOfMatching_4 rfl (by decide) (fun c4 => ?_) (fun c4 => ?_)
  · refine j_p (nx := 11) hJ dX5_refusalOfMatching_10 rfl rfl ?_
    refine j_csR (nx := 14) hJ dX5_refusalOfMatching_11 rfl (r_isMode (fl := fl) (d := d) md) mX5_218 rfl (gle8 rfl) ?_
    refine j_if_ne (nx := 17) (tgt := 19) hJ dX5_refusalOfMatching_14 rfl (by decide) (fun c14 => ?_) (fun c14 => ?_)
    · refine j_p (nx := 20) hJ dX5_refusalOfMatching_19 rfl rfl ?_
      refine j_if_eq (nx := 23) (tgt := 27) hJ dX5_refusalOfMatching_20 rfl (by decide) (fun c20 => ?_) (fun c20 => ?_)
      · refine j_c (nx := 29) hJ dX5_refusalOfMatching_27 rfl gk_bipush_m5 ?_
        rw [gb_t] at c4 c14
        rw [gb_f] at c20
        have e : grf x md w = -5 := by unfold grf; rw [if_pos c4, if_pos c14, if_neg (by rw [c20]; decide)]
        exact j_iret hJ dX5_refusalOfMatching_29 ⟨by rw [e], rfl⟩
      · refine j_c (nx := 24) hJ dX5_refusalOfMatching_23 rfl gk_iconst_0 ?_
        refine j_go (tgt := 29) hJ dX5_refusalOfMatching_24 (by decide) ?_
        rw [gb_t] at c4 c14 c20
        have e : grf x md w = 0 := by unfold grf; rw [if_pos c4, if_pos c14, if_pos c20]
        exact j_iret hJ dX5_refusalOfMatching_29 ⟨by rw [e], rfl⟩
    · refine j_c (nx := 18) hJ dX5_refusalOfMatching_17 rfl gk_iconst_m1 ?_
      rw [gb_t] at c4
      rw [gb_f] at c14
      have e : grf x md w = -1 := by unfold grf; rw [if_pos c4, if_neg (by rw [c14]; decide)]
      exact j_iret hJ dX5_refusalOfMatching_18 ⟨by rw [e], rfl⟩
  · refine j_c (nx := 9) hJ dX5_refusalOfMatching_7 rfl gk_bipush_m2 ?_
    rw [gb_f] at c4
    have e : grf x md w = -2 := if_neg (by rw [c4]; decide)
    exact j_iret hJ dX5_refusalOfMatching_9 ⟨by rw [e], rfl⟩
set_option maxHeartbeats 4000000 in
theorem r_matches {fl : Bool} {d : Nat} {h0 h : GH} {R : Nat → List Int32} {N : Nat → Int32} (hQ : gQ h0 h R N) (hsy : ∀ r, r < 6 → ∀ c ∈ R (5 + 2 * r), gsy c) (x md : Int32) : gN fl (d + 60) yX5_matches [.ref 0, .int x, .int md] h (fun o h' => o = some (.int (s_matches R N x md)) ∧ gC h0 h' (gU R 73 []) N) := by
  have q0 := hQ.1.1
  have q1 := hQ.1.2.1.1
  have q2 := hQ.1.2.1.2.1
  have q3 := hQ.1.2.1.2.2.1
  have q4 := hQ.1.2.1.2.2.2
  have q75 := hQ.1.2.2.2.1
  have q80 := hQ.1.2.2.2.2.2.1.1
  obtain ⟨_, _, _, _, _, _, q76x⟩ := id hQ.1.2.2.2.2.2.2.1
  have q76 := q76x.1
  refine gN.of MX5_matches (Nat.le_of_ble_eq_true rfl) (fun J n hJ => ?_)
  show J 0 [some (.ref 0), some (.int x), some (.int md), none] [] h (n, 0, 0, fl)
  refine j_p (nx := 1) hJ dX5_matches_0 rfl rfl ?_
  refine j_p (nx := 2) hJ dX5_matches_1 rfl rfl ?_
  refine j_p (nx := 3) hJ dX5_matches_2 rfl rfl ?_
  refine j_cv (nx := 6) hJ dX5_matches_3 rfl (r_takeWord (fl := fl) (d := d + 55) hQ) mX5_191 (by repeat (first | assumption | exact gup_same _ _ _ | rw [gup_ne _ _ (by first | decide | assumption | omega)])) kX5_takeWord rfl (gle8 rfl) (fun o h1 hp => ?_)
  obtain ⟨rfl, l, hQ1, hl⟩ := hp
  have q01 := hQ1.1.1
  have q11 := hQ1.1.2.1.1
  have q21 := hQ1.1.2.1.2.1
  have q31 := hQ1.1.2.1.2.2.1
  obtain ⟨_, _, _, _, _, _, q76x1⟩ := id hQ1.1.2.2.2.2.2.2.1
  have q761 := q76x1.1
  refine j_csR (nx := 9) hJ dX5_matches_6 rfl (r_refusal (fl := fl) (d := d + 57) x md (gwd (N 1) (R 73)).isSome) mX5_194 rfl (gle8 rfl) ?_
  refine j_p (nx := 10) hJ dX5_matches_9 rfl rfl ?_
  refine j_p (nx := 11) hJ dX5_matches_10 rfl rfl ?_
  refine j_if_eq (nx := 14) (tgt := 16) hJ dX5_matches_11 rfl (by decide) (fun c11 => ?_) (fun c11 => ?_)
  · obtain ⟨hx, hm, hw⟩ := grf_0 c11
    obtain ⟨t, hg⟩ := gisSome_some hw
    have hlt := hl t hg
    subst hlt
    have hxx := hx
    obtain ⟨r, rfl, hr⟩ := gbt_spec hxx
    have egr := gr_nI (r := r) (by omega)
    have hT1 := hQ1.r8 (r := 83) (by unfold gisR; omega) (by omega) (by omega)
    have hT1r := hT1.2.2.2.1
    rw [gU_n _ _ (by omega), gU_s] at hT1 hT1r
    refine j_p (nx := 17) hJ dX5_matches_16 rfl rfl ?_
    refine j_get (nx := 20) hJ dX5_matches_17 rfl fX5_43 (by repeat (first | assumption | exact gup_same _ _ _ | rw [gup_ne _ _ (by first | decide | assumption | omega)])) (by rfl) ?_
    refine j_p (nx := 21) hJ dX5_matches_20 rfl rfl ?_
    refine j_get (nx := 24) hJ dX5_matches_21 rfl fX5_12 (by repeat (first | assumption | exact gup_same _ _ _ | rw [gup_ne _ _ (by first | decide | assumption | omega)])) (by rfl) ?_
    refine j_get (nx := 27) hJ dX5_matches_24 rfl fX5_119 (by repeat (first | assumption | exact gup_same _ _ _ | rw [gup_ne _ _ (by first | decide | assumption | omega)])) (by rfl) ?_
    refine j_p (nx := 28) hJ dX5_matches_27 rfl rfl ?_
    refine j_aald (j := r) (nx := 29) hJ dX5_matches_28 rfl q21 rfl (by omega) (by decide) (by decide) rfl ?_
    have hP1 := hQ1.r8 (r := 5 + 2 * r) (by unfold gisR; omega) (by omega) (by omega)
    have hP1r := hP1.2.2.2.1
    rw [gU_n _ _ (by omega), gU_n _ _ (by omega)] at hP1 hP1r
    refine j_p (nx := 30) hJ dX5_matches_29 rfl rfl ?_
    refine j_get (nx := 33) hJ dX5_matches_30 rfl fX5_54 (by repeat (first | assumption | exact gup_same _ _ _ | rw [gup_ne _ _ (by first | decide | assumption | omega)])) (by rfl) ?_
    refine j_p (nx := 34) hJ dX5_matches_33 rfl rfl ?_
    refine j_cv (nx := 37) hJ dX5_matches_34 rfl (r_isMatch (fl := fl) (d := d + 38) md hQ1.1.2.2.2.2.2.2.1 hP1 hT1 (by unfold gOm; omega) (by unfold gOm; omega) (by unfold gOm; omega) (by unfold gOm; omega) (hsy r hr) hP1.2.1 (Nat.le_trans hT1.2.1 (by omega))) mX5_198 (by repeat (first | assumption | exact gup_same _ _ _ | rw [gup_ne _ _ (by first | decide | assumption | omega)])) kX1_isMatch rfl (gle8 rfl) (fun o h2 hp => ?_)
    obtain ⟨rfl, hX2, hF2, -⟩ := hp
    have hQ2 := hQ1.mat hX2 hF2
    refine j_if_eq (nx := 40) (tgt := 44) hJ dX5_matches_37 rfl (by decide) (fun c37 => ?_) (fun c37 => ?_)
    · refine j_c (nx := 45) hJ dX5_matches_44 rfl gk_iconst_0 ?_
      rw [gb_f] at c37
      have e : s_matches R N (nI r) md = 0 := by unfold s_matches; rw [if_pos c11, hg, egr]; show gb _ = _; rw [c37]; rfl
      exact j_iret hJ dX5_matches_45 ⟨by rw [e], hQ2.cc (fun a p1 p2 p3 => by simp [gU, p1, p2, p3]) (fun _ _ => rfl)⟩
    · refine j_c (nx := 41) hJ dX5_matches_40 rfl gk_iconst_1 ?_
      refine j_go (tgt := 45) hJ dX5_matches_41 (by decide) ?_
      rw [gb_t] at c37
      have e : s_matches R N (nI r) md = 1 := by unfold s_matches; rw [if_pos c11, hg, egr]; show gb _ = _; rw [c37]; rfl
      exact j_iret hJ dX5_matches_45 ⟨by rw [e], hQ2.cc (fun a p1 p2 p3 => by simp [gU, p1, p2, p3]) (fun _ _ => rfl)⟩
  · refine j_p (nx := 15) hJ dX5_matches_14 rfl rfl ?_
    have e : s_matches R N x md = grf x md (gwd (N 1) (R 73)).isSome := if_neg c11
    exact j_iret hJ dX5_matches_15 ⟨by rw [e], hQ1.cc (fun a p1 p2 p3 => by simp [gU, p1, p2, p3]) (fun _ _ => rfl)⟩
set_option maxHeartbeats 4000000 in
theorem r_matchCount {fl : Bool} {d : Nat} {h0 h : GH} {R : Nat → List Int32} {N : Nat → Int32} (hQ : gQ h0 h R N) (hsy : ∀ r, r < 6 → ∀ c ∈ R (5 + 2 * r), gsy c) (x md : Int32) : gN fl (d + 60) yX5_matchCount [.ref 0, .int x, .int md] h (fun o h' => o = some (.int (s_matchCount R N x md)) ∧ gC h0 h' (gU R 73 []) N) := by
  have q0 := hQ.1.1
  have q1 := hQ.1.2.1.1
  have q2 := hQ.1.2.1.2.1
  have q3 := hQ.1.2.1.2.2.1
  have q4 := hQ.1.2.1.2.2.2
  have q75 := hQ.1.2.2.2.1
  have q80 := hQ.1.2.2.2.2.2.1.1
  obtain ⟨_, _, _, _, _, _, q76x⟩ := id hQ.1.2.2.2.2.2.2.1
  have q76 := q76x.1
  refine gN.of MX5_matchCount (Nat.le_of_ble_eq_true rfl) (fun J n hJ => ?_)
  show J 0 [some (.ref 0), some (.int x), some (.int md), none] [] h (n, 0, 0, fl)
  refine j_p (nx := 1) hJ dX5_matchCount_0 rfl rfl ?_
  refine j_p (nx := 2) hJ dX5_matchCount_1 rfl rfl ?_
  refine j_p (nx := 3) hJ dX5_matchCount_2 rfl rfl ?_
  refine j_cv (nx := 6) hJ dX5_matchCount_3 rfl (r_takeWord (fl := fl) (d := d + 55) hQ) mX5_191 (by repeat (first | assumption | exact gup_same _ _ _ | rw [gup_ne _ _ (by first | decide | assumption | omega)])) kX5_takeWord rfl (gle8 rfl) (fun o h1 hp => ?_)
  obtain ⟨rfl, l, hQ1, hl⟩ := hp
  have q01 := hQ1.1.1
  have q11 := hQ1.1.2.1.1
  have q21 := hQ1.1.2.1.2.1
  have q31 := hQ1.1.2.1.2.2.1
  obtain ⟨_, _, _, _, _, _, q76x1⟩ := id hQ1.1.2.2.2.2.2.2.1
  have q761 := q76x1.1
  refine j_csR (nx := 9) hJ dX5_matchCount_6 rfl (r_refusal (fl := fl) (d := d + 57) x md (gwd (N 1) (R 73)).isSome) mX5_194 rfl (gle8 rfl) ?_
  refine j_p (nx := 10) hJ dX5_matchCount_9 rfl rfl ?_
  refine j_p (nx := 11) hJ dX5_matchCount_10 rfl rfl ?_
  refine j_if_eq (nx := 14) (tgt := 16) hJ dX5_matchCount_11 rfl (by decide) (fun c11 => ?_) (fun c11 => ?_)
  · obtain ⟨hx, hm, hw⟩ := grf_0 c11
    obtain ⟨t, hg⟩ := gisSome_some hw
    have hlt := hl t hg
    subst hlt
    have hxx := hx
    obtain ⟨r, rfl, hr⟩ := gbt_spec hxx
    have egr := gr_nI (r := r) (by omega)
    have hT1 := hQ1.r8 (r := 83) (by unfold gisR; omega) (by omega) (by omega)
    have hT1r := hT1.2.2.2.1
    rw [gU_n _ _ (by omega), gU_s] at hT1 hT1r
    refine j_p (nx := 17) hJ dX5_matchCount_16 rfl rfl ?_
    refine j_get (nx := 20) hJ dX5_matchCount_17 rfl fX5_43 (by repeat (first | assumption | exact gup_same _ _ _ | rw [gup_ne _ _ (by first | decide | assumption | omega)])) (by rfl) ?_
    refine j_p (nx := 21) hJ dX5_matchCount_20 rfl rfl ?_
    refine j_get (nx := 24) hJ dX5_matchCount_21 rfl fX5_12 (by repeat (first | assumption | exact gup_same _ _ _ | rw [gup_ne _ _ (by first | decide | assumption | omega)])) (by rfl) ?_
    refine j_get (nx := 27) hJ dX5_matchCount_24 rfl fX5_119 (by repeat (first | assumption | exact gup_same _ _ _ | rw [gup_ne _ _ (by first | decide | assumption | omega)])) (by rfl) ?_
    refine j_p (nx := 28) hJ dX5_matchCount_27 rfl rfl ?_
    refine j_aald (j := r) (nx := 29) hJ dX5_matchCount_28 rfl q21 rfl (by omega) (by decide) (by decide) rfl ?_
    have hP1 := hQ1.r8 (r := 5 + 2 * r) (by unfold gisR; omega) (by omega) (by omega)
    have hP1r := hP1.2.2.2.1
    rw [gU_n _ _ (by omega), gU_n _ _ (by omega)] at hP1 hP1r
    refine j_p (nx := 30) hJ dX5_matchCount_29 rfl rfl ?_
    refine j_get (nx := 33) hJ dX5_matchCount_30 rfl fX5_54 (by repeat (first | assumption | exact gup_same _ _ _ | rw [gup_ne _ _ (by first | decide | assumption | omega)])) (by rfl) ?_
    refine j_p (nx := 34) hJ dX5_matchCount_33 rfl rfl ?_
    refine j_cv (nx := 37) hJ dX5_matchCount_34 rfl (r_countAll (fl := fl) (d := d + 39) md hQ1.1.2.2.2.2.2.2.1 hP1 hT1 (by unfold gOm; omega) (by unfold gOm; omega) (by unfold gOm; omega) (by unfold gOm; omega) (hsy r hr) hP1.2.1 (Nat.le_trans hT1.2.1 (by omega))) mX5_202 (by repeat (first | assumption | exact gup_same _ _ _ | rw [gup_ne _ _ (by first | decide | assumption | omega)])) kX1_countAll rfl (gle8 rfl) (fun o h2 hp => ?_)
    obtain ⟨rfl, hX2, hF2⟩ := hp
    have hQ2 := hQ1.mat hX2 hF2
    have e : s_matchCount R N (nI r) md = nI (gCA (R (5 + 2 * r)) l md) := by unfold s_matchCount; rw [if_pos c11, hg, egr]
    exact j_iret hJ dX5_matchCount_37 ⟨by rw [e], hQ2.cc (fun a p1 p2 p3 => by simp [gU, p1, p2, p3]) (fun _ _ => rfl)⟩
  · refine j_p (nx := 15) hJ dX5_matchCount_14 rfl rfl ?_
    have e : s_matchCount R N x md = grf x md (gwd (N 1) (R 73)).isSome := if_neg c11
    exact j_iret hJ dX5_matchCount_15 ⟨by rw [e], hQ1.cc (fun a p1 p2 p3 => by simp [gU, p1, p2, p3]) (fun _ _ => rfl)⟩
set_option maxHeartbeats 4000000 in
theorem r_setImage {fl : Bool} {d : Nat} {h0 h : GH} {R : Nat → List Int32} {N : Nat → Int32} (hQ : gQ h0 h R N) (x : Int32) : gN fl (d + 60) yX5_setImage [.ref 0, .int x] h (fun o h' => o = some (.int (s_setImage R N x).1) ∧ gC h0 h' (s_setImage R N x).2.1 (s_setImage R N x).2.2) := by
  have q0 := hQ.1.1
  have q1 := hQ.1.2.1.1
  have q2 := hQ.1.2.1.2.1
  have q3 := hQ.1.2.1.2.2.1
  have q4 := hQ.1.2.1.2.2.2
  have q75 := hQ.1.2.2.2.1
  have q80 := hQ.1.2.2.2.2.2.1.1
  obtain ⟨_, _, _, _, _, _, q76x⟩ := id hQ.1.2.2.2.2.2.2.1
  have q76 := q76x.1
  refine gN.of MX5_setImage (Nat.le_of_ble_eq_true rfl) (fun J n hJ => ?_)
  show J 0 [some (.ref 0), some (.int x), none] [] h (n, 0, 0, fl)
  by_cases hx : gbt x 4 = true
  · obtain ⟨r, rfl, hr⟩ := gbt_spec hx
    have egi := gi_nI (r := r) (by omega)
    refine j_p (nx := 1) hJ dX5_setImage_0 rfl rfl ?_
    refine j_cv (nx := 4) hJ dX5_setImage_1 rfl (r_takeWord (fl := fl) (d := d + 55) hQ) mX5_191 (by repeat (first | assumption | exact gup_same _ _ _ | rw [gup_ne _ _ (by first | decide | assumption | omega)])) kX5_takeWord rfl (gle8 rfl) (fun o h1 hp => ?_)
    obtain ⟨rfl, l, hQ1, hl⟩ := hp
    have q01 := hQ1.1.1
    have q11 := hQ1.1.2.1.1
    have q31 := hQ1.1.2.1.2.2.1
    refine j_p (nx := 5) hJ dX5_setImage_4 rfl rfl ?_
    refine j_p (nx := 6) hJ dX5_setImage_5 rfl rfl ?_
    refine j_csR (nx := 9) hJ dX5_setImage_6 rfl (r_isVariable (fl := fl) (d := d + 58) _) mX5_147 rfl (gle8 rfl) ?_
    rw [show gbt _ 4 = true from hx]
    refine j_if_ne (nx := 12) (tgt := 15) hJ dX5_setImage_9 rfl (by decide) (fun c9 => ?_) (fun c9 => absurd c9 (by decide))
    refine j_p (nx := 16) hJ dX5_setImage_15 rfl rfl ?_
    refine j_if_ne (nx := 19) (tgt := 22) hJ dX5_setImage_16 rfl (by decide) (fun c16 => ?_) (fun c16 => ?_)
    rotate_left
    · have hg := gsome_f c16
      have e : s_setImage R N (nI r) = (-5, gU R 73 [], N) := by unfold s_setImage; rw [if_pos hx, hg]
      refine j_c (nx := 21) hJ dX5_setImage_19 rfl gk_bipush_m5 ?_
      exact j_iret hJ dX5_setImage_21 ⟨by rw [e], by rw [e]; exact hQ1.cc (fun a p1 p2 p3 => by simp [gU, p1, p2, p3]) (fun _ _ => rfl)⟩
    obtain ⟨y, hg⟩ := gsome_t c16
    have hly := hl y hg
    subst hly
    have hT1 := hQ1.r8 (r := 83) (by unfold gisR; omega) (by omega) (by omega)
    have hT1r := hT1.2.2.2.1
    rw [gU_n _ _ (by omega), gU_s] at hT1 hT1r
    refine j_p (nx := 23) hJ dX5_setImage_22 rfl rfl ?_
    refine j_get (nx := 26) hJ dX5_setImage_23 rfl fX5_12 (by repeat (first | assumption | exact gup_same _ _ _ | rw [gup_ne _ _ (by first | decide | assumption | omega)])) (by rfl) ?_
    refine j_get (nx := 29) hJ dX5_setImage_26 rfl fX5_211 (by repeat (first | assumption | exact gup_same _ _ _ | rw [gup_ne _ _ (by first | decide | assumption | omega)])) (by rfl) ?_
    refine j_p (nx := 30) hJ dX5_setImage_29 rfl rfl ?_
    refine j_aald (j := r) (nx := 31) hJ dX5_setImage_30 rfl q31 rfl (by omega) (by decide) (by decide) rfl ?_
    have hI1 := hQ1.r8 (r := 17 + 2 * r) (by unfold gisR; omega) (by omega) (by omega)
    have hI1r := hI1.2.2.2.1
    refine j_p (nx := 32) hJ dX5_setImage_31 rfl rfl ?_
    refine j_get (nx := 35) hJ dX5_setImage_32 rfl fX5_54 (by repeat (first | assumption | exact gup_same _ _ _ | rw [gup_ne _ _ (by first | decide | assumption | omega)])) (by rfl) ?_
    refine j_cv (nx := 38) hJ dX5_setImage_35 rfl (r_setTo (fl := fl) (d := d + 57) hI1 hT1 ⟨by omega, by omega, by omega, by omega⟩ hT1.2.1) mX5_143 (by repeat (first | assumption | exact gup_same _ _ _ | rw [gup_ne _ _ (by first | decide | assumption | omega)])) kX2_setTo rfl (gle8 rfl) (fun o h2 hp => ?_)
    obtain ⟨rfl, hR2, hF2⟩ := hp
    have hQ2 := hQ1.row8 (r := 17 + 2 * r) (by unfold gisR; omega) (by omega) (by omega) hR2 hF2
    have q02 := hQ2.1.1
    have hT2 := hQ2.r8 (r := 83) (by unfold gisR; omega) (by omega) (by omega)
    have hT2r := hT2.2.2.2.1
    rw [gU_n _ _ (by omega), gU_n _ _ (by omega), gU_s] at hT2r
    refine j_p (nx := 39) hJ dX5_setImage_38 rfl rfl ?_
    refine j_get (nx := 42) hJ dX5_setImage_39 rfl fX5_54 (by repeat (first | assumption | exact gup_same _ _ _ | rw [gup_ne _ _ (by first | decide | assumption | omega)])) (by rfl) ?_
    refine j_get (nx := 45) hJ dX5_setImage_42 rfl fX5_68 (by repeat (first | assumption | exact gup_same _ _ _ | rw [gup_ne _ _ (by first | decide | assumption | omega)])) (by rfl) ?_
    have e : s_setImage R N (nI r) = (nI l.length, gU (gU R 73 []) (17 + 2 * r) l, N) := by unfold s_setImage; rw [if_pos hx, hg, egi]
    exact j_iret hJ dX5_setImage_45 ⟨by rw [e], by rw [e]; exact hQ2.cc (fun a p1 p2 p3 => by simp [gU, p1, p2, p3]) (fun _ _ => rfl)⟩
  · refine j_p (nx := 1) hJ dX5_setImage_0 rfl rfl ?_
    refine j_cv (nx := 4) hJ dX5_setImage_1 rfl (r_takeWord (fl := fl) (d := d + 55) hQ) mX5_191 (by repeat (first | assumption | exact gup_same _ _ _ | rw [gup_ne _ _ (by first | decide | assumption | omega)])) kX5_takeWord rfl (gle8 rfl) (fun o h1 hp => ?_)
    obtain ⟨rfl, l, hQ1, hl⟩ := hp
    have q01 := hQ1.1.1
    have q11 := hQ1.1.2.1.1
    have q31 := hQ1.1.2.1.2.2.1
    refine j_p (nx := 5) hJ dX5_setImage_4 rfl rfl ?_
    refine j_p (nx := 6) hJ dX5_setImage_5 rfl rfl ?_
    refine j_csR (nx := 9) hJ dX5_setImage_6 rfl (r_isVariable (fl := fl) (d := d + 58) _) mX5_147 rfl (gle8 rfl) ?_
    rw [show gbt _ 4 = false from Bool.eq_false_iff.mpr hx]
    refine j_if_ne (nx := 12) (tgt := 15) hJ dX5_setImage_9 rfl (by decide) (fun c9 => absurd c9 (by decide)) (fun c9 => ?_)
    refine j_c (nx := 14) hJ dX5_setImage_12 rfl gk_bipush_m3 ?_
    have e : s_setImage R N x = (-3, gU R 73 [], N) := if_neg hx
    exact j_iret hJ dX5_setImage_14 ⟨by rw [e], by rw [e]; exact hQ1.cc (fun a p1 p2 p3 => by simp [gU, p1, p2, p3]) (fun _ _ => rfl)⟩
set_option maxHeartbeats 4000000 in
theorem r_imageLetter {fl : Bool} {d : Nat} {h0 h : GH} {R : Nat → List Int32} {N : Nat → Int32} (hQ : gQ h0 h R N) (x p : Int32) : gN fl (d + 60) yX5_imageLetter [.ref 0, .int x, .int p] h (fun o h' => o = some (.int (s_imageLetter R x p)) ∧ gC h0 h' R N) := by
  have q0 := hQ.1.1
  have q1 := hQ.1.2.1.1
  have q2 := hQ.1.2.1.2.1
  have q3 := hQ.1.2.1.2.2.1
  have q4 := hQ.1.2.1.2.2.2
  have q75 := hQ.1.2.2.2.1
  have q80 := hQ.1.2.2.2.2.2.1.1
  obtain ⟨_, _, _, _, _, _, q76x⟩ := id hQ.1.2.2.2.2.2.2.1
  have q76 := q76x.1
  refine gN.of MX5_imageLetter (Nat.le_of_ble_eq_true rfl) (fun J n hJ => ?_)
  show J 0 [some (.ref 0), some (.int x), some (.int p), none] [] h (n, 0, 0, fl)
  by_cases hx : gbt x 4 = true
  · obtain ⟨r, rfl, hr⟩ := gbt_spec hx
    have egi := gi_nI (r := r) (by omega)
    refine j_p (nx := 1) hJ dX5_imageLetter_0 rfl rfl ?_
    refine j_csR (nx := 4) hJ dX5_imageLetter_1 rfl (r_isVariable (fl := fl) (d := d + 58) _) mX5_147 rfl (gle8 rfl) ?_
    rw [show gbt _ 4 = true from hx]
    refine j_if_ne (nx := 7) (tgt := 10) hJ dX5_imageLetter_4 rfl (by decide) (fun c4 => ?_) (fun c4 => absurd c4 (by decide))
    refine j_p (nx := 11) hJ dX5_imageLetter_10 rfl rfl ?_
    refine j_get (nx := 14) hJ dX5_imageLetter_11 rfl fX5_12 (by repeat (first | assumption | exact gup_same _ _ _ | rw [gup_ne _ _ (by first | decide | assumption | omega)])) (by rfl) ?_
    refine j_get (nx := 17) hJ dX5_imageLetter_14 rfl fX5_211 (by repeat (first | assumption | exact gup_same _ _ _ | rw [gup_ne _ _ (by first | decide | assumption | omega)])) (by rfl) ?_
    refine j_p (nx := 18) hJ dX5_imageLetter_17 rfl rfl ?_
    refine j_aald (j := r) (nx := 19) hJ dX5_imageLetter_18 rfl q3 rfl (by omega) (by decide) (by decide) rfl ?_
    have hI := hQ.r8 (r := 17 + 2 * r) (by unfold gisR; omega) (by omega) (by omega)
    have hIr := hI.2.2.2.1
    refine j_p (nx := 20) hJ dX5_imageLetter_19 rfl rfl ?_
    refine j_cvR (nx := 23) hJ dX5_imageLetter_20 rfl (r_at (fl := fl) (d := d + 58) hI p) mX5_92 (by repeat (first | assumption | exact gup_same _ _ _ | rw [gup_ne _ _ (by first | decide | assumption | omega)])) kX2_at rfl (gle8 rfl) ?_
    refine j_p (nx := 24) hJ dX5_imageLetter_23 rfl rfl ?_
    refine j_p (nx := 25) hJ dX5_imageLetter_24 rfl rfl ?_
    refine j_c (nx := 26) hJ dX5_imageLetter_25 rfl gk_iconst_m1 ?_
    refine j_ic_ne (nx := 29) (tgt := 34) hJ dX5_imageLetter_26 rfl (by decide) (fun c26 => ?_) (fun c26 => ?_)
    · refine j_p (nx := 35) hJ dX5_imageLetter_34 rfl rfl ?_
      have e : s_imageLetter R (nI r) p = gat (R (17 + 2 * r)) p := by unfold s_imageLetter; rw [if_pos hx, egi, if_neg c26]
      exact j_iret hJ dX5_imageLetter_35 ⟨by rw [e], hQ.c⟩
    · refine j_c (nx := 31) hJ dX5_imageLetter_29 rfl gk_bipush_m6 ?_
      refine j_go (tgt := 35) hJ dX5_imageLetter_31 (by decide) ?_
      have e : s_imageLetter R (nI r) p = -6 := by unfold s_imageLetter; rw [if_pos hx, egi, if_pos c26]
      exact j_iret hJ dX5_imageLetter_35 ⟨by rw [e], hQ.c⟩
  · refine j_p (nx := 1) hJ dX5_imageLetter_0 rfl rfl ?_
    refine j_csR (nx := 4) hJ dX5_imageLetter_1 rfl (r_isVariable (fl := fl) (d := d + 58) _) mX5_147 rfl (gle8 rfl) ?_
    rw [show gbt _ 4 = false from Bool.eq_false_iff.mpr hx]
    refine j_if_ne (nx := 7) (tgt := 10) hJ dX5_imageLetter_4 rfl (by decide) (fun c4 => absurd c4 (by decide)) (fun c4 => ?_)
    refine j_c (nx := 9) hJ dX5_imageLetter_7 rfl gk_bipush_m3 ?_
    have e : s_imageLetter R x p = -3 := if_neg hx
    exact j_iret hJ dX5_imageLetter_9 ⟨by rw [e], hQ.c⟩
