theorem gQ.uu {h0 h : GH} {R : Nat → List Int32} {N : Nat → Int32} {r : Nat} {a b : List Int32} (hQ : gQ h0 h (gU (gU R r a) r b) N) : gQ h0 h (gU R r b) N := hQ.rw (fun x => by simp only [gU]; split <;> rfl) (fun _ => rfl)
def gpw (R : Nat → List Int32) (p : List Int32) : List Int32 := p.flatMap (fun c => match gvo c with | some v => R (17 + 2 * v) | none => [c])
theorem gpw_k {R : Nat → List Int32} {p : List Int32} {i : Nat} (h : i < p.length) : gpw R (p.take (i + 1)) = gpw R (p.take i) ++ (match gvo (p.getD i (-1)) with | some v => R (17 + 2 * v) | none => [p.getD i (-1)]) := by
  unfold gpw
  rw [gtake_s h, List.flatMap_append]
  simp
theorem gpw_le (R : Nat → List Int32) (p : List Int32) (i : Nat) : (gpw R (p.take i)).length ≤ (gpw R p).length := by
  have : gpw R p = gpw R (p.take i) ++ gpw R (p.drop i) := by
    unfold gpw
    rw [← List.flatMap_append, List.take_append_drop]
  rw [this, List.length_append]; omega
def gpd (R : Nat → List Int32) (p : List Int32) : Option (List Int32) := if (gpw R p).length ≤ 8 then some (gpw R p) else none
def gss (N : Nat → Int32) : Nat := (N 2).toInt.toNat
theorem gss_nI {N : Nat → Int32} {s : Nat} (h : N 2 = nI s) (hs : s ≤ 6) : gss N = s := by unfold gss; rw [h, nI_toInt (by omega)]; rfl
def s_add (R : Nat → List Int32) (N : Nat → Int32) (l : List Int32) : Int32 × (Nat → List Int32) × (Nat → Int32) := if gss N < 6 then (nI (gss N + 1), gU R (25 + 2 * gss N) l, gU N 2 (nI (gss N + 1))) else (-4, R, N)
def s_addWord (R : Nat → List Int32) (N : Nat → Int32) : Int32 × (Nat → List Int32) × (Nat → Int32) := match gwd (N 1) (R 73) with
  | some t => s_add (gU R 73 []) N t
  | none => (-5, gU R 73 [], N)
def s_addProduced (R : Nat → List Int32) (N : Nat → Int32) (x : Int32) : Int32 × (Nat → List Int32) × (Nat → Int32) := if gbt x 6 = true then (match gpd R (R (gr x)) with
  | some w => s_add R N w
  | none => (-4, R, N)) else (-2, R, N)
def gUr (R : Nat → List Int32) (i s : Nat) : Nat → List Int32 := fun a => if 25 + 2 * i ≤ a ∧ a + 2 < 25 + 2 * s then R (a + 2) else R a
def s_removeWord (R : Nat → List Int32) (N : Nat → Int32) (x : Int32) : Int32 × (Nat → List Int32) × (Nat → Int32) := if gbt x (gss N) = true then (nI (gss N - 1), gUr R x.toInt.toNat (gss N), gU N 2 (nI (gss N - 1))) else (-6, R, N)
def s_sampleCode (R : Nat → List Int32) (N : Nat → Int32) (x : Int32) : Int64 := if gbt x (gss N) = true then (gwc (R (25 + 2 * x.toInt.toNat))).1 else -9223372036854775808
def gfd (n : Nat) (f : Nat → Bool) (b : Nat) : Int32 := match (List.range n).find? f with
  | some i => nI (b + i)
  | none => -6
theorem gfd_n {n b : Nat} {f : Nat → Bool} (h : ∀ i, i < n → f i = false) : gfd n f b = -6 := by
  unfold gfd
  rw [List.find?_eq_none.mpr (fun i hi => by rw [h i (List.mem_range.mp hi)]; decide)]
theorem gfd_s {n b k : Nat} {f : Nat → Bool} (h : ∀ i, i < k → f i = false) (hk : k < n) (hx : f k = true) : gfd n f b = nI (b + k) := by
  unfold gfd
  have e : n = (k + 1) + (n - (k + 1)) := by omega
  have h1 : (List.range k).find? f = none := List.find?_eq_none.mpr (fun i hi => by rw [h i (List.mem_range.mp hi)]; decide)
  rw [e, List.range_add, List.find?_append, List.range_succ, List.find?_append, h1]
  simp [hx]
def s_firstMisfit (R : Nat → List Int32) (N : Nat → Int32) (x md : Int32) : Int32 := if gbt x 6 = true then (if gmd md = true then gfd (gss N) (fun i => !gMB (R (gr x)) (R (25 + 2 * i)) md 0 0) 0 else -1) else -2
def s_isMoreGeneral (R : Nat → List Int32) (x y md : Int32) : Int32 := if gbt x 6 = true ∧ gbt y 6 = true then (if gmd md = true then gb (gMB (R (gr x)) (R (gr y)) md 0 0) else -1) else -2
def s_chainBreak (R : Nat → List Int32) (x y md : Int32) : Int32 := if gbt x 6 = true ∧ gbt y 6 = true then (if x ≤ y ∧ gmd md = true then gfd (y.toInt.toNat - x.toInt.toNat) (fun i => !gMB (R (gr x + 2 * i)) (R (gr x + 2 * i + 2)) md 0 0 || gMB (R (gr x + 2 * i + 2)) (R (gr x + 2 * i)) md 0 0) x.toInt.toNat else -1) else -2
set_option maxHeartbeats 4000000 in
theorem r_produce {fl : Bool} {d : Nat} {h0 h : GH} {R : Nat → List Int32} {N : Nat → Int32} (hQ : gQ h0 h R N) (hsy : ∀ r, r < 6 → ∀ c ∈ R (5 + 2 * r), gsy c) {r : Nat} (hr : r < 6) : gN fl (d + 4) yX5_produce [.ref 0, .ref (5 + 2 * r)] h (fun o h' => o = some (.int (gb (gpd R (R (5 + 2 * r))).isSome)) ∧ ∃ l, gQ h0 h' (gU R 83 l) N ∧ ∀ x, gpd R (R (5 + 2 * r)) = some x → l = x) := by
  have q0 := hQ.1.1
  have q1 := hQ.1.2.1.1
  have q2 := hQ.1.2.1.2.1
  have q3 := hQ.1.2.1.2.2.1
  have q4 := hQ.1.2.1.2.2.2
  have q75 := hQ.1.2.2.2.1
  have q80 := hQ.1.2.2.2.2.2.1.1
  obtain ⟨_, _, _, _, _, _, q76x⟩ := id hQ.1.2.2.2.2.2.2.1
  have q76 := q76x.1
  have hD := hQ.r8 (r := 83) (by unfold gisR; omega) (by omega) (by omega)
  have hDr := hD.2.2.2.1
  have hP := hQ.r8 (r := 5 + 2 * r) (by unfold gisR; omega) (by omega) (by omega)
  have hPr := hP.2.2.2.1
  have hP8 := hP.2.1
  refine gN.of MX5_produce (Nat.le_of_ble_eq_true rfl) (fun J n hJ => ?_)
  show J 0 [some (.ref 0), some (.ref (5 + 2 * r)), none, none, none, none] [] h (n, 0, 0, fl)
  have dead : (gpd R (R (5 + 2 * r)) = none) → ∀ (i : Nat) (h1 : GH) (w4 w5 : Option Value) (l1 : List Int32), gQ h0 h1 (gU R 83 l1) N → J 11 [some (.ref 0), some (.ref (5 + 2 * r)), some (.int 0), some (.int (nI i)), w4, w5] [] h1 (n, 0, 0, fl) := by
    intro e i h1 w4 w5 l1 hQ1
    have hP1 := hQ1.r8 (r := 5 + 2 * r) (by unfold gisR; omega) (by omega) (by omega)
    have hP1r := hP1.2.2.2.1
    rw [gU_n _ _ (by omega)] at hP1 hP1r
    refine j_p (nx := 12) hJ dX5_produce_11 rfl rfl ?_
    refine j_p (nx := 13) hJ dX5_produce_12 rfl rfl ?_
    refine j_get (nx := 16) hJ dX5_produce_13 rfl fX5_68 (by repeat (first | assumption | exact gup_same _ _ _ | rw [gup_ne _ _ (by first | decide | assumption | omega)])) (by rfl) ?_
    refine j_ic_ge (nx := 19) (tgt := 81) hJ dX5_produce_16 rfl (by decide) (fun c16 => ?_) (fun c16 => ?_)
    · refine j_p (nx := 82) hJ dX5_produce_81 rfl rfl ?_
      exact j_zret hJ false dX5_produce_82 rfl ⟨by rw [e]; rfl, _, hQ1, fun x hx => by rw [e] at hx; cases hx⟩
    · refine j_p (nx := 20) hJ dX5_produce_19 rfl rfl ?_
      refine j_if_eq (nx := 23) (tgt := 81) hJ dX5_produce_20 rfl (by decide) (fun c20 => ?_) (fun c20 => absurd c20 (by decide))
      refine j_p (nx := 82) hJ dX5_produce_81 rfl rfl ?_
      exact j_zret hJ false dX5_produce_82 rfl ⟨by rw [e]; rfl, _, hQ1, fun x hx => by rw [e] at hx; cases hx⟩
  have loop : ∀ i, i ≤ (R (5 + 2 * r)).length → ∀ (h1 : GH) (w4 w5 : Option Value), gQ h0 h1 (gU R 83 (gpw R ((R (5 + 2 * r)).take i))) N → (gpw R ((R (5 + 2 * r)).take i)).length ≤ 8 → J 11 [some (.ref 0), some (.ref (5 + 2 * r)), some (.int 1), some (.int (nI i)), w4, w5] [] h1 (n, 0, 0, fl) := by
    refine gloop _ _ (fun i hi ih h1 w4 w5 hQ1 h8 => ?_)
    have q01 := hQ1.1.1
    have q11 := hQ1.1.2.1.1
    have q31 := hQ1.1.2.1.2.2.1
    have hP1 := hQ1.r8 (r := 5 + 2 * r) (by unfold gisR; omega) (by omega) (by omega)
    have hP1r := hP1.2.2.2.1
    rw [gU_n _ _ (by omega)] at hP1 hP1r
    have hD1 := hQ1.r8 (r := 83) (by unfold gisR; omega) (by omega) (by omega)
    have hD1r := hD1.2.2.2.1
    refine j_p (nx := 12) hJ dX5_produce_11 rfl rfl ?_
    refine j_p (nx := 13) hJ dX5_produce_12 rfl rfl ?_
    refine j_get (nx := 16) hJ dX5_produce_13 rfl fX5_68 (by repeat (first | assumption | exact gup_same _ _ _ | rw [gup_ne _ _ (by first | decide | assumption | omega)])) (by rfl) ?_
    refine j_ic_ge (nx := 19) (tgt := 81) hJ dX5_produce_16 rfl (by decide) (fun c16 => ?_) (fun c16 => ?_)
    · refine j_p (nx := 82) hJ dX5_produce_81 rfl rfl ?_
      rw [gnle (by omega) (by omega)] at c16
      have e0 : i = (R (5 + 2 * r)).length := by omega
      subst e0
      rw [List.take_length] at hQ1 h8
      have e : gpd R (R (5 + 2 * r)) = some (gpw R (R (5 + 2 * r))) := if_pos h8
      exact j_zret hJ true dX5_produce_82 rfl ⟨by rw [e]; rfl, _, hQ1, fun x hx => by rw [e] at hx; exact Option.some.inj hx⟩
    · refine j_p (nx := 20) hJ dX5_produce_19 rfl rfl ?_
      refine j_if_eq (nx := 23) (tgt := 81) hJ dX5_produce_20 rfl (by decide) (fun c20 => absurd c20 (by decide)) (fun c20 => ?_)
      rw [gnle (by omega) (by omega)] at c16
      have hkl : i < (R (5 + 2 * r)).length := by omega
      have hcs := hsy r hr _ (ggetD_mem hkl)
      have hk1 := gpw_k (R := R) hkl
      have hk2 := gpw_le R (R (5 + 2 * r)) (i + 1)
      refine j_p (nx := 24) hJ dX5_produce_23 rfl rfl ?_
      refine j_p (nx := 25) hJ dX5_produce_24 rfl rfl ?_
      refine j_cvR (nx := 28) hJ dX5_produce_25 rfl (r_at (fl := fl) (d := d + 2) hP1 (nI i)) mX5_92 (by repeat (first | assumption | exact gup_same _ _ _ | rw [gup_ne _ _ (by first | decide | assumption | omega)])) kX2_at rfl (gle8 rfl) ?_
      rw [gat_nI (by omega)]
      refine j_p (nx := 30) hJ dX5_produce_28 rfl rfl ?_
      refine j_p (nx := 32) hJ dX5_produce_30 rfl rfl ?_
      refine j_c (nx := 34) hJ dX5_produce_32 rfl gk_bipush_10 ?_
      refine j_p (nx := 35) hJ dX5_produce_34 rfl rfl ?_
      refine j_p (nx := 37) hJ dX5_produce_35 rfl rfl ?_
      cases hvo : gvo ((R (5 + 2 * r)).getD i (-1)) with
      | none =>
        rw [hvo] at hk1
        refine j_p (nx := 39) hJ dX5_produce_37 rfl rfl ?_
        refine j_csR (nx := 42) hJ dX5_produce_39 rfl (r_isVariable (fl := fl) (d := d + 2) ((R (5 + 2 * r)).getD i (-1) - 10)) mX5_147 rfl (gle8 rfl) ?_
        rw [gvo_var hcs, hvo]
        refine j_if_eq (nx := 45) (tgt := 65) hJ dX5_produce_42 rfl (by decide) (fun c42 => ?_) (fun c42 => absurd c42 (fun q => q rfl))
        refine j_p (nx := 66) hJ dX5_produce_65 rfl rfl ?_
        refine j_get (nx := 69) hJ dX5_produce_66 rfl fX5_54 (by repeat (first | assumption | exact gup_same _ _ _ | rw [gup_ne _ _ (by first | decide | assumption | omega)])) (by rfl) ?_
        refine j_p (nx := 71) hJ dX5_produce_69 rfl rfl ?_
        refine j_cv (nx := 74) hJ dX5_produce_71 rfl (r_add (fl := fl) (d := d + 2) hD1 ((R (5 + 2 * r)).getD i (-1))) mX5_71 (by repeat (first | assumption | exact gup_same _ _ _ | rw [gup_ne _ _ (by first | decide | assumption | omega)])) kX2_add rfl (gle8 rfl) (fun o h2 hp => ?_)
        obtain ⟨rfl, hR2, hF2⟩ := hp
        rw [gU_s] at hR2 ⊢
        by_cases hfit : (gpw R ((R (5 + 2 * r)).take i)).length < 8
        · rw [decide_eq_true hfit]
          refine j_p (nx := 75) hJ dX5_produce_74 rfl rfl ?_
          refine j_inc (nx := 78) hJ dX5_produce_75 rfl rfl (gi1 i) rfl ?_
          refine j_go (tgt := 11) hJ dX5_produce_78 (by decide) ?_
          rw [if_pos hfit] at hR2
          refine ih hkl h2 _ _ ((hQ1.row8 (r := 83) (by unfold gisR; omega) (by omega) (by omega) hR2 hF2).rw (fun a => ?_) (fun _ => rfl)) (by rw [hk1, List.length_append]; show _ + 1 ≤ 8; omega)
          rw [hk1]
          simp only [gU]
          split <;> rfl
        · rw [decide_eq_false hfit]
          refine j_p (nx := 75) hJ dX5_produce_74 rfl rfl ?_
          refine j_inc (nx := 78) hJ dX5_produce_75 rfl rfl (gi1 i) rfl ?_
          refine j_go (tgt := 11) hJ dX5_produce_78 (by decide) ?_
          refine dead (if_neg (by rw [hk1, List.length_append] at hk2; have : (gpw R ((R (5 + 2 * r)).take i)).length + 1 ≤ (gpw R (R (5 + 2 * r))).length := hk2; omega)) (i + 1) h2 _ _ _ (hQ1.row8 (r := 83) (by unfold gisR; omega) (by omega) (by omega) hR2 hF2).uu
      | some v =>
        rw [hvo] at hk1
        obtain ⟨hv4, hcv, -⟩ := gvo_some hvo
        refine j_p (nx := 39) hJ dX5_produce_37 rfl rfl ?_
        refine j_csR (nx := 42) hJ dX5_produce_39 rfl (r_isVariable (fl := fl) (d := d + 2) ((R (5 + 2 * r)).getD i (-1) - 10)) mX5_147 rfl (gle8 rfl) ?_
        rw [gvo_var hcs, hvo]
        refine j_if_eq (nx := 45) (tgt := 65) hJ dX5_produce_42 rfl (by decide) (fun c42 => absurd c42 (by show ¬ (1 : Int32) = 0; decide)) (fun c42 => ?_)
        refine j_p (nx := 46) hJ dX5_produce_45 rfl rfl ?_
        refine j_get (nx := 49) hJ dX5_produce_46 rfl fX5_54 (by repeat (first | assumption | exact gup_same _ _ _ | rw [gup_ne _ _ (by first | decide | assumption | omega)])) (by rfl) ?_
        refine j_p (nx := 50) hJ dX5_produce_49 rfl rfl ?_
        refine j_get (nx := 53) hJ dX5_produce_50 rfl fX5_12 (by repeat (first | assumption | exact gup_same _ _ _ | rw [gup_ne _ _ (by first | decide | assumption | omega)])) (by rfl) ?_
        refine j_get (nx := 56) hJ dX5_produce_53 rfl fX5_211 (by repeat (first | assumption | exact gup_same _ _ _ | rw [gup_ne _ _ (by first | decide | assumption | omega)])) (by rfl) ?_
        rw [hcv]
        refine j_p (nx := 58) hJ dX5_produce_56 rfl rfl ?_
        refine j_aald (j := v) (nx := 59) hJ dX5_produce_58 rfl q31 rfl hv4 (by decide) (by decide) rfl ?_
        have hI1 := hQ1.r8 (r := 17 + 2 * v) (by unfold gisR; omega) (by omega) (by omega)
        have hI1r := hI1.2.2.2.1
        rw [gU_n _ _ (by omega)] at hI1
        refine j_cv (nx := 62) hJ dX5_produce_59 rfl (r_addAll (fl := fl) (d := d + 1) hD1 hI1 ⟨by omega, by omega, by omega, by omega⟩) mX5_227 (by repeat (first | assumption | exact gup_same _ _ _ | rw [gup_ne _ _ (by first | decide | assumption | omega)])) kX2_addAll rfl (gle8 rfl) (fun o h2 hp => ?_)
        obtain ⟨rfl, hR2, ⟨l2, hR3⟩, hF2⟩ := hp
        rw [gU_s] at hR2 ⊢
        refine j_go (tgt := 74) hJ dX5_produce_62 (by decide) ?_
        by_cases hfit : (gpw R ((R (5 + 2 * r)).take i)).length + (R (17 + 2 * v)).length ≤ 8
        · rw [decide_eq_true hfit]
          refine j_p (nx := 75) hJ dX5_produce_74 rfl rfl ?_
          refine j_inc (nx := 78) hJ dX5_produce_75 rfl rfl (gi1 i) rfl ?_
          refine j_go (tgt := 11) hJ dX5_produce_78 (by decide) ?_
          refine ih hkl h2 _ _ ((hQ1.row8 (r := 83) (by unfold gisR; omega) (by omega) (by omega) (hR2 hfit) hF2).rw (fun a => ?_) (fun _ => rfl)) (by rw [hk1, List.length_append]; exact hfit)
          rw [hk1]
          simp only [gU]
          split <;> rfl
        · rw [decide_eq_false hfit]
          refine j_p (nx := 75) hJ dX5_produce_74 rfl rfl ?_
          refine j_inc (nx := 78) hJ dX5_produce_75 rfl rfl (gi1 i) rfl ?_
          refine j_go (tgt := 11) hJ dX5_produce_78 (by decide) ?_
          refine dead (if_neg (by rw [hk1, List.length_append] at hk2; have : (gpw R ((R (5 + 2 * r)).take i)).length + (R (17 + 2 * v)).length ≤ (gpw R (R (5 + 2 * r))).length := hk2; omega)) (i + 1) h2 _ _ _ (hQ1.row8 (r := 83) (by unfold gisR; omega) (by omega) (by omega) hR3 hF2).uu
  refine j_p (nx := 1) hJ dX5_produce_0 rfl rfl ?_
  refine j_get (nx := 4) hJ dX5_produce_1 rfl fX5_54 (by repeat (first | assumption | exact gup_same _ _ _ | rw [gup_ne _ _ (by first | decide | assumption | omega)])) (by rfl) ?_
  refine j_cv (nx := 7) hJ dX5_produce_4 rfl (r_clear (fl := fl) (d := d + 2) hD) mX5_75 (by repeat (first | assumption | exact gup_same _ _ _ | rw [gup_ne _ _ (by first | decide | assumption | omega)])) kX2_clear rfl (gle8 rfl) (fun o h1 hp => ?_)
  obtain ⟨rfl, hR1, hF1⟩ := hp
  have hQ1 := hQ.row8 (r := 83) (by unfold gisR; omega) (by omega) (by omega) hR1 hF1
  refine j_c (nx := 8) hJ dX5_produce_7 rfl gk_iconst_1 ?_
  refine j_p (nx := 9) hJ dX5_produce_8 rfl rfl ?_
  refine j_c (nx := 10) hJ dX5_produce_9 rfl gk_iconst_0 ?_
  refine j_p (nx := 11) hJ dX5_produce_10 rfl rfl ?_
  exact loop 0 (Nat.zero_le _) h1 _ _ hQ1 (by show 0 ≤ 8; omega)
set_option maxHeartbeats 4000000 in
theorem r_addToSample {fl : Bool} {d : Nat} {h0 h : GH} {R : Nat → List Int32} {N : Nat → Int32} (hQ : gQ h0 h R N) {ss : Nat} (hs : N 2 = nI ss) (hss : ss ≤ 6) : gN fl (d + 3) yX5_addToSample [.ref 0] h (fun o h' => o = some (.int (s_add R N (R 83)).1) ∧ gQ h0 h' (s_add R N (R 83)).2.1 (s_add R N (R 83)).2.2) := by
  have q0 := hQ.1.1
  have q1 := hQ.1.2.1.1
  have q2 := hQ.1.2.1.2.1
  have q3 := hQ.1.2.1.2.2.1
  have q4 := hQ.1.2.1.2.2.2
  have q75 := hQ.1.2.2.2.1
  have q80 := hQ.1.2.2.2.2.2.1.1
  obtain ⟨_, _, _, _, _, _, q76x⟩ := id hQ.1.2.2.2.2.2.2.1
  have q76 := q76x.1
  rw [hs] at q1
  have hD := hQ.r8 (r := 83) (by unfold gisR; omega) (by omega) (by omega)
  have hDr := hD.2.2.2.1
  have egs := gss_nI hs hss
  refine gN.of MX5_addToSample (Nat.le_of_ble_eq_true rfl) (fun J n hJ => ?_)
  show J 0 [some (.ref 0)] [] h (n, 0, 0, fl)
  refine j_p (nx := 1) hJ dX5_addToSample_0 rfl rfl ?_
  refine j_get (nx := 4) hJ dX5_addToSample_1 rfl fX5_12 (by repeat (first | assumption | exact gup_same _ _ _ | rw [gup_ne _ _ (by first | decide | assumption | omega)])) (by rfl) ?_
  refine j_get (nx := 7) hJ dX5_addToSample_4 rfl fX5_230 (by repeat (first | assumption | exact gup_same _ _ _ | rw [gup_ne _ _ (by first | decide | assumption | omega)])) (by rfl) ?_
  refine j_if_lt (nx := 10) (tgt := 22) hJ dX5_addToSample_7 rfl (by decide) (fun c7 => absurd c7 (by rw [gcz0, nI_toInt (by omega)]; omega)) (fun c7 => ?_)
  refine j_p (nx := 11) hJ dX5_addToSample_10 rfl rfl ?_
  refine j_get (nx := 14) hJ dX5_addToSample_11 rfl fX5_12 (by repeat (first | assumption | exact gup_same _ _ _ | rw [gup_ne _ _ (by first | decide | assumption | omega)])) (by rfl) ?_
  refine j_get (nx := 17) hJ dX5_addToSample_14 rfl fX5_230 (by repeat (first | assumption | exact gup_same _ _ _ | rw [gup_ne _ _ (by first | decide | assumption | omega)])) (by rfl) ?_
  refine j_c (nx := 19) hJ dX5_addToSample_17 rfl gk_bipush_6 ?_
  refine j_ic_lt (nx := 22) (tgt := 25) hJ dX5_addToSample_19 rfl (by decide) (fun c19 => ?_) (fun c19 => ?_)
  · rw [show (6 : Int32) = nI 6 from rfl, gnlt (by omega) (by omega)] at c19
    have e : s_add R N (R 83) = (nI (ss + 1), gU R (25 + 2 * ss) (R 83), gU N 2 (nI (ss + 1))) := by unfold s_add; rw [egs]; exact if_pos c19
    refine j_p (nx := 26) hJ dX5_addToSample_25 rfl rfl ?_
    refine j_get (nx := 29) hJ dX5_addToSample_26 rfl fX5_12 (by repeat (first | assumption | exact gup_same _ _ _ | rw [gup_ne _ _ (by first | decide | assumption | omega)])) (by rfl) ?_
    refine j_get (nx := 32) hJ dX5_addToSample_29 rfl fX5_233 (by repeat (first | assumption | exact gup_same _ _ _ | rw [gup_ne _ _ (by first | decide | assumption | omega)])) (by rfl) ?_
    refine j_p (nx := 33) hJ dX5_addToSample_32 rfl rfl ?_
    refine j_get (nx := 36) hJ dX5_addToSample_33 rfl fX5_12 (by repeat (first | assumption | exact gup_same _ _ _ | rw [gup_ne _ _ (by first | decide | assumption | omega)])) (by rfl) ?_
    refine j_get (nx := 39) hJ dX5_addToSample_36 rfl fX5_230 (by repeat (first | assumption | exact gup_same _ _ _ | rw [gup_ne _ _ (by first | decide | assumption | omega)])) (by rfl) ?_
    refine j_aald (j := ss) (nx := 40) hJ dX5_addToSample_39 rfl q4 rfl c19 (by decide) (by decide) rfl ?_
    have hS := hQ.r8 (r := 25 + 2 * ss) (by unfold gisR; omega) (by omega) (by omega)
    have hSr := hS.2.2.2.1
    refine j_p (nx := 41) hJ dX5_addToSample_40 rfl rfl ?_
    refine j_get (nx := 44) hJ dX5_addToSample_41 rfl fX5_54 (by repeat (first | assumption | exact gup_same _ _ _ | rw [gup_ne _ _ (by first | decide | assumption | omega)])) (by rfl) ?_
    refine j_cv (nx := 47) hJ dX5_addToSample_44 rfl (r_setTo (fl := fl) (d := d) hS hD ⟨by omega, by omega, by omega, by omega⟩ hD.2.1) mX5_143 (by repeat (first | assumption | exact gup_same _ _ _ | rw [gup_ne _ _ (by first | decide | assumption | omega)])) kX2_setTo rfl (gle8 rfl) (fun o h2 hp => ?_)
    obtain ⟨rfl, hR2, hF2⟩ := hp
    have hQ2 := hQ.row8 (r := 25 + 2 * ss) (by unfold gisR; omega) (by omega) (by omega) hR2 hF2
    have q02 := hQ2.1.1
    have q12 := hQ2.1.2.1.1
    rw [hs] at q12
    refine j_p (nx := 48) hJ dX5_addToSample_47 rfl rfl ?_
    refine j_get (nx := 51) hJ dX5_addToSample_48 rfl fX5_12 (by repeat (first | assumption | exact gup_same _ _ _ | rw [gup_ne _ _ (by first | decide | assumption | omega)])) (by rfl) ?_
    refine j_p (nx := 52) hJ dX5_addToSample_51 rfl rfl ?_
    refine j_get (nx := 55) hJ dX5_addToSample_52 rfl fX5_230 (by repeat (first | assumption | exact gup_same _ _ _ | rw [gup_ne _ _ (by first | decide | assumption | omega)])) (by rfl) ?_
    refine j_c (nx := 56) hJ dX5_addToSample_55 rfl gk_iconst_1 ?_
    refine j_p (nx := 57) hJ dX5_addToSample_56 rfl rfl ?_
    rw [show nI ss + 1 = nI (ss + 1) from (nI_succ ss).symm]
    refine j_put (nx := 60) hJ dX5_addToSample_57 rfl fX5_230 (zX0_4 _) q12 (Nat.le_of_ble_eq_true rfl) ?_
    have hQ3 := hQ2.ss (nI (ss + 1))
    have q03 := hQ3.1.1
    have q13 := hQ3.1.2.1.1
    refine j_p (nx := 61) hJ dX5_addToSample_60 rfl rfl ?_
    refine j_get (nx := 64) hJ dX5_addToSample_61 rfl fX5_12 (by repeat (first | assumption | exact gup_same _ _ _ | rw [gup_ne _ _ (by first | decide | assumption | omega)])) (by rfl) ?_
    refine j_get (nx := 67) hJ dX5_addToSample_64 rfl fX5_230 (by repeat (first | assumption | exact gup_same _ _ _ | rw [gup_ne _ _ (by first | decide | assumption | omega)])) (by rfl) ?_
    exact j_iret hJ dX5_addToSample_67 ⟨by rw [e]; rfl, by rw [e]; exact hQ3⟩
  · refine j_c (nx := 24) hJ dX5_addToSample_22 rfl gk_bipush_m4 ?_
    rw [show (6 : Int32) = nI 6 from rfl, gnlt (by omega) (by omega)] at c19
    have e : s_add R N (R 83) = (-4, R, N) := by unfold s_add; rw [egs]; exact if_neg c19
    exact j_iret hJ dX5_addToSample_24 ⟨by rw [e], by rw [e]; exact hQ⟩
theorem s_add_c {R R' : Nat → List Int32} {N : Nat → Int32} {l : List Int32} (h : ∀ a, a ≠ 81 → a ≠ 83 → a ≠ 85 → R a = R' a) : (s_add R N l).1 = (s_add R' N l).1 ∧ (s_add R N l).2.2 = (s_add R' N l).2.2 ∧ ∀ a, a ≠ 81 → a ≠ 83 → a ≠ 85 → (s_add R N l).2.1 a = (s_add R' N l).2.1 a := by
  unfold s_add
  split
  · refine ⟨rfl, rfl, fun a p1 p2 p3 => ?_⟩
    show gU R _ l a = gU R' _ l a
    unfold gU
    split
    · rfl
    · exact h a p1 p2 p3
  · exact ⟨rfl, rfl, h⟩
set_option maxHeartbeats 4000000 in
theorem r_addWord {fl : Bool} {d : Nat} {h0 h : GH} {R : Nat → List Int32} {N : Nat → Int32} (hQ : gQ h0 h R N) {ss : Nat} (hs : N 2 = nI ss) (hss : ss ≤ 6) : gN fl (d + 60) yX5_addWord [.ref 0] h (fun o h' => o = some (.int (s_addWord R N).1) ∧ gC h0 h' (s_addWord R N).2.1 (s_addWord R N).2.2) := by
  have q0 := hQ.1.1
  have q1 := hQ.1.2.1.1
  have q2 := hQ.1.2.1.2.1
  have q3 := hQ.1.2.1.2.2.1
  have q4 := hQ.1.2.1.2.2.2
  have q75 := hQ.1.2.2.2.1
  have q80 := hQ.1.2.2.2.2.2.1.1
  obtain ⟨_, _, _, _, _, _, q76x⟩ := id hQ.1.2.2.2.2.2.2.1
  have q76 := q76x.1
  refine gN.of MX5_addWord (Nat.le_of_ble_eq_true rfl) (fun J n hJ => ?_)
  show J 0 [some (.ref 0)] [] h (n, 0, 0, fl)
  refine j_p (nx := 1) hJ dX5_addWord_0 rfl rfl ?_
  refine j_cv (nx := 4) hJ dX5_addWord_1 rfl (r_takeWord (fl := fl) (d := d + 55) hQ) mX5_191 (by repeat (first | assumption | exact gup_same _ _ _ | rw [gup_ne _ _ (by first | decide | assumption | omega)])) kX5_takeWord rfl (gle8 rfl) (fun o h1 hp => ?_)
  obtain ⟨rfl, l, hQ1, hl⟩ := hp
  have q01 := hQ1.1.1
  refine j_if_eq (nx := 7) (tgt := 14) hJ dX5_addWord_4 rfl (by decide) (fun c4 => ?_) (fun c4 => ?_)
  · refine j_c (nx := 16) hJ dX5_addWord_14 rfl gk_bipush_m5 ?_
    have hg := gsome_f c4
    have e : s_addWord R N = (-5, gU R 73 [], N) := by unfold s_addWord; rw [hg]
    exact j_iret hJ dX5_addWord_16 ⟨by rw [e], by rw [e]; exact hQ1.cc (fun a p1 p2 p3 => by simp [gU, p1, p2, p3]) (fun _ _ => rfl)⟩
  · refine j_p (nx := 8) hJ dX5_addWord_7 rfl rfl ?_
    obtain ⟨t, hg⟩ := gsome_t c4
    have hlt := hl t hg
    subst hlt
    refine j_cv (nx := 11) hJ dX5_addWord_8 rfl (r_addToSample (fl := fl) (d := d + 56) hQ1 hs hss) mX5_224 (by repeat (first | assumption | exact gup_same _ _ _ | rw [gup_ne _ _ (by first | decide | assumption | omega)])) kX5_addToSample rfl (gle8 rfl) (fun o h2 hp => ?_)
    obtain ⟨rfl, hQ2⟩ := hp
    have e83 : gU (gU R 83 l) 73 [] 83 = l := by simp [gU]
    rw [e83] at hQ2 ⊢
    have e : s_addWord R N = s_add (gU R 73 []) N l := by unfold s_addWord; rw [hg]
    have ec := s_add_c (R := gU (gU R 83 l) 73 []) (R' := gU R 73 []) (N := N) (l := l) (fun a p1 p2 p3 => by simp [gU, p1, p2, p3])
    refine j_go (tgt := 16) hJ dX5_addWord_11 (by decide) ?_
    exact j_iret hJ dX5_addWord_16 ⟨by rw [e, ec.1], by rw [e]; exact hQ2.cc ec.2.2 (fun i _ => by rw [ec.2.1])⟩
set_option maxHeartbeats 4000000 in
theorem r_addProduced {fl : Bool} {d : Nat} {h0 h : GH} {R : Nat → List Int32} {N : Nat → Int32} (hQ : gQ h0 h R N) (hsy : ∀ r, r < 6 → ∀ c ∈ R (5 + 2 * r), gsy c) {ss : Nat} (hs : N 2 = nI ss) (hss : ss ≤ 6) (x : Int32) : gN fl (d + 60) yX5_addProduced [.ref 0, .int x] h (fun o h' => o = some (.int (s_addProduced R N x).1) ∧ gC h0 h' (s_addProduced R N x).2.1 (s_addProduced R N x).2.2) := by
  have q0 := hQ.1.1
  have q1 := hQ.1.2.1.1
  have q2 := hQ.1.2.1.2.1
  have q3 := hQ.1.2.1.2.2.1
  have q4 := hQ.1.2.1.2.2.2
  have q75 := hQ.1.2.2.2.1
  have q80 := hQ.1.2.2.2.2.2.1.1
  obtain ⟨_, _, _, _, _, _, q76x⟩ := id hQ.1.2.2.2.2.2.2.1
  have q76 := q76x.1
  refine gN.of MX5_addProduced (Nat.le_of_ble_eq_true rfl) (fun J n hJ => ?_)
  show J 0 [some (.ref 0), some (.int x)] [] h (n, 0, 0, fl)
  by_cases hx : gbt x 6 = true
  · obtain ⟨r, rfl, hr⟩ := gbt_spec hx
    have egr := gr_nI (r := r) (by omega)
    refine j_p (nx := 1) hJ dX5_addProduced_0 rfl rfl ?_
    refine j_csR (nx := 4) hJ dX5_addProduced_1 rfl (r_isRegister (fl := fl) (d := d + 58) _) mX5_112 rfl (gle8 rfl) ?_
    rw [show gbt _ 6 = true from hx]
    refine j_if_ne (nx := 7) (tgt := 10) hJ dX5_addProduced_4 rfl (by decide) (fun c4 => ?_) (fun c4 => absurd c4 (by decide))
    refine j_p (nx := 11) hJ dX5_addProduced_10 rfl rfl ?_
    refine j_p (nx := 12) hJ dX5_addProduced_11 rfl rfl ?_
    refine j_get (nx := 15) hJ dX5_addProduced_12 rfl fX5_12 (by repeat (first | assumption | exact gup_same _ _ _ | rw [gup_ne _ _ (by first | decide | assumption | omega)])) (by rfl) ?_
    refine j_get (nx := 18) hJ dX5_addProduced_15 rfl fX5_119 (by repeat (first | assumption | exact gup_same _ _ _ | rw [gup_ne _ _ (by first | decide | assumption | omega)])) (by rfl) ?_
    refine j_p (nx := 19) hJ dX5_addProduced_18 rfl rfl ?_
    refine j_aald (j := r) (nx := 20) hJ dX5_addProduced_19 rfl q2 rfl (by omega) (by decide) (by decide) rfl ?_
    have hR := hQ.r8 (r := 5 + 2 * r) (by unfold gisR; omega) (by omega) (by omega)
    have hRr := hR.2.2.2.1
    refine j_cv (nx := 23) hJ dX5_addProduced_20 rfl (r_produce (fl := fl) (d := d + 55) hQ hsy hr) mX5_221 (by repeat (first | assumption | exact gup_same _ _ _ | rw [gup_ne _ _ (by first | decide | assumption | omega)])) kX5_produce rfl (gle8 rfl) (fun o h1 hp => ?_)
    obtain ⟨rfl, l, hQ1, hl⟩ := hp
    have q01 := hQ1.1.1
    refine j_if_eq (nx := 26) (tgt := 33) hJ dX5_addProduced_23 rfl (by decide) (fun c23 => ?_) (fun c23 => ?_)
    · refine j_c (nx := 35) hJ dX5_addProduced_33 rfl gk_bipush_m4 ?_
      have hg := gsome_f c23
      have e : s_addProduced R N (nI r) = (-4, R, N) := by unfold s_addProduced; rw [if_pos hx, egr, hg]
      exact j_iret hJ dX5_addProduced_35 ⟨by rw [e], by rw [e]; exact hQ1.cc (fun a p1 p2 p3 => by simp [gU, p1, p2, p3]) (fun _ _ => rfl)⟩
    · refine j_p (nx := 27) hJ dX5_addProduced_26 rfl rfl ?_
      obtain ⟨t, hg⟩ := gsome_t c23
      have hlt := hl t hg
      subst hlt
      refine j_cv (nx := 30) hJ dX5_addProduced_27 rfl (r_addToSample (fl := fl) (d := d + 56) hQ1 hs hss) mX5_224 (by repeat (first | assumption | exact gup_same _ _ _ | rw [gup_ne _ _ (by first | decide | assumption | omega)])) kX5_addToSample rfl (gle8 rfl) (fun o h2 hp => ?_)
      obtain ⟨rfl, hQ2⟩ := hp
      rw [gU_s] at hQ2 ⊢
      have e : s_addProduced R N (nI r) = s_add R N l := by unfold s_addProduced; rw [if_pos hx, egr, hg]
      have ec := s_add_c (R := gU R 83 l) (R' := R) (N := N) (l := l) (fun a p1 p2 p3 => by simp [gU, p1, p2, p3])
      refine j_go (tgt := 35) hJ dX5_addProduced_30 (by decide) ?_
      exact j_iret hJ dX5_addProduced_35 ⟨by rw [e, ec.1], by rw [e]; exact hQ2.cc ec.2.2 (fun i _ => by rw [ec.2.1])⟩
  · refine j_p (nx := 1) hJ dX5_addProduced_0 rfl rfl ?_
    refine j_csR (nx := 4) hJ dX5_addProduced_1 rfl (r_isRegister (fl := fl) (d := d + 58) _) mX5_112 rfl (gle8 rfl) ?_
    rw [show gbt _ 6 = false from Bool.eq_false_iff.mpr hx]
    refine j_if_ne (nx := 7) (tgt := 10) hJ dX5_addProduced_4 rfl (by decide) (fun c4 => absurd c4 (by decide)) (fun c4 => ?_)
    refine j_c (nx := 9) hJ dX5_addProduced_7 rfl gk_bipush_m2 ?_
    have e : s_addProduced R N x = (-2, R, N) := if_neg hx
    exact j_iret hJ dX5_addProduced_9 ⟨by rw [e], by rw [e]; exact hQ.c⟩
set_option maxHeartbeats 4000000 in
theorem r_isSampleIndex {fl : Bool} {d : Nat} {h0 h : GH} {R : Nat → List Int32} {N : Nat → Int32} (hQ : gQ h0 h R N) {ss : Nat} (hs : N 2 = nI ss) (hss : ss ≤ 6) (x : Int32) : gR fl (d + 1) yX5_isSampleIndex [.ref 0, .int x] h (.int (gb (gbt x ss))) := by
  have q0 := hQ.1.1
  have q1 := hQ.1.2.1.1
  have q2 := hQ.1.2.1.2.1
  have q3 := hQ.1.2.1.2.2.1
  have q4 := hQ.1.2.1.2.2.2
  have q75 := hQ.1.2.2.2.1
  have q80 := hQ.1.2.2.2.2.2.1.1
  obtain ⟨_, _, _, _, _, _, q76x⟩ := id hQ.1.2.2.2.2.2.2.1
  have q76 := q76x.1
  rw [hs] at q1
  refine gN.of MX5_isSampleIndex (Nat.le_of_ble_eq_true rfl) (fun J n hJ => ?_)
  show J 0 [some (.ref 0), some (.int x)] [] h (n, 0, 0, fl)
  refine j_p (nx := 1) hJ dX5_isSampleIndex_0 rfl rfl ?_
  refine j_if_lt (nx := 4) (tgt := 25) hJ dX5_isSampleIndex_1 rfl (by decide) (fun c1 => ?_) (fun c1 => ?_)
  · refine j_c (nx := 26) hJ dX5_isSampleIndex_25 rfl gk_iconst_0 ?_
    rw [gcz0] at c1
    first | rw [Int32.le_iff_toInt_le, nI_toInt (by omega)] at c12 | skip
    first | rw [Int32.le_iff_toInt_le, show (6 : Int32).toInt = 6 by decide] at c18 | skip
    exact j_zret hJ (gbt x ss) dX5_isSampleIndex_26 (by rw [show gbt x ss = false from decide_eq_false (fun q => by omega)]; rfl) ⟨rfl, rfl⟩
  · refine j_p (nx := 5) hJ dX5_isSampleIndex_4 rfl rfl ?_
    refine j_p (nx := 6) hJ dX5_isSampleIndex_5 rfl rfl ?_
    refine j_get (nx := 9) hJ dX5_isSampleIndex_6 rfl fX5_12 (by repeat (first | assumption | exact gup_same _ _ _ | rw [gup_ne _ _ (by first | decide | assumption | omega)])) (by rfl) ?_
    refine j_get (nx := 12) hJ dX5_isSampleIndex_9 rfl fX5_230 (by repeat (first | assumption | exact gup_same _ _ _ | rw [gup_ne _ _ (by first | decide | assumption | omega)])) (by rfl) ?_
    refine j_ic_ge (nx := 15) (tgt := 25) hJ dX5_isSampleIndex_12 rfl (by decide) (fun c12 => ?_) (fun c12 => ?_)
    · refine j_c (nx := 26) hJ dX5_isSampleIndex_25 rfl gk_iconst_0 ?_
      rw [gcz0] at c1
      first | rw [Int32.le_iff_toInt_le, nI_toInt (by omega)] at c12 | skip
      first | rw [Int32.le_iff_toInt_le, show (6 : Int32).toInt = 6 by decide] at c18 | skip
      exact j_zret hJ (gbt x ss) dX5_isSampleIndex_26 (by rw [show gbt x ss = false from decide_eq_false (fun q => by omega)]; rfl) ⟨rfl, rfl⟩
    · refine j_p (nx := 16) hJ dX5_isSampleIndex_15 rfl rfl ?_
      refine j_c (nx := 18) hJ dX5_isSampleIndex_16 rfl gk_bipush_6 ?_
      refine j_ic_ge (nx := 21) (tgt := 25) hJ dX5_isSampleIndex_18 rfl (by decide) (fun c18 => ?_) (fun c18 => ?_)
      · refine j_c (nx := 26) hJ dX5_isSampleIndex_25 rfl gk_iconst_0 ?_
        rw [gcz0] at c1
        first | rw [Int32.le_iff_toInt_le, nI_toInt (by omega)] at c12 | skip
        first | rw [Int32.le_iff_toInt_le, show (6 : Int32).toInt = 6 by decide] at c18 | skip
        exact j_zret hJ (gbt x ss) dX5_isSampleIndex_26 (by rw [show gbt x ss = false from decide_eq_false (fun q => by omega)]; rfl) ⟨rfl, rfl⟩
      · refine j_c (nx := 22) hJ dX5_isSampleIndex_21 rfl gk_iconst_1 ?_
        refine j_go (tgt := 26) hJ dX5_isSampleIndex_22 (by decide) ?_
        rw [gcz0] at c1
        first | rw [Int32.le_iff_toInt_le, nI_toInt (by omega)] at c12 | skip
        first | rw [Int32.le_iff_toInt_le, show (6 : Int32).toInt = 6 by decide] at c18 | skip
        exact j_zret hJ (gbt x ss) dX5_isSampleIndex_26 (by rw [show gbt x ss = true from decide_eq_true ⟨by omega, by omega⟩]; rfl) ⟨rfl, rfl⟩
theorem gQ.rw2 {h0 h : GH} {R R' : Nat → List Int32} {N : Nat → Int32} (hQ : gQ h0 h R N) (e1 : ∀ a, gisR a → R a = R' a) : gQ h0 h R' N :=
  ⟨⟨hQ.1.1, hQ.1.2.1, hQ.1.2.2.1, hQ.1.2.2.2.1, hQ.1.2.2.2.2.1, hQ.1.2.2.2.2.2.1, hQ.1.2.2.2.2.2.2.1, fun r hr => by rw [← e1 r hr]; exact hQ.1.2.2.2.2.2.2.2 r hr⟩, hQ.2⟩
set_option maxHeartbeats 4000000 in
theorem r_removeWord {fl : Bool} {d : Nat} {h0 h : GH} {R : Nat → List Int32} {N : Nat → Int32} (hQ : gQ h0 h R N) {ss : Nat} (hs : N 2 = nI ss) (hss : ss ≤ 6) (x : Int32) : gN fl (d + 60) yX5_removeWord [.ref 0, .int x] h (fun o h' => o = some (.int (s_removeWord R N x).1) ∧ gC h0 h' (s_removeWord R N x).2.1 (s_removeWord R N x).2.2) := by
  have q0 := hQ.1.1
  have q1 := hQ.1.2.1.1
  have q2 := hQ.1.2.1.2.1
  have q3 := hQ.1.2.1.2.2.1
  have q4 := hQ.1.2.1.2.2.2
  have q75 := hQ.1.2.2.2.1
  have q80 := hQ.1.2.2.2.2.2.1.1
  obtain ⟨_, _, _, _, _, _, q76x⟩ := id hQ.1.2.2.2.2.2.2.1
  have q76 := q76x.1
  have egs := gss_nI hs hss
  refine gN.of MX5_removeWord (Nat.le_of_ble_eq_true rfl) (fun J n hJ => ?_)
  show J 0 [some (.ref 0), some (.int x), none] [] h (n, 0, 0, fl)
  by_cases hx : gbt x ss = true
  · obtain ⟨r, rfl, hr⟩ := gbt_spec hx
    refine j_p (nx := 1) hJ dX5_removeWord_0 rfl rfl ?_
    refine j_p (nx := 2) hJ dX5_removeWord_1 rfl rfl ?_
    refine j_cvR (nx := 5) hJ dX5_removeWord_2 rfl (r_isSampleIndex (fl := fl) (d := d + 58) hQ hs hss _) mX5_236 (by repeat (first | assumption | exact gup_same _ _ _ | rw [gup_ne _ _ (by first | decide | assumption | omega)])) kX5_isSampleIndex rfl (gle8 rfl) ?_
    rw [show gbt _ ss = true from hx]
    refine j_if_ne (nx := 8) (tgt := 11) hJ dX5_removeWord_5 rfl (by decide) (fun c5 => ?_) (fun c5 => absurd c5 (by decide))
    refine j_p (nx := 12) hJ dX5_removeWord_11 rfl rfl ?_
    refine j_p (nx := 13) hJ dX5_removeWord_12 rfl rfl ?_
    have e : s_removeWord R N (nI r) = (nI (ss - 1), gUr R r ss, gU N 2 (nI (ss - 1))) := by unfold s_removeWord; rw [egs, if_pos hx, nI_toInt (by omega)]; rfl
    have loop : ∀ i, i ≤ ss - 1 - r → ∀ h1 : GH, gQ h0 h1 (gUr R r (r + i + 1)) N → J 13 [some (.ref 0), some (.int (nI r)), some (.int (nI (r + i)))] [] h1 (n, 0, 0, fl) := by
      refine gloop _ _ (fun i hi ih h1 hQ1 => ?_)
      have q01 := hQ1.1.1
      have q11 := hQ1.1.2.1.1
      have q41 := hQ1.1.2.1.2.2.2
      rw [hs] at q11
      refine j_p (nx := 14) hJ dX5_removeWord_13 rfl rfl ?_
      refine j_c (nx := 15) hJ dX5_removeWord_14 rfl gk_iconst_1 ?_
      refine j_p (nx := 16) hJ dX5_removeWord_15 rfl rfl ?_
      rw [show nI (r + i) + 1 = nI (r + i + 1) from (nI_succ _).symm]
      refine j_p (nx := 17) hJ dX5_removeWord_16 rfl rfl ?_
      refine j_get (nx := 20) hJ dX5_removeWord_17 rfl fX5_12 (by repeat (first | assumption | exact gup_same _ _ _ | rw [gup_ne _ _ (by first | decide | assumption | omega)])) (by rfl) ?_
      refine j_get (nx := 23) hJ dX5_removeWord_20 rfl fX5_230 (by repeat (first | assumption | exact gup_same _ _ _ | rw [gup_ne _ _ (by first | decide | assumption | omega)])) (by rfl) ?_
      refine j_ic_ge (nx := 26) (tgt := 63) hJ dX5_removeWord_23 rfl (by decide) (fun c23 => ?_) (fun c23 => ?_)
      · rw [gnle (by omega) (by omega)] at c23
        have e0 : r + i + 1 = ss := by omega
        refine j_p (nx := 64) hJ dX5_removeWord_63 rfl rfl ?_
        refine j_get (nx := 67) hJ dX5_removeWord_64 rfl fX5_12 (by repeat (first | assumption | exact gup_same _ _ _ | rw [gup_ne _ _ (by first | decide | assumption | omega)])) (by rfl) ?_
        refine j_p (nx := 68) hJ dX5_removeWord_67 rfl rfl ?_
        refine j_get (nx := 71) hJ dX5_removeWord_68 rfl fX5_230 (by repeat (first | assumption | exact gup_same _ _ _ | rw [gup_ne _ _ (by first | decide | assumption | omega)])) (by rfl) ?_
        refine j_c (nx := 72) hJ dX5_removeWord_71 rfl gk_iconst_1 ?_
        refine j_p (nx := 73) hJ dX5_removeWord_72 rfl rfl ?_
        rw [show nI ss - 1 = nI (ss - 1) from gsub (b := 1) (by omega)]
        refine j_put (nx := 76) hJ dX5_removeWord_73 rfl fX5_230 (zX0_4 _) q11 (Nat.le_of_ble_eq_true rfl) ?_
        have hQ3 := hQ1.ss (nI (ss - 1))
        have q03 := hQ3.1.1
        have q13 := hQ3.1.2.1.1
        refine j_p (nx := 77) hJ dX5_removeWord_76 rfl rfl ?_
        refine j_get (nx := 80) hJ dX5_removeWord_77 rfl fX5_12 (by repeat (first | assumption | exact gup_same _ _ _ | rw [gup_ne _ _ (by first | decide | assumption | omega)])) (by rfl) ?_
        refine j_get (nx := 83) hJ dX5_removeWord_80 rfl fX5_230 (by repeat (first | assumption | exact gup_same _ _ _ | rw [gup_ne _ _ (by first | decide | assumption | omega)])) (by rfl) ?_
        rw [e0] at hQ3
        exact j_iret hJ dX5_removeWord_83 ⟨by rw [e]; rfl, by rw [e]; exact hQ3.c⟩
      · rw [gnle (by omega) (by omega)] at c23
        have hil : r + i + 1 < ss := by omega
        refine j_p (nx := 27) hJ dX5_removeWord_26 rfl rfl ?_
        refine j_c (nx := 28) hJ dX5_removeWord_27 rfl gk_iconst_1 ?_
        refine j_p (nx := 29) hJ dX5_removeWord_28 rfl rfl ?_
        rw [show nI (r + i) + 1 = nI (r + i + 1) from (nI_succ _).symm]
        refine j_c (nx := 31) hJ dX5_removeWord_29 rfl gk_bipush_6 ?_
        refine j_ic_ge (nx := 34) (tgt := 63) hJ dX5_removeWord_31 rfl (by decide) (fun c31 => absurd c31 (by rw [show (6 : Int32) = nI 6 from rfl, gnle (by omega) (by omega)]; omega)) (fun c31 => ?_)
        refine j_p (nx := 35) hJ dX5_removeWord_34 rfl rfl ?_
        refine j_get (nx := 38) hJ dX5_removeWord_35 rfl fX5_12 (by repeat (first | assumption | exact gup_same _ _ _ | rw [gup_ne _ _ (by first | decide | assumption | omega)])) (by rfl) ?_
        refine j_get (nx := 41) hJ dX5_removeWord_38 rfl fX5_233 (by repeat (first | assumption | exact gup_same _ _ _ | rw [gup_ne _ _ (by first | decide | assumption | omega)])) (by rfl) ?_
        refine j_p (nx := 42) hJ dX5_removeWord_41 rfl rfl ?_
        refine j_aald (j := r + i) (nx := 43) hJ dX5_removeWord_42 rfl q41 rfl (by omega) (by decide) (by decide) rfl ?_
        have hA1 := hQ1.r8 (r := 25 + 2 * (r + i)) (by unfold gisR; omega) (by omega) (by omega)
        have hA1r := hA1.2.2.2.1
        refine j_p (nx := 44) hJ dX5_removeWord_43 rfl rfl ?_
        refine j_get (nx := 47) hJ dX5_removeWord_44 rfl fX5_12 (by repeat (first | assumption | exact gup_same _ _ _ | rw [gup_ne _ _ (by first | decide | assumption | omega)])) (by rfl) ?_
        refine j_get (nx := 50) hJ dX5_removeWord_47 rfl fX5_233 (by repeat (first | assumption | exact gup_same _ _ _ | rw [gup_ne _ _ (by first | decide | assumption | omega)])) (by rfl) ?_
        refine j_p (nx := 51) hJ dX5_removeWord_50 rfl rfl ?_
        refine j_c (nx := 52) hJ dX5_removeWord_51 rfl gk_iconst_1 ?_
        refine j_p (nx := 53) hJ dX5_removeWord_52 rfl rfl ?_
        rw [show nI (r + i) + 1 = nI (r + i + 1) from (nI_succ _).symm]
        refine j_aald (j := r + i + 1) (nx := 54) hJ dX5_removeWord_53 rfl q41 rfl (by omega) (by decide) (by decide) rfl ?_
        have hB1 := hQ1.r8 (r := 25 + 2 * (r + i + 1)) (by unfold gisR; omega) (by omega) (by omega)
        have hB1r := hB1.2.2.2.1
        have eB : gUr R r (r + i + 1) (25 + 2 * (r + i + 1)) = R (25 + 2 * (r + i) + 2) := if_neg (by omega)
        rw [eB] at hB1
        refine j_cv (nx := 57) hJ dX5_removeWord_54 rfl (r_setTo (fl := fl) (d := d + 57) hA1 hB1 ⟨by omega, by omega, by omega, by omega⟩ hB1.2.1) mX5_143 (by repeat (first | assumption | exact gup_same _ _ _ | rw [gup_ne _ _ (by first | decide | assumption | omega)])) kX2_setTo rfl (gle8 rfl) (fun o h2 hp => ?_)
        obtain ⟨rfl, hR2, hF2⟩ := hp
        have hQ2 := hQ1.row8 (r := 25 + 2 * (r + i)) (by unfold gisR; omega) (by omega) (by omega) hR2 hF2
        refine j_inc (nx := 60) hJ dX5_removeWord_57 rfl rfl (gi1 _) rfl ?_
        refine j_go (tgt := 13) hJ dX5_removeWord_60 (by decide) ?_
        refine ih (by omega) h2 (hQ2.rw2 (fun a ha => ?_))
        by_cases e1 : a = 25 + 2 * (r + i)
        · subst e1
          rw [gU_s]
          unfold gUr
          rw [if_pos ⟨by omega, by omega⟩]
        · rw [gU_n _ _ e1]
          unfold gUr
          by_cases e2 : 25 + 2 * r ≤ a ∧ a + 2 < 25 + 2 * (r + i + 1)
          · rw [if_pos e2, if_pos ⟨e2.1, by omega⟩]
          · rw [if_neg e2, if_neg (by unfold gisR at ha; omega)]
    exact loop 0 (Nat.zero_le _) h (hQ.rw (fun a => (if_neg (by omega)).symm) (fun _ => rfl))
  · refine j_p (nx := 1) hJ dX5_removeWord_0 rfl rfl ?_
    refine j_p (nx := 2) hJ dX5_removeWord_1 rfl rfl ?_
    refine j_cvR (nx := 5) hJ dX5_removeWord_2 rfl (r_isSampleIndex (fl := fl) (d := d + 58) hQ hs hss _) mX5_236 (by repeat (first | assumption | exact gup_same _ _ _ | rw [gup_ne _ _ (by first | decide | assumption | omega)])) kX5_isSampleIndex rfl (gle8 rfl) ?_
    rw [show gbt _ ss = false from Bool.eq_false_iff.mpr hx]
    refine j_if_ne (nx := 8) (tgt := 11) hJ dX5_removeWord_5 rfl (by decide) (fun c5 => absurd c5 (by decide)) (fun c5 => ?_)
    refine j_c (nx := 10) hJ dX5_removeWord_8 rfl gk_bipush_m6 ?_
    have e : s_removeWord R N x = (-6, R, N) := by unfold s_removeWord; rw [egs]; exact if_neg hx
    exact j_iret hJ dX5_removeWord_10 ⟨by rw [e], by rw [e]; exact hQ.c⟩
set_option maxHeartbeats 4000000 in
theorem r_sampleSize {fl : Bool} {d : Nat} {h0 h : GH} {R : Nat → List Int32} {N : Nat → Int32} (hQ : gQ h0 h R N) : gN fl (d + 60) yX5_sampleSize [.ref 0] h (fun o h' => o = some (.int (N 2)) ∧ gC h0 h' R N) := by
  have q0 := hQ.1.1
  have q1 := hQ.1.2.1.1
  have q2 := hQ.1.2.1.2.1
  have q3 := hQ.1.2.1.2.2.1
  have q4 := hQ.1.2.1.2.2.2
  have q75 := hQ.1.2.2.2.1
  have q80 := hQ.1.2.2.2.2.2.1.1
  obtain ⟨_, _, _, _, _, _, q76x⟩ := id hQ.1.2.2.2.2.2.2.1
  have q76 := q76x.1
  refine gN.of MX5_sampleSize (Nat.le_of_ble_eq_true rfl) (fun J n hJ => ?_)
  show J 0 [some (.ref 0)] [] h (n, 0, 0, fl)
  refine j_p (nx := 1) hJ dX5_sampleSize_0 rfl rfl ?_
  refine j_get (nx := 4) hJ dX5_sampleSize_1 rfl fX5_12 (by repeat (first | assumption | exact gup_same _ _ _ | rw [gup_ne _ _ (by first | decide | assumption | omega)])) (by rfl) ?_
  refine j_get (nx := 7) hJ dX5_sampleSize_4 rfl fX5_230 (by repeat (first | assumption | exact gup_same _ _ _ | rw [gup_ne _ _ (by first | decide | assumption | omega)])) (by rfl) ?_
  exact j_iret hJ dX5_sampleSize_7 ⟨rfl, hQ.c⟩
set_option maxHeartbeats 4000000 in
theorem r_sampleCode {fl : Bool} {d : Nat} {h0 h : GH} {R : Nat → List Int32} {N : Nat → Int32} (hQ : gQ h0 h R N) {ss : Nat} (hs : N 2 = nI ss) (hss : ss ≤ 6) (x : Int32) : gN fl (d + 60) yX5_sampleCode [.ref 0, .int x] h (fun o h' => o = some (.long (s_sampleCode R N x)) ∧ gC h0 h' R N) := by
  have q0 := hQ.1.1
  have q1 := hQ.1.2.1.1
  have q2 := hQ.1.2.1.2.1
  have q3 := hQ.1.2.1.2.2.1
  have q4 := hQ.1.2.1.2.2.2
  have q75 := hQ.1.2.2.2.1
  have q80 := hQ.1.2.2.2.2.2.1.1
  obtain ⟨_, _, _, _, _, _, q76x⟩ := id hQ.1.2.2.2.2.2.2.1
  have q76 := q76x.1
  have egs := gss_nI hs hss
  refine gN.of MX5_sampleCode (Nat.le_of_ble_eq_true rfl) (fun J n hJ => ?_)
  show J 0 [some (.ref 0), some (.int x)] [] h (n, 0, 0, fl)
  by_cases hx : gbt x ss = true
  · obtain ⟨r, rfl, hr⟩ := gbt_spec hx
    refine j_p (nx := 1) hJ dX5_sampleCode_0 rfl rfl ?_
    refine j_p (nx := 2) hJ dX5_sampleCode_1 rfl rfl ?_
    refine j_cvR (nx := 5) hJ dX5_sampleCode_2 rfl (r_isSampleIndex (fl := fl) (d := d + 58) hQ hs hss _) mX5_236 (by repeat (first | assumption | exact gup_same _ _ _ | rw [gup_ne _ _ (by first | decide | assumption | omega)])) kX5_isSampleIndex rfl (gle8 rfl) ?_
    rw [show gbt _ ss = true from hx]
    refine j_if_eq (nx := 8) (tgt := 23) hJ dX5_sampleCode_5 rfl (by decide) (fun c5 => absurd c5 (by decide)) (fun c5 => ?_)
    refine j_p (nx := 9) hJ dX5_sampleCode_8 rfl rfl ?_
    refine j_get (nx := 12) hJ dX5_sampleCode_9 rfl fX5_12 (by repeat (first | assumption | exact gup_same _ _ _ | rw [gup_ne _ _ (by first | decide | assumption | omega)])) (by rfl) ?_
    refine j_get (nx := 15) hJ dX5_sampleCode_12 rfl fX5_233 (by repeat (first | assumption | exact gup_same _ _ _ | rw [gup_ne _ _ (by first | decide | assumption | omega)])) (by rfl) ?_
    refine j_p (nx := 16) hJ dX5_sampleCode_15 rfl rfl ?_
    refine j_aald (j := r) (nx := 17) hJ dX5_sampleCode_16 rfl q4 rfl (by omega) (by decide) (by decide) rfl ?_
    have hS := hQ.r8 (r := 25 + 2 * r) (by unfold gisR; omega) (by omega) (by omega)
    have hSr := hS.2.2.2.1
    refine j_cvR (nx := 20) hJ dX5_sampleCode_17 rfl (r_wordCode (fl := fl) (d := d + 57) hS) mX5_239 (by repeat (first | assumption | exact gup_same _ _ _ | rw [gup_ne _ _ (by first | decide | assumption | omega)])) kX2_wordCode rfl (gle8 rfl) ?_
    refine j_go (tgt := 26) hJ dX5_sampleCode_20 (by decide) ?_
    have e : s_sampleCode R N (nI r) = (gwc (R (25 + 2 * r))).1 := by unfold s_sampleCode; rw [egs, if_pos hx, nI_toInt (by omega)]; rfl
    exact j_lret hJ dX5_sampleCode_26 ⟨by rw [e], hQ.c⟩
  · refine j_p (nx := 1) hJ dX5_sampleCode_0 rfl rfl ?_
    refine j_p (nx := 2) hJ dX5_sampleCode_1 rfl rfl ?_
    refine j_cvR (nx := 5) hJ dX5_sampleCode_2 rfl (r_isSampleIndex (fl := fl) (d := d + 58) hQ hs hss _) mX5_236 (by repeat (first | assumption | exact gup_same _ _ _ | rw [gup_ne _ _ (by first | decide | assumption | omega)])) kX5_isSampleIndex rfl (gle8 rfl) ?_
    rw [show gbt _ ss = false from Bool.eq_false_iff.mpr hx]
    refine j_if_eq (nx := 8) (tgt := 23) hJ dX5_sampleCode_5 rfl (by decide) (fun c5 => ?_) (fun c5 => absurd c5 (by decide))
    refine j_ldc2 (nx := 26) hJ dX5_sampleCode_23 rfl qX5_243 ?_
    have e : s_sampleCode R N x = -9223372036854775808 := by unfold s_sampleCode; rw [egs]; exact if_neg hx
    exact j_lret hJ dX5_sampleCode_26 ⟨by rw [e], hQ.c⟩
