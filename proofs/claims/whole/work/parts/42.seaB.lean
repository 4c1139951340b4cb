theorem gdl (c : List Int32) (x : Int32) : (c ++ [x]).dropLast = c := List.dropLast_concat
/-- the search with a variable -/
def gCv (W : Nat → List Int32) (ss : Nat) (mode : Int32) (k V m : Nat) (c : List Int32) (ll vu lo : Nat) : Option (List Int32) := (List.range (min vu (V - 1) + 1 - lo)).findSome? (fun i => gCo W ss mode k V m (c ++ [nI (10 + (lo + i))]) ll (max vu (lo + i + 1)))
theorem gCo_s (W : Nat → List Int32) (ss : Nat) (mode : Int32) (k V m : Nat) (c : List Int32) (ll vu : Nat) : gCo W ss mode k V (m + 1) c ll vu = if gcb W ss mode c ll (m + 1 - ll) = true then
      ((List.range (if 0 < ll then k else 0)).findSome? (fun x => gCo W ss mode k V m (c ++ [nI x]) (ll - 1) vu)).or
        (if 0 < m + 1 - ll then gCv W ss mode k V m c ll vu (if V - vu < m + 1 - ll then 0 else vu) else none) else none := rfl
theorem gCo_0 (W : Nat → List Int32) (ss : Nat) (mode : Int32) (k V : Nat) (c : List Int32) (ll vu : Nat) : gCo W ss mode k V 0 c ll vu = if gcb W ss mode c ll (0 - ll) = true then some c else none := rfl
theorem gsome_t {α : Type} {o : Option α} (h : ¬ gb o.isSome = 0) : ∃ x, o = some x := by
  cases o with
  | none => exact absurd rfl h
  | some x => exact ⟨x, rfl⟩
theorem gsome_f {α : Type} {o : Option α} (h : gb o.isSome = 0) : o = none := by
  cases o with
  | none => rfl
  | some x => exact absurd h (by show ¬ (1 : Int32) = 0; decide)
set_option maxHeartbeats 4000000 in
theorem r_completeWithVariable {fl : Bool} {D : Nat} {h : GH} {k ss : Nat} {W : Nat → List Int32} {gn V : Nat} {mode : Int32} {c : List Int32} {m ll vu lo : Nat} (IH : gCoOK fl D k ss W gn V mode m) (hD : ∃ D0, D = D0 + 1) (hS : gSv h k ss W gn V mode c) (hsy : ∀ x ∈ c, gsy x) (hn : c.length + (m + 1) = gn) (hgn : gn ≤ 8) (hll : ll ≤ m) (hvu : vu ≤ V) (hV1 : 1 ≤ V) (hV4 : V ≤ 4) (hlo : lo = if V - vu < m + 1 - ll then 0 else vu) : gN fl (D + 1) yX3_completeWithVariable [.ref 80, .ref 1, .int (nI c.length), .int (nI ll), .int (nI vu)] h (fun o h' => o = some (.int (gb (gCv W ss mode k V m c ll vu lo).isSome)) ∧ gSv h' k ss W gn V mode ((gCv W ss mode k V m c ll vu lo).getD c) ∧ gFs h h') := by
  obtain ⟨D, rfl⟩ := hD
  have g80 := hS.1
  have hlov : lo ≤ min vu (V - 1) + 1 ∧ lo ≤ 4 := by rw [hlo]; split <;> omega
  refine gN.of MX3_completeWithVariable (Nat.le_of_ble_eq_true rfl) (fun J n hJ => ?_)
  show J 0 [some (.ref 80), some (.ref 1), some (.int (nI c.length)), some (.int (nI ll)), some (.int (nI vu)), none, none, none, none, none, none] [] h (n, 0, 0, fl)
  have loop : ∀ i, i ≤ min vu (V - 1) + 1 - lo → ∀ (h1 : GH) (w5 w9 : Option Value), gSv h1 k ss W gn V mode c → gFs h h1 → (∀ j, j < i → gCo W ss mode k V m (c ++ [nI (10 + (lo + j))]) ll (max vu (lo + j + 1)) = none) → J 59 [some (.ref 80), some (.ref 1), some (.int (nI c.length)), some (.int (nI ll)), some (.int (nI vu)), some (.int (nI (m + 1 - ll))), w5, some (.int (nI lo)), some (.int (nI (min vu (V - 1)))), some (.int (nI (lo + i))), w9] [] h1 (n, 0, 0, fl) := by
    refine gloop _ _ (fun i hi ih h1 w5 w9 hS1 hF1 hno => ?_)
    have g80 := hS1.1
    have g81 := hS1.2.2.2.2.2.2.2.1
    refine j_p (nx := 61) hJ dX3_completeWithVariable_59 rfl rfl ?_
    refine j_p (nx := 63) hJ dX3_completeWithVariable_61 rfl rfl ?_
    refine j_ic_gt (nx := 66) (tgt := 119) hJ dX3_completeWithVariable_63 rfl (by decide) (fun c63 => ?_) (fun c63 => ?_)
    · refine j_c (nx := 120) hJ dX3_completeWithVariable_119 rfl gk_iconst_0 ?_
      rw [gnlt (by omega) (by omega)] at c63
      have hv : gCv W ss mode k V m c ll vu lo = none := gfs_n (fun j hj => hno j (by omega))
      exact j_zret hJ false dX3_completeWithVariable_120 rfl ⟨by rw [hv]; rfl, by rw [hv]; exact hS1, hF1⟩
    · rw [gnlt (by omega) (by omega)] at c63
      have hil : i < min vu (V - 1) + 1 - lo := by omega
      refine j_p (nx := 68) hJ dX3_completeWithVariable_66 rfl rfl ?_
      refine j_p (nx := 70) hJ dX3_completeWithVariable_68 rfl rfl ?_
      refine j_c (nx := 71) hJ dX3_completeWithVariable_70 rfl gk_iconst_1 ?_
      refine j_p (nx := 72) hJ dX3_completeWithVariable_71 rfl rfl ?_
      rw [show nI (lo + i) + 1 = nI (lo + i + 1) from (nI_succ _).symm]
      refine j_max (nx := 75) hJ dX3_completeWithVariable_72 rfl mX3_82 (gle8 rfl) ?_
      rw [gmaxI (by omega) (by omega)]
      refine j_p (nx := 77) hJ dX3_completeWithVariable_75 rfl rfl ?_
      refine j_p (nx := 78) hJ dX3_completeWithVariable_77 rfl rfl ?_
      refine j_get (nx := 81) hJ dX3_completeWithVariable_78 rfl fX3_23 (by repeat (first | assumption | exact gup_same _ _ _ | rw [gup_ne _ _ (by first | decide | assumption | omega)])) (by rfl) ?_
      refine j_c (nx := 83) hJ dX3_completeWithVariable_81 rfl gk_bipush_10 ?_
      refine j_p (nx := 85) hJ dX3_completeWithVariable_83 rfl rfl ?_
      refine j_p (nx := 86) hJ dX3_completeWithVariable_85 rfl rfl ?_
      rw [show (10 : Int32) = nI 10 from rfl, gadd]
      refine j_cv (nx := 89) hJ dX3_completeWithVariable_86 rfl (r_add (fl := fl) (d := D) hS1.2.2.2.2 (nI (10 + (lo + i)))) mX3_72 (by repeat (first | assumption | exact gup_same _ _ _ | rw [gup_ne _ _ (by first | decide | assumption | omega)])) kX2_add rfl (gle8 rfl) (fun o h2 hp => ?_)
      obtain ⟨rfl, hR2, hF2⟩ := hp
      rw [if_pos (by omega)] at hR2
      have hS2 := hS1.can hF2 hR2
      have g802 := hS2.1
      refine j_p (nx := 90) hJ dX3_completeWithVariable_89 rfl rfl ?_
      refine j_p (nx := 91) hJ dX3_completeWithVariable_90 rfl rfl ?_
      refine j_p (nx := 92) hJ dX3_completeWithVariable_91 rfl rfl ?_
      refine j_p (nx := 93) hJ dX3_completeWithVariable_92 rfl rfl ?_
      refine j_c (nx := 94) hJ dX3_completeWithVariable_93 rfl gk_iconst_1 ?_
      refine j_p (nx := 95) hJ dX3_completeWithVariable_94 rfl rfl ?_
      rw [show nI c.length + 1 = nI (c ++ [(nI (10 + (lo + i)))]).length from by rw [List.length_append]; exact (nI_succ _).symm]
      refine j_p (nx := 96) hJ dX3_completeWithVariable_95 rfl rfl ?_
      refine j_p (nx := 98) hJ dX3_completeWithVariable_96 rfl rfl ?_
      refine j_cv (nx := 101) hJ dX3_completeWithVariable_98 rfl (IH h2 (c ++ [(nI (10 + (lo + i)))]) ll (max vu (lo + i + 1)) hS2 (gsy_add hsy (gsy_nI (by omega))) (by rw [List.length_append]; show c.length + 1 + m = gn; omega) (by omega) (by omega) (fun _ => by omega)) mX3_46 (by repeat (first | assumption | exact gup_same _ _ _ | rw [gup_ne _ _ (by first | decide | assumption | omega)])) kX3_complete rfl (gle8 rfl) (fun o h3 hp => ?_)
      obtain ⟨rfl, hS3, hF3⟩ := hp
      refine j_if_eq (nx := 104) (tgt := 106) hJ dX3_completeWithVariable_101 rfl (by decide) (fun c101 => ?_) (fun c101 => ?_)
      · have hg := gsome_f c101
        rw [hg] at hS3
        have hS3 : gSv h3 k ss W gn V mode (c ++ [(nI (10 + (lo + i)))]) := hS3
        have g803 := hS3.1
        have g81 := hS3.2.2.2.2.2.2.2.1
        refine j_p (nx := 107) hJ dX3_completeWithVariable_106 rfl rfl ?_
        refine j_get (nx := 110) hJ dX3_completeWithVariable_107 rfl fX3_23 g803 (by rfl) ?_
        refine j_cv (nx := 113) hJ dX3_completeWithVariable_110 rfl (r_removeLast (fl := fl) (d := D) hS3.2.2.2.2) mX3_76 (by repeat (first | assumption | exact gup_same _ _ _ | rw [gup_ne _ _ (by first | decide | assumption | omega)])) kX2_removeLast rfl (gle8 rfl) (fun o h4 hp => ?_)
        obtain ⟨rfl, hR4, hF4⟩ := hp
        rw [gdl] at hR4
        refine j_inc (nx := 116) hJ dX3_completeWithVariable_113 rfl rfl (gi1 _) rfl ?_
        refine j_go (tgt := 59) hJ dX3_completeWithVariable_116 (by decide) ?_
        refine ih hil h4 _ _ (hS3.can hF4 hR4) (hF1.tr ((gFr.s hF2).tr (hF3.tr (gFr.s hF4)))) (fun j hj => ?_)
        by_cases e : j = i
        · subst e; exact hg
        · exact hno j (by omega)
      · obtain ⟨y, hg⟩ := gsome_t c101
        rw [hg] at hS3
        have hv : gCv W ss mode k V m c ll vu lo = some y := gfs_s hno hil hg
        refine j_c (nx := 105) hJ dX3_completeWithVariable_104 rfl gk_iconst_1 ?_
        exact j_zret hJ true dX3_completeWithVariable_105 rfl ⟨by rw [hv]; rfl, by rw [hv]; exact hS3, hF1.tr ((gFr.s hF2).tr hF3)⟩
  refine j_p (nx := 1) hJ dX3_completeWithVariable_0 rfl rfl ?_
  refine j_get (nx := 4) hJ dX3_completeWithVariable_1 rfl fX3_27 (by repeat (first | assumption | exact gup_same _ _ _ | rw [gup_ne _ _ (by first | decide | assumption | omega)])) (by rfl) ?_
  refine j_p (nx := 5) hJ dX3_completeWithVariable_4 rfl rfl ?_
  refine j_p (nx := 6) hJ dX3_completeWithVariable_5 rfl rfl ?_
  rw [gsub (by omega)]
  refine j_p (nx := 7) hJ dX3_completeWithVariable_6 rfl rfl ?_
  refine j_p (nx := 8) hJ dX3_completeWithVariable_7 rfl rfl ?_
  rw [gsub (by omega), show gn - c.length - ll = m + 1 - ll by omega]
  refine j_p (nx := 10) hJ dX3_completeWithVariable_8 rfl rfl ?_
  refine j_p (nx := 12) hJ dX3_completeWithVariable_10 rfl rfl ?_
  refine j_p (nx := 13) hJ dX3_completeWithVariable_12 rfl rfl ?_
  refine j_get (nx := 16) hJ dX3_completeWithVariable_13 rfl fX3_43 (by repeat (first | assumption | exact gup_same _ _ _ | rw [gup_ne _ _ (by first | decide | assumption | omega)])) (by rfl) ?_
  refine j_p (nx := 18) hJ dX3_completeWithVariable_16 rfl rfl ?_
  refine j_p (nx := 19) hJ dX3_completeWithVariable_18 rfl rfl ?_
  rw [gsub hvu]
  refine j_ic_le (nx := 22) (tgt := 26) hJ dX3_completeWithVariable_19 rfl (by decide) (fun c19 => ?_) (fun c19 => ?_)
  · refine j_c (nx := 27) hJ dX3_completeWithVariable_26 rfl gk_iconst_0 ?_
    rw [gnle (by omega) (by omega)] at c19
    refine j_p (nx := 29) hJ dX3_completeWithVariable_27 rfl rfl ?_
    refine j_p (nx := 31) hJ dX3_completeWithVariable_29 rfl rfl ?_
    refine j_if_eq (nx := 34) (tgt := 38) hJ dX3_completeWithVariable_31 rfl (by decide) (fun _ => ?_) (fun c31 => absurd c31 (by decide))
    refine j_p (nx := 40) hJ dX3_completeWithVariable_38 rfl rfl ?_
    have e1 : lo = vu := by rw [hlo, if_neg (by omega)]
    rw [show J 40 _ [.int (nI vu)] h (n, 0, 0, fl) = J 40 _ [.int (nI lo)] h (n, 0, 0, fl) by rw [e1]]
    refine j_p (nx := 42) hJ dX3_completeWithVariable_40 rfl rfl ?_
    refine j_p (nx := 44) hJ dX3_completeWithVariable_42 rfl rfl ?_
    refine j_p (nx := 45) hJ dX3_completeWithVariable_44 rfl rfl ?_
    refine j_get (nx := 48) hJ dX3_completeWithVariable_45 rfl fX3_43 (by repeat (first | assumption | exact gup_same _ _ _ | rw [gup_ne _ _ (by first | decide | assumption | omega)])) (by rfl) ?_
    refine j_c (nx := 49) hJ dX3_completeWithVariable_48 rfl gk_iconst_1 ?_
    refine j_p (nx := 50) hJ dX3_completeWithVariable_49 rfl rfl ?_
    rw [show nI V - 1 = nI (V - 1) from gsub (b := 1) hV1]
    refine j_min (nx := 53) hJ dX3_completeWithVariable_50 rfl mX3_37 (gle8 rfl) ?_
    rw [gminI (by omega) (by omega)]
    refine j_p (nx := 55) hJ dX3_completeWithVariable_53 rfl rfl ?_
    refine j_p (nx := 57) hJ dX3_completeWithVariable_55 rfl rfl ?_
    refine j_p (nx := 59) hJ dX3_completeWithVariable_57 rfl rfl ?_
    exact loop 0 (Nat.zero_le _) h _ _ hS gFs.rf (fun j hj => by omega)
  · refine j_c (nx := 23) hJ dX3_completeWithVariable_22 rfl gk_iconst_1 ?_
    refine j_go (tgt := 27) hJ dX3_completeWithVariable_23 (by decide) ?_
    rw [gnle (by omega) (by omega)] at c19
    refine j_p (nx := 29) hJ dX3_completeWithVariable_27 rfl rfl ?_
    refine j_p (nx := 31) hJ dX3_completeWithVariable_29 rfl rfl ?_
    refine j_if_eq (nx := 34) (tgt := 38) hJ dX3_completeWithVariable_31 rfl (by decide) (fun c31 => absurd c31 (by decide)) (fun _ => ?_)
    refine j_c (nx := 35) hJ dX3_completeWithVariable_34 rfl gk_iconst_0 ?_
    refine j_go (tgt := 40) hJ dX3_completeWithVariable_35 (by decide) ?_
    have e1 : lo = 0 := by rw [hlo, if_pos (by omega)]
    change J 40 _ (.int (nI 0) :: _) _ _
    rw [show nI 0 = nI lo by rw [e1]]
    refine j_p (nx := 42) hJ dX3_completeWithVariable_40 rfl rfl ?_
    refine j_p (nx := 44) hJ dX3_completeWithVariable_42 rfl rfl ?_
    refine j_p (nx := 45) hJ dX3_completeWithVariable_44 rfl rfl ?_
    refine j_get (nx := 48) hJ dX3_completeWithVariable_45 rfl fX3_43 (by repeat (first | assumption | exact gup_same _ _ _ | rw [gup_ne _ _ (by first | decide | assumption | omega)])) (by rfl) ?_
    refine j_c (nx := 49) hJ dX3_completeWithVariable_48 rfl gk_iconst_1 ?_
    refine j_p (nx := 50) hJ dX3_completeWithVariable_49 rfl rfl ?_
    rw [show nI V - 1 = nI (V - 1) from gsub (b := 1) hV1]
    refine j_min (nx := 53) hJ dX3_completeWithVariable_50 rfl mX3_37 (gle8 rfl) ?_
    rw [gminI (by omega) (by omega)]
    refine j_p (nx := 55) hJ dX3_completeWithVariable_53 rfl rfl ?_
    refine j_p (nx := 57) hJ dX3_completeWithVariable_55 rfl rfl ?_
    refine j_p (nx := 59) hJ dX3_completeWithVariable_57 rfl rfl ?_
    exact loop 0 (Nat.zero_le _) h _ _ hS gFs.rf (fun j hj => by omega)
set_option maxHeartbeats 4000000 in
theorem r_complete {fl : Bool} {k ss : Nat} {W : Nat → List Int32} {gn V : Nat} {mode : Int32} (hss : ss ≤ 6) (hk : k ≤ 3) (hgn : gn ≤ 8) (hV4 : V ≤ 4) : ∀ (m D0 : Nat), gCoOK fl (D0 + 2 * m + 22) k ss W gn V mode m := by
  intro m
  induction m with
  | zero =>
    intro D0 h c ll vu hS hsy hn hll hvu hV1
    have g80 := hS.1
    refine gN.of MX3_complete (Nat.le_of_ble_eq_true rfl) (fun J n hJ => ?_)
    show J 0 [some (.ref 80), some (.ref 1), some (.int (nI c.length)), some (.int (nI ll)), some (.int (nI vu)), none, none, none] [] h (n, 0, 0, fl)
    refine j_p (nx := 1) hJ dX3_complete_0 rfl rfl ?_
    refine j_get (nx := 4) hJ dX3_complete_1 rfl fX3_27 (by repeat (first | assumption | exact gup_same _ _ _ | rw [gup_ne _ _ (by first | decide | assumption | omega)])) (by rfl) ?_
    refine j_p (nx := 5) hJ dX3_complete_4 rfl rfl ?_
    refine j_p (nx := 6) hJ dX3_complete_5 rfl rfl ?_
    rw [gsub (by omega)]
    refine j_p (nx := 7) hJ dX3_complete_6 rfl rfl ?_
    refine j_p (nx := 8) hJ dX3_complete_7 rfl rfl ?_
    rw [gsub (by omega), show gn - c.length - ll = 0 - ll by omega]
    refine j_p (nx := 10) hJ dX3_complete_8 rfl rfl ?_
    refine j_p (nx := 11) hJ dX3_complete_10 rfl rfl ?_
    refine j_p (nx := 12) hJ dX3_complete_11 rfl rfl ?_
    refine j_p (nx := 13) hJ dX3_complete_12 rfl rfl ?_
    refine j_p (nx := 15) hJ dX3_complete_13 rfl rfl ?_
    refine j_cv (nx := 18) hJ dX3_complete_15 rfl (r_canBegin (fl := fl) (d := D0) hS hss hsy (ll := ll) (pl := 0 - ll) (by omega)) mX3_66 (by repeat (first | assumption | exact gup_same _ _ _ | rw [gup_ne _ _ (by first | decide | assumption | omega)])) kX3_canBegin rfl (gle8 rfl) (fun o h1 hp => ?_)
    obtain ⟨rfl, hS1, hF1⟩ := hp
    have g801 := hS1.1
    refine j_if_ne (nx := 21) (tgt := 23) hJ dX3_complete_18 rfl (by decide) (fun c18 => ?_) (fun c18 => ?_)
    · refine j_p (nx := 24) hJ dX3_complete_23 rfl rfl ?_
      refine j_p (nx := 25) hJ dX3_complete_24 rfl rfl ?_
      refine j_get (nx := 28) hJ dX3_complete_25 rfl fX3_27 (by repeat (first | assumption | exact gup_same _ _ _ | rw [gup_ne _ _ (by first | decide | assumption | omega)])) (by rfl) ?_
      refine j_ic_lt (nx := 31) (tgt := 33) hJ dX3_complete_28 rfl (by decide) (fun c28 => absurd c28 (by rw [gnlt (by omega) (by omega)]; omega)) (fun c28 => ?_)
      refine j_c (nx := 32) hJ dX3_complete_31 rfl gk_iconst_1 ?_
      rw [gb_t] at c18
      exact j_zret hJ true dX3_complete_32 rfl ⟨by rw [gCo_0, if_pos c18]; rfl, by rw [gCo_0, if_pos c18]; exact hS1, hF1.s⟩
    · refine j_c (nx := 22) hJ dX3_complete_21 rfl gk_iconst_0 ?_
      rw [gb_f] at c18
      have c18 : ¬ gcb W ss mode c ll (0 - ll) = true := by rw [c18]; decide
      exact j_zret hJ false dX3_complete_22 rfl ⟨by rw [gCo_0, if_neg c18]; rfl, by rw [gCo_0, if_neg c18]; exact hS1, hF1.s⟩
  | succ m ih =>
    intro D0 h c ll vu hS hsy hn hll hvu hV1
    have g80 := hS.1
    show gN fl (D0 + 2 * m + 23 + 1) _ _ _ _
    refine gN.of MX3_complete (Nat.le_of_ble_eq_true rfl) (fun J n hJ => ?_)
    show J 0 [some (.ref 80), some (.ref 1), some (.int (nI c.length)), some (.int (nI ll)), some (.int (nI vu)), none, none, none] [] h (n, 0, 0, fl)
    refine j_p (nx := 1) hJ dX3_complete_0 rfl rfl ?_
    refine j_get (nx := 4) hJ dX3_complete_1 rfl fX3_27 (by repeat (first | assumption | exact gup_same _ _ _ | rw [gup_ne _ _ (by first | decide | assumption | omega)])) (by rfl) ?_
    refine j_p (nx := 5) hJ dX3_complete_4 rfl rfl ?_
    refine j_p (nx := 6) hJ dX3_complete_5 rfl rfl ?_
    rw [gsub (by omega)]
    refine j_p (nx := 7) hJ dX3_complete_6 rfl rfl ?_
    refine j_p (nx := 8) hJ dX3_complete_7 rfl rfl ?_
    rw [gsub (by omega), show gn - c.length - ll = m + 1 - ll by omega]
    refine j_p (nx := 10) hJ dX3_complete_8 rfl rfl ?_
    refine j_p (nx := 11) hJ dX3_complete_10 rfl rfl ?_
    refine j_p (nx := 12) hJ dX3_complete_11 rfl rfl ?_
    refine j_p (nx := 13) hJ dX3_complete_12 rfl rfl ?_
    refine j_p (nx := 15) hJ dX3_complete_13 rfl rfl ?_
    refine j_cv (nx := 18) hJ dX3_complete_15 rfl (r_canBegin (fl := fl) (d := D0 + 2 * m + 2) hS hss hsy (ll := ll) (pl := m + 1 - ll) (by omega)) mX3_66 (by repeat (first | assumption | exact gup_same _ _ _ | rw [gup_ne _ _ (by first | decide | assumption | omega)])) kX3_canBegin rfl (gle8 rfl) (fun o h1 hp => ?_)
    obtain ⟨rfl, hS1, hF1⟩ := hp
    have g801 := hS1.1
    refine j_if_ne (nx := 21) (tgt := 23) hJ dX3_complete_18 rfl (by decide) (fun c18 => ?_) (fun c18 => ?_)
    · rw [gb_t] at c18
      have e0 := gCo_s W ss mode k V m c ll vu
      rw [if_pos c18] at e0
      have g1 := hS1.2.1.1
      refine j_p (nx := 24) hJ dX3_complete_23 rfl rfl ?_
      refine j_p (nx := 25) hJ dX3_complete_24 rfl rfl ?_
      refine j_get (nx := 28) hJ dX3_complete_25 rfl fX3_27 (by repeat (first | assumption | exact gup_same _ _ _ | rw [gup_ne _ _ (by first | decide | assumption | omega)])) (by rfl) ?_
      refine j_ic_lt (nx := 31) (tgt := 33) hJ dX3_complete_28 rfl (by decide) (fun c28 => ?_) (fun c28 => absurd c28 (fun q => q ((gnlt (by omega) (by omega)).mpr (by omega))))
      obtain ⟨K, hK⟩ : ∃ K, K = if 0 < ll then k else 0 := ⟨_, rfl⟩
      rw [← hK] at e0
      have hK3 : K ≤ 3 := by rw [hK]; split <;> omega
      have loop : ∀ i, i ≤ K → ∀ h2 : GH, gSv h2 k ss W gn V mode c → gFs h h2 → (∀ j, j < i → gCo W ss mode k V m (c ++ [nI j]) (ll - 1) vu = none) → J 50 [some (.ref 80), some (.ref 1), some (.int (nI c.length)), some (.int (nI ll)), some (.int (nI vu)), some (.int (nI (m + 1 - ll))), some (.int (nI K)), some (.int (nI i))] [] h2 (n, 0, 0, fl) := by
        refine gloop _ _ (fun i hi ihl h2 hS2 hF2 hno => ?_)
        have g802 := hS2.1
        have g81 := hS2.2.2.2.2.2.2.2.1
        refine j_p (nx := 52) hJ dX3_complete_50 rfl rfl ?_
        refine j_p (nx := 54) hJ dX3_complete_52 rfl rfl ?_
        refine j_ic_ge (nx := 57) (tgt := 98) hJ dX3_complete_54 rfl (by decide) (fun c54 => ?_) (fun c54 => ?_)
        · rw [gnle (by omega) (by omega)] at c54
          have hA : (List.range K).findSome? (fun x => gCo W ss mode k V m (c ++ [nI x]) (ll - 1) vu) = none := gfs_n (fun j hj => hno j (by omega))
          rw [hA, Option.none_or] at e0
          refine j_p (nx := 100) hJ dX3_complete_98 rfl rfl ?_
          refine j_if_le (nx := 103) (tgt := 119) hJ dX3_complete_100 rfl (by decide) (fun c100 => ?_) (fun c100 => ?_)
          · rw [Int32.le_iff_toInt_le, Int32.toInt_zero, nI_toInt (by omega)] at c100
            rw [if_neg (by omega)] at e0
            refine j_c (nx := 120) hJ dX3_complete_119 rfl gk_iconst_0 ?_
            exact j_zret hJ false dX3_complete_120 rfl ⟨by rw [e0]; rfl, by rw [e0]; exact hS2, hF2⟩
          · rw [Int32.le_iff_toInt_le, Int32.toInt_zero, nI_toInt (by omega)] at c100
            rw [if_pos (by omega)] at e0
            refine j_p (nx := 104) hJ dX3_complete_103 rfl rfl ?_
            refine j_p (nx := 105) hJ dX3_complete_104 rfl rfl ?_
            refine j_p (nx := 106) hJ dX3_complete_105 rfl rfl ?_
            refine j_p (nx := 107) hJ dX3_complete_106 rfl rfl ?_
            refine j_p (nx := 109) hJ dX3_complete_107 rfl rfl ?_
            refine j_cv (nx := 112) hJ dX3_complete_109 rfl (r_completeWithVariable (ih D0) ⟨D0 + 2 * m + 21, rfl⟩ hS2 hsy hn hgn (by omega) hvu (hV1 (by omega)) hV4 rfl) mX3_79 (by repeat (first | assumption | exact gup_same _ _ _ | rw [gup_ne _ _ (by first | decide | assumption | omega)])) kX3_completeWithVariable rfl (gle8 rfl) (fun o h3 hp => ?_)
            obtain ⟨rfl, hS3, hF3⟩ := hp
            refine j_if_eq (nx := 115) (tgt := 119) hJ dX3_complete_112 rfl (by decide) (fun c112 => ?_) (fun c112 => ?_)
            · have hg := gsome_f c112
              rw [hg] at hS3 e0
              refine j_c (nx := 120) hJ dX3_complete_119 rfl gk_iconst_0 ?_
              exact j_zret hJ false dX3_complete_120 rfl ⟨by rw [e0]; rfl, by rw [e0]; exact hS3, hF2.tr hF3⟩
            · obtain ⟨y, hg⟩ := gsome_t c112
              rw [hg] at hS3 e0
              refine j_c (nx := 116) hJ dX3_complete_115 rfl gk_iconst_1 ?_
              refine j_go (tgt := 120) hJ dX3_complete_116 (by decide) ?_
              exact j_zret hJ true dX3_complete_120 rfl ⟨by rw [e0]; rfl, by rw [e0]; exact hS3, hF2.tr hF3⟩
        · rw [gnle (by omega) (by omega)] at c54
          have hil : i < K := by omega
          have hl0 : 0 < ll ∧ i < k := by
            rw [hK] at hil
            split at hil
            · next q => exact ⟨q, hil⟩
            · omega
          refine j_p (nx := 58) hJ dX3_complete_57 rfl rfl ?_
          refine j_get (nx := 61) hJ dX3_complete_58 rfl fX3_23 (by repeat (first | assumption | exact gup_same _ _ _ | rw [gup_ne _ _ (by first | decide | assumption | omega)])) (by rfl) ?_
          refine j_p (nx := 63) hJ dX3_complete_61 rfl rfl ?_
          refine j_cv (nx := 66) hJ dX3_complete_63 rfl (r_add (fl := fl) (d := D0 + 2 * m + 22) hS2.2.2.2.2 (nI i)) mX3_72 (by repeat (first | assumption | exact gup_same _ _ _ | rw [gup_ne _ _ (by first | decide | assumption | omega)])) kX2_add rfl (gle8 rfl) (fun o h3 hp => ?_)
          obtain ⟨rfl, hR3, hF3⟩ := hp
          rw [if_pos (by omega)] at hR3
          have hS3 := hS2.can hF3 hR3
          have g803 := hS3.1
          refine j_p (nx := 67) hJ dX3_complete_66 rfl rfl ?_
          refine j_p (nx := 68) hJ dX3_complete_67 rfl rfl ?_
          refine j_p (nx := 69) hJ dX3_complete_68 rfl rfl ?_
          refine j_p (nx := 70) hJ dX3_complete_69 rfl rfl ?_
          refine j_c (nx := 71) hJ dX3_complete_70 rfl gk_iconst_1 ?_
          refine j_p (nx := 72) hJ dX3_complete_71 rfl rfl ?_
          rw [show nI c.length + 1 = nI (c ++ [nI i]).length from by rw [List.length_append]; exact (nI_succ _).symm]
          refine j_p (nx := 73) hJ dX3_complete_72 rfl rfl ?_
          refine j_c (nx := 74) hJ dX3_complete_73 rfl gk_iconst_1 ?_
          refine j_p (nx := 75) hJ dX3_complete_74 rfl rfl ?_
          rw [show nI ll - 1 = nI (ll - 1) from gsub (b := 1) (by omega)]
          refine j_p (nx := 77) hJ dX3_complete_75 rfl rfl ?_
          have hc := ih (D0 + 1) h3 (c ++ [nI i]) (ll - 1) vu hS3 (gsy_add hsy (gsy_nI (by omega))) (by rw [List.length_append]; show c.length + 1 + m = gn; omega) (by omega) hvu (fun q => hV1 (by omega))
          rw [show D0 + 1 + 2 * m + 22 = D0 + 2 * m + 23 by omega] at hc
          refine j_cv (nx := 80) hJ dX3_complete_77 rfl (hc) mX3_46 (by repeat (first | assumption | exact gup_same _ _ _ | rw [gup_ne _ _ (by first | decide | assumption | omega)])) kX3_complete rfl (gle8 rfl) (fun o h4 hp => ?_)
          obtain ⟨rfl, hS4, hF4⟩ := hp
          refine j_if_eq (nx := 83) (tgt := 85) hJ dX3_complete_80 rfl (by decide) (fun c80 => ?_) (fun c80 => ?_)
          · have hg := gsome_f c80
            rw [hg] at hS4
            have hS4 : gSv h4 k ss W gn V mode (c ++ [nI i]) := hS4
            have g804 := hS4.1
            have g81 := hS4.2.2.2.2.2.2.2.1
            refine j_p (nx := 86) hJ dX3_complete_85 rfl rfl ?_
            refine j_get (nx := 89) hJ dX3_complete_86 rfl fX3_23 g804 (by rfl) ?_
            refine j_cv (nx := 92) hJ dX3_complete_89 rfl (r_removeLast (fl := fl) (d := D0 + 2 * m + 22) hS4.2.2.2.2) mX3_76 (by repeat (first | assumption | exact gup_same _ _ _ | rw [gup_ne _ _ (by first | decide | assumption | omega)])) kX2_removeLast rfl (gle8 rfl) (fun o h5 hp => ?_)
            obtain ⟨rfl, hR5, hF5⟩ := hp
            rw [gdl] at hR5
            refine j_inc (nx := 95) hJ dX3_complete_92 rfl rfl (gi1 i) rfl ?_
            refine j_go (tgt := 50) hJ dX3_complete_95 (by decide) ?_
            refine ihl hil h5 (hS4.can hF5 hR5) (hF2.tr ((gFr.s hF3).tr (hF4.tr (gFr.s hF5)))) (fun j hj => ?_)
            by_cases e : j = i
            · subst e; exact hg
            · exact hno j (by omega)
          · obtain ⟨y, hg⟩ := gsome_t c80
            rw [hg] at hS4
            have hA : (List.range K).findSome? (fun x => gCo W ss mode k V m (c ++ [nI x]) (ll - 1) vu) = some y := gfs_s hno hil hg
            rw [hA, Option.some_or] at e0
            refine j_c (nx := 84) hJ dX3_complete_83 rfl gk_iconst_1 ?_
            exact j_zret hJ true dX3_complete_84 rfl ⟨by rw [e0]; rfl, by rw [e0]; exact hS4, hF2.tr ((gFr.s hF3).tr hF4)⟩
      refine j_p (nx := 34) hJ dX3_complete_33 rfl rfl ?_
      refine j_if_le (nx := 37) (tgt := 44) hJ dX3_complete_34 rfl (by decide) (fun c34 => ?_) (fun c34 => ?_)
      · refine j_c (nx := 45) hJ dX3_complete_44 rfl gk_iconst_0 ?_
        rw [Int32.le_iff_toInt_le, Int32.toInt_zero, nI_toInt (by omega)] at c34
        have hK0 : K = 0 := by rw [hK, if_neg (by omega)]
        change J 45 _ [.int (nI 0)] h1 (n, 0, 0, fl)
        rw [show nI 0 = nI K by rw [hK0]]
        refine j_p (nx := 47) hJ dX3_complete_45 rfl rfl ?_
        refine j_c (nx := 48) hJ dX3_complete_47 rfl gk_iconst_0 ?_
        refine j_p (nx := 50) hJ dX3_complete_48 rfl rfl ?_
        exact loop 0 (Nat.zero_le _) h1 hS1 hF1.s (fun j hj => by omega)
      · refine j_p (nx := 38) hJ dX3_complete_37 rfl rfl ?_
        refine j_get (nx := 41) hJ dX3_complete_38 rfl fX3_69 (by repeat (first | assumption | exact gup_same _ _ _ | rw [gup_ne _ _ (by first | decide | assumption | omega)])) (by rfl) ?_
        refine j_go (tgt := 45) hJ dX3_complete_41 (by decide) ?_
        rw [Int32.le_iff_toInt_le, Int32.toInt_zero, nI_toInt (by omega)] at c34
        have hK0 : K = k := by rw [hK, if_pos (by omega)]
        rw [← hK0]
        refine j_p (nx := 47) hJ dX3_complete_45 rfl rfl ?_
        refine j_c (nx := 48) hJ dX3_complete_47 rfl gk_iconst_0 ?_
        refine j_p (nx := 50) hJ dX3_complete_48 rfl rfl ?_
        exact loop 0 (Nat.zero_le _) h1 hS1 hF1.s (fun j hj => by omega)
    · refine j_c (nx := 22) hJ dX3_complete_21 rfl gk_iconst_0 ?_
      rw [gb_f] at c18
      have c18 : ¬ gcb W ss mode c ll (m + 1 - ll) = true := by rw [c18]; decide
      exact j_zret hJ false dX3_complete_22 rfl ⟨by rw [gCo_s, if_neg c18]; rfl, by rw [gCo_s, if_neg c18]; exact hS1, hF1.s⟩
