theorem gby_len {i : Nat} (h : i < 5) : (gbyt.getD i []).length = glen.getD i 0 ∧ glen.getD i 0 ≤ 8 := by
  rcases (show i = 0 ∨ i = 1 ∨ i = 2 ∨ i = 3 ∨ i = 4 by omega) with rfl | rfl | rfl | rfl | rfl <;> decide
theorem glist_eq {a b : List Int32} (hl : a.length = b.length) (h : ∀ i, i < a.length → a.getD i (-1) = b.getD i 0) : a = b := by
  refine List.ext_getElem hl (fun i h1 h2 => ?_)
  have := h i h1
  rw [List.getD_eq_getElem?_getD, List.getElem?_eq_getElem h1, List.getD_eq_getElem?_getD, List.getElem?_eq_getElem h2] at this
  exact this
theorem gl_ne {a b : List Int32} {i : Nat} (h1 : i < a.length) (h : ¬ a.getD i (-1) = b.getD i 0) : a ≠ b := by
  intro e
  subst e
  refine h ?_
  rw [List.getD_eq_getElem?_getD, List.getElem?_eq_getElem h1, List.getD_eq_getElem?_getD, List.getElem?_eq_getElem h1]; rfl
def gtf (k1 : Int32) (inp l : List Int32) : Option (List Int32) :=
  if inp = gbyt.getD 0 [] then some l.reverse
  else if inp = gbyt.getD 1 [] then some (if 1 < k1 then l.map (fun y => if y = 0 then 1 else if y = 1 then 0 else y) else l)
  else if inp = gbyt.getD 2 [] then some (if 1 < l.length then l.dropLast else l)
  else if inp = gbyt.getD 3 [] then some (l.map (fun y => if 10 ≤ y ∧ y ≤ 13 then 10 else y))
  else if inp = gbyt.getD 4 [] then some (l.map (fun y => if 0 ≤ y ∧ y ≤ 9 then 10 else y))
  else none
def s_transform (R : Nat → List Int32) (N : Nat → Int32) (x : Int32) : Int32 × (Nat → List Int32) × (Nat → Int32) := if gbt x 6 = true then (match gtf (N 1) (R 73) (R (gr x)) with
  | some m => (nI (gcan m).length, gU (gU R (gr x) (gcan m)) 73 [], N)
  | none => (-5, gU R 73 [], N)) else (-2, gU R 73 [], N)
set_option maxHeartbeats 4000000 in
theorem r_inputIs {fl : Bool} {d : Nat} {h0 h : GH} {R : Nat → List Int32} {N : Nat → Int32} (hQ : gQ h0 h R N) {i : Nat} (hi : i < 5) : gR fl (d + 6) yX5_inputIs [.ref 0, .ref (1000000 + i)] h (.int (gb (decide (R 73 = (gbyt.getD i []))))) := by
  have q0 := hQ.1.1
  have q1 := hQ.1.2.1.1
  have q2 := hQ.1.2.1.2.1
  have q3 := hQ.1.2.1.2.2.1
  have q4 := hQ.1.2.1.2.2.2
  have q75 := hQ.1.2.2.2.1
  have q80 := hQ.1.2.2.2.2.2.1.1
  obtain ⟨_, _, _, _, _, _, q76x⟩ := id hQ.1.2.2.2.2.2.2.1
  have q76 := q76x.1
  have hI := hQ.r (r := 73) (by unfold gisR; omega)
  have hIr := hI.2.2.2.1
  have hI20 : (R 73).length ≤ 20 := hI.2.1
  obtain ⟨hb1, hb2⟩ := gby_len hi
  refine gN.of MX5_inputIs (Nat.le_of_ble_eq_true rfl) (fun J n hJ => ?_)
  show J 0 [some (.ref 0), some (.ref (1000000 + i)), none] [] h (n, 0, 0, fl)
  refine j_p (nx := 1) hJ dX5_inputIs_0 rfl rfl ?_
  refine j_get (nx := 4) hJ dX5_inputIs_1 rfl fX5_30 (by repeat (first | assumption | exact gup_same _ _ _ | rw [gup_ne _ _ (by first | decide | assumption | omega)])) (by rfl) ?_
  refine j_get (nx := 7) hJ dX5_inputIs_4 rfl fX5_68 (by repeat (first | assumption | exact gup_same _ _ _ | rw [gup_ne _ _ (by first | decide | assumption | omega)])) (by rfl) ?_
  refine j_p (nx := 8) hJ dX5_inputIs_7 rfl rfl ?_
  refine j_cvS (nx := 11) hJ dX5_inputIs_8 rfl (r_strlen (fl := fl) (d := d + 3) hi) mX5_99 hi rfl rfl (gle8 rfl) ?_
  refine j_ic_eq (nx := 14) (tgt := 16) hJ dX5_inputIs_11 rfl (by decide) (fun c11 => ?_) (fun c11 => ?_)
  · rw [gneq (by omega) (by omega)] at c11
    have loop : ∀ j, j ≤ glen.getD i 0 → (∀ x, x < j → (R 73).getD x (-1) = (gbyt.getD i []).getD x 0) → J 18 [some (.ref 0), some (.ref (1000000 + i)), some (.int (nI j))] [] h (n, 0, 0, fl) := by
      refine gloop _ _ (fun j hj ih hall => ?_)
      refine j_p (nx := 19) hJ dX5_inputIs_18 rfl rfl ?_
      refine j_p (nx := 20) hJ dX5_inputIs_19 rfl rfl ?_
      refine j_cvS (nx := 23) hJ dX5_inputIs_20 rfl (r_strlen (fl := fl) (d := d + 3) hi) mX5_99 hi rfl rfl (gle8 rfl) ?_
      refine j_ic_ge (nx := 26) (tgt := 50) hJ dX5_inputIs_23 rfl (by decide) (fun c23 => ?_) (fun c23 => ?_)
      · refine j_c (nx := 51) hJ dX5_inputIs_50 rfl gk_iconst_1 ?_
        rw [gnle (by omega) (by omega)] at c23
        have e : R 73 = (gbyt.getD i []) := glist_eq (by omega) (fun x hx => hall x (by omega))
        exact j_zret hJ (decide (R 73 = (gbyt.getD i []))) dX5_inputIs_51 (by rw [decide_eq_true e]; rfl) ⟨rfl, rfl⟩
      · rw [gnle (by omega) (by omega)] at c23
        have hjl : j < glen.getD i 0 := by omega
        refine j_p (nx := 27) hJ dX5_inputIs_26 rfl rfl ?_
        refine j_get (nx := 30) hJ dX5_inputIs_27 rfl fX5_30 (by repeat (first | assumption | exact gup_same _ _ _ | rw [gup_ne _ _ (by first | decide | assumption | omega)])) (by rfl) ?_
        refine j_p (nx := 31) hJ dX5_inputIs_30 rfl rfl ?_
        refine j_cvR (nx := 34) hJ dX5_inputIs_31 rfl (r_at (fl := fl) (d := d + 4) hI (nI j)) mX5_92 (by repeat (first | assumption | exact gup_same _ _ _ | rw [gup_ne _ _ (by first | decide | assumption | omega)])) kX2_at rfl (gle8 rfl) ?_
        rw [gat_nI (by omega)]
        refine j_p (nx := 35) hJ dX5_inputIs_34 rfl rfl ?_
        refine j_p (nx := 36) hJ dX5_inputIs_35 rfl rfl ?_
        refine j_cvS (nx := 39) hJ dX5_inputIs_36 rfl (r_charAt (fl := fl) (d := d + 1) hi hjl) mX5_104 hi rfl rfl (gle8 rfl) ?_
        refine j_ic_eq (nx := 42) (tgt := 44) hJ dX5_inputIs_39 rfl (by decide) (fun c39 => ?_) (fun c39 => ?_)
        · refine j_inc (nx := 47) hJ dX5_inputIs_44 rfl rfl (gi1 j) rfl ?_
          refine j_go (tgt := 18) hJ dX5_inputIs_47 (by decide) ?_
          refine ih hjl (fun x hx => ?_)
          by_cases e : x = j
          · subst e; exact c39
          · exact hall x (by omega)
        · refine j_c (nx := 43) hJ dX5_inputIs_42 rfl gk_iconst_0 ?_
          have e := gl_ne (b := (gbyt.getD i [])) (i := j) (a := R 73) (by omega) c39
          exact j_zret hJ (decide (R 73 = (gbyt.getD i []))) dX5_inputIs_43 (by rw [decide_eq_false e]; rfl) ⟨rfl, rfl⟩
    refine j_c (nx := 17) hJ dX5_inputIs_16 rfl gk_iconst_0 ?_
    refine j_p (nx := 18) hJ dX5_inputIs_17 rfl rfl ?_
    exact loop 0 (Nat.zero_le _) (fun x hx => by omega)
  · refine j_c (nx := 15) hJ dX5_inputIs_14 rfl gk_iconst_0 ?_
    rw [gneq (by omega) (by omega)] at c11
    exact j_zret hJ (decide (R 73 = (gbyt.getD i []))) dX5_inputIs_15 (by rw [decide_eq_false (fun q => c11 (by rw [q, hb1]))]; rfl) ⟨rfl, rfl⟩
set_option maxHeartbeats 4000000 in
theorem r_swapLetters {fl : Bool} {d : Nat} {h0 h : GH} {R : Nat → List Int32} {N : Nat → Int32} (hQ : gQ h0 h R N) {r : Nat} (hr : r < 6) : gN fl (d + 4) yX5_swapLetters [.ref 0, .ref (5 + 2 * r)] h (fun o h' => o = none ∧ gQ h0 h' (gU R (5 + 2 * r) (if 1 < N 1 then (R (5 + 2 * r)).map (fun y => if y = 0 then 1 else if y = 1 then 0 else y) else (R (5 + 2 * r)))) N) := by
  have q0 := hQ.1.1
  have q1 := hQ.1.2.1.1
  have q2 := hQ.1.2.1.2.1
  have q3 := hQ.1.2.1.2.2.1
  have q4 := hQ.1.2.1.2.2.2
  have q75 := hQ.1.2.2.2.1
  have q80 := hQ.1.2.2.2.2.2.1.1
  obtain ⟨_, _, _, _, _, _, q76x⟩ := id hQ.1.2.2.2.2.2.2.1
  have q76 := q76x.1
  have hR := hQ.r8 (r := 5 + 2 * r) (by unfold gisR; omega) (by omega) (by omega)
  have hRr := hR.2.2.2.1
  refine gN.of MX5_swapLetters (Nat.le_of_ble_eq_true rfl) (fun J n hJ => ?_)
  show J 0 [some (.ref 0), some (.ref (5 + 2 * r))] [] h (n, 0, 0, fl)
  refine j_p (nx := 1) hJ dX5_swapLetters_0 rfl rfl ?_
  refine j_get (nx := 4) hJ dX5_swapLetters_1 rfl fX5_12 (by repeat (first | assumption | exact gup_same _ _ _ | rw [gup_ne _ _ (by first | decide | assumption | omega)])) (by rfl) ?_
  refine j_get (nx := 7) hJ dX5_swapLetters_4 rfl fX5_61 (by repeat (first | assumption | exact gup_same _ _ _ | rw [gup_ne _ _ (by first | decide | assumption | omega)])) (by rfl) ?_
  refine j_c (nx := 8) hJ dX5_swapLetters_7 rfl gk_iconst_1 ?_
  refine j_ic_le (nx := 11) (tgt := 17) hJ dX5_swapLetters_8 rfl (by decide) (fun c8 => ?_) (fun c8 => ?_)
  · have c9 : ¬ 1 < N 1 := by rw [Int32.le_iff_toInt_le] at c8; rw [Int32.lt_iff_toInt_lt]; omega
    exact j_vret hJ dX5_swapLetters_17 ⟨rfl, by rw [if_neg c9]; exact hQ.rw (fun a => by unfold gU; split; (next q => rw [q]); rfl) (fun _ => rfl)⟩
  · refine j_p (nx := 12) hJ dX5_swapLetters_11 rfl rfl ?_
    refine j_c (nx := 13) hJ dX5_swapLetters_12 rfl gk_iconst_0 ?_
    refine j_c (nx := 14) hJ dX5_swapLetters_13 rfl gk_iconst_1 ?_
    refine j_cv (nx := 17) hJ dX5_swapLetters_14 rfl (r_exchange (fl := fl) (d := d) hR 0 1) mX5_184 (by repeat (first | assumption | exact gup_same _ _ _ | rw [gup_ne _ _ (by first | decide | assumption | omega)])) kX2_exchange rfl (gle8 rfl) (fun o h2 hp => ?_)
    obtain ⟨rfl, hR2, hF2⟩ := hp
    have hQ2 := hQ.row8 (r := 5 + 2 * r) (by unfold gisR; omega) (by omega) (by omega) hR2 hF2
    rw [Int32.le_iff_toInt_le] at c8
    have c9 : 1 < N 1 := by rw [Int32.lt_iff_toInt_lt]; omega
    exact j_vret hJ dX5_swapLetters_17 ⟨rfl, by rw [if_pos c9]; exact hQ2⟩
set_option maxHeartbeats 4000000 in
theorem r_dropLast {fl : Bool} {d : Nat} {h : GH} {r q cap : Nat} {l : List Int32} (hR : gRow h r q cap l) : gN fl (d + 2) yX5_dropLast [.ref r] h (fun o h' => o = none ∧ gRow h' r q cap (if 1 < l.length then l.dropLast else l) ∧ gFr r q h h') := by
  have hRr := hR.2.2.2.1
  have hc := hR.2.2.1
  have hl := hR.2.1
  refine gN.of MX5_dropLast (Nat.le_of_ble_eq_true rfl) (fun J n hJ => ?_)
  show J 0 [some (.ref r)] [] h (n, 0, 0, fl)
  refine j_p (nx := 1) hJ dX5_dropLast_0 rfl rfl ?_
  refine j_get (nx := 4) hJ dX5_dropLast_1 rfl fX5_68 (by repeat (first | assumption | exact gup_same _ _ _ | rw [gup_ne _ _ (by first | decide | assumption | omega)])) (by rfl) ?_
  refine j_c (nx := 5) hJ dX5_dropLast_4 rfl gk_iconst_1 ?_
  refine j_ic_le (nx := 8) (tgt := 12) hJ dX5_dropLast_5 rfl (by decide) (fun c5 => ?_) (fun c5 => ?_)
  · rw [show (1 : Int32) = nI 1 from rfl, gnle (by omega) (by omega)] at c5
    exact j_vret hJ dX5_dropLast_12 ⟨rfl, by rw [if_neg (by omega)]; exact hR, gFr.rf⟩
  · refine j_p (nx := 9) hJ dX5_dropLast_8 rfl rfl ?_
    refine j_cv (nx := 12) hJ dX5_dropLast_9 rfl (r_removeLast (fl := fl) (d := d) hR) mX5_188 (by repeat (first | assumption | exact gup_same _ _ _ | rw [gup_ne _ _ (by first | decide | assumption | omega)])) kX2_removeLast rfl (gle8 rfl) (fun o h2 hp => ?_)
    obtain ⟨rfl, hR2, hF2⟩ := hp
    rw [show (1 : Int32) = nI 1 from rfl, gnle (by omega) (by omega)] at c5
    exact j_vret hJ dX5_dropLast_12 ⟨rfl, by rw [if_pos (by omega)]; exact hR2, hF2⟩
set_option maxHeartbeats 4000000 in
theorem r_changeAsTold {fl : Bool} {d : Nat} {h0 h : GH} {R : Nat → List Int32} {N : Nat → Int32} (hQ : gQ h0 h R N) {r : Nat} (hr : r < 6) (hne : 1 ≤ (R (5 + 2 * r)).length) : gN fl (d + 7) yX5_changeAsTold [.ref 0, .int (nI r)] h (fun o h' => o = some (.int (match gtf (N 1) (R 73) (R (5 + 2 * r)) with | some m => nI (gcan m).length | none => -5)) ∧ gQ h0 h' (match gtf (N 1) (R 73) (R (5 + 2 * r)) with | some m => gU R (5 + 2 * r) (gcan m) | none => R) N) := by
  have q0 := hQ.1.1
  have q1 := hQ.1.2.1.1
  have q2 := hQ.1.2.1.2.1
  have q3 := hQ.1.2.1.2.2.1
  have q4 := hQ.1.2.1.2.2.2
  have q75 := hQ.1.2.2.2.1
  have q80 := hQ.1.2.2.2.2.2.1.1
  obtain ⟨_, _, _, _, _, _, q76x⟩ := id hQ.1.2.2.2.2.2.2.1
  have q76 := q76x.1
  refine gN.of MX5_changeAsTold (Nat.le_of_ble_eq_true rfl) (fun J n hJ => ?_)
  show J 0 [some (.ref 0), some (.int (nI r)), none] [] h (n, 0, 0, fl)
  refine j_p (nx := 1) hJ dX5_changeAsTold_0 rfl rfl ?_
  refine j_get (nx := 4) hJ dX5_changeAsTold_1 rfl fX5_12 (by repeat (first | assumption | exact gup_same _ _ _ | rw [gup_ne _ _ (by first | decide | assumption | omega)])) (by rfl) ?_
  refine j_get (nx := 7) hJ dX5_changeAsTold_4 rfl fX5_119 (by repeat (first | assumption | exact gup_same _ _ _ | rw [gup_ne _ _ (by first | decide | assumption | omega)])) (by rfl) ?_
  refine j_p (nx := 8) hJ dX5_changeAsTold_7 rfl rfl ?_
  refine j_aald (j := r) (nx := 9) hJ dX5_changeAsTold_8 rfl q2 rfl (by omega) (by decide) (by decide) rfl ?_
  have hR := hQ.r8 (r := 5 + 2 * r) (by unfold gisR; omega) (by omega) (by omega)
  have hRr := hR.2.2.2.1
  refine j_p (nx := 10) hJ dX5_changeAsTold_9 rfl rfl ?_
  refine j_p (nx := 11) hJ dX5_changeAsTold_10 rfl rfl ?_
  refine j_ldcS (nx := 13) (i := 0) (tx := "reverse") hJ dX5_changeAsTold_11 rfl (by decide +kernel) ?_
  refine j_cvR (nx := 16) hJ dX5_changeAsTold_13 rfl (r_inputIs (fl := fl) (d := d) hQ (i := 0) (by omega)) mX5_163 q0 kX5_inputIs rfl (gle8 rfl) ?_
  refine j_if_eq (nx := 19) (tgt := 26) hJ dX5_changeAsTold_16 rfl (by decide) (fun c16 => ?_) (fun c16 => ?_)
  · refine j_p (nx := 27) hJ dX5_changeAsTold_26 rfl rfl ?_
    refine j_ldcS (nx := 29) (i := 1) (tx := "swap") hJ dX5_changeAsTold_27 rfl (by decide +kernel) ?_
    refine j_cvR (nx := 32) hJ dX5_changeAsTold_29 rfl (r_inputIs (fl := fl) (d := d) hQ (i := 1) (by omega)) mX5_163 q0 kX5_inputIs rfl (gle8 rfl) ?_
    refine j_if_eq (nx := 35) (tgt := 43) hJ dX5_changeAsTold_32 rfl (by decide) (fun c32 => ?_) (fun c32 => ?_)
    · refine j_p (nx := 44) hJ dX5_changeAsTold_43 rfl rfl ?_
      refine j_ldcS (nx := 46) (i := 2) (tx := "drop") hJ dX5_changeAsTold_44 rfl (by decide +kernel) ?_
      refine j_cvR (nx := 49) hJ dX5_changeAsTold_46 rfl (r_inputIs (fl := fl) (d := d) hQ (i := 2) (by omega)) mX5_163 q0 kX5_inputIs rfl (gle8 rfl) ?_
      refine j_if_eq (nx := 52) (tgt := 59) hJ dX5_changeAsTold_49 rfl (by decide) (fun c49 => ?_) (fun c49 => ?_)
      · refine j_p (nx := 60) hJ dX5_changeAsTold_59 rfl rfl ?_
        refine j_ldcS (nx := 62) (i := 3) (tx := "collapse") hJ dX5_changeAsTold_60 rfl (by decide +kernel) ?_
        refine j_cvR (nx := 65) hJ dX5_changeAsTold_62 rfl (r_inputIs (fl := fl) (d := d) hQ (i := 3) (by omega)) mX5_163 q0 kX5_inputIs rfl (gle8 rfl) ?_
        refine j_if_eq (nx := 68) (tgt := 81) hJ dX5_changeAsTold_65 rfl (by decide) (fun c65 => ?_) (fun c65 => ?_)
        · refine j_p (nx := 82) hJ dX5_changeAsTold_81 rfl rfl ?_
          refine j_ldcS (nx := 84) (i := 4) (tx := "forget") hJ dX5_changeAsTold_82 rfl (by decide +kernel) ?_
          refine j_cvR (nx := 87) hJ dX5_changeAsTold_84 rfl (r_inputIs (fl := fl) (d := d) hQ (i := 4) (by omega)) mX5_163 q0 kX5_inputIs rfl (gle8 rfl) ?_
          refine j_if_eq (nx := 90) (tgt := 102) hJ dX5_changeAsTold_87 rfl (by decide) (fun c87 => ?_) (fun c87 => ?_)
          · refine j_c (nx := 104) hJ dX5_changeAsTold_102 rfl gk_bipush_m5 ?_
            rw [gb_f] at c16
            rw [gb_f] at c32
            rw [gb_f] at c49
            rw [gb_f] at c65
            rw [gb_f] at c87
            replace c16 := of_decide_eq_false c16
            replace c32 := of_decide_eq_false c32
            replace c49 := of_decide_eq_false c49
            replace c65 := of_decide_eq_false c65
            replace c87 := of_decide_eq_false c87
            have e : gtf (N 1) (R 73) (R (5 + 2 * r)) = none := by unfold gtf; rw [if_neg c16, if_neg c32, if_neg c49, if_neg c65, if_neg c87]
            exact j_iret hJ dX5_changeAsTold_104 ⟨by rw [e], by rw [e]; exact hQ⟩
          · refine j_p (nx := 91) hJ dX5_changeAsTold_90 rfl rfl ?_
            refine j_c (nx := 92) hJ dX5_changeAsTold_91 rfl gk_iconst_0 ?_
            refine j_c (nx := 94) hJ dX5_changeAsTold_92 rfl gk_bipush_9 ?_
            refine j_c (nx := 96) hJ dX5_changeAsTold_94 rfl gk_bipush_10 ?_
            refine j_cv (nx := 99) hJ dX5_changeAsTold_96 rfl (r_putForCodes (fl := fl) (d := d + 3) hR 0 9 10) mX5_154 (by repeat (first | assumption | exact gup_same _ _ _ | rw [gup_ne _ _ (by first | decide | assumption | omega)])) kX2_putForCodes rfl (gle8 rfl) (fun o h2 hp => ?_)
            obtain ⟨rfl, hR2, hF2⟩ := hp
            have hQ2 := hQ.row8 (r := 5 + 2 * r) (by unfold gisR; omega) (by omega) (by omega) hR2 hF2
            have hR2r := hR2.2.2.2.1
            rw [gb_f] at c16
            rw [gb_f] at c32
            rw [gb_f] at c49
            rw [gb_f] at c65
            replace c16 := of_decide_eq_false c16
            replace c32 := of_decide_eq_false c32
            replace c49 := of_decide_eq_false c49
            replace c65 := of_decide_eq_false c65
            rw [gb_t] at c87
            replace c87 := of_decide_eq_true c87
            have e : gtf (N 1) (R 73) (R (5 + 2 * r)) = some ((R (5 + 2 * r)).map (fun y => if 0 ≤ y ∧ y ≤ 9 then 10 else y)) := by unfold gtf; rw [if_neg c16, if_neg c32, if_neg c49, if_neg c65, if_pos c87]
            refine j_go (tgt := 105) hJ dX5_changeAsTold_99 (by decide) ?_
            refine j_p (nx := 106) hJ dX5_changeAsTold_105 rfl rfl ?_
            refine j_cv (nx := 109) hJ dX5_changeAsTold_106 rfl (r_makeCanonical (fl := fl) (d := d + 2) hR2) mX5_89 (by repeat (first | assumption | exact gup_same _ _ _ | rw [gup_ne _ _ (by first | decide | assumption | omega)])) kX2_makeCanonical rfl (gle8 rfl) (fun o h3 hp => ?_)
            obtain ⟨rfl, hR3, hF3⟩ := hp
            have hQ3 := hQ2.row8 (r := 5 + 2 * r) (by unfold gisR; omega) (by omega) (by omega) hR3 hF3
            have hR3r := hR3.2.2.2.1
            refine j_p (nx := 110) hJ dX5_changeAsTold_109 rfl rfl ?_
            refine j_get (nx := 113) hJ dX5_changeAsTold_110 rfl fX5_68 hR3r (by rfl) ?_
            exact j_iret hJ dX5_changeAsTold_113 ⟨by rw [e], by rw [e]; exact hQ3.rw (fun a => by simp only [gU]; split; rfl; rfl) (fun _ => rfl)⟩
        · refine j_p (nx := 69) hJ dX5_changeAsTold_68 rfl rfl ?_
          refine j_c (nx := 71) hJ dX5_changeAsTold_69 rfl gk_bipush_10 ?_
          refine j_c (nx := 73) hJ dX5_changeAsTold_71 rfl gk_bipush_13 ?_
          refine j_c (nx := 75) hJ dX5_changeAsTold_73 rfl gk_bipush_10 ?_
          refine j_cv (nx := 78) hJ dX5_changeAsTold_75 rfl (r_putForCodes (fl := fl) (d := d + 3) hR 10 13 10) mX5_154 (by repeat (first | assumption | exact gup_same _ _ _ | rw [gup_ne _ _ (by first | decide | assumption | omega)])) kX2_putForCodes rfl (gle8 rfl) (fun o h2 hp => ?_)
          obtain ⟨rfl, hR2, hF2⟩ := hp
          have hQ2 := hQ.row8 (r := 5 + 2 * r) (by unfold gisR; omega) (by omega) (by omega) hR2 hF2
          have hR2r := hR2.2.2.2.1
          rw [gb_f] at c16
          rw [gb_f] at c32
          rw [gb_f] at c49
          replace c16 := of_decide_eq_false c16
          replace c32 := of_decide_eq_false c32
          replace c49 := of_decide_eq_false c49
          rw [gb_t] at c65
          replace c65 := of_decide_eq_true c65
          have e : gtf (N 1) (R 73) (R (5 + 2 * r)) = some ((R (5 + 2 * r)).map (fun y => if 10 ≤ y ∧ y ≤ 13 then 10 else y)) := by unfold gtf; rw [if_neg c16, if_neg c32, if_neg c49, if_pos c65]
          refine j_go (tgt := 105) hJ dX5_changeAsTold_78 (by decide) ?_
          refine j_p (nx := 106) hJ dX5_changeAsTold_105 rfl rfl ?_
          refine j_cv (nx := 109) hJ dX5_changeAsTold_106 rfl (r_makeCanonical (fl := fl) (d := d + 2) hR2) mX5_89 (by repeat (first | assumption | exact gup_same _ _ _ | rw [gup_ne _ _ (by first | decide | assumption | omega)])) kX2_makeCanonical rfl (gle8 rfl) (fun o h3 hp => ?_)
          obtain ⟨rfl, hR3, hF3⟩ := hp
          have hQ3 := hQ2.row8 (r := 5 + 2 * r) (by unfold gisR; omega) (by omega) (by omega) hR3 hF3
          have hR3r := hR3.2.2.2.1
          refine j_p (nx := 110) hJ dX5_changeAsTold_109 rfl rfl ?_
          refine j_get (nx := 113) hJ dX5_changeAsTold_110 rfl fX5_68 hR3r (by rfl) ?_
          exact j_iret hJ dX5_changeAsTold_113 ⟨by rw [e], by rw [e]; exact hQ3.rw (fun a => by simp only [gU]; split; rfl; rfl) (fun _ => rfl)⟩
      · refine j_p (nx := 53) hJ dX5_changeAsTold_52 rfl rfl ?_
        refine j_cs (nx := 56) hJ dX5_changeAsTold_53 rfl (r_dropLast (fl := fl) (d := d + 4) hR) mX5_177 rfl (gle8 rfl) (fun o h2 hp => ?_)
        obtain ⟨rfl, hR2, hF2⟩ := hp
        have hQ2 := hQ.row8 (r := 5 + 2 * r) (by unfold gisR; omega) (by omega) (by omega) hR2 hF2
        have hR2r := hR2.2.2.2.1
        rw [gb_f] at c16
        rw [gb_f] at c32
        replace c16 := of_decide_eq_false c16
        replace c32 := of_decide_eq_false c32
        rw [gb_t] at c49
        replace c49 := of_decide_eq_true c49
        have e : gtf (N 1) (R 73) (R (5 + 2 * r)) = some (if 1 < (R (5 + 2 * r)).length then (R (5 + 2 * r)).dropLast else (R (5 + 2 * r))) := by unfold gtf; rw [if_neg c16, if_neg c32, if_pos c49]
        refine j_go (tgt := 105) hJ dX5_changeAsTold_56 (by decide) ?_
        refine j_p (nx := 106) hJ dX5_changeAsTold_105 rfl rfl ?_
        refine j_cv (nx := 109) hJ dX5_changeAsTold_106 rfl (r_makeCanonical (fl := fl) (d := d + 2) hR2) mX5_89 (by repeat (first | assumption | exact gup_same _ _ _ | rw [gup_ne _ _ (by first | decide | assumption | omega)])) kX2_makeCanonical rfl (gle8 rfl) (fun o h3 hp => ?_)
        obtain ⟨rfl, hR3, hF3⟩ := hp
        have hQ3 := hQ2.row8 (r := 5 + 2 * r) (by unfold gisR; omega) (by omega) (by omega) hR3 hF3
        have hR3r := hR3.2.2.2.1
        refine j_p (nx := 110) hJ dX5_changeAsTold_109 rfl rfl ?_
        refine j_get (nx := 113) hJ dX5_changeAsTold_110 rfl fX5_68 hR3r (by rfl) ?_
        exact j_iret hJ dX5_changeAsTold_113 ⟨by rw [e], by rw [e]; exact hQ3.rw (fun a => by simp only [gU]; split; rfl; rfl) (fun _ => rfl)⟩
    · refine j_p (nx := 36) hJ dX5_changeAsTold_35 rfl rfl ?_
      refine j_p (nx := 37) hJ dX5_changeAsTold_36 rfl rfl ?_
      refine j_cv (nx := 40) hJ dX5_changeAsTold_37 rfl (r_swapLetters (fl := fl) (d := d + 2) hQ hr) mX5_172 (by repeat (first | assumption | exact gup_same _ _ _ | rw [gup_ne _ _ (by first | decide | assumption | omega)])) kX5_swapLetters rfl (gle8 rfl) (fun o h2 hp => ?_)
      obtain ⟨rfl, hQ2⟩ := hp
      have hR2 := hQ2.r8 (r := 5 + 2 * r) (by unfold gisR; omega) (by omega) (by omega)
      rw [gU_s] at hR2
      have hR2r := hR2.2.2.2.1
      rw [gb_f] at c16
      replace c16 := of_decide_eq_false c16
      rw [gb_t] at c32
      replace c32 := of_decide_eq_true c32
      have e : gtf (N 1) (R 73) (R (5 + 2 * r)) = some (if 1 < N 1 then (R (5 + 2 * r)).map (fun y => if y = 0 then 1 else if y = 1 then 0 else y) else (R (5 + 2 * r))) := by unfold gtf; rw [if_neg c16, if_pos c32]
      refine j_go (tgt := 105) hJ dX5_changeAsTold_40 (by decide) ?_
      refine j_p (nx := 106) hJ dX5_changeAsTold_105 rfl rfl ?_
      refine j_cv (nx := 109) hJ dX5_changeAsTold_106 rfl (r_makeCanonical (fl := fl) (d := d + 2) hR2) mX5_89 (by repeat (first | assumption | exact gup_same _ _ _ | rw [gup_ne _ _ (by first | decide | assumption | omega)])) kX2_makeCanonical rfl (gle8 rfl) (fun o h3 hp => ?_)
      obtain ⟨rfl, hR3, hF3⟩ := hp
      have hQ3 := hQ2.row8 (r := 5 + 2 * r) (by unfold gisR; omega) (by omega) (by omega) hR3 hF3
      have hR3r := hR3.2.2.2.1
      refine j_p (nx := 110) hJ dX5_changeAsTold_109 rfl rfl ?_
      refine j_get (nx := 113) hJ dX5_changeAsTold_110 rfl fX5_68 hR3r (by rfl) ?_
      exact j_iret hJ dX5_changeAsTold_113 ⟨by rw [e], by rw [e]; exact hQ3.rw (fun a => by simp only [gU]; split; rfl; rfl) (fun _ => rfl)⟩
  · refine j_p (nx := 20) hJ dX5_changeAsTold_19 rfl rfl ?_
    refine j_cv (nx := 23) hJ dX5_changeAsTold_20 rfl (r_turnAround (fl := fl) (d := d + 3) hR hne) mX5_167 (by repeat (first | assumption | exact gup_same _ _ _ | rw [gup_ne _ _ (by first | decide | assumption | omega)])) kX2_turnAround rfl (gle8 rfl) (fun o h2 hp => ?_)
    obtain ⟨rfl, hR2, hF2⟩ := hp
    have hQ2 := hQ.row8 (r := 5 + 2 * r) (by unfold gisR; omega) (by omega) (by omega) hR2 hF2
    have hR2r := hR2.2.2.2.1
    rw [gb_t] at c16
    replace c16 := of_decide_eq_true c16
    have e : gtf (N 1) (R 73) (R (5 + 2 * r)) = some ((R (5 + 2 * r)).reverse) := by unfold gtf; rw [if_pos c16]
    refine j_go (tgt := 105) hJ dX5_changeAsTold_23 (by decide) ?_
    refine j_p (nx := 106) hJ dX5_changeAsTold_105 rfl rfl ?_
    refine j_cv (nx := 109) hJ dX5_changeAsTold_106 rfl (r_makeCanonical (fl := fl) (d := d + 2) hR2) mX5_89 (by repeat (first | assumption | exact gup_same _ _ _ | rw [gup_ne _ _ (by first | decide | assumption | omega)])) kX2_makeCanonical rfl (gle8 rfl) (fun o h3 hp => ?_)
    obtain ⟨rfl, hR3, hF3⟩ := hp
    have hQ3 := hQ2.row8 (r := 5 + 2 * r) (by unfold gisR; omega) (by omega) (by omega) hR3 hF3
    have hR3r := hR3.2.2.2.1
    refine j_p (nx := 110) hJ dX5_changeAsTold_109 rfl rfl ?_
    refine j_get (nx := 113) hJ dX5_changeAsTold_110 rfl fX5_68 hR3r (by rfl) ?_
    exact j_iret hJ dX5_changeAsTold_113 ⟨by rw [e], by rw [e]; exact hQ3.rw (fun a => by simp only [gU]; split; rfl; rfl) (fun _ => rfl)⟩
set_option maxHeartbeats 4000000 in
theorem r_transform {fl : Bool} {d : Nat} {h0 h : GH} {R : Nat → List Int32} {N : Nat → Int32} (hQ : gQ h0 h R N) (hne : ∀ r, r < 6 → 1 ≤ (R (5 + 2 * r)).length) (x : Int32) : gN fl (d + 60) yX5_transform [.ref 0, .int x] h (fun o h' => o = some (.int (s_transform R N x).1) ∧ gC h0 h' (s_transform R N x).2.1 (s_transform R N x).2.2) := by
  have q0 := hQ.1.1
  have q1 := hQ.1.2.1.1
  have q2 := hQ.1.2.1.2.1
  have q3 := hQ.1.2.1.2.2.1
  have q4 := hQ.1.2.1.2.2.2
  have q75 := hQ.1.2.2.2.1
  have q80 := hQ.1.2.2.2.2.2.1.1
  obtain ⟨_, _, _, _, _, _, q76x⟩ := id hQ.1.2.2.2.2.2.2.1
  have q76 := q76x.1
  have hI := hQ.r (r := 73) (by unfold gisR; omega)
  have hIr := hI.2.2.2.1
  refine gN.of MX5_transform (Nat.le_of_ble_eq_true rfl) (fun J n hJ => ?_)
  show J 0 [some (.ref 0), some (.int x), none] [] h (n, 0, 0, fl)
  by_cases hx : gbt x 6 = true
  · obtain ⟨r, rfl, hr⟩ := gbt_spec hx
    have egr := gr_nI (r := r) (by omega)
    refine j_p (nx := 1) hJ dX5_transform_0 rfl rfl ?_
    refine j_csR (nx := 4) hJ dX5_transform_1 rfl (r_isRegister (fl := fl) (d := d + 58) _) mX5_112 rfl (gle8 rfl) ?_
    rw [show gbt _ 6 = true from hx]
    refine j_if_eq (nx := 7) (tgt := 15) hJ dX5_transform_4 rfl (by decide) (fun c4 => absurd c4 (by decide)) (fun c4 => ?_)
    refine j_p (nx := 8) hJ dX5_transform_7 rfl rfl ?_
    refine j_p (nx := 9) hJ dX5_transform_8 rfl rfl ?_
    refine j_cv (nx := 12) hJ dX5_transform_9 rfl (r_changeAsTold (fl := fl) (d := d + 52) hQ hr (hne r hr)) mX5_158 (by repeat (first | assumption | exact gup_same _ _ _ | rw [gup_ne _ _ (by first | decide | assumption | omega)])) kX5_changeAsTold rfl (gle8 rfl) (fun o h1 hp => ?_)
    obtain ⟨rfl, hQ1⟩ := hp
    have q01 := hQ1.1.1
    have hI1 := hQ1.r (r := 73) (by unfold gisR; omega)
    have hI1r := hI1.2.2.2.1
    refine j_go (tgt := 17) hJ dX5_transform_12 (by decide) ?_
    refine j_p (nx := 18) hJ dX5_transform_17 rfl rfl ?_
    refine j_p (nx := 19) hJ dX5_transform_18 rfl rfl ?_
    refine j_get (nx := 22) hJ dX5_transform_19 rfl fX5_30 (by repeat (first | assumption | exact gup_same _ _ _ | rw [gup_ne _ _ (by first | decide | assumption | omega)])) (by rfl) ?_
    refine j_cv (nx := 25) hJ dX5_transform_22 rfl (r_clear (fl := fl) (d := d + 58) hI1) mX5_75 (by repeat (first | assumption | exact gup_same _ _ _ | rw [gup_ne _ _ (by first | decide | assumption | omega)])) kX2_clear rfl (gle8 rfl) (fun o h2 hp => ?_)
    obtain ⟨rfl, hR2, hF2⟩ := hp
    have hQ2 := hQ1.row (r := 73) (by unfold gisR; omega) hR2 hF2
    refine j_p (nx := 26) hJ dX5_transform_25 rfl rfl ?_
    have e : s_transform R N (nI r) = match gtf (N 1) (R 73) (R (5 + 2 * r)) with | some m => (nI (gcan m).length, gU (gU R (5 + 2 * r) (gcan m)) 73 [], N) | none => (-5, gU R 73 [], N) := by unfold s_transform; rw [if_pos hx, egr]
    cases hg : gtf (N 1) (R 73) (R (5 + 2 * r)) with
    | none =>
      rw [hg] at e hQ2
      exact j_iret hJ dX5_transform_26 ⟨by rw [e], by rw [e]; exact hQ2.c⟩
    | some l =>
      rw [hg] at e hQ2
      exact j_iret hJ dX5_transform_26 ⟨by rw [e], by rw [e]; exact hQ2.c⟩
  · refine j_p (nx := 1) hJ dX5_transform_0 rfl rfl ?_
    refine j_csR (nx := 4) hJ dX5_transform_1 rfl (r_isRegister (fl := fl) (d := d + 58) _) mX5_112 rfl (gle8 rfl) ?_
    rw [show gbt _ 6 = false from Bool.eq_false_iff.mpr hx]
    refine j_if_eq (nx := 7) (tgt := 15) hJ dX5_transform_4 rfl (by decide) (fun c4 => ?_) (fun c4 => absurd c4 (by decide))
    refine j_c (nx := 17) hJ dX5_transform_15 rfl gk_bipush_m2 ?_
    refine j_p (nx := 18) hJ dX5_transform_17 rfl rfl ?_
    refine j_p (nx := 19) hJ dX5_transform_18 rfl rfl ?_
    refine j_get (nx := 22) hJ dX5_transform_19 rfl fX5_30 (by repeat (first | assumption | exact gup_same _ _ _ | rw [gup_ne _ _ (by first | decide | assumption | omega)])) (by rfl) ?_
    refine j_cv (nx := 25) hJ dX5_transform_22 rfl (r_clear (fl := fl) (d := d + 58) hI) mX5_75 (by repeat (first | assumption | exact gup_same _ _ _ | rw [gup_ne _ _ (by first | decide | assumption | omega)])) kX2_clear rfl (gle8 rfl) (fun o h2 hp => ?_)
    obtain ⟨rfl, hR2, hF2⟩ := hp
    have hQ2 := hQ.row (r := 73) (by unfold gisR; omega) hR2 hF2
    refine j_p (nx := 26) hJ dX5_transform_25 rfl rfl ?_
    have e : s_transform R N x = (-2, gU R 73 [], N) := if_neg hx
    exact j_iret hJ dX5_transform_26 ⟨by rw [e], by rw [e]; exact hQ2.c⟩
