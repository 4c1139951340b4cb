theorem gP.uu {h0 h : GH} {A : Nat → Nat → Int32} {E : Nat → Nat → Int64} {M : Nat → Int32} {pv tv : Value} {a : Nat} {f g : Nat → Int32} (hP : gP h0 h (gU (gU A a f) a g) E M pv tv) : gP h0 h (gU A a g) E M pv tv := hP.rw (fun x => by simp only [gU]; split <;> rfl) (fun _ => rfl) (fun _ => rfl)
def gtk (p : Bool) (k : Int32) (l : List Int32) : Bool := decide (l.length ≤ 8 ∧ (p = true → 0 < l.length) ∧ ∀ c ∈ l, 0 ≤ gcode k c ∧ (p = true ∨ gcode k c < 10))
theorem gU_self {α : Type} (A : Nat → α) (a : Nat) : ∀ x, A x = gU A a (A a) x := fun x => by unfold gU; split; (next q => rw [q]); rfl
theorem gst_up {f : Nat → Int32} {o i : Nat} {l : List Int32} {c : Int32} (h : gSt f o l) (hi : i = l.length) : gSt (upd f (o + i) c) o (l ++ [c]) := by
  subst hi
  intro j v hv
  have hj := (List.getElem?_eq_some_iff.mp hv).1
  simp only [List.length_append, List.length_cons, List.length_nil] at hj
  unfold upd
  by_cases e : j = l.length
  · subst e
    rw [if_pos rfl]
    rw [List.getElem?_append_right (by omega), Nat.sub_self] at hv
    cases hv; rfl
  · rw [if_neg (by omega)]
    rw [List.getElem?_append_left (by omega)] at hv
    exact h j v hv
set_option maxHeartbeats 4000000 in
theorem r6_takeInput {d : Nat} {h0 h : GH} {A : Nat → Nat → Int32} {E : Nat → Nat → Int64} {M : Nat → Int32} {pv tv : Value} (hP : gP h0 h A E M pv tv) {R : Nat → List Int32} {N : Nat → Int32} (hG : gG A E M R N) {k : Nat} (hk : M 0 = nI k) (hk3 : k ≤ 3) (p : Bool) : gN false (d + 3) yX6_takeInput [.ref 99, .int (gb p)] h (fun o h' => o = some (.int (gb (gtk p (M 0) (R 73)))) ∧ ∃ f, gP h0 h' (gU A 107 f) E (gU (gU M 11 (nI (R 73).length)) 9 0) pv tv ∧ (gtk p (M 0) (R 73) = true → gSt f 0 ((R 73).map (gcode (M 0))))) := by
  have g0 := hG.1.1
  have g9 := hG.1.2.2.1
  have g20 := hG.1.2.2.2.2.1
  have g106 := hG.1.2.2.2.2.2
  refine gN.of MX6_takeInput (Nat.le_of_ble_eq_true rfl) (fun J n hJ => ?_)
  show J 0 [some (.ref 99), some (.int (gb p)), none, none] [] h (n, 0, 0, false)
  have dead : gtk p (M 0) (R 73) = false → ∀ (i : Nat) (h1 : GH) (f : Nat → Int32), gP h0 h1 (gU A 107 f) E M pv tv → J 28 [some (.ref 99), some (.int (gb p)), some (.int 0), some (.int (nI i))] [] h1 (n, 0, 0, false) := by
    intro e i h1 f hP1
    refine j_p (nx := 29) hJ dX6_takeInput_28 rfl rfl ?_
    refine j_p (nx := 30) hJ dX6_takeInput_29 rfl rfl ?_
    refine j_get (nx := 33) hJ dX6_takeInput_30 rfl fX6_105 hP1.1.1 (by rfl) ?_
    rw [g9]
    refine j_ic_ge (nx := 36) (tgt := 92) hJ dX6_takeInput_33 rfl (by decide) (fun c33 => ?_) (fun c33 => ?_)
    · refine j_p (nx := 93) hJ dX6_takeInput_92 rfl rfl ?_
      refine j_p (nx := 94) hJ dX6_takeInput_93 rfl rfl ?_
      refine j_get (nx := 97) hJ dX6_takeInput_94 rfl fX6_105 hP1.1.1 (by rfl) ?_
      rw [g9]
      refine j_put (nx := 100) hJ dX6_takeInput_97 rfl fX6_112 (zX6_11 _) hP1.1.1 (Nat.le_of_ble_eq_true rfl) ?_
      change J 100 _ _ (gup h1 99 (gO (gU M 11 (nI (R 73).length)) pv tv)) _
      have hP8 := hP1.fld (gU M 11 (nI (R 73).length)) pv tv
      refine j_p (nx := 101) hJ dX6_takeInput_100 rfl rfl ?_
      refine j_c (nx := 102) hJ dX6_takeInput_101 rfl gk_iconst_0 ?_
      refine j_put (nx := 105) hJ dX6_takeInput_102 rfl fX6_105 (zX6_9 _) hP8.1.1 (Nat.le_of_ble_eq_true rfl) ?_
      change J 105 _ _ (gup _ 99 (gO (gU (gU M 11 (nI (R 73).length)) 9 (0)) pv tv)) _
      have hP9 := hP8.fld (gU (gU M 11 (nI (R 73).length)) 9 (0)) pv tv
      refine j_p (nx := 106) hJ dX6_takeInput_105 rfl rfl ?_
      exact j_zret hJ false dX6_takeInput_106 rfl ⟨by rw [e], _, hP9, fun q => absurd q (by rw [e]; decide)⟩
    · refine j_p (nx := 37) hJ dX6_takeInput_36 rfl rfl ?_
      refine j_if_eq (nx := 40) (tgt := 92) hJ dX6_takeInput_37 rfl (by decide) (fun c37 => ?_) (fun c37 => absurd c37 (by decide))
      refine j_p (nx := 93) hJ dX6_takeInput_92 rfl rfl ?_
      refine j_p (nx := 94) hJ dX6_takeInput_93 rfl rfl ?_
      refine j_get (nx := 97) hJ dX6_takeInput_94 rfl fX6_105 hP1.1.1 (by rfl) ?_
      rw [g9]
      refine j_put (nx := 100) hJ dX6_takeInput_97 rfl fX6_112 (zX6_11 _) hP1.1.1 (Nat.le_of_ble_eq_true rfl) ?_
      change J 100 _ _ (gup h1 99 (gO (gU M 11 (nI (R 73).length)) pv tv)) _
      have hP8 := hP1.fld (gU M 11 (nI (R 73).length)) pv tv
      refine j_p (nx := 101) hJ dX6_takeInput_100 rfl rfl ?_
      refine j_c (nx := 102) hJ dX6_takeInput_101 rfl gk_iconst_0 ?_
      refine j_put (nx := 105) hJ dX6_takeInput_102 rfl fX6_105 (zX6_9 _) hP8.1.1 (Nat.le_of_ble_eq_true rfl) ?_
      change J 105 _ _ (gup _ 99 (gO (gU (gU M 11 (nI (R 73).length)) 9 (0)) pv tv)) _
      have hP9 := hP8.fld (gU (gU M 11 (nI (R 73).length)) 9 (0)) pv tv
      refine j_p (nx := 106) hJ dX6_takeInput_105 rfl rfl ?_
      exact j_zret hJ false dX6_takeInput_106 rfl ⟨by rw [e], _, hP9, fun q => absurd q (by rw [e]; decide)⟩
  have loop : (R 73).length ≤ 8 → (p = true → 0 < (R 73).length) → ∀ i, i ≤ (R 73).length → ∀ (h1 : GH) (f : Nat → Int32), gP h0 h1 (gU A 107 f) E M pv tv → gSt f 0 (((R 73).take i).map (gcode (M 0))) → (∀ j, j < i → 0 ≤ gcode (M 0) ((R 73).getD j (-1)) ∧ (p = true ∨ gcode (M 0) ((R 73).getD j (-1)) < 10)) → J 28 [some (.ref 99), some (.int (gb p)), some (.int 1), some (.int (nI i))] [] h1 (n, 0, 0, false) := by
    intro hl8 hlp
    refine gloop _ _ (fun i hi ih h1 f hP1 hf hgd => ?_)
    refine j_p (nx := 29) hJ dX6_takeInput_28 rfl rfl ?_
    refine j_p (nx := 30) hJ dX6_takeInput_29 rfl rfl ?_
    refine j_get (nx := 33) hJ dX6_takeInput_30 rfl fX6_105 hP1.1.1 (by rfl) ?_
    rw [g9]
    refine j_ic_ge (nx := 36) (tgt := 92) hJ dX6_takeInput_33 rfl (by decide) (fun c33 => ?_) (fun c33 => ?_)
    · rw [gnle (by omega) (by omega)] at c33
      have e0 : i = (R 73).length := by omega
      subst e0
      rw [List.take_length] at hf
      have e : gtk p (M 0) (R 73) = true := decide_eq_true ⟨hl8, hlp, gallD (fun j hj => hgd j hj)⟩
      refine j_p (nx := 93) hJ dX6_takeInput_92 rfl rfl ?_
      refine j_p (nx := 94) hJ dX6_takeInput_93 rfl rfl ?_
      refine j_get (nx := 97) hJ dX6_takeInput_94 rfl fX6_105 hP1.1.1 (by rfl) ?_
      rw [g9]
      refine j_put (nx := 100) hJ dX6_takeInput_97 rfl fX6_112 (zX6_11 _) hP1.1.1 (Nat.le_of_ble_eq_true rfl) ?_
      change J 100 _ _ (gup h1 99 (gO (gU M 11 (nI (R 73).length)) pv tv)) _
      have hP8 := hP1.fld (gU M 11 (nI (R 73).length)) pv tv
      refine j_p (nx := 101) hJ dX6_takeInput_100 rfl rfl ?_
      refine j_c (nx := 102) hJ dX6_takeInput_101 rfl gk_iconst_0 ?_
      refine j_put (nx := 105) hJ dX6_takeInput_102 rfl fX6_105 (zX6_9 _) hP8.1.1 (Nat.le_of_ble_eq_true rfl) ?_
      change J 105 _ _ (gup _ 99 (gO (gU (gU M 11 (nI (R 73).length)) 9 (0)) pv tv)) _
      have hP9 := hP8.fld (gU (gU M 11 (nI (R 73).length)) 9 (0)) pv tv
      refine j_p (nx := 106) hJ dX6_takeInput_105 rfl rfl ?_
      exact j_zret hJ true dX6_takeInput_106 rfl ⟨by rw [e], _, hP9, fun q => hf⟩
    · refine j_p (nx := 37) hJ dX6_takeInput_36 rfl rfl ?_
      refine j_if_eq (nx := 40) (tgt := 92) hJ dX6_takeInput_37 rfl (by decide) (fun c37 => absurd c37 (by decide)) (fun c37 => ?_)
      rw [gnle (by omega) (by omega)] at c33
      have hil : i < (R 73).length := by omega
      have hg9 := g106.get hil
      rw [Nat.zero_add] at hg9
      refine j_p (nx := 41) hJ dX6_takeInput_40 rfl rfl ?_
      refine j_get (nx := 44) hJ dX6_takeInput_41 rfl fX6_37 hP1.1.1 (by rfl) ?_
      refine j_p (nx := 45) hJ dX6_takeInput_44 rfl rfl ?_
      refine j_p (nx := 46) hJ dX6_takeInput_45 rfl rfl ?_
      refine j_p (nx := 47) hJ dX6_takeInput_46 rfl rfl ?_
      refine j_get (nx := 50) hJ dX6_takeInput_47 rfl fX6_34 hP1.1.1 (by rfl) ?_
      refine j_p (nx := 51) hJ dX6_takeInput_50 rfl rfl ?_
      refine j_iald (j := i) (nx := 52) hJ dX6_takeInput_51 rfl (show h1 106 = some (gia 20 ((gU A 107 f) 106)) from hP1.a 106 (by unfold gia'; omega)) rfl (by omega) (by decide) ?_
      rw [show (gU A 107 f) 106 i = (R 73).getD i (-1) from hg9]
      refine j_cvR (nx := 55) hJ dX6_takeInput_52 rfl (r6_codeOf (d := d) hP1 hk hk3 _) mX6_108 hP1.1.1 kX6_codeOf rfl (gle8 rfl) ?_
      refine j_iast (j := i) (nx := 56) hJ dX6_takeInput_55 rfl (show h1 107 = some (gia 8 f) from hP1.a 107 (by unfold gia'; omega)) rfl (by omega) (by decide) ?_
      have hP2 : gP h0 (gup h1 107 (gia 8 (upd f i (gcode (M 0) ((R 73).getD i (-1)))))) (gU A 107 (upd f i (gcode (M 0) ((R 73).getD i (-1))))) E M pv tv := (hP1.arr (a := 107) (by unfold gia'; omega) (upd f i (gcode (M 0) ((R 73).getD i (-1))))).uu
      have hup : (upd f i (gcode (M 0) ((R 73).getD i (-1)))) i = (gcode (M 0) ((R 73).getD i (-1))) := by simp [upd]
      refine j_p (nx := 57) hJ dX6_takeInput_56 rfl rfl ?_
      refine j_get (nx := 60) hJ dX6_takeInput_57 rfl fX6_37 hP2.1.1 (by rfl) ?_
      refine j_p (nx := 61) hJ dX6_takeInput_60 rfl rfl ?_
      refine j_iald (j := i) (nx := 62) hJ dX6_takeInput_61 rfl (show (gup h1 107 (gia 8 (upd f i (gcode (M 0) ((R 73).getD i (-1)))))) 107 = some (gia 8 ((gU A 107 (upd f i (gcode (M 0) ((R 73).getD i (-1))))) 107)) from hP2.a 107 (by unfold gia'; omega)) rfl (by omega) (by decide) ?_
      rw [show (gU A 107 (upd f i (gcode (M 0) ((R 73).getD i (-1))))) 107 i = (gcode (M 0) ((R 73).getD i (-1))) from hup]
      refine j_if_lt (nx := 65) (tgt := 84) hJ dX6_takeInput_62 rfl (by decide) (fun c62 => ?_) (fun c62 => ?_)
      · refine j_c (nx := 85) hJ dX6_takeInput_84 rfl gk_iconst_0 ?_
        refine j_p (nx := 86) hJ dX6_takeInput_85 rfl rfl ?_
        refine j_inc (nx := 89) hJ dX6_takeInput_86 rfl rfl (gi1 i) rfl ?_
        refine j_go (tgt := 28) hJ dX6_takeInput_89 (by decide) ?_
        exact dead (decide_eq_false (fun q => absurd (q.2.2 _ (ggetD_mem hil)).1 (by rw [Int32.lt_iff_toInt_lt] at c62; rw [Int32.le_iff_toInt_le]; omega))) (i + 1) _ _ hP2
      have hge : 0 ≤ (gcode (M 0) ((R 73).getD i (-1))) := by rw [Int32.lt_iff_toInt_lt] at c62; rw [Int32.le_iff_toInt_le]; omega
      refine j_p (nx := 66) hJ dX6_takeInput_65 rfl rfl ?_
      refine j_if_ne (nx := 69) (tgt := 80) hJ dX6_takeInput_66 rfl (by decide) (fun c66 => ?_) (fun c66 => ?_)
      · rw [gb_t] at c66
        refine j_c (nx := 81) hJ dX6_takeInput_80 rfl gk_iconst_1 ?_
        refine j_go (tgt := 85) hJ dX6_takeInput_81 (by decide) ?_
        refine j_p (nx := 86) hJ dX6_takeInput_85 rfl rfl ?_
        refine j_inc (nx := 89) hJ dX6_takeInput_86 rfl rfl (gi1 i) rfl ?_
        refine j_go (tgt := 28) hJ dX6_takeInput_89 (by decide) ?_
        refine ih hil _ _ hP2 ?_ (fun j hj => ?_)
        · rw [gtake_s hil, List.map_append]
          have := gst_up (c := (gcode (M 0) ((R 73).getD i (-1)))) hf (i := i) (by rw [List.length_map, List.length_take]; omega)
          rw [Nat.zero_add] at this
          exact this
        · by_cases e : j = i
          · subst e; exact ⟨hge, Or.inl c66⟩
          · exact hgd j (by omega)
      rw [gb_f] at c66
      refine j_p (nx := 70) hJ dX6_takeInput_69 rfl rfl ?_
      refine j_get (nx := 73) hJ dX6_takeInput_70 rfl fX6_37 hP2.1.1 (by rfl) ?_
      refine j_p (nx := 74) hJ dX6_takeInput_73 rfl rfl ?_
      refine j_iald (j := i) (nx := 75) hJ dX6_takeInput_74 rfl (show (gup h1 107 (gia 8 (upd f i (gcode (M 0) ((R 73).getD i (-1)))))) 107 = some (gia 8 ((gU A 107 (upd f i (gcode (M 0) ((R 73).getD i (-1))))) 107)) from hP2.a 107 (by unfold gia'; omega)) rfl (by omega) (by decide) ?_
      rw [show (gU A 107 (upd f i (gcode (M 0) ((R 73).getD i (-1))))) 107 i = (gcode (M 0) ((R 73).getD i (-1))) from hup]
      refine j_c (nx := 77) hJ dX6_takeInput_75 rfl gk_bipush_10 ?_
      refine j_ic_ge (nx := 80) (tgt := 84) hJ dX6_takeInput_77 rfl (by decide) (fun c77 => ?_) (fun c77 => ?_)
      · refine j_c (nx := 85) hJ dX6_takeInput_84 rfl gk_iconst_0 ?_
        refine j_p (nx := 86) hJ dX6_takeInput_85 rfl rfl ?_
        refine j_inc (nx := 89) hJ dX6_takeInput_86 rfl rfl (gi1 i) rfl ?_
        refine j_go (tgt := 28) hJ dX6_takeInput_89 (by decide) ?_
        exact dead (decide_eq_false (fun q => by rcases (q.2.2 _ (ggetD_mem hil)).2 with u | u; (rw [u] at c66; cases c66); (rw [Int32.le_iff_toInt_le] at c77; rw [Int32.lt_iff_toInt_lt] at u; omega))) (i + 1) _ _ hP2
      · refine j_c (nx := 81) hJ dX6_takeInput_80 rfl gk_iconst_1 ?_
        refine j_go (tgt := 85) hJ dX6_takeInput_81 (by decide) ?_
        refine j_p (nx := 86) hJ dX6_takeInput_85 rfl rfl ?_
        refine j_inc (nx := 89) hJ dX6_takeInput_86 rfl rfl (gi1 i) rfl ?_
        refine j_go (tgt := 28) hJ dX6_takeInput_89 (by decide) ?_
        refine ih hil _ _ hP2 ?_ (fun j hj => ?_)
        · rw [gtake_s hil, List.map_append]
          have := gst_up (c := (gcode (M 0) ((R 73).getD i (-1)))) hf (i := i) (by rw [List.length_map, List.length_take]; omega)
          rw [Nat.zero_add] at this
          exact this
        · by_cases e : j = i
          · subst e; exact ⟨hge, Or.inr (by rw [Int32.le_iff_toInt_le] at c77; rw [Int32.lt_iff_toInt_lt]; omega)⟩
          · exact hgd j (by omega)
  have hA0 : gP h0 h (gU A 107 (A 107)) E M pv tv := hP.rw (gU_self A 107) (fun _ => rfl) (fun _ => rfl)
  refine j_p (nx := 1) hJ dX6_takeInput_0 rfl rfl ?_
  refine j_get (nx := 4) hJ dX6_takeInput_1 rfl fX6_105 hP.1.1 (by rfl) ?_
  rw [g9]
  refine j_c (nx := 6) hJ dX6_takeInput_4 rfl gk_bipush_8 ?_
  refine j_ic_gt (nx := 9) (tgt := 24) hJ dX6_takeInput_6 rfl (by decide) (fun c6 => ?_) (fun c6 => ?_)
  · refine j_c (nx := 25) hJ dX6_takeInput_24 rfl gk_iconst_0 ?_
    first | rw [show (8 : Int32) = nI 8 from rfl, gnlt (by omega) (by omega)] at c6 | skip
    first | rw [gb_t] at c10 | rw [gb_f] at c10 | skip
    first | rw [Int32.le_iff_toInt_le, Int32.toInt_zero, nI_toInt (by omega)] at c17 | skip
    refine j_p (nx := 26) hJ dX6_takeInput_25 rfl rfl ?_
    refine j_c (nx := 27) hJ dX6_takeInput_26 rfl gk_iconst_0 ?_
    refine j_p (nx := 28) hJ dX6_takeInput_27 rfl rfl ?_
    exact dead (decide_eq_false (fun q => by first | exact absurd (q.2.1 c10) (by omega) | exact absurd q.1 (by omega))) 0 h _ hA0
  · refine j_p (nx := 10) hJ dX6_takeInput_9 rfl rfl ?_
    refine j_if_eq (nx := 13) (tgt := 20) hJ dX6_takeInput_10 rfl (by decide) (fun c10 => ?_) (fun c10 => ?_)
    · refine j_c (nx := 21) hJ dX6_takeInput_20 rfl gk_iconst_1 ?_
      refine j_go (tgt := 25) hJ dX6_takeInput_21 (by decide) ?_
      first | rw [show (8 : Int32) = nI 8 from rfl, gnlt (by omega) (by omega)] at c6 | skip
      first | rw [gb_t] at c10 | rw [gb_f] at c10 | skip
      first | rw [Int32.le_iff_toInt_le, Int32.toInt_zero, nI_toInt (by omega)] at c17 | skip
      refine j_p (nx := 26) hJ dX6_takeInput_25 rfl rfl ?_
      refine j_c (nx := 27) hJ dX6_takeInput_26 rfl gk_iconst_0 ?_
      refine j_p (nx := 28) hJ dX6_takeInput_27 rfl rfl ?_
      exact loop (by omega) (fun q => by first | omega | (rw [q] at c10; cases c10)) 0 (Nat.zero_le _) h _ hA0 (fun j v hv => by cases hv) (fun j hj => by omega)
    · refine j_p (nx := 14) hJ dX6_takeInput_13 rfl rfl ?_
      refine j_get (nx := 17) hJ dX6_takeInput_14 rfl fX6_105 hP.1.1 (by rfl) ?_
      rw [g9]
      refine j_if_le (nx := 20) (tgt := 24) hJ dX6_takeInput_17 rfl (by decide) (fun c17 => ?_) (fun c17 => ?_)
      · refine j_c (nx := 25) hJ dX6_takeInput_24 rfl gk_iconst_0 ?_
        first | rw [show (8 : Int32) = nI 8 from rfl, gnlt (by omega) (by omega)] at c6 | skip
        first | rw [gb_t] at c10 | rw [gb_f] at c10 | skip
        first | rw [Int32.le_iff_toInt_le, Int32.toInt_zero, nI_toInt (by omega)] at c17 | skip
        refine j_p (nx := 26) hJ dX6_takeInput_25 rfl rfl ?_
        refine j_c (nx := 27) hJ dX6_takeInput_26 rfl gk_iconst_0 ?_
        refine j_p (nx := 28) hJ dX6_takeInput_27 rfl rfl ?_
        exact dead (decide_eq_false (fun q => by first | exact absurd (q.2.1 c10) (by omega) | exact absurd q.1 (by omega))) 0 h _ hA0
      · refine j_c (nx := 21) hJ dX6_takeInput_20 rfl gk_iconst_1 ?_
        refine j_go (tgt := 25) hJ dX6_takeInput_21 (by decide) ?_
        first | rw [show (8 : Int32) = nI 8 from rfl, gnlt (by omega) (by omega)] at c6 | skip
        first | rw [gb_t] at c10 | rw [gb_f] at c10 | skip
        first | rw [Int32.le_iff_toInt_le, Int32.toInt_zero, nI_toInt (by omega)] at c17 | skip
        refine j_p (nx := 26) hJ dX6_takeInput_25 rfl rfl ?_
        refine j_c (nx := 27) hJ dX6_takeInput_26 rfl gk_iconst_0 ?_
        refine j_p (nx := 28) hJ dX6_takeInput_27 rfl rfl ?_
        exact loop (by omega) (fun q => by first | omega | (rw [q] at c10; cases c10)) 0 (Nat.zero_le _) h _ hA0 (fun j v hv => by cases hv) (fun j hj => by omega)
set_option maxHeartbeats 4000000 in
theorem r6_inputIs {d : Nat} {h0 h : GH} {A : Nat → Nat → Int32} {E : Nat → Nat → Int64} {M : Nat → Int32} {pv tv : Value} (hP : gP h0 h A E M pv tv) {R : Nat → List Int32} {N : Nat → Int32} (hG : gG A E M R N) {i : Nat} (hi : i < 5) : gR false (d + 6) yX6_inputIs [.ref 99, .ref (1000000 + i)] h (.int (gb (decide (R 73 = (gbyt.getD i []))))) := by
  have g0 := hG.1.1
  have g9 := hG.1.2.2.1
  have g20 := hG.1.2.2.2.2.1
  have g106 := hG.1.2.2.2.2.2
  obtain ⟨hb1, hb2⟩ := gby_len hi
  refine gN.of MX6_inputIs (Nat.le_of_ble_eq_true rfl) (fun J n hJ => ?_)
  show J 0 [some (.ref 99), some (.ref (1000000 + i)), none, none] [] h (n, 0, 0, false)
  have dead : R 73 ≠ (gbyt.getD i []) → ∀ j : Nat, J 19 [some (.ref 99), some (.ref (1000000 + i)), some (.int 0), some (.int (nI j))] [] h (n, 0, 0, false) := by
    intro e j
    refine j_p (nx := 20) hJ dX6_inputIs_19 rfl rfl ?_
    refine j_p (nx := 21) hJ dX6_inputIs_20 rfl rfl ?_
    refine j_get (nx := 24) hJ dX6_inputIs_21 rfl fX6_105 hP.1.1 (by rfl) ?_
    rw [g9]
    refine j_ic_ge (nx := 27) (tgt := 57) hJ dX6_inputIs_24 rfl (by decide) (fun c24 => ?_) (fun c24 => ?_)
    · refine j_p (nx := 58) hJ dX6_inputIs_57 rfl rfl ?_
      exact j_zret hJ (decide (R 73 = (gbyt.getD i []))) dX6_inputIs_58 (by rw [decide_eq_false (e)]; rfl) ⟨rfl, rfl⟩
    · refine j_p (nx := 28) hJ dX6_inputIs_27 rfl rfl ?_
      refine j_if_eq (nx := 31) (tgt := 57) hJ dX6_inputIs_28 rfl (by decide) (fun c28 => ?_) (fun c28 => absurd c28 (by decide))
      refine j_p (nx := 58) hJ dX6_inputIs_57 rfl rfl ?_
      exact j_zret hJ (decide (R 73 = (gbyt.getD i []))) dX6_inputIs_58 (by rw [decide_eq_false (e)]; rfl) ⟨rfl, rfl⟩
  have loop : (R 73).length = glen.getD i 0 → ∀ j, j ≤ (R 73).length → (∀ x, x < j → (R 73).getD x (-1) = (gbyt.getD i []).getD x 0) → J 19 [some (.ref 99), some (.ref (1000000 + i)), some (.int 1), some (.int (nI j))] [] h (n, 0, 0, false) := by
    intro hle
    refine gloop _ _ (fun j hj ih hall => ?_)
    refine j_p (nx := 20) hJ dX6_inputIs_19 rfl rfl ?_
    refine j_p (nx := 21) hJ dX6_inputIs_20 rfl rfl ?_
    refine j_get (nx := 24) hJ dX6_inputIs_21 rfl fX6_105 hP.1.1 (by rfl) ?_
    rw [g9]
    refine j_ic_ge (nx := 27) (tgt := 57) hJ dX6_inputIs_24 rfl (by decide) (fun c24 => ?_) (fun c24 => ?_)
    · refine j_p (nx := 58) hJ dX6_inputIs_57 rfl rfl ?_
      rw [gnle (by omega) (by omega)] at c24
      have e : R 73 = (gbyt.getD i []) := glist_eq (by omega) (fun x hx => hall x (by omega))
      exact j_zret hJ (decide (R 73 = (gbyt.getD i []))) dX6_inputIs_58 (by rw [decide_eq_true e]; rfl) ⟨rfl, rfl⟩
    · refine j_p (nx := 28) hJ dX6_inputIs_27 rfl rfl ?_
      refine j_if_eq (nx := 31) (tgt := 57) hJ dX6_inputIs_28 rfl (by decide) (fun c28 => absurd c28 (by decide)) (fun c28 => ?_)
      rw [gnle (by omega) (by omega)] at c24
      have hjl : j < (R 73).length := by omega
      have hg9 := g106.get hjl
      rw [Nat.zero_add] at hg9
      refine j_p (nx := 32) hJ dX6_inputIs_31 rfl rfl ?_
      refine j_get (nx := 35) hJ dX6_inputIs_32 rfl fX6_34 hP.1.1 (by rfl) ?_
      refine j_p (nx := 36) hJ dX6_inputIs_35 rfl rfl ?_
      refine j_iald (j := j) (nx := 37) hJ dX6_inputIs_36 rfl (show h 106 = some (gia 20 (A 106)) from hP.a 106 (by unfold gia'; omega)) rfl (by omega) (by decide) ?_
      rw [hg9]
      refine j_p (nx := 38) hJ dX6_inputIs_37 rfl rfl ?_
      refine j_p (nx := 39) hJ dX6_inputIs_38 rfl rfl ?_
      refine j_cvS (nx := 42) hJ dX6_inputIs_39 rfl (r_charAt (fl := false) (d := d + 1) hi (j := j) (by omega)) mX6_121 hi rfl rfl (gle8 rfl) ?_
      refine j_ic_ne (nx := 45) (tgt := 49) hJ dX6_inputIs_42 rfl (by decide) (fun c42 => ?_) (fun c42 => ?_)
      · refine j_c (nx := 50) hJ dX6_inputIs_49 rfl gk_iconst_0 ?_
        refine j_p (nx := 51) hJ dX6_inputIs_50 rfl rfl ?_
        refine j_inc (nx := 54) hJ dX6_inputIs_51 rfl rfl (gi1 j) rfl ?_
        refine j_go (tgt := 19) hJ dX6_inputIs_54 (by decide) ?_
        exact dead (gl_ne hjl c42) (j + 1)
      · refine j_c (nx := 46) hJ dX6_inputIs_45 rfl gk_iconst_1 ?_
        refine j_go (tgt := 50) hJ dX6_inputIs_46 (by decide) ?_
        refine j_p (nx := 51) hJ dX6_inputIs_50 rfl rfl ?_
        refine j_inc (nx := 54) hJ dX6_inputIs_51 rfl rfl (gi1 j) rfl ?_
        refine j_go (tgt := 19) hJ dX6_inputIs_54 (by decide) ?_
        refine ih hjl (fun x hx => ?_)
        by_cases e : x = j
        · subst e; exact c42
        · exact hall x (by omega)
  refine j_p (nx := 1) hJ dX6_inputIs_0 rfl rfl ?_
  refine j_get (nx := 4) hJ dX6_inputIs_1 rfl fX6_105 hP.1.1 (by rfl) ?_
  rw [g9]
  refine j_p (nx := 5) hJ dX6_inputIs_4 rfl rfl ?_
  refine j_cvS (nx := 8) hJ dX6_inputIs_5 rfl (r_strlen (fl := false) (d := d + 3) hi) mX6_115 hi rfl rfl (gle8 rfl) ?_
  refine j_ic_ne (nx := 11) (tgt := 15) hJ dX6_inputIs_8 rfl (by decide) (fun c8 => ?_) (fun c8 => ?_)
  · refine j_c (nx := 16) hJ dX6_inputIs_15 rfl gk_iconst_0 ?_
    rw [gneq (by omega) (by omega)] at c8
    refine j_p (nx := 17) hJ dX6_inputIs_16 rfl rfl ?_
    refine j_c (nx := 18) hJ dX6_inputIs_17 rfl gk_iconst_0 ?_
    refine j_p (nx := 19) hJ dX6_inputIs_18 rfl rfl ?_
    exact dead (fun q => c8 (by rw [q, hb1])) 0
  · refine j_c (nx := 12) hJ dX6_inputIs_11 rfl gk_iconst_1 ?_
    refine j_go (tgt := 16) hJ dX6_inputIs_12 (by decide) ?_
    rw [gneq (by omega) (by omega)] at c8
    refine j_p (nx := 17) hJ dX6_inputIs_16 rfl rfl ?_
    refine j_c (nx := 18) hJ dX6_inputIs_17 rfl gk_iconst_0 ?_
    refine j_p (nx := 19) hJ dX6_inputIs_18 rfl rfl ?_
    exact loop c8 0 (Nat.zero_le _) (fun x hx => by omega)
/-- the variables renamed in their order -/
def gno : List Int32 → (Nat → Int32) → Int32 → List Int32
  | [], _, _ => []
  | y :: ys, ren, nx => match gvo y with
    | none => y :: gno ys ren nx
    | some v => if ren v < 0 then nx :: gno ys (gU ren v nx) (nx + 1) else ren v :: gno ys ren nx
theorem gno_len : ∀ (l : List Int32) (ren : Nat → Int32) (nx : Int32), (gno l ren nx).length = l.length
  | [], _, _ => rfl
  | y :: ys, ren, nx => by
    rw [gno]
    split
    · rw [List.length_cons, List.length_cons, gno_len]
    · split
      · rw [List.length_cons, List.length_cons, gno_len]
      · rw [List.length_cons, List.length_cons, gno_len]
theorem ggetD_r {l : List Int32} {i : Nat} {x : Int32} (h : l.length = i) : (l ++ [x]).getD i (-1) = x := by
  rw [List.getD_eq_getElem?_getD, List.getElem?_append_right (by omega), h, Nat.sub_self]; rfl
theorem ggetD_l {l : List Int32} {i : Nat} {x : Int32} (h : i < l.length) : (l ++ [x]).getD i (-1) = l.getD i (-1) := by
  rw [List.getD_eq_getElem?_getD, List.getElem?_append_left h, List.getD_eq_getElem?_getD]
set_option maxHeartbeats 4000000 in
theorem r6_normalize {d : Nat} {h0 h : GH} {A : Nat → Nat → Int32} {E : Nat → Nat → Int64} {M : Nat → Int32} {pv tv : Value} (hP : gP h0 h A E M pv tv) {r : Nat} (hr : r < 6) {l : List Int32} (hl : gSl (A 100) (A 101) r l) (hsy : ∀ c ∈ l, gsy c) : gN false (d + 1) yX6_normalize [.ref 99, .int (nI r)] h (fun o h' => o = none ∧ ∃ A1, gP h0 h' A1 E M pv tv ∧ gSl (A1 100) (A1 101) r (gno l (fun _ => -1) 10) ∧ (∀ j, (j < 8 * r ∨ 8 * r + 8 ≤ j) → A1 100 j = A 100 j) ∧ ∀ a, a ≠ 100 → a ≠ 108 → A1 a = A a) := by
  have hl8 := hl.2.1
  refine gN.of MX6_normalize (Nat.le_of_ble_eq_true rfl) (fun J n hJ => ?_)
  show J 0 [some (.ref 99), some (.int (nI r)), none, none, none] [] h (n, 0, 0, false)
  have loop2 : ∀ i, i ≤ l.length → ∀ (h1 : GH) (A1 : Nat → Nat → Int32) (out : List Int32) (ren : Nat → Int32) (nx : Int32) (w : Option Value), gP h0 h1 A1 E M pv tv → out.length = i → gno l (fun _ => -1) 10 = out ++ gno (l.drop i) ren nx → (∀ v, v < 4 → A1 108 v = ren v) → (∀ j, j < i → A1 100 (8 * r + j) = out.getD j (-1)) → (∀ j, i ≤ j → j < l.length → A1 100 (8 * r + j) = l.getD j (-1)) → (∀ j, (j < 8 * r ∨ 8 * r + 8 ≤ j) → A1 100 j = A 100 j) → (∀ a, a ≠ 100 → a ≠ 108 → A1 a = A a) → J 28 [some (.ref 99), some (.int (nI r)), some (.int nx), some (.int (nI (8 * r + i))), w] [] h1 (n, 0, 0, false) := by
    refine gloop _ _ (fun i hi ih h1 A1 out ren nx w hP1 hout hgn hren hdone hrest hoth hs => ?_)
    refine j_p (nx := 29) hJ dX6_normalize_28 rfl rfl ?_
    refine j_c (nx := 31) hJ dX6_normalize_29 rfl gk_bipush_8 ?_
    refine j_p (nx := 32) hJ dX6_normalize_31 rfl rfl ?_
    refine j_p (nx := 33) hJ dX6_normalize_32 rfl rfl ?_
    rw [show (8 : Int32) = nI 8 from rfl, gmul]
    refine j_p (nx := 34) hJ dX6_normalize_33 rfl rfl ?_
    refine j_get (nx := 37) hJ dX6_normalize_34 rfl fX6_19 hP1.1.1 (by rfl) ?_
    refine j_p (nx := 38) hJ dX6_normalize_37 rfl rfl ?_
    refine j_iald (j := r) (nx := 39) hJ dX6_normalize_38 rfl (show h1 101 = some (gia 6 (A1 101)) from hP1.a 101 (by unfold gia'; omega)) rfl (by omega) (by decide) ?_
    rw [show A1 101 r = nI l.length from (congrFun (hs 101 (by omega) (by omega)) r).trans hl.1]
    refine j_p (nx := 40) hJ dX6_normalize_39 rfl rfl ?_
    rw [gadd]
    refine j_ic_ge (nx := 43) (tgt := 105) hJ dX6_normalize_40 rfl (by decide) (fun c40 => ?_) (fun c40 => ?_)
    · rw [gnle (by omega) (by omega)] at c40
      have e0 : i = l.length := by omega
      subst e0
      rw [List.drop_length, gno, List.append_nil] at hgn
      refine j_vret hJ dX6_normalize_105 ⟨rfl, A1, hP1, ⟨?_, ?_, ?_⟩, hoth, fun a p1 p2 => hs a p1 p2⟩
      · rw [hs 101 (by omega) (by omega), gno_len]; exact hl.1
      · rw [gno_len]; exact hl.2.1
      · refine gSt.of (fun j hj => ?_)
        rw [gno_len] at hj
        rw [hgn]; exact hdone j hj
    · rw [gnle (by omega) (by omega)] at c40
      have hil : i < l.length := by omega
      have hsc := hsy _ (ggetD_mem hil)
      have hdr := gdropD hil
      cases hvo : gvo (l.getD i (-1)) with
      | none =>
        refine j_p (nx := 44) hJ dX6_normalize_43 rfl rfl ?_
        refine j_get (nx := 47) hJ dX6_normalize_44 rfl fX6_15 hP1.1.1 (by rfl) ?_
        refine j_p (nx := 48) hJ dX6_normalize_47 rfl rfl ?_
        refine j_iald (j := 8 * r + i) (nx := 49) hJ dX6_normalize_48 rfl (show h1 100 = some (gia 48 (A1 100)) from hP1.a 100 (by unfold gia'; omega)) rfl (by omega) (by decide) ?_
        rw [(show (A1 100) (8 * r + i) = (l.getD i (-1)) from hrest i (Nat.le_refl _) hil)]
        refine j_c (nx := 51) hJ dX6_normalize_49 rfl gk_bipush_10 ?_
        refine j_ic_lt (nx := 54) (tgt := 99) hJ dX6_normalize_51 rfl (by decide) (fun c51 => ?_) (fun c51 => absurd (by rw [Int32.lt_iff_toInt_lt]; exact gvo_none hsc hvo) c51)
        refine j_inc (nx := 102) hJ dX6_normalize_99 rfl rfl (gi1 _) rfl ?_
        refine j_go (tgt := 28) hJ dX6_normalize_102 (by decide) ?_
        refine ih hil h1 A1 (out ++ [(l.getD i (-1))]) ren nx _ hP1 (by rw [List.length_append, hout]; rfl) (by rw [hgn, hdr, gno, hvo, List.append_assoc]; rfl) hren (fun j hj => ?_) (fun j h1 h2 => hrest j (by omega) h2) hoth hs
        by_cases e : j = i
        · subst e; rw [hrest j (Nat.le_refl _) hil, ggetD_r hout]
        · rw [hdone j (by omega), ggetD_l (by omega)]
      | some v =>
        obtain ⟨hv4, -, -⟩ := gvo_some hvo
        by_cases hrv : ren v < 0
        · refine j_p (nx := 44) hJ dX6_normalize_43 rfl rfl ?_
          refine j_get (nx := 47) hJ dX6_normalize_44 rfl fX6_15 hP1.1.1 (by rfl) ?_
          refine j_p (nx := 48) hJ dX6_normalize_47 rfl rfl ?_
          refine j_iald (j := 8 * r + i) (nx := 49) hJ dX6_normalize_48 rfl (show h1 100 = some (gia 48 (A1 100)) from hP1.a 100 (by unfold gia'; omega)) rfl (by omega) (by decide) ?_
          rw [(show (A1 100) (8 * r + i) = (l.getD i (-1)) from hrest i (Nat.le_refl _) hil)]
          refine j_c (nx := 51) hJ dX6_normalize_49 rfl gk_bipush_10 ?_
          refine j_ic_lt (nx := 54) (tgt := 99) hJ dX6_normalize_51 rfl (by decide) (fun c51 => absurd c51 (by obtain ⟨-, -, u⟩ := gvo_some hvo; rw [u, show (10 : Int32) = nI 10 from rfl, gnlt (by omega) (by omega)]; omega)) (fun c51 => ?_)
          refine j_p (nx := 55) hJ dX6_normalize_54 rfl rfl ?_
          refine j_get (nx := 58) hJ dX6_normalize_55 rfl fX6_15 hP1.1.1 (by rfl) ?_
          refine j_p (nx := 59) hJ dX6_normalize_58 rfl rfl ?_
          refine j_iald (j := 8 * r + i) (nx := 60) hJ dX6_normalize_59 rfl (show h1 100 = some (gia 48 (A1 100)) from hP1.a 100 (by unfold gia'; omega)) rfl (by omega) (by decide) ?_
          rw [(show (A1 100) (8 * r + i) = (l.getD i (-1)) from hrest i (Nat.le_refl _) hil)]
          refine j_c (nx := 62) hJ dX6_normalize_60 rfl gk_bipush_10 ?_
          refine j_p (nx := 63) hJ dX6_normalize_62 rfl rfl ?_
          rw [(gvo_some hvo).2.1]
          refine j_p (nx := 65) hJ dX6_normalize_63 rfl rfl ?_
          refine j_p (nx := 66) hJ dX6_normalize_65 rfl rfl ?_
          refine j_get (nx := 69) hJ dX6_normalize_66 rfl fX6_40 hP1.1.1 (by rfl) ?_
          refine j_p (nx := 71) hJ dX6_normalize_69 rfl rfl ?_
          refine j_iald (j := v) (nx := 72) hJ dX6_normalize_71 rfl (show h1 108 = some (gia 4 (A1 108)) from hP1.a 108 (by unfold gia'; omega)) rfl (by omega) (by decide) ?_
          rw [hren v hv4]
          refine j_if_ge (nx := 75) (tgt := 86) hJ dX6_normalize_72 rfl (by decide) (fun c72 => absurd c72 (by rw [Int32.lt_iff_toInt_lt] at hrv; rw [Int32.le_iff_toInt_le]; omega)) (fun c72 => ?_)
          refine j_p (nx := 76) hJ dX6_normalize_75 rfl rfl ?_
          refine j_get (nx := 79) hJ dX6_normalize_76 rfl fX6_40 hP1.1.1 (by rfl) ?_
          refine j_p (nx := 81) hJ dX6_normalize_79 rfl rfl ?_
          refine j_p (nx := 82) hJ dX6_normalize_81 rfl rfl ?_
          refine j_iast (j := v) (nx := 83) hJ dX6_normalize_82 rfl (show h1 108 = some (gia 4 (A1 108)) from hP1.a 108 (by unfold gia'; omega)) rfl (by omega) (by decide) ?_
          have hP2 := hP1.arr (a := 108) (by unfold gia'; omega) (upd (A1 108) (v) (nx))
          refine j_inc (nx := 86) hJ dX6_normalize_83 rfl rfl (gone _) rfl ?_
          refine j_p (nx := 87) hJ dX6_normalize_86 rfl rfl ?_
          refine j_get (nx := 90) hJ dX6_normalize_87 rfl fX6_15 hP2.1.1 (by rfl) ?_
          refine j_p (nx := 91) hJ dX6_normalize_90 rfl rfl ?_
          refine j_p (nx := 92) hJ dX6_normalize_91 rfl rfl ?_
          refine j_get (nx := 95) hJ dX6_normalize_92 rfl fX6_40 hP2.1.1 (by rfl) ?_
          refine j_p (nx := 97) hJ dX6_normalize_95 rfl rfl ?_
          refine j_iald (j := v) (nx := 98) hJ dX6_normalize_97 rfl (show (gup h1 108 (gia 4 (upd (A1 108) v nx))) 108 = some (gia 4 ((gU A1 108 (upd (A1 108) v nx)) 108)) from hP2.a 108 (by unfold gia'; omega)) rfl (by omega) (by decide) ?_
          rw [show (gU A1 108 (upd (A1 108) v nx)) 108 v = nx from by rw [gU_s]; simp [upd]]
          refine j_iast (j := 8 * r + i) (nx := 99) hJ dX6_normalize_98 rfl (show (gup h1 108 (gia 4 (upd (A1 108) v nx))) 100 = some (gia 48 (A1 100)) from hP2.a 100 (by unfold gia'; omega)) rfl (by omega) (by decide) ?_
          have hP9 := hP2.arr (a := 100) (by unfold gia'; omega) (upd (A1 100) (8 * r + i) (nx))
          refine j_inc (nx := 102) hJ dX6_normalize_99 rfl rfl (gi1 _) rfl ?_
          refine j_go (tgt := 28) hJ dX6_normalize_102 (by decide) ?_
          refine ih hil _ _ (out ++ [nx]) (gU ren v nx) (nx + 1) _ hP9 (by rw [List.length_append, hout]; rfl) (by rw [hgn, hdr, gno, hvo, List.append_assoc]; show out ++ (if ren v < 0 then _ else _) = _; rw [if_pos hrv]; rfl) ?_ ?_ ?_ ?_ ?_
          · intro w9 hw9; rw [gU_n _ _ (by omega), gU_s]; simp only [upd, gU]; split; rfl; exact hren w9 hw9
          · intro j hj
            rw [gU_s]
            simp only [upd]
            by_cases e : j = i
            · subst e; rw [if_pos rfl, ggetD_r hout]
            · rw [if_neg (by omega), hdone j (by omega), ggetD_l (by omega)]
          · intro j h1 h2
            rw [gU_s]
            simp only [upd]
            rw [if_neg (by omega)]
            exact hrest j (by omega) h2
          · intro j hj
            rw [gU_s]
            simp only [upd]
            rw [if_neg (by omega)]
            exact hoth j hj
          · intro a p1 p2; rw [gU_n _ _ p1, gU_n _ _ p2]; exact hs a p1 p2
        · refine j_p (nx := 44) hJ dX6_normalize_43 rfl rfl ?_
          refine j_get (nx := 47) hJ dX6_normalize_44 rfl fX6_15 hP1.1.1 (by rfl) ?_
          refine j_p (nx := 48) hJ dX6_normalize_47 rfl rfl ?_
          refine j_iald (j := 8 * r + i) (nx := 49) hJ dX6_normalize_48 rfl (show h1 100 = some (gia 48 (A1 100)) from hP1.a 100 (by unfold gia'; omega)) rfl (by omega) (by decide) ?_
          rw [(show (A1 100) (8 * r + i) = (l.getD i (-1)) from hrest i (Nat.le_refl _) hil)]
          refine j_c (nx := 51) hJ dX6_normalize_49 rfl gk_bipush_10 ?_
          refine j_ic_lt (nx := 54) (tgt := 99) hJ dX6_normalize_51 rfl (by decide) (fun c51 => absurd c51 (by obtain ⟨-, -, u⟩ := gvo_some hvo; rw [u, show (10 : Int32) = nI 10 from rfl, gnlt (by omega) (by omega)]; omega)) (fun c51 => ?_)
          refine j_p (nx := 55) hJ dX6_normalize_54 rfl rfl ?_
          refine j_get (nx := 58) hJ dX6_normalize_55 rfl fX6_15 hP1.1.1 (by rfl) ?_
          refine j_p (nx := 59) hJ dX6_normalize_58 rfl rfl ?_
          refine j_iald (j := 8 * r + i) (nx := 60) hJ dX6_normalize_59 rfl (show h1 100 = some (gia 48 (A1 100)) from hP1.a 100 (by unfold gia'; omega)) rfl (by omega) (by decide) ?_
          rw [(show (A1 100) (8 * r + i) = (l.getD i (-1)) from hrest i (Nat.le_refl _) hil)]
          refine j_c (nx := 62) hJ dX6_normalize_60 rfl gk_bipush_10 ?_
          refine j_p (nx := 63) hJ dX6_normalize_62 rfl rfl ?_
          rw [(gvo_some hvo).2.1]
          refine j_p (nx := 65) hJ dX6_normalize_63 rfl rfl ?_
          refine j_p (nx := 66) hJ dX6_normalize_65 rfl rfl ?_
          refine j_get (nx := 69) hJ dX6_normalize_66 rfl fX6_40 hP1.1.1 (by rfl) ?_
          refine j_p (nx := 71) hJ dX6_normalize_69 rfl rfl ?_
          refine j_iald (j := v) (nx := 72) hJ dX6_normalize_71 rfl (show h1 108 = some (gia 4 (A1 108)) from hP1.a 108 (by unfold gia'; omega)) rfl (by omega) (by decide) ?_
          rw [hren v hv4]
          refine j_if_ge (nx := 75) (tgt := 86) hJ dX6_normalize_72 rfl (by decide) (fun c72 => ?_) (fun c72 => absurd c72 (fun q => q (by rw [Int32.lt_iff_toInt_lt] at hrv; rw [Int32.le_iff_toInt_le]; omega)))
          refine j_p (nx := 87) hJ dX6_normalize_86 rfl rfl ?_
          refine j_get (nx := 90) hJ dX6_normalize_87 rfl fX6_15 hP1.1.1 (by rfl) ?_
          refine j_p (nx := 91) hJ dX6_normalize_90 rfl rfl ?_
          refine j_p (nx := 92) hJ dX6_normalize_91 rfl rfl ?_
          refine j_get (nx := 95) hJ dX6_normalize_92 rfl fX6_40 hP1.1.1 (by rfl) ?_
          refine j_p (nx := 97) hJ dX6_normalize_95 rfl rfl ?_
          refine j_iald (j := v) (nx := 98) hJ dX6_normalize_97 rfl (show h1 108 = some (gia 4 (A1 108)) from hP1.a 108 (by unfold gia'; omega)) rfl (by omega) (by decide) ?_
          rw [hren v hv4]
          refine j_iast (j := 8 * r + i) (nx := 99) hJ dX6_normalize_98 rfl (show h1 100 = some (gia 48 (A1 100)) from hP1.a 100 (by unfold gia'; omega)) rfl (by omega) (by decide) ?_
          have hP9 := hP1.arr (a := 100) (by unfold gia'; omega) (upd (A1 100) (8 * r + i) (ren v))
          refine j_inc (nx := 102) hJ dX6_normalize_99 rfl rfl (gi1 _) rfl ?_
          refine j_go (tgt := 28) hJ dX6_normalize_102 (by decide) ?_
          refine ih hil _ _ (out ++ [ren v]) ren nx _ hP9 (by rw [List.length_append, hout]; rfl) (by rw [hgn, hdr, gno, hvo, List.append_assoc]; show _ = out ++ ([ren v] ++ _); show out ++ (if ren v < 0 then _ else _) = _; rw [if_neg hrv]; rfl) ?_ ?_ ?_ ?_ ?_
          · intro w9 hw9; rw [gU_n _ _ (by omega)]; exact hren w9 hw9
          · intro j hj
            rw [gU_s]
            simp only [upd]
            by_cases e : j = i
            · subst e; rw [if_pos rfl, ggetD_r hout]
            · rw [if_neg (by omega), hdone j (by omega), ggetD_l (by omega)]
          · intro j h1 h2
            rw [gU_s]
            simp only [upd]
            rw [if_neg (by omega)]
            exact hrest j (by omega) h2
          · intro j hj
            rw [gU_s]
            simp only [upd]
            rw [if_neg (by omega)]
            exact hoth j hj
          · intro a p1 p2; rw [gU_n _ _ p1]; exact hs a p1 p2
  have loop1 : ∀ i, i ≤ 4 → ∀ (h1 : GH) (A1 : Nat → Nat → Int32), gP h0 h1 A1 E M pv tv → (∀ v, v < i → A1 108 v = -1) → (∀ a, a ≠ 108 → A1 a = A a) → J 2 [some (.ref 99), some (.int (nI r)), some (.int (nI i)), none, none] [] h1 (n, 0, 0, false) := by
    refine gloop _ _ (fun i hi ih h1 A1 hP1 hd hs => ?_)
    refine j_p (nx := 3) hJ dX6_normalize_2 rfl rfl ?_
    refine j_c (nx := 4) hJ dX6_normalize_3 rfl gk_iconst_4 ?_
    refine j_ic_ge (nx := 7) (tgt := 20) hJ dX6_normalize_4 rfl (by decide) (fun c4 => ?_) (fun c4 => ?_)
    · refine j_c (nx := 22) hJ dX6_normalize_20 rfl gk_bipush_10 ?_
      refine j_p (nx := 23) hJ dX6_normalize_22 rfl rfl ?_
      refine j_c (nx := 25) hJ dX6_normalize_23 rfl gk_bipush_8 ?_
      refine j_p (nx := 26) hJ dX6_normalize_25 rfl rfl ?_
      refine j_p (nx := 27) hJ dX6_normalize_26 rfl rfl ?_
      rw [show (8 : Int32) = nI 8 from rfl, gmul]
      refine j_p (nx := 28) hJ dX6_normalize_27 rfl rfl ?_
      rw [show (4 : Int32) = nI 4 from rfl, gnle (by omega) (by omega)] at c4
      refine loop2 0 (Nat.zero_le _) h1 A1 [] (fun _ => -1) 10 none hP1 rfl rfl (fun v hv => hd v (by omega)) (fun j hj => by omega) (fun j _ hj => ?_) (fun j hj => by rw [hs 100 (by omega)]) (fun a p1 p2 => hs a p2)
      rw [hs 100 (by omega)]; exact hl.2.2.get hj
    · rw [show (4 : Int32) = nI 4 from rfl, gnle (by omega) (by omega)] at c4
      have hil : i < 4 := by omega
      refine j_p (nx := 8) hJ dX6_normalize_7 rfl rfl ?_
      refine j_get (nx := 11) hJ dX6_normalize_8 rfl fX6_40 hP1.1.1 (by rfl) ?_
      refine j_p (nx := 12) hJ dX6_normalize_11 rfl rfl ?_
      refine j_c (nx := 13) hJ dX6_normalize_12 rfl gk_iconst_m1 ?_
      refine j_iast (j := i) (nx := 14) hJ dX6_normalize_13 rfl (show h1 108 = some (gia 4 (A1 108)) from hP1.a 108 (by unfold gia'; omega)) rfl (by omega) (by decide) ?_
      have hP2 := hP1.arr (a := 108) (by unfold gia'; omega) (upd (A1 108) (i) (-1))
      refine j_inc (nx := 17) hJ dX6_normalize_14 rfl rfl (gi1 i) rfl ?_
      refine j_go (tgt := 2) hJ dX6_normalize_17 (by decide) ?_
      refine ih hil _ _ hP2 (fun v hv => ?_) (fun a p => by rw [gU_n _ _ p]; exact hs a p)
      rw [gU_s]
      by_cases e : v = i
      · subst e; simp [upd]
      · simp only [upd]; rw [if_neg e]; exact hd v (by omega)
  refine j_c (nx := 1) hJ dX6_normalize_0 rfl gk_iconst_0 ?_
  refine j_p (nx := 2) hJ dX6_normalize_1 rfl rfl ?_
  exact loop1 0 (Nat.zero_le _) h A hP (fun v hv => by omega) (fun a _ => rfl)
