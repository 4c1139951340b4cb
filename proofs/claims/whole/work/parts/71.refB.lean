def gSl (f g : Nat → Int32) (r : Nat) (l : List Int32) : Prop := g r = nI l.length ∧ l.length ≤ 8 ∧ gSt f (8 * r) l
/-- what the reference's cells say of the state R N -/
def gG (A : Nat → Nat → Int32) (E : Nat → Nat → Int64) (M : Nat → Int32) (R : Nat → List Int32) (N : Nat → Int32) : Prop :=
  (M 0 = N 1 ∧ M 5 = N 2 ∧ M 9 = nI (R 73).length ∧ M 33 = N 0 ∧ (R 73).length ≤ 20 ∧ gSt (A 106) 0 (R 73)) ∧
  (∀ r, r < 6 → gSl (A 100) (A 101) r (R (5 + 2 * r))) ∧ (∀ v, v < 4 → gSl (A 104) (A 105) v (R (17 + 2 * v))) ∧ (∀ w, w < 6 → w < gss N → gSl (A 102) (A 103) w (R (25 + 2 * w))) ∧
  (∀ i, i < 4 → A 116 i = N (87 + 3 * i) ∧ (N (87 + 3 * i) ≠ -1 → A 117 i = nI (R (88 + 3 * i)).length ∧ (R (88 + 3 * i)).length ≤ 40 ∧ ∀ (j : Nat) (v : Int32), (R (88 + 3 * i))[j]? = some v → E 118 (40 * i + j) = v.toInt64)) ∧
  (N 0 ≠ 0 → M 34 = N 37 ∧ M 35 = N 38 ∧ (∀ r, r < 6 → gSl (A 120) (A 121) r (R (41 + 2 * r))) ∧ (∀ v, v < 4 → gSl (A 124) (A 125) v (R (53 + 2 * v))) ∧ ∀ w, w < 6 → w < (N 38).toInt.toNat → gSl (A 122) (A 123) w (R (61 + 2 * w)))
theorem gG.scr {A A' : Nat → Nat → Int32} {E E' : Nat → Nat → Int64} {M M' : Nat → Int32} {R : Nat → List Int32} {N : Nat → Int32} (hG : gG A E M R N) (hA : ∀ a, (a ≤ 106 ∨ a = 116 ∨ a = 117 ∨ 120 ≤ a) → A' a = A a) (hE : E' 118 = E 118) (hM : M' 0 = M 0 ∧ M' 5 = M 5 ∧ M' 9 = M 9 ∧ M' 33 = M 33 ∧ M' 34 = M 34 ∧ M' 35 = M 35) : gG A' E' M' R N := by
  unfold gG at hG ⊢
  rw [hA 106 (by omega), hA 100 (by omega), hA 101 (by omega), hA 104 (by omega), hA 105 (by omega), hA 102 (by omega), hA 103 (by omega), hA 116 (by omega), hA 117 (by omega), hA 120 (by omega), hA 121 (by omega), hA 124 (by omega), hA 125 (by omega), hA 122 (by omega), hA 123 (by omega), hE, hM.1, hM.2.1, hM.2.2.1, hM.2.2.2.1, hM.2.2.2.2.1, hM.2.2.2.2.2]
  exact hG
/-- the reference with the state R N -/
def gRS (h0 h : GH) (R : Nat → List Int32) (N : Nat → Int32) : Prop := ∃ A E M pv tv, gP h0 h A E M pv tv ∧ gG A E M R N
theorem gSl.keep {f f' g g' : Nat → Int32} {r : Nat} {l : List Int32} (h : gSl f g r l) (hf : ∀ i, 8 * r ≤ i → i < 8 * r + 8 → f' i = f i) (hg : g' r = g r) : gSl f' g' r l :=
  ⟨hg.trans h.1, h.2.1, h.2.2.congr (fun i hi => hf _ (by omega) (by have := h.2.1; omega))⟩
/-- a register's pattern changed -/
theorem gG.pat {A A' : Nat → Nat → Int32} {E : Nat → Nat → Int64} {M : Nat → Int32} {R : Nat → List Int32} {N : Nat → Int32} (hG : gG A E M R N) {r : Nat} (hr : r < 6) {l : List Int32} (hl : gSl (A' 100) (A' 101) r l) (h100 : ∀ i, (i < 8 * r ∨ 8 * r + 8 ≤ i) → A' 100 i = A 100 i) (h101 : ∀ i, i ≠ r → A' 101 i = A 101 i) (hA : ∀ a, a ≠ 100 → a ≠ 101 → (a ≤ 106 ∨ a = 116 ∨ a = 117 ∨ 120 ≤ a) → A' a = A a) : gG A' E M (gU R (5 + 2 * r) l) N := by
  obtain ⟨⟨a1, a2, a3, a4, a5, a6⟩, b, c, d, e, f⟩ := hG
  refine ⟨⟨a1, a2, by rw [gU_n _ _ (by omega)]; exact a3, a4, by rw [gU_n _ _ (by omega)]; exact a5, by rw [gU_n _ _ (by omega), hA 106 (by omega) (by omega) (by omega)]; exact a6⟩, fun s hs => ?_, fun v hv => ?_, fun w hw hw2 => ?_, fun i hi => ?_, fun q => ?_⟩
  · by_cases e9 : s = r
    · subst e9; rw [gU_s]; exact hl
    · rw [gU_n _ _ (by omega)]
      exact (b s hs).keep (fun i h1 h2 => h100 i (by omega)) (h101 s e9)
  · rw [gU_n _ _ (by omega), hA 104 (by omega) (by omega) (by omega), hA 105 (by omega) (by omega) (by omega)]; exact c v hv
  · rw [gU_n _ _ (by omega), hA 102 (by omega) (by omega) (by omega), hA 103 (by omega) (by omega) (by omega)]; exact d w hw hw2
  · rw [gU_n _ _ (by omega), hA 116 (by omega) (by omega) (by omega), hA 117 (by omega) (by omega) (by omega)]; exact e i hi
  · obtain ⟨f1, f2, f3, f4, f5⟩ := f q
    refine ⟨f1, f2, fun s hs => ?_, fun v hv => ?_, fun w hw hw2 => ?_⟩
    · rw [gU_n _ _ (by omega), hA 120 (by omega) (by omega) (by omega), hA 121 (by omega) (by omega) (by omega)]; exact f3 s hs
    · rw [gU_n _ _ (by omega), hA 124 (by omega) (by omega) (by omega), hA 125 (by omega) (by omega) (by omega)]; exact f4 v hv
    · rw [gU_n _ _ (by omega), hA 122 (by omega) (by omega) (by omega), hA 123 (by omega) (by omega) (by omega)]; exact f5 w hw hw2
/-- the input changed -/
theorem gG.inp {A A' : Nat → Nat → Int32} {E : Nat → Nat → Int64} {M M' : Nat → Int32} {R : Nat → List Int32} {N : Nat → Int32} (hG : gG A E M R N) {l : List Int32} (hl : l.length ≤ 20) (hM9 : M' 9 = nI l.length) (h106 : gSt (A' 106) 0 l) (hM : M' 0 = M 0 ∧ M' 5 = M 5 ∧ M' 33 = M 33 ∧ M' 34 = M 34 ∧ M' 35 = M 35) (hA : ∀ a, a ≠ 106 → (a ≤ 106 ∨ a = 116 ∨ a = 117 ∨ 120 ≤ a) → A' a = A a) : gG A' E M' (gU R 73 l) N := by
  obtain ⟨⟨a1, a2, a3, a4, a5, a6⟩, b, c, d, e, f⟩ := hG
  refine ⟨⟨hM.1.trans a1, hM.2.1.trans a2, by rw [gU_s]; exact hM9, hM.2.2.1.trans a4, by rw [gU_s]; exact hl, by rw [gU_s]; exact h106⟩, fun s hs => ?_, fun v hv => ?_, fun w hw hw2 => ?_, fun i hi => ?_, fun q => ?_⟩
  · rw [gU_n _ _ (by omega), hA 100 (by omega) (by omega), hA 101 (by omega) (by omega)]; exact b s hs
  · rw [gU_n _ _ (by omega), hA 104 (by omega) (by omega), hA 105 (by omega) (by omega)]; exact c v hv
  · rw [gU_n _ _ (by omega), hA 102 (by omega) (by omega), hA 103 (by omega) (by omega)]; exact d w hw hw2
  · rw [gU_n _ _ (by omega), hA 116 (by omega) (by omega), hA 117 (by omega) (by omega)]; exact e i hi
  · obtain ⟨f1, f2, f3, f4, f5⟩ := f q
    refine ⟨hM.2.2.2.1.trans f1, hM.2.2.2.2.trans f2, fun s hs => ?_, fun v hv => ?_, fun w hw hw2 => ?_⟩
    · rw [gU_n _ _ (by omega), hA 120 (by omega) (by omega), hA 121 (by omega) (by omega)]; exact f3 s hs
    · rw [gU_n _ _ (by omega), hA 124 (by omega) (by omega), hA 125 (by omega) (by omega)]; exact f4 v hv
    · rw [gU_n _ _ (by omega), hA 122 (by omega) (by omega), hA 123 (by omega) (by omega)]; exact f5 w hw hw2
theorem gcode_in {kI c : Int32} {k : Nat} (hk : kI = nI k) (hk3 : k ≤ 3) (h : gin c 97 (97 + kI - 1) = true) : gcode kI c = c - 97 := by
  obtain ⟨h1, h2⟩ := of_decide_eq_true h
  have e : (97 + kI - 1 : Int32) = nI (96 + k) := by rw [hk, show (97 : Int32) = nI 97 from rfl, gadd, show (1 : Int32) = nI 1 from rfl, gsub (by omega), show 97 + k - 1 = 96 + k by omega]
  have e2 : (97 + kI : Int32) = nI (97 + k) := by rw [hk, show (97 : Int32) = nI 97 from rfl, gadd]
  rw [e, Int32.le_iff_toInt_le, nI_toInt (by omega)] at h2
  rw [Int32.le_iff_toInt_le, show (97 : Int32).toInt = 97 by decide] at h1
  unfold gcode
  rw [if_neg (fun q => by subst q; revert h1; decide), if_neg (fun q => by subst q; revert h1; decide), if_neg (fun q => by subst q; revert h1; decide), if_neg (fun q => by subst q; revert h1; decide), if_pos]
  rw [e2, Int32.le_iff_toInt_le, Int32.lt_iff_toInt_lt, nI_toInt (by omega), show (97 : Int32).toInt = 97 by decide]
  omega
theorem gcode_out {kI c : Int32} {k : Nat} (hk : kI = nI k) (hk3 : k ≤ 3) (h : gin c 97 (97 + kI - 1) = false) : gcode kI c = if c = 88 then 10 else if c = 89 then 11 else if c = 90 then 12 else if c = 87 then 13 else -1 := by
  have h1 := of_decide_eq_false h
  have e : (97 + kI - 1 : Int32) = nI (96 + k) := by rw [hk, show (97 : Int32) = nI 97 from rfl, gadd, show (1 : Int32) = nI 1 from rfl, gsub (by omega), show 97 + k - 1 = 96 + k by omega]
  have e2 : (97 + kI : Int32) = nI (97 + k) := by rw [hk, show (97 : Int32) = nI 97 from rfl, gadd]
  rw [e, Int32.le_iff_toInt_le, Int32.le_iff_toInt_le, nI_toInt (by omega), show (97 : Int32).toInt = 97 by decide] at h1
  unfold gcode
  rw [if_neg (c := 97 ≤ c ∧ c < 97 + kI)]
  rw [e2, Int32.le_iff_toInt_le, Int32.lt_iff_toInt_lt, nI_toInt (by omega), show (97 : Int32).toInt = 97 by decide]
  omega
set_option maxHeartbeats 4000000 in
theorem r6_codeOf {d : Nat} {h0 h : GH} {A : Nat → Nat → Int32} {E : Nat → Nat → Int64} {M : Nat → Int32} {pv tv : Value} (hP : gP h0 h A E M pv tv) {k : Nat} (hk : M 0 = nI k) (hk3 : k ≤ 3) (c : Int32) : gR false (d + 2) yX6_codeOf [.ref 99, .int c] h (.int (gcode (M 0) c)) := by
  refine gN.of MX6_codeOf (Nat.le_of_ble_eq_true rfl) (fun J n hJ => ?_)
  show J 0 [some (.ref 99), some (.int c)] [] h (n, 0, 0, false)
  refine j_p (nx := 1) hJ dX6_codeOf_0 rfl rfl ?_
  refine j_c (nx := 3) hJ dX6_codeOf_1 rfl gk_bipush_97 ?_
  refine j_c (nx := 5) hJ dX6_codeOf_3 rfl gk_bipush_97 ?_
  refine j_p (nx := 6) hJ dX6_codeOf_5 rfl rfl ?_
  refine j_get (nx := 9) hJ dX6_codeOf_6 rfl fX6_9 hP.1.1 (by rfl) ?_
  refine j_p (nx := 10) hJ dX6_codeOf_9 rfl rfl ?_
  refine j_c (nx := 11) hJ dX6_codeOf_10 rfl gk_iconst_1 ?_
  refine j_p (nx := 12) hJ dX6_codeOf_11 rfl rfl ?_
  refine j_csR (nx := 15) hJ dX6_codeOf_12 rfl (r6_in (fl := false) (d := d) c 97 (97 + M 0 - 1)) mX6_101 rfl (gle8 rfl) ?_
  refine j_if_eq (nx := 18) (tgt := 23) hJ dX6_codeOf_15 rfl (by decide) (fun c15 => ?_) (fun c15 => ?_)
  · refine j_p (nx := 24) hJ dX6_codeOf_23 rfl rfl ?_
    refine j_c (nx := 26) hJ dX6_codeOf_24 rfl gk_bipush_88 ?_
    refine j_ic_ne (nx := 29) (tgt := 34) hJ dX6_codeOf_26 rfl (by decide) (fun c26 => ?_) (fun c26 => ?_)
    · refine j_p (nx := 35) hJ dX6_codeOf_34 rfl rfl ?_
      refine j_c (nx := 37) hJ dX6_codeOf_35 rfl gk_bipush_89 ?_
      refine j_ic_ne (nx := 40) (tgt := 45) hJ dX6_codeOf_37 rfl (by decide) (fun c37 => ?_) (fun c37 => ?_)
      · refine j_p (nx := 46) hJ dX6_codeOf_45 rfl rfl ?_
        refine j_c (nx := 48) hJ dX6_codeOf_46 rfl gk_bipush_90 ?_
        refine j_ic_ne (nx := 51) (tgt := 56) hJ dX6_codeOf_48 rfl (by decide) (fun c48 => ?_) (fun c48 => ?_)
        · refine j_p (nx := 57) hJ dX6_codeOf_56 rfl rfl ?_
          refine j_c (nx := 59) hJ dX6_codeOf_57 rfl gk_bipush_87 ?_
          refine j_ic_ne (nx := 62) (tgt := 67) hJ dX6_codeOf_59 rfl (by decide) (fun c59 => ?_) (fun c59 => ?_)
          · refine j_c (nx := 68) hJ dX6_codeOf_67 rfl gk_iconst_m1 ?_
            rw [gb_f] at c15
            exact j_iret hJ dX6_codeOf_68 ⟨by rw [gcode_out hk hk3 c15, if_neg c26, if_neg c37, if_neg c48, if_neg c59], rfl⟩
          · refine j_c (nx := 64) hJ dX6_codeOf_62 rfl gk_bipush_13 ?_
            refine j_go (tgt := 68) hJ dX6_codeOf_64 (by decide) ?_
            rw [gb_f] at c15
            exact j_iret hJ dX6_codeOf_68 ⟨by rw [gcode_out hk hk3 c15, if_neg c26, if_neg c37, if_neg c48, if_pos c59], rfl⟩
        · refine j_c (nx := 53) hJ dX6_codeOf_51 rfl gk_bipush_12 ?_
          refine j_go (tgt := 68) hJ dX6_codeOf_53 (by decide) ?_
          rw [gb_f] at c15
          exact j_iret hJ dX6_codeOf_68 ⟨by rw [gcode_out hk hk3 c15, if_neg c26, if_neg c37, if_pos c48], rfl⟩
      · refine j_c (nx := 42) hJ dX6_codeOf_40 rfl gk_bipush_11 ?_
        refine j_go (tgt := 68) hJ dX6_codeOf_42 (by decide) ?_
        rw [gb_f] at c15
        exact j_iret hJ dX6_codeOf_68 ⟨by rw [gcode_out hk hk3 c15, if_neg c26, if_pos c37], rfl⟩
    · refine j_c (nx := 31) hJ dX6_codeOf_29 rfl gk_bipush_10 ?_
      refine j_go (tgt := 68) hJ dX6_codeOf_31 (by decide) ?_
      rw [gb_f] at c15
      exact j_iret hJ dX6_codeOf_68 ⟨by rw [gcode_out hk hk3 c15, if_pos c26], rfl⟩
  · refine j_p (nx := 19) hJ dX6_codeOf_18 rfl rfl ?_
    refine j_c (nx := 21) hJ dX6_codeOf_19 rfl gk_bipush_97 ?_
    refine j_p (nx := 22) hJ dX6_codeOf_21 rfl rfl ?_
    rw [gb_t] at c15
    exact j_iret hJ dX6_codeOf_22 ⟨by rw [gcode_in hk hk3 c15], rfl⟩
set_option maxHeartbeats 4000000 in
theorem r6_clear {d : Nat} {h0 h : GH} {A : Nat → Nat → Int32} {E : Nat → Nat → Int64} {M : Nat → Int32} {pv tv : Value} (hP : gP h0 h A E M pv tv) : gN false (d + 1) yX6_clear [.ref 99] h (fun o h' => o = none ∧ ∃ A1, gP h0 h' A1 E (gU M 5 0) pv tv ∧ (∀ r, r < 6 → A1 100 (8 * r) = 10 ∧ A1 101 r = 1) ∧ (∀ r, r < 4 → A1 104 (8 * r) = 0 ∧ A1 105 r = 1) ∧ (∀ a, a ≠ 100 → a ≠ 101 → a ≠ 104 → a ≠ 105 → A1 a = A a)) := by
  refine gN.of MX6_clear (Nat.le_of_ble_eq_true rfl) (fun J n hJ => ?_)
  show J 0 [some (.ref 99), none] [] h (n, 0, 0, false)
  have loop2 : ∀ i, i ≤ 4 → ∀ (h1 : GH) (A1 : Nat → Nat → Int32), gP h0 h1 A1 E M pv tv → (∀ r, r < 6 → A1 100 (8 * r) = 10 ∧ A1 101 r = 1) → (∀ r, r < i → A1 104 (8 * r) = 0 ∧ A1 105 r = 1) → (∀ a, a ≠ 100 → a ≠ 101 → a ≠ 104 → a ≠ 105 → A1 a = A a) → J 34 [some (.ref 99), some (.int (nI i))] [] h1 (n, 0, 0, false) := by
    refine gloop _ _ (fun i hi ih h1 A1 hP1 hd hd2 hs => ?_)
    refine j_p (nx := 35) hJ dX6_clear_34 rfl rfl ?_
    refine j_c (nx := 36) hJ dX6_clear_35 rfl gk_iconst_4 ?_
    refine j_ic_ge (nx := 39) (tgt := 62) hJ dX6_clear_36 rfl (by decide) (fun c36 => ?_) (fun c36 => ?_)
    · rw [show (4 : Int32) = nI 4 from rfl, gnle (by omega) (by omega)] at c36
      refine j_p (nx := 63) hJ dX6_clear_62 rfl rfl ?_
      refine j_c (nx := 64) hJ dX6_clear_63 rfl gk_iconst_0 ?_
      refine j_put (nx := 67) hJ dX6_clear_64 rfl fX6_98 (zX6_5 _) hP1.1.1 (Nat.le_of_ble_eq_true rfl) ?_
      change J 67 _ _ (gup h1 99 (gO (gU M 5 (0)) pv tv)) _
      have hP2 := hP1.fld (gU M 5 (0)) pv tv
      exact j_vret hJ dX6_clear_67 ⟨rfl, A1, hP2, hd, fun r hr => hd2 r (by omega), hs⟩
    · rw [show (4 : Int32) = nI 4 from rfl, gnle (by omega) (by omega)] at c36
      have hil : i < 4 := by omega
      refine j_p (nx := 40) hJ dX6_clear_39 rfl rfl ?_
      refine j_get (nx := 43) hJ dX6_clear_40 rfl fX6_28 hP1.1.1 (by rfl) ?_
      refine j_c (nx := 45) hJ dX6_clear_43 rfl gk_bipush_8 ?_
      refine j_p (nx := 46) hJ dX6_clear_45 rfl rfl ?_
      refine j_p (nx := 47) hJ dX6_clear_46 rfl rfl ?_
      rw [show (8 : Int32) = nI 8 from rfl, gmul]
      refine j_c (nx := 48) hJ dX6_clear_47 rfl gk_iconst_0 ?_
      refine j_iast (j := 8 * i) (nx := 49) hJ dX6_clear_48 rfl (show h1 104 = some (gia 32 (A1 104)) from hP1.a 104 (by unfold gia'; omega)) rfl (by omega) (by decide) ?_
      have hP2 := hP1.arr (a := 104) (by unfold gia'; omega) (upd (A1 104) (8 * i) (0))
      refine j_p (nx := 50) hJ dX6_clear_49 rfl rfl ?_
      refine j_get (nx := 53) hJ dX6_clear_50 rfl fX6_31 hP2.1.1 (by rfl) ?_
      refine j_p (nx := 54) hJ dX6_clear_53 rfl rfl ?_
      refine j_c (nx := 55) hJ dX6_clear_54 rfl gk_iconst_1 ?_
      refine j_iast (j := i) (nx := 56) hJ dX6_clear_55 rfl (show (gup h1 104 (gia 32 (upd (A1 104) (8 * i) 0))) 105 = some (gia 4 ((gU A1 104 (upd (A1 104) (8 * i) 0)) 105)) from hP2.a 105 (by unfold gia'; omega)) rfl (by omega) (by decide) ?_
      have hP3 := hP2.arr (a := 105) (by unfold gia'; omega) (upd ((gU A1 104 (upd (A1 104) (8 * i) 0)) 105) (i) (1))
      refine j_inc (nx := 59) hJ dX6_clear_56 rfl rfl (gi1 i) rfl ?_
      refine j_go (tgt := 34) hJ dX6_clear_59 (by decide) ?_
      refine ih hil _ _ hP3 (fun r hr => ?_) (fun r hr => ?_) (fun a p1 p2 p3 p4 => by rw [gU_n _ _ p4, gU_n _ _ p3]; exact hs a p1 p2 p3 p4)
      · rw [gU_n _ _ (by omega), gU_n _ _ (by omega), gU_n _ _ (by omega), gU_n _ _ (by omega)]; exact hd r hr
      · rw [gU_n (r := 105) _ _ (by omega), gU_s, gU_s, gU_n (r := 104) _ _ (by omega)]
        by_cases e : r = i
        · subst e; exact ⟨by simp [upd], by simp [upd]⟩
        · obtain ⟨u1, u2⟩ := hd2 r (by omega)
          exact ⟨by simp only [upd]; rw [if_neg (by omega)]; exact u1, by simp only [upd]; rw [if_neg e]; exact u2⟩
  have loop1 : ∀ i, i ≤ 6 → ∀ (h1 : GH) (A1 : Nat → Nat → Int32), gP h0 h1 A1 E M pv tv → (∀ r, r < i → A1 100 (8 * r) = 10 ∧ A1 101 r = 1) → (∀ a, a ≠ 100 → a ≠ 101 → A1 a = A a) → J 2 [some (.ref 99), some (.int (nI i))] [] h1 (n, 0, 0, false) := by
    refine gloop _ _ (fun i hi ih h1 A1 hP1 hd hs => ?_)
    refine j_p (nx := 3) hJ dX6_clear_2 rfl rfl ?_
    refine j_c (nx := 5) hJ dX6_clear_3 rfl gk_bipush_6 ?_
    refine j_ic_ge (nx := 8) (tgt := 32) hJ dX6_clear_5 rfl (by decide) (fun c5 => ?_) (fun c5 => ?_)
    · refine j_c (nx := 33) hJ dX6_clear_32 rfl gk_iconst_0 ?_
      refine j_p (nx := 34) hJ dX6_clear_33 rfl rfl ?_
      rw [show (6 : Int32) = nI 6 from rfl, gnle (by omega) (by omega)] at c5
      exact loop2 0 (Nat.zero_le _) h1 A1 hP1 (fun r hr => hd r (by omega)) (fun r hr => by omega) (fun a p1 p2 _ _ => hs a p1 p2)
    · rw [show (6 : Int32) = nI 6 from rfl, gnle (by omega) (by omega)] at c5
      have hil : i < 6 := by omega
      refine j_p (nx := 9) hJ dX6_clear_8 rfl rfl ?_
      refine j_get (nx := 12) hJ dX6_clear_9 rfl fX6_15 hP1.1.1 (by rfl) ?_
      refine j_c (nx := 14) hJ dX6_clear_12 rfl gk_bipush_8 ?_
      refine j_p (nx := 15) hJ dX6_clear_14 rfl rfl ?_
      refine j_p (nx := 16) hJ dX6_clear_15 rfl rfl ?_
      rw [show (8 : Int32) = nI 8 from rfl, gmul]
      refine j_c (nx := 18) hJ dX6_clear_16 rfl gk_bipush_10 ?_
      refine j_iast (j := 8 * i) (nx := 19) hJ dX6_clear_18 rfl (show h1 100 = some (gia 48 (A1 100)) from hP1.a 100 (by unfold gia'; omega)) rfl (by omega) (by decide) ?_
      have hP2 := hP1.arr (a := 100) (by unfold gia'; omega) (upd (A1 100) (8 * i) (10))
      refine j_p (nx := 20) hJ dX6_clear_19 rfl rfl ?_
      refine j_get (nx := 23) hJ dX6_clear_20 rfl fX6_19 hP2.1.1 (by rfl) ?_
      refine j_p (nx := 24) hJ dX6_clear_23 rfl rfl ?_
      refine j_c (nx := 25) hJ dX6_clear_24 rfl gk_iconst_1 ?_
      refine j_iast (j := i) (nx := 26) hJ dX6_clear_25 rfl (show (gup h1 100 (gia 48 (upd (A1 100) (8 * i) 10))) 101 = some (gia 6 ((gU A1 100 (upd (A1 100) (8 * i) 10)) 101)) from hP2.a 101 (by unfold gia'; omega)) rfl (by omega) (by decide) ?_
      have hP3 := hP2.arr (a := 101) (by unfold gia'; omega) (upd ((gU A1 100 (upd (A1 100) (8 * i) 10)) 101) (i) (1))
      refine j_inc (nx := 29) hJ dX6_clear_26 rfl rfl (gi1 i) rfl ?_
      refine j_go (tgt := 2) hJ dX6_clear_29 (by decide) ?_
      refine ih hil _ _ hP3 (fun r hr => ?_) (fun a p1 p2 => by rw [gU_n _ _ p2, gU_n _ _ p1]; exact hs a p1 p2)
      rw [gU_n (r := 101) _ _ (by omega), gU_s, gU_s, gU_n (r := 100) _ _ (by omega)]
      by_cases e : r = i
      · subst e; exact ⟨by simp [upd], by simp [upd]⟩
      · obtain ⟨u1, u2⟩ := hd r (by omega)
        exact ⟨by simp only [upd]; rw [if_neg (by omega)]; exact u1, by simp only [upd]; rw [if_neg e]; exact u2⟩
  refine j_c (nx := 1) hJ dX6_clear_0 rfl gk_iconst_0 ?_
  refine j_p (nx := 2) hJ dX6_clear_1 rfl rfl ?_
  exact loop1 0 (Nat.zero_le _) h A hP (fun r hr => by omega) (fun a _ _ => rfl)
