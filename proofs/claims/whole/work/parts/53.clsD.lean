def gcmp (x y : Int32) : Int32 := if x < y then -1 else if x = y then 0 else 1
def glex : List Int32 → List Int32 → Int32
  | x :: xs, y :: ys => if x = y then glex xs ys else if x < y then 1 else -1
  | _, _ => 0
def gadv (a b : List Int32) : Int32 := if a.length = b.length then (if gcmp (gltr a) (gltr b) = 0 then (if gcmp (gvar b) (gvar a) = 0 then glex a b else gcmp (gvar b) (gvar a)) else gcmp (gltr a) (gltr b)) else if b.length < a.length then 1 else -1
theorem gdropD {l : List Int32} {i : Nat} (h : i < l.length) : l.drop i = l.getD i (-1) :: l.drop (i + 1) := by
  rw [List.drop_eq_getElem_cons h, List.getD_eq_getElem?_getD, List.getElem?_eq_getElem h]; rfl
def s_compareQuality (R : Nat → List Int32) (x y : Int32) : Int32 := if gbt x 6 = true ∧ gbt y 6 = true then 1 + gadv (R (gr x)) (R (gr y)) else -2
set_option maxHeartbeats 4000000 in
theorem r_advantage {fl : Bool} {d : Nat} {h : GH} {r q cr s t cs : Nat} {a b : List Int32} (hA : gRow h r q cr a) (hB : gRow h s t cs b) : gR fl (d + 4) yX5_advantage [.ref r, .ref s] h (.int (gadv a b)) := by
  have hAr := hA.2.2.2.1
  have hBr := hB.2.2.2.1
  have hAc := hA.2.2.1
  have hAl := hA.2.1
  have hBc := hB.2.2.1
  have hBl := hB.2.1
  refine gN.of MX5_advantage (Nat.le_of_ble_eq_true rfl) (fun J n hJ => ?_)
  show J 0 [some (.ref r), some (.ref s), none, none, none] [] h (n, 0, 0, fl)
  refine j_p (nx := 1) hJ dX5_advantage_0 rfl rfl ?_
  refine j_get (nx := 4) hJ dX5_advantage_1 rfl fX5_68 (by repeat (first | assumption | exact gup_same _ _ _ | rw [gup_ne _ _ (by first | decide | assumption | omega)])) (by rfl) ?_
  refine j_p (nx := 5) hJ dX5_advantage_4 rfl rfl ?_
  refine j_get (nx := 8) hJ dX5_advantage_5 rfl fX5_68 (by repeat (first | assumption | exact gup_same _ _ _ | rw [gup_ne _ _ (by first | decide | assumption | omega)])) (by rfl) ?_
  refine j_ic_eq (nx := 11) (tgt := 28) hJ dX5_advantage_8 rfl (by decide) (fun c8 => ?_) (fun c8 => ?_)
  · rw [gneq (by omega) (by omega)] at c8
    refine j_p (nx := 29) hJ dX5_advantage_28 rfl rfl ?_
    refine j_cvR (nx := 32) hJ dX5_advantage_29 rfl (r_letterCount (fl := fl) (d := d + 1) hA) mX5_85 (by repeat (first | assumption | exact gup_same _ _ _ | rw [gup_ne _ _ (by first | decide | assumption | omega)])) kX2_letterCount rfl (gle8 rfl) ?_
    refine j_p (nx := 33) hJ dX5_advantage_32 rfl rfl ?_
    refine j_cvR (nx := 36) hJ dX5_advantage_33 rfl (r_letterCount (fl := fl) (d := d + 1) hB) mX5_85 (by repeat (first | assumption | exact gup_same _ _ _ | rw [gup_ne _ _ (by first | decide | assumption | omega)])) kX2_letterCount rfl (gle8 rfl) ?_
    refine j_csR (nx := 39) hJ dX5_advantage_36 rfl (r_compare (fl := fl) (d := d + 2) _ _) mX5_137 rfl (gle8 rfl) ?_
    change J 39 _ [.int (gcmp (gltr a) (gltr b))] _ _
    refine j_p (nx := 40) hJ dX5_advantage_39 rfl rfl ?_
    refine j_p (nx := 41) hJ dX5_advantage_40 rfl rfl ?_
    refine j_if_eq (nx := 44) (tgt := 46) hJ dX5_advantage_41 rfl (by decide) (fun c41 => ?_) (fun c41 => ?_)
    · refine j_p (nx := 47) hJ dX5_advantage_46 rfl rfl ?_
      refine j_cvR (nx := 50) hJ dX5_advantage_47 rfl (r_variablesIn (fl := fl) (d := d + 1) hB) mX5_123 (by repeat (first | assumption | exact gup_same _ _ _ | rw [gup_ne _ _ (by first | decide | assumption | omega)])) kX2_variablesIn rfl (gle8 rfl) ?_
      refine j_p (nx := 51) hJ dX5_advantage_50 rfl rfl ?_
      refine j_cvR (nx := 54) hJ dX5_advantage_51 rfl (r_variablesIn (fl := fl) (d := d + 1) hA) mX5_123 (by repeat (first | assumption | exact gup_same _ _ _ | rw [gup_ne _ _ (by first | decide | assumption | omega)])) kX2_variablesIn rfl (gle8 rfl) ?_
      refine j_csR (nx := 57) hJ dX5_advantage_54 rfl (r_compare (fl := fl) (d := d + 2) _ _) mX5_137 rfl (gle8 rfl) ?_
      change J 57 _ [.int (gcmp (gvar b) (gvar a))] _ _
      refine j_p (nx := 58) hJ dX5_advantage_57 rfl rfl ?_
      refine j_p (nx := 59) hJ dX5_advantage_58 rfl rfl ?_
      refine j_if_eq (nx := 62) (tgt := 64) hJ dX5_advantage_59 rfl (by decide) (fun c59 => ?_) (fun c59 => ?_)
      · have e0 : gadv a b = glex a b := by unfold gadv; rw [if_pos c8, if_pos c41, if_pos c59]
        rw [c41, c59]
        have loop : ∀ i, i ≤ a.length → glex a b = glex (a.drop i) (b.drop i) → J 67 [some (.ref r), some (.ref s), some (.int 0), some (.int 0), some (.int (nI i))] [] h (n, 0, 0, fl) := by
          refine gloop _ _ (fun i hi ih hg => ?_)
          refine j_p (nx := 69) hJ dX5_advantage_67 rfl rfl ?_
          refine j_p (nx := 70) hJ dX5_advantage_69 rfl rfl ?_
          refine j_get (nx := 73) hJ dX5_advantage_70 rfl fX5_68 (by repeat (first | assumption | exact gup_same _ _ _ | rw [gup_ne _ _ (by first | decide | assumption | omega)])) (by rfl) ?_
          refine j_ic_ge (nx := 76) (tgt := 118) hJ dX5_advantage_73 rfl (by decide) (fun c73 => ?_) (fun c73 => ?_)
          · refine j_c (nx := 119) hJ dX5_advantage_118 rfl gk_iconst_0 ?_
            rw [gnle (by omega) (by omega)] at c73
            rw [List.drop_eq_nil_of_le (by omega)] at hg
            exact j_iret hJ dX5_advantage_119 ⟨by rw [e0, hg]; rfl, rfl⟩
          · rw [gnle (by omega) (by omega)] at c73
            have hkl : i < a.length := by omega
            have hkb : i < b.length := by omega
            refine j_p (nx := 77) hJ dX5_advantage_76 rfl rfl ?_
            refine j_p (nx := 79) hJ dX5_advantage_77 rfl rfl ?_
            refine j_cvR (nx := 82) hJ dX5_advantage_79 rfl (r_at (fl := fl) (d := d + 2) hA (nI i)) mX5_92 (by repeat (first | assumption | exact gup_same _ _ _ | rw [gup_ne _ _ (by first | decide | assumption | omega)])) kX2_at rfl (gle8 rfl) ?_
            rw [gat_nI (by omega)]
            refine j_p (nx := 83) hJ dX5_advantage_82 rfl rfl ?_
            refine j_p (nx := 85) hJ dX5_advantage_83 rfl rfl ?_
            refine j_cvR (nx := 88) hJ dX5_advantage_85 rfl (r_at (fl := fl) (d := d + 2) hB (nI i)) mX5_92 (by repeat (first | assumption | exact gup_same _ _ _ | rw [gup_ne _ _ (by first | decide | assumption | omega)])) kX2_at rfl (gle8 rfl) ?_
            rw [gat_nI (by omega)]
            refine j_ic_eq (nx := 91) (tgt := 112) hJ dX5_advantage_88 rfl (by decide) (fun c88 => ?_) (fun c88 => ?_)
            · refine j_inc (nx := 115) hJ dX5_advantage_112 rfl rfl (gi1 i) rfl ?_
              refine j_go (tgt := 67) hJ dX5_advantage_115 (by decide) ?_
              refine ih hkl ?_
              rw [hg, gdropD hkl, gdropD hkb]
              exact if_pos c88
            · refine j_p (nx := 92) hJ dX5_advantage_91 rfl rfl ?_
              refine j_p (nx := 94) hJ dX5_advantage_92 rfl rfl ?_
              refine j_cvR (nx := 97) hJ dX5_advantage_94 rfl (r_at (fl := fl) (d := d + 2) hA (nI i)) mX5_92 (by repeat (first | assumption | exact gup_same _ _ _ | rw [gup_ne _ _ (by first | decide | assumption | omega)])) kX2_at rfl (gle8 rfl) ?_
              rw [gat_nI (by omega)]
              refine j_p (nx := 98) hJ dX5_advantage_97 rfl rfl ?_
              refine j_p (nx := 100) hJ dX5_advantage_98 rfl rfl ?_
              refine j_cvR (nx := 103) hJ dX5_advantage_100 rfl (r_at (fl := fl) (d := d + 2) hB (nI i)) mX5_92 (by repeat (first | assumption | exact gup_same _ _ _ | rw [gup_ne _ _ (by first | decide | assumption | omega)])) kX2_at rfl (gle8 rfl) ?_
              rw [gat_nI (by omega)]
              refine j_ic_ge (nx := 106) (tgt := 110) hJ dX5_advantage_103 rfl (by decide) (fun c103 => ?_) (fun c103 => ?_)
              · refine j_c (nx := 111) hJ dX5_advantage_110 rfl gk_iconst_m1 ?_
                rw [gdropD hkl, gdropD hkb] at hg
                have e9 : glex a b = -1 := by rw [hg]; show (if _ then _ else _) = _; rw [if_neg c88, if_neg (by rw [Int32.le_iff_toInt_le] at c103; rw [Int32.lt_iff_toInt_lt]; omega)]
                exact j_iret hJ dX5_advantage_111 ⟨by rw [e0, e9], rfl⟩
              · refine j_c (nx := 107) hJ dX5_advantage_106 rfl gk_iconst_1 ?_
                refine j_go (tgt := 111) hJ dX5_advantage_107 (by decide) ?_
                rw [gdropD hkl, gdropD hkb] at hg
                have e9 : glex a b = 1 := by rw [hg]; show (if _ then _ else _) = _; rw [if_neg c88, if_pos (by rw [Int32.le_iff_toInt_le] at c103; rw [Int32.lt_iff_toInt_lt]; omega)]
                exact j_iret hJ dX5_advantage_111 ⟨by rw [e0, e9], rfl⟩
        refine j_c (nx := 65) hJ dX5_advantage_64 rfl gk_iconst_0 ?_
        refine j_p (nx := 67) hJ dX5_advantage_65 rfl rfl ?_
        exact loop 0 (Nat.zero_le _) rfl
      · refine j_p (nx := 63) hJ dX5_advantage_62 rfl rfl ?_
        have e0 : gadv a b = gcmp (gvar b) (gvar a) := by unfold gadv; rw [if_pos c8, if_pos c41, if_neg c59]
        exact j_iret hJ dX5_advantage_63 ⟨by rw [e0], rfl⟩
    · refine j_p (nx := 45) hJ dX5_advantage_44 rfl rfl ?_
      have e0 : gadv a b = gcmp (gltr a) (gltr b) := by unfold gadv; rw [if_pos c8, if_neg c41]
      exact j_iret hJ dX5_advantage_45 ⟨by rw [e0], rfl⟩
  · rw [gneq (by omega) (by omega)] at c8
    refine j_p (nx := 12) hJ dX5_advantage_11 rfl rfl ?_
    refine j_get (nx := 15) hJ dX5_advantage_12 rfl fX5_68 (by repeat (first | assumption | exact gup_same _ _ _ | rw [gup_ne _ _ (by first | decide | assumption | omega)])) (by rfl) ?_
    refine j_p (nx := 16) hJ dX5_advantage_15 rfl rfl ?_
    refine j_get (nx := 19) hJ dX5_advantage_16 rfl fX5_68 (by repeat (first | assumption | exact gup_same _ _ _ | rw [gup_ne _ _ (by first | decide | assumption | omega)])) (by rfl) ?_
    refine j_ic_le (nx := 22) (tgt := 26) hJ dX5_advantage_19 rfl (by decide) (fun c19 => ?_) (fun c19 => ?_)
    · refine j_c (nx := 27) hJ dX5_advantage_26 rfl gk_iconst_m1 ?_
      rw [gnle (by omega) (by omega)] at c19
      have e0 : gadv a b = -1 := by unfold gadv; rw [if_neg c8, if_neg (by omega)]
      exact j_iret hJ dX5_advantage_27 ⟨by rw [e0], rfl⟩
    · refine j_c (nx := 23) hJ dX5_advantage_22 rfl gk_iconst_1 ?_
      refine j_go (tgt := 27) hJ dX5_advantage_23 (by decide) ?_
      rw [gnle (by omega) (by omega)] at c19
      have e0 : gadv a b = 1 := by unfold gadv; rw [if_neg c8, if_pos (by omega)]
      exact j_iret hJ dX5_advantage_27 ⟨by rw [e0], rfl⟩
set_option maxHeartbeats 4000000 in
theorem r_compareQuality {fl : Bool} {d : Nat} {h0 h : GH} {R : Nat → List Int32} {N : Nat → Int32} (hQ : gQ h0 h R N) (x y : Int32) : gN fl (d + 60) yX5_compareQuality [.ref 0, .int x, .int y] h (fun o h' => o = some (.int (s_compareQuality R x y)) ∧ gC h0 h' R N) := by
  have q0 := hQ.1.1
  have q1 := hQ.1.2.1.1
  have q2 := hQ.1.2.1.2.1
  have q3 := hQ.1.2.1.2.2.1
  have q4 := hQ.1.2.1.2.2.2
  have q75 := hQ.1.2.2.2.1
  have q80 := hQ.1.2.2.2.2.2.1.1
  obtain ⟨_, _, _, _, _, _, q76x⟩ := id hQ.1.2.2.2.2.2.2.1
  have q76 := q76x.1
  refine gN.of MX5_compareQuality (Nat.le_of_ble_eq_true rfl) (fun J n hJ => ?_)
  show J 0 [some (.ref 0), some (.int x), some (.int y)] [] h (n, 0, 0, fl)
  by_cases hx : gbt x 6 = true
  · obtain ⟨r, rfl, hr⟩ := gbt_spec hx
    have egr := gr_nI (r := r) (by omega)
    by_cases hy : gbt y 6 = true
    · obtain ⟨s, rfl, hs⟩ := gbt_spec hy
      have egs := gr_nI (r := s) (by omega)
      refine j_p (nx := 1) hJ dX5_compareQuality_0 rfl rfl ?_
      refine j_csR (nx := 4) hJ dX5_compareQuality_1 rfl (r_isRegister (fl := fl) (d := d + 58) _) mX5_112 rfl (gle8 rfl) ?_
      rw [show gbt _ 6 = true from hx]
      refine j_if_eq (nx := 7) (tgt := 14) hJ dX5_compareQuality_4 rfl (by decide) (fun c4 => absurd c4 (by decide)) (fun c4 => ?_)
      refine j_p (nx := 8) hJ dX5_compareQuality_7 rfl rfl ?_
      refine j_csR (nx := 11) hJ dX5_compareQuality_8 rfl (r_isRegister (fl := fl) (d := d + 58) _) mX5_112 rfl (gle8 rfl) ?_
      rw [show gbt _ 6 = true from hy]
      refine j_if_ne (nx := 14) (tgt := 17) hJ dX5_compareQuality_11 rfl (by decide) (fun c11 => ?_) (fun c11 => absurd c11 (by decide))
      refine j_c (nx := 18) hJ dX5_compareQuality_17 rfl gk_iconst_1 ?_
      refine j_p (nx := 19) hJ dX5_compareQuality_18 rfl rfl ?_
      refine j_get (nx := 22) hJ dX5_compareQuality_19 rfl fX5_12 (by repeat (first | assumption | exact gup_same _ _ _ | rw [gup_ne _ _ (by first | decide | assumption | omega)])) (by rfl) ?_
      refine j_get (nx := 25) hJ dX5_compareQuality_22 rfl fX5_119 (by repeat (first | assumption | exact gup_same _ _ _ | rw [gup_ne _ _ (by first | decide | assumption | omega)])) (by rfl) ?_
      refine j_p (nx := 26) hJ dX5_compareQuality_25 rfl rfl ?_
      refine j_aald (j := r) (nx := 27) hJ dX5_compareQuality_26 rfl q2 rfl (by omega) (by decide) (by decide) rfl ?_
      have hR := hQ.r8 (r := 5 + 2 * r) (by unfold gisR; omega) (by omega) (by omega)
      have hRr := hR.2.2.2.1
      refine j_p (nx := 28) hJ dX5_compareQuality_27 rfl rfl ?_
      refine j_get (nx := 31) hJ dX5_compareQuality_28 rfl fX5_12 (by repeat (first | assumption | exact gup_same _ _ _ | rw [gup_ne _ _ (by first | decide | assumption | omega)])) (by rfl) ?_
      refine j_get (nx := 34) hJ dX5_compareQuality_31 rfl fX5_119 (by repeat (first | assumption | exact gup_same _ _ _ | rw [gup_ne _ _ (by first | decide | assumption | omega)])) (by rfl) ?_
      refine j_p (nx := 35) hJ dX5_compareQuality_34 rfl rfl ?_
      refine j_aald (j := s) (nx := 36) hJ dX5_compareQuality_35 rfl q2 rfl (by omega) (by decide) (by decide) rfl ?_
      have hS := hQ.r8 (r := 5 + 2 * s) (by unfold gisR; omega) (by omega) (by omega)
      have hSr := hS.2.2.2.1
      refine j_csR (nx := 39) hJ dX5_compareQuality_36 rfl (r_advantage (fl := fl) (d := d + 55) hR hS) mX5_133 rfl (gle8 rfl) ?_
      refine j_p (nx := 40) hJ dX5_compareQuality_39 rfl rfl ?_
      have e : s_compareQuality R (nI r) (nI s) = 1 + gadv (R (5 + 2 * r)) (R (5 + 2 * s)) := by unfold s_compareQuality; rw [if_pos ⟨hx, hy⟩, egr, egs]
      exact j_iret hJ dX5_compareQuality_40 ⟨by rw [e], hQ.c⟩
    · refine j_p (nx := 1) hJ dX5_compareQuality_0 rfl rfl ?_
      refine j_csR (nx := 4) hJ dX5_compareQuality_1 rfl (r_isRegister (fl := fl) (d := d + 58) _) mX5_112 rfl (gle8 rfl) ?_
      rw [show gbt _ 6 = true from hx]
      refine j_if_eq (nx := 7) (tgt := 14) hJ dX5_compareQuality_4 rfl (by decide) (fun c4 => absurd c4 (by decide)) (fun c4 => ?_)
      refine j_p (nx := 8) hJ dX5_compareQuality_7 rfl rfl ?_
      refine j_csR (nx := 11) hJ dX5_compareQuality_8 rfl (r_isRegister (fl := fl) (d := d + 58) _) mX5_112 rfl (gle8 rfl) ?_
      rw [show gbt _ 6 = false from Bool.eq_false_iff.mpr hy]
      refine j_if_ne (nx := 14) (tgt := 17) hJ dX5_compareQuality_11 rfl (by decide) (fun c11 => absurd c11 (by decide)) (fun c11 => ?_)
      refine j_c (nx := 16) hJ dX5_compareQuality_14 rfl gk_bipush_m2 ?_
      have e : s_compareQuality R (nI r) y = -2 := if_neg (fun q => hy q.2)
      exact j_iret hJ dX5_compareQuality_16 ⟨by rw [e], hQ.c⟩
  · refine j_p (nx := 1) hJ dX5_compareQuality_0 rfl rfl ?_
    refine j_csR (nx := 4) hJ dX5_compareQuality_1 rfl (r_isRegister (fl := fl) (d := d + 58) _) mX5_112 rfl (gle8 rfl) ?_
    rw [show gbt _ 6 = false from Bool.eq_false_iff.mpr hx]
    refine j_if_eq (nx := 7) (tgt := 14) hJ dX5_compareQuality_4 rfl (by decide) (fun c4 => ?_) (fun c4 => absurd c4 (by decide))
    refine j_c (nx := 16) hJ dX5_compareQuality_14 rfl gk_bipush_m2 ?_
    have e : s_compareQuality R x y = -2 := if_neg (fun q => hx q.1)
    exact j_iret hJ dX5_compareQuality_16 ⟨by rw [e], hQ.c⟩
def gpfv (l : List Int32) (v c : Int32) : List Int32 := gcan (l.map (fun y => if 10 + v ≤ y ∧ y ≤ 10 + v then c else y))
def s_replace (R : Nat → List Int32) (N : Nat → Int32) (x v c : Int32) : Int32 × (Nat → List Int32) × (Nat → Int32) := if gbt x 6 = true then (if ghv (R (gr x)) v = true then (if 0 ≤ c.toInt ∧ c < N 1 then (gvar (gpfv (R (gr x)) v c), gU R (gr x) (gpfv (R (gr x)) v c), N) else (-1, R, N)) else (-3, R, N)) else (-2, R, N)
def s_merge (R : Nat → List Int32) (N : Nat → Int32) (x v w : Int32) : Int32 × (Nat → List Int32) × (Nat → Int32) := if gbt x 6 = true then (if ghv (R (gr x)) v = true ∧ ghv (R (gr x)) w = true then (if v = w then (-1, R, N) else (gvar (gpfv (R (gr x)) v (10 + w)), gU R (gr x) (gpfv (R (gr x)) v (10 + w)), N)) else (-3, R, N)) else (-2, R, N)
set_option maxHeartbeats 4000000 in
theorem r_putForVariable {fl : Bool} {d : Nat} {h0 h : GH} {R : Nat → List Int32} {N : Nat → Int32} (hQ : gQ h0 h R N) {r : Nat} (hr : r < 6) (v c : Int32) : gN fl (d + 5) yX5_putForVariable [.ref 0, .int (nI r), .int v, .int c] h (fun o h' => o = some (.int (gvar (gpfv (R (5 + 2 * r)) v c))) ∧ gQ h0 h' (gU R (5 + 2 * r) (gpfv (R (5 + 2 * r)) v c)) N) := by
  have q0 := hQ.1.1
  have q1 := hQ.1.2.1.1
  have q2 := hQ.1.2.1.2.1
  have q3 := hQ.1.2.1.2.2.1
  have q4 := hQ.1.2.1.2.2.2
  have q75 := hQ.1.2.2.2.1
  have q80 := hQ.1.2.2.2.2.2.1.1
  obtain ⟨_, _, _, _, _, _, q76x⟩ := id hQ.1.2.2.2.2.2.2.1
  have q76 := q76x.1
  refine gN.of MX5_putForVariable (Nat.le_of_ble_eq_true rfl) (fun J n hJ => ?_)
  show J 0 [some (.ref 0), some (.int (nI r)), some (.int v), some (.int c), none] [] h (n, 0, 0, fl)
  refine j_p (nx := 1) hJ dX5_putForVariable_0 rfl rfl ?_
  refine j_get (nx := 4) hJ dX5_putForVariable_1 rfl fX5_12 (by repeat (first | assumption | exact gup_same _ _ _ | rw [gup_ne _ _ (by first | decide | assumption | omega)])) (by rfl) ?_
  refine j_get (nx := 7) hJ dX5_putForVariable_4 rfl fX5_119 (by repeat (first | assumption | exact gup_same _ _ _ | rw [gup_ne _ _ (by first | decide | assumption | omega)])) (by rfl) ?_
  refine j_p (nx := 8) hJ dX5_putForVariable_7 rfl rfl ?_
  refine j_aald (j := r) (nx := 9) hJ dX5_putForVariable_8 rfl q2 rfl (by omega) (by decide) (by decide) rfl ?_
  have hR := hQ.r8 (r := 5 + 2 * r) (by unfold gisR; omega) (by omega) (by omega)
  have hRr := hR.2.2.2.1
  refine j_p (nx := 11) hJ dX5_putForVariable_9 rfl rfl ?_
  refine j_p (nx := 13) hJ dX5_putForVariable_11 rfl rfl ?_
  refine j_c (nx := 15) hJ dX5_putForVariable_13 rfl gk_bipush_10 ?_
  refine j_p (nx := 16) hJ dX5_putForVariable_15 rfl rfl ?_
  refine j_p (nx := 17) hJ dX5_putForVariable_16 rfl rfl ?_
  refine j_c (nx := 19) hJ dX5_putForVariable_17 rfl gk_bipush_10 ?_
  refine j_p (nx := 20) hJ dX5_putForVariable_19 rfl rfl ?_
  refine j_p (nx := 21) hJ dX5_putForVariable_20 rfl rfl ?_
  refine j_p (nx := 22) hJ dX5_putForVariable_21 rfl rfl ?_
  refine j_cv (nx := 25) hJ dX5_putForVariable_22 rfl (r_putForCodes (fl := fl) (d := d + 1) hR (10 + v) (10 + v) c) mX5_154 (by repeat (first | assumption | exact gup_same _ _ _ | rw [gup_ne _ _ (by first | decide | assumption | omega)])) kX2_putForCodes rfl (gle8 rfl) (fun o h2 hp => ?_)
  obtain ⟨rfl, hR2, hF2⟩ := hp
  have hQ2 := hQ.row8 (r := 5 + 2 * r) (by unfold gisR; omega) (by omega) (by omega) hR2 hF2
  have hR2r := hR2.2.2.2.1
  refine j_p (nx := 27) hJ dX5_putForVariable_25 rfl rfl ?_
  refine j_cv (nx := 30) hJ dX5_putForVariable_27 rfl (r_makeCanonical (fl := fl) (d := d) hR2) mX5_89 (by repeat (first | assumption | exact gup_same _ _ _ | rw [gup_ne _ _ (by first | decide | assumption | omega)])) kX2_makeCanonical rfl (gle8 rfl) (fun o h3 hp => ?_)
  obtain ⟨rfl, hR3, hF3⟩ := hp
  have hQ3 := hQ2.row8 (r := 5 + 2 * r) (by unfold gisR; omega) (by omega) (by omega) hR3 hF3
  have hR3r := hR3.2.2.2.1
  refine j_p (nx := 32) hJ dX5_putForVariable_30 rfl rfl ?_
  refine j_cvR (nx := 35) hJ dX5_putForVariable_32 rfl (r_variablesIn (fl := fl) (d := d + 2) hR3) mX5_123 (by repeat (first | assumption | exact gup_same _ _ _ | rw [gup_ne _ _ (by first | decide | assumption | omega)])) kX2_variablesIn rfl (gle8 rfl) ?_
  exact j_iret hJ dX5_putForVariable_35 ⟨rfl, hQ3.rw (fun a => by simp only [gU]; split; rfl; rfl) (fun _ => rfl)⟩
set_option maxHeartbeats 4000000 in
theorem r_replace {fl : Bool} {d : Nat} {h0 h : GH} {R : Nat → List Int32} {N : Nat → Int32} (hQ : gQ h0 h R N) (x v c : Int32) : gN fl (d + 60) yX5_replace [.ref 0, .int x, .int v, .int c] h (fun o h' => o = some (.int (s_replace R N x v c).1) ∧ gC h0 h' (s_replace R N x v c).2.1 (s_replace R N x v c).2.2) := by
  have q0 := hQ.1.1
  have q1 := hQ.1.2.1.1
  have q2 := hQ.1.2.1.2.1
  have q3 := hQ.1.2.1.2.2.1
  have q4 := hQ.1.2.1.2.2.2
  have q75 := hQ.1.2.2.2.1
  have q80 := hQ.1.2.2.2.2.2.1.1
  obtain ⟨_, _, _, _, _, _, q76x⟩ := id hQ.1.2.2.2.2.2.2.1
  have q76 := q76x.1
  refine gN.of MX5_replace (Nat.le_of_ble_eq_true rfl) (fun J n hJ => ?_)
  show J 0 [some (.ref 0), some (.int x), some (.int v), some (.int c)] [] h (n, 0, 0, fl)
  by_cases hx : gbt x 6 = true
  · obtain ⟨r, rfl, hr⟩ := gbt_spec hx
    have egr := gr_nI (r := r) (by omega)
    refine j_p (nx := 1) hJ dX5_replace_0 rfl rfl ?_
    refine j_csR (nx := 4) hJ dX5_replace_1 rfl (r_isRegister (fl := fl) (d := d + 58) _) mX5_112 rfl (gle8 rfl) ?_
    rw [show gbt _ 6 = true from hx]
    refine j_if_ne (nx := 7) (tgt := 10) hJ dX5_replace_4 rfl (by decide) (fun c4 => ?_) (fun c4 => absurd c4 (by decide))
    refine j_p (nx := 11) hJ dX5_replace_10 rfl rfl ?_
    refine j_p (nx := 12) hJ dX5_replace_11 rfl rfl ?_
    refine j_p (nx := 13) hJ dX5_replace_12 rfl rfl ?_
    refine j_cvR (nx := 16) hJ dX5_replace_13 rfl (r_hasVariable (fl := fl) (d := d + 56) hQ hr v) mX5_126 (by repeat (first | assumption | exact gup_same _ _ _ | rw [gup_ne _ _ (by first | decide | assumption | omega)])) kX5_hasVariable rfl (gle8 rfl) ?_
    refine j_if_ne (nx := 19) (tgt := 22) hJ dX5_replace_16 rfl (by decide) (fun c16 => ?_) (fun c16 => ?_)
    · refine j_p (nx := 23) hJ dX5_replace_22 rfl rfl ?_
      refine j_if_lt (nx := 26) (tgt := 37) hJ dX5_replace_23 rfl (by decide) (fun c23 => ?_) (fun c23 => ?_)
      · refine j_c (nx := 38) hJ dX5_replace_37 rfl gk_iconst_m1 ?_
        rw [gb_t] at c16
        rw [gcz0] at c23
        have e : s_replace R N (nI r) v c = (-1, R, N) := by unfold s_replace; rw [if_pos hx, egr, if_pos c16, if_neg (fun q => by first | exact c34 q.2 | omega)]
        exact j_iret hJ dX5_replace_38 ⟨by rw [e], by rw [e]; exact hQ.c⟩
      · refine j_p (nx := 27) hJ dX5_replace_26 rfl rfl ?_
        refine j_p (nx := 28) hJ dX5_replace_27 rfl rfl ?_
        refine j_get (nx := 31) hJ dX5_replace_28 rfl fX5_12 (by repeat (first | assumption | exact gup_same _ _ _ | rw [gup_ne _ _ (by first | decide | assumption | omega)])) (by rfl) ?_
        refine j_get (nx := 34) hJ dX5_replace_31 rfl fX5_61 (by repeat (first | assumption | exact gup_same _ _ _ | rw [gup_ne _ _ (by first | decide | assumption | omega)])) (by rfl) ?_
        refine j_ic_lt (nx := 37) (tgt := 39) hJ dX5_replace_34 rfl (by decide) (fun c34 => ?_) (fun c34 => ?_)
        · refine j_p (nx := 40) hJ dX5_replace_39 rfl rfl ?_
          refine j_p (nx := 41) hJ dX5_replace_40 rfl rfl ?_
          refine j_p (nx := 42) hJ dX5_replace_41 rfl rfl ?_
          refine j_p (nx := 43) hJ dX5_replace_42 rfl rfl ?_
          refine j_cv (nx := 46) hJ dX5_replace_43 rfl (r_putForVariable (fl := fl) (d := d + 54) hQ hr v c) mX5_150 (by repeat (first | assumption | exact gup_same _ _ _ | rw [gup_ne _ _ (by first | decide | assumption | omega)])) kX5_putForVariable rfl (gle8 rfl) (fun o h2 hp => ?_)
          obtain ⟨rfl, hQ2⟩ := hp
          rw [gb_t] at c16
          rw [gcz0] at c23
          have e : s_replace R N (nI r) v c = (gvar (gpfv (R (5 + 2 * r)) v c), gU R (5 + 2 * r) (gpfv (R (5 + 2 * r)) v c), N) := by unfold s_replace; rw [if_pos hx, egr, if_pos c16, if_pos ⟨by omega, c34⟩]
          exact j_iret hJ dX5_replace_46 ⟨by rw [e], by rw [e]; exact hQ2.c⟩
        · refine j_c (nx := 38) hJ dX5_replace_37 rfl gk_iconst_m1 ?_
          rw [gb_t] at c16
          rw [gcz0] at c23
          have e : s_replace R N (nI r) v c = (-1, R, N) := by unfold s_replace; rw [if_pos hx, egr, if_pos c16, if_neg (fun q => by first | exact c34 q.2 | omega)]
          exact j_iret hJ dX5_replace_38 ⟨by rw [e], by rw [e]; exact hQ.c⟩
    · refine j_c (nx := 21) hJ dX5_replace_19 rfl gk_bipush_m3 ?_
      rw [gb_f] at c16
      have e : s_replace R N (nI r) v c = (-3, R, N) := by unfold s_replace; rw [if_pos hx, egr, if_neg (by rw [c16]; decide)]
      exact j_iret hJ dX5_replace_21 ⟨by rw [e], by rw [e]; exact hQ.c⟩
  · refine j_p (nx := 1) hJ dX5_replace_0 rfl rfl ?_
    refine j_csR (nx := 4) hJ dX5_replace_1 rfl (r_isRegister (fl := fl) (d := d + 58) _) mX5_112 rfl (gle8 rfl) ?_
    rw [show gbt _ 6 = false from Bool.eq_false_iff.mpr hx]
    refine j_if_ne (nx := 7) (tgt := 10) hJ dX5_replace_4 rfl (by decide) (fun c4 => absurd c4 (by decide)) (fun c4 => ?_)
    refine j_c (nx := 9) hJ dX5_replace_7 rfl gk_bipush_m2 ?_
    have e : s_replace R N x v c = (-2, R, N) := if_neg hx
    exact j_iret hJ dX5_replace_9 ⟨by rw [e], by rw [e]; exact hQ.c⟩
set_option maxHeartbeats 4000000 in
theorem r_merge {fl : Bool} {d : Nat} {h0 h : GH} {R : Nat → List Int32} {N : Nat → Int32} (hQ : gQ h0 h R N) (x v w : Int32) : gN fl (d + 60) yX5_merge [.ref 0, .int x, .int v, .int w] h (fun o h' => o = some (.int (s_merge R N x v w).1) ∧ gC h0 h' (s_merge R N x v w).2.1 (s_merge R N x v w).2.2) := by
  have q0 := hQ.1.1
  have q1 := hQ.1.2.1.1
  have q2 := hQ.1.2.1.2.1
  have q3 := hQ.1.2.1.2.2.1
  have q4 := hQ.1.2.1.2.2.2
  have q75 := hQ.1.2.2.2.1
  have q80 := hQ.1.2.2.2.2.2.1.1
  obtain ⟨_, _, _, _, _, _, q76x⟩ := id hQ.1.2.2.2.2.2.2.1
  have q76 := q76x.1
  refine gN.of MX5_merge (Nat.le_of_ble_eq_true rfl) (fun J n hJ => ?_)
  show J 0 [some (.ref 0), some (.int x), some (.int v), some (.int w)] [] h (n, 0, 0, fl)
  by_cases hx : gbt x 6 = true
  · obtain ⟨r, rfl, hr⟩ := gbt_spec hx
    have egr := gr_nI (r := r) (by omega)
    refine j_p (nx := 1) hJ dX5_merge_0 rfl rfl ?_
    refine j_csR (nx := 4) hJ dX5_merge_1 rfl (r_isRegister (fl := fl) (d := d + 58) _) mX5_112 rfl (gle8 rfl) ?_
    rw [show gbt _ 6 = true from hx]
    refine j_if_ne (nx := 7) (tgt := 10) hJ dX5_merge_4 rfl (by decide) (fun c4 => ?_) (fun c4 => absurd c4 (by decide))
    refine j_p (nx := 11) hJ dX5_merge_10 rfl rfl ?_
    refine j_p (nx := 12) hJ dX5_merge_11 rfl rfl ?_
    refine j_p (nx := 13) hJ dX5_merge_12 rfl rfl ?_
    refine j_cvR (nx := 16) hJ dX5_merge_13 rfl (r_hasVariable (fl := fl) (d := d + 56) hQ hr v) mX5_126 (by repeat (first | assumption | exact gup_same _ _ _ | rw [gup_ne _ _ (by first | decide | assumption | omega)])) kX5_hasVariable rfl (gle8 rfl) ?_
    refine j_if_eq (nx := 19) (tgt := 28) hJ dX5_merge_16 rfl (by decide) (fun c16 => ?_) (fun c16 => ?_)
    · refine j_c (nx := 30) hJ dX5_merge_28 rfl gk_bipush_m3 ?_
      first | rw [gb_f] at c16 | skip
      first | rw [gb_f] at c25 | skip
      have e : s_merge R N (nI r) v w = (-3, R, N) := by unfold s_merge; rw [if_pos hx, egr, if_neg (fun q => by first | (rw [c16] at q; exact absurd q.1 (by decide)) | (rw [c25] at q; exact absurd q.2 (by decide)))]
      exact j_iret hJ dX5_merge_30 ⟨by rw [e], by rw [e]; exact hQ.c⟩
    · refine j_p (nx := 20) hJ dX5_merge_19 rfl rfl ?_
      refine j_p (nx := 21) hJ dX5_merge_20 rfl rfl ?_
      refine j_p (nx := 22) hJ dX5_merge_21 rfl rfl ?_
      refine j_cvR (nx := 25) hJ dX5_merge_22 rfl (r_hasVariable (fl := fl) (d := d + 56) hQ hr w) mX5_126 (by repeat (first | assumption | exact gup_same _ _ _ | rw [gup_ne _ _ (by first | decide | assumption | omega)])) kX5_hasVariable rfl (gle8 rfl) ?_
      refine j_if_ne (nx := 28) (tgt := 31) hJ dX5_merge_25 rfl (by decide) (fun c25 => ?_) (fun c25 => ?_)
      · refine j_p (nx := 32) hJ dX5_merge_31 rfl rfl ?_
        refine j_p (nx := 33) hJ dX5_merge_32 rfl rfl ?_
        refine j_ic_ne (nx := 36) (tgt := 38) hJ dX5_merge_33 rfl (by decide) (fun c33 => ?_) (fun c33 => ?_)
        · refine j_p (nx := 39) hJ dX5_merge_38 rfl rfl ?_
          refine j_p (nx := 40) hJ dX5_merge_39 rfl rfl ?_
          refine j_p (nx := 41) hJ dX5_merge_40 rfl rfl ?_
          refine j_c (nx := 43) hJ dX5_merge_41 rfl gk_bipush_10 ?_
          refine j_p (nx := 44) hJ dX5_merge_43 rfl rfl ?_
          refine j_p (nx := 45) hJ dX5_merge_44 rfl rfl ?_
          refine j_cv (nx := 48) hJ dX5_merge_45 rfl (r_putForVariable (fl := fl) (d := d + 54) hQ hr v (10 + w)) mX5_150 (by repeat (first | assumption | exact gup_same _ _ _ | rw [gup_ne _ _ (by first | decide | assumption | omega)])) kX5_putForVariable rfl (gle8 rfl) (fun o h2 hp => ?_)
          obtain ⟨rfl, hQ2⟩ := hp
          rw [gb_t] at c16 c25
          have e : s_merge R N (nI r) v w = (gvar (gpfv (R (5 + 2 * r)) v (10 + w)), gU R (5 + 2 * r) (gpfv (R (5 + 2 * r)) v (10 + w)), N) := by unfold s_merge; rw [if_pos hx, egr, if_pos ⟨c16, c25⟩, if_neg c33]
          exact j_iret hJ dX5_merge_48 ⟨by rw [e], by rw [e]; exact hQ2.c⟩
        · refine j_c (nx := 37) hJ dX5_merge_36 rfl gk_iconst_m1 ?_
          rw [gb_t] at c16 c25
          have e : s_merge R N (nI r) v w = (-1, R, N) := by unfold s_merge; rw [if_pos hx, egr, if_pos ⟨c16, c25⟩, if_pos c33]
          exact j_iret hJ dX5_merge_37 ⟨by rw [e], by rw [e]; exact hQ.c⟩
      · refine j_c (nx := 30) hJ dX5_merge_28 rfl gk_bipush_m3 ?_
        first | rw [gb_f] at c16 | skip
        first | rw [gb_f] at c25 | skip
        have e : s_merge R N (nI r) v w = (-3, R, N) := by unfold s_merge; rw [if_pos hx, egr, if_neg (fun q => by first | (rw [c16] at q; exact absurd q.1 (by decide)) | (rw [c25] at q; exact absurd q.2 (by decide)))]
        exact j_iret hJ dX5_merge_30 ⟨by rw [e], by rw [e]; exact hQ.c⟩
  · refine j_p (nx := 1) hJ dX5_merge_0 rfl rfl ?_
    refine j_csR (nx := 4) hJ dX5_merge_1 rfl (r_isRegister (fl := fl) (d := d + 58) _) mX5_112 rfl (gle8 rfl) ?_
    rw [show gbt _ 6 = false from Bool.eq_false_iff.mpr hx]
    refine j_if_ne (nx := 7) (tgt := 10) hJ dX5_merge_4 rfl (by decide) (fun c4 => absurd c4 (by decide)) (fun c4 => ?_)
    refine j_c (nx := 9) hJ dX5_merge_7 rfl gk_bipush_m2 ?_
    have e : s_merge R N x v w = (-2, R, N) := if_neg hx
    exact j_iret hJ dX5_merge_9 ⟨by rw [e], by rw [e]; exact hQ.c⟩
def gspl (c f : Int32) (l : List Int32) : List Int32 := l.flatMap (fun y => if y = c then [y, f] else [y])
theorem gcnt_nat (x : Int32) (l : List Int32) : gcnt x l = nI (l.count x) := by
  have key : ∀ (l : List Int32) (n : Nat), l.foldl (fun a y => if y = x then a + 1 else a) (nI n) = nI (n + l.count x) := by
    intro l
    induction l with
    | nil => intro n; rfl
    | cons y l ih =>
      intro n
      rw [List.foldl_cons, List.count_cons]
      by_cases e : y = x
      · rw [if_pos e, show nI n + 1 = nI (n + 1) from (nI_succ n).symm, ih]
        simp [e]
        congr 1
        omega
      · rw [if_neg e, ih]
        simp [e]
  have := key l 0
  rw [Nat.zero_add] at this
  exact this
theorem gspl_len (c f : Int32) (l : List Int32) : (gspl c f l).length = l.length + l.count c := by
  unfold gspl
  induction l with
  | nil => rfl
  | cons y l ih =>
    rw [List.flatMap_cons, List.length_append, ih, List.count_cons, List.length_cons]
    by_cases e : y = c
    · simp [e]; omega
    · simp [e]; omega
theorem gspl_k {c f : Int32} {l : List Int32} {i : Nat} (h : i < l.length) : gspl c f (l.take (i + 1)) = gspl c f (l.take i) ++ (if l.getD i (-1) = c then [l.getD i (-1), f] else [l.getD i (-1)]) := by
  unfold gspl
  rw [gtake_s h, List.flatMap_append]
  simp
theorem gspl_le (c f : Int32) (l : List Int32) (i : Nat) : (gspl c f (l.take i)).length ≤ (gspl c f l).length := by
  have : gspl c f l = gspl c f (l.take i) ++ gspl c f (l.drop i) := by
    unfold gspl
    rw [← List.flatMap_append, List.take_append_drop]
  rw [this, List.length_append]; omega
def s_split (R : Nat → List Int32) (N : Nat → Int32) (x v : Int32) : Int32 × (Nat → List Int32) × (Nat → Int32) := if gbt x 6 = true then (if ghv (R (gr x)) v = true then (if 4 ≤ gvar (R (gr x)) ∨ ¬ nI (R (gr x)).length + gcnt (10 + v) (R (gr x)) ≤ 8 then (-4, R, N) else (nI (gcan (gspl (10 + v) (10 + gvar (R (gr x))) (R (gr x)))).length, gU R (gr x) (gcan (gspl (10 + v) (10 + gvar (R (gr x))) (R (gr x)))), N)) else (-3, R, N)) else (-2, R, N)
set_option maxHeartbeats 4000000 in
theorem r_split {fl : Bool} {d : Nat} {h0 h : GH} {R : Nat → List Int32} {N : Nat → Int32} (hQ : gQ h0 h R N) (x v : Int32) : gN fl (d + 60) yX5_split [.ref 0, .int x, .int v] h (fun o h' => o = some (.int (s_split R N x v).1) ∧ gC h0 h' (s_split R N x v).2.1 (s_split R N x v).2.2) := by
  have q0 := hQ.1.1
  have q1 := hQ.1.2.1.1
  have q2 := hQ.1.2.1.2.1
  have q3 := hQ.1.2.1.2.2.1
  have q4 := hQ.1.2.1.2.2.2
  have q75 := hQ.1.2.2.2.1
  have q80 := hQ.1.2.2.2.2.2.1.1
  obtain ⟨_, _, _, _, _, _, q76x⟩ := id hQ.1.2.2.2.2.2.2.1
  have q76 := q76x.1
  refine gN.of MX5_split (Nat.le_of_ble_eq_true rfl) (fun J n hJ => ?_)
  show J 0 [some (.ref 0), some (.int x), some (.int v), none, none, none, none] [] h (n, 0, 0, fl)
  by_cases hx : gbt x 6 = true
  · obtain ⟨r, rfl, hr⟩ := gbt_spec hx
    have egr := gr_nI (r := r) (by omega)
    refine j_p (nx := 1) hJ dX5_split_0 rfl rfl ?_
    refine j_csR (nx := 4) hJ dX5_split_1 rfl (r_isRegister (fl := fl) (d := d + 58) _) mX5_112 rfl (gle8 rfl) ?_
    rw [show gbt _ 6 = true from hx]
    refine j_if_ne (nx := 7) (tgt := 10) hJ dX5_split_4 rfl (by decide) (fun c4 => ?_) (fun c4 => absurd c4 (by decide))
    refine j_p (nx := 11) hJ dX5_split_10 rfl rfl ?_
    refine j_p (nx := 12) hJ dX5_split_11 rfl rfl ?_
    refine j_p (nx := 13) hJ dX5_split_12 rfl rfl ?_
    refine j_cvR (nx := 16) hJ dX5_split_13 rfl (r_hasVariable (fl := fl) (d := d + 56) hQ hr v) mX5_126 (by repeat (first | assumption | exact gup_same _ _ _ | rw [gup_ne _ _ (by first | decide | assumption | omega)])) kX5_hasVariable rfl (gle8 rfl) ?_
    refine j_if_ne (nx := 19) (tgt := 22) hJ dX5_split_16 rfl (by decide) (fun c16 => ?_) (fun c16 => ?_)
    · refine j_p (nx := 23) hJ dX5_split_22 rfl rfl ?_
      refine j_get (nx := 26) hJ dX5_split_23 rfl fX5_12 (by repeat (first | assumption | exact gup_same _ _ _ | rw [gup_ne _ _ (by first | decide | assumption | omega)])) (by rfl) ?_
      refine j_get (nx := 29) hJ dX5_split_26 rfl fX5_119 (by repeat (first | assumption | exact gup_same _ _ _ | rw [gup_ne _ _ (by first | decide | assumption | omega)])) (by rfl) ?_
      refine j_p (nx := 30) hJ dX5_split_29 rfl rfl ?_
      refine j_aald (j := r) (nx := 31) hJ dX5_split_30 rfl q2 rfl (by omega) (by decide) (by decide) rfl ?_
      have hR := hQ.r8 (r := 5 + 2 * r) (by unfold gisR; omega) (by omega) (by omega)
      have hRr := hR.2.2.2.1
      refine j_p (nx := 32) hJ dX5_split_31 rfl rfl ?_
      refine j_c (nx := 34) hJ dX5_split_32 rfl gk_bipush_10 ?_
      refine j_p (nx := 35) hJ dX5_split_34 rfl rfl ?_
      refine j_p (nx := 36) hJ dX5_split_35 rfl rfl ?_
      refine j_p (nx := 38) hJ dX5_split_36 rfl rfl ?_
      refine j_p (nx := 39) hJ dX5_split_38 rfl rfl ?_
      refine j_cvR (nx := 42) hJ dX5_split_39 rfl (r_variablesIn (fl := fl) (d := d + 57) hR) mX5_123 (by repeat (first | assumption | exact gup_same _ _ _ | rw [gup_ne _ _ (by first | decide | assumption | omega)])) kX2_variablesIn rfl (gle8 rfl) ?_
      refine j_p (nx := 44) hJ dX5_split_42 rfl rfl ?_
      refine j_p (nx := 46) hJ dX5_split_44 rfl rfl ?_
      refine j_c (nx := 47) hJ dX5_split_46 rfl gk_iconst_4 ?_
      refine j_ic_ge (nx := 50) (tgt := 66) hJ dX5_split_47 rfl (by decide) (fun c47 => ?_) (fun c47 => ?_)
      · refine j_c (nx := 68) hJ dX5_split_66 rfl gk_bipush_m4 ?_
        rw [gb_t] at c16
        have e : s_split R N (nI r) v = (-4, R, N) := by unfold s_split; rw [if_pos hx, egr, if_pos c16, if_pos (by first | exact Or.inl c47 | exact Or.inr c63)]
        exact j_iret hJ dX5_split_68 ⟨by rw [e], by rw [e]; exact hQ.c⟩
      · refine j_p (nx := 51) hJ dX5_split_50 rfl rfl ?_
        refine j_get (nx := 54) hJ dX5_split_51 rfl fX5_68 (by repeat (first | assumption | exact gup_same _ _ _ | rw [gup_ne _ _ (by first | decide | assumption | omega)])) (by rfl) ?_
        refine j_p (nx := 55) hJ dX5_split_54 rfl rfl ?_
        refine j_p (nx := 57) hJ dX5_split_55 rfl rfl ?_
        refine j_cvR (nx := 60) hJ dX5_split_57 rfl (r_countOf (fl := fl) (d := d + 57) hR (10 + v)) mX5_130 (by repeat (first | assumption | exact gup_same _ _ _ | rw [gup_ne _ _ (by first | decide | assumption | omega)])) kX2_countOf rfl (gle8 rfl) ?_
        refine j_p (nx := 61) hJ dX5_split_60 rfl rfl ?_
        refine j_c (nx := 63) hJ dX5_split_61 rfl gk_bipush_8 ?_
        refine j_ic_le (nx := 66) (tgt := 69) hJ dX5_split_63 rfl (by decide) (fun c63 => ?_) (fun c63 => ?_)
        · rw [gb_t] at c16
          have e : s_split R N (nI r) v = (nI (gcan (gspl (10 + v) (10 + gvar (R (5 + 2 * r))) (R (5 + 2 * r)))).length, gU R (5 + 2 * r) (gcan (gspl (10 + v) (10 + gvar (R (5 + 2 * r))) (R (5 + 2 * r)))), N) := by unfold s_split; rw [if_pos hx, egr, if_pos c16, if_neg (fun q => q.elim c47 (fun z => z c63))]
          have hR8 := hR.2.1
          have hsl : (gspl (10 + v) (10 + gvar (R (5 + 2 * r))) (R (5 + 2 * r))).length ≤ 8 := by
            rw [gcnt_nat, gadd, show (8 : Int32) = nI 8 from rfl, gnle (by have := List.count_le_length (a := 10 + v) (l := (R (5 + 2 * r))); omega) (by omega)] at c63
            rw [gspl_len]; exact c63
          refine j_p (nx := 70) hJ dX5_split_69 rfl rfl ?_
          have hD := hQ.r8 (r := 83) (by unfold gisR; omega) (by omega) (by omega)
          have hDr := hD.2.2.2.1
          refine j_get (nx := 73) hJ dX5_split_70 rfl fX5_54 (by repeat (first | assumption | exact gup_same _ _ _ | rw [gup_ne _ _ (by first | decide | assumption | omega)])) (by rfl) ?_
          refine j_cv (nx := 76) hJ dX5_split_73 rfl (r_clear (fl := fl) (d := d + 58) hD) mX5_75 (by repeat (first | assumption | exact gup_same _ _ _ | rw [gup_ne _ _ (by first | decide | assumption | omega)])) kX2_clear rfl (gle8 rfl) (fun o h1 hp => ?_)
          obtain ⟨rfl, hR1, hF1⟩ := hp
          have hQ1 := hQ.row8 (r := 83) (by unfold gisR; omega) (by omega) (by omega) hR1 hF1
          have loop : ∀ i, i ≤ (R (5 + 2 * r)).length → ∀ h1 : GH, gQ h0 h1 (gU R 83 (gspl (10 + v) (10 + gvar (R (5 + 2 * r))) ((R (5 + 2 * r)).take i))) N → J 79 [some (.ref 0), some (.int (nI r)), some (.int v), some (.ref (1 + 4 + 2 * r)), some (.int (10 + v)), some (.int (gvar (R (5 + 2 * r)))), some (.int (nI i))] [] h1 (n, 0, 0, fl) := by
            refine gloop _ _ (fun i hi ih h1 hQ1 => ?_)
            have q01 := hQ1.1.1
            have hP1 := hQ1.r8 (r := 5 + 2 * r) (by unfold gisR; omega) (by omega) (by omega)
            have hP1r := hP1.2.2.2.1
            rw [gU_n _ _ (by omega)] at hP1 hP1r
            have hD1 := hQ1.r8 (r := 83) (by unfold gisR; omega) (by omega) (by omega)
            have hD1r := hD1.2.2.2.1
            refine j_p (nx := 81) hJ dX5_split_79 rfl rfl ?_
            refine j_p (nx := 82) hJ dX5_split_81 rfl rfl ?_
            refine j_get (nx := 85) hJ dX5_split_82 rfl fX5_68 (by repeat (first | assumption | exact gup_same _ _ _ | rw [gup_ne _ _ (by first | decide | assumption | omega)])) (by rfl) ?_
            refine j_ic_ge (nx := 88) (tgt := 132) hJ dX5_split_85 rfl (by decide) (fun c85 => ?_) (fun c85 => ?_)
            · rw [gnle (by omega) (by omega)] at c85
              have e0 : i = (R (5 + 2 * r)).length := by omega
              subst e0
              rw [List.take_length] at hQ1 hD1 hD1r
              refine j_p (nx := 133) hJ dX5_split_132 rfl rfl ?_
              refine j_get (nx := 136) hJ dX5_split_133 rfl fX5_54 (by repeat (first | assumption | exact gup_same _ _ _ | rw [gup_ne _ _ (by first | decide | assumption | omega)])) (by rfl) ?_
              refine j_cv (nx := 139) hJ dX5_split_136 rfl (r_makeCanonical (fl := fl) (d := d + 55) hD1) mX5_89 (by repeat (first | assumption | exact gup_same _ _ _ | rw [gup_ne _ _ (by first | decide | assumption | omega)])) kX2_makeCanonical rfl (gle8 rfl) (fun o h3 hp => ?_)
              obtain ⟨rfl, hR3, hF3⟩ := hp
              rw [gU_s] at hR3
              have hQ3 := hQ1.row8 (r := 83) (by unfold gisR; omega) (by omega) (by omega) hR3 hF3
              have q03 := hQ3.1.1
              refine j_p (nx := 140) hJ dX5_split_139 rfl rfl ?_
              refine j_p (nx := 141) hJ dX5_split_140 rfl rfl ?_
              refine j_p (nx := 142) hJ dX5_split_141 rfl rfl ?_
              refine j_get (nx := 145) hJ dX5_split_142 rfl fX5_54 (by repeat (first | assumption | exact gup_same _ _ _ | rw [gup_ne _ _ (by first | decide | assumption | omega)])) (by rfl) ?_
              refine j_cv (nx := 148) hJ dX5_split_145 rfl (r_store (fl := fl) (d := d + 56) hQ3 hr (q := 83) (by unfold gisR; omega) (by omega) (by omega)) mX5_115 (by repeat (first | assumption | exact gup_same _ _ _ | rw [gup_ne _ _ (by first | decide | assumption | omega)])) kX5_store rfl (gle8 rfl) (fun o h4 hp => ?_)
              obtain ⟨rfl, hQ4⟩ := hp
              refine j_iret hJ dX5_split_148 ⟨by rw [e, gU_s], ?_⟩
              rw [e]
              exact hQ4.cc (fun a p1 p2 p3 => by simp [gU, p1, p2, p3]) (fun _ _ => rfl)
            · rw [gnle (by omega) (by omega)] at c85
              have hkl : i < (R (5 + 2 * r)).length := by omega
              have hk1 := gspl_k (c := 10 + v) (f := 10 + gvar (R (5 + 2 * r))) hkl
              have hk2 := Nat.le_trans (gspl_le (10 + v) (10 + gvar (R (5 + 2 * r))) (R (5 + 2 * r)) (i + 1)) hsl
              rw [hk1, List.length_append] at hk2
              refine j_p (nx := 89) hJ dX5_split_88 rfl rfl ?_
              refine j_get (nx := 92) hJ dX5_split_89 rfl fX5_54 (by repeat (first | assumption | exact gup_same _ _ _ | rw [gup_ne _ _ (by first | decide | assumption | omega)])) (by rfl) ?_
              refine j_p (nx := 93) hJ dX5_split_92 rfl rfl ?_
              refine j_p (nx := 95) hJ dX5_split_93 rfl rfl ?_
              refine j_cvR (nx := 98) hJ dX5_split_95 rfl (r_at (fl := fl) (d := d + 58) hP1 (nI i)) mX5_92 (by repeat (first | assumption | exact gup_same _ _ _ | rw [gup_ne _ _ (by first | decide | assumption | omega)])) kX2_at rfl (gle8 rfl) ?_
              rw [gat_nI (by omega)]
              refine j_cv (nx := 101) hJ dX5_split_98 rfl (r_add (fl := fl) (d := d + 58) hD1 _) mX5_71 (by repeat (first | assumption | exact gup_same _ _ _ | rw [gup_ne _ _ (by first | decide | assumption | omega)])) kX2_add rfl (gle8 rfl) (fun o h2 hp => ?_)
              obtain ⟨rfl, hR2, hF2⟩ := hp
              rw [gU_s, if_pos (by split at hk2 <;> simp at hk2 <;> omega)] at hR2
              have hQ2 := hQ1.row8 (r := 83) (by unfold gisR; omega) (by omega) (by omega) hR2 hF2
              have q02 := hQ2.1.1
              have hP2 := hQ2.r8 (r := 5 + 2 * r) (by unfold gisR; omega) (by omega) (by omega)
              have hP2r := hP2.2.2.2.1
              rw [gU_n _ _ (by omega), gU_n _ _ (by omega)] at hP2 hP2r
              have hD2 := hQ2.r8 (r := 83) (by unfold gisR; omega) (by omega) (by omega)
              have hD2r := hD2.2.2.2.1
              refine j_p (nx := 102) hJ dX5_split_101 rfl rfl ?_
              refine j_p (nx := 103) hJ dX5_split_102 rfl rfl ?_
              refine j_p (nx := 105) hJ dX5_split_103 rfl rfl ?_
              refine j_cvR (nx := 108) hJ dX5_split_105 rfl (r_at (fl := fl) (d := d + 58) hP2 (nI i)) mX5_92 (by repeat (first | assumption | exact gup_same _ _ _ | rw [gup_ne _ _ (by first | decide | assumption | omega)])) kX2_at rfl (gle8 rfl) ?_
              rw [gat_nI (by omega)]
              refine j_p (nx := 110) hJ dX5_split_108 rfl rfl ?_
              refine j_ic_ne (nx := 113) (tgt := 126) hJ dX5_split_110 rfl (by decide) (fun c110 => ?_) (fun c110 => ?_)
              · rw [if_neg c110] at hk1 hk2
                refine j_inc (nx := 129) hJ dX5_split_126 rfl rfl (gi1 i) rfl ?_
                refine j_go (tgt := 79) hJ dX5_split_129 (by decide) ?_
                refine ih hkl _ (hQ2.rw (fun a => ?_) (fun _ => rfl))
                rw [hk1]
                simp only [gU]
                split <;> rfl
              · rw [if_pos c110] at hk1 hk2
                simp at hk2
                refine j_p (nx := 114) hJ dX5_split_113 rfl rfl ?_
                refine j_get (nx := 117) hJ dX5_split_114 rfl fX5_54 q02 (by rfl) ?_
                refine j_c (nx := 119) hJ dX5_split_117 rfl gk_bipush_10 ?_
                refine j_p (nx := 121) hJ dX5_split_119 rfl rfl ?_
                refine j_p (nx := 122) hJ dX5_split_121 rfl rfl ?_
                refine j_cv (nx := 125) hJ dX5_split_122 rfl (r_add (fl := fl) (d := d + 58) hD2 _) mX5_71 (by repeat (first | assumption | exact gup_same _ _ _ | rw [gup_ne _ _ (by first | decide | assumption | omega)])) kX2_add rfl (gle8 rfl) (fun o h3 hp => ?_)
                obtain ⟨rfl, hR3, hF3⟩ := hp
                rw [gU_s, if_pos (by rw [List.length_append]; simp; omega)] at hR3
                have hQ3 := hQ2.row8 (r := 83) (by unfold gisR; omega) (by omega) (by omega) hR3 hF3
                refine j_p (nx := 126) hJ dX5_split_125 rfl rfl ?_
                refine j_inc (nx := 129) hJ dX5_split_126 rfl rfl (gi1 i) rfl ?_
                refine j_go (tgt := 79) hJ dX5_split_129 (by decide) ?_
                refine ih hkl _ (hQ3.rw (fun a => ?_) (fun _ => rfl))
                rw [hk1]
                simp only [gU]
                split
                · rw [List.append_assoc]; rfl
                · rfl
          refine j_c (nx := 77) hJ dX5_split_76 rfl gk_iconst_0 ?_
          refine j_p (nx := 79) hJ dX5_split_77 rfl rfl ?_
          exact loop 0 (Nat.zero_le _) h1 hQ1
        · refine j_c (nx := 68) hJ dX5_split_66 rfl gk_bipush_m4 ?_
          rw [gb_t] at c16
          have e : s_split R N (nI r) v = (-4, R, N) := by unfold s_split; rw [if_pos hx, egr, if_pos c16, if_pos (by first | exact Or.inl c47 | exact Or.inr c63)]
          exact j_iret hJ dX5_split_68 ⟨by rw [e], by rw [e]; exact hQ.c⟩
    · refine j_c (nx := 21) hJ dX5_split_19 rfl gk_bipush_m3 ?_
      rw [gb_f] at c16
      have e : s_split R N (nI r) v = (-3, R, N) := by unfold s_split; rw [if_pos hx, egr, if_neg (by rw [c16]; decide)]
      exact j_iret hJ dX5_split_21 ⟨by rw [e], by rw [e]; exact hQ.c⟩
  · refine j_p (nx := 1) hJ dX5_split_0 rfl rfl ?_
    refine j_csR (nx := 4) hJ dX5_split_1 rfl (r_isRegister (fl := fl) (d := d + 58) _) mX5_112 rfl (gle8 rfl) ?_
    rw [show gbt _ 6 = false from Bool.eq_false_iff.mpr hx]
    refine j_if_ne (nx := 7) (tgt := 10) hJ dX5_split_4 rfl (by decide) (fun c4 => absurd c4 (by decide)) (fun c4 => ?_)
    refine j_c (nx := 9) hJ dX5_split_7 rfl gk_bipush_m2 ?_
    have e : s_split R N x v = (-2, R, N) := if_neg hx
    exact j_iret hJ dX5_split_9 ⟨by rw [e], by rw [e]; exact hQ.c⟩
