/-- the row of a register -/
def gr (x : Int32) : Nat := 5 + 2 * x.toInt.toNat
theorem gr_nI {r : Nat} (h : r < 2 ^ 31) : gr (nI r) = 5 + 2 * r := by unfold gr; rw [nI_toInt h]; rfl
def s_reset (R : Nat → List Int32) (N : Nat → Int32) (x : Int32) : Int32 × (Nat → List Int32) × (Nat → Int32) := if 1 ≤ x.toInt ∧ x.toInt ≤ 3 then (N 1, gUb R 1 (fun _ => [10]) (fun _ => [0]) (fun i => R (25 + 2 * i)), gU (gU N 1 x) 2 0) else (-1, R, N)
def s_append (R : Nat → List Int32) (N : Nat → Int32) (x c : Int32) : Int32 × (Nat → List Int32) × (Nat → Int32) := if (0 ≤ x.toInt ∧ x.toInt ≤ 127) ∧ 1 ≤ c.toInt ∧ c.toInt ≤ 20 then (if 20 < (R 73).length + c.toInt.toNat then (-4, R, N) else (nI ((R 73).length + c.toInt.toNat), gU R 73 (R 73 ++ List.replicate c.toInt.toNat x), N)) else (-1, R, N)
def gcode (k c : Int32) : Int32 := if c = 88 then 10 else if c = 89 then 11 else if c = 90 then 12 else if c = 87 then 13 else if 97 ≤ c ∧ c < 97 + k then c - 97 else -1
def grd (k : Int32) (l : List Int32) : Option (List Int32) := if l.length ≤ 8 ∧ ∀ c ∈ l, gcode k c ≠ -1 then some (l.map (gcode k)) else none
def gpt (k : Int32) (l : List Int32) : Option (List Int32) := match grd k l with
  | some x => if x.length < 1 then none else some (gcan x)
  | none => none
def gwd (k : Int32) (l : List Int32) : Option (List Int32) := match grd k l with
  | some x => if gltr x = nI x.length then some x else none
  | none => none
def s_setPattern (R : Nat → List Int32) (N : Nat → Int32) (x : Int32) : Int32 × (Nat → List Int32) × (Nat → Int32) := if gbt x 6 = true then (match gpt (N 1) (R 73) with
  | some l => (nI l.length, gU (gU R 73 []) (gr x) l, N)
  | none => (-5, gU R 73 [], N)) else (-2, gU R 73 [], N)
def s_copy (R : Nat → List Int32) (N : Nat → Int32) (x y : Int32) : Int32 × (Nat → List Int32) × (Nat → Int32) := if gbt x 6 = true ∧ gbt y 6 = true then (nI (R (gr y)).length, gU R (gr x) (R (gr y)), N) else (-2, R, N)
def s_length (R : Nat → List Int32) (x : Int32) : Int32 := if gbt x 6 = true then nI (R (gr x)).length else -2
def s_symbol (R : Nat → List Int32) (x p : Int32) : Int32 := if gbt x 6 = true then (if gat (R (gr x)) p = -1 then -6 else gat (R (gr x)) p) else -2
def s_variableCount (R : Nat → List Int32) (x : Int32) : Int32 := if gbt x 6 = true then gvar (R (gr x)) else -2
/-- whether a variable stands in a pattern -/
def ghv (l : List Int32) (v : Int32) : Bool := gbt v 4 && decide (0 < gcnt (10 + v) l)
def s_occurrences (R : Nat → List Int32) (x v : Int32) : Int32 := if gbt x 6 = true then (if ghv (R (gr x)) v = true then gcnt (10 + v) (R (gr x)) else -3) else -2
set_option maxHeartbeats 4000000 in
theorem r_reset {fl : Bool} {d : Nat} {h0 h : GH} {R : Nat → List Int32} {N : Nat → Int32} (hQ : gQ h0 h R N) (x : Int32) : gN fl (d + 60) yX5_reset [.ref 0, .int x] h (fun o h' => o = some (.int (s_reset R N x).1) ∧ gC h0 h' (s_reset R N x).2.1 (s_reset R N x).2.2) := by
  have q0 := hQ.1.1
  have q1 := hQ.1.2.1.1
  have q2 := hQ.1.2.1.2.1
  have q3 := hQ.1.2.1.2.2.1
  have q4 := hQ.1.2.1.2.2.2
  have q75 := hQ.1.2.2.2.1
  have q80 := hQ.1.2.2.2.2.2.1.1
  obtain ⟨_, _, _, _, _, _, q76x⟩ := id hQ.1.2.2.2.2.2.2.1
  have q76 := q76x.1
  refine gN.of MX5_reset (Nat.le_of_ble_eq_true rfl) (fun J n hJ => ?_)
  show J 0 [some (.ref 0), some (.int x), none] [] h (n, 0, 0, fl)
  refine j_p (nx := 1) hJ dX5_reset_0 rfl rfl ?_
  refine j_c (nx := 2) hJ dX5_reset_1 rfl gk_iconst_1 ?_
  refine j_ic_lt (nx := 5) (tgt := 10) hJ dX5_reset_2 rfl (by decide) (fun c2 => ?_) (fun c2 => ?_)
  · refine j_c (nx := 11) hJ dX5_reset_10 rfl gk_iconst_m1 ?_
    first | rw [Int32.lt_iff_toInt_lt, show (1 : Int32).toInt = 1 by decide] at c2 | skip
    first | rw [Int32.le_iff_toInt_le, show (3 : Int32).toInt = 3 by decide] at c7 | skip
    have e : s_reset R N x = (-1, R, N) := if_neg (fun q => by omega)
    exact j_iret hJ dX5_reset_11 ⟨by rw [e], by rw [e]; exact hQ.c⟩
  · refine j_p (nx := 6) hJ dX5_reset_5 rfl rfl ?_
    refine j_c (nx := 7) hJ dX5_reset_6 rfl gk_iconst_3 ?_
    refine j_ic_le (nx := 10) (tgt := 12) hJ dX5_reset_7 rfl (by decide) (fun c7 => ?_) (fun c7 => ?_)
    · refine j_p (nx := 13) hJ dX5_reset_12 rfl rfl ?_
      refine j_get (nx := 16) hJ dX5_reset_13 rfl fX5_12 (by repeat (first | assumption | exact gup_same _ _ _ | rw [gup_ne _ _ (by first | decide | assumption | omega)])) (by rfl) ?_
      refine j_get (nx := 19) hJ dX5_reset_16 rfl fX5_61 (by repeat (first | assumption | exact gup_same _ _ _ | rw [gup_ne _ _ (by first | decide | assumption | omega)])) (by rfl) ?_
      refine j_p (nx := 20) hJ dX5_reset_19 rfl rfl ?_
      refine j_p (nx := 21) hJ dX5_reset_20 rfl rfl ?_
      refine j_get (nx := 24) hJ dX5_reset_21 rfl fX5_12 (by repeat (first | assumption | exact gup_same _ _ _ | rw [gup_ne _ _ (by first | decide | assumption | omega)])) (by rfl) ?_
      refine j_p (nx := 25) hJ dX5_reset_24 rfl rfl ?_
      rw [Int32.lt_iff_toInt_lt, show (1 : Int32).toInt = 1 by decide] at c2
      rw [Int32.le_iff_toInt_le, show (3 : Int32).toInt = 3 by decide] at c7
      refine j_cv (nx := 28) hJ dX5_reset_25 rfl (r_begin (fl := fl) (d := d + 56) x hQ.1.2.1 (hQ.BR (b := 1) (by omega))) mX5_65 (by repeat (first | assumption | exact gup_same _ _ _ | rw [gup_ne _ _ (by first | decide | assumption | omega)])) kX0_begin rfl (gle8 rfl) (fun o h2 hp => ?_)
      obtain ⟨rfl, hB2, hR2, hF2⟩ := hp
      have hQ2 := hQ.ben (b := 1) (by omega) hB2 hR2 hF2
      refine j_p (nx := 29) hJ dX5_reset_28 rfl rfl ?_
      have e : s_reset R N x = (N 1, gUb R 1 (fun _ => [10]) (fun _ => [0]) (fun i => R (25 + 2 * i)), gU (gU N 1 x) 2 0) := if_pos ⟨by omega, by omega⟩
      exact j_iret hJ dX5_reset_29 ⟨by rw [e], by rw [e]; exact hQ2.c⟩
    · refine j_c (nx := 11) hJ dX5_reset_10 rfl gk_iconst_m1 ?_
      first | rw [Int32.lt_iff_toInt_lt, show (1 : Int32).toInt = 1 by decide] at c2 | skip
      first | rw [Int32.le_iff_toInt_le, show (3 : Int32).toInt = 3 by decide] at c7 | skip
      have e : s_reset R N x = (-1, R, N) := if_neg (fun q => by omega)
      exact j_iret hJ dX5_reset_11 ⟨by rw [e], by rw [e]; exact hQ.c⟩
set_option maxHeartbeats 4000000 in
theorem r_letters {fl : Bool} {d : Nat} {h0 h : GH} {R : Nat → List Int32} {N : Nat → Int32} (hQ : gQ h0 h R N) : gN fl (d + 60) yX5_letters [.ref 0] h (fun o h' => o = some (.int (N 1)) ∧ gC h0 h' R N) := by
  have q0 := hQ.1.1
  have q1 := hQ.1.2.1.1
  have q2 := hQ.1.2.1.2.1
  have q3 := hQ.1.2.1.2.2.1
  have q4 := hQ.1.2.1.2.2.2
  have q75 := hQ.1.2.2.2.1
  have q80 := hQ.1.2.2.2.2.2.1.1
  obtain ⟨_, _, _, _, _, _, q76x⟩ := id hQ.1.2.2.2.2.2.2.1
  have q76 := q76x.1
  refine gN.of MX5_letters (Nat.le_of_ble_eq_true rfl) (fun J n hJ => ?_)
  show J 0 [some (.ref 0)] [] h (n, 0, 0, fl)
  refine j_p (nx := 1) hJ dX5_letters_0 rfl rfl ?_
  refine j_get (nx := 4) hJ dX5_letters_1 rfl fX5_12 (by repeat (first | assumption | exact gup_same _ _ _ | rw [gup_ne _ _ (by first | decide | assumption | omega)])) (by rfl) ?_
  refine j_get (nx := 7) hJ dX5_letters_4 rfl fX5_61 (by repeat (first | assumption | exact gup_same _ _ _ | rw [gup_ne _ _ (by first | decide | assumption | omega)])) (by rfl) ?_
  exact j_iret hJ dX5_letters_7 ⟨rfl, hQ.c⟩
set_option maxHeartbeats 4000000 in
theorem r_append {fl : Bool} {d : Nat} {h0 h : GH} {R : Nat → List Int32} {N : Nat → Int32} (hQ : gQ h0 h R N) (x c : Int32) : gN fl (d + 60) yX5_append [.ref 0, .int x, .int c] h (fun o h' => o = some (.int (s_append R N x c).1) ∧ gC h0 h' (s_append R N x c).2.1 (s_append R N x c).2.2) := by
  have q0 := hQ.1.1
  have q1 := hQ.1.2.1.1
  have q2 := hQ.1.2.1.2.1
  have q3 := hQ.1.2.1.2.2.1
  have q4 := hQ.1.2.1.2.2.2
  have q75 := hQ.1.2.2.2.1
  have q80 := hQ.1.2.2.2.2.2.1.1
  obtain ⟨_, _, _, _, _, _, q76x⟩ := id hQ.1.2.2.2.2.2.2.1
  have q76 := q76x.1
  have hI0 := hQ.r (r := 73) (by unfold gisR; omega)
  have hI0r := hI0.2.2.2.1
  have hI20 : (R 73).length ≤ 20 := hI0.2.1
  refine gN.of MX5_append (Nat.le_of_ble_eq_true rfl) (fun J n hJ => ?_)
  show J 0 [some (.ref 0), some (.int x), some (.int c), none] [] h (n, 0, 0, fl)
  by_cases hx : (0 ≤ x.toInt ∧ x.toInt ≤ 127) ∧ 1 ≤ c.toInt ∧ c.toInt ≤ 20
  · have hc := gnat (x := c) (by omega)
    have hcz : c.toInt.toNat ≤ 20 := by omega
    obtain ⟨cn, hcn⟩ : ∃ cn, c.toInt.toNat = cn := ⟨_, rfl⟩
    rw [hcn] at hc hcz
    rw [hc]
    refine j_p (nx := 1) hJ dX5_append_0 rfl rfl ?_
    refine j_if_lt (nx := 4) (tgt := 21) hJ dX5_append_1 rfl (by decide) (fun c1 => absurd c1 (by rw [gcz0]; omega)) (fun c1 => ?_)
    refine j_p (nx := 5) hJ dX5_append_4 rfl rfl ?_
    refine j_c (nx := 7) hJ dX5_append_5 rfl gk_bipush_127 ?_
    refine j_ic_gt (nx := 10) (tgt := 21) hJ dX5_append_7 rfl (by decide) (fun c7 => absurd c7 (by rw [Int32.lt_iff_toInt_lt, show (127 : Int32).toInt = 127 by decide]; omega)) (fun c7 => ?_)
    refine j_p (nx := 11) hJ dX5_append_10 rfl rfl ?_
    refine j_c (nx := 12) hJ dX5_append_11 rfl gk_iconst_1 ?_
    refine j_ic_lt (nx := 15) (tgt := 21) hJ dX5_append_12 rfl (by decide) (fun c12 => absurd c12 (by rw [← hc, Int32.lt_iff_toInt_lt, show (1 : Int32).toInt = 1 by decide]; omega)) (fun c12 => ?_)
    refine j_p (nx := 16) hJ dX5_append_15 rfl rfl ?_
    refine j_c (nx := 18) hJ dX5_append_16 rfl gk_bipush_20 ?_
    refine j_ic_le (nx := 21) (tgt := 23) hJ dX5_append_18 rfl (by decide) (fun c18 => ?_) (fun c18 => absurd c18 (fun q => q (by rw [← hc, Int32.le_iff_toInt_le, show (20 : Int32).toInt = 20 by decide]; omega)))
    refine j_p (nx := 24) hJ dX5_append_23 rfl rfl ?_
    refine j_get (nx := 27) hJ dX5_append_24 rfl fX5_30 (by repeat (first | assumption | exact gup_same _ _ _ | rw [gup_ne _ _ (by first | decide | assumption | omega)])) (by rfl) ?_
    refine j_get (nx := 30) hJ dX5_append_27 rfl fX5_68 (by repeat (first | assumption | exact gup_same _ _ _ | rw [gup_ne _ _ (by first | decide | assumption | omega)])) (by rfl) ?_
    refine j_p (nx := 31) hJ dX5_append_30 rfl rfl ?_
    refine j_p (nx := 32) hJ dX5_append_31 rfl rfl ?_
    rw [gadd]
    refine j_c (nx := 34) hJ dX5_append_32 rfl gk_bipush_20 ?_
    refine j_ic_le (nx := 37) (tgt := 40) hJ dX5_append_34 rfl (by decide) (fun c34 => ?_) (fun c34 => ?_)
    · rw [show (20 : Int32) = nI 20 from rfl, gnle (by omega) (by omega)] at c34
      have e : s_append R N x c = (nI ((R 73).length + cn), gU R 73 (R 73 ++ List.replicate cn x), N) := by
        unfold s_append
        rw [if_pos hx, hcn, if_neg (by omega)]
      have loop : ∀ i, i ≤ cn → ∀ h1 : GH, gQ h0 h1 (gU R 73 (R 73 ++ List.replicate i x)) N → J 42 [some (.ref 0), some (.int x), some (.int (nI cn)), some (.int (nI i))] [] h1 (n, 0, 0, fl) := by
        refine gloop _ _ (fun i hi ih h1 hQ1 => ?_)
        have q01 := hQ1.1.1
        have hI1 := hQ1.r (r := 73) (by unfold gisR; omega)
        have hI1r := hI1.2.2.2.1
        refine j_p (nx := 43) hJ dX5_append_42 rfl rfl ?_
        refine j_p (nx := 44) hJ dX5_append_43 rfl rfl ?_
        refine j_ic_ge (nx := 47) (tgt := 62) hJ dX5_append_44 rfl (by decide) (fun c44 => ?_) (fun c44 => ?_)
        · refine j_p (nx := 63) hJ dX5_append_62 rfl rfl ?_
          refine j_get (nx := 66) hJ dX5_append_63 rfl fX5_30 (by repeat (first | assumption | exact gup_same _ _ _ | rw [gup_ne _ _ (by first | decide | assumption | omega)])) (by rfl) ?_
          refine j_get (nx := 69) hJ dX5_append_66 rfl fX5_68 (by repeat (first | assumption | exact gup_same _ _ _ | rw [gup_ne _ _ (by first | decide | assumption | omega)])) (by rfl) ?_
          rw [gnle (by omega) (by omega)] at c44
          have e0 : i = cn := by omega
          subst e0
          refine j_iret hJ dX5_append_69 ⟨?_, ?_⟩
          · rw [e, gU_s, List.length_append, List.length_replicate]
          · rw [e]; exact hQ1.c
        · rw [gnle (by omega) (by omega)] at c44
          have hkl : i < cn := by omega
          refine j_p (nx := 48) hJ dX5_append_47 rfl rfl ?_
          refine j_get (nx := 51) hJ dX5_append_48 rfl fX5_30 (by repeat (first | assumption | exact gup_same _ _ _ | rw [gup_ne _ _ (by first | decide | assumption | omega)])) (by rfl) ?_
          refine j_p (nx := 52) hJ dX5_append_51 rfl rfl ?_
          refine j_cv (nx := 55) hJ dX5_append_52 rfl (r_add (fl := fl) (d := d + 58) hI1 x) mX5_71 (by repeat (first | assumption | exact gup_same _ _ _ | rw [gup_ne _ _ (by first | decide | assumption | omega)])) kX2_add rfl (gle8 rfl) (fun o h2 hp => ?_)
          obtain ⟨rfl, hR2, hF2⟩ := hp
          rw [gU_s, List.length_append, List.length_replicate, if_pos (by show (R 73).length + i < 20; omega)] at hR2
          refine j_p (nx := 56) hJ dX5_append_55 rfl rfl ?_
          refine j_inc (nx := 59) hJ dX5_append_56 rfl rfl (gi1 i) rfl ?_
          refine j_go (tgt := 42) hJ dX5_append_59 (by decide) ?_
          refine ih hkl _ (((hQ1.row (r := 73) (by unfold gisR; omega) hR2 hF2)).rw (fun a => ?_) (fun _ => rfl))
          unfold gU
          split
          · rw [List.append_assoc, List.replicate_succ']
          · rfl
      refine j_c (nx := 41) hJ dX5_append_40 rfl gk_iconst_0 ?_
      refine j_p (nx := 42) hJ dX5_append_41 rfl rfl ?_
      exact loop 0 (Nat.zero_le _) h (hQ.rw (fun a => by unfold gU; split; (next q => rw [q]; simp); rfl) (fun _ => rfl))
    · refine j_c (nx := 39) hJ dX5_append_37 rfl gk_bipush_m4 ?_
      rw [show (20 : Int32) = nI 20 from rfl, gnle (by omega) (by omega)] at c34
      have e : s_append R N x c = (-4, R, N) := by
        unfold s_append
        rw [if_pos hx, hcn, if_pos (by omega)]
      exact j_iret hJ dX5_append_39 ⟨by rw [e], by rw [e]; exact hQ.c⟩
  · refine j_p (nx := 1) hJ dX5_append_0 rfl rfl ?_
    refine j_if_lt (nx := 4) (tgt := 21) hJ dX5_append_1 rfl (by decide) (fun c1 => ?_) (fun c1 => ?_)
    · refine j_c (nx := 22) hJ dX5_append_21 rfl gk_iconst_m1 ?_
      have e : s_append R N x c = (-1, R, N) := if_neg hx
      exact j_iret hJ dX5_append_22 ⟨by rw [e], by rw [e]; exact hQ.c⟩
    · refine j_p (nx := 5) hJ dX5_append_4 rfl rfl ?_
      refine j_c (nx := 7) hJ dX5_append_5 rfl gk_bipush_127 ?_
      refine j_ic_gt (nx := 10) (tgt := 21) hJ dX5_append_7 rfl (by decide) (fun c7 => ?_) (fun c7 => ?_)
      · refine j_c (nx := 22) hJ dX5_append_21 rfl gk_iconst_m1 ?_
        have e : s_append R N x c = (-1, R, N) := if_neg hx
        exact j_iret hJ dX5_append_22 ⟨by rw [e], by rw [e]; exact hQ.c⟩
      · refine j_p (nx := 11) hJ dX5_append_10 rfl rfl ?_
        refine j_c (nx := 12) hJ dX5_append_11 rfl gk_iconst_1 ?_
        refine j_ic_lt (nx := 15) (tgt := 21) hJ dX5_append_12 rfl (by decide) (fun c12 => ?_) (fun c12 => ?_)
        · refine j_c (nx := 22) hJ dX5_append_21 rfl gk_iconst_m1 ?_
          have e : s_append R N x c = (-1, R, N) := if_neg hx
          exact j_iret hJ dX5_append_22 ⟨by rw [e], by rw [e]; exact hQ.c⟩
        · refine j_p (nx := 16) hJ dX5_append_15 rfl rfl ?_
          refine j_c (nx := 18) hJ dX5_append_16 rfl gk_bipush_20 ?_
          refine j_ic_le (nx := 21) (tgt := 23) hJ dX5_append_18 rfl (by decide) (fun c18 => ?_) (fun c18 => ?_)
          · first | rw [gcz0] at c1 | skip
            first | rw [Int32.lt_iff_toInt_lt, show (127 : Int32).toInt = 127 by decide] at c7 | skip
            first | rw [Int32.lt_iff_toInt_lt, show (1 : Int32).toInt = 1 by decide] at c12 | skip
            first | rw [Int32.le_iff_toInt_le, show (20 : Int32).toInt = 20 by decide] at c18 | skip
            exact absurd (show (0 ≤ x.toInt ∧ x.toInt ≤ 127) ∧ 1 ≤ c.toInt ∧ c.toInt ≤ 20 from ⟨⟨by omega, by omega⟩, by omega, by omega⟩) hx
          · refine j_c (nx := 22) hJ dX5_append_21 rfl gk_iconst_m1 ?_
            have e : s_append R N x c = (-1, R, N) := if_neg hx
            exact j_iret hJ dX5_append_22 ⟨by rw [e], by rw [e]; exact hQ.c⟩
set_option maxHeartbeats 4000000 in
theorem r_clearInput {fl : Bool} {d : Nat} {h0 h : GH} {R : Nat → List Int32} {N : Nat → Int32} (hQ : gQ h0 h R N) : gN fl (d + 60) yX5_clearInput [.ref 0] h (fun o h' => o = some (.int (nI (R 73).length)) ∧ gC h0 h' (gU R 73 []) N) := by
  have q0 := hQ.1.1
  have q1 := hQ.1.2.1.1
  have q2 := hQ.1.2.1.2.1
  have q3 := hQ.1.2.1.2.2.1
  have q4 := hQ.1.2.1.2.2.2
  have q75 := hQ.1.2.2.2.1
  have q80 := hQ.1.2.2.2.2.2.1.1
  obtain ⟨_, _, _, _, _, _, q76x⟩ := id hQ.1.2.2.2.2.2.2.1
  have q76 := q76x.1
  have hI := hQ.r (r := 73) (by unfold gisR; omega)
  have hIr := hI.2.2.2.1
  refine gN.of MX5_clearInput (Nat.le_of_ble_eq_true rfl) (fun J n hJ => ?_)
  show J 0 [some (.ref 0), none] [] h (n, 0, 0, fl)
  refine j_p (nx := 1) hJ dX5_clearInput_0 rfl rfl ?_
  refine j_get (nx := 4) hJ dX5_clearInput_1 rfl fX5_30 (by repeat (first | assumption | exact gup_same _ _ _ | rw [gup_ne _ _ (by first | decide | assumption | omega)])) (by rfl) ?_
  refine j_get (nx := 7) hJ dX5_clearInput_4 rfl fX5_68 (by repeat (first | assumption | exact gup_same _ _ _ | rw [gup_ne _ _ (by first | decide | assumption | omega)])) (by rfl) ?_
  refine j_p (nx := 8) hJ dX5_clearInput_7 rfl rfl ?_
  refine j_p (nx := 9) hJ dX5_clearInput_8 rfl rfl ?_
  refine j_get (nx := 12) hJ dX5_clearInput_9 rfl fX5_30 (by repeat (first | assumption | exact gup_same _ _ _ | rw [gup_ne _ _ (by first | decide | assumption | omega)])) (by rfl) ?_
  refine j_cv (nx := 15) hJ dX5_clearInput_12 rfl (r_clear (fl := fl) (d := d + 58) hI) mX5_75 (by repeat (first | assumption | exact gup_same _ _ _ | rw [gup_ne _ _ (by first | decide | assumption | omega)])) kX2_clear rfl (gle8 rfl) (fun o h2 hp => ?_)
  obtain ⟨rfl, hR2, hF2⟩ := hp
  refine j_p (nx := 16) hJ dX5_clearInput_15 rfl rfl ?_
  exact j_iret hJ dX5_clearInput_16 ⟨rfl, (hQ.row (r := 73) (by unfold gisR; omega) hR2 hF2).c⟩
set_option maxHeartbeats 4000000 in
theorem r_codeOf {fl : Bool} {d : Nat} {h0 h : GH} {R : Nat → List Int32} {N : Nat → Int32} (hQ : gQ h0 h R N) (c : Int32) : gR fl (d + 1) yX5_codeOf [.ref 0, .int c] h (.int (gcode (N 1) c)) := by
  have q0 := hQ.1.1
  have q1 := hQ.1.2.1.1
  have q2 := hQ.1.2.1.2.1
  have q3 := hQ.1.2.1.2.2.1
  have q4 := hQ.1.2.1.2.2.2
  have q75 := hQ.1.2.2.2.1
  have q80 := hQ.1.2.2.2.2.2.1.1
  obtain ⟨_, _, _, _, _, _, q76x⟩ := id hQ.1.2.2.2.2.2.2.1
  have q76 := q76x.1
  refine gN.of MX5_codeOf (Nat.le_of_ble_eq_true rfl) (fun J n hJ => ?_)
  show J 0 [some (.ref 0), some (.int c), none] [] h (n, 0, 0, fl)
  by_cases e88 : c = 88
  · subst e88
    refine j_p (nx := 1) hJ dX5_codeOf_0 rfl rfl ?_
    refine j_tbI (tgt := 32) hJ dX5_codeOf_1 (by decide) (by decide) rfl (by decide) ?_
    refine j_c (nx := 34) hJ dX5_codeOf_32 rfl gk_bipush_10 ?_
    exact j_iret hJ dX5_codeOf_34 ⟨rfl, rfl⟩
  by_cases e89 : c = 89
  · subst e89
    refine j_p (nx := 1) hJ dX5_codeOf_0 rfl rfl ?_
    refine j_tbI (tgt := 35) hJ dX5_codeOf_1 (by decide) (by decide) rfl (by decide) ?_
    refine j_c (nx := 37) hJ dX5_codeOf_35 rfl gk_bipush_11 ?_
    exact j_iret hJ dX5_codeOf_37 ⟨rfl, rfl⟩
  by_cases e90 : c = 90
  · subst e90
    refine j_p (nx := 1) hJ dX5_codeOf_0 rfl rfl ?_
    refine j_tbI (tgt := 38) hJ dX5_codeOf_1 (by decide) (by decide) rfl (by decide) ?_
    refine j_c (nx := 40) hJ dX5_codeOf_38 rfl gk_bipush_12 ?_
    exact j_iret hJ dX5_codeOf_40 ⟨rfl, rfl⟩
  by_cases e87 : c = 87
  · subst e87
    refine j_p (nx := 1) hJ dX5_codeOf_0 rfl rfl ?_
    refine j_tbI (tgt := 41) hJ dX5_codeOf_1 (by decide) (by decide) rfl (by decide) ?_
    refine j_c (nx := 43) hJ dX5_codeOf_41 rfl gk_bipush_13 ?_
    exact j_iret hJ dX5_codeOf_43 ⟨rfl, rfl⟩
  have hout : c.toInt < 87 ∨ 90 < c.toInt := by
    apply Classical.byContradiction
    intro q
    rcases (show c.toInt = 87 ∨ c.toInt = 88 ∨ c.toInt = 89 ∨ c.toInt = 90 by omega) with t | t | t | t
    · exact e87 (Int32.toInt_inj.mp t)
    · exact e88 (Int32.toInt_inj.mp t)
    · exact e89 (Int32.toInt_inj.mp t)
    · exact e90 (Int32.toInt_inj.mp t)
  refine j_p (nx := 1) hJ dX5_codeOf_0 rfl rfl ?_
  refine j_tbO (tgt := 44) hJ dX5_codeOf_1 hout (by decide) ?_
  refine j_p (nx := 45) hJ dX5_codeOf_44 rfl rfl ?_
  refine j_c (nx := 47) hJ dX5_codeOf_45 rfl gk_bipush_97 ?_
  refine j_ic_lt (nx := 50) (tgt := 68) hJ dX5_codeOf_47 rfl (by decide) (fun c47 => ?_) (fun c47 => ?_)
  · refine j_c (nx := 69) hJ dX5_codeOf_68 rfl gk_iconst_0 ?_
    refine j_p (nx := 70) hJ dX5_codeOf_69 rfl rfl ?_
    refine j_p (nx := 71) hJ dX5_codeOf_70 rfl rfl ?_
    refine j_if_eq (nx := 74) (tgt := 81) hJ dX5_codeOf_71 rfl (by decide) (fun _ => ?_) (fun c71 => absurd c71 (by decide))
    refine j_c (nx := 82) hJ dX5_codeOf_81 rfl gk_iconst_m1 ?_
    have e : gcode (N 1) c = -1 := by
      unfold gcode
      rw [if_neg e88, if_neg e89, if_neg e90, if_neg e87, if_neg (fun q => by first | exact absurd q.2 (by rw [Int32.le_iff_toInt_le] at c61; rw [Int32.lt_iff_toInt_lt]; omega) | exact absurd q.1 (by rw [Int32.lt_iff_toInt_lt] at c47; rw [Int32.le_iff_toInt_le]; omega))]
    exact j_iret hJ dX5_codeOf_82 ⟨by rw [e], rfl⟩
  · refine j_p (nx := 51) hJ dX5_codeOf_50 rfl rfl ?_
    refine j_c (nx := 53) hJ dX5_codeOf_51 rfl gk_bipush_97 ?_
    refine j_p (nx := 54) hJ dX5_codeOf_53 rfl rfl ?_
    refine j_get (nx := 57) hJ dX5_codeOf_54 rfl fX5_12 (by repeat (first | assumption | exact gup_same _ _ _ | rw [gup_ne _ _ (by first | decide | assumption | omega)])) (by rfl) ?_
    refine j_get (nx := 60) hJ dX5_codeOf_57 rfl fX5_61 (by repeat (first | assumption | exact gup_same _ _ _ | rw [gup_ne _ _ (by first | decide | assumption | omega)])) (by rfl) ?_
    refine j_p (nx := 61) hJ dX5_codeOf_60 rfl rfl ?_
    refine j_ic_ge (nx := 64) (tgt := 68) hJ dX5_codeOf_61 rfl (by decide) (fun c61 => ?_) (fun c61 => ?_)
    · refine j_c (nx := 69) hJ dX5_codeOf_68 rfl gk_iconst_0 ?_
      refine j_p (nx := 70) hJ dX5_codeOf_69 rfl rfl ?_
      refine j_p (nx := 71) hJ dX5_codeOf_70 rfl rfl ?_
      refine j_if_eq (nx := 74) (tgt := 81) hJ dX5_codeOf_71 rfl (by decide) (fun _ => ?_) (fun c71 => absurd c71 (by decide))
      refine j_c (nx := 82) hJ dX5_codeOf_81 rfl gk_iconst_m1 ?_
      have e : gcode (N 1) c = -1 := by
        unfold gcode
        rw [if_neg e88, if_neg e89, if_neg e90, if_neg e87, if_neg (fun q => by first | exact absurd q.2 (by rw [Int32.le_iff_toInt_le] at c61; rw [Int32.lt_iff_toInt_lt]; omega) | exact absurd q.1 (by rw [Int32.lt_iff_toInt_lt] at c47; rw [Int32.le_iff_toInt_le]; omega))]
      exact j_iret hJ dX5_codeOf_82 ⟨by rw [e], rfl⟩
    · refine j_c (nx := 65) hJ dX5_codeOf_64 rfl gk_iconst_1 ?_
      refine j_go (tgt := 69) hJ dX5_codeOf_65 (by decide) ?_
      refine j_p (nx := 70) hJ dX5_codeOf_69 rfl rfl ?_
      refine j_p (nx := 71) hJ dX5_codeOf_70 rfl rfl ?_
      refine j_if_eq (nx := 74) (tgt := 81) hJ dX5_codeOf_71 rfl (by decide) (fun c71 => absurd c71 (by decide)) (fun _ => ?_)
      refine j_p (nx := 75) hJ dX5_codeOf_74 rfl rfl ?_
      refine j_c (nx := 77) hJ dX5_codeOf_75 rfl gk_bipush_97 ?_
      refine j_p (nx := 78) hJ dX5_codeOf_77 rfl rfl ?_
      refine j_go (tgt := 82) hJ dX5_codeOf_78 (by decide) ?_
      have e : gcode (N 1) c = c - 97 := by
        unfold gcode
        rw [if_neg e88, if_neg e89, if_neg e90, if_neg e87, if_pos ⟨by rw [Int32.lt_iff_toInt_lt] at c47; rw [Int32.le_iff_toInt_le]; omega, by rw [Int32.le_iff_toInt_le] at c61; rw [Int32.lt_iff_toInt_lt]; omega⟩]
      exact j_iret hJ dX5_codeOf_82 ⟨by rw [e], rfl⟩
theorem gtake_s {l : List Int32} {i : Nat} (h : i < l.length) : l.take (i + 1) = l.take i ++ [l.getD i (-1)] := by
  rw [List.take_succ, List.getD_eq_getElem?_getD, List.getElem?_eq_getElem h]; rfl
theorem gallD {l : List Int32} {P : Int32 → Prop} (h : ∀ j, j < l.length → P (l.getD j (-1))) : ∀ c ∈ l, P c := fun c hc => by
  obtain ⟨j, hj, rfl⟩ := List.mem_iff_getElem.mp hc
  have := h j hj
  rw [List.getD_eq_getElem?_getD, List.getElem?_eq_getElem hj] at this
  exact this
set_option maxHeartbeats 4000000 in
theorem r_readSymbols {fl : Bool} {d : Nat} {h0 h : GH} {R : Nat → List Int32} {N : Nat → Int32} (hQ : gQ h0 h R N) {r : Nat} (hr : gisR r) (hr83 : r ≠ 83) : gN fl (d + 3) yX5_readSymbols [.ref 0, .ref r] h (fun o h' => o = some (.int (gb (grd (N 1) (R r)).isSome)) ∧ ∃ l, gQ h0 h' (gU R 83 l) N ∧ ∀ x, grd (N 1) (R r) = some x → l = x) := by
  have q0 := hQ.1.1
  have q1 := hQ.1.2.1.1
  have q2 := hQ.1.2.1.2.1
  have q3 := hQ.1.2.1.2.2.1
  have q4 := hQ.1.2.1.2.2.2
  have q75 := hQ.1.2.2.2.1
  have q80 := hQ.1.2.2.2.2.2.1.1
  obtain ⟨_, _, _, _, _, _, q76x⟩ := id hQ.1.2.2.2.2.2.2.1
  have q76 := q76x.1
  have hD := hQ.r8 (r := 83) (by unfold gisR; omega) (by omega) (by omega)
  have hDr := hD.2.2.2.1
  have hS := hQ.r hr
  have hSr := hS.2.2.2.1
  have hSc := hS.2.2.1
  have hSl := hS.2.1
  refine gN.of MX5_readSymbols (Nat.le_of_ble_eq_true rfl) (fun J n hJ => ?_)
  show J 0 [some (.ref 0), some (.ref r), none, none] [] h (n, 0, 0, fl)
  refine j_p (nx := 1) hJ dX5_readSymbols_0 rfl rfl ?_
  refine j_get (nx := 4) hJ dX5_readSymbols_1 rfl fX5_54 (by repeat (first | assumption | exact gup_same _ _ _ | rw [gup_ne _ _ (by first | decide | assumption | omega)])) (by rfl) ?_
  refine j_cv (nx := 7) hJ dX5_readSymbols_4 rfl (r_clear (fl := fl) (d := d + 1) hD) mX5_75 (by repeat (first | assumption | exact gup_same _ _ _ | rw [gup_ne _ _ (by first | decide | assumption | omega)])) kX2_clear rfl (gle8 rfl) (fun o h1 hp => ?_)
  obtain ⟨rfl, hR1, hF1⟩ := hp
  have hQ1 := hQ.row8 (r := 83) (by unfold gisR; omega) (by omega) (by omega) hR1 hF1
  have hS1 := hQ1.r hr
  have hS1r := hS1.2.2.2.1
  rw [gU_n _ _ hr83] at hS1 hS1r
  refine j_p (nx := 8) hJ dX5_readSymbols_7 rfl rfl ?_
  refine j_get (nx := 11) hJ dX5_readSymbols_8 rfl fX5_68 (by repeat (first | assumption | exact gup_same _ _ _ | rw [gup_ne _ _ (by first | decide | assumption | omega)])) (by rfl) ?_
  refine j_c (nx := 13) hJ dX5_readSymbols_11 rfl gk_bipush_8 ?_
  refine j_ic_le (nx := 16) (tgt := 18) hJ dX5_readSymbols_13 rfl (by decide) (fun c13 => ?_) (fun c13 => ?_)
  · rw [show (8 : Int32) = nI 8 from rfl, gnle (by omega) (by omega)] at c13
    have hl8 := c13
    clear c13
    have loop : ∀ i, i ≤ (R r).length → ∀ (h1 : GH) (w3 : Option Value), gQ h0 h1 (gU R 83 (((R r).take i).map (gcode (N 1)))) N → (∀ j, j < i → gcode (N 1) ((R r).getD j (-1)) ≠ -1) → J 20 [some (.ref 0), some (.ref r), some (.int (nI i)), w3] [] h1 (n, 0, 0, fl) := by
      refine gloop _ _ (fun i hi ih h1 w3 hQ1 hgd => ?_)
      have q01 := hQ1.1.1
      have hS1 := hQ1.r hr
      have hS1r := hS1.2.2.2.1
      rw [gU_n _ _ hr83] at hS1 hS1r
      have hD1 := hQ1.r8 (r := 83) (by unfold gisR; omega) (by omega) (by omega)
      have hD1r := hD1.2.2.2.1
      refine j_p (nx := 21) hJ dX5_readSymbols_20 rfl rfl ?_
      refine j_p (nx := 22) hJ dX5_readSymbols_21 rfl rfl ?_
      refine j_get (nx := 25) hJ dX5_readSymbols_22 rfl fX5_68 (by repeat (first | assumption | exact gup_same _ _ _ | rw [gup_ne _ _ (by first | decide | assumption | omega)])) (by rfl) ?_
      refine j_ic_ge (nx := 28) (tgt := 60) hJ dX5_readSymbols_25 rfl (by decide) (fun c25 => ?_) (fun c25 => ?_)
      · refine j_c (nx := 61) hJ dX5_readSymbols_60 rfl gk_iconst_1 ?_
        rw [gnle (by omega) (by omega)] at c25
        have e0 : i = (R r).length := by omega
        have e : grd (N 1) (R r) = some ((R r).map (gcode (N 1))) := if_pos ⟨hl8, gallD (fun j hj => hgd j (by omega))⟩
        rw [e0, List.take_length] at hQ1
        exact j_zret hJ true dX5_readSymbols_61 rfl ⟨by rw [e]; rfl, _, hQ1, fun x hx => by rw [e] at hx; exact Option.some.inj hx⟩
      · rw [gnle (by omega) (by omega)] at c25
        have hkl : i < (R r).length := by omega
        refine j_p (nx := 29) hJ dX5_readSymbols_28 rfl rfl ?_
        refine j_p (nx := 30) hJ dX5_readSymbols_29 rfl rfl ?_
        refine j_p (nx := 31) hJ dX5_readSymbols_30 rfl rfl ?_
        refine j_cvR (nx := 34) hJ dX5_readSymbols_31 rfl (r_at (fl := fl) (d := d + 1) hS1 (nI i)) mX5_92 (by repeat (first | assumption | exact gup_same _ _ _ | rw [gup_ne _ _ (by first | decide | assumption | omega)])) kX2_at rfl (gle8 rfl) ?_
        rw [gat_nI (by omega)]
        refine j_cvR (nx := 37) hJ dX5_readSymbols_34 rfl (r_codeOf (fl := fl) (d := d + 1) hQ1 _) mX5_96 (by repeat (first | assumption | exact gup_same _ _ _ | rw [gup_ne _ _ (by first | decide | assumption | omega)])) kX5_codeOf rfl (gle8 rfl) ?_
        refine j_p (nx := 38) hJ dX5_readSymbols_37 rfl rfl ?_
        refine j_p (nx := 39) hJ dX5_readSymbols_38 rfl rfl ?_
        refine j_c (nx := 40) hJ dX5_readSymbols_39 rfl gk_iconst_m1 ?_
        refine j_ic_ne (nx := 43) (tgt := 45) hJ dX5_readSymbols_40 rfl (by decide) (fun c40 => ?_) (fun c40 => ?_)
        · refine j_p (nx := 46) hJ dX5_readSymbols_45 rfl rfl ?_
          refine j_get (nx := 49) hJ dX5_readSymbols_46 rfl fX5_54 (by repeat (first | assumption | exact gup_same _ _ _ | rw [gup_ne _ _ (by first | decide | assumption | omega)])) (by rfl) ?_
          refine j_p (nx := 50) hJ dX5_readSymbols_49 rfl rfl ?_
          refine j_cv (nx := 53) hJ dX5_readSymbols_50 rfl (r_add (fl := fl) (d := d + 1) hD1 _) mX5_71 (by repeat (first | assumption | exact gup_same _ _ _ | rw [gup_ne _ _ (by first | decide | assumption | omega)])) kX2_add rfl (gle8 rfl) (fun o h2 hp => ?_)
          obtain ⟨rfl, hR2, hF2⟩ := hp
          have hlt : ((R r).take i).length = i := by rw [List.length_take]; omega
          rw [gU_s, List.length_map, hlt, if_pos (by omega)] at hR2
          refine j_p (nx := 54) hJ dX5_readSymbols_53 rfl rfl ?_
          refine j_inc (nx := 57) hJ dX5_readSymbols_54 rfl rfl (gi1 i) rfl ?_
          refine j_go (tgt := 20) hJ dX5_readSymbols_57 (by decide) ?_
          refine ih hkl _ _ ((hQ1.row8 (r := 83) (by unfold gisR; omega) (by omega) (by omega) hR2 hF2).rw (fun a => ?_) (fun _ => rfl)) (fun j hj => ?_)
          · unfold gU
            split
            · rw [gtake_s hkl, List.map_append]; rfl
            · rfl
          · by_cases e : j = i
            · subst e; exact c40
            · exact hgd j (by omega)
        · refine j_c (nx := 44) hJ dX5_readSymbols_43 rfl gk_iconst_0 ?_
          have e : grd (N 1) (R r) = none := if_neg (fun q => q.2 _ (ggetD_mem hkl) c40)
          exact j_zret hJ false dX5_readSymbols_44 rfl ⟨by rw [e]; rfl, _, hQ1, fun x hx => by rw [e] at hx; cases hx⟩
    refine j_c (nx := 19) hJ dX5_readSymbols_18 rfl gk_iconst_0 ?_
    refine j_p (nx := 20) hJ dX5_readSymbols_19 rfl rfl ?_
    exact loop 0 (Nat.zero_le _) h1 _ hQ1 (fun j hj => by omega)
  · refine j_c (nx := 17) hJ dX5_readSymbols_16 rfl gk_iconst_0 ?_
    rw [show (8 : Int32) = nI 8 from rfl, gnle (by omega) (by omega)] at c13
    have e : grd (N 1) (R r) = none := if_neg (fun q => c13 q.1)
    exact j_zret hJ false dX5_readSymbols_17 rfl ⟨by rw [e]; rfl, _, hQ1, fun x hx => by rw [e] at hx; cases hx⟩
set_option maxHeartbeats 4000000 in
theorem r_readPattern {fl : Bool} {d : Nat} {h0 h : GH} {R : Nat → List Int32} {N : Nat → Int32} (hQ : gQ h0 h R N) {r : Nat} (hr : gisR r) (hr83 : r ≠ 83) : gN fl (d + 6) yX5_readPattern [.ref 0, .ref r] h (fun o h' => o = some (.int (gb (gpt (N 1) (R r)).isSome)) ∧ ∃ l, gQ h0 h' (gU R 83 l) N ∧ ∀ x, gpt (N 1) (R r) = some x → l = x) := by
  have q0 := hQ.1.1
  have q1 := hQ.1.2.1.1
  have q2 := hQ.1.2.1.2.1
  have q3 := hQ.1.2.1.2.2.1
  have q4 := hQ.1.2.1.2.2.2
  have q75 := hQ.1.2.2.2.1
  have q80 := hQ.1.2.2.2.2.2.1.1
  obtain ⟨_, _, _, _, _, _, q76x⟩ := id hQ.1.2.2.2.2.2.2.1
  have q76 := q76x.1
  refine gN.of MX5_readPattern (Nat.le_of_ble_eq_true rfl) (fun J n hJ => ?_)
  show J 0 [some (.ref 0), some (.ref r)] [] h (n, 0, 0, fl)
  refine j_p (nx := 1) hJ dX5_readPattern_0 rfl rfl ?_
  refine j_p (nx := 2) hJ dX5_readPattern_1 rfl rfl ?_
  refine j_cv (nx := 5) hJ dX5_readPattern_2 rfl (r_readSymbols (fl := fl) (d := d + 2) hQ hr hr83) mX5_82 (by repeat (first | assumption | exact gup_same _ _ _ | rw [gup_ne _ _ (by first | decide | assumption | omega)])) kX5_readSymbols rfl (gle8 rfl) (fun o h1 hp => ?_)
  obtain ⟨rfl, l, hQ1, hl⟩ := hp
  have q01 := hQ1.1.1
  have hD1 := hQ1.r8 (r := 83) (by unfold gisR; omega) (by omega) (by omega)
  have hD1r := hD1.2.2.2.1
  refine j_if_eq (nx := 8) (tgt := 19) hJ dX5_readPattern_5 rfl (by decide) (fun c5 => ?_) (fun c5 => ?_)
  · have hg := gsome_f c5
    have e : gpt (N 1) (R r) = none := by unfold gpt; rw [hg]
    refine j_c (nx := 20) hJ dX5_readPattern_19 rfl gk_iconst_0 ?_
    exact j_zret hJ false dX5_readPattern_20 rfl ⟨by rw [e]; rfl, _, hQ1, fun x hx => by rw [e] at hx; cases hx⟩
  obtain ⟨y, hg⟩ := gsome_t c5
  have hly := hl y hg
  subst hly
  have hD8 := hD1.2.1
  rw [gU_s] at hD8 hD1r
  refine j_p (nx := 9) hJ dX5_readPattern_8 rfl rfl ?_
  refine j_get (nx := 12) hJ dX5_readPattern_9 rfl fX5_54 (by repeat (first | assumption | exact gup_same _ _ _ | rw [gup_ne _ _ (by first | decide | assumption | omega)])) (by rfl) ?_
  refine j_get (nx := 15) hJ dX5_readPattern_12 rfl fX5_68 (by repeat (first | assumption | exact gup_same _ _ _ | rw [gup_ne _ _ (by first | decide | assumption | omega)])) (by rfl) ?_
  refine j_c (nx := 16) hJ dX5_readPattern_15 rfl gk_iconst_1 ?_
  refine j_ic_ge (nx := 19) (tgt := 21) hJ dX5_readPattern_16 rfl (by decide) (fun c16 => ?_) (fun c16 => ?_)
  · rw [show (1 : Int32) = nI 1 from rfl, gnle (by omega) (by omega)] at c16
    refine j_p (nx := 22) hJ dX5_readPattern_21 rfl rfl ?_
    refine j_get (nx := 25) hJ dX5_readPattern_22 rfl fX5_54 (by repeat (first | assumption | exact gup_same _ _ _ | rw [gup_ne _ _ (by first | decide | assumption | omega)])) (by rfl) ?_
    refine j_cv (nx := 28) hJ dX5_readPattern_25 rfl (r_makeCanonical (fl := fl) (d := d + 1) hD1) mX5_89 (by repeat (first | assumption | exact gup_same _ _ _ | rw [gup_ne _ _ (by first | decide | assumption | omega)])) kX2_makeCanonical rfl (gle8 rfl) (fun o h2 hp => ?_)
    obtain ⟨rfl, hR2, hF2⟩ := hp
    rw [gU_s] at hR2
    have hQ2 := hQ1.row8 (r := 83) (by unfold gisR; omega) (by omega) (by omega) hR2 hF2
    refine j_c (nx := 29) hJ dX5_readPattern_28 rfl gk_iconst_1 ?_
    have e : gpt (N 1) (R r) = some (gcan l) := by unfold gpt; rw [hg]; exact if_neg (by omega)
    exact j_zret hJ true dX5_readPattern_29 rfl ⟨by rw [e]; rfl, gcan l, hQ2.rw (fun a => by unfold gU; split <;> rfl) (fun _ => rfl), fun x hx => by rw [e] at hx; exact Option.some.inj hx⟩
  · refine j_c (nx := 20) hJ dX5_readPattern_19 rfl gk_iconst_0 ?_
    rw [show (1 : Int32) = nI 1 from rfl, gnle (by omega) (by omega)] at c16
    have e : gpt (N 1) (R r) = none := by unfold gpt; rw [hg]; exact if_pos (by omega)
    exact j_zret hJ false dX5_readPattern_20 rfl ⟨by rw [e]; rfl, _, hQ1, fun x hx => by rw [e] at hx; cases hx⟩
set_option maxHeartbeats 4000000 in
theorem r_takePattern {fl : Bool} {d : Nat} {h0 h : GH} {R : Nat → List Int32} {N : Nat → Int32} (hQ : gQ h0 h R N) : gN fl (d + 7) yX5_takePattern [.ref 0] h (fun o h' => o = some (.int (gb (gpt (N 1) (R 73)).isSome)) ∧ ∃ l, gQ h0 h' (gU (gU R 83 l) 73 []) N ∧ ∀ x, gpt (N 1) (R 73) = some x → l = x) := by
  have q0 := hQ.1.1
  have q1 := hQ.1.2.1.1
  have q2 := hQ.1.2.1.2.1
  have q3 := hQ.1.2.1.2.2.1
  have q4 := hQ.1.2.1.2.2.2
  have q75 := hQ.1.2.2.2.1
  have q80 := hQ.1.2.2.2.2.2.1.1
  obtain ⟨_, _, _, _, _, _, q76x⟩ := id hQ.1.2.2.2.2.2.2.1
  have q76 := q76x.1
  refine gN.of MX5_takePattern (Nat.le_of_ble_eq_true rfl) (fun J n hJ => ?_)
  show J 0 [some (.ref 0), none] [] h (n, 0, 0, fl)
  refine j_p (nx := 1) hJ dX5_takePattern_0 rfl rfl ?_
  refine j_p (nx := 2) hJ dX5_takePattern_1 rfl rfl ?_
  refine j_get (nx := 5) hJ dX5_takePattern_2 rfl fX5_30 (by repeat (first | assumption | exact gup_same _ _ _ | rw [gup_ne _ _ (by first | decide | assumption | omega)])) (by rfl) ?_
  refine j_cv (nx := 8) hJ dX5_takePattern_5 rfl (r_readPattern (fl := fl) (d := d) hQ (r := 73) (by unfold gisR; omega) (by omega)) mX5_78 (by repeat (first | assumption | exact gup_same _ _ _ | rw [gup_ne _ _ (by first | decide | assumption | omega)])) kX5_readPattern rfl (gle8 rfl) (fun o h1 hp => ?_)
  obtain ⟨rfl, l, hQ1, hl⟩ := hp
  have q01 := hQ1.1.1
  have hI1 := hQ1.r (r := 73) (by unfold gisR; omega)
  have hI1r := hI1.2.2.2.1
  refine j_p (nx := 9) hJ dX5_takePattern_8 rfl rfl ?_
  refine j_p (nx := 10) hJ dX5_takePattern_9 rfl rfl ?_
  refine j_get (nx := 13) hJ dX5_takePattern_10 rfl fX5_30 (by repeat (first | assumption | exact gup_same _ _ _ | rw [gup_ne _ _ (by first | decide | assumption | omega)])) (by rfl) ?_
  refine j_cv (nx := 16) hJ dX5_takePattern_13 rfl (r_clear (fl := fl) (d := d + 5) hI1) mX5_75 (by repeat (first | assumption | exact gup_same _ _ _ | rw [gup_ne _ _ (by first | decide | assumption | omega)])) kX2_clear rfl (gle8 rfl) (fun o h2 hp => ?_)
  obtain ⟨rfl, hR2, hF2⟩ := hp
  have hQ2 := hQ1.row (r := 73) (by unfold gisR; omega) hR2 hF2
  refine j_p (nx := 17) hJ dX5_takePattern_16 rfl rfl ?_
  exact j_zret hJ _ dX5_takePattern_17 rfl ⟨rfl, l, hQ2, hl⟩
set_option maxHeartbeats 4000000 in
theorem r_takeWord {fl : Bool} {d : Nat} {h0 h : GH} {R : Nat → List Int32} {N : Nat → Int32} (hQ : gQ h0 h R N) : gN fl (d + 4) yX5_takeWord [.ref 0] h (fun o h' => o = some (.int (gb (gwd (N 1) (R 73)).isSome)) ∧ ∃ l, gQ h0 h' (gU (gU R 83 l) 73 []) N ∧ ∀ x, gwd (N 1) (R 73) = some x → l = x) := by
  have q0 := hQ.1.1
  have q1 := hQ.1.2.1.1
  have q2 := hQ.1.2.1.2.1
  have q3 := hQ.1.2.1.2.2.1
  have q4 := hQ.1.2.1.2.2.2
  have q75 := hQ.1.2.2.2.1
  have q80 := hQ.1.2.2.2.2.2.1.1
  obtain ⟨_, _, _, _, _, _, q76x⟩ := id hQ.1.2.2.2.2.2.2.1
  have q76 := q76x.1
  refine gN.of MX5_takeWord (Nat.le_of_ble_eq_true rfl) (fun J n hJ => ?_)
  show J 0 [some (.ref 0), none] [] h (n, 0, 0, fl)
  refine j_p (nx := 1) hJ dX5_takeWord_0 rfl rfl ?_
  refine j_p (nx := 2) hJ dX5_takeWord_1 rfl rfl ?_
  refine j_get (nx := 5) hJ dX5_takeWord_2 rfl fX5_30 (by repeat (first | assumption | exact gup_same _ _ _ | rw [gup_ne _ _ (by first | decide | assumption | omega)])) (by rfl) ?_
  refine j_cv (nx := 8) hJ dX5_takeWord_5 rfl (r_readSymbols (fl := fl) (d := d) hQ (r := 73) (by unfold gisR; omega) (by omega)) mX5_82 (by repeat (first | assumption | exact gup_same _ _ _ | rw [gup_ne _ _ (by first | decide | assumption | omega)])) kX5_readSymbols rfl (gle8 rfl) (fun o h1 hp => ?_)
  obtain ⟨rfl, l, hQ1, hl⟩ := hp
  have q01 := hQ1.1.1
  have hI1 := hQ1.r (r := 73) (by unfold gisR; omega)
  have hI1r := hI1.2.2.2.1
  have hD1 := hQ1.r8 (r := 83) (by unfold gisR; omega) (by omega) (by omega)
  have hD1r := hD1.2.2.2.1
  refine j_if_eq (nx := 11) (tgt := 32) hJ dX5_takeWord_8 rfl (by decide) (fun c8 => ?_) (fun c8 => ?_)
  · have hg := gsome_f c8
    have e : gwd (N 1) (R 73) = none := by unfold gwd; rw [hg]
    refine j_c (nx := 33) hJ dX5_takeWord_32 rfl gk_iconst_0 ?_
    refine j_p (nx := 34) hJ dX5_takeWord_33 rfl rfl ?_
    refine j_p (nx := 35) hJ dX5_takeWord_34 rfl rfl ?_
    refine j_get (nx := 38) hJ dX5_takeWord_35 rfl fX5_30 (by repeat (first | assumption | exact gup_same _ _ _ | rw [gup_ne _ _ (by first | decide | assumption | omega)])) (by rfl) ?_
    refine j_cv (nx := 41) hJ dX5_takeWord_38 rfl (r_clear (fl := fl) (d := d + 2) hI1) mX5_75 (by repeat (first | assumption | exact gup_same _ _ _ | rw [gup_ne _ _ (by first | decide | assumption | omega)])) kX2_clear rfl (gle8 rfl) (fun o h2 hp => ?_)
    obtain ⟨rfl, hR2, hF2⟩ := hp
    have hQ2 := hQ1.row (r := 73) (by unfold gisR; omega) hR2 hF2
    refine j_p (nx := 42) hJ dX5_takeWord_41 rfl rfl ?_
    exact j_zret hJ false dX5_takeWord_42 rfl ⟨by rw [e]; rfl, l, hQ2, fun x hx => by rw [e] at hx; cases hx⟩
  obtain ⟨y, hg⟩ := gsome_t c8
  have hly := hl y hg
  subst hly
  have hD8 := hD1.2.1
  refine j_p (nx := 12) hJ dX5_takeWord_11 rfl rfl ?_
  refine j_get (nx := 15) hJ dX5_takeWord_12 rfl fX5_54 (by repeat (first | assumption | exact gup_same _ _ _ | rw [gup_ne _ _ (by first | decide | assumption | omega)])) (by rfl) ?_
  refine j_cvR (nx := 18) hJ dX5_takeWord_15 rfl (r_letterCount (fl := fl) (d := d + 1) hD1) mX5_85 (by repeat (first | assumption | exact gup_same _ _ _ | rw [gup_ne _ _ (by first | decide | assumption | omega)])) kX2_letterCount rfl (gle8 rfl) ?_
  refine j_p (nx := 19) hJ dX5_takeWord_18 rfl rfl ?_
  refine j_get (nx := 22) hJ dX5_takeWord_19 rfl fX5_54 (by repeat (first | assumption | exact gup_same _ _ _ | rw [gup_ne _ _ (by first | decide | assumption | omega)])) (by rfl) ?_
  refine j_get (nx := 25) hJ dX5_takeWord_22 rfl fX5_68 (by repeat (first | assumption | exact gup_same _ _ _ | rw [gup_ne _ _ (by first | decide | assumption | omega)])) (by rfl) ?_
  rw [gU_s]
  refine j_ic_ne (nx := 28) (tgt := 32) hJ dX5_takeWord_25 rfl (by decide) (fun c25 => ?_) (fun c25 => ?_)
  · have e : gwd (N 1) (R 73) = none := by unfold gwd; rw [hg]; exact if_neg c25
    refine j_c (nx := 33) hJ dX5_takeWord_32 rfl gk_iconst_0 ?_
    refine j_p (nx := 34) hJ dX5_takeWord_33 rfl rfl ?_
    refine j_p (nx := 35) hJ dX5_takeWord_34 rfl rfl ?_
    refine j_get (nx := 38) hJ dX5_takeWord_35 rfl fX5_30 (by repeat (first | assumption | exact gup_same _ _ _ | rw [gup_ne _ _ (by first | decide | assumption | omega)])) (by rfl) ?_
    refine j_cv (nx := 41) hJ dX5_takeWord_38 rfl (r_clear (fl := fl) (d := d + 2) hI1) mX5_75 (by repeat (first | assumption | exact gup_same _ _ _ | rw [gup_ne _ _ (by first | decide | assumption | omega)])) kX2_clear rfl (gle8 rfl) (fun o h2 hp => ?_)
    obtain ⟨rfl, hR2, hF2⟩ := hp
    have hQ2 := hQ1.row (r := 73) (by unfold gisR; omega) hR2 hF2
    refine j_p (nx := 42) hJ dX5_takeWord_41 rfl rfl ?_
    exact j_zret hJ false dX5_takeWord_42 rfl ⟨by rw [e]; rfl, l, hQ2, fun x hx => by rw [e] at hx; cases hx⟩
  · have e : gwd (N 1) (R 73) = some l := by unfold gwd; rw [hg]; exact if_pos c25
    refine j_c (nx := 29) hJ dX5_takeWord_28 rfl gk_iconst_1 ?_
    refine j_go (tgt := 33) hJ dX5_takeWord_29 (by decide) ?_
    refine j_p (nx := 34) hJ dX5_takeWord_33 rfl rfl ?_
    refine j_p (nx := 35) hJ dX5_takeWord_34 rfl rfl ?_
    refine j_get (nx := 38) hJ dX5_takeWord_35 rfl fX5_30 (by repeat (first | assumption | exact gup_same _ _ _ | rw [gup_ne _ _ (by first | decide | assumption | omega)])) (by rfl) ?_
    refine j_cv (nx := 41) hJ dX5_takeWord_38 rfl (r_clear (fl := fl) (d := d + 2) hI1) mX5_75 (by repeat (first | assumption | exact gup_same _ _ _ | rw [gup_ne _ _ (by first | decide | assumption | omega)])) kX2_clear rfl (gle8 rfl) (fun o h2 hp => ?_)
    obtain ⟨rfl, hR2, hF2⟩ := hp
    have hQ2 := hQ1.row (r := 73) (by unfold gisR; omega) hR2 hF2
    refine j_p (nx := 42) hJ dX5_takeWord_41 rfl rfl ?_
    exact j_zret hJ true dX5_takeWord_42 rfl ⟨by rw [e]; rfl, l, hQ2, fun x hx => by rw [e] at hx; exact Option.some.inj hx⟩
