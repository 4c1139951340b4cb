/-- the i-th word of length n over z letters -/
def gpr (z : Int32) (n : Nat) : Nat → List Int32
  | 0 => List.replicate n 0
  | i + 1 => gadvI z (gpr z n i) (gpr z n i).length
theorem gpr_len (z : Int32) (n : Nat) : ∀ i, (gpr z n i).length = n
  | 0 => by simp [gpr]
  | i + 1 => by rw [gpr, gadvI_len, gpr_len z n i]
def gct (n : Nat) (f : Nat → Bool) : Nat := (List.range n).countP f
theorem gct_s (n : Nat) (f : Nat → Bool) : gct (n + 1) f = gct n f + (if f n = true then 1 else 0) := by
  unfold gct
  rw [List.range_succ, List.countP_append]
  simp [List.countP_cons]
theorem gct_le (n : Nat) (f : Nat → Bool) : gct n f ≤ n := by
  unfold gct
  have := List.countP_le_length (p := f) (l := List.range n)
  rw [List.length_range] at this; exact this
theorem gpow {k n : Nat} (hk : k ≤ 3) (hn : n ≤ 6) : k ^ n ≤ 729 := by
  have h1 : k ^ n ≤ 3 ^ n := Nat.pow_le_pow_left hk n
  have h2 : 3 ^ n ≤ 3 ^ 6 := Nat.pow_le_pow_right (by omega) hn
  have h3 : (3 : Nat) ^ 6 = 729 := by decide
  omega
def s_countWords (R : Nat → List Int32) (N : Nat → Int32) (x md z : Int32) : Int32 := if gbt x 6 = true then (if gmd md = true ∧ 0 ≤ z.toInt ∧ z.toInt ≤ 6 then nI (gct (gkk N ^ z.toInt.toNat) (fun i => gMB (R (gr x)) (gpr (N 1) z.toInt.toNat i) md 0 0)) else -1) else -2
def gdf (p q : List Int32) (k1 : Int32) (md : Int32) (w n : Nat) : Option Nat := (List.range w).find? (fun i => gMB p (gpr k1 n i) md 0 0 && !gMB q (gpr k1 n i) md 0 0)
def s_difference (R : Nat → List Int32) (N : Nat → Int32) (x y md z : Int32) : Int64 := if (gbt x 6 = true ∧ gbt y 6 = true) ∧ gmd md = true ∧ 0 ≤ z.toInt ∧ z.toInt ≤ 6 then ((List.range (z.toInt.toNat + 1)).findSome? (fun n => (gdf (R (gr x)) (R (gr y)) (N 1) md (gkk N ^ n) n).map (fun i => (gwc (gpr (N 1) n i)).1))).getD (-9223372036854775808) else -9223372036854775808
theorem gfnd_n {n : Nat} {f : Nat → Bool} (h : ∀ i, i < n → f i = false) : (List.range n).find? f = none := List.find?_eq_none.mpr (fun i hi => by rw [h i (List.mem_range.mp hi)]; decide)
theorem gfnd_s {n k : Nat} {f : Nat → Bool} (h : ∀ i, i < k → f i = false) (hk : k < n) (hx : f k = true) : (List.range n).find? f = some k := by
  have e : n = (k + 1) + (n - (k + 1)) := by omega
  rw [e, List.range_add, List.find?_append, List.range_succ, List.find?_append, gfnd_n h]
  simp [hx]
set_option maxHeartbeats 4000000 in
theorem r_wordsOfLength {fl : Bool} {d : Nat} {h0 h : GH} {R : Nat → List Int32} {N : Nat → Int32} (hQ : gQ h0 h R N) {k : Nat} (hk : N 1 = nI k) (hk3 : k ≤ 3) {zn : Nat} (hz : zn ≤ 6) : gR fl (d + 1) yX5_wordsOfLength [.ref 0, .int (nI zn)] h (.int (nI (k ^ zn))) := by
  have q0 := hQ.1.1
  have q1 := hQ.1.2.1.1
  have q2 := hQ.1.2.1.2.1
  have q3 := hQ.1.2.1.2.2.1
  have q4 := hQ.1.2.1.2.2.2
  have q75 := hQ.1.2.2.2.1
  have q80 := hQ.1.2.2.2.2.2.1.1
  obtain ⟨_, _, _, _, _, _, q76x⟩ := id hQ.1.2.2.2.2.2.2.1
  have q76 := q76x.1
  rw [hk] at q1
  refine gN.of MX5_wordsOfLength (Nat.le_of_ble_eq_true rfl) (fun J n hJ => ?_)
  show J 0 [some (.ref 0), some (.int (nI zn)), none, none] [] h (n, 0, 0, fl)
  have loop : ∀ i, i ≤ zn → J 4 [some (.ref 0), some (.int (nI zn)), some (.int (nI (k ^ i))), some (.int (nI i))] [] h (n, 0, 0, fl) := by
    refine gloop _ _ (fun i hi ih => ?_)
    refine j_p (nx := 5) hJ dX5_wordsOfLength_4 rfl rfl ?_
    refine j_p (nx := 6) hJ dX5_wordsOfLength_5 rfl rfl ?_
    refine j_ic_ge (nx := 9) (tgt := 25) hJ dX5_wordsOfLength_6 rfl (by decide) (fun c6 => ?_) (fun c6 => ?_)
    · refine j_p (nx := 26) hJ dX5_wordsOfLength_25 rfl rfl ?_
      rw [gnle (by omega) (by omega)] at c6
      have e0 : i = zn := by omega
      subst e0
      exact j_iret hJ dX5_wordsOfLength_26 ⟨rfl, rfl⟩
    · rw [gnle (by omega) (by omega)] at c6
      have hil : i < zn := by omega
      refine j_p (nx := 10) hJ dX5_wordsOfLength_9 rfl rfl ?_
      refine j_p (nx := 11) hJ dX5_wordsOfLength_10 rfl rfl ?_
      refine j_get (nx := 14) hJ dX5_wordsOfLength_11 rfl fX5_12 (by repeat (first | assumption | exact gup_same _ _ _ | rw [gup_ne _ _ (by first | decide | assumption | omega)])) (by rfl) ?_
      refine j_get (nx := 17) hJ dX5_wordsOfLength_14 rfl fX5_61 (by repeat (first | assumption | exact gup_same _ _ _ | rw [gup_ne _ _ (by first | decide | assumption | omega)])) (by rfl) ?_
      refine j_p (nx := 18) hJ dX5_wordsOfLength_17 rfl rfl ?_
      rw [gmul]
      refine j_p (nx := 19) hJ dX5_wordsOfLength_18 rfl rfl ?_
      refine j_inc (nx := 22) hJ dX5_wordsOfLength_19 rfl rfl (gi1 i) rfl ?_
      refine j_go (tgt := 4) hJ dX5_wordsOfLength_22 (by decide) ?_
      exact ih hil
  refine j_c (nx := 1) hJ dX5_wordsOfLength_0 rfl gk_iconst_1 ?_
  refine j_p (nx := 2) hJ dX5_wordsOfLength_1 rfl rfl ?_
  refine j_c (nx := 3) hJ dX5_wordsOfLength_2 rfl gk_iconst_0 ?_
  refine j_p (nx := 4) hJ dX5_wordsOfLength_3 rfl rfl ?_
  exact loop 0 (Nat.zero_le _)
set_option maxHeartbeats 4000000 in
theorem r_countWords {fl : Bool} {d : Nat} {h0 h : GH} {R : Nat → List Int32} {N : Nat → Int32} (hQ : gQ h0 h R N) (hsy : ∀ r, r < 6 → ∀ c ∈ R (5 + 2 * r), gsy c) {k : Nat} (hk : N 1 = nI k) (hk3 : k ≤ 3) (x md z : Int32) : gN fl (d + 60) yX5_countWords [.ref 0, .int x, .int md, .int z] h (fun o h' => o = some (.int (s_countWords R N x md z)) ∧ gC h0 h' R N) := by
  have q0 := hQ.1.1
  have q1 := hQ.1.2.1.1
  have q2 := hQ.1.2.1.2.1
  have q3 := hQ.1.2.1.2.2.1
  have q4 := hQ.1.2.1.2.2.2
  have q75 := hQ.1.2.2.2.1
  have q80 := hQ.1.2.2.2.2.2.1.1
  obtain ⟨_, _, _, _, _, _, q76x⟩ := id hQ.1.2.2.2.2.2.2.1
  have q76 := q76x.1
  have egk := gkk_nI hk hk3
  have hW := hQ.r8 (r := 85) (by unfold gisR; omega) (by omega) (by omega)
  have hWr := hW.2.2.2.1
  refine gN.of MX5_countWords (Nat.le_of_ble_eq_true rfl) (fun J n hJ => ?_)
  show J 0 [some (.ref 0), some (.int x), some (.int md), some (.int z), none, none, none] [] h (n, 0, 0, fl)
  by_cases hx : gbt x 6 = true
  · obtain ⟨r, rfl, hr⟩ := gbt_spec hx
    have egr := gr_nI (r := r) (by omega)
    by_cases hm : gmd md = true ∧ 0 ≤ z.toInt ∧ z.toInt ≤ 6
    · obtain ⟨zn, hzn⟩ : ∃ zn, z.toInt.toNat = zn := ⟨_, rfl⟩
      have hz := gnat (x := z) (by omega)
      rw [hzn] at hz
      have hz6 : zn ≤ 6 := by omega
      rw [hz]
      refine j_p (nx := 1) hJ dX5_countWords_0 rfl rfl ?_
      refine j_csR (nx := 4) hJ dX5_countWords_1 rfl (r_isRegister (fl := fl) (d := d + 58) _) mX5_112 rfl (gle8 rfl) ?_
      rw [show gbt _ 6 = true from hx]
      refine j_if_ne (nx := 7) (tgt := 10) hJ dX5_countWords_4 rfl (by decide) (fun c4 => ?_) (fun c4 => absurd c4 (by decide))
      refine j_p (nx := 11) hJ dX5_countWords_10 rfl rfl ?_
      refine j_csR (nx := 14) hJ dX5_countWords_11 rfl (r_isMode (fl := fl) (d := d + 58) _) mX5_218 rfl (gle8 rfl) ?_
      rw [show gmd _ = true from hm.1]
      refine j_if_eq (nx := 17) (tgt := 27) hJ dX5_countWords_14 rfl (by decide) (fun c14 => absurd c14 (by decide)) (fun c14 => ?_)
      refine j_p (nx := 18) hJ dX5_countWords_17 rfl rfl ?_
      refine j_if_lt (nx := 21) (tgt := 27) hJ dX5_countWords_18 rfl (by decide) (fun c18 => absurd c18 (by rw [gcz0, nI_toInt (by omega)]; omega)) (fun c18 => ?_)
      refine j_p (nx := 22) hJ dX5_countWords_21 rfl rfl ?_
      refine j_c (nx := 24) hJ dX5_countWords_22 rfl gk_bipush_6 ?_
      refine j_ic_le (nx := 27) (tgt := 29) hJ dX5_countWords_24 rfl (by decide) (fun c24 => ?_) (fun c24 => absurd c24 (fun q => q (by rw [show (6 : Int32) = nI 6 from rfl, gnle (by omega) (by omega)]; omega)))
      refine j_c (nx := 30) hJ dX5_countWords_29 rfl gk_iconst_0 ?_
      refine j_p (nx := 32) hJ dX5_countWords_30 rfl rfl ?_
      refine j_p (nx := 33) hJ dX5_countWords_32 rfl rfl ?_
      refine j_p (nx := 34) hJ dX5_countWords_33 rfl rfl ?_
      refine j_cvR (nx := 37) hJ dX5_countWords_34 rfl (r_wordsOfLength (fl := fl) (d := d + 58) hQ hk hk3 (zn := zn) hz6) mX5_260 (by repeat (first | assumption | exact gup_same _ _ _ | rw [gup_ne _ _ (by first | decide | assumption | omega)])) kX5_wordsOfLength rfl (gle8 rfl) ?_
      refine j_p (nx := 39) hJ dX5_countWords_37 rfl rfl ?_
      refine j_p (nx := 40) hJ dX5_countWords_39 rfl rfl ?_
      refine j_get (nx := 43) hJ dX5_countWords_40 rfl fX5_57 (by repeat (first | assumption | exact gup_same _ _ _ | rw [gup_ne _ _ (by first | decide | assumption | omega)])) (by rfl) ?_
      refine j_c (nx := 44) hJ dX5_countWords_43 rfl gk_iconst_0 ?_
      refine j_p (nx := 45) hJ dX5_countWords_44 rfl rfl ?_
      refine j_cv (nx := 48) hJ dX5_countWords_45 rfl (r_fillWith (fl := fl) (d := d + 57) hW 0 (c := zn) (by omega)) mX5_263 (by repeat (first | assumption | exact gup_same _ _ _ | rw [gup_ne _ _ (by first | decide | assumption | omega)])) kX2_fillWith rfl (gle8 rfl) (fun o h1 hp => ?_)
      obtain ⟨rfl, hR1, hF1⟩ := hp
      have hQ1 := hQ.row8 (r := 85) (by unfold gisR; omega) (by omega) (by omega) hR1 hF1
      refine j_c (nx := 49) hJ dX5_countWords_48 rfl gk_iconst_0 ?_
      refine j_p (nx := 51) hJ dX5_countWords_49 rfl rfl ?_
      have e : s_countWords R N (nI r) md z = nI (gct (k ^ zn) (fun i => gMB (R (5 + 2 * r)) (gpr (N 1) zn i) md 0 0)) := by unfold s_countWords; rw [if_pos hx, if_pos hm, egr, egk, hzn]
      have hpw := gpow hk3 hz6
      have loop : ∀ i, i ≤ k ^ zn → ∀ h1 : GH, gQ h0 h1 (gU R 85 (gpr (N 1) zn i)) N → J 51 [some (.ref 0), some (.int (nI r)), some (.int md), some (.int (nI zn)), some (.int (nI (gct i (fun i => gMB (R (5 + 2 * r)) (gpr (N 1) zn i) md 0 0)))), some (.int (nI (k ^ zn))), some (.int (nI i))] [] h1 (n, 0, 0, fl) := by
        refine gloop _ _ (fun i hi ih h1 hQ1 => ?_)
        have q01 := hQ1.1.1
        have q11 := hQ1.1.2.1.1
        have q21 := hQ1.1.2.1.2.1
        have q31 := hQ1.1.2.1.2.2.1
        have q41 := hQ1.1.2.1.2.2.2
        have q751 := hQ1.1.2.2.2.1
        have q801 := hQ1.1.2.2.2.2.2.1.1
        obtain ⟨_, _, _, _, _, _, q76x1⟩ := id hQ1.1.2.2.2.2.2.2.1
        have q761 := q76x1.1
        refine j_p (nx := 53) hJ dX5_countWords_51 rfl rfl ?_
        refine j_p (nx := 55) hJ dX5_countWords_53 rfl rfl ?_
        refine j_ic_ge (nx := 58) (tgt := 105) hJ dX5_countWords_55 rfl (by decide) (fun c55 => ?_) (fun c55 => ?_)
        · refine j_p (nx := 107) hJ dX5_countWords_105 rfl rfl ?_
          rw [gnle (by omega) (by omega)] at c55
          have e0 : i = k ^ zn := by omega
          subst e0
          exact j_iret hJ dX5_countWords_107 ⟨by rw [e], hQ1.cc (fun a p1 p2 p3 => by simp [gU, p1, p2, p3]) (fun _ _ => rfl)⟩
        · rw [gnle (by omega) (by omega)] at c55
          have hil : i < k ^ zn := by omega
          refine j_p (nx := 59) hJ dX5_countWords_58 rfl rfl ?_
          refine j_get (nx := 62) hJ dX5_countWords_59 rfl fX5_43 (by repeat (first | assumption | exact gup_same _ _ _ | rw [gup_ne _ _ (by first | decide | assumption | omega)])) (by rfl) ?_
          refine j_p (nx := 63) hJ dX5_countWords_62 rfl rfl ?_
          refine j_get (nx := 66) hJ dX5_countWords_63 rfl fX5_12 (by repeat (first | assumption | exact gup_same _ _ _ | rw [gup_ne _ _ (by first | decide | assumption | omega)])) (by rfl) ?_
          refine j_get (nx := 69) hJ dX5_countWords_66 rfl fX5_119 (by repeat (first | assumption | exact gup_same _ _ _ | rw [gup_ne _ _ (by first | decide | assumption | omega)])) (by rfl) ?_
          refine j_p (nx := 70) hJ dX5_countWords_69 rfl rfl ?_
          refine j_aald (j := r) (nx := 71) hJ dX5_countWords_70 rfl q21 rfl (by omega) (by decide) (by decide) rfl ?_
          have hP1 := hQ1.r8 (r := 5 + 2 * r) (by unfold gisR; omega) (by omega) (by omega)
          have hP1r := hP1.2.2.2.1
          rw [gU_n _ _ (by omega)] at hP1 hP1r
          have hT1 := hQ1.r8 (r := 85) (by unfold gisR; omega) (by omega) (by omega)
          have hT1r := hT1.2.2.2.1
          rw [gU_s] at hT1 hT1r
          refine j_p (nx := 72) hJ dX5_countWords_71 rfl rfl ?_
          refine j_get (nx := 75) hJ dX5_countWords_72 rfl fX5_57 (by repeat (first | assumption | exact gup_same _ _ _ | rw [gup_ne _ _ (by first | decide | assumption | omega)])) (by rfl) ?_
          refine j_p (nx := 76) hJ dX5_countWords_75 rfl rfl ?_
          refine j_cv (nx := 79) hJ dX5_countWords_76 rfl (r_isMatch (fl := fl) (d := d + 38) md hQ1.1.2.2.2.2.2.2.1 hP1 hT1 (by unfold gOm; omega) (by unfold gOm; omega) (by unfold gOm; omega) (by unfold gOm; omega) (hsy r (by omega)) hP1.2.1 (Nat.le_trans hT1.2.1 (by omega))) mX5_198 (by repeat (first | assumption | exact gup_same _ _ _ | rw [gup_ne _ _ (by first | decide | assumption | omega)])) kX1_isMatch rfl (gle8 rfl) (fun o h2 hp => ?_)
          obtain ⟨rfl, hX2, hF2, -⟩ := hp
          have hQ2 := hQ1.mat hX2 hF2
          have q02 := hQ2.1.1
          have q12 := hQ2.1.2.1.1
          have hW2 := hQ2.r8 (r := 85) (by unfold gisR; omega) (by omega) (by omega)
          have hW2r := hW2.2.2.2.1
          refine j_if_eq (nx := 82) (tgt := 85) hJ dX5_countWords_79 rfl (by decide) (fun c79 => ?_) (fun c79 => ?_)
          · rw [gb_f] at c79
            refine j_p (nx := 86) hJ dX5_countWords_85 rfl rfl ?_
            refine j_get (nx := 89) hJ dX5_countWords_86 rfl fX5_57 q02 (by rfl) ?_
            refine j_p (nx := 90) hJ dX5_countWords_89 rfl rfl ?_
            refine j_get (nx := 93) hJ dX5_countWords_90 rfl fX5_12 q02 (by rfl) ?_
            refine j_get (nx := 96) hJ dX5_countWords_93 rfl fX5_61 q12 (by rfl) ?_
            refine j_cv (nx := 99) hJ dX5_countWords_96 rfl (r_advance (fl := fl) (d := d + 56) hW2 (N 1)) mX5_266 (by repeat (first | assumption | exact gup_same _ _ _ | rw [gup_ne _ _ (by first | decide | assumption | omega)])) kX2_advance rfl (gle8 rfl) (fun o h3 hp => ?_)
            obtain ⟨rfl, hR3, hF3⟩ := hp
            have hQ3 := (hQ2.row8 (r := 85) (by unfold gisR; omega) (by omega) (by omega) hR3 hF3).uu
            rw [gU_s] at hQ3
            refine j_inc (nx := 102) hJ dX5_countWords_99 rfl rfl (gi1 i) rfl ?_
            refine j_go (tgt := 51) hJ dX5_countWords_102 (by decide) ?_
            have hr9 := ih hil h3 hQ3
            rw [gct_s, if_neg (by show ¬ gMB _ _ _ _ _ = true; rw [c79]; decide), Nat.add_zero] at hr9
            exact hr9
          · rw [gb_t] at c79
            refine j_inc (nx := 85) hJ dX5_countWords_82 rfl rfl (gi1 _) rfl ?_
            refine j_p (nx := 86) hJ dX5_countWords_85 rfl rfl ?_
            refine j_get (nx := 89) hJ dX5_countWords_86 rfl fX5_57 q02 (by rfl) ?_
            refine j_p (nx := 90) hJ dX5_countWords_89 rfl rfl ?_
            refine j_get (nx := 93) hJ dX5_countWords_90 rfl fX5_12 q02 (by rfl) ?_
            refine j_get (nx := 96) hJ dX5_countWords_93 rfl fX5_61 q12 (by rfl) ?_
            refine j_cv (nx := 99) hJ dX5_countWords_96 rfl (r_advance (fl := fl) (d := d + 56) hW2 (N 1)) mX5_266 (by repeat (first | assumption | exact gup_same _ _ _ | rw [gup_ne _ _ (by first | decide | assumption | omega)])) kX2_advance rfl (gle8 rfl) (fun o h3 hp => ?_)
            obtain ⟨rfl, hR3, hF3⟩ := hp
            have hQ3 := (hQ2.row8 (r := 85) (by unfold gisR; omega) (by omega) (by omega) hR3 hF3).uu
            rw [gU_s] at hQ3
            refine j_inc (nx := 102) hJ dX5_countWords_99 rfl rfl (gi1 i) rfl ?_
            refine j_go (tgt := 51) hJ dX5_countWords_102 (by decide) ?_
            have hr9 := ih hil h3 hQ3
            rw [gct_s, if_pos (show gMB _ _ _ _ _ = true from c79)] at hr9
            exact hr9
      exact loop 0 (Nat.zero_le _) h1 hQ1
    · refine j_p (nx := 1) hJ dX5_countWords_0 rfl rfl ?_
      refine j_csR (nx := 4) hJ dX5_countWords_1 rfl (r_isRegister (fl := fl) (d := d + 58) _) mX5_112 rfl (gle8 rfl) ?_
      rw [show gbt _ 6 = true from hx]
      refine j_if_ne (nx := 7) (tgt := 10) hJ dX5_countWords_4 rfl (by decide) (fun c4 => ?_) (fun c4 => absurd c4 (by decide))
      refine j_p (nx := 11) hJ dX5_countWords_10 rfl rfl ?_
      refine j_csR (nx := 14) hJ dX5_countWords_11 rfl (r_isMode (fl := fl) (d := d + 58) md) mX5_218 rfl (gle8 rfl) ?_
      refine j_if_eq (nx := 17) (tgt := 27) hJ dX5_countWords_14 rfl (by decide) (fun c14 => ?_) (fun c14 => ?_)
      · refine j_c (nx := 28) hJ dX5_countWords_27 rfl gk_iconst_m1 ?_
        have e : s_countWords R N (nI r) md z = -1 := by unfold s_countWords; rw [if_pos hx, if_neg hm]
        exact j_iret hJ dX5_countWords_28 ⟨by rw [e], hQ.c⟩
      · refine j_p (nx := 18) hJ dX5_countWords_17 rfl rfl ?_
        refine j_if_lt (nx := 21) (tgt := 27) hJ dX5_countWords_18 rfl (by decide) (fun c18 => ?_) (fun c18 => ?_)
        · refine j_c (nx := 28) hJ dX5_countWords_27 rfl gk_iconst_m1 ?_
          have e : s_countWords R N (nI r) md z = -1 := by unfold s_countWords; rw [if_pos hx, if_neg hm]
          exact j_iret hJ dX5_countWords_28 ⟨by rw [e], hQ.c⟩
        · refine j_p (nx := 22) hJ dX5_countWords_21 rfl rfl ?_
          refine j_c (nx := 24) hJ dX5_countWords_22 rfl gk_bipush_6 ?_
          refine j_ic_le (nx := 27) (tgt := 29) hJ dX5_countWords_24 rfl (by decide) (fun c24 => ?_) (fun c24 => ?_)
          · rw [gb_t] at c14
            first | rw [gcz0] at c18 | skip
            first | rw [Int32.le_iff_toInt_le, show (6 : Int32).toInt = 6 by decide] at c24 | skip
            exact absurd ⟨c14, by omega, by omega⟩ hm
          · refine j_c (nx := 28) hJ dX5_countWords_27 rfl gk_iconst_m1 ?_
            have e : s_countWords R N (nI r) md z = -1 := by unfold s_countWords; rw [if_pos hx, if_neg hm]
            exact j_iret hJ dX5_countWords_28 ⟨by rw [e], hQ.c⟩
  · refine j_p (nx := 1) hJ dX5_countWords_0 rfl rfl ?_
    refine j_csR (nx := 4) hJ dX5_countWords_1 rfl (r_isRegister (fl := fl) (d := d + 58) _) mX5_112 rfl (gle8 rfl) ?_
    rw [show gbt _ 6 = false from Bool.eq_false_iff.mpr hx]
    refine j_if_ne (nx := 7) (tgt := 10) hJ dX5_countWords_4 rfl (by decide) (fun c4 => absurd c4 (by decide)) (fun c4 => ?_)
    refine j_c (nx := 9) hJ dX5_countWords_7 rfl gk_bipush_m2 ?_
    have e : s_countWords R N x md z = -2 := if_neg hx
    exact j_iret hJ dX5_countWords_9 ⟨by rw [e], hQ.c⟩
set_option maxHeartbeats 4000000 in
theorem r_findDifference {fl : Bool} {d : Nat} {h0 h : GH} {R : Nat → List Int32} {N : Nat → Int32} (hQ : gQ h0 h R N) (hsy : ∀ r, r < 6 → ∀ c ∈ R (5 + 2 * r), gsy c) {k : Nat} (hk : N 1 = nI k) (hk3 : k ≤ 3) {a b zn : Nat} (ha : a < 6) (hb : b < 6) (hz6 : zn ≤ 6) (md : Int32) : gN fl (d + 24) yX5_findDifference [.ref 0, .ref (5 + 2 * a), .ref (5 + 2 * b), .int md, .int (nI zn)] h (fun o h' => o = some (.int (gb (gdf (R (5 + 2 * a)) (R (5 + 2 * b)) (N 1) md (k ^ zn) zn).isSome)) ∧ ∃ l, gQ h0 h' (gU R 85 l) N ∧ ∀ i, gdf (R (5 + 2 * a)) (R (5 + 2 * b)) (N 1) md (k ^ zn) zn = some i → l = gpr (N 1) zn i) := by
  have q0 := hQ.1.1
  have q1 := hQ.1.2.1.1
  have q2 := hQ.1.2.1.2.1
  have q3 := hQ.1.2.1.2.2.1
  have q4 := hQ.1.2.1.2.2.2
  have q75 := hQ.1.2.2.2.1
  have q80 := hQ.1.2.2.2.2.2.1.1
  obtain ⟨_, _, _, _, _, _, q76x⟩ := id hQ.1.2.2.2.2.2.2.1
  have q76 := q76x.1
  have hW := hQ.r8 (r := 85) (by unfold gisR; omega) (by omega) (by omega)
  have hWr := hW.2.2.2.1
  have hpw := gpow hk3 hz6
  refine gN.of MX5_findDifference (Nat.le_of_ble_eq_true rfl) (fun J n hJ => ?_)
  show J 0 [some (.ref 0), some (.ref (5 + 2 * a)), some (.ref (5 + 2 * b)), some (.int md), some (.int (nI zn)), none, none] [] h (n, 0, 0, fl)
  have loop : ∀ i, i ≤ k ^ zn → ∀ h1 : GH, gQ h0 h1 (gU R 85 (gpr (N 1) zn i)) N → (∀ j, j < i → (fun i => gMB (R (5 + 2 * a)) (gpr (N 1) zn i) md 0 0 && !gMB (R (5 + 2 * b)) (gpr (N 1) zn i) md 0 0) j = false) → J 21 [some (.ref 0), some (.ref (5 + 2 * a)), some (.ref (5 + 2 * b)), some (.int md), some (.int (nI zn)), some (.int (nI (k ^ zn))), some (.int (nI i))] [] h1 (n, 0, 0, fl) := by
    refine gloop _ _ (fun i hi ih h1 hQ1 hno => ?_)
    have q01 := hQ1.1.1
    have q11 := hQ1.1.2.1.1
    have q21 := hQ1.1.2.1.2.1
    have q31 := hQ1.1.2.1.2.2.1
    have q41 := hQ1.1.2.1.2.2.2
    have q751 := hQ1.1.2.2.2.1
    have q801 := hQ1.1.2.2.2.2.2.1.1
    obtain ⟨_, _, _, _, _, _, q76x1⟩ := id hQ1.1.2.2.2.2.2.2.1
    have q761 := q76x1.1
    refine j_p (nx := 23) hJ dX5_findDifference_21 rfl rfl ?_
    refine j_p (nx := 25) hJ dX5_findDifference_23 rfl rfl ?_
    refine j_ic_ge (nx := 28) (tgt := 82) hJ dX5_findDifference_25 rfl (by decide) (fun c25 => ?_) (fun c25 => ?_)
    · refine j_c (nx := 83) hJ dX5_findDifference_82 rfl gk_iconst_0 ?_
      rw [gnle (by omega) (by omega)] at c25
      have e : gdf (R (5 + 2 * a)) (R (5 + 2 * b)) (N 1) md (k ^ zn) zn = none := gfnd_n (fun j hj => hno j (by omega))
      exact j_zret hJ false dX5_findDifference_83 rfl ⟨by rw [e]; rfl, _, hQ1, fun x hx => by rw [e] at hx; cases hx⟩
    · rw [gnle (by omega) (by omega)] at c25
      have hil : i < k ^ zn := by omega
      have hA1 := hQ1.r8 (r := 5 + 2 * a) (by unfold gisR; omega) (by omega) (by omega)
      have hA1r := hA1.2.2.2.1
      rw [gU_n _ _ (by omega)] at hA1 hA1r
      have hT1 := hQ1.r8 (r := 85) (by unfold gisR; omega) (by omega) (by omega)
      have hT1r := hT1.2.2.2.1
      rw [gU_s] at hT1 hT1r
      refine j_p (nx := 29) hJ dX5_findDifference_28 rfl rfl ?_
      refine j_get (nx := 32) hJ dX5_findDifference_29 rfl fX5_43 (by repeat (first | assumption | exact gup_same _ _ _ | rw [gup_ne _ _ (by first | decide | assumption | omega)])) (by rfl) ?_
      refine j_p (nx := 33) hJ dX5_findDifference_32 rfl rfl ?_
      refine j_p (nx := 34) hJ dX5_findDifference_33 rfl rfl ?_
      refine j_get (nx := 37) hJ dX5_findDifference_34 rfl fX5_57 (by repeat (first | assumption | exact gup_same _ _ _ | rw [gup_ne _ _ (by first | decide | assumption | omega)])) (by rfl) ?_
      refine j_p (nx := 38) hJ dX5_findDifference_37 rfl rfl ?_
      refine j_cv (nx := 41) hJ dX5_findDifference_38 rfl (r_isMatch (fl := fl) (d := d + 2) md hQ1.1.2.2.2.2.2.2.1 hA1 hT1 (by unfold gOm; omega) (by unfold gOm; omega) (by unfold gOm; omega) (by unfold gOm; omega) (hsy a (by omega)) hA1.2.1 (Nat.le_trans hT1.2.1 (by omega))) mX5_198 (by repeat (first | assumption | exact gup_same _ _ _ | rw [gup_ne _ _ (by first | decide | assumption | omega)])) kX1_isMatch rfl (gle8 rfl) (fun o h2 hp => ?_)
      obtain ⟨rfl, hX2, hF2, -⟩ := hp
      have hQ2 := hQ1.mat hX2 hF2
      have q02 := hQ2.1.1
      obtain ⟨_, _, _, _, _, _, q76x2⟩ := id hQ2.1.2.2.2.2.2.2.1
      have q762 := q76x2.1
      have hB2 := hQ2.r8 (r := 5 + 2 * b) (by unfold gisR; omega) (by omega) (by omega)
      have hB2r := hB2.2.2.2.1
      rw [gU_n _ _ (by omega)] at hB2 hB2r
      have hT2 := hQ2.r8 (r := 85) (by unfold gisR; omega) (by omega) (by omega)
      have hT2r := hT2.2.2.2.1
      rw [gU_s] at hT2 hT2r
      refine j_if_eq (nx := 44) (tgt := 62) hJ dX5_findDifference_41 rfl (by decide) (fun c41 => ?_) (fun c41 => ?_)
      · rw [gb_f] at c41
        refine j_p (nx := 63) hJ dX5_findDifference_62 rfl rfl ?_
        refine j_get (nx := 66) hJ dX5_findDifference_63 rfl fX5_57 hQ2.1.1 (by rfl) ?_
        refine j_p (nx := 67) hJ dX5_findDifference_66 rfl rfl ?_
        refine j_get (nx := 70) hJ dX5_findDifference_67 rfl fX5_12 hQ2.1.1 (by rfl) ?_
        refine j_get (nx := 73) hJ dX5_findDifference_70 rfl fX5_61 hQ2.1.2.1.1 (by rfl) ?_
        have hW9 := hQ2.r8 (r := 85) (by unfold gisR; omega) (by omega) (by omega)
        have hW9r := hW9.2.2.2.1
        refine j_cv (nx := 76) hJ dX5_findDifference_73 rfl (r_advance (fl := fl) (d := d + 20) hW9 (N 1)) mX5_266 (by repeat (first | assumption | exact gup_same _ _ _ | rw [gup_ne _ _ (by first | decide | assumption | omega)])) kX2_advance rfl (gle8 rfl) (fun o h9 hp => ?_)
        obtain ⟨rfl, hR9, hF9⟩ := hp
        have hQ9 := (hQ2.row8 (r := 85) (by unfold gisR; omega) (by omega) (by omega) hR9 hF9).uu
        rw [gU_s] at hQ9
        refine j_inc (nx := 79) hJ dX5_findDifference_76 rfl rfl (gi1 i) rfl ?_
        refine j_go (tgt := 21) hJ dX5_findDifference_79 (by decide) ?_
        refine ih hil h9 hQ9 (fun j hj => ?_)
        by_cases e : j = i
        · subst e; show (_ && !_) = false; rw [c41]; rfl
        · exact hno j (by omega)
      rw [gb_t] at c41
      refine j_p (nx := 45) hJ dX5_findDifference_44 rfl rfl ?_
      refine j_get (nx := 48) hJ dX5_findDifference_45 rfl fX5_43 (by repeat (first | assumption | exact gup_same _ _ _ | rw [gup_ne _ _ (by first | decide | assumption | omega)])) (by rfl) ?_
      refine j_p (nx := 49) hJ dX5_findDifference_48 rfl rfl ?_
      refine j_p (nx := 50) hJ dX5_findDifference_49 rfl rfl ?_
      refine j_get (nx := 53) hJ dX5_findDifference_50 rfl fX5_57 (by repeat (first | assumption | exact gup_same _ _ _ | rw [gup_ne _ _ (by first | decide | assumption | omega)])) (by rfl) ?_
      refine j_p (nx := 54) hJ dX5_findDifference_53 rfl rfl ?_
      refine j_cv (nx := 57) hJ dX5_findDifference_54 rfl (r_isMatch (fl := fl) (d := d + 2) md hQ2.1.2.2.2.2.2.2.1 hB2 hT2 (by unfold gOm; omega) (by unfold gOm; omega) (by unfold gOm; omega) (by unfold gOm; omega) (hsy b (by omega)) hB2.2.1 (Nat.le_trans hT2.2.1 (by omega))) mX5_198 (by repeat (first | assumption | exact gup_same _ _ _ | rw [gup_ne _ _ (by first | decide | assumption | omega)])) kX1_isMatch rfl (gle8 rfl) (fun o h3 hp => ?_)
      obtain ⟨rfl, hX3, hF3, -⟩ := hp
      have hQ3 := hQ2.mat hX3 hF3
      refine j_if_ne (nx := 60) (tgt := 62) hJ dX5_findDifference_57 rfl (by decide) (fun c57 => ?_) (fun c57 => ?_)
      · rw [gb_t] at c57
        refine j_p (nx := 63) hJ dX5_findDifference_62 rfl rfl ?_
        refine j_get (nx := 66) hJ dX5_findDifference_63 rfl fX5_57 hQ3.1.1 (by rfl) ?_
        refine j_p (nx := 67) hJ dX5_findDifference_66 rfl rfl ?_
        refine j_get (nx := 70) hJ dX5_findDifference_67 rfl fX5_12 hQ3.1.1 (by rfl) ?_
        refine j_get (nx := 73) hJ dX5_findDifference_70 rfl fX5_61 hQ3.1.2.1.1 (by rfl) ?_
        have hW9 := hQ3.r8 (r := 85) (by unfold gisR; omega) (by omega) (by omega)
        have hW9r := hW9.2.2.2.1
        refine j_cv (nx := 76) hJ dX5_findDifference_73 rfl (r_advance (fl := fl) (d := d + 20) hW9 (N 1)) mX5_266 (by repeat (first | assumption | exact gup_same _ _ _ | rw [gup_ne _ _ (by first | decide | assumption | omega)])) kX2_advance rfl (gle8 rfl) (fun o h9 hp => ?_)
        obtain ⟨rfl, hR9, hF9⟩ := hp
        have hQ9 := (hQ3.row8 (r := 85) (by unfold gisR; omega) (by omega) (by omega) hR9 hF9).uu
        rw [gU_s] at hQ9
        refine j_inc (nx := 79) hJ dX5_findDifference_76 rfl rfl (gi1 i) rfl ?_
        refine j_go (tgt := 21) hJ dX5_findDifference_79 (by decide) ?_
        refine ih hil h9 hQ9 (fun j hj => ?_)
        by_cases e : j = i
        · subst e; show (_ && !_) = false; rw [c57]; simp
        · exact hno j (by omega)
      rw [gb_f] at c57
      refine j_c (nx := 61) hJ dX5_findDifference_60 rfl gk_iconst_1 ?_
      have e : gdf (R (5 + 2 * a)) (R (5 + 2 * b)) (N 1) md (k ^ zn) zn = some i := gfnd_s hno hil (by show (_ && !_) = true; rw [c41, c57]; rfl)
      exact j_zret hJ true dX5_findDifference_61 rfl ⟨by rw [e]; rfl, _, hQ3, fun x hx => by rw [e] at hx; cases hx; rfl⟩
  refine j_p (nx := 1) hJ dX5_findDifference_0 rfl rfl ?_
  refine j_p (nx := 3) hJ dX5_findDifference_1 rfl rfl ?_
  refine j_cvR (nx := 6) hJ dX5_findDifference_3 rfl (r_wordsOfLength (fl := fl) (d := d + 22) hQ hk hk3 (zn := zn) hz6) mX5_260 (by repeat (first | assumption | exact gup_same _ _ _ | rw [gup_ne _ _ (by first | decide | assumption | omega)])) kX5_wordsOfLength rfl (gle8 rfl) ?_
  refine j_p (nx := 8) hJ dX5_findDifference_6 rfl rfl ?_
  refine j_p (nx := 9) hJ dX5_findDifference_8 rfl rfl ?_
  refine j_get (nx := 12) hJ dX5_findDifference_9 rfl fX5_57 (by repeat (first | assumption | exact gup_same _ _ _ | rw [gup_ne _ _ (by first | decide | assumption | omega)])) (by rfl) ?_
  refine j_c (nx := 13) hJ dX5_findDifference_12 rfl gk_iconst_0 ?_
  refine j_p (nx := 15) hJ dX5_findDifference_13 rfl rfl ?_
  refine j_cv (nx := 18) hJ dX5_findDifference_15 rfl (r_fillWith (fl := fl) (d := d + 21) hW 0 (c := zn) (by omega)) mX5_263 (by repeat (first | assumption | exact gup_same _ _ _ | rw [gup_ne _ _ (by first | decide | assumption | omega)])) kX2_fillWith rfl (gle8 rfl) (fun o h1 hp => ?_)
  obtain ⟨rfl, hR1, hF1⟩ := hp
  have hQ1 := hQ.row8 (r := 85) (by unfold gisR; omega) (by omega) (by omega) hR1 hF1
  refine j_c (nx := 19) hJ dX5_findDifference_18 rfl gk_iconst_0 ?_
  refine j_p (nx := 21) hJ dX5_findDifference_19 rfl rfl ?_
  exact loop 0 (Nat.zero_le _) h1 hQ1 (fun j hj => by omega)
set_option maxHeartbeats 4000000 in
theorem r_difference {fl : Bool} {d : Nat} {h0 h : GH} {R : Nat → List Int32} {N : Nat → Int32} (hQ : gQ h0 h R N) (hsy : ∀ r, r < 6 → ∀ c ∈ R (5 + 2 * r), gsy c) {k : Nat} (hk : N 1 = nI k) (hk3 : k ≤ 3) (x y md z : Int32) : gN fl (d + 60) yX5_difference [.ref 0, .int x, .int y, .int md, .int z] h (fun o h' => o = some (.long (s_difference R N x y md z)) ∧ gC h0 h' R N) := by
  have q0 := hQ.1.1
  have q1 := hQ.1.2.1.1
  have q2 := hQ.1.2.1.2.1
  have q3 := hQ.1.2.1.2.2.1
  have q4 := hQ.1.2.1.2.2.2
  have q75 := hQ.1.2.2.2.1
  have q80 := hQ.1.2.2.2.2.2.1.1
  obtain ⟨_, _, _, _, _, _, q76x⟩ := id hQ.1.2.2.2.2.2.2.1
  have q76 := q76x.1
  have egk := gkk_nI hk hk3
  refine gN.of MX5_difference (Nat.le_of_ble_eq_true rfl) (fun J n hJ => ?_)
  show J 0 [some (.ref 0), some (.int x), some (.int y), some (.int md), some (.int z), none] [] h (n, 0, 0, fl)
  by_cases hm : (gbt x 6 = true ∧ gbt y 6 = true) ∧ gmd md = true ∧ 0 ≤ z.toInt ∧ z.toInt ≤ 6
  · have hx := hm.1.1
    have hy := hm.1.2
    obtain ⟨r, rfl, hr⟩ := gbt_spec hx
    have egr := gr_nI (r := r) (by omega)
    obtain ⟨s, rfl, hs⟩ := gbt_spec hy
    have egs := gr_nI (r := s) (by omega)
    obtain ⟨zn, hzn⟩ : ∃ zn, z.toInt.toNat = zn := ⟨_, rfl⟩
    have hz := gnat (x := z) (by omega)
    rw [hzn] at hz
    have hz6 : zn ≤ 6 := by omega
    rw [hz]
    refine j_p (nx := 1) hJ dX5_difference_0 rfl rfl ?_
    refine j_csR (nx := 4) hJ dX5_difference_1 rfl (r_isRegister (fl := fl) (d := d + 58) _) mX5_112 rfl (gle8 rfl) ?_
    rw [show gbt _ 6 = true from hx]
    refine j_if_eq (nx := 7) (tgt := 14) hJ dX5_difference_4 rfl (by decide) (fun c4 => absurd c4 (by decide)) (fun c4 => ?_)
    refine j_p (nx := 8) hJ dX5_difference_7 rfl rfl ?_
    refine j_csR (nx := 11) hJ dX5_difference_8 rfl (r_isRegister (fl := fl) (d := d + 58) _) mX5_112 rfl (gle8 rfl) ?_
    rw [show gbt _ 6 = true from hy]
    refine j_if_ne (nx := 14) (tgt := 18) hJ dX5_difference_11 rfl (by decide) (fun c11 => ?_) (fun c11 => absurd c11 (by decide))
    refine j_p (nx := 19) hJ dX5_difference_18 rfl rfl ?_
    refine j_csR (nx := 22) hJ dX5_difference_19 rfl (r_isMode (fl := fl) (d := d + 58) _) mX5_218 rfl (gle8 rfl) ?_
    rw [show gmd _ = true from hm.2.1]
    refine j_if_eq (nx := 25) (tgt := 37) hJ dX5_difference_22 rfl (by decide) (fun c22 => absurd c22 (by decide)) (fun c22 => ?_)
    refine j_p (nx := 27) hJ dX5_difference_25 rfl rfl ?_
    refine j_if_lt (nx := 30) (tgt := 37) hJ dX5_difference_27 rfl (by decide) (fun c27 => absurd c27 (by rw [gcz0, nI_toInt (by omega)]; omega)) (fun c27 => ?_)
    refine j_p (nx := 32) hJ dX5_difference_30 rfl rfl ?_
    refine j_c (nx := 34) hJ dX5_difference_32 rfl gk_bipush_6 ?_
    refine j_ic_le (nx := 37) (tgt := 41) hJ dX5_difference_34 rfl (by decide) (fun c34 => ?_) (fun c34 => absurd c34 (fun q => q (by rw [show (6 : Int32) = nI 6 from rfl, gnle (by omega) (by omega)]; omega)))
    refine j_c (nx := 42) hJ dX5_difference_41 rfl gk_iconst_0 ?_
    refine j_p (nx := 44) hJ dX5_difference_42 rfl rfl ?_
    have e : s_difference R N (nI r) (nI s) md z = ((List.range (zn + 1)).findSome? (fun n => (gdf (R (5 + 2 * r)) (R (5 + 2 * s)) (N 1) md (k ^ n) n).map (fun i => (gwc (gpr (N 1) n i)).1))).getD (-9223372036854775808) := by unfold s_difference; rw [if_pos hm, egr, egs, egk, hzn]
    have loop : ∀ i, i ≤ zn + 1 → ∀ (h1 : GH) (l1 : List Int32), gQ h0 h1 (gU R 85 l1) N → (∀ j, j < i → (fun n => (gdf (R (5 + 2 * r)) (R (5 + 2 * s)) (N 1) md (k ^ n) n).map (fun i => (gwc (gpr (N 1) n i)).1)) j = none) → J 44 [some (.ref 0), some (.int (nI r)), some (.int (nI s)), some (.int md), some (.int (nI zn)), some (.int (nI i))] [] h1 (n, 0, 0, fl) := by
      refine gloop _ _ (fun i hi ih h1 l1 hQ1 hno => ?_)
      have q01 := hQ1.1.1
      have q11 := hQ1.1.2.1.1
      have q21 := hQ1.1.2.1.2.1
      have q31 := hQ1.1.2.1.2.2.1
      have q41 := hQ1.1.2.1.2.2.2
      have q751 := hQ1.1.2.2.2.1
      have q801 := hQ1.1.2.2.2.2.2.1.1
      obtain ⟨_, _, _, _, _, _, q76x1⟩ := id hQ1.1.2.2.2.2.2.2.1
      have q761 := q76x1.1
      refine j_p (nx := 46) hJ dX5_difference_44 rfl rfl ?_
      refine j_p (nx := 48) hJ dX5_difference_46 rfl rfl ?_
      refine j_ic_gt (nx := 51) (tgt := 93) hJ dX5_difference_48 rfl (by decide) (fun c48 => ?_) (fun c48 => ?_)
      · refine j_ldc2 (nx := 96) hJ dX5_difference_93 rfl qX5_243 ?_
        rw [gnlt (by omega) (by omega)] at c48
        have e9 : (List.range (zn + 1)).findSome? (fun n => (gdf (R (5 + 2 * r)) (R (5 + 2 * s)) (N 1) md (k ^ n) n).map (fun i => (gwc (gpr (N 1) n i)).1)) = none := gfs_n (fun j hj => hno j (by omega))
        exact j_lret hJ dX5_difference_96 ⟨by rw [e, e9]; rfl, hQ1.cc (fun a p1 p2 p3 => by simp [gU, p1, p2, p3]) (fun _ _ => rfl)⟩
      · rw [gnlt (by omega) (by omega)] at c48
        have hil : i < zn + 1 := by omega
        refine j_p (nx := 52) hJ dX5_difference_51 rfl rfl ?_
        refine j_p (nx := 53) hJ dX5_difference_52 rfl rfl ?_
        refine j_get (nx := 56) hJ dX5_difference_53 rfl fX5_12 (by repeat (first | assumption | exact gup_same _ _ _ | rw [gup_ne _ _ (by first | decide | assumption | omega)])) (by rfl) ?_
        refine j_get (nx := 59) hJ dX5_difference_56 rfl fX5_119 (by repeat (first | assumption | exact gup_same _ _ _ | rw [gup_ne _ _ (by first | decide | assumption | omega)])) (by rfl) ?_
        refine j_p (nx := 60) hJ dX5_difference_59 rfl rfl ?_
        refine j_aald (j := r) (nx := 61) hJ dX5_difference_60 rfl q21 rfl (by omega) (by decide) (by decide) rfl ?_
        refine j_p (nx := 62) hJ dX5_difference_61 rfl rfl ?_
        refine j_get (nx := 65) hJ dX5_difference_62 rfl fX5_12 (by repeat (first | assumption | exact gup_same _ _ _ | rw [gup_ne _ _ (by first | decide | assumption | omega)])) (by rfl) ?_
        refine j_get (nx := 68) hJ dX5_difference_65 rfl fX5_119 (by repeat (first | assumption | exact gup_same _ _ _ | rw [gup_ne _ _ (by first | decide | assumption | omega)])) (by rfl) ?_
        refine j_p (nx := 69) hJ dX5_difference_68 rfl rfl ?_
        refine j_aald (j := s) (nx := 70) hJ dX5_difference_69 rfl q21 rfl (by omega) (by decide) (by decide) rfl ?_
        refine j_p (nx := 71) hJ dX5_difference_70 rfl rfl ?_
        refine j_p (nx := 73) hJ dX5_difference_71 rfl rfl ?_
        refine j_cv (nx := 76) hJ dX5_difference_73 rfl (r_findDifference (fl := fl) (d := d + 35) hQ1 (fun t ht => by rw [gU_n _ _ (by omega)]; exact hsy t ht) hk hk3 (a := r) (b := s) (zn := i) hr hs (by omega) md) mX5_269 (by repeat (first | assumption | exact gup_same _ _ _ | rw [gup_ne _ _ (by first | decide | assumption | omega)])) kX5_findDifference rfl (gle8 rfl) (fun o h2 hp => ?_)
        obtain ⟨rfl, l2, hQ2, hl2⟩ := hp
        rw [gU_n _ _ (show 5 + 2 * r ≠ 85 by omega), gU_n _ _ (show 5 + 2 * s ≠ 85 by omega)] at hl2 ⊢
        have hQ2 := hQ2.uu
        have q02 := hQ2.1.1
        refine j_if_eq (nx := 79) (tgt := 87) hJ dX5_difference_76 rfl (by decide) (fun c76 => ?_) (fun c76 => ?_)
        · have hg := gsome_f c76
          refine j_inc (nx := 90) hJ dX5_difference_87 rfl rfl (gi1 i) rfl ?_
          refine j_go (tgt := 44) hJ dX5_difference_90 (by decide) ?_
          refine ih hil h2 _ hQ2 (fun j hj => ?_)
          by_cases e : j = i
          · subst e; show Option.map _ _ = none; rw [hg]; rfl
          · exact hno j (by omega)
        obtain ⟨y9, hg⟩ := gsome_t c76
        have hly := hl2 y9 hg
        subst hly
        have hW2 := hQ2.r8 (r := 85) (by unfold gisR; omega) (by omega) (by omega)
        have hW2r := hW2.2.2.2.1
        rw [gU_s] at hW2 hW2r
        refine j_p (nx := 80) hJ dX5_difference_79 rfl rfl ?_
        refine j_get (nx := 83) hJ dX5_difference_80 rfl fX5_57 (by repeat (first | assumption | exact gup_same _ _ _ | rw [gup_ne _ _ (by first | decide | assumption | omega)])) (by rfl) ?_
        refine j_cvR (nx := 86) hJ dX5_difference_83 rfl (r_wordCode (fl := fl) (d := d + 57) hW2) mX5_239 (by repeat (first | assumption | exact gup_same _ _ _ | rw [gup_ne _ _ (by first | decide | assumption | omega)])) kX2_wordCode rfl (gle8 rfl) ?_
        have e9 : (List.range (zn + 1)).findSome? (fun n => (gdf (R (5 + 2 * r)) (R (5 + 2 * s)) (N 1) md (k ^ n) n).map (fun i => (gwc (gpr (N 1) n i)).1)) = some (gwc (gpr (N 1) i y9)).1 := gfs_s hno hil (by show Option.map _ _ = _; rw [hg]; rfl)
        exact j_lret hJ dX5_difference_86 ⟨by rw [e, e9]; rfl, hQ2.cc (fun a p1 p2 p3 => by simp [gU, p1, p2, p3]) (fun _ _ => rfl)⟩
    exact loop 0 (Nat.zero_le _) h (R 85) (hQ.rw (fun a => by unfold gU; split; (next q => rw [q]); rfl) (fun _ => rfl)) (fun j hj => by omega)
  · refine j_p (nx := 1) hJ dX5_difference_0 rfl rfl ?_
    refine j_csR (nx := 4) hJ dX5_difference_1 rfl (r_isRegister (fl := fl) (d := d + 58) x) mX5_112 rfl (gle8 rfl) ?_
    refine j_if_eq (nx := 7) (tgt := 14) hJ dX5_difference_4 rfl (by decide) (fun c4 => ?_) (fun c4 => ?_)
    · refine j_ldc2 (nx := 17) hJ dX5_difference_14 rfl qX5_243 ?_
      have e : s_difference R N x y md z = -9223372036854775808 := if_neg hm
      exact j_lret hJ dX5_difference_17 ⟨by rw [e], hQ.c⟩
    · refine j_p (nx := 8) hJ dX5_difference_7 rfl rfl ?_
      refine j_csR (nx := 11) hJ dX5_difference_8 rfl (r_isRegister (fl := fl) (d := d + 58) y) mX5_112 rfl (gle8 rfl) ?_
      refine j_if_ne (nx := 14) (tgt := 18) hJ dX5_difference_11 rfl (by decide) (fun c11 => ?_) (fun c11 => ?_)
      · refine j_p (nx := 19) hJ dX5_difference_18 rfl rfl ?_
        refine j_csR (nx := 22) hJ dX5_difference_19 rfl (r_isMode (fl := fl) (d := d + 58) md) mX5_218 rfl (gle8 rfl) ?_
        refine j_if_eq (nx := 25) (tgt := 37) hJ dX5_difference_22 rfl (by decide) (fun c22 => ?_) (fun c22 => ?_)
        · refine j_ldc2 (nx := 40) hJ dX5_difference_37 rfl qX5_243 ?_
          have e : s_difference R N x y md z = -9223372036854775808 := if_neg hm
          exact j_lret hJ dX5_difference_40 ⟨by rw [e], hQ.c⟩
        · refine j_p (nx := 27) hJ dX5_difference_25 rfl rfl ?_
          refine j_if_lt (nx := 30) (tgt := 37) hJ dX5_difference_27 rfl (by decide) (fun c27 => ?_) (fun c27 => ?_)
          · refine j_ldc2 (nx := 40) hJ dX5_difference_37 rfl qX5_243 ?_
            have e : s_difference R N x y md z = -9223372036854775808 := if_neg hm
            exact j_lret hJ dX5_difference_40 ⟨by rw [e], hQ.c⟩
          · refine j_p (nx := 32) hJ dX5_difference_30 rfl rfl ?_
            refine j_c (nx := 34) hJ dX5_difference_32 rfl gk_bipush_6 ?_
            refine j_ic_le (nx := 37) (tgt := 41) hJ dX5_difference_34 rfl (by decide) (fun c34 => ?_) (fun c34 => ?_)
            · rw [gb_t] at c4 c11 c22
              first | rw [gcz0] at c27 | skip
              first | rw [Int32.le_iff_toInt_le, show (6 : Int32).toInt = 6 by decide] at c34 | skip
              exact absurd ⟨⟨c4, c11⟩, c22, by omega, by omega⟩ hm
            · refine j_ldc2 (nx := 40) hJ dX5_difference_37 rfl qX5_243 ?_
              have e : s_difference R N x y md z = -9223372036854775808 := if_neg hm
              exact j_lret hJ dX5_difference_40 ⟨by rw [e], hQ.c⟩
      · refine j_ldc2 (nx := 17) hJ dX5_difference_14 rfl qX5_243 ?_
        have e : s_difference R N x y md z = -9223372036854775808 := if_neg hm
        exact j_lret hJ dX5_difference_17 ⟨by rw [e], hQ.c⟩
