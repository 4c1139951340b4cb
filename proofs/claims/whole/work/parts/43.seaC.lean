def gstr (n le pl : Nat) : Bool := decide (le + pl ≤ n ∧ (n - le) % pl = 0)
def gst (W : Nat → List Int32) (ss le pl : Nat) : Bool := decide (1 ≤ pl) && (List.range ss).all (fun i => gstr (W i).length le pl)
theorem gremI {a b : Nat} (ha : a < 2 ^ 31) (hb : b < 2 ^ 31) : nI a - nI a / nI b * nI b = nI (a % b) := by
  rw [gdiv ha hb, gmul, gsub (Nat.div_mul_le_self a b), Nat.mul_comm, ← Nat.mod_eq_sub]
theorem gz0 {a : Nat} (ha : a < 2 ^ 31) : nI a = 0 ↔ a = 0 := by rw [show (0 : Int32) = nI 0 from rfl, gneq ha (by omega)]
theorem gdec (a : Nat) (h : 1 ≤ a) : nI a + Int32.ofInt (-1) = nI (a - 1) := by
  have h1 : nI (a - 1) + 1 = nI a := by rw [← nI_succ, Nat.sub_add_cancel h]
  rw [← h1, Int32.add_assoc, show (1 : Int32) + Int32.ofInt (-1) = 0 by decide, Int32.add_zero]
/-- heaps alike but for the matcher, the search and the candidate -/
def gFq (h h' : GH) : Prop := ∀ a, gOmS a → a ≠ 80 → a ≠ 81 → a ≠ 82 → h' a = h a
theorem gFq.rf {h : GH} : gFq h h := fun _ _ _ _ _ => rfl
theorem gFq.tr {h h1 h2 : GH} (a : gFq h h1) (b : gFq h1 h2) : gFq h h2 := fun x p q r s => (b x p q r s).trans (a x p q r s)
theorem gFs.q {h h' : GH} (a : gFs h h') : gFq h h' := fun x p _ q r => a x p q r
theorem gFq.up (h : GH) (c : GC) : gFq h (gup h 80 c) := fun a _ p _ _ => gup_ne _ _ p
def gFB (W : Nat → List Int32) (ss : Nat) (mode : Int32) (k gn : Nat) : Option (List Int32) := (List.range (gn + 1)).findSome? (fun j => (List.range (min j 4 + 1 - min j 1)).findSome? (fun i => gCo W ss mode k (min j 1 + i) gn [] (gn - j) 0))
def gFX (W : Nat → List Int32) (ss : Nat) (k : Nat) : Option (List Int32) := (List.range 7).findSome? (fun j => (List.range (7 - j)).findSome? (fun i => if gst W ss (6 - j - i) (i + 1) = true then gCo W ss 0 k 1 (7 - j) [] (6 - j - i) 0 else none))
set_option maxHeartbeats 4000000 in
theorem r_canStretch {fl : Bool} {d : Nat} {h : GH} {k ss : Nat} {W : Nat → List Int32} {gn V : Nat} {mode : Int32} {c : List Int32} (hS : gSv h k ss W gn V mode c) (hss : ss ≤ 6) {le pl : Nat} (hle : le ≤ 1000) (hp1 : 1 ≤ pl) (hpl : pl ≤ 1000) : gR fl (d + 1) yX3_canStretch [.ref 1, .int (nI le), .int (nI pl)] h (.int (gb (gst W ss le pl))) := by
  have g80 := hS.1
  have g1 := hS.2.1.1
  have g4 := hS.2.1.2.2.2
  refine gN.of MX3_canStretch (Nat.le_of_ble_eq_true rfl) (fun J n hJ => ?_)
  show J 0 [some (.ref 1), some (.int (nI le)), some (.int (nI pl)), none, none] [] h (n, 0, 0, fl)
  have loop : ∀ i, i ≤ ss → ∀ w4 : Option Value, (∀ j, j < i → gstr (W j).length le pl = true) → J 9 [some (.ref 1), some (.int (nI le)), some (.int (nI pl)), some (.int (nI i)), w4] [] h (n, 0, 0, fl) := by
    refine gloop _ _ (fun i hi ih w4 hall => ?_)
    refine j_p (nx := 10) hJ dX3_canStretch_9 rfl rfl ?_
    refine j_p (nx := 11) hJ dX3_canStretch_10 rfl rfl ?_
    refine j_get (nx := 14) hJ dX3_canStretch_11 rfl fX3_54 g1 (by rfl) ?_
    refine j_ic_ge (nx := 17) (tgt := 57) hJ dX3_canStretch_14 rfl (by decide) (fun c14 => ?_) (fun c14 => ?_)
    · refine j_c (nx := 58) hJ dX3_canStretch_57 rfl gk_iconst_1 ?_
      rw [gnle (by omega) (by omega)] at c14
      exact j_zret hJ (gst W ss le pl) dX3_canStretch_58 (by rw [show gst W ss le pl = true from by unfold gst; rw [gall_t (fun j hj => hall j (by omega)), decide_eq_true (show 1 ≤ pl by omega)]; rfl]; rfl) ⟨rfl, rfl⟩
    · rw [gnle (by omega) (by omega)] at c14
      have hkl : i < ss := by omega
      refine j_p (nx := 18) hJ dX3_canStretch_17 rfl rfl ?_
      refine j_c (nx := 20) hJ dX3_canStretch_18 rfl gk_bipush_6 ?_
      refine j_ic_ge (nx := 23) (tgt := 57) hJ dX3_canStretch_20 rfl (by decide) (fun c20 => absurd c20 (by rw [show (6 : Int32) = nI 6 from rfl, gnle (by omega) (by omega)]; omega)) (fun c20 => ?_)
      refine j_p (nx := 24) hJ dX3_canStretch_23 rfl rfl ?_
      refine j_get (nx := 27) hJ dX3_canStretch_24 rfl fX3_59 g1 (by rfl) ?_
      refine j_p (nx := 28) hJ dX3_canStretch_27 rfl rfl ?_
      refine j_aald (j := i) (nx := 29) hJ dX3_canStretch_28 rfl g4 rfl (by omega) (by decide) (by decide) rfl ?_
      have hW := hS.2.2.1 i (by omega)
      have hW8 := hW.2.1
      have hWr := hW.2.2.2.1
      refine j_get (nx := 32) hJ dX3_canStretch_29 rfl fX3_63 hWr (by rfl) ?_
      by_cases hle : le + pl ≤ (W i).length
      · refine j_p (nx := 33) hJ dX3_canStretch_32 rfl rfl ?_
        refine j_p (nx := 34) hJ dX3_canStretch_33 rfl rfl ?_
        rw [gsub (by omega)]
        refine j_p (nx := 36) hJ dX3_canStretch_34 rfl rfl ?_
        refine j_p (nx := 38) hJ dX3_canStretch_36 rfl rfl ?_
        refine j_p (nx := 39) hJ dX3_canStretch_38 rfl rfl ?_
        refine j_ic_lt (nx := 42) (tgt := 49) hJ dX3_canStretch_39 rfl (by decide) (fun c39 => absurd c39 (by rw [gnlt (by omega) (by omega)]; omega)) (fun c39 => ?_)
        refine j_p (nx := 44) hJ dX3_canStretch_42 rfl rfl ?_
        refine j_p (nx := 45) hJ dX3_canStretch_44 rfl rfl ?_
        refine j_rem (nx := 46) hJ dX3_canStretch_45 rfl (by rw [gz0 (by omega)]; omega) ?_
        rw [gremI (by omega) (by omega)]
        refine j_if_eq (nx := 49) (tgt := 51) hJ dX3_canStretch_46 rfl (by decide) (fun c46 => ?_) (fun c46 => ?_)
        · rw [gz0 (by have := Nat.mod_lt ((W i).length - le) (y := pl) (by omega); omega)] at c46
          refine j_inc (nx := 54) hJ dX3_canStretch_51 rfl rfl (gi1 i) rfl ?_
          refine j_go (tgt := 9) hJ dX3_canStretch_54 (by decide) ?_
          refine ih hkl _ (fun j hj => ?_)
          by_cases e : j = i
          · subst e; exact decide_eq_true ⟨by omega, c46⟩
          · exact hall j (by omega)
        · refine j_c (nx := 50) hJ dX3_canStretch_49 rfl gk_iconst_0 ?_
          rw [gz0 (by have := Nat.mod_lt ((W i).length - le) (y := pl) (by omega); omega)] at c46
          exact j_zret hJ (gst W ss le pl) dX3_canStretch_50 (by rw [show gst W ss le pl = false from by unfold gst; rw [gall_f hkl (decide_eq_false (fun q => c46 q.2))]; simp]; rfl) ⟨rfl, rfl⟩
      · refine j_p (nx := 33) hJ dX3_canStretch_32 rfl rfl ?_
        refine j_p (nx := 34) hJ dX3_canStretch_33 rfl rfl ?_
        refine j_p (nx := 36) hJ dX3_canStretch_34 rfl rfl ?_
        refine j_p (nx := 38) hJ dX3_canStretch_36 rfl rfl ?_
        refine j_p (nx := 39) hJ dX3_canStretch_38 rfl rfl ?_
        refine j_ic_lt (nx := 42) (tgt := 49) hJ dX3_canStretch_39 rfl (by decide) (fun c39 => ?_) (fun c39 => absurd c39 (fun q => q ?_))
        · refine j_c (nx := 50) hJ dX3_canStretch_49 rfl gk_iconst_0 ?_
          exact j_zret hJ (gst W ss le pl) dX3_canStretch_50 (by rw [show gst W ss le pl = false from by unfold gst; rw [gall_f hkl (decide_eq_false (fun q => hle (by omega)))]; simp]; rfl) ⟨rfl, rfl⟩
        · rw [Int32.lt_iff_toInt_lt, gsl2 (by omega) (by omega), nI_toInt (by omega)]; omega
  refine j_p (nx := 1) hJ dX3_canStretch_0 rfl rfl ?_
  refine j_c (nx := 2) hJ dX3_canStretch_1 rfl gk_iconst_1 ?_
  refine j_ic_ge (nx := 5) (tgt := 7) hJ dX3_canStretch_2 rfl (by decide) (fun c2 => ?_) (fun c2 => absurd c2 (fun q => q ((gnle (a := 1) (by omega) (by omega)).mpr hp1)))
  refine j_c (nx := 8) hJ dX3_canStretch_7 rfl gk_iconst_0 ?_
  refine j_p (nx := 9) hJ dX3_canStretch_8 rfl rfl ?_
  exact loop 0 (Nat.zero_le _) _ (fun j hj => by omega)
set_option maxHeartbeats 4000000 in
theorem r_findBest {fl : Bool} {d : Nat} {h : GH} {k ss : Nat} {W : Nat → List Int32} {g0 V0 : Nat} {mode0 : Int32} {c : List Int32} (hS : gSv h k ss W g0 V0 mode0 c) (hss : ss ≤ 6) (hk : k ≤ 3) (mode : Int32) {gn : Nat} (hgn : gn ≤ 8) : gN fl (d + 40) yX3_findBest [.ref 80, .ref 1, .int (nI gn), .int mode] h (fun o h' => o = some (.int (gb (gFB W ss mode k gn).isSome)) ∧ (∃ V', gSv h' k ss W gn V' mode ((gFB W ss mode k gn).getD [])) ∧ gFq h h') := by
  have g80 := hS.1
  have g81 := hS.2.2.2.2.2.2.2.1
  refine gN.of MX3_findBest (Nat.le_of_ble_eq_true rfl) (fun J n hJ => ?_)
  show J 0 [some (.ref 80), some (.ref 1), some (.int (nI gn)), some (.int mode), none, none, none, none] [] h (n, 0, 0, fl)
  have loop : ∀ j, j ≤ gn → ∀ (h1 : GH) (V1 : Nat) (w4 w5 w6 : Option Value), gSv h1 k ss W gn V1 mode [] → gFq h h1 → (∀ x, x < j → (fun j => (List.range (min j 4 + 1 - min j 1)).findSome? (fun i => gCo W ss mode k (min j 1 + i) gn [] (gn - j) 0)) x = none) → J 20 [some (.ref 80), some (.ref 1), some (.int (nI gn)), some (.int mode), some (.int (nI (gn - j))), w4, w5, w6] [] h1 (n, 0, 0, fl) := by
    refine gloop _ _ (fun j hj ih h1 V1 w4 w5 w6 hS1 hF1 hno => ?_)
    have g801 := hS1.1
    refine j_p (nx := 22) hJ dX3_findBest_20 rfl rfl ?_
    refine j_if_lt (nx := 25) (tgt := 86) hJ dX3_findBest_22 rfl (by decide) (fun c22 => absurd c22 (by rw [gcz0, nI_toInt (by omega)]; omega)) (fun c22 => ?_)
    refine j_p (nx := 26) hJ dX3_findBest_25 rfl rfl ?_
    refine j_p (nx := 28) hJ dX3_findBest_26 rfl rfl ?_
    refine j_p (nx := 29) hJ dX3_findBest_28 rfl rfl ?_
    rw [gsub (by omega), show gn - (gn - j) = j by omega]
    refine j_p (nx := 31) hJ dX3_findBest_29 rfl rfl ?_
    refine j_p (nx := 33) hJ dX3_findBest_31 rfl rfl ?_
    refine j_c (nx := 34) hJ dX3_findBest_33 rfl gk_iconst_4 ?_
    refine j_min (nx := 37) hJ dX3_findBest_34 rfl mX3_37 (gle8 rfl) ?_
    rw [show (if (4 : Int32) < nI j then (4 : Int32) else nI j) = nI (min j 4) from gminI (b := 4) (by omega) (by omega)]
    refine j_p (nx := 39) hJ dX3_findBest_37 rfl rfl ?_
    refine j_p (nx := 41) hJ dX3_findBest_39 rfl rfl ?_
    refine j_c (nx := 42) hJ dX3_findBest_41 rfl gk_iconst_1 ?_
    refine j_min (nx := 45) hJ dX3_findBest_42 rfl mX3_37 (gle8 rfl) ?_
    rw [show (if (1 : Int32) < nI j then (1 : Int32) else nI j) = nI (min j 1) from gminI (b := 1) (by omega) (by omega)]
    refine j_p (nx := 47) hJ dX3_findBest_45 rfl rfl ?_
    have inner : ∀ i, i ≤ (min j 4 + 1 - min j 1) → ∀ (h2 : GH) (V2 : Nat), gSv h2 k ss W gn V2 mode [] → gFq h h2 → (∀ x, x < i → (fun i => gCo W ss mode k (min j 1 + i) gn [] (gn - j) 0) x = none) → J 47 [some (.ref 80), some (.ref 1), some (.int (nI gn)), some (.int mode), some (.int (nI (gn - j))), some (.int (nI j)), some (.int (nI (min j 4))), some (.int (nI (min j 1 + i)))] [] h2 (n, 0, 0, fl) := by
      refine gloop _ _ (fun i hi ihi h2 V2 hS2 hF2 hnoi => ?_)
      have g802 := hS2.1
      refine j_p (nx := 49) hJ dX3_findBest_47 rfl rfl ?_
      refine j_p (nx := 51) hJ dX3_findBest_49 rfl rfl ?_
      refine j_ic_gt (nx := 54) (tgt := 80) hJ dX3_findBest_51 rfl (by decide) (fun c51 => ?_) (fun c51 => ?_)
      · rw [gnlt (by omega) (by omega)] at c51
        have hj0 : (List.range (min j 4 + 1 - min j 1)).findSome? (fun i => gCo W ss mode k (min j 1 + i) gn [] (gn - j) 0) = none := gfs_n (fun x hx => hnoi x (by omega))
        have hno2 : ∀ x, x < j + 1 → (fun j => (List.range (min j 4 + 1 - min j 1)).findSome? (fun i => gCo W ss mode k (min j 1 + i) gn [] (gn - j) 0)) x = none := fun x hx => by
          by_cases e : x = j
          · subst e; exact hj0
          · exact hno x (by omega)
        by_cases hjn : j < gn
        · refine j_inc (nx := 83) hJ dX3_findBest_80 rfl rfl (gdec _ (by omega)) rfl ?_
          refine j_go (tgt := 20) hJ dX3_findBest_83 (by decide) ?_
          rw [show gn - j - 1 = gn - (j + 1) by omega]
          exact ih hjn h2 _ _ _ _ hS2 hF2 hno2
        · refine j_inc (nx := 83) hJ dX3_findBest_80 rfl rfl rfl rfl ?_
          refine j_go (tgt := 20) hJ dX3_findBest_83 (by decide) ?_
          refine j_p (nx := 22) hJ dX3_findBest_20 rfl rfl ?_
          rw [show gn - j = 0 by omega]
          refine j_if_lt (nx := 25) (tgt := 86) hJ dX3_findBest_22 rfl (by decide) (fun c22 => ?_) (fun c22 => absurd c22 (fun q => q (by decide)))
          have hv : gFB W ss mode k gn = none := gfs_n (fun x hx => hno2 x (by omega))
          refine j_c (nx := 87) hJ dX3_findBest_86 rfl gk_iconst_0 ?_
          exact j_zret hJ false dX3_findBest_87 rfl ⟨by rw [hv]; rfl, ⟨_, by rw [hv]; exact hS2⟩, hF2⟩
      · rw [gnlt (by omega) (by omega)] at c51
        have hil : i < (min j 4 + 1 - min j 1) := by omega
        refine j_p (nx := 55) hJ dX3_findBest_54 rfl rfl ?_
        refine j_p (nx := 57) hJ dX3_findBest_55 rfl rfl ?_
        refine j_put (nx := 60) hJ dX3_findBest_57 rfl fX3_43 (zX3_3 _) g802 (Nat.le_of_ble_eq_true rfl) ?_
        have hS3 := hS2.up gn (min j 1 + i) mode
        have g803 := hS3.1
        refine j_p (nx := 61) hJ dX3_findBest_60 rfl rfl ?_
        refine j_p (nx := 62) hJ dX3_findBest_61 rfl rfl ?_
        refine j_c (nx := 63) hJ dX3_findBest_62 rfl gk_iconst_0 ?_
        refine j_p (nx := 65) hJ dX3_findBest_63 rfl rfl ?_
        refine j_c (nx := 66) hJ dX3_findBest_65 rfl gk_iconst_0 ?_
        have hc := r_complete (fl := fl) hss hk hgn (V := min j 1 + i) (by omega) gn (d + 17 - 2 * gn) _ [] (gn - j) 0 hS3 (fun x hx => by cases hx) (by show 0 + gn = gn; omega) (by omega) (Nat.zero_le _) (fun q => by omega)
        rw [show d + 17 - 2 * gn + 2 * gn + 22 = d + 39 by omega] at hc
        refine j_cv (nx := 69) hJ dX3_findBest_66 rfl (hc) mX3_46 (by repeat (first | assumption | exact gup_same _ _ _ | rw [gup_ne _ _ (by first | decide | assumption | omega)])) kX3_complete rfl (gle8 rfl) (fun o h4 hp => ?_)
        obtain ⟨rfl, hS4, hF4⟩ := hp
        refine j_if_eq (nx := 72) (tgt := 74) hJ dX3_findBest_69 rfl (by decide) (fun c69 => ?_) (fun c69 => ?_)
        · have hg := gsome_f c69
          rw [hg] at hS4
          refine j_inc (nx := 77) hJ dX3_findBest_74 rfl rfl (gi1 _) rfl ?_
          refine j_go (tgt := 47) hJ dX3_findBest_77 (by decide) ?_
          refine ihi hil h4 _ hS4 (hF2.tr ((gFq.up _ _).tr hF4.q)) (fun x hx => ?_)
          by_cases e : x = i
          · subst e; exact hg
          · exact hnoi x (by omega)
        · obtain ⟨y, hg⟩ := gsome_t c69
          rw [hg] at hS4
          have hv : gFB W ss mode k gn = some y := gfs_s hno (show j < gn + 1 by omega) (gfs_s hnoi hil hg)
          refine j_c (nx := 73) hJ dX3_findBest_72 rfl gk_iconst_1 ?_
          exact j_zret hJ true dX3_findBest_73 rfl ⟨by rw [hv]; rfl, ⟨_, by rw [hv]; exact hS4⟩, hF2.tr ((gFq.up _ _).tr hF4.q)⟩
    exact inner 0 (Nat.zero_le _) h1 _ hS1 hF1 (fun x hx => by omega)
  refine j_p (nx := 1) hJ dX3_findBest_0 rfl rfl ?_
  refine j_p (nx := 2) hJ dX3_findBest_1 rfl rfl ?_
  refine j_put (nx := 5) hJ dX3_findBest_2 rfl fX3_27 (zX3_2 _) g80 (Nat.le_of_ble_eq_true rfl) ?_
  have hS1 := hS.up gn V0 mode0
  have g801 := hS1.1
  refine j_p (nx := 6) hJ dX3_findBest_5 rfl rfl ?_
  refine j_p (nx := 7) hJ dX3_findBest_6 rfl rfl ?_
  refine j_put (nx := 10) hJ dX3_findBest_7 rfl fX3_31 (zX3_4 _) g801 (Nat.le_of_ble_eq_true rfl) ?_
  have hS2 := hS1.up gn V0 mode
  have g802 := hS2.1
  have g812 := hS2.2.2.2.2.2.2.2.1
  refine j_p (nx := 11) hJ dX3_findBest_10 rfl rfl ?_
  refine j_get (nx := 14) hJ dX3_findBest_11 rfl fX3_23 (by repeat (first | assumption | exact gup_same _ _ _ | rw [gup_ne _ _ (by first | decide | assumption | omega)])) (by rfl) ?_
  refine j_cv (nx := 17) hJ dX3_findBest_14 rfl (r_clear (fl := fl) (d := d + 38) hS2.2.2.2.2) mX3_34 (by repeat (first | assumption | exact gup_same _ _ _ | rw [gup_ne _ _ (by first | decide | assumption | omega)])) kX2_clear rfl (gle8 rfl) (fun o h3 hp => ?_)
  obtain ⟨rfl, hR3, hF3⟩ := hp
  refine j_p (nx := 18) hJ dX3_findBest_17 rfl rfl ?_
  refine j_p (nx := 20) hJ dX3_findBest_18 rfl rfl ?_
  exact loop 0 (Nat.zero_le _) h3 _ _ _ _ (hS2.can hF3 hR3) ((gFq.up _ _).tr ((gFq.up _ _).tr (gFr.s hF3).q)) (fun x hx => by omega)
set_option maxHeartbeats 4000000 in
theorem r_findLongestOfX {fl : Bool} {d : Nat} {h : GH} {k ss : Nat} {W : Nat → List Int32} {g0 V0 : Nat} {mode0 : Int32} {c : List Int32} (hS : gSv h k ss W g0 V0 mode0 c) (hss : ss ≤ 6) (hk : k ≤ 3) : gN fl (d + 40) yX3_findLongestOfX [.ref 80, .ref 1] h (fun o h' => o = some (.int (gb (gFX W ss k).isSome)) ∧ (∃ g V', gSv h' k ss W g V' 0 ((gFX W ss k).getD [])) ∧ gFq h h') := by
  have g80 := hS.1
  have g81 := hS.2.2.2.2.2.2.2.1
  refine gN.of MX3_findLongestOfX (Nat.le_of_ble_eq_true rfl) (fun J n hJ => ?_)
  show J 0 [some (.ref 80), some (.ref 1), none, none] [] h (n, 0, 0, fl)
  have loop : ∀ j, j ≤ 7 → ∀ (h1 : GH) (g1 : Nat) (w2 : Option Value), gSv h1 k ss W g1 1 0 [] → gFq h h1 → (∀ x, x < j → (fun j => (List.range (7 - j)).findSome? (fun i => if gst W ss (6 - j - i) (i + 1) = true then gCo W ss 0 k 1 (7 - j) [] (6 - j - i) 0 else none)) x = none) → J 20 [some (.ref 80), some (.ref 1), some (.int (nI (7 - j))), w2] [] h1 (n, 0, 0, fl) := by
    refine gloop _ _ (fun j hj ih h1 g1 w2 hS1 hF1 hno => ?_)
    have g801 := hS1.1
    by_cases hj7 : j < 7
    · refine j_p (nx := 21) hJ dX3_findLongestOfX_20 rfl rfl ?_
      refine j_c (nx := 22) hJ dX3_findLongestOfX_21 rfl gk_iconst_1 ?_
      refine j_ic_lt (nx := 25) (tgt := 74) hJ dX3_findLongestOfX_22 rfl (by decide) (fun c22 => absurd c22 (by rw [show (1 : Int32) = nI 1 from rfl, gnlt (by omega) (by omega)]; omega)) (fun c22 => ?_)
      refine j_p (nx := 26) hJ dX3_findLongestOfX_25 rfl rfl ?_
      refine j_p (nx := 27) hJ dX3_findLongestOfX_26 rfl rfl ?_
      refine j_put (nx := 30) hJ dX3_findLongestOfX_27 rfl fX3_27 (zX3_2 _) g801 (Nat.le_of_ble_eq_true rfl) ?_
      have hS2 := hS1.up (7 - j) 1 0
      refine j_p (nx := 31) hJ dX3_findLongestOfX_30 rfl rfl ?_
      refine j_c (nx := 32) hJ dX3_findLongestOfX_31 rfl gk_iconst_1 ?_
      refine j_p (nx := 33) hJ dX3_findLongestOfX_32 rfl rfl ?_
      rw [show nI (7 - j) - 1 = nI (6 - j - 0) from (gsub (b := 1) (by omega)).trans (by rw [show 7 - j - 1 = 6 - j - 0 by omega])]
      refine j_p (nx := 34) hJ dX3_findLongestOfX_33 rfl rfl ?_
      have inner : ∀ i, i ≤ 6 - j → ∀ h2 : GH, gSv h2 k ss W (7 - j) 1 0 [] → gFq h h2 → (∀ x, x < i → (fun i => if gst W ss (6 - j - i) (i + 1) = true then gCo W ss 0 k 1 (7 - j) [] (6 - j - i) 0 else none) x = none) → J 34 [some (.ref 80), some (.ref 1), some (.int (nI (7 - j))), some (.int (nI (6 - j - i)))] [] h2 (n, 0, 0, fl) := by
        refine gloop _ _ (fun i hi ihi h2 hS2 hF2 hnoi => ?_)
        have g802 := hS2.1
        refine j_p (nx := 35) hJ dX3_findLongestOfX_34 rfl rfl ?_
        refine j_if_lt (nx := 38) (tgt := 68) hJ dX3_findLongestOfX_35 rfl (by decide) (fun c35 => absurd c35 (by rw [gcz0, nI_toInt (by omega)]; omega)) (fun c35 => ?_)
        refine j_p (nx := 39) hJ dX3_findLongestOfX_38 rfl rfl ?_
        refine j_p (nx := 40) hJ dX3_findLongestOfX_39 rfl rfl ?_
        refine j_p (nx := 41) hJ dX3_findLongestOfX_40 rfl rfl ?_
        refine j_p (nx := 42) hJ dX3_findLongestOfX_41 rfl rfl ?_
        refine j_p (nx := 43) hJ dX3_findLongestOfX_42 rfl rfl ?_
        rw [gsub (by omega), show 7 - j - (6 - j - i) = i + 1 by omega]
        refine j_csR (nx := 46) hJ dX3_findLongestOfX_43 rfl (r_canStretch (fl := fl) (d := d + 38) hS2 hss (le := 6 - j - i) (pl := i + 1) (by omega) (by omega) (by omega)) mX3_50 rfl (gle8 rfl) ?_
        refine j_if_eq (nx := 49) (tgt := 62) hJ dX3_findLongestOfX_46 rfl (by decide) (fun c46 => ?_) (fun c46 => ?_)
        · rw [gb_f] at c46
          have hg : (fun i => if gst W ss (6 - j - i) (i + 1) = true then gCo W ss 0 k 1 (7 - j) [] (6 - j - i) 0 else none) i = none := if_neg (by rw [c46]; decide)
          have hS3 := hS2
          have hF3 := hF2
          revert hS3 hF3
          generalize h2 = h3
          intro hS3 hF3
          have hni2 : ∀ x, x < i + 1 → (fun i => if gst W ss (6 - j - i) (i + 1) = true then gCo W ss 0 k 1 (7 - j) [] (6 - j - i) 0 else none) x = none := fun x hx => by
            by_cases e : x = i
            · subst e; exact hg
            · exact hnoi x (by omega)
          by_cases hin : i + 1 < 7 - j
          · refine j_inc (nx := 65) hJ dX3_findLongestOfX_62 rfl rfl (gdec _ (by omega)) rfl ?_
            refine j_go (tgt := 34) hJ dX3_findLongestOfX_65 (by decide) ?_
            rw [show 6 - j - i - 1 = 6 - j - (i + 1) by omega]
            exact ihi (by omega) h3 hS3 hF3 hni2
          · refine j_inc (nx := 65) hJ dX3_findLongestOfX_62 rfl rfl rfl rfl ?_
            refine j_go (tgt := 34) hJ dX3_findLongestOfX_65 (by decide) ?_
            refine j_p (nx := 35) hJ dX3_findLongestOfX_34 rfl rfl ?_
            rw [show 6 - j - i = 0 by omega]
            refine j_if_lt (nx := 38) (tgt := 68) hJ dX3_findLongestOfX_35 rfl (by decide) (fun c35 => ?_) (fun c35 => absurd c35 (fun q => q (by decide)))
            have hj0 : (List.range (7 - j)).findSome? (fun i => if gst W ss (6 - j - i) (i + 1) = true then gCo W ss 0 k 1 (7 - j) [] (6 - j - i) 0 else none) = none := gfs_n (fun x hx => hni2 x (by omega))
            have hno2 : ∀ x, x < j + 1 → (fun j => (List.range (7 - j)).findSome? (fun i => if gst W ss (6 - j - i) (i + 1) = true then gCo W ss 0 k 1 (7 - j) [] (6 - j - i) 0 else none)) x = none := fun x hx => by
              by_cases e : x = j
              · subst e; exact hj0
              · exact hno x (by omega)
            refine j_inc (nx := 71) hJ dX3_findLongestOfX_68 rfl rfl (gdec _ (by omega)) rfl ?_
            refine j_go (tgt := 20) hJ dX3_findLongestOfX_71 (by decide) ?_
            rw [show 7 - j - 1 = 7 - (j + 1) by omega]
            exact ih hj7 h3 _ _ hS3 hF3 hno2
        rw [gb_t] at c46
        refine j_p (nx := 50) hJ dX3_findLongestOfX_49 rfl rfl ?_
        refine j_p (nx := 51) hJ dX3_findLongestOfX_50 rfl rfl ?_
        refine j_c (nx := 52) hJ dX3_findLongestOfX_51 rfl gk_iconst_0 ?_
        refine j_p (nx := 53) hJ dX3_findLongestOfX_52 rfl rfl ?_
        refine j_c (nx := 54) hJ dX3_findLongestOfX_53 rfl gk_iconst_0 ?_
        have hc := r_complete (fl := fl) hss hk (gn := 7 - j) (by omega) (V := 1) (by omega) (7 - j) (d + 17 - 2 * (7 - j)) _ [] (6 - j - i) 0 hS2 (fun x hx => by cases hx) (by show 0 + (7 - j) = 7 - j; omega) (by omega) (Nat.zero_le _) (fun q => by omega)
        rw [show d + 17 - 2 * (7 - j) + 2 * (7 - j) + 22 = d + 39 by omega] at hc
        refine j_cv (nx := 57) hJ dX3_findLongestOfX_54 rfl (hc) mX3_46 (by repeat (first | assumption | exact gup_same _ _ _ | rw [gup_ne _ _ (by first | decide | assumption | omega)])) kX3_complete rfl (gle8 rfl) (fun o h3 hp => ?_)
        obtain ⟨rfl, hS3, hF3⟩ := hp
        have hF3 := hF2.tr hF3.q
        refine j_if_eq (nx := 60) (tgt := 62) hJ dX3_findLongestOfX_57 rfl (by decide) (fun c57 => ?_) (fun c57 => ?_)
        · have hg := gsome_f c57
          rw [hg] at hS3
          have hS3 : gSv h3 k ss W (7 - j) 1 0 [] := hS3
          have hgg : (fun i => if gst W ss (6 - j - i) (i + 1) = true then gCo W ss 0 k 1 (7 - j) [] (6 - j - i) 0 else none) i = none := (if_pos c46).trans hg
          have hni2 : ∀ x, x < i + 1 → (fun i => if gst W ss (6 - j - i) (i + 1) = true then gCo W ss 0 k 1 (7 - j) [] (6 - j - i) 0 else none) x = none := fun x hx => by
            by_cases e : x = i
            · subst e; exact hgg
            · exact hnoi x (by omega)
          by_cases hin : i + 1 < 7 - j
          · refine j_inc (nx := 65) hJ dX3_findLongestOfX_62 rfl rfl (gdec _ (by omega)) rfl ?_
            refine j_go (tgt := 34) hJ dX3_findLongestOfX_65 (by decide) ?_
            rw [show 6 - j - i - 1 = 6 - j - (i + 1) by omega]
            exact ihi (by omega) h3 hS3 hF3 hni2
          · refine j_inc (nx := 65) hJ dX3_findLongestOfX_62 rfl rfl rfl rfl ?_
            refine j_go (tgt := 34) hJ dX3_findLongestOfX_65 (by decide) ?_
            refine j_p (nx := 35) hJ dX3_findLongestOfX_34 rfl rfl ?_
            rw [show 6 - j - i = 0 by omega]
            refine j_if_lt (nx := 38) (tgt := 68) hJ dX3_findLongestOfX_35 rfl (by decide) (fun c35 => ?_) (fun c35 => absurd c35 (fun q => q (by decide)))
            have hj0 : (List.range (7 - j)).findSome? (fun i => if gst W ss (6 - j - i) (i + 1) = true then gCo W ss 0 k 1 (7 - j) [] (6 - j - i) 0 else none) = none := gfs_n (fun x hx => hni2 x (by omega))
            have hno2 : ∀ x, x < j + 1 → (fun j => (List.range (7 - j)).findSome? (fun i => if gst W ss (6 - j - i) (i + 1) = true then gCo W ss 0 k 1 (7 - j) [] (6 - j - i) 0 else none)) x = none := fun x hx => by
              by_cases e : x = j
              · subst e; exact hj0
              · exact hno x (by omega)
            refine j_inc (nx := 71) hJ dX3_findLongestOfX_68 rfl rfl (gdec _ (by omega)) rfl ?_
            refine j_go (tgt := 20) hJ dX3_findLongestOfX_71 (by decide) ?_
            rw [show 7 - j - 1 = 7 - (j + 1) by omega]
            exact ih hj7 h3 _ _ hS3 hF3 hno2
        · obtain ⟨y, hg⟩ := gsome_t c57
          rw [hg] at hS3
          have hgg : (fun i => if gst W ss (6 - j - i) (i + 1) = true then gCo W ss 0 k 1 (7 - j) [] (6 - j - i) 0 else none) i = some y := (if_pos c46).trans hg
          have hv : gFX W ss k = some y := gfs_s hno (show j < 7 by omega) (gfs_s hnoi (show i < 7 - j by omega) hgg)
          refine j_c (nx := 61) hJ dX3_findLongestOfX_60 rfl gk_iconst_1 ?_
          exact j_zret hJ true dX3_findLongestOfX_61 rfl ⟨by rw [hv]; rfl, ⟨_, _, by rw [hv]; exact hS3⟩, hF3⟩
      exact inner 0 (Nat.zero_le _) _ hS2 (hF1.tr (gFq.up _ _)) (fun x hx => by omega)
    · refine j_p (nx := 21) hJ dX3_findLongestOfX_20 rfl rfl ?_
      refine j_c (nx := 22) hJ dX3_findLongestOfX_21 rfl gk_iconst_1 ?_
      refine j_ic_lt (nx := 25) (tgt := 74) hJ dX3_findLongestOfX_22 rfl (by decide) (fun c22 => ?_) (fun c22 => absurd c22 (fun q => q (by rw [show (1 : Int32) = nI 1 from rfl, gnlt (by omega) (by omega)]; omega)))
      refine j_c (nx := 75) hJ dX3_findLongestOfX_74 rfl gk_iconst_0 ?_
      have hv : gFX W ss k = none := gfs_n (fun x hx => hno x (by omega))
      exact j_zret hJ false dX3_findLongestOfX_75 rfl ⟨by rw [hv]; rfl, ⟨_, _, by rw [hv]; exact hS1⟩, hF1⟩
  refine j_p (nx := 1) hJ dX3_findLongestOfX_0 rfl rfl ?_
  refine j_c (nx := 2) hJ dX3_findLongestOfX_1 rfl gk_iconst_1 ?_
  refine j_put (nx := 5) hJ dX3_findLongestOfX_2 rfl fX3_43 (zX3_3 _) g80 (Nat.le_of_ble_eq_true rfl) ?_
  have hS1 := hS.up g0 1 mode0
  have g801 := hS1.1
  refine j_p (nx := 6) hJ dX3_findLongestOfX_5 rfl rfl ?_
  refine j_c (nx := 7) hJ dX3_findLongestOfX_6 rfl gk_iconst_0 ?_
  refine j_put (nx := 10) hJ dX3_findLongestOfX_7 rfl fX3_31 (zX3_4 _) g801 (Nat.le_of_ble_eq_true rfl) ?_
  have hS2 := hS1.up g0 1 0
  have g802 := hS2.1
  have g812 := hS2.2.2.2.2.2.2.2.1
  refine j_p (nx := 11) hJ dX3_findLongestOfX_10 rfl rfl ?_
  refine j_get (nx := 14) hJ dX3_findLongestOfX_11 rfl fX3_23 (by repeat (first | assumption | exact gup_same _ _ _ | rw [gup_ne _ _ (by first | decide | assumption | omega)])) (by rfl) ?_
  refine j_cv (nx := 17) hJ dX3_findLongestOfX_14 rfl (r_clear (fl := fl) (d := d + 38) hS2.2.2.2.2) mX3_34 (by repeat (first | assumption | exact gup_same _ _ _ | rw [gup_ne _ _ (by first | decide | assumption | omega)])) kX2_clear rfl (gle8 rfl) (fun o h3 hp => ?_)
  obtain ⟨rfl, hR3, hF3⟩ := hp
  refine j_c (nx := 19) hJ dX3_findLongestOfX_17 rfl gk_bipush_7 ?_
  refine j_p (nx := 20) hJ dX3_findLongestOfX_19 rfl rfl ?_
  exact loop 0 (Nat.zero_le _) h3 _ _ (hS2.can hF3 hR3) ((gFq.up _ _).tr ((gFq.up _ _).tr (gFr.s hF3).q)) (fun x hx => by omega)
