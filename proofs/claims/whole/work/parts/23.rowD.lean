theorem gmin {a b : Nat} (hb : b < 2 ^ 31) (h : a ≤ b) : (if nI b < nI a then nI b else nI a) = nI a := by
  rw [if_neg]
  rw [gnlt hb (by omega)]
  omega
theorem ggetD {m : List Int32} {k : Nat} {v : Int32} (h : m[k]? = some v) (x : Int32) : m.getD k x = v := by rw [List.getD_eq_getElem?_getD, h]; rfl
/-- two rows apart -/
def gAp (r q r2 q2 : Nat) : Prop := r2 ≠ r ∧ r2 ≠ q ∧ q2 ≠ r ∧ q2 ≠ q
/-- whether a range lies in a row -/
def gRng (n : Nat) (i c : Int32) : Bool := decide (0 ≤ i.toInt ∧ 0 ≤ c.toInt ∧ i.toInt + c.toInt ≤ n)
set_option maxHeartbeats 2000000 in
theorem r_setTo {fl : Bool} {d : Nat} {h : GH} {r q cap : Nat} {l : List Int32} (hR : gRow h r q cap l) {r2 q2 cap2 : Nat} {w : List Int32} (hW : gRow h r2 q2 cap2 w) (hA : gAp r q r2 q2) (hw : w.length ≤ cap) : gN fl (d + 2) yX2_setTo [.ref r, .ref r2] h (fun o h' => o = none ∧ gRow h' r q cap w ∧ gFr r q h h') := by
  obtain ⟨hrq, hlc, hcap, hr, f, hq, hf⟩ := id hR
  obtain ⟨-, -, -, hr2, -⟩ := id hW
  refine gN.of MX2_setTo (Nat.le_of_ble_eq_true rfl) (fun J n hJ => ?_)
  show J 0 [some (.ref r), some (.ref r2), none, none] [] h (n, 0, 0, fl)
  have loop : ∀ k, k ≤ w.length → ∀ (h1 : GH) (g : Nat → Int32), h1 r = some (gob 2 [.ref q, .int (nI l.length)]) → h1 q = some (gia cap g) → (∀ (i : Nat) (v : Int32), i < k → w[i]? = some v → g i = v) → gFr r q h h1 → J 15 [some (.ref r), some (.ref r2), some (.int (nI w.length)), some (.int (nI k))] [] h1 (n, 0, 0, fl) := by
    refine gloop _ _ (fun k hk ih h1 g1 hr1 hq1 hg1 hF1 => ?_)
    refine j_p (nx := 16) hJ dX2_setTo_15 rfl rfl ?_
    refine j_p (nx := 17) hJ dX2_setTo_16 rfl rfl ?_
    refine j_ic_ge (nx := 20) (tgt := 37) hJ dX2_setTo_17 rfl (by decide) (fun c17 => ?_) (fun c17 => ?_)
    · refine j_p (nx := 38) hJ dX2_setTo_37 rfl rfl ?_
      refine j_p (nx := 39) hJ dX2_setTo_38 rfl rfl ?_
      refine j_put (nx := 42) hJ dX2_setTo_39 rfl fX2_9 (zX2_1 _) hr1 (Nat.le_of_ble_eq_true rfl) ?_
      rw [gnle (by omega) (by omega)] at c17
      refine j_vret hJ dX2_setTo_42 ⟨rfl, ⟨hrq, by omega, hcap, gup_same _ _ _, g1, by rw [gup_ne _ _ (Ne.symm hrq)]; exact hq1, fun i v hv => hg1 i v ?_ hv⟩, hF1.tr (gup_fr' _ _ _ _)⟩
      have := (List.getElem?_eq_some_iff.mp hv).1
      omega
    · rw [gnle (by omega) (by omega)] at c17
      have hkl : k < w.length := by omega
      have hW1 : gRow h1 r2 q2 cap2 w := hW.fr hF1 hA.1 hA.2.1 hA.2.2.1 hA.2.2.2
      obtain ⟨-, -, -, hr21, -⟩ := id hW1
      refine j_p (nx := 21) hJ dX2_setTo_20 rfl rfl ?_
      refine j_get (nx := 24) hJ dX2_setTo_21 rfl fX2_21 (by assumption) (by rfl) ?_
      refine j_p (nx := 25) hJ dX2_setTo_24 rfl rfl ?_
      refine j_p (nx := 26) hJ dX2_setTo_25 rfl rfl ?_
      refine j_p (nx := 27) hJ dX2_setTo_26 rfl rfl ?_
      refine j_cvR (nx := 30) hJ dX2_setTo_27 rfl (r_at (fl := fl) (d := d) hW1 (nI k)) mX2_29 (by assumption) kX2_at rfl (gle8 rfl) ?_
      rw [gat_nI (by omega)]
      refine j_iast (j := k) (nx := 31) hJ dX2_setTo_30 rfl hq1 rfl (by omega) (by omega) ?_
      refine j_inc (nx := 34) hJ dX2_setTo_31 rfl rfl (gi1 k) rfl ?_
      refine j_go (tgt := 15) hJ dX2_setTo_34 (by decide) ?_
      refine ih hkl _ _ (by rw [gup_ne _ _ hrq]; exact hr1) (gup_same _ _ _) (fun i v hi hv => ?_) (hF1.tr (gup_fr _ _ _ _))
      unfold upd
      by_cases e : i = k
      · subst e; rw [if_pos rfl]; exact ggetD hv _
      · rw [if_neg e]; exact hg1 i v (by omega) hv
  refine j_p (nx := 1) hJ dX2_setTo_0 rfl rfl ?_
  refine j_get (nx := 4) hJ dX2_setTo_1 rfl fX2_9 (by assumption) (by rfl) ?_
  refine j_p (nx := 5) hJ dX2_setTo_4 rfl rfl ?_
  refine j_get (nx := 8) hJ dX2_setTo_5 rfl fX2_21 (by assumption) (by rfl) ?_
  refine j_len (nx := 9) hJ dX2_setTo_8 rfl (by assumption) ?_
  refine j_min (nx := 12) hJ dX2_setTo_9 rfl mX2_36 (gle8 rfl) ?_
  rw [gmin (by omega) hw]
  refine j_p (nx := 13) hJ dX2_setTo_12 rfl rfl ?_
  refine j_c (nx := 14) hJ dX2_setTo_13 rfl gk_iconst_0 ?_
  refine j_p (nx := 15) hJ dX2_setTo_14 rfl rfl ?_
  exact loop 0 (Nat.zero_le _) h f hr hq (fun i v hi => by omega) gFr.rf
set_option maxHeartbeats 2000000 in
theorem r_setToSelf {fl : Bool} {d : Nat} {h : GH} {r q cap : Nat} {l : List Int32} (hR : gRow h r q cap l) : gN fl (d + 2) yX2_setTo [.ref r, .ref r] h (fun o h' => o = none ∧ gRow h' r q cap l ∧ gFr r q h h') := by
  obtain ⟨hrq, hlc, hcap, hr, f, hq, hf⟩ := id hR
  refine gN.of MX2_setTo (Nat.le_of_ble_eq_true rfl) (fun J n hJ => ?_)
  show J 0 [some (.ref r), some (.ref r), none, none] [] h (n, 0, 0, fl)
  have loop : ∀ k, k ≤ l.length → ∀ h1, gRow h1 r q cap l → gFr r q h h1 → J 15 [some (.ref r), some (.ref r), some (.int (nI l.length)), some (.int (nI k))] [] h1 (n, 0, 0, fl) := by
    refine gloop _ _ (fun k hk ih h1 hR1 hF1 => ?_)
    obtain ⟨hrq1, hlc1, hcap1, hr1, f1, hq1, hf1⟩ := id hR1
    refine j_p (nx := 16) hJ dX2_setTo_15 rfl rfl ?_
    refine j_p (nx := 17) hJ dX2_setTo_16 rfl rfl ?_
    refine j_ic_ge (nx := 20) (tgt := 37) hJ dX2_setTo_17 rfl (by decide) (fun c17 => ?_) (fun c17 => ?_)
    · refine j_p (nx := 38) hJ dX2_setTo_37 rfl rfl ?_
      refine j_p (nx := 39) hJ dX2_setTo_38 rfl rfl ?_
      refine j_put (nx := 42) hJ dX2_setTo_39 rfl fX2_9 (zX2_1 _) hr1 (Nat.le_of_ble_eq_true rfl) ?_
      have hR2 := gRow.cut hR1 l.length (Nat.le_refl _)
      rw [List.take_length] at hR2
      exact j_vret hJ dX2_setTo_42 ⟨rfl, hR2, hF1.tr (gup_fr' _ _ _ _)⟩
    · rw [gnle (by omega) (by omega)] at c17
      have hkl : k < l.length := by omega
      refine j_p (nx := 21) hJ dX2_setTo_20 rfl rfl ?_
      refine j_get (nx := 24) hJ dX2_setTo_21 rfl fX2_21 (by assumption) (by rfl) ?_
      refine j_p (nx := 25) hJ dX2_setTo_24 rfl rfl ?_
      refine j_p (nx := 26) hJ dX2_setTo_25 rfl rfl ?_
      refine j_p (nx := 27) hJ dX2_setTo_26 rfl rfl ?_
      refine j_cvR (nx := 30) hJ dX2_setTo_27 rfl (r_at (fl := fl) (d := d) hR1 (nI k)) mX2_29 (by assumption) kX2_at rfl (gle8 rfl) ?_
      rw [gat_nI (by omega)]
      refine j_iast (j := k) (nx := 31) hJ dX2_setTo_30 rfl hq1 rfl (by omega) (by omega) ?_
      refine j_inc (nx := 34) hJ dX2_setTo_31 rfl rfl (gi1 k) rfl ?_
      refine j_go (tgt := 15) hJ dX2_setTo_34 (by decide) ?_
      have hR2 := gRow.set (k := k) hrq1 hlc1 hcap1 hr1 hf1 (l.getD k (-1))
      have e9 : l.set k (l.getD k (-1)) = l := by
        have h9 : l[k]? = some l[k] := List.getElem?_eq_getElem hkl
        rw [ggetD h9]
        simp
      rw [e9] at hR2
      exact ih hkl _ hR2 (hF1.tr (gup_fr _ _ _ _))
  refine j_p (nx := 1) hJ dX2_setTo_0 rfl rfl ?_
  refine j_get (nx := 4) hJ dX2_setTo_1 rfl fX2_9 (by assumption) (by rfl) ?_
  refine j_p (nx := 5) hJ dX2_setTo_4 rfl rfl ?_
  refine j_get (nx := 8) hJ dX2_setTo_5 rfl fX2_21 (by assumption) (by rfl) ?_
  refine j_len (nx := 9) hJ dX2_setTo_8 rfl (by assumption) ?_
  refine j_min (nx := 12) hJ dX2_setTo_9 rfl mX2_36 (gle8 rfl) ?_
  rw [gmin (by omega) hlc]
  refine j_p (nx := 13) hJ dX2_setTo_12 rfl rfl ?_
  refine j_c (nx := 14) hJ dX2_setTo_13 rfl gk_iconst_0 ?_
  refine j_p (nx := 15) hJ dX2_setTo_14 rfl rfl ?_
  exact loop 0 (Nat.zero_le _) h hR gFr.rf
set_option maxHeartbeats 2000000 in
theorem r_addAll {fl : Bool} {d : Nat} {h : GH} {r q cap : Nat} {l : List Int32} (hR : gRow h r q cap l) {r2 q2 cap2 : Nat} {w : List Int32} (hW : gRow h r2 q2 cap2 w) (hA : gAp r q r2 q2) : gN fl (d + 2) yX2_addAll [.ref r, .ref r2] h (fun o h' => o = some (.int (gb (decide (l.length + w.length ≤ cap)))) ∧ (l.length + w.length ≤ cap → gRow h' r q cap (l ++ w)) ∧ (∃ l', gRow h' r q cap l') ∧ gFr r q h h') := by
  obtain ⟨hrq, hlc, hcap, hr, f, hq, hf⟩ := id hR
  obtain ⟨-, hwl, hwc, hr2, -⟩ := id hW
  refine gN.of MX2_addAll (Nat.le_of_ble_eq_true rfl) (fun J n hJ => ?_)
  show J 0 [some (.ref r), some (.ref r2), none, none] [] h (n, 0, 0, fl)
  have loop : ∀ k, k ≤ w.length → ∀ h1, l.length + k ≤ cap → gRow h1 r q cap (l ++ w.take k) → gFr r q h h1 → J 4 [some (.ref r), some (.ref r2), some (.int 1), some (.int (nI k))] [] h1 (n, 0, 0, fl) := by
    refine gloop _ _ (fun k hk ih h1 hlk hR1 hF1 => ?_)
    obtain ⟨hrq1, hlc1, hcap1, hr1, f1, hq1, hf1⟩ := id hR1
    refine j_p (nx := 5) hJ dX2_addAll_4 rfl rfl ?_
    have hW1 : gRow h1 r2 q2 cap2 w := hW.fr hF1 hA.1 hA.2.1 hA.2.2.1 hA.2.2.2
    obtain ⟨-, -, -, hr21, -⟩ := id hW1
    refine j_p (nx := 6) hJ dX2_addAll_5 rfl rfl ?_
    refine j_get (nx := 9) hJ dX2_addAll_6 rfl fX2_9 (by assumption) (by rfl) ?_
    refine j_ic_ge (nx := 12) (tgt := 32) hJ dX2_addAll_9 rfl (by decide) (fun c9 => ?_) (fun c9 => ?_)
    · refine j_p (nx := 33) hJ dX2_addAll_32 rfl rfl ?_
      rw [gnle (by omega) (by omega)] at c9
      have e0 : k = w.length := by omega
      subst e0
      rw [List.take_length] at hR1
      exact j_zret hJ true dX2_addAll_33 rfl ⟨by rw [decide_eq_true (by omega)], fun _ => hR1, ⟨_, hR1⟩, hF1⟩
    · rw [gnle (by omega) (by omega)] at c9
      have hkl : k < w.length := by omega
      refine j_p (nx := 13) hJ dX2_addAll_12 rfl rfl ?_
      refine j_if_eq (nx := 16) (tgt := 32) hJ dX2_addAll_13 rfl (by decide) (fun c13 => absurd c13 (by decide)) (fun _ => ?_)
      refine j_p (nx := 17) hJ dX2_addAll_16 rfl rfl ?_
      refine j_p (nx := 18) hJ dX2_addAll_17 rfl rfl ?_
      refine j_p (nx := 19) hJ dX2_addAll_18 rfl rfl ?_
      refine j_cvR (nx := 22) hJ dX2_addAll_19 rfl (r_at (fl := fl) (d := d) hW1 (nI k)) mX2_29 (by assumption) kX2_at rfl (gle8 rfl) ?_
      rw [gat_nI (by omega)]
      refine j_cv (nx := 25) hJ dX2_addAll_22 rfl (r_add (fl := fl) (d := d) hR1 (w.getD k (-1))) mX2_33 (by assumption) kX2_add rfl (gle8 rfl) (fun o h2 hp => ?_)
      obtain ⟨rfl, hR2, hF2⟩ := hp
      have hlt : (l ++ w.take k).length = l.length + k := by rw [List.length_append, List.length_take]; omega
      rw [hlt] at hR2 ⊢
      by_cases hroom : l.length + k < cap
      · rw [decide_eq_true hroom]
        rw [if_pos hroom] at hR2
        refine j_p (nx := 26) hJ dX2_addAll_25 rfl rfl ?_
        refine j_inc (nx := 29) hJ dX2_addAll_26 rfl rfl (gi1 k) rfl ?_
        refine j_go (tgt := 4) hJ dX2_addAll_29 (by decide) ?_
        refine ih hkl h2 (by omega) ?_ (hF1.tr hF2)
        have h9 : w[k]? = some w[k] := List.getElem?_eq_getElem hkl
        rw [List.take_succ, h9, ← List.append_assoc]
        rw [ggetD h9] at hR2
        exact hR2
      · rw [decide_eq_false hroom]
        rw [if_neg hroom] at hR2
        have hW2 : gRow h2 r2 q2 cap2 w := hW1.fr hF2 hA.1 hA.2.1 hA.2.2.1 hA.2.2.2
        obtain ⟨-, -, -, hr22, -⟩ := id hW2
        refine j_p (nx := 26) hJ dX2_addAll_25 rfl rfl ?_
        refine j_inc (nx := 29) hJ dX2_addAll_26 rfl rfl (gi1 k) rfl ?_
        refine j_go (tgt := 4) hJ dX2_addAll_29 (by decide) ?_
        refine j_p (nx := 5) hJ dX2_addAll_4 rfl rfl ?_
        refine j_p (nx := 6) hJ dX2_addAll_5 rfl rfl ?_
        refine j_get (nx := 9) hJ dX2_addAll_6 rfl fX2_9 (by assumption) (by rfl) ?_
        refine j_ic_ge (nx := 12) (tgt := 32) hJ dX2_addAll_9 rfl (by decide) (fun _ => ?_) (fun _ => ?_)
        · refine j_p (nx := 33) hJ dX2_addAll_32 rfl rfl ?_
          exact j_zret hJ false dX2_addAll_33 rfl ⟨by rw [decide_eq_false (by omega)], fun q => by omega, ⟨_, hR2⟩, hF1.tr hF2⟩
        refine j_p (nx := 13) hJ dX2_addAll_12 rfl rfl ?_
        refine j_if_eq (nx := 16) (tgt := 32) hJ dX2_addAll_13 rfl (by decide) (fun _ => ?_) (fun c13 => absurd c13 (by decide))
        refine j_p (nx := 33) hJ dX2_addAll_32 rfl rfl ?_
        exact j_zret hJ false dX2_addAll_33 rfl ⟨by rw [decide_eq_false (by omega)], fun q => by omega, ⟨_, hR2⟩, hF1.tr hF2⟩
  refine j_c (nx := 1) hJ dX2_addAll_0 rfl gk_iconst_1 ?_
  refine j_p (nx := 2) hJ dX2_addAll_1 rfl rfl ?_
  refine j_c (nx := 3) hJ dX2_addAll_2 rfl gk_iconst_0 ?_
  refine j_p (nx := 4) hJ dX2_addAll_3 rfl rfl ?_
  exact loop 0 (Nat.zero_le _) h (by omega) (by simpa using hR) gFr.rf
set_option maxHeartbeats 2000000 in
theorem r_hasRange {fl : Bool} {d : Nat} {h : GH} {r q cap : Nat} {l : List Int32} (hR : gRow h r q cap l) (i c : Int32) : gR fl (d + 1) yX2_hasRange [.ref r, .int i, .int c] h (.int (gb (gRng l.length i c))) := by
  obtain ⟨hrq, hlc, hcap, hr, f, hq, hf⟩ := id hR
  refine gN.of MX2_hasRange (Nat.le_of_ble_eq_true rfl) (fun J n hJ => ?_)
  show J 0 [some (.ref r), some (.int i), some (.int c)] [] h (n, 0, 0, fl)
  have hll : l.length < 2 ^ 31 := by omega
  refine j_p (nx := 1) hJ dX2_hasRange_0 rfl rfl ?_
  refine j_if_lt (nx := 4) (tgt := 30) hJ dX2_hasRange_1 rfl (by decide) (fun c1 => ?_) (fun c1 => ?_)
  · first | rw [gcz0] at c1 | skip
    first | rw [Int32.lt_iff_toInt_lt, nI_toInt hll] at c9 | skip
    first | rw [gcz0] at c13 | skip
    first | rw [Int32.lt_iff_toInt_lt, nI_toInt (by omega)] at c23 | skip
    refine j_c (nx := 31) hJ dX2_hasRange_30 rfl gk_iconst_0 ?_
    exact j_zret hJ (gRng l.length i c) dX2_hasRange_31 (by rw [show gRng l.length i c = false from decide_eq_false (fun q => by omega)]; rfl) ⟨rfl, rfl⟩
  · rw [gcz0] at c1
    refine j_p (nx := 5) hJ dX2_hasRange_4 rfl rfl ?_
    refine j_p (nx := 6) hJ dX2_hasRange_5 rfl rfl ?_
    refine j_get (nx := 9) hJ dX2_hasRange_6 rfl fX2_9 (by assumption) (by rfl) ?_
    refine j_ic_gt (nx := 12) (tgt := 30) hJ dX2_hasRange_9 rfl (by decide) (fun c9 => ?_) (fun c9 => ?_)
    · first | rw [gcz0] at c1 | skip
      first | rw [Int32.lt_iff_toInt_lt, nI_toInt hll] at c9 | skip
      first | rw [gcz0] at c13 | skip
      first | rw [Int32.lt_iff_toInt_lt, nI_toInt (by omega)] at c23 | skip
      refine j_c (nx := 31) hJ dX2_hasRange_30 rfl gk_iconst_0 ?_
      exact j_zret hJ (gRng l.length i c) dX2_hasRange_31 (by rw [show gRng l.length i c = false from decide_eq_false (fun q => by omega)]; rfl) ⟨rfl, rfl⟩
    · rw [Int32.lt_iff_toInt_lt, nI_toInt hll] at c9
      refine j_p (nx := 13) hJ dX2_hasRange_12 rfl rfl ?_
      refine j_if_lt (nx := 16) (tgt := 30) hJ dX2_hasRange_13 rfl (by decide) (fun c13 => ?_) (fun c13 => ?_)
      · first | rw [gcz0] at c1 | skip
        first | rw [Int32.lt_iff_toInt_lt, nI_toInt hll] at c9 | skip
        first | rw [gcz0] at c13 | skip
        first | rw [Int32.lt_iff_toInt_lt, nI_toInt (by omega)] at c23 | skip
        refine j_c (nx := 31) hJ dX2_hasRange_30 rfl gk_iconst_0 ?_
        exact j_zret hJ (gRng l.length i c) dX2_hasRange_31 (by rw [show gRng l.length i c = false from decide_eq_false (fun q => by omega)]; rfl) ⟨rfl, rfl⟩
      · rw [gcz0] at c13
        refine j_p (nx := 17) hJ dX2_hasRange_16 rfl rfl ?_
        refine j_p (nx := 18) hJ dX2_hasRange_17 rfl rfl ?_
        refine j_get (nx := 21) hJ dX2_hasRange_18 rfl fX2_9 (by assumption) (by rfl) ?_
        refine j_p (nx := 22) hJ dX2_hasRange_21 rfl rfl ?_
        refine j_p (nx := 23) hJ dX2_hasRange_22 rfl rfl ?_
        have e9 : nI l.length - i = nI (l.length - i.toInt.toNat) := by
          have := gsub (a := l.length) (b := i.toInt.toNat) (by omega)
          rw [← gnat (by omega)] at this
          exact this
        rw [e9]
        refine j_ic_gt (nx := 26) (tgt := 30) hJ dX2_hasRange_23 rfl (by decide) (fun c23 => ?_) (fun c23 => ?_)
        · first | rw [gcz0] at c1 | skip
          first | rw [Int32.lt_iff_toInt_lt, nI_toInt hll] at c9 | skip
          first | rw [gcz0] at c13 | skip
          first | rw [Int32.lt_iff_toInt_lt, nI_toInt (by omega)] at c23 | skip
          refine j_c (nx := 31) hJ dX2_hasRange_30 rfl gk_iconst_0 ?_
          exact j_zret hJ (gRng l.length i c) dX2_hasRange_31 (by rw [show gRng l.length i c = false from decide_eq_false (fun q => by omega)]; rfl) ⟨rfl, rfl⟩
        · rw [Int32.lt_iff_toInt_lt, nI_toInt (by omega)] at c23
          refine j_c (nx := 27) hJ dX2_hasRange_26 rfl gk_iconst_1 ?_
          refine j_go (tgt := 31) hJ dX2_hasRange_27 (by decide) ?_
          exact j_zret hJ (gRng l.length i c) dX2_hasRange_31 (by rw [show gRng l.length i c = true from decide_eq_true ⟨by omega, by omega, by omega⟩]; rfl) ⟨rfl, rfl⟩
