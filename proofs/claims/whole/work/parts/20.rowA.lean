theorem gb_f {b : Bool} : gb b = 0 ↔ b = false := by cases b <;> decide
theorem gb_t {b : Bool} : ¬ gb b = 0 ↔ b = true := by cases b <;> decide
theorem gix_nI {l : List Int32} {k : Nat} (hk : k < 2 ^ 31) : gix l (nI k) = decide (k < l.length) := by
  unfold gix
  rw [nI_toInt hk]
  by_cases h : k < l.length
  · rw [decide_eq_true h]; exact decide_eq_true ⟨by omega, by omega⟩
  · rw [decide_eq_false h]; exact decide_eq_false (fun q => by omega)
theorem gRow.push {h : GH} {r q cap : Nat} {l : List Int32} {f : Nat → Int32} (hrq : r ≠ q) (hl : l.length < cap) (hc : cap ≤ 1000) (hf : ∀ (i : Nat) (v : Int32), l[i]? = some v → f i = v) (v : Int32) :
    gRow (gup (gup h q (gia cap (upd f l.length v))) r (gob 2 [.ref q, .int (nI l.length + 1)])) r q cap (l ++ [v]) := by
  refine ⟨hrq, by simp; omega, hc, ?_, upd f l.length v, ?_, fun i w hw => ?_⟩
  · rw [gup_same, List.length_append]
    show _ = some (gob 2 [.ref q, .int (nI (l.length + 1))])
    rw [nI_succ]
  · rw [gup_ne _ _ (Ne.symm hrq), gup_same]
  · unfold upd
    by_cases hi : i = l.length
    · subst hi
      rw [if_pos rfl]
      simp at hw
      exact hw
    · rw [if_neg hi]
      have hlt : i < l.length := by
        have := (List.getElem?_eq_some_iff.mp hw).1
        simp at this
        omega
      rw [List.getElem?_append_left hlt] at hw
      exact hf i w hw
theorem gup2_fr (h : GH) (r q : Nat) (c c2 : GC) : gFr r q h (gup (gup h q c) r c2) := fun a h1 h2 => by rw [gup_ne _ _ h1, gup_ne _ _ h2]
theorem gRow.cut {h : GH} {r q cap : Nat} {l : List Int32} (hR : gRow h r q cap l) (k : Nat) (hk : k ≤ l.length) : gRow (gup h r (gob 2 [.ref q, .int (nI k)])) r q cap (l.take k) := by
  obtain ⟨hrq, hlc, hcap, hr, f, hq, hf⟩ := hR
  have hl : (l.take k).length = k := by rw [List.length_take]; omega
  refine ⟨hrq, by omega, hcap, ?_, f, ?_, fun i v hv => ?_⟩
  · rw [gup_same, hl]
  · rw [gup_ne _ _ (Ne.symm hrq)]; exact hq
  · rw [List.getElem?_take] at hv
    split at hv
    · exact hf i v hv
    · cases hv
set_option maxHeartbeats 1000000 in
theorem r_hasIndex {fl : Bool} {d : Nat} {h : GH} {r q cap : Nat} {l : List Int32} (hR : gRow h r q cap l) (i : Int32) : gR fl (d + 1) yX2_hasIndex [.ref r, .int i] h (.int (gb (gix l i))) := by
  obtain ⟨hrq, hlc, hcap, hr, f, hq, hf⟩ := id hR
  refine gN.of MX2_hasIndex (Nat.le_of_ble_eq_true rfl) (fun J n hJ => ?_)
  show J 0 [some (.ref r), some (.int i)] [] h (n, 0, 0, fl)
  refine j_p (nx := 1) hJ dX2_hasIndex_0 rfl rfl ?_
  refine j_if_lt (nx := 4) (tgt := 25) hJ dX2_hasIndex_1 rfl (by decide) (fun c1 => ?_) (fun c1 => ?_)
  · refine j_c (nx := 26) hJ dX2_hasIndex_25 rfl gk_iconst_0 ?_
    exact j_zret hJ (gix l i) dX2_hasIndex_26 (by rw [show gix l i = false by first | exact gix_f1 c1 | exact gix_f2 (by omega) (Nat.le_refl _) c9 | exact gix_f2 (by omega) hlc c18]; rfl) ⟨rfl, rfl⟩
  · refine j_p (nx := 5) hJ dX2_hasIndex_4 rfl rfl ?_
    refine j_p (nx := 6) hJ dX2_hasIndex_5 rfl rfl ?_
    refine j_get (nx := 9) hJ dX2_hasIndex_6 rfl fX2_9 (by assumption) (by rfl) ?_
    refine j_ic_ge (nx := 12) (tgt := 25) hJ dX2_hasIndex_9 rfl (by decide) (fun c9 => ?_) (fun c9 => ?_)
    · refine j_c (nx := 26) hJ dX2_hasIndex_25 rfl gk_iconst_0 ?_
      exact j_zret hJ (gix l i) dX2_hasIndex_26 (by rw [show gix l i = false by first | exact gix_f1 c1 | exact gix_f2 (by omega) (Nat.le_refl _) c9 | exact gix_f2 (by omega) hlc c18]; rfl) ⟨rfl, rfl⟩
    · refine j_p (nx := 13) hJ dX2_hasIndex_12 rfl rfl ?_
      refine j_p (nx := 14) hJ dX2_hasIndex_13 rfl rfl ?_
      refine j_get (nx := 17) hJ dX2_hasIndex_14 rfl fX2_21 (by assumption) (by rfl) ?_
      refine j_len (nx := 18) hJ dX2_hasIndex_17 rfl (by assumption) ?_
      refine j_ic_ge (nx := 21) (tgt := 25) hJ dX2_hasIndex_18 rfl (by decide) (fun c18 => ?_) (fun c18 => ?_)
      · refine j_c (nx := 26) hJ dX2_hasIndex_25 rfl gk_iconst_0 ?_
        exact j_zret hJ (gix l i) dX2_hasIndex_26 (by rw [show gix l i = false by first | exact gix_f1 c1 | exact gix_f2 (by omega) (Nat.le_refl _) c9 | exact gix_f2 (by omega) hlc c18]; rfl) ⟨rfl, rfl⟩
      · refine j_c (nx := 22) hJ dX2_hasIndex_21 rfl gk_iconst_1 ?_
        refine j_go (tgt := 26) hJ dX2_hasIndex_22 (by decide) ?_
        exact j_zret hJ (gix l i) dX2_hasIndex_26 (by rw [show gix l i = true by exact gix_t (by omega) c1 c9]; rfl) ⟨rfl, rfl⟩
set_option maxHeartbeats 1000000 in
theorem r_at {fl : Bool} {d : Nat} {h : GH} {r q cap : Nat} {l : List Int32} (hR : gRow h r q cap l) (i : Int32) : gR fl (d + 1) yX2_at [.ref r, .int i] h (.int (gat l i)) := by
  obtain ⟨hrq, hlc, hcap, hr, f, hq, hf⟩ := id hR
  refine gN.of MX2_at (Nat.le_of_ble_eq_true rfl) (fun J n hJ => ?_)
  show J 0 [some (.ref r), some (.int i), none] [] h (n, 0, 0, fl)
  refine j_p (nx := 1) hJ dX2_at_0 rfl rfl ?_
  refine j_if_lt (nx := 4) (tgt := 25) hJ dX2_at_1 rfl (by decide) (fun c1 => ?_) (fun c1 => ?_)
  · refine j_c (nx := 26) hJ dX2_at_25 rfl gk_iconst_0 ?_
    refine j_p (nx := 27) hJ dX2_at_26 rfl rfl ?_
    refine j_p (nx := 28) hJ dX2_at_27 rfl rfl ?_
    refine j_if_eq (nx := 31) (tgt := 40) hJ dX2_at_28 rfl (by decide) (fun _ => ?_) (fun c28 => absurd c28 (by decide))
    refine j_c (nx := 41) hJ dX2_at_40 rfl gk_iconst_m1 ?_
    exact j_iret hJ dX2_at_41 ⟨by rw [gat_f (by first | exact gix_f1 c1 | exact gix_f2 (by omega) (Nat.le_refl _) c9 | exact gix_f2 (by omega) hlc c18)], rfl⟩
  · refine j_p (nx := 5) hJ dX2_at_4 rfl rfl ?_
    refine j_p (nx := 6) hJ dX2_at_5 rfl rfl ?_
    refine j_get (nx := 9) hJ dX2_at_6 rfl fX2_9 (by assumption) (by rfl) ?_
    refine j_ic_ge (nx := 12) (tgt := 25) hJ dX2_at_9 rfl (by decide) (fun c9 => ?_) (fun c9 => ?_)
    · refine j_c (nx := 26) hJ dX2_at_25 rfl gk_iconst_0 ?_
      refine j_p (nx := 27) hJ dX2_at_26 rfl rfl ?_
      refine j_p (nx := 28) hJ dX2_at_27 rfl rfl ?_
      refine j_if_eq (nx := 31) (tgt := 40) hJ dX2_at_28 rfl (by decide) (fun _ => ?_) (fun c28 => absurd c28 (by decide))
      refine j_c (nx := 41) hJ dX2_at_40 rfl gk_iconst_m1 ?_
      exact j_iret hJ dX2_at_41 ⟨by rw [gat_f (by first | exact gix_f1 c1 | exact gix_f2 (by omega) (Nat.le_refl _) c9 | exact gix_f2 (by omega) hlc c18)], rfl⟩
    · refine j_p (nx := 13) hJ dX2_at_12 rfl rfl ?_
      refine j_p (nx := 14) hJ dX2_at_13 rfl rfl ?_
      refine j_get (nx := 17) hJ dX2_at_14 rfl fX2_21 (by assumption) (by rfl) ?_
      refine j_len (nx := 18) hJ dX2_at_17 rfl (by assumption) ?_
      refine j_ic_ge (nx := 21) (tgt := 25) hJ dX2_at_18 rfl (by decide) (fun c18 => ?_) (fun c18 => ?_)
      · refine j_c (nx := 26) hJ dX2_at_25 rfl gk_iconst_0 ?_
        refine j_p (nx := 27) hJ dX2_at_26 rfl rfl ?_
        refine j_p (nx := 28) hJ dX2_at_27 rfl rfl ?_
        refine j_if_eq (nx := 31) (tgt := 40) hJ dX2_at_28 rfl (by decide) (fun _ => ?_) (fun c28 => absurd c28 (by decide))
        refine j_c (nx := 41) hJ dX2_at_40 rfl gk_iconst_m1 ?_
        exact j_iret hJ dX2_at_41 ⟨by rw [gat_f (by first | exact gix_f1 c1 | exact gix_f2 (by omega) (Nat.le_refl _) c9 | exact gix_f2 (by omega) hlc c18)], rfl⟩
      · refine j_c (nx := 22) hJ dX2_at_21 rfl gk_iconst_1 ?_
        refine j_go (tgt := 26) hJ dX2_at_22 (by decide) ?_
        refine j_p (nx := 27) hJ dX2_at_26 rfl rfl ?_
        refine j_p (nx := 28) hJ dX2_at_27 rfl rfl ?_
        refine j_if_eq (nx := 31) (tgt := 40) hJ dX2_at_28 rfl (by decide) (fun c28 => absurd c28 (by decide)) (fun _ => ?_)
        refine j_p (nx := 32) hJ dX2_at_31 rfl rfl ?_
        refine j_get (nx := 35) hJ dX2_at_32 rfl fX2_21 (by assumption) (by rfl) ?_
        refine j_p (nx := 36) hJ dX2_at_35 rfl rfl ?_
        obtain ⟨k, ek, hk, eg⟩ := gix_spec (gix_t (by omega) c1 c9)
        refine j_iald (j := k) (nx := 37) hJ dX2_at_36 rfl hq ek (by omega) (by omega) ?_
        refine j_go (tgt := 41) hJ dX2_at_37 (by decide) ?_
        exact j_iret hJ dX2_at_41 ⟨by rw [eg, ← grow_get hf hk], rfl⟩
set_option maxHeartbeats 1000000 in
theorem r_put {fl : Bool} {d : Nat} {h : GH} {r q cap : Nat} {l : List Int32} (hR : gRow h r q cap l) {j : Nat} (hj : j < 2 ^ 31) (v : Int32) : gN fl (d + 2) yX2_put [.ref r, .int (nI j), .int v] h (fun o h' => o = none ∧ gRow h' r q cap (l.set j v) ∧ gFr r q h h') := by
  obtain ⟨hrq, hlc, hcap, hr, f, hq, hf⟩ := id hR
  refine gN.of MX2_put (Nat.le_of_ble_eq_true rfl) (fun J n hJ => ?_)
  show J 0 [some (.ref r), some (.int (nI j)), some (.int v)] [] h (n, 0, 0, fl)
  refine j_p (nx := 1) hJ dX2_put_0 rfl rfl ?_
  refine j_p (nx := 2) hJ dX2_put_1 rfl rfl ?_
  refine j_cvR (nx := 5) hJ dX2_put_2 rfl (r_hasIndex (fl := fl) (d := d) hR (nI j)) mX2_25 (by assumption) kX2_hasIndex rfl (gle8 rfl) ?_
  refine j_if_eq (nx := 8) (tgt := 15) hJ dX2_put_5 rfl (by decide) (fun c5 => ?_) (fun c5 => ?_)
  · rw [gb_f, gix_nI hj] at c5
    have hjl := of_decide_eq_false c5
    exact j_vret hJ dX2_put_15 ⟨rfl, by rw [List.set_eq_of_length_le (by omega)]; exact hR, gFr.rf⟩
  · rw [gb_t, gix_nI hj] at c5
    have hjl := of_decide_eq_true c5
    refine j_p (nx := 9) hJ dX2_put_8 rfl rfl ?_
    refine j_get (nx := 12) hJ dX2_put_9 rfl fX2_21 (by assumption) (by rfl) ?_
    refine j_p (nx := 13) hJ dX2_put_12 rfl rfl ?_
    refine j_p (nx := 14) hJ dX2_put_13 rfl rfl ?_
    refine j_iast (j := j) (nx := 15) hJ dX2_put_14 rfl hq rfl (by omega) (by omega) ?_
    exact j_vret hJ dX2_put_15 ⟨rfl, gRow.set hrq hlc hcap hr hf v, gup_fr _ _ _ _⟩
set_option maxHeartbeats 1000000 in
theorem r_add {fl : Bool} {d : Nat} {h : GH} {r q cap : Nat} {l : List Int32} (hR : gRow h r q cap l) (v : Int32) : gN fl (d + 1) yX2_add [.ref r, .int v] h (fun o h' => o = some (.int (gb (decide (l.length < cap)))) ∧ gRow h' r q cap (if l.length < cap then l ++ [v] else l) ∧ gFr r q h h') := by
  obtain ⟨hrq, hlc, hcap, hr, f, hq, hf⟩ := id hR
  refine gN.of MX2_add (Nat.le_of_ble_eq_true rfl) (fun J n hJ => ?_)
  show J 0 [some (.ref r), some (.int v)] [] h (n, 0, 0, fl)
  refine j_p (nx := 1) hJ dX2_add_0 rfl rfl ?_
  refine j_get (nx := 4) hJ dX2_add_1 rfl fX2_9 (by assumption) (by rfl) ?_
  refine j_if_lt (nx := 7) (tgt := 19) hJ dX2_add_4 rfl (by decide) (fun c4 => absurd c4 (nI_pos (by omega))) (fun c4 => ?_)
  refine j_p (nx := 8) hJ dX2_add_7 rfl rfl ?_
  refine j_get (nx := 11) hJ dX2_add_8 rfl fX2_9 (by assumption) (by rfl) ?_
  refine j_p (nx := 12) hJ dX2_add_11 rfl rfl ?_
  refine j_get (nx := 15) hJ dX2_add_12 rfl fX2_21 (by assumption) (by rfl) ?_
  refine j_len (nx := 16) hJ dX2_add_15 rfl (by assumption) ?_
  refine j_ic_lt (nx := 19) (tgt := 21) hJ dX2_add_16 rfl (by decide) (fun c16 => ?_) (fun c16 => ?_)
  · rw [gnlt (by omega) (by omega)] at c16
    refine j_p (nx := 22) hJ dX2_add_21 rfl rfl ?_
    refine j_get (nx := 25) hJ dX2_add_22 rfl fX2_21 (by assumption) (by rfl) ?_
    refine j_p (nx := 26) hJ dX2_add_25 rfl rfl ?_
    refine j_get (nx := 29) hJ dX2_add_26 rfl fX2_9 (by assumption) (by rfl) ?_
    refine j_p (nx := 30) hJ dX2_add_29 rfl rfl ?_
    refine j_iast (j := l.length) (nx := 31) hJ dX2_add_30 rfl hq rfl c16 (by omega) ?_
    refine j_p (nx := 32) hJ dX2_add_31 rfl rfl ?_
    refine j_p (nx := 33) hJ dX2_add_32 rfl rfl ?_
    refine j_get (nx := 36) hJ dX2_add_33 rfl fX2_9 (by rw [gup_ne _ _ hrq]; exact hr) (by rfl) ?_
    refine j_c (nx := 37) hJ dX2_add_36 rfl gk_iconst_1 ?_
    refine j_p (nx := 38) hJ dX2_add_37 rfl rfl ?_
    refine j_put (nx := 41) hJ dX2_add_38 rfl fX2_9 (zX2_1 _) (by rw [gup_ne _ _ hrq]; exact hr) (Nat.le_of_ble_eq_true rfl) ?_
    refine j_c (nx := 42) hJ dX2_add_41 rfl gk_iconst_1 ?_
    exact j_zret hJ true dX2_add_42 rfl ⟨by rw [decide_eq_true c16], by rw [if_pos c16]; exact gRow.push hrq c16 hcap hf v, gup2_fr _ _ _ _ _⟩
  · rw [gnlt (by omega) (by omega)] at c16
    refine j_c (nx := 20) hJ dX2_add_19 rfl gk_iconst_0 ?_
    exact j_zret hJ false dX2_add_20 rfl ⟨by rw [decide_eq_false c16], by rw [if_neg c16]; exact hR, gFr.rf⟩
set_option maxHeartbeats 1000000 in
theorem r_clear {fl : Bool} {d : Nat} {h : GH} {r q cap : Nat} {l : List Int32} (hR : gRow h r q cap l) : gN fl (d + 1) yX2_clear [.ref r] h (fun o h' => o = none ∧ gRow h' r q cap [] ∧ gFr r q h h') := by
  obtain ⟨hrq, hlc, hcap, hr, f, hq, hf⟩ := id hR
  refine gN.of MX2_clear (Nat.le_of_ble_eq_true rfl) (fun J n hJ => ?_)
  show J 0 [some (.ref r)] [] h (n, 0, 0, fl)
  refine j_p (nx := 1) hJ dX2_clear_0 rfl rfl ?_
  refine j_c (nx := 2) hJ dX2_clear_1 rfl gk_iconst_0 ?_
  refine j_put (nx := 5) hJ dX2_clear_2 rfl fX2_9 (zX2_1 _) hr (Nat.le_of_ble_eq_true rfl) ?_
  exact j_vret hJ dX2_clear_5 ⟨rfl, (gRow.cut hR 0 (Nat.zero_le _)), gup_fr' _ _ _ _⟩
set_option maxHeartbeats 1000000 in
theorem r_removeLast {fl : Bool} {d : Nat} {h : GH} {r q cap : Nat} {l : List Int32} (hR : gRow h r q cap l) : gN fl (d + 1) yX2_removeLast [.ref r] h (fun o h' => o = none ∧ gRow h' r q cap l.dropLast ∧ gFr r q h h') := by
  obtain ⟨hrq, hlc, hcap, hr, f, hq, hf⟩ := id hR
  refine gN.of MX2_removeLast (Nat.le_of_ble_eq_true rfl) (fun J n hJ => ?_)
  show J 0 [some (.ref r)] [] h (n, 0, 0, fl)
  refine j_p (nx := 1) hJ dX2_removeLast_0 rfl rfl ?_
  refine j_get (nx := 4) hJ dX2_removeLast_1 rfl fX2_9 (by assumption) (by rfl) ?_
  refine j_if_le (nx := 7) (tgt := 17) hJ dX2_removeLast_4 rfl (by decide) (fun c4 => ?_) (fun c4 => ?_)
  · rw [Int32.le_iff_toInt_le, Int32.toInt_zero, nI_toInt (by omega)] at c4
    have hz : l = [] := List.eq_nil_of_length_eq_zero (by omega)
    subst hz
    exact j_vret hJ dX2_removeLast_17 ⟨rfl, hR, gFr.rf⟩
  · refine j_p (nx := 8) hJ dX2_removeLast_7 rfl rfl ?_
    refine j_p (nx := 9) hJ dX2_removeLast_8 rfl rfl ?_
    refine j_get (nx := 12) hJ dX2_removeLast_9 rfl fX2_9 (by assumption) (by rfl) ?_
    refine j_c (nx := 13) hJ dX2_removeLast_12 rfl gk_iconst_1 ?_
    refine j_p (nx := 14) hJ dX2_removeLast_13 rfl rfl ?_
    rw [Int32.le_iff_toInt_le, Int32.toInt_zero, nI_toInt (by omega)] at c4
    have hz : nI l.length - 1 = nI (l.length - 1) := gsub (b := 1) (by omega)
    rw [hz]
    refine j_put (nx := 17) hJ dX2_removeLast_14 rfl fX2_9 (zX2_1 _) hr (Nat.le_of_ble_eq_true rfl) ?_
    exact j_vret hJ dX2_removeLast_17 ⟨rfl, by rw [List.dropLast_eq_take]; exact gRow.cut hR (l.length - 1) (by omega), gup_fr' _ _ _ _⟩
