/-- the matcher: least size, spare, number of variables, uses; its bindings -/
def gMatS (h : GH) (env : GV) (L spare nv : Nat) (us : Nat → Nat) : Prop :=
  h 126 = some (gob 1 [.ref 127, .ref 128, .ref 129, .int (nI nv), .int (nI L), .int (nI spare)]) ∧ ∃ fs fz fu : Nat → Int32, h 127 = some (gia 4 fs) ∧ h 128 = some (gia 4 fz) ∧ h 129 = some (gia 4 fu) ∧ (∀ v, v < 4 → fu v = nI (us v)) ∧ ∀ v, v < 4 → (env v = none → fz v = -1) ∧ ∀ a n, env v = some (a, n) → fz v = nI n ∧ fs v = nI a
set_option maxHeartbeats 2000000 in
theorem r_canComeOutS {fl : Bool} {d : Nat} {h : GH} {env : GV} {L spare nv : Nat} {us : Nat → Nat} (hM : gMatS h env L spare nv us) (hsp : spare < 2 ^ 31) (hnv : nv < 2 ^ 31) (z : Int32) : gR fl (d + 1) yX1_canComeOut [.ref 126, .int z] h (.int (gb (decide (0 ≤ z.toInt ∧ (0 < nv ∨ z.toInt ≤ (spare : Int)))))) := by
  obtain ⟨h76, -⟩ := id hM
  refine gN.of MX1_canComeOut (Nat.le_of_ble_eq_true rfl) (fun J n hJ => ?_)
  show J 0 [some (.ref 126), some (.int z)] [] h (n, 0, 0, fl)
  refine j_p (nx := 1) hJ dX1_canComeOut_0 rfl rfl ?_
  refine j_if_lt (nx := 4) (tgt := 23) hJ dX1_canComeOut_1 rfl (by decide) (fun c1 => ?_) (fun c1 => ?_)
  · first | rw [gcz0] at c1 | skip
    first | rw [Int32.lt_iff_toInt_lt, Int32.toInt_zero, nI_toInt hnv] at c8 | skip
    first | rw [Int32.lt_iff_toInt_lt, nI_toInt hsp] at c16 | skip
    refine j_c (nx := 24) hJ dX1_canComeOut_23 rfl gk_iconst_0 ?_
    exact j_zret hJ false dX1_canComeOut_24 rfl ⟨by rw [decide_eq_false (fun q => by omega)], rfl⟩
  · rw [gcz0] at c1
    refine j_p (nx := 5) hJ dX1_canComeOut_4 rfl rfl ?_
    refine j_get (nx := 8) hJ dX1_canComeOut_5 rfl fX1_65 (by assumption) (by rfl) ?_
    refine j_if_gt (nx := 11) (tgt := 19) hJ dX1_canComeOut_8 rfl (by decide) (fun c8 => ?_) (fun c8 => ?_)
    · first | rw [Int32.lt_iff_toInt_lt, Int32.toInt_zero, nI_toInt hnv] at c8 | skip
      first | rw [Int32.lt_iff_toInt_lt, nI_toInt hsp] at c16 | skip
      refine j_c (nx := 20) hJ dX1_canComeOut_19 rfl gk_iconst_1 ?_
      refine j_go (tgt := 24) hJ dX1_canComeOut_20 (by decide) ?_
      exact j_zret hJ true dX1_canComeOut_24 rfl ⟨by rw [decide_eq_true ⟨by omega, by omega⟩], rfl⟩
    · refine j_p (nx := 12) hJ dX1_canComeOut_11 rfl rfl ?_
      refine j_p (nx := 13) hJ dX1_canComeOut_12 rfl rfl ?_
      refine j_get (nx := 16) hJ dX1_canComeOut_13 rfl fX1_35 (by assumption) (by rfl) ?_
      refine j_ic_gt (nx := 19) (tgt := 23) hJ dX1_canComeOut_16 rfl (by decide) (fun c16 => ?_) (fun c16 => ?_)
      · first | rw [gcz0] at c1 | skip
        first | rw [Int32.lt_iff_toInt_lt, Int32.toInt_zero, nI_toInt hnv] at c8 | skip
        first | rw [Int32.lt_iff_toInt_lt, nI_toInt hsp] at c16 | skip
        refine j_c (nx := 24) hJ dX1_canComeOut_23 rfl gk_iconst_0 ?_
        exact j_zret hJ false dX1_canComeOut_24 rfl ⟨by rw [decide_eq_false (fun q => by omega)], rfl⟩
      · first | rw [Int32.lt_iff_toInt_lt, Int32.toInt_zero, nI_toInt hnv] at c8 | skip
        first | rw [Int32.lt_iff_toInt_lt, nI_toInt hsp] at c16 | skip
        refine j_c (nx := 20) hJ dX1_canComeOut_19 rfl gk_iconst_1 ?_
        refine j_go (tgt := 24) hJ dX1_canComeOut_20 (by decide) ?_
        exact j_zret hJ true dX1_canComeOut_24 rfl ⟨by rw [decide_eq_true ⟨by omega, by omega⟩], rfl⟩
