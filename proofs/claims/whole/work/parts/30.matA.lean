def gbt (v : Int32) (n : Nat) : Bool := decide (0 ≤ v.toInt ∧ v.toInt < (n : Int))
theorem glit (n : Nat) (h : n < 2 ^ 31) : (nI n).toInt = (n : Int) := nI_toInt h
theorem gbt_nI {k n : Nat} (hk : k < 2 ^ 31) : gbt (nI k) n = decide (k < n) := by
  unfold gbt
  rw [nI_toInt hk]
  by_cases h : k < n
  · rw [decide_eq_true h]; exact decide_eq_true ⟨by omega, by omega⟩
  · rw [decide_eq_false h]; exact decide_eq_false (fun q => by omega)
theorem gbt_spec {v : Int32} {n : Nat} (h : gbt v n = true) : ∃ k, v = nI k ∧ k < n := by
  have h1 := of_decide_eq_true h
  exact ⟨v.toInt.toNat, gnat h1.1, by omega⟩
def gmd (v : Int32) : Bool := decide (v = 0 ∨ v = 1)
set_option maxHeartbeats 2000000 in
theorem r_isVariable {fl : Bool} {d : Nat} {h : GH} (v : Int32) : gR fl (d + 1) yX5_isVariable [.int v] h (.int (gb (gbt v 4))) := by
  refine gN.of MX5_isVariable (Nat.le_of_ble_eq_true rfl) (fun J n hJ => ?_)
  show J 0 [some (.int v)] [] h (n, 0, 0, fl)
  refine j_p (nx := 1) hJ dX5_isVariable_0 rfl rfl ?_
  refine j_if_lt (nx := 4) (tgt := 13) hJ dX5_isVariable_1 rfl (by decide) (fun c1 => ?_) (fun c1 => ?_)
  · first | rw [gcz0] at c1 | skip
    first | rw [Int32.le_iff_toInt_le, (show (4 : Int32).toInt = 4 by decide)] at c6 | skip
    refine j_c (nx := 14) hJ dX5_isVariable_13 rfl gk_iconst_0 ?_
    exact j_zret hJ (gbt v 4) dX5_isVariable_14 (by rw [show gbt v 4 = false from decide_eq_false (fun q => by omega)]; rfl) ⟨rfl, rfl⟩
  · rw [gcz0] at c1
    refine j_p (nx := 5) hJ dX5_isVariable_4 rfl rfl ?_
    refine j_c (nx := 6) hJ dX5_isVariable_5 rfl gk_iconst_4 ?_
    refine j_ic_ge (nx := 9) (tgt := 13) hJ dX5_isVariable_6 rfl (by decide) (fun c6 => ?_) (fun c6 => ?_)
    · first | rw [gcz0] at c1 | skip
      first | rw [Int32.le_iff_toInt_le, (show (4 : Int32).toInt = 4 by decide)] at c6 | skip
      refine j_c (nx := 14) hJ dX5_isVariable_13 rfl gk_iconst_0 ?_
      exact j_zret hJ (gbt v 4) dX5_isVariable_14 (by rw [show gbt v 4 = false from decide_eq_false (fun q => by omega)]; rfl) ⟨rfl, rfl⟩
    · rw [Int32.le_iff_toInt_le, (show (4 : Int32).toInt = 4 by decide)] at c6
      refine j_c (nx := 10) hJ dX5_isVariable_9 rfl gk_iconst_1 ?_
      refine j_go (tgt := 14) hJ dX5_isVariable_10 (by decide) ?_
      exact j_zret hJ (gbt v 4) dX5_isVariable_14 (by rw [show gbt v 4 = true from decide_eq_true ⟨by omega, by omega⟩]; rfl) ⟨rfl, rfl⟩
set_option maxHeartbeats 2000000 in
theorem r_isRegister {fl : Bool} {d : Nat} {h : GH} (v : Int32) : gR fl (d + 1) yX5_isRegister [.int v] h (.int (gb (gbt v 6))) := by
  refine gN.of MX5_isRegister (Nat.le_of_ble_eq_true rfl) (fun J n hJ => ?_)
  show J 0 [some (.int v)] [] h (n, 0, 0, fl)
  refine j_p (nx := 1) hJ dX5_isRegister_0 rfl rfl ?_
  refine j_if_lt (nx := 4) (tgt := 14) hJ dX5_isRegister_1 rfl (by decide) (fun c1 => ?_) (fun c1 => ?_)
  · first | rw [gcz0] at c1 | skip
    first | rw [Int32.le_iff_toInt_le, (show (6 : Int32).toInt = 6 by decide)] at c7 | skip
    refine j_c (nx := 15) hJ dX5_isRegister_14 rfl gk_iconst_0 ?_
    exact j_zret hJ (gbt v 6) dX5_isRegister_15 (by rw [show gbt v 6 = false from decide_eq_false (fun q => by omega)]; rfl) ⟨rfl, rfl⟩
  · rw [gcz0] at c1
    refine j_p (nx := 5) hJ dX5_isRegister_4 rfl rfl ?_
    refine j_c (nx := 7) hJ dX5_isRegister_5 rfl gk_bipush_6 ?_
    refine j_ic_ge (nx := 10) (tgt := 14) hJ dX5_isRegister_7 rfl (by decide) (fun c7 => ?_) (fun c7 => ?_)
    · first | rw [gcz0] at c1 | skip
      first | rw [Int32.le_iff_toInt_le, (show (6 : Int32).toInt = 6 by decide)] at c7 | skip
      refine j_c (nx := 15) hJ dX5_isRegister_14 rfl gk_iconst_0 ?_
      exact j_zret hJ (gbt v 6) dX5_isRegister_15 (by rw [show gbt v 6 = false from decide_eq_false (fun q => by omega)]; rfl) ⟨rfl, rfl⟩
    · rw [Int32.le_iff_toInt_le, (show (6 : Int32).toInt = 6 by decide)] at c7
      refine j_c (nx := 11) hJ dX5_isRegister_10 rfl gk_iconst_1 ?_
      refine j_go (tgt := 15) hJ dX5_isRegister_11 (by decide) ?_
      exact j_zret hJ (gbt v 6) dX5_isRegister_15 (by rw [show gbt v 6 = true from decide_eq_true ⟨by omega, by omega⟩]; rfl) ⟨rfl, rfl⟩
set_option maxHeartbeats 2000000 in
theorem r_isSlot {fl : Bool} {d : Nat} {h : GH} (v : Int32) : gR fl (d + 1) yX5_isSlot [.int v] h (.int (gb (gbt v 4))) := by
  refine gN.of MX5_isSlot (Nat.le_of_ble_eq_true rfl) (fun J n hJ => ?_)
  show J 0 [some (.int v)] [] h (n, 0, 0, fl)
  refine j_p (nx := 1) hJ dX5_isSlot_0 rfl rfl ?_
  refine j_if_lt (nx := 4) (tgt := 13) hJ dX5_isSlot_1 rfl (by decide) (fun c1 => ?_) (fun c1 => ?_)
  · first | rw [gcz0] at c1 | skip
    first | rw [Int32.le_iff_toInt_le, (show (4 : Int32).toInt = 4 by decide)] at c6 | skip
    refine j_c (nx := 14) hJ dX5_isSlot_13 rfl gk_iconst_0 ?_
    exact j_zret hJ (gbt v 4) dX5_isSlot_14 (by rw [show gbt v 4 = false from decide_eq_false (fun q => by omega)]; rfl) ⟨rfl, rfl⟩
  · rw [gcz0] at c1
    refine j_p (nx := 5) hJ dX5_isSlot_4 rfl rfl ?_
    refine j_c (nx := 6) hJ dX5_isSlot_5 rfl gk_iconst_4 ?_
    refine j_ic_ge (nx := 9) (tgt := 13) hJ dX5_isSlot_6 rfl (by decide) (fun c6 => ?_) (fun c6 => ?_)
    · first | rw [gcz0] at c1 | skip
      first | rw [Int32.le_iff_toInt_le, (show (4 : Int32).toInt = 4 by decide)] at c6 | skip
      refine j_c (nx := 14) hJ dX5_isSlot_13 rfl gk_iconst_0 ?_
      exact j_zret hJ (gbt v 4) dX5_isSlot_14 (by rw [show gbt v 4 = false from decide_eq_false (fun q => by omega)]; rfl) ⟨rfl, rfl⟩
    · rw [Int32.le_iff_toInt_le, (show (4 : Int32).toInt = 4 by decide)] at c6
      refine j_c (nx := 10) hJ dX5_isSlot_9 rfl gk_iconst_1 ?_
      refine j_go (tgt := 14) hJ dX5_isSlot_10 (by decide) ?_
      exact j_zret hJ (gbt v 4) dX5_isSlot_14 (by rw [show gbt v 4 = true from decide_eq_true ⟨by omega, by omega⟩]; rfl) ⟨rfl, rfl⟩
set_option maxHeartbeats 2000000 in
theorem r_isMode {fl : Bool} {d : Nat} {h : GH} (v : Int32) : gR fl (d + 1) yX5_isMode [.int v] h (.int (gb (gmd v))) := by
  refine gN.of MX5_isMode (Nat.le_of_ble_eq_true rfl) (fun J n hJ => ?_)
  show J 0 [some (.int v)] [] h (n, 0, 0, fl)
  refine j_p (nx := 1) hJ dX5_isMode_0 rfl rfl ?_
  refine j_if_eq (nx := 4) (tgt := 9) hJ dX5_isMode_1 rfl (by decide) (fun c1 => ?_) (fun c1 => ?_)
  · refine j_c (nx := 10) hJ dX5_isMode_9 rfl gk_iconst_1 ?_
    refine j_go (tgt := 14) hJ dX5_isMode_10 (by decide) ?_
    exact j_zret hJ (gmd v) dX5_isMode_14 (by rw [show gmd v = true from decide_eq_true (by first | exact Or.inl c1 | exact Or.inr c6)]; rfl) ⟨rfl, rfl⟩
  · refine j_p (nx := 5) hJ dX5_isMode_4 rfl rfl ?_
    refine j_c (nx := 6) hJ dX5_isMode_5 rfl gk_iconst_1 ?_
    refine j_ic_ne (nx := 9) (tgt := 13) hJ dX5_isMode_6 rfl (by decide) (fun c6 => ?_) (fun c6 => ?_)
    · refine j_c (nx := 14) hJ dX5_isMode_13 rfl gk_iconst_0 ?_
      exact j_zret hJ (gmd v) dX5_isMode_14 (by rw [show gmd v = false from decide_eq_false (fun q => q.elim c1 c6)]; rfl) ⟨rfl, rfl⟩
    · refine j_c (nx := 10) hJ dX5_isMode_9 rfl gk_iconst_1 ?_
      refine j_go (tgt := 14) hJ dX5_isMode_10 (by decide) ?_
      exact j_zret hJ (gmd v) dX5_isMode_14 (by rw [show gmd v = true from decide_eq_true (by first | exact Or.inl c1 | exact Or.inr c6)]; rfl) ⟨rfl, rfl⟩
/-- the variable that a symbol is -/
def gvo (c : Int32) : Option Nat := if c = 10 then some 0 else if c = 11 then some 1 else if c = 12 then some 2 else if c = 13 then some 3 else none
theorem gvo_some {c : Int32} {v : Nat} (h : gvo c = some v) : v < 4 ∧ c - 10 = nI v ∧ c = nI (10 + v) := by
  unfold gvo at h
  split at h
  · next e => cases h; subst e; exact ⟨by omega, by decide, by decide⟩
  · split at h
    · next e => cases h; subst e; exact ⟨by omega, by decide, by decide⟩
    · split at h
      · next e => cases h; subst e; exact ⟨by omega, by decide, by decide⟩
      · split at h
        · next e => cases h; subst e; exact ⟨by omega, by decide, by decide⟩
        · cases h
/-- a symbol's code -/
def gsy (c : Int32) : Prop := 0 ≤ c.toInt ∧ c.toInt < 14
theorem gsy_eq {c : Int32} {k : Nat} (hk : k < 2 ^ 31) (h : c.toInt = (k : Int)) : c = nI k := by
  rw [← Int32.toInt_inj, nI_toInt hk]; exact h
theorem gvo_none {c : Int32} (hs : gsy c) (h : gvo c = none) : c.toInt < 10 := by
  apply Classical.byContradiction
  intro q
  have hs1 := hs.2
  rcases (show c.toInt = ((10 : Nat) : Int) ∨ c.toInt = ((11 : Nat) : Int) ∨ c.toInt = ((12 : Nat) : Int) ∨ c.toInt = ((13 : Nat) : Int) by omega) with e | e | e | e
  · have := gsy_eq (by decide) e; subst this; exact absurd h (by decide)
  · have := gsy_eq (by decide) e; subst this; exact absurd h (by decide)
  · have := gsy_eq (by decide) e; subst this; exact absurd h (by decide)
  · have := gsy_eq (by decide) e; subst this; exact absurd h (by decide)
theorem gvo_var {c : Int32} (hs : gsy c) : gbt (c - 10) 4 = (gvo c).isSome := by
  cases hv : gvo c with
  | some v =>
    obtain ⟨h1, h2, -⟩ := gvo_some hv
    rw [h2, gbt_nI (by omega)]
    exact decide_eq_true h1
  | none =>
    have h1 := gvo_none hs hv
    have h2 : c = nI c.toInt.toNat := gnat hs.1
    refine decide_eq_false (fun q => ?_)
    have h3 : (c - 10).toInt = c.toInt - 10 := by
      rw [Int32.toInt_sub, show (10 : Int32).toInt = 10 by decide]
      have := hs.1
      rw [Int.bmod_eq_of_le]
      · simp; omega
      · simp; omega
    rw [h3] at q
    omega
/-- a variable's place and size, where it is bound -/
abbrev GV : Type := Nat → Option (Nat × Nat)
def gV0 : GV := fun _ => none
def gVs (env : GV) (v a n : Nat) : GV := fun w => if w = v then some (a, n) else env w
/-- the matcher: least size, spare, number of variables, uses; its bindings -/
def gMat (h : GH) (env : GV) (L spare nv : Nat) (us : Nat → Nat) : Prop :=
  h 76 = some (gob 1 [.ref 77, .ref 78, .ref 79, .int (nI nv), .int (nI L), .int (nI spare)]) ∧ ∃ fs fz fu : Nat → Int32, h 77 = some (gia 4 fs) ∧ h 78 = some (gia 4 fz) ∧ h 79 = some (gia 4 fu) ∧ (∀ v, v < 4 → fu v = nI (us v)) ∧ ∀ v, v < 4 → (env v = none → fz v = -1) ∧ ∀ a n, env v = some (a, n) → fz v = nI n ∧ fs v = nI a
def gsm (t : List Int32) (x y n : Nat) : Bool := (List.range n).all (fun i => decide (t.getD (x + i) (-1) = t.getD (y + i) (-1)))
theorem gsm_t {t : List Int32} {x y n : Nat} (h : ∀ i, i < n → t.getD (x + i) (-1) = t.getD (y + i) (-1)) : gsm t x y n = true := by
  unfold gsm
  rw [List.all_eq_true]
  intro i hi
  exact decide_eq_true (h i (List.mem_range.mp hi))
theorem gsm_f {t : List Int32} {x y n i : Nat} (hi : i < n) (h : ¬ t.getD (x + i) (-1) = t.getD (y + i) (-1)) : gsm t x y n = false := by
  cases hg : gsm t x y n with
  | false => rfl
  | true =>
    unfold gsm at hg
    rw [List.all_eq_true] at hg
    exact absurd (of_decide_eq_true (hg i (List.mem_range.mpr hi))) h
set_option maxHeartbeats 2000000 in
theorem r_isSame {fl : Bool} {d : Nat} {h : GH} {r q cap : Nat} {l : List Int32} (hR : gRow h r q cap l) {x y z : Nat} (hx : x ≤ 1000000) (hy : y ≤ 1000000) (hz : z ≤ 1000000) : gR fl (d + 2) yX1_isSame [.ref r, .int (nI x), .int (nI y), .int (nI z)] h (.int (gb (gsm l x y z))) := by
  obtain ⟨hrq, hlc, hcap, hr, f, hq, hf⟩ := id hR
  refine gN.of MX1_isSame (Nat.le_of_ble_eq_true rfl) (fun J n hJ => ?_)
  show J 0 [some (.ref r), some (.int (nI x)), some (.int (nI y)), some (.int (nI z)), none] [] h (n, 0, 0, fl)
  have loop : ∀ k, k ≤ z → (∀ i, i < k → l.getD (x + i) (-1) = l.getD (y + i) (-1)) → J 3 [some (.ref r), some (.int (nI x)), some (.int (nI y)), some (.int (nI z)), some (.int (nI k))] [] h (n, 0, 0, fl) := by
    refine gloop _ _ (fun k hk ih he => ?_)
    refine j_p (nx := 5) hJ dX1_isSame_3 rfl rfl ?_
    refine j_p (nx := 6) hJ dX1_isSame_5 rfl rfl ?_
    refine j_ic_ge (nx := 9) (tgt := 36) hJ dX1_isSame_6 rfl (by decide) (fun c6 => ?_) (fun c6 => ?_)
    · refine j_c (nx := 37) hJ dX1_isSame_36 rfl gk_iconst_1 ?_
      rw [gnle (by omega) (by omega)] at c6
      exact j_zret hJ (gsm l x y z) dX1_isSame_37 (by rw [gsm_t (fun i hi => he i (by omega))]; rfl) ⟨rfl, rfl⟩
    · rw [gnle (by omega) (by omega)] at c6
      have hkl : k < z := by omega
      refine j_p (nx := 10) hJ dX1_isSame_9 rfl rfl ?_
      refine j_p (nx := 11) hJ dX1_isSame_10 rfl rfl ?_
      refine j_p (nx := 13) hJ dX1_isSame_11 rfl rfl ?_
      refine j_p (nx := 14) hJ dX1_isSame_13 rfl rfl ?_
      rw [gadd]
      refine j_cvR (nx := 17) hJ dX1_isSame_14 rfl (r_at (fl := fl) (d := d) hR (nI (x + k))) mX1_55 (by assumption) kX2_at rfl (gle8 rfl) ?_
      rw [gat_nI (by omega)]
      refine j_p (nx := 18) hJ dX1_isSame_17 rfl rfl ?_
      refine j_p (nx := 19) hJ dX1_isSame_18 rfl rfl ?_
      refine j_p (nx := 21) hJ dX1_isSame_19 rfl rfl ?_
      refine j_p (nx := 22) hJ dX1_isSame_21 rfl rfl ?_
      rw [gadd]
      refine j_cvR (nx := 25) hJ dX1_isSame_22 rfl (r_at (fl := fl) (d := d) hR (nI (y + k))) mX1_55 (by assumption) kX2_at rfl (gle8 rfl) ?_
      rw [gat_nI (by omega)]
      refine j_ic_eq (nx := 28) (tgt := 30) hJ dX1_isSame_25 rfl (by decide) (fun c25 => ?_) (fun c25 => ?_)
      · refine j_inc (nx := 33) hJ dX1_isSame_30 rfl rfl (gi1 k) rfl ?_
        refine j_go (tgt := 3) hJ dX1_isSame_33 (by decide) ?_
        refine ih hkl (fun i hi => ?_)
        by_cases e : i = k
        · subst e; exact c25
        · exact he i (by omega)
      · refine j_c (nx := 29) hJ dX1_isSame_28 rfl gk_iconst_0 ?_
        exact j_zret hJ (gsm l x y z) dX1_isSame_29 (by rw [gsm_f hkl c25]; rfl) ⟨rfl, rfl⟩
  refine j_c (nx := 1) hJ dX1_isSame_0 rfl gk_iconst_0 ?_
  refine j_p (nx := 3) hJ dX1_isSame_1 rfl rfl ?_
  exact loop 0 (Nat.zero_le _) (fun i hi => by omega)
set_option maxHeartbeats 2000000 in
theorem r_canComeOut {fl : Bool} {d : Nat} {h : GH} {env : GV} {L spare nv : Nat} {us : Nat → Nat} (hM : gMat h env L spare nv us) (hsp : spare < 2 ^ 31) (hnv : nv < 2 ^ 31) (z : Int32) : gR fl (d + 1) yX1_canComeOut [.ref 76, .int z] h (.int (gb (decide (0 ≤ z.toInt ∧ (0 < nv ∨ z.toInt ≤ (spare : Int)))))) := by
  obtain ⟨h76, -⟩ := id hM
  refine gN.of MX1_canComeOut (Nat.le_of_ble_eq_true rfl) (fun J n hJ => ?_)
  show J 0 [some (.ref 76), some (.int z)] [] h (n, 0, 0, fl)
  refine j_p (nx := 1) hJ dX1_canComeOut_0 rfl rfl ?_
  refine j_if_lt (nx := 4) (tgt := 23) hJ dX1_canComeOut_1 rfl (by decide) (fun c1 => ?_) (fun c1 => ?_)
  · first | rw [gcz0] at c1 | skip
    first | rw [Int32.lt_iff_toInt_lt, Int32.toInt_zero, nI_toInt hnv] at c8 | skip
    first | rw [Int32.lt_iff_toInt_lt, nI_toInt hsp] at c16 | skip
    refine j_c (nx := 24) hJ dX1_canComeOut_23 rfl gk_iconst_0 ?_
    exact j_zret hJ false dX1_canComeOut_24 rfl ⟨by rw [decide_eq_false (fun q => by omega)], rfl⟩
  · rw [gcz0] at c1
    refine j_p (nx := 5) hJ dX1_canComeOut_4 rfl rfl ?_
    refine j_get (nx := 8) hJ dX1_canComeOut_5 rfl fX1_65 (by assumption) (by rfl) ?_
    refine j_if_gt (nx := 11) (tgt := 19) hJ dX1_canComeOut_8 rfl (by decide) (fun c8 => ?_) (fun c8 => ?_)
    · first | rw [Int32.lt_iff_toInt_lt, Int32.toInt_zero, nI_toInt hnv] at c8 | skip
      first | rw [Int32.lt_iff_toInt_lt, nI_toInt hsp] at c16 | skip
      refine j_c (nx := 20) hJ dX1_canComeOut_19 rfl gk_iconst_1 ?_
      refine j_go (tgt := 24) hJ dX1_canComeOut_20 (by decide) ?_
      exact j_zret hJ true dX1_canComeOut_24 rfl ⟨by rw [decide_eq_true ⟨by omega, by omega⟩], rfl⟩
    · refine j_p (nx := 12) hJ dX1_canComeOut_11 rfl rfl ?_
      refine j_p (nx := 13) hJ dX1_canComeOut_12 rfl rfl ?_
      refine j_get (nx := 16) hJ dX1_canComeOut_13 rfl fX1_35 (by assumption) (by rfl) ?_
      refine j_ic_gt (nx := 19) (tgt := 23) hJ dX1_canComeOut_16 rfl (by decide) (fun c16 => ?_) (fun c16 => ?_)
      · first | rw [gcz0] at c1 | skip
        first | rw [Int32.lt_iff_toInt_lt, Int32.toInt_zero, nI_toInt hnv] at c8 | skip
        first | rw [Int32.lt_iff_toInt_lt, nI_toInt hsp] at c16 | skip
        refine j_c (nx := 24) hJ dX1_canComeOut_23 rfl gk_iconst_0 ?_
        exact j_zret hJ false dX1_canComeOut_24 rfl ⟨by rw [decide_eq_false (fun q => by omega)], rfl⟩
      · first | rw [Int32.lt_iff_toInt_lt, Int32.toInt_zero, nI_toInt hnv] at c8 | skip
        first | rw [Int32.lt_iff_toInt_lt, nI_toInt hsp] at c16 | skip
        refine j_c (nx := 20) hJ dX1_canComeOut_19 rfl gk_iconst_1 ?_
        refine j_go (tgt := 24) hJ dX1_canComeOut_20 (by decide) ?_
        exact j_zret hJ true dX1_canComeOut_24 rfl ⟨by rw [decide_eq_true ⟨by omega, by omega⟩], rfl⟩
