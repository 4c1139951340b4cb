/-- the search and what it reads -/
def gSv (h : GH) (k ss : Nat) (W : Nat → List Int32) (gn V : Nat) (mode : Int32) (c : List Int32) : Prop :=
  h 80 = some (gob 3 [.ref 126, .ref 81, .int (nI gn), .int (nI V), .int mode]) ∧ gBn h 1 (nI k) (nI ss) ∧ gRR h 25 6 W ∧ gMXS h ∧ gRow h 81 82 8 c
theorem gSv.fm {h h' : GH} {k ss : Nat} {W : Nat → List Int32} {gn V : Nat} {mode : Int32} {c : List Int32} (hS : gSv h k ss W gn V mode c) (hF : gFmS h h') (hX : gMXS h') : gSv h' k ss W gn V mode c :=
  ⟨(hF 80 (by unfold gOmS; omega)).trans hS.1, hS.2.1.fo (c := 126) (e := 130) (fun a p => hF a (by unfold gOmS; omega)) (by omega), hS.2.2.1.fo (b := 126) (e := 130) (fun a p => hF a (by unfold gOmS; omega)) (by omega), hX, hS.2.2.2.2.fmS hF (by unfold gOmS; omega) (by unfold gOmS; omega)⟩
theorem gSv.can {h h' : GH} {k ss : Nat} {W : Nat → List Int32} {gn V : Nat} {mode : Int32} {c c' : List Int32} (hS : gSv h k ss W gn V mode c) (hF : gFr 81 82 h h') (hR : gRow h' 81 82 8 c') : gSv h' k ss W gn V mode c' :=
  ⟨(hF 80 (by omega) (by omega)).trans hS.1, hS.2.1.fo (c := 81) (e := 83) (fun a p => hF a (by omega) (by omega)) (by omega), hS.2.2.1.fo (b := 81) (e := 83) (fun a p => hF a (by omega) (by omega)) (by omega), hS.2.2.2.1.fr (fun a p => hF a (by unfold gOmS at p; omega) (by unfold gOmS at p; omega)), hR⟩
theorem gSv.up {h : GH} {k ss : Nat} {W : Nat → List Int32} {gn V : Nat} {mode : Int32} {c : List Int32} (hS : gSv h k ss W gn V mode c) (n2 V2 : Nat) (mode2 : Int32) : gSv (gup h 80 (gob 3 [.ref 126, .ref 81, .int (nI n2), .int (nI V2), .int mode2])) k ss W n2 V2 mode2 c :=
  have hF : ∀ a, a ≠ 80 → gup h 80 (gob 3 [.ref 126, .ref 81, .int (nI n2), .int (nI V2), .int mode2]) a = h a := fun a p => gup_ne _ _ p
  ⟨gup_same _ _ _, hS.2.1.fo (c := 80) (e := 81) (fun a p => hF a (by omega)) (by omega), hS.2.2.1.fo (b := 80) (e := 81) (fun a p => hF a (by omega)) (by omega), hS.2.2.2.1.fr (fun a p => hF a (by unfold gOmS at p; omega)), hS.2.2.2.2.fr (r2 := 80) (q2 := 80) (fun a p _ => hF a p) (by decide) (by decide) (by decide) (by decide)⟩
/-- heaps alike but for the matcher and the candidate -/
def gFs (h h' : GH) : Prop := ∀ a, gOmS a → a ≠ 81 → a ≠ 82 → h' a = h a
theorem gFs.rf {h : GH} : gFs h h := fun _ _ _ _ => rfl
theorem gFs.tr {h h1 h2 : GH} (a : gFs h h1) (b : gFs h1 h2) : gFs h h2 := fun x p q r => (b x p q r).trans (a x p q r)
theorem gFmS.s {h h' : GH} (a : gFmS h h') : gFs h h' := fun x p _ _ => a x p
theorem gFr.s {h h' : GH} (a : gFr 81 82 h h') : gFs h h' := fun x _ p q => a x p q
/-- whether each word of the sample can begin with c -/
def gcb (W : Nat → List Int32) (ss : Nat) (mode : Int32) (c : List Int32) (ll pl : Nat) : Bool := (List.range ss).all (fun i => gMB c (W i) mode (ll + (if mode = 1 then 0 else pl)) (if 0 < pl then 8 else ll))
theorem gall_t {n : Nat} {f : Nat → Bool} (h : ∀ i, i < n → f i = true) : (List.range n).all f = true := by
  rw [List.all_eq_true]; exact fun i hi => h i (List.mem_range.mp hi)
theorem gall_f {n i : Nat} {f : Nat → Bool} (hi : i < n) (h : f i = false) : (List.range n).all f = false := by
  cases hg : (List.range n).all f with
  | false => rfl
  | true => rw [List.all_eq_true] at hg; rw [hg i (List.mem_range.mpr hi)] at h; cases h
theorem gfs_n {α : Type} {n : Nat} {f : Nat → Option α} (h : ∀ i, i < n → f i = none) : (List.range n).findSome? f = none := by
  rw [List.findSome?_eq_none_iff]; exact fun i hi => h i (List.mem_range.mp hi)
theorem gfs_s {α : Type} {n k : Nat} {f : Nat → Option α} {x : α} (h : ∀ i, i < k → f i = none) (hk : k < n) (hx : f k = some x) : (List.range n).findSome? f = some x := by
  have e : n = (k + 1) + (n - (k + 1)) := by omega
  rw [e, List.range_add, List.findSome?_append, List.range_succ, List.findSome?_append, gfs_n h]
  simp [hx]
/-- the first pattern of the search that goes on from c by m symbols -/
def gCo (W : Nat → List Int32) (ss : Nat) (mode : Int32) (k V : Nat) : Nat → List Int32 → Nat → Nat → Option (List Int32)
  | 0, c, ll, _ => if gcb W ss mode c ll (0 - ll) = true then some c else none
  | m + 1, c, ll, vu => if gcb W ss mode c ll (m + 1 - ll) = true then
      ((List.range (if 0 < ll then k else 0)).findSome? (fun x => gCo W ss mode k V m (c ++ [nI x]) (ll - 1) vu)).or
        (if 0 < m + 1 - ll then (List.range (min vu (V - 1) + 1 - (if V - vu < m + 1 - ll then 0 else vu))).findSome? (fun i => gCo W ss mode k V m (c ++ [nI (10 + ((if V - vu < m + 1 - ll then 0 else vu) + i))]) ll (max vu ((if V - vu < m + 1 - ll then 0 else vu) + i + 1))) else none)
      else none
def gCoOK (fl : Bool) (D : Nat) (k ss : Nat) (W : Nat → List Int32) (gn V : Nat) (mode : Int32) (m : Nat) : Prop :=
  ∀ (h : GH) (c : List Int32) (ll vu : Nat), gSv h k ss W gn V mode c → (∀ x ∈ c, gsy x) → c.length + m = gn → ll ≤ m → vu ≤ V → (0 < m - ll → 1 ≤ V) →
    gN fl D yX3_complete [.ref 80, .ref 1, .int (nI c.length), .int (nI ll), .int (nI vu)] h (fun o h' => o = some (.int (gb (gCo W ss mode k V m c ll vu).isSome)) ∧ gSv h' k ss W gn V mode ((gCo W ss mode k V m c ll vu).getD c) ∧ gFs h h')
theorem gsy_nI {x : Nat} (h : x < 14) : gsy (nI x) := by unfold gsy; rw [nI_toInt (by omega)]; omega
theorem gsy_add {c : List Int32} {x : Int32} (h : ∀ y ∈ c, gsy y) (hx : gsy x) : ∀ y ∈ c ++ [x], gsy y := fun y hy => by
  rcases List.mem_append.mp hy with q | q
  · exact h y q
  · rw [List.mem_singleton.mp q]; exact hx
theorem gminI {a b : Nat} (ha : a < 2 ^ 31) (hb : b < 2 ^ 31) : (if nI b < nI a then nI b else nI a) = nI (min a b) := by
  rw [Nat.min_def]
  by_cases h : b < a
  · rw [if_pos ((gnlt hb ha).mpr h), if_neg (by omega)]
  · rw [if_neg (fun q => h ((gnlt hb ha).mp q)), if_pos (by omega)]
set_option maxHeartbeats 4000000 in
theorem r_canBegin {fl : Bool} {d : Nat} {h : GH} {k ss : Nat} {W : Nat → List Int32} {gn V : Nat} {mode : Int32} {c : List Int32} (hS : gSv h k ss W gn V mode c) (hss : ss ≤ 6) (hsy : ∀ x ∈ c, gsy x) {ll pl : Nat} (hlp : ll + pl ≤ 8) : gN fl (d + 21) yX3_canBegin [.ref 80, .ref 1, .int (nI ll), .int (nI pl)] h (fun o h' => o = some (.int (gb (gcb W ss mode c ll pl))) ∧ gSv h' k ss W gn V mode c ∧ gFmS h h') := by
  have g80 := hS.1
  have hle : (ll + (if mode = 1 then 0 else pl)) ≤ (if 0 < pl then 8 else ll) := by split <;> split <;> omega
  have hmt : (if 0 < pl then 8 else ll) ≤ 40 := by split <;> omega
  refine gN.of MX3_canBegin (Nat.le_of_ble_eq_true rfl) (fun J n hJ => ?_)
  show J 0 [some (.ref 80), some (.ref 1), some (.int (nI ll)), some (.int (nI pl)), none, none, none] [] h (n, 0, 0, fl)
  have loop : ∀ i, i ≤ ss → ∀ h1 : GH, gSv h1 k ss W gn V mode c → gFmS h h1 → (∀ j, j < i → gMB c (W j) mode (ll + (if mode = 1 then 0 else pl)) (if 0 < pl then 8 else ll) = true) → J 32 [some (.ref 80), some (.ref 1), some (.int (nI ll)), some (.int (nI pl)), some (.int (nI (ll + (if mode = 1 then 0 else pl)))), some (.int (nI (if 0 < pl then 8 else ll))), some (.int (nI i))] [] h1 (n, 0, 0, fl) := by
    refine gloop _ _ (fun i hi ih h1 hS1 hF1 hall => ?_)
    have g80 := hS1.1
    have g1 := hS1.2.1.1
    have g4 := hS1.2.1.2.2.2
    obtain ⟨_, _, _, _, _, _, hX76⟩ := id hS1.2.2.2.1
    have g76 := hX76.1
    refine j_p (nx := 34) hJ dX3_canBegin_32 rfl rfl ?_
    refine j_p (nx := 35) hJ dX3_canBegin_34 rfl rfl ?_
    refine j_get (nx := 38) hJ dX3_canBegin_35 rfl fX3_54 g1 (by rfl) ?_
    refine j_ic_ge (nx := 41) (tgt := 85) hJ dX3_canBegin_38 rfl (by decide) (fun c38 => ?_) (fun c38 => ?_)
    · refine j_c (nx := 86) hJ dX3_canBegin_85 rfl gk_iconst_1 ?_
      rw [gnle (by omega) (by omega)] at c38
      exact j_zret hJ (gcb W ss mode c ll pl) dX3_canBegin_86 (by rw [show gcb W ss mode c ll pl = true from gall_t (fun j hj => hall j (by omega))]; rfl) ⟨rfl, hS1, hF1⟩
    · rw [gnle (by omega) (by omega)] at c38
      have hkl : i < ss := by omega
      refine j_p (nx := 43) hJ dX3_canBegin_41 rfl rfl ?_
      refine j_c (nx := 45) hJ dX3_canBegin_43 rfl gk_bipush_6 ?_
      refine j_ic_ge (nx := 48) (tgt := 85) hJ dX3_canBegin_45 rfl (by decide) (fun c45 => absurd c45 (by rw [show (6 : Int32) = nI 6 from rfl, gnle (by omega) (by omega)]; omega)) (fun c45 => ?_)
      refine j_p (nx := 49) hJ dX3_canBegin_48 rfl rfl ?_
      refine j_get (nx := 52) hJ dX3_canBegin_49 rfl fX3_12 (by repeat (first | assumption | exact gup_same _ _ _ | rw [gup_ne _ _ (by first | decide | assumption | omega)])) (by rfl) ?_
      refine j_p (nx := 53) hJ dX3_canBegin_52 rfl rfl ?_
      refine j_get (nx := 56) hJ dX3_canBegin_53 rfl fX3_23 (by repeat (first | assumption | exact gup_same _ _ _ | rw [gup_ne _ _ (by first | decide | assumption | omega)])) (by rfl) ?_
      refine j_p (nx := 57) hJ dX3_canBegin_56 rfl rfl ?_
      refine j_get (nx := 60) hJ dX3_canBegin_57 rfl fX3_59 g1 (by rfl) ?_
      refine j_p (nx := 62) hJ dX3_canBegin_60 rfl rfl ?_
      refine j_aald (j := i) (nx := 63) hJ dX3_canBegin_62 rfl g4 rfl (by omega) (by decide) (by decide) rfl ?_
      refine j_p (nx := 64) hJ dX3_canBegin_63 rfl rfl ?_
      refine j_get (nx := 67) hJ dX3_canBegin_64 rfl fX3_31 (by repeat (first | assumption | exact gup_same _ _ _ | rw [gup_ne _ _ (by first | decide | assumption | omega)])) (by rfl) ?_
      refine j_p (nx := 69) hJ dX3_canBegin_67 rfl rfl ?_
      refine j_p (nx := 71) hJ dX3_canBegin_69 rfl rfl ?_
      refine j_cv (nx := 74) hJ dX3_canBegin_71 rfl (r_isMatchBeforeS (fl := fl) (d := d) mode hS1.2.2.2.1 hS1.2.2.2.2 (hS1.2.2.1 i (by omega)) (by unfold gOmS; omega) (by unfold gOmS; omega) (by unfold gOmS; omega) (by unfold gOmS; omega) hsy hS1.2.2.2.2.2.1 (Nat.le_trans (hS1.2.2.1 i (by omega)).2.1 (by omega)) (lt := (ll + (if mode = 1 then 0 else pl))) (mt := (if 0 < pl then 8 else ll)) hle hmt) mX3_85 (by repeat (first | assumption | exact gup_same _ _ _ | rw [gup_ne _ _ (by first | decide | assumption | omega)])) kX1_isMatchBefore rfl (gle8 rfl) (fun o h2 hp => ?_)
      obtain ⟨rfl, hX2, hF2, -⟩ := hp
      refine j_if_ne (nx := 77) (tgt := 79) hJ dX3_canBegin_74 rfl (by decide) (fun c74 => ?_) (fun c74 => ?_)
      · rw [gb_t] at c74
        refine j_inc (nx := 82) hJ dX3_canBegin_79 rfl rfl (gi1 i) rfl ?_
        refine j_go (tgt := 32) hJ dX3_canBegin_82 (by decide) ?_
        refine ih hkl h2 (hS1.fm hF2 hX2) (hF1.tr hF2) (fun j hj => ?_)
        by_cases e : j = i
        · subst e; exact c74
        · exact hall j (by omega)
      · refine j_c (nx := 78) hJ dX3_canBegin_77 rfl gk_iconst_0 ?_
        rw [gb_f] at c74
        exact j_zret hJ (gcb W ss mode c ll pl) dX3_canBegin_78 (by rw [show gcb W ss mode c ll pl = false from gall_f hkl c74]; rfl) ⟨rfl, hS1.fm hF2 hX2, hF1.tr hF2⟩
  refine j_p (nx := 1) hJ dX3_canBegin_0 rfl rfl ?_
  refine j_p (nx := 2) hJ dX3_canBegin_1 rfl rfl ?_
  refine j_get (nx := 5) hJ dX3_canBegin_2 rfl fX3_31 (by repeat (first | assumption | exact gup_same _ _ _ | rw [gup_ne _ _ (by first | decide | assumption | omega)])) (by rfl) ?_
  refine j_c (nx := 6) hJ dX3_canBegin_5 rfl gk_iconst_1 ?_
  refine j_ic_ne (nx := 9) (tgt := 13) hJ dX3_canBegin_6 rfl (by decide) (fun c6 => ?_) (fun c6 => ?_)
  · refine j_p (nx := 14) hJ dX3_canBegin_13 rfl rfl ?_
    refine j_p (nx := 15) hJ dX3_canBegin_14 rfl rfl ?_
    rw [gadd]
    have e1 : (ll + (if mode = 1 then 0 else pl)) = ll + pl := by rw [if_neg c6]
    rw [← e1]
    refine j_p (nx := 17) hJ dX3_canBegin_15 rfl rfl ?_
    refine j_p (nx := 18) hJ dX3_canBegin_17 rfl rfl ?_
    refine j_if_le (nx := 21) (tgt := 26) hJ dX3_canBegin_18 rfl (by decide) (fun c18 => ?_) (fun c18 => ?_)
    · refine j_p (nx := 27) hJ dX3_canBegin_26 rfl rfl ?_
      rw [Int32.le_iff_toInt_le, Int32.toInt_zero, nI_toInt (by omega)] at c18
      have e2 : (if 0 < pl then 8 else ll) = ll := if_neg (by omega)
      refine j_p (nx := 29) hJ dX3_canBegin_27 rfl rfl ?_
      refine j_c (nx := 30) hJ dX3_canBegin_29 rfl gk_iconst_0 ?_
      refine j_p (nx := 32) hJ dX3_canBegin_30 rfl rfl ?_
      have hl := loop 0 (Nat.zero_le _) h hS gFmS.rf (fun j hj => by omega)
      rw [e2] at hl
      rw [e1] at hl ⊢
      exact hl
    · refine j_c (nx := 23) hJ dX3_canBegin_21 rfl gk_bipush_8 ?_
      refine j_go (tgt := 27) hJ dX3_canBegin_23 (by decide) ?_
      rw [Int32.le_iff_toInt_le, Int32.toInt_zero, nI_toInt (by omega)] at c18
      have e2 : (if 0 < pl then 8 else ll) = 8 := if_pos (by omega)
      change J 27 _ (.int (nI 8) :: _) _ _
      refine j_p (nx := 29) hJ dX3_canBegin_27 rfl rfl ?_
      refine j_c (nx := 30) hJ dX3_canBegin_29 rfl gk_iconst_0 ?_
      refine j_p (nx := 32) hJ dX3_canBegin_30 rfl rfl ?_
      have hl := loop 0 (Nat.zero_le _) h hS gFmS.rf (fun j hj => by omega)
      rw [e2] at hl
      rw [e1] at hl ⊢
      exact hl
  · refine j_c (nx := 10) hJ dX3_canBegin_9 rfl gk_iconst_0 ?_
    refine j_go (tgt := 14) hJ dX3_canBegin_10 (by decide) ?_
    refine j_p (nx := 15) hJ dX3_canBegin_14 rfl rfl ?_
    have e1 : (ll + (if mode = 1 then 0 else pl)) = ll := by rw [if_pos c6]; omega
    rw [show nI ll + 0 = nI ll from Int32.add_zero _, ← e1]
    refine j_p (nx := 17) hJ dX3_canBegin_15 rfl rfl ?_
    refine j_p (nx := 18) hJ dX3_canBegin_17 rfl rfl ?_
    refine j_if_le (nx := 21) (tgt := 26) hJ dX3_canBegin_18 rfl (by decide) (fun c18 => ?_) (fun c18 => ?_)
    · refine j_p (nx := 27) hJ dX3_canBegin_26 rfl rfl ?_
      rw [Int32.le_iff_toInt_le, Int32.toInt_zero, nI_toInt (by omega)] at c18
      have e2 : (if 0 < pl then 8 else ll) = ll := if_neg (by omega)
      refine j_p (nx := 29) hJ dX3_canBegin_27 rfl rfl ?_
      refine j_c (nx := 30) hJ dX3_canBegin_29 rfl gk_iconst_0 ?_
      refine j_p (nx := 32) hJ dX3_canBegin_30 rfl rfl ?_
      have hl := loop 0 (Nat.zero_le _) h hS gFmS.rf (fun j hj => by omega)
      rw [e2] at hl
      rw [e1] at hl ⊢
      exact hl
    · refine j_c (nx := 23) hJ dX3_canBegin_21 rfl gk_bipush_8 ?_
      refine j_go (tgt := 27) hJ dX3_canBegin_23 (by decide) ?_
      rw [Int32.le_iff_toInt_le, Int32.toInt_zero, nI_toInt (by omega)] at c18
      have e2 : (if 0 < pl then 8 else ll) = 8 := if_pos (by omega)
      change J 27 _ (.int (nI 8) :: _) _ _
      refine j_p (nx := 29) hJ dX3_canBegin_27 rfl rfl ?_
      refine j_c (nx := 30) hJ dX3_canBegin_29 rfl gk_iconst_0 ?_
      refine j_p (nx := 32) hJ dX3_canBegin_30 rfl rfl ?_
      have hl := loop 0 (Nat.zero_le _) h hS gFmS.rf (fun j hj => by omega)
      rw [e2] at hl
      rw [e1] at hl ⊢
      exact hl
