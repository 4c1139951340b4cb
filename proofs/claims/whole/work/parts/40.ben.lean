/-- heaps alike but for the cells from b up to e -/
def gFo (b e : Nat) (h h' : GH) : Prop := ∀ a, (a < b ∨ e ≤ a) → h' a = h a
theorem gFo.rf {b e : Nat} {h : GH} : gFo b e h h := fun _ _ => rfl
theorem gFo.tr {b e : Nat} {h h1 h2 : GH} (x : gFo b e h h1) (y : gFo b e h1 h2) : gFo b e h h2 := fun a p => (y a p).trans (x a p)
theorem gFo.row {b e r : Nat} {h h' : GH} (x : gFr r (r + 1) h h') (h1 : b ≤ r) (h2 : r + 2 ≤ e) : gFo b e h h' := fun a p => x a (by omega) (by omega)
theorem gFo.up {b e k : Nat} (h : GH) (c : GC) (h1 : b ≤ k) (h2 : k < e) : gFo b e h (gup h k c) := fun a p => gup_ne _ _ (by omega)
theorem gFo.wide {b e b2 e2 : Nat} {h h' : GH} (x : gFo b e h h') (h1 : b2 ≤ b) (h2 : e ≤ e2) : gFo b2 e2 h h' := fun a p => x a (by omega)
theorem gRow.fo {h h' : GH} {b e r cap : Nat} {l : List Int32} (hR : gRow h r (r + 1) cap l) (hF : gFo b e h h') (h1 : r + 2 ≤ b ∨ e ≤ r) : gRow h' r (r + 1) cap l := by
  obtain ⟨a1, a2, a3, a4, f, a5, a6⟩ := hR
  exact ⟨a1, a2, a3, by rw [hF r (by omega)]; exact a4, f, by rw [hF (r + 1) (by omega)]; exact a5, a6⟩
/-- n rows from x on -/
def gRR (h : GH) (x n : Nat) (R : Nat → List Int32) : Prop := ∀ i, i < n → gRow h (x + 2 * i) (x + 2 * i + 1) 8 (R i)
theorem gRR.fo {h h' : GH} {b e x n : Nat} {R : Nat → List Int32} (hR : gRR h x n R) (hF : gFo b e h h') (h1 : x + 2 * n ≤ b ∨ e ≤ x) : gRR h' x n R := fun i hi => (hR i hi).fo hF (by omega)
theorem gRR.set {h h' : GH} {x n i : Nat} {R : Nat → List Int32} {l : List Int32} (hR : gRR h x n R) (hl : gRow h' (x + 2 * i) (x + 2 * i + 1) 8 l) (hF : gFr (x + 2 * i) (x + 2 * i + 1) h h') : gRR h' x n (fun j => if j = i then l else R j) := fun j hj => by
  by_cases e : j = i
  · subst e; simp only [if_true]; exact hl
  · simp only [if_neg e]
    exact (hR j hj).fr hF (by omega) (by omega) (by omega) (by omega)
theorem gRR.ext {h : GH} {x n : Nat} {R R' : Nat → List Int32} (hR : gRR h x n R) (he : ∀ i, i < n → R i = R' i) : gRR h x n R' := fun i hi => he i hi ▸ hR i hi
set_option maxHeartbeats 4000000 in
theorem r_copyRows {fl : Bool} {d n9 a b x y : Nat} {h : GH} {R Q : Nat → List Int32} (ha : h a = some (gra 2 n9 (fun i => some (x + 2 * i)))) (hb : h b = some (gra 2 n9 (fun i => some (y + 2 * i)))) (hn : n9 ≤ 6) (hX : gRR h x n9 R) (hY : gRR h y n9 Q) (hA : x + 2 * n9 ≤ y ∨ y + 2 * n9 ≤ x) (oa : a < y ∨ y + 2 * n9 ≤ a) (ob : b < y ∨ y + 2 * n9 ≤ b) : gN fl (d + 3) yX0_copyRows [.ref a, .ref b] h (fun o h' => o = none ∧ gRR h' y n9 R ∧ gFo y (y + 2 * n9) h h') := by
  refine gN.of MX0_copyRows (Nat.le_of_ble_eq_true rfl) (fun J n hJ => ?_)
  show J 0 [some (.ref a), some (.ref b), none] [] h (n, 0, 0, fl)
  have loop : ∀ k, k ≤ n9 → ∀ h1 : GH, gRR h1 y n9 (fun i => if i < k then R i else Q i) → gFo y (y + 2 * n9) h h1 → J 2 [some (.ref a), some (.ref b), some (.int (nI k))] [] h1 (n, 0, 0, fl) := by
    refine gloop _ _ (fun k hk ih h1 hY1 hF1 => ?_)
    have ha1 := (hF1 a oa).trans ha
    have hb1 := (hF1 b ob).trans hb
    have hX1 := hX.fo hF1 (by omega)
    refine j_p (nx := 3) hJ dX0_copyRows_2 rfl rfl ?_
    refine j_p (nx := 4) hJ dX0_copyRows_3 rfl rfl ?_
    refine j_lenR (nx := 5) hJ dX0_copyRows_4 rfl ha1 (by decide) ?_
    refine j_ic_ge (nx := 8) (tgt := 29) hJ dX0_copyRows_5 rfl (by decide) (fun c5 => ?_) (fun c5 => ?_)
    · rw [gnle (by omega) (by omega)] at c5
      exact j_vret hJ dX0_copyRows_29 ⟨rfl, hY1.ext (fun i hi => if_pos (by omega)), hF1⟩
    · rw [gnle (by omega) (by omega)] at c5
      have hkl : k < n9 := by omega
      refine j_p (nx := 9) hJ dX0_copyRows_8 rfl rfl ?_
      refine j_p (nx := 10) hJ dX0_copyRows_9 rfl rfl ?_
      refine j_lenR (nx := 11) hJ dX0_copyRows_10 rfl hb1 (by decide) ?_
      refine j_ic_ge (nx := 14) (tgt := 29) hJ dX0_copyRows_11 rfl (by decide) (fun c11 => absurd c11 (by rw [gnle (by omega) (by omega)]; omega)) (fun c11 => ?_)
      refine j_p (nx := 15) hJ dX0_copyRows_14 rfl rfl ?_
      refine j_p (nx := 16) hJ dX0_copyRows_15 rfl rfl ?_
      refine j_aald (j := k) (nx := 17) hJ dX0_copyRows_16 rfl hb1 rfl hkl (by omega) (by decide) rfl ?_
      refine j_p (nx := 18) hJ dX0_copyRows_17 rfl rfl ?_
      refine j_p (nx := 19) hJ dX0_copyRows_18 rfl rfl ?_
      refine j_aald (j := k) (nx := 20) hJ dX0_copyRows_19 rfl ha1 rfl hkl (by omega) (by decide) rfl ?_
      have hY := hY1 k hkl
      have hyr := hY.2.2.2.1
      refine j_cv (nx := 23) hJ dX0_copyRows_20 rfl (r_setTo (fl := fl) (d := d) hY (hX1 k hkl) ⟨by omega, by omega, by omega, by omega⟩ (hX1 k hkl).2.1) mX0_48 (by repeat (first | assumption | exact gup_same _ _ _ | rw [gup_ne _ _ (by first | decide | assumption | omega)])) kX2_setTo rfl (gle8 rfl) (fun o h2 hp => ?_)
      obtain ⟨rfl, hR2, hF2⟩ := hp
      refine j_inc (nx := 26) hJ dX0_copyRows_23 rfl rfl (gi1 k) rfl ?_
      refine j_go (tgt := 2) hJ dX0_copyRows_26 (by decide) ?_
      refine ih hkl h2 ((hY1.set hR2 hF2).ext (fun i hi => ?_)) (hF1.tr (gFo.row hF2 (by omega) (by omega)))
      by_cases e : i = k
      · subst e; simp
      · simp only [if_neg e]; by_cases e2 : i < k
        · rw [if_pos e2, if_pos (by omega)]
        · rw [if_neg e2, if_neg (by omega)]
  refine j_c (nx := 1) hJ dX0_copyRows_0 rfl gk_iconst_0 ?_
  refine j_p (nx := 2) hJ dX0_copyRows_1 rfl rfl ?_
  exact loop 0 (Nat.zero_le _) h (hY.ext (fun i hi => (if_neg (by omega)).symm)) gFo.rf
/-- a bench: its letters and the size of its sample -/
def gBn (h : GH) (b : Nat) (k ss : Int32) : Prop := h b = some (gob 0 [.int k, .ref (b + 1), .ref (b + 2), .ref (b + 3), .int ss]) ∧ h (b + 1) = some (gra 2 6 (fun i => some (b + 4 + 2 * i))) ∧ h (b + 2) = some (gra 2 4 (fun i => some (b + 16 + 2 * i))) ∧ h (b + 3) = some (gra 2 6 (fun i => some (b + 24 + 2 * i)))
theorem gBn.fo {h h' : GH} {b c e : Nat} {k ss : Int32} (hB : gBn h b k ss) (hF : gFo c e h h') (h1 : b + 4 ≤ c ∨ e ≤ b) : gBn h' b k ss :=
  ⟨(hF _ (by omega)).trans hB.1, (hF _ (by omega)).trans hB.2.1, (hF _ (by omega)).trans hB.2.2.1, (hF _ (by omega)).trans hB.2.2.2⟩
theorem gBn.up {h : GH} {b : Nat} {k ss : Int32} (hB : gBn h b k ss) (k2 s2 : Int32) : gBn (gup h b (gob 0 [.int k2, .ref (b + 1), .ref (b + 2), .ref (b + 3), .int s2])) b k2 s2 :=
  ⟨gup_same _ _ _, by rw [gup_ne _ _ (by omega)]; exact hB.2.1, by rw [gup_ne _ _ (by omega)]; exact hB.2.2.1, by rw [gup_ne _ _ (by omega)]; exact hB.2.2.2⟩
/-- its rows: registers, images, sample -/
def gBR (h : GH) (b : Nat) (P I W : Nat → List Int32) : Prop := gRR h (b + 4) 6 P ∧ gRR h (b + 16) 4 I ∧ gRR h (b + 24) 6 W
theorem gBR.fo {h h' : GH} {b c e : Nat} {P I W : Nat → List Int32} (hB : gBR h b P I W) (hF : gFo c e h h') (h1 : b + 36 ≤ c ∨ e ≤ b + 4) : gBR h' b P I W :=
  ⟨hB.1.fo hF (by omega), hB.2.1.fo hF (by omega), hB.2.2.fo hF (by omega)⟩
set_option maxHeartbeats 4000000 in
theorem r_begin {fl : Bool} {d b : Nat} {h : GH} {P I W : Nat → List Int32} {k ss : Int32} (k0 : Int32) (hB : gBn h b k ss) (hR : gBR h b P I W) : gN fl (d + 3) yX0_begin [.ref b, .int k0] h (fun o h' => o = none ∧ gBn h' b k0 0 ∧ gBR h' b (fun _ => [10]) (fun _ => [0]) W ∧ gFo b (b + 36) h h') := by
  refine gN.of MX0_begin (Nat.le_of_ble_eq_true rfl) (fun J n hJ => ?_)
  show J 0 [some (.ref b), some (.int k0), none] [] h (n, 0, 0, fl)
  have loop2 : ∀ k, k ≤ 4 → ∀ h1 : GH, gBn h1 b k0 ss → gRR h1 (b + 4) 6 (fun _ => [10]) → gRR h1 (b + 16) 4 (fun i => if i < k then [0] else I i) → gRR h1 (b + 24) 6 W → gFo b (b + 36) h h1 → J 36 [some (.ref b), some (.int k0), some (.int (nI k))] [] h1 (n, 0, 0, fl) := by
    refine gloop _ _ (fun k hk ih h1 hB1 hP1 hY1 hW1 hF1 => ?_)
    have gb0 := hB1.1
    have gim := hB1.2.2.1
    refine j_p (nx := 37) hJ dX0_begin_36 rfl rfl ?_
    refine j_p (nx := 38) hJ dX0_begin_37 rfl rfl ?_
    refine j_get (nx := 41) hJ dX0_begin_38 rfl fX0_17 (by repeat (first | assumption | exact gup_same _ _ _ | rw [gup_ne _ _ (by first | decide | assumption | omega)])) (by rfl) ?_
    refine j_lenR (nx := 42) hJ dX0_begin_41 rfl gim (by decide) ?_
    refine j_ic_ge (nx := 45) (tgt := 62) hJ dX0_begin_42 rfl (by decide) (fun c42 => ?_) (fun c42 => ?_)
    · rw [gnle (by omega) (by omega)] at c42
      refine j_p (nx := 63) hJ dX0_begin_62 rfl rfl ?_
      refine j_c (nx := 64) hJ dX0_begin_63 rfl gk_iconst_0 ?_
      refine j_put (nx := 67) hJ dX0_begin_64 rfl fX0_41 (zX0_4 _) hB1.1 (Nat.le_of_ble_eq_true rfl) ?_
      have hF3 := gFo.up (b := b) (e := b + 1) h1 (gob 0 [.int k0, .ref (b + 1), .ref (b + 2), .ref (b + 3), .int 0]) (Nat.le_refl _) (by omega)
      exact j_vret hJ dX0_begin_67 ⟨rfl, hB1.up k0 0, ⟨hP1.fo hF3 (by omega), (hY1.ext (fun i hi => if_pos (by omega))).fo hF3 (by omega), hW1.fo hF3 (by omega)⟩, hF1.tr (hF3.wide (Nat.le_refl _) (by omega))⟩
    · rw [show (nI 4) = nI 4 from rfl, gnle (by omega) (by omega)] at c42
      have hkl : k < 4 := by omega
      refine j_p (nx := 46) hJ dX0_begin_45 rfl rfl ?_
      refine j_get (nx := 49) hJ dX0_begin_46 rfl fX0_17 (by repeat (first | assumption | exact gup_same _ _ _ | rw [gup_ne _ _ (by first | decide | assumption | omega)])) (by rfl) ?_
      refine j_p (nx := 50) hJ dX0_begin_49 rfl rfl ?_
      refine j_aald (j := k) (nx := 51) hJ dX0_begin_50 rfl gim rfl hkl (by omega) (by decide) rfl ?_
      have hY := hY1 k hkl
      have hyr := hY.2.2.2.1
      refine j_c (nx := 52) hJ dX0_begin_51 rfl gk_iconst_0 ?_
      refine j_c (nx := 53) hJ dX0_begin_52 rfl gk_iconst_1 ?_
      refine j_cv (nx := 56) hJ dX0_begin_53 rfl (r_fillWith (fl := fl) (d := d) hY 0 (c := 1) (by omega)) mX0_37 (by repeat (first | assumption | exact gup_same _ _ _ | rw [gup_ne _ _ (by first | decide | assumption | omega)])) kX2_fillWith rfl (gle8 rfl) (fun o h2 hp => ?_)
      obtain ⟨rfl, hR2, hF2⟩ := hp
      refine j_inc (nx := 59) hJ dX0_begin_56 rfl rfl (gi1 k) rfl ?_
      refine j_go (tgt := 36) hJ dX0_begin_59 (by decide) ?_
      refine ih hkl h2 (hB1.fo (gFo.row hF2 (Nat.le_refl _) (Nat.le_refl _)) (by omega)) (hP1.fo (gFo.row hF2 (Nat.le_refl _) (Nat.le_refl _)) (by omega)) ((hY1.set hR2 hF2).ext (fun i hi => ?_)) (hW1.fo (gFo.row hF2 (Nat.le_refl _) (Nat.le_refl _)) (by omega)) (hF1.tr (gFo.row hF2 (by omega) (by omega)))
      by_cases e : i = k
      · subst e; simp
      · simp only [if_neg e]; by_cases e2 : i < k
        · rw [if_pos e2, if_pos (by omega)]
        · rw [if_neg e2, if_neg (by omega)]
  have loop1 : ∀ k, k ≤ 6 → ∀ h1 : GH, gBn h1 b k0 ss → gRR h1 (b + 4) 6 (fun i => if i < k then [10] else P i) → gRR h1 (b + 16) 4 I → gRR h1 (b + 24) 6 W → gFo b (b + 36) h h1 → J 7 [some (.ref b), some (.int k0), some (.int (nI k))] [] h1 (n, 0, 0, fl) := by
    refine gloop _ _ (fun k hk ih h1 hB1 hY1 hI1 hW1 hF1 => ?_)
    have gb0 := hB1.1
    have gre := hB1.2.1
    refine j_p (nx := 8) hJ dX0_begin_7 rfl rfl ?_
    refine j_p (nx := 9) hJ dX0_begin_8 rfl rfl ?_
    refine j_get (nx := 12) hJ dX0_begin_9 rfl fX0_11 (by repeat (first | assumption | exact gup_same _ _ _ | rw [gup_ne _ _ (by first | decide | assumption | omega)])) (by rfl) ?_
    refine j_lenR (nx := 13) hJ dX0_begin_12 rfl gre (by decide) ?_
    refine j_ic_ge (nx := 16) (tgt := 34) hJ dX0_begin_13 rfl (by decide) (fun c13 => ?_) (fun c13 => ?_)
    · refine j_c (nx := 35) hJ dX0_begin_34 rfl gk_iconst_0 ?_
      refine j_p (nx := 36) hJ dX0_begin_35 rfl rfl ?_
      rw [gnle (by omega) (by omega)] at c13
      exact loop2 0 (Nat.zero_le _) h1 hB1 (hY1.ext (fun i hi => if_pos (by omega))) (hI1.ext (fun i hi => (if_neg (by omega)).symm)) hW1 hF1
    · rw [show (nI 6) = nI 6 from rfl, gnle (by omega) (by omega)] at c13
      have hkl : k < 6 := by omega
      refine j_p (nx := 17) hJ dX0_begin_16 rfl rfl ?_
      refine j_get (nx := 20) hJ dX0_begin_17 rfl fX0_11 (by repeat (first | assumption | exact gup_same _ _ _ | rw [gup_ne _ _ (by first | decide | assumption | omega)])) (by rfl) ?_
      refine j_p (nx := 21) hJ dX0_begin_20 rfl rfl ?_
      refine j_aald (j := k) (nx := 22) hJ dX0_begin_21 rfl gre rfl hkl (by omega) (by decide) rfl ?_
      have hY := hY1 k hkl
      have hyr := hY.2.2.2.1
      refine j_c (nx := 24) hJ dX0_begin_22 rfl gk_bipush_10 ?_
      refine j_c (nx := 25) hJ dX0_begin_24 rfl gk_iconst_1 ?_
      refine j_cv (nx := 28) hJ dX0_begin_25 rfl (r_fillWith (fl := fl) (d := d) hY 10 (c := 1) (by omega)) mX0_37 (by repeat (first | assumption | exact gup_same _ _ _ | rw [gup_ne _ _ (by first | decide | assumption | omega)])) kX2_fillWith rfl (gle8 rfl) (fun o h2 hp => ?_)
      obtain ⟨rfl, hR2, hF2⟩ := hp
      refine j_inc (nx := 31) hJ dX0_begin_28 rfl rfl (gi1 k) rfl ?_
      refine j_go (tgt := 7) hJ dX0_begin_31 (by decide) ?_
      refine ih hkl h2 (hB1.fo (gFo.row hF2 (Nat.le_refl _) (Nat.le_refl _)) (by omega)) ((hY1.set hR2 hF2).ext (fun i hi => ?_)) (hI1.fo (gFo.row hF2 (Nat.le_refl _) (Nat.le_refl _)) (by omega)) (hW1.fo (gFo.row hF2 (Nat.le_refl _) (Nat.le_refl _)) (by omega)) (hF1.tr (gFo.row hF2 (by omega) (by omega)))
      by_cases e : i = k
      · subst e; simp
      · simp only [if_neg e]; by_cases e2 : i < k
        · rw [if_pos e2, if_pos (by omega)]
        · rw [if_neg e2, if_neg (by omega)]
  refine j_p (nx := 1) hJ dX0_begin_0 rfl rfl ?_
  refine j_p (nx := 2) hJ dX0_begin_1 rfl rfl ?_
  refine j_put (nx := 5) hJ dX0_begin_2 rfl fX0_33 (zX0_0 _) hB.1 (Nat.le_of_ble_eq_true rfl) ?_
  refine j_c (nx := 6) hJ dX0_begin_5 rfl gk_iconst_0 ?_
  refine j_p (nx := 7) hJ dX0_begin_6 rfl rfl ?_
  have hF3 := gFo.up (b := b) (e := b + 1) h (gob 0 [.int k0, .ref (b + 1), .ref (b + 2), .ref (b + 3), .int ss]) (Nat.le_refl _) (by omega)
  exact loop1 0 (Nat.zero_le _) _ (hB.up k0 ss) ((hR.1.fo hF3 (by omega)).ext (fun i hi => (if_neg (by omega)).symm)) (hR.2.1.fo hF3 (by omega)) (hR.2.2.fo hF3 (by omega)) (hF3.wide (Nat.le_refl _) (by omega))
set_option maxHeartbeats 4000000 in
theorem r_benchSetTo {fl : Bool} {d b c : Nat} {h : GH} {P I W P2 I2 W2 : Nat → List Int32} {k ss k2 s2 : Int32} (hB : gBn h b k ss) (hR : gBR h b P I W) (hC : gBn h c k2 s2) (hD : gBR h c P2 I2 W2) (hA : b + 36 ≤ c ∨ c + 36 ≤ b) : gN fl (d + 4) yX0_setTo [.ref b, .ref c] h (fun o h' => o = none ∧ gBn h' b k2 s2 ∧ gBR h' b P2 I2 W2 ∧ gFo b (b + 36) h h') := by
  have hb0 := hB.1
  have hc0 := hC.1
  refine gN.of MX0_setTo (Nat.le_of_ble_eq_true rfl) (fun J n hJ => ?_)
  show J 0 [some (.ref b), some (.ref c)] [] h (n, 0, 0, fl)
  refine j_p (nx := 1) hJ dX0_setTo_0 rfl rfl ?_
  refine j_p (nx := 2) hJ dX0_setTo_1 rfl rfl ?_
  refine j_get (nx := 5) hJ dX0_setTo_2 rfl fX0_33 (by repeat (first | assumption | exact gup_same _ _ _ | rw [gup_ne _ _ (by first | decide | assumption | omega)])) (by rfl) ?_
  refine j_put (nx := 8) hJ dX0_setTo_5 rfl fX0_33 (zX0_0 _) hB.1 (Nat.le_of_ble_eq_true rfl) ?_
  have hF0 := gFo.up (b := b) (e := b + 1) h (gob 0 [.int k2, .ref (b + 1), .ref (b + 2), .ref (b + 3), .int ss]) (Nat.le_refl _) (by omega)
  have hB1 := hB.up k2 ss
  have hC1 := hC.fo hF0 (by omega)
  have hD1 := hD.fo hF0 (by omega)
  have e1 := hB1.1
  have f1 := hC1.1
  refine j_p (nx := 9) hJ dX0_setTo_8 rfl rfl ?_
  refine j_get (nx := 12) hJ dX0_setTo_9 rfl fX0_11 (by repeat (first | assumption | exact gup_same _ _ _ | rw [gup_ne _ _ (by first | decide | assumption | omega)])) (by rfl) ?_
  refine j_p (nx := 13) hJ dX0_setTo_12 rfl rfl ?_
  refine j_get (nx := 16) hJ dX0_setTo_13 rfl fX0_11 (by repeat (first | assumption | exact gup_same _ _ _ | rw [gup_ne _ _ (by first | decide | assumption | omega)])) (by rfl) ?_
  refine j_cs (nx := 19) hJ dX0_setTo_16 rfl (r_copyRows (fl := fl) (d := d) (x := c + 4) (y := b + 4) hC1.2.1 hB1.2.1 (by omega) hD1.1 (hR.1.fo hF0 (by omega)) (by omega) (by omega) (by omega)) mX0_44 rfl (gle8 rfl) (fun o h2 hp2 => ?_)
  obtain ⟨rfl, hN2, hG2⟩ := hp2
  have hB2 := hB1.fo hG2 (by omega)
  have hC2 := hC1.fo hG2 (by omega)
  have hD2 := hD1.fo hG2 (by omega)
  have e2 := hB2.1
  have f2 := hC2.1
  refine j_p (nx := 20) hJ dX0_setTo_19 rfl rfl ?_
  refine j_get (nx := 23) hJ dX0_setTo_20 rfl fX0_17 (by repeat (first | assumption | exact gup_same _ _ _ | rw [gup_ne _ _ (by first | decide | assumption | omega)])) (by rfl) ?_
  refine j_p (nx := 24) hJ dX0_setTo_23 rfl rfl ?_
  refine j_get (nx := 27) hJ dX0_setTo_24 rfl fX0_17 (by repeat (first | assumption | exact gup_same _ _ _ | rw [gup_ne _ _ (by first | decide | assumption | omega)])) (by rfl) ?_
  refine j_cs (nx := 30) hJ dX0_setTo_27 rfl (r_copyRows (fl := fl) (d := d) (x := c + 16) (y := b + 16) hC2.2.2.1 hB2.2.2.1 (by omega) hD2.2.1 ((hR.2.1.fo hF0 (by omega)).fo hG2 (by omega)) (by omega) (by omega) (by omega)) mX0_44 rfl (gle8 rfl) (fun o h3 hp3 => ?_)
  obtain ⟨rfl, hN3, hG3⟩ := hp3
  have hB3 := hB2.fo hG3 (by omega)
  have hC3 := hC2.fo hG3 (by omega)
  have hD3 := hD2.fo hG3 (by omega)
  have e3 := hB3.1
  have f3 := hC3.1
  refine j_p (nx := 31) hJ dX0_setTo_30 rfl rfl ?_
  refine j_get (nx := 34) hJ dX0_setTo_31 rfl fX0_20 (by repeat (first | assumption | exact gup_same _ _ _ | rw [gup_ne _ _ (by first | decide | assumption | omega)])) (by rfl) ?_
  refine j_p (nx := 35) hJ dX0_setTo_34 rfl rfl ?_
  refine j_get (nx := 38) hJ dX0_setTo_35 rfl fX0_20 (by repeat (first | assumption | exact gup_same _ _ _ | rw [gup_ne _ _ (by first | decide | assumption | omega)])) (by rfl) ?_
  refine j_cs (nx := 41) hJ dX0_setTo_38 rfl (r_copyRows (fl := fl) (d := d) (x := c + 24) (y := b + 24) hC3.2.2.2 hB3.2.2.2 (by omega) hD3.2.2 (((hR.2.2.fo hF0 (by omega)).fo hG2 (by omega)).fo hG3 (by omega)) (by omega) (by omega) (by omega)) mX0_44 rfl (gle8 rfl) (fun o h4 hp4 => ?_)
  obtain ⟨rfl, hN4, hG4⟩ := hp4
  have hB4 := hB3.fo hG4 (by omega)
  have hC4 := hC3.fo hG4 (by omega)
  have hD4 := hD3.fo hG4 (by omega)
  have e4 := hB4.1
  have f4 := hC4.1
  refine j_p (nx := 42) hJ dX0_setTo_41 rfl rfl ?_
  refine j_p (nx := 43) hJ dX0_setTo_42 rfl rfl ?_
  refine j_get (nx := 46) hJ dX0_setTo_43 rfl fX0_41 (by repeat (first | assumption | exact gup_same _ _ _ | rw [gup_ne _ _ (by first | decide | assumption | omega)])) (by rfl) ?_
  refine j_put (nx := 49) hJ dX0_setTo_46 rfl fX0_41 (zX0_4 _) hB4.1 (Nat.le_of_ble_eq_true rfl) ?_
  have hF5 := gFo.up (b := b) (e := b + 1) h4 (gob 0 [.int k2, .ref (b + 1), .ref (b + 2), .ref (b + 3), .int s2]) (Nat.le_refl _) (by omega)
  exact j_vret hJ dX0_setTo_49 ⟨rfl, hB4.up k2 s2, ⟨((hN2.fo hG3 (by omega)).fo hG4 (by omega)).fo hF5 (by omega), (hN3.fo hG4 (by omega)).fo hF5 (by omega), hN4.fo hF5 (by omega)⟩, ((((hF0.wide (Nat.le_refl _) (by omega)).tr (hG2.wide (by omega) (by omega))).tr (hG3.wide (by omega) (by omega))).tr (hG4.wide (by omega) (by omega))).tr (hF5.wide (Nat.le_refl _) (by omega))⟩
