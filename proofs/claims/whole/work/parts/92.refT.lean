set_option maxHeartbeats 4000000 in
theorem r6_carry1 {d : Nat} {h : GH} {a b n9 : Nat} {f g : Nat → Int32} (ha : h a = some (gia n9 f)) (hb : h b = some (gia n9 g)) (hn : n9 ≤ 1000) : gN false (d + 1) yX6_carry [.ref a, .ref b, .int 1] h (fun o h' => o = none ∧ h' = gup h b (gia n9 (va_cpy f g 0 0 n9))) := by
  refine gN.of MX6_carry (Nat.le_of_ble_eq_true rfl) (fun J n hJ => ?_)
  show J 0 [some (.ref a), some (.ref b), some (.int 1)] [] h (n, 0, 0, false)
  refine j_p (nx := 1) hJ dX6_carry_0 rfl rfl ?_
  refine j_if_eq (nx := 4) (tgt := 8) hJ dX6_carry_1 rfl (by decide) (fun c1 => absurd c1 (by decide)) (fun c1 => ?_)
  refine j_p (nx := 5) hJ dX6_carry_4 rfl rfl ?_
  refine j_go (tgt := 9) hJ dX6_carry_5 (by decide) ?_
  refine j_c (nx := 10) hJ dX6_carry_9 rfl gk_iconst_0 ?_
  refine j_p (nx := 11) hJ dX6_carry_10 rfl rfl ?_
  refine j_if_eq (nx := 14) (tgt := 18) hJ dX6_carry_11 rfl (by decide) (fun c11 => absurd c11 (by decide)) (fun c11 => ?_)
  refine j_p (nx := 15) hJ dX6_carry_14 rfl rfl ?_
  refine j_go (tgt := 19) hJ dX6_carry_15 (by decide) ?_
  refine j_c (nx := 20) hJ dX6_carry_19 rfl gk_iconst_0 ?_
  refine j_p (nx := 21) hJ dX6_carry_20 rfl rfl ?_
  refine j_len (nx := 22) hJ dX6_carry_21 rfl ha ?_
  refine j_acp (nx := 25) hJ 0 0 n9 dX6_carry_22 rfl mX6_125 (gle8 rfl) ha hb rfl rfl rfl (by omega) (by omega) (by omega) (by omega) ?_
  exact j_vret hJ dX6_carry_25 ⟨rfl, rfl⟩
set_option maxHeartbeats 4000000 in
theorem r6_carry0 {d : Nat} {h : GH} {a b n9 : Nat} {f g : Nat → Int32} (ha : h a = some (gia n9 f)) (hb : h b = some (gia n9 g)) (hn : n9 ≤ 1000) : gN false (d + 1) yX6_carry [.ref a, .ref b, .int 0] h (fun o h' => o = none ∧ h' = gup h a (gia n9 (va_cpy g f 0 0 n9))) := by
  refine gN.of MX6_carry (Nat.le_of_ble_eq_true rfl) (fun J n hJ => ?_)
  show J 0 [some (.ref a), some (.ref b), some (.int 0)] [] h (n, 0, 0, false)
  refine j_p (nx := 1) hJ dX6_carry_0 rfl rfl ?_
  refine j_if_eq (nx := 4) (tgt := 8) hJ dX6_carry_1 rfl (by decide) (fun c1 => ?_) (fun c1 => absurd c1 (by decide))
  refine j_p (nx := 9) hJ dX6_carry_8 rfl rfl ?_
  refine j_c (nx := 10) hJ dX6_carry_9 rfl gk_iconst_0 ?_
  refine j_p (nx := 11) hJ dX6_carry_10 rfl rfl ?_
  refine j_if_eq (nx := 14) (tgt := 18) hJ dX6_carry_11 rfl (by decide) (fun c11 => ?_) (fun c11 => absurd c11 (by decide))
  refine j_p (nx := 19) hJ dX6_carry_18 rfl rfl ?_
  refine j_c (nx := 20) hJ dX6_carry_19 rfl gk_iconst_0 ?_
  refine j_p (nx := 21) hJ dX6_carry_20 rfl rfl ?_
  refine j_len (nx := 22) hJ dX6_carry_21 rfl ha ?_
  refine j_acp (nx := 25) hJ 0 0 n9 dX6_carry_22 rfl mX6_125 (gle8 rfl) hb ha rfl rfl rfl (by omega) (by omega) (by omega) (by omega) ?_
  exact j_vret hJ dX6_carry_25 ⟨rfl, rfl⟩
set_option maxHeartbeats 4000000 in
theorem r6_carryAll1 {d : Nat} {h0 h : GH} {A : Nat → Nat → Int32} {E : Nat → Nat → Int64} {M : Nat → Int32} {pv tv : Value} (hP : gP h0 h A E M pv tv) : gN false (d + 2) yX6_carryAll [.ref 99, .int 1] h (fun o h' => o = none ∧ ∃ A1, gP h0 h' A1 E M pv tv ∧ ((∀ i, i < 48 → A1 120 i = A 100 i) ∧ (∀ i, i < 6 → A1 121 i = A 101 i) ∧ (∀ i, i < 48 → A1 122 i = A 102 i) ∧ (∀ i, i < 6 → A1 123 i = A 103 i) ∧ (∀ i, i < 32 → A1 124 i = A 104 i) ∧ (∀ i, i < 4 → A1 125 i = A 105 i)) ∧ (∀ a, a ≠ 120 → a ≠ 121 → a ≠ 122 → a ≠ 123 → a ≠ 124 → a ≠ 125 → A1 a = A a)) := by
  refine gN.of MX6_carryAll (Nat.le_of_ble_eq_true rfl) (fun J n hJ => ?_)
  show J 0 [some (.ref 99), some (.int 1)] [] h (n, 0, 0, false)
  refine j_p (nx := 1) hJ dX6_carryAll_0 rfl rfl ?_
  refine j_get (nx := 4) hJ dX6_carryAll_1 rfl fX6_15 hP.1.1 (by rfl) ?_
  refine j_p (nx := 5) hJ dX6_carryAll_4 rfl rfl ?_
  refine j_get (nx := 8) hJ dX6_carryAll_5 rfl fX6_77 hP.1.1 (by rfl) ?_
  refine j_p (nx := 9) hJ dX6_carryAll_8 rfl rfl ?_
  refine j_cs (nx := 12) hJ dX6_carryAll_9 rfl (r6_carry1 (d := d) (n9 := 48) (f := A 100) (g := A 120) (hP.a 100 (by unfold gia'; omega)) (hP.a 120 (by unfold gia'; omega)) (by omega)) mX6_280 rfl (gle8 rfl) (fun o g0 hp => ?_)
  obtain ⟨rfl, rfl⟩ := hp
  have hP1 := hP.arr (a := 120) (by unfold gia'; omega) (va_cpy (A 100) (A 120) 0 0 48)
  obtain ⟨B0, hB0⟩ : ∃ B, B = gU A 120 (va_cpy (A 100) (A 120) 0 0 48) := ⟨_, rfl⟩
  rw [← hB0] at hP1
  refine j_p (nx := 13) hJ dX6_carryAll_12 rfl rfl ?_
  refine j_get (nx := 16) hJ dX6_carryAll_13 rfl fX6_19 hP1.1.1 (by rfl) ?_
  refine j_p (nx := 17) hJ dX6_carryAll_16 rfl rfl ?_
  refine j_get (nx := 20) hJ dX6_carryAll_17 rfl fX6_80 hP1.1.1 (by rfl) ?_
  refine j_p (nx := 21) hJ dX6_carryAll_20 rfl rfl ?_
  refine j_cs (nx := 24) hJ dX6_carryAll_21 rfl (r6_carry1 (d := d) (n9 := 6) (f := B0 101) (g := B0 121) (hP1.a 101 (by unfold gia'; omega)) (hP1.a 121 (by unfold gia'; omega)) (by omega)) mX6_280 rfl (gle8 rfl) (fun o g1 hp => ?_)
  obtain ⟨rfl, rfl⟩ := hp
  have hP2 := hP1.arr (a := 121) (by unfold gia'; omega) (va_cpy (B0 101) (B0 121) 0 0 6)
  obtain ⟨B1, hB1⟩ : ∃ B, B = gU B0 121 (va_cpy (B0 101) (B0 121) 0 0 6) := ⟨_, rfl⟩
  rw [← hB1] at hP2
  refine j_p (nx := 25) hJ dX6_carryAll_24 rfl rfl ?_
  refine j_get (nx := 28) hJ dX6_carryAll_25 rfl fX6_22 hP2.1.1 (by rfl) ?_
  refine j_p (nx := 29) hJ dX6_carryAll_28 rfl rfl ?_
  refine j_get (nx := 32) hJ dX6_carryAll_29 rfl fX6_83 hP2.1.1 (by rfl) ?_
  refine j_p (nx := 33) hJ dX6_carryAll_32 rfl rfl ?_
  refine j_cs (nx := 36) hJ dX6_carryAll_33 rfl (r6_carry1 (d := d) (n9 := 48) (f := B1 102) (g := B1 122) (hP2.a 102 (by unfold gia'; omega)) (hP2.a 122 (by unfold gia'; omega)) (by omega)) mX6_280 rfl (gle8 rfl) (fun o g2 hp => ?_)
  obtain ⟨rfl, rfl⟩ := hp
  have hP3 := hP2.arr (a := 122) (by unfold gia'; omega) (va_cpy (B1 102) (B1 122) 0 0 48)
  obtain ⟨B2, hB2⟩ : ∃ B, B = gU B1 122 (va_cpy (B1 102) (B1 122) 0 0 48) := ⟨_, rfl⟩
  rw [← hB2] at hP3
  refine j_p (nx := 37) hJ dX6_carryAll_36 rfl rfl ?_
  refine j_get (nx := 40) hJ dX6_carryAll_37 rfl fX6_25 hP3.1.1 (by rfl) ?_
  refine j_p (nx := 41) hJ dX6_carryAll_40 rfl rfl ?_
  refine j_get (nx := 44) hJ dX6_carryAll_41 rfl fX6_86 hP3.1.1 (by rfl) ?_
  refine j_p (nx := 45) hJ dX6_carryAll_44 rfl rfl ?_
  refine j_cs (nx := 48) hJ dX6_carryAll_45 rfl (r6_carry1 (d := d) (n9 := 6) (f := B2 103) (g := B2 123) (hP3.a 103 (by unfold gia'; omega)) (hP3.a 123 (by unfold gia'; omega)) (by omega)) mX6_280 rfl (gle8 rfl) (fun o g3 hp => ?_)
  obtain ⟨rfl, rfl⟩ := hp
  have hP4 := hP3.arr (a := 123) (by unfold gia'; omega) (va_cpy (B2 103) (B2 123) 0 0 6)
  obtain ⟨B3, hB3⟩ : ∃ B, B = gU B2 123 (va_cpy (B2 103) (B2 123) 0 0 6) := ⟨_, rfl⟩
  rw [← hB3] at hP4
  refine j_p (nx := 49) hJ dX6_carryAll_48 rfl rfl ?_
  refine j_get (nx := 52) hJ dX6_carryAll_49 rfl fX6_28 hP4.1.1 (by rfl) ?_
  refine j_p (nx := 53) hJ dX6_carryAll_52 rfl rfl ?_
  refine j_get (nx := 56) hJ dX6_carryAll_53 rfl fX6_89 hP4.1.1 (by rfl) ?_
  refine j_p (nx := 57) hJ dX6_carryAll_56 rfl rfl ?_
  refine j_cs (nx := 60) hJ dX6_carryAll_57 rfl (r6_carry1 (d := d) (n9 := 32) (f := B3 104) (g := B3 124) (hP4.a 104 (by unfold gia'; omega)) (hP4.a 124 (by unfold gia'; omega)) (by omega)) mX6_280 rfl (gle8 rfl) (fun o g4 hp => ?_)
  obtain ⟨rfl, rfl⟩ := hp
  have hP5 := hP4.arr (a := 124) (by unfold gia'; omega) (va_cpy (B3 104) (B3 124) 0 0 32)
  obtain ⟨B4, hB4⟩ : ∃ B, B = gU B3 124 (va_cpy (B3 104) (B3 124) 0 0 32) := ⟨_, rfl⟩
  rw [← hB4] at hP5
  refine j_p (nx := 61) hJ dX6_carryAll_60 rfl rfl ?_
  refine j_get (nx := 64) hJ dX6_carryAll_61 rfl fX6_31 hP5.1.1 (by rfl) ?_
  refine j_p (nx := 65) hJ dX6_carryAll_64 rfl rfl ?_
  refine j_get (nx := 68) hJ dX6_carryAll_65 rfl fX6_92 hP5.1.1 (by rfl) ?_
  refine j_p (nx := 69) hJ dX6_carryAll_68 rfl rfl ?_
  refine j_cs (nx := 72) hJ dX6_carryAll_69 rfl (r6_carry1 (d := d) (n9 := 4) (f := B4 105) (g := B4 125) (hP5.a 105 (by unfold gia'; omega)) (hP5.a 125 (by unfold gia'; omega)) (by omega)) mX6_280 rfl (gle8 rfl) (fun o g5 hp => ?_)
  obtain ⟨rfl, rfl⟩ := hp
  have hP6 := hP5.arr (a := 125) (by unfold gia'; omega) (va_cpy (B4 105) (B4 125) 0 0 4)
  obtain ⟨B5, hB5⟩ : ∃ B, B = gU B4 125 (va_cpy (B4 105) (B4 125) 0 0 4) := ⟨_, rfl⟩
  rw [← hB5] at hP6
  refine j_vret hJ dX6_carryAll_72 ⟨rfl, B5, hP6, ⟨?_, ?_, ?_, ?_, ?_, ?_⟩, fun a p0 p1 p2 p3 p4 p5 => ?_⟩
  · intro i hi; rw [hB5, gU_n _ _ (by omega)]; rw [hB4, gU_n _ _ (by omega)]; rw [hB3, gU_n _ _ (by omega)]; rw [hB2, gU_n _ _ (by omega)]; rw [hB1, gU_n _ _ (by omega)]; rw [hB0, gU_s]; unfold va_cpy; rw [if_pos ⟨by omega, by omega⟩, show 0 + (i - 0) = i by omega]
  · intro i hi; rw [hB5, gU_n _ _ (by omega)]; rw [hB4, gU_n _ _ (by omega)]; rw [hB3, gU_n _ _ (by omega)]; rw [hB2, gU_n _ _ (by omega)]; rw [hB1, gU_s]; unfold va_cpy; rw [if_pos ⟨by omega, by omega⟩, show 0 + (i - 0) = i by omega]; rw [hB0, gU_n _ _ (by omega)]
  · intro i hi; rw [hB5, gU_n _ _ (by omega)]; rw [hB4, gU_n _ _ (by omega)]; rw [hB3, gU_n _ _ (by omega)]; rw [hB2, gU_s]; unfold va_cpy; rw [if_pos ⟨by omega, by omega⟩, show 0 + (i - 0) = i by omega]; rw [hB1, gU_n _ _ (by omega)]; rw [hB0, gU_n _ _ (by omega)]
  · intro i hi; rw [hB5, gU_n _ _ (by omega)]; rw [hB4, gU_n _ _ (by omega)]; rw [hB3, gU_s]; unfold va_cpy; rw [if_pos ⟨by omega, by omega⟩, show 0 + (i - 0) = i by omega]; rw [hB2, gU_n _ _ (by omega)]; rw [hB1, gU_n _ _ (by omega)]; rw [hB0, gU_n _ _ (by omega)]
  · intro i hi; rw [hB5, gU_n _ _ (by omega)]; rw [hB4, gU_s]; unfold va_cpy; rw [if_pos ⟨by omega, by omega⟩, show 0 + (i - 0) = i by omega]; rw [hB3, gU_n _ _ (by omega)]; rw [hB2, gU_n _ _ (by omega)]; rw [hB1, gU_n _ _ (by omega)]; rw [hB0, gU_n _ _ (by omega)]
  · intro i hi; rw [hB5, gU_s]; unfold va_cpy; rw [if_pos ⟨by omega, by omega⟩, show 0 + (i - 0) = i by omega]; rw [hB4, gU_n _ _ (by omega)]; rw [hB3, gU_n _ _ (by omega)]; rw [hB2, gU_n _ _ (by omega)]; rw [hB1, gU_n _ _ (by omega)]; rw [hB0, gU_n _ _ (by omega)]
  · rw [hB5, gU_n _ _ p5, hB4, gU_n _ _ p4, hB3, gU_n _ _ p3, hB2, gU_n _ _ p2, hB1, gU_n _ _ p1, hB0, gU_n _ _ p0]
set_option maxHeartbeats 4000000 in
theorem r6_carryAll0 {d : Nat} {h0 h : GH} {A : Nat → Nat → Int32} {E : Nat → Nat → Int64} {M : Nat → Int32} {pv tv : Value} (hP : gP h0 h A E M pv tv) : gN false (d + 2) yX6_carryAll [.ref 99, .int 0] h (fun o h' => o = none ∧ ∃ A1, gP h0 h' A1 E M pv tv ∧ ((∀ i, i < 48 → A1 100 i = A 120 i) ∧ (∀ i, i < 6 → A1 101 i = A 121 i) ∧ (∀ i, i < 48 → A1 102 i = A 122 i) ∧ (∀ i, i < 6 → A1 103 i = A 123 i) ∧ (∀ i, i < 32 → A1 104 i = A 124 i) ∧ (∀ i, i < 4 → A1 105 i = A 125 i)) ∧ (∀ a, a ≠ 100 → a ≠ 101 → a ≠ 102 → a ≠ 103 → a ≠ 104 → a ≠ 105 → A1 a = A a)) := by
  refine gN.of MX6_carryAll (Nat.le_of_ble_eq_true rfl) (fun J n hJ => ?_)
  show J 0 [some (.ref 99), some (.int 0)] [] h (n, 0, 0, false)
  refine j_p (nx := 1) hJ dX6_carryAll_0 rfl rfl ?_
  refine j_get (nx := 4) hJ dX6_carryAll_1 rfl fX6_15 hP.1.1 (by rfl) ?_
  refine j_p (nx := 5) hJ dX6_carryAll_4 rfl rfl ?_
  refine j_get (nx := 8) hJ dX6_carryAll_5 rfl fX6_77 hP.1.1 (by rfl) ?_
  refine j_p (nx := 9) hJ dX6_carryAll_8 rfl rfl ?_
  refine j_cs (nx := 12) hJ dX6_carryAll_9 rfl (r6_carry0 (d := d) (n9 := 48) (f := A 100) (g := A 120) (hP.a 100 (by unfold gia'; omega)) (hP.a 120 (by unfold gia'; omega)) (by omega)) mX6_280 rfl (gle8 rfl) (fun o g0 hp => ?_)
  obtain ⟨rfl, rfl⟩ := hp
  have hP1 := hP.arr (a := 100) (by unfold gia'; omega) (va_cpy (A 120) (A 100) 0 0 48)
  obtain ⟨B0, hB0⟩ : ∃ B, B = gU A 100 (va_cpy (A 120) (A 100) 0 0 48) := ⟨_, rfl⟩
  rw [← hB0] at hP1
  refine j_p (nx := 13) hJ dX6_carryAll_12 rfl rfl ?_
  refine j_get (nx := 16) hJ dX6_carryAll_13 rfl fX6_19 hP1.1.1 (by rfl) ?_
  refine j_p (nx := 17) hJ dX6_carryAll_16 rfl rfl ?_
  refine j_get (nx := 20) hJ dX6_carryAll_17 rfl fX6_80 hP1.1.1 (by rfl) ?_
  refine j_p (nx := 21) hJ dX6_carryAll_20 rfl rfl ?_
  refine j_cs (nx := 24) hJ dX6_carryAll_21 rfl (r6_carry0 (d := d) (n9 := 6) (f := B0 101) (g := B0 121) (hP1.a 101 (by unfold gia'; omega)) (hP1.a 121 (by unfold gia'; omega)) (by omega)) mX6_280 rfl (gle8 rfl) (fun o g1 hp => ?_)
  obtain ⟨rfl, rfl⟩ := hp
  have hP2 := hP1.arr (a := 101) (by unfold gia'; omega) (va_cpy (B0 121) (B0 101) 0 0 6)
  obtain ⟨B1, hB1⟩ : ∃ B, B = gU B0 101 (va_cpy (B0 121) (B0 101) 0 0 6) := ⟨_, rfl⟩
  rw [← hB1] at hP2
  refine j_p (nx := 25) hJ dX6_carryAll_24 rfl rfl ?_
  refine j_get (nx := 28) hJ dX6_carryAll_25 rfl fX6_22 hP2.1.1 (by rfl) ?_
  refine j_p (nx := 29) hJ dX6_carryAll_28 rfl rfl ?_
  refine j_get (nx := 32) hJ dX6_carryAll_29 rfl fX6_83 hP2.1.1 (by rfl) ?_
  refine j_p (nx := 33) hJ dX6_carryAll_32 rfl rfl ?_
  refine j_cs (nx := 36) hJ dX6_carryAll_33 rfl (r6_carry0 (d := d) (n9 := 48) (f := B1 102) (g := B1 122) (hP2.a 102 (by unfold gia'; omega)) (hP2.a 122 (by unfold gia'; omega)) (by omega)) mX6_280 rfl (gle8 rfl) (fun o g2 hp => ?_)
  obtain ⟨rfl, rfl⟩ := hp
  have hP3 := hP2.arr (a := 102) (by unfold gia'; omega) (va_cpy (B1 122) (B1 102) 0 0 48)
  obtain ⟨B2, hB2⟩ : ∃ B, B = gU B1 102 (va_cpy (B1 122) (B1 102) 0 0 48) := ⟨_, rfl⟩
  rw [← hB2] at hP3
  refine j_p (nx := 37) hJ dX6_carryAll_36 rfl rfl ?_
  refine j_get (nx := 40) hJ dX6_carryAll_37 rfl fX6_25 hP3.1.1 (by rfl) ?_
  refine j_p (nx := 41) hJ dX6_carryAll_40 rfl rfl ?_
  refine j_get (nx := 44) hJ dX6_carryAll_41 rfl fX6_86 hP3.1.1 (by rfl) ?_
  refine j_p (nx := 45) hJ dX6_carryAll_44 rfl rfl ?_
  refine j_cs (nx := 48) hJ dX6_carryAll_45 rfl (r6_carry0 (d := d) (n9 := 6) (f := B2 103) (g := B2 123) (hP3.a 103 (by unfold gia'; omega)) (hP3.a 123 (by unfold gia'; omega)) (by omega)) mX6_280 rfl (gle8 rfl) (fun o g3 hp => ?_)
  obtain ⟨rfl, rfl⟩ := hp
  have hP4 := hP3.arr (a := 103) (by unfold gia'; omega) (va_cpy (B2 123) (B2 103) 0 0 6)
  obtain ⟨B3, hB3⟩ : ∃ B, B = gU B2 103 (va_cpy (B2 123) (B2 103) 0 0 6) := ⟨_, rfl⟩
  rw [← hB3] at hP4
  refine j_p (nx := 49) hJ dX6_carryAll_48 rfl rfl ?_
  refine j_get (nx := 52) hJ dX6_carryAll_49 rfl fX6_28 hP4.1.1 (by rfl) ?_
  refine j_p (nx := 53) hJ dX6_carryAll_52 rfl rfl ?_
  refine j_get (nx := 56) hJ dX6_carryAll_53 rfl fX6_89 hP4.1.1 (by rfl) ?_
  refine j_p (nx := 57) hJ dX6_carryAll_56 rfl rfl ?_
  refine j_cs (nx := 60) hJ dX6_carryAll_57 rfl (r6_carry0 (d := d) (n9 := 32) (f := B3 104) (g := B3 124) (hP4.a 104 (by unfold gia'; omega)) (hP4.a 124 (by unfold gia'; omega)) (by omega)) mX6_280 rfl (gle8 rfl) (fun o g4 hp => ?_)
  obtain ⟨rfl, rfl⟩ := hp
  have hP5 := hP4.arr (a := 104) (by unfold gia'; omega) (va_cpy (B3 124) (B3 104) 0 0 32)
  obtain ⟨B4, hB4⟩ : ∃ B, B = gU B3 104 (va_cpy (B3 124) (B3 104) 0 0 32) := ⟨_, rfl⟩
  rw [← hB4] at hP5
  refine j_p (nx := 61) hJ dX6_carryAll_60 rfl rfl ?_
  refine j_get (nx := 64) hJ dX6_carryAll_61 rfl fX6_31 hP5.1.1 (by rfl) ?_
  refine j_p (nx := 65) hJ dX6_carryAll_64 rfl rfl ?_
  refine j_get (nx := 68) hJ dX6_carryAll_65 rfl fX6_92 hP5.1.1 (by rfl) ?_
  refine j_p (nx := 69) hJ dX6_carryAll_68 rfl rfl ?_
  refine j_cs (nx := 72) hJ dX6_carryAll_69 rfl (r6_carry0 (d := d) (n9 := 4) (f := B4 105) (g := B4 125) (hP5.a 105 (by unfold gia'; omega)) (hP5.a 125 (by unfold gia'; omega)) (by omega)) mX6_280 rfl (gle8 rfl) (fun o g5 hp => ?_)
  obtain ⟨rfl, rfl⟩ := hp
  have hP6 := hP5.arr (a := 105) (by unfold gia'; omega) (va_cpy (B4 125) (B4 105) 0 0 4)
  obtain ⟨B5, hB5⟩ : ∃ B, B = gU B4 105 (va_cpy (B4 125) (B4 105) 0 0 4) := ⟨_, rfl⟩
  rw [← hB5] at hP6
  refine j_vret hJ dX6_carryAll_72 ⟨rfl, B5, hP6, ⟨?_, ?_, ?_, ?_, ?_, ?_⟩, fun a p0 p1 p2 p3 p4 p5 => ?_⟩
  · intro i hi; rw [hB5, gU_n _ _ (by omega)]; rw [hB4, gU_n _ _ (by omega)]; rw [hB3, gU_n _ _ (by omega)]; rw [hB2, gU_n _ _ (by omega)]; rw [hB1, gU_n _ _ (by omega)]; rw [hB0, gU_s]; unfold va_cpy; rw [if_pos ⟨by omega, by omega⟩, show 0 + (i - 0) = i by omega]
  · intro i hi; rw [hB5, gU_n _ _ (by omega)]; rw [hB4, gU_n _ _ (by omega)]; rw [hB3, gU_n _ _ (by omega)]; rw [hB2, gU_n _ _ (by omega)]; rw [hB1, gU_s]; unfold va_cpy; rw [if_pos ⟨by omega, by omega⟩, show 0 + (i - 0) = i by omega]; rw [hB0, gU_n _ _ (by omega)]
  · intro i hi; rw [hB5, gU_n _ _ (by omega)]; rw [hB4, gU_n _ _ (by omega)]; rw [hB3, gU_n _ _ (by omega)]; rw [hB2, gU_s]; unfold va_cpy; rw [if_pos ⟨by omega, by omega⟩, show 0 + (i - 0) = i by omega]; rw [hB1, gU_n _ _ (by omega)]; rw [hB0, gU_n _ _ (by omega)]
  · intro i hi; rw [hB5, gU_n _ _ (by omega)]; rw [hB4, gU_n _ _ (by omega)]; rw [hB3, gU_s]; unfold va_cpy; rw [if_pos ⟨by omega, by omega⟩, show 0 + (i - 0) = i by omega]; rw [hB2, gU_n _ _ (by omega)]; rw [hB1, gU_n _ _ (by omega)]; rw [hB0, gU_n _ _ (by omega)]
  · intro i hi; rw [hB5, gU_n _ _ (by omega)]; rw [hB4, gU_s]; unfold va_cpy; rw [if_pos ⟨by omega, by omega⟩, show 0 + (i - 0) = i by omega]; rw [hB3, gU_n _ _ (by omega)]; rw [hB2, gU_n _ _ (by omega)]; rw [hB1, gU_n _ _ (by omega)]; rw [hB0, gU_n _ _ (by omega)]
  · intro i hi; rw [hB5, gU_s]; unfold va_cpy; rw [if_pos ⟨by omega, by omega⟩, show 0 + (i - 0) = i by omega]; rw [hB4, gU_n _ _ (by omega)]; rw [hB3, gU_n _ _ (by omega)]; rw [hB2, gU_n _ _ (by omega)]; rw [hB1, gU_n _ _ (by omega)]; rw [hB0, gU_n _ _ (by omega)]
  · rw [hB5, gU_n _ _ p5, hB4, gU_n _ _ p4, hB3, gU_n _ _ p3, hB2, gU_n _ _ p2, hB1, gU_n _ _ p1, hB0, gU_n _ _ p0]
