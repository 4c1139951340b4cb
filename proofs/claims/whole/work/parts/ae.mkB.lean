/-- the first state -/
def gR0 : Nat → List Int32 := fun a => if (5 ≤ a ∧ a < 17) ∨ (41 ≤ a ∧ a < 53) then [10] else if (17 ≤ a ∧ a < 25) ∨ (53 ≤ a ∧ a < 61) then [0] else []
def gN0 : Nat → Int32 := fun i => if i = 1 ∨ i = 37 then 2 else if i = 87 ∨ i = 90 ∨ i = 93 ∨ i = 96 then -1 else 0
theorem gRow.lo {h h' : GH} {r q cap : Nat} {l : List Int32} (hR : gRow h r q cap l) (e1 : h' r = h r) (e2 : h' q = h q) : gRow h' r q cap l := by
  obtain ⟨a1, a2, a3, a4, f, a5, a6⟩ := hR
  exact ⟨a1, a2, a3, e1.trans a4, f, e2.trans a5, a6⟩
theorem gMk.at {fl : Bool} {d : Nat} {y : MethodName} {vs : List Value} {h : GH} {n n2 mc ms : Nat} {P : GH → Prop} (e : n = n2) (hM : gMk fl d y vs h n mc ms P) : gMk fl d y vs h n2 mc ms P := e ▸ hM
set_option maxHeartbeats 4000000 in
theorem r_mkClass {d : Nat} {h : GH} (ha : h 0 = some (gob 5 [.null, .null, .int 0, .null, .null, .null, .null, .null, .null])) : gMk true (d + 6) yX5_init [.ref 0] h 1 102 635 (fun h' => gK h' gR0 gN0 ∧ ∀ b, 99 ≤ b ∧ (b < 126 ∨ 130 ≤ b) → h' b = h b) := by
  refine gMk.of MX5_init (Nat.le_of_ble_eq_true rfl) (fun J hJ => ?_)
  show J 0 [some (.ref 0), none] [] h (1, 102, 635, true)
  refine j_p (nx := 1) hJ dX5_init_0 rfl rfl ?_
  refine j_obj (nx := 4) hJ dX5_init_1 rfl oX5_3 (gle8 rfl) ?_
  refine j_p (nx := 5) hJ dX5_init_4 rfl rfl ?_
  refine j_new (nx := 8) hJ (101) (630) dX5_init_5 rfl wX5_9 (by omega) (by omega) (by omega) ?_
  refine j_p (nx := 9) hJ dX5_init_8 rfl rfl ?_
  refine j_mk (nx := 12) hJ (66) (454) dX5_init_9 rfl (r_mkBench (d := d) (a := 1) (gup_same _ _ _) (by omega)) pX5_11 rfl (gle8 rfl) (by omega) (by omega) (fun h1 hp => ?_)
  obtain ⟨B1, R1, o1⟩ := hp
  have x1 : h1 0 = some (gob 5 [.null, .null, .int 0, .null, .null, .null, .null, .null, .null]) := by rw [o1 0 (by omega), gup_ne _ _ (by omega)]; exact ha
  refine j_putF (nx := 15) hJ dX5_init_12 rfl fX5_12 (by decide +kernel) (zX5_0 _) (show h1 0 = some (gob 5 [.null, .null, .int 0, .null, .null, .null, .null, .null, .null]) from x1) (Nat.le_of_ble_eq_true rfl) ?_
  change J 15 _ _ (gup h1 0 (gob 5 [.ref 1, .null, .int 0, .null, .null, .null, .null, .null, .null])) _
  refine j_p (nx := 16) hJ dX5_init_15 rfl rfl ?_
  refine j_new (nx := 19) hJ (65) (449) dX5_init_16 rfl wX5_9 (by omega) (by omega) (by omega) ?_
  refine j_p (nx := 20) hJ dX5_init_19 rfl rfl ?_
  refine j_mk (nx := 23) hJ (30) (273) dX5_init_20 rfl (r_mkBench (d := d) (a := 37) (gup_same _ _ _) (by omega)) pX5_11 rfl (gle8 rfl) (by omega) (by omega) (fun h2 hp => ?_)
  obtain ⟨B2, R2, o2⟩ := hp
  have x2 : h2 0 = some (gob 5 [.ref 1, .null, .int 0, .null, .null, .null, .null, .null, .null]) := by rw [o2 0 (by omega), gup_ne _ _ (by omega), gup_same]
  have w2 : ∀ b, b ≠ 0 → b < 37 → h2 b = h1 b := fun b b0 b1 => by rw [o2 b (by omega), gup_ne _ _ (by omega), gup_ne _ _ (by omega)]
  refine j_putF (nx := 26) hJ dX5_init_23 rfl fX5_18 (by decide +kernel) (zX5_1 _) (show h2 0 = some (gob 5 [.ref 1, .null, .int 0, .null, .null, .null, .null, .null, .null]) from x2) (Nat.le_of_ble_eq_true rfl) ?_
  change J 26 _ _ (gup h2 0 (gob 5 [.ref 1, .ref 37, .int 0, .null, .null, .null, .null, .null, .null])) _
  refine j_p (nx := 27) hJ dX5_init_26 rfl rfl ?_
  refine j_c (nx := 28) hJ dX5_init_27 rfl gk_iconst_0 ?_
  refine j_put (nx := 31) hJ dX5_init_28 rfl fX5_21 (zX5_2 false) (gup_same _ _ _) (Nat.le_of_ble_eq_true rfl) ?_
  change J 31 _ _ (gup (gup h2 0 (gob 5 [.ref 1, .ref 37, .int 0, .null, .null, .null, .null, .null, .null])) 0 (gob 5 [.ref 1, .ref 37, .int 0, .null, .null, .null, .null, .null, .null])) _
  refine j_p (nx := 32) hJ dX5_init_31 rfl rfl ?_
  refine j_new (nx := 35) hJ (29) (271) dX5_init_32 rfl wX5_25 (by omega) (by omega) (by omega) ?_
  refine j_p (nx := 36) hJ dX5_init_35 rfl rfl ?_
  refine j_c (nx := 38) hJ dX5_init_36 rfl gk_bipush_20 ?_
  refine j_mk (nx := 41) hJ (28) (251) dX5_init_38 rfl (r_mkRow (d := d + 3) (a := 73) (n := 74) (q := 74) (cap := 20) (gup_same _ _ _) rfl (by omega) rfl (by omega) (by omega)) pX5_27 rfl (gle8 rfl) (by omega) (by omega) (fun h3 hp => ?_)
  obtain ⟨R3, o3⟩ := hp
  have x3 : h3 0 = some (gob 5 [.ref 1, .ref 37, .int 0, .null, .null, .null, .null, .null, .null]) := by rw [o3 0 (by omega) (by omega), gup_ne _ _ (by omega), gup_same]
  have w3 : ∀ b, b ≠ 0 → b < 73 → h3 b = h2 b := fun b b0 b1 => by rw [o3 b (by omega) (by omega), gup_ne _ _ (by omega), gup_ne _ _ (by omega), gup_ne _ _ (by omega)]
  refine j_putF (nx := 44) hJ dX5_init_41 rfl fX5_30 (by decide +kernel) (zX5_3 _) (show h3 0 = some (gob 5 [.ref 1, .ref 37, .int 0, .null, .null, .null, .null, .null, .null]) from x3) (Nat.le_of_ble_eq_true rfl) ?_
  change J 44 _ _ (gup h3 0 (gob 5 [.ref 1, .ref 37, .int 0, .ref 73, .null, .null, .null, .null, .null])) _
  refine j_p (nx := 45) hJ dX5_init_44 rfl rfl ?_
  refine j_c (nx := 46) hJ dX5_init_45 rfl gk_iconst_4 ?_
  refine j_anw (nx := 49) hJ (4) (27) (247) dX5_init_46 rfl lX5_34 (rfl : vwCl[4]? = some _) (by omega) rfl (by omega) (by omega) (by omega) (by omega) ?_
  have s4 : (gup (gup h3 0 (gob 5 [.ref 1, .ref 37, .int 0, .ref 73, .null, .null, .null, .null, .null])) 75 (gra 4 4 (fun _ => none))) 75 = some (gra 4 4 (fun _ => none)) := gup_same _ _ _
  have x4 : (gup (gup h3 0 (gob 5 [.ref 1, .ref 37, .int 0, .ref 73, .null, .null, .null, .null, .null])) 75 (gra 4 4 (fun _ => none))) 0 = some (gob 5 [.ref 1, .ref 37, .int 0, .ref 73, .null, .null, .null, .null, .null]) := by rw [gup_ne _ _ (by omega), gup_same]
  have w4 : ∀ b, b ≠ 0 → b < 75 → (gup (gup h3 0 (gob 5 [.ref 1, .ref 37, .int 0, .ref 73, .null, .null, .null, .null, .null])) 75 (gra 4 4 (fun _ => none))) b = h3 b := fun b b0 b1 => by rw [gup_ne _ _ (by omega), gup_ne _ _ (by omega)]
  have y4 : ∀ b, 99 ≤ b → (gup (gup h3 0 (gob 5 [.ref 1, .ref 37, .int 0, .ref 73, .null, .null, .null, .null, .null])) 75 (gra 4 4 (fun _ => none))) b = h3 b := fun b hb => by rw [gup_ne _ _ (by omega), gup_ne _ _ (by omega)]
  generalize (gup (gup h3 0 (gob 5 [.ref 1, .ref 37, .int 0, .ref 73, .null, .null, .null, .null, .null])) 75 (gra 4 4 (fun _ => none))) = h4 at s4 x4 w4 y4 ⊢
  refine j_putF (nx := 52) hJ dX5_init_49 rfl fX5_36 (by decide +kernel) (zX5_4 _) (show h4 0 = some (gob 5 [.ref 1, .ref 37, .int 0, .ref 73, .null, .null, .null, .null, .null]) from x4) (Nat.le_of_ble_eq_true rfl) ?_
  change J 52 _ _ (gup h4 0 (gob 5 [.ref 1, .ref 37, .int 0, .ref 73, .ref 75, .null, .null, .null, .null])) _
  refine j_p (nx := 53) hJ dX5_init_52 rfl rfl ?_
  refine j_new (nx := 56) hJ (26) (241) dX5_init_53 rfl wX5_40 (by omega) (by omega) (by omega) ?_
  refine j_p (nx := 57) hJ dX5_init_56 rfl rfl ?_
  refine j_mkN (nx := 60) hJ (23) (229) dX5_init_57 rfl (r_mkMatcher (d := d + 4) (a := 76) (n := 77) (gup_same _ _ _) (by omega) rfl rfl rfl) pX5_42 rfl (gle8 rfl) (by omega) (by omega) (fun h5 hp => ?_)
  obtain ⟨s5, t5, u5, v5, o5⟩ := hp
  have x5 : h5 0 = some (gob 5 [.ref 1, .ref 37, .int 0, .ref 73, .ref 75, .null, .null, .null, .null]) := by rw [o5 0 (by omega), gup_ne _ _ (by omega), gup_same]
  have w5 : ∀ b, b ≠ 0 → b < 76 → h5 b = h4 b := fun b b0 b1 => by rw [o5 b (by omega), gup_ne _ _ (by omega), gup_ne _ _ (by omega)]
  refine j_putF (nx := 63) hJ dX5_init_60 rfl fX5_43 (by decide +kernel) (zX5_5 _) (show h5 0 = some (gob 5 [.ref 1, .ref 37, .int 0, .ref 73, .ref 75, .null, .null, .null, .null]) from x5) (Nat.le_of_ble_eq_true rfl) ?_
  change J 63 _ _ (gup h5 0 (gob 5 [.ref 1, .ref 37, .int 0, .ref 73, .ref 75, .ref 76, .null, .null, .null])) _
  refine j_p (nx := 64) hJ dX5_init_63 rfl rfl ?_
  refine j_new (nx := 67) hJ (22) (224) dX5_init_64 rfl wX5_47 (by omega) (by omega) (by omega) ?_
  refine j_p (nx := 68) hJ dX5_init_67 rfl rfl ?_
  refine j_mkN (nx := 71) hJ (16) (196) dX5_init_68 rfl (r_mkSearch (d := d + 2) (gup_same _ _ _)) pX5_49 rfl (gle8 rfl) (by omega) (by omega) (fun h6 hp => ?_)
  obtain ⟨s6, m6, R6, o6⟩ := hp
  have x6 : h6 0 = some (gob 5 [.ref 1, .ref 37, .int 0, .ref 73, .ref 75, .ref 76, .null, .null, .null]) := by rw [o6 0 (by omega), gup_ne _ _ (by omega), gup_same]
  have w6 : ∀ b, b ≠ 0 → b < 80 → h6 b = h5 b := fun b b0 b1 => by rw [o6 b (by omega), gup_ne _ _ (by omega), gup_ne _ _ (by omega)]
  refine j_putF (nx := 74) hJ dX5_init_71 rfl fX5_50 (by decide +kernel) (zX5_6 _) (show h6 0 = some (gob 5 [.ref 1, .ref 37, .int 0, .ref 73, .ref 75, .ref 76, .null, .null, .null]) from x6) (Nat.le_of_ble_eq_true rfl) ?_
  change J 74 _ _ (gup h6 0 (gob 5 [.ref 1, .ref 37, .int 0, .ref 73, .ref 75, .ref 76, .ref 80, .null, .null])) _
  refine j_p (nx := 75) hJ dX5_init_74 rfl rfl ?_
  refine j_newG (nx := 78) hJ (83) (15) (194) dX5_init_75 rfl wX5_25 (by omega) (by omega) (rfl) (by omega) ?_
  refine j_p (nx := 79) hJ dX5_init_78 rfl rfl ?_
  refine j_c (nx := 81) hJ dX5_init_79 rfl gk_bipush_8 ?_
  refine j_mk (nx := 84) hJ (14) (186) dX5_init_81 rfl (r_mkRow (d := d + 3) (a := 83) (n := 88) (q := 84) (cap := 8) (gup_same _ _ _) rfl (by omega) rfl (by omega) (by omega)) pX5_27 rfl (gle8 rfl) (by omega) (by omega) (fun h7 hp => ?_)
  obtain ⟨R7, o7⟩ := hp
  have x7 : h7 0 = some (gob 5 [.ref 1, .ref 37, .int 0, .ref 73, .ref 75, .ref 76, .ref 80, .null, .null]) := by rw [o7 0 (by omega) (by omega), gup_ne _ _ (by omega), gup_same]
  have w7 : ∀ b, b ≠ 0 → b ≠ 83 → b ≠ 84 → h7 b = h6 b := fun b b0 b1 b2 => by rw [o7 b (by omega) (by omega), gup_ne _ _ (by omega), gup_ne _ _ (by omega)]
  refine j_putF (nx := 87) hJ dX5_init_84 rfl fX5_54 (by decide +kernel) (zX5_7 _) (show h7 0 = some (gob 5 [.ref 1, .ref 37, .int 0, .ref 73, .ref 75, .ref 76, .ref 80, .null, .null]) from x7) (Nat.le_of_ble_eq_true rfl) ?_
  change J 87 _ _ (gup h7 0 (gob 5 [.ref 1, .ref 37, .int 0, .ref 73, .ref 75, .ref 76, .ref 80, .ref 83, .null])) _
  refine j_p (nx := 88) hJ dX5_init_87 rfl rfl ?_
  refine j_newG (nx := 91) hJ (85) (13) (184) dX5_init_88 rfl wX5_25 (by omega) (by omega) (rfl) (by omega) ?_
  refine j_p (nx := 92) hJ dX5_init_91 rfl rfl ?_
  refine j_c (nx := 94) hJ dX5_init_92 rfl gk_bipush_8 ?_
  refine j_mk (nx := 97) hJ (12) (176) dX5_init_94 rfl (r_mkRow (d := d + 3) (a := 85) (n := 90) (q := 86) (cap := 8) (gup_same _ _ _) rfl (by omega) rfl (by omega) (by omega)) pX5_27 rfl (gle8 rfl) (by omega) (by omega) (fun h8 hp => ?_)
  obtain ⟨R8, o8⟩ := hp
  have x8 : h8 0 = some (gob 5 [.ref 1, .ref 37, .int 0, .ref 73, .ref 75, .ref 76, .ref 80, .ref 83, .null]) := by rw [o8 0 (by omega) (by omega), gup_ne _ _ (by omega), gup_same]
  have w8 : ∀ b, b ≠ 0 → b ≠ 85 → b ≠ 86 → h8 b = h7 b := fun b b0 b1 b2 => by rw [o8 b (by omega) (by omega), gup_ne _ _ (by omega), gup_ne _ _ (by omega)]
  refine j_putF (nx := 100) hJ dX5_init_97 rfl fX5_57 (by decide +kernel) (zX5_8 _) (show h8 0 = some (gob 5 [.ref 1, .ref 37, .int 0, .ref 73, .ref 75, .ref 76, .ref 80, .ref 83, .null]) from x8) (Nat.le_of_ble_eq_true rfl) ?_
  change J 100 _ _ (gup h8 0 (gob 5 [.ref 1, .ref 37, .int 0, .ref 73, .ref 75, .ref 76, .ref 80, .ref 83, .ref 85])) _
  refine j_c (nx := 101) hJ dX5_init_100 rfl gk_iconst_0 ?_
  refine j_p (nx := 102) hJ dX5_init_101 rfl rfl ?_
  have loop : ∀ i, i ≤ 4 → ∀ (g : GH) (f : Nat → Option Nat), g 75 = some (gra 4 4 f) → (∀ j, j < i → f j = some (87 + 3 * j)) → (∀ j, j < i → g (87 + 3 * j) = some (gob 4 [.int (-1), .ref (88 + 3 * j)]) ∧ gRow g (88 + 3 * j) (89 + 3 * j) 40 []) → (∀ b, b ≠ 75 → (b < 87 ∨ 87 + 3 * i ≤ b) → g b = gup h8 0 (gob 5 [.ref 1, .ref 37, .int 0, .ref 73, .ref 75, .ref 76, .ref 80, .ref 83, .ref 85]) b) → J 102 [some (.ref 0), some (.int (nI i))] [] g (91 + 3 * i, 3 * (4 - i), 44 * (4 - i), true) := by
    refine gloop _ _ (fun i hi ih g f s9 hf hd9 ho => ?_)
    refine j_p (nx := 103) hJ dX5_init_102 rfl rfl ?_
    refine j_p (nx := 104) hJ dX5_init_103 rfl rfl ?_
    refine j_get (nx := 107) hJ dX5_init_104 rfl fX5_36 (show g 0 = some (gob 5 [.ref 1, .ref 37, .int 0, .ref 73, .ref 75, .ref 76, .ref 80, .ref 83, .ref 85]) from by rw [ho 0 (by omega) (by omega), gup_same]) (by rfl) ?_
    refine j_lenR (nx := 108) hJ dX5_init_107 rfl s9 (by omega) ?_
    refine j_ic_ge (nx := 111) (tgt := 130) hJ dX5_init_108 rfl (by decide) (fun c116 => ?_) (fun c116 => ?_)
    · rw [gnle (by omega) (by omega)] at c116
      have e0 : i = 4 := by omega
      subst e0
      refine j_alt hJ (fun i => some (87 + 3 * i)) s9 (fun j hj => hf j hj) ?_
      generalize hk : gup g 75 (gra 4 4 (fun i => some (87 + 3 * i))) = k
      have k75 : k 75 = some (gra 4 4 (fun i => some (87 + 3 * i))) := by rw [← hk, gup_same]
      have kg : ∀ b, b ≠ 75 → k b = g b := fun b hb => by rw [← hk, gup_ne _ _ hb]
      have z8 : ∀ b, b ≠ 0 → b ≠ 75 → (b < 87 ∨ 99 ≤ b) → k b = h8 b := fun b b0 b1 b2 => by rw [kg b b1, ho b b1 (by omega), gup_ne _ _ b0]
      have z7 : ∀ b, b ≠ 0 → b ≠ 75 → (b < 85 ∨ 99 ≤ b) → k b = h7 b := fun b b0 b1 b2 => (z8 b b0 b1 (by omega)).trans (w8 b b0 (by omega) (by omega))
      have z6 : ∀ b, b ≠ 0 → b ≠ 75 → (b < 83 ∨ 99 ≤ b) → k b = h6 b := fun b b0 b1 b2 => (z7 b b0 b1 (by omega)).trans (w7 b b0 (by omega) (by omega))
      have z5 : ∀ b, b ≠ 0 → b ≠ 75 → b < 80 → k b = h5 b := fun b b0 b1 b2 => (z6 b b0 b1 (by omega)).trans (w6 b b0 b2)
      have z3 : ∀ b, b ≠ 0 → b < 75 → k b = h3 b := fun b b0 b2 => (z5 b b0 (by omega) (by omega)).trans ((w5 b b0 (by omega)).trans (w4 b b0 b2))
      have z2 : ∀ b, b ≠ 0 → b < 73 → k b = h2 b := fun b b0 b2 => (z3 b b0 (by omega)).trans (w3 b b0 b2)
      have z1 : ∀ b, b ≠ 0 → b < 37 → k b = h1 b := fun b b0 b2 => (z2 b b0 (by omega)).trans (w2 b b0 b2)
      have zo : ∀ b, 99 ≤ b ∧ (b < 126 ∨ 130 ≤ b) → k b = h b := fun b hb => by rw [kg b (by omega), ho b (by omega) (by omega), gup_ne _ _ (by omega), o8 b (by omega) (by omega), gup_ne _ _ (by omega), gup_ne _ _ (by omega), o7 b (by omega) (by omega), gup_ne _ _ (by omega), gup_ne _ _ (by omega), o6 b (by omega), gup_ne _ _ (by omega), gup_ne _ _ (by omega), o5 b (by omega), gup_ne _ _ (by omega), gup_ne _ _ (by omega), y4 b (by omega), o3 b (by omega) (by omega), gup_ne _ _ (by omega), gup_ne _ _ (by omega), gup_ne _ _ (by omega), o2 b (by omega), gup_ne _ _ (by omega), gup_ne _ _ (by omega), o1 b (by omega), gup_ne _ _ (by omega)]
      have hb1 : gBn k 1 2 0 := ⟨(z1 1 (by omega) (by omega)).trans B1.1, (z1 2 (by omega) (by omega)).trans B1.2.1, (z1 3 (by omega) (by omega)).trans B1.2.2.1, (z1 4 (by omega) (by omega)).trans B1.2.2.2⟩
      have hb2 : gBn k 37 2 0 := ⟨(z2 37 (by omega) (by omega)).trans B2.1, (z2 38 (by omega) (by omega)).trans B2.2.1, (z2 39 (by omega) (by omega)).trans B2.2.2.1, (z2 40 (by omega) (by omega)).trans B2.2.2.2⟩
      refine j_mret hJ dX5_init_130 (by omega) ⟨⟨?_, hb1, hb2, k75, fun j hj => ?_, ⟨(z6 80 (by omega) (by omega) (by omega)).trans s6, ⟨_, _, _, 0, 0, 0, (z6 126 (by omega) (by omega) (by omega)).trans m6.1, (z6 127 (by omega) (by omega) (by omega)).trans m6.2.1, (z6 128 (by omega) (by omega) (by omega)).trans m6.2.2.1, (z6 129 (by omega) (by omega) (by omega)).trans m6.2.2.2⟩⟩, ⟨_, _, _, 0, 0, 0, (z5 76 (by omega) (by omega) (by omega)).trans s5, (z5 77 (by omega) (by omega) (by omega)).trans t5, (z5 78 (by omega) (by omega) (by omega)).trans u5, (z5 79 (by omega) (by omega) (by omega)).trans v5⟩, fun r hr => ?_⟩, zo⟩
      · rw [kg 0 (by omega), ho 0 (by omega) (by omega), gup_same]; rfl
      · rw [kg _ (by omega), (hd9 j hj).1, show gN0 (87 + 3 * j) = -1 from (by unfold gN0; rw [if_neg (by omega), if_pos (by omega)])]
      · unfold gisR at hr
        by_cases c1 : 88 ≤ r
        · obtain ⟨j, rfl, hj⟩ : ∃ j, r = 88 + 3 * j ∧ j < 4 := ⟨(r - 88) / 3, by omega, by omega⟩
          rw [show gcp (88 + 3 * j) = 40 from (by unfold gcp; rw [if_neg (by omega), if_pos (by omega)]), show gR0 (88 + 3 * j) = [] from (by unfold gR0; rw [if_neg (by omega), if_neg (by omega)])]
          rw [show 88 + 3 * j + 1 = 89 + 3 * j by omega]
          exact (hd9 j hj).2.lo (kg _ (by omega)) (kg _ (by omega))
        by_cases c2 : r = 73
        · subst c2
          exact R3.lo (z3 73 (by omega) (by omega)) (z3 74 (by omega) (by omega))
        rw [gcp8 c2 (by omega)]
        by_cases c3 : r = 81
        · subst c3; exact R6.lo (z6 81 (by omega) (by omega) (by omega)) (z6 82 (by omega) (by omega) (by omega))
        by_cases c4 : r = 83
        · subst c4; exact R7.lo (z7 83 (by omega) (by omega) (by omega)) (z7 84 (by omega) (by omega) (by omega))
        by_cases c5 : r = 85
        · subst c5; exact R8.lo (z8 85 (by omega) (by omega) (by omega)) (z8 86 (by omega) (by omega) (by omega))
        by_cases c6 : r < 37
        · by_cases c7 : r < 17
          · obtain ⟨j, rfl, hj⟩ : ∃ j, r = 1 + 4 + 2 * j ∧ j < 6 := ⟨(r - 5) / 2, by omega, by omega⟩
            rw [show gR0 (1 + 4 + 2 * j) = [10] from (by unfold gR0; rw [if_pos (by omega)])]
            exact (R1.1 j hj).lo (z1 _ (by omega) (by omega)) (z1 _ (by omega) (by omega))
          by_cases c8 : r < 25
          · obtain ⟨j, rfl, hj⟩ : ∃ j, r = 1 + 16 + 2 * j ∧ j < 4 := ⟨(r - 17) / 2, by omega, by omega⟩
            rw [show gR0 (1 + 16 + 2 * j) = [0] from (by unfold gR0; rw [if_neg (by omega), if_pos (by omega)])]
            exact (R1.2.1 j hj).lo (z1 _ (by omega) (by omega)) (z1 _ (by omega) (by omega))
          · obtain ⟨j, rfl, hj⟩ : ∃ j, r = 1 + 24 + 2 * j ∧ j < 6 := ⟨(r - 25) / 2, by omega, by omega⟩
            rw [show gR0 (1 + 24 + 2 * j) = [] from (by unfold gR0; rw [if_neg (by omega), if_neg (by omega)])]
            exact (R1.2.2 j hj).lo (z1 _ (by omega) (by omega)) (z1 _ (by omega) (by omega))
        · by_cases c7 : r < 53
          · obtain ⟨j, rfl, hj⟩ : ∃ j, r = 37 + 4 + 2 * j ∧ j < 6 := ⟨(r - 41) / 2, by omega, by omega⟩
            rw [show gR0 (37 + 4 + 2 * j) = [10] from (by unfold gR0; rw [if_pos (by omega)])]
            exact (R2.1 j hj).lo (z2 _ (by omega) (by omega)) (z2 _ (by omega) (by omega))
          by_cases c8 : r < 61
          · obtain ⟨j, rfl, hj⟩ : ∃ j, r = 37 + 16 + 2 * j ∧ j < 4 := ⟨(r - 53) / 2, by omega, by omega⟩
            rw [show gR0 (37 + 16 + 2 * j) = [0] from (by unfold gR0; rw [if_neg (by omega), if_pos (by omega)])]
            exact (R2.2.1 j hj).lo (z2 _ (by omega) (by omega)) (z2 _ (by omega) (by omega))
          · obtain ⟨j, rfl, hj⟩ : ∃ j, r = 37 + 24 + 2 * j ∧ j < 6 := ⟨(r - 61) / 2, by omega, by omega⟩
            rw [show gR0 (37 + 24 + 2 * j) = [] from (by unfold gR0; rw [if_neg (by omega), if_neg (by omega)])]
            exact (R2.2.2 j hj).lo (z2 _ (by omega) (by omega)) (z2 _ (by omega) (by omega))
    rw [gnle (by omega) (by omega)] at c116
    have hi4 : i < 4 := by omega
    refine j_p (nx := 112) hJ dX5_init_111 rfl rfl ?_
    refine j_get (nx := 115) hJ dX5_init_112 rfl fX5_36 (show g 0 = some (gob 5 [.ref 1, .ref 37, .int 0, .ref 73, .ref 75, .ref 76, .ref 80, .ref 83, .ref 85]) from by rw [ho 0 (by omega) (by omega), gup_same]) (by rfl) ?_
    refine j_p (nx := 116) hJ dX5_init_115 rfl rfl ?_
    refine j_newG (nx := 119) hJ (87 + 3 * i) (3 * (4 - i) - 1) (44 * (4 - i) - 2) dX5_init_116 rfl wX5_34 (by omega) (by omega) ((gphi_mid (by omega) (by omega)).trans (by omega)) (by omega) ?_
    refine j_p (nx := 120) hJ dX5_init_119 rfl rfl ?_
    refine j_mkN (nx := 123) hJ (3 * (4 - i) - 3) (44 * (4 - i) - 44) dX5_init_120 rfl (gMk.at (show 87 + 3 * i + 5 = 91 + 3 * i + 1 by omega) (r_mkSlot (d := d + 2) (a := 87 + 3 * i) (gup_same _ _ _) (by omega) (by omega))) pX5_60 rfl (gle8 rfl) (by omega) (by omega) (fun g2 hp => ?_)
    obtain ⟨s10, R10, o10⟩ := hp
    refine j_aast (j := i) (nx := 124) hJ dX5_init_123 rfl (show g2 75 = some (gra 4 4 f) from by rw [o10 75 (by omega), gup_ne _ _ (by omega)]; exact s9) s10 rfl hi4 (by omega) (by omega) ?_
    refine j_inc (nx := 127) hJ dX5_init_124 rfl rfl (gi1 i) rfl ?_
    refine j_go (tgt := 102) hJ dX5_init_127 (by decide) ?_
    rw [show 91 + 3 * i + 1 + 2 = 91 + 3 * (i + 1) by omega, show 3 * (4 - i) - 3 = 3 * (4 - (i + 1)) by omega, show 44 * (4 - i) - 44 = 44 * (4 - (i + 1)) by omega]
    refine ih hi4 _ _ (gup_same _ _ _) (fun j hj => ?_) (fun j hj => ?_) (fun b b1 b2 => ?_)
    · unfold va_up
      by_cases e : j = i
      · rw [if_pos e, e]
      · rw [if_neg e]; exact hf j (by omega)
    · by_cases e : j = i
      · subst e
        rw [show 87 + 3 * j + 1 = 88 + 3 * j by omega] at s10 R10
        rw [show 87 + 3 * j + 2 = 89 + 3 * j by omega] at R10
        exact ⟨by rw [gup_ne _ _ (by omega)]; exact s10, R10.lo (gup_ne _ _ (by omega)) (gup_ne _ _ (by omega))⟩
      · exact ⟨by rw [gup_ne _ _ (by omega), o10 _ (by omega), gup_ne _ _ (by omega)]; exact (hd9 j (by omega)).1, (hd9 j (by omega)).2.lo (by rw [gup_ne _ _ (by omega), o10 _ (by omega), gup_ne _ _ (by omega)]) (by rw [gup_ne _ _ (by omega), o10 _ (by omega), gup_ne _ _ (by omega)])⟩
    · rw [gup_ne _ _ b1, o10 b (by omega), gup_ne _ _ (by omega)]; exact ho b b1 (by omega)
  exact loop 0 (Nat.zero_le _) _ _ ((gup_ne _ _ (by omega)).trans ((w8 75 (by omega) (by omega) (by omega)).trans ((w7 75 (by omega) (by omega) (by omega)).trans ((w6 75 (by omega) (by omega)).trans ((w5 75 (by omega) (by omega)).trans s4))))) (fun j hj => by omega) (fun j hj => by omega) (fun b _ _ => rfl)
