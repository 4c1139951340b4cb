set_option maxHeartbeats 4000000 in
theorem r_mkRow {d : Nat} {h : GH} {a n q cap : Nat} {v0 v1 : Value} (ha : h a = some (gob 2 [v0, v1])) (h0 : v0 = .null) (hne : a ≠ q) (hq : gphi q = n) (hn : n + 1 ≤ 1000000) (hcap : cap ≤ 1000) : gMk true (d + 2) yX2_init [.ref a, .int (nI cap)] h n 1 cap (fun h' => gRow h' a q cap [] ∧ ∀ b, b ≠ a → b ≠ q → h' b = h b) := by
  subst h0
  refine gMk.of MX2_init (Nat.le_of_ble_eq_true rfl) (fun J hJ => ?_)
  show J 0 [some (.ref a), some (.int (nI cap))] [] h (n, 1, cap, true)
  refine j_p (nx := 1) hJ dX2_init_0 rfl rfl ?_
  refine j_obj (nx := 4) hJ dX2_init_1 rfl oX2_3 (gle8 rfl) ?_
  refine j_p (nx := 5) hJ dX2_init_4 rfl rfl ?_
  refine j_c (nx := 6) hJ dX2_init_5 rfl gk_iconst_0 ?_
  refine j_put (nx := 9) hJ dX2_init_6 rfl fX2_9 (zX2_1 _) ha (Nat.le_of_ble_eq_true rfl) ?_
  change J 9 _ _ (gup h a (gob 2 [.null, .int 0])) _
  refine j_p (nx := 10) hJ dX2_init_9 rfl rfl ?_
  refine j_p (nx := 11) hJ dX2_init_10 rfl rfl ?_
  refine j_c (nx := 12) hJ dX2_init_11 rfl gk_iconst_0 ?_
  refine j_max (nx := 15) hJ dX2_init_12 rfl mX2_15 (gle8 rfl) ?_
  rw [if_neg (gnc (m := cap) (by omega)).1]
  refine j_nwi (nx := 17) hJ (q) (cap) (0) (0) dX2_init_15 rfl rfl (by omega) (by omega) (by omega) (hq) (by omega) ?_
  refine j_putF (nx := 20) hJ dX2_init_17 rfl fX2_21 (by decide +kernel) (zX2_0 _) (show (gup (gup h a (gob 2 [.null, .int 0])) q (gia cap (fun _ => 0))) a = some (gob 2 [.null, .int 0]) from by rw [gup_ne _ _ hne, gup_same]) (Nat.le_of_ble_eq_true rfl) ?_
  change J 20 _ _ (gup (gup (gup h a (gob 2 [.null, .int 0])) q (gia cap (fun _ => 0))) a (gob 2 [.ref q, .int 0])) _
  refine j_mret hJ dX2_init_20 rfl ⟨⟨hne, Nat.zero_le _, hcap, gup_same _ _ _, _, (by rw [gup_ne _ _ (Ne.symm hne), gup_same]), fun i v hv => by cases hv⟩, fun b b1 b2 => ?_⟩
  rw [gup_ne _ _ b1, gup_ne _ _ b2, gup_ne _ _ b1]
set_option maxHeartbeats 4000000 in
theorem r_makeRows {d : Nat} {h : GH} {q n m : Nat} (hq : h q = some (gra 2 m (fun _ => none))) (hqn : q < n) (hm : m ≤ 6) (hn : n + 2 * m ≤ 80) : gMk true (d + 4) yX0_makeRows [.ref q] h n (2 * m) (10 * m) (fun h' => h' q = some (gra 2 m (fun i => some (n + 2 * i))) ∧ gRR h' n m (fun _ => []) ∧ ∀ b, b ≠ q → (b < n ∨ n + 2 * m ≤ b) → h' b = h b) := by
  refine gMk.of MX0_makeRows (Nat.le_of_ble_eq_true rfl) (fun J hJ => ?_)
  show J 0 [some (.ref q), none] [] h (n, 2 * m, 10 * m, true)
  have loop : ∀ i, i ≤ m → ∀ (h1 : GH) (f : Nat → Option Nat), h1 q = some (gra 2 m f) → (∀ j, j < i → f j = some (n + 2 * j)) → (∀ j, j < i → gRow h1 (n + 2 * j) (n + 2 * j + 1) 8 []) → (∀ b, b ≠ q → (b < n ∨ n + 2 * i ≤ b) → h1 b = h b) → J 2 [some (.ref q), some (.int (nI i))] [] h1 (n + 2 * i, 2 * (m - i), 10 * (m - i), true) := by
    refine gloop _ _ (fun i hi ih h1 f hq1 hf hr ho => ?_)
    refine j_p (nx := 3) hJ dX0_makeRows_2 rfl rfl ?_
    refine j_p (nx := 4) hJ dX0_makeRows_3 rfl rfl ?_
    refine j_lenR (nx := 5) hJ dX0_makeRows_4 rfl hq1 (by omega) ?_
    refine j_ic_ge (nx := 8) (tgt := 26) hJ dX0_makeRows_5 rfl (by decide) (fun c5 => ?_) (fun c5 => ?_)
    · rw [gnle (by omega) (by omega)] at c5
      have e0 : i = m := by omega
      subst e0
      rw [show 2 * (i - i) = 0 by omega, show 10 * (i - i) = 0 by omega]
      refine j_alt hJ (fun i => some (n + 2 * i)) hq1 (fun j hj => hf j hj) ?_
      refine j_mret hJ dX0_makeRows_26 rfl ⟨gup_same _ _ _, fun j hj => ?_, fun b b1 b2 => ?_⟩
      · obtain ⟨r1, r2, r3, r4, f9, r5, r6⟩ := hr j hj
        exact ⟨r1, r2, r3, by rw [gup_ne _ _ (by omega)]; exact r4, f9, by rw [gup_ne _ _ (by omega)]; exact r5, r6⟩
      · rw [gup_ne _ _ b1]; exact ho b b1 b2
    rw [gnle (by omega) (by omega)] at c5
    have him : i < m := by omega
    refine j_p (nx := 9) hJ dX0_makeRows_8 rfl rfl ?_
    refine j_p (nx := 10) hJ dX0_makeRows_9 rfl rfl ?_
    refine j_new (nx := 13) hJ (2 * (m - i) - 1) (10 * (m - i) - 2) dX0_makeRows_10 rfl wX0_9 (by omega) (by omega) (by omega) ?_
    refine j_p (nx := 14) hJ dX0_makeRows_13 rfl rfl ?_
    refine j_c (nx := 16) hJ dX0_makeRows_14 rfl gk_bipush_8 ?_
    refine j_mk (nx := 19) hJ (2 * (m - i) - 2) (10 * (m - i) - 10) dX0_makeRows_16 rfl (r_mkRow (d := d + 1) (a := n + 2 * i) (n := n + 2 * i + 1) (q := n + 2 * i + 1) (cap := 8) (gup_same _ _ _) rfl (by omega) (gphi_lo (by omega)) (by omega) (by omega)) pX0_31 rfl (gle8 rfl) (by omega) (by omega) (fun h2 hp => ?_)
    obtain ⟨hr2, ho2⟩ := hp
    refine j_aast (j := i) (nx := 20) hJ dX0_makeRows_19 rfl (show h2 q = some (gra 2 m f) from by rw [ho2 q (by omega) (by omega), gup_ne _ _ (by omega)]; exact hq1) hr2.2.2.2.1 rfl him (by omega) (by omega) ?_
    refine j_inc (nx := 23) hJ dX0_makeRows_20 rfl rfl (gi1 i) rfl ?_
    refine j_go (tgt := 2) hJ dX0_makeRows_23 (by decide) ?_
    rw [show n + 2 * i + 1 + 1 = n + 2 * (i + 1) by omega, show 2 * (m - i) - 2 = 2 * (m - (i + 1)) by omega, show 10 * (m - i) - 10 = 10 * (m - (i + 1)) by omega]
    refine ih him _ _ (gup_same _ _ _) (fun j hj => ?_) (fun j hj => ?_) (fun b b1 b2 => ?_)
    · unfold va_up
      by_cases e : j = i
      · rw [if_pos e, e]
      · rw [if_neg e]; exact hf j (by omega)
    · by_cases e : j = i
      · subst e
        obtain ⟨r1, r2, r3, r4, f9, r5, r6⟩ := hr2
        exact ⟨r1, r2, r3, by rw [gup_ne _ _ (by omega)]; exact r4, f9, by rw [gup_ne _ _ (by omega)]; exact r5, r6⟩
      · obtain ⟨r1, r2, r3, r4, f9, r5, r6⟩ := hr j (by omega)
        exact ⟨r1, r2, r3, by rw [gup_ne _ _ (by omega), ho2 _ (by omega) (by omega), gup_ne _ _ (by omega)]; exact r4, f9, by rw [gup_ne _ _ (by omega), ho2 _ (by omega) (by omega), gup_ne _ _ (by omega)]; exact r5, r6⟩
    · rw [gup_ne _ _ b1, ho2 b (by omega) (by omega), gup_ne _ _ (by omega)]; exact ho b b1 (by omega)
  refine j_c (nx := 1) hJ dX0_makeRows_0 rfl gk_iconst_0 ?_
  refine j_p (nx := 2) hJ dX0_makeRows_1 rfl rfl ?_
  exact loop 0 (Nat.zero_le _) h _ hq (fun j hj => by omega) (fun j hj => by omega) (fun b _ _ => rfl)
set_option maxHeartbeats 4000000 in
theorem r_mkBench {d : Nat} {h : GH} {a : Nat} (ha : h a = some (gob 0 [.int 0, .null, .null, .null, .int 0])) (hn : a + 36 ≤ 80) : gMk true (d + 5) yX0_init [.ref a] h (a + 1) 35 176 (fun h' => gBn h' a 2 0 ∧ gBR h' a (fun _ => [10]) (fun _ => [0]) (fun _ => []) ∧ ∀ b, (b < a ∨ a + 36 ≤ b) → h' b = h b) := by
  refine gMk.of MX0_init (Nat.le_of_ble_eq_true rfl) (fun J hJ => ?_)
  show J 0 [some (.ref a)] [] h (a + 1, 35, 176, true)
  refine j_p (nx := 1) hJ dX0_init_0 rfl rfl ?_
  refine j_obj (nx := 4) hJ dX0_init_1 rfl oX0_3 (gle8 rfl) ?_
  refine j_p (nx := 5) hJ dX0_init_4 rfl rfl ?_
  refine j_c (nx := 7) hJ dX0_init_5 rfl gk_bipush_6 ?_
  refine j_anw (nx := 10) hJ (6) (34) (170) dX0_init_7 rfl lX0_9 (rfl : vwCl[2]? = some _) (by omega) rfl (by omega) (by omega) (by omega) (by omega) ?_
  refine j_putF (nx := 13) hJ dX0_init_10 rfl fX0_11 (by decide +kernel) (zX0_1 _) (show (gup h (a + 1) (gra 2 6 (fun _ => none))) a = some (gob 0 [.int 0, .null, .null, .null, .int 0]) from by rw [gup_ne _ _ (by omega)]; exact ha) (Nat.le_of_ble_eq_true rfl) ?_
  change J 13 _ _ (gup (gup h (a + 1) (gra 2 6 (fun _ => none))) a (gob 0 [.int 0, .ref (a + 1), .null, .null, .int 0])) _
  refine j_p (nx := 14) hJ dX0_init_13 rfl rfl ?_
  refine j_c (nx := 15) hJ dX0_init_14 rfl gk_iconst_4 ?_
  refine j_anw (nx := 18) hJ (4) (33) (166) dX0_init_15 rfl lX0_9 (rfl : vwCl[2]? = some _) (by omega) rfl (by omega) (by omega) (by omega) (by omega) ?_
  refine j_putF (nx := 21) hJ dX0_init_18 rfl fX0_17 (by decide +kernel) (zX0_2 _) (show (gup (gup (gup h (a + 1) (gra 2 6 (fun _ => none))) a (gob 0 [.int 0, .ref (a + 1), .null, .null, .int 0])) (a + 2) (gra 2 4 (fun _ => none))) a = some (gob 0 [.int 0, .ref (a + 1), .null, .null, .int 0]) from by rw [gup_ne _ _ (by omega), gup_same]) (Nat.le_of_ble_eq_true rfl) ?_
  change J 21 _ _ (gup (gup (gup (gup h (a + 1) (gra 2 6 (fun _ => none))) a (gob 0 [.int 0, .ref (a + 1), .null, .null, .int 0])) (a + 2) (gra 2 4 (fun _ => none))) a (gob 0 [.int 0, .ref (a + 1), .ref (a + 2), .null, .int 0])) _
  refine j_p (nx := 22) hJ dX0_init_21 rfl rfl ?_
  refine j_c (nx := 24) hJ dX0_init_22 rfl gk_bipush_6 ?_
  refine j_anw (nx := 27) hJ (6) (32) (160) dX0_init_24 rfl lX0_9 (rfl : vwCl[2]? = some _) (by omega) rfl (by omega) (by omega) (by omega) (by omega) ?_
  refine j_putF (nx := 30) hJ dX0_init_27 rfl fX0_20 (by decide +kernel) (zX0_3 _) (show (gup (gup (gup (gup (gup h (a + 1) (gra 2 6 (fun _ => none))) a (gob 0 [.int 0, .ref (a + 1), .null, .null, .int 0])) (a + 2) (gra 2 4 (fun _ => none))) a (gob 0 [.int 0, .ref (a + 1), .ref (a + 2), .null, .int 0])) (a + 3) (gra 2 6 (fun _ => none))) a = some (gob 0 [.int 0, .ref (a + 1), .ref (a + 2), .null, .int 0]) from by rw [gup_ne _ _ (by omega), gup_same]) (Nat.le_of_ble_eq_true rfl) ?_
  change J 30 _ _ (gup (gup (gup (gup (gup (gup h (a + 1) (gra 2 6 (fun _ => none))) a (gob 0 [.int 0, .ref (a + 1), .null, .null, .int 0])) (a + 2) (gra 2 4 (fun _ => none))) a (gob 0 [.int 0, .ref (a + 1), .ref (a + 2), .null, .int 0])) (a + 3) (gra 2 6 (fun _ => none))) a (gob 0 [.int 0, .ref (a + 1), .ref (a + 2), .ref (a + 3), .int 0])) _
  have q0 : (gup (gup (gup (gup (gup (gup h (a + 1) (gra 2 6 (fun _ => none))) a (gob 0 [.int 0, .ref (a + 1), .null, .null, .int 0])) (a + 2) (gra 2 4 (fun _ => none))) a (gob 0 [.int 0, .ref (a + 1), .ref (a + 2), .null, .int 0])) (a + 3) (gra 2 6 (fun _ => none))) a (gob 0 [.int 0, .ref (a + 1), .ref (a + 2), .ref (a + 3), .int 0])) a = some (gob 0 [.int 0, .ref (a + 1), .ref (a + 2), .ref (a + 3), .int 0]) := gup_same _ _ _
  have q1 : (gup (gup (gup (gup (gup (gup h (a + 1) (gra 2 6 (fun _ => none))) a (gob 0 [.int 0, .ref (a + 1), .null, .null, .int 0])) (a + 2) (gra 2 4 (fun _ => none))) a (gob 0 [.int 0, .ref (a + 1), .ref (a + 2), .null, .int 0])) (a + 3) (gra 2 6 (fun _ => none))) a (gob 0 [.int 0, .ref (a + 1), .ref (a + 2), .ref (a + 3), .int 0])) (a + 1) = some (gra 2 6 (fun _ => none)) := by rw [gup_ne _ _ (by omega), gup_ne _ _ (by omega), gup_ne _ _ (by omega), gup_ne _ _ (by omega), gup_ne _ _ (by omega), gup_same]
  have q2 : (gup (gup (gup (gup (gup (gup h (a + 1) (gra 2 6 (fun _ => none))) a (gob 0 [.int 0, .ref (a + 1), .null, .null, .int 0])) (a + 2) (gra 2 4 (fun _ => none))) a (gob 0 [.int 0, .ref (a + 1), .ref (a + 2), .null, .int 0])) (a + 3) (gra 2 6 (fun _ => none))) a (gob 0 [.int 0, .ref (a + 1), .ref (a + 2), .ref (a + 3), .int 0])) (a + 2) = some (gra 2 4 (fun _ => none)) := by rw [gup_ne _ _ (by omega), gup_ne _ _ (by omega), gup_ne _ _ (by omega), gup_same]
  have q3 : (gup (gup (gup (gup (gup (gup h (a + 1) (gra 2 6 (fun _ => none))) a (gob 0 [.int 0, .ref (a + 1), .null, .null, .int 0])) (a + 2) (gra 2 4 (fun _ => none))) a (gob 0 [.int 0, .ref (a + 1), .ref (a + 2), .null, .int 0])) (a + 3) (gra 2 6 (fun _ => none))) a (gob 0 [.int 0, .ref (a + 1), .ref (a + 2), .ref (a + 3), .int 0])) (a + 3) = some (gra 2 6 (fun _ => none)) := by rw [gup_ne _ _ (by omega), gup_same]
  have qo : ∀ b, (b < a ∨ a + 4 ≤ b) → (gup (gup (gup (gup (gup (gup h (a + 1) (gra 2 6 (fun _ => none))) a (gob 0 [.int 0, .ref (a + 1), .null, .null, .int 0])) (a + 2) (gra 2 4 (fun _ => none))) a (gob 0 [.int 0, .ref (a + 1), .ref (a + 2), .null, .int 0])) (a + 3) (gra 2 6 (fun _ => none))) a (gob 0 [.int 0, .ref (a + 1), .ref (a + 2), .ref (a + 3), .int 0])) b = h b := fun b hb => by rw [gup_ne _ _ (by omega), gup_ne _ _ (by omega), gup_ne _ _ (by omega), gup_ne _ _ (by omega), gup_ne _ _ (by omega), gup_ne _ _ (by omega)]
  generalize (gup (gup (gup (gup (gup (gup h (a + 1) (gra 2 6 (fun _ => none))) a (gob 0 [.int 0, .ref (a + 1), .null, .null, .int 0])) (a + 2) (gra 2 4 (fun _ => none))) a (gob 0 [.int 0, .ref (a + 1), .ref (a + 2), .null, .int 0])) (a + 3) (gra 2 6 (fun _ => none))) a (gob 0 [.int 0, .ref (a + 1), .ref (a + 2), .ref (a + 3), .int 0])) = k at q0 q1 q2 q3 qo ⊢
  refine j_p (nx := 31) hJ dX0_init_30 rfl rfl ?_
  refine j_get (nx := 34) hJ dX0_init_31 rfl fX0_11 q0 (by rfl) ?_
  refine j_mks (nx := 37) hJ (20) (100) dX0_init_34 rfl (r_makeRows (d := d) (n := a + 1 + 1 + 1 + 1) (m := 6) q1 (by omega) (by omega) (by omega)) mX0_23 rfl (gle8 rfl) (by omega) (by omega) (fun k1 hp => ?_)
  obtain ⟨s1, t1, u1⟩ := hp
  have v0 := (u1 a (by omega) (by omega)).trans q0
  refine j_p (nx := 38) hJ dX0_init_37 rfl rfl ?_
  refine j_get (nx := 41) hJ dX0_init_38 rfl fX0_17 v0 (by rfl) ?_
  refine j_mks (nx := 44) hJ (12) (60) dX0_init_41 rfl (r_makeRows (d := d) (n := a + 1 + 1 + 1 + 1 + 2 * 6) (m := 4) ((u1 (a + 2) (by omega) (by omega)).trans q2) (by omega) (by omega) (by omega)) mX0_23 rfl (gle8 rfl) (by omega) (by omega) (fun k2 hp => ?_)
  obtain ⟨s2, t2, u2⟩ := hp
  have v1 := (u2 a (by omega) (by omega)).trans v0
  refine j_p (nx := 45) hJ dX0_init_44 rfl rfl ?_
  refine j_get (nx := 48) hJ dX0_init_45 rfl fX0_20 v1 (by rfl) ?_
  refine j_mks (nx := 51) hJ (0) (0) dX0_init_48 rfl (r_makeRows (d := d) (n := a + 1 + 1 + 1 + 1 + 2 * 6 + 2 * 4) (m := 6) ((u2 (a + 3) (by omega) (by omega)).trans ((u1 (a + 3) (by omega) (by omega)).trans q3)) (by omega) (by omega) (by omega)) mX0_23 rfl (gle8 rfl) (by omega) (by omega) (fun k3 hp => ?_)
  obtain ⟨s3, t3, u3⟩ := hp
  have v2 := (u3 a (by omega) (by omega)).trans v1
  have e1 : k3 (a + 1) = some (gra 2 6 (fun i => some (a + 4 + 2 * i))) := by rw [u3 (a + 1) (by omega) (by omega), u2 (a + 1) (by omega) (by omega), s1]
  have e2 : k3 (a + 2) = some (gra 2 4 (fun i => some (a + 16 + 2 * i))) := by rw [u3 (a + 2) (by omega) (by omega), s2]
  have e3 : k3 (a + 3) = some (gra 2 6 (fun i => some (a + 24 + 2 * i))) := s3
  have hB : gBn k3 a 0 0 := ⟨v2, e1, e2, e3⟩
  have hF2 : gFo (a + 16) (a + 24) k1 k2 ∨ True := Or.inr trivial
  have hR : gBR k3 a (fun _ => []) (fun _ => []) (fun _ => []) := by
    refine ⟨fun i hi => ?_, fun i hi => ?_, fun i hi => ?_⟩
    · obtain ⟨r1, r2, r3, r4, f9, r5, r6⟩ := t1 i hi
      exact ⟨r1, r2, r3, by rw [u3 _ (by omega) (by omega), u2 _ (by omega) (by omega)]; exact r4, f9, by rw [u3 _ (by omega) (by omega), u2 _ (by omega) (by omega)]; exact r5, r6⟩
    · obtain ⟨r1, r2, r3, r4, f9, r5, r6⟩ := t2 i hi
      exact ⟨r1, r2, r3, by rw [u3 _ (by omega) (by omega)]; exact r4, f9, by rw [u3 _ (by omega) (by omega)]; exact r5, r6⟩
    · exact t3 i hi
  refine j_p (nx := 52) hJ dX0_init_51 rfl rfl ?_
  refine j_c (nx := 53) hJ dX0_init_52 rfl gk_iconst_2 ?_
  refine j_cv (nx := 56) hJ dX0_init_53 rfl (r_begin (fl := true) (d := d + 1) 2 hB hR) mX0_27 v2 kX0_begin rfl (gle8 rfl) (fun o h4 hp => ?_)
  obtain ⟨rfl, hB4, hR4, hF4⟩ := hp
  refine j_mret hJ dX0_init_56 (by omega) ⟨hB4, hR4, fun b hb => ?_⟩
  rw [hF4 b hb, u3 b (by omega) (by omega), u2 b (by omega) (by omega), u1 b (by omega) (by omega), qo b (by omega)]
set_option maxHeartbeats 4000000 in
theorem r_mkMatcher {d : Nat} {h : GH} {a n : Nat} (ha : h a = some (gob 1 [.null, .null, .null, .int 0, .int 0, .int 0])) (hn : n + 200 ≤ 1000000) (p1 : gphi (a + 1) = n) (p2 : gphi (a + 2) = n + 1) (p3 : gphi (a + 3) = n + 1 + 1) : gMk true (d + 1) yX1_init [.ref a] h n 3 12 (fun h' => h' a = some (gob 1 [.ref (a + 1), .ref (a + 2), .ref (a + 3), .int 0, .int 0, .int 0]) ∧ h' (a + 1) = some (gia 4 (fun _ => 0)) ∧ h' (a + 2) = some (gia 4 (fun _ => 0)) ∧ h' (a + 3) = some (gia 4 (fun _ => 0)) ∧ ∀ b, (b < a ∨ a + 4 ≤ b) → h' b = h b) := by
  refine gMk.of MX1_init (Nat.le_of_ble_eq_true rfl) (fun J hJ => ?_)
  show J 0 [some (.ref a)] [] h (n, 3, 12, true)
  refine j_p (nx := 1) hJ dX1_init_0 rfl rfl ?_
  refine j_obj (nx := 4) hJ dX1_init_1 rfl oX1_3 (gle8 rfl) ?_
  refine j_p (nx := 5) hJ dX1_init_4 rfl rfl ?_
  refine j_c (nx := 6) hJ dX1_init_5 rfl gk_iconst_4 ?_
  refine j_nwi (nx := 8) hJ (a + 1) (4) (2) (8) dX1_init_6 rfl rfl (by omega) (by omega) (by omega) (p1) (by omega) ?_
  refine j_putF (nx := 11) hJ dX1_init_8 rfl fX1_9 (by decide +kernel) (zX1_0 _) (show (gup h (a + 1) (gia 4 (fun _ => 0))) a = _ from by rw [gup_ne _ _ (by omega)]; exact ha) (Nat.le_of_ble_eq_true rfl) ?_
  change J 11 _ _ (gup (gup h (a + 1) (gia 4 (fun _ => 0))) a (gob 1 [.ref (a + 1), .null, .null, .int 0, .int 0, .int 0])) _
  refine j_p (nx := 12) hJ dX1_init_11 rfl rfl ?_
  refine j_c (nx := 13) hJ dX1_init_12 rfl gk_iconst_4 ?_
  refine j_nwi (nx := 15) hJ (a + 2) (4) (1) (4) dX1_init_13 rfl rfl (by omega) (by omega) (by omega) (p2) (by omega) ?_
  refine j_putF (nx := 18) hJ dX1_init_15 rfl fX1_15 (by decide +kernel) (zX1_1 _) (show (gup (gup (gup h (a + 1) (gia 4 (fun _ => 0))) a (gob 1 [.ref (a + 1), .null, .null, .int 0, .int 0, .int 0])) (a + 2) (gia 4 (fun _ => 0))) a = some (gob 1 [.ref (a + 1), .null, .null, .int 0, .int 0, .int 0]) from by rw [gup_ne _ _ (by omega), gup_same]) (Nat.le_of_ble_eq_true rfl) ?_
  change J 18 _ _ (gup (gup (gup (gup h (a + 1) (gia 4 (fun _ => 0))) a (gob 1 [.ref (a + 1), .null, .null, .int 0, .int 0, .int 0])) (a + 2) (gia 4 (fun _ => 0))) a (gob 1 [.ref (a + 1), .ref (a + 2), .null, .int 0, .int 0, .int 0])) _
  refine j_p (nx := 19) hJ dX1_init_18 rfl rfl ?_
  refine j_c (nx := 20) hJ dX1_init_19 rfl gk_iconst_4 ?_
  refine j_nwi (nx := 22) hJ (a + 3) (4) (0) (0) dX1_init_20 rfl rfl (by omega) (by omega) (by omega) (p3) (by omega) ?_
  refine j_putF (nx := 25) hJ dX1_init_22 rfl fX1_18 (by decide +kernel) (zX1_2 _) (show (gup (gup (gup (gup (gup h (a + 1) (gia 4 (fun _ => 0))) a (gob 1 [.ref (a + 1), .null, .null, .int 0, .int 0, .int 0])) (a + 2) (gia 4 (fun _ => 0))) a (gob 1 [.ref (a + 1), .ref (a + 2), .null, .int 0, .int 0, .int 0])) (a + 3) (gia 4 (fun _ => 0))) a = some (gob 1 [.ref (a + 1), .ref (a + 2), .null, .int 0, .int 0, .int 0]) from by rw [gup_ne _ _ (by omega), gup_same]) (Nat.le_of_ble_eq_true rfl) ?_
  change J 25 _ _ (gup (gup (gup (gup (gup (gup h (a + 1) (gia 4 (fun _ => 0))) a (gob 1 [.ref (a + 1), .null, .null, .int 0, .int 0, .int 0])) (a + 2) (gia 4 (fun _ => 0))) a (gob 1 [.ref (a + 1), .ref (a + 2), .null, .int 0, .int 0, .int 0])) (a + 3) (gia 4 (fun _ => 0))) a (gob 1 [.ref (a + 1), .ref (a + 2), .ref (a + 3), .int 0, .int 0, .int 0])) _
  refine j_mret hJ dX1_init_25 (by omega) ⟨gup_same _ _ _, ?_, ?_, ?_, fun b hb => ?_⟩
  · rw [gup_ne _ _ (by omega), gup_ne _ _ (by omega), gup_ne _ _ (by omega), gup_ne _ _ (by omega), gup_ne _ _ (by omega), gup_same]
  · rw [gup_ne _ _ (by omega), gup_ne _ _ (by omega), gup_ne _ _ (by omega), gup_same]
  · rw [gup_ne _ _ (by omega), gup_same]
  · rw [gup_ne _ _ (by omega), gup_ne _ _ (by omega), gup_ne _ _ (by omega), gup_ne _ _ (by omega), gup_ne _ _ (by omega), gup_ne _ _ (by omega)]
set_option maxHeartbeats 4000000 in
theorem r_mkSearch {d : Nat} {h : GH} (ha : h 80 = some (gob 3 [.null, .null, .int 0, .int 0, .int 0])) : gMk true (d + 3) yX3_init [.ref 80] h 81 6 28 (fun h' => h' 80 = some (gob 3 [.ref 126, .ref 81, .int 0, .int 0, .int 0]) ∧ (h' 126 = some (gob 1 [.ref 127, .ref 128, .ref 129, .int 0, .int 0, .int 0]) ∧ h' 127 = some (gia 4 (fun _ => 0)) ∧ h' 128 = some (gia 4 (fun _ => 0)) ∧ h' 129 = some (gia 4 (fun _ => 0))) ∧ gRow h' 81 82 8 [] ∧ ∀ b, (b < 80 ∨ 83 ≤ b) ∧ (b < 126 ∨ 130 ≤ b) → h' b = h b) := by
  refine gMk.of MX3_init (Nat.le_of_ble_eq_true rfl) (fun J hJ => ?_)
  show J 0 [some (.ref 80)] [] h (81, 6, 28, true)
  refine j_p (nx := 1) hJ dX3_init_0 rfl rfl ?_
  refine j_obj (nx := 4) hJ dX3_init_1 rfl oX3_3 (gle8 rfl) ?_
  refine j_p (nx := 5) hJ dX3_init_4 rfl rfl ?_
  refine j_newG (nx := 8) hJ (126) (5) (22) dX3_init_5 rfl wX3_9 (by omega) (by omega) (rfl) (by omega) ?_
  refine j_p (nx := 9) hJ dX3_init_8 rfl rfl ?_
  refine j_mkN (nx := 12) hJ (2) (10) dX3_init_9 rfl (r_mkMatcher (d := d + 1) (a := 126) (n := 82) (gup_same _ _ _) (by omega) rfl rfl rfl) pX3_11 rfl (gle8 rfl) (by omega) (by omega) (fun h1 hp => ?_)
  obtain ⟨s1, t1, u1, v1, o1⟩ := hp
  have x1 : h1 80 = some (gob 3 [.null, .null, .int 0, .int 0, .int 0]) := by rw [o1 80 (by omega), gup_ne _ _ (by omega)]; exact ha
  refine j_putF (nx := 15) hJ dX3_init_12 rfl fX3_12 (by decide +kernel) (zX3_0 _) x1 (Nat.le_of_ble_eq_true rfl) ?_
  change J 15 _ _ (gup h1 80 (gob 3 [.ref 126, .null, .int 0, .int 0, .int 0])) _
  refine j_p (nx := 16) hJ dX3_init_15 rfl rfl ?_
  refine j_newG (nx := 19) hJ (81) (1) (8) dX3_init_16 rfl wX3_18 (by omega) (by omega) (rfl) (by omega) ?_
  refine j_p (nx := 20) hJ dX3_init_19 rfl rfl ?_
  refine j_c (nx := 22) hJ dX3_init_20 rfl gk_bipush_8 ?_
  refine j_mk (nx := 25) hJ (0) (0) dX3_init_22 rfl (r_mkRow (d := d) (a := 81) (n := 86) (q := 82) (cap := 8) (gup_same _ _ _) rfl (by omega) rfl (by omega) (by omega)) pX3_20 rfl (gle8 rfl) (by omega) (by omega) (fun h2 hp => ?_)
  obtain ⟨hr, ho⟩ := hp
  have x2 : h2 80 = some (gob 3 [.ref 126, .null, .int 0, .int 0, .int 0]) := by rw [ho 80 (by omega) (by omega), gup_ne _ _ (by omega), gup_same]
  refine j_putF (nx := 28) hJ dX3_init_25 rfl fX3_23 (by decide +kernel) (zX3_1 _) x2 (Nat.le_of_ble_eq_true rfl) ?_
  change J 28 _ _ (gup h2 80 (gob 3 [.ref 126, .ref 81, .int 0, .int 0, .int 0])) _
  have hk : ∀ b, b ≠ 80 → b ≠ 81 → b ≠ 82 → gup h2 80 (gob 3 [.ref 126, .ref 81, .int 0, .int 0, .int 0]) b = h1 b := fun b b0 b1 b2 => by rw [gup_ne _ _ b0, ho b b1 b2, gup_ne _ _ b1, gup_ne _ _ b0]
  obtain ⟨r1, r2, r3, r4, f9, r5, r6⟩ := hr
  refine j_mret hJ dX3_init_28 rfl ⟨gup_same _ _ _, ⟨(hk 126 (by omega) (by omega) (by omega)).trans s1, (hk 127 (by omega) (by omega) (by omega)).trans t1, (hk 128 (by omega) (by omega) (by omega)).trans u1, (hk 129 (by omega) (by omega) (by omega)).trans v1⟩, ⟨r1, r2, r3, by rw [gup_ne _ _ (by omega)]; exact r4, f9, by rw [gup_ne _ _ (by omega)]; exact r5, r6⟩, fun b hb => ?_⟩
  rw [hk b (by omega) (by omega) (by omega), o1 b (by omega), gup_ne _ _ (by omega)]
set_option maxHeartbeats 4000000 in
theorem r_mkSlot {d : Nat} {h : GH} {a : Nat} (ha : h a = some (gob 4 [.int 0, .null])) (hl : 81 ≤ a) (hn : a + 3 ≤ 126) : gMk true (d + 3) yX4_init [.ref a] h (a + 5) 2 42 (fun h' => h' a = some (gob 4 [.int (-1), .ref (a + 1)]) ∧ gRow h' (a + 1) (a + 2) 40 [] ∧ ∀ b, (b < a ∨ a + 3 ≤ b) → h' b = h b) := by
  refine gMk.of MX4_init (Nat.le_of_ble_eq_true rfl) (fun J hJ => ?_)
  show J 0 [some (.ref a)] [] h (a + 5, 2, 42, true)
  refine j_p (nx := 1) hJ dX4_init_0 rfl rfl ?_
  refine j_obj (nx := 4) hJ dX4_init_1 rfl oX4_3 (gle8 rfl) ?_
  refine j_p (nx := 5) hJ dX4_init_4 rfl rfl ?_
  refine j_c (nx := 6) hJ dX4_init_5 rfl gk_iconst_m1 ?_
  refine j_put (nx := 9) hJ dX4_init_6 rfl fX4_9 (zX4_0 _) ha (Nat.le_of_ble_eq_true rfl) ?_
  change J 9 _ _ (gup h a (gob 4 [.int (-1), .null])) _
  refine j_p (nx := 10) hJ dX4_init_9 rfl rfl ?_
  refine j_newG (nx := 13) hJ (a + 1) (1) (40) dX4_init_10 rfl wX4_15 (by omega) (by omega) ((gphi_mid (by omega) (by omega)).trans (by omega)) (by omega) ?_
  refine j_p (nx := 14) hJ dX4_init_13 rfl rfl ?_
  refine j_c (nx := 16) hJ dX4_init_14 rfl gk_bipush_40 ?_
  refine j_mk (nx := 19) hJ (0) (0) dX4_init_16 rfl (r_mkRow (d := d) (a := a + 1) (n := a + 5 + 1) (q := a + 2) (cap := 40) (gup_same _ _ _) rfl (by omega) ((gphi_mid (by omega) (by omega)).trans (by omega)) (by omega) (by omega)) pX4_17 rfl (gle8 rfl) (by omega) (by omega) (fun h1 hp => ?_)
  obtain ⟨hr, ho⟩ := hp
  have v0 : h1 a = some (gob 4 [.int (-1), .null]) := by rw [ho a (by omega) (by omega), gup_ne _ _ (by omega), gup_same]
  refine j_putF (nx := 22) hJ dX4_init_19 rfl fX4_20 (by decide +kernel) (zX4_1 _) v0 (Nat.le_of_ble_eq_true rfl) ?_
  change J 22 _ _ (gup h1 a (gob 4 [.int (-1), .ref (a + 1)])) _
  obtain ⟨r1, r2, r3, r4, f9, r5, r6⟩ := hr
  refine j_mret hJ dX4_init_22 (by omega) ⟨gup_same _ _ _, ⟨r1, r2, r3, by rw [gup_ne _ _ (by omega)]; exact r4, f9, by rw [gup_ne _ _ (by omega)]; exact r5, r6⟩, fun b hb => ?_⟩
  rw [gup_ne _ _ (by omega), ho b (by omega) (by omega), gup_ne _ _ (by omega), gup_ne _ _ (by omega)]
