set_option maxHeartbeats 4000000 in
theorem r6_firstWord {d : Nat} {h0 h : GH} {A : Nat → Nat → Int32} {E : Nat → Nat → Int64} {M : Nat → Int32} {pv tv : Value} (hP : gP h0 h A E M pv tv) : gN false (d + 1) yX6_firstWord [.ref 99] h (fun o h' => o = none ∧ ∃ f, gP h0 h' (gU A 115 f) E M pv tv ∧ ∀ j, j < 8 → f j = 0) := by
  refine gN.of MX6_firstWord (Nat.le_of_ble_eq_true rfl) (fun J n hJ => ?_)
  show J 0 [some (.ref 99), none] [] h (n, 0, 0, false)
  have loop : ∀ i, i ≤ 8 → ∀ (h1 : GH) (f : Nat → Int32), gP h0 h1 (gU A 115 f) E M pv tv → (∀ j, j < i → f j = 0) → J 2 [some (.ref 99), some (.int (nI i))] [] h1 (n, 0, 0, false) := by
    refine gloop _ _ (fun i hi ih h1 f hP1 hz => ?_)
    refine j_p (nx := 3) hJ dX6_firstWord_2 rfl rfl ?_
    refine j_c (nx := 5) hJ dX6_firstWord_3 rfl gk_bipush_8 ?_
    refine j_ic_ge (nx := 8) (tgt := 21) hJ dX6_firstWord_5 rfl (by decide) (fun c5 => ?_) (fun c5 => ?_)
    · rw [show (8 : Int32) = nI 8 from rfl, gnle (by omega) (by omega)] at c5
      exact j_vret hJ dX6_firstWord_21 ⟨rfl, f, hP1, fun j hj => hz j (by omega)⟩
    · rw [show (8 : Int32) = nI 8 from rfl, gnle (by omega) (by omega)] at c5
      have hil : i < 8 := by omega
      refine j_p (nx := 9) hJ dX6_firstWord_8 rfl rfl ?_
      refine j_get (nx := 12) hJ dX6_firstWord_9 rfl fX6_61 hP1.1.1 (by rfl) ?_
      refine j_p (nx := 13) hJ dX6_firstWord_12 rfl rfl ?_
      refine j_c (nx := 14) hJ dX6_firstWord_13 rfl gk_iconst_0 ?_
      refine j_iast (j := i) (nx := 15) hJ dX6_firstWord_14 rfl (show h1 115 = some (gia 8 f) from hP1.a 115 (by unfold gia'; omega)) rfl hil (by decide) ?_
      have hP2 : gP h0 (gup h1 115 (gia 8 (upd f i 0))) (gU A 115 (upd f i 0)) E M pv tv := (hP1.arr (a := 115) (by unfold gia'; omega) _).uu
      refine j_inc (nx := 18) hJ dX6_firstWord_15 rfl rfl (gi1 i) rfl ?_
      refine j_go (tgt := 2) hJ dX6_firstWord_18 (by decide) ?_
      refine ih hil _ _ hP2 (fun j hj => ?_)
      simp only [upd]
      by_cases e : j = i
      · rw [if_pos e]
      · rw [if_neg e]; exact hz j (by omega)
  refine j_c (nx := 1) hJ dX6_firstWord_0 rfl gk_iconst_0 ?_
  refine j_p (nx := 2) hJ dX6_firstWord_1 rfl rfl ?_
  exact loop 0 (Nat.zero_le _) h (A 115) (hP.rw (gU_self A 115) (fun _ => rfl) (fun _ => rfl)) (fun j hj => by omega)
set_option maxHeartbeats 4000000 in
theorem r6_generates {d : Nat} {h0 h : GH} {A : Nat → Nat → Int32} {E : Nat → Nat → Int64} {M : Nat → Int32} {pv tv : Value} (hP : gP h0 h A E M pv tv) {r : Nat} (hr : r < 6) {p t : List Int32} (hl : gSl (A 100) (A 101) r p) (ht : gSt (A 115) 0 t) (ht8 : t.length ≤ 8) (hsy : ∀ c ∈ p, gsy c) (hco : gco 0 p) {md : Int32} (hmd : gmd md = true) : gN false (d + 9) yX6_generates [.ref 99, .int (nI r), .int md, .int (nI t.length)] h (fun o h' => o = some (.int (gb (gMB p t md 0 0))) ∧ ∃ A' M' pv' tv', gP h0 h' A' E M' pv' tv' ∧ gFx A A' M M') := by
  have hl8 := hl.2.1
  refine gN.of MX6_generates (Nat.le_of_ble_eq_true rfl) (fun J n hJ => ?_)
  show J 0 [some (.ref 99), some (.int (nI r)), some (.int md), some (.int (nI t.length))] [] h (n, 0, 0, false)
  refine j_p (nx := 1) hJ dX6_generates_0 rfl rfl ?_
  refine j_p (nx := 2) hJ dX6_generates_1 rfl rfl ?_
  refine j_get (nx := 5) hJ dX6_generates_2 rfl fX6_15 hP.1.1 (by rfl) ?_
  refine j_c (nx := 7) hJ dX6_generates_5 rfl gk_bipush_8 ?_
  refine j_p (nx := 8) hJ dX6_generates_7 rfl rfl ?_
  refine j_p (nx := 9) hJ dX6_generates_8 rfl rfl ?_
  rw [show (8 : Int32) = nI 8 from rfl, gmul]
  refine j_p (nx := 10) hJ dX6_generates_9 rfl rfl ?_
  refine j_get (nx := 13) hJ dX6_generates_10 rfl fX6_19 hP.1.1 (by rfl) ?_
  refine j_p (nx := 14) hJ dX6_generates_13 rfl rfl ?_
  refine j_iald (j := r) (nx := 15) hJ dX6_generates_14 rfl (show h 101 = some (gia 6 (A 101)) from hP.a 101 (by unfold gia'; omega)) rfl (by omega) (by decide) ?_
  rw [hl.1]
  refine j_p (nx := 16) hJ dX6_generates_15 rfl rfl ?_
  refine j_get (nx := 19) hJ dX6_generates_16 rfl fX6_61 hP.1.1 (by rfl) ?_
  refine j_c (nx := 20) hJ dX6_generates_19 rfl gk_iconst_0 ?_
  refine j_p (nx := 21) hJ dX6_generates_20 rfl rfl ?_
  refine j_p (nx := 22) hJ dX6_generates_21 rfl rfl ?_
  refine j_c (nx := 23) hJ dX6_generates_22 rfl gk_iconst_1 ?_
  refine j_cv (nx := 26) hJ dX6_generates_23 rfl (r6_matchP (d := d) hP (pa := 100) (po := 8 * r) (ta := 115) (tq := 0) (p := p) (t := t) (by unfold gia'; omega) (by unfold gia'; omega) (by omega) (by omega) hl.2.2 ht (by show 8 * r + p.length ≤ 48; omega) (by show 0 + t.length ≤ 8; omega) hsy hmd (mst := 1) (by omega) (by omega)) mX6_217 hP.1.1 kX6_match rfl (gle8 rfl) (fun o h1 hp => ?_)
  obtain ⟨rfl, A2, M2, hP2, k1, k2, -⟩ := hp
  rw [gmin1s, ← gMB_sol hsy hco]
  refine j_c (nx := 27) hJ dX6_generates_26 rfl gk_iconst_1 ?_
  refine j_ic_ne (nx := 30) (tgt := 34) hJ dX6_generates_27 rfl (by decide) (fun c27 => ?_) (fun c27 => ?_)
  · refine j_c (nx := 35) hJ dX6_generates_34 rfl gk_iconst_0 ?_
    have e : gMB p t md 0 0 = false := Bool.eq_false_iff.mpr (fun q => c27 (gb1.mpr q))
    exact j_zret hJ false dX6_generates_35 rfl ⟨by rw [e], _, _, _, _, hP2, ⟨k1, k2⟩⟩
  · refine j_c (nx := 31) hJ dX6_generates_30 rfl gk_iconst_1 ?_
    refine j_go (tgt := 35) hJ dX6_generates_31 (by decide) ?_
    have e : gMB p t md 0 0 = true := gb1.mp c27
    exact j_zret hJ true dX6_generates_35 rfl ⟨by rw [e], _, _, _, _, hP2, ⟨k1, k2⟩⟩
